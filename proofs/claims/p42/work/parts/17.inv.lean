theorem sp_pow (n : Nat) : (2 : Int) ^ (n + 1) = 2 ^ n + 2 ^ n := by rw [Int.pow_succ]; omega
theorem sp_mask_r (f l : Int → Int) (st : Int) (n : Nat) : 0 ≤ sp_mask f l st n ∧ sp_mask f l st n < 2 ^ n := by
  induction n with
  | zero => simp [sp_mask]
  | succ n ih =>
    unfold sp_mask
    have h2 : (2 : Int) ^ (n + 1) = 2 ^ n + 2 ^ n := by rw [Int.pow_succ]; omega
    by_cases h : sp_seen f l n st
    · rw [sp_ift h]; omega
    · rw [sp_iff h]; omega
theorem sp_shl {k : Nat} (h : k < 6) : rd_i 1 <<< (rd_i (k : Int) &&& 31) = rd_i (2 ^ k) := by
  have : k = 0 ∨ k = 1 ∨ k = 2 ∨ k = 3 ∨ k = 4 ∨ k = 5 := by omega
  rcases this with rfl | rfl | rfl | rfl | rfl | rfl <;> decide
theorem sp_or0 : ∀ k : Fin 6, ∀ x : Fin 64, x.val < 2 ^ k.val → rd_i (x.val : Int) ||| rd_i (2 ^ k.val) = rd_i ((x.val : Int) + 2 ^ k.val) := by decide +kernel
theorem sp_or {k : Nat} {x : Int} (h : k < 6) (h0 : 0 ≤ x) (h1 : x < 2 ^ k) : rd_i x ||| rd_i (2 ^ k) = rd_i (x + 2 ^ k) := by
  have h2 : (2 : Int) ^ k ≤ 64 := by
    have : k = 0 ∨ k = 1 ∨ k = 2 ∨ k = 3 ∨ k = 4 ∨ k = 5 := by omega
    rcases this with rfl | rfl | rfl | rfl | rfl | rfl <;> decide
  have e : x = ((x.toNat : Nat) : Int) := by omega
  have h3 : x.toNat < 64 := by omega
  have h4 : x.toNat < 2 ^ k := by
    have : ((x.toNat : Nat) : Int) < ((2 ^ k : Nat) : Int) := by rw [← e]; simpa using h1
    exact_mod_cast this
  have := sp_or0 ⟨k, h⟩ ⟨x.toNat, h3⟩ h4
  simp only at this
  rw [← e] at this
  exact this
theorem sp_two {k : Nat} (h : k < 6) : (0 : Int) < 2 ^ k ∧ (2 : Int) ^ k ≤ 32 := by
  have : k = 0 ∨ k = 1 ∨ k = 2 ∨ k = 3 ∨ k = 4 ∨ k = 5 := by omega
  rcases this with rfl | rfl | rfl | rfl | rfl | rfl <;> decide
theorem sp_tags_r (f l t : Int → Int) (st : Int) (n : Nat) (h : ∀ q : Nat, q < n → 0 ≤ t q ∧ t q ≤ 99) : 0 ≤ sp_tags f l t st n ∧ sp_tags f l t st n ≤ 99 * n := by
  induction n with
  | zero => simp [sp_tags]
  | succ n ih =>
    have h1 := ih (fun q hq => h q (by omega))
    have h2 := h n (by omega)
    unfold sp_tags
    by_cases h3 : sp_seen f l n st
    · rw [sp_ift h3]; omega
    · rw [sp_iff h3]; omega
set_option maxHeartbeats 4000000 in
set_option maxRecDepth 100000 in
theorem c_X7_maskAt {l : Launch} {G : rd_G} {r : Nat} {μ : rd_Mem} {o : Int} (hS : rd_isS rd_kc 313 o) {t0 : Int} (h0 : 0 ≤ μ o 3) (h6 : μ o 3 ≤ 6) : rd_M l G rd_kc 313 r yX7_maskAt cX7_maskAt 4 (some .int) (rd_rm 1 22) [rd_R o, rd_I t0] μ (fun v μ' => v = some (rd_I (sp_mask (μ (o + 1)) (μ (o + 2)) t0 (μ o 3).toNat)) ∧ μ' = μ) := by
  refine rd_enter (by decide +kernel) (Nat.le_of_ble_eq_true rfl) [rd_R o, rd_I t0, rd_J, rd_J] rfl (fun p e s m args below meth c C => ?_)
  refine rd_W.rng (fun hM hL _ => ?_)
  refine rd_iconst C dX7_maskAt_0 (n := 0) ⟨by decide, by decide⟩ ?_
  refine rd_istore_n C dX7_maskAt_1 (by decide) (L' := [rd_R o, rd_I t0, rd_I 0, rd_J]) rfl ?_
  refine rd_iconst C dX7_maskAt_2 (n := 0) ⟨by decide, by decide⟩ ?_
  refine rd_istore_n C dX7_maskAt_3 (by decide) (L' := [rd_R o, rd_I t0, rd_I 0, rd_I 0]) rfl ?_
  have lp4 : ∀ (n : Nat) (k : Nat) (x c3 : Int), ((k : Int) ≤ μ o 3) → (μ o 3 < k + n) → (x = sp_mask (μ (o + 1)) (μ (o + 2)) t0 k) → (0 ≤ x ∧ x < 2 ^ k) → (c3 = (k : Int)) → rd_W p l e (rd_rm 1 22) s m args below meth c (MQ below (rd_Qc G rd_kc 313 r (fun v μ' => v = some (rd_I (sp_mask (μ (o + 1)) (μ (o + 2)) t0 (μ o 3).toNat)) ∧ μ' = μ)) args s 0 0 (rd_A r 313)) 4 G rd_kc 313 r 4 [rd_R o, rd_I t0, rd_I x, rd_I c3] [] μ := by
    intro n
    induction n with
    | zero => intro k x c3  h2 h3 hx hx2 hc; exfalso; omega
    | succ n ih =>
      intro k x c3  h2 h3 hx hx2 hc
      refine rd_iload_n C dX7_maskAt_4 rfl ?_
      refine rd_aload_n C dX7_maskAt_5 rfl ?_
      refine rd_get C rd_g7_3 rf_X7_35 dX7_maskAt_6 hS.1 hS.2.2.2.2.2.1 (x := rd_I (μ o 3)) rfl (fun h => h _ _) ?_
      refine rd_icmp_ge C dX7_maskAt_9 (tgt := 33) (by decide) (fun h_9 => ?_) (fun h_9 => ?_)
      · refine rd_iload_n C dX7_maskAt_33 rfl ?_
        exact rd_iret C dX7_maskAt_34 ⟨by rw [hx, show k = (μ o 3).toNat by omega], rfl⟩
      · refine rd_aload_n C dX7_maskAt_12 rfl ?_
        refine rd_iload_n C dX7_maskAt_13 rfl ?_
        refine rd_iload_n C dX7_maskAt_14 rfl ?_
        refine rd_callV C (c_X7_isSeen hS (by omega) (by omega)) rm_X7_54 ri_X7_isSeen rs_X7_isSeen rc_X7_isSeen rz_X7 ⟨rp_X7_isSeen, rfl, rfl, by decide, by decide⟩ rfl rd_kcl7 dX7_maskAt_15 hS.1 hS.2.2.2.2.2.1 rfl (Nat.le_of_ble_eq_true rfl) (fun v1 w1 hq => ?_)
        rcases hq with ⟨hw_18, hv1, hm1⟩ | ⟨hw_18, hv1, hm1⟩
        · rw [hv1, hm1]; clear hv1 hm1 v1 w1
          refine rd_if_eq C dX7_maskAt_18 (tgt := 27) (by decide) (fun h => absurd h (by decide)) (fun _ => ?_)
          refine rd_iload_n C dX7_maskAt_21 rfl ?_
          refine rd_iconst C dX7_maskAt_22 (n := 1) ⟨by decide, by decide⟩ ?_
          refine rd_iload_n C dX7_maskAt_23 rfl ?_
          refine rd_ishl C dX7_maskAt_24 (z := 2 ^ k) (by rw [hc]; exact sp_shl (by omega)) (by have := sp_two (k := k) (by omega); exact ⟨by omega, by omega⟩) ?_
          refine rd_ior C dX7_maskAt_25 (z := x + 2 ^ k) (sp_or (by omega) (by omega) (by omega)) (by have := sp_two (k := k) (by omega); exact ⟨by omega, by omega⟩) ?_
          refine rd_istore_n C dX7_maskAt_26 (by decide) (L' := [rd_R o, rd_I t0, rd_I (x + 2 ^ k), rd_I c3]) rfl ?_
          refine rd_iinc C dX7_maskAt_27 (by decide) rfl ⟨by omega, by omega⟩ (L' := [rd_R o, rd_I t0, rd_I (x + 2 ^ k), rd_I (c3 + 1)]) rfl ?_
          refine rd_goto C dX7_maskAt_30 (tgt := 4) (by decide) ?_
          exact ih (k + 1) _ _ (by omega) (by omega) (by simp only [sp_mask]; rw [hx, sp_ift (by rw [← hc]; exact hw_18)]) (by rw [sp_pow]; omega) (by omega)
        · rw [hv1, hm1]; clear hv1 hm1 v1 w1
          refine rd_if_eq C dX7_maskAt_18 (tgt := 27) (by decide) (fun _ => ?_) (fun h => absurd h (by decide))
          refine rd_iinc C dX7_maskAt_27 (by decide) rfl ⟨by omega, by omega⟩ (L' := [rd_R o, rd_I t0, rd_I x, rd_I (c3 + 1)]) rfl ?_
          refine rd_goto C dX7_maskAt_30 (tgt := 4) (by decide) ?_
          exact ih (k + 1) _ _ (by omega) (by omega) (by simp only [sp_mask]; rw [hx, sp_iff (by rw [← hc]; exact hw_18)]; omega) (by rw [sp_pow]; omega) (by omega)
  exact lp4 ((μ o 3).toNat + 1) 0 _ _ (by omega) (by omega) rfl (by decide) rfl
set_option maxHeartbeats 4000000 in
set_option maxRecDepth 100000 in
theorem c_X7_sumTagsAt {l : Launch} {G : rd_G} {r : Nat} {μ : rd_Mem} {o : Int} (hS : rd_isS rd_kc 313 o) {t0 : Int} (h0 : 0 ≤ μ o 3) (h6 : μ o 3 ≤ 6) (htg : ∀ q : Int, 0 ≤ q → q < μ o 3 → 0 ≤ μ (o + 3) q ∧ μ (o + 3) q ≤ 99) : rd_M l G rd_kc 313 r yX7_sumTagsAt cX7_sumTagsAt 4 (some .int) (rd_rm 1 22) [rd_R o, rd_I t0] μ (fun v μ' => v = some (rd_I (sp_tags (μ (o + 1)) (μ (o + 2)) (μ (o + 3)) t0 (μ o 3).toNat)) ∧ μ' = μ) := by
  refine rd_enter (by decide +kernel) (Nat.le_of_ble_eq_true rfl) [rd_R o, rd_I t0, rd_J, rd_J] rfl (fun p e s m args below meth c C => ?_)
  refine rd_W.rng (fun hM hL _ => ?_)
  refine rd_iconst C dX7_sumTagsAt_0 (n := 0) ⟨by decide, by decide⟩ ?_
  refine rd_istore_n C dX7_sumTagsAt_1 (by decide) (L' := [rd_R o, rd_I t0, rd_I 0, rd_J]) rfl ?_
  refine rd_iconst C dX7_sumTagsAt_2 (n := 0) ⟨by decide, by decide⟩ ?_
  refine rd_istore_n C dX7_sumTagsAt_3 (by decide) (L' := [rd_R o, rd_I t0, rd_I 0, rd_I 0]) rfl ?_
  have lp4 : ∀ (n : Nat) (k : Nat) (x c3 : Int), ((k : Int) ≤ μ o 3) → (μ o 3 < k + n) → (x = sp_tags (μ (o + 1)) (μ (o + 2)) (μ (o + 3)) t0 k) → (0 ≤ x ∧ x ≤ 99 * k) → (c3 = (k : Int)) → rd_W p l e (rd_rm 1 22) s m args below meth c (MQ below (rd_Qc G rd_kc 313 r (fun v μ' => v = some (rd_I (sp_tags (μ (o + 1)) (μ (o + 2)) (μ (o + 3)) t0 (μ o 3).toNat)) ∧ μ' = μ)) args s 0 0 (rd_A r 313)) 4 G rd_kc 313 r 4 [rd_R o, rd_I t0, rd_I x, rd_I c3] [] μ := by
    intro n
    induction n with
    | zero => intro k x c3  h2 h3 hx hx2 hc; exfalso; omega
    | succ n ih =>
      intro k x c3  h2 h3 hx hx2 hc
      refine rd_iload_n C dX7_sumTagsAt_4 rfl ?_
      refine rd_aload_n C dX7_sumTagsAt_5 rfl ?_
      refine rd_get C rd_g7_3 rf_X7_35 dX7_sumTagsAt_6 hS.1 hS.2.2.2.2.2.1 (x := rd_I (μ o 3)) rfl (fun h => h _ _) ?_
      refine rd_icmp_ge C dX7_sumTagsAt_9 (tgt := 36) (by decide) (fun h_9 => ?_) (fun h_9 => ?_)
      · refine rd_iload_n C dX7_sumTagsAt_36 rfl ?_
        exact rd_iret C dX7_sumTagsAt_37 ⟨by rw [hx, show k = (μ o 3).toNat by omega], rfl⟩
      · refine rd_aload_n C dX7_sumTagsAt_12 rfl ?_
        refine rd_iload_n C dX7_sumTagsAt_13 rfl ?_
        refine rd_iload_n C dX7_sumTagsAt_14 rfl ?_
        refine rd_callV C (c_X7_isSeen hS (by omega) (by omega)) rm_X7_54 ri_X7_isSeen rs_X7_isSeen rc_X7_isSeen rz_X7 ⟨rp_X7_isSeen, rfl, rfl, by decide, by decide⟩ rfl rd_kcl7 dX7_sumTagsAt_15 hS.1 hS.2.2.2.2.2.1 rfl (Nat.le_of_ble_eq_true rfl) (fun v1 w1 hq => ?_)
        rcases hq with ⟨hw_18, hv1, hm1⟩ | ⟨hw_18, hv1, hm1⟩
        · rw [hv1, hm1]; clear hv1 hm1 v1 w1
          refine rd_if_eq C dX7_sumTagsAt_18 (tgt := 30) (by decide) (fun h => absurd h (by decide)) (fun _ => ?_)
          refine rd_iload_n C dX7_sumTagsAt_21 rfl ?_
          refine rd_aload_n C dX7_sumTagsAt_22 rfl ?_
          refine rd_get C rd_g7_6 rf_X7_18 dX7_sumTagsAt_23 hS.1 hS.2.2.2.2.2.1 (x := rd_R (o + 3)) rfl (fun _ => trivial) ?_
          refine rd_iload_n C dX7_sumTagsAt_26 rfl ?_
          refine rd_ialdx C rd_ai12 dX7_sumTagsAt_27 hS.2.2.2.1 hS.2.2.2.2.2.2.2.2.1 ⟨by omega, by omega⟩ (z := μ (o + 3) c3) rfl ?_
          have ht := htg c3 (by omega) (by omega)
          refine rd_iadd C dX7_sumTagsAt_28 (z := x + (μ (o + 3) c3)) rfl ⟨by omega, by omega⟩ ?_
          refine rd_istore_n C dX7_sumTagsAt_29 (by decide) (L' := [rd_R o, rd_I t0, rd_I (x + (μ (o + 3) c3)), rd_I c3]) rfl ?_
          refine rd_iinc C dX7_sumTagsAt_30 (by decide) rfl ⟨by omega, by omega⟩ (L' := [rd_R o, rd_I t0, rd_I (x + (μ (o + 3) c3)), rd_I (c3 + 1)]) rfl ?_
          refine rd_goto C dX7_sumTagsAt_33 (tgt := 4) (by decide) ?_
          exact ih (k + 1) _ _ (by omega) (by omega) (by simp only [sp_tags]; rw [hx, sp_ift (by rw [← hc]; exact hw_18), hc]) (by omega) (by omega)
        · rw [hv1, hm1]; clear hv1 hm1 v1 w1
          refine rd_if_eq C dX7_sumTagsAt_18 (tgt := 30) (by decide) (fun _ => ?_) (fun h => absurd h (by decide))
          refine rd_iinc C dX7_sumTagsAt_30 (by decide) rfl ⟨by omega, by omega⟩ (L' := [rd_R o, rd_I t0, rd_I x, rd_I (c3 + 1)]) rfl ?_
          refine rd_goto C dX7_sumTagsAt_33 (tgt := 4) (by decide) ?_
          exact ih (k + 1) _ _ (by omega) (by omega) (by simp only [sp_tags]; rw [hx, sp_iff (by rw [← hc]; exact hw_18)]; omega) (by omega) (by omega)
  exact lp4 ((μ o 3).toNat + 1) 0 _ _ (by omega) (by omega) rfl (by decide) rfl
/-- what the public walks ask -/
def sp_po (μ : rd_Mem) : Prop := ∀ n : Int, sp_th μ n → 0 ≤ sp_pl μ n ∧ sp_pl μ n < μ 2 0
def sp_tgs (μ : rd_Mem) : Prop := ∀ i : Int, 0 ≤ i → i < 10 → ∀ q : Int, 0 ≤ q → q < μ (5 + 5 * i) 3 → 0 ≤ μ (5 + 5 * i + 3) q ∧ μ (5 + 5 * i + 3) q ≤ 99
def sp_room (μ : rd_Mem) : Prop := ∀ i : Int, 0 ≤ i → i < 10 → μ (5 + 5 * i) 0 = 0 → μ 2 0 < 10
def sp_hi (μ : rd_Mem) : Prop := sp_hp μ ∧ (0 ≤ μ 62 0 ∧ μ 62 0 ≤ 4) ∧ ∀ t : Int, 0 ≤ t → t < μ 62 0 → sp_b01 μ (64 + 61 * μ 63 t)
def sp_tx (μ : rd_Mem) : Prop := (0 ≤ μ 308 0 ∧ μ 308 0 ≤ 60) ∧ sp_chs μ
def sp_nt (μ : rd_Mem) : Prop := 0 ≤ μ 55 0 ∧ μ 55 0 ≤ 8
def sp_inv (μ : rd_Mem) : Prop := sp_wf μ ∧ sp_b01 μ 1 ∧ sp_hi μ ∧ sp_tx μ ∧ sp_nt μ ∧ sp_po μ ∧ sp_tgs μ ∧ sp_room μ
theorem rd_kp_lo {ν : rd_Mem} (hx : 0 ≤ ν 63 (ν 62 0) ∧ ν 63 (ν 62 0) ≤ 3) {a : Int} (h : a < 62 ∨ 308 ≤ a) : rd_kp ν a = ν a := by
  unfold rd_kp
  rw [rd_u_ne _ _ _ (by omega), rd_bcr_out _ _ (by omega)]
theorem rd_keep_lo {μ : rd_Mem} (hh : sp_hi μ) {a : Int} (h : a < 62 ∨ 308 ≤ a) : rd_keep μ a = μ a := by
  obtain ⟨hp, ⟨h0, h4⟩, -⟩ := hh
  unfold rd_keep
  by_cases hc : μ 62 0 = 4
  · rw [if_pos hc]
    obtain ⟨g1, g2, g3⟩ := rd_hdo_r (μ := μ)
    rw [rd_kp_lo (by rw [g1, g2]; exact hp 0 (by omega) (by omega)) h, g3 _ (by omega) (by omega)]
  · rw [if_neg hc]
    exact rd_kp_lo (hp _ (by omega) (by omega)) h
section RDK
variable {μ ν : rd_Mem}
theorem sp_sh_c (h : ∀ a, a < 55 → ν a = μ a) : sp_sh ν = sp_sh μ := by
  funext n
  apply propext
  unfold sp_sh
  constructor
  · rintro ⟨h1, h2⟩
    have h3 := (sp_th_c h n).mp h1
    exact ⟨h3, by rw [← h _ (by have := h3.1.2; omega)]; exact h2⟩
  · rintro ⟨h1, h2⟩
    exact ⟨(sp_th_c h n).mpr h1, by rw [h _ (by have := h1.1.2; omega)]; exact h2⟩
theorem sp_pl_c (h : ∀ a, a < 55 → ν a = μ a) (x : Int) : sp_pl ν x = sp_pl μ x := by
  unfold sp_pl; rw [h _ (by omega), h _ (by omega)]
theorem sp_next_c (h : ∀ a, a < 55 → ν a = μ a) (a : Int) : sp_next ν a = sp_next μ a := by
  unfold sp_next; rw [h _ (by omega), h _ (by omega), sp_sh_c h]
theorem sp_nn_c (h : ∀ a, a < 62 → ν a = μ a) (hn : μ 58 0 < 10) : sp_nn ν = sp_nn μ := by
  have h' : ∀ a, a < 55 → ν a = μ a := fun a ha => h a (by omega)
  unfold sp_nn; rw [h _ (by omega), sp_FS_c h' hn, sp_pl_c h', sp_next_c h']
theorem sp_bpp_c (h : ∀ a, a < 62 → ν a = μ a) : sp_bpp ν = sp_bpp μ := by
  funext i
  have h' : ∀ a, a < 55 → ν a = μ a := fun a ha => h a (by omega)
  apply propext
  unfold sp_bpp
  rw [h _ (by omega), h _ (by omega), sp_th_c h']
  constructor
  · rintro ⟨h1, h2⟩; refine ⟨h1, ?_⟩; rw [h _ (by have := h1.1.2; omega)] at h2; exact h2
  · rintro ⟨h1, h2⟩; refine ⟨h1, ?_⟩; rw [h _ (by have := h1.1.2; omega)]; exact h2
theorem sp_bp_c (h : ∀ a, a < 62 → ν a = μ a) : sp_bp ν = sp_bp μ := by
  unfold sp_bp; rw [sp_bpp_c h, h _ (by omega)]
theorem sp_tg_c (h : ∀ a, a < 62 → ν a = μ a) (hn : μ 58 0 < 10) (q : Int) : sp_tg ν q = sp_tg μ q := by
  unfold sp_tg; rw [h 58 (by omega), h _ (by omega)]
theorem sp_over_c (h : ∀ a, a < 62 → ν a = μ a) : sp_over ν ↔ sp_over μ := by
  unfold sp_over; rw [h _ (by omega), h _ (by omega)]
theorem sp_can_c (h : ∀ a, a < 62 → ν a = μ a) (c q : Int) : sp_can ν c q ↔ sp_can μ c q := by
  have h' : ∀ a, a < 55 → ν a = μ a := fun a ha => h a (by omega)
  unfold sp_can
  rw [h 58 (by omega), sp_th_c h', sp_over_c h, sp_bp_c h]
  constructor
  · rintro ⟨h1, h2, h3, h4, h5⟩
    rw [sp_nn_c h h1.1.2] at h3
    rw [sp_tg_c h h1.1.2] at h5
    exact ⟨h1, h2, h3, h4, h5⟩
  · rintro ⟨h1, h2, h3, h4, h5⟩
    rw [← sp_nn_c h h1.1.2] at h3
    rw [← sp_tg_c h h1.1.2] at h5
    exact ⟨h1, h2, h3, h4, h5⟩
theorem sp_wf_k (hI : sp_inv μ) (h : ∀ a, a < 62 → ν a = μ a) : sp_wf ν :=
  sp_wf_c (fun a ha => h a (by omega)) hI.1 (by rw [h _ (by omega)]; exact hI.1.2.2.2.1) (by rw [h _ (by omega)]; exact hI.1.2.2.2.2)
theorem sp_cnt_k (hI : sp_inv μ) (h : ∀ a, a < 62 → ν a = μ a) : sp_cnt ν := (sp_wf_k hI h).1
end RDK

