/-! what the check's state keeps to -/
def mo_D (μ : rd_Mem) : Prop := mo_cn μ ∧ (∀ n, mo_t μ n → mo_it μ n ∧ mo_po μ n) ∧ (∀ i : Int, 0 ≤ i → i < μ 1 0 → mo_t μ (μ 1 (1 + i))) ∧ (0 ≤ μ 1 11 ∧ μ 1 11 ≤ 8)
def mo_S (μ : rd_Mem) : Prop := (0 ≤ μ 1 35 ∧ μ 1 35 ≤ 40) ∧ (0 ≤ μ 1 31 ∧ μ 1 31 ≤ 9) ∧ (μ 1 29 = 1 → mo_t μ (μ 1 30)) ∧ ∀ k : Int, 0 ≤ k → k < μ 1 35 → 0 ≤ μ 1 (36 + 3 * k + 1) ∧ μ 1 (36 + 3 * k + 1) ≤ 9
def mo_I (μ : rd_Mem) : Prop := mo_D μ ∧ mo_S μ
theorem mo_I_at {μ : rd_Mem} (hI : mo_I μ) (h : μ 1 29 = 1) : mo_at μ (μ 1 30) := by
  have ht := hI.2.2.2.1 h
  exact ⟨ht.1, hI.1.2.1 _ ht⟩
theorem sp_ff_cl {p q : Int → Prop} {n : Nat} {a : Int} (h : ∀ i, a ≤ i → i < a + n → (p i ↔ q i)) : sp_ff p n a = sp_ff q n a := by
  induction n generalizing a with
  | zero => rfl
  | succ n ih =>
    simp only [sp_ff]
    rw [ih (fun i h0 h1 => h i (by omega) (by omega)), propext (h a (by omega) (by omega))]
theorem sp_nx_cl {o o' : Int → Int} {s s' : Int → Prop} {n : Nat} {a : Int} (h : ∀ i, a ≤ i → i < a + n → o i = o' i ∧ (s (o i) ↔ s' (o' i))) : sp_nx o s n a = sp_nx o' s' n a := by
  induction n generalizing a with
  | zero => rfl
  | succ n ih =>
    simp only [sp_nx]
    obtain ⟨h1, h2⟩ := h a (by omega) (by omega)
    rw [ih (fun i h0 h1 => h i (by omega) (by omega)), propext h2, h1]
section MOD
variable {μ ν : rd_Mem}
theorem mo_t_c (h : ∀ j : Int, 156 ≤ j → j < 476 → ν 1 j = μ 1 j) (n : Int) : mo_t ν n ↔ mo_t μ n := by
  unfold mo_t
  constructor
  · rintro ⟨h1, h2⟩; exact ⟨h1, by rw [← h2]; exact (h _ (by omega) (by omega)).symm⟩
  · rintro ⟨h1, h2⟩; exact ⟨h1, by rw [← h2]; exact h _ (by omega) (by omega)⟩
theorem mo_pl_c (h : ∀ j : Int, 0 ≤ j → j ≤ 10 → ν 1 j = μ 1 j) (hc : (0 ≤ μ 1 0 ∧ μ 1 0 ≤ 10)) (n : Int) : mo_pl ν n = mo_pl μ n := by
  unfold mo_pl
  rw [h 0 (by omega) (by omega)]
  refine sp_ff_cl (fun i h0 h1 => ?_)
  show ν 1 (1 + i) = n ↔ μ 1 (1 + i) = n
  rw [h _ (by omega) (by omega)]
theorem mo_nx_c (h : ∀ j : Int, (0 ≤ j ∧ j ≤ 10) ∨ (156 ≤ j ∧ j < 476) → ν 1 j = μ 1 j) (hc : mo_cn μ) {a : Int} (ha : 0 ≤ a) : mo_nx ν a = mo_nx μ a := by
  have hc1 := hc.1
  unfold mo_nx
  rw [h 0 (by omega)]
  refine sp_nx_cl (fun i h0 h1 => ?_)
  have h2 := hc.2 i (by omega) (by omega)
  have h3 := h (1 + i) (by omega)
  refine ⟨h3, ?_⟩
  show ν 1 (156 + 32 * (ν 1 (1 + i)) + 1) = 0 ↔ _
  rw [h3, h _ (by omega)]
theorem mo_D_c (h : ∀ j : Int, (0 ≤ j ∧ j < 28) ∨ (156 ≤ j ∧ j < 476) → ν 1 j = μ 1 j) (hD : mo_D μ) : mo_D ν := by
  obtain ⟨h1, h2, h3, h4⟩ := hD
  have hc1 := h1.1
  have e0 := h 0 (by omega)
  have ht := mo_t_c (μ := μ) (ν := ν) (fun j a b => h j (Or.inr ⟨a, b⟩))
  refine ⟨⟨by rw [e0]; exact h1.1, fun i i0 i1 => ?_⟩, fun n hn => ?_, fun i i0 i1 => ?_, by rw [h 11 (by omega)]; exact h4⟩
  · rw [e0] at i1; rw [h (1 + i) (by omega)]; exact h1.2 i i0 i1
  · have hn2 := (ht n).mp hn
    obtain ⟨g1, g2⟩ := h2 n hn2
    refine ⟨mo_it_c (fun j a b => h j (Or.inr ⟨a, b⟩)) hn.1.1 hn.1.2 g1, ?_⟩
    unfold mo_po
    rw [mo_pl_c (fun j a b => h j (Or.inl ⟨a, by omega⟩)) h1.1, e0]
    exact g2
  · rw [e0] at i1; rw [h (1 + i) (by omega)]; exact (ht _).mpr (h3 i i0 i1)
theorem mo_cm_s (h4 : 0 ≤ μ 1 35 ∧ μ 1 35 ≤ 40) (n s k : Int) : mo_cm μ n s k 1 30 = n ∧ mo_cm μ n s k 1 31 = s ∧ mo_cm μ n s k 1 34 = k ∧ mo_cm μ n s k 1 33 = 0 ∧ mo_cm μ n s k 1 35 = (if μ 1 35 = 40 then 40 else μ 1 35 + 1) ∧ (∀ j : Int, j ≠ 30 → j ≠ 31 → j ≠ 34 → j ≠ 33 → (j < 35 ∨ 156 ≤ j) → mo_cm μ n s k 1 j = μ 1 j) ∧ (∀ a, a ≠ 1 → mo_cm μ n s k a = μ a) := by
  unfold mo_cm
  by_cases h : μ 1 35 = 40
  · rw [if_pos h, if_pos h]
    have e : mo_sh μ 117 1 35 = 40 := by unfold mo_sh; rw [if_neg (by omega)]; exact h
    have e2 : ∀ j : Int, (j < 36 ∨ 156 ≤ j) → mo_sh μ 117 1 j = μ 1 j := fun j hj => by unfold mo_sh; rw [if_neg (by omega)]
    rw [e]
    unfold mo_mv
    refine ⟨by simp [rd_u], by simp [rd_u], by simp [rd_u], by simp [rd_u], by simp [rd_u], fun j h1 h2 h3 h5 h6 => ?_, fun a ha => ?_⟩
    · rw [← e2 j (by omega)]
      rw [rd_u_j _ _ _ h5, rd_u_j _ _ _ h3, rd_u_j _ _ _ h2, rd_u_j _ _ _ h1, rd_u_j _ _ _ (by omega), rd_u_j _ _ _ (by omega), rd_u_j _ _ _ (by omega), rd_u_j _ _ _ (by omega), rd_u_j _ _ _ (by omega)]
    · repeat rw [rd_u_ne _ _ _ ha]
      funext b; unfold mo_sh; rw [if_neg (fun h => ha h.1)]
  · rw [if_neg h, if_neg h, show μ 1 35 - 0 = μ 1 35 by omega]
    unfold mo_mv
    refine ⟨by simp [rd_u], by simp [rd_u], by simp [rd_u], by simp [rd_u], by simp [rd_u], fun j h1 h2 h3 h5 h6 => ?_, fun a ha => ?_⟩
    · rw [rd_u_j _ _ _ h5, rd_u_j _ _ _ h3, rd_u_j _ _ _ h2, rd_u_j _ _ _ h1, rd_u_j _ _ _ (by omega), rd_u_j _ _ _ (by omega), rd_u_j _ _ _ (by omega), rd_u_j _ _ _ (by omega), rd_u_j _ _ _ (by omega)]
    · repeat rw [rd_u_ne _ _ _ ha]
/-- the trail behind a move -/
theorem mo_cm_t (h4 : 0 ≤ μ 1 35 ∧ μ 1 35 ≤ 40) (n s k : Int) {q c : Int} (hq : 0 ≤ q) (hq2 : q < (if μ 1 35 = 40 then 40 else μ 1 35 + 1)) (hc : 0 ≤ c ∧ c ≤ 2) : mo_cm μ n s k 1 (36 + 3 * q + c) = (if q = (if μ 1 35 = 40 then 39 else μ 1 35) then (if c = 0 then μ 1 30 else if c = 1 then μ 1 31 else μ 1 34) else μ 1 (36 + 3 * (if μ 1 35 = 40 then q + 1 else q) + c)) := by
  have hc3 : c = 0 ∨ c = 1 ∨ c = 2 := by omega
  unfold mo_cm
  by_cases h : μ 1 35 = 40
  · simp only [if_pos h] at hq2 ⊢
    have e : mo_sh μ 117 1 35 = 40 := by unfold mo_sh; rw [if_neg (by omega)]; exact h
    have e2 : ∀ j : Int, j < 36 → mo_sh μ 117 1 j = μ 1 j := fun j hj => by unfold mo_sh; rw [if_neg (by omega)]
    rw [e]
    unfold mo_mv
    simp only [rd_u]
    rw [e2 30 (by omega), e2 31 (by omega), e2 34 (by omega)]
    unfold mo_sh
    rcases hc3 with rfl | rfl | rfl <;> grind
  · simp only [if_neg h] at hq2 ⊢
    rw [show μ 1 35 - 0 = μ 1 35 by omega]
    unfold mo_mv
    simp only [rd_u]
    rcases hc3 with rfl | rfl | rfl <;> grind
theorem mo_S_cm (hI : mo_I μ) {n s k : Int} (hn : mo_t μ n) (hs : 0 ≤ s ∧ s ≤ 9) : mo_I (mo_cm μ n s k) := by
  obtain ⟨hD, ⟨h4, h31, h29, htr⟩⟩ := hI
  obtain ⟨e30, e31, e34, e33, e35, eo, -⟩ := mo_cm_s h4 n s k
  refine ⟨mo_D_c (fun j hj => eo j (by omega) (by omega) (by omega) (by omega) (by omega)) hD, ?_, by rw [e31]; exact hs, fun _ => ?_, fun q q0 q1 => ?_⟩
  · rw [e35]; split <;> omega
  · rw [e30]; exact (mo_t_c (fun j a b => eo j (by omega) (by omega) (by omega) (by omega) (by omega)) n).mpr hn
  · rw [e35] at q1
    rw [mo_cm_t h4 n s k q0 q1 (by omega)]
    rw [if_neg (by decide : ¬ (1 : Int) = 0), if_pos rfl]
    by_cases h40 : μ 1 35 = 40
    · simp only [if_pos h40] at q1 ⊢
      by_cases hq : q = 39
      · rw [if_pos hq]; exact h31
      · rw [if_neg hq]; exact htr _ (by omega) (by omega)
    · simp only [if_neg h40] at q1 ⊢
      by_cases hq : q = μ 1 35
      · rw [if_pos hq]; exact h31
      · rw [if_neg hq]; exact htr _ (by omega) (by omega)
theorem mo_nx_t (hI : mo_D μ) {a : Int} (ha : 0 ≤ a) (h : mo_nx μ a ≠ -1) : mo_t μ (mo_nx μ a) := by
  unfold mo_nx at h ⊢
  rcases sp_nx_spec (fun i => μ 1 (1 + i)) (fun n => mo_o μ n 1 = 0) (μ 1 0 - a).toNat a with ⟨h1, -⟩ | ⟨k, ⟨h1, h2⟩, h3, -⟩
  · exact absurd h1 h
  · rw [h3]; exact hI.2.2.1 k (by omega) (by omega)
theorem mo_fw_I (hI : mo_I μ) (h : μ 1 29 = 1) (hf : mo_cf μ) : mo_I (mo_fw μ) ∧ mo_fw μ 1 29 = 1 := by
  have ha := mo_I_at hI h
  have hr := mo_FS_r ha.2.1
  have h4 := hI.2.1
  unfold mo_fw
  by_cases hc : μ 1 31 < mo_FS μ (μ 1 30)
  · rw [if_pos hc]
    exact ⟨mo_S_cm hI (hI.2.2.2.1 h) (by have := hI.2.2.1; omega), by rw [(mo_cm_s h4 _ _ _).2.2.2.2.2.1 29 (by omega) (by omega) (by omega) (by omega) (by omega)]; exact h⟩
  · rw [if_neg hc]
    exact ⟨mo_S_cm hI (mo_nx_t hI.1 (by have := ha.2.2.1; omega) (hf.resolve_left hc)) (by omega), by rw [(mo_cm_s h4 _ _ _).2.2.2.2.2.1 29 (by omega) (by omega) (by omega) (by omega) (by omega)]; exact h⟩
/-! seconds -/
def mo_t0 (μ : rd_Mem) : rd_Mem := rd_u (rd_u μ 1 32 (rd_w (μ 1 32 + 1))) 1 33 (rd_w (μ 1 33 + 1))
def mo_pz (μ : rd_Mem) : Prop := 0 < mo_o μ (μ 1 30) 2 ∧ mo_o μ (μ 1 30) 2 ≤ μ 1 33
def mo_mc (μ : rd_Mem) : Prop := ¬ mo_ov μ ∧ mo_pz μ ∧ mo_cf μ
noncomputable def mo_t1 (μ : rd_Mem) : rd_Mem := sp_ite (mo_mc (mo_t0 μ)) (mo_fw (mo_t0 μ)) (mo_t0 μ)
noncomputable def mo_n1 (μ : rd_Mem) : Int := sp_if (mo_mc (mo_t0 μ)) 1 0
noncomputable def mo_ps : Nat → rd_Mem → rd_Mem
  | 0, μ => μ
  | n + 1, μ => sp_ite (mo_ov μ) μ (mo_ps n (mo_t1 μ))
noncomputable def mo_pn : Nat → rd_Mem → Int
  | 0, _ => 0
  | n + 1, μ => sp_if (mo_ov μ) 0 (mo_n1 μ + mo_pn n (mo_t1 μ))
theorem mo_ps_n {n : Nat} (h0 : 0 < n) (h : ¬ mo_ov μ) : mo_ps n μ = mo_ps (n - 1) (mo_t1 μ) := by
  obtain ⟨m, rfl⟩ : ∃ m, n = m + 1 := ⟨n - 1, by omega⟩
  show sp_ite _ _ _ = _
  rw [sp_ite_f h]; rfl
theorem mo_pn_n {n : Nat} (h0 : 0 < n) (h : ¬ mo_ov μ) : mo_pn n μ = mo_n1 μ + mo_pn (n - 1) (mo_t1 μ) := by
  obtain ⟨m, rfl⟩ : ∃ m, n = m + 1 := ⟨n - 1, by omega⟩
  show sp_if _ _ _ = _
  rw [sp_iff h]; rfl
theorem mo_ps_y {n : Nat} (h : n = 0 ∨ mo_ov μ) : mo_ps n μ = μ ∧ mo_pn n μ = 0 := by
  cases n with
  | zero => exact ⟨rfl, rfl⟩
  | succ m =>
    rcases h with h | h
    · cases h
    · exact ⟨by show sp_ite _ _ _ = _; rw [sp_ite_t h], by show sp_if _ _ _ = _; rw [sp_ift h]⟩
theorem mo_t0_s (j : Int) (h2 : j ≠ 32) (h3 : j ≠ 33) : mo_t0 μ 1 j = μ 1 j := by unfold mo_t0; rw [rd_u_j _ _ _ h3, rd_u_j _ _ _ h2]
theorem mo_t0_I (hI : mo_I μ) (h : μ 1 29 = 1) : mo_I (mo_t0 μ) ∧ mo_t0 μ 1 29 = 1 := by
  obtain ⟨hD, ⟨h4, h31, h29, htr⟩⟩ := hI
  have e : ∀ j : Int, j ≠ 32 → j ≠ 33 → mo_t0 μ 1 j = μ 1 j := mo_t0_s
  refine ⟨⟨mo_D_c (fun j hj => e j (by omega) (by omega)) hD, by rw [e 35 (by omega) (by omega)]; exact h4, by rw [e 31 (by omega) (by omega)]; exact h31, fun _ => ?_, fun q q0 q1 => ?_⟩, by rw [e 29 (by omega) (by omega)]; exact h⟩
  · rw [e 30 (by omega) (by omega)]; exact (mo_t_c (fun j a b => e j (by omega) (by omega)) _).mpr (h29 h)
  · rw [e 35 (by omega) (by omega)] at q1; rw [e _ (by omega) (by omega)]; exact htr q q0 q1
theorem mo_t1_I (hI : mo_I μ) (h : μ 1 29 = 1) : mo_I (mo_t1 μ) ∧ mo_t1 μ 1 29 = 1 := by
  obtain ⟨g1, g2⟩ := mo_t0_I hI h
  unfold mo_t1
  by_cases hm : mo_mc (mo_t0 μ)
  · rw [sp_ite_t hm]; exact mo_fw_I g1 g2 hm.2.2
  · rw [sp_ite_f hm]; exact ⟨g1, g2⟩
theorem mo_ps_I (n : Nat) : ∀ {μ : rd_Mem}, mo_I μ → μ 1 29 = 1 → mo_I (mo_ps n μ) ∧ mo_ps n μ 1 29 = 1 := by
  induction n with
  | zero => intro μ hI h; exact ⟨hI, h⟩
  | succ n ih =>
    intro μ hI h
    by_cases ho : mo_ov μ
    · rw [(mo_ps_y (Or.inr ho)).1]; exact ⟨hI, h⟩
    · rw [mo_ps_n (Nat.succ_pos n) ho]
      obtain ⟨g1, g2⟩ := mo_t1_I hI h
      exact ih g1 g2
theorem mo_pn_r (n : Nat) : ∀ (μ : rd_Mem), 0 ≤ mo_pn n μ ∧ mo_pn n μ ≤ n := by
  induction n with
  | zero => intro μ; exact ⟨Int.le_refl 0, Int.le_refl 0⟩
  | succ n ih =>
    intro μ
    by_cases ho : mo_ov μ
    · rw [(mo_ps_y (Or.inr ho)).2]; omega
    · rw [mo_pn_n (Nat.succ_pos n) ho]
      have := ih (mo_t1 μ)
      simp only [Nat.succ_sub_one, Nat.add_sub_cancel]
      unfold mo_n1
      by_cases hm : mo_mc (mo_t0 μ)
      · rw [sp_ift hm]; omega
      · rw [sp_iff hm]; omega
end MOD
set_option maxHeartbeats 4000000 in
set_option maxRecDepth 100000 in
theorem c_X10_ticks {l : Launch} {G : rd_G} {r : Nat} {μ : rd_Mem} {q0 : Int} (hI0 : mo_I μ) (h290 : μ 1 29 = 1) : rd_M l G rd_km 5 r yX10_ticks cX10_ticks 5 (some .int) (rd_rm 5 106) [rd_R 0, rd_I q0] μ (fun v μ' => v = some (rd_I (mo_pn q0.toNat μ)) ∧ μ' = mo_ps q0.toNat μ) := by
  refine rd_enter (by decide +kernel) (Nat.le_of_ble_eq_true rfl) [rd_R 0, rd_I q0, rd_J, rd_J, rd_J] rfl (fun p e s m args below meth c C => ?_)
  refine rd_W.rng (fun hM hL _ => ?_)
  have hq1 : rd_ok q0 := hL (rd_I q0) (List.mem_of_getElem? (i := 1) rfl)
  refine rd_iconst C dX10_ticks_0 (n := 0) ⟨by decide, by decide⟩ ?_
  refine rd_istore_n C dX10_ticks_1 (by decide) (L' := [rd_R 0, rd_I q0, rd_I 0, rd_J, rd_J]) rfl ?_
  refine rd_iconst C dX10_ticks_2 (n := 0) ⟨by decide, by decide⟩ ?_
  refine rd_istore_n C dX10_ticks_3 (by decide) (L' := [rd_R 0, rd_I q0, rd_I 0, rd_I 0, rd_J]) rfl ?_
  have lp4 : ∀ (n : Nat) (n' : Nat) (x k : Int) (μ1 : rd_Mem) (j4 : rd_X), (n' < n) → (0 ≤ k) → (n' = (q0 - k).toNat) → (0 ≤ x ∧ x ≤ k) → (mo_I μ1) → (μ1 1 29 = 1) → (mo_ps n' μ1 = mo_ps q0.toNat μ) → (x + mo_pn n' μ1 = mo_pn q0.toNat μ) → rd_W p l e (rd_rm 5 106) s m args below meth c (MQ below (rd_Qc G rd_km 5 r (fun v μ' => v = some (rd_I (mo_pn q0.toNat μ)) ∧ μ' = mo_ps q0.toNat μ)) args s 0 0 (rd_A r 5)) 5 G rd_km 5 r 4 [rd_R 0, rd_I q0, rd_I x, rd_I k, j4] [] μ1 := by
    intro n
    induction n with
    | zero => intro n' x k μ1 j4  h1 h2 h3 hx hI h29 hA hB; exfalso; omega
    | succ n ih =>
      intro n' x k μ1 j4  h1 h2 h3 hx hI h29 hA hB
      refine rd_iload_n C dX10_ticks_4 rfl ?_
      refine rd_iload_n C dX10_ticks_5 rfl ?_
      refine rd_icmp_ge C dX10_ticks_6 (tgt := 97) (by decide) (fun h_6 => ?_) (fun h_6 => ?_)
      · refine rd_iload_n C dX10_ticks_97 rfl ?_
        exact rd_iret C dX10_ticks_98 (by obtain ⟨g1, g2⟩ := mo_ps_y (n := n') (μ := μ1) (Or.inl (by omega)); exact ⟨by rw [← hB, g2, show x + 0 = x by omega], by rw [← hA, g1]⟩)
      · refine rd_aload_n C dX10_ticks_9 rfl ?_
        refine rd_callV C (c_X10_isOver) rm_X10_44 ri_X10_isOver rs_X10_isOver rc_X10_isOver rz_X10 ⟨rp_X10_isOver, rfl, rfl, by decide, by decide⟩ rfl rd_kcl10 dX10_ticks_10 rd_c0 rd_m0 rfl (Nat.le_of_ble_eq_true rfl) (fun v1 w1 hq => ?_)
        rcases hq with ⟨hw_13, hv1, hm1⟩ | ⟨hw_13, hv1, hm1⟩
        · rw [hv1, hm1]; clear hv1 hm1 v1 w1
          refine rd_if_ne C dX10_ticks_13 (tgt := 97) (by decide) (fun _ => ?_) (fun h => absurd h (by decide))
          refine rd_iload_n C dX10_ticks_97 rfl ?_
          exact rd_iret C dX10_ticks_98 (by obtain ⟨g1, g2⟩ := mo_ps_y (n := n') (μ := μ1) (Or.inr hw_13); exact ⟨by rw [← hB, g2, show x + 0 = x by omega], by rw [← hA, g1]⟩)
        · rw [hv1, hm1]; clear hv1 hm1 v1 w1
          refine rd_if_ne C dX10_ticks_13 (tgt := 97) (by decide) (fun h => absurd h (by decide)) (fun _ => ?_)
          refine rd_aload_n C dX10_ticks_16 rfl ?_
          refine rd_get C rd_g10_0 rf_X10_7 dX10_ticks_17 rd_c0 rd_m0 (x := rd_R (1)) rfl (fun _ => trivial) ?_
          refine rd_bipush C dX10_ticks_20 (n := 32) (by decide) ⟨by decide, by decide⟩ ?_
          refine rd_dup2 C dX10_ticks_22 ?_
          refine rd_ialdx C rd_ai18 dX10_ticks_23 rd_c1 rd_m1 ⟨by omega, by omega⟩ (z := μ1 1 32) rfl ?_
          refine rd_iconst C dX10_ticks_24 (n := 1) ⟨by decide, by decide⟩ ?_
          refine rd_iaddw C dX10_ticks_25 ?_
          refine rd_iast C rd_ai18 dX10_ticks_26 rd_c1 rd_m1 ⟨by omega, by omega⟩ ?_
          refine rd_aload_n C dX10_ticks_27 rfl ?_
          refine rd_get C rd_g10_0 rf_X10_7 dX10_ticks_28 rd_c0 rd_m0 (x := rd_R (1)) rfl (fun _ => trivial) ?_
          refine rd_bipush C dX10_ticks_31 (n := 33) (by decide) ⟨by decide, by decide⟩ ?_
          refine rd_dup2 C dX10_ticks_33 ?_
          refine rd_ialdx C rd_ai18 dX10_ticks_34 rd_c1 rd_m1 ⟨by omega, by omega⟩ (z := μ1 1 33) (by rw [rd_u_j _ _ _ (by omega)]) ?_
          refine rd_iconst C dX10_ticks_35 (n := 1) ⟨by decide, by decide⟩ ?_
          refine rd_iaddw C dX10_ticks_36 ?_
          refine rd_iast C rd_ai18 dX10_ticks_37 rd_c1 rd_m1 ⟨by omega, by omega⟩ ?_
          obtain ⟨ht0, ht9⟩ := mo_t0_I hI h29
          have hat := mo_I_at ht0 ht9
          show rd_W p l e _ s m args below meth c _ _ G rd_km 5 r _ _ _ (mo_t0 μ1)
          refine rd_aload_n C dX10_ticks_38 rfl ?_
          refine rd_aload_n C dX10_ticks_39 rfl ?_
          refine rd_get C rd_g10_0 rf_X10_7 dX10_ticks_40 rd_c0 rd_m0 (x := rd_R (1)) rfl (fun _ => trivial) ?_
          refine rd_bipush C dX10_ticks_43 (n := 30) (by decide) ⟨by decide, by decide⟩ ?_
          refine rd_ialdx C rd_ai18 dX10_ticks_45 rd_c1 rd_m1 ⟨by omega, by omega⟩ (z := (mo_t0 μ1) 1 30) rfl ?_
          refine rd_iconst C dX10_ticks_46 (n := 2) ⟨by decide, by decide⟩ ?_
          refine rd_callV C (c_X10_of (i := (mo_t0 μ1) 1 30) (q := 2) hat.1 ⟨by omega, by omega⟩) rm_X10_26 ri_X10_of rs_X10_of rc_X10_of rz_X10 ⟨rp_X10_of, rfl, rfl, by decide, by decide⟩ rfl rd_kcl10 dX10_ticks_47 rd_c0 rd_m0 rfl (Nat.le_of_ble_eq_true rfl) (fun v1 w1 hq => ?_)
          obtain ⟨hv1, hm1⟩ := hq; rw [show v1 = some (rd_I (mo_o (mo_t0 μ1) ((mo_t0 μ1) 1 30) 2)) from hv1, hm1]; clear hv1 hm1
          refine rd_istore C dX10_ticks_50 (by decide) (L' := [rd_R 0, rd_I q0, rd_I x, rd_I k, rd_I (mo_o (mo_t0 μ1) ((mo_t0 μ1) 1 30) 2)]) rfl ?_
          refine rd_aload_n C dX10_ticks_52 rfl ?_
          refine rd_callV C (c_X10_isOver) rm_X10_44 ri_X10_isOver rs_X10_isOver rc_X10_isOver rz_X10 ⟨rp_X10_isOver, rfl, rfl, by decide, by decide⟩ rfl rd_kcl10 dX10_ticks_53 rd_c0 rd_m0 rfl (Nat.le_of_ble_eq_true rfl) (fun v1 w1 hq => ?_)
          rcases hq with ⟨hw_56, hv1, hm1⟩ | ⟨hw_56, hv1, hm1⟩
          · rw [hv1, hm1]; clear hv1 hm1 v1 w1
            refine rd_if_ne C dX10_ticks_56 (tgt := 91) (by decide) (fun _ => ?_) (fun h => absurd h (by decide))
            have hmv : ¬ mo_mc (mo_t0 μ1) := fun h => by first | exact h.1 hw_56 | (have h61 := h.2.1.1; have h73 := h.2.1.2; omega) | exact hw_80 h.2.2
            refine rd_iinc C dX10_ticks_91 (by decide) rfl ⟨by omega, by omega⟩ (L' := [rd_R 0, rd_I q0, rd_I x, rd_I (k + 1), rd_I (mo_o (mo_t0 μ1) ((mo_t0 μ1) 1 30) 2)]) rfl ?_
            refine rd_goto C dX10_ticks_94 (tgt := 4) (by decide) ?_
            exact ih (n' - 1) _ (k + 1) _ _ (by omega) (by omega) (by omega) (by omega) ht0 ht9 (by rw [← hA, mo_ps_n (n := n') (by omega) hw_13, mo_t1, sp_ite_f hmv]) (by rw [← hB, mo_pn_n (n := n') (by omega) hw_13, mo_t1, mo_n1, sp_ite_f hmv, sp_iff hmv]; omega)
          · rw [hv1, hm1]; clear hv1 hm1 v1 w1
            refine rd_if_ne C dX10_ticks_56 (tgt := 91) (by decide) (fun h => absurd h (by decide)) (fun _ => ?_)
            refine rd_iload C dX10_ticks_59 rfl ?_
            refine rd_if_le C dX10_ticks_61 (tgt := 91) (by decide) (fun h_61 => ?_) (fun h_61 => ?_)
            · have hmv : ¬ mo_mc (mo_t0 μ1) := fun h => by first | exact h.1 hw_56 | (have h61 := h.2.1.1; have h73 := h.2.1.2; omega) | exact hw_80 h.2.2
              refine rd_iinc C dX10_ticks_91 (by decide) rfl ⟨by omega, by omega⟩ (L' := [rd_R 0, rd_I q0, rd_I x, rd_I (k + 1), rd_I (mo_o (mo_t0 μ1) ((mo_t0 μ1) 1 30) 2)]) rfl ?_
              refine rd_goto C dX10_ticks_94 (tgt := 4) (by decide) ?_
              exact ih (n' - 1) _ (k + 1) _ _ (by omega) (by omega) (by omega) (by omega) ht0 ht9 (by rw [← hA, mo_ps_n (n := n') (by omega) hw_13, mo_t1, sp_ite_f hmv]) (by rw [← hB, mo_pn_n (n := n') (by omega) hw_13, mo_t1, mo_n1, sp_ite_f hmv, sp_iff hmv]; omega)
            · refine rd_aload_n C dX10_ticks_64 rfl ?_
              refine rd_get C rd_g10_0 rf_X10_7 dX10_ticks_65 rd_c0 rd_m0 (x := rd_R (1)) rfl (fun _ => trivial) ?_
              refine rd_bipush C dX10_ticks_68 (n := 33) (by decide) ⟨by decide, by decide⟩ ?_
              refine rd_ialdx C rd_ai18 dX10_ticks_70 rd_c1 rd_m1 ⟨by omega, by omega⟩ (z := (mo_t0 μ1) 1 33) rfl ?_
              refine rd_iload C dX10_ticks_71 rfl ?_
              refine rd_icmp_lt C dX10_ticks_73 (tgt := 91) (by decide) (fun h_73 => ?_) (fun h_73 => ?_)
              · have hmv : ¬ mo_mc (mo_t0 μ1) := fun h => by first | exact h.1 hw_56 | (have h61 := h.2.1.1; have h73 := h.2.1.2; omega) | exact hw_80 h.2.2
                refine rd_iinc C dX10_ticks_91 (by decide) rfl ⟨by omega, by omega⟩ (L' := [rd_R 0, rd_I q0, rd_I x, rd_I (k + 1), rd_I (mo_o (mo_t0 μ1) ((mo_t0 μ1) 1 30) 2)]) rfl ?_
                refine rd_goto C dX10_ticks_94 (tgt := 4) (by decide) ?_
                exact ih (n' - 1) _ (k + 1) _ _ (by omega) (by omega) (by omega) (by omega) ht0 ht9 (by rw [← hA, mo_ps_n (n := n') (by omega) hw_13, mo_t1, sp_ite_f hmv]) (by rw [← hB, mo_pn_n (n := n') (by omega) hw_13, mo_t1, mo_n1, sp_ite_f hmv, sp_iff hmv]; omega)
              · refine rd_aload_n C dX10_ticks_76 rfl ?_
                refine rd_callV C (c_X10_canForward ht0.1.1 hat) rm_X10_62 ri_X10_canForward rs_X10_canForward rc_X10_canForward rz_X10 ⟨rp_X10_canForward, rfl, rfl, by decide, by decide⟩ rfl rd_kcl10 dX10_ticks_77 rd_c0 rd_m0 rfl (Nat.le_of_ble_eq_true rfl) (fun v1 w1 hq => ?_)
                rcases hq with ⟨hw_80, hv1, hm1⟩ | ⟨hw_80, hv1, hm1⟩
                · rw [hv1, hm1]; clear hv1 hm1 v1 w1
                  refine rd_if_eq C dX10_ticks_80 (tgt := 91) (by decide) (fun h => absurd h (by decide)) (fun _ => ?_)
                  refine rd_aload_n C dX10_ticks_83 rfl ?_
                  refine rd_callV C (c_X10_forwards ht0.1.1 hat ht0.2.1 ht0.2.2.1 hw_80) rm_X10_65 ri_X10_forwards rs_X10_forwards rc_X10_forwards rz_X10 ⟨rp_X10_forwards, rfl, rfl, by decide, by decide⟩ rfl rd_kcl10 dX10_ticks_84 rd_c0 rd_m0 rfl (Nat.le_of_ble_eq_true rfl) (fun v1 w1 hq => ?_)
                  obtain ⟨hv1, hm1⟩ := hq; rw [show v1 = some (rd_I (mo_fw (mo_t0 μ1) 1 31)) from hv1, show w1 = mo_fw (mo_t0 μ1) from hm1]; clear hv1 hm1
                  refine rd_pop C dX10_ticks_87 ?_
                  refine rd_iinc C dX10_ticks_88 (by decide) rfl ⟨by omega, by omega⟩ (L' := [rd_R 0, rd_I q0, rd_I (x + 1), rd_I k, rd_I (mo_o (mo_t0 μ1) ((mo_t0 μ1) 1 30) 2)]) rfl ?_
                  have hmv : mo_mc (mo_t0 μ1) := ⟨hw_56, ⟨by omega, by omega⟩, hw_80⟩
                  refine rd_iinc C dX10_ticks_91 (by decide) rfl ⟨by omega, by omega⟩ (L' := [rd_R 0, rd_I q0, rd_I (x + 1), rd_I (k + 1), rd_I (mo_o (mo_t0 μ1) ((mo_t0 μ1) 1 30) 2)]) rfl ?_
                  refine rd_goto C dX10_ticks_94 (tgt := 4) (by decide) ?_
                  exact ih (n' - 1) _ (k + 1) _ _ (by omega) (by omega) (by omega) (by omega) (mo_fw_I ht0 ht9 hw_80).1 (mo_fw_I ht0 ht9 hw_80).2 (by rw [← hA, mo_ps_n (n := n') (by omega) hw_13, mo_t1, sp_ite_t hmv]) (by rw [← hB, mo_pn_n (n := n') (by omega) hw_13, mo_t1, mo_n1, sp_ite_t hmv, sp_ift hmv]; omega)
                · rw [hv1, hm1]; clear hv1 hm1 v1 w1
                  refine rd_if_eq C dX10_ticks_80 (tgt := 91) (by decide) (fun _ => ?_) (fun h => absurd h (by decide))
                  have hmv : ¬ mo_mc (mo_t0 μ1) := fun h => by first | exact h.1 hw_56 | (have h61 := h.2.1.1; have h73 := h.2.1.2; omega) | exact hw_80 h.2.2
                  refine rd_iinc C dX10_ticks_91 (by decide) rfl ⟨by omega, by omega⟩ (L' := [rd_R 0, rd_I q0, rd_I x, rd_I (k + 1), rd_I (mo_o (mo_t0 μ1) ((mo_t0 μ1) 1 30) 2)]) rfl ?_
                  refine rd_goto C dX10_ticks_94 (tgt := 4) (by decide) ?_
                  exact ih (n' - 1) _ (k + 1) _ _ (by omega) (by omega) (by omega) (by omega) ht0 ht9 (by rw [← hA, mo_ps_n (n := n') (by omega) hw_13, mo_t1, sp_ite_f hmv]) (by rw [← hB, mo_pn_n (n := n') (by omega) hw_13, mo_t1, mo_n1, sp_ite_f hmv, sp_iff hmv]; omega)
  exact lp4 (q0.toNat + 1) q0.toNat 0 0 _ _ (by omega) (by omega) (by omega) (by omega) hI0 h290 rfl (by omega)
