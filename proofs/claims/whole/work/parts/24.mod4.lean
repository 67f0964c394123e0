theorem mo_sv_lo {μ : rd_Mem} (h : 0 ≤ μ 0 1 ∧ μ 0 1 ≤ 4) {j : Int} (hj : 0 ≤ j ∧ j < 476) : mo_sv μ 1 j = μ 1 j := by
  unfold mo_sv
  by_cases h4 : μ 0 1 = 4
  · rw [if_pos h4]
    have e : mo_sf μ 4 0 1 = 4 := by unfold mo_sf; rw [if_neg (by omega)]; exact h4
    rw [e]
    unfold mo_cp
    rw [if_neg (by omega), rd_u_k _ _ _ (by omega)]
    unfold mo_sf
    rw [if_neg (by omega)]
  · rw [if_neg h4]
    unfold mo_cp
    rw [if_neg (by omega), rd_u_k _ _ _ (by omega)]
theorem mo_S_c {μ ν : rd_Mem} (h : ∀ j : Int, 28 ≤ j ∧ j < 476 → ν 1 j = μ 1 j) (hS : mo_S μ) : mo_S ν := by
  obtain ⟨h4, h31, h29, htr⟩ := hS
  refine ⟨by rw [h 35 (by omega)]; exact h4, by rw [h 31 (by omega)]; exact h31, fun h9 => ?_, fun k k0 k1 => ?_⟩
  · rw [h 30 (by omega)]; exact (mo_t_c (fun j a b => h j (by omega)) _).mpr (h29 (by rw [← h 29 (by omega)]; exact h9))
  · rw [h 35 (by omega)] at k1; rw [h _ (by omega)]; exact htr k k0 k1
theorem mo_sv_I {μ : rd_Mem} (h : 0 ≤ μ 0 1 ∧ μ 0 1 ≤ 4) (hI : mo_I μ) : mo_I (mo_sv μ) :=
  ⟨mo_D_c (fun j hj => mo_sv_lo h (by omega)) hI.1, mo_S_c (fun j hj => mo_sv_lo h (by omega)) hI.2⟩
theorem mo_sv_t {μ : rd_Mem} (h : 0 ≤ μ 0 1 ∧ μ 0 1 ≤ 4) {n : Int} : mo_t (mo_sv μ) n ↔ mo_t μ n := mo_t_c (fun j a b => mo_sv_lo h (by omega)) n
def mo_tk (ν : rd_Mem) (p k : Int) : rd_Mem := fun a b => if a = 1 ∧ b = 0 then ν 1 0 - 1 else if a = 1 ∧ (1 + p ≤ b ∧ b < 1 + k) then ν 1 (b + 1) else ν a b
def mo_to (ν : rd_Mem) (p : Int) : rd_Mem := mo_tk ν p (ν 1 0 - 1)
set_option maxHeartbeats 4000000 in
set_option maxRecDepth 100000 in
theorem c_X10_takesOut {l : Launch} {G : rd_G} {r : Nat} {μ : rd_Mem} {x : Int} (hc : mo_cn μ) (hp : mo_po μ x) : rd_M l G rd_km 5 r yX10_takesOut cX10_takesOut 4 (some .int) (rd_rm 1 22) [rd_R 0, rd_I x] μ (fun v μ' => v = some (rd_I (mo_pl μ x)) ∧ μ' = mo_to μ (mo_pl μ x)) := by
  refine rd_enter (by decide +kernel) (Nat.le_of_ble_eq_true rfl) [rd_R 0, rd_I x, rd_J, rd_J] rfl (fun p e s m args below meth c C => ?_)
  refine rd_W.rng (fun hM hL _ => ?_)
  have hc1 := hc.1.1
  have hc2 := hc.1.2
  have hp1 := hp.1
  have hp2 := hp.2
  refine rd_aload_n C dX10_takesOut_0 rfl ?_
  refine rd_iload_n C dX10_takesOut_1 rfl ?_
  refine rd_callV C (c_X10_placeOf hc hp) rm_X10_37 ri_X10_placeOf rs_X10_placeOf rc_X10_placeOf rz_X10 ⟨rp_X10_placeOf, rfl, rfl, by decide, by decide⟩ rfl rd_kcl10 dX10_takesOut_2 rd_c0 rd_m0 rfl (Nat.le_of_ble_eq_true rfl) (fun v1 w1 hq => ?_)
  obtain ⟨hv1, hm1⟩ := hq; rw [show v1 = some (rd_I (mo_pl μ x)) from hv1, hm1]; clear hv1 hm1
  refine rd_istore_n C dX10_takesOut_5 (by decide) (L' := [rd_R 0, rd_I x, rd_I (mo_pl μ x), rd_J]) rfl ?_
  refine rd_aload_n C dX10_takesOut_6 rfl ?_
  refine rd_get C rd_g10_0 rf_X10_7 dX10_takesOut_7 rd_c0 rd_m0 (x := rd_R (1)) rfl (fun _ => trivial) ?_
  refine rd_iconst C dX10_takesOut_10 (n := 0) ⟨by decide, by decide⟩ ?_
  refine rd_dup2 C dX10_takesOut_11 ?_
  refine rd_ialdx C rd_ai18 dX10_takesOut_12 rd_c1 rd_m1 ⟨by omega, by omega⟩ (z := μ 1 0) rfl ?_
  refine rd_iconst C dX10_takesOut_13 (n := 1) ⟨by decide, by decide⟩ ?_
  refine rd_isub C dX10_takesOut_14 (z := μ 1 0 - 1) rfl ⟨by omega, by omega⟩ ?_
  refine rd_iast C rd_ai18 dX10_takesOut_15 rd_c1 rd_m1 ⟨by omega, by omega⟩ ?_
  refine rd_iload_n C dX10_takesOut_16 rfl ?_
  refine rd_istore_n C dX10_takesOut_17 (by decide) (L' := [rd_R 0, rd_I x, rd_I (mo_pl μ x), rd_I (mo_pl μ x)]) rfl ?_
  have lp18 : ∀ (n : Nat) (k : Int) (μ1 : rd_Mem), (mo_pl μ x ≤ k) → (k ≤ μ 1 0 - 1) → (μ 1 0 - 1 < k + n) → (μ1 = mo_tk μ (mo_pl μ x) k) → rd_W p l e (rd_rm 1 22) s m args below meth c (MQ below (rd_Qc G rd_km 5 r (fun v μ' => v = some (rd_I (mo_pl μ x)) ∧ μ' = mo_to μ (mo_pl μ x))) args s 0 0 (rd_A r 5)) 4 G rd_km 5 r 18 [rd_R 0, rd_I x, rd_I (mo_pl μ x), rd_I k] [] μ1 := by
    intro n
    induction n with
    | zero => intro k μ1  h1 h2 h3 hm; exfalso; omega
    | succ n ih =>
      intro k μ1  h1 h2 h3 hm
      have hc3 : μ1 1 0 = μ 1 0 - 1 := by rw [hm]; simp [mo_tk]
      refine rd_iload_n C dX10_takesOut_18 rfl ?_
      refine rd_aload_n C dX10_takesOut_19 rfl ?_
      refine rd_get C rd_g10_0 rf_X10_7 dX10_takesOut_20 rd_c0 rd_m0 (x := rd_R (1)) rfl (fun _ => trivial) ?_
      refine rd_iconst C dX10_takesOut_23 (n := 0) ⟨by decide, by decide⟩ ?_
      refine rd_ialdx C rd_ai18 dX10_takesOut_24 rd_c1 rd_m1 ⟨by omega, by omega⟩ (z := μ1 1 0) rfl ?_
      refine rd_icmp_ge C dX10_takesOut_25 (tgt := 52) (by decide) (fun h_25 => ?_) (fun h_25 => ?_)
      · refine rd_iload_n C dX10_takesOut_52 rfl ?_
        exact rd_iret C dX10_takesOut_53 ⟨rfl, by rw [hm, show k = μ 1 0 - 1 by omega]; rfl⟩
      · refine rd_aload_n C dX10_takesOut_28 rfl ?_
        refine rd_get C rd_g10_0 rf_X10_7 dX10_takesOut_29 rd_c0 rd_m0 (x := rd_R (1)) rfl (fun _ => trivial) ?_
        refine rd_iconst C dX10_takesOut_32 (n := 1) ⟨by decide, by decide⟩ ?_
        refine rd_iload_n C dX10_takesOut_33 rfl ?_
        refine rd_iadd C dX10_takesOut_34 (z := 1 + k) rfl ⟨by omega, by omega⟩ ?_
        refine rd_aload_n C dX10_takesOut_35 rfl ?_
        refine rd_get C rd_g10_0 rf_X10_7 dX10_takesOut_36 rd_c0 rd_m0 (x := rd_R (1)) rfl (fun _ => trivial) ?_
        refine rd_iconst C dX10_takesOut_39 (n := 1) ⟨by decide, by decide⟩ ?_
        refine rd_iload_n C dX10_takesOut_40 rfl ?_
        refine rd_iadd C dX10_takesOut_41 (z := 1 + k) rfl ⟨by omega, by omega⟩ ?_
        refine rd_iconst C dX10_takesOut_42 (n := 1) ⟨by decide, by decide⟩ ?_
        refine rd_iadd C dX10_takesOut_43 (z := 1 + k + 1) rfl ⟨by omega, by omega⟩ ?_
        refine rd_ialdx C rd_ai18 dX10_takesOut_44 rd_c1 rd_m1 ⟨by omega, by omega⟩ (z := μ1 1 (1 + k + 1)) rfl ?_
        refine rd_iast C rd_ai18 dX10_takesOut_45 rd_c1 rd_m1 ⟨by omega, by omega⟩ ?_
        refine rd_iinc C dX10_takesOut_46 (by decide) rfl ⟨by omega, by omega⟩ (L' := [rd_R 0, rd_I x, rd_I (mo_pl μ x), rd_I (k + 1)]) rfl ?_
        refine rd_goto C dX10_takesOut_49 (tgt := 18) (by decide) ?_
        exact ih (k + 1) _ (by omega) (by omega) (by omega) (by rw [hm]; funext a b; simp only [rd_u, mo_tk]; (repeat' split) <;> first | rfl | (exfalso; omega) | grind)
  exact lp18 (μ 1 0).toNat (mo_pl μ x) _ (by omega) (by omega) (by omega) (by funext a b; simp only [rd_u, mo_tk]; (repeat' split) <;> first | rfl | (exfalso; omega) | grind)
noncomputable def mo_np (μ : rd_Mem) (s : Int) : Int := sp_ff (fun i => μ 1 (12 + 2 * i) = s) (μ 1 11).toNat 0
theorem mo_np_r {μ : rd_Mem} (h : 0 ≤ μ 1 11) (s : Int) : mo_np μ s = -1 ∨ (0 ≤ mo_np μ s ∧ mo_np μ s < μ 1 11) := by
  unfold mo_np
  rcases sp_ff_spec (fun i => μ 1 (12 + 2 * i) = s) (μ 1 11).toNat 0 with ⟨h1, -⟩ | ⟨h1, -⟩
  · exact Or.inl h1
  · exact Or.inr ⟨by omega, by omega⟩
set_option maxHeartbeats 4000000 in
set_option maxRecDepth 100000 in
theorem c_X10_notePlace {l : Launch} {G : rd_G} {r : Nat} {μ : rd_Mem} {x : Int} (hn : 0 ≤ μ 1 11 ∧ μ 1 11 ≤ 8) : rd_M l G rd_km 5 r yX10_notePlace cX10_notePlace 3 (some .int) (rd_rm 0 0) [rd_R 0, rd_I x] μ (fun v μ' => v = some (rd_I (mo_z (mo_np μ x))) ∧ μ' = μ) := by
  refine rd_enter (by decide +kernel) (Nat.le_of_ble_eq_true rfl) [rd_R 0, rd_I x, rd_J] rfl (fun p e s m args below meth c C => ?_)
  refine rd_W.rng (fun hM hL _ => ?_)
  refine rd_iconst C dX10_notePlace_0 (n := 0) ⟨by decide, by decide⟩ ?_
  refine rd_istore_n C dX10_notePlace_1 (by decide) (L' := [rd_R 0, rd_I x, rd_I 0]) rfl ?_
  have lp2 : ∀ (n : Nat) (n' : Nat) (k : Int), (n' < n) → (0 ≤ k) → (k + n' = μ 1 11) → (sp_ff (fun i => μ 1 (12 + 2 * i) = x) n' k = mo_np μ x) → rd_W p l e (rd_rm 0 0) s m args below meth c (MQ below (rd_Qc G rd_km 5 r (fun v μ' => v = some (rd_I (mo_z (mo_np μ x))) ∧ μ' = μ)) args s 0 0 (rd_A r 5)) 3 G rd_km 5 r 2 [rd_R 0, rd_I x, rd_I k] [] μ := by
    intro n
    induction n with
    | zero => intro n' k  h1 h2 h3 hF; exfalso; omega
    | succ n ih =>
      intro n' k  h1 h2 h3 hF
      refine rd_iload_n C dX10_notePlace_2 rfl ?_
      refine rd_aload_n C dX10_notePlace_3 rfl ?_
      refine rd_get C rd_g10_0 rf_X10_7 dX10_notePlace_4 rd_c0 rd_m0 (x := rd_R (1)) rfl (fun _ => trivial) ?_
      refine rd_bipush C dX10_notePlace_7 (n := 11) (by decide) ⟨by decide, by decide⟩ ?_
      refine rd_ialdx C rd_ai18 dX10_notePlace_9 rd_c1 rd_m1 ⟨by omega, by omega⟩ (z := μ 1 11) rfl ?_
      refine rd_icmp_ge C dX10_notePlace_10 (tgt := 36) (by decide) (fun h_10 => ?_) (fun h_10 => ?_)
      · refine rd_bipush C dX10_notePlace_36 (n := -6) (by decide) ⟨by decide, by decide⟩ ?_
        exact rd_iret C dX10_notePlace_38 ⟨by rw [← hF, show n' = 0 by omega]; rfl, rfl⟩
      · refine rd_aload_n C dX10_notePlace_13 rfl ?_
        refine rd_get C rd_g10_0 rf_X10_7 dX10_notePlace_14 rd_c0 rd_m0 (x := rd_R (1)) rfl (fun _ => trivial) ?_
        refine rd_bipush C dX10_notePlace_17 (n := 12) (by decide) ⟨by decide, by decide⟩ ?_
        refine rd_iconst C dX10_notePlace_19 (n := 2) ⟨by decide, by decide⟩ ?_
        refine rd_iload_n C dX10_notePlace_20 rfl ?_
        refine rd_imul C dX10_notePlace_21 (z := 2 * k) rfl ⟨by omega, by omega⟩ ?_
        refine rd_iadd C dX10_notePlace_22 (z := 12 + 2 * k) rfl ⟨by omega, by omega⟩ ?_
        refine rd_ialdx C rd_ai18 dX10_notePlace_23 rd_c1 rd_m1 ⟨by omega, by omega⟩ (z := μ 1 (12 + 2 * k)) rfl ?_
        refine rd_iload_n C dX10_notePlace_24 rfl ?_
        refine rd_icmp_ne C dX10_notePlace_25 (tgt := 30) (by decide) (fun h_25 => ?_) (fun h_25 => ?_)
        · refine rd_iinc C dX10_notePlace_30 (by decide) rfl ⟨by omega, by omega⟩ (L' := [rd_R 0, rd_I x, rd_I (k + 1)]) rfl ?_
          refine rd_goto C dX10_notePlace_33 (tgt := 2) (by decide) ?_
          exact ih (n' - 1) (k + 1) (by omega) (by omega) (by omega) (by rw [← hF, sp_ff_f (n := n') (a := k) (by omega) h_25])
        · refine rd_iload_n C dX10_notePlace_28 rfl ?_
          exact rd_iret C dX10_notePlace_29 ⟨by rw [← hF, sp_ff_t (n := n') (a := k) (by omega) h_25, mo_z_ne (by omega)], rfl⟩
  exact lp2 ((μ 1 11).toNat + 1) (μ 1 11).toNat 0 (by omega) (by omega) (by omega) rfl
noncomputable def mo_fr (μ : rd_Mem) : Int := sp_ff (fun i => mo_o μ i 0 ≠ 1) 10 0
def mo_lr (ν : rd_Mem) (x k : Int) : rd_Mem := fun a b => if a = 1 ∧ (156 + 32 * x ≤ b ∧ b < 156 + 32 * x + k) then (if b < 156 + 32 * x + 22 then 0 else -6) else ν a b
def mo_ad (ν : rd_Mem) (x : Int) : rd_Mem := rd_u (rd_u (rd_u (mo_lr ν x 32) 1 (156 + 32 * x + 0) 1) 1 (1 + mo_lr ν x 32 1 0) x) 1 0 (mo_lr ν x 32 1 0 + 1)
set_option maxHeartbeats 4000000 in
set_option maxRecDepth 100000 in
theorem c_X10_addSlide {l : Launch} {G : rd_G} {r : Nat} {μ : rd_Mem} (hI : mo_I μ) (hst : 0 ≤ μ 0 1 ∧ μ 0 1 ≤ 4) (hfr : mo_fr (mo_sv μ) ≠ -1) : rd_M l G rd_km 5 r yX10_addSlide cX10_addSlide 3 (some .int) (rd_rm 2 44) [rd_R 0] μ (fun v μ' => (μ 1 0 = 10 ∧ v = some (rd_I (-4)) ∧ μ' = μ) ∨ (μ 1 0 ≠ 10 ∧ v = some (rd_I (mo_fr (mo_sv μ))) ∧ μ' = mo_ad (mo_sv μ) (mo_fr (mo_sv μ)))) := by
  refine rd_enter (by decide +kernel) (Nat.le_of_ble_eq_true rfl) [rd_R 0, rd_J, rd_J] rfl (fun p e s m args below meth c C => ?_)
  refine rd_W.rng (fun hM hL _ => ?_)
  have hc := hI.1.1
  have hc1 := hc.1.1
  have hc2 := hc.1.2
  have hn1 := hI.1.2.2.2.1
  have hn2 := hI.1.2.2.2.2
  refine rd_aload_n C dX10_addSlide_0 rfl ?_
  refine rd_get C rd_g10_0 rf_X10_7 dX10_addSlide_1 rd_c0 rd_m0 (x := rd_R (1)) rfl (fun _ => trivial) ?_
  refine rd_iconst C dX10_addSlide_4 (n := 0) ⟨by decide, by decide⟩ ?_
  refine rd_ialdx C rd_ai18 dX10_addSlide_5 rd_c1 rd_m1 ⟨by omega, by omega⟩ (z := μ 1 0) rfl ?_
  refine rd_bipush C dX10_addSlide_6 (n := 10) (by decide) ⟨by decide, by decide⟩ ?_
  refine rd_icmp_ne C dX10_addSlide_8 (tgt := 14) (by decide) (fun h_8 => ?_) (fun h_8 => ?_)
  · refine rd_aload_n C dX10_addSlide_14 rfl ?_
    refine rd_callV C (c_X10_save hst) rm_X10_76 ri_X10_save rs_X10_save rc_X10_save rz_X10 ⟨rp_X10_save, rfl, rfl, by decide, by decide⟩ rfl rd_kcl10 dX10_addSlide_15 rd_c0 rd_m0 rfl (Nat.le_of_ble_eq_true rfl) (fun v1 w1 hq => ?_)
    obtain ⟨hv1, hm1⟩ := hq; rw [hv1, show w1 = mo_sv μ from hm1]; clear hv1 hm1
    have hIs := mo_sv_I hst hI
    have hcs := hIs.1.1
    have hcs1 := hcs.1.1
    have hcs2 := hcs.1.2
    have hns1 := hIs.1.2.2.2.1
    have hns2 := hIs.1.2.2.2.2
    refine rd_iconst C dX10_addSlide_18 (n := 0) ⟨by decide, by decide⟩ ?_
    refine rd_istore_n C dX10_addSlide_19 (by decide) (L' := [rd_R 0, rd_I 0, rd_J]) rfl ?_
    have lp20 : ∀ (n : Nat) (n' : Nat) (k : Int) (j2 : rd_X), (n' < n) → (0 ≤ k) → (k + n' = 10) → (sp_ff (fun i => mo_o (mo_sv μ) i 0 ≠ 1) n' k = mo_fr (mo_sv μ)) → rd_W p l e (rd_rm 2 44) s m args below meth c (MQ below (rd_Qc G rd_km 5 r (fun v μ' => (μ 1 0 = 10 ∧ v = some (rd_I (-4)) ∧ μ' = μ) ∨ (μ 1 0 ≠ 10 ∧ v = some (rd_I (mo_fr (mo_sv μ))) ∧ μ' = mo_ad (mo_sv μ) (mo_fr (mo_sv μ))))) args s 0 0 (rd_A r 5)) 3 G rd_km 5 r 20 [rd_R 0, rd_I k, j2] [] (mo_sv μ) := by
      intro n
      induction n with
      | zero => intro n' k j2  h1 h2 h3 hF; exfalso; omega
      | succ n ih =>
        intro n' k j2  h1 h2 h3 hF
        have hn0 : 0 < n' := by
          rcases Nat.eq_zero_or_pos n' with h | h
          · subst h; exact absurd hF.symm hfr
          · exact h
        refine rd_aload_n C dX10_addSlide_20 rfl ?_
        refine rd_iload_n C dX10_addSlide_21 rfl ?_
        refine rd_iconst C dX10_addSlide_22 (n := 0) ⟨by decide, by decide⟩ ?_
        refine rd_callV C (c_X10_of (i := k) (q := 0) ⟨by omega, by omega⟩ ⟨by omega, by omega⟩) rm_X10_26 ri_X10_of rs_X10_of rc_X10_of rz_X10 ⟨rp_X10_of, rfl, rfl, by decide, by decide⟩ rfl rd_kcl10 dX10_addSlide_23 rd_c0 rd_m0 rfl (Nat.le_of_ble_eq_true rfl) (fun v1 w1 hq => ?_)
        obtain ⟨hv1, hm1⟩ := hq; rw [show v1 = some (rd_I (mo_o (mo_sv μ) k 0)) from hv1, hm1]; clear hv1 hm1
        refine rd_iconst C dX10_addSlide_26 (n := 1) ⟨by decide, by decide⟩ ?_
        refine rd_icmp_ne C dX10_addSlide_27 (tgt := 36) (by decide) (fun h_27 => ?_) (fun h_27 => ?_)
        · refine rd_iconst C dX10_addSlide_36 (n := 0) ⟨by decide, by decide⟩ ?_
          refine rd_istore_n C dX10_addSlide_37 (by decide) (L' := [rd_R 0, rd_I k, rd_I 0]) rfl ?_
          have lp38 : ∀ (n : Nat) (i : Int) (μ1 : rd_Mem), (0 ≤ i) → (i ≤ 32) → (32 < i + n) → (μ1 = mo_lr (mo_sv μ) k i) → rd_W p l e (rd_rm 2 44) s m args below meth c (MQ below (rd_Qc G rd_km 5 r (fun v μ' => (μ 1 0 = 10 ∧ v = some (rd_I (-4)) ∧ μ' = μ) ∨ (μ 1 0 ≠ 10 ∧ v = some (rd_I (mo_fr (mo_sv μ))) ∧ μ' = mo_ad (mo_sv μ) (mo_fr (mo_sv μ))))) args s 0 0 (rd_A r 5)) 3 G rd_km 5 r 38 [rd_R 0, rd_I k, rd_I i] [] μ1 := by
            intro n
            induction n with
            | zero => intro i μ1  g1 g2 g3 hm; exfalso; omega
            | succ n ih =>
              intro i μ1  g1 g2 g3 hm
              have hr0 : μ1 1 0 = mo_sv μ 1 0 := by rw [hm]; unfold mo_lr; rw [if_neg (by omega)]
              have hrs : mo_sv μ 1 0 = μ 1 0 := mo_sv_lo hst (by omega)
              have hkf : ¬ mo_o (mo_sv μ) k 0 = 1 → k = mo_fr (mo_sv μ) := fun hne => by rw [← hF, sp_ff_t (n := n') (a := k) (by omega) hne]
              refine rd_iload_n C dX10_addSlide_38 rfl ?_
              refine rd_bipush C dX10_addSlide_39 (n := 32) (by decide) ⟨by decide, by decide⟩ ?_
              refine rd_icmp_ge C dX10_addSlide_41 (tgt := 68) (by decide) (fun h_41 => ?_) (fun h_41 => ?_)
              · refine rd_aload_n C dX10_addSlide_68 rfl ?_
                refine rd_iload_n C dX10_addSlide_69 rfl ?_
                refine rd_iconst C dX10_addSlide_70 (n := 0) ⟨by decide, by decide⟩ ?_
                refine rd_iconst C dX10_addSlide_71 (n := 1) ⟨by decide, by decide⟩ ?_
                refine rd_callV C (c_X10_lay ⟨by omega, by omega⟩ ⟨by omega, by omega⟩) rm_X10_79 ri_X10_lay rs_X10_lay rc_X10_lay rz_X10 ⟨rp_X10_lay, rfl, rfl, by decide, by decide⟩ rfl rd_kcl10 dX10_addSlide_72 rd_c0 rd_m0 rfl (Nat.le_of_ble_eq_true rfl) (fun v1 w1 hq => ?_)
                obtain ⟨hv1, hm1⟩ := hq; rw [hv1, show w1 = rd_u μ1 1 (156 + 32 * k + 0) 1 from hm1]; clear hv1 hm1
                refine rd_aload_n C dX10_addSlide_75 rfl ?_
                refine rd_get C rd_g10_0 rf_X10_7 dX10_addSlide_76 rd_c0 rd_m0 (x := rd_R (1)) rfl (fun _ => trivial) ?_
                refine rd_iconst C dX10_addSlide_79 (n := 1) ⟨by decide, by decide⟩ ?_
                refine rd_aload_n C dX10_addSlide_80 rfl ?_
                refine rd_get C rd_g10_0 rf_X10_7 dX10_addSlide_81 rd_c0 rd_m0 (x := rd_R (1)) rfl (fun _ => trivial) ?_
                refine rd_iconst C dX10_addSlide_84 (n := 0) ⟨by decide, by decide⟩ ?_
                refine rd_ialdx C rd_ai18 dX10_addSlide_85 rd_c1 rd_m1 ⟨by omega, by omega⟩ (z := μ1 1 0) (by rw [rd_u_j _ _ _ (by omega)]) ?_
                refine rd_iadd C dX10_addSlide_86 (z := 1 + μ1 1 0) rfl ⟨by omega, by omega⟩ ?_
                refine rd_iload_n C dX10_addSlide_87 rfl ?_
                refine rd_iast C rd_ai18 dX10_addSlide_88 rd_c1 rd_m1 ⟨by omega, by omega⟩ ?_
                refine rd_aload_n C dX10_addSlide_89 rfl ?_
                refine rd_get C rd_g10_0 rf_X10_7 dX10_addSlide_90 rd_c0 rd_m0 (x := rd_R (1)) rfl (fun _ => trivial) ?_
                refine rd_iconst C dX10_addSlide_93 (n := 0) ⟨by decide, by decide⟩ ?_
                refine rd_dup2 C dX10_addSlide_94 ?_
                refine rd_ialdx C rd_ai18 dX10_addSlide_95 rd_c1 rd_m1 ⟨by omega, by omega⟩ (z := μ1 1 0) (by rw [rd_u_j _ _ _ (by omega), rd_u_j _ _ _ (by omega)]) ?_
                refine rd_iconst C dX10_addSlide_96 (n := 1) ⟨by decide, by decide⟩ ?_
                refine rd_iadd C dX10_addSlide_97 (z := μ1 1 0 + 1) rfl ⟨by omega, by omega⟩ ?_
                refine rd_iast C rd_ai18 dX10_addSlide_98 rd_c1 rd_m1 ⟨by omega, by omega⟩ ?_
                refine rd_iload_n C dX10_addSlide_99 rfl ?_
                exact rd_iret C dX10_addSlide_100 (Or.inr ⟨h_8, by rw [hkf h_27], by rw [hm, show i = 32 by omega, ← hkf h_27]; rfl⟩)
              · refine rd_aload_n C dX10_addSlide_44 rfl ?_
                refine rd_iload_n C dX10_addSlide_45 rfl ?_
                refine rd_iload_n C dX10_addSlide_46 rfl ?_
                refine rd_iload_n C dX10_addSlide_47 rfl ?_
                refine rd_bipush C dX10_addSlide_48 (n := 22) (by decide) ⟨by decide, by decide⟩ ?_
                refine rd_icmp_lt C dX10_addSlide_50 (tgt := 58) (by decide) (fun h_50 => ?_) (fun h_50 => ?_)
                · refine rd_iconst C dX10_addSlide_58 (n := 0) ⟨by decide, by decide⟩ ?_
                  refine rd_callV C (c_X10_lay ⟨by omega, by omega⟩ ⟨by omega, by omega⟩) rm_X10_79 ri_X10_lay rs_X10_lay rc_X10_lay rz_X10 ⟨rp_X10_lay, rfl, rfl, by decide, by decide⟩ rfl rd_kcl10 dX10_addSlide_59 rd_c0 rd_m0 rfl (Nat.le_of_ble_eq_true rfl) (fun v1 w1 hq => ?_)
                  obtain ⟨hv1, hm1⟩ := hq; rw [hv1, show w1 = rd_u μ1 1 (156 + 32 * k + i) 0 from hm1]; clear hv1 hm1
                  refine rd_iinc C dX10_addSlide_62 (by decide) rfl ⟨by omega, by omega⟩ (L' := [rd_R 0, rd_I k, rd_I (i + 1)]) rfl ?_
                  refine rd_goto C dX10_addSlide_65 (tgt := 38) (by decide) ?_
                  exact ih (i + 1) _ (by omega) (by omega) (by omega) (by rw [hm]; funext a b; simp only [rd_u, mo_lr]; (repeat' split) <;> first | rfl | (exfalso; omega) | grind)
                · refine rd_bipush C dX10_addSlide_53 (n := -6) (by decide) ⟨by decide, by decide⟩ ?_
                  refine rd_goto C dX10_addSlide_55 (tgt := 59) (by decide) ?_
                  refine rd_callV C (c_X10_lay ⟨by omega, by omega⟩ ⟨by omega, by omega⟩) rm_X10_79 ri_X10_lay rs_X10_lay rc_X10_lay rz_X10 ⟨rp_X10_lay, rfl, rfl, by decide, by decide⟩ rfl rd_kcl10 dX10_addSlide_59 rd_c0 rd_m0 rfl (Nat.le_of_ble_eq_true rfl) (fun v1 w1 hq => ?_)
                  obtain ⟨hv1, hm1⟩ := hq; rw [hv1, show w1 = rd_u μ1 1 (156 + 32 * k + i) (-6) from hm1]; clear hv1 hm1
                  refine rd_iinc C dX10_addSlide_62 (by decide) rfl ⟨by omega, by omega⟩ (L' := [rd_R 0, rd_I k, rd_I (i + 1)]) rfl ?_
                  refine rd_goto C dX10_addSlide_65 (tgt := 38) (by decide) ?_
                  exact ih (i + 1) _ (by omega) (by omega) (by omega) (by rw [hm]; funext a b; simp only [rd_u, mo_lr]; (repeat' split) <;> first | rfl | (exfalso; omega) | grind)
          exact lp38 33 0 _ (by omega) (by omega) (by omega) (by funext a b; unfold mo_lr; rw [if_neg (by omega)])
        · refine rd_iinc C dX10_addSlide_30 (by decide) rfl ⟨by omega, by omega⟩ (L' := [rd_R 0, rd_I (k + 1), j2]) rfl ?_
          refine rd_goto C dX10_addSlide_33 (tgt := 20) (by decide) ?_
          exact ih (n' - 1) (k + 1) _ (by omega) (by omega) (by omega) (by rw [← hF, sp_ff_f (n := n') (a := k) (by omega) (not_not_intro h_27)])
    exact lp20 11 10 0 _ (by omega) (by omega) (by omega) rfl
  · refine rd_bipush C dX10_addSlide_11 (n := -4) (by decide) ⟨by decide, by decide⟩ ?_
    exact rd_iret C dX10_addSlide_13 (Or.inl ⟨h_8, rfl, rfl⟩)
def mo_dl (ν : rd_Mem) (x k : Int) : rd_Mem := fun a b => if a = 1 ∧ (156 ≤ b ∧ b < 476) ∧ 22 ≤ (b - 156) % 32 ∧ (b - 156) / 32 * 10 + ((b - 156) % 32 - 22) < k ∧ ν 1 b = x then -6 else ν a b
noncomputable def mo_rm (ν : rd_Mem) (x : Int) : rd_Mem := mo_dl (rd_u (mo_to ν (mo_pl ν x)) 1 (156 + 32 * x + 0) 0) x 100
theorem sp_d10 : ∀ k : Fin 100, rd_i (k.val : Int) / rd_i 10 = rd_i ((k.val : Int) / 10) ∧ rd_i (k.val : Int) - rd_i (k.val : Int) / rd_i 10 * rd_i 10 = rd_i ((k.val : Int) % 10) := by decide +kernel
theorem sp_d10i {k : Int} (h0 : 0 ≤ k) (h1 : k < 100) : rd_i k / rd_i 10 = rd_i (k / 10) ∧ rd_i k - rd_i k / rd_i 10 * rd_i 10 = rd_i (k % 10) := by
  have := sp_d10 ⟨k.toNat, by omega⟩
  simp only at this
  rw [show ((k.toNat : Nat) : Int) = k by omega] at this
  exact this
theorem mo_dl_s (ν : rd_Mem) {x k : Int} (hx : x ≠ -6) (h0 : 0 ≤ k) (h1 : k < 100) : mo_dl ν x (k + 1) = (if mo_o (mo_dl ν x k) (k / 10) (22 + k % 10) = x then rd_u (mo_dl ν x k) 1 (156 + 32 * (k / 10) + (22 + k % 10)) (-6) else mo_dl ν x k) := by
  have e : mo_o (mo_dl ν x k) (k / 10) (22 + k % 10) = ν 1 (156 + 32 * (k / 10) + (22 + k % 10)) := by
    show mo_dl ν x k 1 _ = _
    unfold mo_dl; rw [if_neg (by omega)]
  rw [e]
  funext a b
  by_cases ha : a = 1
  · subst ha
    by_cases hb : b = 156 + 32 * (k / 10) + (22 + k % 10)
    · subst hb
      by_cases hv : ν 1 (156 + 32 * (k / 10) + (22 + k % 10)) = x
      · rw [if_pos hv, rd_u_s]
        unfold mo_dl; rw [if_pos ⟨rfl, by omega, by omega, by omega, hv⟩]
      · rw [if_neg hv]
        unfold mo_dl; rw [if_neg (fun h => hv h.2.2.2.2), if_neg (fun h => hv h.2.2.2.2)]
    · have e2 : mo_dl ν x (k + 1) 1 b = mo_dl ν x k 1 b := by
        unfold mo_dl
        by_cases hc : (156 ≤ b ∧ b < 476) ∧ 22 ≤ (b - 156) % 32 ∧ (b - 156) / 32 * 10 + ((b - 156) % 32 - 22) < k ∧ ν 1 b = x
        · rw [if_pos ⟨rfl, hc.1, hc.2.1, by have := hc.2.2.1; omega, hc.2.2.2⟩, if_pos ⟨rfl, hc⟩]
        · rw [if_neg (fun h => hc ⟨h.2.1, h.2.2.1, by have h1 := h.2.2.2.1; have h2 := h.2.1; have h3 := h.2.2.1; omega, h.2.2.2.2⟩), if_neg (fun h => hc h.2)]
      rw [e2]
      split
      · rw [rd_u_j _ _ _ hb]
      · rfl
  · have e2 : ∀ k, mo_dl ν x k a b = ν a b := fun k => by unfold mo_dl; rw [if_neg (fun h => ha h.1)]
    rw [e2]
    split
    · rw [rd_u_k _ _ _ ha, e2]
    · rw [e2]
set_option maxHeartbeats 4000000 in
set_option maxRecDepth 100000 in
theorem c_X10_removeSlide {l : Launch} {G : rd_G} {r : Nat} {μ : rd_Mem} (hI : mo_I μ) (hst : 0 ≤ μ 0 1 ∧ μ 0 1 ≤ 4) {x : Int} : rd_M l G rd_km 5 r yX10_removeSlide cX10_removeSlide 3 (some .int) (rd_rm 2 45) [rd_R 0, rd_I x] μ (fun v μ' => (¬ mo_t μ x ∧ v = some (rd_I (-1)) ∧ μ' = μ) ∨ ((mo_t μ x ∧ μ 1 29 = 1 ∧ μ 1 30 = x) ∧ v = some (rd_I (-5)) ∧ μ' = μ) ∨ ((mo_t μ x ∧ ¬ (μ 1 29 = 1 ∧ μ 1 30 = x)) ∧ v = some (rd_I (mo_sv μ 1 0 - 1)) ∧ μ' = mo_rm (mo_sv μ) x)) := by
  refine rd_enter (by decide +kernel) (Nat.le_of_ble_eq_true rfl) [rd_R 0, rd_I x, rd_J] rfl (fun p e s m args below meth c C => ?_)
  refine rd_W.rng (fun hM hL _ => ?_)
  have hc := hI.1.1
  have hc1 := hc.1.1
  have hc2 := hc.1.2
  have hn1 := hI.1.2.2.2.1
  have hn2 := hI.1.2.2.2.2
  refine rd_aload_n C dX10_removeSlide_0 rfl ?_
  refine rd_iload_n C dX10_removeSlide_1 rfl ?_
  refine rd_callV C (c_X10_isSlide) rm_X10_30 ri_X10_isSlide rs_X10_isSlide rc_X10_isSlide rz_X10 ⟨rp_X10_isSlide, rfl, rfl, by decide, by decide⟩ rfl rd_kcl10 dX10_removeSlide_2 rd_c0 rd_m0 rfl (Nat.le_of_ble_eq_true rfl) (fun v1 w1 hq => ?_)
  rcases hq with ⟨hw_5, hv1, hm1⟩ | ⟨hw_5, hv1, hm1⟩
  · rw [hv1, hm1]; clear hv1 hm1 v1 w1
    refine rd_if_ne C dX10_removeSlide_5 (tgt := 10) (by decide) (fun _ => ?_) (fun h => absurd h (by decide))
    refine rd_aload_n C dX10_removeSlide_10 rfl ?_
    refine rd_get C rd_g10_0 rf_X10_7 dX10_removeSlide_11 rd_c0 rd_m0 (x := rd_R (1)) rfl (fun _ => trivial) ?_
    refine rd_bipush C dX10_removeSlide_14 (n := 29) (by decide) ⟨by decide, by decide⟩ ?_
    refine rd_ialdx C rd_ai18 dX10_removeSlide_16 rd_c1 rd_m1 ⟨by omega, by omega⟩ (z := μ 1 29) rfl ?_
    refine rd_iconst C dX10_removeSlide_17 (n := 1) ⟨by decide, by decide⟩ ?_
    refine rd_icmp_ne C dX10_removeSlide_18 (tgt := 35) (by decide) (fun h_18 => ?_) (fun h_18 => ?_)
    · refine rd_aload_n C dX10_removeSlide_35 rfl ?_
      refine rd_callV C (c_X10_save hst) rm_X10_76 ri_X10_save rs_X10_save rc_X10_save rz_X10 ⟨rp_X10_save, rfl, rfl, by decide, by decide⟩ rfl rd_kcl10 dX10_removeSlide_36 rd_c0 rd_m0 rfl (Nat.le_of_ble_eq_true rfl) (fun v1 w1 hq => ?_)
      obtain ⟨hv1, hm1⟩ := hq; rw [hv1, show w1 = mo_sv μ from hm1]; clear hv1 hm1
      have hIs := mo_sv_I hst hI
      have hcs := hIs.1.1
      have hcs1 := hcs.1.1
      have hcs2 := hcs.1.2
      have hns1 := hIs.1.2.2.2.1
      have hns2 := hIs.1.2.2.2.2
      have hts := (mo_sv_t hst (n := x)).mpr hw_5
      have htr := hts.1
      have hits := (hIs.1.2.1 _ hts).1
      have hits1 := hits.1.1
      have hits2 := hits.1.2
      have hpos := (hIs.1.2.1 _ hts).2
      refine rd_aload_n C dX10_removeSlide_39 rfl ?_
      refine rd_iload_n C dX10_removeSlide_40 rfl ?_
      refine rd_callV C (c_X10_takesOut hcs hpos) rm_X10_82 ri_X10_takesOut rs_X10_takesOut rc_X10_takesOut rz_X10 ⟨rp_X10_takesOut, rfl, rfl, by decide, by decide⟩ rfl rd_kcl10 dX10_removeSlide_41 rd_c0 rd_m0 rfl (Nat.le_of_ble_eq_true rfl) (fun v1 w1 hq => ?_)
      obtain ⟨hv1, hm1⟩ := hq; rw [show v1 = some (rd_I (mo_pl (mo_sv μ) x)) from hv1, show w1 = mo_to (mo_sv μ) (mo_pl (mo_sv μ) x) from hm1]; clear hv1 hm1
      refine rd_pop C dX10_removeSlide_44 ?_
      refine rd_aload_n C dX10_removeSlide_45 rfl ?_
      refine rd_iload_n C dX10_removeSlide_46 rfl ?_
      refine rd_iconst C dX10_removeSlide_47 (n := 0) ⟨by decide, by decide⟩ ?_
      refine rd_iconst C dX10_removeSlide_48 (n := 0) ⟨by decide, by decide⟩ ?_
      refine rd_callV C (c_X10_lay ⟨by omega, by omega⟩ ⟨by omega, by omega⟩) rm_X10_79 ri_X10_lay rs_X10_lay rc_X10_lay rz_X10 ⟨rp_X10_lay, rfl, rfl, by decide, by decide⟩ rfl rd_kcl10 dX10_removeSlide_49 rd_c0 rd_m0 rfl (Nat.le_of_ble_eq_true rfl) (fun v1 w1 hq => ?_)
      obtain ⟨hv1, hm1⟩ := hq; rw [hv1, show w1 = rd_u (mo_to (mo_sv μ) (mo_pl (mo_sv μ) x)) 1 (156 + 32 * x + 0) 0 from hm1]; clear hv1 hm1
      refine rd_iconst C dX10_removeSlide_52 (n := 0) ⟨by decide, by decide⟩ ?_
      refine rd_istore_n C dX10_removeSlide_53 (by decide) (L' := [rd_R 0, rd_I x, rd_I 0]) rfl ?_
      have lp54 : ∀ (n : Nat) (k : Int) (μ1 : rd_Mem), (0 ≤ k) → (k ≤ 100) → (100 < k + n) → (μ1 = mo_dl (rd_u (mo_to (mo_sv μ) (mo_pl (mo_sv μ) x)) 1 (156 + 32 * x + 0) 0) x k) → rd_W p l e (rd_rm 2 45) s m args below meth c (MQ below (rd_Qc G rd_km 5 r (fun v μ' => (¬ mo_t μ x ∧ v = some (rd_I (-1)) ∧ μ' = μ) ∨ ((mo_t μ x ∧ μ 1 29 = 1 ∧ μ 1 30 = x) ∧ v = some (rd_I (-5)) ∧ μ' = μ) ∨ ((mo_t μ x ∧ ¬ (μ 1 29 = 1 ∧ μ 1 30 = x)) ∧ v = some (rd_I (mo_sv μ 1 0 - 1)) ∧ μ' = mo_rm (mo_sv μ) x))) args s 0 0 (rd_A r 5)) 3 G rd_km 5 r 54 [rd_R 0, rd_I x, rd_I k] [] μ1 := by
        intro n
        induction n with
        | zero => intro k μ1  g1 g2 g3 hm; exfalso; omega
        | succ n ih =>
          intro k μ1  g1 g2 g3 hm
          have hr0 : μ1 1 0 = mo_sv μ 1 0 - 1 := by rw [hm]; unfold mo_dl; rw [if_neg (by omega), rd_u_j _ _ _ (by omega)]; simp [mo_to, mo_tk]
          refine rd_iload_n C dX10_removeSlide_54 rfl ?_
          refine rd_bipush C dX10_removeSlide_55 (n := 100) (by decide) ⟨by decide, by decide⟩ ?_
          refine rd_icmp_ge C dX10_removeSlide_57 (tgt := 102) (by decide) (fun h_57 => ?_) (fun h_57 => ?_)
          · refine rd_aload_n C dX10_removeSlide_102 rfl ?_
            refine rd_get C rd_g10_0 rf_X10_7 dX10_removeSlide_103 rd_c0 rd_m0 (x := rd_R (1)) rfl (fun _ => trivial) ?_
            refine rd_iconst C dX10_removeSlide_106 (n := 0) ⟨by decide, by decide⟩ ?_
            refine rd_ialdx C rd_ai18 dX10_removeSlide_107 rd_c1 rd_m1 ⟨by omega, by omega⟩ (z := μ1 1 0) rfl ?_
            exact rd_iret C dX10_removeSlide_108 (Or.inr (Or.inr (⟨⟨hw_5, (fun h => by first | exact h_18 h.1 | exact h_29 h.2)⟩, by rw [hr0], by rw [hm, show k = 100 by omega]; rfl⟩)))
          · refine rd_aload_n C dX10_removeSlide_60 rfl ?_
            refine rd_iload_n C dX10_removeSlide_61 rfl ?_
            refine rd_bipush C dX10_removeSlide_62 (n := 10) (by decide) ⟨by decide, by decide⟩ ?_
            refine rd_idiv C dX10_removeSlide_64 (by decide) (z := k / 10) (sp_d10i (by omega) (by omega)).1 ⟨by omega, by omega⟩ ?_
            refine rd_bipush C dX10_removeSlide_65 (n := 22) (by decide) ⟨by decide, by decide⟩ ?_
            refine rd_iload_n C dX10_removeSlide_67 rfl ?_
            refine rd_bipush C dX10_removeSlide_68 (n := 10) (by decide) ⟨by decide, by decide⟩ ?_
            refine rd_irem C dX10_removeSlide_70 (by decide) (z := k % 10) (sp_d10i (by omega) (by omega)).2 ⟨by omega, by omega⟩ ?_
            refine rd_iadd C dX10_removeSlide_71 (z := 22 + k % 10) rfl ⟨by omega, by omega⟩ ?_
            refine rd_callV C (c_X10_of (i := k / 10) (q := 22 + k % 10) ⟨by omega, by omega⟩ ⟨by omega, by omega⟩) rm_X10_26 ri_X10_of rs_X10_of rc_X10_of rz_X10 ⟨rp_X10_of, rfl, rfl, by decide, by decide⟩ rfl rd_kcl10 dX10_removeSlide_72 rd_c0 rd_m0 rfl (Nat.le_of_ble_eq_true rfl) (fun v1 w1 hq => ?_)
            obtain ⟨hv1, hm1⟩ := hq; rw [show v1 = some (rd_I (mo_o μ1 (k / 10) (22 + k % 10))) from hv1, hm1]; clear hv1 hm1
            refine rd_iload_n C dX10_removeSlide_75 rfl ?_
            refine rd_icmp_ne C dX10_removeSlide_76 (tgt := 96) (by decide) (fun h_76 => ?_) (fun h_76 => ?_)
            · refine rd_iinc C dX10_removeSlide_96 (by decide) rfl ⟨by omega, by omega⟩ (L' := [rd_R 0, rd_I x, rd_I (k + 1)]) rfl ?_
              refine rd_goto C dX10_removeSlide_99 (tgt := 54) (by decide) ?_
              exact ih (k + 1) _ (by omega) (by omega) (by omega) (by rw [mo_dl_s _ (by omega) (by omega) (by omega), ← hm]; first | rw [if_pos h_76] | rw [if_neg h_76])
            · refine rd_aload_n C dX10_removeSlide_79 rfl ?_
              refine rd_iload_n C dX10_removeSlide_80 rfl ?_
              refine rd_bipush C dX10_removeSlide_81 (n := 10) (by decide) ⟨by decide, by decide⟩ ?_
              refine rd_idiv C dX10_removeSlide_83 (by decide) (z := k / 10) (sp_d10i (by omega) (by omega)).1 ⟨by omega, by omega⟩ ?_
              refine rd_bipush C dX10_removeSlide_84 (n := 22) (by decide) ⟨by decide, by decide⟩ ?_
              refine rd_iload_n C dX10_removeSlide_86 rfl ?_
              refine rd_bipush C dX10_removeSlide_87 (n := 10) (by decide) ⟨by decide, by decide⟩ ?_
              refine rd_irem C dX10_removeSlide_89 (by decide) (z := k % 10) (sp_d10i (by omega) (by omega)).2 ⟨by omega, by omega⟩ ?_
              refine rd_iadd C dX10_removeSlide_90 (z := 22 + k % 10) rfl ⟨by omega, by omega⟩ ?_
              refine rd_bipush C dX10_removeSlide_91 (n := -6) (by decide) ⟨by decide, by decide⟩ ?_
              refine rd_callV C (c_X10_lay ⟨by omega, by omega⟩ ⟨by omega, by omega⟩) rm_X10_79 ri_X10_lay rs_X10_lay rc_X10_lay rz_X10 ⟨rp_X10_lay, rfl, rfl, by decide, by decide⟩ rfl rd_kcl10 dX10_removeSlide_93 rd_c0 rd_m0 rfl (Nat.le_of_ble_eq_true rfl) (fun v1 w1 hq => ?_)
              obtain ⟨hv1, hm1⟩ := hq; rw [hv1, show w1 = rd_u μ1 1 (156 + 32 * (k / 10) + (22 + k % 10)) (-6) from hm1]; clear hv1 hm1
              refine rd_iinc C dX10_removeSlide_96 (by decide) rfl ⟨by omega, by omega⟩ (L' := [rd_R 0, rd_I x, rd_I (k + 1)]) rfl ?_
              refine rd_goto C dX10_removeSlide_99 (tgt := 54) (by decide) ?_
              exact ih (k + 1) _ (by omega) (by omega) (by omega) (by rw [mo_dl_s _ (by omega) (by omega) (by omega), ← hm]; first | rw [if_pos h_76] | rw [if_neg h_76])
      exact lp54 101 0 _ (by omega) (by omega) (by omega) (by funext a b; unfold mo_dl; rw [if_neg (by omega)])
    · refine rd_aload_n C dX10_removeSlide_21 rfl ?_
      refine rd_get C rd_g10_0 rf_X10_7 dX10_removeSlide_22 rd_c0 rd_m0 (x := rd_R (1)) rfl (fun _ => trivial) ?_
      refine rd_bipush C dX10_removeSlide_25 (n := 30) (by decide) ⟨by decide, by decide⟩ ?_
      refine rd_ialdx C rd_ai18 dX10_removeSlide_27 rd_c1 rd_m1 ⟨by omega, by omega⟩ (z := μ 1 30) rfl ?_
      refine rd_iload_n C dX10_removeSlide_28 rfl ?_
      refine rd_icmp_ne C dX10_removeSlide_29 (tgt := 35) (by decide) (fun h_29 => ?_) (fun h_29 => ?_)
      · refine rd_aload_n C dX10_removeSlide_35 rfl ?_
        refine rd_callV C (c_X10_save hst) rm_X10_76 ri_X10_save rs_X10_save rc_X10_save rz_X10 ⟨rp_X10_save, rfl, rfl, by decide, by decide⟩ rfl rd_kcl10 dX10_removeSlide_36 rd_c0 rd_m0 rfl (Nat.le_of_ble_eq_true rfl) (fun v1 w1 hq => ?_)
        obtain ⟨hv1, hm1⟩ := hq; rw [hv1, show w1 = mo_sv μ from hm1]; clear hv1 hm1
        have hIs := mo_sv_I hst hI
        have hcs := hIs.1.1
        have hcs1 := hcs.1.1
        have hcs2 := hcs.1.2
        have hns1 := hIs.1.2.2.2.1
        have hns2 := hIs.1.2.2.2.2
        have hts := (mo_sv_t hst (n := x)).mpr hw_5
        have htr := hts.1
        have hits := (hIs.1.2.1 _ hts).1
        have hits1 := hits.1.1
        have hits2 := hits.1.2
        have hpos := (hIs.1.2.1 _ hts).2
        refine rd_aload_n C dX10_removeSlide_39 rfl ?_
        refine rd_iload_n C dX10_removeSlide_40 rfl ?_
        refine rd_callV C (c_X10_takesOut hcs hpos) rm_X10_82 ri_X10_takesOut rs_X10_takesOut rc_X10_takesOut rz_X10 ⟨rp_X10_takesOut, rfl, rfl, by decide, by decide⟩ rfl rd_kcl10 dX10_removeSlide_41 rd_c0 rd_m0 rfl (Nat.le_of_ble_eq_true rfl) (fun v1 w1 hq => ?_)
        obtain ⟨hv1, hm1⟩ := hq; rw [show v1 = some (rd_I (mo_pl (mo_sv μ) x)) from hv1, show w1 = mo_to (mo_sv μ) (mo_pl (mo_sv μ) x) from hm1]; clear hv1 hm1
        refine rd_pop C dX10_removeSlide_44 ?_
        refine rd_aload_n C dX10_removeSlide_45 rfl ?_
        refine rd_iload_n C dX10_removeSlide_46 rfl ?_
        refine rd_iconst C dX10_removeSlide_47 (n := 0) ⟨by decide, by decide⟩ ?_
        refine rd_iconst C dX10_removeSlide_48 (n := 0) ⟨by decide, by decide⟩ ?_
        refine rd_callV C (c_X10_lay ⟨by omega, by omega⟩ ⟨by omega, by omega⟩) rm_X10_79 ri_X10_lay rs_X10_lay rc_X10_lay rz_X10 ⟨rp_X10_lay, rfl, rfl, by decide, by decide⟩ rfl rd_kcl10 dX10_removeSlide_49 rd_c0 rd_m0 rfl (Nat.le_of_ble_eq_true rfl) (fun v1 w1 hq => ?_)
        obtain ⟨hv1, hm1⟩ := hq; rw [hv1, show w1 = rd_u (mo_to (mo_sv μ) (mo_pl (mo_sv μ) x)) 1 (156 + 32 * x + 0) 0 from hm1]; clear hv1 hm1
        refine rd_iconst C dX10_removeSlide_52 (n := 0) ⟨by decide, by decide⟩ ?_
        refine rd_istore_n C dX10_removeSlide_53 (by decide) (L' := [rd_R 0, rd_I x, rd_I 0]) rfl ?_
        have lp54 : ∀ (n : Nat) (k : Int) (μ1 : rd_Mem), (0 ≤ k) → (k ≤ 100) → (100 < k + n) → (μ1 = mo_dl (rd_u (mo_to (mo_sv μ) (mo_pl (mo_sv μ) x)) 1 (156 + 32 * x + 0) 0) x k) → rd_W p l e (rd_rm 2 45) s m args below meth c (MQ below (rd_Qc G rd_km 5 r (fun v μ' => (¬ mo_t μ x ∧ v = some (rd_I (-1)) ∧ μ' = μ) ∨ ((mo_t μ x ∧ μ 1 29 = 1 ∧ μ 1 30 = x) ∧ v = some (rd_I (-5)) ∧ μ' = μ) ∨ ((mo_t μ x ∧ ¬ (μ 1 29 = 1 ∧ μ 1 30 = x)) ∧ v = some (rd_I (mo_sv μ 1 0 - 1)) ∧ μ' = mo_rm (mo_sv μ) x))) args s 0 0 (rd_A r 5)) 3 G rd_km 5 r 54 [rd_R 0, rd_I x, rd_I k] [] μ1 := by
          intro n
          induction n with
          | zero => intro k μ1  g1 g2 g3 hm; exfalso; omega
          | succ n ih =>
            intro k μ1  g1 g2 g3 hm
            have hr0 : μ1 1 0 = mo_sv μ 1 0 - 1 := by rw [hm]; unfold mo_dl; rw [if_neg (by omega), rd_u_j _ _ _ (by omega)]; simp [mo_to, mo_tk]
            refine rd_iload_n C dX10_removeSlide_54 rfl ?_
            refine rd_bipush C dX10_removeSlide_55 (n := 100) (by decide) ⟨by decide, by decide⟩ ?_
            refine rd_icmp_ge C dX10_removeSlide_57 (tgt := 102) (by decide) (fun h_57 => ?_) (fun h_57 => ?_)
            · refine rd_aload_n C dX10_removeSlide_102 rfl ?_
              refine rd_get C rd_g10_0 rf_X10_7 dX10_removeSlide_103 rd_c0 rd_m0 (x := rd_R (1)) rfl (fun _ => trivial) ?_
              refine rd_iconst C dX10_removeSlide_106 (n := 0) ⟨by decide, by decide⟩ ?_
              refine rd_ialdx C rd_ai18 dX10_removeSlide_107 rd_c1 rd_m1 ⟨by omega, by omega⟩ (z := μ1 1 0) rfl ?_
              exact rd_iret C dX10_removeSlide_108 (Or.inr (Or.inr (⟨⟨hw_5, (fun h => by first | exact h_18 h.1 | exact h_29 h.2)⟩, by rw [hr0], by rw [hm, show k = 100 by omega]; rfl⟩)))
            · refine rd_aload_n C dX10_removeSlide_60 rfl ?_
              refine rd_iload_n C dX10_removeSlide_61 rfl ?_
              refine rd_bipush C dX10_removeSlide_62 (n := 10) (by decide) ⟨by decide, by decide⟩ ?_
              refine rd_idiv C dX10_removeSlide_64 (by decide) (z := k / 10) (sp_d10i (by omega) (by omega)).1 ⟨by omega, by omega⟩ ?_
              refine rd_bipush C dX10_removeSlide_65 (n := 22) (by decide) ⟨by decide, by decide⟩ ?_
              refine rd_iload_n C dX10_removeSlide_67 rfl ?_
              refine rd_bipush C dX10_removeSlide_68 (n := 10) (by decide) ⟨by decide, by decide⟩ ?_
              refine rd_irem C dX10_removeSlide_70 (by decide) (z := k % 10) (sp_d10i (by omega) (by omega)).2 ⟨by omega, by omega⟩ ?_
              refine rd_iadd C dX10_removeSlide_71 (z := 22 + k % 10) rfl ⟨by omega, by omega⟩ ?_
              refine rd_callV C (c_X10_of (i := k / 10) (q := 22 + k % 10) ⟨by omega, by omega⟩ ⟨by omega, by omega⟩) rm_X10_26 ri_X10_of rs_X10_of rc_X10_of rz_X10 ⟨rp_X10_of, rfl, rfl, by decide, by decide⟩ rfl rd_kcl10 dX10_removeSlide_72 rd_c0 rd_m0 rfl (Nat.le_of_ble_eq_true rfl) (fun v1 w1 hq => ?_)
              obtain ⟨hv1, hm1⟩ := hq; rw [show v1 = some (rd_I (mo_o μ1 (k / 10) (22 + k % 10))) from hv1, hm1]; clear hv1 hm1
              refine rd_iload_n C dX10_removeSlide_75 rfl ?_
              refine rd_icmp_ne C dX10_removeSlide_76 (tgt := 96) (by decide) (fun h_76 => ?_) (fun h_76 => ?_)
              · refine rd_iinc C dX10_removeSlide_96 (by decide) rfl ⟨by omega, by omega⟩ (L' := [rd_R 0, rd_I x, rd_I (k + 1)]) rfl ?_
                refine rd_goto C dX10_removeSlide_99 (tgt := 54) (by decide) ?_
                exact ih (k + 1) _ (by omega) (by omega) (by omega) (by rw [mo_dl_s _ (by omega) (by omega) (by omega), ← hm]; first | rw [if_pos h_76] | rw [if_neg h_76])
              · refine rd_aload_n C dX10_removeSlide_79 rfl ?_
                refine rd_iload_n C dX10_removeSlide_80 rfl ?_
                refine rd_bipush C dX10_removeSlide_81 (n := 10) (by decide) ⟨by decide, by decide⟩ ?_
                refine rd_idiv C dX10_removeSlide_83 (by decide) (z := k / 10) (sp_d10i (by omega) (by omega)).1 ⟨by omega, by omega⟩ ?_
                refine rd_bipush C dX10_removeSlide_84 (n := 22) (by decide) ⟨by decide, by decide⟩ ?_
                refine rd_iload_n C dX10_removeSlide_86 rfl ?_
                refine rd_bipush C dX10_removeSlide_87 (n := 10) (by decide) ⟨by decide, by decide⟩ ?_
                refine rd_irem C dX10_removeSlide_89 (by decide) (z := k % 10) (sp_d10i (by omega) (by omega)).2 ⟨by omega, by omega⟩ ?_
                refine rd_iadd C dX10_removeSlide_90 (z := 22 + k % 10) rfl ⟨by omega, by omega⟩ ?_
                refine rd_bipush C dX10_removeSlide_91 (n := -6) (by decide) ⟨by decide, by decide⟩ ?_
                refine rd_callV C (c_X10_lay ⟨by omega, by omega⟩ ⟨by omega, by omega⟩) rm_X10_79 ri_X10_lay rs_X10_lay rc_X10_lay rz_X10 ⟨rp_X10_lay, rfl, rfl, by decide, by decide⟩ rfl rd_kcl10 dX10_removeSlide_93 rd_c0 rd_m0 rfl (Nat.le_of_ble_eq_true rfl) (fun v1 w1 hq => ?_)
                obtain ⟨hv1, hm1⟩ := hq; rw [hv1, show w1 = rd_u μ1 1 (156 + 32 * (k / 10) + (22 + k % 10)) (-6) from hm1]; clear hv1 hm1
                refine rd_iinc C dX10_removeSlide_96 (by decide) rfl ⟨by omega, by omega⟩ (L' := [rd_R 0, rd_I x, rd_I (k + 1)]) rfl ?_
                refine rd_goto C dX10_removeSlide_99 (tgt := 54) (by decide) ?_
                exact ih (k + 1) _ (by omega) (by omega) (by omega) (by rw [mo_dl_s _ (by omega) (by omega) (by omega), ← hm]; first | rw [if_pos h_76] | rw [if_neg h_76])
        exact lp54 101 0 _ (by omega) (by omega) (by omega) (by funext a b; unfold mo_dl; rw [if_neg (by omega)])
      · refine rd_bipush C dX10_removeSlide_32 (n := -5) (by decide) ⟨by decide, by decide⟩ ?_
        exact rd_iret C dX10_removeSlide_34 (Or.inr (Or.inl ⟨⟨hw_5, h_18, h_29⟩, rfl, rfl⟩))
  · rw [hv1, hm1]; clear hv1 hm1 v1 w1
    refine rd_if_ne C dX10_removeSlide_5 (tgt := 10) (by decide) (fun h => absurd h (by decide)) (fun _ => ?_)
    refine rd_iconst C dX10_removeSlide_8 (n := -1) ⟨by decide, by decide⟩ ?_
    exact rd_iret C dX10_removeSlide_9 (Or.inl ⟨hw_5, rfl, rfl⟩)
def mo_up (ν : rd_Mem) (k : Int) : rd_Mem := fun a b => if a = 1 ∧ (1 + k < b ∧ b ≤ 1 + ν 1 0) then ν 1 (b - 1) else ν a b
def mo_in (ν : rd_Mem) (q x : Int) : rd_Mem := rd_u (rd_u (mo_up ν q) 1 (1 + q) x) 1 0 (mo_up ν q 1 0 + 1)
set_option maxHeartbeats 4000000 in
set_option maxRecDepth 100000 in
theorem c_X10_moveSlide {l : Launch} {G : rd_G} {r : Nat} {μ : rd_Mem} (hI : mo_I μ) (hst : 0 ≤ μ 0 1 ∧ μ 0 1 ≤ 4) {x q0 : Int} : rd_M l G rd_km 5 r yX10_moveSlide cX10_moveSlide 5 (some .int) (rd_rm 2 45) [rd_R 0, rd_I x, rd_I q0] μ (fun v μ' => (¬ mo_t μ x ∧ v = some (rd_I (-1)) ∧ μ' = μ) ∨ ((mo_t μ x ∧ (q0 < 0 ∨ μ 1 0 - 1 < q0)) ∧ v = some (rd_I (-2)) ∧ μ' = μ) ∨ ((mo_t μ x ∧ (0 ≤ q0 ∧ q0 ≤ μ 1 0 - 1)) ∧ v = some (rd_I (mo_pl (mo_sv μ) x)) ∧ μ' = mo_in (mo_to (mo_sv μ) (mo_pl (mo_sv μ) x)) q0 x)) := by
  refine rd_enter (by decide +kernel) (Nat.le_of_ble_eq_true rfl) [rd_R 0, rd_I x, rd_I q0, rd_J, rd_J] rfl (fun p e s m args below meth c C => ?_)
  refine rd_W.rng (fun hM hL _ => ?_)
  have hc := hI.1.1
  have hc1 := hc.1.1
  have hc2 := hc.1.2
  have hn1 := hI.1.2.2.2.1
  have hn2 := hI.1.2.2.2.2
  refine rd_aload_n C dX10_moveSlide_0 rfl ?_
  refine rd_iload_n C dX10_moveSlide_1 rfl ?_
  refine rd_callV C (c_X10_isSlide) rm_X10_30 ri_X10_isSlide rs_X10_isSlide rc_X10_isSlide rz_X10 ⟨rp_X10_isSlide, rfl, rfl, by decide, by decide⟩ rfl rd_kcl10 dX10_moveSlide_2 rd_c0 rd_m0 rfl (Nat.le_of_ble_eq_true rfl) (fun v1 w1 hq => ?_)
  rcases hq with ⟨hw_5, hv1, hm1⟩ | ⟨hw_5, hv1, hm1⟩
  · rw [hv1, hm1]; clear hv1 hm1 v1 w1
    refine rd_if_ne C dX10_moveSlide_5 (tgt := 10) (by decide) (fun _ => ?_) (fun h => absurd h (by decide))
    refine rd_iload_n C dX10_moveSlide_10 rfl ?_
    refine rd_iconst C dX10_moveSlide_11 (n := 0) ⟨by decide, by decide⟩ ?_
    refine rd_aload_n C dX10_moveSlide_12 rfl ?_
    refine rd_get C rd_g10_0 rf_X10_7 dX10_moveSlide_13 rd_c0 rd_m0 (x := rd_R (1)) rfl (fun _ => trivial) ?_
    refine rd_iconst C dX10_moveSlide_16 (n := 0) ⟨by decide, by decide⟩ ?_
    refine rd_ialdx C rd_ai18 dX10_moveSlide_17 rd_c1 rd_m1 ⟨by omega, by omega⟩ (z := μ 1 0) rfl ?_
    refine rd_iconst C dX10_moveSlide_18 (n := 1) ⟨by decide, by decide⟩ ?_
    refine rd_isub C dX10_moveSlide_19 (z := μ 1 0 - 1) rfl ⟨by omega, by omega⟩ ?_
    refine rd_callS C (c_X10_in) rm_X10_22 rt_X10_in rc_X10_in rz_X10 ⟨rp_X10_in, rfl, rfl, by decide, by decide⟩ rfl dX10_moveSlide_20 rfl (Nat.le_of_ble_eq_true rfl) (fun v1 w1 hq => ?_)
    rcases hq with ⟨hw_23, hv1, hm1⟩ | ⟨hw_23, hv1, hm1⟩
    · rw [hv1, hm1]; clear hv1 hm1 v1 w1
      refine rd_if_ne C dX10_moveSlide_23 (tgt := 29) (by decide) (fun _ => ?_) (fun h => absurd h (by decide))
      refine rd_aload_n C dX10_moveSlide_29 rfl ?_
      refine rd_callV C (c_X10_save hst) rm_X10_76 ri_X10_save rs_X10_save rc_X10_save rz_X10 ⟨rp_X10_save, rfl, rfl, by decide, by decide⟩ rfl rd_kcl10 dX10_moveSlide_30 rd_c0 rd_m0 rfl (Nat.le_of_ble_eq_true rfl) (fun v1 w1 hq => ?_)
      obtain ⟨hv1, hm1⟩ := hq; rw [hv1, show w1 = mo_sv μ from hm1]; clear hv1 hm1
      have hIs := mo_sv_I hst hI
      have hcs := hIs.1.1
      have hcs1 := hcs.1.1
      have hcs2 := hcs.1.2
      have hns1 := hIs.1.2.2.2.1
      have hns2 := hIs.1.2.2.2.2
      have hts := (mo_sv_t hst (n := x)).mpr hw_5
      have htr := hts.1
      have hits := (hIs.1.2.1 _ hts).1
      have hits1 := hits.1.1
      have hits2 := hits.1.2
      have hpos := (hIs.1.2.1 _ hts).2
      have hrs : mo_sv μ 1 0 = μ 1 0 := mo_sv_lo hst (by omega)
      refine rd_aload_n C dX10_moveSlide_33 rfl ?_
      refine rd_iload_n C dX10_moveSlide_34 rfl ?_
      refine rd_callV C (c_X10_takesOut hcs hpos) rm_X10_82 ri_X10_takesOut rs_X10_takesOut rc_X10_takesOut rz_X10 ⟨rp_X10_takesOut, rfl, rfl, by decide, by decide⟩ rfl rd_kcl10 dX10_moveSlide_35 rd_c0 rd_m0 rfl (Nat.le_of_ble_eq_true rfl) (fun v1 w1 hq => ?_)
      obtain ⟨hv1, hm1⟩ := hq; rw [show v1 = some (rd_I (mo_pl (mo_sv μ) x)) from hv1, show w1 = mo_to (mo_sv μ) (mo_pl (mo_sv μ) x) from hm1]; clear hv1 hm1
      have hto0 : mo_to (mo_sv μ) (mo_pl (mo_sv μ) x) 1 0 = mo_sv μ 1 0 - 1 := by simp [mo_to, mo_tk]
      refine rd_istore_n C dX10_moveSlide_38 (by decide) (L' := [rd_R 0, rd_I x, rd_I q0, rd_I (mo_pl (mo_sv μ) x), rd_J]) rfl ?_
      refine rd_aload_n C dX10_moveSlide_39 rfl ?_
      refine rd_get C rd_g10_0 rf_X10_7 dX10_moveSlide_40 rd_c0 rd_m0 (x := rd_R (1)) rfl (fun _ => trivial) ?_
      refine rd_iconst C dX10_moveSlide_43 (n := 0) ⟨by decide, by decide⟩ ?_
      refine rd_ialdx C rd_ai18 dX10_moveSlide_44 rd_c1 rd_m1 ⟨by omega, by omega⟩ (z := (mo_to (mo_sv μ) (mo_pl (mo_sv μ) x)) 1 0) rfl ?_
      refine rd_istore C dX10_moveSlide_45 (by decide) (L' := [rd_R 0, rd_I x, rd_I q0, rd_I (mo_pl (mo_sv μ) x), rd_I ((mo_to (mo_sv μ) (mo_pl (mo_sv μ) x)) 1 0)]) rfl ?_
      have lp47 : ∀ (n : Nat) (k : Int) (μ1 : rd_Mem), (q0 ≤ k) → (k ≤ mo_to (mo_sv μ) (mo_pl (mo_sv μ) x) 1 0) → (k < q0 + n) → (μ1 = mo_up (mo_to (mo_sv μ) (mo_pl (mo_sv μ) x)) k) → rd_W p l e (rd_rm 2 45) s m args below meth c (MQ below (rd_Qc G rd_km 5 r (fun v μ' => (¬ mo_t μ x ∧ v = some (rd_I (-1)) ∧ μ' = μ) ∨ ((mo_t μ x ∧ (q0 < 0 ∨ μ 1 0 - 1 < q0)) ∧ v = some (rd_I (-2)) ∧ μ' = μ) ∨ ((mo_t μ x ∧ (0 ≤ q0 ∧ q0 ≤ μ 1 0 - 1)) ∧ v = some (rd_I (mo_pl (mo_sv μ) x)) ∧ μ' = mo_in (mo_to (mo_sv μ) (mo_pl (mo_sv μ) x)) q0 x))) args s 0 0 (rd_A r 5)) 5 G rd_km 5 r 47 [rd_R 0, rd_I x, rd_I q0, rd_I (mo_pl (mo_sv μ) x), rd_I k] [] μ1 := by
        intro n
        induction n with
        | zero => intro k μ1  g1 g2 g3 hm; exfalso; omega
        | succ n ih =>
          intro k μ1  g1 g2 g3 hm
          have hr0 : μ1 1 0 = mo_to (mo_sv μ) (mo_pl (mo_sv μ) x) 1 0 := by rw [hm]; unfold mo_up; rw [if_neg (by omega)]
          refine rd_iload C dX10_moveSlide_47 rfl ?_
          refine rd_iload_n C dX10_moveSlide_49 rfl ?_
          refine rd_icmp_le C dX10_moveSlide_50 (tgt := 79) (by decide) (fun h_50 => ?_) (fun h_50 => ?_)
          · refine rd_aload_n C dX10_moveSlide_79 rfl ?_
            refine rd_get C rd_g10_0 rf_X10_7 dX10_moveSlide_80 rd_c0 rd_m0 (x := rd_R (1)) rfl (fun _ => trivial) ?_
            refine rd_iconst C dX10_moveSlide_83 (n := 1) ⟨by decide, by decide⟩ ?_
            refine rd_iload_n C dX10_moveSlide_84 rfl ?_
            refine rd_iadd C dX10_moveSlide_85 (z := 1 + q0) rfl ⟨by omega, by omega⟩ ?_
            refine rd_iload_n C dX10_moveSlide_86 rfl ?_
            refine rd_iast C rd_ai18 dX10_moveSlide_87 rd_c1 rd_m1 ⟨by omega, by omega⟩ ?_
            refine rd_aload_n C dX10_moveSlide_88 rfl ?_
            refine rd_get C rd_g10_0 rf_X10_7 dX10_moveSlide_89 rd_c0 rd_m0 (x := rd_R (1)) rfl (fun _ => trivial) ?_
            refine rd_iconst C dX10_moveSlide_92 (n := 0) ⟨by decide, by decide⟩ ?_
            refine rd_dup2 C dX10_moveSlide_93 ?_
            refine rd_ialdx C rd_ai18 dX10_moveSlide_94 rd_c1 rd_m1 ⟨by omega, by omega⟩ (z := μ1 1 0) (by rw [rd_u_j _ _ _ (by omega)]) ?_
            refine rd_iconst C dX10_moveSlide_95 (n := 1) ⟨by decide, by decide⟩ ?_
            refine rd_iadd C dX10_moveSlide_96 (z := μ1 1 0 + 1) rfl ⟨by omega, by omega⟩ ?_
            refine rd_iast C rd_ai18 dX10_moveSlide_97 rd_c1 rd_m1 ⟨by omega, by omega⟩ ?_
            refine rd_iload_n C dX10_moveSlide_98 rfl ?_
            exact rd_iret C dX10_moveSlide_99 (Or.inr (Or.inr (⟨⟨hw_5, by assumption⟩, rfl, by rw [hm, show k = q0 by omega]; rfl⟩)))
          · refine rd_aload_n C dX10_moveSlide_53 rfl ?_
            refine rd_get C rd_g10_0 rf_X10_7 dX10_moveSlide_54 rd_c0 rd_m0 (x := rd_R (1)) rfl (fun _ => trivial) ?_
            refine rd_iconst C dX10_moveSlide_57 (n := 1) ⟨by decide, by decide⟩ ?_
            refine rd_iload C dX10_moveSlide_58 rfl ?_
            refine rd_iadd C dX10_moveSlide_60 (z := 1 + k) rfl ⟨by omega, by omega⟩ ?_
            refine rd_aload_n C dX10_moveSlide_61 rfl ?_
            refine rd_get C rd_g10_0 rf_X10_7 dX10_moveSlide_62 rd_c0 rd_m0 (x := rd_R (1)) rfl (fun _ => trivial) ?_
            refine rd_iconst C dX10_moveSlide_65 (n := 1) ⟨by decide, by decide⟩ ?_
            refine rd_iload C dX10_moveSlide_66 rfl ?_
            refine rd_iadd C dX10_moveSlide_68 (z := 1 + k) rfl ⟨by omega, by omega⟩ ?_
            refine rd_iconst C dX10_moveSlide_69 (n := 1) ⟨by decide, by decide⟩ ?_
            refine rd_isub C dX10_moveSlide_70 (z := 1 + k - 1) rfl ⟨by omega, by omega⟩ ?_
            refine rd_ialdx C rd_ai18 dX10_moveSlide_71 rd_c1 rd_m1 ⟨by omega, by omega⟩ (z := μ1 1 (1 + k - 1)) rfl ?_
            refine rd_iast C rd_ai18 dX10_moveSlide_72 rd_c1 rd_m1 ⟨by omega, by omega⟩ ?_
            refine rd_iinc C dX10_moveSlide_73 (by decide) rfl ⟨by omega, by omega⟩ (L' := [rd_R 0, rd_I x, rd_I q0, rd_I (mo_pl (mo_sv μ) x), rd_I (k + (-1))]) rfl ?_
            refine rd_goto C dX10_moveSlide_76 (tgt := 47) (by decide) ?_
            exact ih (k + -1) _ (by omega) (by omega) (by omega) (by rw [hm]; generalize mo_to (mo_sv μ) (mo_pl (mo_sv μ) x) = ρ at hto0 g2; funext a b; simp only [rd_u, mo_up]; (repeat' split) <;> first | rfl | (exfalso; omega) | grind)
      exact lp47 (mo_to (mo_sv μ) (mo_pl (mo_sv μ) x) 1 0 - q0 + 1).toNat (mo_to (mo_sv μ) (mo_pl (mo_sv μ) x) 1 0) _ (by omega) (by omega) (by omega) (by funext a b; unfold mo_up; rw [if_neg (by omega)])
    · rw [hv1, hm1]; clear hv1 hm1 v1 w1
      refine rd_if_ne C dX10_moveSlide_23 (tgt := 29) (by decide) (fun h => absurd h (by decide)) (fun _ => ?_)
      refine rd_bipush C dX10_moveSlide_26 (n := -2) (by decide) ⟨by decide, by decide⟩ ?_
      exact rd_iret C dX10_moveSlide_28 (Or.inr (Or.inl ⟨⟨hw_5, by assumption⟩, rfl, rfl⟩))
  · rw [hv1, hm1]; clear hv1 hm1 v1 w1
    refine rd_if_ne C dX10_moveSlide_5 (tgt := 10) (by decide) (fun h => absurd h (by decide)) (fun _ => ?_)
    refine rd_iconst C dX10_moveSlide_8 (n := -1) ⟨by decide, by decide⟩ ?_
    exact rd_iret C dX10_moveSlide_9 (Or.inl ⟨hw_5, rfl, rfl⟩)
set_option maxHeartbeats 4000000 in
set_option maxRecDepth 100000 in
theorem c_X10_setPause {l : Launch} {G : rd_G} {r : Nat} {μ : rd_Mem} (hI : mo_I μ) (hst : 0 ≤ μ 0 1 ∧ μ 0 1 ≤ 4) {x q0 : Int} : rd_M l G rd_km 5 r yX10_setPause cX10_setPause 4 (some .int) (rd_rm 2 44) [rd_R 0, rd_I x, rd_I q0] μ (fun v μ' => (¬ mo_t μ x ∧ v = some (rd_I (-1)) ∧ μ' = μ) ∨ ((mo_t μ x ∧ (q0 < 0 ∨ 60 < q0)) ∧ v = some (rd_I (-2)) ∧ μ' = μ) ∨ ((mo_t μ x ∧ (0 ≤ q0 ∧ q0 ≤ 60)) ∧ v = some (rd_I (mo_o (mo_sv μ) x 2)) ∧ μ' = rd_u (mo_sv μ) 1 (156 + 32 * x + 2) q0)) := by
  refine rd_enter (by decide +kernel) (Nat.le_of_ble_eq_true rfl) [rd_R 0, rd_I x, rd_I q0, rd_J] rfl (fun p e s m args below meth c C => ?_)
  refine rd_W.rng (fun hM hL _ => ?_)
  have hc := hI.1.1
  have hc1 := hc.1.1
  have hc2 := hc.1.2
  have hn1 := hI.1.2.2.2.1
  have hn2 := hI.1.2.2.2.2
  refine rd_aload_n C dX10_setPause_0 rfl ?_
  refine rd_iload_n C dX10_setPause_1 rfl ?_
  refine rd_callV C (c_X10_isSlide) rm_X10_30 ri_X10_isSlide rs_X10_isSlide rc_X10_isSlide rz_X10 ⟨rp_X10_isSlide, rfl, rfl, by decide, by decide⟩ rfl rd_kcl10 dX10_setPause_2 rd_c0 rd_m0 rfl (Nat.le_of_ble_eq_true rfl) (fun v1 w1 hq => ?_)
  rcases hq with ⟨hw_5, hv1, hm1⟩ | ⟨hw_5, hv1, hm1⟩
  · rw [hv1, hm1]; clear hv1 hm1 v1 w1
    refine rd_if_ne C dX10_setPause_5 (tgt := 10) (by decide) (fun _ => ?_) (fun h => absurd h (by decide))
    refine rd_iload_n C dX10_setPause_10 rfl ?_
    refine rd_iconst C dX10_setPause_11 (n := 0) ⟨by decide, by decide⟩ ?_
    refine rd_bipush C dX10_setPause_12 (n := 60) (by decide) ⟨by decide, by decide⟩ ?_
    refine rd_callS C (c_X10_in) rm_X10_22 rt_X10_in rc_X10_in rz_X10 ⟨rp_X10_in, rfl, rfl, by decide, by decide⟩ rfl dX10_setPause_14 rfl (Nat.le_of_ble_eq_true rfl) (fun v1 w1 hq => ?_)
    rcases hq with ⟨hw_17, hv1, hm1⟩ | ⟨hw_17, hv1, hm1⟩
    · rw [hv1, hm1]; clear hv1 hm1 v1 w1
      refine rd_if_ne C dX10_setPause_17 (tgt := 23) (by decide) (fun _ => ?_) (fun h => absurd h (by decide))
      refine rd_aload_n C dX10_setPause_23 rfl ?_
      refine rd_callV C (c_X10_save hst) rm_X10_76 ri_X10_save rs_X10_save rc_X10_save rz_X10 ⟨rp_X10_save, rfl, rfl, by decide, by decide⟩ rfl rd_kcl10 dX10_setPause_24 rd_c0 rd_m0 rfl (Nat.le_of_ble_eq_true rfl) (fun v1 w1 hq => ?_)
      obtain ⟨hv1, hm1⟩ := hq; rw [hv1, show w1 = mo_sv μ from hm1]; clear hv1 hm1
      have hIs := mo_sv_I hst hI
      have hcs := hIs.1.1
      have hcs1 := hcs.1.1
      have hcs2 := hcs.1.2
      have hns1 := hIs.1.2.2.2.1
      have hns2 := hIs.1.2.2.2.2
      have hts := (mo_sv_t hst (n := x)).mpr hw_5
      have htr := hts.1
      have hits := (hIs.1.2.1 _ hts).1
      have hits1 := hits.1.1
      have hits2 := hits.1.2
      have hpos := (hIs.1.2.1 _ hts).2
      refine rd_aload_n C dX10_setPause_27 rfl ?_
      refine rd_iload_n C dX10_setPause_28 rfl ?_
      refine rd_iconst C dX10_setPause_29 (n := 2) ⟨by decide, by decide⟩ ?_
      refine rd_callV C (c_X10_of (i := x) (q := 2) htr ⟨by omega, by omega⟩) rm_X10_26 ri_X10_of rs_X10_of rc_X10_of rz_X10 ⟨rp_X10_of, rfl, rfl, by decide, by decide⟩ rfl rd_kcl10 dX10_setPause_30 rd_c0 rd_m0 rfl (Nat.le_of_ble_eq_true rfl) (fun v1 w1 hq => ?_)
      obtain ⟨hv1, hm1⟩ := hq; rw [show v1 = some (rd_I (mo_o (mo_sv μ) x 2)) from hv1, hm1]; clear hv1 hm1
      refine rd_istore_n C dX10_setPause_33 (by decide) (L' := [rd_R 0, rd_I x, rd_I q0, rd_I (mo_o (mo_sv μ) x 2)]) rfl ?_
      refine rd_aload_n C dX10_setPause_34 rfl ?_
      refine rd_iload_n C dX10_setPause_35 rfl ?_
      refine rd_iconst C dX10_setPause_36 (n := 2) ⟨by decide, by decide⟩ ?_
      refine rd_iload_n C dX10_setPause_37 rfl ?_
      refine rd_callV C (c_X10_lay htr ⟨by omega, by omega⟩) rm_X10_79 ri_X10_lay rs_X10_lay rc_X10_lay rz_X10 ⟨rp_X10_lay, rfl, rfl, by decide, by decide⟩ rfl rd_kcl10 dX10_setPause_38 rd_c0 rd_m0 rfl (Nat.le_of_ble_eq_true rfl) (fun v1 w1 hq => ?_)
      obtain ⟨hv1, hm1⟩ := hq; rw [hv1, show w1 = rd_u (mo_sv μ) 1 (156 + 32 * x + 2) q0 from hm1]; clear hv1 hm1
      refine rd_iload_n C dX10_setPause_41 rfl ?_
      exact rd_iret C dX10_setPause_42 (Or.inr (Or.inr (⟨⟨hw_5, by assumption⟩, rfl, rfl⟩)))
    · rw [hv1, hm1]; clear hv1 hm1 v1 w1
      refine rd_if_ne C dX10_setPause_17 (tgt := 23) (by decide) (fun h => absurd h (by decide)) (fun _ => ?_)
      refine rd_bipush C dX10_setPause_20 (n := -2) (by decide) ⟨by decide, by decide⟩ ?_
      exact rd_iret C dX10_setPause_22 (Or.inr (Or.inl ⟨⟨hw_5, by assumption⟩, rfl, rfl⟩))
  · rw [hv1, hm1]; clear hv1 hm1 v1 w1
    refine rd_if_ne C dX10_setPause_5 (tgt := 10) (by decide) (fun h => absurd h (by decide)) (fun _ => ?_)
    refine rd_iconst C dX10_setPause_8 (n := -1) ⟨by decide, by decide⟩ ?_
    exact rd_iret C dX10_setPause_9 (Or.inl ⟨hw_5, rfl, rfl⟩)
set_option maxHeartbeats 4000000 in
set_option maxRecDepth 100000 in
theorem c_X10_setEnd {l : Launch} {G : rd_G} {r : Nat} {μ : rd_Mem} (hI : mo_I μ) (hst : 0 ≤ μ 0 1 ∧ μ 0 1 ≤ 4) {q0 : Int} : rd_M l G rd_km 5 r yX10_setEnd cX10_setEnd 3 (some .int) (rd_rm 2 44) [rd_R 0, rd_I q0] μ (fun v μ' => ((q0 < 0 ∨ 9999 < q0) ∧ v = some (rd_I (-2)) ∧ μ' = μ) ∨ ((0 ≤ q0 ∧ q0 ≤ 9999) ∧ v = some (rd_I (mo_sv μ 1 28)) ∧ μ' = rd_u (mo_sv μ) 1 28 q0)) := by
  refine rd_enter (by decide +kernel) (Nat.le_of_ble_eq_true rfl) [rd_R 0, rd_I q0, rd_J] rfl (fun p e s m args below meth c C => ?_)
  refine rd_W.rng (fun hM hL _ => ?_)
  have hc := hI.1.1
  have hc1 := hc.1.1
  have hc2 := hc.1.2
  have hn1 := hI.1.2.2.2.1
  have hn2 := hI.1.2.2.2.2
  refine rd_iload_n C dX10_setEnd_0 rfl ?_
  refine rd_iconst C dX10_setEnd_1 (n := 0) ⟨by decide, by decide⟩ ?_
  refine rd_sipush C dX10_setEnd_2 (n := 9999) (by decide) ⟨by decide, by decide⟩ ?_
  refine rd_callS C (c_X10_in) rm_X10_22 rt_X10_in rc_X10_in rz_X10 ⟨rp_X10_in, rfl, rfl, by decide, by decide⟩ rfl dX10_setEnd_5 rfl (Nat.le_of_ble_eq_true rfl) (fun v1 w1 hq => ?_)
  rcases hq with ⟨hw_8, hv1, hm1⟩ | ⟨hw_8, hv1, hm1⟩
  · rw [hv1, hm1]; clear hv1 hm1 v1 w1
    refine rd_if_ne C dX10_setEnd_8 (tgt := 14) (by decide) (fun _ => ?_) (fun h => absurd h (by decide))
    refine rd_aload_n C dX10_setEnd_14 rfl ?_
    refine rd_callV C (c_X10_save hst) rm_X10_76 ri_X10_save rs_X10_save rc_X10_save rz_X10 ⟨rp_X10_save, rfl, rfl, by decide, by decide⟩ rfl rd_kcl10 dX10_setEnd_15 rd_c0 rd_m0 rfl (Nat.le_of_ble_eq_true rfl) (fun v1 w1 hq => ?_)
    obtain ⟨hv1, hm1⟩ := hq; rw [hv1, show w1 = mo_sv μ from hm1]; clear hv1 hm1
    have hIs := mo_sv_I hst hI
    have hcs := hIs.1.1
    have hcs1 := hcs.1.1
    have hcs2 := hcs.1.2
    have hns1 := hIs.1.2.2.2.1
    have hns2 := hIs.1.2.2.2.2
    refine rd_aload_n C dX10_setEnd_18 rfl ?_
    refine rd_get C rd_g10_0 rf_X10_7 dX10_setEnd_19 rd_c0 rd_m0 (x := rd_R (1)) rfl (fun _ => trivial) ?_
    refine rd_bipush C dX10_setEnd_22 (n := 28) (by decide) ⟨by decide, by decide⟩ ?_
    refine rd_ialdx C rd_ai18 dX10_setEnd_24 rd_c1 rd_m1 ⟨by omega, by omega⟩ (z := (mo_sv μ) 1 28) rfl ?_
    refine rd_istore_n C dX10_setEnd_25 (by decide) (L' := [rd_R 0, rd_I q0, rd_I ((mo_sv μ) 1 28)]) rfl ?_
    refine rd_aload_n C dX10_setEnd_26 rfl ?_
    refine rd_get C rd_g10_0 rf_X10_7 dX10_setEnd_27 rd_c0 rd_m0 (x := rd_R (1)) rfl (fun _ => trivial) ?_
    refine rd_bipush C dX10_setEnd_30 (n := 28) (by decide) ⟨by decide, by decide⟩ ?_
    refine rd_iload_n C dX10_setEnd_32 rfl ?_
    refine rd_iast C rd_ai18 dX10_setEnd_33 rd_c1 rd_m1 ⟨by omega, by omega⟩ ?_
    refine rd_iload_n C dX10_setEnd_34 rfl ?_
    exact rd_iret C dX10_setEnd_35 (Or.inr (⟨by assumption, rfl, rfl⟩))
  · rw [hv1, hm1]; clear hv1 hm1 v1 w1
    refine rd_if_ne C dX10_setEnd_8 (tgt := 14) (by decide) (fun h => absurd h (by decide)) (fun _ => ?_)
    refine rd_bipush C dX10_setEnd_11 (n := -2) (by decide) ⟨by decide, by decide⟩ ?_
    exact rd_iret C dX10_setEnd_13 (Or.inl ⟨by assumption, rfl, rfl⟩)
set_option maxHeartbeats 4000000 in
set_option maxRecDepth 100000 in
theorem c_X10_hide {l : Launch} {G : rd_G} {r : Nat} {μ : rd_Mem} (hI : mo_I μ) (hst : 0 ≤ μ 0 1 ∧ μ 0 1 ≤ 4) {x b0 : Int} (hb0 : b0 = 0 ∨ b0 = 1) (hhid : ∀ n, mo_t (mo_sv μ) n → 0 ≤ mo_o (mo_sv μ) n 1 ∧ mo_o (mo_sv μ) n 1 ≤ 1) : rd_M l G rd_km 5 r yX10_hide cX10_hide 5 (some .int) (rd_rm 2 44) [rd_R 0, rd_I x, rd_I b0] μ (fun v μ' => (¬ mo_t μ x ∧ v = some (rd_I (-1)) ∧ μ' = μ) ∨ (mo_t μ x ∧ v = some (rd_I (sp_sum (fun i => mo_o (rd_u (mo_sv μ) 1 (156 + 32 * x + 1) b0) ((rd_u (mo_sv μ) 1 (156 + 32 * x + 1) b0) 1 (1 + i)) 1) (mo_sv μ 1 0).toNat)) ∧ μ' = rd_u (mo_sv μ) 1 (156 + 32 * x + 1) b0)) := by
  refine rd_enter (by decide +kernel) (Nat.le_of_ble_eq_true rfl) [rd_R 0, rd_I x, rd_I b0, rd_J, rd_J] rfl (fun p e s m args below meth c C => ?_)
  refine rd_W.rng (fun hM hL _ => ?_)
  have hc := hI.1.1
  have hc1 := hc.1.1
  have hc2 := hc.1.2
  have hn1 := hI.1.2.2.2.1
  have hn2 := hI.1.2.2.2.2
  refine rd_aload_n C dX10_hide_0 rfl ?_
  refine rd_iload_n C dX10_hide_1 rfl ?_
  refine rd_callV C (c_X10_isSlide) rm_X10_30 ri_X10_isSlide rs_X10_isSlide rc_X10_isSlide rz_X10 ⟨rp_X10_isSlide, rfl, rfl, by decide, by decide⟩ rfl rd_kcl10 dX10_hide_2 rd_c0 rd_m0 rfl (Nat.le_of_ble_eq_true rfl) (fun v1 w1 hq => ?_)
  rcases hq with ⟨hw_5, hv1, hm1⟩ | ⟨hw_5, hv1, hm1⟩
  · rw [hv1, hm1]; clear hv1 hm1 v1 w1
    refine rd_if_ne C dX10_hide_5 (tgt := 10) (by decide) (fun _ => ?_) (fun h => absurd h (by decide))
    refine rd_aload_n C dX10_hide_10 rfl ?_
    refine rd_callV C (c_X10_save hst) rm_X10_76 ri_X10_save rs_X10_save rc_X10_save rz_X10 ⟨rp_X10_save, rfl, rfl, by decide, by decide⟩ rfl rd_kcl10 dX10_hide_11 rd_c0 rd_m0 rfl (Nat.le_of_ble_eq_true rfl) (fun v1 w1 hq => ?_)
    obtain ⟨hv1, hm1⟩ := hq; rw [hv1, show w1 = mo_sv μ from hm1]; clear hv1 hm1
    have hIs := mo_sv_I hst hI
    have hcs := hIs.1.1
    have hcs1 := hcs.1.1
    have hcs2 := hcs.1.2
    have hns1 := hIs.1.2.2.2.1
    have hns2 := hIs.1.2.2.2.2
    have hts := (mo_sv_t hst (n := x)).mpr hw_5
    have htr := hts.1
    have hits := (hIs.1.2.1 _ hts).1
    have hits1 := hits.1.1
    have hits2 := hits.1.2
    have hpos := (hIs.1.2.1 _ hts).2
    refine rd_aload_n C dX10_hide_14 rfl ?_
    refine rd_iload_n C dX10_hide_15 rfl ?_
    refine rd_iconst C dX10_hide_16 (n := 1) ⟨by decide, by decide⟩ ?_
    refine rd_iload_n C dX10_hide_17 rfl ?_
    refine rd_if_eq C dX10_hide_18 (tgt := 25) (by decide) (fun h_18 => ?_) (fun h_18 => ?_)
    · refine rd_iconst C dX10_hide_25 (n := 0) ⟨by decide, by decide⟩ ?_
      refine rd_callV C (c_X10_lay htr ⟨by omega, by omega⟩) rm_X10_79 ri_X10_lay rs_X10_lay rc_X10_lay rz_X10 ⟨rp_X10_lay, rfl, rfl, by decide, by decide⟩ rfl rd_kcl10 dX10_hide_26 rd_c0 rd_m0 rfl (Nat.le_of_ble_eq_true rfl) (fun v1 w1 hq => ?_)
      obtain ⟨hv1, hm1⟩ := hq; rw [hv1, show w1 = rd_u (mo_sv μ) 1 (156 + 32 * x + 1) 0 from hm1]; clear hv1 hm1
      have hbb : b0 = 0 := by omega
      rw [show rd_u (mo_sv μ) 1 (156 + 32 * x + 1) 0 = rd_u (mo_sv μ) 1 (156 + 32 * x + 1) b0 from by rw [hbb]]
      have hh0 : (rd_u (mo_sv μ) 1 (156 + 32 * x + 1) b0) 1 0 = mo_sv μ 1 0 := rd_u_j _ _ _ (by omega)
      refine rd_iconst C dX10_hide_29 (n := 0) ⟨by decide, by decide⟩ ?_
      refine rd_istore_n C dX10_hide_30 (by decide) (L' := [rd_R 0, rd_I x, rd_I b0, rd_I 0, rd_J]) rfl ?_
      refine rd_iconst C dX10_hide_31 (n := 0) ⟨by decide, by decide⟩ ?_
      refine rd_istore C dX10_hide_32 (by decide) (L' := [rd_R 0, rd_I x, rd_I b0, rd_I 0, rd_I 0]) rfl ?_
      have lp34 : ∀ (n : Nat) (k : Nat) (x3 c4 : Int), ((k : Int) ≤ (rd_u (mo_sv μ) 1 (156 + 32 * x + 1) b0) 1 0) → ((rd_u (mo_sv μ) 1 (156 + 32 * x + 1) b0) 1 0 < k + n) → (x3 = sp_sum (fun i => mo_o (rd_u (mo_sv μ) 1 (156 + 32 * x + 1) b0) ((rd_u (mo_sv μ) 1 (156 + 32 * x + 1) b0) 1 (1 + i)) 1) k) → (0 ≤ x3 ∧ x3 ≤ k) → (c4 = (k : Int)) → rd_W p l e (rd_rm 2 44) s m args below meth c (MQ below (rd_Qc G rd_km 5 r (fun v μ' => (¬ mo_t μ x ∧ v = some (rd_I (-1)) ∧ μ' = μ) ∨ (mo_t μ x ∧ v = some (rd_I (sp_sum (fun i => mo_o (rd_u (mo_sv μ) 1 (156 + 32 * x + 1) b0) ((rd_u (mo_sv μ) 1 (156 + 32 * x + 1) b0) 1 (1 + i)) 1) (mo_sv μ 1 0).toNat)) ∧ μ' = rd_u (mo_sv μ) 1 (156 + 32 * x + 1) b0))) args s 0 0 (rd_A r 5)) 5 G rd_km 5 r 34 [rd_R 0, rd_I x, rd_I b0, rd_I x3, rd_I c4] [] (rd_u (mo_sv μ) 1 (156 + 32 * x + 1) b0) := by
        intro n
        induction n with
        | zero => intro k x3 c4  g2 g3 hx hx2 hc4; exfalso; omega
        | succ n ih =>
          intro k x3 c4  g2 g3 hx hx2 hc4
          refine rd_iload C dX10_hide_34 rfl ?_
          refine rd_aload_n C dX10_hide_36 rfl ?_
          refine rd_get C rd_g10_0 rf_X10_7 dX10_hide_37 rd_c0 rd_m0 (x := rd_R (1)) rfl (fun _ => trivial) ?_
          refine rd_iconst C dX10_hide_40 (n := 0) ⟨by decide, by decide⟩ ?_
          refine rd_ialdx C rd_ai18 dX10_hide_41 rd_c1 rd_m1 ⟨by omega, by omega⟩ (z := (rd_u (mo_sv μ) 1 (156 + 32 * x + 1) b0) 1 0) rfl ?_
          refine rd_icmp_ge C dX10_hide_42 (tgt := 68) (by decide) (fun h_42 => ?_) (fun h_42 => ?_)
          · refine rd_iload_n C dX10_hide_68 rfl ?_
            exact rd_iret C dX10_hide_69 (Or.inr (⟨hw_5, by rw [hx, show k = (mo_sv μ 1 0).toNat by omega], rfl⟩))
          · refine rd_iload_n C dX10_hide_45 rfl ?_
            refine rd_aload_n C dX10_hide_46 rfl ?_
            have hci1 : (rd_u (mo_sv μ) 1 (156 + 32 * x + 1) b0) 1 (1 + c4) = mo_sv μ 1 (1 + c4) := rd_u_j _ _ _ (by omega)
            have hci : 0 ≤ (rd_u (mo_sv μ) 1 (156 + 32 * x + 1) b0) 1 (1 + c4) ∧ (rd_u (mo_sv μ) 1 (156 + 32 * x + 1) b0) 1 (1 + c4) ≤ 9 := by rw [hci1]; exact hcs.2 c4 (by omega) (by omega)
            have hcv : 0 ≤ mo_o (rd_u (mo_sv μ) 1 (156 + 32 * x + 1) b0) ((rd_u (mo_sv μ) 1 (156 + 32 * x + 1) b0) 1 (1 + c4)) 1 ∧ mo_o (rd_u (mo_sv μ) 1 (156 + 32 * x + 1) b0) ((rd_u (mo_sv μ) 1 (156 + 32 * x + 1) b0) 1 (1 + c4)) 1 ≤ 1 := by
              have hv := hhid _ (hIs.1.2.2.1 c4 (by omega) (by omega))
              show 0 ≤ (rd_u (mo_sv μ) 1 (156 + 32 * x + 1) b0) 1 _ ∧ (rd_u (mo_sv μ) 1 (156 + 32 * x + 1) b0) 1 _ ≤ 1
              rw [hci1]
              by_cases hs : mo_sv μ 1 (1 + c4) = x
              · rw [hs, rd_u_s]; omega
              · rw [rd_u_j _ _ _ (by omega)]; exact hv
            refine rd_aload_n C dX10_hide_47 rfl ?_
            refine rd_get C rd_g10_0 rf_X10_7 dX10_hide_48 rd_c0 rd_m0 (x := rd_R (1)) rfl (fun _ => trivial) ?_
            refine rd_iconst C dX10_hide_51 (n := 1) ⟨by decide, by decide⟩ ?_
            refine rd_iload C dX10_hide_52 rfl ?_
            refine rd_iadd C dX10_hide_54 (z := 1 + c4) rfl ⟨by omega, by omega⟩ ?_
            refine rd_ialdx C rd_ai18 dX10_hide_55 rd_c1 rd_m1 ⟨by omega, by omega⟩ (z := (rd_u (mo_sv μ) 1 (156 + 32 * x + 1) b0) 1 (1 + c4)) rfl ?_
            refine rd_iconst C dX10_hide_56 (n := 1) ⟨by decide, by decide⟩ ?_
            refine rd_callV C (c_X10_of (i := (rd_u (mo_sv μ) 1 (156 + 32 * x + 1) b0) 1 (1 + c4)) (q := 1) hci ⟨by omega, by omega⟩) rm_X10_26 ri_X10_of rs_X10_of rc_X10_of rz_X10 ⟨rp_X10_of, rfl, rfl, by decide, by decide⟩ rfl rd_kcl10 dX10_hide_57 rd_c0 rd_m0 rfl (Nat.le_of_ble_eq_true rfl) (fun v1 w1 hq => ?_)
            obtain ⟨hv1, hm1⟩ := hq; rw [show v1 = some (rd_I (mo_o (rd_u (mo_sv μ) 1 (156 + 32 * x + 1) b0) ((rd_u (mo_sv μ) 1 (156 + 32 * x + 1) b0) 1 (1 + c4)) 1)) from hv1, hm1]; clear hv1 hm1
            refine rd_iadd C dX10_hide_60 (z := x3 + (mo_o (rd_u (mo_sv μ) 1 (156 + 32 * x + 1) b0) ((rd_u (mo_sv μ) 1 (156 + 32 * x + 1) b0) 1 (1 + c4)) 1)) rfl ⟨by omega, by omega⟩ ?_
            refine rd_istore_n C dX10_hide_61 (by decide) (L' := [rd_R 0, rd_I x, rd_I b0, rd_I (x3 + (mo_o (rd_u (mo_sv μ) 1 (156 + 32 * x + 1) b0) ((rd_u (mo_sv μ) 1 (156 + 32 * x + 1) b0) 1 (1 + c4)) 1)), rd_I c4]) rfl ?_
            refine rd_iinc C dX10_hide_62 (by decide) rfl ⟨by omega, by omega⟩ (L' := [rd_R 0, rd_I x, rd_I b0, rd_I (x3 + (mo_o (rd_u (mo_sv μ) 1 (156 + 32 * x + 1) b0) ((rd_u (mo_sv μ) 1 (156 + 32 * x + 1) b0) 1 (1 + c4)) 1)), rd_I (c4 + 1)]) rfl ?_
            refine rd_goto C dX10_hide_65 (tgt := 34) (by decide) ?_
            exact ih (k + 1) _ _ (by omega) (by omega) (by simp only [sp_sum]; rw [hx, ← hc4]) (by omega) (by omega)
      exact lp34 11 0 0 0 (by omega) (by omega) rfl (by omega) rfl
    · refine rd_iconst C dX10_hide_21 (n := 1) ⟨by decide, by decide⟩ ?_
      refine rd_goto C dX10_hide_22 (tgt := 26) (by decide) ?_
      refine rd_callV C (c_X10_lay htr ⟨by omega, by omega⟩) rm_X10_79 ri_X10_lay rs_X10_lay rc_X10_lay rz_X10 ⟨rp_X10_lay, rfl, rfl, by decide, by decide⟩ rfl rd_kcl10 dX10_hide_26 rd_c0 rd_m0 rfl (Nat.le_of_ble_eq_true rfl) (fun v1 w1 hq => ?_)
      obtain ⟨hv1, hm1⟩ := hq; rw [hv1, show w1 = rd_u (mo_sv μ) 1 (156 + 32 * x + 1) 1 from hm1]; clear hv1 hm1
      have hbb : b0 = 1 := by omega
      rw [show rd_u (mo_sv μ) 1 (156 + 32 * x + 1) 1 = rd_u (mo_sv μ) 1 (156 + 32 * x + 1) b0 from by rw [hbb]]
      have hh0 : (rd_u (mo_sv μ) 1 (156 + 32 * x + 1) b0) 1 0 = mo_sv μ 1 0 := rd_u_j _ _ _ (by omega)
      refine rd_iconst C dX10_hide_29 (n := 0) ⟨by decide, by decide⟩ ?_
      refine rd_istore_n C dX10_hide_30 (by decide) (L' := [rd_R 0, rd_I x, rd_I b0, rd_I 0, rd_J]) rfl ?_
      refine rd_iconst C dX10_hide_31 (n := 0) ⟨by decide, by decide⟩ ?_
      refine rd_istore C dX10_hide_32 (by decide) (L' := [rd_R 0, rd_I x, rd_I b0, rd_I 0, rd_I 0]) rfl ?_
      have lp34 : ∀ (n : Nat) (k : Nat) (x3 c4 : Int), ((k : Int) ≤ (rd_u (mo_sv μ) 1 (156 + 32 * x + 1) b0) 1 0) → ((rd_u (mo_sv μ) 1 (156 + 32 * x + 1) b0) 1 0 < k + n) → (x3 = sp_sum (fun i => mo_o (rd_u (mo_sv μ) 1 (156 + 32 * x + 1) b0) ((rd_u (mo_sv μ) 1 (156 + 32 * x + 1) b0) 1 (1 + i)) 1) k) → (0 ≤ x3 ∧ x3 ≤ k) → (c4 = (k : Int)) → rd_W p l e (rd_rm 2 44) s m args below meth c (MQ below (rd_Qc G rd_km 5 r (fun v μ' => (¬ mo_t μ x ∧ v = some (rd_I (-1)) ∧ μ' = μ) ∨ (mo_t μ x ∧ v = some (rd_I (sp_sum (fun i => mo_o (rd_u (mo_sv μ) 1 (156 + 32 * x + 1) b0) ((rd_u (mo_sv μ) 1 (156 + 32 * x + 1) b0) 1 (1 + i)) 1) (mo_sv μ 1 0).toNat)) ∧ μ' = rd_u (mo_sv μ) 1 (156 + 32 * x + 1) b0))) args s 0 0 (rd_A r 5)) 5 G rd_km 5 r 34 [rd_R 0, rd_I x, rd_I b0, rd_I x3, rd_I c4] [] (rd_u (mo_sv μ) 1 (156 + 32 * x + 1) b0) := by
        intro n
        induction n with
        | zero => intro k x3 c4  g2 g3 hx hx2 hc4; exfalso; omega
        | succ n ih =>
          intro k x3 c4  g2 g3 hx hx2 hc4
          refine rd_iload C dX10_hide_34 rfl ?_
          refine rd_aload_n C dX10_hide_36 rfl ?_
          refine rd_get C rd_g10_0 rf_X10_7 dX10_hide_37 rd_c0 rd_m0 (x := rd_R (1)) rfl (fun _ => trivial) ?_
          refine rd_iconst C dX10_hide_40 (n := 0) ⟨by decide, by decide⟩ ?_
          refine rd_ialdx C rd_ai18 dX10_hide_41 rd_c1 rd_m1 ⟨by omega, by omega⟩ (z := (rd_u (mo_sv μ) 1 (156 + 32 * x + 1) b0) 1 0) rfl ?_
          refine rd_icmp_ge C dX10_hide_42 (tgt := 68) (by decide) (fun h_42 => ?_) (fun h_42 => ?_)
          · refine rd_iload_n C dX10_hide_68 rfl ?_
            exact rd_iret C dX10_hide_69 (Or.inr (⟨hw_5, by rw [hx, show k = (mo_sv μ 1 0).toNat by omega], rfl⟩))
          · refine rd_iload_n C dX10_hide_45 rfl ?_
            refine rd_aload_n C dX10_hide_46 rfl ?_
            have hci1 : (rd_u (mo_sv μ) 1 (156 + 32 * x + 1) b0) 1 (1 + c4) = mo_sv μ 1 (1 + c4) := rd_u_j _ _ _ (by omega)
            have hci : 0 ≤ (rd_u (mo_sv μ) 1 (156 + 32 * x + 1) b0) 1 (1 + c4) ∧ (rd_u (mo_sv μ) 1 (156 + 32 * x + 1) b0) 1 (1 + c4) ≤ 9 := by rw [hci1]; exact hcs.2 c4 (by omega) (by omega)
            have hcv : 0 ≤ mo_o (rd_u (mo_sv μ) 1 (156 + 32 * x + 1) b0) ((rd_u (mo_sv μ) 1 (156 + 32 * x + 1) b0) 1 (1 + c4)) 1 ∧ mo_o (rd_u (mo_sv μ) 1 (156 + 32 * x + 1) b0) ((rd_u (mo_sv μ) 1 (156 + 32 * x + 1) b0) 1 (1 + c4)) 1 ≤ 1 := by
              have hv := hhid _ (hIs.1.2.2.1 c4 (by omega) (by omega))
              show 0 ≤ (rd_u (mo_sv μ) 1 (156 + 32 * x + 1) b0) 1 _ ∧ (rd_u (mo_sv μ) 1 (156 + 32 * x + 1) b0) 1 _ ≤ 1
              rw [hci1]
              by_cases hs : mo_sv μ 1 (1 + c4) = x
              · rw [hs, rd_u_s]; omega
              · rw [rd_u_j _ _ _ (by omega)]; exact hv
            refine rd_aload_n C dX10_hide_47 rfl ?_
            refine rd_get C rd_g10_0 rf_X10_7 dX10_hide_48 rd_c0 rd_m0 (x := rd_R (1)) rfl (fun _ => trivial) ?_
            refine rd_iconst C dX10_hide_51 (n := 1) ⟨by decide, by decide⟩ ?_
            refine rd_iload C dX10_hide_52 rfl ?_
            refine rd_iadd C dX10_hide_54 (z := 1 + c4) rfl ⟨by omega, by omega⟩ ?_
            refine rd_ialdx C rd_ai18 dX10_hide_55 rd_c1 rd_m1 ⟨by omega, by omega⟩ (z := (rd_u (mo_sv μ) 1 (156 + 32 * x + 1) b0) 1 (1 + c4)) rfl ?_
            refine rd_iconst C dX10_hide_56 (n := 1) ⟨by decide, by decide⟩ ?_
            refine rd_callV C (c_X10_of (i := (rd_u (mo_sv μ) 1 (156 + 32 * x + 1) b0) 1 (1 + c4)) (q := 1) hci ⟨by omega, by omega⟩) rm_X10_26 ri_X10_of rs_X10_of rc_X10_of rz_X10 ⟨rp_X10_of, rfl, rfl, by decide, by decide⟩ rfl rd_kcl10 dX10_hide_57 rd_c0 rd_m0 rfl (Nat.le_of_ble_eq_true rfl) (fun v1 w1 hq => ?_)
            obtain ⟨hv1, hm1⟩ := hq; rw [show v1 = some (rd_I (mo_o (rd_u (mo_sv μ) 1 (156 + 32 * x + 1) b0) ((rd_u (mo_sv μ) 1 (156 + 32 * x + 1) b0) 1 (1 + c4)) 1)) from hv1, hm1]; clear hv1 hm1
            refine rd_iadd C dX10_hide_60 (z := x3 + (mo_o (rd_u (mo_sv μ) 1 (156 + 32 * x + 1) b0) ((rd_u (mo_sv μ) 1 (156 + 32 * x + 1) b0) 1 (1 + c4)) 1)) rfl ⟨by omega, by omega⟩ ?_
            refine rd_istore_n C dX10_hide_61 (by decide) (L' := [rd_R 0, rd_I x, rd_I b0, rd_I (x3 + (mo_o (rd_u (mo_sv μ) 1 (156 + 32 * x + 1) b0) ((rd_u (mo_sv μ) 1 (156 + 32 * x + 1) b0) 1 (1 + c4)) 1)), rd_I c4]) rfl ?_
            refine rd_iinc C dX10_hide_62 (by decide) rfl ⟨by omega, by omega⟩ (L' := [rd_R 0, rd_I x, rd_I b0, rd_I (x3 + (mo_o (rd_u (mo_sv μ) 1 (156 + 32 * x + 1) b0) ((rd_u (mo_sv μ) 1 (156 + 32 * x + 1) b0) 1 (1 + c4)) 1)), rd_I (c4 + 1)]) rfl ?_
            refine rd_goto C dX10_hide_65 (tgt := 34) (by decide) ?_
            exact ih (k + 1) _ _ (by omega) (by omega) (by simp only [sp_sum]; rw [hx, ← hc4]) (by omega) (by omega)
      exact lp34 11 0 0 0 (by omega) (by omega) rfl (by omega) rfl
  · rw [hv1, hm1]; clear hv1 hm1 v1 w1
    refine rd_if_ne C dX10_hide_5 (tgt := 10) (by decide) (fun h => absurd h (by decide)) (fun _ => ?_)
    refine rd_iconst C dX10_hide_8 (n := -1) ⟨by decide, by decide⟩ ?_
    exact rd_iret C dX10_hide_9 (Or.inl ⟨hw_5, rfl, rfl⟩)
