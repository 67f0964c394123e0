set_option maxHeartbeats 4000000 in
set_option maxRecDepth 100000 in
theorem c_X10_fewest {l : Launch} {G : rd_G} {r : Nat} {μ : rd_Mem} {g0 : Int} (hJ : mo_J μ) (h29 : μ 1 29 ≠ 0 → μ 1 29 = 1) (hst : μ 1 29 ≠ 0 → μ 1 31 ≤ mo_FS μ (μ 1 30)) : rd_M l G rd_km 5 r yX10_fewest cX10_fewest 2 (some .int) (rd_rm 5 113) [rd_R 0, rd_I g0] μ (fun v μ' => (¬ mo_t μ g0 ∧ v = some (rd_I (-1)) ∧ μ' = μ) ∨ (mo_t μ g0 ∧ μ 1 29 = 0 ∧ v = some (rd_I (-6)) ∧ μ' = μ) ∨ (mo_t μ g0 ∧ μ 1 29 ≠ 0 ∧ ∃ r : Int, v = some (rd_I r) ∧ ((r = -6 ∧ ∀ (j : Nat) (s : Int), ¬ mo_P μ j g0 s) ∨ (0 ≤ r ∧ (∃ s, mo_P μ r.toNat g0 s) ∧ ∀ (j : Nat) (s : Int), mo_P μ j g0 s → r ≤ j)) ∧ ∀ a : Int, a ≠ 4 → μ' a = μ a)) := by
  refine rd_enter (by decide +kernel) (Nat.le_of_ble_eq_true rfl) [rd_R 0, rd_I g0] rfl (fun p e s m args below meth c C => ?_)
  refine rd_W.rng (fun hM hL _ => ?_)
  refine rd_aload_n C dX10_fewest_0 rfl ?_
  refine rd_iload_n C dX10_fewest_1 rfl ?_
  refine rd_callV C (c_X10_isSlide) rm_X10_30 ri_X10_isSlide rs_X10_isSlide rc_X10_isSlide rz_X10 ⟨rp_X10_isSlide, rfl, rfl, by decide, by decide⟩ rfl rd_kcl10 dX10_fewest_2 rd_c0 rd_m0 rfl (Nat.le_of_ble_eq_true rfl) (fun v1 w1 hq => ?_)
  rcases hq with ⟨hw_5, hv1, hm1⟩ | ⟨hw_5, hv1, hm1⟩
  · rw [hv1, hm1]; clear hv1 hm1 v1 w1
    refine rd_if_ne C dX10_fewest_5 (tgt := 10) (by decide) (fun _ => ?_) (fun h => absurd h (by decide))
    refine rd_aload_n C dX10_fewest_10 rfl ?_
    refine rd_get C rd_g10_0 rf_X10_7 dX10_fewest_11 rd_c0 rd_m0 (x := rd_R (1)) rfl (fun _ => trivial) ?_
    refine rd_bipush C dX10_fewest_14 (n := 29) (by decide) ⟨by decide, by decide⟩ ?_
    refine rd_ialdx C rd_ai18 dX10_fewest_16 rd_c1 rd_m1 ⟨by omega, by omega⟩ (z := μ 1 29) rfl ?_
    refine rd_if_ne C dX10_fewest_17 (tgt := 25) (by decide) (fun h_17 => ?_) (fun h_17 => ?_)
    · refine rd_aload_n C dX10_fewest_25 rfl ?_
      refine rd_iload_n C dX10_fewest_26 rfl ?_
      refine rd_callV C (c_X10_leads hJ (h29 h_17) (hst h_17) hw_5.1) rm_X10_146 ri_X10_leads rs_X10_leads rc_X10_leads rz_X10 ⟨rp_X10_leads, rfl, rfl, by decide, by decide⟩ rfl rd_kcl10 dX10_fewest_27 rd_c0 rd_m0 rfl (Nat.le_of_ble_eq_true rfl) (fun v1 w1 hq => ?_)
      obtain ⟨r0, hv1, hr0, hfr0⟩ := hq; rw [hv1]; clear hv1
      exact rd_iret C dX10_fewest_30 (Or.inr (Or.inr ⟨hw_5, h_17, r0, rfl, hr0, hfr0⟩))
    · refine rd_bipush C dX10_fewest_20 (n := -6) (by decide) ⟨by decide, by decide⟩ ?_
      refine rd_goto C dX10_fewest_22 (tgt := 30) (by decide) ?_
      exact rd_iret C dX10_fewest_30 (Or.inr (Or.inl ⟨hw_5, h_17, rfl, rfl⟩))
  · rw [hv1, hm1]; clear hv1 hm1 v1 w1
    refine rd_if_ne C dX10_fewest_5 (tgt := 10) (by decide) (fun h => absurd h (by decide)) (fun _ => ?_)
    refine rd_iconst C dX10_fewest_8 (n := -1) ⟨by decide, by decide⟩ ?_
    exact rd_iret C dX10_fewest_9 (Or.inl ⟨hw_5, rfl, rfl⟩)
