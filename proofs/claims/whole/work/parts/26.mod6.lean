set_option maxHeartbeats 4000000 in
set_option maxRecDepth 100000 in
theorem c_X10_append {l : Launch} {G : rd_G} {r : Nat} {μ : rd_Mem} (hl : 0 ≤ μ 0 3 ∧ μ 0 3 ≤ 60) {c0 : Int} : rd_M l G rd_km 5 r yX10_append cX10_append 2 (some .int) (rd_rm 1 22) [rd_R 0, rd_I c0] μ (fun v μ' => ((c0 < 32 ∨ 126 < c0) ∧ v = some (rd_I (-2)) ∧ μ' = μ) ∨ (((32 ≤ c0 ∧ c0 ≤ 126) ∧ μ 0 3 = 60) ∧ v = some (rd_I (-4)) ∧ μ' = μ) ∨ (((32 ≤ c0 ∧ c0 ≤ 126) ∧ μ 0 3 ≠ 60) ∧ v = some (rd_I (μ 0 3 + 1)) ∧ μ' = rd_u (rd_u μ 2 (μ 0 3) c0) 0 3 (μ 0 3 + 1))) := by
  refine rd_enter (by decide +kernel) (Nat.le_of_ble_eq_true rfl) [rd_R 0, rd_I c0] rfl (fun p e s m args below meth c C => ?_)
  refine rd_W.rng (fun hM hL _ => ?_)
  refine rd_iload_n C dX10_append_0 rfl ?_
  refine rd_bipush C dX10_append_1 (n := 32) (by decide) ⟨by decide, by decide⟩ ?_
  refine rd_bipush C dX10_append_3 (n := 126) (by decide) ⟨by decide, by decide⟩ ?_
  refine rd_callS C (c_X10_in) rm_X10_22 rt_X10_in rc_X10_in rz_X10 ⟨rp_X10_in, rfl, rfl, by decide, by decide⟩ rfl dX10_append_5 rfl (Nat.le_of_ble_eq_true rfl) (fun v1 w1 hq => ?_)
  rcases hq with ⟨hw_8, hv1, hm1⟩ | ⟨hw_8, hv1, hm1⟩
  · rw [hv1, hm1]; clear hv1 hm1 v1 w1
    refine rd_if_ne C dX10_append_8 (tgt := 14) (by decide) (fun _ => ?_) (fun h => absurd h (by decide))
    refine rd_aload_n C dX10_append_14 rfl ?_
    refine rd_get C rd_g10_3 rf_X10_113 dX10_append_15 rd_c0 rd_m0 (x := rd_I (μ 0 3)) rfl (fun h => h _ _) ?_
    refine rd_bipush C dX10_append_18 (n := 60) (by decide) ⟨by decide, by decide⟩ ?_
    refine rd_icmp_ne C dX10_append_20 (tgt := 26) (by decide) (fun h_20 => ?_) (fun h_20 => ?_)
    · refine rd_aload_n C dX10_append_26 rfl ?_
      refine rd_get C rd_g10_2 rf_X10_13 dX10_append_27 rd_c0 rd_m0 (x := rd_R (2)) rfl (fun _ => trivial) ?_
      refine rd_aload_n C dX10_append_30 rfl ?_
      refine rd_get C rd_g10_3 rf_X10_113 dX10_append_31 rd_c0 rd_m0 (x := rd_I (μ 0 3)) rfl (fun h => h _ _) ?_
      refine rd_iload_n C dX10_append_34 rfl ?_
      refine rd_iast C rd_ai19 dX10_append_35 rd_c2 rd_m2 ⟨by omega, by omega⟩ ?_
      refine rd_aload_n C dX10_append_36 rfl ?_
      refine rd_dup C dX10_append_37 ?_
      refine rd_getx C rd_g10_3 rf_X10_113 dX10_append_38 rd_c0 rd_m0 rfl (z := μ 0 3) (by rw [rd_u_k _ _ _ (by omega)]) ?_
      refine rd_iconst C dX10_append_41 (n := 1) ⟨by decide, by decide⟩ ?_
      refine rd_iadd C dX10_append_42 (z := μ 0 3 + 1) rfl ⟨by omega, by omega⟩ ?_
      refine rd_put C rd_p10_3 rf_X10_113 dX10_append_43 rd_c0 rd_m0 trivial ?_
      refine rd_aload_n C dX10_append_46 rfl ?_
      refine rd_getx C rd_g10_3 rf_X10_113 dX10_append_47 rd_c0 rd_m0 rfl (z := μ 0 3 + 1) (by rw [rd_u_s]) ?_
      exact rd_iret C dX10_append_50 (Or.inr (Or.inr (⟨⟨hw_8, h_20⟩, rfl, rfl⟩)))
    · refine rd_bipush C dX10_append_23 (n := -4) (by decide) ⟨by decide, by decide⟩ ?_
      exact rd_iret C dX10_append_25 (Or.inr (Or.inl ⟨⟨hw_8, h_20⟩, rfl, rfl⟩))
  · rw [hv1, hm1]; clear hv1 hm1 v1 w1
    refine rd_if_ne C dX10_append_8 (tgt := 14) (by decide) (fun h => absurd h (by decide)) (fun _ => ?_)
    refine rd_bipush C dX10_append_11 (n := -2) (by decide) ⟨by decide, by decide⟩ ?_
    exact rd_iret C dX10_append_13 (Or.inl ⟨hw_8, rfl, rfl⟩)
set_option maxHeartbeats 4000000 in
set_option maxRecDepth 100000 in
theorem c_X10_clearText {l : Launch} {G : rd_G} {r : Nat} {μ : rd_Mem}  : rd_M l G rd_km 5 r yX10_clearText cX10_clearText 2 (some .int) (rd_rm 0 0) [rd_R 0] μ (fun v μ' => True ∧ v = some (rd_I (μ 0 3)) ∧ μ' = rd_u μ 0 3 0) := by
  refine rd_enter (by decide +kernel) (Nat.le_of_ble_eq_true rfl) [rd_R 0, rd_J] rfl (fun p e s m args below meth c C => ?_)
  refine rd_W.rng (fun hM hL _ => ?_)
  refine rd_aload_n C dX10_clearText_0 rfl ?_
  refine rd_get C rd_g10_3 rf_X10_113 dX10_clearText_1 rd_c0 rd_m0 (x := rd_I (μ 0 3)) rfl (fun h => h _ _) ?_
  refine rd_istore_n C dX10_clearText_4 (by decide) (L' := [rd_R 0, rd_I (μ 0 3)]) rfl ?_
  refine rd_aload_n C dX10_clearText_5 rfl ?_
  refine rd_iconst C dX10_clearText_6 (n := 0) ⟨by decide, by decide⟩ ?_
  refine rd_put C rd_p10_3 rf_X10_113 dX10_clearText_7 rd_c0 rd_m0 trivial ?_
  refine rd_iload_n C dX10_clearText_10 rfl ?_
  exact rd_iret C dX10_clearText_11 ⟨trivial, rfl, rfl⟩
set_option maxHeartbeats 4000000 in
set_option maxRecDepth 100000 in
theorem c_X10_why {l : Launch} {G : rd_G} {r : Nat} {μ : rd_Mem} {q0 : Int} : rd_M l G rd_km 5 r yX10_why cX10_why 2 (some .int) (rd_rm 1 22) [rd_R 0, rd_I q0] μ (fun v μ' => ((0 ≤ q0 ∧ q0 ≤ 3) ∧ v = some (rd_I (μ 3 q0)) ∧ μ' = μ) ∨ ((q0 < 0 ∨ 3 < q0) ∧ v = some (rd_I (-2)) ∧ μ' = μ)) := by
  refine rd_enter (by decide +kernel) (Nat.le_of_ble_eq_true rfl) [rd_R 0, rd_I q0] rfl (fun p e s m args below meth c C => ?_)
  refine rd_W.rng (fun hM hL _ => ?_)
  refine rd_iload_n C dX10_why_0 rfl ?_
  refine rd_iconst C dX10_why_1 (n := 0) ⟨by decide, by decide⟩ ?_
  refine rd_iconst C dX10_why_2 (n := 3) ⟨by decide, by decide⟩ ?_
  refine rd_callS C (c_X10_in) rm_X10_22 rt_X10_in rc_X10_in rz_X10 ⟨rp_X10_in, rfl, rfl, by decide, by decide⟩ rfl dX10_why_3 rfl (Nat.le_of_ble_eq_true rfl) (fun v1 w1 hq => ?_)
  rcases hq with ⟨hw_6, hv1, hm1⟩ | ⟨hw_6, hv1, hm1⟩
  · rw [hv1, hm1]; clear hv1 hm1 v1 w1
    refine rd_if_eq C dX10_why_6 (tgt := 18) (by decide) (fun h => absurd h (by decide)) (fun _ => ?_)
    refine rd_aload_n C dX10_why_9 rfl ?_
    refine rd_get C rd_g10_7 rf_X10_16 dX10_why_10 rd_c0 rd_m0 (x := rd_R (3)) rfl (fun _ => trivial) ?_
    refine rd_iload_n C dX10_why_13 rfl ?_
    refine rd_ialdx C rd_ai20 dX10_why_14 rd_c3 rd_m3 ⟨by omega, by omega⟩ (z := μ 3 q0) rfl ?_
    refine rd_goto C dX10_why_15 (tgt := 20) (by decide) ?_
    exact rd_iret C dX10_why_20 (Or.inl ⟨hw_6, rfl, rfl⟩)
  · rw [hv1, hm1]; clear hv1 hm1 v1 w1
    refine rd_if_eq C dX10_why_6 (tgt := 18) (by decide) (fun _ => ?_) (fun h => absurd h (by decide))
    refine rd_bipush C dX10_why_18 (n := -2) (by decide) ⟨by decide, by decide⟩ ?_
    exact rd_iret C dX10_why_20 (Or.inr (⟨hw_6, rfl, rfl⟩))
theorem mo_cp_o (μ : rd_Mem) (f t k : Int) {a : Int} (h : a ≠ 1) : mo_cp μ f t k a = μ a := by
  funext b; unfold mo_cp; rw [if_neg (fun g => h g.1)]
def mo_un (μ : rd_Mem) : rd_Mem := rd_u (mo_cp μ (μ 0 1) 0 476) 0 1 (μ 0 1 - 1)
set_option maxHeartbeats 4000000 in
set_option maxRecDepth 100000 in
theorem c_X10_undo {l : Launch} {G : rd_G} {r : Nat} {μ : rd_Mem} (hst : 0 ≤ μ 0 1 ∧ μ 0 1 ≤ 4) : rd_M l G rd_km 5 r yX10_undo cX10_undo 1 (some .int) (rd_rm 1 23) [rd_R 0] μ (fun v μ' => (μ 0 1 = 0 ∧ v = some (rd_I (-6)) ∧ μ' = μ) ∨ (μ 0 1 ≠ 0 ∧ v = some (rd_I (μ 0 1 - 1)) ∧ μ' = mo_un μ)) := by
  refine rd_enter (by decide +kernel) (Nat.le_of_ble_eq_true rfl) [rd_R 0] rfl (fun p e s m args below meth c C => ?_)
  refine rd_W.rng (fun hM hL _ => ?_)
  refine rd_aload_n C dX10_undo_0 rfl ?_
  refine rd_get C rd_g10_1 rf_X10_68 dX10_undo_1 rd_c0 rd_m0 (x := rd_I (μ 0 1)) rfl (fun h => h _ _) ?_
  refine rd_if_ne C dX10_undo_4 (tgt := 10) (by decide) (fun h_4 => ?_) (fun h_4 => ?_)
  · refine rd_aload_n C dX10_undo_10 rfl ?_
    refine rd_aload_n C dX10_undo_11 rfl ?_
    refine rd_get C rd_g10_1 rf_X10_68 dX10_undo_12 rd_c0 rd_m0 (x := rd_I (μ 0 1)) rfl (fun h => h _ _) ?_
    refine rd_iconst C dX10_undo_15 (n := 0) ⟨by decide, by decide⟩ ?_
    refine rd_callV C (c_X10_copies (f0 := μ 0 1) (t0 := 0) hst ⟨by omega, by omega⟩ (by omega)) rm_X10_72 ri_X10_copies rs_X10_copies rc_X10_copies rz_X10 ⟨rp_X10_copies, rfl, rfl, by decide, by decide⟩ rfl rd_kcl10 dX10_undo_16 rd_c0 rd_m0 rfl (Nat.le_of_ble_eq_true rfl) (fun v1 w1 hq => ?_)
    obtain ⟨hv1, hm1⟩ := hq; rw [hv1, show w1 = mo_cp μ (μ 0 1) 0 476 from hm1]; clear hv1 hm1
    have hs0 : mo_cp μ (μ 0 1) 0 476 0 1 = μ 0 1 := by rw [mo_cp_o _ _ _ _ (by omega)]
    refine rd_aload_n C dX10_undo_19 rfl ?_
    refine rd_dup C dX10_undo_20 ?_
    refine rd_get C rd_g10_1 rf_X10_68 dX10_undo_21 rd_c0 rd_m0 (x := rd_I ((mo_cp μ (μ 0 1) 0 476) 0 1)) rfl (fun h => h _ _) ?_
    refine rd_iconst C dX10_undo_24 (n := 1) ⟨by decide, by decide⟩ ?_
    refine rd_isub C dX10_undo_25 (z := (mo_cp μ (μ 0 1) 0 476) 0 1 - 1) rfl ⟨by omega, by omega⟩ ?_
    refine rd_put C rd_p10_1 rf_X10_68 dX10_undo_26 rd_c0 rd_m0 trivial ?_
    refine rd_aload_n C dX10_undo_29 rfl ?_
    refine rd_getx C rd_g10_1 rf_X10_68 dX10_undo_30 rd_c0 rd_m0 rfl (z := (mo_cp μ (μ 0 1) 0 476) 0 1 - 1) (by rw [rd_u_s]) ?_
    exact rd_iret C dX10_undo_33 (Or.inr (⟨h_4, by rw [hs0], by unfold mo_un; rw [hs0]⟩))
  · refine rd_bipush C dX10_undo_7 (n := -6) (by decide) ⟨by decide, by decide⟩ ?_
    exact rd_iret C dX10_undo_9 (Or.inl ⟨h_4, rfl, rfl⟩)
set_option maxHeartbeats 4000000 in
set_option maxRecDepth 100000 in
theorem c_X10_slides {l : Launch} {G : rd_G} {r : Nat} {μ : rd_Mem}  : rd_M l G rd_km 5 r yX10_slides cX10_slides 1 (some .int) (rd_rm 0 0) [rd_R 0] μ (fun v μ' => True ∧ v = some (rd_I (μ 1 0)) ∧ μ' = μ) := by
  refine rd_enter (by decide +kernel) (Nat.le_of_ble_eq_true rfl) [rd_R 0] rfl (fun p e s m args below meth c C => ?_)
  refine rd_W.rng (fun hM hL _ => ?_)
  refine rd_aload_n C dX10_slides_0 rfl ?_
  refine rd_get C rd_g10_0 rf_X10_7 dX10_slides_1 rd_c0 rd_m0 (x := rd_R (1)) rfl (fun _ => trivial) ?_
  refine rd_iconst C dX10_slides_4 (n := 0) ⟨by decide, by decide⟩ ?_
  refine rd_ialdx C rd_ai18 dX10_slides_5 rd_c1 rd_m1 ⟨by omega, by omega⟩ (z := μ 1 0) rfl ?_
  exact rd_iret C dX10_slides_6 ⟨trivial, rfl, rfl⟩
set_option maxHeartbeats 4000000 in
set_option maxRecDepth 100000 in
theorem c_X10_end {l : Launch} {G : rd_G} {r : Nat} {μ : rd_Mem}  : rd_M l G rd_km 5 r yX10_end cX10_end 1 (some .int) (rd_rm 0 0) [rd_R 0] μ (fun v μ' => True ∧ v = some (rd_I (μ 1 28)) ∧ μ' = μ) := by
  refine rd_enter (by decide +kernel) (Nat.le_of_ble_eq_true rfl) [rd_R 0] rfl (fun p e s m args below meth c C => ?_)
  refine rd_W.rng (fun hM hL _ => ?_)
  refine rd_aload_n C dX10_end_0 rfl ?_
  refine rd_get C rd_g10_0 rf_X10_7 dX10_end_1 rd_c0 rd_m0 (x := rd_R (1)) rfl (fun _ => trivial) ?_
  refine rd_bipush C dX10_end_4 (n := 28) (by decide) ⟨by decide, by decide⟩ ?_
  refine rd_ialdx C rd_ai18 dX10_end_6 rd_c1 rd_m1 ⟨by omega, by omega⟩ (z := μ 1 28) rfl ?_
  exact rd_iret C dX10_end_7 ⟨trivial, rfl, rfl⟩
set_option maxHeartbeats 4000000 in
set_option maxRecDepth 100000 in
theorem c_X10_slideAt {l : Launch} {G : rd_G} {r : Nat} {μ : rd_Mem} (hc : mo_cn μ) {p0 : Int} : rd_M l G rd_km 5 r yX10_slideAt cX10_slideAt 2 (some .int) (rd_rm 0 0) [rd_R 0, rd_I p0] μ (fun v μ' => (p0 < 0 ∧ v = some (rd_I (-2)) ∧ μ' = μ) ∨ (μ 1 0 ≤ p0 ∧ v = some (rd_I (-6)) ∧ μ' = μ) ∨ ((0 ≤ p0 ∧ p0 < μ 1 0) ∧ v = some (rd_I (μ 1 (1 + p0))) ∧ μ' = μ)) := by
  refine rd_enter (by decide +kernel) (Nat.le_of_ble_eq_true rfl) [rd_R 0, rd_I p0] rfl (fun p e s m args below meth c C => ?_)
  refine rd_W.rng (fun hM hL _ => ?_)
  have hc1 := hc.1.1
  have hc2 := hc.1.2
  refine rd_iload_n C dX10_slideAt_0 rfl ?_
  refine rd_if_ge C dX10_slideAt_1 (tgt := 7) (by decide) (fun h_1 => ?_) (fun h_1 => ?_)
  · refine rd_iload_n C dX10_slideAt_7 rfl ?_
    refine rd_aload_n C dX10_slideAt_8 rfl ?_
    refine rd_get C rd_g10_0 rf_X10_7 dX10_slideAt_9 rd_c0 rd_m0 (x := rd_R (1)) rfl (fun _ => trivial) ?_
    refine rd_iconst C dX10_slideAt_12 (n := 0) ⟨by decide, by decide⟩ ?_
    refine rd_ialdx C rd_ai18 dX10_slideAt_13 rd_c1 rd_m1 ⟨by omega, by omega⟩ (z := μ 1 0) rfl ?_
    refine rd_icmp_ge C dX10_slideAt_14 (tgt := 28) (by decide) (fun h_14 => ?_) (fun h_14 => ?_)
    · refine rd_bipush C dX10_slideAt_28 (n := -6) (by decide) ⟨by decide, by decide⟩ ?_
      exact rd_iret C dX10_slideAt_30 (Or.inr (Or.inl ⟨by omega, rfl, rfl⟩))
    · refine rd_aload_n C dX10_slideAt_17 rfl ?_
      refine rd_get C rd_g10_0 rf_X10_7 dX10_slideAt_18 rd_c0 rd_m0 (x := rd_R (1)) rfl (fun _ => trivial) ?_
      refine rd_iconst C dX10_slideAt_21 (n := 1) ⟨by decide, by decide⟩ ?_
      refine rd_iload_n C dX10_slideAt_22 rfl ?_
      refine rd_iadd C dX10_slideAt_23 (z := 1 + p0) rfl ⟨by omega, by omega⟩ ?_
      refine rd_ialdx C rd_ai18 dX10_slideAt_24 rd_c1 rd_m1 ⟨by omega, by omega⟩ (z := μ 1 (1 + p0)) rfl ?_
      refine rd_goto C dX10_slideAt_25 (tgt := 30) (by decide) ?_
      exact rd_iret C dX10_slideAt_30 (Or.inr (Or.inr (⟨by omega, rfl, rfl⟩)))
  · refine rd_bipush C dX10_slideAt_4 (n := -2) (by decide) ⟨by decide, by decide⟩ ?_
    exact rd_iret C dX10_slideAt_6 (Or.inl ⟨by omega, rfl, rfl⟩)
set_option maxHeartbeats 4000000 in
set_option maxRecDepth 100000 in
theorem c_X10_slide {l : Launch} {G : rd_G} {r : Nat} {μ : rd_Mem} (hI : mo_I μ) {x q0 : Int} : rd_M l G rd_km 5 r yX10_slide cX10_slide 3 (some .int) (rd_rm 2 47) [rd_R 0, rd_I x, rd_I q0] μ (fun v μ' => (¬ mo_t μ x ∧ v = some (rd_I (-1)) ∧ μ' = μ) ∨ ((mo_t μ x ∧ (q0 < 0 ∨ 5 < q0)) ∧ v = some (rd_I (-2)) ∧ μ' = μ) ∨ ((mo_t μ x ∧ q0 = 0) ∧ v = some (rd_I (mo_pl μ x)) ∧ μ' = μ) ∨ ((mo_t μ x ∧ (1 ≤ q0 ∧ q0 ≤ 3)) ∧ v = some (rd_I (mo_o μ x q0)) ∧ μ' = μ) ∨ ((mo_t μ x ∧ q0 = 4) ∧ v = some (rd_I (mo_FS μ x)) ∧ μ' = μ) ∨ ((mo_t μ x ∧ q0 = 5) ∧ v = some (rd_I (mo_lk (fun q => mo_o μ x (22 + q)) 10)) ∧ μ' = μ)) := by
  refine rd_enter (by decide +kernel) (Nat.le_of_ble_eq_true rfl) [rd_R 0, rd_I x, rd_I q0] rfl (fun p e s m args below meth c C => ?_)
  refine rd_W.rng (fun hM hL _ => ?_)
  refine rd_aload_n C dX10_slide_0 rfl ?_
  refine rd_iload_n C dX10_slide_1 rfl ?_
  refine rd_callV C (c_X10_isSlide) rm_X10_30 ri_X10_isSlide rs_X10_isSlide rc_X10_isSlide rz_X10 ⟨rp_X10_isSlide, rfl, rfl, by decide, by decide⟩ rfl rd_kcl10 dX10_slide_2 rd_c0 rd_m0 rfl (Nat.le_of_ble_eq_true rfl) (fun v1 w1 hq => ?_)
  rcases hq with ⟨hw_5, hv1, hm1⟩ | ⟨hw_5, hv1, hm1⟩
  · rw [hv1, hm1]; clear hv1 hm1 v1 w1
    refine rd_if_ne C dX10_slide_5 (tgt := 10) (by decide) (fun _ => ?_) (fun h => absurd h (by decide))
    refine rd_iload_n C dX10_slide_10 rfl ?_
    have h_11 : q0 = 0 ∨ q0 = 1 ∨ q0 = 2 ∨ q0 = 3 ∨ q0 = 4 ∨ q0 = 5 ∨ (q0 < 0 ∨ 5 < q0) := by omega
    rcases h_11 with h_11 | h_11 | h_11 | h_11 | h_11 | h_11 | h_11
    · refine rd_swIn C dX10_slide_11 (by omega) (by omega) (off := 37) (by rw [h_11]; rfl) (tgt := 48) (by decide) ?_
      refine rd_aload_n C dX10_slide_48 rfl ?_
      refine rd_iload_n C dX10_slide_49 rfl ?_
      refine rd_callV C (c_X10_placeOf hI.1.1 (hI.1.2.1 _ hw_5).2) rm_X10_37 ri_X10_placeOf rs_X10_placeOf rc_X10_placeOf rz_X10 ⟨rp_X10_placeOf, rfl, rfl, by decide, by decide⟩ rfl rd_kcl10 dX10_slide_50 rd_c0 rd_m0 rfl (Nat.le_of_ble_eq_true rfl) (fun v1 w1 hq => ?_)
      obtain ⟨hv1, hm1⟩ := hq; rw [show v1 = some (rd_I (mo_pl μ x)) from hv1, hm1]; clear hv1 hm1
      exact rd_iret C dX10_slide_53 (Or.inr (Or.inr (Or.inl ⟨⟨hw_5, h_11⟩, rfl, rfl⟩)))
    · refine rd_swIn C dX10_slide_11 (by omega) (by omega) (off := 43) (by rw [h_11]; rfl) (tgt := 54) (by decide) ?_
      refine rd_aload_n C dX10_slide_54 rfl ?_
      refine rd_iload_n C dX10_slide_55 rfl ?_
      refine rd_iload_n C dX10_slide_56 rfl ?_
      refine rd_callV C (c_X10_of (i := x) (q := q0) hw_5.1 ⟨by omega, by omega⟩) rm_X10_26 ri_X10_of rs_X10_of rc_X10_of rz_X10 ⟨rp_X10_of, rfl, rfl, by decide, by decide⟩ rfl rd_kcl10 dX10_slide_57 rd_c0 rd_m0 rfl (Nat.le_of_ble_eq_true rfl) (fun v1 w1 hq => ?_)
      obtain ⟨hv1, hm1⟩ := hq; rw [show v1 = some (rd_I (mo_o μ x q0)) from hv1, hm1]; clear hv1 hm1
      exact rd_iret C dX10_slide_60 (Or.inr (Or.inr (Or.inr (Or.inl ⟨⟨hw_5, by omega⟩, rfl, rfl⟩))))
    · refine rd_swIn C dX10_slide_11 (by omega) (by omega) (off := 43) (by rw [h_11]; rfl) (tgt := 54) (by decide) ?_
      refine rd_aload_n C dX10_slide_54 rfl ?_
      refine rd_iload_n C dX10_slide_55 rfl ?_
      refine rd_iload_n C dX10_slide_56 rfl ?_
      refine rd_callV C (c_X10_of (i := x) (q := q0) hw_5.1 ⟨by omega, by omega⟩) rm_X10_26 ri_X10_of rs_X10_of rc_X10_of rz_X10 ⟨rp_X10_of, rfl, rfl, by decide, by decide⟩ rfl rd_kcl10 dX10_slide_57 rd_c0 rd_m0 rfl (Nat.le_of_ble_eq_true rfl) (fun v1 w1 hq => ?_)
      obtain ⟨hv1, hm1⟩ := hq; rw [show v1 = some (rd_I (mo_o μ x q0)) from hv1, hm1]; clear hv1 hm1
      exact rd_iret C dX10_slide_60 (Or.inr (Or.inr (Or.inr (Or.inl ⟨⟨hw_5, by omega⟩, rfl, rfl⟩))))
    · refine rd_swIn C dX10_slide_11 (by omega) (by omega) (off := 43) (by rw [h_11]; rfl) (tgt := 54) (by decide) ?_
      refine rd_aload_n C dX10_slide_54 rfl ?_
      refine rd_iload_n C dX10_slide_55 rfl ?_
      refine rd_iload_n C dX10_slide_56 rfl ?_
      refine rd_callV C (c_X10_of (i := x) (q := q0) hw_5.1 ⟨by omega, by omega⟩) rm_X10_26 ri_X10_of rs_X10_of rc_X10_of rz_X10 ⟨rp_X10_of, rfl, rfl, by decide, by decide⟩ rfl rd_kcl10 dX10_slide_57 rd_c0 rd_m0 rfl (Nat.le_of_ble_eq_true rfl) (fun v1 w1 hq => ?_)
      obtain ⟨hv1, hm1⟩ := hq; rw [show v1 = some (rd_I (mo_o μ x q0)) from hv1, hm1]; clear hv1 hm1
      exact rd_iret C dX10_slide_60 (Or.inr (Or.inr (Or.inr (Or.inl ⟨⟨hw_5, by omega⟩, rfl, rfl⟩))))
    · refine rd_swIn C dX10_slide_11 (by omega) (by omega) (off := 50) (by rw [h_11]; rfl) (tgt := 61) (by decide) ?_
      refine rd_aload_n C dX10_slide_61 rfl ?_
      refine rd_iload_n C dX10_slide_62 rfl ?_
      refine rd_callV C (c_X10_finalStep hw_5.1 (hI.1.2.1 _ hw_5).1) rm_X10_48 ri_X10_finalStep rs_X10_finalStep rc_X10_finalStep rz_X10 ⟨rp_X10_finalStep, rfl, rfl, by decide, by decide⟩ rfl rd_kcl10 dX10_slide_63 rd_c0 rd_m0 rfl (Nat.le_of_ble_eq_true rfl) (fun v1 w1 hq => ?_)
      obtain ⟨hv1, hm1⟩ := hq; rw [show v1 = some (rd_I (mo_FS μ x)) from hv1, hm1]; clear hv1 hm1
      exact rd_iret C dX10_slide_66 (Or.inr (Or.inr (Or.inr (Or.inr (Or.inl ⟨⟨hw_5, h_11⟩, rfl, rfl⟩)))))
    · refine rd_swIn C dX10_slide_11 (by omega) (by omega) (off := 56) (by rw [h_11]; rfl) (tgt := 67) (by decide) ?_
      refine rd_aload_n C dX10_slide_67 rfl ?_
      refine rd_iload_n C dX10_slide_68 rfl ?_
      refine rd_callV C (c_X10_links hw_5.1) rm_X10_92 ri_X10_links rs_X10_links rc_X10_links rz_X10 ⟨rp_X10_links, rfl, rfl, by decide, by decide⟩ rfl rd_kcl10 dX10_slide_69 rd_c0 rd_m0 rfl (Nat.le_of_ble_eq_true rfl) (fun v1 w1 hq => ?_)
      obtain ⟨hv1, hm1⟩ := hq; rw [show v1 = some (rd_I (mo_lk (fun q => mo_o μ x (22 + q)) 10)) from hv1, hm1]; clear hv1 hm1
      exact rd_iret C dX10_slide_72 (Or.inr (Or.inr (Or.inr (Or.inr (Or.inr (⟨⟨hw_5, h_11⟩, rfl, rfl⟩))))))
    · refine rd_swOut C dX10_slide_11 h_11 (tgt := 73) (by decide) ?_
      refine rd_bipush C dX10_slide_73 (n := -2) (by decide) ⟨by decide, by decide⟩ ?_
      exact rd_iret C dX10_slide_75 (Or.inr (Or.inl ⟨⟨hw_5, by omega⟩, rfl, rfl⟩))
  · rw [hv1, hm1]; clear hv1 hm1 v1 w1
    refine rd_if_ne C dX10_slide_5 (tgt := 10) (by decide) (fun h => absurd h (by decide)) (fun _ => ?_)
    refine rd_iconst C dX10_slide_8 (n := -1) ⟨by decide, by decide⟩ ?_
    exact rd_iret C dX10_slide_9 (Or.inl ⟨hw_5, rfl, rfl⟩)
set_option maxHeartbeats 4000000 in
set_option maxRecDepth 100000 in
theorem c_X10_item {l : Launch} {G : rd_G} {r : Nat} {μ : rd_Mem} (hI : mo_I μ) {x p0 q0 : Int} : rd_M l G rd_km 5 r yX10_item cX10_item 5 (some .int) (rd_rm 3 65) [rd_R 0, rd_I x, rd_I p0, rd_I q0] μ (fun v μ' => (¬ (mo_t μ x ∧ 0 ≤ p0 ∧ p0 ≤ mo_o μ x 3 - 1) ∧ v = some (rd_I (-1)) ∧ μ' = μ) ∨ (((mo_t μ x ∧ 0 ≤ p0 ∧ p0 ≤ mo_o μ x 3 - 1) ∧ (q0 < 0 ∨ 2 < q0)) ∧ v = some (rd_I (-2)) ∧ μ' = μ) ∨ (((mo_t μ x ∧ 0 ≤ p0 ∧ p0 ≤ mo_o μ x 3 - 1) ∧ (0 ≤ q0 ∧ q0 ≤ 2)) ∧ v = some (rd_I (if mo_o μ x (4 + 3 * p0 + q0) = -1 then -6 else mo_o μ x (4 + 3 * p0 + q0))) ∧ μ' = μ)) := by
  refine rd_enter (by decide +kernel) (Nat.le_of_ble_eq_true rfl) [rd_R 0, rd_I x, rd_I p0, rd_I q0, rd_J] rfl (fun p e s m args below meth c C => ?_)
  refine rd_W.rng (fun hM hL _ => ?_)
  refine rd_aload_n C dX10_item_0 rfl ?_
  refine rd_iload_n C dX10_item_1 rfl ?_
  refine rd_iload_n C dX10_item_2 rfl ?_
  refine rd_callV C (c_X10_isItem (fun h => (hI.1.2.1 _ h).1.1)) rm_X10_85 ri_X10_isItem rs_X10_isItem rc_X10_isItem rz_X10 ⟨rp_X10_isItem, rfl, rfl, by decide, by decide⟩ rfl rd_kcl10 dX10_item_3 rd_c0 rd_m0 rfl (Nat.le_of_ble_eq_true rfl) (fun v1 w1 hq => ?_)
  rcases hq with ⟨hw_6, hv1, hm1⟩ | ⟨hw_6, hv1, hm1⟩
  · rw [hv1, hm1]; clear hv1 hm1 v1 w1
    refine rd_if_ne C dX10_item_6 (tgt := 11) (by decide) (fun _ => ?_) (fun h => absurd h (by decide))
    have hp1 := hw_6.2
    have hit := (hI.1.2.1 _ hw_6.1).1.1
    refine rd_iload_n C dX10_item_11 rfl ?_
    refine rd_iconst C dX10_item_12 (n := 0) ⟨by decide, by decide⟩ ?_
    refine rd_iconst C dX10_item_13 (n := 2) ⟨by decide, by decide⟩ ?_
    refine rd_callS C (c_X10_in) rm_X10_22 rt_X10_in rc_X10_in rz_X10 ⟨rp_X10_in, rfl, rfl, by decide, by decide⟩ rfl dX10_item_14 rfl (Nat.le_of_ble_eq_true rfl) (fun v1 w1 hq => ?_)
    rcases hq with ⟨hw_17, hv1, hm1⟩ | ⟨hw_17, hv1, hm1⟩
    · rw [hv1, hm1]; clear hv1 hm1 v1 w1
      refine rd_if_ne C dX10_item_17 (tgt := 23) (by decide) (fun _ => ?_) (fun h => absurd h (by decide))
      refine rd_aload_n C dX10_item_23 rfl ?_
      refine rd_iload_n C dX10_item_24 rfl ?_
      refine rd_iconst C dX10_item_25 (n := 4) ⟨by decide, by decide⟩ ?_
      refine rd_iconst C dX10_item_26 (n := 3) ⟨by decide, by decide⟩ ?_
      refine rd_iload_n C dX10_item_27 rfl ?_
      refine rd_imul C dX10_item_28 (z := 3 * p0) rfl ⟨by omega, by omega⟩ ?_
      refine rd_iadd C dX10_item_29 (z := 4 + 3 * p0) rfl ⟨by omega, by omega⟩ ?_
      refine rd_iload_n C dX10_item_30 rfl ?_
      refine rd_iadd C dX10_item_31 (z := 4 + 3 * p0 + q0) rfl ⟨by omega, by omega⟩ ?_
      refine rd_callV C (c_X10_of (i := x) (q := 4 + 3 * p0 + q0) hw_6.1.1 ⟨by omega, by omega⟩) rm_X10_26 ri_X10_of rs_X10_of rc_X10_of rz_X10 ⟨rp_X10_of, rfl, rfl, by decide, by decide⟩ rfl rd_kcl10 dX10_item_32 rd_c0 rd_m0 rfl (Nat.le_of_ble_eq_true rfl) (fun v1 w1 hq => ?_)
      obtain ⟨hv1, hm1⟩ := hq; rw [show v1 = some (rd_I (mo_o μ x (4 + 3 * p0 + q0))) from hv1, hm1]; clear hv1 hm1
      refine rd_istore C dX10_item_35 (by decide) (L' := [rd_R 0, rd_I x, rd_I p0, rd_I q0, rd_I (mo_o μ x (4 + 3 * p0 + q0))]) rfl ?_
      refine rd_iload C dX10_item_37 rfl ?_
      refine rd_iconst C dX10_item_39 (n := -1) ⟨by decide, by decide⟩ ?_
      refine rd_icmp_ne C dX10_item_40 (tgt := 48) (by decide) (fun h_40 => ?_) (fun h_40 => ?_)
      · refine rd_iload C dX10_item_48 rfl ?_
        exact rd_iret C dX10_item_50 (Or.inr (Or.inr (⟨⟨hw_6, hw_17⟩, by rw [if_neg h_40], rfl⟩)))
      · refine rd_bipush C dX10_item_43 (n := -6) (by decide) ⟨by decide, by decide⟩ ?_
        refine rd_goto C dX10_item_45 (tgt := 50) (by decide) ?_
        exact rd_iret C dX10_item_50 (Or.inr (Or.inr (⟨⟨hw_6, hw_17⟩, by rw [if_pos h_40], rfl⟩)))
    · rw [hv1, hm1]; clear hv1 hm1 v1 w1
      refine rd_if_ne C dX10_item_17 (tgt := 23) (by decide) (fun h => absurd h (by decide)) (fun _ => ?_)
      refine rd_bipush C dX10_item_20 (n := -2) (by decide) ⟨by decide, by decide⟩ ?_
      exact rd_iret C dX10_item_22 (Or.inr (Or.inl ⟨⟨hw_6, hw_17⟩, rfl, rfl⟩))
  · rw [hv1, hm1]; clear hv1 hm1 v1 w1
    refine rd_if_ne C dX10_item_6 (tgt := 11) (by decide) (fun h => absurd h (by decide)) (fun _ => ?_)
    refine rd_iconst C dX10_item_9 (n := -1) ⟨by decide, by decide⟩ ?_
    exact rd_iret C dX10_item_10 (Or.inl ⟨hw_6, rfl, rfl⟩)
set_option maxHeartbeats 4000000 in
set_option maxRecDepth 100000 in
theorem c_X10_target {l : Launch} {G : rd_G} {r : Nat} {μ : rd_Mem} {x k0 : Int} : rd_M l G rd_km 5 r yX10_target cX10_target 3 (some .int) (rd_rm 2 43) [rd_R 0, rd_I x, rd_I k0] μ (fun v μ' => (¬ mo_t μ x ∧ v = some (rd_I (-1)) ∧ μ' = μ) ∨ ((mo_t μ x ∧ (k0 < 0 ∨ 9 < k0)) ∧ v = some (rd_I (-2)) ∧ μ' = μ) ∨ ((mo_t μ x ∧ (0 ≤ k0 ∧ k0 ≤ 9)) ∧ v = some (rd_I (mo_o μ x (22 + k0))) ∧ μ' = μ)) := by
  refine rd_enter (by decide +kernel) (Nat.le_of_ble_eq_true rfl) [rd_R 0, rd_I x, rd_I k0] rfl (fun p e s m args below meth c C => ?_)
  refine rd_W.rng (fun hM hL _ => ?_)
  refine rd_aload_n C dX10_target_0 rfl ?_
  refine rd_iload_n C dX10_target_1 rfl ?_
  refine rd_callV C (c_X10_isSlide) rm_X10_30 ri_X10_isSlide rs_X10_isSlide rc_X10_isSlide rz_X10 ⟨rp_X10_isSlide, rfl, rfl, by decide, by decide⟩ rfl rd_kcl10 dX10_target_2 rd_c0 rd_m0 rfl (Nat.le_of_ble_eq_true rfl) (fun v1 w1 hq => ?_)
  rcases hq with ⟨hw_5, hv1, hm1⟩ | ⟨hw_5, hv1, hm1⟩
  · rw [hv1, hm1]; clear hv1 hm1 v1 w1
    refine rd_if_ne C dX10_target_5 (tgt := 10) (by decide) (fun _ => ?_) (fun h => absurd h (by decide))
    refine rd_aload_n C dX10_target_10 rfl ?_
    refine rd_iload_n C dX10_target_11 rfl ?_
    refine rd_callV C (c_X10_isKey) rm_X10_89 ri_X10_isKey rs_X10_isKey rc_X10_isKey rz_X10 ⟨rp_X10_isKey, rfl, rfl, by decide, by decide⟩ rfl rd_kcl10 dX10_target_12 rd_c0 rd_m0 rfl (Nat.le_of_ble_eq_true rfl) (fun v1 w1 hq => ?_)
    rcases hq with ⟨hw_15, hv1, hm1⟩ | ⟨hw_15, hv1, hm1⟩
    · rw [hv1, hm1]; clear hv1 hm1 v1 w1
      refine rd_if_eq C dX10_target_15 (tgt := 30) (by decide) (fun h => absurd h (by decide)) (fun _ => ?_)
      refine rd_aload_n C dX10_target_18 rfl ?_
      refine rd_iload_n C dX10_target_19 rfl ?_
      refine rd_bipush C dX10_target_20 (n := 22) (by decide) ⟨by decide, by decide⟩ ?_
      refine rd_iload_n C dX10_target_22 rfl ?_
      refine rd_iadd C dX10_target_23 (z := 22 + k0) rfl ⟨by omega, by omega⟩ ?_
      refine rd_callV C (c_X10_of (i := x) (q := 22 + k0) hw_5.1 ⟨by omega, by omega⟩) rm_X10_26 ri_X10_of rs_X10_of rc_X10_of rz_X10 ⟨rp_X10_of, rfl, rfl, by decide, by decide⟩ rfl rd_kcl10 dX10_target_24 rd_c0 rd_m0 rfl (Nat.le_of_ble_eq_true rfl) (fun v1 w1 hq => ?_)
      obtain ⟨hv1, hm1⟩ := hq; rw [show v1 = some (rd_I (mo_o μ x (22 + k0))) from hv1, hm1]; clear hv1 hm1
      refine rd_goto C dX10_target_27 (tgt := 32) (by decide) ?_
      exact rd_iret C dX10_target_32 (Or.inr (Or.inr (⟨⟨hw_5, hw_15⟩, rfl, rfl⟩)))
    · rw [hv1, hm1]; clear hv1 hm1 v1 w1
      refine rd_if_eq C dX10_target_15 (tgt := 30) (by decide) (fun _ => ?_) (fun h => absurd h (by decide))
      refine rd_bipush C dX10_target_30 (n := -2) (by decide) ⟨by decide, by decide⟩ ?_
      exact rd_iret C dX10_target_32 (Or.inr (Or.inl ⟨⟨hw_5, hw_15⟩, rfl, rfl⟩))
  · rw [hv1, hm1]; clear hv1 hm1 v1 w1
    refine rd_if_ne C dX10_target_5 (tgt := 10) (by decide) (fun h => absurd h (by decide)) (fun _ => ?_)
    refine rd_iconst C dX10_target_8 (n := -1) ⟨by decide, by decide⟩ ?_
    exact rd_iret C dX10_target_9 (Or.inl ⟨hw_5, rfl, rfl⟩)
set_option maxHeartbeats 4000000 in
set_option maxRecDepth 100000 in
theorem c_X10_picture {l : Launch} {G : rd_G} {r : Nat} {μ : rd_Mem} (hI : mo_I μ) {x t0 : Int} : rd_M l G rd_km 5 r yX10_picture cX10_picture 3 (some .int) (rd_rm 2 48) [rd_R 0, rd_I x, rd_I t0] μ (fun v μ' => (¬ mo_t μ x ∧ v = some (rd_I (-1)) ∧ μ' = μ) ∨ ((mo_t μ x ∧ (t0 < 0 ∨ 9 < t0)) ∧ v = some (rd_I (-2)) ∧ μ' = μ) ∨ ((mo_t μ x ∧ (0 ≤ t0 ∧ t0 ≤ 9)) ∧ v = some (rd_I (mo_mk μ x t0 (mo_o μ x 3).toNat)) ∧ μ' = μ)) := by
  refine rd_enter (by decide +kernel) (Nat.le_of_ble_eq_true rfl) [rd_R 0, rd_I x, rd_I t0] rfl (fun p e s m args below meth c C => ?_)
  refine rd_W.rng (fun hM hL _ => ?_)
  refine rd_aload_n C dX10_picture_0 rfl ?_
  refine rd_iload_n C dX10_picture_1 rfl ?_
  refine rd_callV C (c_X10_isSlide) rm_X10_30 ri_X10_isSlide rs_X10_isSlide rc_X10_isSlide rz_X10 ⟨rp_X10_isSlide, rfl, rfl, by decide, by decide⟩ rfl rd_kcl10 dX10_picture_2 rd_c0 rd_m0 rfl (Nat.le_of_ble_eq_true rfl) (fun v1 w1 hq => ?_)
  rcases hq with ⟨hw_5, hv1, hm1⟩ | ⟨hw_5, hv1, hm1⟩
  · rw [hv1, hm1]; clear hv1 hm1 v1 w1
    refine rd_if_ne C dX10_picture_5 (tgt := 10) (by decide) (fun _ => ?_) (fun h => absurd h (by decide))
    refine rd_iload_n C dX10_picture_10 rfl ?_
    refine rd_iconst C dX10_picture_11 (n := 0) ⟨by decide, by decide⟩ ?_
    refine rd_bipush C dX10_picture_12 (n := 9) (by decide) ⟨by decide, by decide⟩ ?_
    refine rd_callS C (c_X10_in) rm_X10_22 rt_X10_in rc_X10_in rz_X10 ⟨rp_X10_in, rfl, rfl, by decide, by decide⟩ rfl dX10_picture_14 rfl (Nat.le_of_ble_eq_true rfl) (fun v1 w1 hq => ?_)
    rcases hq with ⟨hw_17, hv1, hm1⟩ | ⟨hw_17, hv1, hm1⟩
    · rw [hv1, hm1]; clear hv1 hm1 v1 w1
      refine rd_if_eq C dX10_picture_17 (tgt := 29) (by decide) (fun h => absurd h (by decide)) (fun _ => ?_)
      refine rd_aload_n C dX10_picture_20 rfl ?_
      refine rd_iload_n C dX10_picture_21 rfl ?_
      refine rd_iload_n C dX10_picture_22 rfl ?_
      refine rd_callV C (c_X10_seen hw_5.1 (hI.1.2.1 _ hw_5).1.1.1 (hI.1.2.1 _ hw_5).1.1.2) rm_X10_140 ri_X10_seen rs_X10_seen rc_X10_seen rz_X10 ⟨rp_X10_seen, rfl, rfl, by decide, by decide⟩ rfl rd_kcl10 dX10_picture_23 rd_c0 rd_m0 rfl (Nat.le_of_ble_eq_true rfl) (fun v1 w1 hq => ?_)
      obtain ⟨hv1, hm1⟩ := hq; rw [show v1 = some (rd_I (mo_mk μ x t0 (mo_o μ x 3).toNat)) from hv1, hm1]; clear hv1 hm1
      refine rd_goto C dX10_picture_26 (tgt := 31) (by decide) ?_
      exact rd_iret C dX10_picture_31 (Or.inr (Or.inr (⟨⟨hw_5, hw_17⟩, rfl, rfl⟩)))
    · rw [hv1, hm1]; clear hv1 hm1 v1 w1
      refine rd_if_eq C dX10_picture_17 (tgt := 29) (by decide) (fun _ => ?_) (fun h => absurd h (by decide))
      refine rd_bipush C dX10_picture_29 (n := -2) (by decide) ⟨by decide, by decide⟩ ?_
      exact rd_iret C dX10_picture_31 (Or.inr (Or.inl ⟨⟨hw_5, hw_17⟩, rfl, rfl⟩))
  · rw [hv1, hm1]; clear hv1 hm1 v1 w1
    refine rd_if_ne C dX10_picture_5 (tgt := 10) (by decide) (fun h => absurd h (by decide)) (fun _ => ?_)
    refine rd_iconst C dX10_picture_8 (n := -1) ⟨by decide, by decide⟩ ?_
    exact rd_iret C dX10_picture_9 (Or.inl ⟨hw_5, rfl, rfl⟩)
set_option maxHeartbeats 4000000 in
set_option maxRecDepth 100000 in
theorem c_X10_now {l : Launch} {G : rd_G} {r : Nat} {μ : rd_Mem} {q0 : Int} : rd_M l G rd_km 5 r yX10_now cX10_now 2 (some .int) (rd_rm 1 22) [rd_R 0, rd_I q0] μ (fun v μ' => ((q0 < 0 ∨ 6 < q0) ∧ v = some (rd_I (-2)) ∧ μ' = μ) ∨ (((0 ≤ q0 ∧ q0 ≤ 6) ∧ μ 1 29 = 0) ∧ v = some (rd_I (-6)) ∧ μ' = μ) ∨ ((μ 1 29 ≠ 0 ∧ (0 ≤ q0 ∧ q0 ≤ 3)) ∧ v = some (rd_I (μ 1 (30 + q0))) ∧ μ' = μ) ∨ ((μ 1 29 ≠ 0 ∧ q0 = 4) ∧ v = some (rd_I (μ 1 35)) ∧ μ' = μ) ∨ ((μ 1 29 ≠ 0 ∧ q0 = 5 ∧ mo_ov μ) ∧ v = some (rd_I 1) ∧ μ' = μ) ∨ ((μ 1 29 ≠ 0 ∧ q0 = 5 ∧ ¬ mo_ov μ) ∧ v = some (rd_I 0) ∧ μ' = μ) ∨ ((μ 1 29 ≠ 0 ∧ q0 = 6) ∧ v = some (rd_I (μ 1 34)) ∧ μ' = μ)) := by
  refine rd_enter (by decide +kernel) (Nat.le_of_ble_eq_true rfl) [rd_R 0, rd_I q0] rfl (fun p e s m args below meth c C => ?_)
  refine rd_W.rng (fun hM hL _ => ?_)
  refine rd_iload_n C dX10_now_0 rfl ?_
  refine rd_iconst C dX10_now_1 (n := 0) ⟨by decide, by decide⟩ ?_
  refine rd_bipush C dX10_now_2 (n := 6) (by decide) ⟨by decide, by decide⟩ ?_
  refine rd_callS C (c_X10_in) rm_X10_22 rt_X10_in rc_X10_in rz_X10 ⟨rp_X10_in, rfl, rfl, by decide, by decide⟩ rfl dX10_now_4 rfl (Nat.le_of_ble_eq_true rfl) (fun v1 w1 hq => ?_)
  rcases hq with ⟨hw_7, hv1, hm1⟩ | ⟨hw_7, hv1, hm1⟩
  · rw [hv1, hm1]; clear hv1 hm1 v1 w1
    refine rd_if_ne C dX10_now_7 (tgt := 13) (by decide) (fun _ => ?_) (fun h => absurd h (by decide))
    refine rd_aload_n C dX10_now_13 rfl ?_
    refine rd_get C rd_g10_0 rf_X10_7 dX10_now_14 rd_c0 rd_m0 (x := rd_R (1)) rfl (fun _ => trivial) ?_
    refine rd_bipush C dX10_now_17 (n := 29) (by decide) ⟨by decide, by decide⟩ ?_
    refine rd_ialdx C rd_ai18 dX10_now_19 rd_c1 rd_m1 ⟨by omega, by omega⟩ (z := μ 1 29) rfl ?_
    refine rd_if_ne C dX10_now_20 (tgt := 26) (by decide) (fun h_20 => ?_) (fun h_20 => ?_)
    · refine rd_iload_n C dX10_now_26 rfl ?_
      have h_27 : q0 = 4 ∨ q0 = 5 ∨ q0 = 6 ∨ (q0 < 4 ∨ 6 < q0) := by omega
      rcases h_27 with h_27 | h_27 | h_27 | h_27
      · refine rd_swIn C dX10_now_27 (by omega) (by omega) (off := 25) (by rw [h_27]; rfl) (tgt := 52) (by decide) ?_
        refine rd_aload_n C dX10_now_52 rfl ?_
        refine rd_get C rd_g10_0 rf_X10_7 dX10_now_53 rd_c0 rd_m0 (x := rd_R (1)) rfl (fun _ => trivial) ?_
        refine rd_bipush C dX10_now_56 (n := 35) (by decide) ⟨by decide, by decide⟩ ?_
        refine rd_ialdx C rd_ai18 dX10_now_58 rd_c1 rd_m1 ⟨by omega, by omega⟩ (z := μ 1 35) rfl ?_
        exact rd_iret C dX10_now_59 (Or.inr (Or.inr (Or.inr (Or.inl ⟨⟨h_20, h_27⟩, rfl, rfl⟩))))
      · refine rd_swIn C dX10_now_27 (by omega) (by omega) (off := 33) (by rw [h_27]; rfl) (tgt := 60) (by decide) ?_
        refine rd_aload_n C dX10_now_60 rfl ?_
        refine rd_callV C (c_X10_isOver) rm_X10_44 ri_X10_isOver rs_X10_isOver rc_X10_isOver rz_X10 ⟨rp_X10_isOver, rfl, rfl, by decide, by decide⟩ rfl rd_kcl10 dX10_now_61 rd_c0 rd_m0 rfl (Nat.le_of_ble_eq_true rfl) (fun v1 w1 hq => ?_)
        rcases hq with ⟨hw_64, hv1, hm1⟩ | ⟨hw_64, hv1, hm1⟩
        · rw [hv1, hm1]; clear hv1 hm1 v1 w1
          refine rd_if_eq C dX10_now_64 (tgt := 71) (by decide) (fun h => absurd h (by decide)) (fun _ => ?_)
          refine rd_iconst C dX10_now_67 (n := 1) ⟨by decide, by decide⟩ ?_
          refine rd_goto C dX10_now_68 (tgt := 72) (by decide) ?_
          exact rd_iret C dX10_now_72 (Or.inr (Or.inr (Or.inr (Or.inr (Or.inl ⟨⟨h_20, h_27, hw_64⟩, rfl, rfl⟩)))))
        · rw [hv1, hm1]; clear hv1 hm1 v1 w1
          refine rd_if_eq C dX10_now_64 (tgt := 71) (by decide) (fun _ => ?_) (fun h => absurd h (by decide))
          refine rd_iconst C dX10_now_71 (n := 0) ⟨by decide, by decide⟩ ?_
          exact rd_iret C dX10_now_72 (Or.inr (Or.inr (Or.inr (Or.inr (Or.inr (Or.inl ⟨⟨h_20, h_27, hw_64⟩, rfl, rfl⟩))))))
      · refine rd_swIn C dX10_now_27 (by omega) (by omega) (off := 46) (by rw [h_27]; rfl) (tgt := 73) (by decide) ?_
        refine rd_aload_n C dX10_now_73 rfl ?_
        refine rd_get C rd_g10_0 rf_X10_7 dX10_now_74 rd_c0 rd_m0 (x := rd_R (1)) rfl (fun _ => trivial) ?_
        refine rd_bipush C dX10_now_77 (n := 34) (by decide) ⟨by decide, by decide⟩ ?_
        refine rd_ialdx C rd_ai18 dX10_now_79 rd_c1 rd_m1 ⟨by omega, by omega⟩ (z := μ 1 34) rfl ?_
        exact rd_iret C dX10_now_80 (Or.inr (Or.inr (Or.inr (Or.inr (Or.inr (Or.inr (⟨⟨h_20, h_27⟩, rfl, rfl⟩)))))))
      · refine rd_swOut C dX10_now_27 h_27 (tgt := 81) (by decide) ?_
        refine rd_aload_n C dX10_now_81 rfl ?_
        refine rd_get C rd_g10_0 rf_X10_7 dX10_now_82 rd_c0 rd_m0 (x := rd_R (1)) rfl (fun _ => trivial) ?_
        refine rd_bipush C dX10_now_85 (n := 30) (by decide) ⟨by decide, by decide⟩ ?_
        refine rd_iload_n C dX10_now_87 rfl ?_
        refine rd_iadd C dX10_now_88 (z := 30 + q0) rfl ⟨by omega, by omega⟩ ?_
        refine rd_ialdx C rd_ai18 dX10_now_89 rd_c1 rd_m1 ⟨by omega, by omega⟩ (z := μ 1 (30 + q0)) rfl ?_
        exact rd_iret C dX10_now_90 (Or.inr (Or.inr (Or.inl ⟨⟨h_20, by omega⟩, rfl, rfl⟩)))
    · refine rd_bipush C dX10_now_23 (n := -6) (by decide) ⟨by decide, by decide⟩ ?_
      exact rd_iret C dX10_now_25 (Or.inr (Or.inl ⟨⟨hw_7, h_20⟩, rfl, rfl⟩))
  · rw [hv1, hm1]; clear hv1 hm1 v1 w1
    refine rd_if_ne C dX10_now_7 (tgt := 13) (by decide) (fun h => absurd h (by decide)) (fun _ => ?_)
    refine rd_bipush C dX10_now_10 (n := -2) (by decide) ⟨by decide, by decide⟩ ?_
    exact rd_iret C dX10_now_12 (Or.inl ⟨hw_7, rfl, rfl⟩)
set_option maxHeartbeats 4000000 in
set_option maxRecDepth 100000 in
theorem c_X10_trail {l : Launch} {G : rd_G} {r : Nat} {μ : rd_Mem} (hI : mo_I μ) {p0 q0 : Int} : rd_M l G rd_km 5 r yX10_trail cX10_trail 3 (some .int) (rd_rm 1 22) [rd_R 0, rd_I p0, rd_I q0] μ (fun v μ' => ((p0 < 0 ∨ q0 < 0 ∨ 2 < q0) ∧ v = some (rd_I (-2)) ∧ μ' = μ) ∨ (((0 ≤ p0 ∧ (0 ≤ q0 ∧ q0 ≤ 2)) ∧ (μ 1 29 ≠ 1 ∨ μ 1 35 ≤ p0)) ∧ v = some (rd_I (-6)) ∧ μ' = μ) ∨ (((0 ≤ p0 ∧ (0 ≤ q0 ∧ q0 ≤ 2)) ∧ μ 1 29 = 1 ∧ p0 < μ 1 35) ∧ v = some (rd_I (μ 1 (36 + 3 * (μ 1 35 - 1 - p0) + q0))) ∧ μ' = μ)) := by
  refine rd_enter (by decide +kernel) (Nat.le_of_ble_eq_true rfl) [rd_R 0, rd_I p0, rd_I q0] rfl (fun p e s m args below meth c C => ?_)
  refine rd_W.rng (fun hM hL _ => ?_)
  have ht1 := hI.2.1.1
  have ht2 := hI.2.1.2
  refine rd_iload_n C dX10_trail_0 rfl ?_
  refine rd_if_lt C dX10_trail_1 (tgt := 13) (by decide) (fun h_1 => ?_) (fun h_1 => ?_)
  · refine rd_bipush C dX10_trail_13 (n := -2) (by decide) ⟨by decide, by decide⟩ ?_
    exact rd_iret C dX10_trail_15 (Or.inl ⟨by omega, rfl, rfl⟩)
  · refine rd_iload_n C dX10_trail_4 rfl ?_
    refine rd_iconst C dX10_trail_5 (n := 0) ⟨by decide, by decide⟩ ?_
    refine rd_iconst C dX10_trail_6 (n := 2) ⟨by decide, by decide⟩ ?_
    refine rd_callS C (c_X10_in) rm_X10_22 rt_X10_in rc_X10_in rz_X10 ⟨rp_X10_in, rfl, rfl, by decide, by decide⟩ rfl dX10_trail_7 rfl (Nat.le_of_ble_eq_true rfl) (fun v1 w1 hq => ?_)
    rcases hq with ⟨hw_10, hv1, hm1⟩ | ⟨hw_10, hv1, hm1⟩
    · rw [hv1, hm1]; clear hv1 hm1 v1 w1
      refine rd_if_ne C dX10_trail_10 (tgt := 16) (by decide) (fun _ => ?_) (fun h => absurd h (by decide))
      refine rd_aload_n C dX10_trail_16 rfl ?_
      refine rd_get C rd_g10_0 rf_X10_7 dX10_trail_17 rd_c0 rd_m0 (x := rd_R (1)) rfl (fun _ => trivial) ?_
      refine rd_bipush C dX10_trail_20 (n := 29) (by decide) ⟨by decide, by decide⟩ ?_
      refine rd_ialdx C rd_ai18 dX10_trail_22 rd_c1 rd_m1 ⟨by omega, by omega⟩ (z := μ 1 29) rfl ?_
      refine rd_iconst C dX10_trail_23 (n := 1) ⟨by decide, by decide⟩ ?_
      refine rd_icmp_ne C dX10_trail_24 (tgt := 64) (by decide) (fun h_24 => ?_) (fun h_24 => ?_)
      · refine rd_bipush C dX10_trail_64 (n := -6) (by decide) ⟨by decide, by decide⟩ ?_
        exact rd_iret C dX10_trail_66 (Or.inr (Or.inl ⟨by omega, rfl, rfl⟩))
      · refine rd_iload_n C dX10_trail_27 rfl ?_
        refine rd_aload_n C dX10_trail_28 rfl ?_
        refine rd_get C rd_g10_0 rf_X10_7 dX10_trail_29 rd_c0 rd_m0 (x := rd_R (1)) rfl (fun _ => trivial) ?_
        refine rd_bipush C dX10_trail_32 (n := 35) (by decide) ⟨by decide, by decide⟩ ?_
        refine rd_ialdx C rd_ai18 dX10_trail_34 rd_c1 rd_m1 ⟨by omega, by omega⟩ (z := μ 1 35) rfl ?_
        refine rd_icmp_ge C dX10_trail_35 (tgt := 64) (by decide) (fun h_35 => ?_) (fun h_35 => ?_)
        · refine rd_bipush C dX10_trail_64 (n := -6) (by decide) ⟨by decide, by decide⟩ ?_
          exact rd_iret C dX10_trail_66 (Or.inr (Or.inl ⟨by omega, rfl, rfl⟩))
        · refine rd_aload_n C dX10_trail_38 rfl ?_
          refine rd_get C rd_g10_0 rf_X10_7 dX10_trail_39 rd_c0 rd_m0 (x := rd_R (1)) rfl (fun _ => trivial) ?_
          refine rd_bipush C dX10_trail_42 (n := 36) (by decide) ⟨by decide, by decide⟩ ?_
          refine rd_iconst C dX10_trail_44 (n := 3) ⟨by decide, by decide⟩ ?_
          refine rd_aload_n C dX10_trail_45 rfl ?_
          refine rd_get C rd_g10_0 rf_X10_7 dX10_trail_46 rd_c0 rd_m0 (x := rd_R (1)) rfl (fun _ => trivial) ?_
          refine rd_bipush C dX10_trail_49 (n := 35) (by decide) ⟨by decide, by decide⟩ ?_
          refine rd_ialdx C rd_ai18 dX10_trail_51 rd_c1 rd_m1 ⟨by omega, by omega⟩ (z := μ 1 35) rfl ?_
          refine rd_iconst C dX10_trail_52 (n := 1) ⟨by decide, by decide⟩ ?_
          refine rd_isub C dX10_trail_53 (z := μ 1 35 - 1) rfl ⟨by omega, by omega⟩ ?_
          refine rd_iload_n C dX10_trail_54 rfl ?_
          refine rd_isub C dX10_trail_55 (z := μ 1 35 - 1 - p0) rfl ⟨by omega, by omega⟩ ?_
          refine rd_imul C dX10_trail_56 (z := 3 * (μ 1 35 - 1 - p0)) rfl ⟨by omega, by omega⟩ ?_
          refine rd_iadd C dX10_trail_57 (z := 36 + (3 * (μ 1 35 - 1 - p0))) rfl ⟨by omega, by omega⟩ ?_
          refine rd_iload_n C dX10_trail_58 rfl ?_
          refine rd_iadd C dX10_trail_59 (z := 36 + (3 * (μ 1 35 - 1 - p0)) + q0) rfl ⟨by omega, by omega⟩ ?_
          refine rd_ialdx C rd_ai18 dX10_trail_60 rd_c1 rd_m1 ⟨by omega, by omega⟩ (z := μ 1 (36 + (3 * (μ 1 35 - 1 - p0)) + q0)) rfl ?_
          refine rd_goto C dX10_trail_61 (tgt := 66) (by decide) ?_
          exact rd_iret C dX10_trail_66 (Or.inr (Or.inr (⟨by omega, rfl, rfl⟩)))
    · rw [hv1, hm1]; clear hv1 hm1 v1 w1
      refine rd_if_ne C dX10_trail_10 (tgt := 16) (by decide) (fun h => absurd h (by decide)) (fun _ => ?_)
      refine rd_bipush C dX10_trail_13 (n := -2) (by decide) ⟨by decide, by decide⟩ ?_
      exact rd_iret C dX10_trail_15 (Or.inl ⟨by omega, rfl, rfl⟩)
set_option maxHeartbeats 4000000 in
set_option maxRecDepth 100000 in
theorem c_X10_backTo {l : Launch} {G : rd_G} {r : Nat} {μ : rd_Mem} (hI : mo_I μ) : rd_M l G rd_km 5 r yX10_backTo cX10_backTo 2 (some .int) (rd_rm 3 65) [rd_R 0] μ (fun v μ' => (¬ (mo_on μ ∧ mo_bp μ ≠ -1) ∧ v = some (rd_I (-6)) ∧ μ' = μ) ∨ ((mo_on μ ∧ mo_bp μ ≠ -1) ∧ v = some (rd_I (μ 1 (36 + 3 * mo_bp μ))) ∧ μ' = μ)) := by
  refine rd_enter (by decide +kernel) (Nat.le_of_ble_eq_true rfl) [rd_R 0, rd_J] rfl (fun p e s m args below meth c C => ?_)
  refine rd_W.rng (fun hM hL _ => ?_)
  have ht1 := hI.2.1.1
  have ht2 := hI.2.1.2
  refine rd_aload_n C dX10_backTo_0 rfl ?_
  refine rd_callV C (c_X10_isOn) rm_X10_98 ri_X10_isOn rs_X10_isOn rc_X10_isOn rz_X10 ⟨rp_X10_isOn, rfl, rfl, by decide, by decide⟩ rfl rd_kcl10 dX10_backTo_1 rd_c0 rd_m0 rfl (Nat.le_of_ble_eq_true rfl) (fun v1 w1 hq => ?_)
  rcases hq with ⟨hw_4, hv1, hm1⟩ | ⟨hw_4, hv1, hm1⟩
  · rw [hv1, hm1]; clear hv1 hm1 v1 w1
    refine rd_if_eq C dX10_backTo_4 (tgt := 14) (by decide) (fun h => absurd h (by decide)) (fun _ => ?_)
    refine rd_aload_n C dX10_backTo_7 rfl ?_
    refine rd_callV C (c_X10_backPlace hI.2.1.1 hI.2.1.2) rm_X10_58 ri_X10_backPlace rs_X10_backPlace rc_X10_backPlace rz_X10 ⟨rp_X10_backPlace, rfl, rfl, by decide, by decide⟩ rfl rd_kcl10 dX10_backTo_8 rd_c0 rd_m0 rfl (Nat.le_of_ble_eq_true rfl) (fun v1 w1 hq => ?_)
    obtain ⟨hv1, hm1⟩ := hq; rw [hv1, hm1]; clear hv1 hm1
    rcases mo_bp_r0 μ hI.2.1.1 with hz | hz
    · rw [show mo_z (mo_bp μ) = -6 from by rw [hz]; rfl]
      refine rd_goto C dX10_backTo_11 (tgt := 16) (by decide) ?_
      refine rd_istore_n C dX10_backTo_16 (by decide) (L' := [rd_R 0, rd_I (-6)]) rfl ?_
      refine rd_iload_n C dX10_backTo_17 rfl ?_
      refine rd_bipush C dX10_backTo_18 (n := -6) (by decide) ⟨by decide, by decide⟩ ?_
      refine rd_icmp_ne C dX10_backTo_20 (tgt := 28) (by decide) (fun h => absurd h (by decide)) (fun _ => ?_)
      refine rd_bipush C dX10_backTo_23 (n := -6) (by decide) ⟨by decide, by decide⟩ ?_
      refine rd_goto C dX10_backTo_25 (tgt := 39) (by decide) ?_
      exact rd_iret C dX10_backTo_39 (Or.inl ⟨(fun h => by first | exact hw_4 h.1 | exact h.2 hz), rfl, rfl⟩)
    · rw [mo_z_ne (by omega : mo_bp μ ≠ -1)]
      refine rd_goto C dX10_backTo_11 (tgt := 16) (by decide) ?_
      refine rd_istore_n C dX10_backTo_16 (by decide) (L' := [rd_R 0, rd_I (mo_bp μ)]) rfl ?_
      refine rd_iload_n C dX10_backTo_17 rfl ?_
      refine rd_bipush C dX10_backTo_18 (n := -6) (by decide) ⟨by decide, by decide⟩ ?_
      refine rd_icmp_ne C dX10_backTo_20 (tgt := 28) (by decide) (fun h_20 => ?_) (fun h_20 => ?_)
      · refine rd_aload_n C dX10_backTo_28 rfl ?_
        refine rd_get C rd_g10_0 rf_X10_7 dX10_backTo_29 rd_c0 rd_m0 (x := rd_R (1)) rfl (fun _ => trivial) ?_
        refine rd_bipush C dX10_backTo_32 (n := 36) (by decide) ⟨by decide, by decide⟩ ?_
        refine rd_iconst C dX10_backTo_34 (n := 3) ⟨by decide, by decide⟩ ?_
        refine rd_iload_n C dX10_backTo_35 rfl ?_
        refine rd_imul C dX10_backTo_36 (z := 3 * (mo_bp μ)) rfl ⟨by omega, by omega⟩ ?_
        refine rd_iadd C dX10_backTo_37 (z := 36 + 3 * (mo_bp μ)) rfl ⟨by omega, by omega⟩ ?_
        refine rd_ialdx C rd_ai18 dX10_backTo_38 rd_c1 rd_m1 ⟨by omega, by omega⟩ (z := μ 1 (36 + 3 * (mo_bp μ))) rfl ?_
        exact rd_iret C dX10_backTo_39 (Or.inr (⟨⟨hw_4, by omega⟩, rfl, rfl⟩))
      · exfalso; omega
  · rw [hv1, hm1]; clear hv1 hm1 v1 w1
    refine rd_if_eq C dX10_backTo_4 (tgt := 14) (by decide) (fun _ => ?_) (fun h => absurd h (by decide))
    refine rd_bipush C dX10_backTo_14 (n := -6) (by decide) ⟨by decide, by decide⟩ ?_
    refine rd_istore_n C dX10_backTo_16 (by decide) (L' := [rd_R 0, rd_I (-6)]) rfl ?_
    refine rd_iload_n C dX10_backTo_17 rfl ?_
    refine rd_bipush C dX10_backTo_18 (n := -6) (by decide) ⟨by decide, by decide⟩ ?_
    refine rd_icmp_ne C dX10_backTo_20 (tgt := 28) (by decide) (fun h => absurd h (by decide)) (fun _ => ?_)
    refine rd_bipush C dX10_backTo_23 (n := -6) (by decide) ⟨by decide, by decide⟩ ?_
    refine rd_goto C dX10_backTo_25 (tgt := 39) (by decide) ?_
    exact rd_iret C dX10_backTo_39 (Or.inl ⟨(fun h => by first | exact hw_4 h.1 | exact h.2 hz), rfl, rfl⟩)
theorem mo_nnp {μ : rd_Mem} {x : Int} {k : Nat} (hx : x = (sp_lat (fun i => μ 1 (12 + 2 * i)) (fun i => μ 1 (12 + 2 * i + 1)) (μ 1 32) k).2) (hk : μ 1 29 ≠ 1 → k = 0) (h : μ 1 29 = 1 → k = (μ 1 11).toNat) : (μ 1 29 ≠ 1 ∧ some (rd_I x) = some (rd_I (-6)) ∧ μ = μ) ∨ (μ 1 29 = 1 ∧ some (rd_I x) = some (rd_I (sp_lat (fun i => μ 1 (12 + 2 * i)) (fun i => μ 1 (12 + 2 * i + 1)) (μ 1 32) (μ 1 11).toNat).2) ∧ μ = μ) := by
  by_cases h9 : μ 1 29 = 1
  · exact Or.inr ⟨h9, by rw [hx, h h9], rfl⟩
  · exact Or.inl ⟨h9, by rw [hx, hk h9]; rfl, rfl⟩
set_option maxHeartbeats 4000000 in
set_option maxRecDepth 100000 in
theorem c_X10_noteNow {l : Launch} {G : rd_G} {r : Nat} {μ : rd_Mem} (hn : 0 ≤ μ 1 11 ∧ μ 1 11 ≤ 8) : rd_M l G rd_km 5 r yX10_noteNow cX10_noteNow 6 (some .int) (rd_rm 0 0) [rd_R 0] μ (fun v μ' => (μ 1 29 ≠ 1 ∧ v = some (rd_I (-6)) ∧ μ' = μ) ∨ (μ 1 29 = 1 ∧ v = some (rd_I (sp_lat (fun i => μ 1 (12 + 2 * i)) (fun i => μ 1 (12 + 2 * i + 1)) (μ 1 32) (μ 1 11).toNat).2) ∧ μ' = μ)) := by
  refine rd_enter (by decide +kernel) (Nat.le_of_ble_eq_true rfl) [rd_R 0, rd_J, rd_J, rd_J, rd_J, rd_J] rfl (fun p e s m args below meth c C => ?_)
  refine rd_W.rng (fun hM hL _ => ?_)
  refine rd_bipush C dX10_noteNow_0 (n := -6) (by decide) ⟨by decide, by decide⟩ ?_
  refine rd_istore_n C dX10_noteNow_2 (by decide) (L' := [rd_R 0, rd_I (-6), rd_J, rd_J, rd_J, rd_J]) rfl ?_
  refine rd_iconst C dX10_noteNow_3 (n := -1) ⟨by decide, by decide⟩ ?_
  refine rd_istore_n C dX10_noteNow_4 (by decide) (L' := [rd_R 0, rd_I (-6), rd_I (-1), rd_J, rd_J, rd_J]) rfl ?_
  refine rd_iconst C dX10_noteNow_5 (n := 0) ⟨by decide, by decide⟩ ?_
  refine rd_istore_n C dX10_noteNow_6 (by decide) (L' := [rd_R 0, rd_I (-6), rd_I (-1), rd_I 0, rd_J, rd_J]) rfl ?_
  have lp7 : ∀ (n : Nat) (k : Nat) (x y c3 : Int) (j4 j5 : rd_X), ((k : Int) ≤ μ 1 11) → (μ 1 11 < k + n) → (μ 1 29 ≠ 1 → k = 0) → (x = (sp_lat (fun i => μ 1 (12 + 2 * i)) (fun i => μ 1 (12 + 2 * i + 1)) (μ 1 32) k).2) → (y = (sp_lat (fun i => μ 1 (12 + 2 * i)) (fun i => μ 1 (12 + 2 * i + 1)) (μ 1 32) k).1) → (c3 = (k : Int)) → rd_W p l e (rd_rm 0 0) s m args below meth c (MQ below (rd_Qc G rd_km 5 r (fun v μ' => (μ 1 29 ≠ 1 ∧ v = some (rd_I (-6)) ∧ μ' = μ) ∨ (μ 1 29 = 1 ∧ v = some (rd_I (sp_lat (fun i => μ 1 (12 + 2 * i)) (fun i => μ 1 (12 + 2 * i + 1)) (μ 1 32) (μ 1 11).toNat).2) ∧ μ' = μ))) args s 0 0 (rd_A r 5)) 6 G rd_km 5 r 7 [rd_R 0, rd_I x, rd_I y, rd_I c3, j4, j5] [] μ := by
    intro n
    induction n with
    | zero => intro k x y c3 j4 j5  h2 h3 hk hx hy hc; exfalso; omega
    | succ n ih =>
      intro k x y c3 j4 j5  h2 h3 hk hx hy hc
      refine rd_iload_n C dX10_noteNow_7 rfl ?_
      refine rd_aload_n C dX10_noteNow_8 rfl ?_
      refine rd_get C rd_g10_0 rf_X10_7 dX10_noteNow_9 rd_c0 rd_m0 (x := rd_R (1)) rfl (fun _ => trivial) ?_
      refine rd_bipush C dX10_noteNow_12 (n := 11) (by decide) ⟨by decide, by decide⟩ ?_
      refine rd_ialdx C rd_ai18 dX10_noteNow_14 rd_c1 rd_m1 ⟨by omega, by omega⟩ (z := μ 1 11) rfl ?_
      refine rd_icmp_ge C dX10_noteNow_15 (tgt := 108) (by decide) (fun h_15 => ?_) (fun h_15 => ?_)
      · refine rd_iload_n C dX10_noteNow_108 rfl ?_
        exact rd_iret C dX10_noteNow_109 (mo_nnp hx hk (by omega))
      · refine rd_aload_n C dX10_noteNow_18 rfl ?_
        refine rd_get C rd_g10_0 rf_X10_7 dX10_noteNow_19 rd_c0 rd_m0 (x := rd_R (1)) rfl (fun _ => trivial) ?_
        refine rd_bipush C dX10_noteNow_22 (n := 29) (by decide) ⟨by decide, by decide⟩ ?_
        refine rd_ialdx C rd_ai18 dX10_noteNow_24 rd_c1 rd_m1 ⟨by omega, by omega⟩ (z := μ 1 29) rfl ?_
        refine rd_iconst C dX10_noteNow_25 (n := 1) ⟨by decide, by decide⟩ ?_
        refine rd_icmp_ne C dX10_noteNow_26 (tgt := 108) (by decide) (fun h_26 => ?_) (fun h_26 => ?_)
        · refine rd_iload_n C dX10_noteNow_108 rfl ?_
          exact rd_iret C dX10_noteNow_109 (mo_nnp hx hk (by omega))
        · refine rd_aload_n C dX10_noteNow_29 rfl ?_
          refine rd_get C rd_g10_0 rf_X10_7 dX10_noteNow_30 rd_c0 rd_m0 (x := rd_R (1)) rfl (fun _ => trivial) ?_
          refine rd_bipush C dX10_noteNow_33 (n := 12) (by decide) ⟨by decide, by decide⟩ ?_
          refine rd_iconst C dX10_noteNow_35 (n := 2) ⟨by decide, by decide⟩ ?_
          refine rd_iload_n C dX10_noteNow_36 rfl ?_
          refine rd_imul C dX10_noteNow_37 (z := 2 * c3) rfl ⟨by omega, by omega⟩ ?_
          refine rd_iadd C dX10_noteNow_38 (z := 12 + 2 * c3) rfl ⟨by omega, by omega⟩ ?_
          refine rd_ialdx C rd_ai18 dX10_noteNow_39 rd_c1 rd_m1 ⟨by omega, by omega⟩ (z := μ 1 (12 + 2 * c3)) rfl ?_
          refine rd_istore C dX10_noteNow_40 (by decide) (L' := [rd_R 0, rd_I x, rd_I y, rd_I c3, rd_I (μ 1 (12 + 2 * c3)), j5]) rfl ?_
          refine rd_iload C dX10_noteNow_42 rfl ?_
          refine rd_aload_n C dX10_noteNow_44 rfl ?_
          refine rd_get C rd_g10_0 rf_X10_7 dX10_noteNow_45 rd_c0 rd_m0 (x := rd_R (1)) rfl (fun _ => trivial) ?_
          refine rd_bipush C dX10_noteNow_48 (n := 32) (by decide) ⟨by decide, by decide⟩ ?_
          refine rd_ialdx C rd_ai18 dX10_noteNow_50 rd_c1 rd_m1 ⟨by omega, by omega⟩ (z := μ 1 32) rfl ?_
          refine rd_icmp_gt C dX10_noteNow_51 (tgt := 64) (by decide) (fun h_51 => ?_) (fun h_51 => ?_)
          · refine rd_iconst C dX10_noteNow_64 (n := 0) ⟨by decide, by decide⟩ ?_
            refine rd_istore C dX10_noteNow_65 (by decide) (L' := [rd_R 0, rd_I x, rd_I y, rd_I c3, rd_I (μ 1 (12 + 2 * c3)), rd_I 0]) rfl ?_
            refine rd_iload C dX10_noteNow_67 rfl ?_
            refine rd_if_eq C dX10_noteNow_69 (tgt := 88) (by decide) (fun _ => ?_) (fun h => absurd h (by decide))
            refine rd_iload_n C dX10_noteNow_88 rfl ?_
            refine rd_istore_n C dX10_noteNow_89 (by decide) (L' := [rd_R 0, rd_I x, rd_I y, rd_I c3, rd_I (μ 1 (12 + 2 * c3)), rd_I 0]) rfl ?_
            refine rd_iload C dX10_noteNow_90 rfl ?_
            refine rd_if_eq C dX10_noteNow_92 (tgt := 100) (by decide) (fun _ => ?_) (fun h => absurd h (by decide))
            refine rd_iload_n C dX10_noteNow_100 rfl ?_
            refine rd_istore_n C dX10_noteNow_101 (by decide) (L' := [rd_R 0, rd_I x, rd_I y, rd_I c3, rd_I (μ 1 (12 + 2 * c3)), rd_I 0]) rfl ?_
            refine rd_iinc C dX10_noteNow_102 (by decide) rfl ⟨by omega, by omega⟩ (L' := [rd_R 0, rd_I x, rd_I y, rd_I (c3 + 1), rd_I (μ 1 (12 + 2 * c3)), rd_I 0]) rfl ?_
            refine rd_goto C dX10_noteNow_105 (tgt := 7) (by decide) ?_
            exact ih (k + 1) _ _ _ _ _ (by omega) (by omega) (fun h => absurd h_26 h) (by simp only [sp_lat]; rw [if_neg (fun h => by rw [← hc, ← hy] at h; omega), hx]) (by simp only [sp_lat]; rw [if_neg (fun h => by rw [← hc, ← hy] at h; omega), hy]) (by omega)
          · refine rd_iload C dX10_noteNow_54 rfl ?_
            refine rd_iload_n C dX10_noteNow_56 rfl ?_
            refine rd_icmp_le C dX10_noteNow_57 (tgt := 64) (by decide) (fun h_57 => ?_) (fun h_57 => ?_)
            · refine rd_iconst C dX10_noteNow_64 (n := 0) ⟨by decide, by decide⟩ ?_
              refine rd_istore C dX10_noteNow_65 (by decide) (L' := [rd_R 0, rd_I x, rd_I y, rd_I c3, rd_I (μ 1 (12 + 2 * c3)), rd_I 0]) rfl ?_
              refine rd_iload C dX10_noteNow_67 rfl ?_
              refine rd_if_eq C dX10_noteNow_69 (tgt := 88) (by decide) (fun _ => ?_) (fun h => absurd h (by decide))
              refine rd_iload_n C dX10_noteNow_88 rfl ?_
              refine rd_istore_n C dX10_noteNow_89 (by decide) (L' := [rd_R 0, rd_I x, rd_I y, rd_I c3, rd_I (μ 1 (12 + 2 * c3)), rd_I 0]) rfl ?_
              refine rd_iload C dX10_noteNow_90 rfl ?_
              refine rd_if_eq C dX10_noteNow_92 (tgt := 100) (by decide) (fun _ => ?_) (fun h => absurd h (by decide))
              refine rd_iload_n C dX10_noteNow_100 rfl ?_
              refine rd_istore_n C dX10_noteNow_101 (by decide) (L' := [rd_R 0, rd_I x, rd_I y, rd_I c3, rd_I (μ 1 (12 + 2 * c3)), rd_I 0]) rfl ?_
              refine rd_iinc C dX10_noteNow_102 (by decide) rfl ⟨by omega, by omega⟩ (L' := [rd_R 0, rd_I x, rd_I y, rd_I (c3 + 1), rd_I (μ 1 (12 + 2 * c3)), rd_I 0]) rfl ?_
              refine rd_goto C dX10_noteNow_105 (tgt := 7) (by decide) ?_
              exact ih (k + 1) _ _ _ _ _ (by omega) (by omega) (fun h => absurd h_26 h) (by simp only [sp_lat]; rw [if_neg (fun h => by rw [← hc, ← hy] at h; omega), hx]) (by simp only [sp_lat]; rw [if_neg (fun h => by rw [← hc, ← hy] at h; omega), hy]) (by omega)
            · refine rd_iconst C dX10_noteNow_60 (n := 1) ⟨by decide, by decide⟩ ?_
              refine rd_goto C dX10_noteNow_61 (tgt := 65) (by decide) ?_
              refine rd_istore C dX10_noteNow_65 (by decide) (L' := [rd_R 0, rd_I x, rd_I y, rd_I c3, rd_I (μ 1 (12 + 2 * c3)), rd_I 1]) rfl ?_
              refine rd_iload C dX10_noteNow_67 rfl ?_
              refine rd_if_eq C dX10_noteNow_69 (tgt := 88) (by decide) (fun h => absurd h (by decide)) (fun _ => ?_)
              refine rd_aload_n C dX10_noteNow_72 rfl ?_
              refine rd_get C rd_g10_0 rf_X10_7 dX10_noteNow_73 rd_c0 rd_m0 (x := rd_R (1)) rfl (fun _ => trivial) ?_
              refine rd_bipush C dX10_noteNow_76 (n := 12) (by decide) ⟨by decide, by decide⟩ ?_
              refine rd_iconst C dX10_noteNow_78 (n := 2) ⟨by decide, by decide⟩ ?_
              refine rd_iload_n C dX10_noteNow_79 rfl ?_
              refine rd_imul C dX10_noteNow_80 (z := 2 * c3) rfl ⟨by omega, by omega⟩ ?_
              refine rd_iadd C dX10_noteNow_81 (z := 12 + 2 * c3) rfl ⟨by omega, by omega⟩ ?_
              refine rd_iconst C dX10_noteNow_82 (n := 1) ⟨by decide, by decide⟩ ?_
              refine rd_iadd C dX10_noteNow_83 (z := 12 + 2 * c3 + 1) rfl ⟨by omega, by omega⟩ ?_
              refine rd_ialdx C rd_ai18 dX10_noteNow_84 rd_c1 rd_m1 ⟨by omega, by omega⟩ (z := μ 1 (12 + 2 * c3 + 1)) rfl ?_
              refine rd_goto C dX10_noteNow_85 (tgt := 89) (by decide) ?_
              refine rd_istore_n C dX10_noteNow_89 (by decide) (L' := [rd_R 0, rd_I (μ 1 (12 + 2 * c3 + 1)), rd_I y, rd_I c3, rd_I (μ 1 (12 + 2 * c3)), rd_I 1]) rfl ?_
              refine rd_iload C dX10_noteNow_90 rfl ?_
              refine rd_if_eq C dX10_noteNow_92 (tgt := 100) (by decide) (fun h => absurd h (by decide)) (fun _ => ?_)
              refine rd_iload C dX10_noteNow_95 rfl ?_
              refine rd_goto C dX10_noteNow_97 (tgt := 101) (by decide) ?_
              refine rd_istore_n C dX10_noteNow_101 (by decide) (L' := [rd_R 0, rd_I (μ 1 (12 + 2 * c3 + 1)), rd_I (μ 1 (12 + 2 * c3)), rd_I c3, rd_I (μ 1 (12 + 2 * c3)), rd_I 1]) rfl ?_
              refine rd_iinc C dX10_noteNow_102 (by decide) rfl ⟨by omega, by omega⟩ (L' := [rd_R 0, rd_I (μ 1 (12 + 2 * c3 + 1)), rd_I (μ 1 (12 + 2 * c3)), rd_I (c3 + 1), rd_I (μ 1 (12 + 2 * c3)), rd_I 1]) rfl ?_
              refine rd_goto C dX10_noteNow_105 (tgt := 7) (by decide) ?_
              exact ih (k + 1) _ _ _ _ _ (by omega) (by omega) (fun h => absurd h_26 h) (by simp only [sp_lat]; rw [if_pos ⟨by rw [← hc]; omega, by rw [← hc, ← hy]; omega⟩, ← hc]) (by simp only [sp_lat]; rw [if_pos ⟨by rw [← hc]; omega, by rw [← hc, ← hy]; omega⟩, ← hc]) (by omega)
  exact lp7 ((μ 1 11).toNat + 1) 0 _ _ _ _ _ (by omega) (by omega) (fun _ => rfl) rfl rfl rfl
theorem sp_bit0 : ∀ x : Fin 64, ∀ k : Fin 6, rd_i (x.val : Int) >>> (rd_i (k.val : Int) &&& 31) = rd_i ((x.val : Int) / 2 ^ k.val) ∧ rd_i ((x.val : Int) / 2 ^ k.val) &&& rd_i 1 = rd_i ((x.val : Int) / 2 ^ k.val % 2) := by decide +kernel
theorem sp_bit {x : Int} {k : Nat} (h0 : 0 ≤ x) (h1 : x < 64) (hk : k < 6) : rd_i x >>> (rd_i (k : Int) &&& 31) = rd_i (x / 2 ^ k) ∧ rd_i (x / 2 ^ k) &&& rd_i 1 = rd_i (x / 2 ^ k % 2) := by
  have := sp_bit0 ⟨x.toNat, by omega⟩ ⟨k, hk⟩
  simp only at this
  rw [show ((x.toNat : Nat) : Int) = x by omega] at this
  exact this
theorem sp_mask_r6 (f l : Int → Int) (st : Int) {n : Nat} (h : n ≤ 6) : 0 ≤ sp_mask f l st n ∧ sp_mask f l st n < 64 := by
  have h1 := sp_mask_r f l st n
  have h2 : (2 : Int) ^ n ≤ 64 := by
    have : n = 0 ∨ n = 1 ∨ n = 2 ∨ n = 3 ∨ n = 4 ∨ n = 5 ∨ n = 6 := by omega
    rcases this with rfl | rfl | rfl | rfl | rfl | rfl | rfl <;> decide
  omega
theorem sp_mask_b (f l : Int → Int) (st : Int) {n k : Nat} (h : n ≤ 6) (hk : k < 6) : (k < n ∧ sp_seen f l k st ∧ sp_mask f l st n / 2 ^ k % 2 = 1) ∨ (¬ (k < n ∧ sp_seen f l k st) ∧ sp_mask f l st n / 2 ^ k % 2 = 0) := by
  induction n with
  | zero => exact Or.inr ⟨fun h => by omega, by simp [sp_mask]⟩
  | succ n ih =>
    have ih' := ih (by omega)
    have hr := sp_mask_r f l st n
    simp only [sp_mask]
    have hn : n = 0 ∨ n = 1 ∨ n = 2 ∨ n = 3 ∨ n = 4 ∨ n = 5 := by omega
    have hk6 : k = 0 ∨ k = 1 ∨ k = 2 ∨ k = 3 ∨ k = 4 ∨ k = 5 := by omega
    by_cases hs : sp_seen f l n st
    · rw [sp_ift hs]
      by_cases hkn : k = n
      · refine Or.inl ⟨by omega, by rw [hkn]; exact hs, ?_⟩
        rcases hn with rfl | rfl | rfl | rfl | rfl | rfl <;> subst hkn <;> omega
      · rcases ih' with ⟨g1, g2, g3⟩ | ⟨g1, g3⟩
        · refine Or.inl ⟨by omega, g2, ?_⟩
          rcases hn with rfl | rfl | rfl | rfl | rfl | rfl <;> rcases hk6 with rfl | rfl | rfl | rfl | rfl | rfl <;> first | (exfalso; omega) | omega
        · refine Or.inr ⟨fun h => g1 ⟨by omega, h.2⟩, ?_⟩
          rcases hn with rfl | rfl | rfl | rfl | rfl | rfl <;> rcases hk6 with rfl | rfl | rfl | rfl | rfl | rfl <;> first | (exfalso; omega) | omega
    · rw [sp_iff hs, Int.add_zero]
      rcases ih' with ⟨g1, g2, g3⟩ | ⟨g1, g3⟩
      · exact Or.inl ⟨by omega, g2, g3⟩
      · refine Or.inr ⟨fun h => ?_, g3⟩
        by_cases hkn : k = n
        · rw [hkn] at h; exact hs h.2
        · exact g1 ⟨by omega, h.2⟩
noncomputable def mo_tg (μ : rd_Mem) (n t : Int) : Nat → Int := sp_tags (fun q => mo_o μ n (4 + 3 * q)) (fun q => mo_o μ n (4 + 3 * q + 1)) (fun q => mo_o μ n (4 + 3 * q + 2)) t
set_option maxHeartbeats 4000000 in
set_option maxRecDepth 100000 in
theorem c_X10_labels {l : Launch} {G : rd_G} {r : Nat} {μ : rd_Mem} (hI : mo_I μ) (h29 : μ 1 29 ≠ 0 → μ 1 29 = 1) (htg : ∀ q : Int, 0 ≤ q → q < mo_o μ (μ 1 30) 3 → 0 ≤ mo_o μ (μ 1 30) (4 + 3 * q + 2) ∧ mo_o μ (μ 1 30) (4 + 3 * q + 2) ≤ 99) : rd_M l G rd_km 5 r yX10_labels cX10_labels 4 (some .int) (rd_rm 2 48) [rd_R 0] μ (fun v μ' => (μ 1 29 = 0 ∧ v = some (rd_I (-6)) ∧ μ' = μ) ∨ (μ 1 29 ≠ 0 ∧ v = some (rd_I (mo_tg μ (μ 1 30) (μ 1 31) (mo_o μ (μ 1 30) 3).toNat)) ∧ μ' = μ)) := by
  refine rd_enter (by decide +kernel) (Nat.le_of_ble_eq_true rfl) [rd_R 0, rd_J, rd_J, rd_J] rfl (fun p e s m args below meth c C => ?_)
  refine rd_W.rng (fun hM hL _ => ?_)
  refine rd_aload_n C dX10_labels_0 rfl ?_
  refine rd_get C rd_g10_0 rf_X10_7 dX10_labels_1 rd_c0 rd_m0 (x := rd_R (1)) rfl (fun _ => trivial) ?_
  refine rd_bipush C dX10_labels_4 (n := 29) (by decide) ⟨by decide, by decide⟩ ?_
  refine rd_ialdx C rd_ai18 dX10_labels_6 rd_c1 rd_m1 ⟨by omega, by omega⟩ (z := μ 1 29) rfl ?_
  refine rd_if_ne C dX10_labels_7 (tgt := 13) (by decide) (fun h_7 => ?_) (fun h_7 => ?_)
  · have hat := mo_I_at hI (h29 h_7)
    have hi3 := hat.2.1.1
    refine rd_aload_n C dX10_labels_13 rfl ?_
    refine rd_aload_n C dX10_labels_14 rfl ?_
    refine rd_get C rd_g10_0 rf_X10_7 dX10_labels_15 rd_c0 rd_m0 (x := rd_R (1)) rfl (fun _ => trivial) ?_
    refine rd_bipush C dX10_labels_18 (n := 30) (by decide) ⟨by decide, by decide⟩ ?_
    refine rd_ialdx C rd_ai18 dX10_labels_20 rd_c1 rd_m1 ⟨by omega, by omega⟩ (z := μ 1 30) rfl ?_
    refine rd_aload_n C dX10_labels_21 rfl ?_
    refine rd_get C rd_g10_0 rf_X10_7 dX10_labels_22 rd_c0 rd_m0 (x := rd_R (1)) rfl (fun _ => trivial) ?_
    refine rd_bipush C dX10_labels_25 (n := 31) (by decide) ⟨by decide, by decide⟩ ?_
    refine rd_ialdx C rd_ai18 dX10_labels_27 rd_c1 rd_m1 ⟨by omega, by omega⟩ (z := μ 1 31) rfl ?_
    refine rd_callV C (c_X10_seen hat.1 hat.2.1.1.1 hat.2.1.1.2) rm_X10_140 ri_X10_seen rs_X10_seen rc_X10_seen rz_X10 ⟨rp_X10_seen, rfl, rfl, by decide, by decide⟩ rfl rd_kcl10 dX10_labels_28 rd_c0 rd_m0 rfl (Nat.le_of_ble_eq_true rfl) (fun v1 w1 hq => ?_)
    obtain ⟨hv1, hm1⟩ := hq; rw [show v1 = some (rd_I (mo_mk μ (μ 1 30) (μ 1 31) (mo_o μ (μ 1 30) 3).toNat)) from hv1, hm1]; clear hv1 hm1
    refine rd_istore_n C dX10_labels_31 (by decide) (L' := [rd_R 0, rd_I (mo_mk μ (μ 1 30) (μ 1 31) (mo_o μ (μ 1 30) 3).toNat), rd_J, rd_J]) rfl ?_
    refine rd_iconst C dX10_labels_32 (n := 0) ⟨by decide, by decide⟩ ?_
    refine rd_istore_n C dX10_labels_33 (by decide) (L' := [rd_R 0, rd_I (mo_mk μ (μ 1 30) (μ 1 31) (mo_o μ (μ 1 30) 3).toNat), rd_I 0, rd_J]) rfl ?_
    refine rd_iconst C dX10_labels_34 (n := 0) ⟨by decide, by decide⟩ ?_
    refine rd_istore_n C dX10_labels_35 (by decide) (L' := [rd_R 0, rd_I (mo_mk μ (μ 1 30) (μ 1 31) (mo_o μ (μ 1 30) 3).toNat), rd_I 0, rd_I 0]) rfl ?_
    have lp36 : ∀ (n : Nat) (k : Nat) (x c3 : Int), (k ≤ 6) → (6 < k + n) → (x = mo_tg μ (μ 1 30) (μ 1 31) (min k (mo_o μ (μ 1 30) 3).toNat)) → (0 ≤ x ∧ x ≤ 99 * k) → (c3 = (k : Int)) → rd_W p l e (rd_rm 2 48) s m args below meth c (MQ below (rd_Qc G rd_km 5 r (fun v μ' => (μ 1 29 = 0 ∧ v = some (rd_I (-6)) ∧ μ' = μ) ∨ (μ 1 29 ≠ 0 ∧ v = some (rd_I (mo_tg μ (μ 1 30) (μ 1 31) (mo_o μ (μ 1 30) 3).toNat)) ∧ μ' = μ))) args s 0 0 (rd_A r 5)) 4 G rd_km 5 r 36 [rd_R 0, rd_I (mo_mk μ (μ 1 30) (μ 1 31) (mo_o μ (μ 1 30) 3).toNat), rd_I x, rd_I c3] [] μ := by
      intro n
      induction n with
      | zero => intro k x c3  h2 h3 hx hx2 hc; exfalso; omega
      | succ n ih =>
        intro k x c3  h2 h3 hx hx2 hc
        refine rd_iload_n C dX10_labels_36 rfl ?_
        refine rd_bipush C dX10_labels_37 (n := 6) (by decide) ⟨by decide, by decide⟩ ?_
        refine rd_icmp_ge C dX10_labels_39 (tgt := 82) (by decide) (fun h_39 => ?_) (fun h_39 => ?_)
        · refine rd_iload_n C dX10_labels_82 rfl ?_
          exact rd_iret C dX10_labels_83 (Or.inr (⟨h_7, by rw [hx, show min k (mo_o μ (μ 1 30) 3).toNat = (mo_o μ (μ 1 30) 3).toNat by omega], rfl⟩))
        · have hmr := sp_mask_r6 (fun q => mo_o μ (μ 1 30) (4 + 3 * q)) (fun q => mo_o μ (μ 1 30) (4 + 3 * q + 1)) (μ 1 31) (n := (mo_o μ (μ 1 30) 3).toNat) (by omega)
          have hmb := sp_mask_b (fun q => mo_o μ (μ 1 30) (4 + 3 * q)) (fun q => mo_o μ (μ 1 30) (4 + 3 * q + 1)) (μ 1 31) (n := (mo_o μ (μ 1 30) 3).toNat) (k := k) (by omega) (by omega)
          change 0 ≤ mo_mk μ (μ 1 30) (μ 1 31) (mo_o μ (μ 1 30) 3).toNat ∧ mo_mk μ (μ 1 30) (μ 1 31) (mo_o μ (μ 1 30) 3).toNat < 64 at hmr
          change (k < (mo_o μ (μ 1 30) 3).toNat ∧ _ ∧ (mo_mk μ (μ 1 30) (μ 1 31) (mo_o μ (μ 1 30) 3).toNat) / 2 ^ k % 2 = 1) ∨ (¬ (k < (mo_o μ (μ 1 30) 3).toNat ∧ _) ∧ (mo_mk μ (μ 1 30) (μ 1 31) (mo_o μ (μ 1 30) 3).toNat) / 2 ^ k % 2 = 0) at hmb
          refine rd_iload_n C dX10_labels_42 rfl ?_
          refine rd_iload_n C dX10_labels_43 rfl ?_
          refine rd_iload_n C dX10_labels_44 rfl ?_
          refine rd_ishr C dX10_labels_45 (z := (mo_mk μ (μ 1 30) (μ 1 31) (mo_o μ (μ 1 30) 3).toNat) / 2 ^ k) (by rw [hc]; exact (sp_bit hmr.1 hmr.2 (by omega)).1) (by have h2 := hmb; have := Int.ediv_le_self (2 ^ k) hmr.1; have := Int.ediv_nonneg hmr.1 (show (0 : Int) ≤ 2 ^ k by have := sp_two (k := k) (by omega); omega); exact ⟨by omega, by omega⟩) ?_
          refine rd_iconst C dX10_labels_46 (n := 1) ⟨by decide, by decide⟩ ?_
          refine rd_iand C dX10_labels_47 (z := (mo_mk μ (μ 1 30) (μ 1 31) (mo_o μ (μ 1 30) 3).toNat) / 2 ^ k % 2) (sp_bit hmr.1 hmr.2 (by omega)).2 ⟨by omega, by omega⟩ ?_
          refine rd_iconst C dX10_labels_48 (n := 1) ⟨by decide, by decide⟩ ?_
          refine rd_icmp_ne C dX10_labels_49 (tgt := 73) (by decide) (fun h_49 => ?_) (fun h_49 => ?_)
          · refine rd_iconst C dX10_labels_73 (n := 0) ⟨by decide, by decide⟩ ?_
            refine rd_iadd C dX10_labels_74 (z := x + 0) rfl (by first | exact ⟨by omega, by omega⟩ | (obtain ⟨hb1, hb2⟩ : k < (mo_o μ (μ 1 30) 3).toNat ∧ True := (by rcases hmb with ⟨g1, g2, -⟩ | ⟨-, g3⟩; exact ⟨g1, trivial⟩; omega); have htq := htg c3 (by omega) (by omega); exact ⟨by omega, by omega⟩)) ?_
            refine rd_istore_n C dX10_labels_75 (by decide) (L' := [rd_R 0, rd_I (mo_mk μ (μ 1 30) (μ 1 31) (mo_o μ (μ 1 30) 3).toNat), rd_I (x + 0), rd_I c3]) rfl ?_
            refine rd_iinc C dX10_labels_76 (by decide) rfl ⟨by omega, by omega⟩ (L' := [rd_R 0, rd_I (mo_mk μ (μ 1 30) (μ 1 31) (mo_o μ (μ 1 30) 3).toNat), rd_I (x + 0), rd_I (c3 + 1)]) rfl ?_
            refine rd_goto C dX10_labels_79 (tgt := 36) (by decide) ?_
            have hb : ¬ (k < (mo_o μ (μ 1 30) 3).toNat ∧ sp_seen (fun q => mo_o μ (μ 1 30) (4 + 3 * q)) (fun q => mo_o μ (μ 1 30) (4 + 3 * q + 1)) k (μ 1 31)) := by
              rcases hmb with ⟨g1, g2, g3⟩ | ⟨g2, g3⟩
              · exact absurd g3 h_49
              · exact g2
            exact ih (k + 1) _ _ (by omega) (by omega) (by
              by_cases hkn : k < (mo_o μ (μ 1 30) 3).toNat
              · rw [hx, show min k (mo_o μ (μ 1 30) 3).toNat = k by omega, show min (k + 1) (mo_o μ (μ 1 30) 3).toNat = k + 1 by omega]; unfold mo_tg; simp only [sp_tags]; rw [sp_iff (fun h => hb ⟨hkn, h⟩)]
              · rw [hx, show min k (mo_o μ (μ 1 30) 3).toNat = min (k + 1) (mo_o μ (μ 1 30) 3).toNat by omega]; omega) (by omega) (by omega)
          · refine rd_aload_n C dX10_labels_52 rfl ?_
            refine rd_aload_n C dX10_labels_53 rfl ?_
            refine rd_get C rd_g10_0 rf_X10_7 dX10_labels_54 rd_c0 rd_m0 (x := rd_R (1)) rfl (fun _ => trivial) ?_
            refine rd_bipush C dX10_labels_57 (n := 30) (by decide) ⟨by decide, by decide⟩ ?_
            refine rd_ialdx C rd_ai18 dX10_labels_59 rd_c1 rd_m1 ⟨by omega, by omega⟩ (z := μ 1 30) rfl ?_
            refine rd_iconst C dX10_labels_60 (n := 4) ⟨by decide, by decide⟩ ?_
            refine rd_iconst C dX10_labels_61 (n := 3) ⟨by decide, by decide⟩ ?_
            refine rd_iload_n C dX10_labels_62 rfl ?_
            refine rd_imul C dX10_labels_63 (z := 3 * c3) rfl ⟨by omega, by omega⟩ ?_
            refine rd_iadd C dX10_labels_64 (z := 4 + 3 * c3) rfl ⟨by omega, by omega⟩ ?_
            refine rd_iconst C dX10_labels_65 (n := 2) ⟨by decide, by decide⟩ ?_
            refine rd_iadd C dX10_labels_66 (z := 4 + 3 * c3 + 2) rfl ⟨by omega, by omega⟩ ?_
            refine rd_callV C (c_X10_of (i := μ 1 30) (q := 4 + 3 * c3 + 2) hat.1 ⟨by omega, by omega⟩) rm_X10_26 ri_X10_of rs_X10_of rc_X10_of rz_X10 ⟨rp_X10_of, rfl, rfl, by decide, by decide⟩ rfl rd_kcl10 dX10_labels_67 rd_c0 rd_m0 rfl (Nat.le_of_ble_eq_true rfl) (fun v1 w1 hq => ?_)
            obtain ⟨hv1, hm1⟩ := hq; rw [show v1 = some (rd_I (mo_o μ (μ 1 30) (4 + 3 * c3 + 2))) from hv1, hm1]; clear hv1 hm1
            refine rd_goto C dX10_labels_70 (tgt := 74) (by decide) ?_
            refine rd_iadd C dX10_labels_74 (z := x + (mo_o μ (μ 1 30) (4 + 3 * c3 + 2))) rfl (by first | exact ⟨by omega, by omega⟩ | (obtain ⟨hb1, hb2⟩ : k < (mo_o μ (μ 1 30) 3).toNat ∧ True := (by rcases hmb with ⟨g1, g2, -⟩ | ⟨-, g3⟩; exact ⟨g1, trivial⟩; omega); have htq := htg c3 (by omega) (by omega); exact ⟨by omega, by omega⟩)) ?_
            refine rd_istore_n C dX10_labels_75 (by decide) (L' := [rd_R 0, rd_I (mo_mk μ (μ 1 30) (μ 1 31) (mo_o μ (μ 1 30) 3).toNat), rd_I (x + (mo_o μ (μ 1 30) (4 + 3 * c3 + 2))), rd_I c3]) rfl ?_
            refine rd_iinc C dX10_labels_76 (by decide) rfl ⟨by omega, by omega⟩ (L' := [rd_R 0, rd_I (mo_mk μ (μ 1 30) (μ 1 31) (mo_o μ (μ 1 30) 3).toNat), rd_I (x + (mo_o μ (μ 1 30) (4 + 3 * c3 + 2))), rd_I (c3 + 1)]) rfl ?_
            refine rd_goto C dX10_labels_79 (tgt := 36) (by decide) ?_
            obtain ⟨hb1, hb2⟩ : k < (mo_o μ (μ 1 30) 3).toNat ∧ sp_seen (fun q => mo_o μ (μ 1 30) (4 + 3 * q)) (fun q => mo_o μ (μ 1 30) (4 + 3 * q + 1)) k (μ 1 31) := by
              rcases hmb with ⟨g1, g2, -⟩ | ⟨-, g3⟩
              · exact ⟨g1, g2⟩
              · omega
            have htq := htg c3 (by omega) (by omega)
            exact ih (k + 1) _ _ (by omega) (by omega) (by rw [hx, show min k (mo_o μ (μ 1 30) 3).toNat = k by omega, show min (k + 1) (mo_o μ (μ 1 30) 3).toNat = k + 1 by omega]; unfold mo_tg; simp only [sp_tags]; rw [sp_ift hb2, hc]) (by omega) (by omega)
    exact lp36 7 0 0 0 (by omega) (by omega) (by rw [Nat.zero_min]; rfl) (by omega) rfl
  · refine rd_bipush C dX10_labels_10 (n := -6) (by decide) ⟨by decide, by decide⟩ ?_
    exact rd_iret C dX10_labels_12 (Or.inl ⟨h_7, rfl, rfl⟩)
