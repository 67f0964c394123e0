theorem sp_FS0 (μ : rd_Mem) (n : Int) : 0 ≤ sp_FS μ n := sp_fs0 _ _ _
theorem sp_FS9 {μ : rd_Mem} (hit : sp_its μ) (hfi : sp_fi μ) {n : Int} (h0 : 0 ≤ n) (h1 : n < 10) : sp_FS μ n ≤ 9 := by
  have h2 := hit n h0 h1
  exact sp_fs_le _ _ _ (fun q hq => hfi n h0 h1 q (by omega) (by omega) (by omega))
set_option maxHeartbeats 4000000 in
set_option maxRecDepth 100000 in
theorem c_X0_sumSteps {l : Launch} {G : rd_G} {r : Nat} {μ : rd_Mem} (hit : sp_its μ) (hfi : sp_fi μ) : rd_M l G rd_kc 313 r yX0_sumSteps cX0_sumSteps 6 (some .int) (rd_rm 2 62) [rd_R 2] μ (fun v μ' => v = some (rd_I (sp_sum (fun i => sp_if (μ (5 + 5 * i) 0 ≠ 0) (sp_FS μ i + 1) 0) 10)) ∧ μ' = μ) := by
  refine rd_enter (by decide +kernel) (Nat.le_of_ble_eq_true rfl) [rd_R 2, rd_J, rd_J, rd_J, rd_J, rd_J] rfl (fun p e s m args below meth c C => ?_)
  refine rd_W.rng (fun hM hL _ => ?_)
  refine rd_iconst C dX0_sumSteps_0 (n := 0) ⟨by decide, by decide⟩ ?_
  refine rd_istore_n C dX0_sumSteps_1 (by decide) (L' := [rd_R 2, rd_I 0, rd_J, rd_J, rd_J, rd_J]) rfl ?_
  refine rd_aload_n C dX0_sumSteps_2 rfl ?_
  refine rd_get C rd_g0_2 rf_X0_17 dX0_sumSteps_3 rd_b2 rd_k2 (x := rd_R (4)) rfl (fun _ => trivial) ?_
  refine rd_astore_n C dX0_sumSteps_6 (by decide) (L' := [rd_R 2, rd_I 0, rd_R 4, rd_J, rd_J, rd_J]) rfl ?_
  refine rd_aload_n C dX0_sumSteps_7 rfl ?_
  refine rd_alen C rd_al16 dX0_sumSteps_8 rd_b4 rd_k4 (z := 10) rfl ⟨by decide, by decide⟩ ?_
  refine rd_istore_n C dX0_sumSteps_9 (by decide) (L' := [rd_R 2, rd_I 0, rd_R 4, rd_I 10, rd_J, rd_J]) rfl ?_
  refine rd_iconst C dX0_sumSteps_10 (n := 0) ⟨by decide, by decide⟩ ?_
  refine rd_istore C dX0_sumSteps_11 (by decide) (L' := [rd_R 2, rd_I 0, rd_R 4, rd_I 10, rd_I 0, rd_J]) rfl ?_
  have lp13 : ∀ (n : Nat) (k : Nat) (x c4 : Int) (j5 : rd_X), (k ≤ 10) → (10 < k + n) → (x = sp_sum (fun i => sp_if (μ (5 + 5 * i) 0 ≠ 0) (sp_FS μ i + 1) 0) k) → (0 ≤ x ∧ x ≤ 10 * k) → (c4 = (k : Int)) → rd_W p l e (rd_rm 2 62) s m args below meth c (MQ below (rd_Qc G rd_kc 313 r (fun v μ' => v = some (rd_I (sp_sum (fun i => sp_if (μ (5 + 5 * i) 0 ≠ 0) (sp_FS μ i + 1) 0) 10)) ∧ μ' = μ)) args s 0 0 (rd_A r 313)) 6 G rd_kc 313 r 13 [rd_R 2, rd_I x, rd_R 4, rd_I 10, rd_I c4, j5] [] μ := by
    intro n
    induction n with
    | zero => intro k x c4 j5  h2 h3 hx hx0 hc; exfalso; omega
    | succ n ih =>
      intro k x c4 j5  h2 h3 hx hx0 hc
      refine rd_iload C dX0_sumSteps_13 rfl ?_
      refine rd_iload_n C dX0_sumSteps_15 rfl ?_
      refine rd_icmp_ge C dX0_sumSteps_16 (tgt := 49) (by decide) (fun h_16 => ?_) (fun h_16 => ?_)
      · refine rd_iload_n C dX0_sumSteps_49 rfl ?_
        exact rd_iret C dX0_sumSteps_50 ⟨by rw [hx, show k = 10 by omega], rfl⟩
      · refine rd_aload_n C dX0_sumSteps_19 rfl ?_
        refine rd_iload C dX0_sumSteps_20 rfl ?_
        have hS_22 := rd_sl1 (i := c4) (by omega) (by omega)
        refine rd_aald16 C dX0_sumSteps_22 rd_b4 rd_k4 ⟨by omega, by omega⟩ (k' := 5 + 5 * c4) (by omega) ?_
        refine rd_astore C dX0_sumSteps_23 (by decide) (L' := [rd_R 2, rd_I x, rd_R 4, rd_I 10, rd_I c4, rd_R (5 + 5 * c4)]) rfl ?_
        refine rd_aload C dX0_sumSteps_25 rfl ?_
        refine rd_get C rd_g7_0 rf_X0_39 dX0_sumSteps_27 hS_22.1 hS_22.2.2.2.2.2.1 (x := rd_I (μ (5 + 5 * c4) 0)) rfl (fun h => h _ _) ?_
        refine rd_if_eq C dX0_sumSteps_30 (tgt := 43) (by decide) (fun h_30 => ?_) (fun h_30 => ?_)
        · refine rd_iinc C dX0_sumSteps_43 (by decide) rfl ⟨by omega, by omega⟩ (L' := [rd_R 2, rd_I x, rd_R 4, rd_I 10, rd_I (c4 + 1), rd_R (5 + 5 * c4)]) rfl ?_
          refine rd_goto C dX0_sumSteps_46 (tgt := 13) (by decide) ?_
          exact ih (k + 1) _ _ _ (by omega) (by omega) (by simp only [sp_sum]; rw [hx, sp_iff (by rw [← hc]; exact not_not_intro h_30)]; omega) (by omega) (by omega)
        · refine rd_iload_n C dX0_sumSteps_33 rfl ?_
          refine rd_aload C dX0_sumSteps_34 rfl ?_
          refine rd_callV C (c_X7_finalStep hS_22 (hit c4 (by omega) (by omega)).1 (hit c4 (by omega) (by omega)).2) rm_X0_72 ri_X7_finalStep rs_X7_finalStep rc_X7_finalStep rz_X7 ⟨rp_X7_finalStep, rfl, rfl, by decide, by decide⟩ rfl rd_kcl7 dX0_sumSteps_36 hS_22.1 hS_22.2.2.2.2.2.1 rfl (Nat.le_of_ble_eq_true rfl) (fun v1 w1 hq => ?_)
          obtain ⟨hv1, hm1⟩ := hq; rw [hv1, hm1]; clear hv1 hm1 v1 w1
          have hf0 := sp_FS0 μ c4
          have hf9 := sp_FS9 hit hfi (n := c4) (by omega) (by omega)
          refine rd_iconst C dX0_sumSteps_39 (n := 1) ⟨by decide, by decide⟩ ?_
          refine rd_iadd C dX0_sumSteps_40 (z := sp_FS μ c4 + 1) rfl ⟨by omega, by omega⟩ ?_
          refine rd_iadd C dX0_sumSteps_41 (z := x + (sp_FS μ c4 + 1)) rfl ⟨by omega, by omega⟩ ?_
          refine rd_istore_n C dX0_sumSteps_42 (by decide) (L' := [rd_R 2, rd_I (x + (sp_FS μ c4 + 1)), rd_R 4, rd_I 10, rd_I c4, rd_R (5 + 5 * c4)]) rfl ?_
          refine rd_iinc C dX0_sumSteps_43 (by decide) rfl ⟨by omega, by omega⟩ (L' := [rd_R 2, rd_I (x + (sp_FS μ c4 + 1)), rd_R 4, rd_I 10, rd_I (c4 + 1), rd_R (5 + 5 * c4)]) rfl ?_
          refine rd_goto C dX0_sumSteps_46 (tgt := 13) (by decide) ?_
          exact ih (k + 1) _ _ _ (by omega) (by omega) (by simp only [sp_sum]; rw [hx, sp_ift (by rw [← hc]; exact h_30), ← hc]) (by omega) (by omega)
  exact lp13 11 0 0 0 rd_J (by omega) (by omega) rfl (by omega) rfl
set_option maxHeartbeats 4000000 in
set_option maxRecDepth 100000 in
theorem c_X3_placeOf {l : Launch} {G : rd_G} {r : Nat} {μ : rd_Mem} {x : Int} (h0 : 0 ≤ μ 55 0) (h8 : μ 55 0 ≤ 8) : rd_M l G rd_kc 313 r yX3_placeOf cX3_placeOf 3 (some .int) (rd_rm 0 0) [rd_R 55, rd_I x] μ (fun v μ' => v = some (rd_I (sp_ff (fun i => μ 56 i = x) (μ 55 0).toNat 0)) ∧ μ' = μ) := by
  refine rd_enter (by decide +kernel) (Nat.le_of_ble_eq_true rfl) [rd_R 55, rd_I x, rd_J] rfl (fun p e s m args below meth c C => ?_)
  refine rd_W.rng (fun hM hL _ => ?_)
  refine rd_iconst C dX3_placeOf_0 (n := 0) ⟨by decide, by decide⟩ ?_
  refine rd_istore_n C dX3_placeOf_1 (by decide) (L' := [rd_R 55, rd_I x, rd_I 0]) rfl ?_
  have lp2 : ∀ (n : Nat) (n' : Nat) (k : Int), (n' < n) → (0 ≤ k) → (k + n' = μ 55 0) → (sp_ff (fun i => μ 56 i = x) n' k = sp_ff (fun i => μ 56 i = x) (μ 55 0).toNat 0) → rd_W p l e (rd_rm 0 0) s m args below meth c (MQ below (rd_Qc G rd_kc 313 r (fun v μ' => v = some (rd_I (sp_ff (fun i => μ 56 i = x) (μ 55 0).toNat 0)) ∧ μ' = μ)) args s 0 0 (rd_A r 313)) 3 G rd_kc 313 r 2 [rd_R 55, rd_I x, rd_I k] [] μ := by
    intro n
    induction n with
    | zero => intro n' k  h1 h2 h3 hF; exfalso; omega
    | succ n ih =>
      intro n' k  h1 h2 h3 hF
      refine rd_iload_n C dX3_placeOf_2 rfl ?_
      refine rd_aload_n C dX3_placeOf_3 rfl ?_
      refine rd_get C rd_g3_0 rf_X3_18 dX3_placeOf_4 rd_b55 rd_k55 (x := rd_I (μ 55 0)) rfl (fun h => h _ _) ?_
      refine rd_icmp_ge C dX3_placeOf_7 (tgt := 28) (by decide) (fun h_7 => ?_) (fun h_7 => ?_)
      · refine rd_iconst C dX3_placeOf_28 (n := -1) ⟨by decide, by decide⟩ ?_
        exact rd_iret C dX3_placeOf_29 ⟨by rw [← hF, show n' = 0 by omega]; rfl, rfl⟩
      · refine rd_aload_n C dX3_placeOf_10 rfl ?_
        refine rd_get C rd_g3_1 rf_X3_9 dX3_placeOf_11 rd_b55 rd_k55 (x := rd_R (56)) rfl (fun _ => trivial) ?_
        refine rd_iload_n C dX3_placeOf_14 rfl ?_
        refine rd_ialdx C rd_ai13 dX3_placeOf_15 rd_b56 rd_k56 ⟨by omega, by omega⟩ (z := μ 56 k) rfl ?_
        refine rd_iload_n C dX3_placeOf_16 rfl ?_
        refine rd_icmp_ne C dX3_placeOf_17 (tgt := 22) (by decide) (fun h_17 => ?_) (fun h_17 => ?_)
        · refine rd_iinc C dX3_placeOf_22 (by decide) rfl ⟨by omega, by omega⟩ (L' := [rd_R 55, rd_I x, rd_I (k + 1)]) rfl ?_
          refine rd_goto C dX3_placeOf_25 (tgt := 2) (by decide) ?_
          exact ih (n' - 1) (k + 1) (by omega) (by omega) (by omega) (by rw [← hF, sp_ff_f (n := n') (a := k) (by omega) h_17])
        · refine rd_iload_n C dX3_placeOf_20 rfl ?_
          exact rd_iret C dX3_placeOf_21 ⟨by rw [← hF, sp_ff_t (n := n') (a := k) (by omega) h_17], rfl⟩
  exact lp2 ((μ 55 0).toNat + 1) (μ 55 0).toNat 0 (by omega) (by omega) (by omega) rfl
set_option maxHeartbeats 4000000 in
set_option maxRecDepth 100000 in
theorem c_X3_putAt_new {l : Launch} {G : rd_G} {r : Nat} {μ : rd_Mem} (h0 : 0 ≤ μ 55 0) (h8 : μ 55 0 < 8) {s0 u0 : Int} : rd_M l G rd_kc 313 r yX3_putAt cX3_putAt 5 none (rd_rm 1 22) [rd_R 55, rd_I (-1), rd_I s0, rd_I u0] μ (fun v μ' => v = none ∧ μ' = rd_u (rd_u (rd_u μ 56 (μ 55 0) s0) 57 (μ 55 0) u0) 55 0 (μ 55 0 + 1)) := by
  refine rd_enter (by decide +kernel) (Nat.le_of_ble_eq_true rfl) [rd_R 55, rd_I (-1), rd_I s0, rd_I u0, rd_J] rfl (fun p e s m args below meth c C => ?_)
  refine rd_W.rng (fun hM hL _ => ?_)
  refine rd_iload_n C dX3_putAt_0 rfl ?_
  refine rd_iconst C dX3_putAt_1 (n := -1) ⟨by decide, by decide⟩ ?_
  refine rd_icmp_ne C dX3_putAt_2 (tgt := 12) (by decide) (fun h => absurd h (by decide)) (fun _ => ?_)
  refine rd_aload_n C dX3_putAt_5 rfl ?_
  refine rd_get C rd_g3_0 rf_X3_18 dX3_putAt_6 rd_b55 rd_k55 (x := rd_I (μ 55 0)) rfl (fun h => h _ _) ?_
  refine rd_goto C dX3_putAt_9 (tgt := 13) (by decide) ?_
  refine rd_istore C dX3_putAt_13 (by decide) (L' := [rd_R 55, rd_I (-1), rd_I s0, rd_I u0, rd_I (μ 55 0)]) rfl ?_
  refine rd_iload C dX3_putAt_15 rfl ?_
  refine rd_iconst C dX3_putAt_17 (n := 0) ⟨by decide, by decide⟩ ?_
  refine rd_bipush C dX3_putAt_18 (n := 7) (by decide) ⟨by decide, by decide⟩ ?_
  refine rd_callSN C (c_X9_isWithin) rx_X3_28 rt_X9_isWithin rc_X9_isWithin rz_X9 ⟨rp_X9_isWithin, rfl, rfl, by decide, by decide⟩ rfl dX3_putAt_20 rfl (Nat.le_of_ble_eq_true rfl) (fun v1 w1 hq => ?_)
  rcases hq with ⟨hw_23, hv1, hm1⟩ | ⟨hw_23, hv1, hm1⟩
  rotate_left
  · exfalso; omega
  rw [hv1, hm1]; clear hv1 hm1 v1 w1
  refine rd_if_ne C dX3_putAt_23 (tgt := 27) (by decide) (fun _ => ?_) (fun h => absurd h (by decide))
  refine rd_aload_n C dX3_putAt_27 rfl ?_
  refine rd_get C rd_g3_1 rf_X3_9 dX3_putAt_28 rd_b55 rd_k55 (x := rd_R (56)) rfl (fun _ => trivial) ?_
  refine rd_iload C dX3_putAt_31 rfl ?_
  refine rd_iload_n C dX3_putAt_33 rfl ?_
  refine rd_iast C rd_ai13 dX3_putAt_34 rd_b56 rd_k56 ⟨by omega, by omega⟩ ?_
  refine rd_aload_n C dX3_putAt_35 rfl ?_
  refine rd_get C rd_g3_2 rf_X3_15 dX3_putAt_36 rd_b55 rd_k55 (x := rd_R (57)) rfl (fun _ => trivial) ?_
  refine rd_iload C dX3_putAt_39 rfl ?_
  refine rd_iload_n C dX3_putAt_41 rfl ?_
  refine rd_iast C rd_ai13 dX3_putAt_42 rd_b57 rd_k57 ⟨by omega, by omega⟩ ?_
  refine rd_iload C dX3_putAt_43 rfl ?_
  refine rd_aload_n C dX3_putAt_45 rfl ?_
  refine rd_getx C rd_g3_0 rf_X3_18 dX3_putAt_46 rd_b55 rd_k55 rfl (z := μ 55 0) (by rw [rd_u_k _ _ _ (by omega), rd_u_k _ _ _ (by omega)]) ?_
  refine rd_icmp_ne C dX3_putAt_49 (tgt := 62) (by decide) (fun h_49 => ?_) (fun h_49 => ?_)
  · exfalso; omega
  · refine rd_aload_n C dX3_putAt_52 rfl ?_
    refine rd_dup C dX3_putAt_53 ?_
    refine rd_getx C rd_g3_0 rf_X3_18 dX3_putAt_54 rd_b55 rd_k55 rfl (z := μ 55 0) (by rw [rd_u_k _ _ _ (by omega), rd_u_k _ _ _ (by omega)]) ?_
    refine rd_iconst C dX3_putAt_57 (n := 1) ⟨by decide, by decide⟩ ?_
    refine rd_iadd C dX3_putAt_58 (z := μ 55 0 + 1) rfl ⟨by omega, by omega⟩ ?_
    refine rd_put C rd_p3_0 rf_X3_18 dX3_putAt_59 rd_b55 rd_k55 trivial ?_
    exact rd_vret C dX3_putAt_62 ⟨rfl, rfl⟩
set_option maxHeartbeats 4000000 in
set_option maxRecDepth 100000 in
theorem c_X3_putAt_old {l : Launch} {G : rd_G} {r : Nat} {μ : rd_Mem} {p0 : Int} (h0 : 0 ≤ p0) (h1 : p0 < μ 55 0) (h8 : μ 55 0 ≤ 8) {s0 u0 : Int} : rd_M l G rd_kc 313 r yX3_putAt cX3_putAt 5 none (rd_rm 1 22) [rd_R 55, rd_I p0, rd_I s0, rd_I u0] μ (fun v μ' => v = none ∧ μ' = rd_u (rd_u μ 56 p0 s0) 57 p0 u0) := by
  refine rd_enter (by decide +kernel) (Nat.le_of_ble_eq_true rfl) [rd_R 55, rd_I p0, rd_I s0, rd_I u0, rd_J] rfl (fun p e s m args below meth c C => ?_)
  refine rd_W.rng (fun hM hL _ => ?_)
  refine rd_iload_n C dX3_putAt_0 rfl ?_
  refine rd_iconst C dX3_putAt_1 (n := -1) ⟨by decide, by decide⟩ ?_
  refine rd_icmp_ne C dX3_putAt_2 (tgt := 12) (by decide) (fun h_2 => ?_) (fun h_2 => ?_)
  · refine rd_iload_n C dX3_putAt_12 rfl ?_
    refine rd_istore C dX3_putAt_13 (by decide) (L' := [rd_R 55, rd_I p0, rd_I s0, rd_I u0, rd_I p0]) rfl ?_
    refine rd_iload C dX3_putAt_15 rfl ?_
    refine rd_iconst C dX3_putAt_17 (n := 0) ⟨by decide, by decide⟩ ?_
    refine rd_bipush C dX3_putAt_18 (n := 7) (by decide) ⟨by decide, by decide⟩ ?_
    refine rd_callSN C (c_X9_isWithin) rx_X3_28 rt_X9_isWithin rc_X9_isWithin rz_X9 ⟨rp_X9_isWithin, rfl, rfl, by decide, by decide⟩ rfl dX3_putAt_20 rfl (Nat.le_of_ble_eq_true rfl) (fun v1 w1 hq => ?_)
    rcases hq with ⟨hw_23, hv1, hm1⟩ | ⟨hw_23, hv1, hm1⟩
    rotate_left
    · exfalso; omega
    rw [hv1, hm1]; clear hv1 hm1 v1 w1
    refine rd_if_ne C dX3_putAt_23 (tgt := 27) (by decide) (fun _ => ?_) (fun h => absurd h (by decide))
    refine rd_aload_n C dX3_putAt_27 rfl ?_
    refine rd_get C rd_g3_1 rf_X3_9 dX3_putAt_28 rd_b55 rd_k55 (x := rd_R (56)) rfl (fun _ => trivial) ?_
    refine rd_iload C dX3_putAt_31 rfl ?_
    refine rd_iload_n C dX3_putAt_33 rfl ?_
    refine rd_iast C rd_ai13 dX3_putAt_34 rd_b56 rd_k56 ⟨by omega, by omega⟩ ?_
    refine rd_aload_n C dX3_putAt_35 rfl ?_
    refine rd_get C rd_g3_2 rf_X3_15 dX3_putAt_36 rd_b55 rd_k55 (x := rd_R (57)) rfl (fun _ => trivial) ?_
    refine rd_iload C dX3_putAt_39 rfl ?_
    refine rd_iload_n C dX3_putAt_41 rfl ?_
    refine rd_iast C rd_ai13 dX3_putAt_42 rd_b57 rd_k57 ⟨by omega, by omega⟩ ?_
    refine rd_iload C dX3_putAt_43 rfl ?_
    refine rd_aload_n C dX3_putAt_45 rfl ?_
    refine rd_getx C rd_g3_0 rf_X3_18 dX3_putAt_46 rd_b55 rd_k55 rfl (z := μ 55 0) (by rw [rd_u_k _ _ _ (by omega), rd_u_k _ _ _ (by omega)]) ?_
    refine rd_icmp_ne C dX3_putAt_49 (tgt := 62) (by decide) (fun h_49 => ?_) (fun h_49 => ?_)
    · exact rd_vret C dX3_putAt_62 ⟨rfl, rfl⟩
    · exfalso; omega
  · exfalso; omega
set_option maxHeartbeats 4000000 in
set_option maxRecDepth 100000 in
theorem c_X3_dropAt {l : Launch} {G : rd_G} {r : Nat} {μ : rd_Mem} {p0 : Int} (h0 : 0 ≤ p0) (h1 : p0 < μ 55 0) (h8 : μ 55 0 ≤ 8) : rd_M l G rd_kc 313 r yX3_dropAt cX3_dropAt 2 none (rd_rm 1 22) [rd_R 55, rd_I p0] μ (fun v μ' => v = none ∧ μ' = rd_u (rd_u (rd_u μ 55 0 (μ 55 0 - 1)) 56 p0 (μ 56 (μ 55 0 - 1))) 57 p0 (μ 57 (μ 55 0 - 1))) := by
  refine rd_enter (by decide +kernel) (Nat.le_of_ble_eq_true rfl) [rd_R 55, rd_I p0] rfl (fun p e s m args below meth c C => ?_)
  refine rd_W.rng (fun hM hL _ => ?_)
  refine rd_iload_n C dX3_dropAt_0 rfl ?_
  refine rd_iconst C dX3_dropAt_1 (n := 0) ⟨by decide, by decide⟩ ?_
  refine rd_aload_n C dX3_dropAt_2 rfl ?_
  refine rd_get C rd_g3_0 rf_X3_18 dX3_dropAt_3 rd_b55 rd_k55 (x := rd_I (μ 55 0)) rfl (fun h => h _ _) ?_
  refine rd_iconst C dX3_dropAt_6 (n := 1) ⟨by decide, by decide⟩ ?_
  refine rd_isub C dX3_dropAt_7 (z := μ 55 0 - 1) rfl ⟨by omega, by omega⟩ ?_
  refine rd_callSN C (c_X9_isWithin) rx_X3_28 rt_X9_isWithin rc_X9_isWithin rz_X9 ⟨rp_X9_isWithin, rfl, rfl, by decide, by decide⟩ rfl dX3_dropAt_8 rfl (Nat.le_of_ble_eq_true rfl) (fun v1 w1 hq => ?_)
  rcases hq with ⟨hw_11, hv1, hm1⟩ | ⟨hw_11, hv1, hm1⟩
  rotate_left
  · exfalso; omega
  rw [hv1, hm1]; clear hv1 hm1 v1 w1
  refine rd_if_ne C dX3_dropAt_11 (tgt := 15) (by decide) (fun _ => ?_) (fun h => absurd h (by decide))
  refine rd_aload_n C dX3_dropAt_15 rfl ?_
  refine rd_dup C dX3_dropAt_16 ?_
  refine rd_get C rd_g3_0 rf_X3_18 dX3_dropAt_17 rd_b55 rd_k55 (x := rd_I (μ 55 0)) rfl (fun h => h _ _) ?_
  refine rd_iconst C dX3_dropAt_20 (n := 1) ⟨by decide, by decide⟩ ?_
  refine rd_isub C dX3_dropAt_21 (z := μ 55 0 - 1) rfl ⟨by omega, by omega⟩ ?_
  refine rd_put C rd_p3_0 rf_X3_18 dX3_dropAt_22 rd_b55 rd_k55 trivial ?_
  refine rd_aload_n C dX3_dropAt_25 rfl ?_
  refine rd_get C rd_g3_1 rf_X3_9 dX3_dropAt_26 rd_b55 rd_k55 (x := rd_R (56)) rfl (fun _ => trivial) ?_
  refine rd_iload_n C dX3_dropAt_29 rfl ?_
  refine rd_aload_n C dX3_dropAt_30 rfl ?_
  refine rd_get C rd_g3_1 rf_X3_9 dX3_dropAt_31 rd_b55 rd_k55 (x := rd_R (56)) rfl (fun _ => trivial) ?_
  refine rd_aload_n C dX3_dropAt_34 rfl ?_
  refine rd_getx C rd_g3_0 rf_X3_18 dX3_dropAt_35 rd_b55 rd_k55 rfl (z := μ 55 0 - 1) (by rw [rd_u_s]) ?_
  refine rd_ialdx C rd_ai13 dX3_dropAt_38 rd_b56 rd_k56 ⟨by omega, by omega⟩ (z := μ 56 (μ 55 0 - 1)) (by rw [rd_u_k _ _ _ (by omega)]) ?_
  refine rd_iast C rd_ai13 dX3_dropAt_39 rd_b56 rd_k56 ⟨by omega, by omega⟩ ?_
  refine rd_aload_n C dX3_dropAt_40 rfl ?_
  refine rd_get C rd_g3_2 rf_X3_15 dX3_dropAt_41 rd_b55 rd_k55 (x := rd_R (57)) rfl (fun _ => trivial) ?_
  refine rd_iload_n C dX3_dropAt_44 rfl ?_
  refine rd_aload_n C dX3_dropAt_45 rfl ?_
  refine rd_get C rd_g3_2 rf_X3_15 dX3_dropAt_46 rd_b55 rd_k55 (x := rd_R (57)) rfl (fun _ => trivial) ?_
  refine rd_aload_n C dX3_dropAt_49 rfl ?_
  refine rd_getx C rd_g3_0 rf_X3_18 dX3_dropAt_50 rd_b55 rd_k55 rfl (z := μ 55 0 - 1) (by rw [rd_u_k _ _ _ (by omega), rd_u_s]) ?_
  refine rd_ialdx C rd_ai13 dX3_dropAt_53 rd_b57 rd_k57 ⟨by omega, by omega⟩ (z := μ 57 (μ 55 0 - 1)) (by rw [rd_u_k _ _ _ (by omega), rd_u_k _ _ _ (by omega)]) ?_
  refine rd_iast C rd_ai13 dX3_dropAt_54 rd_b57 rd_k57 ⟨by omega, by omega⟩ ?_
  exact rd_vret C dX3_dropAt_55 ⟨rfl, rfl⟩
def sp_lat (s u : Int → Int) (c : Int) : Nat → Int × Int
  | 0 => (-1, -6)
  | n + 1 => if s n ≤ c ∧ (sp_lat s u c n).1 < s n then (s n, u n) else sp_lat s u c n
set_option maxHeartbeats 4000000 in
set_option maxRecDepth 100000 in
theorem c_X3_latestAt {l : Launch} {G : rd_G} {r : Nat} {μ : rd_Mem} {q0 : Int} (h0 : 0 ≤ μ 55 0) (h8 : μ 55 0 ≤ 8) : rd_M l G rd_kc 313 r yX3_latestAt cX3_latestAt 5 (some .int) (rd_rm 0 0) [rd_R 55, rd_I q0] μ (fun v μ' => v = some (rd_I (sp_lat (μ 56) (μ 57) q0 (μ 55 0).toNat).2) ∧ μ' = μ) := by
  refine rd_enter (by decide +kernel) (Nat.le_of_ble_eq_true rfl) [rd_R 55, rd_I q0, rd_J, rd_J, rd_J] rfl (fun p e s m args below meth c C => ?_)
  refine rd_W.rng (fun hM hL _ => ?_)
  refine rd_iconst C dX3_latestAt_0 (n := -1) ⟨by decide, by decide⟩ ?_
  refine rd_istore_n C dX3_latestAt_1 (by decide) (L' := [rd_R 55, rd_I q0, rd_I (-1), rd_J, rd_J]) rfl ?_
  refine rd_bipush C dX3_latestAt_2 (n := -6) (by decide) ⟨by decide, by decide⟩ ?_
  refine rd_istore_n C dX3_latestAt_4 (by decide) (L' := [rd_R 55, rd_I q0, rd_I (-1), rd_I (-6), rd_J]) rfl ?_
  refine rd_iconst C dX3_latestAt_5 (n := 0) ⟨by decide, by decide⟩ ?_
  refine rd_istore C dX3_latestAt_6 (by decide) (L' := [rd_R 55, rd_I q0, rd_I (-1), rd_I (-6), rd_I 0]) rfl ?_
  have lp8 : ∀ (n : Nat) (k : Nat) (x y c4 : Int), ((k : Int) ≤ μ 55 0) → (μ 55 0 < k + n) → (x = (sp_lat (μ 56) (μ 57) q0 k).1) → (y = (sp_lat (μ 56) (μ 57) q0 k).2) → (c4 = (k : Int)) → rd_W p l e (rd_rm 0 0) s m args below meth c (MQ below (rd_Qc G rd_kc 313 r (fun v μ' => v = some (rd_I (sp_lat (μ 56) (μ 57) q0 (μ 55 0).toNat).2) ∧ μ' = μ)) args s 0 0 (rd_A r 313)) 5 G rd_kc 313 r 8 [rd_R 55, rd_I q0, rd_I x, rd_I y, rd_I c4] [] μ := by
    intro n
    induction n with
    | zero => intro k x y c4  h2 h3 hx hy hc; exfalso; omega
    | succ n ih =>
      intro k x y c4  h2 h3 hx hy hc
      refine rd_iload C dX3_latestAt_8 rfl ?_
      refine rd_aload_n C dX3_latestAt_10 rfl ?_
      refine rd_get C rd_g3_0 rf_X3_18 dX3_latestAt_11 rd_b55 rd_k55 (x := rd_I (μ 55 0)) rfl (fun h => h _ _) ?_
      refine rd_icmp_ge C dX3_latestAt_14 (tgt := 61) (by decide) (fun h_14 => ?_) (fun h_14 => ?_)
      · refine rd_iload_n C dX3_latestAt_61 rfl ?_
        exact rd_iret C dX3_latestAt_62 ⟨by rw [hy, show k = (μ 55 0).toNat by omega], rfl⟩
      · refine rd_aload_n C dX3_latestAt_17 rfl ?_
        refine rd_get C rd_g3_1 rf_X3_9 dX3_latestAt_18 rd_b55 rd_k55 (x := rd_R (56)) rfl (fun _ => trivial) ?_
        refine rd_iload C dX3_latestAt_21 rfl ?_
        refine rd_ialdx C rd_ai13 dX3_latestAt_23 rd_b56 rd_k56 ⟨by omega, by omega⟩ (z := μ 56 c4) rfl ?_
        refine rd_iload_n C dX3_latestAt_24 rfl ?_
        refine rd_icmp_gt C dX3_latestAt_25 (tgt := 55) (by decide) (fun h_25 => ?_) (fun h_25 => ?_)
        · refine rd_iinc C dX3_latestAt_55 (by decide) rfl ⟨by omega, by omega⟩ (L' := [rd_R 55, rd_I q0, rd_I x, rd_I y, rd_I (c4 + 1)]) rfl ?_
          refine rd_goto C dX3_latestAt_58 (tgt := 8) (by decide) ?_
          exact ih (k + 1) _ _ _ (by omega) (by omega) (by subst hc; simp only [sp_lat]; rw [if_neg (by omega)]; exact hx) (by subst hc; simp only [sp_lat]; rw [if_neg (by omega)]; exact hy) (by omega)
        · refine rd_aload_n C dX3_latestAt_28 rfl ?_
          refine rd_get C rd_g3_1 rf_X3_9 dX3_latestAt_29 rd_b55 rd_k55 (x := rd_R (56)) rfl (fun _ => trivial) ?_
          refine rd_iload C dX3_latestAt_32 rfl ?_
          refine rd_ialdx C rd_ai13 dX3_latestAt_34 rd_b56 rd_k56 ⟨by omega, by omega⟩ (z := μ 56 c4) rfl ?_
          refine rd_iload_n C dX3_latestAt_35 rfl ?_
          refine rd_icmp_le C dX3_latestAt_36 (tgt := 55) (by decide) (fun h_36 => ?_) (fun h_36 => ?_)
          · refine rd_iinc C dX3_latestAt_55 (by decide) rfl ⟨by omega, by omega⟩ (L' := [rd_R 55, rd_I q0, rd_I x, rd_I y, rd_I (c4 + 1)]) rfl ?_
            refine rd_goto C dX3_latestAt_58 (tgt := 8) (by decide) ?_
            exact ih (k + 1) _ _ _ (by omega) (by omega) (by subst hc; simp only [sp_lat]; rw [if_neg (by omega)]; exact hx) (by subst hc; simp only [sp_lat]; rw [if_neg (by omega)]; exact hy) (by omega)
          · refine rd_aload_n C dX3_latestAt_39 rfl ?_
            refine rd_get C rd_g3_1 rf_X3_9 dX3_latestAt_40 rd_b55 rd_k55 (x := rd_R (56)) rfl (fun _ => trivial) ?_
            refine rd_iload C dX3_latestAt_43 rfl ?_
            refine rd_ialdx C rd_ai13 dX3_latestAt_45 rd_b56 rd_k56 ⟨by omega, by omega⟩ (z := μ 56 c4) rfl ?_
            refine rd_istore_n C dX3_latestAt_46 (by decide) (L' := [rd_R 55, rd_I q0, rd_I (μ 56 c4), rd_I y, rd_I c4]) rfl ?_
            refine rd_aload_n C dX3_latestAt_47 rfl ?_
            refine rd_get C rd_g3_2 rf_X3_15 dX3_latestAt_48 rd_b55 rd_k55 (x := rd_R (57)) rfl (fun _ => trivial) ?_
            refine rd_iload C dX3_latestAt_51 rfl ?_
            refine rd_ialdx C rd_ai13 dX3_latestAt_53 rd_b57 rd_k57 ⟨by omega, by omega⟩ (z := μ 57 c4) rfl ?_
            refine rd_istore_n C dX3_latestAt_54 (by decide) (L' := [rd_R 55, rd_I q0, rd_I (μ 56 c4), rd_I (μ 57 c4), rd_I c4]) rfl ?_
            refine rd_iinc C dX3_latestAt_55 (by decide) rfl ⟨by omega, by omega⟩ (L' := [rd_R 55, rd_I q0, rd_I (μ 56 c4), rd_I (μ 57 c4), rd_I (c4 + 1)]) rfl ?_
            refine rd_goto C dX3_latestAt_58 (tgt := 8) (by decide) ?_
            exact ih (k + 1) _ _ _ (by omega) (by omega) (by subst hc; simp only [sp_lat]; rw [if_pos ⟨by omega, by omega⟩]) (by subst hc; simp only [sp_lat]; rw [if_pos ⟨by omega, by omega⟩]) (by omega)
  exact lp8 ((μ 55 0).toNat + 1) 0 _ _ _ (by omega) (by omega) rfl rfl rfl
def rd_shc (μ : rd_Mem) : rd_Mem := rd_u (rd_u (rd_u (rd_u (rd_u (rd_u μ 58 0 (-1)) 58 1 0) 58 2 0) 58 3 0) 58 4 0) 58 5 0
set_option maxHeartbeats 4000000 in
set_option maxRecDepth 100000 in
theorem c_X6_clear {l : Launch} {G : rd_G} {r : Nat} {μ : rd_Mem}  : rd_M l G rd_kc 313 r yX6_clear cX6_clear 1 none (rd_rm 0 0) [rd_R 58] μ (fun v μ' => v = none ∧ μ' = rd_shc μ) := by
  refine rd_enter (by decide +kernel) (Nat.le_of_ble_eq_true rfl) [rd_R 58] rfl (fun p e s m args below meth c C => ?_)
  refine rd_W.rng (fun hM hL _ => ?_)
  refine rd_aload_n C dX6_clear_0 rfl ?_
  refine rd_iconst C dX6_clear_1 (n := -1) ⟨by decide, by decide⟩ ?_
  refine rd_put C rd_p6_0 rf_X6_9 dX6_clear_2 rd_b58 rd_k58 trivial ?_
  refine rd_aload_n C dX6_clear_5 rfl ?_
  refine rd_iconst C dX6_clear_6 (n := 0) ⟨by decide, by decide⟩ ?_
  refine rd_put C rd_p6_1 rf_X6_25 dX6_clear_7 rd_b58 rd_k58 trivial ?_
  refine rd_aload_n C dX6_clear_10 rfl ?_
  refine rd_iconst C dX6_clear_11 (n := 0) ⟨by decide, by decide⟩ ?_
  refine rd_put C rd_p6_2 rf_X6_28 dX6_clear_12 rd_b58 rd_k58 trivial ?_
  refine rd_aload_n C dX6_clear_15 rfl ?_
  refine rd_iconst C dX6_clear_16 (n := 0) ⟨by decide, by decide⟩ ?_
  refine rd_put C rd_p6_3 rf_X6_31 dX6_clear_17 rd_b58 rd_k58 trivial ?_
  refine rd_aload_n C dX6_clear_20 rfl ?_
  refine rd_iconst C dX6_clear_21 (n := 0) ⟨by decide, by decide⟩ ?_
  refine rd_put C rd_p6_4 rf_X6_34 dX6_clear_22 rd_b58 rd_k58 trivial ?_
  refine rd_aload_n C dX6_clear_25 rfl ?_
  refine rd_iconst C dX6_clear_26 (n := 0) ⟨by decide, by decide⟩ ?_
  refine rd_put C rd_p6_5 rf_X6_37 dX6_clear_27 rd_b58 rd_k58 trivial ?_
  exact rd_vret C dX6_clear_30 ⟨rfl, rfl⟩
set_option maxHeartbeats 4000000 in
set_option maxRecDepth 100000 in
theorem c_X6_begin {l : Launch} {G : rd_G} {r : Nat} {μ : rd_Mem} {x : Int} : rd_M l G rd_kc 313 r yX6_begin cX6_begin 2 none (rd_rm 1 20) [rd_R 58, rd_I x] μ (fun v μ' => v = none ∧ μ' = rd_u (rd_shc μ) 58 0 x) := by
  refine rd_enter (by decide +kernel) (Nat.le_of_ble_eq_true rfl) [rd_R 58, rd_I x] rfl (fun p e s m args below meth c C => ?_)
  refine rd_W.rng (fun hM hL _ => ?_)
  refine rd_aload_n C dX6_begin_0 rfl ?_
  refine rd_callV C (c_X6_clear) rm_X6_46 ri_X6_clear rs_X6_clear rc_X6_clear rz_X6 ⟨rp_X6_clear, rfl, rfl, by decide, by decide⟩ rfl rd_kcl6 dX6_begin_1 rd_b58 rd_k58 rfl (Nat.le_of_ble_eq_true rfl) (fun v1 w1 hq => ?_)
  obtain ⟨hv1, hm1⟩ := hq; rw [hv1, hm1]; clear hv1 hm1 v1 w1
  refine rd_aload_n C dX6_begin_4 rfl ?_
  refine rd_iload_n C dX6_begin_5 rfl ?_
  refine rd_put C rd_p6_0 rf_X6_9 dX6_begin_6 rd_b58 rd_k58 trivial ?_
  exact rd_vret C dX6_begin_9 ⟨rfl, rfl⟩
def rd_drk (μ : rd_Mem) (k : Int) : rd_Mem := fun a b => if a = 58 ∧ b = 5 then 39 else if (59 ≤ a ∧ a ≤ 61) ∧ (0 ≤ b ∧ b < k) then μ a (b + 1) else μ a b
def rd_mv (ν : rd_Mem) (n s m : Int) : rd_Mem := rd_u (rd_u (rd_u (rd_u (rd_u (rd_u (rd_u (rd_u ν 59 (ν 58 5) (ν 58 0)) 60 (ν 58 5) (ν 58 1)) 61 (ν 58 5) (ν 58 2)) 58 5 (ν 58 5 + 1)) 58 0 n) 58 1 s) 58 2 m) 58 4 0
def rd_mvt (μ : rd_Mem) (n s m : Int) : rd_Mem := rd_mv (if μ 58 5 = 40 then rd_drk μ 39 else μ) n s m
def rd_ret (μ : rd_Mem) (p : Int) : rd_Mem := rd_u (rd_u (rd_u (rd_u (rd_u μ 58 0 (μ 59 p)) 58 1 (μ 60 p)) 58 2 (μ 61 p)) 58 4 0) 58 5 p
set_option maxHeartbeats 4000000 in
set_option maxRecDepth 100000 in
theorem c_X6_dropOldest {l : Launch} {G : rd_G} {r : Nat} {μ : rd_Mem}  : rd_M l G rd_kc 313 r yX6_dropOldest cX6_dropOldest 2 none (rd_rm 0 0) [rd_R 58] μ (fun v μ' => v = none ∧ μ' = rd_drk μ 39) := by
  refine rd_enter (by decide +kernel) (Nat.le_of_ble_eq_true rfl) [rd_R 58, rd_J] rfl (fun p e s m args below meth c C => ?_)
  refine rd_W.rng (fun hM hL _ => ?_)
  refine rd_aload_n C dX6_dropOldest_0 rfl ?_
  refine rd_bipush C dX6_dropOldest_1 (n := 39) (by decide) ⟨by decide, by decide⟩ ?_
  refine rd_put C rd_p6_5 rf_X6_37 dX6_dropOldest_3 rd_b58 rd_k58 trivial ?_
  refine rd_iconst C dX6_dropOldest_6 (n := 0) ⟨by decide, by decide⟩ ?_
  refine rd_istore_n C dX6_dropOldest_7 (by decide) (L' := [rd_R 58, rd_I 0]) rfl ?_
  have lp8 : ∀ (n : Nat) (k : Int) (μ1 : rd_Mem), (0 ≤ k) → (k ≤ 39) → (39 < k + n) → (μ1 = rd_drk μ k) → rd_W p l e (rd_rm 0 0) s m args below meth c (MQ below (rd_Qc G rd_kc 313 r (fun v μ' => v = none ∧ μ' = rd_drk μ 39)) args s 0 0 (rd_A r 313)) 2 G rd_kc 313 r 8 [rd_R 58, rd_I k] [] μ1 := by
    intro n
    induction n with
    | zero => intro k μ1  h1 h2 h3 hm; exfalso; omega
    | succ n ih =>
      intro k μ1  h1 h2 h3 hm
      have hc3 : μ1 58 5 = 39 := by rw [hm]; simp [rd_drk]
      refine rd_iload_n C dX6_dropOldest_8 rfl ?_
      refine rd_aload_n C dX6_dropOldest_9 rfl ?_
      refine rd_get C rd_g6_5 rf_X6_37 dX6_dropOldest_10 rd_b58 rd_k58 (x := rd_I (μ1 58 5)) rfl (fun h => h _ _) ?_
      refine rd_icmp_ge C dX6_dropOldest_13 (tgt := 64) (by decide) (fun h_13 => ?_) (fun h_13 => ?_)
      · exact rd_vret C dX6_dropOldest_64 ⟨rfl, by rw [hm, show k = 39 by omega]⟩
      · refine rd_aload_n C dX6_dropOldest_16 rfl ?_
        refine rd_get C rd_g6_6 rf_X6_15 dX6_dropOldest_17 rd_b58 rd_k58 (x := rd_R (59)) rfl (fun _ => trivial) ?_
        refine rd_iload_n C dX6_dropOldest_20 rfl ?_
        refine rd_aload_n C dX6_dropOldest_21 rfl ?_
        refine rd_get C rd_g6_6 rf_X6_15 dX6_dropOldest_22 rd_b58 rd_k58 (x := rd_R (59)) rfl (fun _ => trivial) ?_
        refine rd_iload_n C dX6_dropOldest_25 rfl ?_
        refine rd_iconst C dX6_dropOldest_26 (n := 1) ⟨by decide, by decide⟩ ?_
        refine rd_iadd C dX6_dropOldest_27 (z := k + 1) rfl ⟨by omega, by omega⟩ ?_
        refine rd_ialdx C rd_ai14 dX6_dropOldest_28 rd_b59 rd_k59 ⟨by omega, by omega⟩ (z := μ1 59 (k + 1)) rfl ?_
        refine rd_iast C rd_ai14 dX6_dropOldest_29 rd_b59 rd_k59 ⟨by omega, by omega⟩ ?_
        refine rd_aload_n C dX6_dropOldest_30 rfl ?_
        refine rd_get C rd_g6_7 rf_X6_19 dX6_dropOldest_31 rd_b58 rd_k58 (x := rd_R (60)) rfl (fun _ => trivial) ?_
        refine rd_iload_n C dX6_dropOldest_34 rfl ?_
        refine rd_aload_n C dX6_dropOldest_35 rfl ?_
        refine rd_get C rd_g6_7 rf_X6_19 dX6_dropOldest_36 rd_b58 rd_k58 (x := rd_R (60)) rfl (fun _ => trivial) ?_
        refine rd_iload_n C dX6_dropOldest_39 rfl ?_
        refine rd_iconst C dX6_dropOldest_40 (n := 1) ⟨by decide, by decide⟩ ?_
        refine rd_iadd C dX6_dropOldest_41 (z := k + 1) rfl ⟨by omega, by omega⟩ ?_
        refine rd_ialdx C rd_ai14 dX6_dropOldest_42 rd_b60 rd_k60 ⟨by omega, by omega⟩ (z := μ1 60 (k + 1)) (by rw [rd_u_k _ _ _ (by omega)]) ?_
        refine rd_iast C rd_ai14 dX6_dropOldest_43 rd_b60 rd_k60 ⟨by omega, by omega⟩ ?_
        refine rd_aload_n C dX6_dropOldest_44 rfl ?_
        refine rd_get C rd_g6_8 rf_X6_22 dX6_dropOldest_45 rd_b58 rd_k58 (x := rd_R (61)) rfl (fun _ => trivial) ?_
        refine rd_iload_n C dX6_dropOldest_48 rfl ?_
        refine rd_aload_n C dX6_dropOldest_49 rfl ?_
        refine rd_get C rd_g6_8 rf_X6_22 dX6_dropOldest_50 rd_b58 rd_k58 (x := rd_R (61)) rfl (fun _ => trivial) ?_
        refine rd_iload_n C dX6_dropOldest_53 rfl ?_
        refine rd_iconst C dX6_dropOldest_54 (n := 1) ⟨by decide, by decide⟩ ?_
        refine rd_iadd C dX6_dropOldest_55 (z := k + 1) rfl ⟨by omega, by omega⟩ ?_
        refine rd_ialdx C rd_ai14 dX6_dropOldest_56 rd_b61 rd_k61 ⟨by omega, by omega⟩ (z := μ1 61 (k + 1)) (by rw [rd_u_k _ _ _ (by omega), rd_u_k _ _ _ (by omega)]) ?_
        refine rd_iast C rd_ai14 dX6_dropOldest_57 rd_b61 rd_k61 ⟨by omega, by omega⟩ ?_
        refine rd_iinc C dX6_dropOldest_58 (by decide) rfl ⟨by omega, by omega⟩ (L' := [rd_R 58, rd_I (k + 1)]) rfl ?_
        refine rd_goto C dX6_dropOldest_61 (tgt := 8) (by decide) ?_
        exact ih (k + 1) _ (by omega) (by omega) (by omega) (by rw [hm]; funext a b; simp only [rd_u, rd_drk]; (repeat' split) <;> first | rfl | (exfalso; omega) | grind)
  exact lp8 40 0 _ (by omega) (by omega) (by omega) (by funext a b; simp only [rd_u, rd_drk]; (repeat' split) <;> first | rfl | (exfalso; omega) | grind)
set_option maxHeartbeats 4000000 in
set_option maxRecDepth 100000 in
theorem c_X6_moveTo {l : Launch} {G : rd_G} {r : Nat} {μ : rd_Mem} {x s0 m0 : Int} (h0 : 0 ≤ μ 58 5) (h40 : μ 58 5 ≤ 40) : rd_M l G rd_kc 313 r yX6_moveTo cX6_moveTo 4 none (rd_rm 1 21) [rd_R 58, rd_I x, rd_I s0, rd_I m0] μ (fun v μ' => v = none ∧ μ' = rd_mvt μ x s0 m0) := by
  refine rd_enter (by decide +kernel) (Nat.le_of_ble_eq_true rfl) [rd_R 58, rd_I x, rd_I s0, rd_I m0] rfl (fun p e s m args below meth c C => ?_)
  refine rd_W.rng (fun hM hL _ => ?_)
  refine rd_aload_n C dX6_moveTo_0 rfl ?_
  refine rd_get C rd_g6_5 rf_X6_37 dX6_moveTo_1 rd_b58 rd_k58 (x := rd_I (μ 58 5)) rfl (fun h => h _ _) ?_
  refine rd_bipush C dX6_moveTo_4 (n := 40) (by decide) ⟨by decide, by decide⟩ ?_
  refine rd_icmp_lt C dX6_moveTo_6 (tgt := 13) (by decide) (fun h_6 => ?_) (fun h_6 => ?_)
  · refine rd_aload_n C dX6_moveTo_13 rfl ?_
    refine rd_get C rd_g6_6 rf_X6_15 dX6_moveTo_14 rd_b58 rd_k58 (x := rd_R (59)) rfl (fun _ => trivial) ?_
    refine rd_aload_n C dX6_moveTo_17 rfl ?_
    refine rd_get C rd_g6_5 rf_X6_37 dX6_moveTo_18 rd_b58 rd_k58 (x := rd_I (μ 58 5)) rfl (fun h => h _ _) ?_
    refine rd_aload_n C dX6_moveTo_21 rfl ?_
    refine rd_get C rd_g6_0 rf_X6_9 dX6_moveTo_22 rd_b58 rd_k58 (x := rd_I (μ 58 0)) rfl (fun h => h _ _) ?_
    refine rd_iast C rd_ai14 dX6_moveTo_25 rd_b59 rd_k59 ⟨by omega, by omega⟩ ?_
    refine rd_aload_n C dX6_moveTo_26 rfl ?_
    refine rd_get C rd_g6_7 rf_X6_19 dX6_moveTo_27 rd_b58 rd_k58 (x := rd_R (60)) rfl (fun _ => trivial) ?_
    refine rd_aload_n C dX6_moveTo_30 rfl ?_
    refine rd_getx C rd_g6_5 rf_X6_37 dX6_moveTo_31 rd_b58 rd_k58 rfl (z := μ 58 5) (by rw [rd_u_k _ _ _ (by omega)]) ?_
    refine rd_aload_n C dX6_moveTo_34 rfl ?_
    refine rd_getx C rd_g6_1 rf_X6_25 dX6_moveTo_35 rd_b58 rd_k58 rfl (z := μ 58 1) (by rw [rd_u_k _ _ _ (by omega)]) ?_
    refine rd_iast C rd_ai14 dX6_moveTo_38 rd_b60 rd_k60 ⟨by omega, by omega⟩ ?_
    refine rd_aload_n C dX6_moveTo_39 rfl ?_
    refine rd_get C rd_g6_8 rf_X6_22 dX6_moveTo_40 rd_b58 rd_k58 (x := rd_R (61)) rfl (fun _ => trivial) ?_
    refine rd_aload_n C dX6_moveTo_43 rfl ?_
    refine rd_getx C rd_g6_5 rf_X6_37 dX6_moveTo_44 rd_b58 rd_k58 rfl (z := μ 58 5) (by rw [rd_u_k _ _ _ (by omega), rd_u_k _ _ _ (by omega)]) ?_
    refine rd_aload_n C dX6_moveTo_47 rfl ?_
    refine rd_getx C rd_g6_2 rf_X6_28 dX6_moveTo_48 rd_b58 rd_k58 rfl (z := μ 58 2) (by rw [rd_u_k _ _ _ (by omega), rd_u_k _ _ _ (by omega)]) ?_
    refine rd_iast C rd_ai14 dX6_moveTo_51 rd_b61 rd_k61 ⟨by omega, by omega⟩ ?_
    refine rd_aload_n C dX6_moveTo_52 rfl ?_
    refine rd_dup C dX6_moveTo_53 ?_
    refine rd_getx C rd_g6_5 rf_X6_37 dX6_moveTo_54 rd_b58 rd_k58 rfl (z := μ 58 5) (by rw [rd_u_k _ _ _ (by omega), rd_u_k _ _ _ (by omega), rd_u_k _ _ _ (by omega)]) ?_
    refine rd_iconst C dX6_moveTo_57 (n := 1) ⟨by decide, by decide⟩ ?_
    refine rd_iadd C dX6_moveTo_58 (z := μ 58 5 + 1) rfl ⟨by omega, by omega⟩ ?_
    refine rd_put C rd_p6_5 rf_X6_37 dX6_moveTo_59 rd_b58 rd_k58 trivial ?_
    refine rd_aload_n C dX6_moveTo_62 rfl ?_
    refine rd_iload_n C dX6_moveTo_63 rfl ?_
    refine rd_put C rd_p6_0 rf_X6_9 dX6_moveTo_64 rd_b58 rd_k58 trivial ?_
    refine rd_aload_n C dX6_moveTo_67 rfl ?_
    refine rd_iload_n C dX6_moveTo_68 rfl ?_
    refine rd_put C rd_p6_1 rf_X6_25 dX6_moveTo_69 rd_b58 rd_k58 trivial ?_
    refine rd_aload_n C dX6_moveTo_72 rfl ?_
    refine rd_iload_n C dX6_moveTo_73 rfl ?_
    refine rd_put C rd_p6_2 rf_X6_28 dX6_moveTo_74 rd_b58 rd_k58 trivial ?_
    refine rd_aload_n C dX6_moveTo_77 rfl ?_
    refine rd_iconst C dX6_moveTo_78 (n := 0) ⟨by decide, by decide⟩ ?_
    refine rd_put C rd_p6_4 rf_X6_34 dX6_moveTo_79 rd_b58 rd_k58 trivial ?_
    exact rd_vret C dX6_moveTo_82 ⟨rfl, by unfold rd_mvt; rw [if_neg (by omega)]; rfl⟩
  · refine rd_aload_n C dX6_moveTo_9 rfl ?_
    refine rd_callV C (c_X6_dropOldest) rm_X6_49 ri_X6_dropOldest rs_X6_dropOldest rc_X6_dropOldest rz_X6 ⟨rp_X6_dropOldest, rfl, rfl, by decide, by decide⟩ rfl rd_kcl6 dX6_moveTo_10 rd_b58 rd_k58 rfl (Nat.le_of_ble_eq_true rfl) (fun v1 w1 hq => ?_)
    obtain ⟨hv1, hm1⟩ := hq; rw [hv1, hm1]; clear hv1 hm1 v1 w1
    have h39 : rd_drk μ 39 58 5 = 39 := by simp [rd_drk]
    refine rd_aload_n C dX6_moveTo_13 rfl ?_
    refine rd_get C rd_g6_6 rf_X6_15 dX6_moveTo_14 rd_b58 rd_k58 (x := rd_R (59)) rfl (fun _ => trivial) ?_
    refine rd_aload_n C dX6_moveTo_17 rfl ?_
    refine rd_get C rd_g6_5 rf_X6_37 dX6_moveTo_18 rd_b58 rd_k58 (x := rd_I ((rd_drk μ 39) 58 5)) rfl (fun h => h _ _) ?_
    refine rd_aload_n C dX6_moveTo_21 rfl ?_
    refine rd_get C rd_g6_0 rf_X6_9 dX6_moveTo_22 rd_b58 rd_k58 (x := rd_I ((rd_drk μ 39) 58 0)) rfl (fun h => h _ _) ?_
    refine rd_iast C rd_ai14 dX6_moveTo_25 rd_b59 rd_k59 ⟨by omega, by omega⟩ ?_
    refine rd_aload_n C dX6_moveTo_26 rfl ?_
    refine rd_get C rd_g6_7 rf_X6_19 dX6_moveTo_27 rd_b58 rd_k58 (x := rd_R (60)) rfl (fun _ => trivial) ?_
    refine rd_aload_n C dX6_moveTo_30 rfl ?_
    refine rd_getx C rd_g6_5 rf_X6_37 dX6_moveTo_31 rd_b58 rd_k58 rfl (z := (rd_drk μ 39) 58 5) (by rw [rd_u_k _ _ _ (by omega)]) ?_
    refine rd_aload_n C dX6_moveTo_34 rfl ?_
    refine rd_getx C rd_g6_1 rf_X6_25 dX6_moveTo_35 rd_b58 rd_k58 rfl (z := (rd_drk μ 39) 58 1) (by rw [rd_u_k _ _ _ (by omega)]) ?_
    refine rd_iast C rd_ai14 dX6_moveTo_38 rd_b60 rd_k60 ⟨by omega, by omega⟩ ?_
    refine rd_aload_n C dX6_moveTo_39 rfl ?_
    refine rd_get C rd_g6_8 rf_X6_22 dX6_moveTo_40 rd_b58 rd_k58 (x := rd_R (61)) rfl (fun _ => trivial) ?_
    refine rd_aload_n C dX6_moveTo_43 rfl ?_
    refine rd_getx C rd_g6_5 rf_X6_37 dX6_moveTo_44 rd_b58 rd_k58 rfl (z := (rd_drk μ 39) 58 5) (by rw [rd_u_k _ _ _ (by omega), rd_u_k _ _ _ (by omega)]) ?_
    refine rd_aload_n C dX6_moveTo_47 rfl ?_
    refine rd_getx C rd_g6_2 rf_X6_28 dX6_moveTo_48 rd_b58 rd_k58 rfl (z := (rd_drk μ 39) 58 2) (by rw [rd_u_k _ _ _ (by omega), rd_u_k _ _ _ (by omega)]) ?_
    refine rd_iast C rd_ai14 dX6_moveTo_51 rd_b61 rd_k61 ⟨by omega, by omega⟩ ?_
    refine rd_aload_n C dX6_moveTo_52 rfl ?_
    refine rd_dup C dX6_moveTo_53 ?_
    refine rd_getx C rd_g6_5 rf_X6_37 dX6_moveTo_54 rd_b58 rd_k58 rfl (z := (rd_drk μ 39) 58 5) (by rw [rd_u_k _ _ _ (by omega), rd_u_k _ _ _ (by omega), rd_u_k _ _ _ (by omega)]) ?_
    refine rd_iconst C dX6_moveTo_57 (n := 1) ⟨by decide, by decide⟩ ?_
    refine rd_iadd C dX6_moveTo_58 (z := (rd_drk μ 39) 58 5 + 1) rfl ⟨by omega, by omega⟩ ?_
    refine rd_put C rd_p6_5 rf_X6_37 dX6_moveTo_59 rd_b58 rd_k58 trivial ?_
    refine rd_aload_n C dX6_moveTo_62 rfl ?_
    refine rd_iload_n C dX6_moveTo_63 rfl ?_
    refine rd_put C rd_p6_0 rf_X6_9 dX6_moveTo_64 rd_b58 rd_k58 trivial ?_
    refine rd_aload_n C dX6_moveTo_67 rfl ?_
    refine rd_iload_n C dX6_moveTo_68 rfl ?_
    refine rd_put C rd_p6_1 rf_X6_25 dX6_moveTo_69 rd_b58 rd_k58 trivial ?_
    refine rd_aload_n C dX6_moveTo_72 rfl ?_
    refine rd_iload_n C dX6_moveTo_73 rfl ?_
    refine rd_put C rd_p6_2 rf_X6_28 dX6_moveTo_74 rd_b58 rd_k58 trivial ?_
    refine rd_aload_n C dX6_moveTo_77 rfl ?_
    refine rd_iconst C dX6_moveTo_78 (n := 0) ⟨by decide, by decide⟩ ?_
    refine rd_put C rd_p6_4 rf_X6_34 dX6_moveTo_79 rd_b58 rd_k58 trivial ?_
    exact rd_vret C dX6_moveTo_82 ⟨rfl, by unfold rd_mvt; rw [if_pos (by omega)]; rfl⟩
set_option maxHeartbeats 4000000 in
set_option maxRecDepth 100000 in
theorem c_X6_returnTo {l : Launch} {G : rd_G} {r : Nat} {μ : rd_Mem} {p0 : Int} (h0 : 0 ≤ p0) (h1 : p0 < μ 58 5) (h40 : μ 58 5 ≤ 40) : rd_M l G rd_kc 313 r yX6_returnTo cX6_returnTo 2 none (rd_rm 1 22) [rd_R 58, rd_I p0] μ (fun v μ' => v = none ∧ μ' = rd_ret μ p0) := by
  refine rd_enter (by decide +kernel) (Nat.le_of_ble_eq_true rfl) [rd_R 58, rd_I p0] rfl (fun p e s m args below meth c C => ?_)
  refine rd_W.rng (fun hM hL _ => ?_)
  refine rd_iload_n C dX6_returnTo_0 rfl ?_
  refine rd_iconst C dX6_returnTo_1 (n := 0) ⟨by decide, by decide⟩ ?_
  refine rd_aload_n C dX6_returnTo_2 rfl ?_
  refine rd_get C rd_g6_5 rf_X6_37 dX6_returnTo_3 rd_b58 rd_k58 (x := rd_I (μ 58 5)) rfl (fun h => h _ _) ?_
  refine rd_iconst C dX6_returnTo_6 (n := 1) ⟨by decide, by decide⟩ ?_
  refine rd_isub C dX6_returnTo_7 (z := μ 58 5 - 1) rfl ⟨by omega, by omega⟩ ?_
  refine rd_callSN C (c_X9_isWithin) rx_X6_52 rt_X9_isWithin rc_X9_isWithin rz_X9 ⟨rp_X9_isWithin, rfl, rfl, by decide, by decide⟩ rfl dX6_returnTo_8 rfl (Nat.le_of_ble_eq_true rfl) (fun v1 w1 hq => ?_)
  rcases hq with ⟨hw_11, hv1, hm1⟩ | ⟨hw_11, hv1, hm1⟩
  rotate_left
  · exfalso; omega
  rw [hv1, hm1]; clear hv1 hm1 v1 w1
  refine rd_if_ne C dX6_returnTo_11 (tgt := 15) (by decide) (fun _ => ?_) (fun h => absurd h (by decide))
  refine rd_aload_n C dX6_returnTo_15 rfl ?_
  refine rd_aload_n C dX6_returnTo_16 rfl ?_
  refine rd_get C rd_g6_6 rf_X6_15 dX6_returnTo_17 rd_b58 rd_k58 (x := rd_R (59)) rfl (fun _ => trivial) ?_
  refine rd_iload_n C dX6_returnTo_20 rfl ?_
  refine rd_ialdx C rd_ai14 dX6_returnTo_21 rd_b59 rd_k59 ⟨by omega, by omega⟩ (z := μ 59 p0) rfl ?_
  refine rd_put C rd_p6_0 rf_X6_9 dX6_returnTo_22 rd_b58 rd_k58 trivial ?_
  refine rd_aload_n C dX6_returnTo_25 rfl ?_
  refine rd_aload_n C dX6_returnTo_26 rfl ?_
  refine rd_get C rd_g6_7 rf_X6_19 dX6_returnTo_27 rd_b58 rd_k58 (x := rd_R (60)) rfl (fun _ => trivial) ?_
  refine rd_iload_n C dX6_returnTo_30 rfl ?_
  refine rd_ialdx C rd_ai14 dX6_returnTo_31 rd_b60 rd_k60 ⟨by omega, by omega⟩ (z := μ 60 p0) (by rw [rd_u_k _ _ _ (by omega)]) ?_
  refine rd_put C rd_p6_1 rf_X6_25 dX6_returnTo_32 rd_b58 rd_k58 trivial ?_
  refine rd_aload_n C dX6_returnTo_35 rfl ?_
  refine rd_aload_n C dX6_returnTo_36 rfl ?_
  refine rd_get C rd_g6_8 rf_X6_22 dX6_returnTo_37 rd_b58 rd_k58 (x := rd_R (61)) rfl (fun _ => trivial) ?_
  refine rd_iload_n C dX6_returnTo_40 rfl ?_
  refine rd_ialdx C rd_ai14 dX6_returnTo_41 rd_b61 rd_k61 ⟨by omega, by omega⟩ (z := μ 61 p0) (by rw [rd_u_k _ _ _ (by omega), rd_u_k _ _ _ (by omega)]) ?_
  refine rd_put C rd_p6_2 rf_X6_28 dX6_returnTo_42 rd_b58 rd_k58 trivial ?_
  refine rd_aload_n C dX6_returnTo_45 rfl ?_
  refine rd_iconst C dX6_returnTo_46 (n := 0) ⟨by decide, by decide⟩ ?_
  refine rd_put C rd_p6_4 rf_X6_34 dX6_returnTo_47 rd_b58 rd_k58 trivial ?_
  refine rd_aload_n C dX6_returnTo_50 rfl ?_
  refine rd_iload_n C dX6_returnTo_51 rfl ?_
  refine rd_put C rd_p6_5 rf_X6_37 dX6_returnTo_52 rd_b58 rd_k58 trivial ?_
  exact rd_vret C dX6_returnTo_55 ⟨rfl, rfl⟩
set_option maxHeartbeats 4000000 in
set_option maxRecDepth 100000 in
theorem c_X6_trailValue {l : Launch} {G : rd_G} {r : Nat} {μ : rd_Mem} {p0 q0 : Int} (h0 : 0 ≤ p0) (h1 : p0 < μ 58 5) (h40 : μ 58 5 ≤ 40) (hq0 : 0 ≤ q0) (hq2 : q0 ≤ 2) : rd_M l G rd_kc 313 r yX6_trailValue cX6_trailValue 3 (some .int) (rd_rm 1 22) [rd_R 58, rd_I p0, rd_I q0] μ (fun v μ' => v = some (rd_I (μ (59 + q0) p0)) ∧ μ' = μ) := by
  refine rd_enter (by decide +kernel) (Nat.le_of_ble_eq_true rfl) [rd_R 58, rd_I p0, rd_I q0] rfl (fun p e s m args below meth c C => ?_)
  refine rd_W.rng (fun hM hL _ => ?_)
  refine rd_iload_n C dX6_trailValue_0 rfl ?_
  refine rd_iconst C dX6_trailValue_1 (n := 0) ⟨by decide, by decide⟩ ?_
  refine rd_aload_n C dX6_trailValue_2 rfl ?_
  refine rd_get C rd_g6_5 rf_X6_37 dX6_trailValue_3 rd_b58 rd_k58 (x := rd_I (μ 58 5)) rfl (fun h => h _ _) ?_
  refine rd_iconst C dX6_trailValue_6 (n := 1) ⟨by decide, by decide⟩ ?_
  refine rd_isub C dX6_trailValue_7 (z := μ 58 5 - 1) rfl ⟨by omega, by omega⟩ ?_
  refine rd_callSN C (c_X9_isWithin) rx_X6_52 rt_X9_isWithin rc_X9_isWithin rz_X9 ⟨rp_X9_isWithin, rfl, rfl, by decide, by decide⟩ rfl dX6_trailValue_8 rfl (Nat.le_of_ble_eq_true rfl) (fun v1 w1 hq => ?_)
  rcases hq with ⟨hw_11, hv1, hm1⟩ | ⟨hw_11, hv1, hm1⟩
  rotate_left
  · exfalso; omega
  rw [hv1, hm1]; clear hv1 hm1 v1 w1
  refine rd_if_ne C dX6_trailValue_11 (tgt := 17) (by decide) (fun _ => ?_) (fun h => absurd h (by decide))
  refine rd_iload_n C dX6_trailValue_17 rfl ?_
  have h_18 : q0 = 0 ∨ q0 = 1 ∨ (q0 ≠ 0 ∧ q0 ≠ 1) := by omega
  rcases h_18 with h_18 | h_18 | h_18
  · refine rd_lsw C dX6_trailValue_18 (by decide) (off := 26) (by rw [h_18]; decide) (tgt := 44) (by decide) ?_
    refine rd_aload_n C dX6_trailValue_44 rfl ?_
    refine rd_get C rd_g6_6 rf_X6_15 dX6_trailValue_45 rd_b58 rd_k58 (x := rd_R (59)) rfl (fun _ => trivial) ?_
    refine rd_iload_n C dX6_trailValue_48 rfl ?_
    refine rd_ialdx C rd_ai14 dX6_trailValue_49 rd_b59 rd_k59 ⟨by omega, by omega⟩ (z := μ 59 p0) rfl ?_
    exact rd_iret C dX6_trailValue_50 ⟨by rw [show q0 = 0 by omega]; rfl, rfl⟩
  · refine rd_lsw C dX6_trailValue_18 (by decide) (off := 33) (by rw [h_18]; decide) (tgt := 51) (by decide) ?_
    refine rd_aload_n C dX6_trailValue_51 rfl ?_
    refine rd_get C rd_g6_7 rf_X6_19 dX6_trailValue_52 rd_b58 rd_k58 (x := rd_R (60)) rfl (fun _ => trivial) ?_
    refine rd_iload_n C dX6_trailValue_55 rfl ?_
    refine rd_ialdx C rd_ai14 dX6_trailValue_56 rd_b60 rd_k60 ⟨by omega, by omega⟩ (z := μ 60 p0) rfl ?_
    exact rd_iret C dX6_trailValue_57 ⟨by rw [show q0 = 1 by omega]; rfl, rfl⟩
  · refine rd_lsw C dX6_trailValue_18 (by decide) (off := 40) (by simp [Op.lookupswitch.offset]; grind) (tgt := 58) (by decide) ?_
    refine rd_aload_n C dX6_trailValue_58 rfl ?_
    refine rd_get C rd_g6_8 rf_X6_22 dX6_trailValue_59 rd_b58 rd_k58 (x := rd_R (61)) rfl (fun _ => trivial) ?_
    refine rd_iload_n C dX6_trailValue_62 rfl ?_
    refine rd_ialdx C rd_ai14 dX6_trailValue_63 rd_b61 rd_k61 ⟨by omega, by omega⟩ (z := μ 61 p0) rfl ?_
    exact rd_iret C dX6_trailValue_64 ⟨by rw [show q0 = 2 by omega]; rfl, rfl⟩
def rd_rpc (μ : rd_Mem) : rd_Mem := rd_u (rd_u (rd_u (rd_u μ 310 0 (-6)) 310 1 (-6)) 310 2 (-6)) 310 3 (-6)
