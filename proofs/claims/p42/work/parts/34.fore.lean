/-! what is left, as the class counts it -/
noncomputable def sp_mo (μ : rd_Mem) (p : Int) : Int := sp_if (sp_th μ (μ 3 p) ∧ (μ (5 + 5 * μ 3 p) 1 = 0 ∨ μ 3 p = μ 58 0)) (sp_FS μ (μ 3 p) - (if μ 3 p = μ 58 0 then μ 58 1 else 0) + (if sp_next μ (p + 1) = -1 then 0 else 1)) 0
theorem sp_mo_r {μ : rd_Mem} (hw : sp_wf μ) (p : Int) : -9 ≤ sp_mo μ p ∧ sp_mo μ p ≤ 10 := by
  unfold sp_mo
  by_cases h : sp_th μ (μ 3 p) ∧ (μ (5 + 5 * μ 3 p) 1 = 0 ∨ μ 3 p = μ 58 0)
  · rw [sp_ift h]
    have h9 := sp_FS9 hw.2.1 hw.2.2.1 h.1.1.1 h.1.1.2
    have h0 : 0 ≤ sp_FS μ (μ 3 p) := sp_fs0 _ _ _
    have hs := hw.2.2.2.2
    (repeat' split) <;> omega
  · rw [sp_iff h]; omega
set_option maxHeartbeats 4000000 in
set_option maxRecDepth 100000 in
theorem c_X1_movesOn {l : Launch} {G : rd_G} {r : Nat} {μ : rd_Mem} {p0 : Int} (hw : sp_wf μ) (hp : 0 ≤ p0 ∧ p0 < μ 2 0) : rd_M l G rd_kc 313 r yX1_movesOn cX1_movesOn 6 (some .int) (rd_rm 2 62) [rd_R 1, rd_I p0] μ (fun v μ' => v = some (rd_I (sp_mo μ p0)) ∧ μ' = μ) := by
  refine rd_enter (by decide +kernel) (Nat.le_of_ble_eq_true rfl) [rd_R 1, rd_I p0, rd_J, rd_J, rd_J, rd_J] rfl (fun p e s m args below meth c C => ?_)
  refine rd_W.rng (fun hM hL _ => ?_)
  have hc1 := hw.1.1
  have hc2 := hw.1.2
  have hst := hw.2.2.2.2
  refine rd_aload_n C dX1_movesOn_0 rfl ?_
  refine rd_get C rd_g8_1 rf_X1_21 dX1_movesOn_1 rd_b1 rd_k1 (x := rd_R (2)) rfl (fun _ => trivial) ?_
  refine rd_iload_n C dX1_movesOn_4 rfl ?_
  refine rd_callV C (c_X0_numberAt (k := p0) hw.1) rm_X1_48 ri_X0_numberAt rs_X0_numberAt rc_X0_numberAt rz_X0 ⟨rp_X0_numberAt, rfl, rfl, by decide, by decide⟩ rfl rd_kcl0 dX1_movesOn_5 rd_b2 rd_k2 rfl (Nat.le_of_ble_eq_true rfl) (fun v1 w1 hq => ?_)
  obtain ⟨hv1, hm1⟩ := hq; rw [hv1, hm1, sp_ift ⟨by omega, by omega⟩]; clear hv1 hm1 v1 w1
  refine rd_istore_n C dX1_movesOn_8 (by decide) (L' := [rd_R 1, rd_I p0, rd_I (μ 3 p0), rd_J, rd_J, rd_J]) rfl ?_
  refine rd_aload_n C dX1_movesOn_9 rfl ?_
  refine rd_get C rd_g8_1 rf_X1_21 dX1_movesOn_10 rd_b1 rd_k1 (x := rd_R (2)) rfl (fun _ => trivial) ?_
  refine rd_iload_n C dX1_movesOn_13 rfl ?_
  refine rd_callV C (c_X0_find) rm_X1_51 ri_X0_find rs_X0_find rc_X0_find rz_X0 ⟨rp_X0_find, rfl, rfl, by decide, by decide⟩ rfl rd_kcl0 dX1_movesOn_14 rd_b2 rd_k2 rfl (Nat.le_of_ble_eq_true rfl) (fun v1 w1 hq => ?_)
  rcases hq with ⟨hw_17, hv1, hm1⟩ | ⟨hw_17, hv1, hm1⟩
  · rw [hv1, hm1]; clear hv1 hm1 v1 w1
    have hS_hw_17 := rd_sl1 hw_17.1.1 hw_17.1.2
    have hrs := (hw.2.1 _ hw_17.1.1 hw_17.1.2)
    have hf9 := sp_FS9 hw.2.1 hw.2.2.1 hw_17.1.1 hw_17.1.2
    have hf0 : 0 ≤ sp_FS μ (μ 3 p0) := sp_fs0 _ _ _
    refine rd_astore_n C dX1_movesOn_17 (by decide) (L' := [rd_R 1, rd_I p0, rd_I (μ 3 p0), rd_R (5 + 5 * (μ 3 p0)), rd_J, rd_J]) rfl ?_
    refine rd_iload_n C dX1_movesOn_18 rfl ?_
    refine rd_aload_n C dX1_movesOn_19 rfl ?_
    refine rd_get C rd_g8_3 rf_X1_25 dX1_movesOn_20 rd_b1 rd_k1 (x := rd_R (58)) rfl (fun _ => trivial) ?_
    refine rd_get C rd_g6_0 rf_X1_29 dX1_movesOn_23 rd_b58 rd_k58 (x := rd_I (μ 58 0)) rfl (fun h => h _ _) ?_
    refine rd_icmp_ne C dX1_movesOn_26 (tgt := 33) (by decide) (fun h_26 => ?_) (fun h_26 => ?_)
    · refine rd_iconst C dX1_movesOn_33 (n := 0) ⟨by decide, by decide⟩ ?_
      refine rd_istore C dX1_movesOn_34 (by decide) (L' := [rd_R 1, rd_I p0, rd_I (μ 3 p0), rd_R (5 + 5 * (μ 3 p0)), rd_I 0, rd_J]) rfl ?_
      refine rd_aload_n C dX1_movesOn_36 rfl ?_
      refine rd_ifnull_r C dX1_movesOn_37 ?_
      refine rd_aload_n C dX1_movesOn_40 rfl ?_
      refine rd_get C rd_g7_1 rf_X1_69 dX1_movesOn_41 hS_hw_17.1 hS_hw_17.2.2.2.2.2.1 (x := rd_I (μ (5 + 5 * (μ 3 p0)) 1)) rfl (fun h => h _ _) ?_
      refine rd_if_eq C dX1_movesOn_44 (tgt := 54) (by decide) (fun h_44 => ?_) (fun h_44 => ?_)
      · refine rd_aload_n C dX1_movesOn_54 rfl ?_
        refine rd_callV C (c_X7_finalStep hS_hw_17 hrs.1 hrs.2) rm_X1_73 ri_X7_finalStep rs_X7_finalStep rc_X7_finalStep rz_X7 ⟨rp_X7_finalStep, rfl, rfl, by decide, by decide⟩ rfl rd_kcl7 dX1_movesOn_55 hS_hw_17.1 hS_hw_17.2.2.2.2.2.1 rfl (Nat.le_of_ble_eq_true rfl) (fun v1 w1 hq => ?_)
        obtain ⟨hv1, hm1⟩ := hq; rw [show v1 = some (rd_I (sp_FS μ (μ 3 p0))) from hv1, hm1]; clear hv1 hm1
        refine rd_iload C dX1_movesOn_58 rfl ?_
        refine rd_if_eq C dX1_movesOn_60 (tgt := 73) (by decide) (fun _ => ?_) (fun h => absurd h (by decide))
        refine rd_iconst C dX1_movesOn_73 (n := 0) ⟨by decide, by decide⟩ ?_
        refine rd_isub C dX1_movesOn_74 (z := sp_FS μ (μ 3 p0) - 0) rfl ⟨by omega, by omega⟩ ?_
        refine rd_istore C dX1_movesOn_75 (by decide) (L' := [rd_R 1, rd_I p0, rd_I (μ 3 p0), rd_R (5 + 5 * (μ 3 p0)), rd_I 0, rd_I (sp_FS μ (μ 3 p0) - 0)]) rfl ?_
        refine rd_aload_n C dX1_movesOn_77 rfl ?_
        refine rd_get C rd_g8_1 rf_X1_21 dX1_movesOn_78 rd_b1 rd_k1 (x := rd_R (2)) rfl (fun _ => trivial) ?_
        refine rd_iload_n C dX1_movesOn_81 rfl ?_
        refine rd_callV C (c_X0_nextShown hw.1 (by omega) (by omega)) rm_X1_80 ri_X0_nextShown rs_X0_nextShown rc_X0_nextShown rz_X0 ⟨rp_X0_nextShown, rfl, rfl, by decide, by decide⟩ rfl rd_kcl0 dX1_movesOn_82 rd_b2 rd_k2 rfl (Nat.le_of_ble_eq_true rfl) (fun v1 w1 hq => ?_)
        obtain ⟨hv1, hm1⟩ := hq; rw [show v1 = some (rd_I (sp_next μ (p0 + 1))) from hv1, hm1]; clear hv1 hm1
        refine rd_iconst C dX1_movesOn_85 (n := -1) ⟨by decide, by decide⟩ ?_
        refine rd_icmp_ne C dX1_movesOn_86 (tgt := 94) (by decide) (fun h_86 => ?_) (fun h_86 => ?_)
        · refine rd_iload C dX1_movesOn_94 rfl ?_
          refine rd_iconst C dX1_movesOn_96 (n := 1) ⟨by decide, by decide⟩ ?_
          refine rd_iadd C dX1_movesOn_97 (z := sp_FS μ (μ 3 p0) - 0 + 1) rfl ⟨by omega, by omega⟩ ?_
          exact rd_iret C dX1_movesOn_98 ⟨by unfold sp_mo; rw [sp_ift ⟨hw_17, by first | exact Or.inl h_44 | exact Or.inr h_26⟩]; congr 2; (repeat' split) <;> omega, rfl⟩
        · refine rd_iload C dX1_movesOn_89 rfl ?_
          refine rd_goto C dX1_movesOn_91 (tgt := 98) (by decide) ?_
          exact rd_iret C dX1_movesOn_98 ⟨by unfold sp_mo; rw [sp_ift ⟨hw_17, by first | exact Or.inl h_44 | exact Or.inr h_26⟩]; congr 2; (repeat' split) <;> omega, rfl⟩
      · refine rd_iload C dX1_movesOn_47 rfl ?_
        refine rd_if_ne C dX1_movesOn_49 (tgt := 54) (by decide) (fun h => absurd h (by decide)) (fun _ => ?_)
        refine rd_iconst C dX1_movesOn_52 (n := 0) ⟨by decide, by decide⟩ ?_
        exact rd_iret C dX1_movesOn_53 ⟨by unfold sp_mo; rw [sp_iff (fun h => h.2.elim (fun g => h_44 g) (fun g => h_26 g))], rfl⟩
    · refine rd_iconst C dX1_movesOn_29 (n := 1) ⟨by decide, by decide⟩ ?_
      refine rd_goto C dX1_movesOn_30 (tgt := 34) (by decide) ?_
      refine rd_istore C dX1_movesOn_34 (by decide) (L' := [rd_R 1, rd_I p0, rd_I (μ 3 p0), rd_R (5 + 5 * (μ 3 p0)), rd_I 1, rd_J]) rfl ?_
      refine rd_aload_n C dX1_movesOn_36 rfl ?_
      refine rd_ifnull_r C dX1_movesOn_37 ?_
      refine rd_aload_n C dX1_movesOn_40 rfl ?_
      refine rd_get C rd_g7_1 rf_X1_69 dX1_movesOn_41 hS_hw_17.1 hS_hw_17.2.2.2.2.2.1 (x := rd_I (μ (5 + 5 * (μ 3 p0)) 1)) rfl (fun h => h _ _) ?_
      refine rd_if_eq C dX1_movesOn_44 (tgt := 54) (by decide) (fun h_44 => ?_) (fun h_44 => ?_)
      · refine rd_aload_n C dX1_movesOn_54 rfl ?_
        refine rd_callV C (c_X7_finalStep hS_hw_17 hrs.1 hrs.2) rm_X1_73 ri_X7_finalStep rs_X7_finalStep rc_X7_finalStep rz_X7 ⟨rp_X7_finalStep, rfl, rfl, by decide, by decide⟩ rfl rd_kcl7 dX1_movesOn_55 hS_hw_17.1 hS_hw_17.2.2.2.2.2.1 rfl (Nat.le_of_ble_eq_true rfl) (fun v1 w1 hq => ?_)
        obtain ⟨hv1, hm1⟩ := hq; rw [show v1 = some (rd_I (sp_FS μ (μ 3 p0))) from hv1, hm1]; clear hv1 hm1
        refine rd_iload C dX1_movesOn_58 rfl ?_
        refine rd_if_eq C dX1_movesOn_60 (tgt := 73) (by decide) (fun h => absurd h (by decide)) (fun _ => ?_)
        refine rd_aload_n C dX1_movesOn_63 rfl ?_
        refine rd_get C rd_g8_3 rf_X1_25 dX1_movesOn_64 rd_b1 rd_k1 (x := rd_R (58)) rfl (fun _ => trivial) ?_
        refine rd_get C rd_g6_1 rf_X1_77 dX1_movesOn_67 rd_b58 rd_k58 (x := rd_I (μ 58 1)) rfl (fun h => h _ _) ?_
        refine rd_goto C dX1_movesOn_70 (tgt := 74) (by decide) ?_
        refine rd_isub C dX1_movesOn_74 (z := sp_FS μ (μ 3 p0) - (μ 58 1)) rfl ⟨by omega, by omega⟩ ?_
        refine rd_istore C dX1_movesOn_75 (by decide) (L' := [rd_R 1, rd_I p0, rd_I (μ 3 p0), rd_R (5 + 5 * (μ 3 p0)), rd_I 1, rd_I (sp_FS μ (μ 3 p0) - (μ 58 1))]) rfl ?_
        refine rd_aload_n C dX1_movesOn_77 rfl ?_
        refine rd_get C rd_g8_1 rf_X1_21 dX1_movesOn_78 rd_b1 rd_k1 (x := rd_R (2)) rfl (fun _ => trivial) ?_
        refine rd_iload_n C dX1_movesOn_81 rfl ?_
        refine rd_callV C (c_X0_nextShown hw.1 (by omega) (by omega)) rm_X1_80 ri_X0_nextShown rs_X0_nextShown rc_X0_nextShown rz_X0 ⟨rp_X0_nextShown, rfl, rfl, by decide, by decide⟩ rfl rd_kcl0 dX1_movesOn_82 rd_b2 rd_k2 rfl (Nat.le_of_ble_eq_true rfl) (fun v1 w1 hq => ?_)
        obtain ⟨hv1, hm1⟩ := hq; rw [show v1 = some (rd_I (sp_next μ (p0 + 1))) from hv1, hm1]; clear hv1 hm1
        refine rd_iconst C dX1_movesOn_85 (n := -1) ⟨by decide, by decide⟩ ?_
        refine rd_icmp_ne C dX1_movesOn_86 (tgt := 94) (by decide) (fun h_86 => ?_) (fun h_86 => ?_)
        · refine rd_iload C dX1_movesOn_94 rfl ?_
          refine rd_iconst C dX1_movesOn_96 (n := 1) ⟨by decide, by decide⟩ ?_
          refine rd_iadd C dX1_movesOn_97 (z := sp_FS μ (μ 3 p0) - (μ 58 1) + 1) rfl ⟨by omega, by omega⟩ ?_
          exact rd_iret C dX1_movesOn_98 ⟨by unfold sp_mo; rw [sp_ift ⟨hw_17, by first | exact Or.inl h_44 | exact Or.inr h_26⟩]; congr 2; (repeat' split) <;> omega, rfl⟩
        · refine rd_iload C dX1_movesOn_89 rfl ?_
          refine rd_goto C dX1_movesOn_91 (tgt := 98) (by decide) ?_
          exact rd_iret C dX1_movesOn_98 ⟨by unfold sp_mo; rw [sp_ift ⟨hw_17, by first | exact Or.inl h_44 | exact Or.inr h_26⟩]; congr 2; (repeat' split) <;> omega, rfl⟩
      · refine rd_iload C dX1_movesOn_47 rfl ?_
        refine rd_if_ne C dX1_movesOn_49 (tgt := 54) (by decide) (fun _ => ?_) (fun h => absurd h (by decide))
        refine rd_aload_n C dX1_movesOn_54 rfl ?_
        refine rd_callV C (c_X7_finalStep hS_hw_17 hrs.1 hrs.2) rm_X1_73 ri_X7_finalStep rs_X7_finalStep rc_X7_finalStep rz_X7 ⟨rp_X7_finalStep, rfl, rfl, by decide, by decide⟩ rfl rd_kcl7 dX1_movesOn_55 hS_hw_17.1 hS_hw_17.2.2.2.2.2.1 rfl (Nat.le_of_ble_eq_true rfl) (fun v1 w1 hq => ?_)
        obtain ⟨hv1, hm1⟩ := hq; rw [show v1 = some (rd_I (sp_FS μ (μ 3 p0))) from hv1, hm1]; clear hv1 hm1
        refine rd_iload C dX1_movesOn_58 rfl ?_
        refine rd_if_eq C dX1_movesOn_60 (tgt := 73) (by decide) (fun h => absurd h (by decide)) (fun _ => ?_)
        refine rd_aload_n C dX1_movesOn_63 rfl ?_
        refine rd_get C rd_g8_3 rf_X1_25 dX1_movesOn_64 rd_b1 rd_k1 (x := rd_R (58)) rfl (fun _ => trivial) ?_
        refine rd_get C rd_g6_1 rf_X1_77 dX1_movesOn_67 rd_b58 rd_k58 (x := rd_I (μ 58 1)) rfl (fun h => h _ _) ?_
        refine rd_goto C dX1_movesOn_70 (tgt := 74) (by decide) ?_
        refine rd_isub C dX1_movesOn_74 (z := sp_FS μ (μ 3 p0) - (μ 58 1)) rfl ⟨by omega, by omega⟩ ?_
        refine rd_istore C dX1_movesOn_75 (by decide) (L' := [rd_R 1, rd_I p0, rd_I (μ 3 p0), rd_R (5 + 5 * (μ 3 p0)), rd_I 1, rd_I (sp_FS μ (μ 3 p0) - (μ 58 1))]) rfl ?_
        refine rd_aload_n C dX1_movesOn_77 rfl ?_
        refine rd_get C rd_g8_1 rf_X1_21 dX1_movesOn_78 rd_b1 rd_k1 (x := rd_R (2)) rfl (fun _ => trivial) ?_
        refine rd_iload_n C dX1_movesOn_81 rfl ?_
        refine rd_callV C (c_X0_nextShown hw.1 (by omega) (by omega)) rm_X1_80 ri_X0_nextShown rs_X0_nextShown rc_X0_nextShown rz_X0 ⟨rp_X0_nextShown, rfl, rfl, by decide, by decide⟩ rfl rd_kcl0 dX1_movesOn_82 rd_b2 rd_k2 rfl (Nat.le_of_ble_eq_true rfl) (fun v1 w1 hq => ?_)
        obtain ⟨hv1, hm1⟩ := hq; rw [show v1 = some (rd_I (sp_next μ (p0 + 1))) from hv1, hm1]; clear hv1 hm1
        refine rd_iconst C dX1_movesOn_85 (n := -1) ⟨by decide, by decide⟩ ?_
        refine rd_icmp_ne C dX1_movesOn_86 (tgt := 94) (by decide) (fun h_86 => ?_) (fun h_86 => ?_)
        · refine rd_iload C dX1_movesOn_94 rfl ?_
          refine rd_iconst C dX1_movesOn_96 (n := 1) ⟨by decide, by decide⟩ ?_
          refine rd_iadd C dX1_movesOn_97 (z := sp_FS μ (μ 3 p0) - (μ 58 1) + 1) rfl ⟨by omega, by omega⟩ ?_
          exact rd_iret C dX1_movesOn_98 ⟨by unfold sp_mo; rw [sp_ift ⟨hw_17, by first | exact Or.inl h_44 | exact Or.inr h_26⟩]; congr 2; (repeat' split) <;> omega, rfl⟩
        · refine rd_iload C dX1_movesOn_89 rfl ?_
          refine rd_goto C dX1_movesOn_91 (tgt := 98) (by decide) ?_
          exact rd_iret C dX1_movesOn_98 ⟨by unfold sp_mo; rw [sp_ift ⟨hw_17, by first | exact Or.inl h_44 | exact Or.inr h_26⟩]; congr 2; (repeat' split) <;> omega, rfl⟩
  · rw [hv1, hm1]; clear hv1 hm1 v1 w1
    refine rd_astore_nN C dX1_movesOn_17 (by decide) (L' := [rd_R 1, rd_I p0, rd_I (μ 3 p0), rd_N, rd_J, rd_J]) rfl ?_
    refine rd_iload_n C dX1_movesOn_18 rfl ?_
    refine rd_aload_n C dX1_movesOn_19 rfl ?_
    refine rd_get C rd_g8_3 rf_X1_25 dX1_movesOn_20 rd_b1 rd_k1 (x := rd_R (58)) rfl (fun _ => trivial) ?_
    refine rd_get C rd_g6_0 rf_X1_29 dX1_movesOn_23 rd_b58 rd_k58 (x := rd_I (μ 58 0)) rfl (fun h => h _ _) ?_
    refine rd_icmp_ne C dX1_movesOn_26 (tgt := 33) (by decide) (fun h_26 => ?_) (fun h_26 => ?_)
    · refine rd_iconst C dX1_movesOn_33 (n := 0) ⟨by decide, by decide⟩ ?_
      refine rd_istore C dX1_movesOn_34 (by decide) (L' := [rd_R 1, rd_I p0, rd_I (μ 3 p0), rd_N, rd_I 0, rd_J]) rfl ?_
      refine rd_aload_n C dX1_movesOn_36 rfl ?_
      refine rd_ifnull_n C dX1_movesOn_37 (tgt := 52) (by decide) ?_
      refine rd_iconst C dX1_movesOn_52 (n := 0) ⟨by decide, by decide⟩ ?_
      exact rd_iret C dX1_movesOn_53 ⟨by unfold sp_mo; rw [sp_iff (fun h => hw_17 h.1)], rfl⟩
    · refine rd_iconst C dX1_movesOn_29 (n := 1) ⟨by decide, by decide⟩ ?_
      refine rd_goto C dX1_movesOn_30 (tgt := 34) (by decide) ?_
      refine rd_istore C dX1_movesOn_34 (by decide) (L' := [rd_R 1, rd_I p0, rd_I (μ 3 p0), rd_N, rd_I 1, rd_J]) rfl ?_
      refine rd_aload_n C dX1_movesOn_36 rfl ?_
      refine rd_ifnull_n C dX1_movesOn_37 (tgt := 52) (by decide) ?_
      refine rd_iconst C dX1_movesOn_52 (n := 0) ⟨by decide, by decide⟩ ?_
      exact rd_iret C dX1_movesOn_53 ⟨by unfold sp_mo; rw [sp_iff (fun h => hw_17 h.1)], rfl⟩
set_option maxHeartbeats 4000000 in
set_option maxRecDepth 100000 in
theorem c_X1_countMoves {l : Launch} {G : rd_G} {r : Nat} {μ : rd_Mem} (hw : sp_wf μ) (hpo : sp_po μ) : rd_M l G rd_kc 313 r yX1_countMoves cX1_countMoves 4 (some .int) (rd_rm 3 87) [rd_R 311, rd_R 1] μ (fun v μ' => (¬ sp_th μ (μ 58 0) ∧ v = some (rd_I (-6)) ∧ μ' = μ) ∨ (sp_th μ (μ 58 0) ∧ v = some (rd_I (sp_sum (fun i => sp_mo μ (sp_pl μ (μ 58 0) + i)) (μ 2 0 - sp_pl μ (μ 58 0)).toNat)) ∧ μ' = μ)) := by
  refine rd_enter (by decide +kernel) (Nat.le_of_ble_eq_true rfl) [rd_R 311, rd_R 1, rd_J, rd_J] rfl (fun p e s m args below meth c C => ?_)
  refine rd_W.rng (fun hM hL _ => ?_)
  have hc1 := hw.1.1
  have hc2 := hw.1.2
  refine rd_aload_n C dX1_countMoves_0 rfl ?_
  refine rd_callV C (c_X8_here) rm_X1_15 ri_X8_here rs_X8_here rc_X8_here rz_X8 ⟨rp_X8_here, rfl, rfl, by decide, by decide⟩ rfl rd_kcl8 dX1_countMoves_1 rd_b1 rd_k1 rfl (Nat.le_of_ble_eq_true rfl) (fun v1 w1 hq => ?_)
  rcases hq with ⟨hw_4, hv1, hm1⟩ | ⟨hw_4, hv1, hm1⟩
  · rw [hv1, hm1]; clear hv1 hm1 v1 w1
    have hS_hw_4 := rd_sl1 hw_4.1.1 hw_4.1.2
    refine rd_ifnonnull_r C dX1_countMoves_4 (tgt := 10) (by decide) ?_
    refine rd_iconst C dX1_countMoves_10 (n := 0) ⟨by decide, by decide⟩ ?_
    refine rd_istore_n C dX1_countMoves_11 (by decide) (L' := [rd_R 311, rd_R 1, rd_I 0, rd_J]) rfl ?_
    refine rd_aload_n C dX1_countMoves_12 rfl ?_
    refine rd_get C rd_g8_1 rf_X1_21 dX1_countMoves_13 rd_b1 rd_k1 (x := rd_R (2)) rfl (fun _ => trivial) ?_
    refine rd_aload_n C dX1_countMoves_16 rfl ?_
    refine rd_get C rd_g8_3 rf_X1_25 dX1_countMoves_17 rd_b1 rd_k1 (x := rd_R (58)) rfl (fun _ => trivial) ?_
    refine rd_get C rd_g6_0 rf_X1_29 dX1_countMoves_20 rd_b58 rd_k58 (x := rd_I (μ 58 0)) rfl (fun h => h _ _) ?_
    refine rd_callV C (c_X0_placeOf hw.1) rm_X1_35 ri_X0_placeOf rs_X0_placeOf rc_X0_placeOf rz_X0 ⟨rp_X0_placeOf, rfl, rfl, by decide, by decide⟩ rfl rd_kcl0 dX1_countMoves_23 rd_b2 rd_k2 rfl (Nat.le_of_ble_eq_true rfl) (fun v1 w1 hq => ?_)
    obtain ⟨hv1, hm1⟩ := hq; rw [show v1 = some (rd_I (sp_pl μ (μ 58 0))) from hv1, hm1]; clear hv1 hm1
    have hpl := hpo _ hw_4
    refine rd_istore_n C dX1_countMoves_26 (by decide) (L' := [rd_R 311, rd_R 1, rd_I 0, rd_I (sp_pl μ (μ 58 0))]) rfl ?_
    have lp27 : ∀ (n : Nat) (k : Nat) (x c3 : Int), (sp_pl μ (μ 58 0) + (k : Int) ≤ μ 2 0) → (μ 2 0 < sp_pl μ (μ 58 0) + k + n) → (x = sp_sum (fun i => sp_mo μ (sp_pl μ (μ 58 0) + i)) k) → (-9 * k ≤ x ∧ x ≤ 10 * k) → (c3 = sp_pl μ (μ 58 0) + (k : Int)) → rd_W p l e (rd_rm 3 87) s m args below meth c (MQ below (rd_Qc G rd_kc 313 r (fun v μ' => (¬ sp_th μ (μ 58 0) ∧ v = some (rd_I (-6)) ∧ μ' = μ) ∨ (sp_th μ (μ 58 0) ∧ v = some (rd_I (sp_sum (fun i => sp_mo μ (sp_pl μ (μ 58 0) + i)) (μ 2 0 - sp_pl μ (μ 58 0)).toNat)) ∧ μ' = μ))) args s 0 0 (rd_A r 313)) 4 G rd_kc 313 r 27 [rd_R 311, rd_R 1, rd_I x, rd_I c3] [] μ := by
      intro n
      induction n with
      | zero => intro k x c3  h2 h3 hx hx2 hc; exfalso; omega
      | succ n ih =>
        intro k x c3  h2 h3 hx hx2 hc
        refine rd_iload_n C dX1_countMoves_27 rfl ?_
        refine rd_aload_n C dX1_countMoves_28 rfl ?_
        refine rd_get C rd_g8_1 rf_X1_21 dX1_countMoves_29 rd_b1 rd_k1 (x := rd_R (2)) rfl (fun _ => trivial) ?_
        refine rd_get C rd_g0_0 rf_X1_41 dX1_countMoves_32 rd_b2 rd_k2 (x := rd_I (μ 2 0)) rfl (fun h => h _ _) ?_
        refine rd_icmp_ge C dX1_countMoves_35 (tgt := 52) (by decide) (fun h_35 => ?_) (fun h_35 => ?_)
        · refine rd_iload_n C dX1_countMoves_52 rfl ?_
          exact rd_iret C dX1_countMoves_53 (Or.inr ⟨hw_4, by rw [hx, show k = (μ 2 0 - sp_pl μ (μ 58 0)).toNat by omega], rfl⟩)
        · refine rd_iload_n C dX1_countMoves_38 rfl ?_
          refine rd_aload_n C dX1_countMoves_39 rfl ?_
          refine rd_iload_n C dX1_countMoves_40 rfl ?_
          refine rd_callS C (c_X1_movesOn hw ⟨by omega, by omega⟩) rm_X1_44 rt_X1_movesOn rc_X1_movesOn rz_X1 ⟨rp_X1_movesOn, rfl, rfl, by decide, by decide⟩ rfl dX1_countMoves_41 rfl (Nat.le_of_ble_eq_true rfl) (fun v1 w1 hq => ?_)
          obtain ⟨hv1, hm1⟩ := hq; rw [show v1 = some (rd_I (sp_mo μ c3)) from hv1, hm1]; clear hv1 hm1
          have hmr := sp_mo_r hw c3
          refine rd_iadd C dX1_countMoves_44 (z := x + sp_mo μ c3) rfl ⟨by omega, by omega⟩ ?_
          refine rd_istore_n C dX1_countMoves_45 (by decide) (L' := [rd_R 311, rd_R 1, rd_I (x + sp_mo μ c3), rd_I c3]) rfl ?_
          refine rd_iinc C dX1_countMoves_46 (by decide) rfl ⟨by omega, by omega⟩ (L' := [rd_R 311, rd_R 1, rd_I (x + sp_mo μ c3), rd_I (c3 + 1)]) rfl ?_
          refine rd_goto C dX1_countMoves_49 (tgt := 27) (by decide) ?_
          exact ih (k + 1) _ _ (by omega) (by omega) (by simp only [sp_sum]; rw [hx, hc]) (by omega) (by omega)
    exact lp27 12 0 0 _ (by omega) (by omega) rfl (by omega) (by omega)
  · rw [hv1, hm1]; clear hv1 hm1 v1 w1
    refine rd_ifnonnull_n C dX1_countMoves_4 ?_
    refine rd_bipush C dX1_countMoves_7 (n := -6) (by decide) ⟨by decide, by decide⟩ ?_
    exact rd_iret C dX1_countMoves_9 (Or.inl ⟨hw_4, rfl, rfl⟩)
noncomputable def sp_sx (μ : rd_Mem) (p0 p x : Int) : Int := if p = p0 then rd_w (rd_w (x + rd_w (sp_mo μ p * μ (5 + 5 * μ 3 p) 2)) + rd_w (max 1 (rd_w (μ (5 + 5 * μ 3 p) 2 - μ 58 4)) - μ (5 + 5 * μ 3 p) 2)) else rd_w (x + rd_w (sp_mo μ p * μ (5 + 5 * μ 3 p) 2))
noncomputable def sp_sc (μ : rd_Mem) (p0 : Int) : Nat → Int → Int → Int
  | 0, _, x => x
  | n + 1, p, x => sp_if (¬ sp_th μ (μ 3 p) ∨ sp_mo μ p = 0) (sp_sc μ p0 n (p + 1) x) (sp_if (μ (5 + 5 * μ 3 p) 2 = 0) (-6) (sp_sc μ p0 n (p + 1) (sp_sx μ p0 p x)))
theorem sp_sc_a {μ : rd_Mem} {p0 p x : Int} {n : Nat} (h0 : 0 < n) (h : ¬ sp_th μ (μ 3 p) ∨ sp_mo μ p = 0) : sp_sc μ p0 n p x = sp_sc μ p0 (n - 1) (p + 1) x := by
  obtain ⟨m, rfl⟩ : ∃ m, n = m + 1 := ⟨n - 1, by omega⟩
  simp only [sp_sc]; rw [sp_ift h]; rfl
theorem sp_sc_b {μ : rd_Mem} {p0 p x : Int} {n : Nat} (h0 : 0 < n) (h : ¬ (¬ sp_th μ (μ 3 p) ∨ sp_mo μ p = 0)) (h2 : μ (5 + 5 * μ 3 p) 2 = 0) : sp_sc μ p0 n p x = -6 := by
  obtain ⟨m, rfl⟩ : ∃ m, n = m + 1 := ⟨n - 1, by omega⟩
  simp only [sp_sc]; rw [sp_iff h, sp_ift h2]
theorem sp_sc_c {μ : rd_Mem} {p0 p x : Int} {n : Nat} (h0 : 0 < n) (h : ¬ (¬ sp_th μ (μ 3 p) ∨ sp_mo μ p = 0)) (h2 : μ (5 + 5 * μ 3 p) 2 ≠ 0) : sp_sc μ p0 n p x = sp_sc μ p0 (n - 1) (p + 1) (sp_sx μ p0 p x) := by
  obtain ⟨m, rfl⟩ : ∃ m, n = m + 1 := ⟨n - 1, by omega⟩
  simp only [sp_sc]; rw [sp_iff h, sp_iff h2]; rfl
set_option maxHeartbeats 4000000 in
set_option maxRecDepth 100000 in
theorem c_X1_countSeconds {l : Launch} {G : rd_G} {r : Nat} {μ : rd_Mem} (hw : sp_wf μ) (hpo : sp_po μ) : rd_M l G rd_kc 313 r yX1_countSeconds cX1_countSeconds 7 (some .int) (rd_rm 3 87) [rd_R 311, rd_R 1] μ (fun v μ' => (¬ sp_th μ (μ 58 0) ∧ v = some (rd_I (-6)) ∧ μ' = μ) ∨ (sp_th μ (μ 58 0) ∧ v = some (rd_I (sp_sc μ (sp_pl μ (μ 58 0)) (μ 2 0 - sp_pl μ (μ 58 0)).toNat (sp_pl μ (μ 58 0)) 0)) ∧ μ' = μ)) := by
  refine rd_enter (by decide +kernel) (Nat.le_of_ble_eq_true rfl) [rd_R 311, rd_R 1, rd_J, rd_J, rd_J, rd_J, rd_J] rfl (fun p e s m args below meth c C => ?_)
  refine rd_W.rng (fun hM hL _ => ?_)
  have hc1 := hw.1.1
  have hc2 := hw.1.2
  refine rd_aload_n C dX1_countSeconds_0 rfl ?_
  refine rd_callV C (c_X8_here) rm_X1_15 ri_X8_here rs_X8_here rc_X8_here rz_X8 ⟨rp_X8_here, rfl, rfl, by decide, by decide⟩ rfl rd_kcl8 dX1_countSeconds_1 rd_b1 rd_k1 rfl (Nat.le_of_ble_eq_true rfl) (fun v1 w1 hq => ?_)
  rcases hq with ⟨hw_4, hv1, hm1⟩ | ⟨hw_4, hv1, hm1⟩
  · rw [hv1, hm1]; clear hv1 hm1 v1 w1
    have hS_hw_4 := rd_sl1 hw_4.1.1 hw_4.1.2
    refine rd_ifnonnull_r C dX1_countSeconds_4 (tgt := 10) (by decide) ?_
    refine rd_aload_n C dX1_countSeconds_10 rfl ?_
    refine rd_get C rd_g8_1 rf_X1_21 dX1_countSeconds_11 rd_b1 rd_k1 (x := rd_R (2)) rfl (fun _ => trivial) ?_
    refine rd_aload_n C dX1_countSeconds_14 rfl ?_
    refine rd_get C rd_g8_3 rf_X1_25 dX1_countSeconds_15 rd_b1 rd_k1 (x := rd_R (58)) rfl (fun _ => trivial) ?_
    refine rd_get C rd_g6_0 rf_X1_29 dX1_countSeconds_18 rd_b58 rd_k58 (x := rd_I (μ 58 0)) rfl (fun h => h _ _) ?_
    refine rd_callV C (c_X0_placeOf hw.1) rm_X1_35 ri_X0_placeOf rs_X0_placeOf rc_X0_placeOf rz_X0 ⟨rp_X0_placeOf, rfl, rfl, by decide, by decide⟩ rfl rd_kcl0 dX1_countSeconds_21 rd_b2 rd_k2 rfl (Nat.le_of_ble_eq_true rfl) (fun v1 w1 hq => ?_)
    obtain ⟨hv1, hm1⟩ := hq; rw [show v1 = some (rd_I (sp_pl μ (μ 58 0))) from hv1, hm1]; clear hv1 hm1
    have hpl := hpo _ hw_4
    refine rd_istore_n C dX1_countSeconds_24 (by decide) (L' := [rd_R 311, rd_R 1, rd_I (sp_pl μ (μ 58 0)), rd_J, rd_J, rd_J, rd_J]) rfl ?_
    refine rd_iconst C dX1_countSeconds_25 (n := 0) ⟨by decide, by decide⟩ ?_
    refine rd_istore_n C dX1_countSeconds_26 (by decide) (L' := [rd_R 311, rd_R 1, rd_I (sp_pl μ (μ 58 0)), rd_I 0, rd_J, rd_J, rd_J]) rfl ?_
    refine rd_iload_n C dX1_countSeconds_27 rfl ?_
    refine rd_istore C dX1_countSeconds_28 (by decide) (L' := [rd_R 311, rd_R 1, rd_I (sp_pl μ (μ 58 0)), rd_I 0, rd_I (sp_pl μ (μ 58 0)), rd_J, rd_J]) rfl ?_
    have lp30 : ∀ (n : Nat) (n' : Nat) (x c4 : Int) (j5 j6 : rd_X), (n' < n) → (sp_pl μ (μ 58 0) ≤ c4) → (c4 + n' = μ 2 0) → (sp_sc μ (sp_pl μ (μ 58 0)) (μ 2 0 - sp_pl μ (μ 58 0)).toNat (sp_pl μ (μ 58 0)) 0 = sp_sc μ (sp_pl μ (μ 58 0)) n' c4 x) → rd_W p l e (rd_rm 3 87) s m args below meth c (MQ below (rd_Qc G rd_kc 313 r (fun v μ' => (¬ sp_th μ (μ 58 0) ∧ v = some (rd_I (-6)) ∧ μ' = μ) ∨ (sp_th μ (μ 58 0) ∧ v = some (rd_I (sp_sc μ (sp_pl μ (μ 58 0)) (μ 2 0 - sp_pl μ (μ 58 0)).toNat (sp_pl μ (μ 58 0)) 0)) ∧ μ' = μ))) args s 0 0 (rd_A r 313)) 7 G rd_kc 313 r 30 [rd_R 311, rd_R 1, rd_I (sp_pl μ (μ 58 0)), rd_I x, rd_I c4, j5, j6] [] μ := by
      intro n
      induction n with
      | zero => intro n' x c4 j5 j6  h1 h2 h3 hF; exfalso; omega
      | succ n ih =>
        intro n' x c4 j5 j6  h1 h2 h3 hF
        refine rd_iload C dX1_countSeconds_30 rfl ?_
        refine rd_aload_n C dX1_countSeconds_32 rfl ?_
        refine rd_get C rd_g8_1 rf_X1_21 dX1_countSeconds_33 rd_b1 rd_k1 (x := rd_R (2)) rfl (fun _ => trivial) ?_
        refine rd_get C rd_g0_0 rf_X1_41 dX1_countSeconds_36 rd_b2 rd_k2 (x := rd_I (μ 2 0)) rfl (fun h => h _ _) ?_
        refine rd_icmp_ge C dX1_countSeconds_39 (tgt := 141) (by decide) (fun h_39 => ?_) (fun h_39 => ?_)
        · refine rd_iload_n C dX1_countSeconds_141 rfl ?_
          exact rd_iret C dX1_countSeconds_142 (Or.inr ⟨hw_4, by rw [hF, show n' = 0 by omega]; rfl, rfl⟩)
        · refine rd_aload_n C dX1_countSeconds_42 rfl ?_
          refine rd_get C rd_g8_1 rf_X1_21 dX1_countSeconds_43 rd_b1 rd_k1 (x := rd_R (2)) rfl (fun _ => trivial) ?_
          refine rd_aload_n C dX1_countSeconds_46 rfl ?_
          refine rd_get C rd_g8_1 rf_X1_21 dX1_countSeconds_47 rd_b1 rd_k1 (x := rd_R (2)) rfl (fun _ => trivial) ?_
          refine rd_iload C dX1_countSeconds_50 rfl ?_
          refine rd_callV C (c_X0_numberAt (k := c4) hw.1) rm_X1_48 ri_X0_numberAt rs_X0_numberAt rc_X0_numberAt rz_X0 ⟨rp_X0_numberAt, rfl, rfl, by decide, by decide⟩ rfl rd_kcl0 dX1_countSeconds_52 rd_b2 rd_k2 rfl (Nat.le_of_ble_eq_true rfl) (fun v1 w1 hq => ?_)
          obtain ⟨hv1, hm1⟩ := hq; rw [hv1, hm1, sp_ift ⟨by omega, by omega⟩]; clear hv1 hm1 v1 w1
          refine rd_callV C (c_X0_find) rm_X1_51 ri_X0_find rs_X0_find rc_X0_find rz_X0 ⟨rp_X0_find, rfl, rfl, by decide, by decide⟩ rfl rd_kcl0 dX1_countSeconds_55 rd_b2 rd_k2 rfl (Nat.le_of_ble_eq_true rfl) (fun v1 w1 hq => ?_)
          rcases hq with ⟨hw_58, hv1, hm1⟩ | ⟨hw_58, hv1, hm1⟩
          · rw [hv1, hm1]; clear hv1 hm1 v1 w1
            have hS_hw_58 := rd_sl1 hw_58.1.1 hw_58.1.2
            have hrs := (hw.2.1 _ hw_58.1.1 hw_58.1.2)
            have hf9 := sp_FS9 hw.2.1 hw.2.2.1 hw_58.1.1 hw_58.1.2
            have hf0 : 0 ≤ sp_FS μ (μ 3 c4) := sp_fs0 _ _ _
            refine rd_astore C dX1_countSeconds_58 (by decide) (L' := [rd_R 311, rd_R 1, rd_I (sp_pl μ (μ 58 0)), rd_I x, rd_I c4, rd_R (5 + 5 * (μ 3 c4)), j6]) rfl ?_
            refine rd_aload_n C dX1_countSeconds_60 rfl ?_
            refine rd_iload C dX1_countSeconds_61 rfl ?_
            refine rd_callS C (c_X1_movesOn hw ⟨by omega, by omega⟩) rm_X1_44 rt_X1_movesOn rc_X1_movesOn rz_X1 ⟨rp_X1_movesOn, rfl, rfl, by decide, by decide⟩ rfl dX1_countSeconds_63 rfl (Nat.le_of_ble_eq_true rfl) (fun v1 w1 hq => ?_)
            obtain ⟨hv1, hm1⟩ := hq; rw [show v1 = some (rd_I (sp_mo μ c4)) from hv1, hm1]; clear hv1 hm1
            refine rd_istore C dX1_countSeconds_66 (by decide) (L' := [rd_R 311, rd_R 1, rd_I (sp_pl μ (μ 58 0)), rd_I x, rd_I c4, rd_R (5 + 5 * (μ 3 c4)), rd_I (sp_mo μ c4)]) rfl ?_
            refine rd_aload C dX1_countSeconds_68 rfl ?_
            refine rd_ifnull_r C dX1_countSeconds_70 ?_
            refine rd_iload C dX1_countSeconds_73 rfl ?_
            refine rd_if_ne C dX1_countSeconds_75 (tgt := 81) (by decide) (fun h_75 => ?_) (fun h_75 => ?_)
            · refine rd_aload C dX1_countSeconds_81 rfl ?_
              refine rd_get C rd_g7_2 rf_X1_55 dX1_countSeconds_83 hS_hw_58.1 hS_hw_58.2.2.2.2.2.1 (x := rd_I (μ (5 + 5 * (μ 3 c4)) 2)) rfl (fun h => h _ _) ?_
              refine rd_if_ne C dX1_countSeconds_86 (tgt := 92) (by decide) (fun h_86 => ?_) (fun h_86 => ?_)
              · refine rd_iload_n C dX1_countSeconds_92 rfl ?_
                refine rd_iload C dX1_countSeconds_93 rfl ?_
                refine rd_aload C dX1_countSeconds_95 rfl ?_
                refine rd_get C rd_g7_2 rf_X1_55 dX1_countSeconds_97 hS_hw_58.1 hS_hw_58.2.2.2.2.2.1 (x := rd_I (μ (5 + 5 * (μ 3 c4)) 2)) rfl (fun h => h _ _) ?_
                refine rd_imulw C dX1_countSeconds_100 ?_
                refine rd_iaddw C dX1_countSeconds_101 ?_
                refine rd_istore_n C dX1_countSeconds_102 (by decide) (L' := [rd_R 311, rd_R 1, rd_I (sp_pl μ (μ 58 0)), rd_I (rd_w (x + (rd_w ((sp_mo μ c4) * (μ (5 + 5 * (μ 3 c4)) 2))))), rd_I c4, rd_R (5 + 5 * (μ 3 c4)), rd_I (sp_mo μ c4)]) rfl ?_
                refine rd_iload C dX1_countSeconds_103 rfl ?_
                refine rd_iload_n C dX1_countSeconds_105 rfl ?_
                refine rd_icmp_ne C dX1_countSeconds_106 (tgt := 135) (by decide) (fun h_106 => ?_) (fun h_106 => ?_)
                · refine rd_iinc C dX1_countSeconds_135 (by decide) rfl ⟨by omega, by omega⟩ (L' := [rd_R 311, rd_R 1, rd_I (sp_pl μ (μ 58 0)), rd_I (rd_w (x + (rd_w ((sp_mo μ c4) * (μ (5 + 5 * (μ 3 c4)) 2))))), rd_I (c4 + 1), rd_R (5 + 5 * (μ 3 c4)), rd_I (sp_mo μ c4)]) rfl ?_
                  refine rd_goto C dX1_countSeconds_138 (tgt := 30) (by decide) ?_
                  exact ih (n' - 1) _ (c4 + 1) _ _ (by omega) (by omega) (by omega) (by rw [hF, sp_sc_c (by omega) (fun h => h.elim (fun g => g hw_58) (fun g => h_75 g)) h_86]; unfold sp_sx; first | rw [if_pos h_106] | rw [if_neg h_106])
                · refine rd_iload_n C dX1_countSeconds_109 rfl ?_
                  refine rd_iconst C dX1_countSeconds_110 (n := 1) ⟨by decide, by decide⟩ ?_
                  refine rd_aload C dX1_countSeconds_111 rfl ?_
                  refine rd_get C rd_g7_2 rf_X1_55 dX1_countSeconds_113 hS_hw_58.1 hS_hw_58.2.2.2.2.2.1 (x := rd_I (μ (5 + 5 * (μ 3 c4)) 2)) rfl (fun h => h _ _) ?_
                  refine rd_aload_n C dX1_countSeconds_116 rfl ?_
                  refine rd_get C rd_g8_3 rf_X1_25 dX1_countSeconds_117 rd_b1 rd_k1 (x := rd_R (58)) rfl (fun _ => trivial) ?_
                  refine rd_get C rd_g6_4 rf_X1_60 dX1_countSeconds_120 rd_b58 rd_k58 (x := rd_I (μ 58 4)) rfl (fun h => h _ _) ?_
                  refine rd_isubw C dX1_countSeconds_123 ?_
                  refine rd_mmax C rm_X1_63 rt_J9_max_7cf53 rz_J9 rc_J9_max_7cf53 ⟨by decide, by decide⟩ (Nat.le_of_ble_eq_true rfl) dX1_countSeconds_124 (z := max 1 (rd_w ((μ (5 + 5 * (μ 3 c4)) 2) - (μ 58 4)))) (by omega) ?_
                  refine rd_aload C dX1_countSeconds_127 rfl ?_
                  refine rd_get C rd_g7_2 rf_X1_55 dX1_countSeconds_129 hS_hw_58.1 hS_hw_58.2.2.2.2.2.1 (x := rd_I (μ (5 + 5 * (μ 3 c4)) 2)) rfl (fun h => h _ _) ?_
                  refine rd_isubw C dX1_countSeconds_132 ?_
                  refine rd_iaddw C dX1_countSeconds_133 ?_
                  refine rd_istore_n C dX1_countSeconds_134 (by decide) (L' := [rd_R 311, rd_R 1, rd_I (sp_pl μ (μ 58 0)), rd_I (rd_w ((rd_w (x + (rd_w ((sp_mo μ c4) * (μ (5 + 5 * (μ 3 c4)) 2))))) + (rd_w ((max 1 (rd_w ((μ (5 + 5 * (μ 3 c4)) 2) - (μ 58 4)))) - (μ (5 + 5 * (μ 3 c4)) 2))))), rd_I c4, rd_R (5 + 5 * (μ 3 c4)), rd_I (sp_mo μ c4)]) rfl ?_
                  refine rd_iinc C dX1_countSeconds_135 (by decide) rfl ⟨by omega, by omega⟩ (L' := [rd_R 311, rd_R 1, rd_I (sp_pl μ (μ 58 0)), rd_I (rd_w ((rd_w (x + (rd_w ((sp_mo μ c4) * (μ (5 + 5 * (μ 3 c4)) 2))))) + (rd_w ((max 1 (rd_w ((μ (5 + 5 * (μ 3 c4)) 2) - (μ 58 4)))) - (μ (5 + 5 * (μ 3 c4)) 2))))), rd_I (c4 + 1), rd_R (5 + 5 * (μ 3 c4)), rd_I (sp_mo μ c4)]) rfl ?_
                  refine rd_goto C dX1_countSeconds_138 (tgt := 30) (by decide) ?_
                  exact ih (n' - 1) _ (c4 + 1) _ _ (by omega) (by omega) (by omega) (by rw [hF, sp_sc_c (by omega) (fun h => h.elim (fun g => g hw_58) (fun g => h_75 g)) h_86]; unfold sp_sx; first | rw [if_pos h_106] | rw [if_neg h_106])
              · refine rd_bipush C dX1_countSeconds_89 (n := -6) (by decide) ⟨by decide, by decide⟩ ?_
                exact rd_iret C dX1_countSeconds_91 (Or.inr ⟨hw_4, by rw [hF, sp_sc_b (by omega) (fun h => h.elim (fun g => g hw_58) (fun g => h_75 g)) h_86], rfl⟩)
            · refine rd_goto C dX1_countSeconds_78 (tgt := 135) (by decide) ?_
              refine rd_iinc C dX1_countSeconds_135 (by decide) rfl ⟨by omega, by omega⟩ (L' := [rd_R 311, rd_R 1, rd_I (sp_pl μ (μ 58 0)), rd_I x, rd_I (c4 + 1), rd_R (5 + 5 * (μ 3 c4)), rd_I (sp_mo μ c4)]) rfl ?_
              refine rd_goto C dX1_countSeconds_138 (tgt := 30) (by decide) ?_
              exact ih (n' - 1) _ (c4 + 1) _ _ (by omega) (by omega) (by omega) (by rw [hF, sp_sc_a (by omega) (by first | exact Or.inl hw_58 | exact Or.inr h_75)])
          · rw [hv1, hm1]; clear hv1 hm1 v1 w1
            refine rd_astoreN C dX1_countSeconds_58 (by decide) (L' := [rd_R 311, rd_R 1, rd_I (sp_pl μ (μ 58 0)), rd_I x, rd_I c4, rd_N, j6]) rfl ?_
            refine rd_aload_n C dX1_countSeconds_60 rfl ?_
            refine rd_iload C dX1_countSeconds_61 rfl ?_
            refine rd_callS C (c_X1_movesOn hw ⟨by omega, by omega⟩) rm_X1_44 rt_X1_movesOn rc_X1_movesOn rz_X1 ⟨rp_X1_movesOn, rfl, rfl, by decide, by decide⟩ rfl dX1_countSeconds_63 rfl (Nat.le_of_ble_eq_true rfl) (fun v1 w1 hq => ?_)
            obtain ⟨hv1, hm1⟩ := hq; rw [show v1 = some (rd_I (sp_mo μ c4)) from hv1, hm1]; clear hv1 hm1
            refine rd_istore C dX1_countSeconds_66 (by decide) (L' := [rd_R 311, rd_R 1, rd_I (sp_pl μ (μ 58 0)), rd_I x, rd_I c4, rd_N, rd_I (sp_mo μ c4)]) rfl ?_
            refine rd_aload C dX1_countSeconds_68 rfl ?_
            refine rd_ifnull_n C dX1_countSeconds_70 (tgt := 135) (by decide) ?_
            refine rd_iinc C dX1_countSeconds_135 (by decide) rfl ⟨by omega, by omega⟩ (L' := [rd_R 311, rd_R 1, rd_I (sp_pl μ (μ 58 0)), rd_I x, rd_I (c4 + 1), rd_N, rd_I (sp_mo μ c4)]) rfl ?_
            refine rd_goto C dX1_countSeconds_138 (tgt := 30) (by decide) ?_
            exact ih (n' - 1) _ (c4 + 1) _ _ (by omega) (by omega) (by omega) (by rw [hF, sp_sc_a (by omega) (by first | exact Or.inl hw_58 | exact Or.inr h_75)])
    exact lp30 ((μ 2 0 - sp_pl μ (μ 58 0)).toNat + 1) (μ 2 0 - sp_pl μ (μ 58 0)).toNat 0 (sp_pl μ (μ 58 0)) _ _ (by omega) (by omega) (by omega) rfl
  · rw [hv1, hm1]; clear hv1 hm1 v1 w1
    refine rd_ifnonnull_n C dX1_countSeconds_4 ?_
    refine rd_bipush C dX1_countSeconds_7 (n := -6) (by decide) ⟨by decide, by decide⟩ ?_
    exact rd_iret C dX1_countSeconds_9 (Or.inl ⟨hw_4, rfl, rfl⟩)
set_option maxHeartbeats 4000000 in
set_option maxRecDepth 100000 in
theorem c_X9_movesLeft {l : Launch} {G : rd_G} {r : Nat} {μ : rd_Mem} (hI : sp_inv μ) : rd_M l G rd_kc 313 r yX9_movesLeft cX9_movesLeft 1 (some .int) (rd_rm 4 110) [rd_R 0] μ (fun v μ' => (¬ sp_th μ (μ 58 0) ∧ v = some (rd_I (-6)) ∧ μ' = μ) ∨ (sp_th μ (μ 58 0) ∧ v = some (rd_I (sp_sum (fun i => sp_mo μ (sp_pl μ (μ 58 0) + i)) (μ 2 0 - sp_pl μ (μ 58 0)).toNat)) ∧ μ' = μ)) := by
  refine rd_enter (by decide +kernel) (Nat.le_of_ble_eq_true rfl) [rd_R 0] rfl (fun p e s m args below meth c C => ?_)
  refine rd_W.rng (fun hM hL _ => ?_)
  refine rd_aload_n C dX9_movesLeft_0 rfl ?_
  refine rd_get C rd_g9_4 rf_X9_40 dX9_movesLeft_1 rd_b0 rd_k0 (x := rd_R (311)) rfl (fun _ => trivial) ?_
  refine rd_aload_n C dX9_movesLeft_4 rfl ?_
  refine rd_get C rd_g9_0 rf_X9_10 dX9_movesLeft_5 rd_b0 rd_k0 (x := rd_R (1)) rfl (fun _ => trivial) ?_
  refine rd_callV C (c_X1_countMoves hI.1 hI.2.2.2.2.2.1) rm_X9_265 ri_X1_countMoves rs_X1_countMoves rc_X1_countMoves rz_X1 ⟨rp_X1_countMoves, rfl, rfl, by decide, by decide⟩ rfl rd_kcl1 dX9_movesLeft_8 rd_b311 rd_k311 rfl (Nat.le_of_ble_eq_true rfl) (fun v1 w1 hq => ?_)
  rcases hq with ⟨hw_11, hv1, hm1⟩ | ⟨hw_11, hv1, hm1⟩
  · rw [hv1, hm1]; clear hv1 hm1 v1 w1
    exact rd_iret C dX9_movesLeft_11 (Or.inl ⟨hw_11, rfl, rfl⟩)
  · rw [hv1, hm1]; clear hv1 hm1 v1 w1
    exact rd_iret C dX9_movesLeft_11 (Or.inr ⟨hw_11, rfl, rfl⟩)
set_option maxHeartbeats 4000000 in
set_option maxRecDepth 100000 in
theorem c_X9_secondsLeft {l : Launch} {G : rd_G} {r : Nat} {μ : rd_Mem} (hI : sp_inv μ) : rd_M l G rd_kc 313 r yX9_secondsLeft cX9_secondsLeft 1 (some .int) (rd_rm 4 113) [rd_R 0] μ (fun v μ' => (¬ sp_th μ (μ 58 0) ∧ v = some (rd_I (-6)) ∧ μ' = μ) ∨ (sp_th μ (μ 58 0) ∧ v = some (rd_I (sp_sc μ (sp_pl μ (μ 58 0)) (μ 2 0 - sp_pl μ (μ 58 0)).toNat (sp_pl μ (μ 58 0)) 0)) ∧ μ' = μ)) := by
  refine rd_enter (by decide +kernel) (Nat.le_of_ble_eq_true rfl) [rd_R 0] rfl (fun p e s m args below meth c C => ?_)
  refine rd_W.rng (fun hM hL _ => ?_)
  refine rd_aload_n C dX9_secondsLeft_0 rfl ?_
  refine rd_get C rd_g9_4 rf_X9_40 dX9_secondsLeft_1 rd_b0 rd_k0 (x := rd_R (311)) rfl (fun _ => trivial) ?_
  refine rd_aload_n C dX9_secondsLeft_4 rfl ?_
  refine rd_get C rd_g9_0 rf_X9_10 dX9_secondsLeft_5 rd_b0 rd_k0 (x := rd_R (1)) rfl (fun _ => trivial) ?_
  refine rd_callV C (c_X1_countSeconds hI.1 hI.2.2.2.2.2.1) rm_X9_273 ri_X1_countSeconds rs_X1_countSeconds rc_X1_countSeconds rz_X1 ⟨rp_X1_countSeconds, rfl, rfl, by decide, by decide⟩ rfl rd_kcl1 dX9_secondsLeft_8 rd_b311 rd_k311 rfl (Nat.le_of_ble_eq_true rfl) (fun v1 w1 hq => ?_)
  rcases hq with ⟨hw_11, hv1, hm1⟩ | ⟨hw_11, hv1, hm1⟩
  · rw [hv1, hm1]; clear hv1 hm1 v1 w1
    exact rd_iret C dX9_secondsLeft_11 (Or.inl ⟨hw_11, rfl, rfl⟩)
  · rw [hv1, hm1]; clear hv1 hm1 v1 w1
    exact rd_iret C dX9_secondsLeft_11 (Or.inr ⟨hw_11, rfl, rfl⟩)

