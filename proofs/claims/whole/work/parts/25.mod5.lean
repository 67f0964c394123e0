set_option maxHeartbeats 4000000 in
set_option maxRecDepth 100000 in
theorem c_X10_addItem {l : Launch} {G : rd_G} {r : Nat} {μ : rd_Mem} (hI : mo_I μ) (hst : 0 ≤ μ 0 1 ∧ μ 0 1 ≤ 4) {x f0 l0 t0 : Int} : rd_M l G rd_km 5 r yX10_addItem cX10_addItem 7 (some .int) (rd_rm 2 44) [rd_R 0, rd_I x, rd_I f0, rd_I l0, rd_I t0] μ (fun v μ' => (¬ mo_t μ x ∧ v = some (rd_I (-1)) ∧ μ' = μ) ∨ ((mo_t μ x ∧ ¬ ((0 ≤ f0 ∧ f0 ≤ 9) ∧ (l0 = -1 ∨ (f0 ≤ l0 ∧ l0 ≤ 9)) ∧ (0 ≤ t0 ∧ t0 ≤ 99))) ∧ v = some (rd_I (-2)) ∧ μ' = μ) ∨ ((mo_t μ x ∧ ((0 ≤ f0 ∧ f0 ≤ 9) ∧ (l0 = -1 ∨ (f0 ≤ l0 ∧ l0 ≤ 9)) ∧ (0 ≤ t0 ∧ t0 ≤ 99)) ∧ mo_o μ x 3 = 6) ∧ v = some (rd_I (-4)) ∧ μ' = μ) ∨ ((mo_t μ x ∧ ((0 ≤ f0 ∧ f0 ≤ 9) ∧ (l0 = -1 ∨ (f0 ≤ l0 ∧ l0 ≤ 9)) ∧ (0 ≤ t0 ∧ t0 ≤ 99)) ∧ mo_o μ x 3 ≠ 6) ∧ v = some (rd_I (mo_o (mo_sv μ) x 3)) ∧ μ' = rd_u (rd_u (rd_u (rd_u (mo_sv μ) 1 (156 + 32 * x + (4 + 3 * (mo_o (mo_sv μ) x 3))) f0) 1 (156 + 32 * x + (4 + 3 * (mo_o (mo_sv μ) x 3) + 1)) l0) 1 (156 + 32 * x + (4 + 3 * (mo_o (mo_sv μ) x 3) + 2)) t0) 1 (156 + 32 * x + 3) (mo_o (mo_sv μ) x 3 + 1))) := by
  refine rd_enter (by decide +kernel) (Nat.le_of_ble_eq_true rfl) [rd_R 0, rd_I x, rd_I f0, rd_I l0, rd_I t0, rd_J, rd_J] rfl (fun p e s m args below meth c C => ?_)
  refine rd_W.rng (fun hM hL _ => ?_)
  have hc := hI.1.1
  have hc1 := hc.1.1
  have hc2 := hc.1.2
  have hn1 := hI.1.2.2.2.1
  have hn2 := hI.1.2.2.2.2
  refine rd_aload_n C dX10_addItem_0 rfl ?_
  refine rd_iload_n C dX10_addItem_1 rfl ?_
  refine rd_callV C (c_X10_isSlide) rm_X10_30 ri_X10_isSlide rs_X10_isSlide rc_X10_isSlide rz_X10 ⟨rp_X10_isSlide, rfl, rfl, by decide, by decide⟩ rfl rd_kcl10 dX10_addItem_2 rd_c0 rd_m0 rfl (Nat.le_of_ble_eq_true rfl) (fun v1 w1 hq => ?_)
  rcases hq with ⟨hw_5, hv1, hm1⟩ | ⟨hw_5, hv1, hm1⟩
  · rw [hv1, hm1]; clear hv1 hm1 v1 w1
    refine rd_if_ne C dX10_addItem_5 (tgt := 10) (by decide) (fun _ => ?_) (fun h => absurd h (by decide))
    refine rd_iload_n C dX10_addItem_10 rfl ?_
    refine rd_iconst C dX10_addItem_11 (n := -1) ⟨by decide, by decide⟩ ?_
    refine rd_icmp_eq C dX10_addItem_12 (tgt := 25) (by decide) (fun h_12 => ?_) (fun h_12 => ?_)
    · refine rd_iconst C dX10_addItem_25 (n := 1) ⟨by decide, by decide⟩ ?_
      refine rd_goto C dX10_addItem_26 (tgt := 30) (by decide) ?_
      refine rd_istore C dX10_addItem_30 (by decide) (L' := [rd_R 0, rd_I x, rd_I f0, rd_I l0, rd_I t0, rd_I 1, rd_J]) rfl ?_
      refine rd_iload_n C dX10_addItem_32 rfl ?_
      refine rd_iconst C dX10_addItem_33 (n := 0) ⟨by decide, by decide⟩ ?_
      refine rd_bipush C dX10_addItem_34 (n := 9) (by decide) ⟨by decide, by decide⟩ ?_
      refine rd_callS C (c_X10_in) rm_X10_22 rt_X10_in rc_X10_in rz_X10 ⟨rp_X10_in, rfl, rfl, by decide, by decide⟩ rfl dX10_addItem_36 rfl (Nat.le_of_ble_eq_true rfl) (fun v1 w1 hq => ?_)
      rcases hq with ⟨hw_39, hv1, hm1⟩ | ⟨hw_39, hv1, hm1⟩
      · rw [hv1, hm1]; clear hv1 hm1 v1 w1
        refine rd_if_eq C dX10_addItem_39 (tgt := 58) (by decide) (fun h => absurd h (by decide)) (fun _ => ?_)
        refine rd_iload C dX10_addItem_42 rfl ?_
        refine rd_if_eq C dX10_addItem_44 (tgt := 58) (by decide) (fun h => absurd h (by decide)) (fun _ => ?_)
        refine rd_iload C dX10_addItem_47 rfl ?_
        refine rd_iconst C dX10_addItem_49 (n := 0) ⟨by decide, by decide⟩ ?_
        refine rd_bipush C dX10_addItem_50 (n := 99) (by decide) ⟨by decide, by decide⟩ ?_
        refine rd_callS C (c_X10_in) rm_X10_22 rt_X10_in rc_X10_in rz_X10 ⟨rp_X10_in, rfl, rfl, by decide, by decide⟩ rfl dX10_addItem_52 rfl (Nat.le_of_ble_eq_true rfl) (fun v1 w1 hq => ?_)
        rcases hq with ⟨hw_55, hv1, hm1⟩ | ⟨hw_55, hv1, hm1⟩
        · rw [hv1, hm1]; clear hv1 hm1 v1 w1
          refine rd_if_ne C dX10_addItem_55 (tgt := 61) (by decide) (fun _ => ?_) (fun h => absurd h (by decide))
          refine rd_aload_n C dX10_addItem_61 rfl ?_
          refine rd_iload_n C dX10_addItem_62 rfl ?_
          refine rd_iconst C dX10_addItem_63 (n := 3) ⟨by decide, by decide⟩ ?_
          refine rd_callV C (c_X10_of (i := x) (q := 3) (by first | exact htr | exact hw_5.1 | exact hw_6.1.1) ⟨by omega, by omega⟩) rm_X10_26 ri_X10_of rs_X10_of rc_X10_of rz_X10 ⟨rp_X10_of, rfl, rfl, by decide, by decide⟩ rfl rd_kcl10 dX10_addItem_64 rd_c0 rd_m0 rfl (Nat.le_of_ble_eq_true rfl) (fun v1 w1 hq => ?_)
          obtain ⟨hv1, hm1⟩ := hq; rw [show v1 = some (rd_I (mo_o μ x 3)) from hv1, hm1]; clear hv1 hm1
          refine rd_bipush C dX10_addItem_67 (n := 6) (by decide) ⟨by decide, by decide⟩ ?_
          refine rd_icmp_ne C dX10_addItem_69 (tgt := 75) (by decide) (fun h_69 => ?_) (fun h_69 => ?_)
          · refine rd_aload_n C dX10_addItem_75 rfl ?_
            refine rd_callV C (c_X10_save hst) rm_X10_76 ri_X10_save rs_X10_save rc_X10_save rz_X10 ⟨rp_X10_save, rfl, rfl, by decide, by decide⟩ rfl rd_kcl10 dX10_addItem_76 rd_c0 rd_m0 rfl (Nat.le_of_ble_eq_true rfl) (fun v1 w1 hq => ?_)
            obtain ⟨hv1, hm1⟩ := hq; rw [hv1, show w1 = mo_sv μ from hm1]; clear hv1 hm1
            have hIs := mo_sv_I hst hI
            have hcs := hIs.1.1
            have hcs1 := hcs.1.1
            have hcs2 := hcs.1.2
            have hns1 := hIs.1.2.2.2.1
            have hns2 := hIs.1.2.2.2.2
            have hts := (mo_sv_t hst (n := x)).mpr hw_5
            have htr := hts.1
            have hits := (hIs.1.2.1 _ hts).1
            have hits1 := hits.1.1
            have hits2 := hits.1.2
            have hpos := (hIs.1.2.1 _ hts).2
            have hr3 : mo_o (mo_sv μ) x 3 = mo_o μ x 3 := mo_sv_lo hst (by omega)
            refine rd_aload_n C dX10_addItem_79 rfl ?_
            refine rd_iload_n C dX10_addItem_80 rfl ?_
            refine rd_iconst C dX10_addItem_81 (n := 3) ⟨by decide, by decide⟩ ?_
            refine rd_callV C (c_X10_of (i := x) (q := 3) (by first | exact htr | exact hw_5.1 | exact hw_6.1.1) ⟨by omega, by omega⟩) rm_X10_26 ri_X10_of rs_X10_of rc_X10_of rz_X10 ⟨rp_X10_of, rfl, rfl, by decide, by decide⟩ rfl rd_kcl10 dX10_addItem_82 rd_c0 rd_m0 rfl (Nat.le_of_ble_eq_true rfl) (fun v1 w1 hq => ?_)
            obtain ⟨hv1, hm1⟩ := hq; rw [show v1 = some (rd_I (mo_o (mo_sv μ) x 3)) from hv1, hm1]; clear hv1 hm1
            refine rd_istore C dX10_addItem_85 (by decide) (L' := [rd_R 0, rd_I x, rd_I f0, rd_I l0, rd_I t0, rd_I 1, rd_I (mo_o (mo_sv μ) x 3)]) rfl ?_
            refine rd_aload_n C dX10_addItem_87 rfl ?_
            refine rd_iload_n C dX10_addItem_88 rfl ?_
            refine rd_iconst C dX10_addItem_89 (n := 4) ⟨by decide, by decide⟩ ?_
            refine rd_iconst C dX10_addItem_90 (n := 3) ⟨by decide, by decide⟩ ?_
            refine rd_iload C dX10_addItem_91 rfl ?_
            refine rd_imul C dX10_addItem_93 (z := 3 * (mo_o (mo_sv μ) x 3)) rfl ⟨by omega, by omega⟩ ?_
            refine rd_iadd C dX10_addItem_94 (z := 4 + 3 * (mo_o (mo_sv μ) x 3)) rfl ⟨by omega, by omega⟩ ?_
            refine rd_iload_n C dX10_addItem_95 rfl ?_
            refine rd_callV C (c_X10_lay htr ⟨by omega, by omega⟩) rm_X10_79 ri_X10_lay rs_X10_lay rc_X10_lay rz_X10 ⟨rp_X10_lay, rfl, rfl, by decide, by decide⟩ rfl rd_kcl10 dX10_addItem_96 rd_c0 rd_m0 rfl (Nat.le_of_ble_eq_true rfl) (fun v1 w1 hq => ?_)
            obtain ⟨hv1, hm1⟩ := hq; rw [hv1, show w1 = rd_u (mo_sv μ) 1 (156 + 32 * x + (4 + 3 * (mo_o (mo_sv μ) x 3))) f0 from hm1]; clear hv1 hm1
            refine rd_aload_n C dX10_addItem_99 rfl ?_
            refine rd_iload_n C dX10_addItem_100 rfl ?_
            refine rd_iconst C dX10_addItem_101 (n := 4) ⟨by decide, by decide⟩ ?_
            refine rd_iconst C dX10_addItem_102 (n := 3) ⟨by decide, by decide⟩ ?_
            refine rd_iload C dX10_addItem_103 rfl ?_
            refine rd_imul C dX10_addItem_105 (z := 3 * (mo_o (mo_sv μ) x 3)) rfl ⟨by omega, by omega⟩ ?_
            refine rd_iadd C dX10_addItem_106 (z := 4 + 3 * (mo_o (mo_sv μ) x 3)) rfl ⟨by omega, by omega⟩ ?_
            refine rd_iconst C dX10_addItem_107 (n := 1) ⟨by decide, by decide⟩ ?_
            refine rd_iadd C dX10_addItem_108 (z := 4 + 3 * (mo_o (mo_sv μ) x 3) + 1) rfl ⟨by omega, by omega⟩ ?_
            refine rd_iload_n C dX10_addItem_109 rfl ?_
            refine rd_callV C (c_X10_lay htr ⟨by omega, by omega⟩) rm_X10_79 ri_X10_lay rs_X10_lay rc_X10_lay rz_X10 ⟨rp_X10_lay, rfl, rfl, by decide, by decide⟩ rfl rd_kcl10 dX10_addItem_110 rd_c0 rd_m0 rfl (Nat.le_of_ble_eq_true rfl) (fun v1 w1 hq => ?_)
            obtain ⟨hv1, hm1⟩ := hq; rw [hv1, show w1 = rd_u (rd_u (mo_sv μ) 1 (156 + 32 * x + (4 + 3 * (mo_o (mo_sv μ) x 3))) f0) 1 (156 + 32 * x + (4 + 3 * (mo_o (mo_sv μ) x 3) + 1)) l0 from hm1]; clear hv1 hm1
            refine rd_aload_n C dX10_addItem_113 rfl ?_
            refine rd_iload_n C dX10_addItem_114 rfl ?_
            refine rd_iconst C dX10_addItem_115 (n := 4) ⟨by decide, by decide⟩ ?_
            refine rd_iconst C dX10_addItem_116 (n := 3) ⟨by decide, by decide⟩ ?_
            refine rd_iload C dX10_addItem_117 rfl ?_
            refine rd_imul C dX10_addItem_119 (z := 3 * (mo_o (mo_sv μ) x 3)) rfl ⟨by omega, by omega⟩ ?_
            refine rd_iadd C dX10_addItem_120 (z := 4 + 3 * (mo_o (mo_sv μ) x 3)) rfl ⟨by omega, by omega⟩ ?_
            refine rd_iconst C dX10_addItem_121 (n := 2) ⟨by decide, by decide⟩ ?_
            refine rd_iadd C dX10_addItem_122 (z := 4 + 3 * (mo_o (mo_sv μ) x 3) + 2) rfl ⟨by omega, by omega⟩ ?_
            refine rd_iload C dX10_addItem_123 rfl ?_
            refine rd_callV C (c_X10_lay htr ⟨by omega, by omega⟩) rm_X10_79 ri_X10_lay rs_X10_lay rc_X10_lay rz_X10 ⟨rp_X10_lay, rfl, rfl, by decide, by decide⟩ rfl rd_kcl10 dX10_addItem_125 rd_c0 rd_m0 rfl (Nat.le_of_ble_eq_true rfl) (fun v1 w1 hq => ?_)
            obtain ⟨hv1, hm1⟩ := hq; rw [hv1, show w1 = rd_u (rd_u (rd_u (mo_sv μ) 1 (156 + 32 * x + (4 + 3 * (mo_o (mo_sv μ) x 3))) f0) 1 (156 + 32 * x + (4 + 3 * (mo_o (mo_sv μ) x 3) + 1)) l0) 1 (156 + 32 * x + (4 + 3 * (mo_o (mo_sv μ) x 3) + 2)) t0 from hm1]; clear hv1 hm1
            refine rd_aload_n C dX10_addItem_128 rfl ?_
            refine rd_iload_n C dX10_addItem_129 rfl ?_
            refine rd_iconst C dX10_addItem_130 (n := 3) ⟨by decide, by decide⟩ ?_
            refine rd_iload C dX10_addItem_131 rfl ?_
            refine rd_iconst C dX10_addItem_133 (n := 1) ⟨by decide, by decide⟩ ?_
            refine rd_iadd C dX10_addItem_134 (z := mo_o (mo_sv μ) x 3 + 1) rfl ⟨by omega, by omega⟩ ?_
            refine rd_callV C (c_X10_lay htr ⟨by omega, by omega⟩) rm_X10_79 ri_X10_lay rs_X10_lay rc_X10_lay rz_X10 ⟨rp_X10_lay, rfl, rfl, by decide, by decide⟩ rfl rd_kcl10 dX10_addItem_135 rd_c0 rd_m0 rfl (Nat.le_of_ble_eq_true rfl) (fun v1 w1 hq => ?_)
            obtain ⟨hv1, hm1⟩ := hq; rw [hv1, show w1 = rd_u (rd_u (rd_u (rd_u (mo_sv μ) 1 (156 + 32 * x + (4 + 3 * (mo_o (mo_sv μ) x 3))) f0) 1 (156 + 32 * x + (4 + 3 * (mo_o (mo_sv μ) x 3) + 1)) l0) 1 (156 + 32 * x + (4 + 3 * (mo_o (mo_sv μ) x 3) + 2)) t0) 1 (156 + 32 * x + 3) (mo_o (mo_sv μ) x 3 + 1) from hm1]; clear hv1 hm1
            refine rd_iload C dX10_addItem_138 rfl ?_
            exact rd_iret C dX10_addItem_140 (Or.inr (Or.inr (Or.inr (⟨⟨hw_5, by omega, h_69⟩, rfl, rfl⟩))))
          · refine rd_bipush C dX10_addItem_72 (n := -4) (by decide) ⟨by decide, by decide⟩ ?_
            exact rd_iret C dX10_addItem_74 (Or.inr (Or.inr (Or.inl ⟨⟨hw_5, by omega, h_69⟩, rfl, rfl⟩)))
        · rw [hv1, hm1]; clear hv1 hm1 v1 w1
          refine rd_if_ne C dX10_addItem_55 (tgt := 61) (by decide) (fun h => absurd h (by decide)) (fun _ => ?_)
          refine rd_bipush C dX10_addItem_58 (n := -2) (by decide) ⟨by decide, by decide⟩ ?_
          exact rd_iret C dX10_addItem_60 (Or.inr (Or.inl ⟨⟨hw_5, by omega⟩, rfl, rfl⟩))
      · rw [hv1, hm1]; clear hv1 hm1 v1 w1
        refine rd_if_eq C dX10_addItem_39 (tgt := 58) (by decide) (fun _ => ?_) (fun h => absurd h (by decide))
        refine rd_bipush C dX10_addItem_58 (n := -2) (by decide) ⟨by decide, by decide⟩ ?_
        exact rd_iret C dX10_addItem_60 (Or.inr (Or.inl ⟨⟨hw_5, by omega⟩, rfl, rfl⟩))
    · refine rd_iload_n C dX10_addItem_15 rfl ?_
      refine rd_iload_n C dX10_addItem_16 rfl ?_
      refine rd_bipush C dX10_addItem_17 (n := 9) (by decide) ⟨by decide, by decide⟩ ?_
      refine rd_callS C (c_X10_in) rm_X10_22 rt_X10_in rc_X10_in rz_X10 ⟨rp_X10_in, rfl, rfl, by decide, by decide⟩ rfl dX10_addItem_19 rfl (Nat.le_of_ble_eq_true rfl) (fun v1 w1 hq => ?_)
      rcases hq with ⟨hw_22, hv1, hm1⟩ | ⟨hw_22, hv1, hm1⟩
      · rw [hv1, hm1]; clear hv1 hm1 v1 w1
        refine rd_if_eq C dX10_addItem_22 (tgt := 29) (by decide) (fun h => absurd h (by decide)) (fun _ => ?_)
        refine rd_iconst C dX10_addItem_25 (n := 1) ⟨by decide, by decide⟩ ?_
        refine rd_goto C dX10_addItem_26 (tgt := 30) (by decide) ?_
        refine rd_istore C dX10_addItem_30 (by decide) (L' := [rd_R 0, rd_I x, rd_I f0, rd_I l0, rd_I t0, rd_I 1, rd_J]) rfl ?_
        refine rd_iload_n C dX10_addItem_32 rfl ?_
        refine rd_iconst C dX10_addItem_33 (n := 0) ⟨by decide, by decide⟩ ?_
        refine rd_bipush C dX10_addItem_34 (n := 9) (by decide) ⟨by decide, by decide⟩ ?_
        refine rd_callS C (c_X10_in) rm_X10_22 rt_X10_in rc_X10_in rz_X10 ⟨rp_X10_in, rfl, rfl, by decide, by decide⟩ rfl dX10_addItem_36 rfl (Nat.le_of_ble_eq_true rfl) (fun v1 w1 hq => ?_)
        rcases hq with ⟨hw_39, hv1, hm1⟩ | ⟨hw_39, hv1, hm1⟩
        · rw [hv1, hm1]; clear hv1 hm1 v1 w1
          refine rd_if_eq C dX10_addItem_39 (tgt := 58) (by decide) (fun h => absurd h (by decide)) (fun _ => ?_)
          refine rd_iload C dX10_addItem_42 rfl ?_
          refine rd_if_eq C dX10_addItem_44 (tgt := 58) (by decide) (fun h => absurd h (by decide)) (fun _ => ?_)
          refine rd_iload C dX10_addItem_47 rfl ?_
          refine rd_iconst C dX10_addItem_49 (n := 0) ⟨by decide, by decide⟩ ?_
          refine rd_bipush C dX10_addItem_50 (n := 99) (by decide) ⟨by decide, by decide⟩ ?_
          refine rd_callS C (c_X10_in) rm_X10_22 rt_X10_in rc_X10_in rz_X10 ⟨rp_X10_in, rfl, rfl, by decide, by decide⟩ rfl dX10_addItem_52 rfl (Nat.le_of_ble_eq_true rfl) (fun v1 w1 hq => ?_)
          rcases hq with ⟨hw_55, hv1, hm1⟩ | ⟨hw_55, hv1, hm1⟩
          · rw [hv1, hm1]; clear hv1 hm1 v1 w1
            refine rd_if_ne C dX10_addItem_55 (tgt := 61) (by decide) (fun _ => ?_) (fun h => absurd h (by decide))
            refine rd_aload_n C dX10_addItem_61 rfl ?_
            refine rd_iload_n C dX10_addItem_62 rfl ?_
            refine rd_iconst C dX10_addItem_63 (n := 3) ⟨by decide, by decide⟩ ?_
            refine rd_callV C (c_X10_of (i := x) (q := 3) (by first | exact htr | exact hw_5.1 | exact hw_6.1.1) ⟨by omega, by omega⟩) rm_X10_26 ri_X10_of rs_X10_of rc_X10_of rz_X10 ⟨rp_X10_of, rfl, rfl, by decide, by decide⟩ rfl rd_kcl10 dX10_addItem_64 rd_c0 rd_m0 rfl (Nat.le_of_ble_eq_true rfl) (fun v1 w1 hq => ?_)
            obtain ⟨hv1, hm1⟩ := hq; rw [show v1 = some (rd_I (mo_o μ x 3)) from hv1, hm1]; clear hv1 hm1
            refine rd_bipush C dX10_addItem_67 (n := 6) (by decide) ⟨by decide, by decide⟩ ?_
            refine rd_icmp_ne C dX10_addItem_69 (tgt := 75) (by decide) (fun h_69 => ?_) (fun h_69 => ?_)
            · refine rd_aload_n C dX10_addItem_75 rfl ?_
              refine rd_callV C (c_X10_save hst) rm_X10_76 ri_X10_save rs_X10_save rc_X10_save rz_X10 ⟨rp_X10_save, rfl, rfl, by decide, by decide⟩ rfl rd_kcl10 dX10_addItem_76 rd_c0 rd_m0 rfl (Nat.le_of_ble_eq_true rfl) (fun v1 w1 hq => ?_)
              obtain ⟨hv1, hm1⟩ := hq; rw [hv1, show w1 = mo_sv μ from hm1]; clear hv1 hm1
              have hIs := mo_sv_I hst hI
              have hcs := hIs.1.1
              have hcs1 := hcs.1.1
              have hcs2 := hcs.1.2
              have hns1 := hIs.1.2.2.2.1
              have hns2 := hIs.1.2.2.2.2
              have hts := (mo_sv_t hst (n := x)).mpr hw_5
              have htr := hts.1
              have hits := (hIs.1.2.1 _ hts).1
              have hits1 := hits.1.1
              have hits2 := hits.1.2
              have hpos := (hIs.1.2.1 _ hts).2
              have hr3 : mo_o (mo_sv μ) x 3 = mo_o μ x 3 := mo_sv_lo hst (by omega)
              refine rd_aload_n C dX10_addItem_79 rfl ?_
              refine rd_iload_n C dX10_addItem_80 rfl ?_
              refine rd_iconst C dX10_addItem_81 (n := 3) ⟨by decide, by decide⟩ ?_
              refine rd_callV C (c_X10_of (i := x) (q := 3) (by first | exact htr | exact hw_5.1 | exact hw_6.1.1) ⟨by omega, by omega⟩) rm_X10_26 ri_X10_of rs_X10_of rc_X10_of rz_X10 ⟨rp_X10_of, rfl, rfl, by decide, by decide⟩ rfl rd_kcl10 dX10_addItem_82 rd_c0 rd_m0 rfl (Nat.le_of_ble_eq_true rfl) (fun v1 w1 hq => ?_)
              obtain ⟨hv1, hm1⟩ := hq; rw [show v1 = some (rd_I (mo_o (mo_sv μ) x 3)) from hv1, hm1]; clear hv1 hm1
              refine rd_istore C dX10_addItem_85 (by decide) (L' := [rd_R 0, rd_I x, rd_I f0, rd_I l0, rd_I t0, rd_I 1, rd_I (mo_o (mo_sv μ) x 3)]) rfl ?_
              refine rd_aload_n C dX10_addItem_87 rfl ?_
              refine rd_iload_n C dX10_addItem_88 rfl ?_
              refine rd_iconst C dX10_addItem_89 (n := 4) ⟨by decide, by decide⟩ ?_
              refine rd_iconst C dX10_addItem_90 (n := 3) ⟨by decide, by decide⟩ ?_
              refine rd_iload C dX10_addItem_91 rfl ?_
              refine rd_imul C dX10_addItem_93 (z := 3 * (mo_o (mo_sv μ) x 3)) rfl ⟨by omega, by omega⟩ ?_
              refine rd_iadd C dX10_addItem_94 (z := 4 + 3 * (mo_o (mo_sv μ) x 3)) rfl ⟨by omega, by omega⟩ ?_
              refine rd_iload_n C dX10_addItem_95 rfl ?_
              refine rd_callV C (c_X10_lay htr ⟨by omega, by omega⟩) rm_X10_79 ri_X10_lay rs_X10_lay rc_X10_lay rz_X10 ⟨rp_X10_lay, rfl, rfl, by decide, by decide⟩ rfl rd_kcl10 dX10_addItem_96 rd_c0 rd_m0 rfl (Nat.le_of_ble_eq_true rfl) (fun v1 w1 hq => ?_)
              obtain ⟨hv1, hm1⟩ := hq; rw [hv1, show w1 = rd_u (mo_sv μ) 1 (156 + 32 * x + (4 + 3 * (mo_o (mo_sv μ) x 3))) f0 from hm1]; clear hv1 hm1
              refine rd_aload_n C dX10_addItem_99 rfl ?_
              refine rd_iload_n C dX10_addItem_100 rfl ?_
              refine rd_iconst C dX10_addItem_101 (n := 4) ⟨by decide, by decide⟩ ?_
              refine rd_iconst C dX10_addItem_102 (n := 3) ⟨by decide, by decide⟩ ?_
              refine rd_iload C dX10_addItem_103 rfl ?_
              refine rd_imul C dX10_addItem_105 (z := 3 * (mo_o (mo_sv μ) x 3)) rfl ⟨by omega, by omega⟩ ?_
              refine rd_iadd C dX10_addItem_106 (z := 4 + 3 * (mo_o (mo_sv μ) x 3)) rfl ⟨by omega, by omega⟩ ?_
              refine rd_iconst C dX10_addItem_107 (n := 1) ⟨by decide, by decide⟩ ?_
              refine rd_iadd C dX10_addItem_108 (z := 4 + 3 * (mo_o (mo_sv μ) x 3) + 1) rfl ⟨by omega, by omega⟩ ?_
              refine rd_iload_n C dX10_addItem_109 rfl ?_
              refine rd_callV C (c_X10_lay htr ⟨by omega, by omega⟩) rm_X10_79 ri_X10_lay rs_X10_lay rc_X10_lay rz_X10 ⟨rp_X10_lay, rfl, rfl, by decide, by decide⟩ rfl rd_kcl10 dX10_addItem_110 rd_c0 rd_m0 rfl (Nat.le_of_ble_eq_true rfl) (fun v1 w1 hq => ?_)
              obtain ⟨hv1, hm1⟩ := hq; rw [hv1, show w1 = rd_u (rd_u (mo_sv μ) 1 (156 + 32 * x + (4 + 3 * (mo_o (mo_sv μ) x 3))) f0) 1 (156 + 32 * x + (4 + 3 * (mo_o (mo_sv μ) x 3) + 1)) l0 from hm1]; clear hv1 hm1
              refine rd_aload_n C dX10_addItem_113 rfl ?_
              refine rd_iload_n C dX10_addItem_114 rfl ?_
              refine rd_iconst C dX10_addItem_115 (n := 4) ⟨by decide, by decide⟩ ?_
              refine rd_iconst C dX10_addItem_116 (n := 3) ⟨by decide, by decide⟩ ?_
              refine rd_iload C dX10_addItem_117 rfl ?_
              refine rd_imul C dX10_addItem_119 (z := 3 * (mo_o (mo_sv μ) x 3)) rfl ⟨by omega, by omega⟩ ?_
              refine rd_iadd C dX10_addItem_120 (z := 4 + 3 * (mo_o (mo_sv μ) x 3)) rfl ⟨by omega, by omega⟩ ?_
              refine rd_iconst C dX10_addItem_121 (n := 2) ⟨by decide, by decide⟩ ?_
              refine rd_iadd C dX10_addItem_122 (z := 4 + 3 * (mo_o (mo_sv μ) x 3) + 2) rfl ⟨by omega, by omega⟩ ?_
              refine rd_iload C dX10_addItem_123 rfl ?_
              refine rd_callV C (c_X10_lay htr ⟨by omega, by omega⟩) rm_X10_79 ri_X10_lay rs_X10_lay rc_X10_lay rz_X10 ⟨rp_X10_lay, rfl, rfl, by decide, by decide⟩ rfl rd_kcl10 dX10_addItem_125 rd_c0 rd_m0 rfl (Nat.le_of_ble_eq_true rfl) (fun v1 w1 hq => ?_)
              obtain ⟨hv1, hm1⟩ := hq; rw [hv1, show w1 = rd_u (rd_u (rd_u (mo_sv μ) 1 (156 + 32 * x + (4 + 3 * (mo_o (mo_sv μ) x 3))) f0) 1 (156 + 32 * x + (4 + 3 * (mo_o (mo_sv μ) x 3) + 1)) l0) 1 (156 + 32 * x + (4 + 3 * (mo_o (mo_sv μ) x 3) + 2)) t0 from hm1]; clear hv1 hm1
              refine rd_aload_n C dX10_addItem_128 rfl ?_
              refine rd_iload_n C dX10_addItem_129 rfl ?_
              refine rd_iconst C dX10_addItem_130 (n := 3) ⟨by decide, by decide⟩ ?_
              refine rd_iload C dX10_addItem_131 rfl ?_
              refine rd_iconst C dX10_addItem_133 (n := 1) ⟨by decide, by decide⟩ ?_
              refine rd_iadd C dX10_addItem_134 (z := mo_o (mo_sv μ) x 3 + 1) rfl ⟨by omega, by omega⟩ ?_
              refine rd_callV C (c_X10_lay htr ⟨by omega, by omega⟩) rm_X10_79 ri_X10_lay rs_X10_lay rc_X10_lay rz_X10 ⟨rp_X10_lay, rfl, rfl, by decide, by decide⟩ rfl rd_kcl10 dX10_addItem_135 rd_c0 rd_m0 rfl (Nat.le_of_ble_eq_true rfl) (fun v1 w1 hq => ?_)
              obtain ⟨hv1, hm1⟩ := hq; rw [hv1, show w1 = rd_u (rd_u (rd_u (rd_u (mo_sv μ) 1 (156 + 32 * x + (4 + 3 * (mo_o (mo_sv μ) x 3))) f0) 1 (156 + 32 * x + (4 + 3 * (mo_o (mo_sv μ) x 3) + 1)) l0) 1 (156 + 32 * x + (4 + 3 * (mo_o (mo_sv μ) x 3) + 2)) t0) 1 (156 + 32 * x + 3) (mo_o (mo_sv μ) x 3 + 1) from hm1]; clear hv1 hm1
              refine rd_iload C dX10_addItem_138 rfl ?_
              exact rd_iret C dX10_addItem_140 (Or.inr (Or.inr (Or.inr (⟨⟨hw_5, by omega, h_69⟩, rfl, rfl⟩))))
            · refine rd_bipush C dX10_addItem_72 (n := -4) (by decide) ⟨by decide, by decide⟩ ?_
              exact rd_iret C dX10_addItem_74 (Or.inr (Or.inr (Or.inl ⟨⟨hw_5, by omega, h_69⟩, rfl, rfl⟩)))
          · rw [hv1, hm1]; clear hv1 hm1 v1 w1
            refine rd_if_ne C dX10_addItem_55 (tgt := 61) (by decide) (fun h => absurd h (by decide)) (fun _ => ?_)
            refine rd_bipush C dX10_addItem_58 (n := -2) (by decide) ⟨by decide, by decide⟩ ?_
            exact rd_iret C dX10_addItem_60 (Or.inr (Or.inl ⟨⟨hw_5, by omega⟩, rfl, rfl⟩))
        · rw [hv1, hm1]; clear hv1 hm1 v1 w1
          refine rd_if_eq C dX10_addItem_39 (tgt := 58) (by decide) (fun _ => ?_) (fun h => absurd h (by decide))
          refine rd_bipush C dX10_addItem_58 (n := -2) (by decide) ⟨by decide, by decide⟩ ?_
          exact rd_iret C dX10_addItem_60 (Or.inr (Or.inl ⟨⟨hw_5, by omega⟩, rfl, rfl⟩))
      · rw [hv1, hm1]; clear hv1 hm1 v1 w1
        refine rd_if_eq C dX10_addItem_22 (tgt := 29) (by decide) (fun _ => ?_) (fun h => absurd h (by decide))
        refine rd_iconst C dX10_addItem_29 (n := 0) ⟨by decide, by decide⟩ ?_
        refine rd_istore C dX10_addItem_30 (by decide) (L' := [rd_R 0, rd_I x, rd_I f0, rd_I l0, rd_I t0, rd_I 0, rd_J]) rfl ?_
        refine rd_iload_n C dX10_addItem_32 rfl ?_
        refine rd_iconst C dX10_addItem_33 (n := 0) ⟨by decide, by decide⟩ ?_
        refine rd_bipush C dX10_addItem_34 (n := 9) (by decide) ⟨by decide, by decide⟩ ?_
        refine rd_callS C (c_X10_in) rm_X10_22 rt_X10_in rc_X10_in rz_X10 ⟨rp_X10_in, rfl, rfl, by decide, by decide⟩ rfl dX10_addItem_36 rfl (Nat.le_of_ble_eq_true rfl) (fun v1 w1 hq => ?_)
        rcases hq with ⟨hw_39, hv1, hm1⟩ | ⟨hw_39, hv1, hm1⟩
        · rw [hv1, hm1]; clear hv1 hm1 v1 w1
          refine rd_if_eq C dX10_addItem_39 (tgt := 58) (by decide) (fun h => absurd h (by decide)) (fun _ => ?_)
          refine rd_iload C dX10_addItem_42 rfl ?_
          refine rd_if_eq C dX10_addItem_44 (tgt := 58) (by decide) (fun _ => ?_) (fun h => absurd h (by decide))
          refine rd_bipush C dX10_addItem_58 (n := -2) (by decide) ⟨by decide, by decide⟩ ?_
          exact rd_iret C dX10_addItem_60 (Or.inr (Or.inl ⟨⟨hw_5, by omega⟩, rfl, rfl⟩))
        · rw [hv1, hm1]; clear hv1 hm1 v1 w1
          refine rd_if_eq C dX10_addItem_39 (tgt := 58) (by decide) (fun _ => ?_) (fun h => absurd h (by decide))
          refine rd_bipush C dX10_addItem_58 (n := -2) (by decide) ⟨by decide, by decide⟩ ?_
          exact rd_iret C dX10_addItem_60 (Or.inr (Or.inl ⟨⟨hw_5, by omega⟩, rfl, rfl⟩))
  · rw [hv1, hm1]; clear hv1 hm1 v1 w1
    refine rd_if_ne C dX10_addItem_5 (tgt := 10) (by decide) (fun h => absurd h (by decide)) (fun _ => ?_)
    refine rd_iconst C dX10_addItem_8 (n := -1) ⟨by decide, by decide⟩ ?_
    exact rd_iret C dX10_addItem_9 (Or.inl ⟨hw_5, rfl, rfl⟩)
def mo_dk (ν : rd_Mem) (x q k : Int) : rd_Mem := fun a b => if a = 1 ∧ (156 + 32 * x + 4 + 3 * q ≤ b ∧ b < 156 + 32 * x + 4 + k) then ν 1 (b + 3) else ν a b
def mo_di (ν : rd_Mem) (x q : Int) : rd_Mem := rd_u (mo_dk ν x q (3 * (mo_o ν x 3 - 1))) 1 (156 + 32 * x + 3) (mo_o ν x 3 - 1)
theorem mo_di_it {ν : rd_Mem} {x q : Int} (hx : 0 ≤ x ∧ x ≤ 9) (hi : mo_it ν x) (hq : 0 ≤ q ∧ q ≤ mo_o ν x 3 - 1) : mo_it (mo_di ν x q) x := by
  obtain ⟨⟨h1, h2⟩, h3⟩ := hi
  have e3 : mo_o (mo_di ν x q) x 3 = mo_o ν x 3 - 1 := rd_u_s _ _ _ _
  have e : ∀ i c : Int, 0 ≤ i → i < mo_o ν x 3 - 1 → 0 ≤ c ∧ c ≤ 2 → mo_di ν x q 1 (156 + 32 * x + (4 + 3 * i + c)) = ν 1 (156 + 32 * x + (4 + 3 * (if q ≤ i then i + 1 else i) + c)) := by
    intro i c i0 i1 hc
    unfold mo_di
    rw [rd_u_j _ _ _ (by omega)]
    unfold mo_dk
    by_cases hqi : q ≤ i
    · rw [if_pos hqi, if_pos ⟨rfl, by omega, by omega⟩]; congr 1; omega
    · rw [if_neg hqi, if_neg (by omega)]
  refine ⟨⟨by rw [e3]; omega, by rw [e3]; omega⟩, fun i i0 i1 => ?_⟩
  rw [e3] at i1
  have e0 := e i 0 i0 i1 (by omega)
  have e1 := e i 1 i0 i1 (by omega)
  simp only [Int.add_zero] at e0
  show (0 ≤ mo_di ν x q 1 (156 + 32 * x + (4 + 3 * i)) ∧ mo_di ν x q 1 (156 + 32 * x + (4 + 3 * i)) ≤ 9) ∧ (-1 ≤ mo_di ν x q 1 (156 + 32 * x + (4 + 3 * i + 1)) ∧ mo_di ν x q 1 (156 + 32 * x + (4 + 3 * i + 1)) ≤ 9)
  rw [e0, e1]
  exact h3 _ (by split <;> omega) (by split <;> omega)
noncomputable def mo_cl (ρ : rd_Mem) (x : Int) : rd_Mem := sp_ite (ρ 1 29 = 1 ∧ ρ 1 30 = x ∧ mo_FS ρ x < ρ 1 31) (rd_u ρ 1 31 (mo_FS ρ x)) ρ
set_option maxHeartbeats 4000000 in
set_option maxRecDepth 100000 in
theorem c_X10_removeItem {l : Launch} {G : rd_G} {r : Nat} {μ : rd_Mem} (hI : mo_I μ) (hst : 0 ≤ μ 0 1 ∧ μ 0 1 ≤ 4) {x q0 : Int} : rd_M l G rd_km 5 r yX10_removeItem cX10_removeItem 5 (some .int) (rd_rm 3 65) [rd_R 0, rd_I x, rd_I q0] μ (fun v μ' => (¬ (mo_t μ x ∧ 0 ≤ q0 ∧ q0 ≤ mo_o μ x 3 - 1) ∧ v = some (rd_I (-1)) ∧ μ' = μ) ∨ ((mo_t μ x ∧ 0 ≤ q0 ∧ q0 ≤ mo_o μ x 3 - 1) ∧ v = some (rd_I (mo_o (mo_sv μ) x 3 - 1)) ∧ μ' = mo_cl (mo_di (mo_sv μ) x q0) x)) := by
  refine rd_enter (by decide +kernel) (Nat.le_of_ble_eq_true rfl) [rd_R 0, rd_I x, rd_I q0, rd_J, rd_J] rfl (fun p e s m args below meth c C => ?_)
  refine rd_W.rng (fun hM hL _ => ?_)
  have hc := hI.1.1
  have hc1 := hc.1.1
  have hc2 := hc.1.2
  have hn1 := hI.1.2.2.2.1
  have hn2 := hI.1.2.2.2.2
  refine rd_aload_n C dX10_removeItem_0 rfl ?_
  refine rd_iload_n C dX10_removeItem_1 rfl ?_
  refine rd_iload_n C dX10_removeItem_2 rfl ?_
  refine rd_callV C (c_X10_isItem (fun h => (hI.1.2.1 _ h).1.1)) rm_X10_85 ri_X10_isItem rs_X10_isItem rc_X10_isItem rz_X10 ⟨rp_X10_isItem, rfl, rfl, by decide, by decide⟩ rfl rd_kcl10 dX10_removeItem_3 rd_c0 rd_m0 rfl (Nat.le_of_ble_eq_true rfl) (fun v1 w1 hq => ?_)
  rcases hq with ⟨hw_6, hv1, hm1⟩ | ⟨hw_6, hv1, hm1⟩
  · rw [hv1, hm1]; clear hv1 hm1 v1 w1
    refine rd_if_ne C dX10_removeItem_6 (tgt := 11) (by decide) (fun _ => ?_) (fun h => absurd h (by decide))
    refine rd_aload_n C dX10_removeItem_11 rfl ?_
    refine rd_callV C (c_X10_save hst) rm_X10_76 ri_X10_save rs_X10_save rc_X10_save rz_X10 ⟨rp_X10_save, rfl, rfl, by decide, by decide⟩ rfl rd_kcl10 dX10_removeItem_12 rd_c0 rd_m0 rfl (Nat.le_of_ble_eq_true rfl) (fun v1 w1 hq => ?_)
    obtain ⟨hv1, hm1⟩ := hq; rw [hv1, show w1 = mo_sv μ from hm1]; clear hv1 hm1
    have hIs := mo_sv_I hst hI
    have hcs := hIs.1.1
    have hcs1 := hcs.1.1
    have hcs2 := hcs.1.2
    have hns1 := hIs.1.2.2.2.1
    have hns2 := hIs.1.2.2.2.2
    have hts := (mo_sv_t hst (n := x)).mpr hw_6.1
    have htr := hts.1
    have hits := (hIs.1.2.1 _ hts).1
    have hits1 := hits.1.1
    have hits2 := hits.1.2
    have hpos := (hIs.1.2.1 _ hts).2
    have hr3 : mo_o (mo_sv μ) x 3 = mo_o μ x 3 := mo_sv_lo hst (by omega)
    have hpr := hw_6.2
    refine rd_aload_n C dX10_removeItem_15 rfl ?_
    refine rd_iload_n C dX10_removeItem_16 rfl ?_
    refine rd_iconst C dX10_removeItem_17 (n := 3) ⟨by decide, by decide⟩ ?_
    refine rd_callV C (c_X10_of (i := x) (q := 3) htr ⟨by omega, by omega⟩) rm_X10_26 ri_X10_of rs_X10_of rc_X10_of rz_X10 ⟨rp_X10_of, rfl, rfl, by decide, by decide⟩ rfl rd_kcl10 dX10_removeItem_18 rd_c0 rd_m0 rfl (Nat.le_of_ble_eq_true rfl) (fun v1 w1 hq => ?_)
    obtain ⟨hv1, hm1⟩ := hq; rw [show v1 = some (rd_I (mo_o (mo_sv μ) x 3)) from hv1, hm1]; clear hv1 hm1
    refine rd_iconst C dX10_removeItem_21 (n := 1) ⟨by decide, by decide⟩ ?_
    refine rd_isub C dX10_removeItem_22 (z := mo_o (mo_sv μ) x 3 - 1) rfl ⟨by omega, by omega⟩ ?_
    refine rd_istore_n C dX10_removeItem_23 (by decide) (L' := [rd_R 0, rd_I x, rd_I q0, rd_I (mo_o (mo_sv μ) x 3 - 1), rd_J]) rfl ?_
    refine rd_iconst C dX10_removeItem_24 (n := 3) ⟨by decide, by decide⟩ ?_
    refine rd_iload_n C dX10_removeItem_25 rfl ?_
    refine rd_imul C dX10_removeItem_26 (z := 3 * q0) rfl ⟨by omega, by omega⟩ ?_
    refine rd_istore C dX10_removeItem_27 (by decide) (L' := [rd_R 0, rd_I x, rd_I q0, rd_I (mo_o (mo_sv μ) x 3 - 1), rd_I (3 * q0)]) rfl ?_
    have lp29 : ∀ (n : Nat) (k : Int) (μ1 : rd_Mem), (3 * q0 ≤ k) → (k ≤ 3 * (mo_o (mo_sv μ) x 3 - 1)) → (3 * (mo_o (mo_sv μ) x 3 - 1) < k + n) → (μ1 = mo_dk (mo_sv μ) x q0 k) → rd_W p l e (rd_rm 3 65) s m args below meth c (MQ below (rd_Qc G rd_km 5 r (fun v μ' => (¬ (mo_t μ x ∧ 0 ≤ q0 ∧ q0 ≤ mo_o μ x 3 - 1) ∧ v = some (rd_I (-1)) ∧ μ' = μ) ∨ ((mo_t μ x ∧ 0 ≤ q0 ∧ q0 ≤ mo_o μ x 3 - 1) ∧ v = some (rd_I (mo_o (mo_sv μ) x 3 - 1)) ∧ μ' = mo_cl (mo_di (mo_sv μ) x q0) x))) args s 0 0 (rd_A r 5)) 5 G rd_km 5 r 29 [rd_R 0, rd_I x, rd_I q0, rd_I (mo_o (mo_sv μ) x 3 - 1), rd_I k] [] μ1 := by
      intro n
      induction n with
      | zero => intro k μ1  g1 g2 g3 hm; exfalso; omega
      | succ n ih =>
        intro k μ1  g1 g2 g3 hm
        refine rd_iload C dX10_removeItem_29 rfl ?_
        refine rd_iconst C dX10_removeItem_31 (n := 3) ⟨by decide, by decide⟩ ?_
        refine rd_iload_n C dX10_removeItem_32 rfl ?_
        refine rd_imul C dX10_removeItem_33 (z := 3 * (mo_o (mo_sv μ) x 3 - 1)) rfl ⟨by omega, by omega⟩ ?_
        refine rd_icmp_ge C dX10_removeItem_34 (tgt := 63) (by decide) (fun h_34 => ?_) (fun h_34 => ?_)
        · rw [hm, show k = 3 * (mo_o (mo_sv μ) x 3 - 1) by omega]
          refine rd_aload_n C dX10_removeItem_63 rfl ?_
          refine rd_iload_n C dX10_removeItem_64 rfl ?_
          refine rd_iconst C dX10_removeItem_65 (n := 3) ⟨by decide, by decide⟩ ?_
          refine rd_iload_n C dX10_removeItem_66 rfl ?_
          refine rd_callV C (c_X10_lay htr ⟨by omega, by omega⟩) rm_X10_79 ri_X10_lay rs_X10_lay rc_X10_lay rz_X10 ⟨rp_X10_lay, rfl, rfl, by decide, by decide⟩ rfl rd_kcl10 dX10_removeItem_67 rd_c0 rd_m0 rfl (Nat.le_of_ble_eq_true rfl) (fun v1 w1 hq => ?_)
          obtain ⟨hv1, hm1⟩ := hq; rw [hv1, show w1 = rd_u (mo_dk (mo_sv μ) x q0 (3 * (mo_o (mo_sv μ) x 3 - 1))) 1 (156 + 32 * x + 3) (mo_o (mo_sv μ) x 3 - 1) from hm1]; clear hv1 hm1
          show rd_W p l e _ s m args below meth c _ _ G rd_km 5 r _ _ _ (mo_di (mo_sv μ) x q0)
          have hdi := mo_di_it htr hits (by omega : 0 ≤ q0 ∧ q0 ≤ mo_o (mo_sv μ) x 3 - 1)
          refine rd_aload_n C dX10_removeItem_70 rfl ?_
          refine rd_get C rd_g10_0 rf_X10_7 dX10_removeItem_71 rd_c0 rd_m0 (x := rd_R (1)) rfl (fun _ => trivial) ?_
          refine rd_bipush C dX10_removeItem_74 (n := 29) (by decide) ⟨by decide, by decide⟩ ?_
          refine rd_ialdx C rd_ai18 dX10_removeItem_76 rd_c1 rd_m1 ⟨by omega, by omega⟩ (z := (mo_di (mo_sv μ) x q0) 1 29) rfl ?_
          refine rd_iconst C dX10_removeItem_77 (n := 1) ⟨by decide, by decide⟩ ?_
          refine rd_icmp_ne C dX10_removeItem_78 (tgt := 119) (by decide) (fun h_78 => ?_) (fun h_78 => ?_)
          · refine rd_iload_n C dX10_removeItem_119 rfl ?_
            exact rd_iret C dX10_removeItem_120 (Or.inr ⟨hw_6, rfl, by unfold mo_cl; rw [sp_ite_f (fun h => by first | exact h_78 h.1 | exact h_89 h.2.1 | (have h9 := h.2.2; omega))]⟩)
          · refine rd_aload_n C dX10_removeItem_81 rfl ?_
            refine rd_get C rd_g10_0 rf_X10_7 dX10_removeItem_82 rd_c0 rd_m0 (x := rd_R (1)) rfl (fun _ => trivial) ?_
            refine rd_bipush C dX10_removeItem_85 (n := 30) (by decide) ⟨by decide, by decide⟩ ?_
            refine rd_ialdx C rd_ai18 dX10_removeItem_87 rd_c1 rd_m1 ⟨by omega, by omega⟩ (z := (mo_di (mo_sv μ) x q0) 1 30) rfl ?_
            refine rd_iload_n C dX10_removeItem_88 rfl ?_
            refine rd_icmp_ne C dX10_removeItem_89 (tgt := 119) (by decide) (fun h_89 => ?_) (fun h_89 => ?_)
            · refine rd_iload_n C dX10_removeItem_119 rfl ?_
              exact rd_iret C dX10_removeItem_120 (Or.inr ⟨hw_6, rfl, by unfold mo_cl; rw [sp_ite_f (fun h => by first | exact h_78 h.1 | exact h_89 h.2.1 | (have h9 := h.2.2; omega))]⟩)
            · refine rd_aload_n C dX10_removeItem_92 rfl ?_
              refine rd_get C rd_g10_0 rf_X10_7 dX10_removeItem_93 rd_c0 rd_m0 (x := rd_R (1)) rfl (fun _ => trivial) ?_
              refine rd_bipush C dX10_removeItem_96 (n := 31) (by decide) ⟨by decide, by decide⟩ ?_
              refine rd_ialdx C rd_ai18 dX10_removeItem_98 rd_c1 rd_m1 ⟨by omega, by omega⟩ (z := (mo_di (mo_sv μ) x q0) 1 31) rfl ?_
              refine rd_aload_n C dX10_removeItem_99 rfl ?_
              refine rd_iload_n C dX10_removeItem_100 rfl ?_
              refine rd_callV C (c_X10_finalStep htr hdi) rm_X10_48 ri_X10_finalStep rs_X10_finalStep rc_X10_finalStep rz_X10 ⟨rp_X10_finalStep, rfl, rfl, by decide, by decide⟩ rfl rd_kcl10 dX10_removeItem_101 rd_c0 rd_m0 rfl (Nat.le_of_ble_eq_true rfl) (fun v1 w1 hq => ?_)
              obtain ⟨hv1, hm1⟩ := hq; rw [show v1 = some (rd_I (mo_FS (mo_di (mo_sv μ) x q0) x)) from hv1, hm1]; clear hv1 hm1
              refine rd_icmp_le C dX10_removeItem_104 (tgt := 119) (by decide) (fun h_104 => ?_) (fun h_104 => ?_)
              · refine rd_iload_n C dX10_removeItem_119 rfl ?_
                exact rd_iret C dX10_removeItem_120 (Or.inr ⟨hw_6, rfl, by unfold mo_cl; rw [sp_ite_f (fun h => by first | exact h_78 h.1 | exact h_89 h.2.1 | (have h9 := h.2.2; omega))]⟩)
              · refine rd_aload_n C dX10_removeItem_107 rfl ?_
                refine rd_get C rd_g10_0 rf_X10_7 dX10_removeItem_108 rd_c0 rd_m0 (x := rd_R (1)) rfl (fun _ => trivial) ?_
                refine rd_bipush C dX10_removeItem_111 (n := 31) (by decide) ⟨by decide, by decide⟩ ?_
                refine rd_aload_n C dX10_removeItem_113 rfl ?_
                refine rd_iload_n C dX10_removeItem_114 rfl ?_
                refine rd_callV C (c_X10_finalStep htr hdi) rm_X10_48 ri_X10_finalStep rs_X10_finalStep rc_X10_finalStep rz_X10 ⟨rp_X10_finalStep, rfl, rfl, by decide, by decide⟩ rfl rd_kcl10 dX10_removeItem_115 rd_c0 rd_m0 rfl (Nat.le_of_ble_eq_true rfl) (fun v1 w1 hq => ?_)
                obtain ⟨hv1, hm1⟩ := hq; rw [show v1 = some (rd_I (mo_FS (mo_di (mo_sv μ) x q0) x)) from hv1, hm1]; clear hv1 hm1
                refine rd_iast C rd_ai18 dX10_removeItem_118 rd_c1 rd_m1 ⟨by omega, by omega⟩ ?_
                refine rd_iload_n C dX10_removeItem_119 rfl ?_
                exact rd_iret C dX10_removeItem_120 (Or.inr ⟨hw_6, rfl, by unfold mo_cl; rw [sp_ite_t ⟨h_78, h_89, by omega⟩]⟩)
        · refine rd_aload_n C dX10_removeItem_37 rfl ?_
          refine rd_iload_n C dX10_removeItem_38 rfl ?_
          refine rd_iconst C dX10_removeItem_39 (n := 4) ⟨by decide, by decide⟩ ?_
          refine rd_iload C dX10_removeItem_40 rfl ?_
          refine rd_iadd C dX10_removeItem_42 (z := 4 + k) rfl ⟨by omega, by omega⟩ ?_
          refine rd_aload_n C dX10_removeItem_43 rfl ?_
          refine rd_iload_n C dX10_removeItem_44 rfl ?_
          refine rd_iconst C dX10_removeItem_45 (n := 4) ⟨by decide, by decide⟩ ?_
          refine rd_iload C dX10_removeItem_46 rfl ?_
          refine rd_iadd C dX10_removeItem_48 (z := 4 + k) rfl ⟨by omega, by omega⟩ ?_
          refine rd_iconst C dX10_removeItem_49 (n := 3) ⟨by decide, by decide⟩ ?_
          refine rd_iadd C dX10_removeItem_50 (z := 4 + k + 3) rfl ⟨by omega, by omega⟩ ?_
          refine rd_callV C (c_X10_of (i := x) (q := 4 + k + 3) htr ⟨by omega, by omega⟩) rm_X10_26 ri_X10_of rs_X10_of rc_X10_of rz_X10 ⟨rp_X10_of, rfl, rfl, by decide, by decide⟩ rfl rd_kcl10 dX10_removeItem_51 rd_c0 rd_m0 rfl (Nat.le_of_ble_eq_true rfl) (fun v1 w1 hq => ?_)
          obtain ⟨hv1, hm1⟩ := hq; rw [show v1 = some (rd_I (mo_o μ1 x (4 + k + 3))) from hv1, hm1]; clear hv1 hm1
          refine rd_callV C (c_X10_lay htr ⟨by omega, by omega⟩) rm_X10_79 ri_X10_lay rs_X10_lay rc_X10_lay rz_X10 ⟨rp_X10_lay, rfl, rfl, by decide, by decide⟩ rfl rd_kcl10 dX10_removeItem_54 rd_c0 rd_m0 rfl (Nat.le_of_ble_eq_true rfl) (fun v1 w1 hq => ?_)
          obtain ⟨hv1, hm1⟩ := hq; rw [hv1, show w1 = rd_u μ1 1 (156 + 32 * x + (4 + k)) (mo_o μ1 x (4 + k + 3)) from hm1]; clear hv1 hm1
          refine rd_iinc C dX10_removeItem_57 (by decide) rfl ⟨by omega, by omega⟩ (L' := [rd_R 0, rd_I x, rd_I q0, rd_I (mo_o (mo_sv μ) x 3 - 1), rd_I (k + 1)]) rfl ?_
          refine rd_goto C dX10_removeItem_60 (tgt := 29) (by decide) ?_
          exact ih (k + 1) _ (by omega) (by omega) (by omega) (by rw [hm]; generalize mo_sv μ = ρ at *; funext a b; simp only [rd_u, mo_dk, mo_o]; (repeat' split) <;> first | rfl | (exfalso; omega) | grind)
    exact lp29 (3 * (mo_o (mo_sv μ) x 3 - 1) + 1).toNat (3 * q0) _ (by omega) (by omega) (by omega) (by funext a b; unfold mo_dk; rw [if_neg (by omega)])
  · rw [hv1, hm1]; clear hv1 hm1 v1 w1
    refine rd_if_ne C dX10_removeItem_6 (tgt := 11) (by decide) (fun h => absurd h (by decide)) (fun _ => ?_)
    refine rd_iconst C dX10_removeItem_9 (n := -1) ⟨by decide, by decide⟩ ?_
    exact rd_iret C dX10_removeItem_10 (Or.inl ⟨hw_6, rfl, rfl⟩)
set_option maxHeartbeats 4000000 in
set_option maxRecDepth 100000 in
theorem c_X10_link {l : Launch} {G : rd_G} {r : Nat} {μ : rd_Mem} (hI : mo_I μ) (hst : 0 ≤ μ 0 1 ∧ μ 0 1 ≤ 4) {x k0 y : Int} : rd_M l G rd_km 5 r yX10_link cX10_link 4 (some .int) (rd_rm 2 45) [rd_R 0, rd_I x, rd_I k0, rd_I y] μ (fun v μ' => ((¬ mo_t μ x ∨ ¬ mo_t μ y) ∧ v = some (rd_I (-1)) ∧ μ' = μ) ∨ ((mo_t μ x ∧ mo_t μ y ∧ (k0 < 0 ∨ 9 < k0)) ∧ v = some (rd_I (-2)) ∧ μ' = μ) ∨ ((mo_t μ x ∧ mo_t μ y ∧ (0 ≤ k0 ∧ k0 ≤ 9) ∧ mo_o μ x (22 + k0) = -6 ∧ mo_lk (fun q => mo_o μ x (22 + q)) 10 = 3) ∧ v = some (rd_I (-4)) ∧ μ' = μ) ∨ ((mo_t μ x ∧ mo_t μ y ∧ (0 ≤ k0 ∧ k0 ≤ 9) ∧ ¬ (mo_o μ x (22 + k0) = -6 ∧ mo_lk (fun q => mo_o μ x (22 + q)) 10 = 3)) ∧ v = some (rd_I (mo_lk (fun q => mo_o (rd_u (mo_sv μ) 1 (156 + 32 * x + (22 + k0)) y) x (22 + q)) 10)) ∧ μ' = rd_u (mo_sv μ) 1 (156 + 32 * x + (22 + k0)) y)) := by
  refine rd_enter (by decide +kernel) (Nat.le_of_ble_eq_true rfl) [rd_R 0, rd_I x, rd_I k0, rd_I y] rfl (fun p e s m args below meth c C => ?_)
  refine rd_W.rng (fun hM hL _ => ?_)
  have hc := hI.1.1
  have hc1 := hc.1.1
  have hc2 := hc.1.2
  have hn1 := hI.1.2.2.2.1
  have hn2 := hI.1.2.2.2.2
  refine rd_aload_n C dX10_link_0 rfl ?_
  refine rd_iload_n C dX10_link_1 rfl ?_
  refine rd_callV C (c_X10_isSlide) rm_X10_30 ri_X10_isSlide rs_X10_isSlide rc_X10_isSlide rz_X10 ⟨rp_X10_isSlide, rfl, rfl, by decide, by decide⟩ rfl rd_kcl10 dX10_link_2 rd_c0 rd_m0 rfl (Nat.le_of_ble_eq_true rfl) (fun v1 w1 hq => ?_)
  rcases hq with ⟨hw_5, hv1, hm1⟩ | ⟨hw_5, hv1, hm1⟩
  · rw [hv1, hm1]; clear hv1 hm1 v1 w1
    refine rd_if_eq C dX10_link_5 (tgt := 16) (by decide) (fun h => absurd h (by decide)) (fun _ => ?_)
    refine rd_aload_n C dX10_link_8 rfl ?_
    refine rd_iload_n C dX10_link_9 rfl ?_
    refine rd_callV C (c_X10_isSlide) rm_X10_30 ri_X10_isSlide rs_X10_isSlide rc_X10_isSlide rz_X10 ⟨rp_X10_isSlide, rfl, rfl, by decide, by decide⟩ rfl rd_kcl10 dX10_link_10 rd_c0 rd_m0 rfl (Nat.le_of_ble_eq_true rfl) (fun v1 w1 hq => ?_)
    rcases hq with ⟨hw_13, hv1, hm1⟩ | ⟨hw_13, hv1, hm1⟩
    · rw [hv1, hm1]; clear hv1 hm1 v1 w1
      refine rd_if_ne C dX10_link_13 (tgt := 18) (by decide) (fun _ => ?_) (fun h => absurd h (by decide))
      refine rd_aload_n C dX10_link_18 rfl ?_
      refine rd_iload_n C dX10_link_19 rfl ?_
      refine rd_callV C (c_X10_isKey) rm_X10_89 ri_X10_isKey rs_X10_isKey rc_X10_isKey rz_X10 ⟨rp_X10_isKey, rfl, rfl, by decide, by decide⟩ rfl rd_kcl10 dX10_link_20 rd_c0 rd_m0 rfl (Nat.le_of_ble_eq_true rfl) (fun v1 w1 hq => ?_)
      rcases hq with ⟨hw_23, hv1, hm1⟩ | ⟨hw_23, hv1, hm1⟩
      · rw [hv1, hm1]; clear hv1 hm1 v1 w1
        refine rd_if_ne C dX10_link_23 (tgt := 29) (by decide) (fun _ => ?_) (fun h => absurd h (by decide))
        refine rd_aload_n C dX10_link_29 rfl ?_
        refine rd_iload_n C dX10_link_30 rfl ?_
        refine rd_bipush C dX10_link_31 (n := 22) (by decide) ⟨by decide, by decide⟩ ?_
        refine rd_iload_n C dX10_link_33 rfl ?_
        refine rd_iadd C dX10_link_34 (z := 22 + k0) rfl ⟨by omega, by omega⟩ ?_
        refine rd_callV C (c_X10_of (i := x) (q := 22 + k0) (by first | exact htr | exact hw_5.1 | exact hw_6.1.1) ⟨by omega, by omega⟩) rm_X10_26 ri_X10_of rs_X10_of rc_X10_of rz_X10 ⟨rp_X10_of, rfl, rfl, by decide, by decide⟩ rfl rd_kcl10 dX10_link_35 rd_c0 rd_m0 rfl (Nat.le_of_ble_eq_true rfl) (fun v1 w1 hq => ?_)
        obtain ⟨hv1, hm1⟩ := hq; rw [show v1 = some (rd_I (mo_o μ x (22 + k0))) from hv1, hm1]; clear hv1 hm1
        refine rd_bipush C dX10_link_38 (n := -6) (by decide) ⟨by decide, by decide⟩ ?_
        refine rd_icmp_ne C dX10_link_40 (tgt := 55) (by decide) (fun h_40 => ?_) (fun h_40 => ?_)
        · refine rd_aload_n C dX10_link_55 rfl ?_
          refine rd_callV C (c_X10_save hst) rm_X10_76 ri_X10_save rs_X10_save rc_X10_save rz_X10 ⟨rp_X10_save, rfl, rfl, by decide, by decide⟩ rfl rd_kcl10 dX10_link_56 rd_c0 rd_m0 rfl (Nat.le_of_ble_eq_true rfl) (fun v1 w1 hq => ?_)
          obtain ⟨hv1, hm1⟩ := hq; rw [hv1, show w1 = mo_sv μ from hm1]; clear hv1 hm1
          have hIs := mo_sv_I hst hI
          have hcs := hIs.1.1
          have hcs1 := hcs.1.1
          have hcs2 := hcs.1.2
          have hns1 := hIs.1.2.2.2.1
          have hns2 := hIs.1.2.2.2.2
          have hts := (mo_sv_t hst (n := x)).mpr hw_5
          have htr := hts.1
          have hits := (hIs.1.2.1 _ hts).1
          have hits1 := hits.1.1
          have hits2 := hits.1.2
          have hpos := (hIs.1.2.1 _ hts).2
          refine rd_aload_n C dX10_link_59 rfl ?_
          refine rd_iload_n C dX10_link_60 rfl ?_
          refine rd_bipush C dX10_link_61 (n := 22) (by decide) ⟨by decide, by decide⟩ ?_
          refine rd_iload_n C dX10_link_63 rfl ?_
          refine rd_iadd C dX10_link_64 (z := 22 + k0) rfl ⟨by omega, by omega⟩ ?_
          refine rd_iload_n C dX10_link_65 rfl ?_
          refine rd_callV C (c_X10_lay htr ⟨by omega, by omega⟩) rm_X10_79 ri_X10_lay rs_X10_lay rc_X10_lay rz_X10 ⟨rp_X10_lay, rfl, rfl, by decide, by decide⟩ rfl rd_kcl10 dX10_link_66 rd_c0 rd_m0 rfl (Nat.le_of_ble_eq_true rfl) (fun v1 w1 hq => ?_)
          obtain ⟨hv1, hm1⟩ := hq; rw [hv1, show w1 = rd_u (mo_sv μ) 1 (156 + 32 * x + (22 + k0)) y from hm1]; clear hv1 hm1
          refine rd_aload_n C dX10_link_69 rfl ?_
          refine rd_iload_n C dX10_link_70 rfl ?_
          refine rd_callV C (c_X10_links (n0 := x) (by first | exact htr | exact hw_5.1 | exact hw_6.1.1)) rm_X10_92 ri_X10_links rs_X10_links rc_X10_links rz_X10 ⟨rp_X10_links, rfl, rfl, by decide, by decide⟩ rfl rd_kcl10 dX10_link_71 rd_c0 rd_m0 rfl (Nat.le_of_ble_eq_true rfl) (fun v1 w1 hq => ?_)
          obtain ⟨hv1, hm1⟩ := hq; rw [show v1 = some (rd_I (mo_lk (fun q => mo_o (rd_u (mo_sv μ) 1 (156 + 32 * x + (22 + k0)) y) x (22 + q)) 10)) from hv1, hm1]; clear hv1 hm1
          exact rd_iret C dX10_link_74 (Or.inr (Or.inr (Or.inr (⟨⟨hw_5, hw_13, hw_23, (fun h => by first | exact h_40 h.1 | exact h_49 h.2)⟩, rfl, rfl⟩))))
        · refine rd_aload_n C dX10_link_43 rfl ?_
          refine rd_iload_n C dX10_link_44 rfl ?_
          refine rd_callV C (c_X10_links (n0 := x) (by first | exact htr | exact hw_5.1 | exact hw_6.1.1)) rm_X10_92 ri_X10_links rs_X10_links rc_X10_links rz_X10 ⟨rp_X10_links, rfl, rfl, by decide, by decide⟩ rfl rd_kcl10 dX10_link_45 rd_c0 rd_m0 rfl (Nat.le_of_ble_eq_true rfl) (fun v1 w1 hq => ?_)
          obtain ⟨hv1, hm1⟩ := hq; rw [show v1 = some (rd_I (mo_lk (fun q => mo_o μ x (22 + q)) 10)) from hv1, hm1]; clear hv1 hm1
          refine rd_iconst C dX10_link_48 (n := 3) ⟨by decide, by decide⟩ ?_
          refine rd_icmp_ne C dX10_link_49 (tgt := 55) (by decide) (fun h_49 => ?_) (fun h_49 => ?_)
          · refine rd_aload_n C dX10_link_55 rfl ?_
            refine rd_callV C (c_X10_save hst) rm_X10_76 ri_X10_save rs_X10_save rc_X10_save rz_X10 ⟨rp_X10_save, rfl, rfl, by decide, by decide⟩ rfl rd_kcl10 dX10_link_56 rd_c0 rd_m0 rfl (Nat.le_of_ble_eq_true rfl) (fun v1 w1 hq => ?_)
            obtain ⟨hv1, hm1⟩ := hq; rw [hv1, show w1 = mo_sv μ from hm1]; clear hv1 hm1
            have hIs := mo_sv_I hst hI
            have hcs := hIs.1.1
            have hcs1 := hcs.1.1
            have hcs2 := hcs.1.2
            have hns1 := hIs.1.2.2.2.1
            have hns2 := hIs.1.2.2.2.2
            have hts := (mo_sv_t hst (n := x)).mpr hw_5
            have htr := hts.1
            have hits := (hIs.1.2.1 _ hts).1
            have hits1 := hits.1.1
            have hits2 := hits.1.2
            have hpos := (hIs.1.2.1 _ hts).2
            refine rd_aload_n C dX10_link_59 rfl ?_
            refine rd_iload_n C dX10_link_60 rfl ?_
            refine rd_bipush C dX10_link_61 (n := 22) (by decide) ⟨by decide, by decide⟩ ?_
            refine rd_iload_n C dX10_link_63 rfl ?_
            refine rd_iadd C dX10_link_64 (z := 22 + k0) rfl ⟨by omega, by omega⟩ ?_
            refine rd_iload_n C dX10_link_65 rfl ?_
            refine rd_callV C (c_X10_lay htr ⟨by omega, by omega⟩) rm_X10_79 ri_X10_lay rs_X10_lay rc_X10_lay rz_X10 ⟨rp_X10_lay, rfl, rfl, by decide, by decide⟩ rfl rd_kcl10 dX10_link_66 rd_c0 rd_m0 rfl (Nat.le_of_ble_eq_true rfl) (fun v1 w1 hq => ?_)
            obtain ⟨hv1, hm1⟩ := hq; rw [hv1, show w1 = rd_u (mo_sv μ) 1 (156 + 32 * x + (22 + k0)) y from hm1]; clear hv1 hm1
            refine rd_aload_n C dX10_link_69 rfl ?_
            refine rd_iload_n C dX10_link_70 rfl ?_
            refine rd_callV C (c_X10_links (n0 := x) (by first | exact htr | exact hw_5.1 | exact hw_6.1.1)) rm_X10_92 ri_X10_links rs_X10_links rc_X10_links rz_X10 ⟨rp_X10_links, rfl, rfl, by decide, by decide⟩ rfl rd_kcl10 dX10_link_71 rd_c0 rd_m0 rfl (Nat.le_of_ble_eq_true rfl) (fun v1 w1 hq => ?_)
            obtain ⟨hv1, hm1⟩ := hq; rw [show v1 = some (rd_I (mo_lk (fun q => mo_o (rd_u (mo_sv μ) 1 (156 + 32 * x + (22 + k0)) y) x (22 + q)) 10)) from hv1, hm1]; clear hv1 hm1
            exact rd_iret C dX10_link_74 (Or.inr (Or.inr (Or.inr (⟨⟨hw_5, hw_13, hw_23, (fun h => by first | exact h_40 h.1 | exact h_49 h.2)⟩, rfl, rfl⟩))))
          · refine rd_bipush C dX10_link_52 (n := -4) (by decide) ⟨by decide, by decide⟩ ?_
            exact rd_iret C dX10_link_54 (Or.inr (Or.inr (Or.inl ⟨⟨hw_5, hw_13, hw_23, h_40, h_49⟩, rfl, rfl⟩)))
      · rw [hv1, hm1]; clear hv1 hm1 v1 w1
        refine rd_if_ne C dX10_link_23 (tgt := 29) (by decide) (fun h => absurd h (by decide)) (fun _ => ?_)
        refine rd_bipush C dX10_link_26 (n := -2) (by decide) ⟨by decide, by decide⟩ ?_
        exact rd_iret C dX10_link_28 (Or.inr (Or.inl ⟨⟨hw_5, hw_13, hw_23⟩, rfl, rfl⟩))
    · rw [hv1, hm1]; clear hv1 hm1 v1 w1
      refine rd_if_ne C dX10_link_13 (tgt := 18) (by decide) (fun h => absurd h (by decide)) (fun _ => ?_)
      refine rd_iconst C dX10_link_16 (n := -1) ⟨by decide, by decide⟩ ?_
      exact rd_iret C dX10_link_17 (Or.inl ⟨(by first | exact Or.inl hw_5 | exact Or.inr hw_13), rfl, rfl⟩)
  · rw [hv1, hm1]; clear hv1 hm1 v1 w1
    refine rd_if_eq C dX10_link_5 (tgt := 16) (by decide) (fun _ => ?_) (fun h => absurd h (by decide))
    refine rd_iconst C dX10_link_16 (n := -1) ⟨by decide, by decide⟩ ?_
    exact rd_iret C dX10_link_17 (Or.inl ⟨(by first | exact Or.inl hw_5 | exact Or.inr hw_13), rfl, rfl⟩)
set_option maxHeartbeats 4000000 in
set_option maxRecDepth 100000 in
theorem c_X10_unlink {l : Launch} {G : rd_G} {r : Nat} {μ : rd_Mem} (hI : mo_I μ) (hst : 0 ≤ μ 0 1 ∧ μ 0 1 ≤ 4) {x k0 : Int} : rd_M l G rd_km 5 r yX10_unlink cX10_unlink 3 (some .int) (rd_rm 2 45) [rd_R 0, rd_I x, rd_I k0] μ (fun v μ' => (¬ (mo_t μ x ∧ (0 ≤ k0 ∧ k0 ≤ 9) ∧ mo_o μ x (22 + k0) ≠ -6) ∧ v = some (rd_I (-1)) ∧ μ' = μ) ∨ ((mo_t μ x ∧ (0 ≤ k0 ∧ k0 ≤ 9) ∧ mo_o μ x (22 + k0) ≠ -6) ∧ v = some (rd_I (mo_lk (fun q => mo_o (rd_u (mo_sv μ) 1 (156 + 32 * x + (22 + k0)) (-6)) x (22 + q)) 10)) ∧ μ' = rd_u (mo_sv μ) 1 (156 + 32 * x + (22 + k0)) (-6))) := by
  refine rd_enter (by decide +kernel) (Nat.le_of_ble_eq_true rfl) [rd_R 0, rd_I x, rd_I k0] rfl (fun p e s m args below meth c C => ?_)
  refine rd_W.rng (fun hM hL _ => ?_)
  have hc := hI.1.1
  have hc1 := hc.1.1
  have hc2 := hc.1.2
  have hn1 := hI.1.2.2.2.1
  have hn2 := hI.1.2.2.2.2
  refine rd_aload_n C dX10_unlink_0 rfl ?_
  refine rd_iload_n C dX10_unlink_1 rfl ?_
  refine rd_callV C (c_X10_isSlide) rm_X10_30 ri_X10_isSlide rs_X10_isSlide rc_X10_isSlide rz_X10 ⟨rp_X10_isSlide, rfl, rfl, by decide, by decide⟩ rfl rd_kcl10 dX10_unlink_2 rd_c0 rd_m0 rfl (Nat.le_of_ble_eq_true rfl) (fun v1 w1 hq => ?_)
  rcases hq with ⟨hw_5, hv1, hm1⟩ | ⟨hw_5, hv1, hm1⟩
  · rw [hv1, hm1]; clear hv1 hm1 v1 w1
    refine rd_if_eq C dX10_unlink_5 (tgt := 30) (by decide) (fun h => absurd h (by decide)) (fun _ => ?_)
    refine rd_aload_n C dX10_unlink_8 rfl ?_
    refine rd_iload_n C dX10_unlink_9 rfl ?_
    refine rd_callV C (c_X10_isKey) rm_X10_89 ri_X10_isKey rs_X10_isKey rc_X10_isKey rz_X10 ⟨rp_X10_isKey, rfl, rfl, by decide, by decide⟩ rfl rd_kcl10 dX10_unlink_10 rd_c0 rd_m0 rfl (Nat.le_of_ble_eq_true rfl) (fun v1 w1 hq => ?_)
    rcases hq with ⟨hw_13, hv1, hm1⟩ | ⟨hw_13, hv1, hm1⟩
    · rw [hv1, hm1]; clear hv1 hm1 v1 w1
      refine rd_if_eq C dX10_unlink_13 (tgt := 30) (by decide) (fun h => absurd h (by decide)) (fun _ => ?_)
      refine rd_aload_n C dX10_unlink_16 rfl ?_
      refine rd_iload_n C dX10_unlink_17 rfl ?_
      refine rd_bipush C dX10_unlink_18 (n := 22) (by decide) ⟨by decide, by decide⟩ ?_
      refine rd_iload_n C dX10_unlink_20 rfl ?_
      refine rd_iadd C dX10_unlink_21 (z := 22 + k0) rfl ⟨by omega, by omega⟩ ?_
      refine rd_callV C (c_X10_of (i := x) (q := 22 + k0) (by first | exact htr | exact hw_5.1 | exact hw_6.1.1) ⟨by omega, by omega⟩) rm_X10_26 ri_X10_of rs_X10_of rc_X10_of rz_X10 ⟨rp_X10_of, rfl, rfl, by decide, by decide⟩ rfl rd_kcl10 dX10_unlink_22 rd_c0 rd_m0 rfl (Nat.le_of_ble_eq_true rfl) (fun v1 w1 hq => ?_)
      obtain ⟨hv1, hm1⟩ := hq; rw [show v1 = some (rd_I (mo_o μ x (22 + k0))) from hv1, hm1]; clear hv1 hm1
      refine rd_bipush C dX10_unlink_25 (n := -6) (by decide) ⟨by decide, by decide⟩ ?_
      refine rd_icmp_ne C dX10_unlink_27 (tgt := 32) (by decide) (fun h_27 => ?_) (fun h_27 => ?_)
      · refine rd_aload_n C dX10_unlink_32 rfl ?_
        refine rd_callV C (c_X10_save hst) rm_X10_76 ri_X10_save rs_X10_save rc_X10_save rz_X10 ⟨rp_X10_save, rfl, rfl, by decide, by decide⟩ rfl rd_kcl10 dX10_unlink_33 rd_c0 rd_m0 rfl (Nat.le_of_ble_eq_true rfl) (fun v1 w1 hq => ?_)
        obtain ⟨hv1, hm1⟩ := hq; rw [hv1, show w1 = mo_sv μ from hm1]; clear hv1 hm1
        have hIs := mo_sv_I hst hI
        have hcs := hIs.1.1
        have hcs1 := hcs.1.1
        have hcs2 := hcs.1.2
        have hns1 := hIs.1.2.2.2.1
        have hns2 := hIs.1.2.2.2.2
        have hts := (mo_sv_t hst (n := x)).mpr hw_5
        have htr := hts.1
        have hits := (hIs.1.2.1 _ hts).1
        have hits1 := hits.1.1
        have hits2 := hits.1.2
        have hpos := (hIs.1.2.1 _ hts).2
        refine rd_aload_n C dX10_unlink_36 rfl ?_
        refine rd_iload_n C dX10_unlink_37 rfl ?_
        refine rd_bipush C dX10_unlink_38 (n := 22) (by decide) ⟨by decide, by decide⟩ ?_
        refine rd_iload_n C dX10_unlink_40 rfl ?_
        refine rd_iadd C dX10_unlink_41 (z := 22 + k0) rfl ⟨by omega, by omega⟩ ?_
        refine rd_bipush C dX10_unlink_42 (n := -6) (by decide) ⟨by decide, by decide⟩ ?_
        refine rd_callV C (c_X10_lay htr ⟨by omega, by omega⟩) rm_X10_79 ri_X10_lay rs_X10_lay rc_X10_lay rz_X10 ⟨rp_X10_lay, rfl, rfl, by decide, by decide⟩ rfl rd_kcl10 dX10_unlink_44 rd_c0 rd_m0 rfl (Nat.le_of_ble_eq_true rfl) (fun v1 w1 hq => ?_)
        obtain ⟨hv1, hm1⟩ := hq; rw [hv1, show w1 = rd_u (mo_sv μ) 1 (156 + 32 * x + (22 + k0)) (-6) from hm1]; clear hv1 hm1
        refine rd_aload_n C dX10_unlink_47 rfl ?_
        refine rd_iload_n C dX10_unlink_48 rfl ?_
        refine rd_callV C (c_X10_links (n0 := x) (by first | exact htr | exact hw_5.1 | exact hw_6.1.1)) rm_X10_92 ri_X10_links rs_X10_links rc_X10_links rz_X10 ⟨rp_X10_links, rfl, rfl, by decide, by decide⟩ rfl rd_kcl10 dX10_unlink_49 rd_c0 rd_m0 rfl (Nat.le_of_ble_eq_true rfl) (fun v1 w1 hq => ?_)
        obtain ⟨hv1, hm1⟩ := hq; rw [show v1 = some (rd_I (mo_lk (fun q => mo_o (rd_u (mo_sv μ) 1 (156 + 32 * x + (22 + k0)) (-6)) x (22 + q)) 10)) from hv1, hm1]; clear hv1 hm1
        exact rd_iret C dX10_unlink_52 (Or.inr (⟨⟨hw_5, hw_13, h_27⟩, rfl, rfl⟩))
      · refine rd_iconst C dX10_unlink_30 (n := -1) ⟨by decide, by decide⟩ ?_
        exact rd_iret C dX10_unlink_31 (Or.inl ⟨(fun h => by first | exact hw_5 h.1 | (have h1 := h.2.1; omega) | exact h.2.2 h_27), rfl, rfl⟩)
    · rw [hv1, hm1]; clear hv1 hm1 v1 w1
      refine rd_if_eq C dX10_unlink_13 (tgt := 30) (by decide) (fun _ => ?_) (fun h => absurd h (by decide))
      refine rd_iconst C dX10_unlink_30 (n := -1) ⟨by decide, by decide⟩ ?_
      exact rd_iret C dX10_unlink_31 (Or.inl ⟨(fun h => by first | exact hw_5 h.1 | (have h1 := h.2.1; omega) | exact h.2.2 h_27), rfl, rfl⟩)
  · rw [hv1, hm1]; clear hv1 hm1 v1 w1
    refine rd_if_eq C dX10_unlink_5 (tgt := 30) (by decide) (fun _ => ?_) (fun h => absurd h (by decide))
    refine rd_iconst C dX10_unlink_30 (n := -1) ⟨by decide, by decide⟩ ?_
    exact rd_iret C dX10_unlink_31 (Or.inl ⟨(fun h => by first | exact hw_5 h.1 | (have h1 := h.2.1; omega) | exact h.2.2 h_27), rfl, rfl⟩)
set_option maxHeartbeats 4000000 in
set_option maxRecDepth 100000 in
theorem c_X10_note {l : Launch} {G : rd_G} {r : Nat} {μ : rd_Mem} (hI : mo_I μ) (hst : 0 ≤ μ 0 1 ∧ μ 0 1 ≤ 4) {s0 u0 : Int} : rd_M l G rd_km 5 r yX10_note cX10_note 4 (some .int) (rd_rm 2 44) [rd_R 0, rd_I s0, rd_I u0] μ (fun v μ' => (¬ ((0 ≤ s0 ∧ s0 ≤ 9999) ∧ (-1 ≤ u0 ∧ u0 ≤ 99)) ∧ v = some (rd_I (-2)) ∧ μ' = μ) ∨ ((((0 ≤ s0 ∧ s0 ≤ 9999) ∧ (-1 ≤ u0 ∧ u0 ≤ 99)) ∧ u0 = -1 ∧ mo_np μ s0 = -1) ∧ v = some (rd_I (-1)) ∧ μ' = μ) ∨ ((((0 ≤ s0 ∧ s0 ≤ 9999) ∧ (-1 ≤ u0 ∧ u0 ≤ 99)) ∧ u0 ≠ -1 ∧ mo_np μ s0 = -1 ∧ μ 1 11 = 8) ∧ v = some (rd_I (-4)) ∧ μ' = μ) ∨ ((((0 ≤ s0 ∧ s0 ≤ 9999) ∧ (-1 ≤ u0 ∧ u0 ≤ 99)) ∧ u0 = -1 ∧ mo_np μ s0 ≠ -1) ∧ v = some (rd_I (mo_sv μ 1 11 - 1)) ∧ μ' = rd_u (rd_u (rd_u (mo_sv μ) 1 11 (mo_sv μ 1 11 - 1)) 1 (12 + 2 * (mo_np μ s0)) (mo_sv μ 1 (12 + 2 * (mo_sv μ 1 11 - 1)))) 1 (12 + 2 * (mo_np μ s0) + 1) (mo_sv μ 1 (12 + 2 * (mo_sv μ 1 11 - 1) + 1))) ∨ ((((0 ≤ s0 ∧ s0 ≤ 9999) ∧ (-1 ≤ u0 ∧ u0 ≤ 99)) ∧ u0 ≠ -1 ∧ mo_np μ s0 = -1 ∧ μ 1 11 ≠ 8) ∧ v = some (rd_I (mo_sv μ 1 11 + 1)) ∧ μ' = rd_u (rd_u (rd_u (mo_sv μ) 1 11 (mo_sv μ 1 11 + 1)) 1 (12 + 2 * mo_sv μ 1 11) s0) 1 (12 + 2 * mo_sv μ 1 11 + 1) u0) ∨ ((((0 ≤ s0 ∧ s0 ≤ 9999) ∧ (-1 ≤ u0 ∧ u0 ≤ 99)) ∧ u0 ≠ -1 ∧ mo_np μ s0 ≠ -1) ∧ v = some (rd_I (mo_sv μ 1 11 + 0)) ∧ μ' = rd_u (rd_u (rd_u (mo_sv μ) 1 11 (mo_sv μ 1 11 + 0)) 1 (12 + 2 * (mo_np μ s0)) s0) 1 (12 + 2 * (mo_np μ s0) + 1) u0)) := by
  refine rd_enter (by decide +kernel) (Nat.le_of_ble_eq_true rfl) [rd_R 0, rd_I s0, rd_I u0, rd_J] rfl (fun p e s m args below meth c C => ?_)
  refine rd_W.rng (fun hM hL _ => ?_)
  have hc := hI.1.1
  have hc1 := hc.1.1
  have hc2 := hc.1.2
  have hn1 := hI.1.2.2.2.1
  have hn2 := hI.1.2.2.2.2
  refine rd_iload_n C dX10_note_0 rfl ?_
  refine rd_iconst C dX10_note_1 (n := 0) ⟨by decide, by decide⟩ ?_
  refine rd_sipush C dX10_note_2 (n := 9999) (by decide) ⟨by decide, by decide⟩ ?_
  refine rd_callS C (c_X10_in) rm_X10_22 rt_X10_in rc_X10_in rz_X10 ⟨rp_X10_in, rfl, rfl, by decide, by decide⟩ rfl dX10_note_5 rfl (Nat.le_of_ble_eq_true rfl) (fun v1 w1 hq => ?_)
  rcases hq with ⟨hw_8, hv1, hm1⟩ | ⟨hw_8, hv1, hm1⟩
  · rw [hv1, hm1]; clear hv1 hm1 v1 w1
    refine rd_if_eq C dX10_note_8 (tgt := 21) (by decide) (fun h => absurd h (by decide)) (fun _ => ?_)
    refine rd_iload_n C dX10_note_11 rfl ?_
    refine rd_iconst C dX10_note_12 (n := -1) ⟨by decide, by decide⟩ ?_
    refine rd_bipush C dX10_note_13 (n := 99) (by decide) ⟨by decide, by decide⟩ ?_
    refine rd_callS C (c_X10_in) rm_X10_22 rt_X10_in rc_X10_in rz_X10 ⟨rp_X10_in, rfl, rfl, by decide, by decide⟩ rfl dX10_note_15 rfl (Nat.le_of_ble_eq_true rfl) (fun v1 w1 hq => ?_)
    rcases hq with ⟨hw_18, hv1, hm1⟩ | ⟨hw_18, hv1, hm1⟩
    · rw [hv1, hm1]; clear hv1 hm1 v1 w1
      refine rd_if_ne C dX10_note_18 (tgt := 24) (by decide) (fun _ => ?_) (fun h => absurd h (by decide))
      refine rd_aload_n C dX10_note_24 rfl ?_
      refine rd_iload_n C dX10_note_25 rfl ?_
      refine rd_callV C (c_X10_notePlace ⟨hn1, hn2⟩) rm_X10_95 ri_X10_notePlace rs_X10_notePlace rc_X10_notePlace rz_X10 ⟨rp_X10_notePlace, rfl, rfl, by decide, by decide⟩ rfl rd_kcl10 dX10_note_26 rd_c0 rd_m0 rfl (Nat.le_of_ble_eq_true rfl) (fun v1 w1 hq => ?_)
      obtain ⟨hv1, hm1⟩ := hq; rw [hv1, hm1]; clear hv1 hm1
      rcases mo_np_r hn1 s0 with hz | hz
      · rw [show mo_z (mo_np μ s0) = -6 from by rw [hz]; rfl]
        refine rd_istore_n C dX10_note_29 (by decide) (L' := [rd_R 0, rd_I s0, rd_I u0, rd_I (-6)]) rfl ?_
        refine rd_iload_n C dX10_note_30 rfl ?_
        refine rd_iconst C dX10_note_31 (n := -1) ⟨by decide, by decide⟩ ?_
        refine rd_icmp_ne C dX10_note_32 (tgt := 43) (by decide) (fun h_32 => ?_) (fun h_32 => ?_)
        · refine rd_iload_n C dX10_note_43 rfl ?_
          refine rd_bipush C dX10_note_44 (n := -6) (by decide) ⟨by decide, by decide⟩ ?_
          refine rd_icmp_ne C dX10_note_46 (tgt := 64) (by decide) (fun h => absurd h (by decide)) (fun _ => ?_)
          refine rd_aload_n C dX10_note_49 rfl ?_
          refine rd_get C rd_g10_0 rf_X10_7 dX10_note_50 rd_c0 rd_m0 (x := rd_R (1)) rfl (fun _ => trivial) ?_
          refine rd_bipush C dX10_note_53 (n := 11) (by decide) ⟨by decide, by decide⟩ ?_
          refine rd_ialdx C rd_ai18 dX10_note_55 rd_c1 rd_m1 ⟨by omega, by omega⟩ (z := μ 1 11) rfl ?_
          refine rd_bipush C dX10_note_56 (n := 8) (by decide) ⟨by decide, by decide⟩ ?_
          refine rd_icmp_ne C dX10_note_58 (tgt := 64) (by decide) (fun h_58 => ?_) (fun h_58 => ?_)
          · refine rd_aload_n C dX10_note_64 rfl ?_
            refine rd_callV C (c_X10_save hst) rm_X10_76 ri_X10_save rs_X10_save rc_X10_save rz_X10 ⟨rp_X10_save, rfl, rfl, by decide, by decide⟩ rfl rd_kcl10 dX10_note_65 rd_c0 rd_m0 rfl (Nat.le_of_ble_eq_true rfl) (fun v1 w1 hq => ?_)
            obtain ⟨hv1, hm1⟩ := hq; rw [hv1, show w1 = mo_sv μ from hm1]; clear hv1 hm1
            have hIs := mo_sv_I hst hI
            have hcs := hIs.1.1
            have hcs1 := hcs.1.1
            have hcs2 := hcs.1.2
            have hns1 := hIs.1.2.2.2.1
            have hns2 := hIs.1.2.2.2.2
            have hrn : mo_sv μ 1 11 = μ 1 11 := mo_sv_lo hst (by omega)
            refine rd_iload_n C dX10_note_68 rfl ?_
            refine rd_iconst C dX10_note_69 (n := -1) ⟨by decide, by decide⟩ ?_
            refine rd_icmp_ne C dX10_note_70 (tgt := 152) (by decide) (fun h_70 => ?_) (fun h_70 => ?_)
            · refine rd_iload_n C dX10_note_152 rfl ?_
              refine rd_bipush C dX10_note_153 (n := -6) (by decide) ⟨by decide, by decide⟩ ?_
              refine rd_icmp_ne C dX10_note_155 (tgt := 168) (by decide) (fun h => absurd h (by decide)) (fun _ => ?_)
              refine rd_aload_n C dX10_note_158 rfl ?_
              refine rd_get C rd_g10_0 rf_X10_7 dX10_note_159 rd_c0 rd_m0 (x := rd_R (1)) rfl (fun _ => trivial) ?_
              refine rd_bipush C dX10_note_162 (n := 11) (by decide) ⟨by decide, by decide⟩ ?_
              refine rd_ialdx C rd_ai18 dX10_note_164 rd_c1 rd_m1 ⟨by omega, by omega⟩ (z := (mo_sv μ) 1 11) rfl ?_
              refine rd_goto C dX10_note_165 (tgt := 169) (by decide) ?_
              refine rd_istore_n C dX10_note_169 (by decide) (L' := [rd_R 0, rd_I s0, rd_I u0, rd_I ((mo_sv μ) 1 11)]) rfl ?_
              refine rd_aload_n C dX10_note_170 rfl ?_
              refine rd_get C rd_g10_0 rf_X10_7 dX10_note_171 rd_c0 rd_m0 (x := rd_R (1)) rfl (fun _ => trivial) ?_
              refine rd_bipush C dX10_note_174 (n := 11) (by decide) ⟨by decide, by decide⟩ ?_
              refine rd_dup2 C dX10_note_176 ?_
              refine rd_ialdx C rd_ai18 dX10_note_177 rd_c1 rd_m1 ⟨by omega, by omega⟩ (z := (mo_sv μ) 1 11) rfl ?_
              refine rd_iload_n C dX10_note_178 rfl ?_
              refine rd_aload_n C dX10_note_179 rfl ?_
              refine rd_get C rd_g10_0 rf_X10_7 dX10_note_180 rd_c0 rd_m0 (x := rd_R (1)) rfl (fun _ => trivial) ?_
              refine rd_bipush C dX10_note_183 (n := 11) (by decide) ⟨by decide, by decide⟩ ?_
              refine rd_ialdx C rd_ai18 dX10_note_185 rd_c1 rd_m1 ⟨by omega, by omega⟩ (z := (mo_sv μ) 1 11) rfl ?_
              refine rd_icmp_ne C dX10_note_186 (tgt := 193) (by decide) (fun h_186 => ?_) (fun h_186 => ?_)
              · exact absurd rfl h_186
              · refine rd_iconst C dX10_note_189 (n := 1) ⟨by decide, by decide⟩ ?_
                refine rd_goto C dX10_note_190 (tgt := 194) (by decide) ?_
                refine rd_iadd C dX10_note_194 (z := (mo_sv μ) 1 11 + 1) rfl ⟨by omega, by omega⟩ ?_
                refine rd_iast C rd_ai18 dX10_note_195 rd_c1 rd_m1 ⟨by omega, by omega⟩ ?_
                refine rd_aload_n C dX10_note_196 rfl ?_
                refine rd_get C rd_g10_0 rf_X10_7 dX10_note_197 rd_c0 rd_m0 (x := rd_R (1)) rfl (fun _ => trivial) ?_
                refine rd_bipush C dX10_note_200 (n := 12) (by decide) ⟨by decide, by decide⟩ ?_
                refine rd_iconst C dX10_note_202 (n := 2) ⟨by decide, by decide⟩ ?_
                refine rd_iload_n C dX10_note_203 rfl ?_
                refine rd_imul C dX10_note_204 (z := 2 * ((mo_sv μ) 1 11)) rfl ⟨by omega, by omega⟩ ?_
                refine rd_iadd C dX10_note_205 (z := 12 + 2 * ((mo_sv μ) 1 11)) rfl ⟨by omega, by omega⟩ ?_
                refine rd_iload_n C dX10_note_206 rfl ?_
                refine rd_iast C rd_ai18 dX10_note_207 rd_c1 rd_m1 ⟨by omega, by omega⟩ ?_
                refine rd_aload_n C dX10_note_208 rfl ?_
                refine rd_get C rd_g10_0 rf_X10_7 dX10_note_209 rd_c0 rd_m0 (x := rd_R (1)) rfl (fun _ => trivial) ?_
                refine rd_bipush C dX10_note_212 (n := 12) (by decide) ⟨by decide, by decide⟩ ?_
                refine rd_iconst C dX10_note_214 (n := 2) ⟨by decide, by decide⟩ ?_
                refine rd_iload_n C dX10_note_215 rfl ?_
                refine rd_imul C dX10_note_216 (z := 2 * ((mo_sv μ) 1 11)) rfl ⟨by omega, by omega⟩ ?_
                refine rd_iadd C dX10_note_217 (z := 12 + 2 * ((mo_sv μ) 1 11)) rfl ⟨by omega, by omega⟩ ?_
                refine rd_iconst C dX10_note_218 (n := 1) ⟨by decide, by decide⟩ ?_
                refine rd_iadd C dX10_note_219 (z := 12 + 2 * ((mo_sv μ) 1 11) + 1) rfl ⟨by omega, by omega⟩ ?_
                refine rd_iload_n C dX10_note_220 rfl ?_
                refine rd_iast C rd_ai18 dX10_note_221 rd_c1 rd_m1 ⟨by omega, by omega⟩ ?_
                refine rd_aload_n C dX10_note_222 rfl ?_
                refine rd_get C rd_g10_0 rf_X10_7 dX10_note_223 rd_c0 rd_m0 (x := rd_R (1)) rfl (fun _ => trivial) ?_
                refine rd_bipush C dX10_note_226 (n := 11) (by decide) ⟨by decide, by decide⟩ ?_
                refine rd_ialdx C rd_ai18 dX10_note_228 rd_c1 rd_m1 ⟨by omega, by omega⟩ (z := (mo_sv μ) 1 11 + 1) (by rw [rd_u_j _ _ _ (by omega), rd_u_j _ _ _ (by omega), rd_u_s]) ?_
                exact rd_iret C dX10_note_229 (Or.inr (Or.inr (Or.inr (Or.inr (Or.inl ⟨⟨by omega, h_32, hz, h_58⟩, rfl, rfl⟩)))))
            · exfalso; omega
          · refine rd_bipush C dX10_note_61 (n := -4) (by decide) ⟨by decide, by decide⟩ ?_
            exact rd_iret C dX10_note_63 (Or.inr (Or.inr (Or.inl ⟨⟨by omega, h_32, hz, h_58⟩, rfl, rfl⟩)))
        · refine rd_iload_n C dX10_note_35 rfl ?_
          refine rd_bipush C dX10_note_36 (n := -6) (by decide) ⟨by decide, by decide⟩ ?_
          refine rd_icmp_ne C dX10_note_38 (tgt := 43) (by decide) (fun h => absurd h (by decide)) (fun _ => ?_)
          refine rd_iconst C dX10_note_41 (n := -1) ⟨by decide, by decide⟩ ?_
          exact rd_iret C dX10_note_42 (Or.inr (Or.inl ⟨⟨by omega, h_32, hz⟩, rfl, rfl⟩))
      · rw [mo_z_ne (by omega : mo_np μ s0 ≠ -1)]
        refine rd_istore_n C dX10_note_29 (by decide) (L' := [rd_R 0, rd_I s0, rd_I u0, rd_I (mo_np μ s0)]) rfl ?_
        refine rd_iload_n C dX10_note_30 rfl ?_
        refine rd_iconst C dX10_note_31 (n := -1) ⟨by decide, by decide⟩ ?_
        refine rd_icmp_ne C dX10_note_32 (tgt := 43) (by decide) (fun h_32 => ?_) (fun h_32 => ?_)
        · refine rd_iload_n C dX10_note_43 rfl ?_
          refine rd_bipush C dX10_note_44 (n := -6) (by decide) ⟨by decide, by decide⟩ ?_
          refine rd_icmp_ne C dX10_note_46 (tgt := 64) (by decide) (fun h_46 => ?_) (fun h_46 => ?_)
          · refine rd_aload_n C dX10_note_64 rfl ?_
            refine rd_callV C (c_X10_save hst) rm_X10_76 ri_X10_save rs_X10_save rc_X10_save rz_X10 ⟨rp_X10_save, rfl, rfl, by decide, by decide⟩ rfl rd_kcl10 dX10_note_65 rd_c0 rd_m0 rfl (Nat.le_of_ble_eq_true rfl) (fun v1 w1 hq => ?_)
            obtain ⟨hv1, hm1⟩ := hq; rw [hv1, show w1 = mo_sv μ from hm1]; clear hv1 hm1
            have hIs := mo_sv_I hst hI
            have hcs := hIs.1.1
            have hcs1 := hcs.1.1
            have hcs2 := hcs.1.2
            have hns1 := hIs.1.2.2.2.1
            have hns2 := hIs.1.2.2.2.2
            have hrn : mo_sv μ 1 11 = μ 1 11 := mo_sv_lo hst (by omega)
            refine rd_iload_n C dX10_note_68 rfl ?_
            refine rd_iconst C dX10_note_69 (n := -1) ⟨by decide, by decide⟩ ?_
            refine rd_icmp_ne C dX10_note_70 (tgt := 152) (by decide) (fun h_70 => ?_) (fun h_70 => ?_)
            · refine rd_iload_n C dX10_note_152 rfl ?_
              refine rd_bipush C dX10_note_153 (n := -6) (by decide) ⟨by decide, by decide⟩ ?_
              refine rd_icmp_ne C dX10_note_155 (tgt := 168) (by decide) (fun h_155 => ?_) (fun h_155 => ?_)
              · refine rd_iload_n C dX10_note_168 rfl ?_
                refine rd_istore_n C dX10_note_169 (by decide) (L' := [rd_R 0, rd_I s0, rd_I u0, rd_I (mo_np μ s0)]) rfl ?_
                refine rd_aload_n C dX10_note_170 rfl ?_
                refine rd_get C rd_g10_0 rf_X10_7 dX10_note_171 rd_c0 rd_m0 (x := rd_R (1)) rfl (fun _ => trivial) ?_
                refine rd_bipush C dX10_note_174 (n := 11) (by decide) ⟨by decide, by decide⟩ ?_
                refine rd_dup2 C dX10_note_176 ?_
                refine rd_ialdx C rd_ai18 dX10_note_177 rd_c1 rd_m1 ⟨by omega, by omega⟩ (z := (mo_sv μ) 1 11) rfl ?_
                refine rd_iload_n C dX10_note_178 rfl ?_
                refine rd_aload_n C dX10_note_179 rfl ?_
                refine rd_get C rd_g10_0 rf_X10_7 dX10_note_180 rd_c0 rd_m0 (x := rd_R (1)) rfl (fun _ => trivial) ?_
                refine rd_bipush C dX10_note_183 (n := 11) (by decide) ⟨by decide, by decide⟩ ?_
                refine rd_ialdx C rd_ai18 dX10_note_185 rd_c1 rd_m1 ⟨by omega, by omega⟩ (z := (mo_sv μ) 1 11) rfl ?_
                refine rd_icmp_ne C dX10_note_186 (tgt := 193) (by decide) (fun h_186 => ?_) (fun h_186 => ?_)
                · refine rd_iconst C dX10_note_193 (n := 0) ⟨by decide, by decide⟩ ?_
                  refine rd_iadd C dX10_note_194 (z := (mo_sv μ) 1 11 + 0) rfl ⟨by omega, by omega⟩ ?_
                  refine rd_iast C rd_ai18 dX10_note_195 rd_c1 rd_m1 ⟨by omega, by omega⟩ ?_
                  refine rd_aload_n C dX10_note_196 rfl ?_
                  refine rd_get C rd_g10_0 rf_X10_7 dX10_note_197 rd_c0 rd_m0 (x := rd_R (1)) rfl (fun _ => trivial) ?_
                  refine rd_bipush C dX10_note_200 (n := 12) (by decide) ⟨by decide, by decide⟩ ?_
                  refine rd_iconst C dX10_note_202 (n := 2) ⟨by decide, by decide⟩ ?_
                  refine rd_iload_n C dX10_note_203 rfl ?_
                  refine rd_imul C dX10_note_204 (z := 2 * (mo_np μ s0)) rfl ⟨by omega, by omega⟩ ?_
                  refine rd_iadd C dX10_note_205 (z := 12 + 2 * (mo_np μ s0)) rfl ⟨by omega, by omega⟩ ?_
                  refine rd_iload_n C dX10_note_206 rfl ?_
                  refine rd_iast C rd_ai18 dX10_note_207 rd_c1 rd_m1 ⟨by omega, by omega⟩ ?_
                  refine rd_aload_n C dX10_note_208 rfl ?_
                  refine rd_get C rd_g10_0 rf_X10_7 dX10_note_209 rd_c0 rd_m0 (x := rd_R (1)) rfl (fun _ => trivial) ?_
                  refine rd_bipush C dX10_note_212 (n := 12) (by decide) ⟨by decide, by decide⟩ ?_
                  refine rd_iconst C dX10_note_214 (n := 2) ⟨by decide, by decide⟩ ?_
                  refine rd_iload_n C dX10_note_215 rfl ?_
                  refine rd_imul C dX10_note_216 (z := 2 * (mo_np μ s0)) rfl ⟨by omega, by omega⟩ ?_
                  refine rd_iadd C dX10_note_217 (z := 12 + 2 * (mo_np μ s0)) rfl ⟨by omega, by omega⟩ ?_
                  refine rd_iconst C dX10_note_218 (n := 1) ⟨by decide, by decide⟩ ?_
                  refine rd_iadd C dX10_note_219 (z := 12 + 2 * (mo_np μ s0) + 1) rfl ⟨by omega, by omega⟩ ?_
                  refine rd_iload_n C dX10_note_220 rfl ?_
                  refine rd_iast C rd_ai18 dX10_note_221 rd_c1 rd_m1 ⟨by omega, by omega⟩ ?_
                  refine rd_aload_n C dX10_note_222 rfl ?_
                  refine rd_get C rd_g10_0 rf_X10_7 dX10_note_223 rd_c0 rd_m0 (x := rd_R (1)) rfl (fun _ => trivial) ?_
                  refine rd_bipush C dX10_note_226 (n := 11) (by decide) ⟨by decide, by decide⟩ ?_
                  refine rd_ialdx C rd_ai18 dX10_note_228 rd_c1 rd_m1 ⟨by omega, by omega⟩ (z := (mo_sv μ) 1 11 + 0) (by rw [rd_u_j _ _ _ (by omega), rd_u_j _ _ _ (by omega), rd_u_s]) ?_
                  exact rd_iret C dX10_note_229 (Or.inr (Or.inr (Or.inr (Or.inr (Or.inr ⟨⟨by omega, h_32, by omega⟩, rfl, rfl⟩)))))
                · exfalso; omega
              · exfalso; omega
            · exfalso; omega
          · exfalso; omega
        · refine rd_iload_n C dX10_note_35 rfl ?_
          refine rd_bipush C dX10_note_36 (n := -6) (by decide) ⟨by decide, by decide⟩ ?_
          refine rd_icmp_ne C dX10_note_38 (tgt := 43) (by decide) (fun h_38 => ?_) (fun h_38 => ?_)
          · refine rd_iload_n C dX10_note_43 rfl ?_
            refine rd_bipush C dX10_note_44 (n := -6) (by decide) ⟨by decide, by decide⟩ ?_
            refine rd_icmp_ne C dX10_note_46 (tgt := 64) (by decide) (fun h_46 => ?_) (fun h_46 => ?_)
            · refine rd_aload_n C dX10_note_64 rfl ?_
              refine rd_callV C (c_X10_save hst) rm_X10_76 ri_X10_save rs_X10_save rc_X10_save rz_X10 ⟨rp_X10_save, rfl, rfl, by decide, by decide⟩ rfl rd_kcl10 dX10_note_65 rd_c0 rd_m0 rfl (Nat.le_of_ble_eq_true rfl) (fun v1 w1 hq => ?_)
              obtain ⟨hv1, hm1⟩ := hq; rw [hv1, show w1 = mo_sv μ from hm1]; clear hv1 hm1
              have hIs := mo_sv_I hst hI
              have hcs := hIs.1.1
              have hcs1 := hcs.1.1
              have hcs2 := hcs.1.2
              have hns1 := hIs.1.2.2.2.1
              have hns2 := hIs.1.2.2.2.2
              have hrn : mo_sv μ 1 11 = μ 1 11 := mo_sv_lo hst (by omega)
              refine rd_iload_n C dX10_note_68 rfl ?_
              refine rd_iconst C dX10_note_69 (n := -1) ⟨by decide, by decide⟩ ?_
              refine rd_icmp_ne C dX10_note_70 (tgt := 152) (by decide) (fun h_70 => ?_) (fun h_70 => ?_)
              · exfalso; omega
              · refine rd_aload_n C dX10_note_73 rfl ?_
                refine rd_get C rd_g10_0 rf_X10_7 dX10_note_74 rd_c0 rd_m0 (x := rd_R (1)) rfl (fun _ => trivial) ?_
                refine rd_bipush C dX10_note_77 (n := 11) (by decide) ⟨by decide, by decide⟩ ?_
                refine rd_dup2 C dX10_note_79 ?_
                refine rd_ialdx C rd_ai18 dX10_note_80 rd_c1 rd_m1 ⟨by omega, by omega⟩ (z := (mo_sv μ) 1 11) rfl ?_
                refine rd_iconst C dX10_note_81 (n := 1) ⟨by decide, by decide⟩ ?_
                refine rd_isub C dX10_note_82 (z := (mo_sv μ) 1 11 - 1) rfl ⟨by omega, by omega⟩ ?_
                refine rd_iast C rd_ai18 dX10_note_83 rd_c1 rd_m1 ⟨by omega, by omega⟩ ?_
                refine rd_aload_n C dX10_note_84 rfl ?_
                refine rd_get C rd_g10_0 rf_X10_7 dX10_note_85 rd_c0 rd_m0 (x := rd_R (1)) rfl (fun _ => trivial) ?_
                refine rd_bipush C dX10_note_88 (n := 12) (by decide) ⟨by decide, by decide⟩ ?_
                refine rd_iconst C dX10_note_90 (n := 2) ⟨by decide, by decide⟩ ?_
                refine rd_iload_n C dX10_note_91 rfl ?_
                refine rd_imul C dX10_note_92 (z := 2 * (mo_np μ s0)) rfl ⟨by omega, by omega⟩ ?_
                refine rd_iadd C dX10_note_93 (z := 12 + 2 * (mo_np μ s0)) rfl ⟨by omega, by omega⟩ ?_
                refine rd_aload_n C dX10_note_94 rfl ?_
                refine rd_get C rd_g10_0 rf_X10_7 dX10_note_95 rd_c0 rd_m0 (x := rd_R (1)) rfl (fun _ => trivial) ?_
                refine rd_bipush C dX10_note_98 (n := 12) (by decide) ⟨by decide, by decide⟩ ?_
                refine rd_iconst C dX10_note_100 (n := 2) ⟨by decide, by decide⟩ ?_
                refine rd_aload_n C dX10_note_101 rfl ?_
                refine rd_get C rd_g10_0 rf_X10_7 dX10_note_102 rd_c0 rd_m0 (x := rd_R (1)) rfl (fun _ => trivial) ?_
                refine rd_bipush C dX10_note_105 (n := 11) (by decide) ⟨by decide, by decide⟩ ?_
                refine rd_ialdx C rd_ai18 dX10_note_107 rd_c1 rd_m1 ⟨by omega, by omega⟩ (z := (mo_sv μ) 1 11 - 1) (by rw [rd_u_s]) ?_
                refine rd_imul C dX10_note_108 (z := 2 * ((mo_sv μ) 1 11 - 1)) rfl ⟨by omega, by omega⟩ ?_
                refine rd_iadd C dX10_note_109 (z := 12 + (2 * ((mo_sv μ) 1 11 - 1))) rfl ⟨by omega, by omega⟩ ?_
                refine rd_ialdx C rd_ai18 dX10_note_110 rd_c1 rd_m1 ⟨by omega, by omega⟩ (z := (mo_sv μ) 1 (12 + (2 * ((mo_sv μ) 1 11 - 1)))) (by rw [rd_u_j _ _ _ (by omega)]) ?_
                refine rd_iast C rd_ai18 dX10_note_111 rd_c1 rd_m1 ⟨by omega, by omega⟩ ?_
                refine rd_aload_n C dX10_note_112 rfl ?_
                refine rd_get C rd_g10_0 rf_X10_7 dX10_note_113 rd_c0 rd_m0 (x := rd_R (1)) rfl (fun _ => trivial) ?_
                refine rd_bipush C dX10_note_116 (n := 12) (by decide) ⟨by decide, by decide⟩ ?_
                refine rd_iconst C dX10_note_118 (n := 2) ⟨by decide, by decide⟩ ?_
                refine rd_iload_n C dX10_note_119 rfl ?_
                refine rd_imul C dX10_note_120 (z := 2 * (mo_np μ s0)) rfl ⟨by omega, by omega⟩ ?_
                refine rd_iadd C dX10_note_121 (z := 12 + 2 * (mo_np μ s0)) rfl ⟨by omega, by omega⟩ ?_
                refine rd_iconst C dX10_note_122 (n := 1) ⟨by decide, by decide⟩ ?_
                refine rd_iadd C dX10_note_123 (z := 12 + 2 * (mo_np μ s0) + 1) rfl ⟨by omega, by omega⟩ ?_
                refine rd_aload_n C dX10_note_124 rfl ?_
                refine rd_get C rd_g10_0 rf_X10_7 dX10_note_125 rd_c0 rd_m0 (x := rd_R (1)) rfl (fun _ => trivial) ?_
                refine rd_bipush C dX10_note_128 (n := 12) (by decide) ⟨by decide, by decide⟩ ?_
                refine rd_iconst C dX10_note_130 (n := 2) ⟨by decide, by decide⟩ ?_
                refine rd_aload_n C dX10_note_131 rfl ?_
                refine rd_get C rd_g10_0 rf_X10_7 dX10_note_132 rd_c0 rd_m0 (x := rd_R (1)) rfl (fun _ => trivial) ?_
                refine rd_bipush C dX10_note_135 (n := 11) (by decide) ⟨by decide, by decide⟩ ?_
                refine rd_ialdx C rd_ai18 dX10_note_137 rd_c1 rd_m1 ⟨by omega, by omega⟩ (z := (mo_sv μ) 1 11 - 1) (by rw [rd_u_j _ _ _ (by omega), rd_u_s]) ?_
                refine rd_imul C dX10_note_138 (z := 2 * ((mo_sv μ) 1 11 - 1)) rfl ⟨by omega, by omega⟩ ?_
                refine rd_iadd C dX10_note_139 (z := 12 + (2 * ((mo_sv μ) 1 11 - 1))) rfl ⟨by omega, by omega⟩ ?_
                refine rd_iconst C dX10_note_140 (n := 1) ⟨by decide, by decide⟩ ?_
                refine rd_iadd C dX10_note_141 (z := 12 + (2 * ((mo_sv μ) 1 11 - 1)) + 1) rfl ⟨by omega, by omega⟩ ?_
                refine rd_ialdx C rd_ai18 dX10_note_142 rd_c1 rd_m1 ⟨by omega, by omega⟩ (z := (mo_sv μ) 1 (12 + (2 * ((mo_sv μ) 1 11 - 1)) + 1)) (by rw [rd_u_j _ _ _ (by omega), rd_u_j _ _ _ (by omega)]) ?_
                refine rd_iast C rd_ai18 dX10_note_143 rd_c1 rd_m1 ⟨by omega, by omega⟩ ?_
                refine rd_aload_n C dX10_note_144 rfl ?_
                refine rd_get C rd_g10_0 rf_X10_7 dX10_note_145 rd_c0 rd_m0 (x := rd_R (1)) rfl (fun _ => trivial) ?_
                refine rd_bipush C dX10_note_148 (n := 11) (by decide) ⟨by decide, by decide⟩ ?_
                refine rd_ialdx C rd_ai18 dX10_note_150 rd_c1 rd_m1 ⟨by omega, by omega⟩ (z := (mo_sv μ) 1 11 - 1) (by rw [rd_u_j _ _ _ (by omega), rd_u_j _ _ _ (by omega), rd_u_s]) ?_
                exact rd_iret C dX10_note_151 (Or.inr (Or.inr (Or.inr (Or.inl ⟨⟨by omega, h_32, by omega⟩, rfl, rfl⟩))))
            · exfalso; omega
          · exfalso; omega
    · rw [hv1, hm1]; clear hv1 hm1 v1 w1
      refine rd_if_ne C dX10_note_18 (tgt := 24) (by decide) (fun h => absurd h (by decide)) (fun _ => ?_)
      refine rd_bipush C dX10_note_21 (n := -2) (by decide) ⟨by decide, by decide⟩ ?_
      exact rd_iret C dX10_note_23 (Or.inl ⟨by omega, rfl, rfl⟩)
  · rw [hv1, hm1]; clear hv1 hm1 v1 w1
    refine rd_if_eq C dX10_note_8 (tgt := 21) (by decide) (fun _ => ?_) (fun h => absurd h (by decide))
    refine rd_bipush C dX10_note_21 (n := -2) (by decide) ⟨by decide, by decide⟩ ?_
    exact rd_iret C dX10_note_23 (Or.inl ⟨by omega, rfl, rfl⟩)
def mo_st (ν : rd_Mem) (n : Int) : rd_Mem := rd_u (rd_u (rd_u (rd_u (rd_u (rd_u (rd_u ν 1 29 1) 1 30 n) 1 31 0) 1 32 0) 1 33 0) 1 34 0) 1 35 0
set_option maxHeartbeats 4000000 in
set_option maxRecDepth 100000 in
theorem c_X10_start {l : Launch} {G : rd_G} {r : Nat} {μ : rd_Mem} (hI : mo_I μ) (hst : 0 ≤ μ 0 1 ∧ μ 0 1 ≤ 4) : rd_M l G rd_km 5 r yX10_start cX10_start 2 (some .int) (rd_rm 3 65) [rd_R 0] μ (fun v μ' => (mo_nx μ 0 = -1 ∧ v = some (rd_I (-5)) ∧ μ' = μ) ∨ (mo_nx μ 0 ≠ -1 ∧ v = some (rd_I (mo_nx μ 0)) ∧ μ' = mo_st (mo_sv μ) (mo_nx μ 0))) := by
  refine rd_enter (by decide +kernel) (Nat.le_of_ble_eq_true rfl) [rd_R 0, rd_J] rfl (fun p e s m args below meth c C => ?_)
  refine rd_W.rng (fun hM hL _ => ?_)
  have hc := hI.1.1
  have hc1 := hc.1.1
  have hc2 := hc.1.2
  have hn1 := hI.1.2.2.2.1
  have hn2 := hI.1.2.2.2.2
  refine rd_aload_n C dX10_start_0 rfl ?_
  refine rd_iconst C dX10_start_1 (n := 0) ⟨by decide, by decide⟩ ?_
  refine rd_callV C (c_X10_shownFrom hc (by omega) (by omega)) rm_X10_41 ri_X10_shownFrom rs_X10_shownFrom rc_X10_shownFrom rz_X10 ⟨rp_X10_shownFrom, rfl, rfl, by decide, by decide⟩ rfl rd_kcl10 dX10_start_2 rd_c0 rd_m0 rfl (Nat.le_of_ble_eq_true rfl) (fun v1 w1 hq => ?_)
  obtain ⟨hv1, hm1⟩ := hq; rw [hv1, hm1]; clear hv1 hm1
  rcases mo_nx_r hc (Int.le_refl 0) with hz | hz
  · rw [show mo_z (mo_nx μ 0) = -6 from by rw [hz]; rfl]
    refine rd_istore_n C dX10_start_5 (by decide) (L' := [rd_R 0, rd_I (-6)]) rfl ?_
    refine rd_iload_n C dX10_start_6 rfl ?_
    refine rd_bipush C dX10_start_7 (n := -6) (by decide) ⟨by decide, by decide⟩ ?_
    refine rd_icmp_ne C dX10_start_9 (tgt := 15) (by decide) (fun h => absurd h (by decide)) (fun _ => ?_)
    refine rd_bipush C dX10_start_12 (n := -5) (by decide) ⟨by decide, by decide⟩ ?_
    exact rd_iret C dX10_start_14 (Or.inl ⟨hz, rfl, rfl⟩)
  · rw [mo_z_ne (by omega : mo_nx μ 0 ≠ -1)]
    refine rd_istore_n C dX10_start_5 (by decide) (L' := [rd_R 0, rd_I (mo_nx μ 0)]) rfl ?_
    refine rd_iload_n C dX10_start_6 rfl ?_
    refine rd_bipush C dX10_start_7 (n := -6) (by decide) ⟨by decide, by decide⟩ ?_
    refine rd_icmp_ne C dX10_start_9 (tgt := 15) (by decide) (fun h_9 => ?_) (fun h_9 => ?_)
    · refine rd_aload_n C dX10_start_15 rfl ?_
      refine rd_callV C (c_X10_save hst) rm_X10_76 ri_X10_save rs_X10_save rc_X10_save rz_X10 ⟨rp_X10_save, rfl, rfl, by decide, by decide⟩ rfl rd_kcl10 dX10_start_16 rd_c0 rd_m0 rfl (Nat.le_of_ble_eq_true rfl) (fun v1 w1 hq => ?_)
      obtain ⟨hv1, hm1⟩ := hq; rw [hv1, show w1 = mo_sv μ from hm1]; clear hv1 hm1
      have hIs := mo_sv_I hst hI
      have hcs := hIs.1.1
      have hcs1 := hcs.1.1
      have hcs2 := hcs.1.2
      have hns1 := hIs.1.2.2.2.1
      have hns2 := hIs.1.2.2.2.2
      refine rd_aload_n C dX10_start_19 rfl ?_
      refine rd_get C rd_g10_0 rf_X10_7 dX10_start_20 rd_c0 rd_m0 (x := rd_R (1)) rfl (fun _ => trivial) ?_
      refine rd_bipush C dX10_start_23 (n := 29) (by decide) ⟨by decide, by decide⟩ ?_
      refine rd_iconst C dX10_start_25 (n := 1) ⟨by decide, by decide⟩ ?_
      refine rd_iast C rd_ai18 dX10_start_26 rd_c1 rd_m1 ⟨by omega, by omega⟩ ?_
      refine rd_aload_n C dX10_start_27 rfl ?_
      refine rd_get C rd_g10_0 rf_X10_7 dX10_start_28 rd_c0 rd_m0 (x := rd_R (1)) rfl (fun _ => trivial) ?_
      refine rd_bipush C dX10_start_31 (n := 30) (by decide) ⟨by decide, by decide⟩ ?_
      refine rd_iload_n C dX10_start_33 rfl ?_
      refine rd_iast C rd_ai18 dX10_start_34 rd_c1 rd_m1 ⟨by omega, by omega⟩ ?_
      refine rd_aload_n C dX10_start_35 rfl ?_
      refine rd_get C rd_g10_0 rf_X10_7 dX10_start_36 rd_c0 rd_m0 (x := rd_R (1)) rfl (fun _ => trivial) ?_
      refine rd_bipush C dX10_start_39 (n := 31) (by decide) ⟨by decide, by decide⟩ ?_
      refine rd_iconst C dX10_start_41 (n := 0) ⟨by decide, by decide⟩ ?_
      refine rd_iast C rd_ai18 dX10_start_42 rd_c1 rd_m1 ⟨by omega, by omega⟩ ?_
      refine rd_aload_n C dX10_start_43 rfl ?_
      refine rd_get C rd_g10_0 rf_X10_7 dX10_start_44 rd_c0 rd_m0 (x := rd_R (1)) rfl (fun _ => trivial) ?_
      refine rd_bipush C dX10_start_47 (n := 32) (by decide) ⟨by decide, by decide⟩ ?_
      refine rd_iconst C dX10_start_49 (n := 0) ⟨by decide, by decide⟩ ?_
      refine rd_iast C rd_ai18 dX10_start_50 rd_c1 rd_m1 ⟨by omega, by omega⟩ ?_
      refine rd_aload_n C dX10_start_51 rfl ?_
      refine rd_get C rd_g10_0 rf_X10_7 dX10_start_52 rd_c0 rd_m0 (x := rd_R (1)) rfl (fun _ => trivial) ?_
      refine rd_bipush C dX10_start_55 (n := 33) (by decide) ⟨by decide, by decide⟩ ?_
      refine rd_iconst C dX10_start_57 (n := 0) ⟨by decide, by decide⟩ ?_
      refine rd_iast C rd_ai18 dX10_start_58 rd_c1 rd_m1 ⟨by omega, by omega⟩ ?_
      refine rd_aload_n C dX10_start_59 rfl ?_
      refine rd_get C rd_g10_0 rf_X10_7 dX10_start_60 rd_c0 rd_m0 (x := rd_R (1)) rfl (fun _ => trivial) ?_
      refine rd_bipush C dX10_start_63 (n := 34) (by decide) ⟨by decide, by decide⟩ ?_
      refine rd_iconst C dX10_start_65 (n := 0) ⟨by decide, by decide⟩ ?_
      refine rd_iast C rd_ai18 dX10_start_66 rd_c1 rd_m1 ⟨by omega, by omega⟩ ?_
      refine rd_aload_n C dX10_start_67 rfl ?_
      refine rd_get C rd_g10_0 rf_X10_7 dX10_start_68 rd_c0 rd_m0 (x := rd_R (1)) rfl (fun _ => trivial) ?_
      refine rd_bipush C dX10_start_71 (n := 35) (by decide) ⟨by decide, by decide⟩ ?_
      refine rd_iconst C dX10_start_73 (n := 0) ⟨by decide, by decide⟩ ?_
      refine rd_iast C rd_ai18 dX10_start_74 rd_c1 rd_m1 ⟨by omega, by omega⟩ ?_
      refine rd_iload_n C dX10_start_75 rfl ?_
      exact rd_iret C dX10_start_76 (Or.inr (⟨by omega, rfl, rfl⟩))
    · exfalso; omega
set_option maxHeartbeats 4000000 in
set_option maxRecDepth 100000 in
theorem c_X10_stop {l : Launch} {G : rd_G} {r : Nat} {μ : rd_Mem} (hI : mo_I μ) (hst : 0 ≤ μ 0 1 ∧ μ 0 1 ≤ 4) : rd_M l G rd_km 5 r yX10_stop cX10_stop 1 (some .int) (rd_rm 2 44) [rd_R 0] μ (fun v μ' => (μ 1 29 = 0 ∧ v = some (rd_I (-5)) ∧ μ' = μ) ∨ (μ 1 29 ≠ 0 ∧ v = some (rd_I (mo_sv μ 1 32)) ∧ μ' = rd_u (mo_sv μ) 1 29 0)) := by
  refine rd_enter (by decide +kernel) (Nat.le_of_ble_eq_true rfl) [rd_R 0] rfl (fun p e s m args below meth c C => ?_)
  refine rd_W.rng (fun hM hL _ => ?_)
  have hc := hI.1.1
  have hc1 := hc.1.1
  have hc2 := hc.1.2
  have hn1 := hI.1.2.2.2.1
  have hn2 := hI.1.2.2.2.2
  refine rd_aload_n C dX10_stop_0 rfl ?_
  refine rd_get C rd_g10_0 rf_X10_7 dX10_stop_1 rd_c0 rd_m0 (x := rd_R (1)) rfl (fun _ => trivial) ?_
  refine rd_bipush C dX10_stop_4 (n := 29) (by decide) ⟨by decide, by decide⟩ ?_
  refine rd_ialdx C rd_ai18 dX10_stop_6 rd_c1 rd_m1 ⟨by omega, by omega⟩ (z := μ 1 29) rfl ?_
  refine rd_if_ne C dX10_stop_7 (tgt := 13) (by decide) (fun h_7 => ?_) (fun h_7 => ?_)
  · refine rd_aload_n C dX10_stop_13 rfl ?_
    refine rd_callV C (c_X10_save hst) rm_X10_76 ri_X10_save rs_X10_save rc_X10_save rz_X10 ⟨rp_X10_save, rfl, rfl, by decide, by decide⟩ rfl rd_kcl10 dX10_stop_14 rd_c0 rd_m0 rfl (Nat.le_of_ble_eq_true rfl) (fun v1 w1 hq => ?_)
    obtain ⟨hv1, hm1⟩ := hq; rw [hv1, show w1 = mo_sv μ from hm1]; clear hv1 hm1
    have hIs := mo_sv_I hst hI
    have hcs := hIs.1.1
    have hcs1 := hcs.1.1
    have hcs2 := hcs.1.2
    have hns1 := hIs.1.2.2.2.1
    have hns2 := hIs.1.2.2.2.2
    refine rd_aload_n C dX10_stop_17 rfl ?_
    refine rd_get C rd_g10_0 rf_X10_7 dX10_stop_18 rd_c0 rd_m0 (x := rd_R (1)) rfl (fun _ => trivial) ?_
    refine rd_bipush C dX10_stop_21 (n := 29) (by decide) ⟨by decide, by decide⟩ ?_
    refine rd_iconst C dX10_stop_23 (n := 0) ⟨by decide, by decide⟩ ?_
    refine rd_iast C rd_ai18 dX10_stop_24 rd_c1 rd_m1 ⟨by omega, by omega⟩ ?_
    refine rd_aload_n C dX10_stop_25 rfl ?_
    refine rd_get C rd_g10_0 rf_X10_7 dX10_stop_26 rd_c0 rd_m0 (x := rd_R (1)) rfl (fun _ => trivial) ?_
    refine rd_bipush C dX10_stop_29 (n := 32) (by decide) ⟨by decide, by decide⟩ ?_
    refine rd_ialdx C rd_ai18 dX10_stop_31 rd_c1 rd_m1 ⟨by omega, by omega⟩ (z := (mo_sv μ) 1 32) (by rw [rd_u_j _ _ _ (by omega)]) ?_
    exact rd_iret C dX10_stop_32 (Or.inr (⟨h_7, rfl, rfl⟩))
  · refine rd_bipush C dX10_stop_10 (n := -5) (by decide) ⟨by decide, by decide⟩ ?_
    exact rd_iret C dX10_stop_12 (Or.inl ⟨h_7, rfl, rfl⟩)
theorem sp_fb_cl {p q : Int → Prop} {n : Nat} (h : ∀ i : Int, 0 ≤ i → i < n → (p i ↔ q i)) : sp_fb p n = sp_fb q n := by
  induction n with
  | zero => rfl
  | succ n ih =>
    simp only [sp_fb]
    rw [ih (fun i h0 h1 => h i h0 (by omega)), propext (h n (by omega) (by omega))]
theorem mo_cf_c {μ ν : rd_Mem} (h : ∀ j : Int, 0 ≤ j ∧ j < 476 → ν 1 j = μ 1 j) (hI : mo_I μ) (h29 : μ 1 29 = 1) : mo_cf ν ↔ mo_cf μ := by
  have ha := mo_I_at hI h29
  have hc := hI.1.1
  unfold mo_cf
  rw [h 31 (by omega), h 30 (by omega), mo_FS_c (fun j a b => h j (by omega)) ha.1.1 ha.1.2 ha.2.1.1.2, mo_pl_c (fun j a b => h j (by omega)) hc.1, mo_nx_c (fun j hj => h j (by omega)) hc (by have := ha.2.2.1; omega)]
theorem mo_bp_c {μ ν : rd_Mem} (h : ∀ j : Int, 0 ≤ j ∧ j < 476 → ν 1 j = μ 1 j) (h4 : 0 ≤ μ 1 35 ∧ μ 1 35 ≤ 40) : mo_bp ν = mo_bp μ := by
  unfold mo_bp
  rw [h 35 (by omega)]
  refine sp_fb_cl (fun i i0 i1 => ?_)
  have e1 := h (36 + 3 * i) (by omega)
  have e2 := h (36 + 3 * i + 2) (by omega)
  have ht := mo_t_c (μ := μ) (ν := ν) (fun j a b => h j (by omega)) (μ 1 (36 + 3 * i))
  unfold mo_bpp
  rw [e1, e2, ht]
  constructor
  · rintro ⟨g1, g2⟩
    have e3 : mo_o ν (μ 1 (36 + 3 * i)) 1 = mo_o μ (μ 1 (36 + 3 * i)) 1 := h _ (by have := g1.1; omega)
    exact ⟨g1, by rw [← e3]; exact g2⟩
  · rintro ⟨g1, g2⟩
    have e3 : mo_o ν (μ 1 (36 + 3 * i)) 1 = mo_o μ (μ 1 (36 + 3 * i)) 1 := h _ (by have := g1.1; omega)
    exact ⟨g1, by rw [e3]; exact g2⟩
theorem mo_bp_r0 (μ : rd_Mem) (h5 : 0 ≤ μ 1 35) : mo_bp μ = -1 ∨ (0 ≤ mo_bp μ ∧ mo_bp μ < μ 1 35) := by
  unfold mo_bp
  rcases sp_fb_spec (mo_bpp μ) (μ 1 35).toNat with ⟨h1, -⟩ | ⟨h1, h2, -⟩
  · exact Or.inl h1
  · exact Or.inr (by omega)
set_option maxHeartbeats 4000000 in
set_option maxRecDepth 100000 in
theorem c_X10_forward {l : Launch} {G : rd_G} {r : Nat} {μ : rd_Mem} (hI : mo_I μ) (hst : 0 ≤ μ 0 1 ∧ μ 0 1 ≤ 4) : rd_M l G rd_km 5 r yX10_forward cX10_forward 1 (some .int) (rd_rm 5 106) [rd_R 0] μ (fun v μ' => (¬ (mo_on μ ∧ mo_cf μ) ∧ v = some (rd_I (-5)) ∧ μ' = μ) ∨ ((mo_on μ ∧ mo_cf μ) ∧ v = some (rd_I (mo_fw (mo_sv μ) 1 31)) ∧ μ' = mo_fw (mo_sv μ))) := by
  refine rd_enter (by decide +kernel) (Nat.le_of_ble_eq_true rfl) [rd_R 0] rfl (fun p e s m args below meth c C => ?_)
  refine rd_W.rng (fun hM hL _ => ?_)
  have hc := hI.1.1
  have hc1 := hc.1.1
  have hc2 := hc.1.2
  have hn1 := hI.1.2.2.2.1
  have hn2 := hI.1.2.2.2.2
  refine rd_aload_n C dX10_forward_0 rfl ?_
  refine rd_callV C (c_X10_isOn) rm_X10_98 ri_X10_isOn rs_X10_isOn rc_X10_isOn rz_X10 ⟨rp_X10_isOn, rfl, rfl, by decide, by decide⟩ rfl rd_kcl10 dX10_forward_1 rd_c0 rd_m0 rfl (Nat.le_of_ble_eq_true rfl) (fun v1 w1 hq => ?_)
  rcases hq with ⟨hw_4, hv1, hm1⟩ | ⟨hw_4, hv1, hm1⟩
  · rw [hv1, hm1]; clear hv1 hm1 v1 w1
    refine rd_if_eq C dX10_forward_4 (tgt := 14) (by decide) (fun h => absurd h (by decide)) (fun _ => ?_)
    refine rd_aload_n C dX10_forward_7 rfl ?_
    refine rd_callV C (c_X10_canForward hc (mo_I_at hI hw_4.1)) rm_X10_62 ri_X10_canForward rs_X10_canForward rc_X10_canForward rz_X10 ⟨rp_X10_canForward, rfl, rfl, by decide, by decide⟩ rfl rd_kcl10 dX10_forward_8 rd_c0 rd_m0 rfl (Nat.le_of_ble_eq_true rfl) (fun v1 w1 hq => ?_)
    rcases hq with ⟨hw_11, hv1, hm1⟩ | ⟨hw_11, hv1, hm1⟩
    · rw [hv1, hm1]; clear hv1 hm1 v1 w1
      refine rd_if_ne C dX10_forward_11 (tgt := 17) (by decide) (fun _ => ?_) (fun h => absurd h (by decide))
      refine rd_aload_n C dX10_forward_17 rfl ?_
      refine rd_callV C (c_X10_save hst) rm_X10_76 ri_X10_save rs_X10_save rc_X10_save rz_X10 ⟨rp_X10_save, rfl, rfl, by decide, by decide⟩ rfl rd_kcl10 dX10_forward_18 rd_c0 rd_m0 rfl (Nat.le_of_ble_eq_true rfl) (fun v1 w1 hq => ?_)
      obtain ⟨hv1, hm1⟩ := hq; rw [hv1, show w1 = mo_sv μ from hm1]; clear hv1 hm1
      have hIs := mo_sv_I hst hI
      have hcs := hIs.1.1
      have hcs1 := hcs.1.1
      have hcs2 := hcs.1.2
      have hns1 := hIs.1.2.2.2.1
      have hns2 := hIs.1.2.2.2.2
      have hs29 : mo_sv μ 1 29 = 1 := (mo_sv_lo hst (by omega)).trans hw_4.1
      have hcf := (mo_cf_c (fun j hj => mo_sv_lo hst hj) hI hw_4.1).mpr hw_11
      refine rd_aload_n C dX10_forward_21 rfl ?_
      refine rd_callV C (c_X10_forwards hcs (mo_I_at hIs hs29) hIs.2.1 hIs.2.2.1 hcf) rm_X10_65 ri_X10_forwards rs_X10_forwards rc_X10_forwards rz_X10 ⟨rp_X10_forwards, rfl, rfl, by decide, by decide⟩ rfl rd_kcl10 dX10_forward_22 rd_c0 rd_m0 rfl (Nat.le_of_ble_eq_true rfl) (fun v1 w1 hq => ?_)
      obtain ⟨hv1, hm1⟩ := hq; rw [show v1 = some (rd_I (mo_fw (mo_sv μ) 1 31)) from hv1, show w1 = mo_fw (mo_sv μ) from hm1]; clear hv1 hm1
      exact rd_iret C dX10_forward_25 (Or.inr (⟨⟨hw_4, hw_11⟩, rfl, rfl⟩))
    · rw [hv1, hm1]; clear hv1 hm1 v1 w1
      refine rd_if_ne C dX10_forward_11 (tgt := 17) (by decide) (fun h => absurd h (by decide)) (fun _ => ?_)
      refine rd_bipush C dX10_forward_14 (n := -5) (by decide) ⟨by decide, by decide⟩ ?_
      exact rd_iret C dX10_forward_16 (Or.inl ⟨(fun h => by first | exact hw_4 h.1 | exact hw_11 h.2), rfl, rfl⟩)
  · rw [hv1, hm1]; clear hv1 hm1 v1 w1
    refine rd_if_eq C dX10_forward_4 (tgt := 14) (by decide) (fun _ => ?_) (fun h => absurd h (by decide))
    refine rd_bipush C dX10_forward_14 (n := -5) (by decide) ⟨by decide, by decide⟩ ?_
    exact rd_iret C dX10_forward_16 (Or.inl ⟨(fun h => by first | exact hw_4 h.1 | exact hw_11 h.2), rfl, rfl⟩)
set_option maxHeartbeats 4000000 in
set_option maxRecDepth 100000 in
theorem c_X10_back {l : Launch} {G : rd_G} {r : Nat} {μ : rd_Mem} (hI : mo_I μ) (hst : 0 ≤ μ 0 1 ∧ μ 0 1 ≤ 4) : rd_M l G rd_km 5 r yX10_back cX10_back 1 (some .int) (rd_rm 4 87) [rd_R 0] μ (fun v μ' => (¬ (mo_on μ ∧ mo_bp μ ≠ -1) ∧ v = some (rd_I (-5)) ∧ μ' = μ) ∨ ((mo_on μ ∧ mo_bp μ ≠ -1) ∧ v = some (rd_I (mo_bk (mo_sv μ) 1 31)) ∧ μ' = mo_bk (mo_sv μ))) := by
  refine rd_enter (by decide +kernel) (Nat.le_of_ble_eq_true rfl) [rd_R 0] rfl (fun p e s m args below meth c C => ?_)
  refine rd_W.rng (fun hM hL _ => ?_)
  have hc := hI.1.1
  have hc1 := hc.1.1
  have hc2 := hc.1.2
  have hn1 := hI.1.2.2.2.1
  have hn2 := hI.1.2.2.2.2
  refine rd_aload_n C dX10_back_0 rfl ?_
  refine rd_callV C (c_X10_isOn) rm_X10_98 ri_X10_isOn rs_X10_isOn rc_X10_isOn rz_X10 ⟨rp_X10_isOn, rfl, rfl, by decide, by decide⟩ rfl rd_kcl10 dX10_back_1 rd_c0 rd_m0 rfl (Nat.le_of_ble_eq_true rfl) (fun v1 w1 hq => ?_)
  rcases hq with ⟨hw_4, hv1, hm1⟩ | ⟨hw_4, hv1, hm1⟩
  · rw [hv1, hm1]; clear hv1 hm1 v1 w1
    refine rd_if_eq C dX10_back_4 (tgt := 16) (by decide) (fun h => absurd h (by decide)) (fun _ => ?_)
    refine rd_aload_n C dX10_back_7 rfl ?_
    refine rd_callV C (c_X10_backPlace hI.2.1.1 hI.2.1.2) rm_X10_58 ri_X10_backPlace rs_X10_backPlace rc_X10_backPlace rz_X10 ⟨rp_X10_backPlace, rfl, rfl, by decide, by decide⟩ rfl rd_kcl10 dX10_back_8 rd_c0 rd_m0 rfl (Nat.le_of_ble_eq_true rfl) (fun v1 w1 hq => ?_)
    obtain ⟨hv1, hm1⟩ := hq; rw [hv1, hm1]; clear hv1 hm1
    rcases mo_bp_r0 μ hI.2.1.1 with hz | hz
    · rw [show mo_z (mo_bp μ) = -6 from by rw [hz]; rfl]
      refine rd_bipush C dX10_back_11 (n := -6) (by decide) ⟨by decide, by decide⟩ ?_
      refine rd_icmp_ne C dX10_back_13 (tgt := 19) (by decide) (fun h => absurd h (by decide)) (fun _ => ?_)
      refine rd_bipush C dX10_back_16 (n := -5) (by decide) ⟨by decide, by decide⟩ ?_
      exact rd_iret C dX10_back_18 (Or.inl ⟨(fun h => by first | exact hw_4 h.1 | exact h.2 hz), rfl, rfl⟩)
    · rw [mo_z_ne (by omega : mo_bp μ ≠ -1)]
      refine rd_bipush C dX10_back_11 (n := -6) (by decide) ⟨by decide, by decide⟩ ?_
      refine rd_icmp_ne C dX10_back_13 (tgt := 19) (by decide) (fun h_13 => ?_) (fun h_13 => ?_)
      · refine rd_aload_n C dX10_back_19 rfl ?_
        refine rd_callV C (c_X10_save hst) rm_X10_76 ri_X10_save rs_X10_save rc_X10_save rz_X10 ⟨rp_X10_save, rfl, rfl, by decide, by decide⟩ rfl rd_kcl10 dX10_back_20 rd_c0 rd_m0 rfl (Nat.le_of_ble_eq_true rfl) (fun v1 w1 hq => ?_)
        obtain ⟨hv1, hm1⟩ := hq; rw [hv1, show w1 = mo_sv μ from hm1]; clear hv1 hm1
        have hIs := mo_sv_I hst hI
        have hcs := hIs.1.1
        have hcs1 := hcs.1.1
        have hcs2 := hcs.1.2
        have hns1 := hIs.1.2.2.2.1
        have hns2 := hIs.1.2.2.2.2
        have hbp := mo_bp_c (fun j hj => mo_sv_lo hst hj) hI.2.1
        refine rd_aload_n C dX10_back_23 rfl ?_
        refine rd_callV C (c_X10_backs hIs.2.1 (by rw [hbp]; omega) (fun n h => (hIs.1.2.1 n h).1)) rm_X10_101 ri_X10_backs rs_X10_backs rc_X10_backs rz_X10 ⟨rp_X10_backs, rfl, rfl, by decide, by decide⟩ rfl rd_kcl10 dX10_back_24 rd_c0 rd_m0 rfl (Nat.le_of_ble_eq_true rfl) (fun v1 w1 hq => ?_)
        obtain ⟨hv1, hm1⟩ := hq; rw [show v1 = some (rd_I (mo_bk (mo_sv μ) 1 31)) from hv1, show w1 = mo_bk (mo_sv μ) from hm1]; clear hv1 hm1
        exact rd_iret C dX10_back_27 (Or.inr (⟨⟨hw_4, by omega⟩, rfl, rfl⟩))
      · exfalso; omega
  · rw [hv1, hm1]; clear hv1 hm1 v1 w1
    refine rd_if_eq C dX10_back_4 (tgt := 16) (by decide) (fun _ => ?_) (fun h => absurd h (by decide))
    refine rd_bipush C dX10_back_16 (n := -5) (by decide) ⟨by decide, by decide⟩ ?_
    exact rd_iret C dX10_back_18 (Or.inl ⟨(fun h => by first | exact hw_4 h.1 | exact h.2 hz), rfl, rfl⟩)
set_option maxHeartbeats 4000000 in
set_option maxRecDepth 100000 in
theorem c_X10_press {l : Launch} {G : rd_G} {r : Nat} {μ : rd_Mem} (hI : mo_I μ) (hst : 0 ≤ μ 0 1 ∧ μ 0 1 ≤ 4) {k0 : Int} : rd_M l G rd_km 5 r yX10_press cX10_press 2 (some .int) (rd_rm 2 45) [rd_R 0, rd_I k0] μ (fun v μ' => ((k0 < 0 ∨ 9 < k0) ∧ v = some (rd_I (-2)) ∧ μ' = μ) ∨ (((0 ≤ k0 ∧ k0 ≤ 9) ∧ ¬ (mo_on μ ∧ mo_o μ (μ 1 30) (22 + k0) ≠ -6)) ∧ v = some (rd_I (-5)) ∧ μ' = μ) ∨ (((0 ≤ k0 ∧ k0 ≤ 9) ∧ (mo_on μ ∧ mo_o μ (μ 1 30) (22 + k0) ≠ -6)) ∧ v = some (rd_I (mo_cm (mo_sv μ) (mo_o (mo_sv μ) (mo_sv μ 1 30) (22 + k0)) 0 1 1 30)) ∧ μ' = mo_cm (mo_sv μ) (mo_o (mo_sv μ) (mo_sv μ 1 30) (22 + k0)) 0 1)) := by
  refine rd_enter (by decide +kernel) (Nat.le_of_ble_eq_true rfl) [rd_R 0, rd_I k0] rfl (fun p e s m args below meth c C => ?_)
  refine rd_W.rng (fun hM hL _ => ?_)
  have hc := hI.1.1
  have hc1 := hc.1.1
  have hc2 := hc.1.2
  have hn1 := hI.1.2.2.2.1
  have hn2 := hI.1.2.2.2.2
  refine rd_aload_n C dX10_press_0 rfl ?_
  refine rd_iload_n C dX10_press_1 rfl ?_
  refine rd_callV C (c_X10_isKey) rm_X10_89 ri_X10_isKey rs_X10_isKey rc_X10_isKey rz_X10 ⟨rp_X10_isKey, rfl, rfl, by decide, by decide⟩ rfl rd_kcl10 dX10_press_2 rd_c0 rd_m0 rfl (Nat.le_of_ble_eq_true rfl) (fun v1 w1 hq => ?_)
  rcases hq with ⟨hw_5, hv1, hm1⟩ | ⟨hw_5, hv1, hm1⟩
  · rw [hv1, hm1]; clear hv1 hm1 v1 w1
    refine rd_if_ne C dX10_press_5 (tgt := 11) (by decide) (fun _ => ?_) (fun h => absurd h (by decide))
    refine rd_aload_n C dX10_press_11 rfl ?_
    refine rd_callV C (c_X10_isOn) rm_X10_98 ri_X10_isOn rs_X10_isOn rc_X10_isOn rz_X10 ⟨rp_X10_isOn, rfl, rfl, by decide, by decide⟩ rfl rd_kcl10 dX10_press_12 rd_c0 rd_m0 rfl (Nat.le_of_ble_eq_true rfl) (fun v1 w1 hq => ?_)
    rcases hq with ⟨hw_15, hv1, hm1⟩ | ⟨hw_15, hv1, hm1⟩
    · rw [hv1, hm1]; clear hv1 hm1 v1 w1
      refine rd_if_eq C dX10_press_15 (tgt := 26) (by decide) (fun h => absurd h (by decide)) (fun _ => ?_)
      refine rd_aload_n C dX10_press_18 rfl ?_
      refine rd_iload_n C dX10_press_19 rfl ?_
      refine rd_callV C (c_X10_canPress (mo_I_at hI hw_15.1).1 hw_5) rm_X10_104 ri_X10_canPress rs_X10_canPress rc_X10_canPress rz_X10 ⟨rp_X10_canPress, rfl, rfl, by decide, by decide⟩ rfl rd_kcl10 dX10_press_20 rd_c0 rd_m0 rfl (Nat.le_of_ble_eq_true rfl) (fun v1 w1 hq => ?_)
      rcases hq with ⟨hw_23, hv1, hm1⟩ | ⟨hw_23, hv1, hm1⟩
      · rw [hv1, hm1]; clear hv1 hm1 v1 w1
        refine rd_if_ne C dX10_press_23 (tgt := 29) (by decide) (fun _ => ?_) (fun h => absurd h (by decide))
        refine rd_aload_n C dX10_press_29 rfl ?_
        refine rd_callV C (c_X10_save hst) rm_X10_76 ri_X10_save rs_X10_save rc_X10_save rz_X10 ⟨rp_X10_save, rfl, rfl, by decide, by decide⟩ rfl rd_kcl10 dX10_press_30 rd_c0 rd_m0 rfl (Nat.le_of_ble_eq_true rfl) (fun v1 w1 hq => ?_)
        obtain ⟨hv1, hm1⟩ := hq; rw [hv1, show w1 = mo_sv μ from hm1]; clear hv1 hm1
        have hIs := mo_sv_I hst hI
        have hcs := hIs.1.1
        have hcs1 := hcs.1.1
        have hcs2 := hcs.1.2
        have hns1 := hIs.1.2.2.2.1
        have hns2 := hIs.1.2.2.2.2
        have hs29 : mo_sv μ 1 29 = 1 := (mo_sv_lo hst (by omega)).trans hw_15.1
        refine rd_aload_n C dX10_press_33 rfl ?_
        refine rd_iload_n C dX10_press_34 rfl ?_
        refine rd_callV C (c_X10_presses (mo_I_at hIs hs29).1 hw_5 hIs.2.1) rm_X10_107 ri_X10_presses rs_X10_presses rc_X10_presses rz_X10 ⟨rp_X10_presses, rfl, rfl, by decide, by decide⟩ rfl rd_kcl10 dX10_press_35 rd_c0 rd_m0 rfl (Nat.le_of_ble_eq_true rfl) (fun v1 w1 hq => ?_)
        obtain ⟨hv1, hm1⟩ := hq; rw [show v1 = some (rd_I (mo_cm (mo_sv μ) (mo_o (mo_sv μ) (mo_sv μ 1 30) (22 + k0)) 0 1 1 30)) from hv1, show w1 = mo_cm (mo_sv μ) (mo_o (mo_sv μ) (mo_sv μ 1 30) (22 + k0)) 0 1 from hm1]; clear hv1 hm1
        exact rd_iret C dX10_press_38 (Or.inr (Or.inr (⟨⟨hw_5, hw_15, hw_23⟩, rfl, rfl⟩)))
      · rw [hv1, hm1]; clear hv1 hm1 v1 w1
        refine rd_if_ne C dX10_press_23 (tgt := 29) (by decide) (fun h => absurd h (by decide)) (fun _ => ?_)
        refine rd_bipush C dX10_press_26 (n := -5) (by decide) ⟨by decide, by decide⟩ ?_
        exact rd_iret C dX10_press_28 (Or.inr (Or.inl ⟨⟨hw_5, (fun h => by first | exact hw_15 h.1 | exact h.2 hw_23)⟩, rfl, rfl⟩))
    · rw [hv1, hm1]; clear hv1 hm1 v1 w1
      refine rd_if_eq C dX10_press_15 (tgt := 26) (by decide) (fun _ => ?_) (fun h => absurd h (by decide))
      refine rd_bipush C dX10_press_26 (n := -5) (by decide) ⟨by decide, by decide⟩ ?_
      exact rd_iret C dX10_press_28 (Or.inr (Or.inl ⟨⟨hw_5, (fun h => by first | exact hw_15 h.1 | exact h.2 hw_23)⟩, rfl, rfl⟩))
  · rw [hv1, hm1]; clear hv1 hm1 v1 w1
    refine rd_if_ne C dX10_press_5 (tgt := 11) (by decide) (fun h => absurd h (by decide)) (fun _ => ?_)
    refine rd_bipush C dX10_press_8 (n := -2) (by decide) ⟨by decide, by decide⟩ ?_
    exact rd_iret C dX10_press_10 (Or.inl ⟨hw_5, rfl, rfl⟩)
set_option maxHeartbeats 4000000 in
set_option maxRecDepth 100000 in
theorem c_X10_tick {l : Launch} {G : rd_G} {r : Nat} {μ : rd_Mem} (hI : mo_I μ) (hst : 0 ≤ μ 0 1 ∧ μ 0 1 ≤ 4) {q0 : Int} : rd_M l G rd_km 5 r yX10_tick cX10_tick 2 (some .int) (rd_rm 6 130) [rd_R 0, rd_I q0] μ (fun v μ' => ((q0 < 1 ∨ 99 < q0) ∧ v = some (rd_I (-2)) ∧ μ' = μ) ∨ (((1 ≤ q0 ∧ q0 ≤ 99) ∧ ¬ mo_on μ) ∧ v = some (rd_I (-5)) ∧ μ' = μ) ∨ (((1 ≤ q0 ∧ q0 ≤ 99) ∧ mo_on μ) ∧ v = some (rd_I (mo_pn q0.toNat (mo_sv μ))) ∧ μ' = mo_ps q0.toNat (mo_sv μ))) := by
  refine rd_enter (by decide +kernel) (Nat.le_of_ble_eq_true rfl) [rd_R 0, rd_I q0] rfl (fun p e s m args below meth c C => ?_)
  refine rd_W.rng (fun hM hL _ => ?_)
  have hc := hI.1.1
  have hc1 := hc.1.1
  have hc2 := hc.1.2
  have hn1 := hI.1.2.2.2.1
  have hn2 := hI.1.2.2.2.2
  refine rd_iload_n C dX10_tick_0 rfl ?_
  refine rd_iconst C dX10_tick_1 (n := 1) ⟨by decide, by decide⟩ ?_
  refine rd_bipush C dX10_tick_2 (n := 99) (by decide) ⟨by decide, by decide⟩ ?_
  refine rd_callS C (c_X10_in) rm_X10_22 rt_X10_in rc_X10_in rz_X10 ⟨rp_X10_in, rfl, rfl, by decide, by decide⟩ rfl dX10_tick_4 rfl (Nat.le_of_ble_eq_true rfl) (fun v1 w1 hq => ?_)
  rcases hq with ⟨hw_7, hv1, hm1⟩ | ⟨hw_7, hv1, hm1⟩
  · rw [hv1, hm1]; clear hv1 hm1 v1 w1
    refine rd_if_ne C dX10_tick_7 (tgt := 13) (by decide) (fun _ => ?_) (fun h => absurd h (by decide))
    refine rd_aload_n C dX10_tick_13 rfl ?_
    refine rd_callV C (c_X10_isOn) rm_X10_98 ri_X10_isOn rs_X10_isOn rc_X10_isOn rz_X10 ⟨rp_X10_isOn, rfl, rfl, by decide, by decide⟩ rfl rd_kcl10 dX10_tick_14 rd_c0 rd_m0 rfl (Nat.le_of_ble_eq_true rfl) (fun v1 w1 hq => ?_)
    rcases hq with ⟨hw_17, hv1, hm1⟩ | ⟨hw_17, hv1, hm1⟩
    · rw [hv1, hm1]; clear hv1 hm1 v1 w1
      refine rd_if_ne C dX10_tick_17 (tgt := 23) (by decide) (fun _ => ?_) (fun h => absurd h (by decide))
      refine rd_aload_n C dX10_tick_23 rfl ?_
      refine rd_callV C (c_X10_save hst) rm_X10_76 ri_X10_save rs_X10_save rc_X10_save rz_X10 ⟨rp_X10_save, rfl, rfl, by decide, by decide⟩ rfl rd_kcl10 dX10_tick_24 rd_c0 rd_m0 rfl (Nat.le_of_ble_eq_true rfl) (fun v1 w1 hq => ?_)
      obtain ⟨hv1, hm1⟩ := hq; rw [hv1, show w1 = mo_sv μ from hm1]; clear hv1 hm1
      have hIs := mo_sv_I hst hI
      have hcs := hIs.1.1
      have hcs1 := hcs.1.1
      have hcs2 := hcs.1.2
      have hns1 := hIs.1.2.2.2.1
      have hns2 := hIs.1.2.2.2.2
      have hs29 : mo_sv μ 1 29 = 1 := (mo_sv_lo hst (by omega)).trans hw_17.1
      refine rd_aload_n C dX10_tick_27 rfl ?_
      refine rd_iload_n C dX10_tick_28 rfl ?_
      refine rd_callV C (c_X10_ticks hIs hs29) rm_X10_110 ri_X10_ticks rs_X10_ticks rc_X10_ticks rz_X10 ⟨rp_X10_ticks, rfl, rfl, by decide, by decide⟩ rfl rd_kcl10 dX10_tick_29 rd_c0 rd_m0 rfl (Nat.le_of_ble_eq_true rfl) (fun v1 w1 hq => ?_)
      obtain ⟨hv1, hm1⟩ := hq; rw [show v1 = some (rd_I (mo_pn q0.toNat (mo_sv μ))) from hv1, show w1 = mo_ps q0.toNat (mo_sv μ) from hm1]; clear hv1 hm1
      exact rd_iret C dX10_tick_32 (Or.inr (Or.inr (⟨⟨hw_7, hw_17⟩, rfl, rfl⟩)))
    · rw [hv1, hm1]; clear hv1 hm1 v1 w1
      refine rd_if_ne C dX10_tick_17 (tgt := 23) (by decide) (fun h => absurd h (by decide)) (fun _ => ?_)
      refine rd_bipush C dX10_tick_20 (n := -5) (by decide) ⟨by decide, by decide⟩ ?_
      exact rd_iret C dX10_tick_22 (Or.inr (Or.inl ⟨⟨hw_7, hw_17⟩, rfl, rfl⟩))
  · rw [hv1, hm1]; clear hv1 hm1 v1 w1
    refine rd_if_ne C dX10_tick_7 (tgt := 13) (by decide) (fun h => absurd h (by decide)) (fun _ => ?_)
    refine rd_bipush C dX10_tick_10 (n := -2) (by decide) ⟨by decide, by decide⟩ ?_
    exact rd_iret C dX10_tick_12 (Or.inl ⟨hw_7, rfl, rfl⟩)
