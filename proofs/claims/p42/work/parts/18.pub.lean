set_option maxHeartbeats 4000000 in
set_option maxRecDepth 100000 in
theorem c_X9_addSlide {l : Launch} {G : rd_G} {r : Nat} {μ : rd_Mem} (hI : sp_inv μ) : rd_M l G rd_kc 313 r yX9_addSlide cX9_addSlide 2 (some .int) (rd_rm 5 125) [rd_R 0] μ (fun v μ' => (sp_ff (fun i => μ (5 + 5 * i) 0 = 0) 10 0 = -1 ∧ v = some (rd_I (-4)) ∧ μ' = μ) ∨ (sp_ff (fun i => μ (5 + 5 * i) 0 = 0) 10 0 ≠ -1 ∧ v = some (rd_I (sp_ff (fun i => μ (5 + 5 * i) 0 = 0) 10 0)) ∧ μ' = rd_ins (rd_u (rd_keep μ) (5 + 5 * (sp_ff (fun i => μ (5 + 5 * i) 0 = 0) 10 0)) 0 1) (rd_keep μ 2 0) (sp_ff (fun i => μ (5 + 5 * i) 0 = 0) 10 0))) := by
  refine rd_enter (by decide +kernel) (Nat.le_of_ble_eq_true rfl) [rd_R 0, rd_J] rfl (fun p e s m args below meth c C => ?_)
  refine rd_W.rng (fun hM hL _ => ?_)
  have hc1 := hI.1.1.1
  have hc2 := hI.1.1.2
  have hn1 := hI.2.2.2.2.1.1
  have hn2 := hI.2.2.2.2.1.2
  have htc := hI.1.2.2.2.1
  have hst := hI.1.2.2.2.2
  refine rd_aload_n C dX9_addSlide_0 rfl ?_
  refine rd_get C rd_g9_0 rf_X9_10 dX9_addSlide_1 rd_b0 rd_k0 (x := rd_R (1)) rfl (fun _ => trivial) ?_
  refine rd_get C rd_g8_1 rf_X9_44 dX9_addSlide_4 rd_b1 rd_k1 (x := rd_R (2)) rfl (fun _ => trivial) ?_
  refine rd_callV C (c_X0_lowestFree) rm_X9_48 ri_X0_lowestFree rs_X0_lowestFree rc_X0_lowestFree rz_X0 ⟨rp_X0_lowestFree, rfl, rfl, by decide, by decide⟩ rfl rd_kcl0 dX9_addSlide_7 rd_b2 rd_k2 rfl (Nat.le_of_ble_eq_true rfl) (fun v1 w1 hq => ?_)
  obtain ⟨hv1, hm1⟩ := hq; rw [show v1 = some (rd_I (sp_ff (fun i => μ (5 + 5 * i) 0 = 0) 10 0)) from hv1, hm1]; clear hv1 hm1
  refine rd_istore_n C dX9_addSlide_10 (by decide) (L' := [rd_R 0, rd_I (sp_ff (fun i => μ (5 + 5 * i) 0 = 0) 10 0)]) rfl ?_
  refine rd_iload_n C dX9_addSlide_11 rfl ?_
  refine rd_iconst C dX9_addSlide_12 (n := -1) ⟨by decide, by decide⟩ ?_
  refine rd_icmp_ne C dX9_addSlide_13 (tgt := 19) (by decide) (fun h_13 => ?_) (fun h_13 => ?_)
  · refine rd_aload_n C dX9_addSlide_19 rfl ?_
    refine rd_get C rd_g9_1 rf_X9_19 dX9_addSlide_20 rd_b0 rd_k0 (x := rd_R (62)) rfl (fun _ => trivial) ?_
    refine rd_aload_n C dX9_addSlide_23 rfl ?_
    refine rd_get C rd_g9_0 rf_X9_10 dX9_addSlide_24 rd_b0 rd_k0 (x := rd_R (1)) rfl (fun _ => trivial) ?_
    refine rd_callV C (c_X2_keep hI.2.2.1.1 hI.2.2.1.2.1.1 hI.2.2.1.2.1.2 hI.2.1) rm_X9_54 ri_X2_keep rs_X2_keep rc_X2_keep rz_X2 ⟨rp_X2_keep, rfl, rfl, by decide, by decide⟩ rfl rd_kcl2 dX9_addSlide_27 rd_b62 rd_k62 rfl (Nat.le_of_ble_eq_true rfl) (fun v1 w1 hq => ?_)
    obtain ⟨hv1, hm1⟩ := hq; rw [hv1, hm1]; clear hv1 hm1 v1 w1
    have hkl : ∀ a : Int, a < 62 ∨ 308 ≤ a → rd_keep μ a = μ a := fun a ha => rd_keep_lo hI.2.2.1 ha
    have hk62 : ∀ a : Int, a < 62 → rd_keep μ a = μ a := fun a ha => hkl a (Or.inl ha)
    have hk55 : ∀ a : Int, a < 55 → rd_keep μ a = μ a := fun a ha => hkl a (Or.inl (by omega))
    have hkw := sp_wf_k hI hk62
    have hlf := sp_ff_spec (fun i => μ (5 + 5 * i) 0 = 0) 10 0
    have hlf2 : (0 ≤ sp_ff (fun i => μ (5 + 5 * i) 0 = 0) 10 0 ∧ sp_ff (fun i => μ (5 + 5 * i) 0 = 0) 10 0 < 10) ∧ μ (5 + 5 * (sp_ff (fun i => μ (5 + 5 * i) 0 = 0) 10 0)) 0 = 0 := by
      rcases hlf with ⟨h, -⟩ | ⟨h, h2, -⟩
      · exact absurd h h_13
      · exact ⟨by omega, h2⟩
    have hrm := hI.2.2.2.2.2.2.2 _ hlf2.1.1 hlf2.1.2 hlf2.2
    refine rd_aload_n C dX9_addSlide_30 rfl ?_
    refine rd_get C rd_g9_0 rf_X9_10 dX9_addSlide_31 rd_b0 rd_k0 (x := rd_R (1)) rfl (fun _ => trivial) ?_
    refine rd_get C rd_g8_1 rf_X9_44 dX9_addSlide_34 rd_b1 rd_k1 (x := rd_R (2)) rfl (fun _ => trivial) ?_
    refine rd_iload_n C dX9_addSlide_37 rfl ?_
    refine rd_callV C (c_X0_putSlide (μ := rd_keep μ) hlf2.1.1 hlf2.1.2 (by rw [hkl _ (by omega)]; omega) (by rw [hkl _ (by omega)]; exact hrm)) rm_X9_58 ri_X0_putSlide rs_X0_putSlide rc_X0_putSlide rz_X0 ⟨rp_X0_putSlide, rfl, rfl, by decide, by decide⟩ rfl rd_kcl0 dX9_addSlide_38 rd_b2 rd_k2 rfl (Nat.le_of_ble_eq_true rfl) (fun v1 w1 hq => ?_)
    obtain ⟨hv1, hm1⟩ := hq; rw [hv1, show w1 = rd_ins (rd_u (rd_keep μ) (5 + 5 * (sp_ff (fun i => μ (5 + 5 * i) 0 = 0) 10 0)) 0 1) (rd_keep μ 2 0) (sp_ff (fun i => μ (5 + 5 * i) 0 = 0) 10 0) from hm1]; clear hv1 hm1
    refine rd_iload_n C dX9_addSlide_41 rfl ?_
    exact rd_iret C dX9_addSlide_42 (by first | exact Or.inl ⟨(by first | assumption | omega | exact ⟨by assumption, by omega⟩ | exact ⟨by assumption, by assumption⟩ | exact ⟨by assumption, by assumption, by omega⟩ | exact ⟨by assumption, by omega, by omega⟩ | exact ⟨by assumption, by omega, by omega, by omega⟩ | exact Or.inl (by assumption) | exact Or.inr (by omega) | exact Or.inr (by assumption) | exact Or.inr (Or.inl (by assumption)) | exact Or.inr (Or.inr (by omega)) | trivial), rfl, rfl⟩ | exact Or.inr (⟨(by first | assumption | omega | exact ⟨by assumption, by omega⟩ | exact ⟨by assumption, by assumption⟩ | exact ⟨by assumption, by assumption, by omega⟩ | exact ⟨by assumption, by omega, by omega⟩ | exact ⟨by assumption, by omega, by omega, by omega⟩ | exact Or.inl (by assumption) | exact Or.inr (by omega) | exact Or.inr (by assumption) | exact Or.inr (Or.inl (by assumption)) | exact Or.inr (Or.inr (by omega)) | trivial), rfl, rfl⟩))
  · refine rd_bipush C dX9_addSlide_16 (n := -4) (by decide) ⟨by decide, by decide⟩ ?_
    exact rd_iret C dX9_addSlide_18 (by first | exact Or.inl ⟨(by first | assumption | omega | exact ⟨by assumption, by omega⟩ | exact ⟨by assumption, by assumption⟩ | exact ⟨by assumption, by assumption, by omega⟩ | exact ⟨by assumption, by omega, by omega⟩ | exact ⟨by assumption, by omega, by omega, by omega⟩ | exact Or.inl (by assumption) | exact Or.inr (by omega) | exact Or.inr (by assumption) | exact Or.inr (Or.inl (by assumption)) | exact Or.inr (Or.inr (by omega)) | trivial), rfl, rfl⟩ | exact Or.inr (⟨(by first | assumption | omega | exact ⟨by assumption, by omega⟩ | exact ⟨by assumption, by assumption⟩ | exact ⟨by assumption, by assumption, by omega⟩ | exact ⟨by assumption, by omega, by omega⟩ | exact ⟨by assumption, by omega, by omega, by omega⟩ | exact Or.inl (by assumption) | exact Or.inr (by omega) | exact Or.inr (by assumption) | exact Or.inr (Or.inl (by assumption)) | exact Or.inr (Or.inr (by omega)) | trivial), rfl, rfl⟩))
theorem rd_rms_20 {κ : rd_Mem} {x : Int} (h0 : 0 ≤ x) (h9 : x < 10) : rd_dal (rd_ds0 κ x) x 10 2 0 = κ 2 0 - 1 := by
  have e : rd_clr κ (5 + 5 * x) 10 2 0 = κ 2 0 := by unfold rd_clr; rw [if_neg (by omega), if_neg (by omega)]
  unfold rd_dal; rw [if_neg (by omega)]
  unfold rd_ds0 rd_dfo rd_dfk; rw [if_pos ⟨rfl, rfl⟩, e]
set_option maxHeartbeats 4000000 in
set_option maxRecDepth 100000 in
theorem c_X9_removeSlide {l : Launch} {G : rd_G} {r : Nat} {μ : rd_Mem} (hI : sp_inv μ) {x : Int} : rd_M l G rd_kc 313 r yX9_removeSlide cX9_removeSlide 2 (some .int) (rd_rm 5 125) [rd_R 0, rd_I x] μ (fun v μ' => (¬ sp_th μ x ∧ v = some (rd_I (-1)) ∧ μ' = μ) ∨ ((sp_th μ x ∧ μ 58 0 = x) ∧ v = some (rd_I (-5)) ∧ μ' = μ) ∨ ((sp_th μ x ∧ μ 58 0 ≠ x) ∧ v = some (rd_I (μ 2 0 - 1)) ∧ μ' = rd_dal (rd_ds0 (rd_keep μ) x) x 10)) := by
  refine rd_enter (by decide +kernel) (Nat.le_of_ble_eq_true rfl) [rd_R 0, rd_I x] rfl (fun p e s m args below meth c C => ?_)
  refine rd_W.rng (fun hM hL _ => ?_)
  have hc1 := hI.1.1.1
  have hc2 := hI.1.1.2
  have hn1 := hI.2.2.2.2.1.1
  have hn2 := hI.2.2.2.2.1.2
  have htc := hI.1.2.2.2.1
  have hst := hI.1.2.2.2.2
  refine rd_aload_n C dX9_removeSlide_0 rfl ?_
  refine rd_get C rd_g9_0 rf_X9_10 dX9_removeSlide_1 rd_b0 rd_k0 (x := rd_R (1)) rfl (fun _ => trivial) ?_
  refine rd_get C rd_g8_1 rf_X9_44 dX9_removeSlide_4 rd_b1 rd_k1 (x := rd_R (2)) rfl (fun _ => trivial) ?_
  refine rd_iload_n C dX9_removeSlide_7 rfl ?_
  refine rd_callV C (c_X0_find) rm_X9_62 ri_X0_find rs_X0_find rc_X0_find rz_X0 ⟨rp_X0_find, rfl, rfl, by decide, by decide⟩ rfl rd_kcl0 dX9_removeSlide_8 rd_b2 rd_k2 rfl (Nat.le_of_ble_eq_true rfl) (fun v1 w1 hq => ?_)
  rcases hq with ⟨hw_11, hv1, hm1⟩ | ⟨hw_11, hv1, hm1⟩
  · rw [hv1, hm1]; clear hv1 hm1 v1 w1
    have hS_x := rd_sl1 hw_11.1.1 hw_11.1.2
    have hr_x := hw_11.1
    have hit_x := hI.1.2.1 x hw_11.1.1 hw_11.1.2
    refine rd_ifnonnull_r C dX9_removeSlide_11 (tgt := 16) (by decide) ?_
    refine rd_aload_n C dX9_removeSlide_16 rfl ?_
    refine rd_get C rd_g9_0 rf_X9_10 dX9_removeSlide_17 rd_b0 rd_k0 (x := rd_R (1)) rfl (fun _ => trivial) ?_
    refine rd_get C rd_g8_3 rf_X9_66 dX9_removeSlide_20 rd_b1 rd_k1 (x := rd_R (58)) rfl (fun _ => trivial) ?_
    refine rd_get C rd_g6_0 rf_X9_70 dX9_removeSlide_23 rd_b58 rd_k58 (x := rd_I (μ 58 0)) rfl (fun h => h _ _) ?_
    refine rd_iload_n C dX9_removeSlide_26 rfl ?_
    refine rd_icmp_ne C dX9_removeSlide_27 (tgt := 33) (by decide) (fun h_27 => ?_) (fun h_27 => ?_)
    · refine rd_aload_n C dX9_removeSlide_33 rfl ?_
      refine rd_get C rd_g9_1 rf_X9_19 dX9_removeSlide_34 rd_b0 rd_k0 (x := rd_R (62)) rfl (fun _ => trivial) ?_
      refine rd_aload_n C dX9_removeSlide_37 rfl ?_
      refine rd_get C rd_g9_0 rf_X9_10 dX9_removeSlide_38 rd_b0 rd_k0 (x := rd_R (1)) rfl (fun _ => trivial) ?_
      refine rd_callV C (c_X2_keep hI.2.2.1.1 hI.2.2.1.2.1.1 hI.2.2.1.2.1.2 hI.2.1) rm_X9_54 ri_X2_keep rs_X2_keep rc_X2_keep rz_X2 ⟨rp_X2_keep, rfl, rfl, by decide, by decide⟩ rfl rd_kcl2 dX9_removeSlide_41 rd_b62 rd_k62 rfl (Nat.le_of_ble_eq_true rfl) (fun v1 w1 hq => ?_)
      obtain ⟨hv1, hm1⟩ := hq; rw [hv1, hm1]; clear hv1 hm1 v1 w1
      have hkl : ∀ a : Int, a < 62 ∨ 308 ≤ a → rd_keep μ a = μ a := fun a ha => rd_keep_lo hI.2.2.1 ha
      have hk62 : ∀ a : Int, a < 62 → rd_keep μ a = μ a := fun a ha => hkl a (Or.inl ha)
      have hk55 : ∀ a : Int, a < 55 → rd_keep μ a = μ a := fun a ha => hkl a (Or.inl (by omega))
      have hkw := sp_wf_k hI hk62
      have hth := hw_11
      have hpo := hI.2.2.2.2.2.1 x hw_11
      refine rd_aload_n C dX9_removeSlide_44 rfl ?_
      refine rd_get C rd_g9_0 rf_X9_10 dX9_removeSlide_45 rd_b0 rd_k0 (x := rd_R (1)) rfl (fun _ => trivial) ?_
      refine rd_get C rd_g8_1 rf_X9_44 dX9_removeSlide_48 rd_b1 rd_k1 (x := rd_R (2)) rfl (fun _ => trivial) ?_
      refine rd_iload_n C dX9_removeSlide_51 rfl ?_
      refine rd_callV C (c_X0_dropSlide (μ := rd_keep μ) ((sp_th_c hk55 x).mpr hth) hkw.1 (by rw [sp_pl_c hk55]; exact hpo.1) (by rw [sp_pl_c hk55, hkl _ (by omega)]; exact hpo.2)) rm_X9_76 ri_X0_dropSlide rs_X0_dropSlide rc_X0_dropSlide rz_X0 ⟨rp_X0_dropSlide, rfl, rfl, by decide, by decide⟩ rfl rd_kcl0 dX9_removeSlide_52 rd_b2 rd_k2 rfl (Nat.le_of_ble_eq_true rfl) (fun v1 w1 hq => ?_)
      obtain ⟨hv1, hm1⟩ := hq; rw [hv1, show w1 = rd_dal (rd_ds0 (rd_keep μ) x) x 10 from hm1]; clear hv1 hm1
      have h20 : rd_dal (rd_ds0 (rd_keep μ) x) x 10 2 0 = μ 2 0 - 1 := by rw [rd_rms_20 hr_x.1 hr_x.2, hkl _ (by omega)]
      refine rd_aload_n C dX9_removeSlide_55 rfl ?_
      refine rd_get C rd_g9_0 rf_X9_10 dX9_removeSlide_56 rd_b0 rd_k0 (x := rd_R (1)) rfl (fun _ => trivial) ?_
      refine rd_get C rd_g8_1 rf_X9_44 dX9_removeSlide_59 rd_b1 rd_k1 (x := rd_R (2)) rfl (fun _ => trivial) ?_
      refine rd_get C rd_g0_0 rf_X9_79 dX9_removeSlide_62 rd_b2 rd_k2 (x := rd_I ((rd_dal (rd_ds0 (rd_keep μ) x) x 10) 2 0)) rfl (fun h => h _ _) ?_
      exact rd_iret C dX9_removeSlide_65 (by first | exact Or.inl ⟨(by assumption), rfl, rfl⟩ | exact Or.inr (Or.inl ⟨⟨(by assumption), (by omega)⟩, rfl, rfl⟩) | exact Or.inr (Or.inr ⟨⟨(by assumption), (by omega)⟩, by rw [h20], rfl⟩))
    · refine rd_bipush C dX9_removeSlide_30 (n := -5) (by decide) ⟨by decide, by decide⟩ ?_
      exact rd_iret C dX9_removeSlide_32 (by first | exact Or.inl ⟨(by assumption), rfl, rfl⟩ | exact Or.inr (Or.inl ⟨⟨(by assumption), (by omega)⟩, rfl, rfl⟩) | exact Or.inr (Or.inr ⟨⟨(by assumption), (by omega)⟩, by rw [h20], rfl⟩))
  · rw [hv1, hm1]; clear hv1 hm1 v1 w1
    refine rd_ifnonnull_n C dX9_removeSlide_11 ?_
    refine rd_iconst C dX9_removeSlide_14 (n := -1) ⟨by decide, by decide⟩ ?_
    exact rd_iret C dX9_removeSlide_15 (by first | exact Or.inl ⟨(by assumption), rfl, rfl⟩ | exact Or.inr (Or.inl ⟨⟨(by assumption), (by omega)⟩, rfl, rfl⟩) | exact Or.inr (Or.inr ⟨⟨(by assumption), (by omega)⟩, by rw [h20], rfl⟩))
set_option maxHeartbeats 4000000 in
set_option maxRecDepth 100000 in
theorem c_X9_moveSlide {l : Launch} {G : rd_G} {r : Nat} {μ : rd_Mem} (hI : sp_inv μ) {x q0 : Int} : rd_M l G rd_kc 313 r yX9_moveSlide cX9_moveSlide 4 (some .int) (rd_rm 5 125) [rd_R 0, rd_I x, rd_I q0] μ (fun v μ' => (¬ sp_th μ x ∧ v = some (rd_I (-1)) ∧ μ' = μ) ∨ ((sp_th μ x ∧ (q0 < 0 ∨ μ 2 0 - 1 < q0)) ∧ v = some (rd_I (-2)) ∧ μ' = μ) ∨ ((sp_th μ x ∧ (0 ≤ q0 ∧ q0 ≤ μ 2 0 - 1)) ∧ v = some (rd_I (sp_pl μ x)) ∧ μ' = rd_ins (rd_dfo (rd_keep μ) (sp_pl μ x)) q0 x)) := by
  refine rd_enter (by decide +kernel) (Nat.le_of_ble_eq_true rfl) [rd_R 0, rd_I x, rd_I q0, rd_J] rfl (fun p e s m args below meth c C => ?_)
  refine rd_W.rng (fun hM hL _ => ?_)
  have hc1 := hI.1.1.1
  have hc2 := hI.1.1.2
  have hn1 := hI.2.2.2.2.1.1
  have hn2 := hI.2.2.2.2.1.2
  have htc := hI.1.2.2.2.1
  have hst := hI.1.2.2.2.2
  refine rd_aload_n C dX9_moveSlide_0 rfl ?_
  refine rd_get C rd_g9_0 rf_X9_10 dX9_moveSlide_1 rd_b0 rd_k0 (x := rd_R (1)) rfl (fun _ => trivial) ?_
  refine rd_get C rd_g8_1 rf_X9_44 dX9_moveSlide_4 rd_b1 rd_k1 (x := rd_R (2)) rfl (fun _ => trivial) ?_
  refine rd_iload_n C dX9_moveSlide_7 rfl ?_
  refine rd_callV C (c_X0_find) rm_X9_62 ri_X0_find rs_X0_find rc_X0_find rz_X0 ⟨rp_X0_find, rfl, rfl, by decide, by decide⟩ rfl rd_kcl0 dX9_moveSlide_8 rd_b2 rd_k2 rfl (Nat.le_of_ble_eq_true rfl) (fun v1 w1 hq => ?_)
  rcases hq with ⟨hw_11, hv1, hm1⟩ | ⟨hw_11, hv1, hm1⟩
  · rw [hv1, hm1]; clear hv1 hm1 v1 w1
    have hS_x := rd_sl1 hw_11.1.1 hw_11.1.2
    have hr_x := hw_11.1
    have hit_x := hI.1.2.1 x hw_11.1.1 hw_11.1.2
    refine rd_ifnonnull_r C dX9_moveSlide_11 (tgt := 16) (by decide) ?_
    refine rd_iload_n C dX9_moveSlide_16 rfl ?_
    refine rd_iconst C dX9_moveSlide_17 (n := 0) ⟨by decide, by decide⟩ ?_
    refine rd_aload_n C dX9_moveSlide_18 rfl ?_
    refine rd_get C rd_g9_0 rf_X9_10 dX9_moveSlide_19 rd_b0 rd_k0 (x := rd_R (1)) rfl (fun _ => trivial) ?_
    refine rd_get C rd_g8_1 rf_X9_44 dX9_moveSlide_22 rd_b1 rd_k1 (x := rd_R (2)) rfl (fun _ => trivial) ?_
    refine rd_get C rd_g0_0 rf_X9_79 dX9_moveSlide_25 rd_b2 rd_k2 (x := rd_I (μ 2 0)) rfl (fun h => h _ _) ?_
    refine rd_iconst C dX9_moveSlide_28 (n := 1) ⟨by decide, by decide⟩ ?_
    refine rd_isub C dX9_moveSlide_29 (z := μ 2 0 - 1) rfl ⟨by omega, by omega⟩ ?_
    refine rd_callS C (c_X9_isWithin) rm_X9_82 rt_X9_isWithin rc_X9_isWithin rz_X9 ⟨rp_X9_isWithin, rfl, rfl, by decide, by decide⟩ rfl dX9_moveSlide_30 rfl (Nat.le_of_ble_eq_true rfl) (fun v1 w1 hq => ?_)
    rcases hq with ⟨hw_33, hv1, hm1⟩ | ⟨hw_33, hv1, hm1⟩
    · rw [hv1, hm1]; clear hv1 hm1 v1 w1
      refine rd_if_ne C dX9_moveSlide_33 (tgt := 39) (by decide) (fun _ => ?_) (fun h => absurd h (by decide))
      refine rd_aload_n C dX9_moveSlide_39 rfl ?_
      refine rd_get C rd_g9_1 rf_X9_19 dX9_moveSlide_40 rd_b0 rd_k0 (x := rd_R (62)) rfl (fun _ => trivial) ?_
      refine rd_aload_n C dX9_moveSlide_43 rfl ?_
      refine rd_get C rd_g9_0 rf_X9_10 dX9_moveSlide_44 rd_b0 rd_k0 (x := rd_R (1)) rfl (fun _ => trivial) ?_
      refine rd_callV C (c_X2_keep hI.2.2.1.1 hI.2.2.1.2.1.1 hI.2.2.1.2.1.2 hI.2.1) rm_X9_54 ri_X2_keep rs_X2_keep rc_X2_keep rz_X2 ⟨rp_X2_keep, rfl, rfl, by decide, by decide⟩ rfl rd_kcl2 dX9_moveSlide_47 rd_b62 rd_k62 rfl (Nat.le_of_ble_eq_true rfl) (fun v1 w1 hq => ?_)
      obtain ⟨hv1, hm1⟩ := hq; rw [hv1, hm1]; clear hv1 hm1 v1 w1
      have hkl : ∀ a : Int, a < 62 ∨ 308 ≤ a → rd_keep μ a = μ a := fun a ha => rd_keep_lo hI.2.2.1 ha
      have hk62 : ∀ a : Int, a < 62 → rd_keep μ a = μ a := fun a ha => hkl a (Or.inl ha)
      have hk55 : ∀ a : Int, a < 55 → rd_keep μ a = μ a := fun a ha => hkl a (Or.inl (by omega))
      have hkw := sp_wf_k hI hk62
      have hth := hw_11
      have hpo := hI.2.2.2.2.2.1 x hw_11
      have hd2 : rd_dfo (rd_keep μ) (sp_pl μ x) 2 0 = μ 2 0 - 1 := by unfold rd_dfo rd_dfk; rw [if_pos ⟨rfl, rfl⟩, hkl _ (by omega)]
      refine rd_aload_n C dX9_moveSlide_50 rfl ?_
      refine rd_get C rd_g9_0 rf_X9_10 dX9_moveSlide_51 rd_b0 rd_k0 (x := rd_R (1)) rfl (fun _ => trivial) ?_
      refine rd_get C rd_g8_1 rf_X9_44 dX9_moveSlide_54 rd_b1 rd_k1 (x := rd_R (2)) rfl (fun _ => trivial) ?_
      refine rd_iload_n C dX9_moveSlide_57 rfl ?_
      refine rd_callV C (c_X0_placeOf hkw.1) rm_X9_86 ri_X0_placeOf rs_X0_placeOf rc_X0_placeOf rz_X0 ⟨rp_X0_placeOf, rfl, rfl, by decide, by decide⟩ rfl rd_kcl0 dX9_moveSlide_58 rd_b2 rd_k2 rfl (Nat.le_of_ble_eq_true rfl) (fun v1 w1 hq => ?_)
      obtain ⟨hv1, hm1⟩ := hq; rw [hv1, hm1, sp_pl_c hk55]; clear hv1 hm1 v1 w1
      refine rd_istore_n C dX9_moveSlide_61 (by decide) (L' := [rd_R 0, rd_I x, rd_I q0, rd_I (sp_pl μ x)]) rfl ?_
      refine rd_aload_n C dX9_moveSlide_62 rfl ?_
      refine rd_get C rd_g9_0 rf_X9_10 dX9_moveSlide_63 rd_b0 rd_k0 (x := rd_R (1)) rfl (fun _ => trivial) ?_
      refine rd_get C rd_g8_1 rf_X9_44 dX9_moveSlide_66 rd_b1 rd_k1 (x := rd_R (2)) rfl (fun _ => trivial) ?_
      refine rd_iload_n C dX9_moveSlide_69 rfl ?_
      refine rd_callV C (c_X0_dropFromOrder (μ := rd_keep μ) hkw.1 (by rw [sp_pl_c hk55]; exact hpo.1) (by rw [sp_pl_c hk55, hkl _ (by omega)]; exact hpo.2)) rm_X9_90 ri_X0_dropFromOrder rs_X0_dropFromOrder rc_X0_dropFromOrder rz_X0 ⟨rp_X0_dropFromOrder, rfl, rfl, by decide, by decide⟩ rfl rd_kcl0 dX9_moveSlide_70 rd_b2 rd_k2 rfl (Nat.le_of_ble_eq_true rfl) (fun v1 w1 hq => ?_)
      obtain ⟨hv1, hm1⟩ := hq; rw [hv1, hm1, sp_pl_c hk55]; clear hv1 hm1 v1 w1
      refine rd_aload_n C dX9_moveSlide_73 rfl ?_
      refine rd_get C rd_g9_0 rf_X9_10 dX9_moveSlide_74 rd_b0 rd_k0 (x := rd_R (1)) rfl (fun _ => trivial) ?_
      refine rd_get C rd_g8_1 rf_X9_44 dX9_moveSlide_77 rd_b1 rd_k1 (x := rd_R (2)) rfl (fun _ => trivial) ?_
      refine rd_iload_n C dX9_moveSlide_80 rfl ?_
      refine rd_iload_n C dX9_moveSlide_81 rfl ?_
      refine rd_callV C (c_X0_putInOrder (μ := rd_dfo (rd_keep μ) (sp_pl μ x)) (by omega) (by rw [hd2]; omega) (by rw [hd2]; omega)) rm_X9_93 ri_X0_putInOrder rs_X0_putInOrder rc_X0_putInOrder rz_X0 ⟨rp_X0_putInOrder, rfl, rfl, by decide, by decide⟩ rfl rd_kcl0 dX9_moveSlide_82 rd_b2 rd_k2 rfl (Nat.le_of_ble_eq_true rfl) (fun v1 w1 hq => ?_)
      obtain ⟨hv1, hm1⟩ := hq; rw [hv1, show w1 = rd_ins (rd_dfo (rd_keep μ) (sp_pl μ x)) q0 x from hm1]; clear hv1 hm1
      refine rd_iload_n C dX9_moveSlide_85 rfl ?_
      exact rd_iret C dX9_moveSlide_86 (by first | exact Or.inl ⟨(by first | assumption | omega | exact ⟨by assumption, by omega⟩ | exact ⟨by assumption, by assumption⟩ | exact ⟨by assumption, by assumption, by omega⟩ | exact ⟨by assumption, by omega, by omega⟩ | exact ⟨by assumption, by omega, by omega, by omega⟩ | exact Or.inl (by assumption) | exact Or.inr (by omega) | exact Or.inr (by assumption) | exact Or.inr (Or.inl (by assumption)) | exact Or.inr (Or.inr (by omega)) | trivial), rfl, rfl⟩ | exact Or.inr (Or.inl ⟨(by first | assumption | omega | exact ⟨by assumption, by omega⟩ | exact ⟨by assumption, by assumption⟩ | exact ⟨by assumption, by assumption, by omega⟩ | exact ⟨by assumption, by omega, by omega⟩ | exact ⟨by assumption, by omega, by omega, by omega⟩ | exact Or.inl (by assumption) | exact Or.inr (by omega) | exact Or.inr (by assumption) | exact Or.inr (Or.inl (by assumption)) | exact Or.inr (Or.inr (by omega)) | trivial), rfl, rfl⟩) | exact Or.inr (Or.inr (⟨(by first | assumption | omega | exact ⟨by assumption, by omega⟩ | exact ⟨by assumption, by assumption⟩ | exact ⟨by assumption, by assumption, by omega⟩ | exact ⟨by assumption, by omega, by omega⟩ | exact ⟨by assumption, by omega, by omega, by omega⟩ | exact Or.inl (by assumption) | exact Or.inr (by omega) | exact Or.inr (by assumption) | exact Or.inr (Or.inl (by assumption)) | exact Or.inr (Or.inr (by omega)) | trivial), rfl, rfl⟩)))
    · rw [hv1, hm1]; clear hv1 hm1 v1 w1
      refine rd_if_ne C dX9_moveSlide_33 (tgt := 39) (by decide) (fun h => absurd h (by decide)) (fun _ => ?_)
      refine rd_bipush C dX9_moveSlide_36 (n := -2) (by decide) ⟨by decide, by decide⟩ ?_
      exact rd_iret C dX9_moveSlide_38 (by first | exact Or.inl ⟨(by first | assumption | omega | exact ⟨by assumption, by omega⟩ | exact ⟨by assumption, by assumption⟩ | exact ⟨by assumption, by assumption, by omega⟩ | exact ⟨by assumption, by omega, by omega⟩ | exact ⟨by assumption, by omega, by omega, by omega⟩ | exact Or.inl (by assumption) | exact Or.inr (by omega) | exact Or.inr (by assumption) | exact Or.inr (Or.inl (by assumption)) | exact Or.inr (Or.inr (by omega)) | trivial), rfl, rfl⟩ | exact Or.inr (Or.inl ⟨(by first | assumption | omega | exact ⟨by assumption, by omega⟩ | exact ⟨by assumption, by assumption⟩ | exact ⟨by assumption, by assumption, by omega⟩ | exact ⟨by assumption, by omega, by omega⟩ | exact ⟨by assumption, by omega, by omega, by omega⟩ | exact Or.inl (by assumption) | exact Or.inr (by omega) | exact Or.inr (by assumption) | exact Or.inr (Or.inl (by assumption)) | exact Or.inr (Or.inr (by omega)) | trivial), rfl, rfl⟩) | exact Or.inr (Or.inr (⟨(by first | assumption | omega | exact ⟨by assumption, by omega⟩ | exact ⟨by assumption, by assumption⟩ | exact ⟨by assumption, by assumption, by omega⟩ | exact ⟨by assumption, by omega, by omega⟩ | exact ⟨by assumption, by omega, by omega, by omega⟩ | exact Or.inl (by assumption) | exact Or.inr (by omega) | exact Or.inr (by assumption) | exact Or.inr (Or.inl (by assumption)) | exact Or.inr (Or.inr (by omega)) | trivial), rfl, rfl⟩)))
  · rw [hv1, hm1]; clear hv1 hm1 v1 w1
    refine rd_ifnonnull_n C dX9_moveSlide_11 ?_
    refine rd_iconst C dX9_moveSlide_14 (n := -1) ⟨by decide, by decide⟩ ?_
    exact rd_iret C dX9_moveSlide_15 (by first | exact Or.inl ⟨(by first | assumption | omega | exact ⟨by assumption, by omega⟩ | exact ⟨by assumption, by assumption⟩ | exact ⟨by assumption, by assumption, by omega⟩ | exact ⟨by assumption, by omega, by omega⟩ | exact ⟨by assumption, by omega, by omega, by omega⟩ | exact Or.inl (by assumption) | exact Or.inr (by omega) | exact Or.inr (by assumption) | exact Or.inr (Or.inl (by assumption)) | exact Or.inr (Or.inr (by omega)) | trivial), rfl, rfl⟩ | exact Or.inr (Or.inl ⟨(by first | assumption | omega | exact ⟨by assumption, by omega⟩ | exact ⟨by assumption, by assumption⟩ | exact ⟨by assumption, by assumption, by omega⟩ | exact ⟨by assumption, by omega, by omega⟩ | exact ⟨by assumption, by omega, by omega, by omega⟩ | exact Or.inl (by assumption) | exact Or.inr (by omega) | exact Or.inr (by assumption) | exact Or.inr (Or.inl (by assumption)) | exact Or.inr (Or.inr (by omega)) | trivial), rfl, rfl⟩) | exact Or.inr (Or.inr (⟨(by first | assumption | omega | exact ⟨by assumption, by omega⟩ | exact ⟨by assumption, by assumption⟩ | exact ⟨by assumption, by assumption, by omega⟩ | exact ⟨by assumption, by omega, by omega⟩ | exact ⟨by assumption, by omega, by omega, by omega⟩ | exact Or.inl (by assumption) | exact Or.inr (by omega) | exact Or.inr (by assumption) | exact Or.inr (Or.inl (by assumption)) | exact Or.inr (Or.inr (by omega)) | trivial), rfl, rfl⟩)))
set_option maxHeartbeats 4000000 in
set_option maxRecDepth 100000 in
theorem c_X9_hide {l : Launch} {G : rd_G} {r : Nat} {μ : rd_Mem} (hI : sp_inv μ) {x b0 : Int} (hb0 : b0 = 0 ∨ b0 = 1) : rd_M l G rd_kc 313 r yX9_hide cX9_hide 4 (some .int) (rd_rm 5 125) [rd_R 0, rd_I x, rd_I b0] μ (fun v μ' => (¬ sp_th μ x ∧ v = some (rd_I (-1)) ∧ μ' = μ) ∨ (sp_th μ x ∧ v = some (rd_I (sp_num (fun i => rd_u (rd_keep μ) (5 + 5 * x) 1 b0 (5 + 5 * i) 1 ≠ 0) 10)) ∧ μ' = rd_u (rd_keep μ) (5 + 5 * x) 1 b0)) := by
  refine rd_enter (by decide +kernel) (Nat.le_of_ble_eq_true rfl) [rd_R 0, rd_I x, rd_I b0, rd_J] rfl (fun p e s m args below meth c C => ?_)
  refine rd_W.rng (fun hM hL _ => ?_)
  have hc1 := hI.1.1.1
  have hc2 := hI.1.1.2
  have hn1 := hI.2.2.2.2.1.1
  have hn2 := hI.2.2.2.2.1.2
  have htc := hI.1.2.2.2.1
  have hst := hI.1.2.2.2.2
  refine rd_aload_n C dX9_hide_0 rfl ?_
  refine rd_get C rd_g9_0 rf_X9_10 dX9_hide_1 rd_b0 rd_k0 (x := rd_R (1)) rfl (fun _ => trivial) ?_
  refine rd_get C rd_g8_1 rf_X9_44 dX9_hide_4 rd_b1 rd_k1 (x := rd_R (2)) rfl (fun _ => trivial) ?_
  refine rd_iload_n C dX9_hide_7 rfl ?_
  refine rd_callV C (c_X0_find) rm_X9_62 ri_X0_find rs_X0_find rc_X0_find rz_X0 ⟨rp_X0_find, rfl, rfl, by decide, by decide⟩ rfl rd_kcl0 dX9_hide_8 rd_b2 rd_k2 rfl (Nat.le_of_ble_eq_true rfl) (fun v1 w1 hq => ?_)
  rcases hq with ⟨hw_11, hv1, hm1⟩ | ⟨hw_11, hv1, hm1⟩
  · rw [hv1, hm1]; clear hv1 hm1 v1 w1
    have hS_x := rd_sl1 hw_11.1.1 hw_11.1.2
    have hr_x := hw_11.1
    have hit_x := hI.1.2.1 x hw_11.1.1 hw_11.1.2
    refine rd_astore_n C dX9_hide_11 (by decide) (L' := [rd_R 0, rd_I x, rd_I b0, rd_R (5 + 5 * x)]) rfl ?_
    refine rd_aload_n C dX9_hide_12 rfl ?_
    refine rd_ifnonnull_r C dX9_hide_13 (tgt := 18) (by decide) ?_
    refine rd_aload_n C dX9_hide_18 rfl ?_
    refine rd_get C rd_g9_1 rf_X9_19 dX9_hide_19 rd_b0 rd_k0 (x := rd_R (62)) rfl (fun _ => trivial) ?_
    refine rd_aload_n C dX9_hide_22 rfl ?_
    refine rd_get C rd_g9_0 rf_X9_10 dX9_hide_23 rd_b0 rd_k0 (x := rd_R (1)) rfl (fun _ => trivial) ?_
    refine rd_callV C (c_X2_keep hI.2.2.1.1 hI.2.2.1.2.1.1 hI.2.2.1.2.1.2 hI.2.1) rm_X9_54 ri_X2_keep rs_X2_keep rc_X2_keep rz_X2 ⟨rp_X2_keep, rfl, rfl, by decide, by decide⟩ rfl rd_kcl2 dX9_hide_26 rd_b62 rd_k62 rfl (Nat.le_of_ble_eq_true rfl) (fun v1 w1 hq => ?_)
    obtain ⟨hv1, hm1⟩ := hq; rw [hv1, hm1]; clear hv1 hm1 v1 w1
    have hkl : ∀ a : Int, a < 62 ∨ 308 ≤ a → rd_keep μ a = μ a := fun a ha => rd_keep_lo hI.2.2.1 ha
    have hk62 : ∀ a : Int, a < 62 → rd_keep μ a = μ a := fun a ha => hkl a (Or.inl ha)
    have hk55 : ∀ a : Int, a < 55 → rd_keep μ a = μ a := fun a ha => hkl a (Or.inl (by omega))
    have hkw := sp_wf_k hI hk62
    refine rd_aload_n C dX9_hide_29 rfl ?_
    refine rd_iload_n C dX9_hide_30 rfl ?_
    refine rd_put C rd_p7_1 rf_X9_97 dX9_hide_31 hS_x.1 hS_x.2.2.2.2.2.1 hb0 ?_
    refine rd_aload_n C dX9_hide_34 rfl ?_
    refine rd_get C rd_g9_0 rf_X9_10 dX9_hide_35 rd_b0 rd_k0 (x := rd_R (1)) rfl (fun _ => trivial) ?_
    refine rd_get C rd_g8_1 rf_X9_44 dX9_hide_38 rd_b1 rd_k1 (x := rd_R (2)) rfl (fun _ => trivial) ?_
    refine rd_callV C (c_X0_countHidden) rm_X9_103 ri_X0_countHidden rs_X0_countHidden rc_X0_countHidden rz_X0 ⟨rp_X0_countHidden, rfl, rfl, by decide, by decide⟩ rfl rd_kcl0 dX9_hide_41 rd_b2 rd_k2 rfl (Nat.le_of_ble_eq_true rfl) (fun v1 w1 hq => ?_)
    obtain ⟨hv1, hm1⟩ := hq; rw [show v1 = some (rd_I (sp_num (fun i => rd_u (rd_keep μ) (5 + 5 * x) 1 b0 (5 + 5 * i) 1 ≠ 0) 10)) from hv1, hm1]; clear hv1 hm1
    exact rd_iret C dX9_hide_44 (by first | exact Or.inl ⟨(by first | assumption | omega | exact ⟨by assumption, by omega⟩ | exact ⟨by assumption, by assumption⟩ | exact ⟨by assumption, by assumption, by omega⟩ | exact ⟨by assumption, by omega, by omega⟩ | exact ⟨by assumption, by omega, by omega, by omega⟩ | exact Or.inl (by assumption) | exact Or.inr (by omega) | exact Or.inr (by assumption) | exact Or.inr (Or.inl (by assumption)) | exact Or.inr (Or.inr (by omega)) | trivial), rfl, rfl⟩ | exact Or.inr (⟨(by first | assumption | omega | exact ⟨by assumption, by omega⟩ | exact ⟨by assumption, by assumption⟩ | exact ⟨by assumption, by assumption, by omega⟩ | exact ⟨by assumption, by omega, by omega⟩ | exact ⟨by assumption, by omega, by omega, by omega⟩ | exact Or.inl (by assumption) | exact Or.inr (by omega) | exact Or.inr (by assumption) | exact Or.inr (Or.inl (by assumption)) | exact Or.inr (Or.inr (by omega)) | trivial), rfl, rfl⟩))
  · rw [hv1, hm1]; clear hv1 hm1 v1 w1
    refine rd_astore_nN C dX9_hide_11 (by decide) (L' := [rd_R 0, rd_I x, rd_I b0, rd_N]) rfl ?_
    refine rd_aload_n C dX9_hide_12 rfl ?_
    refine rd_ifnonnull_n C dX9_hide_13 ?_
    refine rd_iconst C dX9_hide_16 (n := -1) ⟨by decide, by decide⟩ ?_
    exact rd_iret C dX9_hide_17 (by first | exact Or.inl ⟨(by first | assumption | omega | exact ⟨by assumption, by omega⟩ | exact ⟨by assumption, by assumption⟩ | exact ⟨by assumption, by assumption, by omega⟩ | exact ⟨by assumption, by omega, by omega⟩ | exact ⟨by assumption, by omega, by omega, by omega⟩ | exact Or.inl (by assumption) | exact Or.inr (by omega) | exact Or.inr (by assumption) | exact Or.inr (Or.inl (by assumption)) | exact Or.inr (Or.inr (by omega)) | trivial), rfl, rfl⟩ | exact Or.inr (⟨(by first | assumption | omega | exact ⟨by assumption, by omega⟩ | exact ⟨by assumption, by assumption⟩ | exact ⟨by assumption, by assumption, by omega⟩ | exact ⟨by assumption, by omega, by omega⟩ | exact ⟨by assumption, by omega, by omega, by omega⟩ | exact Or.inl (by assumption) | exact Or.inr (by omega) | exact Or.inr (by assumption) | exact Or.inr (Or.inl (by assumption)) | exact Or.inr (Or.inr (by omega)) | trivial), rfl, rfl⟩))
set_option maxHeartbeats 4000000 in
set_option maxRecDepth 100000 in
theorem c_X9_setPause {l : Launch} {G : rd_G} {r : Nat} {μ : rd_Mem} (hI : sp_inv μ) {x q0 : Int} : rd_M l G rd_kc 313 r yX9_setPause cX9_setPause 5 (some .int) (rd_rm 5 125) [rd_R 0, rd_I x, rd_I q0] μ (fun v μ' => (¬ sp_th μ x ∧ v = some (rd_I (-1)) ∧ μ' = μ) ∨ ((sp_th μ x ∧ (q0 < 0 ∨ 60 < q0)) ∧ v = some (rd_I (-2)) ∧ μ' = μ) ∨ ((sp_th μ x ∧ (0 ≤ q0 ∧ q0 ≤ 60)) ∧ v = some (rd_I (μ (5 + 5 * x) 2)) ∧ μ' = rd_u (rd_keep μ) (5 + 5 * x) 2 q0)) := by
  refine rd_enter (by decide +kernel) (Nat.le_of_ble_eq_true rfl) [rd_R 0, rd_I x, rd_I q0, rd_J, rd_J] rfl (fun p e s m args below meth c C => ?_)
  refine rd_W.rng (fun hM hL _ => ?_)
  have hc1 := hI.1.1.1
  have hc2 := hI.1.1.2
  have hn1 := hI.2.2.2.2.1.1
  have hn2 := hI.2.2.2.2.1.2
  have htc := hI.1.2.2.2.1
  have hst := hI.1.2.2.2.2
  refine rd_aload_n C dX9_setPause_0 rfl ?_
  refine rd_get C rd_g9_0 rf_X9_10 dX9_setPause_1 rd_b0 rd_k0 (x := rd_R (1)) rfl (fun _ => trivial) ?_
  refine rd_get C rd_g8_1 rf_X9_44 dX9_setPause_4 rd_b1 rd_k1 (x := rd_R (2)) rfl (fun _ => trivial) ?_
  refine rd_iload_n C dX9_setPause_7 rfl ?_
  refine rd_callV C (c_X0_find) rm_X9_62 ri_X0_find rs_X0_find rc_X0_find rz_X0 ⟨rp_X0_find, rfl, rfl, by decide, by decide⟩ rfl rd_kcl0 dX9_setPause_8 rd_b2 rd_k2 rfl (Nat.le_of_ble_eq_true rfl) (fun v1 w1 hq => ?_)
  rcases hq with ⟨hw_11, hv1, hm1⟩ | ⟨hw_11, hv1, hm1⟩
  · rw [hv1, hm1]; clear hv1 hm1 v1 w1
    have hS_x := rd_sl1 hw_11.1.1 hw_11.1.2
    have hr_x := hw_11.1
    have hit_x := hI.1.2.1 x hw_11.1.1 hw_11.1.2
    refine rd_astore_n C dX9_setPause_11 (by decide) (L' := [rd_R 0, rd_I x, rd_I q0, rd_R (5 + 5 * x), rd_J]) rfl ?_
    refine rd_aload_n C dX9_setPause_12 rfl ?_
    refine rd_ifnonnull_r C dX9_setPause_13 (tgt := 18) (by decide) ?_
    refine rd_iload_n C dX9_setPause_18 rfl ?_
    refine rd_iconst C dX9_setPause_19 (n := 0) ⟨by decide, by decide⟩ ?_
    refine rd_bipush C dX9_setPause_20 (n := 60) (by decide) ⟨by decide, by decide⟩ ?_
    refine rd_callS C (c_X9_isWithin) rm_X9_82 rt_X9_isWithin rc_X9_isWithin rz_X9 ⟨rp_X9_isWithin, rfl, rfl, by decide, by decide⟩ rfl dX9_setPause_22 rfl (Nat.le_of_ble_eq_true rfl) (fun v1 w1 hq => ?_)
    rcases hq with ⟨hw_25, hv1, hm1⟩ | ⟨hw_25, hv1, hm1⟩
    · rw [hv1, hm1]; clear hv1 hm1 v1 w1
      refine rd_if_ne C dX9_setPause_25 (tgt := 31) (by decide) (fun _ => ?_) (fun h => absurd h (by decide))
      refine rd_aload_n C dX9_setPause_31 rfl ?_
      refine rd_get C rd_g9_1 rf_X9_19 dX9_setPause_32 rd_b0 rd_k0 (x := rd_R (62)) rfl (fun _ => trivial) ?_
      refine rd_aload_n C dX9_setPause_35 rfl ?_
      refine rd_get C rd_g9_0 rf_X9_10 dX9_setPause_36 rd_b0 rd_k0 (x := rd_R (1)) rfl (fun _ => trivial) ?_
      refine rd_callV C (c_X2_keep hI.2.2.1.1 hI.2.2.1.2.1.1 hI.2.2.1.2.1.2 hI.2.1) rm_X9_54 ri_X2_keep rs_X2_keep rc_X2_keep rz_X2 ⟨rp_X2_keep, rfl, rfl, by decide, by decide⟩ rfl rd_kcl2 dX9_setPause_39 rd_b62 rd_k62 rfl (Nat.le_of_ble_eq_true rfl) (fun v1 w1 hq => ?_)
      obtain ⟨hv1, hm1⟩ := hq; rw [hv1, hm1]; clear hv1 hm1 v1 w1
      have hkl : ∀ a : Int, a < 62 ∨ 308 ≤ a → rd_keep μ a = μ a := fun a ha => rd_keep_lo hI.2.2.1 ha
      have hk62 : ∀ a : Int, a < 62 → rd_keep μ a = μ a := fun a ha => hkl a (Or.inl ha)
      have hk55 : ∀ a : Int, a < 55 → rd_keep μ a = μ a := fun a ha => hkl a (Or.inl (by omega))
      have hkw := sp_wf_k hI hk62
      refine rd_aload_n C dX9_setPause_42 rfl ?_
      refine rd_getx C rd_g7_2 rf_X9_106 dX9_setPause_43 hS_x.1 hS_x.2.2.2.2.2.1 rfl (z := μ (5 + 5 * x) 2) (by rw [hkl _ (by omega)]) ?_
      refine rd_istore C dX9_setPause_46 (by decide) (L' := [rd_R 0, rd_I x, rd_I q0, rd_R (5 + 5 * x), rd_I (μ (5 + 5 * x) 2)]) rfl ?_
      refine rd_aload_n C dX9_setPause_48 rfl ?_
      refine rd_iload_n C dX9_setPause_49 rfl ?_
      refine rd_put C rd_p7_2 rf_X9_106 dX9_setPause_50 hS_x.1 hS_x.2.2.2.2.2.1 trivial ?_
      refine rd_iload C dX9_setPause_53 rfl ?_
      exact rd_iret C dX9_setPause_55 (by first | exact Or.inl ⟨(by first | assumption | omega | exact ⟨by assumption, by omega⟩ | exact ⟨by assumption, by assumption⟩ | exact ⟨by assumption, by assumption, by omega⟩ | exact ⟨by assumption, by omega, by omega⟩ | exact ⟨by assumption, by omega, by omega, by omega⟩ | exact Or.inl (by assumption) | exact Or.inr (by omega) | exact Or.inr (by assumption) | exact Or.inr (Or.inl (by assumption)) | exact Or.inr (Or.inr (by omega)) | trivial), rfl, rfl⟩ | exact Or.inr (Or.inl ⟨(by first | assumption | omega | exact ⟨by assumption, by omega⟩ | exact ⟨by assumption, by assumption⟩ | exact ⟨by assumption, by assumption, by omega⟩ | exact ⟨by assumption, by omega, by omega⟩ | exact ⟨by assumption, by omega, by omega, by omega⟩ | exact Or.inl (by assumption) | exact Or.inr (by omega) | exact Or.inr (by assumption) | exact Or.inr (Or.inl (by assumption)) | exact Or.inr (Or.inr (by omega)) | trivial), rfl, rfl⟩) | exact Or.inr (Or.inr (⟨(by first | assumption | omega | exact ⟨by assumption, by omega⟩ | exact ⟨by assumption, by assumption⟩ | exact ⟨by assumption, by assumption, by omega⟩ | exact ⟨by assumption, by omega, by omega⟩ | exact ⟨by assumption, by omega, by omega, by omega⟩ | exact Or.inl (by assumption) | exact Or.inr (by omega) | exact Or.inr (by assumption) | exact Or.inr (Or.inl (by assumption)) | exact Or.inr (Or.inr (by omega)) | trivial), rfl, rfl⟩)))
    · rw [hv1, hm1]; clear hv1 hm1 v1 w1
      refine rd_if_ne C dX9_setPause_25 (tgt := 31) (by decide) (fun h => absurd h (by decide)) (fun _ => ?_)
      refine rd_bipush C dX9_setPause_28 (n := -2) (by decide) ⟨by decide, by decide⟩ ?_
      exact rd_iret C dX9_setPause_30 (by first | exact Or.inl ⟨(by first | assumption | omega | exact ⟨by assumption, by omega⟩ | exact ⟨by assumption, by assumption⟩ | exact ⟨by assumption, by assumption, by omega⟩ | exact ⟨by assumption, by omega, by omega⟩ | exact ⟨by assumption, by omega, by omega, by omega⟩ | exact Or.inl (by assumption) | exact Or.inr (by omega) | exact Or.inr (by assumption) | exact Or.inr (Or.inl (by assumption)) | exact Or.inr (Or.inr (by omega)) | trivial), rfl, rfl⟩ | exact Or.inr (Or.inl ⟨(by first | assumption | omega | exact ⟨by assumption, by omega⟩ | exact ⟨by assumption, by assumption⟩ | exact ⟨by assumption, by assumption, by omega⟩ | exact ⟨by assumption, by omega, by omega⟩ | exact ⟨by assumption, by omega, by omega, by omega⟩ | exact Or.inl (by assumption) | exact Or.inr (by omega) | exact Or.inr (by assumption) | exact Or.inr (Or.inl (by assumption)) | exact Or.inr (Or.inr (by omega)) | trivial), rfl, rfl⟩) | exact Or.inr (Or.inr (⟨(by first | assumption | omega | exact ⟨by assumption, by omega⟩ | exact ⟨by assumption, by assumption⟩ | exact ⟨by assumption, by assumption, by omega⟩ | exact ⟨by assumption, by omega, by omega⟩ | exact ⟨by assumption, by omega, by omega, by omega⟩ | exact Or.inl (by assumption) | exact Or.inr (by omega) | exact Or.inr (by assumption) | exact Or.inr (Or.inl (by assumption)) | exact Or.inr (Or.inr (by omega)) | trivial), rfl, rfl⟩)))
  · rw [hv1, hm1]; clear hv1 hm1 v1 w1
    refine rd_astore_nN C dX9_setPause_11 (by decide) (L' := [rd_R 0, rd_I x, rd_I q0, rd_N, rd_J]) rfl ?_
    refine rd_aload_n C dX9_setPause_12 rfl ?_
    refine rd_ifnonnull_n C dX9_setPause_13 ?_
    refine rd_iconst C dX9_setPause_16 (n := -1) ⟨by decide, by decide⟩ ?_
    exact rd_iret C dX9_setPause_17 (by first | exact Or.inl ⟨(by first | assumption | omega | exact ⟨by assumption, by omega⟩ | exact ⟨by assumption, by assumption⟩ | exact ⟨by assumption, by assumption, by omega⟩ | exact ⟨by assumption, by omega, by omega⟩ | exact ⟨by assumption, by omega, by omega, by omega⟩ | exact Or.inl (by assumption) | exact Or.inr (by omega) | exact Or.inr (by assumption) | exact Or.inr (Or.inl (by assumption)) | exact Or.inr (Or.inr (by omega)) | trivial), rfl, rfl⟩ | exact Or.inr (Or.inl ⟨(by first | assumption | omega | exact ⟨by assumption, by omega⟩ | exact ⟨by assumption, by assumption⟩ | exact ⟨by assumption, by assumption, by omega⟩ | exact ⟨by assumption, by omega, by omega⟩ | exact ⟨by assumption, by omega, by omega, by omega⟩ | exact Or.inl (by assumption) | exact Or.inr (by omega) | exact Or.inr (by assumption) | exact Or.inr (Or.inl (by assumption)) | exact Or.inr (Or.inr (by omega)) | trivial), rfl, rfl⟩) | exact Or.inr (Or.inr (⟨(by first | assumption | omega | exact ⟨by assumption, by omega⟩ | exact ⟨by assumption, by assumption⟩ | exact ⟨by assumption, by assumption, by omega⟩ | exact ⟨by assumption, by omega, by omega⟩ | exact ⟨by assumption, by omega, by omega, by omega⟩ | exact Or.inl (by assumption) | exact Or.inr (by omega) | exact Or.inr (by assumption) | exact Or.inr (Or.inl (by assumption)) | exact Or.inr (Or.inr (by omega)) | trivial), rfl, rfl⟩)))
set_option maxHeartbeats 4000000 in
set_option maxRecDepth 100000 in
theorem c_X9_addItem {l : Launch} {G : rd_G} {r : Nat} {μ : rd_Mem} (hI : sp_inv μ) {x f0 l0 t0 : Int} : rd_M l G rd_kc 313 r yX9_addItem cX9_addItem 6 (some .int) (rd_rm 5 125) [rd_R 0, rd_I x, rd_I f0, rd_I l0, rd_I t0] μ (fun v μ' => (¬ sp_th μ x ∧ v = some (rd_I (-1)) ∧ μ' = μ) ∨ ((sp_th μ x ∧ ¬ ((0 ≤ f0 ∧ f0 ≤ 9) ∧ (l0 = -1 ∨ (f0 ≤ l0 ∧ l0 ≤ 9)) ∧ (0 ≤ t0 ∧ t0 ≤ 99))) ∧ v = some (rd_I (-2)) ∧ μ' = μ) ∨ ((sp_th μ x ∧ ((0 ≤ f0 ∧ f0 ≤ 9) ∧ (l0 = -1 ∨ (f0 ≤ l0 ∧ l0 ≤ 9)) ∧ (0 ≤ t0 ∧ t0 ≤ 99)) ∧ 6 ≤ μ (5 + 5 * x) 3) ∧ v = some (rd_I (-4)) ∧ μ' = μ) ∨ ((sp_th μ x ∧ ((0 ≤ f0 ∧ f0 ≤ 9) ∧ (l0 = -1 ∨ (f0 ≤ l0 ∧ l0 ≤ 9)) ∧ (0 ≤ t0 ∧ t0 ≤ 99)) ∧ μ (5 + 5 * x) 3 < 6) ∧ v = some (rd_I (μ (5 + 5 * x) 3)) ∧ μ' = rd_u (rd_u (rd_u (rd_u (rd_keep μ) (5 + 5 * x + 1) (μ (5 + 5 * x) 3) f0) (5 + 5 * x + 2) (μ (5 + 5 * x) 3) l0) (5 + 5 * x + 3) (μ (5 + 5 * x) 3) t0) (5 + 5 * x) 3 (μ (5 + 5 * x) 3 + 1))) := by
  refine rd_enter (by decide +kernel) (Nat.le_of_ble_eq_true rfl) [rd_R 0, rd_I x, rd_I f0, rd_I l0, rd_I t0, rd_J] rfl (fun p e s m args below meth c C => ?_)
  refine rd_W.rng (fun hM hL _ => ?_)
  have hc1 := hI.1.1.1
  have hc2 := hI.1.1.2
  have hn1 := hI.2.2.2.2.1.1
  have hn2 := hI.2.2.2.2.1.2
  have htc := hI.1.2.2.2.1
  have hst := hI.1.2.2.2.2
  refine rd_aload_n C dX9_addItem_0 rfl ?_
  refine rd_get C rd_g9_0 rf_X9_10 dX9_addItem_1 rd_b0 rd_k0 (x := rd_R (1)) rfl (fun _ => trivial) ?_
  refine rd_get C rd_g8_1 rf_X9_44 dX9_addItem_4 rd_b1 rd_k1 (x := rd_R (2)) rfl (fun _ => trivial) ?_
  refine rd_iload_n C dX9_addItem_7 rfl ?_
  refine rd_callV C (c_X0_find) rm_X9_62 ri_X0_find rs_X0_find rc_X0_find rz_X0 ⟨rp_X0_find, rfl, rfl, by decide, by decide⟩ rfl rd_kcl0 dX9_addItem_8 rd_b2 rd_k2 rfl (Nat.le_of_ble_eq_true rfl) (fun v1 w1 hq => ?_)
  rcases hq with ⟨hw_11, hv1, hm1⟩ | ⟨hw_11, hv1, hm1⟩
  · rw [hv1, hm1]; clear hv1 hm1 v1 w1
    have hS_x := rd_sl1 hw_11.1.1 hw_11.1.2
    have hr_x := hw_11.1
    have hit_x := hI.1.2.1 x hw_11.1.1 hw_11.1.2
    refine rd_astore C dX9_addItem_11 (by decide) (L' := [rd_R 0, rd_I x, rd_I f0, rd_I l0, rd_I t0, rd_R (5 + 5 * x)]) rfl ?_
    refine rd_aload C dX9_addItem_13 rfl ?_
    refine rd_ifnonnull_r C dX9_addItem_15 (tgt := 20) (by decide) ?_
    refine rd_iload_n C dX9_addItem_20 rfl ?_
    refine rd_iconst C dX9_addItem_21 (n := 0) ⟨by decide, by decide⟩ ?_
    refine rd_bipush C dX9_addItem_22 (n := 9) (by decide) ⟨by decide, by decide⟩ ?_
    refine rd_callS C (c_X9_isWithin) rm_X9_82 rt_X9_isWithin rc_X9_isWithin rz_X9 ⟨rp_X9_isWithin, rfl, rfl, by decide, by decide⟩ rfl dX9_addItem_24 rfl (Nat.le_of_ble_eq_true rfl) (fun v1 w1 hq => ?_)
    rcases hq with ⟨hw_27, hv1, hm1⟩ | ⟨hw_27, hv1, hm1⟩
    · rw [hv1, hm1]; clear hv1 hm1 v1 w1
      refine rd_if_eq C dX9_addItem_27 (tgt := 41) (by decide) (fun h => absurd h (by decide)) (fun _ => ?_)
      refine rd_iload C dX9_addItem_30 rfl ?_
      refine rd_iconst C dX9_addItem_32 (n := 0) ⟨by decide, by decide⟩ ?_
      refine rd_bipush C dX9_addItem_33 (n := 99) (by decide) ⟨by decide, by decide⟩ ?_
      refine rd_callS C (c_X9_isWithin) rm_X9_82 rt_X9_isWithin rc_X9_isWithin rz_X9 ⟨rp_X9_isWithin, rfl, rfl, by decide, by decide⟩ rfl dX9_addItem_35 rfl (Nat.le_of_ble_eq_true rfl) (fun v1 w1 hq => ?_)
      rcases hq with ⟨hw_38, hv1, hm1⟩ | ⟨hw_38, hv1, hm1⟩
      · rw [hv1, hm1]; clear hv1 hm1 v1 w1
        refine rd_if_ne C dX9_addItem_38 (tgt := 44) (by decide) (fun _ => ?_) (fun h => absurd h (by decide))
        refine rd_iload_n C dX9_addItem_44 rfl ?_
        refine rd_iconst C dX9_addItem_45 (n := -1) ⟨by decide, by decide⟩ ?_
        refine rd_icmp_eq C dX9_addItem_46 (tgt := 62) (by decide) (fun h_46 => ?_) (fun h_46 => ?_)
        · refine rd_aload C dX9_addItem_62 rfl ?_
          refine rd_get C rd_g7_3 rf_X9_109 dX9_addItem_64 hS_x.1 hS_x.2.2.2.2.2.1 (x := rd_I (μ (5 + 5 * x) 3)) rfl (fun h => h _ _) ?_
          refine rd_bipush C dX9_addItem_67 (n := 6) (by decide) ⟨by decide, by decide⟩ ?_
          refine rd_icmp_lt C dX9_addItem_69 (tgt := 75) (by decide) (fun h_69 => ?_) (fun h_69 => ?_)
          · refine rd_aload_n C dX9_addItem_75 rfl ?_
            refine rd_get C rd_g9_1 rf_X9_19 dX9_addItem_76 rd_b0 rd_k0 (x := rd_R (62)) rfl (fun _ => trivial) ?_
            refine rd_aload_n C dX9_addItem_79 rfl ?_
            refine rd_get C rd_g9_0 rf_X9_10 dX9_addItem_80 rd_b0 rd_k0 (x := rd_R (1)) rfl (fun _ => trivial) ?_
            refine rd_callV C (c_X2_keep hI.2.2.1.1 hI.2.2.1.2.1.1 hI.2.2.1.2.1.2 hI.2.1) rm_X9_54 ri_X2_keep rs_X2_keep rc_X2_keep rz_X2 ⟨rp_X2_keep, rfl, rfl, by decide, by decide⟩ rfl rd_kcl2 dX9_addItem_83 rd_b62 rd_k62 rfl (Nat.le_of_ble_eq_true rfl) (fun v1 w1 hq => ?_)
            obtain ⟨hv1, hm1⟩ := hq; rw [hv1, hm1]; clear hv1 hm1 v1 w1
            have hkl : ∀ a : Int, a < 62 ∨ 308 ≤ a → rd_keep μ a = μ a := fun a ha => rd_keep_lo hI.2.2.1 ha
            have hk62 : ∀ a : Int, a < 62 → rd_keep μ a = μ a := fun a ha => hkl a (Or.inl ha)
            have hk55 : ∀ a : Int, a < 55 → rd_keep μ a = μ a := fun a ha => hkl a (Or.inl (by omega))
            have hkw := sp_wf_k hI hk62
            refine rd_aload C dX9_addItem_86 rfl ?_
            refine rd_iload_n C dX9_addItem_88 rfl ?_
            refine rd_iload_n C dX9_addItem_89 rfl ?_
            refine rd_iload C dX9_addItem_90 rfl ?_
            refine rd_callV C (c_X7_putItem (μ := rd_keep μ) hS_x (by rw [hkl _ (by omega)]; omega) (by rw [hkl _ (by omega)]; omega)) rm_X9_112 ri_X7_putItem rs_X7_putItem rc_X7_putItem rz_X7 ⟨rp_X7_putItem, rfl, rfl, by decide, by decide⟩ rfl rd_kcl7 dX9_addItem_92 hS_x.1 hS_x.2.2.2.2.2.1 rfl (Nat.le_of_ble_eq_true rfl) (fun v1 w1 hq => ?_)
            obtain ⟨hv1, hm1⟩ := hq; rw [hv1, hm1, hkl (5 + 5 * x) (by omega)]; clear hv1 hm1 v1 w1
            refine rd_aload C dX9_addItem_95 rfl ?_
            refine rd_getx C rd_g7_3 rf_X9_109 dX9_addItem_97 hS_x.1 hS_x.2.2.2.2.2.1 rfl (z := μ (5 + 5 * x) 3 + 1) (by rw [rd_u_s]) ?_
            refine rd_iconst C dX9_addItem_100 (n := 1) ⟨by decide, by decide⟩ ?_
            refine rd_isub C dX9_addItem_101 (z := μ (5 + 5 * x) 3 + 1 - 1) (by omega) ⟨by omega, by omega⟩ ?_
            exact rd_iret C dX9_addItem_102 (by first | exact Or.inl ⟨(by assumption), rfl, rfl⟩ | exact Or.inr (Or.inl ⟨⟨(by assumption), (by omega)⟩, rfl, rfl⟩) | exact Or.inr (Or.inr (Or.inl ⟨⟨(by assumption), (by omega), (by omega)⟩, rfl, rfl⟩)) | exact Or.inr (Or.inr (Or.inr ⟨⟨(by assumption), (by omega), (by omega)⟩, (by congr 2; omega), rfl⟩)))
          · refine rd_bipush C dX9_addItem_72 (n := -4) (by decide) ⟨by decide, by decide⟩ ?_
            exact rd_iret C dX9_addItem_74 (by first | exact Or.inl ⟨(by assumption), rfl, rfl⟩ | exact Or.inr (Or.inl ⟨⟨(by assumption), (by omega)⟩, rfl, rfl⟩) | exact Or.inr (Or.inr (Or.inl ⟨⟨(by assumption), (by omega), (by omega)⟩, rfl, rfl⟩)) | exact Or.inr (Or.inr (Or.inr ⟨⟨(by assumption), (by omega), (by omega)⟩, (by congr 2; omega), rfl⟩)))
        · refine rd_iload_n C dX9_addItem_49 rfl ?_
          refine rd_iload_n C dX9_addItem_50 rfl ?_
          refine rd_bipush C dX9_addItem_51 (n := 9) (by decide) ⟨by decide, by decide⟩ ?_
          refine rd_callS C (c_X9_isWithin) rm_X9_82 rt_X9_isWithin rc_X9_isWithin rz_X9 ⟨rp_X9_isWithin, rfl, rfl, by decide, by decide⟩ rfl dX9_addItem_53 rfl (Nat.le_of_ble_eq_true rfl) (fun v1 w1 hq => ?_)
          rcases hq with ⟨hw_56, hv1, hm1⟩ | ⟨hw_56, hv1, hm1⟩
          · rw [hv1, hm1]; clear hv1 hm1 v1 w1
            refine rd_if_ne C dX9_addItem_56 (tgt := 62) (by decide) (fun _ => ?_) (fun h => absurd h (by decide))
            refine rd_aload C dX9_addItem_62 rfl ?_
            refine rd_get C rd_g7_3 rf_X9_109 dX9_addItem_64 hS_x.1 hS_x.2.2.2.2.2.1 (x := rd_I (μ (5 + 5 * x) 3)) rfl (fun h => h _ _) ?_
            refine rd_bipush C dX9_addItem_67 (n := 6) (by decide) ⟨by decide, by decide⟩ ?_
            refine rd_icmp_lt C dX9_addItem_69 (tgt := 75) (by decide) (fun h_69 => ?_) (fun h_69 => ?_)
            · refine rd_aload_n C dX9_addItem_75 rfl ?_
              refine rd_get C rd_g9_1 rf_X9_19 dX9_addItem_76 rd_b0 rd_k0 (x := rd_R (62)) rfl (fun _ => trivial) ?_
              refine rd_aload_n C dX9_addItem_79 rfl ?_
              refine rd_get C rd_g9_0 rf_X9_10 dX9_addItem_80 rd_b0 rd_k0 (x := rd_R (1)) rfl (fun _ => trivial) ?_
              refine rd_callV C (c_X2_keep hI.2.2.1.1 hI.2.2.1.2.1.1 hI.2.2.1.2.1.2 hI.2.1) rm_X9_54 ri_X2_keep rs_X2_keep rc_X2_keep rz_X2 ⟨rp_X2_keep, rfl, rfl, by decide, by decide⟩ rfl rd_kcl2 dX9_addItem_83 rd_b62 rd_k62 rfl (Nat.le_of_ble_eq_true rfl) (fun v1 w1 hq => ?_)
              obtain ⟨hv1, hm1⟩ := hq; rw [hv1, hm1]; clear hv1 hm1 v1 w1
              have hkl : ∀ a : Int, a < 62 ∨ 308 ≤ a → rd_keep μ a = μ a := fun a ha => rd_keep_lo hI.2.2.1 ha
              have hk62 : ∀ a : Int, a < 62 → rd_keep μ a = μ a := fun a ha => hkl a (Or.inl ha)
              have hk55 : ∀ a : Int, a < 55 → rd_keep μ a = μ a := fun a ha => hkl a (Or.inl (by omega))
              have hkw := sp_wf_k hI hk62
              refine rd_aload C dX9_addItem_86 rfl ?_
              refine rd_iload_n C dX9_addItem_88 rfl ?_
              refine rd_iload_n C dX9_addItem_89 rfl ?_
              refine rd_iload C dX9_addItem_90 rfl ?_
              refine rd_callV C (c_X7_putItem (μ := rd_keep μ) hS_x (by rw [hkl _ (by omega)]; omega) (by rw [hkl _ (by omega)]; omega)) rm_X9_112 ri_X7_putItem rs_X7_putItem rc_X7_putItem rz_X7 ⟨rp_X7_putItem, rfl, rfl, by decide, by decide⟩ rfl rd_kcl7 dX9_addItem_92 hS_x.1 hS_x.2.2.2.2.2.1 rfl (Nat.le_of_ble_eq_true rfl) (fun v1 w1 hq => ?_)
              obtain ⟨hv1, hm1⟩ := hq; rw [hv1, hm1, hkl (5 + 5 * x) (by omega)]; clear hv1 hm1 v1 w1
              refine rd_aload C dX9_addItem_95 rfl ?_
              refine rd_getx C rd_g7_3 rf_X9_109 dX9_addItem_97 hS_x.1 hS_x.2.2.2.2.2.1 rfl (z := μ (5 + 5 * x) 3 + 1) (by rw [rd_u_s]) ?_
              refine rd_iconst C dX9_addItem_100 (n := 1) ⟨by decide, by decide⟩ ?_
              refine rd_isub C dX9_addItem_101 (z := μ (5 + 5 * x) 3 + 1 - 1) (by omega) ⟨by omega, by omega⟩ ?_
              exact rd_iret C dX9_addItem_102 (by first | exact Or.inl ⟨(by assumption), rfl, rfl⟩ | exact Or.inr (Or.inl ⟨⟨(by assumption), (by omega)⟩, rfl, rfl⟩) | exact Or.inr (Or.inr (Or.inl ⟨⟨(by assumption), (by omega), (by omega)⟩, rfl, rfl⟩)) | exact Or.inr (Or.inr (Or.inr ⟨⟨(by assumption), (by omega), (by omega)⟩, (by congr 2; omega), rfl⟩)))
            · refine rd_bipush C dX9_addItem_72 (n := -4) (by decide) ⟨by decide, by decide⟩ ?_
              exact rd_iret C dX9_addItem_74 (by first | exact Or.inl ⟨(by assumption), rfl, rfl⟩ | exact Or.inr (Or.inl ⟨⟨(by assumption), (by omega)⟩, rfl, rfl⟩) | exact Or.inr (Or.inr (Or.inl ⟨⟨(by assumption), (by omega), (by omega)⟩, rfl, rfl⟩)) | exact Or.inr (Or.inr (Or.inr ⟨⟨(by assumption), (by omega), (by omega)⟩, (by congr 2; omega), rfl⟩)))
          · rw [hv1, hm1]; clear hv1 hm1 v1 w1
            refine rd_if_ne C dX9_addItem_56 (tgt := 62) (by decide) (fun h => absurd h (by decide)) (fun _ => ?_)
            refine rd_bipush C dX9_addItem_59 (n := -2) (by decide) ⟨by decide, by decide⟩ ?_
            exact rd_iret C dX9_addItem_61 (by first | exact Or.inl ⟨(by assumption), rfl, rfl⟩ | exact Or.inr (Or.inl ⟨⟨(by assumption), (by omega)⟩, rfl, rfl⟩) | exact Or.inr (Or.inr (Or.inl ⟨⟨(by assumption), (by omega), (by omega)⟩, rfl, rfl⟩)) | exact Or.inr (Or.inr (Or.inr ⟨⟨(by assumption), (by omega), (by omega)⟩, (by congr 2; omega), rfl⟩)))
      · rw [hv1, hm1]; clear hv1 hm1 v1 w1
        refine rd_if_ne C dX9_addItem_38 (tgt := 44) (by decide) (fun h => absurd h (by decide)) (fun _ => ?_)
        refine rd_bipush C dX9_addItem_41 (n := -2) (by decide) ⟨by decide, by decide⟩ ?_
        exact rd_iret C dX9_addItem_43 (by first | exact Or.inl ⟨(by assumption), rfl, rfl⟩ | exact Or.inr (Or.inl ⟨⟨(by assumption), (by omega)⟩, rfl, rfl⟩) | exact Or.inr (Or.inr (Or.inl ⟨⟨(by assumption), (by omega), (by omega)⟩, rfl, rfl⟩)) | exact Or.inr (Or.inr (Or.inr ⟨⟨(by assumption), (by omega), (by omega)⟩, (by congr 2; omega), rfl⟩)))
    · rw [hv1, hm1]; clear hv1 hm1 v1 w1
      refine rd_if_eq C dX9_addItem_27 (tgt := 41) (by decide) (fun _ => ?_) (fun h => absurd h (by decide))
      refine rd_bipush C dX9_addItem_41 (n := -2) (by decide) ⟨by decide, by decide⟩ ?_
      exact rd_iret C dX9_addItem_43 (by first | exact Or.inl ⟨(by assumption), rfl, rfl⟩ | exact Or.inr (Or.inl ⟨⟨(by assumption), (by omega)⟩, rfl, rfl⟩) | exact Or.inr (Or.inr (Or.inl ⟨⟨(by assumption), (by omega), (by omega)⟩, rfl, rfl⟩)) | exact Or.inr (Or.inr (Or.inr ⟨⟨(by assumption), (by omega), (by omega)⟩, (by congr 2; omega), rfl⟩)))
  · rw [hv1, hm1]; clear hv1 hm1 v1 w1
    refine rd_astoreN C dX9_addItem_11 (by decide) (L' := [rd_R 0, rd_I x, rd_I f0, rd_I l0, rd_I t0, rd_N]) rfl ?_
    refine rd_aload C dX9_addItem_13 rfl ?_
    refine rd_ifnonnull_n C dX9_addItem_15 ?_
    refine rd_iconst C dX9_addItem_18 (n := -1) ⟨by decide, by decide⟩ ?_
    exact rd_iret C dX9_addItem_19 (by first | exact Or.inl ⟨(by assumption), rfl, rfl⟩ | exact Or.inr (Or.inl ⟨⟨(by assumption), (by omega)⟩, rfl, rfl⟩) | exact Or.inr (Or.inr (Or.inl ⟨⟨(by assumption), (by omega), (by omega)⟩, rfl, rfl⟩)) | exact Or.inr (Or.inr (Or.inr ⟨⟨(by assumption), (by omega), (by omega)⟩, (by congr 2; omega), rfl⟩)))
theorem rd_dit_its {κ : rd_Mem} {x p k n : Int} (h0 : 0 ≤ x) (h1 : x < 10) (hn : 0 ≤ n) (hn6 : n ≤ 6) (h : sp_its κ) : sp_its (rd_dit κ (5 + 5 * x) p k n) := by
  intro i i0 i1
  unfold rd_dit
  by_cases hi : i = x
  · subst hi; rw [if_pos ⟨rfl, rfl⟩]; exact ⟨hn, hn6⟩
  · rw [if_neg (by omega), if_neg (by omega)]; exact h i i0 i1
set_option maxHeartbeats 4000000 in
set_option maxRecDepth 100000 in
theorem c_X9_removeItem {l : Launch} {G : rd_G} {r : Nat} {μ : rd_Mem} (hI : sp_inv μ) {x q0 : Int} : rd_M l G rd_kc 313 r yX9_removeItem cX9_removeItem 4 (some .int) (rd_rm 5 125) [rd_R 0, rd_I x, rd_I q0] μ (fun v μ' => ((¬ sp_th μ x ∨ q0 < 0 ∨ μ (5 + 5 * x) 3 - 1 < q0) ∧ v = some (rd_I (-1)) ∧ μ' = μ) ∨ ((sp_th μ x ∧ (0 ≤ q0 ∧ q0 ≤ μ (5 + 5 * x) 3 - 1)) ∧ v = some (rd_I (μ (5 + 5 * x) 3 - 1)) ∧ μ' = sp_ite (sp_th (rd_dit (rd_keep μ) (5 + 5 * x) q0 (μ (5 + 5 * x) 3 - 1) (μ (5 + 5 * x) 3 - 1)) (rd_dit (rd_keep μ) (5 + 5 * x) q0 (μ (5 + 5 * x) 3 - 1) (μ (5 + 5 * x) 3 - 1) 58 0)) (rd_u (rd_dit (rd_keep μ) (5 + 5 * x) q0 (μ (5 + 5 * x) 3 - 1) (μ (5 + 5 * x) 3 - 1)) 58 1 (min (rd_dit (rd_keep μ) (5 + 5 * x) q0 (μ (5 + 5 * x) 3 - 1) (μ (5 + 5 * x) 3 - 1) 58 1) (sp_FS (rd_dit (rd_keep μ) (5 + 5 * x) q0 (μ (5 + 5 * x) 3 - 1) (μ (5 + 5 * x) 3 - 1)) (rd_dit (rd_keep μ) (5 + 5 * x) q0 (μ (5 + 5 * x) 3 - 1) (μ (5 + 5 * x) 3 - 1) 58 0)))) (rd_dit (rd_keep μ) (5 + 5 * x) q0 (μ (5 + 5 * x) 3 - 1) (μ (5 + 5 * x) 3 - 1)))) := by
  refine rd_enter (by decide +kernel) (Nat.le_of_ble_eq_true rfl) [rd_R 0, rd_I x, rd_I q0, rd_J] rfl (fun p e s m args below meth c C => ?_)
  refine rd_W.rng (fun hM hL _ => ?_)
  have hc1 := hI.1.1.1
  have hc2 := hI.1.1.2
  have hn1 := hI.2.2.2.2.1.1
  have hn2 := hI.2.2.2.2.1.2
  have htc := hI.1.2.2.2.1
  have hst := hI.1.2.2.2.2
  refine rd_aload_n C dX9_removeItem_0 rfl ?_
  refine rd_get C rd_g9_0 rf_X9_10 dX9_removeItem_1 rd_b0 rd_k0 (x := rd_R (1)) rfl (fun _ => trivial) ?_
  refine rd_get C rd_g8_1 rf_X9_44 dX9_removeItem_4 rd_b1 rd_k1 (x := rd_R (2)) rfl (fun _ => trivial) ?_
  refine rd_iload_n C dX9_removeItem_7 rfl ?_
  refine rd_callV C (c_X0_find) rm_X9_62 ri_X0_find rs_X0_find rc_X0_find rz_X0 ⟨rp_X0_find, rfl, rfl, by decide, by decide⟩ rfl rd_kcl0 dX9_removeItem_8 rd_b2 rd_k2 rfl (Nat.le_of_ble_eq_true rfl) (fun v1 w1 hq => ?_)
  rcases hq with ⟨hw_11, hv1, hm1⟩ | ⟨hw_11, hv1, hm1⟩
  · rw [hv1, hm1]; clear hv1 hm1 v1 w1
    have hS_x := rd_sl1 hw_11.1.1 hw_11.1.2
    have hr_x := hw_11.1
    have hit_x := hI.1.2.1 x hw_11.1.1 hw_11.1.2
    refine rd_astore_n C dX9_removeItem_11 (by decide) (L' := [rd_R 0, rd_I x, rd_I q0, rd_R (5 + 5 * x)]) rfl ?_
    refine rd_aload_n C dX9_removeItem_12 rfl ?_
    refine rd_ifnull_r C dX9_removeItem_13 ?_
    refine rd_iload_n C dX9_removeItem_16 rfl ?_
    refine rd_iconst C dX9_removeItem_17 (n := 0) ⟨by decide, by decide⟩ ?_
    refine rd_aload_n C dX9_removeItem_18 rfl ?_
    refine rd_get C rd_g7_3 rf_X9_109 dX9_removeItem_19 hS_x.1 hS_x.2.2.2.2.2.1 (x := rd_I (μ (5 + 5 * x) 3)) rfl (fun h => h _ _) ?_
    refine rd_iconst C dX9_removeItem_22 (n := 1) ⟨by decide, by decide⟩ ?_
    refine rd_isub C dX9_removeItem_23 (z := μ (5 + 5 * x) 3 - 1) rfl ⟨by omega, by omega⟩ ?_
    refine rd_callS C (c_X9_isWithin) rm_X9_82 rt_X9_isWithin rc_X9_isWithin rz_X9 ⟨rp_X9_isWithin, rfl, rfl, by decide, by decide⟩ rfl dX9_removeItem_24 rfl (Nat.le_of_ble_eq_true rfl) (fun v1 w1 hq => ?_)
    rcases hq with ⟨hw_27, hv1, hm1⟩ | ⟨hw_27, hv1, hm1⟩
    · rw [hv1, hm1]; clear hv1 hm1 v1 w1
      refine rd_if_ne C dX9_removeItem_27 (tgt := 32) (by decide) (fun _ => ?_) (fun h => absurd h (by decide))
      refine rd_aload_n C dX9_removeItem_32 rfl ?_
      refine rd_get C rd_g9_1 rf_X9_19 dX9_removeItem_33 rd_b0 rd_k0 (x := rd_R (62)) rfl (fun _ => trivial) ?_
      refine rd_aload_n C dX9_removeItem_36 rfl ?_
      refine rd_get C rd_g9_0 rf_X9_10 dX9_removeItem_37 rd_b0 rd_k0 (x := rd_R (1)) rfl (fun _ => trivial) ?_
      refine rd_callV C (c_X2_keep hI.2.2.1.1 hI.2.2.1.2.1.1 hI.2.2.1.2.1.2 hI.2.1) rm_X9_54 ri_X2_keep rs_X2_keep rc_X2_keep rz_X2 ⟨rp_X2_keep, rfl, rfl, by decide, by decide⟩ rfl rd_kcl2 dX9_removeItem_40 rd_b62 rd_k62 rfl (Nat.le_of_ble_eq_true rfl) (fun v1 w1 hq => ?_)
      obtain ⟨hv1, hm1⟩ := hq; rw [hv1, hm1]; clear hv1 hm1 v1 w1
      have hkl : ∀ a : Int, a < 62 ∨ 308 ≤ a → rd_keep μ a = μ a := fun a ha => rd_keep_lo hI.2.2.1 ha
      have hk62 : ∀ a : Int, a < 62 → rd_keep μ a = μ a := fun a ha => hkl a (Or.inl ha)
      have hk55 : ∀ a : Int, a < 55 → rd_keep μ a = μ a := fun a ha => hkl a (Or.inl (by omega))
      have hkw := sp_wf_k hI hk62
      refine rd_aload_n C dX9_removeItem_43 rfl ?_
      refine rd_iload_n C dX9_removeItem_44 rfl ?_
      refine rd_callV C (c_X7_dropItem (μ := rd_keep μ) hS_x (by rw [hkl _ (by omega)]; omega) (by omega) (by rw [hkl _ (by omega)]; omega)) rm_X9_116 ri_X7_dropItem rs_X7_dropItem rc_X7_dropItem rz_X7 ⟨rp_X7_dropItem, rfl, rfl, by decide, by decide⟩ rfl rd_kcl7 dX9_removeItem_45 hS_x.1 hS_x.2.2.2.2.2.1 rfl (Nat.le_of_ble_eq_true rfl) (fun v1 w1 hq => ?_)
      obtain ⟨hv1, hm1⟩ := hq; rw [hv1, hm1, hkl (5 + 5 * x) (by omega)]; clear hv1 hm1 v1 w1
      have hdi : sp_its (rd_dit (rd_keep μ) (5 + 5 * x) q0 (μ (5 + 5 * x) 3 - 1) (μ (5 + 5 * x) 3 - 1)) := rd_dit_its hr_x.1 hr_x.2 (by omega) (by omega) hkw.2.1
      have hd3 : rd_dit (rd_keep μ) (5 + 5 * x) q0 (μ (5 + 5 * x) 3 - 1) (μ (5 + 5 * x) 3 - 1) (5 + 5 * x) 3 = μ (5 + 5 * x) 3 - 1 := by unfold rd_dit; rw [if_pos ⟨rfl, rfl⟩]
      refine rd_aload_n C dX9_removeItem_48 rfl ?_
      refine rd_get C rd_g9_0 rf_X9_10 dX9_removeItem_49 rd_b0 rd_k0 (x := rd_R (1)) rfl (fun _ => trivial) ?_
      refine rd_callV C (c_X8_clampStep hdi) rm_X9_119 ri_X8_clampStep rs_X8_clampStep rc_X8_clampStep rz_X8 ⟨rp_X8_clampStep, rfl, rfl, by decide, by decide⟩ rfl rd_kcl8 dX9_removeItem_52 rd_b1 rd_k1 rfl (Nat.le_of_ble_eq_true rfl) (fun v1 w1 hq => ?_)
      have hcl : v1 = none ∧ w1 = sp_ite (sp_th (rd_dit (rd_keep μ) (5 + 5 * x) q0 (μ (5 + 5 * x) 3 - 1) (μ (5 + 5 * x) 3 - 1)) (rd_dit (rd_keep μ) (5 + 5 * x) q0 (μ (5 + 5 * x) 3 - 1) (μ (5 + 5 * x) 3 - 1) 58 0)) (rd_u (rd_dit (rd_keep μ) (5 + 5 * x) q0 (μ (5 + 5 * x) 3 - 1) (μ (5 + 5 * x) 3 - 1)) 58 1 (min (rd_dit (rd_keep μ) (5 + 5 * x) q0 (μ (5 + 5 * x) 3 - 1) (μ (5 + 5 * x) 3 - 1) 58 1) (sp_FS (rd_dit (rd_keep μ) (5 + 5 * x) q0 (μ (5 + 5 * x) 3 - 1) (μ (5 + 5 * x) 3 - 1)) (rd_dit (rd_keep μ) (5 + 5 * x) q0 (μ (5 + 5 * x) 3 - 1) (μ (5 + 5 * x) 3 - 1) 58 0)))) (rd_dit (rd_keep μ) (5 + 5 * x) q0 (μ (5 + 5 * x) 3 - 1) (μ (5 + 5 * x) 3 - 1)) := by
        rcases hq with ⟨h1, h2, h3⟩ | ⟨h1, h2, h3⟩
        · exact ⟨h2, by rw [h3, sp_ite_t h1]⟩
        · exact ⟨h2, by rw [h3, sp_ite_f h1]⟩
      have hm3 : sp_ite (sp_th (rd_dit (rd_keep μ) (5 + 5 * x) q0 (μ (5 + 5 * x) 3 - 1) (μ (5 + 5 * x) 3 - 1)) (rd_dit (rd_keep μ) (5 + 5 * x) q0 (μ (5 + 5 * x) 3 - 1) (μ (5 + 5 * x) 3 - 1) 58 0)) (rd_u (rd_dit (rd_keep μ) (5 + 5 * x) q0 (μ (5 + 5 * x) 3 - 1) (μ (5 + 5 * x) 3 - 1)) 58 1 (min (rd_dit (rd_keep μ) (5 + 5 * x) q0 (μ (5 + 5 * x) 3 - 1) (μ (5 + 5 * x) 3 - 1) 58 1) (sp_FS (rd_dit (rd_keep μ) (5 + 5 * x) q0 (μ (5 + 5 * x) 3 - 1) (μ (5 + 5 * x) 3 - 1)) (rd_dit (rd_keep μ) (5 + 5 * x) q0 (μ (5 + 5 * x) 3 - 1) (μ (5 + 5 * x) 3 - 1) 58 0)))) (rd_dit (rd_keep μ) (5 + 5 * x) q0 (μ (5 + 5 * x) 3 - 1) (μ (5 + 5 * x) 3 - 1)) (5 + 5 * x) 3 = μ (5 + 5 * x) 3 - 1 := by
        by_cases h1 : sp_th (rd_dit (rd_keep μ) (5 + 5 * x) q0 (μ (5 + 5 * x) 3 - 1) (μ (5 + 5 * x) 3 - 1)) (rd_dit (rd_keep μ) (5 + 5 * x) q0 (μ (5 + 5 * x) 3 - 1) (μ (5 + 5 * x) 3 - 1) 58 0)
        · rw [sp_ite_t h1, rd_u_k _ _ _ (by omega)]; exact hd3
        · rw [sp_ite_f h1]; exact hd3
      obtain ⟨hv1, hm1⟩ := hcl; rw [hv1, hm1]; clear hv1 hm1
      refine rd_aload_n C dX9_removeItem_55 rfl ?_
      refine rd_get C rd_g7_3 rf_X9_109 dX9_removeItem_56 hS_x.1 hS_x.2.2.2.2.2.1 (x := rd_I ((sp_ite (sp_th (rd_dit (rd_keep μ) (5 + 5 * x) q0 (μ (5 + 5 * x) 3 - 1) (μ (5 + 5 * x) 3 - 1)) (rd_dit (rd_keep μ) (5 + 5 * x) q0 (μ (5 + 5 * x) 3 - 1) (μ (5 + 5 * x) 3 - 1) 58 0)) (rd_u (rd_dit (rd_keep μ) (5 + 5 * x) q0 (μ (5 + 5 * x) 3 - 1) (μ (5 + 5 * x) 3 - 1)) 58 1 (min (rd_dit (rd_keep μ) (5 + 5 * x) q0 (μ (5 + 5 * x) 3 - 1) (μ (5 + 5 * x) 3 - 1) 58 1) (sp_FS (rd_dit (rd_keep μ) (5 + 5 * x) q0 (μ (5 + 5 * x) 3 - 1) (μ (5 + 5 * x) 3 - 1)) (rd_dit (rd_keep μ) (5 + 5 * x) q0 (μ (5 + 5 * x) 3 - 1) (μ (5 + 5 * x) 3 - 1) 58 0)))) (rd_dit (rd_keep μ) (5 + 5 * x) q0 (μ (5 + 5 * x) 3 - 1) (μ (5 + 5 * x) 3 - 1))) (5 + 5 * x) 3)) rfl (fun h => h _ _) ?_
      exact rd_iret C dX9_removeItem_59 (by first | exact Or.inl ⟨(by first | exact Or.inl (by assumption) | exact Or.inr (by omega)), rfl, rfl⟩ | exact Or.inr ⟨⟨(by assumption), (by omega)⟩, by rw [hm3], rfl⟩)
    · rw [hv1, hm1]; clear hv1 hm1 v1 w1
      refine rd_if_ne C dX9_removeItem_27 (tgt := 32) (by decide) (fun h => absurd h (by decide)) (fun _ => ?_)
      refine rd_iconst C dX9_removeItem_30 (n := -1) ⟨by decide, by decide⟩ ?_
      exact rd_iret C dX9_removeItem_31 (by first | exact Or.inl ⟨(by first | exact Or.inl (by assumption) | exact Or.inr (by omega)), rfl, rfl⟩ | exact Or.inr ⟨⟨(by assumption), (by omega)⟩, by rw [hm3], rfl⟩)
  · rw [hv1, hm1]; clear hv1 hm1 v1 w1
    refine rd_astore_nN C dX9_removeItem_11 (by decide) (L' := [rd_R 0, rd_I x, rd_I q0, rd_N]) rfl ?_
    refine rd_aload_n C dX9_removeItem_12 rfl ?_
    refine rd_ifnull_n C dX9_removeItem_13 (tgt := 30) (by decide) ?_
    refine rd_iconst C dX9_removeItem_30 (n := -1) ⟨by decide, by decide⟩ ?_
    exact rd_iret C dX9_removeItem_31 (by first | exact Or.inl ⟨(by first | exact Or.inl (by assumption) | exact Or.inr (by omega)), rfl, rfl⟩ | exact Or.inr ⟨⟨(by assumption), (by omega)⟩, by rw [hm3], rfl⟩)
set_option maxHeartbeats 4000000 in
set_option maxRecDepth 100000 in
theorem c_X9_link {l : Launch} {G : rd_G} {r : Nat} {μ : rd_Mem} (hI : sp_inv μ) {x k0 y : Int} : rd_M l G rd_kc 313 r yX9_link cX9_link 5 (some .int) (rd_rm 5 125) [rd_R 0, rd_I x, rd_I k0, rd_I y] μ (fun v μ' => ((¬ sp_th μ x ∨ ¬ sp_th μ y) ∧ v = some (rd_I (-1)) ∧ μ' = μ) ∨ ((sp_th μ x ∧ sp_th μ y ∧ (k0 < 0 ∨ 9 < k0)) ∧ v = some (rd_I (-2)) ∧ μ' = μ) ∨ ((sp_th μ x ∧ sp_th μ y ∧ (0 ≤ k0 ∧ k0 ≤ 9) ∧ (μ (5 + 5 * x + 4) k0 = -1 ∧ 3 ≤ sp_lk (μ (5 + 5 * x + 4)) 10)) ∧ v = some (rd_I (-4)) ∧ μ' = μ) ∨ ((sp_th μ x ∧ sp_th μ y ∧ (0 ≤ k0 ∧ k0 ≤ 9) ∧ ¬ (μ (5 + 5 * x + 4) k0 = -1 ∧ 3 ≤ sp_lk (μ (5 + 5 * x + 4)) 10)) ∧ v = some (rd_I (sp_lk (rd_u (rd_keep μ) (5 + 5 * x + 4) k0 y (5 + 5 * x + 4)) 10)) ∧ μ' = rd_u (rd_keep μ) (5 + 5 * x + 4) k0 y)) := by
  refine rd_enter (by decide +kernel) (Nat.le_of_ble_eq_true rfl) [rd_R 0, rd_I x, rd_I k0, rd_I y, rd_J] rfl (fun p e s m args below meth c C => ?_)
  refine rd_W.rng (fun hM hL _ => ?_)
  have hc1 := hI.1.1.1
  have hc2 := hI.1.1.2
  have hn1 := hI.2.2.2.2.1.1
  have hn2 := hI.2.2.2.2.1.2
  have htc := hI.1.2.2.2.1
  have hst := hI.1.2.2.2.2
  refine rd_aload_n C dX9_link_0 rfl ?_
  refine rd_get C rd_g9_0 rf_X9_10 dX9_link_1 rd_b0 rd_k0 (x := rd_R (1)) rfl (fun _ => trivial) ?_
  refine rd_get C rd_g8_1 rf_X9_44 dX9_link_4 rd_b1 rd_k1 (x := rd_R (2)) rfl (fun _ => trivial) ?_
  refine rd_iload_n C dX9_link_7 rfl ?_
  refine rd_callV C (c_X0_find) rm_X9_62 ri_X0_find rs_X0_find rc_X0_find rz_X0 ⟨rp_X0_find, rfl, rfl, by decide, by decide⟩ rfl rd_kcl0 dX9_link_8 rd_b2 rd_k2 rfl (Nat.le_of_ble_eq_true rfl) (fun v1 w1 hq => ?_)
  rcases hq with ⟨hw_11, hv1, hm1⟩ | ⟨hw_11, hv1, hm1⟩
  · rw [hv1, hm1]; clear hv1 hm1 v1 w1
    have hS_x := rd_sl1 hw_11.1.1 hw_11.1.2
    have hr_x := hw_11.1
    have hit_x := hI.1.2.1 x hw_11.1.1 hw_11.1.2
    refine rd_astore C dX9_link_11 (by decide) (L' := [rd_R 0, rd_I x, rd_I k0, rd_I y, rd_R (5 + 5 * x)]) rfl ?_
    refine rd_aload C dX9_link_13 rfl ?_
    refine rd_ifnull_r C dX9_link_15 ?_
    refine rd_aload_n C dX9_link_18 rfl ?_
    refine rd_get C rd_g9_0 rf_X9_10 dX9_link_19 rd_b0 rd_k0 (x := rd_R (1)) rfl (fun _ => trivial) ?_
    refine rd_get C rd_g8_1 rf_X9_44 dX9_link_22 rd_b1 rd_k1 (x := rd_R (2)) rfl (fun _ => trivial) ?_
    refine rd_iload_n C dX9_link_25 rfl ?_
    refine rd_callV C (c_X0_find) rm_X9_62 ri_X0_find rs_X0_find rc_X0_find rz_X0 ⟨rp_X0_find, rfl, rfl, by decide, by decide⟩ rfl rd_kcl0 dX9_link_26 rd_b2 rd_k2 rfl (Nat.le_of_ble_eq_true rfl) (fun v1 w1 hq => ?_)
    rcases hq with ⟨hw_29, hv1, hm1⟩ | ⟨hw_29, hv1, hm1⟩
    · rw [hv1, hm1]; clear hv1 hm1 v1 w1
      have hS_y := rd_sl1 hw_29.1.1 hw_29.1.2
      have hr_y := hw_29.1
      have hit_y := hI.1.2.1 y hw_29.1.1 hw_29.1.2
      refine rd_ifnonnull_r C dX9_link_29 (tgt := 34) (by decide) ?_
      refine rd_iload_n C dX9_link_34 rfl ?_
      refine rd_iconst C dX9_link_35 (n := 0) ⟨by decide, by decide⟩ ?_
      refine rd_bipush C dX9_link_36 (n := 9) (by decide) ⟨by decide, by decide⟩ ?_
      refine rd_callS C (c_X9_isWithin) rm_X9_82 rt_X9_isWithin rc_X9_isWithin rz_X9 ⟨rp_X9_isWithin, rfl, rfl, by decide, by decide⟩ rfl dX9_link_38 rfl (Nat.le_of_ble_eq_true rfl) (fun v1 w1 hq => ?_)
      rcases hq with ⟨hw_41, hv1, hm1⟩ | ⟨hw_41, hv1, hm1⟩
      · rw [hv1, hm1]; clear hv1 hm1 v1 w1
        refine rd_if_ne C dX9_link_41 (tgt := 47) (by decide) (fun _ => ?_) (fun h => absurd h (by decide))
        refine rd_aload C dX9_link_47 rfl ?_
        refine rd_iload_n C dX9_link_49 rfl ?_
        refine rd_callV C (c_X7_targetOf hS_x) rm_X9_122 ri_X7_targetOf rs_X7_targetOf rc_X7_targetOf rz_X7 ⟨rp_X7_targetOf, rfl, rfl, by decide, by decide⟩ rfl rd_kcl7 dX9_link_50 hS_x.1 hS_x.2.2.2.2.2.1 rfl (Nat.le_of_ble_eq_true rfl) (fun v1 w1 hq => ?_)
        obtain ⟨hv1, hm1⟩ := hq; rw [hv1, hm1, sp_ift (by omega)]; clear hv1 hm1 v1 w1
        refine rd_iconst C dX9_link_53 (n := -1) ⟨by decide, by decide⟩ ?_
        refine rd_icmp_ne C dX9_link_54 (tgt := 69) (by decide) (fun h_54 => ?_) (fun h_54 => ?_)
        · refine rd_aload_n C dX9_link_69 rfl ?_
          refine rd_get C rd_g9_1 rf_X9_19 dX9_link_70 rd_b0 rd_k0 (x := rd_R (62)) rfl (fun _ => trivial) ?_
          refine rd_aload_n C dX9_link_73 rfl ?_
          refine rd_get C rd_g9_0 rf_X9_10 dX9_link_74 rd_b0 rd_k0 (x := rd_R (1)) rfl (fun _ => trivial) ?_
          refine rd_callV C (c_X2_keep hI.2.2.1.1 hI.2.2.1.2.1.1 hI.2.2.1.2.1.2 hI.2.1) rm_X9_54 ri_X2_keep rs_X2_keep rc_X2_keep rz_X2 ⟨rp_X2_keep, rfl, rfl, by decide, by decide⟩ rfl rd_kcl2 dX9_link_77 rd_b62 rd_k62 rfl (Nat.le_of_ble_eq_true rfl) (fun v1 w1 hq => ?_)
          obtain ⟨hv1, hm1⟩ := hq; rw [hv1, hm1]; clear hv1 hm1 v1 w1
          have hkl : ∀ a : Int, a < 62 ∨ 308 ≤ a → rd_keep μ a = μ a := fun a ha => rd_keep_lo hI.2.2.1 ha
          have hk62 : ∀ a : Int, a < 62 → rd_keep μ a = μ a := fun a ha => hkl a (Or.inl ha)
          have hk55 : ∀ a : Int, a < 55 → rd_keep μ a = μ a := fun a ha => hkl a (Or.inl (by omega))
          have hkw := sp_wf_k hI hk62
          refine rd_aload C dX9_link_80 rfl ?_
          refine rd_iload_n C dX9_link_82 rfl ?_
          refine rd_iload_n C dX9_link_83 rfl ?_
          refine rd_callV C (c_X7_setTarget (μ := rd_keep μ) hS_x (by omega) (by omega)) rm_X9_128 ri_X7_setTarget rs_X7_setTarget rc_X7_setTarget rz_X7 ⟨rp_X7_setTarget, rfl, rfl, by decide, by decide⟩ rfl rd_kcl7 dX9_link_84 hS_x.1 hS_x.2.2.2.2.2.1 rfl (Nat.le_of_ble_eq_true rfl) (fun v1 w1 hq => ?_)
          obtain ⟨hv1, hm1⟩ := hq; rw [hv1, show w1 = rd_u (rd_keep μ) (5 + 5 * x + 4) k0 y from hm1]; clear hv1 hm1
          refine rd_aload C dX9_link_87 rfl ?_
          refine rd_callV C (c_X7_countLinks hS_x) rm_X9_125 ri_X7_countLinks rs_X7_countLinks rc_X7_countLinks rz_X7 ⟨rp_X7_countLinks, rfl, rfl, by decide, by decide⟩ rfl rd_kcl7 dX9_link_89 hS_x.1 hS_x.2.2.2.2.2.1 rfl (Nat.le_of_ble_eq_true rfl) (fun v1 w1 hq => ?_)
          obtain ⟨hv1, hm1⟩ := hq; rw [show v1 = some (rd_I (sp_lk (rd_u (rd_keep μ) (5 + 5 * x + 4) k0 y (5 + 5 * x + 4)) 10)) from hv1, hm1]; clear hv1 hm1
          exact rd_iret C dX9_link_92 (by first | exact Or.inl ⟨(by first | exact Or.inl (by assumption) | exact Or.inr (by assumption)), rfl, rfl⟩ | exact Or.inr (Or.inl ⟨⟨(by assumption), (by assumption), (by omega)⟩, rfl, rfl⟩) | exact Or.inr (Or.inr (Or.inl ⟨⟨(by assumption), (by assumption), (by omega), (by omega)⟩, rfl, rfl⟩)) | exact Or.inr (Or.inr (Or.inr ⟨⟨(by assumption), (by assumption), (by omega), (by omega)⟩, rfl, rfl⟩)))
        · refine rd_aload C dX9_link_57 rfl ?_
          refine rd_callV C (c_X7_countLinks hS_x) rm_X9_125 ri_X7_countLinks rs_X7_countLinks rc_X7_countLinks rz_X7 ⟨rp_X7_countLinks, rfl, rfl, by decide, by decide⟩ rfl rd_kcl7 dX9_link_59 hS_x.1 hS_x.2.2.2.2.2.1 rfl (Nat.le_of_ble_eq_true rfl) (fun v1 w1 hq => ?_)
          obtain ⟨hv1, hm1⟩ := hq; rw [show v1 = some (rd_I (sp_lk (μ (5 + 5 * x + 4)) 10)) from hv1, hm1]; clear hv1 hm1
          refine rd_iconst C dX9_link_62 (n := 3) ⟨by decide, by decide⟩ ?_
          refine rd_icmp_lt C dX9_link_63 (tgt := 69) (by decide) (fun h_63 => ?_) (fun h_63 => ?_)
          · refine rd_aload_n C dX9_link_69 rfl ?_
            refine rd_get C rd_g9_1 rf_X9_19 dX9_link_70 rd_b0 rd_k0 (x := rd_R (62)) rfl (fun _ => trivial) ?_
            refine rd_aload_n C dX9_link_73 rfl ?_
            refine rd_get C rd_g9_0 rf_X9_10 dX9_link_74 rd_b0 rd_k0 (x := rd_R (1)) rfl (fun _ => trivial) ?_
            refine rd_callV C (c_X2_keep hI.2.2.1.1 hI.2.2.1.2.1.1 hI.2.2.1.2.1.2 hI.2.1) rm_X9_54 ri_X2_keep rs_X2_keep rc_X2_keep rz_X2 ⟨rp_X2_keep, rfl, rfl, by decide, by decide⟩ rfl rd_kcl2 dX9_link_77 rd_b62 rd_k62 rfl (Nat.le_of_ble_eq_true rfl) (fun v1 w1 hq => ?_)
            obtain ⟨hv1, hm1⟩ := hq; rw [hv1, hm1]; clear hv1 hm1 v1 w1
            have hkl : ∀ a : Int, a < 62 ∨ 308 ≤ a → rd_keep μ a = μ a := fun a ha => rd_keep_lo hI.2.2.1 ha
            have hk62 : ∀ a : Int, a < 62 → rd_keep μ a = μ a := fun a ha => hkl a (Or.inl ha)
            have hk55 : ∀ a : Int, a < 55 → rd_keep μ a = μ a := fun a ha => hkl a (Or.inl (by omega))
            have hkw := sp_wf_k hI hk62
            refine rd_aload C dX9_link_80 rfl ?_
            refine rd_iload_n C dX9_link_82 rfl ?_
            refine rd_iload_n C dX9_link_83 rfl ?_
            refine rd_callV C (c_X7_setTarget (μ := rd_keep μ) hS_x (by omega) (by omega)) rm_X9_128 ri_X7_setTarget rs_X7_setTarget rc_X7_setTarget rz_X7 ⟨rp_X7_setTarget, rfl, rfl, by decide, by decide⟩ rfl rd_kcl7 dX9_link_84 hS_x.1 hS_x.2.2.2.2.2.1 rfl (Nat.le_of_ble_eq_true rfl) (fun v1 w1 hq => ?_)
            obtain ⟨hv1, hm1⟩ := hq; rw [hv1, show w1 = rd_u (rd_keep μ) (5 + 5 * x + 4) k0 y from hm1]; clear hv1 hm1
            refine rd_aload C dX9_link_87 rfl ?_
            refine rd_callV C (c_X7_countLinks hS_x) rm_X9_125 ri_X7_countLinks rs_X7_countLinks rc_X7_countLinks rz_X7 ⟨rp_X7_countLinks, rfl, rfl, by decide, by decide⟩ rfl rd_kcl7 dX9_link_89 hS_x.1 hS_x.2.2.2.2.2.1 rfl (Nat.le_of_ble_eq_true rfl) (fun v1 w1 hq => ?_)
            obtain ⟨hv1, hm1⟩ := hq; rw [show v1 = some (rd_I (sp_lk (rd_u (rd_keep μ) (5 + 5 * x + 4) k0 y (5 + 5 * x + 4)) 10)) from hv1, hm1]; clear hv1 hm1
            exact rd_iret C dX9_link_92 (by first | exact Or.inl ⟨(by first | exact Or.inl (by assumption) | exact Or.inr (by assumption)), rfl, rfl⟩ | exact Or.inr (Or.inl ⟨⟨(by assumption), (by assumption), (by omega)⟩, rfl, rfl⟩) | exact Or.inr (Or.inr (Or.inl ⟨⟨(by assumption), (by assumption), (by omega), (by omega)⟩, rfl, rfl⟩)) | exact Or.inr (Or.inr (Or.inr ⟨⟨(by assumption), (by assumption), (by omega), (by omega)⟩, rfl, rfl⟩)))
          · refine rd_bipush C dX9_link_66 (n := -4) (by decide) ⟨by decide, by decide⟩ ?_
            exact rd_iret C dX9_link_68 (by first | exact Or.inl ⟨(by first | exact Or.inl (by assumption) | exact Or.inr (by assumption)), rfl, rfl⟩ | exact Or.inr (Or.inl ⟨⟨(by assumption), (by assumption), (by omega)⟩, rfl, rfl⟩) | exact Or.inr (Or.inr (Or.inl ⟨⟨(by assumption), (by assumption), (by omega), (by omega)⟩, rfl, rfl⟩)) | exact Or.inr (Or.inr (Or.inr ⟨⟨(by assumption), (by assumption), (by omega), (by omega)⟩, rfl, rfl⟩)))
      · rw [hv1, hm1]; clear hv1 hm1 v1 w1
        refine rd_if_ne C dX9_link_41 (tgt := 47) (by decide) (fun h => absurd h (by decide)) (fun _ => ?_)
        refine rd_bipush C dX9_link_44 (n := -2) (by decide) ⟨by decide, by decide⟩ ?_
        exact rd_iret C dX9_link_46 (by first | exact Or.inl ⟨(by first | exact Or.inl (by assumption) | exact Or.inr (by assumption)), rfl, rfl⟩ | exact Or.inr (Or.inl ⟨⟨(by assumption), (by assumption), (by omega)⟩, rfl, rfl⟩) | exact Or.inr (Or.inr (Or.inl ⟨⟨(by assumption), (by assumption), (by omega), (by omega)⟩, rfl, rfl⟩)) | exact Or.inr (Or.inr (Or.inr ⟨⟨(by assumption), (by assumption), (by omega), (by omega)⟩, rfl, rfl⟩)))
    · rw [hv1, hm1]; clear hv1 hm1 v1 w1
      refine rd_ifnonnull_n C dX9_link_29 ?_
      refine rd_iconst C dX9_link_32 (n := -1) ⟨by decide, by decide⟩ ?_
      exact rd_iret C dX9_link_33 (by first | exact Or.inl ⟨(by first | exact Or.inl (by assumption) | exact Or.inr (by assumption)), rfl, rfl⟩ | exact Or.inr (Or.inl ⟨⟨(by assumption), (by assumption), (by omega)⟩, rfl, rfl⟩) | exact Or.inr (Or.inr (Or.inl ⟨⟨(by assumption), (by assumption), (by omega), (by omega)⟩, rfl, rfl⟩)) | exact Or.inr (Or.inr (Or.inr ⟨⟨(by assumption), (by assumption), (by omega), (by omega)⟩, rfl, rfl⟩)))
  · rw [hv1, hm1]; clear hv1 hm1 v1 w1
    refine rd_astoreN C dX9_link_11 (by decide) (L' := [rd_R 0, rd_I x, rd_I k0, rd_I y, rd_N]) rfl ?_
    refine rd_aload C dX9_link_13 rfl ?_
    refine rd_ifnull_n C dX9_link_15 (tgt := 32) (by decide) ?_
    refine rd_iconst C dX9_link_32 (n := -1) ⟨by decide, by decide⟩ ?_
    exact rd_iret C dX9_link_33 (by first | exact Or.inl ⟨(by first | exact Or.inl (by assumption) | exact Or.inr (by assumption)), rfl, rfl⟩ | exact Or.inr (Or.inl ⟨⟨(by assumption), (by assumption), (by omega)⟩, rfl, rfl⟩) | exact Or.inr (Or.inr (Or.inl ⟨⟨(by assumption), (by assumption), (by omega), (by omega)⟩, rfl, rfl⟩)) | exact Or.inr (Or.inr (Or.inr ⟨⟨(by assumption), (by assumption), (by omega), (by omega)⟩, rfl, rfl⟩)))
set_option maxHeartbeats 4000000 in
set_option maxRecDepth 100000 in
theorem c_X9_unlink {l : Launch} {G : rd_G} {r : Nat} {μ : rd_Mem} (hI : sp_inv μ) {x k0 : Int} : rd_M l G rd_kc 313 r yX9_unlink cX9_unlink 4 (some .int) (rd_rm 5 125) [rd_R 0, rd_I x, rd_I k0] μ (fun v μ' => (¬ (sp_th μ x ∧ (0 ≤ k0 ∧ k0 ≤ 9) ∧ μ (5 + 5 * x + 4) k0 ≠ -1) ∧ v = some (rd_I (-1)) ∧ μ' = μ) ∨ ((sp_th μ x ∧ (0 ≤ k0 ∧ k0 ≤ 9) ∧ μ (5 + 5 * x + 4) k0 ≠ -1) ∧ v = some (rd_I (sp_lk (rd_u (rd_keep μ) (5 + 5 * x + 4) k0 (-1) (5 + 5 * x + 4)) 10)) ∧ μ' = rd_u (rd_keep μ) (5 + 5 * x + 4) k0 (-1))) := by
  refine rd_enter (by decide +kernel) (Nat.le_of_ble_eq_true rfl) [rd_R 0, rd_I x, rd_I k0, rd_J] rfl (fun p e s m args below meth c C => ?_)
  refine rd_W.rng (fun hM hL _ => ?_)
  have hc1 := hI.1.1.1
  have hc2 := hI.1.1.2
  have hn1 := hI.2.2.2.2.1.1
  have hn2 := hI.2.2.2.2.1.2
  have htc := hI.1.2.2.2.1
  have hst := hI.1.2.2.2.2
  refine rd_aload_n C dX9_unlink_0 rfl ?_
  refine rd_get C rd_g9_0 rf_X9_10 dX9_unlink_1 rd_b0 rd_k0 (x := rd_R (1)) rfl (fun _ => trivial) ?_
  refine rd_get C rd_g8_1 rf_X9_44 dX9_unlink_4 rd_b1 rd_k1 (x := rd_R (2)) rfl (fun _ => trivial) ?_
  refine rd_iload_n C dX9_unlink_7 rfl ?_
  refine rd_callV C (c_X0_find) rm_X9_62 ri_X0_find rs_X0_find rc_X0_find rz_X0 ⟨rp_X0_find, rfl, rfl, by decide, by decide⟩ rfl rd_kcl0 dX9_unlink_8 rd_b2 rd_k2 rfl (Nat.le_of_ble_eq_true rfl) (fun v1 w1 hq => ?_)
  rcases hq with ⟨hw_11, hv1, hm1⟩ | ⟨hw_11, hv1, hm1⟩
  · rw [hv1, hm1]; clear hv1 hm1 v1 w1
    have hS_x := rd_sl1 hw_11.1.1 hw_11.1.2
    have hr_x := hw_11.1
    have hit_x := hI.1.2.1 x hw_11.1.1 hw_11.1.2
    refine rd_astore_n C dX9_unlink_11 (by decide) (L' := [rd_R 0, rd_I x, rd_I k0, rd_R (5 + 5 * x)]) rfl ?_
    refine rd_aload_n C dX9_unlink_12 rfl ?_
    refine rd_ifnull_r C dX9_unlink_13 ?_
    refine rd_aload_n C dX9_unlink_16 rfl ?_
    refine rd_iload_n C dX9_unlink_17 rfl ?_
    refine rd_callV C (c_X7_targetOf hS_x) rm_X9_122 ri_X7_targetOf rs_X7_targetOf rc_X7_targetOf rz_X7 ⟨rp_X7_targetOf, rfl, rfl, by decide, by decide⟩ rfl rd_kcl7 dX9_unlink_18 hS_x.1 hS_x.2.2.2.2.2.1 rfl (Nat.le_of_ble_eq_true rfl) (fun v1 w1 hq => ?_)
    obtain ⟨hv1, hm1⟩ := hq; rw [show v1 = some (rd_I (sp_if (0 ≤ k0 ∧ k0 ≤ 9) (μ (5 + 5 * x + 4) k0) (-1))) from hv1, hm1]; clear hv1 hm1
    refine rd_iconst C dX9_unlink_21 (n := -1) ⟨by decide, by decide⟩ ?_
    refine rd_icmp_ne C dX9_unlink_22 (tgt := 27) (by decide) (fun h_22 => ?_) (fun h_22 => ?_)
    · have hkr : 0 ≤ k0 ∧ k0 ≤ 9 := by
        by_cases h : 0 ≤ k0 ∧ k0 ≤ 9
        · exact h
        · exact absurd (sp_iff h _ _) h_22
      have hkt : μ (5 + 5 * x + 4) k0 ≠ -1 := by rw [sp_ift hkr] at h_22; exact h_22
      refine rd_aload_n C dX9_unlink_27 rfl ?_
      refine rd_get C rd_g9_1 rf_X9_19 dX9_unlink_28 rd_b0 rd_k0 (x := rd_R (62)) rfl (fun _ => trivial) ?_
      refine rd_aload_n C dX9_unlink_31 rfl ?_
      refine rd_get C rd_g9_0 rf_X9_10 dX9_unlink_32 rd_b0 rd_k0 (x := rd_R (1)) rfl (fun _ => trivial) ?_
      refine rd_callV C (c_X2_keep hI.2.2.1.1 hI.2.2.1.2.1.1 hI.2.2.1.2.1.2 hI.2.1) rm_X9_54 ri_X2_keep rs_X2_keep rc_X2_keep rz_X2 ⟨rp_X2_keep, rfl, rfl, by decide, by decide⟩ rfl rd_kcl2 dX9_unlink_35 rd_b62 rd_k62 rfl (Nat.le_of_ble_eq_true rfl) (fun v1 w1 hq => ?_)
      obtain ⟨hv1, hm1⟩ := hq; rw [hv1, hm1]; clear hv1 hm1 v1 w1
      have hkl : ∀ a : Int, a < 62 ∨ 308 ≤ a → rd_keep μ a = μ a := fun a ha => rd_keep_lo hI.2.2.1 ha
      have hk62 : ∀ a : Int, a < 62 → rd_keep μ a = μ a := fun a ha => hkl a (Or.inl ha)
      have hk55 : ∀ a : Int, a < 55 → rd_keep μ a = μ a := fun a ha => hkl a (Or.inl (by omega))
      have hkw := sp_wf_k hI hk62
      refine rd_aload_n C dX9_unlink_38 rfl ?_
      refine rd_iload_n C dX9_unlink_39 rfl ?_
      refine rd_iconst C dX9_unlink_40 (n := -1) ⟨by decide, by decide⟩ ?_
      refine rd_callV C (c_X7_setTarget (μ := rd_keep μ) hS_x hkr.1 hkr.2) rm_X9_128 ri_X7_setTarget rs_X7_setTarget rc_X7_setTarget rz_X7 ⟨rp_X7_setTarget, rfl, rfl, by decide, by decide⟩ rfl rd_kcl7 dX9_unlink_41 hS_x.1 hS_x.2.2.2.2.2.1 rfl (Nat.le_of_ble_eq_true rfl) (fun v1 w1 hq => ?_)
      obtain ⟨hv1, hm1⟩ := hq; rw [hv1, show w1 = rd_u (rd_keep μ) (5 + 5 * x + 4) k0 (-1) from hm1]; clear hv1 hm1
      refine rd_aload_n C dX9_unlink_44 rfl ?_
      refine rd_callV C (c_X7_countLinks hS_x) rm_X9_125 ri_X7_countLinks rs_X7_countLinks rc_X7_countLinks rz_X7 ⟨rp_X7_countLinks, rfl, rfl, by decide, by decide⟩ rfl rd_kcl7 dX9_unlink_45 hS_x.1 hS_x.2.2.2.2.2.1 rfl (Nat.le_of_ble_eq_true rfl) (fun v1 w1 hq => ?_)
      obtain ⟨hv1, hm1⟩ := hq; rw [show v1 = some (rd_I (sp_lk (rd_u (rd_keep μ) (5 + 5 * x + 4) k0 (-1) (5 + 5 * x + 4)) 10)) from hv1, hm1]; clear hv1 hm1
      exact rd_iret C dX9_unlink_48 (by first | exact Or.inl ⟨(by intro h; exact hw_11 h.1), rfl, rfl⟩ | exact Or.inl ⟨(by rintro ⟨h1, h2, h3⟩; rw [sp_ift h2] at h_22; exact h3 h_22), rfl, rfl⟩ | exact Or.inr ⟨⟨hw_11, hkr, hkt⟩, rfl, rfl⟩)
    · refine rd_iconst C dX9_unlink_25 (n := -1) ⟨by decide, by decide⟩ ?_
      exact rd_iret C dX9_unlink_26 (by first | exact Or.inl ⟨(by intro h; exact hw_11 h.1), rfl, rfl⟩ | exact Or.inl ⟨(by rintro ⟨h1, h2, h3⟩; rw [sp_ift h2] at h_22; exact h3 h_22), rfl, rfl⟩ | exact Or.inr ⟨⟨hw_11, hkr, hkt⟩, rfl, rfl⟩)
  · rw [hv1, hm1]; clear hv1 hm1 v1 w1
    refine rd_astore_nN C dX9_unlink_11 (by decide) (L' := [rd_R 0, rd_I x, rd_I k0, rd_N]) rfl ?_
    refine rd_aload_n C dX9_unlink_12 rfl ?_
    refine rd_ifnull_n C dX9_unlink_13 (tgt := 25) (by decide) ?_
    refine rd_iconst C dX9_unlink_25 (n := -1) ⟨by decide, by decide⟩ ?_
    exact rd_iret C dX9_unlink_26 (by first | exact Or.inl ⟨(by intro h; exact hw_11 h.1), rfl, rfl⟩ | exact Or.inl ⟨(by rintro ⟨h1, h2, h3⟩; rw [sp_ift h2] at h_22; exact h3 h_22), rfl, rfl⟩ | exact Or.inr ⟨⟨hw_11, hkr, hkt⟩, rfl, rfl⟩)
set_option maxHeartbeats 4000000 in
set_option maxRecDepth 100000 in
theorem c_X9_note {l : Launch} {G : rd_G} {r : Nat} {μ : rd_Mem} (hI : sp_inv μ) {s0 u0 : Int} : rd_M l G rd_kc 313 r yX9_note cX9_note 4 (some .int) (rd_rm 5 125) [rd_R 0, rd_I s0, rd_I u0] μ (fun v μ' => (¬ ((0 ≤ s0 ∧ s0 ≤ 9999) ∧ (-1 ≤ u0 ∧ u0 ≤ 99)) ∧ v = some (rd_I (-2)) ∧ μ' = μ) ∨ ((((0 ≤ s0 ∧ s0 ≤ 9999) ∧ (-1 ≤ u0 ∧ u0 ≤ 99)) ∧ u0 = -1 ∧ sp_ff (fun i => μ 56 i = s0) (μ 55 0).toNat 0 = -1) ∧ v = some (rd_I (-1)) ∧ μ' = μ) ∨ ((((0 ≤ s0 ∧ s0 ≤ 9999) ∧ (-1 ≤ u0 ∧ u0 ≤ 99)) ∧ u0 ≠ -1 ∧ sp_ff (fun i => μ 56 i = s0) (μ 55 0).toNat 0 = -1 ∧ 8 ≤ μ 55 0) ∧ v = some (rd_I (-4)) ∧ μ' = μ) ∨ ((((0 ≤ s0 ∧ s0 ≤ 9999) ∧ (-1 ≤ u0 ∧ u0 ≤ 99)) ∧ u0 = -1 ∧ sp_ff (fun i => μ 56 i = s0) (μ 55 0).toNat 0 ≠ -1) ∧ v = some (rd_I (μ 55 0 - 1)) ∧ μ' = rd_u (rd_u (rd_u (rd_keep μ) 55 0 (μ 55 0 - 1)) 56 (sp_ff (fun i => μ 56 i = s0) (μ 55 0).toNat 0) (μ 56 (μ 55 0 - 1))) 57 (sp_ff (fun i => μ 56 i = s0) (μ 55 0).toNat 0) (μ 57 (μ 55 0 - 1))) ∨ ((((0 ≤ s0 ∧ s0 ≤ 9999) ∧ (-1 ≤ u0 ∧ u0 ≤ 99)) ∧ u0 ≠ -1 ∧ sp_ff (fun i => μ 56 i = s0) (μ 55 0).toNat 0 = -1 ∧ μ 55 0 < 8) ∧ v = some (rd_I (μ 55 0 + 1)) ∧ μ' = rd_u (rd_u (rd_u (rd_keep μ) 56 (μ 55 0) s0) 57 (μ 55 0) u0) 55 0 (μ 55 0 + 1)) ∨ ((((0 ≤ s0 ∧ s0 ≤ 9999) ∧ (-1 ≤ u0 ∧ u0 ≤ 99)) ∧ u0 ≠ -1 ∧ sp_ff (fun i => μ 56 i = s0) (μ 55 0).toNat 0 ≠ -1) ∧ v = some (rd_I (μ 55 0)) ∧ μ' = rd_u (rd_u (rd_keep μ) 56 (sp_ff (fun i => μ 56 i = s0) (μ 55 0).toNat 0) s0) 57 (sp_ff (fun i => μ 56 i = s0) (μ 55 0).toNat 0) u0)) := by
  refine rd_enter (by decide +kernel) (Nat.le_of_ble_eq_true rfl) [rd_R 0, rd_I s0, rd_I u0, rd_J] rfl (fun p e s m args below meth c C => ?_)
  refine rd_W.rng (fun hM hL _ => ?_)
  have hc1 := hI.1.1.1
  have hc2 := hI.1.1.2
  have hn1 := hI.2.2.2.2.1.1
  have hn2 := hI.2.2.2.2.1.2
  have htc := hI.1.2.2.2.1
  have hst := hI.1.2.2.2.2
  refine rd_iload_n C dX9_note_0 rfl ?_
  refine rd_iconst C dX9_note_1 (n := 0) ⟨by decide, by decide⟩ ?_
  refine rd_sipush C dX9_note_2 (n := 9999) (by decide) ⟨by decide, by decide⟩ ?_
  refine rd_callS C (c_X9_isWithin) rm_X9_82 rt_X9_isWithin rc_X9_isWithin rz_X9 ⟨rp_X9_isWithin, rfl, rfl, by decide, by decide⟩ rfl dX9_note_5 rfl (Nat.le_of_ble_eq_true rfl) (fun v1 w1 hq => ?_)
  rcases hq with ⟨hw_8, hv1, hm1⟩ | ⟨hw_8, hv1, hm1⟩
  · rw [hv1, hm1]; clear hv1 hm1 v1 w1
    refine rd_if_eq C dX9_note_8 (tgt := 21) (by decide) (fun h => absurd h (by decide)) (fun _ => ?_)
    refine rd_iload_n C dX9_note_11 rfl ?_
    refine rd_iconst C dX9_note_12 (n := -1) ⟨by decide, by decide⟩ ?_
    refine rd_bipush C dX9_note_13 (n := 99) (by decide) ⟨by decide, by decide⟩ ?_
    refine rd_callS C (c_X9_isWithin) rm_X9_82 rt_X9_isWithin rc_X9_isWithin rz_X9 ⟨rp_X9_isWithin, rfl, rfl, by decide, by decide⟩ rfl dX9_note_15 rfl (Nat.le_of_ble_eq_true rfl) (fun v1 w1 hq => ?_)
    rcases hq with ⟨hw_18, hv1, hm1⟩ | ⟨hw_18, hv1, hm1⟩
    · rw [hv1, hm1]; clear hv1 hm1 v1 w1
      refine rd_if_ne C dX9_note_18 (tgt := 24) (by decide) (fun _ => ?_) (fun h => absurd h (by decide))
      refine rd_aload_n C dX9_note_24 rfl ?_
      refine rd_get C rd_g9_0 rf_X9_10 dX9_note_25 rd_b0 rd_k0 (x := rd_R (1)) rfl (fun _ => trivial) ?_
      refine rd_get C rd_g8_2 rf_X9_131 dX9_note_28 rd_b1 rd_k1 (x := rd_R (55)) rfl (fun _ => trivial) ?_
      refine rd_iload_n C dX9_note_31 rfl ?_
      refine rd_callV C (c_X3_placeOf hn1 hn2) rm_X9_135 ri_X3_placeOf rs_X3_placeOf rc_X3_placeOf rz_X3 ⟨rp_X3_placeOf, rfl, rfl, by decide, by decide⟩ rfl rd_kcl3 dX9_note_32 rd_b55 rd_k55 rfl (Nat.le_of_ble_eq_true rfl) (fun v1 w1 hq => ?_)
      obtain ⟨hv1, hm1⟩ := hq; rw [show v1 = some (rd_I (sp_ff (fun i => μ 56 i = s0) (μ 55 0).toNat 0)) from hv1, hm1]; clear hv1 hm1
      refine rd_istore_n C dX9_note_35 (by decide) (L' := [rd_R 0, rd_I s0, rd_I u0, rd_I (sp_ff (fun i => μ 56 i = s0) (μ 55 0).toNat 0)]) rfl ?_
      have hnr : -1 ≤ sp_ff (fun i => μ 56 i = s0) (μ 55 0).toNat 0 ∧ sp_ff (fun i => μ 56 i = s0) (μ 55 0).toNat 0 < μ 55 0 := by
        rcases sp_ff_spec (fun i => μ 56 i = s0) (μ 55 0).toNat 0 with ⟨h, -⟩ | ⟨h, -⟩ <;> omega
      refine rd_iload_n C dX9_note_36 rfl ?_
      refine rd_iconst C dX9_note_37 (n := -1) ⟨by decide, by decide⟩ ?_
      refine rd_icmp_ne C dX9_note_38 (tgt := 48) (by decide) (fun h_38 => ?_) (fun h_38 => ?_)
      · refine rd_iload_n C dX9_note_48 rfl ?_
        refine rd_iconst C dX9_note_49 (n := -1) ⟨by decide, by decide⟩ ?_
        refine rd_icmp_ne C dX9_note_50 (tgt := 71) (by decide) (fun h_50 => ?_) (fun h_50 => ?_)
        · refine rd_aload_n C dX9_note_71 rfl ?_
          refine rd_get C rd_g9_1 rf_X9_19 dX9_note_72 rd_b0 rd_k0 (x := rd_R (62)) rfl (fun _ => trivial) ?_
          refine rd_aload_n C dX9_note_75 rfl ?_
          refine rd_get C rd_g9_0 rf_X9_10 dX9_note_76 rd_b0 rd_k0 (x := rd_R (1)) rfl (fun _ => trivial) ?_
          refine rd_callV C (c_X2_keep hI.2.2.1.1 hI.2.2.1.2.1.1 hI.2.2.1.2.1.2 hI.2.1) rm_X9_54 ri_X2_keep rs_X2_keep rc_X2_keep rz_X2 ⟨rp_X2_keep, rfl, rfl, by decide, by decide⟩ rfl rd_kcl2 dX9_note_79 rd_b62 rd_k62 rfl (Nat.le_of_ble_eq_true rfl) (fun v1 w1 hq => ?_)
          obtain ⟨hv1, hm1⟩ := hq; rw [hv1, hm1]; clear hv1 hm1 v1 w1
          have hkl : ∀ a : Int, a < 62 ∨ 308 ≤ a → rd_keep μ a = μ a := fun a ha => rd_keep_lo hI.2.2.1 ha
          have hk62 : ∀ a : Int, a < 62 → rd_keep μ a = μ a := fun a ha => hkl a (Or.inl ha)
          have hk55 : ∀ a : Int, a < 55 → rd_keep μ a = μ a := fun a ha => hkl a (Or.inl (by omega))
          have hkw := sp_wf_k hI hk62
          refine rd_iload_n C dX9_note_82 rfl ?_
          refine rd_iconst C dX9_note_83 (n := -1) ⟨by decide, by decide⟩ ?_
          refine rd_icmp_ne C dX9_note_84 (tgt := 101) (by decide) (fun h_84 => ?_) (fun h_84 => ?_)
          · by_cases hnew : sp_ff (fun i => μ 56 i = s0) (μ 55 0).toNat 0 = -1
            · rw [hnew]
              refine rd_aload_n C dX9_note_101 rfl ?_
              refine rd_get C rd_g9_0 rf_X9_10 dX9_note_102 rd_b0 rd_k0 (x := rd_R (1)) rfl (fun _ => trivial) ?_
              refine rd_get C rd_g8_2 rf_X9_131 dX9_note_105 rd_b1 rd_k1 (x := rd_R (55)) rfl (fun _ => trivial) ?_
              refine rd_iload_n C dX9_note_108 rfl ?_
              refine rd_iload_n C dX9_note_109 rfl ?_
              refine rd_iload_n C dX9_note_110 rfl ?_
              refine rd_callV C (c_X3_putAt_new (μ := rd_keep μ) (by rw [hkl _ (by omega)]; omega) (by rw [hkl _ (by omega)]; omega)) rm_X9_142 ri_X3_putAt rs_X3_putAt rc_X3_putAt rz_X3 ⟨rp_X3_putAt, rfl, rfl, by decide, by decide⟩ rfl rd_kcl3 dX9_note_111 rd_b55 rd_k55 rfl (Nat.le_of_ble_eq_true rfl) (fun v1 w1 hq => ?_)
              obtain ⟨hv1, hm1⟩ := hq; rw [hv1, hm1, hkl 55 (by omega)]; clear hv1 hm1 v1 w1
              refine rd_aload_n C dX9_note_114 rfl ?_
              refine rd_get C rd_g9_0 rf_X9_10 dX9_note_115 rd_b0 rd_k0 (x := rd_R (1)) rfl (fun _ => trivial) ?_
              refine rd_get C rd_g8_2 rf_X9_131 dX9_note_118 rd_b1 rd_k1 (x := rd_R (55)) rfl (fun _ => trivial) ?_
              refine rd_getx C rd_g3_0 rf_X9_138 dX9_note_121 rd_b55 rd_k55 rfl (z := μ 55 0 + 1) (by rw [rd_u_s]) ?_
              exact rd_iret C dX9_note_124 (by first | exact Or.inl ⟨(by omega), rfl, rfl⟩ | exact Or.inr (Or.inl ⟨(by omega), rfl, rfl⟩) | exact Or.inr (Or.inr (Or.inl ⟨(by omega), rfl, rfl⟩)) | exact Or.inr (Or.inr (Or.inr (Or.inl ⟨(by omega), rfl, rfl⟩))) | exact Or.inr (Or.inr (Or.inr (Or.inr (Or.inl ⟨(by omega), rfl, rfl⟩)))) | exact Or.inr (Or.inr (Or.inr (Or.inr (Or.inr ⟨(by omega), rfl, rfl⟩)))))
            · have hold := hnew
              refine rd_aload_n C dX9_note_101 rfl ?_
              refine rd_get C rd_g9_0 rf_X9_10 dX9_note_102 rd_b0 rd_k0 (x := rd_R (1)) rfl (fun _ => trivial) ?_
              refine rd_get C rd_g8_2 rf_X9_131 dX9_note_105 rd_b1 rd_k1 (x := rd_R (55)) rfl (fun _ => trivial) ?_
              refine rd_iload_n C dX9_note_108 rfl ?_
              refine rd_iload_n C dX9_note_109 rfl ?_
              refine rd_iload_n C dX9_note_110 rfl ?_
              refine rd_callV C (c_X3_putAt_old (μ := rd_keep μ) (by omega) (by rw [hkl _ (by omega)]; omega) (by rw [hkl _ (by omega)]; omega)) rm_X9_142 ri_X3_putAt rs_X3_putAt rc_X3_putAt rz_X3 ⟨rp_X3_putAt, rfl, rfl, by decide, by decide⟩ rfl rd_kcl3 dX9_note_111 rd_b55 rd_k55 rfl (Nat.le_of_ble_eq_true rfl) (fun v1 w1 hq => ?_)
              obtain ⟨hv1, hm1⟩ := hq; rw [hv1, hm1]; clear hv1 hm1 v1 w1
              refine rd_aload_n C dX9_note_114 rfl ?_
              refine rd_get C rd_g9_0 rf_X9_10 dX9_note_115 rd_b0 rd_k0 (x := rd_R (1)) rfl (fun _ => trivial) ?_
              refine rd_get C rd_g8_2 rf_X9_131 dX9_note_118 rd_b1 rd_k1 (x := rd_R (55)) rfl (fun _ => trivial) ?_
              refine rd_getx C rd_g3_0 rf_X9_138 dX9_note_121 rd_b55 rd_k55 rfl (z := μ 55 0) (by rw [rd_u_k _ _ _ (by omega), rd_u_k _ _ _ (by omega), hkl _ (by omega)]) ?_
              exact rd_iret C dX9_note_124 (by first | exact Or.inl ⟨(by omega), rfl, rfl⟩ | exact Or.inr (Or.inl ⟨(by omega), rfl, rfl⟩) | exact Or.inr (Or.inr (Or.inl ⟨(by omega), rfl, rfl⟩)) | exact Or.inr (Or.inr (Or.inr (Or.inl ⟨(by omega), rfl, rfl⟩))) | exact Or.inr (Or.inr (Or.inr (Or.inr (Or.inl ⟨(by omega), rfl, rfl⟩)))) | exact Or.inr (Or.inr (Or.inr (Or.inr (Or.inr ⟨(by omega), rfl, rfl⟩)))))
          · refine rd_aload_n C dX9_note_87 rfl ?_
            refine rd_get C rd_g9_0 rf_X9_10 dX9_note_88 rd_b0 rd_k0 (x := rd_R (1)) rfl (fun _ => trivial) ?_
            refine rd_get C rd_g8_2 rf_X9_131 dX9_note_91 rd_b1 rd_k1 (x := rd_R (55)) rfl (fun _ => trivial) ?_
            refine rd_iload_n C dX9_note_94 rfl ?_
            refine rd_callV C (c_X3_dropAt (μ := rd_keep μ) (by omega) (by rw [hkl _ (by omega)]; omega) (by rw [hkl _ (by omega)]; omega)) rm_X9_139 ri_X3_dropAt rs_X3_dropAt rc_X3_dropAt rz_X3 ⟨rp_X3_dropAt, rfl, rfl, by decide, by decide⟩ rfl rd_kcl3 dX9_note_95 rd_b55 rd_k55 rfl (Nat.le_of_ble_eq_true rfl) (fun v1 w1 hq => ?_)
            obtain ⟨hv1, hm1⟩ := hq; rw [hv1, hm1, hkl 55 (by omega), hkl 56 (by omega), hkl 57 (by omega)]; clear hv1 hm1 v1 w1
            refine rd_goto C dX9_note_98 (tgt := 114) (by decide) ?_
            refine rd_aload_n C dX9_note_114 rfl ?_
            refine rd_get C rd_g9_0 rf_X9_10 dX9_note_115 rd_b0 rd_k0 (x := rd_R (1)) rfl (fun _ => trivial) ?_
            refine rd_get C rd_g8_2 rf_X9_131 dX9_note_118 rd_b1 rd_k1 (x := rd_R (55)) rfl (fun _ => trivial) ?_
            refine rd_getx C rd_g3_0 rf_X9_138 dX9_note_121 rd_b55 rd_k55 rfl (z := μ 55 0 - 1) (by rw [rd_u_k _ _ _ (by omega), rd_u_k _ _ _ (by omega), rd_u_s]) ?_
            exact rd_iret C dX9_note_124 (by first | exact Or.inl ⟨(by omega), rfl, rfl⟩ | exact Or.inr (Or.inl ⟨(by omega), rfl, rfl⟩) | exact Or.inr (Or.inr (Or.inl ⟨(by omega), rfl, rfl⟩)) | exact Or.inr (Or.inr (Or.inr (Or.inl ⟨(by omega), rfl, rfl⟩))) | exact Or.inr (Or.inr (Or.inr (Or.inr (Or.inl ⟨(by omega), rfl, rfl⟩)))) | exact Or.inr (Or.inr (Or.inr (Or.inr (Or.inr ⟨(by omega), rfl, rfl⟩)))))
        · refine rd_aload_n C dX9_note_53 rfl ?_
          refine rd_get C rd_g9_0 rf_X9_10 dX9_note_54 rd_b0 rd_k0 (x := rd_R (1)) rfl (fun _ => trivial) ?_
          refine rd_get C rd_g8_2 rf_X9_131 dX9_note_57 rd_b1 rd_k1 (x := rd_R (55)) rfl (fun _ => trivial) ?_
          refine rd_get C rd_g3_0 rf_X9_138 dX9_note_60 rd_b55 rd_k55 (x := rd_I (μ 55 0)) rfl (fun h => h _ _) ?_
          refine rd_bipush C dX9_note_63 (n := 8) (by decide) ⟨by decide, by decide⟩ ?_
          refine rd_icmp_lt C dX9_note_65 (tgt := 71) (by decide) (fun h_65 => ?_) (fun h_65 => ?_)
          · refine rd_aload_n C dX9_note_71 rfl ?_
            refine rd_get C rd_g9_1 rf_X9_19 dX9_note_72 rd_b0 rd_k0 (x := rd_R (62)) rfl (fun _ => trivial) ?_
            refine rd_aload_n C dX9_note_75 rfl ?_
            refine rd_get C rd_g9_0 rf_X9_10 dX9_note_76 rd_b0 rd_k0 (x := rd_R (1)) rfl (fun _ => trivial) ?_
            refine rd_callV C (c_X2_keep hI.2.2.1.1 hI.2.2.1.2.1.1 hI.2.2.1.2.1.2 hI.2.1) rm_X9_54 ri_X2_keep rs_X2_keep rc_X2_keep rz_X2 ⟨rp_X2_keep, rfl, rfl, by decide, by decide⟩ rfl rd_kcl2 dX9_note_79 rd_b62 rd_k62 rfl (Nat.le_of_ble_eq_true rfl) (fun v1 w1 hq => ?_)
            obtain ⟨hv1, hm1⟩ := hq; rw [hv1, hm1]; clear hv1 hm1 v1 w1
            have hkl : ∀ a : Int, a < 62 ∨ 308 ≤ a → rd_keep μ a = μ a := fun a ha => rd_keep_lo hI.2.2.1 ha
            have hk62 : ∀ a : Int, a < 62 → rd_keep μ a = μ a := fun a ha => hkl a (Or.inl ha)
            have hk55 : ∀ a : Int, a < 55 → rd_keep μ a = μ a := fun a ha => hkl a (Or.inl (by omega))
            have hkw := sp_wf_k hI hk62
            refine rd_iload_n C dX9_note_82 rfl ?_
            refine rd_iconst C dX9_note_83 (n := -1) ⟨by decide, by decide⟩ ?_
            refine rd_icmp_ne C dX9_note_84 (tgt := 101) (by decide) (fun h_84 => ?_) (fun h_84 => ?_)
            · by_cases hnew : sp_ff (fun i => μ 56 i = s0) (μ 55 0).toNat 0 = -1
              · rw [hnew]
                refine rd_aload_n C dX9_note_101 rfl ?_
                refine rd_get C rd_g9_0 rf_X9_10 dX9_note_102 rd_b0 rd_k0 (x := rd_R (1)) rfl (fun _ => trivial) ?_
                refine rd_get C rd_g8_2 rf_X9_131 dX9_note_105 rd_b1 rd_k1 (x := rd_R (55)) rfl (fun _ => trivial) ?_
                refine rd_iload_n C dX9_note_108 rfl ?_
                refine rd_iload_n C dX9_note_109 rfl ?_
                refine rd_iload_n C dX9_note_110 rfl ?_
                refine rd_callV C (c_X3_putAt_new (μ := rd_keep μ) (by rw [hkl _ (by omega)]; omega) (by rw [hkl _ (by omega)]; omega)) rm_X9_142 ri_X3_putAt rs_X3_putAt rc_X3_putAt rz_X3 ⟨rp_X3_putAt, rfl, rfl, by decide, by decide⟩ rfl rd_kcl3 dX9_note_111 rd_b55 rd_k55 rfl (Nat.le_of_ble_eq_true rfl) (fun v1 w1 hq => ?_)
                obtain ⟨hv1, hm1⟩ := hq; rw [hv1, hm1, hkl 55 (by omega)]; clear hv1 hm1 v1 w1
                refine rd_aload_n C dX9_note_114 rfl ?_
                refine rd_get C rd_g9_0 rf_X9_10 dX9_note_115 rd_b0 rd_k0 (x := rd_R (1)) rfl (fun _ => trivial) ?_
                refine rd_get C rd_g8_2 rf_X9_131 dX9_note_118 rd_b1 rd_k1 (x := rd_R (55)) rfl (fun _ => trivial) ?_
                refine rd_getx C rd_g3_0 rf_X9_138 dX9_note_121 rd_b55 rd_k55 rfl (z := μ 55 0 + 1) (by rw [rd_u_s]) ?_
                exact rd_iret C dX9_note_124 (by first | exact Or.inl ⟨(by omega), rfl, rfl⟩ | exact Or.inr (Or.inl ⟨(by omega), rfl, rfl⟩) | exact Or.inr (Or.inr (Or.inl ⟨(by omega), rfl, rfl⟩)) | exact Or.inr (Or.inr (Or.inr (Or.inl ⟨(by omega), rfl, rfl⟩))) | exact Or.inr (Or.inr (Or.inr (Or.inr (Or.inl ⟨(by omega), rfl, rfl⟩)))) | exact Or.inr (Or.inr (Or.inr (Or.inr (Or.inr ⟨(by omega), rfl, rfl⟩)))))
              · have hold := hnew
                refine rd_aload_n C dX9_note_101 rfl ?_
                refine rd_get C rd_g9_0 rf_X9_10 dX9_note_102 rd_b0 rd_k0 (x := rd_R (1)) rfl (fun _ => trivial) ?_
                refine rd_get C rd_g8_2 rf_X9_131 dX9_note_105 rd_b1 rd_k1 (x := rd_R (55)) rfl (fun _ => trivial) ?_
                refine rd_iload_n C dX9_note_108 rfl ?_
                refine rd_iload_n C dX9_note_109 rfl ?_
                refine rd_iload_n C dX9_note_110 rfl ?_
                refine rd_callV C (c_X3_putAt_old (μ := rd_keep μ) (by omega) (by rw [hkl _ (by omega)]; omega) (by rw [hkl _ (by omega)]; omega)) rm_X9_142 ri_X3_putAt rs_X3_putAt rc_X3_putAt rz_X3 ⟨rp_X3_putAt, rfl, rfl, by decide, by decide⟩ rfl rd_kcl3 dX9_note_111 rd_b55 rd_k55 rfl (Nat.le_of_ble_eq_true rfl) (fun v1 w1 hq => ?_)
                obtain ⟨hv1, hm1⟩ := hq; rw [hv1, hm1]; clear hv1 hm1 v1 w1
                refine rd_aload_n C dX9_note_114 rfl ?_
                refine rd_get C rd_g9_0 rf_X9_10 dX9_note_115 rd_b0 rd_k0 (x := rd_R (1)) rfl (fun _ => trivial) ?_
                refine rd_get C rd_g8_2 rf_X9_131 dX9_note_118 rd_b1 rd_k1 (x := rd_R (55)) rfl (fun _ => trivial) ?_
                refine rd_getx C rd_g3_0 rf_X9_138 dX9_note_121 rd_b55 rd_k55 rfl (z := μ 55 0) (by rw [rd_u_k _ _ _ (by omega), rd_u_k _ _ _ (by omega), hkl _ (by omega)]) ?_
                exact rd_iret C dX9_note_124 (by first | exact Or.inl ⟨(by omega), rfl, rfl⟩ | exact Or.inr (Or.inl ⟨(by omega), rfl, rfl⟩) | exact Or.inr (Or.inr (Or.inl ⟨(by omega), rfl, rfl⟩)) | exact Or.inr (Or.inr (Or.inr (Or.inl ⟨(by omega), rfl, rfl⟩))) | exact Or.inr (Or.inr (Or.inr (Or.inr (Or.inl ⟨(by omega), rfl, rfl⟩)))) | exact Or.inr (Or.inr (Or.inr (Or.inr (Or.inr ⟨(by omega), rfl, rfl⟩)))))
            · refine rd_aload_n C dX9_note_87 rfl ?_
              refine rd_get C rd_g9_0 rf_X9_10 dX9_note_88 rd_b0 rd_k0 (x := rd_R (1)) rfl (fun _ => trivial) ?_
              refine rd_get C rd_g8_2 rf_X9_131 dX9_note_91 rd_b1 rd_k1 (x := rd_R (55)) rfl (fun _ => trivial) ?_
              refine rd_iload_n C dX9_note_94 rfl ?_
              refine rd_callV C (c_X3_dropAt (μ := rd_keep μ) (by omega) (by rw [hkl _ (by omega)]; omega) (by rw [hkl _ (by omega)]; omega)) rm_X9_139 ri_X3_dropAt rs_X3_dropAt rc_X3_dropAt rz_X3 ⟨rp_X3_dropAt, rfl, rfl, by decide, by decide⟩ rfl rd_kcl3 dX9_note_95 rd_b55 rd_k55 rfl (Nat.le_of_ble_eq_true rfl) (fun v1 w1 hq => ?_)
              obtain ⟨hv1, hm1⟩ := hq; rw [hv1, hm1, hkl 55 (by omega), hkl 56 (by omega), hkl 57 (by omega)]; clear hv1 hm1 v1 w1
              refine rd_goto C dX9_note_98 (tgt := 114) (by decide) ?_
              refine rd_aload_n C dX9_note_114 rfl ?_
              refine rd_get C rd_g9_0 rf_X9_10 dX9_note_115 rd_b0 rd_k0 (x := rd_R (1)) rfl (fun _ => trivial) ?_
              refine rd_get C rd_g8_2 rf_X9_131 dX9_note_118 rd_b1 rd_k1 (x := rd_R (55)) rfl (fun _ => trivial) ?_
              refine rd_getx C rd_g3_0 rf_X9_138 dX9_note_121 rd_b55 rd_k55 rfl (z := μ 55 0 - 1) (by rw [rd_u_k _ _ _ (by omega), rd_u_k _ _ _ (by omega), rd_u_s]) ?_
              exact rd_iret C dX9_note_124 (by first | exact Or.inl ⟨(by omega), rfl, rfl⟩ | exact Or.inr (Or.inl ⟨(by omega), rfl, rfl⟩) | exact Or.inr (Or.inr (Or.inl ⟨(by omega), rfl, rfl⟩)) | exact Or.inr (Or.inr (Or.inr (Or.inl ⟨(by omega), rfl, rfl⟩))) | exact Or.inr (Or.inr (Or.inr (Or.inr (Or.inl ⟨(by omega), rfl, rfl⟩)))) | exact Or.inr (Or.inr (Or.inr (Or.inr (Or.inr ⟨(by omega), rfl, rfl⟩)))))
          · refine rd_bipush C dX9_note_68 (n := -4) (by decide) ⟨by decide, by decide⟩ ?_
            exact rd_iret C dX9_note_70 (by first | exact Or.inl ⟨(by omega), rfl, rfl⟩ | exact Or.inr (Or.inl ⟨(by omega), rfl, rfl⟩) | exact Or.inr (Or.inr (Or.inl ⟨(by omega), rfl, rfl⟩)) | exact Or.inr (Or.inr (Or.inr (Or.inl ⟨(by omega), rfl, rfl⟩))) | exact Or.inr (Or.inr (Or.inr (Or.inr (Or.inl ⟨(by omega), rfl, rfl⟩)))) | exact Or.inr (Or.inr (Or.inr (Or.inr (Or.inr ⟨(by omega), rfl, rfl⟩)))))
      · refine rd_iload_n C dX9_note_41 rfl ?_
        refine rd_iconst C dX9_note_42 (n := -1) ⟨by decide, by decide⟩ ?_
        refine rd_icmp_ne C dX9_note_43 (tgt := 48) (by decide) (fun h_43 => ?_) (fun h_43 => ?_)
        · refine rd_iload_n C dX9_note_48 rfl ?_
          refine rd_iconst C dX9_note_49 (n := -1) ⟨by decide, by decide⟩ ?_
          refine rd_icmp_ne C dX9_note_50 (tgt := 71) (by decide) (fun h_50 => ?_) (fun h_50 => ?_)
          · refine rd_aload_n C dX9_note_71 rfl ?_
            refine rd_get C rd_g9_1 rf_X9_19 dX9_note_72 rd_b0 rd_k0 (x := rd_R (62)) rfl (fun _ => trivial) ?_
            refine rd_aload_n C dX9_note_75 rfl ?_
            refine rd_get C rd_g9_0 rf_X9_10 dX9_note_76 rd_b0 rd_k0 (x := rd_R (1)) rfl (fun _ => trivial) ?_
            refine rd_callV C (c_X2_keep hI.2.2.1.1 hI.2.2.1.2.1.1 hI.2.2.1.2.1.2 hI.2.1) rm_X9_54 ri_X2_keep rs_X2_keep rc_X2_keep rz_X2 ⟨rp_X2_keep, rfl, rfl, by decide, by decide⟩ rfl rd_kcl2 dX9_note_79 rd_b62 rd_k62 rfl (Nat.le_of_ble_eq_true rfl) (fun v1 w1 hq => ?_)
            obtain ⟨hv1, hm1⟩ := hq; rw [hv1, hm1]; clear hv1 hm1 v1 w1
            have hkl : ∀ a : Int, a < 62 ∨ 308 ≤ a → rd_keep μ a = μ a := fun a ha => rd_keep_lo hI.2.2.1 ha
            have hk62 : ∀ a : Int, a < 62 → rd_keep μ a = μ a := fun a ha => hkl a (Or.inl ha)
            have hk55 : ∀ a : Int, a < 55 → rd_keep μ a = μ a := fun a ha => hkl a (Or.inl (by omega))
            have hkw := sp_wf_k hI hk62
            refine rd_iload_n C dX9_note_82 rfl ?_
            refine rd_iconst C dX9_note_83 (n := -1) ⟨by decide, by decide⟩ ?_
            refine rd_icmp_ne C dX9_note_84 (tgt := 101) (by decide) (fun h_84 => ?_) (fun h_84 => ?_)
            · by_cases hnew : sp_ff (fun i => μ 56 i = s0) (μ 55 0).toNat 0 = -1
              · rw [hnew]
                refine rd_aload_n C dX9_note_101 rfl ?_
                refine rd_get C rd_g9_0 rf_X9_10 dX9_note_102 rd_b0 rd_k0 (x := rd_R (1)) rfl (fun _ => trivial) ?_
                refine rd_get C rd_g8_2 rf_X9_131 dX9_note_105 rd_b1 rd_k1 (x := rd_R (55)) rfl (fun _ => trivial) ?_
                refine rd_iload_n C dX9_note_108 rfl ?_
                refine rd_iload_n C dX9_note_109 rfl ?_
                refine rd_iload_n C dX9_note_110 rfl ?_
                refine rd_callV C (c_X3_putAt_new (μ := rd_keep μ) (by rw [hkl _ (by omega)]; omega) (by rw [hkl _ (by omega)]; omega)) rm_X9_142 ri_X3_putAt rs_X3_putAt rc_X3_putAt rz_X3 ⟨rp_X3_putAt, rfl, rfl, by decide, by decide⟩ rfl rd_kcl3 dX9_note_111 rd_b55 rd_k55 rfl (Nat.le_of_ble_eq_true rfl) (fun v1 w1 hq => ?_)
                obtain ⟨hv1, hm1⟩ := hq; rw [hv1, hm1, hkl 55 (by omega)]; clear hv1 hm1 v1 w1
                refine rd_aload_n C dX9_note_114 rfl ?_
                refine rd_get C rd_g9_0 rf_X9_10 dX9_note_115 rd_b0 rd_k0 (x := rd_R (1)) rfl (fun _ => trivial) ?_
                refine rd_get C rd_g8_2 rf_X9_131 dX9_note_118 rd_b1 rd_k1 (x := rd_R (55)) rfl (fun _ => trivial) ?_
                refine rd_getx C rd_g3_0 rf_X9_138 dX9_note_121 rd_b55 rd_k55 rfl (z := μ 55 0 + 1) (by rw [rd_u_s]) ?_
                exact rd_iret C dX9_note_124 (by first | exact Or.inl ⟨(by omega), rfl, rfl⟩ | exact Or.inr (Or.inl ⟨(by omega), rfl, rfl⟩) | exact Or.inr (Or.inr (Or.inl ⟨(by omega), rfl, rfl⟩)) | exact Or.inr (Or.inr (Or.inr (Or.inl ⟨(by omega), rfl, rfl⟩))) | exact Or.inr (Or.inr (Or.inr (Or.inr (Or.inl ⟨(by omega), rfl, rfl⟩)))) | exact Or.inr (Or.inr (Or.inr (Or.inr (Or.inr ⟨(by omega), rfl, rfl⟩)))))
              · have hold := hnew
                refine rd_aload_n C dX9_note_101 rfl ?_
                refine rd_get C rd_g9_0 rf_X9_10 dX9_note_102 rd_b0 rd_k0 (x := rd_R (1)) rfl (fun _ => trivial) ?_
                refine rd_get C rd_g8_2 rf_X9_131 dX9_note_105 rd_b1 rd_k1 (x := rd_R (55)) rfl (fun _ => trivial) ?_
                refine rd_iload_n C dX9_note_108 rfl ?_
                refine rd_iload_n C dX9_note_109 rfl ?_
                refine rd_iload_n C dX9_note_110 rfl ?_
                refine rd_callV C (c_X3_putAt_old (μ := rd_keep μ) (by omega) (by rw [hkl _ (by omega)]; omega) (by rw [hkl _ (by omega)]; omega)) rm_X9_142 ri_X3_putAt rs_X3_putAt rc_X3_putAt rz_X3 ⟨rp_X3_putAt, rfl, rfl, by decide, by decide⟩ rfl rd_kcl3 dX9_note_111 rd_b55 rd_k55 rfl (Nat.le_of_ble_eq_true rfl) (fun v1 w1 hq => ?_)
                obtain ⟨hv1, hm1⟩ := hq; rw [hv1, hm1]; clear hv1 hm1 v1 w1
                refine rd_aload_n C dX9_note_114 rfl ?_
                refine rd_get C rd_g9_0 rf_X9_10 dX9_note_115 rd_b0 rd_k0 (x := rd_R (1)) rfl (fun _ => trivial) ?_
                refine rd_get C rd_g8_2 rf_X9_131 dX9_note_118 rd_b1 rd_k1 (x := rd_R (55)) rfl (fun _ => trivial) ?_
                refine rd_getx C rd_g3_0 rf_X9_138 dX9_note_121 rd_b55 rd_k55 rfl (z := μ 55 0) (by rw [rd_u_k _ _ _ (by omega), rd_u_k _ _ _ (by omega), hkl _ (by omega)]) ?_
                exact rd_iret C dX9_note_124 (by first | exact Or.inl ⟨(by omega), rfl, rfl⟩ | exact Or.inr (Or.inl ⟨(by omega), rfl, rfl⟩) | exact Or.inr (Or.inr (Or.inl ⟨(by omega), rfl, rfl⟩)) | exact Or.inr (Or.inr (Or.inr (Or.inl ⟨(by omega), rfl, rfl⟩))) | exact Or.inr (Or.inr (Or.inr (Or.inr (Or.inl ⟨(by omega), rfl, rfl⟩)))) | exact Or.inr (Or.inr (Or.inr (Or.inr (Or.inr ⟨(by omega), rfl, rfl⟩)))))
            · refine rd_aload_n C dX9_note_87 rfl ?_
              refine rd_get C rd_g9_0 rf_X9_10 dX9_note_88 rd_b0 rd_k0 (x := rd_R (1)) rfl (fun _ => trivial) ?_
              refine rd_get C rd_g8_2 rf_X9_131 dX9_note_91 rd_b1 rd_k1 (x := rd_R (55)) rfl (fun _ => trivial) ?_
              refine rd_iload_n C dX9_note_94 rfl ?_
              refine rd_callV C (c_X3_dropAt (μ := rd_keep μ) (by omega) (by rw [hkl _ (by omega)]; omega) (by rw [hkl _ (by omega)]; omega)) rm_X9_139 ri_X3_dropAt rs_X3_dropAt rc_X3_dropAt rz_X3 ⟨rp_X3_dropAt, rfl, rfl, by decide, by decide⟩ rfl rd_kcl3 dX9_note_95 rd_b55 rd_k55 rfl (Nat.le_of_ble_eq_true rfl) (fun v1 w1 hq => ?_)
              obtain ⟨hv1, hm1⟩ := hq; rw [hv1, hm1, hkl 55 (by omega), hkl 56 (by omega), hkl 57 (by omega)]; clear hv1 hm1 v1 w1
              refine rd_goto C dX9_note_98 (tgt := 114) (by decide) ?_
              refine rd_aload_n C dX9_note_114 rfl ?_
              refine rd_get C rd_g9_0 rf_X9_10 dX9_note_115 rd_b0 rd_k0 (x := rd_R (1)) rfl (fun _ => trivial) ?_
              refine rd_get C rd_g8_2 rf_X9_131 dX9_note_118 rd_b1 rd_k1 (x := rd_R (55)) rfl (fun _ => trivial) ?_
              refine rd_getx C rd_g3_0 rf_X9_138 dX9_note_121 rd_b55 rd_k55 rfl (z := μ 55 0 - 1) (by rw [rd_u_k _ _ _ (by omega), rd_u_k _ _ _ (by omega), rd_u_s]) ?_
              exact rd_iret C dX9_note_124 (by first | exact Or.inl ⟨(by omega), rfl, rfl⟩ | exact Or.inr (Or.inl ⟨(by omega), rfl, rfl⟩) | exact Or.inr (Or.inr (Or.inl ⟨(by omega), rfl, rfl⟩)) | exact Or.inr (Or.inr (Or.inr (Or.inl ⟨(by omega), rfl, rfl⟩))) | exact Or.inr (Or.inr (Or.inr (Or.inr (Or.inl ⟨(by omega), rfl, rfl⟩)))) | exact Or.inr (Or.inr (Or.inr (Or.inr (Or.inr ⟨(by omega), rfl, rfl⟩)))))
          · refine rd_aload_n C dX9_note_53 rfl ?_
            refine rd_get C rd_g9_0 rf_X9_10 dX9_note_54 rd_b0 rd_k0 (x := rd_R (1)) rfl (fun _ => trivial) ?_
            refine rd_get C rd_g8_2 rf_X9_131 dX9_note_57 rd_b1 rd_k1 (x := rd_R (55)) rfl (fun _ => trivial) ?_
            refine rd_get C rd_g3_0 rf_X9_138 dX9_note_60 rd_b55 rd_k55 (x := rd_I (μ 55 0)) rfl (fun h => h _ _) ?_
            refine rd_bipush C dX9_note_63 (n := 8) (by decide) ⟨by decide, by decide⟩ ?_
            refine rd_icmp_lt C dX9_note_65 (tgt := 71) (by decide) (fun h_65 => ?_) (fun h_65 => ?_)
            · refine rd_aload_n C dX9_note_71 rfl ?_
              refine rd_get C rd_g9_1 rf_X9_19 dX9_note_72 rd_b0 rd_k0 (x := rd_R (62)) rfl (fun _ => trivial) ?_
              refine rd_aload_n C dX9_note_75 rfl ?_
              refine rd_get C rd_g9_0 rf_X9_10 dX9_note_76 rd_b0 rd_k0 (x := rd_R (1)) rfl (fun _ => trivial) ?_
              refine rd_callV C (c_X2_keep hI.2.2.1.1 hI.2.2.1.2.1.1 hI.2.2.1.2.1.2 hI.2.1) rm_X9_54 ri_X2_keep rs_X2_keep rc_X2_keep rz_X2 ⟨rp_X2_keep, rfl, rfl, by decide, by decide⟩ rfl rd_kcl2 dX9_note_79 rd_b62 rd_k62 rfl (Nat.le_of_ble_eq_true rfl) (fun v1 w1 hq => ?_)
              obtain ⟨hv1, hm1⟩ := hq; rw [hv1, hm1]; clear hv1 hm1 v1 w1
              have hkl : ∀ a : Int, a < 62 ∨ 308 ≤ a → rd_keep μ a = μ a := fun a ha => rd_keep_lo hI.2.2.1 ha
              have hk62 : ∀ a : Int, a < 62 → rd_keep μ a = μ a := fun a ha => hkl a (Or.inl ha)
              have hk55 : ∀ a : Int, a < 55 → rd_keep μ a = μ a := fun a ha => hkl a (Or.inl (by omega))
              have hkw := sp_wf_k hI hk62
              refine rd_iload_n C dX9_note_82 rfl ?_
              refine rd_iconst C dX9_note_83 (n := -1) ⟨by decide, by decide⟩ ?_
              refine rd_icmp_ne C dX9_note_84 (tgt := 101) (by decide) (fun h_84 => ?_) (fun h_84 => ?_)
              · by_cases hnew : sp_ff (fun i => μ 56 i = s0) (μ 55 0).toNat 0 = -1
                · rw [hnew]
                  refine rd_aload_n C dX9_note_101 rfl ?_
                  refine rd_get C rd_g9_0 rf_X9_10 dX9_note_102 rd_b0 rd_k0 (x := rd_R (1)) rfl (fun _ => trivial) ?_
                  refine rd_get C rd_g8_2 rf_X9_131 dX9_note_105 rd_b1 rd_k1 (x := rd_R (55)) rfl (fun _ => trivial) ?_
                  refine rd_iload_n C dX9_note_108 rfl ?_
                  refine rd_iload_n C dX9_note_109 rfl ?_
                  refine rd_iload_n C dX9_note_110 rfl ?_
                  refine rd_callV C (c_X3_putAt_new (μ := rd_keep μ) (by rw [hkl _ (by omega)]; omega) (by rw [hkl _ (by omega)]; omega)) rm_X9_142 ri_X3_putAt rs_X3_putAt rc_X3_putAt rz_X3 ⟨rp_X3_putAt, rfl, rfl, by decide, by decide⟩ rfl rd_kcl3 dX9_note_111 rd_b55 rd_k55 rfl (Nat.le_of_ble_eq_true rfl) (fun v1 w1 hq => ?_)
                  obtain ⟨hv1, hm1⟩ := hq; rw [hv1, hm1, hkl 55 (by omega)]; clear hv1 hm1 v1 w1
                  refine rd_aload_n C dX9_note_114 rfl ?_
                  refine rd_get C rd_g9_0 rf_X9_10 dX9_note_115 rd_b0 rd_k0 (x := rd_R (1)) rfl (fun _ => trivial) ?_
                  refine rd_get C rd_g8_2 rf_X9_131 dX9_note_118 rd_b1 rd_k1 (x := rd_R (55)) rfl (fun _ => trivial) ?_
                  refine rd_getx C rd_g3_0 rf_X9_138 dX9_note_121 rd_b55 rd_k55 rfl (z := μ 55 0 + 1) (by rw [rd_u_s]) ?_
                  exact rd_iret C dX9_note_124 (by first | exact Or.inl ⟨(by omega), rfl, rfl⟩ | exact Or.inr (Or.inl ⟨(by omega), rfl, rfl⟩) | exact Or.inr (Or.inr (Or.inl ⟨(by omega), rfl, rfl⟩)) | exact Or.inr (Or.inr (Or.inr (Or.inl ⟨(by omega), rfl, rfl⟩))) | exact Or.inr (Or.inr (Or.inr (Or.inr (Or.inl ⟨(by omega), rfl, rfl⟩)))) | exact Or.inr (Or.inr (Or.inr (Or.inr (Or.inr ⟨(by omega), rfl, rfl⟩)))))
                · have hold := hnew
                  refine rd_aload_n C dX9_note_101 rfl ?_
                  refine rd_get C rd_g9_0 rf_X9_10 dX9_note_102 rd_b0 rd_k0 (x := rd_R (1)) rfl (fun _ => trivial) ?_
                  refine rd_get C rd_g8_2 rf_X9_131 dX9_note_105 rd_b1 rd_k1 (x := rd_R (55)) rfl (fun _ => trivial) ?_
                  refine rd_iload_n C dX9_note_108 rfl ?_
                  refine rd_iload_n C dX9_note_109 rfl ?_
                  refine rd_iload_n C dX9_note_110 rfl ?_
                  refine rd_callV C (c_X3_putAt_old (μ := rd_keep μ) (by omega) (by rw [hkl _ (by omega)]; omega) (by rw [hkl _ (by omega)]; omega)) rm_X9_142 ri_X3_putAt rs_X3_putAt rc_X3_putAt rz_X3 ⟨rp_X3_putAt, rfl, rfl, by decide, by decide⟩ rfl rd_kcl3 dX9_note_111 rd_b55 rd_k55 rfl (Nat.le_of_ble_eq_true rfl) (fun v1 w1 hq => ?_)
                  obtain ⟨hv1, hm1⟩ := hq; rw [hv1, hm1]; clear hv1 hm1 v1 w1
                  refine rd_aload_n C dX9_note_114 rfl ?_
                  refine rd_get C rd_g9_0 rf_X9_10 dX9_note_115 rd_b0 rd_k0 (x := rd_R (1)) rfl (fun _ => trivial) ?_
                  refine rd_get C rd_g8_2 rf_X9_131 dX9_note_118 rd_b1 rd_k1 (x := rd_R (55)) rfl (fun _ => trivial) ?_
                  refine rd_getx C rd_g3_0 rf_X9_138 dX9_note_121 rd_b55 rd_k55 rfl (z := μ 55 0) (by rw [rd_u_k _ _ _ (by omega), rd_u_k _ _ _ (by omega), hkl _ (by omega)]) ?_
                  exact rd_iret C dX9_note_124 (by first | exact Or.inl ⟨(by omega), rfl, rfl⟩ | exact Or.inr (Or.inl ⟨(by omega), rfl, rfl⟩) | exact Or.inr (Or.inr (Or.inl ⟨(by omega), rfl, rfl⟩)) | exact Or.inr (Or.inr (Or.inr (Or.inl ⟨(by omega), rfl, rfl⟩))) | exact Or.inr (Or.inr (Or.inr (Or.inr (Or.inl ⟨(by omega), rfl, rfl⟩)))) | exact Or.inr (Or.inr (Or.inr (Or.inr (Or.inr ⟨(by omega), rfl, rfl⟩)))))
              · refine rd_aload_n C dX9_note_87 rfl ?_
                refine rd_get C rd_g9_0 rf_X9_10 dX9_note_88 rd_b0 rd_k0 (x := rd_R (1)) rfl (fun _ => trivial) ?_
                refine rd_get C rd_g8_2 rf_X9_131 dX9_note_91 rd_b1 rd_k1 (x := rd_R (55)) rfl (fun _ => trivial) ?_
                refine rd_iload_n C dX9_note_94 rfl ?_
                refine rd_callV C (c_X3_dropAt (μ := rd_keep μ) (by omega) (by rw [hkl _ (by omega)]; omega) (by rw [hkl _ (by omega)]; omega)) rm_X9_139 ri_X3_dropAt rs_X3_dropAt rc_X3_dropAt rz_X3 ⟨rp_X3_dropAt, rfl, rfl, by decide, by decide⟩ rfl rd_kcl3 dX9_note_95 rd_b55 rd_k55 rfl (Nat.le_of_ble_eq_true rfl) (fun v1 w1 hq => ?_)
                obtain ⟨hv1, hm1⟩ := hq; rw [hv1, hm1, hkl 55 (by omega), hkl 56 (by omega), hkl 57 (by omega)]; clear hv1 hm1 v1 w1
                refine rd_goto C dX9_note_98 (tgt := 114) (by decide) ?_
                refine rd_aload_n C dX9_note_114 rfl ?_
                refine rd_get C rd_g9_0 rf_X9_10 dX9_note_115 rd_b0 rd_k0 (x := rd_R (1)) rfl (fun _ => trivial) ?_
                refine rd_get C rd_g8_2 rf_X9_131 dX9_note_118 rd_b1 rd_k1 (x := rd_R (55)) rfl (fun _ => trivial) ?_
                refine rd_getx C rd_g3_0 rf_X9_138 dX9_note_121 rd_b55 rd_k55 rfl (z := μ 55 0 - 1) (by rw [rd_u_k _ _ _ (by omega), rd_u_k _ _ _ (by omega), rd_u_s]) ?_
                exact rd_iret C dX9_note_124 (by first | exact Or.inl ⟨(by omega), rfl, rfl⟩ | exact Or.inr (Or.inl ⟨(by omega), rfl, rfl⟩) | exact Or.inr (Or.inr (Or.inl ⟨(by omega), rfl, rfl⟩)) | exact Or.inr (Or.inr (Or.inr (Or.inl ⟨(by omega), rfl, rfl⟩))) | exact Or.inr (Or.inr (Or.inr (Or.inr (Or.inl ⟨(by omega), rfl, rfl⟩)))) | exact Or.inr (Or.inr (Or.inr (Or.inr (Or.inr ⟨(by omega), rfl, rfl⟩)))))
            · refine rd_bipush C dX9_note_68 (n := -4) (by decide) ⟨by decide, by decide⟩ ?_
              exact rd_iret C dX9_note_70 (by first | exact Or.inl ⟨(by omega), rfl, rfl⟩ | exact Or.inr (Or.inl ⟨(by omega), rfl, rfl⟩) | exact Or.inr (Or.inr (Or.inl ⟨(by omega), rfl, rfl⟩)) | exact Or.inr (Or.inr (Or.inr (Or.inl ⟨(by omega), rfl, rfl⟩))) | exact Or.inr (Or.inr (Or.inr (Or.inr (Or.inl ⟨(by omega), rfl, rfl⟩)))) | exact Or.inr (Or.inr (Or.inr (Or.inr (Or.inr ⟨(by omega), rfl, rfl⟩)))))
        · refine rd_iconst C dX9_note_46 (n := -1) ⟨by decide, by decide⟩ ?_
          exact rd_iret C dX9_note_47 (by first | exact Or.inl ⟨(by omega), rfl, rfl⟩ | exact Or.inr (Or.inl ⟨(by omega), rfl, rfl⟩) | exact Or.inr (Or.inr (Or.inl ⟨(by omega), rfl, rfl⟩)) | exact Or.inr (Or.inr (Or.inr (Or.inl ⟨(by omega), rfl, rfl⟩))) | exact Or.inr (Or.inr (Or.inr (Or.inr (Or.inl ⟨(by omega), rfl, rfl⟩)))) | exact Or.inr (Or.inr (Or.inr (Or.inr (Or.inr ⟨(by omega), rfl, rfl⟩)))))
    · rw [hv1, hm1]; clear hv1 hm1 v1 w1
      refine rd_if_ne C dX9_note_18 (tgt := 24) (by decide) (fun h => absurd h (by decide)) (fun _ => ?_)
      refine rd_bipush C dX9_note_21 (n := -2) (by decide) ⟨by decide, by decide⟩ ?_
      exact rd_iret C dX9_note_23 (by first | exact Or.inl ⟨(by omega), rfl, rfl⟩ | exact Or.inr (Or.inl ⟨(by omega), rfl, rfl⟩) | exact Or.inr (Or.inr (Or.inl ⟨(by omega), rfl, rfl⟩)) | exact Or.inr (Or.inr (Or.inr (Or.inl ⟨(by omega), rfl, rfl⟩))) | exact Or.inr (Or.inr (Or.inr (Or.inr (Or.inl ⟨(by omega), rfl, rfl⟩)))) | exact Or.inr (Or.inr (Or.inr (Or.inr (Or.inr ⟨(by omega), rfl, rfl⟩)))))
  · rw [hv1, hm1]; clear hv1 hm1 v1 w1
    refine rd_if_eq C dX9_note_8 (tgt := 21) (by decide) (fun _ => ?_) (fun h => absurd h (by decide))
    refine rd_bipush C dX9_note_21 (n := -2) (by decide) ⟨by decide, by decide⟩ ?_
    exact rd_iret C dX9_note_23 (by first | exact Or.inl ⟨(by omega), rfl, rfl⟩ | exact Or.inr (Or.inl ⟨(by omega), rfl, rfl⟩) | exact Or.inr (Or.inr (Or.inl ⟨(by omega), rfl, rfl⟩)) | exact Or.inr (Or.inr (Or.inr (Or.inl ⟨(by omega), rfl, rfl⟩))) | exact Or.inr (Or.inr (Or.inr (Or.inr (Or.inl ⟨(by omega), rfl, rfl⟩)))) | exact Or.inr (Or.inr (Or.inr (Or.inr (Or.inr ⟨(by omega), rfl, rfl⟩)))))
set_option maxHeartbeats 4000000 in
set_option maxRecDepth 100000 in
theorem c_X9_setEnd {l : Launch} {G : rd_G} {r : Nat} {μ : rd_Mem} (hI : sp_inv μ) {q0 : Int} : rd_M l G rd_kc 313 r yX9_setEnd cX9_setEnd 3 (some .int) (rd_rm 5 125) [rd_R 0, rd_I q0] μ (fun v μ' => ((q0 < 0 ∨ 9999 < q0) ∧ v = some (rd_I (-2)) ∧ μ' = μ) ∨ ((0 ≤ q0 ∧ q0 ≤ 9999) ∧ v = some (rd_I (μ 1 0)) ∧ μ' = rd_u (rd_keep μ) 1 0 q0)) := by
  refine rd_enter (by decide +kernel) (Nat.le_of_ble_eq_true rfl) [rd_R 0, rd_I q0, rd_J] rfl (fun p e s m args below meth c C => ?_)
  refine rd_W.rng (fun hM hL _ => ?_)
  have hc1 := hI.1.1.1
  have hc2 := hI.1.1.2
  have hn1 := hI.2.2.2.2.1.1
  have hn2 := hI.2.2.2.2.1.2
  have htc := hI.1.2.2.2.1
  have hst := hI.1.2.2.2.2
  refine rd_iload_n C dX9_setEnd_0 rfl ?_
  refine rd_iconst C dX9_setEnd_1 (n := 0) ⟨by decide, by decide⟩ ?_
  refine rd_sipush C dX9_setEnd_2 (n := 9999) (by decide) ⟨by decide, by decide⟩ ?_
  refine rd_callS C (c_X9_isWithin) rm_X9_82 rt_X9_isWithin rc_X9_isWithin rz_X9 ⟨rp_X9_isWithin, rfl, rfl, by decide, by decide⟩ rfl dX9_setEnd_5 rfl (Nat.le_of_ble_eq_true rfl) (fun v1 w1 hq => ?_)
  rcases hq with ⟨hw_8, hv1, hm1⟩ | ⟨hw_8, hv1, hm1⟩
  · rw [hv1, hm1]; clear hv1 hm1 v1 w1
    refine rd_if_ne C dX9_setEnd_8 (tgt := 14) (by decide) (fun _ => ?_) (fun h => absurd h (by decide))
    refine rd_aload_n C dX9_setEnd_14 rfl ?_
    refine rd_get C rd_g9_1 rf_X9_19 dX9_setEnd_15 rd_b0 rd_k0 (x := rd_R (62)) rfl (fun _ => trivial) ?_
    refine rd_aload_n C dX9_setEnd_18 rfl ?_
    refine rd_get C rd_g9_0 rf_X9_10 dX9_setEnd_19 rd_b0 rd_k0 (x := rd_R (1)) rfl (fun _ => trivial) ?_
    refine rd_callV C (c_X2_keep hI.2.2.1.1 hI.2.2.1.2.1.1 hI.2.2.1.2.1.2 hI.2.1) rm_X9_54 ri_X2_keep rs_X2_keep rc_X2_keep rz_X2 ⟨rp_X2_keep, rfl, rfl, by decide, by decide⟩ rfl rd_kcl2 dX9_setEnd_22 rd_b62 rd_k62 rfl (Nat.le_of_ble_eq_true rfl) (fun v1 w1 hq => ?_)
    obtain ⟨hv1, hm1⟩ := hq; rw [hv1, hm1]; clear hv1 hm1 v1 w1
    have hkl : ∀ a : Int, a < 62 ∨ 308 ≤ a → rd_keep μ a = μ a := fun a ha => rd_keep_lo hI.2.2.1 ha
    have hk62 : ∀ a : Int, a < 62 → rd_keep μ a = μ a := fun a ha => hkl a (Or.inl ha)
    have hk55 : ∀ a : Int, a < 55 → rd_keep μ a = μ a := fun a ha => hkl a (Or.inl (by omega))
    have hkw := sp_wf_k hI hk62
    refine rd_aload_n C dX9_setEnd_25 rfl ?_
    refine rd_get C rd_g9_0 rf_X9_10 dX9_setEnd_26 rd_b0 rd_k0 (x := rd_R (1)) rfl (fun _ => trivial) ?_
    refine rd_getx C rd_g8_0 rf_X9_145 dX9_setEnd_29 rd_b1 rd_k1 rfl (z := μ 1 0) (by rw [hkl _ (by omega)]) ?_
    refine rd_istore_n C dX9_setEnd_32 (by decide) (L' := [rd_R 0, rd_I q0, rd_I (μ 1 0)]) rfl ?_
    refine rd_aload_n C dX9_setEnd_33 rfl ?_
    refine rd_get C rd_g9_0 rf_X9_10 dX9_setEnd_34 rd_b0 rd_k0 (x := rd_R (1)) rfl (fun _ => trivial) ?_
    refine rd_iload_n C dX9_setEnd_37 rfl ?_
    refine rd_put C rd_p8_0 rf_X9_145 dX9_setEnd_38 rd_b1 rd_k1 trivial ?_
    refine rd_iload_n C dX9_setEnd_41 rfl ?_
    exact rd_iret C dX9_setEnd_42 (by first | exact Or.inl ⟨(by first | assumption | omega | exact ⟨by assumption, by omega⟩ | exact ⟨by assumption, by assumption⟩ | exact ⟨by assumption, by assumption, by omega⟩ | exact ⟨by assumption, by omega, by omega⟩ | exact ⟨by assumption, by omega, by omega, by omega⟩ | exact Or.inl (by assumption) | exact Or.inr (by omega) | exact Or.inr (by assumption) | exact Or.inr (Or.inl (by assumption)) | exact Or.inr (Or.inr (by omega)) | trivial), rfl, rfl⟩ | exact Or.inr (⟨(by first | assumption | omega | exact ⟨by assumption, by omega⟩ | exact ⟨by assumption, by assumption⟩ | exact ⟨by assumption, by assumption, by omega⟩ | exact ⟨by assumption, by omega, by omega⟩ | exact ⟨by assumption, by omega, by omega, by omega⟩ | exact Or.inl (by assumption) | exact Or.inr (by omega) | exact Or.inr (by assumption) | exact Or.inr (Or.inl (by assumption)) | exact Or.inr (Or.inr (by omega)) | trivial), rfl, rfl⟩))
  · rw [hv1, hm1]; clear hv1 hm1 v1 w1
    refine rd_if_ne C dX9_setEnd_8 (tgt := 14) (by decide) (fun h => absurd h (by decide)) (fun _ => ?_)
    refine rd_bipush C dX9_setEnd_11 (n := -2) (by decide) ⟨by decide, by decide⟩ ?_
    exact rd_iret C dX9_setEnd_13 (by first | exact Or.inl ⟨(by first | assumption | omega | exact ⟨by assumption, by omega⟩ | exact ⟨by assumption, by assumption⟩ | exact ⟨by assumption, by assumption, by omega⟩ | exact ⟨by assumption, by omega, by omega⟩ | exact ⟨by assumption, by omega, by omega, by omega⟩ | exact Or.inl (by assumption) | exact Or.inr (by omega) | exact Or.inr (by assumption) | exact Or.inr (Or.inl (by assumption)) | exact Or.inr (Or.inr (by omega)) | trivial), rfl, rfl⟩ | exact Or.inr (⟨(by first | assumption | omega | exact ⟨by assumption, by omega⟩ | exact ⟨by assumption, by assumption⟩ | exact ⟨by assumption, by assumption, by omega⟩ | exact ⟨by assumption, by omega, by omega⟩ | exact ⟨by assumption, by omega, by omega, by omega⟩ | exact Or.inl (by assumption) | exact Or.inr (by omega) | exact Or.inr (by assumption) | exact Or.inr (Or.inl (by assumption)) | exact Or.inr (Or.inr (by omega)) | trivial), rfl, rfl⟩))

