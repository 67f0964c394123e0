set_option maxHeartbeats 4000000 in
set_option maxRecDepth 100000 in
theorem c_X9_start {l : Launch} {G : rd_G} {r : Nat} {μ : rd_Mem} (hI : sp_inv μ) : rd_M l G rd_kc 313 r yX9_start cX9_start 2 (some .int) (rd_rm 5 125) [rd_R 0] μ (fun v μ' => (sp_next μ 0 = -1 ∧ v = some (rd_I (-5)) ∧ μ' = μ) ∨ (sp_next μ 0 ≠ -1 ∧ v = some (rd_I (sp_next μ 0)) ∧ μ' = rd_u (rd_shc (rd_keep μ)) 58 0 (sp_next μ 0))) := by
  refine rd_enter (by decide +kernel) (Nat.le_of_ble_eq_true rfl) [rd_R 0, rd_J] rfl (fun p e s m args below meth c C => ?_)
  refine rd_W.rng (fun hM hL _ => ?_)
  have hc1 := hI.1.1.1
  have hc2 := hI.1.1.2
  have hn1 := hI.2.2.2.2.1.1
  have hn2 := hI.2.2.2.2.1.2
  have htc := hI.1.2.2.2.1
  have hst := hI.1.2.2.2.2
  refine rd_aload_n C dX9_start_0 rfl ?_
  refine rd_get C rd_g9_0 rf_X9_10 dX9_start_1 rd_b0 rd_k0 (x := rd_R (1)) rfl (fun _ => trivial) ?_
  refine rd_get C rd_g8_1 rf_X9_44 dX9_start_4 rd_b1 rd_k1 (x := rd_R (2)) rfl (fun _ => trivial) ?_
  refine rd_iconst C dX9_start_7 (n := -1) ⟨by decide, by decide⟩ ?_
  refine rd_callV C (c_X0_nextShown hI.1.1 (by omega) (by omega)) rm_X9_148 ri_X0_nextShown rs_X0_nextShown rc_X0_nextShown rz_X0 ⟨rp_X0_nextShown, rfl, rfl, by decide, by decide⟩ rfl rd_kcl0 dX9_start_8 rd_b2 rd_k2 rfl (Nat.le_of_ble_eq_true rfl) (fun v1 w1 hq => ?_)
  obtain ⟨hv1, hm1⟩ := hq; rw [show v1 = some (rd_I (sp_next μ 0)) from hv1, hm1]; clear hv1 hm1
  refine rd_istore_n C dX9_start_11 (by decide) (L' := [rd_R 0, rd_I (sp_next μ 0)]) rfl ?_
  refine rd_iload_n C dX9_start_12 rfl ?_
  refine rd_iconst C dX9_start_13 (n := -1) ⟨by decide, by decide⟩ ?_
  refine rd_icmp_ne C dX9_start_14 (tgt := 20) (by decide) (fun h_14 => ?_) (fun h_14 => ?_)
  · refine rd_aload_n C dX9_start_20 rfl ?_
    refine rd_get C rd_g9_1 rf_X9_19 dX9_start_21 rd_b0 rd_k0 (x := rd_R (62)) rfl (fun _ => trivial) ?_
    refine rd_aload_n C dX9_start_24 rfl ?_
    refine rd_get C rd_g9_0 rf_X9_10 dX9_start_25 rd_b0 rd_k0 (x := rd_R (1)) rfl (fun _ => trivial) ?_
    refine rd_callV C (c_X2_keep hI.2.2.1.1 hI.2.2.1.2.1.1 hI.2.2.1.2.1.2 hI.2.1) rm_X9_54 ri_X2_keep rs_X2_keep rc_X2_keep rz_X2 ⟨rp_X2_keep, rfl, rfl, by decide, by decide⟩ rfl rd_kcl2 dX9_start_28 rd_b62 rd_k62 rfl (Nat.le_of_ble_eq_true rfl) (fun v1 w1 hq => ?_)
    obtain ⟨hv1, hm1⟩ := hq; rw [hv1, hm1]; clear hv1 hm1 v1 w1
    have hkl : ∀ a : Int, a < 62 ∨ 308 ≤ a → rd_keep μ a = μ a := fun a ha => rd_keep_lo hI.2.2.1 ha
    have hk62 : ∀ a : Int, a < 62 → rd_keep μ a = μ a := fun a ha => hkl a (Or.inl ha)
    have hk55 : ∀ a : Int, a < 55 → rd_keep μ a = μ a := fun a ha => hkl a (Or.inl (by omega))
    have hkw := sp_wf_k hI hk62
    refine rd_aload_n C dX9_start_31 rfl ?_
    refine rd_get C rd_g9_0 rf_X9_10 dX9_start_32 rd_b0 rd_k0 (x := rd_R (1)) rfl (fun _ => trivial) ?_
    refine rd_get C rd_g8_3 rf_X9_66 dX9_start_35 rd_b1 rd_k1 (x := rd_R (58)) rfl (fun _ => trivial) ?_
    refine rd_iload_n C dX9_start_38 rfl ?_
    refine rd_callV C (c_X6_begin) rm_X9_151 ri_X6_begin rs_X6_begin rc_X6_begin rz_X6 ⟨rp_X6_begin, rfl, rfl, by decide, by decide⟩ rfl rd_kcl6 dX9_start_39 rd_b58 rd_k58 rfl (Nat.le_of_ble_eq_true rfl) (fun v1 w1 hq => ?_)
    obtain ⟨hv1, hm1⟩ := hq; rw [hv1, show w1 = rd_u (rd_shc (rd_keep μ)) 58 0 (sp_next μ 0) from hm1]; clear hv1 hm1
    refine rd_iload_n C dX9_start_42 rfl ?_
    exact rd_iret C dX9_start_43 (by first | exact Or.inl ⟨(by first | assumption | omega | exact ⟨by assumption, by omega⟩ | exact ⟨by assumption, by assumption⟩ | exact ⟨by assumption, by assumption, by omega⟩ | exact ⟨by assumption, by omega, by omega⟩ | exact ⟨by assumption, by omega, by omega, by omega⟩ | exact Or.inl (by assumption) | exact Or.inr (by omega) | exact Or.inr (by assumption) | exact Or.inr (Or.inl (by assumption)) | exact Or.inr (Or.inr (by omega)) | trivial), rfl, rfl⟩ | exact Or.inr (⟨(by first | assumption | omega | exact ⟨by assumption, by omega⟩ | exact ⟨by assumption, by assumption⟩ | exact ⟨by assumption, by assumption, by omega⟩ | exact ⟨by assumption, by omega, by omega⟩ | exact ⟨by assumption, by omega, by omega, by omega⟩ | exact Or.inl (by assumption) | exact Or.inr (by omega) | exact Or.inr (by assumption) | exact Or.inr (Or.inl (by assumption)) | exact Or.inr (Or.inr (by omega)) | trivial), rfl, rfl⟩))
  · refine rd_bipush C dX9_start_17 (n := -5) (by decide) ⟨by decide, by decide⟩ ?_
    exact rd_iret C dX9_start_19 (by first | exact Or.inl ⟨(by first | assumption | omega | exact ⟨by assumption, by omega⟩ | exact ⟨by assumption, by assumption⟩ | exact ⟨by assumption, by assumption, by omega⟩ | exact ⟨by assumption, by omega, by omega⟩ | exact ⟨by assumption, by omega, by omega, by omega⟩ | exact Or.inl (by assumption) | exact Or.inr (by omega) | exact Or.inr (by assumption) | exact Or.inr (Or.inl (by assumption)) | exact Or.inr (Or.inr (by omega)) | trivial), rfl, rfl⟩ | exact Or.inr (⟨(by first | assumption | omega | exact ⟨by assumption, by omega⟩ | exact ⟨by assumption, by assumption⟩ | exact ⟨by assumption, by assumption, by omega⟩ | exact ⟨by assumption, by omega, by omega⟩ | exact ⟨by assumption, by omega, by omega, by omega⟩ | exact Or.inl (by assumption) | exact Or.inr (by omega) | exact Or.inr (by assumption) | exact Or.inr (Or.inl (by assumption)) | exact Or.inr (Or.inr (by omega)) | trivial), rfl, rfl⟩))
set_option maxHeartbeats 4000000 in
set_option maxRecDepth 100000 in
theorem c_X9_stop {l : Launch} {G : rd_G} {r : Nat} {μ : rd_Mem} (hI : sp_inv μ) : rd_M l G rd_kc 313 r yX9_stop cX9_stop 2 (some .int) (rd_rm 5 125) [rd_R 0] μ (fun v μ' => (¬ sp_th μ (μ 58 0) ∧ v = some (rd_I (-5)) ∧ μ' = μ) ∨ (sp_th μ (μ 58 0) ∧ v = some (rd_I (μ 58 3)) ∧ μ' = rd_shc (rd_keep μ))) := by
  refine rd_enter (by decide +kernel) (Nat.le_of_ble_eq_true rfl) [rd_R 0, rd_J] rfl (fun p e s m args below meth c C => ?_)
  refine rd_W.rng (fun hM hL _ => ?_)
  have hc1 := hI.1.1.1
  have hc2 := hI.1.1.2
  have hn1 := hI.2.2.2.2.1.1
  have hn2 := hI.2.2.2.2.1.2
  have htc := hI.1.2.2.2.1
  have hst := hI.1.2.2.2.2
  refine rd_aload_n C dX9_stop_0 rfl ?_
  refine rd_get C rd_g9_0 rf_X9_10 dX9_stop_1 rd_b0 rd_k0 (x := rd_R (1)) rfl (fun _ => trivial) ?_
  refine rd_callV C (c_X8_here) rm_X9_154 ri_X8_here rs_X8_here rc_X8_here rz_X8 ⟨rp_X8_here, rfl, rfl, by decide, by decide⟩ rfl rd_kcl8 dX9_stop_4 rd_b1 rd_k1 rfl (Nat.le_of_ble_eq_true rfl) (fun v1 w1 hq => ?_)
  rcases hq with ⟨hw_7, hv1, hm1⟩ | ⟨hw_7, hv1, hm1⟩
  · rw [hv1, hm1]; clear hv1 hm1 v1 w1
    have hS_h := rd_sl1 hw_7.1.1 hw_7.1.2
    have hrh := hw_7.1
    have hith := hI.1.2.1 _ hw_7.1.1 hw_7.1.2
    refine rd_ifnonnull_r C dX9_stop_7 (tgt := 13) (by decide) ?_
    refine rd_aload_n C dX9_stop_13 rfl ?_
    refine rd_get C rd_g9_1 rf_X9_19 dX9_stop_14 rd_b0 rd_k0 (x := rd_R (62)) rfl (fun _ => trivial) ?_
    refine rd_aload_n C dX9_stop_17 rfl ?_
    refine rd_get C rd_g9_0 rf_X9_10 dX9_stop_18 rd_b0 rd_k0 (x := rd_R (1)) rfl (fun _ => trivial) ?_
    refine rd_callV C (c_X2_keep hI.2.2.1.1 hI.2.2.1.2.1.1 hI.2.2.1.2.1.2 hI.2.1) rm_X9_54 ri_X2_keep rs_X2_keep rc_X2_keep rz_X2 ⟨rp_X2_keep, rfl, rfl, by decide, by decide⟩ rfl rd_kcl2 dX9_stop_21 rd_b62 rd_k62 rfl (Nat.le_of_ble_eq_true rfl) (fun v1 w1 hq => ?_)
    obtain ⟨hv1, hm1⟩ := hq; rw [hv1, hm1]; clear hv1 hm1 v1 w1
    have hkl : ∀ a : Int, a < 62 ∨ 308 ≤ a → rd_keep μ a = μ a := fun a ha => rd_keep_lo hI.2.2.1 ha
    have hk62 : ∀ a : Int, a < 62 → rd_keep μ a = μ a := fun a ha => hkl a (Or.inl ha)
    have hk55 : ∀ a : Int, a < 55 → rd_keep μ a = μ a := fun a ha => hkl a (Or.inl (by omega))
    have hkw := sp_wf_k hI hk62
    refine rd_aload_n C dX9_stop_24 rfl ?_
    refine rd_get C rd_g9_0 rf_X9_10 dX9_stop_25 rd_b0 rd_k0 (x := rd_R (1)) rfl (fun _ => trivial) ?_
    refine rd_get C rd_g8_3 rf_X9_66 dX9_stop_28 rd_b1 rd_k1 (x := rd_R (58)) rfl (fun _ => trivial) ?_
    refine rd_getx C rd_g6_3 rf_X9_158 dX9_stop_31 rd_b58 rd_k58 rfl (z := μ 58 3) (by rw [hkl _ (by omega)]) ?_
    refine rd_istore_n C dX9_stop_34 (by decide) (L' := [rd_R 0, rd_I (μ 58 3)]) rfl ?_
    refine rd_aload_n C dX9_stop_35 rfl ?_
    refine rd_get C rd_g9_0 rf_X9_10 dX9_stop_36 rd_b0 rd_k0 (x := rd_R (1)) rfl (fun _ => trivial) ?_
    refine rd_get C rd_g8_3 rf_X9_66 dX9_stop_39 rd_b1 rd_k1 (x := rd_R (58)) rfl (fun _ => trivial) ?_
    refine rd_callV C (c_X6_clear) rm_X9_161 ri_X6_clear rs_X6_clear rc_X6_clear rz_X6 ⟨rp_X6_clear, rfl, rfl, by decide, by decide⟩ rfl rd_kcl6 dX9_stop_42 rd_b58 rd_k58 rfl (Nat.le_of_ble_eq_true rfl) (fun v1 w1 hq => ?_)
    obtain ⟨hv1, hm1⟩ := hq; rw [hv1, show w1 = rd_shc (rd_keep μ) from hm1]; clear hv1 hm1
    refine rd_iload_n C dX9_stop_45 rfl ?_
    exact rd_iret C dX9_stop_46 (by first | exact Or.inl ⟨(by first | assumption | omega | exact ⟨by assumption, by omega⟩ | exact ⟨by assumption, by assumption⟩ | exact ⟨by assumption, by assumption, by omega⟩ | exact ⟨by assumption, by omega, by omega⟩ | exact ⟨by assumption, by omega, by omega, by omega⟩ | exact Or.inl (by assumption) | exact Or.inr (by omega) | exact Or.inr (by assumption) | exact Or.inr (Or.inl (by assumption)) | exact Or.inr (Or.inr (by omega)) | trivial), rfl, rfl⟩ | exact Or.inr (⟨(by first | assumption | omega | exact ⟨by assumption, by omega⟩ | exact ⟨by assumption, by assumption⟩ | exact ⟨by assumption, by assumption, by omega⟩ | exact ⟨by assumption, by omega, by omega⟩ | exact ⟨by assumption, by omega, by omega, by omega⟩ | exact Or.inl (by assumption) | exact Or.inr (by omega) | exact Or.inr (by assumption) | exact Or.inr (Or.inl (by assumption)) | exact Or.inr (Or.inr (by omega)) | trivial), rfl, rfl⟩))
  · rw [hv1, hm1]; clear hv1 hm1 v1 w1
    refine rd_ifnonnull_n C dX9_stop_7 ?_
    refine rd_bipush C dX9_stop_10 (n := -5) (by decide) ⟨by decide, by decide⟩ ?_
    exact rd_iret C dX9_stop_12 (by first | exact Or.inl ⟨(by first | assumption | omega | exact ⟨by assumption, by omega⟩ | exact ⟨by assumption, by assumption⟩ | exact ⟨by assumption, by assumption, by omega⟩ | exact ⟨by assumption, by omega, by omega⟩ | exact ⟨by assumption, by omega, by omega, by omega⟩ | exact Or.inl (by assumption) | exact Or.inr (by omega) | exact Or.inr (by assumption) | exact Or.inr (Or.inl (by assumption)) | exact Or.inr (Or.inr (by omega)) | trivial), rfl, rfl⟩ | exact Or.inr (⟨(by first | assumption | omega | exact ⟨by assumption, by omega⟩ | exact ⟨by assumption, by assumption⟩ | exact ⟨by assumption, by assumption, by omega⟩ | exact ⟨by assumption, by omega, by omega⟩ | exact ⟨by assumption, by omega, by omega, by omega⟩ | exact Or.inl (by assumption) | exact Or.inr (by omega) | exact Or.inr (by assumption) | exact Or.inr (Or.inl (by assumption)) | exact Or.inr (Or.inr (by omega)) | trivial), rfl, rfl⟩))
set_option maxHeartbeats 4000000 in
set_option maxRecDepth 100000 in
theorem c_X9_forward {l : Launch} {G : rd_G} {r : Nat} {μ : rd_Mem} (hI : sp_inv μ) : rd_M l G rd_kc 313 r yX9_forward cX9_forward 1 (some .int) (rd_rm 6 150) [rd_R 0] μ (fun v μ' => (¬ sp_can μ 102 0 ∧ v = some (rd_I (-5)) ∧ μ' = μ) ∨ (sp_can μ 102 0 ∧ v = some (rd_I (rd_mk (rd_keep μ) 102 0 58 1)) ∧ μ' = rd_mk (rd_keep μ) 102 0)) := by
  refine rd_enter (by decide +kernel) (Nat.le_of_ble_eq_true rfl) [rd_R 0] rfl (fun p e s m args below meth c C => ?_)
  refine rd_W.rng (fun hM hL _ => ?_)
  have hc1 := hI.1.1.1
  have hc2 := hI.1.1.2
  have hn1 := hI.2.2.2.2.1.1
  have hn2 := hI.2.2.2.2.1.2
  have htc := hI.1.2.2.2.1
  have hst := hI.1.2.2.2.2
  refine rd_aload_n C dX9_forward_0 rfl ?_
  refine rd_get C rd_g9_0 rf_X9_10 dX9_forward_1 rd_b0 rd_k0 (x := rd_R (1)) rfl (fun _ => trivial) ?_
  refine rd_bipush C dX9_forward_4 (n := 102) (by decide) ⟨by decide, by decide⟩ ?_
  refine rd_iconst C dX9_forward_6 (n := 0) ⟨by decide, by decide⟩ ?_
  refine rd_callV C (c_X8_canMake (c0 := 102) (q0 := 0) hI.1) rm_X9_164 ri_X8_canMake rs_X8_canMake rc_X8_canMake rz_X8 ⟨rp_X8_canMake, rfl, rfl, by decide, by decide⟩ rfl rd_kcl8 dX9_forward_7 rd_b1 rd_k1 rfl (Nat.le_of_ble_eq_true rfl) (fun v1 w1 hq => ?_)
  rcases hq with ⟨hw_10, hv1, hm1⟩ | ⟨hw_10, hv1, hm1⟩
  · rw [hv1, hm1]; clear hv1 hm1 v1 w1
    refine rd_if_ne C dX9_forward_10 (tgt := 16) (by decide) (fun _ => ?_) (fun h => absurd h (by decide))
    refine rd_aload_n C dX9_forward_16 rfl ?_
    refine rd_get C rd_g9_1 rf_X9_19 dX9_forward_17 rd_b0 rd_k0 (x := rd_R (62)) rfl (fun _ => trivial) ?_
    refine rd_aload_n C dX9_forward_20 rfl ?_
    refine rd_get C rd_g9_0 rf_X9_10 dX9_forward_21 rd_b0 rd_k0 (x := rd_R (1)) rfl (fun _ => trivial) ?_
    refine rd_callV C (c_X2_keep hI.2.2.1.1 hI.2.2.1.2.1.1 hI.2.2.1.2.1.2 hI.2.1) rm_X9_54 ri_X2_keep rs_X2_keep rc_X2_keep rz_X2 ⟨rp_X2_keep, rfl, rfl, by decide, by decide⟩ rfl rd_kcl2 dX9_forward_24 rd_b62 rd_k62 rfl (Nat.le_of_ble_eq_true rfl) (fun v1 w1 hq => ?_)
    obtain ⟨hv1, hm1⟩ := hq; rw [hv1, hm1]; clear hv1 hm1 v1 w1
    have hkl : ∀ a : Int, a < 62 ∨ 308 ≤ a → rd_keep μ a = μ a := fun a ha => rd_keep_lo hI.2.2.1 ha
    have hk62 : ∀ a : Int, a < 62 → rd_keep μ a = μ a := fun a ha => hkl a (Or.inl ha)
    have hk55 : ∀ a : Int, a < 55 → rd_keep μ a = μ a := fun a ha => hkl a (Or.inl (by omega))
    have hkw := sp_wf_k hI hk62
    have hcan := hw_10
    refine rd_aload_n C dX9_forward_27 rfl ?_
    refine rd_get C rd_g9_0 rf_X9_10 dX9_forward_28 rd_b0 rd_k0 (x := rd_R (1)) rfl (fun _ => trivial) ?_
    refine rd_bipush C dX9_forward_31 (n := 102) (by decide) ⟨by decide, by decide⟩ ?_
    refine rd_iconst C dX9_forward_33 (n := 0) ⟨by decide, by decide⟩ ?_
    refine rd_callV C (c_X8_make (μ := rd_keep μ) (c0 := 102) (q0 := 0) hkw ((sp_can_c hk62 102 0).mpr hcan)) rm_X9_168 ri_X8_make rs_X8_make rc_X8_make rz_X8 ⟨rp_X8_make, rfl, rfl, by decide, by decide⟩ rfl rd_kcl8 dX9_forward_34 rd_b1 rd_k1 rfl (Nat.le_of_ble_eq_true rfl) (fun v1 w1 hq => ?_)
    obtain ⟨hv1, hm1⟩ := hq; rw [hv1, show w1 = rd_mk (rd_keep μ) 102 0 from hm1]; clear hv1 hm1
    refine rd_aload_n C dX9_forward_37 rfl ?_
    refine rd_get C rd_g9_0 rf_X9_10 dX9_forward_38 rd_b0 rd_k0 (x := rd_R (1)) rfl (fun _ => trivial) ?_
    refine rd_get C rd_g8_3 rf_X9_66 dX9_forward_41 rd_b1 rd_k1 (x := rd_R (58)) rfl (fun _ => trivial) ?_
    refine rd_get C rd_g6_1 rf_X9_172 dX9_forward_44 rd_b58 rd_k58 (x := rd_I ((rd_mk (rd_keep μ) 102 0) 58 1)) rfl (fun h => h _ _) ?_
    exact rd_iret C dX9_forward_47 (by first | exact Or.inl ⟨(by first | assumption | omega | exact ⟨by assumption, by omega⟩ | exact ⟨by assumption, by assumption⟩ | exact ⟨by assumption, by assumption, by omega⟩ | exact ⟨by assumption, by omega, by omega⟩ | exact ⟨by assumption, by omega, by omega, by omega⟩ | exact Or.inl (by assumption) | exact Or.inr (by omega) | exact Or.inr (by assumption) | exact Or.inr (Or.inl (by assumption)) | exact Or.inr (Or.inr (by omega)) | trivial), rfl, rfl⟩ | exact Or.inr (⟨(by first | assumption | omega | exact ⟨by assumption, by omega⟩ | exact ⟨by assumption, by assumption⟩ | exact ⟨by assumption, by assumption, by omega⟩ | exact ⟨by assumption, by omega, by omega⟩ | exact ⟨by assumption, by omega, by omega, by omega⟩ | exact Or.inl (by assumption) | exact Or.inr (by omega) | exact Or.inr (by assumption) | exact Or.inr (Or.inl (by assumption)) | exact Or.inr (Or.inr (by omega)) | trivial), rfl, rfl⟩))
  · rw [hv1, hm1]; clear hv1 hm1 v1 w1
    refine rd_if_ne C dX9_forward_10 (tgt := 16) (by decide) (fun h => absurd h (by decide)) (fun _ => ?_)
    refine rd_bipush C dX9_forward_13 (n := -5) (by decide) ⟨by decide, by decide⟩ ?_
    exact rd_iret C dX9_forward_15 (by first | exact Or.inl ⟨(by first | assumption | omega | exact ⟨by assumption, by omega⟩ | exact ⟨by assumption, by assumption⟩ | exact ⟨by assumption, by assumption, by omega⟩ | exact ⟨by assumption, by omega, by omega⟩ | exact ⟨by assumption, by omega, by omega, by omega⟩ | exact Or.inl (by assumption) | exact Or.inr (by omega) | exact Or.inr (by assumption) | exact Or.inr (Or.inl (by assumption)) | exact Or.inr (Or.inr (by omega)) | trivial), rfl, rfl⟩ | exact Or.inr (⟨(by first | assumption | omega | exact ⟨by assumption, by omega⟩ | exact ⟨by assumption, by assumption⟩ | exact ⟨by assumption, by assumption, by omega⟩ | exact ⟨by assumption, by omega, by omega⟩ | exact ⟨by assumption, by omega, by omega, by omega⟩ | exact Or.inl (by assumption) | exact Or.inr (by omega) | exact Or.inr (by assumption) | exact Or.inr (Or.inl (by assumption)) | exact Or.inr (Or.inr (by omega)) | trivial), rfl, rfl⟩))
set_option maxHeartbeats 4000000 in
set_option maxRecDepth 100000 in
theorem c_X9_back {l : Launch} {G : rd_G} {r : Nat} {μ : rd_Mem} (hI : sp_inv μ) : rd_M l G rd_kc 313 r yX9_back cX9_back 1 (some .int) (rd_rm 6 150) [rd_R 0] μ (fun v μ' => (¬ sp_can μ 98 0 ∧ v = some (rd_I (-5)) ∧ μ' = μ) ∨ (sp_can μ 98 0 ∧ v = some (rd_I (rd_mk (rd_keep μ) 98 0 58 1)) ∧ μ' = rd_mk (rd_keep μ) 98 0)) := by
  refine rd_enter (by decide +kernel) (Nat.le_of_ble_eq_true rfl) [rd_R 0] rfl (fun p e s m args below meth c C => ?_)
  refine rd_W.rng (fun hM hL _ => ?_)
  have hc1 := hI.1.1.1
  have hc2 := hI.1.1.2
  have hn1 := hI.2.2.2.2.1.1
  have hn2 := hI.2.2.2.2.1.2
  have htc := hI.1.2.2.2.1
  have hst := hI.1.2.2.2.2
  refine rd_aload_n C dX9_back_0 rfl ?_
  refine rd_get C rd_g9_0 rf_X9_10 dX9_back_1 rd_b0 rd_k0 (x := rd_R (1)) rfl (fun _ => trivial) ?_
  refine rd_bipush C dX9_back_4 (n := 98) (by decide) ⟨by decide, by decide⟩ ?_
  refine rd_iconst C dX9_back_6 (n := 0) ⟨by decide, by decide⟩ ?_
  refine rd_callV C (c_X8_canMake (c0 := 98) (q0 := 0) hI.1) rm_X9_164 ri_X8_canMake rs_X8_canMake rc_X8_canMake rz_X8 ⟨rp_X8_canMake, rfl, rfl, by decide, by decide⟩ rfl rd_kcl8 dX9_back_7 rd_b1 rd_k1 rfl (Nat.le_of_ble_eq_true rfl) (fun v1 w1 hq => ?_)
  rcases hq with ⟨hw_10, hv1, hm1⟩ | ⟨hw_10, hv1, hm1⟩
  · rw [hv1, hm1]; clear hv1 hm1 v1 w1
    refine rd_if_ne C dX9_back_10 (tgt := 16) (by decide) (fun _ => ?_) (fun h => absurd h (by decide))
    refine rd_aload_n C dX9_back_16 rfl ?_
    refine rd_get C rd_g9_1 rf_X9_19 dX9_back_17 rd_b0 rd_k0 (x := rd_R (62)) rfl (fun _ => trivial) ?_
    refine rd_aload_n C dX9_back_20 rfl ?_
    refine rd_get C rd_g9_0 rf_X9_10 dX9_back_21 rd_b0 rd_k0 (x := rd_R (1)) rfl (fun _ => trivial) ?_
    refine rd_callV C (c_X2_keep hI.2.2.1.1 hI.2.2.1.2.1.1 hI.2.2.1.2.1.2 hI.2.1) rm_X9_54 ri_X2_keep rs_X2_keep rc_X2_keep rz_X2 ⟨rp_X2_keep, rfl, rfl, by decide, by decide⟩ rfl rd_kcl2 dX9_back_24 rd_b62 rd_k62 rfl (Nat.le_of_ble_eq_true rfl) (fun v1 w1 hq => ?_)
    obtain ⟨hv1, hm1⟩ := hq; rw [hv1, hm1]; clear hv1 hm1 v1 w1
    have hkl : ∀ a : Int, a < 62 ∨ 308 ≤ a → rd_keep μ a = μ a := fun a ha => rd_keep_lo hI.2.2.1 ha
    have hk62 : ∀ a : Int, a < 62 → rd_keep μ a = μ a := fun a ha => hkl a (Or.inl ha)
    have hk55 : ∀ a : Int, a < 55 → rd_keep μ a = μ a := fun a ha => hkl a (Or.inl (by omega))
    have hkw := sp_wf_k hI hk62
    have hcan := hw_10
    refine rd_aload_n C dX9_back_27 rfl ?_
    refine rd_get C rd_g9_0 rf_X9_10 dX9_back_28 rd_b0 rd_k0 (x := rd_R (1)) rfl (fun _ => trivial) ?_
    refine rd_bipush C dX9_back_31 (n := 98) (by decide) ⟨by decide, by decide⟩ ?_
    refine rd_iconst C dX9_back_33 (n := 0) ⟨by decide, by decide⟩ ?_
    refine rd_callV C (c_X8_make (μ := rd_keep μ) (c0 := 98) (q0 := 0) hkw ((sp_can_c hk62 98 0).mpr hcan)) rm_X9_168 ri_X8_make rs_X8_make rc_X8_make rz_X8 ⟨rp_X8_make, rfl, rfl, by decide, by decide⟩ rfl rd_kcl8 dX9_back_34 rd_b1 rd_k1 rfl (Nat.le_of_ble_eq_true rfl) (fun v1 w1 hq => ?_)
    obtain ⟨hv1, hm1⟩ := hq; rw [hv1, show w1 = rd_mk (rd_keep μ) 98 0 from hm1]; clear hv1 hm1
    refine rd_aload_n C dX9_back_37 rfl ?_
    refine rd_get C rd_g9_0 rf_X9_10 dX9_back_38 rd_b0 rd_k0 (x := rd_R (1)) rfl (fun _ => trivial) ?_
    refine rd_get C rd_g8_3 rf_X9_66 dX9_back_41 rd_b1 rd_k1 (x := rd_R (58)) rfl (fun _ => trivial) ?_
    refine rd_get C rd_g6_1 rf_X9_172 dX9_back_44 rd_b58 rd_k58 (x := rd_I ((rd_mk (rd_keep μ) 98 0) 58 1)) rfl (fun h => h _ _) ?_
    exact rd_iret C dX9_back_47 (by first | exact Or.inl ⟨(by first | assumption | omega | exact ⟨by assumption, by omega⟩ | exact ⟨by assumption, by assumption⟩ | exact ⟨by assumption, by assumption, by omega⟩ | exact ⟨by assumption, by omega, by omega⟩ | exact ⟨by assumption, by omega, by omega, by omega⟩ | exact Or.inl (by assumption) | exact Or.inr (by omega) | exact Or.inr (by assumption) | exact Or.inr (Or.inl (by assumption)) | exact Or.inr (Or.inr (by omega)) | trivial), rfl, rfl⟩ | exact Or.inr (⟨(by first | assumption | omega | exact ⟨by assumption, by omega⟩ | exact ⟨by assumption, by assumption⟩ | exact ⟨by assumption, by assumption, by omega⟩ | exact ⟨by assumption, by omega, by omega⟩ | exact ⟨by assumption, by omega, by omega, by omega⟩ | exact Or.inl (by assumption) | exact Or.inr (by omega) | exact Or.inr (by assumption) | exact Or.inr (Or.inl (by assumption)) | exact Or.inr (Or.inr (by omega)) | trivial), rfl, rfl⟩))
  · rw [hv1, hm1]; clear hv1 hm1 v1 w1
    refine rd_if_ne C dX9_back_10 (tgt := 16) (by decide) (fun h => absurd h (by decide)) (fun _ => ?_)
    refine rd_bipush C dX9_back_13 (n := -5) (by decide) ⟨by decide, by decide⟩ ?_
    exact rd_iret C dX9_back_15 (by first | exact Or.inl ⟨(by first | assumption | omega | exact ⟨by assumption, by omega⟩ | exact ⟨by assumption, by assumption⟩ | exact ⟨by assumption, by assumption, by omega⟩ | exact ⟨by assumption, by omega, by omega⟩ | exact ⟨by assumption, by omega, by omega, by omega⟩ | exact Or.inl (by assumption) | exact Or.inr (by omega) | exact Or.inr (by assumption) | exact Or.inr (Or.inl (by assumption)) | exact Or.inr (Or.inr (by omega)) | trivial), rfl, rfl⟩ | exact Or.inr (⟨(by first | assumption | omega | exact ⟨by assumption, by omega⟩ | exact ⟨by assumption, by assumption⟩ | exact ⟨by assumption, by assumption, by omega⟩ | exact ⟨by assumption, by omega, by omega⟩ | exact ⟨by assumption, by omega, by omega, by omega⟩ | exact Or.inl (by assumption) | exact Or.inr (by omega) | exact Or.inr (by assumption) | exact Or.inr (Or.inl (by assumption)) | exact Or.inr (Or.inr (by omega)) | trivial), rfl, rfl⟩))
set_option maxHeartbeats 4000000 in
set_option maxRecDepth 100000 in
theorem c_X9_press {l : Launch} {G : rd_G} {r : Nat} {μ : rd_Mem} (hI : sp_inv μ) {k0 : Int} : rd_M l G rd_kc 313 r yX9_press cX9_press 2 (some .int) (rd_rm 6 150) [rd_R 0, rd_I k0] μ (fun v μ' => ((k0 < 0 ∨ 9 < k0) ∧ v = some (rd_I (-2)) ∧ μ' = μ) ∨ (((0 ≤ k0 ∧ k0 ≤ 9) ∧ ¬ sp_can μ 107 k0) ∧ v = some (rd_I (-5)) ∧ μ' = μ) ∨ (((0 ≤ k0 ∧ k0 ≤ 9) ∧ sp_can μ 107 k0) ∧ v = some (rd_I (rd_mk (rd_keep μ) 107 k0 58 0)) ∧ μ' = rd_mk (rd_keep μ) 107 k0)) := by
  refine rd_enter (by decide +kernel) (Nat.le_of_ble_eq_true rfl) [rd_R 0, rd_I k0] rfl (fun p e s m args below meth c C => ?_)
  refine rd_W.rng (fun hM hL _ => ?_)
  have hc1 := hI.1.1.1
  have hc2 := hI.1.1.2
  have hn1 := hI.2.2.2.2.1.1
  have hn2 := hI.2.2.2.2.1.2
  have htc := hI.1.2.2.2.1
  have hst := hI.1.2.2.2.2
  refine rd_iload_n C dX9_press_0 rfl ?_
  refine rd_iconst C dX9_press_1 (n := 0) ⟨by decide, by decide⟩ ?_
  refine rd_bipush C dX9_press_2 (n := 9) (by decide) ⟨by decide, by decide⟩ ?_
  refine rd_callS C (c_X9_isWithin) rm_X9_82 rt_X9_isWithin rc_X9_isWithin rz_X9 ⟨rp_X9_isWithin, rfl, rfl, by decide, by decide⟩ rfl dX9_press_4 rfl (Nat.le_of_ble_eq_true rfl) (fun v1 w1 hq => ?_)
  rcases hq with ⟨hw_7, hv1, hm1⟩ | ⟨hw_7, hv1, hm1⟩
  · rw [hv1, hm1]; clear hv1 hm1 v1 w1
    refine rd_if_ne C dX9_press_7 (tgt := 13) (by decide) (fun _ => ?_) (fun h => absurd h (by decide))
    refine rd_aload_n C dX9_press_13 rfl ?_
    refine rd_get C rd_g9_0 rf_X9_10 dX9_press_14 rd_b0 rd_k0 (x := rd_R (1)) rfl (fun _ => trivial) ?_
    refine rd_bipush C dX9_press_17 (n := 107) (by decide) ⟨by decide, by decide⟩ ?_
    refine rd_iload_n C dX9_press_19 rfl ?_
    refine rd_callV C (c_X8_canMake (c0 := 107) (q0 := k0) hI.1) rm_X9_164 ri_X8_canMake rs_X8_canMake rc_X8_canMake rz_X8 ⟨rp_X8_canMake, rfl, rfl, by decide, by decide⟩ rfl rd_kcl8 dX9_press_20 rd_b1 rd_k1 rfl (Nat.le_of_ble_eq_true rfl) (fun v1 w1 hq => ?_)
    rcases hq with ⟨hw_23, hv1, hm1⟩ | ⟨hw_23, hv1, hm1⟩
    · rw [hv1, hm1]; clear hv1 hm1 v1 w1
      refine rd_if_ne C dX9_press_23 (tgt := 29) (by decide) (fun _ => ?_) (fun h => absurd h (by decide))
      refine rd_aload_n C dX9_press_29 rfl ?_
      refine rd_get C rd_g9_1 rf_X9_19 dX9_press_30 rd_b0 rd_k0 (x := rd_R (62)) rfl (fun _ => trivial) ?_
      refine rd_aload_n C dX9_press_33 rfl ?_
      refine rd_get C rd_g9_0 rf_X9_10 dX9_press_34 rd_b0 rd_k0 (x := rd_R (1)) rfl (fun _ => trivial) ?_
      refine rd_callV C (c_X2_keep hI.2.2.1.1 hI.2.2.1.2.1.1 hI.2.2.1.2.1.2 hI.2.1) rm_X9_54 ri_X2_keep rs_X2_keep rc_X2_keep rz_X2 ⟨rp_X2_keep, rfl, rfl, by decide, by decide⟩ rfl rd_kcl2 dX9_press_37 rd_b62 rd_k62 rfl (Nat.le_of_ble_eq_true rfl) (fun v1 w1 hq => ?_)
      obtain ⟨hv1, hm1⟩ := hq; rw [hv1, hm1]; clear hv1 hm1 v1 w1
      have hkl : ∀ a : Int, a < 62 ∨ 308 ≤ a → rd_keep μ a = μ a := fun a ha => rd_keep_lo hI.2.2.1 ha
      have hk62 : ∀ a : Int, a < 62 → rd_keep μ a = μ a := fun a ha => hkl a (Or.inl ha)
      have hk55 : ∀ a : Int, a < 55 → rd_keep μ a = μ a := fun a ha => hkl a (Or.inl (by omega))
      have hkw := sp_wf_k hI hk62
      have hcan := hw_23
      refine rd_aload_n C dX9_press_40 rfl ?_
      refine rd_get C rd_g9_0 rf_X9_10 dX9_press_41 rd_b0 rd_k0 (x := rd_R (1)) rfl (fun _ => trivial) ?_
      refine rd_bipush C dX9_press_44 (n := 107) (by decide) ⟨by decide, by decide⟩ ?_
      refine rd_iload_n C dX9_press_46 rfl ?_
      refine rd_callV C (c_X8_make (μ := rd_keep μ) (c0 := 107) (q0 := k0) hkw ((sp_can_c hk62 107 k0).mpr hcan)) rm_X9_168 ri_X8_make rs_X8_make rc_X8_make rz_X8 ⟨rp_X8_make, rfl, rfl, by decide, by decide⟩ rfl rd_kcl8 dX9_press_47 rd_b1 rd_k1 rfl (Nat.le_of_ble_eq_true rfl) (fun v1 w1 hq => ?_)
      obtain ⟨hv1, hm1⟩ := hq; rw [hv1, show w1 = rd_mk (rd_keep μ) 107 k0 from hm1]; clear hv1 hm1
      refine rd_aload_n C dX9_press_50 rfl ?_
      refine rd_get C rd_g9_0 rf_X9_10 dX9_press_51 rd_b0 rd_k0 (x := rd_R (1)) rfl (fun _ => trivial) ?_
      refine rd_get C rd_g8_3 rf_X9_66 dX9_press_54 rd_b1 rd_k1 (x := rd_R (58)) rfl (fun _ => trivial) ?_
      refine rd_get C rd_g6_0 rf_X9_70 dX9_press_57 rd_b58 rd_k58 (x := rd_I ((rd_mk (rd_keep μ) 107 k0) 58 0)) rfl (fun h => h _ _) ?_
      exact rd_iret C dX9_press_60 (by first | exact Or.inl ⟨(by first | assumption | omega | exact ⟨by assumption, by omega⟩ | exact ⟨by assumption, by assumption⟩ | exact ⟨by assumption, by assumption, by omega⟩ | exact ⟨by assumption, by omega, by omega⟩ | exact ⟨by assumption, by omega, by omega, by omega⟩ | exact Or.inl (by assumption) | exact Or.inr (by omega) | exact Or.inr (by assumption) | exact Or.inr (Or.inl (by assumption)) | exact Or.inr (Or.inr (by omega)) | trivial), rfl, rfl⟩ | exact Or.inr (Or.inl ⟨(by first | assumption | omega | exact ⟨by assumption, by omega⟩ | exact ⟨by assumption, by assumption⟩ | exact ⟨by assumption, by assumption, by omega⟩ | exact ⟨by assumption, by omega, by omega⟩ | exact ⟨by assumption, by omega, by omega, by omega⟩ | exact Or.inl (by assumption) | exact Or.inr (by omega) | exact Or.inr (by assumption) | exact Or.inr (Or.inl (by assumption)) | exact Or.inr (Or.inr (by omega)) | trivial), rfl, rfl⟩) | exact Or.inr (Or.inr (⟨(by first | assumption | omega | exact ⟨by assumption, by omega⟩ | exact ⟨by assumption, by assumption⟩ | exact ⟨by assumption, by assumption, by omega⟩ | exact ⟨by assumption, by omega, by omega⟩ | exact ⟨by assumption, by omega, by omega, by omega⟩ | exact Or.inl (by assumption) | exact Or.inr (by omega) | exact Or.inr (by assumption) | exact Or.inr (Or.inl (by assumption)) | exact Or.inr (Or.inr (by omega)) | trivial), rfl, rfl⟩)))
    · rw [hv1, hm1]; clear hv1 hm1 v1 w1
      refine rd_if_ne C dX9_press_23 (tgt := 29) (by decide) (fun h => absurd h (by decide)) (fun _ => ?_)
      refine rd_bipush C dX9_press_26 (n := -5) (by decide) ⟨by decide, by decide⟩ ?_
      exact rd_iret C dX9_press_28 (by first | exact Or.inl ⟨(by first | assumption | omega | exact ⟨by assumption, by omega⟩ | exact ⟨by assumption, by assumption⟩ | exact ⟨by assumption, by assumption, by omega⟩ | exact ⟨by assumption, by omega, by omega⟩ | exact ⟨by assumption, by omega, by omega, by omega⟩ | exact Or.inl (by assumption) | exact Or.inr (by omega) | exact Or.inr (by assumption) | exact Or.inr (Or.inl (by assumption)) | exact Or.inr (Or.inr (by omega)) | trivial), rfl, rfl⟩ | exact Or.inr (Or.inl ⟨(by first | assumption | omega | exact ⟨by assumption, by omega⟩ | exact ⟨by assumption, by assumption⟩ | exact ⟨by assumption, by assumption, by omega⟩ | exact ⟨by assumption, by omega, by omega⟩ | exact ⟨by assumption, by omega, by omega, by omega⟩ | exact Or.inl (by assumption) | exact Or.inr (by omega) | exact Or.inr (by assumption) | exact Or.inr (Or.inl (by assumption)) | exact Or.inr (Or.inr (by omega)) | trivial), rfl, rfl⟩) | exact Or.inr (Or.inr (⟨(by first | assumption | omega | exact ⟨by assumption, by omega⟩ | exact ⟨by assumption, by assumption⟩ | exact ⟨by assumption, by assumption, by omega⟩ | exact ⟨by assumption, by omega, by omega⟩ | exact ⟨by assumption, by omega, by omega, by omega⟩ | exact Or.inl (by assumption) | exact Or.inr (by omega) | exact Or.inr (by assumption) | exact Or.inr (Or.inl (by assumption)) | exact Or.inr (Or.inr (by omega)) | trivial), rfl, rfl⟩)))
  · rw [hv1, hm1]; clear hv1 hm1 v1 w1
    refine rd_if_ne C dX9_press_7 (tgt := 13) (by decide) (fun h => absurd h (by decide)) (fun _ => ?_)
    refine rd_bipush C dX9_press_10 (n := -2) (by decide) ⟨by decide, by decide⟩ ?_
    exact rd_iret C dX9_press_12 (by first | exact Or.inl ⟨(by first | assumption | omega | exact ⟨by assumption, by omega⟩ | exact ⟨by assumption, by assumption⟩ | exact ⟨by assumption, by assumption, by omega⟩ | exact ⟨by assumption, by omega, by omega⟩ | exact ⟨by assumption, by omega, by omega, by omega⟩ | exact Or.inl (by assumption) | exact Or.inr (by omega) | exact Or.inr (by assumption) | exact Or.inr (Or.inl (by assumption)) | exact Or.inr (Or.inr (by omega)) | trivial), rfl, rfl⟩ | exact Or.inr (Or.inl ⟨(by first | assumption | omega | exact ⟨by assumption, by omega⟩ | exact ⟨by assumption, by assumption⟩ | exact ⟨by assumption, by assumption, by omega⟩ | exact ⟨by assumption, by omega, by omega⟩ | exact ⟨by assumption, by omega, by omega, by omega⟩ | exact Or.inl (by assumption) | exact Or.inr (by omega) | exact Or.inr (by assumption) | exact Or.inr (Or.inl (by assumption)) | exact Or.inr (Or.inr (by omega)) | trivial), rfl, rfl⟩) | exact Or.inr (Or.inr (⟨(by first | assumption | omega | exact ⟨by assumption, by omega⟩ | exact ⟨by assumption, by assumption⟩ | exact ⟨by assumption, by assumption, by omega⟩ | exact ⟨by assumption, by omega, by omega⟩ | exact ⟨by assumption, by omega, by omega, by omega⟩ | exact Or.inl (by assumption) | exact Or.inr (by omega) | exact Or.inr (by assumption) | exact Or.inr (Or.inl (by assumption)) | exact Or.inr (Or.inr (by omega)) | trivial), rfl, rfl⟩)))
set_option maxHeartbeats 4000000 in
set_option maxRecDepth 100000 in
theorem c_X9_tick {l : Launch} {G : rd_G} {r : Nat} {μ : rd_Mem} (hI : sp_inv μ) {q0 : Int} : rd_M l G rd_kc 313 r yX9_tick cX9_tick 2 (some .int) (rd_rm 5 128) [rd_R 0, rd_I q0] μ (fun v μ' => ((q0 < 1 ∨ 99 < q0) ∧ v = some (rd_I (-2)) ∧ μ' = μ) ∨ (((1 ≤ q0 ∧ q0 ≤ 99) ∧ ¬ sp_can μ 116 q0) ∧ v = some (rd_I (-5)) ∧ μ' = μ) ∨ (((1 ≤ q0 ∧ q0 ≤ 99) ∧ sp_can μ 116 q0) ∧ v = some (rd_I (sp_ps q0.toNat (rd_keep μ))) ∧ μ' = rd_ps q0.toNat (rd_keep μ))) := by
  refine rd_enter (by decide +kernel) (Nat.le_of_ble_eq_true rfl) [rd_R 0, rd_I q0] rfl (fun p e s m args below meth c C => ?_)
  refine rd_W.rng (fun hM hL _ => ?_)
  have hc1 := hI.1.1.1
  have hc2 := hI.1.1.2
  have hn1 := hI.2.2.2.2.1.1
  have hn2 := hI.2.2.2.2.1.2
  have htc := hI.1.2.2.2.1
  have hst := hI.1.2.2.2.2
  refine rd_iload_n C dX9_tick_0 rfl ?_
  refine rd_iconst C dX9_tick_1 (n := 1) ⟨by decide, by decide⟩ ?_
  refine rd_bipush C dX9_tick_2 (n := 99) (by decide) ⟨by decide, by decide⟩ ?_
  refine rd_callS C (c_X9_isWithin) rm_X9_82 rt_X9_isWithin rc_X9_isWithin rz_X9 ⟨rp_X9_isWithin, rfl, rfl, by decide, by decide⟩ rfl dX9_tick_4 rfl (Nat.le_of_ble_eq_true rfl) (fun v1 w1 hq => ?_)
  rcases hq with ⟨hw_7, hv1, hm1⟩ | ⟨hw_7, hv1, hm1⟩
  · rw [hv1, hm1]; clear hv1 hm1 v1 w1
    refine rd_if_ne C dX9_tick_7 (tgt := 13) (by decide) (fun _ => ?_) (fun h => absurd h (by decide))
    refine rd_aload_n C dX9_tick_13 rfl ?_
    refine rd_get C rd_g9_0 rf_X9_10 dX9_tick_14 rd_b0 rd_k0 (x := rd_R (1)) rfl (fun _ => trivial) ?_
    refine rd_bipush C dX9_tick_17 (n := 116) (by decide) ⟨by decide, by decide⟩ ?_
    refine rd_iload_n C dX9_tick_19 rfl ?_
    refine rd_callV C (c_X8_canMake (c0 := 116) (q0 := q0) hI.1) rm_X9_164 ri_X8_canMake rs_X8_canMake rc_X8_canMake rz_X8 ⟨rp_X8_canMake, rfl, rfl, by decide, by decide⟩ rfl rd_kcl8 dX9_tick_20 rd_b1 rd_k1 rfl (Nat.le_of_ble_eq_true rfl) (fun v1 w1 hq => ?_)
    rcases hq with ⟨hw_23, hv1, hm1⟩ | ⟨hw_23, hv1, hm1⟩
    · rw [hv1, hm1]; clear hv1 hm1 v1 w1
      refine rd_if_ne C dX9_tick_23 (tgt := 29) (by decide) (fun _ => ?_) (fun h => absurd h (by decide))
      refine rd_aload_n C dX9_tick_29 rfl ?_
      refine rd_get C rd_g9_1 rf_X9_19 dX9_tick_30 rd_b0 rd_k0 (x := rd_R (62)) rfl (fun _ => trivial) ?_
      refine rd_aload_n C dX9_tick_33 rfl ?_
      refine rd_get C rd_g9_0 rf_X9_10 dX9_tick_34 rd_b0 rd_k0 (x := rd_R (1)) rfl (fun _ => trivial) ?_
      refine rd_callV C (c_X2_keep hI.2.2.1.1 hI.2.2.1.2.1.1 hI.2.2.1.2.1.2 hI.2.1) rm_X9_54 ri_X2_keep rs_X2_keep rc_X2_keep rz_X2 ⟨rp_X2_keep, rfl, rfl, by decide, by decide⟩ rfl rd_kcl2 dX9_tick_37 rd_b62 rd_k62 rfl (Nat.le_of_ble_eq_true rfl) (fun v1 w1 hq => ?_)
      obtain ⟨hv1, hm1⟩ := hq; rw [hv1, hm1]; clear hv1 hm1 v1 w1
      have hkl : ∀ a : Int, a < 62 ∨ 308 ≤ a → rd_keep μ a = μ a := fun a ha => rd_keep_lo hI.2.2.1 ha
      have hk62 : ∀ a : Int, a < 62 → rd_keep μ a = μ a := fun a ha => hkl a (Or.inl ha)
      have hk55 : ∀ a : Int, a < 55 → rd_keep μ a = μ a := fun a ha => hkl a (Or.inl (by omega))
      have hkw := sp_wf_k hI hk62
      have hcan := hw_23
      refine rd_aload_n C dX9_tick_40 rfl ?_
      refine rd_get C rd_g9_0 rf_X9_10 dX9_tick_41 rd_b0 rd_k0 (x := rd_R (1)) rfl (fun _ => trivial) ?_
      refine rd_iload_n C dX9_tick_44 rfl ?_
      refine rd_callV C (c_X8_passSeconds (μ := rd_keep μ) hkw (((sp_can_c hk62 116 q0).mpr hcan).1)) rm_X9_175 ri_X8_passSeconds rs_X8_passSeconds rc_X8_passSeconds rz_X8 ⟨rp_X8_passSeconds, rfl, rfl, by decide, by decide⟩ rfl rd_kcl8 dX9_tick_45 rd_b1 rd_k1 rfl (Nat.le_of_ble_eq_true rfl) (fun v1 w1 hq => ?_)
      obtain ⟨hv1, hm1⟩ := hq; rw [show v1 = some (rd_I (sp_ps q0.toNat (rd_keep μ))) from hv1, show w1 = rd_ps q0.toNat (rd_keep μ) from hm1]; clear hv1 hm1
      exact rd_iret C dX9_tick_48 (by first | exact Or.inl ⟨(by first | assumption | omega | exact ⟨by assumption, by omega⟩ | exact ⟨by assumption, by assumption⟩ | exact ⟨by assumption, by assumption, by omega⟩ | exact ⟨by assumption, by omega, by omega⟩ | exact ⟨by assumption, by omega, by omega, by omega⟩ | exact Or.inl (by assumption) | exact Or.inr (by omega) | exact Or.inr (by assumption) | exact Or.inr (Or.inl (by assumption)) | exact Or.inr (Or.inr (by omega)) | trivial), rfl, rfl⟩ | exact Or.inr (Or.inl ⟨(by first | assumption | omega | exact ⟨by assumption, by omega⟩ | exact ⟨by assumption, by assumption⟩ | exact ⟨by assumption, by assumption, by omega⟩ | exact ⟨by assumption, by omega, by omega⟩ | exact ⟨by assumption, by omega, by omega, by omega⟩ | exact Or.inl (by assumption) | exact Or.inr (by omega) | exact Or.inr (by assumption) | exact Or.inr (Or.inl (by assumption)) | exact Or.inr (Or.inr (by omega)) | trivial), rfl, rfl⟩) | exact Or.inr (Or.inr (⟨(by first | assumption | omega | exact ⟨by assumption, by omega⟩ | exact ⟨by assumption, by assumption⟩ | exact ⟨by assumption, by assumption, by omega⟩ | exact ⟨by assumption, by omega, by omega⟩ | exact ⟨by assumption, by omega, by omega, by omega⟩ | exact Or.inl (by assumption) | exact Or.inr (by omega) | exact Or.inr (by assumption) | exact Or.inr (Or.inl (by assumption)) | exact Or.inr (Or.inr (by omega)) | trivial), rfl, rfl⟩)))
    · rw [hv1, hm1]; clear hv1 hm1 v1 w1
      refine rd_if_ne C dX9_tick_23 (tgt := 29) (by decide) (fun h => absurd h (by decide)) (fun _ => ?_)
      refine rd_bipush C dX9_tick_26 (n := -5) (by decide) ⟨by decide, by decide⟩ ?_
      exact rd_iret C dX9_tick_28 (by first | exact Or.inl ⟨(by first | assumption | omega | exact ⟨by assumption, by omega⟩ | exact ⟨by assumption, by assumption⟩ | exact ⟨by assumption, by assumption, by omega⟩ | exact ⟨by assumption, by omega, by omega⟩ | exact ⟨by assumption, by omega, by omega, by omega⟩ | exact Or.inl (by assumption) | exact Or.inr (by omega) | exact Or.inr (by assumption) | exact Or.inr (Or.inl (by assumption)) | exact Or.inr (Or.inr (by omega)) | trivial), rfl, rfl⟩ | exact Or.inr (Or.inl ⟨(by first | assumption | omega | exact ⟨by assumption, by omega⟩ | exact ⟨by assumption, by assumption⟩ | exact ⟨by assumption, by assumption, by omega⟩ | exact ⟨by assumption, by omega, by omega⟩ | exact ⟨by assumption, by omega, by omega, by omega⟩ | exact Or.inl (by assumption) | exact Or.inr (by omega) | exact Or.inr (by assumption) | exact Or.inr (Or.inl (by assumption)) | exact Or.inr (Or.inr (by omega)) | trivial), rfl, rfl⟩) | exact Or.inr (Or.inr (⟨(by first | assumption | omega | exact ⟨by assumption, by omega⟩ | exact ⟨by assumption, by assumption⟩ | exact ⟨by assumption, by assumption, by omega⟩ | exact ⟨by assumption, by omega, by omega⟩ | exact ⟨by assumption, by omega, by omega, by omega⟩ | exact Or.inl (by assumption) | exact Or.inr (by omega) | exact Or.inr (by assumption) | exact Or.inr (Or.inl (by assumption)) | exact Or.inr (Or.inr (by omega)) | trivial), rfl, rfl⟩)))
  · rw [hv1, hm1]; clear hv1 hm1 v1 w1
    refine rd_if_ne C dX9_tick_7 (tgt := 13) (by decide) (fun h => absurd h (by decide)) (fun _ => ?_)
    refine rd_bipush C dX9_tick_10 (n := -2) (by decide) ⟨by decide, by decide⟩ ?_
    exact rd_iret C dX9_tick_12 (by first | exact Or.inl ⟨(by first | assumption | omega | exact ⟨by assumption, by omega⟩ | exact ⟨by assumption, by assumption⟩ | exact ⟨by assumption, by assumption, by omega⟩ | exact ⟨by assumption, by omega, by omega⟩ | exact ⟨by assumption, by omega, by omega, by omega⟩ | exact Or.inl (by assumption) | exact Or.inr (by omega) | exact Or.inr (by assumption) | exact Or.inr (Or.inl (by assumption)) | exact Or.inr (Or.inr (by omega)) | trivial), rfl, rfl⟩ | exact Or.inr (Or.inl ⟨(by first | assumption | omega | exact ⟨by assumption, by omega⟩ | exact ⟨by assumption, by assumption⟩ | exact ⟨by assumption, by assumption, by omega⟩ | exact ⟨by assumption, by omega, by omega⟩ | exact ⟨by assumption, by omega, by omega, by omega⟩ | exact Or.inl (by assumption) | exact Or.inr (by omega) | exact Or.inr (by assumption) | exact Or.inr (Or.inl (by assumption)) | exact Or.inr (Or.inr (by omega)) | trivial), rfl, rfl⟩) | exact Or.inr (Or.inr (⟨(by first | assumption | omega | exact ⟨by assumption, by omega⟩ | exact ⟨by assumption, by assumption⟩ | exact ⟨by assumption, by assumption, by omega⟩ | exact ⟨by assumption, by omega, by omega⟩ | exact ⟨by assumption, by omega, by omega, by omega⟩ | exact Or.inl (by assumption) | exact Or.inr (by omega) | exact Or.inr (by assumption) | exact Or.inr (Or.inl (by assumption)) | exact Or.inr (Or.inr (by omega)) | trivial), rfl, rfl⟩)))
set_option maxHeartbeats 4000000 in
set_option maxRecDepth 100000 in
theorem c_X9_append {l : Launch} {G : rd_G} {r : Nat} {μ : rd_Mem} (hI : sp_inv μ) {c0 : Int} : rd_M l G rd_kc 313 r yX9_append cX9_append 2 (some .int) (rd_rm 1 22) [rd_R 0, rd_I c0] μ (fun v μ' => ((c0 < 32 ∨ 126 < c0) ∧ v = some (rd_I (-2)) ∧ μ' = μ) ∨ (((32 ≤ c0 ∧ c0 ≤ 126) ∧ 60 ≤ μ 308 0) ∧ v = some (rd_I (-4)) ∧ μ' = μ) ∨ (((32 ≤ c0 ∧ c0 ≤ 126) ∧ μ 308 0 < 60) ∧ v = some (rd_I (μ 308 0 + 1)) ∧ μ' = rd_u (rd_u μ 309 (μ 308 0) c0) 308 0 (μ 308 0 + 1))) := by
  refine rd_enter (by decide +kernel) (Nat.le_of_ble_eq_true rfl) [rd_R 0, rd_I c0] rfl (fun p e s m args below meth c C => ?_)
  refine rd_W.rng (fun hM hL _ => ?_)
  have hc1 := hI.1.1.1
  have hc2 := hI.1.1.2
  have hn1 := hI.2.2.2.2.1.1
  have hn2 := hI.2.2.2.2.1.2
  have htc := hI.1.2.2.2.1
  have hst := hI.1.2.2.2.2
  have hx1 := hI.2.2.2.1.1.1
  have hx2 := hI.2.2.2.1.1.2
  refine rd_iload_n C dX9_append_0 rfl ?_
  refine rd_bipush C dX9_append_1 (n := 32) (by decide) ⟨by decide, by decide⟩ ?_
  refine rd_bipush C dX9_append_3 (n := 126) (by decide) ⟨by decide, by decide⟩ ?_
  refine rd_callS C (c_X9_isWithin) rm_X9_82 rt_X9_isWithin rc_X9_isWithin rz_X9 ⟨rp_X9_isWithin, rfl, rfl, by decide, by decide⟩ rfl dX9_append_5 rfl (Nat.le_of_ble_eq_true rfl) (fun v1 w1 hq => ?_)
  rcases hq with ⟨hw_8, hv1, hm1⟩ | ⟨hw_8, hv1, hm1⟩
  · rw [hv1, hm1]; clear hv1 hm1 v1 w1
    refine rd_if_ne C dX9_append_8 (tgt := 14) (by decide) (fun _ => ?_) (fun h => absurd h (by decide))
    refine rd_aload_n C dX9_append_14 rfl ?_
    refine rd_get C rd_g9_2 rf_X9_26 dX9_append_15 rd_b0 rd_k0 (x := rd_R (308)) rfl (fun _ => trivial) ?_
    refine rd_get C rd_g5_0 rf_X9_178 dX9_append_18 rd_b308 rd_k308 (x := rd_I (μ 308 0)) rfl (fun h => h _ _) ?_
    refine rd_bipush C dX9_append_21 (n := 60) (by decide) ⟨by decide, by decide⟩ ?_
    refine rd_icmp_lt C dX9_append_23 (tgt := 29) (by decide) (fun h_23 => ?_) (fun h_23 => ?_)
    · refine rd_aload_n C dX9_append_29 rfl ?_
      refine rd_get C rd_g9_2 rf_X9_26 dX9_append_30 rd_b0 rd_k0 (x := rd_R (308)) rfl (fun _ => trivial) ?_
      refine rd_iload_n C dX9_append_33 rfl ?_
      refine rd_i2c C dX9_append_34 (by omega) (by omega) ?_
      refine rd_callV C (c_X5_addSign hx1 (by omega) (by omega) (by omega)) rm_X9_181 ri_X5_addSign rs_X5_addSign rc_X5_addSign rz_X5 ⟨rp_X5_addSign, rfl, rfl, by decide, by decide⟩ rfl rd_kcl5 dX9_append_35 rd_b308 rd_k308 rfl (Nat.le_of_ble_eq_true rfl) (fun v1 w1 hq => ?_)
      obtain ⟨hv1, hm1⟩ := hq; rw [hv1, show w1 = rd_u (rd_u μ 309 (μ 308 0) c0) 308 0 (μ 308 0 + 1) from hm1]; clear hv1 hm1
      refine rd_aload_n C dX9_append_38 rfl ?_
      refine rd_get C rd_g9_2 rf_X9_26 dX9_append_39 rd_b0 rd_k0 (x := rd_R (308)) rfl (fun _ => trivial) ?_
      refine rd_getx C rd_g5_0 rf_X9_178 dX9_append_42 rd_b308 rd_k308 rfl (z := μ 308 0 + 1) (by rw [rd_u_s]) ?_
      exact rd_iret C dX9_append_45 (by first | exact Or.inl ⟨(by first | assumption | omega | exact ⟨by assumption, by omega⟩ | exact ⟨by assumption, by assumption⟩ | exact ⟨by assumption, by assumption, by omega⟩ | exact ⟨by assumption, by omega, by omega⟩ | exact ⟨by assumption, by omega, by omega, by omega⟩ | exact Or.inl (by assumption) | exact Or.inr (by omega) | exact Or.inr (by assumption) | exact Or.inr (Or.inl (by assumption)) | exact Or.inr (Or.inr (by omega)) | trivial), rfl, rfl⟩ | exact Or.inr (Or.inl ⟨(by first | assumption | omega | exact ⟨by assumption, by omega⟩ | exact ⟨by assumption, by assumption⟩ | exact ⟨by assumption, by assumption, by omega⟩ | exact ⟨by assumption, by omega, by omega⟩ | exact ⟨by assumption, by omega, by omega, by omega⟩ | exact Or.inl (by assumption) | exact Or.inr (by omega) | exact Or.inr (by assumption) | exact Or.inr (Or.inl (by assumption)) | exact Or.inr (Or.inr (by omega)) | trivial), rfl, rfl⟩) | exact Or.inr (Or.inr (⟨(by first | assumption | omega | exact ⟨by assumption, by omega⟩ | exact ⟨by assumption, by assumption⟩ | exact ⟨by assumption, by assumption, by omega⟩ | exact ⟨by assumption, by omega, by omega⟩ | exact ⟨by assumption, by omega, by omega, by omega⟩ | exact Or.inl (by assumption) | exact Or.inr (by omega) | exact Or.inr (by assumption) | exact Or.inr (Or.inl (by assumption)) | exact Or.inr (Or.inr (by omega)) | trivial), rfl, rfl⟩)))
    · refine rd_bipush C dX9_append_26 (n := -4) (by decide) ⟨by decide, by decide⟩ ?_
      exact rd_iret C dX9_append_28 (by first | exact Or.inl ⟨(by first | assumption | omega | exact ⟨by assumption, by omega⟩ | exact ⟨by assumption, by assumption⟩ | exact ⟨by assumption, by assumption, by omega⟩ | exact ⟨by assumption, by omega, by omega⟩ | exact ⟨by assumption, by omega, by omega, by omega⟩ | exact Or.inl (by assumption) | exact Or.inr (by omega) | exact Or.inr (by assumption) | exact Or.inr (Or.inl (by assumption)) | exact Or.inr (Or.inr (by omega)) | trivial), rfl, rfl⟩ | exact Or.inr (Or.inl ⟨(by first | assumption | omega | exact ⟨by assumption, by omega⟩ | exact ⟨by assumption, by assumption⟩ | exact ⟨by assumption, by assumption, by omega⟩ | exact ⟨by assumption, by omega, by omega⟩ | exact ⟨by assumption, by omega, by omega, by omega⟩ | exact Or.inl (by assumption) | exact Or.inr (by omega) | exact Or.inr (by assumption) | exact Or.inr (Or.inl (by assumption)) | exact Or.inr (Or.inr (by omega)) | trivial), rfl, rfl⟩) | exact Or.inr (Or.inr (⟨(by first | assumption | omega | exact ⟨by assumption, by omega⟩ | exact ⟨by assumption, by assumption⟩ | exact ⟨by assumption, by assumption, by omega⟩ | exact ⟨by assumption, by omega, by omega⟩ | exact ⟨by assumption, by omega, by omega, by omega⟩ | exact Or.inl (by assumption) | exact Or.inr (by omega) | exact Or.inr (by assumption) | exact Or.inr (Or.inl (by assumption)) | exact Or.inr (Or.inr (by omega)) | trivial), rfl, rfl⟩)))
  · rw [hv1, hm1]; clear hv1 hm1 v1 w1
    refine rd_if_ne C dX9_append_8 (tgt := 14) (by decide) (fun h => absurd h (by decide)) (fun _ => ?_)
    refine rd_bipush C dX9_append_11 (n := -2) (by decide) ⟨by decide, by decide⟩ ?_
    exact rd_iret C dX9_append_13 (by first | exact Or.inl ⟨(by first | assumption | omega | exact ⟨by assumption, by omega⟩ | exact ⟨by assumption, by assumption⟩ | exact ⟨by assumption, by assumption, by omega⟩ | exact ⟨by assumption, by omega, by omega⟩ | exact ⟨by assumption, by omega, by omega, by omega⟩ | exact Or.inl (by assumption) | exact Or.inr (by omega) | exact Or.inr (by assumption) | exact Or.inr (Or.inl (by assumption)) | exact Or.inr (Or.inr (by omega)) | trivial), rfl, rfl⟩ | exact Or.inr (Or.inl ⟨(by first | assumption | omega | exact ⟨by assumption, by omega⟩ | exact ⟨by assumption, by assumption⟩ | exact ⟨by assumption, by assumption, by omega⟩ | exact ⟨by assumption, by omega, by omega⟩ | exact ⟨by assumption, by omega, by omega, by omega⟩ | exact Or.inl (by assumption) | exact Or.inr (by omega) | exact Or.inr (by assumption) | exact Or.inr (Or.inl (by assumption)) | exact Or.inr (Or.inr (by omega)) | trivial), rfl, rfl⟩) | exact Or.inr (Or.inr (⟨(by first | assumption | omega | exact ⟨by assumption, by omega⟩ | exact ⟨by assumption, by assumption⟩ | exact ⟨by assumption, by assumption, by omega⟩ | exact ⟨by assumption, by omega, by omega⟩ | exact ⟨by assumption, by omega, by omega, by omega⟩ | exact Or.inl (by assumption) | exact Or.inr (by omega) | exact Or.inr (by assumption) | exact Or.inr (Or.inl (by assumption)) | exact Or.inr (Or.inr (by omega)) | trivial), rfl, rfl⟩)))
set_option maxHeartbeats 4000000 in
set_option maxRecDepth 100000 in
theorem c_X9_clearText {l : Launch} {G : rd_G} {r : Nat} {μ : rd_Mem} (hI : sp_inv μ) : rd_M l G rd_kc 313 r yX9_clearText cX9_clearText 2 (some .int) (rd_rm 0 0) [rd_R 0] μ (fun v μ' => (True ∧ v = some (rd_I (μ 308 0)) ∧ μ' = rd_u μ 308 0 0)) := by
  refine rd_enter (by decide +kernel) (Nat.le_of_ble_eq_true rfl) [rd_R 0, rd_J] rfl (fun p e s m args below meth c C => ?_)
  refine rd_W.rng (fun hM hL _ => ?_)
  have hc1 := hI.1.1.1
  have hc2 := hI.1.1.2
  have hn1 := hI.2.2.2.2.1.1
  have hn2 := hI.2.2.2.2.1.2
  have htc := hI.1.2.2.2.1
  have hst := hI.1.2.2.2.2
  have hx1 := hI.2.2.2.1.1.1
  have hx2 := hI.2.2.2.1.1.2
  refine rd_aload_n C dX9_clearText_0 rfl ?_
  refine rd_get C rd_g9_2 rf_X9_26 dX9_clearText_1 rd_b0 rd_k0 (x := rd_R (308)) rfl (fun _ => trivial) ?_
  refine rd_get C rd_g5_0 rf_X9_178 dX9_clearText_4 rd_b308 rd_k308 (x := rd_I (μ 308 0)) rfl (fun h => h _ _) ?_
  refine rd_istore_n C dX9_clearText_7 (by decide) (L' := [rd_R 0, rd_I (μ 308 0)]) rfl ?_
  refine rd_aload_n C dX9_clearText_8 rfl ?_
  refine rd_get C rd_g9_2 rf_X9_26 dX9_clearText_9 rd_b0 rd_k0 (x := rd_R (308)) rfl (fun _ => trivial) ?_
  refine rd_iconst C dX9_clearText_12 (n := 0) ⟨by decide, by decide⟩ ?_
  refine rd_put C rd_p5_0 rf_X9_178 dX9_clearText_13 rd_b308 rd_k308 trivial ?_
  refine rd_iload_n C dX9_clearText_16 rfl ?_
  exact rd_iret C dX9_clearText_17 (by first | exact ⟨(by first | assumption | omega | exact ⟨by assumption, by omega⟩ | exact ⟨by assumption, by assumption⟩ | exact ⟨by assumption, by assumption, by omega⟩ | exact ⟨by assumption, by omega, by omega⟩ | exact ⟨by assumption, by omega, by omega, by omega⟩ | exact Or.inl (by assumption) | exact Or.inr (by omega) | exact Or.inr (by assumption) | exact Or.inr (Or.inl (by assumption)) | exact Or.inr (Or.inr (by omega)) | trivial), rfl, rfl⟩)
set_option maxHeartbeats 4000000 in
set_option maxRecDepth 100000 in
theorem c_X9_fault {l : Launch} {G : rd_G} {r : Nat} {μ : rd_Mem} (hI : sp_inv μ) : rd_M l G rd_kc 313 r yX9_fault cX9_fault 1 (some .int) (rd_rm 3 65) [rd_R 0] μ (fun v μ' => (True ∧ v = some (rd_I (sp_flt (μ 309) (μ 308 0).toNat 0 0)) ∧ μ' = μ)) := by
  refine rd_enter (by decide +kernel) (Nat.le_of_ble_eq_true rfl) [rd_R 0] rfl (fun p e s m args below meth c C => ?_)
  refine rd_W.rng (fun hM hL _ => ?_)
  have hc1 := hI.1.1.1
  have hc2 := hI.1.1.2
  have hn1 := hI.2.2.2.2.1.1
  have hn2 := hI.2.2.2.2.1.2
  have htc := hI.1.2.2.2.1
  have hst := hI.1.2.2.2.2
  have hx1 := hI.2.2.2.1.1.1
  have hx2 := hI.2.2.2.1.1.2
  refine rd_aload_n C dX9_fault_0 rfl ?_
  refine rd_get C rd_g9_2 rf_X9_26 dX9_fault_1 rd_b0 rd_k0 (x := rd_R (308)) rfl (fun _ => trivial) ?_
  refine rd_callV C (c_X5_findFault hx1 hx2 hI.2.2.2.1.2) rm_X9_185 ri_X5_findFault rs_X5_findFault rc_X5_findFault rz_X5 ⟨rp_X5_findFault, rfl, rfl, by decide, by decide⟩ rfl rd_kcl5 dX9_fault_4 rd_b308 rd_k308 rfl (Nat.le_of_ble_eq_true rfl) (fun v1 w1 hq => ?_)
  obtain ⟨hv1, hm1⟩ := hq; rw [show v1 = some (rd_I (sp_flt (μ 309) (μ 308 0).toNat 0 0)) from hv1, hm1]; clear hv1 hm1
  exact rd_iret C dX9_fault_7 (by first | exact ⟨(by first | assumption | omega | exact ⟨by assumption, by omega⟩ | exact ⟨by assumption, by assumption⟩ | exact ⟨by assumption, by assumption, by omega⟩ | exact ⟨by assumption, by omega, by omega⟩ | exact ⟨by assumption, by omega, by omega, by omega⟩ | exact Or.inl (by assumption) | exact Or.inr (by omega) | exact Or.inr (by assumption) | exact Or.inr (Or.inl (by assumption)) | exact Or.inr (Or.inr (by omega)) | trivial), rfl, rfl⟩)
set_option maxHeartbeats 4000000 in
set_option maxRecDepth 100000 in
theorem c_X9_why {l : Launch} {G : rd_G} {r : Nat} {μ : rd_Mem} (hI : sp_inv μ) {q0 : Int} : rd_M l G rd_kc 313 r yX9_why cX9_why 2 (some .int) (rd_rm 0 0) [rd_R 0, rd_I q0] μ (fun v μ' => ((0 ≤ q0 ∧ q0 ≤ 3) ∧ v = some (rd_I (μ 310 q0)) ∧ μ' = μ) ∨ ((q0 < 0 ∨ 3 < q0) ∧ v = some (rd_I (-2)) ∧ μ' = μ)) := by
  refine rd_enter (by decide +kernel) (Nat.le_of_ble_eq_true rfl) [rd_R 0, rd_I q0] rfl (fun p e s m args below meth c C => ?_)
  refine rd_W.rng (fun hM hL _ => ?_)
  have hc1 := hI.1.1.1
  have hc2 := hI.1.1.2
  have hn1 := hI.2.2.2.2.1.1
  have hn2 := hI.2.2.2.2.1.2
  have htc := hI.1.2.2.2.1
  have hst := hI.1.2.2.2.2
  have hx1 := hI.2.2.2.1.1.1
  have hx2 := hI.2.2.2.1.1.2
  refine rd_iload_n C dX9_why_0 rfl ?_
  have h_1 : q0 = 0 ∨ q0 = 1 ∨ q0 = 2 ∨ q0 = 3 ∨ (q0 < 0 ∨ 3 < q0) := by omega
  rcases h_1 with h_1 | h_1 | h_1 | h_1 | h_1
  · refine rd_swIn C dX9_why_1 (by omega) (by omega) (off := 31) (by rw [h_1]; rfl) (tgt := 32) (by decide) ?_
    refine rd_aload_n C dX9_why_32 rfl ?_
    refine rd_get C rd_g9_3 rf_X9_33 dX9_why_33 rd_b0 rd_k0 (x := rd_R (310)) rfl (fun _ => trivial) ?_
    refine rd_get C rd_g4_0 rf_X9_204 dX9_why_36 rd_b310 rd_k310 (x := rd_I (μ 310 0)) rfl (fun h => h _ _) ?_
    exact rd_iret C dX9_why_39 (by first | exact Or.inr ⟨(by omega), rfl, rfl⟩ | exact Or.inl ⟨(by omega), (by rw [show q0 = 0 by omega]), rfl⟩)
  · refine rd_swIn C dX9_why_1 (by omega) (by omega) (off := 39) (by rw [h_1]; rfl) (tgt := 40) (by decide) ?_
    refine rd_aload_n C dX9_why_40 rfl ?_
    refine rd_get C rd_g9_3 rf_X9_33 dX9_why_41 rd_b0 rd_k0 (x := rd_R (310)) rfl (fun _ => trivial) ?_
    refine rd_get C rd_g4_1 rf_X9_207 dX9_why_44 rd_b310 rd_k310 (x := rd_I (μ 310 1)) rfl (fun h => h _ _) ?_
    exact rd_iret C dX9_why_47 (by first | exact Or.inr ⟨(by omega), rfl, rfl⟩ | exact Or.inl ⟨(by omega), (by rw [show q0 = 1 by omega]), rfl⟩)
  · refine rd_swIn C dX9_why_1 (by omega) (by omega) (off := 47) (by rw [h_1]; rfl) (tgt := 48) (by decide) ?_
    refine rd_aload_n C dX9_why_48 rfl ?_
    refine rd_get C rd_g9_3 rf_X9_33 dX9_why_49 rd_b0 rd_k0 (x := rd_R (310)) rfl (fun _ => trivial) ?_
    refine rd_get C rd_g4_2 rf_X9_210 dX9_why_52 rd_b310 rd_k310 (x := rd_I (μ 310 2)) rfl (fun h => h _ _) ?_
    exact rd_iret C dX9_why_55 (by first | exact Or.inr ⟨(by omega), rfl, rfl⟩ | exact Or.inl ⟨(by omega), (by rw [show q0 = 2 by omega]), rfl⟩)
  · refine rd_swIn C dX9_why_1 (by omega) (by omega) (off := 55) (by rw [h_1]; rfl) (tgt := 56) (by decide) ?_
    refine rd_aload_n C dX9_why_56 rfl ?_
    refine rd_get C rd_g9_3 rf_X9_33 dX9_why_57 rd_b0 rd_k0 (x := rd_R (310)) rfl (fun _ => trivial) ?_
    refine rd_get C rd_g4_3 rf_X9_211 dX9_why_60 rd_b310 rd_k310 (x := rd_I (μ 310 3)) rfl (fun h => h _ _) ?_
    exact rd_iret C dX9_why_63 (by first | exact Or.inr ⟨(by omega), rfl, rfl⟩ | exact Or.inl ⟨(by omega), (by rw [show q0 = 3 by omega]), rfl⟩)
  · refine rd_swOut C dX9_why_1 h_1 (tgt := 64) (by decide) ?_
    refine rd_bipush C dX9_why_64 (n := -2) (by decide) ⟨by decide, by decide⟩ ?_
    exact rd_iret C dX9_why_66 (by first | exact Or.inr ⟨(by omega), rfl, rfl⟩ | exact Or.inl ⟨(by omega), (by rw [show q0 = -2 by omega]), rfl⟩)
set_option maxHeartbeats 4000000 in
set_option maxRecDepth 100000 in
theorem c_X9_undo {l : Launch} {G : rd_G} {r : Nat} {μ : rd_Mem} (hI : sp_inv μ) : rd_M l G rd_kc 313 r yX9_undo cX9_undo 1 (some .int) (rd_rm 5 125) [rd_R 0] μ (fun v μ' => (μ 62 0 = 0 ∧ v = some (rd_I (-6)) ∧ μ' = μ) ∨ (0 < μ 62 0 ∧ v = some (rd_I (μ 62 0 - 1)) ∧ μ' = rd_rst μ)) := by
  refine rd_enter (by decide +kernel) (Nat.le_of_ble_eq_true rfl) [rd_R 0] rfl (fun p e s m args below meth c C => ?_)
  refine rd_W.rng (fun hM hL _ => ?_)
  have hc1 := hI.1.1.1
  have hc2 := hI.1.1.2
  have hn1 := hI.2.2.2.2.1.1
  have hn2 := hI.2.2.2.2.1.2
  have htc := hI.1.2.2.2.1
  have hst := hI.1.2.2.2.2
  have hx1 := hI.2.2.2.1.1.1
  have hx2 := hI.2.2.2.1.1.2
  have hh1 := hI.2.2.1.2.1.1
  have hh2 := hI.2.2.1.2.1.2
  refine rd_aload_n C dX9_undo_0 rfl ?_
  refine rd_get C rd_g9_1 rf_X9_19 dX9_undo_1 rd_b0 rd_k0 (x := rd_R (62)) rfl (fun _ => trivial) ?_
  refine rd_get C rd_g2_0 rf_X9_212 dX9_undo_4 rd_b62 rd_k62 (x := rd_I (μ 62 0)) rfl (fun h => h _ _) ?_
  refine rd_if_ne C dX9_undo_7 (tgt := 13) (by decide) (fun h_7 => ?_) (fun h_7 => ?_)
  · refine rd_aload_n C dX9_undo_13 rfl ?_
    refine rd_get C rd_g9_1 rf_X9_19 dX9_undo_14 rd_b0 rd_k0 (x := rd_R (62)) rfl (fun _ => trivial) ?_
    refine rd_aload_n C dX9_undo_17 rfl ?_
    refine rd_get C rd_g9_0 rf_X9_10 dX9_undo_18 rd_b0 rd_k0 (x := rd_R (1)) rfl (fun _ => trivial) ?_
    refine rd_callV C (c_X2_restore hI.2.2.1.1 (by omega) (by omega) (hI.2.2.1.2.2 _ (by omega) (by omega))) rm_X9_213 ri_X2_restore rs_X2_restore rc_X2_restore rz_X2 ⟨rp_X2_restore, rfl, rfl, by decide, by decide⟩ rfl rd_kcl2 dX9_undo_21 rd_b62 rd_k62 rfl (Nat.le_of_ble_eq_true rfl) (fun v1 w1 hq => ?_)
    obtain ⟨hv1, hm1⟩ := hq; rw [hv1, show w1 = rd_rst μ from hm1]; clear hv1 hm1
    have hr62 : rd_rst μ 62 0 = μ 62 0 - 1 := by unfold rd_rst; rw [rd_bcr_out _ _ (by omega), rd_u_s]
    refine rd_aload_n C dX9_undo_24 rfl ?_
    refine rd_get C rd_g9_1 rf_X9_19 dX9_undo_25 rd_b0 rd_k0 (x := rd_R (62)) rfl (fun _ => trivial) ?_
    refine rd_get C rd_g2_0 rf_X9_212 dX9_undo_28 rd_b62 rd_k62 (x := rd_I ((rd_rst μ) 62 0)) rfl (fun h => h _ _) ?_
    exact rd_iret C dX9_undo_31 (by first | exact Or.inl ⟨(by omega), rfl, rfl⟩ | exact Or.inr ⟨(by omega), by rw [hr62], rfl⟩)
  · refine rd_bipush C dX9_undo_10 (n := -6) (by decide) ⟨by decide, by decide⟩ ?_
    exact rd_iret C dX9_undo_12 (by first | exact Or.inl ⟨(by omega), rfl, rfl⟩ | exact Or.inr ⟨(by omega), by rw [hr62], rfl⟩)
set_option maxHeartbeats 4000000 in
set_option maxRecDepth 100000 in
theorem c_X9_slides {l : Launch} {G : rd_G} {r : Nat} {μ : rd_Mem} (hI : sp_inv μ) : rd_M l G rd_kc 313 r yX9_slides cX9_slides 1 (some .int) (rd_rm 0 0) [rd_R 0] μ (fun v μ' => (True ∧ v = some (rd_I (μ 2 0)) ∧ μ' = μ)) := by
  refine rd_enter (by decide +kernel) (Nat.le_of_ble_eq_true rfl) [rd_R 0] rfl (fun p e s m args below meth c C => ?_)
  refine rd_W.rng (fun hM hL _ => ?_)
  have hc1 := hI.1.1.1
  have hc2 := hI.1.1.2
  have hn1 := hI.2.2.2.2.1.1
  have hn2 := hI.2.2.2.2.1.2
  have htc := hI.1.2.2.2.1
  have hst := hI.1.2.2.2.2
  have hx1 := hI.2.2.2.1.1.1
  have hx2 := hI.2.2.2.1.1.2
  have hh1 := hI.2.2.1.2.1.1
  have hh2 := hI.2.2.1.2.1.2
  refine rd_aload_n C dX9_slides_0 rfl ?_
  refine rd_get C rd_g9_0 rf_X9_10 dX9_slides_1 rd_b0 rd_k0 (x := rd_R (1)) rfl (fun _ => trivial) ?_
  refine rd_get C rd_g8_1 rf_X9_44 dX9_slides_4 rd_b1 rd_k1 (x := rd_R (2)) rfl (fun _ => trivial) ?_
  refine rd_get C rd_g0_0 rf_X9_79 dX9_slides_7 rd_b2 rd_k2 (x := rd_I (μ 2 0)) rfl (fun h => h _ _) ?_
  exact rd_iret C dX9_slides_10 (by first | exact ⟨(by first | assumption | omega | exact ⟨by assumption, by omega⟩ | exact ⟨by assumption, by assumption⟩ | exact ⟨by assumption, by assumption, by omega⟩ | exact ⟨by assumption, by omega, by omega⟩ | exact ⟨by assumption, by omega, by omega, by omega⟩ | exact Or.inl (by assumption) | exact Or.inr (by omega) | exact Or.inr (by assumption) | exact Or.inr (Or.inl (by assumption)) | exact Or.inr (Or.inr (by omega)) | trivial), rfl, rfl⟩)
set_option maxHeartbeats 4000000 in
set_option maxRecDepth 100000 in
theorem c_X9_end {l : Launch} {G : rd_G} {r : Nat} {μ : rd_Mem} (hI : sp_inv μ) : rd_M l G rd_kc 313 r yX9_end cX9_end 1 (some .int) (rd_rm 0 0) [rd_R 0] μ (fun v μ' => (True ∧ v = some (rd_I (μ 1 0)) ∧ μ' = μ)) := by
  refine rd_enter (by decide +kernel) (Nat.le_of_ble_eq_true rfl) [rd_R 0] rfl (fun p e s m args below meth c C => ?_)
  refine rd_W.rng (fun hM hL _ => ?_)
  have hc1 := hI.1.1.1
  have hc2 := hI.1.1.2
  have hn1 := hI.2.2.2.2.1.1
  have hn2 := hI.2.2.2.2.1.2
  have htc := hI.1.2.2.2.1
  have hst := hI.1.2.2.2.2
  have hx1 := hI.2.2.2.1.1.1
  have hx2 := hI.2.2.2.1.1.2
  have hh1 := hI.2.2.1.2.1.1
  have hh2 := hI.2.2.1.2.1.2
  refine rd_aload_n C dX9_end_0 rfl ?_
  refine rd_get C rd_g9_0 rf_X9_10 dX9_end_1 rd_b0 rd_k0 (x := rd_R (1)) rfl (fun _ => trivial) ?_
  refine rd_get C rd_g8_0 rf_X9_145 dX9_end_4 rd_b1 rd_k1 (x := rd_I (μ 1 0)) rfl (fun h => h _ _) ?_
  exact rd_iret C dX9_end_7 (by first | exact ⟨(by first | assumption | omega | exact ⟨by assumption, by omega⟩ | exact ⟨by assumption, by assumption⟩ | exact ⟨by assumption, by assumption, by omega⟩ | exact ⟨by assumption, by omega, by omega⟩ | exact ⟨by assumption, by omega, by omega, by omega⟩ | exact Or.inl (by assumption) | exact Or.inr (by omega) | exact Or.inr (by assumption) | exact Or.inr (Or.inl (by assumption)) | exact Or.inr (Or.inr (by omega)) | trivial), rfl, rfl⟩)
set_option maxHeartbeats 4000000 in
set_option maxRecDepth 100000 in
theorem c_X9_slideAt {l : Launch} {G : rd_G} {r : Nat} {μ : rd_Mem} (hI : sp_inv μ) {p0 : Int} : rd_M l G rd_kc 313 r yX9_slideAt cX9_slideAt 3 (some .int) (rd_rm 1 21) [rd_R 0, rd_I p0] μ (fun v μ' => (p0 < 0 ∧ v = some (rd_I (-2)) ∧ μ' = μ) ∨ ((0 ≤ p0 ∧ sp_if (0 ≤ p0 ∧ p0 < μ 2 0) (μ 3 p0) (-1) = -1) ∧ v = some (rd_I (-6)) ∧ μ' = μ) ∨ ((0 ≤ p0 ∧ sp_if (0 ≤ p0 ∧ p0 < μ 2 0) (μ 3 p0) (-1) ≠ -1) ∧ v = some (rd_I (sp_if (0 ≤ p0 ∧ p0 < μ 2 0) (μ 3 p0) (-1))) ∧ μ' = μ)) := by
  refine rd_enter (by decide +kernel) (Nat.le_of_ble_eq_true rfl) [rd_R 0, rd_I p0, rd_J] rfl (fun p e s m args below meth c C => ?_)
  refine rd_W.rng (fun hM hL _ => ?_)
  have hc1 := hI.1.1.1
  have hc2 := hI.1.1.2
  have hn1 := hI.2.2.2.2.1.1
  have hn2 := hI.2.2.2.2.1.2
  have htc := hI.1.2.2.2.1
  have hst := hI.1.2.2.2.2
  have hx1 := hI.2.2.2.1.1.1
  have hx2 := hI.2.2.2.1.1.2
  have hh1 := hI.2.2.1.2.1.1
  have hh2 := hI.2.2.1.2.1.2
  refine rd_iload_n C dX9_slideAt_0 rfl ?_
  refine rd_if_ge C dX9_slideAt_1 (tgt := 7) (by decide) (fun h_1 => ?_) (fun h_1 => ?_)
  · refine rd_aload_n C dX9_slideAt_7 rfl ?_
    refine rd_get C rd_g9_0 rf_X9_10 dX9_slideAt_8 rd_b0 rd_k0 (x := rd_R (1)) rfl (fun _ => trivial) ?_
    refine rd_get C rd_g8_1 rf_X9_44 dX9_slideAt_11 rd_b1 rd_k1 (x := rd_R (2)) rfl (fun _ => trivial) ?_
    refine rd_iload_n C dX9_slideAt_14 rfl ?_
    refine rd_callV C (c_X0_numberAt hI.1.1) rm_X9_216 ri_X0_numberAt rs_X0_numberAt rc_X0_numberAt rz_X0 ⟨rp_X0_numberAt, rfl, rfl, by decide, by decide⟩ rfl rd_kcl0 dX9_slideAt_15 rd_b2 rd_k2 rfl (Nat.le_of_ble_eq_true rfl) (fun v1 w1 hq => ?_)
    obtain ⟨hv1, hm1⟩ := hq; rw [show v1 = some (rd_I (sp_if (0 ≤ p0 ∧ p0 < μ 2 0) (μ 3 p0) (-1))) from hv1, hm1]; clear hv1 hm1
    refine rd_istore_n C dX9_slideAt_18 (by decide) (L' := [rd_R 0, rd_I p0, rd_I (sp_if (0 ≤ p0 ∧ p0 < μ 2 0) (μ 3 p0) (-1))]) rfl ?_
    refine rd_iload_n C dX9_slideAt_19 rfl ?_
    refine rd_iconst C dX9_slideAt_20 (n := -1) ⟨by decide, by decide⟩ ?_
    refine rd_icmp_ne C dX9_slideAt_21 (tgt := 29) (by decide) (fun h_21 => ?_) (fun h_21 => ?_)
    · refine rd_iload_n C dX9_slideAt_29 rfl ?_
      exact rd_iret C dX9_slideAt_30 (by first | exact Or.inl ⟨(by first | assumption | omega | exact ⟨by assumption, by omega⟩ | exact ⟨by assumption, by assumption⟩ | exact ⟨by assumption, by assumption, by omega⟩ | exact ⟨by assumption, by omega, by omega⟩ | exact ⟨by assumption, by omega, by omega, by omega⟩ | exact Or.inl (by assumption) | exact Or.inr (by omega) | exact Or.inr (by assumption) | exact Or.inr (Or.inl (by assumption)) | exact Or.inr (Or.inr (by omega)) | trivial), rfl, rfl⟩ | exact Or.inr (Or.inl ⟨(by first | assumption | omega | exact ⟨by assumption, by omega⟩ | exact ⟨by assumption, by assumption⟩ | exact ⟨by assumption, by assumption, by omega⟩ | exact ⟨by assumption, by omega, by omega⟩ | exact ⟨by assumption, by omega, by omega, by omega⟩ | exact Or.inl (by assumption) | exact Or.inr (by omega) | exact Or.inr (by assumption) | exact Or.inr (Or.inl (by assumption)) | exact Or.inr (Or.inr (by omega)) | trivial), rfl, rfl⟩) | exact Or.inr (Or.inr (⟨(by first | assumption | omega | exact ⟨by assumption, by omega⟩ | exact ⟨by assumption, by assumption⟩ | exact ⟨by assumption, by assumption, by omega⟩ | exact ⟨by assumption, by omega, by omega⟩ | exact ⟨by assumption, by omega, by omega, by omega⟩ | exact Or.inl (by assumption) | exact Or.inr (by omega) | exact Or.inr (by assumption) | exact Or.inr (Or.inl (by assumption)) | exact Or.inr (Or.inr (by omega)) | trivial), rfl, rfl⟩)))
    · refine rd_bipush C dX9_slideAt_24 (n := -6) (by decide) ⟨by decide, by decide⟩ ?_
      refine rd_goto C dX9_slideAt_26 (tgt := 30) (by decide) ?_
      exact rd_iret C dX9_slideAt_30 (by first | exact Or.inl ⟨(by first | assumption | omega | exact ⟨by assumption, by omega⟩ | exact ⟨by assumption, by assumption⟩ | exact ⟨by assumption, by assumption, by omega⟩ | exact ⟨by assumption, by omega, by omega⟩ | exact ⟨by assumption, by omega, by omega, by omega⟩ | exact Or.inl (by assumption) | exact Or.inr (by omega) | exact Or.inr (by assumption) | exact Or.inr (Or.inl (by assumption)) | exact Or.inr (Or.inr (by omega)) | trivial), rfl, rfl⟩ | exact Or.inr (Or.inl ⟨(by first | assumption | omega | exact ⟨by assumption, by omega⟩ | exact ⟨by assumption, by assumption⟩ | exact ⟨by assumption, by assumption, by omega⟩ | exact ⟨by assumption, by omega, by omega⟩ | exact ⟨by assumption, by omega, by omega, by omega⟩ | exact Or.inl (by assumption) | exact Or.inr (by omega) | exact Or.inr (by assumption) | exact Or.inr (Or.inl (by assumption)) | exact Or.inr (Or.inr (by omega)) | trivial), rfl, rfl⟩) | exact Or.inr (Or.inr (⟨(by first | assumption | omega | exact ⟨by assumption, by omega⟩ | exact ⟨by assumption, by assumption⟩ | exact ⟨by assumption, by assumption, by omega⟩ | exact ⟨by assumption, by omega, by omega⟩ | exact ⟨by assumption, by omega, by omega, by omega⟩ | exact Or.inl (by assumption) | exact Or.inr (by omega) | exact Or.inr (by assumption) | exact Or.inr (Or.inl (by assumption)) | exact Or.inr (Or.inr (by omega)) | trivial), rfl, rfl⟩)))
  · refine rd_bipush C dX9_slideAt_4 (n := -2) (by decide) ⟨by decide, by decide⟩ ?_
    exact rd_iret C dX9_slideAt_6 (by first | exact Or.inl ⟨(by first | assumption | omega | exact ⟨by assumption, by omega⟩ | exact ⟨by assumption, by assumption⟩ | exact ⟨by assumption, by assumption, by omega⟩ | exact ⟨by assumption, by omega, by omega⟩ | exact ⟨by assumption, by omega, by omega, by omega⟩ | exact Or.inl (by assumption) | exact Or.inr (by omega) | exact Or.inr (by assumption) | exact Or.inr (Or.inl (by assumption)) | exact Or.inr (Or.inr (by omega)) | trivial), rfl, rfl⟩ | exact Or.inr (Or.inl ⟨(by first | assumption | omega | exact ⟨by assumption, by omega⟩ | exact ⟨by assumption, by assumption⟩ | exact ⟨by assumption, by assumption, by omega⟩ | exact ⟨by assumption, by omega, by omega⟩ | exact ⟨by assumption, by omega, by omega, by omega⟩ | exact Or.inl (by assumption) | exact Or.inr (by omega) | exact Or.inr (by assumption) | exact Or.inr (Or.inl (by assumption)) | exact Or.inr (Or.inr (by omega)) | trivial), rfl, rfl⟩) | exact Or.inr (Or.inr (⟨(by first | assumption | omega | exact ⟨by assumption, by omega⟩ | exact ⟨by assumption, by assumption⟩ | exact ⟨by assumption, by assumption, by omega⟩ | exact ⟨by assumption, by omega, by omega⟩ | exact ⟨by assumption, by omega, by omega, by omega⟩ | exact Or.inl (by assumption) | exact Or.inr (by omega) | exact Or.inr (by assumption) | exact Or.inr (Or.inl (by assumption)) | exact Or.inr (Or.inr (by omega)) | trivial), rfl, rfl⟩)))
set_option maxHeartbeats 4000000 in
set_option maxRecDepth 100000 in
theorem c_X9_asNumber {l : Launch} {G : rd_G} {r : Nat} {μ : rd_Mem} {b0 : Int} : rd_M l G rd_kc 313 r yX9_asNumber cX9_asNumber 1 (some .int) (rd_rm 0 0) [rd_I b0] μ (fun v μ' => v = some (rd_I (if b0 = 0 then 0 else 1)) ∧ μ' = μ) := by
  refine rd_enter (by decide +kernel) (Nat.le_of_ble_eq_true rfl) [rd_I b0] rfl (fun p e s m args below meth c C => ?_)
  refine rd_W.rng (fun hM hL _ => ?_)
  refine rd_iload_n C dX9_asNumber_0 rfl ?_
  refine rd_if_eq C dX9_asNumber_1 (tgt := 8) (by decide) (fun h_1 => ?_) (fun h_1 => ?_)
  · refine rd_iconst C dX9_asNumber_8 (n := 0) ⟨by decide, by decide⟩ ?_
    exact rd_iret C dX9_asNumber_9 (by first | exact ⟨by rw [if_pos (by omega)], rfl⟩ | exact ⟨by rw [if_neg (by omega)], rfl⟩)
  · refine rd_iconst C dX9_asNumber_4 (n := 1) ⟨by decide, by decide⟩ ?_
    refine rd_goto C dX9_asNumber_5 (tgt := 9) (by decide) ?_
    exact rd_iret C dX9_asNumber_9 (by first | exact ⟨by rw [if_pos (by omega)], rfl⟩ | exact ⟨by rw [if_neg (by omega)], rfl⟩)
set_option maxHeartbeats 4000000 in
set_option maxRecDepth 100000 in
theorem c_X9_slide {l : Launch} {G : rd_G} {r : Nat} {μ : rd_Mem} (hI : sp_inv μ) {x q0 : Int} : rd_M l G rd_kc 313 r yX9_slide cX9_slide 4 (some .int) (rd_rm 2 62) [rd_R 0, rd_I x, rd_I q0] μ (fun v μ' => (¬ sp_th μ x ∧ v = some (rd_I (-1)) ∧ μ' = μ) ∨ ((sp_th μ x ∧ (q0 < 0 ∨ 5 < q0)) ∧ v = some (rd_I (-2)) ∧ μ' = μ) ∨ ((sp_th μ x ∧ q0 = 0) ∧ v = some (rd_I (sp_pl μ x)) ∧ μ' = μ) ∨ ((sp_th μ x ∧ q0 = 1) ∧ v = some (rd_I (if μ (5 + 5 * x) 1 = 0 then 0 else 1)) ∧ μ' = μ) ∨ ((sp_th μ x ∧ q0 = 2) ∧ v = some (rd_I (μ (5 + 5 * x) 2)) ∧ μ' = μ) ∨ ((sp_th μ x ∧ q0 = 3) ∧ v = some (rd_I (μ (5 + 5 * x) 3)) ∧ μ' = μ) ∨ ((sp_th μ x ∧ q0 = 4) ∧ v = some (rd_I (sp_FS μ x)) ∧ μ' = μ) ∨ ((sp_th μ x ∧ q0 = 5) ∧ v = some (rd_I (sp_lk (μ (5 + 5 * x + 4)) 10)) ∧ μ' = μ)) := by
  refine rd_enter (by decide +kernel) (Nat.le_of_ble_eq_true rfl) [rd_R 0, rd_I x, rd_I q0, rd_J] rfl (fun p e s m args below meth c C => ?_)
  refine rd_W.rng (fun hM hL _ => ?_)
  have hc1 := hI.1.1.1
  have hc2 := hI.1.1.2
  have hn1 := hI.2.2.2.2.1.1
  have hn2 := hI.2.2.2.2.1.2
  have htc := hI.1.2.2.2.1
  have hst := hI.1.2.2.2.2
  have hx1 := hI.2.2.2.1.1.1
  have hx2 := hI.2.2.2.1.1.2
  have hh1 := hI.2.2.1.2.1.1
  have hh2 := hI.2.2.1.2.1.2
  refine rd_aload_n C dX9_slide_0 rfl ?_
  refine rd_get C rd_g9_0 rf_X9_10 dX9_slide_1 rd_b0 rd_k0 (x := rd_R (1)) rfl (fun _ => trivial) ?_
  refine rd_get C rd_g8_1 rf_X9_44 dX9_slide_4 rd_b1 rd_k1 (x := rd_R (2)) rfl (fun _ => trivial) ?_
  refine rd_iload_n C dX9_slide_7 rfl ?_
  refine rd_callV C (c_X0_find) rm_X9_62 ri_X0_find rs_X0_find rc_X0_find rz_X0 ⟨rp_X0_find, rfl, rfl, by decide, by decide⟩ rfl rd_kcl0 dX9_slide_8 rd_b2 rd_k2 rfl (Nat.le_of_ble_eq_true rfl) (fun v1 w1 hq => ?_)
  rcases hq with ⟨hw_11, hv1, hm1⟩ | ⟨hw_11, hv1, hm1⟩
  · rw [hv1, hm1]; clear hv1 hm1 v1 w1
    have hS_x := rd_sl1 hw_11.1.1 hw_11.1.2
    have hr_x := hw_11.1
    have hit_x := hI.1.2.1 x hw_11.1.1 hw_11.1.2
    refine rd_astore_n C dX9_slide_11 (by decide) (L' := [rd_R 0, rd_I x, rd_I q0, rd_R (5 + 5 * x)]) rfl ?_
    refine rd_aload_n C dX9_slide_12 rfl ?_
    refine rd_ifnonnull_r C dX9_slide_13 (tgt := 18) (by decide) ?_
    refine rd_iload_n C dX9_slide_18 rfl ?_
    have h_19 : q0 = 0 ∨ q0 = 1 ∨ q0 = 2 ∨ q0 = 3 ∨ q0 = 4 ∨ q0 = 5 ∨ (q0 < 0 ∨ 5 < q0) := by omega
    rcases h_19 with h_19 | h_19 | h_19 | h_19 | h_19 | h_19 | h_19
    · refine rd_swIn C dX9_slide_19 (by omega) (by omega) (off := 37) (by rw [h_19]; rfl) (tgt := 56) (by decide) ?_
      refine rd_aload_n C dX9_slide_56 rfl ?_
      refine rd_get C rd_g9_0 rf_X9_10 dX9_slide_57 rd_b0 rd_k0 (x := rd_R (1)) rfl (fun _ => trivial) ?_
      refine rd_get C rd_g8_1 rf_X9_44 dX9_slide_60 rd_b1 rd_k1 (x := rd_R (2)) rfl (fun _ => trivial) ?_
      refine rd_iload_n C dX9_slide_63 rfl ?_
      refine rd_callV C (c_X0_placeOf hI.1.1) rm_X9_86 ri_X0_placeOf rs_X0_placeOf rc_X0_placeOf rz_X0 ⟨rp_X0_placeOf, rfl, rfl, by decide, by decide⟩ rfl rd_kcl0 dX9_slide_64 rd_b2 rd_k2 rfl (Nat.le_of_ble_eq_true rfl) (fun v1 w1 hq => ?_)
      obtain ⟨hv1, hm1⟩ := hq; rw [show v1 = some (rd_I (sp_pl μ x)) from hv1, hm1]; clear hv1 hm1
      exact rd_iret C dX9_slide_67 (by first | exact Or.inl ⟨(by first | assumption | omega | exact ⟨by assumption, by omega⟩ | exact ⟨by assumption, by assumption⟩ | exact ⟨by assumption, by assumption, by omega⟩ | exact ⟨by assumption, by omega, by omega⟩ | exact ⟨by assumption, by omega, by omega, by omega⟩ | exact Or.inl (by assumption) | exact Or.inr (by omega) | exact Or.inr (by assumption) | exact Or.inr (Or.inl (by assumption)) | exact Or.inr (Or.inr (by omega)) | trivial), rfl, rfl⟩ | exact Or.inr (Or.inl ⟨(by first | assumption | omega | exact ⟨by assumption, by omega⟩ | exact ⟨by assumption, by assumption⟩ | exact ⟨by assumption, by assumption, by omega⟩ | exact ⟨by assumption, by omega, by omega⟩ | exact ⟨by assumption, by omega, by omega, by omega⟩ | exact Or.inl (by assumption) | exact Or.inr (by omega) | exact Or.inr (by assumption) | exact Or.inr (Or.inl (by assumption)) | exact Or.inr (Or.inr (by omega)) | trivial), rfl, rfl⟩) | exact Or.inr (Or.inr (Or.inl ⟨(by first | assumption | omega | exact ⟨by assumption, by omega⟩ | exact ⟨by assumption, by assumption⟩ | exact ⟨by assumption, by assumption, by omega⟩ | exact ⟨by assumption, by omega, by omega⟩ | exact ⟨by assumption, by omega, by omega, by omega⟩ | exact Or.inl (by assumption) | exact Or.inr (by omega) | exact Or.inr (by assumption) | exact Or.inr (Or.inl (by assumption)) | exact Or.inr (Or.inr (by omega)) | trivial), rfl, rfl⟩)) | exact Or.inr (Or.inr (Or.inr (Or.inl ⟨(by first | assumption | omega | exact ⟨by assumption, by omega⟩ | exact ⟨by assumption, by assumption⟩ | exact ⟨by assumption, by assumption, by omega⟩ | exact ⟨by assumption, by omega, by omega⟩ | exact ⟨by assumption, by omega, by omega, by omega⟩ | exact Or.inl (by assumption) | exact Or.inr (by omega) | exact Or.inr (by assumption) | exact Or.inr (Or.inl (by assumption)) | exact Or.inr (Or.inr (by omega)) | trivial), rfl, rfl⟩))) | exact Or.inr (Or.inr (Or.inr (Or.inr (Or.inl ⟨(by first | assumption | omega | exact ⟨by assumption, by omega⟩ | exact ⟨by assumption, by assumption⟩ | exact ⟨by assumption, by assumption, by omega⟩ | exact ⟨by assumption, by omega, by omega⟩ | exact ⟨by assumption, by omega, by omega, by omega⟩ | exact Or.inl (by assumption) | exact Or.inr (by omega) | exact Or.inr (by assumption) | exact Or.inr (Or.inl (by assumption)) | exact Or.inr (Or.inr (by omega)) | trivial), rfl, rfl⟩)))) | exact Or.inr (Or.inr (Or.inr (Or.inr (Or.inr (Or.inl ⟨(by first | assumption | omega | exact ⟨by assumption, by omega⟩ | exact ⟨by assumption, by assumption⟩ | exact ⟨by assumption, by assumption, by omega⟩ | exact ⟨by assumption, by omega, by omega⟩ | exact ⟨by assumption, by omega, by omega, by omega⟩ | exact Or.inl (by assumption) | exact Or.inr (by omega) | exact Or.inr (by assumption) | exact Or.inr (Or.inl (by assumption)) | exact Or.inr (Or.inr (by omega)) | trivial), rfl, rfl⟩))))) | exact Or.inr (Or.inr (Or.inr (Or.inr (Or.inr (Or.inr (Or.inl ⟨(by first | assumption | omega | exact ⟨by assumption, by omega⟩ | exact ⟨by assumption, by assumption⟩ | exact ⟨by assumption, by assumption, by omega⟩ | exact ⟨by assumption, by omega, by omega⟩ | exact ⟨by assumption, by omega, by omega, by omega⟩ | exact Or.inl (by assumption) | exact Or.inr (by omega) | exact Or.inr (by assumption) | exact Or.inr (Or.inl (by assumption)) | exact Or.inr (Or.inr (by omega)) | trivial), rfl, rfl⟩)))))) | exact Or.inr (Or.inr (Or.inr (Or.inr (Or.inr (Or.inr (Or.inr (⟨(by first | assumption | omega | exact ⟨by assumption, by omega⟩ | exact ⟨by assumption, by assumption⟩ | exact ⟨by assumption, by assumption, by omega⟩ | exact ⟨by assumption, by omega, by omega⟩ | exact ⟨by assumption, by omega, by omega, by omega⟩ | exact Or.inl (by assumption) | exact Or.inr (by omega) | exact Or.inr (by assumption) | exact Or.inr (Or.inl (by assumption)) | exact Or.inr (Or.inr (by omega)) | trivial), rfl, rfl⟩))))))))
    · refine rd_swIn C dX9_slide_19 (by omega) (by omega) (off := 49) (by rw [h_19]; rfl) (tgt := 68) (by decide) ?_
      refine rd_aload_n C dX9_slide_68 rfl ?_
      refine rd_get C rd_g7_1 rf_X9_97 dX9_slide_69 hS_x.1 hS_x.2.2.2.2.2.1 (x := rd_I (μ (5 + 5 * x) 1)) rfl (fun h => h _ _) ?_
      refine rd_callS C (c_X9_asNumber) rm_X9_219 rt_X9_asNumber rc_X9_asNumber rz_X9 ⟨rp_X9_asNumber, rfl, rfl, by decide, by decide⟩ rfl dX9_slide_72 rfl (Nat.le_of_ble_eq_true rfl) (fun v1 w1 hq => ?_)
      obtain ⟨hv1, hm1⟩ := hq; rw [hv1, hm1]; clear hv1 hm1 v1 w1
      exact rd_iret C dX9_slide_75 (by first | exact Or.inl ⟨(by first | assumption | omega | exact ⟨by assumption, by omega⟩ | exact ⟨by assumption, by assumption⟩ | exact ⟨by assumption, by assumption, by omega⟩ | exact ⟨by assumption, by omega, by omega⟩ | exact ⟨by assumption, by omega, by omega, by omega⟩ | exact Or.inl (by assumption) | exact Or.inr (by omega) | exact Or.inr (by assumption) | exact Or.inr (Or.inl (by assumption)) | exact Or.inr (Or.inr (by omega)) | trivial), rfl, rfl⟩ | exact Or.inr (Or.inl ⟨(by first | assumption | omega | exact ⟨by assumption, by omega⟩ | exact ⟨by assumption, by assumption⟩ | exact ⟨by assumption, by assumption, by omega⟩ | exact ⟨by assumption, by omega, by omega⟩ | exact ⟨by assumption, by omega, by omega, by omega⟩ | exact Or.inl (by assumption) | exact Or.inr (by omega) | exact Or.inr (by assumption) | exact Or.inr (Or.inl (by assumption)) | exact Or.inr (Or.inr (by omega)) | trivial), rfl, rfl⟩) | exact Or.inr (Or.inr (Or.inl ⟨(by first | assumption | omega | exact ⟨by assumption, by omega⟩ | exact ⟨by assumption, by assumption⟩ | exact ⟨by assumption, by assumption, by omega⟩ | exact ⟨by assumption, by omega, by omega⟩ | exact ⟨by assumption, by omega, by omega, by omega⟩ | exact Or.inl (by assumption) | exact Or.inr (by omega) | exact Or.inr (by assumption) | exact Or.inr (Or.inl (by assumption)) | exact Or.inr (Or.inr (by omega)) | trivial), rfl, rfl⟩)) | exact Or.inr (Or.inr (Or.inr (Or.inl ⟨(by first | assumption | omega | exact ⟨by assumption, by omega⟩ | exact ⟨by assumption, by assumption⟩ | exact ⟨by assumption, by assumption, by omega⟩ | exact ⟨by assumption, by omega, by omega⟩ | exact ⟨by assumption, by omega, by omega, by omega⟩ | exact Or.inl (by assumption) | exact Or.inr (by omega) | exact Or.inr (by assumption) | exact Or.inr (Or.inl (by assumption)) | exact Or.inr (Or.inr (by omega)) | trivial), rfl, rfl⟩))) | exact Or.inr (Or.inr (Or.inr (Or.inr (Or.inl ⟨(by first | assumption | omega | exact ⟨by assumption, by omega⟩ | exact ⟨by assumption, by assumption⟩ | exact ⟨by assumption, by assumption, by omega⟩ | exact ⟨by assumption, by omega, by omega⟩ | exact ⟨by assumption, by omega, by omega, by omega⟩ | exact Or.inl (by assumption) | exact Or.inr (by omega) | exact Or.inr (by assumption) | exact Or.inr (Or.inl (by assumption)) | exact Or.inr (Or.inr (by omega)) | trivial), rfl, rfl⟩)))) | exact Or.inr (Or.inr (Or.inr (Or.inr (Or.inr (Or.inl ⟨(by first | assumption | omega | exact ⟨by assumption, by omega⟩ | exact ⟨by assumption, by assumption⟩ | exact ⟨by assumption, by assumption, by omega⟩ | exact ⟨by assumption, by omega, by omega⟩ | exact ⟨by assumption, by omega, by omega, by omega⟩ | exact Or.inl (by assumption) | exact Or.inr (by omega) | exact Or.inr (by assumption) | exact Or.inr (Or.inl (by assumption)) | exact Or.inr (Or.inr (by omega)) | trivial), rfl, rfl⟩))))) | exact Or.inr (Or.inr (Or.inr (Or.inr (Or.inr (Or.inr (Or.inl ⟨(by first | assumption | omega | exact ⟨by assumption, by omega⟩ | exact ⟨by assumption, by assumption⟩ | exact ⟨by assumption, by assumption, by omega⟩ | exact ⟨by assumption, by omega, by omega⟩ | exact ⟨by assumption, by omega, by omega, by omega⟩ | exact Or.inl (by assumption) | exact Or.inr (by omega) | exact Or.inr (by assumption) | exact Or.inr (Or.inl (by assumption)) | exact Or.inr (Or.inr (by omega)) | trivial), rfl, rfl⟩)))))) | exact Or.inr (Or.inr (Or.inr (Or.inr (Or.inr (Or.inr (Or.inr (⟨(by first | assumption | omega | exact ⟨by assumption, by omega⟩ | exact ⟨by assumption, by assumption⟩ | exact ⟨by assumption, by assumption, by omega⟩ | exact ⟨by assumption, by omega, by omega⟩ | exact ⟨by assumption, by omega, by omega, by omega⟩ | exact Or.inl (by assumption) | exact Or.inr (by omega) | exact Or.inr (by assumption) | exact Or.inr (Or.inl (by assumption)) | exact Or.inr (Or.inr (by omega)) | trivial), rfl, rfl⟩))))))))
    · refine rd_swIn C dX9_slide_19 (by omega) (by omega) (off := 57) (by rw [h_19]; rfl) (tgt := 76) (by decide) ?_
      refine rd_aload_n C dX9_slide_76 rfl ?_
      refine rd_get C rd_g7_2 rf_X9_106 dX9_slide_77 hS_x.1 hS_x.2.2.2.2.2.1 (x := rd_I (μ (5 + 5 * x) 2)) rfl (fun h => h _ _) ?_
      exact rd_iret C dX9_slide_80 (by first | exact Or.inl ⟨(by first | assumption | omega | exact ⟨by assumption, by omega⟩ | exact ⟨by assumption, by assumption⟩ | exact ⟨by assumption, by assumption, by omega⟩ | exact ⟨by assumption, by omega, by omega⟩ | exact ⟨by assumption, by omega, by omega, by omega⟩ | exact Or.inl (by assumption) | exact Or.inr (by omega) | exact Or.inr (by assumption) | exact Or.inr (Or.inl (by assumption)) | exact Or.inr (Or.inr (by omega)) | trivial), rfl, rfl⟩ | exact Or.inr (Or.inl ⟨(by first | assumption | omega | exact ⟨by assumption, by omega⟩ | exact ⟨by assumption, by assumption⟩ | exact ⟨by assumption, by assumption, by omega⟩ | exact ⟨by assumption, by omega, by omega⟩ | exact ⟨by assumption, by omega, by omega, by omega⟩ | exact Or.inl (by assumption) | exact Or.inr (by omega) | exact Or.inr (by assumption) | exact Or.inr (Or.inl (by assumption)) | exact Or.inr (Or.inr (by omega)) | trivial), rfl, rfl⟩) | exact Or.inr (Or.inr (Or.inl ⟨(by first | assumption | omega | exact ⟨by assumption, by omega⟩ | exact ⟨by assumption, by assumption⟩ | exact ⟨by assumption, by assumption, by omega⟩ | exact ⟨by assumption, by omega, by omega⟩ | exact ⟨by assumption, by omega, by omega, by omega⟩ | exact Or.inl (by assumption) | exact Or.inr (by omega) | exact Or.inr (by assumption) | exact Or.inr (Or.inl (by assumption)) | exact Or.inr (Or.inr (by omega)) | trivial), rfl, rfl⟩)) | exact Or.inr (Or.inr (Or.inr (Or.inl ⟨(by first | assumption | omega | exact ⟨by assumption, by omega⟩ | exact ⟨by assumption, by assumption⟩ | exact ⟨by assumption, by assumption, by omega⟩ | exact ⟨by assumption, by omega, by omega⟩ | exact ⟨by assumption, by omega, by omega, by omega⟩ | exact Or.inl (by assumption) | exact Or.inr (by omega) | exact Or.inr (by assumption) | exact Or.inr (Or.inl (by assumption)) | exact Or.inr (Or.inr (by omega)) | trivial), rfl, rfl⟩))) | exact Or.inr (Or.inr (Or.inr (Or.inr (Or.inl ⟨(by first | assumption | omega | exact ⟨by assumption, by omega⟩ | exact ⟨by assumption, by assumption⟩ | exact ⟨by assumption, by assumption, by omega⟩ | exact ⟨by assumption, by omega, by omega⟩ | exact ⟨by assumption, by omega, by omega, by omega⟩ | exact Or.inl (by assumption) | exact Or.inr (by omega) | exact Or.inr (by assumption) | exact Or.inr (Or.inl (by assumption)) | exact Or.inr (Or.inr (by omega)) | trivial), rfl, rfl⟩)))) | exact Or.inr (Or.inr (Or.inr (Or.inr (Or.inr (Or.inl ⟨(by first | assumption | omega | exact ⟨by assumption, by omega⟩ | exact ⟨by assumption, by assumption⟩ | exact ⟨by assumption, by assumption, by omega⟩ | exact ⟨by assumption, by omega, by omega⟩ | exact ⟨by assumption, by omega, by omega, by omega⟩ | exact Or.inl (by assumption) | exact Or.inr (by omega) | exact Or.inr (by assumption) | exact Or.inr (Or.inl (by assumption)) | exact Or.inr (Or.inr (by omega)) | trivial), rfl, rfl⟩))))) | exact Or.inr (Or.inr (Or.inr (Or.inr (Or.inr (Or.inr (Or.inl ⟨(by first | assumption | omega | exact ⟨by assumption, by omega⟩ | exact ⟨by assumption, by assumption⟩ | exact ⟨by assumption, by assumption, by omega⟩ | exact ⟨by assumption, by omega, by omega⟩ | exact ⟨by assumption, by omega, by omega, by omega⟩ | exact Or.inl (by assumption) | exact Or.inr (by omega) | exact Or.inr (by assumption) | exact Or.inr (Or.inl (by assumption)) | exact Or.inr (Or.inr (by omega)) | trivial), rfl, rfl⟩)))))) | exact Or.inr (Or.inr (Or.inr (Or.inr (Or.inr (Or.inr (Or.inr (⟨(by first | assumption | omega | exact ⟨by assumption, by omega⟩ | exact ⟨by assumption, by assumption⟩ | exact ⟨by assumption, by assumption, by omega⟩ | exact ⟨by assumption, by omega, by omega⟩ | exact ⟨by assumption, by omega, by omega, by omega⟩ | exact Or.inl (by assumption) | exact Or.inr (by omega) | exact Or.inr (by assumption) | exact Or.inr (Or.inl (by assumption)) | exact Or.inr (Or.inr (by omega)) | trivial), rfl, rfl⟩))))))))
    · refine rd_swIn C dX9_slide_19 (by omega) (by omega) (off := 62) (by rw [h_19]; rfl) (tgt := 81) (by decide) ?_
      refine rd_aload_n C dX9_slide_81 rfl ?_
      refine rd_get C rd_g7_3 rf_X9_109 dX9_slide_82 hS_x.1 hS_x.2.2.2.2.2.1 (x := rd_I (μ (5 + 5 * x) 3)) rfl (fun h => h _ _) ?_
      exact rd_iret C dX9_slide_85 (by first | exact Or.inl ⟨(by first | assumption | omega | exact ⟨by assumption, by omega⟩ | exact ⟨by assumption, by assumption⟩ | exact ⟨by assumption, by assumption, by omega⟩ | exact ⟨by assumption, by omega, by omega⟩ | exact ⟨by assumption, by omega, by omega, by omega⟩ | exact Or.inl (by assumption) | exact Or.inr (by omega) | exact Or.inr (by assumption) | exact Or.inr (Or.inl (by assumption)) | exact Or.inr (Or.inr (by omega)) | trivial), rfl, rfl⟩ | exact Or.inr (Or.inl ⟨(by first | assumption | omega | exact ⟨by assumption, by omega⟩ | exact ⟨by assumption, by assumption⟩ | exact ⟨by assumption, by assumption, by omega⟩ | exact ⟨by assumption, by omega, by omega⟩ | exact ⟨by assumption, by omega, by omega, by omega⟩ | exact Or.inl (by assumption) | exact Or.inr (by omega) | exact Or.inr (by assumption) | exact Or.inr (Or.inl (by assumption)) | exact Or.inr (Or.inr (by omega)) | trivial), rfl, rfl⟩) | exact Or.inr (Or.inr (Or.inl ⟨(by first | assumption | omega | exact ⟨by assumption, by omega⟩ | exact ⟨by assumption, by assumption⟩ | exact ⟨by assumption, by assumption, by omega⟩ | exact ⟨by assumption, by omega, by omega⟩ | exact ⟨by assumption, by omega, by omega, by omega⟩ | exact Or.inl (by assumption) | exact Or.inr (by omega) | exact Or.inr (by assumption) | exact Or.inr (Or.inl (by assumption)) | exact Or.inr (Or.inr (by omega)) | trivial), rfl, rfl⟩)) | exact Or.inr (Or.inr (Or.inr (Or.inl ⟨(by first | assumption | omega | exact ⟨by assumption, by omega⟩ | exact ⟨by assumption, by assumption⟩ | exact ⟨by assumption, by assumption, by omega⟩ | exact ⟨by assumption, by omega, by omega⟩ | exact ⟨by assumption, by omega, by omega, by omega⟩ | exact Or.inl (by assumption) | exact Or.inr (by omega) | exact Or.inr (by assumption) | exact Or.inr (Or.inl (by assumption)) | exact Or.inr (Or.inr (by omega)) | trivial), rfl, rfl⟩))) | exact Or.inr (Or.inr (Or.inr (Or.inr (Or.inl ⟨(by first | assumption | omega | exact ⟨by assumption, by omega⟩ | exact ⟨by assumption, by assumption⟩ | exact ⟨by assumption, by assumption, by omega⟩ | exact ⟨by assumption, by omega, by omega⟩ | exact ⟨by assumption, by omega, by omega, by omega⟩ | exact Or.inl (by assumption) | exact Or.inr (by omega) | exact Or.inr (by assumption) | exact Or.inr (Or.inl (by assumption)) | exact Or.inr (Or.inr (by omega)) | trivial), rfl, rfl⟩)))) | exact Or.inr (Or.inr (Or.inr (Or.inr (Or.inr (Or.inl ⟨(by first | assumption | omega | exact ⟨by assumption, by omega⟩ | exact ⟨by assumption, by assumption⟩ | exact ⟨by assumption, by assumption, by omega⟩ | exact ⟨by assumption, by omega, by omega⟩ | exact ⟨by assumption, by omega, by omega, by omega⟩ | exact Or.inl (by assumption) | exact Or.inr (by omega) | exact Or.inr (by assumption) | exact Or.inr (Or.inl (by assumption)) | exact Or.inr (Or.inr (by omega)) | trivial), rfl, rfl⟩))))) | exact Or.inr (Or.inr (Or.inr (Or.inr (Or.inr (Or.inr (Or.inl ⟨(by first | assumption | omega | exact ⟨by assumption, by omega⟩ | exact ⟨by assumption, by assumption⟩ | exact ⟨by assumption, by assumption, by omega⟩ | exact ⟨by assumption, by omega, by omega⟩ | exact ⟨by assumption, by omega, by omega, by omega⟩ | exact Or.inl (by assumption) | exact Or.inr (by omega) | exact Or.inr (by assumption) | exact Or.inr (Or.inl (by assumption)) | exact Or.inr (Or.inr (by omega)) | trivial), rfl, rfl⟩)))))) | exact Or.inr (Or.inr (Or.inr (Or.inr (Or.inr (Or.inr (Or.inr (⟨(by first | assumption | omega | exact ⟨by assumption, by omega⟩ | exact ⟨by assumption, by assumption⟩ | exact ⟨by assumption, by assumption, by omega⟩ | exact ⟨by assumption, by omega, by omega⟩ | exact ⟨by assumption, by omega, by omega, by omega⟩ | exact Or.inl (by assumption) | exact Or.inr (by omega) | exact Or.inr (by assumption) | exact Or.inr (Or.inl (by assumption)) | exact Or.inr (Or.inr (by omega)) | trivial), rfl, rfl⟩))))))))
    · refine rd_swIn C dX9_slide_19 (by omega) (by omega) (off := 67) (by rw [h_19]; rfl) (tgt := 86) (by decide) ?_
      refine rd_aload_n C dX9_slide_86 rfl ?_
      refine rd_callV C (c_X7_finalStep hS_x hit_x.1 hit_x.2) rm_X9_223 ri_X7_finalStep rs_X7_finalStep rc_X7_finalStep rz_X7 ⟨rp_X7_finalStep, rfl, rfl, by decide, by decide⟩ rfl rd_kcl7 dX9_slide_87 hS_x.1 hS_x.2.2.2.2.2.1 rfl (Nat.le_of_ble_eq_true rfl) (fun v1 w1 hq => ?_)
      obtain ⟨hv1, hm1⟩ := hq; rw [show v1 = some (rd_I (sp_FS μ x)) from hv1, hm1]; clear hv1 hm1
      exact rd_iret C dX9_slide_90 (by first | exact Or.inl ⟨(by first | assumption | omega | exact ⟨by assumption, by omega⟩ | exact ⟨by assumption, by assumption⟩ | exact ⟨by assumption, by assumption, by omega⟩ | exact ⟨by assumption, by omega, by omega⟩ | exact ⟨by assumption, by omega, by omega, by omega⟩ | exact Or.inl (by assumption) | exact Or.inr (by omega) | exact Or.inr (by assumption) | exact Or.inr (Or.inl (by assumption)) | exact Or.inr (Or.inr (by omega)) | trivial), rfl, rfl⟩ | exact Or.inr (Or.inl ⟨(by first | assumption | omega | exact ⟨by assumption, by omega⟩ | exact ⟨by assumption, by assumption⟩ | exact ⟨by assumption, by assumption, by omega⟩ | exact ⟨by assumption, by omega, by omega⟩ | exact ⟨by assumption, by omega, by omega, by omega⟩ | exact Or.inl (by assumption) | exact Or.inr (by omega) | exact Or.inr (by assumption) | exact Or.inr (Or.inl (by assumption)) | exact Or.inr (Or.inr (by omega)) | trivial), rfl, rfl⟩) | exact Or.inr (Or.inr (Or.inl ⟨(by first | assumption | omega | exact ⟨by assumption, by omega⟩ | exact ⟨by assumption, by assumption⟩ | exact ⟨by assumption, by assumption, by omega⟩ | exact ⟨by assumption, by omega, by omega⟩ | exact ⟨by assumption, by omega, by omega, by omega⟩ | exact Or.inl (by assumption) | exact Or.inr (by omega) | exact Or.inr (by assumption) | exact Or.inr (Or.inl (by assumption)) | exact Or.inr (Or.inr (by omega)) | trivial), rfl, rfl⟩)) | exact Or.inr (Or.inr (Or.inr (Or.inl ⟨(by first | assumption | omega | exact ⟨by assumption, by omega⟩ | exact ⟨by assumption, by assumption⟩ | exact ⟨by assumption, by assumption, by omega⟩ | exact ⟨by assumption, by omega, by omega⟩ | exact ⟨by assumption, by omega, by omega, by omega⟩ | exact Or.inl (by assumption) | exact Or.inr (by omega) | exact Or.inr (by assumption) | exact Or.inr (Or.inl (by assumption)) | exact Or.inr (Or.inr (by omega)) | trivial), rfl, rfl⟩))) | exact Or.inr (Or.inr (Or.inr (Or.inr (Or.inl ⟨(by first | assumption | omega | exact ⟨by assumption, by omega⟩ | exact ⟨by assumption, by assumption⟩ | exact ⟨by assumption, by assumption, by omega⟩ | exact ⟨by assumption, by omega, by omega⟩ | exact ⟨by assumption, by omega, by omega, by omega⟩ | exact Or.inl (by assumption) | exact Or.inr (by omega) | exact Or.inr (by assumption) | exact Or.inr (Or.inl (by assumption)) | exact Or.inr (Or.inr (by omega)) | trivial), rfl, rfl⟩)))) | exact Or.inr (Or.inr (Or.inr (Or.inr (Or.inr (Or.inl ⟨(by first | assumption | omega | exact ⟨by assumption, by omega⟩ | exact ⟨by assumption, by assumption⟩ | exact ⟨by assumption, by assumption, by omega⟩ | exact ⟨by assumption, by omega, by omega⟩ | exact ⟨by assumption, by omega, by omega, by omega⟩ | exact Or.inl (by assumption) | exact Or.inr (by omega) | exact Or.inr (by assumption) | exact Or.inr (Or.inl (by assumption)) | exact Or.inr (Or.inr (by omega)) | trivial), rfl, rfl⟩))))) | exact Or.inr (Or.inr (Or.inr (Or.inr (Or.inr (Or.inr (Or.inl ⟨(by first | assumption | omega | exact ⟨by assumption, by omega⟩ | exact ⟨by assumption, by assumption⟩ | exact ⟨by assumption, by assumption, by omega⟩ | exact ⟨by assumption, by omega, by omega⟩ | exact ⟨by assumption, by omega, by omega, by omega⟩ | exact Or.inl (by assumption) | exact Or.inr (by omega) | exact Or.inr (by assumption) | exact Or.inr (Or.inl (by assumption)) | exact Or.inr (Or.inr (by omega)) | trivial), rfl, rfl⟩)))))) | exact Or.inr (Or.inr (Or.inr (Or.inr (Or.inr (Or.inr (Or.inr (⟨(by first | assumption | omega | exact ⟨by assumption, by omega⟩ | exact ⟨by assumption, by assumption⟩ | exact ⟨by assumption, by assumption, by omega⟩ | exact ⟨by assumption, by omega, by omega⟩ | exact ⟨by assumption, by omega, by omega, by omega⟩ | exact Or.inl (by assumption) | exact Or.inr (by omega) | exact Or.inr (by assumption) | exact Or.inr (Or.inl (by assumption)) | exact Or.inr (Or.inr (by omega)) | trivial), rfl, rfl⟩))))))))
    · refine rd_swIn C dX9_slide_19 (by omega) (by omega) (off := 72) (by rw [h_19]; rfl) (tgt := 91) (by decide) ?_
      refine rd_aload_n C dX9_slide_91 rfl ?_
      refine rd_callV C (c_X7_countLinks hS_x) rm_X9_125 ri_X7_countLinks rs_X7_countLinks rc_X7_countLinks rz_X7 ⟨rp_X7_countLinks, rfl, rfl, by decide, by decide⟩ rfl rd_kcl7 dX9_slide_92 hS_x.1 hS_x.2.2.2.2.2.1 rfl (Nat.le_of_ble_eq_true rfl) (fun v1 w1 hq => ?_)
      obtain ⟨hv1, hm1⟩ := hq; rw [show v1 = some (rd_I (sp_lk (μ (5 + 5 * x + 4)) 10)) from hv1, hm1]; clear hv1 hm1
      exact rd_iret C dX9_slide_95 (by first | exact Or.inl ⟨(by first | assumption | omega | exact ⟨by assumption, by omega⟩ | exact ⟨by assumption, by assumption⟩ | exact ⟨by assumption, by assumption, by omega⟩ | exact ⟨by assumption, by omega, by omega⟩ | exact ⟨by assumption, by omega, by omega, by omega⟩ | exact Or.inl (by assumption) | exact Or.inr (by omega) | exact Or.inr (by assumption) | exact Or.inr (Or.inl (by assumption)) | exact Or.inr (Or.inr (by omega)) | trivial), rfl, rfl⟩ | exact Or.inr (Or.inl ⟨(by first | assumption | omega | exact ⟨by assumption, by omega⟩ | exact ⟨by assumption, by assumption⟩ | exact ⟨by assumption, by assumption, by omega⟩ | exact ⟨by assumption, by omega, by omega⟩ | exact ⟨by assumption, by omega, by omega, by omega⟩ | exact Or.inl (by assumption) | exact Or.inr (by omega) | exact Or.inr (by assumption) | exact Or.inr (Or.inl (by assumption)) | exact Or.inr (Or.inr (by omega)) | trivial), rfl, rfl⟩) | exact Or.inr (Or.inr (Or.inl ⟨(by first | assumption | omega | exact ⟨by assumption, by omega⟩ | exact ⟨by assumption, by assumption⟩ | exact ⟨by assumption, by assumption, by omega⟩ | exact ⟨by assumption, by omega, by omega⟩ | exact ⟨by assumption, by omega, by omega, by omega⟩ | exact Or.inl (by assumption) | exact Or.inr (by omega) | exact Or.inr (by assumption) | exact Or.inr (Or.inl (by assumption)) | exact Or.inr (Or.inr (by omega)) | trivial), rfl, rfl⟩)) | exact Or.inr (Or.inr (Or.inr (Or.inl ⟨(by first | assumption | omega | exact ⟨by assumption, by omega⟩ | exact ⟨by assumption, by assumption⟩ | exact ⟨by assumption, by assumption, by omega⟩ | exact ⟨by assumption, by omega, by omega⟩ | exact ⟨by assumption, by omega, by omega, by omega⟩ | exact Or.inl (by assumption) | exact Or.inr (by omega) | exact Or.inr (by assumption) | exact Or.inr (Or.inl (by assumption)) | exact Or.inr (Or.inr (by omega)) | trivial), rfl, rfl⟩))) | exact Or.inr (Or.inr (Or.inr (Or.inr (Or.inl ⟨(by first | assumption | omega | exact ⟨by assumption, by omega⟩ | exact ⟨by assumption, by assumption⟩ | exact ⟨by assumption, by assumption, by omega⟩ | exact ⟨by assumption, by omega, by omega⟩ | exact ⟨by assumption, by omega, by omega, by omega⟩ | exact Or.inl (by assumption) | exact Or.inr (by omega) | exact Or.inr (by assumption) | exact Or.inr (Or.inl (by assumption)) | exact Or.inr (Or.inr (by omega)) | trivial), rfl, rfl⟩)))) | exact Or.inr (Or.inr (Or.inr (Or.inr (Or.inr (Or.inl ⟨(by first | assumption | omega | exact ⟨by assumption, by omega⟩ | exact ⟨by assumption, by assumption⟩ | exact ⟨by assumption, by assumption, by omega⟩ | exact ⟨by assumption, by omega, by omega⟩ | exact ⟨by assumption, by omega, by omega, by omega⟩ | exact Or.inl (by assumption) | exact Or.inr (by omega) | exact Or.inr (by assumption) | exact Or.inr (Or.inl (by assumption)) | exact Or.inr (Or.inr (by omega)) | trivial), rfl, rfl⟩))))) | exact Or.inr (Or.inr (Or.inr (Or.inr (Or.inr (Or.inr (Or.inl ⟨(by first | assumption | omega | exact ⟨by assumption, by omega⟩ | exact ⟨by assumption, by assumption⟩ | exact ⟨by assumption, by assumption, by omega⟩ | exact ⟨by assumption, by omega, by omega⟩ | exact ⟨by assumption, by omega, by omega, by omega⟩ | exact Or.inl (by assumption) | exact Or.inr (by omega) | exact Or.inr (by assumption) | exact Or.inr (Or.inl (by assumption)) | exact Or.inr (Or.inr (by omega)) | trivial), rfl, rfl⟩)))))) | exact Or.inr (Or.inr (Or.inr (Or.inr (Or.inr (Or.inr (Or.inr (⟨(by first | assumption | omega | exact ⟨by assumption, by omega⟩ | exact ⟨by assumption, by assumption⟩ | exact ⟨by assumption, by assumption, by omega⟩ | exact ⟨by assumption, by omega, by omega⟩ | exact ⟨by assumption, by omega, by omega, by omega⟩ | exact Or.inl (by assumption) | exact Or.inr (by omega) | exact Or.inr (by assumption) | exact Or.inr (Or.inl (by assumption)) | exact Or.inr (Or.inr (by omega)) | trivial), rfl, rfl⟩))))))))
    · refine rd_swOut C dX9_slide_19 h_19 (tgt := 96) (by decide) ?_
      refine rd_bipush C dX9_slide_96 (n := -2) (by decide) ⟨by decide, by decide⟩ ?_
      exact rd_iret C dX9_slide_98 (by first | exact Or.inl ⟨(by first | assumption | omega | exact ⟨by assumption, by omega⟩ | exact ⟨by assumption, by assumption⟩ | exact ⟨by assumption, by assumption, by omega⟩ | exact ⟨by assumption, by omega, by omega⟩ | exact ⟨by assumption, by omega, by omega, by omega⟩ | exact Or.inl (by assumption) | exact Or.inr (by omega) | exact Or.inr (by assumption) | exact Or.inr (Or.inl (by assumption)) | exact Or.inr (Or.inr (by omega)) | trivial), rfl, rfl⟩ | exact Or.inr (Or.inl ⟨(by first | assumption | omega | exact ⟨by assumption, by omega⟩ | exact ⟨by assumption, by assumption⟩ | exact ⟨by assumption, by assumption, by omega⟩ | exact ⟨by assumption, by omega, by omega⟩ | exact ⟨by assumption, by omega, by omega, by omega⟩ | exact Or.inl (by assumption) | exact Or.inr (by omega) | exact Or.inr (by assumption) | exact Or.inr (Or.inl (by assumption)) | exact Or.inr (Or.inr (by omega)) | trivial), rfl, rfl⟩) | exact Or.inr (Or.inr (Or.inl ⟨(by first | assumption | omega | exact ⟨by assumption, by omega⟩ | exact ⟨by assumption, by assumption⟩ | exact ⟨by assumption, by assumption, by omega⟩ | exact ⟨by assumption, by omega, by omega⟩ | exact ⟨by assumption, by omega, by omega, by omega⟩ | exact Or.inl (by assumption) | exact Or.inr (by omega) | exact Or.inr (by assumption) | exact Or.inr (Or.inl (by assumption)) | exact Or.inr (Or.inr (by omega)) | trivial), rfl, rfl⟩)) | exact Or.inr (Or.inr (Or.inr (Or.inl ⟨(by first | assumption | omega | exact ⟨by assumption, by omega⟩ | exact ⟨by assumption, by assumption⟩ | exact ⟨by assumption, by assumption, by omega⟩ | exact ⟨by assumption, by omega, by omega⟩ | exact ⟨by assumption, by omega, by omega, by omega⟩ | exact Or.inl (by assumption) | exact Or.inr (by omega) | exact Or.inr (by assumption) | exact Or.inr (Or.inl (by assumption)) | exact Or.inr (Or.inr (by omega)) | trivial), rfl, rfl⟩))) | exact Or.inr (Or.inr (Or.inr (Or.inr (Or.inl ⟨(by first | assumption | omega | exact ⟨by assumption, by omega⟩ | exact ⟨by assumption, by assumption⟩ | exact ⟨by assumption, by assumption, by omega⟩ | exact ⟨by assumption, by omega, by omega⟩ | exact ⟨by assumption, by omega, by omega, by omega⟩ | exact Or.inl (by assumption) | exact Or.inr (by omega) | exact Or.inr (by assumption) | exact Or.inr (Or.inl (by assumption)) | exact Or.inr (Or.inr (by omega)) | trivial), rfl, rfl⟩)))) | exact Or.inr (Or.inr (Or.inr (Or.inr (Or.inr (Or.inl ⟨(by first | assumption | omega | exact ⟨by assumption, by omega⟩ | exact ⟨by assumption, by assumption⟩ | exact ⟨by assumption, by assumption, by omega⟩ | exact ⟨by assumption, by omega, by omega⟩ | exact ⟨by assumption, by omega, by omega, by omega⟩ | exact Or.inl (by assumption) | exact Or.inr (by omega) | exact Or.inr (by assumption) | exact Or.inr (Or.inl (by assumption)) | exact Or.inr (Or.inr (by omega)) | trivial), rfl, rfl⟩))))) | exact Or.inr (Or.inr (Or.inr (Or.inr (Or.inr (Or.inr (Or.inl ⟨(by first | assumption | omega | exact ⟨by assumption, by omega⟩ | exact ⟨by assumption, by assumption⟩ | exact ⟨by assumption, by assumption, by omega⟩ | exact ⟨by assumption, by omega, by omega⟩ | exact ⟨by assumption, by omega, by omega, by omega⟩ | exact Or.inl (by assumption) | exact Or.inr (by omega) | exact Or.inr (by assumption) | exact Or.inr (Or.inl (by assumption)) | exact Or.inr (Or.inr (by omega)) | trivial), rfl, rfl⟩)))))) | exact Or.inr (Or.inr (Or.inr (Or.inr (Or.inr (Or.inr (Or.inr (⟨(by first | assumption | omega | exact ⟨by assumption, by omega⟩ | exact ⟨by assumption, by assumption⟩ | exact ⟨by assumption, by assumption, by omega⟩ | exact ⟨by assumption, by omega, by omega⟩ | exact ⟨by assumption, by omega, by omega, by omega⟩ | exact Or.inl (by assumption) | exact Or.inr (by omega) | exact Or.inr (by assumption) | exact Or.inr (Or.inl (by assumption)) | exact Or.inr (Or.inr (by omega)) | trivial), rfl, rfl⟩))))))))
  · rw [hv1, hm1]; clear hv1 hm1 v1 w1
    refine rd_astore_nN C dX9_slide_11 (by decide) (L' := [rd_R 0, rd_I x, rd_I q0, rd_N]) rfl ?_
    refine rd_aload_n C dX9_slide_12 rfl ?_
    refine rd_ifnonnull_n C dX9_slide_13 ?_
    refine rd_iconst C dX9_slide_16 (n := -1) ⟨by decide, by decide⟩ ?_
    exact rd_iret C dX9_slide_17 (by first | exact Or.inl ⟨(by first | assumption | omega | exact ⟨by assumption, by omega⟩ | exact ⟨by assumption, by assumption⟩ | exact ⟨by assumption, by assumption, by omega⟩ | exact ⟨by assumption, by omega, by omega⟩ | exact ⟨by assumption, by omega, by omega, by omega⟩ | exact Or.inl (by assumption) | exact Or.inr (by omega) | exact Or.inr (by assumption) | exact Or.inr (Or.inl (by assumption)) | exact Or.inr (Or.inr (by omega)) | trivial), rfl, rfl⟩ | exact Or.inr (Or.inl ⟨(by first | assumption | omega | exact ⟨by assumption, by omega⟩ | exact ⟨by assumption, by assumption⟩ | exact ⟨by assumption, by assumption, by omega⟩ | exact ⟨by assumption, by omega, by omega⟩ | exact ⟨by assumption, by omega, by omega, by omega⟩ | exact Or.inl (by assumption) | exact Or.inr (by omega) | exact Or.inr (by assumption) | exact Or.inr (Or.inl (by assumption)) | exact Or.inr (Or.inr (by omega)) | trivial), rfl, rfl⟩) | exact Or.inr (Or.inr (Or.inl ⟨(by first | assumption | omega | exact ⟨by assumption, by omega⟩ | exact ⟨by assumption, by assumption⟩ | exact ⟨by assumption, by assumption, by omega⟩ | exact ⟨by assumption, by omega, by omega⟩ | exact ⟨by assumption, by omega, by omega, by omega⟩ | exact Or.inl (by assumption) | exact Or.inr (by omega) | exact Or.inr (by assumption) | exact Or.inr (Or.inl (by assumption)) | exact Or.inr (Or.inr (by omega)) | trivial), rfl, rfl⟩)) | exact Or.inr (Or.inr (Or.inr (Or.inl ⟨(by first | assumption | omega | exact ⟨by assumption, by omega⟩ | exact ⟨by assumption, by assumption⟩ | exact ⟨by assumption, by assumption, by omega⟩ | exact ⟨by assumption, by omega, by omega⟩ | exact ⟨by assumption, by omega, by omega, by omega⟩ | exact Or.inl (by assumption) | exact Or.inr (by omega) | exact Or.inr (by assumption) | exact Or.inr (Or.inl (by assumption)) | exact Or.inr (Or.inr (by omega)) | trivial), rfl, rfl⟩))) | exact Or.inr (Or.inr (Or.inr (Or.inr (Or.inl ⟨(by first | assumption | omega | exact ⟨by assumption, by omega⟩ | exact ⟨by assumption, by assumption⟩ | exact ⟨by assumption, by assumption, by omega⟩ | exact ⟨by assumption, by omega, by omega⟩ | exact ⟨by assumption, by omega, by omega, by omega⟩ | exact Or.inl (by assumption) | exact Or.inr (by omega) | exact Or.inr (by assumption) | exact Or.inr (Or.inl (by assumption)) | exact Or.inr (Or.inr (by omega)) | trivial), rfl, rfl⟩)))) | exact Or.inr (Or.inr (Or.inr (Or.inr (Or.inr (Or.inl ⟨(by first | assumption | omega | exact ⟨by assumption, by omega⟩ | exact ⟨by assumption, by assumption⟩ | exact ⟨by assumption, by assumption, by omega⟩ | exact ⟨by assumption, by omega, by omega⟩ | exact ⟨by assumption, by omega, by omega, by omega⟩ | exact Or.inl (by assumption) | exact Or.inr (by omega) | exact Or.inr (by assumption) | exact Or.inr (Or.inl (by assumption)) | exact Or.inr (Or.inr (by omega)) | trivial), rfl, rfl⟩))))) | exact Or.inr (Or.inr (Or.inr (Or.inr (Or.inr (Or.inr (Or.inl ⟨(by first | assumption | omega | exact ⟨by assumption, by omega⟩ | exact ⟨by assumption, by assumption⟩ | exact ⟨by assumption, by assumption, by omega⟩ | exact ⟨by assumption, by omega, by omega⟩ | exact ⟨by assumption, by omega, by omega, by omega⟩ | exact Or.inl (by assumption) | exact Or.inr (by omega) | exact Or.inr (by assumption) | exact Or.inr (Or.inl (by assumption)) | exact Or.inr (Or.inr (by omega)) | trivial), rfl, rfl⟩)))))) | exact Or.inr (Or.inr (Or.inr (Or.inr (Or.inr (Or.inr (Or.inr (⟨(by first | assumption | omega | exact ⟨by assumption, by omega⟩ | exact ⟨by assumption, by assumption⟩ | exact ⟨by assumption, by assumption, by omega⟩ | exact ⟨by assumption, by omega, by omega⟩ | exact ⟨by assumption, by omega, by omega, by omega⟩ | exact Or.inl (by assumption) | exact Or.inr (by omega) | exact Or.inr (by assumption) | exact Or.inr (Or.inl (by assumption)) | exact Or.inr (Or.inr (by omega)) | trivial), rfl, rfl⟩))))))))
set_option maxHeartbeats 4000000 in
set_option maxRecDepth 100000 in
theorem c_X9_item {l : Launch} {G : rd_G} {r : Nat} {μ : rd_Mem} (hI : sp_inv μ) {x p0 q0 : Int} : rd_M l G rd_kc 313 r yX9_item cX9_item 5 (some .int) (rd_rm 1 22) [rd_R 0, rd_I x, rd_I p0, rd_I q0] μ (fun v μ' => ((¬ sp_th μ x ∨ p0 < 0 ∨ μ (5 + 5 * x) 3 - 1 < p0) ∧ v = some (rd_I (-1)) ∧ μ' = μ) ∨ ((sp_th μ x ∧ (0 ≤ p0 ∧ p0 ≤ μ (5 + 5 * x) 3 - 1) ∧ (q0 < 0 ∨ 2 < q0)) ∧ v = some (rd_I (-2)) ∧ μ' = μ) ∨ ((sp_th μ x ∧ (0 ≤ p0 ∧ p0 ≤ μ (5 + 5 * x) 3 - 1) ∧ q0 = 0) ∧ v = some (rd_I (μ (5 + 5 * x + 1) p0)) ∧ μ' = μ) ∨ ((sp_th μ x ∧ (0 ≤ p0 ∧ p0 ≤ μ (5 + 5 * x) 3 - 1) ∧ q0 = 1) ∧ v = some (rd_I (if μ (5 + 5 * x + 2) p0 = -1 then -6 else μ (5 + 5 * x + 2) p0)) ∧ μ' = μ) ∨ ((sp_th μ x ∧ (0 ≤ p0 ∧ p0 ≤ μ (5 + 5 * x) 3 - 1) ∧ q0 = 2) ∧ v = some (rd_I (μ (5 + 5 * x + 3) p0)) ∧ μ' = μ)) := by
  refine rd_enter (by decide +kernel) (Nat.le_of_ble_eq_true rfl) [rd_R 0, rd_I x, rd_I p0, rd_I q0, rd_J] rfl (fun p e s m args below meth c C => ?_)
  refine rd_W.rng (fun hM hL _ => ?_)
  have hc1 := hI.1.1.1
  have hc2 := hI.1.1.2
  have hn1 := hI.2.2.2.2.1.1
  have hn2 := hI.2.2.2.2.1.2
  have htc := hI.1.2.2.2.1
  have hst := hI.1.2.2.2.2
  have hx1 := hI.2.2.2.1.1.1
  have hx2 := hI.2.2.2.1.1.2
  have hh1 := hI.2.2.1.2.1.1
  have hh2 := hI.2.2.1.2.1.2
  refine rd_aload_n C dX9_item_0 rfl ?_
  refine rd_get C rd_g9_0 rf_X9_10 dX9_item_1 rd_b0 rd_k0 (x := rd_R (1)) rfl (fun _ => trivial) ?_
  refine rd_get C rd_g8_1 rf_X9_44 dX9_item_4 rd_b1 rd_k1 (x := rd_R (2)) rfl (fun _ => trivial) ?_
  refine rd_iload_n C dX9_item_7 rfl ?_
  refine rd_callV C (c_X0_find) rm_X9_62 ri_X0_find rs_X0_find rc_X0_find rz_X0 ⟨rp_X0_find, rfl, rfl, by decide, by decide⟩ rfl rd_kcl0 dX9_item_8 rd_b2 rd_k2 rfl (Nat.le_of_ble_eq_true rfl) (fun v1 w1 hq => ?_)
  rcases hq with ⟨hw_11, hv1, hm1⟩ | ⟨hw_11, hv1, hm1⟩
  · rw [hv1, hm1]; clear hv1 hm1 v1 w1
    have hS_x := rd_sl1 hw_11.1.1 hw_11.1.2
    have hr_x := hw_11.1
    have hit_x := hI.1.2.1 x hw_11.1.1 hw_11.1.2
    refine rd_astore C dX9_item_11 (by decide) (L' := [rd_R 0, rd_I x, rd_I p0, rd_I q0, rd_R (5 + 5 * x)]) rfl ?_
    refine rd_aload C dX9_item_13 rfl ?_
    refine rd_ifnull_r C dX9_item_15 ?_
    refine rd_iload_n C dX9_item_18 rfl ?_
    refine rd_iconst C dX9_item_19 (n := 0) ⟨by decide, by decide⟩ ?_
    refine rd_aload C dX9_item_20 rfl ?_
    refine rd_get C rd_g7_3 rf_X9_109 dX9_item_22 hS_x.1 hS_x.2.2.2.2.2.1 (x := rd_I (μ (5 + 5 * x) 3)) rfl (fun h => h _ _) ?_
    refine rd_iconst C dX9_item_25 (n := 1) ⟨by decide, by decide⟩ ?_
    refine rd_isub C dX9_item_26 (z := μ (5 + 5 * x) 3 - 1) rfl ⟨by omega, by omega⟩ ?_
    refine rd_callS C (c_X9_isWithin) rm_X9_82 rt_X9_isWithin rc_X9_isWithin rz_X9 ⟨rp_X9_isWithin, rfl, rfl, by decide, by decide⟩ rfl dX9_item_27 rfl (Nat.le_of_ble_eq_true rfl) (fun v1 w1 hq => ?_)
    rcases hq with ⟨hw_30, hv1, hm1⟩ | ⟨hw_30, hv1, hm1⟩
    · rw [hv1, hm1]; clear hv1 hm1 v1 w1
      refine rd_if_ne C dX9_item_30 (tgt := 35) (by decide) (fun _ => ?_) (fun h => absurd h (by decide))
      refine rd_iload_n C dX9_item_35 rfl ?_
      have h_36 : q0 = 0 ∨ q0 = 1 ∨ q0 = 2 ∨ (q0 < 0 ∨ 2 < q0) := by omega
      rcases h_36 with h_36 | h_36 | h_36 | h_36
      · refine rd_swIn C dX9_item_36 (by omega) (by omega) (off := 28) (by rw [h_36]; rfl) (tgt := 64) (by decide) ?_
        refine rd_aload C dX9_item_64 rfl ?_
        refine rd_get C rd_g7_4 rf_X9_226 dX9_item_66 hS_x.1 hS_x.2.2.2.2.2.1 (x := rd_R (5 + 5 * x + 1)) rfl (fun _ => trivial) ?_
        refine rd_iload_n C dX9_item_69 rfl ?_
        refine rd_ialdx C rd_ai12 dX9_item_70 hS_x.2.1 hS_x.2.2.2.2.2.2.1 ⟨by omega, by omega⟩ (z := μ (5 + 5 * x + 1) p0) rfl ?_
        exact rd_iret C dX9_item_71 (by first | exact Or.inl ⟨(by first | exact Or.inl (by assumption) | exact Or.inr (by omega)), rfl, rfl⟩ | exact Or.inr (Or.inl ⟨⟨(by assumption), (by omega), (by omega)⟩, rfl, rfl⟩) | exact Or.inr (Or.inr (Or.inl ⟨⟨(by assumption), (by omega), (by omega)⟩, rfl, rfl⟩)) | exact Or.inr (Or.inr (Or.inr (Or.inl ⟨⟨(by assumption), (by omega), (by omega)⟩, (by first | rw [if_pos (by assumption)] | rw [if_neg (by assumption)]), rfl⟩))) | exact Or.inr (Or.inr (Or.inr (Or.inr ⟨⟨(by assumption), (by omega), (by omega)⟩, rfl, rfl⟩))))
      · refine rd_swIn C dX9_item_36 (by omega) (by omega) (off := 36) (by rw [h_36]; rfl) (tgt := 72) (by decide) ?_
        refine rd_aload C dX9_item_72 rfl ?_
        refine rd_get C rd_g7_5 rf_X9_230 dX9_item_74 hS_x.1 hS_x.2.2.2.2.2.1 (x := rd_R (5 + 5 * x + 2)) rfl (fun _ => trivial) ?_
        refine rd_iload_n C dX9_item_77 rfl ?_
        refine rd_ialdx C rd_ai12 dX9_item_78 hS_x.2.2.1 hS_x.2.2.2.2.2.2.2.1 ⟨by omega, by omega⟩ (z := μ (5 + 5 * x + 2) p0) rfl ?_
        refine rd_iconst C dX9_item_79 (n := -1) ⟨by decide, by decide⟩ ?_
        refine rd_icmp_ne C dX9_item_80 (tgt := 88) (by decide) (fun h_80 => ?_) (fun h_80 => ?_)
        · refine rd_aload C dX9_item_88 rfl ?_
          refine rd_get C rd_g7_5 rf_X9_230 dX9_item_90 hS_x.1 hS_x.2.2.2.2.2.1 (x := rd_R (5 + 5 * x + 2)) rfl (fun _ => trivial) ?_
          refine rd_iload_n C dX9_item_93 rfl ?_
          refine rd_ialdx C rd_ai12 dX9_item_94 hS_x.2.2.1 hS_x.2.2.2.2.2.2.2.1 ⟨by omega, by omega⟩ (z := μ (5 + 5 * x + 2) p0) rfl ?_
          exact rd_iret C dX9_item_95 (by first | exact Or.inl ⟨(by first | exact Or.inl (by assumption) | exact Or.inr (by omega)), rfl, rfl⟩ | exact Or.inr (Or.inl ⟨⟨(by assumption), (by omega), (by omega)⟩, rfl, rfl⟩) | exact Or.inr (Or.inr (Or.inl ⟨⟨(by assumption), (by omega), (by omega)⟩, rfl, rfl⟩)) | exact Or.inr (Or.inr (Or.inr (Or.inl ⟨⟨(by assumption), (by omega), (by omega)⟩, (by first | rw [if_pos (by assumption)] | rw [if_neg (by assumption)]), rfl⟩))) | exact Or.inr (Or.inr (Or.inr (Or.inr ⟨⟨(by assumption), (by omega), (by omega)⟩, rfl, rfl⟩))))
        · refine rd_bipush C dX9_item_83 (n := -6) (by decide) ⟨by decide, by decide⟩ ?_
          refine rd_goto C dX9_item_85 (tgt := 95) (by decide) ?_
          exact rd_iret C dX9_item_95 (by first | exact Or.inl ⟨(by first | exact Or.inl (by assumption) | exact Or.inr (by omega)), rfl, rfl⟩ | exact Or.inr (Or.inl ⟨⟨(by assumption), (by omega), (by omega)⟩, rfl, rfl⟩) | exact Or.inr (Or.inr (Or.inl ⟨⟨(by assumption), (by omega), (by omega)⟩, rfl, rfl⟩)) | exact Or.inr (Or.inr (Or.inr (Or.inl ⟨⟨(by assumption), (by omega), (by omega)⟩, (by first | rw [if_pos (by assumption)] | rw [if_neg (by assumption)]), rfl⟩))) | exact Or.inr (Or.inr (Or.inr (Or.inr ⟨⟨(by assumption), (by omega), (by omega)⟩, rfl, rfl⟩))))
      · refine rd_swIn C dX9_item_36 (by omega) (by omega) (off := 60) (by rw [h_36]; rfl) (tgt := 96) (by decide) ?_
        refine rd_aload C dX9_item_96 rfl ?_
        refine rd_get C rd_g7_6 rf_X9_233 dX9_item_98 hS_x.1 hS_x.2.2.2.2.2.1 (x := rd_R (5 + 5 * x + 3)) rfl (fun _ => trivial) ?_
        refine rd_iload_n C dX9_item_101 rfl ?_
        refine rd_ialdx C rd_ai12 dX9_item_102 hS_x.2.2.2.1 hS_x.2.2.2.2.2.2.2.2.1 ⟨by omega, by omega⟩ (z := μ (5 + 5 * x + 3) p0) rfl ?_
        exact rd_iret C dX9_item_103 (by first | exact Or.inl ⟨(by first | exact Or.inl (by assumption) | exact Or.inr (by omega)), rfl, rfl⟩ | exact Or.inr (Or.inl ⟨⟨(by assumption), (by omega), (by omega)⟩, rfl, rfl⟩) | exact Or.inr (Or.inr (Or.inl ⟨⟨(by assumption), (by omega), (by omega)⟩, rfl, rfl⟩)) | exact Or.inr (Or.inr (Or.inr (Or.inl ⟨⟨(by assumption), (by omega), (by omega)⟩, (by first | rw [if_pos (by assumption)] | rw [if_neg (by assumption)]), rfl⟩))) | exact Or.inr (Or.inr (Or.inr (Or.inr ⟨⟨(by assumption), (by omega), (by omega)⟩, rfl, rfl⟩))))
      · refine rd_swOut C dX9_item_36 h_36 (tgt := 104) (by decide) ?_
        refine rd_bipush C dX9_item_104 (n := -2) (by decide) ⟨by decide, by decide⟩ ?_
        exact rd_iret C dX9_item_106 (by first | exact Or.inl ⟨(by first | exact Or.inl (by assumption) | exact Or.inr (by omega)), rfl, rfl⟩ | exact Or.inr (Or.inl ⟨⟨(by assumption), (by omega), (by omega)⟩, rfl, rfl⟩) | exact Or.inr (Or.inr (Or.inl ⟨⟨(by assumption), (by omega), (by omega)⟩, rfl, rfl⟩)) | exact Or.inr (Or.inr (Or.inr (Or.inl ⟨⟨(by assumption), (by omega), (by omega)⟩, (by first | rw [if_pos (by assumption)] | rw [if_neg (by assumption)]), rfl⟩))) | exact Or.inr (Or.inr (Or.inr (Or.inr ⟨⟨(by assumption), (by omega), (by omega)⟩, rfl, rfl⟩))))
    · rw [hv1, hm1]; clear hv1 hm1 v1 w1
      refine rd_if_ne C dX9_item_30 (tgt := 35) (by decide) (fun h => absurd h (by decide)) (fun _ => ?_)
      refine rd_iconst C dX9_item_33 (n := -1) ⟨by decide, by decide⟩ ?_
      exact rd_iret C dX9_item_34 (by first | exact Or.inl ⟨(by first | exact Or.inl (by assumption) | exact Or.inr (by omega)), rfl, rfl⟩ | exact Or.inr (Or.inl ⟨⟨(by assumption), (by omega), (by omega)⟩, rfl, rfl⟩) | exact Or.inr (Or.inr (Or.inl ⟨⟨(by assumption), (by omega), (by omega)⟩, rfl, rfl⟩)) | exact Or.inr (Or.inr (Or.inr (Or.inl ⟨⟨(by assumption), (by omega), (by omega)⟩, (by first | rw [if_pos (by assumption)] | rw [if_neg (by assumption)]), rfl⟩))) | exact Or.inr (Or.inr (Or.inr (Or.inr ⟨⟨(by assumption), (by omega), (by omega)⟩, rfl, rfl⟩))))
  · rw [hv1, hm1]; clear hv1 hm1 v1 w1
    refine rd_astoreN C dX9_item_11 (by decide) (L' := [rd_R 0, rd_I x, rd_I p0, rd_I q0, rd_N]) rfl ?_
    refine rd_aload C dX9_item_13 rfl ?_
    refine rd_ifnull_n C dX9_item_15 (tgt := 33) (by decide) ?_
    refine rd_iconst C dX9_item_33 (n := -1) ⟨by decide, by decide⟩ ?_
    exact rd_iret C dX9_item_34 (by first | exact Or.inl ⟨(by first | exact Or.inl (by assumption) | exact Or.inr (by omega)), rfl, rfl⟩ | exact Or.inr (Or.inl ⟨⟨(by assumption), (by omega), (by omega)⟩, rfl, rfl⟩) | exact Or.inr (Or.inr (Or.inl ⟨⟨(by assumption), (by omega), (by omega)⟩, rfl, rfl⟩)) | exact Or.inr (Or.inr (Or.inr (Or.inl ⟨⟨(by assumption), (by omega), (by omega)⟩, (by first | rw [if_pos (by assumption)] | rw [if_neg (by assumption)]), rfl⟩))) | exact Or.inr (Or.inr (Or.inr (Or.inr ⟨⟨(by assumption), (by omega), (by omega)⟩, rfl, rfl⟩))))
set_option maxHeartbeats 4000000 in
set_option maxRecDepth 100000 in
theorem c_X9_target {l : Launch} {G : rd_G} {r : Nat} {μ : rd_Mem} (hI : sp_inv μ) {x k0 : Int} : rd_M l G rd_kc 313 r yX9_target cX9_target 5 (some .int) (rd_rm 2 43) [rd_R 0, rd_I x, rd_I k0] μ (fun v μ' => (¬ sp_th μ x ∧ v = some (rd_I (-1)) ∧ μ' = μ) ∨ ((sp_th μ x ∧ (k0 < 0 ∨ 9 < k0)) ∧ v = some (rd_I (-2)) ∧ μ' = μ) ∨ ((sp_th μ x ∧ (0 ≤ k0 ∧ k0 ≤ 9)) ∧ v = some (rd_I (if μ (5 + 5 * x + 4) k0 = -1 then -6 else μ (5 + 5 * x + 4) k0)) ∧ μ' = μ)) := by
  refine rd_enter (by decide +kernel) (Nat.le_of_ble_eq_true rfl) [rd_R 0, rd_I x, rd_I k0, rd_J, rd_J] rfl (fun p e s m args below meth c C => ?_)
  refine rd_W.rng (fun hM hL _ => ?_)
  have hc1 := hI.1.1.1
  have hc2 := hI.1.1.2
  have hn1 := hI.2.2.2.2.1.1
  have hn2 := hI.2.2.2.2.1.2
  have htc := hI.1.2.2.2.1
  have hst := hI.1.2.2.2.2
  have hx1 := hI.2.2.2.1.1.1
  have hx2 := hI.2.2.2.1.1.2
  have hh1 := hI.2.2.1.2.1.1
  have hh2 := hI.2.2.1.2.1.2
  refine rd_aload_n C dX9_target_0 rfl ?_
  refine rd_get C rd_g9_0 rf_X9_10 dX9_target_1 rd_b0 rd_k0 (x := rd_R (1)) rfl (fun _ => trivial) ?_
  refine rd_get C rd_g8_1 rf_X9_44 dX9_target_4 rd_b1 rd_k1 (x := rd_R (2)) rfl (fun _ => trivial) ?_
  refine rd_iload_n C dX9_target_7 rfl ?_
  refine rd_callV C (c_X0_find) rm_X9_62 ri_X0_find rs_X0_find rc_X0_find rz_X0 ⟨rp_X0_find, rfl, rfl, by decide, by decide⟩ rfl rd_kcl0 dX9_target_8 rd_b2 rd_k2 rfl (Nat.le_of_ble_eq_true rfl) (fun v1 w1 hq => ?_)
  rcases hq with ⟨hw_11, hv1, hm1⟩ | ⟨hw_11, hv1, hm1⟩
  · rw [hv1, hm1]; clear hv1 hm1 v1 w1
    have hS_x := rd_sl1 hw_11.1.1 hw_11.1.2
    have hr_x := hw_11.1
    have hit_x := hI.1.2.1 x hw_11.1.1 hw_11.1.2
    refine rd_astore_n C dX9_target_11 (by decide) (L' := [rd_R 0, rd_I x, rd_I k0, rd_R (5 + 5 * x), rd_J]) rfl ?_
    refine rd_aload_n C dX9_target_12 rfl ?_
    refine rd_ifnonnull_r C dX9_target_13 (tgt := 18) (by decide) ?_
    refine rd_iload_n C dX9_target_18 rfl ?_
    refine rd_iconst C dX9_target_19 (n := 0) ⟨by decide, by decide⟩ ?_
    refine rd_bipush C dX9_target_20 (n := 9) (by decide) ⟨by decide, by decide⟩ ?_
    refine rd_callS C (c_X9_isWithin) rm_X9_82 rt_X9_isWithin rc_X9_isWithin rz_X9 ⟨rp_X9_isWithin, rfl, rfl, by decide, by decide⟩ rfl dX9_target_22 rfl (Nat.le_of_ble_eq_true rfl) (fun v1 w1 hq => ?_)
    rcases hq with ⟨hw_25, hv1, hm1⟩ | ⟨hw_25, hv1, hm1⟩
    · rw [hv1, hm1]; clear hv1 hm1 v1 w1
      refine rd_if_ne C dX9_target_25 (tgt := 31) (by decide) (fun _ => ?_) (fun h => absurd h (by decide))
      refine rd_aload_n C dX9_target_31 rfl ?_
      refine rd_iload_n C dX9_target_32 rfl ?_
      refine rd_callV C (c_X7_targetOf hS_x) rm_X9_122 ri_X7_targetOf rs_X7_targetOf rc_X7_targetOf rz_X7 ⟨rp_X7_targetOf, rfl, rfl, by decide, by decide⟩ rfl rd_kcl7 dX9_target_33 hS_x.1 hS_x.2.2.2.2.2.1 rfl (Nat.le_of_ble_eq_true rfl) (fun v1 w1 hq => ?_)
      obtain ⟨hv1, hm1⟩ := hq; rw [hv1, hm1, sp_ift (by omega)]; clear hv1 hm1 v1 w1
      refine rd_istore C dX9_target_36 (by decide) (L' := [rd_R 0, rd_I x, rd_I k0, rd_R (5 + 5 * x), rd_I (μ (5 + 5 * x + 4) k0)]) rfl ?_
      refine rd_iload C dX9_target_38 rfl ?_
      refine rd_iconst C dX9_target_40 (n := -1) ⟨by decide, by decide⟩ ?_
      refine rd_icmp_ne C dX9_target_41 (tgt := 49) (by decide) (fun h_41 => ?_) (fun h_41 => ?_)
      · refine rd_iload C dX9_target_49 rfl ?_
        exact rd_iret C dX9_target_51 (by first | exact Or.inl ⟨(by assumption), rfl, rfl⟩ | exact Or.inr (Or.inl ⟨⟨(by assumption), (by omega)⟩, rfl, rfl⟩) | exact Or.inr (Or.inr ⟨⟨(by assumption), (by omega)⟩, (by first | rw [if_pos (by assumption)] | rw [if_neg (by assumption)]), rfl⟩))
      · refine rd_bipush C dX9_target_44 (n := -6) (by decide) ⟨by decide, by decide⟩ ?_
        refine rd_goto C dX9_target_46 (tgt := 51) (by decide) ?_
        exact rd_iret C dX9_target_51 (by first | exact Or.inl ⟨(by assumption), rfl, rfl⟩ | exact Or.inr (Or.inl ⟨⟨(by assumption), (by omega)⟩, rfl, rfl⟩) | exact Or.inr (Or.inr ⟨⟨(by assumption), (by omega)⟩, (by first | rw [if_pos (by assumption)] | rw [if_neg (by assumption)]), rfl⟩))
    · rw [hv1, hm1]; clear hv1 hm1 v1 w1
      refine rd_if_ne C dX9_target_25 (tgt := 31) (by decide) (fun h => absurd h (by decide)) (fun _ => ?_)
      refine rd_bipush C dX9_target_28 (n := -2) (by decide) ⟨by decide, by decide⟩ ?_
      exact rd_iret C dX9_target_30 (by first | exact Or.inl ⟨(by assumption), rfl, rfl⟩ | exact Or.inr (Or.inl ⟨⟨(by assumption), (by omega)⟩, rfl, rfl⟩) | exact Or.inr (Or.inr ⟨⟨(by assumption), (by omega)⟩, (by first | rw [if_pos (by assumption)] | rw [if_neg (by assumption)]), rfl⟩))
  · rw [hv1, hm1]; clear hv1 hm1 v1 w1
    refine rd_astore_nN C dX9_target_11 (by decide) (L' := [rd_R 0, rd_I x, rd_I k0, rd_N, rd_J]) rfl ?_
    refine rd_aload_n C dX9_target_12 rfl ?_
    refine rd_ifnonnull_n C dX9_target_13 ?_
    refine rd_iconst C dX9_target_16 (n := -1) ⟨by decide, by decide⟩ ?_
    exact rd_iret C dX9_target_17 (by first | exact Or.inl ⟨(by assumption), rfl, rfl⟩ | exact Or.inr (Or.inl ⟨⟨(by assumption), (by omega)⟩, rfl, rfl⟩) | exact Or.inr (Or.inr ⟨⟨(by assumption), (by omega)⟩, (by first | rw [if_pos (by assumption)] | rw [if_neg (by assumption)]), rfl⟩))
set_option maxHeartbeats 4000000 in
set_option maxRecDepth 100000 in
theorem c_X9_picture {l : Launch} {G : rd_G} {r : Nat} {μ : rd_Mem} (hI : sp_inv μ) {x t0 : Int} : rd_M l G rd_kc 313 r yX9_picture cX9_picture 4 (some .int) (rd_rm 2 45) [rd_R 0, rd_I x, rd_I t0] μ (fun v μ' => (¬ sp_th μ x ∧ v = some (rd_I (-1)) ∧ μ' = μ) ∨ ((sp_th μ x ∧ (t0 < 0 ∨ 9 < t0)) ∧ v = some (rd_I (-2)) ∧ μ' = μ) ∨ ((sp_th μ x ∧ (0 ≤ t0 ∧ t0 ≤ 9)) ∧ v = some (rd_I (sp_mask (μ (5 + 5 * x + 1)) (μ (5 + 5 * x + 2)) t0 (μ (5 + 5 * x) 3).toNat)) ∧ μ' = μ)) := by
  refine rd_enter (by decide +kernel) (Nat.le_of_ble_eq_true rfl) [rd_R 0, rd_I x, rd_I t0, rd_J] rfl (fun p e s m args below meth c C => ?_)
  refine rd_W.rng (fun hM hL _ => ?_)
  have hc1 := hI.1.1.1
  have hc2 := hI.1.1.2
  have hn1 := hI.2.2.2.2.1.1
  have hn2 := hI.2.2.2.2.1.2
  have htc := hI.1.2.2.2.1
  have hst := hI.1.2.2.2.2
  have hx1 := hI.2.2.2.1.1.1
  have hx2 := hI.2.2.2.1.1.2
  have hh1 := hI.2.2.1.2.1.1
  have hh2 := hI.2.2.1.2.1.2
  refine rd_aload_n C dX9_picture_0 rfl ?_
  refine rd_get C rd_g9_0 rf_X9_10 dX9_picture_1 rd_b0 rd_k0 (x := rd_R (1)) rfl (fun _ => trivial) ?_
  refine rd_get C rd_g8_1 rf_X9_44 dX9_picture_4 rd_b1 rd_k1 (x := rd_R (2)) rfl (fun _ => trivial) ?_
  refine rd_iload_n C dX9_picture_7 rfl ?_
  refine rd_callV C (c_X0_find) rm_X9_62 ri_X0_find rs_X0_find rc_X0_find rz_X0 ⟨rp_X0_find, rfl, rfl, by decide, by decide⟩ rfl rd_kcl0 dX9_picture_8 rd_b2 rd_k2 rfl (Nat.le_of_ble_eq_true rfl) (fun v1 w1 hq => ?_)
  rcases hq with ⟨hw_11, hv1, hm1⟩ | ⟨hw_11, hv1, hm1⟩
  · rw [hv1, hm1]; clear hv1 hm1 v1 w1
    have hS_x := rd_sl1 hw_11.1.1 hw_11.1.2
    have hr_x := hw_11.1
    have hit_x := hI.1.2.1 x hw_11.1.1 hw_11.1.2
    refine rd_astore_n C dX9_picture_11 (by decide) (L' := [rd_R 0, rd_I x, rd_I t0, rd_R (5 + 5 * x)]) rfl ?_
    refine rd_aload_n C dX9_picture_12 rfl ?_
    refine rd_ifnonnull_r C dX9_picture_13 (tgt := 18) (by decide) ?_
    refine rd_iload_n C dX9_picture_18 rfl ?_
    refine rd_iconst C dX9_picture_19 (n := 0) ⟨by decide, by decide⟩ ?_
    refine rd_bipush C dX9_picture_20 (n := 9) (by decide) ⟨by decide, by decide⟩ ?_
    refine rd_callS C (c_X9_isWithin) rm_X9_82 rt_X9_isWithin rc_X9_isWithin rz_X9 ⟨rp_X9_isWithin, rfl, rfl, by decide, by decide⟩ rfl dX9_picture_22 rfl (Nat.le_of_ble_eq_true rfl) (fun v1 w1 hq => ?_)
    rcases hq with ⟨hw_25, hv1, hm1⟩ | ⟨hw_25, hv1, hm1⟩
    · rw [hv1, hm1]; clear hv1 hm1 v1 w1
      refine rd_if_eq C dX9_picture_25 (tgt := 36) (by decide) (fun h => absurd h (by decide)) (fun _ => ?_)
      refine rd_aload_n C dX9_picture_28 rfl ?_
      refine rd_iload_n C dX9_picture_29 rfl ?_
      refine rd_callV C (c_X7_maskAt hS_x hit_x.1 hit_x.2) rm_X9_236 ri_X7_maskAt rs_X7_maskAt rc_X7_maskAt rz_X7 ⟨rp_X7_maskAt, rfl, rfl, by decide, by decide⟩ rfl rd_kcl7 dX9_picture_30 hS_x.1 hS_x.2.2.2.2.2.1 rfl (Nat.le_of_ble_eq_true rfl) (fun v1 w1 hq => ?_)
      obtain ⟨hv1, hm1⟩ := hq; rw [show v1 = some (rd_I (sp_mask (μ (5 + 5 * x + 1)) (μ (5 + 5 * x + 2)) t0 (μ (5 + 5 * x) 3).toNat)) from hv1, hm1]; clear hv1 hm1
      refine rd_goto C dX9_picture_33 (tgt := 38) (by decide) ?_
      exact rd_iret C dX9_picture_38 (by first | exact Or.inl ⟨(by first | assumption | omega | exact ⟨by assumption, by omega⟩ | exact ⟨by assumption, by assumption⟩ | exact ⟨by assumption, by assumption, by omega⟩ | exact ⟨by assumption, by omega, by omega⟩ | exact ⟨by assumption, by omega, by omega, by omega⟩ | exact Or.inl (by assumption) | exact Or.inr (by omega) | exact Or.inr (by assumption) | exact Or.inr (Or.inl (by assumption)) | exact Or.inr (Or.inr (by omega)) | trivial), rfl, rfl⟩ | exact Or.inr (Or.inl ⟨(by first | assumption | omega | exact ⟨by assumption, by omega⟩ | exact ⟨by assumption, by assumption⟩ | exact ⟨by assumption, by assumption, by omega⟩ | exact ⟨by assumption, by omega, by omega⟩ | exact ⟨by assumption, by omega, by omega, by omega⟩ | exact Or.inl (by assumption) | exact Or.inr (by omega) | exact Or.inr (by assumption) | exact Or.inr (Or.inl (by assumption)) | exact Or.inr (Or.inr (by omega)) | trivial), rfl, rfl⟩) | exact Or.inr (Or.inr (⟨(by first | assumption | omega | exact ⟨by assumption, by omega⟩ | exact ⟨by assumption, by assumption⟩ | exact ⟨by assumption, by assumption, by omega⟩ | exact ⟨by assumption, by omega, by omega⟩ | exact ⟨by assumption, by omega, by omega, by omega⟩ | exact Or.inl (by assumption) | exact Or.inr (by omega) | exact Or.inr (by assumption) | exact Or.inr (Or.inl (by assumption)) | exact Or.inr (Or.inr (by omega)) | trivial), rfl, rfl⟩)))
    · rw [hv1, hm1]; clear hv1 hm1 v1 w1
      refine rd_if_eq C dX9_picture_25 (tgt := 36) (by decide) (fun _ => ?_) (fun h => absurd h (by decide))
      refine rd_bipush C dX9_picture_36 (n := -2) (by decide) ⟨by decide, by decide⟩ ?_
      exact rd_iret C dX9_picture_38 (by first | exact Or.inl ⟨(by first | assumption | omega | exact ⟨by assumption, by omega⟩ | exact ⟨by assumption, by assumption⟩ | exact ⟨by assumption, by assumption, by omega⟩ | exact ⟨by assumption, by omega, by omega⟩ | exact ⟨by assumption, by omega, by omega, by omega⟩ | exact Or.inl (by assumption) | exact Or.inr (by omega) | exact Or.inr (by assumption) | exact Or.inr (Or.inl (by assumption)) | exact Or.inr (Or.inr (by omega)) | trivial), rfl, rfl⟩ | exact Or.inr (Or.inl ⟨(by first | assumption | omega | exact ⟨by assumption, by omega⟩ | exact ⟨by assumption, by assumption⟩ | exact ⟨by assumption, by assumption, by omega⟩ | exact ⟨by assumption, by omega, by omega⟩ | exact ⟨by assumption, by omega, by omega, by omega⟩ | exact Or.inl (by assumption) | exact Or.inr (by omega) | exact Or.inr (by assumption) | exact Or.inr (Or.inl (by assumption)) | exact Or.inr (Or.inr (by omega)) | trivial), rfl, rfl⟩) | exact Or.inr (Or.inr (⟨(by first | assumption | omega | exact ⟨by assumption, by omega⟩ | exact ⟨by assumption, by assumption⟩ | exact ⟨by assumption, by assumption, by omega⟩ | exact ⟨by assumption, by omega, by omega⟩ | exact ⟨by assumption, by omega, by omega, by omega⟩ | exact Or.inl (by assumption) | exact Or.inr (by omega) | exact Or.inr (by assumption) | exact Or.inr (Or.inl (by assumption)) | exact Or.inr (Or.inr (by omega)) | trivial), rfl, rfl⟩)))
  · rw [hv1, hm1]; clear hv1 hm1 v1 w1
    refine rd_astore_nN C dX9_picture_11 (by decide) (L' := [rd_R 0, rd_I x, rd_I t0, rd_N]) rfl ?_
    refine rd_aload_n C dX9_picture_12 rfl ?_
    refine rd_ifnonnull_n C dX9_picture_13 ?_
    refine rd_iconst C dX9_picture_16 (n := -1) ⟨by decide, by decide⟩ ?_
    exact rd_iret C dX9_picture_17 (by first | exact Or.inl ⟨(by first | assumption | omega | exact ⟨by assumption, by omega⟩ | exact ⟨by assumption, by assumption⟩ | exact ⟨by assumption, by assumption, by omega⟩ | exact ⟨by assumption, by omega, by omega⟩ | exact ⟨by assumption, by omega, by omega, by omega⟩ | exact Or.inl (by assumption) | exact Or.inr (by omega) | exact Or.inr (by assumption) | exact Or.inr (Or.inl (by assumption)) | exact Or.inr (Or.inr (by omega)) | trivial), rfl, rfl⟩ | exact Or.inr (Or.inl ⟨(by first | assumption | omega | exact ⟨by assumption, by omega⟩ | exact ⟨by assumption, by assumption⟩ | exact ⟨by assumption, by assumption, by omega⟩ | exact ⟨by assumption, by omega, by omega⟩ | exact ⟨by assumption, by omega, by omega, by omega⟩ | exact Or.inl (by assumption) | exact Or.inr (by omega) | exact Or.inr (by assumption) | exact Or.inr (Or.inl (by assumption)) | exact Or.inr (Or.inr (by omega)) | trivial), rfl, rfl⟩) | exact Or.inr (Or.inr (⟨(by first | assumption | omega | exact ⟨by assumption, by omega⟩ | exact ⟨by assumption, by assumption⟩ | exact ⟨by assumption, by assumption, by omega⟩ | exact ⟨by assumption, by omega, by omega⟩ | exact ⟨by assumption, by omega, by omega, by omega⟩ | exact Or.inl (by assumption) | exact Or.inr (by omega) | exact Or.inr (by assumption) | exact Or.inr (Or.inl (by assumption)) | exact Or.inr (Or.inr (by omega)) | trivial), rfl, rfl⟩)))
set_option maxHeartbeats 4000000 in
set_option maxRecDepth 100000 in
theorem c_X9_now {l : Launch} {G : rd_G} {r : Nat} {μ : rd_Mem} (hI : sp_inv μ) {q0 : Int} : rd_M l G rd_kc 313 r yX9_now cX9_now 2 (some .int) (rd_rm 2 42) [rd_R 0, rd_I q0] μ (fun v μ' => ((q0 < 0 ∨ 6 < q0) ∧ v = some (rd_I (-2)) ∧ μ' = μ) ∨ (((0 ≤ q0 ∧ q0 ≤ 6) ∧ ¬ sp_th μ (μ 58 0)) ∧ v = some (rd_I (-6)) ∧ μ' = μ) ∨ ((sp_th μ (μ 58 0) ∧ q0 = 0) ∧ v = some (rd_I (μ 58 0)) ∧ μ' = μ) ∨ ((sp_th μ (μ 58 0) ∧ q0 = 1) ∧ v = some (rd_I (μ 58 1)) ∧ μ' = μ) ∨ ((sp_th μ (μ 58 0) ∧ q0 = 2) ∧ v = some (rd_I (μ 58 3)) ∧ μ' = μ) ∨ ((sp_th μ (μ 58 0) ∧ q0 = 3) ∧ v = some (rd_I (μ 58 4)) ∧ μ' = μ) ∨ ((sp_th μ (μ 58 0) ∧ q0 = 4) ∧ v = some (rd_I (μ 58 5)) ∧ μ' = μ) ∨ ((sp_th μ (μ 58 0) ∧ q0 = 5 ∧ sp_over μ) ∧ v = some (rd_I (1)) ∧ μ' = μ) ∨ ((sp_th μ (μ 58 0) ∧ q0 = 5 ∧ ¬ sp_over μ) ∧ v = some (rd_I (0)) ∧ μ' = μ) ∨ ((sp_th μ (μ 58 0) ∧ q0 = 6) ∧ v = some (rd_I (μ 58 2)) ∧ μ' = μ)) := by
  refine rd_enter (by decide +kernel) (Nat.le_of_ble_eq_true rfl) [rd_R 0, rd_I q0] rfl (fun p e s m args below meth c C => ?_)
  refine rd_W.rng (fun hM hL _ => ?_)
  have hc1 := hI.1.1.1
  have hc2 := hI.1.1.2
  have hn1 := hI.2.2.2.2.1.1
  have hn2 := hI.2.2.2.2.1.2
  have htc := hI.1.2.2.2.1
  have hst := hI.1.2.2.2.2
  have hx1 := hI.2.2.2.1.1.1
  have hx2 := hI.2.2.2.1.1.2
  have hh1 := hI.2.2.1.2.1.1
  have hh2 := hI.2.2.1.2.1.2
  refine rd_iload_n C dX9_now_0 rfl ?_
  refine rd_iconst C dX9_now_1 (n := 0) ⟨by decide, by decide⟩ ?_
  refine rd_bipush C dX9_now_2 (n := 6) (by decide) ⟨by decide, by decide⟩ ?_
  refine rd_callS C (c_X9_isWithin) rm_X9_82 rt_X9_isWithin rc_X9_isWithin rz_X9 ⟨rp_X9_isWithin, rfl, rfl, by decide, by decide⟩ rfl dX9_now_4 rfl (Nat.le_of_ble_eq_true rfl) (fun v1 w1 hq => ?_)
  rcases hq with ⟨hw_7, hv1, hm1⟩ | ⟨hw_7, hv1, hm1⟩
  · rw [hv1, hm1]; clear hv1 hm1 v1 w1
    refine rd_if_ne C dX9_now_7 (tgt := 13) (by decide) (fun _ => ?_) (fun h => absurd h (by decide))
    refine rd_aload_n C dX9_now_13 rfl ?_
    refine rd_get C rd_g9_0 rf_X9_10 dX9_now_14 rd_b0 rd_k0 (x := rd_R (1)) rfl (fun _ => trivial) ?_
    refine rd_callV C (c_X8_here) rm_X9_154 ri_X8_here rs_X8_here rc_X8_here rz_X8 ⟨rp_X8_here, rfl, rfl, by decide, by decide⟩ rfl rd_kcl8 dX9_now_17 rd_b1 rd_k1 rfl (Nat.le_of_ble_eq_true rfl) (fun v1 w1 hq => ?_)
    rcases hq with ⟨hw_20, hv1, hm1⟩ | ⟨hw_20, hv1, hm1⟩
    · rw [hv1, hm1]; clear hv1 hm1 v1 w1
      have hS_h := rd_sl1 hw_20.1.1 hw_20.1.2
      have hrh := hw_20.1
      have hith := hI.1.2.1 _ hw_20.1.1 hw_20.1.2
      refine rd_ifnonnull_r C dX9_now_20 (tgt := 26) (by decide) ?_
      refine rd_iload_n C dX9_now_26 rfl ?_
      have h_27 : q0 = 0 ∨ q0 = 1 ∨ q0 = 2 ∨ q0 = 3 ∨ q0 = 4 ∨ q0 = 5 ∨ (q0 < 0 ∨ 5 < q0) := by omega
      rcases h_27 with h_27 | h_27 | h_27 | h_27 | h_27 | h_27 | h_27
      · refine rd_swIn C dX9_now_27 (by omega) (by omega) (off := 37) (by rw [h_27]; rfl) (tgt := 64) (by decide) ?_
        refine rd_aload_n C dX9_now_64 rfl ?_
        refine rd_get C rd_g9_0 rf_X9_10 dX9_now_65 rd_b0 rd_k0 (x := rd_R (1)) rfl (fun _ => trivial) ?_
        refine rd_get C rd_g8_3 rf_X9_66 dX9_now_68 rd_b1 rd_k1 (x := rd_R (58)) rfl (fun _ => trivial) ?_
        refine rd_get C rd_g6_0 rf_X9_70 dX9_now_71 rd_b58 rd_k58 (x := rd_I (μ 58 0)) rfl (fun h => h _ _) ?_
        exact rd_iret C dX9_now_74 (by first | exact Or.inl ⟨(by first | assumption | omega | exact ⟨by assumption, by omega⟩ | exact ⟨by assumption, by assumption⟩ | exact ⟨by assumption, by assumption, by omega⟩ | exact ⟨by assumption, by omega, by omega⟩ | exact ⟨by assumption, by omega, by omega, by omega⟩ | exact Or.inl (by assumption) | exact Or.inr (by omega) | exact Or.inr (by assumption) | exact Or.inr (Or.inl (by assumption)) | exact Or.inr (Or.inr (by omega)) | trivial), rfl, rfl⟩ | exact Or.inr (Or.inl ⟨(by first | assumption | omega | exact ⟨by assumption, by omega⟩ | exact ⟨by assumption, by assumption⟩ | exact ⟨by assumption, by assumption, by omega⟩ | exact ⟨by assumption, by omega, by omega⟩ | exact ⟨by assumption, by omega, by omega, by omega⟩ | exact Or.inl (by assumption) | exact Or.inr (by omega) | exact Or.inr (by assumption) | exact Or.inr (Or.inl (by assumption)) | exact Or.inr (Or.inr (by omega)) | trivial), rfl, rfl⟩) | exact Or.inr (Or.inr (Or.inl ⟨(by first | assumption | omega | exact ⟨by assumption, by omega⟩ | exact ⟨by assumption, by assumption⟩ | exact ⟨by assumption, by assumption, by omega⟩ | exact ⟨by assumption, by omega, by omega⟩ | exact ⟨by assumption, by omega, by omega, by omega⟩ | exact Or.inl (by assumption) | exact Or.inr (by omega) | exact Or.inr (by assumption) | exact Or.inr (Or.inl (by assumption)) | exact Or.inr (Or.inr (by omega)) | trivial), rfl, rfl⟩)) | exact Or.inr (Or.inr (Or.inr (Or.inl ⟨(by first | assumption | omega | exact ⟨by assumption, by omega⟩ | exact ⟨by assumption, by assumption⟩ | exact ⟨by assumption, by assumption, by omega⟩ | exact ⟨by assumption, by omega, by omega⟩ | exact ⟨by assumption, by omega, by omega, by omega⟩ | exact Or.inl (by assumption) | exact Or.inr (by omega) | exact Or.inr (by assumption) | exact Or.inr (Or.inl (by assumption)) | exact Or.inr (Or.inr (by omega)) | trivial), rfl, rfl⟩))) | exact Or.inr (Or.inr (Or.inr (Or.inr (Or.inl ⟨(by first | assumption | omega | exact ⟨by assumption, by omega⟩ | exact ⟨by assumption, by assumption⟩ | exact ⟨by assumption, by assumption, by omega⟩ | exact ⟨by assumption, by omega, by omega⟩ | exact ⟨by assumption, by omega, by omega, by omega⟩ | exact Or.inl (by assumption) | exact Or.inr (by omega) | exact Or.inr (by assumption) | exact Or.inr (Or.inl (by assumption)) | exact Or.inr (Or.inr (by omega)) | trivial), rfl, rfl⟩)))) | exact Or.inr (Or.inr (Or.inr (Or.inr (Or.inr (Or.inl ⟨(by first | assumption | omega | exact ⟨by assumption, by omega⟩ | exact ⟨by assumption, by assumption⟩ | exact ⟨by assumption, by assumption, by omega⟩ | exact ⟨by assumption, by omega, by omega⟩ | exact ⟨by assumption, by omega, by omega, by omega⟩ | exact Or.inl (by assumption) | exact Or.inr (by omega) | exact Or.inr (by assumption) | exact Or.inr (Or.inl (by assumption)) | exact Or.inr (Or.inr (by omega)) | trivial), rfl, rfl⟩))))) | exact Or.inr (Or.inr (Or.inr (Or.inr (Or.inr (Or.inr (Or.inl ⟨(by first | assumption | omega | exact ⟨by assumption, by omega⟩ | exact ⟨by assumption, by assumption⟩ | exact ⟨by assumption, by assumption, by omega⟩ | exact ⟨by assumption, by omega, by omega⟩ | exact ⟨by assumption, by omega, by omega, by omega⟩ | exact Or.inl (by assumption) | exact Or.inr (by omega) | exact Or.inr (by assumption) | exact Or.inr (Or.inl (by assumption)) | exact Or.inr (Or.inr (by omega)) | trivial), rfl, rfl⟩)))))) | exact Or.inr (Or.inr (Or.inr (Or.inr (Or.inr (Or.inr (Or.inr (Or.inl ⟨(by first | assumption | omega | exact ⟨by assumption, by omega⟩ | exact ⟨by assumption, by assumption⟩ | exact ⟨by assumption, by assumption, by omega⟩ | exact ⟨by assumption, by omega, by omega⟩ | exact ⟨by assumption, by omega, by omega, by omega⟩ | exact Or.inl (by assumption) | exact Or.inr (by omega) | exact Or.inr (by assumption) | exact Or.inr (Or.inl (by assumption)) | exact Or.inr (Or.inr (by omega)) | trivial), rfl, rfl⟩))))))) | exact Or.inr (Or.inr (Or.inr (Or.inr (Or.inr (Or.inr (Or.inr (Or.inr (Or.inl ⟨(by first | assumption | omega | exact ⟨by assumption, by omega⟩ | exact ⟨by assumption, by assumption⟩ | exact ⟨by assumption, by assumption, by omega⟩ | exact ⟨by assumption, by omega, by omega⟩ | exact ⟨by assumption, by omega, by omega, by omega⟩ | exact Or.inl (by assumption) | exact Or.inr (by omega) | exact Or.inr (by assumption) | exact Or.inr (Or.inl (by assumption)) | exact Or.inr (Or.inr (by omega)) | trivial), rfl, rfl⟩)))))))) | exact Or.inr (Or.inr (Or.inr (Or.inr (Or.inr (Or.inr (Or.inr (Or.inr (Or.inr (⟨(by first | assumption | omega | exact ⟨by assumption, by omega⟩ | exact ⟨by assumption, by assumption⟩ | exact ⟨by assumption, by assumption, by omega⟩ | exact ⟨by assumption, by omega, by omega⟩ | exact ⟨by assumption, by omega, by omega, by omega⟩ | exact Or.inl (by assumption) | exact Or.inr (by omega) | exact Or.inr (by assumption) | exact Or.inr (Or.inl (by assumption)) | exact Or.inr (Or.inr (by omega)) | trivial), rfl, rfl⟩))))))))))
      · refine rd_swIn C dX9_now_27 (by omega) (by omega) (off := 48) (by rw [h_27]; rfl) (tgt := 75) (by decide) ?_
        refine rd_aload_n C dX9_now_75 rfl ?_
        refine rd_get C rd_g9_0 rf_X9_10 dX9_now_76 rd_b0 rd_k0 (x := rd_R (1)) rfl (fun _ => trivial) ?_
        refine rd_get C rd_g8_3 rf_X9_66 dX9_now_79 rd_b1 rd_k1 (x := rd_R (58)) rfl (fun _ => trivial) ?_
        refine rd_get C rd_g6_1 rf_X9_172 dX9_now_82 rd_b58 rd_k58 (x := rd_I (μ 58 1)) rfl (fun h => h _ _) ?_
        exact rd_iret C dX9_now_85 (by first | exact Or.inl ⟨(by first | assumption | omega | exact ⟨by assumption, by omega⟩ | exact ⟨by assumption, by assumption⟩ | exact ⟨by assumption, by assumption, by omega⟩ | exact ⟨by assumption, by omega, by omega⟩ | exact ⟨by assumption, by omega, by omega, by omega⟩ | exact Or.inl (by assumption) | exact Or.inr (by omega) | exact Or.inr (by assumption) | exact Or.inr (Or.inl (by assumption)) | exact Or.inr (Or.inr (by omega)) | trivial), rfl, rfl⟩ | exact Or.inr (Or.inl ⟨(by first | assumption | omega | exact ⟨by assumption, by omega⟩ | exact ⟨by assumption, by assumption⟩ | exact ⟨by assumption, by assumption, by omega⟩ | exact ⟨by assumption, by omega, by omega⟩ | exact ⟨by assumption, by omega, by omega, by omega⟩ | exact Or.inl (by assumption) | exact Or.inr (by omega) | exact Or.inr (by assumption) | exact Or.inr (Or.inl (by assumption)) | exact Or.inr (Or.inr (by omega)) | trivial), rfl, rfl⟩) | exact Or.inr (Or.inr (Or.inl ⟨(by first | assumption | omega | exact ⟨by assumption, by omega⟩ | exact ⟨by assumption, by assumption⟩ | exact ⟨by assumption, by assumption, by omega⟩ | exact ⟨by assumption, by omega, by omega⟩ | exact ⟨by assumption, by omega, by omega, by omega⟩ | exact Or.inl (by assumption) | exact Or.inr (by omega) | exact Or.inr (by assumption) | exact Or.inr (Or.inl (by assumption)) | exact Or.inr (Or.inr (by omega)) | trivial), rfl, rfl⟩)) | exact Or.inr (Or.inr (Or.inr (Or.inl ⟨(by first | assumption | omega | exact ⟨by assumption, by omega⟩ | exact ⟨by assumption, by assumption⟩ | exact ⟨by assumption, by assumption, by omega⟩ | exact ⟨by assumption, by omega, by omega⟩ | exact ⟨by assumption, by omega, by omega, by omega⟩ | exact Or.inl (by assumption) | exact Or.inr (by omega) | exact Or.inr (by assumption) | exact Or.inr (Or.inl (by assumption)) | exact Or.inr (Or.inr (by omega)) | trivial), rfl, rfl⟩))) | exact Or.inr (Or.inr (Or.inr (Or.inr (Or.inl ⟨(by first | assumption | omega | exact ⟨by assumption, by omega⟩ | exact ⟨by assumption, by assumption⟩ | exact ⟨by assumption, by assumption, by omega⟩ | exact ⟨by assumption, by omega, by omega⟩ | exact ⟨by assumption, by omega, by omega, by omega⟩ | exact Or.inl (by assumption) | exact Or.inr (by omega) | exact Or.inr (by assumption) | exact Or.inr (Or.inl (by assumption)) | exact Or.inr (Or.inr (by omega)) | trivial), rfl, rfl⟩)))) | exact Or.inr (Or.inr (Or.inr (Or.inr (Or.inr (Or.inl ⟨(by first | assumption | omega | exact ⟨by assumption, by omega⟩ | exact ⟨by assumption, by assumption⟩ | exact ⟨by assumption, by assumption, by omega⟩ | exact ⟨by assumption, by omega, by omega⟩ | exact ⟨by assumption, by omega, by omega, by omega⟩ | exact Or.inl (by assumption) | exact Or.inr (by omega) | exact Or.inr (by assumption) | exact Or.inr (Or.inl (by assumption)) | exact Or.inr (Or.inr (by omega)) | trivial), rfl, rfl⟩))))) | exact Or.inr (Or.inr (Or.inr (Or.inr (Or.inr (Or.inr (Or.inl ⟨(by first | assumption | omega | exact ⟨by assumption, by omega⟩ | exact ⟨by assumption, by assumption⟩ | exact ⟨by assumption, by assumption, by omega⟩ | exact ⟨by assumption, by omega, by omega⟩ | exact ⟨by assumption, by omega, by omega, by omega⟩ | exact Or.inl (by assumption) | exact Or.inr (by omega) | exact Or.inr (by assumption) | exact Or.inr (Or.inl (by assumption)) | exact Or.inr (Or.inr (by omega)) | trivial), rfl, rfl⟩)))))) | exact Or.inr (Or.inr (Or.inr (Or.inr (Or.inr (Or.inr (Or.inr (Or.inl ⟨(by first | assumption | omega | exact ⟨by assumption, by omega⟩ | exact ⟨by assumption, by assumption⟩ | exact ⟨by assumption, by assumption, by omega⟩ | exact ⟨by assumption, by omega, by omega⟩ | exact ⟨by assumption, by omega, by omega, by omega⟩ | exact Or.inl (by assumption) | exact Or.inr (by omega) | exact Or.inr (by assumption) | exact Or.inr (Or.inl (by assumption)) | exact Or.inr (Or.inr (by omega)) | trivial), rfl, rfl⟩))))))) | exact Or.inr (Or.inr (Or.inr (Or.inr (Or.inr (Or.inr (Or.inr (Or.inr (Or.inl ⟨(by first | assumption | omega | exact ⟨by assumption, by omega⟩ | exact ⟨by assumption, by assumption⟩ | exact ⟨by assumption, by assumption, by omega⟩ | exact ⟨by assumption, by omega, by omega⟩ | exact ⟨by assumption, by omega, by omega, by omega⟩ | exact Or.inl (by assumption) | exact Or.inr (by omega) | exact Or.inr (by assumption) | exact Or.inr (Or.inl (by assumption)) | exact Or.inr (Or.inr (by omega)) | trivial), rfl, rfl⟩)))))))) | exact Or.inr (Or.inr (Or.inr (Or.inr (Or.inr (Or.inr (Or.inr (Or.inr (Or.inr (⟨(by first | assumption | omega | exact ⟨by assumption, by omega⟩ | exact ⟨by assumption, by assumption⟩ | exact ⟨by assumption, by assumption, by omega⟩ | exact ⟨by assumption, by omega, by omega⟩ | exact ⟨by assumption, by omega, by omega, by omega⟩ | exact Or.inl (by assumption) | exact Or.inr (by omega) | exact Or.inr (by assumption) | exact Or.inr (Or.inl (by assumption)) | exact Or.inr (Or.inr (by omega)) | trivial), rfl, rfl⟩))))))))))
      · refine rd_swIn C dX9_now_27 (by omega) (by omega) (off := 59) (by rw [h_27]; rfl) (tgt := 86) (by decide) ?_
        refine rd_aload_n C dX9_now_86 rfl ?_
        refine rd_get C rd_g9_0 rf_X9_10 dX9_now_87 rd_b0 rd_k0 (x := rd_R (1)) rfl (fun _ => trivial) ?_
        refine rd_get C rd_g8_3 rf_X9_66 dX9_now_90 rd_b1 rd_k1 (x := rd_R (58)) rfl (fun _ => trivial) ?_
        refine rd_get C rd_g6_3 rf_X9_158 dX9_now_93 rd_b58 rd_k58 (x := rd_I (μ 58 3)) rfl (fun h => h _ _) ?_
        exact rd_iret C dX9_now_96 (by first | exact Or.inl ⟨(by first | assumption | omega | exact ⟨by assumption, by omega⟩ | exact ⟨by assumption, by assumption⟩ | exact ⟨by assumption, by assumption, by omega⟩ | exact ⟨by assumption, by omega, by omega⟩ | exact ⟨by assumption, by omega, by omega, by omega⟩ | exact Or.inl (by assumption) | exact Or.inr (by omega) | exact Or.inr (by assumption) | exact Or.inr (Or.inl (by assumption)) | exact Or.inr (Or.inr (by omega)) | trivial), rfl, rfl⟩ | exact Or.inr (Or.inl ⟨(by first | assumption | omega | exact ⟨by assumption, by omega⟩ | exact ⟨by assumption, by assumption⟩ | exact ⟨by assumption, by assumption, by omega⟩ | exact ⟨by assumption, by omega, by omega⟩ | exact ⟨by assumption, by omega, by omega, by omega⟩ | exact Or.inl (by assumption) | exact Or.inr (by omega) | exact Or.inr (by assumption) | exact Or.inr (Or.inl (by assumption)) | exact Or.inr (Or.inr (by omega)) | trivial), rfl, rfl⟩) | exact Or.inr (Or.inr (Or.inl ⟨(by first | assumption | omega | exact ⟨by assumption, by omega⟩ | exact ⟨by assumption, by assumption⟩ | exact ⟨by assumption, by assumption, by omega⟩ | exact ⟨by assumption, by omega, by omega⟩ | exact ⟨by assumption, by omega, by omega, by omega⟩ | exact Or.inl (by assumption) | exact Or.inr (by omega) | exact Or.inr (by assumption) | exact Or.inr (Or.inl (by assumption)) | exact Or.inr (Or.inr (by omega)) | trivial), rfl, rfl⟩)) | exact Or.inr (Or.inr (Or.inr (Or.inl ⟨(by first | assumption | omega | exact ⟨by assumption, by omega⟩ | exact ⟨by assumption, by assumption⟩ | exact ⟨by assumption, by assumption, by omega⟩ | exact ⟨by assumption, by omega, by omega⟩ | exact ⟨by assumption, by omega, by omega, by omega⟩ | exact Or.inl (by assumption) | exact Or.inr (by omega) | exact Or.inr (by assumption) | exact Or.inr (Or.inl (by assumption)) | exact Or.inr (Or.inr (by omega)) | trivial), rfl, rfl⟩))) | exact Or.inr (Or.inr (Or.inr (Or.inr (Or.inl ⟨(by first | assumption | omega | exact ⟨by assumption, by omega⟩ | exact ⟨by assumption, by assumption⟩ | exact ⟨by assumption, by assumption, by omega⟩ | exact ⟨by assumption, by omega, by omega⟩ | exact ⟨by assumption, by omega, by omega, by omega⟩ | exact Or.inl (by assumption) | exact Or.inr (by omega) | exact Or.inr (by assumption) | exact Or.inr (Or.inl (by assumption)) | exact Or.inr (Or.inr (by omega)) | trivial), rfl, rfl⟩)))) | exact Or.inr (Or.inr (Or.inr (Or.inr (Or.inr (Or.inl ⟨(by first | assumption | omega | exact ⟨by assumption, by omega⟩ | exact ⟨by assumption, by assumption⟩ | exact ⟨by assumption, by assumption, by omega⟩ | exact ⟨by assumption, by omega, by omega⟩ | exact ⟨by assumption, by omega, by omega, by omega⟩ | exact Or.inl (by assumption) | exact Or.inr (by omega) | exact Or.inr (by assumption) | exact Or.inr (Or.inl (by assumption)) | exact Or.inr (Or.inr (by omega)) | trivial), rfl, rfl⟩))))) | exact Or.inr (Or.inr (Or.inr (Or.inr (Or.inr (Or.inr (Or.inl ⟨(by first | assumption | omega | exact ⟨by assumption, by omega⟩ | exact ⟨by assumption, by assumption⟩ | exact ⟨by assumption, by assumption, by omega⟩ | exact ⟨by assumption, by omega, by omega⟩ | exact ⟨by assumption, by omega, by omega, by omega⟩ | exact Or.inl (by assumption) | exact Or.inr (by omega) | exact Or.inr (by assumption) | exact Or.inr (Or.inl (by assumption)) | exact Or.inr (Or.inr (by omega)) | trivial), rfl, rfl⟩)))))) | exact Or.inr (Or.inr (Or.inr (Or.inr (Or.inr (Or.inr (Or.inr (Or.inl ⟨(by first | assumption | omega | exact ⟨by assumption, by omega⟩ | exact ⟨by assumption, by assumption⟩ | exact ⟨by assumption, by assumption, by omega⟩ | exact ⟨by assumption, by omega, by omega⟩ | exact ⟨by assumption, by omega, by omega, by omega⟩ | exact Or.inl (by assumption) | exact Or.inr (by omega) | exact Or.inr (by assumption) | exact Or.inr (Or.inl (by assumption)) | exact Or.inr (Or.inr (by omega)) | trivial), rfl, rfl⟩))))))) | exact Or.inr (Or.inr (Or.inr (Or.inr (Or.inr (Or.inr (Or.inr (Or.inr (Or.inl ⟨(by first | assumption | omega | exact ⟨by assumption, by omega⟩ | exact ⟨by assumption, by assumption⟩ | exact ⟨by assumption, by assumption, by omega⟩ | exact ⟨by assumption, by omega, by omega⟩ | exact ⟨by assumption, by omega, by omega, by omega⟩ | exact Or.inl (by assumption) | exact Or.inr (by omega) | exact Or.inr (by assumption) | exact Or.inr (Or.inl (by assumption)) | exact Or.inr (Or.inr (by omega)) | trivial), rfl, rfl⟩)))))))) | exact Or.inr (Or.inr (Or.inr (Or.inr (Or.inr (Or.inr (Or.inr (Or.inr (Or.inr (⟨(by first | assumption | omega | exact ⟨by assumption, by omega⟩ | exact ⟨by assumption, by assumption⟩ | exact ⟨by assumption, by assumption, by omega⟩ | exact ⟨by assumption, by omega, by omega⟩ | exact ⟨by assumption, by omega, by omega, by omega⟩ | exact Or.inl (by assumption) | exact Or.inr (by omega) | exact Or.inr (by assumption) | exact Or.inr (Or.inl (by assumption)) | exact Or.inr (Or.inr (by omega)) | trivial), rfl, rfl⟩))))))))))
      · refine rd_swIn C dX9_now_27 (by omega) (by omega) (off := 70) (by rw [h_27]; rfl) (tgt := 97) (by decide) ?_
        refine rd_aload_n C dX9_now_97 rfl ?_
        refine rd_get C rd_g9_0 rf_X9_10 dX9_now_98 rd_b0 rd_k0 (x := rd_R (1)) rfl (fun _ => trivial) ?_
        refine rd_get C rd_g8_3 rf_X9_66 dX9_now_101 rd_b1 rd_k1 (x := rd_R (58)) rfl (fun _ => trivial) ?_
        refine rd_get C rd_g6_4 rf_X9_239 dX9_now_104 rd_b58 rd_k58 (x := rd_I (μ 58 4)) rfl (fun h => h _ _) ?_
        exact rd_iret C dX9_now_107 (by first | exact Or.inl ⟨(by first | assumption | omega | exact ⟨by assumption, by omega⟩ | exact ⟨by assumption, by assumption⟩ | exact ⟨by assumption, by assumption, by omega⟩ | exact ⟨by assumption, by omega, by omega⟩ | exact ⟨by assumption, by omega, by omega, by omega⟩ | exact Or.inl (by assumption) | exact Or.inr (by omega) | exact Or.inr (by assumption) | exact Or.inr (Or.inl (by assumption)) | exact Or.inr (Or.inr (by omega)) | trivial), rfl, rfl⟩ | exact Or.inr (Or.inl ⟨(by first | assumption | omega | exact ⟨by assumption, by omega⟩ | exact ⟨by assumption, by assumption⟩ | exact ⟨by assumption, by assumption, by omega⟩ | exact ⟨by assumption, by omega, by omega⟩ | exact ⟨by assumption, by omega, by omega, by omega⟩ | exact Or.inl (by assumption) | exact Or.inr (by omega) | exact Or.inr (by assumption) | exact Or.inr (Or.inl (by assumption)) | exact Or.inr (Or.inr (by omega)) | trivial), rfl, rfl⟩) | exact Or.inr (Or.inr (Or.inl ⟨(by first | assumption | omega | exact ⟨by assumption, by omega⟩ | exact ⟨by assumption, by assumption⟩ | exact ⟨by assumption, by assumption, by omega⟩ | exact ⟨by assumption, by omega, by omega⟩ | exact ⟨by assumption, by omega, by omega, by omega⟩ | exact Or.inl (by assumption) | exact Or.inr (by omega) | exact Or.inr (by assumption) | exact Or.inr (Or.inl (by assumption)) | exact Or.inr (Or.inr (by omega)) | trivial), rfl, rfl⟩)) | exact Or.inr (Or.inr (Or.inr (Or.inl ⟨(by first | assumption | omega | exact ⟨by assumption, by omega⟩ | exact ⟨by assumption, by assumption⟩ | exact ⟨by assumption, by assumption, by omega⟩ | exact ⟨by assumption, by omega, by omega⟩ | exact ⟨by assumption, by omega, by omega, by omega⟩ | exact Or.inl (by assumption) | exact Or.inr (by omega) | exact Or.inr (by assumption) | exact Or.inr (Or.inl (by assumption)) | exact Or.inr (Or.inr (by omega)) | trivial), rfl, rfl⟩))) | exact Or.inr (Or.inr (Or.inr (Or.inr (Or.inl ⟨(by first | assumption | omega | exact ⟨by assumption, by omega⟩ | exact ⟨by assumption, by assumption⟩ | exact ⟨by assumption, by assumption, by omega⟩ | exact ⟨by assumption, by omega, by omega⟩ | exact ⟨by assumption, by omega, by omega, by omega⟩ | exact Or.inl (by assumption) | exact Or.inr (by omega) | exact Or.inr (by assumption) | exact Or.inr (Or.inl (by assumption)) | exact Or.inr (Or.inr (by omega)) | trivial), rfl, rfl⟩)))) | exact Or.inr (Or.inr (Or.inr (Or.inr (Or.inr (Or.inl ⟨(by first | assumption | omega | exact ⟨by assumption, by omega⟩ | exact ⟨by assumption, by assumption⟩ | exact ⟨by assumption, by assumption, by omega⟩ | exact ⟨by assumption, by omega, by omega⟩ | exact ⟨by assumption, by omega, by omega, by omega⟩ | exact Or.inl (by assumption) | exact Or.inr (by omega) | exact Or.inr (by assumption) | exact Or.inr (Or.inl (by assumption)) | exact Or.inr (Or.inr (by omega)) | trivial), rfl, rfl⟩))))) | exact Or.inr (Or.inr (Or.inr (Or.inr (Or.inr (Or.inr (Or.inl ⟨(by first | assumption | omega | exact ⟨by assumption, by omega⟩ | exact ⟨by assumption, by assumption⟩ | exact ⟨by assumption, by assumption, by omega⟩ | exact ⟨by assumption, by omega, by omega⟩ | exact ⟨by assumption, by omega, by omega, by omega⟩ | exact Or.inl (by assumption) | exact Or.inr (by omega) | exact Or.inr (by assumption) | exact Or.inr (Or.inl (by assumption)) | exact Or.inr (Or.inr (by omega)) | trivial), rfl, rfl⟩)))))) | exact Or.inr (Or.inr (Or.inr (Or.inr (Or.inr (Or.inr (Or.inr (Or.inl ⟨(by first | assumption | omega | exact ⟨by assumption, by omega⟩ | exact ⟨by assumption, by assumption⟩ | exact ⟨by assumption, by assumption, by omega⟩ | exact ⟨by assumption, by omega, by omega⟩ | exact ⟨by assumption, by omega, by omega, by omega⟩ | exact Or.inl (by assumption) | exact Or.inr (by omega) | exact Or.inr (by assumption) | exact Or.inr (Or.inl (by assumption)) | exact Or.inr (Or.inr (by omega)) | trivial), rfl, rfl⟩))))))) | exact Or.inr (Or.inr (Or.inr (Or.inr (Or.inr (Or.inr (Or.inr (Or.inr (Or.inl ⟨(by first | assumption | omega | exact ⟨by assumption, by omega⟩ | exact ⟨by assumption, by assumption⟩ | exact ⟨by assumption, by assumption, by omega⟩ | exact ⟨by assumption, by omega, by omega⟩ | exact ⟨by assumption, by omega, by omega, by omega⟩ | exact Or.inl (by assumption) | exact Or.inr (by omega) | exact Or.inr (by assumption) | exact Or.inr (Or.inl (by assumption)) | exact Or.inr (Or.inr (by omega)) | trivial), rfl, rfl⟩)))))))) | exact Or.inr (Or.inr (Or.inr (Or.inr (Or.inr (Or.inr (Or.inr (Or.inr (Or.inr (⟨(by first | assumption | omega | exact ⟨by assumption, by omega⟩ | exact ⟨by assumption, by assumption⟩ | exact ⟨by assumption, by assumption, by omega⟩ | exact ⟨by assumption, by omega, by omega⟩ | exact ⟨by assumption, by omega, by omega, by omega⟩ | exact Or.inl (by assumption) | exact Or.inr (by omega) | exact Or.inr (by assumption) | exact Or.inr (Or.inl (by assumption)) | exact Or.inr (Or.inr (by omega)) | trivial), rfl, rfl⟩))))))))))
      · refine rd_swIn C dX9_now_27 (by omega) (by omega) (off := 81) (by rw [h_27]; rfl) (tgt := 108) (by decide) ?_
        refine rd_aload_n C dX9_now_108 rfl ?_
        refine rd_get C rd_g9_0 rf_X9_10 dX9_now_109 rd_b0 rd_k0 (x := rd_R (1)) rfl (fun _ => trivial) ?_
        refine rd_get C rd_g8_3 rf_X9_66 dX9_now_112 rd_b1 rd_k1 (x := rd_R (58)) rfl (fun _ => trivial) ?_
        refine rd_get C rd_g6_5 rf_X9_242 dX9_now_115 rd_b58 rd_k58 (x := rd_I (μ 58 5)) rfl (fun h => h _ _) ?_
        exact rd_iret C dX9_now_118 (by first | exact Or.inl ⟨(by first | assumption | omega | exact ⟨by assumption, by omega⟩ | exact ⟨by assumption, by assumption⟩ | exact ⟨by assumption, by assumption, by omega⟩ | exact ⟨by assumption, by omega, by omega⟩ | exact ⟨by assumption, by omega, by omega, by omega⟩ | exact Or.inl (by assumption) | exact Or.inr (by omega) | exact Or.inr (by assumption) | exact Or.inr (Or.inl (by assumption)) | exact Or.inr (Or.inr (by omega)) | trivial), rfl, rfl⟩ | exact Or.inr (Or.inl ⟨(by first | assumption | omega | exact ⟨by assumption, by omega⟩ | exact ⟨by assumption, by assumption⟩ | exact ⟨by assumption, by assumption, by omega⟩ | exact ⟨by assumption, by omega, by omega⟩ | exact ⟨by assumption, by omega, by omega, by omega⟩ | exact Or.inl (by assumption) | exact Or.inr (by omega) | exact Or.inr (by assumption) | exact Or.inr (Or.inl (by assumption)) | exact Or.inr (Or.inr (by omega)) | trivial), rfl, rfl⟩) | exact Or.inr (Or.inr (Or.inl ⟨(by first | assumption | omega | exact ⟨by assumption, by omega⟩ | exact ⟨by assumption, by assumption⟩ | exact ⟨by assumption, by assumption, by omega⟩ | exact ⟨by assumption, by omega, by omega⟩ | exact ⟨by assumption, by omega, by omega, by omega⟩ | exact Or.inl (by assumption) | exact Or.inr (by omega) | exact Or.inr (by assumption) | exact Or.inr (Or.inl (by assumption)) | exact Or.inr (Or.inr (by omega)) | trivial), rfl, rfl⟩)) | exact Or.inr (Or.inr (Or.inr (Or.inl ⟨(by first | assumption | omega | exact ⟨by assumption, by omega⟩ | exact ⟨by assumption, by assumption⟩ | exact ⟨by assumption, by assumption, by omega⟩ | exact ⟨by assumption, by omega, by omega⟩ | exact ⟨by assumption, by omega, by omega, by omega⟩ | exact Or.inl (by assumption) | exact Or.inr (by omega) | exact Or.inr (by assumption) | exact Or.inr (Or.inl (by assumption)) | exact Or.inr (Or.inr (by omega)) | trivial), rfl, rfl⟩))) | exact Or.inr (Or.inr (Or.inr (Or.inr (Or.inl ⟨(by first | assumption | omega | exact ⟨by assumption, by omega⟩ | exact ⟨by assumption, by assumption⟩ | exact ⟨by assumption, by assumption, by omega⟩ | exact ⟨by assumption, by omega, by omega⟩ | exact ⟨by assumption, by omega, by omega, by omega⟩ | exact Or.inl (by assumption) | exact Or.inr (by omega) | exact Or.inr (by assumption) | exact Or.inr (Or.inl (by assumption)) | exact Or.inr (Or.inr (by omega)) | trivial), rfl, rfl⟩)))) | exact Or.inr (Or.inr (Or.inr (Or.inr (Or.inr (Or.inl ⟨(by first | assumption | omega | exact ⟨by assumption, by omega⟩ | exact ⟨by assumption, by assumption⟩ | exact ⟨by assumption, by assumption, by omega⟩ | exact ⟨by assumption, by omega, by omega⟩ | exact ⟨by assumption, by omega, by omega, by omega⟩ | exact Or.inl (by assumption) | exact Or.inr (by omega) | exact Or.inr (by assumption) | exact Or.inr (Or.inl (by assumption)) | exact Or.inr (Or.inr (by omega)) | trivial), rfl, rfl⟩))))) | exact Or.inr (Or.inr (Or.inr (Or.inr (Or.inr (Or.inr (Or.inl ⟨(by first | assumption | omega | exact ⟨by assumption, by omega⟩ | exact ⟨by assumption, by assumption⟩ | exact ⟨by assumption, by assumption, by omega⟩ | exact ⟨by assumption, by omega, by omega⟩ | exact ⟨by assumption, by omega, by omega, by omega⟩ | exact Or.inl (by assumption) | exact Or.inr (by omega) | exact Or.inr (by assumption) | exact Or.inr (Or.inl (by assumption)) | exact Or.inr (Or.inr (by omega)) | trivial), rfl, rfl⟩)))))) | exact Or.inr (Or.inr (Or.inr (Or.inr (Or.inr (Or.inr (Or.inr (Or.inl ⟨(by first | assumption | omega | exact ⟨by assumption, by omega⟩ | exact ⟨by assumption, by assumption⟩ | exact ⟨by assumption, by assumption, by omega⟩ | exact ⟨by assumption, by omega, by omega⟩ | exact ⟨by assumption, by omega, by omega, by omega⟩ | exact Or.inl (by assumption) | exact Or.inr (by omega) | exact Or.inr (by assumption) | exact Or.inr (Or.inl (by assumption)) | exact Or.inr (Or.inr (by omega)) | trivial), rfl, rfl⟩))))))) | exact Or.inr (Or.inr (Or.inr (Or.inr (Or.inr (Or.inr (Or.inr (Or.inr (Or.inl ⟨(by first | assumption | omega | exact ⟨by assumption, by omega⟩ | exact ⟨by assumption, by assumption⟩ | exact ⟨by assumption, by assumption, by omega⟩ | exact ⟨by assumption, by omega, by omega⟩ | exact ⟨by assumption, by omega, by omega, by omega⟩ | exact Or.inl (by assumption) | exact Or.inr (by omega) | exact Or.inr (by assumption) | exact Or.inr (Or.inl (by assumption)) | exact Or.inr (Or.inr (by omega)) | trivial), rfl, rfl⟩)))))))) | exact Or.inr (Or.inr (Or.inr (Or.inr (Or.inr (Or.inr (Or.inr (Or.inr (Or.inr (⟨(by first | assumption | omega | exact ⟨by assumption, by omega⟩ | exact ⟨by assumption, by assumption⟩ | exact ⟨by assumption, by assumption, by omega⟩ | exact ⟨by assumption, by omega, by omega⟩ | exact ⟨by assumption, by omega, by omega, by omega⟩ | exact Or.inl (by assumption) | exact Or.inr (by omega) | exact Or.inr (by assumption) | exact Or.inr (Or.inl (by assumption)) | exact Or.inr (Or.inr (by omega)) | trivial), rfl, rfl⟩))))))))))
      · refine rd_swIn C dX9_now_27 (by omega) (by omega) (off := 92) (by rw [h_27]; rfl) (tgt := 119) (by decide) ?_
        refine rd_aload_n C dX9_now_119 rfl ?_
        refine rd_get C rd_g9_0 rf_X9_10 dX9_now_120 rd_b0 rd_k0 (x := rd_R (1)) rfl (fun _ => trivial) ?_
        refine rd_callV C (c_X8_isOver) rm_X9_245 ri_X8_isOver rs_X8_isOver rc_X8_isOver rz_X8 ⟨rp_X8_isOver, rfl, rfl, by decide, by decide⟩ rfl rd_kcl8 dX9_now_123 rd_b1 rd_k1 rfl (Nat.le_of_ble_eq_true rfl) (fun v1 w1 hq => ?_)
        rcases hq with ⟨hw_126, hv1, hm1⟩ | ⟨hw_126, hv1, hm1⟩
        · rw [hv1, hm1]; clear hv1 hm1 v1 w1
          refine rd_callS C (c_X9_asNumber) rm_X9_219 rt_X9_asNumber rc_X9_asNumber rz_X9 ⟨rp_X9_asNumber, rfl, rfl, by decide, by decide⟩ rfl dX9_now_126 rfl (Nat.le_of_ble_eq_true rfl) (fun v1 w1 hq => ?_)
          obtain ⟨hv1, hm1⟩ := hq; rw [hv1, hm1]; clear hv1 hm1 v1 w1
          show rd_W p l e _ s m args below meth c _ 2 G rd_kc 313 r _ _ [rd_I 1] _
          exact rd_iret C dX9_now_129 (by first | exact Or.inl ⟨(by first | assumption | omega | exact ⟨by assumption, by omega⟩ | exact ⟨by assumption, by assumption⟩ | exact ⟨by assumption, by assumption, by omega⟩ | exact ⟨by assumption, by omega, by omega⟩ | exact ⟨by assumption, by omega, by omega, by omega⟩ | exact Or.inl (by assumption) | exact Or.inr (by omega) | exact Or.inr (by assumption) | exact Or.inr (Or.inl (by assumption)) | exact Or.inr (Or.inr (by omega)) | trivial), rfl, rfl⟩ | exact Or.inr (Or.inl ⟨(by first | assumption | omega | exact ⟨by assumption, by omega⟩ | exact ⟨by assumption, by assumption⟩ | exact ⟨by assumption, by assumption, by omega⟩ | exact ⟨by assumption, by omega, by omega⟩ | exact ⟨by assumption, by omega, by omega, by omega⟩ | exact Or.inl (by assumption) | exact Or.inr (by omega) | exact Or.inr (by assumption) | exact Or.inr (Or.inl (by assumption)) | exact Or.inr (Or.inr (by omega)) | trivial), rfl, rfl⟩) | exact Or.inr (Or.inr (Or.inl ⟨(by first | assumption | omega | exact ⟨by assumption, by omega⟩ | exact ⟨by assumption, by assumption⟩ | exact ⟨by assumption, by assumption, by omega⟩ | exact ⟨by assumption, by omega, by omega⟩ | exact ⟨by assumption, by omega, by omega, by omega⟩ | exact Or.inl (by assumption) | exact Or.inr (by omega) | exact Or.inr (by assumption) | exact Or.inr (Or.inl (by assumption)) | exact Or.inr (Or.inr (by omega)) | trivial), rfl, rfl⟩)) | exact Or.inr (Or.inr (Or.inr (Or.inl ⟨(by first | assumption | omega | exact ⟨by assumption, by omega⟩ | exact ⟨by assumption, by assumption⟩ | exact ⟨by assumption, by assumption, by omega⟩ | exact ⟨by assumption, by omega, by omega⟩ | exact ⟨by assumption, by omega, by omega, by omega⟩ | exact Or.inl (by assumption) | exact Or.inr (by omega) | exact Or.inr (by assumption) | exact Or.inr (Or.inl (by assumption)) | exact Or.inr (Or.inr (by omega)) | trivial), rfl, rfl⟩))) | exact Or.inr (Or.inr (Or.inr (Or.inr (Or.inl ⟨(by first | assumption | omega | exact ⟨by assumption, by omega⟩ | exact ⟨by assumption, by assumption⟩ | exact ⟨by assumption, by assumption, by omega⟩ | exact ⟨by assumption, by omega, by omega⟩ | exact ⟨by assumption, by omega, by omega, by omega⟩ | exact Or.inl (by assumption) | exact Or.inr (by omega) | exact Or.inr (by assumption) | exact Or.inr (Or.inl (by assumption)) | exact Or.inr (Or.inr (by omega)) | trivial), rfl, rfl⟩)))) | exact Or.inr (Or.inr (Or.inr (Or.inr (Or.inr (Or.inl ⟨(by first | assumption | omega | exact ⟨by assumption, by omega⟩ | exact ⟨by assumption, by assumption⟩ | exact ⟨by assumption, by assumption, by omega⟩ | exact ⟨by assumption, by omega, by omega⟩ | exact ⟨by assumption, by omega, by omega, by omega⟩ | exact Or.inl (by assumption) | exact Or.inr (by omega) | exact Or.inr (by assumption) | exact Or.inr (Or.inl (by assumption)) | exact Or.inr (Or.inr (by omega)) | trivial), rfl, rfl⟩))))) | exact Or.inr (Or.inr (Or.inr (Or.inr (Or.inr (Or.inr (Or.inl ⟨(by first | assumption | omega | exact ⟨by assumption, by omega⟩ | exact ⟨by assumption, by assumption⟩ | exact ⟨by assumption, by assumption, by omega⟩ | exact ⟨by assumption, by omega, by omega⟩ | exact ⟨by assumption, by omega, by omega, by omega⟩ | exact Or.inl (by assumption) | exact Or.inr (by omega) | exact Or.inr (by assumption) | exact Or.inr (Or.inl (by assumption)) | exact Or.inr (Or.inr (by omega)) | trivial), rfl, rfl⟩)))))) | exact Or.inr (Or.inr (Or.inr (Or.inr (Or.inr (Or.inr (Or.inr (Or.inl ⟨(by first | assumption | omega | exact ⟨by assumption, by omega⟩ | exact ⟨by assumption, by assumption⟩ | exact ⟨by assumption, by assumption, by omega⟩ | exact ⟨by assumption, by omega, by omega⟩ | exact ⟨by assumption, by omega, by omega, by omega⟩ | exact Or.inl (by assumption) | exact Or.inr (by omega) | exact Or.inr (by assumption) | exact Or.inr (Or.inl (by assumption)) | exact Or.inr (Or.inr (by omega)) | trivial), rfl, rfl⟩))))))) | exact Or.inr (Or.inr (Or.inr (Or.inr (Or.inr (Or.inr (Or.inr (Or.inr (Or.inl ⟨(by first | assumption | omega | exact ⟨by assumption, by omega⟩ | exact ⟨by assumption, by assumption⟩ | exact ⟨by assumption, by assumption, by omega⟩ | exact ⟨by assumption, by omega, by omega⟩ | exact ⟨by assumption, by omega, by omega, by omega⟩ | exact Or.inl (by assumption) | exact Or.inr (by omega) | exact Or.inr (by assumption) | exact Or.inr (Or.inl (by assumption)) | exact Or.inr (Or.inr (by omega)) | trivial), rfl, rfl⟩)))))))) | exact Or.inr (Or.inr (Or.inr (Or.inr (Or.inr (Or.inr (Or.inr (Or.inr (Or.inr (⟨(by first | assumption | omega | exact ⟨by assumption, by omega⟩ | exact ⟨by assumption, by assumption⟩ | exact ⟨by assumption, by assumption, by omega⟩ | exact ⟨by assumption, by omega, by omega⟩ | exact ⟨by assumption, by omega, by omega, by omega⟩ | exact Or.inl (by assumption) | exact Or.inr (by omega) | exact Or.inr (by assumption) | exact Or.inr (Or.inl (by assumption)) | exact Or.inr (Or.inr (by omega)) | trivial), rfl, rfl⟩))))))))))
        · rw [hv1, hm1]; clear hv1 hm1 v1 w1
          refine rd_callS C (c_X9_asNumber) rm_X9_219 rt_X9_asNumber rc_X9_asNumber rz_X9 ⟨rp_X9_asNumber, rfl, rfl, by decide, by decide⟩ rfl dX9_now_126 rfl (Nat.le_of_ble_eq_true rfl) (fun v1 w1 hq => ?_)
          obtain ⟨hv1, hm1⟩ := hq; rw [hv1, hm1]; clear hv1 hm1 v1 w1
          show rd_W p l e _ s m args below meth c _ 2 G rd_kc 313 r _ _ [rd_I 0] _
          exact rd_iret C dX9_now_129 (by first | exact Or.inl ⟨(by first | assumption | omega | exact ⟨by assumption, by omega⟩ | exact ⟨by assumption, by assumption⟩ | exact ⟨by assumption, by assumption, by omega⟩ | exact ⟨by assumption, by omega, by omega⟩ | exact ⟨by assumption, by omega, by omega, by omega⟩ | exact Or.inl (by assumption) | exact Or.inr (by omega) | exact Or.inr (by assumption) | exact Or.inr (Or.inl (by assumption)) | exact Or.inr (Or.inr (by omega)) | trivial), rfl, rfl⟩ | exact Or.inr (Or.inl ⟨(by first | assumption | omega | exact ⟨by assumption, by omega⟩ | exact ⟨by assumption, by assumption⟩ | exact ⟨by assumption, by assumption, by omega⟩ | exact ⟨by assumption, by omega, by omega⟩ | exact ⟨by assumption, by omega, by omega, by omega⟩ | exact Or.inl (by assumption) | exact Or.inr (by omega) | exact Or.inr (by assumption) | exact Or.inr (Or.inl (by assumption)) | exact Or.inr (Or.inr (by omega)) | trivial), rfl, rfl⟩) | exact Or.inr (Or.inr (Or.inl ⟨(by first | assumption | omega | exact ⟨by assumption, by omega⟩ | exact ⟨by assumption, by assumption⟩ | exact ⟨by assumption, by assumption, by omega⟩ | exact ⟨by assumption, by omega, by omega⟩ | exact ⟨by assumption, by omega, by omega, by omega⟩ | exact Or.inl (by assumption) | exact Or.inr (by omega) | exact Or.inr (by assumption) | exact Or.inr (Or.inl (by assumption)) | exact Or.inr (Or.inr (by omega)) | trivial), rfl, rfl⟩)) | exact Or.inr (Or.inr (Or.inr (Or.inl ⟨(by first | assumption | omega | exact ⟨by assumption, by omega⟩ | exact ⟨by assumption, by assumption⟩ | exact ⟨by assumption, by assumption, by omega⟩ | exact ⟨by assumption, by omega, by omega⟩ | exact ⟨by assumption, by omega, by omega, by omega⟩ | exact Or.inl (by assumption) | exact Or.inr (by omega) | exact Or.inr (by assumption) | exact Or.inr (Or.inl (by assumption)) | exact Or.inr (Or.inr (by omega)) | trivial), rfl, rfl⟩))) | exact Or.inr (Or.inr (Or.inr (Or.inr (Or.inl ⟨(by first | assumption | omega | exact ⟨by assumption, by omega⟩ | exact ⟨by assumption, by assumption⟩ | exact ⟨by assumption, by assumption, by omega⟩ | exact ⟨by assumption, by omega, by omega⟩ | exact ⟨by assumption, by omega, by omega, by omega⟩ | exact Or.inl (by assumption) | exact Or.inr (by omega) | exact Or.inr (by assumption) | exact Or.inr (Or.inl (by assumption)) | exact Or.inr (Or.inr (by omega)) | trivial), rfl, rfl⟩)))) | exact Or.inr (Or.inr (Or.inr (Or.inr (Or.inr (Or.inl ⟨(by first | assumption | omega | exact ⟨by assumption, by omega⟩ | exact ⟨by assumption, by assumption⟩ | exact ⟨by assumption, by assumption, by omega⟩ | exact ⟨by assumption, by omega, by omega⟩ | exact ⟨by assumption, by omega, by omega, by omega⟩ | exact Or.inl (by assumption) | exact Or.inr (by omega) | exact Or.inr (by assumption) | exact Or.inr (Or.inl (by assumption)) | exact Or.inr (Or.inr (by omega)) | trivial), rfl, rfl⟩))))) | exact Or.inr (Or.inr (Or.inr (Or.inr (Or.inr (Or.inr (Or.inl ⟨(by first | assumption | omega | exact ⟨by assumption, by omega⟩ | exact ⟨by assumption, by assumption⟩ | exact ⟨by assumption, by assumption, by omega⟩ | exact ⟨by assumption, by omega, by omega⟩ | exact ⟨by assumption, by omega, by omega, by omega⟩ | exact Or.inl (by assumption) | exact Or.inr (by omega) | exact Or.inr (by assumption) | exact Or.inr (Or.inl (by assumption)) | exact Or.inr (Or.inr (by omega)) | trivial), rfl, rfl⟩)))))) | exact Or.inr (Or.inr (Or.inr (Or.inr (Or.inr (Or.inr (Or.inr (Or.inl ⟨(by first | assumption | omega | exact ⟨by assumption, by omega⟩ | exact ⟨by assumption, by assumption⟩ | exact ⟨by assumption, by assumption, by omega⟩ | exact ⟨by assumption, by omega, by omega⟩ | exact ⟨by assumption, by omega, by omega, by omega⟩ | exact Or.inl (by assumption) | exact Or.inr (by omega) | exact Or.inr (by assumption) | exact Or.inr (Or.inl (by assumption)) | exact Or.inr (Or.inr (by omega)) | trivial), rfl, rfl⟩))))))) | exact Or.inr (Or.inr (Or.inr (Or.inr (Or.inr (Or.inr (Or.inr (Or.inr (Or.inl ⟨(by first | assumption | omega | exact ⟨by assumption, by omega⟩ | exact ⟨by assumption, by assumption⟩ | exact ⟨by assumption, by assumption, by omega⟩ | exact ⟨by assumption, by omega, by omega⟩ | exact ⟨by assumption, by omega, by omega, by omega⟩ | exact Or.inl (by assumption) | exact Or.inr (by omega) | exact Or.inr (by assumption) | exact Or.inr (Or.inl (by assumption)) | exact Or.inr (Or.inr (by omega)) | trivial), rfl, rfl⟩)))))))) | exact Or.inr (Or.inr (Or.inr (Or.inr (Or.inr (Or.inr (Or.inr (Or.inr (Or.inr (⟨(by first | assumption | omega | exact ⟨by assumption, by omega⟩ | exact ⟨by assumption, by assumption⟩ | exact ⟨by assumption, by assumption, by omega⟩ | exact ⟨by assumption, by omega, by omega⟩ | exact ⟨by assumption, by omega, by omega, by omega⟩ | exact Or.inl (by assumption) | exact Or.inr (by omega) | exact Or.inr (by assumption) | exact Or.inr (Or.inl (by assumption)) | exact Or.inr (Or.inr (by omega)) | trivial), rfl, rfl⟩))))))))))
      · refine rd_swOut C dX9_now_27 h_27 (tgt := 130) (by decide) ?_
        refine rd_aload_n C dX9_now_130 rfl ?_
        refine rd_get C rd_g9_0 rf_X9_10 dX9_now_131 rd_b0 rd_k0 (x := rd_R (1)) rfl (fun _ => trivial) ?_
        refine rd_get C rd_g8_3 rf_X9_66 dX9_now_134 rd_b1 rd_k1 (x := rd_R (58)) rfl (fun _ => trivial) ?_
        refine rd_get C rd_g6_2 rf_X9_249 dX9_now_137 rd_b58 rd_k58 (x := rd_I (μ 58 2)) rfl (fun h => h _ _) ?_
        exact rd_iret C dX9_now_140 (by first | exact Or.inl ⟨(by first | assumption | omega | exact ⟨by assumption, by omega⟩ | exact ⟨by assumption, by assumption⟩ | exact ⟨by assumption, by assumption, by omega⟩ | exact ⟨by assumption, by omega, by omega⟩ | exact ⟨by assumption, by omega, by omega, by omega⟩ | exact Or.inl (by assumption) | exact Or.inr (by omega) | exact Or.inr (by assumption) | exact Or.inr (Or.inl (by assumption)) | exact Or.inr (Or.inr (by omega)) | trivial), rfl, rfl⟩ | exact Or.inr (Or.inl ⟨(by first | assumption | omega | exact ⟨by assumption, by omega⟩ | exact ⟨by assumption, by assumption⟩ | exact ⟨by assumption, by assumption, by omega⟩ | exact ⟨by assumption, by omega, by omega⟩ | exact ⟨by assumption, by omega, by omega, by omega⟩ | exact Or.inl (by assumption) | exact Or.inr (by omega) | exact Or.inr (by assumption) | exact Or.inr (Or.inl (by assumption)) | exact Or.inr (Or.inr (by omega)) | trivial), rfl, rfl⟩) | exact Or.inr (Or.inr (Or.inl ⟨(by first | assumption | omega | exact ⟨by assumption, by omega⟩ | exact ⟨by assumption, by assumption⟩ | exact ⟨by assumption, by assumption, by omega⟩ | exact ⟨by assumption, by omega, by omega⟩ | exact ⟨by assumption, by omega, by omega, by omega⟩ | exact Or.inl (by assumption) | exact Or.inr (by omega) | exact Or.inr (by assumption) | exact Or.inr (Or.inl (by assumption)) | exact Or.inr (Or.inr (by omega)) | trivial), rfl, rfl⟩)) | exact Or.inr (Or.inr (Or.inr (Or.inl ⟨(by first | assumption | omega | exact ⟨by assumption, by omega⟩ | exact ⟨by assumption, by assumption⟩ | exact ⟨by assumption, by assumption, by omega⟩ | exact ⟨by assumption, by omega, by omega⟩ | exact ⟨by assumption, by omega, by omega, by omega⟩ | exact Or.inl (by assumption) | exact Or.inr (by omega) | exact Or.inr (by assumption) | exact Or.inr (Or.inl (by assumption)) | exact Or.inr (Or.inr (by omega)) | trivial), rfl, rfl⟩))) | exact Or.inr (Or.inr (Or.inr (Or.inr (Or.inl ⟨(by first | assumption | omega | exact ⟨by assumption, by omega⟩ | exact ⟨by assumption, by assumption⟩ | exact ⟨by assumption, by assumption, by omega⟩ | exact ⟨by assumption, by omega, by omega⟩ | exact ⟨by assumption, by omega, by omega, by omega⟩ | exact Or.inl (by assumption) | exact Or.inr (by omega) | exact Or.inr (by assumption) | exact Or.inr (Or.inl (by assumption)) | exact Or.inr (Or.inr (by omega)) | trivial), rfl, rfl⟩)))) | exact Or.inr (Or.inr (Or.inr (Or.inr (Or.inr (Or.inl ⟨(by first | assumption | omega | exact ⟨by assumption, by omega⟩ | exact ⟨by assumption, by assumption⟩ | exact ⟨by assumption, by assumption, by omega⟩ | exact ⟨by assumption, by omega, by omega⟩ | exact ⟨by assumption, by omega, by omega, by omega⟩ | exact Or.inl (by assumption) | exact Or.inr (by omega) | exact Or.inr (by assumption) | exact Or.inr (Or.inl (by assumption)) | exact Or.inr (Or.inr (by omega)) | trivial), rfl, rfl⟩))))) | exact Or.inr (Or.inr (Or.inr (Or.inr (Or.inr (Or.inr (Or.inl ⟨(by first | assumption | omega | exact ⟨by assumption, by omega⟩ | exact ⟨by assumption, by assumption⟩ | exact ⟨by assumption, by assumption, by omega⟩ | exact ⟨by assumption, by omega, by omega⟩ | exact ⟨by assumption, by omega, by omega, by omega⟩ | exact Or.inl (by assumption) | exact Or.inr (by omega) | exact Or.inr (by assumption) | exact Or.inr (Or.inl (by assumption)) | exact Or.inr (Or.inr (by omega)) | trivial), rfl, rfl⟩)))))) | exact Or.inr (Or.inr (Or.inr (Or.inr (Or.inr (Or.inr (Or.inr (Or.inl ⟨(by first | assumption | omega | exact ⟨by assumption, by omega⟩ | exact ⟨by assumption, by assumption⟩ | exact ⟨by assumption, by assumption, by omega⟩ | exact ⟨by assumption, by omega, by omega⟩ | exact ⟨by assumption, by omega, by omega, by omega⟩ | exact Or.inl (by assumption) | exact Or.inr (by omega) | exact Or.inr (by assumption) | exact Or.inr (Or.inl (by assumption)) | exact Or.inr (Or.inr (by omega)) | trivial), rfl, rfl⟩))))))) | exact Or.inr (Or.inr (Or.inr (Or.inr (Or.inr (Or.inr (Or.inr (Or.inr (Or.inl ⟨(by first | assumption | omega | exact ⟨by assumption, by omega⟩ | exact ⟨by assumption, by assumption⟩ | exact ⟨by assumption, by assumption, by omega⟩ | exact ⟨by assumption, by omega, by omega⟩ | exact ⟨by assumption, by omega, by omega, by omega⟩ | exact Or.inl (by assumption) | exact Or.inr (by omega) | exact Or.inr (by assumption) | exact Or.inr (Or.inl (by assumption)) | exact Or.inr (Or.inr (by omega)) | trivial), rfl, rfl⟩)))))))) | exact Or.inr (Or.inr (Or.inr (Or.inr (Or.inr (Or.inr (Or.inr (Or.inr (Or.inr (⟨(by first | assumption | omega | exact ⟨by assumption, by omega⟩ | exact ⟨by assumption, by assumption⟩ | exact ⟨by assumption, by assumption, by omega⟩ | exact ⟨by assumption, by omega, by omega⟩ | exact ⟨by assumption, by omega, by omega, by omega⟩ | exact Or.inl (by assumption) | exact Or.inr (by omega) | exact Or.inr (by assumption) | exact Or.inr (Or.inl (by assumption)) | exact Or.inr (Or.inr (by omega)) | trivial), rfl, rfl⟩))))))))))
    · rw [hv1, hm1]; clear hv1 hm1 v1 w1
      refine rd_ifnonnull_n C dX9_now_20 ?_
      refine rd_bipush C dX9_now_23 (n := -6) (by decide) ⟨by decide, by decide⟩ ?_
      exact rd_iret C dX9_now_25 (by first | exact Or.inl ⟨(by first | assumption | omega | exact ⟨by assumption, by omega⟩ | exact ⟨by assumption, by assumption⟩ | exact ⟨by assumption, by assumption, by omega⟩ | exact ⟨by assumption, by omega, by omega⟩ | exact ⟨by assumption, by omega, by omega, by omega⟩ | exact Or.inl (by assumption) | exact Or.inr (by omega) | exact Or.inr (by assumption) | exact Or.inr (Or.inl (by assumption)) | exact Or.inr (Or.inr (by omega)) | trivial), rfl, rfl⟩ | exact Or.inr (Or.inl ⟨(by first | assumption | omega | exact ⟨by assumption, by omega⟩ | exact ⟨by assumption, by assumption⟩ | exact ⟨by assumption, by assumption, by omega⟩ | exact ⟨by assumption, by omega, by omega⟩ | exact ⟨by assumption, by omega, by omega, by omega⟩ | exact Or.inl (by assumption) | exact Or.inr (by omega) | exact Or.inr (by assumption) | exact Or.inr (Or.inl (by assumption)) | exact Or.inr (Or.inr (by omega)) | trivial), rfl, rfl⟩) | exact Or.inr (Or.inr (Or.inl ⟨(by first | assumption | omega | exact ⟨by assumption, by omega⟩ | exact ⟨by assumption, by assumption⟩ | exact ⟨by assumption, by assumption, by omega⟩ | exact ⟨by assumption, by omega, by omega⟩ | exact ⟨by assumption, by omega, by omega, by omega⟩ | exact Or.inl (by assumption) | exact Or.inr (by omega) | exact Or.inr (by assumption) | exact Or.inr (Or.inl (by assumption)) | exact Or.inr (Or.inr (by omega)) | trivial), rfl, rfl⟩)) | exact Or.inr (Or.inr (Or.inr (Or.inl ⟨(by first | assumption | omega | exact ⟨by assumption, by omega⟩ | exact ⟨by assumption, by assumption⟩ | exact ⟨by assumption, by assumption, by omega⟩ | exact ⟨by assumption, by omega, by omega⟩ | exact ⟨by assumption, by omega, by omega, by omega⟩ | exact Or.inl (by assumption) | exact Or.inr (by omega) | exact Or.inr (by assumption) | exact Or.inr (Or.inl (by assumption)) | exact Or.inr (Or.inr (by omega)) | trivial), rfl, rfl⟩))) | exact Or.inr (Or.inr (Or.inr (Or.inr (Or.inl ⟨(by first | assumption | omega | exact ⟨by assumption, by omega⟩ | exact ⟨by assumption, by assumption⟩ | exact ⟨by assumption, by assumption, by omega⟩ | exact ⟨by assumption, by omega, by omega⟩ | exact ⟨by assumption, by omega, by omega, by omega⟩ | exact Or.inl (by assumption) | exact Or.inr (by omega) | exact Or.inr (by assumption) | exact Or.inr (Or.inl (by assumption)) | exact Or.inr (Or.inr (by omega)) | trivial), rfl, rfl⟩)))) | exact Or.inr (Or.inr (Or.inr (Or.inr (Or.inr (Or.inl ⟨(by first | assumption | omega | exact ⟨by assumption, by omega⟩ | exact ⟨by assumption, by assumption⟩ | exact ⟨by assumption, by assumption, by omega⟩ | exact ⟨by assumption, by omega, by omega⟩ | exact ⟨by assumption, by omega, by omega, by omega⟩ | exact Or.inl (by assumption) | exact Or.inr (by omega) | exact Or.inr (by assumption) | exact Or.inr (Or.inl (by assumption)) | exact Or.inr (Or.inr (by omega)) | trivial), rfl, rfl⟩))))) | exact Or.inr (Or.inr (Or.inr (Or.inr (Or.inr (Or.inr (Or.inl ⟨(by first | assumption | omega | exact ⟨by assumption, by omega⟩ | exact ⟨by assumption, by assumption⟩ | exact ⟨by assumption, by assumption, by omega⟩ | exact ⟨by assumption, by omega, by omega⟩ | exact ⟨by assumption, by omega, by omega, by omega⟩ | exact Or.inl (by assumption) | exact Or.inr (by omega) | exact Or.inr (by assumption) | exact Or.inr (Or.inl (by assumption)) | exact Or.inr (Or.inr (by omega)) | trivial), rfl, rfl⟩)))))) | exact Or.inr (Or.inr (Or.inr (Or.inr (Or.inr (Or.inr (Or.inr (Or.inl ⟨(by first | assumption | omega | exact ⟨by assumption, by omega⟩ | exact ⟨by assumption, by assumption⟩ | exact ⟨by assumption, by assumption, by omega⟩ | exact ⟨by assumption, by omega, by omega⟩ | exact ⟨by assumption, by omega, by omega, by omega⟩ | exact Or.inl (by assumption) | exact Or.inr (by omega) | exact Or.inr (by assumption) | exact Or.inr (Or.inl (by assumption)) | exact Or.inr (Or.inr (by omega)) | trivial), rfl, rfl⟩))))))) | exact Or.inr (Or.inr (Or.inr (Or.inr (Or.inr (Or.inr (Or.inr (Or.inr (Or.inl ⟨(by first | assumption | omega | exact ⟨by assumption, by omega⟩ | exact ⟨by assumption, by assumption⟩ | exact ⟨by assumption, by assumption, by omega⟩ | exact ⟨by assumption, by omega, by omega⟩ | exact ⟨by assumption, by omega, by omega, by omega⟩ | exact Or.inl (by assumption) | exact Or.inr (by omega) | exact Or.inr (by assumption) | exact Or.inr (Or.inl (by assumption)) | exact Or.inr (Or.inr (by omega)) | trivial), rfl, rfl⟩)))))))) | exact Or.inr (Or.inr (Or.inr (Or.inr (Or.inr (Or.inr (Or.inr (Or.inr (Or.inr (⟨(by first | assumption | omega | exact ⟨by assumption, by omega⟩ | exact ⟨by assumption, by assumption⟩ | exact ⟨by assumption, by assumption, by omega⟩ | exact ⟨by assumption, by omega, by omega⟩ | exact ⟨by assumption, by omega, by omega, by omega⟩ | exact Or.inl (by assumption) | exact Or.inr (by omega) | exact Or.inr (by assumption) | exact Or.inr (Or.inl (by assumption)) | exact Or.inr (Or.inr (by omega)) | trivial), rfl, rfl⟩))))))))))
  · rw [hv1, hm1]; clear hv1 hm1 v1 w1
    refine rd_if_ne C dX9_now_7 (tgt := 13) (by decide) (fun h => absurd h (by decide)) (fun _ => ?_)
    refine rd_bipush C dX9_now_10 (n := -2) (by decide) ⟨by decide, by decide⟩ ?_
    exact rd_iret C dX9_now_12 (by first | exact Or.inl ⟨(by first | assumption | omega | exact ⟨by assumption, by omega⟩ | exact ⟨by assumption, by assumption⟩ | exact ⟨by assumption, by assumption, by omega⟩ | exact ⟨by assumption, by omega, by omega⟩ | exact ⟨by assumption, by omega, by omega, by omega⟩ | exact Or.inl (by assumption) | exact Or.inr (by omega) | exact Or.inr (by assumption) | exact Or.inr (Or.inl (by assumption)) | exact Or.inr (Or.inr (by omega)) | trivial), rfl, rfl⟩ | exact Or.inr (Or.inl ⟨(by first | assumption | omega | exact ⟨by assumption, by omega⟩ | exact ⟨by assumption, by assumption⟩ | exact ⟨by assumption, by assumption, by omega⟩ | exact ⟨by assumption, by omega, by omega⟩ | exact ⟨by assumption, by omega, by omega, by omega⟩ | exact Or.inl (by assumption) | exact Or.inr (by omega) | exact Or.inr (by assumption) | exact Or.inr (Or.inl (by assumption)) | exact Or.inr (Or.inr (by omega)) | trivial), rfl, rfl⟩) | exact Or.inr (Or.inr (Or.inl ⟨(by first | assumption | omega | exact ⟨by assumption, by omega⟩ | exact ⟨by assumption, by assumption⟩ | exact ⟨by assumption, by assumption, by omega⟩ | exact ⟨by assumption, by omega, by omega⟩ | exact ⟨by assumption, by omega, by omega, by omega⟩ | exact Or.inl (by assumption) | exact Or.inr (by omega) | exact Or.inr (by assumption) | exact Or.inr (Or.inl (by assumption)) | exact Or.inr (Or.inr (by omega)) | trivial), rfl, rfl⟩)) | exact Or.inr (Or.inr (Or.inr (Or.inl ⟨(by first | assumption | omega | exact ⟨by assumption, by omega⟩ | exact ⟨by assumption, by assumption⟩ | exact ⟨by assumption, by assumption, by omega⟩ | exact ⟨by assumption, by omega, by omega⟩ | exact ⟨by assumption, by omega, by omega, by omega⟩ | exact Or.inl (by assumption) | exact Or.inr (by omega) | exact Or.inr (by assumption) | exact Or.inr (Or.inl (by assumption)) | exact Or.inr (Or.inr (by omega)) | trivial), rfl, rfl⟩))) | exact Or.inr (Or.inr (Or.inr (Or.inr (Or.inl ⟨(by first | assumption | omega | exact ⟨by assumption, by omega⟩ | exact ⟨by assumption, by assumption⟩ | exact ⟨by assumption, by assumption, by omega⟩ | exact ⟨by assumption, by omega, by omega⟩ | exact ⟨by assumption, by omega, by omega, by omega⟩ | exact Or.inl (by assumption) | exact Or.inr (by omega) | exact Or.inr (by assumption) | exact Or.inr (Or.inl (by assumption)) | exact Or.inr (Or.inr (by omega)) | trivial), rfl, rfl⟩)))) | exact Or.inr (Or.inr (Or.inr (Or.inr (Or.inr (Or.inl ⟨(by first | assumption | omega | exact ⟨by assumption, by omega⟩ | exact ⟨by assumption, by assumption⟩ | exact ⟨by assumption, by assumption, by omega⟩ | exact ⟨by assumption, by omega, by omega⟩ | exact ⟨by assumption, by omega, by omega, by omega⟩ | exact Or.inl (by assumption) | exact Or.inr (by omega) | exact Or.inr (by assumption) | exact Or.inr (Or.inl (by assumption)) | exact Or.inr (Or.inr (by omega)) | trivial), rfl, rfl⟩))))) | exact Or.inr (Or.inr (Or.inr (Or.inr (Or.inr (Or.inr (Or.inl ⟨(by first | assumption | omega | exact ⟨by assumption, by omega⟩ | exact ⟨by assumption, by assumption⟩ | exact ⟨by assumption, by assumption, by omega⟩ | exact ⟨by assumption, by omega, by omega⟩ | exact ⟨by assumption, by omega, by omega, by omega⟩ | exact Or.inl (by assumption) | exact Or.inr (by omega) | exact Or.inr (by assumption) | exact Or.inr (Or.inl (by assumption)) | exact Or.inr (Or.inr (by omega)) | trivial), rfl, rfl⟩)))))) | exact Or.inr (Or.inr (Or.inr (Or.inr (Or.inr (Or.inr (Or.inr (Or.inl ⟨(by first | assumption | omega | exact ⟨by assumption, by omega⟩ | exact ⟨by assumption, by assumption⟩ | exact ⟨by assumption, by assumption, by omega⟩ | exact ⟨by assumption, by omega, by omega⟩ | exact ⟨by assumption, by omega, by omega, by omega⟩ | exact Or.inl (by assumption) | exact Or.inr (by omega) | exact Or.inr (by assumption) | exact Or.inr (Or.inl (by assumption)) | exact Or.inr (Or.inr (by omega)) | trivial), rfl, rfl⟩))))))) | exact Or.inr (Or.inr (Or.inr (Or.inr (Or.inr (Or.inr (Or.inr (Or.inr (Or.inl ⟨(by first | assumption | omega | exact ⟨by assumption, by omega⟩ | exact ⟨by assumption, by assumption⟩ | exact ⟨by assumption, by assumption, by omega⟩ | exact ⟨by assumption, by omega, by omega⟩ | exact ⟨by assumption, by omega, by omega, by omega⟩ | exact Or.inl (by assumption) | exact Or.inr (by omega) | exact Or.inr (by assumption) | exact Or.inr (Or.inl (by assumption)) | exact Or.inr (Or.inr (by omega)) | trivial), rfl, rfl⟩)))))))) | exact Or.inr (Or.inr (Or.inr (Or.inr (Or.inr (Or.inr (Or.inr (Or.inr (Or.inr (⟨(by first | assumption | omega | exact ⟨by assumption, by omega⟩ | exact ⟨by assumption, by assumption⟩ | exact ⟨by assumption, by assumption, by omega⟩ | exact ⟨by assumption, by omega, by omega⟩ | exact ⟨by assumption, by omega, by omega, by omega⟩ | exact Or.inl (by assumption) | exact Or.inr (by omega) | exact Or.inr (by assumption) | exact Or.inr (Or.inl (by assumption)) | exact Or.inr (Or.inr (by omega)) | trivial), rfl, rfl⟩))))))))))
set_option maxHeartbeats 4000000 in
set_option maxRecDepth 100000 in
theorem c_X9_trail {l : Launch} {G : rd_G} {r : Nat} {μ : rd_Mem} (hI : sp_inv μ) {p0 q0 : Int} : rd_M l G rd_kc 313 r yX9_trail cX9_trail 3 (some .int) (rd_rm 2 44) [rd_R 0, rd_I p0, rd_I q0] μ (fun v μ' => ((p0 < 0 ∨ q0 < 0 ∨ 2 < q0) ∧ v = some (rd_I (-2)) ∧ μ' = μ) ∨ (((0 ≤ p0 ∧ (0 ≤ q0 ∧ q0 ≤ 2)) ∧ (¬ sp_th μ (μ 58 0) ∨ μ 58 5 ≤ p0)) ∧ v = some (rd_I (-6)) ∧ μ' = μ) ∨ (((0 ≤ p0 ∧ (0 ≤ q0 ∧ q0 ≤ 2)) ∧ sp_th μ (μ 58 0) ∧ p0 < μ 58 5) ∧ v = some (rd_I (μ (59 + q0) (μ 58 5 - 1 - p0))) ∧ μ' = μ)) := by
  refine rd_enter (by decide +kernel) (Nat.le_of_ble_eq_true rfl) [rd_R 0, rd_I p0, rd_I q0] rfl (fun p e s m args below meth c C => ?_)
  refine rd_W.rng (fun hM hL _ => ?_)
  have hc1 := hI.1.1.1
  have hc2 := hI.1.1.2
  have hn1 := hI.2.2.2.2.1.1
  have hn2 := hI.2.2.2.2.1.2
  have htc := hI.1.2.2.2.1
  have hst := hI.1.2.2.2.2
  have hx1 := hI.2.2.2.1.1.1
  have hx2 := hI.2.2.2.1.1.2
  have hh1 := hI.2.2.1.2.1.1
  have hh2 := hI.2.2.1.2.1.2
  refine rd_iload_n C dX9_trail_0 rfl ?_
  refine rd_if_lt C dX9_trail_1 (tgt := 13) (by decide) (fun h_1 => ?_) (fun h_1 => ?_)
  · refine rd_bipush C dX9_trail_13 (n := -2) (by decide) ⟨by decide, by decide⟩ ?_
    exact rd_iret C dX9_trail_15 (by first | exact Or.inl ⟨(by omega), rfl, rfl⟩ | exact Or.inr (Or.inl ⟨⟨⟨(by omega), (by omega)⟩, (by first | exact Or.inl (by assumption) | exact Or.inr (by omega))⟩, rfl, rfl⟩) | exact Or.inr (Or.inr ⟨⟨⟨(by omega), (by omega)⟩, (by assumption), (by omega)⟩, rfl, rfl⟩))
  · refine rd_iload_n C dX9_trail_4 rfl ?_
    refine rd_iconst C dX9_trail_5 (n := 0) ⟨by decide, by decide⟩ ?_
    refine rd_iconst C dX9_trail_6 (n := 2) ⟨by decide, by decide⟩ ?_
    refine rd_callS C (c_X9_isWithin) rm_X9_82 rt_X9_isWithin rc_X9_isWithin rz_X9 ⟨rp_X9_isWithin, rfl, rfl, by decide, by decide⟩ rfl dX9_trail_7 rfl (Nat.le_of_ble_eq_true rfl) (fun v1 w1 hq => ?_)
    rcases hq with ⟨hw_10, hv1, hm1⟩ | ⟨hw_10, hv1, hm1⟩
    · rw [hv1, hm1]; clear hv1 hm1 v1 w1
      refine rd_if_ne C dX9_trail_10 (tgt := 16) (by decide) (fun _ => ?_) (fun h => absurd h (by decide))
      refine rd_aload_n C dX9_trail_16 rfl ?_
      refine rd_get C rd_g9_0 rf_X9_10 dX9_trail_17 rd_b0 rd_k0 (x := rd_R (1)) rfl (fun _ => trivial) ?_
      refine rd_callV C (c_X8_here) rm_X9_154 ri_X8_here rs_X8_here rc_X8_here rz_X8 ⟨rp_X8_here, rfl, rfl, by decide, by decide⟩ rfl rd_kcl8 dX9_trail_20 rd_b1 rd_k1 rfl (Nat.le_of_ble_eq_true rfl) (fun v1 w1 hq => ?_)
      rcases hq with ⟨hw_23, hv1, hm1⟩ | ⟨hw_23, hv1, hm1⟩
      · rw [hv1, hm1]; clear hv1 hm1 v1 w1
        have hS_h := rd_sl1 hw_23.1.1 hw_23.1.2
        have hrh := hw_23.1
        have hith := hI.1.2.1 _ hw_23.1.1 hw_23.1.2
        refine rd_ifnull_r C dX9_trail_23 ?_
        refine rd_iload_n C dX9_trail_26 rfl ?_
        refine rd_aload_n C dX9_trail_27 rfl ?_
        refine rd_get C rd_g9_0 rf_X9_10 dX9_trail_28 rd_b0 rd_k0 (x := rd_R (1)) rfl (fun _ => trivial) ?_
        refine rd_get C rd_g8_3 rf_X9_66 dX9_trail_31 rd_b1 rd_k1 (x := rd_R (58)) rfl (fun _ => trivial) ?_
        refine rd_get C rd_g6_5 rf_X9_242 dX9_trail_34 rd_b58 rd_k58 (x := rd_I (μ 58 5)) rfl (fun h => h _ _) ?_
        refine rd_icmp_lt C dX9_trail_37 (tgt := 43) (by decide) (fun h_37 => ?_) (fun h_37 => ?_)
        · refine rd_aload_n C dX9_trail_43 rfl ?_
          refine rd_get C rd_g9_0 rf_X9_10 dX9_trail_44 rd_b0 rd_k0 (x := rd_R (1)) rfl (fun _ => trivial) ?_
          refine rd_get C rd_g8_3 rf_X9_66 dX9_trail_47 rd_b1 rd_k1 (x := rd_R (58)) rfl (fun _ => trivial) ?_
          refine rd_aload_n C dX9_trail_50 rfl ?_
          refine rd_get C rd_g9_0 rf_X9_10 dX9_trail_51 rd_b0 rd_k0 (x := rd_R (1)) rfl (fun _ => trivial) ?_
          refine rd_get C rd_g8_3 rf_X9_66 dX9_trail_54 rd_b1 rd_k1 (x := rd_R (58)) rfl (fun _ => trivial) ?_
          refine rd_get C rd_g6_5 rf_X9_242 dX9_trail_57 rd_b58 rd_k58 (x := rd_I (μ 58 5)) rfl (fun h => h _ _) ?_
          refine rd_iconst C dX9_trail_60 (n := 1) ⟨by decide, by decide⟩ ?_
          refine rd_isub C dX9_trail_61 (z := μ 58 5 - 1) rfl ⟨by omega, by omega⟩ ?_
          refine rd_iload_n C dX9_trail_62 rfl ?_
          refine rd_isub C dX9_trail_63 (z := μ 58 5 - 1 - p0) rfl ⟨by omega, by omega⟩ ?_
          refine rd_iload_n C dX9_trail_64 rfl ?_
          refine rd_callV C (c_X6_trailValue (by omega) (by omega) (by omega) (by omega) (by omega)) rm_X9_252 ri_X6_trailValue rs_X6_trailValue rc_X6_trailValue rz_X6 ⟨rp_X6_trailValue, rfl, rfl, by decide, by decide⟩ rfl rd_kcl6 dX9_trail_65 rd_b58 rd_k58 rfl (Nat.le_of_ble_eq_true rfl) (fun v1 w1 hq => ?_)
          obtain ⟨hv1, hm1⟩ := hq; rw [show v1 = some (rd_I (μ (59 + q0) (μ 58 5 - 1 - p0))) from hv1, hm1]; clear hv1 hm1
          exact rd_iret C dX9_trail_68 (by first | exact Or.inl ⟨(by omega), rfl, rfl⟩ | exact Or.inr (Or.inl ⟨⟨⟨(by omega), (by omega)⟩, (by first | exact Or.inl (by assumption) | exact Or.inr (by omega))⟩, rfl, rfl⟩) | exact Or.inr (Or.inr ⟨⟨⟨(by omega), (by omega)⟩, (by assumption), (by omega)⟩, rfl, rfl⟩))
        · refine rd_bipush C dX9_trail_40 (n := -6) (by decide) ⟨by decide, by decide⟩ ?_
          exact rd_iret C dX9_trail_42 (by first | exact Or.inl ⟨(by omega), rfl, rfl⟩ | exact Or.inr (Or.inl ⟨⟨⟨(by omega), (by omega)⟩, (by first | exact Or.inl (by assumption) | exact Or.inr (by omega))⟩, rfl, rfl⟩) | exact Or.inr (Or.inr ⟨⟨⟨(by omega), (by omega)⟩, (by assumption), (by omega)⟩, rfl, rfl⟩))
      · rw [hv1, hm1]; clear hv1 hm1 v1 w1
        refine rd_ifnull_n C dX9_trail_23 (tgt := 40) (by decide) ?_
        refine rd_bipush C dX9_trail_40 (n := -6) (by decide) ⟨by decide, by decide⟩ ?_
        exact rd_iret C dX9_trail_42 (by first | exact Or.inl ⟨(by omega), rfl, rfl⟩ | exact Or.inr (Or.inl ⟨⟨⟨(by omega), (by omega)⟩, (by first | exact Or.inl (by assumption) | exact Or.inr (by omega))⟩, rfl, rfl⟩) | exact Or.inr (Or.inr ⟨⟨⟨(by omega), (by omega)⟩, (by assumption), (by omega)⟩, rfl, rfl⟩))
    · rw [hv1, hm1]; clear hv1 hm1 v1 w1
      refine rd_if_ne C dX9_trail_10 (tgt := 16) (by decide) (fun h => absurd h (by decide)) (fun _ => ?_)
      refine rd_bipush C dX9_trail_13 (n := -2) (by decide) ⟨by decide, by decide⟩ ?_
      exact rd_iret C dX9_trail_15 (by first | exact Or.inl ⟨(by omega), rfl, rfl⟩ | exact Or.inr (Or.inl ⟨⟨⟨(by omega), (by omega)⟩, (by first | exact Or.inl (by assumption) | exact Or.inr (by omega))⟩, rfl, rfl⟩) | exact Or.inr (Or.inr ⟨⟨⟨(by omega), (by omega)⟩, (by assumption), (by omega)⟩, rfl, rfl⟩))
set_option maxHeartbeats 4000000 in
set_option maxRecDepth 100000 in
theorem c_X9_labels {l : Launch} {G : rd_G} {r : Nat} {μ : rd_Mem} (hI : sp_inv μ) : rd_M l G rd_kc 313 r yX9_labels cX9_labels 2 (some .int) (rd_rm 2 45) [rd_R 0] μ (fun v μ' => (¬ sp_th μ (μ 58 0) ∧ v = some (rd_I (-6)) ∧ μ' = μ) ∨ (sp_th μ (μ 58 0) ∧ v = some (rd_I (sp_tags (μ (5 + 5 * μ 58 0 + 1)) (μ (5 + 5 * μ 58 0 + 2)) (μ (5 + 5 * μ 58 0 + 3)) (μ 58 1) (μ (5 + 5 * μ 58 0) 3).toNat)) ∧ μ' = μ)) := by
  refine rd_enter (by decide +kernel) (Nat.le_of_ble_eq_true rfl) [rd_R 0, rd_J] rfl (fun p e s m args below meth c C => ?_)
  refine rd_W.rng (fun hM hL _ => ?_)
  have hc1 := hI.1.1.1
  have hc2 := hI.1.1.2
  have hn1 := hI.2.2.2.2.1.1
  have hn2 := hI.2.2.2.2.1.2
  have htc := hI.1.2.2.2.1
  have hst := hI.1.2.2.2.2
  have hx1 := hI.2.2.2.1.1.1
  have hx2 := hI.2.2.2.1.1.2
  have hh1 := hI.2.2.1.2.1.1
  have hh2 := hI.2.2.1.2.1.2
  refine rd_aload_n C dX9_labels_0 rfl ?_
  refine rd_get C rd_g9_0 rf_X9_10 dX9_labels_1 rd_b0 rd_k0 (x := rd_R (1)) rfl (fun _ => trivial) ?_
  refine rd_callV C (c_X8_here) rm_X9_154 ri_X8_here rs_X8_here rc_X8_here rz_X8 ⟨rp_X8_here, rfl, rfl, by decide, by decide⟩ rfl rd_kcl8 dX9_labels_4 rd_b1 rd_k1 rfl (Nat.le_of_ble_eq_true rfl) (fun v1 w1 hq => ?_)
  rcases hq with ⟨hw_7, hv1, hm1⟩ | ⟨hw_7, hv1, hm1⟩
  · rw [hv1, hm1]; clear hv1 hm1 v1 w1
    have hS_h := rd_sl1 hw_7.1.1 hw_7.1.2
    have hrh := hw_7.1
    have hith := hI.1.2.1 _ hw_7.1.1 hw_7.1.2
    refine rd_astore_n C dX9_labels_7 (by decide) (L' := [rd_R 0, rd_R (5 + 5 * μ 58 0)]) rfl ?_
    refine rd_aload_n C dX9_labels_8 rfl ?_
    refine rd_ifnonnull_r C dX9_labels_9 (tgt := 17) (by decide) ?_
    refine rd_aload_n C dX9_labels_17 rfl ?_
    refine rd_aload_n C dX9_labels_18 rfl ?_
    refine rd_get C rd_g9_0 rf_X9_10 dX9_labels_19 rd_b0 rd_k0 (x := rd_R (1)) rfl (fun _ => trivial) ?_
    refine rd_get C rd_g8_3 rf_X9_66 dX9_labels_22 rd_b1 rd_k1 (x := rd_R (58)) rfl (fun _ => trivial) ?_
    refine rd_get C rd_g6_1 rf_X9_172 dX9_labels_25 rd_b58 rd_k58 (x := rd_I (μ 58 1)) rfl (fun h => h _ _) ?_
    refine rd_callV C (c_X7_sumTagsAt hS_h hith.1 hith.2 (fun q a b => hI.2.2.2.2.2.2.1 _ hrh.1 hrh.2 q a b)) rm_X9_256 ri_X7_sumTagsAt rs_X7_sumTagsAt rc_X7_sumTagsAt rz_X7 ⟨rp_X7_sumTagsAt, rfl, rfl, by decide, by decide⟩ rfl rd_kcl7 dX9_labels_28 hS_h.1 hS_h.2.2.2.2.2.1 rfl (Nat.le_of_ble_eq_true rfl) (fun v1 w1 hq => ?_)
    obtain ⟨hv1, hm1⟩ := hq; rw [show v1 = some (rd_I (sp_tags (μ (5 + 5 * μ 58 0 + 1)) (μ (5 + 5 * μ 58 0 + 2)) (μ (5 + 5 * μ 58 0 + 3)) (μ 58 1) (μ (5 + 5 * μ 58 0) 3).toNat)) from hv1, hm1]; clear hv1 hm1
    exact rd_iret C dX9_labels_31 (by first | exact Or.inl ⟨(by first | assumption | omega | exact ⟨by assumption, by omega⟩ | exact ⟨by assumption, by assumption⟩ | exact ⟨by assumption, by assumption, by omega⟩ | exact ⟨by assumption, by omega, by omega⟩ | exact ⟨by assumption, by omega, by omega, by omega⟩ | exact Or.inl (by assumption) | exact Or.inr (by omega) | exact Or.inr (by assumption) | exact Or.inr (Or.inl (by assumption)) | exact Or.inr (Or.inr (by omega)) | trivial), rfl, rfl⟩ | exact Or.inr (⟨(by first | assumption | omega | exact ⟨by assumption, by omega⟩ | exact ⟨by assumption, by assumption⟩ | exact ⟨by assumption, by assumption, by omega⟩ | exact ⟨by assumption, by omega, by omega⟩ | exact ⟨by assumption, by omega, by omega, by omega⟩ | exact Or.inl (by assumption) | exact Or.inr (by omega) | exact Or.inr (by assumption) | exact Or.inr (Or.inl (by assumption)) | exact Or.inr (Or.inr (by omega)) | trivial), rfl, rfl⟩))
  · rw [hv1, hm1]; clear hv1 hm1 v1 w1
    refine rd_astore_nN C dX9_labels_7 (by decide) (L' := [rd_R 0, rd_N]) rfl ?_
    refine rd_aload_n C dX9_labels_8 rfl ?_
    refine rd_ifnonnull_n C dX9_labels_9 ?_
    refine rd_bipush C dX9_labels_12 (n := -6) (by decide) ⟨by decide, by decide⟩ ?_
    refine rd_goto C dX9_labels_14 (tgt := 31) (by decide) ?_
    exact rd_iret C dX9_labels_31 (by first | exact Or.inl ⟨(by first | assumption | omega | exact ⟨by assumption, by omega⟩ | exact ⟨by assumption, by assumption⟩ | exact ⟨by assumption, by assumption, by omega⟩ | exact ⟨by assumption, by omega, by omega⟩ | exact ⟨by assumption, by omega, by omega, by omega⟩ | exact Or.inl (by assumption) | exact Or.inr (by omega) | exact Or.inr (by assumption) | exact Or.inr (Or.inl (by assumption)) | exact Or.inr (Or.inr (by omega)) | trivial), rfl, rfl⟩ | exact Or.inr (⟨(by first | assumption | omega | exact ⟨by assumption, by omega⟩ | exact ⟨by assumption, by assumption⟩ | exact ⟨by assumption, by assumption, by omega⟩ | exact ⟨by assumption, by omega, by omega⟩ | exact ⟨by assumption, by omega, by omega, by omega⟩ | exact Or.inl (by assumption) | exact Or.inr (by omega) | exact Or.inr (by assumption) | exact Or.inr (Or.inl (by assumption)) | exact Or.inr (Or.inr (by omega)) | trivial), rfl, rfl⟩))
set_option maxHeartbeats 4000000 in
set_option maxRecDepth 100000 in
theorem c_X9_noteNow {l : Launch} {G : rd_G} {r : Nat} {μ : rd_Mem} (hI : sp_inv μ) : rd_M l G rd_kc 313 r yX9_noteNow cX9_noteNow 1 (some .int) (rd_rm 2 42) [rd_R 0] μ (fun v μ' => (¬ sp_th μ (μ 58 0) ∧ v = some (rd_I (-6)) ∧ μ' = μ) ∨ (sp_th μ (μ 58 0) ∧ v = some (rd_I ((sp_lat (μ 56) (μ 57) (μ 58 3) (μ 55 0).toNat).2)) ∧ μ' = μ)) := by
  refine rd_enter (by decide +kernel) (Nat.le_of_ble_eq_true rfl) [rd_R 0] rfl (fun p e s m args below meth c C => ?_)
  refine rd_W.rng (fun hM hL _ => ?_)
  have hc1 := hI.1.1.1
  have hc2 := hI.1.1.2
  have hn1 := hI.2.2.2.2.1.1
  have hn2 := hI.2.2.2.2.1.2
  have htc := hI.1.2.2.2.1
  have hst := hI.1.2.2.2.2
  have hx1 := hI.2.2.2.1.1.1
  have hx2 := hI.2.2.2.1.1.2
  have hh1 := hI.2.2.1.2.1.1
  have hh2 := hI.2.2.1.2.1.2
  refine rd_aload_n C dX9_noteNow_0 rfl ?_
  refine rd_get C rd_g9_0 rf_X9_10 dX9_noteNow_1 rd_b0 rd_k0 (x := rd_R (1)) rfl (fun _ => trivial) ?_
  refine rd_callV C (c_X8_here) rm_X9_154 ri_X8_here rs_X8_here rc_X8_here rz_X8 ⟨rp_X8_here, rfl, rfl, by decide, by decide⟩ rfl rd_kcl8 dX9_noteNow_4 rd_b1 rd_k1 rfl (Nat.le_of_ble_eq_true rfl) (fun v1 w1 hq => ?_)
  rcases hq with ⟨hw_7, hv1, hm1⟩ | ⟨hw_7, hv1, hm1⟩
  · rw [hv1, hm1]; clear hv1 hm1 v1 w1
    have hS_h := rd_sl1 hw_7.1.1 hw_7.1.2
    have hrh := hw_7.1
    have hith := hI.1.2.1 _ hw_7.1.1 hw_7.1.2
    refine rd_ifnonnull_r C dX9_noteNow_7 (tgt := 15) (by decide) ?_
    refine rd_aload_n C dX9_noteNow_15 rfl ?_
    refine rd_get C rd_g9_0 rf_X9_10 dX9_noteNow_16 rd_b0 rd_k0 (x := rd_R (1)) rfl (fun _ => trivial) ?_
    refine rd_get C rd_g8_2 rf_X9_131 dX9_noteNow_19 rd_b1 rd_k1 (x := rd_R (55)) rfl (fun _ => trivial) ?_
    refine rd_aload_n C dX9_noteNow_22 rfl ?_
    refine rd_get C rd_g9_0 rf_X9_10 dX9_noteNow_23 rd_b0 rd_k0 (x := rd_R (1)) rfl (fun _ => trivial) ?_
    refine rd_get C rd_g8_3 rf_X9_66 dX9_noteNow_26 rd_b1 rd_k1 (x := rd_R (58)) rfl (fun _ => trivial) ?_
    refine rd_get C rd_g6_3 rf_X9_158 dX9_noteNow_29 rd_b58 rd_k58 (x := rd_I (μ 58 3)) rfl (fun h => h _ _) ?_
    refine rd_callV C (c_X3_latestAt hn1 hn2) rm_X9_259 ri_X3_latestAt rs_X3_latestAt rc_X3_latestAt rz_X3 ⟨rp_X3_latestAt, rfl, rfl, by decide, by decide⟩ rfl rd_kcl3 dX9_noteNow_32 rd_b55 rd_k55 rfl (Nat.le_of_ble_eq_true rfl) (fun v1 w1 hq => ?_)
    obtain ⟨hv1, hm1⟩ := hq; rw [show v1 = some (rd_I ((sp_lat (μ 56) (μ 57) (μ 58 3) (μ 55 0).toNat).2)) from hv1, hm1]; clear hv1 hm1
    exact rd_iret C dX9_noteNow_35 (by first | exact Or.inl ⟨(by first | assumption | omega | exact ⟨by assumption, by omega⟩ | exact ⟨by assumption, by assumption⟩ | exact ⟨by assumption, by assumption, by omega⟩ | exact ⟨by assumption, by omega, by omega⟩ | exact ⟨by assumption, by omega, by omega, by omega⟩ | exact Or.inl (by assumption) | exact Or.inr (by omega) | exact Or.inr (by assumption) | exact Or.inr (Or.inl (by assumption)) | exact Or.inr (Or.inr (by omega)) | trivial), rfl, rfl⟩ | exact Or.inr (⟨(by first | assumption | omega | exact ⟨by assumption, by omega⟩ | exact ⟨by assumption, by assumption⟩ | exact ⟨by assumption, by assumption, by omega⟩ | exact ⟨by assumption, by omega, by omega⟩ | exact ⟨by assumption, by omega, by omega, by omega⟩ | exact Or.inl (by assumption) | exact Or.inr (by omega) | exact Or.inr (by assumption) | exact Or.inr (Or.inl (by assumption)) | exact Or.inr (Or.inr (by omega)) | trivial), rfl, rfl⟩))
  · rw [hv1, hm1]; clear hv1 hm1 v1 w1
    refine rd_ifnonnull_n C dX9_noteNow_7 ?_
    refine rd_bipush C dX9_noteNow_10 (n := -6) (by decide) ⟨by decide, by decide⟩ ?_
    refine rd_goto C dX9_noteNow_12 (tgt := 35) (by decide) ?_
    exact rd_iret C dX9_noteNow_35 (by first | exact Or.inl ⟨(by first | assumption | omega | exact ⟨by assumption, by omega⟩ | exact ⟨by assumption, by assumption⟩ | exact ⟨by assumption, by assumption, by omega⟩ | exact ⟨by assumption, by omega, by omega⟩ | exact ⟨by assumption, by omega, by omega, by omega⟩ | exact Or.inl (by assumption) | exact Or.inr (by omega) | exact Or.inr (by assumption) | exact Or.inr (Or.inl (by assumption)) | exact Or.inr (Or.inr (by omega)) | trivial), rfl, rfl⟩ | exact Or.inr (⟨(by first | assumption | omega | exact ⟨by assumption, by omega⟩ | exact ⟨by assumption, by assumption⟩ | exact ⟨by assumption, by assumption, by omega⟩ | exact ⟨by assumption, by omega, by omega⟩ | exact ⟨by assumption, by omega, by omega, by omega⟩ | exact Or.inl (by assumption) | exact Or.inr (by omega) | exact Or.inr (by assumption) | exact Or.inr (Or.inl (by assumption)) | exact Or.inr (Or.inr (by omega)) | trivial), rfl, rfl⟩))
set_option maxHeartbeats 4000000 in
set_option maxRecDepth 100000 in
theorem c_X9_backTo {l : Launch} {G : rd_G} {r : Nat} {μ : rd_Mem} (hI : sp_inv μ) : rd_M l G rd_kc 313 r yX9_backTo cX9_backTo 1 (some .int) (rd_rm 4 106) [rd_R 0] μ (fun v μ' => (¬ sp_can μ 98 0 ∧ v = some (rd_I (-6)) ∧ μ' = μ) ∨ (sp_can μ 98 0 ∧ v = some (rd_I (μ 59 (sp_bp μ))) ∧ μ' = μ)) := by
  refine rd_enter (by decide +kernel) (Nat.le_of_ble_eq_true rfl) [rd_R 0] rfl (fun p e s m args below meth c C => ?_)
  refine rd_W.rng (fun hM hL _ => ?_)
  have hc1 := hI.1.1.1
  have hc2 := hI.1.1.2
  have hn1 := hI.2.2.2.2.1.1
  have hn2 := hI.2.2.2.2.1.2
  have htc := hI.1.2.2.2.1
  have hst := hI.1.2.2.2.2
  have hx1 := hI.2.2.2.1.1.1
  have hx2 := hI.2.2.2.1.1.2
  have hh1 := hI.2.2.1.2.1.1
  have hh2 := hI.2.2.1.2.1.2
  refine rd_aload_n C dX9_backTo_0 rfl ?_
  refine rd_get C rd_g9_0 rf_X9_10 dX9_backTo_1 rd_b0 rd_k0 (x := rd_R (1)) rfl (fun _ => trivial) ?_
  refine rd_bipush C dX9_backTo_4 (n := 98) (by decide) ⟨by decide, by decide⟩ ?_
  refine rd_iconst C dX9_backTo_6 (n := 0) ⟨by decide, by decide⟩ ?_
  refine rd_callV C (c_X8_canMake (c0 := 98) (q0 := 0) hI.1) rm_X9_164 ri_X8_canMake rs_X8_canMake rc_X8_canMake rz_X8 ⟨rp_X8_canMake, rfl, rfl, by decide, by decide⟩ rfl rd_kcl8 dX9_backTo_7 rd_b1 rd_k1 rfl (Nat.le_of_ble_eq_true rfl) (fun v1 w1 hq => ?_)
  rcases hq with ⟨hw_10, hv1, hm1⟩ | ⟨hw_10, hv1, hm1⟩
  · rw [hv1, hm1]; clear hv1 hm1 v1 w1
    refine rd_if_eq C dX9_backTo_10 (tgt := 34) (by decide) (fun h => absurd h (by decide)) (fun _ => ?_)
    refine rd_aload_n C dX9_backTo_13 rfl ?_
    refine rd_get C rd_g9_0 rf_X9_10 dX9_backTo_14 rd_b0 rd_k0 (x := rd_R (1)) rfl (fun _ => trivial) ?_
    refine rd_get C rd_g8_3 rf_X9_66 dX9_backTo_17 rd_b1 rd_k1 (x := rd_R (58)) rfl (fun _ => trivial) ?_
    refine rd_aload_n C dX9_backTo_20 rfl ?_
    refine rd_get C rd_g9_0 rf_X9_10 dX9_backTo_21 rd_b0 rd_k0 (x := rd_R (1)) rfl (fun _ => trivial) ?_
    refine rd_callV C (c_X8_backPlace htc.1 htc.2) rm_X9_276 ri_X8_backPlace rs_X8_backPlace rc_X8_backPlace rz_X8 ⟨rp_X8_backPlace, rfl, rfl, by decide, by decide⟩ rfl rd_kcl8 dX9_backTo_24 rd_b1 rd_k1 rfl (Nat.le_of_ble_eq_true rfl) (fun v1 w1 hq => ?_)
    obtain ⟨hv1, hm1⟩ := hq; rw [show v1 = some (rd_I (sp_bp μ)) from hv1, hm1]; clear hv1 hm1
    have hb := sp_bp_r (hw_10.2.2.2.1 rfl) htc.1
    refine rd_iconst C dX9_backTo_27 (n := 0) ⟨by decide, by decide⟩ ?_
    refine rd_callV C (c_X6_trailValue (p0 := sp_bp μ) (q0 := 0) hb.1.1 hb.1.2 (by omega) (by omega) (by omega)) rm_X9_252 ri_X6_trailValue rs_X6_trailValue rc_X6_trailValue rz_X6 ⟨rp_X6_trailValue, rfl, rfl, by decide, by decide⟩ rfl rd_kcl6 dX9_backTo_28 rd_b58 rd_k58 rfl (Nat.le_of_ble_eq_true rfl) (fun v1 w1 hq => ?_)
    obtain ⟨hv1, hm1⟩ := hq; rw [show v1 = some (rd_I (μ 59 (sp_bp μ))) from hv1, hm1]; clear hv1 hm1 v1 w1
    refine rd_goto C dX9_backTo_31 (tgt := 36) (by decide) ?_
    exact rd_iret C dX9_backTo_36 (by first | exact Or.inl ⟨(by first | assumption | omega | exact ⟨by assumption, by omega⟩ | exact ⟨by assumption, by assumption⟩ | exact ⟨by assumption, by assumption, by omega⟩ | exact ⟨by assumption, by omega, by omega⟩ | exact ⟨by assumption, by omega, by omega, by omega⟩ | exact Or.inl (by assumption) | exact Or.inr (by omega) | exact Or.inr (by assumption) | exact Or.inr (Or.inl (by assumption)) | exact Or.inr (Or.inr (by omega)) | trivial), rfl, rfl⟩ | exact Or.inr (⟨(by first | assumption | omega | exact ⟨by assumption, by omega⟩ | exact ⟨by assumption, by assumption⟩ | exact ⟨by assumption, by assumption, by omega⟩ | exact ⟨by assumption, by omega, by omega⟩ | exact ⟨by assumption, by omega, by omega, by omega⟩ | exact Or.inl (by assumption) | exact Or.inr (by omega) | exact Or.inr (by assumption) | exact Or.inr (Or.inl (by assumption)) | exact Or.inr (Or.inr (by omega)) | trivial), rfl, rfl⟩))
  · rw [hv1, hm1]; clear hv1 hm1 v1 w1
    refine rd_if_eq C dX9_backTo_10 (tgt := 34) (by decide) (fun _ => ?_) (fun h => absurd h (by decide))
    refine rd_bipush C dX9_backTo_34 (n := -6) (by decide) ⟨by decide, by decide⟩ ?_
    exact rd_iret C dX9_backTo_36 (by first | exact Or.inl ⟨(by first | assumption | omega | exact ⟨by assumption, by omega⟩ | exact ⟨by assumption, by assumption⟩ | exact ⟨by assumption, by assumption, by omega⟩ | exact ⟨by assumption, by omega, by omega⟩ | exact ⟨by assumption, by omega, by omega, by omega⟩ | exact Or.inl (by assumption) | exact Or.inr (by omega) | exact Or.inr (by assumption) | exact Or.inr (Or.inl (by assumption)) | exact Or.inr (Or.inr (by omega)) | trivial), rfl, rfl⟩ | exact Or.inr (⟨(by first | assumption | omega | exact ⟨by assumption, by omega⟩ | exact ⟨by assumption, by assumption⟩ | exact ⟨by assumption, by assumption, by omega⟩ | exact ⟨by assumption, by omega, by omega⟩ | exact ⟨by assumption, by omega, by omega, by omega⟩ | exact Or.inl (by assumption) | exact Or.inr (by omega) | exact Or.inr (by assumption) | exact Or.inr (Or.inl (by assumption)) | exact Or.inr (Or.inr (by omega)) | trivial), rfl, rfl⟩))
