set_option maxHeartbeats 4000000 in
set_option maxRecDepth 100000 in
theorem c_X2_dropOldest {l : Launch} {G : rd_G} {r : Nat} {μ : rd_Mem} (hp : sp_hp μ) : rd_M l G rd_kc 313 r yX2_dropOldest cX2_dropOldest 3 none (rd_rm 0 0) [rd_R 62] μ (fun v μ' => v = none ∧ μ' = rd_hdo μ) := by
  refine rd_enter (by decide +kernel) (Nat.le_of_ble_eq_true rfl) [rd_R 62, rd_J, rd_J] rfl (fun p e s m args below meth c C => ?_)
  refine rd_W.rng (fun hM hL _ => ?_)
  have h630 := hp 0 (by omega) (by omega)
  refine rd_aload_n C dX2_dropOldest_0 rfl ?_
  refine rd_get C rd_g2_1 rf_X2_11 dX2_dropOldest_1 rd_b62 rd_k62 (x := rd_R (63)) rfl (fun _ => trivial) ?_
  refine rd_iconst C dX2_dropOldest_4 (n := 0) ⟨by decide, by decide⟩ ?_
  refine rd_aald17 C dX2_dropOldest_5 rd_b63 rd_k63 ⟨by omega, by omega⟩ (k' := 64 + 61 * μ 63 0) (by omega) ?_
  refine rd_astore_n C dX2_dropOldest_6 (by decide) (L' := [rd_R 62, rd_R (64 + 61 * μ 63 0), rd_J]) rfl ?_
  refine rd_aload_n C dX2_dropOldest_7 rfl ?_
  refine rd_iconst C dX2_dropOldest_8 (n := 3) ⟨by decide, by decide⟩ ?_
  refine rd_put C rd_p2_0 rf_X2_18 dX2_dropOldest_9 rd_b62 rd_k62 trivial ?_
  refine rd_iconst C dX2_dropOldest_12 (n := 0) ⟨by decide, by decide⟩ ?_
  refine rd_istore_n C dX2_dropOldest_13 (by decide) (L' := [rd_R 62, rd_R (64 + 61 * μ 63 0), rd_I 0]) rfl ?_
  have lp14 : ∀ (n : Nat) (k : Int) (μ1 : rd_Mem), (0 ≤ k) → (k ≤ 3) → (3 < k + n) → (μ1 = rd_hdk μ k) → rd_W p l e (rd_rm 0 0) s m args below meth c (MQ below (rd_Qc G rd_kc 313 r (fun v μ' => v = none ∧ μ' = rd_hdo μ)) args s 0 0 (rd_A r 313)) 3 G rd_kc 313 r 14 [rd_R 62, rd_R (64 + 61 * μ 63 0), rd_I k] [] μ1 := by
    intro n
    induction n with
    | zero => intro k μ1  h1 h2 h3 hm; exfalso; omega
    | succ n ih =>
      intro k μ1  h1 h2 h3 hm
      have hc3 : μ1 62 0 = 3 := by rw [hm]; simp [rd_hdk]
      refine rd_iload_n C dX2_dropOldest_14 rfl ?_
      refine rd_aload_n C dX2_dropOldest_15 rfl ?_
      refine rd_get C rd_g2_0 rf_X2_18 dX2_dropOldest_16 rd_b62 rd_k62 (x := rd_I (μ1 62 0)) rfl (fun h => h _ _) ?_
      refine rd_icmp_ge C dX2_dropOldest_19 (tgt := 42) (by decide) (fun h_19 => ?_) (fun h_19 => ?_)
      · refine rd_aload_n C dX2_dropOldest_42 rfl ?_
        refine rd_get C rd_g2_1 rf_X2_11 dX2_dropOldest_43 rd_b62 rd_k62 (x := rd_R (63)) rfl (fun _ => trivial) ?_
        refine rd_aload_n C dX2_dropOldest_46 rfl ?_
        refine rd_get C rd_g2_0 rf_X2_18 dX2_dropOldest_47 rd_b62 rd_k62 (x := rd_I (μ1 62 0)) rfl (fun h => h _ _) ?_
        refine rd_aload_n C dX2_dropOldest_50 rfl ?_
        refine rd_aast17 C dX2_dropOldest_51 rd_b63 rd_k63 ⟨by omega, by omega⟩ ⟨by omega, by omega⟩ (rd_isBh h630).t.2.1 (t := μ 63 0) (by omega) ⟨by omega, by omega⟩ ?_
        exact rd_vret C dX2_dropOldest_52 ⟨rfl, by rw [hm, show k = 3 by omega, show rd_hdk μ 3 62 0 = 3 by simp [rd_hdk]]; rfl⟩
      · have h63k := hp (k + 1) (by omega) (by omega)
        refine rd_aload_n C dX2_dropOldest_22 rfl ?_
        refine rd_get C rd_g2_1 rf_X2_11 dX2_dropOldest_23 rd_b62 rd_k62 (x := rd_R (63)) rfl (fun _ => trivial) ?_
        refine rd_iload_n C dX2_dropOldest_26 rfl ?_
        refine rd_aload_n C dX2_dropOldest_27 rfl ?_
        refine rd_get C rd_g2_1 rf_X2_11 dX2_dropOldest_28 rd_b62 rd_k62 (x := rd_R (63)) rfl (fun _ => trivial) ?_
        refine rd_iload_n C dX2_dropOldest_31 rfl ?_
        refine rd_iconst C dX2_dropOldest_32 (n := 1) ⟨by decide, by decide⟩ ?_
        refine rd_iadd C dX2_dropOldest_33 (z := k + 1) rfl ⟨by omega, by omega⟩ ?_
        refine rd_aald17 C dX2_dropOldest_34 rd_b63 rd_k63 ⟨by omega, by omega⟩ (k' := 64 + 61 * μ 63 (k + 1)) (by rw [hm]; simp only [rd_hdk]; rw [if_neg (by omega), if_neg (by omega)]; omega) ?_
        refine rd_aast17 C dX2_dropOldest_35 rd_b63 rd_k63 ⟨by omega, by omega⟩ ⟨by omega, by omega⟩ (rd_isBh h63k).t.2.1 (t := μ 63 (k + 1)) (by omega) ⟨by omega, by omega⟩ ?_
        refine rd_iinc C dX2_dropOldest_36 (by decide) rfl ⟨by omega, by omega⟩ (L' := [rd_R 62, rd_R (64 + 61 * μ 63 0), rd_I (k + 1)]) rfl ?_
        refine rd_goto C dX2_dropOldest_39 (tgt := 14) (by decide) ?_
        exact ih (k + 1) _ (by omega) (by omega) (by omega) (by rw [hm]; funext a b; simp only [rd_u, rd_hdk]; grind)
  exact lp14 4 0 _ (by omega) (by omega) (by omega) (by funext a b; simp only [rd_u, rd_hdk]; grind)
theorem rd_hdo_r {μ : rd_Mem} : rd_hdo μ 62 0 = 3 ∧ rd_hdo μ 63 3 = μ 63 0 ∧ (∀ a, a ≠ 62 → a ≠ 63 → rd_hdo μ a = μ a) := by
  refine ⟨by simp [rd_hdo, rd_hdk, rd_u], by simp [rd_hdo, rd_u], fun a h1 h2 => ?_⟩
  funext b; simp [rd_hdo, rd_hdk, rd_u, h1, h2]
set_option maxHeartbeats 4000000 in
set_option maxRecDepth 100000 in
theorem c_X2_keep {l : Launch} {G : rd_G} {r : Nat} {μ : rd_Mem} (hp : sp_hp μ) (hc0 : 0 ≤ μ 62 0) (hc4 : μ 62 0 ≤ 4) (h01 : sp_b01 μ 1) : rd_M l G rd_kc 313 r yX2_keep cX2_keep 2 none (rd_rm 4 104) [rd_R 62, rd_R 1] μ (fun v μ' => v = none ∧ μ' = rd_keep μ) := by
  refine rd_enter (by decide +kernel) (Nat.le_of_ble_eq_true rfl) [rd_R 62, rd_R 1] rfl (fun p e s m args below meth c C => ?_)
  refine rd_W.rng (fun hM hL _ => ?_)
  refine rd_aload_n C dX2_keep_0 rfl ?_
  refine rd_get C rd_g2_0 rf_X2_18 dX2_keep_1 rd_b62 rd_k62 (x := rd_I (μ 62 0)) rfl (fun h => h _ _) ?_
  refine rd_iconst C dX2_keep_4 (n := 4) ⟨by decide, by decide⟩ ?_
  refine rd_icmp_lt C dX2_keep_5 (tgt := 12) (by decide) (fun h_5 => ?_) (fun h_5 => ?_)
  · have hc0 : 0 ≤ μ 62 0 ∧ μ 62 0 < 4 := ⟨by omega, by omega⟩
    have hx := hp (μ 62 0) (by omega) (by omega)
    have h02 := h01
    have hpo : rd_keep μ = rd_kp μ := by unfold rd_keep; rw [if_neg (by omega)]
    refine rd_aload_n C dX2_keep_12 rfl ?_
    refine rd_get C rd_g2_1 rf_X2_11 dX2_keep_13 rd_b62 rd_k62 (x := rd_R (63)) rfl (fun _ => trivial) ?_
    refine rd_aload_n C dX2_keep_16 rfl ?_
    refine rd_get C rd_g2_0 rf_X2_18 dX2_keep_17 rd_b62 rd_k62 (x := rd_I (μ 62 0)) rfl (fun h => h _ _) ?_
    refine rd_aald17 C dX2_keep_20 rd_b63 rd_k63 ⟨by omega, by omega⟩ (k' := 64 + 61 * μ 63 (μ 62 0)) (by omega) ?_
    refine rd_aload_n C dX2_keep_21 rfl ?_
    refine rd_callV C (c_X8_copyFrom (b := 64 + 61 * μ 63 (μ 62 0)) (c0 := 1) (rd_isBh hx) (Or.inl rfl) (by omega) h02) rm_X2_25 ri_X8_copyFrom rs_X8_copyFrom rc_X8_copyFrom rz_X8 ⟨rp_X8_copyFrom, rfl, rfl, by decide, by decide⟩ rfl rd_kcl8 dX2_keep_22 ⟨by omega, by omega⟩ (rd_isBh hx).t.2.1 rfl (Nat.le_of_ble_eq_true rfl) (fun v1 w1 hq => ?_)
    obtain ⟨hv1, hm1⟩ := hq; rw [hv1, hm1]; clear hv1 hm1 v1 w1
    have h62 : rd_bcr μ (64 + 61 * μ 63 (μ 62 0)) 1 0 61 62 0 = μ 62 0 := congrFun (rd_bcr_out _ _ (by omega)) 0
    refine rd_aload_n C dX2_keep_25 rfl ?_
    refine rd_dup C dX2_keep_26 ?_
    refine rd_get C rd_g2_0 rf_X2_18 dX2_keep_27 rd_b62 rd_k62 (x := rd_I ((rd_bcr μ (64 + 61 * μ 63 (μ 62 0)) 1 0 61) 62 0)) rfl (fun h => h _ _) ?_
    refine rd_iconst C dX2_keep_30 (n := 1) ⟨by decide, by decide⟩ ?_
    refine rd_iadd C dX2_keep_31 (z := (rd_bcr μ (64 + 61 * μ 63 (μ 62 0)) 1 0 61) 62 0 + 1) rfl ⟨by omega, by omega⟩ ?_
    refine rd_put C rd_p2_0 rf_X2_18 dX2_keep_32 rd_b62 rd_k62 trivial ?_
    exact rd_vret C dX2_keep_35 ⟨rfl, by rw [hpo, h62]; rfl⟩
  · refine rd_aload_n C dX2_keep_8 rfl ?_
    refine rd_callV C (c_X2_dropOldest hp) rm_X2_22 ri_X2_dropOldest rs_X2_dropOldest rc_X2_dropOldest rz_X2 ⟨rp_X2_dropOldest, rfl, rfl, by decide, by decide⟩ rfl rd_kcl2 dX2_keep_9 rd_b62 rd_k62 rfl (Nat.le_of_ble_eq_true rfl) (fun v1 w1 hq => ?_)
    obtain ⟨hv1, hm1⟩ := hq; rw [hv1, hm1]; clear hv1 hm1 v1 w1
    obtain ⟨g1, g2, g3⟩ := rd_hdo_r (μ := μ)
    have hc0 : 0 ≤ rd_hdo μ 62 0 ∧ rd_hdo μ 62 0 < 4 := by rw [g1]; omega
    have hx : 0 ≤ rd_hdo μ 63 (rd_hdo μ 62 0) ∧ rd_hdo μ 63 (rd_hdo μ 62 0) ≤ 3 := by rw [g1, g2]; exact hp 0 (by omega) (by omega)
    have h02 : sp_b01 (rd_hdo μ) 1 := fun i h0 h1 => by rw [g3 _ (by omega) (by omega)]; exact h01 i h0 h1
    have hpo : rd_keep μ = rd_kp (rd_hdo μ) := by unfold rd_keep; rw [if_pos (by omega)]
    refine rd_aload_n C dX2_keep_12 rfl ?_
    refine rd_get C rd_g2_1 rf_X2_11 dX2_keep_13 rd_b62 rd_k62 (x := rd_R (63)) rfl (fun _ => trivial) ?_
    refine rd_aload_n C dX2_keep_16 rfl ?_
    refine rd_get C rd_g2_0 rf_X2_18 dX2_keep_17 rd_b62 rd_k62 (x := rd_I ((rd_hdo μ) 62 0)) rfl (fun h => h _ _) ?_
    refine rd_aald17 C dX2_keep_20 rd_b63 rd_k63 ⟨by omega, by omega⟩ (k' := 64 + 61 * (rd_hdo μ) 63 ((rd_hdo μ) 62 0)) (by omega) ?_
    refine rd_aload_n C dX2_keep_21 rfl ?_
    refine rd_callV C (c_X8_copyFrom (b := 64 + 61 * (rd_hdo μ) 63 ((rd_hdo μ) 62 0)) (c0 := 1) (rd_isBh hx) (Or.inl rfl) (by omega) h02) rm_X2_25 ri_X8_copyFrom rs_X8_copyFrom rc_X8_copyFrom rz_X8 ⟨rp_X8_copyFrom, rfl, rfl, by decide, by decide⟩ rfl rd_kcl8 dX2_keep_22 ⟨by omega, by omega⟩ (rd_isBh hx).t.2.1 rfl (Nat.le_of_ble_eq_true rfl) (fun v1 w1 hq => ?_)
    obtain ⟨hv1, hm1⟩ := hq; rw [hv1, hm1]; clear hv1 hm1 v1 w1
    have h62 : rd_bcr (rd_hdo μ) (64 + 61 * (rd_hdo μ) 63 ((rd_hdo μ) 62 0)) 1 0 61 62 0 = rd_hdo μ 62 0 := congrFun (rd_bcr_out _ _ (by omega)) 0
    refine rd_aload_n C dX2_keep_25 rfl ?_
    refine rd_dup C dX2_keep_26 ?_
    refine rd_get C rd_g2_0 rf_X2_18 dX2_keep_27 rd_b62 rd_k62 (x := rd_I ((rd_bcr (rd_hdo μ) (64 + 61 * (rd_hdo μ) 63 ((rd_hdo μ) 62 0)) 1 0 61) 62 0)) rfl (fun h => h _ _) ?_
    refine rd_iconst C dX2_keep_30 (n := 1) ⟨by decide, by decide⟩ ?_
    refine rd_iadd C dX2_keep_31 (z := (rd_bcr (rd_hdo μ) (64 + 61 * (rd_hdo μ) 63 ((rd_hdo μ) 62 0)) 1 0 61) 62 0 + 1) rfl ⟨by omega, by omega⟩ ?_
    refine rd_put C rd_p2_0 rf_X2_18 dX2_keep_32 rd_b62 rd_k62 trivial ?_
    exact rd_vret C dX2_keep_35 ⟨rfl, by rw [hpo, h62]; rfl⟩
set_option maxHeartbeats 4000000 in
set_option maxRecDepth 100000 in
theorem c_X2_restore {l : Launch} {G : rd_G} {r : Nat} {μ : rd_Mem} (hp : sp_hp μ) (hc0 : 0 < μ 62 0) (hc4 : μ 62 0 ≤ 4) (h01 : sp_b01 μ (64 + 61 * μ 63 (μ 62 0 - 1))) : rd_M l G rd_kc 313 r yX2_restore cX2_restore 2 none (rd_rm 4 104) [rd_R 62, rd_R 1] μ (fun v μ' => v = none ∧ μ' = rd_rst μ) := by
  refine rd_enter (by decide +kernel) (Nat.le_of_ble_eq_true rfl) [rd_R 62, rd_R 1] rfl (fun p e s m args below meth c C => ?_)
  refine rd_W.rng (fun hM hL _ => ?_)
  refine rd_aload_n C dX2_restore_0 rfl ?_
  refine rd_get C rd_g2_0 rf_X2_18 dX2_restore_1 rd_b62 rd_k62 (x := rd_I (μ 62 0)) rfl (fun h => h _ _) ?_
  refine rd_if_le C dX2_restore_4 (tgt := 30) (by decide) (fun h_4 => ?_) (fun h_4 => ?_)
  · exfalso; omega
  · refine rd_aload_n C dX2_restore_7 rfl ?_
    refine rd_dup C dX2_restore_8 ?_
    refine rd_get C rd_g2_0 rf_X2_18 dX2_restore_9 rd_b62 rd_k62 (x := rd_I (μ 62 0)) rfl (fun h => h _ _) ?_
    refine rd_iconst C dX2_restore_12 (n := 1) ⟨by decide, by decide⟩ ?_
    refine rd_isub C dX2_restore_13 (z := μ 62 0 - 1) rfl ⟨by omega, by omega⟩ ?_
    refine rd_put C rd_p2_0 rf_X2_18 dX2_restore_14 rd_b62 rd_k62 trivial ?_
    have hx := hp (μ 62 0 - 1) (by omega) (by omega)
    have h02 : sp_b01 (rd_u μ 62 0 (μ 62 0 - 1)) (64 + 61 * μ 63 (μ 62 0 - 1)) := fun i h0 h1 => by rw [rd_u_ne _ _ _ (by omega)]; exact h01 i h0 h1
    refine rd_aload_n C dX2_restore_17 rfl ?_
    refine rd_aload_n C dX2_restore_18 rfl ?_
    refine rd_get C rd_g2_1 rf_X2_11 dX2_restore_19 rd_b62 rd_k62 (x := rd_R (63)) rfl (fun _ => trivial) ?_
    refine rd_aload_n C dX2_restore_22 rfl ?_
    refine rd_getx C rd_g2_0 rf_X2_18 dX2_restore_23 rd_b62 rd_k62 rfl (z := μ 62 0 - 1) (by rw [rd_u_s]) ?_
    refine rd_aald17 C dX2_restore_26 rd_b63 rd_k63 ⟨by omega, by omega⟩ (k' := 64 + 61 * μ 63 (μ 62 0 - 1)) (by rw [rd_u_k _ _ _ (by omega)]; omega) ?_
    refine rd_callV C (c_X8_copyFrom (b := 1) (c0 := 64 + 61 * μ 63 (μ 62 0 - 1)) (Or.inl rfl) (rd_isBh hx) (by omega) h02) rm_X2_25 ri_X8_copyFrom rs_X8_copyFrom rc_X8_copyFrom rz_X8 ⟨rp_X8_copyFrom, rfl, rfl, by decide, by decide⟩ rfl rd_kcl8 dX2_restore_27 rd_b1 rd_k1 rfl (Nat.le_of_ble_eq_true rfl) (fun v1 w1 hq => ?_)
    obtain ⟨hv1, hm1⟩ := hq; rw [hv1, hm1]; clear hv1 hm1 v1 w1
    exact rd_vret C dX2_restore_30 ⟨rfl, rfl⟩

