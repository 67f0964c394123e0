/-! the check's row of numbers -/
abbrev mo_o (μ : rd_Mem) (i w : Int) : Int := μ 1 (156 + 32 * i + w)
def mo_t (μ : rd_Mem) (n : Int) : Prop := (0 ≤ n ∧ n ≤ 9) ∧ mo_o μ n 0 = 1
noncomputable def mo_FS (μ : rd_Mem) (n : Int) : Int := sp_fs (fun q => mo_o μ n (4 + 3 * q)) (fun q => mo_o μ n (4 + 3 * q + 1)) (mo_o μ n 3).toNat
noncomputable def mo_pl (μ : rd_Mem) (n : Int) : Int := sp_ff (fun i => μ 1 (1 + i) = n) (μ 1 0).toNat 0
noncomputable def mo_nx (μ : rd_Mem) (a : Int) : Int := sp_nx (fun i => μ 1 (1 + i)) (fun n => mo_o μ n 1 = 0) (μ 1 0 - a).toNat a
def mo_z (x : Int) : Int := if x = -1 then -6 else x
def mo_ov (μ : rd_Mem) : Prop := 0 < μ 1 28 ∧ μ 1 28 ≤ μ 1 32
def mo_on (μ : rd_Mem) : Prop := μ 1 29 = 1 ∧ ¬ mo_ov μ
/-- ranges that the walks of the check ask for -/
def mo_cn (μ : rd_Mem) : Prop := (0 ≤ μ 1 0 ∧ μ 1 0 ≤ 10) ∧ ∀ i : Int, 0 ≤ i → i < μ 1 0 → 0 ≤ μ 1 (1 + i) ∧ μ 1 (1 + i) ≤ 9
def mo_it (μ : rd_Mem) (n : Int) : Prop := (0 ≤ mo_o μ n 3 ∧ mo_o μ n 3 ≤ 6) ∧ ∀ q : Int, 0 ≤ q → q < mo_o μ n 3 → (0 ≤ mo_o μ n (4 + 3 * q) ∧ mo_o μ n (4 + 3 * q) ≤ 9) ∧ (-1 ≤ mo_o μ n (4 + 3 * q + 1) ∧ mo_o μ n (4 + 3 * q + 1) ≤ 9)
def mo_po (μ : rd_Mem) (n : Int) : Prop := 0 ≤ mo_pl μ n ∧ mo_pl μ n < μ 1 0
theorem mo_FS_r {μ : rd_Mem} {n : Int} (h : mo_it μ n) : 0 ≤ mo_FS μ n ∧ mo_FS μ n ≤ 9 := by
  refine ⟨sp_fs0 _ _ _, sp_fs_le _ _ _ (fun k hk => ?_)⟩
  have h1 := h.1
  exact (h.2 k (by omega) (by omega)).1.2
set_option maxHeartbeats 4000000 in
set_option maxRecDepth 100000 in
theorem c_X10_in {l : Launch} {G : rd_G} {r : Nat} {μ : rd_Mem} {z lo hi : Int} : rd_M l G rd_km 5 r yX10_in cX10_in 3 (some .boolean) (rd_rm 0 0) [rd_I z, rd_I lo, rd_I hi] μ (fun v μ' => ((lo ≤ z ∧ z ≤ hi) ∧ v = some (rd_I 1) ∧ μ' = μ) ∨ ((z < lo ∨ hi < z) ∧ v = some (rd_I 0) ∧ μ' = μ)) := by
  refine rd_enter (by decide +kernel) (Nat.le_of_ble_eq_true rfl) [rd_I z, rd_I lo, rd_I hi] rfl (fun p e s m args below meth c C => ?_)
  refine rd_W.rng (fun hM hL _ => ?_)
  refine rd_iload_n C dX10_in_0 rfl ?_
  refine rd_iload_n C dX10_in_1 rfl ?_
  refine rd_icmp_lt C dX10_in_2 (tgt := 14) (by decide) (fun h_2 => ?_) (fun h_2 => ?_)
  · refine rd_iconst C dX10_in_14 (n := 0) ⟨by decide, by decide⟩ ?_
    exact rd_zret C dX10_in_15 (by omega) (by first | exact Or.inl ⟨⟨by omega, by omega⟩, rfl, rfl⟩ | exact Or.inr ⟨by omega, rfl, rfl⟩)
  · refine rd_iload_n C dX10_in_5 rfl ?_
    refine rd_iload_n C dX10_in_6 rfl ?_
    refine rd_icmp_gt C dX10_in_7 (tgt := 14) (by decide) (fun h_7 => ?_) (fun h_7 => ?_)
    · refine rd_iconst C dX10_in_14 (n := 0) ⟨by decide, by decide⟩ ?_
      exact rd_zret C dX10_in_15 (by omega) (by first | exact Or.inl ⟨⟨by omega, by omega⟩, rfl, rfl⟩ | exact Or.inr ⟨by omega, rfl, rfl⟩)
    · refine rd_iconst C dX10_in_10 (n := 1) ⟨by decide, by decide⟩ ?_
      refine rd_goto C dX10_in_11 (tgt := 15) (by decide) ?_
      exact rd_zret C dX10_in_15 (by omega) (by first | exact Or.inl ⟨⟨by omega, by omega⟩, rfl, rfl⟩ | exact Or.inr ⟨by omega, rfl, rfl⟩)
set_option maxHeartbeats 4000000 in
set_option maxRecDepth 100000 in
theorem c_X10_of {l : Launch} {G : rd_G} {r : Nat} {μ : rd_Mem} {i q : Int} (hi : 0 ≤ i ∧ i ≤ 9) (hq : 0 ≤ q ∧ q < 32) : rd_M l G rd_km 5 r yX10_of cX10_of 3 (some .int) (rd_rm 0 0) [rd_R 0, rd_I i, rd_I q] μ (fun v μ' => v = some (rd_I (mo_o μ i q)) ∧ μ' = μ) := by
  refine rd_enter (by decide +kernel) (Nat.le_of_ble_eq_true rfl) [rd_R 0, rd_I i, rd_I q] rfl (fun p e s m args below meth c C => ?_)
  refine rd_W.rng (fun hM hL _ => ?_)
  refine rd_aload_n C dX10_of_0 rfl ?_
  refine rd_get C rd_g10_0 rf_X10_7 dX10_of_1 rd_c0 rd_m0 (x := rd_R (1)) rfl (fun _ => trivial) ?_
  refine rd_sipush C dX10_of_4 (n := 156) (by decide) ⟨by decide, by decide⟩ ?_
  refine rd_bipush C dX10_of_7 (n := 32) (by decide) ⟨by decide, by decide⟩ ?_
  refine rd_iload_n C dX10_of_9 rfl ?_
  refine rd_imul C dX10_of_10 (z := 32 * i) rfl ⟨by omega, by omega⟩ ?_
  refine rd_iadd C dX10_of_11 (z := 156 + 32 * i) rfl ⟨by omega, by omega⟩ ?_
  refine rd_iload_n C dX10_of_12 rfl ?_
  refine rd_iadd C dX10_of_13 (z := 156 + 32 * i + q) rfl ⟨by omega, by omega⟩ ?_
  refine rd_ialdx C rd_ai18 dX10_of_14 rd_c1 rd_m1 ⟨by omega, by omega⟩ (z := μ 1 (156 + 32 * i + q)) rfl ?_
  exact rd_iret C dX10_of_15 ⟨rfl, rfl⟩
set_option maxHeartbeats 4000000 in
set_option maxRecDepth 100000 in
theorem c_X10_lay {l : Launch} {G : rd_G} {r : Nat} {μ : rd_Mem} {i q x : Int} (hi : 0 ≤ i ∧ i ≤ 9) (hq : 0 ≤ q ∧ q < 32) : rd_M l G rd_km 5 r yX10_lay cX10_lay 4 none (rd_rm 0 0) [rd_R 0, rd_I i, rd_I q, rd_I x] μ (fun v μ' => v = none ∧ μ' = rd_u μ 1 (156 + 32 * i + q) x) := by
  refine rd_enter (by decide +kernel) (Nat.le_of_ble_eq_true rfl) [rd_R 0, rd_I i, rd_I q, rd_I x] rfl (fun p e s m args below meth c C => ?_)
  refine rd_W.rng (fun hM hL _ => ?_)
  refine rd_aload_n C dX10_lay_0 rfl ?_
  refine rd_get C rd_g10_0 rf_X10_7 dX10_lay_1 rd_c0 rd_m0 (x := rd_R (1)) rfl (fun _ => trivial) ?_
  refine rd_sipush C dX10_lay_4 (n := 156) (by decide) ⟨by decide, by decide⟩ ?_
  refine rd_bipush C dX10_lay_7 (n := 32) (by decide) ⟨by decide, by decide⟩ ?_
  refine rd_iload_n C dX10_lay_9 rfl ?_
  refine rd_imul C dX10_lay_10 (z := 32 * i) rfl ⟨by omega, by omega⟩ ?_
  refine rd_iadd C dX10_lay_11 (z := 156 + 32 * i) rfl ⟨by omega, by omega⟩ ?_
  refine rd_iload_n C dX10_lay_12 rfl ?_
  refine rd_iadd C dX10_lay_13 (z := 156 + 32 * i + q) rfl ⟨by omega, by omega⟩ ?_
  refine rd_iload_n C dX10_lay_14 rfl ?_
  refine rd_iast C rd_ai18 dX10_lay_15 rd_c1 rd_m1 ⟨by omega, by omega⟩ ?_
  exact rd_vret C dX10_lay_16 ⟨rfl, rfl⟩
set_option maxHeartbeats 4000000 in
set_option maxRecDepth 100000 in
theorem c_X10_isSlide {l : Launch} {G : rd_G} {r : Nat} {μ : rd_Mem} {n0 : Int} : rd_M l G rd_km 5 r yX10_isSlide cX10_isSlide 2 (some .boolean) (rd_rm 1 22) [rd_R 0, rd_I n0] μ (fun v μ' => (mo_t μ n0 ∧ v = some (rd_I 1) ∧ μ' = μ) ∨ (¬ mo_t μ n0 ∧ v = some (rd_I 0) ∧ μ' = μ)) := by
  refine rd_enter (by decide +kernel) (Nat.le_of_ble_eq_true rfl) [rd_R 0, rd_I n0] rfl (fun p e s m args below meth c C => ?_)
  refine rd_W.rng (fun hM hL _ => ?_)
  refine rd_iload_n C dX10_isSlide_0 rfl ?_
  refine rd_iconst C dX10_isSlide_1 (n := 0) ⟨by decide, by decide⟩ ?_
  refine rd_bipush C dX10_isSlide_2 (n := 9) (by decide) ⟨by decide, by decide⟩ ?_
  refine rd_callS C (c_X10_in) rm_X10_22 rt_X10_in rc_X10_in rz_X10 ⟨rp_X10_in, rfl, rfl, by decide, by decide⟩ rfl dX10_isSlide_4 rfl (Nat.le_of_ble_eq_true rfl) (fun v1 w1 hq => ?_)
  rcases hq with ⟨hw_7, hv1, hm1⟩ | ⟨hw_7, hv1, hm1⟩
  · rw [hv1, hm1]; clear hv1 hm1 v1 w1
    refine rd_if_eq C dX10_isSlide_7 (tgt := 24) (by decide) (fun h => absurd h (by decide)) (fun _ => ?_)
    refine rd_aload_n C dX10_isSlide_10 rfl ?_
    refine rd_iload_n C dX10_isSlide_11 rfl ?_
    refine rd_iconst C dX10_isSlide_12 (n := 0) ⟨by decide, by decide⟩ ?_
    refine rd_callV C (c_X10_of (i := n0) (q := 0) ⟨by omega, by omega⟩ ⟨by omega, by omega⟩) rm_X10_26 ri_X10_of rs_X10_of rc_X10_of rz_X10 ⟨rp_X10_of, rfl, rfl, by decide, by decide⟩ rfl rd_kcl10 dX10_isSlide_13 rd_c0 rd_m0 rfl (Nat.le_of_ble_eq_true rfl) (fun v1 w1 hq => ?_)
    obtain ⟨hv1, hm1⟩ := hq; rw [show v1 = some (rd_I (mo_o μ n0 0)) from hv1, hm1]; clear hv1 hm1
    refine rd_iconst C dX10_isSlide_16 (n := 1) ⟨by decide, by decide⟩ ?_
    refine rd_icmp_ne C dX10_isSlide_17 (tgt := 24) (by decide) (fun h_17 => ?_) (fun h_17 => ?_)
    · refine rd_iconst C dX10_isSlide_24 (n := 0) ⟨by decide, by decide⟩ ?_
      exact rd_zret C dX10_isSlide_25 (by omega) (by first | exact Or.inl ⟨⟨by omega, by omega⟩, rfl, rfl⟩ | exact Or.inr ⟨(fun h => by have h1 := h.1; have h2 := h.2; omega), rfl, rfl⟩)
    · refine rd_iconst C dX10_isSlide_20 (n := 1) ⟨by decide, by decide⟩ ?_
      refine rd_goto C dX10_isSlide_21 (tgt := 25) (by decide) ?_
      exact rd_zret C dX10_isSlide_25 (by omega) (by first | exact Or.inl ⟨⟨by omega, by omega⟩, rfl, rfl⟩ | exact Or.inr ⟨(fun h => by have h1 := h.1; have h2 := h.2; omega), rfl, rfl⟩)
  · rw [hv1, hm1]; clear hv1 hm1 v1 w1
    refine rd_if_eq C dX10_isSlide_7 (tgt := 24) (by decide) (fun _ => ?_) (fun h => absurd h (by decide))
    refine rd_iconst C dX10_isSlide_24 (n := 0) ⟨by decide, by decide⟩ ?_
    exact rd_zret C dX10_isSlide_25 (by omega) (by first | exact Or.inl ⟨⟨by omega, by omega⟩, rfl, rfl⟩ | exact Or.inr ⟨(fun h => by have h1 := h.1; have h2 := h.2; omega), rfl, rfl⟩)
set_option maxHeartbeats 4000000 in
set_option maxRecDepth 100000 in
theorem c_X10_isItem {l : Launch} {G : rd_G} {r : Nat} {μ : rd_Mem} {n0 p0 : Int} (hi0 : mo_t μ n0 → 0 ≤ mo_o μ n0 3 ∧ mo_o μ n0 3 ≤ 6) : rd_M l G rd_km 5 r yX10_isItem cX10_isItem 3 (some .boolean) (rd_rm 2 43) [rd_R 0, rd_I n0, rd_I p0] μ (fun v μ' => ((mo_t μ n0 ∧ 0 ≤ p0 ∧ p0 ≤ mo_o μ n0 3 - 1) ∧ v = some (rd_I 1) ∧ μ' = μ) ∨ (¬ (mo_t μ n0 ∧ 0 ≤ p0 ∧ p0 ≤ mo_o μ n0 3 - 1) ∧ v = some (rd_I 0) ∧ μ' = μ)) := by
  refine rd_enter (by decide +kernel) (Nat.le_of_ble_eq_true rfl) [rd_R 0, rd_I n0, rd_I p0] rfl (fun p e s m args below meth c C => ?_)
  refine rd_W.rng (fun hM hL _ => ?_)
  refine rd_aload_n C dX10_isItem_0 rfl ?_
  refine rd_iload_n C dX10_isItem_1 rfl ?_
  refine rd_callV C (c_X10_isSlide) rm_X10_30 ri_X10_isSlide rs_X10_isSlide rc_X10_isSlide rz_X10 ⟨rp_X10_isSlide, rfl, rfl, by decide, by decide⟩ rfl rd_kcl10 dX10_isItem_2 rd_c0 rd_m0 rfl (Nat.le_of_ble_eq_true rfl) (fun v1 w1 hq => ?_)
  rcases hq with ⟨hw_5, hv1, hm1⟩ | ⟨hw_5, hv1, hm1⟩
  · rw [hv1, hm1]; clear hv1 hm1 v1 w1
    refine rd_if_eq C dX10_isItem_5 (tgt := 28) (by decide) (fun h => absurd h (by decide)) (fun _ => ?_)
    have hit := hi0 hw_5
    refine rd_iload_n C dX10_isItem_8 rfl ?_
    refine rd_iconst C dX10_isItem_9 (n := 0) ⟨by decide, by decide⟩ ?_
    refine rd_aload_n C dX10_isItem_10 rfl ?_
    refine rd_iload_n C dX10_isItem_11 rfl ?_
    refine rd_iconst C dX10_isItem_12 (n := 3) ⟨by decide, by decide⟩ ?_
    refine rd_callV C (c_X10_of (i := n0) (q := 3) hw_5.1 ⟨by omega, by omega⟩) rm_X10_26 ri_X10_of rs_X10_of rc_X10_of rz_X10 ⟨rp_X10_of, rfl, rfl, by decide, by decide⟩ rfl rd_kcl10 dX10_isItem_13 rd_c0 rd_m0 rfl (Nat.le_of_ble_eq_true rfl) (fun v1 w1 hq => ?_)
    obtain ⟨hv1, hm1⟩ := hq; rw [show v1 = some (rd_I (mo_o μ n0 3)) from hv1, hm1]; clear hv1 hm1
    refine rd_iconst C dX10_isItem_16 (n := 1) ⟨by decide, by decide⟩ ?_
    refine rd_isub C dX10_isItem_17 (z := mo_o μ n0 3 - 1) rfl (by omega) ?_
    refine rd_callS C (c_X10_in) rm_X10_22 rt_X10_in rc_X10_in rz_X10 ⟨rp_X10_in, rfl, rfl, by decide, by decide⟩ rfl dX10_isItem_18 rfl (Nat.le_of_ble_eq_true rfl) (fun v1 w1 hq => ?_)
    rcases hq with ⟨hw_21, hv1, hm1⟩ | ⟨hw_21, hv1, hm1⟩
    · rw [hv1, hm1]; clear hv1 hm1 v1 w1
      refine rd_if_eq C dX10_isItem_21 (tgt := 28) (by decide) (fun h => absurd h (by decide)) (fun _ => ?_)
      refine rd_iconst C dX10_isItem_24 (n := 1) ⟨by decide, by decide⟩ ?_
      refine rd_goto C dX10_isItem_25 (tgt := 29) (by decide) ?_
      exact rd_zret C dX10_isItem_29 (by omega) (by first | exact Or.inl ⟨⟨hw_5, by omega, by omega⟩, rfl, rfl⟩ | exact Or.inr ⟨(fun h => hw_5 h.1), rfl, rfl⟩ | exact Or.inr ⟨(fun h => by have h2 := h.2; omega), rfl, rfl⟩)
    · rw [hv1, hm1]; clear hv1 hm1 v1 w1
      refine rd_if_eq C dX10_isItem_21 (tgt := 28) (by decide) (fun _ => ?_) (fun h => absurd h (by decide))
      refine rd_iconst C dX10_isItem_28 (n := 0) ⟨by decide, by decide⟩ ?_
      exact rd_zret C dX10_isItem_29 (by omega) (by first | exact Or.inl ⟨⟨hw_5, by omega, by omega⟩, rfl, rfl⟩ | exact Or.inr ⟨(fun h => hw_5 h.1), rfl, rfl⟩ | exact Or.inr ⟨(fun h => by have h2 := h.2; omega), rfl, rfl⟩)
  · rw [hv1, hm1]; clear hv1 hm1 v1 w1
    refine rd_if_eq C dX10_isItem_5 (tgt := 28) (by decide) (fun _ => ?_) (fun h => absurd h (by decide))
    refine rd_iconst C dX10_isItem_28 (n := 0) ⟨by decide, by decide⟩ ?_
    exact rd_zret C dX10_isItem_29 (by omega) (by first | exact Or.inl ⟨⟨hw_5, by omega, by omega⟩, rfl, rfl⟩ | exact Or.inr ⟨(fun h => hw_5 h.1), rfl, rfl⟩ | exact Or.inr ⟨(fun h => by have h2 := h.2; omega), rfl, rfl⟩)
set_option maxHeartbeats 4000000 in
set_option maxRecDepth 100000 in
theorem c_X10_isShown {l : Launch} {G : rd_G} {r : Nat} {μ : rd_Mem} {n0 : Int} (hi : 0 ≤ n0 ∧ n0 ≤ 9) : rd_M l G rd_km 5 r yX10_isShown cX10_isShown 2 (some .boolean) (rd_rm 1 22) [rd_R 0, rd_I n0] μ (fun v μ' => (mo_o μ n0 1 = 0 ∧ v = some (rd_I 1) ∧ μ' = μ) ∨ (mo_o μ n0 1 ≠ 0 ∧ v = some (rd_I 0) ∧ μ' = μ)) := by
  refine rd_enter (by decide +kernel) (Nat.le_of_ble_eq_true rfl) [rd_R 0, rd_I n0] rfl (fun p e s m args below meth c C => ?_)
  refine rd_W.rng (fun hM hL _ => ?_)
  refine rd_aload_n C dX10_isShown_0 rfl ?_
  refine rd_iload_n C dX10_isShown_1 rfl ?_
  refine rd_iconst C dX10_isShown_2 (n := 1) ⟨by decide, by decide⟩ ?_
  refine rd_callV C (c_X10_of (i := n0) (q := 1) hi ⟨by omega, by omega⟩) rm_X10_26 ri_X10_of rs_X10_of rc_X10_of rz_X10 ⟨rp_X10_of, rfl, rfl, by decide, by decide⟩ rfl rd_kcl10 dX10_isShown_3 rd_c0 rd_m0 rfl (Nat.le_of_ble_eq_true rfl) (fun v1 w1 hq => ?_)
  obtain ⟨hv1, hm1⟩ := hq; rw [show v1 = some (rd_I (mo_o μ n0 1)) from hv1, hm1]; clear hv1 hm1
  refine rd_if_ne C dX10_isShown_6 (tgt := 13) (by decide) (fun h_6 => ?_) (fun h_6 => ?_)
  · refine rd_iconst C dX10_isShown_13 (n := 0) ⟨by decide, by decide⟩ ?_
    exact rd_zret C dX10_isShown_14 (by omega) (by first | exact Or.inl ⟨(by assumption), rfl, rfl⟩ | exact Or.inr ⟨(by assumption), rfl, rfl⟩)
  · refine rd_iconst C dX10_isShown_9 (n := 1) ⟨by decide, by decide⟩ ?_
    refine rd_goto C dX10_isShown_10 (tgt := 14) (by decide) ?_
    exact rd_zret C dX10_isShown_14 (by omega) (by first | exact Or.inl ⟨(by assumption), rfl, rfl⟩ | exact Or.inr ⟨(by assumption), rfl, rfl⟩)
set_option maxHeartbeats 4000000 in
set_option maxRecDepth 100000 in
theorem c_X10_isKey {l : Launch} {G : rd_G} {r : Nat} {μ : rd_Mem} {k0 : Int} : rd_M l G rd_km 5 r yX10_isKey cX10_isKey 2 (some .boolean) (rd_rm 1 22) [rd_R 0, rd_I k0] μ (fun v μ' => ((0 ≤ k0 ∧ k0 ≤ 9) ∧ v = some (rd_I 1) ∧ μ' = μ) ∨ ((k0 < 0 ∨ 9 < k0) ∧ v = some (rd_I 0) ∧ μ' = μ)) := by
  refine rd_enter (by decide +kernel) (Nat.le_of_ble_eq_true rfl) [rd_R 0, rd_I k0] rfl (fun p e s m args below meth c C => ?_)
  refine rd_W.rng (fun hM hL _ => ?_)
  refine rd_iload_n C dX10_isKey_0 rfl ?_
  refine rd_iconst C dX10_isKey_1 (n := 0) ⟨by decide, by decide⟩ ?_
  refine rd_bipush C dX10_isKey_2 (n := 9) (by decide) ⟨by decide, by decide⟩ ?_
  refine rd_callS C (c_X10_in) rm_X10_22 rt_X10_in rc_X10_in rz_X10 ⟨rp_X10_in, rfl, rfl, by decide, by decide⟩ rfl dX10_isKey_4 rfl (Nat.le_of_ble_eq_true rfl) (fun v1 w1 hq => ?_)
  rcases hq with ⟨hw_7, hv1, hm1⟩ | ⟨hw_7, hv1, hm1⟩
  · rw [hv1, hm1]; clear hv1 hm1 v1 w1
    exact rd_zret C dX10_isKey_7 (by omega) (by first | exact Or.inl ⟨(by assumption), rfl, rfl⟩ | exact Or.inr ⟨(by assumption), rfl, rfl⟩)
  · rw [hv1, hm1]; clear hv1 hm1 v1 w1
    exact rd_zret C dX10_isKey_7 (by omega) (by first | exact Or.inl ⟨(by assumption), rfl, rfl⟩ | exact Or.inr ⟨(by assumption), rfl, rfl⟩)
set_option maxHeartbeats 4000000 in
set_option maxRecDepth 100000 in
theorem c_X10_finalStep {l : Launch} {G : rd_G} {r : Nat} {μ : rd_Mem} {n0 : Int} (hn : 0 ≤ n0 ∧ n0 ≤ 9) (hi : mo_it μ n0) : rd_M l G rd_km 5 r yX10_finalStep cX10_finalStep 6 (some .int) (rd_rm 1 22) [rd_R 0, rd_I n0] μ (fun v μ' => v = some (rd_I (mo_FS μ n0)) ∧ μ' = μ) := by
  refine rd_enter (by decide +kernel) (Nat.le_of_ble_eq_true rfl) [rd_R 0, rd_I n0, rd_J, rd_J, rd_J, rd_J] rfl (fun p e s m args below meth c C => ?_)
  refine rd_W.rng (fun hM hL _ => ?_)
  refine rd_iconst C dX10_finalStep_0 (n := 0) ⟨by decide, by decide⟩ ?_
  refine rd_istore_n C dX10_finalStep_1 (by decide) (L' := [rd_R 0, rd_I n0, rd_I 0, rd_J, rd_J, rd_J]) rfl ?_
  refine rd_iconst C dX10_finalStep_2 (n := 0) ⟨by decide, by decide⟩ ?_
  refine rd_istore_n C dX10_finalStep_3 (by decide) (L' := [rd_R 0, rd_I n0, rd_I 0, rd_I 0, rd_J, rd_J]) rfl ?_
  have lp4 : ∀ (n : Nat) (k : Nat) (x c3 y4 y5 : Int) (j4 j5 : rd_X), ((k : Int) ≤ mo_o μ n0 3) → (mo_o μ n0 3 < k + n) → (x = sp_fs (fun q => mo_o μ n0 (4 + 3 * q)) (fun q => mo_o μ n0 (4 + 3 * q + 1)) k) → (c3 = (k : Int)) → rd_W p l e (rd_rm 1 22) s m args below meth c (MQ below (rd_Qc G rd_km 5 r (fun v μ' => v = some (rd_I (mo_FS μ n0)) ∧ μ' = μ)) args s 0 0 (rd_A r 5)) 6 G rd_km 5 r 4 [rd_R 0, rd_I n0, rd_I x, rd_I c3, j4, j5] [] μ := by
    intro n
    induction n with
    | zero => intro k x c3 y4 y5 j4 j5  h2 h3 hx hc; exfalso; omega
    | succ n ih =>
      intro k x c3 y4 y5 j4 j5  h2 h3 hx hc
      have hi1 := hi.1
      refine rd_iload_n C dX10_finalStep_4 rfl ?_
      refine rd_aload_n C dX10_finalStep_5 rfl ?_
      refine rd_iload_n C dX10_finalStep_6 rfl ?_
      refine rd_iconst C dX10_finalStep_7 (n := 3) ⟨by decide, by decide⟩ ?_
      refine rd_callV C (c_X10_of (i := n0) (q := 3) hn ⟨by omega, by omega⟩) rm_X10_26 ri_X10_of rs_X10_of rc_X10_of rz_X10 ⟨rp_X10_of, rfl, rfl, by decide, by decide⟩ rfl rd_kcl10 dX10_finalStep_8 rd_c0 rd_m0 rfl (Nat.le_of_ble_eq_true rfl) (fun v1 w1 hq => ?_)
      obtain ⟨hv1, hm1⟩ := hq; rw [show v1 = some (rd_I (mo_o μ n0 3)) from hv1, hm1]; clear hv1 hm1
      refine rd_icmp_ge C dX10_finalStep_11 (tgt := 81) (by decide) (fun h_11 => ?_) (fun h_11 => ?_)
      · refine rd_iload_n C dX10_finalStep_81 rfl ?_
        exact rd_iret C dX10_finalStep_82 ⟨by rw [hx, show k = (mo_o μ n0 3).toNat by omega]; rfl, rfl⟩
      · have hf := hi.2 c3 (by omega) (by omega)
        have hx0 := sp_fs0 (fun q => mo_o μ n0 (4 + 3 * q)) (fun q => mo_o μ n0 (4 + 3 * q + 1)) k
        refine rd_aload_n C dX10_finalStep_14 rfl ?_
        refine rd_iload_n C dX10_finalStep_15 rfl ?_
        refine rd_iconst C dX10_finalStep_16 (n := 4) ⟨by decide, by decide⟩ ?_
        refine rd_iconst C dX10_finalStep_17 (n := 3) ⟨by decide, by decide⟩ ?_
        refine rd_iload_n C dX10_finalStep_18 rfl ?_
        refine rd_imul C dX10_finalStep_19 (z := 3 * c3) rfl ⟨by omega, by omega⟩ ?_
        refine rd_iadd C dX10_finalStep_20 (z := 4 + 3 * c3) rfl ⟨by omega, by omega⟩ ?_
        refine rd_callV C (c_X10_of (i := n0) (q := 4 + 3 * c3) hn ⟨by omega, by omega⟩) rm_X10_26 ri_X10_of rs_X10_of rc_X10_of rz_X10 ⟨rp_X10_of, rfl, rfl, by decide, by decide⟩ rfl rd_kcl10 dX10_finalStep_21 rd_c0 rd_m0 rfl (Nat.le_of_ble_eq_true rfl) (fun v1 w1 hq => ?_)
        obtain ⟨hv1, hm1⟩ := hq; rw [show v1 = some (rd_I (mo_o μ n0 (4 + 3 * c3))) from hv1, hm1]; clear hv1 hm1
        refine rd_istore C dX10_finalStep_24 (by decide) (L' := [rd_R 0, rd_I n0, rd_I x, rd_I c3, rd_I (mo_o μ n0 (4 + 3 * c3)), j5]) rfl ?_
        refine rd_aload_n C dX10_finalStep_26 rfl ?_
        refine rd_iload_n C dX10_finalStep_27 rfl ?_
        refine rd_iconst C dX10_finalStep_28 (n := 4) ⟨by decide, by decide⟩ ?_
        refine rd_iconst C dX10_finalStep_29 (n := 3) ⟨by decide, by decide⟩ ?_
        refine rd_iload_n C dX10_finalStep_30 rfl ?_
        refine rd_imul C dX10_finalStep_31 (z := 3 * c3) rfl ⟨by omega, by omega⟩ ?_
        refine rd_iadd C dX10_finalStep_32 (z := 4 + 3 * c3) rfl ⟨by omega, by omega⟩ ?_
        refine rd_iconst C dX10_finalStep_33 (n := 1) ⟨by decide, by decide⟩ ?_
        refine rd_iadd C dX10_finalStep_34 (z := 4 + 3 * c3 + 1) rfl ⟨by omega, by omega⟩ ?_
        refine rd_callV C (c_X10_of (i := n0) (q := 4 + 3 * c3 + 1) hn ⟨by omega, by omega⟩) rm_X10_26 ri_X10_of rs_X10_of rc_X10_of rz_X10 ⟨rp_X10_of, rfl, rfl, by decide, by decide⟩ rfl rd_kcl10 dX10_finalStep_35 rd_c0 rd_m0 rfl (Nat.le_of_ble_eq_true rfl) (fun v1 w1 hq => ?_)
        obtain ⟨hv1, hm1⟩ := hq; rw [show v1 = some (rd_I (mo_o μ n0 (4 + 3 * c3 + 1))) from hv1, hm1]; clear hv1 hm1
        refine rd_iconst C dX10_finalStep_38 (n := 1) ⟨by decide, by decide⟩ ?_
        refine rd_iadd C dX10_finalStep_39 (z := mo_o μ n0 (4 + 3 * c3 + 1) + 1) rfl ⟨by omega, by omega⟩ ?_
        refine rd_istore C dX10_finalStep_40 (by decide) (L' := [rd_R 0, rd_I n0, rd_I x, rd_I c3, rd_I (mo_o μ n0 (4 + 3 * c3)), rd_I (mo_o μ n0 (4 + 3 * c3 + 1) + 1)]) rfl ?_
        refine rd_iload C dX10_finalStep_42 rfl ?_
        refine rd_iload_n C dX10_finalStep_44 rfl ?_
        refine rd_icmp_le C dX10_finalStep_45 (tgt := 53) (by decide) (fun h_45 => ?_) (fun h_45 => ?_)
        · refine rd_iload_n C dX10_finalStep_53 rfl ?_
          refine rd_istore_n C dX10_finalStep_54 (by decide) (L' := [rd_R 0, rd_I n0, rd_I x, rd_I c3, rd_I (mo_o μ n0 (4 + 3 * c3)), rd_I (mo_o μ n0 (4 + 3 * c3 + 1) + 1)]) rfl ?_
          refine rd_iload C dX10_finalStep_55 rfl ?_
          refine rd_bipush C dX10_finalStep_57 (n := 10) (by decide) ⟨by decide, by decide⟩ ?_
          refine rd_icmp_ge C dX10_finalStep_59 (tgt := 73) (by decide) (fun h_59 => ?_) (fun h_59 => ?_)
          · refine rd_iload_n C dX10_finalStep_73 rfl ?_
            refine rd_istore_n C dX10_finalStep_74 (by decide) (L' := [rd_R 0, rd_I n0, rd_I x, rd_I c3, rd_I (mo_o μ n0 (4 + 3 * c3)), rd_I (mo_o μ n0 (4 + 3 * c3 + 1) + 1)]) rfl ?_
            refine rd_iinc C dX10_finalStep_75 (by decide) rfl ⟨by omega, by omega⟩ (L' := [rd_R 0, rd_I n0, rd_I x, rd_I (c3 + 1), rd_I (mo_o μ n0 (4 + 3 * c3)), rd_I (mo_o μ n0 (4 + 3 * c3 + 1) + 1)]) rfl ?_
            refine rd_goto C dX10_finalStep_78 (tgt := 4) (by decide) ?_
            exact ih (k + 1) _ _ 0 0 _ _ (by omega) (by omega) (by simp only [sp_fs]; subst hc; grind) (by omega)
          · refine rd_iload C dX10_finalStep_62 rfl ?_
            refine rd_iload_n C dX10_finalStep_64 rfl ?_
            refine rd_icmp_le C dX10_finalStep_65 (tgt := 73) (by decide) (fun h_65 => ?_) (fun h_65 => ?_)
            · refine rd_iload_n C dX10_finalStep_73 rfl ?_
              refine rd_istore_n C dX10_finalStep_74 (by decide) (L' := [rd_R 0, rd_I n0, rd_I x, rd_I c3, rd_I (mo_o μ n0 (4 + 3 * c3)), rd_I (mo_o μ n0 (4 + 3 * c3 + 1) + 1)]) rfl ?_
              refine rd_iinc C dX10_finalStep_75 (by decide) rfl ⟨by omega, by omega⟩ (L' := [rd_R 0, rd_I n0, rd_I x, rd_I (c3 + 1), rd_I (mo_o μ n0 (4 + 3 * c3)), rd_I (mo_o μ n0 (4 + 3 * c3 + 1) + 1)]) rfl ?_
              refine rd_goto C dX10_finalStep_78 (tgt := 4) (by decide) ?_
              exact ih (k + 1) _ _ 0 0 _ _ (by omega) (by omega) (by simp only [sp_fs]; subst hc; grind) (by omega)
            · refine rd_iload C dX10_finalStep_68 rfl ?_
              refine rd_goto C dX10_finalStep_70 (tgt := 74) (by decide) ?_
              refine rd_istore_n C dX10_finalStep_74 (by decide) (L' := [rd_R 0, rd_I n0, rd_I (mo_o μ n0 (4 + 3 * c3 + 1) + 1), rd_I c3, rd_I (mo_o μ n0 (4 + 3 * c3)), rd_I (mo_o μ n0 (4 + 3 * c3 + 1) + 1)]) rfl ?_
              refine rd_iinc C dX10_finalStep_75 (by decide) rfl ⟨by omega, by omega⟩ (L' := [rd_R 0, rd_I n0, rd_I (mo_o μ n0 (4 + 3 * c3 + 1) + 1), rd_I (c3 + 1), rd_I (mo_o μ n0 (4 + 3 * c3)), rd_I (mo_o μ n0 (4 + 3 * c3 + 1) + 1)]) rfl ?_
              refine rd_goto C dX10_finalStep_78 (tgt := 4) (by decide) ?_
              exact ih (k + 1) _ _ 0 0 _ _ (by omega) (by omega) (by simp only [sp_fs]; subst hc; grind) (by omega)
        · refine rd_iload C dX10_finalStep_48 rfl ?_
          refine rd_goto C dX10_finalStep_50 (tgt := 54) (by decide) ?_
          refine rd_istore_n C dX10_finalStep_54 (by decide) (L' := [rd_R 0, rd_I n0, rd_I (mo_o μ n0 (4 + 3 * c3)), rd_I c3, rd_I (mo_o μ n0 (4 + 3 * c3)), rd_I (mo_o μ n0 (4 + 3 * c3 + 1) + 1)]) rfl ?_
          refine rd_iload C dX10_finalStep_55 rfl ?_
          refine rd_bipush C dX10_finalStep_57 (n := 10) (by decide) ⟨by decide, by decide⟩ ?_
          refine rd_icmp_ge C dX10_finalStep_59 (tgt := 73) (by decide) (fun h_59 => ?_) (fun h_59 => ?_)
          · refine rd_iload_n C dX10_finalStep_73 rfl ?_
            refine rd_istore_n C dX10_finalStep_74 (by decide) (L' := [rd_R 0, rd_I n0, rd_I (mo_o μ n0 (4 + 3 * c3)), rd_I c3, rd_I (mo_o μ n0 (4 + 3 * c3)), rd_I (mo_o μ n0 (4 + 3 * c3 + 1) + 1)]) rfl ?_
            refine rd_iinc C dX10_finalStep_75 (by decide) rfl ⟨by omega, by omega⟩ (L' := [rd_R 0, rd_I n0, rd_I (mo_o μ n0 (4 + 3 * c3)), rd_I (c3 + 1), rd_I (mo_o μ n0 (4 + 3 * c3)), rd_I (mo_o μ n0 (4 + 3 * c3 + 1) + 1)]) rfl ?_
            refine rd_goto C dX10_finalStep_78 (tgt := 4) (by decide) ?_
            exact ih (k + 1) _ _ 0 0 _ _ (by omega) (by omega) (by simp only [sp_fs]; subst hc; grind) (by omega)
          · refine rd_iload C dX10_finalStep_62 rfl ?_
            refine rd_iload_n C dX10_finalStep_64 rfl ?_
            refine rd_icmp_le C dX10_finalStep_65 (tgt := 73) (by decide) (fun h_65 => ?_) (fun h_65 => ?_)
            · refine rd_iload_n C dX10_finalStep_73 rfl ?_
              refine rd_istore_n C dX10_finalStep_74 (by decide) (L' := [rd_R 0, rd_I n0, rd_I (mo_o μ n0 (4 + 3 * c3)), rd_I c3, rd_I (mo_o μ n0 (4 + 3 * c3)), rd_I (mo_o μ n0 (4 + 3 * c3 + 1) + 1)]) rfl ?_
              refine rd_iinc C dX10_finalStep_75 (by decide) rfl ⟨by omega, by omega⟩ (L' := [rd_R 0, rd_I n0, rd_I (mo_o μ n0 (4 + 3 * c3)), rd_I (c3 + 1), rd_I (mo_o μ n0 (4 + 3 * c3)), rd_I (mo_o μ n0 (4 + 3 * c3 + 1) + 1)]) rfl ?_
              refine rd_goto C dX10_finalStep_78 (tgt := 4) (by decide) ?_
              exact ih (k + 1) _ _ 0 0 _ _ (by omega) (by omega) (by simp only [sp_fs]; subst hc; grind) (by omega)
            · refine rd_iload C dX10_finalStep_68 rfl ?_
              refine rd_goto C dX10_finalStep_70 (tgt := 74) (by decide) ?_
              refine rd_istore_n C dX10_finalStep_74 (by decide) (L' := [rd_R 0, rd_I n0, rd_I (mo_o μ n0 (4 + 3 * c3 + 1) + 1), rd_I c3, rd_I (mo_o μ n0 (4 + 3 * c3)), rd_I (mo_o μ n0 (4 + 3 * c3 + 1) + 1)]) rfl ?_
              refine rd_iinc C dX10_finalStep_75 (by decide) rfl ⟨by omega, by omega⟩ (L' := [rd_R 0, rd_I n0, rd_I (mo_o μ n0 (4 + 3 * c3 + 1) + 1), rd_I (c3 + 1), rd_I (mo_o μ n0 (4 + 3 * c3)), rd_I (mo_o μ n0 (4 + 3 * c3 + 1) + 1)]) rfl ?_
              refine rd_goto C dX10_finalStep_78 (tgt := 4) (by decide) ?_
              exact ih (k + 1) _ _ 0 0 _ _ (by omega) (by omega) (by simp only [sp_fs]; subst hc; grind) (by omega)
  exact lp4 ((mo_o μ n0 3).toNat + 1) 0 0 0 0 0 rd_J rd_J (by have := hi.1; omega) (by omega) rfl rfl
noncomputable def mo_mk (μ : rd_Mem) (n t : Int) : Nat → Int := sp_mask (fun q => mo_o μ n (4 + 3 * q)) (fun q => mo_o μ n (4 + 3 * q + 1)) t
set_option maxHeartbeats 4000000 in
set_option maxRecDepth 100000 in
theorem c_X10_seen {l : Launch} {G : rd_G} {r : Nat} {μ : rd_Mem} {n0 t0 : Int} (hn : 0 ≤ n0 ∧ n0 ≤ 9) (h0 : 0 ≤ mo_o μ n0 3) (h6 : mo_o μ n0 3 ≤ 6) : rd_M l G rd_km 5 r yX10_seen cX10_seen 7 (some .int) (rd_rm 1 22) [rd_R 0, rd_I n0, rd_I t0] μ (fun v μ' => v = some (rd_I (mo_mk μ n0 t0 (mo_o μ n0 3).toNat)) ∧ μ' = μ) := by
  refine rd_enter (by decide +kernel) (Nat.le_of_ble_eq_true rfl) [rd_R 0, rd_I n0, rd_I t0, rd_J, rd_J, rd_J, rd_J] rfl (fun p e s m args below meth c C => ?_)
  refine rd_W.rng (fun hM hL _ => ?_)
  refine rd_iconst C dX10_seen_0 (n := 0) ⟨by decide, by decide⟩ ?_
  refine rd_istore_n C dX10_seen_1 (by decide) (L' := [rd_R 0, rd_I n0, rd_I t0, rd_I 0, rd_J, rd_J, rd_J]) rfl ?_
  refine rd_iconst C dX10_seen_2 (n := 0) ⟨by decide, by decide⟩ ?_
  refine rd_istore C dX10_seen_3 (by decide) (L' := [rd_R 0, rd_I n0, rd_I t0, rd_I 0, rd_I 0, rd_J, rd_J]) rfl ?_
  have lp5 : ∀ (n : Nat) (k : Nat) (x c4 : Int) (j5 j6 : rd_X), ((k : Int) ≤ mo_o μ n0 3) → (mo_o μ n0 3 < k + n) → (x = mo_mk μ n0 t0 k) → (0 ≤ x ∧ x < 2 ^ k) → (c4 = (k : Int)) → rd_W p l e (rd_rm 1 22) s m args below meth c (MQ below (rd_Qc G rd_km 5 r (fun v μ' => v = some (rd_I (mo_mk μ n0 t0 (mo_o μ n0 3).toNat)) ∧ μ' = μ)) args s 0 0 (rd_A r 5)) 7 G rd_km 5 r 5 [rd_R 0, rd_I n0, rd_I t0, rd_I x, rd_I c4, j5, j6] [] μ := by
    intro n
    induction n with
    | zero => intro k x c4 j5 j6  h2 h3 hx hx2 hc; exfalso; omega
    | succ n ih =>
      intro k x c4 j5 j6  h2 h3 hx hx2 hc
      refine rd_iload C dX10_seen_5 rfl ?_
      refine rd_aload_n C dX10_seen_7 rfl ?_
      refine rd_iload_n C dX10_seen_8 rfl ?_
      refine rd_iconst C dX10_seen_9 (n := 3) ⟨by decide, by decide⟩ ?_
      refine rd_callV C (c_X10_of (i := n0) (q := 3) hn ⟨by omega, by omega⟩) rm_X10_26 ri_X10_of rs_X10_of rc_X10_of rz_X10 ⟨rp_X10_of, rfl, rfl, by decide, by decide⟩ rfl rd_kcl10 dX10_seen_10 rd_c0 rd_m0 rfl (Nat.le_of_ble_eq_true rfl) (fun v1 w1 hq => ?_)
      obtain ⟨hv1, hm1⟩ := hq; rw [show v1 = some (rd_I (mo_o μ n0 3)) from hv1, hm1]; clear hv1 hm1
      refine rd_icmp_ge C dX10_seen_13 (tgt := 87) (by decide) (fun h_13 => ?_) (fun h_13 => ?_)
      · refine rd_iload_n C dX10_seen_87 rfl ?_
        exact rd_iret C dX10_seen_88 ⟨by rw [hx, show k = (mo_o μ n0 3).toNat by omega], rfl⟩
      · refine rd_aload_n C dX10_seen_16 rfl ?_
        refine rd_iload_n C dX10_seen_17 rfl ?_
        refine rd_iconst C dX10_seen_18 (n := 4) ⟨by decide, by decide⟩ ?_
        refine rd_iconst C dX10_seen_19 (n := 3) ⟨by decide, by decide⟩ ?_
        refine rd_iload C dX10_seen_20 rfl ?_
        refine rd_imul C dX10_seen_22 (z := 3 * c4) rfl ⟨by omega, by omega⟩ ?_
        refine rd_iadd C dX10_seen_23 (z := 4 + 3 * c4) rfl ⟨by omega, by omega⟩ ?_
        refine rd_iconst C dX10_seen_24 (n := 1) ⟨by decide, by decide⟩ ?_
        refine rd_iadd C dX10_seen_25 (z := 4 + 3 * c4 + 1) rfl ⟨by omega, by omega⟩ ?_
        refine rd_callV C (c_X10_of (i := n0) (q := 4 + 3 * c4 + 1) hn ⟨by omega, by omega⟩) rm_X10_26 ri_X10_of rs_X10_of rc_X10_of rz_X10 ⟨rp_X10_of, rfl, rfl, by decide, by decide⟩ rfl rd_kcl10 dX10_seen_26 rd_c0 rd_m0 rfl (Nat.le_of_ble_eq_true rfl) (fun v1 w1 hq => ?_)
        obtain ⟨hv1, hm1⟩ := hq; rw [show v1 = some (rd_I (mo_o μ n0 (4 + 3 * c4 + 1))) from hv1, hm1]; clear hv1 hm1
        refine rd_istore C dX10_seen_29 (by decide) (L' := [rd_R 0, rd_I n0, rd_I t0, rd_I x, rd_I c4, rd_I (mo_o μ n0 (4 + 3 * c4 + 1)), j6]) rfl ?_
        refine rd_iload_n C dX10_seen_31 rfl ?_
        refine rd_aload_n C dX10_seen_32 rfl ?_
        refine rd_iload_n C dX10_seen_33 rfl ?_
        refine rd_iconst C dX10_seen_34 (n := 4) ⟨by decide, by decide⟩ ?_
        refine rd_iconst C dX10_seen_35 (n := 3) ⟨by decide, by decide⟩ ?_
        refine rd_iload C dX10_seen_36 rfl ?_
        refine rd_imul C dX10_seen_38 (z := 3 * c4) rfl ⟨by omega, by omega⟩ ?_
        refine rd_iadd C dX10_seen_39 (z := 4 + 3 * c4) rfl ⟨by omega, by omega⟩ ?_
        refine rd_callV C (c_X10_of (i := n0) (q := 4 + 3 * c4) hn ⟨by omega, by omega⟩) rm_X10_26 ri_X10_of rs_X10_of rc_X10_of rz_X10 ⟨rp_X10_of, rfl, rfl, by decide, by decide⟩ rfl rd_kcl10 dX10_seen_40 rd_c0 rd_m0 rfl (Nat.le_of_ble_eq_true rfl) (fun v1 w1 hq => ?_)
        obtain ⟨hv1, hm1⟩ := hq; rw [show v1 = some (rd_I (mo_o μ n0 (4 + 3 * c4))) from hv1, hm1]; clear hv1 hm1
        refine rd_icmp_lt C dX10_seen_43 (tgt := 62) (by decide) (fun h_43 => ?_) (fun h_43 => ?_)
        · refine rd_iconst C dX10_seen_62 (n := 0) ⟨by decide, by decide⟩ ?_
          refine rd_istore C dX10_seen_63 (by decide) (L' := [rd_R 0, rd_I n0, rd_I t0, rd_I x, rd_I c4, rd_I (mo_o μ n0 (4 + 3 * c4 + 1)), rd_I 0]) rfl ?_
          refine rd_iload_n C dX10_seen_65 rfl ?_
          refine rd_iload C dX10_seen_66 rfl ?_
          refine rd_if_eq C dX10_seen_68 (tgt := 78) (by decide) (fun _ => ?_) (fun h => absurd h (by decide))
          refine rd_iconst C dX10_seen_78 (n := 0) ⟨by decide, by decide⟩ ?_
          refine rd_ior C dX10_seen_79 (z := x) (by rw [rd_z]; exact Int32.or_zero) ⟨by have := sp_two (k := k) (by omega); omega, by have := sp_two (k := k) (by omega); omega⟩ ?_
          refine rd_istore_n C dX10_seen_80 (by decide) (L' := [rd_R 0, rd_I n0, rd_I t0, rd_I x, rd_I c4, rd_I (mo_o μ n0 (4 + 3 * c4 + 1)), rd_I 0]) rfl ?_
          refine rd_iinc C dX10_seen_81 (by decide) rfl ⟨by omega, by omega⟩ (L' := [rd_R 0, rd_I n0, rd_I t0, rd_I x, rd_I (c4 + 1), rd_I (mo_o μ n0 (4 + 3 * c4 + 1)), rd_I 0]) rfl ?_
          refine rd_goto C dX10_seen_84 (tgt := 5) (by decide) ?_
          exact ih (k + 1) _ _ _ _ (by omega) (by omega) (by unfold mo_mk; simp only [sp_mask]; rw [hx, sp_iff (by rw [← hc]; intro h; have h1 : mo_o μ n0 (4 + 3 * c4) ≤ t0 := h.1; have h2 : mo_o μ n0 (4 + 3 * c4 + 1) = -1 ∨ t0 ≤ mo_o μ n0 (4 + 3 * c4 + 1) := h.2; omega), Int.add_zero]; rfl) (by rw [sp_pow]; omega) (by omega)
        · refine rd_iload C dX10_seen_46 rfl ?_
          refine rd_iconst C dX10_seen_48 (n := -1) ⟨by decide, by decide⟩ ?_
          refine rd_icmp_eq C dX10_seen_49 (tgt := 58) (by decide) (fun h_49 => ?_) (fun h_49 => ?_)
          · refine rd_iconst C dX10_seen_58 (n := 1) ⟨by decide, by decide⟩ ?_
            refine rd_goto C dX10_seen_59 (tgt := 63) (by decide) ?_
            refine rd_istore C dX10_seen_63 (by decide) (L' := [rd_R 0, rd_I n0, rd_I t0, rd_I x, rd_I c4, rd_I (mo_o μ n0 (4 + 3 * c4 + 1)), rd_I 1]) rfl ?_
            refine rd_iload_n C dX10_seen_65 rfl ?_
            refine rd_iload C dX10_seen_66 rfl ?_
            refine rd_if_eq C dX10_seen_68 (tgt := 78) (by decide) (fun h => absurd h (by decide)) (fun _ => ?_)
            refine rd_iconst C dX10_seen_71 (n := 1) ⟨by decide, by decide⟩ ?_
            refine rd_iload C dX10_seen_72 rfl ?_
            refine rd_ishl C dX10_seen_74 (z := 2 ^ k) (by rw [hc]; exact sp_shl (by omega)) (by have := sp_two (k := k) (by omega); exact ⟨by omega, by omega⟩) ?_
            refine rd_goto C dX10_seen_75 (tgt := 79) (by decide) ?_
            refine rd_ior C dX10_seen_79 (z := x + 2 ^ k) (sp_or (by omega) (by omega) (by omega)) (by have := sp_two (k := k) (by omega); exact ⟨by omega, by omega⟩) ?_
            refine rd_istore_n C dX10_seen_80 (by decide) (L' := [rd_R 0, rd_I n0, rd_I t0, rd_I (x + 2 ^ k), rd_I c4, rd_I (mo_o μ n0 (4 + 3 * c4 + 1)), rd_I 1]) rfl ?_
            refine rd_iinc C dX10_seen_81 (by decide) rfl ⟨by omega, by omega⟩ (L' := [rd_R 0, rd_I n0, rd_I t0, rd_I (x + 2 ^ k), rd_I (c4 + 1), rd_I (mo_o μ n0 (4 + 3 * c4 + 1)), rd_I 1]) rfl ?_
            refine rd_goto C dX10_seen_84 (tgt := 5) (by decide) ?_
            exact ih (k + 1) _ _ _ _ (by omega) (by omega) (by unfold mo_mk; simp only [sp_mask]; rw [hx, sp_ift (by rw [← hc]; exact ⟨show mo_o μ n0 (4 + 3 * c4) ≤ t0 by omega, show mo_o μ n0 (4 + 3 * c4 + 1) = -1 ∨ t0 ≤ mo_o μ n0 (4 + 3 * c4 + 1) by omega⟩)]; rfl) (by rw [sp_pow]; omega) (by omega)
          · refine rd_iload_n C dX10_seen_52 rfl ?_
            refine rd_iload C dX10_seen_53 rfl ?_
            refine rd_icmp_gt C dX10_seen_55 (tgt := 62) (by decide) (fun h_55 => ?_) (fun h_55 => ?_)
            · refine rd_iconst C dX10_seen_62 (n := 0) ⟨by decide, by decide⟩ ?_
              refine rd_istore C dX10_seen_63 (by decide) (L' := [rd_R 0, rd_I n0, rd_I t0, rd_I x, rd_I c4, rd_I (mo_o μ n0 (4 + 3 * c4 + 1)), rd_I 0]) rfl ?_
              refine rd_iload_n C dX10_seen_65 rfl ?_
              refine rd_iload C dX10_seen_66 rfl ?_
              refine rd_if_eq C dX10_seen_68 (tgt := 78) (by decide) (fun _ => ?_) (fun h => absurd h (by decide))
              refine rd_iconst C dX10_seen_78 (n := 0) ⟨by decide, by decide⟩ ?_
              refine rd_ior C dX10_seen_79 (z := x) (by rw [rd_z]; exact Int32.or_zero) ⟨by have := sp_two (k := k) (by omega); omega, by have := sp_two (k := k) (by omega); omega⟩ ?_
              refine rd_istore_n C dX10_seen_80 (by decide) (L' := [rd_R 0, rd_I n0, rd_I t0, rd_I x, rd_I c4, rd_I (mo_o μ n0 (4 + 3 * c4 + 1)), rd_I 0]) rfl ?_
              refine rd_iinc C dX10_seen_81 (by decide) rfl ⟨by omega, by omega⟩ (L' := [rd_R 0, rd_I n0, rd_I t0, rd_I x, rd_I (c4 + 1), rd_I (mo_o μ n0 (4 + 3 * c4 + 1)), rd_I 0]) rfl ?_
              refine rd_goto C dX10_seen_84 (tgt := 5) (by decide) ?_
              exact ih (k + 1) _ _ _ _ (by omega) (by omega) (by unfold mo_mk; simp only [sp_mask]; rw [hx, sp_iff (by rw [← hc]; intro h; have h1 : mo_o μ n0 (4 + 3 * c4) ≤ t0 := h.1; have h2 : mo_o μ n0 (4 + 3 * c4 + 1) = -1 ∨ t0 ≤ mo_o μ n0 (4 + 3 * c4 + 1) := h.2; omega), Int.add_zero]; rfl) (by rw [sp_pow]; omega) (by omega)
            · refine rd_iconst C dX10_seen_58 (n := 1) ⟨by decide, by decide⟩ ?_
              refine rd_goto C dX10_seen_59 (tgt := 63) (by decide) ?_
              refine rd_istore C dX10_seen_63 (by decide) (L' := [rd_R 0, rd_I n0, rd_I t0, rd_I x, rd_I c4, rd_I (mo_o μ n0 (4 + 3 * c4 + 1)), rd_I 1]) rfl ?_
              refine rd_iload_n C dX10_seen_65 rfl ?_
              refine rd_iload C dX10_seen_66 rfl ?_
              refine rd_if_eq C dX10_seen_68 (tgt := 78) (by decide) (fun h => absurd h (by decide)) (fun _ => ?_)
              refine rd_iconst C dX10_seen_71 (n := 1) ⟨by decide, by decide⟩ ?_
              refine rd_iload C dX10_seen_72 rfl ?_
              refine rd_ishl C dX10_seen_74 (z := 2 ^ k) (by rw [hc]; exact sp_shl (by omega)) (by have := sp_two (k := k) (by omega); exact ⟨by omega, by omega⟩) ?_
              refine rd_goto C dX10_seen_75 (tgt := 79) (by decide) ?_
              refine rd_ior C dX10_seen_79 (z := x + 2 ^ k) (sp_or (by omega) (by omega) (by omega)) (by have := sp_two (k := k) (by omega); exact ⟨by omega, by omega⟩) ?_
              refine rd_istore_n C dX10_seen_80 (by decide) (L' := [rd_R 0, rd_I n0, rd_I t0, rd_I (x + 2 ^ k), rd_I c4, rd_I (mo_o μ n0 (4 + 3 * c4 + 1)), rd_I 1]) rfl ?_
              refine rd_iinc C dX10_seen_81 (by decide) rfl ⟨by omega, by omega⟩ (L' := [rd_R 0, rd_I n0, rd_I t0, rd_I (x + 2 ^ k), rd_I (c4 + 1), rd_I (mo_o μ n0 (4 + 3 * c4 + 1)), rd_I 1]) rfl ?_
              refine rd_goto C dX10_seen_84 (tgt := 5) (by decide) ?_
              exact ih (k + 1) _ _ _ _ (by omega) (by omega) (by unfold mo_mk; simp only [sp_mask]; rw [hx, sp_ift (by rw [← hc]; exact ⟨show mo_o μ n0 (4 + 3 * c4) ≤ t0 by omega, show mo_o μ n0 (4 + 3 * c4 + 1) = -1 ∨ t0 ≤ mo_o μ n0 (4 + 3 * c4 + 1) by omega⟩)]; rfl) (by rw [sp_pow]; omega) (by omega)
  exact lp5 ((mo_o μ n0 3).toNat + 1) 0 0 0 rd_J rd_J (by omega) (by omega) rfl (by decide) rfl
def mo_lk (t : Int → Int) : Nat → Int
  | 0 => 0
  | n + 1 => if t n = -6 then mo_lk t n else mo_lk t n + 1
theorem mo_lk0 (t : Int → Int) (n : Nat) : 0 ≤ mo_lk t n ∧ mo_lk t n ≤ n := by
  induction n with
  | zero => simp [mo_lk]
  | succ n ih => unfold mo_lk; split <;> omega
set_option maxHeartbeats 4000000 in
set_option maxRecDepth 100000 in
theorem c_X10_links {l : Launch} {G : rd_G} {r : Nat} {μ : rd_Mem} {n0 : Int} (hn : 0 ≤ n0 ∧ n0 ≤ 9) : rd_M l G rd_km 5 r yX10_links cX10_links 4 (some .int) (rd_rm 1 22) [rd_R 0, rd_I n0] μ (fun v μ' => v = some (rd_I (mo_lk (fun q => mo_o μ n0 (22 + q)) 10)) ∧ μ' = μ) := by
  refine rd_enter (by decide +kernel) (Nat.le_of_ble_eq_true rfl) [rd_R 0, rd_I n0, rd_J, rd_J] rfl (fun p e s m args below meth c C => ?_)
  refine rd_W.rng (fun hM hL _ => ?_)
  refine rd_iconst C dX10_links_0 (n := 0) ⟨by decide, by decide⟩ ?_
  refine rd_istore_n C dX10_links_1 (by decide) (L' := [rd_R 0, rd_I n0, rd_I 0, rd_J]) rfl ?_
  refine rd_iconst C dX10_links_2 (n := 0) ⟨by decide, by decide⟩ ?_
  refine rd_istore_n C dX10_links_3 (by decide) (L' := [rd_R 0, rd_I n0, rd_I 0, rd_I 0]) rfl ?_
  have lp4 : ∀ (n : Nat) (k : Nat) (x c3 : Int), (k ≤ 10) → (10 < k + n) → (x = mo_lk (fun q => mo_o μ n0 (22 + q)) k) → (0 ≤ x ∧ x ≤ k) → (c3 = (k : Int)) → rd_W p l e (rd_rm 1 22) s m args below meth c (MQ below (rd_Qc G rd_km 5 r (fun v μ' => v = some (rd_I (mo_lk (fun q => mo_o μ n0 (22 + q)) 10)) ∧ μ' = μ)) args s 0 0 (rd_A r 5)) 4 G rd_km 5 r 4 [rd_R 0, rd_I n0, rd_I x, rd_I c3] [] μ := by
    intro n
    induction n with
    | zero => intro k x c3  h2 h3 hx hx2 hc; exfalso; omega
    | succ n ih =>
      intro k x c3  h2 h3 hx hx2 hc
      refine rd_iload_n C dX10_links_4 rfl ?_
      refine rd_bipush C dX10_links_5 (n := 10) (by decide) ⟨by decide, by decide⟩ ?_
      refine rd_icmp_ge C dX10_links_7 (tgt := 38) (by decide) (fun h_7 => ?_) (fun h_7 => ?_)
      · refine rd_iload_n C dX10_links_38 rfl ?_
        exact rd_iret C dX10_links_39 ⟨by rw [hx, show k = 10 by omega], rfl⟩
      · refine rd_iload_n C dX10_links_10 rfl ?_
        refine rd_aload_n C dX10_links_11 rfl ?_
        refine rd_iload_n C dX10_links_12 rfl ?_
        refine rd_bipush C dX10_links_13 (n := 22) (by decide) ⟨by decide, by decide⟩ ?_
        refine rd_iload_n C dX10_links_15 rfl ?_
        refine rd_iadd C dX10_links_16 (z := 22 + c3) rfl ⟨by omega, by omega⟩ ?_
        refine rd_callV C (c_X10_of (i := n0) (q := 22 + c3) hn ⟨by omega, by omega⟩) rm_X10_26 ri_X10_of rs_X10_of rc_X10_of rz_X10 ⟨rp_X10_of, rfl, rfl, by decide, by decide⟩ rfl rd_kcl10 dX10_links_17 rd_c0 rd_m0 rfl (Nat.le_of_ble_eq_true rfl) (fun v1 w1 hq => ?_)
        obtain ⟨hv1, hm1⟩ := hq; rw [show v1 = some (rd_I (mo_o μ n0 (22 + c3))) from hv1, hm1]; clear hv1 hm1
        refine rd_bipush C dX10_links_20 (n := -6) (by decide) ⟨by decide, by decide⟩ ?_
        refine rd_icmp_ne C dX10_links_22 (tgt := 29) (by decide) (fun h_22 => ?_) (fun h_22 => ?_)
        · refine rd_iconst C dX10_links_29 (n := 1) ⟨by decide, by decide⟩ ?_
          refine rd_iadd C dX10_links_30 (z := x + 1) rfl ⟨by omega, by omega⟩ ?_
          refine rd_istore_n C dX10_links_31 (by decide) (L' := [rd_R 0, rd_I n0, rd_I (x + 1), rd_I c3]) rfl ?_
          refine rd_iinc C dX10_links_32 (by decide) rfl ⟨by omega, by omega⟩ (L' := [rd_R 0, rd_I n0, rd_I (x + 1), rd_I (c3 + 1)]) rfl ?_
          refine rd_goto C dX10_links_35 (tgt := 4) (by decide) ?_
          exact ih (k + 1) _ _ (by omega) (by omega) (by simp only [mo_lk]; subst hc; grind) (by omega) (by omega)
        · refine rd_iconst C dX10_links_25 (n := 0) ⟨by decide, by decide⟩ ?_
          refine rd_goto C dX10_links_26 (tgt := 30) (by decide) ?_
          refine rd_iadd C dX10_links_30 (z := x + 0) rfl ⟨by omega, by omega⟩ ?_
          refine rd_istore_n C dX10_links_31 (by decide) (L' := [rd_R 0, rd_I n0, rd_I (x + 0), rd_I c3]) rfl ?_
          refine rd_iinc C dX10_links_32 (by decide) rfl ⟨by omega, by omega⟩ (L' := [rd_R 0, rd_I n0, rd_I (x + 0), rd_I (c3 + 1)]) rfl ?_
          refine rd_goto C dX10_links_35 (tgt := 4) (by decide) ?_
          exact ih (k + 1) _ _ (by omega) (by omega) (by simp only [mo_lk]; subst hc; grind) (by omega) (by omega)
  exact lp4 11 0 0 0 (by omega) (by omega) rfl (by omega) rfl
set_option maxHeartbeats 4000000 in
set_option maxRecDepth 100000 in
theorem c_X10_placeOf {l : Launch} {G : rd_G} {r : Nat} {μ : rd_Mem} {x : Int} (hc : mo_cn μ) (hp : mo_po μ x) : rd_M l G rd_km 5 r yX10_placeOf cX10_placeOf 3 (some .int) (rd_rm 0 0) [rd_R 0, rd_I x] μ (fun v μ' => v = some (rd_I (mo_pl μ x)) ∧ μ' = μ) := by
  refine rd_enter (by decide +kernel) (Nat.le_of_ble_eq_true rfl) [rd_R 0, rd_I x, rd_J] rfl (fun p e s m args below meth c C => ?_)
  refine rd_W.rng (fun hM hL _ => ?_)
  have hc1 := hc.1
  refine rd_iconst C dX10_placeOf_0 (n := 0) ⟨by decide, by decide⟩ ?_
  refine rd_istore_n C dX10_placeOf_1 (by decide) (L' := [rd_R 0, rd_I x, rd_I 0]) rfl ?_
  have lp2 : ∀ (n : Nat) (n' : Nat) (k : Int), (n' < n) → (0 ≤ k) → (k + n' = μ 1 0) → (sp_ff (fun i => μ 1 (1 + i) = x) n' k = mo_pl μ x) → rd_W p l e (rd_rm 0 0) s m args below meth c (MQ below (rd_Qc G rd_km 5 r (fun v μ' => v = some (rd_I (mo_pl μ x)) ∧ μ' = μ)) args s 0 0 (rd_A r 5)) 3 G rd_km 5 r 2 [rd_R 0, rd_I x, rd_I k] [] μ := by
    intro n
    induction n with
    | zero => intro n' k  h1 h2 h3 hF; exfalso; omega
    | succ n ih =>
      intro n' k  h1 h2 h3 hF
      have hn0 : 0 < n' := by
        rcases Nat.eq_zero_or_pos n' with h | h
        · subst h; have h9 : mo_pl μ x = -1 := hF.symm.trans rfl; have := hp.1; omega
        · exact h
      have hp2 := hc.1
      refine rd_aload_n C dX10_placeOf_2 rfl ?_
      refine rd_get C rd_g10_0 rf_X10_7 dX10_placeOf_3 rd_c0 rd_m0 (x := rd_R (1)) rfl (fun _ => trivial) ?_
      refine rd_iconst C dX10_placeOf_6 (n := 1) ⟨by decide, by decide⟩ ?_
      refine rd_iload_n C dX10_placeOf_7 rfl ?_
      refine rd_iadd C dX10_placeOf_8 (z := 1 + k) rfl ⟨by omega, by omega⟩ ?_
      refine rd_ialdx C rd_ai18 dX10_placeOf_9 rd_c1 rd_m1 ⟨by omega, by omega⟩ (z := μ 1 (1 + k)) rfl ?_
      refine rd_iload_n C dX10_placeOf_10 rfl ?_
      refine rd_icmp_eq C dX10_placeOf_11 (tgt := 20) (by decide) (fun h_11 => ?_) (fun h_11 => ?_)
      · refine rd_iload_n C dX10_placeOf_20 rfl ?_
        exact rd_iret C dX10_placeOf_21 ⟨by rw [← hF, sp_ff_t (n := n') (a := k) (by omega) h_11], rfl⟩
      · refine rd_iinc C dX10_placeOf_14 (by decide) rfl ⟨by omega, by omega⟩ (L' := [rd_R 0, rd_I x, rd_I (k + 1)]) rfl ?_
        refine rd_goto C dX10_placeOf_17 (tgt := 2) (by decide) ?_
        exact ih (n' - 1) (k + 1) (by omega) (by omega) (by omega) (by rw [← hF, sp_ff_f (n := n') (a := k) (by omega) h_11])
  exact lp2 ((μ 1 0).toNat + 1) (μ 1 0).toNat 0 (by omega) (by omega) (by omega) rfl
set_option maxHeartbeats 4000000 in
set_option maxRecDepth 100000 in
theorem c_X10_shownFrom {l : Launch} {G : rd_G} {r : Nat} {μ : rd_Mem} {a : Int} (hc : mo_cn μ) (ha : 0 ≤ a) (ha2 : a ≤ 11) : rd_M l G rd_km 5 r yX10_shownFrom cX10_shownFrom 3 (some .int) (rd_rm 2 43) [rd_R 0, rd_I a] μ (fun v μ' => v = some (rd_I (mo_z (mo_nx μ a))) ∧ μ' = μ) := by
  refine rd_enter (by decide +kernel) (Nat.le_of_ble_eq_true rfl) [rd_R 0, rd_I a, rd_J] rfl (fun p e s m args below meth c C => ?_)
  refine rd_W.rng (fun hM hL _ => ?_)
  have hc1 := hc.1
  refine rd_iload_n C dX10_shownFrom_0 rfl ?_
  refine rd_istore_n C dX10_shownFrom_1 (by decide) (L' := [rd_R 0, rd_I a, rd_I a]) rfl ?_
  have lp2 : ∀ (n : Nat) (n' : Nat) (k : Int), (n' < n) → (0 ≤ k) → (k + n' = μ 1 0 ∨ (n' = 0 ∧ μ 1 0 < k ∧ k ≤ 11)) → (sp_nx (fun i => μ 1 (1 + i)) (fun n => mo_o μ n 1 = 0) n' k = mo_nx μ a) → rd_W p l e (rd_rm 2 43) s m args below meth c (MQ below (rd_Qc G rd_km 5 r (fun v μ' => v = some (rd_I (mo_z (mo_nx μ a))) ∧ μ' = μ)) args s 0 0 (rd_A r 5)) 3 G rd_km 5 r 2 [rd_R 0, rd_I a, rd_I k] [] μ := by
    intro n
    induction n with
    | zero => intro n' k  h1 h2 h3 hF; exfalso; omega
    | succ n ih =>
      intro n' k  h1 h2 h3 hF
      have hp2 := hc.1
      refine rd_iload_n C dX10_shownFrom_2 rfl ?_
      refine rd_aload_n C dX10_shownFrom_3 rfl ?_
      refine rd_get C rd_g10_0 rf_X10_7 dX10_shownFrom_4 rd_c0 rd_m0 (x := rd_R (1)) rfl (fun _ => trivial) ?_
      refine rd_iconst C dX10_shownFrom_7 (n := 0) ⟨by decide, by decide⟩ ?_
      refine rd_ialdx C rd_ai18 dX10_shownFrom_8 rd_c1 rd_m1 ⟨by omega, by omega⟩ (z := μ 1 0) rfl ?_
      refine rd_icmp_ge C dX10_shownFrom_9 (tgt := 42) (by decide) (fun h_9 => ?_) (fun h_9 => ?_)
      · refine rd_bipush C dX10_shownFrom_42 (n := -6) (by decide) ⟨by decide, by decide⟩ ?_
        exact rd_iret C dX10_shownFrom_44 ⟨by rw [← hF, show n' = 0 by omega]; rfl, rfl⟩
      · refine rd_aload_n C dX10_shownFrom_12 rfl ?_
        refine rd_aload_n C dX10_shownFrom_13 rfl ?_
        refine rd_get C rd_g10_0 rf_X10_7 dX10_shownFrom_14 rd_c0 rd_m0 (x := rd_R (1)) rfl (fun _ => trivial) ?_
        refine rd_iconst C dX10_shownFrom_17 (n := 1) ⟨by decide, by decide⟩ ?_
        refine rd_iload_n C dX10_shownFrom_18 rfl ?_
        refine rd_iadd C dX10_shownFrom_19 (z := 1 + k) rfl ⟨by omega, by omega⟩ ?_
        refine rd_ialdx C rd_ai18 dX10_shownFrom_20 rd_c1 rd_m1 ⟨by omega, by omega⟩ (z := μ 1 (1 + k)) rfl ?_
        refine rd_callV C (c_X10_isShown (hc.2 k (by omega) (by omega))) rm_X10_34 ri_X10_isShown rs_X10_isShown rc_X10_isShown rz_X10 ⟨rp_X10_isShown, rfl, rfl, by decide, by decide⟩ rfl rd_kcl10 dX10_shownFrom_21 rd_c0 rd_m0 rfl (Nat.le_of_ble_eq_true rfl) (fun v1 w1 hq => ?_)
        rcases hq with ⟨hw_24, hv1, hm1⟩ | ⟨hw_24, hv1, hm1⟩
        · rw [hv1, hm1]; clear hv1 hm1 v1 w1
          refine rd_if_eq C dX10_shownFrom_24 (tgt := 36) (by decide) (fun h => absurd h (by decide)) (fun _ => ?_)
          refine rd_aload_n C dX10_shownFrom_27 rfl ?_
          refine rd_get C rd_g10_0 rf_X10_7 dX10_shownFrom_28 rd_c0 rd_m0 (x := rd_R (1)) rfl (fun _ => trivial) ?_
          refine rd_iconst C dX10_shownFrom_31 (n := 1) ⟨by decide, by decide⟩ ?_
          refine rd_iload_n C dX10_shownFrom_32 rfl ?_
          refine rd_iadd C dX10_shownFrom_33 (z := 1 + k) rfl ⟨by omega, by omega⟩ ?_
          refine rd_ialdx C rd_ai18 dX10_shownFrom_34 rd_c1 rd_m1 ⟨by omega, by omega⟩ (z := μ 1 (1 + k)) rfl ?_
          exact rd_iret C dX10_shownFrom_35 ⟨by rw [← hF, sp_nx_t (n := n') (a := k) (by omega) hw_24]; unfold mo_z; rw [if_neg (by have := hc.2 k (by omega) (by omega); omega)], rfl⟩
        · rw [hv1, hm1]; clear hv1 hm1 v1 w1
          refine rd_if_eq C dX10_shownFrom_24 (tgt := 36) (by decide) (fun _ => ?_) (fun h => absurd h (by decide))
          refine rd_iinc C dX10_shownFrom_36 (by decide) rfl ⟨by omega, by omega⟩ (L' := [rd_R 0, rd_I a, rd_I (k + 1)]) rfl ?_
          refine rd_goto C dX10_shownFrom_39 (tgt := 2) (by decide) ?_
          exact ih (n' - 1) (k + 1) (by omega) (by omega) (by omega) (by rw [← hF, sp_nx_f (n := n') (a := k) (by omega) hw_24])
  exact lp2 ((μ 1 0 - a).toNat + 1) (μ 1 0 - a).toNat a (by omega) (by omega) (by omega) rfl
set_option maxHeartbeats 4000000 in
set_option maxRecDepth 100000 in
theorem c_X10_nextOf {l : Launch} {G : rd_G} {r : Nat} {μ : rd_Mem} {x : Int} (hc : mo_cn μ) (hp : mo_po μ x) : rd_M l G rd_km 5 r yX10_nextOf cX10_nextOf 2 (some .int) (rd_rm 3 65) [rd_R 0, rd_I x] μ (fun v μ' => v = some (rd_I (mo_z (mo_nx μ (mo_pl μ x + 1)))) ∧ μ' = μ) := by
  refine rd_enter (by decide +kernel) (Nat.le_of_ble_eq_true rfl) [rd_R 0, rd_I x] rfl (fun p e s m args below meth c C => ?_)
  refine rd_W.rng (fun hM hL _ => ?_)
  have hc1 := hc.1
  have hp1 := hp.1
  have hp2 := hp.2
  refine rd_aload_n C dX10_nextOf_0 rfl ?_
  refine rd_aload_n C dX10_nextOf_1 rfl ?_
  refine rd_iload_n C dX10_nextOf_2 rfl ?_
  refine rd_callV C (c_X10_placeOf hc hp) rm_X10_37 ri_X10_placeOf rs_X10_placeOf rc_X10_placeOf rz_X10 ⟨rp_X10_placeOf, rfl, rfl, by decide, by decide⟩ rfl rd_kcl10 dX10_nextOf_3 rd_c0 rd_m0 rfl (Nat.le_of_ble_eq_true rfl) (fun v1 w1 hq => ?_)
  obtain ⟨hv1, hm1⟩ := hq; rw [show v1 = some (rd_I (mo_pl μ x)) from hv1, hm1]; clear hv1 hm1
  refine rd_iconst C dX10_nextOf_6 (n := 1) ⟨by decide, by decide⟩ ?_
  refine rd_iadd C dX10_nextOf_7 (z := mo_pl μ x + 1) rfl ⟨by omega, by omega⟩ ?_
  refine rd_callV C (c_X10_shownFrom hc (by omega) (by omega)) rm_X10_41 ri_X10_shownFrom rs_X10_shownFrom rc_X10_shownFrom rz_X10 ⟨rp_X10_shownFrom, rfl, rfl, by decide, by decide⟩ rfl rd_kcl10 dX10_nextOf_8 rd_c0 rd_m0 rfl (Nat.le_of_ble_eq_true rfl) (fun v1 w1 hq => ?_)
  obtain ⟨hv1, hm1⟩ := hq; rw [show v1 = some (rd_I (mo_z (mo_nx μ (mo_pl μ x + 1)))) from hv1, hm1]; clear hv1 hm1
  exact rd_iret C dX10_nextOf_11 ⟨rfl, rfl⟩
set_option maxHeartbeats 4000000 in
set_option maxRecDepth 100000 in
theorem c_X10_isOver {l : Launch} {G : rd_G} {r : Nat} {μ : rd_Mem}  : rd_M l G rd_km 5 r yX10_isOver cX10_isOver 1 (some .boolean) (rd_rm 0 0) [rd_R 0] μ (fun v μ' => (mo_ov μ ∧ v = some (rd_I 1) ∧ μ' = μ) ∨ (¬ mo_ov μ ∧ v = some (rd_I 0) ∧ μ' = μ)) := by
  refine rd_enter (by decide +kernel) (Nat.le_of_ble_eq_true rfl) [rd_R 0] rfl (fun p e s m args below meth c C => ?_)
  refine rd_W.rng (fun hM hL _ => ?_)
  refine rd_aload_n C dX10_isOver_0 rfl ?_
  refine rd_get C rd_g10_0 rf_X10_7 dX10_isOver_1 rd_c0 rd_m0 (x := rd_R (1)) rfl (fun _ => trivial) ?_
  refine rd_bipush C dX10_isOver_4 (n := 28) (by decide) ⟨by decide, by decide⟩ ?_
  refine rd_ialdx C rd_ai18 dX10_isOver_6 rd_c1 rd_m1 ⟨by omega, by omega⟩ (z := μ 1 28) rfl ?_
  refine rd_if_le C dX10_isOver_7 (tgt := 31) (by decide) (fun h_7 => ?_) (fun h_7 => ?_)
  · refine rd_iconst C dX10_isOver_31 (n := 0) ⟨by decide, by decide⟩ ?_
    exact rd_zret C dX10_isOver_32 (by omega) (by first | exact Or.inl ⟨⟨by omega, by omega⟩, rfl, rfl⟩ | exact Or.inr ⟨(fun h => by have h1 := h.1; have h2 := h.2; omega), rfl, rfl⟩)
  · refine rd_aload_n C dX10_isOver_10 rfl ?_
    refine rd_get C rd_g10_0 rf_X10_7 dX10_isOver_11 rd_c0 rd_m0 (x := rd_R (1)) rfl (fun _ => trivial) ?_
    refine rd_bipush C dX10_isOver_14 (n := 32) (by decide) ⟨by decide, by decide⟩ ?_
    refine rd_ialdx C rd_ai18 dX10_isOver_16 rd_c1 rd_m1 ⟨by omega, by omega⟩ (z := μ 1 32) rfl ?_
    refine rd_aload_n C dX10_isOver_17 rfl ?_
    refine rd_get C rd_g10_0 rf_X10_7 dX10_isOver_18 rd_c0 rd_m0 (x := rd_R (1)) rfl (fun _ => trivial) ?_
    refine rd_bipush C dX10_isOver_21 (n := 28) (by decide) ⟨by decide, by decide⟩ ?_
    refine rd_ialdx C rd_ai18 dX10_isOver_23 rd_c1 rd_m1 ⟨by omega, by omega⟩ (z := μ 1 28) rfl ?_
    refine rd_icmp_lt C dX10_isOver_24 (tgt := 31) (by decide) (fun h_24 => ?_) (fun h_24 => ?_)
    · refine rd_iconst C dX10_isOver_31 (n := 0) ⟨by decide, by decide⟩ ?_
      exact rd_zret C dX10_isOver_32 (by omega) (by first | exact Or.inl ⟨⟨by omega, by omega⟩, rfl, rfl⟩ | exact Or.inr ⟨(fun h => by have h1 := h.1; have h2 := h.2; omega), rfl, rfl⟩)
    · refine rd_iconst C dX10_isOver_27 (n := 1) ⟨by decide, by decide⟩ ?_
      refine rd_goto C dX10_isOver_28 (tgt := 32) (by decide) ?_
      exact rd_zret C dX10_isOver_32 (by omega) (by first | exact Or.inl ⟨⟨by omega, by omega⟩, rfl, rfl⟩ | exact Or.inr ⟨(fun h => by have h1 := h.1; have h2 := h.2; omega), rfl, rfl⟩)
set_option maxHeartbeats 4000000 in
set_option maxRecDepth 100000 in
theorem c_X10_isOn {l : Launch} {G : rd_G} {r : Nat} {μ : rd_Mem}  : rd_M l G rd_km 5 r yX10_isOn cX10_isOn 1 (some .boolean) (rd_rm 1 20) [rd_R 0] μ (fun v μ' => (mo_on μ ∧ v = some (rd_I 1) ∧ μ' = μ) ∨ (¬ mo_on μ ∧ v = some (rd_I 0) ∧ μ' = μ)) := by
  refine rd_enter (by decide +kernel) (Nat.le_of_ble_eq_true rfl) [rd_R 0] rfl (fun p e s m args below meth c C => ?_)
  refine rd_W.rng (fun hM hL _ => ?_)
  refine rd_aload_n C dX10_isOn_0 rfl ?_
  refine rd_get C rd_g10_0 rf_X10_7 dX10_isOn_1 rd_c0 rd_m0 (x := rd_R (1)) rfl (fun _ => trivial) ?_
  refine rd_bipush C dX10_isOn_4 (n := 29) (by decide) ⟨by decide, by decide⟩ ?_
  refine rd_ialdx C rd_ai18 dX10_isOn_6 rd_c1 rd_m1 ⟨by omega, by omega⟩ (z := μ 1 29) rfl ?_
  refine rd_iconst C dX10_isOn_7 (n := 1) ⟨by decide, by decide⟩ ?_
  refine rd_icmp_ne C dX10_isOn_8 (tgt := 22) (by decide) (fun h_8 => ?_) (fun h_8 => ?_)
  · refine rd_iconst C dX10_isOn_22 (n := 0) ⟨by decide, by decide⟩ ?_
    exact rd_zret C dX10_isOn_23 (by omega) (by first | exact Or.inl ⟨⟨h_8, hw_15⟩, rfl, rfl⟩ | exact Or.inr ⟨(fun h => h.2 hw_15), rfl, rfl⟩ | exact Or.inr ⟨(fun h => h_8 h.1), rfl, rfl⟩)
  · refine rd_aload_n C dX10_isOn_11 rfl ?_
    refine rd_callV C (c_X10_isOver) rm_X10_44 ri_X10_isOver rs_X10_isOver rc_X10_isOver rz_X10 ⟨rp_X10_isOver, rfl, rfl, by decide, by decide⟩ rfl rd_kcl10 dX10_isOn_12 rd_c0 rd_m0 rfl (Nat.le_of_ble_eq_true rfl) (fun v1 w1 hq => ?_)
    rcases hq with ⟨hw_15, hv1, hm1⟩ | ⟨hw_15, hv1, hm1⟩
    · rw [hv1, hm1]; clear hv1 hm1 v1 w1
      refine rd_if_ne C dX10_isOn_15 (tgt := 22) (by decide) (fun _ => ?_) (fun h => absurd h (by decide))
      refine rd_iconst C dX10_isOn_22 (n := 0) ⟨by decide, by decide⟩ ?_
      exact rd_zret C dX10_isOn_23 (by omega) (by first | exact Or.inl ⟨⟨h_8, hw_15⟩, rfl, rfl⟩ | exact Or.inr ⟨(fun h => h.2 hw_15), rfl, rfl⟩ | exact Or.inr ⟨(fun h => h_8 h.1), rfl, rfl⟩)
    · rw [hv1, hm1]; clear hv1 hm1 v1 w1
      refine rd_if_ne C dX10_isOn_15 (tgt := 22) (by decide) (fun h => absurd h (by decide)) (fun _ => ?_)
      refine rd_iconst C dX10_isOn_18 (n := 1) ⟨by decide, by decide⟩ ?_
      refine rd_goto C dX10_isOn_19 (tgt := 23) (by decide) ?_
      exact rd_zret C dX10_isOn_23 (by omega) (by first | exact Or.inl ⟨⟨h_8, hw_15⟩, rfl, rfl⟩ | exact Or.inr ⟨(fun h => h.2 hw_15), rfl, rfl⟩ | exact Or.inr ⟨(fun h => h_8 h.1), rfl, rfl⟩)
/-- what is asked where a position stands: its slide in the order, its items in range -/
def mo_at (μ : rd_Mem) (n : Int) : Prop := (0 ≤ n ∧ n ≤ 9) ∧ mo_it μ n ∧ mo_po μ n
def mo_cf (μ : rd_Mem) : Prop := μ 1 31 < mo_FS μ (μ 1 30) ∨ mo_nx μ (mo_pl μ (μ 1 30) + 1) ≠ -1
theorem mo_nx_r {μ : rd_Mem} (hc : mo_cn μ) {a : Int} (ha : 0 ≤ a) : mo_nx μ a = -1 ∨ (0 ≤ mo_nx μ a ∧ mo_nx μ a ≤ 9) := by
  unfold mo_nx
  rcases sp_nx_spec (fun i => μ 1 (1 + i)) (fun n => mo_o μ n 1 = 0) (μ 1 0 - a).toNat a with ⟨h, -⟩ | ⟨k, ⟨h1, h2⟩, h3, -⟩
  · exact Or.inl h
  · right; rw [h3]; exact hc.2 k (by omega) (by omega)
theorem mo_z6 {x : Int} (h : x = -1 ∨ (0 ≤ x ∧ x ≤ 9)) : mo_z x = -6 ↔ x = -1 := by
  unfold mo_z; split <;> omega
set_option maxHeartbeats 4000000 in
set_option maxRecDepth 100000 in
theorem c_X10_canForward {l : Launch} {G : rd_G} {r : Nat} {μ : rd_Mem} (hc : mo_cn μ) (ha : mo_at μ (μ 1 30)) : rd_M l G rd_km 5 r yX10_canForward cX10_canForward 1 (some .boolean) (rd_rm 4 86) [rd_R 0] μ (fun v μ' => (mo_cf μ ∧ v = some (rd_I 1) ∧ μ' = μ) ∨ (¬ mo_cf μ ∧ v = some (rd_I 0) ∧ μ' = μ)) := by
  refine rd_enter (by decide +kernel) (Nat.le_of_ble_eq_true rfl) [rd_R 0] rfl (fun p e s m args below meth c C => ?_)
  refine rd_W.rng (fun hM hL _ => ?_)
  refine rd_aload_n C dX10_canForward_0 rfl ?_
  refine rd_get C rd_g10_0 rf_X10_7 dX10_canForward_1 rd_c0 rd_m0 (x := rd_R (1)) rfl (fun _ => trivial) ?_
  refine rd_bipush C dX10_canForward_4 (n := 31) (by decide) ⟨by decide, by decide⟩ ?_
  refine rd_ialdx C rd_ai18 dX10_canForward_6 rd_c1 rd_m1 ⟨by omega, by omega⟩ (z := μ 1 31) rfl ?_
  refine rd_aload_n C dX10_canForward_7 rfl ?_
  refine rd_aload_n C dX10_canForward_8 rfl ?_
  refine rd_get C rd_g10_0 rf_X10_7 dX10_canForward_9 rd_c0 rd_m0 (x := rd_R (1)) rfl (fun _ => trivial) ?_
  refine rd_bipush C dX10_canForward_12 (n := 30) (by decide) ⟨by decide, by decide⟩ ?_
  refine rd_ialdx C rd_ai18 dX10_canForward_14 rd_c1 rd_m1 ⟨by omega, by omega⟩ (z := μ 1 30) rfl ?_
  refine rd_callV C (c_X10_finalStep ha.1 ha.2.1) rm_X10_48 ri_X10_finalStep rs_X10_finalStep rc_X10_finalStep rz_X10 ⟨rp_X10_finalStep, rfl, rfl, by decide, by decide⟩ rfl rd_kcl10 dX10_canForward_15 rd_c0 rd_m0 rfl (Nat.le_of_ble_eq_true rfl) (fun v1 w1 hq => ?_)
  obtain ⟨hv1, hm1⟩ := hq; rw [show v1 = some (rd_I (mo_FS μ (μ 1 30))) from hv1, hm1]; clear hv1 hm1
  refine rd_icmp_lt C dX10_canForward_18 (tgt := 37) (by decide) (fun h_18 => ?_) (fun h_18 => ?_)
  · refine rd_iconst C dX10_canForward_37 (n := 1) ⟨by decide, by decide⟩ ?_
    refine rd_goto C dX10_canForward_38 (tgt := 42) (by decide) ?_
    exact rd_zret C dX10_canForward_42 (by omega) (by have hz := mo_z6 (mo_nx_r hc (a := mo_pl μ (μ 1 30) + 1) (by have := ha.2.2.1; omega)); first | exact Or.inl ⟨Or.inl h_18, rfl, rfl⟩ | exact Or.inl ⟨Or.inr (fun h => h_34 (hz.mpr h)), rfl, rfl⟩ | exact Or.inr ⟨(fun h => h.elim h_18 (fun h2 => h2 (hz.mp h_34))), rfl, rfl⟩)
  · refine rd_aload_n C dX10_canForward_21 rfl ?_
    refine rd_aload_n C dX10_canForward_22 rfl ?_
    refine rd_get C rd_g10_0 rf_X10_7 dX10_canForward_23 rd_c0 rd_m0 (x := rd_R (1)) rfl (fun _ => trivial) ?_
    refine rd_bipush C dX10_canForward_26 (n := 30) (by decide) ⟨by decide, by decide⟩ ?_
    refine rd_ialdx C rd_ai18 dX10_canForward_28 rd_c1 rd_m1 ⟨by omega, by omega⟩ (z := μ 1 30) rfl ?_
    refine rd_callV C (c_X10_nextOf hc ha.2.2) rm_X10_51 ri_X10_nextOf rs_X10_nextOf rc_X10_nextOf rz_X10 ⟨rp_X10_nextOf, rfl, rfl, by decide, by decide⟩ rfl rd_kcl10 dX10_canForward_29 rd_c0 rd_m0 rfl (Nat.le_of_ble_eq_true rfl) (fun v1 w1 hq => ?_)
    obtain ⟨hv1, hm1⟩ := hq; rw [show v1 = some (rd_I (mo_z (mo_nx μ (mo_pl μ (μ 1 30) + 1)))) from hv1, hm1]; clear hv1 hm1
    refine rd_bipush C dX10_canForward_32 (n := -6) (by decide) ⟨by decide, by decide⟩ ?_
    refine rd_icmp_eq C dX10_canForward_34 (tgt := 41) (by decide) (fun h_34 => ?_) (fun h_34 => ?_)
    · refine rd_iconst C dX10_canForward_41 (n := 0) ⟨by decide, by decide⟩ ?_
      exact rd_zret C dX10_canForward_42 (by omega) (by have hz := mo_z6 (mo_nx_r hc (a := mo_pl μ (μ 1 30) + 1) (by have := ha.2.2.1; omega)); first | exact Or.inl ⟨Or.inl h_18, rfl, rfl⟩ | exact Or.inl ⟨Or.inr (fun h => h_34 (hz.mpr h)), rfl, rfl⟩ | exact Or.inr ⟨(fun h => h.elim h_18 (fun h2 => h2 (hz.mp h_34))), rfl, rfl⟩)
    · refine rd_iconst C dX10_canForward_37 (n := 1) ⟨by decide, by decide⟩ ?_
      refine rd_goto C dX10_canForward_38 (tgt := 42) (by decide) ?_
      exact rd_zret C dX10_canForward_42 (by omega) (by have hz := mo_z6 (mo_nx_r hc (a := mo_pl μ (μ 1 30) + 1) (by have := ha.2.2.1; omega)); first | exact Or.inl ⟨Or.inl h_18, rfl, rfl⟩ | exact Or.inl ⟨Or.inr (fun h => h_34 (hz.mpr h)), rfl, rfl⟩ | exact Or.inr ⟨(fun h => h.elim h_18 (fun h2 => h2 (hz.mp h_34))), rfl, rfl⟩)
