/-! the check reads the text -/
def mo_sq (t : Int → Int) (L a : Int) : Int := if a < L then t a else 0
def mo_w3 (μ : rd_Mem) (a l n : Int) : rd_Mem := fun p q => if p = 0 ∧ q = 4 then a else if p = 0 ∧ q = 5 then l else if p = 0 ∧ q = 6 then n else μ p q
def mo_rd (s : Int → Int) (a a' n b : Int) : Prop := ((s a = 102 ∨ s a = 98) ∧ a' = a + 1 ∧ b = 1) ∨ (s a = 107 ∧ (48 ≤ s (a + 1) ∧ s (a + 1) ≤ 57) ∧ a' = a + 2 ∧ n = s (a + 1) - 48 ∧ b = 1) ∨ (s a = 116 ∧ (49 ≤ s (a + 1) ∧ s (a + 1) ≤ 57) ∧ ¬ (48 ≤ s (a + 1 + 1) ∧ s (a + 1 + 1) ≤ 57) ∧ a' = a + 2 ∧ n = s (a + 1) - 48 ∧ b = 1) ∨ (s a = 116 ∧ (49 ≤ s (a + 1) ∧ s (a + 1) ≤ 57) ∧ (48 ≤ s (a + 1 + 1) ∧ s (a + 1 + 1) ≤ 57) ∧ a' = a + 3 ∧ n = 10 * (s (a + 1) - 48) + s (a + 1 + 1) - 48 ∧ b = 1) ∨ (s a = 107 ∧ ¬ (48 ≤ s (a + 1) ∧ s (a + 1) ≤ 57) ∧ a' = a + 1 ∧ b = 0) ∨ (s a = 116 ∧ ¬ (49 ≤ s (a + 1) ∧ s (a + 1) ≤ 57) ∧ a' = a + 1 ∧ b = 0) ∨ ((s a ≠ 102 ∧ s a ≠ 98 ∧ s a ≠ 107 ∧ s a ≠ 116) ∧ a' = a ∧ b = 0)
theorem rd_u_id (μ : rd_Mem) (k j : Int) : rd_u μ k j (μ k j) = μ := by
  funext a b; unfold rd_u; grind
theorem rd_u_o (μ : rd_Mem) {k j z p q : Int} (h : p ≠ k ∨ q ≠ j) : rd_u μ k j z p q = μ p q := by
  unfold rd_u
  by_cases hp : p = k
  · rw [if_pos hp, if_neg (h.resolve_left (not_not_intro hp))]
  · rw [if_neg hp]
theorem mo_w3_e {μ ν : rd_Mem} {a l n : Int} (h4 : ν 0 4 = a) (h5 : ν 0 5 = l) (h6 : ν 0 6 = n) (h : ∀ p q : Int, (p ≠ 0 ∨ (q ≠ 4 ∧ q ≠ 5 ∧ q ≠ 6)) → ν p q = μ p q) : ν = mo_w3 μ a l n := by
  funext p q
  unfold mo_w3
  by_cases h1 : p = 0 ∧ q = 4
  · rw [if_pos h1, h1.1, h1.2, h4]
  · rw [if_neg h1]
    by_cases h2 : p = 0 ∧ q = 5
    · rw [if_pos h2, h2.1, h2.2, h5]
    · rw [if_neg h2]
      by_cases h3 : p = 0 ∧ q = 6
      · rw [if_pos h3, h3.1, h3.2, h6]
      · rw [if_neg h3]; exact h p q (by omega)
theorem rd_u_id' (μ : rd_Mem) {k j z : Int} (h : z = μ k j) : rd_u μ k j z = μ := by rw [h]; exact rd_u_id μ k j
set_option maxHeartbeats 4000000 in
set_option maxRecDepth 100000 in
theorem c_X10_sign {l : Launch} {G : rd_G} {r : Nat} {μ : rd_Mem} (ha : 0 ≤ μ 0 4 ∧ μ 0 4 ≤ 63) (hl : 0 ≤ μ 0 3 ∧ μ 0 3 ≤ 60) : rd_M l G rd_km 5 r yX10_sign cX10_sign 1 (some .int) (rd_rm 0 0) [rd_R 0] μ (fun v μ' => v = some (rd_I (mo_sq (μ 2) (μ 0 3) (μ 0 4))) ∧ μ' = μ) := by
  refine rd_enter (by decide +kernel) (Nat.le_of_ble_eq_true rfl) [rd_R 0] rfl (fun p e s m args below meth c C => ?_)
  refine rd_W.rng (fun hM hL _ => ?_)
  refine rd_aload_n C dX10_sign_0 rfl ?_
  refine rd_get C rd_g10_4 rf_X10_116 dX10_sign_1 rd_c0 rd_m0 (x := rd_I (μ 0 4)) rfl (fun h => h _ _) ?_
  refine rd_aload_n C dX10_sign_4 rfl ?_
  refine rd_get C rd_g10_3 rf_X10_113 dX10_sign_5 rd_c0 rd_m0 (x := rd_I (μ 0 3)) rfl (fun h => h _ _) ?_
  refine rd_icmp_ge C dX10_sign_8 (tgt := 23) (by decide) (fun h_8 => ?_) (fun h_8 => ?_)
  · refine rd_iconst C dX10_sign_23 (n := 0) ⟨by decide, by decide⟩ ?_
    exact rd_iret C dX10_sign_24 ⟨by unfold mo_sq; first | rw [if_pos (by omega)] | rw [if_neg (by omega)], rfl⟩
  · refine rd_aload_n C dX10_sign_11 rfl ?_
    refine rd_get C rd_g10_2 rf_X10_13 dX10_sign_12 rd_c0 rd_m0 (x := rd_R (2)) rfl (fun _ => trivial) ?_
    refine rd_aload_n C dX10_sign_15 rfl ?_
    refine rd_get C rd_g10_4 rf_X10_116 dX10_sign_16 rd_c0 rd_m0 (x := rd_I (μ 0 4)) rfl (fun h => h _ _) ?_
    refine rd_ialdx C rd_ai19 dX10_sign_19 rd_c2 rd_m2 ⟨by omega, by omega⟩ (z := μ 2 (μ 0 4)) rfl ?_
    refine rd_goto C dX10_sign_20 (tgt := 24) (by decide) ?_
    exact rd_iret C dX10_sign_24 ⟨by unfold mo_sq; first | rw [if_pos (by omega)] | rw [if_neg (by omega)], rfl⟩
set_option maxHeartbeats 4000000 in
set_option maxRecDepth 100000 in
theorem c_X10_takes {l : Launch} {G : rd_G} {r : Nat} {μ : rd_Mem} {c0 : Int} (ha : 0 ≤ μ 0 4 ∧ μ 0 4 ≤ 63) (hl : 0 ≤ μ 0 3 ∧ μ 0 3 ≤ 60) : rd_M l G rd_km 5 r yX10_takes cX10_takes 3 (some .boolean) (rd_rm 1 20) [rd_R 0, rd_I c0] μ (fun v μ' => (mo_sq (μ 2) (μ 0 3) (μ 0 4) = c0 ∧ v = some (rd_I 1) ∧ μ' = rd_u μ 0 4 (μ 0 4 + 1)) ∨ (mo_sq (μ 2) (μ 0 3) (μ 0 4) ≠ c0 ∧ v = some (rd_I 0) ∧ μ' = μ)) := by
  refine rd_enter (by decide +kernel) (Nat.le_of_ble_eq_true rfl) [rd_R 0, rd_I c0, rd_J] rfl (fun p e s m args below meth c C => ?_)
  refine rd_W.rng (fun hM hL _ => ?_)
  refine rd_aload_n C dX10_takes_0 rfl ?_
  refine rd_callV C (c_X10_sign ha hl) rm_X10_119 ri_X10_sign rs_X10_sign rc_X10_sign rz_X10 ⟨rp_X10_sign, rfl, rfl, by decide, by decide⟩ rfl rd_kcl10 dX10_takes_1 rd_c0 rd_m0 rfl (Nat.le_of_ble_eq_true rfl) (fun v1 w1 hq => ?_)
  obtain ⟨hv1, hm1⟩ := hq; rw [show v1 = some (rd_I (mo_sq (μ 2) (μ 0 3) (μ 0 4))) from hv1, hm1]; clear hv1 hm1
  refine rd_iload_n C dX10_takes_4 rfl ?_
  refine rd_icmp_ne C dX10_takes_5 (tgt := 12) (by decide) (fun h_5 => ?_) (fun h_5 => ?_)
  · refine rd_iconst C dX10_takes_12 (n := 0) ⟨by decide, by decide⟩ ?_
    refine rd_istore_n C dX10_takes_13 (by decide) (L' := [rd_R 0, rd_I c0, rd_I 0]) rfl ?_
    refine rd_aload_n C dX10_takes_14 rfl ?_
    refine rd_dup C dX10_takes_15 ?_
    refine rd_get C rd_g10_4 rf_X10_116 dX10_takes_16 rd_c0 rd_m0 (x := rd_I (μ 0 4)) rfl (fun h => h _ _) ?_
    refine rd_iload_n C dX10_takes_19 rfl ?_
    refine rd_if_eq C dX10_takes_20 (tgt := 27) (by decide) (fun _ => ?_) (fun h => absurd h (by decide))
    refine rd_iconst C dX10_takes_27 (n := 0) ⟨by decide, by decide⟩ ?_
    refine rd_iadd C dX10_takes_28 (z := μ 0 4 + 0) rfl ⟨by omega, by omega⟩ ?_
    refine rd_put C rd_p10_4 rf_X10_116 dX10_takes_29 rd_c0 rd_m0 trivial ?_
    refine rd_iload_n C dX10_takes_32 rfl ?_
    exact rd_zret C dX10_takes_33 (by omega) (Or.inr ⟨h_5, rfl, rd_u_id' μ (by omega)⟩)
  · refine rd_iconst C dX10_takes_8 (n := 1) ⟨by decide, by decide⟩ ?_
    refine rd_goto C dX10_takes_9 (tgt := 13) (by decide) ?_
    refine rd_istore_n C dX10_takes_13 (by decide) (L' := [rd_R 0, rd_I c0, rd_I 1]) rfl ?_
    refine rd_aload_n C dX10_takes_14 rfl ?_
    refine rd_dup C dX10_takes_15 ?_
    refine rd_get C rd_g10_4 rf_X10_116 dX10_takes_16 rd_c0 rd_m0 (x := rd_I (μ 0 4)) rfl (fun h => h _ _) ?_
    refine rd_iload_n C dX10_takes_19 rfl ?_
    refine rd_if_eq C dX10_takes_20 (tgt := 27) (by decide) (fun h => absurd h (by decide)) (fun _ => ?_)
    refine rd_iconst C dX10_takes_23 (n := 1) ⟨by decide, by decide⟩ ?_
    refine rd_goto C dX10_takes_24 (tgt := 28) (by decide) ?_
    refine rd_iadd C dX10_takes_28 (z := μ 0 4 + 1) rfl ⟨by omega, by omega⟩ ?_
    refine rd_put C rd_p10_4 rf_X10_116 dX10_takes_29 rd_c0 rd_m0 trivial ?_
    refine rd_iload_n C dX10_takes_32 rfl ?_
    exact rd_zret C dX10_takes_33 (by omega) (Or.inl ⟨h_5, rfl, rfl⟩)
set_option maxHeartbeats 4000000 in
set_option maxRecDepth 100000 in
theorem c_X10_readsMove {l : Launch} {G : rd_G} {r : Nat} {μ : rd_Mem} (ha : 0 ≤ μ 0 4 ∧ μ 0 4 ≤ 60) (hl : 0 ≤ μ 0 3 ∧ μ 0 3 ≤ 60) : rd_M l G rd_km 5 r yX10_readsMove cX10_readsMove 2 (some .boolean) (rd_rm 2 42) [rd_R 0] μ (fun v μ' => ∃ a' n' b : Int, mo_rd (mo_sq (μ 2) (μ 0 3)) (μ 0 4) a' n' b ∧ v = some (rd_I b) ∧ μ' = mo_w3 μ a' (mo_sq (μ 2) (μ 0 3) (μ 0 4)) n') := by
  refine rd_enter (by decide +kernel) (Nat.le_of_ble_eq_true rfl) [rd_R 0, rd_J] rfl (fun p e s m args below meth c C => ?_)
  refine rd_W.rng (fun hM hL _ => ?_)
  refine rd_aload_n C dX10_readsMove_0 rfl ?_
  refine rd_aload_n C dX10_readsMove_1 rfl ?_
  refine rd_callV C (c_X10_sign (by omega) (by omega)) rm_X10_119 ri_X10_sign rs_X10_sign rc_X10_sign rz_X10 ⟨rp_X10_sign, rfl, rfl, by decide, by decide⟩ rfl rd_kcl10 dX10_readsMove_2 rd_c0 rd_m0 rfl (Nat.le_of_ble_eq_true rfl) (fun v1 w1 hq => ?_)
  obtain ⟨hv1, hm1⟩ := hq; rw [hv1, hm1]; clear hv1 hm1
  refine rd_put C rd_p10_5 rf_X10_122 dX10_readsMove_5 rd_c0 rd_m0 trivial ?_
  refine rd_aload_n C dX10_readsMove_8 rfl ?_
  refine rd_bipush C dX10_readsMove_9 (n := 102) (by decide) ⟨by decide, by decide⟩ ?_
  have e4 : (rd_u μ 0 5 (mo_sq (μ 2) (μ 0 3) (μ 0 4))) 0 4 = μ 0 4 := by rw [rd_u_j _ _ _ (by omega)]
  have e3 : (rd_u μ 0 5 (mo_sq (μ 2) (μ 0 3) (μ 0 4))) 0 3 = μ 0 3 := by rw [rd_u_j _ _ _ (by omega)]
  have e2 : (rd_u μ 0 5 (mo_sq (μ 2) (μ 0 3) (μ 0 4))) 2 = μ 2 := by rw [rd_u_ne _ _ _ (by omega)]
  refine rd_callV C (c_X10_takes (by omega) (by omega)) rm_X10_125 ri_X10_takes rs_X10_takes rc_X10_takes rz_X10 ⟨rp_X10_takes, rfl, rfl, by decide, by decide⟩ rfl rd_kcl10 dX10_readsMove_11 rd_c0 rd_m0 rfl (Nat.le_of_ble_eq_true rfl) (fun v1 w1 hq => ?_)
  rw [e4, e3, e2] at hq; clear e4 e3 e2
  rcases hq with ⟨hw_14, hv1, hm1⟩ | ⟨hw_14, hv1, hm1⟩
  · rw [hv1, hm1]; clear hv1 hm1 v1 w1
    refine rd_if_ne C dX10_readsMove_14 (tgt := 26) (by decide) (fun _ => ?_) (fun h => absurd h (by decide))
    refine rd_iconst C dX10_readsMove_26 (n := 1) ⟨by decide, by decide⟩ ?_
    exact rd_zret C dX10_readsMove_27 (by omega) ⟨μ 0 4 + 1, μ 0 6, 1, by exact Or.inl ⟨by omega, by omega, rfl⟩, rfl, mo_w3_e (by rw [rd_u_s]) (by rw [rd_u_j _ _ _ (by omega), rd_u_s]) (by rw [rd_u_j _ _ _ (by omega), rd_u_j _ _ _ (by omega)]) (fun p q h => by rw [rd_u_o _ (by omega), rd_u_o _ (by omega)])⟩
  · rw [hv1, hm1]; clear hv1 hm1 v1 w1
    refine rd_if_ne C dX10_readsMove_14 (tgt := 26) (by decide) (fun h => absurd h (by decide)) (fun _ => ?_)
    refine rd_aload_n C dX10_readsMove_17 rfl ?_
    refine rd_bipush C dX10_readsMove_18 (n := 98) (by decide) ⟨by decide, by decide⟩ ?_
    have e4 : (rd_u μ 0 5 (mo_sq (μ 2) (μ 0 3) (μ 0 4))) 0 4 = μ 0 4 := by rw [rd_u_j _ _ _ (by omega)]
    have e3 : (rd_u μ 0 5 (mo_sq (μ 2) (μ 0 3) (μ 0 4))) 0 3 = μ 0 3 := by rw [rd_u_j _ _ _ (by omega)]
    have e2 : (rd_u μ 0 5 (mo_sq (μ 2) (μ 0 3) (μ 0 4))) 2 = μ 2 := by rw [rd_u_ne _ _ _ (by omega)]
    refine rd_callV C (c_X10_takes (by omega) (by omega)) rm_X10_125 ri_X10_takes rs_X10_takes rc_X10_takes rz_X10 ⟨rp_X10_takes, rfl, rfl, by decide, by decide⟩ rfl rd_kcl10 dX10_readsMove_20 rd_c0 rd_m0 rfl (Nat.le_of_ble_eq_true rfl) (fun v1 w1 hq => ?_)
    rw [e4, e3, e2] at hq; clear e4 e3 e2
    rcases hq with ⟨hw_23, hv1, hm1⟩ | ⟨hw_23, hv1, hm1⟩
    · rw [hv1, hm1]; clear hv1 hm1 v1 w1
      refine rd_if_eq C dX10_readsMove_23 (tgt := 28) (by decide) (fun h => absurd h (by decide)) (fun _ => ?_)
      refine rd_iconst C dX10_readsMove_26 (n := 1) ⟨by decide, by decide⟩ ?_
      exact rd_zret C dX10_readsMove_27 (by omega) ⟨μ 0 4 + 1, μ 0 6, 1, by exact Or.inl ⟨by omega, by omega, rfl⟩, rfl, mo_w3_e (by rw [rd_u_s]) (by rw [rd_u_j _ _ _ (by omega), rd_u_s]) (by rw [rd_u_j _ _ _ (by omega), rd_u_j _ _ _ (by omega)]) (fun p q h => by rw [rd_u_o _ (by omega), rd_u_o _ (by omega)])⟩
    · rw [hv1, hm1]; clear hv1 hm1 v1 w1
      refine rd_if_eq C dX10_readsMove_23 (tgt := 28) (by decide) (fun _ => ?_) (fun h => absurd h (by decide))
      refine rd_aload_n C dX10_readsMove_28 rfl ?_
      refine rd_getx C rd_g10_5 rf_X10_122 dX10_readsMove_29 rd_c0 rd_m0 rfl (z := mo_sq (μ 2) (μ 0 3) (μ 0 4)) (by rw [rd_u_s]) ?_
      refine rd_bipush C dX10_readsMove_32 (n := 107) (by decide) ⟨by decide, by decide⟩ ?_
      refine rd_icmp_ne C dX10_readsMove_34 (tgt := 41) (by decide) (fun h_34 => ?_) (fun h_34 => ?_)
      · refine rd_iconst C dX10_readsMove_41 (n := 1) ⟨by decide, by decide⟩ ?_
        refine rd_istore_n C dX10_readsMove_42 (by decide) (L' := [rd_R 0, rd_I 1]) rfl ?_
        refine rd_aload_n C dX10_readsMove_43 rfl ?_
        refine rd_bipush C dX10_readsMove_44 (n := 107) (by decide) ⟨by decide, by decide⟩ ?_
        have e4 : (rd_u μ 0 5 (mo_sq (μ 2) (μ 0 3) (μ 0 4))) 0 4 = μ 0 4 := by rw [rd_u_j _ _ _ (by omega)]
        have e3 : (rd_u μ 0 5 (mo_sq (μ 2) (μ 0 3) (μ 0 4))) 0 3 = μ 0 3 := by rw [rd_u_j _ _ _ (by omega)]
        have e2 : (rd_u μ 0 5 (mo_sq (μ 2) (μ 0 3) (μ 0 4))) 2 = μ 2 := by rw [rd_u_ne _ _ _ (by omega)]
        refine rd_callV C (c_X10_takes (by omega) (by omega)) rm_X10_125 ri_X10_takes rs_X10_takes rc_X10_takes rz_X10 ⟨rp_X10_takes, rfl, rfl, by decide, by decide⟩ rfl rd_kcl10 dX10_readsMove_46 rd_c0 rd_m0 rfl (Nat.le_of_ble_eq_true rfl) (fun v1 w1 hq => ?_)
        rw [e4, e3, e2] at hq; clear e4 e3 e2
        rcases hq with ⟨hw_49, hv1, hm1⟩ | ⟨hw_49, hv1, hm1⟩
        · rw [hv1, hm1]; clear hv1 hm1 v1 w1
          refine rd_if_ne C dX10_readsMove_49 (tgt := 61) (by decide) (fun _ => ?_) (fun h => absurd h (by decide))
          refine rd_aload_n C dX10_readsMove_61 rfl ?_
          have e4 : (rd_u (rd_u μ 0 5 (mo_sq (μ 2) (μ 0 3) (μ 0 4))) 0 4 (μ 0 4 + 1)) 0 4 = μ 0 4 + 1 := by rw [rd_u_s]
          have e3 : (rd_u (rd_u μ 0 5 (mo_sq (μ 2) (μ 0 3) (μ 0 4))) 0 4 (μ 0 4 + 1)) 0 3 = μ 0 3 := by rw [rd_u_j _ _ _ (by omega), rd_u_j _ _ _ (by omega)]
          have e2 : (rd_u (rd_u μ 0 5 (mo_sq (μ 2) (μ 0 3) (μ 0 4))) 0 4 (μ 0 4 + 1)) 2 = μ 2 := by rw [rd_u_ne _ _ _ (by omega), rd_u_ne _ _ _ (by omega)]
          refine rd_callV C (c_X10_sign (by omega) (by omega)) rm_X10_119 ri_X10_sign rs_X10_sign rc_X10_sign rz_X10 ⟨rp_X10_sign, rfl, rfl, by decide, by decide⟩ rfl rd_kcl10 dX10_readsMove_62 rd_c0 rd_m0 rfl (Nat.le_of_ble_eq_true rfl) (fun v1 w1 hq => ?_)
          obtain ⟨hv1, hm1⟩ := hq; rw [hv1, hm1]; clear hv1 hm1
          rw [e4, e3, e2]; clear e4 e3 e2
          refine rd_bipush C dX10_readsMove_65 (n := 48) (by decide) ⟨by decide, by decide⟩ ?_
          refine rd_iload_n C dX10_readsMove_67 rfl ?_
          refine rd_iadd C dX10_readsMove_68 (z := 49) rfl ⟨by omega, by omega⟩ ?_
          refine rd_bipush C dX10_readsMove_69 (n := 57) (by decide) ⟨by decide, by decide⟩ ?_
          refine rd_callS C (c_X10_in) rm_X10_22 rt_X10_in rc_X10_in rz_X10 ⟨rp_X10_in, rfl, rfl, by decide, by decide⟩ rfl dX10_readsMove_71 rfl (Nat.le_of_ble_eq_true rfl) (fun v1 w1 hq => ?_)
          rcases hq with ⟨hw_74, hv1, hm1⟩ | ⟨hw_74, hv1, hm1⟩
          · rw [hv1, hm1]; clear hv1 hm1 v1 w1
            refine rd_if_ne C dX10_readsMove_74 (tgt := 79) (by decide) (fun _ => ?_) (fun h => absurd h (by decide))
            refine rd_aload_n C dX10_readsMove_79 rfl ?_
            refine rd_aload_n C dX10_readsMove_80 rfl ?_
            have e4 : (rd_u (rd_u μ 0 5 (mo_sq (μ 2) (μ 0 3) (μ 0 4))) 0 4 (μ 0 4 + 1)) 0 4 = μ 0 4 + 1 := by rw [rd_u_s]
            have e3 : (rd_u (rd_u μ 0 5 (mo_sq (μ 2) (μ 0 3) (μ 0 4))) 0 4 (μ 0 4 + 1)) 0 3 = μ 0 3 := by rw [rd_u_j _ _ _ (by omega), rd_u_j _ _ _ (by omega)]
            have e2 : (rd_u (rd_u μ 0 5 (mo_sq (μ 2) (μ 0 3) (μ 0 4))) 0 4 (μ 0 4 + 1)) 2 = μ 2 := by rw [rd_u_ne _ _ _ (by omega), rd_u_ne _ _ _ (by omega)]
            refine rd_callV C (c_X10_sign (by omega) (by omega)) rm_X10_119 ri_X10_sign rs_X10_sign rc_X10_sign rz_X10 ⟨rp_X10_sign, rfl, rfl, by decide, by decide⟩ rfl rd_kcl10 dX10_readsMove_81 rd_c0 rd_m0 rfl (Nat.le_of_ble_eq_true rfl) (fun v1 w1 hq => ?_)
            obtain ⟨hv1, hm1⟩ := hq; rw [hv1, hm1]; clear hv1 hm1
            rw [e4, e3, e2]; clear e4 e3 e2
            refine rd_bipush C dX10_readsMove_84 (n := 48) (by decide) ⟨by decide, by decide⟩ ?_
            refine rd_isub C dX10_readsMove_86 (z := mo_sq (μ 2) (μ 0 3) (μ 0 4 + 1) - 48) rfl ⟨by omega, by omega⟩ ?_
            refine rd_put C rd_p10_6 rf_X10_128 dX10_readsMove_87 rd_c0 rd_m0 trivial ?_
            refine rd_aload_n C dX10_readsMove_90 rfl ?_
            refine rd_dup C dX10_readsMove_91 ?_
            refine rd_getx C rd_g10_4 rf_X10_116 dX10_readsMove_92 rd_c0 rd_m0 rfl (z := μ 0 4 + 1) (by rw [rd_u_j _ _ _ (by omega), rd_u_s]) ?_
            refine rd_iconst C dX10_readsMove_95 (n := 1) ⟨by decide, by decide⟩ ?_
            refine rd_iadd C dX10_readsMove_96 (z := μ 0 4 + 1 + 1) rfl ⟨by omega, by omega⟩ ?_
            refine rd_put C rd_p10_4 rf_X10_116 dX10_readsMove_97 rd_c0 rd_m0 trivial ?_
            refine rd_aload_n C dX10_readsMove_100 rfl ?_
            refine rd_getx C rd_g10_5 rf_X10_122 dX10_readsMove_101 rd_c0 rd_m0 rfl (z := mo_sq (μ 2) (μ 0 3) (μ 0 4)) (by rw [rd_u_j _ _ _ (by omega), rd_u_j _ _ _ (by omega), rd_u_j _ _ _ (by omega), rd_u_s]) ?_
            refine rd_bipush C dX10_readsMove_104 (n := 116) (by decide) ⟨by decide, by decide⟩ ?_
            refine rd_icmp_ne C dX10_readsMove_106 (tgt := 152) (by decide) (fun h_106 => ?_) (fun h_106 => ?_)
            · refine rd_iconst C dX10_readsMove_152 (n := 1) ⟨by decide, by decide⟩ ?_
              exact rd_zret C dX10_readsMove_153 (by omega) ⟨μ 0 4 + 1 + 1, mo_sq (μ 2) (μ 0 3) (μ 0 4 + 1) - 48, 1, by first | exact Or.inr (Or.inl ⟨by omega, ⟨by omega, by omega⟩, by omega, by omega, rfl⟩) | exact Or.inr (Or.inr (Or.inl ⟨by omega, ⟨by omega, by omega⟩, by omega, by omega, by omega, rfl⟩)), rfl, mo_w3_e (by rw [rd_u_s]) (by rw [rd_u_j _ _ _ (by omega), rd_u_j _ _ _ (by omega), rd_u_j _ _ _ (by omega), rd_u_s]) (by rw [rd_u_j _ _ _ (by omega), rd_u_s]) (fun p q h => by rw [rd_u_o _ (by omega), rd_u_o _ (by omega), rd_u_o _ (by omega), rd_u_o _ (by omega)])⟩
            · refine rd_aload_n C dX10_readsMove_109 rfl ?_
              have e4 : (rd_u (rd_u (rd_u (rd_u μ 0 5 (mo_sq (μ 2) (μ 0 3) (μ 0 4))) 0 4 (μ 0 4 + 1)) 0 6 (mo_sq (μ 2) (μ 0 3) (μ 0 4 + 1) - 48)) 0 4 (μ 0 4 + 1 + 1)) 0 4 = μ 0 4 + 1 + 1 := by rw [rd_u_s]
              have e3 : (rd_u (rd_u (rd_u (rd_u μ 0 5 (mo_sq (μ 2) (μ 0 3) (μ 0 4))) 0 4 (μ 0 4 + 1)) 0 6 (mo_sq (μ 2) (μ 0 3) (μ 0 4 + 1) - 48)) 0 4 (μ 0 4 + 1 + 1)) 0 3 = μ 0 3 := by rw [rd_u_j _ _ _ (by omega), rd_u_j _ _ _ (by omega), rd_u_j _ _ _ (by omega), rd_u_j _ _ _ (by omega)]
              have e2 : (rd_u (rd_u (rd_u (rd_u μ 0 5 (mo_sq (μ 2) (μ 0 3) (μ 0 4))) 0 4 (μ 0 4 + 1)) 0 6 (mo_sq (μ 2) (μ 0 3) (μ 0 4 + 1) - 48)) 0 4 (μ 0 4 + 1 + 1)) 2 = μ 2 := by rw [rd_u_ne _ _ _ (by omega), rd_u_ne _ _ _ (by omega), rd_u_ne _ _ _ (by omega), rd_u_ne _ _ _ (by omega)]
              refine rd_callV C (c_X10_sign (by omega) (by omega)) rm_X10_119 ri_X10_sign rs_X10_sign rc_X10_sign rz_X10 ⟨rp_X10_sign, rfl, rfl, by decide, by decide⟩ rfl rd_kcl10 dX10_readsMove_110 rd_c0 rd_m0 rfl (Nat.le_of_ble_eq_true rfl) (fun v1 w1 hq => ?_)
              obtain ⟨hv1, hm1⟩ := hq; rw [hv1, hm1]; clear hv1 hm1
              rw [e4, e3, e2]; clear e4 e3 e2
              refine rd_bipush C dX10_readsMove_113 (n := 48) (by decide) ⟨by decide, by decide⟩ ?_
              refine rd_bipush C dX10_readsMove_115 (n := 57) (by decide) ⟨by decide, by decide⟩ ?_
              refine rd_callS C (c_X10_in) rm_X10_22 rt_X10_in rc_X10_in rz_X10 ⟨rp_X10_in, rfl, rfl, by decide, by decide⟩ rfl dX10_readsMove_117 rfl (Nat.le_of_ble_eq_true rfl) (fun v1 w1 hq => ?_)
              rcases hq with ⟨hw_120, hv1, hm1⟩ | ⟨hw_120, hv1, hm1⟩
              · rw [hv1, hm1]; clear hv1 hm1 v1 w1
                refine rd_if_eq C dX10_readsMove_120 (tgt := 152) (by decide) (fun h => absurd h (by decide)) (fun _ => ?_)
                refine rd_aload_n C dX10_readsMove_123 rfl ?_
                refine rd_bipush C dX10_readsMove_124 (n := 10) (by decide) ⟨by decide, by decide⟩ ?_
                refine rd_aload_n C dX10_readsMove_126 rfl ?_
                refine rd_getx C rd_g10_6 rf_X10_128 dX10_readsMove_127 rd_c0 rd_m0 rfl (z := mo_sq (μ 2) (μ 0 3) (μ 0 4 + 1) - 48) (by rw [rd_u_j _ _ _ (by omega), rd_u_s]) ?_
                refine rd_imul C dX10_readsMove_130 (z := 10 * (mo_sq (μ 2) (μ 0 3) (μ 0 4 + 1) - 48)) rfl ⟨by omega, by omega⟩ ?_
                refine rd_aload_n C dX10_readsMove_131 rfl ?_
                have e4 : (rd_u (rd_u (rd_u (rd_u μ 0 5 (mo_sq (μ 2) (μ 0 3) (μ 0 4))) 0 4 (μ 0 4 + 1)) 0 6 (mo_sq (μ 2) (μ 0 3) (μ 0 4 + 1) - 48)) 0 4 (μ 0 4 + 1 + 1)) 0 4 = μ 0 4 + 1 + 1 := by rw [rd_u_s]
                have e3 : (rd_u (rd_u (rd_u (rd_u μ 0 5 (mo_sq (μ 2) (μ 0 3) (μ 0 4))) 0 4 (μ 0 4 + 1)) 0 6 (mo_sq (μ 2) (μ 0 3) (μ 0 4 + 1) - 48)) 0 4 (μ 0 4 + 1 + 1)) 0 3 = μ 0 3 := by rw [rd_u_j _ _ _ (by omega), rd_u_j _ _ _ (by omega), rd_u_j _ _ _ (by omega), rd_u_j _ _ _ (by omega)]
                have e2 : (rd_u (rd_u (rd_u (rd_u μ 0 5 (mo_sq (μ 2) (μ 0 3) (μ 0 4))) 0 4 (μ 0 4 + 1)) 0 6 (mo_sq (μ 2) (μ 0 3) (μ 0 4 + 1) - 48)) 0 4 (μ 0 4 + 1 + 1)) 2 = μ 2 := by rw [rd_u_ne _ _ _ (by omega), rd_u_ne _ _ _ (by omega), rd_u_ne _ _ _ (by omega), rd_u_ne _ _ _ (by omega)]
                refine rd_callV C (c_X10_sign (by omega) (by omega)) rm_X10_119 ri_X10_sign rs_X10_sign rc_X10_sign rz_X10 ⟨rp_X10_sign, rfl, rfl, by decide, by decide⟩ rfl rd_kcl10 dX10_readsMove_132 rd_c0 rd_m0 rfl (Nat.le_of_ble_eq_true rfl) (fun v1 w1 hq => ?_)
                obtain ⟨hv1, hm1⟩ := hq; rw [hv1, hm1]; clear hv1 hm1
                rw [e4, e3, e2]; clear e4 e3 e2
                refine rd_iadd C dX10_readsMove_135 (z := 10 * (mo_sq (μ 2) (μ 0 3) (μ 0 4 + 1) - 48) + (mo_sq (μ 2) (μ 0 3) (μ 0 4 + 1 + 1))) rfl ⟨by omega, by omega⟩ ?_
                refine rd_bipush C dX10_readsMove_136 (n := 48) (by decide) ⟨by decide, by decide⟩ ?_
                refine rd_isub C dX10_readsMove_138 (z := 10 * (mo_sq (μ 2) (μ 0 3) (μ 0 4 + 1) - 48) + (mo_sq (μ 2) (μ 0 3) (μ 0 4 + 1 + 1)) - 48) rfl ⟨by omega, by omega⟩ ?_
                refine rd_put C rd_p10_6 rf_X10_128 dX10_readsMove_139 rd_c0 rd_m0 trivial ?_
                refine rd_aload_n C dX10_readsMove_142 rfl ?_
                refine rd_dup C dX10_readsMove_143 ?_
                refine rd_getx C rd_g10_4 rf_X10_116 dX10_readsMove_144 rd_c0 rd_m0 rfl (z := μ 0 4 + 1 + 1) (by rw [rd_u_j _ _ _ (by omega), rd_u_s]) ?_
                refine rd_iconst C dX10_readsMove_147 (n := 1) ⟨by decide, by decide⟩ ?_
                refine rd_iadd C dX10_readsMove_148 (z := μ 0 4 + 1 + 1 + 1) rfl ⟨by omega, by omega⟩ ?_
                refine rd_put C rd_p10_4 rf_X10_116 dX10_readsMove_149 rd_c0 rd_m0 trivial ?_
                refine rd_iconst C dX10_readsMove_152 (n := 1) ⟨by decide, by decide⟩ ?_
                exact rd_zret C dX10_readsMove_153 (by omega) ⟨μ 0 4 + 1 + 1 + 1, 10 * (mo_sq (μ 2) (μ 0 3) (μ 0 4 + 1) - 48) + (mo_sq (μ 2) (μ 0 3) (μ 0 4 + 1 + 1)) - 48, 1, by exact Or.inr (Or.inr (Or.inr (Or.inl ⟨by omega, ⟨by omega, by omega⟩, ⟨by omega, by omega⟩, by omega, by omega, rfl⟩))), rfl, mo_w3_e (by rw [rd_u_s]) (by rw [rd_u_j _ _ _ (by omega), rd_u_j _ _ _ (by omega), rd_u_j _ _ _ (by omega), rd_u_j _ _ _ (by omega), rd_u_j _ _ _ (by omega), rd_u_s]) (by rw [rd_u_j _ _ _ (by omega), rd_u_s]) (fun p q h => by rw [rd_u_o _ (by omega), rd_u_o _ (by omega), rd_u_o _ (by omega), rd_u_o _ (by omega), rd_u_o _ (by omega), rd_u_o _ (by omega)])⟩
              · rw [hv1, hm1]; clear hv1 hm1 v1 w1
                refine rd_if_eq C dX10_readsMove_120 (tgt := 152) (by decide) (fun _ => ?_) (fun h => absurd h (by decide))
                refine rd_iconst C dX10_readsMove_152 (n := 1) ⟨by decide, by decide⟩ ?_
                exact rd_zret C dX10_readsMove_153 (by omega) ⟨μ 0 4 + 1 + 1, mo_sq (μ 2) (μ 0 3) (μ 0 4 + 1) - 48, 1, by first | exact Or.inr (Or.inl ⟨by omega, ⟨by omega, by omega⟩, by omega, by omega, rfl⟩) | exact Or.inr (Or.inr (Or.inl ⟨by omega, ⟨by omega, by omega⟩, by omega, by omega, by omega, rfl⟩)), rfl, mo_w3_e (by rw [rd_u_s]) (by rw [rd_u_j _ _ _ (by omega), rd_u_j _ _ _ (by omega), rd_u_j _ _ _ (by omega), rd_u_s]) (by rw [rd_u_j _ _ _ (by omega), rd_u_s]) (fun p q h => by rw [rd_u_o _ (by omega), rd_u_o _ (by omega), rd_u_o _ (by omega), rd_u_o _ (by omega)])⟩
          · rw [hv1, hm1]; clear hv1 hm1 v1 w1
            refine rd_if_ne C dX10_readsMove_74 (tgt := 79) (by decide) (fun h => absurd h (by decide)) (fun _ => ?_)
            refine rd_iconst C dX10_readsMove_77 (n := 0) ⟨by decide, by decide⟩ ?_
            exact rd_zret C dX10_readsMove_78 (by omega) ⟨μ 0 4 + 1, μ 0 6, 0, by first | exact Or.inr (Or.inr (Or.inr (Or.inr (Or.inl ⟨by omega, by omega, by omega, rfl⟩)))) | exact Or.inr (Or.inr (Or.inr (Or.inr (Or.inr (Or.inl ⟨by omega, by omega, by omega, rfl⟩))))), rfl, mo_w3_e (by rw [rd_u_s]) (by rw [rd_u_j _ _ _ (by omega), rd_u_s]) (by rw [rd_u_j _ _ _ (by omega), rd_u_j _ _ _ (by omega)]) (fun p q h => by rw [rd_u_o _ (by omega), rd_u_o _ (by omega)])⟩
        · rw [hv1, hm1]; clear hv1 hm1 v1 w1
          refine rd_if_ne C dX10_readsMove_49 (tgt := 61) (by decide) (fun h => absurd h (by decide)) (fun _ => ?_)
          refine rd_aload_n C dX10_readsMove_52 rfl ?_
          refine rd_bipush C dX10_readsMove_53 (n := 116) (by decide) ⟨by decide, by decide⟩ ?_
          have e4 : (rd_u μ 0 5 (mo_sq (μ 2) (μ 0 3) (μ 0 4))) 0 4 = μ 0 4 := by rw [rd_u_j _ _ _ (by omega)]
          have e3 : (rd_u μ 0 5 (mo_sq (μ 2) (μ 0 3) (μ 0 4))) 0 3 = μ 0 3 := by rw [rd_u_j _ _ _ (by omega)]
          have e2 : (rd_u μ 0 5 (mo_sq (μ 2) (μ 0 3) (μ 0 4))) 2 = μ 2 := by rw [rd_u_ne _ _ _ (by omega)]
          refine rd_callV C (c_X10_takes (by omega) (by omega)) rm_X10_125 ri_X10_takes rs_X10_takes rc_X10_takes rz_X10 ⟨rp_X10_takes, rfl, rfl, by decide, by decide⟩ rfl rd_kcl10 dX10_readsMove_55 rd_c0 rd_m0 rfl (Nat.le_of_ble_eq_true rfl) (fun v1 w1 hq => ?_)
          rw [e4, e3, e2] at hq; clear e4 e3 e2
          rcases hq with ⟨hw_58, hv1, hm1⟩ | ⟨hw_58, hv1, hm1⟩
          · rw [hv1, hm1]; clear hv1 hm1 v1 w1
            refine rd_if_eq C dX10_readsMove_58 (tgt := 77) (by decide) (fun h => absurd h (by decide)) (fun _ => ?_)
            refine rd_aload_n C dX10_readsMove_61 rfl ?_
            have e4 : (rd_u (rd_u μ 0 5 (mo_sq (μ 2) (μ 0 3) (μ 0 4))) 0 4 (μ 0 4 + 1)) 0 4 = μ 0 4 + 1 := by rw [rd_u_s]
            have e3 : (rd_u (rd_u μ 0 5 (mo_sq (μ 2) (μ 0 3) (μ 0 4))) 0 4 (μ 0 4 + 1)) 0 3 = μ 0 3 := by rw [rd_u_j _ _ _ (by omega), rd_u_j _ _ _ (by omega)]
            have e2 : (rd_u (rd_u μ 0 5 (mo_sq (μ 2) (μ 0 3) (μ 0 4))) 0 4 (μ 0 4 + 1)) 2 = μ 2 := by rw [rd_u_ne _ _ _ (by omega), rd_u_ne _ _ _ (by omega)]
            refine rd_callV C (c_X10_sign (by omega) (by omega)) rm_X10_119 ri_X10_sign rs_X10_sign rc_X10_sign rz_X10 ⟨rp_X10_sign, rfl, rfl, by decide, by decide⟩ rfl rd_kcl10 dX10_readsMove_62 rd_c0 rd_m0 rfl (Nat.le_of_ble_eq_true rfl) (fun v1 w1 hq => ?_)
            obtain ⟨hv1, hm1⟩ := hq; rw [hv1, hm1]; clear hv1 hm1
            rw [e4, e3, e2]; clear e4 e3 e2
            refine rd_bipush C dX10_readsMove_65 (n := 48) (by decide) ⟨by decide, by decide⟩ ?_
            refine rd_iload_n C dX10_readsMove_67 rfl ?_
            refine rd_iadd C dX10_readsMove_68 (z := 49) rfl ⟨by omega, by omega⟩ ?_
            refine rd_bipush C dX10_readsMove_69 (n := 57) (by decide) ⟨by decide, by decide⟩ ?_
            refine rd_callS C (c_X10_in) rm_X10_22 rt_X10_in rc_X10_in rz_X10 ⟨rp_X10_in, rfl, rfl, by decide, by decide⟩ rfl dX10_readsMove_71 rfl (Nat.le_of_ble_eq_true rfl) (fun v1 w1 hq => ?_)
            rcases hq with ⟨hw_74, hv1, hm1⟩ | ⟨hw_74, hv1, hm1⟩
            · rw [hv1, hm1]; clear hv1 hm1 v1 w1
              refine rd_if_ne C dX10_readsMove_74 (tgt := 79) (by decide) (fun _ => ?_) (fun h => absurd h (by decide))
              refine rd_aload_n C dX10_readsMove_79 rfl ?_
              refine rd_aload_n C dX10_readsMove_80 rfl ?_
              have e4 : (rd_u (rd_u μ 0 5 (mo_sq (μ 2) (μ 0 3) (μ 0 4))) 0 4 (μ 0 4 + 1)) 0 4 = μ 0 4 + 1 := by rw [rd_u_s]
              have e3 : (rd_u (rd_u μ 0 5 (mo_sq (μ 2) (μ 0 3) (μ 0 4))) 0 4 (μ 0 4 + 1)) 0 3 = μ 0 3 := by rw [rd_u_j _ _ _ (by omega), rd_u_j _ _ _ (by omega)]
              have e2 : (rd_u (rd_u μ 0 5 (mo_sq (μ 2) (μ 0 3) (μ 0 4))) 0 4 (μ 0 4 + 1)) 2 = μ 2 := by rw [rd_u_ne _ _ _ (by omega), rd_u_ne _ _ _ (by omega)]
              refine rd_callV C (c_X10_sign (by omega) (by omega)) rm_X10_119 ri_X10_sign rs_X10_sign rc_X10_sign rz_X10 ⟨rp_X10_sign, rfl, rfl, by decide, by decide⟩ rfl rd_kcl10 dX10_readsMove_81 rd_c0 rd_m0 rfl (Nat.le_of_ble_eq_true rfl) (fun v1 w1 hq => ?_)
              obtain ⟨hv1, hm1⟩ := hq; rw [hv1, hm1]; clear hv1 hm1
              rw [e4, e3, e2]; clear e4 e3 e2
              refine rd_bipush C dX10_readsMove_84 (n := 48) (by decide) ⟨by decide, by decide⟩ ?_
              refine rd_isub C dX10_readsMove_86 (z := mo_sq (μ 2) (μ 0 3) (μ 0 4 + 1) - 48) rfl ⟨by omega, by omega⟩ ?_
              refine rd_put C rd_p10_6 rf_X10_128 dX10_readsMove_87 rd_c0 rd_m0 trivial ?_
              refine rd_aload_n C dX10_readsMove_90 rfl ?_
              refine rd_dup C dX10_readsMove_91 ?_
              refine rd_getx C rd_g10_4 rf_X10_116 dX10_readsMove_92 rd_c0 rd_m0 rfl (z := μ 0 4 + 1) (by rw [rd_u_j _ _ _ (by omega), rd_u_s]) ?_
              refine rd_iconst C dX10_readsMove_95 (n := 1) ⟨by decide, by decide⟩ ?_
              refine rd_iadd C dX10_readsMove_96 (z := μ 0 4 + 1 + 1) rfl ⟨by omega, by omega⟩ ?_
              refine rd_put C rd_p10_4 rf_X10_116 dX10_readsMove_97 rd_c0 rd_m0 trivial ?_
              refine rd_aload_n C dX10_readsMove_100 rfl ?_
              refine rd_getx C rd_g10_5 rf_X10_122 dX10_readsMove_101 rd_c0 rd_m0 rfl (z := mo_sq (μ 2) (μ 0 3) (μ 0 4)) (by rw [rd_u_j _ _ _ (by omega), rd_u_j _ _ _ (by omega), rd_u_j _ _ _ (by omega), rd_u_s]) ?_
              refine rd_bipush C dX10_readsMove_104 (n := 116) (by decide) ⟨by decide, by decide⟩ ?_
              refine rd_icmp_ne C dX10_readsMove_106 (tgt := 152) (by decide) (fun h_106 => ?_) (fun h_106 => ?_)
              · refine rd_iconst C dX10_readsMove_152 (n := 1) ⟨by decide, by decide⟩ ?_
                exact rd_zret C dX10_readsMove_153 (by omega) ⟨μ 0 4 + 1 + 1, mo_sq (μ 2) (μ 0 3) (μ 0 4 + 1) - 48, 1, by first | exact Or.inr (Or.inl ⟨by omega, ⟨by omega, by omega⟩, by omega, by omega, rfl⟩) | exact Or.inr (Or.inr (Or.inl ⟨by omega, ⟨by omega, by omega⟩, by omega, by omega, by omega, rfl⟩)), rfl, mo_w3_e (by rw [rd_u_s]) (by rw [rd_u_j _ _ _ (by omega), rd_u_j _ _ _ (by omega), rd_u_j _ _ _ (by omega), rd_u_s]) (by rw [rd_u_j _ _ _ (by omega), rd_u_s]) (fun p q h => by rw [rd_u_o _ (by omega), rd_u_o _ (by omega), rd_u_o _ (by omega), rd_u_o _ (by omega)])⟩
              · refine rd_aload_n C dX10_readsMove_109 rfl ?_
                have e4 : (rd_u (rd_u (rd_u (rd_u μ 0 5 (mo_sq (μ 2) (μ 0 3) (μ 0 4))) 0 4 (μ 0 4 + 1)) 0 6 (mo_sq (μ 2) (μ 0 3) (μ 0 4 + 1) - 48)) 0 4 (μ 0 4 + 1 + 1)) 0 4 = μ 0 4 + 1 + 1 := by rw [rd_u_s]
                have e3 : (rd_u (rd_u (rd_u (rd_u μ 0 5 (mo_sq (μ 2) (μ 0 3) (μ 0 4))) 0 4 (μ 0 4 + 1)) 0 6 (mo_sq (μ 2) (μ 0 3) (μ 0 4 + 1) - 48)) 0 4 (μ 0 4 + 1 + 1)) 0 3 = μ 0 3 := by rw [rd_u_j _ _ _ (by omega), rd_u_j _ _ _ (by omega), rd_u_j _ _ _ (by omega), rd_u_j _ _ _ (by omega)]
                have e2 : (rd_u (rd_u (rd_u (rd_u μ 0 5 (mo_sq (μ 2) (μ 0 3) (μ 0 4))) 0 4 (μ 0 4 + 1)) 0 6 (mo_sq (μ 2) (μ 0 3) (μ 0 4 + 1) - 48)) 0 4 (μ 0 4 + 1 + 1)) 2 = μ 2 := by rw [rd_u_ne _ _ _ (by omega), rd_u_ne _ _ _ (by omega), rd_u_ne _ _ _ (by omega), rd_u_ne _ _ _ (by omega)]
                refine rd_callV C (c_X10_sign (by omega) (by omega)) rm_X10_119 ri_X10_sign rs_X10_sign rc_X10_sign rz_X10 ⟨rp_X10_sign, rfl, rfl, by decide, by decide⟩ rfl rd_kcl10 dX10_readsMove_110 rd_c0 rd_m0 rfl (Nat.le_of_ble_eq_true rfl) (fun v1 w1 hq => ?_)
                obtain ⟨hv1, hm1⟩ := hq; rw [hv1, hm1]; clear hv1 hm1
                rw [e4, e3, e2]; clear e4 e3 e2
                refine rd_bipush C dX10_readsMove_113 (n := 48) (by decide) ⟨by decide, by decide⟩ ?_
                refine rd_bipush C dX10_readsMove_115 (n := 57) (by decide) ⟨by decide, by decide⟩ ?_
                refine rd_callS C (c_X10_in) rm_X10_22 rt_X10_in rc_X10_in rz_X10 ⟨rp_X10_in, rfl, rfl, by decide, by decide⟩ rfl dX10_readsMove_117 rfl (Nat.le_of_ble_eq_true rfl) (fun v1 w1 hq => ?_)
                rcases hq with ⟨hw_120, hv1, hm1⟩ | ⟨hw_120, hv1, hm1⟩
                · rw [hv1, hm1]; clear hv1 hm1 v1 w1
                  refine rd_if_eq C dX10_readsMove_120 (tgt := 152) (by decide) (fun h => absurd h (by decide)) (fun _ => ?_)
                  refine rd_aload_n C dX10_readsMove_123 rfl ?_
                  refine rd_bipush C dX10_readsMove_124 (n := 10) (by decide) ⟨by decide, by decide⟩ ?_
                  refine rd_aload_n C dX10_readsMove_126 rfl ?_
                  refine rd_getx C rd_g10_6 rf_X10_128 dX10_readsMove_127 rd_c0 rd_m0 rfl (z := mo_sq (μ 2) (μ 0 3) (μ 0 4 + 1) - 48) (by rw [rd_u_j _ _ _ (by omega), rd_u_s]) ?_
                  refine rd_imul C dX10_readsMove_130 (z := 10 * (mo_sq (μ 2) (μ 0 3) (μ 0 4 + 1) - 48)) rfl ⟨by omega, by omega⟩ ?_
                  refine rd_aload_n C dX10_readsMove_131 rfl ?_
                  have e4 : (rd_u (rd_u (rd_u (rd_u μ 0 5 (mo_sq (μ 2) (μ 0 3) (μ 0 4))) 0 4 (μ 0 4 + 1)) 0 6 (mo_sq (μ 2) (μ 0 3) (μ 0 4 + 1) - 48)) 0 4 (μ 0 4 + 1 + 1)) 0 4 = μ 0 4 + 1 + 1 := by rw [rd_u_s]
                  have e3 : (rd_u (rd_u (rd_u (rd_u μ 0 5 (mo_sq (μ 2) (μ 0 3) (μ 0 4))) 0 4 (μ 0 4 + 1)) 0 6 (mo_sq (μ 2) (μ 0 3) (μ 0 4 + 1) - 48)) 0 4 (μ 0 4 + 1 + 1)) 0 3 = μ 0 3 := by rw [rd_u_j _ _ _ (by omega), rd_u_j _ _ _ (by omega), rd_u_j _ _ _ (by omega), rd_u_j _ _ _ (by omega)]
                  have e2 : (rd_u (rd_u (rd_u (rd_u μ 0 5 (mo_sq (μ 2) (μ 0 3) (μ 0 4))) 0 4 (μ 0 4 + 1)) 0 6 (mo_sq (μ 2) (μ 0 3) (μ 0 4 + 1) - 48)) 0 4 (μ 0 4 + 1 + 1)) 2 = μ 2 := by rw [rd_u_ne _ _ _ (by omega), rd_u_ne _ _ _ (by omega), rd_u_ne _ _ _ (by omega), rd_u_ne _ _ _ (by omega)]
                  refine rd_callV C (c_X10_sign (by omega) (by omega)) rm_X10_119 ri_X10_sign rs_X10_sign rc_X10_sign rz_X10 ⟨rp_X10_sign, rfl, rfl, by decide, by decide⟩ rfl rd_kcl10 dX10_readsMove_132 rd_c0 rd_m0 rfl (Nat.le_of_ble_eq_true rfl) (fun v1 w1 hq => ?_)
                  obtain ⟨hv1, hm1⟩ := hq; rw [hv1, hm1]; clear hv1 hm1
                  rw [e4, e3, e2]; clear e4 e3 e2
                  refine rd_iadd C dX10_readsMove_135 (z := 10 * (mo_sq (μ 2) (μ 0 3) (μ 0 4 + 1) - 48) + (mo_sq (μ 2) (μ 0 3) (μ 0 4 + 1 + 1))) rfl ⟨by omega, by omega⟩ ?_
                  refine rd_bipush C dX10_readsMove_136 (n := 48) (by decide) ⟨by decide, by decide⟩ ?_
                  refine rd_isub C dX10_readsMove_138 (z := 10 * (mo_sq (μ 2) (μ 0 3) (μ 0 4 + 1) - 48) + (mo_sq (μ 2) (μ 0 3) (μ 0 4 + 1 + 1)) - 48) rfl ⟨by omega, by omega⟩ ?_
                  refine rd_put C rd_p10_6 rf_X10_128 dX10_readsMove_139 rd_c0 rd_m0 trivial ?_
                  refine rd_aload_n C dX10_readsMove_142 rfl ?_
                  refine rd_dup C dX10_readsMove_143 ?_
                  refine rd_getx C rd_g10_4 rf_X10_116 dX10_readsMove_144 rd_c0 rd_m0 rfl (z := μ 0 4 + 1 + 1) (by rw [rd_u_j _ _ _ (by omega), rd_u_s]) ?_
                  refine rd_iconst C dX10_readsMove_147 (n := 1) ⟨by decide, by decide⟩ ?_
                  refine rd_iadd C dX10_readsMove_148 (z := μ 0 4 + 1 + 1 + 1) rfl ⟨by omega, by omega⟩ ?_
                  refine rd_put C rd_p10_4 rf_X10_116 dX10_readsMove_149 rd_c0 rd_m0 trivial ?_
                  refine rd_iconst C dX10_readsMove_152 (n := 1) ⟨by decide, by decide⟩ ?_
                  exact rd_zret C dX10_readsMove_153 (by omega) ⟨μ 0 4 + 1 + 1 + 1, 10 * (mo_sq (μ 2) (μ 0 3) (μ 0 4 + 1) - 48) + (mo_sq (μ 2) (μ 0 3) (μ 0 4 + 1 + 1)) - 48, 1, by exact Or.inr (Or.inr (Or.inr (Or.inl ⟨by omega, ⟨by omega, by omega⟩, ⟨by omega, by omega⟩, by omega, by omega, rfl⟩))), rfl, mo_w3_e (by rw [rd_u_s]) (by rw [rd_u_j _ _ _ (by omega), rd_u_j _ _ _ (by omega), rd_u_j _ _ _ (by omega), rd_u_j _ _ _ (by omega), rd_u_j _ _ _ (by omega), rd_u_s]) (by rw [rd_u_j _ _ _ (by omega), rd_u_s]) (fun p q h => by rw [rd_u_o _ (by omega), rd_u_o _ (by omega), rd_u_o _ (by omega), rd_u_o _ (by omega), rd_u_o _ (by omega), rd_u_o _ (by omega)])⟩
                · rw [hv1, hm1]; clear hv1 hm1 v1 w1
                  refine rd_if_eq C dX10_readsMove_120 (tgt := 152) (by decide) (fun _ => ?_) (fun h => absurd h (by decide))
                  refine rd_iconst C dX10_readsMove_152 (n := 1) ⟨by decide, by decide⟩ ?_
                  exact rd_zret C dX10_readsMove_153 (by omega) ⟨μ 0 4 + 1 + 1, mo_sq (μ 2) (μ 0 3) (μ 0 4 + 1) - 48, 1, by first | exact Or.inr (Or.inl ⟨by omega, ⟨by omega, by omega⟩, by omega, by omega, rfl⟩) | exact Or.inr (Or.inr (Or.inl ⟨by omega, ⟨by omega, by omega⟩, by omega, by omega, by omega, rfl⟩)), rfl, mo_w3_e (by rw [rd_u_s]) (by rw [rd_u_j _ _ _ (by omega), rd_u_j _ _ _ (by omega), rd_u_j _ _ _ (by omega), rd_u_s]) (by rw [rd_u_j _ _ _ (by omega), rd_u_s]) (fun p q h => by rw [rd_u_o _ (by omega), rd_u_o _ (by omega), rd_u_o _ (by omega), rd_u_o _ (by omega)])⟩
            · rw [hv1, hm1]; clear hv1 hm1 v1 w1
              refine rd_if_ne C dX10_readsMove_74 (tgt := 79) (by decide) (fun h => absurd h (by decide)) (fun _ => ?_)
              refine rd_iconst C dX10_readsMove_77 (n := 0) ⟨by decide, by decide⟩ ?_
              exact rd_zret C dX10_readsMove_78 (by omega) ⟨μ 0 4 + 1, μ 0 6, 0, by first | exact Or.inr (Or.inr (Or.inr (Or.inr (Or.inl ⟨by omega, by omega, by omega, rfl⟩)))) | exact Or.inr (Or.inr (Or.inr (Or.inr (Or.inr (Or.inl ⟨by omega, by omega, by omega, rfl⟩))))), rfl, mo_w3_e (by rw [rd_u_s]) (by rw [rd_u_j _ _ _ (by omega), rd_u_s]) (by rw [rd_u_j _ _ _ (by omega), rd_u_j _ _ _ (by omega)]) (fun p q h => by rw [rd_u_o _ (by omega), rd_u_o _ (by omega)])⟩
          · rw [hv1, hm1]; clear hv1 hm1 v1 w1
            refine rd_if_eq C dX10_readsMove_58 (tgt := 77) (by decide) (fun _ => ?_) (fun h => absurd h (by decide))
            refine rd_iconst C dX10_readsMove_77 (n := 0) ⟨by decide, by decide⟩ ?_
            exact rd_zret C dX10_readsMove_78 (by omega) ⟨μ 0 4, μ 0 6, 0, by exact Or.inr (Or.inr (Or.inr (Or.inr (Or.inr (Or.inr (⟨⟨by omega, by omega, by omega, by omega⟩, rfl, rfl⟩)))))), rfl, mo_w3_e (by rw [rd_u_j _ _ _ (by omega)]) (by rw [rd_u_s]) (by rw [rd_u_j _ _ _ (by omega)]) (fun p q h => by rw [rd_u_o _ (by omega)])⟩
      · refine rd_iconst C dX10_readsMove_37 (n := 0) ⟨by decide, by decide⟩ ?_
        refine rd_goto C dX10_readsMove_38 (tgt := 42) (by decide) ?_
        refine rd_istore_n C dX10_readsMove_42 (by decide) (L' := [rd_R 0, rd_I 0]) rfl ?_
        refine rd_aload_n C dX10_readsMove_43 rfl ?_
        refine rd_bipush C dX10_readsMove_44 (n := 107) (by decide) ⟨by decide, by decide⟩ ?_
        have e4 : (rd_u μ 0 5 (mo_sq (μ 2) (μ 0 3) (μ 0 4))) 0 4 = μ 0 4 := by rw [rd_u_j _ _ _ (by omega)]
        have e3 : (rd_u μ 0 5 (mo_sq (μ 2) (μ 0 3) (μ 0 4))) 0 3 = μ 0 3 := by rw [rd_u_j _ _ _ (by omega)]
        have e2 : (rd_u μ 0 5 (mo_sq (μ 2) (μ 0 3) (μ 0 4))) 2 = μ 2 := by rw [rd_u_ne _ _ _ (by omega)]
        refine rd_callV C (c_X10_takes (by omega) (by omega)) rm_X10_125 ri_X10_takes rs_X10_takes rc_X10_takes rz_X10 ⟨rp_X10_takes, rfl, rfl, by decide, by decide⟩ rfl rd_kcl10 dX10_readsMove_46 rd_c0 rd_m0 rfl (Nat.le_of_ble_eq_true rfl) (fun v1 w1 hq => ?_)
        rw [e4, e3, e2] at hq; clear e4 e3 e2
        rcases hq with ⟨hw_49, hv1, hm1⟩ | ⟨hw_49, hv1, hm1⟩
        · rw [hv1, hm1]; clear hv1 hm1 v1 w1
          refine rd_if_ne C dX10_readsMove_49 (tgt := 61) (by decide) (fun _ => ?_) (fun h => absurd h (by decide))
          refine rd_aload_n C dX10_readsMove_61 rfl ?_
          have e4 : (rd_u (rd_u μ 0 5 (mo_sq (μ 2) (μ 0 3) (μ 0 4))) 0 4 (μ 0 4 + 1)) 0 4 = μ 0 4 + 1 := by rw [rd_u_s]
          have e3 : (rd_u (rd_u μ 0 5 (mo_sq (μ 2) (μ 0 3) (μ 0 4))) 0 4 (μ 0 4 + 1)) 0 3 = μ 0 3 := by rw [rd_u_j _ _ _ (by omega), rd_u_j _ _ _ (by omega)]
          have e2 : (rd_u (rd_u μ 0 5 (mo_sq (μ 2) (μ 0 3) (μ 0 4))) 0 4 (μ 0 4 + 1)) 2 = μ 2 := by rw [rd_u_ne _ _ _ (by omega), rd_u_ne _ _ _ (by omega)]
          refine rd_callV C (c_X10_sign (by omega) (by omega)) rm_X10_119 ri_X10_sign rs_X10_sign rc_X10_sign rz_X10 ⟨rp_X10_sign, rfl, rfl, by decide, by decide⟩ rfl rd_kcl10 dX10_readsMove_62 rd_c0 rd_m0 rfl (Nat.le_of_ble_eq_true rfl) (fun v1 w1 hq => ?_)
          obtain ⟨hv1, hm1⟩ := hq; rw [hv1, hm1]; clear hv1 hm1
          rw [e4, e3, e2]; clear e4 e3 e2
          refine rd_bipush C dX10_readsMove_65 (n := 48) (by decide) ⟨by decide, by decide⟩ ?_
          refine rd_iload_n C dX10_readsMove_67 rfl ?_
          refine rd_iadd C dX10_readsMove_68 (z := 48) rfl ⟨by omega, by omega⟩ ?_
          refine rd_bipush C dX10_readsMove_69 (n := 57) (by decide) ⟨by decide, by decide⟩ ?_
          refine rd_callS C (c_X10_in) rm_X10_22 rt_X10_in rc_X10_in rz_X10 ⟨rp_X10_in, rfl, rfl, by decide, by decide⟩ rfl dX10_readsMove_71 rfl (Nat.le_of_ble_eq_true rfl) (fun v1 w1 hq => ?_)
          rcases hq with ⟨hw_74, hv1, hm1⟩ | ⟨hw_74, hv1, hm1⟩
          · rw [hv1, hm1]; clear hv1 hm1 v1 w1
            refine rd_if_ne C dX10_readsMove_74 (tgt := 79) (by decide) (fun _ => ?_) (fun h => absurd h (by decide))
            refine rd_aload_n C dX10_readsMove_79 rfl ?_
            refine rd_aload_n C dX10_readsMove_80 rfl ?_
            have e4 : (rd_u (rd_u μ 0 5 (mo_sq (μ 2) (μ 0 3) (μ 0 4))) 0 4 (μ 0 4 + 1)) 0 4 = μ 0 4 + 1 := by rw [rd_u_s]
            have e3 : (rd_u (rd_u μ 0 5 (mo_sq (μ 2) (μ 0 3) (μ 0 4))) 0 4 (μ 0 4 + 1)) 0 3 = μ 0 3 := by rw [rd_u_j _ _ _ (by omega), rd_u_j _ _ _ (by omega)]
            have e2 : (rd_u (rd_u μ 0 5 (mo_sq (μ 2) (μ 0 3) (μ 0 4))) 0 4 (μ 0 4 + 1)) 2 = μ 2 := by rw [rd_u_ne _ _ _ (by omega), rd_u_ne _ _ _ (by omega)]
            refine rd_callV C (c_X10_sign (by omega) (by omega)) rm_X10_119 ri_X10_sign rs_X10_sign rc_X10_sign rz_X10 ⟨rp_X10_sign, rfl, rfl, by decide, by decide⟩ rfl rd_kcl10 dX10_readsMove_81 rd_c0 rd_m0 rfl (Nat.le_of_ble_eq_true rfl) (fun v1 w1 hq => ?_)
            obtain ⟨hv1, hm1⟩ := hq; rw [hv1, hm1]; clear hv1 hm1
            rw [e4, e3, e2]; clear e4 e3 e2
            refine rd_bipush C dX10_readsMove_84 (n := 48) (by decide) ⟨by decide, by decide⟩ ?_
            refine rd_isub C dX10_readsMove_86 (z := mo_sq (μ 2) (μ 0 3) (μ 0 4 + 1) - 48) rfl ⟨by omega, by omega⟩ ?_
            refine rd_put C rd_p10_6 rf_X10_128 dX10_readsMove_87 rd_c0 rd_m0 trivial ?_
            refine rd_aload_n C dX10_readsMove_90 rfl ?_
            refine rd_dup C dX10_readsMove_91 ?_
            refine rd_getx C rd_g10_4 rf_X10_116 dX10_readsMove_92 rd_c0 rd_m0 rfl (z := μ 0 4 + 1) (by rw [rd_u_j _ _ _ (by omega), rd_u_s]) ?_
            refine rd_iconst C dX10_readsMove_95 (n := 1) ⟨by decide, by decide⟩ ?_
            refine rd_iadd C dX10_readsMove_96 (z := μ 0 4 + 1 + 1) rfl ⟨by omega, by omega⟩ ?_
            refine rd_put C rd_p10_4 rf_X10_116 dX10_readsMove_97 rd_c0 rd_m0 trivial ?_
            refine rd_aload_n C dX10_readsMove_100 rfl ?_
            refine rd_getx C rd_g10_5 rf_X10_122 dX10_readsMove_101 rd_c0 rd_m0 rfl (z := mo_sq (μ 2) (μ 0 3) (μ 0 4)) (by rw [rd_u_j _ _ _ (by omega), rd_u_j _ _ _ (by omega), rd_u_j _ _ _ (by omega), rd_u_s]) ?_
            refine rd_bipush C dX10_readsMove_104 (n := 116) (by decide) ⟨by decide, by decide⟩ ?_
            refine rd_icmp_ne C dX10_readsMove_106 (tgt := 152) (by decide) (fun h_106 => ?_) (fun h_106 => ?_)
            · refine rd_iconst C dX10_readsMove_152 (n := 1) ⟨by decide, by decide⟩ ?_
              exact rd_zret C dX10_readsMove_153 (by omega) ⟨μ 0 4 + 1 + 1, mo_sq (μ 2) (μ 0 3) (μ 0 4 + 1) - 48, 1, by first | exact Or.inr (Or.inl ⟨by omega, ⟨by omega, by omega⟩, by omega, by omega, rfl⟩) | exact Or.inr (Or.inr (Or.inl ⟨by omega, ⟨by omega, by omega⟩, by omega, by omega, by omega, rfl⟩)), rfl, mo_w3_e (by rw [rd_u_s]) (by rw [rd_u_j _ _ _ (by omega), rd_u_j _ _ _ (by omega), rd_u_j _ _ _ (by omega), rd_u_s]) (by rw [rd_u_j _ _ _ (by omega), rd_u_s]) (fun p q h => by rw [rd_u_o _ (by omega), rd_u_o _ (by omega), rd_u_o _ (by omega), rd_u_o _ (by omega)])⟩
            · refine rd_aload_n C dX10_readsMove_109 rfl ?_
              have e4 : (rd_u (rd_u (rd_u (rd_u μ 0 5 (mo_sq (μ 2) (μ 0 3) (μ 0 4))) 0 4 (μ 0 4 + 1)) 0 6 (mo_sq (μ 2) (μ 0 3) (μ 0 4 + 1) - 48)) 0 4 (μ 0 4 + 1 + 1)) 0 4 = μ 0 4 + 1 + 1 := by rw [rd_u_s]
              have e3 : (rd_u (rd_u (rd_u (rd_u μ 0 5 (mo_sq (μ 2) (μ 0 3) (μ 0 4))) 0 4 (μ 0 4 + 1)) 0 6 (mo_sq (μ 2) (μ 0 3) (μ 0 4 + 1) - 48)) 0 4 (μ 0 4 + 1 + 1)) 0 3 = μ 0 3 := by rw [rd_u_j _ _ _ (by omega), rd_u_j _ _ _ (by omega), rd_u_j _ _ _ (by omega), rd_u_j _ _ _ (by omega)]
              have e2 : (rd_u (rd_u (rd_u (rd_u μ 0 5 (mo_sq (μ 2) (μ 0 3) (μ 0 4))) 0 4 (μ 0 4 + 1)) 0 6 (mo_sq (μ 2) (μ 0 3) (μ 0 4 + 1) - 48)) 0 4 (μ 0 4 + 1 + 1)) 2 = μ 2 := by rw [rd_u_ne _ _ _ (by omega), rd_u_ne _ _ _ (by omega), rd_u_ne _ _ _ (by omega), rd_u_ne _ _ _ (by omega)]
              refine rd_callV C (c_X10_sign (by omega) (by omega)) rm_X10_119 ri_X10_sign rs_X10_sign rc_X10_sign rz_X10 ⟨rp_X10_sign, rfl, rfl, by decide, by decide⟩ rfl rd_kcl10 dX10_readsMove_110 rd_c0 rd_m0 rfl (Nat.le_of_ble_eq_true rfl) (fun v1 w1 hq => ?_)
              obtain ⟨hv1, hm1⟩ := hq; rw [hv1, hm1]; clear hv1 hm1
              rw [e4, e3, e2]; clear e4 e3 e2
              refine rd_bipush C dX10_readsMove_113 (n := 48) (by decide) ⟨by decide, by decide⟩ ?_
              refine rd_bipush C dX10_readsMove_115 (n := 57) (by decide) ⟨by decide, by decide⟩ ?_
              refine rd_callS C (c_X10_in) rm_X10_22 rt_X10_in rc_X10_in rz_X10 ⟨rp_X10_in, rfl, rfl, by decide, by decide⟩ rfl dX10_readsMove_117 rfl (Nat.le_of_ble_eq_true rfl) (fun v1 w1 hq => ?_)
              rcases hq with ⟨hw_120, hv1, hm1⟩ | ⟨hw_120, hv1, hm1⟩
              · rw [hv1, hm1]; clear hv1 hm1 v1 w1
                refine rd_if_eq C dX10_readsMove_120 (tgt := 152) (by decide) (fun h => absurd h (by decide)) (fun _ => ?_)
                refine rd_aload_n C dX10_readsMove_123 rfl ?_
                refine rd_bipush C dX10_readsMove_124 (n := 10) (by decide) ⟨by decide, by decide⟩ ?_
                refine rd_aload_n C dX10_readsMove_126 rfl ?_
                refine rd_getx C rd_g10_6 rf_X10_128 dX10_readsMove_127 rd_c0 rd_m0 rfl (z := mo_sq (μ 2) (μ 0 3) (μ 0 4 + 1) - 48) (by rw [rd_u_j _ _ _ (by omega), rd_u_s]) ?_
                refine rd_imul C dX10_readsMove_130 (z := 10 * (mo_sq (μ 2) (μ 0 3) (μ 0 4 + 1) - 48)) rfl ⟨by omega, by omega⟩ ?_
                refine rd_aload_n C dX10_readsMove_131 rfl ?_
                have e4 : (rd_u (rd_u (rd_u (rd_u μ 0 5 (mo_sq (μ 2) (μ 0 3) (μ 0 4))) 0 4 (μ 0 4 + 1)) 0 6 (mo_sq (μ 2) (μ 0 3) (μ 0 4 + 1) - 48)) 0 4 (μ 0 4 + 1 + 1)) 0 4 = μ 0 4 + 1 + 1 := by rw [rd_u_s]
                have e3 : (rd_u (rd_u (rd_u (rd_u μ 0 5 (mo_sq (μ 2) (μ 0 3) (μ 0 4))) 0 4 (μ 0 4 + 1)) 0 6 (mo_sq (μ 2) (μ 0 3) (μ 0 4 + 1) - 48)) 0 4 (μ 0 4 + 1 + 1)) 0 3 = μ 0 3 := by rw [rd_u_j _ _ _ (by omega), rd_u_j _ _ _ (by omega), rd_u_j _ _ _ (by omega), rd_u_j _ _ _ (by omega)]
                have e2 : (rd_u (rd_u (rd_u (rd_u μ 0 5 (mo_sq (μ 2) (μ 0 3) (μ 0 4))) 0 4 (μ 0 4 + 1)) 0 6 (mo_sq (μ 2) (μ 0 3) (μ 0 4 + 1) - 48)) 0 4 (μ 0 4 + 1 + 1)) 2 = μ 2 := by rw [rd_u_ne _ _ _ (by omega), rd_u_ne _ _ _ (by omega), rd_u_ne _ _ _ (by omega), rd_u_ne _ _ _ (by omega)]
                refine rd_callV C (c_X10_sign (by omega) (by omega)) rm_X10_119 ri_X10_sign rs_X10_sign rc_X10_sign rz_X10 ⟨rp_X10_sign, rfl, rfl, by decide, by decide⟩ rfl rd_kcl10 dX10_readsMove_132 rd_c0 rd_m0 rfl (Nat.le_of_ble_eq_true rfl) (fun v1 w1 hq => ?_)
                obtain ⟨hv1, hm1⟩ := hq; rw [hv1, hm1]; clear hv1 hm1
                rw [e4, e3, e2]; clear e4 e3 e2
                refine rd_iadd C dX10_readsMove_135 (z := 10 * (mo_sq (μ 2) (μ 0 3) (μ 0 4 + 1) - 48) + (mo_sq (μ 2) (μ 0 3) (μ 0 4 + 1 + 1))) rfl ⟨by omega, by omega⟩ ?_
                refine rd_bipush C dX10_readsMove_136 (n := 48) (by decide) ⟨by decide, by decide⟩ ?_
                refine rd_isub C dX10_readsMove_138 (z := 10 * (mo_sq (μ 2) (μ 0 3) (μ 0 4 + 1) - 48) + (mo_sq (μ 2) (μ 0 3) (μ 0 4 + 1 + 1)) - 48) rfl ⟨by omega, by omega⟩ ?_
                refine rd_put C rd_p10_6 rf_X10_128 dX10_readsMove_139 rd_c0 rd_m0 trivial ?_
                refine rd_aload_n C dX10_readsMove_142 rfl ?_
                refine rd_dup C dX10_readsMove_143 ?_
                refine rd_getx C rd_g10_4 rf_X10_116 dX10_readsMove_144 rd_c0 rd_m0 rfl (z := μ 0 4 + 1 + 1) (by rw [rd_u_j _ _ _ (by omega), rd_u_s]) ?_
                refine rd_iconst C dX10_readsMove_147 (n := 1) ⟨by decide, by decide⟩ ?_
                refine rd_iadd C dX10_readsMove_148 (z := μ 0 4 + 1 + 1 + 1) rfl ⟨by omega, by omega⟩ ?_
                refine rd_put C rd_p10_4 rf_X10_116 dX10_readsMove_149 rd_c0 rd_m0 trivial ?_
                refine rd_iconst C dX10_readsMove_152 (n := 1) ⟨by decide, by decide⟩ ?_
                exact rd_zret C dX10_readsMove_153 (by omega) ⟨μ 0 4 + 1 + 1 + 1, 10 * (mo_sq (μ 2) (μ 0 3) (μ 0 4 + 1) - 48) + (mo_sq (μ 2) (μ 0 3) (μ 0 4 + 1 + 1)) - 48, 1, by exact Or.inr (Or.inr (Or.inr (Or.inl ⟨by omega, ⟨by omega, by omega⟩, ⟨by omega, by omega⟩, by omega, by omega, rfl⟩))), rfl, mo_w3_e (by rw [rd_u_s]) (by rw [rd_u_j _ _ _ (by omega), rd_u_j _ _ _ (by omega), rd_u_j _ _ _ (by omega), rd_u_j _ _ _ (by omega), rd_u_j _ _ _ (by omega), rd_u_s]) (by rw [rd_u_j _ _ _ (by omega), rd_u_s]) (fun p q h => by rw [rd_u_o _ (by omega), rd_u_o _ (by omega), rd_u_o _ (by omega), rd_u_o _ (by omega), rd_u_o _ (by omega), rd_u_o _ (by omega)])⟩
              · rw [hv1, hm1]; clear hv1 hm1 v1 w1
                refine rd_if_eq C dX10_readsMove_120 (tgt := 152) (by decide) (fun _ => ?_) (fun h => absurd h (by decide))
                refine rd_iconst C dX10_readsMove_152 (n := 1) ⟨by decide, by decide⟩ ?_
                exact rd_zret C dX10_readsMove_153 (by omega) ⟨μ 0 4 + 1 + 1, mo_sq (μ 2) (μ 0 3) (μ 0 4 + 1) - 48, 1, by first | exact Or.inr (Or.inl ⟨by omega, ⟨by omega, by omega⟩, by omega, by omega, rfl⟩) | exact Or.inr (Or.inr (Or.inl ⟨by omega, ⟨by omega, by omega⟩, by omega, by omega, by omega, rfl⟩)), rfl, mo_w3_e (by rw [rd_u_s]) (by rw [rd_u_j _ _ _ (by omega), rd_u_j _ _ _ (by omega), rd_u_j _ _ _ (by omega), rd_u_s]) (by rw [rd_u_j _ _ _ (by omega), rd_u_s]) (fun p q h => by rw [rd_u_o _ (by omega), rd_u_o _ (by omega), rd_u_o _ (by omega), rd_u_o _ (by omega)])⟩
          · rw [hv1, hm1]; clear hv1 hm1 v1 w1
            refine rd_if_ne C dX10_readsMove_74 (tgt := 79) (by decide) (fun h => absurd h (by decide)) (fun _ => ?_)
            refine rd_iconst C dX10_readsMove_77 (n := 0) ⟨by decide, by decide⟩ ?_
            exact rd_zret C dX10_readsMove_78 (by omega) ⟨μ 0 4 + 1, μ 0 6, 0, by first | exact Or.inr (Or.inr (Or.inr (Or.inr (Or.inl ⟨by omega, by omega, by omega, rfl⟩)))) | exact Or.inr (Or.inr (Or.inr (Or.inr (Or.inr (Or.inl ⟨by omega, by omega, by omega, rfl⟩))))), rfl, mo_w3_e (by rw [rd_u_s]) (by rw [rd_u_j _ _ _ (by omega), rd_u_s]) (by rw [rd_u_j _ _ _ (by omega), rd_u_j _ _ _ (by omega)]) (fun p q h => by rw [rd_u_o _ (by omega), rd_u_o _ (by omega)])⟩
        · rw [hv1, hm1]; clear hv1 hm1 v1 w1
          refine rd_if_ne C dX10_readsMove_49 (tgt := 61) (by decide) (fun h => absurd h (by decide)) (fun _ => ?_)
          refine rd_aload_n C dX10_readsMove_52 rfl ?_
          refine rd_bipush C dX10_readsMove_53 (n := 116) (by decide) ⟨by decide, by decide⟩ ?_
          have e4 : (rd_u μ 0 5 (mo_sq (μ 2) (μ 0 3) (μ 0 4))) 0 4 = μ 0 4 := by rw [rd_u_j _ _ _ (by omega)]
          have e3 : (rd_u μ 0 5 (mo_sq (μ 2) (μ 0 3) (μ 0 4))) 0 3 = μ 0 3 := by rw [rd_u_j _ _ _ (by omega)]
          have e2 : (rd_u μ 0 5 (mo_sq (μ 2) (μ 0 3) (μ 0 4))) 2 = μ 2 := by rw [rd_u_ne _ _ _ (by omega)]
          refine rd_callV C (c_X10_takes (by omega) (by omega)) rm_X10_125 ri_X10_takes rs_X10_takes rc_X10_takes rz_X10 ⟨rp_X10_takes, rfl, rfl, by decide, by decide⟩ rfl rd_kcl10 dX10_readsMove_55 rd_c0 rd_m0 rfl (Nat.le_of_ble_eq_true rfl) (fun v1 w1 hq => ?_)
          rw [e4, e3, e2] at hq; clear e4 e3 e2
          rcases hq with ⟨hw_58, hv1, hm1⟩ | ⟨hw_58, hv1, hm1⟩
          · rw [hv1, hm1]; clear hv1 hm1 v1 w1
            refine rd_if_eq C dX10_readsMove_58 (tgt := 77) (by decide) (fun h => absurd h (by decide)) (fun _ => ?_)
            refine rd_aload_n C dX10_readsMove_61 rfl ?_
            have e4 : (rd_u (rd_u μ 0 5 (mo_sq (μ 2) (μ 0 3) (μ 0 4))) 0 4 (μ 0 4 + 1)) 0 4 = μ 0 4 + 1 := by rw [rd_u_s]
            have e3 : (rd_u (rd_u μ 0 5 (mo_sq (μ 2) (μ 0 3) (μ 0 4))) 0 4 (μ 0 4 + 1)) 0 3 = μ 0 3 := by rw [rd_u_j _ _ _ (by omega), rd_u_j _ _ _ (by omega)]
            have e2 : (rd_u (rd_u μ 0 5 (mo_sq (μ 2) (μ 0 3) (μ 0 4))) 0 4 (μ 0 4 + 1)) 2 = μ 2 := by rw [rd_u_ne _ _ _ (by omega), rd_u_ne _ _ _ (by omega)]
            refine rd_callV C (c_X10_sign (by omega) (by omega)) rm_X10_119 ri_X10_sign rs_X10_sign rc_X10_sign rz_X10 ⟨rp_X10_sign, rfl, rfl, by decide, by decide⟩ rfl rd_kcl10 dX10_readsMove_62 rd_c0 rd_m0 rfl (Nat.le_of_ble_eq_true rfl) (fun v1 w1 hq => ?_)
            obtain ⟨hv1, hm1⟩ := hq; rw [hv1, hm1]; clear hv1 hm1
            rw [e4, e3, e2]; clear e4 e3 e2
            refine rd_bipush C dX10_readsMove_65 (n := 48) (by decide) ⟨by decide, by decide⟩ ?_
            refine rd_iload_n C dX10_readsMove_67 rfl ?_
            refine rd_iadd C dX10_readsMove_68 (z := 48) rfl ⟨by omega, by omega⟩ ?_
            refine rd_bipush C dX10_readsMove_69 (n := 57) (by decide) ⟨by decide, by decide⟩ ?_
            refine rd_callS C (c_X10_in) rm_X10_22 rt_X10_in rc_X10_in rz_X10 ⟨rp_X10_in, rfl, rfl, by decide, by decide⟩ rfl dX10_readsMove_71 rfl (Nat.le_of_ble_eq_true rfl) (fun v1 w1 hq => ?_)
            rcases hq with ⟨hw_74, hv1, hm1⟩ | ⟨hw_74, hv1, hm1⟩
            · rw [hv1, hm1]; clear hv1 hm1 v1 w1
              refine rd_if_ne C dX10_readsMove_74 (tgt := 79) (by decide) (fun _ => ?_) (fun h => absurd h (by decide))
              refine rd_aload_n C dX10_readsMove_79 rfl ?_
              refine rd_aload_n C dX10_readsMove_80 rfl ?_
              have e4 : (rd_u (rd_u μ 0 5 (mo_sq (μ 2) (μ 0 3) (μ 0 4))) 0 4 (μ 0 4 + 1)) 0 4 = μ 0 4 + 1 := by rw [rd_u_s]
              have e3 : (rd_u (rd_u μ 0 5 (mo_sq (μ 2) (μ 0 3) (μ 0 4))) 0 4 (μ 0 4 + 1)) 0 3 = μ 0 3 := by rw [rd_u_j _ _ _ (by omega), rd_u_j _ _ _ (by omega)]
              have e2 : (rd_u (rd_u μ 0 5 (mo_sq (μ 2) (μ 0 3) (μ 0 4))) 0 4 (μ 0 4 + 1)) 2 = μ 2 := by rw [rd_u_ne _ _ _ (by omega), rd_u_ne _ _ _ (by omega)]
              refine rd_callV C (c_X10_sign (by omega) (by omega)) rm_X10_119 ri_X10_sign rs_X10_sign rc_X10_sign rz_X10 ⟨rp_X10_sign, rfl, rfl, by decide, by decide⟩ rfl rd_kcl10 dX10_readsMove_81 rd_c0 rd_m0 rfl (Nat.le_of_ble_eq_true rfl) (fun v1 w1 hq => ?_)
              obtain ⟨hv1, hm1⟩ := hq; rw [hv1, hm1]; clear hv1 hm1
              rw [e4, e3, e2]; clear e4 e3 e2
              refine rd_bipush C dX10_readsMove_84 (n := 48) (by decide) ⟨by decide, by decide⟩ ?_
              refine rd_isub C dX10_readsMove_86 (z := mo_sq (μ 2) (μ 0 3) (μ 0 4 + 1) - 48) rfl ⟨by omega, by omega⟩ ?_
              refine rd_put C rd_p10_6 rf_X10_128 dX10_readsMove_87 rd_c0 rd_m0 trivial ?_
              refine rd_aload_n C dX10_readsMove_90 rfl ?_
              refine rd_dup C dX10_readsMove_91 ?_
              refine rd_getx C rd_g10_4 rf_X10_116 dX10_readsMove_92 rd_c0 rd_m0 rfl (z := μ 0 4 + 1) (by rw [rd_u_j _ _ _ (by omega), rd_u_s]) ?_
              refine rd_iconst C dX10_readsMove_95 (n := 1) ⟨by decide, by decide⟩ ?_
              refine rd_iadd C dX10_readsMove_96 (z := μ 0 4 + 1 + 1) rfl ⟨by omega, by omega⟩ ?_
              refine rd_put C rd_p10_4 rf_X10_116 dX10_readsMove_97 rd_c0 rd_m0 trivial ?_
              refine rd_aload_n C dX10_readsMove_100 rfl ?_
              refine rd_getx C rd_g10_5 rf_X10_122 dX10_readsMove_101 rd_c0 rd_m0 rfl (z := mo_sq (μ 2) (μ 0 3) (μ 0 4)) (by rw [rd_u_j _ _ _ (by omega), rd_u_j _ _ _ (by omega), rd_u_j _ _ _ (by omega), rd_u_s]) ?_
              refine rd_bipush C dX10_readsMove_104 (n := 116) (by decide) ⟨by decide, by decide⟩ ?_
              refine rd_icmp_ne C dX10_readsMove_106 (tgt := 152) (by decide) (fun h_106 => ?_) (fun h_106 => ?_)
              · refine rd_iconst C dX10_readsMove_152 (n := 1) ⟨by decide, by decide⟩ ?_
                exact rd_zret C dX10_readsMove_153 (by omega) ⟨μ 0 4 + 1 + 1, mo_sq (μ 2) (μ 0 3) (μ 0 4 + 1) - 48, 1, by first | exact Or.inr (Or.inl ⟨by omega, ⟨by omega, by omega⟩, by omega, by omega, rfl⟩) | exact Or.inr (Or.inr (Or.inl ⟨by omega, ⟨by omega, by omega⟩, by omega, by omega, by omega, rfl⟩)), rfl, mo_w3_e (by rw [rd_u_s]) (by rw [rd_u_j _ _ _ (by omega), rd_u_j _ _ _ (by omega), rd_u_j _ _ _ (by omega), rd_u_s]) (by rw [rd_u_j _ _ _ (by omega), rd_u_s]) (fun p q h => by rw [rd_u_o _ (by omega), rd_u_o _ (by omega), rd_u_o _ (by omega), rd_u_o _ (by omega)])⟩
              · refine rd_aload_n C dX10_readsMove_109 rfl ?_
                have e4 : (rd_u (rd_u (rd_u (rd_u μ 0 5 (mo_sq (μ 2) (μ 0 3) (μ 0 4))) 0 4 (μ 0 4 + 1)) 0 6 (mo_sq (μ 2) (μ 0 3) (μ 0 4 + 1) - 48)) 0 4 (μ 0 4 + 1 + 1)) 0 4 = μ 0 4 + 1 + 1 := by rw [rd_u_s]
                have e3 : (rd_u (rd_u (rd_u (rd_u μ 0 5 (mo_sq (μ 2) (μ 0 3) (μ 0 4))) 0 4 (μ 0 4 + 1)) 0 6 (mo_sq (μ 2) (μ 0 3) (μ 0 4 + 1) - 48)) 0 4 (μ 0 4 + 1 + 1)) 0 3 = μ 0 3 := by rw [rd_u_j _ _ _ (by omega), rd_u_j _ _ _ (by omega), rd_u_j _ _ _ (by omega), rd_u_j _ _ _ (by omega)]
                have e2 : (rd_u (rd_u (rd_u (rd_u μ 0 5 (mo_sq (μ 2) (μ 0 3) (μ 0 4))) 0 4 (μ 0 4 + 1)) 0 6 (mo_sq (μ 2) (μ 0 3) (μ 0 4 + 1) - 48)) 0 4 (μ 0 4 + 1 + 1)) 2 = μ 2 := by rw [rd_u_ne _ _ _ (by omega), rd_u_ne _ _ _ (by omega), rd_u_ne _ _ _ (by omega), rd_u_ne _ _ _ (by omega)]
                refine rd_callV C (c_X10_sign (by omega) (by omega)) rm_X10_119 ri_X10_sign rs_X10_sign rc_X10_sign rz_X10 ⟨rp_X10_sign, rfl, rfl, by decide, by decide⟩ rfl rd_kcl10 dX10_readsMove_110 rd_c0 rd_m0 rfl (Nat.le_of_ble_eq_true rfl) (fun v1 w1 hq => ?_)
                obtain ⟨hv1, hm1⟩ := hq; rw [hv1, hm1]; clear hv1 hm1
                rw [e4, e3, e2]; clear e4 e3 e2
                refine rd_bipush C dX10_readsMove_113 (n := 48) (by decide) ⟨by decide, by decide⟩ ?_
                refine rd_bipush C dX10_readsMove_115 (n := 57) (by decide) ⟨by decide, by decide⟩ ?_
                refine rd_callS C (c_X10_in) rm_X10_22 rt_X10_in rc_X10_in rz_X10 ⟨rp_X10_in, rfl, rfl, by decide, by decide⟩ rfl dX10_readsMove_117 rfl (Nat.le_of_ble_eq_true rfl) (fun v1 w1 hq => ?_)
                rcases hq with ⟨hw_120, hv1, hm1⟩ | ⟨hw_120, hv1, hm1⟩
                · rw [hv1, hm1]; clear hv1 hm1 v1 w1
                  refine rd_if_eq C dX10_readsMove_120 (tgt := 152) (by decide) (fun h => absurd h (by decide)) (fun _ => ?_)
                  refine rd_aload_n C dX10_readsMove_123 rfl ?_
                  refine rd_bipush C dX10_readsMove_124 (n := 10) (by decide) ⟨by decide, by decide⟩ ?_
                  refine rd_aload_n C dX10_readsMove_126 rfl ?_
                  refine rd_getx C rd_g10_6 rf_X10_128 dX10_readsMove_127 rd_c0 rd_m0 rfl (z := mo_sq (μ 2) (μ 0 3) (μ 0 4 + 1) - 48) (by rw [rd_u_j _ _ _ (by omega), rd_u_s]) ?_
                  refine rd_imul C dX10_readsMove_130 (z := 10 * (mo_sq (μ 2) (μ 0 3) (μ 0 4 + 1) - 48)) rfl ⟨by omega, by omega⟩ ?_
                  refine rd_aload_n C dX10_readsMove_131 rfl ?_
                  have e4 : (rd_u (rd_u (rd_u (rd_u μ 0 5 (mo_sq (μ 2) (μ 0 3) (μ 0 4))) 0 4 (μ 0 4 + 1)) 0 6 (mo_sq (μ 2) (μ 0 3) (μ 0 4 + 1) - 48)) 0 4 (μ 0 4 + 1 + 1)) 0 4 = μ 0 4 + 1 + 1 := by rw [rd_u_s]
                  have e3 : (rd_u (rd_u (rd_u (rd_u μ 0 5 (mo_sq (μ 2) (μ 0 3) (μ 0 4))) 0 4 (μ 0 4 + 1)) 0 6 (mo_sq (μ 2) (μ 0 3) (μ 0 4 + 1) - 48)) 0 4 (μ 0 4 + 1 + 1)) 0 3 = μ 0 3 := by rw [rd_u_j _ _ _ (by omega), rd_u_j _ _ _ (by omega), rd_u_j _ _ _ (by omega), rd_u_j _ _ _ (by omega)]
                  have e2 : (rd_u (rd_u (rd_u (rd_u μ 0 5 (mo_sq (μ 2) (μ 0 3) (μ 0 4))) 0 4 (μ 0 4 + 1)) 0 6 (mo_sq (μ 2) (μ 0 3) (μ 0 4 + 1) - 48)) 0 4 (μ 0 4 + 1 + 1)) 2 = μ 2 := by rw [rd_u_ne _ _ _ (by omega), rd_u_ne _ _ _ (by omega), rd_u_ne _ _ _ (by omega), rd_u_ne _ _ _ (by omega)]
                  refine rd_callV C (c_X10_sign (by omega) (by omega)) rm_X10_119 ri_X10_sign rs_X10_sign rc_X10_sign rz_X10 ⟨rp_X10_sign, rfl, rfl, by decide, by decide⟩ rfl rd_kcl10 dX10_readsMove_132 rd_c0 rd_m0 rfl (Nat.le_of_ble_eq_true rfl) (fun v1 w1 hq => ?_)
                  obtain ⟨hv1, hm1⟩ := hq; rw [hv1, hm1]; clear hv1 hm1
                  rw [e4, e3, e2]; clear e4 e3 e2
                  refine rd_iadd C dX10_readsMove_135 (z := 10 * (mo_sq (μ 2) (μ 0 3) (μ 0 4 + 1) - 48) + (mo_sq (μ 2) (μ 0 3) (μ 0 4 + 1 + 1))) rfl ⟨by omega, by omega⟩ ?_
                  refine rd_bipush C dX10_readsMove_136 (n := 48) (by decide) ⟨by decide, by decide⟩ ?_
                  refine rd_isub C dX10_readsMove_138 (z := 10 * (mo_sq (μ 2) (μ 0 3) (μ 0 4 + 1) - 48) + (mo_sq (μ 2) (μ 0 3) (μ 0 4 + 1 + 1)) - 48) rfl ⟨by omega, by omega⟩ ?_
                  refine rd_put C rd_p10_6 rf_X10_128 dX10_readsMove_139 rd_c0 rd_m0 trivial ?_
                  refine rd_aload_n C dX10_readsMove_142 rfl ?_
                  refine rd_dup C dX10_readsMove_143 ?_
                  refine rd_getx C rd_g10_4 rf_X10_116 dX10_readsMove_144 rd_c0 rd_m0 rfl (z := μ 0 4 + 1 + 1) (by rw [rd_u_j _ _ _ (by omega), rd_u_s]) ?_
                  refine rd_iconst C dX10_readsMove_147 (n := 1) ⟨by decide, by decide⟩ ?_
                  refine rd_iadd C dX10_readsMove_148 (z := μ 0 4 + 1 + 1 + 1) rfl ⟨by omega, by omega⟩ ?_
                  refine rd_put C rd_p10_4 rf_X10_116 dX10_readsMove_149 rd_c0 rd_m0 trivial ?_
                  refine rd_iconst C dX10_readsMove_152 (n := 1) ⟨by decide, by decide⟩ ?_
                  exact rd_zret C dX10_readsMove_153 (by omega) ⟨μ 0 4 + 1 + 1 + 1, 10 * (mo_sq (μ 2) (μ 0 3) (μ 0 4 + 1) - 48) + (mo_sq (μ 2) (μ 0 3) (μ 0 4 + 1 + 1)) - 48, 1, by exact Or.inr (Or.inr (Or.inr (Or.inl ⟨by omega, ⟨by omega, by omega⟩, ⟨by omega, by omega⟩, by omega, by omega, rfl⟩))), rfl, mo_w3_e (by rw [rd_u_s]) (by rw [rd_u_j _ _ _ (by omega), rd_u_j _ _ _ (by omega), rd_u_j _ _ _ (by omega), rd_u_j _ _ _ (by omega), rd_u_j _ _ _ (by omega), rd_u_s]) (by rw [rd_u_j _ _ _ (by omega), rd_u_s]) (fun p q h => by rw [rd_u_o _ (by omega), rd_u_o _ (by omega), rd_u_o _ (by omega), rd_u_o _ (by omega), rd_u_o _ (by omega), rd_u_o _ (by omega)])⟩
                · rw [hv1, hm1]; clear hv1 hm1 v1 w1
                  refine rd_if_eq C dX10_readsMove_120 (tgt := 152) (by decide) (fun _ => ?_) (fun h => absurd h (by decide))
                  refine rd_iconst C dX10_readsMove_152 (n := 1) ⟨by decide, by decide⟩ ?_
                  exact rd_zret C dX10_readsMove_153 (by omega) ⟨μ 0 4 + 1 + 1, mo_sq (μ 2) (μ 0 3) (μ 0 4 + 1) - 48, 1, by first | exact Or.inr (Or.inl ⟨by omega, ⟨by omega, by omega⟩, by omega, by omega, rfl⟩) | exact Or.inr (Or.inr (Or.inl ⟨by omega, ⟨by omega, by omega⟩, by omega, by omega, by omega, rfl⟩)), rfl, mo_w3_e (by rw [rd_u_s]) (by rw [rd_u_j _ _ _ (by omega), rd_u_j _ _ _ (by omega), rd_u_j _ _ _ (by omega), rd_u_s]) (by rw [rd_u_j _ _ _ (by omega), rd_u_s]) (fun p q h => by rw [rd_u_o _ (by omega), rd_u_o _ (by omega), rd_u_o _ (by omega), rd_u_o _ (by omega)])⟩
            · rw [hv1, hm1]; clear hv1 hm1 v1 w1
              refine rd_if_ne C dX10_readsMove_74 (tgt := 79) (by decide) (fun h => absurd h (by decide)) (fun _ => ?_)
              refine rd_iconst C dX10_readsMove_77 (n := 0) ⟨by decide, by decide⟩ ?_
              exact rd_zret C dX10_readsMove_78 (by omega) ⟨μ 0 4 + 1, μ 0 6, 0, by first | exact Or.inr (Or.inr (Or.inr (Or.inr (Or.inl ⟨by omega, by omega, by omega, rfl⟩)))) | exact Or.inr (Or.inr (Or.inr (Or.inr (Or.inr (Or.inl ⟨by omega, by omega, by omega, rfl⟩))))), rfl, mo_w3_e (by rw [rd_u_s]) (by rw [rd_u_j _ _ _ (by omega), rd_u_s]) (by rw [rd_u_j _ _ _ (by omega), rd_u_j _ _ _ (by omega)]) (fun p q h => by rw [rd_u_o _ (by omega), rd_u_o _ (by omega)])⟩
          · rw [hv1, hm1]; clear hv1 hm1 v1 w1
            refine rd_if_eq C dX10_readsMove_58 (tgt := 77) (by decide) (fun _ => ?_) (fun h => absurd h (by decide))
            refine rd_iconst C dX10_readsMove_77 (n := 0) ⟨by decide, by decide⟩ ?_
            exact rd_zret C dX10_readsMove_78 (by omega) ⟨μ 0 4, μ 0 6, 0, by exact Or.inr (Or.inr (Or.inr (Or.inr (Or.inr (Or.inr (⟨⟨by omega, by omega, by omega, by omega⟩, rfl, rfl⟩)))))), rfl, mo_w3_e (by rw [rd_u_j _ _ _ (by omega)]) (by rw [rd_u_s]) (by rw [rd_u_j _ _ _ (by omega)]) (fun p q h => by rw [rd_u_o _ (by omega)])⟩
