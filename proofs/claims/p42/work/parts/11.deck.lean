set_option maxHeartbeats 4000000 in
set_option maxRecDepth 100000 in
theorem c_X0_find {l : Launch} {G : rd_G} {r : Nat} {μ : rd_Mem} {n : Int} : rd_M l G rd_kc 313 r yX0_find cX0_find 3 (some (.object "RevealDeck$Slide")) (rd_rm 0 0) [rd_R 2, rd_I n] μ (fun v μ' => (sp_th μ n ∧ v = some (rd_R (5 + 5 * n)) ∧ μ' = μ) ∨ (¬ sp_th μ n ∧ v = some rd_N ∧ μ' = μ)) := by
  refine rd_enter (by decide +kernel) (Nat.le_of_ble_eq_true rfl) [rd_R 2, rd_I n, rd_J] rfl (fun p e s m args below meth c C => ?_)
  refine rd_W.rng (fun hM hL _ => ?_)
  refine rd_iload_n C dX0_find_0 rfl ?_
  refine rd_if_lt C dX0_find_1 (tgt := 10) (by decide) (fun h_1 => ?_) (fun h_1 => ?_)
  · refine rd_null C dX0_find_10 ?_
    exact rd_aret C dX0_find_11 (Or.inr ⟨(fun h => by have h1 := h.1; have h2 := h.2; omega), rfl, rfl⟩)
  · refine rd_iload_n C dX0_find_4 rfl ?_
    refine rd_bipush C dX0_find_5 (n := 10) (by decide) ⟨by decide, by decide⟩ ?_
    refine rd_icmp_lt C dX0_find_7 (tgt := 12) (by decide) (fun h_7 => ?_) (fun h_7 => ?_)
    · refine rd_aload_n C dX0_find_12 rfl ?_
      refine rd_get C rd_g0_2 rf_X0_17 dX0_find_13 rd_b2 rd_k2 (x := rd_R (4)) rfl (fun _ => trivial) ?_
      refine rd_iload_n C dX0_find_16 rfl ?_
      have hS_17 := rd_sl1 (i := n) (by omega) (by omega)
      refine rd_aald16 C dX0_find_17 rd_b4 rd_k4 ⟨by omega, by omega⟩ (k' := 5 + 5 * n) (by omega) ?_
      refine rd_astore_n C dX0_find_18 (by decide) (L' := [rd_R 2, rd_I n, rd_R (5 + 5 * n)]) rfl ?_
      refine rd_aload_n C dX0_find_19 rfl ?_
      refine rd_get C rd_g7_0 rf_X0_39 dX0_find_20 hS_17.1 hS_17.2.2.2.2.2.1 (x := rd_I (μ (5 + 5 * n) 0)) rfl (fun h => h _ _) ?_
      refine rd_if_eq C dX0_find_23 (tgt := 30) (by decide) (fun h_23 => ?_) (fun h_23 => ?_)
      · refine rd_null C dX0_find_30 ?_
        exact rd_aret C dX0_find_31 (Or.inr ⟨(fun h => by have h1 := h.1; have h2 := h.2; omega), rfl, rfl⟩)
      · refine rd_aload_n C dX0_find_26 rfl ?_
        refine rd_goto C dX0_find_27 (tgt := 31) (by decide) ?_
        exact rd_aret C dX0_find_31 (Or.inl ⟨⟨⟨by omega, by omega⟩, h_23⟩, rfl, rfl⟩)
    · refine rd_null C dX0_find_10 ?_
      exact rd_aret C dX0_find_11 (Or.inr ⟨(fun h => by have h1 := h.1; have h2 := h.2; omega), rfl, rfl⟩)
set_option maxHeartbeats 4000000 in
set_option maxRecDepth 100000 in
theorem c_X0_lowestFree {l : Launch} {G : rd_G} {r : Nat} {μ : rd_Mem}  : rd_M l G rd_kc 313 r yX0_lowestFree cX0_lowestFree 2 (some .int) (rd_rm 0 0) [rd_R 2] μ (fun v μ' => v = some (rd_I (sp_ff (fun i => μ (5 + 5 * i) 0 = 0) 10 0)) ∧ μ' = μ) := by
  refine rd_enter (by decide +kernel) (Nat.le_of_ble_eq_true rfl) [rd_R 2, rd_J] rfl (fun p e s m args below meth c C => ?_)
  refine rd_W.rng (fun hM hL _ => ?_)
  refine rd_iconst C dX0_lowestFree_0 (n := 0) ⟨by decide, by decide⟩ ?_
  refine rd_istore_n C dX0_lowestFree_1 (by decide) (L' := [rd_R 2, rd_I 0]) rfl ?_
  have lp2 : ∀ (n : Nat) (n' : Nat) (k : Int), (n' < n) → (0 ≤ k) → (k + n' = 10) → (sp_ff (fun i => μ (5 + 5 * i) 0 = 0) n' k = sp_ff (fun i => μ (5 + 5 * i) 0 = 0) 10 0) → rd_W p l e (rd_rm 0 0) s m args below meth c (MQ below (rd_Qc G rd_kc 313 r (fun v μ' => v = some (rd_I (sp_ff (fun i => μ (5 + 5 * i) 0 = 0) 10 0)) ∧ μ' = μ)) args s 0 0 (rd_A r 313)) 2 G rd_kc 313 r 2 [rd_R 2, rd_I k] [] μ := by
    intro n
    induction n with
    | zero => intro n' k  h1 h2 h3 hF; exfalso; omega
    | succ n ih =>
      intro n' k  h1 h2 h3 hF
      refine rd_iload_n C dX0_lowestFree_2 rfl ?_
      refine rd_bipush C dX0_lowestFree_3 (n := 10) (by decide) ⟨by decide, by decide⟩ ?_
      refine rd_icmp_ge C dX0_lowestFree_5 (tgt := 28) (by decide) (fun h_5 => ?_) (fun h_5 => ?_)
      · refine rd_iconst C dX0_lowestFree_28 (n := -1) ⟨by decide, by decide⟩ ?_
        exact rd_iret C dX0_lowestFree_29 ⟨by rw [← hF, show n' = 0 by omega]; rfl, rfl⟩
      · refine rd_aload_n C dX0_lowestFree_8 rfl ?_
        refine rd_get C rd_g0_2 rf_X0_17 dX0_lowestFree_9 rd_b2 rd_k2 (x := rd_R (4)) rfl (fun _ => trivial) ?_
        refine rd_iload_n C dX0_lowestFree_12 rfl ?_
        have hS_13 := rd_sl1 (i := k) (by omega) (by omega)
        refine rd_aald16 C dX0_lowestFree_13 rd_b4 rd_k4 ⟨by omega, by omega⟩ (k' := 5 + 5 * k) (by omega) ?_
        refine rd_get C rd_g7_0 rf_X0_39 dX0_lowestFree_14 hS_13.1 hS_13.2.2.2.2.2.1 (x := rd_I (μ (5 + 5 * k) 0)) rfl (fun h => h _ _) ?_
        refine rd_if_ne C dX0_lowestFree_17 (tgt := 22) (by decide) (fun h_17 => ?_) (fun h_17 => ?_)
        · refine rd_iinc C dX0_lowestFree_22 (by decide) rfl ⟨by omega, by omega⟩ (L' := [rd_R 2, rd_I (k + 1)]) rfl ?_
          refine rd_goto C dX0_lowestFree_25 (tgt := 2) (by decide) ?_
          exact ih (n' - 1) (k + 1) (by omega) (by omega) (by omega) (by rw [← hF, sp_ff_f (n := n') (a := k) (by omega) h_17])
        · refine rd_iload_n C dX0_lowestFree_20 rfl ?_
          exact rd_iret C dX0_lowestFree_21 ⟨by rw [← hF, sp_ff_t (n := n') (a := k) (by omega) h_17], rfl⟩
  exact lp2 11 10 0 (by omega) (by omega) (by omega) rfl
set_option maxHeartbeats 4000000 in
set_option maxRecDepth 100000 in
theorem c_X0_placeOf {l : Launch} {G : rd_G} {r : Nat} {μ : rd_Mem} {x : Int} (hc : sp_cnt μ) : rd_M l G rd_kc 313 r yX0_placeOf cX0_placeOf 3 (some .int) (rd_rm 0 0) [rd_R 2, rd_I x] μ (fun v μ' => v = some (rd_I (sp_pl μ x)) ∧ μ' = μ) := by
  refine rd_enter (by decide +kernel) (Nat.le_of_ble_eq_true rfl) [rd_R 2, rd_I x, rd_J] rfl (fun p e s m args below meth c C => ?_)
  refine rd_W.rng (fun hM hL _ => ?_)
  have hc1 := hc.1
  have hc2 := hc.2
  refine rd_iconst C dX0_placeOf_0 (n := 0) ⟨by decide, by decide⟩ ?_
  refine rd_istore_n C dX0_placeOf_1 (by decide) (L' := [rd_R 2, rd_I x, rd_I 0]) rfl ?_
  have lp2 : ∀ (n : Nat) (n' : Nat) (k : Int), (n' < n) → (0 ≤ k) → (k + n' = μ 2 0) → (sp_ff (fun i => μ 3 i = x) n' k = sp_pl μ x) → rd_W p l e (rd_rm 0 0) s m args below meth c (MQ below (rd_Qc G rd_kc 313 r (fun v μ' => v = some (rd_I (sp_pl μ x)) ∧ μ' = μ)) args s 0 0 (rd_A r 313)) 3 G rd_kc 313 r 2 [rd_R 2, rd_I x, rd_I k] [] μ := by
    intro n
    induction n with
    | zero => intro n' k  h1 h2 h3 hF; exfalso; omega
    | succ n ih =>
      intro n' k  h1 h2 h3 hF
      have hb := hc.2
      refine rd_iload_n C dX0_placeOf_2 rfl ?_
      refine rd_aload_n C dX0_placeOf_3 rfl ?_
      refine rd_get C rd_g0_0 rf_X0_25 dX0_placeOf_4 rd_b2 rd_k2 (x := rd_I (μ 2 0)) rfl (fun h => h _ _) ?_
      refine rd_icmp_ge C dX0_placeOf_7 (tgt := 28) (by decide) (fun h_7 => ?_) (fun h_7 => ?_)
      · refine rd_iconst C dX0_placeOf_28 (n := -1) ⟨by decide, by decide⟩ ?_
        exact rd_iret C dX0_placeOf_29 ⟨by rw [← hF, show n' = 0 by omega]; rfl, rfl⟩
      · refine rd_aload_n C dX0_placeOf_10 rfl ?_
        refine rd_get C rd_g0_1 rf_X0_9 dX0_placeOf_11 rd_b2 rd_k2 (x := rd_R (3)) rfl (fun _ => trivial) ?_
        refine rd_iload_n C dX0_placeOf_14 rfl ?_
        refine rd_ialdx C rd_ai11 dX0_placeOf_15 rd_b3 rd_k3 ⟨by omega, by omega⟩ (z := μ 3 k) rfl ?_
        refine rd_iload_n C dX0_placeOf_16 rfl ?_
        refine rd_icmp_ne C dX0_placeOf_17 (tgt := 22) (by decide) (fun h_17 => ?_) (fun h_17 => ?_)
        · refine rd_iinc C dX0_placeOf_22 (by decide) rfl ⟨by omega, by omega⟩ (L' := [rd_R 2, rd_I x, rd_I (k + 1)]) rfl ?_
          refine rd_goto C dX0_placeOf_25 (tgt := 2) (by decide) ?_
          exact ih (n' - 1) (k + 1) (by omega) (by omega) (by omega) (by rw [← hF, sp_ff_f (n := n') (a := k) (by omega) h_17])
        · refine rd_iload_n C dX0_placeOf_20 rfl ?_
          exact rd_iret C dX0_placeOf_21 ⟨by rw [← hF, sp_ff_t (n := n') (a := k) (by omega) h_17], rfl⟩
  exact lp2 ((μ 2 0).toNat + 1) (μ 2 0).toNat 0 (by omega) (by omega) (by omega) rfl
set_option maxHeartbeats 4000000 in
set_option maxRecDepth 100000 in
theorem c_X0_numberAt {l : Launch} {G : rd_G} {r : Nat} {μ : rd_Mem} {k : Int} (hc : sp_cnt μ) : rd_M l G rd_kc 313 r yX0_numberAt cX0_numberAt 2 (some .int) (rd_rm 0 0) [rd_R 2, rd_I k] μ (fun v μ' => v = some (rd_I (sp_if (0 ≤ k ∧ k < μ 2 0) (μ 3 k) (-1))) ∧ μ' = μ) := by
  refine rd_enter (by decide +kernel) (Nat.le_of_ble_eq_true rfl) [rd_R 2, rd_I k] rfl (fun p e s m args below meth c C => ?_)
  refine rd_W.rng (fun hM hL _ => ?_)
  have hc1 := hc.1
  have hc2 := hc.2
  refine rd_iload_n C dX0_numberAt_0 rfl ?_
  refine rd_if_lt C dX0_numberAt_1 (tgt := 21) (by decide) (fun h_1 => ?_) (fun h_1 => ?_)
  · refine rd_iconst C dX0_numberAt_21 (n := -1) ⟨by decide, by decide⟩ ?_
    exact rd_iret C dX0_numberAt_22 ⟨by first | rw [sp_ift (by omega)] | rw [sp_iff (by omega)], rfl⟩
  · refine rd_iload_n C dX0_numberAt_4 rfl ?_
    refine rd_aload_n C dX0_numberAt_5 rfl ?_
    refine rd_get C rd_g0_0 rf_X0_25 dX0_numberAt_6 rd_b2 rd_k2 (x := rd_I (μ 2 0)) rfl (fun h => h _ _) ?_
    refine rd_icmp_ge C dX0_numberAt_9 (tgt := 21) (by decide) (fun h_9 => ?_) (fun h_9 => ?_)
    · refine rd_iconst C dX0_numberAt_21 (n := -1) ⟨by decide, by decide⟩ ?_
      exact rd_iret C dX0_numberAt_22 ⟨by first | rw [sp_ift (by omega)] | rw [sp_iff (by omega)], rfl⟩
    · refine rd_aload_n C dX0_numberAt_12 rfl ?_
      refine rd_get C rd_g0_1 rf_X0_9 dX0_numberAt_13 rd_b2 rd_k2 (x := rd_R (3)) rfl (fun _ => trivial) ?_
      refine rd_iload_n C dX0_numberAt_16 rfl ?_
      refine rd_ialdx C rd_ai11 dX0_numberAt_17 rd_b3 rd_k3 ⟨by omega, by omega⟩ (z := μ 3 k) rfl ?_
      refine rd_goto C dX0_numberAt_18 (tgt := 22) (by decide) ?_
      exact rd_iret C dX0_numberAt_22 ⟨by first | rw [sp_ift (by omega)] | rw [sp_iff (by omega)], rfl⟩
set_option maxHeartbeats 4000000 in
set_option maxRecDepth 100000 in
theorem c_X0_nextShown {l : Launch} {G : rd_G} {r : Nat} {μ : rd_Mem} {a : Int} (hc : sp_cnt μ) (ha : -1 ≤ a) (ha2 : a ≤ 10) : rd_M l G rd_kc 313 r yX0_nextShown cX0_nextShown 5 (some .int) (rd_rm 1 22) [rd_R 2, rd_I a] μ (fun v μ' => v = some (rd_I (sp_next μ (a + 1))) ∧ μ' = μ) := by
  refine rd_enter (by decide +kernel) (Nat.le_of_ble_eq_true rfl) [rd_R 2, rd_I a, rd_J, rd_J, rd_J] rfl (fun p e s m args below meth c C => ?_)
  refine rd_W.rng (fun hM hL _ => ?_)
  have hc1 := hc.1
  have hc2 := hc.2
  refine rd_iload_n C dX0_nextShown_0 rfl ?_
  refine rd_iconst C dX0_nextShown_1 (n := 1) ⟨by decide, by decide⟩ ?_
  refine rd_iadd C dX0_nextShown_2 (z := a + 1) rfl ⟨by omega, by omega⟩ ?_
  refine rd_istore_n C dX0_nextShown_3 (by decide) (L' := [rd_R 2, rd_I a, rd_I (a + 1), rd_J, rd_J]) rfl ?_
  have lp4 : ∀ (n : Nat) (n' : Nat) (k : Int) (j3 j4 : rd_X), (n' < n) → (0 ≤ k) → (k + n' = μ 2 0 ∨ (n' = 0 ∧ μ 2 0 < k ∧ k ≤ 11)) → (sp_nx (μ 3) (sp_sh μ) n' k = sp_next μ (a + 1)) → rd_W p l e (rd_rm 1 22) s m args below meth c (MQ below (rd_Qc G rd_kc 313 r (fun v μ' => v = some (rd_I (sp_next μ (a + 1))) ∧ μ' = μ)) args s 0 0 (rd_A r 313)) 5 G rd_kc 313 r 4 [rd_R 2, rd_I a, rd_I k, j3, j4] [] μ := by
    intro n
    induction n with
    | zero => intro n' k j3 j4  h1 h2 h3 hF; exfalso; omega
    | succ n ih =>
      intro n' k j3 j4  h1 h2 h3 hF
      refine rd_iload_n C dX0_nextShown_4 rfl ?_
      refine rd_aload_n C dX0_nextShown_5 rfl ?_
      refine rd_get C rd_g0_0 rf_X0_25 dX0_nextShown_6 rd_b2 rd_k2 (x := rd_I (μ 2 0)) rfl (fun h => h _ _) ?_
      refine rd_icmp_ge C dX0_nextShown_9 (tgt := 46) (by decide) (fun h_9 => ?_) (fun h_9 => ?_)
      · refine rd_iconst C dX0_nextShown_46 (n := -1) ⟨by decide, by decide⟩ ?_
        exact rd_iret C dX0_nextShown_47 ⟨by rw [← hF, show n' = 0 by omega]; rfl, rfl⟩
      · refine rd_aload_n C dX0_nextShown_12 rfl ?_
        refine rd_iload_n C dX0_nextShown_13 rfl ?_
        refine rd_callV C (c_X0_numberAt (k := k) hc) rm_X0_66 ri_X0_numberAt rs_X0_numberAt rc_X0_numberAt rz_X0 ⟨rp_X0_numberAt, rfl, rfl, by decide, by decide⟩ rfl rd_kcl0 dX0_nextShown_14 rd_b2 rd_k2 rfl (Nat.le_of_ble_eq_true rfl) (fun v1 w1 hq => ?_)
        obtain ⟨hv1, hm1⟩ := hq; rw [hv1, hm1, sp_ift (by omega)]; clear hv1 hm1 v1 w1
        refine rd_istore_n C dX0_nextShown_17 (by decide) (L' := [rd_R 2, rd_I a, rd_I k, rd_I (μ 3 k), j4]) rfl ?_
        refine rd_aload_n C dX0_nextShown_18 rfl ?_
        refine rd_iload_n C dX0_nextShown_19 rfl ?_
        refine rd_callV C (c_X0_find) rm_X0_51 ri_X0_find rs_X0_find rc_X0_find rz_X0 ⟨rp_X0_find, rfl, rfl, by decide, by decide⟩ rfl rd_kcl0 dX0_nextShown_20 rd_b2 rd_k2 rfl (Nat.le_of_ble_eq_true rfl) (fun v1 w1 hq => ?_)
        rcases hq with ⟨hw_23, hv1, hm1⟩ | ⟨hw_23, hv1, hm1⟩
        · rw [hv1, hm1]; clear hv1 hm1 v1 w1
          have hS_hw_23 := rd_sl1 hw_23.1.1 hw_23.1.2
          refine rd_astore C dX0_nextShown_23 (by decide) (L' := [rd_R 2, rd_I a, rd_I k, rd_I (μ 3 k), rd_R (5 + 5 * (μ 3 k))]) rfl ?_
          refine rd_aload C dX0_nextShown_25 rfl ?_
          refine rd_ifnull_r C dX0_nextShown_27 ?_
          refine rd_aload C dX0_nextShown_30 rfl ?_
          refine rd_get C rd_g7_1 rf_X0_69 dX0_nextShown_32 hS_hw_23.1 hS_hw_23.2.2.2.2.2.1 (x := rd_I (μ (5 + 5 * (μ 3 k)) 1)) rfl (fun h => h _ _) ?_
          refine rd_if_ne C dX0_nextShown_35 (tgt := 40) (by decide) (fun h_35 => ?_) (fun h_35 => ?_)
          · refine rd_iinc C dX0_nextShown_40 (by decide) rfl ⟨by omega, by omega⟩ (L' := [rd_R 2, rd_I a, rd_I (k + 1), rd_I (μ 3 k), rd_R (5 + 5 * (μ 3 k))]) rfl ?_
            refine rd_goto C dX0_nextShown_43 (tgt := 4) (by decide) ?_
            exact ih (n' - 1) (k + 1) _ _ (by omega) (by omega) (by omega) (by rw [← hF, sp_nx_f (n := n') (a := k) (by omega) (by first | (intro h; exact hw_23 h.1) | (intro h; exact absurd h.2 h_35))])
          · refine rd_iload_n C dX0_nextShown_38 rfl ?_
            exact rd_iret C dX0_nextShown_39 ⟨by rw [← hF, sp_nx_t (n := n') (a := k) (by omega) ⟨hw_23, h_35⟩], rfl⟩
        · rw [hv1, hm1]; clear hv1 hm1 v1 w1
          refine rd_astoreN C dX0_nextShown_23 (by decide) (L' := [rd_R 2, rd_I a, rd_I k, rd_I (μ 3 k), rd_N]) rfl ?_
          refine rd_aload C dX0_nextShown_25 rfl ?_
          refine rd_ifnull_n C dX0_nextShown_27 (tgt := 40) (by decide) ?_
          refine rd_iinc C dX0_nextShown_40 (by decide) rfl ⟨by omega, by omega⟩ (L' := [rd_R 2, rd_I a, rd_I (k + 1), rd_I (μ 3 k), rd_N]) rfl ?_
          refine rd_goto C dX0_nextShown_43 (tgt := 4) (by decide) ?_
          exact ih (n' - 1) (k + 1) _ _ (by omega) (by omega) (by omega) (by rw [← hF, sp_nx_f (n := n') (a := k) (by omega) (by first | (intro h; exact hw_23 h.1) | (intro h; exact absurd h.2 h_35))])
  exact lp4 ((μ 2 0 - (a + 1)).toNat + 1) (μ 2 0 - (a + 1)).toNat (a + 1) rd_J rd_J (by omega) (by omega) (by omega) rfl
def rd_pio (μ : rd_Mem) (p k c x : Int) : rd_Mem := fun a b => if a = 3 ∧ (k < b ∧ b ≤ c) then μ 3 (b - 1) else μ a b
def rd_ins (μ : rd_Mem) (p x : Int) : rd_Mem := rd_u (rd_u (rd_pio μ p p (μ 2 0) x) 3 p x) 2 0 (μ 2 0 + 1)
set_option maxHeartbeats 4000000 in
set_option maxRecDepth 100000 in
theorem c_X0_putInOrder {l : Launch} {G : rd_G} {r : Nat} {μ : rd_Mem} {x p0 : Int} (h0 : 0 ≤ p0) (hp : p0 ≤ μ 2 0) (hc : μ 2 0 < 10) : rd_M l G rd_kc 313 r yX0_putInOrder cX0_putInOrder 4 none (rd_rm 1 22) [rd_R 2, rd_I x, rd_I p0] μ (fun v μ' => v = none ∧ μ' = rd_ins μ p0 x) := by
  refine rd_enter (by decide +kernel) (Nat.le_of_ble_eq_true rfl) [rd_R 2, rd_I x, rd_I p0, rd_J] rfl (fun p e s m args below meth c C => ?_)
  refine rd_W.rng (fun hM hL _ => ?_)
  refine rd_aload_n C dX0_putInOrder_0 rfl ?_
  refine rd_get C rd_g0_0 rf_X0_25 dX0_putInOrder_1 rd_b2 rd_k2 (x := rd_I (μ 2 0)) rfl (fun h => h _ _) ?_
  refine rd_bipush C dX0_putInOrder_4 (n := 10) (by decide) ⟨by decide, by decide⟩ ?_
  refine rd_icmp_ge C dX0_putInOrder_6 (tgt := 21) (by decide) (fun h_6 => ?_) (fun h_6 => ?_)
  · exfalso; omega
  · refine rd_iload_n C dX0_putInOrder_9 rfl ?_
    refine rd_iconst C dX0_putInOrder_10 (n := 0) ⟨by decide, by decide⟩ ?_
    refine rd_aload_n C dX0_putInOrder_11 rfl ?_
    refine rd_get C rd_g0_0 rf_X0_25 dX0_putInOrder_12 rd_b2 rd_k2 (x := rd_I (μ 2 0)) rfl (fun h => h _ _) ?_
    refine rd_callSN C (c_X9_isWithin) rx_X0_43 rt_X9_isWithin rc_X9_isWithin rz_X9 ⟨rp_X9_isWithin, rfl, rfl, by decide, by decide⟩ rfl dX0_putInOrder_15 rfl (Nat.le_of_ble_eq_true rfl) (fun v1 w1 hq => ?_)
    rcases hq with ⟨hw_18, hv1, hm1⟩ | ⟨hw_18, hv1, hm1⟩
    rotate_left
    · exfalso; omega
    rw [hv1, hm1]; clear hv1 hm1 v1 w1
    refine rd_if_ne C dX0_putInOrder_18 (tgt := 22) (by decide) (fun _ => ?_) (fun h => absurd h (by decide))
    refine rd_aload_n C dX0_putInOrder_22 rfl ?_
    refine rd_get C rd_g0_0 rf_X0_25 dX0_putInOrder_23 rd_b2 rd_k2 (x := rd_I (μ 2 0)) rfl (fun h => h _ _) ?_
    refine rd_istore_n C dX0_putInOrder_26 (by decide) (L' := [rd_R 2, rd_I x, rd_I p0, rd_I (μ 2 0)]) rfl ?_
    have lp27 : ∀ (n : Nat) (k : Int) (μ1 : rd_Mem), (p0 ≤ k) → (k ≤ μ 2 0) → (k < p0 + n) → (μ1 = rd_pio μ p0 k (μ 2 0) x) → rd_W p l e (rd_rm 1 22) s m args below meth c (MQ below (rd_Qc G rd_kc 313 r (fun v μ' => v = none ∧ μ' = rd_ins μ p0 x)) args s 0 0 (rd_A r 313)) 4 G rd_kc 313 r 27 [rd_R 2, rd_I x, rd_I p0, rd_I k] [] μ1 := by
      intro n
      induction n with
      | zero => intro k μ1  h1 h2 h3 hm; exfalso; omega
      | succ n ih =>
        intro k μ1  h1 h2 h3 hm
        have hc3 : μ1 2 0 = μ 2 0 := by rw [hm]; simp [rd_pio]
        refine rd_iload_n C dX0_putInOrder_27 rfl ?_
        refine rd_iload_n C dX0_putInOrder_28 rfl ?_
        refine rd_icmp_le C dX0_putInOrder_29 (tgt := 52) (by decide) (fun h_29 => ?_) (fun h_29 => ?_)
        · refine rd_aload_n C dX0_putInOrder_52 rfl ?_
          refine rd_get C rd_g0_1 rf_X0_9 dX0_putInOrder_53 rd_b2 rd_k2 (x := rd_R (3)) rfl (fun _ => trivial) ?_
          refine rd_iload_n C dX0_putInOrder_56 rfl ?_
          refine rd_iload_n C dX0_putInOrder_57 rfl ?_
          refine rd_iast C rd_ai11 dX0_putInOrder_58 rd_b3 rd_k3 ⟨by omega, by omega⟩ ?_
          refine rd_aload_n C dX0_putInOrder_59 rfl ?_
          refine rd_dup C dX0_putInOrder_60 ?_
          refine rd_getx C rd_g0_0 rf_X0_25 dX0_putInOrder_61 rd_b2 rd_k2 rfl (z := μ1 2 0) (by rw [rd_u_k _ _ _ (by omega)]) ?_
          refine rd_iconst C dX0_putInOrder_64 (n := 1) ⟨by decide, by decide⟩ ?_
          refine rd_iadd C dX0_putInOrder_65 (z := μ1 2 0 + 1) rfl ⟨by omega, by omega⟩ ?_
          refine rd_put C rd_p0_0 rf_X0_25 dX0_putInOrder_66 rd_b2 rd_k2 trivial ?_
          exact rd_vret C dX0_putInOrder_69 ⟨rfl, by rw [hm, show k = p0 by omega]; simp only [rd_ins]; rw [show rd_pio μ p0 p0 (μ 2 0) x 2 0 = μ 2 0 by simp [rd_pio]]⟩
        · refine rd_aload_n C dX0_putInOrder_32 rfl ?_
          refine rd_get C rd_g0_1 rf_X0_9 dX0_putInOrder_33 rd_b2 rd_k2 (x := rd_R (3)) rfl (fun _ => trivial) ?_
          refine rd_iload_n C dX0_putInOrder_36 rfl ?_
          refine rd_aload_n C dX0_putInOrder_37 rfl ?_
          refine rd_get C rd_g0_1 rf_X0_9 dX0_putInOrder_38 rd_b2 rd_k2 (x := rd_R (3)) rfl (fun _ => trivial) ?_
          refine rd_iload_n C dX0_putInOrder_41 rfl ?_
          refine rd_iconst C dX0_putInOrder_42 (n := 1) ⟨by decide, by decide⟩ ?_
          refine rd_isub C dX0_putInOrder_43 (z := k - 1) rfl ⟨by omega, by omega⟩ ?_
          refine rd_ialdx C rd_ai11 dX0_putInOrder_44 rd_b3 rd_k3 ⟨by omega, by omega⟩ (z := μ1 3 (k - 1)) rfl ?_
          refine rd_iast C rd_ai11 dX0_putInOrder_45 rd_b3 rd_k3 ⟨by omega, by omega⟩ ?_
          refine rd_iinc C dX0_putInOrder_46 (by decide) rfl ⟨by omega, by omega⟩ (L' := [rd_R 2, rd_I x, rd_I p0, rd_I (k + (-1))]) rfl ?_
          refine rd_goto C dX0_putInOrder_49 (tgt := 27) (by decide) ?_
          exact ih (k + -1) _ (by omega) (by omega) (by omega) (by rw [hm]; funext a b; simp only [rd_u, rd_pio]; (repeat' split) <;> first | rfl | (exfalso; omega) | grind)
    exact lp27 ((μ 2 0 - p0).toNat + 1) (μ 2 0) _ (by omega) (by omega) (by omega) (by funext a b; simp only [rd_pio]; (repeat' split) <;> first | rfl | (exfalso; omega))
def rd_dfk (μ : rd_Mem) (p k c : Int) : rd_Mem := fun a b => if a = 2 ∧ b = 0 then c - 1 else if a = 3 ∧ (p ≤ b ∧ b < k) then μ 3 (b + 1) else μ a b
def rd_dfo (μ : rd_Mem) (p : Int) : rd_Mem := rd_dfk μ p (μ 2 0 - 1) (μ 2 0)
set_option maxHeartbeats 4000000 in
set_option maxRecDepth 100000 in
theorem c_X0_dropFromOrder {l : Launch} {G : rd_G} {r : Nat} {μ : rd_Mem} {x : Int} (hc : sp_cnt μ) (h0 : 0 ≤ sp_pl μ x) (h1 : sp_pl μ x < μ 2 0) : rd_M l G rd_kc 313 r yX0_dropFromOrder cX0_dropFromOrder 4 none (rd_rm 1 22) [rd_R 2, rd_I x] μ (fun v μ' => v = none ∧ μ' = rd_dfo μ (sp_pl μ x)) := by
  refine rd_enter (by decide +kernel) (Nat.le_of_ble_eq_true rfl) [rd_R 2, rd_I x, rd_J, rd_J] rfl (fun p e s m args below meth c C => ?_)
  refine rd_W.rng (fun hM hL _ => ?_)
  have hc1 := hc.1
  have hc2 := hc.2
  refine rd_aload_n C dX0_dropFromOrder_0 rfl ?_
  refine rd_iload_n C dX0_dropFromOrder_1 rfl ?_
  refine rd_callV C (c_X0_placeOf hc) rm_X0_62 ri_X0_placeOf rs_X0_placeOf rc_X0_placeOf rz_X0 ⟨rp_X0_placeOf, rfl, rfl, by decide, by decide⟩ rfl rd_kcl0 dX0_dropFromOrder_2 rd_b2 rd_k2 rfl (Nat.le_of_ble_eq_true rfl) (fun v1 w1 hq => ?_)
  obtain ⟨hv1, hm1⟩ := hq; rw [hv1, hm1]; clear hv1 hm1 v1 w1
  refine rd_istore_n C dX0_dropFromOrder_5 (by decide) (L' := [rd_R 2, rd_I x, rd_I (sp_pl μ x), rd_J]) rfl ?_
  refine rd_iload_n C dX0_dropFromOrder_6 rfl ?_
  refine rd_iconst C dX0_dropFromOrder_7 (n := -1) ⟨by decide, by decide⟩ ?_
  refine rd_icmp_ne C dX0_dropFromOrder_8 (tgt := 12) (by decide) (fun h_8 => ?_) (fun h_8 => ?_)
  · refine rd_aload_n C dX0_dropFromOrder_12 rfl ?_
    refine rd_dup C dX0_dropFromOrder_13 ?_
    refine rd_get C rd_g0_0 rf_X0_25 dX0_dropFromOrder_14 rd_b2 rd_k2 (x := rd_I (μ 2 0)) rfl (fun h => h _ _) ?_
    refine rd_iconst C dX0_dropFromOrder_17 (n := 1) ⟨by decide, by decide⟩ ?_
    refine rd_isub C dX0_dropFromOrder_18 (z := μ 2 0 - 1) rfl ⟨by omega, by omega⟩ ?_
    refine rd_put C rd_p0_0 rf_X0_25 dX0_dropFromOrder_19 rd_b2 rd_k2 trivial ?_
    refine rd_iload_n C dX0_dropFromOrder_22 rfl ?_
    refine rd_istore_n C dX0_dropFromOrder_23 (by decide) (L' := [rd_R 2, rd_I x, rd_I (sp_pl μ x), rd_I (sp_pl μ x)]) rfl ?_
    have lp24 : ∀ (n : Nat) (k : Int) (μ1 : rd_Mem), (sp_pl μ x ≤ k) → (k ≤ μ 2 0 - 1) → (μ 2 0 - 1 < k + n) → (μ1 = rd_dfk μ (sp_pl μ x) k (μ 2 0)) → rd_W p l e (rd_rm 1 22) s m args below meth c (MQ below (rd_Qc G rd_kc 313 r (fun v μ' => v = none ∧ μ' = rd_dfo μ (sp_pl μ x))) args s 0 0 (rd_A r 313)) 4 G rd_kc 313 r 24 [rd_R 2, rd_I x, rd_I (sp_pl μ x), rd_I k] [] μ1 := by
      intro n
      induction n with
      | zero => intro k μ1  h1 h2 h3 hm; exfalso; omega
      | succ n ih =>
        intro k μ1  h1 h2 h3 hm
        have hc3 : μ1 2 0 = μ 2 0 - 1 := by rw [hm]; simp [rd_dfk]
        refine rd_iload_n C dX0_dropFromOrder_24 rfl ?_
        refine rd_aload_n C dX0_dropFromOrder_25 rfl ?_
        refine rd_get C rd_g0_0 rf_X0_25 dX0_dropFromOrder_26 rd_b2 rd_k2 (x := rd_I (μ1 2 0)) rfl (fun h => h _ _) ?_
        refine rd_icmp_ge C dX0_dropFromOrder_29 (tgt := 52) (by decide) (fun h_29 => ?_) (fun h_29 => ?_)
        · exact rd_vret C dX0_dropFromOrder_52 ⟨rfl, by rw [hm, show k = μ 2 0 - 1 by omega]; rfl⟩
        · refine rd_aload_n C dX0_dropFromOrder_32 rfl ?_
          refine rd_get C rd_g0_1 rf_X0_9 dX0_dropFromOrder_33 rd_b2 rd_k2 (x := rd_R (3)) rfl (fun _ => trivial) ?_
          refine rd_iload_n C dX0_dropFromOrder_36 rfl ?_
          refine rd_aload_n C dX0_dropFromOrder_37 rfl ?_
          refine rd_get C rd_g0_1 rf_X0_9 dX0_dropFromOrder_38 rd_b2 rd_k2 (x := rd_R (3)) rfl (fun _ => trivial) ?_
          refine rd_iload_n C dX0_dropFromOrder_41 rfl ?_
          refine rd_iconst C dX0_dropFromOrder_42 (n := 1) ⟨by decide, by decide⟩ ?_
          refine rd_iadd C dX0_dropFromOrder_43 (z := k + 1) rfl ⟨by omega, by omega⟩ ?_
          refine rd_ialdx C rd_ai11 dX0_dropFromOrder_44 rd_b3 rd_k3 ⟨by omega, by omega⟩ (z := μ1 3 (k + 1)) rfl ?_
          refine rd_iast C rd_ai11 dX0_dropFromOrder_45 rd_b3 rd_k3 ⟨by omega, by omega⟩ ?_
          refine rd_iinc C dX0_dropFromOrder_46 (by decide) rfl ⟨by omega, by omega⟩ (L' := [rd_R 2, rd_I x, rd_I (sp_pl μ x), rd_I (k + 1)]) rfl ?_
          refine rd_goto C dX0_dropFromOrder_49 (tgt := 24) (by decide) ?_
          exact ih (k + 1) _ (by omega) (by omega) (by omega) (by rw [hm]; funext a b; simp only [rd_u, rd_dfk]; (repeat' split) <;> first | rfl | (exfalso; omega) | grind)
    exact lp24 (μ 2 0).toNat (sp_pl μ x) _ (by omega) (by omega) (by omega) (by funext a b; simp only [rd_u, rd_dfk]; (repeat' split) <;> first | rfl | (exfalso; omega) | grind)
  · exfalso; omega
set_option maxHeartbeats 4000000 in
set_option maxRecDepth 100000 in
theorem c_X0_putSlide {l : Launch} {G : rd_G} {r : Nat} {μ : rd_Mem} {x : Int} (h0 : 0 ≤ x) (h9 : x < 10) (hc0 : 0 ≤ μ 2 0) (hc : μ 2 0 < 10) : rd_M l G rd_kc 313 r yX0_putSlide cX0_putSlide 2 none (rd_rm 2 45) [rd_R 2, rd_I x] μ (fun v μ' => v = none ∧ μ' = rd_ins (rd_u μ (5 + 5 * x) 0 1) (μ 2 0) x) := by
  refine rd_enter (by decide +kernel) (Nat.le_of_ble_eq_true rfl) [rd_R 2, rd_I x] rfl (fun p e s m args below meth c C => ?_)
  refine rd_W.rng (fun hM hL _ => ?_)
  refine rd_iload_n C dX0_putSlide_0 rfl ?_
  refine rd_iconst C dX0_putSlide_1 (n := 0) ⟨by decide, by decide⟩ ?_
  refine rd_bipush C dX0_putSlide_2 (n := 9) (by decide) ⟨by decide, by decide⟩ ?_
  refine rd_callSN C (c_X9_isWithin) rx_X0_43 rt_X9_isWithin rc_X9_isWithin rz_X9 ⟨rp_X9_isWithin, rfl, rfl, by decide, by decide⟩ rfl dX0_putSlide_4 rfl (Nat.le_of_ble_eq_true rfl) (fun v1 w1 hq => ?_)
  rcases hq with ⟨hw_7, hv1, hm1⟩ | ⟨hw_7, hv1, hm1⟩
  rotate_left
  · exfalso; omega
  rw [hv1, hm1]; clear hv1 hm1 v1 w1
  refine rd_if_eq C dX0_putSlide_7 (tgt := 29) (by decide) (fun h => absurd h (by decide)) (fun _ => ?_)
  refine rd_aload_n C dX0_putSlide_10 rfl ?_
  refine rd_get C rd_g0_2 rf_X0_17 dX0_putSlide_11 rd_b2 rd_k2 (x := rd_R (4)) rfl (fun _ => trivial) ?_
  refine rd_iload_n C dX0_putSlide_14 rfl ?_
  have hS_15 := rd_sl1 (i := x) (by omega) (by omega)
  refine rd_aald16 C dX0_putSlide_15 rd_b4 rd_k4 ⟨by omega, by omega⟩ (k' := 5 + 5 * x) (by omega) ?_
  refine rd_iconst C dX0_putSlide_16 (n := 1) ⟨by decide, by decide⟩ ?_
  refine rd_put C rd_p7_0 rf_X0_39 dX0_putSlide_17 hS_15.1 hS_15.2.2.2.2.2.1 (by omega) ?_
  refine rd_aload_n C dX0_putSlide_20 rfl ?_
  refine rd_iload_n C dX0_putSlide_21 rfl ?_
  refine rd_aload_n C dX0_putSlide_22 rfl ?_
  refine rd_getx C rd_g0_0 rf_X0_25 dX0_putSlide_23 rd_b2 rd_k2 rfl (z := μ 2 0) (by rw [rd_u_k _ _ _ (by omega)]) ?_
  refine rd_callV C (c_X0_putInOrder (μ := rd_u μ (5 + 5 * x) 0 1) (x := x) (p0 := μ 2 0) (by omega) (by rw [rd_u_k _ _ _ (by omega)]; omega) (by rw [rd_u_k _ _ _ (by omega)]; omega)) rm_X0_47 ri_X0_putInOrder rs_X0_putInOrder rc_X0_putInOrder rz_X0 ⟨rp_X0_putInOrder, rfl, rfl, by decide, by decide⟩ rfl rd_kcl0 dX0_putSlide_26 rd_b2 rd_k2 rfl (Nat.le_of_ble_eq_true rfl) (fun v1 w1 hq => ?_)
  obtain ⟨hv1, hm1⟩ := hq; rw [hv1, hm1]; clear hv1 hm1 v1 w1
  exact rd_vret C dX0_putSlide_29 ⟨rfl, rfl⟩
def rd_dal (μ : rd_Mem) (t k : Int) : rd_Mem := fun a b => if ((9 ≤ a ∧ a < 9 + 5 * k) ∧ (a - 9) % 5 = 0) ∧ (0 ≤ b ∧ b < 10) ∧ μ a b = t then -1 else μ a b
noncomputable def rd_ds0 (μ : rd_Mem) (x : Int) : rd_Mem := rd_dfo (rd_clr μ (5 + 5 * x) 10) (sp_pl μ x)
set_option maxHeartbeats 4000000 in
set_option maxRecDepth 100000 in
theorem c_X0_dropSlide {l : Launch} {G : rd_G} {r : Nat} {μ : rd_Mem} {x : Int} (hth : sp_th μ x) (hc : sp_cnt μ) (h0 : 0 ≤ sp_pl μ x) (h1 : sp_pl μ x < μ 2 0) : rd_M l G rd_kc 313 r yX0_dropSlide cX0_dropSlide 7 none (rd_rm 2 45) [rd_R 2, rd_I x] μ (fun v μ' => v = none ∧ μ' = rd_dal (rd_ds0 μ x) x 10) := by
  refine rd_enter (by decide +kernel) (Nat.le_of_ble_eq_true rfl) [rd_R 2, rd_I x, rd_J, rd_J, rd_J, rd_J, rd_J] rfl (fun p e s m args below meth c C => ?_)
  refine rd_W.rng (fun hM hL _ => ?_)
  refine rd_aload_n C dX0_dropSlide_0 rfl ?_
  refine rd_iload_n C dX0_dropSlide_1 rfl ?_
  refine rd_callV C (c_X0_find) rm_X0_51 ri_X0_find rs_X0_find rc_X0_find rz_X0 ⟨rp_X0_find, rfl, rfl, by decide, by decide⟩ rfl rd_kcl0 dX0_dropSlide_2 rd_b2 rd_k2 rfl (Nat.le_of_ble_eq_true rfl) (fun v1 w1 hq => ?_)
  rcases hq with ⟨hw_5, hv1, hm1⟩ | ⟨hw_5, hv1, hm1⟩
  rotate_left
  · exfalso; exact hw_5 hth
  rw [hv1, hm1]; clear hv1 hm1 v1 w1
  have hSx := rd_sl1 hth.1.1 hth.1.2
  refine rd_astore_n C dX0_dropSlide_5 (by decide) (L' := [rd_R 2, rd_I x, rd_R (5 + 5 * x), rd_J, rd_J, rd_J, rd_J]) rfl ?_
  refine rd_aload_n C dX0_dropSlide_6 rfl ?_
  refine rd_ifnonnull_r C dX0_dropSlide_7 (tgt := 11) (by decide) ?_
  refine rd_aload_n C dX0_dropSlide_11 rfl ?_
  refine rd_callV C (c_X7_clear hSx) rm_X0_22 ri_X7_clear rs_X7_clear rc_X7_clear rz_X7 ⟨rp_X7_clear, rfl, rfl, by decide, by decide⟩ rfl rd_kcl7 dX0_dropSlide_12 hSx.1 hSx.2.2.2.2.2.1 rfl (Nat.le_of_ble_eq_true rfl) (fun v1 w1 hq => ?_)
  obtain ⟨hv1, hm1⟩ := hq; rw [hv1, hm1]; clear hv1 hm1 v1 w1
  have hcl2 : rd_clr μ (5 + 5 * x) 10 2 0 = μ 2 0 := by simp only [rd_clr]; (repeat' split) <;> first | rfl | (exfalso; have := hth.1; omega)
  have hclp : sp_pl (rd_clr μ (5 + 5 * x) 10) x = sp_pl μ x := by unfold sp_pl; rw [hcl2, show rd_clr μ (5 + 5 * x) 10 3 = μ 3 from by funext b; simp only [rd_clr]; (repeat' split) <;> first | rfl | (exfalso; have := hth.1; omega)]
  refine rd_aload_n C dX0_dropSlide_15 rfl ?_
  refine rd_iload_n C dX0_dropSlide_16 rfl ?_
  refine rd_callV C (c_X0_dropFromOrder (μ := rd_clr μ (5 + 5 * x) 10) (x := x) (by unfold sp_cnt; rw [hcl2]; exact hc) (by rw [hclp]; exact h0) (by rw [hclp, hcl2]; exact h1)) rm_X0_55 ri_X0_dropFromOrder rs_X0_dropFromOrder rc_X0_dropFromOrder rz_X0 ⟨rp_X0_dropFromOrder, rfl, rfl, by decide, by decide⟩ rfl rd_kcl0 dX0_dropSlide_17 rd_b2 rd_k2 rfl (Nat.le_of_ble_eq_true rfl) (fun v1 w1 hq => ?_)
  obtain ⟨hv1, hm1⟩ := hq; rw [hv1, hm1]; clear hv1 hm1 v1 w1
  show rd_W p l e _ s m args below meth c _ 7 G rd_kc 313 r _ _ _ (rd_dfo (rd_clr μ (5 + 5 * x) 10) (sp_pl (rd_clr μ (5 + 5 * x) 10) x))
  rw [hclp]
  refine rd_aload_n C dX0_dropSlide_20 rfl ?_
  refine rd_get C rd_g0_2 rf_X0_17 dX0_dropSlide_21 rd_b2 rd_k2 (x := rd_R (4)) rfl (fun _ => trivial) ?_
  refine rd_astore_n C dX0_dropSlide_24 (by decide) (L' := [rd_R 2, rd_I x, rd_R (5 + 5 * x), rd_R 4, rd_J, rd_J, rd_J]) rfl ?_
  refine rd_aload_n C dX0_dropSlide_25 rfl ?_
  refine rd_alen C rd_al16 dX0_dropSlide_26 rd_b4 rd_k4 (z := 10) rfl ⟨by decide, by decide⟩ ?_
  refine rd_istore C dX0_dropSlide_27 (by decide) (L' := [rd_R 2, rd_I x, rd_R (5 + 5 * x), rd_R 4, rd_I 10, rd_J, rd_J]) rfl ?_
  refine rd_iconst C dX0_dropSlide_29 (n := 0) ⟨by decide, by decide⟩ ?_
  refine rd_istore C dX0_dropSlide_30 (by decide) (L' := [rd_R 2, rd_I x, rd_R (5 + 5 * x), rd_R 4, rd_I 10, rd_I 0, rd_J]) rfl ?_
  have lp32 : ∀ (n : Nat) (k : Int) (μ1 : rd_Mem) (j6 : rd_X), (0 ≤ k) → (k ≤ 10) → (10 < k + n) → (μ1 = rd_dal (rd_ds0 μ x) x k) → rd_W p l e (rd_rm 2 45) s m args below meth c (MQ below (rd_Qc G rd_kc 313 r (fun v μ' => v = none ∧ μ' = rd_dal (rd_ds0 μ x) x 10)) args s 0 0 (rd_A r 313)) 7 G rd_kc 313 r 32 [rd_R 2, rd_I x, rd_R (5 + 5 * x), rd_R 4, rd_I 10, rd_I k, j6] [] μ1 := by
    intro n
    induction n with
    | zero => intro k μ1 j6  h1 h2 h3 hm; exfalso; omega
    | succ n ih =>
      intro k μ1 j6  h1 h2 h3 hm
      refine rd_iload C dX0_dropSlide_32 rfl ?_
      refine rd_iload C dX0_dropSlide_34 rfl ?_
      refine rd_icmp_ge C dX0_dropSlide_36 (tgt := 57) (by decide) (fun h_36 => ?_) (fun h_36 => ?_)
      · exact rd_vret C dX0_dropSlide_57 ⟨rfl, by rw [hm, show k = 10 by omega]⟩
      · refine rd_aload_n C dX0_dropSlide_39 rfl ?_
        refine rd_iload C dX0_dropSlide_40 rfl ?_
        have hS_42 := rd_sl1 (i := k) (by omega) (by omega)
        refine rd_aald16 C dX0_dropSlide_42 rd_b4 rd_k4 ⟨by omega, by omega⟩ (k' := 5 + 5 * k) (by omega) ?_
        refine rd_astore C dX0_dropSlide_43 (by decide) (L' := [rd_R 2, rd_I x, rd_R (5 + 5 * x), rd_R 4, rd_I 10, rd_I k, rd_R (5 + 5 * k)]) rfl ?_
        refine rd_aload C dX0_dropSlide_45 rfl ?_
        refine rd_iload_n C dX0_dropSlide_47 rfl ?_
        refine rd_callV C (c_X7_dropLinksTo hS_42) rm_X0_59 ri_X7_dropLinksTo rs_X7_dropLinksTo rc_X7_dropLinksTo rz_X7 ⟨rp_X7_dropLinksTo, rfl, rfl, by decide, by decide⟩ rfl rd_kcl7 dX0_dropSlide_48 hS_42.1 hS_42.2.2.2.2.2.1 rfl (Nat.le_of_ble_eq_true rfl) (fun v1 w1 hq => ?_)
        obtain ⟨hv1, hm1⟩ := hq; rw [hv1, hm1]; clear hv1 hm1 v1 w1
        refine rd_iinc C dX0_dropSlide_51 (by decide) rfl ⟨by omega, by omega⟩ (L' := [rd_R 2, rd_I x, rd_R (5 + 5 * x), rd_R 4, rd_I 10, rd_I (k + 1), rd_R (5 + 5 * k)]) rfl ?_
        refine rd_goto C dX0_dropSlide_54 (tgt := 32) (by decide) ?_
        exact ih (k + 1) _ _ (by omega) (by omega) (by omega) (by rw [hm]; generalize rd_ds0 μ x = ν; funext a b; simp only [rd_dlk, rd_dal]; (repeat' split) <;> first | rfl | (exfalso; omega) | grind)
  exact lp32 11 0 _ rd_J (by omega) (by omega) (by omega) (by funext a b; simp only [rd_dal]; (repeat' split) <;> first | rfl | (exfalso; omega))
set_option maxHeartbeats 4000000 in
set_option maxRecDepth 100000 in
theorem c_X0_countHidden {l : Launch} {G : rd_G} {r : Nat} {μ : rd_Mem}  : rd_M l G rd_kc 313 r yX0_countHidden cX0_countHidden 6 (some .int) (rd_rm 0 0) [rd_R 2] μ (fun v μ' => v = some (rd_I (sp_num (fun i => μ (5 + 5 * i) 1 ≠ 0) 10)) ∧ μ' = μ) := by
  refine rd_enter (by decide +kernel) (Nat.le_of_ble_eq_true rfl) [rd_R 2, rd_J, rd_J, rd_J, rd_J, rd_J] rfl (fun p e s m args below meth c C => ?_)
  refine rd_W.rng (fun hM hL _ => ?_)
  refine rd_iconst C dX0_countHidden_0 (n := 0) ⟨by decide, by decide⟩ ?_
  refine rd_istore_n C dX0_countHidden_1 (by decide) (L' := [rd_R 2, rd_I 0, rd_J, rd_J, rd_J, rd_J]) rfl ?_
  refine rd_aload_n C dX0_countHidden_2 rfl ?_
  refine rd_get C rd_g0_2 rf_X0_17 dX0_countHidden_3 rd_b2 rd_k2 (x := rd_R (4)) rfl (fun _ => trivial) ?_
  refine rd_astore_n C dX0_countHidden_6 (by decide) (L' := [rd_R 2, rd_I 0, rd_R 4, rd_J, rd_J, rd_J]) rfl ?_
  refine rd_aload_n C dX0_countHidden_7 rfl ?_
  refine rd_alen C rd_al16 dX0_countHidden_8 rd_b4 rd_k4 (z := 10) rfl ⟨by decide, by decide⟩ ?_
  refine rd_istore_n C dX0_countHidden_9 (by decide) (L' := [rd_R 2, rd_I 0, rd_R 4, rd_I 10, rd_J, rd_J]) rfl ?_
  refine rd_iconst C dX0_countHidden_10 (n := 0) ⟨by decide, by decide⟩ ?_
  refine rd_istore C dX0_countHidden_11 (by decide) (L' := [rd_R 2, rd_I 0, rd_R 4, rd_I 10, rd_I 0, rd_J]) rfl ?_
  have lp13 : ∀ (n : Nat) (k : Nat) (x c4 : Int) (j5 : rd_X), (k ≤ 10) → (10 < k + n) → (x = sp_num (fun i => μ (5 + 5 * i) 1 ≠ 0) k) → (0 ≤ x ∧ x ≤ k) → (c4 = (k : Int)) → rd_W p l e (rd_rm 0 0) s m args below meth c (MQ below (rd_Qc G rd_kc 313 r (fun v μ' => v = some (rd_I (sp_num (fun i => μ (5 + 5 * i) 1 ≠ 0) 10)) ∧ μ' = μ)) args s 0 0 (rd_A r 313)) 6 G rd_kc 313 r 13 [rd_R 2, rd_I x, rd_R 4, rd_I 10, rd_I c4, j5] [] μ := by
    intro n
    induction n with
    | zero => intro k x c4 j5  h2 h3 hx hx0 hc; exfalso; omega
    | succ n ih =>
      intro k x c4 j5  h2 h3 hx hx0 hc
      refine rd_iload C dX0_countHidden_13 rfl ?_
      refine rd_iload_n C dX0_countHidden_15 rfl ?_
      refine rd_icmp_ge C dX0_countHidden_16 (tgt := 42) (by decide) (fun h_16 => ?_) (fun h_16 => ?_)
      · refine rd_iload_n C dX0_countHidden_42 rfl ?_
        exact rd_iret C dX0_countHidden_43 ⟨by rw [hx, show k = 10 by omega], rfl⟩
      · refine rd_aload_n C dX0_countHidden_19 rfl ?_
        refine rd_iload C dX0_countHidden_20 rfl ?_
        have hS_22 := rd_sl1 (i := c4) (by omega) (by omega)
        refine rd_aald16 C dX0_countHidden_22 rd_b4 rd_k4 ⟨by omega, by omega⟩ (k' := 5 + 5 * c4) (by omega) ?_
        refine rd_astore C dX0_countHidden_23 (by decide) (L' := [rd_R 2, rd_I x, rd_R 4, rd_I 10, rd_I c4, rd_R (5 + 5 * c4)]) rfl ?_
        refine rd_aload C dX0_countHidden_25 rfl ?_
        refine rd_get C rd_g7_1 rf_X0_69 dX0_countHidden_27 hS_22.1 hS_22.2.2.2.2.2.1 (x := rd_I (μ (5 + 5 * c4) 1)) rfl (fun h => h _ _) ?_
        refine rd_if_eq C dX0_countHidden_30 (tgt := 36) (by decide) (fun h_30 => ?_) (fun h_30 => ?_)
        · refine rd_iinc C dX0_countHidden_36 (by decide) rfl ⟨by omega, by omega⟩ (L' := [rd_R 2, rd_I x, rd_R 4, rd_I 10, rd_I (c4 + 1), rd_R (5 + 5 * c4)]) rfl ?_
          refine rd_goto C dX0_countHidden_39 (tgt := 13) (by decide) ?_
          exact ih (k + 1) _ _ _ (by omega) (by omega) (by simp only [sp_num]; rw [hx, sp_iff (by rw [← hc]; exact not_not_intro h_30)]; omega) (by omega) (by omega)
        · refine rd_iinc C dX0_countHidden_33 (by decide) rfl ⟨by omega, by omega⟩ (L' := [rd_R 2, rd_I (x + 1), rd_R 4, rd_I 10, rd_I c4, rd_R (5 + 5 * c4)]) rfl ?_
          refine rd_iinc C dX0_countHidden_36 (by decide) rfl ⟨by omega, by omega⟩ (L' := [rd_R 2, rd_I (x + 1), rd_R 4, rd_I 10, rd_I (c4 + 1), rd_R (5 + 5 * c4)]) rfl ?_
          refine rd_goto C dX0_countHidden_39 (tgt := 13) (by decide) ?_
          exact ih (k + 1) _ _ _ (by omega) (by omega) (by simp only [sp_num]; rw [hx, sp_ift (by rw [← hc]; exact h_30)]) (by omega) (by omega)
  exact lp13 11 0 0 0 rd_J (by omega) (by omega) rfl (by omega) rfl
def sp_fi (μ : rd_Mem) : Prop := ∀ i : Int, 0 ≤ i → i < 10 → ∀ q : Int, 0 ≤ q → q < 6 → q < μ (5 + 5 * i) 3 → μ (5 + 5 * i + 1) q ≤ 9

