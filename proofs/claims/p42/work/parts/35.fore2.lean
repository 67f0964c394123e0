/-! the fewest moves, as the class seeks them -/
def rd_lw (μ : rd_Mem) (n x : Int) : rd_Mem := if (0 ≤ n ∧ n ≤ 9) ∧ x < μ 312 n then rd_u μ 312 n x else μ
theorem rd_lw_f (μ : rd_Mem) (n x : Int) {a : Int} (ha : a ≠ 312) : rd_lw μ n x a = μ a := by
  unfold rd_lw; split
  · exact rd_u_ne _ _ _ ha
  · rfl
theorem rd_lw_r (μ : rd_Mem) (n x : Int) (j : Int) : rd_lw μ n x 312 j ≤ μ 312 j ∧ (rd_lw μ n x 312 j = μ 312 j ∨ ((0 ≤ n ∧ n ≤ 9) ∧ j = n ∧ x < μ 312 j ∧ rd_lw μ n x 312 j = x)) ∧ ((0 ≤ n ∧ n ≤ 9) → j = n → rd_lw μ n x 312 j ≤ x) := by
  unfold rd_lw
  by_cases h : (0 ≤ n ∧ n ≤ 9) ∧ x < μ 312 n
  · rw [if_pos h]
    by_cases hj : j = n
    · subst hj; rw [rd_u_s]; exact ⟨by omega, Or.inr ⟨h.1, rfl, h.2, rfl⟩, fun _ _ => Int.le_refl _⟩
    · rw [rd_u_j _ _ _ hj]; exact ⟨Int.le_refl _, Or.inl rfl, fun _ h => absurd h hj⟩
  · rw [if_neg h]; exact ⟨Int.le_refl _, Or.inl rfl, fun h1 h2 => by subst h2; omega⟩
/-- a way from the slide at a place to a slide, and its moves -/
def sp_ed (μ : rd_Mem) (p j w : Int) : Prop := (0 ≤ j ∧ j ≤ 9) ∧ ((∃ q : Int, (0 ≤ q ∧ q < 10) ∧ μ (5 + 5 * μ 3 p + 4) q = j ∧ w = 1) ∨ (j = sp_next μ (p + 1) ∧ w = sp_FS μ (μ 3 p) - (if μ 3 p = μ 58 0 then μ 58 1 else 0) + 1))
/-- what going on from a place does to the numbers of moves -/
def sp_sp (μ ν : rd_Mem) (p : Int) : Prop := (∀ a : Int, a ≠ 312 → ν a = μ a) ∧ (∀ j : Int, ν 312 j ≤ μ 312 j) ∧ (∀ j : Int, ν 312 j = μ 312 j ∨ (sp_th μ (μ 3 p) ∧ μ 312 (μ 3 p) < 1000000 ∧ ∃ w, sp_ed μ p j w ∧ ν 312 j = μ 312 (μ 3 p) + w)) ∧ (sp_th μ (μ 3 p) → μ 312 (μ 3 p) < 1000000 → ∀ j w, sp_ed μ p j w → ν 312 j ≤ μ 312 (μ 3 p) + w)
set_option maxHeartbeats 4000000 in
set_option maxRecDepth 100000 in
theorem c_X1_lower {l : Launch} {G : rd_G} {r : Nat} {μ : rd_Mem} {n0 x0 : Int} : rd_M l G rd_kc 313 r yX1_lower cX1_lower 3 none (rd_rm 1 22) [rd_R 311, rd_I n0, rd_I x0] μ (fun v μ' => v = none ∧ μ' = rd_lw μ n0 x0) := by
  refine rd_enter (by decide +kernel) (Nat.le_of_ble_eq_true rfl) [rd_R 311, rd_I n0, rd_I x0] rfl (fun p e s m args below meth c C => ?_)
  refine rd_W.rng (fun hM hL _ => ?_)
  refine rd_iload_n C dX1_lower_0 rfl ?_
  refine rd_iconst C dX1_lower_1 (n := 0) ⟨by decide, by decide⟩ ?_
  refine rd_bipush C dX1_lower_2 (n := 9) (by decide) ⟨by decide, by decide⟩ ?_
  refine rd_callSN C (c_X9_isWithin) rx_X1_83 rt_X9_isWithin rc_X9_isWithin rz_X9 ⟨rp_X9_isWithin, rfl, rfl, by decide, by decide⟩ rfl dX1_lower_4 rfl (Nat.le_of_ble_eq_true rfl) (fun v1 w1 hq => ?_)
  rcases hq with ⟨hw_7, hv1, hm1⟩ | ⟨hw_7, hv1, hm1⟩
  · rw [hv1, hm1]; clear hv1 hm1 v1 w1
    refine rd_if_eq C dX1_lower_7 (tgt := 27) (by decide) (fun h => absurd h (by decide)) (fun _ => ?_)
    refine rd_iload_n C dX1_lower_10 rfl ?_
    refine rd_aload_n C dX1_lower_11 rfl ?_
    refine rd_get C rd_g1_0 rf_X1_9 dX1_lower_12 rd_b311 rd_k311 (x := rd_R (312)) rfl (fun _ => trivial) ?_
    refine rd_iload_n C dX1_lower_15 rfl ?_
    refine rd_ialdx C rd_ai11 dX1_lower_16 rd_b312 rd_k312 ⟨by omega, by omega⟩ (z := μ 312 n0) rfl ?_
    refine rd_icmp_ge C dX1_lower_17 (tgt := 27) (by decide) (fun h_17 => ?_) (fun h_17 => ?_)
    · exact rd_vret C dX1_lower_27 ⟨rfl, by unfold rd_lw; first | rw [if_pos ⟨by omega, by omega⟩] | rw [if_neg (by omega)]⟩
    · refine rd_aload_n C dX1_lower_20 rfl ?_
      refine rd_get C rd_g1_0 rf_X1_9 dX1_lower_21 rd_b311 rd_k311 (x := rd_R (312)) rfl (fun _ => trivial) ?_
      refine rd_iload_n C dX1_lower_24 rfl ?_
      refine rd_iload_n C dX1_lower_25 rfl ?_
      refine rd_iast C rd_ai11 dX1_lower_26 rd_b312 rd_k312 ⟨by omega, by omega⟩ ?_
      exact rd_vret C dX1_lower_27 ⟨rfl, by unfold rd_lw; first | rw [if_pos ⟨by omega, by omega⟩] | rw [if_neg (by omega)]⟩
  · rw [hv1, hm1]; clear hv1 hm1 v1 w1
    refine rd_if_eq C dX1_lower_7 (tgt := 27) (by decide) (fun _ => ?_) (fun h => absurd h (by decide))
    exact rd_vret C dX1_lower_27 ⟨rfl, by unfold rd_lw; first | rw [if_pos ⟨by omega, by omega⟩] | rw [if_neg (by omega)]⟩
theorem sp_sp_0 {μ : rd_Mem} {p : Int} (h : ¬ sp_th μ (μ 3 p) ∨ 1000000 ≤ μ 312 (μ 3 p)) : sp_sp μ μ p :=
  ⟨fun _ _ => rfl, fun _ => Int.le_refl _, fun _ => Or.inl rfl, fun h1 h2 => by rcases h with h | h; exact absurd h1 h; omega⟩
theorem sp_sp_1 {μ μ1 : rd_Mem} {p x : Int} (hfr : ∀ a : Int, a ≠ 312 → μ1 a = μ a) (hmn : ∀ j : Int, μ1 312 j ≤ μ 312 j) (hsd : ∀ j : Int, μ1 312 j = μ 312 j ∨ ((0 ≤ j ∧ j ≤ 9) ∧ (∃ q : Int, (0 ≤ q ∧ q < 10) ∧ μ (5 + 5 * μ 3 p + 4) q = j ∧ (1 : Int) = 1) ∧ μ1 312 j = μ 312 (μ 3 p) + 1)) (hrl : ∀ q : Int, 0 ≤ q → q < 10 → ∀ j : Int, (0 ≤ j ∧ j ≤ 9) → μ (5 + 5 * μ 3 p + 4) q = j → μ1 312 j ≤ μ 312 (μ 3 p) + 1)
    (hlw : ∀ j : Int, rd_lw μ1 (sp_next μ (p + 1)) x 312 j ≤ μ1 312 j ∧ (rd_lw μ1 (sp_next μ (p + 1)) x 312 j = μ1 312 j ∨ ((0 ≤ sp_next μ (p + 1) ∧ sp_next μ (p + 1) ≤ 9) ∧ j = sp_next μ (p + 1) ∧ x < μ1 312 j ∧ rd_lw μ1 (sp_next μ (p + 1)) x 312 j = x)) ∧ ((0 ≤ sp_next μ (p + 1) ∧ sp_next μ (p + 1) ≤ 9) → j = sp_next μ (p + 1) → rd_lw μ1 (sp_next μ (p + 1)) x 312 j ≤ x))
    (hx : x = μ 312 (μ 3 p) + (sp_FS μ (μ 3 p) - (if μ 3 p = μ 58 0 then μ 58 1 else 0) + 1)) (hth : sp_th μ (μ 3 p)) (hU : μ 312 (μ 3 p) < 1000000) : sp_sp μ (rd_lw μ1 (sp_next μ (p + 1)) x) p := by
  refine ⟨fun a ha => (rd_lw_f _ _ _ ha).trans (hfr a ha), fun j => Int.le_trans (hlw j).1 (hmn j), fun j => ?_, fun _ _ j w hw => ?_⟩
  · rcases (hlw j).2.1 with g | ⟨g1, g2, g3, g4⟩
    · rw [g]
      rcases hsd j with k | ⟨k1, k2, k3⟩
      · exact Or.inl k
      · exact Or.inr ⟨hth, hU, 1, ⟨k1, Or.inl k2⟩, k3⟩
    · exact Or.inr ⟨hth, hU, _, ⟨by rw [g2]; exact g1, Or.inr ⟨g2, rfl⟩⟩, by rw [g4]; exact hx⟩
  · obtain ⟨h1, ⟨q, hq, he, hw1⟩ | ⟨he, hw1⟩⟩ := hw
    · rw [hw1]; exact Int.le_trans (hlw j).1 (hrl q hq.1 hq.2 j h1 he)
    · rw [hw1, ← hx]; exact (hlw j).2.2 (by rw [← he]; exact h1) he
set_option maxHeartbeats 4000000 in
set_option maxRecDepth 100000 in
theorem c_X1_spreadFrom {l : Launch} {G : rd_G} {r : Nat} {μ : rd_Mem} {p0 : Int} (hw : sp_wf μ) (hp : 0 ≤ p0 ∧ p0 < μ 2 0) (hnn : ∀ j : Int, 0 ≤ j → j ≤ 9 → 0 ≤ μ 312 j) : rd_M l G rd_kc 313 r yX1_spreadFrom cX1_spreadFrom 9 none (rd_rm 2 62) [rd_R 311, rd_R 1, rd_I p0] μ (fun v μ' => v = none ∧ sp_sp μ μ' p0) := by
  refine rd_enter (by decide +kernel) (Nat.le_of_ble_eq_true rfl) [rd_R 311, rd_R 1, rd_I p0, rd_J, rd_J, rd_J, rd_J, rd_J, rd_J] rfl (fun p e s m args below meth c C => ?_)
  refine rd_W.rng (fun hM hL _ => ?_)
  have hc1 := hw.1.1
  have hc2 := hw.1.2
  have hst := hw.2.2.2.2
  refine rd_aload_n C dX1_spreadFrom_0 rfl ?_
  refine rd_get C rd_g8_1 rf_X1_21 dX1_spreadFrom_1 rd_b1 rd_k1 (x := rd_R (2)) rfl (fun _ => trivial) ?_
  refine rd_iload_n C dX1_spreadFrom_4 rfl ?_
  refine rd_callV C (c_X0_numberAt (k := p0) hw.1) rm_X1_48 ri_X0_numberAt rs_X0_numberAt rc_X0_numberAt rz_X0 ⟨rp_X0_numberAt, rfl, rfl, by decide, by decide⟩ rfl rd_kcl0 dX1_spreadFrom_5 rd_b2 rd_k2 rfl (Nat.le_of_ble_eq_true rfl) (fun v1 w1 hq => ?_)
  obtain ⟨hv1, hm1⟩ := hq; rw [hv1, hm1, sp_ift ⟨by omega, by omega⟩]; clear hv1 hm1 v1 w1
  refine rd_istore_n C dX1_spreadFrom_8 (by decide) (L' := [rd_R 311, rd_R 1, rd_I p0, rd_I (μ 3 p0), rd_J, rd_J, rd_J, rd_J, rd_J]) rfl ?_
  refine rd_aload_n C dX1_spreadFrom_9 rfl ?_
  refine rd_get C rd_g8_1 rf_X1_21 dX1_spreadFrom_10 rd_b1 rd_k1 (x := rd_R (2)) rfl (fun _ => trivial) ?_
  refine rd_iload_n C dX1_spreadFrom_13 rfl ?_
  refine rd_callV C (c_X0_find) rm_X1_51 ri_X0_find rs_X0_find rc_X0_find rz_X0 ⟨rp_X0_find, rfl, rfl, by decide, by decide⟩ rfl rd_kcl0 dX1_spreadFrom_14 rd_b2 rd_k2 rfl (Nat.le_of_ble_eq_true rfl) (fun v1 w1 hq => ?_)
  rcases hq with ⟨hw_17, hv1, hm1⟩ | ⟨hw_17, hv1, hm1⟩
  · rw [hv1, hm1]; clear hv1 hm1 v1 w1
    have hS_hw_17 := rd_sl1 hw_17.1.1 hw_17.1.2
    have hrs := (hw.2.1 _ hw_17.1.1 hw_17.1.2)
    have hf9 := sp_FS9 hw.2.1 hw.2.2.1 hw_17.1.1 hw_17.1.2
    have hf0 : 0 ≤ sp_FS μ (μ 3 p0) := sp_fs0 _ _ _
    refine rd_astore C dX1_spreadFrom_17 (by decide) (L' := [rd_R 311, rd_R 1, rd_I p0, rd_I (μ 3 p0), rd_R (5 + 5 * (μ 3 p0)), rd_J, rd_J, rd_J, rd_J]) rfl ?_
    refine rd_aload C dX1_spreadFrom_19 rfl ?_
    refine rd_ifnull_r C dX1_spreadFrom_21 ?_
    have hrg := hw_17.1
    have hn0 := hnn (μ 3 p0) hrg.1 (by omega)
    refine rd_aload_n C dX1_spreadFrom_24 rfl ?_
    refine rd_get C rd_g1_0 rf_X1_9 dX1_spreadFrom_25 rd_b311 rd_k311 (x := rd_R (312)) rfl (fun _ => trivial) ?_
    refine rd_iload_n C dX1_spreadFrom_28 rfl ?_
    refine rd_ialdx C rd_ai11 dX1_spreadFrom_29 rd_b312 rd_k312 ⟨by omega, by omega⟩ (z := μ 312 (μ 3 p0)) rfl ?_
    refine rd_ldc C rl_X1_87 dX1_spreadFrom_30 (n := 1000000) (by decide) ⟨by decide, by decide⟩ ?_
    refine rd_icmp_lt C dX1_spreadFrom_32 (tgt := 36) (by decide) (fun h_32 => ?_) (fun h_32 => ?_)
    · refine rd_aload C dX1_spreadFrom_36 rfl ?_
      refine rd_get C rd_g7_7 rf_X1_96 dX1_spreadFrom_38 hS_hw_17.1 hS_hw_17.2.2.2.2.2.1 (x := rd_R (5 + 5 * (μ 3 p0) + 4)) rfl (fun _ => trivial) ?_
      refine rd_astore C dX1_spreadFrom_41 (by decide) (L' := [rd_R 311, rd_R 1, rd_I p0, rd_I (μ 3 p0), rd_R (5 + 5 * (μ 3 p0)), rd_R (5 + 5 * (μ 3 p0) + 4), rd_J, rd_J, rd_J]) rfl ?_
      refine rd_aload C dX1_spreadFrom_43 rfl ?_
      refine rd_alen C rd_al11 dX1_spreadFrom_45 hS_hw_17.2.2.2.2.1 hS_hw_17.2.2.2.2.2.2.2.2.2 (z := 10) rfl ⟨by decide, by decide⟩ ?_
      refine rd_istore C dX1_spreadFrom_46 (by decide) (L' := [rd_R 311, rd_R 1, rd_I p0, rd_I (μ 3 p0), rd_R (5 + 5 * (μ 3 p0)), rd_R (5 + 5 * (μ 3 p0) + 4), rd_I 10, rd_J, rd_J]) rfl ?_
      refine rd_iconst C dX1_spreadFrom_48 (n := 0) ⟨by decide, by decide⟩ ?_
      refine rd_istore C dX1_spreadFrom_49 (by decide) (L' := [rd_R 311, rd_R 1, rd_I p0, rd_I (μ 3 p0), rd_R (5 + 5 * (μ 3 p0)), rd_R (5 + 5 * (μ 3 p0) + 4), rd_I 10, rd_I 0, rd_J]) rfl ?_
      have lp51 : ∀ (n : Nat) (k : Int) (j8 : rd_X) (μ1 : rd_Mem), (0 ≤ k) → (k ≤ 10) → (10 < k + n) → (∀ a : Int, a ≠ 312 → μ1 a = μ a) → (μ1 312 (μ 3 p0) = μ 312 (μ 3 p0)) → (∀ j : Int, μ1 312 j ≤ μ 312 j) → (∀ j : Int, μ1 312 j = μ 312 j ∨ ((0 ≤ j ∧ j ≤ 9) ∧ (∃ q : Int, (0 ≤ q ∧ q < 10) ∧ μ (5 + 5 * μ 3 p0 + 4) q = j ∧ (1 : Int) = 1) ∧ μ1 312 j = μ 312 (μ 3 p0) + 1)) → (∀ q : Int, 0 ≤ q → q < k → ∀ j : Int, (0 ≤ j ∧ j ≤ 9) → μ (5 + 5 * μ 3 p0 + 4) q = j → μ1 312 j ≤ μ 312 (μ 3 p0) + 1) → rd_W p l e (rd_rm 2 62) s m args below meth c (MQ below (rd_Qc G rd_kc 313 r (fun v μ' => v = none ∧ sp_sp μ μ' p0)) args s 0 0 (rd_A r 313)) 9 G rd_kc 313 r 51 [rd_R 311, rd_R 1, rd_I p0, rd_I (μ 3 p0), rd_R (5 + 5 * (μ 3 p0)), rd_R (5 + 5 * (μ 3 p0) + 4), rd_I 10, rd_I k, j8] [] μ1 := by
        intro n
        induction n with
        | zero => intro k j8 μ1  g0 g1 g2 hfr hsr hmn hsd hrl; exfalso; omega
        | succ n ih =>
          intro k j8 μ1  g0 g1 g2 hfr hsr hmn hsd hrl
          refine rd_iload C dX1_spreadFrom_51 rfl ?_
          refine rd_iload C dX1_spreadFrom_53 rfl ?_
          refine rd_icmp_ge C dX1_spreadFrom_55 (tgt := 85) (by decide) (fun h_55 => ?_) (fun h_55 => ?_)
          · refine rd_iload_n C dX1_spreadFrom_85 rfl ?_
            refine rd_aload_n C dX1_spreadFrom_86 rfl ?_
            refine rd_get C rd_g8_3 rf_X1_25 dX1_spreadFrom_87 rd_b1 rd_k1 (x := rd_R (58)) rfl (fun _ => trivial) ?_
            refine rd_getx C rd_g6_0 rf_X1_29 dX1_spreadFrom_90 rd_b58 rd_k58 rfl (z := μ 58 0) (by rw [hfr _ (by omega)]) ?_
            refine rd_icmp_ne C dX1_spreadFrom_93 (tgt := 106) (by decide) (fun h_93 => ?_) (fun h_93 => ?_)
            · refine rd_iconst C dX1_spreadFrom_106 (n := 0) ⟨by decide, by decide⟩ ?_
              refine rd_istore C dX1_spreadFrom_107 (by decide) (L' := [rd_R 311, rd_R 1, rd_I p0, rd_I (μ 3 p0), rd_R (5 + 5 * (μ 3 p0)), rd_I 0, rd_I 10, rd_I k, j8]) rfl ?_
              refine rd_aload_n C dX1_spreadFrom_109 rfl ?_
              refine rd_aload_n C dX1_spreadFrom_110 rfl ?_
              refine rd_get C rd_g8_1 rf_X1_21 dX1_spreadFrom_111 rd_b1 rd_k1 (x := rd_R (2)) rfl (fun _ => trivial) ?_
              refine rd_iload_n C dX1_spreadFrom_114 rfl ?_
              refine rd_callV C (c_X0_nextShown (by unfold sp_cnt; rw [hfr 2 (by decide)]; exact hw.1) (by omega) (by omega)) rm_X1_80 ri_X0_nextShown rs_X0_nextShown rc_X0_nextShown rz_X0 ⟨rp_X0_nextShown, rfl, rfl, by decide, by decide⟩ rfl rd_kcl0 dX1_spreadFrom_115 rd_b2 rd_k2 rfl (Nat.le_of_ble_eq_true rfl) (fun v1 w1 hq => ?_)
              have hfr5 : ∀ a : Int, a < 55 → μ1 a = μ a := fun a ha => hfr a (by omega)
              obtain ⟨hv1, hm1⟩ := hq; rw [hv1, hm1, sp_next_c hfr5]; clear hv1 hm1
              refine rd_aload_n C dX1_spreadFrom_118 rfl ?_
              refine rd_get C rd_g1_0 rf_X1_9 dX1_spreadFrom_119 rd_b311 rd_k311 (x := rd_R (312)) rfl (fun _ => trivial) ?_
              refine rd_iload_n C dX1_spreadFrom_122 rfl ?_
              refine rd_ialdx C rd_ai11 dX1_spreadFrom_123 rd_b312 rd_k312 ⟨by omega, by omega⟩ (z := μ1 312 (μ 3 p0)) rfl ?_
              refine rd_aload C dX1_spreadFrom_124 rfl ?_
              refine rd_callV C (c_X7_finalStep hS_hw_17 (by rw [hfr _ (by have := hw_17.1; omega)]; exact hrs.1) (by rw [hfr _ (by have := hw_17.1; omega)]; exact hrs.2)) rm_X1_73 ri_X7_finalStep rs_X7_finalStep rc_X7_finalStep rz_X7 ⟨rp_X7_finalStep, rfl, rfl, by decide, by decide⟩ rfl rd_kcl7 dX1_spreadFrom_126 hS_hw_17.1 hS_hw_17.2.2.2.2.2.1 rfl (Nat.le_of_ble_eq_true rfl) (fun v1 w1 hq => ?_)
              obtain ⟨hv1, hm1⟩ := hq; rw [show v1 = some (rd_I (sp_FS μ1 (μ 3 p0))) from hv1, hm1, sp_FS_c hfr5 hw_17.1.2]; clear hv1 hm1
              refine rd_iadd C dX1_spreadFrom_129 (z := μ1 312 (μ 3 p0) + sp_FS μ (μ 3 p0)) rfl ⟨by omega, by omega⟩ ?_
              refine rd_iload C dX1_spreadFrom_130 rfl ?_
              refine rd_isub C dX1_spreadFrom_132 (z := μ1 312 (μ 3 p0) + sp_FS μ (μ 3 p0) - 0) rfl ⟨by omega, by omega⟩ ?_
              refine rd_iconst C dX1_spreadFrom_133 (n := 1) ⟨by decide, by decide⟩ ?_
              refine rd_iadd C dX1_spreadFrom_134 (z := μ1 312 (μ 3 p0) + sp_FS μ (μ 3 p0) - 0 + 1) rfl ⟨by omega, by omega⟩ ?_
              refine rd_callV C (c_X1_lower) rm_X1_88 ri_X1_lower rs_X1_lower rc_X1_lower rz_X1 ⟨rp_X1_lower, rfl, rfl, by decide, by decide⟩ rfl rd_kcl1 dX1_spreadFrom_135 rd_b311 rd_k311 rfl (Nat.le_of_ble_eq_true rfl) (fun v1 w1 hq => ?_)
              obtain ⟨hv1, hm1⟩ := hq; rw [hv1, hm1]; clear hv1 hm1
              have hlw := rd_lw_r μ1 (sp_next μ (p0 + 1)) (μ1 312 (μ 3 p0) + sp_FS μ (μ 3 p0) - 0 + 1)
              rw [hsr] at hlw ⊢
              exact rd_vret C dX1_spreadFrom_138 ⟨rfl, sp_sp_1 hfr hmn hsd (fun q q0 q1 => hrl q q0 (by omega)) hlw (by first | (rw [if_pos h_93]; omega) | (rw [if_neg h_93]; omega)) hw_17 (by omega)⟩
            · refine rd_aload_n C dX1_spreadFrom_96 rfl ?_
              refine rd_get C rd_g8_3 rf_X1_25 dX1_spreadFrom_97 rd_b1 rd_k1 (x := rd_R (58)) rfl (fun _ => trivial) ?_
              refine rd_getx C rd_g6_1 rf_X1_77 dX1_spreadFrom_100 rd_b58 rd_k58 rfl (z := μ 58 1) (by rw [hfr _ (by omega)]) ?_
              refine rd_goto C dX1_spreadFrom_103 (tgt := 107) (by decide) ?_
              refine rd_istore C dX1_spreadFrom_107 (by decide) (L' := [rd_R 311, rd_R 1, rd_I p0, rd_I (μ 3 p0), rd_R (5 + 5 * (μ 3 p0)), rd_I (μ 58 1), rd_I 10, rd_I k, j8]) rfl ?_
              refine rd_aload_n C dX1_spreadFrom_109 rfl ?_
              refine rd_aload_n C dX1_spreadFrom_110 rfl ?_
              refine rd_get C rd_g8_1 rf_X1_21 dX1_spreadFrom_111 rd_b1 rd_k1 (x := rd_R (2)) rfl (fun _ => trivial) ?_
              refine rd_iload_n C dX1_spreadFrom_114 rfl ?_
              refine rd_callV C (c_X0_nextShown (by unfold sp_cnt; rw [hfr 2 (by decide)]; exact hw.1) (by omega) (by omega)) rm_X1_80 ri_X0_nextShown rs_X0_nextShown rc_X0_nextShown rz_X0 ⟨rp_X0_nextShown, rfl, rfl, by decide, by decide⟩ rfl rd_kcl0 dX1_spreadFrom_115 rd_b2 rd_k2 rfl (Nat.le_of_ble_eq_true rfl) (fun v1 w1 hq => ?_)
              have hfr5 : ∀ a : Int, a < 55 → μ1 a = μ a := fun a ha => hfr a (by omega)
              obtain ⟨hv1, hm1⟩ := hq; rw [hv1, hm1, sp_next_c hfr5]; clear hv1 hm1
              refine rd_aload_n C dX1_spreadFrom_118 rfl ?_
              refine rd_get C rd_g1_0 rf_X1_9 dX1_spreadFrom_119 rd_b311 rd_k311 (x := rd_R (312)) rfl (fun _ => trivial) ?_
              refine rd_iload_n C dX1_spreadFrom_122 rfl ?_
              refine rd_ialdx C rd_ai11 dX1_spreadFrom_123 rd_b312 rd_k312 ⟨by omega, by omega⟩ (z := μ1 312 (μ 3 p0)) rfl ?_
              refine rd_aload C dX1_spreadFrom_124 rfl ?_
              refine rd_callV C (c_X7_finalStep hS_hw_17 (by rw [hfr _ (by have := hw_17.1; omega)]; exact hrs.1) (by rw [hfr _ (by have := hw_17.1; omega)]; exact hrs.2)) rm_X1_73 ri_X7_finalStep rs_X7_finalStep rc_X7_finalStep rz_X7 ⟨rp_X7_finalStep, rfl, rfl, by decide, by decide⟩ rfl rd_kcl7 dX1_spreadFrom_126 hS_hw_17.1 hS_hw_17.2.2.2.2.2.1 rfl (Nat.le_of_ble_eq_true rfl) (fun v1 w1 hq => ?_)
              obtain ⟨hv1, hm1⟩ := hq; rw [show v1 = some (rd_I (sp_FS μ1 (μ 3 p0))) from hv1, hm1, sp_FS_c hfr5 hw_17.1.2]; clear hv1 hm1
              refine rd_iadd C dX1_spreadFrom_129 (z := μ1 312 (μ 3 p0) + sp_FS μ (μ 3 p0)) rfl ⟨by omega, by omega⟩ ?_
              refine rd_iload C dX1_spreadFrom_130 rfl ?_
              refine rd_isub C dX1_spreadFrom_132 (z := μ1 312 (μ 3 p0) + sp_FS μ (μ 3 p0) - (μ 58 1)) rfl ⟨by omega, by omega⟩ ?_
              refine rd_iconst C dX1_spreadFrom_133 (n := 1) ⟨by decide, by decide⟩ ?_
              refine rd_iadd C dX1_spreadFrom_134 (z := μ1 312 (μ 3 p0) + sp_FS μ (μ 3 p0) - (μ 58 1) + 1) rfl ⟨by omega, by omega⟩ ?_
              refine rd_callV C (c_X1_lower) rm_X1_88 ri_X1_lower rs_X1_lower rc_X1_lower rz_X1 ⟨rp_X1_lower, rfl, rfl, by decide, by decide⟩ rfl rd_kcl1 dX1_spreadFrom_135 rd_b311 rd_k311 rfl (Nat.le_of_ble_eq_true rfl) (fun v1 w1 hq => ?_)
              obtain ⟨hv1, hm1⟩ := hq; rw [hv1, hm1]; clear hv1 hm1
              have hlw := rd_lw_r μ1 (sp_next μ (p0 + 1)) (μ1 312 (μ 3 p0) + sp_FS μ (μ 3 p0) - (μ 58 1) + 1)
              rw [hsr] at hlw ⊢
              exact rd_vret C dX1_spreadFrom_138 ⟨rfl, sp_sp_1 hfr hmn hsd (fun q q0 q1 => hrl q q0 (by omega)) hlw (by first | (rw [if_pos h_93]; omega) | (rw [if_neg h_93]; omega)) hw_17 (by omega)⟩
          · refine rd_aload C dX1_spreadFrom_58 rfl ?_
            refine rd_iload C dX1_spreadFrom_60 rfl ?_
            refine rd_ialdx C rd_ai11 dX1_spreadFrom_62 hS_hw_17.2.2.2.2.1 hS_hw_17.2.2.2.2.2.2.2.2.2 ⟨by omega, by omega⟩ (z := μ (5 + 5 * (μ 3 p0) + 4) k) (by rw [hfr _ (by omega)]) ?_
            refine rd_istore C dX1_spreadFrom_63 (by decide) (L' := [rd_R 311, rd_R 1, rd_I p0, rd_I (μ 3 p0), rd_R (5 + 5 * (μ 3 p0)), rd_R (5 + 5 * (μ 3 p0) + 4), rd_I 10, rd_I k, rd_I (μ (5 + 5 * (μ 3 p0) + 4) k)]) rfl ?_
            refine rd_aload_n C dX1_spreadFrom_65 rfl ?_
            refine rd_iload C dX1_spreadFrom_66 rfl ?_
            refine rd_aload_n C dX1_spreadFrom_68 rfl ?_
            refine rd_get C rd_g1_0 rf_X1_9 dX1_spreadFrom_69 rd_b311 rd_k311 (x := rd_R (312)) rfl (fun _ => trivial) ?_
            refine rd_iload_n C dX1_spreadFrom_72 rfl ?_
            refine rd_ialdx C rd_ai11 dX1_spreadFrom_73 rd_b312 rd_k312 ⟨by omega, by omega⟩ (z := μ1 312 (μ 3 p0)) rfl ?_
            refine rd_iconst C dX1_spreadFrom_74 (n := 1) ⟨by decide, by decide⟩ ?_
            refine rd_iadd C dX1_spreadFrom_75 (z := μ1 312 (μ 3 p0) + 1) rfl ⟨by omega, by omega⟩ ?_
            refine rd_callV C (c_X1_lower) rm_X1_88 ri_X1_lower rs_X1_lower rc_X1_lower rz_X1 ⟨rp_X1_lower, rfl, rfl, by decide, by decide⟩ rfl rd_kcl1 dX1_spreadFrom_76 rd_b311 rd_k311 rfl (Nat.le_of_ble_eq_true rfl) (fun v1 w1 hq => ?_)
            obtain ⟨hv1, hm1⟩ := hq; rw [hv1, hm1]; clear hv1 hm1
            refine rd_iinc C dX1_spreadFrom_79 (by decide) rfl ⟨by omega, by omega⟩ (L' := [rd_R 311, rd_R 1, rd_I p0, rd_I (μ 3 p0), rd_R (5 + 5 * (μ 3 p0)), rd_R (5 + 5 * (μ 3 p0) + 4), rd_I 10, rd_I (k + 1), rd_I (μ (5 + 5 * (μ 3 p0) + 4) k)]) rfl ?_
            refine rd_goto C dX1_spreadFrom_82 (tgt := 51) (by decide) ?_
            have hlw := rd_lw_r μ1 (μ (5 + 5 * μ 3 p0 + 4) k) (μ1 312 (μ 3 p0) + 1)
            rw [hsr] at hlw ⊢
            exact ih (k + 1) _ _ (by omega) (by omega) (by omega) (fun a ha => (rd_lw_f _ _ _ ha).trans (hfr a ha)) (by rcases (hlw (μ 3 p0)).2.1 with g | ⟨g1, g2, g3, g4⟩; exact g.trans hsr; rw [hsr] at g3; omega) (fun j => Int.le_trans (hlw j).1 (hmn j)) (fun j => by rcases (hlw j).2.1 with g | ⟨g1, g2, g3, g4⟩; rw [g]; exact hsd j; exact Or.inr ⟨by rw [g2]; exact g1, ⟨k, ⟨by omega, by omega⟩, g2.symm, rfl⟩, g4⟩) (fun q q0 q1 j hj he => by by_cases hqk : q = k; exact (hlw j).2.2 (by rw [← hqk, he]; exact hj) (by rw [← hqk]; exact he.symm); exact Int.le_trans (hlw j).1 (hrl q q0 (by omega) j hj he))
      exact lp51 11 0 _ _ (by omega) (by omega) (by omega) (fun _ _ => rfl) rfl (fun _ => Int.le_refl _) (fun _ => Or.inl rfl) (fun q q0 q1 => by omega)
    · exact rd_vret C dX1_spreadFrom_35 ⟨rfl, sp_sp_0 (by first | exact Or.inl hw_17 | exact Or.inr (by omega))⟩
  · rw [hv1, hm1]; clear hv1 hm1 v1 w1
    refine rd_astoreN C dX1_spreadFrom_17 (by decide) (L' := [rd_R 311, rd_R 1, rd_I p0, rd_I (μ 3 p0), rd_N, rd_J, rd_J, rd_J, rd_J]) rfl ?_
    refine rd_aload C dX1_spreadFrom_19 rfl ?_
    refine rd_ifnull_n C dX1_spreadFrom_21 (tgt := 35) (by decide) ?_
    exact rd_vret C dX1_spreadFrom_35 ⟨rfl, sp_sp_0 (by first | exact Or.inl hw_17 | exact Or.inr (by omega))⟩

