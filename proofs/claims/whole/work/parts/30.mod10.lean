theorem mo_sv_p {μ : rd_Mem} (h : 0 ≤ μ 0 1 ∧ μ 0 1 ≤ 4) {a j : Int} (ha : a ≠ 1) (hj : a ≠ 0 ∨ j ≠ 1) : mo_sv μ a j = μ a j := by
  unfold mo_sv
  by_cases h4 : μ 0 1 = 4
  · rw [if_pos h4, mo_cp_o _ _ _ _ ha, rd_u_o _ hj]
    unfold mo_sf; rw [if_neg (fun g => ha g.1)]
  · rw [if_neg h4, mo_cp_o _ _ _ _ ha, rd_u_o _ hj]
theorem mo_sv_J {μ : rd_Mem} (h : 0 ≤ μ 0 1 ∧ μ 0 1 ≤ 4) (hJ : mo_J μ) : mo_J (mo_sv μ) :=
  ⟨mo_sv_I h hJ.1, mo_tgI_c (fun j a b => mo_sv_lo h (by omega)) hJ.2⟩
theorem mo_rn_k {l : List (Int × Int × Int)} {ν μ M : rd_Mem} {m R f : Int} (h : mo_k3 ν μ) (hr : mo_rn l ν m R M f) : mo_rn l μ m R M f := by
  cases l with
  | nil => exact ⟨mo_k3_t hr.1 h, hr.2⟩
  | cons a r =>
    obtain ⟨i, c, q⟩ := a
    rcases hr with ⟨h1, h2⟩ | ⟨κ, h1, h2⟩
    · exact Or.inl ⟨mo_k3_t h1 h, h2⟩
    · exact Or.inr ⟨κ, mo_k3_t h1 h, h2⟩
theorem mo_q {ν : rd_Mem} {c q q' : Int} (hc : c = 102 ∨ c = 98 ∨ c = 107 ∨ c = 116) (h : c = 107 ∨ c = 116 → q' = q) : (mo_can ν c q ↔ mo_can ν c q') ∧ mo_md ν c q = mo_md ν c q' := by
  by_cases h1 : c = 107 ∨ c = 116
  · rw [h h1]; exact ⟨Iff.rfl, rfl⟩
  · have h2 : c ≠ 107 := fun h => h1 (Or.inl h)
    refine ⟨⟨fun g => ⟨g.1, g.2.1, g.2.2.1, fun h => absurd h h2⟩, fun g => ⟨g.1, g.2.1, g.2.2.1, fun h => absurd h h2⟩⟩, ?_⟩
    unfold mo_md
    rcases hc with rfl | rfl | rfl | rfl
    · rfl
    · rfl
    · exact absurd rfl h2
    · exact absurd (Or.inr rfl) h1
theorem mo_k3_r (μ : rd_Mem) : mo_k3 μ μ := fun _ _ _ => rfl
theorem mo_rp_e {M : rd_Mem} {R f a b x y : Int} (h0 : a = (if f = -1 then -6 else R)) (h1 : b = (if f = -1 then -6 else f)) (h2 : x = (if f = -1 ∨ M 1 29 ≠ 1 then -6 else M 1 30)) (h3 : y = (if f = -1 ∨ M 1 29 ≠ 1 then -6 else M 1 31)) : rd_u (rd_u (rd_u (rd_u M 3 0 a) 3 1 b) 3 2 x) 3 3 y = mo_rp M R f := by
  unfold mo_rp; rw [h0, h1, h2, h3]
set_option maxHeartbeats 4000000 in
set_option maxRecDepth 100000 in
theorem c_X10_run {l : Launch} {G : rd_G} {r : Nat} {μ : rd_Mem} (hl : 0 ≤ μ 0 3 ∧ μ 0 3 ≤ 60) (hst : 0 ≤ μ 0 1 ∧ μ 0 1 ≤ 4) (hJ : mo_J μ) : rd_M l G rd_km 5 r yX10_run cX10_run 5 (some .int) (rd_rm 7 150) [rd_R 0] μ (fun v μ' => (sp_flt (μ 2) (μ 0 3).toNat 0 0 ≠ -6 ∧ v = some (rd_I (-3)) ∧ mo_k3 μ' μ) ∨ (sp_flt (μ 2) (μ 0 3).toNat 0 0 = -6 ∧ ∃ (κ : rd_Mem) (R : Int) (M : rd_Mem) (f : Int), mo_k3 κ μ ∧ mo_rn (sp_mvs (μ 2) (μ 0 3) (μ 0 3).toNat 0) (mo_sv κ) 0 R M f ∧ v = some (rd_I R) ∧ μ' = mo_rp M R f)) := by
  refine rd_enter (by decide +kernel) (Nat.le_of_ble_eq_true rfl) [rd_R 0, rd_J, rd_J, rd_J, rd_J] rfl (fun p e s m args below meth c C => ?_)
  refine rd_W.rng (fun hM hL _ => ?_)
  refine rd_aload_n C dX10_run_0 rfl ?_
  refine rd_callV C (c_X10_isText hl) rm_X10_134 ri_X10_isText rs_X10_isText rc_X10_isText rz_X10 ⟨rp_X10_isText, rfl, rfl, by decide, by decide⟩ rfl rd_kcl10 dX10_run_1 rd_c0 rd_m0 rfl (Nat.le_of_ble_eq_true rfl) (fun v1 w1 hq => ?_)
  rcases hq with ⟨hw_4, hv1, hk⟩ | ⟨hw_4, hn0, hv1, hk⟩
  · rw [hv1]; clear hv1
    generalize w1 = κ0 at *
    have hst0 : 0 ≤ κ0 0 1 ∧ κ0 0 1 ≤ 4 := by rw [hk 0 1 (by omega)]; exact hst
    have hJs := mo_sv_J hst0 (mo_J_k hk hJ)
    have hs3 : mo_sv κ0 0 3 = μ 0 3 := (mo_sv_p hst0 (by decide) (by omega)).trans (hk 0 3 (by omega))
    have hs2 : mo_sv κ0 2 = μ 2 := by funext j; exact (mo_sv_p hst0 (by decide) (by omega)).trans (hk 2 j (by omega))
    refine rd_if_ne C dX10_run_4 (tgt := 10) (by decide) (fun _ => ?_) (fun h => absurd h (by decide))
    refine rd_aload_n C dX10_run_10 rfl ?_
    refine rd_callV C (c_X10_save hst0) rm_X10_76 ri_X10_save rs_X10_save rc_X10_save rz_X10 ⟨rp_X10_save, rfl, rfl, by decide, by decide⟩ rfl rd_kcl10 dX10_run_11 rd_c0 rd_m0 rfl (Nat.le_of_ble_eq_true rfl) (fun v1 w1 hq => ?_)
    obtain ⟨hv1, hm1⟩ := hq; rw [hv1, show w1 = mo_sv κ0 from hm1]; clear hv1 hm1
    refine rd_aload_n C dX10_run_14 rfl ?_
    refine rd_iconst C dX10_run_15 (n := 0) ⟨by decide, by decide⟩ ?_
    refine rd_put C rd_p10_4 rf_X10_116 dX10_run_16 rd_c0 rd_m0 trivial ?_
    refine rd_iconst C dX10_run_19 (n := 0) ⟨by decide, by decide⟩ ?_
    refine rd_istore_n C dX10_run_20 (by decide) (L' := [rd_R 0, rd_I 0, rd_J, rd_J, rd_J]) rfl ?_
    refine rd_iconst C dX10_run_21 (n := 0) ⟨by decide, by decide⟩ ?_
    refine rd_istore_n C dX10_run_22 (by decide) (L' := [rd_R 0, rd_I 0, rd_I 0, rd_J, rd_J]) rfl ?_
    refine rd_iconst C dX10_run_23 (n := 1) ⟨by decide, by decide⟩ ?_
    refine rd_istore_n C dX10_run_24 (by decide) (L' := [rd_R 0, rd_I 0, rd_I 0, rd_I 1, rd_J]) rfl ?_
    refine rd_iconst C dX10_run_25 (n := 0) ⟨by decide, by decide⟩ ?_
    refine rd_istore C dX10_run_26 (by decide) (L' := [rd_R 0, rd_I 0, rd_I 0, rd_I 1, rd_I 0]) rfl ?_
    refine rd_iload_n C dX10_run_28 rfl ?_
    refine rd_if_eq C dX10_run_29 (tgt := 92) (by decide) (fun h => absurd h (by decide)) (fun _ => ?_)
    have lp32 : ∀ (n : Nat) (x : Int) (j2 j4 : rd_X) (μ1 : rd_Mem), (0 ≤ μ1 0 4) → (μ1 0 4 ≤ μ 0 3) → (μ 0 3 - μ1 0 4 < n) → (0 ≤ x ∧ x ≤ μ1 0 4) → (sp_flt (μ 2) (μ 0 3 - μ1 0 4).toNat (μ1 0 4) 0 = -6) → (mo_J μ1) → (μ1 0 3 = μ 0 3) → (μ1 2 = μ 2) → (∀ (R : Int) (M : rd_Mem) (f : Int), mo_rn (sp_mvs (μ 2) (μ 0 3) (μ 0 3 - (μ1 0 4)).toNat (μ1 0 4)) μ1 x R M f → mo_rn (sp_mvs (μ 2) (μ 0 3) (μ 0 3).toNat 0) (mo_sv κ0) 0 R M f) → rd_W p l e (rd_rm 7 150) s m args below meth c (MQ below (rd_Qc G rd_km 5 r (fun v μ' => (sp_flt (μ 2) (μ 0 3).toNat 0 0 ≠ -6 ∧ v = some (rd_I (-3)) ∧ mo_k3 μ' μ) ∨ (sp_flt (μ 2) (μ 0 3).toNat 0 0 = -6 ∧ ∃ (κ : rd_Mem) (R : Int) (M : rd_Mem) (f : Int), mo_k3 κ μ ∧ mo_rn (sp_mvs (μ 2) (μ 0 3) (μ 0 3).toNat 0) (mo_sv κ) 0 R M f ∧ v = some (rd_I R) ∧ μ' = mo_rp M R f))) args s 0 0 (rd_A r 5)) 5 G rd_km 5 r 32 [rd_R 0, rd_I x, j2, rd_I 1, j4] [] μ1 := by
      intro n
      induction n with
      | zero => intro x j2 j4 μ1  h4a h4b h4c hx hF hJ1 hL3 ht2 hrn; exfalso; omega
      | succ n ih =>
        intro x j2 j4 μ1  h4a h4b h4c hx hF hJ1 hL3 ht2 hrn
        refine rd_aload_n C dX10_run_32 rfl ?_
        refine rd_get C rd_g10_4 rf_X10_116 dX10_run_33 rd_c0 rd_m0 (x := rd_I (μ1 0 4)) rfl (fun h => h _ _) ?_
        refine rd_istore_n C dX10_run_36 (by decide) (L' := [rd_R 0, rd_I x, rd_I (μ1 0 4), rd_I 1, j4]) rfl ?_
        refine rd_aload_n C dX10_run_37 rfl ?_
        refine rd_callV C (c_X10_readsMove (by omega) (by omega)) rm_X10_131 ri_X10_readsMove rs_X10_readsMove rc_X10_readsMove rz_X10 ⟨rp_X10_readsMove, rfl, rfl, by decide, by decide⟩ rfl rd_kcl10 dX10_run_38 rd_c0 rd_m0 rfl (Nat.le_of_ble_eq_true rfl) (fun v1 w1 hq => ?_)
        obtain ⟨a', n', b, hr, hv1, hm1⟩ := hq
        rw [hv1, hm1]; clear hv1 hm1 v1 w1
        have hk3 := mo_w3_k3 μ1 a' (mo_sq (μ1 2) (μ1 0 3) (μ1 0 4)) n'
        obtain ⟨f4, f5, f6, f3⟩ := mo_w3_4 μ1 a' (mo_sq (μ1 2) (μ1 0 3) (μ1 0 4)) n'
        have f2 := mo_k3_1 hk3 (p := 2) (by decide)
        rw [hL3, ht2] at hr
        generalize mo_w3 μ1 a' (mo_sq (μ1 2) (μ1 0 3) (μ1 0 4)) n' = ν at *
        rw [hL3] at f3; rw [ht2] at f2
        obtain rfl : b = 1 := by
          rcases mo_rd_b hr with h | h
          · exact h
          · subst h; have hno := mo_rd_no h4b hr; omega
        obtain ⟨⟨hr1, hr2⟩, hr3, hr4, hr5, hr6, hr7, hr8⟩ := mo_rd_ok h4b hr
        rw [hL3, ht2, hr4] at f5
        have h59 : a' = μ 0 3 ∨ (a' < μ 0 3 ∧ μ 2 a' = 59 ∧ sp_flt (μ 2) (μ 0 3 - a').toNat a' 4 = sp_flt (μ 2) (μ 0 3 - (a' + 1)).toNat (a' + 1) 0 ∧ sp_mvs (μ 2) (μ 0 3) (μ 0 3 - a').toNat a' = sp_mvs (μ 2) (μ 0 3) (μ 0 3 - (a' + 1)).toNat (a' + 1)) := by
          rcases sp_fl_4 (t := μ 2) hr2 with ⟨g, -⟩ | g | ⟨g, -, g3⟩
          · exact Or.inl g
          · exact Or.inr g
          · omega
        obtain ⟨nb, hr5, hr9⟩ := hr5 (h59.elim Or.inl (fun g => Or.inr g.2.1))
        obtain ⟨hq1, hq2⟩ := mo_q (ν := ν) (q := n') (q' := nb) hr8 hr9
        have hJν := mo_J_k hk3 hJ1
        refine rd_pop C dX10_run_41 ?_
        refine rd_aload_n C dX10_run_42 rfl ?_
        refine rd_callV C (c_X10_isMade hJν (by rw [f5, f6]; exact hr6)) rm_X10_137 ri_X10_isMade rs_X10_isMade rc_X10_isMade rz_X10 ⟨rp_X10_isMade, rfl, rfl, by decide, by decide⟩ rfl rd_kcl10 dX10_run_43 rd_c0 rd_m0 rfl (Nat.le_of_ble_eq_true rfl) (fun v1 w1 hq => ?_)
        rw [f5, f6] at hq
        rcases hq with ⟨hw_46, hv1, hm1⟩ | ⟨hw_46, hv1, hm1⟩
        · rw [hv1, hm1]; clear hv1 hm1 v1 w1
          have ho := (mo_md_o hJν.1 hw_46).2 0 (by decide)
          have ho2 := (mo_md_o hJν.1 hw_46).2 2 (by decide)
          have hJm := mo_md_J hJν hw_46 (fun h => hr6 h)
          have hn1 := hrn
          generalize hM : mo_md ν (μ 2 (μ1 0 4)) n' = M at *
          have m4 : M 0 4 = a' := by rw [ho]; exact f4
          have m3 : M 0 3 = μ 0 3 := by rw [ho]; exact f3
          have m2 : M 2 = μ 2 := by rw [ho2]; exact f2
          refine rd_if_ne C dX10_run_46 (tgt := 53) (by decide) (fun _ => ?_) (fun h => absurd h (by decide))
          refine rd_iconst C dX10_run_53 (n := 0) ⟨by decide, by decide⟩ ?_
          refine rd_istore C dX10_run_54 (by decide) (L' := [rd_R 0, rd_I x, rd_I (μ1 0 4), rd_I 1, rd_I 0]) rfl ?_
          refine rd_iload_n C dX10_run_56 rfl ?_
          refine rd_iload C dX10_run_57 rfl ?_
          refine rd_if_eq C dX10_run_59 (tgt := 66) (by decide) (fun _ => ?_) (fun h => absurd h (by decide))
          refine rd_iconst C dX10_run_66 (n := 1) ⟨by decide, by decide⟩ ?_
          refine rd_iadd C dX10_run_67 (z := x + 1) rfl ⟨by omega, by omega⟩ ?_
          refine rd_istore_n C dX10_run_68 (by decide) (L' := [rd_R 0, rd_I (x + 1), rd_I (μ1 0 4), rd_I 1, rd_I 0]) rfl ?_
          refine rd_iload C dX10_run_69 rfl ?_
          refine rd_if_ne C dX10_run_71 (tgt := 87) (by decide) (fun h => absurd h (by decide)) (fun _ => ?_)
          refine rd_aload_n C dX10_run_74 rfl ?_
          refine rd_bipush C dX10_run_75 (n := 59) (by decide) ⟨by decide, by decide⟩ ?_
          refine rd_callV C (c_X10_takes (by omega) (by omega)) rm_X10_125 ri_X10_takes rs_X10_takes rc_X10_takes rz_X10 ⟨rp_X10_takes, rfl, rfl, by decide, by decide⟩ rfl rd_kcl10 dX10_run_77 rd_c0 rd_m0 rfl (Nat.le_of_ble_eq_true rfl) (fun v1 w1 hq => ?_)
          rw [m4, m3, m2] at hq
          rcases hq with ⟨hw_80, hv1, hm1⟩ | ⟨hw_80, hv1, hm1⟩
          · rw [hv1, hm1]; clear hv1 hm1 v1 w1
            refine rd_if_eq C dX10_run_80 (tgt := 87) (by decide) (fun h => absurd h (by decide)) (fun _ => ?_)
            refine rd_iconst C dX10_run_83 (n := 1) ⟨by decide, by decide⟩ ?_
            refine rd_goto C dX10_run_84 (tgt := 88) (by decide) ?_
            refine rd_istore_n C dX10_run_88 (by decide) (L' := [rd_R 0, rd_I (x + 1), rd_I (μ1 0 4), rd_I 1, rd_I 0]) rfl ?_
            refine rd_goto C dX10_run_89 (tgt := 28) (by decide) ?_
            refine rd_iload_n C dX10_run_28 rfl ?_
            refine rd_if_eq C dX10_run_29 (tgt := 92) (by decide) (fun h => absurd h (by decide)) (fun _ => ?_)
            obtain ⟨g1, g2⟩ := sp_sq_lt hw_80 (by decide)
            obtain ⟨-, -, g3, g4⟩ := h59.resolve_left (by omega)
            exact ih _ _ _ _ (by rw [rd_u_s]; omega) (by rw [rd_u_s]; omega) (by rw [rd_u_s]; omega) (by rw [rd_u_s]; omega) (by rw [rd_u_s, ← g3, ← hr3]; exact hF) (mo_J_k (mo_k3_u (mo_k3_r _)) hJm) (by rw [rd_u_j _ _ _ (by decide)]; exact m3) (by rw [rd_u_ne _ _ _ (by decide)]; exact m2) (fun R M' f h => hrn R M' f (by rw [rd_u_s] at h; rw [hr5, g4]; exact Or.inr ⟨ν, hk3, hq1.mp hw_46, by rw [← hq2]; exact mo_rn_k (mo_k3_u (mo_k3_r _)) h⟩))
          · rw [hv1, hm1]; clear hv1 hm1 v1 w1
            refine rd_if_eq C dX10_run_80 (tgt := 87) (by decide) (fun _ => ?_) (fun h => absurd h (by decide))
            refine rd_iconst C dX10_run_87 (n := 0) ⟨by decide, by decide⟩ ?_
            refine rd_istore_n C dX10_run_88 (by decide) (L' := [rd_R 0, rd_I (x + 1), rd_I (μ1 0 4), rd_I 0, rd_I 0]) rfl ?_
            refine rd_goto C dX10_run_89 (tgt := 28) (by decide) ?_
            refine rd_iload_n C dX10_run_28 rfl ?_
            refine rd_if_eq C dX10_run_29 (tgt := 92) (by decide) (fun _ => ?_) (fun h => absurd h (by decide))
            refine rd_aload_n C dX10_run_92 rfl ?_
            refine rd_get C rd_g10_7 rf_X10_16 dX10_run_93 rd_c0 rd_m0 (x := rd_R (3)) rfl (fun _ => trivial) ?_
            refine rd_iconst C dX10_run_96 (n := 0) ⟨by decide, by decide⟩ ?_
            refine rd_iload C dX10_run_97 rfl ?_
            refine rd_if_eq C dX10_run_99 (tgt := 106) (by decide) (fun _ => ?_) (fun h => absurd h (by decide))
            refine rd_bipush C dX10_run_106 (n := -6) (by decide) ⟨by decide, by decide⟩ ?_
            refine rd_iast C rd_ai20 dX10_run_108 rd_c3 rd_m3 ⟨by omega, by omega⟩ ?_
            refine rd_aload_n C dX10_run_109 rfl ?_
            refine rd_get C rd_g10_7 rf_X10_16 dX10_run_110 rd_c0 rd_m0 (x := rd_R (3)) rfl (fun _ => trivial) ?_
            refine rd_iconst C dX10_run_113 (n := 1) ⟨by decide, by decide⟩ ?_
            refine rd_iload C dX10_run_114 rfl ?_
            refine rd_if_eq C dX10_run_116 (tgt := 123) (by decide) (fun _ => ?_) (fun h => absurd h (by decide))
            refine rd_bipush C dX10_run_123 (n := -6) (by decide) ⟨by decide, by decide⟩ ?_
            refine rd_iast C rd_ai20 dX10_run_125 rd_c3 rd_m3 ⟨by omega, by omega⟩ ?_
            refine rd_aload_n C dX10_run_126 rfl ?_
            refine rd_get C rd_g10_7 rf_X10_16 dX10_run_127 rd_c0 rd_m0 (x := rd_R (3)) rfl (fun _ => trivial) ?_
            refine rd_iconst C dX10_run_130 (n := 2) ⟨by decide, by decide⟩ ?_
            refine rd_iload C dX10_run_131 rfl ?_
            refine rd_if_eq C dX10_run_133 (tgt := 157) (by decide) (fun _ => ?_) (fun h => absurd h (by decide))
            refine rd_bipush C dX10_run_157 (n := -6) (by decide) ⟨by decide, by decide⟩ ?_
            refine rd_iast C rd_ai20 dX10_run_159 rd_c3 rd_m3 ⟨by omega, by omega⟩ ?_
            refine rd_aload_n C dX10_run_160 rfl ?_
            refine rd_get C rd_g10_7 rf_X10_16 dX10_run_161 rd_c0 rd_m0 (x := rd_R (3)) rfl (fun _ => trivial) ?_
            refine rd_iconst C dX10_run_164 (n := 3) ⟨by decide, by decide⟩ ?_
            refine rd_iload C dX10_run_165 rfl ?_
            refine rd_if_eq C dX10_run_167 (tgt := 191) (by decide) (fun _ => ?_) (fun h => absurd h (by decide))
            refine rd_bipush C dX10_run_191 (n := -6) (by decide) ⟨by decide, by decide⟩ ?_
            refine rd_iast C rd_ai20 dX10_run_193 rd_c3 rd_m3 ⟨by omega, by omega⟩ ?_
            refine rd_iload_n C dX10_run_194 rfl ?_
            exact rd_iret C dX10_run_195 (Or.inr ⟨hw_4, κ0, x + 1, M, -1, hk, hrn _ _ _ (by
              have hL : a' = μ 0 3 := h59.elim id (fun g => absurd ((sp_sq_e g.1).trans g.2.1) hw_80)
              rw [hr5, hL, show μ 0 3 - μ 0 3 = 0 by omega]
              exact Or.inr ⟨ν, hk3, hq1.mp hw_46, by rw [← hq2]; exact ⟨mo_k3_r _, rfl, rfl⟩⟩), rfl, mo_rp_e (by rw [if_pos rfl]) (by rw [if_pos rfl]) (by rw [if_pos (Or.inl rfl)]) (by rw [if_pos (Or.inl rfl)])⟩)
        · rw [hv1, hm1]; clear hv1 hm1 v1 w1
          refine rd_if_ne C dX10_run_46 (tgt := 53) (by decide) (fun h => absurd h (by decide)) (fun _ => ?_)
          refine rd_iconst C dX10_run_49 (n := 1) ⟨by decide, by decide⟩ ?_
          refine rd_goto C dX10_run_50 (tgt := 54) (by decide) ?_
          refine rd_istore C dX10_run_54 (by decide) (L' := [rd_R 0, rd_I x, rd_I (μ1 0 4), rd_I 1, rd_I 1]) rfl ?_
          refine rd_iload_n C dX10_run_56 rfl ?_
          refine rd_iload C dX10_run_57 rfl ?_
          refine rd_if_eq C dX10_run_59 (tgt := 66) (by decide) (fun h => absurd h (by decide)) (fun _ => ?_)
          refine rd_iconst C dX10_run_62 (n := 0) ⟨by decide, by decide⟩ ?_
          refine rd_goto C dX10_run_63 (tgt := 67) (by decide) ?_
          refine rd_iadd C dX10_run_67 (z := x + 0) rfl ⟨by omega, by omega⟩ ?_
          refine rd_istore_n C dX10_run_68 (by decide) (L' := [rd_R 0, rd_I (x + 0), rd_I (μ1 0 4), rd_I 1, rd_I 1]) rfl ?_
          refine rd_iload C dX10_run_69 rfl ?_
          refine rd_if_ne C dX10_run_71 (tgt := 87) (by decide) (fun _ => ?_) (fun h => absurd h (by decide))
          refine rd_iconst C dX10_run_87 (n := 0) ⟨by decide, by decide⟩ ?_
          refine rd_istore_n C dX10_run_88 (by decide) (L' := [rd_R 0, rd_I (x + 0), rd_I (μ1 0 4), rd_I 0, rd_I 1]) rfl ?_
          refine rd_goto C dX10_run_89 (tgt := 28) (by decide) ?_
          refine rd_iload_n C dX10_run_28 rfl ?_
          refine rd_if_eq C dX10_run_29 (tgt := 92) (by decide) (fun _ => ?_) (fun h => absurd h (by decide))
          refine rd_aload_n C dX10_run_92 rfl ?_
          refine rd_get C rd_g10_7 rf_X10_16 dX10_run_93 rd_c0 rd_m0 (x := rd_R (3)) rfl (fun _ => trivial) ?_
          refine rd_iconst C dX10_run_96 (n := 0) ⟨by decide, by decide⟩ ?_
          refine rd_iload C dX10_run_97 rfl ?_
          refine rd_if_eq C dX10_run_99 (tgt := 106) (by decide) (fun h => absurd h (by decide)) (fun _ => ?_)
          refine rd_iload_n C dX10_run_102 rfl ?_
          refine rd_goto C dX10_run_103 (tgt := 108) (by decide) ?_
          refine rd_iast C rd_ai20 dX10_run_108 rd_c3 rd_m3 ⟨by omega, by omega⟩ ?_
          refine rd_aload_n C dX10_run_109 rfl ?_
          refine rd_get C rd_g10_7 rf_X10_16 dX10_run_110 rd_c0 rd_m0 (x := rd_R (3)) rfl (fun _ => trivial) ?_
          refine rd_iconst C dX10_run_113 (n := 1) ⟨by decide, by decide⟩ ?_
          refine rd_iload C dX10_run_114 rfl ?_
          refine rd_if_eq C dX10_run_116 (tgt := 123) (by decide) (fun h => absurd h (by decide)) (fun _ => ?_)
          refine rd_iload_n C dX10_run_119 rfl ?_
          refine rd_goto C dX10_run_120 (tgt := 125) (by decide) ?_
          refine rd_iast C rd_ai20 dX10_run_125 rd_c3 rd_m3 ⟨by omega, by omega⟩ ?_
          refine rd_aload_n C dX10_run_126 rfl ?_
          refine rd_get C rd_g10_7 rf_X10_16 dX10_run_127 rd_c0 rd_m0 (x := rd_R (3)) rfl (fun _ => trivial) ?_
          refine rd_iconst C dX10_run_130 (n := 2) ⟨by decide, by decide⟩ ?_
          refine rd_iload C dX10_run_131 rfl ?_
          refine rd_if_eq C dX10_run_133 (tgt := 157) (by decide) (fun h => absurd h (by decide)) (fun _ => ?_)
          refine rd_aload_n C dX10_run_136 rfl ?_
          refine rd_get C rd_g10_0 rf_X10_7 dX10_run_137 rd_c0 rd_m0 (x := rd_R (1)) rfl (fun _ => trivial) ?_
          refine rd_bipush C dX10_run_140 (n := 29) (by decide) ⟨by decide, by decide⟩ ?_
          refine rd_ialdx C rd_ai18 dX10_run_142 rd_c1 rd_m1 ⟨by omega, by omega⟩ (z := ν 1 29) (by rw [rd_u_k _ _ _ (by omega), rd_u_k _ _ _ (by omega)]) ?_
          refine rd_iconst C dX10_run_143 (n := 1) ⟨by decide, by decide⟩ ?_
          refine rd_icmp_ne C dX10_run_144 (tgt := 157) (by decide) (fun h_144 => ?_) (fun h_144 => ?_)
          · refine rd_bipush C dX10_run_157 (n := -6) (by decide) ⟨by decide, by decide⟩ ?_
            refine rd_iast C rd_ai20 dX10_run_159 rd_c3 rd_m3 ⟨by omega, by omega⟩ ?_
            refine rd_aload_n C dX10_run_160 rfl ?_
            refine rd_get C rd_g10_7 rf_X10_16 dX10_run_161 rd_c0 rd_m0 (x := rd_R (3)) rfl (fun _ => trivial) ?_
            refine rd_iconst C dX10_run_164 (n := 3) ⟨by decide, by decide⟩ ?_
            refine rd_iload C dX10_run_165 rfl ?_
            refine rd_if_eq C dX10_run_167 (tgt := 191) (by decide) (fun h => absurd h (by decide)) (fun _ => ?_)
            refine rd_aload_n C dX10_run_170 rfl ?_
            refine rd_get C rd_g10_0 rf_X10_7 dX10_run_171 rd_c0 rd_m0 (x := rd_R (1)) rfl (fun _ => trivial) ?_
            refine rd_bipush C dX10_run_174 (n := 29) (by decide) ⟨by decide, by decide⟩ ?_
            refine rd_ialdx C rd_ai18 dX10_run_176 rd_c1 rd_m1 ⟨by omega, by omega⟩ (z := ν 1 29) (by rw [rd_u_k _ _ _ (by omega), rd_u_k _ _ _ (by omega), rd_u_k _ _ _ (by omega)]) ?_
            refine rd_iconst C dX10_run_177 (n := 1) ⟨by decide, by decide⟩ ?_
            refine rd_icmp_ne C dX10_run_178 (tgt := 191) (by decide) (fun h_178 => ?_) (fun h_178 => ?_)
            · refine rd_bipush C dX10_run_191 (n := -6) (by decide) ⟨by decide, by decide⟩ ?_
              refine rd_iast C rd_ai20 dX10_run_193 rd_c3 rd_m3 ⟨by omega, by omega⟩ ?_
              refine rd_iload_n C dX10_run_194 rfl ?_
              exact rd_iret C dX10_run_195 (Or.inr ⟨hw_4, κ0, x + 0, ν, μ1 0 4, hk, hrn _ _ _ (by rw [hr5, show x + 0 = x by omega]; exact Or.inl ⟨hk3, (fun h => hw_46 (hq1.mpr h)), rfl, rfl⟩), rfl, mo_rp_e (by rw [if_neg (by omega)]) (by rw [if_neg (by omega)]) (by rw [if_pos (Or.inr (by assumption))]) (by rw [if_pos (Or.inr (by assumption))])⟩)
            · exfalso; omega
          · refine rd_aload_n C dX10_run_147 rfl ?_
            refine rd_get C rd_g10_0 rf_X10_7 dX10_run_148 rd_c0 rd_m0 (x := rd_R (1)) rfl (fun _ => trivial) ?_
            refine rd_bipush C dX10_run_151 (n := 30) (by decide) ⟨by decide, by decide⟩ ?_
            refine rd_ialdx C rd_ai18 dX10_run_153 rd_c1 rd_m1 ⟨by omega, by omega⟩ (z := ν 1 30) (by rw [rd_u_k _ _ _ (by omega), rd_u_k _ _ _ (by omega)]) ?_
            refine rd_goto C dX10_run_154 (tgt := 159) (by decide) ?_
            refine rd_iast C rd_ai20 dX10_run_159 rd_c3 rd_m3 ⟨by omega, by omega⟩ ?_
            refine rd_aload_n C dX10_run_160 rfl ?_
            refine rd_get C rd_g10_7 rf_X10_16 dX10_run_161 rd_c0 rd_m0 (x := rd_R (3)) rfl (fun _ => trivial) ?_
            refine rd_iconst C dX10_run_164 (n := 3) ⟨by decide, by decide⟩ ?_
            refine rd_iload C dX10_run_165 rfl ?_
            refine rd_if_eq C dX10_run_167 (tgt := 191) (by decide) (fun h => absurd h (by decide)) (fun _ => ?_)
            refine rd_aload_n C dX10_run_170 rfl ?_
            refine rd_get C rd_g10_0 rf_X10_7 dX10_run_171 rd_c0 rd_m0 (x := rd_R (1)) rfl (fun _ => trivial) ?_
            refine rd_bipush C dX10_run_174 (n := 29) (by decide) ⟨by decide, by decide⟩ ?_
            refine rd_ialdx C rd_ai18 dX10_run_176 rd_c1 rd_m1 ⟨by omega, by omega⟩ (z := ν 1 29) (by rw [rd_u_k _ _ _ (by omega), rd_u_k _ _ _ (by omega), rd_u_k _ _ _ (by omega)]) ?_
            refine rd_iconst C dX10_run_177 (n := 1) ⟨by decide, by decide⟩ ?_
            refine rd_icmp_ne C dX10_run_178 (tgt := 191) (by decide) (fun h_178 => ?_) (fun h_178 => ?_)
            · exfalso; omega
            · refine rd_aload_n C dX10_run_181 rfl ?_
              refine rd_get C rd_g10_0 rf_X10_7 dX10_run_182 rd_c0 rd_m0 (x := rd_R (1)) rfl (fun _ => trivial) ?_
              refine rd_bipush C dX10_run_185 (n := 31) (by decide) ⟨by decide, by decide⟩ ?_
              refine rd_ialdx C rd_ai18 dX10_run_187 rd_c1 rd_m1 ⟨by omega, by omega⟩ (z := ν 1 31) (by rw [rd_u_k _ _ _ (by omega), rd_u_k _ _ _ (by omega), rd_u_k _ _ _ (by omega)]) ?_
              refine rd_goto C dX10_run_188 (tgt := 193) (by decide) ?_
              refine rd_iast C rd_ai20 dX10_run_193 rd_c3 rd_m3 ⟨by omega, by omega⟩ ?_
              refine rd_iload_n C dX10_run_194 rfl ?_
              exact rd_iret C dX10_run_195 (Or.inr ⟨hw_4, κ0, x + 0, ν, μ1 0 4, hk, hrn _ _ _ (by rw [hr5, show x + 0 = x by omega]; exact Or.inl ⟨hk3, (fun h => hw_46 (hq1.mpr h)), rfl, rfl⟩), rfl, mo_rp_e (by rw [if_neg (by omega)]) (by rw [if_neg (by omega)]) (by rw [if_neg (fun h => h.elim (by omega) (fun h => h h_144))]) (by rw [if_neg (fun h => h.elim (by omega) (fun h => h h_144))])⟩)
    exact lp32 ((μ 0 3).toNat + 1) 0 _ _ _ (by rw [rd_u_s]; omega) (by rw [rd_u_s]; omega) (by rw [rd_u_s]; omega) (by rw [rd_u_s]; omega) (by rw [rd_u_s, show μ 0 3 - 0 = μ 0 3 by omega]; exact hw_4) (mo_J_k (mo_k3_u (mo_k3_r _)) hJs) (by rw [rd_u_j _ _ _ (by decide)]; exact hs3) (by rw [rd_u_ne _ _ _ (by decide)]; exact hs2) (fun R M f h => by rw [rd_u_s, show μ 0 3 - 0 = μ 0 3 by omega] at h; exact mo_rn_k (mo_k3_u (mo_k3_r _)) h)
  · rw [hv1]; clear hv1
    generalize w1 = κ0 at *
    refine rd_if_ne C dX10_run_4 (tgt := 10) (by decide) (fun h => absurd h (by decide)) (fun _ => ?_)
    refine rd_bipush C dX10_run_7 (n := -3) (by decide) ⟨by decide, by decide⟩ ?_
    exact rd_iret C dX10_run_9 (Or.inl ⟨by omega, rfl, hk⟩)
