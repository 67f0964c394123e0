/-! what is left, as the check counts it -/
noncomputable def mo_ml (μ : rd_Mem) (a : Int) (n : Nat) : Int := sp_sum (fun i => sp_if (mo_o μ (μ 1 (1 + (a + i))) 1 = 0) (mo_FS μ (μ 1 (1 + (a + i))) + 1) 0) n
def mo_inj (μ : rd_Mem) : Prop := ∀ i : Int, 0 ≤ i → i < μ 1 0 → mo_pl μ (μ 1 (1 + i)) = i
/-- the seconds from a slide, a step and a waited time on; as many moves as are looked at -/
noncomputable def mo_rs (μ : rd_Mem) : Nat → Int → Int → Int → Int → Int
  | 0, _, _, _, x => x
  | f + 1, n, st, w, x => sp_if (st < mo_FS μ n ∨ mo_nx μ (mo_pl μ n + 1) ≠ -1) (sp_if (mo_o μ n 2 = 0) (-6) (mo_rs μ f (if st = mo_FS μ n then mo_nx μ (mo_pl μ n + 1) else n) (if st = mo_FS μ n then 0 else st + 1) 0 (rd_w (x + (if 1 ≤ rd_w (mo_o μ n 2 - w) then rd_w (mo_o μ n 2 - w) else 1))))) x
theorem mo_rs_o {μ : rd_Mem} {f : Nat} {n st w x : Int} (h : ¬ (st < mo_FS μ n ∨ mo_nx μ (mo_pl μ n + 1) ≠ -1)) : mo_rs μ f n st w x = x := by
  cases f with
  | zero => rfl
  | succ f => simp only [mo_rs]; exact sp_iff h _ _
theorem mo_rs_z {μ : rd_Mem} {f : Nat} {n st w x : Int} (hf : 0 < f) (h : st < mo_FS μ n ∨ mo_nx μ (mo_pl μ n + 1) ≠ -1) (h0 : mo_o μ n 2 = 0) : mo_rs μ f n st w x = -6 := by
  obtain ⟨m, rfl⟩ : ∃ m, f = m + 1 := ⟨f - 1, by omega⟩
  simp only [mo_rs]; rw [sp_ift h, sp_ift h0]
theorem mo_rs_s {μ : rd_Mem} {f : Nat} {n st w x : Int} (hf : 0 < f) (h : st < mo_FS μ n ∨ mo_nx μ (mo_pl μ n + 1) ≠ -1) (h0 : mo_o μ n 2 ≠ 0) : mo_rs μ f n st w x = mo_rs μ (f - 1) (if st = mo_FS μ n then mo_nx μ (mo_pl μ n + 1) else n) (if st = mo_FS μ n then 0 else st + 1) 0 (rd_w (x + (if 1 ≤ rd_w (mo_o μ n 2 - w) then rd_w (mo_o μ n 2 - w) else 1))) := by
  obtain ⟨m, rfl⟩ : ∃ m, f = m + 1 := ⟨f - 1, by omega⟩
  simp only [mo_rs]; rw [sp_ift h, sp_iff h0]; rfl
theorem mo_nx_p {μ : rd_Mem} (hi : mo_inj μ) {a : Int} (ha : 0 ≤ a) (h : mo_nx μ a ≠ -1) : a ≤ mo_pl μ (mo_nx μ a) ∧ mo_pl μ (mo_nx μ a) < μ 1 0 ∧ mo_o μ (mo_nx μ a) 1 = 0 := by
  unfold mo_nx at h ⊢
  rcases sp_nx_spec (fun i => μ 1 (1 + i)) (fun n => mo_o μ n 1 = 0) (μ 1 0 - a).toNat a with ⟨h1, -⟩ | ⟨k, ⟨h1, h2⟩, h3, h4, -⟩
  · exact absurd h1 h
  · rw [h3, hi k (by omega) (by omega)]; exact ⟨h1, by omega, h4⟩
set_option maxHeartbeats 4000000 in
set_option maxRecDepth 100000 in
theorem c_X10_movesLeft {l : Launch} {G : rd_G} {r : Nat} {μ : rd_Mem} (hI : mo_I μ) (h29 : μ 1 29 ≠ 0 → μ 1 29 = 1) : rd_M l G rd_km 5 r yX10_movesLeft cX10_movesLeft 3 (some .int) (rd_rm 2 47) [rd_R 0] μ (fun v μ' => (μ 1 29 = 0 ∧ v = some (rd_I (-6)) ∧ μ' = μ) ∨ (μ 1 29 ≠ 0 ∧ v = some (rd_I (mo_FS μ (μ 1 30) - μ 1 31 + mo_ml μ (mo_pl μ (μ 1 30) + 1) (μ 1 0 - (mo_pl μ (μ 1 30) + 1)).toNat)) ∧ μ' = μ)) := by
  refine rd_enter (by decide +kernel) (Nat.le_of_ble_eq_true rfl) [rd_R 0, rd_J, rd_J] rfl (fun p e s m args below meth c C => ?_)
  refine rd_W.rng (fun hM hL _ => ?_)
  have hcn := hI.1.1.1
  have hs31 := hI.2.2.1
  refine rd_aload_n C dX10_movesLeft_0 rfl ?_
  refine rd_get C rd_g10_0 rf_X10_7 dX10_movesLeft_1 rd_c0 rd_m0 (x := rd_R (1)) rfl (fun _ => trivial) ?_
  refine rd_bipush C dX10_movesLeft_4 (n := 29) (by decide) ⟨by decide, by decide⟩ ?_
  refine rd_ialdx C rd_ai18 dX10_movesLeft_6 rd_c1 rd_m1 ⟨by omega, by omega⟩ (z := μ 1 29) rfl ?_
  refine rd_if_ne C dX10_movesLeft_7 (tgt := 13) (by decide) (fun h_7 => ?_) (fun h_7 => ?_)
  · have hat := mo_I_at hI (h29 h_7)
    have hfr := mo_FS_r hat.2.1
    have hp1 := hat.2.2.1
    have hp2 := hat.2.2.2
    refine rd_aload_n C dX10_movesLeft_13 rfl ?_
    refine rd_aload_n C dX10_movesLeft_14 rfl ?_
    refine rd_get C rd_g10_0 rf_X10_7 dX10_movesLeft_15 rd_c0 rd_m0 (x := rd_R (1)) rfl (fun _ => trivial) ?_
    refine rd_bipush C dX10_movesLeft_18 (n := 30) (by decide) ⟨by decide, by decide⟩ ?_
    refine rd_ialdx C rd_ai18 dX10_movesLeft_20 rd_c1 rd_m1 ⟨by omega, by omega⟩ (z := μ 1 30) rfl ?_
    refine rd_callV C (c_X10_finalStep hat.1 hat.2.1) rm_X10_48 ri_X10_finalStep rs_X10_finalStep rc_X10_finalStep rz_X10 ⟨rp_X10_finalStep, rfl, rfl, by decide, by decide⟩ rfl rd_kcl10 dX10_movesLeft_21 rd_c0 rd_m0 rfl (Nat.le_of_ble_eq_true rfl) (fun v1 w1 hq => ?_)
    obtain ⟨hv1, hm1⟩ := hq; rw [show v1 = some (rd_I (mo_FS μ (μ 1 30))) from hv1, hm1]; clear hv1 hm1
    refine rd_aload_n C dX10_movesLeft_24 rfl ?_
    refine rd_get C rd_g10_0 rf_X10_7 dX10_movesLeft_25 rd_c0 rd_m0 (x := rd_R (1)) rfl (fun _ => trivial) ?_
    refine rd_bipush C dX10_movesLeft_28 (n := 31) (by decide) ⟨by decide, by decide⟩ ?_
    refine rd_ialdx C rd_ai18 dX10_movesLeft_30 rd_c1 rd_m1 ⟨by omega, by omega⟩ (z := μ 1 31) rfl ?_
    refine rd_isub C dX10_movesLeft_31 (z := mo_FS μ (μ 1 30) - (μ 1 31)) rfl ⟨by omega, by omega⟩ ?_
    refine rd_istore_n C dX10_movesLeft_32 (by decide) (L' := [rd_R 0, rd_I (mo_FS μ (μ 1 30) - (μ 1 31)), rd_J]) rfl ?_
    refine rd_aload_n C dX10_movesLeft_33 rfl ?_
    refine rd_aload_n C dX10_movesLeft_34 rfl ?_
    refine rd_get C rd_g10_0 rf_X10_7 dX10_movesLeft_35 rd_c0 rd_m0 (x := rd_R (1)) rfl (fun _ => trivial) ?_
    refine rd_bipush C dX10_movesLeft_38 (n := 30) (by decide) ⟨by decide, by decide⟩ ?_
    refine rd_ialdx C rd_ai18 dX10_movesLeft_40 rd_c1 rd_m1 ⟨by omega, by omega⟩ (z := μ 1 30) rfl ?_
    refine rd_callV C (c_X10_placeOf hI.1.1 hat.2.2) rm_X10_37 ri_X10_placeOf rs_X10_placeOf rc_X10_placeOf rz_X10 ⟨rp_X10_placeOf, rfl, rfl, by decide, by decide⟩ rfl rd_kcl10 dX10_movesLeft_41 rd_c0 rd_m0 rfl (Nat.le_of_ble_eq_true rfl) (fun v1 w1 hq => ?_)
    obtain ⟨hv1, hm1⟩ := hq; rw [show v1 = some (rd_I (mo_pl μ (μ 1 30))) from hv1, hm1]; clear hv1 hm1
    refine rd_iconst C dX10_movesLeft_44 (n := 1) ⟨by decide, by decide⟩ ?_
    refine rd_iadd C dX10_movesLeft_45 (z := mo_pl μ (μ 1 30) + 1) rfl ⟨by omega, by omega⟩ ?_
    refine rd_istore_n C dX10_movesLeft_46 (by decide) (L' := [rd_R 0, rd_I (mo_FS μ (μ 1 30) - (μ 1 31)), rd_I (mo_pl μ (μ 1 30) + 1)]) rfl ?_
    have lp47 : ∀ (n : Nat) (k : Nat) (x c2 : Int), (mo_pl μ (μ 1 30) + 1 + (k : Int) ≤ μ 1 0) → (μ 1 0 < mo_pl μ (μ 1 30) + 1 + k + n) → (x = mo_FS μ (μ 1 30) - μ 1 31 + mo_ml μ (mo_pl μ (μ 1 30) + 1) k) → (-9 ≤ x ∧ x ≤ 9 + 10 * k) → (c2 = mo_pl μ (μ 1 30) + 1 + (k : Int)) → rd_W p l e (rd_rm 2 47) s m args below meth c (MQ below (rd_Qc G rd_km 5 r (fun v μ' => (μ 1 29 = 0 ∧ v = some (rd_I (-6)) ∧ μ' = μ) ∨ (μ 1 29 ≠ 0 ∧ v = some (rd_I (mo_FS μ (μ 1 30) - μ 1 31 + mo_ml μ (mo_pl μ (μ 1 30) + 1) (μ 1 0 - (mo_pl μ (μ 1 30) + 1)).toNat)) ∧ μ' = μ))) args s 0 0 (rd_A r 5)) 3 G rd_km 5 r 47 [rd_R 0, rd_I x, rd_I c2] [] μ := by
      intro n
      induction n with
      | zero => intro k x c2  h2 h3 hx hx2 hc; exfalso; omega
      | succ n ih =>
        intro k x c2  h2 h3 hx hx2 hc
        have hcn := hI.1.1.1
        refine rd_iload_n C dX10_movesLeft_47 rfl ?_
        refine rd_aload_n C dX10_movesLeft_48 rfl ?_
        refine rd_get C rd_g10_0 rf_X10_7 dX10_movesLeft_49 rd_c0 rd_m0 (x := rd_R (1)) rfl (fun _ => trivial) ?_
        refine rd_iconst C dX10_movesLeft_52 (n := 0) ⟨by decide, by decide⟩ ?_
        refine rd_ialdx C rd_ai18 dX10_movesLeft_53 rd_c1 rd_m1 ⟨by omega, by omega⟩ (z := μ 1 0) rfl ?_
        refine rd_icmp_ge C dX10_movesLeft_54 (tgt := 99) (by decide) (fun h_54 => ?_) (fun h_54 => ?_)
        · refine rd_iload_n C dX10_movesLeft_99 rfl ?_
          exact rd_iret C dX10_movesLeft_100 (Or.inr (⟨h_7, by rw [hx, show k = (μ 1 0 - (mo_pl μ (μ 1 30) + 1)).toNat by omega], rfl⟩))
        · refine rd_iload_n C dX10_movesLeft_57 rfl ?_
          refine rd_aload_n C dX10_movesLeft_58 rfl ?_
          refine rd_aload_n C dX10_movesLeft_59 rfl ?_
          refine rd_get C rd_g10_0 rf_X10_7 dX10_movesLeft_60 rd_c0 rd_m0 (x := rd_R (1)) rfl (fun _ => trivial) ?_
          refine rd_iconst C dX10_movesLeft_63 (n := 1) ⟨by decide, by decide⟩ ?_
          refine rd_iload_n C dX10_movesLeft_64 rfl ?_
          refine rd_iadd C dX10_movesLeft_65 (z := 1 + c2) rfl ⟨by omega, by omega⟩ ?_
          refine rd_ialdx C rd_ai18 dX10_movesLeft_66 rd_c1 rd_m1 ⟨by omega, by omega⟩ (z := μ 1 (1 + c2)) rfl ?_
          refine rd_callV C (c_X10_isShown (hI.1.1.2 c2 (by omega) (by omega))) rm_X10_34 ri_X10_isShown rs_X10_isShown rc_X10_isShown rz_X10 ⟨rp_X10_isShown, rfl, rfl, by decide, by decide⟩ rfl rd_kcl10 dX10_movesLeft_67 rd_c0 rd_m0 rfl (Nat.le_of_ble_eq_true rfl) (fun v1 w1 hq => ?_)
          rcases hq with ⟨hw_70, hv1, hm1⟩ | ⟨hw_70, hv1, hm1⟩
          · rw [hv1, hm1]; clear hv1 hm1 v1 w1
            refine rd_if_eq C dX10_movesLeft_70 (tgt := 90) (by decide) (fun h => absurd h (by decide)) (fun _ => ?_)
            have hit2 := (hI.1.2.1 _ (hI.1.2.2.1 c2 (by omega) (by omega))).1
            have hfr2 := mo_FS_r hit2
            refine rd_aload_n C dX10_movesLeft_73 rfl ?_
            refine rd_aload_n C dX10_movesLeft_74 rfl ?_
            refine rd_get C rd_g10_0 rf_X10_7 dX10_movesLeft_75 rd_c0 rd_m0 (x := rd_R (1)) rfl (fun _ => trivial) ?_
            refine rd_iconst C dX10_movesLeft_78 (n := 1) ⟨by decide, by decide⟩ ?_
            refine rd_iload_n C dX10_movesLeft_79 rfl ?_
            refine rd_iadd C dX10_movesLeft_80 (z := 1 + c2) rfl ⟨by omega, by omega⟩ ?_
            refine rd_ialdx C rd_ai18 dX10_movesLeft_81 rd_c1 rd_m1 ⟨by omega, by omega⟩ (z := μ 1 (1 + c2)) rfl ?_
            refine rd_callV C (c_X10_finalStep (hI.1.1.2 c2 (by omega) (by omega)) hit2) rm_X10_48 ri_X10_finalStep rs_X10_finalStep rc_X10_finalStep rz_X10 ⟨rp_X10_finalStep, rfl, rfl, by decide, by decide⟩ rfl rd_kcl10 dX10_movesLeft_82 rd_c0 rd_m0 rfl (Nat.le_of_ble_eq_true rfl) (fun v1 w1 hq => ?_)
            obtain ⟨hv1, hm1⟩ := hq; rw [show v1 = some (rd_I (mo_FS μ (μ 1 (1 + c2)))) from hv1, hm1]; clear hv1 hm1
            refine rd_iconst C dX10_movesLeft_85 (n := 1) ⟨by decide, by decide⟩ ?_
            refine rd_iadd C dX10_movesLeft_86 (z := mo_FS μ (μ 1 (1 + c2)) + 1) rfl ⟨by omega, by omega⟩ ?_
            refine rd_goto C dX10_movesLeft_87 (tgt := 91) (by decide) ?_
            refine rd_iadd C dX10_movesLeft_91 (z := x + (mo_FS μ (μ 1 (1 + c2)) + 1)) rfl ⟨by omega, by omega⟩ ?_
            refine rd_istore_n C dX10_movesLeft_92 (by decide) (L' := [rd_R 0, rd_I (x + (mo_FS μ (μ 1 (1 + c2)) + 1)), rd_I c2]) rfl ?_
            refine rd_iinc C dX10_movesLeft_93 (by decide) rfl ⟨by omega, by omega⟩ (L' := [rd_R 0, rd_I (x + (mo_FS μ (μ 1 (1 + c2)) + 1)), rd_I (c2 + 1)]) rfl ?_
            refine rd_goto C dX10_movesLeft_96 (tgt := 47) (by decide) ?_
            exact ih (k + 1) _ _ (by omega) (by omega) (by unfold mo_ml at hx ⊢; simp only [sp_sum]; rw [hx, ← hc, sp_ift hw_70]; omega) (by omega) (by omega)
          · rw [hv1, hm1]; clear hv1 hm1 v1 w1
            refine rd_if_eq C dX10_movesLeft_70 (tgt := 90) (by decide) (fun _ => ?_) (fun h => absurd h (by decide))
            refine rd_iconst C dX10_movesLeft_90 (n := 0) ⟨by decide, by decide⟩ ?_
            refine rd_iadd C dX10_movesLeft_91 (z := x + 0) rfl ⟨by omega, by omega⟩ ?_
            refine rd_istore_n C dX10_movesLeft_92 (by decide) (L' := [rd_R 0, rd_I (x + 0), rd_I c2]) rfl ?_
            refine rd_iinc C dX10_movesLeft_93 (by decide) rfl ⟨by omega, by omega⟩ (L' := [rd_R 0, rd_I (x + 0), rd_I (c2 + 1)]) rfl ?_
            refine rd_goto C dX10_movesLeft_96 (tgt := 47) (by decide) ?_
            exact ih (k + 1) _ _ (by omega) (by omega) (by unfold mo_ml at hx ⊢; simp only [sp_sum]; rw [hx, ← hc, sp_iff hw_70]; omega) (by omega) (by omega)
    exact lp47 12 0 _ _ (by omega) (by omega) (by show _ = _ + (0 : Int); omega) (by omega) (by omega)
  · refine rd_bipush C dX10_movesLeft_10 (n := -6) (by decide) ⟨by decide, by decide⟩ ?_
    exact rd_iret C dX10_movesLeft_12 (Or.inl ⟨h_7, rfl, rfl⟩)
set_option maxHeartbeats 4000000 in
set_option maxRecDepth 100000 in
theorem c_X10_secondsLeft {l : Launch} {G : rd_G} {r : Nat} {μ : rd_Mem} (hI : mo_I μ) (hi : mo_inj μ) (h29 : μ 1 29 ≠ 0 → μ 1 29 = 1) (hst : μ 1 29 ≠ 0 → μ 1 31 ≤ mo_FS μ (μ 1 30)) : rd_M l G rd_km 5 r yX10_secondsLeft cX10_secondsLeft 7 (some .int) (rd_rm 4 86) [rd_R 0] μ (fun v μ' => (μ 1 29 = 0 ∧ v = some (rd_I (-6)) ∧ μ' = μ) ∨ (μ 1 29 ≠ 0 ∧ v = some (rd_I (mo_rs μ 200 (μ 1 30) (μ 1 31) (μ 1 33) 0)) ∧ μ' = μ)) := by
  refine rd_enter (by decide +kernel) (Nat.le_of_ble_eq_true rfl) [rd_R 0, rd_J, rd_J, rd_J, rd_J, rd_J, rd_J] rfl (fun p e s m args below meth c C => ?_)
  refine rd_W.rng (fun hM hL _ => ?_)
  refine rd_aload_n C dX10_secondsLeft_0 rfl ?_
  refine rd_get C rd_g10_0 rf_X10_7 dX10_secondsLeft_1 rd_c0 rd_m0 (x := rd_R (1)) rfl (fun _ => trivial) ?_
  refine rd_bipush C dX10_secondsLeft_4 (n := 29) (by decide) ⟨by decide, by decide⟩ ?_
  refine rd_ialdx C rd_ai18 dX10_secondsLeft_6 rd_c1 rd_m1 ⟨by omega, by omega⟩ (z := μ 1 29) rfl ?_
  refine rd_if_ne C dX10_secondsLeft_7 (tgt := 13) (by decide) (fun h_7 => ?_) (fun h_7 => ?_)
  · refine rd_iconst C dX10_secondsLeft_13 (n := 0) ⟨by decide, by decide⟩ ?_
    refine rd_istore_n C dX10_secondsLeft_14 (by decide) (L' := [rd_R 0, rd_I 0, rd_J, rd_J, rd_J, rd_J, rd_J]) rfl ?_
    refine rd_aload_n C dX10_secondsLeft_15 rfl ?_
    refine rd_get C rd_g10_0 rf_X10_7 dX10_secondsLeft_16 rd_c0 rd_m0 (x := rd_R (1)) rfl (fun _ => trivial) ?_
    refine rd_bipush C dX10_secondsLeft_19 (n := 33) (by decide) ⟨by decide, by decide⟩ ?_
    refine rd_ialdx C rd_ai18 dX10_secondsLeft_21 rd_c1 rd_m1 ⟨by omega, by omega⟩ (z := μ 1 33) rfl ?_
    refine rd_istore_n C dX10_secondsLeft_22 (by decide) (L' := [rd_R 0, rd_I 0, rd_I (μ 1 33), rd_J, rd_J, rd_J, rd_J]) rfl ?_
    refine rd_aload_n C dX10_secondsLeft_23 rfl ?_
    refine rd_get C rd_g10_0 rf_X10_7 dX10_secondsLeft_24 rd_c0 rd_m0 (x := rd_R (1)) rfl (fun _ => trivial) ?_
    refine rd_bipush C dX10_secondsLeft_27 (n := 30) (by decide) ⟨by decide, by decide⟩ ?_
    refine rd_ialdx C rd_ai18 dX10_secondsLeft_29 rd_c1 rd_m1 ⟨by omega, by omega⟩ (z := μ 1 30) rfl ?_
    refine rd_istore_n C dX10_secondsLeft_30 (by decide) (L' := [rd_R 0, rd_I 0, rd_I (μ 1 33), rd_I (μ 1 30), rd_J, rd_J, rd_J]) rfl ?_
    refine rd_aload_n C dX10_secondsLeft_31 rfl ?_
    refine rd_get C rd_g10_0 rf_X10_7 dX10_secondsLeft_32 rd_c0 rd_m0 (x := rd_R (1)) rfl (fun _ => trivial) ?_
    refine rd_bipush C dX10_secondsLeft_35 (n := 31) (by decide) ⟨by decide, by decide⟩ ?_
    refine rd_ialdx C rd_ai18 dX10_secondsLeft_37 rd_c1 rd_m1 ⟨by omega, by omega⟩ (z := μ 1 31) rfl ?_
    refine rd_istore C dX10_secondsLeft_38 (by decide) (L' := [rd_R 0, rd_I 0, rd_I (μ 1 33), rd_I (μ 1 30), rd_I (μ 1 31), rd_J, rd_J]) rfl ?_
    have lp40 : ∀ (n : Nat) (f' : Nat) (x w0 n0 s0 : Int) (j5 j6 : rd_X), (f' < n) → (mo_rs μ 200 (μ 1 30) (μ 1 31) (μ 1 33) 0 = mo_rs μ f' n0 s0 w0 x) → (mo_t μ n0) → (10 * mo_pl μ n0 + s0 + f' ≥ 200 ∧ 0 ≤ s0) → (s0 ≤ mo_FS μ n0) → rd_W p l e (rd_rm 4 86) s m args below meth c (MQ below (rd_Qc G rd_km 5 r (fun v μ' => (μ 1 29 = 0 ∧ v = some (rd_I (-6)) ∧ μ' = μ) ∨ (μ 1 29 ≠ 0 ∧ v = some (rd_I (mo_rs μ 200 (μ 1 30) (μ 1 31) (μ 1 33) 0)) ∧ μ' = μ))) args s 0 0 (rd_A r 5)) 7 G rd_km 5 r 40 [rd_R 0, rd_I x, rd_I w0, rd_I n0, rd_I s0, j5, j6] [] μ := by
      intro n
      induction n with
      | zero => intro f' x w0 n0 s0 j5 j6  h1 hF ht hm hs; exfalso; omega
      | succ n ih =>
        intro f' x w0 n0 s0 j5 j6  h1 hF ht hm hs
        have hat : mo_at μ n0 := ⟨ht.1, hI.1.2.1 _ ht⟩
        have hfr := mo_FS_r hat.2.1
        have hpp := hat.2.2
        unfold mo_po at hpp
        have hcn := hI.1.1.1
        refine rd_iload C dX10_secondsLeft_40 rfl ?_
        refine rd_aload_n C dX10_secondsLeft_42 rfl ?_
        refine rd_iload_n C dX10_secondsLeft_43 rfl ?_
        refine rd_callV C (c_X10_finalStep hat.1 hat.2.1) rm_X10_48 ri_X10_finalStep rs_X10_finalStep rc_X10_finalStep rz_X10 ⟨rp_X10_finalStep, rfl, rfl, by decide, by decide⟩ rfl rd_kcl10 dX10_secondsLeft_44 rd_c0 rd_m0 rfl (Nat.le_of_ble_eq_true rfl) (fun v1 w1 hq => ?_)
        obtain ⟨hv1, hm1⟩ := hq; rw [show v1 = some (rd_I (mo_FS μ n0)) from hv1, hm1]; clear hv1 hm1
        refine rd_icmp_lt C dX10_secondsLeft_47 (tgt := 60) (by decide) (fun h_47 => ?_) (fun h_47 => ?_)
        · have hgo : s0 < mo_FS μ n0 ∨ mo_nx μ (mo_pl μ n0 + 1) ≠ -1 := by first | exact Or.inl (by omega) | exact Or.inr (by omega)
          refine rd_aload_n C dX10_secondsLeft_60 rfl ?_
          refine rd_iload_n C dX10_secondsLeft_61 rfl ?_
          refine rd_iconst C dX10_secondsLeft_62 (n := 2) ⟨by decide, by decide⟩ ?_
          refine rd_callV C (c_X10_of (i := n0) (q := 2) hat.1 ⟨by omega, by omega⟩) rm_X10_26 ri_X10_of rs_X10_of rc_X10_of rz_X10 ⟨rp_X10_of, rfl, rfl, by decide, by decide⟩ rfl rd_kcl10 dX10_secondsLeft_63 rd_c0 rd_m0 rfl (Nat.le_of_ble_eq_true rfl) (fun v1 w1 hq => ?_)
          obtain ⟨hv1, hm1⟩ := hq; rw [show v1 = some (rd_I (mo_o μ n0 2)) from hv1, hm1]; clear hv1 hm1
          refine rd_istore C dX10_secondsLeft_66 (by decide) (L' := [rd_R 0, rd_I x, rd_I w0, rd_I n0, rd_I s0, rd_I (mo_o μ n0 2), j6]) rfl ?_
          refine rd_iload C dX10_secondsLeft_68 rfl ?_
          refine rd_if_ne C dX10_secondsLeft_70 (tgt := 76) (by decide) (fun h_70 => ?_) (fun h_70 => ?_)
          · refine rd_iload_n C dX10_secondsLeft_76 rfl ?_
            refine rd_iload C dX10_secondsLeft_77 rfl ?_
            refine rd_iload_n C dX10_secondsLeft_79 rfl ?_
            refine rd_isubw C dX10_secondsLeft_80 ?_
            refine rd_iconst C dX10_secondsLeft_81 (n := 1) ⟨by decide, by decide⟩ ?_
            refine rd_icmp_ge C dX10_secondsLeft_82 (tgt := 89) (by decide) (fun h_82 => ?_) (fun h_82 => ?_)
            · refine rd_iload C dX10_secondsLeft_89 rfl ?_
              refine rd_iload_n C dX10_secondsLeft_91 rfl ?_
              refine rd_isubw C dX10_secondsLeft_92 ?_
              refine rd_iaddw C dX10_secondsLeft_93 ?_
              refine rd_istore_n C dX10_secondsLeft_94 (by decide) (L' := [rd_R 0, rd_I (rd_w (x + (rd_w ((mo_o μ n0 2) - w0)))), rd_I w0, rd_I n0, rd_I s0, rd_I (mo_o μ n0 2), j6]) rfl ?_
              refine rd_iconst C dX10_secondsLeft_95 (n := 0) ⟨by decide, by decide⟩ ?_
              refine rd_istore_n C dX10_secondsLeft_96 (by decide) (L' := [rd_R 0, rd_I (rd_w (x + (rd_w ((mo_o μ n0 2) - w0)))), rd_I 0, rd_I n0, rd_I s0, rd_I (mo_o μ n0 2), j6]) rfl ?_
              refine rd_iload C dX10_secondsLeft_97 rfl ?_
              refine rd_aload_n C dX10_secondsLeft_99 rfl ?_
              refine rd_iload_n C dX10_secondsLeft_100 rfl ?_
              refine rd_callV C (c_X10_finalStep hat.1 hat.2.1) rm_X10_48 ri_X10_finalStep rs_X10_finalStep rc_X10_finalStep rz_X10 ⟨rp_X10_finalStep, rfl, rfl, by decide, by decide⟩ rfl rd_kcl10 dX10_secondsLeft_101 rd_c0 rd_m0 rfl (Nat.le_of_ble_eq_true rfl) (fun v1 w1 hq => ?_)
              obtain ⟨hv1, hm1⟩ := hq; rw [show v1 = some (rd_I (mo_FS μ n0)) from hv1, hm1]; clear hv1 hm1
              refine rd_icmp_ne C dX10_secondsLeft_104 (tgt := 111) (by decide) (fun h_104 => ?_) (fun h_104 => ?_)
              · refine rd_iconst C dX10_secondsLeft_111 (n := 0) ⟨by decide, by decide⟩ ?_
                refine rd_istore C dX10_secondsLeft_112 (by decide) (L' := [rd_R 0, rd_I (rd_w (x + (rd_w ((mo_o μ n0 2) - w0)))), rd_I 0, rd_I n0, rd_I s0, rd_I (mo_o μ n0 2), rd_I 0]) rfl ?_
                refine rd_iload C dX10_secondsLeft_114 rfl ?_
                refine rd_if_eq C dX10_secondsLeft_116 (tgt := 127) (by decide) (fun _ => ?_) (fun h => absurd h (by decide))
                refine rd_iload_n C dX10_secondsLeft_127 rfl ?_
                refine rd_istore_n C dX10_secondsLeft_128 (by decide) (L' := [rd_R 0, rd_I (rd_w (x + (rd_w ((mo_o μ n0 2) - w0)))), rd_I 0, rd_I n0, rd_I s0, rd_I (mo_o μ n0 2), rd_I 0]) rfl ?_
                refine rd_iload C dX10_secondsLeft_129 rfl ?_
                refine rd_if_eq C dX10_secondsLeft_131 (tgt := 138) (by decide) (fun _ => ?_) (fun h => absurd h (by decide))
                refine rd_iload C dX10_secondsLeft_138 rfl ?_
                refine rd_iconst C dX10_secondsLeft_140 (n := 1) ⟨by decide, by decide⟩ ?_
                refine rd_iadd C dX10_secondsLeft_141 (z := s0 + 1) rfl ⟨by omega, by omega⟩ ?_
                refine rd_istore C dX10_secondsLeft_142 (by decide) (L' := [rd_R 0, rd_I (rd_w (x + (rd_w ((mo_o μ n0 2) - w0)))), rd_I 0, rd_I n0, rd_I (s0 + 1), rd_I (mo_o μ n0 2), rd_I 0]) rfl ?_
                refine rd_goto C dX10_secondsLeft_144 (tgt := 40) (by decide) ?_
                exact ih (f' - 1) _ _ _ _ _ _ (by omega) (by rw [hF, mo_rs_s (by omega) hgo h_70, if_neg h_104, if_neg h_104]; first | rw [if_pos h_82] | rw [if_neg h_82]) ht (by omega) (by omega)
              · refine rd_iconst C dX10_secondsLeft_107 (n := 1) ⟨by decide, by decide⟩ ?_
                refine rd_goto C dX10_secondsLeft_108 (tgt := 112) (by decide) ?_
                refine rd_istore C dX10_secondsLeft_112 (by decide) (L' := [rd_R 0, rd_I (rd_w (x + (rd_w ((mo_o μ n0 2) - w0)))), rd_I 0, rd_I n0, rd_I s0, rd_I (mo_o μ n0 2), rd_I 1]) rfl ?_
                refine rd_iload C dX10_secondsLeft_114 rfl ?_
                refine rd_if_eq C dX10_secondsLeft_116 (tgt := 127) (by decide) (fun h => absurd h (by decide)) (fun _ => ?_)
                refine rd_aload_n C dX10_secondsLeft_119 rfl ?_
                refine rd_iload_n C dX10_secondsLeft_120 rfl ?_
                refine rd_callV C (c_X10_nextOf hI.1.1 hat.2.2) rm_X10_51 ri_X10_nextOf rs_X10_nextOf rc_X10_nextOf rz_X10 ⟨rp_X10_nextOf, rfl, rfl, by decide, by decide⟩ rfl rd_kcl10 dX10_secondsLeft_121 rd_c0 rd_m0 rfl (Nat.le_of_ble_eq_true rfl) (fun v1 w1 hq => ?_)
                obtain ⟨hv1, hm1⟩ := hq; rw [hv1, hm1, mo_z_ne (by rcases hgo with h | h; exact absurd h (by omega); exact h)]; clear hv1 hm1
                refine rd_goto C dX10_secondsLeft_124 (tgt := 128) (by decide) ?_
                refine rd_istore_n C dX10_secondsLeft_128 (by decide) (L' := [rd_R 0, rd_I (rd_w (x + (rd_w ((mo_o μ n0 2) - w0)))), rd_I 0, rd_I (mo_nx μ (mo_pl μ n0 + 1)), rd_I s0, rd_I (mo_o μ n0 2), rd_I 1]) rfl ?_
                refine rd_iload C dX10_secondsLeft_129 rfl ?_
                refine rd_if_eq C dX10_secondsLeft_131 (tgt := 138) (by decide) (fun h => absurd h (by decide)) (fun _ => ?_)
                refine rd_iconst C dX10_secondsLeft_134 (n := 0) ⟨by decide, by decide⟩ ?_
                refine rd_goto C dX10_secondsLeft_135 (tgt := 142) (by decide) ?_
                refine rd_istore C dX10_secondsLeft_142 (by decide) (L' := [rd_R 0, rd_I (rd_w (x + (rd_w ((mo_o μ n0 2) - w0)))), rd_I 0, rd_I (mo_nx μ (mo_pl μ n0 + 1)), rd_I 0, rd_I (mo_o μ n0 2), rd_I 1]) rfl ?_
                refine rd_goto C dX10_secondsLeft_144 (tgt := 40) (by decide) ?_
                have hnp := mo_nx_p hi (a := mo_pl μ n0 + 1) (by have := hat.2.2.1; omega) (hgo.resolve_left (by omega))
                exact ih (f' - 1) _ _ _ _ _ _ (by omega) (by rw [hF, mo_rs_s (by omega) hgo h_70, if_pos h_104, if_pos h_104]; first | rw [if_pos h_82] | rw [if_neg h_82]) (mo_nx_t hI.1 (by have := hat.2.2.1; omega) (hgo.resolve_left (by omega))) (by have := (hat.2.2.1); have := hfr; omega) (by have := mo_FS_r (hI.1.2.1 _ (mo_nx_t hI.1 (a := mo_pl μ n0 + 1) (by have := hat.2.2.1; omega) (hgo.resolve_left (by omega)))).1; omega)
            · refine rd_iconst C dX10_secondsLeft_85 (n := 1) ⟨by decide, by decide⟩ ?_
              refine rd_goto C dX10_secondsLeft_86 (tgt := 93) (by decide) ?_
              refine rd_iaddw C dX10_secondsLeft_93 ?_
              refine rd_istore_n C dX10_secondsLeft_94 (by decide) (L' := [rd_R 0, rd_I (rd_w (x + 1)), rd_I w0, rd_I n0, rd_I s0, rd_I (mo_o μ n0 2), j6]) rfl ?_
              refine rd_iconst C dX10_secondsLeft_95 (n := 0) ⟨by decide, by decide⟩ ?_
              refine rd_istore_n C dX10_secondsLeft_96 (by decide) (L' := [rd_R 0, rd_I (rd_w (x + 1)), rd_I 0, rd_I n0, rd_I s0, rd_I (mo_o μ n0 2), j6]) rfl ?_
              refine rd_iload C dX10_secondsLeft_97 rfl ?_
              refine rd_aload_n C dX10_secondsLeft_99 rfl ?_
              refine rd_iload_n C dX10_secondsLeft_100 rfl ?_
              refine rd_callV C (c_X10_finalStep hat.1 hat.2.1) rm_X10_48 ri_X10_finalStep rs_X10_finalStep rc_X10_finalStep rz_X10 ⟨rp_X10_finalStep, rfl, rfl, by decide, by decide⟩ rfl rd_kcl10 dX10_secondsLeft_101 rd_c0 rd_m0 rfl (Nat.le_of_ble_eq_true rfl) (fun v1 w1 hq => ?_)
              obtain ⟨hv1, hm1⟩ := hq; rw [show v1 = some (rd_I (mo_FS μ n0)) from hv1, hm1]; clear hv1 hm1
              refine rd_icmp_ne C dX10_secondsLeft_104 (tgt := 111) (by decide) (fun h_104 => ?_) (fun h_104 => ?_)
              · refine rd_iconst C dX10_secondsLeft_111 (n := 0) ⟨by decide, by decide⟩ ?_
                refine rd_istore C dX10_secondsLeft_112 (by decide) (L' := [rd_R 0, rd_I (rd_w (x + 1)), rd_I 0, rd_I n0, rd_I s0, rd_I (mo_o μ n0 2), rd_I 0]) rfl ?_
                refine rd_iload C dX10_secondsLeft_114 rfl ?_
                refine rd_if_eq C dX10_secondsLeft_116 (tgt := 127) (by decide) (fun _ => ?_) (fun h => absurd h (by decide))
                refine rd_iload_n C dX10_secondsLeft_127 rfl ?_
                refine rd_istore_n C dX10_secondsLeft_128 (by decide) (L' := [rd_R 0, rd_I (rd_w (x + 1)), rd_I 0, rd_I n0, rd_I s0, rd_I (mo_o μ n0 2), rd_I 0]) rfl ?_
                refine rd_iload C dX10_secondsLeft_129 rfl ?_
                refine rd_if_eq C dX10_secondsLeft_131 (tgt := 138) (by decide) (fun _ => ?_) (fun h => absurd h (by decide))
                refine rd_iload C dX10_secondsLeft_138 rfl ?_
                refine rd_iconst C dX10_secondsLeft_140 (n := 1) ⟨by decide, by decide⟩ ?_
                refine rd_iadd C dX10_secondsLeft_141 (z := s0 + 1) rfl ⟨by omega, by omega⟩ ?_
                refine rd_istore C dX10_secondsLeft_142 (by decide) (L' := [rd_R 0, rd_I (rd_w (x + 1)), rd_I 0, rd_I n0, rd_I (s0 + 1), rd_I (mo_o μ n0 2), rd_I 0]) rfl ?_
                refine rd_goto C dX10_secondsLeft_144 (tgt := 40) (by decide) ?_
                exact ih (f' - 1) _ _ _ _ _ _ (by omega) (by rw [hF, mo_rs_s (by omega) hgo h_70, if_neg h_104, if_neg h_104]; first | rw [if_pos h_82] | rw [if_neg h_82]) ht (by omega) (by omega)
              · refine rd_iconst C dX10_secondsLeft_107 (n := 1) ⟨by decide, by decide⟩ ?_
                refine rd_goto C dX10_secondsLeft_108 (tgt := 112) (by decide) ?_
                refine rd_istore C dX10_secondsLeft_112 (by decide) (L' := [rd_R 0, rd_I (rd_w (x + 1)), rd_I 0, rd_I n0, rd_I s0, rd_I (mo_o μ n0 2), rd_I 1]) rfl ?_
                refine rd_iload C dX10_secondsLeft_114 rfl ?_
                refine rd_if_eq C dX10_secondsLeft_116 (tgt := 127) (by decide) (fun h => absurd h (by decide)) (fun _ => ?_)
                refine rd_aload_n C dX10_secondsLeft_119 rfl ?_
                refine rd_iload_n C dX10_secondsLeft_120 rfl ?_
                refine rd_callV C (c_X10_nextOf hI.1.1 hat.2.2) rm_X10_51 ri_X10_nextOf rs_X10_nextOf rc_X10_nextOf rz_X10 ⟨rp_X10_nextOf, rfl, rfl, by decide, by decide⟩ rfl rd_kcl10 dX10_secondsLeft_121 rd_c0 rd_m0 rfl (Nat.le_of_ble_eq_true rfl) (fun v1 w1 hq => ?_)
                obtain ⟨hv1, hm1⟩ := hq; rw [hv1, hm1, mo_z_ne (by rcases hgo with h | h; exact absurd h (by omega); exact h)]; clear hv1 hm1
                refine rd_goto C dX10_secondsLeft_124 (tgt := 128) (by decide) ?_
                refine rd_istore_n C dX10_secondsLeft_128 (by decide) (L' := [rd_R 0, rd_I (rd_w (x + 1)), rd_I 0, rd_I (mo_nx μ (mo_pl μ n0 + 1)), rd_I s0, rd_I (mo_o μ n0 2), rd_I 1]) rfl ?_
                refine rd_iload C dX10_secondsLeft_129 rfl ?_
                refine rd_if_eq C dX10_secondsLeft_131 (tgt := 138) (by decide) (fun h => absurd h (by decide)) (fun _ => ?_)
                refine rd_iconst C dX10_secondsLeft_134 (n := 0) ⟨by decide, by decide⟩ ?_
                refine rd_goto C dX10_secondsLeft_135 (tgt := 142) (by decide) ?_
                refine rd_istore C dX10_secondsLeft_142 (by decide) (L' := [rd_R 0, rd_I (rd_w (x + 1)), rd_I 0, rd_I (mo_nx μ (mo_pl μ n0 + 1)), rd_I 0, rd_I (mo_o μ n0 2), rd_I 1]) rfl ?_
                refine rd_goto C dX10_secondsLeft_144 (tgt := 40) (by decide) ?_
                have hnp := mo_nx_p hi (a := mo_pl μ n0 + 1) (by have := hat.2.2.1; omega) (hgo.resolve_left (by omega))
                exact ih (f' - 1) _ _ _ _ _ _ (by omega) (by rw [hF, mo_rs_s (by omega) hgo h_70, if_pos h_104, if_pos h_104]; first | rw [if_pos h_82] | rw [if_neg h_82]) (mo_nx_t hI.1 (by have := hat.2.2.1; omega) (hgo.resolve_left (by omega))) (by have := (hat.2.2.1); have := hfr; omega) (by have := mo_FS_r (hI.1.2.1 _ (mo_nx_t hI.1 (a := mo_pl μ n0 + 1) (by have := hat.2.2.1; omega) (hgo.resolve_left (by omega)))).1; omega)
          · refine rd_bipush C dX10_secondsLeft_73 (n := -6) (by decide) ⟨by decide, by decide⟩ ?_
            exact rd_iret C dX10_secondsLeft_75 (Or.inr ⟨h_7, by rw [hF, mo_rs_z (by omega) hgo h_70], rfl⟩)
        · refine rd_aload_n C dX10_secondsLeft_50 rfl ?_
          refine rd_iload_n C dX10_secondsLeft_51 rfl ?_
          refine rd_callV C (c_X10_nextOf hI.1.1 hat.2.2) rm_X10_51 ri_X10_nextOf rs_X10_nextOf rc_X10_nextOf rz_X10 ⟨rp_X10_nextOf, rfl, rfl, by decide, by decide⟩ rfl rd_kcl10 dX10_secondsLeft_52 rd_c0 rd_m0 rfl (Nat.le_of_ble_eq_true rfl) (fun v1 w1 hq => ?_)
          obtain ⟨hv1, hm1⟩ := hq; rw [hv1, hm1]; clear hv1 hm1
          rcases mo_nx_r hI.1.1 (a := mo_pl μ n0 + 1) (by have := hat.2.2.1; omega) with hz | hz
          · rw [show mo_z (mo_nx μ (mo_pl μ n0 + 1)) = -6 from by rw [hz]; rfl]
            refine rd_bipush C dX10_secondsLeft_55 (n := -6) (by decide) ⟨by decide, by decide⟩ ?_
            refine rd_icmp_eq C dX10_secondsLeft_57 (tgt := 147) (by decide) (fun _ => ?_) (fun h => absurd h (by decide))
            refine rd_iload_n C dX10_secondsLeft_147 rfl ?_
            exact rd_iret C dX10_secondsLeft_148 (Or.inr ⟨h_7, by rw [hF, mo_rs_o (by omega)], rfl⟩)
          · rw [mo_z_ne (by omega : mo_nx μ (mo_pl μ n0 + 1) ≠ -1)]
            refine rd_bipush C dX10_secondsLeft_55 (n := -6) (by decide) ⟨by decide, by decide⟩ ?_
            refine rd_icmp_eq C dX10_secondsLeft_57 (tgt := 147) (by decide) (fun h_57 => ?_) (fun h_57 => ?_)
            · exfalso; omega
            · have hgo : s0 < mo_FS μ n0 ∨ mo_nx μ (mo_pl μ n0 + 1) ≠ -1 := by first | exact Or.inl (by omega) | exact Or.inr (by omega)
              refine rd_aload_n C dX10_secondsLeft_60 rfl ?_
              refine rd_iload_n C dX10_secondsLeft_61 rfl ?_
              refine rd_iconst C dX10_secondsLeft_62 (n := 2) ⟨by decide, by decide⟩ ?_
              refine rd_callV C (c_X10_of (i := n0) (q := 2) hat.1 ⟨by omega, by omega⟩) rm_X10_26 ri_X10_of rs_X10_of rc_X10_of rz_X10 ⟨rp_X10_of, rfl, rfl, by decide, by decide⟩ rfl rd_kcl10 dX10_secondsLeft_63 rd_c0 rd_m0 rfl (Nat.le_of_ble_eq_true rfl) (fun v1 w1 hq => ?_)
              obtain ⟨hv1, hm1⟩ := hq; rw [show v1 = some (rd_I (mo_o μ n0 2)) from hv1, hm1]; clear hv1 hm1
              refine rd_istore C dX10_secondsLeft_66 (by decide) (L' := [rd_R 0, rd_I x, rd_I w0, rd_I n0, rd_I s0, rd_I (mo_o μ n0 2), j6]) rfl ?_
              refine rd_iload C dX10_secondsLeft_68 rfl ?_
              refine rd_if_ne C dX10_secondsLeft_70 (tgt := 76) (by decide) (fun h_70 => ?_) (fun h_70 => ?_)
              · refine rd_iload_n C dX10_secondsLeft_76 rfl ?_
                refine rd_iload C dX10_secondsLeft_77 rfl ?_
                refine rd_iload_n C dX10_secondsLeft_79 rfl ?_
                refine rd_isubw C dX10_secondsLeft_80 ?_
                refine rd_iconst C dX10_secondsLeft_81 (n := 1) ⟨by decide, by decide⟩ ?_
                refine rd_icmp_ge C dX10_secondsLeft_82 (tgt := 89) (by decide) (fun h_82 => ?_) (fun h_82 => ?_)
                · refine rd_iload C dX10_secondsLeft_89 rfl ?_
                  refine rd_iload_n C dX10_secondsLeft_91 rfl ?_
                  refine rd_isubw C dX10_secondsLeft_92 ?_
                  refine rd_iaddw C dX10_secondsLeft_93 ?_
                  refine rd_istore_n C dX10_secondsLeft_94 (by decide) (L' := [rd_R 0, rd_I (rd_w (x + (rd_w ((mo_o μ n0 2) - w0)))), rd_I w0, rd_I n0, rd_I s0, rd_I (mo_o μ n0 2), j6]) rfl ?_
                  refine rd_iconst C dX10_secondsLeft_95 (n := 0) ⟨by decide, by decide⟩ ?_
                  refine rd_istore_n C dX10_secondsLeft_96 (by decide) (L' := [rd_R 0, rd_I (rd_w (x + (rd_w ((mo_o μ n0 2) - w0)))), rd_I 0, rd_I n0, rd_I s0, rd_I (mo_o μ n0 2), j6]) rfl ?_
                  refine rd_iload C dX10_secondsLeft_97 rfl ?_
                  refine rd_aload_n C dX10_secondsLeft_99 rfl ?_
                  refine rd_iload_n C dX10_secondsLeft_100 rfl ?_
                  refine rd_callV C (c_X10_finalStep hat.1 hat.2.1) rm_X10_48 ri_X10_finalStep rs_X10_finalStep rc_X10_finalStep rz_X10 ⟨rp_X10_finalStep, rfl, rfl, by decide, by decide⟩ rfl rd_kcl10 dX10_secondsLeft_101 rd_c0 rd_m0 rfl (Nat.le_of_ble_eq_true rfl) (fun v1 w1 hq => ?_)
                  obtain ⟨hv1, hm1⟩ := hq; rw [show v1 = some (rd_I (mo_FS μ n0)) from hv1, hm1]; clear hv1 hm1
                  refine rd_icmp_ne C dX10_secondsLeft_104 (tgt := 111) (by decide) (fun h_104 => ?_) (fun h_104 => ?_)
                  · refine rd_iconst C dX10_secondsLeft_111 (n := 0) ⟨by decide, by decide⟩ ?_
                    refine rd_istore C dX10_secondsLeft_112 (by decide) (L' := [rd_R 0, rd_I (rd_w (x + (rd_w ((mo_o μ n0 2) - w0)))), rd_I 0, rd_I n0, rd_I s0, rd_I (mo_o μ n0 2), rd_I 0]) rfl ?_
                    refine rd_iload C dX10_secondsLeft_114 rfl ?_
                    refine rd_if_eq C dX10_secondsLeft_116 (tgt := 127) (by decide) (fun _ => ?_) (fun h => absurd h (by decide))
                    refine rd_iload_n C dX10_secondsLeft_127 rfl ?_
                    refine rd_istore_n C dX10_secondsLeft_128 (by decide) (L' := [rd_R 0, rd_I (rd_w (x + (rd_w ((mo_o μ n0 2) - w0)))), rd_I 0, rd_I n0, rd_I s0, rd_I (mo_o μ n0 2), rd_I 0]) rfl ?_
                    refine rd_iload C dX10_secondsLeft_129 rfl ?_
                    refine rd_if_eq C dX10_secondsLeft_131 (tgt := 138) (by decide) (fun _ => ?_) (fun h => absurd h (by decide))
                    refine rd_iload C dX10_secondsLeft_138 rfl ?_
                    refine rd_iconst C dX10_secondsLeft_140 (n := 1) ⟨by decide, by decide⟩ ?_
                    refine rd_iadd C dX10_secondsLeft_141 (z := s0 + 1) rfl ⟨by omega, by omega⟩ ?_
                    refine rd_istore C dX10_secondsLeft_142 (by decide) (L' := [rd_R 0, rd_I (rd_w (x + (rd_w ((mo_o μ n0 2) - w0)))), rd_I 0, rd_I n0, rd_I (s0 + 1), rd_I (mo_o μ n0 2), rd_I 0]) rfl ?_
                    refine rd_goto C dX10_secondsLeft_144 (tgt := 40) (by decide) ?_
                    exact ih (f' - 1) _ _ _ _ _ _ (by omega) (by rw [hF, mo_rs_s (by omega) hgo h_70, if_neg h_104, if_neg h_104]; first | rw [if_pos h_82] | rw [if_neg h_82]) ht (by omega) (by omega)
                  · refine rd_iconst C dX10_secondsLeft_107 (n := 1) ⟨by decide, by decide⟩ ?_
                    refine rd_goto C dX10_secondsLeft_108 (tgt := 112) (by decide) ?_
                    refine rd_istore C dX10_secondsLeft_112 (by decide) (L' := [rd_R 0, rd_I (rd_w (x + (rd_w ((mo_o μ n0 2) - w0)))), rd_I 0, rd_I n0, rd_I s0, rd_I (mo_o μ n0 2), rd_I 1]) rfl ?_
                    refine rd_iload C dX10_secondsLeft_114 rfl ?_
                    refine rd_if_eq C dX10_secondsLeft_116 (tgt := 127) (by decide) (fun h => absurd h (by decide)) (fun _ => ?_)
                    refine rd_aload_n C dX10_secondsLeft_119 rfl ?_
                    refine rd_iload_n C dX10_secondsLeft_120 rfl ?_
                    refine rd_callV C (c_X10_nextOf hI.1.1 hat.2.2) rm_X10_51 ri_X10_nextOf rs_X10_nextOf rc_X10_nextOf rz_X10 ⟨rp_X10_nextOf, rfl, rfl, by decide, by decide⟩ rfl rd_kcl10 dX10_secondsLeft_121 rd_c0 rd_m0 rfl (Nat.le_of_ble_eq_true rfl) (fun v1 w1 hq => ?_)
                    obtain ⟨hv1, hm1⟩ := hq; rw [hv1, hm1, mo_z_ne (by rcases hgo with h | h; exact absurd h (by omega); exact h)]; clear hv1 hm1
                    refine rd_goto C dX10_secondsLeft_124 (tgt := 128) (by decide) ?_
                    refine rd_istore_n C dX10_secondsLeft_128 (by decide) (L' := [rd_R 0, rd_I (rd_w (x + (rd_w ((mo_o μ n0 2) - w0)))), rd_I 0, rd_I (mo_nx μ (mo_pl μ n0 + 1)), rd_I s0, rd_I (mo_o μ n0 2), rd_I 1]) rfl ?_
                    refine rd_iload C dX10_secondsLeft_129 rfl ?_
                    refine rd_if_eq C dX10_secondsLeft_131 (tgt := 138) (by decide) (fun h => absurd h (by decide)) (fun _ => ?_)
                    refine rd_iconst C dX10_secondsLeft_134 (n := 0) ⟨by decide, by decide⟩ ?_
                    refine rd_goto C dX10_secondsLeft_135 (tgt := 142) (by decide) ?_
                    refine rd_istore C dX10_secondsLeft_142 (by decide) (L' := [rd_R 0, rd_I (rd_w (x + (rd_w ((mo_o μ n0 2) - w0)))), rd_I 0, rd_I (mo_nx μ (mo_pl μ n0 + 1)), rd_I 0, rd_I (mo_o μ n0 2), rd_I 1]) rfl ?_
                    refine rd_goto C dX10_secondsLeft_144 (tgt := 40) (by decide) ?_
                    have hnp := mo_nx_p hi (a := mo_pl μ n0 + 1) (by have := hat.2.2.1; omega) (hgo.resolve_left (by omega))
                    exact ih (f' - 1) _ _ _ _ _ _ (by omega) (by rw [hF, mo_rs_s (by omega) hgo h_70, if_pos h_104, if_pos h_104]; first | rw [if_pos h_82] | rw [if_neg h_82]) (mo_nx_t hI.1 (by have := hat.2.2.1; omega) (hgo.resolve_left (by omega))) (by have := (hat.2.2.1); have := hfr; omega) (by have := mo_FS_r (hI.1.2.1 _ (mo_nx_t hI.1 (a := mo_pl μ n0 + 1) (by have := hat.2.2.1; omega) (hgo.resolve_left (by omega)))).1; omega)
                · refine rd_iconst C dX10_secondsLeft_85 (n := 1) ⟨by decide, by decide⟩ ?_
                  refine rd_goto C dX10_secondsLeft_86 (tgt := 93) (by decide) ?_
                  refine rd_iaddw C dX10_secondsLeft_93 ?_
                  refine rd_istore_n C dX10_secondsLeft_94 (by decide) (L' := [rd_R 0, rd_I (rd_w (x + 1)), rd_I w0, rd_I n0, rd_I s0, rd_I (mo_o μ n0 2), j6]) rfl ?_
                  refine rd_iconst C dX10_secondsLeft_95 (n := 0) ⟨by decide, by decide⟩ ?_
                  refine rd_istore_n C dX10_secondsLeft_96 (by decide) (L' := [rd_R 0, rd_I (rd_w (x + 1)), rd_I 0, rd_I n0, rd_I s0, rd_I (mo_o μ n0 2), j6]) rfl ?_
                  refine rd_iload C dX10_secondsLeft_97 rfl ?_
                  refine rd_aload_n C dX10_secondsLeft_99 rfl ?_
                  refine rd_iload_n C dX10_secondsLeft_100 rfl ?_
                  refine rd_callV C (c_X10_finalStep hat.1 hat.2.1) rm_X10_48 ri_X10_finalStep rs_X10_finalStep rc_X10_finalStep rz_X10 ⟨rp_X10_finalStep, rfl, rfl, by decide, by decide⟩ rfl rd_kcl10 dX10_secondsLeft_101 rd_c0 rd_m0 rfl (Nat.le_of_ble_eq_true rfl) (fun v1 w1 hq => ?_)
                  obtain ⟨hv1, hm1⟩ := hq; rw [show v1 = some (rd_I (mo_FS μ n0)) from hv1, hm1]; clear hv1 hm1
                  refine rd_icmp_ne C dX10_secondsLeft_104 (tgt := 111) (by decide) (fun h_104 => ?_) (fun h_104 => ?_)
                  · refine rd_iconst C dX10_secondsLeft_111 (n := 0) ⟨by decide, by decide⟩ ?_
                    refine rd_istore C dX10_secondsLeft_112 (by decide) (L' := [rd_R 0, rd_I (rd_w (x + 1)), rd_I 0, rd_I n0, rd_I s0, rd_I (mo_o μ n0 2), rd_I 0]) rfl ?_
                    refine rd_iload C dX10_secondsLeft_114 rfl ?_
                    refine rd_if_eq C dX10_secondsLeft_116 (tgt := 127) (by decide) (fun _ => ?_) (fun h => absurd h (by decide))
                    refine rd_iload_n C dX10_secondsLeft_127 rfl ?_
                    refine rd_istore_n C dX10_secondsLeft_128 (by decide) (L' := [rd_R 0, rd_I (rd_w (x + 1)), rd_I 0, rd_I n0, rd_I s0, rd_I (mo_o μ n0 2), rd_I 0]) rfl ?_
                    refine rd_iload C dX10_secondsLeft_129 rfl ?_
                    refine rd_if_eq C dX10_secondsLeft_131 (tgt := 138) (by decide) (fun _ => ?_) (fun h => absurd h (by decide))
                    refine rd_iload C dX10_secondsLeft_138 rfl ?_
                    refine rd_iconst C dX10_secondsLeft_140 (n := 1) ⟨by decide, by decide⟩ ?_
                    refine rd_iadd C dX10_secondsLeft_141 (z := s0 + 1) rfl ⟨by omega, by omega⟩ ?_
                    refine rd_istore C dX10_secondsLeft_142 (by decide) (L' := [rd_R 0, rd_I (rd_w (x + 1)), rd_I 0, rd_I n0, rd_I (s0 + 1), rd_I (mo_o μ n0 2), rd_I 0]) rfl ?_
                    refine rd_goto C dX10_secondsLeft_144 (tgt := 40) (by decide) ?_
                    exact ih (f' - 1) _ _ _ _ _ _ (by omega) (by rw [hF, mo_rs_s (by omega) hgo h_70, if_neg h_104, if_neg h_104]; first | rw [if_pos h_82] | rw [if_neg h_82]) ht (by omega) (by omega)
                  · refine rd_iconst C dX10_secondsLeft_107 (n := 1) ⟨by decide, by decide⟩ ?_
                    refine rd_goto C dX10_secondsLeft_108 (tgt := 112) (by decide) ?_
                    refine rd_istore C dX10_secondsLeft_112 (by decide) (L' := [rd_R 0, rd_I (rd_w (x + 1)), rd_I 0, rd_I n0, rd_I s0, rd_I (mo_o μ n0 2), rd_I 1]) rfl ?_
                    refine rd_iload C dX10_secondsLeft_114 rfl ?_
                    refine rd_if_eq C dX10_secondsLeft_116 (tgt := 127) (by decide) (fun h => absurd h (by decide)) (fun _ => ?_)
                    refine rd_aload_n C dX10_secondsLeft_119 rfl ?_
                    refine rd_iload_n C dX10_secondsLeft_120 rfl ?_
                    refine rd_callV C (c_X10_nextOf hI.1.1 hat.2.2) rm_X10_51 ri_X10_nextOf rs_X10_nextOf rc_X10_nextOf rz_X10 ⟨rp_X10_nextOf, rfl, rfl, by decide, by decide⟩ rfl rd_kcl10 dX10_secondsLeft_121 rd_c0 rd_m0 rfl (Nat.le_of_ble_eq_true rfl) (fun v1 w1 hq => ?_)
                    obtain ⟨hv1, hm1⟩ := hq; rw [hv1, hm1, mo_z_ne (by rcases hgo with h | h; exact absurd h (by omega); exact h)]; clear hv1 hm1
                    refine rd_goto C dX10_secondsLeft_124 (tgt := 128) (by decide) ?_
                    refine rd_istore_n C dX10_secondsLeft_128 (by decide) (L' := [rd_R 0, rd_I (rd_w (x + 1)), rd_I 0, rd_I (mo_nx μ (mo_pl μ n0 + 1)), rd_I s0, rd_I (mo_o μ n0 2), rd_I 1]) rfl ?_
                    refine rd_iload C dX10_secondsLeft_129 rfl ?_
                    refine rd_if_eq C dX10_secondsLeft_131 (tgt := 138) (by decide) (fun h => absurd h (by decide)) (fun _ => ?_)
                    refine rd_iconst C dX10_secondsLeft_134 (n := 0) ⟨by decide, by decide⟩ ?_
                    refine rd_goto C dX10_secondsLeft_135 (tgt := 142) (by decide) ?_
                    refine rd_istore C dX10_secondsLeft_142 (by decide) (L' := [rd_R 0, rd_I (rd_w (x + 1)), rd_I 0, rd_I (mo_nx μ (mo_pl μ n0 + 1)), rd_I 0, rd_I (mo_o μ n0 2), rd_I 1]) rfl ?_
                    refine rd_goto C dX10_secondsLeft_144 (tgt := 40) (by decide) ?_
                    have hnp := mo_nx_p hi (a := mo_pl μ n0 + 1) (by have := hat.2.2.1; omega) (hgo.resolve_left (by omega))
                    exact ih (f' - 1) _ _ _ _ _ _ (by omega) (by rw [hF, mo_rs_s (by omega) hgo h_70, if_pos h_104, if_pos h_104]; first | rw [if_pos h_82] | rw [if_neg h_82]) (mo_nx_t hI.1 (by have := hat.2.2.1; omega) (hgo.resolve_left (by omega))) (by have := (hat.2.2.1); have := hfr; omega) (by have := mo_FS_r (hI.1.2.1 _ (mo_nx_t hI.1 (a := mo_pl μ n0 + 1) (by have := hat.2.2.1; omega) (hgo.resolve_left (by omega)))).1; omega)
              · refine rd_bipush C dX10_secondsLeft_73 (n := -6) (by decide) ⟨by decide, by decide⟩ ?_
                exact rd_iret C dX10_secondsLeft_75 (Or.inr ⟨h_7, by rw [hF, mo_rs_z (by omega) hgo h_70], rfl⟩)
    exact lp40 201 200 0 (μ 1 33) (μ 1 30) (μ 1 31) _ _ (by omega) rfl (hI.2.2.2.1 (h29 h_7)) (by have := (hI.1.2.1 _ (hI.2.2.2.1 (h29 h_7))).2.1; have := hI.2.2.1; omega) (hst h_7)
  · refine rd_bipush C dX10_secondsLeft_10 (n := -6) (by decide) ⟨by decide, by decide⟩ ?_
    exact rd_iret C dX10_secondsLeft_12 (Or.inl ⟨h_7, rfl, rfl⟩)
