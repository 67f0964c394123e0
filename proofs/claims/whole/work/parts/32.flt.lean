/-! floats -/
section RDFL
variable {p : Program} {l : Launch} {e : Env} {R : Room} {s : State} {m : MethodId} {args : Array Value} {below : List Frame} {meth : Method} {c : Code} {Q : State → Prop}
variable {cc : ByteArray} {nl : Nat} {own : String} {ret : Option FieldType} {G : rd_G} {kd : Int → Nat} {N r : Nat}
variable {pc : Nat} {L S : List rd_X} {μ : rd_Mem}
theorem rd_fconst0 (C : rd_Cx p s m args meth c cc nl own ret G) (hd : decode cc pc = .ok (.fconst 0, 1)) (k : rd_W p l e R s m args below meth c Q nl G kd N r (pc + 1) L (rd_F FP.fconst0 :: S) μ) : rd_W p l e R s m args below meth c Q nl G kd N r pc L S μ := by
  intro hM hL hS H locs ls hl hP hs
  exact lv_fconst0 C.1.1 C.1.2.1 hd (k hM hL (rd_okc (x := rd_F FP.fconst0) trivial hS) H locs ls hl hP hs)
theorem rd_i2f (C : rd_Cx p s m args meth c cc nl own ret G) {a : Int} (hd : decode cc pc = .ok (.i2f, 1)) (k : rd_W p l e R s m args below meth c Q nl G kd N r (pc + 1) L (rd_F (FP.i2f (rd_i a)) :: S) μ) : rd_W p l e R s m args below meth c Q nl G kd N r pc L (rd_I a :: S) μ := by
  intro hM hL hS H locs ls hl hP hs
  exact lv_i2f C.1.1 C.1.2.1 hd (k hM hL (rd_okc (x := rd_F (FP.i2f (rd_i a))) trivial (rd_okt hS)) H locs ls hl hP hs)
theorem rd_fdiv (C : rd_Cx p s m args meth c cc nl own ret G) {a b : UInt32} (hd : decode cc pc = .ok (.fdiv, 1)) (hn : vf_n32 (FP.fdiv a b)) (k : rd_W p l e R s m args below meth c Q nl G kd N r (pc + 1) L (rd_F (FP.fdiv a b) :: S) μ) : rd_W p l e R s m args below meth c Q nl G kd N r pc L (rd_F b :: rd_F a :: S) μ := by
  intro hM hL hS H locs ls hl hP hs
  exact lv_fdiv C.1.1 C.1.2.1 hd hn (k hM hL (rd_okc (x := rd_F (FP.fdiv a b)) trivial (rd_okt (rd_okt hS))) H locs ls hl hP hs)
end RDFL
theorem sp_fd0 : ∀ c : Fin 10, ∀ s : Fin 101, (FP.fdiv (FP.i2f (rd_i (s.val : Int))) (FP.i2f (rd_i ((c.val : Int) + 1)))) &&& 0x7fffffff ≤ 0x7f800000 := by decide +kernel
theorem sp_fd {s c : Int} (h0 : 0 ≤ s) (h1 : s ≤ 100) (c0 : 1 ≤ c) (c1 : c ≤ 10) : vf_n32 (FP.fdiv (FP.i2f (rd_i s)) (FP.i2f (rd_i c))) := by
  have := sp_fd0 ⟨(c - 1).toNat, by omega⟩ ⟨s.toNat, by omega⟩
  simp only at this
  rw [show ((s.toNat : Nat) : Int) = s by omega, show (((c - 1).toNat : Nat) : Int) + 1 = c by omega] at this
  exact this
theorem sp_sum_r {g : Int → Int} {n : Nat} {b : Int} (h : ∀ i : Int, 0 ≤ i → i < n → 0 ≤ g i ∧ g i ≤ b) : 0 ≤ sp_sum g n ∧ sp_sum g n ≤ b * n := by
  induction n with
  | zero => exact ⟨Int.le_refl 0, by show (0 : Int) ≤ _; simp⟩
  | succ n ih =>
    have h1 := ih (fun i h0 h1 => h i h0 (by omega))
    have h2 := h n (by omega) (by omega)
    have e : b * ((n + 1 : Nat) : Int) = b * n + b := by rw [Int.natCast_add, Int.mul_add]; simp
    rw [e]
    simp only [sp_sum]
    omega
set_option maxHeartbeats 4000000 in
set_option maxRecDepth 100000 in
theorem c_X10_meanSteps {l : Launch} {G : rd_G} {r : Nat} {μ : rd_Mem} (hI : mo_I μ) : rd_M l G rd_km 5 r yX10_meanSteps cX10_meanSteps 3 (some .float) (rd_rm 2 47) [rd_R 0] μ (fun v μ' => (μ 1 0 = 0 ∧ v = some (rd_F FP.fconst0) ∧ μ' = μ) ∨ (μ 1 0 ≠ 0 ∧ v = some (rd_F (FP.fdiv (FP.i2f (rd_i (sp_sum (fun i => mo_FS μ (μ 1 (1 + i)) + 1) (μ 1 0).toNat))) (FP.i2f (rd_i (μ 1 0))))) ∧ μ' = μ)) := by
  refine rd_enter (by decide +kernel) (Nat.le_of_ble_eq_true rfl) [rd_R 0, rd_J, rd_J] rfl (fun p e s m args below meth c C => ?_)
  refine rd_W.rng (fun hM hL _ => ?_)
  have hcn := hI.1.1.1
  refine rd_iconst C dX10_meanSteps_0 (n := 0) ⟨by decide, by decide⟩ ?_
  refine rd_istore_n C dX10_meanSteps_1 (by decide) (L' := [rd_R 0, rd_I 0, rd_J]) rfl ?_
  refine rd_iconst C dX10_meanSteps_2 (n := 0) ⟨by decide, by decide⟩ ?_
  refine rd_istore_n C dX10_meanSteps_3 (by decide) (L' := [rd_R 0, rd_I 0, rd_I 0]) rfl ?_
  have lp4 : ∀ (n : Nat) (k : Nat) (x c2 : Int), ((k : Int) ≤ μ 1 0) → (μ 1 0 < k + n) → (x = sp_sum (fun i => mo_FS μ (μ 1 (1 + i)) + 1) k) → (0 ≤ x ∧ x ≤ 10 * k) → (c2 = (k : Int)) → rd_W p l e (rd_rm 2 47) s m args below meth c (MQ below (rd_Qc G rd_km 5 r (fun v μ' => (μ 1 0 = 0 ∧ v = some (rd_F FP.fconst0) ∧ μ' = μ) ∨ (μ 1 0 ≠ 0 ∧ v = some (rd_F (FP.fdiv (FP.i2f (rd_i (sp_sum (fun i => mo_FS μ (μ 1 (1 + i)) + 1) (μ 1 0).toNat))) (FP.i2f (rd_i (μ 1 0))))) ∧ μ' = μ))) args s 0 0 (rd_A r 5)) 3 G rd_km 5 r 4 [rd_R 0, rd_I x, rd_I c2] [] μ := by
    intro n
    induction n with
    | zero => intro k x c2  h2 h3 hx hx2 hc; exfalso; omega
    | succ n ih =>
      intro k x c2  h2 h3 hx hx2 hc
      have hcn := hI.1.1.1
      refine rd_iload_n C dX10_meanSteps_4 rfl ?_
      refine rd_aload_n C dX10_meanSteps_5 rfl ?_
      refine rd_get C rd_g10_0 rf_X10_7 dX10_meanSteps_6 rd_c0 rd_m0 (x := rd_R (1)) rfl (fun _ => trivial) ?_
      refine rd_iconst C dX10_meanSteps_9 (n := 0) ⟨by decide, by decide⟩ ?_
      refine rd_ialdx C rd_ai18 dX10_meanSteps_10 rd_c1 rd_m1 ⟨by omega, by omega⟩ (z := μ 1 0) rfl ?_
      refine rd_icmp_ge C dX10_meanSteps_11 (tgt := 37) (by decide) (fun h_11 => ?_) (fun h_11 => ?_)
      · refine rd_aload_n C dX10_meanSteps_37 rfl ?_
        refine rd_get C rd_g10_0 rf_X10_7 dX10_meanSteps_38 rd_c0 rd_m0 (x := rd_R (1)) rfl (fun _ => trivial) ?_
        refine rd_iconst C dX10_meanSteps_41 (n := 0) ⟨by decide, by decide⟩ ?_
        refine rd_ialdx C rd_ai18 dX10_meanSteps_42 rd_c1 rd_m1 ⟨by omega, by omega⟩ (z := μ 1 0) rfl ?_
        refine rd_if_ne C dX10_meanSteps_43 (tgt := 50) (by decide) (fun h_43 => ?_) (fun h_43 => ?_)
        · refine rd_iload_n C dX10_meanSteps_50 rfl ?_
          refine rd_i2f C dX10_meanSteps_51 ?_
          refine rd_aload_n C dX10_meanSteps_52 rfl ?_
          refine rd_get C rd_g10_0 rf_X10_7 dX10_meanSteps_53 rd_c0 rd_m0 (x := rd_R (1)) rfl (fun _ => trivial) ?_
          refine rd_iconst C dX10_meanSteps_56 (n := 0) ⟨by decide, by decide⟩ ?_
          refine rd_ialdx C rd_ai18 dX10_meanSteps_57 rd_c1 rd_m1 ⟨by omega, by omega⟩ (z := μ 1 0) rfl ?_
          refine rd_i2f C dX10_meanSteps_58 ?_
          refine rd_fdiv C dX10_meanSteps_59 (sp_fd (by omega) (by omega) (by omega) (by omega)) ?_
          exact rd_fret C dX10_meanSteps_60 (Or.inr ⟨h_43, by rw [hx, show k = (μ 1 0).toNat by omega], rfl⟩)
        · refine rd_fconst0 C dX10_meanSteps_46 ?_
          refine rd_goto C dX10_meanSteps_47 (tgt := 60) (by decide) ?_
          exact rd_fret C dX10_meanSteps_60 (Or.inl ⟨h_43, rfl, rfl⟩)
      · have hit2 := (hI.1.2.1 _ (hI.1.2.2.1 c2 (by omega) (by omega))).1
        have hfr2 := mo_FS_r hit2
        refine rd_iload_n C dX10_meanSteps_14 rfl ?_
        refine rd_aload_n C dX10_meanSteps_15 rfl ?_
        refine rd_aload_n C dX10_meanSteps_16 rfl ?_
        refine rd_get C rd_g10_0 rf_X10_7 dX10_meanSteps_17 rd_c0 rd_m0 (x := rd_R (1)) rfl (fun _ => trivial) ?_
        refine rd_iconst C dX10_meanSteps_20 (n := 1) ⟨by decide, by decide⟩ ?_
        refine rd_iload_n C dX10_meanSteps_21 rfl ?_
        refine rd_iadd C dX10_meanSteps_22 (z := 1 + c2) rfl ⟨by omega, by omega⟩ ?_
        refine rd_ialdx C rd_ai18 dX10_meanSteps_23 rd_c1 rd_m1 ⟨by omega, by omega⟩ (z := μ 1 (1 + c2)) rfl ?_
        refine rd_callV C (c_X10_finalStep (hI.1.1.2 c2 (by omega) (by omega)) hit2) rm_X10_48 ri_X10_finalStep rs_X10_finalStep rc_X10_finalStep rz_X10 ⟨rp_X10_finalStep, rfl, rfl, by decide, by decide⟩ rfl rd_kcl10 dX10_meanSteps_24 rd_c0 rd_m0 rfl (Nat.le_of_ble_eq_true rfl) (fun v1 w1 hq => ?_)
        obtain ⟨hv1, hm1⟩ := hq; rw [show v1 = some (rd_I (mo_FS μ (μ 1 (1 + c2)))) from hv1, hm1]; clear hv1 hm1
        refine rd_iconst C dX10_meanSteps_27 (n := 1) ⟨by decide, by decide⟩ ?_
        refine rd_iadd C dX10_meanSteps_28 (z := mo_FS μ (μ 1 (1 + c2)) + 1) rfl ⟨by omega, by omega⟩ ?_
        refine rd_iadd C dX10_meanSteps_29 (z := x + (mo_FS μ (μ 1 (1 + c2)) + 1)) rfl ⟨by omega, by omega⟩ ?_
        refine rd_istore_n C dX10_meanSteps_30 (by decide) (L' := [rd_R 0, rd_I (x + (mo_FS μ (μ 1 (1 + c2)) + 1)), rd_I c2]) rfl ?_
        refine rd_iinc C dX10_meanSteps_31 (by decide) rfl ⟨by omega, by omega⟩ (L' := [rd_R 0, rd_I (x + (mo_FS μ (μ 1 (1 + c2)) + 1)), rd_I (c2 + 1)]) rfl ?_
        refine rd_goto C dX10_meanSteps_34 (tgt := 4) (by decide) ?_
        exact ih (k + 1) _ _ (by omega) (by omega) (by simp only [sp_sum]; rw [hx, ← hc]) (by omega) (by omega)
  exact lp4 11 0 0 0 (by omega) (by omega) rfl (by omega) rfl
set_option maxHeartbeats 4000000 in
set_option maxRecDepth 100000 in
theorem c_X9_meanSteps {l : Launch} {G : rd_G} {r : Nat} {μ : rd_Mem} (hI : sp_inv μ) : rd_M l G rd_kc 313 r yX9_meanSteps cX9_meanSteps 2 (some .float) (rd_rm 3 87) [rd_R 0] μ (fun v μ' => (μ 2 0 ≤ 0 ∧ v = some (rd_F FP.fconst0) ∧ μ' = μ) ∨ (0 < μ 2 0 ∧ v = some (rd_F (FP.fdiv (FP.i2f (rd_i (sp_sum (fun i => sp_if (μ (5 + 5 * i) 0 ≠ 0) (sp_FS μ i + 1) 0) 10))) (FP.i2f (rd_i (μ 2 0))))) ∧ μ' = μ)) := by
  refine rd_enter (by decide +kernel) (Nat.le_of_ble_eq_true rfl) [rd_R 0, rd_J] rfl (fun p e s m args below meth c C => ?_)
  refine rd_W.rng (fun hM hL _ => ?_)
  have hc1 := hI.1.1.1
  have hc2 := hI.1.1.2
  refine rd_aload_n C dX9_meanSteps_0 rfl ?_
  refine rd_get C rd_g9_0 rf_X9_10 dX9_meanSteps_1 rd_b0 rd_k0 (x := rd_R (1)) rfl (fun _ => trivial) ?_
  refine rd_get C rd_g8_1 rf_X9_44 dX9_meanSteps_4 rd_b1 rd_k1 (x := rd_R (2)) rfl (fun _ => trivial) ?_
  refine rd_get C rd_g0_0 rf_X9_79 dX9_meanSteps_7 rd_b2 rd_k2 (x := rd_I (μ 2 0)) rfl (fun h => h _ _) ?_
  refine rd_istore_n C dX9_meanSteps_10 (by decide) (L' := [rd_R 0, rd_I (μ 2 0)]) rfl ?_
  refine rd_iload_n C dX9_meanSteps_11 rfl ?_
  refine rd_if_gt C dX9_meanSteps_12 (tgt := 19) (by decide) (fun h_12 => ?_) (fun h_12 => ?_)
  · refine rd_aload_n C dX9_meanSteps_19 rfl ?_
    refine rd_get C rd_g9_0 rf_X9_10 dX9_meanSteps_20 rd_b0 rd_k0 (x := rd_R (1)) rfl (fun _ => trivial) ?_
    refine rd_get C rd_g8_1 rf_X9_44 dX9_meanSteps_23 rd_b1 rd_k1 (x := rd_R (2)) rfl (fun _ => trivial) ?_
    refine rd_callV C (c_X0_sumSteps hI.1.2.1 hI.1.2.2.1) rm_X9_262 ri_X0_sumSteps rs_X0_sumSteps rc_X0_sumSteps rz_X0 ⟨rp_X0_sumSteps, rfl, rfl, by decide, by decide⟩ rfl rd_kcl0 dX9_meanSteps_26 rd_b2 rd_k2 rfl (Nat.le_of_ble_eq_true rfl) (fun v1 w1 hq => ?_)
    obtain ⟨hv1, hm1⟩ := hq; rw [show v1 = some (rd_I (sp_sum (fun i => sp_if (μ (5 + 5 * i) 0 ≠ 0) (sp_FS μ i + 1) 0) 10)) from hv1, hm1]; clear hv1 hm1
    have hsr := sp_sum_r (g := fun i => sp_if (μ (5 + 5 * i) 0 ≠ 0) (sp_FS μ i + 1) 0) (n := 10) (b := 10) (fun i i0 i1 => by
      show 0 ≤ sp_if _ _ _ ∧ sp_if _ _ _ ≤ 10
      by_cases h : μ (5 + 5 * i) 0 ≠ 0
      · rw [sp_ift h]
        have h0 := sp_fs0 (μ (5 + 5 * i + 1)) (μ (5 + 5 * i + 2)) (μ (5 + 5 * i) 3).toNat
        have h9 := sp_fs_le (μ (5 + 5 * i + 1)) (μ (5 + 5 * i + 2)) (μ (5 + 5 * i) 3).toNat (fun q hq => hI.1.2.2.1 i i0 (by omega) q (by omega) (by have := hI.1.2.1 i i0 (by omega); omega) (by omega))
        unfold sp_FS
        omega
      · rw [sp_iff h]; omega)
    refine rd_i2f C dX9_meanSteps_29 ?_
    refine rd_iload_n C dX9_meanSteps_30 rfl ?_
    refine rd_i2f C dX9_meanSteps_31 ?_
    refine rd_fdiv C dX9_meanSteps_32 (sp_fd (by omega) (by omega) (by omega) (by omega)) ?_
    exact rd_fret C dX9_meanSteps_33 (Or.inr ⟨by omega, rfl, rfl⟩)
  · refine rd_fconst0 C dX9_meanSteps_15 ?_
    refine rd_goto C dX9_meanSteps_16 (tgt := 33) (by decide) ?_
    exact rd_fret C dX9_meanSteps_33 (Or.inl ⟨by omega, rfl, rfl⟩)
