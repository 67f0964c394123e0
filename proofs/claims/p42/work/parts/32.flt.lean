/-! floats -/
section RDFL
variable {p : Program} {l : Launch} {e : Env} {R : Room} {s : State} {m : MethodId} {args : Array Value} {below : List Frame} {meth : Method} {c : Code} {Q : State → Prop}
variable {cc : ByteArray} {nl : Nat} {own : String} {ret : Option FieldType} {G : rd_G} {kd : Int → Nat} {N r : Nat}
variable {pc : Nat} {L S : List rd_X} {μ : rd_Mem}
theorem rd_fconst0 (C : rd_Cx p s m args meth c cc nl own ret G) (hd : decode cc pc = .ok (.fconst 0, 1)) (k : rd_W p l e R s m args below meth c Q nl G kd N r (pc + 1) L (rd_F FP.fconst0 :: S) μ) : rd_W p l e R s m args below meth c Q nl G kd N r pc L S μ := by
  intro hM hL hS H locs ls hl hP hs
  exact lv_fconst0 C.1.1 C.1.2.1 hd (k hM hL (rd_okc (x := rd_F FP.fconst0) trivial hS) H locs ls hl hP hs)
theorem rd_i2f (C : rd_Cx p s m args meth c cc nl own ret G) {a : Int} (hd : decode cc pc = .ok (.i2f, 1)) (k : rd_W p l e R s m args below meth c Q nl G kd N r (pc + 1) L (rd_F (FP.i2f (rd_i a)) :: S) μ) : rd_W p l e R s m args below meth c Q nl G kd N r pc L (rd_I a :: S) μ := by
  intro hM hL hS H locs ls hl hP hs
  exact lv_i2f C.1.1 C.1.2.1 hd (k hM hL (rd_okc (x := rd_F (FP.i2f (rd_i a))) trivial (rd_okt hS)) H locs ls hl hP hs)
theorem rd_fdiv (C : rd_Cx p s m args meth c cc nl own ret G) {a b : UInt32} (hd : decode cc pc = .ok (.fdiv, 1)) (hn : vf_n32 (FP.fdiv a b)) (k : rd_W p l e R s m args below meth c Q nl G kd N r (pc + 1) L (rd_F (FP.fdiv a b) :: S) μ) : rd_W p l e R s m args below meth c Q nl G kd N r pc L (rd_F b :: rd_F a :: S) μ := by
  intro hM hL hS H locs ls hl hP hs
  exact lv_fdiv C.1.1 C.1.2.1 hd hn (k hM hL (rd_okc (x := rd_F (FP.fdiv a b)) trivial (rd_okt (rd_okt hS))) H locs ls hl hP hs)
end RDFL
theorem sp_fd0 : ∀ c : Fin 10, ∀ s : Fin 101, (FP.fdiv (FP.i2f (rd_i (s.val : Int))) (FP.i2f (rd_i ((c.val : Int) + 1)))) &&& 0x7fffffff ≤ 0x7f800000 := by decide +kernel
theorem sp_fd {s c : Int} (h0 : 0 ≤ s) (h1 : s ≤ 100) (c0 : 1 ≤ c) (c1 : c ≤ 10) : vf_n32 (FP.fdiv (FP.i2f (rd_i s)) (FP.i2f (rd_i c))) := by
  have := sp_fd0 ⟨(c - 1).toNat, by omega⟩ ⟨s.toNat, by omega⟩
  simp only at this
  rw [show ((s.toNat : Nat) : Int) = s by omega, show (((c - 1).toNat : Nat) : Int) + 1 = c by omega] at this
  exact this
theorem sp_sum_r {g : Int → Int} {n : Nat} {b : Int} (h : ∀ i : Int, 0 ≤ i → i < n → 0 ≤ g i ∧ g i ≤ b) : 0 ≤ sp_sum g n ∧ sp_sum g n ≤ b * n := by
  induction n with
  | zero => exact ⟨Int.le_refl 0, by show (0 : Int) ≤ _; simp⟩
  | succ n ih =>
    have h1 := ih (fun i h0 h1 => h i h0 (by omega))
    have h2 := h n (by omega) (by omega)
    have e : b * ((n + 1 : Nat) : Int) = b * n + b := by rw [Int.natCast_add, Int.mul_add]; simp
    rw [e]
    simp only [sp_sum]
    omega
set_option maxHeartbeats 4000000 in
set_option maxRecDepth 100000 in
theorem c_X9_meanSteps {l : Launch} {G : rd_G} {r : Nat} {μ : rd_Mem} (hI : sp_inv μ) : rd_M l G rd_kc 313 r yX9_meanSteps cX9_meanSteps 2 (some .float) (rd_rm 3 87) [rd_R 0] μ (fun v μ' => (μ 2 0 ≤ 0 ∧ v = some (rd_F FP.fconst0) ∧ μ' = μ) ∨ (0 < μ 2 0 ∧ v = some (rd_F (FP.fdiv (FP.i2f (rd_i (sp_sum (fun i => sp_if (μ (5 + 5 * i) 0 ≠ 0) (sp_FS μ i + 1) 0) 10))) (FP.i2f (rd_i (μ 2 0))))) ∧ μ' = μ)) := by
  refine rd_enter (by decide +kernel) (Nat.le_of_ble_eq_true rfl) [rd_R 0, rd_J] rfl (fun p e s m args below meth c C => ?_)
  refine rd_W.rng (fun hM hL _ => ?_)
  have hc1 := hI.1.1.1
  have hc2 := hI.1.1.2
  refine rd_aload_n C dX9_meanSteps_0 rfl ?_
  refine rd_get C rd_g9_0 rf_X9_10 dX9_meanSteps_1 rd_b0 rd_k0 (x := rd_R (1)) rfl (fun _ => trivial) ?_
  refine rd_get C rd_g8_1 rf_X9_44 dX9_meanSteps_4 rd_b1 rd_k1 (x := rd_R (2)) rfl (fun _ => trivial) ?_
  refine rd_get C rd_g0_0 rf_X9_79 dX9_meanSteps_7 rd_b2 rd_k2 (x := rd_I (μ 2 0)) rfl (fun h => h _ _) ?_
  refine rd_istore_n C dX9_meanSteps_10 (by decide) (L' := [rd_R 0, rd_I (μ 2 0)]) rfl ?_
  refine rd_iload_n C dX9_meanSteps_11 rfl ?_
  refine rd_if_gt C dX9_meanSteps_12 (tgt := 19) (by decide) (fun h_12 => ?_) (fun h_12 => ?_)
  · refine rd_aload_n C dX9_meanSteps_19 rfl ?_
    refine rd_get C rd_g9_0 rf_X9_10 dX9_meanSteps_20 rd_b0 rd_k0 (x := rd_R (1)) rfl (fun _ => trivial) ?_
    refine rd_get C rd_g8_1 rf_X9_44 dX9_meanSteps_23 rd_b1 rd_k1 (x := rd_R (2)) rfl (fun _ => trivial) ?_
    refine rd_callV C (c_X0_sumSteps hI.1.2.1 hI.1.2.2.1) rm_X9_262 ri_X0_sumSteps rs_X0_sumSteps rc_X0_sumSteps rz_X0 ⟨rp_X0_sumSteps, rfl, rfl, by decide, by decide⟩ rfl rd_kcl0 dX9_meanSteps_26 rd_b2 rd_k2 rfl (Nat.le_of_ble_eq_true rfl) (fun v1 w1 hq => ?_)
    obtain ⟨hv1, hm1⟩ := hq; rw [show v1 = some (rd_I (sp_sum (fun i => sp_if (μ (5 + 5 * i) 0 ≠ 0) (sp_FS μ i + 1) 0) 10)) from hv1, hm1]; clear hv1 hm1
    have hsr := sp_sum_r (g := fun i => sp_if (μ (5 + 5 * i) 0 ≠ 0) (sp_FS μ i + 1) 0) (n := 10) (b := 10) (fun i i0 i1 => by
      show 0 ≤ sp_if _ _ _ ∧ sp_if _ _ _ ≤ 10
      by_cases h : μ (5 + 5 * i) 0 ≠ 0
      · rw [sp_ift h]
        have h0 := sp_fs0 (μ (5 + 5 * i + 1)) (μ (5 + 5 * i + 2)) (μ (5 + 5 * i) 3).toNat
        have h9 := sp_fs_le (μ (5 + 5 * i + 1)) (μ (5 + 5 * i + 2)) (μ (5 + 5 * i) 3).toNat (fun q hq => hI.1.2.2.1 i i0 (by omega) q (by omega) (by have := hI.1.2.1 i i0 (by omega); omega) (by omega))
        unfold sp_FS
        omega
      · rw [sp_iff h]; omega)
    refine rd_i2f C dX9_meanSteps_29 ?_
    refine rd_iload_n C dX9_meanSteps_30 rfl ?_
    refine rd_i2f C dX9_meanSteps_31 ?_
    refine rd_fdiv C dX9_meanSteps_32 (sp_fd (by omega) (by omega) (by omega) (by omega)) ?_
    exact rd_fret C dX9_meanSteps_33 (Or.inr ⟨by omega, rfl, rfl⟩)
  · refine rd_fconst0 C dX9_meanSteps_15 ?_
    refine rd_goto C dX9_meanSteps_16 (tgt := 33) (by decide) ?_
    exact rd_fret C dX9_meanSteps_33 (Or.inl ⟨by omega, rfl, rfl⟩)

