/-! the mean: floats -/
def lw_fl (f : UInt32) : Prop := vf_n64 (FP.f2d f) ∧ Op.cmpValue (FP.dcmp (FP.f2d f) (FP.f2d f)) .l = 0
theorem lw_fl0a : (FP.f2d FP.fconst0) &&& 0x7fffffffffffffff ≤ 0x7ff0000000000000 := by decide +kernel
theorem lw_fl0 : lw_fl FP.fconst0 := ⟨lw_fl0a, by decide +kernel⟩
theorem lw_fd1 : ∀ c : Fin 10, ∀ s : Fin 101, (FP.f2d (FP.fdiv (FP.i2f (rd_i (s.val : Int))) (FP.i2f (rd_i ((c.val : Int) + 1))))) &&& 0x7fffffffffffffff ≤ 0x7ff0000000000000 := by decide +kernel
theorem lw_fd2 : ∀ c : Fin 10, ∀ s : Fin 101, Op.cmpValue (FP.dcmp (FP.f2d (FP.fdiv (FP.i2f (rd_i (s.val : Int))) (FP.i2f (rd_i ((c.val : Int) + 1))))) (FP.f2d (FP.fdiv (FP.i2f (rd_i (s.val : Int))) (FP.i2f (rd_i ((c.val : Int) + 1)))))) .l = 0 := by decide +kernel
theorem lw_fd {s c : Int} (h0 : 0 ≤ s) (h1 : s ≤ 100) (c0 : 1 ≤ c) (c1 : c ≤ 10) : lw_fl (FP.fdiv (FP.i2f (rd_i s)) (FP.i2f (rd_i c))) := by
  have a := lw_fd1 ⟨(c - 1).toNat, by omega⟩ ⟨s.toNat, by omega⟩
  have b := lw_fd2 ⟨(c - 1).toNat, by omega⟩ ⟨s.toNat, by omega⟩
  simp only at a b
  rw [show ((s.toNat : Nat) : Int) = s by omega, show (((c - 1).toNat : Nat) : Int) + 1 = c by omega] at a b
  exact ⟨a, b⟩
theorem lw_ff {μ ν μ' : rd_Mem} {f : UInt32} (hR : rl_R μ ν) (h : (μ 2 0 ≤ 0 ∧ some (rd_F f) = some (rd_F FP.fconst0) ∧ μ' = μ) ∨ (0 < μ 2 0 ∧ some (rd_F f) = some (rd_F (FP.fdiv (FP.i2f (rd_i (sp_sum (fun i => sp_if (μ (5 + 5 * i) 0 ≠ 0) (sp_FS μ i + 1) 0) 10))) (FP.i2f (rd_i (μ 2 0))))) ∧ μ' = μ)) : lw_fl f := by
  have hcn := hR.1.1.1.1
  unfold sp_cnt at hcn
  rcases h with ⟨a, e, -⟩ | ⟨a, e, -⟩
  · have e2 : f = FP.fconst0 := Sum.inr.inj (Sum.inr.inj (Option.some.inj e))
    rw [e2]; exact lw_fl0
  · have e2 := Sum.inr.inj (Sum.inr.inj (Option.some.inj e))
    rw [e2]
    have hs := sp_sum_r (g := fun i => sp_if (μ (5 + 5 * i) 0 ≠ 0) (sp_FS μ i + 1) 0) (n := 10) (b := 10) (fun i i0 i1 => by
      have h0 : 0 ≤ sp_FS μ i := sp_fs0 _ _ _
      have h9 := sp_FS9 hR.1.1.1.2.1 hR.1.1.1.2.2.1 i0 (by omega : i < 10)
      show 0 ≤ sp_if (μ (5 + 5 * i) 0 ≠ 0) (sp_FS μ i + 1) 0 ∧ sp_if (μ (5 + 5 * i) 0 ≠ 0) (sp_FS μ i + 1) 0 ≤ 10
      by_cases hc : μ (5 + 5 * i) 0 ≠ 0
      · rw [sp_ift hc]; omega
      · rw [sp_iff hc]; omega)
    exact lw_fd hs.1 (by have := hs.2; omega) (by omega) hcn.2
section LWL
variable {p : Program} {l : Launch} {e : Env} {s : State} {m : MethodId} {below : List Frame} {meth : Method} {c : Code} {Q : State → Prop} {G : rd_G} {cs sl b L0 : Nat} {xs : Nat → Int32} {i : Int} {μ ν : rd_Mem}
theorem lw_hasB {s : State} {b : Nat} {i : Int} {ls : Array Slot} (h : lv_has ls 8 [(0, Value.ref b), (1, Value.ref s.heap.size), (2, Value.ref (s.heap.size + 313)), (3, Value.int (rd_i i))]) : rd_has 0 ls 8 (lw_B s b i) := by
  refine ⟨h.1, h.2.1, fun j x hx => ?_⟩
  have e0 : rd_val 0 (rd_R (b : Int)) = Value.ref b := congrArg Value.ref (show 0 + (b : Int).toNat = b by omega)
  have e1 : rd_val 0 (rd_R (s.heap.size : Int)) = Value.ref s.heap.size := congrArg Value.ref (show 0 + (s.heap.size : Int).toNat = s.heap.size by omega)
  have e2 : rd_val 0 (rd_R ((s.heap.size + 313 : Nat) : Int)) = Value.ref (s.heap.size + 313) := congrArg Value.ref (show 0 + ((s.heap.size + 313 : Nat) : Int).toNat = s.heap.size + 313 by omega)
  match j, hx with
  | 0, hx => right; rw [← Option.some.inj hx, e0]; exact lv_at h 0 rfl
  | 1, hx => right; rw [← Option.some.inj hx, e1]; exact lv_at h 1 rfl
  | 2, hx => right; rw [← Option.some.inj hx, e2]; exact lv_at h 2 rfl
  | 3, hx => right; rw [← Option.some.inj hx]; exact lv_at h 3 rfl
  | 4, hx => left; exact (Option.some.inj hx).symm
  | 5, hx => left; exact (Option.some.inj hx).symm
  | 6, hx => left; exact (Option.some.inj hx).symm
  | 7, hx => left; exact (Option.some.inj hx).symm
  | j + 8, hx => simp at hx
theorem lw_hasL {s : State} {b : Nat} {i : Int} {ls : Array Slot} (h : rd_has 0 ls 8 (lw_B s b i)) : lv_has ls 8 [(0, Value.ref b), (1, Value.ref s.heap.size), (2, Value.ref (s.heap.size + 313)), (3, Value.int (rd_i i))] := by
  refine ⟨h.1, h.2.1, fun q hq => ?_⟩
  have e0 : rd_val 0 (rd_R (b : Int)) = Value.ref b := congrArg Value.ref (show 0 + (b : Int).toNat = b by omega)
  have e1 : rd_val 0 (rd_R (s.heap.size : Int)) = Value.ref s.heap.size := congrArg Value.ref (show 0 + (s.heap.size : Int).toNat = s.heap.size by omega)
  have e2 : rd_val 0 (rd_R ((s.heap.size + 313 : Nat) : Int)) = Value.ref (s.heap.size + 313) := congrArg Value.ref (show 0 + ((s.heap.size + 313 : Nat) : Int).toNat = s.heap.size + 313 by omega)
  rcases List.mem_cons.mp hq with rfl | hq
  · show ls[0]? = some (.val (Value.ref b)); rw [← e0]; exact rd_lget h rfl (fun g => by cases g)
  rcases List.mem_cons.mp hq with rfl | hq
  · show ls[1]? = some (.val (Value.ref s.heap.size)); rw [← e1]; exact rd_lget h rfl (fun g => by cases g)
  rcases List.mem_cons.mp hq with rfl | hq
  · show ls[2]? = some (.val (Value.ref (s.heap.size + 313))); rw [← e2]; exact rd_lget h rfl (fun g => by cases g)
  rcases List.mem_cons.mp hq with rfl | hq
  · exact rd_lget h (i := 3) (x := rd_I i) rfl (fun g => by cases g)
  · exact absurd hq List.not_mem_nil
set_option maxHeartbeats 1000000 in
theorem lw_o34 (D : lw_Cx p s m b meth c G L0 xs) (hcr : cs + 0 ≤ room_1.cells ∧ sl + 0 ≤ room_1.slots) (hR : rl_R μ ν) (hμ : rd_okM μ) (hν : rd_okM ν) (hi : 0 ≤ i ∧ i + 5 ≤ L0) (kk : ∀ μ' ν', rl_R μ' ν' → rd_okM μ' → rd_okM ν' → lw_K p l e s m below meth c Q G cs sl b i μ' ν' 1147 []) : lw_K p l e s m below meth c Q G cs sl b i μ ν 1042 [] := by
  obtain ⟨C, hX, hbl, hL0⟩ := D
  refine rx_aload_n C dL_law_1042 (z := some (s.heap.size : Int)) rfl ?_
  refine lw_callV C (mk := rd_F) (kd := rd_kc) (N := 313) (w := s.heap.size) (I' := fun μ' => lw_I G s.heap.size s.heap μ' ν) (as := []) (c_X9_meanSteps (rl_RI hR)) hμ rm_L_155 ri_X9_meanSteps rs_X9_meanSteps rc_X9_meanSteps rz_X9 ⟨rp_X9_meanSteps, rfl, rfl, by decide, by decide⟩ rfl rd_kcl9 dL_law_1043 rd_k0 (by decide) (fun _ => rfl) rfl rfl (Nat.le_of_ble_eq_true rfl) (fun _ _ h => h.1) (lw_I1 rfl) (fun v μ' h => by rcases h with ⟨_, e, _⟩ | ⟨_, e, _⟩ <;> exact ⟨_, e⟩) hcr (fun f1 μ1 hp1 hμ1 => ?_)
  have hf := lw_ff hR hp1
  intro hL hS H locs ls hl hI
  have h4 := lw_hasL hl
  show W p l e room_1 s m #[Value.ref b] below meth c H locs cs sl Q (F0 m 1046 ls [Value.float f1])
  refine lv_f2d C.1.1 C.1.2.1 dL_law_1046 hf.1 ?_
  refine lv_dstore C.1.1 C.1.2.1 dL_law_1047 h4 (by decide) rfl (fun ls1 hl1 => ?_)
  refine lv_aload_n C.1.1 C.1.2.1 dL_law_1049 rfl (lv_at hl1 3 rfl) ?_
  refine lw_callW C (mk := rd_F) (kd := rd_km) (N := 5) (w := s.heap.size + 313) (I := lw_I G s.heap.size s.heap μ1 ν) (I' := fun ν' => lw_I G s.heap.size s.heap μ1 ν') (as := []) (rest := []) (c_X10_meanSteps (rl_i hR)) hν rd_okn rm_L_159 ri_X10_meanSteps rs_X10_meanSteps rc_X10_meanSteps rz_X10 ⟨rp_X10_meanSteps, rfl, rfl, by decide, by decide⟩ rfl rd_kcl10 dL_law_1050 rd_m0 (by decide) (fun _ => rfl) rfl (fun _ _ h => h.2.1) (lw_I2 rfl) (fun v μ' h => by rcases h with ⟨_, e, _⟩ | ⟨_, e, _⟩ <;> exact ⟨_, e⟩) hcr hl1.1 hI (Nat.le_of_ble_eq_true rfl) (fun f2 ν1 H1 locs1 hp2 hν1 _ hI1 => ?_)
  obtain ⟨hvv, hR2⟩ := ro_meanSteps hR hp1 hp2
  have hz : f2 = f1 := Sum.inr.inj (Sum.inr.inj (Option.some.inj hvv))
  subst hz
  show W p l e room_1 s m #[Value.ref b] below meth c H1 locs1 cs sl Q (F0 m 1053 ls1 [Value.float f2])
  refine lv_f2d C.1.1 C.1.2.1 dL_law_1053 hf.1 ?_
  refine lv_dstore C.1.1 C.1.2.1 dL_law_1054 hl1 (by decide) rfl (fun ls2 hl2 => ?_)
  refine lv_dload C.1.1 C.1.2.1 dL_law_1056 (lv_at hl2 1 rfl) ?_
  refine lv_dload C.1.1 C.1.2.1 dL_law_1058 (lv_at hl2 0 rfl) ?_
  refine lv_dcmp C.1.1 C.1.2.1 dL_law_1060 ?_
  refine lv_if_eq C.1.1 C.1.2.1 dL_law_1061 (tgt := 1082) (by decide) (fun _ => ?_) (fun h => absurd hf.2 h)
  refine lv_goto C.1.1 C.1.2.1 dL_law_1082 (tgt := 1147) (by decide) ?_
  exact kk μ1 ν1 hR2 hμ1 hν1 hL rd_okn H1 locs1 ls2 (lw_hasB (lv_sub hl2 [2, 3, 4, 5] rfl)) hI1
theorem lw_step (D : lw_Cx p s m b meth c G L0 xs) (hcr : cs + 0 ≤ room_1.cells ∧ sl + 0 ≤ room_1.slots) (hR : rl_R μ ν) (hμ : rd_okM μ) (hν : rd_okM ν) (hi : 0 ≤ i ∧ i + 5 ≤ L0) (kk : ∀ μ' ν', rl_R μ' ν' → rd_okM μ' → rd_okM ν' → lw_K p l e s m below meth c Q G cs sl b i μ' ν' 1147 []) : lw_K p l e s m below meth c Q G cs sl b i μ ν 26 [] := by
  obtain ⟨C, hX, hbl, hL0⟩ := id D
  refine rx_aload_n C dL_law_26 (z := some (b : Int)) rfl ?_
  refine rx_iload_n C dL_law_27 (z := i) rfl ?_
  refine lw_ald C hX hbl ⟨by omega, by omega⟩ (fun _ _ h => h.2.2) dL_law_28 ?_
  refine rx_bipush C dL_law_29 (n := 63) (by decide) ⟨by decide, by decide⟩ ?_
  refine rx_iand C dL_law_31 (z := (xs i.toNat &&& 63).toInt) (by rw [lw_x_i]; exact (Int32.ofInt_toInt _).symm) ⟨Int32.le_toInt _, Int32.toInt_lt _⟩ ?_
  generalize (xs i.toNat &&& 63).toInt = z
  by_cases hz : 0 ≤ z ∧ z ≤ 38
  · rcases (show z = 0 ∨ z = 1 ∨ z = 2 ∨ z = 3 ∨ z = 4 ∨ z = 5 ∨ z = 6 ∨ z = 7 ∨ z = 8 ∨ z = 9 ∨ z = 10 ∨ z = 11 ∨ z = 12 ∨ z = 13 ∨ z = 14 ∨ z = 15 ∨ z = 16 ∨ z = 17 ∨ z = 18 ∨ z = 19 ∨ z = 20 ∨ z = 21 ∨ z = 22 ∨ z = 23 ∨ z = 24 ∨ z = 25 ∨ z = 26 ∨ z = 27 ∨ z = 28 ∨ z = 29 ∨ z = 30 ∨ z = 31 ∨ z = 32 ∨ z = 33 ∨ z = 34 ∨ z = 35 ∨ z = 36 ∨ z = 37 ∨ z = 38 by omega) with h | h | h | h | h | h | h | h | h | h | h | h | h | h | h | h | h | h | h | h | h | h | h | h | h | h | h | h | h | h | h | h | h | h | h | h | h | h | h
    · subst h; exact rx_swIn C dL_law_32 (by decide) (by decide) (off := 172) rfl (tgt := 204) (by decide) (lw_o0 D hcr hR hμ hν hi kk)
    · subst h; exact rx_swIn C dL_law_32 (by decide) (by decide) (off := 185) rfl (tgt := 217) (by decide) (lw_o1 D hcr hR hμ hν hi kk)
    · subst h; exact rx_swIn C dL_law_32 (by decide) (by decide) (off := 208) rfl (tgt := 240) (by decide) (lw_o2 D hcr hR hμ hν hi kk)
    · subst h; exact rx_swIn C dL_law_32 (by decide) (by decide) (off := 241) rfl (tgt := 273) (by decide) (lw_o3 D hcr hR hμ hν hi kk)
    · subst h; exact rx_swIn C dL_law_32 (by decide) (by decide) (off := 290) rfl (tgt := 322) (by decide) (lw_o4 D hcr hR hμ hν hi kk)
    · subst h; exact rx_swIn C dL_law_32 (by decide) (by decide) (off := 323) rfl (tgt := 355) (by decide) (lw_o5 D hcr hR hμ hν hi kk)
    · subst h; exact rx_swIn C dL_law_32 (by decide) (by decide) (off := 376) rfl (tgt := 408) (by decide) (lw_o6 D hcr hR hμ hν hi kk)
    · subst h; exact rx_swIn C dL_law_32 (by decide) (by decide) (off := 409) rfl (tgt := 441) (by decide) (lw_o7 D hcr hR hμ hν hi kk)
    · subst h; exact rx_swIn C dL_law_32 (by decide) (by decide) (off := 452) rfl (tgt := 484) (by decide) (lw_o8 D hcr hR hμ hν hi kk)
    · subst h; exact rx_swIn C dL_law_32 (by decide) (by decide) (off := 485) rfl (tgt := 517) (by decide) (lw_o9 D hcr hR hμ hν hi kk)
    · subst h; exact rx_swIn C dL_law_32 (by decide) (by decide) (off := 518) rfl (tgt := 550) (by decide) (lw_o10 D hcr hR hμ hν hi kk)
    · subst h; exact rx_swIn C dL_law_32 (by decide) (by decide) (off := 541) rfl (tgt := 573) (by decide) (lw_o11 D hcr hR hμ hν hi kk)
    · subst h; exact rx_swIn C dL_law_32 (by decide) (by decide) (off := 554) rfl (tgt := 586) (by decide) (lw_o12 D hcr hR hμ hν hi kk)
    · subst h; exact rx_swIn C dL_law_32 (by decide) (by decide) (off := 567) rfl (tgt := 599) (by decide) (lw_o13 D hcr hR hμ hν hi kk)
    · subst h; exact rx_swIn C dL_law_32 (by decide) (by decide) (off := 580) rfl (tgt := 612) (by decide) (lw_o14 D hcr hR hμ hν hi kk)
    · subst h; exact rx_swIn C dL_law_32 (by decide) (by decide) (off := 593) rfl (tgt := 625) (by decide) (lw_o15 D hcr hR hμ hν hi kk)
    · subst h; exact rx_swIn C dL_law_32 (by decide) (by decide) (off := 616) rfl (tgt := 648) (by decide) (lw_o16 D hcr hR hμ hν hi kk)
    · subst h; exact rx_swIn C dL_law_32 (by decide) (by decide) (off := 639) rfl (tgt := 671) (by decide) (lw_o17 D hcr hR hμ hν hi kk)
    · subst h; exact rx_swIn C dL_law_32 (by decide) (by decide) (off := 662) rfl (tgt := 694) (by decide) (lw_o18 D hcr hR hμ hν hi kk)
    · subst h; exact rx_swIn C dL_law_32 (by decide) (by decide) (off := 675) rfl (tgt := 707) (by decide) (lw_o19 D hcr hR hμ hν hi kk)
    · subst h; exact rx_swIn C dL_law_32 (by decide) (by decide) (off := 688) rfl (tgt := 720) (by decide) (lw_o20 D hcr hR hμ hν hi kk)
    · subst h; exact rx_swIn C dL_law_32 (by decide) (by decide) (off := 701) rfl (tgt := 733) (by decide) (lw_o21 D hcr hR hμ hν hi kk)
    · subst h; exact rx_swIn C dL_law_32 (by decide) (by decide) (off := 724) rfl (tgt := 756) (by decide) (lw_o22 D hcr hR hμ hν hi kk)
    · subst h; exact rx_swIn C dL_law_32 (by decide) (by decide) (off := 737) rfl (tgt := 769) (by decide) (lw_o23 D hcr hR hμ hν hi kk)
    · subst h; exact rx_swIn C dL_law_32 (by decide) (by decide) (off := 750) rfl (tgt := 782) (by decide) (lw_o24 D hcr hR hμ hν hi kk)
    · subst h; exact rx_swIn C dL_law_32 (by decide) (by decide) (off := 773) rfl (tgt := 805) (by decide) (lw_o25 D hcr hR hμ hν hi kk)
    · subst h; exact rx_swIn C dL_law_32 (by decide) (by decide) (off := 806) rfl (tgt := 838) (by decide) (lw_o26 D hcr hR hμ hν hi kk)
    · subst h; exact rx_swIn C dL_law_32 (by decide) (by decide) (off := 849) rfl (tgt := 881) (by decide) (lw_o27 D hcr hR hμ hν hi kk)
    · subst h; exact rx_swIn C dL_law_32 (by decide) (by decide) (off := 882) rfl (tgt := 914) (by decide) (lw_o28 D hcr hR hμ hν hi kk)
    · subst h; exact rx_swIn C dL_law_32 (by decide) (by decide) (off := 915) rfl (tgt := 947) (by decide) (lw_o29 D hcr hR hμ hν hi kk)
    · subst h; exact rx_swIn C dL_law_32 (by decide) (by decide) (off := 938) rfl (tgt := 970) (by decide) (lw_o30 D hcr hR hμ hν hi kk)
    · subst h; exact rx_swIn C dL_law_32 (by decide) (by decide) (off := 971) rfl (tgt := 1003) (by decide) (lw_o31 D hcr hR hμ hν hi kk)
    · subst h; exact rx_swIn C dL_law_32 (by decide) (by decide) (off := 984) rfl (tgt := 1016) (by decide) (lw_o32 D hcr hR hμ hν hi kk)
    · subst h; exact rx_swIn C dL_law_32 (by decide) (by decide) (off := 997) rfl (tgt := 1029) (by decide) (lw_o33 D hcr hR hμ hν hi kk)
    · subst h; exact rx_swIn C dL_law_32 (by decide) (by decide) (off := 1010) rfl (tgt := 1042) (by decide) (lw_o34 D hcr hR hμ hν hi kk)
    · subst h; exact rx_swIn C dL_law_32 (by decide) (by decide) (off := 1053) rfl (tgt := 1085) (by decide) (lw_o35 D hcr hR hμ hν hi kk)
    · subst h; exact rx_swIn C dL_law_32 (by decide) (by decide) (off := 1066) rfl (tgt := 1098) (by decide) (lw_o36 D hcr hR hμ hν hi kk)
    · subst h; exact rx_swIn C dL_law_32 (by decide) (by decide) (off := 1089) rfl (tgt := 1121) (by decide) (lw_o37 D hcr hR hμ hν hi kk)
    · subst h; exact rx_swIn C dL_law_32 (by decide) (by decide) (off := 1102) rfl (tgt := 1134) (by decide) (lw_o38 D hcr hR hμ hν hi kk)
  · exact rx_swOut C dL_law_32 (by omega) (tgt := 1147) (by decide) (kk _ _ hR hμ hν)
end LWL
