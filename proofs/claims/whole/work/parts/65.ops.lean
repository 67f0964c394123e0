/-! one step of the law, call by call -/
def lw_Cx (p : Program) (s : State) (m : MethodId) (b : Nat) (meth : Method) (c : Code) (G : rd_G) (L0 : Nat) (xs : Nat → Int32) : Prop := rd_Cx p s m #[Value.ref b] meth c cL_law 8 RL ret G ∧ va_X b L0 xs s s.heap ∧ b < s.heap.size ∧ L0 ≤ 2560
abbrev lw_B (s : State) (b : Nat) (i : Int) : List rd_X := [rd_R (b : Int), rd_R (s.heap.size : Int), rd_R ((s.heap.size + 313 : Nat) : Int), rd_I i, rd_J, rd_J, rd_J, rd_J]
section LWO
variable {p : Program} {l : Launch} {e : Env} {s : State} {m : MethodId} {below : List Frame} {meth : Method} {c : Code} {Q : State → Prop} {G : rd_G} {cs sl b L0 : Nat} {xs : Nat → Int32} {i : Int} {μ ν : rd_Mem}
abbrev lw_K (p : Program) (l : Launch) (e : Env) (s : State) (m : MethodId) (below : List Frame) (meth : Method) (c : Code) (Q : State → Prop) (G : rd_G) (cs sl b : Nat) (i : Int) (μ ν : rd_Mem) (pc : Nat) (S : List rd_X) : Prop := rx_W p l e room_1 s m #[Value.ref b] below meth c Q 8 0 cs sl (lw_I G s.heap.size s.heap μ ν) pc (lw_B s b i) S
set_option maxHeartbeats 1000000 in
theorem lw_o0 (D : lw_Cx p s m b meth c G L0 xs) (hcr : cs + 0 ≤ room_1.cells ∧ sl + 0 ≤ room_1.slots) (hR : rl_R μ ν) (hμ : rd_okM μ) (hν : rd_okM ν) (hi : 0 ≤ i ∧ i + 5 ≤ L0) (kk : ∀ μ' ν', rl_R μ' ν' → rd_okM μ' → rd_okM ν' → lw_K p l e s m below meth c Q G cs sl b i μ' ν' 1147 []) : lw_K p l e s m below meth c Q G cs sl b i μ ν 204 [] := by
  obtain ⟨C, hX, hbl, hL0⟩ := D
  by_cases h10 : ν 1 0 = 10
  · refine rx_aload_n C dL_law_204 (z := some (s.heap.size : Int)) rfl ?_
    refine lw_callV C (mk := rd_I) (kd := rd_kc) (N := 313) (w := s.heap.size) (I' := fun μ' => lw_I G s.heap.size s.heap μ' ν) (as := []) (c_X9_addSlide (rl_RI hR)) hμ rm_L_13 ri_X9_addSlide rs_X9_addSlide rc_X9_addSlide rz_X9 ⟨rp_X9_addSlide, rfl, rfl, by decide, by decide⟩ rfl rd_kcl9 dL_law_205 rd_k0 (by decide) (fun _ => rfl) rfl rfl (Nat.le_of_ble_eq_true rfl) (fun _ _ h => h.1) (lw_I1 rfl) (fun v μ' h => by rcases h with ⟨_, e, _⟩ | ⟨_, e, _⟩ <;> exact ⟨_, e⟩) hcr (fun z1 μ1 hp1 hμ1 => ?_)
    refine rx_aload_n C dL_law_208 (z := some ((s.heap.size + 313 : Nat) : Int)) rfl ?_
    refine lw_callV C (mk := rd_I) (kd := rd_km) (N := 5) (w := s.heap.size + 313) (I' := fun ν' => lw_I G s.heap.size s.heap μ1 ν') (as := []) (c_X10_addSlide_f h10) hν rm_L_17 ri_X10_addSlide rs_X10_addSlide rc_X10_addSlide rz_X10 ⟨rp_X10_addSlide, rfl, rfl, by decide, by decide⟩ rfl rd_kcl10 dL_law_209 rd_m0 (by decide) (fun _ => rfl) rfl rfl (Nat.le_of_ble_eq_true rfl) (fun _ _ h => h.2.1) (lw_I2 rfl) (fun v μ' h => by rcases h with ⟨_, e, _⟩ | ⟨_, e, _⟩ <;> exact ⟨_, e⟩) hcr (fun z2 ν1 hp2 hν1 => ?_)
    obtain ⟨hvv, hR2⟩ := ro_addSlide hR hp1 hp2
    have hz : z2 = z1 := Sum.inl.inj (Option.some.inj hvv)
    exact rx_icmp_eq C dL_law_212 (tgt := 1147) (by decide) (fun _ => kk _ _ hR2 hμ1 hν1) (fun h => absurd hz.symm h)
  · refine rx_aload_n C dL_law_204 (z := some (s.heap.size : Int)) rfl ?_
    refine lw_callV C (mk := rd_I) (kd := rd_kc) (N := 313) (w := s.heap.size) (I' := fun μ' => lw_I G s.heap.size s.heap μ' ν) (as := []) (c_X9_addSlide (rl_RI hR)) hμ rm_L_13 ri_X9_addSlide rs_X9_addSlide rc_X9_addSlide rz_X9 ⟨rp_X9_addSlide, rfl, rfl, by decide, by decide⟩ rfl rd_kcl9 dL_law_205 rd_k0 (by decide) (fun _ => rfl) rfl rfl (Nat.le_of_ble_eq_true rfl) (fun _ _ h => h.1) (lw_I1 rfl) (fun v μ' h => by rcases h with ⟨_, e, _⟩ | ⟨_, e, _⟩ <;> exact ⟨_, e⟩) hcr (fun z1 μ1 hp1 hμ1 => ?_)
    refine rx_aload_n C dL_law_208 (z := some ((s.heap.size + 313 : Nat) : Int)) rfl ?_
    refine lw_callV C (mk := rd_I) (kd := rd_km) (N := 5) (w := s.heap.size + 313) (I' := fun ν' => lw_I G s.heap.size s.heap μ1 ν') (as := []) (c_X10_addSlide (rl_i hR) (rl_st hR) (rl_fr hR h10)) hν rm_L_17 ri_X10_addSlide rs_X10_addSlide rc_X10_addSlide rz_X10 ⟨rp_X10_addSlide, rfl, rfl, by decide, by decide⟩ rfl rd_kcl10 dL_law_209 rd_m0 (by decide) (fun _ => rfl) rfl rfl (Nat.le_of_ble_eq_true rfl) (fun _ _ h => h.2.1) (lw_I2 rfl) (fun v μ' h => by rcases h with ⟨_, e, _⟩ | ⟨_, e, _⟩ <;> exact ⟨_, e⟩) hcr (fun z2 ν1 hp2 hν1 => ?_)
    obtain ⟨hvv, hR2⟩ := ro_addSlide hR hp1 hp2
    have hz : z2 = z1 := Sum.inl.inj (Option.some.inj hvv)
    exact rx_icmp_eq C dL_law_212 (tgt := 1147) (by decide) (fun _ => kk _ _ hR2 hμ1 hν1) (fun h => absurd hz.symm h)
set_option maxHeartbeats 1000000 in
theorem lw_o1 (D : lw_Cx p s m b meth c G L0 xs) (hcr : cs + 0 ≤ room_1.cells ∧ sl + 0 ≤ room_1.slots) (hR : rl_R μ ν) (hμ : rd_okM μ) (hν : rd_okM ν) (hi : 0 ≤ i ∧ i + 5 ≤ L0) (kk : ∀ μ' ν', rl_R μ' ν' → rd_okM μ' → rd_okM ν' → lw_K p l e s m below meth c Q G cs sl b i μ' ν' 1147 []) : lw_K p l e s m below meth c Q G cs sl b i μ ν 217 [] := by
  obtain ⟨C, hX, hbl, hL0⟩ := D
  refine rx_aload_n C dL_law_217 (z := some (s.heap.size : Int)) rfl ?_
  refine rx_aload_n C dL_law_218 (z := some (b : Int)) rfl ?_
  refine rx_iload_n C dL_law_219 (z := i) rfl ?_
  refine rx_iconst C dL_law_220 (n := 1) ⟨by decide, by decide⟩ ?_
  refine rx_iadd C dL_law_221 (z := i + 1) rfl ⟨by omega, by omega⟩ ?_
  refine lw_ald C hX hbl ⟨by omega, by omega⟩ (fun _ _ h => h.2.2) dL_law_222 ?_
  refine lw_callV C (mk := rd_I) (kd := rd_kc) (N := 313) (w := s.heap.size) (I' := fun μ' => lw_I G s.heap.size s.heap μ' ν) (as := [rd_I (lw_x xs (i + 1))]) (c_X9_removeSlide (rl_RI hR)) hμ rm_L_18 ri_X9_removeSlide rs_X9_removeSlide rc_X9_removeSlide rz_X9 ⟨rp_X9_removeSlide, rfl, rfl, by decide, by decide⟩ rfl rd_kcl9 dL_law_223 rd_k0 (by decide) (fun _ => rfl) rfl rfl (Nat.le_of_ble_eq_true rfl) (fun _ _ h => h.1) (lw_I1 rfl) (fun v μ' h => by rcases h with ⟨_, e, _⟩ | ⟨_, e, _⟩ | ⟨_, e, _⟩ <;> exact ⟨_, e⟩) hcr (fun z1 μ1 hp1 hμ1 => ?_)
  refine rx_aload_n C dL_law_226 (z := some ((s.heap.size + 313 : Nat) : Int)) rfl ?_
  refine rx_aload_n C dL_law_227 (z := some (b : Int)) rfl ?_
  refine rx_iload_n C dL_law_228 (z := i) rfl ?_
  refine rx_iconst C dL_law_229 (n := 1) ⟨by decide, by decide⟩ ?_
  refine rx_iadd C dL_law_230 (z := i + 1) rfl ⟨by omega, by omega⟩ ?_
  refine lw_ald C hX hbl ⟨by omega, by omega⟩ (fun _ _ h => h.2.2) dL_law_231 ?_
  refine lw_callV C (mk := rd_I) (kd := rd_km) (N := 5) (w := s.heap.size + 313) (I' := fun ν' => lw_I G s.heap.size s.heap μ1 ν') (as := [rd_I (lw_x xs (i + 1))]) (c_X10_removeSlide (rl_i hR) (rl_st hR)) hν rm_L_22 ri_X10_removeSlide rs_X10_removeSlide rc_X10_removeSlide rz_X10 ⟨rp_X10_removeSlide, rfl, rfl, by decide, by decide⟩ rfl rd_kcl10 dL_law_232 rd_m0 (by decide) (fun _ => rfl) rfl rfl (Nat.le_of_ble_eq_true rfl) (fun _ _ h => h.2.1) (lw_I2 rfl) (fun v μ' h => by rcases h with ⟨_, e, _⟩ | ⟨_, e, _⟩ | ⟨_, e, _⟩ <;> exact ⟨_, e⟩) hcr (fun z2 ν1 hp2 hν1 => ?_)
  obtain ⟨hvv, hR2⟩ := ro_removeSlide hR hp1 hp2
  have hz : z2 = z1 := Sum.inl.inj (Option.some.inj hvv)
  exact rx_icmp_eq C dL_law_235 (tgt := 1147) (by decide) (fun _ => kk _ _ hR2 hμ1 hν1) (fun h => absurd hz.symm h)
set_option maxHeartbeats 1000000 in
theorem lw_o2 (D : lw_Cx p s m b meth c G L0 xs) (hcr : cs + 0 ≤ room_1.cells ∧ sl + 0 ≤ room_1.slots) (hR : rl_R μ ν) (hμ : rd_okM μ) (hν : rd_okM ν) (hi : 0 ≤ i ∧ i + 5 ≤ L0) (kk : ∀ μ' ν', rl_R μ' ν' → rd_okM μ' → rd_okM ν' → lw_K p l e s m below meth c Q G cs sl b i μ' ν' 1147 []) : lw_K p l e s m below meth c Q G cs sl b i μ ν 240 [] := by
  obtain ⟨C, hX, hbl, hL0⟩ := D
  refine rx_aload_n C dL_law_240 (z := some (s.heap.size : Int)) rfl ?_
  refine rx_aload_n C dL_law_241 (z := some (b : Int)) rfl ?_
  refine rx_iload_n C dL_law_242 (z := i) rfl ?_
  refine rx_iconst C dL_law_243 (n := 1) ⟨by decide, by decide⟩ ?_
  refine rx_iadd C dL_law_244 (z := i + 1) rfl ⟨by omega, by omega⟩ ?_
  refine lw_ald C hX hbl ⟨by omega, by omega⟩ (fun _ _ h => h.2.2) dL_law_245 ?_
  refine rx_aload_n C dL_law_246 (z := some (b : Int)) rfl ?_
  refine rx_iload_n C dL_law_247 (z := i) rfl ?_
  refine rx_iconst C dL_law_248 (n := 2) ⟨by decide, by decide⟩ ?_
  refine rx_iadd C dL_law_249 (z := i + 2) rfl ⟨by omega, by omega⟩ ?_
  refine lw_ald C hX hbl ⟨by omega, by omega⟩ (fun _ _ h => h.2.2) dL_law_250 ?_
  refine lw_callV C (mk := rd_I) (kd := rd_kc) (N := 313) (w := s.heap.size) (I' := fun μ' => lw_I G s.heap.size s.heap μ' ν) (as := [rd_I (lw_x xs (i + 1)), rd_I (lw_x xs (i + 2))]) (c_X9_moveSlide (rl_RI hR)) hμ rm_L_23 ri_X9_moveSlide rs_X9_moveSlide rc_X9_moveSlide rz_X9 ⟨rp_X9_moveSlide, rfl, rfl, by decide, by decide⟩ rfl rd_kcl9 dL_law_251 rd_k0 (by decide) (fun _ => rfl) rfl rfl (Nat.le_of_ble_eq_true rfl) (fun _ _ h => h.1) (lw_I1 rfl) (fun v μ' h => by rcases h with ⟨_, e, _⟩ | ⟨_, e, _⟩ | ⟨_, e, _⟩ <;> exact ⟨_, e⟩) hcr (fun z1 μ1 hp1 hμ1 => ?_)
  refine rx_aload_n C dL_law_254 (z := some ((s.heap.size + 313 : Nat) : Int)) rfl ?_
  refine rx_aload_n C dL_law_255 (z := some (b : Int)) rfl ?_
  refine rx_iload_n C dL_law_256 (z := i) rfl ?_
  refine rx_iconst C dL_law_257 (n := 1) ⟨by decide, by decide⟩ ?_
  refine rx_iadd C dL_law_258 (z := i + 1) rfl ⟨by omega, by omega⟩ ?_
  refine lw_ald C hX hbl ⟨by omega, by omega⟩ (fun _ _ h => h.2.2) dL_law_259 ?_
  refine rx_aload_n C dL_law_260 (z := some (b : Int)) rfl ?_
  refine rx_iload_n C dL_law_261 (z := i) rfl ?_
  refine rx_iconst C dL_law_262 (n := 2) ⟨by decide, by decide⟩ ?_
  refine rx_iadd C dL_law_263 (z := i + 2) rfl ⟨by omega, by omega⟩ ?_
  refine lw_ald C hX hbl ⟨by omega, by omega⟩ (fun _ _ h => h.2.2) dL_law_264 ?_
  refine lw_callV C (mk := rd_I) (kd := rd_km) (N := 5) (w := s.heap.size + 313) (I' := fun ν' => lw_I G s.heap.size s.heap μ1 ν') (as := [rd_I (lw_x xs (i + 1)), rd_I (lw_x xs (i + 2))]) (c_X10_moveSlide (rl_i hR) (rl_st hR)) hν rm_L_27 ri_X10_moveSlide rs_X10_moveSlide rc_X10_moveSlide rz_X10 ⟨rp_X10_moveSlide, rfl, rfl, by decide, by decide⟩ rfl rd_kcl10 dL_law_265 rd_m0 (by decide) (fun _ => rfl) rfl rfl (Nat.le_of_ble_eq_true rfl) (fun _ _ h => h.2.1) (lw_I2 rfl) (fun v μ' h => by rcases h with ⟨_, e, _⟩ | ⟨_, e, _⟩ | ⟨_, e, _⟩ <;> exact ⟨_, e⟩) hcr (fun z2 ν1 hp2 hν1 => ?_)
  obtain ⟨hvv, hR2⟩ := ro_moveSlide hR hp1 hp2
  have hz : z2 = z1 := Sum.inl.inj (Option.some.inj hvv)
  exact rx_icmp_eq C dL_law_268 (tgt := 1147) (by decide) (fun _ => kk _ _ hR2 hμ1 hν1) (fun h => absurd hz.symm h)
set_option maxHeartbeats 1000000 in
theorem lw_o3 (D : lw_Cx p s m b meth c G L0 xs) (hcr : cs + 0 ≤ room_1.cells ∧ sl + 0 ≤ room_1.slots) (hR : rl_R μ ν) (hμ : rd_okM μ) (hν : rd_okM ν) (hi : 0 ≤ i ∧ i + 5 ≤ L0) (kk : ∀ μ' ν', rl_R μ' ν' → rd_okM μ' → rd_okM ν' → lw_K p l e s m below meth c Q G cs sl b i μ' ν' 1147 []) : lw_K p l e s m below meth c Q G cs sl b i μ ν 273 [] := by
  obtain ⟨C, hX, hbl, hL0⟩ := D
  refine rx_aload_n C dL_law_273 (z := some (s.heap.size : Int)) rfl ?_
  refine rx_aload_n C dL_law_274 (z := some (b : Int)) rfl ?_
  refine rx_iload_n C dL_law_275 (z := i) rfl ?_
  refine rx_iconst C dL_law_276 (n := 1) ⟨by decide, by decide⟩ ?_
  refine rx_iadd C dL_law_277 (z := i + 1) rfl ⟨by omega, by omega⟩ ?_
  refine lw_ald C hX hbl ⟨by omega, by omega⟩ (fun _ _ h => h.2.2) dL_law_278 ?_
  refine rx_aload_n C dL_law_279 (z := some (b : Int)) rfl ?_
  refine rx_iload_n C dL_law_280 (z := i) rfl ?_
  refine rx_iconst C dL_law_281 (n := 2) ⟨by decide, by decide⟩ ?_
  refine rx_iadd C dL_law_282 (z := i + 2) rfl ⟨by omega, by omega⟩ ?_
  refine lw_ald C hX hbl ⟨by omega, by omega⟩ (fun _ _ h => h.2.2) dL_law_283 ?_
  have k1 : ∀ b0 : Int, (b0 = 0 ∨ b0 = 1) → (b0 = 0 ↔ lw_x xs (i + 2) = 0) → lw_K p l e s m below meth c Q G cs sl b i μ ν 292 [rd_I b0, rd_I (lw_x xs (i + 1)), rd_R (s.heap.size : Int)] := by
    intro b0 hb hx1
    refine lw_callV C (mk := rd_I) (kd := rd_kc) (N := 313) (w := s.heap.size) (I' := fun μ' => lw_I G s.heap.size s.heap μ' ν) (as := [rd_I (lw_x xs (i + 1)), rd_I b0]) (c_X9_hide (rl_RI hR) hb) hμ rm_L_28 ri_X9_hide rs_X9_hide rc_X9_hide rz_X9 ⟨rp_X9_hide, rfl, rfl, by decide, by decide⟩ rfl rd_kcl9 dL_law_292 rd_k0 (by decide) (fun _ => rfl) rfl rfl (Nat.le_of_ble_eq_true rfl) (fun _ _ h => h.1) (lw_I1 rfl) (fun v μ' h => by rcases h with ⟨_, e, _⟩ | ⟨_, e, _⟩ <;> exact ⟨_, e⟩) hcr (fun z1 μ1 hp1 hμ1 => ?_)
    refine rx_aload_n C dL_law_295 (z := some ((s.heap.size + 313 : Nat) : Int)) rfl ?_
    refine rx_aload_n C dL_law_296 (z := some (b : Int)) rfl ?_
    refine rx_iload_n C dL_law_297 (z := i) rfl ?_
    refine rx_iconst C dL_law_298 (n := 1) ⟨by decide, by decide⟩ ?_
    refine rx_iadd C dL_law_299 (z := i + 1) rfl ⟨by omega, by omega⟩ ?_
    refine lw_ald C hX hbl ⟨by omega, by omega⟩ (fun _ _ h => h.2.2) dL_law_300 ?_
    refine rx_aload_n C dL_law_301 (z := some (b : Int)) rfl ?_
    refine rx_iload_n C dL_law_302 (z := i) rfl ?_
    refine rx_iconst C dL_law_303 (n := 2) ⟨by decide, by decide⟩ ?_
    refine rx_iadd C dL_law_304 (z := i + 2) rfl ⟨by omega, by omega⟩ ?_
    refine lw_ald C hX hbl ⟨by omega, by omega⟩ (fun _ _ h => h.2.2) dL_law_305 ?_
    have k2 : ∀ b1 : Int, (b1 = 0 ∨ b1 = 1) → (b1 = 0 ↔ lw_x xs (i + 2) = 0) → lw_K p l e s m below meth c Q G cs sl b i μ1 ν 314 [rd_I b1, rd_I (lw_x xs (i + 1)), rd_R ((s.heap.size + 313 : Nat) : Int), rd_I z1] := by
      intro b1 hb1 hx2
      have e01 : b1 = b0 := by omega
      subst e01
      refine lw_callV C (mk := rd_I) (kd := rd_km) (N := 5) (w := s.heap.size + 313) (I' := fun ν' => lw_I G s.heap.size s.heap μ1 ν') (as := [rd_I (lw_x xs (i + 1)), rd_I b1]) (c_X10_hide (rl_i hR) (rl_st hR) hb (rl_hh hR)) hν rm_L_32 ri_X10_hide rs_X10_hide rc_X10_hide rz_X10 ⟨rp_X10_hide, rfl, rfl, by decide, by decide⟩ rfl rd_kcl10 dL_law_314 rd_m0 (by decide) (fun _ => rfl) rfl rfl (Nat.le_of_ble_eq_true rfl) (fun _ _ h => h.2.1) (lw_I2 rfl) (fun v μ' h => by rcases h with ⟨_, e, _⟩ | ⟨_, e, _⟩ <;> exact ⟨_, e⟩) hcr (fun z2 ν1 hp2 hν1 => ?_)
      obtain ⟨hvv, hR2⟩ := ro_hide hR hb hp1 hp2
      have hz : z2 = z1 := Sum.inl.inj (Option.some.inj hvv)
      exact rx_icmp_eq C dL_law_317 (tgt := 1147) (by decide) (fun _ => kk _ _ hR2 hμ1 hν1) (fun h => absurd hz.symm h)
    refine rx_if_eq C dL_law_306 (tgt := 313) (by decide) (fun h => ?_) (fun h => ?_)
    · refine rx_iconst C dL_law_313 (n := 0) ⟨by decide, by decide⟩ ?_
      exact k2 0 (Or.inl rfl) ⟨fun _ => h, fun _ => rfl⟩
    · refine rx_iconst C dL_law_309 (n := 1) ⟨by decide, by decide⟩ ?_
      refine rx_goto C dL_law_310 (tgt := 314) (by decide) ?_
      exact k2 1 (Or.inr rfl) ⟨fun h1 => absurd h1 (by decide), fun h1 => absurd h1 h⟩
  refine rx_if_eq C dL_law_284 (tgt := 291) (by decide) (fun h => ?_) (fun h => ?_)
  · refine rx_iconst C dL_law_291 (n := 0) ⟨by decide, by decide⟩ ?_
    exact k1 0 (Or.inl rfl) ⟨fun _ => h, fun _ => rfl⟩
  · refine rx_iconst C dL_law_287 (n := 1) ⟨by decide, by decide⟩ ?_
    refine rx_goto C dL_law_288 (tgt := 292) (by decide) ?_
    exact k1 1 (Or.inr rfl) ⟨fun h1 => absurd h1 (by decide), fun h1 => absurd h1 h⟩
set_option maxHeartbeats 1000000 in
theorem lw_o4 (D : lw_Cx p s m b meth c G L0 xs) (hcr : cs + 0 ≤ room_1.cells ∧ sl + 0 ≤ room_1.slots) (hR : rl_R μ ν) (hμ : rd_okM μ) (hν : rd_okM ν) (hi : 0 ≤ i ∧ i + 5 ≤ L0) (kk : ∀ μ' ν', rl_R μ' ν' → rd_okM μ' → rd_okM ν' → lw_K p l e s m below meth c Q G cs sl b i μ' ν' 1147 []) : lw_K p l e s m below meth c Q G cs sl b i μ ν 322 [] := by
  obtain ⟨C, hX, hbl, hL0⟩ := D
  refine rx_aload_n C dL_law_322 (z := some (s.heap.size : Int)) rfl ?_
  refine rx_aload_n C dL_law_323 (z := some (b : Int)) rfl ?_
  refine rx_iload_n C dL_law_324 (z := i) rfl ?_
  refine rx_iconst C dL_law_325 (n := 1) ⟨by decide, by decide⟩ ?_
  refine rx_iadd C dL_law_326 (z := i + 1) rfl ⟨by omega, by omega⟩ ?_
  refine lw_ald C hX hbl ⟨by omega, by omega⟩ (fun _ _ h => h.2.2) dL_law_327 ?_
  refine rx_aload_n C dL_law_328 (z := some (b : Int)) rfl ?_
  refine rx_iload_n C dL_law_329 (z := i) rfl ?_
  refine rx_iconst C dL_law_330 (n := 2) ⟨by decide, by decide⟩ ?_
  refine rx_iadd C dL_law_331 (z := i + 2) rfl ⟨by omega, by omega⟩ ?_
  refine lw_ald C hX hbl ⟨by omega, by omega⟩ (fun _ _ h => h.2.2) dL_law_332 ?_
  refine lw_callV C (mk := rd_I) (kd := rd_kc) (N := 313) (w := s.heap.size) (I' := fun μ' => lw_I G s.heap.size s.heap μ' ν) (as := [rd_I (lw_x xs (i + 1)), rd_I (lw_x xs (i + 2))]) (c_X9_setPause (rl_RI hR)) hμ rm_L_33 ri_X9_setPause rs_X9_setPause rc_X9_setPause rz_X9 ⟨rp_X9_setPause, rfl, rfl, by decide, by decide⟩ rfl rd_kcl9 dL_law_333 rd_k0 (by decide) (fun _ => rfl) rfl rfl (Nat.le_of_ble_eq_true rfl) (fun _ _ h => h.1) (lw_I1 rfl) (fun v μ' h => by rcases h with ⟨_, e, _⟩ | ⟨_, e, _⟩ | ⟨_, e, _⟩ <;> exact ⟨_, e⟩) hcr (fun z1 μ1 hp1 hμ1 => ?_)
  refine rx_aload_n C dL_law_336 (z := some ((s.heap.size + 313 : Nat) : Int)) rfl ?_
  refine rx_aload_n C dL_law_337 (z := some (b : Int)) rfl ?_
  refine rx_iload_n C dL_law_338 (z := i) rfl ?_
  refine rx_iconst C dL_law_339 (n := 1) ⟨by decide, by decide⟩ ?_
  refine rx_iadd C dL_law_340 (z := i + 1) rfl ⟨by omega, by omega⟩ ?_
  refine lw_ald C hX hbl ⟨by omega, by omega⟩ (fun _ _ h => h.2.2) dL_law_341 ?_
  refine rx_aload_n C dL_law_342 (z := some (b : Int)) rfl ?_
  refine rx_iload_n C dL_law_343 (z := i) rfl ?_
  refine rx_iconst C dL_law_344 (n := 2) ⟨by decide, by decide⟩ ?_
  refine rx_iadd C dL_law_345 (z := i + 2) rfl ⟨by omega, by omega⟩ ?_
  refine lw_ald C hX hbl ⟨by omega, by omega⟩ (fun _ _ h => h.2.2) dL_law_346 ?_
  refine lw_callV C (mk := rd_I) (kd := rd_km) (N := 5) (w := s.heap.size + 313) (I' := fun ν' => lw_I G s.heap.size s.heap μ1 ν') (as := [rd_I (lw_x xs (i + 1)), rd_I (lw_x xs (i + 2))]) (c_X10_setPause (rl_i hR) (rl_st hR)) hν rm_L_36 ri_X10_setPause rs_X10_setPause rc_X10_setPause rz_X10 ⟨rp_X10_setPause, rfl, rfl, by decide, by decide⟩ rfl rd_kcl10 dL_law_347 rd_m0 (by decide) (fun _ => rfl) rfl rfl (Nat.le_of_ble_eq_true rfl) (fun _ _ h => h.2.1) (lw_I2 rfl) (fun v μ' h => by rcases h with ⟨_, e, _⟩ | ⟨_, e, _⟩ | ⟨_, e, _⟩ <;> exact ⟨_, e⟩) hcr (fun z2 ν1 hp2 hν1 => ?_)
  obtain ⟨hvv, hR2⟩ := ro_setPause hR hp1 hp2
  have hz : z2 = z1 := Sum.inl.inj (Option.some.inj hvv)
  exact rx_icmp_eq C dL_law_350 (tgt := 1147) (by decide) (fun _ => kk _ _ hR2 hμ1 hν1) (fun h => absurd hz.symm h)
set_option maxHeartbeats 1000000 in
theorem lw_o5 (D : lw_Cx p s m b meth c G L0 xs) (hcr : cs + 0 ≤ room_1.cells ∧ sl + 0 ≤ room_1.slots) (hR : rl_R μ ν) (hμ : rd_okM μ) (hν : rd_okM ν) (hi : 0 ≤ i ∧ i + 5 ≤ L0) (kk : ∀ μ' ν', rl_R μ' ν' → rd_okM μ' → rd_okM ν' → lw_K p l e s m below meth c Q G cs sl b i μ' ν' 1147 []) : lw_K p l e s m below meth c Q G cs sl b i μ ν 355 [] := by
  obtain ⟨C, hX, hbl, hL0⟩ := D
  refine rx_aload_n C dL_law_355 (z := some (s.heap.size : Int)) rfl ?_
  refine rx_aload_n C dL_law_356 (z := some (b : Int)) rfl ?_
  refine rx_iload_n C dL_law_357 (z := i) rfl ?_
  refine rx_iconst C dL_law_358 (n := 1) ⟨by decide, by decide⟩ ?_
  refine rx_iadd C dL_law_359 (z := i + 1) rfl ⟨by omega, by omega⟩ ?_
  refine lw_ald C hX hbl ⟨by omega, by omega⟩ (fun _ _ h => h.2.2) dL_law_360 ?_
  refine rx_aload_n C dL_law_361 (z := some (b : Int)) rfl ?_
  refine rx_iload_n C dL_law_362 (z := i) rfl ?_
  refine rx_iconst C dL_law_363 (n := 2) ⟨by decide, by decide⟩ ?_
  refine rx_iadd C dL_law_364 (z := i + 2) rfl ⟨by omega, by omega⟩ ?_
  refine lw_ald C hX hbl ⟨by omega, by omega⟩ (fun _ _ h => h.2.2) dL_law_365 ?_
  refine rx_aload_n C dL_law_366 (z := some (b : Int)) rfl ?_
  refine rx_iload_n C dL_law_367 (z := i) rfl ?_
  refine rx_iconst C dL_law_368 (n := 3) ⟨by decide, by decide⟩ ?_
  refine rx_iadd C dL_law_369 (z := i + 3) rfl ⟨by omega, by omega⟩ ?_
  refine lw_ald C hX hbl ⟨by omega, by omega⟩ (fun _ _ h => h.2.2) dL_law_370 ?_
  refine rx_aload_n C dL_law_371 (z := some (b : Int)) rfl ?_
  refine rx_iload_n C dL_law_372 (z := i) rfl ?_
  refine rx_iconst C dL_law_373 (n := 4) ⟨by decide, by decide⟩ ?_
  refine rx_iadd C dL_law_374 (z := i + 4) rfl ⟨by omega, by omega⟩ ?_
  refine lw_ald C hX hbl ⟨by omega, by omega⟩ (fun _ _ h => h.2.2) dL_law_375 ?_
  refine lw_callV C (mk := rd_I) (kd := rd_kc) (N := 313) (w := s.heap.size) (I' := fun μ' => lw_I G s.heap.size s.heap μ' ν) (as := [rd_I (lw_x xs (i + 1)), rd_I (lw_x xs (i + 2)), rd_I (lw_x xs (i + 3)), rd_I (lw_x xs (i + 4))]) (c_X9_addItem (rl_RI hR)) hμ rm_L_37 ri_X9_addItem rs_X9_addItem rc_X9_addItem rz_X9 ⟨rp_X9_addItem, rfl, rfl, by decide, by decide⟩ rfl rd_kcl9 dL_law_376 rd_k0 (by decide) (fun _ => rfl) rfl rfl (Nat.le_of_ble_eq_true rfl) (fun _ _ h => h.1) (lw_I1 rfl) (fun v μ' h => by rcases h with ⟨_, e, _⟩ | ⟨_, e, _⟩ | ⟨_, e, _⟩ | ⟨_, e, _⟩ <;> exact ⟨_, e⟩) hcr (fun z1 μ1 hp1 hμ1 => ?_)
  refine rx_aload_n C dL_law_379 (z := some ((s.heap.size + 313 : Nat) : Int)) rfl ?_
  refine rx_aload_n C dL_law_380 (z := some (b : Int)) rfl ?_
  refine rx_iload_n C dL_law_381 (z := i) rfl ?_
  refine rx_iconst C dL_law_382 (n := 1) ⟨by decide, by decide⟩ ?_
  refine rx_iadd C dL_law_383 (z := i + 1) rfl ⟨by omega, by omega⟩ ?_
  refine lw_ald C hX hbl ⟨by omega, by omega⟩ (fun _ _ h => h.2.2) dL_law_384 ?_
  refine rx_aload_n C dL_law_385 (z := some (b : Int)) rfl ?_
  refine rx_iload_n C dL_law_386 (z := i) rfl ?_
  refine rx_iconst C dL_law_387 (n := 2) ⟨by decide, by decide⟩ ?_
  refine rx_iadd C dL_law_388 (z := i + 2) rfl ⟨by omega, by omega⟩ ?_
  refine lw_ald C hX hbl ⟨by omega, by omega⟩ (fun _ _ h => h.2.2) dL_law_389 ?_
  refine rx_aload_n C dL_law_390 (z := some (b : Int)) rfl ?_
  refine rx_iload_n C dL_law_391 (z := i) rfl ?_
  refine rx_iconst C dL_law_392 (n := 3) ⟨by decide, by decide⟩ ?_
  refine rx_iadd C dL_law_393 (z := i + 3) rfl ⟨by omega, by omega⟩ ?_
  refine lw_ald C hX hbl ⟨by omega, by omega⟩ (fun _ _ h => h.2.2) dL_law_394 ?_
  refine rx_aload_n C dL_law_395 (z := some (b : Int)) rfl ?_
  refine rx_iload_n C dL_law_396 (z := i) rfl ?_
  refine rx_iconst C dL_law_397 (n := 4) ⟨by decide, by decide⟩ ?_
  refine rx_iadd C dL_law_398 (z := i + 4) rfl ⟨by omega, by omega⟩ ?_
  refine lw_ald C hX hbl ⟨by omega, by omega⟩ (fun _ _ h => h.2.2) dL_law_399 ?_
  refine lw_callV C (mk := rd_I) (kd := rd_km) (N := 5) (w := s.heap.size + 313) (I' := fun ν' => lw_I G s.heap.size s.heap μ1 ν') (as := [rd_I (lw_x xs (i + 1)), rd_I (lw_x xs (i + 2)), rd_I (lw_x xs (i + 3)), rd_I (lw_x xs (i + 4))]) (c_X10_addItem (rl_i hR) (rl_st hR)) hν rm_L_41 ri_X10_addItem rs_X10_addItem rc_X10_addItem rz_X10 ⟨rp_X10_addItem, rfl, rfl, by decide, by decide⟩ rfl rd_kcl10 dL_law_400 rd_m0 (by decide) (fun _ => rfl) rfl rfl (Nat.le_of_ble_eq_true rfl) (fun _ _ h => h.2.1) (lw_I2 rfl) (fun v μ' h => by rcases h with ⟨_, e, _⟩ | ⟨_, e, _⟩ | ⟨_, e, _⟩ | ⟨_, e, _⟩ <;> exact ⟨_, e⟩) hcr (fun z2 ν1 hp2 hν1 => ?_)
  obtain ⟨hvv, hR2⟩ := ro_addItem hR hp1 hp2
  have hz : z2 = z1 := Sum.inl.inj (Option.some.inj hvv)
  exact rx_icmp_eq C dL_law_403 (tgt := 1147) (by decide) (fun _ => kk _ _ hR2 hμ1 hν1) (fun h => absurd hz.symm h)
set_option maxHeartbeats 1000000 in
theorem lw_o6 (D : lw_Cx p s m b meth c G L0 xs) (hcr : cs + 0 ≤ room_1.cells ∧ sl + 0 ≤ room_1.slots) (hR : rl_R μ ν) (hμ : rd_okM μ) (hν : rd_okM ν) (hi : 0 ≤ i ∧ i + 5 ≤ L0) (kk : ∀ μ' ν', rl_R μ' ν' → rd_okM μ' → rd_okM ν' → lw_K p l e s m below meth c Q G cs sl b i μ' ν' 1147 []) : lw_K p l e s m below meth c Q G cs sl b i μ ν 408 [] := by
  obtain ⟨C, hX, hbl, hL0⟩ := D
  refine rx_aload_n C dL_law_408 (z := some (s.heap.size : Int)) rfl ?_
  refine rx_aload_n C dL_law_409 (z := some (b : Int)) rfl ?_
  refine rx_iload_n C dL_law_410 (z := i) rfl ?_
  refine rx_iconst C dL_law_411 (n := 1) ⟨by decide, by decide⟩ ?_
  refine rx_iadd C dL_law_412 (z := i + 1) rfl ⟨by omega, by omega⟩ ?_
  refine lw_ald C hX hbl ⟨by omega, by omega⟩ (fun _ _ h => h.2.2) dL_law_413 ?_
  refine rx_aload_n C dL_law_414 (z := some (b : Int)) rfl ?_
  refine rx_iload_n C dL_law_415 (z := i) rfl ?_
  refine rx_iconst C dL_law_416 (n := 2) ⟨by decide, by decide⟩ ?_
  refine rx_iadd C dL_law_417 (z := i + 2) rfl ⟨by omega, by omega⟩ ?_
  refine lw_ald C hX hbl ⟨by omega, by omega⟩ (fun _ _ h => h.2.2) dL_law_418 ?_
  refine lw_callV C (mk := rd_I) (kd := rd_kc) (N := 313) (w := s.heap.size) (I' := fun μ' => lw_I G s.heap.size s.heap μ' ν) (as := [rd_I (lw_x xs (i + 1)), rd_I (lw_x xs (i + 2))]) (c_X9_removeItem (rl_RI hR)) hμ rm_L_42 ri_X9_removeItem rs_X9_removeItem rc_X9_removeItem rz_X9 ⟨rp_X9_removeItem, rfl, rfl, by decide, by decide⟩ rfl rd_kcl9 dL_law_419 rd_k0 (by decide) (fun _ => rfl) rfl rfl (Nat.le_of_ble_eq_true rfl) (fun _ _ h => h.1) (lw_I1 rfl) (fun v μ' h => by rcases h with ⟨_, e, _⟩ | ⟨_, e, _⟩ <;> exact ⟨_, e⟩) hcr (fun z1 μ1 hp1 hμ1 => ?_)
  refine rx_aload_n C dL_law_422 (z := some ((s.heap.size + 313 : Nat) : Int)) rfl ?_
  refine rx_aload_n C dL_law_423 (z := some (b : Int)) rfl ?_
  refine rx_iload_n C dL_law_424 (z := i) rfl ?_
  refine rx_iconst C dL_law_425 (n := 1) ⟨by decide, by decide⟩ ?_
  refine rx_iadd C dL_law_426 (z := i + 1) rfl ⟨by omega, by omega⟩ ?_
  refine lw_ald C hX hbl ⟨by omega, by omega⟩ (fun _ _ h => h.2.2) dL_law_427 ?_
  refine rx_aload_n C dL_law_428 (z := some (b : Int)) rfl ?_
  refine rx_iload_n C dL_law_429 (z := i) rfl ?_
  refine rx_iconst C dL_law_430 (n := 2) ⟨by decide, by decide⟩ ?_
  refine rx_iadd C dL_law_431 (z := i + 2) rfl ⟨by omega, by omega⟩ ?_
  refine lw_ald C hX hbl ⟨by omega, by omega⟩ (fun _ _ h => h.2.2) dL_law_432 ?_
  refine lw_callV C (mk := rd_I) (kd := rd_km) (N := 5) (w := s.heap.size + 313) (I' := fun ν' => lw_I G s.heap.size s.heap μ1 ν') (as := [rd_I (lw_x xs (i + 1)), rd_I (lw_x xs (i + 2))]) (c_X10_removeItem (rl_i hR) (rl_st hR)) hν rm_L_45 ri_X10_removeItem rs_X10_removeItem rc_X10_removeItem rz_X10 ⟨rp_X10_removeItem, rfl, rfl, by decide, by decide⟩ rfl rd_kcl10 dL_law_433 rd_m0 (by decide) (fun _ => rfl) rfl rfl (Nat.le_of_ble_eq_true rfl) (fun _ _ h => h.2.1) (lw_I2 rfl) (fun v μ' h => by rcases h with ⟨_, e, _⟩ | ⟨_, e, _⟩ <;> exact ⟨_, e⟩) hcr (fun z2 ν1 hp2 hν1 => ?_)
  obtain ⟨hvv, hR2⟩ := ro_removeItem hR hp1 hp2
  have hz : z2 = z1 := Sum.inl.inj (Option.some.inj hvv)
  exact rx_icmp_eq C dL_law_436 (tgt := 1147) (by decide) (fun _ => kk _ _ hR2 hμ1 hν1) (fun h => absurd hz.symm h)
set_option maxHeartbeats 1000000 in
theorem lw_o7 (D : lw_Cx p s m b meth c G L0 xs) (hcr : cs + 0 ≤ room_1.cells ∧ sl + 0 ≤ room_1.slots) (hR : rl_R μ ν) (hμ : rd_okM μ) (hν : rd_okM ν) (hi : 0 ≤ i ∧ i + 5 ≤ L0) (kk : ∀ μ' ν', rl_R μ' ν' → rd_okM μ' → rd_okM ν' → lw_K p l e s m below meth c Q G cs sl b i μ' ν' 1147 []) : lw_K p l e s m below meth c Q G cs sl b i μ ν 441 [] := by
  obtain ⟨C, hX, hbl, hL0⟩ := D
  refine rx_aload_n C dL_law_441 (z := some (s.heap.size : Int)) rfl ?_
  refine rx_aload_n C dL_law_442 (z := some (b : Int)) rfl ?_
  refine rx_iload_n C dL_law_443 (z := i) rfl ?_
  refine rx_iconst C dL_law_444 (n := 1) ⟨by decide, by decide⟩ ?_
  refine rx_iadd C dL_law_445 (z := i + 1) rfl ⟨by omega, by omega⟩ ?_
  refine lw_ald C hX hbl ⟨by omega, by omega⟩ (fun _ _ h => h.2.2) dL_law_446 ?_
  refine rx_aload_n C dL_law_447 (z := some (b : Int)) rfl ?_
  refine rx_iload_n C dL_law_448 (z := i) rfl ?_
  refine rx_iconst C dL_law_449 (n := 2) ⟨by decide, by decide⟩ ?_
  refine rx_iadd C dL_law_450 (z := i + 2) rfl ⟨by omega, by omega⟩ ?_
  refine lw_ald C hX hbl ⟨by omega, by omega⟩ (fun _ _ h => h.2.2) dL_law_451 ?_
  refine rx_aload_n C dL_law_452 (z := some (b : Int)) rfl ?_
  refine rx_iload_n C dL_law_453 (z := i) rfl ?_
  refine rx_iconst C dL_law_454 (n := 3) ⟨by decide, by decide⟩ ?_
  refine rx_iadd C dL_law_455 (z := i + 3) rfl ⟨by omega, by omega⟩ ?_
  refine lw_ald C hX hbl ⟨by omega, by omega⟩ (fun _ _ h => h.2.2) dL_law_456 ?_
  refine lw_callV C (mk := rd_I) (kd := rd_kc) (N := 313) (w := s.heap.size) (I' := fun μ' => lw_I G s.heap.size s.heap μ' ν) (as := [rd_I (lw_x xs (i + 1)), rd_I (lw_x xs (i + 2)), rd_I (lw_x xs (i + 3))]) (c_X9_link (rl_RI hR)) hμ rm_L_46 ri_X9_link rs_X9_link rc_X9_link rz_X9 ⟨rp_X9_link, rfl, rfl, by decide, by decide⟩ rfl rd_kcl9 dL_law_457 rd_k0 (by decide) (fun _ => rfl) rfl rfl (Nat.le_of_ble_eq_true rfl) (fun _ _ h => h.1) (lw_I1 rfl) (fun v μ' h => by rcases h with ⟨_, e, _⟩ | ⟨_, e, _⟩ | ⟨_, e, _⟩ | ⟨_, e, _⟩ <;> exact ⟨_, e⟩) hcr (fun z1 μ1 hp1 hμ1 => ?_)
  refine rx_aload_n C dL_law_460 (z := some ((s.heap.size + 313 : Nat) : Int)) rfl ?_
  refine rx_aload_n C dL_law_461 (z := some (b : Int)) rfl ?_
  refine rx_iload_n C dL_law_462 (z := i) rfl ?_
  refine rx_iconst C dL_law_463 (n := 1) ⟨by decide, by decide⟩ ?_
  refine rx_iadd C dL_law_464 (z := i + 1) rfl ⟨by omega, by omega⟩ ?_
  refine lw_ald C hX hbl ⟨by omega, by omega⟩ (fun _ _ h => h.2.2) dL_law_465 ?_
  refine rx_aload_n C dL_law_466 (z := some (b : Int)) rfl ?_
  refine rx_iload_n C dL_law_467 (z := i) rfl ?_
  refine rx_iconst C dL_law_468 (n := 2) ⟨by decide, by decide⟩ ?_
  refine rx_iadd C dL_law_469 (z := i + 2) rfl ⟨by omega, by omega⟩ ?_
  refine lw_ald C hX hbl ⟨by omega, by omega⟩ (fun _ _ h => h.2.2) dL_law_470 ?_
  refine rx_aload_n C dL_law_471 (z := some (b : Int)) rfl ?_
  refine rx_iload_n C dL_law_472 (z := i) rfl ?_
  refine rx_iconst C dL_law_473 (n := 3) ⟨by decide, by decide⟩ ?_
  refine rx_iadd C dL_law_474 (z := i + 3) rfl ⟨by omega, by omega⟩ ?_
  refine lw_ald C hX hbl ⟨by omega, by omega⟩ (fun _ _ h => h.2.2) dL_law_475 ?_
  refine lw_callV C (mk := rd_I) (kd := rd_km) (N := 5) (w := s.heap.size + 313) (I' := fun ν' => lw_I G s.heap.size s.heap μ1 ν') (as := [rd_I (lw_x xs (i + 1)), rd_I (lw_x xs (i + 2)), rd_I (lw_x xs (i + 3))]) (c_X10_link (rl_i hR) (rl_st hR)) hν rm_L_50 ri_X10_link rs_X10_link rc_X10_link rz_X10 ⟨rp_X10_link, rfl, rfl, by decide, by decide⟩ rfl rd_kcl10 dL_law_476 rd_m0 (by decide) (fun _ => rfl) rfl rfl (Nat.le_of_ble_eq_true rfl) (fun _ _ h => h.2.1) (lw_I2 rfl) (fun v μ' h => by rcases h with ⟨_, e, _⟩ | ⟨_, e, _⟩ | ⟨_, e, _⟩ | ⟨_, e, _⟩ <;> exact ⟨_, e⟩) hcr (fun z2 ν1 hp2 hν1 => ?_)
  obtain ⟨hvv, hR2⟩ := ro_link hR hp1 hp2
  have hz : z2 = z1 := Sum.inl.inj (Option.some.inj hvv)
  exact rx_icmp_eq C dL_law_479 (tgt := 1147) (by decide) (fun _ => kk _ _ hR2 hμ1 hν1) (fun h => absurd hz.symm h)
set_option maxHeartbeats 1000000 in
theorem lw_o8 (D : lw_Cx p s m b meth c G L0 xs) (hcr : cs + 0 ≤ room_1.cells ∧ sl + 0 ≤ room_1.slots) (hR : rl_R μ ν) (hμ : rd_okM μ) (hν : rd_okM ν) (hi : 0 ≤ i ∧ i + 5 ≤ L0) (kk : ∀ μ' ν', rl_R μ' ν' → rd_okM μ' → rd_okM ν' → lw_K p l e s m below meth c Q G cs sl b i μ' ν' 1147 []) : lw_K p l e s m below meth c Q G cs sl b i μ ν 484 [] := by
  obtain ⟨C, hX, hbl, hL0⟩ := D
  refine rx_aload_n C dL_law_484 (z := some (s.heap.size : Int)) rfl ?_
  refine rx_aload_n C dL_law_485 (z := some (b : Int)) rfl ?_
  refine rx_iload_n C dL_law_486 (z := i) rfl ?_
  refine rx_iconst C dL_law_487 (n := 1) ⟨by decide, by decide⟩ ?_
  refine rx_iadd C dL_law_488 (z := i + 1) rfl ⟨by omega, by omega⟩ ?_
  refine lw_ald C hX hbl ⟨by omega, by omega⟩ (fun _ _ h => h.2.2) dL_law_489 ?_
  refine rx_aload_n C dL_law_490 (z := some (b : Int)) rfl ?_
  refine rx_iload_n C dL_law_491 (z := i) rfl ?_
  refine rx_iconst C dL_law_492 (n := 2) ⟨by decide, by decide⟩ ?_
  refine rx_iadd C dL_law_493 (z := i + 2) rfl ⟨by omega, by omega⟩ ?_
  refine lw_ald C hX hbl ⟨by omega, by omega⟩ (fun _ _ h => h.2.2) dL_law_494 ?_
  refine lw_callV C (mk := rd_I) (kd := rd_kc) (N := 313) (w := s.heap.size) (I' := fun μ' => lw_I G s.heap.size s.heap μ' ν) (as := [rd_I (lw_x xs (i + 1)), rd_I (lw_x xs (i + 2))]) (c_X9_unlink (rl_RI hR)) hμ rm_L_51 ri_X9_unlink rs_X9_unlink rc_X9_unlink rz_X9 ⟨rp_X9_unlink, rfl, rfl, by decide, by decide⟩ rfl rd_kcl9 dL_law_495 rd_k0 (by decide) (fun _ => rfl) rfl rfl (Nat.le_of_ble_eq_true rfl) (fun _ _ h => h.1) (lw_I1 rfl) (fun v μ' h => by rcases h with ⟨_, e, _⟩ | ⟨_, e, _⟩ <;> exact ⟨_, e⟩) hcr (fun z1 μ1 hp1 hμ1 => ?_)
  refine rx_aload_n C dL_law_498 (z := some ((s.heap.size + 313 : Nat) : Int)) rfl ?_
  refine rx_aload_n C dL_law_499 (z := some (b : Int)) rfl ?_
  refine rx_iload_n C dL_law_500 (z := i) rfl ?_
  refine rx_iconst C dL_law_501 (n := 1) ⟨by decide, by decide⟩ ?_
  refine rx_iadd C dL_law_502 (z := i + 1) rfl ⟨by omega, by omega⟩ ?_
  refine lw_ald C hX hbl ⟨by omega, by omega⟩ (fun _ _ h => h.2.2) dL_law_503 ?_
  refine rx_aload_n C dL_law_504 (z := some (b : Int)) rfl ?_
  refine rx_iload_n C dL_law_505 (z := i) rfl ?_
  refine rx_iconst C dL_law_506 (n := 2) ⟨by decide, by decide⟩ ?_
  refine rx_iadd C dL_law_507 (z := i + 2) rfl ⟨by omega, by omega⟩ ?_
  refine lw_ald C hX hbl ⟨by omega, by omega⟩ (fun _ _ h => h.2.2) dL_law_508 ?_
  refine lw_callV C (mk := rd_I) (kd := rd_km) (N := 5) (w := s.heap.size + 313) (I' := fun ν' => lw_I G s.heap.size s.heap μ1 ν') (as := [rd_I (lw_x xs (i + 1)), rd_I (lw_x xs (i + 2))]) (c_X10_unlink (rl_i hR) (rl_st hR)) hν rm_L_54 ri_X10_unlink rs_X10_unlink rc_X10_unlink rz_X10 ⟨rp_X10_unlink, rfl, rfl, by decide, by decide⟩ rfl rd_kcl10 dL_law_509 rd_m0 (by decide) (fun _ => rfl) rfl rfl (Nat.le_of_ble_eq_true rfl) (fun _ _ h => h.2.1) (lw_I2 rfl) (fun v μ' h => by rcases h with ⟨_, e, _⟩ | ⟨_, e, _⟩ <;> exact ⟨_, e⟩) hcr (fun z2 ν1 hp2 hν1 => ?_)
  obtain ⟨hvv, hR2⟩ := ro_unlink hR hp1 hp2
  have hz : z2 = z1 := Sum.inl.inj (Option.some.inj hvv)
  exact rx_icmp_eq C dL_law_512 (tgt := 1147) (by decide) (fun _ => kk _ _ hR2 hμ1 hν1) (fun h => absurd hz.symm h)
set_option maxHeartbeats 1000000 in
theorem lw_o9 (D : lw_Cx p s m b meth c G L0 xs) (hcr : cs + 0 ≤ room_1.cells ∧ sl + 0 ≤ room_1.slots) (hR : rl_R μ ν) (hμ : rd_okM μ) (hν : rd_okM ν) (hi : 0 ≤ i ∧ i + 5 ≤ L0) (kk : ∀ μ' ν', rl_R μ' ν' → rd_okM μ' → rd_okM ν' → lw_K p l e s m below meth c Q G cs sl b i μ' ν' 1147 []) : lw_K p l e s m below meth c Q G cs sl b i μ ν 517 [] := by
  obtain ⟨C, hX, hbl, hL0⟩ := D
  refine rx_aload_n C dL_law_517 (z := some (s.heap.size : Int)) rfl ?_
  refine rx_aload_n C dL_law_518 (z := some (b : Int)) rfl ?_
  refine rx_iload_n C dL_law_519 (z := i) rfl ?_
  refine rx_iconst C dL_law_520 (n := 1) ⟨by decide, by decide⟩ ?_
  refine rx_iadd C dL_law_521 (z := i + 1) rfl ⟨by omega, by omega⟩ ?_
  refine lw_ald C hX hbl ⟨by omega, by omega⟩ (fun _ _ h => h.2.2) dL_law_522 ?_
  refine rx_aload_n C dL_law_523 (z := some (b : Int)) rfl ?_
  refine rx_iload_n C dL_law_524 (z := i) rfl ?_
  refine rx_iconst C dL_law_525 (n := 2) ⟨by decide, by decide⟩ ?_
  refine rx_iadd C dL_law_526 (z := i + 2) rfl ⟨by omega, by omega⟩ ?_
  refine lw_ald C hX hbl ⟨by omega, by omega⟩ (fun _ _ h => h.2.2) dL_law_527 ?_
  refine lw_callV C (mk := rd_I) (kd := rd_kc) (N := 313) (w := s.heap.size) (I' := fun μ' => lw_I G s.heap.size s.heap μ' ν) (as := [rd_I (lw_x xs (i + 1)), rd_I (lw_x xs (i + 2))]) (c_X9_note (rl_RI hR)) hμ rm_L_55 ri_X9_note rs_X9_note rc_X9_note rz_X9 ⟨rp_X9_note, rfl, rfl, by decide, by decide⟩ rfl rd_kcl9 dL_law_528 rd_k0 (by decide) (fun _ => rfl) rfl rfl (Nat.le_of_ble_eq_true rfl) (fun _ _ h => h.1) (lw_I1 rfl) (fun v μ' h => by rcases h with ⟨_, e, _⟩ | ⟨_, e, _⟩ | ⟨_, e, _⟩ | ⟨_, e, _⟩ | ⟨_, e, _⟩ | ⟨_, e, _⟩ <;> exact ⟨_, e⟩) hcr (fun z1 μ1 hp1 hμ1 => ?_)
  refine rx_aload_n C dL_law_531 (z := some ((s.heap.size + 313 : Nat) : Int)) rfl ?_
  refine rx_aload_n C dL_law_532 (z := some (b : Int)) rfl ?_
  refine rx_iload_n C dL_law_533 (z := i) rfl ?_
  refine rx_iconst C dL_law_534 (n := 1) ⟨by decide, by decide⟩ ?_
  refine rx_iadd C dL_law_535 (z := i + 1) rfl ⟨by omega, by omega⟩ ?_
  refine lw_ald C hX hbl ⟨by omega, by omega⟩ (fun _ _ h => h.2.2) dL_law_536 ?_
  refine rx_aload_n C dL_law_537 (z := some (b : Int)) rfl ?_
  refine rx_iload_n C dL_law_538 (z := i) rfl ?_
  refine rx_iconst C dL_law_539 (n := 2) ⟨by decide, by decide⟩ ?_
  refine rx_iadd C dL_law_540 (z := i + 2) rfl ⟨by omega, by omega⟩ ?_
  refine lw_ald C hX hbl ⟨by omega, by omega⟩ (fun _ _ h => h.2.2) dL_law_541 ?_
  refine lw_callV C (mk := rd_I) (kd := rd_km) (N := 5) (w := s.heap.size + 313) (I' := fun ν' => lw_I G s.heap.size s.heap μ1 ν') (as := [rd_I (lw_x xs (i + 1)), rd_I (lw_x xs (i + 2))]) (c_X10_note (rl_i hR) (rl_st hR)) hν rm_L_58 ri_X10_note rs_X10_note rc_X10_note rz_X10 ⟨rp_X10_note, rfl, rfl, by decide, by decide⟩ rfl rd_kcl10 dL_law_542 rd_m0 (by decide) (fun _ => rfl) rfl rfl (Nat.le_of_ble_eq_true rfl) (fun _ _ h => h.2.1) (lw_I2 rfl) (fun v μ' h => by rcases h with ⟨_, e, _⟩ | ⟨_, e, _⟩ | ⟨_, e, _⟩ | ⟨_, e, _⟩ | ⟨_, e, _⟩ | ⟨_, e, _⟩ <;> exact ⟨_, e⟩) hcr (fun z2 ν1 hp2 hν1 => ?_)
  obtain ⟨hvv, hR2⟩ := ro_note hR hp1 hp2
  have hz : z2 = z1 := Sum.inl.inj (Option.some.inj hvv)
  exact rx_icmp_eq C dL_law_545 (tgt := 1147) (by decide) (fun _ => kk _ _ hR2 hμ1 hν1) (fun h => absurd hz.symm h)
set_option maxHeartbeats 1000000 in
theorem lw_o10 (D : lw_Cx p s m b meth c G L0 xs) (hcr : cs + 0 ≤ room_1.cells ∧ sl + 0 ≤ room_1.slots) (hR : rl_R μ ν) (hμ : rd_okM μ) (hν : rd_okM ν) (hi : 0 ≤ i ∧ i + 5 ≤ L0) (kk : ∀ μ' ν', rl_R μ' ν' → rd_okM μ' → rd_okM ν' → lw_K p l e s m below meth c Q G cs sl b i μ' ν' 1147 []) : lw_K p l e s m below meth c Q G cs sl b i μ ν 550 [] := by
  obtain ⟨C, hX, hbl, hL0⟩ := D
  refine rx_aload_n C dL_law_550 (z := some (s.heap.size : Int)) rfl ?_
  refine rx_aload_n C dL_law_551 (z := some (b : Int)) rfl ?_
  refine rx_iload_n C dL_law_552 (z := i) rfl ?_
  refine rx_iconst C dL_law_553 (n := 1) ⟨by decide, by decide⟩ ?_
  refine rx_iadd C dL_law_554 (z := i + 1) rfl ⟨by omega, by omega⟩ ?_
  refine lw_ald C hX hbl ⟨by omega, by omega⟩ (fun _ _ h => h.2.2) dL_law_555 ?_
  refine lw_callV C (mk := rd_I) (kd := rd_kc) (N := 313) (w := s.heap.size) (I' := fun μ' => lw_I G s.heap.size s.heap μ' ν) (as := [rd_I (lw_x xs (i + 1))]) (c_X9_setEnd (rl_RI hR)) hμ rm_L_59 ri_X9_setEnd rs_X9_setEnd rc_X9_setEnd rz_X9 ⟨rp_X9_setEnd, rfl, rfl, by decide, by decide⟩ rfl rd_kcl9 dL_law_556 rd_k0 (by decide) (fun _ => rfl) rfl rfl (Nat.le_of_ble_eq_true rfl) (fun _ _ h => h.1) (lw_I1 rfl) (fun v μ' h => by rcases h with ⟨_, e, _⟩ | ⟨_, e, _⟩ <;> exact ⟨_, e⟩) hcr (fun z1 μ1 hp1 hμ1 => ?_)
  refine rx_aload_n C dL_law_559 (z := some ((s.heap.size + 313 : Nat) : Int)) rfl ?_
  refine rx_aload_n C dL_law_560 (z := some (b : Int)) rfl ?_
  refine rx_iload_n C dL_law_561 (z := i) rfl ?_
  refine rx_iconst C dL_law_562 (n := 1) ⟨by decide, by decide⟩ ?_
  refine rx_iadd C dL_law_563 (z := i + 1) rfl ⟨by omega, by omega⟩ ?_
  refine lw_ald C hX hbl ⟨by omega, by omega⟩ (fun _ _ h => h.2.2) dL_law_564 ?_
  refine lw_callV C (mk := rd_I) (kd := rd_km) (N := 5) (w := s.heap.size + 313) (I' := fun ν' => lw_I G s.heap.size s.heap μ1 ν') (as := [rd_I (lw_x xs (i + 1))]) (c_X10_setEnd (rl_i hR) (rl_st hR)) hν rm_L_62 ri_X10_setEnd rs_X10_setEnd rc_X10_setEnd rz_X10 ⟨rp_X10_setEnd, rfl, rfl, by decide, by decide⟩ rfl rd_kcl10 dL_law_565 rd_m0 (by decide) (fun _ => rfl) rfl rfl (Nat.le_of_ble_eq_true rfl) (fun _ _ h => h.2.1) (lw_I2 rfl) (fun v μ' h => by rcases h with ⟨_, e, _⟩ | ⟨_, e, _⟩ <;> exact ⟨_, e⟩) hcr (fun z2 ν1 hp2 hν1 => ?_)
  obtain ⟨hvv, hR2⟩ := ro_setEnd hR hp1 hp2
  have hz : z2 = z1 := Sum.inl.inj (Option.some.inj hvv)
  exact rx_icmp_eq C dL_law_568 (tgt := 1147) (by decide) (fun _ => kk _ _ hR2 hμ1 hν1) (fun h => absurd hz.symm h)
set_option maxHeartbeats 1000000 in
theorem lw_o11 (D : lw_Cx p s m b meth c G L0 xs) (hcr : cs + 0 ≤ room_1.cells ∧ sl + 0 ≤ room_1.slots) (hR : rl_R μ ν) (hμ : rd_okM μ) (hν : rd_okM ν) (hi : 0 ≤ i ∧ i + 5 ≤ L0) (kk : ∀ μ' ν', rl_R μ' ν' → rd_okM μ' → rd_okM ν' → lw_K p l e s m below meth c Q G cs sl b i μ' ν' 1147 []) : lw_K p l e s m below meth c Q G cs sl b i μ ν 573 [] := by
  obtain ⟨C, hX, hbl, hL0⟩ := D
  refine rx_aload_n C dL_law_573 (z := some (s.heap.size : Int)) rfl ?_
  refine lw_callV C (mk := rd_I) (kd := rd_kc) (N := 313) (w := s.heap.size) (I' := fun μ' => lw_I G s.heap.size s.heap μ' ν) (as := []) (c_X9_start (rl_RI hR)) hμ rm_L_63 ri_X9_start rs_X9_start rc_X9_start rz_X9 ⟨rp_X9_start, rfl, rfl, by decide, by decide⟩ rfl rd_kcl9 dL_law_574 rd_k0 (by decide) (fun _ => rfl) rfl rfl (Nat.le_of_ble_eq_true rfl) (fun _ _ h => h.1) (lw_I1 rfl) (fun v μ' h => by rcases h with ⟨_, e, _⟩ | ⟨_, e, _⟩ <;> exact ⟨_, e⟩) hcr (fun z1 μ1 hp1 hμ1 => ?_)
  refine rx_aload_n C dL_law_577 (z := some ((s.heap.size + 313 : Nat) : Int)) rfl ?_
  refine lw_callV C (mk := rd_I) (kd := rd_km) (N := 5) (w := s.heap.size + 313) (I' := fun ν' => lw_I G s.heap.size s.heap μ1 ν') (as := []) (c_X10_start (rl_i hR) (rl_st hR)) hν rm_L_66 ri_X10_start rs_X10_start rc_X10_start rz_X10 ⟨rp_X10_start, rfl, rfl, by decide, by decide⟩ rfl rd_kcl10 dL_law_578 rd_m0 (by decide) (fun _ => rfl) rfl rfl (Nat.le_of_ble_eq_true rfl) (fun _ _ h => h.2.1) (lw_I2 rfl) (fun v μ' h => by rcases h with ⟨_, e, _⟩ | ⟨_, e, _⟩ <;> exact ⟨_, e⟩) hcr (fun z2 ν1 hp2 hν1 => ?_)
  obtain ⟨hvv, hR2⟩ := ro_start hR hp1 hp2
  have hz : z2 = z1 := Sum.inl.inj (Option.some.inj hvv)
  exact rx_icmp_eq C dL_law_581 (tgt := 1147) (by decide) (fun _ => kk _ _ hR2 hμ1 hν1) (fun h => absurd hz.symm h)
set_option maxHeartbeats 1000000 in
theorem lw_o12 (D : lw_Cx p s m b meth c G L0 xs) (hcr : cs + 0 ≤ room_1.cells ∧ sl + 0 ≤ room_1.slots) (hR : rl_R μ ν) (hμ : rd_okM μ) (hν : rd_okM ν) (hi : 0 ≤ i ∧ i + 5 ≤ L0) (kk : ∀ μ' ν', rl_R μ' ν' → rd_okM μ' → rd_okM ν' → lw_K p l e s m below meth c Q G cs sl b i μ' ν' 1147 []) : lw_K p l e s m below meth c Q G cs sl b i μ ν 586 [] := by
  obtain ⟨C, hX, hbl, hL0⟩ := D
  refine rx_aload_n C dL_law_586 (z := some (s.heap.size : Int)) rfl ?_
  refine lw_callV C (mk := rd_I) (kd := rd_kc) (N := 313) (w := s.heap.size) (I' := fun μ' => lw_I G s.heap.size s.heap μ' ν) (as := []) (c_X9_stop (rl_RI hR)) hμ rm_L_67 ri_X9_stop rs_X9_stop rc_X9_stop rz_X9 ⟨rp_X9_stop, rfl, rfl, by decide, by decide⟩ rfl rd_kcl9 dL_law_587 rd_k0 (by decide) (fun _ => rfl) rfl rfl (Nat.le_of_ble_eq_true rfl) (fun _ _ h => h.1) (lw_I1 rfl) (fun v μ' h => by rcases h with ⟨_, e, _⟩ | ⟨_, e, _⟩ <;> exact ⟨_, e⟩) hcr (fun z1 μ1 hp1 hμ1 => ?_)
  refine rx_aload_n C dL_law_590 (z := some ((s.heap.size + 313 : Nat) : Int)) rfl ?_
  refine lw_callV C (mk := rd_I) (kd := rd_km) (N := 5) (w := s.heap.size + 313) (I' := fun ν' => lw_I G s.heap.size s.heap μ1 ν') (as := []) (c_X10_stop (rl_i hR) (rl_st hR)) hν rm_L_70 ri_X10_stop rs_X10_stop rc_X10_stop rz_X10 ⟨rp_X10_stop, rfl, rfl, by decide, by decide⟩ rfl rd_kcl10 dL_law_591 rd_m0 (by decide) (fun _ => rfl) rfl rfl (Nat.le_of_ble_eq_true rfl) (fun _ _ h => h.2.1) (lw_I2 rfl) (fun v μ' h => by rcases h with ⟨_, e, _⟩ | ⟨_, e, _⟩ <;> exact ⟨_, e⟩) hcr (fun z2 ν1 hp2 hν1 => ?_)
  obtain ⟨hvv, hR2⟩ := ro_stop hR hp1 hp2
  have hz : z2 = z1 := Sum.inl.inj (Option.some.inj hvv)
  exact rx_icmp_eq C dL_law_594 (tgt := 1147) (by decide) (fun _ => kk _ _ hR2 hμ1 hν1) (fun h => absurd hz.symm h)
set_option maxHeartbeats 1000000 in
theorem lw_o13 (D : lw_Cx p s m b meth c G L0 xs) (hcr : cs + 0 ≤ room_1.cells ∧ sl + 0 ≤ room_1.slots) (hR : rl_R μ ν) (hμ : rd_okM μ) (hν : rd_okM ν) (hi : 0 ≤ i ∧ i + 5 ≤ L0) (kk : ∀ μ' ν', rl_R μ' ν' → rd_okM μ' → rd_okM ν' → lw_K p l e s m below meth c Q G cs sl b i μ' ν' 1147 []) : lw_K p l e s m below meth c Q G cs sl b i μ ν 599 [] := by
  obtain ⟨C, hX, hbl, hL0⟩ := D
  refine rx_aload_n C dL_law_599 (z := some (s.heap.size : Int)) rfl ?_
  refine lw_callV C (mk := rd_I) (kd := rd_kc) (N := 313) (w := s.heap.size) (I' := fun μ' => lw_I G s.heap.size s.heap μ' ν) (as := []) (c_X9_forward (rl_RI hR)) hμ rm_L_71 ri_X9_forward rs_X9_forward rc_X9_forward rz_X9 ⟨rp_X9_forward, rfl, rfl, by decide, by decide⟩ rfl rd_kcl9 dL_law_600 rd_k0 (by decide) (fun _ => rfl) rfl rfl (Nat.le_of_ble_eq_true rfl) (fun _ _ h => h.1) (lw_I1 rfl) (fun v μ' h => by rcases h with ⟨_, e, _⟩ | ⟨_, e, _⟩ <;> exact ⟨_, e⟩) hcr (fun z1 μ1 hp1 hμ1 => ?_)
  refine rx_aload_n C dL_law_603 (z := some ((s.heap.size + 313 : Nat) : Int)) rfl ?_
  refine lw_callV C (mk := rd_I) (kd := rd_km) (N := 5) (w := s.heap.size + 313) (I' := fun ν' => lw_I G s.heap.size s.heap μ1 ν') (as := []) (c_X10_forward (rl_i hR) (rl_st hR)) hν rm_L_74 ri_X10_forward rs_X10_forward rc_X10_forward rz_X10 ⟨rp_X10_forward, rfl, rfl, by decide, by decide⟩ rfl rd_kcl10 dL_law_604 rd_m0 (by decide) (fun _ => rfl) rfl rfl (Nat.le_of_ble_eq_true rfl) (fun _ _ h => h.2.1) (lw_I2 rfl) (fun v μ' h => by rcases h with ⟨_, e, _⟩ | ⟨_, e, _⟩ <;> exact ⟨_, e⟩) hcr (fun z2 ν1 hp2 hν1 => ?_)
  obtain ⟨hvv, hR2⟩ := ro_forward hR hp1 hp2
  have hz : z2 = z1 := Sum.inl.inj (Option.some.inj hvv)
  exact rx_icmp_eq C dL_law_607 (tgt := 1147) (by decide) (fun _ => kk _ _ hR2 hμ1 hν1) (fun h => absurd hz.symm h)
set_option maxHeartbeats 1000000 in
theorem lw_o14 (D : lw_Cx p s m b meth c G L0 xs) (hcr : cs + 0 ≤ room_1.cells ∧ sl + 0 ≤ room_1.slots) (hR : rl_R μ ν) (hμ : rd_okM μ) (hν : rd_okM ν) (hi : 0 ≤ i ∧ i + 5 ≤ L0) (kk : ∀ μ' ν', rl_R μ' ν' → rd_okM μ' → rd_okM ν' → lw_K p l e s m below meth c Q G cs sl b i μ' ν' 1147 []) : lw_K p l e s m below meth c Q G cs sl b i μ ν 612 [] := by
  obtain ⟨C, hX, hbl, hL0⟩ := D
  refine rx_aload_n C dL_law_612 (z := some (s.heap.size : Int)) rfl ?_
  refine lw_callV C (mk := rd_I) (kd := rd_kc) (N := 313) (w := s.heap.size) (I' := fun μ' => lw_I G s.heap.size s.heap μ' ν) (as := []) (c_X9_back (rl_RI hR)) hμ rm_L_75 ri_X9_back rs_X9_back rc_X9_back rz_X9 ⟨rp_X9_back, rfl, rfl, by decide, by decide⟩ rfl rd_kcl9 dL_law_613 rd_k0 (by decide) (fun _ => rfl) rfl rfl (Nat.le_of_ble_eq_true rfl) (fun _ _ h => h.1) (lw_I1 rfl) (fun v μ' h => by rcases h with ⟨_, e, _⟩ | ⟨_, e, _⟩ <;> exact ⟨_, e⟩) hcr (fun z1 μ1 hp1 hμ1 => ?_)
  refine rx_aload_n C dL_law_616 (z := some ((s.heap.size + 313 : Nat) : Int)) rfl ?_
  refine lw_callV C (mk := rd_I) (kd := rd_km) (N := 5) (w := s.heap.size + 313) (I' := fun ν' => lw_I G s.heap.size s.heap μ1 ν') (as := []) (c_X10_back (rl_i hR) (rl_st hR)) hν rm_L_78 ri_X10_back rs_X10_back rc_X10_back rz_X10 ⟨rp_X10_back, rfl, rfl, by decide, by decide⟩ rfl rd_kcl10 dL_law_617 rd_m0 (by decide) (fun _ => rfl) rfl rfl (Nat.le_of_ble_eq_true rfl) (fun _ _ h => h.2.1) (lw_I2 rfl) (fun v μ' h => by rcases h with ⟨_, e, _⟩ | ⟨_, e, _⟩ <;> exact ⟨_, e⟩) hcr (fun z2 ν1 hp2 hν1 => ?_)
  obtain ⟨hvv, hR2⟩ := ro_back hR hp1 hp2
  have hz : z2 = z1 := Sum.inl.inj (Option.some.inj hvv)
  exact rx_icmp_eq C dL_law_620 (tgt := 1147) (by decide) (fun _ => kk _ _ hR2 hμ1 hν1) (fun h => absurd hz.symm h)
set_option maxHeartbeats 1000000 in
theorem lw_o15 (D : lw_Cx p s m b meth c G L0 xs) (hcr : cs + 0 ≤ room_1.cells ∧ sl + 0 ≤ room_1.slots) (hR : rl_R μ ν) (hμ : rd_okM μ) (hν : rd_okM ν) (hi : 0 ≤ i ∧ i + 5 ≤ L0) (kk : ∀ μ' ν', rl_R μ' ν' → rd_okM μ' → rd_okM ν' → lw_K p l e s m below meth c Q G cs sl b i μ' ν' 1147 []) : lw_K p l e s m below meth c Q G cs sl b i μ ν 625 [] := by
  obtain ⟨C, hX, hbl, hL0⟩ := D
  refine rx_aload_n C dL_law_625 (z := some (s.heap.size : Int)) rfl ?_
  refine rx_aload_n C dL_law_626 (z := some (b : Int)) rfl ?_
  refine rx_iload_n C dL_law_627 (z := i) rfl ?_
  refine rx_iconst C dL_law_628 (n := 1) ⟨by decide, by decide⟩ ?_
  refine rx_iadd C dL_law_629 (z := i + 1) rfl ⟨by omega, by omega⟩ ?_
  refine lw_ald C hX hbl ⟨by omega, by omega⟩ (fun _ _ h => h.2.2) dL_law_630 ?_
  refine lw_callV C (mk := rd_I) (kd := rd_kc) (N := 313) (w := s.heap.size) (I' := fun μ' => lw_I G s.heap.size s.heap μ' ν) (as := [rd_I (lw_x xs (i + 1))]) (c_X9_press (rl_RI hR)) hμ rm_L_79 ri_X9_press rs_X9_press rc_X9_press rz_X9 ⟨rp_X9_press, rfl, rfl, by decide, by decide⟩ rfl rd_kcl9 dL_law_631 rd_k0 (by decide) (fun _ => rfl) rfl rfl (Nat.le_of_ble_eq_true rfl) (fun _ _ h => h.1) (lw_I1 rfl) (fun v μ' h => by rcases h with ⟨_, e, _⟩ | ⟨_, e, _⟩ | ⟨_, e, _⟩ <;> exact ⟨_, e⟩) hcr (fun z1 μ1 hp1 hμ1 => ?_)
  refine rx_aload_n C dL_law_634 (z := some ((s.heap.size + 313 : Nat) : Int)) rfl ?_
  refine rx_aload_n C dL_law_635 (z := some (b : Int)) rfl ?_
  refine rx_iload_n C dL_law_636 (z := i) rfl ?_
  refine rx_iconst C dL_law_637 (n := 1) ⟨by decide, by decide⟩ ?_
  refine rx_iadd C dL_law_638 (z := i + 1) rfl ⟨by omega, by omega⟩ ?_
  refine lw_ald C hX hbl ⟨by omega, by omega⟩ (fun _ _ h => h.2.2) dL_law_639 ?_
  refine lw_callV C (mk := rd_I) (kd := rd_km) (N := 5) (w := s.heap.size + 313) (I' := fun ν' => lw_I G s.heap.size s.heap μ1 ν') (as := [rd_I (lw_x xs (i + 1))]) (c_X10_press (rl_i hR) (rl_st hR)) hν rm_L_82 ri_X10_press rs_X10_press rc_X10_press rz_X10 ⟨rp_X10_press, rfl, rfl, by decide, by decide⟩ rfl rd_kcl10 dL_law_640 rd_m0 (by decide) (fun _ => rfl) rfl rfl (Nat.le_of_ble_eq_true rfl) (fun _ _ h => h.2.1) (lw_I2 rfl) (fun v μ' h => by rcases h with ⟨_, e, _⟩ | ⟨_, e, _⟩ | ⟨_, e, _⟩ <;> exact ⟨_, e⟩) hcr (fun z2 ν1 hp2 hν1 => ?_)
  obtain ⟨hvv, hR2⟩ := ro_press hR hp1 hp2
  have hz : z2 = z1 := Sum.inl.inj (Option.some.inj hvv)
  exact rx_icmp_eq C dL_law_643 (tgt := 1147) (by decide) (fun _ => kk _ _ hR2 hμ1 hν1) (fun h => absurd hz.symm h)
set_option maxHeartbeats 1000000 in
theorem lw_o16 (D : lw_Cx p s m b meth c G L0 xs) (hcr : cs + 0 ≤ room_1.cells ∧ sl + 0 ≤ room_1.slots) (hR : rl_R μ ν) (hμ : rd_okM μ) (hν : rd_okM ν) (hi : 0 ≤ i ∧ i + 5 ≤ L0) (kk : ∀ μ' ν', rl_R μ' ν' → rd_okM μ' → rd_okM ν' → lw_K p l e s m below meth c Q G cs sl b i μ' ν' 1147 []) : lw_K p l e s m below meth c Q G cs sl b i μ ν 648 [] := by
  obtain ⟨C, hX, hbl, hL0⟩ := D
  refine rx_aload_n C dL_law_648 (z := some (s.heap.size : Int)) rfl ?_
  refine rx_aload_n C dL_law_649 (z := some (b : Int)) rfl ?_
  refine rx_iload_n C dL_law_650 (z := i) rfl ?_
  refine rx_iconst C dL_law_651 (n := 1) ⟨by decide, by decide⟩ ?_
  refine rx_iadd C dL_law_652 (z := i + 1) rfl ⟨by omega, by omega⟩ ?_
  refine lw_ald C hX hbl ⟨by omega, by omega⟩ (fun _ _ h => h.2.2) dL_law_653 ?_
  refine lw_callV C (mk := rd_I) (kd := rd_kc) (N := 313) (w := s.heap.size) (I' := fun μ' => lw_I G s.heap.size s.heap μ' ν) (as := [rd_I (lw_x xs (i + 1))]) (c_X9_tick (rl_RI hR)) hμ rm_L_83 ri_X9_tick rs_X9_tick rc_X9_tick rz_X9 ⟨rp_X9_tick, rfl, rfl, by decide, by decide⟩ rfl rd_kcl9 dL_law_654 rd_k0 (by decide) (fun _ => rfl) rfl rfl (Nat.le_of_ble_eq_true rfl) (fun _ _ h => h.1) (lw_I1 rfl) (fun v μ' h => by rcases h with ⟨_, e, _⟩ | ⟨_, e, _⟩ | ⟨_, e, _⟩ <;> exact ⟨_, e⟩) hcr (fun z1 μ1 hp1 hμ1 => ?_)
  refine rx_aload_n C dL_law_657 (z := some ((s.heap.size + 313 : Nat) : Int)) rfl ?_
  refine rx_aload_n C dL_law_658 (z := some (b : Int)) rfl ?_
  refine rx_iload_n C dL_law_659 (z := i) rfl ?_
  refine rx_iconst C dL_law_660 (n := 1) ⟨by decide, by decide⟩ ?_
  refine rx_iadd C dL_law_661 (z := i + 1) rfl ⟨by omega, by omega⟩ ?_
  refine lw_ald C hX hbl ⟨by omega, by omega⟩ (fun _ _ h => h.2.2) dL_law_662 ?_
  refine lw_callV C (mk := rd_I) (kd := rd_km) (N := 5) (w := s.heap.size + 313) (I' := fun ν' => lw_I G s.heap.size s.heap μ1 ν') (as := [rd_I (lw_x xs (i + 1))]) (c_X10_tick (rl_i hR) (rl_st hR)) hν rm_L_86 ri_X10_tick rs_X10_tick rc_X10_tick rz_X10 ⟨rp_X10_tick, rfl, rfl, by decide, by decide⟩ rfl rd_kcl10 dL_law_663 rd_m0 (by decide) (fun _ => rfl) rfl rfl (Nat.le_of_ble_eq_true rfl) (fun _ _ h => h.2.1) (lw_I2 rfl) (fun v μ' h => by rcases h with ⟨_, e, _⟩ | ⟨_, e, _⟩ | ⟨_, e, _⟩ <;> exact ⟨_, e⟩) hcr (fun z2 ν1 hp2 hν1 => ?_)
  obtain ⟨hvv, hR2⟩ := ro_tick hR hp1 hp2
  have hz : z2 = z1 := Sum.inl.inj (Option.some.inj hvv)
  exact rx_icmp_eq C dL_law_666 (tgt := 1147) (by decide) (fun _ => kk _ _ hR2 hμ1 hν1) (fun h => absurd hz.symm h)
set_option maxHeartbeats 1000000 in
theorem lw_o17 (D : lw_Cx p s m b meth c G L0 xs) (hcr : cs + 0 ≤ room_1.cells ∧ sl + 0 ≤ room_1.slots) (hR : rl_R μ ν) (hμ : rd_okM μ) (hν : rd_okM ν) (hi : 0 ≤ i ∧ i + 5 ≤ L0) (kk : ∀ μ' ν', rl_R μ' ν' → rd_okM μ' → rd_okM ν' → lw_K p l e s m below meth c Q G cs sl b i μ' ν' 1147 []) : lw_K p l e s m below meth c Q G cs sl b i μ ν 671 [] := by
  obtain ⟨C, hX, hbl, hL0⟩ := D
  refine rx_aload_n C dL_law_671 (z := some (s.heap.size : Int)) rfl ?_
  refine rx_aload_n C dL_law_672 (z := some (b : Int)) rfl ?_
  refine rx_iload_n C dL_law_673 (z := i) rfl ?_
  refine rx_iconst C dL_law_674 (n := 1) ⟨by decide, by decide⟩ ?_
  refine rx_iadd C dL_law_675 (z := i + 1) rfl ⟨by omega, by omega⟩ ?_
  refine lw_ald C hX hbl ⟨by omega, by omega⟩ (fun _ _ h => h.2.2) dL_law_676 ?_
  refine lw_callV C (mk := rd_I) (kd := rd_kc) (N := 313) (w := s.heap.size) (I' := fun μ' => lw_I G s.heap.size s.heap μ' ν) (as := [rd_I (lw_x xs (i + 1))]) (c_X9_append (rl_RI hR)) hμ rm_L_87 ri_X9_append rs_X9_append rc_X9_append rz_X9 ⟨rp_X9_append, rfl, rfl, by decide, by decide⟩ rfl rd_kcl9 dL_law_677 rd_k0 (by decide) (fun _ => rfl) rfl rfl (Nat.le_of_ble_eq_true rfl) (fun _ _ h => h.1) (lw_I1 rfl) (fun v μ' h => by rcases h with ⟨_, e, _⟩ | ⟨_, e, _⟩ | ⟨_, e, _⟩ <;> exact ⟨_, e⟩) hcr (fun z1 μ1 hp1 hμ1 => ?_)
  refine rx_aload_n C dL_law_680 (z := some ((s.heap.size + 313 : Nat) : Int)) rfl ?_
  refine rx_aload_n C dL_law_681 (z := some (b : Int)) rfl ?_
  refine rx_iload_n C dL_law_682 (z := i) rfl ?_
  refine rx_iconst C dL_law_683 (n := 1) ⟨by decide, by decide⟩ ?_
  refine rx_iadd C dL_law_684 (z := i + 1) rfl ⟨by omega, by omega⟩ ?_
  refine lw_ald C hX hbl ⟨by omega, by omega⟩ (fun _ _ h => h.2.2) dL_law_685 ?_
  refine lw_callV C (mk := rd_I) (kd := rd_km) (N := 5) (w := s.heap.size + 313) (I' := fun ν' => lw_I G s.heap.size s.heap μ1 ν') (as := [rd_I (lw_x xs (i + 1))]) (c_X10_append (rl_l3 hR)) hν rm_L_90 ri_X10_append rs_X10_append rc_X10_append rz_X10 ⟨rp_X10_append, rfl, rfl, by decide, by decide⟩ rfl rd_kcl10 dL_law_686 rd_m0 (by decide) (fun _ => rfl) rfl rfl (Nat.le_of_ble_eq_true rfl) (fun _ _ h => h.2.1) (lw_I2 rfl) (fun v μ' h => by rcases h with ⟨_, e, _⟩ | ⟨_, e, _⟩ | ⟨_, e, _⟩ <;> exact ⟨_, e⟩) hcr (fun z2 ν1 hp2 hν1 => ?_)
  obtain ⟨hvv, hR2⟩ := ro_append hR hp1 hp2
  have hz : z2 = z1 := Sum.inl.inj (Option.some.inj hvv)
  exact rx_icmp_eq C dL_law_689 (tgt := 1147) (by decide) (fun _ => kk _ _ hR2 hμ1 hν1) (fun h => absurd hz.symm h)
set_option maxHeartbeats 1000000 in
theorem lw_o18 (D : lw_Cx p s m b meth c G L0 xs) (hcr : cs + 0 ≤ room_1.cells ∧ sl + 0 ≤ room_1.slots) (hR : rl_R μ ν) (hμ : rd_okM μ) (hν : rd_okM ν) (hi : 0 ≤ i ∧ i + 5 ≤ L0) (kk : ∀ μ' ν', rl_R μ' ν' → rd_okM μ' → rd_okM ν' → lw_K p l e s m below meth c Q G cs sl b i μ' ν' 1147 []) : lw_K p l e s m below meth c Q G cs sl b i μ ν 694 [] := by
  obtain ⟨C, hX, hbl, hL0⟩ := D
  refine rx_aload_n C dL_law_694 (z := some (s.heap.size : Int)) rfl ?_
  refine lw_callV C (mk := rd_I) (kd := rd_kc) (N := 313) (w := s.heap.size) (I' := fun μ' => lw_I G s.heap.size s.heap μ' ν) (as := []) (c_X9_clearText (rl_RI hR)) hμ rm_L_91 ri_X9_clearText rs_X9_clearText rc_X9_clearText rz_X9 ⟨rp_X9_clearText, rfl, rfl, by decide, by decide⟩ rfl rd_kcl9 dL_law_695 rd_k0 (by decide) (fun _ => rfl) rfl rfl (Nat.le_of_ble_eq_true rfl) (fun _ _ h => h.1) (lw_I1 rfl) (fun v μ' h => by rcases h with ⟨_, e, _⟩; exact ⟨_, e⟩) hcr (fun z1 μ1 hp1 hμ1 => ?_)
  refine rx_aload_n C dL_law_698 (z := some ((s.heap.size + 313 : Nat) : Int)) rfl ?_
  refine lw_callV C (mk := rd_I) (kd := rd_km) (N := 5) (w := s.heap.size + 313) (I' := fun ν' => lw_I G s.heap.size s.heap μ1 ν') (as := []) (c_X10_clearText ) hν rm_L_94 ri_X10_clearText rs_X10_clearText rc_X10_clearText rz_X10 ⟨rp_X10_clearText, rfl, rfl, by decide, by decide⟩ rfl rd_kcl10 dL_law_699 rd_m0 (by decide) (fun _ => rfl) rfl rfl (Nat.le_of_ble_eq_true rfl) (fun _ _ h => h.2.1) (lw_I2 rfl) (fun v μ' h => by rcases h with ⟨_, e, _⟩; exact ⟨_, e⟩) hcr (fun z2 ν1 hp2 hν1 => ?_)
  obtain ⟨hvv, hR2⟩ := ro_clearText hR hp1 hp2
  have hz : z2 = z1 := Sum.inl.inj (Option.some.inj hvv)
  exact rx_icmp_eq C dL_law_702 (tgt := 1147) (by decide) (fun _ => kk _ _ hR2 hμ1 hν1) (fun h => absurd hz.symm h)
set_option maxHeartbeats 1000000 in
theorem lw_o19 (D : lw_Cx p s m b meth c G L0 xs) (hcr : cs + 0 ≤ room_1.cells ∧ sl + 0 ≤ room_1.slots) (hR : rl_R μ ν) (hμ : rd_okM μ) (hν : rd_okM ν) (hi : 0 ≤ i ∧ i + 5 ≤ L0) (kk : ∀ μ' ν', rl_R μ' ν' → rd_okM μ' → rd_okM ν' → lw_K p l e s m below meth c Q G cs sl b i μ' ν' 1147 []) : lw_K p l e s m below meth c Q G cs sl b i μ ν 707 [] := by
  obtain ⟨C, hX, hbl, hL0⟩ := D
  refine rx_aload_n C dL_law_707 (z := some (s.heap.size : Int)) rfl ?_
  refine lw_callV C (mk := rd_I) (kd := rd_kc) (N := 313) (w := s.heap.size) (I' := fun μ' => lw_I G s.heap.size s.heap μ' ν) (as := []) (c_X9_fault (rl_RI hR)) hμ rm_L_95 ri_X9_fault rs_X9_fault rc_X9_fault rz_X9 ⟨rp_X9_fault, rfl, rfl, by decide, by decide⟩ rfl rd_kcl9 dL_law_708 rd_k0 (by decide) (fun _ => rfl) rfl rfl (Nat.le_of_ble_eq_true rfl) (fun _ _ h => h.1) (lw_I1 rfl) (fun v μ' h => by rcases h with ⟨_, e, _⟩; exact ⟨_, e⟩) hcr (fun z1 μ1 hp1 hμ1 => ?_)
  refine rx_aload_n C dL_law_711 (z := some ((s.heap.size + 313 : Nat) : Int)) rfl ?_
  refine lw_callV C (mk := rd_I) (kd := rd_km) (N := 5) (w := s.heap.size + 313) (I' := fun ν' => lw_I G s.heap.size s.heap μ1 ν') (as := []) (c_X10_fault (rl_l3 hR)) hν rm_L_98 ri_X10_fault rs_X10_fault rc_X10_fault rz_X10 ⟨rp_X10_fault, rfl, rfl, by decide, by decide⟩ rfl rd_kcl10 dL_law_712 rd_m0 (by decide) (fun _ => rfl) rfl rfl (Nat.le_of_ble_eq_true rfl) (fun _ _ h => h.2.1) (lw_I2 rfl) (fun v μ' h => by rcases h with ⟨e, _⟩; exact ⟨_, e⟩) hcr (fun z2 ν1 hp2 hν1 => ?_)
  obtain ⟨hvv, hR2⟩ := ro_fault hR hp1 hp2
  have hz : z2 = z1 := Sum.inl.inj (Option.some.inj hvv)
  exact rx_icmp_eq C dL_law_715 (tgt := 1147) (by decide) (fun _ => kk _ _ hR2 hμ1 hν1) (fun h => absurd hz.symm h)
set_option maxHeartbeats 1000000 in
theorem lw_o20 (D : lw_Cx p s m b meth c G L0 xs) (hcr : cs + 0 ≤ room_1.cells ∧ sl + 0 ≤ room_1.slots) (hR : rl_R μ ν) (hμ : rd_okM μ) (hν : rd_okM ν) (hi : 0 ≤ i ∧ i + 5 ≤ L0) (kk : ∀ μ' ν', rl_R μ' ν' → rd_okM μ' → rd_okM ν' → lw_K p l e s m below meth c Q G cs sl b i μ' ν' 1147 []) : lw_K p l e s m below meth c Q G cs sl b i μ ν 720 [] := by
  obtain ⟨C, hX, hbl, hL0⟩ := D
  refine rx_aload_n C dL_law_720 (z := some (s.heap.size : Int)) rfl ?_
  refine lw_callV C (mk := rd_I) (kd := rd_kc) (N := 313) (w := s.heap.size) (I' := fun μ' => lw_I G s.heap.size s.heap μ' ν) (as := []) (c_X9_run (rl_RI hR) hR.1.1.2.2.2.2.2.1) hμ rm_L_99 ri_X9_run rs_X9_run rc_X9_run rz_X9 ⟨rp_X9_run, rfl, rfl, by decide, by decide⟩ rfl rd_kcl9 dL_law_721 rd_k0 (by decide) (fun _ => rfl) rfl rfl (Nat.le_of_ble_eq_true rfl) (fun _ _ h => h.1) (lw_I1 rfl) (fun v μ' h => by rcases h with ⟨_, e, _⟩ | ⟨_, e, _⟩ <;> exact ⟨_, e⟩) hcr (fun z1 μ1 hp1 hμ1 => ?_)
  refine rx_aload_n C dL_law_724 (z := some ((s.heap.size + 313 : Nat) : Int)) rfl ?_
  refine lw_callV C (mk := rd_I) (kd := rd_km) (N := 5) (w := s.heap.size + 313) (I' := fun ν' => lw_I G s.heap.size s.heap μ1 ν') (as := []) (c_X10_run (rl_l3 hR) (rl_st hR) (rl_J hR.1)) hν rm_L_102 ri_X10_run rs_X10_run rc_X10_run rz_X10 ⟨rp_X10_run, rfl, rfl, by decide, by decide⟩ rfl rd_kcl10 dL_law_725 rd_m0 (by decide) (fun _ => rfl) rfl rfl (Nat.le_of_ble_eq_true rfl) (fun _ _ h => h.2.1) (lw_I2 rfl) (fun v μ' h => by rcases h with ⟨_, e, _⟩ | ⟨_, _, _, _, _, _, _, e, _⟩ <;> exact ⟨_, e⟩) hcr (fun z2 ν1 hp2 hν1 => ?_)
  obtain ⟨hvv, hR2⟩ := ro_run hR hp1 hp2
  have hz : z2 = z1 := Sum.inl.inj (Option.some.inj hvv)
  exact rx_icmp_eq C dL_law_728 (tgt := 1147) (by decide) (fun _ => kk _ _ hR2 hμ1 hν1) (fun h => absurd hz.symm h)
set_option maxHeartbeats 1000000 in
theorem lw_o21 (D : lw_Cx p s m b meth c G L0 xs) (hcr : cs + 0 ≤ room_1.cells ∧ sl + 0 ≤ room_1.slots) (hR : rl_R μ ν) (hμ : rd_okM μ) (hν : rd_okM ν) (hi : 0 ≤ i ∧ i + 5 ≤ L0) (kk : ∀ μ' ν', rl_R μ' ν' → rd_okM μ' → rd_okM ν' → lw_K p l e s m below meth c Q G cs sl b i μ' ν' 1147 []) : lw_K p l e s m below meth c Q G cs sl b i μ ν 733 [] := by
  obtain ⟨C, hX, hbl, hL0⟩ := D
  refine rx_aload_n C dL_law_733 (z := some (s.heap.size : Int)) rfl ?_
  refine rx_aload_n C dL_law_734 (z := some (b : Int)) rfl ?_
  refine rx_iload_n C dL_law_735 (z := i) rfl ?_
  refine rx_iconst C dL_law_736 (n := 1) ⟨by decide, by decide⟩ ?_
  refine rx_iadd C dL_law_737 (z := i + 1) rfl ⟨by omega, by omega⟩ ?_
  refine lw_ald C hX hbl ⟨by omega, by omega⟩ (fun _ _ h => h.2.2) dL_law_738 ?_
  refine lw_callV C (mk := rd_I) (kd := rd_kc) (N := 313) (w := s.heap.size) (I' := fun μ' => lw_I G s.heap.size s.heap μ' ν) (as := [rd_I (lw_x xs (i + 1))]) (c_X9_why (rl_RI hR)) hμ rm_L_103 ri_X9_why rs_X9_why rc_X9_why rz_X9 ⟨rp_X9_why, rfl, rfl, by decide, by decide⟩ rfl rd_kcl9 dL_law_739 rd_k0 (by decide) (fun _ => rfl) rfl rfl (Nat.le_of_ble_eq_true rfl) (fun _ _ h => h.1) (lw_I1 rfl) (fun v μ' h => by rcases h with ⟨_, e, _⟩ | ⟨_, e, _⟩ <;> exact ⟨_, e⟩) hcr (fun z1 μ1 hp1 hμ1 => ?_)
  refine rx_aload_n C dL_law_742 (z := some ((s.heap.size + 313 : Nat) : Int)) rfl ?_
  refine rx_aload_n C dL_law_743 (z := some (b : Int)) rfl ?_
  refine rx_iload_n C dL_law_744 (z := i) rfl ?_
  refine rx_iconst C dL_law_745 (n := 1) ⟨by decide, by decide⟩ ?_
  refine rx_iadd C dL_law_746 (z := i + 1) rfl ⟨by omega, by omega⟩ ?_
  refine lw_ald C hX hbl ⟨by omega, by omega⟩ (fun _ _ h => h.2.2) dL_law_747 ?_
  refine lw_callV C (mk := rd_I) (kd := rd_km) (N := 5) (w := s.heap.size + 313) (I' := fun ν' => lw_I G s.heap.size s.heap μ1 ν') (as := [rd_I (lw_x xs (i + 1))]) (c_X10_why ) hν rm_L_106 ri_X10_why rs_X10_why rc_X10_why rz_X10 ⟨rp_X10_why, rfl, rfl, by decide, by decide⟩ rfl rd_kcl10 dL_law_748 rd_m0 (by decide) (fun _ => rfl) rfl rfl (Nat.le_of_ble_eq_true rfl) (fun _ _ h => h.2.1) (lw_I2 rfl) (fun v μ' h => by rcases h with ⟨_, e, _⟩ | ⟨_, e, _⟩ <;> exact ⟨_, e⟩) hcr (fun z2 ν1 hp2 hν1 => ?_)
  obtain ⟨hvv, hR2⟩ := ro_why hR hp1 hp2
  have hz : z2 = z1 := Sum.inl.inj (Option.some.inj hvv)
  exact rx_icmp_eq C dL_law_751 (tgt := 1147) (by decide) (fun _ => kk _ _ hR2 hμ1 hν1) (fun h => absurd hz.symm h)
set_option maxHeartbeats 1000000 in
theorem lw_o22 (D : lw_Cx p s m b meth c G L0 xs) (hcr : cs + 0 ≤ room_1.cells ∧ sl + 0 ≤ room_1.slots) (hR : rl_R μ ν) (hμ : rd_okM μ) (hν : rd_okM ν) (hi : 0 ≤ i ∧ i + 5 ≤ L0) (kk : ∀ μ' ν', rl_R μ' ν' → rd_okM μ' → rd_okM ν' → lw_K p l e s m below meth c Q G cs sl b i μ' ν' 1147 []) : lw_K p l e s m below meth c Q G cs sl b i μ ν 756 [] := by
  obtain ⟨C, hX, hbl, hL0⟩ := D
  refine rx_aload_n C dL_law_756 (z := some (s.heap.size : Int)) rfl ?_
  refine lw_callV C (mk := rd_I) (kd := rd_kc) (N := 313) (w := s.heap.size) (I' := fun μ' => lw_I G s.heap.size s.heap μ' ν) (as := []) (c_X9_undo (rl_RI hR)) hμ rm_L_107 ri_X9_undo rs_X9_undo rc_X9_undo rz_X9 ⟨rp_X9_undo, rfl, rfl, by decide, by decide⟩ rfl rd_kcl9 dL_law_757 rd_k0 (by decide) (fun _ => rfl) rfl rfl (Nat.le_of_ble_eq_true rfl) (fun _ _ h => h.1) (lw_I1 rfl) (fun v μ' h => by rcases h with ⟨_, e, _⟩ | ⟨_, e, _⟩ <;> exact ⟨_, e⟩) hcr (fun z1 μ1 hp1 hμ1 => ?_)
  refine rx_aload_n C dL_law_760 (z := some ((s.heap.size + 313 : Nat) : Int)) rfl ?_
  refine lw_callV C (mk := rd_I) (kd := rd_km) (N := 5) (w := s.heap.size + 313) (I' := fun ν' => lw_I G s.heap.size s.heap μ1 ν') (as := []) (c_X10_undo (rl_st hR)) hν rm_L_110 ri_X10_undo rs_X10_undo rc_X10_undo rz_X10 ⟨rp_X10_undo, rfl, rfl, by decide, by decide⟩ rfl rd_kcl10 dL_law_761 rd_m0 (by decide) (fun _ => rfl) rfl rfl (Nat.le_of_ble_eq_true rfl) (fun _ _ h => h.2.1) (lw_I2 rfl) (fun v μ' h => by rcases h with ⟨_, e, _⟩ | ⟨_, e, _⟩ <;> exact ⟨_, e⟩) hcr (fun z2 ν1 hp2 hν1 => ?_)
  obtain ⟨hvv, hR2⟩ := ro_undo hR hp1 hp2
  have hz : z2 = z1 := Sum.inl.inj (Option.some.inj hvv)
  exact rx_icmp_eq C dL_law_764 (tgt := 1147) (by decide) (fun _ => kk _ _ hR2 hμ1 hν1) (fun h => absurd hz.symm h)
set_option maxHeartbeats 1000000 in
theorem lw_o23 (D : lw_Cx p s m b meth c G L0 xs) (hcr : cs + 0 ≤ room_1.cells ∧ sl + 0 ≤ room_1.slots) (hR : rl_R μ ν) (hμ : rd_okM μ) (hν : rd_okM ν) (hi : 0 ≤ i ∧ i + 5 ≤ L0) (kk : ∀ μ' ν', rl_R μ' ν' → rd_okM μ' → rd_okM ν' → lw_K p l e s m below meth c Q G cs sl b i μ' ν' 1147 []) : lw_K p l e s m below meth c Q G cs sl b i μ ν 769 [] := by
  obtain ⟨C, hX, hbl, hL0⟩ := D
  refine rx_aload_n C dL_law_769 (z := some (s.heap.size : Int)) rfl ?_
  refine lw_callV C (mk := rd_I) (kd := rd_kc) (N := 313) (w := s.heap.size) (I' := fun μ' => lw_I G s.heap.size s.heap μ' ν) (as := []) (c_X9_slides (rl_RI hR)) hμ rm_L_111 ri_X9_slides rs_X9_slides rc_X9_slides rz_X9 ⟨rp_X9_slides, rfl, rfl, by decide, by decide⟩ rfl rd_kcl9 dL_law_770 rd_k0 (by decide) (fun _ => rfl) rfl rfl (Nat.le_of_ble_eq_true rfl) (fun _ _ h => h.1) (lw_I1 rfl) (fun v μ' h => by rcases h with ⟨_, e, _⟩; exact ⟨_, e⟩) hcr (fun z1 μ1 hp1 hμ1 => ?_)
  refine rx_aload_n C dL_law_773 (z := some ((s.heap.size + 313 : Nat) : Int)) rfl ?_
  refine lw_callV C (mk := rd_I) (kd := rd_km) (N := 5) (w := s.heap.size + 313) (I' := fun ν' => lw_I G s.heap.size s.heap μ1 ν') (as := []) (c_X10_slides ) hν rm_L_114 ri_X10_slides rs_X10_slides rc_X10_slides rz_X10 ⟨rp_X10_slides, rfl, rfl, by decide, by decide⟩ rfl rd_kcl10 dL_law_774 rd_m0 (by decide) (fun _ => rfl) rfl rfl (Nat.le_of_ble_eq_true rfl) (fun _ _ h => h.2.1) (lw_I2 rfl) (fun v μ' h => by rcases h with ⟨_, e, _⟩; exact ⟨_, e⟩) hcr (fun z2 ν1 hp2 hν1 => ?_)
  obtain ⟨hvv, hR2⟩ := ro_slides hR hp1 hp2
  have hz : z2 = z1 := Sum.inl.inj (Option.some.inj hvv)
  exact rx_icmp_eq C dL_law_777 (tgt := 1147) (by decide) (fun _ => kk _ _ hR2 hμ1 hν1) (fun h => absurd hz.symm h)
set_option maxHeartbeats 1000000 in
theorem lw_o24 (D : lw_Cx p s m b meth c G L0 xs) (hcr : cs + 0 ≤ room_1.cells ∧ sl + 0 ≤ room_1.slots) (hR : rl_R μ ν) (hμ : rd_okM μ) (hν : rd_okM ν) (hi : 0 ≤ i ∧ i + 5 ≤ L0) (kk : ∀ μ' ν', rl_R μ' ν' → rd_okM μ' → rd_okM ν' → lw_K p l e s m below meth c Q G cs sl b i μ' ν' 1147 []) : lw_K p l e s m below meth c Q G cs sl b i μ ν 782 [] := by
  obtain ⟨C, hX, hbl, hL0⟩ := D
  refine rx_aload_n C dL_law_782 (z := some (s.heap.size : Int)) rfl ?_
  refine rx_aload_n C dL_law_783 (z := some (b : Int)) rfl ?_
  refine rx_iload_n C dL_law_784 (z := i) rfl ?_
  refine rx_iconst C dL_law_785 (n := 1) ⟨by decide, by decide⟩ ?_
  refine rx_iadd C dL_law_786 (z := i + 1) rfl ⟨by omega, by omega⟩ ?_
  refine lw_ald C hX hbl ⟨by omega, by omega⟩ (fun _ _ h => h.2.2) dL_law_787 ?_
  refine lw_callV C (mk := rd_I) (kd := rd_kc) (N := 313) (w := s.heap.size) (I' := fun μ' => lw_I G s.heap.size s.heap μ' ν) (as := [rd_I (lw_x xs (i + 1))]) (c_X9_slideAt (rl_RI hR)) hμ rm_L_115 ri_X9_slideAt rs_X9_slideAt rc_X9_slideAt rz_X9 ⟨rp_X9_slideAt, rfl, rfl, by decide, by decide⟩ rfl rd_kcl9 dL_law_788 rd_k0 (by decide) (fun _ => rfl) rfl rfl (Nat.le_of_ble_eq_true rfl) (fun _ _ h => h.1) (lw_I1 rfl) (fun v μ' h => by rcases h with ⟨_, e, _⟩ | ⟨_, e, _⟩ | ⟨_, e, _⟩ <;> exact ⟨_, e⟩) hcr (fun z1 μ1 hp1 hμ1 => ?_)
  refine rx_aload_n C dL_law_791 (z := some ((s.heap.size + 313 : Nat) : Int)) rfl ?_
  refine rx_aload_n C dL_law_792 (z := some (b : Int)) rfl ?_
  refine rx_iload_n C dL_law_793 (z := i) rfl ?_
  refine rx_iconst C dL_law_794 (n := 1) ⟨by decide, by decide⟩ ?_
  refine rx_iadd C dL_law_795 (z := i + 1) rfl ⟨by omega, by omega⟩ ?_
  refine lw_ald C hX hbl ⟨by omega, by omega⟩ (fun _ _ h => h.2.2) dL_law_796 ?_
  refine lw_callV C (mk := rd_I) (kd := rd_km) (N := 5) (w := s.heap.size + 313) (I' := fun ν' => lw_I G s.heap.size s.heap μ1 ν') (as := [rd_I (lw_x xs (i + 1))]) (c_X10_slideAt (rl_i hR).1.1) hν rm_L_118 ri_X10_slideAt rs_X10_slideAt rc_X10_slideAt rz_X10 ⟨rp_X10_slideAt, rfl, rfl, by decide, by decide⟩ rfl rd_kcl10 dL_law_797 rd_m0 (by decide) (fun _ => rfl) rfl rfl (Nat.le_of_ble_eq_true rfl) (fun _ _ h => h.2.1) (lw_I2 rfl) (fun v μ' h => by rcases h with ⟨_, e, _⟩ | ⟨_, e, _⟩ | ⟨_, e, _⟩ <;> exact ⟨_, e⟩) hcr (fun z2 ν1 hp2 hν1 => ?_)
  obtain ⟨hvv, hR2⟩ := ro_slideAt hR hp1 hp2
  have hz : z2 = z1 := Sum.inl.inj (Option.some.inj hvv)
  exact rx_icmp_eq C dL_law_800 (tgt := 1147) (by decide) (fun _ => kk _ _ hR2 hμ1 hν1) (fun h => absurd hz.symm h)
set_option maxHeartbeats 1000000 in
theorem lw_o25 (D : lw_Cx p s m b meth c G L0 xs) (hcr : cs + 0 ≤ room_1.cells ∧ sl + 0 ≤ room_1.slots) (hR : rl_R μ ν) (hμ : rd_okM μ) (hν : rd_okM ν) (hi : 0 ≤ i ∧ i + 5 ≤ L0) (kk : ∀ μ' ν', rl_R μ' ν' → rd_okM μ' → rd_okM ν' → lw_K p l e s m below meth c Q G cs sl b i μ' ν' 1147 []) : lw_K p l e s m below meth c Q G cs sl b i μ ν 805 [] := by
  obtain ⟨C, hX, hbl, hL0⟩ := D
  refine rx_aload_n C dL_law_805 (z := some (s.heap.size : Int)) rfl ?_
  refine rx_aload_n C dL_law_806 (z := some (b : Int)) rfl ?_
  refine rx_iload_n C dL_law_807 (z := i) rfl ?_
  refine rx_iconst C dL_law_808 (n := 1) ⟨by decide, by decide⟩ ?_
  refine rx_iadd C dL_law_809 (z := i + 1) rfl ⟨by omega, by omega⟩ ?_
  refine lw_ald C hX hbl ⟨by omega, by omega⟩ (fun _ _ h => h.2.2) dL_law_810 ?_
  refine rx_aload_n C dL_law_811 (z := some (b : Int)) rfl ?_
  refine rx_iload_n C dL_law_812 (z := i) rfl ?_
  refine rx_iconst C dL_law_813 (n := 2) ⟨by decide, by decide⟩ ?_
  refine rx_iadd C dL_law_814 (z := i + 2) rfl ⟨by omega, by omega⟩ ?_
  refine lw_ald C hX hbl ⟨by omega, by omega⟩ (fun _ _ h => h.2.2) dL_law_815 ?_
  refine lw_callV C (mk := rd_I) (kd := rd_kc) (N := 313) (w := s.heap.size) (I' := fun μ' => lw_I G s.heap.size s.heap μ' ν) (as := [rd_I (lw_x xs (i + 1)), rd_I (lw_x xs (i + 2))]) (c_X9_slide (rl_RI hR)) hμ rm_L_119 ri_X9_slide rs_X9_slide rc_X9_slide rz_X9 ⟨rp_X9_slide, rfl, rfl, by decide, by decide⟩ rfl rd_kcl9 dL_law_816 rd_k0 (by decide) (fun _ => rfl) rfl rfl (Nat.le_of_ble_eq_true rfl) (fun _ _ h => h.1) (lw_I1 rfl) (fun v μ' h => by rcases h with ⟨_, e, _⟩ | ⟨_, e, _⟩ | ⟨_, e, _⟩ | ⟨_, e, _⟩ | ⟨_, e, _⟩ | ⟨_, e, _⟩ | ⟨_, e, _⟩ | ⟨_, e, _⟩ <;> exact ⟨_, e⟩) hcr (fun z1 μ1 hp1 hμ1 => ?_)
  refine rx_aload_n C dL_law_819 (z := some ((s.heap.size + 313 : Nat) : Int)) rfl ?_
  refine rx_aload_n C dL_law_820 (z := some (b : Int)) rfl ?_
  refine rx_iload_n C dL_law_821 (z := i) rfl ?_
  refine rx_iconst C dL_law_822 (n := 1) ⟨by decide, by decide⟩ ?_
  refine rx_iadd C dL_law_823 (z := i + 1) rfl ⟨by omega, by omega⟩ ?_
  refine lw_ald C hX hbl ⟨by omega, by omega⟩ (fun _ _ h => h.2.2) dL_law_824 ?_
  refine rx_aload_n C dL_law_825 (z := some (b : Int)) rfl ?_
  refine rx_iload_n C dL_law_826 (z := i) rfl ?_
  refine rx_iconst C dL_law_827 (n := 2) ⟨by decide, by decide⟩ ?_
  refine rx_iadd C dL_law_828 (z := i + 2) rfl ⟨by omega, by omega⟩ ?_
  refine lw_ald C hX hbl ⟨by omega, by omega⟩ (fun _ _ h => h.2.2) dL_law_829 ?_
  refine lw_callV C (mk := rd_I) (kd := rd_km) (N := 5) (w := s.heap.size + 313) (I' := fun ν' => lw_I G s.heap.size s.heap μ1 ν') (as := [rd_I (lw_x xs (i + 1)), rd_I (lw_x xs (i + 2))]) (c_X10_slide (rl_i hR)) hν rm_L_122 ri_X10_slide rs_X10_slide rc_X10_slide rz_X10 ⟨rp_X10_slide, rfl, rfl, by decide, by decide⟩ rfl rd_kcl10 dL_law_830 rd_m0 (by decide) (fun _ => rfl) rfl rfl (Nat.le_of_ble_eq_true rfl) (fun _ _ h => h.2.1) (lw_I2 rfl) (fun v μ' h => by rcases h with ⟨_, e, _⟩ | ⟨_, e, _⟩ | ⟨_, e, _⟩ | ⟨_, e, _⟩ | ⟨_, e, _⟩ | ⟨_, e, _⟩ <;> exact ⟨_, e⟩) hcr (fun z2 ν1 hp2 hν1 => ?_)
  obtain ⟨hvv, hR2⟩ := ro_slide hR hp1 hp2
  have hz : z2 = z1 := Sum.inl.inj (Option.some.inj hvv)
  exact rx_icmp_eq C dL_law_833 (tgt := 1147) (by decide) (fun _ => kk _ _ hR2 hμ1 hν1) (fun h => absurd hz.symm h)
set_option maxHeartbeats 1000000 in
theorem lw_o26 (D : lw_Cx p s m b meth c G L0 xs) (hcr : cs + 0 ≤ room_1.cells ∧ sl + 0 ≤ room_1.slots) (hR : rl_R μ ν) (hμ : rd_okM μ) (hν : rd_okM ν) (hi : 0 ≤ i ∧ i + 5 ≤ L0) (kk : ∀ μ' ν', rl_R μ' ν' → rd_okM μ' → rd_okM ν' → lw_K p l e s m below meth c Q G cs sl b i μ' ν' 1147 []) : lw_K p l e s m below meth c Q G cs sl b i μ ν 838 [] := by
  obtain ⟨C, hX, hbl, hL0⟩ := D
  refine rx_aload_n C dL_law_838 (z := some (s.heap.size : Int)) rfl ?_
  refine rx_aload_n C dL_law_839 (z := some (b : Int)) rfl ?_
  refine rx_iload_n C dL_law_840 (z := i) rfl ?_
  refine rx_iconst C dL_law_841 (n := 1) ⟨by decide, by decide⟩ ?_
  refine rx_iadd C dL_law_842 (z := i + 1) rfl ⟨by omega, by omega⟩ ?_
  refine lw_ald C hX hbl ⟨by omega, by omega⟩ (fun _ _ h => h.2.2) dL_law_843 ?_
  refine rx_aload_n C dL_law_844 (z := some (b : Int)) rfl ?_
  refine rx_iload_n C dL_law_845 (z := i) rfl ?_
  refine rx_iconst C dL_law_846 (n := 2) ⟨by decide, by decide⟩ ?_
  refine rx_iadd C dL_law_847 (z := i + 2) rfl ⟨by omega, by omega⟩ ?_
  refine lw_ald C hX hbl ⟨by omega, by omega⟩ (fun _ _ h => h.2.2) dL_law_848 ?_
  refine rx_aload_n C dL_law_849 (z := some (b : Int)) rfl ?_
  refine rx_iload_n C dL_law_850 (z := i) rfl ?_
  refine rx_iconst C dL_law_851 (n := 3) ⟨by decide, by decide⟩ ?_
  refine rx_iadd C dL_law_852 (z := i + 3) rfl ⟨by omega, by omega⟩ ?_
  refine lw_ald C hX hbl ⟨by omega, by omega⟩ (fun _ _ h => h.2.2) dL_law_853 ?_
  refine lw_callV C (mk := rd_I) (kd := rd_kc) (N := 313) (w := s.heap.size) (I' := fun μ' => lw_I G s.heap.size s.heap μ' ν) (as := [rd_I (lw_x xs (i + 1)), rd_I (lw_x xs (i + 2)), rd_I (lw_x xs (i + 3))]) (c_X9_item (rl_RI hR)) hμ rm_L_123 ri_X9_item rs_X9_item rc_X9_item rz_X9 ⟨rp_X9_item, rfl, rfl, by decide, by decide⟩ rfl rd_kcl9 dL_law_854 rd_k0 (by decide) (fun _ => rfl) rfl rfl (Nat.le_of_ble_eq_true rfl) (fun _ _ h => h.1) (lw_I1 rfl) (fun v μ' h => by rcases h with ⟨_, e, _⟩ | ⟨_, e, _⟩ | ⟨_, e, _⟩ | ⟨_, e, _⟩ | ⟨_, e, _⟩ <;> exact ⟨_, e⟩) hcr (fun z1 μ1 hp1 hμ1 => ?_)
  refine rx_aload_n C dL_law_857 (z := some ((s.heap.size + 313 : Nat) : Int)) rfl ?_
  refine rx_aload_n C dL_law_858 (z := some (b : Int)) rfl ?_
  refine rx_iload_n C dL_law_859 (z := i) rfl ?_
  refine rx_iconst C dL_law_860 (n := 1) ⟨by decide, by decide⟩ ?_
  refine rx_iadd C dL_law_861 (z := i + 1) rfl ⟨by omega, by omega⟩ ?_
  refine lw_ald C hX hbl ⟨by omega, by omega⟩ (fun _ _ h => h.2.2) dL_law_862 ?_
  refine rx_aload_n C dL_law_863 (z := some (b : Int)) rfl ?_
  refine rx_iload_n C dL_law_864 (z := i) rfl ?_
  refine rx_iconst C dL_law_865 (n := 2) ⟨by decide, by decide⟩ ?_
  refine rx_iadd C dL_law_866 (z := i + 2) rfl ⟨by omega, by omega⟩ ?_
  refine lw_ald C hX hbl ⟨by omega, by omega⟩ (fun _ _ h => h.2.2) dL_law_867 ?_
  refine rx_aload_n C dL_law_868 (z := some (b : Int)) rfl ?_
  refine rx_iload_n C dL_law_869 (z := i) rfl ?_
  refine rx_iconst C dL_law_870 (n := 3) ⟨by decide, by decide⟩ ?_
  refine rx_iadd C dL_law_871 (z := i + 3) rfl ⟨by omega, by omega⟩ ?_
  refine lw_ald C hX hbl ⟨by omega, by omega⟩ (fun _ _ h => h.2.2) dL_law_872 ?_
  refine lw_callV C (mk := rd_I) (kd := rd_km) (N := 5) (w := s.heap.size + 313) (I' := fun ν' => lw_I G s.heap.size s.heap μ1 ν') (as := [rd_I (lw_x xs (i + 1)), rd_I (lw_x xs (i + 2)), rd_I (lw_x xs (i + 3))]) (c_X10_item (rl_i hR)) hν rm_L_126 ri_X10_item rs_X10_item rc_X10_item rz_X10 ⟨rp_X10_item, rfl, rfl, by decide, by decide⟩ rfl rd_kcl10 dL_law_873 rd_m0 (by decide) (fun _ => rfl) rfl rfl (Nat.le_of_ble_eq_true rfl) (fun _ _ h => h.2.1) (lw_I2 rfl) (fun v μ' h => by rcases h with ⟨_, e, _⟩ | ⟨_, e, _⟩ | ⟨_, e, _⟩ <;> exact ⟨_, e⟩) hcr (fun z2 ν1 hp2 hν1 => ?_)
  obtain ⟨hvv, hR2⟩ := ro_item hR hp1 hp2
  have hz : z2 = z1 := Sum.inl.inj (Option.some.inj hvv)
  exact rx_icmp_eq C dL_law_876 (tgt := 1147) (by decide) (fun _ => kk _ _ hR2 hμ1 hν1) (fun h => absurd hz.symm h)
set_option maxHeartbeats 1000000 in
theorem lw_o27 (D : lw_Cx p s m b meth c G L0 xs) (hcr : cs + 0 ≤ room_1.cells ∧ sl + 0 ≤ room_1.slots) (hR : rl_R μ ν) (hμ : rd_okM μ) (hν : rd_okM ν) (hi : 0 ≤ i ∧ i + 5 ≤ L0) (kk : ∀ μ' ν', rl_R μ' ν' → rd_okM μ' → rd_okM ν' → lw_K p l e s m below meth c Q G cs sl b i μ' ν' 1147 []) : lw_K p l e s m below meth c Q G cs sl b i μ ν 881 [] := by
  obtain ⟨C, hX, hbl, hL0⟩ := D
  refine rx_aload_n C dL_law_881 (z := some (s.heap.size : Int)) rfl ?_
  refine rx_aload_n C dL_law_882 (z := some (b : Int)) rfl ?_
  refine rx_iload_n C dL_law_883 (z := i) rfl ?_
  refine rx_iconst C dL_law_884 (n := 1) ⟨by decide, by decide⟩ ?_
  refine rx_iadd C dL_law_885 (z := i + 1) rfl ⟨by omega, by omega⟩ ?_
  refine lw_ald C hX hbl ⟨by omega, by omega⟩ (fun _ _ h => h.2.2) dL_law_886 ?_
  refine rx_aload_n C dL_law_887 (z := some (b : Int)) rfl ?_
  refine rx_iload_n C dL_law_888 (z := i) rfl ?_
  refine rx_iconst C dL_law_889 (n := 2) ⟨by decide, by decide⟩ ?_
  refine rx_iadd C dL_law_890 (z := i + 2) rfl ⟨by omega, by omega⟩ ?_
  refine lw_ald C hX hbl ⟨by omega, by omega⟩ (fun _ _ h => h.2.2) dL_law_891 ?_
  refine lw_callV C (mk := rd_I) (kd := rd_kc) (N := 313) (w := s.heap.size) (I' := fun μ' => lw_I G s.heap.size s.heap μ' ν) (as := [rd_I (lw_x xs (i + 1)), rd_I (lw_x xs (i + 2))]) (c_X9_target (rl_RI hR)) hμ rm_L_127 ri_X9_target rs_X9_target rc_X9_target rz_X9 ⟨rp_X9_target, rfl, rfl, by decide, by decide⟩ rfl rd_kcl9 dL_law_892 rd_k0 (by decide) (fun _ => rfl) rfl rfl (Nat.le_of_ble_eq_true rfl) (fun _ _ h => h.1) (lw_I1 rfl) (fun v μ' h => by rcases h with ⟨_, e, _⟩ | ⟨_, e, _⟩ | ⟨_, e, _⟩ <;> exact ⟨_, e⟩) hcr (fun z1 μ1 hp1 hμ1 => ?_)
  refine rx_aload_n C dL_law_895 (z := some ((s.heap.size + 313 : Nat) : Int)) rfl ?_
  refine rx_aload_n C dL_law_896 (z := some (b : Int)) rfl ?_
  refine rx_iload_n C dL_law_897 (z := i) rfl ?_
  refine rx_iconst C dL_law_898 (n := 1) ⟨by decide, by decide⟩ ?_
  refine rx_iadd C dL_law_899 (z := i + 1) rfl ⟨by omega, by omega⟩ ?_
  refine lw_ald C hX hbl ⟨by omega, by omega⟩ (fun _ _ h => h.2.2) dL_law_900 ?_
  refine rx_aload_n C dL_law_901 (z := some (b : Int)) rfl ?_
  refine rx_iload_n C dL_law_902 (z := i) rfl ?_
  refine rx_iconst C dL_law_903 (n := 2) ⟨by decide, by decide⟩ ?_
  refine rx_iadd C dL_law_904 (z := i + 2) rfl ⟨by omega, by omega⟩ ?_
  refine lw_ald C hX hbl ⟨by omega, by omega⟩ (fun _ _ h => h.2.2) dL_law_905 ?_
  refine lw_callV C (mk := rd_I) (kd := rd_km) (N := 5) (w := s.heap.size + 313) (I' := fun ν' => lw_I G s.heap.size s.heap μ1 ν') (as := [rd_I (lw_x xs (i + 1)), rd_I (lw_x xs (i + 2))]) (c_X10_target ) hν rm_L_130 ri_X10_target rs_X10_target rc_X10_target rz_X10 ⟨rp_X10_target, rfl, rfl, by decide, by decide⟩ rfl rd_kcl10 dL_law_906 rd_m0 (by decide) (fun _ => rfl) rfl rfl (Nat.le_of_ble_eq_true rfl) (fun _ _ h => h.2.1) (lw_I2 rfl) (fun v μ' h => by rcases h with ⟨_, e, _⟩ | ⟨_, e, _⟩ | ⟨_, e, _⟩ <;> exact ⟨_, e⟩) hcr (fun z2 ν1 hp2 hν1 => ?_)
  obtain ⟨hvv, hR2⟩ := ro_target hR hp1 hp2
  have hz : z2 = z1 := Sum.inl.inj (Option.some.inj hvv)
  exact rx_icmp_eq C dL_law_909 (tgt := 1147) (by decide) (fun _ => kk _ _ hR2 hμ1 hν1) (fun h => absurd hz.symm h)
set_option maxHeartbeats 1000000 in
theorem lw_o28 (D : lw_Cx p s m b meth c G L0 xs) (hcr : cs + 0 ≤ room_1.cells ∧ sl + 0 ≤ room_1.slots) (hR : rl_R μ ν) (hμ : rd_okM μ) (hν : rd_okM ν) (hi : 0 ≤ i ∧ i + 5 ≤ L0) (kk : ∀ μ' ν', rl_R μ' ν' → rd_okM μ' → rd_okM ν' → lw_K p l e s m below meth c Q G cs sl b i μ' ν' 1147 []) : lw_K p l e s m below meth c Q G cs sl b i μ ν 914 [] := by
  obtain ⟨C, hX, hbl, hL0⟩ := D
  refine rx_aload_n C dL_law_914 (z := some (s.heap.size : Int)) rfl ?_
  refine rx_aload_n C dL_law_915 (z := some (b : Int)) rfl ?_
  refine rx_iload_n C dL_law_916 (z := i) rfl ?_
  refine rx_iconst C dL_law_917 (n := 1) ⟨by decide, by decide⟩ ?_
  refine rx_iadd C dL_law_918 (z := i + 1) rfl ⟨by omega, by omega⟩ ?_
  refine lw_ald C hX hbl ⟨by omega, by omega⟩ (fun _ _ h => h.2.2) dL_law_919 ?_
  refine rx_aload_n C dL_law_920 (z := some (b : Int)) rfl ?_
  refine rx_iload_n C dL_law_921 (z := i) rfl ?_
  refine rx_iconst C dL_law_922 (n := 2) ⟨by decide, by decide⟩ ?_
  refine rx_iadd C dL_law_923 (z := i + 2) rfl ⟨by omega, by omega⟩ ?_
  refine lw_ald C hX hbl ⟨by omega, by omega⟩ (fun _ _ h => h.2.2) dL_law_924 ?_
  refine lw_callV C (mk := rd_I) (kd := rd_kc) (N := 313) (w := s.heap.size) (I' := fun μ' => lw_I G s.heap.size s.heap μ' ν) (as := [rd_I (lw_x xs (i + 1)), rd_I (lw_x xs (i + 2))]) (c_X9_picture (rl_RI hR)) hμ rm_L_131 ri_X9_picture rs_X9_picture rc_X9_picture rz_X9 ⟨rp_X9_picture, rfl, rfl, by decide, by decide⟩ rfl rd_kcl9 dL_law_925 rd_k0 (by decide) (fun _ => rfl) rfl rfl (Nat.le_of_ble_eq_true rfl) (fun _ _ h => h.1) (lw_I1 rfl) (fun v μ' h => by rcases h with ⟨_, e, _⟩ | ⟨_, e, _⟩ | ⟨_, e, _⟩ <;> exact ⟨_, e⟩) hcr (fun z1 μ1 hp1 hμ1 => ?_)
  refine rx_aload_n C dL_law_928 (z := some ((s.heap.size + 313 : Nat) : Int)) rfl ?_
  refine rx_aload_n C dL_law_929 (z := some (b : Int)) rfl ?_
  refine rx_iload_n C dL_law_930 (z := i) rfl ?_
  refine rx_iconst C dL_law_931 (n := 1) ⟨by decide, by decide⟩ ?_
  refine rx_iadd C dL_law_932 (z := i + 1) rfl ⟨by omega, by omega⟩ ?_
  refine lw_ald C hX hbl ⟨by omega, by omega⟩ (fun _ _ h => h.2.2) dL_law_933 ?_
  refine rx_aload_n C dL_law_934 (z := some (b : Int)) rfl ?_
  refine rx_iload_n C dL_law_935 (z := i) rfl ?_
  refine rx_iconst C dL_law_936 (n := 2) ⟨by decide, by decide⟩ ?_
  refine rx_iadd C dL_law_937 (z := i + 2) rfl ⟨by omega, by omega⟩ ?_
  refine lw_ald C hX hbl ⟨by omega, by omega⟩ (fun _ _ h => h.2.2) dL_law_938 ?_
  refine lw_callV C (mk := rd_I) (kd := rd_km) (N := 5) (w := s.heap.size + 313) (I' := fun ν' => lw_I G s.heap.size s.heap μ1 ν') (as := [rd_I (lw_x xs (i + 1)), rd_I (lw_x xs (i + 2))]) (c_X10_picture (rl_i hR)) hν rm_L_134 ri_X10_picture rs_X10_picture rc_X10_picture rz_X10 ⟨rp_X10_picture, rfl, rfl, by decide, by decide⟩ rfl rd_kcl10 dL_law_939 rd_m0 (by decide) (fun _ => rfl) rfl rfl (Nat.le_of_ble_eq_true rfl) (fun _ _ h => h.2.1) (lw_I2 rfl) (fun v μ' h => by rcases h with ⟨_, e, _⟩ | ⟨_, e, _⟩ | ⟨_, e, _⟩ <;> exact ⟨_, e⟩) hcr (fun z2 ν1 hp2 hν1 => ?_)
  obtain ⟨hvv, hR2⟩ := ro_picture hR hp1 hp2
  have hz : z2 = z1 := Sum.inl.inj (Option.some.inj hvv)
  exact rx_icmp_eq C dL_law_942 (tgt := 1147) (by decide) (fun _ => kk _ _ hR2 hμ1 hν1) (fun h => absurd hz.symm h)
set_option maxHeartbeats 1000000 in
theorem lw_o29 (D : lw_Cx p s m b meth c G L0 xs) (hcr : cs + 0 ≤ room_1.cells ∧ sl + 0 ≤ room_1.slots) (hR : rl_R μ ν) (hμ : rd_okM μ) (hν : rd_okM ν) (hi : 0 ≤ i ∧ i + 5 ≤ L0) (kk : ∀ μ' ν', rl_R μ' ν' → rd_okM μ' → rd_okM ν' → lw_K p l e s m below meth c Q G cs sl b i μ' ν' 1147 []) : lw_K p l e s m below meth c Q G cs sl b i μ ν 947 [] := by
  obtain ⟨C, hX, hbl, hL0⟩ := D
  refine rx_aload_n C dL_law_947 (z := some (s.heap.size : Int)) rfl ?_
  refine rx_aload_n C dL_law_948 (z := some (b : Int)) rfl ?_
  refine rx_iload_n C dL_law_949 (z := i) rfl ?_
  refine rx_iconst C dL_law_950 (n := 1) ⟨by decide, by decide⟩ ?_
  refine rx_iadd C dL_law_951 (z := i + 1) rfl ⟨by omega, by omega⟩ ?_
  refine lw_ald C hX hbl ⟨by omega, by omega⟩ (fun _ _ h => h.2.2) dL_law_952 ?_
  refine lw_callV C (mk := rd_I) (kd := rd_kc) (N := 313) (w := s.heap.size) (I' := fun μ' => lw_I G s.heap.size s.heap μ' ν) (as := [rd_I (lw_x xs (i + 1))]) (c_X9_now (rl_RI hR)) hμ rm_L_135 ri_X9_now rs_X9_now rc_X9_now rz_X9 ⟨rp_X9_now, rfl, rfl, by decide, by decide⟩ rfl rd_kcl9 dL_law_953 rd_k0 (by decide) (fun _ => rfl) rfl rfl (Nat.le_of_ble_eq_true rfl) (fun _ _ h => h.1) (lw_I1 rfl) (fun v μ' h => by rcases h with ⟨_, e, _⟩ | ⟨_, e, _⟩ | ⟨_, e, _⟩ | ⟨_, e, _⟩ | ⟨_, e, _⟩ | ⟨_, e, _⟩ | ⟨_, e, _⟩ | ⟨_, e, _⟩ | ⟨_, e, _⟩ | ⟨_, e, _⟩ <;> exact ⟨_, e⟩) hcr (fun z1 μ1 hp1 hμ1 => ?_)
  refine rx_aload_n C dL_law_956 (z := some ((s.heap.size + 313 : Nat) : Int)) rfl ?_
  refine rx_aload_n C dL_law_957 (z := some (b : Int)) rfl ?_
  refine rx_iload_n C dL_law_958 (z := i) rfl ?_
  refine rx_iconst C dL_law_959 (n := 1) ⟨by decide, by decide⟩ ?_
  refine rx_iadd C dL_law_960 (z := i + 1) rfl ⟨by omega, by omega⟩ ?_
  refine lw_ald C hX hbl ⟨by omega, by omega⟩ (fun _ _ h => h.2.2) dL_law_961 ?_
  refine lw_callV C (mk := rd_I) (kd := rd_km) (N := 5) (w := s.heap.size + 313) (I' := fun ν' => lw_I G s.heap.size s.heap μ1 ν') (as := [rd_I (lw_x xs (i + 1))]) (c_X10_now ) hν rm_L_138 ri_X10_now rs_X10_now rc_X10_now rz_X10 ⟨rp_X10_now, rfl, rfl, by decide, by decide⟩ rfl rd_kcl10 dL_law_962 rd_m0 (by decide) (fun _ => rfl) rfl rfl (Nat.le_of_ble_eq_true rfl) (fun _ _ h => h.2.1) (lw_I2 rfl) (fun v μ' h => by rcases h with ⟨_, e, _⟩ | ⟨_, e, _⟩ | ⟨_, e, _⟩ | ⟨_, e, _⟩ | ⟨_, e, _⟩ | ⟨_, e, _⟩ | ⟨_, e, _⟩ <;> exact ⟨_, e⟩) hcr (fun z2 ν1 hp2 hν1 => ?_)
  obtain ⟨hvv, hR2⟩ := ro_now hR hp1 hp2
  have hz : z2 = z1 := Sum.inl.inj (Option.some.inj hvv)
  exact rx_icmp_eq C dL_law_965 (tgt := 1147) (by decide) (fun _ => kk _ _ hR2 hμ1 hν1) (fun h => absurd hz.symm h)
set_option maxHeartbeats 1000000 in
theorem lw_o30 (D : lw_Cx p s m b meth c G L0 xs) (hcr : cs + 0 ≤ room_1.cells ∧ sl + 0 ≤ room_1.slots) (hR : rl_R μ ν) (hμ : rd_okM μ) (hν : rd_okM ν) (hi : 0 ≤ i ∧ i + 5 ≤ L0) (kk : ∀ μ' ν', rl_R μ' ν' → rd_okM μ' → rd_okM ν' → lw_K p l e s m below meth c Q G cs sl b i μ' ν' 1147 []) : lw_K p l e s m below meth c Q G cs sl b i μ ν 970 [] := by
  obtain ⟨C, hX, hbl, hL0⟩ := D
  refine rx_aload_n C dL_law_970 (z := some (s.heap.size : Int)) rfl ?_
  refine rx_aload_n C dL_law_971 (z := some (b : Int)) rfl ?_
  refine rx_iload_n C dL_law_972 (z := i) rfl ?_
  refine rx_iconst C dL_law_973 (n := 1) ⟨by decide, by decide⟩ ?_
  refine rx_iadd C dL_law_974 (z := i + 1) rfl ⟨by omega, by omega⟩ ?_
  refine lw_ald C hX hbl ⟨by omega, by omega⟩ (fun _ _ h => h.2.2) dL_law_975 ?_
  refine rx_aload_n C dL_law_976 (z := some (b : Int)) rfl ?_
  refine rx_iload_n C dL_law_977 (z := i) rfl ?_
  refine rx_iconst C dL_law_978 (n := 2) ⟨by decide, by decide⟩ ?_
  refine rx_iadd C dL_law_979 (z := i + 2) rfl ⟨by omega, by omega⟩ ?_
  refine lw_ald C hX hbl ⟨by omega, by omega⟩ (fun _ _ h => h.2.2) dL_law_980 ?_
  refine lw_callV C (mk := rd_I) (kd := rd_kc) (N := 313) (w := s.heap.size) (I' := fun μ' => lw_I G s.heap.size s.heap μ' ν) (as := [rd_I (lw_x xs (i + 1)), rd_I (lw_x xs (i + 2))]) (c_X9_trail (rl_RI hR)) hμ rm_L_139 ri_X9_trail rs_X9_trail rc_X9_trail rz_X9 ⟨rp_X9_trail, rfl, rfl, by decide, by decide⟩ rfl rd_kcl9 dL_law_981 rd_k0 (by decide) (fun _ => rfl) rfl rfl (Nat.le_of_ble_eq_true rfl) (fun _ _ h => h.1) (lw_I1 rfl) (fun v μ' h => by rcases h with ⟨_, e, _⟩ | ⟨_, e, _⟩ | ⟨_, e, _⟩ <;> exact ⟨_, e⟩) hcr (fun z1 μ1 hp1 hμ1 => ?_)
  refine rx_aload_n C dL_law_984 (z := some ((s.heap.size + 313 : Nat) : Int)) rfl ?_
  refine rx_aload_n C dL_law_985 (z := some (b : Int)) rfl ?_
  refine rx_iload_n C dL_law_986 (z := i) rfl ?_
  refine rx_iconst C dL_law_987 (n := 1) ⟨by decide, by decide⟩ ?_
  refine rx_iadd C dL_law_988 (z := i + 1) rfl ⟨by omega, by omega⟩ ?_
  refine lw_ald C hX hbl ⟨by omega, by omega⟩ (fun _ _ h => h.2.2) dL_law_989 ?_
  refine rx_aload_n C dL_law_990 (z := some (b : Int)) rfl ?_
  refine rx_iload_n C dL_law_991 (z := i) rfl ?_
  refine rx_iconst C dL_law_992 (n := 2) ⟨by decide, by decide⟩ ?_
  refine rx_iadd C dL_law_993 (z := i + 2) rfl ⟨by omega, by omega⟩ ?_
  refine lw_ald C hX hbl ⟨by omega, by omega⟩ (fun _ _ h => h.2.2) dL_law_994 ?_
  refine lw_callV C (mk := rd_I) (kd := rd_km) (N := 5) (w := s.heap.size + 313) (I' := fun ν' => lw_I G s.heap.size s.heap μ1 ν') (as := [rd_I (lw_x xs (i + 1)), rd_I (lw_x xs (i + 2))]) (c_X10_trail (rl_i hR)) hν rm_L_142 ri_X10_trail rs_X10_trail rc_X10_trail rz_X10 ⟨rp_X10_trail, rfl, rfl, by decide, by decide⟩ rfl rd_kcl10 dL_law_995 rd_m0 (by decide) (fun _ => rfl) rfl rfl (Nat.le_of_ble_eq_true rfl) (fun _ _ h => h.2.1) (lw_I2 rfl) (fun v μ' h => by rcases h with ⟨_, e, _⟩ | ⟨_, e, _⟩ | ⟨_, e, _⟩ <;> exact ⟨_, e⟩) hcr (fun z2 ν1 hp2 hν1 => ?_)
  obtain ⟨hvv, hR2⟩ := ro_trail hR hp1 hp2
  have hz : z2 = z1 := Sum.inl.inj (Option.some.inj hvv)
  exact rx_icmp_eq C dL_law_998 (tgt := 1147) (by decide) (fun _ => kk _ _ hR2 hμ1 hν1) (fun h => absurd hz.symm h)
set_option maxHeartbeats 1000000 in
theorem lw_o31 (D : lw_Cx p s m b meth c G L0 xs) (hcr : cs + 0 ≤ room_1.cells ∧ sl + 0 ≤ room_1.slots) (hR : rl_R μ ν) (hμ : rd_okM μ) (hν : rd_okM ν) (hi : 0 ≤ i ∧ i + 5 ≤ L0) (kk : ∀ μ' ν', rl_R μ' ν' → rd_okM μ' → rd_okM ν' → lw_K p l e s m below meth c Q G cs sl b i μ' ν' 1147 []) : lw_K p l e s m below meth c Q G cs sl b i μ ν 1003 [] := by
  obtain ⟨C, hX, hbl, hL0⟩ := D
  by_cases h29 : ν 1 29 = 0
  · refine rx_aload_n C dL_law_1003 (z := some (s.heap.size : Int)) rfl ?_
    refine lw_callV C (mk := rd_I) (kd := rd_kc) (N := 313) (w := s.heap.size) (I' := fun μ' => lw_I G s.heap.size s.heap μ' ν) (as := []) (c_X9_labels (rl_RI hR)) hμ rm_L_143 ri_X9_labels rs_X9_labels rc_X9_labels rz_X9 ⟨rp_X9_labels, rfl, rfl, by decide, by decide⟩ rfl rd_kcl9 dL_law_1004 rd_k0 (by decide) (fun _ => rfl) rfl rfl (Nat.le_of_ble_eq_true rfl) (fun _ _ h => h.1) (lw_I1 rfl) (fun v μ' h => by rcases h with ⟨_, e, _⟩ | ⟨_, e, _⟩ <;> exact ⟨_, e⟩) hcr (fun z1 μ1 hp1 hμ1 => ?_)
    refine rx_aload_n C dL_law_1007 (z := some ((s.heap.size + 313 : Nat) : Int)) rfl ?_
    refine lw_callV C (mk := rd_I) (kd := rd_km) (N := 5) (w := s.heap.size + 313) (I' := fun ν' => lw_I G s.heap.size s.heap μ1 ν') (as := []) (c_X10_labels_n h29) hν rm_L_146 ri_X10_labels rs_X10_labels rc_X10_labels rz_X10 ⟨rp_X10_labels, rfl, rfl, by decide, by decide⟩ rfl rd_kcl10 dL_law_1008 rd_m0 (by decide) (fun _ => rfl) rfl rfl (Nat.le_of_ble_eq_true rfl) (fun _ _ h => h.2.1) (lw_I2 rfl) (fun v μ' h => by rcases h with ⟨_, e, _⟩ | ⟨_, e, _⟩ <;> exact ⟨_, e⟩) hcr (fun z2 ν1 hp2 hν1 => ?_)
    obtain ⟨hvv, hR2⟩ := ro_labels hR hp1 hp2
    have hz : z2 = z1 := Sum.inl.inj (Option.some.inj hvv)
    exact rx_icmp_eq C dL_law_1011 (tgt := 1147) (by decide) (fun _ => kk _ _ hR2 hμ1 hν1) (fun h => absurd hz.symm h)
  · refine rx_aload_n C dL_law_1003 (z := some (s.heap.size : Int)) rfl ?_
    refine lw_callV C (mk := rd_I) (kd := rd_kc) (N := 313) (w := s.heap.size) (I' := fun μ' => lw_I G s.heap.size s.heap μ' ν) (as := []) (c_X9_labels (rl_RI hR)) hμ rm_L_143 ri_X9_labels rs_X9_labels rc_X9_labels rz_X9 ⟨rp_X9_labels, rfl, rfl, by decide, by decide⟩ rfl rd_kcl9 dL_law_1004 rd_k0 (by decide) (fun _ => rfl) rfl rfl (Nat.le_of_ble_eq_true rfl) (fun _ _ h => h.1) (lw_I1 rfl) (fun v μ' h => by rcases h with ⟨_, e, _⟩ | ⟨_, e, _⟩ <;> exact ⟨_, e⟩) hcr (fun z1 μ1 hp1 hμ1 => ?_)
    refine rx_aload_n C dL_law_1007 (z := some ((s.heap.size + 313 : Nat) : Int)) rfl ?_
    refine lw_callV C (mk := rd_I) (kd := rd_km) (N := 5) (w := s.heap.size + 313) (I' := fun ν' => lw_I G s.heap.size s.heap μ1 ν') (as := []) (c_X10_labels (rl_i hR) (rl_29 hR) (rl_lt hR h29)) hν rm_L_146 ri_X10_labels rs_X10_labels rc_X10_labels rz_X10 ⟨rp_X10_labels, rfl, rfl, by decide, by decide⟩ rfl rd_kcl10 dL_law_1008 rd_m0 (by decide) (fun _ => rfl) rfl rfl (Nat.le_of_ble_eq_true rfl) (fun _ _ h => h.2.1) (lw_I2 rfl) (fun v μ' h => by rcases h with ⟨_, e, _⟩ | ⟨_, e, _⟩ <;> exact ⟨_, e⟩) hcr (fun z2 ν1 hp2 hν1 => ?_)
    obtain ⟨hvv, hR2⟩ := ro_labels hR hp1 hp2
    have hz : z2 = z1 := Sum.inl.inj (Option.some.inj hvv)
    exact rx_icmp_eq C dL_law_1011 (tgt := 1147) (by decide) (fun _ => kk _ _ hR2 hμ1 hν1) (fun h => absurd hz.symm h)
set_option maxHeartbeats 1000000 in
theorem lw_o32 (D : lw_Cx p s m b meth c G L0 xs) (hcr : cs + 0 ≤ room_1.cells ∧ sl + 0 ≤ room_1.slots) (hR : rl_R μ ν) (hμ : rd_okM μ) (hν : rd_okM ν) (hi : 0 ≤ i ∧ i + 5 ≤ L0) (kk : ∀ μ' ν', rl_R μ' ν' → rd_okM μ' → rd_okM ν' → lw_K p l e s m below meth c Q G cs sl b i μ' ν' 1147 []) : lw_K p l e s m below meth c Q G cs sl b i μ ν 1016 [] := by
  obtain ⟨C, hX, hbl, hL0⟩ := D
  refine rx_aload_n C dL_law_1016 (z := some (s.heap.size : Int)) rfl ?_
  refine lw_callV C (mk := rd_I) (kd := rd_kc) (N := 313) (w := s.heap.size) (I' := fun μ' => lw_I G s.heap.size s.heap μ' ν) (as := []) (c_X9_noteNow (rl_RI hR)) hμ rm_L_147 ri_X9_noteNow rs_X9_noteNow rc_X9_noteNow rz_X9 ⟨rp_X9_noteNow, rfl, rfl, by decide, by decide⟩ rfl rd_kcl9 dL_law_1017 rd_k0 (by decide) (fun _ => rfl) rfl rfl (Nat.le_of_ble_eq_true rfl) (fun _ _ h => h.1) (lw_I1 rfl) (fun v μ' h => by rcases h with ⟨_, e, _⟩ | ⟨_, e, _⟩ <;> exact ⟨_, e⟩) hcr (fun z1 μ1 hp1 hμ1 => ?_)
  refine rx_aload_n C dL_law_1020 (z := some ((s.heap.size + 313 : Nat) : Int)) rfl ?_
  refine lw_callV C (mk := rd_I) (kd := rd_km) (N := 5) (w := s.heap.size + 313) (I' := fun ν' => lw_I G s.heap.size s.heap μ1 ν') (as := []) (c_X10_noteNow (rl_i hR).1.2.2.2) hν rm_L_150 ri_X10_noteNow rs_X10_noteNow rc_X10_noteNow rz_X10 ⟨rp_X10_noteNow, rfl, rfl, by decide, by decide⟩ rfl rd_kcl10 dL_law_1021 rd_m0 (by decide) (fun _ => rfl) rfl rfl (Nat.le_of_ble_eq_true rfl) (fun _ _ h => h.2.1) (lw_I2 rfl) (fun v μ' h => by rcases h with ⟨_, e, _⟩ | ⟨_, e, _⟩ <;> exact ⟨_, e⟩) hcr (fun z2 ν1 hp2 hν1 => ?_)
  obtain ⟨hvv, hR2⟩ := ro_noteNow hR hp1 hp2
  have hz : z2 = z1 := Sum.inl.inj (Option.some.inj hvv)
  exact rx_icmp_eq C dL_law_1024 (tgt := 1147) (by decide) (fun _ => kk _ _ hR2 hμ1 hν1) (fun h => absurd hz.symm h)
set_option maxHeartbeats 1000000 in
theorem lw_o33 (D : lw_Cx p s m b meth c G L0 xs) (hcr : cs + 0 ≤ room_1.cells ∧ sl + 0 ≤ room_1.slots) (hR : rl_R μ ν) (hμ : rd_okM μ) (hν : rd_okM ν) (hi : 0 ≤ i ∧ i + 5 ≤ L0) (kk : ∀ μ' ν', rl_R μ' ν' → rd_okM μ' → rd_okM ν' → lw_K p l e s m below meth c Q G cs sl b i μ' ν' 1147 []) : lw_K p l e s m below meth c Q G cs sl b i μ ν 1029 [] := by
  obtain ⟨C, hX, hbl, hL0⟩ := D
  refine rx_aload_n C dL_law_1029 (z := some (s.heap.size : Int)) rfl ?_
  refine lw_callV C (mk := rd_I) (kd := rd_kc) (N := 313) (w := s.heap.size) (I' := fun μ' => lw_I G s.heap.size s.heap μ' ν) (as := []) (c_X9_end (rl_RI hR)) hμ rm_L_151 ri_X9_end rs_X9_end rc_X9_end rz_X9 ⟨rp_X9_end, rfl, rfl, by decide, by decide⟩ rfl rd_kcl9 dL_law_1030 rd_k0 (by decide) (fun _ => rfl) rfl rfl (Nat.le_of_ble_eq_true rfl) (fun _ _ h => h.1) (lw_I1 rfl) (fun v μ' h => by rcases h with ⟨_, e, _⟩; exact ⟨_, e⟩) hcr (fun z1 μ1 hp1 hμ1 => ?_)
  refine rx_aload_n C dL_law_1033 (z := some ((s.heap.size + 313 : Nat) : Int)) rfl ?_
  refine lw_callV C (mk := rd_I) (kd := rd_km) (N := 5) (w := s.heap.size + 313) (I' := fun ν' => lw_I G s.heap.size s.heap μ1 ν') (as := []) (c_X10_end ) hν rm_L_154 ri_X10_end rs_X10_end rc_X10_end rz_X10 ⟨rp_X10_end, rfl, rfl, by decide, by decide⟩ rfl rd_kcl10 dL_law_1034 rd_m0 (by decide) (fun _ => rfl) rfl rfl (Nat.le_of_ble_eq_true rfl) (fun _ _ h => h.2.1) (lw_I2 rfl) (fun v μ' h => by rcases h with ⟨_, e, _⟩; exact ⟨_, e⟩) hcr (fun z2 ν1 hp2 hν1 => ?_)
  obtain ⟨hvv, hR2⟩ := ro_end hR hp1 hp2
  have hz : z2 = z1 := Sum.inl.inj (Option.some.inj hvv)
  exact rx_icmp_eq C dL_law_1037 (tgt := 1147) (by decide) (fun _ => kk _ _ hR2 hμ1 hν1) (fun h => absurd hz.symm h)
set_option maxHeartbeats 1000000 in
theorem lw_o35 (D : lw_Cx p s m b meth c G L0 xs) (hcr : cs + 0 ≤ room_1.cells ∧ sl + 0 ≤ room_1.slots) (hR : rl_R μ ν) (hμ : rd_okM μ) (hν : rd_okM ν) (hi : 0 ≤ i ∧ i + 5 ≤ L0) (kk : ∀ μ' ν', rl_R μ' ν' → rd_okM μ' → rd_okM ν' → lw_K p l e s m below meth c Q G cs sl b i μ' ν' 1147 []) : lw_K p l e s m below meth c Q G cs sl b i μ ν 1085 [] := by
  obtain ⟨C, hX, hbl, hL0⟩ := D
  refine rx_aload_n C dL_law_1085 (z := some (s.heap.size : Int)) rfl ?_
  refine lw_callV C (mk := rd_I) (kd := rd_kc) (N := 313) (w := s.heap.size) (I' := fun μ' => lw_I G s.heap.size s.heap μ' ν) (as := []) (c_X9_movesLeft (rl_RI hR)) hμ rm_L_160 ri_X9_movesLeft rs_X9_movesLeft rc_X9_movesLeft rz_X9 ⟨rp_X9_movesLeft, rfl, rfl, by decide, by decide⟩ rfl rd_kcl9 dL_law_1086 rd_k0 (by decide) (fun _ => rfl) rfl rfl (Nat.le_of_ble_eq_true rfl) (fun _ _ h => h.1) (lw_I1 rfl) (fun v μ' h => by rcases h with ⟨_, e, _⟩ | ⟨_, e, _⟩ <;> exact ⟨_, e⟩) hcr (fun z1 μ1 hp1 hμ1 => ?_)
  refine rx_aload_n C dL_law_1089 (z := some ((s.heap.size + 313 : Nat) : Int)) rfl ?_
  refine lw_callV C (mk := rd_I) (kd := rd_km) (N := 5) (w := s.heap.size + 313) (I' := fun ν' => lw_I G s.heap.size s.heap μ1 ν') (as := []) (c_X10_movesLeft (rl_i hR) (rl_29 hR)) hν rm_L_163 ri_X10_movesLeft rs_X10_movesLeft rc_X10_movesLeft rz_X10 ⟨rp_X10_movesLeft, rfl, rfl, by decide, by decide⟩ rfl rd_kcl10 dL_law_1090 rd_m0 (by decide) (fun _ => rfl) rfl rfl (Nat.le_of_ble_eq_true rfl) (fun _ _ h => h.2.1) (lw_I2 rfl) (fun v μ' h => by rcases h with ⟨_, e, _⟩ | ⟨_, e, _⟩ <;> exact ⟨_, e⟩) hcr (fun z2 ν1 hp2 hν1 => ?_)
  obtain ⟨hvv, hR2⟩ := ro_movesLeft hR hp1 hp2
  have hz : z2 = z1 := Sum.inl.inj (Option.some.inj hvv)
  exact rx_icmp_eq C dL_law_1093 (tgt := 1147) (by decide) (fun _ => kk _ _ hR2 hμ1 hν1) (fun h => absurd hz.symm h)
set_option maxHeartbeats 1000000 in
theorem lw_o36 (D : lw_Cx p s m b meth c G L0 xs) (hcr : cs + 0 ≤ room_1.cells ∧ sl + 0 ≤ room_1.slots) (hR : rl_R μ ν) (hμ : rd_okM μ) (hν : rd_okM ν) (hi : 0 ≤ i ∧ i + 5 ≤ L0) (kk : ∀ μ' ν', rl_R μ' ν' → rd_okM μ' → rd_okM ν' → lw_K p l e s m below meth c Q G cs sl b i μ' ν' 1147 []) : lw_K p l e s m below meth c Q G cs sl b i μ ν 1098 [] := by
  obtain ⟨C, hX, hbl, hL0⟩ := D
  by_cases hh : sp_th μ (μ 58 0)
  · refine rx_aload_n C dL_law_1098 (z := some (s.heap.size : Int)) rfl ?_
    refine rx_aload_n C dL_law_1099 (z := some (b : Int)) rfl ?_
    refine rx_iload_n C dL_law_1100 (z := i) rfl ?_
    refine rx_iconst C dL_law_1101 (n := 1) ⟨by decide, by decide⟩ ?_
    refine rx_iadd C dL_law_1102 (z := i + 1) rfl ⟨by omega, by omega⟩ ?_
    refine lw_ald C hX hbl ⟨by omega, by omega⟩ (fun _ _ h => h.2.2) dL_law_1103 ?_
    refine lw_callV C (mk := rd_I) (kd := rd_kc) (N := 313) (w := s.heap.size) (I' := fun μ' => lw_I G s.heap.size s.heap μ' ν) (as := [rd_I (lw_x xs (i + 1))]) (c_X9_fewest (rl_RI hR) (rl_sF hR) hh) hμ rm_L_164 ri_X9_fewest rs_X9_fewest rc_X9_fewest rz_X9 ⟨rp_X9_fewest, rfl, rfl, by decide, by decide⟩ rfl rd_kcl9 dL_law_1104 rd_k0 (by decide) (fun _ => rfl) rfl rfl (Nat.le_of_ble_eq_true rfl) (fun _ _ h => h.1) (lw_I1 rfl) (fun v μ' h => by rcases h with ⟨_, e, _⟩ | ⟨_, _, e, _⟩ <;> exact ⟨_, e⟩) hcr (fun z1 μ1 hp1 hμ1 => ?_)
    refine rx_aload_n C dL_law_1107 (z := some ((s.heap.size + 313 : Nat) : Int)) rfl ?_
    refine rx_aload_n C dL_law_1108 (z := some (b : Int)) rfl ?_
    refine rx_iload_n C dL_law_1109 (z := i) rfl ?_
    refine rx_iconst C dL_law_1110 (n := 1) ⟨by decide, by decide⟩ ?_
    refine rx_iadd C dL_law_1111 (z := i + 1) rfl ⟨by omega, by omega⟩ ?_
    refine lw_ald C hX hbl ⟨by omega, by omega⟩ (fun _ _ h => h.2.2) dL_law_1112 ?_
    refine lw_callV C (mk := rd_I) (kd := rd_km) (N := 5) (w := s.heap.size + 313) (I' := fun ν' => lw_I G s.heap.size s.heap μ1 ν') (as := [rd_I (lw_x xs (i + 1))]) (c_X10_fewest (rl_J hR.1) (rl_29 hR) (rl_31 hR)) hν rm_L_167 ri_X10_fewest rs_X10_fewest rc_X10_fewest rz_X10 ⟨rp_X10_fewest, rfl, rfl, by decide, by decide⟩ rfl rd_kcl10 dL_law_1113 rd_m0 (by decide) (fun _ => rfl) rfl rfl (Nat.le_of_ble_eq_true rfl) (fun _ _ h => h.2.1) (lw_I2 rfl) (fun v μ' h => by rcases h with ⟨_, e, _⟩ | ⟨_, _, e, _⟩ | ⟨_, _, _, e, _⟩ <;> exact ⟨_, e⟩) hcr (fun z2 ν1 hp2 hν1 => ?_)
    obtain ⟨hvv, hR2⟩ := ro_fewest hR hh hp1 hp2
    have hz : z2 = z1 := Sum.inl.inj (Option.some.inj hvv)
    exact rx_icmp_eq C dL_law_1116 (tgt := 1147) (by decide) (fun _ => kk _ _ hR2 hμ1 hν1) (fun h => absurd hz.symm h)
  · refine rx_aload_n C dL_law_1098 (z := some (s.heap.size : Int)) rfl ?_
    refine rx_aload_n C dL_law_1099 (z := some (b : Int)) rfl ?_
    refine rx_iload_n C dL_law_1100 (z := i) rfl ?_
    refine rx_iconst C dL_law_1101 (n := 1) ⟨by decide, by decide⟩ ?_
    refine rx_iadd C dL_law_1102 (z := i + 1) rfl ⟨by omega, by omega⟩ ?_
    refine lw_ald C hX hbl ⟨by omega, by omega⟩ (fun _ _ h => h.2.2) dL_law_1103 ?_
    refine lw_callV C (mk := rd_I) (kd := rd_kc) (N := 313) (w := s.heap.size) (I' := fun μ' => lw_I G s.heap.size s.heap μ' ν) (as := [rd_I (lw_x xs (i + 1))]) (c_X9_fewest_n (rl_RI hR) (rl_sF hR) hh) hμ rm_L_164 ri_X9_fewest rs_X9_fewest rc_X9_fewest rz_X9 ⟨rp_X9_fewest, rfl, rfl, by decide, by decide⟩ rfl rd_kcl9 dL_law_1104 rd_k0 (by decide) (fun _ => rfl) rfl rfl (Nat.le_of_ble_eq_true rfl) (fun _ _ h => h.1) (lw_I1 rfl) (fun v μ' h => by rcases h with ⟨_, e, _⟩ | ⟨_, e, _⟩ <;> exact ⟨_, e⟩) hcr (fun z1 μ1 hp1 hμ1 => ?_)
    refine rx_aload_n C dL_law_1107 (z := some ((s.heap.size + 313 : Nat) : Int)) rfl ?_
    refine rx_aload_n C dL_law_1108 (z := some (b : Int)) rfl ?_
    refine rx_iload_n C dL_law_1109 (z := i) rfl ?_
    refine rx_iconst C dL_law_1110 (n := 1) ⟨by decide, by decide⟩ ?_
    refine rx_iadd C dL_law_1111 (z := i + 1) rfl ⟨by omega, by omega⟩ ?_
    refine lw_ald C hX hbl ⟨by omega, by omega⟩ (fun _ _ h => h.2.2) dL_law_1112 ?_
    refine lw_callV C (mk := rd_I) (kd := rd_km) (N := 5) (w := s.heap.size + 313) (I' := fun ν' => lw_I G s.heap.size s.heap μ1 ν') (as := [rd_I (lw_x xs (i + 1))]) (c_X10_fewest (rl_J hR.1) (rl_29 hR) (rl_31 hR)) hν rm_L_167 ri_X10_fewest rs_X10_fewest rc_X10_fewest rz_X10 ⟨rp_X10_fewest, rfl, rfl, by decide, by decide⟩ rfl rd_kcl10 dL_law_1113 rd_m0 (by decide) (fun _ => rfl) rfl rfl (Nat.le_of_ble_eq_true rfl) (fun _ _ h => h.2.1) (lw_I2 rfl) (fun v μ' h => by rcases h with ⟨_, e, _⟩ | ⟨_, _, e, _⟩ | ⟨_, _, _, e, _⟩ <;> exact ⟨_, e⟩) hcr (fun z2 ν1 hp2 hν1 => ?_)
    obtain ⟨hvv, hR2⟩ := ro_fewest_n hR hh hp1 hp2
    have hz : z2 = z1 := Sum.inl.inj (Option.some.inj hvv)
    exact rx_icmp_eq C dL_law_1116 (tgt := 1147) (by decide) (fun _ => kk _ _ hR2 hμ1 hν1) (fun h => absurd hz.symm h)
set_option maxHeartbeats 1000000 in
theorem lw_o37 (D : lw_Cx p s m b meth c G L0 xs) (hcr : cs + 0 ≤ room_1.cells ∧ sl + 0 ≤ room_1.slots) (hR : rl_R μ ν) (hμ : rd_okM μ) (hν : rd_okM ν) (hi : 0 ≤ i ∧ i + 5 ≤ L0) (kk : ∀ μ' ν', rl_R μ' ν' → rd_okM μ' → rd_okM ν' → lw_K p l e s m below meth c Q G cs sl b i μ' ν' 1147 []) : lw_K p l e s m below meth c Q G cs sl b i μ ν 1121 [] := by
  obtain ⟨C, hX, hbl, hL0⟩ := D
  refine rx_aload_n C dL_law_1121 (z := some (s.heap.size : Int)) rfl ?_
  refine lw_callV C (mk := rd_I) (kd := rd_kc) (N := 313) (w := s.heap.size) (I' := fun μ' => lw_I G s.heap.size s.heap μ' ν) (as := []) (c_X9_secondsLeft (rl_RI hR)) hμ rm_L_168 ri_X9_secondsLeft rs_X9_secondsLeft rc_X9_secondsLeft rz_X9 ⟨rp_X9_secondsLeft, rfl, rfl, by decide, by decide⟩ rfl rd_kcl9 dL_law_1122 rd_k0 (by decide) (fun _ => rfl) rfl rfl (Nat.le_of_ble_eq_true rfl) (fun _ _ h => h.1) (lw_I1 rfl) (fun v μ' h => by rcases h with ⟨_, e, _⟩ | ⟨_, e, _⟩ <;> exact ⟨_, e⟩) hcr (fun z1 μ1 hp1 hμ1 => ?_)
  refine rx_aload_n C dL_law_1125 (z := some ((s.heap.size + 313 : Nat) : Int)) rfl ?_
  refine lw_callV C (mk := rd_I) (kd := rd_km) (N := 5) (w := s.heap.size + 313) (I' := fun ν' => lw_I G s.heap.size s.heap μ1 ν') (as := []) (c_X10_secondsLeft (rl_i hR) (rl_ij hR) (rl_29 hR) (rl_31 hR)) hν rm_L_171 ri_X10_secondsLeft rs_X10_secondsLeft rc_X10_secondsLeft rz_X10 ⟨rp_X10_secondsLeft, rfl, rfl, by decide, by decide⟩ rfl rd_kcl10 dL_law_1126 rd_m0 (by decide) (fun _ => rfl) rfl rfl (Nat.le_of_ble_eq_true rfl) (fun _ _ h => h.2.1) (lw_I2 rfl) (fun v μ' h => by rcases h with ⟨_, e, _⟩ | ⟨_, e, _⟩ <;> exact ⟨_, e⟩) hcr (fun z2 ν1 hp2 hν1 => ?_)
  obtain ⟨hvv, hR2⟩ := ro_secondsLeft hR hp1 hp2
  have hz : z2 = z1 := Sum.inl.inj (Option.some.inj hvv)
  exact rx_icmp_eq C dL_law_1129 (tgt := 1147) (by decide) (fun _ => kk _ _ hR2 hμ1 hν1) (fun h => absurd hz.symm h)
set_option maxHeartbeats 1000000 in
theorem lw_o38 (D : lw_Cx p s m b meth c G L0 xs) (hcr : cs + 0 ≤ room_1.cells ∧ sl + 0 ≤ room_1.slots) (hR : rl_R μ ν) (hμ : rd_okM μ) (hν : rd_okM ν) (hi : 0 ≤ i ∧ i + 5 ≤ L0) (kk : ∀ μ' ν', rl_R μ' ν' → rd_okM μ' → rd_okM ν' → lw_K p l e s m below meth c Q G cs sl b i μ' ν' 1147 []) : lw_K p l e s m below meth c Q G cs sl b i μ ν 1134 [] := by
  obtain ⟨C, hX, hbl, hL0⟩ := D
  refine rx_aload_n C dL_law_1134 (z := some (s.heap.size : Int)) rfl ?_
  refine lw_callV C (mk := rd_I) (kd := rd_kc) (N := 313) (w := s.heap.size) (I' := fun μ' => lw_I G s.heap.size s.heap μ' ν) (as := []) (c_X9_backTo (rl_RI hR)) hμ rm_L_172 ri_X9_backTo rs_X9_backTo rc_X9_backTo rz_X9 ⟨rp_X9_backTo, rfl, rfl, by decide, by decide⟩ rfl rd_kcl9 dL_law_1135 rd_k0 (by decide) (fun _ => rfl) rfl rfl (Nat.le_of_ble_eq_true rfl) (fun _ _ h => h.1) (lw_I1 rfl) (fun v μ' h => by rcases h with ⟨_, e, _⟩ | ⟨_, e, _⟩ <;> exact ⟨_, e⟩) hcr (fun z1 μ1 hp1 hμ1 => ?_)
  refine rx_aload_n C dL_law_1138 (z := some ((s.heap.size + 313 : Nat) : Int)) rfl ?_
  refine lw_callV C (mk := rd_I) (kd := rd_km) (N := 5) (w := s.heap.size + 313) (I' := fun ν' => lw_I G s.heap.size s.heap μ1 ν') (as := []) (c_X10_backTo (rl_i hR)) hν rm_L_175 ri_X10_backTo rs_X10_backTo rc_X10_backTo rz_X10 ⟨rp_X10_backTo, rfl, rfl, by decide, by decide⟩ rfl rd_kcl10 dL_law_1139 rd_m0 (by decide) (fun _ => rfl) rfl rfl (Nat.le_of_ble_eq_true rfl) (fun _ _ h => h.2.1) (lw_I2 rfl) (fun v μ' h => by rcases h with ⟨_, e, _⟩ | ⟨_, e, _⟩ <;> exact ⟨_, e⟩) hcr (fun z2 ν1 hp2 hν1 => ?_)
  obtain ⟨hvv, hR2⟩ := ro_backTo hR hp1 hp2
  have hz : z2 = z1 := Sum.inl.inj (Option.some.inj hvv)
  exact rx_icmp_eq C dL_law_1142 (tgt := 1147) (by decide) (fun _ => kk _ _ hR2 hμ1 hν1) (fun h => absurd hz.symm h)
end LWO
