/-! the law's loop, and the law from its entry -/
section LWS
variable {p : Program} {l : Launch} {e : Env} {s : State} {m : MethodId} {below : List Frame} {meth : Method} {c : Code} {G : rd_G} {b L0 : Nat} {xs : Nat → Int32}
theorem lw_end (C : rd_Cx p s m #[Value.ref b] meth c cL_law 8 RL ret G) {cs sl : Nat} {i : Int} {μ ν : rd_Mem} (h1 : cs ≤ 600000) (h2 : sl ≤ 7302250) : lw_K p l e s m below meth c (lw_Z below #[Value.ref b] s) G cs sl b i μ ν 1154 [rd_I 1] := by
  intro hL hS H locs ls hl hI
  have e1 : (([rd_I 1] : List rd_X).map (rd_val 0)) = [Value.int 1] := by
    show [Value.int (rd_i 1)] = [Value.int 1]
    rw [show rd_i 1 = 1 by decide]
  rw [e1]
  refine va_forget (fun q hq => hI.2.2.2.2 q hq) ?_
  refine W.widen h1 h2 ?_
  exact W.base (lw_ret (Drawn.sameBut.refl s.drawn lw_cs) C.1.1 C.1.2.1 C.2.1 C.2.2.1 dL_law_1154)
theorem lw_loop (D : lw_Cx p s m b meth c G L0 xs) {cs sl : Nat} (h1 : cs ≤ 600000) (h2 : sl ≤ 7302250) : ∀ (n : Nat) (i : Int) (μ ν : rd_Mem), 0 ≤ i → i ≤ 2600 → (L0 : Int) < i + n → rl_R μ ν → rd_okM μ → rd_okM ν → lw_K p l e s m below meth c (lw_Z below #[Value.ref b] s) G cs sl b i μ ν 18 [] := by
  obtain ⟨C, hX, hbl, hL0⟩ := id D
  have hcr : cs + 0 ≤ room_1.cells ∧ sl + 0 ≤ room_1.slots := ⟨h1, h2⟩
  intro n
  induction n with
  | zero =>
    intro i μ ν i0 i1 hn hR hμ hν
    refine rx_iload_n C dL_law_18 (z := i) rfl ?_
    refine rx_aload_n C dL_law_19 (z := some (b : Int)) rfl ?_
    refine lw_alen C hX hbl hL0 (fun _ _ h => h.2.2) dL_law_20 ?_
    refine rx_iconst C dL_law_21 (n := 5) ⟨by decide, by decide⟩ ?_
    refine rx_isub C dL_law_22 (z := (L0 : Int) - 5) rfl ⟨by omega, by omega⟩ ?_
    refine rx_icmp_gt C dL_law_23 (tgt := 1153) (by decide) (fun h => ?_) (fun h => by exfalso; omega)
    refine rx_iconst C dL_law_1153 (n := 1) ⟨by decide, by decide⟩ ?_
    exact lw_end C h1 h2
  | succ n ih =>
    intro i μ ν i0 i1 hn hR hμ hν
    refine rx_iload_n C dL_law_18 (z := i) rfl ?_
    refine rx_aload_n C dL_law_19 (z := some (b : Int)) rfl ?_
    refine lw_alen C hX hbl hL0 (fun _ _ h => h.2.2) dL_law_20 ?_
    refine rx_iconst C dL_law_21 (n := 5) ⟨by decide, by decide⟩ ?_
    refine rx_isub C dL_law_22 (z := (L0 : Int) - 5) rfl ⟨by omega, by omega⟩ ?_
    refine rx_icmp_gt C dL_law_23 (tgt := 1153) (by decide) (fun h => ?_) (fun h => ?_)
    · refine rx_iconst C dL_law_1153 (n := 1) ⟨by decide, by decide⟩ ?_
      exact lw_end C h1 h2
    · refine lw_step D hcr hR hμ hν ⟨i0, by omega⟩ (fun μ' ν' hR' hμ' hν' => ?_)
      refine rx_iinc C dL_law_1147 (z := i) (by decide) rfl ⟨by omega, by omega⟩ (L' := lw_B s b (i + 5)) rfl ?_
      refine rx_goto C dL_law_1150 (tgt := 18) (by decide) ?_
      exact ih (i + 5) μ' ν' (by omega) (by omega) (by omega) hR' hμ' hν'
theorem rd_T_in {w : Cond} (h : w ∈ rd_T) : w ∈ lw_tbl := (List.mem_filter.mp h).1
theorem lw_ao7 : (Cond.arrayOver (.object RX7)) ∈ lw_tbl := List.mem_of_getElem? (i := 68) (by decide +kernel)
theorem lw_ao8 : (Cond.arrayOver (.object RX8)) ∈ lw_tbl := List.mem_of_getElem? (i := 223) (by decide +kernel)
theorem lw_nt : ∀ w ∈ rd_nest, w.onTables = true := by decide +kernel
theorem lw_arr {args : Array Value} {ty : FieldType} (h : (Cond.arrayClass ty).before args s = true) : ∃ cA, ArrOfT s cA ty ∧ s.vm.findClass ("[" ++ ty.toString) = some cA := by
  obtain ⟨cA, k, comp, h1, h2, h3⟩ := Cond.arrayClass_spec h
  exact ⟨cA, fun n z => ⟨fun k h => (by cases h), k, h2, comp, h3⟩, h1⟩
theorem lw_arq {args : Array Value} {C : String} (h : (Cond.arrayOver (.object C)).before args s = true) : ∃ cA, ArrOfT s cA (.object C) ∧ va_RA s cA (.object C) := by
  obtain ⟨comp, cA, k, h1, h2, h3, h4, h5⟩ := Cond.arrayOver_spec h
  exact ⟨cA, fun n z => ⟨fun k h => (by cases h), k, h3, comp, h4⟩, k, comp, h3, h4, h1, h5⟩
theorem lw_G {args : Array Value} (hts : ∀ w ∈ lw_tbl, w.before args s = true) : ∃ G : rd_G, rg_Ke G s := by
  have hT : ∀ w ∈ rd_T, w.before args s = true := fun w hw => hts w (rd_T_in hw)
  obtain ⟨c0, i0, hKn0⟩ := u_known (C := RX0) (T := TX0) (N := 3) (n := 3) hT ru_X0 (hT _ rq_X0)
  obtain ⟨c1, i1, hKn1⟩ := u_known (C := RX1) (T := TX1) (N := 1) (n := 1) hT ru_X1 (hT _ rq_X1)
  obtain ⟨c2, i2, hKn2⟩ := u_known (C := RX2) (T := TX2) (N := 2) (n := 2) hT ru_X2 (hT _ rq_X2)
  obtain ⟨c3, i3, hKn3⟩ := u_known (C := RX3) (T := TX3) (N := 3) (n := 3) hT ru_X3 (hT _ rq_X3)
  obtain ⟨c4, i4, hKn4⟩ := u_known (C := RX4) (T := TX4) (N := 4) (n := 4) hT ru_X4 (hT _ rq_X4)
  obtain ⟨c5, i5, hKn5⟩ := u_known (C := RX5) (T := TX5) (N := 2) (n := 2) hT ru_X5 (hT _ rq_X5)
  obtain ⟨c6, i6, hKn6⟩ := u_known (C := RX6) (T := TX6) (N := 9) (n := 9) hT ru_X6 (hT _ rq_X6)
  obtain ⟨c7, i7, hKn7⟩ := u_known (C := RX7) (T := TX7) (N := 8) (n := 8) hT ru_X7 (hT _ rq_X7)
  obtain ⟨c8, i8, hKn8⟩ := u_known (C := RX8) (T := TX8) (N := 4) (n := 4) hT ru_X8 (hT _ rq_X8)
  obtain ⟨c9, i9, hKn9⟩ := u_known (C := RX9) (T := TX9) (N := 5) (n := 5) hT ru_X9 (hT _ rq_X9)
  obtain ⟨c10, i10, hKn10⟩ := u_known (C := RX10) (T := TX10) (N := 9) (n := 9) hT ru_X10 (hT _ rq_X10)
  obtain ⟨aI, aI1, aI2⟩ := lw_arr (hT _ ra_int)
  obtain ⟨aC, aC1, aC2⟩ := lw_arr (hT _ ra_char)
  obtain ⟨a7, a71, a72⟩ := lw_arq (hts _ lw_ao7)
  obtain ⟨a8, a81, a82⟩ := lw_arq (hts _ lw_ao8)
  obtain ⟨dC, dI, hKc⟩ : ∃ (dC : Nat → ClassId) (dI : Nat → Nat → Nat), ∀ (k : Nat) (q : vw_C), rd_cl[k]? = some q → u_Kn s q.1 q.2.1 q.2.2 (dC k) (dI k) := by
    refine ⟨fun k => match k with | 0 => c0 | 1 => c1 | 2 => c2 | 3 => c3 | 4 => c4 | 5 => c5 | 6 => c6 | 7 => c7 | 8 => c8 | 9 => c9 | _ => c10, fun k => match k with | 0 => i0 | 1 => i1 | 2 => i2 | 3 => i3 | 4 => i4 | 5 => i5 | 6 => i6 | 7 => i7 | 8 => i8 | 9 => i9 | _ => i10, ?_⟩
    intro k q hq
    match k, hq with
    | 0, hq => cases hq; exact hKn0
    | 1, hq => cases hq; exact hKn1
    | 2, hq => cases hq; exact hKn2
    | 3, hq => cases hq; exact hKn3
    | 4, hq => cases hq; exact hKn4
    | 5, hq => cases hq; exact hKn5
    | 6, hq => cases hq; exact hKn6
    | 7, hq => cases hq; exact hKn7
    | 8, hq => cases hq; exact hKn8
    | 9, hq => cases hq; exact hKn9
    | 10, hq => cases hq; exact hKn10
    | k + 11, hq => simp at hq
  refine ⟨((dC, dI), aI, aC, a7, a8), ⟨⟨hKc, fun k q hq => ?_⟩, fun w hw => va_Nw.of (lw_nt w hw) (hts w (rd_nest_in w hw))⟩, va_AO.of (hts _ lw_ao7), va_AO.of (hts _ lw_ao8)⟩
  match k, hq with
  | 0, hq => cases hq; exact ⟨aI1, aI2⟩
  | 1, hq => cases hq; exact ⟨aC1, aC2⟩
  | 2, hq => cases hq; exact ⟨a71, a72⟩
  | 3, hq => cases hq; exact ⟨a81, a82⟩
  | k + 4, hq => simp [rd_tys] at hq
theorem lw_first (C : rd_Cx p s m #[Value.ref b] meth c cL_law 8 RL ret G) {Hm H : Heap} {locs : List Loc} {E E2 : Nat → va_E} (h1 : rg_H G s.heap.size 0 (0 + 313) (rg_if E (rg_C G s.heap.size) 0) s.heap Hm) (hI : rg_I G (s.heap.size + (0 + 313)) 0 (0 + 5) (rg_if E2 (rg_D G (s.heap.size + 313)) 0) Hm H locs) : lw_I G s.heap.size s.heap sp_m0 sp_n0 H locs := by
  obtain ⟨⟨z1, a1, k1⟩, hlo⟩ := hI
  obtain ⟨z0, a0, k0⟩ := h1
  refine ⟨rd_ws_P (fun j hj => ?_), rd_ws_P (fun j hj => ?_), by omega, fun q hq _ => by rw [k1 q (by omega), k0 q (by omega)], fun q hq => ?_⟩
  · have h := a0 j (by omega) (by omega)
    rw [rg_if_r _ _ (by omega)] at h
    exact h.kept (k1 _ (by omega))
  · have h := a1 j (by omega) (by omega)
    rw [rg_if_r _ _ (by omega)] at h
    exact h
  · have := hlo q hq; show s.heap.size ≤ q.base; omega
end LWS
set_option maxHeartbeats 1000000 in
theorem whole_start {p : Program} {e : Env} {s : State} {m : MethodId} {below : List Frame} {meth : Method} {c : Code} (l : Launch) (hflags : l.flags = flags0) {b L : Nat} {xs : Nat → Int32} (hL : L ≤ 2560) (C0 : lw_At p s m meth c b L xs) : W p l e room_1 s m #[Value.ref b] below meth c s.heap [] 0 0 (lw_Z below #[Value.ref b] s) (entryFrame m ([Value.ref b] : List Value).toArray 8) := by
  obtain ⟨hx, hb, hr, hml, hown, hts, hX, hbl, hlocks, hgv⟩ := id C0
  obtain ⟨G, hK⟩ := lw_G hts
  have C : rd_Cx p s m #[Value.ref b] meth c cL_law 8 RL ret G := ⟨⟨hx, hb, hml, hown, fun w hw => hts w (rd_T_in hw)⟩, hr, hlocks, hK.1⟩
  have D : lw_Cx p s m b meth c G L xs := ⟨C, hX, hbl, hL⟩
  have hl := lv_entry ([Value.ref b]) (n := 8) (Nat.le_of_ble_eq_true rfl)
  rw [lg_entry_eq]
  generalize (lg_sl ([Value.ref b]) ++ List.replicate (8 - (lg_sl ([Value.ref b])).length) Slot.unset).toArray = ls at hl ⊢
  have eb : rd_val 0 (rd_R (b : Int)) = Value.ref b := congrArg Value.ref (show 0 + (b : Int).toNat = b by omega)
  have hls : rd_has 0 ls 8 [rd_R (b : Int), rd_J, rd_J, rd_J, rd_J, rd_J, rd_J, rd_J] := by
    refine ⟨hl.1, hl.2.1, fun j x hx => ?_⟩
    match j, hx with
    | 0, hx => right; rw [← Option.some.inj hx, eb]; exact lv_at hl 0 rfl
    | 1, hx => left; exact (Option.some.inj hx).symm
    | 2, hx => left; exact (Option.some.inj hx).symm
    | 3, hx => left; exact (Option.some.inj hx).symm
    | 4, hx => left; exact (Option.some.inj hx).symm
    | 5, hx => left; exact (Option.some.inj hx).symm
    | 6, hx => left; exact (Option.some.inj hx).symm
    | 7, hx => left; exact (Option.some.inj hx).symm
    | j + 8, hx => simp at hx
  have key : rx_W p l e room_1 s m #[Value.ref b] below meth c (lw_Z below #[Value.ref b] s) 8 0 0 0 (rg_I G s.heap.size 0 0 (fun _ => rg_e9) s.heap) 0 [rd_R (b : Int), rd_J, rd_J, rd_J, rd_J, rd_J, rd_J, rd_J] [] := by
    refine lw_new C (ci := 9) ru_X9 tyX9_ok rfl rk_L_7 rq_X9 rz_X9 rg_d9 (Nat.le_refl _) (Nat.le_of_ble_eq_true rfl) (Nat.le_of_ble_eq_true rfl) dL_law_0 ?_
    refine rx_dup C dL_law_3 ?_
    refine lw_init C hK (j := 0) (n0 := 1) c_X9_init rm_L_9 rfl ri_X9_init rc_X9_init rz_X9 ⟨rp_X9_init, ⟨Nat.le_of_ble_eq_true rfl, Nat.le_of_ble_eq_true rfl⟩, Nat.le_of_ble_eq_true rfl, Nat.le_of_ble_eq_true rfl⟩ dL_law_4 (Nat.le_refl _) (fun i i0 i1 => by rw [show i = 0 by omega, rg_u_s]; rfl) (Nat.le_of_ble_eq_true rfl) ?_
    refine rx_astore_n C dL_law_7 (z := (s.heap.size : Int)) (by decide) (L' := [rd_R (b : Int), rd_R (s.heap.size : Int), rd_J, rd_J, rd_J, rd_J, rd_J, rd_J]) rfl ?_
    refine lw_sw rfl (E2 := fun _ => rg_e10) (fun Hm hHm => ?_)
    refine lw_new C (ci := 10) ru_X10 tyX10_ok rfl rk_L_10 rq_X10 rz_X10 rg_d10 (Nat.le_refl _) (Nat.le_of_ble_eq_true rfl) (Nat.le_of_ble_eq_true rfl) dL_law_8 ?_
    refine rx_dup C dL_law_11 ?_
    refine lw_init C hK (j := 0) (n0 := 1) (c_X10_init (r := s.heap.size + (0 + 313))) rm_L_12 rfl ri_X10_init rc_X10_init rz_X10 ⟨rp_X10_init, ⟨Nat.le_of_ble_eq_true rfl, Nat.le_of_ble_eq_true rfl⟩, Nat.le_of_ble_eq_true rfl, Nat.le_of_ble_eq_true rfl⟩ dL_law_12 (Nat.le_refl _) (fun i i0 i1 => by rw [show i = 0 by omega, rg_u_s]; rfl) (Nat.le_of_ble_eq_true rfl) ?_
    refine rx_astore_n C dL_law_15 (z := ((s.heap.size + 313 : Nat) : Int)) (by decide) (L' := [rd_R (b : Int), rd_R (s.heap.size : Int), rd_R ((s.heap.size + 313 : Nat) : Int), rd_J, rd_J, rd_J, rd_J, rd_J]) rfl ?_
    refine rx_iconst C dL_law_16 (n := 0) ⟨by decide, by decide⟩ ?_
    refine rx_istore_n C dL_law_17 (by decide) (L' := lw_B s b 0) rfl ?_
    refine rx_W.inv (fun H locs hI => lw_first C hHm hI) ?_
    exact lw_loop D (Nat.le_of_ble_eq_true rfl) (Nat.le_of_ble_eq_true rfl) (L + 1) 0 sp_m0 sp_n0 (Int.le_refl 0) (by omega) (by omega) rl_R0 sp_m0_ok sp_n0_ok
  exact key (fun x hx => by
    rcases List.mem_cons.mp hx with rfl | hx
    · trivial
    · have : x = rd_J := by simpa using hx
      rw [this]; trivial) rd_okn s.heap [] ls hls ⟨⟨rfl, fun j j0 j1 => absurd j1 (by omega), fun _ _ => rfl⟩, fun q hq => absurd hq List.not_mem_nil⟩
