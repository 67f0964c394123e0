/-! the start -/
theorem sp_m0_ok : rd_okM sp_m0 := by
  intro a j
  unfold sp_m0 sp_s0 rd_ok
  (repeat' split) <;> omega
theorem pg_S0 : pg_S sp_m0 sp_n0 [] := by
  have m1 : ∀ n j : Int, 0 ≤ n → n ≤ 9 → sp_m0 (5 + 5 * n) j = 0 := fun n j n0 n9 => by
    unfold sp_m0; rw [if_pos (by omega)]; unfold sp_s0; rw [if_neg (by omega), if_neg (by omega)]
  have m4 : ∀ n k : Int, 0 ≤ n → n ≤ 9 → 0 ≤ k → k ≤ 9 → sp_m0 (5 + 5 * n + 4) k = -1 := fun n k n0 n9 k0 k9 => by
    unfold sp_m0; rw [if_pos (by omega)]; unfold sp_s0; rw [if_neg (by omega), if_pos ⟨by omega, by omega, by omega⟩]
  have nth : ∀ n, ¬ sp_th sp_m0 n := fun n h => h.2 (m1 n 0 h.1.1 (by have := h.1.2; omega))
  have n1 : ∀ j : Int, sp_n0 1 j = 0 := fun j => by unfold sp_n0; exact if_neg (fun h => absurd h.1 (by decide))
  have z : ∀ a : Int, a = 1 ∨ a = 2 ∨ a = 55 ∨ a = 62 ∨ a = 308 → sp_m0 a 0 = 0 := fun a ha => by
    rcases ha with h | h | h | h | h <;> subst h <;> rfl
  have z2 : sp_m0 2 0 = 0 := z 2 (by omega)
  have z55 : sp_m0 55 0 = 0 := z 55 (by omega)
  have z62 : sp_m0 62 0 = 0 := z 62 (by omega)
  have z308 : sp_m0 308 0 = 0 := z 308 (by omega)
  have z1 : sp_m0 1 0 = 0 := z 1 (by omega)
  have z585 : sp_m0 58 5 = 0 := rfl
  have z581 : sp_m0 58 1 = 0 := rfl
  have z580 : sp_m0 58 0 = -1 := rfl
  refine ⟨rl_mk1 (by rw [z2]; omega) ⟨fun i i0 i1 => by rw [z2] at i1; omega, fun i j i0 i1 => by rw [z2] at i1; omega, fun n h => absurd h (nth n)⟩ (by rw [n1, z2]) (fun i i0 i1 => by rw [z2] at i1; omega) (fun n n0 n9 => ?_) (by unfold sp_nt; rw [z55]; omega) ⟨by rw [n1, z1], by rw [n1, z55], fun i i0 i1 => by rw [z55] at i1; omega⟩ (by rw [z585]; omega) (by rw [z581]; omega) (fun k k0 k1 => by rw [z585] at k1; omega) (Or.inl ⟨n1 _, z580, by rw [n1]; omega, by rw [n1]; omega, fun k k0 k1 => by rw [n1] at k1; omega⟩), ⟨?_, z62, by simp, ?_, fun i ρ hi => by simp at hi⟩, ⟨by rw [z308]; omega, fun j j0 j1 => by rw [z308] at j1; omega⟩⟩
  · refine ⟨⟨Or.inl (m1 n 0 n0 n9), Or.inl (m1 n 1 n0 n9)⟩, by rw [m1 n 3 n0 n9]; omega, fun q q0 q1 => by rw [m1 n 3 n0 n9] at q1; omega, fun h => absurd h (nth n), fun _ => ⟨⟨m1 n 1 n0 n9, m1 n 2 n0 n9, m1 n 3 n0 n9, fun k k0 k9 => m4 n k n0 n9 k0 k9⟩, ?_⟩⟩
    show sp_n0 1 _ ≠ 1
    rw [n1]; decide
  · intro t t0 t1
    have : sp_m0 63 t = t := by unfold sp_m0; rw [if_neg (by omega), if_neg (by omega), if_pos rfl, if_pos ⟨t0, t1⟩]
    rw [this]; omega
  · intro s t s0 s1 t0 t1 h
    have e1 : sp_m0 63 t = t := by unfold sp_m0; rw [if_neg (by omega), if_neg (by omega), if_pos rfl, if_pos ⟨t0, t1⟩]
    have e2 : sp_m0 63 s = s := by unfold sp_m0; rw [if_neg (by omega), if_neg (by omega), if_pos rfl, if_pos ⟨s0, s1⟩]
    rw [e1, e2] at h; exact h
theorem px_E0 : px_E 0 sp_n0 := by
  have n1 : ∀ j : Int, sp_n0 1 j = 0 := fun j => by unfold sp_n0; exact if_neg (fun h => absurd h.1 (by decide))
  refine ⟨by rw [n1]; omega, by rw [n1]; omega, by rw [n1]; omega, fun n q h => ?_⟩
  have := h.2
  unfold mo_o at this
  rw [n1] at this
  omega
section LWS
variable {p : Program} {l : Launch} {e : Env} {s : State} {m : MethodId} {below : List Frame} {meth : Method} {c : Code} {G : rd_G} {b L0 : Nat} {xs : Nat → Int32}
theorem rd_T_in {w : Cond} (h : w ∈ rd_T) : w ∈ lw_tbl := (List.mem_filter.mp h).1
theorem lw_ao7 : (Cond.arrayOver (.object RX7)) ∈ lw_tbl := List.mem_of_getElem? (i := 34) (by decide +kernel)
theorem lw_ao8 : (Cond.arrayOver (.object RX8)) ∈ lw_tbl := List.mem_of_getElem? (i := 184) (by decide +kernel)
theorem lw_nt : ∀ w ∈ rd_nest, w.onTables = true := by decide +kernel
theorem lw_arr {args : Array Value} {ty : FieldType} (h : (Cond.arrayClass ty).before args s = true) : ∃ cA, ArrOfT s cA ty ∧ s.vm.findClass ("[" ++ ty.toString) = some cA := by
  obtain ⟨cA, k, comp, h1, h2, h3⟩ := Cond.arrayClass_spec h
  exact ⟨cA, fun n z => ⟨fun k h => (by cases h), k, h2, comp, h3⟩, h1⟩
theorem lw_arq {args : Array Value} {C : String} (h : (Cond.arrayOver (.object C)).before args s = true) : ∃ cA, ArrOfT s cA (.object C) ∧ va_RA s cA (.object C) := by
  obtain ⟨comp, cA, k, h1, h2, h3, h4, h5⟩ := Cond.arrayOver_spec h
  exact ⟨cA, fun n z => ⟨fun k h => (by cases h), k, h3, comp, h4⟩, k, comp, h3, h4, h1, h5⟩
theorem lw_G {args : Array Value} (hts : ∀ w ∈ lw_tbl, w.before args s = true) : ∃ G : rd_G, rg_Ke G s := by
  have hT : ∀ w ∈ rd_T, w.before args s = true := fun w hw => hts w (rd_T_in hw)
  obtain ⟨c0, i0, hKn0⟩ := u_known (C := RX0) (T := TX0) (N := 3) (n := 3) hT ru_X0 (hT _ rq_X0)
  obtain ⟨c1, i1, hKn1⟩ := u_known (C := RX1) (T := TX1) (N := 1) (n := 1) hT ru_X1 (hT _ rq_X1)
  obtain ⟨c2, i2, hKn2⟩ := u_known (C := RX2) (T := TX2) (N := 2) (n := 2) hT ru_X2 (hT _ rq_X2)
  obtain ⟨c3, i3, hKn3⟩ := u_known (C := RX3) (T := TX3) (N := 3) (n := 3) hT ru_X3 (hT _ rq_X3)
  obtain ⟨c4, i4, hKn4⟩ := u_known (C := RX4) (T := TX4) (N := 4) (n := 4) hT ru_X4 (hT _ rq_X4)
  obtain ⟨c5, i5, hKn5⟩ := u_known (C := RX5) (T := TX5) (N := 2) (n := 2) hT ru_X5 (hT _ rq_X5)
  obtain ⟨c6, i6, hKn6⟩ := u_known (C := RX6) (T := TX6) (N := 9) (n := 9) hT ru_X6 (hT _ rq_X6)
  obtain ⟨c7, i7, hKn7⟩ := u_known (C := RX7) (T := TX7) (N := 8) (n := 8) hT ru_X7 (hT _ rq_X7)
  obtain ⟨c8, i8, hKn8⟩ := u_known (C := RX8) (T := TX8) (N := 4) (n := 4) hT ru_X8 (hT _ rq_X8)
  obtain ⟨c9, i9, hKn9⟩ := u_known (C := RX9) (T := TX9) (N := 5) (n := 5) hT ru_X9 (hT _ rq_X9)
  obtain ⟨aI, aI1, aI2⟩ := lw_arr (hT _ ra_int)
  obtain ⟨aC, aC1, aC2⟩ := lw_arr (hT _ ra_char)
  obtain ⟨a7, a71, a72⟩ := lw_arq (hts _ lw_ao7)
  obtain ⟨a8, a81, a82⟩ := lw_arq (hts _ lw_ao8)
  obtain ⟨dC, dI, hKc⟩ : ∃ (dC : Nat → ClassId) (dI : Nat → Nat → Nat), ∀ (k : Nat) (q : vw_C), rd_cl[k]? = some q → u_Kn s q.1 q.2.1 q.2.2 (dC k) (dI k) := by
    refine ⟨fun k => match k with | 0 => c0 | 1 => c1 | 2 => c2 | 3 => c3 | 4 => c4 | 5 => c5 | 6 => c6 | 7 => c7 | 8 => c8 | _ => c9, fun k => match k with | 0 => i0 | 1 => i1 | 2 => i2 | 3 => i3 | 4 => i4 | 5 => i5 | 6 => i6 | 7 => i7 | 8 => i8 | _ => i9, ?_⟩
    intro k q hq
    match k, hq with
    | 0, hq => cases hq; exact hKn0
    | 1, hq => cases hq; exact hKn1
    | 2, hq => cases hq; exact hKn2
    | 3, hq => cases hq; exact hKn3
    | 4, hq => cases hq; exact hKn4
    | 5, hq => cases hq; exact hKn5
    | 6, hq => cases hq; exact hKn6
    | 7, hq => cases hq; exact hKn7
    | 8, hq => cases hq; exact hKn8
    | 9, hq => cases hq; exact hKn9
    | k + 10, hq => simp at hq
  refine ⟨((dC, dI), aI, aC, a7, a8), ⟨⟨hKc, fun k q hq => ?_⟩, fun w hw => va_Nw.of (lw_nt w hw) (hts w (rd_nest_in w hw))⟩, va_AO.of (hts _ lw_ao7), va_AO.of (hts _ lw_ao8)⟩
  match k, hq with
  | 0, hq => cases hq; exact ⟨aI1, aI2⟩
  | 1, hq => cases hq; exact ⟨aC1, aC2⟩
  | 2, hq => cases hq; exact ⟨a71, a72⟩
  | 3, hq => cases hq; exact ⟨a81, a82⟩
  | k + 4, hq => simp [rd_tys] at hq
theorem lp_first {H : Heap} {locs : List Loc} {E : Nat → va_E} (hI : rg_I G s.heap.size 0 (0 + 313) (rg_if E (rg_C G s.heap.size) 0) s.heap H locs) : lp_I G s.heap.size s.heap sp_m0 H locs := by
  obtain ⟨⟨z0, a0, k0⟩, hlo⟩ := hI
  refine ⟨rd_ws_P (fun j hj => ?_), by omega, fun q hq _ => k0 q (by omega), fun q hq => ?_⟩
  · have h := a0 j (by omega) (by omega)
    rw [rg_if_r _ _ (by omega)] at h
    exact h
  · have := hlo q hq; show s.heap.size ≤ q.base; omega
end LWS
set_option maxHeartbeats 4000000 in
set_option maxRecDepth 100000 in
theorem lp_begin {p : Program} {l : Launch} {e : Env} {s : State} {m : MethodId} {below : List Frame} {meth : Method} {c : Code} {G : rd_G} {b L0 cs sl : Nat} {xs : Nat → Int32} (C : rd_Cx p s m #[Value.ref b] meth c cL_law 11 RL ret G) (h1 : cs ≤ 600000) (h2 : sl ≤ 7302250) (hX : va_X b L0 xs s s.heap) (hbl : b < s.heap.size) (hL0 : L0 ≤ 260) : lp_K p l e s m below meth c G b cs sl sp_m0 8 [rd_R (b : Int), rd_R (s.heap.size : Int), rd_J, rd_J, rd_J, rd_J, rd_J, rd_J, rd_J, rd_J, rd_J] [] := by
  have hcr : cs + 0 ≤ room_1.cells ∧ sl + 0 ≤ room_1.slots := ⟨h1, h2⟩
  have hE := px_E0
  refine rx_aload_n C dL_law_8 rfl ?_
  refine lp_callS C (c_L_holds pg_S0 hE (by omega)) sp_m0_ok rm_L_129 rt_L_holds rc_L_holds rz_L ⟨rp_L_holds, rfl, rfl, by decide, by decide⟩ rfl dL_law_9 (as0 := [rd_R (s.heap.size : Int)]) rfl (lp_o1 _) (lp_oo1) (Nat.le_of_ble_eq_true rfl) hcr (fun v μ' h => ⟨_, h.1, rfl⟩) (fun x19 w19 hq hM19 => ?_)
  obtain ⟨hx19, hS19⟩ := hq; injection hx19 with hx19; subst hx19
  refine rx_if_eq C dL_law_12 (tgt := 28) (by decide) (fun h => absurd h (by decide)) (fun _ => ?_)
  refine rx_aload_n C dL_law_15 rfl ?_
  refine lp_callV C (kq_undo0 hS19) hM19 rm_L_125 ri_X9_undo rs_X9_undo rc_X9_undo rz_X9 ⟨rp_X9_undo, rfl, rfl, by decide, by decide⟩ rd_kcl9 dL_law_16 rfl (Nat.le_of_ble_eq_true rfl) hcr (fun v μ' h => ⟨_, h.1, rfl⟩) (fun x0 w0 hq hM0 => ?_)
  obtain ⟨hx0, hm0⟩ := hq; injection hx0 with hx0; subst hx0; subst hm0
  refine rx_bipush C dL_law_19 (n := -6) (by decide) ⟨by decide, by decide⟩ ?_
  refine rx_icmp_ne C dL_law_21 (tgt := 28) (by decide) (fun h => absurd h (by decide)) (fun _ => ?_)
  refine rx_iconst C dL_law_24 (n := 1) ⟨by decide, by decide⟩ ?_
  refine rx_goto C dL_law_25 (tgt := 29) (by decide) ?_
  refine rx_istore_n C dL_law_29 (by decide) (L' := [rd_R (b : Int), rd_R (s.heap.size : Int), rd_I 1, rd_J, rd_J, rd_J, rd_J, rd_J, rd_J, rd_J, rd_J]) rfl ?_
  refine rx_iconst C dL_law_30 (n := 0) ⟨by decide, by decide⟩ ?_
  refine rx_istore_n C dL_law_31 (by decide) (L' := [rd_R (b : Int), rd_R (s.heap.size : Int), rd_I 1, rd_I 0, rd_J, rd_J, rd_J, rd_J, rd_J, rd_J, rd_J]) rfl ?_
  exact lp_loop C h1 h2 hX hbl hL0 65 0 _ _ [] (by omega) (by omega) (by omega) hS19 hM19 (px_mono hE (by omega))
set_option maxHeartbeats 1000000 in
theorem whole_start {p : Program} {e : Env} {s : State} {m : MethodId} {below : List Frame} {meth : Method} {c : Code} (l : Launch) (hflags : l.flags = flags0) {b L : Nat} {xs : Nat → Int32} (hL : L ≤ 260) (C0 : lw_At p s m meth c b L xs) : W p l e room_1 s m #[Value.ref b] below meth c s.heap [] 0 0 (lw_Z below #[Value.ref b] s) (entryFrame m ([Value.ref b] : List Value).toArray 11) := by
  obtain ⟨hx, hb, hr, hml, hown, hts, hX, hbl, hlocks, hgv⟩ := id C0
  obtain ⟨G, hK⟩ := lw_G hts
  have C : rd_Cx p s m #[Value.ref b] meth c cL_law 11 RL ret G := ⟨⟨hx, hb, hml, hown, fun w hw => hts w (rd_T_in hw)⟩, hr, hlocks, hK.1⟩
  have hl := lv_entry ([Value.ref b]) (n := 11) (Nat.le_of_ble_eq_true rfl)
  rw [lg_entry_eq]
  generalize (lg_sl ([Value.ref b]) ++ List.replicate (11 - (lg_sl ([Value.ref b])).length) Slot.unset).toArray = ls at hl ⊢
  have eb : rd_val 0 (rd_R (b : Int)) = Value.ref b := congrArg Value.ref (show 0 + (b : Int).toNat = b by omega)
  have hls : rd_has 0 ls 11 [rd_R (b : Int), rd_J, rd_J, rd_J, rd_J, rd_J, rd_J, rd_J, rd_J, rd_J, rd_J] := by
    refine ⟨hl.1, hl.2.1, fun j x hx => ?_⟩
    match j, hx with
    | 0, hx => right; rw [← Option.some.inj hx, eb]; exact lv_at hl 0 rfl
    | 1, hx => left; exact (Option.some.inj hx).symm
    | 2, hx => left; exact (Option.some.inj hx).symm
    | 3, hx => left; exact (Option.some.inj hx).symm
    | 4, hx => left; exact (Option.some.inj hx).symm
    | 5, hx => left; exact (Option.some.inj hx).symm
    | 6, hx => left; exact (Option.some.inj hx).symm
    | 7, hx => left; exact (Option.some.inj hx).symm
    | 8, hx => left; exact (Option.some.inj hx).symm
    | 9, hx => left; exact (Option.some.inj hx).symm
    | 10, hx => left; exact (Option.some.inj hx).symm
    | j + 11, hx => simp at hx
  have key : rx_W p l e room_1 s m #[Value.ref b] below meth c (lw_Z below #[Value.ref b] s) 11 0 0 0 (rg_I G s.heap.size 0 0 (fun _ => rg_e9) s.heap) 0 [rd_R (b : Int), rd_J, rd_J, rd_J, rd_J, rd_J, rd_J, rd_J, rd_J, rd_J, rd_J] [] := by
    refine lw_new C (ci := 9) ru_X9 tyX9_ok rfl rk_L_9 rq_X9 rz_X9 rg_d9 (Nat.le_refl _) (Nat.le_of_ble_eq_true rfl) (Nat.le_of_ble_eq_true rfl) dL_law_0 ?_
    refine rx_dup C dL_law_3 ?_
    refine lw_init C hK (j := 0) (n0 := 1) c_X9_init rm_L_128 rfl ri_X9_init rc_X9_init rz_X9 ⟨rp_X9_init, ⟨Nat.le_of_ble_eq_true rfl, Nat.le_of_ble_eq_true rfl⟩, Nat.le_of_ble_eq_true rfl, Nat.le_of_ble_eq_true rfl⟩ dL_law_4 (Nat.le_refl _) (fun i i0 i1 => by rw [show i = 0 by omega, rg_u_s]; rfl) (Nat.le_of_ble_eq_true rfl) ?_
    refine rx_astore_n C dL_law_7 (z := (s.heap.size : Int)) (by decide) (L' := [rd_R (b : Int), rd_R (s.heap.size : Int), rd_J, rd_J, rd_J, rd_J, rd_J, rd_J, rd_J, rd_J, rd_J]) rfl ?_
    refine rx_W.inv (fun H locs hI => lp_first hI) ?_
    exact lp_begin C (Nat.le_of_ble_eq_true rfl) (Nat.le_of_ble_eq_true rfl) hX hbl hL
  exact key (fun x hx => by
    rcases List.mem_cons.mp hx with rfl | hx
    · trivial
    · have : x = rd_J := by simpa using hx
      rw [this]; trivial) rd_okn s.heap [] ls hls ⟨⟨rfl, fun j j0 j1 => absurd j1 (by omega), fun _ _ => rfl⟩, fun q hq => absurd hq List.not_mem_nil⟩
