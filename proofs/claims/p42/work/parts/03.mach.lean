/-! numbers, values, memory -/
abbrev rd_Mem : Type := Int → Int → Int
abbrev rd_X : Type := Int ⊕ (Option Int ⊕ (UInt32 ⊕ Int64))
abbrev rd_I (z : Int) : rd_X := .inl z
abbrev rd_R (k : Int) : rd_X := .inr (.inl (some k))
abbrev rd_N : rd_X := .inr (.inl none)
abbrev rd_F (f : UInt32) : rd_X := .inr (.inr (.inl f))
abbrev rd_Z (z : Int64) : rd_X := .inr (.inr (.inr z))
abbrev rd_J : rd_X := .inr (.inr (.inl 0))
def rd_i (z : Int) : Int32 := Int32.ofInt z
def rd_val (r : Nat) (x : rd_X) : Value := match x with
  | .inl z => .int (rd_i z)
  | .inr (.inl none) => .null
  | .inr (.inl (some k)) => .ref (r + k.toNat)
  | .inr (.inr (.inl f)) => .float f
  | .inr (.inr (.inr z)) => .long z
abbrev rd_ok (z : Int) : Prop := -2147483648 ≤ z ∧ z < 2147483648
def rd_okX (x : rd_X) : Prop := match x with
  | .inl z => rd_ok z
  | _ => True
def rd_okL (L : List rd_X) : Prop := ∀ x ∈ L, rd_okX x
def rd_okM (μ : rd_Mem) : Prop := ∀ k j, rd_ok (μ k j)
def rd_okO (v : Option rd_X) : Prop := ∀ x, v = some x → rd_okX x
theorem rd_okn : rd_okL [] := fun _ h => absurd h List.not_mem_nil
theorem rd_okc {x : rd_X} {L : List rd_X} (h : rd_okX x) (hL : rd_okL L) : rd_okL (x :: L) := fun y hy => (List.mem_cons.mp hy).elim (fun e => e ▸ h) (hL y)
theorem rd_okt {x : rd_X} {L : List rd_X} (h : rd_okL (x :: L)) : rd_okL L := fun y hy => h y (List.mem_cons_of_mem _ hy)
theorem rd_okh {x : rd_X} {L : List rd_X} (h : rd_okL (x :: L)) : rd_okX x := h x List.mem_cons_self
theorem rd_oka {A B : List rd_X} (h : rd_okL A) (h2 : rd_okL B) : rd_okL (A ++ B) := fun y hy => (List.mem_append.mp hy).elim (h y) (h2 y)
theorem rd_oki {L : List rd_X} {i : Nat} {x : rd_X} (h : rd_okL L) (hi : L[i]? = some x) : rd_okX x := h x (List.mem_of_getElem? hi)
theorem rd_toInt {z : Int} (h : rd_ok z) : (rd_i z).toInt = z := Int32.toInt_ofInt_of_le h.1 h.2
theorem rd_eq {a b : Int} (ha : rd_ok a) (hb : rd_ok b) : rd_i a = rd_i b ↔ a = b := by
  rw [← Int32.toInt_inj, rd_toInt ha, rd_toInt hb]
theorem rd_lt {a b : Int} (ha : rd_ok a) (hb : rd_ok b) : rd_i a < rd_i b ↔ a < b := by
  rw [Int32.lt_iff_toInt_lt, rd_toInt ha, rd_toInt hb]
theorem rd_le {a b : Int} (ha : rd_ok a) (hb : rd_ok b) : rd_i a ≤ rd_i b ↔ a ≤ b := by
  rw [Int32.le_iff_toInt_le, rd_toInt ha, rd_toInt hb]
theorem rd_add (a b : Int) : rd_i a + rd_i b = rd_i (a + b) := (Int32.ofInt_add a b).symm
theorem rd_sub (a b : Int) : rd_i a - rd_i b = rd_i (a - b) := (Int32.ofInt_sub a b).symm
theorem rd_mul (a b : Int) : rd_i a * rd_i b = rd_i (a * b) := (Int32.ofInt_mul a b).symm
theorem rd_of (x : Int32) : ∃ z, rd_ok z ∧ x = rd_i z := ⟨x.toInt, ⟨Int32.le_toInt x, Int32.toInt_lt x⟩, (Int32.ofInt_toInt x).symm⟩
theorem rd_ok0 : rd_ok 0 := ⟨by decide, by decide⟩
theorem rd_z : rd_i 0 = 0 := by decide
theorem rd_cl0 {z : Int} (h : rd_ok z) : (rd_i z).toNatClampNeg = z.toNat := Int32.toNatClampNeg_ofInt_of_le h.1 h.2
theorem rd_vin {z : Int} {n : Nat} (h0 : 0 ≤ z) (h1 : z < n) (h : rd_ok z) : vp_in (rd_i z) n := by
  rw [vp_in_iff, rd_toInt h]; exact ⟨h0, h1⟩
/-- what an int keeps of a whole number -/
def rd_w (z : Int) : Int := (rd_i z).toInt
theorem rd_w_ok (z : Int) : rd_ok (rd_w z) := ⟨Int32.le_toInt _, Int32.toInt_lt _⟩
theorem rd_w_i (z : Int) : rd_i (rd_w z) = rd_i z := Int32.ofInt_toInt _
theorem rd_w_id {z : Int} (h : rd_ok z) : rd_w z = z := rd_toInt h
def rd_uf (f : Int → Int) (j z : Int) : Int → Int := fun b => if b = j then z else f b
def rd_u (μ : rd_Mem) (k j z : Int) : rd_Mem := fun a b => if a = k then (if b = j then z else μ a b) else μ a b
theorem rd_u_row (μ : rd_Mem) (k j z : Int) : rd_u μ k j z k = rd_uf (μ k) j z := by
  funext b; simp [rd_u, rd_uf]
theorem rd_u_ne (μ : rd_Mem) {k a : Int} (j z : Int) (h : a ≠ k) : rd_u μ k j z a = μ a := by
  funext b; simp [rd_u, h]
theorem rd_u_ok {μ : rd_Mem} {k j z : Int} (h : rd_okM μ) (hz : rd_ok z) : rd_okM (rd_u μ k j z) := by
  intro a b; unfold rd_u; split
  · split
    · exact hz
    · exact h a b
  · exact h a b
/-! the cells -/
abbrev rd_cl : List vw_C := [(RX0, TX0, 3), (RX1, TX1, 1), (RX2, TX2, 2), (RX3, TX3, 3), (RX4, TX4, 4), (RX5, TX5, 2), (RX6, TX6, 9), (RX7, TX7, 8), (RX8, TX8, 4), (RX9, TX9, 5)]
abbrev rd_G : Type := va_G × ClassId × ClassId × ClassId × ClassId
abbrev rd_tys (G : rd_G) : List (ClassId × FieldType) := [(G.2.1, .int), (G.2.2.1, .char), (G.2.2.2.1, .object RX7), (G.2.2.2.2, .object RX8)]
def rd_ri (f : Int → Int) : Nat → Int32 := fun j => rd_i (f (j : Int))
def rd_cell (G : rd_G) (r : Nat) (f : Int → Int) (k : Int) (kd : Nat) : va_E := match kd with
  | 0 => .inr (0, [.int (rd_i (f 0)), .ref (r + (k + 1).toNat), .ref (r + (k + 2).toNat)])
  | 1 => .inr (1, [.ref (r + (k + 1).toNat)])
  | 2 => .inr (2, [.int (rd_i (f 0)), .ref (r + (k + 1).toNat)])
  | 3 => .inr (3, [.int (rd_i (f 0)), .ref (r + (k + 1).toNat), .ref (r + (k + 2).toNat)])
  | 4 => .inr (4, [.int (rd_i (f 0)), .int (rd_i (f 1)), .int (rd_i (f 2)), .int (rd_i (f 3))])
  | 5 => .inr (5, [.int (rd_i (f 0)), .ref (r + (k + 1).toNat)])
  | 6 => .inr (6, [.int (rd_i (f 0)), .int (rd_i (f 1)), .int (rd_i (f 2)), .int (rd_i (f 3)), .int (rd_i (f 4)), .int (rd_i (f 5)), .ref (r + (k + 1).toNat), .ref (r + (k + 2).toNat), .ref (r + (k + 3).toNat)])
  | 7 => .inr (7, [.int (rd_i (f 0)), .int (rd_i (f 1)), .int (rd_i (f 2)), .int (rd_i (f 3)), .ref (r + (k + 1).toNat), .ref (r + (k + 2).toNat), .ref (r + (k + 3).toNat), .ref (r + (k + 4).toNat)])
  | 8 => .inr (8, [.int (rd_i (f 0)), .ref (r + (k + 1).toNat), .ref (r + (k + 54).toNat), .ref (r + (k + 57).toNat)])
  | 9 => .inr (9, [.ref (r + (k + 1).toNat), .ref (r + (k + 62).toNat), .ref (r + (k + 308).toNat), .ref (r + (k + 310).toNat), .ref (r + (k + 311).toNat)])
  | 10 => .inr (10, [.ref (r + (k + 1).toNat), .int (rd_i (f 1)), .ref (r + (k + 2).toNat), .int (rd_i (f 3)), .int (rd_i (f 4)), .int (rd_i (f 5)), .int (rd_i (f 6)), .ref (r + (k + 3).toNat), .ref (r + (k + 4).toNat)])
  | 11 => .inl (G.2.1, 10, .inl (rd_ri f))
  | 12 => .inl (G.2.1, 6, .inl (rd_ri f))
  | 13 => .inl (G.2.1, 8, .inl (rd_ri f))
  | 14 => .inl (G.2.1, 40, .inl (rd_ri f))
  | 15 => .inl (G.2.2.1, 60, .inl (rd_ri f))
  | 16 => .inl (G.2.2.2.1, 10, .inr (.inr (.inr (.inr (fun j => some (r + (k + 1 + 5 * (j : Int)).toNat))))))
  | 17 => .inl (G.2.2.2.2, 4, .inr (.inr (.inr (.inr (fun j => some (r + (k + 1 + 61 * f (j : Int)).toNat))))))
  | 18 => .inl (G.2.1, 2380, .inl (rd_ri f))
  | 19 => .inl (G.2.1, 60, .inl (rd_ri f))
  | 20 => .inl (G.2.1, 4, .inl (rd_ri f))
  | _ => .inl (G.2.1, 100, .inl (rd_ri f))
def rd_ws (G : rd_G) (kd : Int → Nat) (N r : Nat) (μ : rd_Mem) : va_W := (List.range N).map fun j => (r + j, rd_cell G r (μ (j : Int)) (j : Int) (kd (j : Int)))
def rd_A (r N : Nat) : Nat → Prop := fun q => r ≤ q ∧ q < r + N
theorem rd_at {G : rd_G} {kd : Int → Nat} {N r : Nat} (μ : rd_Mem) {k : Int} (h0 : 0 ≤ k) (h1 : k < N) : (rd_ws G kd N r μ)[k.toNat]? = some (r + k.toNat, rd_cell G r (μ k) k (kd k)) := by
  have e : ((k.toNat : Nat) : Int) = k := by omega
  have hl : k.toNat < N := by omega
  simp [rd_ws, hl, e]
theorem rd_wsD (G : rd_G) (kd : Int → Nat) (N r : Nat) (μ : rd_Mem) : va_D (rd_A r N) (rd_ws G kd N r μ) := by
  have key : ∀ (i : Nat) (p : Nat × va_E), (rd_ws G kd N r μ)[i]? = some p → p.1 = r + i ∧ i < N := by
    intro i p h
    simp only [rd_ws, List.getElem?_map, Option.map_eq_some_iff] at h
    obtain ⟨j, hj, rfl⟩ := h
    have hi : i < N := by
      have := (List.getElem?_eq_some_iff.mp hj).1
      simpa using this
    rw [List.getElem?_range hi] at hj
    cases hj
    exact ⟨rfl, hi⟩
  refine ⟨fun i j p q hi hj hpq => ?_, fun k q hk => ?_⟩
  · have h1 := (key i p hi).1
    have h2 := (key j q hj).1
    omega
  · have h1 := key k q hk
    exact ⟨by omega, by omega⟩
theorem rd_wset {G : rd_G} {kd : Int → Nat} {N r : Nat} {μ : rd_Mem} {k : Int} (h0 : 0 ≤ k) (h1 : k < N) {μ' : rd_Mem} {e : va_E} (he : e = rd_cell G r (μ' k) k (kd k)) (hne : ∀ a, a ≠ k → μ' a = μ a) : (rd_ws G kd N r μ).set k.toNat (r + k.toNat, e) = rd_ws G kd N r μ' := by
  have ek : ((k.toNat : Nat) : Int) = k := by omega
  have hl : k.toNat < N := by omega
  apply List.ext_getElem?
  intro i
  by_cases hi : i = k.toNat
  · subst hi
    rw [List.getElem?_set_self (by simp [rd_ws]; omega)]
    simp [rd_ws, hl, ek, he]
  · rw [List.getElem?_set_ne (Ne.symm hi)]
    by_cases hN : i < N
    · have hik : (i : Int) ≠ k := by omega
      simp [rd_ws, hN, hne _ hik]
    · have e1 : (rd_ws G kd N r μ)[i]? = none := by simp [rd_ws]; omega
      have e2 : (rd_ws G kd N r μ')[i]? = none := by simp [rd_ws]; omega
      rw [e1, e2]
/-- the machine's facts that a walk carries along -/
def rd_Ke (G : rd_G) (U : State) : Prop := va_K G.1 rd_cl (rd_tys G) U ∧ ∀ w ∈ rd_nest, va_Nw w U
def rd_isN : Cond → Bool
  | .methodLinkNest .. => true
  | _ => false
theorem rd_nest_is : ∀ w ∈ rd_nest, rd_isN w = true := by decide +kernel
theorem rd_Ke.warm {G : rd_G} {s U : State} (hW : s.WarmedH U.vm) (h : rd_Ke G s) : rd_Ke G U := by
  refine ⟨va_K.moved hW.alike h.1, fun w hw => ?_⟩
  have h1 := rd_nest_is w hw
  have h2 := h.2 w hw
  cases w <;> first | exact va_Nw.warmM hW h2 | (simp [rd_isN] at h1; done)
theorem rd_Ke.same {G : rd_G} {u U : State} (hv : u.vm = U.vm) (h : rd_Ke G u) : rd_Ke G U := by
  refine ⟨va_K.moved (by rw [hv]; exact Vm.Alike.refl _) h.1, fun w hw => ?_⟩
  have h1 := rd_nest_is w hw
  have h2 := h.2 w hw
  cases w <;> first | exact va_Nw.same rfl hv h2 | (simp [rd_isN] at h1; done)
/-! locals -/
def rd_has (r : Nat) (ls : Array Slot) (nl : Nat) (L : List rd_X) : Prop := ls.size = nl ∧ lv_wf ls ∧ ∀ (i : Nat) (x : rd_X), L[i]? = some x → x = rd_J ∨ ls[i]? = some (.val (rd_val r x))
def rd_one (x : rd_X) : Bool := match x with
  | .inr (.inr (.inr _)) => false
  | _ => true
theorem rd_cat (r : Nat) {x : rd_X} (h : rd_one x = true) : (rd_val r x).category = 1 := by
  rcases x with z | (_ | k) | f | z <;> first | rfl | cases h
def rd_cw (x : rd_X) : Nat := match x with
  | .inr (.inr (.inr _)) => 2
  | _ => 1
theorem rd_cw_c (r : Nat) (x : rd_X) : (rd_val r x).category = rd_cw x := by
  rcases x with z | (_ | k) | f | z <;> rfl
def rd_wt : List rd_X → Nat
  | [] => 0
  | x :: t => rd_cw x + rd_wt t
theorem rd_wt_sum (r : Nat) (st : List rd_X) : ((st.map (rd_val r)).map fun v => v.category).sum = rd_wt st := by
  induction st with
  | nil => rfl
  | cons x t ih => rw [List.map_cons, List.map_cons, List.sum_cons, ih, rd_cw_c]; rfl
/-- what a store ahead leaves of a value -/
def rd_kl (x : rd_X) : rd_X := match x with
  | .inr (.inr (.inr _)) => rd_J
  | x => x
def rd_kill : List rd_X → Nat → List rd_X
  | [], _ => []
  | x :: t, 0 => rd_kl x :: t
  | x :: t, n + 1 => x :: rd_kill t n
def rd_set (L : List rd_X) (i : Nat) (x : rd_X) : List rd_X := match i with
  | 0 => L.set 0 x
  | n + 1 => (rd_kill L n).set (n + 1) x
theorem rd_kl_s (x : rd_X) : rd_kl x = rd_J ∨ (rd_kl x = x ∧ rd_one x = true) := by
  rcases x with z | (_ | k) | f | z
  · exact Or.inr ⟨rfl, rfl⟩
  · exact Or.inr ⟨rfl, rfl⟩
  · exact Or.inr ⟨rfl, rfl⟩
  · exact Or.inr ⟨rfl, rfl⟩
  · exact Or.inl rfl
theorem rd_kill_s : ∀ (L : List rd_X) (n j : Nat) (y : rd_X), (rd_kill L n)[j]? = some y → y = rd_J ∨ (L[j]? = some y ∧ (j = n → rd_one y = true)) := by
  intro L
  induction L with
  | nil => intro n j y h; simp [rd_kill] at h
  | cons x t ih =>
    intro n j y h
    cases n with
    | zero =>
      cases j with
      | zero =>
        have e : rd_kl x = y := by simpa [rd_kill] using h
        rcases rd_kl_s x with h1 | ⟨h1, h2⟩
        · exact Or.inl (e ▸ h1)
        · exact Or.inr ⟨by rw [← e, h1]; rfl, fun _ => by rw [← e, h1]; exact h2⟩
      | succ j => exact Or.inr ⟨by simpa [rd_kill] using h, fun e => by omega⟩
    | succ n =>
      cases j with
      | zero => exact Or.inr ⟨by simpa [rd_kill] using h, fun e => by omega⟩
      | succ j =>
        have h1 : (rd_kill t n)[j]? = some y := by simpa [rd_kill] using h
        rcases ih n j y h1 with h2 | ⟨h2, h3⟩
        · exact Or.inl h2
        · exact Or.inr ⟨by simpa using h2, fun e => h3 (by omega)⟩
theorem rd_kill_l (L : List rd_X) (n : Nat) : (rd_kill L n).length = L.length := by
  induction L generalizing n with
  | nil => rfl
  | cons x t ih => cases n with
    | zero => rfl
    | succ n => simp [rd_kill, ih]
theorem rd_set_s {L : List rd_X} {i : Nat} {x : rd_X} {j : Nat} {y : rd_X} (h : (rd_set L i x)[j]? = some y) : (j = i ∧ y = x) ∨ (j ≠ i ∧ (y = rd_J ∨ (L[j]? = some y ∧ (j + 1 = i → rd_one y = true)))) := by
  by_cases hj : j = i
  · subst hj
    left
    refine ⟨rfl, ?_⟩
    have hs : ∀ M : List rd_X, (M.set j x)[j]? = some y → y = x := fun M hM => by
      have hlt : j < M.length := by
        have := (List.getElem?_eq_some_iff.mp hM).1
        simpa using this
      rw [List.getElem?_set_self hlt] at hM
      cases hM; rfl
    cases j with
    | zero => exact hs _ h
    | succ n => exact hs _ h
  · right
    refine ⟨hj, ?_⟩
    cases i with
    | zero =>
      have h1 : (L.set 0 x)[j]? = some y := h
      rw [List.getElem?_set_ne (Ne.symm hj)] at h1
      exact Or.inr ⟨h1, fun e => by omega⟩
    | succ n =>
      have h1 : ((rd_kill L n).set (n + 1) x)[j]? = some y := h
      rw [List.getElem?_set_ne (Ne.symm hj)] at h1
      rcases rd_kill_s L n j y h1 with h2 | ⟨h2, h3⟩
      · exact Or.inl h2
      · exact Or.inr ⟨h2, fun e => h3 (by omega)⟩
theorem rd_set_ok {L : List rd_X} {i : Nat} {x : rd_X} (hL : rd_okL L) (hx : rd_okX x) : rd_okL (rd_set L i x) := by
  intro y hy
  obtain ⟨j, hj⟩ := List.getElem?_of_mem hy
  rcases rd_set_s hj with ⟨-, rfl⟩ | ⟨-, rfl | ⟨h, -⟩⟩
  · exact hx
  · trivial
  · exact hL y (List.mem_of_getElem? h)
/-- the known locals as a list of places and values -/
theorem rd_has_l {r : Nat} {ls : Array Slot} {nl : Nat} {L : List rd_X} (h : rd_has r ls nl L) : ∃ l : List (Nat × Value), lv_has ls nl l ∧ ∀ (j : Nat) (y : rd_X), L[j]? = some y → y = rd_J ∨ (j, rd_val r y) ∈ l := by
  obtain ⟨h1, h2, h3⟩ := h
  refine ⟨(List.range L.length).filterMap fun j => match L[j]? with
    | some y => if ls[j]? = some (.val (rd_val r y)) then some (j, rd_val r y) else none
    | none => none, ⟨h1, h2, fun q hq => ?_⟩, fun j y hy => ?_⟩
  · obtain ⟨j, -, hj⟩ := List.mem_filterMap.mp hq
    cases e : L[j]? with
    | none => simp [e] at hj
    | some y =>
      simp only [e] at hj
      split at hj
      · rename_i hh
        cases hj
        exact hh
      · cases hj
  · rcases h3 j y hy with h4 | h4
    · exact Or.inl h4
    · refine Or.inr (List.mem_filterMap.mpr ⟨j, List.mem_range.mpr (List.getElem?_eq_some_iff.mp hy).1, ?_⟩)
      simp [hy, h4]
theorem rd_store {r : Nat} {ls : Array Slot} {nl : Nat} {L : List rd_X} {i : Nat} {x : rd_X} (h : rd_has r ls nl L) (hi : i < nl) (hc : rd_one x = true := by rfl) : ∃ ls', storeLocals ls i (rd_val r x) = some ls' ∧ rd_has r ls' nl (rd_set L i x) := by
  obtain ⟨l, hl, hm⟩ := rd_has_l h
  obtain ⟨ls', e', g1, g2, g3⟩ := lv_store1 (v := rd_val r x) hl hi (rd_cat r hc)
  refine ⟨ls', e', g1, g2, fun j y hy => ?_⟩
  rcases rd_set_s hy with ⟨rfl, rfl⟩ | ⟨hj, rfl | ⟨h4, h5⟩⟩
  · exact Or.inr (g3 (j, _) List.mem_cons_self)
  · exact Or.inl rfl
  · rcases hm j y h4 with h6 | h6
    · exact Or.inl h6
    · refine Or.inr (g3 (j, rd_val r y) (List.mem_cons_of_mem _ (List.mem_filter.mpr ⟨h6, ?_⟩)))
      by_cases hji : j + 1 = i
      · have := rd_cat r (h5 hji)
        simp [hj, this]
      · simp [hj, hji]
def rd_set2 (L : List rd_X) (i : Nat) (x : rd_X) : List rd_X := rd_set (rd_set L (i + 1) rd_J) i x
theorem rd_store2 {r : Nat} {ls : Array Slot} {nl : Nat} {L : List rd_X} {i : Nat} (z : Int64) (h : rd_has r ls nl L) (hi : i + 1 < nl) : ∃ ls', storeLocals ls i (rd_val r (rd_Z z)) = some ls' ∧ rd_has r ls' nl (rd_set2 L i (rd_Z z)) := by
  obtain ⟨l, hl, hm⟩ := rd_has_l h
  obtain ⟨ls', e', g1, g2, g3⟩ := lv_store2 (v := rd_val r (rd_Z z)) hl hi rfl
  refine ⟨ls', e', g1, g2, fun j y hy => ?_⟩
  rcases rd_set_s hy with ⟨rfl, rfl⟩ | ⟨hj, rfl | ⟨h4, h5⟩⟩
  · exact Or.inr (g3 (j, _) List.mem_cons_self)
  · exact Or.inl rfl
  · rcases rd_set_s h4 with ⟨rfl, rfl⟩ | ⟨hj2, rfl | ⟨h7, h8⟩⟩
    · exact Or.inl rfl
    · exact Or.inl rfl
    · rcases hm j y h7 with h6 | h6
      · exact Or.inl h6
      · refine Or.inr (g3 (j, rd_val r y) (List.mem_cons_of_mem _ (List.mem_filter.mpr ⟨h6, ?_⟩)))
        by_cases hji : j + 1 = i
        · have := rd_cat r (h5 hji)
          have e3 : ¬ j = i + 1 := hj2
          simp [hj, e3, this]
        · have e3 : ¬ j = i + 1 := hj2
          simp [hj, hji, e3]
theorem rd_has.sub {r : Nat} {ls : Array Slot} {nl : Nat} {L L' : List rd_X} (h : rd_has r ls nl L) (hs : ∀ (i : Nat) (x : rd_X), L'[i]? = some x → x = rd_J ∨ L[i]? = some x) : rd_has r ls nl L' :=
  ⟨h.1, h.2.1, fun i x hx => (hs i x hx).elim Or.inl (fun h2 => h.2.2 i x h2)⟩

