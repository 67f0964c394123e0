def R_law : String := "RevealDeckLaw"
def lw_P (b : Addr) (xs : List Int32) (args : Array Value) (s : State) : Prop := args = #[.ref b] ∧ s.IntsAt b xs ∧ xs.length ≤ 2560 ∧ (Jvm.Cond.and given_1 narrow_1).before args s = true
theorem lw_closed {s t : State} {o : Outcome} {d0 : Drawn} {L : List Loc} {k n : Nat} (hd0 : s.drawn.sameBut d0 lw_cs) (hv : ∃ v, o = .returned v) (hW : (s.setDrawn d0).WarmedH t.vm) (hs : (s.setDrawn d0).sameButNew ({ t with vm := s.vm } : State) L k n) : State.butDraws s t lw_cs (fun t1 => Framed s o t1 L k n) := by
  have h2 : t.drawn = d0 := congrArg State.drawn hs.1
  refine ⟨⟨hv, hW, State.sameButNew.setDrawn hs s.drawn⟩, ?_, by decide⟩
  rw [h2]
  exact hd0
def lw_Q (_ : Array Value) (s : State) (o : Outcome) (t : State) : Prop := o = .returned (some (.int 1)) ∧ State.butDraws s t lw_cs (fun t1 => Framed s o t1 [] 600000 7302250)
def lw_Z (below : List Frame) (a : Array Value) (s : State) : State → Prop := fun t => ∃ o, t.status = .running ∧ Ended t below o ∧ lw_Q a s o t
theorem lw_ret {p : Program} {l : Launch} {e : Env} {s : State} {m : MethodId} {below : List Frame} {meth : Method} {c : Code} {b : Nat} {d0 : Drawn} (hd0 : s.drawn.sameBut d0 lw_cs) (hx : p.tables.exec = Jvm.exec) (hb : c.code = code) (hr : meth.sig.returnType = ret) (hlocks : meth.locks = false) {pc : Nat} {H : Heap} {ls : Array Slot} (hdg : decode code pc = .ok (.ireturn, 1)) : W p l e room_1 (s.setDrawn d0) m #[Value.ref b] below meth c H [] 600000 7302250 (lw_Z below #[Value.ref b] s) (F0 m pc ls [.int 1]) := by
  intro T hT X
  obtain ⟨fs, hret, hrun, hended, hW, hframe⟩ := X.leave (v := some (.int 1)) (hlocks := hlocks) (fun h => by rw [hr] at h; cases h)
  have hmeth' : T.vm.method? m = some meth := X.method'
  refine ⟨T.setFrames fs, ?_, .returned (some (.int 1)), hrun, hended, rfl, lw_closed hd0 ⟨_, rfl⟩ hW hframe⟩
  jvm_step X.here [X.here.top, hx, hb, hdg, hmeth', hr, ret, narrow_b1]
  (try refine ⟨rfl, ?_⟩); (try refine ⟨rfl, ?_⟩)
  first | (intro acts; rw [hret _ acts rfl rfl rfl]) | rw [hret _ _ rfl rfl rfl]
  exact Steps.refl _
def lw_At (p : Program) (s : State) (m : MethodId) (meth : Method) (c : Code) (b L : Nat) (xs : Nat → Int32) : Prop :=
  p.tables.exec = Jvm.exec ∧ c.code = code ∧ meth.sig.returnType = ret ∧ c.maxLocals = 8 ∧ s.vm.findClass R_law = some m.cls ∧ (∀ w ∈ lw_tbl, w.before #[Value.ref b] s = true) ∧ va_X b L xs s s.heap ∧ b < s.heap.size ∧ meth.locks = false ∧ (Jvm.Cond.and given_1 narrow_1).before #[Value.ref b] s = true
/-! the law: rows -/
def lw_I (G : rd_G) (r : Nat) (H0 : Heap) (μ ν : rd_Mem) : Heap → List Loc → Prop := fun H locs => va_P G.1 rd_cl (rd_ws G rd_kc 313 r μ) H ∧ va_P G.1 rd_cl (rd_ws G rd_km 5 (r + 313) ν) H ∧ va_S (fun q => r ≤ q) H0 H locs
theorem rd_ws_i {G : rd_G} {kd : Int → Nat} {N r : Nat} {μ : rd_Mem} {i : Nat} {q : Nat × va_E} (h : (rd_ws G kd N r μ)[i]? = some q) : q.1 = r + i ∧ i < N := by
  simp only [rd_ws, List.getElem?_map, Option.map_eq_some_iff] at h
  obtain ⟨j, hj, rfl⟩ := h
  have hi : i < N := by
    have := (List.getElem?_eq_some_iff.mp hj).1
    simpa using this
  rw [List.getElem?_range hi] at hj
  cases hj
  exact ⟨rfl, hi⟩
theorem rd_ws_P {G : rd_G} {kd : Int → Nat} {N r : Nat} {μ : rd_Mem} {H : Heap} (h : ∀ j : Nat, j < N → va_at G.1 rd_cl (r + j, rd_cell G r (μ (j : Int)) (j : Int) (kd (j : Int))) H) : va_P G.1 rd_cl (rd_ws G kd N r μ) H := fun i q hq => by
  have hi := (rd_ws_i hq).2
  have h1 := rd_at (G := G) (kd := kd) (N := N) (r := r) μ (k := (i : Int)) (by omega) (by omega)
  rw [show (i : Int).toNat = i by omega] at h1
  rw [h1] at hq
  cases hq
  exact h i hi
section LWR
variable {p : Program} {l : Launch} {e : Env} {R : Room} {s : State} {m : MethodId} {args : Array Value} {below : List Frame} {meth : Method} {c : Code} {Q : State → Prop}
variable {cc : ByteArray} {nl : Nat} {own : String} {ret0 : Option FieldType} {G : rd_G} {cs sl : Nat}
variable {pc : Nat} {L S : List rd_X}
theorem lw_callW (C : rd_Cx p s m args meth c cc nl own ret0 G) {I : Heap → List Loc → Prop} {I' : rd_Mem → Heap → List Loc → Prop} {α : Type} {mk : α → rd_X} {kd : Int → Nat} {N w n idx k0 maxL : Nat} {y : MethodName} {bytes : ByteArray} {ret' : Option FieldType} {rm : Room} {as : List rd_X} {μ : rd_Mem} {Post : Option rd_X → rd_Mem → Prop} (hM : rd_M l G kd N w y bytes maxL ret' rm (rd_R 0 :: as) μ Post) (hok : rd_okM μ) (hoa : rd_okL as)
    (hlink : (.methodLink own idx y : Cond) ∈ rd_T) (hinst : (.instanceMethod y : Cond) ∈ rd_T) (hsel : (.selects y.cls y y : Cond) ∈ rd_T) (hcode : (.code y bytes maxL ret' : Cond) ∈ rd_T) (hini : (.initialized y.cls : Cond) ∈ rd_T) (hlim : rd_lim y n maxL rm R) (hn : as.length = n) (hkc : rd_KC k0 y.cls) (hd : decode cc pc = .ok (.invokevirtual idx, 3)) (hc : kd 0 = k0) (hN : 0 < N) (hmk : ∀ a, rd_val w (mk a) = rd_val 0 (mk a)) (has : as.map (rd_val w) = as.map (rd_val 0))
    (hP : ∀ H locs, I H locs → va_P G.1 rd_cl (rd_ws G kd N w μ) H)
    (hI : ∀ H locs H1 L' μ', I H locs → va_P G.1 rd_cl (rd_ws G kd N w μ') H1 → H.size ≤ H1.size → (∀ q : Nat, q < H.size → ¬ rd_A w N q → H1[q]? = H[q]?) → (∀ q ∈ L', rd_A w N q.base) → I' μ' H1 (locs ++ L'))
    (hv : ∀ v μ', Post v μ' → ∃ a, v = some (mk a)) {H : Heap} {locs : List Loc} {ls : Array Slot} {rest : List Value} (hcr : cs + 0 ≤ R.cells ∧ sl + 0 ≤ R.slots) (hls : ls.size = nl) (hIH : I H locs) (h8 : 2 * (F0 m pc ls (([] : List Value))).monitorRoom + (rest.map fun v => v.category).sum ≤ 8)
    (kk : ∀ (a : α) (μ' : rd_Mem) (H1 : Heap) (locs1 : List Loc), Post (some (mk a)) μ' → rd_okM μ' → rd_okX (mk a) → I' μ' H1 locs1 → W p l e R s m args below meth c H1 locs1 cs sl Q (F0 m (pc + 3) ls (rd_val 0 (mk a) :: rest))) : W p l e R s m args below meth c H locs cs sl Q (F0 m pc ls ((as.map (rd_val 0)).reverse ++ Value.ref w :: rest)) := by
  obtain ⟨hd1, hd2, hd3, hd4⟩ := hlim
  have hts := C.1.2.2.2.2
  have hPH := hP H locs hIH
  have hat := rd_at (G := G) (kd := kd) (N := N) (r := w) μ (k := 0) (by decide) (by omega)
  rw [hc] at hat
  obtain ⟨ci, fs, q, h1, h2, h3⟩ := hkc G w (μ 0) 0
  rw [h1] at hat
  have hcb : CallB R s args own idx y bytes maxL ret' (.code y bytes maxL ret' :: rd_T) rm 0 0 n := callB_of n hts (rd_goodc hcode) rfl hd2 hd3 (hts _ hini) (hts _ hlink) hd1 hd4
  have hrun : va_Run p l e R s m args below meth c H locs cs sl 0 0 (F0 m pc ls ((as.map (rd_val 0)).reverse ++ Value.ref w :: rest)) rest (rd_Qc G kd N w Post ((Value.ref w :: as.map (rd_val w)).toArray)) (rd_A w N) := by
    exact va_runV (As := as.map (rd_val w)) (rest := rest) (b := w) C.1 hM ⟨hcb, hts _ hinst, hts _ hsel⟩ ⟨rd_blind, by
      have h4 := va_recv C.2.2.2.1 hPH h2 hat
      rw [h3] at h4
      exact h4, fun U hU hW => ⟨rfl, hok, rd_okc trivial hoa, by rw [hU]; exact hPH, C.2.2.2.warm hW⟩⟩ rfl (by simpa using hn) hls (by rw [has]) h8 hd hcr
  intro T hT X
  obtain ⟨v, st₀, t, T', L', h0, X', hL', e1, e2, ⟨⟨v', μ', hvv, hp, hM', hO, hP'⟩, hz, hk⟩, st⟩ := hrun T hT X
  cases hvv
  rw [h0] at hz hk
  obtain ⟨a, ha⟩ := hv v' μ' hp
  subst ha
  obtain ⟨t2, a1, b1⟩ := kk a μ' T'.heap (locs ++ L') hp hM' (hO _ rfl) (hI H locs T'.heap L' μ' hIH (by rw [e1]; exact hP') (by rw [e1]; exact hz) (fun q h1 h2 => by rw [e1]; exact hk q h1 h2) hL') T' rfl X'
  refine ⟨t2, st t2 ?_, b1⟩
  have e3 : ((some (mk a)).map (rd_val w)).toList ++ rest = rd_val 0 (mk a) :: rest := by show rd_val w (mk a) :: rest = _; rw [hmk]
  rw [e3]
  exact a1
theorem lw_callV (C : rd_Cx p s m args meth c cc nl own ret0 G) {I : Heap → List Loc → Prop} {I' : rd_Mem → Heap → List Loc → Prop} {α : Type} {mk : α → rd_X} {kd : Int → Nat} {N w n idx k0 maxL : Nat} {y : MethodName} {bytes : ByteArray} {ret' : Option FieldType} {rm : Room} {as st : List rd_X} {μ : rd_Mem} {Post : Option rd_X → rd_Mem → Prop} (hM : rd_M l G kd N w y bytes maxL ret' rm (rd_R 0 :: as) μ Post) (hok : rd_okM μ)
    (hlink : (.methodLink own idx y : Cond) ∈ rd_T) (hinst : (.instanceMethod y : Cond) ∈ rd_T) (hsel : (.selects y.cls y y : Cond) ∈ rd_T) (hcode : (.code y bytes maxL ret' : Cond) ∈ rd_T) (hini : (.initialized y.cls : Cond) ∈ rd_T) (hlim : rd_lim y n maxL rm R) (hn : as.length = n) (hkc : rd_KC k0 y.cls) (hd : decode cc pc = .ok (.invokevirtual idx, 3)) (hc : kd 0 = k0) (hN : 0 < N) (hmk : ∀ a, rd_val w (mk a) = rd_val 0 (mk a)) (has : as.map (rd_val w) = as.map (rd_val 0)) (hst : st = as.reverse ++ rd_R (w : Int) :: S) (h8 : S.length ≤ 8)
    (hP : ∀ H locs, I H locs → va_P G.1 rd_cl (rd_ws G kd N w μ) H)
    (hI : ∀ H locs H1 L' μ', I H locs → va_P G.1 rd_cl (rd_ws G kd N w μ') H1 → H.size ≤ H1.size → (∀ q : Nat, q < H.size → ¬ rd_A w N q → H1[q]? = H[q]?) → (∀ q ∈ L', rd_A w N q.base) → I' μ' H1 (locs ++ L'))
    (hv : ∀ v μ', Post v μ' → ∃ a, v = some (mk a)) (hcr : cs + 0 ≤ R.cells ∧ sl + 0 ≤ R.slots)
    (kk : ∀ (a : α) (μ' : rd_Mem), Post (some (mk a)) μ' → rd_okM μ' → rx_W p l e R s m args below meth c Q nl 0 cs sl (I' μ') (pc + 3) L (mk a :: S)) : rx_W p l e R s m args below meth c Q nl 0 cs sl I pc L st := by
  subst hst
  intro hL hS H locs ls hl hIH
  obtain ⟨hOa, hOs⟩ := rd_okrev hS
  have ew : rd_val 0 (rd_R (w : Int)) = Value.ref w := congrArg Value.ref (show 0 + (w : Int).toNat = w by omega)
  have e1 : (as.reverse ++ rd_R (w : Int) :: S).map (rd_val 0) = (as.map (rd_val 0)).reverse ++ Value.ref w :: S.map (rd_val 0) := by
    rw [List.map_append, List.map_cons, ew, List.map_reverse]
  rw [e1]
  exact lw_callW C hM hok (rd_okt hOa) hlink hinst hsel hcode hini hlim hn hkc hd hc hN hmk has hP hI hv hcr hl.1 hIH (rd_room (m := m) (pc := pc) (ls := ls) h8) (fun a μ' H1 locs1 hp hM' hx hI1 => kk a μ' hp hM' hL (rd_okc hx hOs) H1 locs1 ls hl hI1)
theorem lw_I1 {r : Nat} {H0 : Heap} {μ ν : rd_Mem} (hr : H0.size = r) : ∀ H locs H1 L' μ', lw_I G r H0 μ ν H locs → va_P G.1 rd_cl (rd_ws G rd_kc 313 r μ') H1 → H.size ≤ H1.size → (∀ q : Nat, q < H.size → ¬ rd_A r 313 q → H1[q]? = H[q]?) → (∀ q ∈ L', rd_A r 313 q.base) → lw_I G r H0 μ' ν H1 (locs ++ L') := by
  intro H locs H1 L' μ' hI hP1 hz hk hL'
  obtain ⟨h1, h2, h3, h4, h5⟩ := hI
  refine ⟨hP1, h2.kept (fun k x hx => hk x.1 ((h2 k x hx).lt) (fun ha => ?_)), Nat.le_trans h3 hz, fun q hq hn => ?_, fun q hq => ?_⟩
  · have := (rd_ws_i hx).1
    unfold rd_A at ha; omega
  · rw [hk q (Nat.lt_of_lt_of_le hq h3) (fun ha => hn ha.1)]; exact h4 q hq hn
  · rcases List.mem_append.mp hq with h | h
    · exact h5 q h
    · exact (hL' q h).1
theorem lw_I2 {r : Nat} {H0 : Heap} {μ ν : rd_Mem} (hr : H0.size = r) : ∀ H locs H1 L' ν', lw_I G r H0 μ ν H locs → va_P G.1 rd_cl (rd_ws G rd_km 5 (r + 313) ν') H1 → H.size ≤ H1.size → (∀ q : Nat, q < H.size → ¬ rd_A (r + 313) 5 q → H1[q]? = H[q]?) → (∀ q ∈ L', rd_A (r + 313) 5 q.base) → lw_I G r H0 μ ν' H1 (locs ++ L') := by
  intro H locs H1 L' μ' hI hP1 hz hk hL'
  obtain ⟨h1, h2, h3, h4, h5⟩ := hI
  refine ⟨h1.kept (fun k x hx => hk x.1 ((h1 k x hx).lt) (fun ha => ?_)), hP1, Nat.le_trans h3 hz, fun q hq hn => ?_, fun q hq => ?_⟩
  · have := (rd_ws_i hx).1
    have := (rd_ws_i hx).2
    unfold rd_A at ha; omega
  · rw [hk q (Nat.lt_of_lt_of_le hq h3) (fun ha => hn (by have := ha.1; show r ≤ q; omega))]; exact h4 q hq hn
  · rcases List.mem_append.mp hq with h | h
    · exact h5 q h
    · have := (hL' q h).1; show r ≤ q.base; omega
/-- the script -/
def lw_x (xs : Nat → Int32) (i : Int) : Int := (xs i.toNat).toInt
theorem lw_x_i (xs : Nat → Int32) (i : Int) : rd_i (lw_x xs i) = xs i.toNat := Int32.ofInt_toInt _
theorem lw_x_ok (xs : Nat → Int32) (i : Int) : rd_ok (lw_x xs i) := ⟨Int32.le_toInt _, Int32.toInt_lt _⟩
theorem lw_ald (C : rd_Cx p s m args meth c cc nl own ret0 G) {I : Heap → List Loc → Prop} {b L0 : Nat} {xs : Nat → Int32} {i : Int} (hX : va_X b L0 xs s s.heap) (hbl : b < s.heap.size) (hi : 0 ≤ i ∧ i < L0) (hI : ∀ H locs, I H locs → va_S (fun q => s.heap.size ≤ q) s.heap H locs) (hd : decode cc pc = .ok (.iaload, 1))
    (kk : rx_W p l e R s m args below meth c Q nl 0 cs sl I (pc + 1) L (rd_I (lw_x xs i) :: S)) : rx_W p l e R s m args below meth c Q nl 0 cs sl I pc L (rd_I i :: rd_R (b : Int) :: S) := by
  intro hL hS H locs ls hl hIH
  have hio : rd_ok i := rd_okh hS
  have eb : rd_val 0 (rd_R (b : Int)) = Value.ref b := congrArg Value.ref (show 0 + (b : Int).toNat = b by omega)
  have h1 := kk hL (rd_okc (lw_x_ok xs i) (rd_okt (rd_okt hS))) H locs ls hl hIH
  rw [List.map_cons, List.map_cons, eb]
  refine va_sld C.1.1 C.1.2.1 hX hbl (Nat.not_le.mpr hbl) (hI H locs hIH) (rd_vin hi.1 hi.2 hio) hd ?_
  have e1 : Value.int (xs (rd_i i).toNatClampNeg) = rd_val 0 (rd_I (lw_x xs i)) := by
    rw [rd_cl0 hio]; show _ = Value.int (rd_i (lw_x xs i)); rw [lw_x_i]
  rw [e1]
  exact h1
theorem lw_alen (C : rd_Cx p s m args meth c cc nl own ret0 G) {I : Heap → List Loc → Prop} {b L0 : Nat} {xs : Nat → Int32} (hX : va_X b L0 xs s s.heap) (hbl : b < s.heap.size) (hL0 : L0 ≤ 2560) (hI : ∀ H locs, I H locs → va_S (fun q => s.heap.size ≤ q) s.heap H locs) (hd : decode cc pc = .ok (.arraylength, 1))
    (kk : rx_W p l e R s m args below meth c Q nl 0 cs sl I (pc + 1) L (rd_I (L0 : Int) :: S)) : rx_W p l e R s m args below meth c Q nl 0 cs sl I pc L (rd_R (b : Int) :: S) := by
  intro hL hS H locs ls hl hIH
  have eb : rd_val 0 (rd_R (b : Int)) = Value.ref b := congrArg Value.ref (show 0 + (b : Int).toNat = b by omega)
  have h1 := kk hL (rd_okc (show rd_ok (L0 : Int) from ⟨by omega, by omega⟩) (rd_okt hS)) H locs ls hl hIH
  rw [List.map_cons, eb]
  refine va_slen C.1.1 C.1.2.1 hX hbl (Nat.not_le.mpr hbl) (hI H locs hIH) hd ?_
  have e1 : Value.int (Int32.ofNat L0) = rd_val 0 (rd_I (L0 : Int)) := by
    show Value.int _ = Value.int (Int32.ofInt (L0 : Int)); rw [Int32.ofInt_eq_ofNat]
  rw [e1]
  exact h1
variable {r k n : Nat} {E : Nat → va_E} {H0 : Heap}
theorem lw_new (C : rd_Cx p s m args meth c cc nl own ret0 G) {ci N idx : Nat} {Cn : String} {T : u_T} {ty : Nat → FieldType} {fs : List Value} (hin : ∀ w ∈ u_ws Cn T N, w ∈ rd_T) (hty : ∀ k, k < N → parseFieldDescriptor (T k).2.2.1 = some (ty k)) (hc : rd_cl[ci]? = some (Cn, T, N)) (hw1 : (Cond.classLink own idx Cn) ∈ rd_T) (hw2 : (Cond.instantiable Cn N) ∈ rd_T) (hw3 : (Cond.initialized Cn) ∈ rd_T) (hfs : ∀ j, j < N → defaultValue (ty j) = vp_V fs j) (hkn : k ≤ n) (hcells : cs + 1 ≤ R.cells) (hslots : sl + N ≤ R.slots) (hd : decode cc pc = .ok (.new idx, 3))
    (kk : rx_W p l e R s m args below meth c Q nl 0 (cs + 1) (sl + N) (rg_I G r k (n + 1) (rg_u E n (.inr (ci, fs))) H0) (pc + 3) L (rd_R ((r + n : Nat) : Int) :: S)) : rx_W p l e R s m args below meth c Q nl 0 cs sl (rg_I G r k n E H0) pc L S := by
  intro hL hS H locs ls hl hI
  obtain ⟨⟨hsz, hat, hfr⟩, hlo⟩ := hI
  have hts := C.1.2.2.2.2
  have hKn := C.2.2.2.1.1 ci _ hc
  refine W.newcK C.1.1 C.1.2.1 C.1.2.2.2.1 (hts _ hw1) (hts _ hw2) (hts _ hw3) rfl hd hcells hslots hKn.2.1 rfl fun H1 kC hkC e1 z1 o1 => ?_
  have h1 := kk hL (rd_okc trivial hS) H1 locs ls hl ⟨⟨by omega, fun j j0 j1 => ?_, fun q hq => (o1 q (by omega)).trans (hfr q hq)⟩, hlo⟩
  · have e2 : rd_val 0 (rd_R ((r + n : Nat) : Int)) = Value.ref H.size := congrArg Value.ref (show 0 + ((r + n : Nat) : Int).toNat = H.size by omega)
    have e3 : (rd_R ((r + n : Nat) : Int) :: S).map (rd_val 0) = Value.ref H.size :: S.map (rd_val 0) := by rw [List.map_cons, e2]
    rw [e3] at h1
    exact h1
  · by_cases hj : j = n
    · rw [hj, rg_u_s, ← hsz]
      exact ⟨_, hc, (u_born ty hts hin hKn hkC e1 hty).to hfs⟩
    · rw [rg_u_n _ _ hj]
      exact (hat j j0 (by omega)).kept (o1 _ (by omega))
theorem lw_init (C : rd_Cx p s m args meth c cc nl own ret0 G) (hK : rg_Ke G s) {y : MethodName} {bytes : ByteArray} {maxL fr lo mc ms n0 N idx j : Nat} {E0 E' : Nat → va_E} (hM : rg_M l G y bytes maxL fr lo mc ms r j n0 N E0 E') (hlink : (.methodLink own idx y : Cond) ∈ rd_T) (hnm : y.name = "<init>") (hinst : (.instanceMethod y : Cond) ∈ rd_T)  (hcode : (.code y bytes maxL none : Cond) ∈ rd_T) (hini : (.initialized y.cls : Cond) ∈ rd_T) (hlim : rg_lim y maxL fr lo mc ms cs sl R) (hd : decode cc pc = .ok (.invokespecial idx, 3)) (hj : k ≤ j) (hE : ∀ i : Nat, j ≤ i → i < j + n0 → E i = E0 i) (h8 : S.length ≤ 8)
    (kk : rx_W p l e R s m args below meth c Q nl 0 (cs + mc) (sl + ms) (rg_I G r k (j + N) (rg_if E E' j) H0) (pc + 3) L S) : rx_W p l e R s m args below meth c Q nl 0 cs sl (rg_I G r k (j + n0) E H0) pc L (rd_R ((r + j : Nat) : Int) :: S) := by
  intro hL hS H locs ls hl hI
  obtain ⟨hd1, hd2, hd3⟩ := hlim
  have hts := C.1.2.2.2.2
  have hcb : CallB R s args own idx y bytes maxL none (.code y bytes maxL none :: rd_T) (rg_rm fr lo mc ms) mc ms 0 := callB_of 0 hts (rd_goodc hcode) rfl rfl rfl (hts _ hini) (hts _ hlink) hd1 hd2
  have ej : rd_val 0 (rd_R ((r + j : Nat) : Int)) = Value.ref (r + j) := congrArg Value.ref (show 0 + ((r + j : Nat) : Int).toNat = r + j by omega)
  rw [List.map_cons, ej]
  refine rg_cont (va_runI (As := []) (rest := S.map (rd_val 0)) (b := r + j) C.1 hM ⟨hcb, hnm, hts _ hinst⟩ ⟨rg_blind, fun U hU hW => ⟨rfl, by rw [hU]; exact hI.1.1, fun i i0 i1 => by rw [hU, ← hE i i0 i1]; exact hI.1.2.1 i (by omega) i1, hK.warm hW⟩⟩ rfl rfl hl.1 rfl (rd_room h8) hd hd3) hI hj (fun H1 locs1 hI1 => kk hL (rd_okt hS) H1 locs1 ls hl hI1)
theorem lw_sw (hr : s.heap.size = r) {E2 : Nat → va_E} (kk : ∀ Hm : Heap, rg_H G r 0 n E s.heap Hm → rx_W p l e R s m args below meth c Q nl 0 cs sl (rg_I G (r + n) 0 0 E2 Hm) pc L S) : rx_W p l e R s m args below meth c Q nl 0 cs sl (rg_I G r 0 n E s.heap) pc L S := fun hL hS H locs ls hl hI =>
  va_forget (fun q hq => by have := hI.2 q hq; omega) (kk H hI.1 hL hS H [] ls hl ⟨⟨hI.1.1, fun j j0 j1 => absurd j1 (by omega), fun _ _ => rfl⟩, fun q hq => absurd hq List.not_mem_nil⟩)
end LWR
