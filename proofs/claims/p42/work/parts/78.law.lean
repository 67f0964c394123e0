def R_law : String := "RevealDeckLaw"
def lw_P (b : Addr) (xs : List Int32) (args : Array Value) (s : State) : Prop := args = #[.ref b] ∧ s.IntsAt b xs ∧ xs.length ≤ 260 ∧ (Jvm.Cond.and given_1 narrow_1).before args s = true
theorem lw_closed {s t : State} {o : Outcome} {d0 : Drawn} {L : List Loc} {k n : Nat} (hd0 : s.drawn.sameBut d0 lw_cs) (hv : ∃ v, o = .returned v) (hW : (s.setDrawn d0).WarmedH t.vm) (hs : (s.setDrawn d0).sameButNew ({ t with vm := s.vm } : State) L k n) : State.butDraws s t lw_cs (fun t1 => Framed s o t1 L k n) := by
  have h2 : t.drawn = d0 := congrArg State.drawn hs.1
  refine ⟨⟨hv, hW, State.sameButNew.setDrawn hs s.drawn⟩, ?_, by decide⟩
  rw [h2]
  exact hd0
def lw_Q (_ : Array Value) (s : State) (o : Outcome) (t : State) : Prop := o = .returned (some (.int 1)) ∧ State.butDraws s t lw_cs (fun t1 => Framed s o t1 [] 600000 7302250)
def lw_Z (below : List Frame) (a : Array Value) (s : State) : State → Prop := fun t => ∃ o, t.status = .running ∧ Ended t below o ∧ lw_Q a s o t
theorem lw_ret {p : Program} {l : Launch} {e : Env} {s : State} {m : MethodId} {below : List Frame} {meth : Method} {c : Code} {b : Nat} {d0 : Drawn} (hd0 : s.drawn.sameBut d0 lw_cs) (hx : p.tables.exec = Jvm.exec) (hb : c.code = code) (hr : meth.sig.returnType = ret) (hlocks : meth.locks = false) {pc : Nat} {H : Heap} {ls : Array Slot} (hdg : decode code pc = .ok (.ireturn, 1)) : W p l e room_1 (s.setDrawn d0) m #[Value.ref b] below meth c H [] 600000 7302250 (lw_Z below #[Value.ref b] s) (F0 m pc ls [.int 1]) := by
  intro T hT X
  obtain ⟨fs, hret, hrun, hended, hW, hframe⟩ := X.leave (v := some (.int 1)) (hlocks := hlocks) (fun h => by rw [hr] at h; cases h)
  have hmeth' : T.vm.method? m = some meth := X.method'
  refine ⟨T.setFrames fs, ?_, .returned (some (.int 1)), hrun, hended, rfl, lw_closed hd0 ⟨_, rfl⟩ hW hframe⟩
  jvm_step X.here [X.here.top, hx, hb, hdg, hmeth', hr, ret, narrow_b1]
  (try refine ⟨rfl, ?_⟩); (try refine ⟨rfl, ?_⟩)
  first | (intro acts; rw [hret _ acts rfl rfl rfl]) | rw [hret _ _ rfl rfl rfl]
  exact Steps.refl _
def lw_At (p : Program) (s : State) (m : MethodId) (meth : Method) (c : Code) (b L : Nat) (xs : Nat → Int32) : Prop :=
  p.tables.exec = Jvm.exec ∧ c.code = code ∧ meth.sig.returnType = ret ∧ c.maxLocals = 11 ∧ s.vm.findClass R_law = some m.cls ∧ (∀ w ∈ lw_tbl, w.before #[Value.ref b] s = true) ∧ va_X b L xs s s.heap ∧ b < s.heap.size ∧ meth.locks = false ∧ (Jvm.Cond.and given_1 narrow_1).before #[Value.ref b] s = true
/-! the law: rows -/
theorem rd_ws_i {G : rd_G} {kd : Int → Nat} {N r : Nat} {μ : rd_Mem} {i : Nat} {q : Nat × va_E} (h : (rd_ws G kd N r μ)[i]? = some q) : q.1 = r + i ∧ i < N := by
  simp only [rd_ws, List.getElem?_map, Option.map_eq_some_iff] at h
  obtain ⟨j, hj, rfl⟩ := h
  have hi : i < N := by
    have := (List.getElem?_eq_some_iff.mp hj).1
    simpa using this
  rw [List.getElem?_range hi] at hj
  cases hj
  exact ⟨rfl, hi⟩
theorem rd_ws_P {G : rd_G} {kd : Int → Nat} {N r : Nat} {μ : rd_Mem} {H : Heap} (h : ∀ j : Nat, j < N → va_at G.1 rd_cl (r + j, rd_cell G r (μ (j : Int)) (j : Int) (kd (j : Int))) H) : va_P G.1 rd_cl (rd_ws G kd N r μ) H := fun i q hq => by
  have hi := (rd_ws_i hq).2
  have h1 := rd_at (G := G) (kd := kd) (N := N) (r := r) μ (k := (i : Int)) (by omega) (by omega)
  rw [show (i : Int).toNat = i by omega] at h1
  rw [h1] at hq
  cases hq
  exact h i hi
section LWR
variable {p : Program} {l : Launch} {e : Env} {R : Room} {s : State} {m : MethodId} {args : Array Value} {below : List Frame} {meth : Method} {c : Code} {Q : State → Prop}
variable {cc : ByteArray} {nl : Nat} {own : String} {ret0 : Option FieldType} {G : rd_G} {cs sl : Nat}
variable {pc : Nat} {L S : List rd_X}
/-- the script -/
def lw_x (xs : Nat → Int32) (i : Int) : Int := (xs i.toNat).toInt
theorem lw_x_i (xs : Nat → Int32) (i : Int) : rd_i (lw_x xs i) = xs i.toNat := Int32.ofInt_toInt _
theorem lw_x_ok (xs : Nat → Int32) (i : Int) : rd_ok (lw_x xs i) := ⟨Int32.le_toInt _, Int32.toInt_lt _⟩
theorem lw_ald (C : rd_Cx p s m args meth c cc nl own ret0 G) {I : Heap → List Loc → Prop} {b L0 : Nat} {xs : Nat → Int32} {i : Int} (hX : va_X b L0 xs s s.heap) (hbl : b < s.heap.size) (hi : 0 ≤ i ∧ i < L0) (hI : ∀ H locs, I H locs → va_S (fun q => s.heap.size ≤ q) s.heap H locs) (hd : decode cc pc = .ok (.iaload, 1))
    (kk : rx_W p l e R s m args below meth c Q nl 0 cs sl I (pc + 1) L (rd_I (lw_x xs i) :: S)) : rx_W p l e R s m args below meth c Q nl 0 cs sl I pc L (rd_I i :: rd_R (b : Int) :: S) := by
  intro hL hS H locs ls hl hIH
  have hio : rd_ok i := rd_okh hS
  have eb : rd_val 0 (rd_R (b : Int)) = Value.ref b := congrArg Value.ref (show 0 + (b : Int).toNat = b by omega)
  have h1 := kk hL (rd_okc (lw_x_ok xs i) (rd_okt (rd_okt hS))) H locs ls hl hIH
  rw [List.map_cons, List.map_cons, eb]
  refine va_sld C.1.1 C.1.2.1 hX hbl (Nat.not_le.mpr hbl) (hI H locs hIH) (rd_vin hi.1 hi.2 hio) hd ?_
  have e1 : Value.int (xs (rd_i i).toNatClampNeg) = rd_val 0 (rd_I (lw_x xs i)) := by
    rw [rd_cl0 hio]; show _ = Value.int (rd_i (lw_x xs i)); rw [lw_x_i]
  rw [e1]
  exact h1
theorem lw_alen (C : rd_Cx p s m args meth c cc nl own ret0 G) {I : Heap → List Loc → Prop} {b L0 : Nat} {xs : Nat → Int32} (hX : va_X b L0 xs s s.heap) (hbl : b < s.heap.size) (hL0 : L0 ≤ 2560) (hI : ∀ H locs, I H locs → va_S (fun q => s.heap.size ≤ q) s.heap H locs) (hd : decode cc pc = .ok (.arraylength, 1))
    (kk : rx_W p l e R s m args below meth c Q nl 0 cs sl I (pc + 1) L (rd_I (L0 : Int) :: S)) : rx_W p l e R s m args below meth c Q nl 0 cs sl I pc L (rd_R (b : Int) :: S) := by
  intro hL hS H locs ls hl hIH
  have eb : rd_val 0 (rd_R (b : Int)) = Value.ref b := congrArg Value.ref (show 0 + (b : Int).toNat = b by omega)
  have h1 := kk hL (rd_okc (show rd_ok (L0 : Int) from ⟨by omega, by omega⟩) (rd_okt hS)) H locs ls hl hIH
  rw [List.map_cons, eb]
  refine va_slen C.1.1 C.1.2.1 hX hbl (Nat.not_le.mpr hbl) (hI H locs hIH) hd ?_
  have e1 : Value.int (Int32.ofNat L0) = rd_val 0 (rd_I (L0 : Int)) := by
    show Value.int _ = Value.int (Int32.ofInt (L0 : Int)); rw [Int32.ofInt_eq_ofNat]
  rw [e1]
  exact h1
variable {r k n : Nat} {E : Nat → va_E} {H0 : Heap}
theorem lw_new (C : rd_Cx p s m args meth c cc nl own ret0 G) {ci N idx : Nat} {Cn : String} {T : u_T} {ty : Nat → FieldType} {fs : List Value} (hin : ∀ w ∈ u_ws Cn T N, w ∈ rd_T) (hty : ∀ k, k < N → parseFieldDescriptor (T k).2.2.1 = some (ty k)) (hc : rd_cl[ci]? = some (Cn, T, N)) (hw1 : (Cond.classLink own idx Cn) ∈ rd_T) (hw2 : (Cond.instantiable Cn N) ∈ rd_T) (hw3 : (Cond.initialized Cn) ∈ rd_T) (hfs : ∀ j, j < N → defaultValue (ty j) = vp_V fs j) (hkn : k ≤ n) (hcells : cs + 1 ≤ R.cells) (hslots : sl + N ≤ R.slots) (hd : decode cc pc = .ok (.new idx, 3))
    (kk : rx_W p l e R s m args below meth c Q nl 0 (cs + 1) (sl + N) (rg_I G r k (n + 1) (rg_u E n (.inr (ci, fs))) H0) (pc + 3) L (rd_R ((r + n : Nat) : Int) :: S)) : rx_W p l e R s m args below meth c Q nl 0 cs sl (rg_I G r k n E H0) pc L S := by
  intro hL hS H locs ls hl hI
  obtain ⟨⟨hsz, hat, hfr⟩, hlo⟩ := hI
  have hts := C.1.2.2.2.2
  have hKn := C.2.2.2.1.1 ci _ hc
  refine W.newcK C.1.1 C.1.2.1 C.1.2.2.2.1 (hts _ hw1) (hts _ hw2) (hts _ hw3) rfl hd hcells hslots hKn.2.1 rfl fun H1 kC hkC e1 z1 o1 => ?_
  have h1 := kk hL (rd_okc trivial hS) H1 locs ls hl ⟨⟨by omega, fun j j0 j1 => ?_, fun q hq => (o1 q (by omega)).trans (hfr q hq)⟩, hlo⟩
  · have e2 : rd_val 0 (rd_R ((r + n : Nat) : Int)) = Value.ref H.size := congrArg Value.ref (show 0 + ((r + n : Nat) : Int).toNat = H.size by omega)
    have e3 : (rd_R ((r + n : Nat) : Int) :: S).map (rd_val 0) = Value.ref H.size :: S.map (rd_val 0) := by rw [List.map_cons, e2]
    rw [e3] at h1
    exact h1
  · by_cases hj : j = n
    · rw [hj, rg_u_s, ← hsz]
      exact ⟨_, hc, (u_born ty hts hin hKn hkC e1 hty).to hfs⟩
    · rw [rg_u_n _ _ hj]
      exact (hat j j0 (by omega)).kept (o1 _ (by omega))
theorem lw_init (C : rd_Cx p s m args meth c cc nl own ret0 G) (hK : rg_Ke G s) {y : MethodName} {bytes : ByteArray} {maxL fr lo mc ms n0 N idx j : Nat} {E0 E' : Nat → va_E} (hM : rg_M l G y bytes maxL fr lo mc ms r j n0 N E0 E') (hlink : (.methodLink own idx y : Cond) ∈ rd_T) (hnm : y.name = "<init>") (hinst : (.instanceMethod y : Cond) ∈ rd_T)  (hcode : (.code y bytes maxL none : Cond) ∈ rd_T) (hini : (.initialized y.cls : Cond) ∈ rd_T) (hlim : rg_lim y maxL fr lo mc ms cs sl R) (hd : decode cc pc = .ok (.invokespecial idx, 3)) (hj : k ≤ j) (hE : ∀ i : Nat, j ≤ i → i < j + n0 → E i = E0 i) (h8 : rd_wt S ≤ 8)
    (kk : rx_W p l e R s m args below meth c Q nl 0 (cs + mc) (sl + ms) (rg_I G r k (j + N) (rg_if E E' j) H0) (pc + 3) L S) : rx_W p l e R s m args below meth c Q nl 0 cs sl (rg_I G r k (j + n0) E H0) pc L (rd_R ((r + j : Nat) : Int) :: S) := by
  intro hL hS H locs ls hl hI
  obtain ⟨hd1, hd2, hd3⟩ := hlim
  have hts := C.1.2.2.2.2
  have hcb : CallB R s args own idx y bytes maxL none (.code y bytes maxL none :: rd_T) (rg_rm fr lo mc ms) mc ms 0 := callB_of 0 hts (rd_goodc hcode) rfl rfl rfl (hts _ hini) (hts _ hlink) hd1 hd2
  have ej : rd_val 0 (rd_R ((r + j : Nat) : Int)) = Value.ref (r + j) := congrArg Value.ref (show 0 + ((r + j : Nat) : Int).toNat = r + j by omega)
  rw [List.map_cons, ej]
  refine rg_cont (va_runI (As := []) (rest := S.map (rd_val 0)) (b := r + j) C.1 hM ⟨hcb, hnm, hts _ hinst⟩ ⟨rg_blind, fun U hU hW => ⟨rfl, by rw [hU]; exact hI.1.1, fun i i0 i1 => by rw [hU, ← hE i i0 i1]; exact hI.1.2.1 i (by omega) i1, hK.warm hW⟩⟩ rfl rfl hl.1 rfl (rd_room h8) hd hd3) hI hj (fun H1 locs1 hI1 => kk hL (rd_okt hS) H1 locs1 ls hl hI1)
end LWR

section LPR
variable {p : Program} {l : Launch} {e : Env} {R : Room} {s : State} {m : MethodId} {args : Array Value} {below : List Frame} {meth : Method} {c : Code} {Q : State → Prop}
variable {cc : ByteArray} {nl : Nat} {own : String} {ret0 : Option FieldType} {G : rd_G} {cs sl : Nat}
variable {pc : Nat} {L S : List rd_X} {r : Nat} {I : Heap → List Loc → Prop}
theorem rx_ldc (C : rd_Cx p s m args meth c cc nl own ret0 G) {i : Nat} {v : Int32} {n : Int} (hw : Cond.constant own i v ∈ rd_T) (hd : decode cc pc = .ok (.ldc i, 2)) (hv : v = rd_i n) (hn : rd_ok n) (k : rx_W p l e R s m args below meth c Q nl r cs sl I (pc + 2) L (rd_I n :: S)) : rx_W p l e R s m args below meth c Q nl r cs sl I pc L S := by
  intro hL hS H locs ls hl hI
  subst hv
  exact lv_ldc C.1.1 C.1.2.1 C.1.2.2.2.1 (C.1.2.2.2.2 _ hw) hd (k hL (rd_okc hn hS) H locs ls hl hI)
theorem rx_imulw (C : rd_Cx p s m args meth c cc nl own ret0 G) {a b : Int} (hd : decode cc pc = .ok (.imul, 1)) (k : rx_W p l e R s m args below meth c Q nl r cs sl I (pc + 1) L (rd_I (rd_w (a * b)) :: S)) : rx_W p l e R s m args below meth c Q nl r cs sl I pc L (rd_I b :: rd_I a :: S) := by
  intro hL hS H locs ls hl hI
  have h2 := k hL (rd_okc (rd_w_ok _) (rd_okt (rd_okt hS))) H locs ls hl hI
  refine lv_imul C.1.1 C.1.2.1 hd ?_
  rw [rd_mul, ← rd_w_i]
  exact h2
theorem rx_imul (C : rd_Cx p s m args meth c cc nl own ret0 G) {a b z : Int} (hd : decode cc pc = .ok (.imul, 1)) (hz : a * b = z) (hok : rd_ok z) (k : rx_W p l e R s m args below meth c Q nl r cs sl I (pc + 1) L (rd_I z :: S)) : rx_W p l e R s m args below meth c Q nl r cs sl I pc L (rd_I b :: rd_I a :: S) := by
  refine rx_imulw C hd ?_
  rw [hz, rd_w_id hok]; exact k
theorem rx_ishr (C : rd_Cx p s m args meth c cc nl own ret0 G) {a b z : Int} (hd : decode cc pc = .ok (.ishr, 1)) (hz : rd_i a >>> (rd_i b &&& 31) = rd_i z) (hok : rd_ok z) (k : rx_W p l e R s m args below meth c Q nl r cs sl I (pc + 1) L (rd_I z :: S)) : rx_W p l e R s m args below meth c Q nl r cs sl I pc L (rd_I b :: rd_I a :: S) := by
  intro hL hS H locs ls hl hI
  have h2 := k hL (rd_okc hok (rd_okt (rd_okt hS))) H locs ls hl hI
  refine lv_ishr C.1.1 C.1.2.1 hd ?_
  rw [hz]; exact h2
theorem rx_irem (C : rd_Cx p s m args meth c cc nl own ret0 G) {a b z : Int} (hd : decode cc pc = .ok (.irem, 1)) (hb0 : ¬ rd_i b = 0) (hz : rd_i a - rd_i a / rd_i b * rd_i b = rd_i z) (hok : rd_ok z) (k : rx_W p l e R s m args below meth c Q nl r cs sl I (pc + 1) L (rd_I z :: S)) : rx_W p l e R s m args below meth c Q nl r cs sl I pc L (rd_I b :: rd_I a :: S) := by
  intro hL hS H locs ls hl hI
  have h2 := k hL (rd_okc hok (rd_okt (rd_okt hS))) H locs ls hl hI
  refine lv_irem C.1.1 C.1.2.1 hd hb0 ?_
  rw [hz]; exact h2
theorem rx_lload (C : rd_Cx p s m args meth c cc nl own ret0 G) {i : Nat} {z : Int64} (hd : decode cc pc = .ok (.lload i, 2)) (hx : L[i]? = some (rd_Z z)) (k : rx_W p l e R s m args below meth c Q nl r cs sl I (pc + 2) L (rd_Z z :: S)) : rx_W p l e R s m args below meth c Q nl r cs sl I pc L S := by
  intro hL hS H locs ls hl hI
  exact lv_lload (x := z) C.1.1 C.1.2.1 hd (rd_lget hl hx (fun h => by cases h)) (k hL (rd_okc (x := rd_Z z) trivial hS) H locs ls hl hI)
theorem rx_lstore (C : rd_Cx p s m args meth c cc nl own ret0 G) {i : Nat} {z : Int64} (hd : decode cc pc = .ok (.lstore i, 2)) (hi : i + 1 < nl) {L' : List rd_X} (hL' : rd_set2 L i (rd_Z z) = L') (k : rx_W p l e R s m args below meth c Q nl r cs sl I (pc + 2) L' S) : rx_W p l e R s m args below meth c Q nl r cs sl I pc L (rd_Z z :: S) := by
  intro hL hS H locs ls hl hI
  subst hL'
  obtain ⟨ls', e', h'⟩ := rd_store2 z hl hi
  have h2 := k (rd_set_ok (rd_set_ok hL (x := rd_J) trivial) (x := rd_Z z) trivial) (rd_okt hS) H locs ls' h' hI
  have hx := C.1.1
  have hb := C.1.2.1
  have e1 : storeLocals ls i (.long z) = some ls' := e'
  intro T hT X
  obtain ⟨t, a, b⟩ := h2 T hT X
  refine ⟨t, ?_, b⟩
  have htop := X.here.top
  show Steps p.tables e below (T.setTop (F0 m pc ls (.long z :: S.map (rd_val r)))) t
  jvm_step X.here [htop, ↓top_set htop, hx, hb, hd, e1]
  exact a
theorem rx_lcmp (C : rd_Cx p s m args meth c cc nl own ret0 G) {a : Int64} (hd : decode cc pc = .ok (.lcmp, 1)) (k : rx_W p l e R s m args below meth c Q nl r cs sl I (pc + 1) L (rd_I 0 :: S)) : rx_W p l e R s m args below meth c Q nl r cs sl I pc L (rd_Z a :: rd_Z a :: S) := by
  intro hL hS H locs ls hl hI
  refine W.lcmp C.1.1 C.1.2.1 hd ?_
  rw [lg_cmp_self]
  exact k hL (rd_okc (x := rd_I 0) rd_ok0 (rd_okt (rd_okt hS))) H locs ls hl hI
theorem rx_if_ne (C : rd_Cx p s m args meth c cc nl own ret0 G) {a off : Int} {tgt : Nat} (hd : decode cc pc = .ok (.ifCond .ne off, 3)) (ht : (pc : Int) + off = (tgt : Int)) (kt : a ≠ 0 → rx_W p l e R s m args below meth c Q nl r cs sl I tgt L S) (kf : a = 0 → rx_W p l e R s m args below meth c Q nl r cs sl I (pc + 3) L S) : rx_W p l e R s m args below meth c Q nl r cs sl I pc L (rd_I a :: S) := by
  intro hL hS H locs ls hl hI
  have ha : rd_ok a := rd_okh hS
  have h0 := rd_eq ha rd_ok0
  rw [rd_z] at h0
  exact lv_if_ne C.1.1 C.1.2.1 hd ht (fun h => kt (fun q => h (h0.mpr q)) hL (rd_okt hS) H locs ls hl hI) (fun h => kf (h0.mp h) hL (rd_okt hS) H locs ls hl hI)
theorem rx_if_lt (C : rd_Cx p s m args meth c cc nl own ret0 G) {a off : Int} {tgt : Nat} (hd : decode cc pc = .ok (.ifCond .lt off, 3)) (ht : (pc : Int) + off = (tgt : Int)) (kt : a < 0 → rx_W p l e R s m args below meth c Q nl r cs sl I tgt L S) (kf : ¬ (a < 0) → rx_W p l e R s m args below meth c Q nl r cs sl I (pc + 3) L S) : rx_W p l e R s m args below meth c Q nl r cs sl I pc L (rd_I a :: S) := by
  intro hL hS H locs ls hl hI
  have ha : rd_ok a := rd_okh hS
  have h0 := (rd_lt ha rd_ok0)
  rw [rd_z] at h0
  exact lv_if_lt C.1.1 C.1.2.1 hd ht (fun h => kt (h0.mp h) hL (rd_okt hS) H locs ls hl hI) (fun h => kf (fun q => h (h0.mpr q)) hL (rd_okt hS) H locs ls hl hI)
theorem rx_icmp_ne (C : rd_Cx p s m args meth c cc nl own ret0 G) {a b off : Int} {tgt : Nat} (hd : decode cc pc = .ok (.if_icmp .ne off, 3)) (ht : (pc : Int) + off = (tgt : Int)) (kt : a ≠ b → rx_W p l e R s m args below meth c Q nl r cs sl I tgt L S) (kf : a = b → rx_W p l e R s m args below meth c Q nl r cs sl I (pc + 3) L S) : rx_W p l e R s m args below meth c Q nl r cs sl I pc L (rd_I b :: rd_I a :: S) := by
  intro hL hS H locs ls hl hI
  have hb : rd_ok b := rd_okh hS
  have ha : rd_ok a := rd_okh (rd_okt hS)
  exact lv_icmp_ne C.1.1 C.1.2.1 hd ht (fun h => kt ((not_congr (rd_eq ha hb)).mp h) hL (rd_okt (rd_okt hS)) H locs ls hl hI) (fun h => kf ((rd_eq ha hb).mp h) hL (rd_okt (rd_okt hS)) H locs ls hl hI)
theorem rx_drop {L' : List rd_X} (i : Nat) (hL' : L.set i rd_J = L') (k : rx_W p l e R s m args below meth c Q nl r cs sl I pc L' S) : rx_W p l e R s m args below meth c Q nl r cs sl I pc L S := by
  subst hL'
  refine k.sub (fun j x hx => ?_)
  by_cases h : j = i
  · subst h
    have hlt : j < L.length := by
      have := (List.getElem?_eq_some_iff.mp hx).1
      simpa using this
    rw [List.getElem?_set_self hlt] at hx
    cases hx; exact Or.inl rfl
  · rw [List.getElem?_set_ne (Ne.symm h)] at hx; exact Or.inr hx
end LPR
/-! the script's cell -/
def lc_Pc (G : rd_G) (b L0 : Nat) (xs : Nat → Int32) (k : Int) : Array Value → State → Prop := fun v U => v = ([Value.ref b, Value.int (rd_i k)] : List Value).toArray ∧ va_X b L0 xs U U.heap ∧ b < U.heap.size ∧ rd_Ke G U
def lc_Qc : Array Value → State → Outcome → State → Prop := fun _ st oc t => (∃ z : Int, rd_ok z ∧ oc = .returned (some (.int (rd_i z)))) ∧ t.heap = st.heap
set_option maxHeartbeats 1000000 in
theorem c_L_cell {l : Launch} {G : rd_G} {b L0 : Nat} {xs : Nat → Int32} {k : Int} (hk : 0 ≤ k ∧ k ≤ 1000) (hL0 : L0 ≤ 260) : Met l yL_cell (.code yL_cell cL_cell 2 (some .int) :: rd_T) (rd_rm 0 0) (lc_Pc G b L0 xs k) lc_Qc 0 0 (fun _ => False) := by
  refine Met.ofW (cc := cL_cell) (maxL := 2) (ret := some .int) (by decide +kernel) rfl ?_
  intro p e s m args below meth c s₁ B hml hv
  obtain ⟨rfl, hX, hbl, hK⟩ := hv
  have hts := atoms_spec (ws := .code yL_cell cL_cell 2 (some .int) :: rd_T) B.pre
  have hown : s.vm.findClass yL_cell.cls = some m.cls := findClass_of_methodNamed B.named
  have C : rd_Cx p s m ([Value.ref b, Value.int (rd_i k)] : List Value).toArray meth c cL_cell 2 RL (some .int) G := ⟨⟨B.exec, B.bytes, hml, hown, fun w hw => hts w (List.mem_cons_of_mem _ hw)⟩, B.returns, B.notSynchronized, hK⟩
  have hlk : meth.locks = false := C.2.2.1
  have hl := lv_entry ([Value.ref b, Value.int (rd_i k)]) (n := 2) (Nat.le_of_ble_eq_true rfl)
  rw [lg_entry_eq]
  generalize (lg_sl ([Value.ref b, Value.int (rd_i k)]) ++ List.replicate (2 - (lg_sl ([Value.ref b, Value.int (rd_i k)])).length) Slot.unset).toArray = ls at hl ⊢
  have eb : rd_val 0 (rd_R (b : Int)) = Value.ref b := congrArg Value.ref (show 0 + (b : Int).toNat = b by omega)
  have hls : rd_has 0 ls 2 [rd_R (b : Int), rd_I k] := by
    refine ⟨hl.1, hl.2.1, fun j x hx => ?_⟩
    match j, hx with
    | 0, hx => right; rw [← Option.some.inj hx, eb]; exact lv_at hl 0 rfl
    | 1, hx => right; rw [← Option.some.inj hx]; exact lv_at hl 1 rfl
    | j + 2, hx => simp at hx
  have fin : ∀ z : Int, rx_W p l e (rd_rm 0 0) s m ([Value.ref b, Value.int (rd_i k)] : List Value).toArray below meth c (MQ below lc_Qc ([Value.ref b, Value.int (rd_i k)] : List Value).toArray s 0 0 (fun _ => False)) 2 0 0 0 (fun H locs => H = s.heap ∧ locs = []) 20 [rd_R (b : Int), rd_I k] [rd_I z] := by
    intro z hL hS H locs ls hl hI
    obtain ⟨rfl, rfl⟩ := hI
    exact W.iret (v := rd_i z) C.1.1 C.1.2.1 C.2.1 (fun t ht hW => ⟨⟨z, rd_okh hS, rfl⟩, ht⟩) (fun q hq => absurd hq List.not_mem_nil) dL_cell_20 hlk
  have hI0 : ∀ (H : Heap) (locs : List Loc), (H = s.heap ∧ locs = []) → va_S (fun q => s.heap.size ≤ q) s.heap H locs := fun H locs h => by obtain ⟨rfl, rfl⟩ := h; exact va_S.rf
  have key : rx_W p l e (rd_rm 0 0) s m ([Value.ref b, Value.int (rd_i k)] : List Value).toArray below meth c (MQ below lc_Qc ([Value.ref b, Value.int (rd_i k)] : List Value).toArray s 0 0 (fun _ => False)) 2 0 0 0 (fun H locs => H = s.heap ∧ locs = []) 0 [rd_R (b : Int), rd_I k] [] := by
    refine rx_iload_n C dL_cell_0 (z := k) rfl ?_
    refine rx_aload_n C dL_cell_1 (z := some (b : Int)) rfl ?_
    refine lw_alen C hX hbl (by omega) hI0 dL_cell_2 ?_
    refine rx_icmp_ge C dL_cell_3 (tgt := 12) (by decide) (fun h => ?_) (fun h => ?_)
    · refine rx_ldc C rl_L_7 dL_cell_12 (n := 1812433253) (by decide) ⟨by decide, by decide⟩ ?_
      refine rx_iload_n C dL_cell_14 (z := k) rfl ?_
      refine rx_sipush C dL_cell_15 (n := 313) (by decide) ⟨by decide, by decide⟩ ?_
      refine rx_iadd C dL_cell_18 (z := k + 313) rfl ⟨by omega, by omega⟩ ?_
      refine rx_imulw C dL_cell_19 ?_
      exact fin _
    · refine rx_aload_n C dL_cell_6 (z := some (b : Int)) rfl ?_
      refine rx_iload_n C dL_cell_7 (z := k) rfl ?_
      refine lw_ald C hX hbl ⟨by omega, by omega⟩ hI0 dL_cell_8 ?_
      refine rx_goto C dL_cell_9 (tgt := 20) (by decide) ?_
      exact fin _
  exact key (rd_okc (x := rd_R (b : Int)) trivial (rd_okc (x := rd_I k) ⟨by omega, by omega⟩ rd_okn)) rd_okn s.heap [] ls hls ⟨rfl, rfl⟩
/-! calls of the law -/
def lp_I (G : rd_G) (r : Nat) (H0 : Heap) (μ : rd_Mem) : Heap → List Loc → Prop := fun H locs => va_P G.1 rd_cl (rd_ws G rd_kc 313 r μ) H ∧ va_S (fun q => r ≤ q) H0 H locs
section LPC
variable {p : Program} {l : Launch} {e : Env} {R : Room} {s : State} {m : MethodId} {args : Array Value} {below : List Frame} {meth : Method} {c : Code} {Q : State → Prop}
variable {cc : ByteArray} {nl : Nat} {own : String} {ret0 : Option FieldType} {G : rd_G} {cs sl : Nat}
variable {pc : Nat} {L S : List rd_X} {r : Nat} {μ : rd_Mem}
theorem lp_cont {Post : Option rd_X → rd_Mem → Prop} {a : Array Value} {H : Heap} {locs : List Loc} {ls : Array Slot} {st0 rest : List Value} (hrun : va_Run p l e R s m args below meth c H locs cs sl 0 0 (F0 m pc ls st0) rest (rd_Qc G rd_kc 313 r Post a) (rd_A r 313)) (hI : lp_I G r s.heap μ H locs) (hv : ∀ v μ', Post v μ' → ∃ x, v = some x ∧ rd_val r x = rd_val 0 x)
    (kk : ∀ (x : rd_X) (μ' : rd_Mem) (H1 : Heap) (locs1 : List Loc), Post (some x) μ' → rd_okM μ' → rd_okX x → lp_I G r s.heap μ' H1 locs1 → W p l e R s m args below meth c H1 locs1 cs sl Q (F0 m (pc + 3) ls (rd_val 0 x :: rest))) : W p l e R s m args below meth c H locs cs sl Q (F0 m pc ls st0) := by
  intro T hT X
  obtain ⟨v, st₀, t, T', L', h0, X', hL', e1, e2, ⟨⟨v', μ', hvv, hp, hM', hO, hP'⟩, hz, hk⟩, st⟩ := hrun T hT X
  cases hvv
  rw [h0] at hz hk
  obtain ⟨x, hx, hx0⟩ := hv v' μ' hp
  subst hx
  obtain ⟨t2, a1, b1⟩ := kk x μ' T'.heap (locs ++ L') hp hM' (hO _ rfl) ⟨by rw [e1]; exact hP', Nat.le_trans hI.2.1 (by rw [e1]; exact hz), fun q hq hn => by rw [e1, hk q (Nat.lt_of_lt_of_le hq hI.2.1) (fun ha => hn ha.1)]; exact hI.2.2.1 q hq hn, fun q hq => by
    rcases List.mem_append.mp hq with h | h
    · exact hI.2.2.2 q h
    · exact (hL' q h).1⟩ T' rfl X'
  refine ⟨t2, st t2 ?_, b1⟩
  have e3 : ((some x).map (rd_val r)).toList ++ rest = rd_val 0 x :: rest := by show rd_val r x :: rest = _; rw [hx0]
  rw [e3]
  exact a1
theorem lp_callS (C : rd_Cx p s m args meth c cc nl own ret0 G) {y : MethodName} {bytes : ByteArray} {maxL n idx : Nat} {ret' : Option FieldType} {rm : Room} {as as0 st : List rd_X} {Post : Option rd_X → rd_Mem → Prop} (hM : rd_M l G rd_kc 313 r y bytes maxL ret' rm as μ Post) (hok : rd_okM μ)
    (hlink : (.methodLink own idx y : Cond) ∈ rd_T) (hstat : (.static y : Cond) ∈ rd_T) (hcode : (.code y bytes maxL ret' : Cond) ∈ rd_T) (hini : (.initialized y.cls : Cond) ∈ rd_T) (hlim : rd_lim y n maxL rm R) (hn : as.length = n) (hd : decode cc pc = .ok (.invokestatic idx, 3)) (hst : st = as0.reverse ++ S) (h0 : as0.map (rd_val 0) = as.map (rd_val r)) (hoa : rd_okL as0 → rd_okL as) (h8 : rd_wt S ≤ 8) (hcr : cs + 0 ≤ R.cells ∧ sl + 0 ≤ R.slots) (hv : ∀ v μ', Post v μ' → ∃ x, v = some x ∧ rd_val r x = rd_val 0 x)
    (kk : ∀ (x : rd_X) (μ' : rd_Mem), Post (some x) μ' → rd_okM μ' → rx_W p l e R s m args below meth c Q nl 0 cs sl (lp_I G r s.heap μ') (pc + 3) L (x :: S)) : rx_W p l e R s m args below meth c Q nl 0 cs sl (lp_I G r s.heap μ) pc L st := by
  subst hst
  intro hL hS H locs ls hl hI
  obtain ⟨hd1, hd2, hd3, hd4⟩ := hlim
  have hts := C.1.2.2.2.2
  obtain ⟨hOa, hOs⟩ := rd_okrevS hS
  have hcb : CallB R s args own idx y bytes maxL ret' (.code y bytes maxL ret' :: rd_T) rm 0 0 n := callB_of n hts (rd_goodc hcode) rfl hd2 hd3 (hts _ hini) (hts _ hlink) hd1 hd4
  have e1 : (as0.reverse ++ S).map (rd_val 0) = (as.map (rd_val r)).reverse ++ S.map (rd_val 0) := by
    rw [List.map_append, List.map_reverse, h0]
  rw [e1]
  exact lp_cont (va_runS (As := as.map (rd_val r)) (rest := S.map (rd_val 0)) C.1 hM ⟨hcb, hts _ hstat⟩ ⟨rd_blind, fun U hU hW => ⟨rfl, hok, hoa hOa, by rw [hU]; exact hI.1, C.2.2.2.warm hW⟩⟩ rfl (by simpa using hn) hl.1 rfl (rd_room (m := m) (pc := pc) (ls := ls) h8) hd hcr) hI hv (fun x μ' H1 locs1 hp hM' hX hI1 => kk x μ' hp hM' hL (rd_okc hX hOs) H1 locs1 ls hl hI1)
theorem lp_callV (C : rd_Cx p s m args meth c cc nl own ret0 G) {y : MethodName} {bytes : ByteArray} {maxL idx : Nat} {ret' : Option FieldType} {rm : Room} {st : List rd_X} {Post : Option rd_X → rd_Mem → Prop} (hM : rd_M l G rd_kc 313 r y bytes maxL ret' rm [rd_R 0] μ Post) (hok : rd_okM μ)
    (hlink : (.methodLink own idx y : Cond) ∈ rd_T) (hinst : (.instanceMethod y : Cond) ∈ rd_T) (hsel : (.selects y.cls y y : Cond) ∈ rd_T) (hcode : (.code y bytes maxL ret' : Cond) ∈ rd_T) (hini : (.initialized y.cls : Cond) ∈ rd_T) (hlim : rd_lim y 0 maxL rm R) (hkc : rd_KC 9 y.cls) (hd : decode cc pc = .ok (.invokevirtual idx, 3)) (hst : st = rd_R (r : Int) :: S) (h8 : rd_wt S ≤ 8) (hcr : cs + 0 ≤ R.cells ∧ sl + 0 ≤ R.slots) (hv : ∀ v μ', Post v μ' → ∃ x, v = some x ∧ rd_val r x = rd_val 0 x)
    (kk : ∀ (x : rd_X) (μ' : rd_Mem), Post (some x) μ' → rd_okM μ' → rx_W p l e R s m args below meth c Q nl 0 cs sl (lp_I G r s.heap μ') (pc + 3) L (x :: S)) : rx_W p l e R s m args below meth c Q nl 0 cs sl (lp_I G r s.heap μ) pc L st := by
  subst hst
  intro hL hS H locs ls hl hI
  obtain ⟨hd1, hd2, hd3, hd4⟩ := hlim
  have hts := C.1.2.2.2.2
  have hPH := hI.1
  have hat := rd_at (G := G) (kd := rd_kc) (N := 313) (r := r) μ (k := 0) (by decide) (by decide)
  rw [show rd_kc 0 = 9 from rfl] at hat
  obtain ⟨ci, fs, q, h1, h2, h3⟩ := hkc G r (μ 0) 0
  rw [h1] at hat
  have hcb : CallB R s args own idx y bytes maxL ret' (.code y bytes maxL ret' :: rd_T) rm 0 0 0 := callB_of 0 hts (rd_goodc hcode) rfl hd2 hd3 (hts _ hini) (hts _ hlink) hd1 hd4
  have ew : rd_val 0 (rd_R (r : Int)) = Value.ref r := congrArg Value.ref (show 0 + (r : Int).toNat = r by omega)
  rw [List.map_cons, ew]
  exact lp_cont (va_runV (As := []) (rest := S.map (rd_val 0)) (b := r) C.1 hM ⟨hcb, hts _ hinst, hts _ hsel⟩ ⟨rd_blind, by
      have h4 := va_recv C.2.2.2.1 hPH h2 hat
      rw [h3] at h4
      exact h4, fun U hU hW => ⟨rfl, hok, rd_okc (x := rd_R 0) trivial rd_okn, by rw [hU]; exact hPH, C.2.2.2.warm hW⟩⟩ rfl rfl hl.1 rfl (rd_room (m := m) (pc := pc) (ls := ls) h8) hd hcr) hI hv (fun x μ' H1 locs1 hp hM' hX hI1 => kk x μ' hp hM' hL (rd_okc hX (rd_okt hS)) H1 locs1 ls hl hI1)
theorem lp_cell (C : rd_Cx p s m args meth c cc nl RL ret0 G) {b L0 idx : Nat} {xs : Nat → Int32} {k : Int} (hX : va_X b L0 xs s s.heap) (hbl : b < s.heap.size) (hL0 : L0 ≤ 260) (hr : s.heap.size = r) (hk : 0 ≤ k ∧ k ≤ 1000) (hlink : (.methodLink RL idx yL_cell : Cond) ∈ rd_T) (hR : 1 ≤ R.frames ∧ 21 ≤ R.locals) (hd : decode cc pc = .ok (.invokestatic idx, 3)) (h8 : rd_wt S ≤ 8) (hcr : cs + 0 ≤ R.cells ∧ sl + 0 ≤ R.slots)
    (kk : ∀ z : Int, rd_ok z → rx_W p l e R s m args below meth c Q nl 0 cs sl (lp_I G r s.heap μ) (pc + 3) L (rd_I z :: S)) : rx_W p l e R s m args below meth c Q nl 0 cs sl (lp_I G r s.heap μ) pc L (rd_I k :: rd_R (b : Int) :: S) := by
  intro hL hS H locs ls hl hI
  have hts := C.1.2.2.2.2
  have hcb : CallB R s args RL idx yL_cell cL_cell 2 (some .int) (.code yL_cell cL_cell 2 (some .int) :: rd_T) (rd_rm 0 0) 0 0 2 := callB_of 2 hts (rd_goodc rc_L_cell) rfl rfl rfl (hts _ rz_L) (hts _ hlink) rp_L_cell ⟨hR.1, hR.2⟩
  have eb : rd_val 0 (rd_R (b : Int)) = Value.ref b := congrArg Value.ref (show 0 + (b : Int).toNat = b by omega)
  rw [List.map_cons, List.map_cons, eb]
  have hb2 : H[b]? = s.heap[b]? := hI.2.2.1 b hbl (fun h => by omega)
  have hsz : b < H.size := Nat.lt_of_lt_of_le hbl hI.2.1
  have hrun := va_runS (As := [Value.ref b, Value.int (rd_i k)]) (rest := S.map (rd_val 0)) (g := F0 m pc ls (Value.int (rd_i k) :: Value.ref b :: S.map (rd_val 0))) (p := p) (l := l) (e := e) (below := below) (meth := meth) (H := H) (locs := locs) C.1 (c_L_cell (l := l) (G := G) (b := b) (L0 := L0) (xs := xs) hk hL0) ⟨hcb, hts _ rt_L_cell⟩ ⟨fun a U g mk h => ⟨h.1, va_X.moved (u := U) (U := U.calling g mk a) (Vm.Alike.refl _) h.2.1, h.2.2.1, rd_Ke.same (u := U) (U := U.calling g mk a) rfl h.2.2.2⟩, fun U hU hW => ⟨rfl, by rw [hU]; exact (hX.kept hb2).moved hW.alike, by rw [hU]; exact hsz, C.2.2.2.warm hW⟩⟩ rfl rfl hl.1 rfl (rd_room (m := m) (pc := pc) (ls := ls) h8) hd hcr
  intro T hT X
  obtain ⟨v, st₀, t, T', L', h0, X', hL', e1, e2, ⟨⟨z, hz, hvv⟩, hh⟩, st⟩ := hrun T hT X
  cases hvv
  have hLn : L' = [] := List.eq_nil_iff_forall_not_mem.mpr (fun q hq => hL' q hq)
  subst hLn
  have hT' : T'.heap = H := by rw [e1, hh, h0]
  obtain ⟨t2, a1, b1⟩ := kk z hz hL (rd_okc (x := rd_I z) hz (rd_okt (rd_okt hS))) H locs ls hl hI T' hT' (by simpa using X')
  exact ⟨t2, st t2 a1, b1⟩
end LPC
