section RDW
variable {p : Program} {l : Launch} {e : Env} {R : Room} {s : State} {m : MethodId} {args : Array Value} {below : List Frame} {meth : Method} {c : Code} {Q : State → Prop}
variable {cc : ByteArray} {nl : Nat} {own : String} {ret : Option FieldType} {G : rd_G} {kd : Int → Nat} {N r : Nat}
def rd_Cx (p : Program) (s : State) (m : MethodId) (args : Array Value) (meth : Method) (c : Code) (cc : ByteArray) (nl : Nat) (own : String) (ret : Option FieldType) (G : rd_G) : Prop :=
  CallFix p m c cc nl s args rd_T own ∧ meth.sig.returnType = ret ∧ meth.locks = false ∧ rd_Ke G s
def rd_W (p : Program) (l : Launch) (e : Env) (R : Room) (s : State) (m : MethodId) (args : Array Value) (below : List Frame) (meth : Method) (c : Code) (Q : State → Prop) (nl : Nat) (G : rd_G) (kd : Int → Nat) (N r : Nat) (pc : Nat) (L S : List rd_X) (μ : rd_Mem) : Prop :=
  rd_okM μ → rd_okL L → rd_okL S → ∀ (H : Heap) (locs : List Loc) (ls : Array Slot), rd_has r ls nl L → va_P G.1 rd_cl (rd_ws G kd N r μ) H → va_S (rd_A r N) s.heap H locs →
    W p l e R s m args below meth c H locs 0 0 Q (F0 m pc ls (S.map (rd_val r)))
variable {pc : Nat} {L S : List rd_X} {μ : rd_Mem}
theorem rd_W.rng (k : rd_okM μ → rd_okL L → rd_okL S → rd_W p l e R s m args below meth c Q nl G kd N r pc L S μ) : rd_W p l e R s m args below meth c Q nl G kd N r pc L S μ :=
  fun hM hL hS => k hM hL hS hM hL hS
theorem rd_W.sub {L' : List rd_X} (k : rd_W p l e R s m args below meth c Q nl G kd N r pc L' S μ) (hs : ∀ (i : Nat) (x : rd_X), L'[i]? = some x → x = rd_J ∨ L[i]? = some x) : rd_W p l e R s m args below meth c Q nl G kd N r pc L S μ := by
  intro hM hL hS H locs ls hl hP hs2
  refine k hM (fun x hx => ?_) hS H locs ls (hl.sub hs) hP hs2
  obtain ⟨i, hi⟩ := List.getElem?_of_mem hx
  rcases hs i x hi with rfl | h
  · trivial
  · exact rd_oki hL h
theorem rd_iconst (C : rd_Cx p s m args meth c cc nl own ret G) {n : Int} (hd : decode cc pc = .ok (.iconst n, 1)) (hn : rd_ok n) (k : rd_W p l e R s m args below meth c Q nl G kd N r (pc + 1) L (rd_I n :: S) μ) : rd_W p l e R s m args below meth c Q nl G kd N r pc L S μ := by
  intro hM hL hS H locs ls hl hP hs
  exact lv_iconst C.1.1 C.1.2.1 hd rfl (k hM hL (rd_okc hn hS) H locs ls hl hP hs)
theorem rd_bipush (C : rd_Cx p s m args meth c cc nl own ret G) {n : Int} (hd : decode cc pc = .ok (.bipush n, 2)) (hv : (Int8.ofInt n).toInt32 = rd_i n) (hn : rd_ok n) (k : rd_W p l e R s m args below meth c Q nl G kd N r (pc + 2) L (rd_I n :: S) μ) : rd_W p l e R s m args below meth c Q nl G kd N r pc L S μ := by
  intro hM hL hS H locs ls hl hP hs
  exact lv_bipush C.1.1 C.1.2.1 hd hv (k hM hL (rd_okc hn hS) H locs ls hl hP hs)
theorem rd_sipush (C : rd_Cx p s m args meth c cc nl own ret G) {n : Int} (hd : decode cc pc = .ok (.sipush n, 3)) (hv : (Int16.ofInt n).toInt32 = rd_i n) (hn : rd_ok n) (k : rd_W p l e R s m args below meth c Q nl G kd N r (pc + 3) L (rd_I n :: S) μ) : rd_W p l e R s m args below meth c Q nl G kd N r pc L S μ := by
  intro hM hL hS H locs ls hl hP hs
  exact lv_sipush C.1.1 C.1.2.1 hd hv (k hM hL (rd_okc hn hS) H locs ls hl hP hs)
theorem rd_ldc (C : rd_Cx p s m args meth c cc nl own ret G) {i : Nat} {v : Int32} {n : Int} (hw : Cond.constant own i v ∈ rd_T) (hd : decode cc pc = .ok (.ldc i, 2)) (hv : v = rd_i n) (hn : rd_ok n) (k : rd_W p l e R s m args below meth c Q nl G kd N r (pc + 2) L (rd_I n :: S) μ) : rd_W p l e R s m args below meth c Q nl G kd N r pc L S μ := by
  intro hM hL hS H locs ls hl hP hs
  subst hv
  exact lv_ldc C.1.1 C.1.2.1 C.1.2.2.2.1 (C.1.2.2.2.2 _ hw) hd (k hM hL (rd_okc hn hS) H locs ls hl hP hs)
theorem rd_lget {r : Nat} {ls : Array Slot} {nl : Nat} {L : List rd_X} {i : Nat} {x : rd_X} (h : rd_has r ls nl L) (hx : L[i]? = some x) (hj : x ≠ rd_J) : ls[i]? = some (.val (rd_val r x)) := (h.2.2 i x hx).elim (fun e => absurd e hj) id
theorem rd_iload_n (C : rd_Cx p s m args meth c cc nl own ret G) {i : Fin 4} {z : Int} (hd : decode cc pc = .ok (.iload_n i, 1)) (hx : L[(i : Nat)]? = some (rd_I z)) (k : rd_W p l e R s m args below meth c Q nl G kd N r (pc + 1) L (rd_I z :: S) μ) : rd_W p l e R s m args below meth c Q nl G kd N r pc L S μ := by
  intro hM hL hS H locs ls hl hP hs
  exact lv_iload_n (x := rd_i z) C.1.1 C.1.2.1 hd rfl (rd_lget hl hx (fun h => by cases h)) (k hM hL (rd_okc (rd_oki hL hx) hS) H locs ls hl hP hs)
theorem rd_iload (C : rd_Cx p s m args meth c cc nl own ret G) {i : Nat} {z : Int} (hd : decode cc pc = .ok (.iload i, 2)) (hx : L[i]? = some (rd_I z)) (k : rd_W p l e R s m args below meth c Q nl G kd N r (pc + 2) L (rd_I z :: S) μ) : rd_W p l e R s m args below meth c Q nl G kd N r pc L S μ := by
  intro hM hL hS H locs ls hl hP hs
  exact lv_iload (x := rd_i z) C.1.1 C.1.2.1 hd (rd_lget hl hx (fun h => by cases h)) (k hM hL (rd_okc (rd_oki hL hx) hS) H locs ls hl hP hs)
theorem rd_aload_n (C : rd_Cx p s m args meth c cc nl own ret G) {i : Fin 4} {z : Option Int} (hd : decode cc pc = .ok (.aload_n i, 1)) (hx : L[(i : Nat)]? = some (.inr (.inl z))) (k : rd_W p l e R s m args below meth c Q nl G kd N r (pc + 1) L (.inr (.inl z) :: S) μ) : rd_W p l e R s m args below meth c Q nl G kd N r pc L S μ := by
  intro hM hL hS H locs ls hl hP hs
  have h1 := rd_lget hl hx (fun h => by cases h)
  have h2 := k hM hL (rd_okc (rd_oki hL hx) hS) H locs ls hl hP hs
  cases z with
  | none => exact lv_aload_nN C.1.1 C.1.2.1 hd rfl h1 h2
  | some z => exact lv_aload_n C.1.1 C.1.2.1 hd rfl h1 h2
theorem rd_aload (C : rd_Cx p s m args meth c cc nl own ret G) {i : Nat} {z : Option Int} (hd : decode cc pc = .ok (.aload i, 2)) (hx : L[i]? = some (.inr (.inl z))) (k : rd_W p l e R s m args below meth c Q nl G kd N r (pc + 2) L (.inr (.inl z) :: S) μ) : rd_W p l e R s m args below meth c Q nl G kd N r pc L S μ := by
  intro hM hL hS H locs ls hl hP hs
  have h1 := rd_lget hl hx (fun h => by cases h)
  have h2 := k hM hL (rd_okc (rd_oki hL hx) hS) H locs ls hl hP hs
  cases z with
  | none => exact lv_aloadN C.1.1 C.1.2.1 hd h1 h2
  | some z => exact lv_aload C.1.1 C.1.2.1 hd h1 h2
theorem rd_istore_n (C : rd_Cx p s m args meth c cc nl own ret G) {i : Fin 4} {z : Int} (hd : decode cc pc = .ok (.istore_n i, 1)) (hi : (i : Nat) < nl) {L' : List rd_X} (hL' : rd_set L (i : Nat) (rd_I z) = L') (k : rd_W p l e R s m args below meth c Q nl G kd N r (pc + 1) L' S μ) : rd_W p l e R s m args below meth c Q nl G kd N r pc L (rd_I z :: S) μ := by
  intro hM hL hS H locs ls hl hP hs
  subst hL'
  obtain ⟨ls', e', h'⟩ := rd_store (x := rd_I z) hl hi
  have h2 := k hM (rd_set_ok hL (rd_okh hS)) (rd_okt hS) H locs ls' h' hP hs
  have hx := C.1.1
  have hb := C.1.2.1
  have e1 : storeLocals ls (i : Nat) (.int (rd_i z)) = some ls' := e'
  intro T hT X
  obtain ⟨t, a, b⟩ := h2 T hT X
  refine ⟨t, ?_, b⟩
  have htop := X.here.top
  show Steps p.tables e below (T.setTop (F0 m pc ls (.int (rd_i z) :: S.map (rd_val r)))) t
  jvm_step X.here [htop, ↓top_set htop, hx, hb, hd, e1]
  exact a
theorem rd_istore (C : rd_Cx p s m args meth c cc nl own ret G) {i : Nat} {z : Int} (hd : decode cc pc = .ok (.istore i, 2)) (hi : i < nl) {L' : List rd_X} (hL' : rd_set L i (rd_I z) = L') (k : rd_W p l e R s m args below meth c Q nl G kd N r (pc + 2) L' S μ) : rd_W p l e R s m args below meth c Q nl G kd N r pc L (rd_I z :: S) μ := by
  intro hM hL hS H locs ls hl hP hs
  subst hL'
  obtain ⟨ls', e', h'⟩ := rd_store (x := rd_I z) hl hi
  have h2 := k hM (rd_set_ok hL (rd_okh hS)) (rd_okt hS) H locs ls' h' hP hs
  have hx := C.1.1
  have hb := C.1.2.1
  have e1 : storeLocals ls i (.int (rd_i z)) = some ls' := e'
  intro T hT X
  obtain ⟨t, a, b⟩ := h2 T hT X
  refine ⟨t, ?_, b⟩
  have htop := X.here.top
  show Steps p.tables e below (T.setTop (F0 m pc ls (.int (rd_i z) :: S.map (rd_val r)))) t
  jvm_step X.here [htop, ↓top_set htop, hx, hb, hd, e1]
  exact a
theorem rd_astore_n (C : rd_Cx p s m args meth c cc nl own ret G) {i : Fin 4} {z : Int} (hd : decode cc pc = .ok (.astore_n i, 1)) (hi : (i : Nat) < nl) {L' : List rd_X} (hL' : rd_set L (i : Nat) (rd_R z) = L') (k : rd_W p l e R s m args below meth c Q nl G kd N r (pc + 1) L' S μ) : rd_W p l e R s m args below meth c Q nl G kd N r pc L (rd_R z :: S) μ := by
  intro hM hL hS H locs ls hl hP hs
  subst hL'
  obtain ⟨ls', e', h'⟩ := rd_store (x := rd_R z) hl hi
  have h2 := k hM (rd_set_ok hL (rd_okh hS)) (rd_okt hS) H locs ls' h' hP hs
  have hx := C.1.1
  have hb := C.1.2.1
  have e1 : storeLocals ls (i : Nat) (.ref (r + z.toNat)) = some ls' := e'
  intro T hT X
  obtain ⟨t, a, b⟩ := h2 T hT X
  refine ⟨t, ?_, b⟩
  have htop := X.here.top
  show Steps p.tables e below (T.setTop (F0 m pc ls (.ref (r + z.toNat) :: S.map (rd_val r)))) t
  jvm_step X.here [htop, ↓top_set htop, hx, hb, hd, e1]
  exact ⟨rfl, a⟩
theorem rd_astore (C : rd_Cx p s m args meth c cc nl own ret G) {i : Nat} {z : Int} (hd : decode cc pc = .ok (.astore i, 2)) (hi : i < nl) {L' : List rd_X} (hL' : rd_set L i (rd_R z) = L') (k : rd_W p l e R s m args below meth c Q nl G kd N r (pc + 2) L' S μ) : rd_W p l e R s m args below meth c Q nl G kd N r pc L (rd_R z :: S) μ := by
  intro hM hL hS H locs ls hl hP hs
  subst hL'
  obtain ⟨ls', e', h'⟩ := rd_store (x := rd_R z) hl hi
  have h2 := k hM (rd_set_ok hL (rd_okh hS)) (rd_okt hS) H locs ls' h' hP hs
  have hx := C.1.1
  have hb := C.1.2.1
  have e1 : storeLocals ls i (.ref (r + z.toNat)) = some ls' := e'
  intro T hT X
  obtain ⟨t, a, b⟩ := h2 T hT X
  refine ⟨t, ?_, b⟩
  have htop := X.here.top
  show Steps p.tables e below (T.setTop (F0 m pc ls (.ref (r + z.toNat) :: S.map (rd_val r)))) t
  jvm_step X.here [htop, ↓top_set htop, hx, hb, hd, e1]
  exact ⟨rfl, a⟩
theorem rd_astore_nN (C : rd_Cx p s m args meth c cc nl own ret G) {i : Fin 4} (hd : decode cc pc = .ok (.astore_n i, 1)) (hi : (i : Nat) < nl) {L' : List rd_X} (hL' : rd_set L (i : Nat) (rd_N) = L') (k : rd_W p l e R s m args below meth c Q nl G kd N r (pc + 1) L' S μ) : rd_W p l e R s m args below meth c Q nl G kd N r pc L (rd_N :: S) μ := by
  intro hM hL hS H locs ls hl hP hs
  subst hL'
  obtain ⟨ls', e', h'⟩ := rd_store (x := rd_N) hl hi
  have h2 := k hM (rd_set_ok hL (rd_okh hS)) (rd_okt hS) H locs ls' h' hP hs
  have hx := C.1.1
  have hb := C.1.2.1
  have e1 : storeLocals ls (i : Nat) (.null) = some ls' := e'
  intro T hT X
  obtain ⟨t, a, b⟩ := h2 T hT X
  refine ⟨t, ?_, b⟩
  have htop := X.here.top
  show Steps p.tables e below (T.setTop (F0 m pc ls (.null :: S.map (rd_val r)))) t
  jvm_step X.here [htop, ↓top_set htop, hx, hb, hd, e1]
  exact ⟨rfl, a⟩
theorem rd_astoreN (C : rd_Cx p s m args meth c cc nl own ret G) {i : Nat} (hd : decode cc pc = .ok (.astore i, 2)) (hi : i < nl) {L' : List rd_X} (hL' : rd_set L i (rd_N) = L') (k : rd_W p l e R s m args below meth c Q nl G kd N r (pc + 2) L' S μ) : rd_W p l e R s m args below meth c Q nl G kd N r pc L (rd_N :: S) μ := by
  intro hM hL hS H locs ls hl hP hs
  subst hL'
  obtain ⟨ls', e', h'⟩ := rd_store (x := rd_N) hl hi
  have h2 := k hM (rd_set_ok hL (rd_okh hS)) (rd_okt hS) H locs ls' h' hP hs
  have hx := C.1.1
  have hb := C.1.2.1
  have e1 : storeLocals ls i (.null) = some ls' := e'
  intro T hT X
  obtain ⟨t, a, b⟩ := h2 T hT X
  refine ⟨t, ?_, b⟩
  have htop := X.here.top
  show Steps p.tables e below (T.setTop (F0 m pc ls (.null :: S.map (rd_val r)))) t
  jvm_step X.here [htop, ↓top_set htop, hx, hb, hd, e1]
  exact ⟨rfl, a⟩
theorem rd_iinc (C : rd_Cx p s m args meth c cc nl own ret G) {i : Nat} {n z : Int} (hd : decode cc pc = .ok (.iinc i n, 3)) (hi : i < nl) (hx : L[i]? = some (rd_I z)) (hok : rd_ok (z + n)) {L' : List rd_X} (hL' : rd_set L i (rd_I (z + n)) = L') (k : rd_W p l e R s m args below meth c Q nl G kd N r (pc + 3) L' S μ) : rd_W p l e R s m args below meth c Q nl G kd N r pc L S μ := by
  intro hM hL hS H locs ls hl hP hs
  subst hL'
  have hg := rd_lget hl hx (fun h => by cases h)
  obtain ⟨ls', e', h'⟩ := rd_store (x := rd_I (z + n)) hl hi
  have h2 := k hM (rd_set_ok hL (hok)) hS H locs ls' h' hP hs
  have hxe := C.1.1
  have hb := C.1.2.1
  have hg1 : ls[i]? = some (.val (.int (rd_i z))) := hg
  have e1 : storeLocals ls i (.int (rd_i z + Int32.ofInt n)) = some ls' := by
    rw [show rd_i z + Int32.ofInt n = rd_i (z + n) from rd_add z n]; exact e'
  intro T hT X
  obtain ⟨t, a, b⟩ := h2 T hT X
  refine ⟨t, ?_, b⟩
  have htop := X.here.top
  jvm_step X.here [htop, ↓top_set htop, hxe, hb, hd, hg1, e1]
  exact a
theorem rd_iadd (C : rd_Cx p s m args meth c cc nl own ret G) {a b z : Int} (hd : decode cc pc = .ok (.iadd, 1)) (hz : a + b = z) (hok : rd_ok z) (k : rd_W p l e R s m args below meth c Q nl G kd N r (pc + 1) L (rd_I z :: S) μ) : rd_W p l e R s m args below meth c Q nl G kd N r pc L (rd_I b :: rd_I a :: S) μ := by
  intro hM hL hS H locs ls hl hP hs
  subst hz
  have h2 := k hM hL (rd_okc hok (rd_okt (rd_okt hS))) H locs ls hl hP hs
  refine lv_iadd C.1.1 C.1.2.1 hd ?_
  rw [rd_add]
  exact h2
theorem rd_iaddw (C : rd_Cx p s m args meth c cc nl own ret G) {a b : Int} (hd : decode cc pc = .ok (.iadd, 1)) (k : rd_W p l e R s m args below meth c Q nl G kd N r (pc + 1) L (rd_I (rd_w (a + b)) :: S) μ) : rd_W p l e R s m args below meth c Q nl G kd N r pc L (rd_I b :: rd_I a :: S) μ := by
  intro hM hL hS H locs ls hl hP hs
  have h2 := k hM hL (rd_okc (rd_w_ok _) (rd_okt (rd_okt hS))) H locs ls hl hP hs
  refine lv_iadd C.1.1 C.1.2.1 hd ?_
  rw [rd_add, ← rd_w_i]
  exact h2
theorem rd_isub (C : rd_Cx p s m args meth c cc nl own ret G) {a b z : Int} (hd : decode cc pc = .ok (.isub, 1)) (hz : a - b = z) (hok : rd_ok z) (k : rd_W p l e R s m args below meth c Q nl G kd N r (pc + 1) L (rd_I z :: S) μ) : rd_W p l e R s m args below meth c Q nl G kd N r pc L (rd_I b :: rd_I a :: S) μ := by
  intro hM hL hS H locs ls hl hP hs
  subst hz
  have h2 := k hM hL (rd_okc hok (rd_okt (rd_okt hS))) H locs ls hl hP hs
  refine lv_isub C.1.1 C.1.2.1 hd ?_
  rw [rd_sub]
  exact h2
theorem rd_isubw (C : rd_Cx p s m args meth c cc nl own ret G) {a b : Int} (hd : decode cc pc = .ok (.isub, 1)) (k : rd_W p l e R s m args below meth c Q nl G kd N r (pc + 1) L (rd_I (rd_w (a - b)) :: S) μ) : rd_W p l e R s m args below meth c Q nl G kd N r pc L (rd_I b :: rd_I a :: S) μ := by
  intro hM hL hS H locs ls hl hP hs
  have h2 := k hM hL (rd_okc (rd_w_ok _) (rd_okt (rd_okt hS))) H locs ls hl hP hs
  refine lv_isub C.1.1 C.1.2.1 hd ?_
  rw [rd_sub, ← rd_w_i]
  exact h2
theorem rd_imul (C : rd_Cx p s m args meth c cc nl own ret G) {a b z : Int} (hd : decode cc pc = .ok (.imul, 1)) (hz : a * b = z) (hok : rd_ok z) (k : rd_W p l e R s m args below meth c Q nl G kd N r (pc + 1) L (rd_I z :: S) μ) : rd_W p l e R s m args below meth c Q nl G kd N r pc L (rd_I b :: rd_I a :: S) μ := by
  intro hM hL hS H locs ls hl hP hs
  subst hz
  have h2 := k hM hL (rd_okc hok (rd_okt (rd_okt hS))) H locs ls hl hP hs
  refine lv_imul C.1.1 C.1.2.1 hd ?_
  rw [rd_mul]
  exact h2
theorem rd_imulw (C : rd_Cx p s m args meth c cc nl own ret G) {a b : Int} (hd : decode cc pc = .ok (.imul, 1)) (k : rd_W p l e R s m args below meth c Q nl G kd N r (pc + 1) L (rd_I (rd_w (a * b)) :: S) μ) : rd_W p l e R s m args below meth c Q nl G kd N r pc L (rd_I b :: rd_I a :: S) μ := by
  intro hM hL hS H locs ls hl hP hs
  have h2 := k hM hL (rd_okc (rd_w_ok _) (rd_okt (rd_okt hS))) H locs ls hl hP hs
  refine lv_imul C.1.1 C.1.2.1 hd ?_
  rw [rd_mul, ← rd_w_i]
  exact h2
theorem rd_iand (C : rd_Cx p s m args meth c cc nl own ret G) {a b z : Int} (hd : decode cc pc = .ok (.iand, 1)) (hz : rd_i a &&& rd_i b = rd_i z) (hok : rd_ok z) (k : rd_W p l e R s m args below meth c Q nl G kd N r (pc + 1) L (rd_I z :: S) μ) : rd_W p l e R s m args below meth c Q nl G kd N r pc L (rd_I b :: rd_I a :: S) μ := by
  intro hM hL hS H locs ls hl hP hs
  have h2 := k hM hL (rd_okc hok (rd_okt (rd_okt hS))) H locs ls hl hP hs
  refine lv_iand C.1.1 C.1.2.1 hd ?_
  rw [hz]
  exact h2
theorem rd_ior (C : rd_Cx p s m args meth c cc nl own ret G) {a b z : Int} (hd : decode cc pc = .ok (.ior, 1)) (hz : rd_i a ||| rd_i b = rd_i z) (hok : rd_ok z) (k : rd_W p l e R s m args below meth c Q nl G kd N r (pc + 1) L (rd_I z :: S) μ) : rd_W p l e R s m args below meth c Q nl G kd N r pc L (rd_I b :: rd_I a :: S) μ := by
  intro hM hL hS H locs ls hl hP hs
  have h2 := k hM hL (rd_okc hok (rd_okt (rd_okt hS))) H locs ls hl hP hs
  refine lv_ior C.1.1 C.1.2.1 hd ?_
  rw [hz]
  exact h2
theorem rd_ishl (C : rd_Cx p s m args meth c cc nl own ret G) {a b z : Int} (hd : decode cc pc = .ok (.ishl, 1)) (hz : rd_i a <<< (rd_i b &&& 31) = rd_i z) (hok : rd_ok z) (k : rd_W p l e R s m args below meth c Q nl G kd N r (pc + 1) L (rd_I z :: S) μ) : rd_W p l e R s m args below meth c Q nl G kd N r pc L (rd_I b :: rd_I a :: S) μ := by
  intro hM hL hS H locs ls hl hP hs
  have h2 := k hM hL (rd_okc hok (rd_okt (rd_okt hS))) H locs ls hl hP hs
  refine lv_ishl C.1.1 C.1.2.1 hd ?_
  rw [hz]
  exact h2
theorem rd_ishr (C : rd_Cx p s m args meth c cc nl own ret G) {a b z : Int} (hd : decode cc pc = .ok (.ishr, 1)) (hz : rd_i a >>> (rd_i b &&& 31) = rd_i z) (hok : rd_ok z) (k : rd_W p l e R s m args below meth c Q nl G kd N r (pc + 1) L (rd_I z :: S) μ) : rd_W p l e R s m args below meth c Q nl G kd N r pc L (rd_I b :: rd_I a :: S) μ := by
  intro hM hL hS H locs ls hl hP hs
  have h2 := k hM hL (rd_okc hok (rd_okt (rd_okt hS))) H locs ls hl hP hs
  refine lv_ishr C.1.1 C.1.2.1 hd ?_
  rw [hz]
  exact h2
theorem rd_idiv (C : rd_Cx p s m args meth c cc nl own ret G) {a b z : Int} (hd : decode cc pc = .ok (.idiv, 1)) (hb0 : ¬ rd_i b = 0) (hz : rd_i a / rd_i b = rd_i z) (hok : rd_ok z) (k : rd_W p l e R s m args below meth c Q nl G kd N r (pc + 1) L (rd_I z :: S) μ) : rd_W p l e R s m args below meth c Q nl G kd N r pc L (rd_I b :: rd_I a :: S) μ := by
  intro hM hL hS H locs ls hl hP hs
  have h2 := k hM hL (rd_okc hok (rd_okt (rd_okt hS))) H locs ls hl hP hs
  refine lv_idiv C.1.1 C.1.2.1 hd hb0 ?_
  rw [hz]
  exact h2
theorem rd_irem (C : rd_Cx p s m args meth c cc nl own ret G) {a b z : Int} (hd : decode cc pc = .ok (.irem, 1)) (hb0 : ¬ rd_i b = 0) (hz : rd_i a - rd_i a / rd_i b * rd_i b = rd_i z) (hok : rd_ok z) (k : rd_W p l e R s m args below meth c Q nl G kd N r (pc + 1) L (rd_I z :: S) μ) : rd_W p l e R s m args below meth c Q nl G kd N r pc L (rd_I b :: rd_I a :: S) μ := by
  intro hM hL hS H locs ls hl hP hs
  have h2 := k hM hL (rd_okc hok (rd_okt (rd_okt hS))) H locs ls hl hP hs
  refine lv_irem C.1.1 C.1.2.1 hd hb0 ?_
  rw [hz]
  exact h2
theorem rd_dup (C : rd_Cx p s m args meth c cc nl own ret G) {x : rd_X} (hd : decode cc pc = .ok (.dup, 1)) (k : rd_W p l e R s m args below meth c Q nl G kd N r (pc + 1) L (x :: x :: S) μ) (hx : rd_one x = true := by rfl) : rd_W p l e R s m args below meth c Q nl G kd N r pc L (x :: S) μ := by
  intro hM hL hS H locs ls hl hP hs
  exact lv_dup C.1.1 C.1.2.1 hd (rd_cat r hx) (k hM hL (rd_okc (rd_okh hS) hS) H locs ls hl hP hs)
theorem rd_pop (C : rd_Cx p s m args meth c cc nl own ret G) {x : rd_X} (hd : decode cc pc = .ok (.pop, 1)) (k : rd_W p l e R s m args below meth c Q nl G kd N r (pc + 1) L S μ) (hx : rd_one x = true := by rfl) : rd_W p l e R s m args below meth c Q nl G kd N r pc L (x :: S) μ := by
  intro hM hL hS H locs ls hl hP hs
  exact lv_pop C.1.1 C.1.2.1 hd (rd_cat r hx) (k hM hL (rd_okt hS) H locs ls hl hP hs)
theorem rd_dup2 (C : rd_Cx p s m args meth c cc nl own ret G) {x y : rd_X} (hd : decode cc pc = .ok (.dup2, 1)) (k : rd_W p l e R s m args below meth c Q nl G kd N r (pc + 1) L (x :: y :: x :: y :: S) μ) (hx : rd_one x = true := by rfl) (hy : rd_one y = true := by rfl) : rd_W p l e R s m args below meth c Q nl G kd N r pc L (x :: y :: S) μ := by
  intro hM hL hS H locs ls hl hP hs
  exact lv_dup2_11 C.1.1 C.1.2.1 hd (rd_cat r hx) (rd_cat r hy) (k hM hL (rd_okc (rd_okh hS) (rd_okc (rd_okh (rd_okt hS)) hS)) H locs ls hl hP hs)
theorem rd_goto (C : rd_Cx p s m args meth c cc nl own ret G) {off : Int} {tgt : Nat} (hd : decode cc pc = .ok (.goto off, 3)) (ht : (pc : Int) + off = (tgt : Int)) (k : rd_W p l e R s m args below meth c Q nl G kd N r tgt L S μ) : rd_W p l e R s m args below meth c Q nl G kd N r pc L S μ := by
  intro hM hL hS H locs ls hl hP hs
  exact lv_goto C.1.1 C.1.2.1 hd ht (k hM hL hS H locs ls hl hP hs)
theorem rd_icmp_eq (C : rd_Cx p s m args meth c cc nl own ret G) {a b off : Int} {tgt : Nat} (hd : decode cc pc = .ok (.if_icmp .eq off, 3)) (ht : (pc : Int) + off = (tgt : Int)) (kt : a = b → rd_W p l e R s m args below meth c Q nl G kd N r tgt L S μ) (kf : ¬ (a = b) → rd_W p l e R s m args below meth c Q nl G kd N r (pc + 3) L S μ) : rd_W p l e R s m args below meth c Q nl G kd N r pc L (rd_I b :: rd_I a :: S) μ := by
  intro hM hL hS H locs ls hl hP hs
  have hb : rd_ok b := rd_okh hS
  have ha : rd_ok a := rd_okh (rd_okt hS)
  exact lv_icmp_eq C.1.1 C.1.2.1 hd ht (fun h => kt ((rd_eq ha hb).mp h) hM hL (rd_okt (rd_okt hS)) H locs ls hl hP hs) (fun h => kf (fun q => h ((rd_eq ha hb).mpr q)) hM hL (rd_okt (rd_okt hS)) H locs ls hl hP hs)
theorem rd_if_eq (C : rd_Cx p s m args meth c cc nl own ret G) {a off : Int} {tgt : Nat} (hd : decode cc pc = .ok (.ifCond .eq off, 3)) (ht : (pc : Int) + off = (tgt : Int)) (kt : a = 0 → rd_W p l e R s m args below meth c Q nl G kd N r tgt L S μ) (kf : ¬ (a = 0) → rd_W p l e R s m args below meth c Q nl G kd N r (pc + 3) L S μ) : rd_W p l e R s m args below meth c Q nl G kd N r pc L (rd_I a :: S) μ := by
  intro hM hL hS H locs ls hl hP hs
  have ha : rd_ok a := rd_okh hS
  have h0 := (rd_eq ha rd_ok0)
  rw [rd_z] at h0
  exact lv_if_eq C.1.1 C.1.2.1 hd ht (fun h => kt (h0.mp h) hM hL (rd_okt hS) H locs ls hl hP hs) (fun h => kf (fun q => h (h0.mpr q)) hM hL (rd_okt hS) H locs ls hl hP hs)
theorem rd_icmp_ne (C : rd_Cx p s m args meth c cc nl own ret G) {a b off : Int} {tgt : Nat} (hd : decode cc pc = .ok (.if_icmp .ne off, 3)) (ht : (pc : Int) + off = (tgt : Int)) (kt : a ≠ b → rd_W p l e R s m args below meth c Q nl G kd N r tgt L S μ) (kf : a = b → rd_W p l e R s m args below meth c Q nl G kd N r (pc + 3) L S μ) : rd_W p l e R s m args below meth c Q nl G kd N r pc L (rd_I b :: rd_I a :: S) μ := by
  intro hM hL hS H locs ls hl hP hs
  have hb : rd_ok b := rd_okh hS
  have ha : rd_ok a := rd_okh (rd_okt hS)
  exact lv_icmp_ne C.1.1 C.1.2.1 hd ht (fun h => kt ((not_congr (rd_eq ha hb)).mp h) hM hL (rd_okt (rd_okt hS)) H locs ls hl hP hs) (fun h => kf ((rd_eq ha hb).mp h) hM hL (rd_okt (rd_okt hS)) H locs ls hl hP hs)
theorem rd_if_ne (C : rd_Cx p s m args meth c cc nl own ret G) {a off : Int} {tgt : Nat} (hd : decode cc pc = .ok (.ifCond .ne off, 3)) (ht : (pc : Int) + off = (tgt : Int)) (kt : a ≠ 0 → rd_W p l e R s m args below meth c Q nl G kd N r tgt L S μ) (kf : a = 0 → rd_W p l e R s m args below meth c Q nl G kd N r (pc + 3) L S μ) : rd_W p l e R s m args below meth c Q nl G kd N r pc L (rd_I a :: S) μ := by
  intro hM hL hS H locs ls hl hP hs
  have ha : rd_ok a := rd_okh hS
  have h0 := rd_eq ha rd_ok0
  rw [rd_z] at h0
  exact lv_if_ne C.1.1 C.1.2.1 hd ht (fun h => kt (fun q => h (h0.mpr q)) hM hL (rd_okt hS) H locs ls hl hP hs) (fun h => kf (h0.mp h) hM hL (rd_okt hS) H locs ls hl hP hs)
theorem rd_icmp_lt (C : rd_Cx p s m args meth c cc nl own ret G) {a b off : Int} {tgt : Nat} (hd : decode cc pc = .ok (.if_icmp .lt off, 3)) (ht : (pc : Int) + off = (tgt : Int)) (kt : a < b → rd_W p l e R s m args below meth c Q nl G kd N r tgt L S μ) (kf : ¬ (a < b) → rd_W p l e R s m args below meth c Q nl G kd N r (pc + 3) L S μ) : rd_W p l e R s m args below meth c Q nl G kd N r pc L (rd_I b :: rd_I a :: S) μ := by
  intro hM hL hS H locs ls hl hP hs
  have hb : rd_ok b := rd_okh hS
  have ha : rd_ok a := rd_okh (rd_okt hS)
  exact lv_icmp_lt C.1.1 C.1.2.1 hd ht (fun h => kt ((rd_lt ha hb).mp h) hM hL (rd_okt (rd_okt hS)) H locs ls hl hP hs) (fun h => kf (fun q => h ((rd_lt ha hb).mpr q)) hM hL (rd_okt (rd_okt hS)) H locs ls hl hP hs)
theorem rd_if_lt (C : rd_Cx p s m args meth c cc nl own ret G) {a off : Int} {tgt : Nat} (hd : decode cc pc = .ok (.ifCond .lt off, 3)) (ht : (pc : Int) + off = (tgt : Int)) (kt : a < 0 → rd_W p l e R s m args below meth c Q nl G kd N r tgt L S μ) (kf : ¬ (a < 0) → rd_W p l e R s m args below meth c Q nl G kd N r (pc + 3) L S μ) : rd_W p l e R s m args below meth c Q nl G kd N r pc L (rd_I a :: S) μ := by
  intro hM hL hS H locs ls hl hP hs
  have ha : rd_ok a := rd_okh hS
  have h0 := (rd_lt ha rd_ok0)
  rw [rd_z] at h0
  exact lv_if_lt C.1.1 C.1.2.1 hd ht (fun h => kt (h0.mp h) hM hL (rd_okt hS) H locs ls hl hP hs) (fun h => kf (fun q => h (h0.mpr q)) hM hL (rd_okt hS) H locs ls hl hP hs)
theorem rd_icmp_ge (C : rd_Cx p s m args meth c cc nl own ret G) {a b off : Int} {tgt : Nat} (hd : decode cc pc = .ok (.if_icmp .ge off, 3)) (ht : (pc : Int) + off = (tgt : Int)) (kt : b ≤ a → rd_W p l e R s m args below meth c Q nl G kd N r tgt L S μ) (kf : ¬ (b ≤ a) → rd_W p l e R s m args below meth c Q nl G kd N r (pc + 3) L S μ) : rd_W p l e R s m args below meth c Q nl G kd N r pc L (rd_I b :: rd_I a :: S) μ := by
  intro hM hL hS H locs ls hl hP hs
  have hb : rd_ok b := rd_okh hS
  have ha : rd_ok a := rd_okh (rd_okt hS)
  exact lv_icmp_ge C.1.1 C.1.2.1 hd ht (fun h => kt ((rd_le hb ha).mp h) hM hL (rd_okt (rd_okt hS)) H locs ls hl hP hs) (fun h => kf (fun q => h ((rd_le hb ha).mpr q)) hM hL (rd_okt (rd_okt hS)) H locs ls hl hP hs)
theorem rd_if_ge (C : rd_Cx p s m args meth c cc nl own ret G) {a off : Int} {tgt : Nat} (hd : decode cc pc = .ok (.ifCond .ge off, 3)) (ht : (pc : Int) + off = (tgt : Int)) (kt : 0 ≤ a → rd_W p l e R s m args below meth c Q nl G kd N r tgt L S μ) (kf : ¬ (0 ≤ a) → rd_W p l e R s m args below meth c Q nl G kd N r (pc + 3) L S μ) : rd_W p l e R s m args below meth c Q nl G kd N r pc L (rd_I a :: S) μ := by
  intro hM hL hS H locs ls hl hP hs
  have ha : rd_ok a := rd_okh hS
  have h0 := (rd_le rd_ok0 ha)
  rw [rd_z] at h0
  exact lv_if_ge C.1.1 C.1.2.1 hd ht (fun h => kt (h0.mp h) hM hL (rd_okt hS) H locs ls hl hP hs) (fun h => kf (fun q => h (h0.mpr q)) hM hL (rd_okt hS) H locs ls hl hP hs)
theorem rd_icmp_gt (C : rd_Cx p s m args meth c cc nl own ret G) {a b off : Int} {tgt : Nat} (hd : decode cc pc = .ok (.if_icmp .gt off, 3)) (ht : (pc : Int) + off = (tgt : Int)) (kt : b < a → rd_W p l e R s m args below meth c Q nl G kd N r tgt L S μ) (kf : ¬ (b < a) → rd_W p l e R s m args below meth c Q nl G kd N r (pc + 3) L S μ) : rd_W p l e R s m args below meth c Q nl G kd N r pc L (rd_I b :: rd_I a :: S) μ := by
  intro hM hL hS H locs ls hl hP hs
  have hb : rd_ok b := rd_okh hS
  have ha : rd_ok a := rd_okh (rd_okt hS)
  exact lv_icmp_gt C.1.1 C.1.2.1 hd ht (fun h => kt ((rd_lt hb ha).mp h) hM hL (rd_okt (rd_okt hS)) H locs ls hl hP hs) (fun h => kf (fun q => h ((rd_lt hb ha).mpr q)) hM hL (rd_okt (rd_okt hS)) H locs ls hl hP hs)
theorem rd_if_gt (C : rd_Cx p s m args meth c cc nl own ret G) {a off : Int} {tgt : Nat} (hd : decode cc pc = .ok (.ifCond .gt off, 3)) (ht : (pc : Int) + off = (tgt : Int)) (kt : 0 < a → rd_W p l e R s m args below meth c Q nl G kd N r tgt L S μ) (kf : ¬ (0 < a) → rd_W p l e R s m args below meth c Q nl G kd N r (pc + 3) L S μ) : rd_W p l e R s m args below meth c Q nl G kd N r pc L (rd_I a :: S) μ := by
  intro hM hL hS H locs ls hl hP hs
  have ha : rd_ok a := rd_okh hS
  have h0 := (rd_lt rd_ok0 ha)
  rw [rd_z] at h0
  exact lv_if_gt C.1.1 C.1.2.1 hd ht (fun h => kt (h0.mp h) hM hL (rd_okt hS) H locs ls hl hP hs) (fun h => kf (fun q => h (h0.mpr q)) hM hL (rd_okt hS) H locs ls hl hP hs)
theorem rd_icmp_le (C : rd_Cx p s m args meth c cc nl own ret G) {a b off : Int} {tgt : Nat} (hd : decode cc pc = .ok (.if_icmp .le off, 3)) (ht : (pc : Int) + off = (tgt : Int)) (kt : a ≤ b → rd_W p l e R s m args below meth c Q nl G kd N r tgt L S μ) (kf : ¬ (a ≤ b) → rd_W p l e R s m args below meth c Q nl G kd N r (pc + 3) L S μ) : rd_W p l e R s m args below meth c Q nl G kd N r pc L (rd_I b :: rd_I a :: S) μ := by
  intro hM hL hS H locs ls hl hP hs
  have hb : rd_ok b := rd_okh hS
  have ha : rd_ok a := rd_okh (rd_okt hS)
  exact lv_icmp_le C.1.1 C.1.2.1 hd ht (fun h => kt ((rd_le ha hb).mp h) hM hL (rd_okt (rd_okt hS)) H locs ls hl hP hs) (fun h => kf (fun q => h ((rd_le ha hb).mpr q)) hM hL (rd_okt (rd_okt hS)) H locs ls hl hP hs)
theorem rd_if_le (C : rd_Cx p s m args meth c cc nl own ret G) {a off : Int} {tgt : Nat} (hd : decode cc pc = .ok (.ifCond .le off, 3)) (ht : (pc : Int) + off = (tgt : Int)) (kt : a ≤ 0 → rd_W p l e R s m args below meth c Q nl G kd N r tgt L S μ) (kf : ¬ (a ≤ 0) → rd_W p l e R s m args below meth c Q nl G kd N r (pc + 3) L S μ) : rd_W p l e R s m args below meth c Q nl G kd N r pc L (rd_I a :: S) μ := by
  intro hM hL hS H locs ls hl hP hs
  have ha : rd_ok a := rd_okh hS
  have h0 := (rd_le ha rd_ok0)
  rw [rd_z] at h0
  exact lv_if_le C.1.1 C.1.2.1 hd ht (fun h => kt (h0.mp h) hM hL (rd_okt hS) H locs ls hl hP hs) (fun h => kf (fun q => h (h0.mpr q)) hM hL (rd_okt hS) H locs ls hl hP hs)
theorem rd_ifnull_r (C : rd_Cx p s m args meth c cc nl own ret G) {q off : Int} (hd : decode cc pc = .ok (.ifnull off, 3)) (k : rd_W p l e R s m args below meth c Q nl G kd N r (pc + 3) L S μ) : rd_W p l e R s m args below meth c Q nl G kd N r pc L (rd_R q :: S) μ := by
  intro hM hL hS H locs ls hl hP hs
  exact lv_ifnull C.1.1 C.1.2.1 hd (k hM hL (rd_okt hS) H locs ls hl hP hs)
theorem rd_ifnull_n (C : rd_Cx p s m args meth c cc nl own ret G) {off : Int} {tgt : Nat} (hd : decode cc pc = .ok (.ifnull off, 3)) (ht : (pc : Int) + off = (tgt : Int)) (k : rd_W p l e R s m args below meth c Q nl G kd N r tgt L S μ) : rd_W p l e R s m args below meth c Q nl G kd N r pc L (rd_N :: S) μ := by
  intro hM hL hS H locs ls hl hP hs
  exact lv_ifnullN C.1.1 C.1.2.1 hd ht (k hM hL (rd_okt hS) H locs ls hl hP hs)
theorem rd_ifnonnull_r (C : rd_Cx p s m args meth c cc nl own ret G) {q off : Int} {tgt : Nat} (hd : decode cc pc = .ok (.ifnonnull off, 3)) (ht : (pc : Int) + off = (tgt : Int)) (k : rd_W p l e R s m args below meth c Q nl G kd N r tgt L S μ) : rd_W p l e R s m args below meth c Q nl G kd N r pc L (rd_R q :: S) μ := by
  intro hM hL hS H locs ls hl hP hs
  exact lv_ifnonnull C.1.1 C.1.2.1 hd ht (k hM hL (rd_okt hS) H locs ls hl hP hs)
theorem rd_ifnonnull_n (C : rd_Cx p s m args meth c cc nl own ret G) {off : Int} (hd : decode cc pc = .ok (.ifnonnull off, 3)) (k : rd_W p l e R s m args below meth c Q nl G kd N r (pc + 3) L S μ) : rd_W p l e R s m args below meth c Q nl G kd N r pc L (rd_N :: S) μ := by
  intro hM hL hS H locs ls hl hP hs
  exact lv_ifnonnullN C.1.1 C.1.2.1 hd (k hM hL (rd_okt hS) H locs ls hl hP hs)
theorem rd_null (C : rd_Cx p s m args meth c cc nl own ret G) (hd : decode cc pc = .ok (.aconst_null, 1)) (k : rd_W p l e R s m args below meth c Q nl G kd N r (pc + 1) L (rd_N :: S) μ) : rd_W p l e R s m args below meth c Q nl G kd N r pc L S μ := by
  intro hM hL hS H locs ls hl hP hs
  exact lv_null C.1.1 C.1.2.1 hd (k hM hL (rd_okc trivial hS) H locs ls hl hP hs)
theorem rd_swIn (C : rd_Cx p s m args meth c cc nl own ret G) {z dflt lo hi off : Int} {offs : Array Int} {len tgt : Nat} (hd : decode cc pc = .ok (.tableswitch dflt lo hi offs, len)) (h1 : lo ≤ z) (h2 : z ≤ hi) (ho : offs[(z - lo).toNat]? = some off) (ht : (pc : Int) + off = (tgt : Int)) (k : rd_W p l e R s m args below meth c Q nl G kd N r tgt L S μ) : rd_W p l e R s m args below meth c Q nl G kd N r pc L (rd_I z :: S) μ := by
  intro hM hL hS H locs ls hl hP hs
  have hz : rd_ok z := rd_okh hS
  exact lv_tableIn C.1.1 C.1.2.1 hd (by rw [rd_toInt hz]; omega) (by rw [rd_toInt hz]; omega) (by rw [rd_toInt hz]; exact ho) ht (k hM hL (rd_okt hS) H locs ls hl hP hs)
theorem rd_swOut (C : rd_Cx p s m args meth c cc nl own ret G) {z dflt lo hi : Int} {offs : Array Int} {len tgt : Nat} (hd : decode cc pc = .ok (.tableswitch dflt lo hi offs, len)) (h : z < lo ∨ hi < z) (ht : (pc : Int) + dflt = (tgt : Int)) (k : rd_W p l e R s m args below meth c Q nl G kd N r tgt L S μ) : rd_W p l e R s m args below meth c Q nl G kd N r pc L (rd_I z :: S) μ := by
  intro hM hL hS H locs ls hl hP hs
  have hz : rd_ok z := rd_okh hS
  exact lv_tableOut C.1.1 C.1.2.1 hd (by rw [rd_toInt hz]; exact h) ht (k hM hL (rd_okt hS) H locs ls hl hP hs)
theorem rd_lsw (C : rd_Cx p s m args meth c cc nl own ret G) {z dflt off : Int} {ps : Array (Int × Int)} {len tgt : Nat} (hd : decode cc pc = .ok (.lookupswitch dflt ps, len)) (hp : (ps.toList.zip (ps.toList.drop 1)).all (fun (a, next) => a.1 < next.1) = true) (ho : Op.lookupswitch.offset ps.toList dflt z = off) (ht : (pc : Int) + off = (tgt : Int)) (k : rd_W p l e R s m args below meth c Q nl G kd N r tgt L S μ) : rd_W p l e R s m args below meth c Q nl G kd N r pc L (rd_I z :: S) μ := by
  intro hM hL hS H locs ls hl hP hs
  have hz : rd_ok z := rd_okh hS
  exact lv_lookup C.1.1 C.1.2.1 hd hp (by rw [rd_toInt hz]; exact ho) ht (k hM hL (rd_okt hS) H locs ls hl hP hs)
theorem rd_i2c (C : rd_Cx p s m args meth c cc nl own ret G) {z : Int} (hd : decode cc pc = .ok (.i2c, 1)) (h0 : 0 ≤ z) (h1 : z < 65536) (k : rd_W p l e R s m args below meth c Q nl G kd N r (pc + 1) L (rd_I z :: S) μ) : rd_W p l e R s m args below meth c Q nl G kd N r pc L (rd_I z :: S) μ := by
  intro hM hL hS H locs ls hl hP hs
  refine lv_i2c (v := rd_i z) C.1.1 C.1.2.1 hd ?_ (k hM hL hS H locs ls hl hP hs)
  have e : rd_i z = nI z.toNat := by
    show Int32.ofInt z = Int32.ofNat z.toNat
    rw [← Int32.ofInt_eq_ofNat]
    congr 1
    omega
  rw [e, pk_char, pk_tn (by omega)]
  congr 1
  omega
end RDW

