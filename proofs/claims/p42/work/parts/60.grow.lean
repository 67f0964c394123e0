/-! rows over any invariant of the heap -/
section RXW
variable {p : Program} {l : Launch} {e : Env} {R : Room} {s : State} {m : MethodId} {args : Array Value} {below : List Frame} {meth : Method} {c : Code} {Q : State → Prop}
variable {cc : ByteArray} {nl : Nat} {own : String} {ret : Option FieldType} {G : rd_G} {r cs sl : Nat}
def rx_W (p : Program) (l : Launch) (e : Env) (R : Room) (s : State) (m : MethodId) (args : Array Value) (below : List Frame) (meth : Method) (c : Code) (Q : State → Prop) (nl r cs sl : Nat) (I : Heap → List Loc → Prop) (pc : Nat) (L S : List rd_X) : Prop :=
  rd_okL L → rd_okL S → ∀ (H : Heap) (locs : List Loc) (ls : Array Slot), rd_has r ls nl L → I H locs → W p l e R s m args below meth c H locs cs sl Q (F0 m pc ls (S.map (rd_val r)))
variable {I : Heap → List Loc → Prop} {pc : Nat} {L S : List rd_X}
theorem rx_W.rng (k : rd_okL L → rd_okL S → rx_W p l e R s m args below meth c Q nl r cs sl I pc L S) : rx_W p l e R s m args below meth c Q nl r cs sl I pc L S := fun hL hS => k hL hS hL hS
theorem rx_W.sub {L' : List rd_X} (k : rx_W p l e R s m args below meth c Q nl r cs sl I pc L' S) (hs : ∀ (i : Nat) (x : rd_X), L'[i]? = some x → x = rd_J ∨ L[i]? = some x) : rx_W p l e R s m args below meth c Q nl r cs sl I pc L S := by
  intro hL hS H locs ls hl hI
  refine k (fun x hx => ?_) hS H locs ls (hl.sub hs) hI
  obtain ⟨i, hi⟩ := List.getElem?_of_mem hx
  rcases hs i x hi with rfl | h
  · trivial
  · exact rd_oki hL h
theorem rx_W.wid {cs' sl' : Nat} (h1 : cs ≤ cs') (h2 : sl ≤ sl') (k : rx_W p l e R s m args below meth c Q nl r cs' sl' I pc L S) : rx_W p l e R s m args below meth c Q nl r cs sl I pc L S :=
  fun hL hS H locs ls hl hI => W.widen h1 h2 (k hL hS H locs ls hl hI)
theorem rx_W.inv {I' : Heap → List Loc → Prop} (h : ∀ H locs, I H locs → I' H locs) (k : rx_W p l e R s m args below meth c Q nl r cs sl I' pc L S) : rx_W p l e R s m args below meth c Q nl r cs sl I pc L S :=
  fun hL hS H locs ls hl hI => k hL hS H locs ls hl (h H locs hI)
theorem rx_iconst (C : rd_Cx p s m args meth c cc nl own ret G) {n : Int} (hd : decode cc pc = .ok (.iconst n, 1)) (hn : rd_ok n) (k : rx_W p l e R s m args below meth c Q nl r cs sl I (pc + 1) L (rd_I n :: S)) : rx_W p l e R s m args below meth c Q nl r cs sl I pc L S := by
  intro hL hS H locs ls hl hI
  exact lv_iconst C.1.1 C.1.2.1 hd rfl (k hL (rd_okc hn hS) H locs ls hl hI)
theorem rx_bipush (C : rd_Cx p s m args meth c cc nl own ret G) {n : Int} (hd : decode cc pc = .ok (.bipush n, 2)) (hv : (Int8.ofInt n).toInt32 = rd_i n) (hn : rd_ok n) (k : rx_W p l e R s m args below meth c Q nl r cs sl I (pc + 2) L (rd_I n :: S)) : rx_W p l e R s m args below meth c Q nl r cs sl I pc L S := by
  intro hL hS H locs ls hl hI
  exact lv_bipush C.1.1 C.1.2.1 hd hv (k hL (rd_okc hn hS) H locs ls hl hI)
theorem rx_sipush (C : rd_Cx p s m args meth c cc nl own ret G) {n : Int} (hd : decode cc pc = .ok (.sipush n, 3)) (hv : (Int16.ofInt n).toInt32 = rd_i n) (hn : rd_ok n) (k : rx_W p l e R s m args below meth c Q nl r cs sl I (pc + 3) L (rd_I n :: S)) : rx_W p l e R s m args below meth c Q nl r cs sl I pc L S := by
  intro hL hS H locs ls hl hI
  exact lv_sipush C.1.1 C.1.2.1 hd hv (k hL (rd_okc hn hS) H locs ls hl hI)
theorem rx_iload_n (C : rd_Cx p s m args meth c cc nl own ret G) {i : Fin 4} {z : Int} (hd : decode cc pc = .ok (.iload_n i, 1)) (hx : L[(i : Nat)]? = some (rd_I z)) (k : rx_W p l e R s m args below meth c Q nl r cs sl I (pc + 1) L (rd_I z :: S)) : rx_W p l e R s m args below meth c Q nl r cs sl I pc L S := by
  intro hL hS H locs ls hl hI
  exact lv_iload_n (x := rd_i z) C.1.1 C.1.2.1 hd rfl (rd_lget hl hx (fun h => by cases h)) (k hL (rd_okc (rd_oki hL hx) hS) H locs ls hl hI)
theorem rx_iload (C : rd_Cx p s m args meth c cc nl own ret G) {i : Nat} {z : Int} (hd : decode cc pc = .ok (.iload i, 2)) (hx : L[i]? = some (rd_I z)) (k : rx_W p l e R s m args below meth c Q nl r cs sl I (pc + 2) L (rd_I z :: S)) : rx_W p l e R s m args below meth c Q nl r cs sl I pc L S := by
  intro hL hS H locs ls hl hI
  exact lv_iload (x := rd_i z) C.1.1 C.1.2.1 hd (rd_lget hl hx (fun h => by cases h)) (k hL (rd_okc (rd_oki hL hx) hS) H locs ls hl hI)
theorem rx_aload_n (C : rd_Cx p s m args meth c cc nl own ret G) {i : Fin 4} {z : Option Int} (hd : decode cc pc = .ok (.aload_n i, 1)) (hx : L[(i : Nat)]? = some (.inr (.inl z))) (k : rx_W p l e R s m args below meth c Q nl r cs sl I (pc + 1) L (.inr (.inl z) :: S)) : rx_W p l e R s m args below meth c Q nl r cs sl I pc L S := by
  intro hL hS H locs ls hl hI
  have h1 := rd_lget hl hx (fun h => by cases h)
  have h2 := k hL (rd_okc (rd_oki hL hx) hS) H locs ls hl hI
  cases z with
  | none => exact lv_aload_nN C.1.1 C.1.2.1 hd rfl h1 h2
  | some z => exact lv_aload_n C.1.1 C.1.2.1 hd rfl h1 h2
theorem rx_aload (C : rd_Cx p s m args meth c cc nl own ret G) {i : Nat} {z : Option Int} (hd : decode cc pc = .ok (.aload i, 2)) (hx : L[i]? = some (.inr (.inl z))) (k : rx_W p l e R s m args below meth c Q nl r cs sl I (pc + 2) L (.inr (.inl z) :: S)) : rx_W p l e R s m args below meth c Q nl r cs sl I pc L S := by
  intro hL hS H locs ls hl hI
  have h1 := rd_lget hl hx (fun h => by cases h)
  have h2 := k hL (rd_okc (rd_oki hL hx) hS) H locs ls hl hI
  cases z with
  | none => exact lv_aloadN C.1.1 C.1.2.1 hd h1 h2
  | some z => exact lv_aload C.1.1 C.1.2.1 hd h1 h2
theorem rx_istore_n (C : rd_Cx p s m args meth c cc nl own ret G) {i : Fin 4} {z : Int} (hd : decode cc pc = .ok (.istore_n i, 1)) (hi : (i : Nat) < nl) {L' : List rd_X} (hL' : rd_set L (i : Nat) (rd_I z) = L') (k : rx_W p l e R s m args below meth c Q nl r cs sl I (pc + 1) L' S) : rx_W p l e R s m args below meth c Q nl r cs sl I pc L (rd_I z :: S) := by
  intro hL hS H locs ls hl hI
  subst hL'
  obtain ⟨ls', e', h'⟩ := rd_store (x := rd_I z) hl hi
  have h2 := k (rd_set_ok hL (rd_okh hS)) (rd_okt hS) H locs ls' h' hI
  have hx := C.1.1
  have hb := C.1.2.1
  have e1 : storeLocals ls (i : Nat) (.int (rd_i z)) = some ls' := e'
  intro T hT X
  obtain ⟨t, a, b⟩ := h2 T hT X
  refine ⟨t, ?_, b⟩
  have htop := X.here.top
  show Steps p.tables e below (T.setTop (F0 m pc ls (.int (rd_i z) :: S.map (rd_val r)))) t
  jvm_step X.here [htop, ↓top_set htop, hx, hb, hd, e1]
  exact a
theorem rx_istore (C : rd_Cx p s m args meth c cc nl own ret G) {i : Nat} {z : Int} (hd : decode cc pc = .ok (.istore i, 2)) (hi : i < nl) {L' : List rd_X} (hL' : rd_set L i (rd_I z) = L') (k : rx_W p l e R s m args below meth c Q nl r cs sl I (pc + 2) L' S) : rx_W p l e R s m args below meth c Q nl r cs sl I pc L (rd_I z :: S) := by
  intro hL hS H locs ls hl hI
  subst hL'
  obtain ⟨ls', e', h'⟩ := rd_store (x := rd_I z) hl hi
  have h2 := k (rd_set_ok hL (rd_okh hS)) (rd_okt hS) H locs ls' h' hI
  have hx := C.1.1
  have hb := C.1.2.1
  have e1 : storeLocals ls i (.int (rd_i z)) = some ls' := e'
  intro T hT X
  obtain ⟨t, a, b⟩ := h2 T hT X
  refine ⟨t, ?_, b⟩
  have htop := X.here.top
  show Steps p.tables e below (T.setTop (F0 m pc ls (.int (rd_i z) :: S.map (rd_val r)))) t
  jvm_step X.here [htop, ↓top_set htop, hx, hb, hd, e1]
  exact a
theorem rx_astore_n (C : rd_Cx p s m args meth c cc nl own ret G) {i : Fin 4} {z : Int} (hd : decode cc pc = .ok (.astore_n i, 1)) (hi : (i : Nat) < nl) {L' : List rd_X} (hL' : rd_set L (i : Nat) (rd_R z) = L') (k : rx_W p l e R s m args below meth c Q nl r cs sl I (pc + 1) L' S) : rx_W p l e R s m args below meth c Q nl r cs sl I pc L (rd_R z :: S) := by
  intro hL hS H locs ls hl hI
  subst hL'
  obtain ⟨ls', e', h'⟩ := rd_store (x := rd_R z) hl hi
  have h2 := k (rd_set_ok hL (rd_okh hS)) (rd_okt hS) H locs ls' h' hI
  have hx := C.1.1
  have hb := C.1.2.1
  have e1 : storeLocals ls (i : Nat) (.ref (r + z.toNat)) = some ls' := e'
  intro T hT X
  obtain ⟨t, a, b⟩ := h2 T hT X
  refine ⟨t, ?_, b⟩
  have htop := X.here.top
  show Steps p.tables e below (T.setTop (F0 m pc ls (.ref (r + z.toNat) :: S.map (rd_val r)))) t
  jvm_step X.here [htop, ↓top_set htop, hx, hb, hd, e1]
  exact ⟨rfl, a⟩
theorem rx_iinc (C : rd_Cx p s m args meth c cc nl own ret G) {i : Nat} {n z : Int} (hd : decode cc pc = .ok (.iinc i n, 3)) (hi : i < nl) (hx : L[i]? = some (rd_I z)) (hok : rd_ok (z + n)) {L' : List rd_X} (hL' : rd_set L i (rd_I (z + n)) = L') (k : rx_W p l e R s m args below meth c Q nl r cs sl I (pc + 3) L' S) : rx_W p l e R s m args below meth c Q nl r cs sl I pc L S := by
  intro hL hS H locs ls hl hI
  subst hL'
  have hg := rd_lget hl hx (fun h => by cases h)
  obtain ⟨ls', e', h'⟩ := rd_store (x := rd_I (z + n)) hl hi
  have h2 := k (rd_set_ok hL (hok)) hS H locs ls' h' hI
  have hxe := C.1.1
  have hb := C.1.2.1
  have hg1 : ls[i]? = some (.val (.int (rd_i z))) := hg
  have e1 : storeLocals ls i (.int (rd_i z + Int32.ofInt n)) = some ls' := by
    rw [show rd_i z + Int32.ofInt n = rd_i (z + n) from rd_add z n]; exact e'
  intro T hT X
  obtain ⟨t, a, b⟩ := h2 T hT X
  refine ⟨t, ?_, b⟩
  have htop := X.here.top
  jvm_step X.here [htop, ↓top_set htop, hxe, hb, hd, hg1, e1]
  exact a
theorem rx_iadd (C : rd_Cx p s m args meth c cc nl own ret G) {a b z : Int} (hd : decode cc pc = .ok (.iadd, 1)) (hz : a + b = z) (hok : rd_ok z) (k : rx_W p l e R s m args below meth c Q nl r cs sl I (pc + 1) L (rd_I z :: S)) : rx_W p l e R s m args below meth c Q nl r cs sl I pc L (rd_I b :: rd_I a :: S) := by
  intro hL hS H locs ls hl hI
  subst hz
  have h2 := k hL (rd_okc hok (rd_okt (rd_okt hS))) H locs ls hl hI
  refine lv_iadd C.1.1 C.1.2.1 hd ?_
  rw [rd_add]
  exact h2
theorem rx_isub (C : rd_Cx p s m args meth c cc nl own ret G) {a b z : Int} (hd : decode cc pc = .ok (.isub, 1)) (hz : a - b = z) (hok : rd_ok z) (k : rx_W p l e R s m args below meth c Q nl r cs sl I (pc + 1) L (rd_I z :: S)) : rx_W p l e R s m args below meth c Q nl r cs sl I pc L (rd_I b :: rd_I a :: S) := by
  intro hL hS H locs ls hl hI
  subst hz
  have h2 := k hL (rd_okc hok (rd_okt (rd_okt hS))) H locs ls hl hI
  refine lv_isub C.1.1 C.1.2.1 hd ?_
  rw [rd_sub]
  exact h2
theorem rx_iand (C : rd_Cx p s m args meth c cc nl own ret G) {a b z : Int} (hd : decode cc pc = .ok (.iand, 1)) (hz : rd_i a &&& rd_i b = rd_i z) (hok : rd_ok z) (k : rx_W p l e R s m args below meth c Q nl r cs sl I (pc + 1) L (rd_I z :: S)) : rx_W p l e R s m args below meth c Q nl r cs sl I pc L (rd_I b :: rd_I a :: S) := by
  intro hL hS H locs ls hl hI
  have h2 := k hL (rd_okc hok (rd_okt (rd_okt hS))) H locs ls hl hI
  refine lv_iand C.1.1 C.1.2.1 hd ?_
  rw [hz]
  exact h2
theorem rx_dup (C : rd_Cx p s m args meth c cc nl own ret G) {x : rd_X} (hd : decode cc pc = .ok (.dup, 1)) (k : rx_W p l e R s m args below meth c Q nl r cs sl I (pc + 1) L (x :: x :: S)) (hx : rd_one x = true := by rfl) : rx_W p l e R s m args below meth c Q nl r cs sl I pc L (x :: S) := by
  intro hL hS H locs ls hl hI
  exact lv_dup C.1.1 C.1.2.1 hd (rd_cat r hx) (k hL (rd_okc (rd_okh hS) hS) H locs ls hl hI)
theorem rx_goto (C : rd_Cx p s m args meth c cc nl own ret G) {off : Int} {tgt : Nat} (hd : decode cc pc = .ok (.goto off, 3)) (ht : (pc : Int) + off = (tgt : Int)) (k : rx_W p l e R s m args below meth c Q nl r cs sl I tgt L S) : rx_W p l e R s m args below meth c Q nl r cs sl I pc L S := by
  intro hL hS H locs ls hl hI
  exact lv_goto C.1.1 C.1.2.1 hd ht (k hL hS H locs ls hl hI)
theorem rx_icmp_eq (C : rd_Cx p s m args meth c cc nl own ret G) {a b off : Int} {tgt : Nat} (hd : decode cc pc = .ok (.if_icmp .eq off, 3)) (ht : (pc : Int) + off = (tgt : Int)) (kt : a = b → rx_W p l e R s m args below meth c Q nl r cs sl I tgt L S) (kf : ¬ (a = b) → rx_W p l e R s m args below meth c Q nl r cs sl I (pc + 3) L S) : rx_W p l e R s m args below meth c Q nl r cs sl I pc L (rd_I b :: rd_I a :: S) := by
  intro hL hS H locs ls hl hI
  have hb : rd_ok b := rd_okh hS
  have ha : rd_ok a := rd_okh (rd_okt hS)
  exact lv_icmp_eq C.1.1 C.1.2.1 hd ht (fun h => kt ((rd_eq ha hb).mp h) hL (rd_okt (rd_okt hS)) H locs ls hl hI) (fun h => kf (fun q => h ((rd_eq ha hb).mpr q)) hL (rd_okt (rd_okt hS)) H locs ls hl hI)
theorem rx_if_eq (C : rd_Cx p s m args meth c cc nl own ret G) {a off : Int} {tgt : Nat} (hd : decode cc pc = .ok (.ifCond .eq off, 3)) (ht : (pc : Int) + off = (tgt : Int)) (kt : a = 0 → rx_W p l e R s m args below meth c Q nl r cs sl I tgt L S) (kf : ¬ (a = 0) → rx_W p l e R s m args below meth c Q nl r cs sl I (pc + 3) L S) : rx_W p l e R s m args below meth c Q nl r cs sl I pc L (rd_I a :: S) := by
  intro hL hS H locs ls hl hI
  have ha : rd_ok a := rd_okh hS
  have h0 := (rd_eq ha rd_ok0)
  rw [rd_z] at h0
  exact lv_if_eq C.1.1 C.1.2.1 hd ht (fun h => kt (h0.mp h) hL (rd_okt hS) H locs ls hl hI) (fun h => kf (fun q => h (h0.mpr q)) hL (rd_okt hS) H locs ls hl hI)
theorem rx_icmp_ge (C : rd_Cx p s m args meth c cc nl own ret G) {a b off : Int} {tgt : Nat} (hd : decode cc pc = .ok (.if_icmp .ge off, 3)) (ht : (pc : Int) + off = (tgt : Int)) (kt : b ≤ a → rx_W p l e R s m args below meth c Q nl r cs sl I tgt L S) (kf : ¬ (b ≤ a) → rx_W p l e R s m args below meth c Q nl r cs sl I (pc + 3) L S) : rx_W p l e R s m args below meth c Q nl r cs sl I pc L (rd_I b :: rd_I a :: S) := by
  intro hL hS H locs ls hl hI
  have hb : rd_ok b := rd_okh hS
  have ha : rd_ok a := rd_okh (rd_okt hS)
  exact lv_icmp_ge C.1.1 C.1.2.1 hd ht (fun h => kt ((rd_le hb ha).mp h) hL (rd_okt (rd_okt hS)) H locs ls hl hI) (fun h => kf (fun q => h ((rd_le hb ha).mpr q)) hL (rd_okt (rd_okt hS)) H locs ls hl hI)
theorem rx_icmp_gt (C : rd_Cx p s m args meth c cc nl own ret G) {a b off : Int} {tgt : Nat} (hd : decode cc pc = .ok (.if_icmp .gt off, 3)) (ht : (pc : Int) + off = (tgt : Int)) (kt : b < a → rx_W p l e R s m args below meth c Q nl r cs sl I tgt L S) (kf : ¬ (b < a) → rx_W p l e R s m args below meth c Q nl r cs sl I (pc + 3) L S) : rx_W p l e R s m args below meth c Q nl r cs sl I pc L (rd_I b :: rd_I a :: S) := by
  intro hL hS H locs ls hl hI
  have hb : rd_ok b := rd_okh hS
  have ha : rd_ok a := rd_okh (rd_okt hS)
  exact lv_icmp_gt C.1.1 C.1.2.1 hd ht (fun h => kt ((rd_lt hb ha).mp h) hL (rd_okt (rd_okt hS)) H locs ls hl hI) (fun h => kf (fun q => h ((rd_lt hb ha).mpr q)) hL (rd_okt (rd_okt hS)) H locs ls hl hI)
theorem rx_swIn (C : rd_Cx p s m args meth c cc nl own ret G) {z dflt lo hi off : Int} {offs : Array Int} {len tgt : Nat} (hd : decode cc pc = .ok (.tableswitch dflt lo hi offs, len)) (h1 : lo ≤ z) (h2 : z ≤ hi) (ho : offs[(z - lo).toNat]? = some off) (ht : (pc : Int) + off = (tgt : Int)) (k : rx_W p l e R s m args below meth c Q nl r cs sl I tgt L S) : rx_W p l e R s m args below meth c Q nl r cs sl I pc L (rd_I z :: S) := by
  intro hL hS H locs ls hl hI
  have hz : rd_ok z := rd_okh hS
  exact lv_tableIn C.1.1 C.1.2.1 hd (by rw [rd_toInt hz]; omega) (by rw [rd_toInt hz]; omega) (by rw [rd_toInt hz]; exact ho) ht (k hL (rd_okt hS) H locs ls hl hI)
theorem rx_swOut (C : rd_Cx p s m args meth c cc nl own ret G) {z dflt lo hi : Int} {offs : Array Int} {len tgt : Nat} (hd : decode cc pc = .ok (.tableswitch dflt lo hi offs, len)) (h : z < lo ∨ hi < z) (ht : (pc : Int) + dflt = (tgt : Int)) (k : rx_W p l e R s m args below meth c Q nl r cs sl I tgt L S) : rx_W p l e R s m args below meth c Q nl r cs sl I pc L (rd_I z :: S) := by
  intro hL hS H locs ls hl hI
  have hz : rd_ok z := rd_okh hS
  exact lv_tableOut C.1.1 C.1.2.1 hd (by rw [rd_toInt hz]; exact h) ht (k hL (rd_okt hS) H locs ls hl hI)
theorem rx_pop (C : rd_Cx p s m args meth c cc nl own ret G) {x : rd_X} (hd : decode cc pc = .ok (.pop, 1)) (k : rx_W p l e R s m args below meth c Q nl r cs sl I (pc + 1) L S) (hx : rd_one x = true := by rfl) : rx_W p l e R s m args below meth c Q nl r cs sl I pc L (x :: S) := by
  intro hL hS H locs ls hl hI
  exact lv_pop C.1.1 C.1.2.1 hd (rd_cat r hx) (k hL (rd_okt hS) H locs ls hl hI)
end RXW
/-! a growing world: the region from cell k on, n cells so far, made one behind the other -/
def rg_u (E : Nat → va_E) (n : Nat) (e : va_E) : Nat → va_E := fun j => if j = n then e else E j
theorem rg_u_s (E : Nat → va_E) (n : Nat) (e : va_E) : rg_u E n e n = e := if_pos rfl
theorem rg_u_n (E : Nat → va_E) {n j : Nat} (e : va_E) (h : j ≠ n) : rg_u E n e j = E j := if_neg h
def rg_if (E E' : Nat → va_E) (j : Nat) : Nat → va_E := fun i => if i < j then E i else E' i
theorem rg_if_l (E E' : Nat → va_E) {j i : Nat} (h : i < j) : rg_if E E' j i = E i := if_pos h
theorem rg_if_r (E E' : Nat → va_E) {j i : Nat} (h : j ≤ i) : rg_if E E' j i = E' i := if_neg (Nat.not_lt.mpr h)
def rg_H (G : rd_G) (r k n : Nat) (E : Nat → va_E) (H0 H : Heap) : Prop := H.size = r + n ∧ (∀ j : Nat, k ≤ j → j < n → va_at G.1 rd_cl (r + j, E j) H) ∧ ∀ q : Nat, q < r + k → H[q]? = H0[q]?
def rg_I (G : rd_G) (r k n : Nat) (E : Nat → va_E) (H0 : Heap) : Heap → List Loc → Prop := fun H locs => rg_H G r k n E H0 H ∧ ∀ q ∈ locs, r + k ≤ q.base
def rg_Ke (G : rd_G) (U : State) : Prop := rd_Ke G U ∧ va_AO RX7 U ∧ va_AO RX8 U
theorem rg_Ke.warm {G : rd_G} {s U : State} (hW : s.WarmedH U.vm) (h : rg_Ke G s) : rg_Ke G U := ⟨h.1.warm hW, h.2.1.moved hW.alike, h.2.2.moved hW.alike⟩
theorem rg_Ke.same {G : rd_G} {u U : State} (hv : u.vm = U.vm) (h : rg_Ke G u) : rg_Ke G U := ⟨rd_Ke.same hv h.1, h.2.1.moved (by rw [hv]; exact Vm.Alike.refl _), h.2.2.moved (by rw [hv]; exact Vm.Alike.refl _)⟩
/-- a constructor's contract: the object that was just made, at cell k, becomes N cells -/
def rg_Pc (G : rd_G) (r k n0 : Nat) (E0 : Nat → va_E) : Array Value → State → Prop := fun v U => v = #[Value.ref (r + k)] ∧ U.heap.size = r + (k + n0) ∧ (∀ j : Nat, k ≤ j → j < k + n0 → va_at G.1 rd_cl (r + j, E0 j) U.heap) ∧ rg_Ke G U
def rg_Qc (G : rd_G) (r k N : Nat) (E : Nat → va_E) : Array Value → State → Outcome → State → Prop := fun _ st oc t => oc = .returned none ∧ rg_H G r k (k + N) E st.heap t.heap
def rg_rm (fr lo ce sl : Nat) : Room := { frames := fr, cells := ce, slots := sl, locals := lo }
def rg_M (l : Launch) (G : rd_G) (y : MethodName) (cc : ByteArray) (nl fr lo mc ms : Nat) (r k n0 N : Nat) (E0 E : Nat → va_E) : Prop :=
  Met l y (.code y cc nl none :: rd_T) (rg_rm fr lo mc ms) (rg_Pc G r k n0 E0) (rg_Qc G r k N E) mc ms (fun q => r + k ≤ q)
theorem rg_blind {G : rd_G} {r k n0 : Nat} {E0 : Nat → va_E} : FrameBlind (rg_Pc G r k n0 E0) := fun a U g mk h =>
  ⟨h.1, h.2.1, h.2.2.1, rg_Ke.same (u := U) (U := U.calling g mk a) rfl h.2.2.2⟩
theorem rg_enter {l : Launch} {G : rd_G} {y : MethodName} {cc : ByteArray} {nl fr lo mc ms r k n0 N : Nat} {E0 E : Nat → va_E} (hy : plainName y.cls = true) (hnl : 1 ≤ nl) (L0 : List rd_X) (h0 : rd_R k :: List.replicate (nl - 1) rd_J = L0)
    (body : ∀ (p : Program) (e : Env) (s : State) (m : MethodId) (args : Array Value) (below : List Frame) (meth : Method) (c : Code), rd_Cx p s m args meth c cc nl y.cls none G → rg_Ke G s → meth.name = y.name →
      rx_W p l e (rg_rm fr lo mc ms) s m args below meth c (MQ below (rg_Qc G r k N E) args s mc ms (fun q => r + k ≤ q)) nl r 0 0 (rg_I G r k (k + n0) E0 s.heap) 0 L0 []) : rg_M l G y cc nl fr lo mc ms r k n0 N E0 E := by
  subst h0
  refine Met.ofW (cc := cc) (maxL := nl) (ret := none) hy rfl ?_
  intro p e s m args below meth c s₁ B hml hv
  obtain ⟨rfl, hsz, hat, hK⟩ := hv
  have hts := atoms_spec (ws := .code y cc nl none :: rd_T) B.pre
  have hown : s.vm.findClass y.cls = some m.cls := findClass_of_methodNamed B.named
  have C : rd_Cx p s m #[Value.ref (r + k)] meth c cc nl y.cls none G := ⟨⟨B.exec, B.bytes, hml, hown, fun w hw => hts w (List.mem_cons_of_mem _ hw)⟩, B.returns, B.notSynchronized, hK.1⟩
  have hl := lv_entry ([Value.ref (r + k)]) (n := nl) hnl
  have hb := body p e s m #[Value.ref (r + k)] below meth c C hK (name_of_methodNamed B.named B.method).1
  have e1 : entryFrame m #[Value.ref (r + k)] nl = F0 m 0 (lg_sl [Value.ref (r + k)] ++ List.replicate (nl - (lg_sl [Value.ref (r + k)]).length) Slot.unset).toArray [] := lg_entry_eq _ _ _
  rw [e1]
  refine hb ?_ rd_okn s.heap [] _ ⟨hl.1, hl.2.1, fun i x hx => ?_⟩ ⟨⟨hsz, hat, fun _ _ => rfl⟩, fun q hq => absurd hq List.not_mem_nil⟩
  · exact rd_okc trivial (fun x hx => by rw [(List.mem_replicate.mp hx).2]; trivial)
  · cases i with
    | zero =>
      right
      have hx' : rd_R (k : Int) = x := by simpa using hx
      subst hx'
      have : (lg_sl [Value.ref (r + k)] ++ List.replicate (nl - (lg_sl [Value.ref (r + k)]).length) Slot.unset)[0]? = some (Slot.val (Value.ref (r + k))) := rfl
      show _ = some (Slot.val (Value.ref (r + (k : Int).toNat)))
      rw [show (k : Int).toNat = k by omega]
      simpa using this
    | succ i =>
      left
      simp only [List.getElem?_cons_succ] at hx
      exact (List.mem_replicate.mp (List.mem_of_getElem? hx)).2
section RGW
variable {p : Program} {l : Launch} {e : Env} {R : Room} {s : State} {m : MethodId} {args : Array Value} {below : List Frame} {meth : Method} {c : Code} {Q : State → Prop}
variable {cc : ByteArray} {nl : Nat} {own : String} {ret : Option FieldType} {G : rd_G} {r cs sl k n : Nat} {E : Nat → va_E} {H0 : Heap}
variable {I : Heap → List Loc → Prop} {pc : Nat} {L S : List rd_X}
theorem rg_one {H : Heap} {j : Nat} (h : rg_H G r k n E H0 H) (hj : k ≤ j ∧ j < n) : va_P G.1 rd_cl [(r + j, E j)] H := fun i q hq => by
  cases i with
  | zero => cases hq; exact h.2.1 j hj.1 hj.2
  | succ i => simp at hq
theorem rg_obj (C : rd_Cx p s m args meth c cc nl own ret G) {idx : Nat} {q : Int} (hlink : (.methodLink own idx ⟨"java/lang/Object", "<init>", "()V"⟩ : Cond) ∈ rd_T) (hR : 1 ≤ R.frames ∧ 20 ≤ R.locals) (h8 : rd_wt S ≤ 8) (hd : decode cc pc = .ok (.invokespecial idx, 3))
    (kk : rx_W p l e R s m args below meth c Q nl r cs sl I (pc + 3) L S) : rx_W p l e R s m args below meth c Q nl r cs sl I pc L (rd_R q :: S) := by
  intro hL hS H locs ls hl hI
  have hts := C.1.2.2.2.2
  have h0 := rd_room (m := m) (pc := pc) (r := r) (ls := ls) (r0 := Value.ref (r + q.toNat) :: S.map (rd_val r)) h8
  exact W.objInit (g := F0 m pc ls (Value.ref (r + q.toNat) :: S.map (rd_val r))) C.1.1 C.1.2.1 C.1.2.2.2.1 (hts _ hlink) (hts _ ri_Object__init_) (hts _ rc_Object__init_) rfl (by rw [C.1.2.2.1]; exact hl.1) rfl hd hR.1 (by omega) (kk hL (rd_okt hS) H locs ls hl hI)
theorem rg_new (C : rd_Cx p s m args meth c cc nl own ret G) {ci N idx : Nat} {Cn : String} {T : u_T} {ty : Nat → FieldType} {fs : List Value} (hin : ∀ w ∈ u_ws Cn T N, w ∈ rd_T) (hty : ∀ k, k < N → parseFieldDescriptor (T k).2.2.1 = some (ty k)) (hc : rd_cl[ci]? = some (Cn, T, N)) (hw1 : (Cond.classLink own idx Cn) ∈ rd_T) (hw2 : (Cond.instantiable Cn N) ∈ rd_T) (hw3 : (Cond.initialized Cn) ∈ rd_T) (hfs : ∀ j, j < N → defaultValue (ty j) = vp_V fs j) (hkn : k ≤ n) (hcells : cs + 1 ≤ R.cells) (hslots : sl + N ≤ R.slots) (hd : decode cc pc = .ok (.new idx, 3))
    (kk : rx_W p l e R s m args below meth c Q nl r (cs + 1) (sl + N) (rg_I G r k (n + 1) (rg_u E n (.inr (ci, fs))) H0) (pc + 3) L (rd_R n :: S)) : rx_W p l e R s m args below meth c Q nl r cs sl (rg_I G r k n E H0) pc L S := by
  intro hL hS H locs ls hl hI
  obtain ⟨⟨hsz, hat, hfr⟩, hlo⟩ := hI
  have hts := C.1.2.2.2.2
  have hKn := C.2.2.2.1.1 ci _ hc
  refine W.newcK C.1.1 C.1.2.1 C.1.2.2.2.1 (hts _ hw1) (hts _ hw2) (hts _ hw3) rfl hd hcells hslots hKn.2.1 rfl fun H1 kC hkC e1 z1 o1 => ?_
  have h1 := kk hL (rd_okc trivial hS) H1 locs ls hl ⟨⟨by omega, fun j j0 j1 => ?_, fun q hq => (o1 q (by omega)).trans (hfr q hq)⟩, hlo⟩
  · have e2 : rd_val r (rd_R (n : Int)) = Value.ref H.size := congrArg Value.ref (show r + (n : Int).toNat = H.size by omega)
    have e3 : (rd_R (n : Int) :: S).map (rd_val r) = Value.ref H.size :: S.map (rd_val r) := by rw [List.map_cons, e2]
    rw [e3] at h1
    exact h1
  · by_cases hj : j = n
    · rw [hj, rg_u_s, ← hsz]
      exact ⟨_, hc, (u_born ty hts hin hKn hkC e1 hty).to hfs⟩
    · rw [rg_u_n _ _ hj]
      exact (hat j j0 (by omega)).kept (o1 _ (by omega))
theorem rg_newa (C : rd_Cx p s m args meth c cc nl own ret G) {atype : ArrayType} {ty : FieldType} {cA0 : ClassId} {t N : Nat} {z : Int} (hty : newarray.typeOf atype = ty) (ht : (rd_tys G)[t]? = some (cA0, ty)) (hra : va_RA s cA0 ty → s.vm.findClass ("[" ++ ty.toString) = some cA0) (hdv : defaultValue ty = .int 0) (harr : (Cond.arrayClass ty) ∈ rd_T) (hz : z = (N : Int)) (hN : N < 1000000) (hby : N * componentBytes ty ≤ 536870912) (hkn : k ≤ n) (hcells : cs + 1 ≤ R.cells) (hslots : sl + N ≤ R.slots) (hd : decode cc pc = .ok (.newarray atype, 2))
    (kk : rx_W p l e R s m args below meth c Q nl r (cs + 1) (sl + N) (rg_I G r k (n + 1) (rg_u E n (.inl (cA0, N, .inl (rd_ri (fun _ => 0))))) H0) (pc + 2) L (rd_R n :: S)) : rx_W p l e R s m args below meth c Q nl r cs sl (rg_I G r k n E H0) pc L (rd_I z :: S) := by
  intro hL hS H locs ls hl hI
  obtain ⟨⟨hsz, hat, hfr⟩, hlo⟩ := hI
  subst hty hz
  have hts := C.1.2.2.2.2
  have hok : rd_ok (N : Int) := ⟨by omega, by omega⟩
  have hnn : ¬ rd_i (N : Int) < 0 := by rw [← rd_z, rd_lt hok rd_ok0]; omega
  have hcl : (rd_i (N : Int)).toNatClampNeg = N := by rw [rd_cl0 hok]; omega
  refine va_newaK (g := F0 m pc ls (.int (rd_i N) :: S.map (rd_val r))) C.1.1 C.1.2.1 (hts _ harr) rfl hd rfl hnn hcl hby hcells hslots rfl fun H1 cA e1 z1 o1 hAr hNm => ?_
  have hcA : cA = cA0 := Option.some.inj (hNm.symm.trans (hra (C.2.2.2.1.2 t _ ht).2))
  subst hcA
  have h1 := kk hL (rd_okc trivial (rd_okt hS)) H1 locs ls hl ⟨⟨by omega, fun j j0 j1 => ?_, fun q hq => (o1 q (by omega)).trans (hfr q hq)⟩, hlo⟩
  · have e2 : rd_val r (rd_R (n : Int)) = Value.ref H.size := congrArg Value.ref (show r + (n : Int).toNat = H.size by omega)
    have e3 : (rd_R (n : Int) :: S).map (rd_val r) = Value.ref H.size :: S.map (rd_val r) := by rw [List.map_cons, e2]
    rw [e3] at h1
    exact h1
  · by_cases hj : j = n
    · rw [hj, rg_u_s, ← hsz]
      show H1[H.size]? = some (vp_cell _ _)
      rw [e1, vp_cell_i, hdv]
      show some (arrV cA N fun _ => Value.int 0) = some (arrV cA N fun j => Value.int (rd_i 0))
      rw [rd_z]
    · rw [rg_u_n _ _ hj]
      exact (hat j j0 (by omega)).kept (o1 _ (by omega))
theorem rg_newq (C : rd_Cx p s m args meth c cc nl own ret G) {Cn : String} {cA0 : ClassId} {t N idx : Nat} {z : Int} (ht : (rd_tys G)[t]? = some (cA0, .object Cn)) (hw1 : (Cond.classLink own idx Cn) ∈ rd_T) (hao : va_AO Cn s) (hz : z = (N : Int)) (hN : N < 1000) (hkn : k ≤ n) (hcells : cs + 1 ≤ R.cells) (hslots : sl + N ≤ R.slots) (hd : decode cc pc = .ok (.anewarray idx, 3))
    (kk : rx_W p l e R s m args below meth c Q nl r (cs + 1) (sl + N) (rg_I G r k (n + 1) (rg_u E n (.inl (cA0, N, .inr (.inr (.inr (.inr (fun _ => none))))))) H0) (pc + 3) L (rd_R n :: S)) : rx_W p l e R s m args below meth c Q nl r cs sl (rg_I G r k n E H0) pc L (rd_I z :: S) := by
  intro hL hS H locs ls hl hI
  obtain ⟨⟨hsz, hat, hfr⟩, hlo⟩ := hI
  subst hz
  have hts := C.1.2.2.2.2
  have hok : rd_ok (N : Int) := ⟨by omega, by omega⟩
  have hnn : ¬ rd_i (N : Int) < 0 := by rw [← rd_z, rd_lt hok rd_ok0]; omega
  have hcl : (rd_i (N : Int)).toNatClampNeg = N := by rw [rd_cl0 hok]; omega
  refine W.anew (g := F0 m pc ls (.int (rd_i N) :: S.map (rd_val r))) C.1.1 C.1.2.1 C.1.2.2.2.1 (hts _ hw1) (va_AO.use hao) rfl hd rfl hnn (by omega) hcells (by omega) fun cA kA comp f1 f2 f3 f4 => ?_
  obtain ⟨kA', comp', g1, g2, g3, g4⟩ : ∃ (kA : Class) (comp : ClassId), s.vm.classes[cA0]? = some kA ∧ kA.kind = .array comp (.object Cn) ∧ s.vm.findClass Cn = some comp ∧ s.vm.findClass ("[" ++ (FieldType.object Cn).toString) = some cA0 := (C.2.2.2.1.2 t _ ht).2
  have hcA : cA = cA0 := Option.some.inj (f1.symm.trans g4)
  subst hcA
  rw [hcl]
  generalize hH1 : H.push ({ cls := cA, slots := Array.replicate N .null, vm := .none } : Cell) = H1
  have z1 : H1.size = H.size + 1 := by rw [← hH1, Array.size_push]
  have e1 : H1[H.size]? = some (arrV cA N (fun _ => .null)) := by rw [← hH1, Array.getElem?_push_size, ← arrV_new]
  have o1 : ∀ q : Nat, q < H.size → H1[q]? = H[q]? := fun q hq => by rw [← hH1, Array.getElem?_push, if_neg (Nat.ne_of_lt hq)]
  have h1 := kk hL (rd_okc trivial (rd_okt hS)) H1 locs ls hl ⟨⟨by omega, fun j j0 j1 => ?_, fun q hq => (o1 q (by omega)).trans (hfr q hq)⟩, hlo⟩
  · have e2 : rd_val r (rd_R (n : Int)) = Value.ref H.size := congrArg Value.ref (show r + (n : Int).toNat = H.size by omega)
    have e3 : (rd_R (n : Int) :: S).map (rd_val r) = Value.ref H.size :: S.map (rd_val r) := by rw [List.map_cons, e2]
    rw [e3] at h1
    exact h1
  · by_cases hj : j = n
    · rw [hj, rg_u_s, ← hsz]
      show H1[H.size]? = some (vp_cell _ _)
      rw [e1, vp_cell_q]
      rfl
    · rw [rg_u_n _ _ hj]
      exact (hat j j0 (by omega)).kept (o1 _ (by omega))
/-- a cell of the region is set, nothing else -/
theorem rg_set {H H1 : Heap} {j : Nat} {e1 : va_E} (h : rg_H G r k n E H0 H) (hj : k ≤ j ∧ j < n) (z : H1.size = H.size) (hat : va_at G.1 rd_cl (r + j, e1) H1) (ho : ∀ q, q ≠ r + j → H1[q]? = H[q]?) : rg_H G r k n (rg_u E j e1) H0 H1 := by
  refine ⟨by rw [z]; exact h.1, fun i i0 i1 => ?_, fun q hq => (ho q (by omega)).trans (h.2.2 q hq)⟩
  by_cases hi : i = j
  · rw [hi, rg_u_s]; exact hat
  · rw [rg_u_n _ _ hi]; exact (h.2.1 i i0 i1).kept (ho _ (by omega))
theorem rg_lo {locs : List Loc} {j i : Nat} (hlo : ∀ q ∈ locs, r + k ≤ q.base) (hj : k ≤ j) : ∀ q ∈ locs ++ [(⟨r + j, i⟩ : Loc)], r + k ≤ q.base := fun q hq => by
  rcases List.mem_append.mp hq with h | h
  · exact hlo q h
  · rw [List.mem_singleton.mp h]; show r + k ≤ r + j; omega
def rg_FF (ci kf : Nat) (Cn : String) (T : u_T) (N : Nat) : Prop := rd_cl[ci]? = some (Cn, T, N) ∧ kf < N ∧ (∀ w ∈ u_ws Cn T N, w ∈ rd_T) ∧ (∃ ty0 : Nat → FieldType, ∀ k, k < N → parseFieldDescriptor (T k).2.2.1 = some (ty0 k)) ∧ (∀ a, a < N → ∀ b, b < N → a ≠ b → (T a).2.1 ≠ (T b).2.1) ∧ (T kf).2.2.2 = true ∧ (T kf).1 = Cn ∧ ∃ ty, parseFieldDescriptor (T kf).2.2.1 = some ty ∧ ∀ a : Nat, narrow ty (.ref a) = .ref a ∧ fits ty (.ref a) = true
theorem rg_putF (C : rd_Cx p s m args meth c cc nl own ret G) (hnm : meth.name = "<init>") {ci kf N idx j v : Nat} {T : u_T} {fs : List Value} (hF : rg_FF ci kf own T N) (hw : (Cond.fieldLink own idx (T kf).1 (T kf).2.1 (T kf).2.2.1) ∈ rd_T) (hj : k ≤ j ∧ j < n) (hE : E j = .inr (ci, fs)) (hfl : kf < fs.length) (hd : decode cc pc = .ok (.putfield idx, 3))
    (kk : rx_W p l e R s m args below meth c Q nl r cs sl (rg_I G r k n (rg_u E j (.inr (ci, fs.set kf (.ref (r + v))))) H0) (pc + 3) L S) : rx_W p l e R s m args below meth c Q nl r cs sl (rg_I G r k n E H0) pc L (rd_R v :: rd_R j :: S) := by
  intro hL hS H locs ls hl hI
  obtain ⟨hH, hlo⟩ := hI
  obtain ⟨hc, hk, hin, ⟨ty0, hty⟩, hnd, hfin, hdecl, ty, hpd, hvv⟩ := hF
  have hts := C.1.2.2.2.2
  have hK := C.2.2.2.1
  have hap := va_apart (own := own) hts hin ty0 hty hnd hK hc
  have hat := hH.2.1 j hj.1 hj.2
  rw [hE] at hat
  obtain ⟨rr, h1, cell, q1, q2, q3, q4⟩ := hat
  have hr : rr = (own, T, N) := Option.some.inj (h1.symm.trans hc)
  subst hr
  obtain ⟨hSl, hfc, kC, hkC, hkind⟩ := hK.1 ci _ hc
  obtain ⟨cf, kf', fi, f, hi, hsl⟩ := hSl kf hk
  have hlay := hts _ (hin _ (u_in_lay hk))
  unfold u_lay at hlay
  rw [if_pos hfin] at hlay
  have hst := (u_facts hfc hkC (u_lays hts hin hk) hi).1
  have hcf : m.cls = cf := by
    obtain ⟨_, _, c', _, _, _, -, -, hf', -, -, -, hown2, -⟩ := Cond.laysFinal_spec hlay
    have e1 : c' = cf := by have := hi.symm.trans hf'; simp at this; exact this.1.symm
    rw [hdecl] at hown2
    rw [← e1]; exact Option.some.inj (C.1.2.2.2.1.symm.trans hown2)
  have h6 := u_fits hfc hkC hkind (Or.inr hlay) hi hpd (hvv (r + v)).1 (hvv (r + v)).2
  have ej : rd_val r (rd_R (j : Int)) = Value.ref (r + j) := congrArg Value.ref (show r + (j : Int).toNat = r + j by omega)
  have ev : rd_val r (rd_R (v : Int)) = Value.ref (r + v) := congrArg Value.ref (show r + (v : Int).toNat = r + v by omega)
  rw [List.map_cons, List.map_cons, ej, ev]
  refine W.putFinK (g := F0 m pc ls (Value.ref (r + v) :: Value.ref (r + j) :: S.map (rd_val r))) C.1.1 C.1.2.1 C.1.2.2.2.1 (hts _ hw) hi hst hcf hnm (by rw [q2]; exact h6) q1 q3 (by rw [hsl]; exact k2_hasslot (q4 kf hk)) rfl rfl hd fun H' e1 e2 e3 => ?_
  rw [hsl] at e1 ⊢
  exact kk hL (rd_okt (rd_okt hS)) H' _ ls hl ⟨rg_set hH hj e2 ⟨_, hc, t_OB.to (V := updV (vp_V fs) kf (.ref (r + v))) ⟨_, e1, q2, q3, t_set q4 hap hk _⟩ (fun i _ => vp_updV_set hfl _ i)⟩ e3, rg_lo hlo hj.1⟩
theorem rg_putI (C : rd_Cx p s m args meth c cc nl own ret G) {k0 kf ci N idx j : Nat} {Cn : String} {T : u_T} {jz z : Int} {P : Int → Prop} {fs : List Value} (hg : rd_PF k0 kf ci Cn T N jz P) (hw : (Cond.fieldLink own idx (T kf).1 (T kf).2.1 (T kf).2.2.1) ∈ rd_T) (hz : P z) (hj : k ≤ j ∧ j < n) (hE : E j = .inr (ci, fs)) (hfl : kf < fs.length) (hd : decode cc pc = .ok (.putfield idx, 3))
    (kk : rx_W p l e R s m args below meth c Q nl r cs sl (rg_I G r k n (rg_u E j (.inr (ci, fs.set kf (.int (rd_i z))))) H0) (pc + 3) L S) : rx_W p l e R s m args below meth c Q nl r cs sl (rg_I G r k n E H0) pc L (rd_I z :: rd_R j :: S) := by
  intro hL hS H locs ls hl hI
  obtain ⟨hH, hlo⟩ := hI
  obtain ⟨hc, hk, hin, -, ⟨ty0, hty⟩, hnd, hfin, ty, hpd, hvv⟩ := hg
  have hts := C.1.2.2.2.2
  have hK := C.2.2.2.1
  have hap := va_apart (own := own) hts hin ty0 hty hnd hK hc
  have hat := hH.2.1 j hj.1 hj.2
  rw [hE] at hat
  obtain ⟨rr, h1, cell, q1, q2, q3, q4⟩ := hat
  have hr : rr = (Cn, T, N) := Option.some.inj (h1.symm.trans hc)
  subst hr
  obtain ⟨hSl, hfc, kC, hkC, hkind⟩ := hK.1 ci _ hc
  obtain ⟨cf, kf', fi, f, hi, hsl⟩ := hSl kf hk
  have hlay := hts _ (hin _ (u_in_lay hk))
  unfold u_lay at hlay
  rw [if_neg (by rw [hfin]; decide)] at hlay
  have hst := (u_facts hfc hkC (u_lays hts hin hk) hi).1
  have h6 := u_store hfc hkC hkind hlay hi hpd (hvv z hz).1 (hvv z hz).2
  have ej : rd_val r (rd_R (j : Int)) = Value.ref (r + j) := congrArg Value.ref (show r + (j : Int).toNat = r + j by omega)
  rw [List.map_cons, List.map_cons, ej]
  refine W.putK (g := F0 m pc ls (Value.int (rd_i z) :: Value.ref (r + j) :: S.map (rd_val r))) C.1.1 C.1.2.1 (f := f) ⟨C.1.2.2.2.1, hts _ hw, ⟨_, _, _, hi⟩, hst⟩ (by rw [q2]; exact h6) q1 q3 (by rw [hsl]; exact k2_hasslot (q4 kf hk)) rfl rfl hd fun H' e1 e2 e3 => ?_
  rw [hsl] at e1 ⊢
  exact kk hL (rd_okt (rd_okt hS)) H' _ ls hl ⟨rg_set hH hj e2 ⟨_, hc, t_OB.to (V := updV (vp_V fs) kf (.int (rd_i z))) ⟨_, e1, q2, q3, t_set q4 hap hk _⟩ (fun i _ => vp_updV_set hfl _ i)⟩ e3, rg_lo hlo hj.1⟩
theorem rg_getR (C : rd_Cx p s m args meth c cc nl own ret G) {kf ci N idx j v : Nat} {Cn : String} {T : u_T} {fs : List Value} (hc : rd_cl[ci]? = some (Cn, T, N)) (hk : kf < N) (hin : ∀ w ∈ u_ws Cn T N, w ∈ rd_T) (hw : (Cond.fieldLink own idx (T kf).1 (T kf).2.1 (T kf).2.2.1) ∈ rd_T) (hj : k ≤ j ∧ j < n) (hE : E j = .inr (ci, fs)) (hv : fs[kf]? = some (.ref (r + v))) (hd : decode cc pc = .ok (.getfield idx, 3))
    (kk : rx_W p l e R s m args below meth c Q nl r cs sl (rg_I G r k n E H0) (pc + 3) L (rd_R v :: S)) : rx_W p l e R s m args below meth c Q nl r cs sl (rg_I G r k n E H0) pc L (rd_R j :: S) := by
  intro hL hS H locs ls hl hI
  have hts := C.1.2.2.2.2
  have hP := rg_one hI.1 hj
  have ej : rd_val r (rd_R (j : Int)) = Value.ref (r + j) := congrArg Value.ref (show r + (j : Int).toNat = r + j by omega)
  have ev : rd_val r (rd_R (v : Int)) = Value.ref (r + v) := congrArg Value.ref (show r + (v : Int).toNat = r + v by omega)
  have h1 := kk hL (rd_okc trivial (rd_okt hS)) H locs ls hl hI
  rw [List.map_cons, ev] at h1
  rw [List.map_cons, ej]
  exact va_get (D := G.1) C.1.1 C.1.2.1 hts hin C.1.2.2.2.1 C.2.2.2.1 hP 0 (fs := fs) (by rw [← hE]; rfl) hc kf hk (hts _ hw) (fun _ h => h) hv hd h1
theorem rg_alen (C : rd_Cx p s m args meth c cc nl own ret G) {t j N : Nat} {cA : ClassId} {ty : FieldType} {x : vp_A} {z : Int} (hj : k ≤ j ∧ j < n) (hE : E j = .inl (cA, x)) (ht : (rd_tys G)[t]? = some (cA, ty)) (hx : x.1 = N) (hz : z = (N : Int)) (hok : rd_ok z) (hd : decode cc pc = .ok (.arraylength, 1))
    (kk : rx_W p l e R s m args below meth c Q nl r cs sl (rg_I G r k n E H0) (pc + 1) L (rd_I z :: S)) : rx_W p l e R s m args below meth c Q nl r cs sl (rg_I G r k n E H0) pc L (rd_R j :: S) := by
  intro hL hS H locs ls hl hI
  have hP := rg_one hI.1 hj
  have ej : rd_val r (rd_R (j : Int)) = Value.ref (r + j) := congrArg Value.ref (show r + (j : Int).toNat = r + j by omega)
  rw [List.map_cons, ej]
  exact va_alen (D := G.1) C.1.1 C.1.2.1 C.2.2.2.1 hP 0 t (x := x) (by rw [← hE]; rfl) ht (v := rd_i z) (by rw [hx, hz]; exact (Int32.ofInt_eq_ofNat).symm) hd (kk hL (rd_okc hok (rd_okt hS)) H locs ls hl hI)
theorem rg_iast (C : rd_Cx p s m args meth c cc nl own ret G) {j N : Nat} {f : Int → Int} {i z : Int} (hj : k ≤ j ∧ j < n) (hE : E j = .inl (G.2.1, N, .inl (rd_ri f))) (hi : 0 ≤ i ∧ i < N) (hd : decode cc pc = .ok (.iastore, 1))
    (kk : rx_W p l e R s m args below meth c Q nl r cs sl (rg_I G r k n (rg_u E j (.inl (G.2.1, N, .inl (rd_ri (rd_uf f i z))))) H0) (pc + 1) L S) : rx_W p l e R s m args below meth c Q nl r cs sl (rg_I G r k n E H0) pc L (rd_I z :: rd_I i :: rd_R j :: S) := by
  intro hL hS H locs ls hl hI
  obtain ⟨hH, hlo⟩ := hI
  have hK := C.2.2.2.1
  have hat := hH.2.1 j hj.1 hj.2
  rw [hE] at hat
  have hat2 : H[r + j]? = some (vp_cell G.2.1 (N, .inl (rd_ri f))) := hat
  have hio : rd_ok i := rd_okh (rd_okt hS)
  have hin := rd_vin hi.1 hi.2 hio
  have ej : rd_val r (rd_R (j : Int)) = Value.ref (r + j) := congrArg Value.ref (show r + (j : Int).toNat = r + j by omega)
  rw [List.map_cons, List.map_cons, List.map_cons, ej]
  refine W.iast (g := F0 m pc ls (Value.int (rd_i z) :: Value.int (rd_i i) :: Value.ref (r + j) :: S.map (rd_val r))) C.1.1 C.1.2.1 hat2 ((hK.2 0 _ rfl).1 N (fun j => .int (rd_ri f j))) (fun q => by cases q) (by show ¬ (rd_i i < 0 ∨ (arrV _ _ _).slots.size ≤ _); rw [arrV_size]; exact hin) rfl rfl hd fun H1 e1 z1 oq => ?_
  refine kk hL (rd_okt (rd_okt (rd_okt hS))) H1 _ ls hl ⟨rg_set hH hj z1 ?_ oq, rg_lo hlo hj.1⟩
  show H1[r + j]? = some (vp_cell _ _)
  rw [e1, vp_cell_i, vp_cell_i, arrV_store, ← rd_ri_set f hi.1 z, rd_cl0 hio]
  congr 2
  funext q
  by_cases hq : q = i.toNat
  · subst hq
    simp [updV, upd]
  · simp [updV, upd, hq]
theorem rg_aast (C : rd_Cx p s m args meth c cc nl own ret G) {j v N t ci : Nat} {cA : ClassId} {rr : vw_C} {vs : List Value} {f : Nat → Option Nat} {i : Int} (hj : k ≤ j ∧ j < n) (hE : E j = .inl (cA, N, .inr (.inr (.inr (.inr f))))) (ht : (rd_tys G)[t]? = some (cA, .object rr.1)) (hv : k ≤ v ∧ v < n) (hEv : E v = .inr (ci, vs)) (hc : rd_cl[ci]? = some rr) (hi : 0 ≤ i ∧ i < N) (hd : decode cc pc = .ok (.aastore, 1))
    (kk : rx_W p l e R s m args below meth c Q nl r cs sl (rg_I G r k n (rg_u E j (.inl (cA, N, .inr (.inr (.inr (.inr (va_up f i.toNat (some (r + v))))))))) H0) (pc + 1) L S) : rx_W p l e R s m args below meth c Q nl r cs sl (rg_I G r k n E H0) pc L (rd_R v :: rd_I i :: rd_R j :: S) := by
  intro hL hS H locs ls hl hI
  obtain ⟨hH, hlo⟩ := hI
  have hK := C.2.2.2.1
  have hat := hH.2.1 j hj.1 hj.2
  rw [hE] at hat
  have hat2 : H[r + j]? = some (vp_cell cA (N, .inr (.inr (.inr (.inr f))))) := hat
  have hatv := hH.2.1 v hv.1 hv.2
  rw [hEv] at hatv
  have hio : rd_ok i := rd_okh (rd_okt hS)
  have hin := rd_vin hi.1 hi.2 hio
  have hlt : (rd_i i).toNatClampNeg < N := Nat.not_le.mp fun q => hin (Or.inr q)
  have h0 : ¬ rd_i i < 0 := fun q => hin (Or.inl q)
  obtain ⟨r', hr', cellV, g1, g2, g3, -⟩ := hatv
  have hcls := (hK.1 ci rr hc).2
  obtain ⟨kA, comp, k1, k2, k3, -⟩ : ∃ (kA : Class) (comp : ClassId), s.vm.classes[cA]? = some kA ∧ kA.kind = .array comp (.object rr.1) ∧ s.vm.findClass rr.1 = some comp ∧ s.vm.findClass ("[" ++ (FieldType.object rr.1).toString) = some cA := (hK.2 t _ ht).2
  have hcomp : comp = G.1.1 ci := Option.some.inj (k3.symm.trans hcls.1)
  subst hcomp
  obtain ⟨kC, hkC, -⟩ := id hcls.2
  have ej : rd_val r (rd_R (j : Int)) = Value.ref (r + j) := congrArg Value.ref (show r + (j : Int).toNat = r + j by omega)
  have ev : rd_val r (rd_R (v : Int)) = Value.ref (r + v) := congrArg Value.ref (show r + (v : Int).toNat = r + v by omega)
  rw [List.map_cons, List.map_cons, List.map_cons, ej, ev]
  refine W.aast (g := F0 m pc ls (Value.ref (r + v) :: Value.int (rd_i i) :: Value.ref (r + j) :: S.map (rd_val r))) C.1.1 C.1.2.1 hat2 (fun q h => by cases h) (fun h => by cases h) k1 k2 rfl hkC ⟨h0, by show _ < (arrV _ _ _).slots.size; rw [arrV_size]; exact hlt⟩ g1 (fun q h => by rw [g3] at h; cases h) (by rw [g2]; exact hkC) (by rw [g2]; exact va_assign hcls) rfl rfl hd fun H1 e1 z1 oq => ?_
  refine kk hL (rd_okt (rd_okt (rd_okt hS))) H1 _ ls hl ⟨rg_set hH hj z1 ?_ oq, rg_lo hlo hj.1⟩
  show H1[r + j]? = some (vp_cell _ _)
  rw [e1, vp_cell_q, vp_cell_q, arrV_store, rd_cl0 hio]
  congr 2
  funext q
  by_cases hq : q = i.toNat
  · subst hq
    simp [updV, va_up, va_rf]
  · simp [updV, va_up, hq]
/-- the end of a constructor -/
theorem rg_ret (C : rd_Cx p s m args meth c cc nl own none G) {N mc ms : Nat} {E' : Nat → va_E} (hn : n = k + N) (hcs : cs ≤ mc) (hsl : sl ≤ ms) (hE : ∀ (H : Heap) (j : Nat), k ≤ j → j < k + N → va_at G.1 rd_cl (r + j, E j) H → va_at G.1 rd_cl (r + j, E' j) H) (hd : decode cc pc = .ok (.return_, 1)) : rx_W p l e R s m args below meth c (MQ below (rg_Qc G r k N E') args s mc ms (fun q => r + k ≤ q)) nl r cs sl (rg_I G r k n E s.heap) pc L [] := by
  intro hL hS H locs ls hl hI
  obtain ⟨⟨h1, h2, h3⟩, hlo⟩ := hI
  have hlk : meth.locks = false := C.2.2.1
  subst hn
  refine W.widen hcs hsl ?_
  exact W.vret C.1.1 C.1.2.1 C.2.1 (fun t ht hW => ⟨rfl, by rw [ht]; exact ⟨h1, fun j j0 j1 => hE _ j j0 j1 (h2 j j0 j1), h3⟩⟩) hlo hd hlk
/-- behind a constructor of the last cell -/
theorem rg_cont {j n0 N mc ms : Nat} {E' : Nat → va_E} {a : Array Value} {H : Heap} {locs : List Loc} {ls : Array Slot} {st0 rest : List Value} (hr : va_Run p l e R s m args below meth c H locs cs sl mc ms (F0 m pc ls st0) rest (rg_Qc G r j N E' a) (fun q => r + j ≤ q)) (hI : rg_I G r k (j + n0) E H0 H locs) (hj : k ≤ j)
    (kk : ∀ (H1 : Heap) (locs1 : List Loc), rg_I G r k (j + N) (rg_if E E' j) H0 H1 locs1 → W p l e R s m args below meth c H1 locs1 (cs + mc) (sl + ms) Q (F0 m (pc + 3) ls rest)) : W p l e R s m args below meth c H locs cs sl Q (F0 m pc ls st0) := by
  intro T hT X
  obtain ⟨v, st₀, t, T', L', h0, X', hL', e1, e2, ⟨hv, hz, hat, hk⟩, st⟩ := hr T hT X
  cases hv
  rw [h0] at hk
  obtain ⟨⟨i1, i2, i3⟩, hlo⟩ := hI
  obtain ⟨t2, a1, b1⟩ := kk T'.heap (locs ++ L') ⟨⟨by rw [e1]; exact hz, fun i h1 h2 => by
      rw [e1]
      by_cases h : i < j
      · rw [rg_if_l _ _ h]; exact (i2 i h1 (by omega)).kept (hk _ (by omega))
      · rw [rg_if_r _ _ (by omega)]; exact hat i (by omega) h2, fun q hq => by rw [e1, hk q (by omega)]; exact i3 q hq⟩, fun q hq => by
      rcases List.mem_append.mp hq with h | h
      · exact hlo q h
      · have := hL' q h; omega⟩ T' rfl X'
  exact ⟨t2, st t2 a1, b1⟩
def rg_lim (y : MethodName) (maxL fr lo mc ms cs sl : Nat) (R : Room) : Prop := (y.cls ≠ "java/lang/invoke/MethodHandle" ∧ y.cls ≠ "java/lang/invoke/VarHandle" ∧ (parseMethodDescriptor y.desc).map (fun d => d.parameters.length) = some 0) ∧ (fr + 1 ≤ R.frames ∧ 8 + (maxL + 11) + lo ≤ R.locals) ∧ cs + mc ≤ R.cells ∧ sl + ms ≤ R.slots
theorem rg_callI (C : rd_Cx p s m args meth c cc nl own ret G) (hK : rg_Ke G s) {y : MethodName} {bytes : ByteArray} {maxL fr lo mc ms n0 N idx j : Nat} {E0 E' : Nat → va_E} (hM : rg_M l G y bytes maxL fr lo mc ms r j n0 N E0 E') (hlink : (.methodLink own idx y : Cond) ∈ rd_T) (hnm : y.name = "<init>") (hinst : (.instanceMethod y : Cond) ∈ rd_T)  (hcode : (.code y bytes maxL none : Cond) ∈ rd_T) (hini : (.initialized y.cls : Cond) ∈ rd_T) (hlim : rg_lim y maxL fr lo mc ms cs sl R) (hd : decode cc pc = .ok (.invokespecial idx, 3)) (hj : k ≤ j) (hE : ∀ i : Nat, j ≤ i → i < j + n0 → E i = E0 i) (h8 : rd_wt S ≤ 8)
    (kk : rx_W p l e R s m args below meth c Q nl r (cs + mc) (sl + ms) (rg_I G r k (j + N) (rg_if E E' j) H0) (pc + 3) L S) : rx_W p l e R s m args below meth c Q nl r cs sl (rg_I G r k (j + n0) E H0) pc L (rd_R j :: S) := by
  intro hL hS H locs ls hl hI
  obtain ⟨hd1, hd2, hd3⟩ := hlim
  have hts := C.1.2.2.2.2
  have hcb : CallB R s args own idx y bytes maxL none (.code y bytes maxL none :: rd_T) (rg_rm fr lo mc ms) mc ms 0 := callB_of 0 hts (rd_goodc hcode) rfl rfl rfl (hts _ hini) (hts _ hlink) hd1 hd2
  have ej : rd_val r (rd_R (j : Int)) = Value.ref (r + j) := congrArg Value.ref (show r + (j : Int).toNat = r + j by omega)
  rw [List.map_cons, ej]
  refine rg_cont (va_runI (As := []) (rest := S.map (rd_val r)) (b := r + j) C.1 hM ⟨hcb, hnm, hts _ hinst⟩ ⟨rg_blind, fun U hU hW => ⟨rfl, by rw [hU]; exact hI.1.1, fun i i0 i1 => by rw [hU, ← hE i i0 i1]; exact hI.1.2.1 i (by omega) i1, hK.warm hW⟩⟩ rfl rfl hl.1 rfl (rd_room h8) hd hd3) hI hj (fun H1 locs1 hI1 => kk hL (rd_okt hS) H1 locs1 ls hl hI1)
theorem rg_callN (C : rd_Cx p s m args meth c cc nl own ret G) (hK : rg_Ke G s) {y : MethodName} {bytes : ByteArray} {maxL fr lo mc ms n0 N idx j : Nat} {host : String} {E0 E' : Nat → va_E} (hM : rg_M l G y bytes maxL fr lo mc ms r j n0 N E0 E') (hlink : (.methodLinkNest own idx y host : Cond) ∈ rd_nest) (hnm : y.name = "<init>") (hinst : (.instanceMethod y : Cond) ∈ rd_T)  (hcode : (.code y bytes maxL none : Cond) ∈ rd_T) (hini : (.initialized y.cls : Cond) ∈ rd_T) (hlim : rg_lim y maxL fr lo mc ms cs sl R) (hd : decode cc pc = .ok (.invokespecial idx, 3)) (hj : k ≤ j) (hE : ∀ i : Nat, j ≤ i → i < j + n0 → E i = E0 i) (h8 : rd_wt S ≤ 8)
    (kk : rx_W p l e R s m args below meth c Q nl r (cs + mc) (sl + ms) (rg_I G r k (j + N) (rg_if E E' j) H0) (pc + 3) L S) : rx_W p l e R s m args below meth c Q nl r cs sl (rg_I G r k (j + n0) E H0) pc L (rd_R j :: S) := by
  intro hL hS H locs ls hl hI
  obtain ⟨hd1, hd2, hd3⟩ := hlim
  have hts := C.1.2.2.2.2
  have hcb := va_cnB (args := args) (R := R) (rm := rg_rm fr lo mc ms) (mc := mc) (ms := ms) 0 hts (rd_goodc hcode) rfl rfl rfl (C.2.2.2.2 _ hlink) (hts _ hini) hd1 hd2
  have ej : rd_val r (rd_R (j : Int)) = Value.ref (r + j) := congrArg Value.ref (show r + (j : Int).toNat = r + j by omega)
  rw [List.map_cons, ej]
  refine rg_cont (va_runIN (As := []) (rest := S.map (rd_val r)) (b := r + j) C.1 hM ⟨hcb, hnm, hts _ hinst⟩ ⟨rg_blind, fun U hU hW => ⟨rfl, by rw [hU]; exact hI.1.1, fun i i0 i1 => by rw [hU, ← hE i i0 i1]; exact hI.1.2.1 i (by omega) i1, hK.warm hW⟩⟩ rfl rfl hl.1 rfl (rd_room h8) hd hd3) hI hj (fun H1 locs1 hI1 => kk hL (rd_okt hS) H1 locs1 ls hl hI1)
theorem rg_callV (C : rd_Cx p s m args meth c cc nl own ret G) (hK : rg_Ke G s) {y : MethodName} {bytes : ByteArray} {maxL fr lo mc ms n0 N idx j : Nat} {E0 E' : Nat → va_E} (hM : rg_M l G y bytes maxL fr lo mc ms r j n0 N E0 E') (hlink : (.methodLink own idx y : Cond) ∈ rd_T) (hinst : (.instanceMethod y : Cond) ∈ rd_T) {ci : Nat} {fs : List Value} {q : vw_C} (hsel : (.selects y.cls y y : Cond) ∈ rd_T) (hEj : E j = .inr (ci, fs)) (hq : rd_cl[ci]? = some q) (hqc : q.1 = y.cls) (h0 : 0 < n0) (hcode : (.code y bytes maxL none : Cond) ∈ rd_T) (hini : (.initialized y.cls : Cond) ∈ rd_T) (hlim : rg_lim y maxL fr lo mc ms cs sl R) (hd : decode cc pc = .ok (.invokevirtual idx, 3)) (hj : k ≤ j) (hE : ∀ i : Nat, j ≤ i → i < j + n0 → E i = E0 i) (h8 : rd_wt S ≤ 8)
    (kk : rx_W p l e R s m args below meth c Q nl r (cs + mc) (sl + ms) (rg_I G r k (j + N) (rg_if E E' j) H0) (pc + 3) L S) : rx_W p l e R s m args below meth c Q nl r cs sl (rg_I G r k (j + n0) E H0) pc L (rd_R j :: S) := by
  intro hL hS H locs ls hl hI
  obtain ⟨hd1, hd2, hd3⟩ := hlim
  have hts := C.1.2.2.2.2
  have hcb : CallB R s args own idx y bytes maxL none (.code y bytes maxL none :: rd_T) (rg_rm fr lo mc ms) mc ms 0 := callB_of 0 hts (rd_goodc hcode) rfl rfl rfl (hts _ hini) (hts _ hlink) hd1 hd2
  have ej : rd_val r (rd_R (j : Int)) = Value.ref (r + j) := congrArg Value.ref (show r + (j : Int).toNat = r + j by omega)
  rw [List.map_cons, ej]
  refine rg_cont (va_runV (As := []) (rest := S.map (rd_val r)) (b := r + j) C.1 hM ⟨hcb, hts _ hinst, hts _ hsel⟩ ⟨rg_blind, (by
      have h4 := va_recv (q0 := 0) (a := r + j) (fs := fs) C.2.2.2.1 (rg_one hI.1 (j := j) ⟨hj, by omega⟩) hq (by rw [← hEj]; rfl)
      rw [hqc] at h4
      exact h4), fun U hU hW => ⟨rfl, by rw [hU]; exact hI.1.1, fun i i0 i1 => by rw [hU, ← hE i i0 i1]; exact hI.1.2.1 i (by omega) i1, hK.warm hW⟩⟩ rfl rfl hl.1 rfl (rd_room h8) hd hd3) hI hj (fun H1 locs1 hI1 => kk hL (rd_okt hS) H1 locs1 ls hl hI1)
end RGW


