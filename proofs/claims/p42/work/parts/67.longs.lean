/-! longs, and the comparison of floats -/
theorem lg_cmp_self (z : Int64) : lg_cmp z z = rd_i 0 := by
  unfold lg_cmp
  rw [if_neg (by simp), if_pos rfl]; decide
section RDLG
variable {p : Program} {l : Launch} {e : Env} {R : Room} {s : State} {m : MethodId} {args : Array Value} {below : List Frame} {meth : Method} {c : Code} {Q : State → Prop}
variable {cc : ByteArray} {nl : Nat} {own : String} {ret : Option FieldType} {G : rd_G} {kd : Int → Nat} {N r : Nat}
variable {pc : Nat} {L S : List rd_X} {μ : rd_Mem}
theorem rd_lload_n (C : rd_Cx p s m args meth c cc nl own ret G) {i : Fin 4} {z : Int64} (hd : decode cc pc = .ok (.lload_n i, 1)) (hx : L[(i : Nat)]? = some (rd_Z z)) (k : rd_W p l e R s m args below meth c Q nl G kd N r (pc + 1) L (rd_Z z :: S) μ) : rd_W p l e R s m args below meth c Q nl G kd N r pc L S μ := by
  intro hM hL hS H locs ls hl hP hs
  exact lv_lload_n (x := z) C.1.1 C.1.2.1 hd rfl (rd_lget hl hx (fun h => by cases h)) (k hM hL (rd_okc (x := rd_Z z) trivial hS) H locs ls hl hP hs)
theorem rd_lstore_n (C : rd_Cx p s m args meth c cc nl own ret G) {i : Fin 4} {z : Int64} (hd : decode cc pc = .ok (.lstore_n i, 1)) (hi : (i : Nat) + 1 < nl) {L' : List rd_X} (hL' : rd_set2 L (i : Nat) (rd_Z z) = L') (k : rd_W p l e R s m args below meth c Q nl G kd N r (pc + 1) L' S μ) : rd_W p l e R s m args below meth c Q nl G kd N r pc L (rd_Z z :: S) μ := by
  intro hM hL hS H locs ls hl hP hs
  subst hL'
  obtain ⟨ls', e', h'⟩ := rd_store2 z hl hi
  have h2 := k hM (rd_set_ok (rd_set_ok hL (x := rd_J) trivial) (x := rd_Z z) trivial) (rd_okt hS) H locs ls' h' hP hs
  have hx := C.1.1
  have hb := C.1.2.1
  have e1 : storeLocals ls (i : Nat) (.long z) = some ls' := e'
  intro T hT X
  obtain ⟨t, a, b⟩ := h2 T hT X
  refine ⟨t, ?_, b⟩
  have htop := X.here.top
  show Steps p.tables e below (T.setTop (F0 m pc ls (.long z :: S.map (rd_val r)))) t
  jvm_step X.here [htop, ↓top_set htop, hx, hb, hd, e1]
  exact a
theorem rd_ldc2 (C : rd_Cx p s m args meth c cc nl own ret G) {i : Nat} {v : Int64} (hw : Cond.constantLong own i v ∈ rd_T) (hd : decode cc pc = .ok (.ldc2_w i, 3)) (k : rd_W p l e R s m args below meth c Q nl G kd N r (pc + 3) L (rd_Z v :: S) μ) : rd_W p l e R s m args below meth c Q nl G kd N r pc L S μ := by
  intro hM hL hS H locs ls hl hP hs
  exact lv_ldc2 C.1.1 C.1.2.1 C.1.2.2.2.1 (C.1.2.2.2.2 _ hw) hd (k hM hL (rd_okc (x := rd_Z v) trivial hS) H locs ls hl hP hs)
theorem rd_i2l (C : rd_Cx p s m args meth c cc nl own ret G) {a : Int} (hd : decode cc pc = .ok (.i2l, 1)) (k : rd_W p l e R s m args below meth c Q nl G kd N r (pc + 1) L (rd_Z (rd_i a).toInt64 :: S) μ) : rd_W p l e R s m args below meth c Q nl G kd N r pc L (rd_I a :: S) μ := by
  intro hM hL hS H locs ls hl hP hs
  exact lv_i2l C.1.1 C.1.2.1 hd rfl (k hM hL (rd_okc (x := rd_Z (rd_i a).toInt64) trivial (rd_okt hS)) H locs ls hl hP hs)
theorem rd_ladd (C : rd_Cx p s m args meth c cc nl own ret G) {a b : Int64} (hd : decode cc pc = .ok (.ladd, 1)) (k : rd_W p l e R s m args below meth c Q nl G kd N r (pc + 1) L (rd_Z (a + b) :: S) μ) : rd_W p l e R s m args below meth c Q nl G kd N r pc L (rd_Z b :: rd_Z a :: S) μ := by
  intro hM hL hS H locs ls hl hP hs
  exact lv_ladd C.1.1 C.1.2.1 hd (k hM hL (rd_okc (x := rd_Z (a + b)) trivial (rd_okt (rd_okt hS))) H locs ls hl hP hs)
theorem rd_lmul (C : rd_Cx p s m args meth c cc nl own ret G) {a b : Int64} (hd : decode cc pc = .ok (.lmul, 1)) (k : rd_W p l e R s m args below meth c Q nl G kd N r (pc + 1) L (rd_Z (a * b) :: S) μ) : rd_W p l e R s m args below meth c Q nl G kd N r pc L (rd_Z b :: rd_Z a :: S) μ := by
  intro hM hL hS H locs ls hl hP hs
  exact lv_lmul C.1.1 C.1.2.1 hd (k hM hL (rd_okc (x := rd_Z (a * b)) trivial (rd_okt (rd_okt hS))) H locs ls hl hP hs)
theorem rd_lcmp (C : rd_Cx p s m args meth c cc nl own ret G) {a : Int64} (hd : decode cc pc = .ok (.lcmp, 1)) (k : rd_W p l e R s m args below meth c Q nl G kd N r (pc + 1) L (rd_I 0 :: S) μ) : rd_W p l e R s m args below meth c Q nl G kd N r pc L (rd_Z a :: rd_Z a :: S) μ := by
  intro hM hL hS H locs ls hl hP hs
  refine W.lcmp C.1.1 C.1.2.1 hd ?_
  rw [lg_cmp_self]
  exact k hM hL (rd_okc (x := rd_I 0) rd_ok0 (rd_okt (rd_okt hS))) H locs ls hl hP hs
theorem rd_lret {Post : Option rd_X → rd_Mem → Prop} (C : rd_Cx p s m args meth c cc nl own (some .long) G) {z : Int64} (hd : decode cc pc = .ok (.lreturn, 1)) (hp : Post (some (rd_Z z)) μ) : rd_W p l e R s m args below meth c (MQ below (rd_Qc G kd N r Post) args s 0 0 (rd_A r N)) nl G kd N r pc L [rd_Z z] μ := by
  intro hM hL hS H locs ls hl hP hs
  have hlk : meth.locks = false := C.2.2.1
  exact W.lret (v := z) C.1.1 C.1.2.1 C.2.1 (fun t ht hW => rd_end (v := some (rd_Z z)) hp hM (fun x hx => by cases hx; trivial) hP hs t ht hW) hs.2.2 hd hlk
theorem rd_fcmp (C : rd_Cx p s m args meth c cc nl own ret G) {a b : UInt32} (hd : decode cc pc = .ok (.fcmp .l, 1)) (hz : Op.cmpValue (FP.fcmp a b) .l = rd_i 0) (k : rd_W p l e R s m args below meth c Q nl G kd N r (pc + 1) L (rd_I 0 :: S) μ) : rd_W p l e R s m args below meth c Q nl G kd N r pc L (rd_F b :: rd_F a :: S) μ := by
  intro hM hL hS H locs ls hl hP hs
  refine lv_fcmp C.1.1 C.1.2.1 hd ?_
  rw [hz]
  exact k hM hL (rd_okc (x := rd_I 0) rd_ok0 (rd_okt (rd_okt hS))) H locs ls hl hP hs
theorem rd_drop {L' : List rd_X} (i : Nat) (hL' : L.set i rd_J = L') (k : rd_W p l e R s m args below meth c Q nl G kd N r pc L' S μ) : rd_W p l e R s m args below meth c Q nl G kd N r pc L S μ := by
  subst hL'
  refine k.sub (fun j x hx => ?_)
  by_cases h : j = i
  · subst h
    have hlt : j < L.length := by
      have := (List.getElem?_eq_some_iff.mp hx).1
      simpa using this
    rw [List.getElem?_set_self hlt] at hx
    cases hx; exact Or.inl rfl
  · rw [List.getElem?_set_ne (Ne.symm h)] at hx; exact Or.inr hx
end RDLG
theorem pg_fc0 : Op.cmpValue (FP.fcmp FP.fconst0 FP.fconst0) .l = rd_i 0 := by decide +kernel
theorem pg_fc1 : ∀ c : Fin 10, ∀ s : Fin 101, Op.cmpValue (FP.fcmp (FP.fdiv (FP.i2f (rd_i (s.val : Int))) (FP.i2f (rd_i ((c.val : Int) + 1)))) (FP.fdiv (FP.i2f (rd_i (s.val : Int))) (FP.i2f (rd_i ((c.val : Int) + 1))))) .l = rd_i 0 := by decide +kernel
theorem pg_fc {s c : Int} (h0 : 0 ≤ s) (h1 : s ≤ 100) (c0 : 1 ≤ c) (c1 : c ≤ 10) : Op.cmpValue (FP.fcmp (FP.fdiv (FP.i2f (rd_i s)) (FP.i2f (rd_i c))) (FP.fdiv (FP.i2f (rd_i s)) (FP.i2f (rd_i c)))) .l = rd_i 0 := by
  have := pg_fc1 ⟨(c - 1).toNat, by omega⟩ ⟨s.toNat, by omega⟩
  simp only at this
  rw [show ((s.toNat : Nat) : Int) = s by omega, show (((c - 1).toNat : Nat) : Int) + 1 = c by omega] at this
  exact this
