/-! contracts and calls -/
def rd_Pc (G : rd_G) (kd : Int → Nat) (N r : Nat) (as : List rd_X) (μ : rd_Mem) : Array Value → State → Prop := fun v U => v = (as.map (rd_val r)).toArray ∧ rd_okM μ ∧ rd_okL as ∧ va_P G.1 rd_cl (rd_ws G kd N r μ) U.heap ∧ rd_Ke G U
def rd_Qc (G : rd_G) (kd : Int → Nat) (N r : Nat) (Post : Option rd_X → rd_Mem → Prop) : Array Value → State → Outcome → State → Prop := fun _ st oc t => (∃ (v : Option rd_X) (μ' : rd_Mem), oc = .returned (v.map (rd_val r)) ∧ Post v μ' ∧ rd_okM μ' ∧ rd_okO v ∧ va_P G.1 rd_cl (rd_ws G kd N r μ') t.heap) ∧ va_F (rd_A r N) st t
def rd_M (l : Launch) (G : rd_G) (kd : Int → Nat) (N r : Nat) (y : MethodName) (cc : ByteArray) (nl : Nat) (ret : Option FieldType) (rm : Room) (as : List rd_X) (μ : rd_Mem) (Post : Option rd_X → rd_Mem → Prop) : Prop :=
  Met l y (.code y cc nl ret :: rd_T) rm (rd_Pc G kd N r as μ) (rd_Qc G kd N r Post) 0 0 (rd_A r N)
def rd_rm (fr lo : Nat) : Room := { frames := fr, cells := 0, slots := 0, locals := lo }
theorem rd_goodT {w : Cond} (h : w ∈ rd_T) : (w.onTables && w.keeps) = true ∨ ∃ ty, w = .arrayClass ty := good_of_word (List.mem_filter.mp h).2
theorem rd_goodws {ws : List Cond} (h : ∀ w ∈ ws, w ∈ rd_T) : GoodIn rd_T ws := fun w hw => ⟨h w hw, rd_goodT (h w hw)⟩
theorem rd_goodc {w : Cond} (h : w ∈ rd_T) : GoodIn rd_T (w :: rd_T) := rd_goodws (fun x hx => (List.mem_cons.mp hx).elim (fun e => e ▸ h) id)
theorem rd_blind {G : rd_G} {kd : Int → Nat} {N r : Nat} {as : List rd_X} {μ : rd_Mem} : FrameBlind (rd_Pc G kd N r as μ) := fun a U g mk h =>
  ⟨h.1, h.2.1, h.2.2.1, h.2.2.2.1, rd_Ke.same (u := U) (U := U.calling g mk a) rfl h.2.2.2.2⟩
theorem rd_sl (r : Nat) (as : List rd_X) (h : as.all rd_one = true) : lg_sl (as.map (rd_val r)) = as.map (fun x => Slot.val (rd_val r x)) := by
  induction as with
  | nil => rfl
  | cons a as ih =>
    rw [List.all_cons, Bool.and_eq_true] at h
    have ih2 := ih h.2
    have e : (if (rd_val r a).category = 2 then [Slot.val (rd_val r a), Slot.second] else [Slot.val (rd_val r a)]) = [Slot.val (rd_val r a)] := by
      rw [if_neg]; rw [rd_cat r h.1]; decide
    simp only [lg_sl, List.map_cons, List.flatMap_cons, e] at ih2 ⊢
    rw [ih2]; rfl
theorem rd_enter {l : Launch} {G : rd_G} {kd : Int → Nat} {N r : Nat} {y : MethodName} {cc : ByteArray} {nl : Nat} {ret : Option FieldType} {rm : Room} {as : List rd_X} {μ : rd_Mem} {Post : Option rd_X → rd_Mem → Prop} (hy : plainName y.cls = true) (hlen : as.length ≤ nl) (L0 : List rd_X) (h0 : as ++ List.replicate (nl - as.length) rd_J = L0)
    (body : ∀ (p : Program) (e : Env) (s : State) (m : MethodId) (args : Array Value) (below : List Frame) (meth : Method) (c : Code), rd_Cx p s m args meth c cc nl y.cls ret G →
      rd_W p l e rm s m args below meth c (MQ below (rd_Qc G kd N r Post) args s 0 0 (rd_A r N)) nl G kd N r 0 L0 [] μ) (h1 : as.all rd_one = true := by rfl) : rd_M l G kd N r y cc nl ret rm as μ Post := by
  subst h0
  refine Met.ofW (cc := cc) (maxL := nl) (ret := ret) hy rfl ?_
  intro p e s m args below meth c s₁ B hml hv
  obtain ⟨rfl, hM, hL, hP, hK⟩ := hv
  have hts := atoms_spec (ws := .code y cc nl ret :: rd_T) B.pre
  have hown : s.vm.findClass y.cls = some m.cls := findClass_of_methodNamed B.named
  have C : rd_Cx p s m (as.map (rd_val r)).toArray meth c cc nl y.cls ret G := ⟨⟨B.exec, B.bytes, hml, hown, fun w hw => hts w (List.mem_cons_of_mem _ hw)⟩, B.returns, B.notSynchronized, hK⟩
  have hl := lv_entry (as.map (rd_val r)) (n := nl) (by rw [rd_sl _ _ h1]; simpa using hlen)
  rw [lg_entry_eq]
  have hb := body p e s m (as.map (rd_val r)).toArray below meth c C
  refine hb hM ?_ rd_okn s.heap [] _ ⟨hl.1, hl.2.1, fun i x hx => ?_⟩ hP va_S.rf
  · exact rd_oka hL (fun x hx => by rw [(List.mem_replicate.mp hx).2]; trivial)
  · by_cases hi : i < as.length
    · rw [List.getElem?_append_left hi] at hx
      right
      rw [rd_sl _ _ h1]
      have e1 : (as.map (fun x => Slot.val (rd_val r x)) ++ List.replicate (nl - (as.map (fun x => Slot.val (rd_val r x))).length) Slot.unset)[i]? = some (Slot.val (rd_val r x)) := by
        rw [List.getElem?_append_left (by simpa using hi), List.getElem?_map, hx]; rfl
      simpa using e1
    · left
      rw [List.getElem?_append_right (by omega)] at hx
      exact (List.mem_replicate.mp (List.mem_of_getElem? hx)).2
def rd_KC (k0 : Nat) (Cn : String) : Prop := ∀ (G : rd_G) (r : Nat) (f : Int → Int) (k : Int), ∃ ci fs q, rd_cell G r f k k0 = .inr (ci, fs) ∧ rd_cl[ci]? = some q ∧ q.1 = Cn
section RDC
variable {p : Program} {l : Launch} {e : Env} {R : Room} {s : State} {m : MethodId} {args : Array Value} {below : List Frame} {meth : Method} {c : Code} {Q : State → Prop}
variable {cc : ByteArray} {nl : Nat} {own : String} {ret : Option FieldType} {G : rd_G} {kd : Int → Nat} {N r : Nat}
variable {pc : Nat} {L S : List rd_X} {μ : rd_Mem}
theorem rd_cont {Post : Option rd_X → rd_Mem → Prop} {a : Array Value} {H : Heap} {locs : List Loc} {ls : Array Slot} {st0 rest : List Value} {n : Nat} (hr : va_Run p l e R s m args below meth c H locs 0 0 0 0 (F0 m pc ls st0) rest (rd_Qc G kd N r Post a) (rd_A r N)) (hS : va_S (rd_A r N) s.heap H locs)
    (kk : ∀ (v : Option rd_X) (μ' : rd_Mem) (H1 : Heap) (locs1 : List Loc), Post v μ' → rd_okM μ' → rd_okO v → va_P G.1 rd_cl (rd_ws G kd N r μ') H1 → va_S (rd_A r N) s.heap H1 locs1 → W p l e R s m args below meth c H1 locs1 0 0 Q (F0 m (pc + 3) ls ((v.map (rd_val r)).toList ++ rest))) : W p l e R s m args below meth c H locs 0 0 Q (F0 m pc ls st0) := by
  intro T hT X
  obtain ⟨v, st₀, t, T', L, h0, X', hL, e1, e2, ⟨⟨v', μ', hv, hp, hM, hO, hP⟩, hz, hk⟩, st⟩ := hr T hT X
  cases hv
  rw [h0] at hz hk
  obtain ⟨t2, a1, b1⟩ := kk v' μ' T'.heap (locs ++ L) hp hM hO (by rw [e1]; exact hP)
    ⟨Nat.le_trans hS.1 (by rw [e1]; exact hz), fun q h1 h2 => by rw [e1, hk q (Nat.lt_of_lt_of_le h1 hS.1) h2]; exact hS.2.1 q h1 h2, fun q hq => by
      rcases List.mem_append.mp hq with h | h
      · exact hS.2.2 q h
      · exact hL q h⟩ T' rfl X'
  exact ⟨t2, st t2 a1, b1⟩
theorem rd_room {st : List rd_X} {ls : Array Slot} {r0 : List Value} (h : rd_wt st ≤ 8) : 2 * (F0 m pc ls r0).monitorRoom + ((st.map (rd_val r)).map fun v => v.category).sum ≤ 8 := by
  refine lv_room ?_
  rw [rd_wt_sum]; exact h
def rd_lim (y : MethodName) (n maxL : Nat) (rm R : Room) : Prop := (y.cls ≠ "java/lang/invoke/MethodHandle" ∧ y.cls ≠ "java/lang/invoke/VarHandle" ∧ (parseMethodDescriptor y.desc).map (fun d => d.parameters.length) = some n) ∧ rm.cells = 0 ∧ rm.slots = 0 ∧ rm.frames + 1 ≤ R.frames ∧ 8 + (maxL + 11) + rm.locals ≤ R.locals
theorem rd_okrev {as st : List rd_X} {x : rd_X} (h : rd_okL (as.reverse ++ x :: st)) : rd_okL (x :: as) ∧ rd_okL st :=
  ⟨fun y hy => h y (by rcases List.mem_cons.mp hy with rfl | h1
                       · simp
                       · simp [h1]), fun y hy => h y (by simp [hy])⟩
theorem rd_okrevS {as st : List rd_X} (h : rd_okL (as.reverse ++ st)) : rd_okL as ∧ rd_okL st := ⟨fun y hy => h y (by simp [hy]), fun y hy => h y (by simp [hy])⟩
theorem rd_callV (C : rd_Cx p s m args meth c cc nl own ret G) {y : MethodName} {bytes : ByteArray} {maxL n idx k0 : Nat} {ret' : Option FieldType} {rm : Room} {k : Int} {as st : List rd_X} {Post : Option rd_X → rd_Mem → Prop} (hM : rd_M l G kd N r y bytes maxL ret' rm (rd_R k :: as) μ Post)
    (hlink : (.methodLink own idx y : Cond) ∈ rd_T) (hinst : (.instanceMethod y : Cond) ∈ rd_T) (hsel : (.selects y.cls y y : Cond) ∈ rd_T) (hcode : (.code y bytes maxL ret' : Cond) ∈ rd_T) (hini : (.initialized y.cls : Cond) ∈ rd_T) (hlim : rd_lim y n maxL rm R) (hn : as.length = n) (hkc : rd_KC k0 y.cls) (hd : decode cc pc = .ok (.invokevirtual idx, 3)) (hk : 0 ≤ k ∧ k < N) (hc : kd k = k0) (hst : st = as.reverse ++ rd_R k :: S) (h8 : rd_wt S ≤ 8)
    (kk : ∀ (v : Option rd_X) (μ' : rd_Mem), Post v μ' → rd_W p l e R s m args below meth c Q nl G kd N r (pc + 3) L (v.toList ++ S) μ') : rd_W p l e R s m args below meth c Q nl G kd N r pc L st μ := by
  subst hst
  intro hMm hL hS H locs ls hl hP hs
  obtain ⟨hd1, hd2, hd3, hd4⟩ := hlim
  have hts := C.1.2.2.2.2
  have hat := rd_at (G := G) (kd := kd) (N := N) (r := r) μ hk.1 hk.2
  rw [hc] at hat
  obtain ⟨ci, fs, q, h1, h2, h3⟩ := hkc G r (μ k) k
  rw [h1] at hat
  obtain ⟨hOa, hOs⟩ := rd_okrev hS
  have hcb : CallB R s args own idx y bytes maxL ret' (.code y bytes maxL ret' :: rd_T) rm 0 0 n := callB_of n hts (rd_goodc hcode) rfl hd2 hd3 (hts _ hini) (hts _ hlink) hd1 hd4
  refine rd_cont (va_runV (As := as.map (rd_val r)) (rest := S.map (rd_val r)) C.1 hM ⟨hcb, hts _ hinst, hts _ hsel⟩ ⟨rd_blind, by
      have h4 := va_recv C.2.2.2.1 hP h2 hat
      rw [h3] at h4
      exact h4, fun U hU hW => ⟨rfl, hMm, hOa, by rw [hU]; exact hP, C.2.2.2.warm hW⟩⟩ rfl (by simpa using hn) hl.1 ?_ (rd_room h8) hd ⟨Nat.zero_le _, Nat.zero_le _⟩) hs (fun v μ' H1 locs1 hp hM' hO' hP' hs' => ?_) (n := 0)
  · simp [rd_val]
  · have h5 := kk v μ' hp hM' hL (rd_oka (fun x hx => by
      cases v with
      | none => simp at hx
      | some y => simp at hx; subst hx; exact hO' _ rfl) hOs) H1 locs1 ls hl hP' hs'
    have e : ((v.map (rd_val r)).toList ++ S.map (rd_val r)) = (v.toList ++ S).map (rd_val r) := by cases v <;> rfl
    rw [e]
    exact h5
theorem rd_callS (C : rd_Cx p s m args meth c cc nl own ret G) {y : MethodName} {bytes : ByteArray} {maxL n idx : Nat} {ret' : Option FieldType} {rm : Room} {as st : List rd_X} {Post : Option rd_X → rd_Mem → Prop} (hM : rd_M l G kd N r y bytes maxL ret' rm as μ Post)
    (hlink : (.methodLink own idx y : Cond) ∈ rd_T) (hstat : (.static y : Cond) ∈ rd_T) (hcode : (.code y bytes maxL ret' : Cond) ∈ rd_T) (hini : (.initialized y.cls : Cond) ∈ rd_T) (hlim : rd_lim y n maxL rm R) (hn : as.length = n) (hd : decode cc pc = .ok (.invokestatic idx, 3)) (hst : st = as.reverse ++ S) (h8 : rd_wt S ≤ 8)
    (kk : ∀ (v : Option rd_X) (μ' : rd_Mem), Post v μ' → rd_W p l e R s m args below meth c Q nl G kd N r (pc + 3) L (v.toList ++ S) μ') : rd_W p l e R s m args below meth c Q nl G kd N r pc L st μ := by
  subst hst
  intro hMm hL hS H locs ls hl hP hs
  obtain ⟨hd1, hd2, hd3, hd4⟩ := hlim
  have hts := C.1.2.2.2.2
  obtain ⟨hOa, hOs⟩ := rd_okrevS hS
  have hcb : CallB R s args own idx y bytes maxL ret' (.code y bytes maxL ret' :: rd_T) rm 0 0 n := callB_of n hts (rd_goodc hcode) rfl hd2 hd3 (hts _ hini) (hts _ hlink) hd1 hd4
  refine rd_cont (va_runS (As := as.map (rd_val r)) (rest := S.map (rd_val r)) C.1 hM ⟨hcb, hts _ hstat⟩ ⟨rd_blind, fun U hU hW => ⟨rfl, hMm, hOa, by rw [hU]; exact hP, C.2.2.2.warm hW⟩⟩ rfl (by simpa using hn) hl.1 ?_ (rd_room h8) hd ⟨Nat.zero_le _, Nat.zero_le _⟩) hs (fun v μ' H1 locs1 hp hM' hO' hP' hs' => ?_) (n := 0)
  · simp
  · have h5 := kk v μ' hp hM' hL (rd_oka (fun x hx => by
      cases v with
      | none => simp at hx
      | some y => simp at hx; subst hx; exact hO' _ rfl) hOs) H1 locs1 ls hl hP' hs'
    have e : ((v.map (rd_val r)).toList ++ S.map (rd_val r)) = (v.toList ++ S).map (rd_val r) := by cases v <;> rfl
    rw [e]
    exact h5
theorem rd_callSN (C : rd_Cx p s m args meth c cc nl own ret G) {y : MethodName} {bytes : ByteArray} {maxL n idx : Nat} {host : String} {ret' : Option FieldType} {rm : Room} {as st : List rd_X} {Post : Option rd_X → rd_Mem → Prop} (hM : rd_M l G kd N r y bytes maxL ret' rm as μ Post)
    (hlink : (.methodLinkNest own idx y host : Cond) ∈ rd_nest) (hstat : (.static y : Cond) ∈ rd_T) (hcode : (.code y bytes maxL ret' : Cond) ∈ rd_T) (hini : (.initialized y.cls : Cond) ∈ rd_T) (hlim : rd_lim y n maxL rm R) (hn : as.length = n) (hd : decode cc pc = .ok (.invokestatic idx, 3)) (hst : st = as.reverse ++ S) (h8 : rd_wt S ≤ 8)
    (kk : ∀ (v : Option rd_X) (μ' : rd_Mem), Post v μ' → rd_W p l e R s m args below meth c Q nl G kd N r (pc + 3) L (v.toList ++ S) μ') : rd_W p l e R s m args below meth c Q nl G kd N r pc L st μ := by
  subst hst
  intro hMm hL hS H locs ls hl hP hs
  obtain ⟨hd1, hd2, hd3, hd4⟩ := hlim
  have hts := C.1.2.2.2.2
  obtain ⟨hOa, hOs⟩ := rd_okrevS hS
  have hcb := va_cnB (args := args) (R := R) (rm := rm) n hts (rd_goodc hcode) rfl hd2 hd3 (C.2.2.2.2 _ hlink) (hts _ hini) hd1 hd4
  refine rd_cont (va_runSN (As := as.map (rd_val r)) (rest := S.map (rd_val r)) C.1 hM ⟨hcb, hts _ hstat, trivial⟩ ⟨rd_blind, fun U hU hW => ⟨rfl, hMm, hOa, by rw [hU]; exact hP, C.2.2.2.warm hW⟩⟩ rfl (by simpa using hn) hl.1 ?_ (rd_room h8) hd ⟨Nat.zero_le _, Nat.zero_le _⟩) hs (fun v μ' H1 locs1 hp hM' hO' hP' hs' => ?_) (n := 0)
  · simp
  · have h5 := kk v μ' hp hM' hL (rd_oka (fun x hx => by
      cases v with
      | none => simp at hx
      | some y => simp at hx; subst hx; exact hO' _ rfl) hOs) H1 locs1 ls hl hP' hs'
    have e : ((v.map (rd_val r)).toList ++ S.map (rd_val r)) = (v.toList ++ S).map (rd_val r) := by cases v <;> rfl
    rw [e]
    exact h5
/-! the ends -/
theorem rd_end {v : Option rd_X} {Post : Option rd_X → rd_Mem → Prop} {H : Heap} {locs : List Loc} (hp : Post v μ) (hM : rd_okM μ) (hO : rd_okO v) (hP : va_P G.1 rd_cl (rd_ws G kd N r μ) H) (hS : va_S (rd_A r N) s.heap H locs) (t : State) (ht : t.heap = H) (hW : s.WarmedH t.vm) : rd_Qc G kd N r Post args s (.returned (v.map (rd_val r))) t :=
  ⟨⟨v, μ, rfl, hp, hM, hO, by rw [ht]; exact hP⟩, hS.F ht⟩
theorem rd_iret {Post : Option rd_X → rd_Mem → Prop} (C : rd_Cx p s m args meth c cc nl own (some .int) G) {z : Int} (hd : decode cc pc = .ok (.ireturn, 1)) (hp : Post (some (rd_I z)) μ) : rd_W p l e R s m args below meth c (MQ below (rd_Qc G kd N r Post) args s 0 0 (rd_A r N)) nl G kd N r pc L [rd_I z] μ := by
  intro hM hL hS H locs ls hl hP hs
  have hlk : meth.locks = false := C.2.2.1
  exact W.iret (v := rd_i z) C.1.1 C.1.2.1 C.2.1 (fun t ht hW => rd_end (v := some (rd_I z)) hp hM (fun x hx => by cases hx; exact rd_okh hS) hP hs t ht hW) hs.2.2 hd hlk
theorem rd_zret {Post : Option rd_X → rd_Mem → Prop} (C : rd_Cx p s m args meth c cc nl own (some .boolean) G) {z : Int} (hd : decode cc pc = .ok (.ireturn, 1)) (hz : z = 0 ∨ z = 1) (hp : Post (some (rd_I z)) μ) : rd_W p l e R s m args below meth c (MQ below (rd_Qc G kd N r Post) args s 0 0 (rd_A r N)) nl G kd N r pc L [rd_I z] μ := by
  intro hM hL hS H locs ls hl hP hs
  have hlk : meth.locks = false := C.2.2.1
  exact W.zret (v := rd_i z) C.1.1 C.1.2.1 C.2.1 (rd_nb hz).1 (fun t ht hW => rd_end (v := some (rd_I z)) hp hM (fun x hx => by cases hx; exact rd_okh hS) hP hs t ht hW) hs.2.2 hd hlk
theorem rd_cret {Post : Option rd_X → rd_Mem → Prop} (C : rd_Cx p s m args meth c cc nl own (some .char) G) {z : Int} (hd : decode cc pc = .ok (.ireturn, 1)) (hz : 0 ≤ z ∧ z < 65536) (hp : Post (some (rd_I z)) μ) : rd_W p l e R s m args below meth c (MQ below (rd_Qc G kd N r Post) args s 0 0 (rd_A r N)) nl G kd N r pc L [rd_I z] μ := by
  intro hM hL hS H locs ls hl hP hs
  have hlk : meth.locks = false := C.2.2.1
  have e : narrow .char (.int (rd_i z)) = .int (rd_i z) := by
    have h1 := rd_narc hz.1 hz.2
    rw [vp_nar_char] at h1
    show Value.int _ = _
    rw [h1]
  exact W.zret (v := rd_i z) C.1.1 C.1.2.1 C.2.1 e (fun t ht hW => rd_end (v := some (rd_I z)) hp hM (fun x hx => by cases hx; exact rd_okh hS) hP hs t ht hW) hs.2.2 hd hlk
theorem rd_aret {Post : Option rd_X → rd_Mem → Prop} {cn : String} (C : rd_Cx p s m args meth c cc nl own (some (.object cn)) G) {z : Option Int} (hd : decode cc pc = .ok (.areturn, 1)) (hp : Post (some (.inr (.inl z))) μ) : rd_W p l e R s m args below meth c (MQ below (rd_Qc G kd N r Post) args s 0 0 (rd_A r N)) nl G kd N r pc L [.inr (.inl z)] μ := by
  intro hM hL hS H locs ls hl hP hs
  have hlk : meth.locks = false := C.2.2.1
  exact W.aret (v := rd_val r (.inr (.inl z))) C.1.1 C.1.2.1 C.2.1 (Or.inl ⟨_, rfl⟩) (by cases z with | none => exact Or.inl rfl | some z => exact Or.inr ⟨_, rfl⟩) (fun t ht hW => rd_end (v := some (.inr (.inl z))) hp hM (fun x hx => by cases hx; trivial) hP hs t ht hW) hs.2.2 hd hlk
theorem rd_fret {Post : Option rd_X → rd_Mem → Prop} (C : rd_Cx p s m args meth c cc nl own (some .float) G) {f : UInt32} (hd : decode cc pc = .ok (.freturn, 1)) (hp : Post (some (rd_F f)) μ) : rd_W p l e R s m args below meth c (MQ below (rd_Qc G kd N r Post) args s 0 0 (rd_A r N)) nl G kd N r pc L [rd_F f] μ := by
  intro hM hL hS H locs ls hl hP hs
  have hlk : meth.locks = false := C.2.2.1
  exact W.fret (v := f) C.1.1 C.1.2.1 C.2.1 (fun t ht hW => rd_end (v := some (rd_F f)) hp hM (fun x hx => by cases hx; trivial) hP hs t ht hW) hs.2.2 hd hlk
theorem rd_vret {Post : Option rd_X → rd_Mem → Prop} (C : rd_Cx p s m args meth c cc nl own none G) (hd : decode cc pc = .ok (.return_, 1)) (hp : Post none μ) : rd_W p l e R s m args below meth c (MQ below (rd_Qc G kd N r Post) args s 0 0 (rd_A r N)) nl G kd N r pc L [] μ := by
  intro hM hL hS H locs ls hl hP hs
  have hlk : meth.locks = false := C.2.2.1
  exact W.vret C.1.1 C.1.2.1 C.2.1 (fun t ht hW => rd_end (v := none) hp hM (fun x hx => by cases hx) hP hs t ht hW) hs.2.2 hd hlk
/-! the JDK's -/
theorem rd_mmax (C : rd_Cx p s m args meth c cc nl own ret G) {a b z : Int} {idx : Nat} (hlink : (.methodLink own idx Lib.Math.max.name : Cond) ∈ rd_T) (hstat : (.static Lib.Math.max.name : Cond) ∈ rd_T) (hini : (.initialized "java/lang/Math" : Cond) ∈ rd_T) (hcode : (.code Lib.Math.max.name Lib.Math.max.code 2 (some .int) : Cond) ∈ rd_T) (hR : 1 ≤ R.frames ∧ 21 ≤ R.locals) (h8 : rd_wt S ≤ 8) (hd : decode cc pc = .ok (.invokestatic idx, 3)) (hz : (if a < b then b else a) = z)
    (kk : rd_W p l e R s m args below meth c Q nl G kd N r (pc + 3) L (rd_I z :: S) μ) : rd_W p l e R s m args below meth c Q nl G kd N r pc L (rd_I b :: rd_I a :: S) μ := by
  intro hM hL hS H locs ls hl hP hs
  have hts := C.1.2.2.2.2
  have hb : rd_ok b := rd_okh hS
  have ha : rd_ok a := rd_okh (rd_okt hS)
  have h0 := rd_room (m := m) (pc := pc) (r := r) (ls := ls) (r0 := []) h8
  refine va_mmax C.1.1 C.1.2.1 (by rw [C.1.2.2.1, hl.1]) C.1.2.2.2.1 (hts _ hlink) (hts _ hstat) (hts _ hini) (hts _ hcode) hR.1 (by omega) (Nat.zero_le _) (Nat.zero_le _) hd ?_
  have e : (if rd_i a < rd_i b then rd_i b else rd_i a) = rd_i z := by
    subst hz
    by_cases h : a < b
    · rw [if_pos ((rd_lt ha hb).mpr h), if_pos h]
    · rw [if_neg (fun q => h ((rd_lt ha hb).mp q)), if_neg h]
  rw [e]
  exact kk hM hL (rd_okc (by subst hz; show rd_ok _; split <;> assumption) (rd_okt (rd_okt hS))) H locs ls hl hP hs
theorem rd_mmin (C : rd_Cx p s m args meth c cc nl own ret G) {a b z : Int} {idx : Nat} (hlink : (.methodLink own idx Lib.Math.min.name : Cond) ∈ rd_T) (hstat : (.static Lib.Math.min.name : Cond) ∈ rd_T) (hini : (.initialized "java/lang/Math" : Cond) ∈ rd_T) (hcode : (.code Lib.Math.min.name Lib.Math.min.code 2 (some .int) : Cond) ∈ rd_T) (hR : 1 ≤ R.frames ∧ 21 ≤ R.locals) (h8 : rd_wt S ≤ 8) (hd : decode cc pc = .ok (.invokestatic idx, 3)) (hz : (if b < a then b else a) = z)
    (kk : rd_W p l e R s m args below meth c Q nl G kd N r (pc + 3) L (rd_I z :: S) μ) : rd_W p l e R s m args below meth c Q nl G kd N r pc L (rd_I b :: rd_I a :: S) μ := by
  intro hM hL hS H locs ls hl hP hs
  have hts := C.1.2.2.2.2
  have hb : rd_ok b := rd_okh hS
  have ha : rd_ok a := rd_okh (rd_okt hS)
  have h0 := rd_room (m := m) (pc := pc) (r := r) (ls := ls) (r0 := []) h8
  refine va_mmin C.1.1 C.1.2.1 (by rw [C.1.2.2.1, hl.1]) C.1.2.2.2.1 (hts _ hlink) (hts _ hstat) (hts _ hini) (hts _ hcode) hR.1 (by omega) (Nat.zero_le _) (Nat.zero_le _) hd ?_
  have e : (if rd_i b < rd_i a then rd_i b else rd_i a) = rd_i z := by
    subst hz
    by_cases h : b < a
    · rw [if_pos ((rd_lt hb ha).mpr h), if_pos h]
    · rw [if_neg (fun q => h ((rd_lt hb ha).mp q)), if_neg h]
  rw [e]
  exact kk hM hL (rd_okc (by subst hz; show rd_ok _; split <;> assumption) (rd_okt (rd_okt hS))) H locs ls hl hP hs
def rd_cp (μ : rd_Mem) (k1 k0 n : Int) : rd_Mem := fun a b => if a = k1 then (if 0 ≤ b ∧ b < n then μ k0 b else μ a b) else μ a b
theorem rd_acopy (C : rd_Cx p s m args meth c cc nl own ret G) {k0 n : Nat} {k1 k2 nz : Int} {idx : Nat} (ha : rd_AI k0 n) (hlink : (.methodLink own idx arraycopyName : Cond) ∈ rd_T) (hnat : (.native arraycopyName : Cond) ∈ rd_T) (hstat : (.static arraycopyName : Cond) ∈ rd_T) (hini : (.initialized "java/lang/System" : Cond) ∈ rd_T) (hR : 1 ≤ R.frames ∧ 8 + (nativeFrameWords "java/lang/System" "arraycopy" 5 + 11) ≤ R.locals) (h8 : rd_wt S ≤ 8) (hd : decode cc pc = .ok (.invokestatic idx, 3)) (hk1 : 0 ≤ k1 ∧ k1 < N) (hc1 : kd k1 = k0) (hk2 : 0 ≤ k2 ∧ k2 < N) (hc2 : kd k2 = k0) (hnz : nz = (n : Int)) (hn : n < 2147483648)
    (kk : rd_W p l e R s m args below meth c Q nl G kd N r (pc + 3) L S (rd_cp μ k2 k1 nz)) : rd_W p l e R s m args below meth c Q nl G kd N r pc L (rd_I nz :: rd_I 0 :: rd_R k2 :: rd_I 0 :: rd_R k1 :: S) μ := by
  intro hM hL hS H locs ls hl hP hs
  subst hnz
  have hts := C.1.2.2.2.2
  have hat1 := rd_at (G := G) (kd := kd) (N := N) (r := r) μ hk1.1 hk1.2
  have hat2 := rd_at (G := G) (kd := kd) (N := N) (r := r) μ hk2.1 hk2.2
  rw [hc1, ha G r (μ k1) k1] at hat1
  rw [hc2, ha G r (μ k2) k2] at hat2
  have hnn : rd_ok ((n : Int)) := ⟨by omega, by omega⟩
  have e0 : (rd_i 0).toNatClampNeg = 0 := by rw [rd_cl0 rd_ok0]; rfl
  have en : (rd_i (n : Int)).toNatClampNeg = n := by rw [rd_cl0 hnn]; omega
  have h0 := rd_room (m := m) (pc := pc) (r := r) (ls := ls) (r0 := []) h8
  refine va_copyi (D := G.1) (sp := rd_i 0) (dp := rd_i 0) (n := rd_i n) (ty := .int) C.1.1 C.1.2.1 (by rw [C.1.2.2.1, hl.1]) C.1.2.2.2.1 (hts _ hlink) (hts _ hnat) (hts _ hstat) (hts _ hini) C.2.2.2.1 hP (rd_wsD G kd N r μ) hs k1.toNat k2.toNat 0 0 hat1 hat2 rfl rfl rfl
    (by rw [rd_z]; decide) (by rw [rd_z]; decide) (by rw [← rd_z, rd_lt hnn rd_ok0]; omega) (by rw [e0, en]; omega) (by rw [e0, en]; omega) (fun i _ => rfl) hR.1 (by omega) hd (fun H1 locs1 hP1 _ hS1 => ?_)
  rw [e0, en, rd_wset hk2.1 hk2.2 (μ' := rd_cp μ k2 k1 n) (by
    rw [hc2, ha]
    congr 4
    funext j
    simp only [va_cpy, rd_ri, rd_cp, if_true]
    by_cases hj : j < n
    · have h3 : (0 : Int) ≤ (j : Int) ∧ (j : Int) < n := ⟨by omega, by omega⟩
      have h4 : (0 ≤ j ∧ j < 0 + n) := ⟨by omega, by omega⟩
      rw [if_pos h3, if_pos h4]
      simp
    · have h3 : ¬ ((0 : Int) ≤ (j : Int) ∧ (j : Int) < n) := by omega
      have h4 : ¬ (0 ≤ j ∧ j < 0 + n) := by omega
      rw [if_neg h3, if_neg h4]) (fun a ha => by funext b; simp [rd_cp, ha])] at hP1
  refine kk (fun a b => ?_) hL (rd_okt (rd_okt (rd_okt (rd_okt (rd_okt hS))))) H1 locs1 ls hl hP1 hS1
  unfold rd_cp
  split
  · split
    · exact hM _ _
    · exact hM _ _
  · exact hM _ _
end RDC

