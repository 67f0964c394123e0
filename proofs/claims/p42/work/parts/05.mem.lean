/-! reading and writing the cells -/
def rd_GF (k0 j ci : Nat) (Cn : String) (T : u_T) (n : Nat) (g : (Int → Int) → Int → rd_X) : Prop :=
  rd_cl[ci]? = some (Cn, T, n) ∧ j < n ∧ (∀ w ∈ u_ws Cn T n, w ∈ rd_T) ∧ ∀ (G : rd_G) (r : Nat) (f : Int → Int) (k : Int), ∃ fs, rd_cell G r f k k0 = .inr (ci, fs) ∧ fs[j]? = some (rd_val r (g f k))
def rd_PF (k0 j ci : Nat) (Cn : String) (T : u_T) (n : Nat) (jz : Int) (P : Int → Prop) : Prop :=
  rd_cl[ci]? = some (Cn, T, n) ∧ j < n ∧ (∀ w ∈ u_ws Cn T n, w ∈ rd_T) ∧ (∀ (G : rd_G) (r : Nat) (f : Int → Int) (k z : Int), ∃ fs, rd_cell G r f k k0 = .inr (ci, fs) ∧ j < fs.length ∧ rd_cell G r (rd_uf f jz z) k k0 = .inr (ci, fs.set j (.int (rd_i z)))) ∧
  (∃ ty0 : Nat → FieldType, ∀ k, k < n → parseFieldDescriptor (T k).2.2.1 = some (ty0 k)) ∧ (∀ a, a < n → ∀ b, b < n → a ≠ b → (T a).2.1 ≠ (T b).2.1) ∧ (T j).2.2.2 = false ∧ ∃ ty, parseFieldDescriptor (T j).2.2.1 = some ty ∧ ∀ z, P z → narrow ty (.int (rd_i z)) = .int (rd_i z) ∧ fits ty (.int (rd_i z)) = true
theorem rd_nb {z : Int} (h : z = 0 ∨ z = 1) : narrow .boolean (.int (rd_i z)) = .int (rd_i z) ∧ fits .boolean (.int (rd_i z)) = true := by
  rcases h with rfl | rfl <;> decide +kernel
theorem rd_ni (z : Int) (_ : True) : narrow .int (.int (rd_i z)) = .int (rd_i z) ∧ fits .int (.int (rd_i z)) = true := ⟨rfl, rfl⟩
def rd_AI (k0 : Nat) (n : Nat) : Prop := ∀ (G : rd_G) (r : Nat) (f : Int → Int) (k : Int), rd_cell G r f k k0 = .inl (G.2.1, n, .inl (rd_ri f))
theorem rd_ri_set (f : Int → Int) {j : Int} (h : 0 ≤ j) (z : Int) : upd (rd_ri f) j.toNat (rd_i z) = rd_ri (rd_uf f j z) := by
  funext a
  have e : (a = j.toNat) ↔ ((a : Int) = j) := by omega
  by_cases ha : (a : Int) = j
  · simp [upd, rd_ri, rd_uf, e, ha]
  · simp [upd, rd_ri, rd_uf, e, ha]
section RDM
variable {p : Program} {l : Launch} {e : Env} {R : Room} {s : State} {m : MethodId} {args : Array Value} {below : List Frame} {meth : Method} {c : Code} {Q : State → Prop}
variable {cc : ByteArray} {nl : Nat} {own : String} {ret : Option FieldType} {G : rd_G} {kd : Int → Nat} {N r : Nat}
variable {pc : Nat} {L S : List rd_X} {μ : rd_Mem}
theorem rd_get (C : rd_Cx p s m args meth c cc nl own ret G) {k0 j ci n idx : Nat} {Cn : String} {T : u_T} {g : (Int → Int) → Int → rd_X} {k : Int} {x : rd_X} (hg : rd_GF k0 j ci Cn T n g) (hw : (Cond.fieldLink own idx (T j).1 (T j).2.1 (T j).2.2.1) ∈ rd_T) (hd : decode cc pc = .ok (.getfield idx, 3)) (hk : 0 ≤ k ∧ k < N) (hc : kd k = k0) (hx : g (μ k) k = x) (hok : rd_okM μ → rd_okX x)
    (kk : rd_W p l e R s m args below meth c Q nl G kd N r (pc + 3) L (x :: S) μ) : rd_W p l e R s m args below meth c Q nl G kd N r pc L (rd_R k :: S) μ := by
  intro hM hL hS H locs ls hl hP hs
  obtain ⟨h1, h2, h3, h4⟩ := hg
  obtain ⟨fs, h5, h6⟩ := h4 G r (μ k) k
  have ha := rd_at (G := G) (kd := kd) (N := N) (r := r) μ hk.1 hk.2
  rw [hc, h5] at ha
  rw [hx] at h6
  exact va_get (D := G.1) C.1.1 C.1.2.1 C.1.2.2.2.2 h3 C.1.2.2.2.1 C.2.2.2.1 hP k.toNat ha h1 j h2 (C.1.2.2.2.2 _ hw) (fun _ h => h) h6 hd (kk hM hL (rd_okc (hok hM) (rd_okt hS)) H locs ls hl hP hs)
theorem rd_put (C : rd_Cx p s m args meth c cc nl own ret G) {k0 j ci n idx : Nat} {Cn : String} {T : u_T} {jz : Int} {P : Int → Prop} {k z : Int} (hg : rd_PF k0 j ci Cn T n jz P) (hw : (Cond.fieldLink own idx (T j).1 (T j).2.1 (T j).2.2.1) ∈ rd_T) (hd : decode cc pc = .ok (.putfield idx, 3)) (hk : 0 ≤ k ∧ k < N) (hc : kd k = k0) (hz : P z)
    (kk : rd_W p l e R s m args below meth c Q nl G kd N r (pc + 3) L S (rd_u μ k jz z)) : rd_W p l e R s m args below meth c Q nl G kd N r pc L (rd_I z :: rd_R k :: S) μ := by
  intro hM hL hS H locs ls hl hP hs
  obtain ⟨h1, h2, h3, h4, ⟨ty0, h5⟩, h6, h7, ty, h8, h9⟩ := hg
  obtain ⟨fs, g1, g2, g3⟩ := h4 G r (μ k) k z
  have ha := rd_at (G := G) (kd := kd) (N := N) (r := r) μ hk.1 hk.2
  rw [hc, g1] at ha
  refine va_put (D := G.1) C.1.1 C.1.2.1 C.1.2.2.2.2 h3 ty0 h5 h6 C.1.2.2.2.1 C.2.2.2.1 hP (rd_wsD G kd N r μ) hs k.toNat ha h1 j h2 (C.1.2.2.2.2 _ hw) (fun _ h => h) h7 h8 (h9 z hz).1 (h9 z hz).2 g2 hd (fun H1 locs1 hP1 _ hS1 => ?_)
  rw [rd_wset hk.1 hk.2 (μ' := rd_u μ k jz z) (by rw [rd_u_row, hc, g3]; rfl) (fun a ha => rd_u_ne μ jz z ha)] at hP1
  exact kk (rd_u_ok hM (rd_okh hS)) hL (rd_okt (rd_okt hS)) H1 locs1 ls hl hP1 hS1
theorem rd_iald (C : rd_Cx p s m args meth c cc nl own ret G) {k0 n : Nat} {k i : Int} (ha : rd_AI k0 n) (hd : decode cc pc = .ok (.iaload, 1)) (hk : 0 ≤ k ∧ k < N) (hc : kd k = k0) (hi : 0 ≤ i ∧ i < n)
    (kk : rd_W p l e R s m args below meth c Q nl G kd N r (pc + 1) L (rd_I (μ k i) :: S) μ) : rd_W p l e R s m args below meth c Q nl G kd N r pc L (rd_I i :: rd_R k :: S) μ := by
  intro hM hL hS H locs ls hl hP hs
  have hat := rd_at (G := G) (kd := kd) (N := N) (r := r) μ hk.1 hk.2
  rw [hc, ha G r (μ k) k] at hat
  have hio : rd_ok i := rd_okh hS
  have e1 : rd_ri (μ k) (rd_i i).toNatClampNeg = rd_i (μ k i) := by
    rw [rd_cl0 hio]; show rd_i (μ k ((i.toNat : Nat) : Int)) = _; congr 2; omega
  refine va_iald (D := G.1) C.1.1 C.1.2.1 C.2.2.2.1 hP k.toNat 0 hat rfl (rd_vin hi.1 hi.2 hio) hd ?_
  rw [e1]
  exact kk hM hL (rd_okc (hM k i) (rd_okt (rd_okt hS))) H locs ls hl hP hs
theorem rd_iast (C : rd_Cx p s m args meth c cc nl own ret G) {k0 n : Nat} {k i z : Int} (ha : rd_AI k0 n) (hd : decode cc pc = .ok (.iastore, 1)) (hk : 0 ≤ k ∧ k < N) (hc : kd k = k0) (hi : 0 ≤ i ∧ i < n)
    (kk : rd_W p l e R s m args below meth c Q nl G kd N r (pc + 1) L S (rd_u μ k i z)) : rd_W p l e R s m args below meth c Q nl G kd N r pc L (rd_I z :: rd_I i :: rd_R k :: S) μ := by
  intro hM hL hS H locs ls hl hP hs
  have hat := rd_at (G := G) (kd := kd) (N := N) (r := r) μ hk.1 hk.2
  rw [hc, ha G r (μ k) k] at hat
  have hio : rd_ok i := rd_okh (rd_okt hS)
  refine va_iast (D := G.1) C.1.1 C.1.2.1 C.2.2.2.1 hP (rd_wsD G kd N r μ) hs k.toNat 0 hat rfl (rd_vin hi.1 hi.2 hio) hd (fun H1 locs1 hP1 _ hS1 => ?_)
  rw [rd_cl0 hio, rd_ri_set _ hi.1, rd_wset hk.1 hk.2 (μ' := rd_u μ k i z) (by rw [rd_u_row, hc, ha]) (fun a ha => rd_u_ne μ i z ha)] at hP1
  exact kk (rd_u_ok hM (rd_okh hS)) hL (rd_okt (rd_okt (rd_okt hS))) H1 locs1 ls hl hP1 hS1
theorem rd_cald (C : rd_Cx p s m args meth c cc nl own ret G) {k i : Int} (hd : decode cc pc = .ok (.caload, 1)) (hk : 0 ≤ k ∧ k < N) (hc : kd k = 15) (hi : 0 ≤ i ∧ i < 60)
    (kk : rd_W p l e R s m args below meth c Q nl G kd N r (pc + 1) L (rd_I (μ k i) :: S) μ) : rd_W p l e R s m args below meth c Q nl G kd N r pc L (rd_I i :: rd_R k :: S) μ := by
  intro hM hL hS H locs ls hl hP hs
  have hat := rd_at (G := G) (kd := kd) (N := N) (r := r) μ hk.1 hk.2
  rw [hc] at hat
  have hio : rd_ok i := rd_okh hS
  have e1 : rd_ri (μ k) (rd_i i).toNatClampNeg = rd_i (μ k i) := by
    rw [rd_cl0 hio]; show rd_i (μ k ((i.toNat : Nat) : Int)) = _; congr 2; omega
  refine va_cald (D := G.1) (f := rd_ri (μ k)) (n := 60) C.1.1 C.1.2.1 C.2.2.2.1 hP k.toNat 1 hat rfl (rd_vin hi.1 hi.2 hio) hd ?_
  rw [e1]
  exact kk hM hL (rd_okc (hM k i) (rd_okt (rd_okt hS))) H locs ls hl hP hs
theorem rd_narc {z : Int} (h0 : 0 ≤ z) (h1 : z < 65536) : vp_nar .char (rd_i z) = rd_i z := by
  rw [vp_nar_char]
  have e : rd_i z = nI z.toNat := by
    show Int32.ofInt z = Int32.ofNat z.toNat
    rw [← Int32.ofInt_eq_ofNat]
    congr 1
    omega
  have h2 := pk_char (rd_i z)
  rw [e] at h2 ⊢
  rw [pk_tn (by omega), Nat.mod_eq_of_lt (by omega)] at h2
  exact h2
theorem rd_cast (C : rd_Cx p s m args meth c cc nl own ret G) {k i z : Int} (hd : decode cc pc = .ok (.castore, 1)) (hk : 0 ≤ k ∧ k < N) (hc : kd k = 15) (hi : 0 ≤ i ∧ i < 60) (hz : 0 ≤ z ∧ z < 65536)
    (kk : rd_W p l e R s m args below meth c Q nl G kd N r (pc + 1) L S (rd_u μ k i z)) : rd_W p l e R s m args below meth c Q nl G kd N r pc L (rd_I z :: rd_I i :: rd_R k :: S) μ := by
  intro hM hL hS H locs ls hl hP hs
  have hat := rd_at (G := G) (kd := kd) (N := N) (r := r) μ hk.1 hk.2
  rw [hc] at hat
  have hio : rd_ok i := rd_okh (rd_okt hS)
  refine va_cast (D := G.1) (f := rd_ri (μ k)) (n := 60) C.1.1 C.1.2.1 C.2.2.2.1 hP (rd_wsD G kd N r μ) hs k.toNat 1 hat rfl (rd_vin hi.1 hi.2 hio) hd (fun H1 locs1 hP1 _ hS1 => ?_)
  rw [rd_cl0 hio, rd_narc hz.1 hz.2, rd_ri_set _ hi.1, rd_wset hk.1 hk.2 (μ' := rd_u μ k i z) (by rw [rd_u_row, hc]; rfl) (fun a ha => rd_u_ne μ i z ha)] at hP1
  exact kk (rd_u_ok hM (rd_okh hS)) hL (rd_okt (rd_okt (rd_okt hS))) H1 locs1 ls hl hP1 hS1
theorem rd_alen (C : rd_Cx p s m args meth c cc nl own ret G) {k0 n : Nat} {k : Int} (ha : ∀ (G : rd_G) (r : Nat) (f : Int → Int) (k : Int), ∃ (t : Nat) (a : ClassId) (ty : FieldType) (x : vp_A), rd_cell G r f k k0 = .inl (a, x) ∧ x.1 = n ∧ (rd_tys G)[t]? = some (a, ty)) (hd : decode cc pc = .ok (.arraylength, 1)) (hk : 0 ≤ k ∧ k < N) (hc : kd k = k0) {z : Int} (hz : (n : Int) = z) (hok : rd_ok z)
    (kk : rd_W p l e R s m args below meth c Q nl G kd N r (pc + 1) L (rd_I z :: S) μ) : rd_W p l e R s m args below meth c Q nl G kd N r pc L (rd_R k :: S) μ := by
  intro hM hL hS H locs ls hl hP hs
  have hat := rd_at (G := G) (kd := kd) (N := N) (r := r) μ hk.1 hk.2
  obtain ⟨t, a, ty, x, h1, h2, h3⟩ := ha G r (μ k) k
  rw [hc, h1] at hat
  exact va_alen (D := G.1) C.1.1 C.1.2.1 C.2.2.2.1 hP k.toNat t hat h3 (v := rd_i z) (by rw [h2, ← hz]; exact (Int32.ofInt_eq_ofNat).symm) hd (kk hM hL (rd_okc hok (rd_okt hS)) H locs ls hl hP hs)
theorem rd_aald16 (C : rd_Cx p s m args meth c cc nl own ret G) {k i k' : Int} (hd : decode cc pc = .ok (.aaload, 1)) (hk : 0 ≤ k ∧ k < N) (hc : kd k = 16) (hi : 0 ≤ i ∧ i < 10) (hk' : k + 1 + 5 * i = k')
    (kk : rd_W p l e R s m args below meth c Q nl G kd N r (pc + 1) L (rd_R k' :: S) μ) : rd_W p l e R s m args below meth c Q nl G kd N r pc L (rd_I i :: rd_R k :: S) μ := by
  intro hM hL hS H locs ls hl hP hs
  have hat := rd_at (G := G) (kd := kd) (N := N) (r := r) μ hk.1 hk.2
  rw [hc] at hat
  have hio : rd_ok i := rd_okh hS
  refine va_aldq (D := G.1) (C := RX7) (n := 10) (f := fun j => some (r + (k + 1 + 5 * (j : Int)).toNat)) C.1.1 C.1.2.1 C.2.2.2.1 hP k.toNat 2 hat rfl (rd_vin hi.1 hi.2 hio) hd ?_
  have e1 : (va_rf (some (r + (k + 1 + 5 * (((rd_i i).toNatClampNeg : Nat) : Int)).toNat))) = rd_val r (rd_R k') := by
    rw [rd_cl0 hio]; show Value.ref _ = Value.ref _; congr 3; omega
  show W p l e R s m args below meth c H locs 0 0 Q (F0 m (pc + 1) ls (va_rf (some (r + (k + 1 + 5 * (((rd_i i).toNatClampNeg : Nat) : Int)).toNat)) :: S.map (rd_val r)))
  rw [e1]
  exact kk hM hL (rd_okc trivial (rd_okt (rd_okt hS))) H locs ls hl hP hs
theorem rd_aald17 (C : rd_Cx p s m args meth c cc nl own ret G) {k i k' : Int} (hd : decode cc pc = .ok (.aaload, 1)) (hk : 0 ≤ k ∧ k < N) (hc : kd k = 17) (hi : 0 ≤ i ∧ i < 4) (hk' : k + 1 + 61 * μ k i = k')
    (kk : rd_W p l e R s m args below meth c Q nl G kd N r (pc + 1) L (rd_R k' :: S) μ) : rd_W p l e R s m args below meth c Q nl G kd N r pc L (rd_I i :: rd_R k :: S) μ := by
  intro hM hL hS H locs ls hl hP hs
  have hat := rd_at (G := G) (kd := kd) (N := N) (r := r) μ hk.1 hk.2
  rw [hc] at hat
  have hio : rd_ok i := rd_okh hS
  refine va_aldq (D := G.1) (C := RX8) (n := 4) (f := fun j => some (r + (k + 1 + 61 * μ k (j : Int)).toNat)) C.1.1 C.1.2.1 C.2.2.2.1 hP k.toNat 3 hat rfl (rd_vin hi.1 hi.2 hio) hd ?_
  have ei : ((i.toNat : Nat) : Int) = i := by omega
  have e1 : (va_rf (some (r + (k + 1 + 61 * μ k (((rd_i i).toNatClampNeg : Nat) : Int)).toNat))) = rd_val r (rd_R k') := by
    rw [rd_cl0 hio, ei, hk']; rfl
  show W p l e R s m args below meth c H locs 0 0 Q (F0 m (pc + 1) ls (va_rf (some (r + (k + 1 + 61 * μ k (((rd_i i).toNatClampNeg : Nat) : Int)).toNat)) :: S.map (rd_val r)))
  rw [e1]
  exact kk hM hL (rd_okc trivial (rd_okt (rd_okt hS))) H locs ls hl hP hs
theorem rd_aast17 (C : rd_Cx p s m args meth c cc nl own ret G) {k i q t : Int} (hd : decode cc pc = .ok (.aastore, 1)) (hk : 0 ≤ k ∧ k < N) (hc : kd k = 17) (hi : 0 ≤ i ∧ i < 4) (hq : 0 ≤ q ∧ q < N) (hqc : kd q = 8) (ht : k + 1 + 61 * t = q) (hto : rd_ok t)
    (kk : rd_W p l e R s m args below meth c Q nl G kd N r (pc + 1) L S (rd_u μ k i t)) : rd_W p l e R s m args below meth c Q nl G kd N r pc L (rd_R q :: rd_I i :: rd_R k :: S) μ := by
  intro hM hL hS H locs ls hl hP hs
  have hat := rd_at (G := G) (kd := kd) (N := N) (r := r) μ hk.1 hk.2
  have haq := rd_at (G := G) (kd := kd) (N := N) (r := r) μ hq.1 hq.2
  rw [hc] at hat
  rw [hqc] at haq
  have hio : rd_ok i := rd_okh (rd_okt hS)
  refine va_astq (D := G.1) (r := (RX8, TX8, 4)) (n := 4) (f := fun j => some (r + (k + 1 + 61 * μ k (j : Int)).toNat)) C.1.1 C.1.2.1 C.2.2.2.1 hP (rd_wsD G kd N r μ) hs k.toNat 3 q.toNat 8 hat rfl haq rfl (rd_vin hi.1 hi.2 hio) hd (fun H1 locs1 hP1 _ hS1 => ?_)
  rw [rd_cl0 hio, rd_wset hk.1 hk.2 (μ' := rd_u μ k i t) (by
    rw [rd_u_row, hc]
    show (Sum.inl (_, _, _) : va_E) = Sum.inl (_, _, _)
    congr 5
    congr 1
    congr 1
    congr 1
    funext j
    show va_up _ _ _ j = some (r + (k + 1 + 61 * rd_uf (μ k) i t (j : Int)).toNat)
    by_cases hj : (j : Int) = i
    · have hj' : j = i.toNat := by omega
      simp [va_up, rd_uf, hj', ← ht]
      congr 2
      omega
    · have hj' : ¬ j = i.toNat := by omega
      simp [va_up, rd_uf, hj, hj']) (fun a ha => rd_u_ne μ i t ha)] at hP1
  exact kk (rd_u_ok hM hto) hL (rd_okt (rd_okt (rd_okt hS))) H1 locs1 ls hl hP1 hS1
end RDM

