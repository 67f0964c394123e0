/-! the law's body -/
section LPB
variable {p : Program} {l : Launch} {e : Env} {s : State} {m : MethodId} {below : List Frame} {meth : Method} {c : Code} {G : rd_G} {b L0 cs sl : Nat} {xs : Nat → Int32}
abbrev lp_K (p : Program) (l : Launch) (e : Env) (s : State) (m : MethodId) (below : List Frame) (meth : Method) (c : Code) (G : rd_G) (b cs sl : Nat) (μ : rd_Mem) (pc : Nat) (L S : List rd_X) : Prop := rx_W p l e room_1 s m #[Value.ref b] below meth c (lw_Z below #[Value.ref b] s) 11 0 cs sl (lp_I G s.heap.size s.heap μ) pc L S
theorem pg_Seq {μ π σ : rd_Mem} {l : List rd_Mem} (e : σ = π) (h : pg_S μ π l) : pg_S μ σ l := by rw [e]; exact h
theorem lp_o1 (r : Nat) : ([rd_R (r : Int)] : List rd_X).map (rd_val 0) = [rd_R 0].map (rd_val r) := by
  show [Value.ref (0 + (r : Int).toNat)] = [Value.ref (r + (0 : Int).toNat)]
  rw [show 0 + (r : Int).toNat = r by omega, show r + (0 : Int).toNat = r by omega]
theorem lp_o2 (r : Nat) (z : Int) : ([rd_R (r : Int), rd_I z] : List rd_X).map (rd_val 0) = [rd_R 0, rd_I z].map (rd_val r) := by
  show [Value.ref (0 + (r : Int).toNat), Value.int (rd_i z)] = [Value.ref (r + (0 : Int).toNat), Value.int (rd_i z)]
  rw [show 0 + (r : Int).toNat = r by omega, show r + (0 : Int).toNat = r by omega]
theorem lp_o3 (r : Nat) (z z2 : Int) : ([rd_R (r : Int), rd_I z, rd_I z2] : List rd_X).map (rd_val 0) = [rd_R 0, rd_I z, rd_I z2].map (rd_val r) := by
  show [Value.ref (0 + (r : Int).toNat), Value.int (rd_i z), Value.int (rd_i z2)] = [Value.ref (r + (0 : Int).toNat), Value.int (rd_i z), Value.int (rd_i z2)]
  rw [show 0 + (r : Int).toNat = r by omega, show r + (0 : Int).toNat = r by omega]
theorem lp_oo1 {k : Int} (_ : rd_okL [rd_R k]) : rd_okL [rd_R 0] := rd_okc (x := rd_R 0) trivial rd_okn
theorem lp_oo2 {k z : Int} (h : rd_okL [rd_R k, rd_I z]) : rd_okL [rd_R 0, rd_I z] := rd_okc (x := rd_R 0) trivial (rd_okt h)
theorem lp_oo3 {k z z2 : Int} (h : rd_okL [rd_R k, rd_I z, rd_I z2]) : rd_okL [rd_R 0, rd_I z, rd_I z2] := rd_okc (x := rd_R 0) trivial (rd_okt h)
theorem lp_end (C : rd_Cx p s m #[Value.ref b] meth c cL_law 11 RL ret G) {L : List rd_X} {μ : rd_Mem} (h1 : cs ≤ 600000) (h2 : sl ≤ 7302250) : lp_K p l e s m below meth c G b cs sl μ 236 L [rd_I 1] := by
  intro hL hS H locs ls hl hI
  have e1 : (([rd_I 1] : List rd_X).map (rd_val 0)) = [Value.int 1] := by
    show [Value.int (rd_i 1)] = [Value.int 1]
    rw [show rd_i 1 = 1 by decide]
  rw [e1]
  refine va_forget (fun q hq => hI.2.2.2 q hq) ?_
  refine W.widen h1 h2 ?_
  exact W.base (lw_ret (Drawn.sameBut.refl s.drawn lw_cs) C.1.1 C.1.2.1 C.2.1 C.2.2.1 dL_law_236)
set_option maxHeartbeats 4000000 in
set_option maxRecDepth 100000 in
theorem lp_mid (C : rd_Cx p s m #[Value.ref b] meth c cL_law 11 RL ret G) (h1 : cs ≤ 600000) (h2 : sl ≤ 7302250) {μ π : rd_Mem} {lh : List rd_Mem} {tn x y k : Int} (hS : pg_S μ π lh) (hM : rd_okM μ) (hE : px_E k π) (hk : 0 ≤ k ∧ k < 700000) (ht : 0 ≤ tn ∧ tn < 64) (next : ∀ (μ' : rd_Mem) (l' : List rd_Mem), pg_S μ' π l' → rd_okM μ' → lp_K p l e s m below meth c G b cs sl μ' 32 [rd_R (b : Int), rd_R (s.heap.size : Int), rd_I 1, rd_I (tn + 1), rd_J, rd_J, rd_J, rd_J, rd_J, rd_J, rd_J] []) : lp_K p l e s m below meth c G b cs sl μ 176 [rd_R (b : Int), rd_R (s.heap.size : Int), rd_I 1, rd_I tn, rd_I x, rd_I y, rd_J, rd_J, rd_J, rd_J, rd_J] [] := by
  have hcr : cs + 0 ≤ room_1.cells ∧ sl + 0 ≤ room_1.slots := ⟨h1, h2⟩
  refine rx_iload_n C dL_law_176 rfl ?_
  refine rx_if_eq C dL_law_177 (tgt := 227) (by decide) (fun h => absurd h (by decide)) (fun _ => ?_)
  refine rx_aload_n C dL_law_180 rfl ?_
  refine lp_callS C (c_L_holds hS hE (by omega)) hM rm_L_129 rt_L_holds rc_L_holds rz_L ⟨rp_L_holds, rfl, rfl, by decide, by decide⟩ rfl dL_law_181 (as0 := [rd_R (s.heap.size : Int)]) rfl (lp_o1 _) (lp_oo1) (Nat.le_of_ble_eq_true rfl) hcr (fun v μ' h => ⟨_, h.1, rfl⟩) (fun x1 w1 hq hM1 => ?_)
  obtain ⟨hx1, hS1⟩ := hq; injection hx1 with hx1; subst hx1
  refine rx_if_eq C dL_law_184 (tgt := 227) (by decide) (fun h => absurd h (by decide)) (fun _ => ?_)
  refine rx_iload_n C dL_law_187 rfl ?_
  refine rx_iconst C dL_law_188 (n := 3) ⟨by decide, by decide⟩ ?_
  refine rx_irem C dL_law_189 (pu_z (n := 3) (by omega) ⟨by omega, by omega⟩) (z := tn % 3) (pu_rem (a := tn) (b := 3) (by omega) ⟨by omega, by omega⟩ (by omega) ⟨by omega, by omega⟩) ⟨by omega, by omega⟩ ?_
  refine rx_iconst C dL_law_190 (n := 1) ⟨by decide, by decide⟩ ?_
  refine rx_icmp_ne C dL_law_191 (tgt := 209) (by decide) (fun h_191 => ?_) (fun h_191 => ?_)
  · refine rx_iload_n C dL_law_209 rfl ?_
    refine rx_iconst C dL_law_210 (n := 4) ⟨by decide, by decide⟩ ?_
    refine rx_irem C dL_law_211 (pu_z (n := 4) (by omega) ⟨by omega, by omega⟩) (z := tn % 4) (pu_rem (a := tn) (b := 4) (by omega) ⟨by omega, by omega⟩ (by omega) ⟨by omega, by omega⟩) ⟨by omega, by omega⟩ ?_
    refine rx_iconst C dL_law_212 (n := 2) ⟨by decide, by decide⟩ ?_
    refine rx_icmp_ne C dL_law_213 (tgt := 223) (by decide) (fun h_213 => ?_) (fun h_213 => ?_)
    · refine rx_iconst C dL_law_223 (n := 1) ⟨by decide, by decide⟩ ?_
      refine rx_goto C dL_law_224 (tgt := 228) (by decide) ?_
      refine rx_istore_n C dL_law_228 (by decide) (L' := [rd_R (b : Int), rd_R (s.heap.size : Int), rd_I 1, rd_I tn, rd_I x, rd_I y, rd_J, rd_J, rd_J, rd_J, rd_J]) rfl ?_
      refine rx_iinc C dL_law_229 (by decide) rfl ⟨by omega, by omega⟩ (L' := [rd_R (b : Int), rd_R (s.heap.size : Int), rd_I 1, rd_I (tn + 1), rd_I x, rd_I y, rd_J, rd_J, rd_J, rd_J, rd_J]) rfl ?_
      refine rx_goto C dL_law_232 (tgt := 32) (by decide) ?_
      refine rx_drop 4 (L' := [rd_R (b : Int), rd_R (s.heap.size : Int), rd_I 1, rd_I (tn + 1), rd_J, rd_I y, rd_J, rd_J, rd_J, rd_J, rd_J]) rfl ?_
      refine rx_drop 5 (L' := [rd_R (b : Int), rd_R (s.heap.size : Int), rd_I 1, rd_I (tn + 1), rd_J, rd_J, rd_J, rd_J, rd_J, rd_J, rd_J]) rfl ?_
      exact next _ _ hS1 hM1
    · refine rx_aload_n C dL_law_216 rfl ?_
      refine lp_callS C (c_L_isWaited hS1 hE (by omega) (by omega)) hM1 rm_L_149 rt_L_isWaited rc_L_isWaited rz_L ⟨rp_L_isWaited, rfl, rfl, by decide, by decide⟩ rfl dL_law_217 (as0 := [rd_R (s.heap.size : Int)]) rfl (lp_o1 _) (lp_oo1) (Nat.le_of_ble_eq_true rfl) hcr (fun v μ' h => ⟨_, h.1, rfl⟩) (fun x2 w2 hq hM2 => ?_)
      obtain ⟨hx2, lh2, hS2⟩ := hq; injection hx2 with hx2; subst hx2
      refine rx_if_eq C dL_law_220 (tgt := 227) (by decide) (fun h => absurd h (by decide)) (fun _ => ?_)
      refine rx_iconst C dL_law_223 (n := 1) ⟨by decide, by decide⟩ ?_
      refine rx_goto C dL_law_224 (tgt := 228) (by decide) ?_
      refine rx_istore_n C dL_law_228 (by decide) (L' := [rd_R (b : Int), rd_R (s.heap.size : Int), rd_I 1, rd_I tn, rd_I x, rd_I y, rd_J, rd_J, rd_J, rd_J, rd_J]) rfl ?_
      refine rx_iinc C dL_law_229 (by decide) rfl ⟨by omega, by omega⟩ (L' := [rd_R (b : Int), rd_R (s.heap.size : Int), rd_I 1, rd_I (tn + 1), rd_I x, rd_I y, rd_J, rd_J, rd_J, rd_J, rd_J]) rfl ?_
      refine rx_goto C dL_law_232 (tgt := 32) (by decide) ?_
      refine rx_drop 4 (L' := [rd_R (b : Int), rd_R (s.heap.size : Int), rd_I 1, rd_I (tn + 1), rd_J, rd_I y, rd_J, rd_J, rd_J, rd_J, rd_J]) rfl ?_
      refine rx_drop 5 (L' := [rd_R (b : Int), rd_R (s.heap.size : Int), rd_I 1, rd_I (tn + 1), rd_J, rd_J, rd_J, rd_J, rd_J, rd_J, rd_J]) rfl ?_
      exact next _ _ hS2 hM2
  · refine rx_aload_n C dL_law_194 rfl ?_
    refine rx_iload C dL_law_195 rfl ?_
    refine rx_iconst C dL_law_197 (n := 5) ⟨by decide, by decide⟩ ?_
    refine rx_ishr C dL_law_198 (z := pu_s y 5) (pu_t _) (pu_to _) ?_
    refine rx_iconst C dL_law_199 (n := 4) ⟨by decide, by decide⟩ ?_
    refine lp_callS C (c_L_up (by omega)) hM1 rm_L_49 rt_L_up rc_L_up rz_L ⟨rp_L_up, rfl, rfl, by decide, by decide⟩ rfl dL_law_200 (as0 := [rd_I (pu_s y 5), rd_I 4]) rfl rfl id (Nat.le_of_ble_eq_true rfl) hcr (fun v μ' h => ⟨_, h.1, rfl⟩) (fun x3 w3 hq hM3 => ?_)
    obtain ⟨hx3, hm3⟩ := hq; injection hx3 with hx3; subst hx3; subst hm3
    have hup := pu_r (pu_s y 5) (n := 4) (by omega)
    refine lp_callS C (c_L_isMoved hS1 ⟨hup.1, by omega⟩) hM1 rm_L_145 rt_L_isMoved rc_L_isMoved rz_L ⟨rp_L_isMoved, rfl, rfl, by decide, by decide⟩ rfl dL_law_203 (as0 := [rd_R (s.heap.size : Int), rd_I (pu (pu_s y 5) 4)]) rfl (lp_o2 _ _) (lp_oo2) (Nat.le_of_ble_eq_true rfl) hcr (fun v μ' h => ⟨_, h.1, rfl⟩) (fun x4 w4 hq hM4 => ?_)
    obtain ⟨hx4, lh4, hS4⟩ := hq; injection hx4 with hx4; subst hx4
    refine rx_if_eq C dL_law_206 (tgt := 227) (by decide) (fun h => absurd h (by decide)) (fun _ => ?_)
    refine rx_iload_n C dL_law_209 rfl ?_
    refine rx_iconst C dL_law_210 (n := 4) ⟨by decide, by decide⟩ ?_
    refine rx_irem C dL_law_211 (pu_z (n := 4) (by omega) ⟨by omega, by omega⟩) (z := tn % 4) (pu_rem (a := tn) (b := 4) (by omega) ⟨by omega, by omega⟩ (by omega) ⟨by omega, by omega⟩) ⟨by omega, by omega⟩ ?_
    refine rx_iconst C dL_law_212 (n := 2) ⟨by decide, by decide⟩ ?_
    refine rx_icmp_ne C dL_law_213 (tgt := 223) (by decide) (fun h_213 => ?_) (fun h_213 => ?_)
    · refine rx_iconst C dL_law_223 (n := 1) ⟨by decide, by decide⟩ ?_
      refine rx_goto C dL_law_224 (tgt := 228) (by decide) ?_
      refine rx_istore_n C dL_law_228 (by decide) (L' := [rd_R (b : Int), rd_R (s.heap.size : Int), rd_I 1, rd_I tn, rd_I x, rd_I y, rd_J, rd_J, rd_J, rd_J, rd_J]) rfl ?_
      refine rx_iinc C dL_law_229 (by decide) rfl ⟨by omega, by omega⟩ (L' := [rd_R (b : Int), rd_R (s.heap.size : Int), rd_I 1, rd_I (tn + 1), rd_I x, rd_I y, rd_J, rd_J, rd_J, rd_J, rd_J]) rfl ?_
      refine rx_goto C dL_law_232 (tgt := 32) (by decide) ?_
      refine rx_drop 4 (L' := [rd_R (b : Int), rd_R (s.heap.size : Int), rd_I 1, rd_I (tn + 1), rd_J, rd_I y, rd_J, rd_J, rd_J, rd_J, rd_J]) rfl ?_
      refine rx_drop 5 (L' := [rd_R (b : Int), rd_R (s.heap.size : Int), rd_I 1, rd_I (tn + 1), rd_J, rd_J, rd_J, rd_J, rd_J, rd_J, rd_J]) rfl ?_
      exact next _ _ hS4 hM4
    · refine rx_aload_n C dL_law_216 rfl ?_
      refine lp_callS C (c_L_isWaited hS4 hE (by omega) (by omega)) hM4 rm_L_149 rt_L_isWaited rc_L_isWaited rz_L ⟨rp_L_isWaited, rfl, rfl, by decide, by decide⟩ rfl dL_law_217 (as0 := [rd_R (s.heap.size : Int)]) rfl (lp_o1 _) (lp_oo1) (Nat.le_of_ble_eq_true rfl) hcr (fun v μ' h => ⟨_, h.1, rfl⟩) (fun x5 w5 hq hM5 => ?_)
      obtain ⟨hx5, lh5, hS5⟩ := hq; injection hx5 with hx5; subst hx5
      refine rx_if_eq C dL_law_220 (tgt := 227) (by decide) (fun h => absurd h (by decide)) (fun _ => ?_)
      refine rx_iconst C dL_law_223 (n := 1) ⟨by decide, by decide⟩ ?_
      refine rx_goto C dL_law_224 (tgt := 228) (by decide) ?_
      refine rx_istore_n C dL_law_228 (by decide) (L' := [rd_R (b : Int), rd_R (s.heap.size : Int), rd_I 1, rd_I tn, rd_I x, rd_I y, rd_J, rd_J, rd_J, rd_J, rd_J]) rfl ?_
      refine rx_iinc C dL_law_229 (by decide) rfl ⟨by omega, by omega⟩ (L' := [rd_R (b : Int), rd_R (s.heap.size : Int), rd_I 1, rd_I (tn + 1), rd_I x, rd_I y, rd_J, rd_J, rd_J, rd_J, rd_J]) rfl ?_
      refine rx_goto C dL_law_232 (tgt := 32) (by decide) ?_
      refine rx_drop 4 (L' := [rd_R (b : Int), rd_R (s.heap.size : Int), rd_I 1, rd_I (tn + 1), rd_J, rd_I y, rd_J, rd_J, rd_J, rd_J, rd_J]) rfl ?_
      refine rx_drop 5 (L' := [rd_R (b : Int), rd_R (s.heap.size : Int), rd_I 1, rd_I (tn + 1), rd_J, rd_J, rd_J, rd_J, rd_J, rd_J, rd_J]) rfl ?_
      exact next _ _ hS5 hM5
set_option maxHeartbeats 4000000 in
set_option maxRecDepth 100000 in
theorem lp_loop (C : rd_Cx p s m #[Value.ref b] meth c cL_law 11 RL ret G) (h1 : cs ≤ 600000) (h2 : sl ≤ 7302250) (hX : va_X b L0 xs s s.heap) (hbl : b < s.heap.size) (hL0 : L0 ≤ 260) : ∀ (n : Nat) (tn : Int) (μ π : rd_Mem) (lh : List rd_Mem), 0 ≤ tn → tn ≤ 64 → 64 < tn + n → pg_S μ π lh → rd_okM μ → px_E (100 * tn) π → lp_K p l e s m below meth c G b cs sl μ 32 [rd_R (b : Int), rd_R (s.heap.size : Int), rd_I 1, rd_I tn, rd_J, rd_J, rd_J, rd_J, rd_J, rd_J, rd_J] [] := by
  have hcr : cs + 0 ≤ room_1.cells ∧ sl + 0 ≤ room_1.slots := ⟨h1, h2⟩
  intro n
  induction n with
  | zero => intro tn μ π lh t0 t1 t2; exfalso; omega
  | succ n ih =>
    intro tn μ π lh t0 t1 t2 hS hM hE
    refine rx_iload_n C dL_law_32 rfl ?_
    refine rx_bipush C dL_law_33 (n := 64) (by decide) ⟨by decide, by decide⟩ ?_
    refine rx_icmp_ge C dL_law_35 (tgt := 235) (by decide) (fun h_35 => ?_) (fun h_35 => ?_)
    · refine rx_iload_n C dL_law_235 rfl ?_
      exact lp_end C h1 h2
    · refine rx_iload_n C dL_law_38 rfl ?_
      refine rx_if_eq C dL_law_39 (tgt := 235) (by decide) (fun h => absurd h (by decide)) (fun _ => ?_)
      refine rx_aload_n C dL_law_42 rfl ?_
      refine rx_iconst C dL_law_43 (n := 2) ⟨by decide, by decide⟩ ?_
      refine rx_iload_n C dL_law_44 rfl ?_
      refine rx_imul C dL_law_45 (z := 2 * tn) rfl ⟨by omega, by omega⟩ ?_
      refine lp_cell C hX hbl hL0 rfl (k := 2 * tn) ⟨by omega, by omega⟩ rm_L_133 ⟨Nat.le_of_ble_eq_true rfl, Nat.le_of_ble_eq_true rfl⟩ dL_law_46 (Nat.le_of_ble_eq_true rfl) hcr (fun x hx => ?_)
      refine rx_istore C dL_law_49 (by decide) (L' := [rd_R (b : Int), rd_R (s.heap.size : Int), rd_I 1, rd_I tn, rd_I x, rd_J, rd_J, rd_J, rd_J, rd_J, rd_J]) rfl ?_
      refine rx_aload_n C dL_law_51 rfl ?_
      refine rx_iconst C dL_law_52 (n := 2) ⟨by decide, by decide⟩ ?_
      refine rx_iload_n C dL_law_53 rfl ?_
      refine rx_imul C dL_law_54 (z := 2 * tn) rfl ⟨by omega, by omega⟩ ?_
      refine rx_iconst C dL_law_55 (n := 1) ⟨by decide, by decide⟩ ?_
      refine rx_iadd C dL_law_56 (z := 2 * tn + 1) rfl ⟨by omega, by omega⟩ ?_
      refine lp_cell C hX hbl hL0 rfl (k := 2 * tn + 1) ⟨by omega, by omega⟩ rm_L_133 ⟨Nat.le_of_ble_eq_true rfl, Nat.le_of_ble_eq_true rfl⟩ dL_law_57 (Nat.le_of_ble_eq_true rfl) hcr (fun y hy => ?_)
      refine rx_istore C dL_law_60 (by decide) (L' := [rd_R (b : Int), rd_R (s.heap.size : Int), rd_I 1, rd_I tn, rd_I x, rd_I y, rd_J, rd_J, rd_J, rd_J, rd_J]) rfl ?_
      refine rx_aload_n C dL_law_62 rfl ?_
      refine lp_callS C (c_L_looks hS) hM rm_L_121 rt_L_looks rc_L_looks rz_L ⟨rp_L_looks, rfl, rfl, by decide, by decide⟩ rfl dL_law_63 (as0 := [rd_R (s.heap.size : Int)]) rfl (lp_o1 _) (lp_oo1) (Nat.le_of_ble_eq_true rfl) hcr (fun v μ' h => ⟨_, h.1, rfl⟩) (fun x6 w6 hq hM6 => ?_)
      obtain ⟨hx6, hm6⟩ := hq; injection hx6 with hx6; subst hx6; subst hm6
      refine rx_lstore C dL_law_66 (by decide) (L' := [rd_R (b : Int), rd_R (s.heap.size : Int), rd_I 1, rd_I tn, rd_I x, rd_I y, rd_Z (pl π), rd_J, rd_J, rd_J, rd_J]) rfl ?_
      have hpx := px_act hS.1 hE (by omega) (by omega) x y
      by_cases hg : 0 ≤ (pf_act π x y).1
      · refine rx_aload_n C dL_law_68 rfl ?_
        refine rx_iload C dL_law_69 rfl ?_
        refine rx_iload C dL_law_71 rfl ?_
        refine lp_callS C (c_L_act hS) hM rm_L_137 rt_L_act rc_L_act rz_L ⟨rp_L_act, rfl, rfl, by decide, by decide⟩ rfl dL_law_73 (as0 := [rd_R (s.heap.size : Int), rd_I x, rd_I y]) rfl (lp_o3 _ _ _) (lp_oo3) (Nat.le_of_ble_eq_true rfl) hcr (fun v μ' h => ⟨_, h.1, rfl⟩) (fun x7 w7 hq hM7 => ?_)
        obtain ⟨hx7, hm7⟩ := hq; injection hx7 with hx7; subst hx7
        have hS7 := pg_T_ok hm7 hg
        refine rx_istore C dL_law_76 (by decide) (L' := [rd_R (b : Int), rd_R (s.heap.size : Int), rd_I 1, rd_I tn, rd_I x, rd_I y, rd_Z (pl π), rd_J, rd_I ((pf_act π x y).1), rd_J, rd_J]) rfl ?_
        refine rx_iload C dL_law_78 rfl ?_
        refine lp_callS C c_L_isError hM7 rm_L_141 rt_L_isError rc_L_isError rz_L ⟨rp_L_isError, rfl, rfl, by decide, by decide⟩ rfl dL_law_80 (as0 := [rd_I ((pf_act π x y).1)]) rfl rfl id (Nat.le_of_ble_eq_true rfl) hcr (fun v μ' h => by rcases h with ⟨_, h, _⟩ | ⟨_, h, _⟩ <;> exact ⟨_, h, rfl⟩) (fun x8 w8 hq hM8 => ?_)
        rcases hq with ⟨hc8, hx8, hm8⟩ | ⟨hc8, hx8, hm8⟩
        · exfalso; omega
        injection hx8 with hx8; subst hx8; subst hm8
        refine rx_if_eq C dL_law_83 (tgt := 96) (by decide) (fun _ => ?_) (fun h => absurd h (by decide))
        refine rx_iconst C dL_law_96 (n := 1) ⟨by decide, by decide⟩ ?_
        refine rx_goto C dL_law_97 (tgt := 101) (by decide) ?_
        refine rx_istore_n C dL_law_101 (by decide) (L' := [rd_R (b : Int), rd_R (s.heap.size : Int), rd_I 1, rd_I tn, rd_I x, rd_I y, rd_Z (pl π), rd_J, rd_I ((pf_act π x y).1), rd_J, rd_J]) rfl ?_
        refine rx_iload_n C dL_law_102 rfl ?_
        refine rx_if_eq C dL_law_103 (tgt := 176) (by decide) (fun h => absurd h (by decide)) (fun _ => ?_)
        refine rx_iload C dL_law_106 rfl ?_
        refine lp_callS C c_L_isError hM7 rm_L_141 rt_L_isError rc_L_isError rz_L ⟨rp_L_isError, rfl, rfl, by decide, by decide⟩ rfl dL_law_108 (as0 := [rd_I ((pf_act π x y).1)]) rfl rfl id (Nat.le_of_ble_eq_true rfl) hcr (fun v μ' h => by rcases h with ⟨_, h, _⟩ | ⟨_, h, _⟩ <;> exact ⟨_, h, rfl⟩) (fun x9 w9 hq hM9 => ?_)
        rcases hq with ⟨hc9, hx9, hm9⟩ | ⟨hc9, hx9, hm9⟩
        · exfalso; omega
        injection hx9 with hx9; subst hx9; subst hm9
        refine rx_if_ne C dL_law_111 (tgt := 176) (by decide) (fun h => absurd h (by decide)) (fun _ => ?_)
        refine rx_iload C dL_law_114 rfl ?_
        refine rx_bipush C dL_law_116 (n := 8) (by decide) ⟨by decide, by decide⟩ ?_
        refine rx_ishr C dL_law_118 (z := pu_s x 8) (pu_t _) (pu_to _) ?_
        refine rx_iconst C dL_law_119 (n := 3) ⟨by decide, by decide⟩ ?_
        refine rx_iand C dL_law_120 (z := pu_n (pu_s x 8) 3) (pu_t _) (pu_to _) ?_
        refine rx_if_ne C dL_law_121 (tgt := 176) (by decide) (fun h_121 => ?_) (fun h_121 => ?_)
        · refine rx_drop 6 (L' := [rd_R (b : Int), rd_R (s.heap.size : Int), rd_I 1, rd_I tn, rd_I x, rd_I y, rd_J, rd_J, rd_I ((pf_act π x y).1), rd_J, rd_J]) rfl ?_
          refine rx_drop 8 (L' := [rd_R (b : Int), rd_R (s.heap.size : Int), rd_I 1, rd_I tn, rd_I x, rd_I y, rd_J, rd_J, rd_J, rd_J, rd_J]) rfl ?_
          exact lp_mid C h1 h2 hS7 hM7 hpx.1 ⟨by omega, by omega⟩ ⟨by omega, by omega⟩ (fun μ' l' hS' hM' => ih (tn + 1) μ' _ l' (by omega) (by omega) (by omega) hS' hM' (px_mono hpx.1 (by omega)))
        · refine rx_aload_n C dL_law_124 rfl ?_
          refine lp_callS C (c_L_looks hS7) hM7 rm_L_121 rt_L_looks rc_L_looks rz_L ⟨rp_L_looks, rfl, rfl, by decide, by decide⟩ rfl dL_law_125 (as0 := [rd_R (s.heap.size : Int)]) rfl (lp_o1 _) (lp_oo1) (Nat.le_of_ble_eq_true rfl) hcr (fun v μ' h => ⟨_, h.1, rfl⟩) (fun x10 w10 hq hM10 => ?_)
          obtain ⟨hx10, hm10⟩ := hq; injection hx10 with hx10; subst hx10; subst hm10
          refine rx_lstore C dL_law_128 (by decide) (L' := [rd_R (b : Int), rd_R (s.heap.size : Int), rd_I 1, rd_I tn, rd_I x, rd_I y, rd_Z (pl π), rd_J, rd_I ((pf_act π x y).1), rd_Z (pl ((pf_act π x y).2)), rd_J]) rfl ?_
          refine rx_aload_n C dL_law_130 rfl ?_
          refine lp_callV C (kq_undo_z hS7) hM7 rm_L_125 ri_X9_undo rs_X9_undo rc_X9_undo rz_X9 ⟨rp_X9_undo, rfl, rfl, by decide, by decide⟩ rd_kcl9 dL_law_131 rfl (Nat.le_of_ble_eq_true rfl) hcr (fun v μ' h => by obtain ⟨z, _, hz, _⟩ := h; exact ⟨_, hz, rfl⟩) (fun x11 w11 hq hM11 => ?_)
          obtain ⟨z11, hz11, hx11, hS11⟩ := hq; injection hx11 with hx11; subst hx11
          refine rx_if_lt C dL_law_134 (tgt := 174) (by decide) (fun h_134 => ?_) (fun h_134 => ?_)
          · exfalso; omega
          · refine rx_aload_n C dL_law_137 rfl ?_
            refine lp_callS C (c_L_looks hS11) hM11 rm_L_121 rt_L_looks rc_L_looks rz_L ⟨rp_L_looks, rfl, rfl, by decide, by decide⟩ rfl dL_law_138 (as0 := [rd_R (s.heap.size : Int)]) rfl (lp_o1 _) (lp_oo1) (Nat.le_of_ble_eq_true rfl) hcr (fun v μ' h => ⟨_, h.1, rfl⟩) (fun x12 w12 hq hM12 => ?_)
            obtain ⟨hx12, hm12⟩ := hq; injection hx12 with hx12; subst hx12; subst hm12
            refine rx_lload C dL_law_141 rfl ?_
            refine rx_lcmp C dL_law_143 ?_
            refine rx_if_ne C dL_law_144 (tgt := 174) (by decide) (fun h => absurd h (by decide)) (fun _ => ?_)
            refine rx_aload_n C dL_law_147 rfl ?_
            refine rx_iload C dL_law_148 rfl ?_
            refine rx_iload C dL_law_150 rfl ?_
            refine lp_callS C (c_L_act hS11) hM11 rm_L_137 rt_L_act rc_L_act rz_L ⟨rp_L_act, rfl, rfl, by decide, by decide⟩ rfl dL_law_152 (as0 := [rd_R (s.heap.size : Int), rd_I x, rd_I y]) rfl (lp_o3 _ _ _) (lp_oo3) (Nat.le_of_ble_eq_true rfl) hcr (fun v μ' h => ⟨_, h.1, rfl⟩) (fun x13 w13 hq hM13 => ?_)
            obtain ⟨hx13, hm13⟩ := hq; injection hx13 with hx13; subst hx13
            have hS13 := pg_T_ok hm13 hg
            refine rx_iload C dL_law_155 rfl ?_
            refine rx_icmp_ne C dL_law_157 (tgt := 174) (by decide) (fun h => by exfalso; omega) (fun _ => ?_)
            refine rx_aload_n C dL_law_160 rfl ?_
            refine lp_callS C (c_L_looks hS13) hM13 rm_L_121 rt_L_looks rc_L_looks rz_L ⟨rp_L_looks, rfl, rfl, by decide, by decide⟩ rfl dL_law_161 (as0 := [rd_R (s.heap.size : Int)]) rfl (lp_o1 _) (lp_oo1) (Nat.le_of_ble_eq_true rfl) hcr (fun v μ' h => ⟨_, h.1, rfl⟩) (fun x14 w14 hq hM14 => ?_)
            obtain ⟨hx14, hm14⟩ := hq; injection hx14 with hx14; subst hx14; subst hm14
            refine rx_lload C dL_law_164 rfl ?_
            refine rx_lcmp C dL_law_166 ?_
            refine rx_if_ne C dL_law_167 (tgt := 174) (by decide) (fun h => absurd h (by decide)) (fun _ => ?_)
            refine rx_iconst C dL_law_170 (n := 1) ⟨by decide, by decide⟩ ?_
            refine rx_goto C dL_law_171 (tgt := 175) (by decide) ?_
            refine rx_istore_n C dL_law_175 (by decide) (L' := [rd_R (b : Int), rd_R (s.heap.size : Int), rd_I 1, rd_I tn, rd_I x, rd_I y, rd_Z (pl π), rd_J, rd_I ((pf_act π x y).1), rd_Z (pl ((pf_act π x y).2)), rd_J]) rfl ?_
            refine rx_drop 6 (L' := [rd_R (b : Int), rd_R (s.heap.size : Int), rd_I 1, rd_I tn, rd_I x, rd_I y, rd_J, rd_J, rd_I ((pf_act π x y).1), rd_Z (pl ((pf_act π x y).2)), rd_J]) rfl ?_
            refine rx_drop 8 (L' := [rd_R (b : Int), rd_R (s.heap.size : Int), rd_I 1, rd_I tn, rd_I x, rd_I y, rd_J, rd_J, rd_J, rd_Z (pl ((pf_act π x y).2)), rd_J]) rfl ?_
            refine rx_drop 9 (L' := [rd_R (b : Int), rd_R (s.heap.size : Int), rd_I 1, rd_I tn, rd_I x, rd_I y, rd_J, rd_J, rd_J, rd_J, rd_J]) rfl ?_
            exact lp_mid C h1 h2 hS13 hM13 hpx.1 ⟨by omega, by omega⟩ ⟨by omega, by omega⟩ (fun μ' l' hS' hM' => ih (tn + 1) μ' _ l' (by omega) (by omega) (by omega) hS' hM' (px_mono hpx.1 (by omega)))
      · have hgn := hpx.2.resolve_left hg
        refine rx_aload_n C dL_law_68 rfl ?_
        refine rx_iload C dL_law_69 rfl ?_
        refine rx_iload C dL_law_71 rfl ?_
        refine lp_callS C (c_L_act hS) hM rm_L_137 rt_L_act rc_L_act rz_L ⟨rp_L_act, rfl, rfl, by decide, by decide⟩ rfl dL_law_73 (as0 := [rd_R (s.heap.size : Int), rd_I x, rd_I y]) rfl (lp_o3 _ _ _) (lp_oo3) (Nat.le_of_ble_eq_true rfl) hcr (fun v μ' h => ⟨_, h.1, rfl⟩) (fun x15 w15 hq hM15 => ?_)
        obtain ⟨hx15, hm15⟩ := hq; injection hx15 with hx15; subst hx15
        rw [hgn.2.2] at hm15
        obtain ⟨lh15, hS15⟩ := pg_T_no hS hm15
        refine rx_istore C dL_law_76 (by decide) (L' := [rd_R (b : Int), rd_R (s.heap.size : Int), rd_I 1, rd_I tn, rd_I x, rd_I y, rd_Z (pl π), rd_J, rd_I ((pf_act π x y).1), rd_J, rd_J]) rfl ?_
        refine rx_iload C dL_law_78 rfl ?_
        refine lp_callS C c_L_isError hM15 rm_L_141 rt_L_isError rc_L_isError rz_L ⟨rp_L_isError, rfl, rfl, by decide, by decide⟩ rfl dL_law_80 (as0 := [rd_I ((pf_act π x y).1)]) rfl rfl id (Nat.le_of_ble_eq_true rfl) hcr (fun v μ' h => by rcases h with ⟨_, h, _⟩ | ⟨_, h, _⟩ <;> exact ⟨_, h, rfl⟩) (fun x16 w16 hq hM16 => ?_)
        rcases hq with ⟨hc16, hx16, hm16⟩ | ⟨hc16, hx16, hm16⟩
        rotate_left
        · exfalso; have := hgn.1; have := hgn.2.1; omega
        injection hx16 with hx16; subst hx16; subst hm16
        refine rx_if_eq C dL_law_83 (tgt := 96) (by decide) (fun h => absurd h (by decide)) (fun _ => ?_)
        refine rx_aload_n C dL_law_86 rfl ?_
        refine lp_callS C (c_L_looks hS15) hM15 rm_L_121 rt_L_looks rc_L_looks rz_L ⟨rp_L_looks, rfl, rfl, by decide, by decide⟩ rfl dL_law_87 (as0 := [rd_R (s.heap.size : Int)]) rfl (lp_o1 _) (lp_oo1) (Nat.le_of_ble_eq_true rfl) hcr (fun v μ' h => ⟨_, h.1, rfl⟩) (fun x17 w17 hq hM17 => ?_)
        obtain ⟨hx17, hm17⟩ := hq; injection hx17 with hx17; subst hx17; subst hm17
        refine rx_lload C dL_law_90 rfl ?_
        refine rx_lcmp C dL_law_92 ?_
        refine rx_if_ne C dL_law_93 (tgt := 100) (by decide) (fun h => absurd h (by decide)) (fun _ => ?_)
        refine rx_iconst C dL_law_96 (n := 1) ⟨by decide, by decide⟩ ?_
        refine rx_goto C dL_law_97 (tgt := 101) (by decide) ?_
        refine rx_istore_n C dL_law_101 (by decide) (L' := [rd_R (b : Int), rd_R (s.heap.size : Int), rd_I 1, rd_I tn, rd_I x, rd_I y, rd_Z (pl π), rd_J, rd_I ((pf_act π x y).1), rd_J, rd_J]) rfl ?_
        refine rx_iload_n C dL_law_102 rfl ?_
        refine rx_if_eq C dL_law_103 (tgt := 176) (by decide) (fun h => absurd h (by decide)) (fun _ => ?_)
        refine rx_iload C dL_law_106 rfl ?_
        refine lp_callS C c_L_isError hM15 rm_L_141 rt_L_isError rc_L_isError rz_L ⟨rp_L_isError, rfl, rfl, by decide, by decide⟩ rfl dL_law_108 (as0 := [rd_I ((pf_act π x y).1)]) rfl rfl id (Nat.le_of_ble_eq_true rfl) hcr (fun v μ' h => by rcases h with ⟨_, h, _⟩ | ⟨_, h, _⟩ <;> exact ⟨_, h, rfl⟩) (fun x18 w18 hq hM18 => ?_)
        rcases hq with ⟨hc18, hx18, hm18⟩ | ⟨hc18, hx18, hm18⟩
        rotate_left
        · exfalso; have := hgn.1; have := hgn.2.1; omega
        injection hx18 with hx18; subst hx18; subst hm18
        refine rx_if_ne C dL_law_111 (tgt := 176) (by decide) (fun _ => ?_) (fun h => absurd h (by decide))
        refine rx_drop 6 (L' := [rd_R (b : Int), rd_R (s.heap.size : Int), rd_I 1, rd_I tn, rd_I x, rd_I y, rd_J, rd_J, rd_I ((pf_act π x y).1), rd_J, rd_J]) rfl ?_
        refine rx_drop 8 (L' := [rd_R (b : Int), rd_R (s.heap.size : Int), rd_I 1, rd_I tn, rd_I x, rd_I y, rd_J, rd_J, rd_J, rd_J, rd_J]) rfl ?_
        have hS0 := pg_Seq hgn.2.2 hS15
        exact lp_mid C h1 h2 hS0 hM15 hpx.1 ⟨by omega, by omega⟩ ⟨by omega, by omega⟩ (fun μ' l' hS' hM' => ih (tn + 1) μ' _ l' (by omega) (by omega) (by omega) hS' hM' (px_mono hpx.1 (by omega)))
end LPB
