/-! the law's leaves -/
def pu_n (a b : Int) : Int := (rd_i a &&& rd_i b).toInt
def pu_s (a b : Int) : Int := (rd_i a >>> (rd_i b &&& 31)).toInt
def pu (v n : Int) : Int := pu_n v 2147483647 % n
theorem pu_t (x : Int32) : x = rd_i x.toInt := (Int32.ofInt_toInt x).symm
theorem pu_to (x : Int32) : rd_ok x.toInt := ⟨Int32.le_toInt x, Int32.toInt_lt x⟩
theorem pu_msb : (rd_i 2147483647).toBitVec.msb = false := by decide
theorem pu_0 (v : Int) : 0 ≤ pu_n v 2147483647 := by
  unfold pu_n
  show 0 ≤ (rd_i v &&& rd_i 2147483647).toBitVec.toInt
  apply BitVec.toInt_nonneg_of_msb_false
  rw [Int32.toBitVec_and, BitVec.msb_and, pu_msb, Bool.and_false]
theorem pu_r (v : Int) {n : Int} (h : 1 ≤ n) : 0 ≤ pu v n ∧ pu v n < n := ⟨Int.emod_nonneg _ (by omega), Int.emod_lt_of_pos _ (by omega)⟩
theorem pu_z {n : Int} (h : 1 ≤ n) (ho : rd_ok n) : ¬ rd_i n = 0 := by
  rw [← rd_z, rd_eq ho rd_ok0]; omega
theorem pu_rem {a b : Int} (a0 : 0 ≤ a) (ha : rd_ok a) (b1 : 1 ≤ b) (hb : rd_ok b) : rd_i a - rd_i a / rd_i b * rd_i b = rd_i (a % b) := by
  have e : rd_i a / rd_i b = rd_i (a / b) := by
    have h := Int32.ofInt_tdiv (a := a) (b := b) (by show (-2147483648 : Int) ≤ a; omega) (by show a ≤ (2147483647 : Int); have := ha.2; omega) (by show (-2147483648 : Int) ≤ b; omega) (by show b ≤ (2147483647 : Int); have := hb.2; omega)
    rw [Int.tdiv_eq_ediv_of_nonneg a0] at h
    exact h.symm
  have hm := Int.mul_ediv_add_emod a b
  have hc := Int.mul_comm b (a / b)
  rw [e, rd_mul, rd_sub, show a - a / b * b = a % b by omega]

set_option maxHeartbeats 4000000 in
set_option maxRecDepth 100000 in
theorem c_L_up {l : Launch} {G : rd_G} {r : Nat} {μ : rd_Mem} {a0 b0 : Int} (hb1 : 1 ≤ b0) : rd_M l G rd_kc 313 r yL_up cL_up 2 (some .int) (rd_rm 0 0) [rd_I a0, rd_I b0] μ (fun v μ' => v = some (rd_I (pu a0 b0)) ∧ μ' = μ) := by
  refine rd_enter (by decide +kernel) (Nat.le_of_ble_eq_true rfl) [rd_I a0, rd_I b0] rfl (fun p e s m args below meth c C => ?_)
  refine rd_W.rng (fun hM hL _ => ?_)
  have hbo : rd_ok b0 := rd_okh (rd_okt hL)
  refine rd_iload_n C dL_up_0 rfl ?_
  refine rd_ldc C rl_L_8 dL_up_1 (n := 2147483647) (by decide) ⟨by decide, by decide⟩ ?_
  refine rd_iand C dL_up_3 (z := pu_n a0 2147483647) (pu_t _) (pu_to _) ?_
  refine rd_iload_n C dL_up_4 rfl ?_
  refine rd_irem C dL_up_5 (pu_z hb1 hbo) (z := pu a0 b0) (pu_rem (pu_0 _) (pu_to _) hb1 hbo) ⟨by have := (pu_r a0 hb1).1; omega, by have := (pu_r a0 hb1).2; have := hbo.2; omega⟩ ?_
  exact rd_iret C dL_up_6 ⟨rfl, rfl⟩
set_option maxHeartbeats 4000000 in
set_option maxRecDepth 100000 in
theorem c_L_isError {l : Launch} {G : rd_G} {r : Nat} {μ : rd_Mem} {a0 : Int} : rd_M l G rd_kc 313 r yL_isError cL_isError 1 (some .boolean) (rd_rm 0 0) [rd_I a0] μ (fun v μ' => ((a0 < 0 ∧ -6 < a0) ∧ v = some (rd_I 1) ∧ μ' = μ) ∨ ((0 ≤ a0 ∨ a0 ≤ -6) ∧ v = some (rd_I 0) ∧ μ' = μ)) := by
  refine rd_enter (by decide +kernel) (Nat.le_of_ble_eq_true rfl) [rd_I a0] rfl (fun p e s m args below meth c C => ?_)
  refine rd_W.rng (fun hM hL _ => ?_)
  refine rd_iload_n C dL_isError_0 rfl ?_
  refine rd_if_ge C dL_isError_1 (tgt := 14) (by decide) (fun h_1 => ?_) (fun h_1 => ?_)
  · refine rd_iconst C dL_isError_14 (n := 0) ⟨by decide, by decide⟩ ?_
    exact rd_zret C dL_isError_15 (by omega) (by first | exact Or.inl ⟨by omega, rfl, rfl⟩ | exact Or.inr ⟨by omega, rfl, rfl⟩)
  · refine rd_iload_n C dL_isError_4 rfl ?_
    refine rd_bipush C dL_isError_5 (n := -6) (by decide) ⟨by decide, by decide⟩ ?_
    refine rd_icmp_le C dL_isError_7 (tgt := 14) (by decide) (fun h_7 => ?_) (fun h_7 => ?_)
    · refine rd_iconst C dL_isError_14 (n := 0) ⟨by decide, by decide⟩ ?_
      exact rd_zret C dL_isError_15 (by omega) (by first | exact Or.inl ⟨by omega, rfl, rfl⟩ | exact Or.inr ⟨by omega, rfl, rfl⟩)
    · refine rd_iconst C dL_isError_10 (n := 1) ⟨by decide, by decide⟩ ?_
      refine rd_goto C dL_isError_11 (tgt := 15) (by decide) ?_
      exact rd_zret C dL_isError_15 (by omega) (by first | exact Or.inl ⟨by omega, rfl, rfl⟩ | exact Or.inr ⟨by omega, rfl, rfl⟩)
noncomputable def pl_A (π : rd_Mem) : Nat → Int → Int64 → Int64
  | 0, _, x => x
  | n + 1, k, x => pl_A π n (k + 1) (31 * x + (rd_i (pv_now π k)).toInt64)
noncomputable def pl_B (π : rd_Mem) : Nat → Int → Int64 → Int64
  | 0, _, x => x
  | n + 1, k, x => pl_B π n (k + 1) (31 * (31 * (31 * x + (rd_i (pv_trail π k 0)).toInt64) + (rd_i (pv_trail π k 1)).toInt64) + (rd_i (pv_trail π k 2)).toInt64)
noncomputable def pl_W (π : rd_Mem) (k : Int) : Nat → Int → Int64 → Int64
  | 0, _, x => x
  | n + 1, w, x => pl_W π k n (w + 1) (31 * x + (rd_i (pv_slide π k w)).toInt64)
noncomputable def pl_P (π : rd_Mem) (k : Int) : Nat → Int → Int64 → Int64
  | 0, _, x => x
  | n + 1, t, x => pl_P π k n (t + 1) (31 * (31 * x + (rd_i (pv_picture π k t)).toInt64) + (rd_i (pv_target π k t)).toInt64)
noncomputable def pl_C (π : rd_Mem) : Nat → Int → Int64 → Int64
  | 0, _, x => x
  | n + 1, k, x => pl_C π n (k + 1) (pl_P π k 10 0 (pl_W π k 6 0 (31 * x + (rd_i (pv_slideAt π k)).toInt64)))
noncomputable def pl_E (π : rd_Mem) (x : Int64) : Int64 := 31 * x + (rd_i (pv_noteNow π)).toInt64
noncomputable def pl (π : rd_Mem) : Int64 := pl_E π (pl_C π 10 0 (pl_B π 40 0 (pl_A π 7 0 (31 * (31 * (rd_i (pv_slides π)).toInt64 + (rd_i (pv_end π)).toInt64) + (rd_i (pv_labels π)).toInt64))))
theorem pl_As {π : rd_Mem} {c : Int} {x : Int64} (h : c < 7) : pl_A π (7 - c).toNat c x = pl_A π (7 - (c + 1)).toNat (c + 1) (31 * x + (rd_i (pv_now π c)).toInt64) := by
  obtain ⟨m, e⟩ : ∃ m, (7 - c).toNat = m + 1 := ⟨(7 - c).toNat - 1, by omega⟩
  rw [e, show (7 - (c + 1)).toNat = m by omega]; rfl
theorem pl_Ae {π : rd_Mem} {c : Int} {x : Int64} (h : 7 ≤ c) : pl_A π (7 - c).toNat c x = x := by
  rw [show (7 - c).toNat = 0 by omega]; rfl
theorem pl_Bs {π : rd_Mem} {c : Int} {x : Int64} (h : c < 40) : pl_B π (40 - c).toNat c x = pl_B π (40 - (c + 1)).toNat (c + 1) (31 * (31 * (31 * x + (rd_i (pv_trail π c 0)).toInt64) + (rd_i (pv_trail π c 1)).toInt64) + (rd_i (pv_trail π c 2)).toInt64) := by
  obtain ⟨m, e⟩ : ∃ m, (40 - c).toNat = m + 1 := ⟨(40 - c).toNat - 1, by omega⟩
  rw [e, show (40 - (c + 1)).toNat = m by omega]; rfl
theorem pl_Be {π : rd_Mem} {c : Int} {x : Int64} (h : 40 ≤ c) : pl_B π (40 - c).toNat c x = x := by
  rw [show (40 - c).toNat = 0 by omega]; rfl
theorem pl_Cs {π : rd_Mem} {c : Int} {x : Int64} (h : c < 10) : pl_C π (10 - c).toNat c x = pl_C π (10 - (c + 1)).toNat (c + 1) (pl_P π c 10 0 (pl_W π c 6 0 (31 * x + (rd_i (pv_slideAt π c)).toInt64))) := by
  obtain ⟨m, e⟩ : ∃ m, (10 - c).toNat = m + 1 := ⟨(10 - c).toNat - 1, by omega⟩
  rw [e, show (10 - (c + 1)).toNat = m by omega]; rfl
theorem pl_Ce {π : rd_Mem} {c : Int} {x : Int64} (h : 10 ≤ c) : pl_C π (10 - c).toNat c x = x := by
  rw [show (10 - c).toNat = 0 by omega]; rfl
theorem pl_Ws {π : rd_Mem} {k : Int} {c : Int} {x : Int64} (h : c < 6) : pl_W π k (6 - c).toNat c x = pl_W π k (6 - (c + 1)).toNat (c + 1) (31 * x + (rd_i (pv_slide π k c)).toInt64) := by
  obtain ⟨m, e⟩ : ∃ m, (6 - c).toNat = m + 1 := ⟨(6 - c).toNat - 1, by omega⟩
  rw [e, show (6 - (c + 1)).toNat = m by omega]; rfl
theorem pl_We {π : rd_Mem} {k : Int} {c : Int} {x : Int64} (h : 6 ≤ c) : pl_W π k (6 - c).toNat c x = x := by
  rw [show (6 - c).toNat = 0 by omega]; rfl
theorem pl_Ps {π : rd_Mem} {k : Int} {c : Int} {x : Int64} (h : c < 10) : pl_P π k (10 - c).toNat c x = pl_P π k (10 - (c + 1)).toNat (c + 1) (31 * (31 * x + (rd_i (pv_picture π k c)).toInt64) + (rd_i (pv_target π k c)).toInt64) := by
  obtain ⟨m, e⟩ : ∃ m, (10 - c).toNat = m + 1 := ⟨(10 - c).toNat - 1, by omega⟩
  rw [e, show (10 - (c + 1)).toNat = m by omega]; rfl
theorem pl_Pe {π : rd_Mem} {k : Int} {c : Int} {x : Int64} (h : 10 ≤ c) : pl_P π k (10 - c).toNat c x = x := by
  rw [show (10 - c).toNat = 0 by omega]; rfl
set_option maxHeartbeats 4000000 in
set_option maxRecDepth 100000 in
theorem c_L_looks {l : Launch} {G : rd_G} {r : Nat} {μ : rd_Mem} {π : rd_Mem} {lh : List rd_Mem} (hS : pg_S μ π lh) : rd_M l G rd_kc 313 r yL_looks cL_looks 5 (some .long) (rd_rm 3 85) [rd_R 0] μ (fun v μ' => v = some (rd_Z (pl π)) ∧ μ' = μ) := by
  refine rd_enter (by decide +kernel) (Nat.le_of_ble_eq_true rfl) [rd_R 0, rd_J, rd_J, rd_J, rd_J] rfl (fun p e s m args below meth c C => ?_)
  refine rd_W.rng (fun hM hL _ => ?_)
  refine rd_ldc2 C rl2_L_11 dL_looks_0 ?_
  refine rd_ldc2 C rl2_L_11 dL_looks_3 ?_
  refine rd_aload_n C dL_looks_6 rfl ?_
  refine rd_callV C (kq_slides hS) rm_L_13 ri_X9_slides rs_X9_slides rc_X9_slides rz_X9 ⟨rp_X9_slides, rfl, rfl, by decide, by decide⟩ rfl rd_kcl9 dL_looks_7 rd_b0 rd_k0 rfl (Nat.le_of_ble_eq_true rfl) (fun v1 w1 hq => ?_)
  obtain ⟨hv1, hm1⟩ := hq; rw [hv1, hm1]; clear hv1 hm1 v1 w1
  refine rd_i2l C dL_looks_10 ?_
  refine rd_lmul C dL_looks_11 ?_
  refine rd_aload_n C dL_looks_12 rfl ?_
  refine rd_callV C (kq_end hS) rm_L_17 ri_X9_end rs_X9_end rc_X9_end rz_X9 ⟨rp_X9_end, rfl, rfl, by decide, by decide⟩ rfl rd_kcl9 dL_looks_13 rd_b0 rd_k0 rfl (Nat.le_of_ble_eq_true rfl) (fun v1 w1 hq => ?_)
  obtain ⟨hv1, hm1⟩ := hq; rw [hv1, hm1]; clear hv1 hm1 v1 w1
  refine rd_i2l C dL_looks_16 ?_
  refine rd_ladd C dL_looks_17 ?_
  refine rd_lmul C dL_looks_18 ?_
  refine rd_aload_n C dL_looks_19 rfl ?_
  refine rd_callV C (kq_labels hS) rm_L_20 ri_X9_labels rs_X9_labels rc_X9_labels rz_X9 ⟨rp_X9_labels, rfl, rfl, by decide, by decide⟩ rfl rd_kcl9 dL_looks_20 rd_b0 rd_k0 rfl (Nat.le_of_ble_eq_true rfl) (fun v1 w1 hq => ?_)
  obtain ⟨hv1, hm1⟩ := hq; rw [hv1, hm1]; clear hv1 hm1 v1 w1
  refine rd_i2l C dL_looks_23 ?_
  refine rd_ladd C dL_looks_24 ?_
  refine rd_lstore_n C dL_looks_25 (by decide) (L' := [rd_R 0, rd_Z ((31 * ((31 * ((rd_i (pv_slides π)).toInt64)) + ((rd_i (pv_end π)).toInt64))) + ((rd_i (pv_labels π)).toInt64)), rd_J, rd_J, rd_J]) rfl ?_
  refine rd_iconst C dL_looks_26 (n := 0) ⟨by decide, by decide⟩ ?_
  refine rd_istore_n C dL_looks_27 (by decide) (L' := [rd_R 0, rd_Z ((31 * ((31 * ((rd_i (pv_slides π)).toInt64)) + ((rd_i (pv_end π)).toInt64))) + ((rd_i (pv_labels π)).toInt64)), rd_J, rd_I 0, rd_J]) rfl ?_
  have lp28 : ∀ (n : Nat) (x : Int64) (c3 : Int), (0 ≤ c3 ∧ c3 ≤ 7) → (7 < c3 + n) → (pl π = pl_E π (pl_C π 10 0 (pl_B π 40 0 (pl_A π (7 - c3).toNat c3 x)))) → rd_W p l e (rd_rm 3 85) s m args below meth c (MQ below (rd_Qc G rd_kc 313 r (fun v μ' => v = some (rd_Z (pl π)) ∧ μ' = μ)) args s 0 0 (rd_A r 313)) 5 G rd_kc 313 r 28 [rd_R 0, rd_Z x, rd_J, rd_I c3, rd_J] [] μ := by
    intro n
    induction n with
    | zero => intro x c3  h2 h3 hx; exfalso; omega
    | succ n ih =>
      intro x c3  h2 h3 hx
      refine rd_iload_n C dL_looks_28 rfl ?_
      refine rd_bipush C dL_looks_29 (n := 7) (by decide) ⟨by decide, by decide⟩ ?_
      refine rd_icmp_ge C dL_looks_31 (tgt := 53) (by decide) (fun h_31 => ?_) (fun h_31 => ?_)
      · refine rd_iconst C dL_looks_53 (n := 0) ⟨by decide, by decide⟩ ?_
        refine rd_istore_n C dL_looks_54 (by decide) (L' := [rd_R 0, rd_Z x, rd_J, rd_I 0, rd_J]) rfl ?_
        have lp55 : ∀ (n : Nat) (x : Int64) (c3 : Int), (0 ≤ c3 ∧ c3 ≤ 40) → (40 < c3 + n) → (pl π = pl_E π (pl_C π 10 0 (pl_B π (40 - c3).toNat c3 x))) → rd_W p l e (rd_rm 3 85) s m args below meth c (MQ below (rd_Qc G rd_kc 313 r (fun v μ' => v = some (rd_Z (pl π)) ∧ μ' = μ)) args s 0 0 (rd_A r 313)) 5 G rd_kc 313 r 55 [rd_R 0, rd_Z x, rd_J, rd_I c3, rd_J] [] μ := by
          intro n
          induction n with
          | zero => intro x c3  h2 h3 hx; exfalso; omega
          | succ n ih =>
            intro x c3  h2 h3 hx
            refine rd_iload_n C dL_looks_55 rfl ?_
            refine rd_bipush C dL_looks_56 (n := 40) (by decide) ⟨by decide, by decide⟩ ?_
            refine rd_icmp_ge C dL_looks_58 (tgt := 105) (by decide) (fun h_58 => ?_) (fun h_58 => ?_)
            · refine rd_iconst C dL_looks_105 (n := 0) ⟨by decide, by decide⟩ ?_
              refine rd_istore_n C dL_looks_106 (by decide) (L' := [rd_R 0, rd_Z x, rd_J, rd_I 0, rd_J]) rfl ?_
              have lp107 : ∀ (n : Nat) (x : Int64) (c3 : Int), (0 ≤ c3 ∧ c3 ≤ 10) → (10 < c3 + n) → (pl π = pl_E π (pl_C π (10 - c3).toNat c3 x)) → rd_W p l e (rd_rm 3 85) s m args below meth c (MQ below (rd_Qc G rd_kc 313 r (fun v μ' => v = some (rd_Z (pl π)) ∧ μ' = μ)) args s 0 0 (rd_A r 313)) 5 G rd_kc 313 r 107 [rd_R 0, rd_Z x, rd_J, rd_I c3, rd_J] [] μ := by
                intro n
                induction n with
                | zero => intro x c3  h2 h3 hx; exfalso; omega
                | succ n ih =>
                  intro x c3  h2 h3 hx
                  refine rd_iload_n C dL_looks_107 rfl ?_
                  refine rd_bipush C dL_looks_108 (n := 10) (by decide) ⟨by decide, by decide⟩ ?_
                  refine rd_icmp_ge C dL_looks_110 (tgt := 207) (by decide) (fun h_110 => ?_) (fun h_110 => ?_)
                  · refine rd_ldc2 C rl2_L_11 dL_looks_207 ?_
                    refine rd_lload_n C dL_looks_210 rfl ?_
                    refine rd_lmul C dL_looks_211 ?_
                    refine rd_aload_n C dL_looks_212 rfl ?_
                    refine rd_callV C (kq_noteNow hS) rm_L_43 ri_X9_noteNow rs_X9_noteNow rc_X9_noteNow rz_X9 ⟨rp_X9_noteNow, rfl, rfl, by decide, by decide⟩ rfl rd_kcl9 dL_looks_213 rd_b0 rd_k0 rfl (Nat.le_of_ble_eq_true rfl) (fun v1 w1 hq => ?_)
                    obtain ⟨hv1, hm1⟩ := hq; rw [hv1, hm1]; clear hv1 hm1 v1 w1
                    refine rd_i2l C dL_looks_216 ?_
                    refine rd_ladd C dL_looks_217 ?_
                    exact rd_lret C dL_looks_218 ⟨by rw [hx, pl_Ce (by omega)]; unfold pl_E; rfl, rfl⟩
                  · have ihC := ih
                    have hC2 := h2
                    have hC3 := h3
                    rw [pl_Cs (by omega)] at hx
                    refine rd_ldc2 C rl2_L_11 dL_looks_113 ?_
                    refine rd_lload_n C dL_looks_116 rfl ?_
                    refine rd_lmul C dL_looks_117 ?_
                    refine rd_aload_n C dL_looks_118 rfl ?_
                    refine rd_iload_n C dL_looks_119 rfl ?_
                    refine rd_callV C (kq_slideAt hS) rm_L_31 ri_X9_slideAt rs_X9_slideAt rc_X9_slideAt rz_X9 ⟨rp_X9_slideAt, rfl, rfl, by decide, by decide⟩ rfl rd_kcl9 dL_looks_120 rd_b0 rd_k0 rfl (Nat.le_of_ble_eq_true rfl) (fun v1 w1 hq => ?_)
                    obtain ⟨hv1, hm1⟩ := hq; rw [hv1, hm1]; clear hv1 hm1 v1 w1
                    refine rd_i2l C dL_looks_123 ?_
                    refine rd_ladd C dL_looks_124 ?_
                    refine rd_lstore_n C dL_looks_125 (by decide) (L' := [rd_R 0, rd_Z ((31 * x) + ((rd_i (pv_slideAt π c3)).toInt64)), rd_J, rd_I c3, rd_J]) rfl ?_
                    refine rd_iconst C dL_looks_126 (n := 0) ⟨by decide, by decide⟩ ?_
                    refine rd_istore C dL_looks_127 (by decide) (L' := [rd_R 0, rd_Z ((31 * x) + ((rd_i (pv_slideAt π c3)).toInt64)), rd_J, rd_I c3, rd_I 0]) rfl ?_
                    have lp129 : ∀ (n : Nat) (x : Int64) (c4 : Int), (0 ≤ c4 ∧ c4 ≤ 6) → (6 < c4 + n) → (pl π = pl_E π (pl_C π (10 - (c3 + 1)).toNat (c3 + 1) (pl_P π c3 10 0 (pl_W π c3 (6 - c4).toNat c4 x)))) → rd_W p l e (rd_rm 3 85) s m args below meth c (MQ below (rd_Qc G rd_kc 313 r (fun v μ' => v = some (rd_Z (pl π)) ∧ μ' = μ)) args s 0 0 (rd_A r 313)) 5 G rd_kc 313 r 129 [rd_R 0, rd_Z x, rd_J, rd_I c3, rd_I c4] [] μ := by
                      intro n
                      induction n with
                      | zero => intro x c4  h2 h3 hx; exfalso; omega
                      | succ n ih =>
                        intro x c4  h2 h3 hx
                        refine rd_iload C dL_looks_129 rfl ?_
                        refine rd_bipush C dL_looks_131 (n := 6) (by decide) ⟨by decide, by decide⟩ ?_
                        refine rd_icmp_ge C dL_looks_133 (tgt := 157) (by decide) (fun h_133 => ?_) (fun h_133 => ?_)
                        · refine rd_iconst C dL_looks_157 (n := 0) ⟨by decide, by decide⟩ ?_
                          refine rd_istore C dL_looks_158 (by decide) (L' := [rd_R 0, rd_Z x, rd_J, rd_I c3, rd_I 0]) rfl ?_
                          have lp160 : ∀ (n : Nat) (x : Int64) (c4 : Int), (0 ≤ c4 ∧ c4 ≤ 10) → (10 < c4 + n) → (pl π = pl_E π (pl_C π (10 - (c3 + 1)).toNat (c3 + 1) (pl_P π c3 (10 - c4).toNat c4 x))) → rd_W p l e (rd_rm 3 85) s m args below meth c (MQ below (rd_Qc G rd_kc 313 r (fun v μ' => v = some (rd_Z (pl π)) ∧ μ' = μ)) args s 0 0 (rd_A r 313)) 5 G rd_kc 313 r 160 [rd_R 0, rd_Z x, rd_J, rd_I c3, rd_I c4] [] μ := by
                            intro n
                            induction n with
                            | zero => intro x c4  h2 h3 hx; exfalso; omega
                            | succ n ih =>
                              intro x c4  h2 h3 hx
                              refine rd_iload C dL_looks_160 rfl ?_
                              refine rd_bipush C dL_looks_162 (n := 10) (by decide) ⟨by decide, by decide⟩ ?_
                              refine rd_icmp_ge C dL_looks_164 (tgt := 201) (by decide) (fun h_164 => ?_) (fun h_164 => ?_)
                              · refine rd_iinc C dL_looks_201 (by decide) rfl ⟨by omega, by omega⟩ (L' := [rd_R 0, rd_Z x, rd_J, rd_I (c3 + 1), rd_I c4]) rfl ?_
                                refine rd_goto C dL_looks_204 (tgt := 107) (by decide) ?_
                                refine rd_drop 4 (L' := [rd_R 0, rd_Z x, rd_J, rd_I (c3 + 1), rd_J]) rfl ?_
                                exact ihC x (c3 + 1) (by omega) (by omega) (by rw [hx, pl_Pe (by omega)])
                              · refine rd_ldc2 C rl2_L_11 dL_looks_167 ?_
                                refine rd_ldc2 C rl2_L_11 dL_looks_170 ?_
                                refine rd_lload_n C dL_looks_173 rfl ?_
                                refine rd_lmul C dL_looks_174 ?_
                                refine rd_aload_n C dL_looks_175 rfl ?_
                                refine rd_iload_n C dL_looks_176 rfl ?_
                                refine rd_iload C dL_looks_177 rfl ?_
                                refine rd_callV C (kq_picture hS) rm_L_37 ri_X9_picture rs_X9_picture rc_X9_picture rz_X9 ⟨rp_X9_picture, rfl, rfl, by decide, by decide⟩ rfl rd_kcl9 dL_looks_179 rd_b0 rd_k0 rfl (Nat.le_of_ble_eq_true rfl) (fun v1 w1 hq => ?_)
                                obtain ⟨hv1, hm1⟩ := hq; rw [hv1, hm1]; clear hv1 hm1 v1 w1
                                refine rd_i2l C dL_looks_182 ?_
                                refine rd_ladd C dL_looks_183 ?_
                                refine rd_lmul C dL_looks_184 ?_
                                refine rd_aload_n C dL_looks_185 rfl ?_
                                refine rd_iload_n C dL_looks_186 rfl ?_
                                refine rd_iload C dL_looks_187 rfl ?_
                                refine rd_callV C (kq_target hS) rm_L_40 ri_X9_target rs_X9_target rc_X9_target rz_X9 ⟨rp_X9_target, rfl, rfl, by decide, by decide⟩ rfl rd_kcl9 dL_looks_189 rd_b0 rd_k0 rfl (Nat.le_of_ble_eq_true rfl) (fun v1 w1 hq => ?_)
                                obtain ⟨hv1, hm1⟩ := hq; rw [hv1, hm1]; clear hv1 hm1 v1 w1
                                refine rd_i2l C dL_looks_192 ?_
                                refine rd_ladd C dL_looks_193 ?_
                                refine rd_lstore_n C dL_looks_194 (by decide) (L' := [rd_R 0, rd_Z ((31 * ((31 * x) + ((rd_i (pv_picture π c3 c4)).toInt64))) + ((rd_i (pv_target π c3 c4)).toInt64)), rd_J, rd_I c3, rd_I c4]) rfl ?_
                                refine rd_iinc C dL_looks_195 (by decide) rfl ⟨by omega, by omega⟩ (L' := [rd_R 0, rd_Z ((31 * ((31 * x) + ((rd_i (pv_picture π c3 c4)).toInt64))) + ((rd_i (pv_target π c3 c4)).toInt64)), rd_J, rd_I c3, rd_I (c4 + 1)]) rfl ?_
                                refine rd_goto C dL_looks_198 (tgt := 160) (by decide) ?_
                                exact ih ((31 * ((31 * x) + ((rd_i (pv_picture π c3 c4)).toInt64))) + ((rd_i (pv_target π c3 c4)).toInt64)) (c4 + 1) (by omega) (by omega) (by rw [hx, pl_Ps (by omega)])
                          exact lp160 11 x 0 (by omega) (by omega) (by rw [show (((10 : Int) - 0).toNat) = 10 from rfl, hx, pl_We (by omega)])
                        · refine rd_ldc2 C rl2_L_11 dL_looks_136 ?_
                          refine rd_lload_n C dL_looks_139 rfl ?_
                          refine rd_lmul C dL_looks_140 ?_
                          refine rd_aload_n C dL_looks_141 rfl ?_
                          refine rd_iload_n C dL_looks_142 rfl ?_
                          refine rd_iload C dL_looks_143 rfl ?_
                          refine rd_callV C (kq_slide hS) rm_L_34 ri_X9_slide rs_X9_slide rc_X9_slide rz_X9 ⟨rp_X9_slide, rfl, rfl, by decide, by decide⟩ rfl rd_kcl9 dL_looks_145 rd_b0 rd_k0 rfl (Nat.le_of_ble_eq_true rfl) (fun v1 w1 hq => ?_)
                          obtain ⟨hv1, hm1⟩ := hq; rw [hv1, hm1]; clear hv1 hm1 v1 w1
                          refine rd_i2l C dL_looks_148 ?_
                          refine rd_ladd C dL_looks_149 ?_
                          refine rd_lstore_n C dL_looks_150 (by decide) (L' := [rd_R 0, rd_Z ((31 * x) + ((rd_i (pv_slide π c3 c4)).toInt64)), rd_J, rd_I c3, rd_I c4]) rfl ?_
                          refine rd_iinc C dL_looks_151 (by decide) rfl ⟨by omega, by omega⟩ (L' := [rd_R 0, rd_Z ((31 * x) + ((rd_i (pv_slide π c3 c4)).toInt64)), rd_J, rd_I c3, rd_I (c4 + 1)]) rfl ?_
                          refine rd_goto C dL_looks_154 (tgt := 129) (by decide) ?_
                          exact ih ((31 * x) + ((rd_i (pv_slide π c3 c4)).toInt64)) (c4 + 1) (by omega) (by omega) (by rw [hx, pl_Ws (by omega)])
                    exact lp129 7 ((31 * x) + ((rd_i (pv_slideAt π c3)).toInt64)) 0 (by omega) (by omega) (by rw [show (((6 : Int) - 0).toNat) = 6 from rfl, hx])
              exact lp107 11 x 0 (by omega) (by omega) (by rw [show (((10 : Int) - 0).toNat) = 10 from rfl, hx, pl_Be (by omega)])
            · refine rd_ldc2 C rl2_L_11 dL_looks_61 ?_
              refine rd_ldc2 C rl2_L_11 dL_looks_64 ?_
              refine rd_ldc2 C rl2_L_11 dL_looks_67 ?_
              refine rd_lload_n C dL_looks_70 rfl ?_
              refine rd_lmul C dL_looks_71 ?_
              refine rd_aload_n C dL_looks_72 rfl ?_
              refine rd_iload_n C dL_looks_73 rfl ?_
              refine rd_iconst C dL_looks_74 (n := 0) ⟨by decide, by decide⟩ ?_
              refine rd_callV C (kq_trail hS) rm_L_27 ri_X9_trail rs_X9_trail rc_X9_trail rz_X9 ⟨rp_X9_trail, rfl, rfl, by decide, by decide⟩ rfl rd_kcl9 dL_looks_75 rd_b0 rd_k0 rfl (Nat.le_of_ble_eq_true rfl) (fun v1 w1 hq => ?_)
              obtain ⟨hv1, hm1⟩ := hq; rw [hv1, hm1]; clear hv1 hm1 v1 w1
              refine rd_i2l C dL_looks_78 ?_
              refine rd_ladd C dL_looks_79 ?_
              refine rd_lmul C dL_looks_80 ?_
              refine rd_aload_n C dL_looks_81 rfl ?_
              refine rd_iload_n C dL_looks_82 rfl ?_
              refine rd_iconst C dL_looks_83 (n := 1) ⟨by decide, by decide⟩ ?_
              refine rd_callV C (kq_trail hS) rm_L_27 ri_X9_trail rs_X9_trail rc_X9_trail rz_X9 ⟨rp_X9_trail, rfl, rfl, by decide, by decide⟩ rfl rd_kcl9 dL_looks_84 rd_b0 rd_k0 rfl (Nat.le_of_ble_eq_true rfl) (fun v1 w1 hq => ?_)
              obtain ⟨hv1, hm1⟩ := hq; rw [hv1, hm1]; clear hv1 hm1 v1 w1
              refine rd_i2l C dL_looks_87 ?_
              refine rd_ladd C dL_looks_88 ?_
              refine rd_lmul C dL_looks_89 ?_
              refine rd_aload_n C dL_looks_90 rfl ?_
              refine rd_iload_n C dL_looks_91 rfl ?_
              refine rd_iconst C dL_looks_92 (n := 2) ⟨by decide, by decide⟩ ?_
              refine rd_callV C (kq_trail hS) rm_L_27 ri_X9_trail rs_X9_trail rc_X9_trail rz_X9 ⟨rp_X9_trail, rfl, rfl, by decide, by decide⟩ rfl rd_kcl9 dL_looks_93 rd_b0 rd_k0 rfl (Nat.le_of_ble_eq_true rfl) (fun v1 w1 hq => ?_)
              obtain ⟨hv1, hm1⟩ := hq; rw [hv1, hm1]; clear hv1 hm1 v1 w1
              refine rd_i2l C dL_looks_96 ?_
              refine rd_ladd C dL_looks_97 ?_
              refine rd_lstore_n C dL_looks_98 (by decide) (L' := [rd_R 0, rd_Z ((31 * ((31 * ((31 * x) + ((rd_i (pv_trail π c3 0)).toInt64))) + ((rd_i (pv_trail π c3 1)).toInt64))) + ((rd_i (pv_trail π c3 2)).toInt64)), rd_J, rd_I c3, rd_J]) rfl ?_
              refine rd_iinc C dL_looks_99 (by decide) rfl ⟨by omega, by omega⟩ (L' := [rd_R 0, rd_Z ((31 * ((31 * ((31 * x) + ((rd_i (pv_trail π c3 0)).toInt64))) + ((rd_i (pv_trail π c3 1)).toInt64))) + ((rd_i (pv_trail π c3 2)).toInt64)), rd_J, rd_I (c3 + 1), rd_J]) rfl ?_
              refine rd_goto C dL_looks_102 (tgt := 55) (by decide) ?_
              exact ih ((31 * ((31 * ((31 * x) + ((rd_i (pv_trail π c3 0)).toInt64))) + ((rd_i (pv_trail π c3 1)).toInt64))) + ((rd_i (pv_trail π c3 2)).toInt64)) (c3 + 1) (by omega) (by omega) (by rw [hx, pl_Bs (by omega)])
        exact lp55 41 x 0 (by omega) (by omega) (by rw [show (((40 : Int) - 0).toNat) = 40 from rfl, hx, pl_Ae (by omega)])
      · refine rd_ldc2 C rl2_L_11 dL_looks_34 ?_
        refine rd_lload_n C dL_looks_37 rfl ?_
        refine rd_lmul C dL_looks_38 ?_
        refine rd_aload_n C dL_looks_39 rfl ?_
        refine rd_iload_n C dL_looks_40 rfl ?_
        refine rd_callV C (kq_now hS) rm_L_23 ri_X9_now rs_X9_now rc_X9_now rz_X9 ⟨rp_X9_now, rfl, rfl, by decide, by decide⟩ rfl rd_kcl9 dL_looks_41 rd_b0 rd_k0 rfl (Nat.le_of_ble_eq_true rfl) (fun v1 w1 hq => ?_)
        obtain ⟨hv1, hm1⟩ := hq; rw [hv1, hm1]; clear hv1 hm1 v1 w1
        refine rd_i2l C dL_looks_44 ?_
        refine rd_ladd C dL_looks_45 ?_
        refine rd_lstore_n C dL_looks_46 (by decide) (L' := [rd_R 0, rd_Z ((31 * x) + ((rd_i (pv_now π c3)).toInt64)), rd_J, rd_I c3, rd_J]) rfl ?_
        refine rd_iinc C dL_looks_47 (by decide) rfl ⟨by omega, by omega⟩ (L' := [rd_R 0, rd_Z ((31 * x) + ((rd_i (pv_now π c3)).toInt64)), rd_J, rd_I (c3 + 1), rd_J]) rfl ?_
        refine rd_goto C dL_looks_50 (tgt := 28) (by decide) ?_
        exact ih ((31 * x) + ((rd_i (pv_now π c3)).toInt64)) (c3 + 1) (by omega) (by omega) (by rw [hx, pl_As (by omega)])
  exact lp28 8 ((31 * ((31 * ((rd_i (pv_slides π)).toInt64)) + ((rd_i (pv_end π)).toInt64))) + ((rd_i (pv_labels π)).toInt64)) 0 (by omega) (by omega) (by rw [show (((7 : Int) - 0).toNat) = 7 from rfl]; rfl)
