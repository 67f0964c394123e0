/-! the fewest moves, as the check seeks them -/
def mo_f (μ : rd_Mem) (m t n s : Int) : Prop := (t < mo_FS μ m ∧ n = m ∧ s = t + 1) ∨ (mo_FS μ m ≤ t ∧ mo_nx μ (mo_pl μ m + 1) ≠ -1 ∧ n = mo_nx μ (mo_pl μ m + 1) ∧ s = 0)
def mo_g (μ : rd_Mem) (m q n s : Int) : Prop := mo_o μ m (22 + q) ≠ -6 ∧ n = mo_o μ m (22 + q) ∧ s = 0
def mo_e (μ : rd_Mem) (m t n s : Int) : Prop := mo_f μ m t n s ∨ ∃ q : Int, (0 ≤ q ∧ q < 10) ∧ mo_g μ m q n s
def mo_P (μ : rd_Mem) : Nat → Int → Int → Prop
  | 0, n, s => n = μ 1 30 ∧ s = μ 1 31
  | k + 1, n, s => ∃ m t, mo_P μ k m t ∧ mo_e μ m t n s
theorem mo_e_r {μ : rd_Mem} (hJ : mo_J μ) {m t n s : Int} (hm : mo_t μ m) (ht : 0 ≤ t ∧ t ≤ mo_FS μ m) (h : mo_e μ m t n s) : mo_t μ n ∧ 0 ≤ s ∧ s ≤ mo_FS μ n := by
  rcases h with (⟨h1, h2, h3⟩ | ⟨h1, h2, h3, h4⟩) | ⟨q, hq, h1, h2, h3⟩
  · subst h2; exact ⟨hm, by omega, by omega⟩
  · have hn := mo_nx_t hJ.1.1 (a := mo_pl μ m + 1) (by have := (hJ.1.1.2.1 _ hm).2.1; omega) h2
    subst h3; have := mo_FS_r (hJ.1.1.2.1 _ hn).1; exact ⟨hn, by omega, by omega⟩
  · have hn := (hJ.2 m hm q hq.1 (by omega)).resolve_left h1
    subst h2; have := mo_FS_r (hJ.1.1.2.1 _ hn).1; exact ⟨hn, by omega, by omega⟩
theorem mo_P_r {μ : rd_Mem} (hJ : mo_J μ) (h29 : μ 1 29 = 1) (hst : μ 1 31 ≤ mo_FS μ (μ 1 30)) : ∀ (k : Nat) (n s : Int), mo_P μ k n s → mo_t μ n ∧ 0 ≤ s ∧ s ≤ mo_FS μ n := by
  intro k
  induction k with
  | zero => intro n s h; rw [h.1, h.2]; exact ⟨hJ.1.2.2.2.1 h29, hJ.1.2.2.1.1, hst⟩
  | succ k ih =>
    intro n s h
    obtain ⟨m, t, h1, h2⟩ := h
    obtain ⟨g1, g2, g3⟩ := ih m t h1
    exact mo_e_r hJ g1 ⟨g2, g3⟩ h2
def mo_V (μ : rd_Mem) (ρ : Int → Int) (k : Int) : Prop := ∀ n s : Int, 0 ≤ n → n ≤ 9 → 0 ≤ s → s ≤ 9 → ρ (10 * n + s) = -6 ∨ ((0 ≤ ρ (10 * n + s) ∧ ρ (10 * n + s) ≤ k) ∧ mo_P μ (ρ (10 * n + s)).toNat n s)
def mo_C (μ : rd_Mem) (ρ : Int → Int) (k : Int) : Prop := ∀ (j : Nat) (n s : Int), (j : Int) ≤ k → mo_P μ j n s → 0 ≤ ρ (10 * n + s) ∧ ρ (10 * n + s) ≤ j
def mo_Dn (μ : rd_Mem) (ρ : Int → Int) (k i : Int) : Prop := ∀ n s : Int, 0 ≤ n → n ≤ 9 → 0 ≤ s → s ≤ 9 → 10 * n + s < i → ρ (10 * n + s) = k → ∀ n' s', mo_e μ n s n' s' → ρ (10 * n' + s') ≠ -6
def mo_fl (ρ : Int → Int) (k f : Int) : Prop := (f = 0 ∨ f = 1) ∧ (f = 0 → ∀ x : Int, 0 ≤ x → x < 100 → ρ x ≠ k + 1)
noncomputable def mo_U (ρ : Int → Int) : Int := sp_num (fun i => ρ i = -6) 100
def mo_Wv (μ : rd_Mem) (ρ : Int → Int) (k i f : Int) : Prop := mo_V μ ρ (k + 1) ∧ mo_C μ ρ k ∧ mo_Dn μ ρ k i ∧ mo_fl ρ k f ∧ mo_U ρ + f + k ≤ 100
theorem mo_Wv_u {μ : rd_Mem} {ρ : Int → Int} {k i f n s : Int} (h : mo_Wv μ ρ k i f) (hk : 0 ≤ k) (hn : 0 ≤ n ∧ n ≤ 9) (hs : 0 ≤ s ∧ s ≤ 9) (hr : ρ (10 * n + s) = -6) (hP : mo_P μ (k + 1).toNat n s) : mo_Wv μ (rd_uf ρ (10 * n + s) (k + 1)) k i 1 ∧ ∀ x, ρ x ≠ -6 → rd_uf ρ (10 * n + s) (k + 1) x = ρ x := by
  obtain ⟨hV, hC, hD, hf, hU⟩ := h
  have hx : ∀ x, ρ x ≠ -6 → rd_uf ρ (10 * n + s) (k + 1) x = ρ x := fun x hx => by
    unfold rd_uf; rw [if_neg (fun e => hx (by rw [e]; exact hr))]
  have hne : ∀ x, ρ x ≠ -6 → rd_uf ρ (10 * n + s) (k + 1) x ≠ -6 := fun x h => by rw [hx x h]; exact h
  refine ⟨⟨fun a b a0 a9 b0 b9 => ?_, fun j a b hj hp => ?_, fun a b a0 a9 b0 b9 hi hv a' b' he => ?_, ⟨Or.inr rfl, fun h => absurd h (by decide)⟩, ?_⟩, hx⟩
  · by_cases e : 10 * a + b = 10 * n + s
    · obtain ⟨rfl, rfl⟩ : a = n ∧ b = s := by omega
      right
      unfold rd_uf; rw [if_pos rfl]; exact ⟨by omega, hP⟩
    · have e2 : rd_uf ρ (10 * n + s) (k + 1) (10 * a + b) = ρ (10 * a + b) := by unfold rd_uf; rw [if_neg e]
      rw [e2]; exact hV a b a0 a9 b0 b9
  · have := hC j a b hj hp
    rw [hx _ (by omega)]; exact this
  · by_cases e : 10 * a + b = 10 * n + s
    · rw [e] at hv; unfold rd_uf at hv; rw [if_pos rfl] at hv; omega
    · have e2 : rd_uf ρ (10 * n + s) (k + 1) (10 * a + b) = ρ (10 * a + b) := by unfold rd_uf; rw [if_neg e]
      rw [e2] at hv
      exact hne _ (hD a b a0 a9 b0 b9 hi hv a' b' he)
  · have h1 := sp_num_s (p := fun i => rd_uf ρ (10 * n + s) (k + 1) i = -6) (q := fun i => ρ i = -6) (n := 100) (fun x _ _ h => by by_cases hx6 : ρ x = -6; exact hx6; exact absurd h (hne x hx6)) (j := 10 * n + s) (by omega) (by omega) (by show ¬ rd_uf ρ _ _ _ = -6; unfold rd_uf; rw [if_pos rfl]; omega) hr
    unfold mo_U at hU ⊢
    have := hf.1
    omega
/-- the end of a level -/
theorem mo_Wv_e {μ : rd_Mem} (hJ : mo_J μ) (h29 : μ 1 29 = 1) (hst : μ 1 31 ≤ mo_FS μ (μ 1 30)) {ρ : Int → Int} {k f : Int} (h : mo_Wv μ ρ k 100 f) (hk : 0 ≤ k) : mo_C μ ρ (k + 1) := by
  obtain ⟨hV, hC, hD, hf, hU⟩ := h
  intro j n s hj hp
  by_cases hjk : (j : Int) ≤ k
  · exact hC j n s hjk hp
  · cases j with
    | zero => omega
    | succ j =>
      have hp0 := hp
      obtain ⟨m, t, h1, h2⟩ := hp
      obtain ⟨g1, g2, g3⟩ := mo_P_r hJ h29 hst j m t h1
      have g9 := mo_FS_r (hJ.1.1.2.1 _ g1).1
      obtain ⟨r1, r2, r3⟩ := mo_P_r hJ h29 hst (j + 1) n s hp0
      have r9 := mo_FS_r (hJ.1.1.2.1 _ r1).1
      have h3 := hC j m t (by omega) h1
      by_cases hv : ρ (10 * m + t) = k
      · have h4 := hD m t g1.1.1 g1.1.2 g2 (by omega) (by have := g1.1; omega) hv n s h2
        have h5 := (hV n s r1.1.1 r1.1.2 r2 (by omega)).resolve_left h4
        omega
      · have h4 := (hV m t g1.1.1 g1.1.2 g2 (by omega)).resolve_left (by omega)
        have h5 := hC ((ρ (10 * m + t)).toNat + 1) n s (by omega) ⟨m, t, h4.2, h2⟩
        omega
/-- no more levels: all are reached -/
theorem mo_Wv_all {μ : rd_Mem} (hJ : mo_J μ) (h29 : μ 1 29 = 1) (hst : μ 1 31 ≤ mo_FS μ (μ 1 30)) {ρ : Int → Int} {k : Int} (hV : mo_V μ ρ k) (hC : mo_C μ ρ k) (hk : 0 ≤ k) (hn : ∀ x : Int, 0 ≤ x → x < 100 → ρ x ≠ k) : ∀ (j : Nat) (n s : Int), mo_P μ j n s → 0 ≤ ρ (10 * n + s) ∧ ρ (10 * n + s) ≤ j := by
  intro j
  induction j with
  | zero => intro n s hp; exact hC 0 n s (by omega) hp
  | succ j ih =>
    intro n s hp
    by_cases hjk : ((j + 1 : Nat) : Int) ≤ k
    · exact hC _ n s hjk hp
    · obtain ⟨m, t, h1, h2⟩ := hp
      have h3 := ih m t h1
      obtain ⟨g1, g2, g3⟩ := mo_P_r hJ h29 hst j m t h1
      have g9 := mo_FS_r (hJ.1.1.2.1 _ g1).1
      have g4 := hn (10 * m + t) (by have := g1.1; omega) (by have := g1.1; omega)
      have h4 := (hV m t g1.1.1 g1.1.2 g2 (by omega)).resolve_left (by omega)
      have h5 := hC ((ρ (10 * m + t)).toNat + 1) n s (by omega) ⟨m, t, h4.2, h2⟩
      omega
theorem mo_1 {μ ν : rd_Mem} (h : ν 1 = μ 1) : (mo_I μ → mo_I ν) ∧ (∀ n, mo_FS ν n = mo_FS μ n) ∧ (∀ n, mo_pl ν n = mo_pl μ n) ∧ (∀ a, mo_nx ν a = mo_nx μ a) ∧ ∀ n q, mo_o ν n q = mo_o μ n q := by
  refine ⟨fun hI => ⟨mo_D_c (fun j _ => by rw [h]) hI.1, mo_S_c (fun j _ => by rw [h]) hI.2⟩, fun n => ?_, fun n => ?_, fun n => ?_, fun n q => ?_⟩
  · unfold mo_FS mo_o; rw [h]
  · unfold mo_pl; rw [h]
  · unfold mo_nx mo_o; rw [h]
  · show ν 1 _ = μ 1 _; rw [h]
set_option maxHeartbeats 4000000 in
set_option maxRecDepth 100000 in
theorem c_X10_reaches {l : Launch} {G : rd_G} {r : Nat} {μ : rd_Mem} {n0 s0 k0 : Int} (hn : n0 = -6 ∨ (0 ≤ n0 ∧ n0 ≤ 9)) (hs : 0 ≤ s0 ∧ s0 ≤ 9) : rd_M l G rd_km 5 r yX10_reaches cX10_reaches 5 (some .boolean) (rd_rm 0 0) [rd_R 0, rd_I n0, rd_I s0, rd_I k0] μ (fun v μ' => ((n0 ≠ -6 ∧ μ 4 (10 * n0 + s0) = -6) ∧ v = some (rd_I 1) ∧ μ' = rd_u μ 4 (10 * n0 + s0) k0) ∨ (¬ (n0 ≠ -6 ∧ μ 4 (10 * n0 + s0) = -6) ∧ v = some (rd_I 0) ∧ μ' = μ)) := by
  refine rd_enter (by decide +kernel) (Nat.le_of_ble_eq_true rfl) [rd_R 0, rd_I n0, rd_I s0, rd_I k0, rd_J] rfl (fun p e s m args below meth c C => ?_)
  refine rd_W.rng (fun hM hL _ => ?_)
  refine rd_iload_n C dX10_reaches_0 rfl ?_
  refine rd_bipush C dX10_reaches_1 (n := -6) (by decide) ⟨by decide, by decide⟩ ?_
  refine rd_icmp_eq C dX10_reaches_3 (tgt := 26) (by decide) (fun h_3 => ?_) (fun h_3 => ?_)
  · refine rd_iconst C dX10_reaches_26 (n := 0) ⟨by decide, by decide⟩ ?_
    refine rd_istore C dX10_reaches_27 (by decide) (L' := [rd_R 0, rd_I n0, rd_I s0, rd_I k0, rd_I 0]) rfl ?_
    refine rd_iload C dX10_reaches_29 rfl ?_
    refine rd_if_eq C dX10_reaches_31 (tgt := 46) (by decide) (fun _ => ?_) (fun h => absurd h (by decide))
    refine rd_iload C dX10_reaches_46 rfl ?_
    exact rd_zret C dX10_reaches_48 (by omega) (Or.inr ⟨(fun h => by first | exact h.1 h_3 | exact h_19 h.2), rfl, rfl⟩)
  · refine rd_aload_n C dX10_reaches_6 rfl ?_
    refine rd_get C rd_g10_8 rf_X10_19 dX10_reaches_7 rd_c0 rd_m0 (x := rd_R (4)) rfl (fun _ => trivial) ?_
    refine rd_bipush C dX10_reaches_10 (n := 10) (by decide) ⟨by decide, by decide⟩ ?_
    refine rd_iload_n C dX10_reaches_12 rfl ?_
    refine rd_imul C dX10_reaches_13 (z := 10 * n0) rfl ⟨by omega, by omega⟩ ?_
    refine rd_iload_n C dX10_reaches_14 rfl ?_
    refine rd_iadd C dX10_reaches_15 (z := 10 * n0 + s0) rfl ⟨by omega, by omega⟩ ?_
    refine rd_ialdx C rd_ai21 dX10_reaches_16 rd_c4 rd_m4 ⟨by omega, by omega⟩ (z := μ 4 (10 * n0 + s0)) rfl ?_
    refine rd_bipush C dX10_reaches_17 (n := -6) (by decide) ⟨by decide, by decide⟩ ?_
    refine rd_icmp_ne C dX10_reaches_19 (tgt := 26) (by decide) (fun h_19 => ?_) (fun h_19 => ?_)
    · refine rd_iconst C dX10_reaches_26 (n := 0) ⟨by decide, by decide⟩ ?_
      refine rd_istore C dX10_reaches_27 (by decide) (L' := [rd_R 0, rd_I n0, rd_I s0, rd_I k0, rd_I 0]) rfl ?_
      refine rd_iload C dX10_reaches_29 rfl ?_
      refine rd_if_eq C dX10_reaches_31 (tgt := 46) (by decide) (fun _ => ?_) (fun h => absurd h (by decide))
      refine rd_iload C dX10_reaches_46 rfl ?_
      exact rd_zret C dX10_reaches_48 (by omega) (Or.inr ⟨(fun h => by first | exact h.1 h_3 | exact h_19 h.2), rfl, rfl⟩)
    · refine rd_iconst C dX10_reaches_22 (n := 1) ⟨by decide, by decide⟩ ?_
      refine rd_goto C dX10_reaches_23 (tgt := 27) (by decide) ?_
      refine rd_istore C dX10_reaches_27 (by decide) (L' := [rd_R 0, rd_I n0, rd_I s0, rd_I k0, rd_I 1]) rfl ?_
      refine rd_iload C dX10_reaches_29 rfl ?_
      refine rd_if_eq C dX10_reaches_31 (tgt := 46) (by decide) (fun h => absurd h (by decide)) (fun _ => ?_)
      refine rd_aload_n C dX10_reaches_34 rfl ?_
      refine rd_get C rd_g10_8 rf_X10_19 dX10_reaches_35 rd_c0 rd_m0 (x := rd_R (4)) rfl (fun _ => trivial) ?_
      refine rd_bipush C dX10_reaches_38 (n := 10) (by decide) ⟨by decide, by decide⟩ ?_
      refine rd_iload_n C dX10_reaches_40 rfl ?_
      refine rd_imul C dX10_reaches_41 (z := 10 * n0) rfl ⟨by omega, by omega⟩ ?_
      refine rd_iload_n C dX10_reaches_42 rfl ?_
      refine rd_iadd C dX10_reaches_43 (z := 10 * n0 + s0) rfl ⟨by omega, by omega⟩ ?_
      refine rd_iload_n C dX10_reaches_44 rfl ?_
      refine rd_iast C rd_ai21 dX10_reaches_45 rd_c4 rd_m4 ⟨by omega, by omega⟩ ?_
      refine rd_iload C dX10_reaches_46 rfl ?_
      exact rd_zret C dX10_reaches_48 (by omega) (Or.inl ⟨⟨h_3, h_19⟩, rfl, rfl⟩)
