/-- a way of so many goings-on, so many moves, to a slide -/
def sp_Q (μ : rd_Mem) : Nat → Int → Int → Prop
  | 0, k, n => k = 0 ∧ n = μ 58 0
  | e + 1, k, n => ∃ p k' w, sp_Q μ e k' (μ 3 p) ∧ (0 ≤ p ∧ p < μ 2 0) ∧ sp_th μ (μ 3 p) ∧ sp_ed μ p n w ∧ k = k' + w
def sp_fin (μ : rd_Mem) (ρ : Int → Int) (j : Int) : Prop := ∀ (e : Nat) (k : Int), sp_Q μ e k j → ρ j ≤ k ∧ ρ j < 1000000
def sp_snd (μ : rd_Mem) (ρ : Int → Int) : Prop := ∀ j : Int, 0 ≤ j → j ≤ 9 → ρ j = 1000000 ∨ ∃ e, sp_Q μ e (ρ j) j
def sp_bd (ρ : Int → Int) (B : Int) : Prop := ∀ j : Int, 0 ≤ j → j ≤ 9 → 0 ≤ ρ j ∧ (ρ j < 1000000 → ρ j ≤ B)
theorem sp_ed_w {μ : rd_Mem} (hw : sp_wf μ) (hs : μ 58 1 ≤ sp_FS μ (μ 58 0)) {p j w : Int} (hth : sp_th μ (μ 3 p)) (h : sp_ed μ p j w) : 1 ≤ w ∧ w ≤ 10 := by
  obtain ⟨-, ⟨q, -, -, h1⟩ | ⟨-, h1⟩⟩ := h
  · omega
  · have h9 := sp_FS9 hw.2.1 hw.2.2.1 hth.1.1 hth.1.2
    have h0 : 0 ≤ sp_FS μ (μ 3 p) := sp_fs0 _ _ _
    have hst := hw.2.2.2.2
    by_cases he : μ 3 p = μ 58 0
    · rw [if_pos he] at h1; rw [he] at h1 h9; omega
    · rw [if_neg he] at h1; omega
theorem sp_Q_0 {μ : rd_Mem} (hw : sp_wf μ) (hs : μ 58 1 ≤ sp_FS μ (μ 58 0)) : ∀ (e : Nat) (k n : Int), sp_Q μ e k n → 0 ≤ k := by
  intro e
  induction e with
  | zero => intro k n h; have := h.1; omega
  | succ e ih =>
    intro k n h
    obtain ⟨p, k', w, h1, -, h3, h4, h5⟩ := h
    have := ih _ _ h1
    have := sp_ed_w hw hs h3 h4
    omega
theorem sp_num_le (p : Int → Prop) (n : Nat) : 0 ≤ sp_num p n ∧ sp_num p n ≤ n := by
  induction n with
  | zero => exact ⟨Int.le_refl _, Int.le_refl _⟩
  | succ n ih =>
    simp only [sp_num]
    by_cases h : p n
    · rw [sp_ift h]; omega
    · rw [sp_iff h]; omega
theorem sp_num_m {p q : Int → Prop} {n : Nat} (h : ∀ i : Int, 0 ≤ i → i < n → p i → q i) : sp_num p n ≤ sp_num q n := by
  induction n with
  | zero => exact Int.le_refl _
  | succ n ih =>
    have h1 := ih (fun i a b => h i a (by omega))
    simp only [sp_num]
    by_cases hp : p n
    · rw [sp_ift hp, sp_ift (h n (by omega) (by omega) hp)]; omega
    · rw [sp_iff hp]
      by_cases hq : q n
      · rw [sp_ift hq]; omega
      · rw [sp_iff hq]; omega
theorem sp_num_s {p q : Int → Prop} {n : Nat} (h : ∀ i : Int, 0 ≤ i → i < n → p i → q i) {j : Int} (j0 : 0 ≤ j) (j1 : j < n) (hp : ¬ p j) (hq : q j) : sp_num p n + 1 ≤ sp_num q n := by
  induction n with
  | zero => omega
  | succ n ih =>
    simp only [sp_num]
    by_cases hj : j = n
    · subst hj
      rw [sp_iff hp, sp_ift hq]
      have := sp_num_m (p := p) (q := q) (n := n) (fun i a b => h i a (by omega))
      omega
    · have h1 := ih (fun i a b => h i a (by omega)) (by omega)
      by_cases hpn : p n
      · rw [sp_ift hpn, sp_ift (h n (by omega) (by omega) hpn)]; omega
      · rw [sp_iff hpn]
        by_cases hqn : q n
        · rw [sp_ift hqn]; omega
        · rw [sp_iff hqn]; omega
theorem sp_num_all {p : Int → Prop} {n : Nat} (h : (n : Int) ≤ sp_num p n) (j : Int) (j0 : 0 ≤ j) (j1 : j < n) : p j := by
  by_cases hp : p j
  · exact hp
  · have h1 := sp_num_s (p := p) (q := fun _ => True) (fun _ _ _ _ => trivial) j0 j1 hp trivial
    have h2 := sp_num_le (fun _ => True) n
    omega
/-- a round brings at least one slide to its end, or all are -/
theorem sp_rnd {μ : rd_Mem} (hw : sp_wf μ) (hs : μ 58 1 ≤ sp_FS μ (μ 58 0)) {ρ ρ' : Int → Int} (hm : ∀ j, ρ' j ≤ ρ j) (hb : sp_bd ρ 2000) (hh : ρ (μ 58 0) = 0) (hr : ∀ p, 0 ≤ p → p < μ 2 0 → sp_th μ (μ 3 p) → ρ (μ 3 p) < 1000000 → ∀ j w, sp_ed μ p j w → ρ' j ≤ ρ (μ 3 p) + w) : (∀ j, 0 ≤ j → j ≤ 9 → sp_fin μ ρ' j) ∨ sp_num (sp_fin μ ρ) 10 + 1 ≤ sp_num (sp_fin μ ρ') 10 := by
  have hmono : ∀ j, sp_fin μ ρ j → sp_fin μ ρ' j := fun j h e k hq => by
    have h1 := h e k hq
    have h2 := hm j
    omega
  by_cases hv : ∃ (N : Nat) (j : Int) (e : Nat) (k : Int), k.toNat = N ∧ sp_Q μ e k j ∧ ¬ (ρ j ≤ k ∧ ρ j < 1000000)
  · -- the least of the moves that aren't reached
    right
    obtain ⟨N, hN⟩ := hv
    have hmin : ∃ N : Nat, (∃ (j : Int) (e : Nat) (k : Int), k.toNat = N ∧ sp_Q μ e k j ∧ ¬ (ρ j ≤ k ∧ ρ j < 1000000)) ∧ ∀ M, M < N → ¬ ∃ (j : Int) (e : Nat) (k : Int), k.toNat = M ∧ sp_Q μ e k j ∧ ¬ (ρ j ≤ k ∧ ρ j < 1000000) := by
      revert hN
      induction N using Nat.strongRecOn with
      | ind N ih =>
        intro hN
        by_cases hM : ∃ M, M < N ∧ ∃ (j : Int) (e : Nat) (k : Int), k.toNat = M ∧ sp_Q μ e k j ∧ ¬ (ρ j ≤ k ∧ ρ j < 1000000)
        · obtain ⟨M, h1, h2⟩ := hM
          exact ih M h1 h2
        · exact ⟨N, hN, fun M h1 h2 => hM ⟨M, h1, h2⟩⟩
    obtain ⟨N, ⟨j, e, k, hk, hq, hn⟩, hmn⟩ := hmin
    have hk0 := sp_Q_0 hw hs e k j hq
    have hlow : ∀ (j : Int) (e : Nat) (k' : Int), sp_Q μ e k' j → k' < k → ρ j ≤ k' ∧ ρ j < 1000000 := fun j e k' h1 h2 => by
      by_cases h3 : ρ j ≤ k' ∧ ρ j < 1000000
      · exact h3
      · have := sp_Q_0 hw hs e k' j h1
        exact absurd ⟨j, e, k', rfl, h1, h3⟩ (hmn k'.toNat (by omega))
    cases e with
    | zero => obtain ⟨h1, h2⟩ := hq; rw [h2, hh] at hn; exact absurd ⟨by omega, by omega⟩ hn
    | succ e =>
      have hq0 := hq
      obtain ⟨p, k', w, h1, h2, h3, h4, h5⟩ := hq
      have hw1 := sp_ed_w hw hs h3 h4
      obtain ⟨g1, g2⟩ := hlow _ _ _ h1 (by omega)
      have g3 := hr p h2.1 h2.2 h3 g2 j w h4
      have g4 := (hb _ h3.1.1 (by have := h3.1.2; omega)).2 g2
      have hj := h4.1
      refine sp_num_s (fun i _ _ h => hmono i h) (j := j) hj.1 (by omega) (fun h => hn (h _ _ hq0)) (fun e2 k2 hq2 => ?_)
      by_cases h6 : k2 < k
      · have := hlow _ _ _ hq2 h6; have := hm j; omega
      · omega
  · left
    intro j _ _
    refine hmono j (fun e k hq => ?_)
    by_cases h3 : ρ j ≤ k ∧ ρ j < 1000000
    · exact h3
    · exact absurd ⟨_, j, e, k, rfl, hq, h3⟩ hv
theorem sp_sp_t {μ μ1 ν : rd_Mem} (hw : sp_wf μ) (hs : μ 58 1 ≤ sp_FS μ (μ 58 0)) (hfr : ∀ a : Int, a ≠ 312 → μ1 a = μ a) {p B : Int} (hp : 0 ≤ p ∧ p < μ 2 0) (h : sp_sp μ1 ν p) (hsn : sp_snd μ (μ1 312)) (hb : sp_bd (μ1 312) B) (hB : 0 ≤ B ∧ B + 10 < 1000000) : (∀ a : Int, a ≠ 312 → ν a = μ a) ∧ (∀ j, ν 312 j ≤ μ1 312 j) ∧ sp_snd μ (ν 312) ∧ sp_bd (ν 312) (B + 10) ∧ (sp_th μ (μ 3 p) → μ1 312 (μ 3 p) < 1000000 → ∀ j w, sp_ed μ p j w → ν 312 j ≤ μ1 312 (μ 3 p) + w) := by
  have h55 : ∀ a : Int, a < 55 → μ1 a = μ a := fun a ha => hfr a (by omega)
  have e3 : μ1 3 p = μ 3 p := by rw [hfr 3 (by decide)]
  have hth := sp_th_c h55 (μ 3 p)
  have hed : ∀ j w, sp_th μ (μ 3 p) → (sp_ed μ1 p j w ↔ sp_ed μ p j w) := fun j w ht => by
    unfold sp_ed
    rw [e3, sp_next_c h55, sp_FS_c h55 ht.1.2, hfr 58 (by decide), hfr (5 + 5 * μ 3 p + 4) (by have := ht.1; omega)]
  obtain ⟨h1, h2, h3, h4⟩ := h
  rw [e3, hth] at h3 h4
  have hcase : ∀ j, 0 ≤ j → j ≤ 9 → ν 312 j = μ1 312 j ∨ (sp_th μ (μ 3 p) ∧ μ1 312 (μ 3 p) < 1000000 ∧ ∃ w, sp_ed μ p j w ∧ ν 312 j = μ1 312 (μ 3 p) + w) := fun j _ _ => by
    rcases h3 j with g | ⟨g1, g2, w, g3, g4⟩
    · exact Or.inl g
    · exact Or.inr ⟨g1, g2, w, (hed j w g1).mp g3, g4⟩
  refine ⟨fun a ha => (h1 a ha).trans (hfr a ha), h2, fun j j0 j9 => ?_, fun j j0 j9 => ?_, fun g1 g2 j w g3 => h4 g1 g2 j w ((hed j w g1).mpr g3)⟩
  · rcases hcase j j0 j9 with g | ⟨g1, g2, w, g3, g4⟩
    · rw [g]; exact hsn j j0 j9
    · rcases hsn _ g1.1.1 (by have := g1.1.2; omega) with k | ⟨e, k⟩
      · omega
      · exact Or.inr ⟨e + 1, p, _, w, k, hp, g1, g3, g4⟩
  · rcases hcase j j0 j9 with g | ⟨g1, g2, w, g3, g4⟩
    · rw [g]; have := hb j j0 j9; omega
    · have hw1 := sp_ed_w hw hs g1 g3
      have := hb _ g1.1.1 (by have := g1.1.2; omega)
      omega
set_option maxHeartbeats 4000000 in
set_option maxRecDepth 100000 in
theorem c_X1_leastMoves {l : Launch} {G : rd_G} {r : Nat} {μ : rd_Mem} {q0 : Int} (hw : sp_wf μ) (hth : sp_th μ (μ 58 0)) (hsF : μ 58 1 ≤ sp_FS μ (μ 58 0)) (hq0 : 0 ≤ q0 ∧ q0 ≤ 9) : rd_M l G rd_kc 313 r yX1_leastMoves cX1_leastMoves 5 (some .int) (rd_rm 3 90) [rd_R 311, rd_R 1, rd_I q0] μ (fun v μ' => ∃ r : Int, v = some (rd_I r) ∧ ((r = -6 ∧ ∀ (e : Nat) (k : Int), ¬ sp_Q μ e k q0) ∨ (0 ≤ r ∧ (∃ e, sp_Q μ e r q0) ∧ ∀ (e : Nat) (k : Int), sp_Q μ e k q0 → r ≤ k)) ∧ ∀ a : Int, a ≠ 312 → μ' a = μ a) := by
  refine rd_enter (by decide +kernel) (Nat.le_of_ble_eq_true rfl) [rd_R 311, rd_R 1, rd_I q0, rd_J, rd_J] rfl (fun p e s m args below meth c C => ?_)
  refine rd_W.rng (fun hM hL _ => ?_)
  have hc1 := hw.1.1
  have hc2 := hw.1.2
  refine rd_aload_n C dX1_leastMoves_0 rfl ?_
  refine rd_callV C (c_X8_here) rm_X1_15 ri_X8_here rs_X8_here rc_X8_here rz_X8 ⟨rp_X8_here, rfl, rfl, by decide, by decide⟩ rfl rd_kcl8 dX1_leastMoves_1 rd_b1 rd_k1 rfl (Nat.le_of_ble_eq_true rfl) (fun v1 w1 hq => ?_)
  rcases hq with ⟨hw_4, hv1, hm1⟩ | ⟨hw_4, hv1, hm1⟩
  rotate_left
  · exfalso; exact hw_4 hth
  rw [hv1, hm1]; clear hv1 hm1 v1 w1
  refine rd_ifnull_r C dX1_leastMoves_4 ?_
  refine rd_iload_n C dX1_leastMoves_7 rfl ?_
  refine rd_iconst C dX1_leastMoves_8 (n := 0) ⟨by decide, by decide⟩ ?_
  refine rd_bipush C dX1_leastMoves_9 (n := 9) (by decide) ⟨by decide, by decide⟩ ?_
  refine rd_callSN C (c_X9_isWithin) rx_X1_83 rt_X9_isWithin rc_X9_isWithin rz_X9 ⟨rp_X9_isWithin, rfl, rfl, by decide, by decide⟩ rfl dX1_leastMoves_11 rfl (Nat.le_of_ble_eq_true rfl) (fun v1 w1 hq => ?_)
  rcases hq with ⟨hw_14, hv1, hm1⟩ | ⟨hw_14, hv1, hm1⟩
  rotate_left
  · exfalso; omega
  rw [hv1, hm1]; clear hv1 hm1 v1 w1
  refine rd_if_ne C dX1_leastMoves_14 (tgt := 20) (by decide) (fun _ => ?_) (fun h => absurd h (by decide))
  have hrg := hth.1
  refine rd_iconst C dX1_leastMoves_20 (n := 0) ⟨by decide, by decide⟩ ?_
  refine rd_istore_n C dX1_leastMoves_21 (by decide) (L' := [rd_R 311, rd_R 1, rd_I q0, rd_I 0, rd_J]) rfl ?_
  have lp22 : ∀ (n : Nat) (k : Int) (μ1 : rd_Mem) (j4 : rd_X), (0 ≤ k) → (k ≤ 10) → (10 < k + n) → (∀ a : Int, a ≠ 312 → μ1 a = μ a) → (∀ j : Int, 0 ≤ j → j < k → μ1 312 j = 1000000) → rd_W p l e (rd_rm 3 90) s m args below meth c (MQ below (rd_Qc G rd_kc 313 r (fun v μ' => ∃ r : Int, v = some (rd_I r) ∧ ((r = -6 ∧ ∀ (e : Nat) (k : Int), ¬ sp_Q μ e k q0) ∨ (0 ≤ r ∧ (∃ e, sp_Q μ e r q0) ∧ ∀ (e : Nat) (k : Int), sp_Q μ e k q0 → r ≤ k)) ∧ ∀ a : Int, a ≠ 312 → μ' a = μ a)) args s 0 0 (rd_A r 313)) 5 G rd_kc 313 r 22 [rd_R 311, rd_R 1, rd_I q0, rd_I k, j4] [] μ1 := by
    intro n
    induction n with
    | zero => intro k μ1 j4  g0 g1 g2 hfr hin; exfalso; omega
    | succ n ih =>
      intro k μ1 j4  g0 g1 g2 hfr hin
      refine rd_iload_n C dX1_leastMoves_22 rfl ?_
      refine rd_aload_n C dX1_leastMoves_23 rfl ?_
      refine rd_get C rd_g1_0 rf_X1_9 dX1_leastMoves_24 rd_b311 rd_k311 (x := rd_R (312)) rfl (fun _ => trivial) ?_
      refine rd_alen C rd_al11 dX1_leastMoves_27 rd_b312 rd_k312 (z := 10) rfl ⟨by decide, by decide⟩ ?_
      refine rd_icmp_ge C dX1_leastMoves_28 (tgt := 45) (by decide) (fun h_28 => ?_) (fun h_28 => ?_)
      · refine rd_aload_n C dX1_leastMoves_45 rfl ?_
        refine rd_aload_n C dX1_leastMoves_46 rfl ?_
        refine rd_get C rd_g8_3 rf_X1_25 dX1_leastMoves_47 rd_b1 rd_k1 (x := rd_R (58)) rfl (fun _ => trivial) ?_
        refine rd_getx C rd_g6_0 rf_X1_29 dX1_leastMoves_50 rd_b58 rd_k58 rfl (z := μ 58 0) (by rw [hfr _ (by omega)]) ?_
        refine rd_iconst C dX1_leastMoves_53 (n := 0) ⟨by decide, by decide⟩ ?_
        refine rd_callV C (c_X1_lower) rm_X1_88 ri_X1_lower rs_X1_lower rc_X1_lower rz_X1 ⟨rp_X1_lower, rfl, rfl, by decide, by decide⟩ rfl rd_kcl1 dX1_leastMoves_54 rd_b311 rd_k311 rfl (Nat.le_of_ble_eq_true rfl) (fun v1 w1 hq => ?_)
        obtain ⟨hv1, hm1⟩ := hq; rw [hv1, hm1]; clear hv1 hm1
        have hk10 : k = 10 := by omega
        have hlf : ∀ a : Int, a ≠ 312 → rd_lw μ1 (μ 58 0) 0 a = μ a := fun a ha => (rd_lw_f _ _ _ ha).trans (hfr a ha)
        have hl0 : rd_lw μ1 (μ 58 0) 0 312 (μ 58 0) = 0 := by unfold rd_lw; rw [if_pos ⟨⟨by omega, by omega⟩, by rw [hin _ (by omega) (by omega)]; omega⟩, rd_u_s]
        have hl1 : ∀ j : Int, 0 ≤ j → j ≤ 9 → j ≠ μ 58 0 → rd_lw μ1 (μ 58 0) 0 312 j = 1000000 := fun j j0 j9 hj => by unfold rd_lw; rw [if_pos ⟨⟨by omega, by omega⟩, by rw [hin _ (by omega) (by omega)]; omega⟩, rd_u_j _ _ _ hj]; exact hin j j0 (by omega)
        refine rd_iconst C dX1_leastMoves_57 (n := 0) ⟨by decide, by decide⟩ ?_
        refine rd_istore_n C dX1_leastMoves_58 (by decide) (L' := [rd_R 311, rd_R 1, rd_I q0, rd_I 0, j4]) rfl ?_
        have lp59 : ∀ (n : Nat) (k : Int) (j4 : rd_X) (μ1 : rd_Mem), (0 ≤ k) → (k ≤ 10) → (10 < k + n) → (∀ a : Int, a ≠ 312 → μ1 a = μ a) → (sp_snd μ (μ1 312)) → (sp_bd (μ1 312) (100 * k)) → (μ1 312 (μ 58 0) = 0) → ((∀ j, 0 ≤ j → j ≤ 9 → sp_fin μ (μ1 312) j) ∨ k ≤ sp_num (sp_fin μ (μ1 312)) 10) → rd_W p l e (rd_rm 3 90) s m args below meth c (MQ below (rd_Qc G rd_kc 313 r (fun v μ' => ∃ r : Int, v = some (rd_I r) ∧ ((r = -6 ∧ ∀ (e : Nat) (k : Int), ¬ sp_Q μ e k q0) ∨ (0 ≤ r ∧ (∃ e, sp_Q μ e r q0) ∧ ∀ (e : Nat) (k : Int), sp_Q μ e k q0 → r ≤ k)) ∧ ∀ a : Int, a ≠ 312 → μ' a = μ a)) args s 0 0 (rd_A r 313)) 5 G rd_kc 313 r 59 [rd_R 311, rd_R 1, rd_I q0, rd_I k, j4] [] μ1 := by
          intro n
          induction n with
          | zero => intro k j4 μ1  g0 g1 g2 hfr hsn hbd hh0 hct; exfalso; omega
          | succ n ih =>
            intro k j4 μ1  g0 g1 g2 hfr hsn hbd hh0 hct
            have ihO := ih
            refine rd_iload_n C dX1_leastMoves_59 rfl ?_
            refine rd_bipush C dX1_leastMoves_60 (n := 10) (by decide) ⟨by decide, by decide⟩ ?_
            refine rd_icmp_ge C dX1_leastMoves_62 (tgt := 99) (by decide) (fun h_62 => ?_) (fun h_62 => ?_)
            · have hall : (∀ j, 0 ≤ j → j ≤ 9 → sp_fin μ (μ1 312) j) := by
                rcases hct with g | g
                · exact g
                · exact fun j j0 j9 => sp_num_all (n := 10) (by omega) j j0 (by omega)
              have hgb := hbd q0 (by omega) (by omega)
              refine rd_aload_n C dX1_leastMoves_99 rfl ?_
              refine rd_get C rd_g1_0 rf_X1_9 dX1_leastMoves_100 rd_b311 rd_k311 (x := rd_R (312)) rfl (fun _ => trivial) ?_
              refine rd_iload_n C dX1_leastMoves_103 rfl ?_
              refine rd_ialdx C rd_ai11 dX1_leastMoves_104 rd_b312 rd_k312 ⟨by omega, by omega⟩ (z := μ1 312 q0) rfl ?_
              refine rd_ldc C rl_X1_87 dX1_leastMoves_105 (n := 1000000) (by decide) ⟨by decide, by decide⟩ ?_
              refine rd_icmp_ge C dX1_leastMoves_107 (tgt := 119) (by decide) (fun h_107 => ?_) (fun h_107 => ?_)
              · refine rd_bipush C dX1_leastMoves_119 (n := -6) (by decide) ⟨by decide, by decide⟩ ?_
                exact rd_iret C dX1_leastMoves_121 ⟨-6, rfl, Or.inl ⟨rfl, fun e k hq => by have := hall q0 (by omega) (by omega) e k hq; omega⟩, hfr⟩
              · refine rd_aload_n C dX1_leastMoves_110 rfl ?_
                refine rd_get C rd_g1_0 rf_X1_9 dX1_leastMoves_111 rd_b311 rd_k311 (x := rd_R (312)) rfl (fun _ => trivial) ?_
                refine rd_iload_n C dX1_leastMoves_114 rfl ?_
                refine rd_ialdx C rd_ai11 dX1_leastMoves_115 rd_b312 rd_k312 ⟨by omega, by omega⟩ (z := μ1 312 q0) rfl ?_
                refine rd_goto C dX1_leastMoves_116 (tgt := 121) (by decide) ?_
                exact rd_iret C dX1_leastMoves_121 ⟨_, rfl, Or.inr ⟨hgb.1, by rcases hsn q0 (by omega) (by omega) with g | g; omega; exact g, fun e k hq => (hall q0 (by omega) (by omega) e k hq).1⟩, hfr⟩
            · refine rd_iconst C dX1_leastMoves_65 (n := 0) ⟨by decide, by decide⟩ ?_
              refine rd_istore C dX1_leastMoves_66 (by decide) (L' := [rd_R 311, rd_R 1, rd_I q0, rd_I k, rd_I 0]) rfl ?_
              have lp68 : ∀ (n : Nat) (c4 : Int) (μ2 : rd_Mem), (0 ≤ c4) → (c4 ≤ μ 2 0) → (μ 2 0 < c4 + n) → (∀ a : Int, a ≠ 312 → μ2 a = μ a) → (sp_snd μ (μ2 312)) → (sp_bd (μ2 312) (100 * k + 10 * c4)) → (μ2 312 (μ 58 0) = 0) → (∀ j, μ2 312 j ≤ μ1 312 j) → (∀ p, 0 ≤ p → p < c4 → sp_th μ (μ 3 p) → μ1 312 (μ 3 p) < 1000000 → ∀ j w, sp_ed μ p j w → μ2 312 j ≤ μ1 312 (μ 3 p) + w) → rd_W p l e (rd_rm 3 90) s m args below meth c (MQ below (rd_Qc G rd_kc 313 r (fun v μ' => ∃ r : Int, v = some (rd_I r) ∧ ((r = -6 ∧ ∀ (e : Nat) (k : Int), ¬ sp_Q μ e k q0) ∨ (0 ≤ r ∧ (∃ e, sp_Q μ e r q0) ∧ ∀ (e : Nat) (k : Int), sp_Q μ e k q0 → r ≤ k)) ∧ ∀ a : Int, a ≠ 312 → μ' a = μ a)) args s 0 0 (rd_A r 313)) 5 G rd_kc 313 r 68 [rd_R 311, rd_R 1, rd_I q0, rd_I k, rd_I c4] [] μ2 := by
                intro n
                induction n with
                | zero => intro c4 μ2  p0 p1 p2 hfr2 hsn2 hbd2 hh02 hmn hrx; exfalso; omega
                | succ n ih =>
                  intro c4 μ2  p0 p1 p2 hfr2 hsn2 hbd2 hh02 hmn hrx
                  refine rd_iload C dX1_leastMoves_68 rfl ?_
                  refine rd_aload_n C dX1_leastMoves_70 rfl ?_
                  refine rd_get C rd_g8_1 rf_X1_21 dX1_leastMoves_71 rd_b1 rd_k1 (x := rd_R (2)) rfl (fun _ => trivial) ?_
                  refine rd_getx C rd_g0_0 rf_X1_41 dX1_leastMoves_74 rd_b2 rd_k2 rfl (z := μ 2 0) (by rw [hfr2 _ (by omega)]) ?_
                  refine rd_icmp_ge C dX1_leastMoves_77 (tgt := 93) (by decide) (fun h_77 => ?_) (fun h_77 => ?_)
                  · refine rd_iinc C dX1_leastMoves_93 (by decide) rfl ⟨by omega, by omega⟩ (L' := [rd_R 311, rd_R 1, rd_I q0, rd_I (k + 1), rd_I c4]) rfl ?_
                    refine rd_goto C dX1_leastMoves_96 (tgt := 59) (by decide) ?_
                    exact ihO (k + 1) _ _ (by omega) (by omega) (by omega) hfr2 hsn2 (fun j j0 j9 => by have := hbd2 j j0 j9; omega) hh02 (by rcases sp_rnd hw hsF hmn (fun j j0 j9 => by have := hbd j j0 j9; omega) hh0 (fun p p0 p1 => hrx p p0 (by omega)) with g | g; exact Or.inl g; rcases hct with g2 | g2; exact Or.inl (fun j j0 j9 e k hq => by have h1 := g2 j j0 j9 e k hq; have h2 := hmn j; omega); exact Or.inr (by omega))
                  · refine rd_aload_n C dX1_leastMoves_80 rfl ?_
                    refine rd_aload_n C dX1_leastMoves_81 rfl ?_
                    refine rd_iload C dX1_leastMoves_82 rfl ?_
                    refine rd_callV C (c_X1_spreadFrom (sp_wf_c (fun a ha => hfr2 a (by omega)) hw (by rw [hfr2 58 (by decide)]; exact hw.2.2.2.1) (by rw [hfr2 58 (by decide)]; exact hw.2.2.2.2)) (by rw [hfr2 2 (by decide)]; exact ⟨by omega, by omega⟩) (fun j j0 j9 => (hbd2 j j0 j9).1)) rm_X1_92 ri_X1_spreadFrom rs_X1_spreadFrom rc_X1_spreadFrom rz_X1 ⟨rp_X1_spreadFrom, rfl, rfl, by decide, by decide⟩ rfl rd_kcl1 dX1_leastMoves_84 rd_b311 rd_k311 rfl (Nat.le_of_ble_eq_true rfl) (fun v1 w1 hq => ?_)
                    obtain ⟨hv1, hsp⟩ := hq; rw [hv1]; clear hv1
                    obtain ⟨t1, t2, t3, t4, t5⟩ := sp_sp_t hw hsF hfr2 ⟨by omega, by omega⟩ hsp hsn2 hbd2 ⟨by omega, by omega⟩
                    refine rd_iinc C dX1_leastMoves_87 (by decide) rfl ⟨by omega, by omega⟩ (L' := [rd_R 311, rd_R 1, rd_I q0, rd_I k, rd_I (c4 + 1)]) rfl ?_
                    refine rd_goto C dX1_leastMoves_90 (tgt := 68) (by decide) ?_
                    exact ih (c4 + 1) _ (by omega) (by omega) (by omega) t1 t3 (fun j j0 j9 => by have := t4 j j0 j9; omega) (by have h1 := t2 (μ 58 0); have h2 := (t4 (μ 58 0) (by omega) (by omega)).1; omega) (fun j => Int.le_trans (t2 j) (hmn j)) (fun p p0 p1 hp hu j w he => by by_cases hpc : p = c4; subst hpc; have h1 := hmn (μ 3 p); have h2 := t5 hp (by omega) j w he; omega; exact Int.le_trans (t2 j) (hrx p p0 (by omega) hp hu j w he))
              exact lp68 12 0 _ (by omega) (by omega) (by omega) hfr hsn (fun j j0 j9 => by have := hbd j j0 j9; omega) hh0 (fun j => Int.le_refl _) (fun p p0 p1 => by omega)
        exact lp59 11 0 _ _ (by omega) (by omega) (by omega) hlf (fun j j0 j9 => by by_cases hj : j = μ 58 0; exact Or.inr ⟨0, by rw [hj]; exact hl0, hj⟩; exact Or.inl (hl1 j j0 j9 hj)) (fun j j0 j9 => by by_cases hj : j = μ 58 0; rw [hj, hl0]; omega; rw [hl1 j j0 j9 hj]; omega) hl0 (Or.inr (sp_num_le _ 10).1)
      · refine rd_aload_n C dX1_leastMoves_31 rfl ?_
        refine rd_get C rd_g1_0 rf_X1_9 dX1_leastMoves_32 rd_b311 rd_k311 (x := rd_R (312)) rfl (fun _ => trivial) ?_
        refine rd_iload_n C dX1_leastMoves_35 rfl ?_
        refine rd_ldc C rl_X1_87 dX1_leastMoves_36 (n := 1000000) (by decide) ⟨by decide, by decide⟩ ?_
        refine rd_iast C rd_ai11 dX1_leastMoves_38 rd_b312 rd_k312 ⟨by omega, by omega⟩ ?_
        refine rd_iinc C dX1_leastMoves_39 (by decide) rfl ⟨by omega, by omega⟩ (L' := [rd_R 311, rd_R 1, rd_I q0, rd_I (k + 1), j4]) rfl ?_
        refine rd_goto C dX1_leastMoves_42 (tgt := 22) (by decide) ?_
        exact ih (k + 1) _ _ (by omega) (by omega) (by omega) (fun a ha => (rd_u_ne _ _ _ ha).trans (hfr a ha)) (fun j j0 j1 => by by_cases hj : j = k; rw [hj, rd_u_s]; rw [rd_u_j _ _ _ hj]; exact hin j j0 (by omega))
  exact lp22 11 0 _ _ (by omega) (by omega) (by omega) (fun _ _ => rfl) (fun j j0 j1 => by omega)
set_option maxHeartbeats 4000000 in
set_option maxRecDepth 100000 in
theorem c_X1_leastMoves_n {l : Launch} {G : rd_G} {r : Nat} {μ : rd_Mem} {q0 : Int} (hth : ¬ sp_th μ (μ 58 0)) : rd_M l G rd_kc 313 r yX1_leastMoves cX1_leastMoves 5 (some .int) (rd_rm 3 90) [rd_R 311, rd_R 1, rd_I q0] μ (fun v μ' => v = some (rd_I (-6)) ∧ μ' = μ) := by
  refine rd_enter (by decide +kernel) (Nat.le_of_ble_eq_true rfl) [rd_R 311, rd_R 1, rd_I q0, rd_J, rd_J] rfl (fun p e s m args below meth c C => ?_)
  refine rd_W.rng (fun hM hL _ => ?_)
  refine rd_aload_n C dX1_leastMoves_0 rfl ?_
  refine rd_callV C (c_X8_here) rm_X1_15 ri_X8_here rs_X8_here rc_X8_here rz_X8 ⟨rp_X8_here, rfl, rfl, by decide, by decide⟩ rfl rd_kcl8 dX1_leastMoves_1 rd_b1 rd_k1 rfl (Nat.le_of_ble_eq_true rfl) (fun v1 w1 hq => ?_)
  rcases hq with ⟨hw_4, hv1, hm1⟩ | ⟨hw_4, hv1, hm1⟩
  · exact absurd hw_4 hth
  rw [hv1, hm1]; clear hv1 hm1 v1 w1
  refine rd_ifnull_n C dX1_leastMoves_4 (tgt := 17) (by decide) ?_
  refine rd_bipush C dX1_leastMoves_17 (n := -6) (by decide) ⟨by decide, by decide⟩ ?_
  exact rd_iret C dX1_leastMoves_19 ⟨rfl, rfl⟩
set_option maxHeartbeats 4000000 in
set_option maxRecDepth 100000 in
theorem c_X9_fewest {l : Launch} {G : rd_G} {r : Nat} {μ : rd_Mem} (hI : sp_inv μ) (hsF : sp_th μ (μ 58 0) → μ 58 1 ≤ sp_FS μ (μ 58 0)) {q0 : Int} (hth : sp_th μ (μ 58 0)) : rd_M l G rd_kc 313 r yX9_fewest cX9_fewest 2 (some .int) (rd_rm 4 114) [rd_R 0, rd_I q0] μ (fun v μ' => (¬ sp_th μ q0 ∧ v = some (rd_I (-1)) ∧ μ' = μ) ∨ (sp_th μ q0 ∧ ∃ r : Int, v = some (rd_I r) ∧ ((r = -6 ∧ ∀ (e : Nat) (k : Int), ¬ sp_Q μ e k q0) ∨ (0 ≤ r ∧ (∃ e, sp_Q μ e r q0) ∧ ∀ (e : Nat) (k : Int), sp_Q μ e k q0 → r ≤ k)) ∧ ∀ a : Int, a ≠ 312 → μ' a = μ a)) := by
  refine rd_enter (by decide +kernel) (Nat.le_of_ble_eq_true rfl) [rd_R 0, rd_I q0] rfl (fun p e s m args below meth c C => ?_)
  refine rd_W.rng (fun hM hL _ => ?_)
  refine rd_aload_n C dX9_fewest_0 rfl ?_
  refine rd_get C rd_g9_0 rf_X9_10 dX9_fewest_1 rd_b0 rd_k0 (x := rd_R (1)) rfl (fun _ => trivial) ?_
  refine rd_get C rd_g8_1 rf_X9_44 dX9_fewest_4 rd_b1 rd_k1 (x := rd_R (2)) rfl (fun _ => trivial) ?_
  refine rd_iload_n C dX9_fewest_7 rfl ?_
  refine rd_callV C (c_X0_find) rm_X9_62 ri_X0_find rs_X0_find rc_X0_find rz_X0 ⟨rp_X0_find, rfl, rfl, by decide, by decide⟩ rfl rd_kcl0 dX9_fewest_8 rd_b2 rd_k2 rfl (Nat.le_of_ble_eq_true rfl) (fun v1 w1 hq => ?_)
  rcases hq with ⟨hw_11, hv1, hm1⟩ | ⟨hw_11, hv1, hm1⟩
  · rw [hv1, hm1]; clear hv1 hm1 v1 w1
    refine rd_ifnonnull_r C dX9_fewest_11 (tgt := 18) (by decide) ?_
    refine rd_aload_n C dX9_fewest_18 rfl ?_
    refine rd_get C rd_g9_4 rf_X9_40 dX9_fewest_19 rd_b0 rd_k0 (x := rd_R (311)) rfl (fun _ => trivial) ?_
    refine rd_aload_n C dX9_fewest_22 rfl ?_
    refine rd_get C rd_g9_0 rf_X9_10 dX9_fewest_23 rd_b0 rd_k0 (x := rd_R (1)) rfl (fun _ => trivial) ?_
    refine rd_iload_n C dX9_fewest_26 rfl ?_
    refine rd_callV C (c_X1_leastMoves hI.1 hth (hsF hth) ⟨by have := hw_11.1; omega, by have := hw_11.1; omega⟩) rm_X9_269 ri_X1_leastMoves rs_X1_leastMoves rc_X1_leastMoves rz_X1 ⟨rp_X1_leastMoves, rfl, rfl, by decide, by decide⟩ rfl rd_kcl1 dX9_fewest_27 rd_b311 rd_k311 rfl (Nat.le_of_ble_eq_true rfl) (fun v1 w1 hq => ?_)
    obtain ⟨r0, hv1, hr0, hfr0⟩ := hq; rw [hv1]; clear hv1
    exact rd_iret C dX9_fewest_30 (Or.inr ⟨hw_11, r0, rfl, hr0, hfr0⟩)
  · rw [hv1, hm1]; clear hv1 hm1 v1 w1
    refine rd_ifnonnull_n C dX9_fewest_11 ?_
    refine rd_iconst C dX9_fewest_14 (n := -1) ⟨by decide, by decide⟩ ?_
    refine rd_goto C dX9_fewest_15 (tgt := 30) (by decide) ?_
    exact rd_iret C dX9_fewest_30 (Or.inl ⟨hw_11, rfl, rfl⟩)
set_option maxHeartbeats 4000000 in
set_option maxRecDepth 100000 in
theorem c_X9_fewest_n {l : Launch} {G : rd_G} {r : Nat} {μ : rd_Mem} (hI : sp_inv μ) (hsF : sp_th μ (μ 58 0) → μ 58 1 ≤ sp_FS μ (μ 58 0)) {q0 : Int} (hth : ¬ sp_th μ (μ 58 0)) : rd_M l G rd_kc 313 r yX9_fewest cX9_fewest 2 (some .int) (rd_rm 4 114) [rd_R 0, rd_I q0] μ (fun v μ' => (¬ sp_th μ q0 ∧ v = some (rd_I (-1)) ∧ μ' = μ) ∨ (sp_th μ q0 ∧ v = some (rd_I (-6)) ∧ μ' = μ)) := by
  refine rd_enter (by decide +kernel) (Nat.le_of_ble_eq_true rfl) [rd_R 0, rd_I q0] rfl (fun p e s m args below meth c C => ?_)
  refine rd_W.rng (fun hM hL _ => ?_)
  refine rd_aload_n C dX9_fewest_0 rfl ?_
  refine rd_get C rd_g9_0 rf_X9_10 dX9_fewest_1 rd_b0 rd_k0 (x := rd_R (1)) rfl (fun _ => trivial) ?_
  refine rd_get C rd_g8_1 rf_X9_44 dX9_fewest_4 rd_b1 rd_k1 (x := rd_R (2)) rfl (fun _ => trivial) ?_
  refine rd_iload_n C dX9_fewest_7 rfl ?_
  refine rd_callV C (c_X0_find) rm_X9_62 ri_X0_find rs_X0_find rc_X0_find rz_X0 ⟨rp_X0_find, rfl, rfl, by decide, by decide⟩ rfl rd_kcl0 dX9_fewest_8 rd_b2 rd_k2 rfl (Nat.le_of_ble_eq_true rfl) (fun v1 w1 hq => ?_)
  rcases hq with ⟨hw_11, hv1, hm1⟩ | ⟨hw_11, hv1, hm1⟩
  · rw [hv1, hm1]; clear hv1 hm1 v1 w1
    refine rd_ifnonnull_r C dX9_fewest_11 (tgt := 18) (by decide) ?_
    refine rd_aload_n C dX9_fewest_18 rfl ?_
    refine rd_get C rd_g9_4 rf_X9_40 dX9_fewest_19 rd_b0 rd_k0 (x := rd_R (311)) rfl (fun _ => trivial) ?_
    refine rd_aload_n C dX9_fewest_22 rfl ?_
    refine rd_get C rd_g9_0 rf_X9_10 dX9_fewest_23 rd_b0 rd_k0 (x := rd_R (1)) rfl (fun _ => trivial) ?_
    refine rd_iload_n C dX9_fewest_26 rfl ?_
    refine rd_callV C (c_X1_leastMoves_n hth) rm_X9_269 ri_X1_leastMoves rs_X1_leastMoves rc_X1_leastMoves rz_X1 ⟨rp_X1_leastMoves, rfl, rfl, by decide, by decide⟩ rfl rd_kcl1 dX9_fewest_27 rd_b311 rd_k311 rfl (Nat.le_of_ble_eq_true rfl) (fun v1 w1 hq => ?_)
    obtain ⟨hv1, hm1⟩ := hq; rw [show v1 = some (rd_I (-6)) from hv1, hm1]; clear hv1 hm1
    exact rd_iret C dX9_fewest_30 (Or.inr ⟨hw_11, rfl, rfl⟩)
  · rw [hv1, hm1]; clear hv1 hm1 v1 w1
    refine rd_ifnonnull_n C dX9_fewest_11 ?_
    refine rd_iconst C dX9_fewest_14 (n := -1) ⟨by decide, by decide⟩ ?_
    refine rd_goto C dX9_fewest_15 (tgt := 30) (by decide) ?_
    exact rd_iret C dX9_fewest_30 (Or.inl ⟨hw_11, rfl, rfl⟩)

