def mo_k3 (ν μ : rd_Mem) : Prop := ∀ p q : Int, (p ≠ 0 ∨ (q ≠ 4 ∧ q ≠ 5 ∧ q ≠ 6)) → ν p q = μ p q
theorem mo_w3_k3 (μ : rd_Mem) (a l n : Int) : mo_k3 (mo_w3 μ a l n) μ := fun p q h => by
  unfold mo_w3; rw [if_neg (by omega), if_neg (by omega), if_neg (by omega)]
theorem mo_k3_1 {ν μ : rd_Mem} (h : mo_k3 ν μ) {p : Int} (hp : p ≠ 0) : ν p = μ p := by funext q; exact h p q (Or.inl hp)
theorem mo_k3_t {κ ν μ : rd_Mem} (h1 : mo_k3 κ ν) (h2 : mo_k3 ν μ) : mo_k3 κ μ := fun p q h => (h1 p q h).trans (h2 p q h)
theorem mo_k3_u {ν μ : rd_Mem} {z : Int} (h : mo_k3 ν μ) : mo_k3 (rd_u ν 0 4 z) μ := fun p q g => by
  rw [rd_u_o _ (by omega)]; exact h p q g
theorem mo_w3_4 (μ : rd_Mem) (a l n : Int) : mo_w3 μ a l n 0 4 = a ∧ mo_w3 μ a l n 0 5 = l ∧ mo_w3 μ a l n 0 6 = n ∧ mo_w3 μ a l n 0 3 = μ 0 3 := by
  refine ⟨?_, ?_, ?_, ?_⟩ <;> unfold mo_w3
  · rw [if_pos ⟨rfl, rfl⟩]
  · rw [if_neg (by omega), if_pos ⟨rfl, rfl⟩]
  · rw [if_neg (by omega), if_neg (by omega), if_pos ⟨rfl, rfl⟩]
  · rw [if_neg (by omega), if_neg (by omega), if_neg (by omega)]
/-- the moves of a text: place of the letter, the letter, the number behind it -/
def sp_mvs (t : Int → Int) (L : Int) : Nat → Int → List (Int × Int × Int)
  | 0, _ => []
  | n + 1, i => if sp_eL (t i) = 5 then sp_mvs t L n (i + 1) else (i, t i, sp_nb t (L - (i + 1)).toNat (i + 1) 0) :: sp_mvs t L n (i + 1)
theorem sp_mvs_s {t : Int → Int} {L : Int} {n : Nat} {i : Int} (h0 : 0 < n) (h : sp_eL (t i) = 5) : sp_mvs t L n i = sp_mvs t L (n - 1) (i + 1) := by
  obtain ⟨m, rfl⟩ : ∃ m, n = m + 1 := ⟨n - 1, by omega⟩
  simp [sp_mvs, h]
theorem sp_mvs_c {t : Int → Int} {L : Int} {n : Nat} {i : Int} (h0 : 0 < n) (h : sp_eL (t i) ≠ 5) : sp_mvs t L n i = (i, t i, sp_nb t (L - (i + 1)).toNat (i + 1) 0) :: sp_mvs t L (n - 1) (i + 1) := by
  obtain ⟨m, rfl⟩ : ∃ m, n = m + 1 := ⟨n - 1, by omega⟩
  simp [sp_mvs, h]
section RDT
variable {t : Int → Int} {L : Int}
theorem sp_fl_s {i e e' : Int} (hi : i < L) (h : sp_eB (t i) e = e') (h5 : e' ≠ 5) : sp_flt t (L - i).toNat i e = sp_flt t (L - (i + 1)).toNat (i + 1) e' := by
  rw [sp_flt_f (by omega) (by rw [h]; exact h5), h, show (L - i).toNat - 1 = (L - (i + 1)).toNat by omega]
theorem sp_fl_x {i e : Int} (hi : i ≤ L) (h : i < L → sp_eB (t i) e = 5) (he : e ≠ 3 ∧ e ≠ 4) : sp_flt t (L - i).toNat i e = i := by
  by_cases h1 : i < L
  · exact sp_flt_t (by omega) (h h1)
  · rw [show (L - i).toNat = 0 by omega]
    show (if e = 3 ∨ e = 4 then (-6 : Int) else i) = i
    rw [if_neg (by omega)]
theorem sp_fl_34 {i : Int} (h : i < L → ¬ (48 ≤ t i ∧ t i ≤ 57)) : sp_flt t (L - i).toNat i 3 = sp_flt t (L - i).toNat i 4 := by
  by_cases h1 : i < L
  · have e : sp_eB (t i) 3 = sp_eB (t i) 4 := by unfold sp_eB; simp [h h1]
    by_cases h5 : sp_eB (t i) 4 = 5
    · rw [sp_flt_t (by omega) h5, sp_flt_t (by omega) (e.trans h5)]
    · rw [sp_flt_f (by omega) h5, sp_flt_f (by omega) (by rw [e]; exact h5), e]
  · rw [show (L - i).toNat = 0 by omega]; rfl
theorem sp_mv_s {i : Int} (hi : i < L) (h : sp_eL (t i) = 5) : sp_mvs t L (L - i).toNat i = sp_mvs t L (L - (i + 1)).toNat (i + 1) := by
  rw [sp_mvs_s (by omega) h, show (L - i).toNat - 1 = (L - (i + 1)).toNat by omega]
theorem sp_mv_c {i : Int} (hi : i < L) (h : sp_eL (t i) ≠ 5) : sp_mvs t L (L - i).toNat i = (i, t i, sp_nb t (L - (i + 1)).toNat (i + 1) 0) :: sp_mvs t L (L - (i + 1)).toNat (i + 1) := by
  rw [sp_mvs_c (by omega) h, show (L - i).toNat - 1 = (L - (i + 1)).toNat by omega]
theorem sp_sq_lt {a c : Int} (h : mo_sq t L a = c) (hc : c ≠ 0) : a < L ∧ t a = c := by
  unfold mo_sq at h
  by_cases h1 : a < L
  · rw [if_pos h1] at h; exact ⟨h1, h⟩
  · rw [if_neg h1] at h; exact absurd h.symm hc
theorem sp_sq_e {a : Int} (h : a < L) : mo_sq t L a = t a := by unfold mo_sq; rw [if_pos h]
theorem sp_eL_d {c : Int} (h : c < 98) : sp_eL c = 5 := by
  unfold sp_eL; rw [if_neg (by omega), if_neg (by omega), if_neg (by omega)]
theorem sp_nb_e {i a : Int} (h : i = L ∨ t i = 59) : sp_nb t (L - i).toNat i a = a := by
  rcases h with h | h
  · rw [show (L - i).toNat = 0 by omega]; rfl
  · exact sp_nb_f (by omega)
/-- a move that reads well: it is the first of the moves of the text -/
theorem mo_rd_ok {a a' n : Int} (ha : a ≤ L) (h : mo_rd (mo_sq t L) a a' n 1) : (a < a' ∧ a' ≤ L) ∧ sp_flt t (L - a).toNat a 0 = sp_flt t (L - a').toNat a' 4 ∧ mo_sq t L a = t a ∧ ((a' = L ∨ t a' = 59) → ∃ nb, sp_mvs t L (L - a).toNat a = (a, t a, nb) :: sp_mvs t L (L - a').toNat a' ∧ ((t a = 107 ∨ t a = 116) → nb = n)) ∧ (t a = 107 → 0 ≤ n ∧ n ≤ 9) ∧ (t a = 116 → 1 ≤ n ∧ n ≤ 99) ∧ (t a = 102 ∨ t a = 98 ∨ t a = 107 ∨ t a = 116) := by
  have w1 : ∀ z : Int, 0 ≤ z → z ≤ 9 → rd_w (rd_w (0 * 10) + z) = z := fun z h0 h9 => by
    rw [show (0 : Int) * 10 = 0 by omega, rd_w_id (z := 0) ⟨by omega, by omega⟩, show 0 + z = z by omega, rd_w_id ⟨by omega, by omega⟩]
  have w2 : ∀ y z : Int, 0 ≤ y → y ≤ 9 → 0 ≤ z → z ≤ 9 → rd_w (rd_w (y * 10) + z) = 10 * y + z := fun y z h0 h9 g0 g9 => by
    rw [rd_w_id (z := y * 10) ⟨by omega, by omega⟩, rd_w_id ⟨by omega, by omega⟩]; omega
  rcases h with ⟨h1, h2, -⟩ | ⟨h1, h2, h3, h4, -⟩ | ⟨h1, h2, h3, h4, h5, -⟩ | ⟨h1, h2, h3, h4, h5, -⟩ | ⟨-, -, -, h⟩ | ⟨-, -, -, h⟩ | ⟨-, -, h⟩
  · obtain ⟨g1, g2⟩ : a < L ∧ (t a = 102 ∨ t a = 98) := by
      rcases h1 with h | h
      · have := sp_sq_lt h (by decide); exact ⟨this.1, Or.inl this.2⟩
      · have := sp_sq_lt h (by decide); exact ⟨this.1, Or.inr this.2⟩
    have e : sp_eB (t a) 0 = 4 := by unfold sp_eB sp_eL; rw [if_pos rfl, if_pos (by omega)]
    subst h2
    refine ⟨⟨by omega, by omega⟩, sp_fl_s g1 e (by decide), sp_sq_e g1, fun _ => ⟨_, sp_mv_c g1 (by unfold sp_eL; rw [if_pos (by omega)]; decide), fun h => by omega⟩, by omega, by omega, by omega⟩
  · obtain ⟨g1, g2⟩ := sp_sq_lt h1 (by decide)
    obtain ⟨g3, g4⟩ := sp_sq_lt (t := t) (L := L) (a := a + 1) rfl (by omega)
    rw [← g4] at h2 h4
    have e : sp_eB (t a) 0 = 1 := by rw [g2]; rfl
    have e1 : sp_eB (t (a + 1)) 1 = 4 := by unfold sp_eB; rw [if_neg (by decide), if_pos rfl, if_pos h2]
    obtain rfl : a' = a + 1 + 1 := by omega
    refine ⟨⟨by omega, by omega⟩, by rw [sp_fl_s g1 e (by decide), sp_fl_s g3 e1 (by decide)], sp_sq_e g1, fun hv => ⟨_, by rw [sp_mv_c g1 (by rw [g2]; decide), sp_mv_s g3 (sp_eL_d (by omega))], fun _ => ?_⟩, by omega, by omega, by omega⟩
    rw [sp_nb_t (by omega) h2, show (L - (a + 1)).toNat - 1 = (L - (a + 1 + 1)).toNat by omega, sp_nb_e hv, w1 _ (by omega) (by omega)]; omega
  · obtain ⟨g1, g2⟩ := sp_sq_lt h1 (by decide)
    obtain ⟨g3, g4⟩ := sp_sq_lt (t := t) (L := L) (a := a + 1) rfl (by omega)
    rw [← g4] at h2 h5
    have e : sp_eB (t a) 0 = 2 := by rw [g2]; rfl
    have e1 : sp_eB (t (a + 1)) 2 = 3 := by unfold sp_eB; rw [if_neg (by decide), if_neg (by decide), if_pos rfl, if_pos h2]
    obtain rfl : a' = a + 1 + 1 := by omega
    refine ⟨⟨by omega, by omega⟩, by rw [sp_fl_s g1 e (by decide), sp_fl_s g3 e1 (by decide), sp_fl_34 (fun hl => by rw [← sp_sq_e (t := t) hl]; exact h3)], sp_sq_e g1, fun hv => ⟨_, by rw [sp_mv_c g1 (by rw [g2]; decide), sp_mv_s g3 (sp_eL_d (by omega))], fun _ => ?_⟩, by omega, by omega, by omega⟩
    rw [sp_nb_t (by omega) ⟨by omega, by omega⟩, show (L - (a + 1)).toNat - 1 = (L - (a + 1 + 1)).toNat by omega, sp_nb_e hv, w1 _ (by omega) (by omega)]; omega
  · obtain ⟨g1, g2⟩ := sp_sq_lt h1 (by decide)
    obtain ⟨g3, g4⟩ := sp_sq_lt (t := t) (L := L) (a := a + 1) rfl (by omega)
    obtain ⟨g5, g6⟩ := sp_sq_lt (t := t) (L := L) (a := a + 1 + 1) rfl (by omega)
    rw [← g4] at h2 h5
    rw [← g6] at h3 h5
    have e : sp_eB (t a) 0 = 2 := by rw [g2]; rfl
    have e1 : sp_eB (t (a + 1)) 2 = 3 := by unfold sp_eB; rw [if_neg (by decide), if_neg (by decide), if_pos rfl, if_pos h2]
    have e2 : sp_eB (t (a + 1 + 1)) 3 = 4 := by unfold sp_eB; rw [if_neg (by decide), if_neg (by decide), if_neg (by decide), if_pos rfl, if_pos h3]
    obtain rfl : a' = a + 1 + 1 + 1 := by omega
    refine ⟨⟨by omega, by omega⟩, by rw [sp_fl_s g1 e (by decide), sp_fl_s g3 e1 (by decide), sp_fl_s g5 e2 (by decide)], sp_sq_e g1, fun hv => ⟨_, by rw [sp_mv_c g1 (by rw [g2]; decide), sp_mv_s g3 (sp_eL_d (by omega)), sp_mv_s g5 (sp_eL_d (by omega))], fun _ => ?_⟩, by omega, by omega, by omega⟩
    rw [sp_nb_t (by omega) ⟨by omega, by omega⟩, show (L - (a + 1)).toNat - 1 = (L - (a + 1 + 1)).toNat by omega, w1 _ (by omega) (by omega), sp_nb_t (by omega) h3, show (L - (a + 1 + 1)).toNat - 1 = (L - (a + 1 + 1 + 1)).toNat by omega, sp_nb_e hv, w2 _ _ (by omega) (by omega) (by omega) (by omega)]; omega
  · omega
  · omega
  · omega
theorem mo_rd_no {a a' n : Int} (ha : a ≤ L) (h : mo_rd (mo_sq t L) a a' n 0) : a' ≤ L ∧ a ≤ a' ∧ sp_flt t (L - a).toNat a 0 = a' := by
  rcases h with ⟨-, -, h⟩ | ⟨-, -, -, -, h⟩ | ⟨-, -, -, -, -, h⟩ | ⟨-, -, -, -, -, h⟩ | ⟨h1, h2, h3, -⟩ | ⟨h1, h2, h3, -⟩ | ⟨h1, h3, -⟩
  · omega
  · omega
  · omega
  · omega
  · obtain ⟨g1, g2⟩ := sp_sq_lt h1 (by decide)
    have e : sp_eB (t a) 0 = 1 := by rw [g2]; rfl
    subst h3
    refine ⟨by omega, by omega, ?_⟩
    rw [sp_fl_s g1 e (by decide)]
    exact sp_fl_x (by omega) (fun hl => by rw [sp_sq_e hl] at h2; unfold sp_eB; rw [if_neg (by decide), if_pos rfl, if_neg h2]) (by decide)
  · obtain ⟨g1, g2⟩ := sp_sq_lt h1 (by decide)
    have e : sp_eB (t a) 0 = 2 := by rw [g2]; rfl
    subst h3
    refine ⟨by omega, by omega, ?_⟩
    rw [sp_fl_s g1 e (by decide)]
    exact sp_fl_x (by omega) (fun hl => by rw [sp_sq_e hl] at h2; unfold sp_eB; rw [if_neg (by decide), if_neg (by decide), if_pos rfl, if_neg h2]) (by decide)
  · subst h3
    refine ⟨ha, Int.le_refl _, sp_fl_x ha (fun hl => ?_) (by decide)⟩
    rw [sp_sq_e hl] at h1
    unfold sp_eB sp_eL; rw [if_pos rfl, if_neg (by omega), if_neg (by omega), if_neg (by omega)]
theorem mo_rd_b {s : Int → Int} {a a' n b : Int} (h : mo_rd s a a' n b) : b = 1 ∨ b = 0 := by
  rcases h with ⟨-, -, h⟩ | ⟨-, -, -, -, h⟩ | ⟨-, -, -, -, -, h⟩ | ⟨-, -, -, -, -, h⟩ | ⟨-, -, -, h⟩ | ⟨-, -, -, h⟩ | ⟨-, -, h⟩ <;> omega
/-- behind a move: the end, or the sign between moves, or a fault -/
theorem sp_fl_4 {a : Int} (ha : a ≤ L) : (a = L ∧ sp_flt t (L - a).toNat a 4 = -6) ∨ (a < L ∧ t a = 59 ∧ sp_flt t (L - a).toNat a 4 = sp_flt t (L - (a + 1)).toNat (a + 1) 0 ∧ sp_mvs t L (L - a).toNat a = sp_mvs t L (L - (a + 1)).toNat (a + 1)) ∨ (a < L ∧ t a ≠ 59 ∧ sp_flt t (L - a).toNat a 4 = a) := by
  by_cases h : a < L
  · by_cases h59 : t a = 59
    · exact Or.inr (Or.inl ⟨h, h59, sp_fl_s h (by rw [h59]; rfl) (by decide), sp_mv_s h (sp_eL_d (by omega))⟩)
    · exact Or.inr (Or.inr ⟨h, h59, sp_flt_t (by omega) (by unfold sp_eB sp_eM; rw [if_neg (by decide), if_neg (by decide), if_neg (by decide), if_neg (by decide), if_neg h59])⟩)
  · exact Or.inl ⟨by omega, by rw [show (L - a).toNat = 0 by omega]; rfl⟩
end RDT
