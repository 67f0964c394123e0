/-! the check reads the text -/
def mo_sq (t : Int → Int) (L a : Int) : Int := if a < L then t a else 0
def mo_w3 (μ : rd_Mem) (a l n : Int) : rd_Mem := fun p q => if p = 0 ∧ q = 4 then a else if p = 0 ∧ q = 5 then l else if p = 0 ∧ q = 6 then n else μ p q
def mo_rd (s : Int → Int) (a a' n b : Int) : Prop := ((s a = 102 ∨ s a = 98) ∧ a' = a + 1 ∧ b = 1) ∨ (s a = 107 ∧ (48 ≤ s (a + 1) ∧ s (a + 1) ≤ 57) ∧ a' = a + 2 ∧ n = s (a + 1) - 48 ∧ b = 1) ∨ (s a = 116 ∧ (49 ≤ s (a + 1) ∧ s (a + 1) ≤ 57) ∧ ¬ (48 ≤ s (a + 1 + 1) ∧ s (a + 1 + 1) ≤ 57) ∧ a' = a + 2 ∧ n = s (a + 1) - 48 ∧ b = 1) ∨ (s a = 116 ∧ (49 ≤ s (a + 1) ∧ s (a + 1) ≤ 57) ∧ (48 ≤ s (a + 1 + 1) ∧ s (a + 1 + 1) ≤ 57) ∧ a' = a + 3 ∧ n = 10 * (s (a + 1) - 48) + s (a + 1 + 1) - 48 ∧ b = 1) ∨ (s a = 107 ∧ ¬ (48 ≤ s (a + 1) ∧ s (a + 1) ≤ 57) ∧ a' = a + 1 ∧ b = 0) ∨ (s a = 116 ∧ ¬ (49 ≤ s (a + 1) ∧ s (a + 1) ≤ 57) ∧ a' = a + 1 ∧ b = 0) ∨ ((s a ≠ 102 ∧ s a ≠ 98 ∧ s a ≠ 107 ∧ s a ≠ 116) ∧ a' = a ∧ b = 0)
theorem rd_u_id (μ : rd_Mem) (k j : Int) : rd_u μ k j (μ k j) = μ := by
  funext a b; unfold rd_u; grind
theorem rd_u_o (μ : rd_Mem) {k j z p q : Int} (h : p ≠ k ∨ q ≠ j) : rd_u μ k j z p q = μ p q := by
  unfold rd_u
  by_cases hp : p = k
  · rw [if_pos hp, if_neg (h.resolve_left (not_not_intro hp))]
  · rw [if_neg hp]
theorem mo_w3_e {μ ν : rd_Mem} {a l n : Int} (h4 : ν 0 4 = a) (h5 : ν 0 5 = l) (h6 : ν 0 6 = n) (h : ∀ p q : Int, (p ≠ 0 ∨ (q ≠ 4 ∧ q ≠ 5 ∧ q ≠ 6)) → ν p q = μ p q) : ν = mo_w3 μ a l n := by
  funext p q
  unfold mo_w3
  by_cases h1 : p = 0 ∧ q = 4
  · rw [if_pos h1, h1.1, h1.2, h4]
  · rw [if_neg h1]
    by_cases h2 : p = 0 ∧ q = 5
    · rw [if_pos h2, h2.1, h2.2, h5]
    · rw [if_neg h2]
      by_cases h3 : p = 0 ∧ q = 6
      · rw [if_pos h3, h3.1, h3.2, h6]
      · rw [if_neg h3]; exact h p q (by omega)
theorem rd_u_id' (μ : rd_Mem) {k j z : Int} (h : z = μ k j) : rd_u μ k j z = μ := by rw [h]; exact rd_u_id μ k j
