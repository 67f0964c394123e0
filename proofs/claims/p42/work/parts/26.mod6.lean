theorem mo_cp_o (μ : rd_Mem) (f t k : Int) {a : Int} (h : a ≠ 1) : mo_cp μ f t k a = μ a := by
  funext b; unfold mo_cp; rw [if_neg (fun g => h g.1)]
def mo_un (μ : rd_Mem) : rd_Mem := rd_u (mo_cp μ (μ 0 1) 0 476) 0 1 (μ 0 1 - 1)
theorem mo_nnp {μ : rd_Mem} {x : Int} {k : Nat} (hx : x = (sp_lat (fun i => μ 1 (12 + 2 * i)) (fun i => μ 1 (12 + 2 * i + 1)) (μ 1 32) k).2) (hk : μ 1 29 ≠ 1 → k = 0) (h : μ 1 29 = 1 → k = (μ 1 11).toNat) : (μ 1 29 ≠ 1 ∧ some (rd_I x) = some (rd_I (-6)) ∧ μ = μ) ∨ (μ 1 29 = 1 ∧ some (rd_I x) = some (rd_I (sp_lat (fun i => μ 1 (12 + 2 * i)) (fun i => μ 1 (12 + 2 * i + 1)) (μ 1 32) (μ 1 11).toNat).2) ∧ μ = μ) := by
  by_cases h9 : μ 1 29 = 1
  · exact Or.inr ⟨h9, by rw [hx, h h9], rfl⟩
  · exact Or.inl ⟨h9, by rw [hx, hk h9]; rfl, rfl⟩
theorem sp_bit0 : ∀ x : Fin 64, ∀ k : Fin 6, rd_i (x.val : Int) >>> (rd_i (k.val : Int) &&& 31) = rd_i ((x.val : Int) / 2 ^ k.val) ∧ rd_i ((x.val : Int) / 2 ^ k.val) &&& rd_i 1 = rd_i ((x.val : Int) / 2 ^ k.val % 2) := by decide +kernel
theorem sp_bit {x : Int} {k : Nat} (h0 : 0 ≤ x) (h1 : x < 64) (hk : k < 6) : rd_i x >>> (rd_i (k : Int) &&& 31) = rd_i (x / 2 ^ k) ∧ rd_i (x / 2 ^ k) &&& rd_i 1 = rd_i (x / 2 ^ k % 2) := by
  have := sp_bit0 ⟨x.toNat, by omega⟩ ⟨k, hk⟩
  simp only at this
  rw [show ((x.toNat : Nat) : Int) = x by omega] at this
  exact this
theorem sp_mask_r6 (f l : Int → Int) (st : Int) {n : Nat} (h : n ≤ 6) : 0 ≤ sp_mask f l st n ∧ sp_mask f l st n < 64 := by
  have h1 := sp_mask_r f l st n
  have h2 : (2 : Int) ^ n ≤ 64 := by
    have : n = 0 ∨ n = 1 ∨ n = 2 ∨ n = 3 ∨ n = 4 ∨ n = 5 ∨ n = 6 := by omega
    rcases this with rfl | rfl | rfl | rfl | rfl | rfl | rfl <;> decide
  omega
theorem sp_mask_b (f l : Int → Int) (st : Int) {n k : Nat} (h : n ≤ 6) (hk : k < 6) : (k < n ∧ sp_seen f l k st ∧ sp_mask f l st n / 2 ^ k % 2 = 1) ∨ (¬ (k < n ∧ sp_seen f l k st) ∧ sp_mask f l st n / 2 ^ k % 2 = 0) := by
  induction n with
  | zero => exact Or.inr ⟨fun h => by omega, by simp [sp_mask]⟩
  | succ n ih =>
    have ih' := ih (by omega)
    have hr := sp_mask_r f l st n
    simp only [sp_mask]
    have hn : n = 0 ∨ n = 1 ∨ n = 2 ∨ n = 3 ∨ n = 4 ∨ n = 5 := by omega
    have hk6 : k = 0 ∨ k = 1 ∨ k = 2 ∨ k = 3 ∨ k = 4 ∨ k = 5 := by omega
    by_cases hs : sp_seen f l n st
    · rw [sp_ift hs]
      by_cases hkn : k = n
      · refine Or.inl ⟨by omega, by rw [hkn]; exact hs, ?_⟩
        rcases hn with rfl | rfl | rfl | rfl | rfl | rfl <;> subst hkn <;> omega
      · rcases ih' with ⟨g1, g2, g3⟩ | ⟨g1, g3⟩
        · refine Or.inl ⟨by omega, g2, ?_⟩
          rcases hn with rfl | rfl | rfl | rfl | rfl | rfl <;> rcases hk6 with rfl | rfl | rfl | rfl | rfl | rfl <;> first | (exfalso; omega) | omega
        · refine Or.inr ⟨fun h => g1 ⟨by omega, h.2⟩, ?_⟩
          rcases hn with rfl | rfl | rfl | rfl | rfl | rfl <;> rcases hk6 with rfl | rfl | rfl | rfl | rfl | rfl <;> first | (exfalso; omega) | omega
    · rw [sp_iff hs, Int.add_zero]
      rcases ih' with ⟨g1, g2, g3⟩ | ⟨g1, g3⟩
      · exact Or.inl ⟨by omega, g2, g3⟩
      · refine Or.inr ⟨fun h => ?_, g3⟩
        by_cases hkn : k = n
        · rw [hkn] at h; exact hs h.2
        · exact g1 ⟨by omega, h.2⟩
noncomputable def mo_tg (μ : rd_Mem) (n t : Int) : Nat → Int := sp_tags (fun q => mo_o μ n (4 + 3 * q)) (fun q => mo_o μ n (4 + 3 * q + 1)) (fun q => mo_o μ n (4 + 3 * q + 2)) t
