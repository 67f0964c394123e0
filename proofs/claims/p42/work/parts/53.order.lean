/-! the order -/
theorem sp_ord_rm {T : Int → Prop} {o : Int → Int} {c p : Int} (h : sp_ord T o c) (p0 : 0 ≤ p) (p1 : p < c) : sp_ord (fun n => T n ∧ n ≠ o p) (fun j => if p ≤ j ∧ j < c - 1 then o (j + 1) else o j) (c - 1) := by
  obtain ⟨h1, h2, h3⟩ := h
  have e1 : ∀ i : Int, p ≤ i → i < c - 1 → (if p ≤ i ∧ i < c - 1 then o (i + 1) else o i) = o (i + 1) := fun i a b => if_pos ⟨a, b⟩
  have e2 : ∀ i : Int, i < p → (if p ≤ i ∧ i < c - 1 then o (i + 1) else o i) = o i := fun i a => if_neg (fun g => by omega)
  refine ⟨fun i i0 i1 => ?_, fun i j i0 i1 j0 j1 e => ?_, fun n hn => ?_⟩
  · show T (if p ≤ i ∧ i < c - 1 then o (i + 1) else o i) ∧ (if p ≤ i ∧ i < c - 1 then o (i + 1) else o i) ≠ o p
    by_cases hi : i < p
    · rw [e2 i hi]; exact ⟨h1 i i0 (by omega), fun e => by have := h2 p i p0 p1 i0 (by omega) e; omega⟩
    · rw [e1 i (by omega) i1]; exact ⟨h1 (i + 1) (by omega) (by omega), fun e => by have := h2 p (i + 1) p0 p1 (by omega) (by omega) e; omega⟩
  · replace e : (if p ≤ j ∧ j < c - 1 then o (j + 1) else o j) = (if p ≤ i ∧ i < c - 1 then o (i + 1) else o i) := e
    by_cases hi : i < p
    · by_cases hj : j < p
      · rw [e2 i hi, e2 j hj] at e; exact h2 i j i0 (by omega) j0 (by omega) e
      · rw [e2 i hi, e1 j (by omega) j1] at e; have := h2 i (j + 1) i0 (by omega) (by omega) (by omega) e; omega
    · by_cases hj : j < p
      · rw [e1 i (by omega) i1, e2 j hj] at e; have := h2 (i + 1) j (by omega) (by omega) j0 (by omega) e; omega
      · rw [e1 i (by omega) i1, e1 j (by omega) j1] at e; have := h2 (i + 1) (j + 1) (by omega) (by omega) (by omega) (by omega) e; omega
  · obtain ⟨i, i0, i1, e⟩ := h3 n hn.1
    by_cases hi : i < p
    · exact ⟨i, i0, by omega, by rw [← e]; exact e2 i hi⟩
    · have hip : i ≠ p := fun g => hn.2 (by rw [← g]; exact e.symm)
      refine ⟨i - 1, by omega, by omega, ?_⟩
      show (if p ≤ i - 1 ∧ i - 1 < c - 1 then o (i - 1 + 1) else o (i - 1)) = n
      rw [e1 (i - 1) (by omega) (by omega), show i - 1 + 1 = i by omega]; exact e
theorem sp_ord_in {T : Int → Prop} {o : Int → Int} {c q x : Int} (h : sp_ord T o c) (hx : ¬ T x) (q0 : 0 ≤ q) (q1 : q ≤ c) : sp_ord (fun n => T n ∨ n = x) (fun j => if j = q then x else if q < j ∧ j ≤ c then o (j - 1) else o j) (c + 1) := by
  obtain ⟨h1, h2, h3⟩ := h
  have eq : (if q = q then x else if q < q ∧ q ≤ c then o (q - 1) else o q) = x := if_pos rfl
  have e1 : ∀ i : Int, q < i → i < c + 1 → (if i = q then x else if q < i ∧ i ≤ c then o (i - 1) else o i) = o (i - 1) := fun i a b => by rw [if_neg (by omega), if_pos ⟨a, by omega⟩]
  have e2 : ∀ i : Int, i < q → (if i = q then x else if q < i ∧ i ≤ c then o (i - 1) else o i) = o i := fun i a => by rw [if_neg (by omega), if_neg (by omega)]
  have hne : ∀ i : Int, 0 ≤ i → i < c → o i ≠ x := fun i i0 i1 e => hx (by rw [← e]; exact h1 i i0 i1)
  refine ⟨fun i i0 i1 => ?_, fun i j i0 i1 j0 j1 e => ?_, fun n hn => ?_⟩
  · show T (if i = q then x else if q < i ∧ i ≤ c then o (i - 1) else o i) ∨ (if i = q then x else if q < i ∧ i ≤ c then o (i - 1) else o i) = x
    rcases Int.lt_trichotomy i q with hi | hi | hi
    · rw [e2 i hi]; exact Or.inl (h1 i i0 (by omega))
    · rw [hi, eq]; exact Or.inr rfl
    · rw [e1 i hi i1]; exact Or.inl (h1 _ (by omega) (by omega))
  · replace e : (if j = q then x else if q < j ∧ j ≤ c then o (j - 1) else o j) = (if i = q then x else if q < i ∧ i ≤ c then o (i - 1) else o i) := e
    rcases Int.lt_trichotomy i q with hi | hi | hi <;> rcases Int.lt_trichotomy j q with hj | hj | hj
    · rw [e2 i hi, e2 j hj] at e; exact h2 i j i0 (by omega) j0 (by omega) e
    · rw [e2 i hi, hj, eq] at e; exact absurd e.symm (hne i i0 (by omega))
    · rw [e2 i hi, e1 j hj j1] at e; have := h2 i (j - 1) i0 (by omega) (by omega) (by omega) e; omega
    · rw [hi, eq, e2 j hj] at e; exact absurd e (hne j j0 (by omega))
    · omega
    · rw [hi, eq, e1 j hj j1] at e; exact absurd e (hne _ (by omega) (by omega))
    · rw [e1 i hi i1, e2 j hj] at e; have := h2 (i - 1) j (by omega) (by omega) j0 (by omega) e; omega
    · rw [e1 i hi i1, hj, eq] at e; exact absurd e.symm (hne _ (by omega) (by omega))
    · rw [e1 i hi i1, e1 j hj j1] at e; have := h2 (i - 1) (j - 1) (by omega) (by omega) (by omega) (by omega) e; omega
  · rcases hn with hn | hn
    · obtain ⟨i, i0, i1, e⟩ := h3 n hn
      by_cases hi : i < q
      · exact ⟨i, i0, by omega, by rw [← e]; exact e2 i hi⟩
      · refine ⟨i + 1, by omega, by omega, ?_⟩
        show (if i + 1 = q then x else if q < i + 1 ∧ i + 1 ≤ c then o (i + 1 - 1) else o (i + 1)) = n
        rw [e1 (i + 1) (by omega) (by omega), show i + 1 - 1 = i by omega]; exact e
    · exact ⟨q, q0, by omega, by rw [hn]; exact eq⟩
theorem rd_dfo_s (μ : rd_Mem) (p : Int) : rd_dfo μ p 2 0 = μ 2 0 - 1 ∧ (∀ j : Int, rd_dfo μ p 3 j = (if p ≤ j ∧ j < μ 2 0 - 1 then μ 3 (j + 1) else μ 3 j)) ∧ ∀ a : Int, a ≠ 2 → a ≠ 3 → rd_dfo μ p a = μ a := by
  refine ⟨?_, fun j => ?_, fun a h2 h3 => ?_⟩
  · unfold rd_dfo rd_dfk; exact if_pos ⟨rfl, rfl⟩
  · unfold rd_dfo rd_dfk; rw [if_neg (fun h => absurd h.1 (by decide))]
    by_cases h : p ≤ j ∧ j < μ 2 0 - 1
    · rw [if_pos ⟨rfl, h⟩, if_pos h]
    · rw [if_neg (fun g => h g.2), if_neg h]
  · funext b; unfold rd_dfo rd_dfk; rw [if_neg (fun h => h2 h.1), if_neg (fun h => h3 h.1)]
theorem rd_ins_s (μ : rd_Mem) (q x : Int) : rd_ins μ q x 2 0 = μ 2 0 + 1 ∧ (∀ j : Int, rd_ins μ q x 3 j = (if j = q then x else if q < j ∧ j ≤ μ 2 0 then μ 3 (j - 1) else μ 3 j)) ∧ ∀ a : Int, a ≠ 2 → a ≠ 3 → rd_ins μ q x a = μ a := by
  refine ⟨rd_u_s _ _ _ _, fun j => ?_, fun a h2 h3 => ?_⟩
  · unfold rd_ins
    rw [rd_u_k _ _ _ (by decide)]
    by_cases h : j = q
    · rw [h, rd_u_s, if_pos rfl]
    · rw [rd_u_j _ _ _ h, if_neg h]
      unfold rd_pio
      by_cases h2 : q < j ∧ j ≤ μ 2 0
      · rw [if_pos ⟨rfl, h2⟩, if_pos h2]
      · rw [if_neg (fun g => h2 g.2), if_neg h2]
  · unfold rd_ins; rw [rd_u_ne _ _ _ h2, rd_u_ne _ _ _ h3]; funext b; unfold rd_pio; rw [if_neg (fun h => h3 h.1)]
theorem mo_to_s (ν : rd_Mem) (p : Int) : mo_to ν p 1 0 = ν 1 0 - 1 ∧ (∀ j : Int, 0 ≤ j → mo_to ν p 1 (1 + j) = (if p ≤ j ∧ j < ν 1 0 - 1 then ν 1 (1 + (j + 1)) else ν 1 (1 + j))) ∧ (∀ b : Int, ν 1 0 ≤ b → 0 < b → mo_to ν p 1 b = ν 1 b) ∧ ∀ a : Int, a ≠ 1 → mo_to ν p a = ν a := by
  refine ⟨?_, fun j j0 => ?_, fun b h h0 => ?_, fun a h => ?_⟩
  · unfold mo_to mo_tk; exact if_pos ⟨rfl, rfl⟩
  · unfold mo_to mo_tk; rw [if_neg (fun h => by have := h.2; omega)]
    by_cases h : p ≤ j ∧ j < ν 1 0 - 1
    · rw [if_pos ⟨rfl, by omega, by omega⟩, if_pos h, show 1 + j + 1 = 1 + (j + 1) by omega]
    · rw [if_neg (fun g => h ⟨by have := g.2.1; omega, by have := g.2.2; omega⟩), if_neg h]
  · unfold mo_to mo_tk; rw [if_neg (fun g => by have := g.2; omega), if_neg (fun g => by have := g.2.2; omega)]
  · funext b; unfold mo_to mo_tk; rw [if_neg (fun g => h g.1), if_neg (fun g => h g.1)]
theorem mo_in_s (ν : rd_Mem) {q x : Int} (q0 : 0 ≤ q) (c0 : 0 ≤ ν 1 0) (hq : q ≤ ν 1 0) : mo_in ν q x 1 0 = ν 1 0 + 1 ∧ (∀ j : Int, 0 ≤ j → mo_in ν q x 1 (1 + j) = (if j = q then x else if q < j ∧ j ≤ ν 1 0 then ν 1 (1 + (j - 1)) else ν 1 (1 + j))) ∧ (∀ b : Int, 1 + ν 1 0 < b → mo_in ν q x 1 b = ν 1 b) ∧ ∀ a : Int, a ≠ 1 → mo_in ν q x a = ν a := by
  have e0 : mo_up ν q 1 0 = ν 1 0 := by unfold mo_up; exact if_neg (fun g => by have := g.2.1; omega)
  refine ⟨by unfold mo_in; rw [rd_u_s, e0], fun j j0 => ?_, fun b hb => ?_, fun a h => ?_⟩
  · unfold mo_in
    rw [rd_u_j _ _ _ (by omega)]
    by_cases h : j = q
    · rw [h, rd_u_s, if_pos rfl]
    · rw [rd_u_j _ _ _ (by omega), if_neg h]
      unfold mo_up
      by_cases h2 : q < j ∧ j ≤ ν 1 0
      · rw [if_pos ⟨rfl, by omega, by omega⟩, if_pos h2, show 1 + j - 1 = 1 + (j - 1) by omega]
      · rw [if_neg (fun g => h2 ⟨by have := g.2.1; omega, by have := g.2.2; omega⟩), if_neg h2]
  · unfold mo_in; rw [rd_u_j _ _ _ (by omega), rd_u_j _ _ _ (by omega)]; unfold mo_up; exact if_neg (fun g => by have := g.2.2; omega)
  · unfold mo_in; rw [rd_u_ne _ _ _ h, rd_u_ne _ _ _ h]; funext b; unfold mo_up; exact if_neg (fun g => h g.1)

