def mo_dk (ν : rd_Mem) (x q k : Int) : rd_Mem := fun a b => if a = 1 ∧ (156 + 32 * x + 4 + 3 * q ≤ b ∧ b < 156 + 32 * x + 4 + k) then ν 1 (b + 3) else ν a b
def mo_di (ν : rd_Mem) (x q : Int) : rd_Mem := rd_u (mo_dk ν x q (3 * (mo_o ν x 3 - 1))) 1 (156 + 32 * x + 3) (mo_o ν x 3 - 1)
theorem mo_di_it {ν : rd_Mem} {x q : Int} (hx : 0 ≤ x ∧ x ≤ 9) (hi : mo_it ν x) (hq : 0 ≤ q ∧ q ≤ mo_o ν x 3 - 1) : mo_it (mo_di ν x q) x := by
  obtain ⟨⟨h1, h2⟩, h3⟩ := hi
  have e3 : mo_o (mo_di ν x q) x 3 = mo_o ν x 3 - 1 := rd_u_s _ _ _ _
  have e : ∀ i c : Int, 0 ≤ i → i < mo_o ν x 3 - 1 → 0 ≤ c ∧ c ≤ 2 → mo_di ν x q 1 (156 + 32 * x + (4 + 3 * i + c)) = ν 1 (156 + 32 * x + (4 + 3 * (if q ≤ i then i + 1 else i) + c)) := by
    intro i c i0 i1 hc
    unfold mo_di
    rw [rd_u_j _ _ _ (by omega)]
    unfold mo_dk
    by_cases hqi : q ≤ i
    · rw [if_pos hqi, if_pos ⟨rfl, by omega, by omega⟩]; congr 1; omega
    · rw [if_neg hqi, if_neg (by omega)]
  refine ⟨⟨by rw [e3]; omega, by rw [e3]; omega⟩, fun i i0 i1 => ?_⟩
  rw [e3] at i1
  have e0 := e i 0 i0 i1 (by omega)
  have e1 := e i 1 i0 i1 (by omega)
  simp only [Int.add_zero] at e0
  show (0 ≤ mo_di ν x q 1 (156 + 32 * x + (4 + 3 * i)) ∧ mo_di ν x q 1 (156 + 32 * x + (4 + 3 * i)) ≤ 9) ∧ (-1 ≤ mo_di ν x q 1 (156 + 32 * x + (4 + 3 * i + 1)) ∧ mo_di ν x q 1 (156 + 32 * x + (4 + 3 * i + 1)) ≤ 9)
  rw [e0, e1]
  exact h3 _ (by split <;> omega) (by split <;> omega)
noncomputable def mo_cl (ρ : rd_Mem) (x : Int) : rd_Mem := sp_ite (ρ 1 29 = 1 ∧ ρ 1 30 = x ∧ mo_FS ρ x < ρ 1 31) (rd_u ρ 1 31 (mo_FS ρ x)) ρ
def mo_st (ν : rd_Mem) (n : Int) : rd_Mem := rd_u (rd_u (rd_u (rd_u (rd_u (rd_u (rd_u ν 1 29 1) 1 30 n) 1 31 0) 1 32 0) 1 33 0) 1 34 0) 1 35 0
theorem sp_fb_cl {p q : Int → Prop} {n : Nat} (h : ∀ i : Int, 0 ≤ i → i < n → (p i ↔ q i)) : sp_fb p n = sp_fb q n := by
  induction n with
  | zero => rfl
  | succ n ih =>
    simp only [sp_fb]
    rw [ih (fun i h0 h1 => h i h0 (by omega)), propext (h n (by omega) (by omega))]
theorem mo_cf_c {μ ν : rd_Mem} (h : ∀ j : Int, 0 ≤ j ∧ j < 476 → ν 1 j = μ 1 j) (hI : mo_I μ) (h29 : μ 1 29 = 1) : mo_cf ν ↔ mo_cf μ := by
  have ha := mo_I_at hI h29
  have hc := hI.1.1
  unfold mo_cf
  rw [h 31 (by omega), h 30 (by omega), mo_FS_c (fun j a b => h j (by omega)) ha.1.1 ha.1.2 ha.2.1.1.2, mo_pl_c (fun j a b => h j (by omega)) hc.1, mo_nx_c (fun j hj => h j (by omega)) hc (by have := ha.2.2.1; omega)]
theorem mo_bp_c {μ ν : rd_Mem} (h : ∀ j : Int, 0 ≤ j ∧ j < 476 → ν 1 j = μ 1 j) (h4 : 0 ≤ μ 1 35 ∧ μ 1 35 ≤ 40) : mo_bp ν = mo_bp μ := by
  unfold mo_bp
  rw [h 35 (by omega)]
  refine sp_fb_cl (fun i i0 i1 => ?_)
  have e1 := h (36 + 3 * i) (by omega)
  have e2 := h (36 + 3 * i + 2) (by omega)
  have ht := mo_t_c (μ := μ) (ν := ν) (fun j a b => h j (by omega)) (μ 1 (36 + 3 * i))
  unfold mo_bpp
  rw [e1, e2, ht]
  constructor
  · rintro ⟨g1, g2⟩
    have e3 : mo_o ν (μ 1 (36 + 3 * i)) 1 = mo_o μ (μ 1 (36 + 3 * i)) 1 := h _ (by have := g1.1; omega)
    exact ⟨g1, by rw [← e3]; exact g2⟩
  · rintro ⟨g1, g2⟩
    have e3 : mo_o ν (μ 1 (36 + 3 * i)) 1 = mo_o μ (μ 1 (36 + 3 * i)) 1 := h _ (by have := g1.1; omega)
    exact ⟨g1, by rw [e3]; exact g2⟩
theorem mo_bp_r0 (μ : rd_Mem) (h5 : 0 ≤ μ 1 35) : mo_bp μ = -1 ∨ (0 ≤ mo_bp μ ∧ mo_bp μ < μ 1 35) := by
  unfold mo_bp
  rcases sp_fb_spec (mo_bpp μ) (μ 1 35).toNat with ⟨h1, -⟩ | ⟨h1, h2, -⟩
  · exact Or.inl h1
  · exact Or.inr (by omega)
