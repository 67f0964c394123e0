/-! the history, the text, the report -/
def rl_sh (μ : rd_Mem) (b : Int) : rd_Mem := fun a j => μ (a - 1 + b) j
def rl_sn (ν : rd_Mem) (w : Int) : rd_Mem := fun a j => ν a (j + w)
def rl_h (μ ν : rd_Mem) : Prop := ν 0 1 = μ 62 0 ∧ sp_hp μ ∧ (0 ≤ μ 62 0 ∧ μ 62 0 ≤ 4) ∧ (∀ s t : Int, 0 ≤ s → s < 4 → 0 ≤ t → t < 4 → μ 63 s = μ 63 t → s = t) ∧ ∀ t : Int, 0 ≤ t → t < μ 62 0 → rl_1 (rl_sh μ (64 + 61 * μ 63 t)) (rl_sn ν (476 * (t + 1)))
def rl_x (μ ν : rd_Mem) : Prop := ν 0 3 = μ 308 0 ∧ (0 ≤ μ 308 0 ∧ μ 308 0 ≤ 60) ∧ (∀ j : Int, 0 ≤ j → j < μ 308 0 → ν 2 j = μ 309 j ∧ 32 ≤ μ 309 j ∧ μ 309 j ≤ 126) ∧ ∀ q : Int, 0 ≤ q → q ≤ 3 → ν 3 q = μ 310 q
def rl_R (μ ν : rd_Mem) : Prop := rl_1 μ ν ∧ rl_h μ ν ∧ rl_x μ ν
section RLH
variable {μ μ' ν ν' : rd_Mem}
theorem rl_hi (h : rl_h μ ν) : sp_hi μ := by
  refine ⟨h.2.1, h.2.2.1, fun t t0 t1 i i0 i1 => ?_⟩
  have g := (h.2.2.2.2 t t0 t1).1.2.1 i i0 i1
  unfold rl_sh at g
  rw [show 1 + 4 + 5 * i - 1 + (64 + 61 * μ 63 t) = 64 + 61 * μ 63 t + 4 + 5 * i by omega] at g
  exact g
theorem rl_tx (h : rl_x μ ν) : sp_tx μ := ⟨h.2.1, fun j j0 j1 => by have := h.2.2.1 j j0 j1; omega⟩
theorem rl_RI (h : rl_R μ ν) : sp_inv μ := rl_inv h.1.1 (rl_hi h.2.1) (rl_tx h.2.2)
/-- the history doesn't change where its cells don't -/
theorem rl_h_c (h : ∀ a : Int, 62 ≤ a → a < 308 → μ' a = μ a) (h1 : ν' 0 1 = ν 0 1) (hj : ∀ j : Int, 476 ≤ j → ν' 1 j = ν 1 j) (hh : rl_h μ ν) : rl_h μ' ν' := by
  obtain ⟨g1, g2, g3, g4, g5⟩ := hh
  unfold rl_h sp_hp
  rw [h 62 (by omega) (by omega), h 63 (by omega) (by omega), h1]
  refine ⟨g1, g2, g3, g4, fun t t0 t1 => ?_⟩
  have hx := g2 t t0 (by omega)
  refine rl_1_c (fun a a0 a1 => ?_) (fun j j0 j1 => ?_) (g5 t t0 t1)
  · unfold rl_sh; exact h _ (by omega) (by omega)
  · unfold rl_sn; exact hj _ (by omega)
theorem rl_x_c (h : ∀ a : Int, 308 ≤ a → a < 311 → μ' a = μ a) (h3 : ν' 0 3 = ν 0 3) (h2 : ν' 2 = ν 2) (hr : ν' 3 = ν 3) (hx : rl_x μ ν) : rl_x μ' ν' := by
  unfold rl_x
  rw [h 308 (by omega) (by omega), h 309 (by omega) (by omega), h 310 (by omega) (by omega), h3, h2, hr]
  exact hx
end RLH

