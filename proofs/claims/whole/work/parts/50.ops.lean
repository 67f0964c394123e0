/-! an action changes the present state only -/
theorem rl_R_op {μ μ' ν ν' : rd_Mem} (hR : rl_R μ ν) (h1 : rl_1 μ' ν') (ha : ∀ a : Int, 62 ≤ a → μ' a = μ a) (hj : ∀ j : Int, 476 ≤ j → ν' 1 j = ν 1 j) (ho : ∀ a : Int, a ≠ 1 → ν' a = ν a) : rl_R μ' ν' :=
  ⟨h1, rl_h_c (fun a a0 _ => ha a a0) (by rw [ho 0 (by decide)]) hj hR.2.1, rl_x_c (fun a a0 _ => ha a (by omega)) (by rw [ho 0 (by decide)]) (ho 2 (by decide)) (ho 3 (by decide)) hR.2.2⟩
