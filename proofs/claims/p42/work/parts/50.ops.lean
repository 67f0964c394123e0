/-! an action changes the present state only -/
theorem rl_R_op {μ μ' ν ν' : rd_Mem} (hR : rl_R μ ν) (h1 : rl_1 μ' ν') (ha : ∀ a : Int, 62 ≤ a → μ' a = μ a) (hj : ∀ j : Int, 476 ≤ j → ν' 1 j = ν 1 j) (ho : ∀ a : Int, a ≠ 1 → ν' a = ν a) : rl_R μ' ν' :=
  ⟨h1, rl_h_c (fun a a0 _ => ha a a0) (by rw [ho 0 (by decide)]) hj hR.2.1, rl_x_c (fun a a0 _ => ha a (by omega)) (by rw [ho 0 (by decide)]) (ho 2 (by decide)) (ho 3 (by decide)) hR.2.2⟩
/-- one slide's row changes -/
theorem rl_row_op {μ μ' ν ν' : rd_Mem} {x : Int} (hR : rl_1 μ ν) (hx : sp_th μ x) (hμ : ∀ a : Int, 1 ≤ a → a < 62 → (a < 5 + 5 * x ∨ 5 + 5 * x + 4 < a) → μ' a = μ a) (hν : ∀ j : Int, 0 ≤ j → j < 476 → (j < 156 + 32 * x ∨ 156 + 32 * x + 32 ≤ j) → ν' 1 j = ν 1 j) (h0 : μ' (5 + 5 * x) 0 = μ (5 + 5 * x) 0) (hb : μ' (5 + 5 * x) 1 = 0 ∨ μ' (5 + 5 * x) 1 = 1) (hi : 0 ≤ μ' (5 + 5 * x) 3 ∧ μ' (5 + 5 * x) 3 ≤ 6) (hf : ∀ q : Int, 0 ≤ q → q < μ' (5 + 5 * x) 3 → μ' (5 + 5 * x + 1) q ≤ 9) (htg : ∀ q : Int, 0 ≤ q → q < μ' (5 + 5 * x) 3 → 0 ≤ μ' (5 + 5 * x + 3) q ∧ μ' (5 + 5 * x + 3) q ≤ 99) (hg : rl_g μ' x) (hr : rl_r μ' ν' x) (hs : μ 58 0 = x → μ 58 1 ≤ sp_FS μ' x) : rl_1 μ' ν' := by
  obtain ⟨⟨c1, c2, c3, c4, c5, c6, c7, c8⟩, ⟨d1, d2, d3⟩, hn, hsh⟩ := hR
  have hxr := hx.1
  have ho : ∀ n : Int, 0 ≤ n → n ≤ 9 → n ≠ x → ∀ c : Int, 0 ≤ c → c ≤ 4 → μ' (5 + 5 * n + c) = μ (5 + 5 * n + c) := fun n n0 n9 hne c a b => hμ _ (by omega) (by omega) (by omega)
  have ho0 : ∀ n : Int, 0 ≤ n → n ≤ 9 → n ≠ x → μ' (5 + 5 * n) = μ (5 + 5 * n) := fun n n0 n9 hne => hμ _ (by omega) (by omega) (by omega)
  have hth : ∀ n, sp_th μ' n ↔ sp_th μ n := fun n => by
    unfold sp_th
    by_cases hne : n = x
    · rw [hne, h0]
    · constructor
      · rintro ⟨h1, h2⟩; exact ⟨h1, by rw [← ho0 n h1.1 (by omega) hne]; exact h2⟩
      · rintro ⟨h1, h2⟩; exact ⟨h1, by rw [ho0 n h1.1 (by omega) hne]; exact h2⟩
  have e1 := hμ 1 (by omega) (by omega) (by omega)
  have e2 := hμ 2 (by omega) (by omega) (by omega)
  have e3 := hμ 3 (by omega) (by omega) (by omega)
  have e55 : ∀ a : Int, 55 ≤ a → a < 62 → μ' a = μ a := fun a a0 a1 => hμ a (by omega) a1 (by omega)
  have hpl : ∀ n, sp_pl μ' n = sp_pl μ n := fun n => by unfold sp_pl; rw [e3, e2]
  have hFS : ∀ n : Int, 0 ≤ n → n ≤ 9 → n ≠ x → sp_FS μ' n = sp_FS μ n := fun n n0 n9 hne => by
    unfold sp_FS; rw [ho0 n n0 n9 hne, ho n n0 n9 hne 1 (by omega) (by omega), ho n n0 n9 hne 2 (by omega) (by omega)]
  refine ⟨⟨⟨by unfold sp_cnt; rw [e2]; exact c1.1, fun i i0 i1 => ?_, fun i i0 i1 q q0 q6 q7 => ?_, by rw [e55 58 (by omega) (by omega)]; exact c1.2.2.2⟩, fun i i0 i1 => ?_, by unfold sp_nt; rw [e55 55 (by omega) (by omega)]; exact c3, fun n h => by rw [hpl, e2]; exact c4 n ((hth n).mp h), fun i i0 i1 q q0 q1 => ?_, fun k k0 k1 => by rw [e55 58 (by omega) (by omega)] at k1; rw [e55 60 (by omega) (by omega)]; exact c6 k k0 k1, fun i i0 i1 => by rw [e2] at i1; rw [e3, hth, hpl]; exact c7 i i0 i1, fun n n0 n9 => ?_⟩, ⟨by rw [hν 0 (by omega) (by omega) (by omega), e2]; exact d1, fun i i0 i1 => by have := c1.1; unfold sp_cnt at this; rw [e2] at i1; rw [hν _ (by omega) (by omega) (by omega), e3]; exact d2 i i0 i1, fun n n0 n9 => ?_⟩, rl_n_c e1 (e55 55 (by omega) (by omega)) (e55 56 (by omega) (by omega)) (e55 57 (by omega) (by omega)) (fun j hj => hν j (by omega) (by omega) (by omega)) c3 hn, ?_⟩
  · by_cases hne : i = x
    · rw [hne]; exact hi
    · rw [ho0 i i0 (by omega) hne]; exact c1.2.1 i i0 i1
  · by_cases hne : i = x
    · rw [hne] at q7 ⊢; exact hf q q0 q7
    · rw [ho0 i i0 (by omega) hne] at q7; rw [ho i i0 (by omega) hne 1 (by omega) (by omega)]; exact c1.2.2.1 i i0 i1 q q0 q6 q7
  · have g := c2 i i0 i1
    rw [show (1 : Int) + 4 + 5 * i = 5 + 5 * i by omega] at g ⊢
    by_cases hne : i = x
    · rw [hne] at g ⊢; rw [h0]; exact ⟨g.1, hb⟩
    · rw [ho0 i i0 (by omega) hne]; exact g
  · by_cases hne : i = x
    · rw [hne] at q1 ⊢; exact htg q q0 q1
    · rw [ho0 i i0 (by omega) hne] at q1; rw [ho i i0 (by omega) hne 3 (by omega) (by omega)]; exact c5 i i0 i1 q q0 q1
  · by_cases hne : n = x
    · rw [hne]; exact ⟨fun _ => hg, fun h => absurd ((hth x).mpr hx) h⟩
    · refine ⟨fun h => ?_, fun h => ?_⟩
      · obtain ⟨g1, g2, g3, g4⟩ := (c8 n n0 n9).1 ((hth n).mp h)
        unfold rl_g
        rw [ho0 n n0 n9 hne, ho n n0 n9 hne 1 (by omega) (by omega), ho n n0 n9 hne 2 (by omega) (by omega), ho n n0 n9 hne 4 (by omega) (by omega)]
        exact ⟨g1, g2, fun k k0 k9 => (g3 k k0 k9).elim Or.inl (fun e => Or.inr ((hth _).mpr e)), g4⟩
      · have g := (c8 n n0 n9).2 (fun e => h ((hth n).mpr e))
        unfold rl_z at g ⊢
        rw [ho0 n n0 n9 hne, ho n n0 n9 hne 4 (by omega) (by omega)]; exact g
  · by_cases hne : n = x
    · rw [hne]; exact ⟨fun _ => hr, fun h => absurd ((hth x).mpr hx) h⟩
    · have hm : ∀ q : Int, 0 ≤ q → q < 32 → mo_o ν' n q = mo_o ν n q := fun q a b => hν _ (by omega) (by omega) (by omega)
      refine ⟨fun h => ?_, fun h => by rw [hm 0 (by omega) (by omega)]; exact (d3 n n0 n9).2 (fun e => h ((hth n).mpr e))⟩
      have hit := c1.2.1 n n0 (by omega)
      obtain ⟨r0, r1, r2, r3, r4, r5⟩ := (d3 n n0 n9).1 ((hth n).mp h)
      unfold rl_r
      rw [ho0 n n0 n9 hne, ho n n0 n9 hne 1 (by omega) (by omega), ho n n0 n9 hne 2 (by omega) (by omega), ho n n0 n9 hne 3 (by omega) (by omega), ho n n0 n9 hne 4 (by omega) (by omega), hm 0 (by omega) (by omega), hm 1 (by omega) (by omega), hm 2 (by omega) (by omega), hm 3 (by omega) (by omega)]
      exact ⟨r0, r1, r2, r3, fun q q0 q1 => by rw [hm _ (by omega) (by omega), hm _ (by omega) (by omega), hm _ (by omega) (by omega)]; exact r4 q q0 q1, fun k k0 k9 => by rw [hm _ (by omega) (by omega)]; exact r5 k k0 k9⟩
  · have e58 := e55 58 (by omega) (by omega)
    rcases hsh with ⟨g1, g2, g3, g4, g5⟩ | ⟨g1, p0, p1, p2, p3, p4, p5, p6, p7, p8⟩
    · left
      rw [hν 29 (by omega) (by omega) (by omega), hν 35 (by omega) (by omega) (by omega), hν 31 (by omega) (by omega) (by omega), e58]
      exact ⟨g1, g2, g3, g4, fun k k0 k1 => by rw [hν _ (by omega) (by omega) (by omega)]; exact g5 k k0 k1⟩
    · right
      have h4 := c1.2.2.2.1
      unfold rl_p
      rw [hν 29 (by omega) (by omega) (by omega), hν 30 (by omega) (by omega) (by omega), hν 31 (by omega) (by omega) (by omega), hν 32 (by omega) (by omega) (by omega), hν 33 (by omega) (by omega) (by omega), hν 34 (by omega) (by omega) (by omega), hν 35 (by omega) (by omega) (by omega), e58, e55 59 (by omega) (by omega), e55 60 (by omega) (by omega), e55 61 (by omega) (by omega), hth]
      refine ⟨g1, p0, p1, p2, p3, p4, p5, p6, ?_, fun q q0 q1 => by rw [hν _ (by omega) (by omega) (by omega), hν _ (by omega) (by omega) (by omega), hν _ (by omega) (by omega) (by omega)]; exact p8 q q0 q1⟩
      by_cases hne : μ 58 0 = x
      · have := hs hne; rw [hne]; exact this
      · rw [hFS _ p0.1.1 (by have := p0.1.2; omega) hne]; exact p7

