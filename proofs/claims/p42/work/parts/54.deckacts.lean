/-! a slide is moved, added, removed -/
section RLD
variable {μ ν : rd_Mem} {x : Int}
theorem rl_move (hR : rl_1 μ ν) (hx : sp_th μ x) {q : Int} (hq : 0 ≤ q ∧ q ≤ μ 2 0 - 1) : rl_1 (rd_ins (rd_dfo μ (sp_pl μ x)) q x) (mo_in (mo_to ν (mo_pl ν x)) q x) := by
  obtain ⟨⟨p0, p1⟩, p2⟩ := rl_os hR.1 hx
  rw [rl_pl hR.2.1]
  generalize sp_pl μ x = p at p0 p1 p2 ⊢
  have hcn := hR.1.1.1
  unfold sp_cnt at hcn
  obtain ⟨d1, d2, d3⟩ := rd_dfo_s μ p
  obtain ⟨i1, i2, i3⟩ := rd_ins_s (rd_dfo μ p) q x
  obtain ⟨t1, t2, t3, t4⟩ := mo_to_s ν p
  have hν0 := hR.2.1.1
  obtain ⟨n1, n2, n3, n4⟩ := mo_in_s (mo_to ν p) (q := q) (x := x) hq.1 (by rw [t1, hν0]; omega) (by rw [t1, hν0]; omega)
  rw [d1] at i1 i2
  rw [t1, hν0] at n1 n2 n3
  rw [hν0] at t2 t3
  generalize hM : rd_ins (rd_dfo μ p) q x = M at i1 i2 i3 ⊢
  generalize hN : mo_in (mo_to ν p) q x = N at n1 n2 n3 n4 ⊢
  have mo : ∀ a : Int, a ≠ 2 → a ≠ 3 → M a = μ a := fun a h2 h3 => by rw [i3 a h2 h3, d3 a h2 h3]
  have no : ∀ b : Int, 11 ≤ b → N 1 b = ν 1 b := fun b hb => by rw [n3 b (by omega), t3 b (by omega) (by omega)]
  have hth : ∀ n, sp_th M n ↔ sp_th μ n := fun n => by
    unfold sp_th
    constructor
    · rintro ⟨h1, h2⟩; rw [mo _ (by omega) (by omega)] at h2; exact ⟨h1, h2⟩
    · rintro ⟨h1, h2⟩; exact ⟨h1, by rw [mo _ (by omega) (by omega)]; exact h2⟩
  have hM2 : M 2 0 = μ 2 0 := by rw [i1]; omega
  have ho := sp_ord_in (sp_ord_rm (rl_ord hR.1) p0 p1) (q := q) (x := x) (fun h => h.2 p2.symm) hq.1 (by omega)
  have ho2 : sp_ord (sp_th M) (M 3) (M 2 0) := by
    refine sp_ord_c ho (fun n => ?_) (by omega) (fun i i0 i1' => ?_)
    · rw [hth]
      constructor
      · intro h; by_cases hn : n = x
        · exact Or.inr hn
        · exact Or.inl ⟨h, by rw [p2]; exact hn⟩
      · rintro (h | h)
        · exact h.1
        · rw [h]; exact hx
    · rw [i2]
      show _ = (if i = q then x else if q < i ∧ i ≤ μ 2 0 - 1 then (if p ≤ i - 1 ∧ i - 1 < μ 2 0 - 1 then μ 3 (i - 1 + 1) else μ 3 (i - 1)) else (if p ≤ i ∧ i < μ 2 0 - 1 then μ 3 (i + 1) else μ 3 i))
      rw [d2, d2]
  refine rl_deck hR (mo 1 (by omega) (by omega)) (fun a a0 _ => mo a (by omega) (by omega)) (fun j j0 _ => no j j0) (by rw [hM2]; exact hcn) ho2 (by rw [n1, hM2]; omega) (fun i i0 i1' => ?_) (fun n n0 n9 => rl_k_c n0 n9 (fun c c0 _ => mo _ (by omega) (by omega)) (fun m h => (hth m).mpr h) (fun k k0 k1 => no _ (by omega)) (rl_rk hR n0 n9)) (fun h => ⟨(hth _).mpr h, ?_⟩)
  · rw [n2 i i0, i2]
    have hord : ∀ j : Int, 0 ≤ j → j < μ 2 0 → ν 1 (1 + j) = μ 3 j := hR.2.1.2.1
    have hto : ∀ j : Int, 0 ≤ j → j < μ 2 0 - 1 → mo_to ν p 1 (1 + j) = rd_dfo μ p 3 j := fun j j0 j1 => by
      rw [t2 j j0, d2]
      by_cases h : p ≤ j ∧ j < μ 2 0 - 1
      · rw [if_pos h, if_pos h]; exact hord _ (by omega) (by omega)
      · rw [if_neg h, if_neg h]; exact hord _ j0 (by omega)
    rw [hM2] at i1'
    by_cases h : i = q
    · rw [if_pos h, if_pos h]
    · rw [if_neg h, if_neg h]
      by_cases h2 : q < i ∧ i ≤ μ 2 0 - 1
      · rw [if_pos h2, if_pos h2]; exact hto _ (by omega) (by omega)
      · rw [if_neg h2, if_neg h2]; exact hto _ i0 (by omega)
  · have hp := (rl_pp hR h).2.2.2.2.2.2.2.1
    have hr := h.1
    unfold sp_FS at hp ⊢
    rw [mo _ (by omega) (by omega), mo _ (by omega) (by omega), mo _ (by omega) (by omega)]
    exact hp
theorem rl_adds (hR : rl_1 μ ν) (hx : 0 ≤ x ∧ x ≤ 9) (h0 : μ (5 + 5 * x) 0 = 0) : rl_1 (rd_ins (rd_u μ (5 + 5 * x) 0 1) (μ 2 0) x) (mo_ad ν x) := by
  have hcn := hR.1.1.1
  unfold sp_cnt at hcn
  have hroom := rl_room hR.1 x hx.1 (by omega) h0
  have hν0 := hR.2.1.1
  have hnt : ¬ sp_th μ x := fun h => h.2 h0
  obtain ⟨i1, i2, i3⟩ := rd_ins_s (rd_u μ (5 + 5 * x) 0 1) (μ 2 0) x
  rw [rd_u_k _ _ _ (by omega)] at i1 i2
  generalize hM : rd_ins (rd_u μ (5 + 5 * x) 0 1) (μ 2 0) x = M at i1 i2 i3 ⊢
  have mo : ∀ a : Int, a ≠ 2 → a ≠ 3 → a ≠ 5 + 5 * x → M a = μ a := fun a h2 h3 h => by rw [i3 a h2 h3, rd_u_ne _ _ _ h]
  have mj : ∀ j : Int, j ≠ 0 → M (5 + 5 * x) j = μ (5 + 5 * x) j := fun j hj => by rw [i3 _ (by omega) (by omega), rd_u_j _ _ _ hj]
  have m0 : M (5 + 5 * x) 0 = 1 := by rw [i3 _ (by omega) (by omega), rd_u_s]
  have m3 : ∀ j : Int, M 3 j = (if j = μ 2 0 then x else μ 3 j) := fun j => by
    rw [i2]
    by_cases h : j = μ 2 0
    · rw [if_pos h, if_pos h]
    · rw [if_neg h, if_neg h, if_neg (by omega), rd_u_k _ _ _ (by omega)]
  have l0 : mo_lr ν x 32 1 0 = ν 1 0 := by unfold mo_lr; exact if_neg (fun g => by have := g.2.1; omega)
  have lr : ∀ k : Int, 0 ≤ k → k < 32 → mo_lr ν x 32 1 (156 + 32 * x + k) = (if k < 22 then 0 else -6) := fun k k0 k1 => by
    unfold mo_lr; rw [if_pos ⟨rfl, by omega, by omega⟩]
    by_cases h : k < 22
    · rw [if_pos h, if_pos (by omega)]
    · rw [if_neg h, if_neg (by omega)]
  have lo : ∀ b : Int, (b < 156 + 32 * x ∨ 156 + 32 * x + 32 ≤ b) → mo_lr ν x 32 1 b = ν 1 b := fun b hb => by
    unfold mo_lr; exact if_neg (fun g => by have := g.2; omega)
  generalize hN : mo_ad ν x = N
  have n0 : N 1 0 = ν 1 0 + 1 := by rw [← hN]; unfold mo_ad; rw [rd_u_s, l0]
  have nx : ∀ k : Int, 0 ≤ k → k < 32 → N 1 (156 + 32 * x + k) = (if k = 0 then 1 else if k < 22 then 0 else -6) := fun k k0 k1 => by
    rw [← hN]; unfold mo_ad
    rw [rd_u_j _ _ _ (by omega), rd_u_j _ _ _ (by rw [l0]; omega)]
    by_cases h : k = 0
    · rw [if_pos h, h, rd_u_s]
    · rw [if_neg h, rd_u_j _ _ _ (by omega), lr k k0 k1]
  have nord : N 1 (1 + μ 2 0) = x := by
    rw [← hN]; unfold mo_ad
    rw [rd_u_j _ _ _ (by omega), l0, hν0, rd_u_s]
  have no : ∀ b : Int, b ≠ 0 → b ≠ 1 + μ 2 0 → (b < 156 + 32 * x ∨ 156 + 32 * x + 32 ≤ b) → N 1 b = ν 1 b := fun b b0 b1 hb => by
    rw [← hN]; unfold mo_ad
    rw [rd_u_j _ _ _ b0, rd_u_j _ _ _ (by rw [l0, hν0]; exact b1), rd_u_j _ _ _ (by omega), lo b hb]
  have hth : ∀ n, sp_th M n ↔ (sp_th μ n ∨ n = x) := fun n => by
    unfold sp_th
    by_cases hn : n = x
    · rw [hn, m0]; exact ⟨fun _ => Or.inr rfl, fun _ => ⟨⟨hx.1, by omega⟩, by decide⟩⟩
    · constructor
      · rintro ⟨h1, h2⟩; rw [mo _ (by omega) (by omega) (by omega)] at h2; exact Or.inl ⟨h1, h2⟩
      · rintro (⟨h1, h2⟩ | h)
        · exact ⟨h1, by rw [mo _ (by omega) (by omega) (by omega)]; exact h2⟩
        · exact absurd h hn
  have ho := sp_ord_in (rl_ord hR.1) (q := μ 2 0) (x := x) hnt hcn.1 (Int.le_refl _)
  have ho2 : sp_ord (sp_th M) (M 3) (M 2 0) := by
    refine sp_ord_c ho hth i1 (fun i i0 i1' => ?_)
    rw [m3]
    show _ = (if i = μ 2 0 then x else if μ 2 0 < i ∧ i ≤ μ 2 0 then μ 3 (i - 1) else μ 3 i)
    by_cases h : i = μ 2 0
    · rw [if_pos h, if_pos h]
    · rw [if_neg h, if_neg h, if_neg (by omega)]
  have hz := ((rl_rk hR hx.1 hx.2).2.2.2.2 hnt).1
  refine rl_deck hR (mo 1 (by omega) (by omega) (by omega)) (fun a a0 _ => mo a (by omega) (by omega) (by omega)) (fun j j0 _ => no j (by omega) (by omega) (by omega)) (by rw [i1]; omega) ho2 (by rw [n0, i1, hν0]) (fun i i0 i1' => ?_) (fun n nn0 nn9 => ?_) (fun h => ⟨(hth _).mpr (Or.inl h), ?_⟩)
  · rw [m3]
    by_cases h : i = μ 2 0
    · rw [if_pos h, h, nord]
    · rw [if_neg h, no _ (by omega) (by omega) (by omega)]
      exact hR.2.1.2.1 i i0 (by omega)
  · by_cases hn : n = x
    · subst hn
      obtain ⟨z1, z2, z3, z4⟩ := hz
      refine ⟨⟨Or.inr m0, Or.inl (by rw [mj 1 (by omega)]; exact z1)⟩, by rw [mj 3 (by omega), z3]; omega, fun q q0 q1 => by rw [mj 3 (by omega), z3] at q1; omega, fun _ => ⟨⟨by rw [mj 2 (by omega), z2]; omega, fun q q0 q1 => by rw [mj 3 (by omega), z3] at q1; omega, fun k k0 k9 => Or.inl (by rw [mo _ (by omega) (by omega) (by omega)]; exact z4 k k0 k9), ?_⟩, ?_, ?_, ?_, ?_, fun q q0 q1 => by rw [mj 3 (by omega), z3] at q1; omega, fun k k0 k9 => ?_⟩, fun h => absurd ((hth n).mpr (Or.inr rfl)) h⟩
      · rw [sp_lk_z (fun k k0 k1 => by rw [mo _ (by omega) (by omega) (by omega)]; exact z4 k k0 (by omega))]; omega
      · show N 1 (156 + 32 * n + 0) = 1; rw [nx 0 (by omega) (by omega), if_pos rfl]
      · show N 1 (156 + 32 * n + 1) = _; rw [nx 1 (by omega) (by omega), mj 1 (by omega), z1]; rfl
      · show N 1 (156 + 32 * n + 2) = _; rw [nx 2 (by omega) (by omega), mj 2 (by omega), z2]; rfl
      · show N 1 (156 + 32 * n + 3) = _; rw [nx 3 (by omega) (by omega), mj 3 (by omega), z3]; rfl
      · show N 1 (156 + 32 * n + (22 + k)) = _
        rw [nx (22 + k) (by omega) (by omega), mo _ (by omega) (by omega) (by omega), z4 k k0 k9, if_neg (by omega), if_neg (by omega)]; rfl
    · exact rl_k_c nn0 nn9 (fun c c0 c4 => mo _ (by omega) (by omega) (by omega)) (fun m h => (hth m).mpr (Or.inl h)) (fun k k0 k1 => no _ (by omega) (by omega) (by omega)) (rl_rk hR nn0 nn9)
  · have hp := (rl_pp hR h).2.2.2.2.2.2.2.1
    have hr := h.1
    have hne : μ 58 0 ≠ x := fun e => hnt (by rw [← e]; exact h)
    unfold sp_FS at hp ⊢
    rw [mo _ (by omega) (by omega) (by omega), mo _ (by omega) (by omega) (by omega), mo _ (by omega) (by omega) (by omega)]
    exact hp
theorem rl_rms (hR : rl_1 μ ν) (hx : sp_th μ x) (hs : μ 58 0 ≠ x) : rl_1 (rd_dal (rd_ds0 μ x) x 10) (mo_rm ν x) := by
  have hxr := hx.1
  have hcn := hR.1.1.1
  unfold sp_cnt at hcn
  obtain ⟨⟨p0, p1⟩, p2⟩ := rl_os hR.1 hx
  have hν0 := hR.2.1.1
  unfold rd_ds0 mo_rm
  rw [rl_pl hR.2.1]
  generalize sp_pl μ x = p at p0 p1 p2 ⊢
  obtain ⟨d1, d2, d3⟩ := rd_dfo_s (rd_clr μ (5 + 5 * x) 10) p
  obtain ⟨t1, t2, t3, t4⟩ := mo_to_s ν p
  have k2 : rd_clr μ (5 + 5 * x) 10 2 = μ 2 := by funext b; unfold rd_clr; rw [if_neg (by omega), if_neg (by omega)]
  have k3 : rd_clr μ (5 + 5 * x) 10 3 = μ 3 := by funext b; unfold rd_clr; rw [if_neg (by omega), if_neg (by omega)]
  rw [k2] at d1 d2
  rw [k3] at d2
  rw [hν0] at t1 t2 t3
  have ko : ∀ a : Int, a ≠ 5 + 5 * x → a ≠ 5 + 5 * x + 4 → rd_clr μ (5 + 5 * x) 10 a = μ a := fun a h h4 => by funext b; unfold rd_clr; rw [if_neg (fun g => h g.1), if_neg (fun g => h4 g.1)]
  have kz : ∀ b : Int, 0 ≤ b → b < 4 → rd_clr μ (5 + 5 * x) 10 (5 + 5 * x) b = 0 := fun b b0 b4 => by unfold rd_clr; exact if_pos ⟨rfl, b0, b4⟩
  have kt : ∀ b : Int, 0 ≤ b → b < 10 → rd_clr μ (5 + 5 * x) 10 (5 + 5 * x + 4) b = -1 := fun b b0 b4 => by unfold rd_clr; rw [if_neg (by omega), if_pos ⟨rfl, b0, b4⟩]
  generalize hD : rd_dfo (rd_clr μ (5 + 5 * x) 10) p = D at d1 d2 d3
  generalize hM : rd_dal D x 10 = M
  have mD : ∀ a : Int, (a < 9 ∨ 59 ≤ a ∨ (a - 9) % 5 ≠ 0) → M a = D a := fun a h => by
    rw [← hM]; funext b; unfold rd_dal; exact if_neg (fun g => by have := g.1; omega)
  have mt : ∀ n b : Int, 0 ≤ n → n ≤ 9 → 0 ≤ b → b < 10 → M (5 + 5 * n + 4) b = (if n = x then -1 else if μ (5 + 5 * n + 4) b = x then -1 else μ (5 + 5 * n + 4) b) := fun n b n0 n9 b0 b1 => by
    have e : M (5 + 5 * n + 4) b = (if D (5 + 5 * n + 4) b = x then -1 else D (5 + 5 * n + 4) b) := by
      rw [← hM]; unfold rd_dal
      by_cases h : D (5 + 5 * n + 4) b = x
      · rw [if_pos ⟨⟨by omega, by omega⟩, ⟨b0, b1⟩, h⟩, if_pos h]
      · rw [if_neg (fun g => h g.2.2), if_neg h]
    rw [e, d3 _ (by omega) (by omega)]
    by_cases h : n = x
    · rw [if_pos h, h, kt b b0 b1, if_neg (by omega)]
    · rw [if_neg h, ko _ (by omega) (by omega)]
  have mo : ∀ a : Int, (a < 9 ∨ 59 ≤ a ∨ (a - 9) % 5 ≠ 0) → a ≠ 2 → a ≠ 3 → a ≠ 5 + 5 * x → M a = μ a := fun a h h2 h3 h5 => by
    rw [mD a h, d3 a h2 h3, ko a h5 (by omega)]
  have mx : ∀ b : Int, 0 ≤ b → b < 4 → M (5 + 5 * x) b = 0 := fun b b0 b4 => by rw [mD _ (by omega), d3 _ (by omega) (by omega)]; exact kz b b0 b4
  have m2 : M 2 0 = μ 2 0 - 1 := by rw [mD 2 (by omega)]; exact d1
  have m3 : ∀ j : Int, M 3 j = (if p ≤ j ∧ j < μ 2 0 - 1 then μ 3 (j + 1) else μ 3 j) := fun j => by rw [mD 3 (by omega)]; exact d2 j
  generalize hE : rd_u (mo_to ν p) 1 (156 + 32 * x + 0) 0 = E
  generalize hN : mo_dl E x 100 = N
  have nE : ∀ b : Int, b < 156 ∨ 476 ≤ b ∨ (b - 156) % 32 < 22 → N 1 b = E 1 b := fun b hb => by
    rw [← hN]; unfold mo_dl; exact if_neg (fun g => by have := g.2.1; have := g.2.2.1; omega)
  have eo : ∀ b : Int, b ≠ 156 + 32 * x → E 1 b = mo_to ν p 1 b := fun b hb => by rw [← hE, rd_u_j _ _ _ (by omega)]
  have e0 : E 1 (156 + 32 * x) = 0 := by rw [← hE, show 156 + 32 * x + 0 = 156 + 32 * x by omega, rd_u_s]
  have nt : ∀ n k : Int, 0 ≤ n → n ≤ 9 → 0 ≤ k → k ≤ 9 → N 1 (156 + 32 * n + (22 + k)) = (if ν 1 (156 + 32 * n + (22 + k)) = x then -6 else ν 1 (156 + 32 * n + (22 + k))) := fun n k n0 n9 k0 k9 => by
    have e : E 1 (156 + 32 * n + (22 + k)) = ν 1 (156 + 32 * n + (22 + k)) := by rw [eo _ (by omega), t3 _ (by omega) (by omega)]
    rw [← hN]; unfold mo_dl
    rw [e]
    have q1 : (156 + 32 * n + (22 + k) - 156) % 32 = 22 + k := by omega
    have q2 : (156 + 32 * n + (22 + k) - 156) / 32 = n := by omega
    rw [q1, q2]
    by_cases h : ν 1 (156 + 32 * n + (22 + k)) = x
    · rw [if_pos h, if_pos ⟨rfl, ⟨by omega, by omega⟩, by omega, by omega, h⟩]
    · rw [if_neg h, if_neg (fun g => h g.2.2.2.2)]
  have no : ∀ b : Int, 11 ≤ b → (b < 156 ∨ 476 ≤ b ∨ (b - 156) % 32 < 22) → b ≠ 156 + 32 * x → N 1 b = ν 1 b := fun b b0 h hb => by rw [nE b h, eo b hb, t3 b (by omega) (by omega)]
  have nx0 : N 1 (156 + 32 * x) = 0 := by rw [nE _ (by omega)]; exact e0
  have hth : ∀ n, sp_th M n ↔ (sp_th μ n ∧ n ≠ x) := fun n => by
    unfold sp_th
    by_cases hn : n = x
    · rw [hn, mx 0 (by omega) (by omega)]; exact ⟨fun h => absurd rfl h.2, fun h => absurd rfl h.2⟩
    · constructor
      · rintro ⟨h1, h2⟩; rw [mo _ (by omega) (by omega) (by omega) (by omega)] at h2; exact ⟨⟨h1, h2⟩, hn⟩
      · rintro ⟨⟨h1, h2⟩, -⟩; exact ⟨h1, by rw [mo _ (by omega) (by omega) (by omega) (by omega)]; exact h2⟩
  have ho2 : sp_ord (sp_th M) (M 3) (M 2 0) := by
    refine sp_ord_c (sp_ord_rm (rl_ord hR.1) p0 p1) (fun n => ?_) m2 (fun i i0 i1' => m3 i)
    rw [hth, p2]
  refine rl_deck hR (mo 1 (by omega) (by omega) (by omega) (by omega)) (fun a a0 _ => mo a (by omega) (by omega) (by omega) (by omega)) (fun j j0 j1 => no j j0 (by omega) (by omega)) (by rw [m2]; omega) ho2 (by rw [nE 0 (by omega), eo 0 (by omega), t1, m2]) (fun i i0 i1' => ?_) (fun n nn0 nn9 => ?_) (fun h => ⟨(hth _).mpr ⟨h, hs⟩, ?_⟩)
  · rw [m2] at i1'
    rw [m3, nE _ (by omega), eo _ (by omega), t2 i i0]
    by_cases h : p ≤ i ∧ i < μ 2 0 - 1
    · rw [if_pos h, if_pos h]; exact hR.2.1.2.1 _ (by omega) (by omega)
    · rw [if_neg h, if_neg h]; exact hR.2.1.2.1 _ i0 (by omega)
  · by_cases hn : n = x
    · subst hn
      refine ⟨⟨Or.inl (mx 0 (by omega) (by omega)), Or.inl (mx 1 (by omega) (by omega))⟩, by rw [mx 3 (by omega) (by omega)]; omega, fun q q0 q1 => by rw [mx 3 (by omega) (by omega)] at q1; omega, fun h => absurd rfl ((hth n).mp h).2, fun _ => ⟨⟨mx 1 (by omega) (by omega), mx 2 (by omega) (by omega), mx 3 (by omega) (by omega), fun k k0 k9 => by rw [mt n k nn0 nn9 k0 (by omega), if_pos rfl]⟩, ?_⟩⟩
      show N 1 (156 + 32 * n + 0) ≠ 1
      rw [show 156 + 32 * n + 0 = 156 + 32 * n by omega, nx0]; decide
    · obtain ⟨b1, b2, b3, b4, b5⟩ := rl_rk hR nn0 nn9
      have c0 : M (5 + 5 * n) = μ (5 + 5 * n) := mo _ (by omega) (by omega) (by omega) (by omega)
      have c1 : M (5 + 5 * n + 1) = μ (5 + 5 * n + 1) := mo _ (by omega) (by omega) (by omega) (by omega)
      have c2 : M (5 + 5 * n + 2) = μ (5 + 5 * n + 2) := mo _ (by omega) (by omega) (by omega) (by omega)
      have c3 : M (5 + 5 * n + 3) = μ (5 + 5 * n + 3) := mo _ (by omega) (by omega) (by omega) (by omega)
      have cn : ∀ k : Int, 0 ≤ k → k < 22 → mo_o N n k = mo_o ν n k := fun k k0 k1 => no _ (by omega) (by omega) (by omega)
      have ct : ∀ k : Int, 0 ≤ k → k < 10 → M (5 + 5 * n + 4) k = (if μ (5 + 5 * n + 4) k = x then -1 else μ (5 + 5 * n + 4) k) := fun k k0 k1 => by rw [mt n k nn0 nn9 k0 k1, if_neg hn]
      have htn : sp_th M n ↔ sp_th μ n := by rw [hth]; exact ⟨fun h => h.1, fun h => ⟨h, hn⟩⟩
      unfold rl_k
      rw [htn, c0, c1, c3]
      refine ⟨b1, b2, b3, fun h => ?_, fun h => ?_⟩
      · obtain ⟨⟨g1, g2, g3, g4⟩, r0, r1, r2, r3, r4, r5⟩ := b4 h
        have hit := b2
        unfold rl_g rl_r
        rw [c0, c1, c2, c3, cn 0 (by omega) (by omega), cn 1 (by omega) (by omega), cn 2 (by omega) (by omega), cn 3 (by omega) (by omega)]
        refine ⟨⟨g1, g2, fun k k0 k9 => ?_, ?_⟩, r0, r1, r2, r3, fun q q0 q1 => by rw [cn _ (by omega) (by omega), cn _ (by omega) (by omega), cn _ (by omega) (by omega)]; exact r4 q q0 q1, fun k k0 k9 => ?_⟩
        · rw [ct k k0 (by omega), hth]
          by_cases e : μ (5 + 5 * n + 4) k = x
          · rw [if_pos e]; exact Or.inl rfl
          · rw [if_neg e]; exact (g3 k k0 k9).elim Or.inl (fun g => Or.inr ⟨g, e⟩)
        · refine Int.le_trans (sp_lk_m (fun k k0 k1 => ?_)) g4
          rw [ct k k0 (by omega)]
          by_cases e : μ (5 + 5 * n + 4) k = x
          · rw [if_pos e]; exact Or.inr rfl
          · rw [if_neg e]; exact Or.inl rfl
        · have r5' : ν 1 (156 + 32 * n + (22 + k)) = mo_z (μ (5 + 5 * n + 4) k) := r5 k k0 k9
          show N 1 (156 + 32 * n + (22 + k)) = _
          rw [nt n k nn0 nn9 k0 k9, ct k k0 (by omega), r5']
          by_cases e1 : μ (5 + 5 * n + 4) k = -1
          · rw [e1, if_neg (show ¬ mo_z (-1) = x by show ¬ (-6 : Int) = x; omega), if_neg (show ¬ (-1 : Int) = x by omega)]
          · rw [mo_z_ne e1]
            by_cases e : μ (5 + 5 * n + 4) k = x
            · rw [if_pos e, if_pos e]; rfl
            · rw [if_neg e, if_neg e, mo_z_ne e1]
      · obtain ⟨⟨z1, z2, z3, z4⟩, z5⟩ := b5 h
        unfold rl_z
        rw [c0, cn 0 (by omega) (by omega)]
        refine ⟨⟨z1, z2, z3, fun k k0 k9 => ?_⟩, z5⟩
        rw [ct k k0 (by omega), z4 k k0 k9, if_neg (by omega)]
  · have hp := (rl_pp hR h).2.2.2.2.2.2.2.1
    have hr := h.1
    unfold sp_FS at hp ⊢
    rw [mo _ (by omega) (by omega) (by omega) (by omega), mo _ (by omega) (by omega) (by omega) (by omega), mo _ (by omega) (by omega) (by omega) (by omega)]
    exact hp
end RLD

