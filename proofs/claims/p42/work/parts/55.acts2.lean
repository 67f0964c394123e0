/-! an item is removed; notes, END, start, stop -/
section RLE
variable {μ ν : rd_Mem} {x : Int}
theorem rd_dit_s (μ : rd_Mem) (o p k n : Int) : rd_dit μ o p k n o 3 = n ∧ (∀ b : Int, b ≠ 3 → rd_dit μ o p k n o b = μ o b) ∧ (∀ e b : Int, 1 ≤ e → e ≤ 3 → rd_dit μ o p k n (o + e) b = (if p ≤ b ∧ b < k then μ (o + e) (b + 1) else μ (o + e) b)) ∧ ∀ a : Int, (a < o ∨ o + 3 < a) → rd_dit μ o p k n a = μ a := by
  refine ⟨?_, fun b hb => ?_, fun e b e1 e3 => ?_, fun a ha => ?_⟩
  · unfold rd_dit; exact if_pos ⟨rfl, rfl⟩
  · unfold rd_dit; rw [if_neg (fun h => hb h.2), if_neg (by omega)]
  · unfold rd_dit; rw [if_neg (by omega)]
    by_cases h : p ≤ b ∧ b < k
    · rw [if_pos ⟨by omega, h⟩, if_pos h]
    · rw [if_neg (fun g => h g.2), if_neg h]
  · funext b; unfold rd_dit; rw [if_neg (by omega), if_neg (by omega)]
theorem mo_di_s (ν : rd_Mem) {x q : Int} (h6 : 0 ≤ mo_o ν x 3 ∧ mo_o ν x 3 ≤ 6) (q0 : 0 ≤ q) : mo_o (mo_di ν x q) x 3 = mo_o ν x 3 - 1 ∧ (∀ k e : Int, 0 ≤ k → k < mo_o ν x 3 - 1 → 0 ≤ e → e ≤ 2 → mo_o (mo_di ν x q) x (4 + 3 * k + e) = (if q ≤ k then mo_o ν x (4 + 3 * (k + 1) + e) else mo_o ν x (4 + 3 * k + e))) ∧ ∀ b : Int, (b < 156 + 32 * x + 3 ∨ 156 + 32 * x + 22 ≤ b) → mo_di ν x q 1 b = ν 1 b := by
  unfold mo_di
  generalize hc : mo_o ν x 3 = c at *
  refine ⟨rd_u_s _ _ _ _, fun k e k0 k1 e0 e2 => ?_, fun b hb => ?_⟩
  · show rd_u (mo_dk ν x q (3 * (c - 1))) 1 (156 + 32 * x + 3) (c - 1) 1 (156 + 32 * x + (4 + 3 * k + e)) = _
    rw [rd_u_j _ _ _ (by omega)]
    unfold mo_dk
    by_cases h : q ≤ k
    · rw [if_pos ⟨rfl, by omega, by omega⟩, if_pos h]; show ν 1 _ = ν 1 _; congr 1; omega
    · rw [if_neg (by omega), if_neg h]
  · rw [rd_u_j _ _ _ (by omega)]; unfold mo_dk; exact if_neg (by omega)
theorem rl_rmi (hR : rl_1 μ ν) (hx : sp_th μ x) {q : Int} (hq : 0 ≤ q ∧ q ≤ μ (5 + 5 * x) 3 - 1) {D ρ : rd_Mem} (hD : D = rd_dit μ (5 + 5 * x) q (μ (5 + 5 * x) 3 - 1) (μ (5 + 5 * x) 3 - 1)) (hρ : ρ = mo_di ν x q) : rl_1 (sp_ite (sp_th D (D 58 0)) (rd_u D 58 1 (min (D 58 1) (sp_FS D (D 58 0)))) D) (mo_cl ρ x) := by
  have hxr := hx.1
  have hcn := hR.1.1.1
  unfold sp_cnt at hcn
  have hrx := rl_row hR.2.1 hx
  obtain ⟨b1, b2, b3, b4, b5⟩ := rl_rk hR hxr.1 (by omega)
  have hm3 : mo_o ν x 3 = μ (5 + 5 * x) 3 := hrx.2.2.2.1
  obtain ⟨d1, d2, d3, d4⟩ := rd_dit_s μ (5 + 5 * x) q (μ (5 + 5 * x) 3 - 1) (μ (5 + 5 * x) 3 - 1)
  obtain ⟨o1, o2, o3⟩ := mo_di_s ν (x := x) (q := q) (by rw [hm3]; exact b2) hq.1
  rw [← hD] at d1 d2 d3 d4
  rw [← hρ] at o1 o2 o3
  rw [hm3] at o1 o2
  clear hD hρ
  generalize hc : μ (5 + 5 * x) 3 = c at *
  have hth : ∀ n, sp_th D n ↔ sp_th μ n := fun n => by
    unfold sp_th
    by_cases hn : n = x
    · rw [hn, d2 0 (by omega)]
    · constructor
      · rintro ⟨h1, h2⟩; rw [d4 _ (by omega)] at h2; exact ⟨h1, h2⟩
      · rintro ⟨h1, h2⟩; exact ⟨h1, by rw [d4 _ (by omega)]; exact h2⟩
  have hrow : ∀ n : Int, 0 ≤ n → n ≤ 9 → rl_k D ρ n := fun n n0 n9 => by
    by_cases hn : n = x
    · subst hn
      obtain ⟨⟨g1, g2, g3, g4⟩, r0, r1, r2, r3, r4, r5⟩ := b4 hx
      rw [hc] at g2 r4
      have hval : ∀ k : Int, 0 ≤ k → k < c - 1 → ∀ e : Int, 1 ≤ e → e ≤ 3 → D (5 + 5 * n + e) k = (if q ≤ k then μ (5 + 5 * n + e) (k + 1) else μ (5 + 5 * n + e) k) := fun k k0 k1 e e1 e3 => by
        rw [d3 e k e1 e3]
        by_cases h : q ≤ k
        · rw [if_pos ⟨h, k1⟩, if_pos h]
        · rw [if_neg (fun g => h g.1), if_neg h]
      refine ⟨⟨by rw [d2 0 (by omega)]; exact b1.1, by rw [d2 1 (by omega)]; exact b1.2⟩, by rw [d1]; omega, fun k k0 k1 => ?_, fun _ => ⟨⟨by rw [d2 2 (by omega)]; exact g1, fun k k0 k1 => ?_, fun k k0 k9 => by rw [d4 _ (by omega), hth]; exact g3 k k0 k9, by rw [d4 _ (by omega)]; exact g4⟩, ?_, ?_, ?_, ?_, fun k k0 k1 => ?_, fun k k0 k9 => ?_⟩, fun h => absurd ((hth n).mpr hx) h⟩
      · rw [d1] at k1
        rw [hval k k0 k1 1 (by omega) (by omega), hval k k0 k1 3 (by omega) (by omega)]
        by_cases h : q ≤ k
        · rw [if_pos h, if_pos h]; exact b3 (k + 1) (by omega) (by omega)
        · rw [if_neg h, if_neg h]; exact b3 k k0 (by omega)
      · rw [d1] at k1
        rw [hval k k0 k1 1 (by omega) (by omega), hval k k0 k1 2 (by omega) (by omega)]
        by_cases h : q ≤ k
        · rw [if_pos h, if_pos h]; exact g2 (k + 1) (by omega) (by omega)
        · rw [if_neg h, if_neg h]; exact g2 k k0 (by omega)
      · show ρ 1 (156 + 32 * n + 0) = 1; rw [o3 _ (by omega)]; exact r0
      · show ρ 1 (156 + 32 * n + 1) = _; rw [o3 _ (by omega), d2 1 (by omega)]; exact r1
      · show ρ 1 (156 + 32 * n + 2) = _; rw [o3 _ (by omega), d2 2 (by omega)]; exact r2
      · rw [o1, d1]
      · rw [d1] at k1
        have q0 := o2 k 0 k0 k1 (by omega) (by omega)
        have q1 := o2 k 1 k0 k1 (by omega) (by omega)
        have q2 := o2 k 2 k0 k1 (by omega) (by omega)
        rw [Int.add_zero, Int.add_zero] at q0
        rw [q0, q1, q2, hval k k0 k1 1 (by omega) (by omega), hval k k0 k1 2 (by omega) (by omega), hval k k0 k1 3 (by omega) (by omega)]
        by_cases h : q ≤ k
        · simp only [if_pos h]; exact r4 (k + 1) (by omega) (by omega)
        · simp only [if_neg h]; exact r4 k k0 (by omega)
      · show ρ 1 (156 + 32 * n + (22 + k)) = _; rw [o3 _ (by omega), d4 _ (by omega)]; exact r5 k k0 k9
    · exact rl_k_c n0 n9 (fun e e0 e4 => d4 _ (by omega)) (fun m hm => (hth m).mpr hm) (fun k k0 k1 => o3 _ (by omega)) (rl_rk hR n0 n9)
  have d58 : ∀ a : Int, 55 ≤ a → D a = μ a := fun a ha => d4 a (by omega)
  have o29 : ∀ b : Int, b < 156 → ρ 1 b = ν 1 b := fun b hb => o3 b (by omega)
  generalize hM : sp_ite (sp_th D (D 58 0)) (rd_u D 58 1 (min (D 58 1) (sp_FS D (D 58 0)))) D = M
  generalize hN : mo_cl ρ x = N
  have mo : ∀ a : Int, a ≠ 58 → M a = D a := fun a ha => by
    rw [← hM]
    by_cases h : sp_th D (D 58 0)
    · rw [sp_ite_t h, rd_u_ne _ _ _ ha]
    · rw [sp_ite_f h]
  have mj : ∀ j : Int, j ≠ 1 → M 58 j = μ 58 j := fun j hj => by
    rw [← hM, ← d58 58 (by omega)]
    by_cases h : sp_th D (D 58 0)
    · rw [sp_ite_t h, rd_u_j _ _ _ hj]
    · rw [sp_ite_f h]
  have no : ∀ b : Int, b ≠ 31 → N 1 b = ρ 1 b := fun b hb => by
    rw [← hN]; unfold mo_cl
    by_cases h : ρ 1 29 = 1 ∧ ρ 1 30 = x ∧ mo_FS ρ x < ρ 1 31
    · rw [sp_ite_t h, rd_u_j _ _ _ hb]
    · rw [sp_ite_f h]
  have hthM : ∀ n, sp_th M n ↔ sp_th μ n := fun n => by
    rw [← hth]
    unfold sp_th
    constructor
    · rintro ⟨h1, h2⟩; rw [mo _ (by omega)] at h2; exact ⟨h1, h2⟩
    · rintro ⟨h1, h2⟩; exact ⟨h1, by rw [mo _ (by omega)]; exact h2⟩
  have hFM : ∀ n : Int, 0 ≤ n → n ≤ 9 → sp_FS M n = sp_FS D n := fun n n0 n9 => by
    unfold sp_FS; rw [mo _ (by omega), mo _ (by omega), mo _ (by omega)]
  have e2 : M 2 = μ 2 := by rw [mo 2 (by omega), d4 2 (by omega)]
  have e3 : M 3 = μ 3 := by rw [mo 3 (by omega), d4 3 (by omega)]
  have h4 := hR.1.1.2.2.2
  have hfs0 : 0 ≤ sp_FS D (μ 58 0) := sp_fs0 _ _ _
  have hd58 := d58 58 (by omega)
  refine rl_mk1 (by rw [e2]; exact hcn) (sp_ord_c (rl_ord hR.1) hthM (by rw [e2]) (fun i _ _ => by rw [e3])) (by rw [no 0 (by omega), o29 0 (by omega), e2]; exact hR.2.1.1) (fun i i0 i1 => ?_) (fun n n0 n9 => rl_k_c n0 n9 (fun e e0 e4 => mo _ (by omega)) (fun m hm => (hthM m).mpr ((hth m).mp hm)) (fun k k0 k1 => no _ (by omega)) (hrow n n0 n9)) (by unfold sp_nt; rw [mo 55 (by omega), d58 55 (by omega)]; exact hR.1.2.2.1) (rl_n_c (by rw [mo 1 (by omega), d4 1 (by omega)]) (by rw [mo 55 (by omega), d58 55 (by omega)]) (by rw [mo 56 (by omega), d58 56 (by omega)]) (by rw [mo 57 (by omega), d58 57 (by omega)]) (fun j hj => by rw [no j (by omega), o29 j (by omega)]) hR.1.2.2.1 hR.2.2.1) (by rw [mj 5 (by omega)]; exact h4.1) ?_ (fun k k0 k1 => by rw [mj 5 (by omega)] at k1; rw [mo 60 (by omega), d58 60 (by omega)]; exact hR.1.2.2.2.2.2.1 k k0 k1) ?_
  · rw [e2] at i1
    rw [no _ (by omega), o29 _ (by omega), e3]; exact hR.2.1.2.1 i i0 i1
  · rw [← hM]
    by_cases h : sp_th D (D 58 0)
    · rw [sp_ite_t h, rd_u_s, hd58]; have := h4.2; omega
    · rw [sp_ite_f h, hd58]; exact h4.2
  · rcases hR.2.2.2 with ⟨g1, g2, g3, g4, g5⟩ | ⟨g1, p0, p1, p2, p3, p4, p5, p6, p7, p8⟩
    · left
      have n31 : N 1 31 = ν 1 31 := by
        rw [← hN]; unfold mo_cl
        rw [sp_ite_f (fun h => by rw [o29 29 (by omega)] at h; omega), o29 31 (by omega)]
      rw [no 29 (by omega), no 35 (by omega), n31, mj 0 (by omega), o29 29 (by omega), o29 35 (by omega)]
      exact ⟨g1, g2, g3, g4, fun k k0 k1 => by rw [no _ (by omega), o29 _ (by omega)]; exact g5 k k0 k1⟩
    · right
      have hon : sp_th D (D 58 0) := by rw [hd58, hth]; exact p0
      have m1 : M 58 1 = min (μ 58 1) (sp_FS D (μ 58 0)) := by rw [← hM, sp_ite_t hon, rd_u_s, hd58]
      have n31 : N 1 31 = M 58 1 := by
        rw [m1, ← hN]; unfold mo_cl
        rw [o29 29 (by omega), o29 30 (by omega), o29 31 (by omega), p1, p2]
        by_cases hn : μ 58 0 = x
        · have hF : mo_FS ρ x = sp_FS D x := rl_FSr ((hrow x hxr.1 (by omega)).2.2.2.1 ((hth x).mpr hx)).2
          rw [hF, hn]
          by_cases h : sp_FS D x < μ 58 1
          · rw [sp_ite_t ⟨g1, rfl, h⟩, rd_u_s]; omega
          · rw [sp_ite_f (fun g => h g.2.2), o29 31 (by omega), p2]; omega
        · rw [sp_ite_f (fun g => hn g.2.1), o29 31 (by omega), p2]
          have : sp_FS D (μ 58 0) = sp_FS μ (μ 58 0) := by
            have hr := p0.1
            unfold sp_FS; rw [d4 _ (by omega), d4 _ (by omega), d4 _ (by omega)]
          omega
      unfold rl_p
      rw [n31, mj 0 (by omega), mj 2 (by omega), mj 3 (by omega), mj 4 (by omega), mj 5 (by omega), hthM, hFM _ p0.1.1 (by have := p0.1.2; omega), mo 59 (by omega), mo 60 (by omega), mo 61 (by omega), d58 59 (by omega), d58 60 (by omega), d58 61 (by omega), no 29 (by omega), no 30 (by omega), no 32 (by omega), no 33 (by omega), no 34 (by omega), no 35 (by omega), o29 29 (by omega), o29 30 (by omega), o29 32 (by omega), o29 33 (by omega), o29 34 (by omega), o29 35 (by omega)]
      refine ⟨g1, p0, p1, rfl, p3, p4, p5, p6, by rw [m1]; omega, fun k k0 k1 => ?_⟩
      rw [no _ (by omega), no _ (by omega), no _ (by omega), o29 _ (by omega), o29 _ (by omega), o29 _ (by omega)]
      exact p8 k k0 k1
theorem rl_notes {μ' ν' : rd_Mem} (hR : rl_1 μ ν) (h : ∀ a : Int, 1 ≤ a → a < 62 → a ≠ 55 → a ≠ 56 → a ≠ 57 → μ' a = μ a) (hj : ∀ j : Int, 0 ≤ j → j < 476 → (j < 11 ∨ 28 ≤ j) → ν' 1 j = ν 1 j) (hnt : 0 ≤ μ' 55 0 ∧ μ' 55 0 ≤ 8) (hc : ν' 1 11 = μ' 55 0) (hi : ∀ i : Int, 0 ≤ i → i < μ' 55 0 → ν' 1 (12 + 2 * i) = μ' 56 i ∧ ν' 1 (12 + 2 * i + 1) = μ' 57 i) : rl_1 μ' ν' := by
  have e58 := h 58 (by omega) (by omega) (by omega) (by omega) (by omega)
  have h58 : ∀ a : Int, 58 ≤ a → a < 62 → μ' a = μ a := fun a a0 a1 => h a (by omega) a1 (by omega) (by omega) (by omega)
  refine rl_mk2 hR (fun a a0 a1 => h a (by omega) (by omega) (by omega) (by omega) (by omega)) (fun j hj' => hj j (by omega) (by omega) (by omega)) hnt ⟨by rw [hj 28 (by omega) (by omega) (by omega), h 1 (by omega) (by omega) (by omega) (by omega) (by omega)]; exact hR.2.2.1.1, hc, hi⟩ (by rw [e58]; exact hR.1.1.2.2.2.1) (by rw [e58]; exact hR.1.1.2.2.2.2) (rl_ts_c h58 hR.1.2.2.2.2.2.1) (rl_s_d hR h58 (fun j j0 j1 => hj j (by omega) (by omega) (by omega)) (fun hh => ?_))
  have hp := (rl_pp hR hh).2.2.2.2.2.2.2.1
  have hr := hh.1
  unfold sp_FS at hp ⊢
  unfold sp_th at hh ⊢
  rw [h _ (by omega) (by omega) (by omega) (by omega) (by omega), h _ (by omega) (by omega) (by omega) (by omega) (by omega), h _ (by omega) (by omega) (by omega) (by omega) (by omega)]
  exact ⟨hh, hp⟩
theorem rl_note_rm (hR : rl_1 μ ν) {p : Int} (p0 : 0 ≤ p) (p1 : p < μ 55 0) : rl_1 (rd_u (rd_u (rd_u μ 55 0 (μ 55 0 - 1)) 56 p (μ 56 (μ 55 0 - 1))) 57 p (μ 57 (μ 55 0 - 1))) (rd_u (rd_u (rd_u ν 1 11 (ν 1 11 - 1)) 1 (12 + 2 * p) (ν 1 (12 + 2 * (ν 1 11 - 1)))) 1 (12 + 2 * p + 1) (ν 1 (12 + 2 * (ν 1 11 - 1) + 1))) := by
  have hnt := hR.1.2.2.1
  unfold sp_nt at hnt
  obtain ⟨n1, n2, n3⟩ := hR.2.2.1
  rw [n2]
  obtain ⟨l1, l2⟩ := n3 (μ 55 0 - 1) (by omega) (by omega)
  rw [l1, l2]
  generalize μ 55 0 = c at *
  refine rl_notes hR (fun a _ _ h1 h2 h3 => by rw [rd_u_ne _ _ _ h3, rd_u_ne _ _ _ h2, rd_u_ne _ _ _ h1]) (fun j j0 j1 h => by rw [rd_u_j _ _ _ (by omega), rd_u_j _ _ _ (by omega), rd_u_j _ _ _ (by omega)]) (by rw [rd_u_k _ _ _ (by omega), rd_u_k _ _ _ (by omega), rd_u_s]; omega) (by rw [rd_u_j _ _ _ (by omega), rd_u_j _ _ _ (by omega), rd_u_s, rd_u_k _ _ _ (by omega), rd_u_k _ _ _ (by omega), rd_u_s]) (fun i i0 i1 => ?_)
  rw [rd_u_k _ _ _ (by omega), rd_u_k _ _ _ (by omega), rd_u_s] at i1
  by_cases h : i = p
  · rw [h, rd_u_j _ _ _ (by omega), rd_u_s, rd_u_s, rd_u_k _ _ _ (by omega), rd_u_s, rd_u_s]; exact ⟨rfl, rfl⟩
  · rw [rd_u_j _ _ _ (by omega), rd_u_j _ _ _ (by omega), rd_u_j _ _ _ (by omega), rd_u_j _ _ _ (by omega), rd_u_j _ _ _ (by omega), rd_u_j _ _ _ (by omega), rd_u_k _ _ _ (by omega), rd_u_j _ _ _ h, rd_u_k _ _ _ (by omega), rd_u_j _ _ _ h, rd_u_k _ _ _ (by omega), rd_u_k _ _ _ (by omega)]
    exact n3 i i0 (by omega)
theorem rl_note_add (hR : rl_1 μ ν) (h8 : μ 55 0 < 8) (s u : Int) : rl_1 (rd_u (rd_u (rd_u μ 56 (μ 55 0) s) 57 (μ 55 0) u) 55 0 (μ 55 0 + 1)) (rd_u (rd_u (rd_u ν 1 11 (ν 1 11 + 1)) 1 (12 + 2 * ν 1 11) s) 1 (12 + 2 * ν 1 11 + 1) u) := by
  have hnt := hR.1.2.2.1
  unfold sp_nt at hnt
  obtain ⟨n1, n2, n3⟩ := hR.2.2.1
  rw [n2]
  generalize μ 55 0 = c at *
  refine rl_notes hR (fun a _ _ h1 h2 h3 => by rw [rd_u_ne _ _ _ h1, rd_u_ne _ _ _ h3, rd_u_ne _ _ _ h2]) (fun j j0 j1 h => by rw [rd_u_j _ _ _ (by omega), rd_u_j _ _ _ (by omega), rd_u_j _ _ _ (by omega)]) (by rw [rd_u_s]; omega) (by rw [rd_u_j _ _ _ (by omega), rd_u_j _ _ _ (by omega), rd_u_s, rd_u_s]) (fun i i0 i1 => ?_)
  rw [rd_u_s] at i1
  by_cases h : i = c
  · rw [h, rd_u_j _ _ _ (by omega), rd_u_s, rd_u_s, rd_u_k _ _ _ (by omega), rd_u_k _ _ _ (by omega), rd_u_s, rd_u_k _ _ _ (by omega), rd_u_s]; exact ⟨rfl, rfl⟩
  · rw [rd_u_j _ _ _ (by omega), rd_u_j _ _ _ (by omega), rd_u_j _ _ _ (by omega), rd_u_j _ _ _ (by omega), rd_u_j _ _ _ (by omega), rd_u_j _ _ _ (by omega), rd_u_k _ _ _ (by omega), rd_u_k _ _ _ (by omega), rd_u_j _ _ _ h, rd_u_k _ _ _ (by omega), rd_u_j _ _ _ h, rd_u_k _ _ _ (by omega)]
    exact n3 i i0 (by omega)
theorem rl_note_ch (hR : rl_1 μ ν) {p : Int} (p0 : 0 ≤ p) (p1 : p < μ 55 0) (s u : Int) : rl_1 (rd_u (rd_u μ 56 p s) 57 p u) (rd_u (rd_u (rd_u ν 1 11 (ν 1 11 + 0)) 1 (12 + 2 * p) s) 1 (12 + 2 * p + 1) u) := by
  have hnt := hR.1.2.2.1
  unfold sp_nt at hnt
  obtain ⟨n1, n2, n3⟩ := hR.2.2.1
  have e55 : rd_u (rd_u μ 56 p s) 57 p u 55 0 = μ 55 0 := by rw [rd_u_k _ _ _ (by omega), rd_u_k _ _ _ (by omega)]
  refine rl_notes hR (fun a _ _ h1 h2 h3 => by rw [rd_u_ne _ _ _ h3, rd_u_ne _ _ _ h2]) (fun j j0 j1 h => by rw [rd_u_j _ _ _ (by omega), rd_u_j _ _ _ (by omega), rd_u_j _ _ _ (by omega)]) (by rw [e55]; exact hnt) (by rw [e55, rd_u_j _ _ _ (by omega), rd_u_j _ _ _ (by omega), rd_u_s, n2]; omega) (fun i i0 i1 => ?_)
  rw [e55] at i1
  by_cases h : i = p
  · rw [h, rd_u_j _ _ _ (by omega), rd_u_s, rd_u_s, rd_u_k _ _ _ (by omega), rd_u_s, rd_u_s]; exact ⟨rfl, rfl⟩
  · rw [rd_u_j _ _ _ (by omega), rd_u_j _ _ _ (by omega), rd_u_j _ _ _ (by omega), rd_u_j _ _ _ (by omega), rd_u_j _ _ _ (by omega), rd_u_j _ _ _ (by omega), rd_u_k _ _ _ (by omega), rd_u_j _ _ _ h, rd_u_j _ _ _ h, rd_u_k _ _ _ (by omega)]
    exact n3 i i0 i1
theorem rl_end (hR : rl_1 μ ν) (q : Int) : rl_1 (rd_u μ 1 0 q) (rd_u ν 1 28 q) := by
  have h58 : ∀ a : Int, 58 ≤ a → a < 62 → rd_u μ 1 0 q a = μ a := fun a a0 a1 => rd_u_ne _ _ _ (by omega)
  have e : ∀ a : Int, a ≠ 1 → rd_u μ 1 0 q a = μ a := fun a ha => rd_u_ne _ _ _ ha
  refine rl_mk2 hR (fun a a0 a1 => e a (by omega)) (fun j hj' => rd_u_j _ _ _ (by omega)) (by unfold sp_nt; rw [e 55 (by omega)]; exact hR.1.2.2.1) ⟨by rw [rd_u_s, rd_u_s], by rw [e 55 (by omega), rd_u_j _ _ _ (by omega)]; exact hR.2.2.1.2.1, fun i i0 i1 => ?_⟩ (by rw [e 58 (by omega)]; exact hR.1.1.2.2.2.1) (by rw [e 58 (by omega)]; exact hR.1.1.2.2.2.2) (rl_ts_c h58 hR.1.2.2.2.2.2.1) (rl_s_d hR h58 (fun j j0 j1 => rd_u_j _ _ _ (by omega)) (fun hh => ?_))
  · have hnt := hR.1.2.2.1
    unfold sp_nt at hnt
    rw [e 55 (by omega)] at i1
    rw [e 56 (by omega), e 57 (by omega), rd_u_j _ _ _ (by omega), rd_u_j _ _ _ (by omega)]
    exact hR.2.2.1.2.2 i i0 i1
  · have hp := (rl_pp hR hh).2.2.2.2.2.2.2.1
    have hr := hh.1
    unfold sp_FS at hp ⊢
    unfold sp_th at hh ⊢
    rw [e _ (by omega), e _ (by omega), e _ (by omega)]
    exact ⟨hh, hp⟩
theorem rl_start (hR : rl_1 μ ν) {n : Int} (hn : sp_th μ n) : rl_1 (rd_u (rd_shc μ) 58 0 n) (mo_st ν n) := by
  have e : ∀ a : Int, a ≠ 58 → rd_u (rd_shc μ) 58 0 n a = μ a := fun a ha => by
    unfold rd_shc; rw [rd_u_ne _ _ _ ha, rd_u_ne _ _ _ ha, rd_u_ne _ _ _ ha, rd_u_ne _ _ _ ha, rd_u_ne _ _ _ ha, rd_u_ne _ _ _ ha, rd_u_ne _ _ _ ha]
  have c0 : rd_u (rd_shc μ) 58 0 n 58 0 = n := rd_u_s _ _ _ _
  have c1 : rd_u (rd_shc μ) 58 0 n 58 1 = 0 := by simp [rd_shc, rd_u]
  have c2 : rd_u (rd_shc μ) 58 0 n 58 2 = 0 := by simp [rd_shc, rd_u]
  have c3 : rd_u (rd_shc μ) 58 0 n 58 3 = 0 := by simp [rd_shc, rd_u]
  have c4 : rd_u (rd_shc μ) 58 0 n 58 4 = 0 := by simp [rd_shc, rd_u]
  have c5 : rd_u (rd_shc μ) 58 0 n 58 5 = 0 := by simp [rd_shc, rd_u]
  have m29 : mo_st ν n 1 29 = 1 := by simp [mo_st, rd_u]
  have m30 : mo_st ν n 1 30 = n := by simp [mo_st, rd_u]
  have m31 : mo_st ν n 1 31 = 0 := by simp [mo_st, rd_u]
  have m32 : mo_st ν n 1 32 = 0 := by simp [mo_st, rd_u]
  have m33 : mo_st ν n 1 33 = 0 := by simp [mo_st, rd_u]
  have m34 : mo_st ν n 1 34 = 0 := by simp [mo_st, rd_u]
  have m35 : mo_st ν n 1 35 = 0 := by simp [mo_st, rd_u]
  refine rl_show (fun a _ a1 => e a (by omega)) (fun j hj => ?_) (rl_wf_c (fun a _ a1 => e a (by omega)) hR.1.1 (by rw [c5]; omega) (by rw [c1]; omega)) (fun k k0 k1 => by rw [c5] at k1; omega) (Or.inr ⟨m29, ?_⟩) hR
  · unfold mo_st
    rw [rd_u_j _ _ _ (by omega), rd_u_j _ _ _ (by omega), rd_u_j _ _ _ (by omega), rd_u_j _ _ _ (by omega), rd_u_j _ _ _ (by omega), rd_u_j _ _ _ (by omega), rd_u_j _ _ _ (by omega)]
  · unfold rl_p
    rw [c0, c1, c2, c3, c4, c5, m30, m31, m32, m33, m34, m35, rl_th_c (fun a _ a1 => e a (by omega))]
    exact ⟨hn, rfl, rfl, rfl, rfl, rfl, rfl, sp_fs0 _ _ _, fun q q0 q1 => by omega⟩
theorem rl_stop (hR : rl_1 μ ν) (hh : sp_th μ (μ 58 0)) : rl_1 (rd_shc μ) (rd_u ν 1 29 0) := by
  have e : ∀ a : Int, a ≠ 58 → rd_shc μ a = μ a := fun a ha => by
    unfold rd_shc; rw [rd_u_ne _ _ _ ha, rd_u_ne _ _ _ ha, rd_u_ne _ _ _ ha, rd_u_ne _ _ _ ha, rd_u_ne _ _ _ ha, rd_u_ne _ _ _ ha]
  have c0 : rd_shc μ 58 0 = -1 := by simp [rd_shc, rd_u]
  have c1 : rd_shc μ 58 1 = 0 := by simp [rd_shc, rd_u]
  have c5 : rd_shc μ 58 5 = 0 := by simp [rd_shc, rd_u]
  obtain ⟨p0, p1, p2, p3, p4, p5, p6, p7, p8⟩ := rl_pp hR hh
  have h4 := hR.1.1.2.2.2
  refine rl_show (fun a _ a1 => e a (by omega)) (fun j hj => rd_u_j _ _ _ (by omega)) (rl_wf_c (fun a _ a1 => e a (by omega)) hR.1.1 (by rw [c5]; omega) (by rw [c1]; omega)) (fun k k0 k1 => by rw [c5] at k1; omega) (Or.inl ⟨rd_u_s _ _ _ _, c0, ?_, ?_, fun k k0 k1 => ?_⟩) hR
  · rw [rd_u_j _ _ _ (by omega), p6]; exact h4.1
  · rw [rd_u_j _ _ _ (by omega), p2]; exact h4.2
  · rw [rd_u_j _ _ _ (by omega), p6] at k1
    rw [rd_u_j _ _ _ (by omega), (p8 k k0 k1).2.1]
    exact hR.1.2.2.2.2.2.1 k k0 k1
end RLE

