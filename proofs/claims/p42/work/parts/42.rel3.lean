/-! what doesn't change keeps the relation -/
section RLC
variable {μ μ' ν ν' : rd_Mem}
theorem rl_th_c (h : ∀ a : Int, 1 ≤ a → a < 55 → μ' a = μ a) (n : Int) : sp_th μ' n ↔ sp_th μ n := by
  unfold sp_th
  constructor
  · rintro ⟨h1, h2⟩; exact ⟨h1, by rw [← h _ (by omega) (by omega)]; exact h2⟩
  · rintro ⟨h1, h2⟩; exact ⟨h1, by rw [h _ (by omega) (by omega)]; exact h2⟩
theorem rl_FS_c (h : ∀ a : Int, 1 ≤ a → a < 55 → μ' a = μ a) {n : Int} (h0 : 0 ≤ n) (h1 : n < 10) : sp_FS μ' n = sp_FS μ n := by
  unfold sp_FS
  rw [h _ (by omega) (by omega), h _ (by omega) (by omega), h _ (by omega) (by omega)]
theorem rl_pl_c (h : ∀ a : Int, 1 ≤ a → a < 55 → μ' a = μ a) (x : Int) : sp_pl μ' x = sp_pl μ x := by
  unfold sp_pl; rw [h _ (by omega) (by omega), h _ (by omega) (by omega)]
theorem rl_wf_c (h : ∀ a : Int, 1 ≤ a → a < 55 → μ' a = μ a) (hw : sp_wf μ) (h5 : 0 ≤ μ' 58 5 ∧ μ' 58 5 ≤ 40) (h1 : 0 ≤ μ' 58 1 ∧ μ' 58 1 ≤ 9) : sp_wf μ' := by
  obtain ⟨a1, a2, a3, -, -⟩ := hw
  refine ⟨?_, fun i i0 i1 => ?_, fun i i0 i1 q q0 q6 q7 => ?_, h5, h1⟩
  · unfold sp_cnt; rw [h _ (by omega) (by omega)]; exact a1
  · rw [h _ (by omega) (by omega)]; exact a2 i i0 i1
  · rw [h _ (by omega) (by omega)]; rw [h _ (by omega) (by omega)] at q7; exact a3 i i0 i1 q q0 q6 q7
theorem rl_c_c (h : ∀ a : Int, 1 ≤ a → a < 58 → μ' a = μ a) (hw : sp_wf μ') (ht : sp_ts μ') (hc : rl_c μ) : rl_c μ' := by
  have h5 : ∀ a : Int, 1 ≤ a → a < 55 → μ' a = μ a := fun a a0 a1 => h a a0 (by omega)
  obtain ⟨-, c2, c3, c4, c5, -, c7, c8⟩ := hc
  refine ⟨hw, fun i i0 i1 => ?_, ?_, fun n hn => ?_, fun i i0 i1 q q0 q1 => ?_, ht, fun i i0 i1 => ?_, fun n n0 n9 => ⟨fun hn => ?_, fun hn => ?_⟩⟩
  · rw [h _ (by omega) (by omega)]; exact c2 i i0 i1
  · unfold sp_nt; rw [h _ (by omega) (by omega)]; exact c3
  · rw [rl_pl_c h5, h 2 (by omega) (by omega)]; exact c4 n ((rl_th_c h5 n).mp hn)
  · rw [h _ (by omega) (by omega)] at q1; rw [h _ (by omega) (by omega)]; exact c5 i i0 i1 q q0 q1
  · rw [h 2 (by omega) (by omega)] at i1
    rw [h 3 (by omega) (by omega), rl_th_c h5, rl_pl_c h5]; exact c7 i i0 i1
  · have g := (c8 n n0 n9).1 ((rl_th_c h5 n).mp hn)
    unfold rl_g at g ⊢
    rw [h (5 + 5 * n) (by omega) (by omega), h (5 + 5 * n + 1) (by omega) (by omega), h (5 + 5 * n + 2) (by omega) (by omega), h (5 + 5 * n + 4) (by omega) (by omega)]
    exact ⟨g.1, g.2.1, fun k k0 k9 => (g.2.2.1 k k0 k9).elim Or.inl (fun e => Or.inr ((rl_th_c h5 _).mpr e)), g.2.2.2⟩
  · have g := (c8 n n0 n9).2 (fun e => hn ((rl_th_c h5 n).mpr e))
    unfold rl_z at g ⊢
    rw [h (5 + 5 * n) (by omega) (by omega), h (5 + 5 * n + 4) (by omega) (by omega)]
    exact g
theorem rl_d_c (h : ∀ a : Int, 1 ≤ a → a < 55 → μ' a = μ a) (hj : ∀ j : Int, (0 ≤ j ∧ j ≤ 10) ∨ (156 ≤ j ∧ j < 476) → ν' 1 j = ν 1 j) (hc : rl_c μ) (hd : rl_d μ ν) : rl_d μ' ν' := by
  have hcn := hc.1.1
  unfold sp_cnt at hcn
  obtain ⟨d1, d2, d3⟩ := hd
  have ho : ∀ n q : Int, 0 ≤ n → n ≤ 9 → 0 ≤ q → q < 32 → mo_o ν' n q = mo_o ν n q := fun n q n0 n9 q0 q1 => hj _ (by omega)
  refine ⟨by rw [hj 0 (by omega), h 2 (by omega) (by omega)]; exact d1, fun i i0 i1 => ?_, fun n n0 n9 => ⟨fun hn => ?_, fun hn => ?_⟩⟩
  · rw [h 2 (by omega) (by omega)] at i1; rw [hj _ (by omega), h 3 (by omega) (by omega)]; exact d2 i i0 i1
  · have hn' := (rl_th_c h n).mp hn
    have hit := hc.1.2.1 n n0 (by omega)
    obtain ⟨r0, r1, r2, r3, r4, r5⟩ := (d3 n n0 n9).1 hn'
    unfold rl_r
    rw [h (5 + 5 * n) (by omega) (by omega), h (5 + 5 * n + 1) (by omega) (by omega), h (5 + 5 * n + 2) (by omega) (by omega), h (5 + 5 * n + 3) (by omega) (by omega), h (5 + 5 * n + 4) (by omega) (by omega)]
    refine ⟨by rw [ho n 0 n0 n9 (by omega) (by omega)]; exact r0, by rw [ho n 1 n0 n9 (by omega) (by omega)]; exact r1, by rw [ho n 2 n0 n9 (by omega) (by omega)]; exact r2, by rw [ho n 3 n0 n9 (by omega) (by omega)]; exact r3, fun q q0 q1 => ?_, fun k k0 k9 => ?_⟩
    · rw [ho n _ n0 n9 (by omega) (by omega), ho n _ n0 n9 (by omega) (by omega), ho n _ n0 n9 (by omega) (by omega)]; exact r4 q q0 q1
    · rw [ho n _ n0 n9 (by omega) (by omega)]; exact r5 k k0 k9
  · rw [ho n 0 n0 n9 (by omega) (by omega)]; exact (d3 n n0 n9).2 (fun e => hn ((rl_th_c h n).mpr e))
theorem rl_n_c (h1 : μ' 1 = μ 1) (h5 : μ' 55 = μ 55) (h6 : μ' 56 = μ 56) (h7 : μ' 57 = μ 57) (hj : ∀ j : Int, 11 ≤ j ∧ j ≤ 28 → ν' 1 j = ν 1 j) (ht : sp_nt μ) (hn : rl_n μ ν) : rl_n μ' ν' := by
  unfold sp_nt at ht
  unfold rl_n
  rw [h1, h5, h6, h7, hj 28 (by omega), hj 11 (by omega)]
  exact ⟨hn.1, hn.2.1, fun i i0 i1 => by rw [hj _ (by omega), hj _ (by omega)]; exact hn.2.2 i i0 i1⟩
theorem rl_p_c (h : ∀ a : Int, 1 ≤ a → a < 55 → μ' a = μ a) (h8 : ∀ a : Int, 58 ≤ a → a < 62 → μ' a = μ a) (hj : ∀ j : Int, 29 ≤ j ∧ j < 156 → ν' 1 j = ν 1 j) (hw : sp_wf μ) (hp : rl_p μ ν) : rl_p μ' ν' := by
  have h4 := hw.2.2.2.1
  unfold rl_p at hp ⊢
  obtain ⟨p0, p1, p2, p3, p4, p5, p6, p7, p8⟩ := hp
  rw [h8 58 (by omega) (by omega), h8 59 (by omega) (by omega), h8 60 (by omega) (by omega), h8 61 (by omega) (by omega), rl_th_c h, rl_FS_c h p0.1.1 p0.1.2, hj 30 (by omega), hj 31 (by omega), hj 32 (by omega), hj 33 (by omega), hj 34 (by omega), hj 35 (by omega)]
  exact ⟨p0, p1, p2, p3, p4, p5, p6, p7, fun q q0 q1 => by rw [hj _ (by omega), hj _ (by omega), hj _ (by omega)]; exact p8 q q0 q1⟩
theorem rl_s_c (h : ∀ a : Int, 1 ≤ a → a < 55 → μ' a = μ a) (h8 : ∀ a : Int, 58 ≤ a → a < 62 → μ' a = μ a) (hj : ∀ j : Int, 29 ≤ j ∧ j < 156 → ν' 1 j = ν 1 j) (hw : sp_wf μ) (hs : rl_s μ ν) : rl_s μ' ν' := by
  rcases hs with ⟨g1, g2, g3, g4, g5⟩ | ⟨g1, g2⟩
  · left
    rw [hj 29 (by omega), hj 35 (by omega), hj 31 (by omega), h8 58 (by omega) (by omega)]
    exact ⟨g1, g2, g3, g4, fun k k0 k1 => by rw [hj _ (by omega)]; exact g5 k k0 k1⟩
  · right
    rw [hj 29 (by omega)]
    exact ⟨g1, rl_p_c h h8 hj hw g2⟩
theorem rl_1_c (h : ∀ a : Int, 1 ≤ a → a < 62 → μ' a = μ a) (hj : ∀ j : Int, 0 ≤ j → j < 476 → ν' 1 j = ν 1 j) (hR : rl_1 μ ν) : rl_1 μ' ν' := by
  obtain ⟨hc, hd, hn, hs⟩ := hR
  have h5 : ∀ a : Int, 1 ≤ a → a < 55 → μ' a = μ a := fun a a0 a1 => h a a0 (by omega)
  have e8 := h 58 (by omega) (by omega)
  refine ⟨rl_c_c (fun a a0 a1 => h a a0 (by omega)) (rl_wf_c h5 hc.1 (by rw [e8]; exact hc.1.2.2.2.1) (by rw [e8]; exact hc.1.2.2.2.2)) (fun k k0 k1 => ?_) hc, rl_d_c h5 (fun j _ => hj j (by omega) (by omega)) hc hd, rl_n_c (h _ (by omega) (by omega)) (h _ (by omega) (by omega)) (h _ (by omega) (by omega)) (h _ (by omega) (by omega)) (fun j _ => hj j (by omega) (by omega)) hc.2.2.1 hn, rl_s_c h5 (fun a a0 a1 => h a (by omega) a1) (fun j _ => hj j (by omega) (by omega)) hc.1 hs⟩
  rw [e8] at k1; rw [h 60 (by omega) (by omega)]; exact hc.2.2.2.2.2.1 k k0 k1
/-- only the show changes -/
theorem rl_show (h : ∀ a : Int, 1 ≤ a → a < 58 → μ' a = μ a) (hj : ∀ j : Int, (0 ≤ j ∧ j < 29) ∨ (156 ≤ j ∧ j < 476) → ν' 1 j = ν 1 j) (hw : sp_wf μ') (ht : sp_ts μ') (hs : rl_s μ' ν') (hR : rl_1 μ ν) : rl_1 μ' ν' := by
  obtain ⟨hc, hd, hn, -⟩ := hR
  exact ⟨rl_c_c h hw ht hc, rl_d_c (fun a a0 a1 => h a a0 (by omega)) (fun j _ => hj j (by omega)) hc hd, rl_n_c (h _ (by omega) (by omega)) (h _ (by omega) (by omega)) (h _ (by omega) (by omega)) (h _ (by omega) (by omega)) (fun j _ => hj j (by omega)) hc.2.2.1 hn, hs⟩
end RLC

