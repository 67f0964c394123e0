/-! the deck changes -/
def rl_k (μ ν : rd_Mem) (n : Int) : Prop := ((μ (5 + 5 * n) 0 = 0 ∨ μ (5 + 5 * n) 0 = 1) ∧ (μ (5 + 5 * n) 1 = 0 ∨ μ (5 + 5 * n) 1 = 1)) ∧ (0 ≤ μ (5 + 5 * n) 3 ∧ μ (5 + 5 * n) 3 ≤ 6) ∧ (∀ q : Int, 0 ≤ q → q < μ (5 + 5 * n) 3 → μ (5 + 5 * n + 1) q ≤ 9 ∧ 0 ≤ μ (5 + 5 * n + 3) q ∧ μ (5 + 5 * n + 3) q ≤ 99) ∧ (sp_th μ n → rl_g μ n ∧ rl_r μ ν n) ∧ (¬ sp_th μ n → rl_z μ n ∧ mo_o ν n 0 ≠ 1)
theorem rl_rk {μ ν : rd_Mem} (hR : rl_1 μ ν) {n : Int} (n0 : 0 ≤ n) (n9 : n ≤ 9) : rl_k μ ν n := by
  obtain ⟨⟨c1, c2, c3, c4, c5, c6, c7, c8⟩, ⟨d1, d2, d3⟩, -⟩ := hR
  have hb := c2 n n0 (by omega)
  rw [show (1 : Int) + 4 + 5 * n = 5 + 5 * n by omega] at hb
  exact ⟨hb, c1.2.1 n n0 (by omega), fun q q0 q1 => ⟨c1.2.2.1 n n0 (by omega) q q0 (by have := c1.2.1 n n0 (by omega); omega) q1, c5 n n0 (by omega) q q0 q1⟩, fun h => ⟨(c8 n n0 n9).1 h, (d3 n n0 n9).1 h⟩, fun h => ⟨(c8 n n0 n9).2 h, (d3 n n0 n9).2 h⟩⟩
theorem sp_ff_i {o : Int → Int} {c i : Int} (i0 : 0 ≤ i) (i1 : i < c) (h : ∀ j : Int, 0 ≤ j → j < c → o j = o i → j = i) : sp_ff (fun j => o j = o i) c.toNat 0 = i := by
  rcases sp_ff_spec (fun j => o j = o i) c.toNat 0 with ⟨h1, h2⟩ | ⟨h1, h2, h3⟩
  · exact absurd rfl (h2 i i0 (by omega))
  · exact h _ h1.1 (by omega) h2
theorem sp_ff_e {o : Int → Int} {c n i : Int} (i0 : 0 ≤ i) (i1 : i < c) (h : o i = n) : 0 ≤ sp_ff (fun j => o j = n) c.toNat 0 ∧ sp_ff (fun j => o j = n) c.toNat 0 < c := by
  rcases sp_ff_spec (fun j => o j = n) c.toNat 0 with ⟨h1, h2⟩ | ⟨h1, h2, h3⟩
  · exact absurd h (h2 i i0 (by omega))
  · exact ⟨h1.1, by omega⟩
def sp_ord (T : Int → Prop) (o : Int → Int) (c : Int) : Prop := (∀ i : Int, 0 ≤ i → i < c → T (o i)) ∧ (∀ i j : Int, 0 ≤ i → i < c → 0 ≤ j → j < c → o j = o i → j = i) ∧ ∀ n : Int, T n → ∃ i : Int, 0 ≤ i ∧ i < c ∧ o i = n
theorem rl_mk1 {μ ν : rd_Mem} (hcnt : 0 ≤ μ 2 0 ∧ μ 2 0 ≤ 10) (ho : sp_ord (sp_th μ) (μ 3) (μ 2 0)) (hνc : ν 1 0 = μ 2 0) (hνo : ∀ i : Int, 0 ≤ i → i < μ 2 0 → ν 1 (1 + i) = μ 3 i) (hk : ∀ n : Int, 0 ≤ n → n ≤ 9 → rl_k μ ν n) (hnt : sp_nt μ) (hn : rl_n μ ν) (h5 : 0 ≤ μ 58 5 ∧ μ 58 5 ≤ 40) (h1 : 0 ≤ μ 58 1 ∧ μ 58 1 ≤ 9) (hts : sp_ts μ) (hs : rl_s μ ν) : rl_1 μ ν := by
  obtain ⟨hth, hin, hsu⟩ := ho
  refine ⟨⟨⟨hcnt, fun i i0 i1 => (hk i i0 (by omega)).2.1, fun i i0 i1 q q0 _ q1 => ((hk i i0 (by omega)).2.2.1 q q0 q1).1, h5, h1⟩, fun i i0 i1 => ?_, hnt, fun n h => ?_, fun i i0 i1 q q0 q1 => ((hk i i0 (by omega)).2.2.1 q q0 q1).2, hts, fun i i0 i1 => ⟨hth i i0 i1, ?_⟩, fun n n0 n9 => ⟨fun h => ((hk n n0 n9).2.2.2.1 h).1, fun h => ((hk n n0 n9).2.2.2.2 h).1⟩⟩, ⟨hνc, hνo, fun n n0 n9 => ⟨fun h => ((hk n n0 n9).2.2.2.1 h).2, fun h => ((hk n n0 n9).2.2.2.2 h).2⟩⟩, hn, hs⟩
  · rw [show (1 : Int) + 4 + 5 * i = 5 + 5 * i by omega]; exact (hk i i0 (by omega)).1
  · obtain ⟨i, i0, i1, hi⟩ := hsu n h
    exact sp_ff_e i0 i1 hi
  · exact sp_ff_i i0 i1 (fun j j0 j1 e => hin i j i0 i1 j0 j1 e)
/-- the show's cells stay -/
theorem rl_s_d {μ μ' ν ν' : rd_Mem} (hR : rl_1 μ ν) (h58 : ∀ a : Int, 58 ≤ a → a < 62 → μ' a = μ a) (hν : ∀ j : Int, 29 ≤ j → j < 156 → ν' 1 j = ν 1 j) (hs : sp_th μ (μ 58 0) → sp_th μ' (μ 58 0) ∧ μ 58 1 ≤ sp_FS μ' (μ 58 0)) : rl_s μ' ν' := by
  have h4 := hR.1.1.2.2.2.1
  have e58 := h58 58 (by omega) (by omega)
  rcases hR.2.2.2 with ⟨g1, g2, g3, g4, g5⟩ | ⟨g1, p0, p1, p2, p3, p4, p5, p6, p7, p8⟩
  · left
    rw [hν 29 (by omega) (by omega), hν 35 (by omega) (by omega), hν 31 (by omega) (by omega), e58]
    exact ⟨g1, g2, g3, g4, fun k k0 k1 => by rw [hν _ (by omega) (by omega)]; exact g5 k k0 k1⟩
  · right
    obtain ⟨s1, s2⟩ := hs p0
    unfold rl_p
    rw [hν 29 (by omega) (by omega), hν 30 (by omega) (by omega), hν 31 (by omega) (by omega), hν 32 (by omega) (by omega), hν 33 (by omega) (by omega), hν 34 (by omega) (by omega), hν 35 (by omega) (by omega), e58, h58 59 (by omega) (by omega), h58 60 (by omega) (by omega), h58 61 (by omega) (by omega)]
    exact ⟨g1, s1, p1, p2, p3, p4, p5, p6, s2, fun q q0 q1 => by rw [hν _ (by omega) (by omega), hν _ (by omega) (by omega), hν _ (by omega) (by omega)]; exact p8 q q0 q1⟩
theorem rl_ts_c {μ μ' : rd_Mem} (h58 : ∀ a : Int, 58 ≤ a → a < 62 → μ' a = μ a) (h : sp_ts μ) : sp_ts μ' := fun k k0 k1 => by
  rw [h58 58 (by omega) (by omega)] at k1; rw [h58 60 (by omega) (by omega)]; exact h k k0 k1
theorem rl_deck {μ μ' ν ν' : rd_Mem} (hR : rl_1 μ ν) (h1 : μ' 1 = μ 1) (h55 : ∀ a : Int, 55 ≤ a → a < 62 → μ' a = μ a) (hν : ∀ j : Int, 11 ≤ j → j < 156 → ν' 1 j = ν 1 j) (hcnt : 0 ≤ μ' 2 0 ∧ μ' 2 0 ≤ 10) (ho : sp_ord (sp_th μ') (μ' 3) (μ' 2 0))
    (hνc : ν' 1 0 = μ' 2 0) (hνo : ∀ i : Int, 0 ≤ i → i < μ' 2 0 → ν' 1 (1 + i) = μ' 3 i) (hk : ∀ n : Int, 0 ≤ n → n ≤ 9 → rl_k μ' ν' n) (hs : sp_th μ (μ 58 0) → sp_th μ' (μ 58 0) ∧ μ 58 1 ≤ sp_FS μ' (μ 58 0)) : rl_1 μ' ν' := by
  have e58 := h55 58 (by omega) (by omega)
  exact rl_mk1 hcnt ho hνc hνo hk (by unfold sp_nt; rw [h55 55 (by omega) (by omega)]; exact hR.1.2.2.1) (rl_n_c h1 (h55 55 (by omega) (by omega)) (h55 56 (by omega) (by omega)) (h55 57 (by omega) (by omega)) (fun j hj => hν j (by omega) (by omega)) hR.1.2.2.1 hR.2.2.1) (by rw [e58]; exact hR.1.1.2.2.2.1) (by rw [e58]; exact hR.1.1.2.2.2.2) (rl_ts_c (fun a a0 a1 => h55 a (by omega) a1) hR.1.2.2.2.2.2.1) (rl_s_d hR (fun a a0 a1 => h55 a (by omega) a1) (fun j j0 j1 => hν j (by omega) j1) hs)
/-- the old order -/
theorem rl_oi {μ : rd_Mem} (hc : rl_c μ) {i j : Int} (i0 : 0 ≤ i) (i1 : i < μ 2 0) (j0 : 0 ≤ j) (j1 : j < μ 2 0) (h : μ 3 j = μ 3 i) : j = i := by
  have h1 := (hc.2.2.2.2.2.2.1 i i0 i1).2
  have h2 := (hc.2.2.2.2.2.2.1 j j0 j1).2
  rw [h] at h2; omega
theorem rl_os {μ : rd_Mem} (hc : rl_c μ) {n : Int} (h : sp_th μ n) : (0 ≤ sp_pl μ n ∧ sp_pl μ n < μ 2 0) ∧ μ 3 (sp_pl μ n) = n := by
  have hp := hc.2.2.2.1 n h
  refine ⟨hp, ?_⟩
  unfold sp_pl at hp ⊢
  rcases sp_ff_spec (fun i => μ 3 i = n) (μ 2 0).toNat 0 with ⟨k, -⟩ | ⟨-, k, -⟩
  · omega
  · exact k
/-- a row stays where its cells do -/
theorem rl_k_c {μ μ' ν ν' : rd_Mem} {n : Int} (n0 : 0 ≤ n) (n9 : n ≤ 9) (hm : ∀ c : Int, 0 ≤ c → c ≤ 4 → μ' (5 + 5 * n + c) = μ (5 + 5 * n + c)) (hth : ∀ m : Int, sp_th μ m → sp_th μ' m) (hν : ∀ q : Int, 0 ≤ q → q < 32 → mo_o ν' n q = mo_o ν n q) (h : rl_k μ ν n) : rl_k μ' ν' n := by
  have e0 : μ' (5 + 5 * n) = μ (5 + 5 * n) := by have := hm 0 (by omega) (by omega); rw [Int.add_zero] at this; exact this
  have e1 := hm 1 (by omega) (by omega)
  have e2 := hm 2 (by omega) (by omega)
  have e3 := hm 3 (by omega) (by omega)
  have e4 := hm 4 (by omega) (by omega)
  have ht : sp_th μ' n ↔ sp_th μ n := by unfold sp_th; rw [e0]
  obtain ⟨h1, h2, h3, h4, h5⟩ := h
  unfold rl_k
  rw [ht, e0, e1, e3]
  refine ⟨h1, h2, h3, fun h => ?_, fun h => ?_⟩
  · obtain ⟨⟨g1, g2, g3, g4⟩, r0, r1, r2, r3, r4, r5⟩ := h4 h
    unfold rl_g rl_r
    rw [e0, e1, e2, e3, e4, hν 0 (by omega) (by omega), hν 1 (by omega) (by omega), hν 2 (by omega) (by omega), hν 3 (by omega) (by omega)]
    exact ⟨⟨g1, g2, fun k k0 k9 => (g3 k k0 k9).elim Or.inl (fun e => Or.inr (hth _ e)), g4⟩, r0, r1, r2, r3, fun q q0 q1 => by rw [hν _ (by omega) (by omega), hν _ (by omega) (by omega), hν _ (by omega) (by omega)]; exact r4 q q0 q1, fun k k0 k9 => by rw [hν _ (by omega) (by omega)]; exact r5 k k0 k9⟩
  · obtain ⟨g, g2⟩ := h5 h
    unfold rl_z at g ⊢
    rw [e0, e4, hν 0 (by omega) (by omega)]
    exact ⟨g, g2⟩
theorem sp_lk_m {t t' : Int → Int} {n : Nat} (h : ∀ k : Int, 0 ≤ k → k < n → t' k = t k ∨ t' k = -1) : sp_lk t' n ≤ sp_lk t n := by
  induction n with
  | zero => exact Int.le_refl _
  | succ n ih =>
    have h1 := ih (fun k a b => h k a (by omega))
    have h2 := h n (by omega) (by omega)
    simp only [sp_lk]
    split <;> split <;> omega
theorem sp_lk_z {t : Int → Int} {n : Nat} (h : ∀ k : Int, 0 ≤ k → k < n → t k = -1) : sp_lk t n = 0 := by
  induction n with
  | zero => rfl
  | succ n ih => simp only [sp_lk]; rw [if_pos (h n (by omega) (by omega)), ih (fun k a b => h k a (by omega))]
theorem rl_FSr {μ ν : rd_Mem} {n : Int} (h : rl_r μ ν n) : mo_FS ν n = sp_FS μ n := by
  obtain ⟨h0, h1, h2, h3, h4, -⟩ := h
  unfold mo_FS sp_FS
  rw [h3]
  exact sp_fs_c (fun k hk => ⟨(h4 k (by omega) (by omega)).1, (h4 k (by omega) (by omega)).2.1⟩)
theorem rl_ord {μ : rd_Mem} (hc : rl_c μ) : sp_ord (sp_th μ) (μ 3) (μ 2 0) := ⟨fun i i0 i1 => (hc.2.2.2.2.2.2.1 i i0 i1).1, fun _ _ i0 i1 j0 j1 h => rl_oi hc i0 i1 j0 j1 h, fun n h => ⟨sp_pl μ n, (rl_os hc h).1.1, (rl_os hc h).1.2, (rl_os hc h).2⟩⟩
theorem sp_ord_c {T T' : Int → Prop} {o o' : Int → Int} {c c' : Int} (h : sp_ord T o c) (hT : ∀ n, T' n ↔ T n) (hc : c' = c) (ho : ∀ i : Int, 0 ≤ i → i < c → o' i = o i) : sp_ord T' o' c' := by
  subst hc
  obtain ⟨h1, h2, h3⟩ := h
  refine ⟨fun i i0 i1 => by rw [ho i i0 i1, hT]; exact h1 i i0 i1, fun i j i0 i1 j0 j1 e => ?_, fun n hn => ?_⟩
  · rw [ho i i0 i1, ho j j0 j1] at e; exact h2 i j i0 i1 j0 j1 e
  · obtain ⟨i, i0, i1, e⟩ := h3 n ((hT n).mp hn); exact ⟨i, i0, i1, by rw [ho i i0 i1]; exact e⟩
/-- the deck's cells stay -/
theorem rl_mk2 {μ μ' ν ν' : rd_Mem} (hR : rl_1 μ ν) (h : ∀ a : Int, 2 ≤ a → a < 55 → μ' a = μ a) (hj : ∀ j : Int, (0 ≤ j ∧ j ≤ 10) ∨ (156 ≤ j ∧ j < 476) → ν' 1 j = ν 1 j) (hnt : sp_nt μ') (hn : rl_n μ' ν') (h5 : 0 ≤ μ' 58 5 ∧ μ' 58 5 ≤ 40) (h1 : 0 ≤ μ' 58 1 ∧ μ' 58 1 ≤ 9) (hts : sp_ts μ') (hs : rl_s μ' ν') : rl_1 μ' ν' := by
  have e2 := h 2 (by omega) (by omega)
  have e3 := h 3 (by omega) (by omega)
  have hcn := hR.1.1.1
  unfold sp_cnt at hcn
  have hth : ∀ n, sp_th μ' n ↔ sp_th μ n := fun n => by
    unfold sp_th
    constructor
    · rintro ⟨h1, h2⟩; rw [h _ (by omega) (by omega)] at h2; exact ⟨h1, h2⟩
    · rintro ⟨h1, h2⟩; exact ⟨h1, by rw [h _ (by omega) (by omega)]; exact h2⟩
  refine rl_mk1 (by rw [e2]; exact hcn) (sp_ord_c (rl_ord hR.1) hth (by rw [e2]) (fun i _ _ => by rw [e3])) (by rw [hj 0 (by omega), e2]; exact hR.2.1.1) (fun i i0 i1 => ?_) (fun n n0 n9 => rl_k_c n0 n9 (fun c c0 c4 => h _ (by omega) (by omega)) (fun m hm => (hth m).mpr hm) (fun q q0 q1 => hj _ (by omega)) (rl_rk hR n0 n9)) hnt hn h5 h1 hts hs
  rw [e2] at i1
  rw [hj _ (by omega), e3]; exact hR.2.1.2.1 i i0 i1

