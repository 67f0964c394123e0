/-! what the deeds keep: the end, the clock, what is waited, the items -/
def px_it (π : rd_Mem) : Prop := ∀ n q : Int, mo_t π n → 0 ≤ q → q < mo_o π n 3 → mo_o π n (4 + 3 * q + 1) = -1 ∨ mo_o π n (4 + 3 * q) ≤ mo_o π n (4 + 3 * q + 1)
def px_E (k : Int) (π : rd_Mem) : Prop := 0 ≤ π 1 28 ∧ (0 ≤ π 1 32 ∧ π 1 32 ≤ k) ∧ (0 ≤ π 1 33 ∧ π 1 33 ≤ k) ∧ px_it π
def px_R (k : Int) (π : rd_Mem) (z : Int × rd_Mem) : Prop := px_E k z.2 ∧ (0 ≤ z.1 ∨ (-6 < z.1 ∧ z.1 < 0 ∧ z.2 = π))
section PX
variable {μ π π' : rd_Mem} {k : Int}
theorem px_mono {k' : Int} (h : px_E k π) (hk : k ≤ k') : px_E k' π := ⟨h.1, ⟨h.2.1.1, by have := h.2.1.2; omega⟩, ⟨h.2.2.1.1, by have := h.2.2.1.2; omega⟩, h.2.2.2⟩
theorem px_err {e : Int} (h : px_E k π) (h0 : -6 < e) (h1 : e < 0) : px_R (k + 99) π (e, π) := ⟨px_mono h (by omega), Or.inr ⟨h0, h1, rfl⟩⟩
theorem px_it_c (h : ∀ n q : Int, 0 ≤ n → n ≤ 9 → q = 0 ∨ (3 ≤ q ∧ q < 22) → mo_o π' n q = mo_o π n q) (h3 : ∀ n : Int, mo_t π n → mo_o π n 3 ≤ 6) (hi : px_it π) : px_it π' := by
  intro n q ht q0 q1
  have hn := ht.1
  have ht' : mo_t π n := ⟨hn, by rw [← h n 0 hn.1 hn.2 (Or.inl rfl)]; exact ht.2⟩
  have h6 := h3 n ht'
  rw [h n 3 hn.1 hn.2 (by omega)] at q1
  rw [h n _ hn.1 hn.2 (by omega), h n _ hn.1 hn.2 (by omega)]
  exact hi n q ht' q0 q1
theorem px_c {k' : Int} (hR : rl_1 μ π) (hE : px_E k π) (hk : k ≤ k') (h : ∀ n q : Int, 0 ≤ n → n ≤ 9 → q = 0 ∨ (3 ≤ q ∧ q < 22) → mo_o π' n q = mo_o π n q) (h28 : 0 ≤ π' 1 28) (h32 : 0 ≤ π' 1 32 ∧ π' 1 32 ≤ k') (h33 : 0 ≤ π' 1 33 ∧ π' 1 33 ≤ k') : px_E k' π' :=
  ⟨h28, h32, h33, px_it_c h (fun n ht => ((rl_J hR).1.1.2.1 n ht).1.1.2) hE.2.2.2⟩
theorem px_s {k' : Int} (hR : rl_1 μ π) (hE : px_E k π) (hk : k ≤ k') (h : ∀ j : Int, j = 28 ∨ j = 32 ∨ j = 33 ∨ (156 ≤ j ∧ j < 476 ∧ ((j - 156) % 32 = 0 ∨ (3 ≤ (j - 156) % 32 ∧ (j - 156) % 32 < 22))) → π' 1 j = π 1 j) : px_E k' π' := by
  have m := px_mono hE hk
  refine px_c hR hE hk (fun n q n0 n9 hq => h _ (by omega)) ?_ ?_ ?_
  · rw [h 28 (by omega)]; exact m.1
  · rw [h 32 (by omega)]; exact m.2.1
  · rw [h 33 (by omega)]; exact m.2.2.1
theorem px_cn (hR : rl_1 μ π) : 0 ≤ π 1 0 ∧ π 1 0 ≤ 10 := (rl_J hR).1.1.1.1
theorem px_n6 (hR : rl_1 μ π) {n : Int} (h : mo_t π n) : 0 ≤ mo_o π n 3 ∧ mo_o π n 3 ≤ 6 := ((rl_J hR).1.1.2.1 n h).1.1
theorem px_pl (hR : rl_1 μ π) {n : Int} (h : mo_t π n) : 0 ≤ mo_pl π n ∧ mo_pl π n < π 1 0 := ((rl_J hR).1.1.2.1 n h).2
theorem px_fr (hR : rl_1 μ π) (h : π 1 0 ≠ 10) : 0 ≤ mo_fr π ∧ mo_fr π ≤ 9 := by
  have hc : π 1 0 = μ 2 0 := hR.2.1.1
  have hf := rl_free hR.1
  have hfr : mo_fr π = sp_ff (fun i => μ (5 + 5 * i) 0 = 0) 10 0 := by
    refine sp_ff_cl (fun i i0 i1 => ?_)
    show mo_o π i 0 ≠ 1 ↔ μ (5 + 5 * i) 0 = 0
    have hd := hR.2.1.2.2 i i0 (by omega)
    constructor
    · intro h
      by_cases h3 : μ (5 + 5 * i) 0 = 0
      · exact h3
      · exact absurd (hd.1 ⟨⟨i0, by omega⟩, h3⟩).1 h
    · intro h; exact hd.2 (fun g => g.2 h)
  rcases sp_ff_spec (fun i => μ (5 + 5 * i) 0 = 0) 10 0 with ⟨s1, -⟩ | ⟨s1, -, -⟩
  · exact absurd (hf.mp s1) (by rw [← hc]; exact h)
  · rw [hfr]; omega
theorem px_addSlide (hR : rl_1 μ π) (hE : px_E k π) : px_R (k + 99) π (pf_addSlide π) := by
  unfold pf_addSlide
  by_cases h : π 1 0 = 10
  · rw [pg_ift h]; exact px_err hE (by decide) (by decide)
  rw [pg_iff h]
  have hx := px_fr hR h
  have hc := px_cn hR
  generalize mo_fr π = x at *
  have l0 : mo_lr π x 32 1 0 = π 1 0 := by unfold mo_lr; exact if_neg (fun g => by have := g.2.1; omega)
  have hj : ∀ j : Int, 11 ≤ j → (j < 156 + 32 * x ∨ 156 + 32 * x + 32 ≤ j) → mo_ad π x 1 j = π 1 j := fun j j0 j1 => by
    unfold mo_ad
    rw [rd_u_j _ _ _ (by omega), rd_u_j _ _ _ (by rw [l0]; omega), rd_u_j _ _ _ (by omega)]
    unfold mo_lr
    exact if_neg (fun g => by have := g.2.1; have := g.2.2; omega)
  have h3 : mo_o (mo_ad π x) x 3 = 0 := by
    unfold mo_o mo_ad
    rw [rd_u_j _ _ _ (by omega), rd_u_j _ _ _ (by rw [l0]; omega), rd_u_j _ _ _ (by omega)]
    unfold mo_lr
    rw [if_pos ⟨rfl, by omega, by omega⟩, if_pos (by omega)]
  have m := px_mono hE (show k ≤ k + 99 by omega)
  refine ⟨⟨?_, ?_, ?_, fun n q ht q0 q1 => ?_⟩, Or.inl hx.1⟩
  · show 0 ≤ mo_ad π x 1 28; rw [hj 28 (by omega) (by omega)]; exact m.1
  · show 0 ≤ mo_ad π x 1 32 ∧ mo_ad π x 1 32 ≤ k + 99; rw [hj 32 (by omega) (by omega)]; exact m.2.1
  · show 0 ≤ mo_ad π x 1 33 ∧ mo_ad π x 1 33 ≤ k + 99; rw [hj 33 (by omega) (by omega)]; exact m.2.2.1
  · replace ht : mo_t (mo_ad π x) n := ht
    replace q1 : q < mo_o (mo_ad π x) n 3 := q1
    show mo_o (mo_ad π x) n (4 + 3 * q + 1) = -1 ∨ mo_o (mo_ad π x) n (4 + 3 * q) ≤ mo_o (mo_ad π x) n (4 + 3 * q + 1)
    by_cases hn : n = x
    · rw [hn, h3] at q1; omega
    have hn9 := ht.1
    have hr : ∀ c : Int, 0 ≤ c → c < 32 → mo_o (mo_ad π x) n c = mo_o π n c := fun c c0 c1 => hj _ (by omega) (by omega)
    have ht' : mo_t π n := ⟨hn9, by rw [← hr 0 (by omega) (by omega)]; exact ht.2⟩
    have h6 := px_n6 hR ht'
    rw [hr 3 (by omega) (by omega)] at q1
    rw [hr _ (by omega) (by omega), hr _ (by omega) (by omega)]
    exact hE.2.2.2 n q ht' q0 q1
theorem px_removeSlide (hR : rl_1 μ π) (hE : px_E k π) (x : Int) : px_R (k + 99) π (pf_removeSlide π x) := by
  unfold pf_removeSlide
  by_cases h : ¬ mo_t π x
  · rw [pg_ift h]; exact px_err hE (by decide) (by decide)
  rw [pg_iff h]
  by_cases h2 : (mo_t π x ∧ π 1 29 = 1 ∧ π 1 30 = x)
  · rw [pg_ift h2]; exact px_err hE (by decide) (by decide)
  rw [pg_iff h2]
  have hx : mo_t π x := Classical.not_not.mp h
  have hp := px_pl hR hx
  have hc := px_cn hR
  have hx9 := hx.1
  have hto := (mo_to_s π (mo_pl π x)).2.2.1
  have hj : ∀ j : Int, 11 ≤ j → j ≠ 156 + 32 * x → (j < 156 ∨ 476 ≤ j ∨ (j - 156) % 32 < 22) → mo_rm π x 1 j = π 1 j := fun j j0 j1 j2 => by
    unfold mo_rm mo_dl
    rw [if_neg (fun g => by have := g.2.1; have := g.2.2.1; omega), rd_u_j _ _ _ (by omega)]
    exact hto j (by omega) (by omega)
  have h0 : mo_o (mo_rm π x) x 0 = 0 := by
    unfold mo_o mo_rm mo_dl
    rw [if_neg (fun g => by have := g.2.2.1; omega), rd_u_s]
  have m := px_mono hE (show k ≤ k + 99 by omega)
  refine ⟨⟨?_, ?_, ?_, fun n q ht q0 q1 => ?_⟩, Or.inl ?_⟩
  · show 0 ≤ mo_rm π x 1 28; rw [hj 28 (by omega) (by omega) (by omega)]; exact m.1
  · show 0 ≤ mo_rm π x 1 32 ∧ mo_rm π x 1 32 ≤ k + 99; rw [hj 32 (by omega) (by omega) (by omega)]; exact m.2.1
  · show 0 ≤ mo_rm π x 1 33 ∧ mo_rm π x 1 33 ≤ k + 99; rw [hj 33 (by omega) (by omega) (by omega)]; exact m.2.2.1
  · replace ht : mo_t (mo_rm π x) n := ht
    replace q1 : q < mo_o (mo_rm π x) n 3 := q1
    show mo_o (mo_rm π x) n (4 + 3 * q + 1) = -1 ∨ mo_o (mo_rm π x) n (4 + 3 * q) ≤ mo_o (mo_rm π x) n (4 + 3 * q + 1)
    have hn9 := ht.1
    have hn : n ≠ x := fun e => by have := ht.2; rw [e, h0] at this; omega
    have hr : ∀ c : Int, 0 ≤ c → c < 22 → mo_o (mo_rm π x) n c = mo_o π n c := fun c c0 c1 => hj _ (by omega) (by omega) (by omega)
    have ht' : mo_t π n := ⟨hn9, by rw [← hr 0 (by omega) (by omega)]; exact ht.2⟩
    have h6 := px_n6 hR ht'
    rw [hr 3 (by omega) (by omega)] at q1
    rw [hr _ (by omega) (by omega), hr _ (by omega) (by omega)]
    exact hE.2.2.2 n q ht' q0 q1
  · show 0 ≤ π 1 0 - 1; omega
theorem px_moveSlide (hR : rl_1 μ π) (hE : px_E k π) (x q0 : Int) : px_R (k + 99) π (pf_moveSlide π x q0) := by
  unfold pf_moveSlide
  by_cases h : ¬ mo_t π x
  · rw [pg_ift h]; exact px_err hE (by decide) (by decide)
  rw [pg_iff h]
  by_cases h2 : (mo_t π x ∧ (q0 < 0 ∨ π 1 0 - 1 < q0))
  · rw [pg_ift h2]; exact px_err hE (by decide) (by decide)
  rw [pg_iff h2]
  have hx : mo_t π x := Classical.not_not.mp h
  have hq : 0 ≤ q0 ∧ q0 ≤ π 1 0 - 1 := by
    constructor
    · by_cases g : 0 ≤ q0
      · exact g
      · exact absurd ⟨hx, Or.inl (by omega)⟩ h2
    · by_cases g : q0 ≤ π 1 0 - 1
      · exact g
      · exact absurd ⟨hx, Or.inr (by omega)⟩ h2
  have hp := px_pl hR hx
  have hc := px_cn hR
  obtain ⟨t1, -, t3, -⟩ := mo_to_s π (mo_pl π x)
  obtain ⟨-, -, i3, -⟩ := mo_in_s (mo_to π (mo_pl π x)) (q := q0) (x := x) (by omega) (by rw [t1]; omega) (by rw [t1]; omega)
  exact ⟨px_s hR hE (by omega) (fun j hj => by show mo_in (mo_to π (mo_pl π x)) q0 x 1 j = π 1 j; rw [i3 j (by rw [t1]; omega), t3 j (by omega) (by omega)]), Or.inl hp.1⟩
theorem px_hid (hR : rl_1 μ π) {n : Int} (h : mo_t π n) : 0 ≤ mo_o π n 1 ∧ mo_o π n 1 ≤ 1 := by
  have hs := (rl_t hR.2.1 n).mp h
  have hr := (rl_row hR.2.1 hs).2.1
  have hb := (hR.1.2.1 n hs.1.1 hs.1.2).2
  rw [show (1 : Int) + 4 + 5 * n = 5 + 5 * n by omega] at hb
  rw [hr]; omega
theorem px_sum {g : Int → Int} : ∀ {n : Nat}, (∀ i : Int, 0 ≤ i → i < n → 0 ≤ g i) → 0 ≤ sp_sum g n := by
  intro n
  induction n with
  | zero => intro _; exact Int.le_refl 0
  | succ n ih =>
    intro h
    have h1 := ih (fun i a b => h i a (by omega))
    have h2 := h n (by omega) (by omega)
    simp only [sp_sum]; omega
theorem px_hide (hR : rl_1 μ π) (hE : px_E k π) (x : Int) {b0 : Int} (hb : b0 = 0 ∨ b0 = 1) : px_R (k + 99) π (pf_hide π x b0) := by
  unfold pf_hide
  by_cases h : ¬ mo_t π x
  · rw [pg_ift h]; exact px_err hE (by decide) (by decide)
  rw [pg_iff h]
  have hx : mo_t π x := Classical.not_not.mp h
  have hx9 := hx.1
  have hc := px_cn hR
  refine ⟨px_s hR hE (by omega) (fun j hj => by show rd_u π 1 _ _ 1 j = π 1 j; exact rd_u_j _ _ _ (by omega)), Or.inl ?_⟩
  refine px_sum (fun i i0 i1 => ?_)
  have hm := (rl_J hR).1.1.2.2.1 i i0 (by omega)
  have e : rd_u π 1 (156 + 32 * x + 1) b0 1 (1 + i) = π 1 (1 + i) := rd_u_j _ _ _ (by omega)
  rw [e]
  have h1 := px_hid hR hm
  unfold mo_o at h1 ⊢
  by_cases g : 156 + 32 * π 1 (1 + i) + 1 = 156 + 32 * x + 1
  · rw [g, rd_u_s]; omega
  · rw [rd_u_j _ _ _ g]; exact h1.1
theorem px_pz (hR : rl_1 μ π) {n : Int} (h : mo_t π n) : 0 ≤ mo_o π n 2 ∧ mo_o π n 2 ≤ 60 := by
  have hs := (rl_t hR.2.1 n).mp h
  rw [(rl_row hR.2.1 hs).2.2.1]
  exact ((hR.1.2.2.2.2.2.2.2 n h.1.1 h.1.2).1 hs).1
theorem px_setPause (hR : rl_1 μ π) (hE : px_E k π) (x q0 : Int) : px_R (k + 99) π (pf_setPause π x q0) := by
  unfold pf_setPause
  by_cases h : ¬ mo_t π x
  · rw [pg_ift h]; exact px_err hE (by decide) (by decide)
  rw [pg_iff h]
  by_cases h2 : (mo_t π x ∧ (q0 < 0 ∨ 60 < q0))
  · rw [pg_ift h2]; exact px_err hE (by decide) (by decide)
  rw [pg_iff h2]
  have hx : mo_t π x := Classical.not_not.mp h
  have hx9 := hx.1
  exact ⟨px_s hR hE (by omega) (fun j hj => by show rd_u π 1 _ _ 1 j = π 1 j; exact rd_u_j _ _ _ (by omega)), Or.inl (px_pz hR hx).1⟩
theorem px_addItem (hR : rl_1 μ π) (hE : px_E k π) (x f0 l0 t0 : Int) : px_R (k + 99) π (pf_addItem π x f0 l0 t0) := by
  unfold pf_addItem
  by_cases h : ¬ mo_t π x
  · rw [pg_ift h]; exact px_err hE (by decide) (by decide)
  rw [pg_iff h]
  by_cases h2 : (mo_t π x ∧ ¬ ((0 ≤ f0 ∧ f0 ≤ 9) ∧ (l0 = -1 ∨ (f0 ≤ l0 ∧ l0 ≤ 9)) ∧ (0 ≤ t0 ∧ t0 ≤ 99)))
  · rw [pg_ift h2]; exact px_err hE (by decide) (by decide)
  rw [pg_iff h2]
  by_cases h3 : (mo_t π x ∧ ((0 ≤ f0 ∧ f0 ≤ 9) ∧ (l0 = -1 ∨ (f0 ≤ l0 ∧ l0 ≤ 9)) ∧ (0 ≤ t0 ∧ t0 ≤ 99)) ∧ mo_o π x 3 = 6)
  · rw [pg_ift h3]; exact px_err hE (by decide) (by decide)
  rw [pg_iff h3]
  have hx : mo_t π x := Classical.not_not.mp h
  have hx9 := hx.1
  have hq : (0 ≤ f0 ∧ f0 ≤ 9) ∧ (l0 = -1 ∨ (f0 ≤ l0 ∧ l0 ≤ 9)) ∧ (0 ≤ t0 ∧ t0 ≤ 99) := Classical.not_not.mp (fun g => h2 ⟨hx, g⟩)
  have h6 := px_n6 hR hx
  have hc5 : mo_o π x 3 ≠ 6 := fun g => h3 ⟨hx, hq, g⟩
  generalize hC : mo_o π x 3 = c at *
  have m := px_mono hE (show k ≤ k + 99 by omega)
  generalize hN : rd_u (rd_u (rd_u (rd_u π 1 (156 + 32 * x + (4 + 3 * c)) f0) 1 (156 + 32 * x + (4 + 3 * c + 1)) l0) 1 (156 + 32 * x + (4 + 3 * c + 2)) t0) 1 (156 + 32 * x + 3) (c + 1) = N
  have hj : ∀ j : Int, j ≠ 156 + 32 * x + (4 + 3 * c) → j ≠ 156 + 32 * x + (4 + 3 * c + 1) → j ≠ 156 + 32 * x + (4 + 3 * c + 2) → j ≠ 156 + 32 * x + 3 → N 1 j = π 1 j := fun j a b d e => by
    rw [← hN, rd_u_j _ _ _ e, rd_u_j _ _ _ d, rd_u_j _ _ _ b, rd_u_j _ _ _ a]
  have v3 : mo_o N x 3 = c + 1 := by unfold mo_o; rw [← hN, rd_u_s]
  have vf : mo_o N x (4 + 3 * c) = f0 := by unfold mo_o; rw [← hN, rd_u_j _ _ _ (by omega), rd_u_j _ _ _ (by omega), rd_u_j _ _ _ (by omega), rd_u_s]
  have vl : mo_o N x (4 + 3 * c + 1) = l0 := by unfold mo_o; rw [← hN, rd_u_j _ _ _ (by omega), rd_u_j _ _ _ (by omega), rd_u_s]
  refine ⟨⟨?_, ?_, ?_, fun n q ht q0 q1 => ?_⟩, Or.inl h6.1⟩
  · show 0 ≤ N 1 28; rw [hj 28 (by omega) (by omega) (by omega) (by omega)]; exact m.1
  · show 0 ≤ N 1 32 ∧ N 1 32 ≤ k + 99; rw [hj 32 (by omega) (by omega) (by omega) (by omega)]; exact m.2.1
  · show 0 ≤ N 1 33 ∧ N 1 33 ≤ k + 99; rw [hj 33 (by omega) (by omega) (by omega) (by omega)]; exact m.2.2.1
  · replace ht : mo_t N n := ht
    replace q1 : q < mo_o N n 3 := q1
    show mo_o N n (4 + 3 * q + 1) = -1 ∨ mo_o N n (4 + 3 * q) ≤ mo_o N n (4 + 3 * q + 1)
    have hn9 := ht.1
    by_cases hn : n = x
    · rw [hn] at q1 ⊢
      rw [v3] at q1
      by_cases hqc : q = c
      · rw [hqc, vf, vl]; omega
      · have e1 : mo_o N x (4 + 3 * q + 1) = mo_o π x (4 + 3 * q + 1) := hj _ (by omega) (by omega) (by omega) (by omega)
        have e2 : mo_o N x (4 + 3 * q) = mo_o π x (4 + 3 * q) := hj _ (by omega) (by omega) (by omega) (by omega)
        rw [e1, e2]
        exact hE.2.2.2 x q hx q0 (by rw [hC]; omega)
    · have hr : ∀ d : Int, 0 ≤ d → d < 32 → mo_o N n d = mo_o π n d := fun d d0 d1 => hj _ (by omega) (by omega) (by omega) (by omega)
      have ht' : mo_t π n := ⟨hn9, by rw [← hr 0 (by omega) (by omega)]; exact ht.2⟩
      have h6' := px_n6 hR ht'
      rw [hr 3 (by omega) (by omega)] at q1
      rw [hr _ (by omega) (by omega), hr _ (by omega) (by omega)]
      exact hE.2.2.2 n q ht' q0 q1
theorem px_removeItem (hR : rl_1 μ π) (hE : px_E k π) (x p : Int) : px_R (k + 99) π (pf_removeItem π x p) := by
  unfold pf_removeItem
  by_cases h : ¬ (mo_t π x ∧ 0 ≤ p ∧ p ≤ mo_o π x 3 - 1)
  · rw [pg_ift h]; exact px_err hE (by decide) (by decide)
  rw [pg_iff h]
  obtain ⟨hx, p0, p1⟩ := Classical.not_not.mp h
  have hx9 := hx.1
  have h6 := px_n6 hR hx
  have m := px_mono hE (show k ≤ k + 99 by omega)
  obtain ⟨d3, di, db⟩ := mo_di_s π (x := x) (q := p) h6 p0
  have hcl : ∀ j : Int, j ≠ 31 → mo_cl (mo_di π x p) x 1 j = mo_di π x p 1 j := fun j hj => by
    unfold mo_cl
    by_cases g : mo_di π x p 1 29 = 1 ∧ mo_di π x p 1 30 = x ∧ mo_FS (mo_di π x p) x < mo_di π x p 1 31
    · rw [sp_ite_t g, rd_u_j _ _ _ hj]
    · rw [sp_ite_f g]
  generalize hN : mo_cl (mo_di π x p) x = N at *
  have hro : ∀ n d : Int, 0 ≤ n → 0 ≤ d → mo_o N n d = mo_o (mo_di π x p) n d := fun n d n0 d0 => hcl _ (by omega)
  refine ⟨⟨?_, ?_, ?_, fun n q ht q0 q1 => ?_⟩, Or.inl (by show 0 ≤ mo_o π x 3 - 1; omega)⟩
  · show 0 ≤ N 1 28; rw [hcl 28 (by omega), db 28 (by omega)]; exact m.1
  · show 0 ≤ N 1 32 ∧ N 1 32 ≤ k + 99; rw [hcl 32 (by omega), db 32 (by omega)]; exact m.2.1
  · show 0 ≤ N 1 33 ∧ N 1 33 ≤ k + 99; rw [hcl 33 (by omega), db 33 (by omega)]; exact m.2.2.1
  · replace ht : mo_t N n := ht
    replace q1 : q < mo_o N n 3 := q1
    show mo_o N n (4 + 3 * q + 1) = -1 ∨ mo_o N n (4 + 3 * q) ≤ mo_o N n (4 + 3 * q + 1)
    have hn9 := ht.1
    by_cases hn : n = x
    · rw [hn] at q1 ⊢
      rw [hro x 3 hx9.1 (by omega), d3] at q1
      rw [hro x _ hx9.1 (by omega), hro x _ hx9.1 (by omega)]
      have a1 := di q 1 q0 q1 (by omega) (by omega)
      have a0 := di q 0 q0 q1 (by omega) (by omega)
      rw [Int.add_zero] at a0
      rw [a1, a0]
      by_cases g : p ≤ q
      · rw [if_pos g, if_pos g]
        have := hE.2.2.2 x (q + 1) hx (by omega) (by omega)
        rw [Int.add_zero]
        exact this
      · rw [if_neg g, if_neg g]
        exact hE.2.2.2 x q hx q0 (by omega)
    · have hr : ∀ d : Int, 0 ≤ d → d < 32 → mo_o N n d = mo_o π n d := fun d d0 d1 => by
        rw [hro n d hn9.1 d0]; exact db _ (by omega)
      have ht' : mo_t π n := ⟨hn9, by rw [← hr 0 (by omega) (by omega)]; exact ht.2⟩
      have h6' := px_n6 hR ht'
      rw [hr 3 (by omega) (by omega)] at q1
      rw [hr _ (by omega) (by omega), hr _ (by omega) (by omega)]
      exact hE.2.2.2 n q ht' q0 q1
theorem px_link (hR : rl_1 μ π) (hE : px_E k π) (x k0 y : Int) : px_R (k + 99) π (pf_link π x k0 y) := by
  have hs := pf_link_s π x k0 y
  generalize pf_link π x k0 y = z at *
  obtain ⟨z1, z2⟩ := z
  rcases hs with ⟨c, e, n⟩ | ⟨c, e, n⟩ | ⟨c, e, n⟩ | ⟨c, e, n⟩ <;> (simp only at n; simp at e; subst n; subst e)
  · exact px_err hE (by decide) (by decide)
  · exact px_err hE (by decide) (by decide)
  · exact px_err hE (by decide) (by decide)
  · have hx9 := c.1.1
    have hk := c.2.2.1
    exact ⟨px_s hR hE (by omega) (fun j hj => by show rd_u π 1 _ _ 1 j = π 1 j; exact rd_u_j _ _ _ (by omega)), Or.inl (mo_lk0 _ _).1⟩
theorem px_unlink (hR : rl_1 μ π) (hE : px_E k π) (x k0 : Int) : px_R (k + 99) π (pf_unlink π x k0) := by
  have hs := pf_unlink_s π x k0
  generalize pf_unlink π x k0 = z at *
  obtain ⟨z1, z2⟩ := z
  rcases hs with ⟨c, e, n⟩ | ⟨c, e, n⟩ <;> (simp only at n; simp at e; subst n; subst e)
  · exact px_err hE (by decide) (by decide)
  · have hx9 := c.1.1
    have hk := c.2.1
    exact ⟨px_s hR hE (by omega) (fun j hj => by show rd_u π 1 _ _ 1 j = π 1 j; exact rd_u_j _ _ _ (by omega)), Or.inl (mo_lk0 _ _).1⟩
theorem px_note (hR : rl_1 μ π) (hE : px_E k π) (s0 u0 : Int) : px_R (k + 99) π (pf_note π s0 u0) := by
  have hn := (rl_J hR).1.1.2.2.2
  have hp := mo_np_r hn.1 s0
  have hs := pf_note_s π s0 u0
  generalize pf_note π s0 u0 = z at *
  obtain ⟨z1, z2⟩ := z
  rcases hs with ⟨c, e, n⟩ | ⟨c, e, n⟩ | ⟨c, e, n⟩ | ⟨c, e, n⟩ | ⟨c, e, n⟩ | ⟨c, e, n⟩ <;> (simp only at n; simp at e; subst n; subst e)
  · exact px_err hE (by decide) (by decide)
  · exact px_err hE (by decide) (by decide)
  · exact px_err hE (by decide) (by decide)
  · have hp2 := hp.resolve_left c.2.2
    exact ⟨px_s hR hE (by omega) (fun j hj => by show rd_u (rd_u (rd_u π 1 _ _) 1 _ _) 1 _ _ 1 j = π 1 j; rw [rd_u_j _ _ _ (by omega), rd_u_j _ _ _ (by omega), rd_u_j _ _ _ (by omega)]), Or.inl (by show 0 ≤ π 1 11 - 1; omega)⟩
  · exact ⟨px_s hR hE (by omega) (fun j hj => by show rd_u (rd_u (rd_u π 1 _ _) 1 _ _) 1 _ _ 1 j = π 1 j; rw [rd_u_j _ _ _ (by omega), rd_u_j _ _ _ (by omega), rd_u_j _ _ _ (by omega)]), Or.inl (by show 0 ≤ π 1 11 + 1; omega)⟩
  · have hp2 := hp.resolve_left c.2.2
    exact ⟨px_s hR hE (by omega) (fun j hj => by show rd_u (rd_u (rd_u π 1 _ _) 1 _ _) 1 _ _ 1 j = π 1 j; rw [rd_u_j _ _ _ (by omega), rd_u_j _ _ _ (by omega), rd_u_j _ _ _ (by omega)]), Or.inl (by first | (show 0 ≤ π 1 11 + 0; omega) | (show 0 ≤ π 1 11; omega))⟩
theorem px_setEnd (hR : rl_1 μ π) (hE : px_E k π) (q0 : Int) : px_R (k + 99) π (pf_setEnd π q0) := by
  unfold pf_setEnd
  by_cases h : (q0 < 0 ∨ 9999 < q0)
  · rw [pg_ift h]; exact px_err hE (by decide) (by decide)
  rw [pg_iff h]
  have m := px_mono hE (show k ≤ k + 99 by omega)
  refine ⟨px_c hR hE (by omega) (fun n q n0 n9 hq => by show rd_u π 1 _ _ 1 (156 + 32 * n + q) = π 1 (156 + 32 * n + q); exact rd_u_j _ _ _ (by omega)) ?_ ?_ ?_, Or.inl hE.1⟩
  · show 0 ≤ rd_u π 1 28 q0 1 28; rw [rd_u_s]; omega
  · show 0 ≤ rd_u π 1 28 q0 1 32 ∧ rd_u π 1 28 q0 1 32 ≤ k + 99; rw [rd_u_j _ _ _ (by omega)]; exact m.2.1
  · show 0 ≤ rd_u π 1 28 q0 1 33 ∧ rd_u π 1 28 q0 1 33 ≤ k + 99; rw [rd_u_j _ _ _ (by omega)]; exact m.2.2.1
theorem px_start (hR : rl_1 μ π) (hE : px_E k π) (hk : 0 ≤ k) : px_R (k + 99) π (pf_start π) := by
  unfold pf_start
  by_cases h : mo_nx π 0 = -1
  · rw [pg_ift h]; exact px_err hE (by decide) (by decide)
  rw [pg_iff h]
  have hn := (mo_nx_r (rl_J hR).1.1.1 (Int.le_refl 0)).resolve_left h
  have m := px_mono hE (show k ≤ k + 99 by omega)
  have hj : ∀ j : Int, j < 29 ∨ 35 < j → mo_st π (mo_nx π 0) 1 j = π 1 j := fun j hj => by
    unfold mo_st; iterate 7 rw [rd_u_j _ _ _ (by omega)]
  refine ⟨px_c hR hE (by omega) (fun n q n0 n9 hq => hj _ (by omega)) ?_ ?_ ?_, Or.inl hn.1⟩
  · show 0 ≤ mo_st π (mo_nx π 0) 1 28; rw [hj 28 (by omega)]; exact m.1
  · have e : mo_st π (mo_nx π 0) 1 32 = 0 := by unfold mo_st; simp [rd_u]
    show 0 ≤ mo_st π (mo_nx π 0) 1 32 ∧ mo_st π (mo_nx π 0) 1 32 ≤ k + 99; rw [e]; omega
  · have e : mo_st π (mo_nx π 0) 1 33 = 0 := by unfold mo_st; simp [rd_u]
    show 0 ≤ mo_st π (mo_nx π 0) 1 33 ∧ mo_st π (mo_nx π 0) 1 33 ≤ k + 99; rw [e]; omega
theorem px_stop (hR : rl_1 μ π) (hE : px_E k π) : px_R (k + 99) π (pf_stop π) := by
  unfold pf_stop
  by_cases h : π 1 29 = 0
  · rw [pg_ift h]; exact px_err hE (by decide) (by decide)
  rw [pg_iff h]
  exact ⟨px_s hR hE (by omega) (fun j hj => by show rd_u π 1 _ _ 1 j = π 1 j; exact rd_u_j _ _ _ (by omega)), Or.inl hE.2.1.1⟩
theorem px_cm (hR : rl_1 μ π) (hE : px_E k π) (hk : 0 ≤ k) (n s t : Int) : px_E k (mo_cm π n s t) := by
  obtain ⟨-, -, -, c33, -, co, -⟩ := mo_cm_s (rl_J hR).1.2.1 n s t
  refine px_c hR hE (Int.le_refl k) (fun n q n0 n9 hq => co _ (by omega) (by omega) (by omega) (by omega) (by omega)) ?_ ?_ ?_
  · rw [co 28 (by omega) (by omega) (by omega) (by omega) (by omega)]; exact hE.1
  · rw [co 32 (by omega) (by omega) (by omega) (by omega) (by omega)]; exact hE.2.1
  · rw [c33]; omega
theorem px_fw (hR : rl_1 μ π) (hE : px_E k π) (hk : 0 ≤ k) : px_E k (mo_fw π) := by
  unfold mo_fw
  split
  · exact px_cm hR hE hk _ _ _
  · exact px_cm hR hE hk _ _ _
theorem px_on (hR : rl_1 μ π) (h : mo_on π) : sp_th μ (μ 58 0) := (rl_on29 hR).1.mp h.1
theorem px_forward (hR : rl_1 μ π) (hE : px_E k π) (hk : 0 ≤ k) : px_R (k + 99) π (pf_forward π) := by
  unfold pf_forward
  by_cases h : ¬ (mo_on π ∧ mo_cf π)
  · rw [pg_ift h]; exact px_err hE (by decide) (by decide)
  rw [pg_iff h]
  obtain ⟨h1, h2⟩ := Classical.not_not.mp h
  exact ⟨px_mono (px_fw hR hE hk) (by omega), Or.inl (mo_fw_I (rl_J hR).1 h1.1 h2).1.2.2.1.1⟩
theorem px_back (hR : rl_1 μ π) (hE : px_E k π) (hk : 0 ≤ k) : px_R (k + 99) π (pf_back π) := by
  unfold pf_back
  by_cases h : ¬ (mo_on π ∧ mo_bp π ≠ -1)
  · rw [pg_ift h]; exact px_err hE (by decide) (by decide)
  rw [pg_iff h]
  obtain ⟨h1, h2⟩ := Classical.not_not.mp h
  have m := px_mono hE (show k ≤ k + 99 by omega)
  have bo := (mo_bk_o (μ := π)).1
  refine ⟨px_c hR hE (by omega) (fun n q n0 n9 hq => bo _ (by omega) (by omega) (by omega) (by omega) (by omega)) ?_ ?_ ?_, Or.inl (mo_bk_I (rl_J hR).1 h2).2.2.1.1⟩
  · show 0 ≤ mo_bk π 1 28; rw [bo 28 (by omega) (by omega) (by omega) (by omega) (by omega)]; exact m.1
  · show 0 ≤ mo_bk π 1 32 ∧ mo_bk π 1 32 ≤ k + 99; rw [bo 32 (by omega) (by omega) (by omega) (by omega) (by omega)]; exact m.2.1
  · show 0 ≤ mo_bk π 1 33 ∧ mo_bk π 1 33 ≤ k + 99; rw [(mo_bk_s (μ := π)).2.2.1]; omega
theorem px_press (hR : rl_1 μ π) (hE : px_E k π) (hk : 0 ≤ k) (k0 : Int) : px_R (k + 99) π (pf_press π k0) := by
  have hs := pf_press_s π k0
  generalize pf_press π k0 = z at *
  obtain ⟨z1, z2⟩ := z
  rcases hs with ⟨c, e, n⟩ | ⟨c, e, n⟩ | ⟨c, e, n⟩ <;> (simp only at n; simp at e; subst n; subst e)
  · exact px_err hE (by decide) (by decide)
  · exact px_err hE (by decide) (by decide)
  · have hJ := rl_J hR
    have ht := hJ.1.2.2.2.1 c.2.1.1
    have hg := (hJ.2 _ ht k0 c.1.1 c.1.2).resolve_left c.2.2
    refine ⟨px_mono (px_cm hR hE hk _ _ _) (by omega), Or.inl ?_⟩
    show 0 ≤ mo_cm π (mo_o π (π 1 30) (22 + k0)) 0 1 1 30
    rw [(mo_cm_s hJ.1.2.1 _ _ _).1]
    exact hg.1.1
theorem px_t0 (hR : rl_1 μ π) (hE : px_E k π) (hk : k < 1000000) : px_E (k + 1) (mo_t0 π) := by
  have e32 : mo_t0 π 1 32 = π 1 32 + 1 := by
    have : mo_t0 π 1 32 = rd_w (π 1 32 + 1) := by simp [mo_t0, rd_u]
    rw [this, rd_w_id ⟨by have := hE.2.1; omega, by have := hE.2.1; omega⟩]
  have e33 : mo_t0 π 1 33 = π 1 33 + 1 := by
    have : mo_t0 π 1 33 = rd_w (π 1 33 + 1) := by simp [mo_t0, rd_u]
    rw [this, rd_w_id ⟨by have := hE.2.2.1; omega, by have := hE.2.2.1; omega⟩]
  refine px_c hR hE (by omega) (fun n q n0 n9 hq => mo_t0_s _ (by omega) (by omega)) ?_ ?_ ?_
  · rw [mo_t0_s 28 (by omega) (by omega)]; exact hE.1
  · rw [e32]; have := hE.2.1; omega
  · rw [e33]; have := hE.2.2.1; omega
theorem px_ps (n : Nat) : ∀ {μ π : rd_Mem} {k : Int}, rl_1 μ π → sp_th μ (μ 58 0) → px_E k π → 0 ≤ k → k + n < 1000000 → px_E (k + n) (mo_ps n π) := by
  induction n with
  | zero => intro μ π k hR hh hE hk hn; exact px_mono hE (by omega)
  | succ n ih =>
    intro μ π k hR hh hE hk hn
    by_cases h : mo_ov π
    · rw [(mo_ps_y (Or.inr h)).1]; exact px_mono hE (by omega)
    · rw [mo_ps_n (Nat.succ_pos n) h]
      obtain ⟨g1, g2⟩ := rl_t0 hR hh
      have e0 := px_t0 hR hE (by omega)
      obtain ⟨⟨k1, k2⟩, -⟩ := rl_t1 hR hh
      have e1 : px_E (k + 1) (mo_t1 π) := by
        unfold mo_t1
        by_cases hc : mo_mc (mo_t0 π)
        · rw [sp_ite_t hc]; exact px_fw g1 e0 (by omega)
        · rw [sp_ite_f hc]; exact e0
      have := ih k1 k2 e1 (by omega) (by omega)
      rw [show k + ((n + 1 : Nat) : Int) = k + 1 + n by omega]
      exact this
theorem px_tick (hR : rl_1 μ π) (hE : px_E k π) (hk : 0 ≤ k) (hk2 : k < 900000) (q0 : Int) : px_R (k + 99) π (pf_tick π q0) := by
  have hs := pf_tick_s π q0
  generalize pf_tick π q0 = z at *
  obtain ⟨z1, z2⟩ := z
  rcases hs with ⟨c, e, n⟩ | ⟨c, e, n⟩ | ⟨c, e, n⟩ <;> (simp only at n; simp at e; subst n; subst e)
  · exact px_err hE (by decide) (by decide)
  · exact px_err hE (by decide) (by decide)
  · exact ⟨px_mono (px_ps q0.toNat hR (px_on hR c.2) hE hk (by omega)) (by omega), Or.inl (mo_pn_r _ _).1⟩
theorem px_ite {c : Prop} [Decidable c] {K : Int} {a b : Int × rd_Mem} (ha : px_R K π a) (hb : px_R K π b) : px_R K π (if c then a else b) := by
  split
  · exact ha
  · exact hb
theorem px_act (hR : rl_1 μ π) (hE : px_E k π) (hk : 0 ≤ k) (hk2 : k < 900000) (x y : Int) : px_R (k + 99) π (pf_act π x y) := by
  unfold pf_act
  (repeat' (with_reducible apply px_ite)) <;> first | exact px_addSlide hR hE | exact px_removeSlide hR hE _ | exact px_moveSlide hR hE _ _ | exact px_hide hR hE _ (by split <;> first | exact Or.inr rfl | exact Or.inl rfl) | exact px_setPause hR hE _ _ | exact px_addItem hR hE _ _ _ _ | exact px_removeItem hR hE _ _ | exact px_link hR hE _ _ _ | exact px_unlink hR hE _ _ | exact px_note hR hE _ _ | exact px_setEnd hR hE _ | exact px_start hR hE hk | exact px_stop hR hE | exact px_forward hR hE hk | exact px_back hR hE hk | exact px_press hR hE hk _ | exact px_tick hR hE hk hk2 _
end PX
