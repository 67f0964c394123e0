/-! the class's present state and the check's row -/
def rl_z (μ : rd_Mem) (n : Int) : Prop := μ (5 + 5 * n) 1 = 0 ∧ μ (5 + 5 * n) 2 = 0 ∧ μ (5 + 5 * n) 3 = 0 ∧ ∀ k : Int, 0 ≤ k → k ≤ 9 → μ (5 + 5 * n + 4) k = -1
def rl_g (μ : rd_Mem) (n : Int) : Prop := (0 ≤ μ (5 + 5 * n) 2 ∧ μ (5 + 5 * n) 2 ≤ 60) ∧ (∀ q : Int, 0 ≤ q → q < μ (5 + 5 * n) 3 → 0 ≤ μ (5 + 5 * n + 1) q ∧ -1 ≤ μ (5 + 5 * n + 2) q ∧ μ (5 + 5 * n + 2) q ≤ 9) ∧ (∀ k : Int, 0 ≤ k → k ≤ 9 → μ (5 + 5 * n + 4) k = -1 ∨ sp_th μ (μ (5 + 5 * n + 4) k)) ∧ sp_lk (μ (5 + 5 * n + 4)) 10 ≤ 3
def rl_r (μ ν : rd_Mem) (n : Int) : Prop := mo_o ν n 0 = 1 ∧ mo_o ν n 1 = μ (5 + 5 * n) 1 ∧ mo_o ν n 2 = μ (5 + 5 * n) 2 ∧ mo_o ν n 3 = μ (5 + 5 * n) 3 ∧ (∀ q : Int, 0 ≤ q → q < μ (5 + 5 * n) 3 → mo_o ν n (4 + 3 * q) = μ (5 + 5 * n + 1) q ∧ mo_o ν n (4 + 3 * q + 1) = μ (5 + 5 * n + 2) q ∧ mo_o ν n (4 + 3 * q + 2) = μ (5 + 5 * n + 3) q) ∧ ∀ k : Int, 0 ≤ k → k ≤ 9 → mo_o ν n (22 + k) = mo_z (μ (5 + 5 * n + 4) k)
/-- the class's own -/
def rl_c (μ : rd_Mem) : Prop := sp_wf μ ∧ sp_b01 μ 1 ∧ sp_nt μ ∧ sp_po μ ∧ sp_tgs μ ∧ sp_ts μ ∧ (∀ i : Int, 0 ≤ i → i < μ 2 0 → sp_th μ (μ 3 i) ∧ sp_pl μ (μ 3 i) = i) ∧ ∀ n : Int, 0 ≤ n → n ≤ 9 → (sp_th μ n → rl_g μ n) ∧ (¬ sp_th μ n → rl_z μ n)
def rl_d (μ ν : rd_Mem) : Prop := ν 1 0 = μ 2 0 ∧ (∀ i : Int, 0 ≤ i → i < μ 2 0 → ν 1 (1 + i) = μ 3 i) ∧ ∀ n : Int, 0 ≤ n → n ≤ 9 → (sp_th μ n → rl_r μ ν n) ∧ (¬ sp_th μ n → mo_o ν n 0 ≠ 1)
def rl_n (μ ν : rd_Mem) : Prop := ν 1 28 = μ 1 0 ∧ ν 1 11 = μ 55 0 ∧ ∀ i : Int, 0 ≤ i → i < μ 55 0 → ν 1 (12 + 2 * i) = μ 56 i ∧ ν 1 (12 + 2 * i + 1) = μ 57 i
def rl_p (μ ν : rd_Mem) : Prop := sp_th μ (μ 58 0) ∧ ν 1 30 = μ 58 0 ∧ ν 1 31 = μ 58 1 ∧ ν 1 32 = μ 58 3 ∧ ν 1 33 = μ 58 4 ∧ ν 1 34 = μ 58 2 ∧ ν 1 35 = μ 58 5 ∧ μ 58 1 ≤ sp_FS μ (μ 58 0) ∧ ∀ q : Int, 0 ≤ q → q < μ 58 5 → ν 1 (36 + 3 * q) = μ 59 q ∧ ν 1 (36 + 3 * q + 1) = μ 60 q ∧ ν 1 (36 + 3 * q + 2) = μ 61 q
def rl_s (μ ν : rd_Mem) : Prop := (ν 1 29 = 0 ∧ μ 58 0 = -1 ∧ (0 ≤ ν 1 35 ∧ ν 1 35 ≤ 40) ∧ (0 ≤ ν 1 31 ∧ ν 1 31 ≤ 9) ∧ ∀ k : Int, 0 ≤ k → k < ν 1 35 → 0 ≤ ν 1 (36 + 3 * k + 1) ∧ ν 1 (36 + 3 * k + 1) ≤ 9) ∨ (ν 1 29 = 1 ∧ rl_p μ ν)
def rl_1 (μ ν : rd_Mem) : Prop := rl_c μ ∧ rl_d μ ν ∧ rl_n μ ν ∧ rl_s μ ν
section RL
variable {μ ν : rd_Mem}
theorem rl_t (h : rl_d μ ν) (n : Int) : mo_t ν n ↔ sp_th μ n := by
  constructor
  · intro ht
    by_cases hs : sp_th μ n
    · exact hs
    · exact absurd ht.2 ((h.2.2 n ht.1.1 ht.1.2).2 hs)
  · intro hs
    exact ⟨⟨hs.1.1, by have := hs.1.2; omega⟩, ((h.2.2 n hs.1.1 (by have := hs.1.2; omega)).1 hs).1⟩
theorem rl_row (h : rl_d μ ν) {n : Int} (hn : sp_th μ n) : rl_r μ ν n := (h.2.2 n hn.1.1 (by have := hn.1.2; omega)).1 hn
theorem rl_it (hc : rl_c μ) (h : rl_d μ ν) {n : Int} (hn : sp_th μ n) : mo_it ν n := by
  obtain ⟨h0, h1, h2, h3, h4, -⟩ := rl_row h hn
  have hi := hc.1.2.1 n hn.1.1 hn.1.2
  have hg := ((hc.2.2.2.2.2.2.2 n hn.1.1 (by have := hn.1.2; omega)).1 hn).2.1
  refine ⟨by rw [h3]; exact hi, fun q q0 q1 => ?_⟩
  rw [h3] at q1
  obtain ⟨e1, e2, -⟩ := h4 q q0 q1
  obtain ⟨g1, g2, g3⟩ := hg q q0 q1
  rw [e1, e2]
  exact ⟨⟨g1, hc.1.2.2.1 n hn.1.1 hn.1.2 q q0 (by omega) q1⟩, g2, g3⟩
theorem rl_FS (h : rl_d μ ν) {n : Int} (hn : sp_th μ n) : mo_FS ν n = sp_FS μ n := by
  obtain ⟨h0, h1, h2, h3, h4, -⟩ := rl_row h hn
  unfold mo_FS sp_FS
  rw [h3]
  exact sp_fs_c (fun k hk => ⟨(h4 k (by omega) (by omega)).1, (h4 k (by omega) (by omega)).2.1⟩)
theorem rl_pl (h : rl_d μ ν) (n : Int) : mo_pl ν n = sp_pl μ n := by
  unfold mo_pl sp_pl
  rw [h.1]
  refine sp_ff_cl (fun i i0 i1 => ?_)
  show ν 1 (1 + i) = n ↔ μ 3 i = n
  rw [h.2.1 i i0 (by omega)]
theorem rl_nx (hc : rl_c μ) (h : rl_d μ ν) {a : Int} (ha : 0 ≤ a) : mo_nx ν a = sp_next μ a := by
  unfold mo_nx sp_next
  rw [h.1]
  refine sp_nx_cl (fun i i0 i1 => ⟨h.2.1 i (by omega) (by omega), ?_⟩)
  show mo_o ν (ν 1 (1 + i)) 1 = 0 ↔ sp_sh μ (μ 3 i)
  rw [h.2.1 i (by omega) (by omega)]
  have ht := (hc.2.2.2.2.2.2.1 i (by omega) (by omega)).1
  rw [(rl_row h ht).2.1]
  exact ⟨fun g => ⟨ht, g⟩, fun g => g.2⟩
theorem rl_D (hc : rl_c μ) (h : rl_d μ ν) (hn : rl_n μ ν) : mo_D ν := by
  have ho := hc.2.2.2.2.2.2.1
  refine ⟨⟨by rw [h.1]; exact hc.1.1, fun i i0 i1 => ?_⟩, fun n ht => ?_, fun i i0 i1 => ?_, by rw [hn.2.1]; exact hc.2.2.1⟩
  · rw [h.1] at i1; rw [h.2.1 i i0 i1]; have := (ho i i0 i1).1.1; omega
  · have hs := (rl_t h n).mp ht
    refine ⟨rl_it hc h hs, ?_⟩
    unfold mo_po
    rw [rl_pl h, h.1]
    exact hc.2.2.2.1 n hs
  · rw [h.1] at i1; rw [h.2.1 i i0 i1]; exact (rl_t h _).mpr (ho i i0 i1).1
theorem rl_J (hR : rl_1 μ ν) : mo_J ν := by
  obtain ⟨hc, h, hn, hs⟩ := hR
  refine ⟨⟨rl_D hc h hn, ?_⟩, fun n ht k k0 k9 => ?_⟩
  · rcases hs with ⟨g1, g2, g3, g4, g5⟩ | ⟨g1, g2, g3, g4, g5, g6, g7, g8, g9, g10⟩
    · exact ⟨g3, g4, fun h9 => by omega, g5⟩
    · refine ⟨by rw [g8]; exact hc.1.2.2.2.1, by rw [g4]; exact hc.1.2.2.2.2, fun _ => by rw [g3]; exact (rl_t h _).mpr g2, fun k k0 k1 => ?_⟩
      rw [g8] at k1
      rw [(g10 k k0 k1).2.1]
      exact hc.2.2.2.2.2.1 k k0 k1
  · have hs2 := (rl_t h n).mp ht
    rw [(rl_row h hs2).2.2.2.2.2 k k0 k9]
    rcases (((hc.2.2.2.2.2.2.2 n hs2.1.1 (by have := hs2.1.2; omega)).1 hs2).2.2.1 k k0 k9) with g | g
    · left; rw [g]; rfl
    · right; rw [mo_z_ne (by have := g.1; omega)]; exact (rl_t h _).mpr g
theorem rl_on29 (hR : rl_1 μ ν) : (ν 1 29 = 1 ↔ sp_th μ (μ 58 0)) ∧ (ν 1 29 = 0 ↔ ¬ sp_th μ (μ 58 0)) := by
  rcases hR.2.2.2 with ⟨g1, g2, -⟩ | ⟨g1, g2, -⟩
  · have hn : ¬ sp_th μ (μ 58 0) := fun h => by have := h.1.1; omega
    exact ⟨⟨fun h => by omega, fun h => absurd h hn⟩, ⟨fun _ => hn, fun _ => g1⟩⟩
  · exact ⟨⟨fun _ => g2, fun _ => g1⟩, ⟨fun h => by omega, fun h => absurd g2 h⟩⟩
theorem rl_pp (hR : rl_1 μ ν) (h : sp_th μ (μ 58 0)) : rl_p μ ν := by
  rcases hR.2.2.2 with ⟨g1, g2, -⟩ | ⟨g1, g2⟩
  · have := h.1.1; omega
  · exact g2
theorem rl_ov (hR : rl_1 μ ν) (h : sp_th μ (μ 58 0)) : mo_ov ν ↔ sp_over μ := by
  have hp := rl_pp hR h
  unfold mo_ov sp_over
  rw [hR.2.2.1.1, hp.2.2.2.1]
theorem rl_on (hR : rl_1 μ ν) : mo_on ν ↔ (sp_th μ (μ 58 0) ∧ ¬ sp_over μ) := by
  unfold mo_on
  rw [(rl_on29 hR).1]
  constructor
  · rintro ⟨h1, h2⟩; exact ⟨h1, fun h => h2 ((rl_ov hR h1).mpr h)⟩
  · rintro ⟨h1, h2⟩; exact ⟨h1, fun h => h2 ((rl_ov hR h1).mp h)⟩
theorem rl_cf (hR : rl_1 μ ν) (h : sp_th μ (μ 58 0)) : mo_cf ν ↔ sp_nn μ ≠ -1 := by
  have hp := rl_pp hR h
  have hpo := hR.1.2.2.2.1 _ h
  unfold mo_cf sp_nn
  rw [hp.2.1, hp.2.2.1, rl_FS hR.2.1 h, rl_pl hR.2.1, rl_nx hR.1 hR.2.1 (by omega)]
  by_cases hc : μ 58 1 < sp_FS μ (μ 58 0)
  · rw [sp_ift hc]; exact ⟨fun _ => by have := h.1.1; omega, fun _ => Or.inl hc⟩
  · rw [sp_iff hc]; exact ⟨fun g => g.resolve_left hc, fun g => Or.inr g⟩
theorem rl_bp (hR : rl_1 μ ν) (h : sp_th μ (μ 58 0)) : mo_bp ν = sp_bp μ := by
  obtain ⟨-, g3, g4, g5, g6, g7, g8, g9, g10⟩ := rl_pp hR h
  unfold mo_bp sp_bp
  rw [g8]
  refine sp_fb_cl (fun i i0 i1 => ?_)
  obtain ⟨e1, e2, e3⟩ := g10 i i0 (by omega)
  unfold mo_bpp sp_bpp
  rw [e1, e3, rl_t hR.2.1]
  constructor
  · rintro ⟨k1, k2⟩; refine ⟨k1, ?_⟩; rw [(rl_row hR.2.1 k1).2.1] at k2; exact k2.symm
  · rintro ⟨k1, k2⟩; refine ⟨k1, ?_⟩; rw [(rl_row hR.2.1 k1).2.1]; exact k2.symm
theorem rl_tg (hR : rl_1 μ ν) (h : sp_th μ (μ 58 0)) {q : Int} (q0 : 0 ≤ q ∧ q ≤ 9) : mo_o ν (ν 1 30) (22 + q) = mo_z (sp_tg μ q) := by
  have hp := rl_pp hR h
  unfold sp_tg
  rw [sp_ift q0, hp.2.1]
  exact (rl_row hR.2.1 h).2.2.2.2.2 q q0.1 q0.2
end RL

