/-! taking back -/
theorem rl_undo {μ ν : rd_Mem} (hR : rl_R μ ν) (h0 : 0 < μ 62 0) : rl_R (rd_rst μ) (mo_un ν) := by
  obtain ⟨h1, ⟨g1, g2, g3, g4, g5⟩, h3⟩ := hR
  have hb := g2 (μ 62 0 - 1) (by omega) (by omega)
  have e62 : rd_rst μ 62 0 = μ 62 0 - 1 := by unfold rd_rst rd_bcr; rw [if_neg (by omega), rd_u_s]
  have eo : ∀ a : Int, 62 < a → rd_rst μ a = μ a := fun a ha => by
    funext x; unfold rd_rst rd_bcr; rw [if_neg (by omega), rd_u_k _ _ _ (by omega)]
  have u1 : mo_un ν 0 1 = ν 0 1 - 1 := by unfold mo_un; rw [rd_u_s]
  have uj : ∀ j : Int, mo_un ν 1 j = (if 0 ≤ j ∧ j < 476 then ν 1 (j + 476 * ν 0 1) else ν 1 j) := fun j => by
    unfold mo_un mo_cp
    rw [rd_u_k _ _ _ (by decide)]
    by_cases hj : 0 ≤ j ∧ j < 476
    · rw [if_pos ⟨rfl, by omega, by omega⟩, if_pos hj, show ν 0 1 - 0 = ν 0 1 by omega]
    · rw [if_neg (fun h => hj ⟨by have := h.2.1; omega, by have := h.2.2; omega⟩), if_neg hj]
  have uo : ∀ a j : Int, a ≠ 1 → (a ≠ 0 ∨ j ≠ 1) → mo_un ν a j = ν a j := fun a j ha hj => by
    unfold mo_un; rw [rd_u_o _ hj, mo_cp_o _ _ _ _ ha]
  refine ⟨?_, ⟨by rw [u1, e62, g1], fun t t0 t1 => by rw [eo 63 (by omega)]; exact g2 t t0 t1, by rw [e62]; omega, fun s t s0 s1 t0 t1 he => by rw [eo 63 (by omega)] at he; exact g4 s t s0 s1 t0 t1 he, fun t t0 t1 => ?_⟩, rl_x_c (fun a a0 _ => eo a (by omega)) (uo _ _ (by decide) (by omega)) (by funext j; exact uo _ _ (by decide) (by omega)) (by funext j; exact uo _ _ (by decide) (by omega)) h3⟩
  · have hq : rl_q (rd_rst μ) (rl_sh μ (64 + 61 * μ 63 (μ 62 0 - 1))) := fun a x a0 a1 x0 x1 => by
      unfold rd_rst rd_bcr rl_sh
      rw [if_pos ⟨⟨by omega, by omega⟩, x0, x1⟩, rd_u_k _ _ _ (by omega), show 64 + 61 * μ 63 (μ 62 0 - 1) + (a - 1) = a - 1 + (64 + 61 * μ 63 (μ 62 0 - 1)) by omega]
    refine rl_q_1 hq (rl_1_c (fun _ _ _ => rfl) (fun j j0 j1 => ?_) (g5 (μ 62 0 - 1) (by omega) (by omega)))
    rw [uj, if_pos ⟨j0, j1⟩, g1]; unfold rl_sn; congr 1; omega
  · rw [e62] at t1
    rw [eo 63 (by omega)]
    have hx := g2 t t0 (by omega)
    refine rl_1_c (fun a a0 a1 => ?_) (fun j j0 j1 => ?_) (g5 t t0 (by omega))
    · unfold rl_sh; exact eo _ (by omega)
    · unfold rl_sn; rw [uj, if_neg (by omega)]
