/-! keeping the present state -/
section RLK
variable {μ ν : rd_Mem}
theorem rd_bs_r (p : Int) : rd_bs p ≤ 40 := by unfold rd_bs; (repeat' split) <;> omega
/-- where the present state is copied to, and what stays -/
theorem rl_kp_q {κ μ : rd_Mem} (hk : ∀ a : Int, a < 62 → κ a = μ a) (hx : 0 ≤ κ 63 (κ 62 0) ∧ κ 63 (κ 62 0) ≤ 3) : rl_q (rl_sh (rd_kp κ) (64 + 61 * κ 63 (κ 62 0))) μ ∧ (∀ b : Int, 0 ≤ b → b ≤ 3 → b ≠ κ 63 (κ 62 0) → ∀ a : Int, 1 ≤ a → a < 62 → rl_sh (rd_kp κ) (64 + 61 * b) a = rl_sh κ (64 + 61 * b) a) ∧ rd_kp κ 62 0 = κ 62 0 + 1 ∧ rd_kp κ 63 = κ 63 := by
  unfold rd_kp
  refine ⟨fun a x a0 a1 x0 x1 => ?_, fun b b0 b3 hb a a0 a1 => ?_, rd_u_s _ _ _ _, ?_⟩
  · unfold rl_sh
    rw [rd_u_k _ _ _ (by omega)]
    unfold rd_bcr
    rw [if_pos ⟨⟨by omega, by omega⟩, x0, by rw [show a - 1 + (64 + 61 * κ 63 (κ 62 0)) - (64 + 61 * κ 63 (κ 62 0)) = a - 1 by omega]; exact x1⟩, show 1 + (a - 1 + (64 + 61 * κ 63 (κ 62 0)) - (64 + 61 * κ 63 (κ 62 0))) = a by omega, hk a a1]
  · unfold rl_sh
    funext j
    rw [rd_u_k _ _ _ (by omega)]
    unfold rd_bcr
    rw [if_neg (by omega)]
  · rw [rd_u_ne _ _ _ (by decide)]
    funext j
    unfold rd_bcr
    rw [if_neg (by omega)]
theorem rl_keep_h (hR : rl_1 μ ν) (hh : rl_h μ ν) : rl_h (rd_keep μ) (mo_sv ν) := by
  obtain ⟨g1, g2, g3, g4, g5⟩ := hh
  have hst : 0 ≤ ν 0 1 ∧ ν 0 1 ≤ 4 := by rw [g1]; exact g3
  unfold rd_keep
  by_cases h4 : μ 62 0 = 4
  · rw [if_pos h4]
    obtain ⟨r1, r2, r3⟩ := rd_hdo_r (μ := μ)
    have q3 : rd_hdo μ 63 3 = μ 63 0 := by unfold rd_hdo; rw [rd_u_s]
    have qt : ∀ t : Int, 0 ≤ t → t < 3 → rd_hdo μ 63 t = μ 63 (t + 1) := fun t t0 t1 => by
      unfold rd_hdo; rw [rd_u_j _ _ _ (by omega)]; unfold rd_hdk; rw [if_neg (by omega), if_pos ⟨rfl, t0, t1⟩]
    have q62 : rd_hdo μ 62 0 = 3 := by unfold rd_hdo; rw [rd_u_k _ _ _ (by decide)]; unfold rd_hdk; rw [if_pos ⟨rfl, rfl⟩]
    have qo : ∀ a : Int, a ≠ 62 → a ≠ 63 → rd_hdo μ a = μ a := r3
    have hx0 := g2 0 (by omega) (by omega)
    obtain ⟨k1, k2, k3, k4⟩ := rl_kp_q (κ := rd_hdo μ) (μ := μ) (fun a ha => qo a (by omega) (by omega)) (by rw [q62, q3]; exact hx0)
    rw [q62] at k1 k2 k3
    rw [q3] at k1 k2
    have hs : ∀ j : Int, mo_sv ν 1 j = (if 476 * 4 ≤ j ∧ j < 476 * 4 + 476 then ν 1 (j - 476 * 4) else if 476 ≤ j ∧ j < 476 * 4 then ν 1 (j + 476) else ν 1 j) := fun j => by
      unfold mo_sv
      rw [if_pos (by rw [g1]; exact h4)]
      have e : mo_sf ν 4 0 1 = 4 := by unfold mo_sf; rw [if_neg (by omega), g1]; exact h4
      rw [e]
      unfold mo_cp
      rw [show (4 : Int) + 0 = 4 from rfl]
      by_cases hj : 476 * 4 ≤ j ∧ j < 476 * 4 + 476
      · rw [if_pos ⟨rfl, hj⟩, if_pos hj, rd_u_k _ _ _ (by decide)]; unfold mo_sf; rw [if_neg (by omega)]; congr 1; try omega
      · rw [if_neg (fun h => hj h.2), if_neg hj, rd_u_k _ _ _ (by decide)]; unfold mo_sf
        by_cases hj2 : 476 ≤ j ∧ j < 476 * 4
        · rw [if_pos ⟨rfl, hj2⟩, if_pos hj2]
        · rw [if_neg (fun h => hj2 h.2), if_neg hj2]
    have hs0 : mo_sv ν 0 1 = 4 := by
      unfold mo_sv
      rw [if_pos (by rw [g1]; exact h4), mo_cp_o _ _ _ _ (by decide), rd_u_s]
      unfold mo_sf; rw [if_neg (by omega), g1, h4]; rfl
    have q63 : ∀ t : Int, 0 ≤ t → t < 4 → rd_kp (rd_hdo μ) 63 t = μ 63 (if t = 3 then 0 else t + 1) := fun t t0 t1 => by
      rw [k4]
      by_cases ht : t = 3
      · rw [if_pos ht, ht]; exact q3
      · rw [if_neg ht]; exact qt t t0 (by omega)
    refine ⟨by rw [hs0, k3]; rfl, fun t t0 t1 => ?_, by rw [k3]; omega, fun s t s0 s1 t0 t1 he => ?_, fun t t0 t1 => ?_⟩
    · rw [q63 t t0 t1]; exact g2 _ (by split <;> omega) (by split <;> omega)
    · rw [q63 s s0 s1, q63 t t0 t1] at he
      have := g4 _ _ (by split <;> omega) (by split <;> omega) (by split <;> omega) (by split <;> omega) he
      (repeat' split at this) <;> omega
    · rw [k3] at t1
      rw [q63 t t0 (by omega)]
      by_cases ht : t = 3
      · rw [if_pos ht]
        exact rl_1_c (fun _ _ _ => rfl) (fun j j0 j1 => by unfold rl_sn; rw [hs, if_pos (by omega)]; congr 1; omega) (rl_q_1 k1 hR)
      · rw [if_neg ht]
        have hb := g2 (t + 1) (by omega) (by omega)
        have hne : μ 63 (t + 1) ≠ μ 63 0 := fun e => by have := g4 _ _ (by omega) (by omega) (by omega) (by omega) e; omega
        refine rl_1_c (fun a a0 a1 => ?_) (fun j j0 j1 => ?_) (g5 (t + 1) (by omega) (by omega))
        · rw [k2 _ hb.1 hb.2 hne a a0 a1]; unfold rl_sh; exact qo _ (by omega) (by omega)
        · unfold rl_sn; rw [hs, if_neg (by omega), if_pos (by omega)]; congr 1; omega
  · rw [if_neg h4]
    have hxc := g2 (μ 62 0) (by omega) (by omega)
    obtain ⟨k1, k2, k3, k4⟩ := rl_kp_q (κ := μ) (μ := μ) (fun _ _ => rfl) hxc
    have hs : ∀ j : Int, mo_sv ν 1 j = (if 476 * (μ 62 0 + 1) ≤ j ∧ j < 476 * (μ 62 0 + 1) + 476 then ν 1 (j - 476 * (μ 62 0 + 1)) else ν 1 j) := fun j => by
      unfold mo_sv
      rw [if_neg (by rw [g1]; exact h4), g1]
      unfold mo_cp
      by_cases hj : 476 * (μ 62 0 + 1) ≤ j ∧ j < 476 * (μ 62 0 + 1) + 476
      · rw [if_pos ⟨rfl, hj⟩, if_pos hj, rd_u_k _ _ _ (by decide)]; congr 1; omega
      · rw [if_neg (fun h => hj h.2), if_neg hj, rd_u_k _ _ _ (by decide)]
    have hs0 : mo_sv ν 0 1 = μ 62 0 + 1 := by
      unfold mo_sv
      rw [if_neg (by rw [g1]; exact h4), mo_cp_o _ _ _ _ (by decide), rd_u_s, g1]
    refine ⟨by rw [hs0, k3], fun t t0 t1 => by rw [k4]; exact g2 t t0 t1, by rw [k3]; omega, fun s t s0 s1 t0 t1 he => by rw [k4] at he; exact g4 s t s0 s1 t0 t1 he, fun t t0 t1 => ?_⟩
    rw [k3] at t1
    rw [k4]
    by_cases ht : t = μ 62 0
    · rw [ht]
      exact rl_1_c (fun _ _ _ => rfl) (fun j j0 j1 => by unfold rl_sn; rw [hs, if_pos (by omega)]; congr 1; omega) (rl_q_1 k1 hR)
    · have hb := g2 t t0 (by omega)
      have hne : μ 63 t ≠ μ 63 (μ 62 0) := fun e => ht (g4 _ _ t0 (by omega) (by omega) (by omega) e)
      refine rl_1_c (fun a a0 a1 => k2 _ hb.1 hb.2 hne a a0 a1) (fun j j0 j1 => ?_) (g5 t t0 (by omega))
      unfold rl_sn; rw [hs, if_neg (by omega)]
theorem rl_keep (hR : rl_R μ ν) : rl_R (rd_keep μ) (mo_sv ν) := by
  have hI := rl_RI hR
  obtain ⟨h1, h2, h3⟩ := hR
  have hst : 0 ≤ ν 0 1 ∧ ν 0 1 ≤ 4 := by rw [h2.1]; exact h2.2.2.1
  have hlo : ∀ a : Int, a < 62 ∨ 308 ≤ a → rd_keep μ a = μ a := fun a ha => rd_keep_lo (rl_hi h2) ha
  exact ⟨rl_1_c (fun a _ a1 => hlo a (Or.inl a1)) (fun j j0 j1 => mo_sv_lo hst ⟨j0, j1⟩) h1, rl_keep_h h1 h2, rl_x_c (fun a a0 _ => hlo a (Or.inr a0)) (mo_sv_p hst (by decide) (by omega)) (by funext j; exact mo_sv_p hst (by decide) (by omega)) (by funext j; exact mo_sv_p hst (by decide) (by omega)) h3⟩
end RLK

