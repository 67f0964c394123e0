theorem mo_sv_p {μ : rd_Mem} (h : 0 ≤ μ 0 1 ∧ μ 0 1 ≤ 4) {a j : Int} (ha : a ≠ 1) (hj : a ≠ 0 ∨ j ≠ 1) : mo_sv μ a j = μ a j := by
  unfold mo_sv
  by_cases h4 : μ 0 1 = 4
  · rw [if_pos h4, mo_cp_o _ _ _ _ ha, rd_u_o _ hj]
    unfold mo_sf; rw [if_neg (fun g => ha g.1)]
  · rw [if_neg h4, mo_cp_o _ _ _ _ ha, rd_u_o _ hj]
theorem mo_sv_J {μ : rd_Mem} (h : 0 ≤ μ 0 1 ∧ μ 0 1 ≤ 4) (hJ : mo_J μ) : mo_J (mo_sv μ) :=
  ⟨mo_sv_I h hJ.1, mo_tgI_c (fun j a b => mo_sv_lo h (by omega)) hJ.2⟩
theorem mo_rn_k {l : List (Int × Int × Int)} {ν μ M : rd_Mem} {m R f : Int} (h : mo_k3 ν μ) (hr : mo_rn l ν m R M f) : mo_rn l μ m R M f := by
  cases l with
  | nil => exact ⟨mo_k3_t hr.1 h, hr.2⟩
  | cons a r =>
    obtain ⟨i, c, q⟩ := a
    rcases hr with ⟨h1, h2⟩ | ⟨κ, h1, h2⟩
    · exact Or.inl ⟨mo_k3_t h1 h, h2⟩
    · exact Or.inr ⟨κ, mo_k3_t h1 h, h2⟩
theorem mo_q {ν : rd_Mem} {c q q' : Int} (hc : c = 102 ∨ c = 98 ∨ c = 107 ∨ c = 116) (h : c = 107 ∨ c = 116 → q' = q) : (mo_can ν c q ↔ mo_can ν c q') ∧ mo_md ν c q = mo_md ν c q' := by
  by_cases h1 : c = 107 ∨ c = 116
  · rw [h h1]; exact ⟨Iff.rfl, rfl⟩
  · have h2 : c ≠ 107 := fun h => h1 (Or.inl h)
    refine ⟨⟨fun g => ⟨g.1, g.2.1, g.2.2.1, fun h => absurd h h2⟩, fun g => ⟨g.1, g.2.1, g.2.2.1, fun h => absurd h h2⟩⟩, ?_⟩
    unfold mo_md
    rcases hc with rfl | rfl | rfl | rfl
    · rfl
    · rfl
    · exact absurd rfl h2
    · exact absurd (Or.inr rfl) h1
theorem mo_k3_r (μ : rd_Mem) : mo_k3 μ μ := fun _ _ _ => rfl
theorem mo_rp_e {M : rd_Mem} {R f a b x y : Int} (h0 : a = (if f = -1 then -6 else R)) (h1 : b = (if f = -1 then -6 else f)) (h2 : x = (if f = -1 ∨ M 1 29 ≠ 1 then -6 else M 1 30)) (h3 : y = (if f = -1 ∨ M 1 29 ≠ 1 then -6 else M 1 31)) : rd_u (rd_u (rd_u (rd_u M 3 0 a) 3 1 b) 3 2 x) 3 3 y = mo_rp M R f := by
  unfold mo_rp; rw [h0, h1, h2, h3]
