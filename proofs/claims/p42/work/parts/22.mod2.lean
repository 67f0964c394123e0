def mo_sh (μ : rd_Mem) (k : Int) : rd_Mem := fun a b => if a = 1 ∧ (36 ≤ b ∧ b < 36 + k) then μ 1 (b + 3) else μ a b
def mo_mv (ν : rd_Mem) (t n s k : Int) : rd_Mem := rd_u (rd_u (rd_u (rd_u (rd_u (rd_u (rd_u (rd_u (rd_u ν 1 35 t) 1 (36 + 3 * t) (ν 1 30)) 1 (36 + 3 * t + 1) (ν 1 31)) 1 (36 + 3 * t + 2) (ν 1 34)) 1 35 (t + 1)) 1 30 n) 1 31 s) 1 34 k) 1 33 0
def mo_cm (μ : rd_Mem) (n s k : Int) : rd_Mem := if μ 1 35 = 40 then mo_mv (mo_sh μ 117) (mo_sh μ 117 1 35 - 1) n s k else mo_mv μ (μ 1 35 - 0) n s k
noncomputable def mo_fw (μ : rd_Mem) : rd_Mem := if μ 1 31 < mo_FS μ (μ 1 30) then mo_cm μ (μ 1 30) (μ 1 31 + 1) (μ 1 34) else mo_cm μ (mo_nx μ (mo_pl μ (μ 1 30) + 1)) 0 0
theorem mo_z_ne {x : Int} (h : x ≠ -1) : mo_z x = x := by unfold mo_z; rw [if_neg h]
def mo_bpp (μ : rd_Mem) (k : Int) : Prop := mo_t μ (μ 1 (36 + 3 * k)) ∧ (mo_o μ (μ 1 (36 + 3 * k)) 1 = 0 ∨ μ 1 (36 + 3 * k + 2) = 1)
noncomputable def mo_bp (μ : rd_Mem) : Int := sp_fb (mo_bpp μ) (μ 1 35).toNat
noncomputable def mo_bk (μ : rd_Mem) : rd_Mem := rd_u (rd_u (rd_u (rd_u (rd_u μ 1 35 (mo_bp μ)) 1 30 (μ 1 (36 + 3 * mo_bp μ))) 1 31 (if μ 1 (36 + 3 * mo_bp μ + 1) < mo_FS μ (μ 1 (36 + 3 * mo_bp μ)) then μ 1 (36 + 3 * mo_bp μ + 1) else mo_FS μ (μ 1 (36 + 3 * mo_bp μ)))) 1 34 (μ 1 (36 + 3 * mo_bp μ + 2))) 1 33 0
theorem mo_bp_r {μ : rd_Mem} (h : mo_bp μ ≠ -1) (h5 : 0 ≤ μ 1 35) : (0 ≤ mo_bp μ ∧ mo_bp μ < μ 1 35) ∧ mo_bpp μ (mo_bp μ) := by
  unfold mo_bp at h ⊢
  rcases sp_fb_spec (mo_bpp μ) (μ 1 35).toNat with ⟨h1, -⟩ | ⟨h1, h2, -⟩
  · exact absurd h1 h
  · exact ⟨by omega, h2⟩
theorem mo_FS_c {μ ν : rd_Mem} (h : ∀ j : Int, 156 ≤ j → j < 476 → ν 1 j = μ 1 j) {n : Int} (h0 : 0 ≤ n) (h9 : n ≤ 9) (h3 : mo_o μ n 3 ≤ 6) : mo_FS ν n = mo_FS μ n := by
  have e3 : mo_o ν n 3 = mo_o μ n 3 := h _ (by omega) (by omega)
  unfold mo_FS
  rw [e3]
  exact sp_fs_c (fun k hk => ⟨h _ (by omega) (by omega), h _ (by omega) (by omega)⟩)
theorem mo_it_c {μ ν : rd_Mem} (h : ∀ j : Int, 156 ≤ j → j < 476 → ν 1 j = μ 1 j) {n : Int} (h0 : 0 ≤ n) (h9 : n ≤ 9) (hi : mo_it μ n) : mo_it ν n := by
  obtain ⟨h1, h2⟩ := hi
  have e3 : mo_o ν n 3 = mo_o μ n 3 := h _ (by omega) (by omega)
  refine ⟨by rw [e3]; exact h1, fun q q0 q1 => ?_⟩
  rw [e3] at q1
  have e4 : mo_o ν n (4 + 3 * q) = mo_o μ n (4 + 3 * q) := h _ (by omega) (by omega)
  have e5 : mo_o ν n (4 + 3 * q + 1) = mo_o μ n (4 + 3 * q + 1) := h _ (by omega) (by omega)
  rw [e4, e5]
  exact h2 q q0 q1
def mo_cp (μ : rd_Mem) (f t k : Int) : rd_Mem := fun a b => if a = 1 ∧ (476 * t ≤ b ∧ b < 476 * t + k) then μ 1 (b + 476 * (f - t)) else μ a b
theorem mo_cp_s (μ : rd_Mem) {f t k : Int} (hne : f ≠ t) (f0 : 0 ≤ f) (f4 : f ≤ 4) (t0 : 0 ≤ t) (t4 : t ≤ 4) (k0 : 0 ≤ k) (k4 : k < 476) : rd_u (mo_cp μ f t k) 1 (476 * t + k) (mo_cp μ f t k 1 (476 * f + k)) = mo_cp μ f t (k + 1) := by
  have e : mo_cp μ f t k 1 (476 * f + k) = μ 1 (476 * f + k) := by
    unfold mo_cp
    rw [if_neg]
    rintro ⟨-, h1, h2⟩
    rcases Int.lt_or_gt_of_ne hne with h | h <;> omega
  rw [e]
  funext a b
  unfold rd_u mo_cp
  by_cases ha : a = 1
  · subst ha
    by_cases hb : b = 476 * t + k
    · subst hb
      rw [if_pos rfl, if_pos rfl, if_pos ⟨rfl, by omega, by omega⟩]
      congr 1
      rw [Int.mul_sub]; omega
    · rw [if_pos rfl, if_neg hb]
      by_cases hc : 476 * t ≤ b ∧ b < 476 * t + k
      · rw [if_pos ⟨rfl, hc⟩, if_pos ⟨rfl, by omega, by omega⟩]
      · rw [if_neg (fun h => hc h.2), if_neg (fun h => hc ⟨h.2.1, by have := h.2.2; omega⟩)]
  · rw [if_neg ha, if_neg (fun h => ha h.1), if_neg (fun h => ha h.1)]
def mo_sf (μ : rd_Mem) (k : Int) : rd_Mem := fun a b => if a = 1 ∧ (476 ≤ b ∧ b < 476 * k) then μ 1 (b + 476) else μ a b
def mo_sv (μ : rd_Mem) : rd_Mem := if μ 0 1 = 4 then mo_cp (rd_u (mo_sf μ 4) 0 1 (mo_sf μ 4 0 1 + 0)) 0 (mo_sf μ 4 0 1 + 0) 476 else mo_cp (rd_u μ 0 1 (μ 0 1 + 1)) 0 (μ 0 1 + 1) 476
theorem mo_sf_s (μ : rd_Mem) {k : Int} (h : 1 ≤ k ∧ k ≤ 3) : mo_cp (mo_sf μ k) (k + 1) k 476 = mo_sf μ (k + 1) := by
  have hk : k = 1 ∨ k = 2 ∨ k = 3 := by omega
  funext a b
  unfold mo_cp mo_sf
  rcases hk with rfl | rfl | rfl <;> grind
