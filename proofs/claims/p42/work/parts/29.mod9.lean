/-! the check makes the moves of a text -/
def mo_tgI (μ : rd_Mem) : Prop := ∀ n, mo_t μ n → ∀ k : Int, 0 ≤ k → k ≤ 9 → mo_o μ n (22 + k) = -6 ∨ mo_t μ (mo_o μ n (22 + k))
def mo_J (μ : rd_Mem) : Prop := mo_I μ ∧ mo_tgI μ
noncomputable def mo_md (μ : rd_Mem) (c q : Int) : rd_Mem := if c = 98 then mo_bk μ else if c = 102 then mo_fw μ else if c = 107 then mo_cm μ (mo_o μ (μ 1 30) (22 + q)) 0 1 else mo_ps q.toNat μ
def mo_can (μ : rd_Mem) (c q : Int) : Prop := mo_on μ ∧ (c = 98 → mo_bp μ ≠ -1) ∧ (c = 102 → mo_cf μ) ∧ (c = 107 → mo_o μ (μ 1 30) (22 + q) ≠ -6)
section MOM
variable {μ ν : rd_Mem}
theorem mo_cm_o (n s k : Int) {j : Int} (hj : j < 30 ∨ 156 ≤ j) (h4 : 0 ≤ μ 1 35 ∧ μ 1 35 ≤ 40) : mo_cm μ n s k 1 j = μ 1 j :=
  (mo_cm_s h4 n s k).2.2.2.2.2.1 j (by omega) (by omega) (by omega) (by omega) (by omega)
theorem mo_fw_o {j : Int} (hj : j < 30 ∨ 156 ≤ j) (h4 : 0 ≤ μ 1 35 ∧ μ 1 35 ≤ 40) : mo_fw μ 1 j = μ 1 j := by
  unfold mo_fw; split <;> exact mo_cm_o _ _ _ hj h4
theorem mo_fw_p {a : Int} (ha : a ≠ 1) (h4 : 0 ≤ μ 1 35 ∧ μ 1 35 ≤ 40) : mo_fw μ a = μ a := by
  unfold mo_fw; split <;> exact (mo_cm_s h4 _ _ _).2.2.2.2.2.2 a ha
theorem mo_t0_p {a : Int} (ha : a ≠ 1) : mo_t0 μ a = μ a := by unfold mo_t0; rw [rd_u_ne _ _ _ ha, rd_u_ne _ _ _ ha]
theorem mo_t1_o (hI : mo_I μ) (h29 : μ 1 29 = 1) : (∀ j : Int, j < 30 ∨ 156 ≤ j → mo_t1 μ 1 j = μ 1 j) ∧ ∀ a : Int, a ≠ 1 → mo_t1 μ a = μ a := by
  obtain ⟨g1, g2⟩ := mo_t0_I hI h29
  unfold mo_t1
  by_cases hm : mo_mc (mo_t0 μ)
  · rw [sp_ite_t hm]
    exact ⟨fun j hj => (mo_fw_o hj g1.2.1).trans (mo_t0_s j (by omega) (by omega)), fun a ha => (mo_fw_p ha g1.2.1).trans (mo_t0_p ha)⟩
  · rw [sp_ite_f hm]
    exact ⟨fun j hj => mo_t0_s j (by omega) (by omega), fun a ha => mo_t0_p ha⟩
theorem mo_ps_o (n : Nat) : ∀ {μ : rd_Mem}, mo_I μ → μ 1 29 = 1 → (∀ j : Int, j < 30 ∨ 156 ≤ j → mo_ps n μ 1 j = μ 1 j) ∧ ∀ a : Int, a ≠ 1 → mo_ps n μ a = μ a := by
  induction n with
  | zero => intro μ _ _; exact ⟨fun _ _ => rfl, fun _ _ => rfl⟩
  | succ n ih =>
    intro μ hI h29
    by_cases ho : mo_ov μ
    · rw [(mo_ps_y (Or.inr ho)).1]; exact ⟨fun _ _ => rfl, fun _ _ => rfl⟩
    · rw [mo_ps_n (Nat.succ_pos n) ho]
      obtain ⟨g1, g2⟩ := mo_t1_I hI h29
      obtain ⟨g3, g4⟩ := ih g1 g2
      obtain ⟨g5, g6⟩ := mo_t1_o hI h29
      exact ⟨fun j hj => (g3 j hj).trans (g5 j hj), fun a ha => (g4 a ha).trans (g6 a ha)⟩
theorem mo_bk_o : (∀ j : Int, j ≠ 30 → j ≠ 31 → j ≠ 33 → j ≠ 34 → j ≠ 35 → mo_bk μ 1 j = μ 1 j) ∧ ∀ a : Int, a ≠ 1 → mo_bk μ a = μ a := by
  unfold mo_bk
  exact ⟨fun j h0 h1 h3 h4 h5 => by rw [rd_u_j _ _ _ h3, rd_u_j _ _ _ h4, rd_u_j _ _ _ h1, rd_u_j _ _ _ h0, rd_u_j _ _ _ h5], fun a ha => by repeat rw [rd_u_ne _ _ _ ha]⟩
theorem mo_bk_s : mo_bk μ 1 30 = μ 1 (36 + 3 * mo_bp μ) ∧ mo_bk μ 1 31 = (if μ 1 (36 + 3 * mo_bp μ + 1) < mo_FS μ (μ 1 (36 + 3 * mo_bp μ)) then μ 1 (36 + 3 * mo_bp μ + 1) else mo_FS μ (μ 1 (36 + 3 * mo_bp μ))) ∧ mo_bk μ 1 33 = 0 ∧ mo_bk μ 1 34 = μ 1 (36 + 3 * mo_bp μ + 2) ∧ mo_bk μ 1 35 = mo_bp μ := by
  unfold mo_bk
  refine ⟨?_, ?_, ?_, ?_, ?_⟩ <;> simp [rd_u]
theorem mo_bk_I (hI : mo_I μ) (hb : mo_bp μ ≠ -1) : mo_I (mo_bk μ) := by
  obtain ⟨⟨hb0, hb1⟩, hb3⟩ := mo_bp_r hb hI.2.1.1
  obtain ⟨e30, e31, e33, e34, e35⟩ := mo_bk_s (μ := μ)
  obtain ⟨eo, -⟩ := mo_bk_o (μ := μ)
  have hit := (hI.1.2.1 _ hb3.1).1
  have hr := mo_FS_r hit
  have hst := hI.2.2.2.2 (mo_bp μ) hb0 hb1
  have h4 := hI.2.1
  refine ⟨mo_D_c (fun j hj => eo j (by omega) (by omega) (by omega) (by omega) (by omega)) hI.1, by rw [e35]; omega, by rw [e31]; split <;> omega, fun _ => ?_, fun k k0 k1 => ?_⟩
  · rw [e30]; exact (mo_t_c (fun j a b => eo j (by omega) (by omega) (by omega) (by omega) (by omega)) _).mpr hb3.1
  · rw [e35] at k1; rw [eo _ (by omega) (by omega) (by omega) (by omega) (by omega)]; exact hI.2.2.2.2 k k0 (by omega)
theorem mo_md_o (hI : mo_I μ) {c q : Int} (hc : mo_can μ c q) : (∀ j : Int, j < 30 ∨ 156 ≤ j → mo_md μ c q 1 j = μ 1 j) ∧ ∀ a : Int, a ≠ 1 → mo_md μ c q a = μ a := by
  unfold mo_md
  by_cases h1 : c = 98
  · rw [if_pos h1]; exact ⟨fun j hj => mo_bk_o.1 j (by omega) (by omega) (by omega) (by omega) (by omega), mo_bk_o.2⟩
  · rw [if_neg h1]
    by_cases h2 : c = 102
    · rw [if_pos h2]; exact ⟨fun j hj => mo_fw_o hj hI.2.1, fun a ha => mo_fw_p ha hI.2.1⟩
    · rw [if_neg h2]
      by_cases h3 : c = 107
      · rw [if_pos h3]; exact ⟨fun j hj => mo_cm_o _ _ _ hj hI.2.1, fun a ha => (mo_cm_s hI.2.1 _ _ _).2.2.2.2.2.2 a ha⟩
      · rw [if_neg h3]; exact mo_ps_o _ hI hc.1.1
theorem mo_tgI_c (h : ∀ j : Int, 156 ≤ j → j < 476 → ν 1 j = μ 1 j) (ht : mo_tgI μ) : mo_tgI ν := by
  intro n hn k k0 k9
  have hn2 := (mo_t_c h n).mp hn
  have e : mo_o ν n (22 + k) = mo_o μ n (22 + k) := h _ (by have := hn.1; omega) (by have := hn.1; omega)
  rw [e, mo_t_c h]
  exact ht n hn2 k k0 k9
theorem mo_md_J (hJ : mo_J μ) {c q : Int} (hc : mo_can μ c q) (hq : c = 107 → 0 ≤ q ∧ q ≤ 9) : mo_J (mo_md μ c q) := by
  obtain ⟨hI, hT⟩ := hJ
  refine ⟨?_, mo_tgI_c (fun j a b => (mo_md_o hI hc).1 j (by omega)) hT⟩
  unfold mo_md
  by_cases h1 : c = 98
  · rw [if_pos h1]; exact mo_bk_I hI (hc.2.1 h1)
  · rw [if_neg h1]
    by_cases h2 : c = 102
    · rw [if_pos h2]; exact (mo_fw_I hI hc.1.1 (hc.2.2.1 h2)).1
    · rw [if_neg h2]
      by_cases h3 : c = 107
      · rw [if_pos h3]
        have ht := hI.2.2.2.1 hc.1.1
        exact mo_S_cm hI ((hT _ ht q (hq h3).1 (hq h3).2).resolve_left (hc.2.2.2 h3)) (by omega)
      · rw [if_neg h3]; exact (mo_ps_I _ hI hc.1.1).1
theorem mo_J_k (h : mo_k3 ν μ) (hJ : mo_J μ) : mo_J ν :=
  ⟨⟨mo_D_c (fun j _ => h 1 j (by omega)) hJ.1.1, mo_S_c (fun j _ => h 1 j (by omega)) hJ.1.2⟩, mo_tgI_c (fun j _ _ => h 1 j (by omega)) hJ.2⟩
/-- the moves made one after the other: how many, the memory, where it stopped (-1: all are made) -/
def mo_rn : List (Int × Int × Int) → rd_Mem → Int → Int → rd_Mem → Int → Prop
  | [], μ, m, R, M, f => mo_k3 M μ ∧ R = m ∧ f = -1
  | (i, c, q) :: r, μ, m, R, M, f => (mo_k3 M μ ∧ ¬ mo_can M c q ∧ R = m ∧ f = i) ∨ ∃ ν, mo_k3 ν μ ∧ mo_can ν c q ∧ mo_rn r (mo_md ν c q) (m + 1) R M f
noncomputable def mo_rp (M : rd_Mem) (R f : Int) : rd_Mem := rd_u (rd_u (rd_u (rd_u M 3 0 (if f = -1 then -6 else R)) 3 1 (if f = -1 then -6 else f)) 3 2 (if f = -1 ∨ M 1 29 ≠ 1 then -6 else M 1 30)) 3 3 (if f = -1 ∨ M 1 29 ≠ 1 then -6 else M 1 31)
end MOM
