/-! what the check's state keeps to -/
def mo_D (μ : rd_Mem) : Prop := mo_cn μ ∧ (∀ n, mo_t μ n → mo_it μ n ∧ mo_po μ n) ∧ (∀ i : Int, 0 ≤ i → i < μ 1 0 → mo_t μ (μ 1 (1 + i))) ∧ (0 ≤ μ 1 11 ∧ μ 1 11 ≤ 8)
def mo_S (μ : rd_Mem) : Prop := (0 ≤ μ 1 35 ∧ μ 1 35 ≤ 40) ∧ (0 ≤ μ 1 31 ∧ μ 1 31 ≤ 9) ∧ (μ 1 29 = 1 → mo_t μ (μ 1 30)) ∧ ∀ k : Int, 0 ≤ k → k < μ 1 35 → 0 ≤ μ 1 (36 + 3 * k + 1) ∧ μ 1 (36 + 3 * k + 1) ≤ 9
def mo_I (μ : rd_Mem) : Prop := mo_D μ ∧ mo_S μ
theorem mo_I_at {μ : rd_Mem} (hI : mo_I μ) (h : μ 1 29 = 1) : mo_at μ (μ 1 30) := by
  have ht := hI.2.2.2.1 h
  exact ⟨ht.1, hI.1.2.1 _ ht⟩
theorem sp_ff_cl {p q : Int → Prop} {n : Nat} {a : Int} (h : ∀ i, a ≤ i → i < a + n → (p i ↔ q i)) : sp_ff p n a = sp_ff q n a := by
  induction n generalizing a with
  | zero => rfl
  | succ n ih =>
    simp only [sp_ff]
    rw [ih (fun i h0 h1 => h i (by omega) (by omega)), propext (h a (by omega) (by omega))]
theorem sp_nx_cl {o o' : Int → Int} {s s' : Int → Prop} {n : Nat} {a : Int} (h : ∀ i, a ≤ i → i < a + n → o i = o' i ∧ (s (o i) ↔ s' (o' i))) : sp_nx o s n a = sp_nx o' s' n a := by
  induction n generalizing a with
  | zero => rfl
  | succ n ih =>
    simp only [sp_nx]
    obtain ⟨h1, h2⟩ := h a (by omega) (by omega)
    rw [ih (fun i h0 h1 => h i (by omega) (by omega)), propext h2, h1]
section MOD
variable {μ ν : rd_Mem}
theorem mo_t_c (h : ∀ j : Int, 156 ≤ j → j < 476 → ν 1 j = μ 1 j) (n : Int) : mo_t ν n ↔ mo_t μ n := by
  unfold mo_t
  constructor
  · rintro ⟨h1, h2⟩; exact ⟨h1, by rw [← h2]; exact (h _ (by omega) (by omega)).symm⟩
  · rintro ⟨h1, h2⟩; exact ⟨h1, by rw [← h2]; exact h _ (by omega) (by omega)⟩
theorem mo_pl_c (h : ∀ j : Int, 0 ≤ j → j ≤ 10 → ν 1 j = μ 1 j) (hc : (0 ≤ μ 1 0 ∧ μ 1 0 ≤ 10)) (n : Int) : mo_pl ν n = mo_pl μ n := by
  unfold mo_pl
  rw [h 0 (by omega) (by omega)]
  refine sp_ff_cl (fun i h0 h1 => ?_)
  show ν 1 (1 + i) = n ↔ μ 1 (1 + i) = n
  rw [h _ (by omega) (by omega)]
theorem mo_nx_c (h : ∀ j : Int, (0 ≤ j ∧ j ≤ 10) ∨ (156 ≤ j ∧ j < 476) → ν 1 j = μ 1 j) (hc : mo_cn μ) {a : Int} (ha : 0 ≤ a) : mo_nx ν a = mo_nx μ a := by
  have hc1 := hc.1
  unfold mo_nx
  rw [h 0 (by omega)]
  refine sp_nx_cl (fun i h0 h1 => ?_)
  have h2 := hc.2 i (by omega) (by omega)
  have h3 := h (1 + i) (by omega)
  refine ⟨h3, ?_⟩
  show ν 1 (156 + 32 * (ν 1 (1 + i)) + 1) = 0 ↔ _
  rw [h3, h _ (by omega)]
theorem mo_D_c (h : ∀ j : Int, (0 ≤ j ∧ j < 28) ∨ (156 ≤ j ∧ j < 476) → ν 1 j = μ 1 j) (hD : mo_D μ) : mo_D ν := by
  obtain ⟨h1, h2, h3, h4⟩ := hD
  have hc1 := h1.1
  have e0 := h 0 (by omega)
  have ht := mo_t_c (μ := μ) (ν := ν) (fun j a b => h j (Or.inr ⟨a, b⟩))
  refine ⟨⟨by rw [e0]; exact h1.1, fun i i0 i1 => ?_⟩, fun n hn => ?_, fun i i0 i1 => ?_, by rw [h 11 (by omega)]; exact h4⟩
  · rw [e0] at i1; rw [h (1 + i) (by omega)]; exact h1.2 i i0 i1
  · have hn2 := (ht n).mp hn
    obtain ⟨g1, g2⟩ := h2 n hn2
    refine ⟨mo_it_c (fun j a b => h j (Or.inr ⟨a, b⟩)) hn.1.1 hn.1.2 g1, ?_⟩
    unfold mo_po
    rw [mo_pl_c (fun j a b => h j (Or.inl ⟨a, by omega⟩)) h1.1, e0]
    exact g2
  · rw [e0] at i1; rw [h (1 + i) (by omega)]; exact (ht _).mpr (h3 i i0 i1)
theorem mo_cm_s (h4 : 0 ≤ μ 1 35 ∧ μ 1 35 ≤ 40) (n s k : Int) : mo_cm μ n s k 1 30 = n ∧ mo_cm μ n s k 1 31 = s ∧ mo_cm μ n s k 1 34 = k ∧ mo_cm μ n s k 1 33 = 0 ∧ mo_cm μ n s k 1 35 = (if μ 1 35 = 40 then 40 else μ 1 35 + 1) ∧ (∀ j : Int, j ≠ 30 → j ≠ 31 → j ≠ 34 → j ≠ 33 → (j < 35 ∨ 156 ≤ j) → mo_cm μ n s k 1 j = μ 1 j) ∧ (∀ a, a ≠ 1 → mo_cm μ n s k a = μ a) := by
  unfold mo_cm
  by_cases h : μ 1 35 = 40
  · rw [if_pos h, if_pos h]
    have e : mo_sh μ 117 1 35 = 40 := by unfold mo_sh; rw [if_neg (by omega)]; exact h
    have e2 : ∀ j : Int, (j < 36 ∨ 156 ≤ j) → mo_sh μ 117 1 j = μ 1 j := fun j hj => by unfold mo_sh; rw [if_neg (by omega)]
    rw [e]
    unfold mo_mv
    refine ⟨by simp [rd_u], by simp [rd_u], by simp [rd_u], by simp [rd_u], by simp [rd_u], fun j h1 h2 h3 h5 h6 => ?_, fun a ha => ?_⟩
    · rw [← e2 j (by omega)]
      rw [rd_u_j _ _ _ h5, rd_u_j _ _ _ h3, rd_u_j _ _ _ h2, rd_u_j _ _ _ h1, rd_u_j _ _ _ (by omega), rd_u_j _ _ _ (by omega), rd_u_j _ _ _ (by omega), rd_u_j _ _ _ (by omega), rd_u_j _ _ _ (by omega)]
    · repeat rw [rd_u_ne _ _ _ ha]
      funext b; unfold mo_sh; rw [if_neg (fun h => ha h.1)]
  · rw [if_neg h, if_neg h, show μ 1 35 - 0 = μ 1 35 by omega]
    unfold mo_mv
    refine ⟨by simp [rd_u], by simp [rd_u], by simp [rd_u], by simp [rd_u], by simp [rd_u], fun j h1 h2 h3 h5 h6 => ?_, fun a ha => ?_⟩
    · rw [rd_u_j _ _ _ h5, rd_u_j _ _ _ h3, rd_u_j _ _ _ h2, rd_u_j _ _ _ h1, rd_u_j _ _ _ (by omega), rd_u_j _ _ _ (by omega), rd_u_j _ _ _ (by omega), rd_u_j _ _ _ (by omega), rd_u_j _ _ _ (by omega)]
    · repeat rw [rd_u_ne _ _ _ ha]
/-- the trail behind a move -/
theorem mo_cm_t (h4 : 0 ≤ μ 1 35 ∧ μ 1 35 ≤ 40) (n s k : Int) {q c : Int} (hq : 0 ≤ q) (hq2 : q < (if μ 1 35 = 40 then 40 else μ 1 35 + 1)) (hc : 0 ≤ c ∧ c ≤ 2) : mo_cm μ n s k 1 (36 + 3 * q + c) = (if q = (if μ 1 35 = 40 then 39 else μ 1 35) then (if c = 0 then μ 1 30 else if c = 1 then μ 1 31 else μ 1 34) else μ 1 (36 + 3 * (if μ 1 35 = 40 then q + 1 else q) + c)) := by
  have hc3 : c = 0 ∨ c = 1 ∨ c = 2 := by omega
  unfold mo_cm
  by_cases h : μ 1 35 = 40
  · simp only [if_pos h] at hq2 ⊢
    have e : mo_sh μ 117 1 35 = 40 := by unfold mo_sh; rw [if_neg (by omega)]; exact h
    have e2 : ∀ j : Int, j < 36 → mo_sh μ 117 1 j = μ 1 j := fun j hj => by unfold mo_sh; rw [if_neg (by omega)]
    rw [e]
    unfold mo_mv
    simp only [rd_u]
    rw [e2 30 (by omega), e2 31 (by omega), e2 34 (by omega)]
    unfold mo_sh
    rcases hc3 with rfl | rfl | rfl <;> grind
  · simp only [if_neg h] at hq2 ⊢
    rw [show μ 1 35 - 0 = μ 1 35 by omega]
    unfold mo_mv
    simp only [rd_u]
    rcases hc3 with rfl | rfl | rfl <;> grind
theorem mo_S_cm (hI : mo_I μ) {n s k : Int} (hn : mo_t μ n) (hs : 0 ≤ s ∧ s ≤ 9) : mo_I (mo_cm μ n s k) := by
  obtain ⟨hD, ⟨h4, h31, h29, htr⟩⟩ := hI
  obtain ⟨e30, e31, e34, e33, e35, eo, -⟩ := mo_cm_s h4 n s k
  refine ⟨mo_D_c (fun j hj => eo j (by omega) (by omega) (by omega) (by omega) (by omega)) hD, ?_, by rw [e31]; exact hs, fun _ => ?_, fun q q0 q1 => ?_⟩
  · rw [e35]; split <;> omega
  · rw [e30]; exact (mo_t_c (fun j a b => eo j (by omega) (by omega) (by omega) (by omega) (by omega)) n).mpr hn
  · rw [e35] at q1
    rw [mo_cm_t h4 n s k q0 q1 (by omega)]
    rw [if_neg (by decide : ¬ (1 : Int) = 0), if_pos rfl]
    by_cases h40 : μ 1 35 = 40
    · simp only [if_pos h40] at q1 ⊢
      by_cases hq : q = 39
      · rw [if_pos hq]; exact h31
      · rw [if_neg hq]; exact htr _ (by omega) (by omega)
    · simp only [if_neg h40] at q1 ⊢
      by_cases hq : q = μ 1 35
      · rw [if_pos hq]; exact h31
      · rw [if_neg hq]; exact htr _ (by omega) (by omega)
theorem mo_nx_t (hI : mo_D μ) {a : Int} (ha : 0 ≤ a) (h : mo_nx μ a ≠ -1) : mo_t μ (mo_nx μ a) := by
  unfold mo_nx at h ⊢
  rcases sp_nx_spec (fun i => μ 1 (1 + i)) (fun n => mo_o μ n 1 = 0) (μ 1 0 - a).toNat a with ⟨h1, -⟩ | ⟨k, ⟨h1, h2⟩, h3, -⟩
  · exact absurd h1 h
  · rw [h3]; exact hI.2.2.1 k (by omega) (by omega)
theorem mo_fw_I (hI : mo_I μ) (h : μ 1 29 = 1) (hf : mo_cf μ) : mo_I (mo_fw μ) ∧ mo_fw μ 1 29 = 1 := by
  have ha := mo_I_at hI h
  have hr := mo_FS_r ha.2.1
  have h4 := hI.2.1
  unfold mo_fw
  by_cases hc : μ 1 31 < mo_FS μ (μ 1 30)
  · rw [if_pos hc]
    exact ⟨mo_S_cm hI (hI.2.2.2.1 h) (by have := hI.2.2.1; omega), by rw [(mo_cm_s h4 _ _ _).2.2.2.2.2.1 29 (by omega) (by omega) (by omega) (by omega) (by omega)]; exact h⟩
  · rw [if_neg hc]
    exact ⟨mo_S_cm hI (mo_nx_t hI.1 (by have := ha.2.2.1; omega) (hf.resolve_left hc)) (by omega), by rw [(mo_cm_s h4 _ _ _).2.2.2.2.2.1 29 (by omega) (by omega) (by omega) (by omega) (by omega)]; exact h⟩
/-! seconds -/
def mo_t0 (μ : rd_Mem) : rd_Mem := rd_u (rd_u μ 1 32 (rd_w (μ 1 32 + 1))) 1 33 (rd_w (μ 1 33 + 1))
def mo_pz (μ : rd_Mem) : Prop := 0 < mo_o μ (μ 1 30) 2 ∧ mo_o μ (μ 1 30) 2 ≤ μ 1 33
def mo_mc (μ : rd_Mem) : Prop := ¬ mo_ov μ ∧ mo_pz μ ∧ mo_cf μ
noncomputable def mo_t1 (μ : rd_Mem) : rd_Mem := sp_ite (mo_mc (mo_t0 μ)) (mo_fw (mo_t0 μ)) (mo_t0 μ)
noncomputable def mo_n1 (μ : rd_Mem) : Int := sp_if (mo_mc (mo_t0 μ)) 1 0
noncomputable def mo_ps : Nat → rd_Mem → rd_Mem
  | 0, μ => μ
  | n + 1, μ => sp_ite (mo_ov μ) μ (mo_ps n (mo_t1 μ))
noncomputable def mo_pn : Nat → rd_Mem → Int
  | 0, _ => 0
  | n + 1, μ => sp_if (mo_ov μ) 0 (mo_n1 μ + mo_pn n (mo_t1 μ))
theorem mo_ps_n {n : Nat} (h0 : 0 < n) (h : ¬ mo_ov μ) : mo_ps n μ = mo_ps (n - 1) (mo_t1 μ) := by
  obtain ⟨m, rfl⟩ : ∃ m, n = m + 1 := ⟨n - 1, by omega⟩
  show sp_ite _ _ _ = _
  rw [sp_ite_f h]; rfl
theorem mo_pn_n {n : Nat} (h0 : 0 < n) (h : ¬ mo_ov μ) : mo_pn n μ = mo_n1 μ + mo_pn (n - 1) (mo_t1 μ) := by
  obtain ⟨m, rfl⟩ : ∃ m, n = m + 1 := ⟨n - 1, by omega⟩
  show sp_if _ _ _ = _
  rw [sp_iff h]; rfl
theorem mo_ps_y {n : Nat} (h : n = 0 ∨ mo_ov μ) : mo_ps n μ = μ ∧ mo_pn n μ = 0 := by
  cases n with
  | zero => exact ⟨rfl, rfl⟩
  | succ m =>
    rcases h with h | h
    · cases h
    · exact ⟨by show sp_ite _ _ _ = _; rw [sp_ite_t h], by show sp_if _ _ _ = _; rw [sp_ift h]⟩
theorem mo_t0_s (j : Int) (h2 : j ≠ 32) (h3 : j ≠ 33) : mo_t0 μ 1 j = μ 1 j := by unfold mo_t0; rw [rd_u_j _ _ _ h3, rd_u_j _ _ _ h2]
theorem mo_t0_I (hI : mo_I μ) (h : μ 1 29 = 1) : mo_I (mo_t0 μ) ∧ mo_t0 μ 1 29 = 1 := by
  obtain ⟨hD, ⟨h4, h31, h29, htr⟩⟩ := hI
  have e : ∀ j : Int, j ≠ 32 → j ≠ 33 → mo_t0 μ 1 j = μ 1 j := mo_t0_s
  refine ⟨⟨mo_D_c (fun j hj => e j (by omega) (by omega)) hD, by rw [e 35 (by omega) (by omega)]; exact h4, by rw [e 31 (by omega) (by omega)]; exact h31, fun _ => ?_, fun q q0 q1 => ?_⟩, by rw [e 29 (by omega) (by omega)]; exact h⟩
  · rw [e 30 (by omega) (by omega)]; exact (mo_t_c (fun j a b => e j (by omega) (by omega)) _).mpr (h29 h)
  · rw [e 35 (by omega) (by omega)] at q1; rw [e _ (by omega) (by omega)]; exact htr q q0 q1
theorem mo_t1_I (hI : mo_I μ) (h : μ 1 29 = 1) : mo_I (mo_t1 μ) ∧ mo_t1 μ 1 29 = 1 := by
  obtain ⟨g1, g2⟩ := mo_t0_I hI h
  unfold mo_t1
  by_cases hm : mo_mc (mo_t0 μ)
  · rw [sp_ite_t hm]; exact mo_fw_I g1 g2 hm.2.2
  · rw [sp_ite_f hm]; exact ⟨g1, g2⟩
theorem mo_ps_I (n : Nat) : ∀ {μ : rd_Mem}, mo_I μ → μ 1 29 = 1 → mo_I (mo_ps n μ) ∧ mo_ps n μ 1 29 = 1 := by
  induction n with
  | zero => intro μ hI h; exact ⟨hI, h⟩
  | succ n ih =>
    intro μ hI h
    by_cases ho : mo_ov μ
    · rw [(mo_ps_y (Or.inr ho)).1]; exact ⟨hI, h⟩
    · rw [mo_ps_n (Nat.succ_pos n) ho]
      obtain ⟨g1, g2⟩ := mo_t1_I hI h
      exact ih g1 g2
theorem mo_pn_r (n : Nat) : ∀ (μ : rd_Mem), 0 ≤ mo_pn n μ ∧ mo_pn n μ ≤ n := by
  induction n with
  | zero => intro μ; exact ⟨Int.le_refl 0, Int.le_refl 0⟩
  | succ n ih =>
    intro μ
    by_cases ho : mo_ov μ
    · rw [(mo_ps_y (Or.inr ho)).2]; omega
    · rw [mo_pn_n (Nat.succ_pos n) ho]
      have := ih (mo_t1 μ)
      simp only [Nat.succ_sub_one, Nat.add_sub_cancel]
      unfold mo_n1
      by_cases hm : mo_mc (mo_t0 μ)
      · rw [sp_ift hm]; omega
      · rw [sp_iff hm]; omega
end MOD
