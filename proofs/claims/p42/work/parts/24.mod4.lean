theorem mo_sv_lo {μ : rd_Mem} (h : 0 ≤ μ 0 1 ∧ μ 0 1 ≤ 4) {j : Int} (hj : 0 ≤ j ∧ j < 476) : mo_sv μ 1 j = μ 1 j := by
  unfold mo_sv
  by_cases h4 : μ 0 1 = 4
  · rw [if_pos h4]
    have e : mo_sf μ 4 0 1 = 4 := by unfold mo_sf; rw [if_neg (by omega)]; exact h4
    rw [e]
    unfold mo_cp
    rw [if_neg (by omega), rd_u_k _ _ _ (by omega)]
    unfold mo_sf
    rw [if_neg (by omega)]
  · rw [if_neg h4]
    unfold mo_cp
    rw [if_neg (by omega), rd_u_k _ _ _ (by omega)]
theorem mo_S_c {μ ν : rd_Mem} (h : ∀ j : Int, 28 ≤ j ∧ j < 476 → ν 1 j = μ 1 j) (hS : mo_S μ) : mo_S ν := by
  obtain ⟨h4, h31, h29, htr⟩ := hS
  refine ⟨by rw [h 35 (by omega)]; exact h4, by rw [h 31 (by omega)]; exact h31, fun h9 => ?_, fun k k0 k1 => ?_⟩
  · rw [h 30 (by omega)]; exact (mo_t_c (fun j a b => h j (by omega)) _).mpr (h29 (by rw [← h 29 (by omega)]; exact h9))
  · rw [h 35 (by omega)] at k1; rw [h _ (by omega)]; exact htr k k0 k1
theorem mo_sv_I {μ : rd_Mem} (h : 0 ≤ μ 0 1 ∧ μ 0 1 ≤ 4) (hI : mo_I μ) : mo_I (mo_sv μ) :=
  ⟨mo_D_c (fun j hj => mo_sv_lo h (by omega)) hI.1, mo_S_c (fun j hj => mo_sv_lo h (by omega)) hI.2⟩
theorem mo_sv_t {μ : rd_Mem} (h : 0 ≤ μ 0 1 ∧ μ 0 1 ≤ 4) {n : Int} : mo_t (mo_sv μ) n ↔ mo_t μ n := mo_t_c (fun j a b => mo_sv_lo h (by omega)) n
def mo_tk (ν : rd_Mem) (p k : Int) : rd_Mem := fun a b => if a = 1 ∧ b = 0 then ν 1 0 - 1 else if a = 1 ∧ (1 + p ≤ b ∧ b < 1 + k) then ν 1 (b + 1) else ν a b
def mo_to (ν : rd_Mem) (p : Int) : rd_Mem := mo_tk ν p (ν 1 0 - 1)
noncomputable def mo_np (μ : rd_Mem) (s : Int) : Int := sp_ff (fun i => μ 1 (12 + 2 * i) = s) (μ 1 11).toNat 0
theorem mo_np_r {μ : rd_Mem} (h : 0 ≤ μ 1 11) (s : Int) : mo_np μ s = -1 ∨ (0 ≤ mo_np μ s ∧ mo_np μ s < μ 1 11) := by
  unfold mo_np
  rcases sp_ff_spec (fun i => μ 1 (12 + 2 * i) = s) (μ 1 11).toNat 0 with ⟨h1, -⟩ | ⟨h1, -⟩
  · exact Or.inl h1
  · exact Or.inr ⟨by omega, by omega⟩
noncomputable def mo_fr (μ : rd_Mem) : Int := sp_ff (fun i => mo_o μ i 0 ≠ 1) 10 0
def mo_lr (ν : rd_Mem) (x k : Int) : rd_Mem := fun a b => if a = 1 ∧ (156 + 32 * x ≤ b ∧ b < 156 + 32 * x + k) then (if b < 156 + 32 * x + 22 then 0 else -6) else ν a b
def mo_ad (ν : rd_Mem) (x : Int) : rd_Mem := rd_u (rd_u (rd_u (mo_lr ν x 32) 1 (156 + 32 * x + 0) 1) 1 (1 + mo_lr ν x 32 1 0) x) 1 0 (mo_lr ν x 32 1 0 + 1)
def mo_dl (ν : rd_Mem) (x k : Int) : rd_Mem := fun a b => if a = 1 ∧ (156 ≤ b ∧ b < 476) ∧ 22 ≤ (b - 156) % 32 ∧ (b - 156) / 32 * 10 + ((b - 156) % 32 - 22) < k ∧ ν 1 b = x then -6 else ν a b
noncomputable def mo_rm (ν : rd_Mem) (x : Int) : rd_Mem := mo_dl (rd_u (mo_to ν (mo_pl ν x)) 1 (156 + 32 * x + 0) 0) x 100
theorem sp_d10 : ∀ k : Fin 100, rd_i (k.val : Int) / rd_i 10 = rd_i ((k.val : Int) / 10) ∧ rd_i (k.val : Int) - rd_i (k.val : Int) / rd_i 10 * rd_i 10 = rd_i ((k.val : Int) % 10) := by decide +kernel
theorem sp_d10i {k : Int} (h0 : 0 ≤ k) (h1 : k < 100) : rd_i k / rd_i 10 = rd_i (k / 10) ∧ rd_i k - rd_i k / rd_i 10 * rd_i 10 = rd_i (k % 10) := by
  have := sp_d10 ⟨k.toNat, by omega⟩
  simp only at this
  rw [show ((k.toNat : Nat) : Int) = k by omega] at this
  exact this
theorem mo_dl_s (ν : rd_Mem) {x k : Int} (hx : x ≠ -6) (h0 : 0 ≤ k) (h1 : k < 100) : mo_dl ν x (k + 1) = (if mo_o (mo_dl ν x k) (k / 10) (22 + k % 10) = x then rd_u (mo_dl ν x k) 1 (156 + 32 * (k / 10) + (22 + k % 10)) (-6) else mo_dl ν x k) := by
  have e : mo_o (mo_dl ν x k) (k / 10) (22 + k % 10) = ν 1 (156 + 32 * (k / 10) + (22 + k % 10)) := by
    show mo_dl ν x k 1 _ = _
    unfold mo_dl; rw [if_neg (by omega)]
  rw [e]
  funext a b
  by_cases ha : a = 1
  · subst ha
    by_cases hb : b = 156 + 32 * (k / 10) + (22 + k % 10)
    · subst hb
      by_cases hv : ν 1 (156 + 32 * (k / 10) + (22 + k % 10)) = x
      · rw [if_pos hv, rd_u_s]
        unfold mo_dl; rw [if_pos ⟨rfl, by omega, by omega, by omega, hv⟩]
      · rw [if_neg hv]
        unfold mo_dl; rw [if_neg (fun h => hv h.2.2.2.2), if_neg (fun h => hv h.2.2.2.2)]
    · have e2 : mo_dl ν x (k + 1) 1 b = mo_dl ν x k 1 b := by
        unfold mo_dl
        by_cases hc : (156 ≤ b ∧ b < 476) ∧ 22 ≤ (b - 156) % 32 ∧ (b - 156) / 32 * 10 + ((b - 156) % 32 - 22) < k ∧ ν 1 b = x
        · rw [if_pos ⟨rfl, hc.1, hc.2.1, by have := hc.2.2.1; omega, hc.2.2.2⟩, if_pos ⟨rfl, hc⟩]
        · rw [if_neg (fun h => hc ⟨h.2.1, h.2.2.1, by have h1 := h.2.2.2.1; have h2 := h.2.1; have h3 := h.2.2.1; omega, h.2.2.2.2⟩), if_neg (fun h => hc h.2)]
      rw [e2]
      split
      · rw [rd_u_j _ _ _ hb]
      · rfl
  · have e2 : ∀ k, mo_dl ν x k a b = ν a b := fun k => by unfold mo_dl; rw [if_neg (fun h => ha h.1)]
    rw [e2]
    split
    · rw [rd_u_k _ _ _ ha, e2]
    · rw [e2]
def mo_up (ν : rd_Mem) (k : Int) : rd_Mem := fun a b => if a = 1 ∧ (1 + k < b ∧ b ≤ 1 + ν 1 0) then ν 1 (b - 1) else ν a b
def mo_in (ν : rd_Mem) (q x : Int) : rd_Mem := rd_u (rd_u (mo_up ν q) 1 (1 + q) x) 1 0 (mo_up ν q 1 0 + 1)
