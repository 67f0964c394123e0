/-! the moves of a text keep the relation -/
theorem sp_mvs_q {t : Int → Int} {L : Int} : ∀ (n : Nat) (i e : Int), 0 ≤ i → i + n = L → sp_flt t n i e = -6 → ∀ x ∈ sp_mvs t L n i, x.2.1 = 107 → 0 ≤ x.2.2 ∧ x.2.2 ≤ 9 := by
  intro n
  induction n with
  | zero => intro i e i0 h h1 x hx; exact absurd hx List.not_mem_nil
  | succ n ih =>
    intro i e i0 hL hF x hx h107
    have h5 : sp_eB (t i) e ≠ 5 := fun h => by rw [sp_flt_t (Nat.succ_pos n) h] at hF; omega
    rw [sp_flt_f (Nat.succ_pos n) h5] at hF
    have ih2 := ih (i + 1) _ (by omega) (by omega) hF
    by_cases hl : sp_eL (t i) = 5
    · rw [sp_mvs_s (Nat.succ_pos n) hl] at hx; exact ih2 x hx h107
    · rw [sp_mvs_c (Nat.succ_pos n) hl] at hx
      rcases List.mem_cons.mp hx with hx | hx
      · subst hx
        replace h107 : t i = 107 := h107
        show 0 ≤ sp_nb t (L - (i + 1)).toNat (i + 1) 0 ∧ sp_nb t (L - (i + 1)).toNat (i + 1) 0 ≤ 9
        have he : sp_eB (t i) e = 1 := by
          rw [h107] at h5 ⊢
          unfold sp_eB at h5 ⊢
          by_cases h0 : e = 0
          · rw [if_pos h0]; rfl
          · rw [if_neg h0] at h5
            by_cases h1 : e = 1
            · rw [if_pos h1] at h5; exact absurd rfl h5
            · rw [if_neg h1] at h5
              by_cases h2 : e = 2
              · rw [if_pos h2] at h5; exact absurd rfl h5
              · rw [if_neg h2] at h5
                by_cases h3 : e = 3
                · rw [if_pos h3] at h5; exact absurd rfl h5
                · rw [if_neg h3] at h5; exact absurd rfl h5
        rw [he] at hF
        rw [show (n + 1 - 1 : Nat) = n from rfl] at hF
        cases n with
        | zero => exact absurd hF (by show ¬ (if (1 : Int) = 3 ∨ (1 : Int) = 4 then (-6 : Int) else i + 1) = -6; rw [if_neg (by decide)]; omega)
        | succ m =>
          have hd : 48 ≤ t (i + 1) ∧ t (i + 1) ≤ 57 := by
            by_cases h : 48 ≤ t (i + 1) ∧ t (i + 1) ≤ 57
            · exact h
            · rw [sp_flt_t (Nat.succ_pos m) (by unfold sp_eB; rw [if_neg (by decide), if_pos rfl, if_neg h])] at hF; omega
          have he1 : sp_eB (t (i + 1)) 1 = 4 := by unfold sp_eB; rw [if_neg (by decide), if_pos rfl, if_pos hd]
          rw [sp_flt_f (Nat.succ_pos m) (by rw [he1]; decide), he1] at hF
          have hv : i + 1 + 1 = L ∨ t (i + 1 + 1) = 59 := by
            cases m with
            | zero => left; omega
            | succ m' =>
              right
              by_cases h : t (i + 1 + 1) = 59
              · exact h
              · have h6 : sp_eB (t (i + 1 + 1)) 4 = 5 := by unfold sp_eB sp_eM; rw [if_neg (by decide), if_neg (by decide), if_neg (by decide), if_neg (by decide), if_neg h]
                rw [show (m' + 1).succ - 1 = m' + 1 from rfl, sp_flt_t (Nat.succ_pos m') h6] at hF; omega
          rw [sp_nb_t (by omega) hd, show (L - (i + 1)).toNat - 1 = (L - (i + 1 + 1)).toNat by omega, sp_nb_e hv, show (0 : Int) * 10 = 0 from rfl, rd_w_id (z := 0) ⟨by decide, by decide⟩, rd_w_id ⟨by omega, by omega⟩]
          omega
      · exact ih2 x hx h107
theorem rl_k3 {μ ν ν' : rd_Mem} (h : mo_k3 ν' ν) (hR : rl_1 μ ν) : rl_1 μ ν' := rl_1_c (fun _ _ _ => rfl) (fun j _ _ => h 1 j (by omega)) hR
theorem rl_rn : ∀ (l : List (Int × Int × Int)) {μ ν M : rd_Mem} {m R f : Int}, rl_1 μ ν → (∀ x ∈ l, x.2.1 = 107 → 0 ≤ x.2.2 ∧ x.2.2 ≤ 9) → mo_rn l ν m R M f → (rd_rn l μ m).1 = R ∧ (rd_rn l μ m).2.2 = f ∧ rl_1 (rd_rn l μ m).2.1 M ∧ ∀ a : Int, a < 58 ∨ 61 < a → (rd_rn l μ m).2.1 a = μ a := by
  intro l
  induction l with
  | nil => intro μ ν M m R f hR _ h; exact ⟨h.2.1.symm, h.2.2.symm, rl_k3 h.1 hR, fun _ _ => rfl⟩
  | cons x r ih =>
    obtain ⟨i, c, q⟩ := x
    intro μ ν M m R f hR hq h
    have hq1 : c = 107 → 0 ≤ q ∧ q ≤ 9 := hq (i, c, q) List.mem_cons_self
    rcases h with ⟨h1, h2, h3, h4⟩ | ⟨κ, h1, h2, h3⟩
    · have hR2 := rl_k3 h1 hR
      have hn : ¬ sp_can μ c q := fun e => h2 ((rl_can hR2 hq1).mpr e)
      rw [rd_rn_f hn]
      exact ⟨h3.symm, h4.symm, hR2, fun _ _ => rfl⟩
    · have hR2 := rl_k3 h1 hR
      have hy := (rl_can hR2 hq1).mp h2
      rw [rd_rn_t hy]
      obtain ⟨k1, k2, k3, k4⟩ := ih (rl_md hR2 hq1 hy).1 (fun x hx => hq x (List.mem_cons_of_mem _ hx)) h3
      exact ⟨k1, k2, k3, fun a ha => (k4 a ha).trans ((rd_mk_wf hR2.1.1 hR2.1.2.2.2.2.2.1 hy).2 a ha)⟩
/-- what the moves leave of the check's memory -/
theorem mo_rn_o : ∀ (l : List (Int × Int × Int)) {ν M : rd_Mem} {m R f : Int}, mo_J ν → (∀ x ∈ l, x.2.1 = 107 → 0 ≤ x.2.2 ∧ x.2.2 ≤ 9) → mo_rn l ν m R M f → (∀ j : Int, 476 ≤ j → M 1 j = ν 1 j) ∧ ∀ a j : Int, a ≠ 1 → (a ≠ 0 ∨ j < 4) → M a j = ν a j := by
  intro l
  induction l with
  | nil => intro ν M m R f _ _ h; exact ⟨fun j _ => h.1 1 j (by omega), fun a j _ _ => h.1 a j (by omega)⟩
  | cons x r ih =>
    obtain ⟨i, c, q⟩ := x
    intro ν M m R f hJ hq h
    rcases h with ⟨h1, h2, h3, h4⟩ | ⟨κ, h1, h2, h3⟩
    · exact ⟨fun j _ => h1 1 j (by omega), fun a j _ _ => h1 a j (by omega)⟩
    · have hJ2 := mo_J_k h1 hJ
      obtain ⟨o1, o2⟩ := mo_md_o hJ2.1 h2
      obtain ⟨k1, k2⟩ := ih (mo_md_J hJ2 h2 (hq (i, c, q) List.mem_cons_self)) (fun x hx => hq x (List.mem_cons_of_mem _ hx)) h3
      exact ⟨fun j hj => (k1 j hj).trans ((o1 j (by omega)).trans (h1 1 j (by omega))), fun a j ha hj => (k2 a j ha hj).trans ((congrFun (o2 a ha) j).trans (h1 a j (by omega)))⟩
