/-! the clock and the seconds that are left -/
noncomputable def pw_S (π : rd_Mem) : Int := pr π 200 (π 1 30) (π 1 31) (π 1 33)
noncomputable def pw_L (π : rd_Mem) : Int := pd_L π (π 1 30) (π 1 31)
section PW
variable {μ π : rd_Mem} {k : Int}
theorem pw_A (hR : rl_1 μ π) (h29 : π 1 29 = 1) (h : 0 ≤ pw_S π) : (pw_S π = 0 ↔ pw_L π = 0) ∧ 0 ≤ pw_L π := by
  have hD := pd_of hR
  have hV := pd_von hR h29
  have hL := pd_Lr hD hV
  have hc := (pd_Lc hD hV).1
  unfold pw_S at h ⊢
  unfold pw_L
  refine ⟨?_, hL.1⟩
  by_cases g : pd_c π (π 1 30) (π 1 31)
  · have hV' := ((pd_Lc hD hV).2 g).1
    have h0 := hc.mp g
    by_cases hx : mo_o π (π 1 30) 2 = 0 ∨ pr π 199 (pd_n π (π 1 30) (π 1 31)) (pd_t π (π 1 30) (π 1 31)) 0 = -6
    · rw [pr_x (f := 199) g hx] at h; omega
    · rw [pr_s (f := 199) g hx]
      have hr := (pr_r hD 199 _ _ 0 hV' (Int.le_refl 0)).resolve_left (fun e => hx (Or.inr e))
      omega
  · rw [pr_0 g]
    have : ¬ 0 < pd_L π (π 1 30) (π 1 31) := fun e => g (hc.mpr e)
    omega
theorem pw_e0 : pd_e (mo_t0 π) π := fun j hj => mo_t0_s j (by omega) (by omega)
theorem pw_t0 (hE : px_E k π) (hk : k < 900000) : mo_t0 π 1 33 = π 1 33 + 1 := by
  have : mo_t0 π 1 33 = rd_w (π 1 33 + 1) := by simp [mo_t0, rd_u]
  rw [this, rd_w_id ⟨by have := hE.2.2.1; omega, by have := hE.2.2.1; omega⟩]
theorem pw_B (hR : rl_1 μ π) (h29 : π 1 29 = 1) (hE : px_E k π) (hk : k < 900000) (h28 : π 1 28 = 0) (h1 : 1 ≤ pw_S π) : pw_S (mo_t1 π) = pw_S π - 1 ∧ pw_L (mo_t1 π) = pw_L π - mo_n1 π ∧ (mo_n1 π = 1 → mo_t1 π 1 33 = 0) ∧ (mo_n1 π = 0 ∨ mo_n1 π = 1) := by
  have hD := pd_of hR
  have hV := pd_von hR h29
  have hh := (rl_on29 hR).1.mp h29
  have hp := hD.2.2 _ hV.1
  have e0 := pw_e0 (π := π)
  have e33 := pw_t0 hE hk
  have e29 : mo_t0 π 1 29 = 1 := by rw [mo_t0_s 29 (by omega) (by omega)]; exact h29
  have e30 : mo_t0 π 1 30 = π 1 30 := mo_t0_s 30 (by omega) (by omega)
  have e31 : mo_t0 π 1 31 = π 1 31 := mo_t0_s 31 (by omega) (by omega)
  have e28 : mo_t0 π 1 28 = 0 := by rw [mo_t0_s 28 (by omega) (by omega)]; exact h28
  have hR0 := (rl_t0 hR hh).1
  have hD0 := pd_of hR0
  have hcc := (pd_e_c e0 hD (t := π 1 31) hV.1)
  have hg : pd_c π (π 1 30) (π 1 31) := Classical.byContradiction (fun g => by unfold pw_S at h1; rw [pr_0 g] at h1; omega)
  obtain ⟨hV', hL'⟩ := (pd_Lc hD hV).2 hg
  have hx : ¬ (mo_o π (π 1 30) 2 = 0 ∨ pr π 199 (pd_n π (π 1 30) (π 1 31)) (pd_t π (π 1 30) (π 1 31)) 0 = -6) := fun g => by unfold pw_S at h1; rw [pr_x (f := 199) hg g] at h1; omega
  have hp0 : mo_o π (π 1 30) 2 ≠ 0 := fun g => hx (Or.inl g)
  have eS : pw_S π = pr π 199 (pd_n π (π 1 30) (π 1 31)) (pd_t π (π 1 30) (π 1 31)) 0 + max 1 (mo_o π (π 1 30) 2 - π 1 33) := pr_s (f := 199) hg hx
  have hov : ¬ mo_ov (mo_t0 π) := fun g => by have := g.1; omega
  have hpz : mo_pz (mo_t0 π) ↔ mo_o π (π 1 30) 2 ≤ π 1 33 + 1 := by
    unfold mo_pz
    rw [e30, e33, pd_e_o e0 hV.1.1 (by omega)]
    constructor
    · intro g; exact g.2
    · intro g; exact ⟨by omega, g⟩
  have hcf : mo_cf (mo_t0 π) := by
    show pd_c (mo_t0 π) (mo_t0 π 1 30) (mo_t0 π 1 31)
    rw [e30, e31]; exact hcc.1.mpr hg
  by_cases hw : mo_o π (π 1 30) 2 ≤ π 1 33 + 1
  · have hm : mo_mc (mo_t0 π) := ⟨hov, hpz.mpr hw, hcf⟩
    have n1 : mo_n1 π = 1 := by unfold mo_n1; exact sp_ift hm _ _
    have t1 : mo_t1 π = mo_fw (mo_t0 π) := by unfold mo_t1; exact sp_ite_t hm _ _
    obtain ⟨f29, f30, f31, -, f33, -, -⟩ := pm_fs hR0 e29 hcf
    rw [e30, e31] at f30 f31
    rw [hcc.2.1] at f30
    rw [hcc.2.2] at f31
    have ef : pd_e (mo_fw (mo_t0 π)) π := fun j hj => (pm_fe hR0 j hj).trans (e0 j hj)
    have hLr := pd_Lr hD hV'
    rw [n1, t1]
    refine ⟨?_, ?_, fun _ => f33, Or.inr rfl⟩
    · unfold pw_S
      rw [f30, f31, f33, pr_e ef hD _ _ _ _ hV', pr_f hD 200 199 _ _ 0 hV' (by omega) (by omega)]
      unfold pw_S at eS
      omega
    · unfold pw_L
      rw [f30, f31, pd_e_L ef hD hV'.1, hL']
  · have hm : ¬ mo_mc (mo_t0 π) := fun g => hw (hpz.mp g.2.1)
    have n1 : mo_n1 π = 0 := by unfold mo_n1; exact sp_iff hm _ _
    have t1 : mo_t1 π = mo_t0 π := by unfold mo_t1; exact sp_ite_f hm _ _
    rw [n1, t1]
    refine ⟨?_, ?_, fun g => by omega, Or.inl rfl⟩
    · have e2 : pw_S (mo_t0 π) = pr π 200 (π 1 30) (π 1 31) (π 1 33 + 1) := by unfold pw_S; rw [e30, e31, e33, pr_e e0 hD _ _ _ _ hV]
      have e3 := pr_s (w := π 1 33 + 1) (f := 199) hg hx
      rw [e2, eS, e3]; omega
    · unfold pw_L
      rw [e30, e31, pd_e_L e0 hD hV.1]; omega
theorem pw_main : ∀ (S : Nat) {μ π : rd_Mem} {k : Int}, rl_1 μ π → π 1 29 = 1 → px_E k π → 0 ≤ k → k + S < 900000 → π 1 28 = 0 → pw_S π = S → 1 ≤ S → (mo_pn S π = pw_L π ∧ pw_L (mo_ps S π) = 0 ∧ mo_ps S π 1 33 = 0) ∧ mo_pn (S - 1) π = pw_L π - 1 ∧ pw_L (mo_ps (S - 1) π) = 1 := by
  intro S
  induction S with
  | zero => intro μ π k _ _ _ _ _ _ _ h; omega
  | succ S ih =>
    intro μ π k hR h29 hE hk hkS h28 hS h1
    have hh := (rl_on29 hR).1.mp h29
    have hov : ¬ mo_ov π := fun g => by have := g.1; omega
    obtain ⟨b1, b2, b3, b4⟩ := pw_B hR h29 hE (by omega) h28 (by omega)
    obtain ⟨⟨k1, k2⟩, -⟩ := rl_t1 hR hh
    have f29 := (mo_t1_I (rl_J hR).1 h29).2
    have f28 : mo_t1 π 1 28 = 0 := by rw [(mo_t1_o (rl_J hR).1 h29).1 28 (by omega)]; exact h28
    have hA := pw_A hR h29 (by omega)
    rw [mo_pn_n (Nat.succ_pos S) hov, mo_ps_n (Nat.succ_pos S) hov, show S.succ - 1 = S from rfl]
    by_cases h0 : S = 0
    · subst h0
      have hA1 := pw_A k1 f29 (by omega)
      have z1 : pw_S (mo_t1 π) = 0 := by omega
      have z2 := hA1.1.mp z1
      have z3 : ¬ pw_L π = 0 := fun g => by have := hA.1.mpr g; omega
      have n1 : mo_n1 π = 1 := by omega
      have p0 : mo_pn 0 (mo_t1 π) = 0 := rfl
      have p1 : mo_ps 0 (mo_t1 π) = mo_t1 π := rfl
      have p2 : mo_pn 0 π = 0 := rfl
      have p3 : mo_ps 0 π = π := rfl
      rw [p0, p1, p2, p3]
      exact ⟨⟨by omega, z2, b3 n1⟩, by omega, by omega⟩
    · have e1 : px_E (k + 1) (mo_t1 π) := by
        have g1 := (rl_t0 hR hh).1
        have g0 := px_t0 hR hE (by omega)
        unfold mo_t1
        by_cases hc : mo_mc (mo_t0 π)
        · rw [sp_ite_t hc]; exact px_fw g1 g0 (by omega)
        · rw [sp_ite_f hc]; exact g0
      obtain ⟨⟨i1, i2, i3⟩, i4, i5⟩ := ih k1 f29 e1 (by omega) (by omega) f28 (by omega) (by omega)
      have hSp : 0 < S := by omega
      refine ⟨⟨by omega, i2, i3⟩, ?_, ?_⟩
      · rw [mo_pn_n hSp hov]; omega
      · rw [mo_ps_n hSp hov]; exact i5
/-- as the law asks it -/
theorem pw_law (hR : rl_1 μ π) (hE : px_E k π) (hk : 0 ≤ k) (hk2 : k < 800000) (h0 : 0 < pv_secondsLeft π) (h99 : pv_secondsLeft π ≤ 99) (he : pv_end π ≤ 0) : (0 ≤ pv_movesLeft π ∧ pv_movesLeft π ≤ 109 ∧ 1 ≤ pv_movesLeft π) ∧ (pf_tick π (pv_secondsLeft π) = (pv_movesLeft π, mo_ps (pv_secondsLeft π).toNat π) ∧ pv_movesLeft (mo_ps (pv_secondsLeft π).toNat π) = 0 ∧ pv_now (mo_ps (pv_secondsLeft π).toNat π) 3 = 0) ∧ (pv_secondsLeft π ≠ 1 → pf_tick π (pv_secondsLeft π - 1) = (pv_movesLeft π - 1, mo_ps (pv_secondsLeft π - 1).toNat π) ∧ pv_movesLeft (mo_ps (pv_secondsLeft π - 1).toNat π) = 1) := by
  have h29 : π 1 29 = 1 := (pm_29 hR).resolve_right (fun g => by unfold pv_secondsLeft at h0; rw [pg_ift g] at h0; omega)
  have h28 : π 1 28 = 0 := by have := hE.1; unfold pv_end at he; omega
  have hD := pd_of hR
  have hV := pd_von hR h29
  have hLr := pd_Lr hD hV
  have hI := (rl_J hR).1
  have hov : ¬ mo_ov π := fun g => by have := g.1; omega
  have eS : pv_secondsLeft π = pw_S π := by
    have h1 := pr_rs hD 200 (π 1 30) (π 1 31) (π 1 33) 0 hV hE.2.2.1.1 (by have := hE.2.2.1.2; omega) (Int.le_refl 0) (by omega)
    have h2 : pv_secondsLeft π = mo_rs π 200 (π 1 30) (π 1 31) (π 1 33) 0 := by unfold pv_secondsLeft; rw [pg_iff (by omega)]
    rw [h2] at h0 ⊢
    rw [h1] at h0 ⊢
    by_cases g : pr π 200 (π 1 30) (π 1 31) (π 1 33) = -6
    · rw [if_pos g] at h0; omega
    · rw [if_neg g]; unfold pw_S; omega
  have eL : pv_movesLeft π = pw_L π := pm_ml h29
  have hm := pw_main (pv_secondsLeft π).toNat hR h29 hE hk (by omega) h28 (by rw [← eS]; omega) (by omega)
  have hA := pw_A hR h29 (by omega)
  obtain ⟨⟨m1, m2, m3⟩, m4, m5⟩ := hm
  have hL1 : 1 ≤ pv_movesLeft π := by
    rw [eL]
    have : ¬ pw_L π = 0 := fun g => by have := hA.1.mpr g; omega
    omega
  have o1 := (mo_ps_I (pv_secondsLeft π).toNat hI h29).2
  have tk : ∀ s : Int, 1 ≤ s ∧ s ≤ 99 → pf_tick π s = (mo_pn s.toNat π, mo_ps s.toNat π) := fun s hs => by
    unfold pf_tick; rw [pg_iff (by omega), pg_iff (fun g => g.2 ⟨h29, hov⟩)]
  refine ⟨⟨by omega, by rw [eL]; exact hLr.2, hL1⟩, ⟨by rw [tk _ ⟨by omega, h99⟩, m1, eL], by rw [pm_ml o1]; exact m2, by rw [(pm_now o1).2.2.2.1]; exact m3⟩, fun hne => ?_⟩
  have e1 : (pv_secondsLeft π - 1).toNat = (pv_secondsLeft π).toNat - 1 := by omega
  have o2 := (mo_ps_I ((pv_secondsLeft π).toNat - 1) hI h29).2
  exact ⟨by rw [tk _ ⟨by omega, by omega⟩, e1, m4, eL], by rw [e1, pm_ml o2]; exact m5⟩
end PW
