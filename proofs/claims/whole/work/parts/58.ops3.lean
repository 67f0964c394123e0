/-! what would be: the same answer -/
theorem sp_sum_h (g : Int → Int) (n : Nat) : sp_sum g (n + 1) = g 0 + sp_sum (fun i => g (i + 1)) n := by
  induction n with
  | zero => show sp_sum g 0 + g 0 = g 0 + 0; show 0 + g 0 = g 0 + 0; omega
  | succ n ih =>
    have e1 : sp_sum g (n + 1 + 1) = sp_sum g (n + 1) + g ((n + 1 : Nat) : Int) := rfl
    have e2 : sp_sum (fun i => g (i + 1)) (n + 1) = sp_sum (fun i => g (i + 1)) n + g ((n : Int) + 1) := rfl
    rw [e1, ih, e2, show ((n + 1 : Nat) : Int) = (n : Int) + 1 by omega]; omega
section RF
variable {μ ν μ' ν' : rd_Mem} {v w : Option rd_X}
theorem sp_next_s {a : Int} (ha : a < μ 2 0) (h : sp_sh μ (μ 3 a)) : sp_next μ a = μ 3 a := by
  unfold sp_next; exact sp_nx_t (by omega) h
theorem sp_next_n {a : Int} (ha : a < μ 2 0) (h : ¬ sp_sh μ (μ 3 a)) : sp_next μ a = sp_next μ (a + 1) := by
  unfold sp_next; rw [sp_nx_f (by omega) h]; congr 1; omega
theorem sp_next_e {a : Int} (ha : μ 2 0 ≤ a) : sp_next μ a = -1 := by
  unfold sp_next; rw [show (μ 2 0 - a).toNat = 0 by omega]; rfl
/-- the moves that begin behind the position's slide -/
theorem rl_ml (hR : rl_1 μ ν) (hh : sp_th μ (μ 58 0)) : ∀ (n : Nat) (a : Int), sp_pl μ (μ 58 0) < a → a + n = μ 2 0 → sp_sum (fun i => sp_mo μ (a + i)) n = mo_ml ν a n - (if sp_next μ a = -1 then 0 else 1) := by
  intro n
  induction n with
  | zero => intro a h1 h2; rw [if_pos (sp_next_e (by omega))]; show (0 : Int) = 0 - 0; omega
  | succ n ih =>
    intro a h1 h2
    have hpo := hR.1.2.2.2.1 _ hh
    have hth := (hR.1.2.2.2.2.2.2.1 a (by omega) (by omega))
    have hne : μ 3 a ≠ μ 58 0 := fun e => by rw [e] at hth; omega
    have ih2 := ih (a + 1) (by omega) (by omega)
    have hord := hR.2.1.2.1 a (by omega) (by omega)
    have hhid := (rl_row hR.2.1 hth.1).2.1
    have hF := rl_FS hR.2.1 hth.1
    have e1 : sp_sum (fun i => sp_mo μ (a + i)) (n + 1) = sp_mo μ a + sp_sum (fun i => sp_mo μ (a + 1 + i)) n := by
      rw [sp_sum_h]
      show sp_mo μ (a + 0) + sp_sum (fun i => sp_mo μ (a + (i + 1))) n = _
      rw [Int.add_zero, sp_sum_c (g := fun i => sp_mo μ (a + 1 + i)) (fun i _ _ => by show sp_mo μ (a + (i + 1)) = sp_mo μ (a + 1 + i); congr 1; omega)]
    have e2 : mo_ml ν a (n + 1) = sp_if (μ (5 + 5 * μ 3 a) 1 = 0) (sp_FS μ (μ 3 a) + 1) 0 + mo_ml ν (a + 1) n := by
      unfold mo_ml
      rw [sp_sum_h]
      show sp_if (mo_o ν (ν 1 (1 + (a + 0))) 1 = 0) (mo_FS ν (ν 1 (1 + (a + 0))) + 1) 0 + sp_sum (fun i => sp_if (mo_o ν (ν 1 (1 + (a + (i + 1)))) 1 = 0) (mo_FS ν (ν 1 (1 + (a + (i + 1)))) + 1) 0) n = _
      rw [Int.add_zero, hord, hhid, hF]
      congr 1
      exact sp_sum_c (fun i _ _ => by show sp_if (mo_o ν (ν 1 (1 + (a + (i + 1)))) 1 = 0) (mo_FS ν (ν 1 (1 + (a + (i + 1)))) + 1) 0 = sp_if (mo_o ν (ν 1 (1 + (a + 1 + i))) 1 = 0) (mo_FS ν (ν 1 (1 + (a + 1 + i))) + 1) 0; rw [show a + (i + 1) = a + 1 + i by omega])
    rw [e1, e2, ih2]
    unfold sp_mo
    by_cases hs : μ (5 + 5 * μ 3 a) 1 = 0
    · have hsh : sp_sh μ (μ 3 a) := ⟨hth.1, hs⟩
      rw [sp_ift ⟨hth.1, Or.inl hs⟩, sp_ift hs, if_neg hne, sp_next_s (by omega) hsh, if_neg (show ¬ μ 3 a = -1 by have := hth.1.1; omega)]
      omega
    · rw [sp_iff (fun h => h.2.elim hs hne), sp_iff hs, sp_next_n (by omega) (fun h => hs h.2)]
      omega
set_option maxHeartbeats 1000000 in
theorem ro_movesLeft (hR : rl_R μ ν) (h1 : (¬ sp_th μ (μ 58 0) ∧ v = some (rd_I (-6)) ∧ μ' = μ) ∨ (sp_th μ (μ 58 0) ∧ v = some (rd_I (sp_sum (fun i => sp_mo μ (sp_pl μ (μ 58 0) + i)) (μ 2 0 - sp_pl μ (μ 58 0)).toNat)) ∧ μ' = μ)) (h2 : (ν 1 29 = 0 ∧ w = some (rd_I (-6)) ∧ ν' = ν) ∨ (ν 1 29 ≠ 0 ∧ w = some (rd_I (mo_FS ν (ν 1 30) - ν 1 31 + mo_ml ν (mo_pl ν (ν 1 30) + 1) (ν 1 0 - (mo_pl ν (ν 1 30) + 1)).toNat)) ∧ ν' = ν)) : w = v ∧ rl_R μ' ν' := by
  have hon := (rl_on29 hR.1).2
  rcases h1 with ⟨a, e, m⟩ | ⟨a, e, m⟩ <;> rcases h2 with ⟨b, f, n⟩ | ⟨b, f, n⟩ <;> first | (constructor <;> first | (rw [e, f]; done) | (rw [m, n]; exact hR)) | (exfalso; clear m n e f hR; grind) | skip
  refine ⟨?_, by rw [m, n]; exact hR⟩
  obtain ⟨p0, p1, p2, -, -, -, -, p7, -⟩ := rl_pp hR.1 a
  have hpo := hR.1.1.2.2.2.1 _ a
  have hos := rl_os hR.1.1 a
  have hc : ν 1 0 = μ 2 0 := hR.1.2.1.1
  rw [e, f, p1, p2, rl_FS hR.1.2.1 a, rl_pl hR.1.2.1, hc]
  congr 2
  have hm := rl_ml hR.1 a (μ 2 0 - (sp_pl μ (μ 58 0) + 1)).toNat (sp_pl μ (μ 58 0) + 1) (by omega) (by omega)
  rw [show (μ 2 0 - sp_pl μ (μ 58 0)).toNat = (μ 2 0 - (sp_pl μ (μ 58 0) + 1)).toNat + 1 by omega, sp_sum_h]
  show _ = sp_mo μ (sp_pl μ (μ 58 0) + 0) + sp_sum (fun i => sp_mo μ (sp_pl μ (μ 58 0) + (i + 1))) _
  rw [sp_sum_c (g := fun i => sp_mo μ (sp_pl μ (μ 58 0) + 1 + i)) (fun i _ _ => by show sp_mo μ (sp_pl μ (μ 58 0) + (i + 1)) = sp_mo μ (sp_pl μ (μ 58 0) + 1 + i); congr 1; omega), hm, Int.add_zero]
  unfold sp_mo
  rw [hos.2, sp_ift ⟨a, Or.inr rfl⟩, if_pos rfl]
  split <;> omega
/-! the fewest moves -/
def rl_b (μ : rd_Mem) (n : Int) : Int := if n = μ 58 0 then μ 58 1 else 0
theorem mo_P_up (hR : rl_1 μ ν) {m t : Int} {j : Nat} (h : mo_P ν j m t) : ∀ d : Nat, t + d ≤ mo_FS ν m → mo_P ν (j + d) m (t + d) := by
  intro d
  induction d with
  | zero => intro _; rw [show t + ((0 : Nat) : Int) = t by omega]; exact h
  | succ d ih => intro hd; exact ⟨m, t + d, ih (by omega), Or.inl (Or.inl ⟨by omega, rfl, by omega⟩)⟩
theorem rl_QP (hR : rl_1 μ ν) (hh : sp_th μ (μ 58 0)) : ∀ (e : Nat) (k n : Int), sp_Q μ e k n → ∃ j : Nat, (j : Int) ≤ k ∧ mo_P ν j n (rl_b μ n) := by
  have hp := rl_pp hR hh
  have hs := hp.2.2.2.2.2.2.2.1
  have h00 : mo_P ν 0 (μ 58 0) (rl_b μ (μ 58 0)) := ⟨hp.2.1.symm, by unfold rl_b; rw [if_pos rfl]; exact hp.2.2.1.symm⟩
  intro e
  induction e with
  | zero =>
    intro k n h
    rw [h.2]; exact ⟨0, by have := h.1; omega, h00⟩
  | succ e ih =>
    intro k n h
    have hk0 := sp_Q_0 hR.1.1 hs (e + 1) k n h
    by_cases hn : n = μ 58 0
    · rw [hn]; exact ⟨0, by omega, h00⟩
    obtain ⟨p, k', w, h1, h2, h3, h4, h5⟩ := h
    obtain ⟨j, hj, hP⟩ := ih _ _ h1
    have hbn : rl_b μ n = 0 := by unfold rl_b; exact if_neg hn
    rw [hbn]
    have hpl := (hR.1.2.2.2.2.2.2.1 p h2.1 h2.2).2
    obtain ⟨hr, ⟨q, q0, q1, q2⟩ | ⟨q1, q2⟩⟩ := h4
    · refine ⟨j + 1, by omega, _, _, hP, Or.inr ⟨q, q0, ?_, ?_, rfl⟩⟩
      · rw [(rl_row hR.2.1 h3).2.2.2.2.2 q q0.1 (by omega), q1, mo_z_ne (by omega)]; omega
      · rw [(rl_row hR.2.1 h3).2.2.2.2.2 q q0.1 (by omega), q1, mo_z_ne (by omega)]
    · have hF := rl_FS hR.2.1 h3
      have hb : rl_b μ (μ 3 p) = (if μ 3 p = μ 58 0 then μ 58 1 else 0) := rfl
      have hf0 : 0 ≤ sp_FS μ (μ 3 p) := sp_fs0 _ _ _
      have hbr : 0 ≤ rl_b μ (μ 3 p) ∧ rl_b μ (μ 3 p) ≤ sp_FS μ (μ 3 p) := by
        have h4 := hR.1.1.2.2.2.2
        unfold rl_b
        by_cases he : μ 3 p = μ 58 0
        · rw [if_pos he, he]; omega
        · rw [if_neg he]; omega
      rw [← hb] at q2
      have hup := mo_P_up hR hP (sp_FS μ (μ 3 p) - rl_b μ (μ 3 p)).toNat (by rw [hF]; omega)
      rw [show rl_b μ (μ 3 p) + (((sp_FS μ (μ 3 p) - rl_b μ (μ 3 p)).toNat : Nat) : Int) = sp_FS μ (μ 3 p) by omega] at hup
      have hnx : mo_nx ν (mo_pl ν (μ 3 p) + 1) = n := by rw [rl_pl hR.2.1, hpl, rl_nx hR.1 hR.2.1 (by omega)]; exact q1.symm
      exact ⟨j + (sp_FS μ (μ 3 p) - rl_b μ (μ 3 p)).toNat + 1, by omega, _, _, hup, Or.inl (Or.inr ⟨by rw [hF]; exact Int.le_refl _, by rw [hnx]; omega, hnx.symm, rfl⟩)⟩
theorem rl_PQ (hR : rl_1 μ ν) (hh : sp_th μ (μ 58 0)) : ∀ (j : Nat) (n s : Int), mo_P ν j n s → sp_th μ n ∧ ∃ (e : Nat) (k : Int), sp_Q μ e k n ∧ k ≤ j ∧ k + (s - rl_b μ n) ≤ j := by
  have hp := rl_pp hR hh
  have h29 := (rl_on29 hR).1.mpr hh
  have hJ := rl_J hR
  have hst : ν 1 31 ≤ mo_FS ν (ν 1 30) := by rw [hp.2.1, hp.2.2.1, rl_FS hR.2.1 hh]; exact hp.2.2.2.2.2.2.2.1
  have h4 := hR.1.1.2.2.2.2
  have hb0 : ∀ n, 0 ≤ rl_b μ n := fun n => by unfold rl_b; split <;> omega
  intro j
  induction j with
  | zero =>
    intro n s h
    have hn : n = μ 58 0 := by rw [h.1, hp.2.1]
    have hs : s = μ 58 1 := by rw [h.2, hp.2.2.1]
    refine ⟨by rw [hn]; exact hh, 0, 0, ⟨rfl, hn⟩, by omega, ?_⟩
    unfold rl_b; rw [if_pos hn]; omega
  | succ j ih =>
    intro n s h
    have hP := mo_P_r hJ h29 hst (j + 1) n s h
    have hthn := (rl_t hR.2.1 n).mp hP.1
    refine ⟨hthn, ?_⟩
    obtain ⟨m, t, h1, h2⟩ := h
    obtain ⟨hm, e, k, k1, k2, k3⟩ := ih m t h1
    have hos := rl_os hR.1 hm
    have hF := rl_FS hR.2.1 hm
    have hr := (rl_t hR.2.1 n).mp hP.1
    have hbn := hb0 n
    rcases h2 with (⟨g1, g2, g3⟩ | ⟨g1, g2, g3, g4⟩) | ⟨q, q0, g1, g2, g3⟩
    · subst g2
      exact ⟨e, k, k1, by omega, by omega⟩
    · rw [rl_pl hR.2.1, rl_nx hR.1 hR.2.1 (by omega)] at g3
      have hed : sp_ed μ (sp_pl μ m) n (sp_FS μ m - rl_b μ m + 1) := ⟨⟨hr.1.1, by have := hr.1.2; omega⟩, Or.inr ⟨g3, by rw [hos.2]; rfl⟩⟩
      refine ⟨e + 1, k + (sp_FS μ m - rl_b μ m + 1), ⟨sp_pl μ m, k, _, by rw [hos.2]; exact k1, hos.1, by rw [hos.2]; exact hm, hed, rfl⟩, ?_, ?_⟩
      · rw [hF] at g1; omega
      · rw [hF] at g1; omega
    · have hz : mo_o ν m (22 + q) = mo_z (μ (5 + 5 * m + 4) q) := (rl_row hR.2.1 hm).2.2.2.2.2 q q0.1 (by omega)
      have hn1 : μ (5 + 5 * m + 4) q ≠ -1 := fun h => g1 (by rw [hz, h]; rfl)
      rw [hz, mo_z_ne hn1] at g2
      have hed : sp_ed μ (sp_pl μ m) n 1 := ⟨⟨hr.1.1, by have := hr.1.2; omega⟩, Or.inl ⟨q, q0, by rw [hos.2]; exact g2.symm, rfl⟩⟩
      exact ⟨e + 1, k + 1, ⟨sp_pl μ m, k, 1, by rw [hos.2]; exact k1, hos.1, by rw [hos.2]; exact hm, hed, rfl⟩, by omega, by omega⟩
theorem rl_R_fw (hR : rl_R μ ν) (hm : ∀ a : Int, a ≠ 312 → μ' a = μ a) (hn : ∀ a : Int, a ≠ 4 → ν' a = ν a) : rl_R μ' ν' :=
  ⟨rl_1_c (fun a _ a1 => hm a (by omega)) (fun j _ _ => by rw [hn 1 (by decide)]) hR.1, rl_h_c (fun a _ a1 => hm a (by omega)) (by rw [hn 0 (by decide)]) (fun j _ => by rw [hn 1 (by decide)]) hR.2.1, rl_x_c (fun a _ a1 => hm a (by omega)) (by rw [hn 0 (by decide)]) (hn 2 (by decide)) (hn 3 (by decide)) hR.2.2⟩
set_option maxHeartbeats 1000000 in
theorem ro_fewest {q0 : Int} (hR : rl_R μ ν) (hh : sp_th μ (μ 58 0)) (h1 : (¬ sp_th μ q0 ∧ v = some (rd_I (-1)) ∧ μ' = μ) ∨ (sp_th μ q0 ∧ ∃ r : Int, v = some (rd_I r) ∧ ((r = -6 ∧ ∀ (e : Nat) (k : Int), ¬ sp_Q μ e k q0) ∨ (0 ≤ r ∧ (∃ e, sp_Q μ e r q0) ∧ ∀ (e : Nat) (k : Int), sp_Q μ e k q0 → r ≤ k)) ∧ ∀ a : Int, a ≠ 312 → μ' a = μ a)) (h2 : (¬ mo_t ν q0 ∧ w = some (rd_I (-1)) ∧ ν' = ν) ∨ (mo_t ν q0 ∧ ν 1 29 = 0 ∧ w = some (rd_I (-6)) ∧ ν' = ν) ∨ (mo_t ν q0 ∧ ν 1 29 ≠ 0 ∧ ∃ r : Int, w = some (rd_I r) ∧ ((r = -6 ∧ ∀ (j : Nat) (s : Int), ¬ mo_P ν j q0 s) ∨ (0 ≤ r ∧ (∃ s, mo_P ν r.toNat q0 s) ∧ ∀ (j : Nat) (s : Int), mo_P ν j q0 s → r ≤ j)) ∧ ∀ a : Int, a ≠ 4 → ν' a = ν a)) : w = v ∧ rl_R μ' ν' := by
  have hon := (rl_on29 hR.1).2
  have ht := rl_t hR.1.2.1
  rw [ht] at h2
  rcases h1 with ⟨a, e, m⟩ | ⟨a, r, e, hr, m⟩ <;> rcases h2 with ⟨b, f, n⟩ | ⟨b, c, f, n⟩ | ⟨b, c, r', f, hr', n⟩
  · rw [e, f, m, n]; exact ⟨rfl, hR⟩
  · exact absurd b a
  · exact absurd b a
  · exact absurd a b
  · exact absurd hh (hon.mp c)
  · refine ⟨?_, rl_R_fw hR m n⟩
    rw [e, f]
    congr 2
    rcases hr with ⟨s1, s2⟩ | ⟨s1, ⟨ee, s2⟩, s3⟩ <;> rcases hr' with ⟨t1, t2⟩ | ⟨t1, ⟨ss, t2⟩, t3⟩
    · omega
    · obtain ⟨-, ee, k, g, -⟩ := rl_PQ hR.1 hh _ _ _ t2
      exact absurd g (s2 ee k)
    · obtain ⟨j, -, g⟩ := rl_QP hR.1 hh _ _ _ s2
      exact absurd g (t2 j _)
    · obtain ⟨-, ee, k, g, gk, -⟩ := rl_PQ hR.1 hh _ _ _ t2
      obtain ⟨j, gj, g'⟩ := rl_QP hR.1 hh _ _ _ s2
      have := s3 ee k g
      have := t3 j _ g'
      omega
theorem ro_fewest_n {q0 : Int} (hR : rl_R μ ν) (hh : ¬ sp_th μ (μ 58 0)) (h1 : (¬ sp_th μ q0 ∧ v = some (rd_I (-1)) ∧ μ' = μ) ∨ (sp_th μ q0 ∧ v = some (rd_I (-6)) ∧ μ' = μ)) (h2 : (¬ mo_t ν q0 ∧ w = some (rd_I (-1)) ∧ ν' = ν) ∨ (mo_t ν q0 ∧ ν 1 29 = 0 ∧ w = some (rd_I (-6)) ∧ ν' = ν) ∨ (mo_t ν q0 ∧ ν 1 29 ≠ 0 ∧ ∃ r : Int, w = some (rd_I r) ∧ ((r = -6 ∧ ∀ (j : Nat) (s : Int), ¬ mo_P ν j q0 s) ∨ (0 ≤ r ∧ (∃ s, mo_P ν r.toNat q0 s) ∧ ∀ (j : Nat) (s : Int), mo_P ν j q0 s → r ≤ j)) ∧ ∀ a : Int, a ≠ 4 → ν' a = ν a)) : w = v ∧ rl_R μ' ν' := by
  have hon := (rl_on29 hR.1).2
  have ht := rl_t hR.1.2.1
  rw [ht] at h2
  rcases h1 with ⟨a, e, m⟩ | ⟨a, e, m⟩ <;> rcases h2 with ⟨b, f, n⟩ | ⟨b, c, f, n⟩ | ⟨b, c, r', f, hr', n⟩
  · rw [e, f, m, n]; exact ⟨rfl, hR⟩
  · exact absurd b a
  · exact absurd b a
  · exact absurd a b
  · rw [e, f, m, n]; exact ⟨rfl, hR⟩
  · exact absurd (hon.mpr hh) c
end RF
