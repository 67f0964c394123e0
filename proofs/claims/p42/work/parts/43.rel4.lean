/-! the moves keep the relation -/
section RLM
variable {μ ν : rd_Mem}
theorem rl_cm (hR : rl_1 μ ν) (hh : sp_th μ (μ 58 0)) {n s : Int} (m : Int) (hn : sp_th μ n) (hs : 0 ≤ s ∧ s ≤ sp_FS μ n) : rl_1 (rd_mvt μ n s m) (mo_cm ν n s m) := by
  obtain ⟨-, p1, p2, p3, p4, p5, p6, p7, p8⟩ := rl_pp hR hh
  have hw := hR.1.1
  have hts := hR.1.2.2.2.2.2.1
  have h4 := hw.2.2.2.1
  have h9 := sp_FS9 hw.2.1 hw.2.2.1 hn.1.1 hn.1.2
  have h4' : 0 ≤ ν 1 35 ∧ ν 1 35 ≤ 40 := by rw [p6]; exact h4
  obtain ⟨c0, c1, c2, c3, c4, c5⟩ := rd_mvt_58 μ n s m
  obtain ⟨e30, e31, e34, e33, e35, eo, -⟩ := mo_cm_s h4' n s m
  have hlo : ∀ a : Int, a < 58 → rd_mvt μ n s m a = μ a := fun a ha => rd_mvt_lo μ n s m (by omega)
  refine rl_show (fun a _ a1 => hlo a a1) (fun j hj => eo j (by omega) (by omega) (by omega) (by omega) (by omega)) (rd_mvt_wf hw n m (by omega)) (rd_mvt_ts hw hts n s m) (Or.inr ⟨?_, ?_⟩) hR
  · rw [eo 29 (by omega) (by omega) (by omega) (by omega) (by omega)]; exact (rl_on29 hR).1.mpr hh
  · unfold rl_p
    rw [c0, c1, c2, c3, c4, c5, e30, e31, e33, e34, e35, p6, rl_th_c (fun a _ a1 => hlo a (by omega)), rl_FS_c (fun a _ a1 => hlo a (by omega)) hn.1.1 hn.1.2]
    refine ⟨hn, rfl, rfl, by rw [eo 32 (by omega) (by omega) (by omega) (by omega) (by omega)]; exact p3, rfl, rfl, rfl, hs.2, fun q q0 q1 => ?_⟩
    have k1 := mo_cm_t h4' n s m (q := q) (c := 0) q0 (by rw [p6]; exact q1) (by omega)
    have k2 := mo_cm_t h4' n s m (q := q) (c := 1) q0 (by rw [p6]; exact q1) (by omega)
    have k3 := mo_cm_t h4' n s m (q := q) (c := 2) q0 (by rw [p6]; exact q1) (by omega)
    have l1 := rd_mvt_t h4 n s m (q := q) (c := 0) q0 q1 (by omega)
    have l2 := rd_mvt_t h4 n s m (q := q) (c := 1) q0 q1 (by omega)
    have l3 := rd_mvt_t h4 n s m (q := q) (c := 2) q0 q1 (by omega)
    rw [show (59 : Int) + 0 = 59 from rfl] at l1
    rw [show (59 : Int) + 1 = 60 from rfl] at l2
    rw [show (59 : Int) + 2 = 61 from rfl] at l3
    rw [Int.add_zero] at k1
    rw [k1, k2, k3, l1, l2, l3, p6, p1, p2, p5]
    by_cases h40 : μ 58 5 = 40
    · simp only [if_pos h40] at q1 ⊢
      by_cases hq : q = 39
      · simp [hq]
      · simp only [if_neg hq]
        have := p8 (q + 1) (by omega) (by omega)
        rw [Int.add_zero]; exact this
    · simp only [if_neg h40] at q1 ⊢
      by_cases hq : q = μ 58 5
      · simp [hq]
      · simp only [if_neg hq]
        have := p8 q q0 (by omega)
        rw [Int.add_zero]; exact this
theorem rl_gf (hR : rl_1 μ ν) (hh : sp_th μ (μ 58 0)) (hn : sp_nn μ ≠ -1) : rl_1 (rd_gf μ) (mo_fw ν) ∧ sp_th (rd_gf μ) (rd_gf μ 58 0) := by
  refine ⟨?_, (rd_gf_wf hR.1.1 hh hn).2⟩
  have hth := sp_nn_th hh hn
  obtain ⟨-, p1, p2, p3, p4, p5, p6, p7, p8⟩ := rl_pp hR hh
  have hpo := hR.1.2.2.2.1 _ hh
  have hst := hR.1.1.2.2.2.2
  have f0 : 0 ≤ sp_FS μ (sp_nn μ) := sp_fs0 _ _ _
  unfold rd_gf mo_fw
  rw [p1, p2, p5, rl_FS hR.2.1 hh, rl_pl hR.2.1, rl_nx hR.1 hR.2.1 (by omega)]
  by_cases hc : μ 58 1 < sp_FS μ (μ 58 0)
  · rw [sp_ite_t hc, if_pos hc]
    have e : sp_nn μ = μ 58 0 := by unfold sp_nn; exact sp_ift hc _ _
    rw [e]
    exact rl_cm hR hh _ hh (by omega)
  · rw [sp_ite_f hc, if_neg hc]
    have e : sp_nn μ = sp_next μ (sp_pl μ (μ 58 0) + 1) := by unfold sp_nn; exact sp_iff hc _ _
    rw [← e]
    exact rl_cm hR hh _ hth (by omega)
theorem rl_gb (hR : rl_1 μ ν) (hh : sp_th μ (μ 58 0)) (hb : sp_bp μ ≠ -1) : rl_1 (rd_gb μ) (mo_bk ν) ∧ sp_th (rd_gb μ) (rd_gb μ 58 0) := by
  have hbe := rl_bp hR hh
  have hw := hR.1.1
  have hts := hR.1.2.2.2.2.2.1
  obtain ⟨-, p1, p2, p3, p4, p5, p6, p7, p8⟩ := rl_pp hR hh
  obtain ⟨⟨b0, b1⟩, b3⟩ := sp_bp_r hb hw.2.2.2.1.1
  obtain ⟨c0, c1, c2, c3, c4, c5, co⟩ := rd_gb_s μ
  obtain ⟨e30, e31, e33, e34, e35⟩ := mo_bk_s (μ := ν)
  obtain ⟨eo, -⟩ := mo_bk_o (μ := ν)
  obtain ⟨g1, g2, g3⟩ := p8 _ b0 b1
  rw [hbe] at e30 e31 e34 e35
  rw [g1] at e30 e31
  rw [g2, rl_FS hR.2.1 b3.1] at e31
  rw [g3] at e34
  have hlo : ∀ a : Int, a < 58 → rd_gb μ a = μ a := fun a ha => co a (by omega)
  have hth2 : sp_th (rd_gb μ) (rd_gb μ 58 0) := by rw [c0, rl_th_c (fun a _ a1 => hlo a (by omega))]; exact b3.1
  refine ⟨rl_show (fun a _ a1 => hlo a a1) (fun j hj => eo j (by omega) (by omega) (by omega) (by omega) (by omega)) (rd_gb_wf hw hts hb).1 (rd_gb_wf hw hts hb).2 (Or.inr ⟨?_, ?_⟩) hR, hth2⟩
  · rw [eo 29 (by omega) (by omega) (by omega) (by omega) (by omega)]; exact (rl_on29 hR).1.mpr hh
  · unfold rl_p
    rw [c0, c1, c2, c3, c4, c5, e30, e31, e33, e34, e35, rl_th_c (fun a _ a1 => hlo a (by omega)), rl_FS_c (fun a _ a1 => hlo a (by omega)) b3.1.1.1 b3.1.1.2, co 59 (by omega), co 60 (by omega), co 61 (by omega)]
    refine ⟨b3.1, rfl, by (repeat' split) <;> omega, by rw [eo 32 (by omega) (by omega) (by omega) (by omega) (by omega)]; exact p3, rfl, rfl, rfl, by omega, fun q q0 q1 => ?_⟩
    rw [eo _ (by omega) (by omega) (by omega) (by omega) (by omega), eo _ (by omega) (by omega) (by omega) (by omega) (by omega), eo _ (by omega) (by omega) (by omega) (by omega) (by omega)]
    exact p8 q q0 (by omega)
theorem rl_t0 (hR : rl_1 μ ν) (hh : sp_th μ (μ 58 0)) : rl_1 (rd_t0 μ) (mo_t0 ν) ∧ sp_th (rd_t0 μ) (rd_t0 μ 58 0) := by
  obtain ⟨-, p1, p2, p3, p4, p5, p6, p7, p8⟩ := rl_pp hR hh
  have hw := hR.1.1
  have hts := hR.1.2.2.2.2.2.1
  have hlo : ∀ a : Int, a ≠ 58 → rd_t0 μ a = μ a := fun a ha => rd_t0_lo μ ha
  have eo : ∀ j : Int, j ≠ 32 → j ≠ 33 → mo_t0 ν 1 j = ν 1 j := mo_t0_s
  have c0 : rd_t0 μ 58 0 = μ 58 0 := by simp [rd_t0, rd_u]
  have c1 : rd_t0 μ 58 1 = μ 58 1 := by simp [rd_t0, rd_u]
  have c2 : rd_t0 μ 58 2 = μ 58 2 := by simp [rd_t0, rd_u]
  have c3 : rd_t0 μ 58 3 = rd_w (μ 58 3 + 1) := by simp [rd_t0, rd_u]
  have c4 : rd_t0 μ 58 4 = rd_w (μ 58 4 + 1) := by simp [rd_t0, rd_u]
  have c5 : rd_t0 μ 58 5 = μ 58 5 := by simp [rd_t0, rd_u]
  have e2 : mo_t0 ν 1 32 = rd_w (ν 1 32 + 1) := by simp [mo_t0, rd_u]
  have e3 : mo_t0 ν 1 33 = rd_w (ν 1 33 + 1) := by simp [mo_t0, rd_u]
  obtain ⟨w1, w2⟩ := rd_t0_wf hw hh
  refine ⟨rl_show (fun a _ a1 => hlo a (by omega)) (fun j hj => eo j (by omega) (by omega)) w1 (rd_t0_ts hts) (Or.inr ⟨?_, ?_⟩) hR, w2⟩
  · rw [eo 29 (by omega) (by omega)]; exact (rl_on29 hR).1.mpr hh
  · unfold rl_p
    rw [c0, c1, c2, c3, c4, c5, e2, e3, p3, p4, rl_th_c (fun a _ a1 => hlo a (by omega)), rl_FS_c (fun a _ a1 => hlo a (by omega)) hh.1.1 hh.1.2, hlo 59 (by omega), hlo 60 (by omega), hlo 61 (by omega), eo 30 (by omega) (by omega), eo 31 (by omega) (by omega), eo 34 (by omega) (by omega), eo 35 (by omega) (by omega)]
    exact ⟨hh, p1, p2, rfl, rfl, p5, p6, p7, fun q q0 q1 => by rw [eo _ (by omega) (by omega), eo _ (by omega) (by omega), eo _ (by omega) (by omega)]; exact p8 q q0 q1⟩
theorem rl_mc (hR : rl_1 μ ν) (hh : sp_th μ (μ 58 0)) : mo_mc ν ↔ sp_mv μ := by
  have hp := rl_pp hR hh
  unfold mo_mc sp_mv
  rw [rl_ov hR hh, rl_cf hR hh]
  have e : mo_pz ν ↔ sp_pz μ := by
    unfold mo_pz sp_pz
    rw [hp.2.1, hp.2.2.2.2.1, (rl_row hR.2.1 hh).2.2.1]
  rw [e]
theorem rl_t1 (hR : rl_1 μ ν) (hh : sp_th μ (μ 58 0)) : (rl_1 (rd_t1 μ) (mo_t1 ν) ∧ sp_th (rd_t1 μ) (rd_t1 μ 58 0)) ∧ mo_n1 ν = sp_t1 μ := by
  obtain ⟨g1, g2⟩ := rl_t0 hR hh
  have hm := rl_mc g1 g2
  unfold rd_t1 mo_t1 mo_n1 sp_t1
  by_cases h : sp_mv (rd_t0 μ)
  · rw [sp_ite_t h, sp_ite_t (hm.mpr h), sp_ift h, sp_ift (hm.mpr h)]; exact ⟨rl_gf g1 g2 h.2.2, rfl⟩
  · rw [sp_ite_f h, sp_ite_f (fun e => h (hm.mp e)), sp_iff h, sp_iff (fun e => h (hm.mp e))]; exact ⟨⟨g1, g2⟩, rfl⟩
theorem rl_ps (n : Nat) : ∀ {μ ν : rd_Mem}, rl_1 μ ν → sp_th μ (μ 58 0) → (rl_1 (rd_ps n μ) (mo_ps n ν) ∧ sp_th (rd_ps n μ) (rd_ps n μ 58 0)) ∧ mo_pn n ν = sp_ps n μ := by
  induction n with
  | zero => intro μ ν hR hh; exact ⟨⟨hR, hh⟩, rfl⟩
  | succ n ih =>
    intro μ ν hR hh
    have ho := rl_ov hR hh
    by_cases h : sp_over μ
    · rw [(rd_ps_y (Or.inr h)).1, (rd_ps_y (Or.inr h)).2, (mo_ps_y (Or.inr (ho.mpr h))).1, (mo_ps_y (Or.inr (ho.mpr h))).2]; exact ⟨⟨hR, hh⟩, rfl⟩
    · have h' : ¬ mo_ov ν := fun e => h (ho.mp e)
      rw [rd_ps_n (Nat.succ_pos n) h, sp_ps_n (Nat.succ_pos n) h, mo_ps_n (Nat.succ_pos n) h', mo_pn_n (Nat.succ_pos n) h']
      obtain ⟨⟨g1, g2⟩, g3⟩ := rl_t1 hR hh
      obtain ⟨k1, k2⟩ := ih g1 g2
      exact ⟨k1, by rw [g3]; exact congrArg _ k2⟩
theorem rl_can (hR : rl_1 μ ν) {c q : Int} (hq : c = 107 → 0 ≤ q ∧ q ≤ 9) : mo_can ν c q ↔ sp_can μ c q := by
  unfold mo_can sp_can
  rw [rl_on hR]
  constructor
  · rintro ⟨⟨h1, h2⟩, h3, h4, h5⟩
    refine ⟨h1, h2, fun e => (rl_cf hR h1).mp (h4 e), fun e => by rw [← rl_bp hR h1]; exact h3 e, fun e => ?_⟩
    have := h5 e
    rw [rl_tg hR h1 (hq e)] at this
    intro e2; rw [e2] at this; exact this rfl
  · rintro ⟨h1, h2, h3, h4, h5⟩
    refine ⟨⟨h1, h2⟩, fun e => by rw [rl_bp hR h1]; exact h4 e, fun e => (rl_cf hR h1).mpr (h3 e), fun e => ?_⟩
    have hs := h5 e
    rw [rl_tg hR h1 (hq e), mo_z_ne hs]
    have hg := ((hR.1.2.2.2.2.2.2.2 _ h1.1.1 (by have := h1.1.2; omega)).1 h1).2.2.1 q (hq e).1 (hq e).2
    unfold sp_tg at hs ⊢
    rw [sp_ift (hq e)] at hs ⊢
    have := (hg.resolve_left hs).1
    omega
theorem rl_md (hR : rl_1 μ ν) {c q : Int} (hq : c = 107 → 0 ≤ q ∧ q ≤ 9) (hc : sp_can μ c q) : rl_1 (rd_mk μ c q) (mo_md ν c q) ∧ sp_th (rd_mk μ c q) (rd_mk μ c q 58 0) := by
  have hh := hc.1
  unfold rd_mk mo_md
  by_cases h1 : c = 98
  · rw [if_neg (by omega), if_pos h1, if_pos h1]; exact rl_gb hR hh (hc.2.2.2.1 h1)
  · rw [if_neg h1, if_neg h1]
    by_cases h2 : c = 102
    · rw [if_pos h2, if_pos h2]; exact rl_gf hR hh (hc.2.2.1 h2)
    · rw [if_neg h2, if_neg h2]
      by_cases h3 : c = 107
      · rw [if_pos h3, if_pos h3, rl_tg hR hh (hq h3)]
        have hs := hc.2.2.2.2 h3
        have hth : sp_th μ (sp_tg μ q) := by
          have hg := ((hR.1.2.2.2.2.2.2.2 _ hh.1.1 (by have := hh.1.2; omega)).1 hh).2.2.1 q (hq h3).1 (hq h3).2
          unfold sp_tg at hs ⊢
          rw [sp_ift (hq h3)] at hs ⊢
          exact hg.resolve_left hs
        rw [mo_z_ne hs]
        have f0 : 0 ≤ sp_FS μ (sp_tg μ q) := sp_fs0 _ _ _
        refine ⟨rl_cm hR hh 1 hth ⟨Int.le_refl _, f0⟩, ?_⟩
        rw [(rd_mvt_58 μ _ _ _).1, rl_th_c (fun a _ a1 => rd_mvt_lo μ _ _ _ (by omega))]
        exact hth
      · rw [if_neg h3, if_neg h3]; exact (rl_ps q.toNat hR hh).1
end RLM

