noncomputable def sp_ite {α : Type} (c : Prop) (a b : α) : α := @ite α c (Classical.propDecidable c) a b
theorem sp_ite_t {α : Type} {c : Prop} (h : c) (a b : α) : sp_ite c a b = a := by unfold sp_ite; exact if_pos h
theorem sp_ite_f {α : Type} {c : Prop} (h : ¬ c) (a b : α) : sp_ite c a b = b := by unfold sp_ite; exact if_neg h
def sp_over (μ : rd_Mem) : Prop := 0 < μ 1 0 ∧ μ 1 0 ≤ μ 58 3
noncomputable def sp_nn (μ : rd_Mem) : Int := sp_if (μ 58 1 < sp_FS μ (μ 58 0)) (μ 58 0) (sp_next μ (sp_pl μ (μ 58 0) + 1))
noncomputable def rd_gf (μ : rd_Mem) : rd_Mem := sp_ite (μ 58 1 < sp_FS μ (μ 58 0)) (rd_mvt μ (sp_nn μ) (μ 58 1 + 1) (μ 58 2)) (rd_mvt μ (sp_nn μ) 0 0)
noncomputable def sp_tg (μ : rd_Mem) (q : Int) : Int := sp_if (0 ≤ q ∧ q ≤ 9) (μ (5 + 5 * μ 58 0 + 4) q) (-1)
def sp_bpp (μ : rd_Mem) (i : Int) : Prop := sp_th μ (μ 59 i) ∧ (μ 61 i = 1 ∨ μ (5 + 5 * μ 59 i) 1 = 0)
noncomputable def sp_bp (μ : rd_Mem) : Int := sp_fb (sp_bpp μ) (μ 58 5).toNat
noncomputable def rd_gb (μ : rd_Mem) : rd_Mem := rd_u (rd_ret μ (sp_bp μ)) 58 1 (min (μ 60 (sp_bp μ)) (sp_FS μ (μ 59 (sp_bp μ))))
/-- what the walks ask of the present state -/
def sp_wf (μ : rd_Mem) : Prop := sp_cnt μ ∧ sp_its μ ∧ sp_fi μ ∧ (0 ≤ μ 58 5 ∧ μ 58 5 ≤ 40) ∧ (0 ≤ μ 58 1 ∧ μ 58 1 ≤ 9)
theorem sp_pl_r {μ : rd_Mem} (hc : sp_cnt μ) (x : Int) : -1 ≤ sp_pl μ x ∧ sp_pl μ x < μ 2 0 := by
  have h := sp_ff_spec (fun i => μ 3 i = x) (μ 2 0).toNat 0
  have h1 := hc.1
  unfold sp_pl
  rcases h with ⟨h, -⟩ | ⟨h, -⟩
  · omega
  · omega
def rd_t0 (μ : rd_Mem) : rd_Mem := rd_u (rd_u μ 58 3 (rd_w (μ 58 3 + 1))) 58 4 (rd_w (μ 58 4 + 1))
def sp_pz (μ : rd_Mem) : Prop := 0 < μ (5 + 5 * μ 58 0) 2 ∧ μ (5 + 5 * μ 58 0) 2 ≤ μ 58 4
def sp_mv (μ : rd_Mem) : Prop := ¬ sp_over μ ∧ sp_pz μ ∧ sp_nn μ ≠ -1
/-- one second, if the presentation isn't over -/
noncomputable def rd_t1 (μ : rd_Mem) : rd_Mem := sp_ite (sp_mv (rd_t0 μ)) (rd_gf (rd_t0 μ)) (rd_t0 μ)
noncomputable def sp_t1 (μ : rd_Mem) : Int := sp_if (sp_mv (rd_t0 μ)) 1 0
noncomputable def rd_ps : Nat → rd_Mem → rd_Mem
  | 0, μ => μ
  | n + 1, μ => sp_ite (sp_over μ) μ (rd_ps n (rd_t1 μ))
noncomputable def sp_ps : Nat → rd_Mem → Int
  | 0, _ => 0
  | n + 1, μ => sp_if (sp_over μ) 0 (sp_t1 μ + sp_ps n (rd_t1 μ))
theorem sp_th_c {μ ν : rd_Mem} (h : ∀ a, a < 55 → ν a = μ a) (n : Int) : sp_th ν n ↔ sp_th μ n := by
  unfold sp_th
  constructor
  · rintro ⟨h1, h2⟩; exact ⟨h1, by rw [← h _ (by omega)]; exact h2⟩
  · rintro ⟨h1, h2⟩; exact ⟨h1, by rw [h _ (by omega)]; exact h2⟩
theorem sp_FS_c {μ ν : rd_Mem} (h : ∀ a, a < 55 → ν a = μ a) {n : Int} (h1 : n < 10) : sp_FS ν n = sp_FS μ n := by
  unfold sp_FS
  rw [h _ (by omega), h _ (by omega), h _ (by omega)]
theorem sp_wf_c {μ ν : rd_Mem} (h : ∀ a, a < 55 → ν a = μ a) (hw : sp_wf μ) (h5 : 0 ≤ ν 58 5 ∧ ν 58 5 ≤ 40) (h1 : 0 ≤ ν 58 1 ∧ ν 58 1 ≤ 9) : sp_wf ν := by
  obtain ⟨a1, a2, a3, -, -⟩ := hw
  refine ⟨?_, fun i i0 i1 => ?_, fun i i0 i1 q q0 q6 q7 => ?_, h5, h1⟩
  · unfold sp_cnt; rw [h _ (by omega)]; exact a1
  · rw [h _ (by omega)]; exact a2 i i0 i1
  · rw [h _ (by omega)]; rw [h _ (by omega)] at q7; exact a3 i i0 i1 q q0 q6 q7
theorem rd_mvt_lo (μ : rd_Mem) (n s m : Int) {a : Int} (h : a < 58 ∨ 61 < a) : rd_mvt μ n s m a = μ a := by
  unfold rd_mvt rd_mv
  rw [rd_u_ne _ _ _ (by omega), rd_u_ne _ _ _ (by omega), rd_u_ne _ _ _ (by omega), rd_u_ne _ _ _ (by omega), rd_u_ne _ _ _ (by omega), rd_u_ne _ _ _ (by omega), rd_u_ne _ _ _ (by omega), rd_u_ne _ _ _ (by omega)]
  split
  · funext b; unfold rd_drk; rw [if_neg (by omega), if_neg (by omega)]
  · rfl
theorem rd_mvt_58 (μ : rd_Mem) (n s m : Int) : rd_mvt μ n s m 58 0 = n ∧ rd_mvt μ n s m 58 1 = s ∧ rd_mvt μ n s m 58 2 = m ∧ rd_mvt μ n s m 58 3 = μ 58 3 ∧ rd_mvt μ n s m 58 4 = 0 ∧ rd_mvt μ n s m 58 5 = (if μ 58 5 = 40 then 40 else μ 58 5 + 1) := by
  unfold rd_mvt rd_mv
  refine ⟨by simp [rd_u], by simp [rd_u], by simp [rd_u], ?_, by simp [rd_u], ?_⟩
  · simp [rd_u]; split
    · simp [rd_drk]
    · rfl
  · simp [rd_u]; split
    · simp [rd_drk]
    · rfl
theorem sp_nn_th {μ : rd_Mem} (hth : sp_th μ (μ 58 0)) (hn : sp_nn μ ≠ -1) : sp_th μ (sp_nn μ) := by
  unfold sp_nn at hn ⊢
  by_cases h : μ 58 1 < sp_FS μ (μ 58 0)
  · rw [sp_ift h]; exact hth
  · rw [sp_iff h] at hn ⊢
    unfold sp_next at hn ⊢
    rcases sp_nx_spec (μ 3) (sp_sh μ) (μ 2 0 - (sp_pl μ (μ 58 0) + 1)).toNat (sp_pl μ (μ 58 0) + 1) with ⟨h1, -⟩ | ⟨k, -, h2, h3, -⟩
    · exact absurd h1 hn
    · rw [h2]; exact h3.1
theorem rd_gf_lo (μ : rd_Mem) {a : Int} (h : a < 58 ∨ 61 < a) : rd_gf μ a = μ a := by
  unfold rd_gf
  by_cases hc : μ 58 1 < sp_FS μ (μ 58 0)
  · rw [sp_ite_t hc]; exact rd_mvt_lo μ _ _ _ h
  · rw [sp_ite_f hc]; exact rd_mvt_lo μ _ _ _ h
theorem rd_gf_wf {μ : rd_Mem} (hw : sp_wf μ) (hth : sp_th μ (μ 58 0)) (hn : sp_nn μ ≠ -1) : sp_wf (rd_gf μ) ∧ sp_th (rd_gf μ) (rd_gf μ 58 0) := by
  have hlo : ∀ a, a < 55 → rd_gf μ a = μ a := fun a ha => rd_gf_lo μ (by omega)
  have h0 : rd_gf μ 58 0 = sp_nn μ := by
    unfold rd_gf
    by_cases hc : μ 58 1 < sp_FS μ (μ 58 0)
    · rw [sp_ite_t hc]; exact (rd_mvt_58 μ _ _ _).1
    · rw [sp_ite_f hc]; exact (rd_mvt_58 μ _ _ _).1
  have h5 : rd_gf μ 58 5 = (if μ 58 5 = 40 then 40 else μ 58 5 + 1) := by
    unfold rd_gf
    by_cases hc : μ 58 1 < sp_FS μ (μ 58 0)
    · rw [sp_ite_t hc]; exact (rd_mvt_58 μ _ _ _).2.2.2.2.2
    · rw [sp_ite_f hc]; exact (rd_mvt_58 μ _ _ _).2.2.2.2.2
  have h9 := sp_FS9 hw.2.1 hw.2.2.1 hth.1.1 hth.1.2
  have h1 : 0 ≤ rd_gf μ 58 1 ∧ rd_gf μ 58 1 ≤ 9 := by
    have hs := hw.2.2.2.2
    unfold rd_gf
    by_cases hc : μ 58 1 < sp_FS μ (μ 58 0)
    · rw [sp_ite_t hc, (rd_mvt_58 μ _ _ _).2.1]; omega
    · rw [sp_ite_f hc, (rd_mvt_58 μ _ _ _).2.1]; omega
  have h55 := hw.2.2.2.1
  refine ⟨sp_wf_c hlo hw (by rw [h5]; split <;> omega) h1, ?_⟩
  rw [h0, sp_th_c hlo]
  exact sp_nn_th hth hn
theorem rd_t0_lo (μ : rd_Mem) {a : Int} (h : a ≠ 58) : rd_t0 μ a = μ a := by
  unfold rd_t0; rw [rd_u_ne _ _ _ h, rd_u_ne _ _ _ h]
theorem rd_t0_wf {μ : rd_Mem} (hw : sp_wf μ) (hth : sp_th μ (μ 58 0)) : sp_wf (rd_t0 μ) ∧ sp_th (rd_t0 μ) (rd_t0 μ 58 0) := by
  have hlo : ∀ a, a < 55 → rd_t0 μ a = μ a := fun a ha => rd_t0_lo μ (by omega)
  have e5 : rd_t0 μ 58 5 = μ 58 5 := by simp [rd_t0, rd_u]
  have e1 : rd_t0 μ 58 1 = μ 58 1 := by simp [rd_t0, rd_u]
  have e0 : rd_t0 μ 58 0 = μ 58 0 := by simp [rd_t0, rd_u]
  refine ⟨sp_wf_c hlo hw (by rw [e5]; exact hw.2.2.2.1) (by rw [e1]; exact hw.2.2.2.2), ?_⟩
  rw [e0, sp_th_c hlo]; exact hth
theorem rd_t1_wf {μ : rd_Mem} (hw : sp_wf μ) (hth : sp_th μ (μ 58 0)) : sp_wf (rd_t1 μ) ∧ sp_th (rd_t1 μ) (rd_t1 μ 58 0) := by
  obtain ⟨h1, h2⟩ := rd_t0_wf hw hth
  unfold rd_t1
  by_cases h : sp_mv (rd_t0 μ)
  · rw [sp_ite_t h]; exact rd_gf_wf h1 h2 h.2.2
  · rw [sp_ite_f h]; exact ⟨h1, h2⟩
theorem sp_t1_r (μ : rd_Mem) : 0 ≤ sp_t1 μ ∧ sp_t1 μ ≤ 1 := by
  unfold sp_t1
  by_cases h : sp_mv (rd_t0 μ)
  · rw [sp_ift h]; omega
  · rw [sp_iff h]; omega
theorem sp_ps_r (n : Nat) (μ : rd_Mem) : 0 ≤ sp_ps n μ ∧ sp_ps n μ ≤ n := by
  induction n generalizing μ with
  | zero => simp [sp_ps]
  | succ n ih =>
    unfold sp_ps
    have h1 := ih (rd_t1 μ)
    have h2 := sp_t1_r μ
    by_cases h : sp_over μ
    · rw [sp_ift h]; omega
    · rw [sp_iff h]; omega
/-- what a move may be: its letter and number -/
def sp_can (μ : rd_Mem) (c q : Int) : Prop := sp_th μ (μ 58 0) ∧ ¬ sp_over μ ∧ (c = 102 → sp_nn μ ≠ -1) ∧ (c = 98 → sp_bp μ ≠ -1) ∧ (c = 107 → sp_tg μ q ≠ -1)
noncomputable def rd_mk (μ : rd_Mem) (c q : Int) : rd_Mem := if c = 102 then rd_gf μ else if c = 98 then rd_gb μ else if c = 107 then rd_mvt μ (sp_tg μ q) 0 1 else rd_ps q.toNat μ
theorem sp_bp_r {μ : rd_Mem} (h : sp_bp μ ≠ -1) (h5 : 0 ≤ μ 58 5) : (0 ≤ sp_bp μ ∧ sp_bp μ < μ 58 5) ∧ sp_bpp μ (sp_bp μ) := by
  unfold sp_bp at h ⊢
  rcases sp_fb_spec (sp_bpp μ) (μ 58 5).toNat with ⟨h1, -⟩ | ⟨h1, h2, -⟩
  · exact absurd h1 h
  · exact ⟨by omega, h2⟩
set_option maxHeartbeats 4000000 in
set_option maxRecDepth 100000 in
theorem c_X8_here {l : Launch} {G : rd_G} {r : Nat} {μ : rd_Mem}  : rd_M l G rd_kc 313 r yX8_here cX8_here 1 (some (.object "RevealDeck$Slide")) (rd_rm 1 22) [rd_R 1] μ (fun v μ' => (sp_th μ (μ 58 0) ∧ v = some (rd_R (5 + 5 * μ 58 0)) ∧ μ' = μ) ∨ (¬ sp_th μ (μ 58 0) ∧ v = some rd_N ∧ μ' = μ)) := by
  refine rd_enter (by decide +kernel) (Nat.le_of_ble_eq_true rfl) [rd_R 1] rfl (fun p e s m args below meth c C => ?_)
  refine rd_W.rng (fun hM hL _ => ?_)
  refine rd_aload_n C dX8_here_0 rfl ?_
  refine rd_get C rd_g8_1 rf_X8_12 dX8_here_1 rd_b1 rd_k1 (x := rd_R (2)) rfl (fun _ => trivial) ?_
  refine rd_aload_n C dX8_here_4 rfl ?_
  refine rd_get C rd_g8_3 rf_X8_28 dX8_here_5 rd_b1 rd_k1 (x := rd_R (58)) rfl (fun _ => trivial) ?_
  refine rd_get C rd_g6_0 rf_X8_46 dX8_here_8 rd_b58 rd_k58 (x := rd_I (μ 58 0)) rfl (fun h => h _ _) ?_
  refine rd_callV C (c_X0_find) rm_X8_49 ri_X0_find rs_X0_find rc_X0_find rz_X0 ⟨rp_X0_find, rfl, rfl, by decide, by decide⟩ rfl rd_kcl0 dX8_here_11 rd_b2 rd_k2 rfl (Nat.le_of_ble_eq_true rfl) (fun v1 w1 hq => ?_)
  rcases hq with ⟨hw_14, hv1, hm1⟩ | ⟨hw_14, hv1, hm1⟩
  · rw [hv1, hm1]; clear hv1 hm1 v1 w1
    exact rd_aret C dX8_here_14 (Or.inl ⟨hw_14, rfl, rfl⟩)
  · rw [hv1, hm1]; clear hv1 hm1 v1 w1
    exact rd_aret C dX8_here_14 (Or.inr ⟨hw_14, rfl, rfl⟩)
set_option maxHeartbeats 4000000 in
set_option maxRecDepth 100000 in
theorem c_X8_isOver {l : Launch} {G : rd_G} {r : Nat} {μ : rd_Mem}  : rd_M l G rd_kc 313 r yX8_isOver cX8_isOver 1 (some .boolean) (rd_rm 0 0) [rd_R 1] μ (fun v μ' => (sp_over μ ∧ v = some (rd_I 1) ∧ μ' = μ) ∨ (¬ sp_over μ ∧ v = some (rd_I 0) ∧ μ' = μ)) := by
  refine rd_enter (by decide +kernel) (Nat.le_of_ble_eq_true rfl) [rd_R 1] rfl (fun p e s m args below meth c C => ?_)
  refine rd_W.rng (fun hM hL _ => ?_)
  refine rd_aload_n C dX8_isOver_0 rfl ?_
  refine rd_get C rd_g8_0 rf_X8_32 dX8_isOver_1 rd_b1 rd_k1 (x := rd_I (μ 1 0)) rfl (fun h => h _ _) ?_
  refine rd_if_le C dX8_isOver_4 (tgt := 25) (by decide) (fun h_4 => ?_) (fun h_4 => ?_)
  · refine rd_iconst C dX8_isOver_25 (n := 0) ⟨by decide, by decide⟩ ?_
    exact rd_zret C dX8_isOver_26 (by omega) (by first | exact Or.inl ⟨⟨by omega, by omega⟩, rfl, rfl⟩ | exact Or.inr ⟨(fun h => by have h1 := h.1; have h2 := h.2; omega), rfl, rfl⟩)
  · refine rd_aload_n C dX8_isOver_7 rfl ?_
    refine rd_get C rd_g8_3 rf_X8_28 dX8_isOver_8 rd_b1 rd_k1 (x := rd_R (58)) rfl (fun _ => trivial) ?_
    refine rd_get C rd_g6_3 rf_X8_53 dX8_isOver_11 rd_b58 rd_k58 (x := rd_I (μ 58 3)) rfl (fun h => h _ _) ?_
    refine rd_aload_n C dX8_isOver_14 rfl ?_
    refine rd_get C rd_g8_0 rf_X8_32 dX8_isOver_15 rd_b1 rd_k1 (x := rd_I (μ 1 0)) rfl (fun h => h _ _) ?_
    refine rd_icmp_lt C dX8_isOver_18 (tgt := 25) (by decide) (fun h_18 => ?_) (fun h_18 => ?_)
    · refine rd_iconst C dX8_isOver_25 (n := 0) ⟨by decide, by decide⟩ ?_
      exact rd_zret C dX8_isOver_26 (by omega) (by first | exact Or.inl ⟨⟨by omega, by omega⟩, rfl, rfl⟩ | exact Or.inr ⟨(fun h => by have h1 := h.1; have h2 := h.2; omega), rfl, rfl⟩)
    · refine rd_iconst C dX8_isOver_21 (n := 1) ⟨by decide, by decide⟩ ?_
      refine rd_goto C dX8_isOver_22 (tgt := 26) (by decide) ?_
      exact rd_zret C dX8_isOver_26 (by omega) (by first | exact Or.inl ⟨⟨by omega, by omega⟩, rfl, rfl⟩ | exact Or.inr ⟨(fun h => by have h1 := h.1; have h2 := h.2; omega), rfl, rfl⟩)
set_option maxHeartbeats 4000000 in
set_option maxRecDepth 100000 in
theorem c_X8_nextNumber {l : Launch} {G : rd_G} {r : Nat} {μ : rd_Mem} (hw : sp_wf μ) (hth : sp_th μ (μ 58 0)) : rd_M l G rd_kc 313 r yX8_nextNumber cX8_nextNumber 2 (some .int) (rd_rm 2 62) [rd_R 1] μ (fun v μ' => v = some (rd_I (sp_nn μ)) ∧ μ' = μ) := by
  refine rd_enter (by decide +kernel) (Nat.le_of_ble_eq_true rfl) [rd_R 1, rd_J] rfl (fun p e s m args below meth c C => ?_)
  refine rd_W.rng (fun hM hL _ => ?_)
  refine rd_aload_n C dX8_nextNumber_0 rfl ?_
  refine rd_callV C (c_X8_here) rm_X8_56 ri_X8_here rs_X8_here rc_X8_here rz_X8 ⟨rp_X8_here, rfl, rfl, by decide, by decide⟩ rfl rd_kcl8 dX8_nextNumber_1 rd_b1 rd_k1 rfl (Nat.le_of_ble_eq_true rfl) (fun v1 w1 hq => ?_)
  rcases hq with ⟨hw_4, hv1, hm1⟩ | ⟨hw_4, hv1, hm1⟩
  rotate_left
  · exact absurd hth hw_4
  rw [hv1, hm1]; clear hv1 hm1 v1 w1
  have hS_hw_4 := rd_sl1 hw_4.1.1 hw_4.1.2
  refine rd_astore_n C dX8_nextNumber_4 (by decide) (L' := [rd_R 1, rd_R (5 + 5 * μ 58 0)]) rfl ?_
  refine rd_aload_n C dX8_nextNumber_5 rfl ?_
  refine rd_ifnonnull_r C dX8_nextNumber_6 (tgt := 11) (by decide) ?_
  refine rd_aload_n C dX8_nextNumber_11 rfl ?_
  refine rd_get C rd_g8_3 rf_X8_28 dX8_nextNumber_12 rd_b1 rd_k1 (x := rd_R (58)) rfl (fun _ => trivial) ?_
  refine rd_get C rd_g6_1 rf_X8_90 dX8_nextNumber_15 rd_b58 rd_k58 (x := rd_I (μ 58 1)) rfl (fun h => h _ _) ?_
  refine rd_aload_n C dX8_nextNumber_18 rfl ?_
  refine rd_callV C (c_X7_finalStep hS_hw_4 (hw.2.1 _ hth.1.1 hth.1.2).1 (hw.2.1 _ hth.1.1 hth.1.2).2) rm_X8_93 ri_X7_finalStep rs_X7_finalStep rc_X7_finalStep rz_X7 ⟨rp_X7_finalStep, rfl, rfl, by decide, by decide⟩ rfl rd_kcl7 dX8_nextNumber_19 hS_hw_4.1 hS_hw_4.2.2.2.2.2.1 rfl (Nat.le_of_ble_eq_true rfl) (fun v1 w1 hq => ?_)
  obtain ⟨hv1, hm1⟩ := hq; rw [show v1 = some (rd_I (sp_FS μ (μ 58 0))) from hv1, hm1]; clear hv1 hm1
  refine rd_icmp_ge C dX8_nextNumber_22 (tgt := 35) (by decide) (fun h_22 => ?_) (fun h_22 => ?_)
  · refine rd_aload_n C dX8_nextNumber_35 rfl ?_
    refine rd_get C rd_g8_1 rf_X8_12 dX8_nextNumber_36 rd_b1 rd_k1 (x := rd_R (2)) rfl (fun _ => trivial) ?_
    refine rd_aload_n C dX8_nextNumber_39 rfl ?_
    refine rd_get C rd_g8_1 rf_X8_12 dX8_nextNumber_40 rd_b1 rd_k1 (x := rd_R (2)) rfl (fun _ => trivial) ?_
    refine rd_aload_n C dX8_nextNumber_43 rfl ?_
    refine rd_get C rd_g8_3 rf_X8_28 dX8_nextNumber_44 rd_b1 rd_k1 (x := rd_R (58)) rfl (fun _ => trivial) ?_
    refine rd_get C rd_g6_0 rf_X8_46 dX8_nextNumber_47 rd_b58 rd_k58 (x := rd_I (μ 58 0)) rfl (fun h => h _ _) ?_
    refine rd_callV C (c_X0_placeOf hw.1) rm_X8_96 ri_X0_placeOf rs_X0_placeOf rc_X0_placeOf rz_X0 ⟨rp_X0_placeOf, rfl, rfl, by decide, by decide⟩ rfl rd_kcl0 dX8_nextNumber_50 rd_b2 rd_k2 rfl (Nat.le_of_ble_eq_true rfl) (fun v1 w1 hq => ?_)
    obtain ⟨hv1, hm1⟩ := hq; rw [show v1 = some (rd_I (sp_pl μ (μ 58 0))) from hv1, hm1]; clear hv1 hm1
    have hpl := sp_pl_r hw.1 (μ 58 0)
    refine rd_callV C (c_X0_nextShown hw.1 hpl.1 (by have := hw.1.2; omega)) rm_X8_99 ri_X0_nextShown rs_X0_nextShown rc_X0_nextShown rz_X0 ⟨rp_X0_nextShown, rfl, rfl, by decide, by decide⟩ rfl rd_kcl0 dX8_nextNumber_53 rd_b2 rd_k2 rfl (Nat.le_of_ble_eq_true rfl) (fun v1 w1 hq => ?_)
    obtain ⟨hv1, hm1⟩ := hq; rw [show v1 = some (rd_I (sp_next μ (sp_pl μ (μ 58 0) + 1))) from hv1, hm1]; clear hv1 hm1
    exact rd_iret C dX8_nextNumber_56 ⟨by unfold sp_nn; first | rw [sp_ift (by omega)] | rw [sp_iff (by omega)], rfl⟩
  · refine rd_aload_n C dX8_nextNumber_25 rfl ?_
    refine rd_get C rd_g8_3 rf_X8_28 dX8_nextNumber_26 rd_b1 rd_k1 (x := rd_R (58)) rfl (fun _ => trivial) ?_
    refine rd_get C rd_g6_0 rf_X8_46 dX8_nextNumber_29 rd_b58 rd_k58 (x := rd_I (μ 58 0)) rfl (fun h => h _ _) ?_
    refine rd_goto C dX8_nextNumber_32 (tgt := 56) (by decide) ?_
    exact rd_iret C dX8_nextNumber_56 ⟨by unfold sp_nn; first | rw [sp_ift (by omega)] | rw [sp_iff (by omega)], rfl⟩
set_option maxHeartbeats 4000000 in
set_option maxRecDepth 100000 in
theorem c_X8_goForward {l : Launch} {G : rd_G} {r : Nat} {μ : rd_Mem} (hw : sp_wf μ) (hth : sp_th μ (μ 58 0)) (hn : sp_nn μ ≠ -1) : rd_M l G rd_kc 313 r yX8_goForward cX8_goForward 3 none (rd_rm 3 83) [rd_R 1] μ (fun v μ' => v = none ∧ μ' = rd_gf μ) := by
  refine rd_enter (by decide +kernel) (Nat.le_of_ble_eq_true rfl) [rd_R 1, rd_J, rd_J] rfl (fun p e s m args below meth c C => ?_)
  refine rd_W.rng (fun hM hL _ => ?_)
  have hs := hw.2.2.2.2
  refine rd_aload_n C dX8_goForward_0 rfl ?_
  refine rd_callV C (c_X8_here) rm_X8_56 ri_X8_here rs_X8_here rc_X8_here rz_X8 ⟨rp_X8_here, rfl, rfl, by decide, by decide⟩ rfl rd_kcl8 dX8_goForward_1 rd_b1 rd_k1 rfl (Nat.le_of_ble_eq_true rfl) (fun v1 w1 hq => ?_)
  rcases hq with ⟨hw_4, hv1, hm1⟩ | ⟨hw_4, hv1, hm1⟩
  rotate_left
  · exact absurd hth hw_4
  rw [hv1, hm1]; clear hv1 hm1 v1 w1
  have hS_hw_4 := rd_sl1 hw_4.1.1 hw_4.1.2
  refine rd_astore_n C dX8_goForward_4 (by decide) (L' := [rd_R 1, rd_R (5 + 5 * μ 58 0), rd_J]) rfl ?_
  refine rd_aload_n C dX8_goForward_5 rfl ?_
  refine rd_callV C (c_X8_nextNumber hw hth) rm_X8_64 ri_X8_nextNumber rs_X8_nextNumber rc_X8_nextNumber rz_X8 ⟨rp_X8_nextNumber, rfl, rfl, by decide, by decide⟩ rfl rd_kcl8 dX8_goForward_6 rd_b1 rd_k1 rfl (Nat.le_of_ble_eq_true rfl) (fun v1 w1 hq => ?_)
  obtain ⟨hv1, hm1⟩ := hq; rw [show v1 = some (rd_I (sp_nn μ)) from hv1, hm1]; clear hv1 hm1
  refine rd_istore_n C dX8_goForward_9 (by decide) (L' := [rd_R 1, rd_R (5 + 5 * μ 58 0), rd_I (sp_nn μ)]) rfl ?_
  refine rd_aload_n C dX8_goForward_10 rfl ?_
  refine rd_ifnull_r C dX8_goForward_11 ?_
  refine rd_iload_n C dX8_goForward_14 rfl ?_
  refine rd_iconst C dX8_goForward_15 (n := -1) ⟨by decide, by decide⟩ ?_
  refine rd_icmp_ne C dX8_goForward_16 (tgt := 20) (by decide) (fun h_16 => ?_) (fun h_16 => ?_)
  · refine rd_aload_n C dX8_goForward_20 rfl ?_
    refine rd_get C rd_g8_3 rf_X8_28 dX8_goForward_21 rd_b1 rd_k1 (x := rd_R (58)) rfl (fun _ => trivial) ?_
    refine rd_get C rd_g6_1 rf_X8_90 dX8_goForward_24 rd_b58 rd_k58 (x := rd_I (μ 58 1)) rfl (fun h => h _ _) ?_
    refine rd_aload_n C dX8_goForward_27 rfl ?_
    refine rd_callV C (c_X7_finalStep hS_hw_4 (hw.2.1 _ hth.1.1 hth.1.2).1 (hw.2.1 _ hth.1.1 hth.1.2).2) rm_X8_93 ri_X7_finalStep rs_X7_finalStep rc_X7_finalStep rz_X7 ⟨rp_X7_finalStep, rfl, rfl, by decide, by decide⟩ rfl rd_kcl7 dX8_goForward_28 hS_hw_4.1 hS_hw_4.2.2.2.2.2.1 rfl (Nat.le_of_ble_eq_true rfl) (fun v1 w1 hq => ?_)
    obtain ⟨hv1, hm1⟩ := hq; rw [show v1 = some (rd_I (sp_FS μ (μ 58 0))) from hv1, hm1]; clear hv1 hm1
    refine rd_icmp_ge C dX8_goForward_31 (tgt := 61) (by decide) (fun h_31 => ?_) (fun h_31 => ?_)
    · refine rd_aload_n C dX8_goForward_61 rfl ?_
      refine rd_get C rd_g8_3 rf_X8_28 dX8_goForward_62 rd_b1 rd_k1 (x := rd_R (58)) rfl (fun _ => trivial) ?_
      refine rd_iload_n C dX8_goForward_65 rfl ?_
      refine rd_iconst C dX8_goForward_66 (n := 0) ⟨by decide, by decide⟩ ?_
      refine rd_iconst C dX8_goForward_67 (n := 0) ⟨by decide, by decide⟩ ?_
      refine rd_callV C (c_X6_moveTo hw.2.2.2.1.1 hw.2.2.2.1.2) rm_X8_105 ri_X6_moveTo rs_X6_moveTo rc_X6_moveTo rz_X6 ⟨rp_X6_moveTo, rfl, rfl, by decide, by decide⟩ rfl rd_kcl6 dX8_goForward_68 rd_b58 rd_k58 rfl (Nat.le_of_ble_eq_true rfl) (fun v1 w1 hq => ?_)
      obtain ⟨hv1, hm1⟩ := hq; rw [hv1, show w1 = rd_mvt μ (sp_nn μ) 0 0 from hm1]; clear hv1 hm1
      exact rd_vret C dX8_goForward_71 ⟨rfl, by unfold rd_gf; first | rw [sp_ite_t (by omega)] | rw [sp_ite_f (by omega)]⟩
    · refine rd_aload_n C dX8_goForward_34 rfl ?_
      refine rd_get C rd_g8_3 rf_X8_28 dX8_goForward_35 rd_b1 rd_k1 (x := rd_R (58)) rfl (fun _ => trivial) ?_
      refine rd_iload_n C dX8_goForward_38 rfl ?_
      refine rd_aload_n C dX8_goForward_39 rfl ?_
      refine rd_get C rd_g8_3 rf_X8_28 dX8_goForward_40 rd_b1 rd_k1 (x := rd_R (58)) rfl (fun _ => trivial) ?_
      refine rd_get C rd_g6_1 rf_X8_90 dX8_goForward_43 rd_b58 rd_k58 (x := rd_I (μ 58 1)) rfl (fun h => h _ _) ?_
      refine rd_iconst C dX8_goForward_46 (n := 1) ⟨by decide, by decide⟩ ?_
      refine rd_iadd C dX8_goForward_47 (z := μ 58 1 + 1) rfl ⟨by omega, by omega⟩ ?_
      refine rd_aload_n C dX8_goForward_48 rfl ?_
      refine rd_get C rd_g8_3 rf_X8_28 dX8_goForward_49 rd_b1 rd_k1 (x := rd_R (58)) rfl (fun _ => trivial) ?_
      refine rd_get C rd_g6_2 rf_X8_102 dX8_goForward_52 rd_b58 rd_k58 (x := rd_I (μ 58 2)) rfl (fun h => h _ _) ?_
      refine rd_callV C (c_X6_moveTo hw.2.2.2.1.1 hw.2.2.2.1.2) rm_X8_105 ri_X6_moveTo rs_X6_moveTo rc_X6_moveTo rz_X6 ⟨rp_X6_moveTo, rfl, rfl, by decide, by decide⟩ rfl rd_kcl6 dX8_goForward_55 rd_b58 rd_k58 rfl (Nat.le_of_ble_eq_true rfl) (fun v1 w1 hq => ?_)
      obtain ⟨hv1, hm1⟩ := hq; rw [hv1, show w1 = rd_mvt μ (sp_nn μ) (μ 58 1 + 1) (μ 58 2) from hm1]; clear hv1 hm1
      refine rd_goto C dX8_goForward_58 (tgt := 71) (by decide) ?_
      exact rd_vret C dX8_goForward_71 ⟨rfl, by unfold rd_gf; first | rw [sp_ite_t (by omega)] | rw [sp_ite_f (by omega)]⟩
  · exact absurd h_16 hn
set_option maxHeartbeats 4000000 in
set_option maxRecDepth 100000 in
theorem c_X8_goByKey {l : Launch} {G : rd_G} {r : Nat} {μ : rd_Mem} {q0 : Int} (hw : sp_wf μ) (hth : sp_th μ (μ 58 0)) (ht : sp_tg μ q0 ≠ -1) : rd_M l G rd_kc 313 r yX8_goByKey cX8_goByKey 3 none (rd_rm 2 44) [rd_R 1, rd_I q0] μ (fun v μ' => v = none ∧ μ' = rd_mvt μ (sp_tg μ q0) 0 1) := by
  refine rd_enter (by decide +kernel) (Nat.le_of_ble_eq_true rfl) [rd_R 1, rd_I q0, rd_J] rfl (fun p e s m args below meth c C => ?_)
  refine rd_W.rng (fun hM hL _ => ?_)
  refine rd_aload_n C dX8_goByKey_0 rfl ?_
  refine rd_callV C (c_X8_here) rm_X8_56 ri_X8_here rs_X8_here rc_X8_here rz_X8 ⟨rp_X8_here, rfl, rfl, by decide, by decide⟩ rfl rd_kcl8 dX8_goByKey_1 rd_b1 rd_k1 rfl (Nat.le_of_ble_eq_true rfl) (fun v1 w1 hq => ?_)
  rcases hq with ⟨hw_4, hv1, hm1⟩ | ⟨hw_4, hv1, hm1⟩
  rotate_left
  · exact absurd hth hw_4
  rw [hv1, hm1]; clear hv1 hm1 v1 w1
  have hS_hw_4 := rd_sl1 hw_4.1.1 hw_4.1.2
  refine rd_astore_n C dX8_goByKey_4 (by decide) (L' := [rd_R 1, rd_I q0, rd_R (5 + 5 * μ 58 0)]) rfl ?_
  refine rd_aload_n C dX8_goByKey_5 rfl ?_
  refine rd_ifnull_r C dX8_goByKey_6 ?_
  refine rd_aload_n C dX8_goByKey_9 rfl ?_
  refine rd_iload_n C dX8_goByKey_10 rfl ?_
  refine rd_callV C (c_X7_targetOf hS_hw_4) rm_X8_71 ri_X7_targetOf rs_X7_targetOf rc_X7_targetOf rz_X7 ⟨rp_X7_targetOf, rfl, rfl, by decide, by decide⟩ rfl rd_kcl7 dX8_goByKey_11 hS_hw_4.1 hS_hw_4.2.2.2.2.2.1 rfl (Nat.le_of_ble_eq_true rfl) (fun v1 w1 hq => ?_)
  obtain ⟨hv1, hm1⟩ := hq; rw [show v1 = some (rd_I (sp_tg μ q0)) from hv1, hm1]; clear hv1 hm1
  refine rd_iconst C dX8_goByKey_14 (n := -1) ⟨by decide, by decide⟩ ?_
  refine rd_icmp_eq C dX8_goByKey_15 (tgt := 32) (by decide) (fun h_15 => ?_) (fun h_15 => ?_)
  · exact absurd h_15 ht
  · refine rd_aload_n C dX8_goByKey_18 rfl ?_
    refine rd_get C rd_g8_3 rf_X8_28 dX8_goByKey_19 rd_b1 rd_k1 (x := rd_R (58)) rfl (fun _ => trivial) ?_
    refine rd_aload_n C dX8_goByKey_22 rfl ?_
    refine rd_iload_n C dX8_goByKey_23 rfl ?_
    refine rd_callV C (c_X7_targetOf hS_hw_4) rm_X8_71 ri_X7_targetOf rs_X7_targetOf rc_X7_targetOf rz_X7 ⟨rp_X7_targetOf, rfl, rfl, by decide, by decide⟩ rfl rd_kcl7 dX8_goByKey_24 hS_hw_4.1 hS_hw_4.2.2.2.2.2.1 rfl (Nat.le_of_ble_eq_true rfl) (fun v1 w1 hq => ?_)
    obtain ⟨hv1, hm1⟩ := hq; rw [show v1 = some (rd_I (sp_tg μ q0)) from hv1, hm1]; clear hv1 hm1
    refine rd_iconst C dX8_goByKey_27 (n := 0) ⟨by decide, by decide⟩ ?_
    refine rd_iconst C dX8_goByKey_28 (n := 1) ⟨by decide, by decide⟩ ?_
    refine rd_callV C (c_X6_moveTo hw.2.2.2.1.1 hw.2.2.2.1.2) rm_X8_105 ri_X6_moveTo rs_X6_moveTo rc_X6_moveTo rz_X6 ⟨rp_X6_moveTo, rfl, rfl, by decide, by decide⟩ rfl rd_kcl6 dX8_goByKey_29 rd_b58 rd_k58 rfl (Nat.le_of_ble_eq_true rfl) (fun v1 w1 hq => ?_)
    obtain ⟨hv1, hm1⟩ := hq; rw [hv1, show w1 = rd_mvt μ (sp_tg μ q0) 0 1 from hm1]; clear hv1 hm1
    exact rd_vret C dX8_goByKey_32 ⟨rfl, rfl⟩
theorem sp_fb_y {p : Int → Prop} {n : Nat} {k : Int} (h0 : 0 < n) (hk : k + 1 = (n : Int)) (h : p k) : sp_fb p n = k := by
  obtain ⟨m, rfl⟩ : ∃ m, n = m + 1 := ⟨n - 1, by omega⟩
  have e : k = (m : Int) := by omega
  subst e; exact sp_fb_t h
theorem sp_fb_n {p : Int → Prop} {n : Nat} {k : Int} (h0 : 0 < n) (hk : k + 1 = (n : Int)) (h : ¬ p k) : sp_fb p n = sp_fb p (n - 1) := by
  obtain ⟨m, rfl⟩ : ∃ m, n = m + 1 := ⟨n - 1, by omega⟩
  have e : k = (m : Int) := by omega
  subst e; exact sp_fb_f h
set_option maxHeartbeats 4000000 in
set_option maxRecDepth 100000 in
theorem c_X8_backPlace {l : Launch} {G : rd_G} {r : Nat} {μ : rd_Mem} (h0 : 0 ≤ μ 58 5) (h40 : μ 58 5 ≤ 40) : rd_M l G rd_kc 313 r yX8_backPlace cX8_backPlace 3 (some .int) (rd_rm 2 44) [rd_R 1] μ (fun v μ' => v = some (rd_I (sp_bp μ)) ∧ μ' = μ) := by
  refine rd_enter (by decide +kernel) (Nat.le_of_ble_eq_true rfl) [rd_R 1, rd_J, rd_J] rfl (fun p e s m args below meth c C => ?_)
  refine rd_W.rng (fun hM hL _ => ?_)
  refine rd_aload_n C dX8_backPlace_0 rfl ?_
  refine rd_get C rd_g8_3 rf_X8_28 dX8_backPlace_1 rd_b1 rd_k1 (x := rd_R (58)) rfl (fun _ => trivial) ?_
  refine rd_get C rd_g6_5 rf_X8_109 dX8_backPlace_4 rd_b58 rd_k58 (x := rd_I (μ 58 5)) rfl (fun h => h _ _) ?_
  refine rd_iconst C dX8_backPlace_7 (n := 1) ⟨by decide, by decide⟩ ?_
  refine rd_isub C dX8_backPlace_8 (z := μ 58 5 - 1) rfl ⟨by omega, by omega⟩ ?_
  refine rd_istore_n C dX8_backPlace_9 (by decide) (L' := [rd_R 1, rd_I (μ 58 5 - 1), rd_J]) rfl ?_
  have lp10 : ∀ (n : Nat) (n' : Nat) (k : Int) (j2 : rd_X), (n' < n) → (k + 1 = (n' : Int)) → (k < μ 58 5) → (sp_fb (sp_bpp μ) n' = sp_bp μ) → rd_W p l e (rd_rm 2 44) s m args below meth c (MQ below (rd_Qc G rd_kc 313 r (fun v μ' => v = some (rd_I (sp_bp μ)) ∧ μ' = μ)) args s 0 0 (rd_A r 313)) 3 G rd_kc 313 r 10 [rd_R 1, rd_I k, j2] [] μ := by
    intro n
    induction n with
    | zero => intro n' k j2  h1 h2 h3 hF; exfalso; omega
    | succ n ih =>
      intro n' k j2  h1 h2 h3 hF
      refine rd_iload_n C dX8_backPlace_10 rfl ?_
      refine rd_if_lt C dX8_backPlace_11 (tgt := 63) (by decide) (fun h_11 => ?_) (fun h_11 => ?_)
      · refine rd_iconst C dX8_backPlace_63 (n := -1) ⟨by decide, by decide⟩ ?_
        exact rd_iret C dX8_backPlace_64 ⟨by rw [← hF, show n' = 0 by omega]; rfl, rfl⟩
      · refine rd_aload_n C dX8_backPlace_14 rfl ?_
        refine rd_get C rd_g8_1 rf_X8_12 dX8_backPlace_15 rd_b1 rd_k1 (x := rd_R (2)) rfl (fun _ => trivial) ?_
        refine rd_aload_n C dX8_backPlace_18 rfl ?_
        refine rd_get C rd_g8_3 rf_X8_28 dX8_backPlace_19 rd_b1 rd_k1 (x := rd_R (58)) rfl (fun _ => trivial) ?_
        refine rd_iload_n C dX8_backPlace_22 rfl ?_
        refine rd_iconst C dX8_backPlace_23 (n := 0) ⟨by decide, by decide⟩ ?_
        refine rd_callV C (c_X6_trailValue (p0 := k) (q0 := 0) (by omega) (by omega) h40 (by omega) (by omega)) rm_X8_112 ri_X6_trailValue rs_X6_trailValue rc_X6_trailValue rz_X6 ⟨rp_X6_trailValue, rfl, rfl, by decide, by decide⟩ rfl rd_kcl6 dX8_backPlace_24 rd_b58 rd_k58 rfl (Nat.le_of_ble_eq_true rfl) (fun v1 w1 hq => ?_)
        obtain ⟨hv1, hm1⟩ := hq; rw [show v1 = some (rd_I (μ 59 k)) from hv1, hm1]; clear hv1 hm1 v1 w1
        refine rd_callV C (c_X0_find) rm_X8_49 ri_X0_find rs_X0_find rc_X0_find rz_X0 ⟨rp_X0_find, rfl, rfl, by decide, by decide⟩ rfl rd_kcl0 dX8_backPlace_27 rd_b2 rd_k2 rfl (Nat.le_of_ble_eq_true rfl) (fun v1 w1 hq => ?_)
        rcases hq with ⟨hw_30, hv1, hm1⟩ | ⟨hw_30, hv1, hm1⟩
        · rw [hv1, hm1]; clear hv1 hm1 v1 w1
          have hS_hw_30 := rd_sl1 hw_30.1.1 hw_30.1.2
          refine rd_astore_n C dX8_backPlace_30 (by decide) (L' := [rd_R 1, rd_I k, rd_R (5 + 5 * μ 59 k)]) rfl ?_
          refine rd_aload_n C dX8_backPlace_31 rfl ?_
          refine rd_ifnull_r C dX8_backPlace_32 ?_
          refine rd_aload_n C dX8_backPlace_35 rfl ?_
          refine rd_get C rd_g8_3 rf_X8_28 dX8_backPlace_36 rd_b1 rd_k1 (x := rd_R (58)) rfl (fun _ => trivial) ?_
          refine rd_iload_n C dX8_backPlace_39 rfl ?_
          refine rd_iconst C dX8_backPlace_40 (n := 2) ⟨by decide, by decide⟩ ?_
          refine rd_callV C (c_X6_trailValue (p0 := k) (q0 := 2) (by omega) (by omega) h40 (by omega) (by omega)) rm_X8_112 ri_X6_trailValue rs_X6_trailValue rc_X6_trailValue rz_X6 ⟨rp_X6_trailValue, rfl, rfl, by decide, by decide⟩ rfl rd_kcl6 dX8_backPlace_41 rd_b58 rd_k58 rfl (Nat.le_of_ble_eq_true rfl) (fun v1 w1 hq => ?_)
          obtain ⟨hv1, hm1⟩ := hq; rw [show v1 = some (rd_I (μ 61 k)) from hv1, hm1]; clear hv1 hm1 v1 w1
          refine rd_iconst C dX8_backPlace_44 (n := 1) ⟨by decide, by decide⟩ ?_
          refine rd_icmp_eq C dX8_backPlace_45 (tgt := 55) (by decide) (fun h_45 => ?_) (fun h_45 => ?_)
          · refine rd_iload_n C dX8_backPlace_55 rfl ?_
            exact rd_iret C dX8_backPlace_56 ⟨by rw [← hF, sp_fb_y (n := n') (by omega) h2 ⟨hw_30, by omega⟩], rfl⟩
          · refine rd_aload_n C dX8_backPlace_48 rfl ?_
            refine rd_get C rd_g7_1 rf_X8_116 dX8_backPlace_49 hS_hw_30.1 hS_hw_30.2.2.2.2.2.1 (x := rd_I (μ (5 + 5 * μ 59 k) 1)) rfl (fun h => h _ _) ?_
            refine rd_if_ne C dX8_backPlace_52 (tgt := 57) (by decide) (fun h_52 => ?_) (fun h_52 => ?_)
            · refine rd_iinc C dX8_backPlace_57 (by decide) rfl ⟨by omega, by omega⟩ (L' := [rd_R 1, rd_I (k + (-1)), rd_R (5 + 5 * μ 59 k)]) rfl ?_
              refine rd_goto C dX8_backPlace_60 (tgt := 10) (by decide) ?_
              exact ih (n' - 1) (k + -1) _ (by omega) (by omega) (by omega) (by rw [← hF, sp_fb_n (n := n') (by omega) h2 (fun h => by first | exact hw_30 h.1 | (rcases h.2 with h8 | h8 <;> omega))])
            · refine rd_iload_n C dX8_backPlace_55 rfl ?_
              exact rd_iret C dX8_backPlace_56 ⟨by rw [← hF, sp_fb_y (n := n') (by omega) h2 ⟨hw_30, by omega⟩], rfl⟩
        · rw [hv1, hm1]; clear hv1 hm1 v1 w1
          refine rd_astore_nN C dX8_backPlace_30 (by decide) (L' := [rd_R 1, rd_I k, rd_N]) rfl ?_
          refine rd_aload_n C dX8_backPlace_31 rfl ?_
          refine rd_ifnull_n C dX8_backPlace_32 (tgt := 57) (by decide) ?_
          refine rd_iinc C dX8_backPlace_57 (by decide) rfl ⟨by omega, by omega⟩ (L' := [rd_R 1, rd_I (k + (-1)), rd_N]) rfl ?_
          refine rd_goto C dX8_backPlace_60 (tgt := 10) (by decide) ?_
          exact ih (n' - 1) (k + -1) _ (by omega) (by omega) (by omega) (by rw [← hF, sp_fb_n (n := n') (by omega) h2 (fun h => by first | exact hw_30 h.1 | (rcases h.2 with h8 | h8 <;> omega))])
  exact lp10 ((μ 58 5).toNat + 1) (μ 58 5).toNat (μ 58 5 - 1) rd_J (by omega) (by omega) (by omega) rfl
set_option maxHeartbeats 4000000 in
set_option maxRecDepth 100000 in
theorem c_X8_clampStep {l : Launch} {G : rd_G} {r : Nat} {μ : rd_Mem} (hit : sp_its μ) : rd_M l G rd_kc 313 r yX8_clampStep cX8_clampStep 2 none (rd_rm 2 62) [rd_R 1] μ (fun v μ' => (sp_th μ (μ 58 0) ∧ v = none ∧ μ' = rd_u μ 58 1 (min (μ 58 1) (sp_FS μ (μ 58 0)))) ∨ (¬ sp_th μ (μ 58 0) ∧ v = none ∧ μ' = μ)) := by
  refine rd_enter (by decide +kernel) (Nat.le_of_ble_eq_true rfl) [rd_R 1, rd_J] rfl (fun p e s m args below meth c C => ?_)
  refine rd_W.rng (fun hM hL _ => ?_)
  refine rd_aload_n C dX8_clampStep_0 rfl ?_
  refine rd_callV C (c_X8_here) rm_X8_56 ri_X8_here rs_X8_here rc_X8_here rz_X8 ⟨rp_X8_here, rfl, rfl, by decide, by decide⟩ rfl rd_kcl8 dX8_clampStep_1 rd_b1 rd_k1 rfl (Nat.le_of_ble_eq_true rfl) (fun v1 w1 hq => ?_)
  rcases hq with ⟨hw_4, hv1, hm1⟩ | ⟨hw_4, hv1, hm1⟩
  · rw [hv1, hm1]; clear hv1 hm1 v1 w1
    have hS_hw_4 := rd_sl1 hw_4.1.1 hw_4.1.2
    refine rd_astore_n C dX8_clampStep_4 (by decide) (L' := [rd_R 1, rd_R (5 + 5 * μ 58 0)]) rfl ?_
    refine rd_aload_n C dX8_clampStep_5 rfl ?_
    refine rd_ifnull_r C dX8_clampStep_6 ?_
    refine rd_aload_n C dX8_clampStep_9 rfl ?_
    refine rd_get C rd_g8_3 rf_X8_28 dX8_clampStep_10 rd_b1 rd_k1 (x := rd_R (58)) rfl (fun _ => trivial) ?_
    refine rd_aload_n C dX8_clampStep_13 rfl ?_
    refine rd_get C rd_g8_3 rf_X8_28 dX8_clampStep_14 rd_b1 rd_k1 (x := rd_R (58)) rfl (fun _ => trivial) ?_
    refine rd_get C rd_g6_1 rf_X8_90 dX8_clampStep_17 rd_b58 rd_k58 (x := rd_I (μ 58 1)) rfl (fun h => h _ _) ?_
    refine rd_aload_n C dX8_clampStep_20 rfl ?_
    refine rd_callV C (c_X7_finalStep hS_hw_4 (hit _ hw_4.1.1 hw_4.1.2).1 (hit _ hw_4.1.1 hw_4.1.2).2) rm_X8_93 ri_X7_finalStep rs_X7_finalStep rc_X7_finalStep rz_X7 ⟨rp_X7_finalStep, rfl, rfl, by decide, by decide⟩ rfl rd_kcl7 dX8_clampStep_21 hS_hw_4.1 hS_hw_4.2.2.2.2.2.1 rfl (Nat.le_of_ble_eq_true rfl) (fun v1 w1 hq => ?_)
    obtain ⟨hv1, hm1⟩ := hq; rw [show v1 = some (rd_I (sp_FS μ (μ 58 0))) from hv1, hm1]; clear hv1 hm1
    refine rd_mmin C rm_X8_126 rt_J9_min_7cf53 rz_J9 rc_J9_min_7cf53 ⟨by decide, by decide⟩ (Nat.le_of_ble_eq_true rfl) dX8_clampStep_24 (z := min (μ 58 1) (sp_FS μ (μ 58 0))) (by omega) ?_
    refine rd_put C rd_p6_1 rf_X8_90 dX8_clampStep_27 rd_b58 rd_k58 trivial ?_
    exact rd_vret C dX8_clampStep_30 (Or.inl ⟨hw_4, rfl, rfl⟩)
  · rw [hv1, hm1]; clear hv1 hm1 v1 w1
    refine rd_astore_nN C dX8_clampStep_4 (by decide) (L' := [rd_R 1, rd_N]) rfl ?_
    refine rd_aload_n C dX8_clampStep_5 rfl ?_
    refine rd_ifnull_n C dX8_clampStep_6 (tgt := 30) (by decide) ?_
    exact rd_vret C dX8_clampStep_30 (Or.inr ⟨hw_4, rfl, rfl⟩)
set_option maxHeartbeats 4000000 in
set_option maxRecDepth 100000 in
theorem c_X8_goBack {l : Launch} {G : rd_G} {r : Nat} {μ : rd_Mem} (hw : sp_wf μ) (hb : sp_bp μ ≠ -1) : rd_M l G rd_kc 313 r yX8_goBack cX8_goBack 1 none (rd_rm 3 83) [rd_R 1] μ (fun v μ' => v = none ∧ μ' = rd_gb μ) := by
  refine rd_enter (by decide +kernel) (Nat.le_of_ble_eq_true rfl) [rd_R 1] rfl (fun p e s m args below meth c C => ?_)
  refine rd_W.rng (fun hM hL _ => ?_)
  refine rd_aload_n C dX8_goBack_0 rfl ?_
  refine rd_get C rd_g8_3 rf_X8_28 dX8_goBack_1 rd_b1 rd_k1 (x := rd_R (58)) rfl (fun _ => trivial) ?_
  refine rd_aload_n C dX8_goBack_4 rfl ?_
  refine rd_callV C (c_X8_backPlace hw.2.2.2.1.1 hw.2.2.2.1.2) rm_X8_68 ri_X8_backPlace rs_X8_backPlace rc_X8_backPlace rz_X8 ⟨rp_X8_backPlace, rfl, rfl, by decide, by decide⟩ rfl rd_kcl8 dX8_goBack_5 rd_b1 rd_k1 rfl (Nat.le_of_ble_eq_true rfl) (fun v1 w1 hq => ?_)
  obtain ⟨hv1, hm1⟩ := hq; rw [show v1 = some (rd_I (sp_bp μ)) from hv1, hm1]; clear hv1 hm1
  obtain ⟨⟨hb0, hb1⟩, hb2⟩ := sp_bp_r hb hw.2.2.2.1.1
  refine rd_callV C (c_X6_returnTo hb0 hb1 hw.2.2.2.1.2) rm_X8_120 ri_X6_returnTo rs_X6_returnTo rc_X6_returnTo rz_X6 ⟨rp_X6_returnTo, rfl, rfl, by decide, by decide⟩ rfl rd_kcl6 dX8_goBack_8 rd_b58 rd_k58 rfl (Nat.le_of_ble_eq_true rfl) (fun v1 w1 hq => ?_)
  obtain ⟨hv1, hm1⟩ := hq; rw [hv1, show w1 = rd_ret μ (sp_bp μ) from hm1]; clear hv1 hm1
  have hlo : ∀ a, a < 55 → rd_ret μ (sp_bp μ) a = μ a := fun a ha => by unfold rd_ret; rw [rd_u_ne _ _ _ (by omega), rd_u_ne _ _ _ (by omega), rd_u_ne _ _ _ (by omega), rd_u_ne _ _ _ (by omega), rd_u_ne _ _ _ (by omega)]
  have hr0 : rd_ret μ (sp_bp μ) 58 0 = μ 59 (sp_bp μ) := by simp [rd_ret, rd_u]
  have hr1 : rd_ret μ (sp_bp μ) 58 1 = μ 60 (sp_bp μ) := by simp [rd_ret, rd_u]
  refine rd_aload_n C dX8_goBack_11 rfl ?_
  refine rd_callV C (c_X8_clampStep (fun i i0 i1 => by rw [hlo _ (by omega)]; exact hw.2.1 i i0 i1)) rm_X8_123 ri_X8_clampStep rs_X8_clampStep rc_X8_clampStep rz_X8 ⟨rp_X8_clampStep, rfl, rfl, by decide, by decide⟩ rfl rd_kcl8 dX8_goBack_12 rd_b1 rd_k1 rfl (Nat.le_of_ble_eq_true rfl) (fun v1 w1 hq => ?_)
  rcases hq with ⟨hw4, hv1, hm1⟩ | ⟨hw4, hv1, hm1⟩
  rotate_left
  · exact absurd (by rw [sp_th_c hlo, hr0]; exact hb2.1) hw4
  rw [hv1, hm1, hr0, hr1, sp_FS_c hlo hb2.1.1.2]; clear hv1 hm1 v1 w1
  exact rd_vret C dX8_goBack_15 ⟨rfl, rfl⟩
set_option maxHeartbeats 4000000 in
set_option maxRecDepth 100000 in
theorem c_X8_isPauseOver {l : Launch} {G : rd_G} {r : Nat} {μ : rd_Mem} (hth : sp_th μ (μ 58 0)) : rd_M l G rd_kc 313 r yX8_isPauseOver cX8_isPauseOver 2 (some .boolean) (rd_rm 2 42) [rd_R 1] μ (fun v μ' => (sp_pz μ ∧ v = some (rd_I 1) ∧ μ' = μ) ∨ (¬ sp_pz μ ∧ v = some (rd_I 0) ∧ μ' = μ)) := by
  refine rd_enter (by decide +kernel) (Nat.le_of_ble_eq_true rfl) [rd_R 1, rd_J] rfl (fun p e s m args below meth c C => ?_)
  refine rd_W.rng (fun hM hL _ => ?_)
  refine rd_aload_n C dX8_isPauseOver_0 rfl ?_
  refine rd_callV C (c_X8_here) rm_X8_56 ri_X8_here rs_X8_here rc_X8_here rz_X8 ⟨rp_X8_here, rfl, rfl, by decide, by decide⟩ rfl rd_kcl8 dX8_isPauseOver_1 rd_b1 rd_k1 rfl (Nat.le_of_ble_eq_true rfl) (fun v1 w1 hq => ?_)
  rcases hq with ⟨hw_4, hv1, hm1⟩ | ⟨hw_4, hv1, hm1⟩
  rotate_left
  · exact absurd hth hw_4
  rw [hv1, hm1]; clear hv1 hm1 v1 w1
  have hS_hw_4 := rd_sl1 hw_4.1.1 hw_4.1.2
  refine rd_astore_n C dX8_isPauseOver_4 (by decide) (L' := [rd_R 1, rd_R (5 + 5 * μ 58 0)]) rfl ?_
  refine rd_aload_n C dX8_isPauseOver_5 rfl ?_
  refine rd_ifnull_r C dX8_isPauseOver_6 ?_
  refine rd_aload_n C dX8_isPauseOver_9 rfl ?_
  refine rd_get C rd_g7_2 rf_X8_137 dX8_isPauseOver_10 hS_hw_4.1 hS_hw_4.2.2.2.2.2.1 (x := rd_I (μ (5 + 5 * μ 58 0) 2)) rfl (fun h => h _ _) ?_
  refine rd_if_le C dX8_isPauseOver_13 (tgt := 34) (by decide) (fun h_13 => ?_) (fun h_13 => ?_)
  · refine rd_iconst C dX8_isPauseOver_34 (n := 0) ⟨by decide, by decide⟩ ?_
    exact rd_zret C dX8_isPauseOver_35 (by omega) (by first | exact Or.inl ⟨⟨by omega, by omega⟩, rfl, rfl⟩ | exact Or.inr ⟨(fun h => by have h1 := h.1; have h2 := h.2; omega), rfl, rfl⟩)
  · refine rd_aload_n C dX8_isPauseOver_16 rfl ?_
    refine rd_get C rd_g8_3 rf_X8_28 dX8_isPauseOver_17 rd_b1 rd_k1 (x := rd_R (58)) rfl (fun _ => trivial) ?_
    refine rd_get C rd_g6_4 rf_X8_131 dX8_isPauseOver_20 rd_b58 rd_k58 (x := rd_I (μ 58 4)) rfl (fun h => h _ _) ?_
    refine rd_aload_n C dX8_isPauseOver_23 rfl ?_
    refine rd_get C rd_g7_2 rf_X8_137 dX8_isPauseOver_24 hS_hw_4.1 hS_hw_4.2.2.2.2.2.1 (x := rd_I (μ (5 + 5 * μ 58 0) 2)) rfl (fun h => h _ _) ?_
    refine rd_icmp_lt C dX8_isPauseOver_27 (tgt := 34) (by decide) (fun h_27 => ?_) (fun h_27 => ?_)
    · refine rd_iconst C dX8_isPauseOver_34 (n := 0) ⟨by decide, by decide⟩ ?_
      exact rd_zret C dX8_isPauseOver_35 (by omega) (by first | exact Or.inl ⟨⟨by omega, by omega⟩, rfl, rfl⟩ | exact Or.inr ⟨(fun h => by have h1 := h.1; have h2 := h.2; omega), rfl, rfl⟩)
    · refine rd_iconst C dX8_isPauseOver_30 (n := 1) ⟨by decide, by decide⟩ ?_
      refine rd_goto C dX8_isPauseOver_31 (tgt := 35) (by decide) ?_
      exact rd_zret C dX8_isPauseOver_35 (by omega) (by first | exact Or.inl ⟨⟨by omega, by omega⟩, rfl, rfl⟩ | exact Or.inr ⟨(fun h => by have h1 := h.1; have h2 := h.2; omega), rfl, rfl⟩)
theorem rd_ps_n {n : Nat} {μ : rd_Mem} (h0 : 0 < n) (h : ¬ sp_over μ) : rd_ps n μ = rd_ps (n - 1) (rd_t1 μ) := by
  obtain ⟨m, rfl⟩ : ∃ m, n = m + 1 := ⟨n - 1, by omega⟩
  show sp_ite _ _ _ = _
  rw [sp_ite_f h]; rfl
theorem sp_ps_n {n : Nat} {μ : rd_Mem} (h0 : 0 < n) (h : ¬ sp_over μ) : sp_ps n μ = sp_t1 μ + sp_ps (n - 1) (rd_t1 μ) := by
  obtain ⟨m, rfl⟩ : ∃ m, n = m + 1 := ⟨n - 1, by omega⟩
  show sp_if _ _ _ = _
  rw [sp_iff h]; rfl
theorem rd_ps_y {n : Nat} {μ : rd_Mem} (h : n = 0 ∨ sp_over μ) : rd_ps n μ = μ ∧ sp_ps n μ = 0 := by
  cases n with
  | zero => exact ⟨rfl, rfl⟩
  | succ m =>
    rcases h with h | h
    · cases h
    · exact ⟨by show sp_ite _ _ _ = _; rw [sp_ite_t h], by show sp_if _ _ _ = _; rw [sp_ift h]⟩
set_option maxHeartbeats 4000000 in
set_option maxRecDepth 100000 in
theorem c_X8_passSeconds {l : Launch} {G : rd_G} {r : Nat} {μ : rd_Mem} {q0 : Int} (hw0 : sp_wf μ) (hth0 : sp_th μ (μ 58 0)) : rd_M l G rd_kc 313 r yX8_passSeconds cX8_passSeconds 4 (some .int) (rd_rm 4 105) [rd_R 1, rd_I q0] μ (fun v μ' => v = some (rd_I (sp_ps q0.toNat μ)) ∧ μ' = rd_ps q0.toNat μ) := by
  refine rd_enter (by decide +kernel) (Nat.le_of_ble_eq_true rfl) [rd_R 1, rd_I q0, rd_J, rd_J] rfl (fun p e s m args below meth c C => ?_)
  refine rd_W.rng (fun hM hL _ => ?_)
  have hq1 : rd_ok q0 := hL (rd_I q0) (List.mem_of_getElem? (i := 1) rfl)
  refine rd_iconst C dX8_passSeconds_0 (n := 0) ⟨by decide, by decide⟩ ?_
  refine rd_istore_n C dX8_passSeconds_1 (by decide) (L' := [rd_R 1, rd_I q0, rd_I 0, rd_J]) rfl ?_
  refine rd_iconst C dX8_passSeconds_2 (n := 0) ⟨by decide, by decide⟩ ?_
  refine rd_istore_n C dX8_passSeconds_3 (by decide) (L' := [rd_R 1, rd_I q0, rd_I 0, rd_I 0]) rfl ?_
  have lp4 : ∀ (n : Nat) (n' : Nat) (x k : Int) (μ1 : rd_Mem), (n' < n) → (0 ≤ k) → (n' = (q0 - k).toNat) → (0 ≤ x ∧ x ≤ k) → (sp_wf μ1) → (sp_th μ1 (μ1 58 0)) → (rd_ps n' μ1 = rd_ps q0.toNat μ) → (x + sp_ps n' μ1 = sp_ps q0.toNat μ) → rd_W p l e (rd_rm 4 105) s m args below meth c (MQ below (rd_Qc G rd_kc 313 r (fun v μ' => v = some (rd_I (sp_ps q0.toNat μ)) ∧ μ' = rd_ps q0.toNat μ)) args s 0 0 (rd_A r 313)) 4 G rd_kc 313 r 4 [rd_R 1, rd_I q0, rd_I x, rd_I k] [] μ1 := by
    intro n
    induction n with
    | zero => intro n' x k μ1  h1 h2 h3 hx hw hth hA hB; exfalso; omega
    | succ n ih =>
      intro n' x k μ1  h1 h2 h3 hx hw hth hA hB
      refine rd_iload_n C dX8_passSeconds_4 rfl ?_
      refine rd_iload_n C dX8_passSeconds_5 rfl ?_
      refine rd_icmp_ge C dX8_passSeconds_6 (tgt := 77) (by decide) (fun h_6 => ?_) (fun h_6 => ?_)
      · refine rd_iload_n C dX8_passSeconds_77 rfl ?_
        exact rd_iret C dX8_passSeconds_78 (by obtain ⟨g1, g2⟩ := rd_ps_y (n := n') (μ := μ1) (Or.inl (by omega)); exact ⟨by rw [← hB, g2, show x + 0 = x by omega], by rw [← hA, g1]⟩)
      · refine rd_aload_n C dX8_passSeconds_9 rfl ?_
        refine rd_callV C (c_X8_isOver) rm_X8_60 ri_X8_isOver rs_X8_isOver rc_X8_isOver rz_X8 ⟨rp_X8_isOver, rfl, rfl, by decide, by decide⟩ rfl rd_kcl8 dX8_passSeconds_10 rd_b1 rd_k1 rfl (Nat.le_of_ble_eq_true rfl) (fun v1 w1 hq => ?_)
        rcases hq with ⟨hw_13, hv1, hm1⟩ | ⟨hw_13, hv1, hm1⟩
        · rw [hv1, hm1]; clear hv1 hm1 v1 w1
          refine rd_if_ne C dX8_passSeconds_13 (tgt := 77) (by decide) (fun _ => ?_) (fun h => absurd h (by decide))
          refine rd_iload_n C dX8_passSeconds_77 rfl ?_
          exact rd_iret C dX8_passSeconds_78 (by obtain ⟨g1, g2⟩ := rd_ps_y (n := n') (μ := μ1) (Or.inr hw_13); exact ⟨by rw [← hB, g2, show x + 0 = x by omega], by rw [← hA, g1]⟩)
        · rw [hv1, hm1]; clear hv1 hm1 v1 w1
          refine rd_if_ne C dX8_passSeconds_13 (tgt := 77) (by decide) (fun h => absurd h (by decide)) (fun _ => ?_)
          refine rd_aload_n C dX8_passSeconds_16 rfl ?_
          refine rd_get C rd_g8_3 rf_X8_28 dX8_passSeconds_17 rd_b1 rd_k1 (x := rd_R (58)) rfl (fun _ => trivial) ?_
          refine rd_dup C dX8_passSeconds_20 ?_
          refine rd_get C rd_g6_3 rf_X8_53 dX8_passSeconds_21 rd_b58 rd_k58 (x := rd_I (μ1 58 3)) rfl (fun h => h _ _) ?_
          refine rd_iconst C dX8_passSeconds_24 (n := 1) ⟨by decide, by decide⟩ ?_
          refine rd_iaddw C dX8_passSeconds_25 ?_
          refine rd_put C rd_p6_3 rf_X8_53 dX8_passSeconds_26 rd_b58 rd_k58 trivial ?_
          refine rd_aload_n C dX8_passSeconds_29 rfl ?_
          refine rd_get C rd_g8_3 rf_X8_28 dX8_passSeconds_30 rd_b1 rd_k1 (x := rd_R (58)) rfl (fun _ => trivial) ?_
          refine rd_dup C dX8_passSeconds_33 ?_
          refine rd_getx C rd_g6_4 rf_X8_131 dX8_passSeconds_34 rd_b58 rd_k58 rfl (z := μ1 58 4) (by rw [rd_u_j _ _ _ (by omega)]) ?_
          refine rd_iconst C dX8_passSeconds_37 (n := 1) ⟨by decide, by decide⟩ ?_
          refine rd_iaddw C dX8_passSeconds_38 ?_
          refine rd_put C rd_p6_4 rf_X8_131 dX8_passSeconds_39 rd_b58 rd_k58 trivial ?_
          have ht0 := rd_t0_wf hw hth
          show rd_W p l e _ s m args below meth c _ _ G rd_kc 313 r _ _ _ (rd_t0 μ1)
          refine rd_aload_n C dX8_passSeconds_42 rfl ?_
          refine rd_callV C (c_X8_isOver) rm_X8_60 ri_X8_isOver rs_X8_isOver rc_X8_isOver rz_X8 ⟨rp_X8_isOver, rfl, rfl, by decide, by decide⟩ rfl rd_kcl8 dX8_passSeconds_43 rd_b1 rd_k1 rfl (Nat.le_of_ble_eq_true rfl) (fun v1 w1 hq => ?_)
          rcases hq with ⟨hw_46, hv1, hm1⟩ | ⟨hw_46, hv1, hm1⟩
          · rw [hv1, hm1]; clear hv1 hm1 v1 w1
            refine rd_if_ne C dX8_passSeconds_46 (tgt := 71) (by decide) (fun _ => ?_) (fun h => absurd h (by decide))
            have hmv : ¬ sp_mv (rd_t0 μ1) := fun h => by first | exact h.1 hw_46 | exact hw_53 h.2.1 | exact h.2.2 h_61
            refine rd_iinc C dX8_passSeconds_71 (by decide) rfl ⟨by omega, by omega⟩ (L' := [rd_R 1, rd_I q0, rd_I x, rd_I (k + 1)]) rfl ?_
            refine rd_goto C dX8_passSeconds_74 (tgt := 4) (by decide) ?_
            exact ih (n' - 1) _ (k + 1) _ (by omega) (by omega) (by omega) (by omega) ht0.1 ht0.2 (by rw [← hA, rd_ps_n (n := n') (by omega) hw_13, rd_t1, sp_ite_f hmv]) (by rw [← hB, sp_ps_n (n := n') (by omega) hw_13, rd_t1, sp_t1, sp_ite_f hmv, sp_iff hmv]; omega)
          · rw [hv1, hm1]; clear hv1 hm1 v1 w1
            refine rd_if_ne C dX8_passSeconds_46 (tgt := 71) (by decide) (fun h => absurd h (by decide)) (fun _ => ?_)
            refine rd_aload_n C dX8_passSeconds_49 rfl ?_
            refine rd_callV C (c_X8_isPauseOver ht0.2) rm_X8_134 ri_X8_isPauseOver rs_X8_isPauseOver rc_X8_isPauseOver rz_X8 ⟨rp_X8_isPauseOver, rfl, rfl, by decide, by decide⟩ rfl rd_kcl8 dX8_passSeconds_50 rd_b1 rd_k1 rfl (Nat.le_of_ble_eq_true rfl) (fun v1 w1 hq => ?_)
            rcases hq with ⟨hw_53, hv1, hm1⟩ | ⟨hw_53, hv1, hm1⟩
            · rw [hv1, hm1]; clear hv1 hm1 v1 w1
              refine rd_if_eq C dX8_passSeconds_53 (tgt := 71) (by decide) (fun h => absurd h (by decide)) (fun _ => ?_)
              refine rd_aload_n C dX8_passSeconds_56 rfl ?_
              refine rd_callV C (c_X8_nextNumber ht0.1 ht0.2) rm_X8_64 ri_X8_nextNumber rs_X8_nextNumber rc_X8_nextNumber rz_X8 ⟨rp_X8_nextNumber, rfl, rfl, by decide, by decide⟩ rfl rd_kcl8 dX8_passSeconds_57 rd_b1 rd_k1 rfl (Nat.le_of_ble_eq_true rfl) (fun v1 w1 hq => ?_)
              obtain ⟨hv1, hm1⟩ := hq; rw [show v1 = some (rd_I (sp_nn (rd_t0 μ1))) from hv1, hm1]; clear hv1 hm1
              refine rd_iconst C dX8_passSeconds_60 (n := -1) ⟨by decide, by decide⟩ ?_
              refine rd_icmp_eq C dX8_passSeconds_61 (tgt := 71) (by decide) (fun h_61 => ?_) (fun h_61 => ?_)
              · have hmv : ¬ sp_mv (rd_t0 μ1) := fun h => by first | exact h.1 hw_46 | exact hw_53 h.2.1 | exact h.2.2 h_61
                refine rd_iinc C dX8_passSeconds_71 (by decide) rfl ⟨by omega, by omega⟩ (L' := [rd_R 1, rd_I q0, rd_I x, rd_I (k + 1)]) rfl ?_
                refine rd_goto C dX8_passSeconds_74 (tgt := 4) (by decide) ?_
                exact ih (n' - 1) _ (k + 1) _ (by omega) (by omega) (by omega) (by omega) ht0.1 ht0.2 (by rw [← hA, rd_ps_n (n := n') (by omega) hw_13, rd_t1, sp_ite_f hmv]) (by rw [← hB, sp_ps_n (n := n') (by omega) hw_13, rd_t1, sp_t1, sp_ite_f hmv, sp_iff hmv]; omega)
              · refine rd_aload_n C dX8_passSeconds_64 rfl ?_
                refine rd_callV C (c_X8_goForward ht0.1 ht0.2 h_61) rm_X8_77 ri_X8_goForward rs_X8_goForward rc_X8_goForward rz_X8 ⟨rp_X8_goForward, rfl, rfl, by decide, by decide⟩ rfl rd_kcl8 dX8_passSeconds_65 rd_b1 rd_k1 rfl (Nat.le_of_ble_eq_true rfl) (fun v1 w1 hq => ?_)
                obtain ⟨hv1, hm1⟩ := hq; rw [hv1, show w1 = rd_gf (rd_t0 μ1) from hm1]; clear hv1 hm1
                refine rd_iinc C dX8_passSeconds_68 (by decide) rfl ⟨by omega, by omega⟩ (L' := [rd_R 1, rd_I q0, rd_I (x + 1), rd_I k]) rfl ?_
                have hmv : sp_mv (rd_t0 μ1) := ⟨hw_46, hw_53, h_61⟩
                refine rd_iinc C dX8_passSeconds_71 (by decide) rfl ⟨by omega, by omega⟩ (L' := [rd_R 1, rd_I q0, rd_I (x + 1), rd_I (k + 1)]) rfl ?_
                refine rd_goto C dX8_passSeconds_74 (tgt := 4) (by decide) ?_
                exact ih (n' - 1) _ (k + 1) _ (by omega) (by omega) (by omega) (by omega) (rd_gf_wf ht0.1 ht0.2 h_61).1 (rd_gf_wf ht0.1 ht0.2 h_61).2 (by rw [← hA, rd_ps_n (n := n') (by omega) hw_13, rd_t1, sp_ite_t hmv]) (by rw [← hB, sp_ps_n (n := n') (by omega) hw_13, rd_t1, sp_t1, sp_ite_t hmv, sp_ift hmv]; omega)
            · rw [hv1, hm1]; clear hv1 hm1 v1 w1
              refine rd_if_eq C dX8_passSeconds_53 (tgt := 71) (by decide) (fun _ => ?_) (fun h => absurd h (by decide))
              have hmv : ¬ sp_mv (rd_t0 μ1) := fun h => by first | exact h.1 hw_46 | exact hw_53 h.2.1 | exact h.2.2 h_61
              refine rd_iinc C dX8_passSeconds_71 (by decide) rfl ⟨by omega, by omega⟩ (L' := [rd_R 1, rd_I q0, rd_I x, rd_I (k + 1)]) rfl ?_
              refine rd_goto C dX8_passSeconds_74 (tgt := 4) (by decide) ?_
              exact ih (n' - 1) _ (k + 1) _ (by omega) (by omega) (by omega) (by omega) ht0.1 ht0.2 (by rw [← hA, rd_ps_n (n := n') (by omega) hw_13, rd_t1, sp_ite_f hmv]) (by rw [← hB, sp_ps_n (n := n') (by omega) hw_13, rd_t1, sp_t1, sp_ite_f hmv, sp_iff hmv]; omega)
  exact lp4 (q0.toNat + 1) q0.toNat 0 0 _ (by omega) (by omega) (by omega) (by omega) hw0 hth0 rfl (by omega)
set_option maxHeartbeats 4000000 in
set_option maxRecDepth 100000 in
theorem c_X8_canMake {l : Launch} {G : rd_G} {r : Nat} {μ : rd_Mem} {c0 q0 : Int} (hw : sp_wf μ) : rd_M l G rd_kc 313 r yX8_canMake cX8_canMake 4 (some .boolean) (rd_rm 3 83) [rd_R 1, rd_I c0, rd_I q0] μ (fun v μ' => (sp_can μ c0 q0 ∧ v = some (rd_I 1) ∧ μ' = μ) ∨ (¬ sp_can μ c0 q0 ∧ v = some (rd_I 0) ∧ μ' = μ)) := by
  refine rd_enter (by decide +kernel) (Nat.le_of_ble_eq_true rfl) [rd_R 1, rd_I c0, rd_I q0, rd_J] rfl (fun p e s m args below meth c C => ?_)
  refine rd_W.rng (fun hM hL _ => ?_)
  refine rd_aload_n C dX8_canMake_0 rfl ?_
  refine rd_callV C (c_X8_here) rm_X8_56 ri_X8_here rs_X8_here rc_X8_here rz_X8 ⟨rp_X8_here, rfl, rfl, by decide, by decide⟩ rfl rd_kcl8 dX8_canMake_1 rd_b1 rd_k1 rfl (Nat.le_of_ble_eq_true rfl) (fun v1 w1 hq => ?_)
  rcases hq with ⟨hw_4, hv1, hm1⟩ | ⟨hw_4, hv1, hm1⟩
  · rw [hv1, hm1]; clear hv1 hm1 v1 w1
    have hS_hw_4 := rd_sl1 hw_4.1.1 hw_4.1.2
    have hth := hw_4
    refine rd_astore_n C dX8_canMake_4 (by decide) (L' := [rd_R 1, rd_I c0, rd_I q0, rd_R (5 + 5 * μ 58 0)]) rfl ?_
    refine rd_aload_n C dX8_canMake_5 rfl ?_
    refine rd_ifnull_r C dX8_canMake_6 ?_
    refine rd_aload_n C dX8_canMake_9 rfl ?_
    refine rd_callV C (c_X8_isOver) rm_X8_60 ri_X8_isOver rs_X8_isOver rc_X8_isOver rz_X8 ⟨rp_X8_isOver, rfl, rfl, by decide, by decide⟩ rfl rd_kcl8 dX8_canMake_10 rd_b1 rd_k1 rfl (Nat.le_of_ble_eq_true rfl) (fun v1 w1 hq => ?_)
    rcases hq with ⟨hw_13, hv1, hm1⟩ | ⟨hw_13, hv1, hm1⟩
    · rw [hv1, hm1]; clear hv1 hm1 v1 w1
      refine rd_if_eq C dX8_canMake_13 (tgt := 18) (by decide) (fun h => absurd h (by decide)) (fun _ => ?_)
      refine rd_iconst C dX8_canMake_16 (n := 0) ⟨by decide, by decide⟩ ?_
      exact rd_zret C dX8_canMake_17 (by omega) (by first | exact Or.inr ⟨(fun h => hw_4 h.1), rfl, rfl⟩ | exact Or.inr ⟨(fun h => h.2.1 hw_13), rfl, rfl⟩ | exact Or.inr ⟨(fun h => h.2.2.1 h_19 h_57), rfl, rfl⟩ | exact Or.inr ⟨(fun h => h.2.2.2.1 h_19 h_71), rfl, rfl⟩ | exact Or.inr ⟨(fun h => h.2.2.2.2 h_19 h_86), rfl, rfl⟩ | exact Or.inl ⟨⟨hth, hw_13, (fun h => by omega), (fun h => by omega), (fun h => by omega)⟩, rfl, rfl⟩)
    · rw [hv1, hm1]; clear hv1 hm1 v1 w1
      refine rd_if_eq C dX8_canMake_13 (tgt := 18) (by decide) (fun _ => ?_) (fun h => absurd h (by decide))
      refine rd_iload_n C dX8_canMake_18 rfl ?_
      have h_19 : c0 = 98 ∨ c0 = 102 ∨ c0 = 107 ∨ (c0 ≠ 98 ∧ c0 ≠ 102 ∧ c0 ≠ 107) := by omega
      rcases h_19 with h_19 | h_19 | h_19 | h_19
      · refine rd_lsw C dX8_canMake_19 (by decide) (off := 47) (by rw [h_19]; decide) (tgt := 66) (by decide) ?_
        refine rd_aload_n C dX8_canMake_66 rfl ?_
        refine rd_callV C (c_X8_backPlace hw.2.2.2.1.1 hw.2.2.2.1.2) rm_X8_68 ri_X8_backPlace rs_X8_backPlace rc_X8_backPlace rz_X8 ⟨rp_X8_backPlace, rfl, rfl, by decide, by decide⟩ rfl rd_kcl8 dX8_canMake_67 rd_b1 rd_k1 rfl (Nat.le_of_ble_eq_true rfl) (fun v1 w1 hq => ?_)
        obtain ⟨hv1, hm1⟩ := hq; rw [show v1 = some (rd_I (sp_bp μ)) from hv1, hm1]; clear hv1 hm1
        refine rd_iconst C dX8_canMake_70 (n := -1) ⟨by decide, by decide⟩ ?_
        refine rd_icmp_eq C dX8_canMake_71 (tgt := 78) (by decide) (fun h_71 => ?_) (fun h_71 => ?_)
        · refine rd_iconst C dX8_canMake_78 (n := 0) ⟨by decide, by decide⟩ ?_
          exact rd_zret C dX8_canMake_79 (by omega) (by first | exact Or.inr ⟨(fun h => hw_4 h.1), rfl, rfl⟩ | exact Or.inr ⟨(fun h => h.2.1 hw_13), rfl, rfl⟩ | exact Or.inr ⟨(fun h => h.2.2.1 h_19 h_57), rfl, rfl⟩ | exact Or.inr ⟨(fun h => h.2.2.2.1 h_19 h_71), rfl, rfl⟩ | exact Or.inr ⟨(fun h => h.2.2.2.2 h_19 h_86), rfl, rfl⟩ | exact Or.inl ⟨⟨hth, hw_13, (fun h => by omega), (fun h => by omega), (fun h => by omega)⟩, rfl, rfl⟩)
        · refine rd_iconst C dX8_canMake_74 (n := 1) ⟨by decide, by decide⟩ ?_
          refine rd_goto C dX8_canMake_75 (tgt := 79) (by decide) ?_
          exact rd_zret C dX8_canMake_79 (by omega) (by first | exact Or.inr ⟨(fun h => hw_4 h.1), rfl, rfl⟩ | exact Or.inr ⟨(fun h => h.2.1 hw_13), rfl, rfl⟩ | exact Or.inr ⟨(fun h => h.2.2.1 h_19 h_57), rfl, rfl⟩ | exact Or.inr ⟨(fun h => h.2.2.2.1 h_19 h_71), rfl, rfl⟩ | exact Or.inr ⟨(fun h => h.2.2.2.2 h_19 h_86), rfl, rfl⟩ | exact Or.inl ⟨⟨hth, hw_13, (fun h => by omega), (fun h => by omega), (fun h => by omega)⟩, rfl, rfl⟩)
      · refine rd_lsw C dX8_canMake_19 (by decide) (off := 33) (by rw [h_19]; decide) (tgt := 52) (by decide) ?_
        refine rd_aload_n C dX8_canMake_52 rfl ?_
        refine rd_callV C (c_X8_nextNumber hw hth) rm_X8_64 ri_X8_nextNumber rs_X8_nextNumber rc_X8_nextNumber rz_X8 ⟨rp_X8_nextNumber, rfl, rfl, by decide, by decide⟩ rfl rd_kcl8 dX8_canMake_53 rd_b1 rd_k1 rfl (Nat.le_of_ble_eq_true rfl) (fun v1 w1 hq => ?_)
        obtain ⟨hv1, hm1⟩ := hq; rw [show v1 = some (rd_I (sp_nn μ)) from hv1, hm1]; clear hv1 hm1
        refine rd_iconst C dX8_canMake_56 (n := -1) ⟨by decide, by decide⟩ ?_
        refine rd_icmp_eq C dX8_canMake_57 (tgt := 64) (by decide) (fun h_57 => ?_) (fun h_57 => ?_)
        · refine rd_iconst C dX8_canMake_64 (n := 0) ⟨by decide, by decide⟩ ?_
          exact rd_zret C dX8_canMake_65 (by omega) (by first | exact Or.inr ⟨(fun h => hw_4 h.1), rfl, rfl⟩ | exact Or.inr ⟨(fun h => h.2.1 hw_13), rfl, rfl⟩ | exact Or.inr ⟨(fun h => h.2.2.1 h_19 h_57), rfl, rfl⟩ | exact Or.inr ⟨(fun h => h.2.2.2.1 h_19 h_71), rfl, rfl⟩ | exact Or.inr ⟨(fun h => h.2.2.2.2 h_19 h_86), rfl, rfl⟩ | exact Or.inl ⟨⟨hth, hw_13, (fun h => by omega), (fun h => by omega), (fun h => by omega)⟩, rfl, rfl⟩)
        · refine rd_iconst C dX8_canMake_60 (n := 1) ⟨by decide, by decide⟩ ?_
          refine rd_goto C dX8_canMake_61 (tgt := 65) (by decide) ?_
          exact rd_zret C dX8_canMake_65 (by omega) (by first | exact Or.inr ⟨(fun h => hw_4 h.1), rfl, rfl⟩ | exact Or.inr ⟨(fun h => h.2.1 hw_13), rfl, rfl⟩ | exact Or.inr ⟨(fun h => h.2.2.1 h_19 h_57), rfl, rfl⟩ | exact Or.inr ⟨(fun h => h.2.2.2.1 h_19 h_71), rfl, rfl⟩ | exact Or.inr ⟨(fun h => h.2.2.2.2 h_19 h_86), rfl, rfl⟩ | exact Or.inl ⟨⟨hth, hw_13, (fun h => by omega), (fun h => by omega), (fun h => by omega)⟩, rfl, rfl⟩)
      · refine rd_lsw C dX8_canMake_19 (by decide) (off := 61) (by rw [h_19]; decide) (tgt := 80) (by decide) ?_
        refine rd_aload_n C dX8_canMake_80 rfl ?_
        refine rd_iload_n C dX8_canMake_81 rfl ?_
        refine rd_callV C (c_X7_targetOf hS_hw_4) rm_X8_71 ri_X7_targetOf rs_X7_targetOf rc_X7_targetOf rz_X7 ⟨rp_X7_targetOf, rfl, rfl, by decide, by decide⟩ rfl rd_kcl7 dX8_canMake_82 hS_hw_4.1 hS_hw_4.2.2.2.2.2.1 rfl (Nat.le_of_ble_eq_true rfl) (fun v1 w1 hq => ?_)
        obtain ⟨hv1, hm1⟩ := hq; rw [show v1 = some (rd_I (sp_tg μ q0)) from hv1, hm1]; clear hv1 hm1
        refine rd_iconst C dX8_canMake_85 (n := -1) ⟨by decide, by decide⟩ ?_
        refine rd_icmp_eq C dX8_canMake_86 (tgt := 93) (by decide) (fun h_86 => ?_) (fun h_86 => ?_)
        · refine rd_iconst C dX8_canMake_93 (n := 0) ⟨by decide, by decide⟩ ?_
          exact rd_zret C dX8_canMake_94 (by omega) (by first | exact Or.inr ⟨(fun h => hw_4 h.1), rfl, rfl⟩ | exact Or.inr ⟨(fun h => h.2.1 hw_13), rfl, rfl⟩ | exact Or.inr ⟨(fun h => h.2.2.1 h_19 h_57), rfl, rfl⟩ | exact Or.inr ⟨(fun h => h.2.2.2.1 h_19 h_71), rfl, rfl⟩ | exact Or.inr ⟨(fun h => h.2.2.2.2 h_19 h_86), rfl, rfl⟩ | exact Or.inl ⟨⟨hth, hw_13, (fun h => by omega), (fun h => by omega), (fun h => by omega)⟩, rfl, rfl⟩)
        · refine rd_iconst C dX8_canMake_89 (n := 1) ⟨by decide, by decide⟩ ?_
          refine rd_goto C dX8_canMake_90 (tgt := 94) (by decide) ?_
          exact rd_zret C dX8_canMake_94 (by omega) (by first | exact Or.inr ⟨(fun h => hw_4 h.1), rfl, rfl⟩ | exact Or.inr ⟨(fun h => h.2.1 hw_13), rfl, rfl⟩ | exact Or.inr ⟨(fun h => h.2.2.1 h_19 h_57), rfl, rfl⟩ | exact Or.inr ⟨(fun h => h.2.2.2.1 h_19 h_71), rfl, rfl⟩ | exact Or.inr ⟨(fun h => h.2.2.2.2 h_19 h_86), rfl, rfl⟩ | exact Or.inl ⟨⟨hth, hw_13, (fun h => by omega), (fun h => by omega), (fun h => by omega)⟩, rfl, rfl⟩)
      · refine rd_lsw C dX8_canMake_19 (by decide) (off := 76) (by simp [Op.lookupswitch.offset]; grind) (tgt := 95) (by decide) ?_
        refine rd_iconst C dX8_canMake_95 (n := 1) ⟨by decide, by decide⟩ ?_
        exact rd_zret C dX8_canMake_96 (by omega) (by first | exact Or.inr ⟨(fun h => hw_4 h.1), rfl, rfl⟩ | exact Or.inr ⟨(fun h => h.2.1 hw_13), rfl, rfl⟩ | exact Or.inr ⟨(fun h => h.2.2.1 h_19 h_57), rfl, rfl⟩ | exact Or.inr ⟨(fun h => h.2.2.2.1 h_19 h_71), rfl, rfl⟩ | exact Or.inr ⟨(fun h => h.2.2.2.2 h_19 h_86), rfl, rfl⟩ | exact Or.inl ⟨⟨hth, hw_13, (fun h => by omega), (fun h => by omega), (fun h => by omega)⟩, rfl, rfl⟩)
  · rw [hv1, hm1]; clear hv1 hm1 v1 w1
    refine rd_astore_nN C dX8_canMake_4 (by decide) (L' := [rd_R 1, rd_I c0, rd_I q0, rd_N]) rfl ?_
    refine rd_aload_n C dX8_canMake_5 rfl ?_
    refine rd_ifnull_n C dX8_canMake_6 (tgt := 16) (by decide) ?_
    refine rd_iconst C dX8_canMake_16 (n := 0) ⟨by decide, by decide⟩ ?_
    exact rd_zret C dX8_canMake_17 (by omega) (by first | exact Or.inr ⟨(fun h => hw_4 h.1), rfl, rfl⟩ | exact Or.inr ⟨(fun h => h.2.1 hw_13), rfl, rfl⟩ | exact Or.inr ⟨(fun h => h.2.2.1 h_19 h_57), rfl, rfl⟩ | exact Or.inr ⟨(fun h => h.2.2.2.1 h_19 h_71), rfl, rfl⟩ | exact Or.inr ⟨(fun h => h.2.2.2.2 h_19 h_86), rfl, rfl⟩ | exact Or.inl ⟨⟨hth, hw_13, (fun h => by omega), (fun h => by omega), (fun h => by omega)⟩, rfl, rfl⟩)
set_option maxHeartbeats 4000000 in
set_option maxRecDepth 100000 in
theorem c_X8_make {l : Launch} {G : rd_G} {r : Nat} {μ : rd_Mem} {c0 q0 : Int} (hw : sp_wf μ) (hc : sp_can μ c0 q0) : rd_M l G rd_kc 313 r yX8_make cX8_make 3 none (rd_rm 5 128) [rd_R 1, rd_I c0, rd_I q0] μ (fun v μ' => v = none ∧ μ' = rd_mk μ c0 q0) := by
  refine rd_enter (by decide +kernel) (Nat.le_of_ble_eq_true rfl) [rd_R 1, rd_I c0, rd_I q0] rfl (fun p e s m args below meth c C => ?_)
  refine rd_W.rng (fun hM hL _ => ?_)
  refine rd_iload_n C dX8_make_0 rfl ?_
  have h_1 : c0 = 98 ∨ c0 = 102 ∨ c0 = 107 ∨ (c0 ≠ 98 ∧ c0 ≠ 102 ∧ c0 ≠ 107) := by omega
  rcases h_1 with h_1 | h_1 | h_1 | h_1
  · refine rd_lsw C dX8_make_1 (by decide) (off := 42) (by rw [h_1]; decide) (tgt := 43) (by decide) ?_
    refine rd_aload_n C dX8_make_43 rfl ?_
    refine rd_callV C (c_X8_goBack hw (hc.2.2.2.1 h_1)) rm_X8_80 ri_X8_goBack rs_X8_goBack rc_X8_goBack rz_X8 ⟨rp_X8_goBack, rfl, rfl, by decide, by decide⟩ rfl rd_kcl8 dX8_make_44 rd_b1 rd_k1 rfl (Nat.le_of_ble_eq_true rfl) (fun v1 w1 hq => ?_)
    obtain ⟨hv1, hm1⟩ := hq; rw [hv1, show w1 = rd_gb μ from hm1]; clear hv1 hm1
    refine rd_goto C dX8_make_47 (tgt := 64) (by decide) ?_
    exact rd_vret C dX8_make_64 ⟨rfl, by unfold rd_mk; simp [h_1]⟩
  · refine rd_lsw C dX8_make_1 (by decide) (off := 35) (by rw [h_1]; decide) (tgt := 36) (by decide) ?_
    refine rd_aload_n C dX8_make_36 rfl ?_
    refine rd_callV C (c_X8_goForward hw hc.1 (hc.2.2.1 h_1)) rm_X8_77 ri_X8_goForward rs_X8_goForward rc_X8_goForward rz_X8 ⟨rp_X8_goForward, rfl, rfl, by decide, by decide⟩ rfl rd_kcl8 dX8_make_37 rd_b1 rd_k1 rfl (Nat.le_of_ble_eq_true rfl) (fun v1 w1 hq => ?_)
    obtain ⟨hv1, hm1⟩ := hq; rw [hv1, show w1 = rd_gf μ from hm1]; clear hv1 hm1
    refine rd_goto C dX8_make_40 (tgt := 64) (by decide) ?_
    exact rd_vret C dX8_make_64 ⟨rfl, by unfold rd_mk; simp [h_1]⟩
  · refine rd_lsw C dX8_make_1 (by decide) (off := 49) (by rw [h_1]; decide) (tgt := 50) (by decide) ?_
    refine rd_aload_n C dX8_make_50 rfl ?_
    refine rd_iload_n C dX8_make_51 rfl ?_
    refine rd_callV C (c_X8_goByKey hw hc.1 (hc.2.2.2.2 h_1)) rm_X8_83 ri_X8_goByKey rs_X8_goByKey rc_X8_goByKey rz_X8 ⟨rp_X8_goByKey, rfl, rfl, by decide, by decide⟩ rfl rd_kcl8 dX8_make_52 rd_b1 rd_k1 rfl (Nat.le_of_ble_eq_true rfl) (fun v1 w1 hq => ?_)
    obtain ⟨hv1, hm1⟩ := hq; rw [hv1, show w1 = rd_mvt μ (sp_tg μ q0) 0 1 from hm1]; clear hv1 hm1
    refine rd_goto C dX8_make_55 (tgt := 64) (by decide) ?_
    exact rd_vret C dX8_make_64 ⟨rfl, by unfold rd_mk; simp [h_1]⟩
  · refine rd_lsw C dX8_make_1 (by decide) (off := 57) (by simp [Op.lookupswitch.offset]; grind) (tgt := 58) (by decide) ?_
    refine rd_aload_n C dX8_make_58 rfl ?_
    refine rd_iload_n C dX8_make_59 rfl ?_
    refine rd_callV C (c_X8_passSeconds hw hc.1) rm_X8_87 ri_X8_passSeconds rs_X8_passSeconds rc_X8_passSeconds rz_X8 ⟨rp_X8_passSeconds, rfl, rfl, by decide, by decide⟩ rfl rd_kcl8 dX8_make_60 rd_b1 rd_k1 rfl (Nat.le_of_ble_eq_true rfl) (fun v1 w1 hq => ?_)
    obtain ⟨hv1, hm1⟩ := hq; rw [show v1 = some (rd_I (sp_ps q0.toNat μ)) from hv1, show w1 = rd_ps q0.toNat μ from hm1]; clear hv1 hm1
    refine rd_pop C dX8_make_63 ?_
    exact rd_vret C dX8_make_64 ⟨rfl, by unfold rd_mk; simp [h_1]⟩

