/-! the actions: the same answer, the relation kept -/
theorem sp_lk_u (t : Int → Int) {n : Nat} {k y : Int} (k0 : 0 ≤ k) (k1 : k < n) (hy : y ≠ -1) : sp_lk (rd_uf t k y) n = sp_lk t n + (if t k = -1 then 1 else 0) := by
  induction n with
  | zero => omega
  | succ n ih =>
    simp only [sp_lk]
    by_cases h : k = n
    · have e1 : sp_lk (rd_uf t k y) n = sp_lk t n := sp_lk_c (fun j j0 j1 => by unfold rd_uf; rw [if_neg (by omega)])
      rw [e1]
      unfold rd_uf
      rw [if_pos h.symm, if_neg hy, h]
      split <;> omega
    · rw [ih (by omega)]
      have hn : ¬ (n : Int) = k := fun e => h e.symm
      have e2 : rd_uf t k y n = t n := by unfold rd_uf; exact if_neg hn
      simp only [e2]
      by_cases h2 : t (n : Int) = -1
      · simp only [if_pos h2]
      · simp only [if_neg h2]; omega
theorem rl_lk {μ ν : rd_Mem} {n : Int} (hg : rl_g μ n) (hr : rl_r μ ν n) : ∀ m : Nat, m ≤ 10 → mo_lk (fun q => mo_o ν n (22 + q)) m = sp_lk (μ (5 + 5 * n + 4)) m := by
  intro m
  induction m with
  | zero => intro _; rfl
  | succ m ih =>
    intro hm
    simp only [mo_lk, sp_lk]
    rw [ih (by omega)]
    have h1 := hr.2.2.2.2.2 m (by omega) (by omega)
    have h2 := hg.2.2.1 m (by omega) (by omega)
    simp only [h1]
    by_cases h : μ (5 + 5 * n + 4) m = -1
    · simp only [h]; rfl
    · simp only [mo_z_ne h, if_neg h]; rw [if_neg (by have := (h2.resolve_left h).1; omega)]
theorem rl_m6 {μ ν : rd_Mem} {n k : Int} (hg : rl_g μ n) (hr : rl_r μ ν n) (k0 : 0 ≤ k ∧ k ≤ 9) : mo_o ν n (22 + k) = -6 ↔ μ (5 + 5 * n + 4) k = -1 := by
  rw [hr.2.2.2.2.2 k k0.1 k0.2]
  exact mo_z6 ((hg.2.2.1 k k0.1 k0.2).elim Or.inl (fun h => Or.inr (by have := h.1; omega)))
theorem rd_dal_f {κ : rd_Mem} {x a : Int} (hx : 0 ≤ x ∧ x ≤ 9) (ha : 62 ≤ a) : rd_dal (rd_ds0 κ x) x 10 a = κ a := by
  funext b
  unfold rd_dal
  rw [if_neg (by omega)]
  unfold rd_ds0
  rw [(rd_dfo_s _ _).2.2 a (by omega) (by omega)]
  unfold rd_clr
  rw [if_neg (by omega), if_neg (by omega)]
theorem mo_rm_f {ν : rd_Mem} {x : Int} (hx : 0 ≤ x ∧ x ≤ 9) (hc : ν 1 0 ≤ 10) : (∀ j : Int, 476 ≤ j → mo_rm ν x 1 j = ν 1 j) ∧ ∀ a : Int, a ≠ 1 → mo_rm ν x a = ν a := by
  refine ⟨fun j hj => ?_, fun a ha => ?_⟩
  · unfold mo_rm mo_dl
    rw [if_neg (fun h => by have := h.2.1.2; omega), rd_u_j _ _ _ (by omega)]
    exact (mo_to_s ν _).2.2.1 j (by omega) (by omega)
  · funext b
    unfold mo_rm mo_dl
    rw [if_neg (fun h => ha h.1), rd_u_ne _ _ _ ha, (mo_to_s ν _).2.2.2 a ha]
theorem mo_ad_f {ν : rd_Mem} {x : Int} (hx : 0 ≤ x ∧ x ≤ 9) (hc : 0 ≤ ν 1 0 ∧ ν 1 0 ≤ 10) : (∀ j : Int, 476 ≤ j → mo_ad ν x 1 j = ν 1 j) ∧ ∀ a : Int, a ≠ 1 → mo_ad ν x a = ν a := by
  have l0 : mo_lr ν x 32 1 0 = ν 1 0 := by unfold mo_lr; exact if_neg (fun g => by have := g.2.1; omega)
  refine ⟨fun j hj => ?_, fun a ha => ?_⟩
  · unfold mo_ad
    rw [rd_u_j _ _ _ (by omega), rd_u_j _ _ _ (by rw [l0]; omega), rd_u_j _ _ _ (by omega)]
    unfold mo_lr
    exact if_neg (fun g => by have := g.2.2; omega)
  · unfold mo_ad
    rw [rd_u_ne _ _ _ ha, rd_u_ne _ _ _ ha, rd_u_ne _ _ _ ha]
    funext b
    unfold mo_lr
    exact if_neg (fun g => ha g.1)
section RO
variable {μ ν μ' ν' : rd_Mem} {v w : Option rd_X}
set_option maxHeartbeats 1000000 in
theorem pa_addSlide {l : List rd_Mem} (hR : pg_S μ ν l) (h1 : (sp_ff (fun i => μ (5 + 5 * i) 0 = 0) 10 0 = -1 ∧ v = some (rd_I (-4)) ∧ μ' = μ) ∨ (sp_ff (fun i => μ (5 + 5 * i) 0 = 0) 10 0 ≠ -1 ∧ v = some (rd_I (sp_ff (fun i => μ (5 + 5 * i) 0 = 0) 10 0)) ∧ μ' = rd_ins (rd_u (rd_keep μ) (5 + 5 * (sp_ff (fun i => μ (5 + 5 * i) 0 = 0) 10 0)) 0 1) (rd_keep μ 2 0) (sp_ff (fun i => μ (5 + 5 * i) 0 = 0) 10 0))) (h2 : (ν 1 0 = 10 ∧ w = some (rd_I (-4)) ∧ ν' = ν) ∨ (ν 1 0 ≠ 10 ∧ w = some (rd_I (mo_fr ν)) ∧ ν' = mo_ad ν (mo_fr ν))) : w = v ∧ pg_T μ ν l μ' ν' v := by
  have hK := pg_keep hR
  have hlo : ∀ a : Int, a < 62 → rd_keep μ a = μ a := fun a ha => pg_klo hR ha
  have ht := rl_t hR.1.2.1
  have hkt := pg_kth hR
  have hf := rl_free hR.1.1
  have hc : ν 1 0 = μ 2 0 := hR.1.2.1.1
  have hfr : mo_fr ν = sp_ff (fun i => μ (5 + 5 * i) 0 = 0) 10 0 := by
    refine sp_ff_cl (fun i i0 i1 => ?_)
    show mo_o ν i 0 ≠ 1 ↔ μ (5 + 5 * i) 0 = 0
    have hd := hK.1.2.1.2.2 i i0 (by omega)
    rw [hkt] at hd
    constructor
    · intro h
      by_cases h3 : μ (5 + 5 * i) 0 = 0
      · exact h3
      · exact absurd (hd.1 ⟨⟨i0, by omega⟩, h3⟩).1 h
    · intro h; exact hd.2 (fun g => g.2 h)
  rw [hfr, hc] at h2
  rcases h1 with ⟨a, e, m⟩ | ⟨a, e, m⟩ <;> rcases h2 with ⟨b, f, n⟩ | ⟨b, f, n⟩ <;> first | (constructor <;> first | (rw [e, f]; done) | exact pg_er e (by decide) (by decide) m n) | (exfalso; clear m n e f hK hlo hR; grind) | skip
  have hcn := hK.1.1.1.1
  unfold sp_cnt at hcn
  have hν0 : ν 1 0 = rd_keep μ 2 0 := hK.1.2.1.1
  rcases sp_ff_spec (fun i => μ (5 + 5 * i) 0 = 0) 10 0 with ⟨s1, -⟩ | ⟨s1, s2, -⟩
  · exact absurd s1 a
  · generalize sp_ff (fun i => μ (5 + 5 * i) 0 = 0) 10 0 = x at *
    rw [e, f, m, n]
    refine ⟨rfl, pg_op hK (rl_adds hK.1 (x := x) (by omega) (by rw [hlo _ (by omega)]; exact s2)) (fun a ha => ?_) (mo_ad_f (by omega) (by omega)).1 (mo_ad_f (by omega) (by omega)).2⟩
    rw [(rd_ins_s _ _ _).2.2 a (by omega) (by omega), rd_u_ne _ _ _ (by omega)]
set_option maxHeartbeats 1000000 in
theorem pa_removeSlide {l : List rd_Mem} (hR : pg_S μ ν l) {x : Int} (h1 : (¬ sp_th μ x ∧ v = some (rd_I (-1)) ∧ μ' = μ) ∨ ((sp_th μ x ∧ μ 58 0 = x) ∧ v = some (rd_I (-5)) ∧ μ' = μ) ∨ ((sp_th μ x ∧ μ 58 0 ≠ x) ∧ v = some (rd_I (μ 2 0 - 1)) ∧ μ' = rd_dal (rd_ds0 (rd_keep μ) x) x 10)) (h2 : (¬ mo_t ν x ∧ w = some (rd_I (-1)) ∧ ν' = ν) ∨ ((mo_t ν x ∧ ν 1 29 = 1 ∧ ν 1 30 = x) ∧ w = some (rd_I (-5)) ∧ ν' = ν) ∨ ((mo_t ν x ∧ ¬ (ν 1 29 = 1 ∧ ν 1 30 = x)) ∧ w = some (rd_I (ν 1 0 - 1)) ∧ ν' = mo_rm ν x)) : w = v ∧ pg_T μ ν l μ' ν' v := by
  have hK := pg_keep hR
  have hlo : ∀ a : Int, a < 62 → rd_keep μ a = μ a := fun a ha => pg_klo hR ha
  have ht := rl_t hR.1.2.1
  have hkt := pg_kth hR
  have hon := rl_on29 hR.1
  have hh : sp_th μ x → ((ν 1 29 = 1 ∧ ν 1 30 = x) ↔ μ 58 0 = x) := fun hx => by
    constructor
    · rintro ⟨g1, g2⟩; rw [← (rl_pp hR.1 (hon.1.mp g1)).2.1]; exact g2
    · intro g; have hp : sp_th μ (μ 58 0) := by rw [g]; exact hx
      exact ⟨hon.1.mpr hp, by rw [(rl_pp hR.1 hp).2.1]; exact g⟩
  rw [ht] at h2
  rcases h1 with ⟨a, e, m⟩ | ⟨a, e, m⟩ | ⟨a, e, m⟩ <;> rcases h2 with ⟨b, f, n⟩ | ⟨b, f, n⟩ | ⟨b, f, n⟩ <;> first | (constructor <;> first | (rw [e, f]; done) | exact pg_er e (by decide) (by decide) m n) | (exfalso; clear m n e f hK hlo hR; grind) | skip
  have hcn := hK.1.1.1.1
  unfold sp_cnt at hcn
  have hν0 : ν 1 0 = rd_keep μ 2 0 := hK.1.2.1.1
  have hxr := a.1.1
  rw [e, f, m, n, hν0, hlo 2 (by omega)]
  exact ⟨rfl, pg_op hK (rl_rms hK.1 ((hkt x).mpr a.1) (by rw [hlo 58 (by omega)]; exact a.2)) (fun a' ha => rd_dal_f (by omega) ha) (mo_rm_f (by omega) (by omega)).1 (mo_rm_f (by omega) (by omega)).2⟩
set_option maxHeartbeats 1000000 in
theorem pa_moveSlide {l : List rd_Mem} (hR : pg_S μ ν l) {x q0 : Int} (h1 : (¬ sp_th μ x ∧ v = some (rd_I (-1)) ∧ μ' = μ) ∨ ((sp_th μ x ∧ (q0 < 0 ∨ μ 2 0 - 1 < q0)) ∧ v = some (rd_I (-2)) ∧ μ' = μ) ∨ ((sp_th μ x ∧ (0 ≤ q0 ∧ q0 ≤ μ 2 0 - 1)) ∧ v = some (rd_I (sp_pl μ x)) ∧ μ' = rd_ins (rd_dfo (rd_keep μ) (sp_pl μ x)) q0 x)) (h2 : (¬ mo_t ν x ∧ w = some (rd_I (-1)) ∧ ν' = ν) ∨ ((mo_t ν x ∧ (q0 < 0 ∨ ν 1 0 - 1 < q0)) ∧ w = some (rd_I (-2)) ∧ ν' = ν) ∨ ((mo_t ν x ∧ (0 ≤ q0 ∧ q0 ≤ ν 1 0 - 1)) ∧ w = some (rd_I (mo_pl ν x)) ∧ ν' = mo_in (mo_to ν (mo_pl ν x)) q0 x)) : w = v ∧ pg_T μ ν l μ' ν' v := by
  have hK := pg_keep hR
  have hlo : ∀ a : Int, a < 62 → rd_keep μ a = μ a := fun a ha => pg_klo hR ha
  have ht := rl_t hR.1.2.1
  have hkt := pg_kth hR
  have hc : ν 1 0 = μ 2 0 := hR.1.2.1.1
  rw [ht, hc] at h2
  rcases h1 with ⟨a, e, m⟩ | ⟨a, e, m⟩ | ⟨a, e, m⟩ <;> rcases h2 with ⟨b, f, n⟩ | ⟨b, f, n⟩ | ⟨b, f, n⟩ <;> first | (constructor <;> first | (rw [e, f]; done) | exact pg_er e (by decide) (by decide) m n) | (exfalso; clear m n e f hK hlo hR; grind) | skip
  have hcn := hK.1.1.1.1
  unfold sp_cnt at hcn
  have hν0 : ν 1 0 = rd_keep μ 2 0 := hK.1.2.1.1
  have hxK := (hkt x).mpr a.1
  have hpl : sp_pl (rd_keep μ) x = sp_pl μ x := by unfold sp_pl; rw [hlo 3 (by omega), hlo 2 (by omega)]
  have hmp := rl_pl hK.1.2.1 x
  have hp := (rl_os hK.1.1 hxK).1
  have hr := rl_move hK.1 hxK (q := q0) (by rw [hlo 2 (by omega)]; exact a.2)
  rw [hpl] at hr hmp
  have q1 := a.2
  rw [e, f, m, n, hmp]
  rw [hmp] at hr
  obtain ⟨t1, t2, t3, t4⟩ := mo_to_s ν (sp_pl μ x)
  obtain ⟨i1, i2, i3, i4⟩ := mo_in_s (mo_to ν (sp_pl μ x)) (q := q0) (x := x) (by omega) (by rw [t1, hν0, hlo 2 (by omega)]; omega) (by rw [t1, hν0, hlo 2 (by omega)]; omega)
  refine ⟨rfl, pg_op hK hr (fun a' ha => ?_) (fun j hj => ?_) (fun a' ha => ?_)⟩
  · rw [(rd_ins_s _ _ _).2.2 a' (by omega) (by omega), (rd_dfo_s _ _).2.2 a' (by omega) (by omega)]
  · rw [i3 j (by rw [t1, hν0]; omega), t3 j (by omega) (by omega)]
  · rw [i4 a' ha, t4 a' ha]
set_option maxHeartbeats 1000000 in
theorem pa_hide {l : List rd_Mem} (hR : pg_S μ ν l) {x b0 : Int} (hb0 : b0 = 0 ∨ b0 = 1) (h1 : (¬ sp_th μ x ∧ v = some (rd_I (-1)) ∧ μ' = μ) ∨ (sp_th μ x ∧ v = some (rd_I (sp_num (fun i => rd_u (rd_keep μ) (5 + 5 * x) 1 b0 (5 + 5 * i) 1 ≠ 0) 10)) ∧ μ' = rd_u (rd_keep μ) (5 + 5 * x) 1 b0)) (h2 : (¬ mo_t ν x ∧ w = some (rd_I (-1)) ∧ ν' = ν) ∨ (mo_t ν x ∧ w = some (rd_I (sp_sum (fun i => mo_o (rd_u ν 1 (156 + 32 * x + 1) b0) ((rd_u ν 1 (156 + 32 * x + 1) b0) 1 (1 + i)) 1) (ν 1 0).toNat)) ∧ ν' = rd_u ν 1 (156 + 32 * x + 1) b0)) : w = v ∧ pg_T μ ν l μ' ν' v := by
  have hK := pg_keep hR
  have hlo : ∀ a : Int, a < 62 → rd_keep μ a = μ a := fun a ha => pg_klo hR ha
  have ht := rl_t hR.1.2.1
  have hkt := pg_kth hR
  rw [ht] at h2
  rcases h1 with ⟨a, e, m⟩ | ⟨a, e, m⟩ <;> rcases h2 with ⟨b, f, n⟩ | ⟨b, f, n⟩ <;> first | (constructor <;> first | (rw [e, f]; done) | exact pg_er e (by decide) (by decide) m n) | (exfalso; clear m n e f hK hlo hR; grind) | skip
  have hxK := (hkt x).mpr a
  have hr := rl_hide hK.1 hxK hb0
  have hF : pg_T μ ν l μ' ν' v := by
    rw [m, n]
    exact pg_op hK hr (fun a' ha => rd_u_ne _ _ _ (by have := a.1; omega)) (fun j hj => rd_u_j _ _ _ (by have := a.1; omega)) (fun a' ha => rd_u_ne _ _ _ ha)
  refine ⟨?_, hF⟩
  have hν0 : ν 1 0 = rd_keep μ 2 0 := hK.1.2.1.1
  rw [e, f]
  congr 2
  generalize hM : rd_u (rd_keep μ) (5 + 5 * x) 1 b0 = M at hr ⊢
  generalize hN : rd_u ν 1 (156 + 32 * x + 1) b0 = N at hr ⊢
  have hM2 : rd_keep μ 2 = M 2 := by rw [← hM, rd_u_ne _ _ _ (by have := a.1; omega)]
  rw [hν0, hM2, sp_sum_num, sp_sum_c (g := fun i => M (5 + 5 * M 3 i) 1) (fun i i0 i1 => ?_), sp_sum_o hr.1 (fun n => M (5 + 5 * n) 1)]
  · refine sp_sum_c (fun n n0 n1 => ?_)
    show sp_if (sp_th M n) (M (5 + 5 * n) 1) 0 = sp_if (M (5 + 5 * n) 1 ≠ 0) 1 0
    have hb := (hr.1.2.1 n n0 n1).2
    rw [show (1 : Int) + 4 + 5 * n = 5 + 5 * n by omega] at hb
    by_cases h : sp_th M n
    · rw [sp_ift h]
      rcases hb with hb | hb
      · rw [hb, sp_iff (fun h => h rfl)]
      · rw [hb, sp_ift (by decide)]
    · rw [sp_iff h, (hr.1.2.2.2.2.2.2.2 n n0 (by omega)).2 h |>.1, sp_iff (fun h => h rfl)]
  · show mo_o N (N 1 (1 + i)) 1 = M (5 + 5 * M 3 i) 1
    have ho := hr.1.2.2.2.2.2.2.1 i i0 (by omega)
    rw [hr.2.1.2.1 i i0 (by omega)]
    exact (rl_row hr.2.1 ho.1).2.1
set_option maxHeartbeats 1000000 in
theorem pa_setPause {l : List rd_Mem} (hR : pg_S μ ν l) {x q0 : Int} (h1 : (¬ sp_th μ x ∧ v = some (rd_I (-1)) ∧ μ' = μ) ∨ ((sp_th μ x ∧ (q0 < 0 ∨ 60 < q0)) ∧ v = some (rd_I (-2)) ∧ μ' = μ) ∨ ((sp_th μ x ∧ (0 ≤ q0 ∧ q0 ≤ 60)) ∧ v = some (rd_I (μ (5 + 5 * x) 2)) ∧ μ' = rd_u (rd_keep μ) (5 + 5 * x) 2 q0)) (h2 : (¬ mo_t ν x ∧ w = some (rd_I (-1)) ∧ ν' = ν) ∨ ((mo_t ν x ∧ (q0 < 0 ∨ 60 < q0)) ∧ w = some (rd_I (-2)) ∧ ν' = ν) ∨ ((mo_t ν x ∧ (0 ≤ q0 ∧ q0 ≤ 60)) ∧ w = some (rd_I (mo_o ν x 2)) ∧ ν' = rd_u ν 1 (156 + 32 * x + 2) q0)) : w = v ∧ pg_T μ ν l μ' ν' v := by
  have hK := pg_keep hR
  have hlo : ∀ a : Int, a < 62 → rd_keep μ a = μ a := fun a ha => pg_klo hR ha
  have ht := rl_t hR.1.2.1
  have hkt := pg_kth hR
  rw [ht] at h2
  rcases h1 with ⟨a, e, m⟩ | ⟨a, e, m⟩ | ⟨a, e, m⟩ <;> rcases h2 with ⟨b, f, n⟩ | ⟨b, f, n⟩ | ⟨b, f, n⟩ <;> first | (constructor <;> first | (rw [e, f]; done) | exact pg_er e (by decide) (by decide) m n) | (exfalso; clear m n e f hK hlo hR; grind) | skip
  have hxK := (hkt x).mpr a.1
  have hrow := (rl_row hK.1.2.1 hxK).2.2.1
  rw [hlo _ (by have := a.1.1; omega)] at hrow
  rw [e, f, m, n, hrow]
  exact ⟨rfl, pg_op hK (rl_pause hK.1 hxK a.2) (fun a' ha => rd_u_ne _ _ _ (by have := a.1.1; omega)) (fun j hj => rd_u_j _ _ _ (by have := a.1.1; omega)) (fun a' ha => rd_u_ne _ _ _ ha)⟩
set_option maxHeartbeats 1000000 in
theorem pa_addItem {l : List rd_Mem} (hR : pg_S μ ν l) {x f0 l0 t0 : Int} (h1 : (¬ sp_th μ x ∧ v = some (rd_I (-1)) ∧ μ' = μ) ∨ ((sp_th μ x ∧ ¬ ((0 ≤ f0 ∧ f0 ≤ 9) ∧ (l0 = -1 ∨ (f0 ≤ l0 ∧ l0 ≤ 9)) ∧ (0 ≤ t0 ∧ t0 ≤ 99))) ∧ v = some (rd_I (-2)) ∧ μ' = μ) ∨ ((sp_th μ x ∧ ((0 ≤ f0 ∧ f0 ≤ 9) ∧ (l0 = -1 ∨ (f0 ≤ l0 ∧ l0 ≤ 9)) ∧ (0 ≤ t0 ∧ t0 ≤ 99)) ∧ 6 ≤ μ (5 + 5 * x) 3) ∧ v = some (rd_I (-4)) ∧ μ' = μ) ∨ ((sp_th μ x ∧ ((0 ≤ f0 ∧ f0 ≤ 9) ∧ (l0 = -1 ∨ (f0 ≤ l0 ∧ l0 ≤ 9)) ∧ (0 ≤ t0 ∧ t0 ≤ 99)) ∧ μ (5 + 5 * x) 3 < 6) ∧ v = some (rd_I (μ (5 + 5 * x) 3)) ∧ μ' = rd_u (rd_u (rd_u (rd_u (rd_keep μ) (5 + 5 * x + 1) (μ (5 + 5 * x) 3) f0) (5 + 5 * x + 2) (μ (5 + 5 * x) 3) l0) (5 + 5 * x + 3) (μ (5 + 5 * x) 3) t0) (5 + 5 * x) 3 (μ (5 + 5 * x) 3 + 1))) (h2 : (¬ mo_t ν x ∧ w = some (rd_I (-1)) ∧ ν' = ν) ∨ ((mo_t ν x ∧ ¬ ((0 ≤ f0 ∧ f0 ≤ 9) ∧ (l0 = -1 ∨ (f0 ≤ l0 ∧ l0 ≤ 9)) ∧ (0 ≤ t0 ∧ t0 ≤ 99))) ∧ w = some (rd_I (-2)) ∧ ν' = ν) ∨ ((mo_t ν x ∧ ((0 ≤ f0 ∧ f0 ≤ 9) ∧ (l0 = -1 ∨ (f0 ≤ l0 ∧ l0 ≤ 9)) ∧ (0 ≤ t0 ∧ t0 ≤ 99)) ∧ mo_o ν x 3 = 6) ∧ w = some (rd_I (-4)) ∧ ν' = ν) ∨ ((mo_t ν x ∧ ((0 ≤ f0 ∧ f0 ≤ 9) ∧ (l0 = -1 ∨ (f0 ≤ l0 ∧ l0 ≤ 9)) ∧ (0 ≤ t0 ∧ t0 ≤ 99)) ∧ mo_o ν x 3 ≠ 6) ∧ w = some (rd_I (mo_o ν x 3)) ∧ ν' = rd_u (rd_u (rd_u (rd_u ν 1 (156 + 32 * x + (4 + 3 * (mo_o ν x 3))) f0) 1 (156 + 32 * x + (4 + 3 * (mo_o ν x 3) + 1)) l0) 1 (156 + 32 * x + (4 + 3 * (mo_o ν x 3) + 2)) t0) 1 (156 + 32 * x + 3) (mo_o ν x 3 + 1))) : w = v ∧ pg_T μ ν l μ' ν' v := by
  have hK := pg_keep hR
  have hlo : ∀ a : Int, a < 62 → rd_keep μ a = μ a := fun a ha => pg_klo hR ha
  have ht := rl_t hR.1.2.1
  have hkt := pg_kth hR
  have h3 : sp_th μ x → mo_o ν x 3 = μ (5 + 5 * x) 3 := fun hx => (rl_row hR.1.2.1 hx).2.2.2.1
  have h6 : sp_th μ x → μ (5 + 5 * x) 3 ≤ 6 := fun hx => (hR.1.1.1.2.1 x hx.1.1 hx.1.2).2
  rw [ht] at h2
  rcases h1 with ⟨a, e, m⟩ | ⟨a, e, m⟩ | ⟨a, e, m⟩ | ⟨a, e, m⟩ <;> rcases h2 with ⟨b, f, n⟩ | ⟨b, f, n⟩ | ⟨b, f, n⟩ | ⟨b, f, n⟩ <;> first | (constructor <;> first | (rw [e, f]; done) | exact pg_er e (by decide) (by decide) m n) | (exfalso; clear m n e f hK hlo hR; grind) | skip
  have hxr := a.1.1
  have hxK := (hkt x).mpr a.1
  have hrow := (rl_row hK.1.2.1 hxK).2.2.2.1
  have hit := hR.1.1.1.2.1 x hxr.1 hxr.2
  have e5 := hlo (5 + 5 * x) (by omega)
  have hr := rl_add hK.1 hxK (f := f0) (l := l0) (t := t0) a.2.1.1 a.2.1.2.1 a.2.1.2.2 (by rw [e5]; exact a.2.2)
  rw [e5] at hrow hr
  rw [e, f, m, n, hrow]
  exact ⟨rfl, pg_op hK hr (fun a' ha => by rw [rd_u_ne _ _ _ (by omega), rd_u_ne _ _ _ (by omega), rd_u_ne _ _ _ (by omega), rd_u_ne _ _ _ (by omega)]) (fun j hj => by rw [rd_u_j _ _ _ (by omega), rd_u_j _ _ _ (by omega), rd_u_j _ _ _ (by omega), rd_u_j _ _ _ (by omega)]) (fun a' ha => by rw [rd_u_ne _ _ _ ha, rd_u_ne _ _ _ ha, rd_u_ne _ _ _ ha, rd_u_ne _ _ _ ha])⟩
set_option maxHeartbeats 1000000 in
theorem pa_removeItem {l : List rd_Mem} (hR : pg_S μ ν l) {x q0 : Int} (h1 : ((¬ sp_th μ x ∨ q0 < 0 ∨ μ (5 + 5 * x) 3 - 1 < q0) ∧ v = some (rd_I (-1)) ∧ μ' = μ) ∨ ((sp_th μ x ∧ (0 ≤ q0 ∧ q0 ≤ μ (5 + 5 * x) 3 - 1)) ∧ v = some (rd_I (μ (5 + 5 * x) 3 - 1)) ∧ μ' = sp_ite (sp_th (rd_dit (rd_keep μ) (5 + 5 * x) q0 (μ (5 + 5 * x) 3 - 1) (μ (5 + 5 * x) 3 - 1)) (rd_dit (rd_keep μ) (5 + 5 * x) q0 (μ (5 + 5 * x) 3 - 1) (μ (5 + 5 * x) 3 - 1) 58 0)) (rd_u (rd_dit (rd_keep μ) (5 + 5 * x) q0 (μ (5 + 5 * x) 3 - 1) (μ (5 + 5 * x) 3 - 1)) 58 1 (min (rd_dit (rd_keep μ) (5 + 5 * x) q0 (μ (5 + 5 * x) 3 - 1) (μ (5 + 5 * x) 3 - 1) 58 1) (sp_FS (rd_dit (rd_keep μ) (5 + 5 * x) q0 (μ (5 + 5 * x) 3 - 1) (μ (5 + 5 * x) 3 - 1)) (rd_dit (rd_keep μ) (5 + 5 * x) q0 (μ (5 + 5 * x) 3 - 1) (μ (5 + 5 * x) 3 - 1) 58 0)))) (rd_dit (rd_keep μ) (5 + 5 * x) q0 (μ (5 + 5 * x) 3 - 1) (μ (5 + 5 * x) 3 - 1)))) (h2 : (¬ (mo_t ν x ∧ 0 ≤ q0 ∧ q0 ≤ mo_o ν x 3 - 1) ∧ w = some (rd_I (-1)) ∧ ν' = ν) ∨ ((mo_t ν x ∧ 0 ≤ q0 ∧ q0 ≤ mo_o ν x 3 - 1) ∧ w = some (rd_I (mo_o ν x 3 - 1)) ∧ ν' = mo_cl (mo_di ν x q0) x)) : w = v ∧ pg_T μ ν l μ' ν' v := by
  have hK := pg_keep hR
  have hlo : ∀ a : Int, a < 62 → rd_keep μ a = μ a := fun a ha => pg_klo hR ha
  have ht := rl_t hR.1.2.1
  have hkt := pg_kth hR
  have h3 : sp_th μ x → mo_o ν x 3 = μ (5 + 5 * x) 3 := fun hx => (rl_row hR.1.2.1 hx).2.2.2.1
  rw [ht] at h2
  rcases h1 with ⟨a, e, m⟩ | ⟨a, e, m⟩ <;> rcases h2 with ⟨b, f, n⟩ | ⟨b, f, n⟩ <;> first | (constructor <;> first | (rw [e, f]; done) | exact pg_er e (by decide) (by decide) m n) | (exfalso; clear m n e f hK hlo hR; grind) | skip
  have hxr := a.1.1
  have hxK := (hkt x).mpr a.1
  have hrow := (rl_row hK.1.2.1 hxK).2.2.2.1
  have hit := hR.1.1.1.2.1 x hxr.1 hxr.2
  have e5 := hlo (5 + 5 * x) (by omega)
  have hr := rl_rmi hK.1 hxK (q := q0) (by rw [e5]; exact a.2) rfl rfl
  rw [e5] at hrow hr
  have hd := (rd_dit_s (rd_keep μ) (5 + 5 * x) q0 (μ (5 + 5 * x) 3 - 1) (μ (5 + 5 * x) 3 - 1)).2.2.2
  have ho := (mo_di_s ν (x := x) (q := q0) (by rw [hrow]; exact hit) a.2.1).2.2
  generalize rd_dit (rd_keep μ) (5 + 5 * x) q0 (μ (5 + 5 * x) 3 - 1) (μ (5 + 5 * x) 3 - 1) = D at *
  have hdi : ∀ a : Int, a ≠ 1 → mo_di ν x q0 a = ν a := fun a' ha => by
    unfold mo_di; rw [rd_u_ne _ _ _ ha]; funext b; unfold mo_dk; exact if_neg (fun g => ha g.1)
  generalize mo_di ν x q0 = ρ at *
  rw [e, f, m, n, hrow]
  refine ⟨rfl, pg_op hK hr (fun a' ha => ?_) (fun j hj => ?_) (fun a' ha => ?_)⟩
  · by_cases h : sp_th D (D 58 0)
    · rw [sp_ite_t h, rd_u_ne _ _ _ (by omega)]; exact hd a' (by omega)
    · rw [sp_ite_f h]; exact hd a' (by omega)
  · unfold mo_cl
    by_cases h : ρ 1 29 = 1 ∧ ρ 1 30 = x ∧ mo_FS ρ x < ρ 1 31
    · rw [sp_ite_t h, rd_u_j _ _ _ (by omega)]; exact ho j (by omega)
    · rw [sp_ite_f h]; exact ho j (by omega)
  · unfold mo_cl
    by_cases h : ρ 1 29 = 1 ∧ ρ 1 30 = x ∧ mo_FS ρ x < ρ 1 31
    · rw [sp_ite_t h, rd_u_ne _ _ _ ha]; exact hdi a' ha
    · rw [sp_ite_f h]; exact hdi a' ha
set_option maxHeartbeats 1000000 in
theorem pa_link {l : List rd_Mem} (hR : pg_S μ ν l) {x k0 y : Int} (h1 : ((¬ sp_th μ x ∨ ¬ sp_th μ y) ∧ v = some (rd_I (-1)) ∧ μ' = μ) ∨ ((sp_th μ x ∧ sp_th μ y ∧ (k0 < 0 ∨ 9 < k0)) ∧ v = some (rd_I (-2)) ∧ μ' = μ) ∨ ((sp_th μ x ∧ sp_th μ y ∧ (0 ≤ k0 ∧ k0 ≤ 9) ∧ (μ (5 + 5 * x + 4) k0 = -1 ∧ 3 ≤ sp_lk (μ (5 + 5 * x + 4)) 10)) ∧ v = some (rd_I (-4)) ∧ μ' = μ) ∨ ((sp_th μ x ∧ sp_th μ y ∧ (0 ≤ k0 ∧ k0 ≤ 9) ∧ ¬ (μ (5 + 5 * x + 4) k0 = -1 ∧ 3 ≤ sp_lk (μ (5 + 5 * x + 4)) 10)) ∧ v = some (rd_I (sp_lk (rd_u (rd_keep μ) (5 + 5 * x + 4) k0 y (5 + 5 * x + 4)) 10)) ∧ μ' = rd_u (rd_keep μ) (5 + 5 * x + 4) k0 y)) (h2 : ((¬ mo_t ν x ∨ ¬ mo_t ν y) ∧ w = some (rd_I (-1)) ∧ ν' = ν) ∨ ((mo_t ν x ∧ mo_t ν y ∧ (k0 < 0 ∨ 9 < k0)) ∧ w = some (rd_I (-2)) ∧ ν' = ν) ∨ ((mo_t ν x ∧ mo_t ν y ∧ (0 ≤ k0 ∧ k0 ≤ 9) ∧ mo_o ν x (22 + k0) = -6 ∧ mo_lk (fun q => mo_o ν x (22 + q)) 10 = 3) ∧ w = some (rd_I (-4)) ∧ ν' = ν) ∨ ((mo_t ν x ∧ mo_t ν y ∧ (0 ≤ k0 ∧ k0 ≤ 9) ∧ ¬ (mo_o ν x (22 + k0) = -6 ∧ mo_lk (fun q => mo_o ν x (22 + q)) 10 = 3)) ∧ w = some (rd_I (mo_lk (fun q => mo_o (rd_u ν 1 (156 + 32 * x + (22 + k0)) y) x (22 + q)) 10)) ∧ ν' = rd_u ν 1 (156 + 32 * x + (22 + k0)) y)) : w = v ∧ pg_T μ ν l μ' ν' v := by
  have hK := pg_keep hR
  have hlo : ∀ a : Int, a < 62 → rd_keep μ a = μ a := fun a ha => pg_klo hR ha
  have ht := rl_t hR.1.2.1
  have hkt := pg_kth hR
  have hlk : sp_th μ x → (mo_lk (fun q => mo_o ν x (22 + q)) 10 = sp_lk (μ (5 + 5 * x + 4)) 10 ∧ sp_lk (μ (5 + 5 * x + 4)) 10 ≤ 3) ∧ ((0 ≤ k0 ∧ k0 ≤ 9) → (mo_o ν x (22 + k0) = -6 ↔ μ (5 + 5 * x + 4) k0 = -1)) := fun hx => by
    have hg := (hR.1.1.2.2.2.2.2.2.2 x hx.1.1 (by have := hx.1.2; omega)).1 hx
    have hr := rl_row hR.1.2.1 hx
    exact ⟨⟨rl_lk hg hr 10 (Nat.le_refl _), hg.2.2.2⟩, fun h => rl_m6 hg hr h⟩
  rw [ht, ht] at h2
  generalize hA : sp_lk (μ (5 + 5 * x + 4)) 10 = A at *
  generalize hB : mo_lk (fun q => mo_o ν x (22 + q)) 10 = B at *
  rcases h1 with ⟨a, e, m⟩ | ⟨a, e, m⟩ | ⟨a, e, m⟩ | ⟨a, e, m⟩ <;> rcases h2 with ⟨b, f, n⟩ | ⟨b, f, n⟩ | ⟨b, f, n⟩ | ⟨b, f, n⟩ <;> first | (constructor <;> first | (rw [e, f]; done) | exact pg_er e (by decide) (by decide) m n) | (exfalso; clear m n e f hK hlo hR; grind) | skip
  have hxr := a.1.1
  have hk := a.2.2.1
  have hxK := (hkt x).mpr a.1
  have hyK := (hkt y).mpr a.2.1
  have e5 := hlo (5 + 5 * x + 4) (by omega)
  have hle := (hlk a.1).1.2
  have hy1 : y ≠ -1 := by have := a.2.1.1; omega
  have hl3 : sp_lk (rd_u (rd_keep μ) (5 + 5 * x + 4) k0 y (5 + 5 * x + 4)) 10 ≤ 3 := by
    rw [rd_u_row, sp_lk_u _ hk.1 (by omega) hy1, e5, hA]
    by_cases h : μ (5 + 5 * x + 4) k0 = -1
    · rw [if_pos h]; have := a.2.2.2; omega
    · rw [if_neg h]; omega
  have hr := rl_link hK.1 hxK hk (Or.inr hyK) hl3
  rw [mo_z_ne hy1] at hr
  have hF : pg_T μ ν l μ' ν' v := by
    rw [m, n]
    exact pg_op hK hr (fun a' ha => rd_u_ne _ _ _ (by omega)) (fun j hj => rd_u_j _ _ _ (by omega)) (fun a' ha => rd_u_ne _ _ _ ha)
  refine ⟨?_, hF⟩
  have hth : sp_th (rd_u (rd_keep μ) (5 + 5 * x + 4) k0 y) x := by
    unfold sp_th; rw [rd_u_ne _ _ _ (by omega)]; exact hxK
  rw [e, f, rl_lk ((hr.1.2.2.2.2.2.2.2 x hxr.1 (by omega)).1 hth) (rl_row hr.2.1 hth) 10 (Nat.le_refl _)]
set_option maxHeartbeats 1000000 in
theorem pa_unlink {l : List rd_Mem} (hR : pg_S μ ν l) {x k0 : Int} (h1 : (¬ (sp_th μ x ∧ (0 ≤ k0 ∧ k0 ≤ 9) ∧ μ (5 + 5 * x + 4) k0 ≠ -1) ∧ v = some (rd_I (-1)) ∧ μ' = μ) ∨ ((sp_th μ x ∧ (0 ≤ k0 ∧ k0 ≤ 9) ∧ μ (5 + 5 * x + 4) k0 ≠ -1) ∧ v = some (rd_I (sp_lk (rd_u (rd_keep μ) (5 + 5 * x + 4) k0 (-1) (5 + 5 * x + 4)) 10)) ∧ μ' = rd_u (rd_keep μ) (5 + 5 * x + 4) k0 (-1))) (h2 : (¬ (mo_t ν x ∧ (0 ≤ k0 ∧ k0 ≤ 9) ∧ mo_o ν x (22 + k0) ≠ -6) ∧ w = some (rd_I (-1)) ∧ ν' = ν) ∨ ((mo_t ν x ∧ (0 ≤ k0 ∧ k0 ≤ 9) ∧ mo_o ν x (22 + k0) ≠ -6) ∧ w = some (rd_I (mo_lk (fun q => mo_o (rd_u ν 1 (156 + 32 * x + (22 + k0)) (-6)) x (22 + q)) 10)) ∧ ν' = rd_u ν 1 (156 + 32 * x + (22 + k0)) (-6))) : w = v ∧ pg_T μ ν l μ' ν' v := by
  have hK := pg_keep hR
  have hlo : ∀ a : Int, a < 62 → rd_keep μ a = μ a := fun a ha => pg_klo hR ha
  have ht := rl_t hR.1.2.1
  have hkt := pg_kth hR
  have hlk : sp_th μ x → (mo_lk (fun q => mo_o ν x (22 + q)) 10 = sp_lk (μ (5 + 5 * x + 4)) 10 ∧ sp_lk (μ (5 + 5 * x + 4)) 10 ≤ 3) ∧ ((0 ≤ k0 ∧ k0 ≤ 9) → (mo_o ν x (22 + k0) = -6 ↔ μ (5 + 5 * x + 4) k0 = -1)) := fun hx => by
    have hg := (hR.1.1.2.2.2.2.2.2.2 x hx.1.1 (by have := hx.1.2; omega)).1 hx
    have hr := rl_row hR.1.2.1 hx
    exact ⟨⟨rl_lk hg hr 10 (Nat.le_refl _), hg.2.2.2⟩, fun h => rl_m6 hg hr h⟩
  rw [ht] at h2
  rcases h1 with ⟨a, e, m⟩ | ⟨a, e, m⟩ <;> rcases h2 with ⟨b, f, n⟩ | ⟨b, f, n⟩ <;> first | (constructor <;> first | (rw [e, f]; done) | exact pg_er e (by decide) (by decide) m n) | (exfalso; clear m n e f hK hlo hR; grind) | skip
  have hxr := a.1.1
  have hk := a.2.1
  have hxK := (hkt x).mpr a.1
  have e5 := hlo (5 + 5 * x + 4) (by omega)
  have hle := (hlk a.1).1.2
  have hl3 : sp_lk (rd_u (rd_keep μ) (5 + 5 * x + 4) k0 (-1) (5 + 5 * x + 4)) 10 ≤ 3 := by
    refine Int.le_trans (sp_lk_m (t := μ (5 + 5 * x + 4)) (fun k _ _ => ?_)) hle
    by_cases h : k = k0
    · rw [h, rd_u_s]; exact Or.inr rfl
    · rw [rd_u_j _ _ _ h, e5]; exact Or.inl rfl
  have hr := rl_link hK.1 hxK hk (Or.inl rfl) hl3
  rw [show mo_z (-1) = -6 from rfl] at hr
  have hF : pg_T μ ν l μ' ν' v := by
    rw [m, n]
    exact pg_op hK hr (fun a' ha => rd_u_ne _ _ _ (by omega)) (fun j hj => rd_u_j _ _ _ (by omega)) (fun a' ha => rd_u_ne _ _ _ ha)
  refine ⟨?_, hF⟩
  have hth : sp_th (rd_u (rd_keep μ) (5 + 5 * x + 4) k0 (-1)) x := by
    unfold sp_th; rw [rd_u_ne _ _ _ (by omega)]; exact hxK
  rw [e, f, rl_lk ((hr.1.2.2.2.2.2.2.2 x hxr.1 (by omega)).1 hth) (rl_row hr.2.1 hth) 10 (Nat.le_refl _)]
set_option maxHeartbeats 1000000 in
theorem pa_note {l : List rd_Mem} (hR : pg_S μ ν l) {s0 u0 : Int} (h1 : (¬ ((0 ≤ s0 ∧ s0 ≤ 9999) ∧ (-1 ≤ u0 ∧ u0 ≤ 99)) ∧ v = some (rd_I (-2)) ∧ μ' = μ) ∨ ((((0 ≤ s0 ∧ s0 ≤ 9999) ∧ (-1 ≤ u0 ∧ u0 ≤ 99)) ∧ u0 = -1 ∧ sp_ff (fun i => μ 56 i = s0) (μ 55 0).toNat 0 = -1) ∧ v = some (rd_I (-1)) ∧ μ' = μ) ∨ ((((0 ≤ s0 ∧ s0 ≤ 9999) ∧ (-1 ≤ u0 ∧ u0 ≤ 99)) ∧ u0 ≠ -1 ∧ sp_ff (fun i => μ 56 i = s0) (μ 55 0).toNat 0 = -1 ∧ 8 ≤ μ 55 0) ∧ v = some (rd_I (-4)) ∧ μ' = μ) ∨ ((((0 ≤ s0 ∧ s0 ≤ 9999) ∧ (-1 ≤ u0 ∧ u0 ≤ 99)) ∧ u0 = -1 ∧ sp_ff (fun i => μ 56 i = s0) (μ 55 0).toNat 0 ≠ -1) ∧ v = some (rd_I (μ 55 0 - 1)) ∧ μ' = rd_u (rd_u (rd_u (rd_keep μ) 55 0 (μ 55 0 - 1)) 56 (sp_ff (fun i => μ 56 i = s0) (μ 55 0).toNat 0) (μ 56 (μ 55 0 - 1))) 57 (sp_ff (fun i => μ 56 i = s0) (μ 55 0).toNat 0) (μ 57 (μ 55 0 - 1))) ∨ ((((0 ≤ s0 ∧ s0 ≤ 9999) ∧ (-1 ≤ u0 ∧ u0 ≤ 99)) ∧ u0 ≠ -1 ∧ sp_ff (fun i => μ 56 i = s0) (μ 55 0).toNat 0 = -1 ∧ μ 55 0 < 8) ∧ v = some (rd_I (μ 55 0 + 1)) ∧ μ' = rd_u (rd_u (rd_u (rd_keep μ) 56 (μ 55 0) s0) 57 (μ 55 0) u0) 55 0 (μ 55 0 + 1)) ∨ ((((0 ≤ s0 ∧ s0 ≤ 9999) ∧ (-1 ≤ u0 ∧ u0 ≤ 99)) ∧ u0 ≠ -1 ∧ sp_ff (fun i => μ 56 i = s0) (μ 55 0).toNat 0 ≠ -1) ∧ v = some (rd_I (μ 55 0)) ∧ μ' = rd_u (rd_u (rd_keep μ) 56 (sp_ff (fun i => μ 56 i = s0) (μ 55 0).toNat 0) s0) 57 (sp_ff (fun i => μ 56 i = s0) (μ 55 0).toNat 0) u0)) (h2 : (¬ ((0 ≤ s0 ∧ s0 ≤ 9999) ∧ (-1 ≤ u0 ∧ u0 ≤ 99)) ∧ w = some (rd_I (-2)) ∧ ν' = ν) ∨ ((((0 ≤ s0 ∧ s0 ≤ 9999) ∧ (-1 ≤ u0 ∧ u0 ≤ 99)) ∧ u0 = -1 ∧ mo_np ν s0 = -1) ∧ w = some (rd_I (-1)) ∧ ν' = ν) ∨ ((((0 ≤ s0 ∧ s0 ≤ 9999) ∧ (-1 ≤ u0 ∧ u0 ≤ 99)) ∧ u0 ≠ -1 ∧ mo_np ν s0 = -1 ∧ ν 1 11 = 8) ∧ w = some (rd_I (-4)) ∧ ν' = ν) ∨ ((((0 ≤ s0 ∧ s0 ≤ 9999) ∧ (-1 ≤ u0 ∧ u0 ≤ 99)) ∧ u0 = -1 ∧ mo_np ν s0 ≠ -1) ∧ w = some (rd_I (ν 1 11 - 1)) ∧ ν' = rd_u (rd_u (rd_u ν 1 11 (ν 1 11 - 1)) 1 (12 + 2 * (mo_np ν s0)) (ν 1 (12 + 2 * (ν 1 11 - 1)))) 1 (12 + 2 * (mo_np ν s0) + 1) (ν 1 (12 + 2 * (ν 1 11 - 1) + 1))) ∨ ((((0 ≤ s0 ∧ s0 ≤ 9999) ∧ (-1 ≤ u0 ∧ u0 ≤ 99)) ∧ u0 ≠ -1 ∧ mo_np ν s0 = -1 ∧ ν 1 11 ≠ 8) ∧ w = some (rd_I (ν 1 11 + 1)) ∧ ν' = rd_u (rd_u (rd_u ν 1 11 (ν 1 11 + 1)) 1 (12 + 2 * ν 1 11) s0) 1 (12 + 2 * ν 1 11 + 1) u0) ∨ ((((0 ≤ s0 ∧ s0 ≤ 9999) ∧ (-1 ≤ u0 ∧ u0 ≤ 99)) ∧ u0 ≠ -1 ∧ mo_np ν s0 ≠ -1) ∧ w = some (rd_I (ν 1 11 + 0)) ∧ ν' = rd_u (rd_u (rd_u ν 1 11 (ν 1 11 + 0)) 1 (12 + 2 * (mo_np ν s0)) s0) 1 (12 + 2 * (mo_np ν s0) + 1) u0)) : w = v ∧ pg_T μ ν l μ' ν' v := by
  have hK := pg_keep hR
  have hlo : ∀ a : Int, a < 62 → rd_keep μ a = μ a := fun a ha => pg_klo hR ha
  have ht := rl_t hR.1.2.1
  have hkt := pg_kth hR
  have h11 : ν 1 11 = μ 55 0 := hR.1.2.2.1.2.1
  have hnt := hR.1.1.2.2.1
  unfold sp_nt at hnt
  have hnp : mo_np ν s0 = sp_ff (fun i => μ 56 i = s0) (μ 55 0).toNat 0 := by
    unfold mo_np
    rw [h11]
    refine sp_ff_cl (fun i i0 i1 => ?_)
    show ν 1 (12 + 2 * i) = s0 ↔ μ 56 i = s0
    rw [(hR.1.2.2.1.2.2 i i0 (by omega)).1]
  have hs11 : ν 1 11 = μ 55 0 := by rw [hK.1.2.2.1.2.1, hlo 55 (by omega)]
  have hpr : sp_ff (fun i => μ 56 i = s0) (μ 55 0).toNat 0 = -1 ∨ (0 ≤ sp_ff (fun i => μ 56 i = s0) (μ 55 0).toNat 0 ∧ sp_ff (fun i => μ 56 i = s0) (μ 55 0).toNat 0 < μ 55 0) := by
    rcases sp_ff_spec (fun i => μ 56 i = s0) (μ 55 0).toNat 0 with ⟨h, -⟩ | ⟨h, -⟩
    · exact Or.inl h
    · exact Or.inr ⟨h.1, by omega⟩
  rw [hnp, h11] at h2
  generalize sp_ff (fun i => μ 56 i = s0) (μ 55 0).toNat 0 = p at *
  rcases h1 with ⟨a, e, m⟩ | ⟨a, e, m⟩ | ⟨a, e, m⟩ | ⟨a, e, m⟩ | ⟨a, e, m⟩ | ⟨a, e, m⟩ <;> rcases h2 with ⟨b, f, n⟩ | ⟨b, f, n⟩ | ⟨b, f, n⟩ | ⟨b, f, n⟩ | ⟨b, f, n⟩ | ⟨b, f, n⟩ <;> first | (constructor <;> first | (rw [e, f]; done) | exact pg_er e (by decide) (by decide) m n) | (exfalso; clear m n e f hK hlo hR; grind) | skip
  · have hr := rl_note_rm hK.1 (p := p) (by omega) (by rw [hlo 55 (by omega)]; omega)
    rw [hlo 55 (by omega), hlo 56 (by omega), hlo 57 (by omega)] at hr
    rw [e, f, m, n]
    rw [hs11] at hr
    exact ⟨rfl, pg_op hK hr (fun a' ha => by rw [rd_u_ne _ _ _ (by omega), rd_u_ne _ _ _ (by omega), rd_u_ne _ _ _ (by omega)]) (fun j hj => by rw [rd_u_j _ _ _ (by omega), rd_u_j _ _ _ (by omega), rd_u_j _ _ _ (by omega)]) (fun a' ha => by rw [rd_u_ne _ _ _ ha, rd_u_ne _ _ _ ha, rd_u_ne _ _ _ ha])⟩
  · have hr := rl_note_add hK.1 (by rw [hlo 55 (by omega)]; omega) s0 u0
    rw [hlo 55 (by omega)] at hr
    rw [e, f, m, n]
    rw [hs11] at hr
    exact ⟨rfl, pg_op hK hr (fun a' ha => by rw [rd_u_ne _ _ _ (by omega), rd_u_ne _ _ _ (by omega), rd_u_ne _ _ _ (by omega)]) (fun j hj => by rw [rd_u_j _ _ _ (by omega), rd_u_j _ _ _ (by omega), rd_u_j _ _ _ (by omega)]) (fun a' ha => by rw [rd_u_ne _ _ _ ha, rd_u_ne _ _ _ ha, rd_u_ne _ _ _ ha])⟩
  · have hr := rl_note_ch hK.1 (p := p) (by omega) (by rw [hlo 55 (by omega)]; omega) s0 u0
    rw [e, f, m, n]
    rw [hs11] at hr
    exact ⟨by rw [Int.add_zero], pg_op hK hr (fun a' ha => by rw [rd_u_ne _ _ _ (by omega), rd_u_ne _ _ _ (by omega)]) (fun j hj => by rw [rd_u_j _ _ _ (by omega), rd_u_j _ _ _ (by omega), rd_u_j _ _ _ (by omega)]) (fun a' ha => by rw [rd_u_ne _ _ _ ha, rd_u_ne _ _ _ ha, rd_u_ne _ _ _ ha])⟩
set_option maxHeartbeats 1000000 in
theorem pa_setEnd {l : List rd_Mem} (hR : pg_S μ ν l) {q0 : Int} (h1 : ((q0 < 0 ∨ 9999 < q0) ∧ v = some (rd_I (-2)) ∧ μ' = μ) ∨ ((0 ≤ q0 ∧ q0 ≤ 9999) ∧ v = some (rd_I (μ 1 0)) ∧ μ' = rd_u (rd_keep μ) 1 0 q0)) (h2 : ((q0 < 0 ∨ 9999 < q0) ∧ w = some (rd_I (-2)) ∧ ν' = ν) ∨ ((0 ≤ q0 ∧ q0 ≤ 9999) ∧ w = some (rd_I (ν 1 28)) ∧ ν' = rd_u ν 1 28 q0)) : w = v ∧ pg_T μ ν l μ' ν' v := by
  have hK := pg_keep hR
  have hlo : ∀ a : Int, a < 62 → rd_keep μ a = μ a := fun a ha => pg_klo hR ha
  have ht := rl_t hR.1.2.1
  have hkt := pg_kth hR
  rcases h1 with ⟨a, e, m⟩ | ⟨a, e, m⟩ <;> rcases h2 with ⟨b, f, n⟩ | ⟨b, f, n⟩ <;> first | (constructor <;> first | (rw [e, f]; done) | exact pg_er e (by decide) (by decide) m n) | (exfalso; clear m n e f hK hlo hR; grind) | skip
  rw [e, f, m, n, hK.1.2.2.1.1, hlo 1 (by omega)]
  exact ⟨rfl, pg_op hK (rl_end hK.1 q0) (fun a' ha => rd_u_ne _ _ _ (by omega)) (fun j hj => rd_u_j _ _ _ (by omega)) (fun a' ha => rd_u_ne _ _ _ ha)⟩
set_option maxHeartbeats 1000000 in
theorem pa_start {l : List rd_Mem} (hR : pg_S μ ν l) (h1 : (sp_next μ 0 = -1 ∧ v = some (rd_I (-5)) ∧ μ' = μ) ∨ (sp_next μ 0 ≠ -1 ∧ v = some (rd_I (sp_next μ 0)) ∧ μ' = rd_u (rd_shc (rd_keep μ)) 58 0 (sp_next μ 0))) (h2 : (mo_nx ν 0 = -1 ∧ w = some (rd_I (-5)) ∧ ν' = ν) ∨ (mo_nx ν 0 ≠ -1 ∧ w = some (rd_I (mo_nx ν 0)) ∧ ν' = mo_st ν (mo_nx ν 0))) : w = v ∧ pg_T μ ν l μ' ν' v := by
  have hK := pg_keep hR
  have hlo : ∀ a : Int, a < 62 → rd_keep μ a = μ a := fun a ha => pg_klo hR ha
  have ht := rl_t hR.1.2.1
  have hkt := pg_kth hR
  have hnx := rl_nx hR.1.1 hR.1.2.1 (a := 0) (Int.le_refl 0)
  rw [hnx] at h2
  rcases h1 with ⟨a, e, m⟩ | ⟨a, e, m⟩ <;> rcases h2 with ⟨b, f, n⟩ | ⟨b, f, n⟩ <;> first | (constructor <;> first | (rw [e, f]; done) | exact pg_er e (by decide) (by decide) m n) | (exfalso; clear m n e f hK hlo hR; grind) | skip
  have hth : sp_th μ (sp_next μ 0) := by
    unfold sp_next at a ⊢
    rcases sp_nx_spec (μ 3) (sp_sh μ) (μ 2 0 - 0).toNat 0 with ⟨h, -⟩ | ⟨k, -, h, h4, -⟩
    · exact absurd h a
    · rw [h]; exact h4.1
  have hr := rl_start hK.1 ((hkt _).mpr hth)
  rw [e, f, m, n]
  refine ⟨rfl, pg_op hK hr (fun a' ha => ?_) (fun j hj => ?_) (fun a' ha => ?_)⟩
  · unfold rd_shc; iterate 7 rw [rd_u_ne _ _ _ (by omega)]
  · unfold mo_st; iterate 7 rw [rd_u_j _ _ _ (by omega)]
  · unfold mo_st; iterate 7 rw [rd_u_ne _ _ _ ha]
set_option maxHeartbeats 1000000 in
theorem pa_stop {l : List rd_Mem} (hR : pg_S μ ν l) (h1 : (¬ sp_th μ (μ 58 0) ∧ v = some (rd_I (-5)) ∧ μ' = μ) ∨ (sp_th μ (μ 58 0) ∧ v = some (rd_I (μ 58 3)) ∧ μ' = rd_shc (rd_keep μ))) (h2 : (ν 1 29 = 0 ∧ w = some (rd_I (-5)) ∧ ν' = ν) ∨ (ν 1 29 ≠ 0 ∧ w = some (rd_I (ν 1 32)) ∧ ν' = rd_u ν 1 29 0)) : w = v ∧ pg_T μ ν l μ' ν' v := by
  have hK := pg_keep hR
  have hlo : ∀ a : Int, a < 62 → rd_keep μ a = μ a := fun a ha => pg_klo hR ha
  have ht := rl_t hR.1.2.1
  have hkt := pg_kth hR
  have hon := (rl_on29 hR.1).2
  rcases h1 with ⟨a, e, m⟩ | ⟨a, e, m⟩ <;> rcases h2 with ⟨b, f, n⟩ | ⟨b, f, n⟩ <;> first | (constructor <;> first | (rw [e, f]; done) | exact pg_er e (by decide) (by decide) m n) | (exfalso; clear m n e f hK hlo hR; grind) | skip
  have hhK : sp_th (rd_keep μ) (rd_keep μ 58 0) := by rw [hlo 58 (by omega)]; exact (hkt _).mpr a
  have hp := rl_pp hK.1 hhK
  rw [e, f, m, n, hp.2.2.2.1, hlo 58 (by omega)]
  refine ⟨rfl, pg_op hK (rl_stop hK.1 hhK) (fun a' ha => ?_) (fun j hj => rd_u_j _ _ _ (by omega)) (fun a' ha => rd_u_ne _ _ _ ha)⟩
  unfold rd_shc; iterate 6 rw [rd_u_ne _ _ _ (by omega)]
set_option maxHeartbeats 1000000 in
theorem pa_forward {l : List rd_Mem} (hR : pg_S μ ν l) (h1 : (¬ sp_can μ 102 0 ∧ v = some (rd_I (-5)) ∧ μ' = μ) ∨ (sp_can μ 102 0 ∧ v = some (rd_I (rd_mk (rd_keep μ) 102 0 58 1)) ∧ μ' = rd_mk (rd_keep μ) 102 0)) (h2 : (¬ (mo_on ν ∧ mo_cf ν) ∧ w = some (rd_I (-5)) ∧ ν' = ν) ∨ ((mo_on ν ∧ mo_cf ν) ∧ w = some (rd_I (mo_fw ν 1 31)) ∧ ν' = mo_fw ν)) : w = v ∧ pg_T μ ν l μ' ν' v := by
  have hK := pg_keep hR
  have hlo : ∀ a : Int, a < 62 → rd_keep μ a = μ a := fun a ha => pg_klo hR ha
  have ht := rl_t hR.1.2.1
  have hkt := pg_kth hR
  have hkc : ∀ c q : Int, sp_can (rd_keep μ) c q ↔ sp_can μ c q := fun c q => sp_can_c hlo c q
  have hJK := rl_J hK.1
  have hgo : ∀ c q : Int, (c = 107 → 0 ≤ q ∧ q ≤ 9) → sp_can μ c q → (∀ z, pg_T μ ν l (rd_mk (rd_keep μ) c q) (mo_md ν c q) z) ∧ rl_p (rd_mk (rd_keep μ) c q) (mo_md ν c q) := fun c q hq hc => by
    have hc2 := (hkc c q).mpr hc
    have hm := (rl_can hK.1 hq).mpr hc2
    obtain ⟨g1, g2⟩ := rl_md hK.1 hq hc2
    obtain ⟨o1, o2⟩ := mo_md_o hJK.1 hm
    exact ⟨fun _ => pg_op hK g1 (fun a ha => (rd_mk_wf hK.1.1.1 hK.1.1.2.2.2.2.2.1 hc2).2 a (by omega)) (fun j hj => o1 j (by omega)) o2, rl_pp g1 g2⟩
  have hb : (mo_on ν ∧ mo_cf ν) ↔ sp_can μ 102 0 := by
    rw [← rl_can hR.1 (q := 0) (fun h => absurd h (by decide))]
    unfold mo_can
    exact ⟨fun g => ⟨g.1, fun h => absurd h (by decide), fun _ => g.2, fun h => absurd h (by decide)⟩, fun g => ⟨g.1, g.2.2.1 rfl⟩⟩
  rw [hb] at h2
  rcases h1 with ⟨a, e, m⟩ | ⟨a, e, m⟩ <;> rcases h2 with ⟨b, f, n⟩ | ⟨b, f, n⟩ <;> first | (constructor <;> first | (rw [e, f]; done) | exact pg_er e (by decide) (by decide) m n) | (exfalso; clear m n e f hK hlo hR hgo hJK hkc; grind) | skip
  obtain ⟨g1, g2⟩ := hgo 102 0 (fun h => absurd h (by decide)) a
  have em : mo_md ν 102 0 = mo_fw ν := by unfold mo_md; rw [if_neg (by decide), if_pos rfl]
  rw [em] at g1 g2
  rw [e, f, m, n, g2.2.2.1]
  exact ⟨rfl, g1 _⟩
set_option maxHeartbeats 1000000 in
theorem pa_back {l : List rd_Mem} (hR : pg_S μ ν l) (h1 : (¬ sp_can μ 98 0 ∧ v = some (rd_I (-5)) ∧ μ' = μ) ∨ (sp_can μ 98 0 ∧ v = some (rd_I (rd_mk (rd_keep μ) 98 0 58 1)) ∧ μ' = rd_mk (rd_keep μ) 98 0)) (h2 : (¬ (mo_on ν ∧ mo_bp ν ≠ -1) ∧ w = some (rd_I (-5)) ∧ ν' = ν) ∨ ((mo_on ν ∧ mo_bp ν ≠ -1) ∧ w = some (rd_I (mo_bk ν 1 31)) ∧ ν' = mo_bk ν)) : w = v ∧ pg_T μ ν l μ' ν' v := by
  have hK := pg_keep hR
  have hlo : ∀ a : Int, a < 62 → rd_keep μ a = μ a := fun a ha => pg_klo hR ha
  have ht := rl_t hR.1.2.1
  have hkt := pg_kth hR
  have hkc : ∀ c q : Int, sp_can (rd_keep μ) c q ↔ sp_can μ c q := fun c q => sp_can_c hlo c q
  have hJK := rl_J hK.1
  have hgo : ∀ c q : Int, (c = 107 → 0 ≤ q ∧ q ≤ 9) → sp_can μ c q → (∀ z, pg_T μ ν l (rd_mk (rd_keep μ) c q) (mo_md ν c q) z) ∧ rl_p (rd_mk (rd_keep μ) c q) (mo_md ν c q) := fun c q hq hc => by
    have hc2 := (hkc c q).mpr hc
    have hm := (rl_can hK.1 hq).mpr hc2
    obtain ⟨g1, g2⟩ := rl_md hK.1 hq hc2
    obtain ⟨o1, o2⟩ := mo_md_o hJK.1 hm
    exact ⟨fun _ => pg_op hK g1 (fun a ha => (rd_mk_wf hK.1.1.1 hK.1.1.2.2.2.2.2.1 hc2).2 a (by omega)) (fun j hj => o1 j (by omega)) o2, rl_pp g1 g2⟩
  have hb : (mo_on ν ∧ mo_bp ν ≠ -1) ↔ sp_can μ 98 0 := by
    rw [← rl_can hR.1 (q := 0) (fun h => absurd h (by decide))]
    unfold mo_can
    exact ⟨fun g => ⟨g.1, fun _ => g.2, fun h => absurd h (by decide), fun h => absurd h (by decide)⟩, fun g => ⟨g.1, g.2.1 rfl⟩⟩
  rw [hb] at h2
  rcases h1 with ⟨a, e, m⟩ | ⟨a, e, m⟩ <;> rcases h2 with ⟨b, f, n⟩ | ⟨b, f, n⟩ <;> first | (constructor <;> first | (rw [e, f]; done) | exact pg_er e (by decide) (by decide) m n) | (exfalso; clear m n e f hK hlo hR hgo hJK hkc; grind) | skip
  obtain ⟨g1, g2⟩ := hgo 98 0 (fun h => absurd h (by decide)) a
  have em : mo_md ν 98 0 = mo_bk ν := by unfold mo_md; rw [if_pos rfl]
  rw [em] at g1 g2
  rw [e, f, m, n, g2.2.2.1]
  exact ⟨rfl, g1 _⟩
set_option maxHeartbeats 1000000 in
theorem pa_press {l : List rd_Mem} (hR : pg_S μ ν l) {k0 : Int} (h1 : ((k0 < 0 ∨ 9 < k0) ∧ v = some (rd_I (-2)) ∧ μ' = μ) ∨ (((0 ≤ k0 ∧ k0 ≤ 9) ∧ ¬ sp_can μ 107 k0) ∧ v = some (rd_I (-5)) ∧ μ' = μ) ∨ (((0 ≤ k0 ∧ k0 ≤ 9) ∧ sp_can μ 107 k0) ∧ v = some (rd_I (rd_mk (rd_keep μ) 107 k0 58 0)) ∧ μ' = rd_mk (rd_keep μ) 107 k0)) (h2 : ((k0 < 0 ∨ 9 < k0) ∧ w = some (rd_I (-2)) ∧ ν' = ν) ∨ (((0 ≤ k0 ∧ k0 ≤ 9) ∧ ¬ (mo_on ν ∧ mo_o ν (ν 1 30) (22 + k0) ≠ -6)) ∧ w = some (rd_I (-5)) ∧ ν' = ν) ∨ (((0 ≤ k0 ∧ k0 ≤ 9) ∧ (mo_on ν ∧ mo_o ν (ν 1 30) (22 + k0) ≠ -6)) ∧ w = some (rd_I (mo_cm ν (mo_o ν (ν 1 30) (22 + k0)) 0 1 1 30)) ∧ ν' = mo_cm ν (mo_o ν (ν 1 30) (22 + k0)) 0 1)) : w = v ∧ pg_T μ ν l μ' ν' v := by
  have hK := pg_keep hR
  have hlo : ∀ a : Int, a < 62 → rd_keep μ a = μ a := fun a ha => pg_klo hR ha
  have ht := rl_t hR.1.2.1
  have hkt := pg_kth hR
  have hkc : ∀ c q : Int, sp_can (rd_keep μ) c q ↔ sp_can μ c q := fun c q => sp_can_c hlo c q
  have hJK := rl_J hK.1
  have hgo : ∀ c q : Int, (c = 107 → 0 ≤ q ∧ q ≤ 9) → sp_can μ c q → (∀ z, pg_T μ ν l (rd_mk (rd_keep μ) c q) (mo_md ν c q) z) ∧ rl_p (rd_mk (rd_keep μ) c q) (mo_md ν c q) := fun c q hq hc => by
    have hc2 := (hkc c q).mpr hc
    have hm := (rl_can hK.1 hq).mpr hc2
    obtain ⟨g1, g2⟩ := rl_md hK.1 hq hc2
    obtain ⟨o1, o2⟩ := mo_md_o hJK.1 hm
    exact ⟨fun _ => pg_op hK g1 (fun a ha => (rd_mk_wf hK.1.1.1 hK.1.1.2.2.2.2.2.1 hc2).2 a (by omega)) (fun j hj => o1 j (by omega)) o2, rl_pp g1 g2⟩
  have hb : (0 ≤ k0 ∧ k0 ≤ 9) → ((mo_on ν ∧ mo_o ν (ν 1 30) (22 + k0) ≠ -6) ↔ sp_can μ 107 k0) := fun hk => by
    rw [← rl_can hR.1 (q := k0) (fun _ => hk)]
    unfold mo_can
    exact ⟨fun g => ⟨g.1, fun h => absurd h (by decide), fun h => absurd h (by decide), fun _ => g.2⟩, fun g => ⟨g.1, g.2.2.2 rfl⟩⟩
  generalize hA : (mo_on ν ∧ mo_o ν (ν 1 30) (22 + k0) ≠ -6) = A at *
  generalize hB : sp_can μ 107 k0 = B at *
  rcases h1 with ⟨a, e, m⟩ | ⟨a, e, m⟩ | ⟨a, e, m⟩ <;> rcases h2 with ⟨b, f, n⟩ | ⟨b, f, n⟩ | ⟨b, f, n⟩ <;> first | (constructor <;> first | (rw [e, f]; done) | exact pg_er e (by decide) (by decide) m n) | (exfalso; clear m n e f hK hlo hR hgo hJK hkc; grind) | skip
  obtain ⟨g1, g2⟩ := hgo 107 k0 (fun _ => a.1) (by rw [hB]; exact a.2)
  have em : mo_md ν 107 k0 = mo_cm ν (mo_o ν (ν 1 30) (22 + k0)) 0 1 := by unfold mo_md; rw [if_neg (by decide), if_neg (by decide), if_pos rfl]
  rw [em] at g1 g2
  rw [e, f, m, n, g2.2.1]
  exact ⟨rfl, g1 _⟩
set_option maxHeartbeats 1000000 in
theorem pa_tick {l : List rd_Mem} (hR : pg_S μ ν l) {q0 : Int} (h1 : ((q0 < 1 ∨ 99 < q0) ∧ v = some (rd_I (-2)) ∧ μ' = μ) ∨ (((1 ≤ q0 ∧ q0 ≤ 99) ∧ ¬ sp_can μ 116 q0) ∧ v = some (rd_I (-5)) ∧ μ' = μ) ∨ (((1 ≤ q0 ∧ q0 ≤ 99) ∧ sp_can μ 116 q0) ∧ v = some (rd_I (sp_ps q0.toNat (rd_keep μ))) ∧ μ' = rd_ps q0.toNat (rd_keep μ))) (h2 : ((q0 < 1 ∨ 99 < q0) ∧ w = some (rd_I (-2)) ∧ ν' = ν) ∨ (((1 ≤ q0 ∧ q0 ≤ 99) ∧ ¬ mo_on ν) ∧ w = some (rd_I (-5)) ∧ ν' = ν) ∨ (((1 ≤ q0 ∧ q0 ≤ 99) ∧ mo_on ν) ∧ w = some (rd_I (mo_pn q0.toNat ν)) ∧ ν' = mo_ps q0.toNat ν)) : w = v ∧ pg_T μ ν l μ' ν' v := by
  have hK := pg_keep hR
  have hlo : ∀ a : Int, a < 62 → rd_keep μ a = μ a := fun a ha => pg_klo hR ha
  have ht := rl_t hR.1.2.1
  have hkt := pg_kth hR
  have hkc : ∀ c q : Int, sp_can (rd_keep μ) c q ↔ sp_can μ c q := fun c q => sp_can_c hlo c q
  have hJK := rl_J hK.1
  have hgo : ∀ c q : Int, (c = 107 → 0 ≤ q ∧ q ≤ 9) → sp_can μ c q → (∀ z, pg_T μ ν l (rd_mk (rd_keep μ) c q) (mo_md ν c q) z) ∧ rl_p (rd_mk (rd_keep μ) c q) (mo_md ν c q) := fun c q hq hc => by
    have hc2 := (hkc c q).mpr hc
    have hm := (rl_can hK.1 hq).mpr hc2
    obtain ⟨g1, g2⟩ := rl_md hK.1 hq hc2
    obtain ⟨o1, o2⟩ := mo_md_o hJK.1 hm
    exact ⟨fun _ => pg_op hK g1 (fun a ha => (rd_mk_wf hK.1.1.1 hK.1.1.2.2.2.2.2.1 hc2).2 a (by omega)) (fun j hj => o1 j (by omega)) o2, rl_pp g1 g2⟩
  have hb : mo_on ν ↔ sp_can μ 116 q0 := by
    rw [← rl_can hR.1 (q := q0) (fun h => absurd h (by decide))]
    unfold mo_can
    exact ⟨fun g => ⟨g, fun h => absurd h (by decide), fun h => absurd h (by decide), fun h => absurd h (by decide)⟩, fun g => g.1⟩
  rw [hb] at h2
  rcases h1 with ⟨a, e, m⟩ | ⟨a, e, m⟩ | ⟨a, e, m⟩ <;> rcases h2 with ⟨b, f, n⟩ | ⟨b, f, n⟩ | ⟨b, f, n⟩ <;> first | (constructor <;> first | (rw [e, f]; done) | exact pg_er e (by decide) (by decide) m n) | (exfalso; clear m n e f hK hlo hR hgo hJK hkc; grind) | skip
  obtain ⟨g1, g2⟩ := hgo 116 q0 (fun h => absurd h (by decide)) a.2
  have em : mo_md ν 116 q0 = mo_ps q0.toNat ν := by unfold mo_md; rw [if_neg (by decide), if_neg (by decide), if_neg (by decide)]
  have ec : rd_mk (rd_keep μ) 116 q0 = rd_ps q0.toNat (rd_keep μ) := by unfold rd_mk; rw [if_neg (by decide), if_neg (by decide), if_neg (by decide)]
  rw [em, ec] at g1 g2
  rw [e, f, m, n, (rl_ps q0.toNat hK.1 (((hkc 116 q0).mpr a.2).1)).2]
  exact ⟨rfl, g1 _⟩
end RO
