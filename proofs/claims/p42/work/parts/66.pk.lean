/-! the public methods over ghosts -/
noncomputable def pg_if {α : Type} (c : Prop) (a b : α) : α := @ite α c (Classical.propDecidable c) a b
theorem pg_ift {α : Type} {c : Prop} (h : c) (a b : α) : pg_if c a b = a := by unfold pg_if; exact if_pos h
theorem pg_iff {α : Type} {c : Prop} (h : ¬ c) (a b : α) : pg_if c a b = b := by unfold pg_if; exact if_neg h
theorem pg_M {l : Launch} {G : rd_G} {kd : Int → Nat} {N r : Nat} {y : MethodName} {cc : ByteArray} {nl : Nat} {ret : Option FieldType} {rm : Room} {as : List rd_X} {μ : rd_Mem} {A B : Option rd_X → rd_Mem → Prop} (h : rd_M l G kd N r y cc nl ret rm as μ A) (hw : ∀ v μ', A v μ' → B v μ') : rd_M l G kd N r y cc nl ret rm as μ B := by
  intro p e ha hf hc s m args below h1 h2 h3 h4
  obtain ⟨n, o, a1, a2, a3, ⟨⟨v, μ', e1, hp, r1⟩, hF⟩, a5⟩ := h p e ha hf hc s m args below h1 h2 h3 h4
  exact ⟨n, o, a1, a2, a3, ⟨⟨v, μ', e1, hw v μ' hp, r1⟩, hF⟩, a5⟩
noncomputable def pf_addSlide (π : rd_Mem) : Int × rd_Mem := (pg_if (π 1 0 = 10) (-4, π) (mo_fr π, mo_ad π (mo_fr π)))
theorem pf_addSlide_s (π : rd_Mem) : (π 1 0 = 10 ∧ some (rd_I (pf_addSlide π).1) = some (rd_I (-4)) ∧ (pf_addSlide π).2 = π) ∨ (π 1 0 ≠ 10 ∧ some (rd_I (pf_addSlide π).1) = some (rd_I (mo_fr π)) ∧ (pf_addSlide π).2 = mo_ad π (mo_fr π)) := by
  unfold pf_addSlide
  by_cases h0 : π 1 0 = 10
  · rw [pg_ift h0]; exact Or.inl (⟨h0, rfl, rfl⟩)
  rw [pg_iff h0]
  have hl : π 1 0 ≠ 10 := by grind
  exact Or.inr (⟨hl, rfl, rfl⟩)
theorem kq_addSlide {lz : Launch} {G : rd_G} {r : Nat} {μ π : rd_Mem} {l : List rd_Mem} (hS : pg_S μ π l) : rd_M lz G rd_kc 313 r yX9_addSlide cX9_addSlide 2 (some .int) (rd_rm 5 125) [rd_R 0] μ (fun v μ' => v = some (rd_I (pf_addSlide π).1) ∧ pg_T μ π l μ' (pf_addSlide π).2 v) :=
  pg_M (c_X9_addSlide (pg_inv hS)) (fun v μ' h1 => by
    have h := pa_addSlide hS h1 (pf_addSlide_s π )
    exact ⟨h.1.symm, h.2⟩)
noncomputable def pf_removeSlide (π : rd_Mem) (x : Int) : Int × rd_Mem := (pg_if (¬ mo_t π x) (-1, π) (pg_if ((mo_t π x ∧ π 1 29 = 1 ∧ π 1 30 = x)) (-5, π) (π 1 0 - 1, mo_rm π x)))
theorem pf_removeSlide_s (π : rd_Mem) (x : Int) : (¬ mo_t π x ∧ some (rd_I (pf_removeSlide π x).1) = some (rd_I (-1)) ∧ (pf_removeSlide π x).2 = π) ∨ ((mo_t π x ∧ π 1 29 = 1 ∧ π 1 30 = x) ∧ some (rd_I (pf_removeSlide π x).1) = some (rd_I (-5)) ∧ (pf_removeSlide π x).2 = π) ∨ ((mo_t π x ∧ ¬ (π 1 29 = 1 ∧ π 1 30 = x)) ∧ some (rd_I (pf_removeSlide π x).1) = some (rd_I (π 1 0 - 1)) ∧ (pf_removeSlide π x).2 = mo_rm π x) := by
  unfold pf_removeSlide
  by_cases h0 : ¬ mo_t π x
  · rw [pg_ift h0]; exact Or.inl (⟨h0, rfl, rfl⟩)
  rw [pg_iff h0]
  by_cases h1 : (mo_t π x ∧ π 1 29 = 1 ∧ π 1 30 = x)
  · rw [pg_ift h1]; exact Or.inr (Or.inl (⟨h1, rfl, rfl⟩))
  rw [pg_iff h1]
  have hl : (mo_t π x ∧ ¬ (π 1 29 = 1 ∧ π 1 30 = x)) := by grind
  exact Or.inr (Or.inr (⟨hl, rfl, rfl⟩))
theorem kq_removeSlide {lz : Launch} {G : rd_G} {r : Nat} {μ π : rd_Mem} {l : List rd_Mem} (hS : pg_S μ π l) {x : Int} : rd_M lz G rd_kc 313 r yX9_removeSlide cX9_removeSlide 2 (some .int) (rd_rm 5 125) [rd_R 0, rd_I x] μ (fun v μ' => v = some (rd_I (pf_removeSlide π x).1) ∧ pg_T μ π l μ' (pf_removeSlide π x).2 v) :=
  pg_M (c_X9_removeSlide (pg_inv hS)) (fun v μ' h1 => by
    have h := pa_removeSlide hS h1 (pf_removeSlide_s π x)
    exact ⟨h.1.symm, h.2⟩)
noncomputable def pf_moveSlide (π : rd_Mem) (x q0 : Int) : Int × rd_Mem := (pg_if (¬ mo_t π x) (-1, π) (pg_if ((mo_t π x ∧ (q0 < 0 ∨ π 1 0 - 1 < q0))) (-2, π) (mo_pl π x, mo_in (mo_to π (mo_pl π x)) q0 x)))
theorem pf_moveSlide_s (π : rd_Mem) (x q0 : Int) : (¬ mo_t π x ∧ some (rd_I (pf_moveSlide π x q0).1) = some (rd_I (-1)) ∧ (pf_moveSlide π x q0).2 = π) ∨ ((mo_t π x ∧ (q0 < 0 ∨ π 1 0 - 1 < q0)) ∧ some (rd_I (pf_moveSlide π x q0).1) = some (rd_I (-2)) ∧ (pf_moveSlide π x q0).2 = π) ∨ ((mo_t π x ∧ (0 ≤ q0 ∧ q0 ≤ π 1 0 - 1)) ∧ some (rd_I (pf_moveSlide π x q0).1) = some (rd_I (mo_pl π x)) ∧ (pf_moveSlide π x q0).2 = mo_in (mo_to π (mo_pl π x)) q0 x) := by
  unfold pf_moveSlide
  by_cases h0 : ¬ mo_t π x
  · rw [pg_ift h0]; exact Or.inl (⟨h0, rfl, rfl⟩)
  rw [pg_iff h0]
  by_cases h1 : (mo_t π x ∧ (q0 < 0 ∨ π 1 0 - 1 < q0))
  · rw [pg_ift h1]; exact Or.inr (Or.inl (⟨h1, rfl, rfl⟩))
  rw [pg_iff h1]
  have hl : (mo_t π x ∧ (0 ≤ q0 ∧ q0 ≤ π 1 0 - 1)) := by grind
  exact Or.inr (Or.inr (⟨hl, rfl, rfl⟩))
theorem kq_moveSlide {lz : Launch} {G : rd_G} {r : Nat} {μ π : rd_Mem} {l : List rd_Mem} (hS : pg_S μ π l) {x q0 : Int} : rd_M lz G rd_kc 313 r yX9_moveSlide cX9_moveSlide 4 (some .int) (rd_rm 5 125) [rd_R 0, rd_I x, rd_I q0] μ (fun v μ' => v = some (rd_I (pf_moveSlide π x q0).1) ∧ pg_T μ π l μ' (pf_moveSlide π x q0).2 v) :=
  pg_M (c_X9_moveSlide (pg_inv hS)) (fun v μ' h1 => by
    have h := pa_moveSlide hS h1 (pf_moveSlide_s π x q0)
    exact ⟨h.1.symm, h.2⟩)
noncomputable def pf_hide (π : rd_Mem) (x b0 : Int) : Int × rd_Mem := (pg_if (¬ mo_t π x) (-1, π) (sp_sum (fun i => mo_o (rd_u π 1 (156 + 32 * x + 1) b0) ((rd_u π 1 (156 + 32 * x + 1) b0) 1 (1 + i)) 1) (π 1 0).toNat, rd_u π 1 (156 + 32 * x + 1) b0))
theorem pf_hide_s (π : rd_Mem) (x b0 : Int) : (¬ mo_t π x ∧ some (rd_I (pf_hide π x b0).1) = some (rd_I (-1)) ∧ (pf_hide π x b0).2 = π) ∨ (mo_t π x ∧ some (rd_I (pf_hide π x b0).1) = some (rd_I (sp_sum (fun i => mo_o (rd_u π 1 (156 + 32 * x + 1) b0) ((rd_u π 1 (156 + 32 * x + 1) b0) 1 (1 + i)) 1) (π 1 0).toNat)) ∧ (pf_hide π x b0).2 = rd_u π 1 (156 + 32 * x + 1) b0) := by
  unfold pf_hide
  by_cases h0 : ¬ mo_t π x
  · rw [pg_ift h0]; exact Or.inl (⟨h0, rfl, rfl⟩)
  rw [pg_iff h0]
  have hl : mo_t π x := by grind
  exact Or.inr (⟨hl, rfl, rfl⟩)
theorem kq_hide {lz : Launch} {G : rd_G} {r : Nat} {μ π : rd_Mem} {l : List rd_Mem} (hS : pg_S μ π l) {x b0 : Int} (hb0 : b0 = 0 ∨ b0 = 1) : rd_M lz G rd_kc 313 r yX9_hide cX9_hide 4 (some .int) (rd_rm 5 125) [rd_R 0, rd_I x, rd_I b0] μ (fun v μ' => v = some (rd_I (pf_hide π x b0).1) ∧ pg_T μ π l μ' (pf_hide π x b0).2 v) :=
  pg_M (c_X9_hide (pg_inv hS) hb0) (fun v μ' h1 => by
    have h := pa_hide hS hb0 h1 (pf_hide_s π x b0)
    exact ⟨h.1.symm, h.2⟩)
noncomputable def pf_setPause (π : rd_Mem) (x q0 : Int) : Int × rd_Mem := (pg_if (¬ mo_t π x) (-1, π) (pg_if ((mo_t π x ∧ (q0 < 0 ∨ 60 < q0))) (-2, π) (mo_o π x 2, rd_u π 1 (156 + 32 * x + 2) q0)))
theorem pf_setPause_s (π : rd_Mem) (x q0 : Int) : (¬ mo_t π x ∧ some (rd_I (pf_setPause π x q0).1) = some (rd_I (-1)) ∧ (pf_setPause π x q0).2 = π) ∨ ((mo_t π x ∧ (q0 < 0 ∨ 60 < q0)) ∧ some (rd_I (pf_setPause π x q0).1) = some (rd_I (-2)) ∧ (pf_setPause π x q0).2 = π) ∨ ((mo_t π x ∧ (0 ≤ q0 ∧ q0 ≤ 60)) ∧ some (rd_I (pf_setPause π x q0).1) = some (rd_I (mo_o π x 2)) ∧ (pf_setPause π x q0).2 = rd_u π 1 (156 + 32 * x + 2) q0) := by
  unfold pf_setPause
  by_cases h0 : ¬ mo_t π x
  · rw [pg_ift h0]; exact Or.inl (⟨h0, rfl, rfl⟩)
  rw [pg_iff h0]
  by_cases h1 : (mo_t π x ∧ (q0 < 0 ∨ 60 < q0))
  · rw [pg_ift h1]; exact Or.inr (Or.inl (⟨h1, rfl, rfl⟩))
  rw [pg_iff h1]
  have hl : (mo_t π x ∧ (0 ≤ q0 ∧ q0 ≤ 60)) := by grind
  exact Or.inr (Or.inr (⟨hl, rfl, rfl⟩))
theorem kq_setPause {lz : Launch} {G : rd_G} {r : Nat} {μ π : rd_Mem} {l : List rd_Mem} (hS : pg_S μ π l) {x q0 : Int} : rd_M lz G rd_kc 313 r yX9_setPause cX9_setPause 5 (some .int) (rd_rm 5 125) [rd_R 0, rd_I x, rd_I q0] μ (fun v μ' => v = some (rd_I (pf_setPause π x q0).1) ∧ pg_T μ π l μ' (pf_setPause π x q0).2 v) :=
  pg_M (c_X9_setPause (pg_inv hS)) (fun v μ' h1 => by
    have h := pa_setPause hS h1 (pf_setPause_s π x q0)
    exact ⟨h.1.symm, h.2⟩)
noncomputable def pf_addItem (π : rd_Mem) (x f0 l0 t0 : Int) : Int × rd_Mem := (pg_if (¬ mo_t π x) (-1, π) (pg_if ((mo_t π x ∧ ¬ ((0 ≤ f0 ∧ f0 ≤ 9) ∧ (l0 = -1 ∨ (f0 ≤ l0 ∧ l0 ≤ 9)) ∧ (0 ≤ t0 ∧ t0 ≤ 99)))) (-2, π) (pg_if ((mo_t π x ∧ ((0 ≤ f0 ∧ f0 ≤ 9) ∧ (l0 = -1 ∨ (f0 ≤ l0 ∧ l0 ≤ 9)) ∧ (0 ≤ t0 ∧ t0 ≤ 99)) ∧ mo_o π x 3 = 6)) (-4, π) (mo_o π x 3, rd_u (rd_u (rd_u (rd_u π 1 (156 + 32 * x + (4 + 3 * (mo_o π x 3))) f0) 1 (156 + 32 * x + (4 + 3 * (mo_o π x 3) + 1)) l0) 1 (156 + 32 * x + (4 + 3 * (mo_o π x 3) + 2)) t0) 1 (156 + 32 * x + 3) (mo_o π x 3 + 1)))))
theorem pf_addItem_s (π : rd_Mem) (x f0 l0 t0 : Int) : (¬ mo_t π x ∧ some (rd_I (pf_addItem π x f0 l0 t0).1) = some (rd_I (-1)) ∧ (pf_addItem π x f0 l0 t0).2 = π) ∨ ((mo_t π x ∧ ¬ ((0 ≤ f0 ∧ f0 ≤ 9) ∧ (l0 = -1 ∨ (f0 ≤ l0 ∧ l0 ≤ 9)) ∧ (0 ≤ t0 ∧ t0 ≤ 99))) ∧ some (rd_I (pf_addItem π x f0 l0 t0).1) = some (rd_I (-2)) ∧ (pf_addItem π x f0 l0 t0).2 = π) ∨ ((mo_t π x ∧ ((0 ≤ f0 ∧ f0 ≤ 9) ∧ (l0 = -1 ∨ (f0 ≤ l0 ∧ l0 ≤ 9)) ∧ (0 ≤ t0 ∧ t0 ≤ 99)) ∧ mo_o π x 3 = 6) ∧ some (rd_I (pf_addItem π x f0 l0 t0).1) = some (rd_I (-4)) ∧ (pf_addItem π x f0 l0 t0).2 = π) ∨ ((mo_t π x ∧ ((0 ≤ f0 ∧ f0 ≤ 9) ∧ (l0 = -1 ∨ (f0 ≤ l0 ∧ l0 ≤ 9)) ∧ (0 ≤ t0 ∧ t0 ≤ 99)) ∧ mo_o π x 3 ≠ 6) ∧ some (rd_I (pf_addItem π x f0 l0 t0).1) = some (rd_I (mo_o π x 3)) ∧ (pf_addItem π x f0 l0 t0).2 = rd_u (rd_u (rd_u (rd_u π 1 (156 + 32 * x + (4 + 3 * (mo_o π x 3))) f0) 1 (156 + 32 * x + (4 + 3 * (mo_o π x 3) + 1)) l0) 1 (156 + 32 * x + (4 + 3 * (mo_o π x 3) + 2)) t0) 1 (156 + 32 * x + 3) (mo_o π x 3 + 1)) := by
  unfold pf_addItem
  by_cases h0 : ¬ mo_t π x
  · rw [pg_ift h0]; exact Or.inl (⟨h0, rfl, rfl⟩)
  rw [pg_iff h0]
  by_cases h1 : (mo_t π x ∧ ¬ ((0 ≤ f0 ∧ f0 ≤ 9) ∧ (l0 = -1 ∨ (f0 ≤ l0 ∧ l0 ≤ 9)) ∧ (0 ≤ t0 ∧ t0 ≤ 99)))
  · rw [pg_ift h1]; exact Or.inr (Or.inl (⟨h1, rfl, rfl⟩))
  rw [pg_iff h1]
  by_cases h2 : (mo_t π x ∧ ((0 ≤ f0 ∧ f0 ≤ 9) ∧ (l0 = -1 ∨ (f0 ≤ l0 ∧ l0 ≤ 9)) ∧ (0 ≤ t0 ∧ t0 ≤ 99)) ∧ mo_o π x 3 = 6)
  · rw [pg_ift h2]; exact Or.inr (Or.inr (Or.inl (⟨h2, rfl, rfl⟩)))
  rw [pg_iff h2]
  have hl : (mo_t π x ∧ ((0 ≤ f0 ∧ f0 ≤ 9) ∧ (l0 = -1 ∨ (f0 ≤ l0 ∧ l0 ≤ 9)) ∧ (0 ≤ t0 ∧ t0 ≤ 99)) ∧ mo_o π x 3 ≠ 6) := by grind
  exact Or.inr (Or.inr (Or.inr (⟨hl, rfl, rfl⟩)))
theorem kq_addItem {lz : Launch} {G : rd_G} {r : Nat} {μ π : rd_Mem} {l : List rd_Mem} (hS : pg_S μ π l) {x f0 l0 t0 : Int} : rd_M lz G rd_kc 313 r yX9_addItem cX9_addItem 6 (some .int) (rd_rm 5 125) [rd_R 0, rd_I x, rd_I f0, rd_I l0, rd_I t0] μ (fun v μ' => v = some (rd_I (pf_addItem π x f0 l0 t0).1) ∧ pg_T μ π l μ' (pf_addItem π x f0 l0 t0).2 v) :=
  pg_M (c_X9_addItem (pg_inv hS)) (fun v μ' h1 => by
    have h := pa_addItem hS h1 (pf_addItem_s π x f0 l0 t0)
    exact ⟨h.1.symm, h.2⟩)
noncomputable def pf_removeItem (π : rd_Mem) (x q0 : Int) : Int × rd_Mem := (pg_if (¬ (mo_t π x ∧ 0 ≤ q0 ∧ q0 ≤ mo_o π x 3 - 1)) (-1, π) (mo_o π x 3 - 1, mo_cl (mo_di π x q0) x))
theorem pf_removeItem_s (π : rd_Mem) (x q0 : Int) : (¬ (mo_t π x ∧ 0 ≤ q0 ∧ q0 ≤ mo_o π x 3 - 1) ∧ some (rd_I (pf_removeItem π x q0).1) = some (rd_I (-1)) ∧ (pf_removeItem π x q0).2 = π) ∨ ((mo_t π x ∧ 0 ≤ q0 ∧ q0 ≤ mo_o π x 3 - 1) ∧ some (rd_I (pf_removeItem π x q0).1) = some (rd_I (mo_o π x 3 - 1)) ∧ (pf_removeItem π x q0).2 = mo_cl (mo_di π x q0) x) := by
  unfold pf_removeItem
  by_cases h0 : ¬ (mo_t π x ∧ 0 ≤ q0 ∧ q0 ≤ mo_o π x 3 - 1)
  · rw [pg_ift h0]; exact Or.inl (⟨h0, rfl, rfl⟩)
  rw [pg_iff h0]
  have hl : (mo_t π x ∧ 0 ≤ q0 ∧ q0 ≤ mo_o π x 3 - 1) := by grind
  exact Or.inr (⟨hl, rfl, rfl⟩)
theorem kq_removeItem {lz : Launch} {G : rd_G} {r : Nat} {μ π : rd_Mem} {l : List rd_Mem} (hS : pg_S μ π l) {x q0 : Int} : rd_M lz G rd_kc 313 r yX9_removeItem cX9_removeItem 4 (some .int) (rd_rm 5 125) [rd_R 0, rd_I x, rd_I q0] μ (fun v μ' => v = some (rd_I (pf_removeItem π x q0).1) ∧ pg_T μ π l μ' (pf_removeItem π x q0).2 v) :=
  pg_M (c_X9_removeItem (pg_inv hS)) (fun v μ' h1 => by
    have h := pa_removeItem hS h1 (pf_removeItem_s π x q0)
    exact ⟨h.1.symm, h.2⟩)
noncomputable def pf_link (π : rd_Mem) (x k0 y : Int) : Int × rd_Mem := (pg_if ((¬ mo_t π x ∨ ¬ mo_t π y)) (-1, π) (pg_if ((mo_t π x ∧ mo_t π y ∧ (k0 < 0 ∨ 9 < k0))) (-2, π) (pg_if ((mo_t π x ∧ mo_t π y ∧ (0 ≤ k0 ∧ k0 ≤ 9) ∧ mo_o π x (22 + k0) = -6 ∧ mo_lk (fun q => mo_o π x (22 + q)) 10 = 3)) (-4, π) (mo_lk (fun q => mo_o (rd_u π 1 (156 + 32 * x + (22 + k0)) y) x (22 + q)) 10, rd_u π 1 (156 + 32 * x + (22 + k0)) y))))
theorem pf_link_s (π : rd_Mem) (x k0 y : Int) : ((¬ mo_t π x ∨ ¬ mo_t π y) ∧ some (rd_I (pf_link π x k0 y).1) = some (rd_I (-1)) ∧ (pf_link π x k0 y).2 = π) ∨ ((mo_t π x ∧ mo_t π y ∧ (k0 < 0 ∨ 9 < k0)) ∧ some (rd_I (pf_link π x k0 y).1) = some (rd_I (-2)) ∧ (pf_link π x k0 y).2 = π) ∨ ((mo_t π x ∧ mo_t π y ∧ (0 ≤ k0 ∧ k0 ≤ 9) ∧ mo_o π x (22 + k0) = -6 ∧ mo_lk (fun q => mo_o π x (22 + q)) 10 = 3) ∧ some (rd_I (pf_link π x k0 y).1) = some (rd_I (-4)) ∧ (pf_link π x k0 y).2 = π) ∨ ((mo_t π x ∧ mo_t π y ∧ (0 ≤ k0 ∧ k0 ≤ 9) ∧ ¬ (mo_o π x (22 + k0) = -6 ∧ mo_lk (fun q => mo_o π x (22 + q)) 10 = 3)) ∧ some (rd_I (pf_link π x k0 y).1) = some (rd_I (mo_lk (fun q => mo_o (rd_u π 1 (156 + 32 * x + (22 + k0)) y) x (22 + q)) 10)) ∧ (pf_link π x k0 y).2 = rd_u π 1 (156 + 32 * x + (22 + k0)) y) := by
  unfold pf_link
  by_cases h0 : (¬ mo_t π x ∨ ¬ mo_t π y)
  · rw [pg_ift h0]; exact Or.inl (⟨h0, rfl, rfl⟩)
  rw [pg_iff h0]
  by_cases h1 : (mo_t π x ∧ mo_t π y ∧ (k0 < 0 ∨ 9 < k0))
  · rw [pg_ift h1]; exact Or.inr (Or.inl (⟨h1, rfl, rfl⟩))
  rw [pg_iff h1]
  by_cases h2 : (mo_t π x ∧ mo_t π y ∧ (0 ≤ k0 ∧ k0 ≤ 9) ∧ mo_o π x (22 + k0) = -6 ∧ mo_lk (fun q => mo_o π x (22 + q)) 10 = 3)
  · rw [pg_ift h2]; exact Or.inr (Or.inr (Or.inl (⟨h2, rfl, rfl⟩)))
  rw [pg_iff h2]
  have hl : (mo_t π x ∧ mo_t π y ∧ (0 ≤ k0 ∧ k0 ≤ 9) ∧ ¬ (mo_o π x (22 + k0) = -6 ∧ mo_lk (fun q => mo_o π x (22 + q)) 10 = 3)) := by grind
  exact Or.inr (Or.inr (Or.inr (⟨hl, rfl, rfl⟩)))
theorem kq_link {lz : Launch} {G : rd_G} {r : Nat} {μ π : rd_Mem} {l : List rd_Mem} (hS : pg_S μ π l) {x k0 y : Int} : rd_M lz G rd_kc 313 r yX9_link cX9_link 5 (some .int) (rd_rm 5 125) [rd_R 0, rd_I x, rd_I k0, rd_I y] μ (fun v μ' => v = some (rd_I (pf_link π x k0 y).1) ∧ pg_T μ π l μ' (pf_link π x k0 y).2 v) :=
  pg_M (c_X9_link (pg_inv hS)) (fun v μ' h1 => by
    have h := pa_link hS h1 (pf_link_s π x k0 y)
    exact ⟨h.1.symm, h.2⟩)
noncomputable def pf_unlink (π : rd_Mem) (x k0 : Int) : Int × rd_Mem := (pg_if (¬ (mo_t π x ∧ (0 ≤ k0 ∧ k0 ≤ 9) ∧ mo_o π x (22 + k0) ≠ -6)) (-1, π) (mo_lk (fun q => mo_o (rd_u π 1 (156 + 32 * x + (22 + k0)) (-6)) x (22 + q)) 10, rd_u π 1 (156 + 32 * x + (22 + k0)) (-6)))
theorem pf_unlink_s (π : rd_Mem) (x k0 : Int) : (¬ (mo_t π x ∧ (0 ≤ k0 ∧ k0 ≤ 9) ∧ mo_o π x (22 + k0) ≠ -6) ∧ some (rd_I (pf_unlink π x k0).1) = some (rd_I (-1)) ∧ (pf_unlink π x k0).2 = π) ∨ ((mo_t π x ∧ (0 ≤ k0 ∧ k0 ≤ 9) ∧ mo_o π x (22 + k0) ≠ -6) ∧ some (rd_I (pf_unlink π x k0).1) = some (rd_I (mo_lk (fun q => mo_o (rd_u π 1 (156 + 32 * x + (22 + k0)) (-6)) x (22 + q)) 10)) ∧ (pf_unlink π x k0).2 = rd_u π 1 (156 + 32 * x + (22 + k0)) (-6)) := by
  unfold pf_unlink
  by_cases h0 : ¬ (mo_t π x ∧ (0 ≤ k0 ∧ k0 ≤ 9) ∧ mo_o π x (22 + k0) ≠ -6)
  · rw [pg_ift h0]; exact Or.inl (⟨h0, rfl, rfl⟩)
  rw [pg_iff h0]
  have hl : (mo_t π x ∧ (0 ≤ k0 ∧ k0 ≤ 9) ∧ mo_o π x (22 + k0) ≠ -6) := by grind
  exact Or.inr (⟨hl, rfl, rfl⟩)
theorem kq_unlink {lz : Launch} {G : rd_G} {r : Nat} {μ π : rd_Mem} {l : List rd_Mem} (hS : pg_S μ π l) {x k0 : Int} : rd_M lz G rd_kc 313 r yX9_unlink cX9_unlink 4 (some .int) (rd_rm 5 125) [rd_R 0, rd_I x, rd_I k0] μ (fun v μ' => v = some (rd_I (pf_unlink π x k0).1) ∧ pg_T μ π l μ' (pf_unlink π x k0).2 v) :=
  pg_M (c_X9_unlink (pg_inv hS)) (fun v μ' h1 => by
    have h := pa_unlink hS h1 (pf_unlink_s π x k0)
    exact ⟨h.1.symm, h.2⟩)
noncomputable def pf_note (π : rd_Mem) (s0 u0 : Int) : Int × rd_Mem := (pg_if (¬ ((0 ≤ s0 ∧ s0 ≤ 9999) ∧ (-1 ≤ u0 ∧ u0 ≤ 99))) (-2, π) (pg_if ((((0 ≤ s0 ∧ s0 ≤ 9999) ∧ (-1 ≤ u0 ∧ u0 ≤ 99)) ∧ u0 = -1 ∧ mo_np π s0 = -1)) (-1, π) (pg_if ((((0 ≤ s0 ∧ s0 ≤ 9999) ∧ (-1 ≤ u0 ∧ u0 ≤ 99)) ∧ u0 ≠ -1 ∧ mo_np π s0 = -1 ∧ π 1 11 = 8)) (-4, π) (pg_if ((((0 ≤ s0 ∧ s0 ≤ 9999) ∧ (-1 ≤ u0 ∧ u0 ≤ 99)) ∧ u0 = -1 ∧ mo_np π s0 ≠ -1)) (π 1 11 - 1, rd_u (rd_u (rd_u π 1 11 (π 1 11 - 1)) 1 (12 + 2 * (mo_np π s0)) (π 1 (12 + 2 * (π 1 11 - 1)))) 1 (12 + 2 * (mo_np π s0) + 1) (π 1 (12 + 2 * (π 1 11 - 1) + 1))) (pg_if ((((0 ≤ s0 ∧ s0 ≤ 9999) ∧ (-1 ≤ u0 ∧ u0 ≤ 99)) ∧ u0 ≠ -1 ∧ mo_np π s0 = -1 ∧ π 1 11 ≠ 8)) (π 1 11 + 1, rd_u (rd_u (rd_u π 1 11 (π 1 11 + 1)) 1 (12 + 2 * π 1 11) s0) 1 (12 + 2 * π 1 11 + 1) u0) (π 1 11 + 0, rd_u (rd_u (rd_u π 1 11 (π 1 11 + 0)) 1 (12 + 2 * (mo_np π s0)) s0) 1 (12 + 2 * (mo_np π s0) + 1) u0))))))
theorem pf_note_s (π : rd_Mem) (s0 u0 : Int) : (¬ ((0 ≤ s0 ∧ s0 ≤ 9999) ∧ (-1 ≤ u0 ∧ u0 ≤ 99)) ∧ some (rd_I (pf_note π s0 u0).1) = some (rd_I (-2)) ∧ (pf_note π s0 u0).2 = π) ∨ ((((0 ≤ s0 ∧ s0 ≤ 9999) ∧ (-1 ≤ u0 ∧ u0 ≤ 99)) ∧ u0 = -1 ∧ mo_np π s0 = -1) ∧ some (rd_I (pf_note π s0 u0).1) = some (rd_I (-1)) ∧ (pf_note π s0 u0).2 = π) ∨ ((((0 ≤ s0 ∧ s0 ≤ 9999) ∧ (-1 ≤ u0 ∧ u0 ≤ 99)) ∧ u0 ≠ -1 ∧ mo_np π s0 = -1 ∧ π 1 11 = 8) ∧ some (rd_I (pf_note π s0 u0).1) = some (rd_I (-4)) ∧ (pf_note π s0 u0).2 = π) ∨ ((((0 ≤ s0 ∧ s0 ≤ 9999) ∧ (-1 ≤ u0 ∧ u0 ≤ 99)) ∧ u0 = -1 ∧ mo_np π s0 ≠ -1) ∧ some (rd_I (pf_note π s0 u0).1) = some (rd_I (π 1 11 - 1)) ∧ (pf_note π s0 u0).2 = rd_u (rd_u (rd_u π 1 11 (π 1 11 - 1)) 1 (12 + 2 * (mo_np π s0)) (π 1 (12 + 2 * (π 1 11 - 1)))) 1 (12 + 2 * (mo_np π s0) + 1) (π 1 (12 + 2 * (π 1 11 - 1) + 1))) ∨ ((((0 ≤ s0 ∧ s0 ≤ 9999) ∧ (-1 ≤ u0 ∧ u0 ≤ 99)) ∧ u0 ≠ -1 ∧ mo_np π s0 = -1 ∧ π 1 11 ≠ 8) ∧ some (rd_I (pf_note π s0 u0).1) = some (rd_I (π 1 11 + 1)) ∧ (pf_note π s0 u0).2 = rd_u (rd_u (rd_u π 1 11 (π 1 11 + 1)) 1 (12 + 2 * π 1 11) s0) 1 (12 + 2 * π 1 11 + 1) u0) ∨ ((((0 ≤ s0 ∧ s0 ≤ 9999) ∧ (-1 ≤ u0 ∧ u0 ≤ 99)) ∧ u0 ≠ -1 ∧ mo_np π s0 ≠ -1) ∧ some (rd_I (pf_note π s0 u0).1) = some (rd_I (π 1 11 + 0)) ∧ (pf_note π s0 u0).2 = rd_u (rd_u (rd_u π 1 11 (π 1 11 + 0)) 1 (12 + 2 * (mo_np π s0)) s0) 1 (12 + 2 * (mo_np π s0) + 1) u0) := by
  unfold pf_note
  by_cases h0 : ¬ ((0 ≤ s0 ∧ s0 ≤ 9999) ∧ (-1 ≤ u0 ∧ u0 ≤ 99))
  · rw [pg_ift h0]; exact Or.inl (⟨h0, rfl, rfl⟩)
  rw [pg_iff h0]
  by_cases h1 : (((0 ≤ s0 ∧ s0 ≤ 9999) ∧ (-1 ≤ u0 ∧ u0 ≤ 99)) ∧ u0 = -1 ∧ mo_np π s0 = -1)
  · rw [pg_ift h1]; exact Or.inr (Or.inl (⟨h1, rfl, rfl⟩))
  rw [pg_iff h1]
  by_cases h2 : (((0 ≤ s0 ∧ s0 ≤ 9999) ∧ (-1 ≤ u0 ∧ u0 ≤ 99)) ∧ u0 ≠ -1 ∧ mo_np π s0 = -1 ∧ π 1 11 = 8)
  · rw [pg_ift h2]; exact Or.inr (Or.inr (Or.inl (⟨h2, rfl, rfl⟩)))
  rw [pg_iff h2]
  by_cases h3 : (((0 ≤ s0 ∧ s0 ≤ 9999) ∧ (-1 ≤ u0 ∧ u0 ≤ 99)) ∧ u0 = -1 ∧ mo_np π s0 ≠ -1)
  · rw [pg_ift h3]; exact Or.inr (Or.inr (Or.inr (Or.inl (⟨h3, rfl, rfl⟩))))
  rw [pg_iff h3]
  by_cases h4 : (((0 ≤ s0 ∧ s0 ≤ 9999) ∧ (-1 ≤ u0 ∧ u0 ≤ 99)) ∧ u0 ≠ -1 ∧ mo_np π s0 = -1 ∧ π 1 11 ≠ 8)
  · rw [pg_ift h4]; exact Or.inr (Or.inr (Or.inr (Or.inr (Or.inl (⟨h4, rfl, rfl⟩)))))
  rw [pg_iff h4]
  have hl : (((0 ≤ s0 ∧ s0 ≤ 9999) ∧ (-1 ≤ u0 ∧ u0 ≤ 99)) ∧ u0 ≠ -1 ∧ mo_np π s0 ≠ -1) := by grind
  exact Or.inr (Or.inr (Or.inr (Or.inr (Or.inr (⟨hl, rfl, rfl⟩)))))
theorem kq_note {lz : Launch} {G : rd_G} {r : Nat} {μ π : rd_Mem} {l : List rd_Mem} (hS : pg_S μ π l) {s0 u0 : Int} : rd_M lz G rd_kc 313 r yX9_note cX9_note 4 (some .int) (rd_rm 5 125) [rd_R 0, rd_I s0, rd_I u0] μ (fun v μ' => v = some (rd_I (pf_note π s0 u0).1) ∧ pg_T μ π l μ' (pf_note π s0 u0).2 v) :=
  pg_M (c_X9_note (pg_inv hS)) (fun v μ' h1 => by
    have h := pa_note hS h1 (pf_note_s π s0 u0)
    exact ⟨h.1.symm, h.2⟩)
noncomputable def pf_setEnd (π : rd_Mem) (q0 : Int) : Int × rd_Mem := (pg_if ((q0 < 0 ∨ 9999 < q0)) (-2, π) (π 1 28, rd_u π 1 28 q0))
theorem pf_setEnd_s (π : rd_Mem) (q0 : Int) : ((q0 < 0 ∨ 9999 < q0) ∧ some (rd_I (pf_setEnd π q0).1) = some (rd_I (-2)) ∧ (pf_setEnd π q0).2 = π) ∨ ((0 ≤ q0 ∧ q0 ≤ 9999) ∧ some (rd_I (pf_setEnd π q0).1) = some (rd_I (π 1 28)) ∧ (pf_setEnd π q0).2 = rd_u π 1 28 q0) := by
  unfold pf_setEnd
  by_cases h0 : (q0 < 0 ∨ 9999 < q0)
  · rw [pg_ift h0]; exact Or.inl (⟨h0, rfl, rfl⟩)
  rw [pg_iff h0]
  have hl : (0 ≤ q0 ∧ q0 ≤ 9999) := by grind
  exact Or.inr (⟨hl, rfl, rfl⟩)
theorem kq_setEnd {lz : Launch} {G : rd_G} {r : Nat} {μ π : rd_Mem} {l : List rd_Mem} (hS : pg_S μ π l) {q0 : Int} : rd_M lz G rd_kc 313 r yX9_setEnd cX9_setEnd 3 (some .int) (rd_rm 5 125) [rd_R 0, rd_I q0] μ (fun v μ' => v = some (rd_I (pf_setEnd π q0).1) ∧ pg_T μ π l μ' (pf_setEnd π q0).2 v) :=
  pg_M (c_X9_setEnd (pg_inv hS)) (fun v μ' h1 => by
    have h := pa_setEnd hS h1 (pf_setEnd_s π q0)
    exact ⟨h.1.symm, h.2⟩)
noncomputable def pf_start (π : rd_Mem) : Int × rd_Mem := (pg_if (mo_nx π 0 = -1) (-5, π) (mo_nx π 0, mo_st π (mo_nx π 0)))
theorem pf_start_s (π : rd_Mem) : (mo_nx π 0 = -1 ∧ some (rd_I (pf_start π).1) = some (rd_I (-5)) ∧ (pf_start π).2 = π) ∨ (mo_nx π 0 ≠ -1 ∧ some (rd_I (pf_start π).1) = some (rd_I (mo_nx π 0)) ∧ (pf_start π).2 = mo_st π (mo_nx π 0)) := by
  unfold pf_start
  by_cases h0 : mo_nx π 0 = -1
  · rw [pg_ift h0]; exact Or.inl (⟨h0, rfl, rfl⟩)
  rw [pg_iff h0]
  have hl : mo_nx π 0 ≠ -1 := by grind
  exact Or.inr (⟨hl, rfl, rfl⟩)
theorem kq_start {lz : Launch} {G : rd_G} {r : Nat} {μ π : rd_Mem} {l : List rd_Mem} (hS : pg_S μ π l) : rd_M lz G rd_kc 313 r yX9_start cX9_start 2 (some .int) (rd_rm 5 125) [rd_R 0] μ (fun v μ' => v = some (rd_I (pf_start π).1) ∧ pg_T μ π l μ' (pf_start π).2 v) :=
  pg_M (c_X9_start (pg_inv hS)) (fun v μ' h1 => by
    have h := pa_start hS h1 (pf_start_s π )
    exact ⟨h.1.symm, h.2⟩)
noncomputable def pf_stop (π : rd_Mem) : Int × rd_Mem := (pg_if (π 1 29 = 0) (-5, π) (π 1 32, rd_u π 1 29 0))
theorem pf_stop_s (π : rd_Mem) : (π 1 29 = 0 ∧ some (rd_I (pf_stop π).1) = some (rd_I (-5)) ∧ (pf_stop π).2 = π) ∨ (π 1 29 ≠ 0 ∧ some (rd_I (pf_stop π).1) = some (rd_I (π 1 32)) ∧ (pf_stop π).2 = rd_u π 1 29 0) := by
  unfold pf_stop
  by_cases h0 : π 1 29 = 0
  · rw [pg_ift h0]; exact Or.inl (⟨h0, rfl, rfl⟩)
  rw [pg_iff h0]
  have hl : π 1 29 ≠ 0 := by grind
  exact Or.inr (⟨hl, rfl, rfl⟩)
theorem kq_stop {lz : Launch} {G : rd_G} {r : Nat} {μ π : rd_Mem} {l : List rd_Mem} (hS : pg_S μ π l) : rd_M lz G rd_kc 313 r yX9_stop cX9_stop 2 (some .int) (rd_rm 5 125) [rd_R 0] μ (fun v μ' => v = some (rd_I (pf_stop π).1) ∧ pg_T μ π l μ' (pf_stop π).2 v) :=
  pg_M (c_X9_stop (pg_inv hS)) (fun v μ' h1 => by
    have h := pa_stop hS h1 (pf_stop_s π )
    exact ⟨h.1.symm, h.2⟩)
noncomputable def pf_forward (π : rd_Mem) : Int × rd_Mem := (pg_if (¬ (mo_on π ∧ mo_cf π)) (-5, π) (mo_fw π 1 31, mo_fw π))
theorem pf_forward_s (π : rd_Mem) : (¬ (mo_on π ∧ mo_cf π) ∧ some (rd_I (pf_forward π).1) = some (rd_I (-5)) ∧ (pf_forward π).2 = π) ∨ ((mo_on π ∧ mo_cf π) ∧ some (rd_I (pf_forward π).1) = some (rd_I (mo_fw π 1 31)) ∧ (pf_forward π).2 = mo_fw π) := by
  unfold pf_forward
  by_cases h0 : ¬ (mo_on π ∧ mo_cf π)
  · rw [pg_ift h0]; exact Or.inl (⟨h0, rfl, rfl⟩)
  rw [pg_iff h0]
  have hl : (mo_on π ∧ mo_cf π) := by grind
  exact Or.inr (⟨hl, rfl, rfl⟩)
theorem kq_forward {lz : Launch} {G : rd_G} {r : Nat} {μ π : rd_Mem} {l : List rd_Mem} (hS : pg_S μ π l) : rd_M lz G rd_kc 313 r yX9_forward cX9_forward 1 (some .int) (rd_rm 6 150) [rd_R 0] μ (fun v μ' => v = some (rd_I (pf_forward π).1) ∧ pg_T μ π l μ' (pf_forward π).2 v) :=
  pg_M (c_X9_forward (pg_inv hS)) (fun v μ' h1 => by
    have h := pa_forward hS h1 (pf_forward_s π )
    exact ⟨h.1.symm, h.2⟩)
noncomputable def pf_back (π : rd_Mem) : Int × rd_Mem := (pg_if (¬ (mo_on π ∧ mo_bp π ≠ -1)) (-5, π) (mo_bk π 1 31, mo_bk π))
theorem pf_back_s (π : rd_Mem) : (¬ (mo_on π ∧ mo_bp π ≠ -1) ∧ some (rd_I (pf_back π).1) = some (rd_I (-5)) ∧ (pf_back π).2 = π) ∨ ((mo_on π ∧ mo_bp π ≠ -1) ∧ some (rd_I (pf_back π).1) = some (rd_I (mo_bk π 1 31)) ∧ (pf_back π).2 = mo_bk π) := by
  unfold pf_back
  by_cases h0 : ¬ (mo_on π ∧ mo_bp π ≠ -1)
  · rw [pg_ift h0]; exact Or.inl (⟨h0, rfl, rfl⟩)
  rw [pg_iff h0]
  have hl : (mo_on π ∧ mo_bp π ≠ -1) := by grind
  exact Or.inr (⟨hl, rfl, rfl⟩)
theorem kq_back {lz : Launch} {G : rd_G} {r : Nat} {μ π : rd_Mem} {l : List rd_Mem} (hS : pg_S μ π l) : rd_M lz G rd_kc 313 r yX9_back cX9_back 1 (some .int) (rd_rm 6 150) [rd_R 0] μ (fun v μ' => v = some (rd_I (pf_back π).1) ∧ pg_T μ π l μ' (pf_back π).2 v) :=
  pg_M (c_X9_back (pg_inv hS)) (fun v μ' h1 => by
    have h := pa_back hS h1 (pf_back_s π )
    exact ⟨h.1.symm, h.2⟩)
noncomputable def pf_press (π : rd_Mem) (k0 : Int) : Int × rd_Mem := (pg_if ((k0 < 0 ∨ 9 < k0)) (-2, π) (pg_if (((0 ≤ k0 ∧ k0 ≤ 9) ∧ ¬ (mo_on π ∧ mo_o π (π 1 30) (22 + k0) ≠ -6))) (-5, π) (mo_cm π (mo_o π (π 1 30) (22 + k0)) 0 1 1 30, mo_cm π (mo_o π (π 1 30) (22 + k0)) 0 1)))
theorem pf_press_s (π : rd_Mem) (k0 : Int) : ((k0 < 0 ∨ 9 < k0) ∧ some (rd_I (pf_press π k0).1) = some (rd_I (-2)) ∧ (pf_press π k0).2 = π) ∨ (((0 ≤ k0 ∧ k0 ≤ 9) ∧ ¬ (mo_on π ∧ mo_o π (π 1 30) (22 + k0) ≠ -6)) ∧ some (rd_I (pf_press π k0).1) = some (rd_I (-5)) ∧ (pf_press π k0).2 = π) ∨ (((0 ≤ k0 ∧ k0 ≤ 9) ∧ (mo_on π ∧ mo_o π (π 1 30) (22 + k0) ≠ -6)) ∧ some (rd_I (pf_press π k0).1) = some (rd_I (mo_cm π (mo_o π (π 1 30) (22 + k0)) 0 1 1 30)) ∧ (pf_press π k0).2 = mo_cm π (mo_o π (π 1 30) (22 + k0)) 0 1) := by
  unfold pf_press
  by_cases h0 : (k0 < 0 ∨ 9 < k0)
  · rw [pg_ift h0]; exact Or.inl (⟨h0, rfl, rfl⟩)
  rw [pg_iff h0]
  by_cases h1 : ((0 ≤ k0 ∧ k0 ≤ 9) ∧ ¬ (mo_on π ∧ mo_o π (π 1 30) (22 + k0) ≠ -6))
  · rw [pg_ift h1]; exact Or.inr (Or.inl (⟨h1, rfl, rfl⟩))
  rw [pg_iff h1]
  have hl : ((0 ≤ k0 ∧ k0 ≤ 9) ∧ (mo_on π ∧ mo_o π (π 1 30) (22 + k0) ≠ -6)) := by grind
  exact Or.inr (Or.inr (⟨hl, rfl, rfl⟩))
theorem kq_press {lz : Launch} {G : rd_G} {r : Nat} {μ π : rd_Mem} {l : List rd_Mem} (hS : pg_S μ π l) {k0 : Int} : rd_M lz G rd_kc 313 r yX9_press cX9_press 2 (some .int) (rd_rm 6 150) [rd_R 0, rd_I k0] μ (fun v μ' => v = some (rd_I (pf_press π k0).1) ∧ pg_T μ π l μ' (pf_press π k0).2 v) :=
  pg_M (c_X9_press (pg_inv hS)) (fun v μ' h1 => by
    have h := pa_press hS h1 (pf_press_s π k0)
    exact ⟨h.1.symm, h.2⟩)
noncomputable def pf_tick (π : rd_Mem) (q0 : Int) : Int × rd_Mem := (pg_if ((q0 < 1 ∨ 99 < q0)) (-2, π) (pg_if (((1 ≤ q0 ∧ q0 ≤ 99) ∧ ¬ mo_on π)) (-5, π) (mo_pn q0.toNat π, mo_ps q0.toNat π)))
theorem pf_tick_s (π : rd_Mem) (q0 : Int) : ((q0 < 1 ∨ 99 < q0) ∧ some (rd_I (pf_tick π q0).1) = some (rd_I (-2)) ∧ (pf_tick π q0).2 = π) ∨ (((1 ≤ q0 ∧ q0 ≤ 99) ∧ ¬ mo_on π) ∧ some (rd_I (pf_tick π q0).1) = some (rd_I (-5)) ∧ (pf_tick π q0).2 = π) ∨ (((1 ≤ q0 ∧ q0 ≤ 99) ∧ mo_on π) ∧ some (rd_I (pf_tick π q0).1) = some (rd_I (mo_pn q0.toNat π)) ∧ (pf_tick π q0).2 = mo_ps q0.toNat π) := by
  unfold pf_tick
  by_cases h0 : (q0 < 1 ∨ 99 < q0)
  · rw [pg_ift h0]; exact Or.inl (⟨h0, rfl, rfl⟩)
  rw [pg_iff h0]
  by_cases h1 : ((1 ≤ q0 ∧ q0 ≤ 99) ∧ ¬ mo_on π)
  · rw [pg_ift h1]; exact Or.inr (Or.inl (⟨h1, rfl, rfl⟩))
  rw [pg_iff h1]
  have hl : ((1 ≤ q0 ∧ q0 ≤ 99) ∧ mo_on π) := by grind
  exact Or.inr (Or.inr (⟨hl, rfl, rfl⟩))
theorem kq_tick {lz : Launch} {G : rd_G} {r : Nat} {μ π : rd_Mem} {l : List rd_Mem} (hS : pg_S μ π l) {q0 : Int} : rd_M lz G rd_kc 313 r yX9_tick cX9_tick 2 (some .int) (rd_rm 5 128) [rd_R 0, rd_I q0] μ (fun v μ' => v = some (rd_I (pf_tick π q0).1) ∧ pg_T μ π l μ' (pf_tick π q0).2 v) :=
  pg_M (c_X9_tick (pg_inv hS)) (fun v μ' h1 => by
    have h := pa_tick hS h1 (pf_tick_s π q0)
    exact ⟨h.1.symm, h.2⟩)
noncomputable def pv_slides (π : rd_Mem) : Int := (π 1 0)
theorem pv_slides_s (π : rd_Mem) : True ∧ some (rd_I (pv_slides π)) = some (rd_I (π 1 0)) ∧ π = π := by
  unfold pv_slides
  exact ⟨trivial, rfl, rfl⟩
theorem kq_slides {lz : Launch} {G : rd_G} {r : Nat} {μ π : rd_Mem} {l : List rd_Mem} (hS : pg_S μ π l) : rd_M lz G rd_kc 313 r yX9_slides cX9_slides 1 (some .int) (rd_rm 0 0) [rd_R 0] μ (fun v μ' => v = some (rd_I (pv_slides π)) ∧ μ' = μ) :=
  pg_M (c_X9_slides (pg_inv hS)) (fun v μ' h1 => by
    have h := pq_slides hS h1 (ν' := π) (pv_slides_s π )
    exact ⟨h.1.symm, h.2⟩)
noncomputable def pv_end (π : rd_Mem) : Int := (π 1 28)
theorem pv_end_s (π : rd_Mem) : True ∧ some (rd_I (pv_end π)) = some (rd_I (π 1 28)) ∧ π = π := by
  unfold pv_end
  exact ⟨trivial, rfl, rfl⟩
theorem kq_end {lz : Launch} {G : rd_G} {r : Nat} {μ π : rd_Mem} {l : List rd_Mem} (hS : pg_S μ π l) : rd_M lz G rd_kc 313 r yX9_end cX9_end 1 (some .int) (rd_rm 0 0) [rd_R 0] μ (fun v μ' => v = some (rd_I (pv_end π)) ∧ μ' = μ) :=
  pg_M (c_X9_end (pg_inv hS)) (fun v μ' h1 => by
    have h := pq_end hS h1 (ν' := π) (pv_end_s π )
    exact ⟨h.1.symm, h.2⟩)
noncomputable def pv_slideAt (π : rd_Mem) (p0 : Int) : Int := (pg_if (p0 < 0) (-2) (pg_if (π 1 0 ≤ p0) (-6) (π 1 (1 + p0))))
theorem pv_slideAt_s (π : rd_Mem) (p0 : Int) : (p0 < 0 ∧ some (rd_I (pv_slideAt π p0)) = some (rd_I (-2)) ∧ π = π) ∨ (π 1 0 ≤ p0 ∧ some (rd_I (pv_slideAt π p0)) = some (rd_I (-6)) ∧ π = π) ∨ ((0 ≤ p0 ∧ p0 < π 1 0) ∧ some (rd_I (pv_slideAt π p0)) = some (rd_I (π 1 (1 + p0))) ∧ π = π) := by
  unfold pv_slideAt
  by_cases h0 : p0 < 0
  · rw [pg_ift h0]; exact Or.inl (⟨h0, rfl, rfl⟩)
  rw [pg_iff h0]
  by_cases h1 : π 1 0 ≤ p0
  · rw [pg_ift h1]; exact Or.inr (Or.inl (⟨h1, rfl, rfl⟩))
  rw [pg_iff h1]
  have hl : (0 ≤ p0 ∧ p0 < π 1 0) := by grind
  exact Or.inr (Or.inr (⟨hl, rfl, rfl⟩))
theorem kq_slideAt {lz : Launch} {G : rd_G} {r : Nat} {μ π : rd_Mem} {l : List rd_Mem} (hS : pg_S μ π l) {p0 : Int} : rd_M lz G rd_kc 313 r yX9_slideAt cX9_slideAt 3 (some .int) (rd_rm 1 21) [rd_R 0, rd_I p0] μ (fun v μ' => v = some (rd_I (pv_slideAt π p0)) ∧ μ' = μ) :=
  pg_M (c_X9_slideAt (pg_inv hS)) (fun v μ' h1 => by
    have h := pq_slideAt hS h1 (ν' := π) (pv_slideAt_s π p0)
    exact ⟨h.1.symm, h.2⟩)
noncomputable def pv_slide (π : rd_Mem) (x q0 : Int) : Int := (pg_if (¬ mo_t π x) (-1) (pg_if ((mo_t π x ∧ (q0 < 0 ∨ 5 < q0))) (-2) (pg_if ((mo_t π x ∧ q0 = 0)) (mo_pl π x) (pg_if ((mo_t π x ∧ (1 ≤ q0 ∧ q0 ≤ 3))) (mo_o π x q0) (pg_if ((mo_t π x ∧ q0 = 4)) (mo_FS π x) (mo_lk (fun q => mo_o π x (22 + q)) 10))))))
theorem pv_slide_s (π : rd_Mem) (x q0 : Int) : (¬ mo_t π x ∧ some (rd_I (pv_slide π x q0)) = some (rd_I (-1)) ∧ π = π) ∨ ((mo_t π x ∧ (q0 < 0 ∨ 5 < q0)) ∧ some (rd_I (pv_slide π x q0)) = some (rd_I (-2)) ∧ π = π) ∨ ((mo_t π x ∧ q0 = 0) ∧ some (rd_I (pv_slide π x q0)) = some (rd_I (mo_pl π x)) ∧ π = π) ∨ ((mo_t π x ∧ (1 ≤ q0 ∧ q0 ≤ 3)) ∧ some (rd_I (pv_slide π x q0)) = some (rd_I (mo_o π x q0)) ∧ π = π) ∨ ((mo_t π x ∧ q0 = 4) ∧ some (rd_I (pv_slide π x q0)) = some (rd_I (mo_FS π x)) ∧ π = π) ∨ ((mo_t π x ∧ q0 = 5) ∧ some (rd_I (pv_slide π x q0)) = some (rd_I (mo_lk (fun q => mo_o π x (22 + q)) 10)) ∧ π = π) := by
  unfold pv_slide
  by_cases h0 : ¬ mo_t π x
  · rw [pg_ift h0]; exact Or.inl (⟨h0, rfl, rfl⟩)
  rw [pg_iff h0]
  by_cases h1 : (mo_t π x ∧ (q0 < 0 ∨ 5 < q0))
  · rw [pg_ift h1]; exact Or.inr (Or.inl (⟨h1, rfl, rfl⟩))
  rw [pg_iff h1]
  by_cases h2 : (mo_t π x ∧ q0 = 0)
  · rw [pg_ift h2]; exact Or.inr (Or.inr (Or.inl (⟨h2, rfl, rfl⟩)))
  rw [pg_iff h2]
  by_cases h3 : (mo_t π x ∧ (1 ≤ q0 ∧ q0 ≤ 3))
  · rw [pg_ift h3]; exact Or.inr (Or.inr (Or.inr (Or.inl (⟨h3, rfl, rfl⟩))))
  rw [pg_iff h3]
  by_cases h4 : (mo_t π x ∧ q0 = 4)
  · rw [pg_ift h4]; exact Or.inr (Or.inr (Or.inr (Or.inr (Or.inl (⟨h4, rfl, rfl⟩)))))
  rw [pg_iff h4]
  have hl : (mo_t π x ∧ q0 = 5) := by grind
  exact Or.inr (Or.inr (Or.inr (Or.inr (Or.inr (⟨hl, rfl, rfl⟩)))))
theorem kq_slide {lz : Launch} {G : rd_G} {r : Nat} {μ π : rd_Mem} {l : List rd_Mem} (hS : pg_S μ π l) {x q0 : Int} : rd_M lz G rd_kc 313 r yX9_slide cX9_slide 4 (some .int) (rd_rm 2 62) [rd_R 0, rd_I x, rd_I q0] μ (fun v μ' => v = some (rd_I (pv_slide π x q0)) ∧ μ' = μ) :=
  pg_M (c_X9_slide (pg_inv hS)) (fun v μ' h1 => by
    have h := pq_slide hS h1 (ν' := π) (pv_slide_s π x q0)
    exact ⟨h.1.symm, h.2⟩)
noncomputable def pv_target (π : rd_Mem) (x k0 : Int) : Int := (pg_if (¬ mo_t π x) (-1) (pg_if ((mo_t π x ∧ (k0 < 0 ∨ 9 < k0))) (-2) (mo_o π x (22 + k0))))
theorem pv_target_s (π : rd_Mem) (x k0 : Int) : (¬ mo_t π x ∧ some (rd_I (pv_target π x k0)) = some (rd_I (-1)) ∧ π = π) ∨ ((mo_t π x ∧ (k0 < 0 ∨ 9 < k0)) ∧ some (rd_I (pv_target π x k0)) = some (rd_I (-2)) ∧ π = π) ∨ ((mo_t π x ∧ (0 ≤ k0 ∧ k0 ≤ 9)) ∧ some (rd_I (pv_target π x k0)) = some (rd_I (mo_o π x (22 + k0))) ∧ π = π) := by
  unfold pv_target
  by_cases h0 : ¬ mo_t π x
  · rw [pg_ift h0]; exact Or.inl (⟨h0, rfl, rfl⟩)
  rw [pg_iff h0]
  by_cases h1 : (mo_t π x ∧ (k0 < 0 ∨ 9 < k0))
  · rw [pg_ift h1]; exact Or.inr (Or.inl (⟨h1, rfl, rfl⟩))
  rw [pg_iff h1]
  have hl : (mo_t π x ∧ (0 ≤ k0 ∧ k0 ≤ 9)) := by grind
  exact Or.inr (Or.inr (⟨hl, rfl, rfl⟩))
theorem kq_target {lz : Launch} {G : rd_G} {r : Nat} {μ π : rd_Mem} {l : List rd_Mem} (hS : pg_S μ π l) {x k0 : Int} : rd_M lz G rd_kc 313 r yX9_target cX9_target 5 (some .int) (rd_rm 2 43) [rd_R 0, rd_I x, rd_I k0] μ (fun v μ' => v = some (rd_I (pv_target π x k0)) ∧ μ' = μ) :=
  pg_M (c_X9_target (pg_inv hS)) (fun v μ' h1 => by
    have h := pq_target hS h1 (ν' := π) (pv_target_s π x k0)
    exact ⟨h.1.symm, h.2⟩)
noncomputable def pv_picture (π : rd_Mem) (x t0 : Int) : Int := (pg_if (¬ mo_t π x) (-1) (pg_if ((mo_t π x ∧ (t0 < 0 ∨ 9 < t0))) (-2) (mo_mk π x t0 (mo_o π x 3).toNat)))
theorem pv_picture_s (π : rd_Mem) (x t0 : Int) : (¬ mo_t π x ∧ some (rd_I (pv_picture π x t0)) = some (rd_I (-1)) ∧ π = π) ∨ ((mo_t π x ∧ (t0 < 0 ∨ 9 < t0)) ∧ some (rd_I (pv_picture π x t0)) = some (rd_I (-2)) ∧ π = π) ∨ ((mo_t π x ∧ (0 ≤ t0 ∧ t0 ≤ 9)) ∧ some (rd_I (pv_picture π x t0)) = some (rd_I (mo_mk π x t0 (mo_o π x 3).toNat)) ∧ π = π) := by
  unfold pv_picture
  by_cases h0 : ¬ mo_t π x
  · rw [pg_ift h0]; exact Or.inl (⟨h0, rfl, rfl⟩)
  rw [pg_iff h0]
  by_cases h1 : (mo_t π x ∧ (t0 < 0 ∨ 9 < t0))
  · rw [pg_ift h1]; exact Or.inr (Or.inl (⟨h1, rfl, rfl⟩))
  rw [pg_iff h1]
  have hl : (mo_t π x ∧ (0 ≤ t0 ∧ t0 ≤ 9)) := by grind
  exact Or.inr (Or.inr (⟨hl, rfl, rfl⟩))
theorem kq_picture {lz : Launch} {G : rd_G} {r : Nat} {μ π : rd_Mem} {l : List rd_Mem} (hS : pg_S μ π l) {x t0 : Int} : rd_M lz G rd_kc 313 r yX9_picture cX9_picture 4 (some .int) (rd_rm 2 45) [rd_R 0, rd_I x, rd_I t0] μ (fun v μ' => v = some (rd_I (pv_picture π x t0)) ∧ μ' = μ) :=
  pg_M (c_X9_picture (pg_inv hS)) (fun v μ' h1 => by
    have h := pq_picture hS h1 (ν' := π) (pv_picture_s π x t0)
    exact ⟨h.1.symm, h.2⟩)
noncomputable def pv_now (π : rd_Mem) (q0 : Int) : Int := (pg_if ((q0 < 0 ∨ 6 < q0)) (-2) (pg_if (((0 ≤ q0 ∧ q0 ≤ 6) ∧ π 1 29 = 0)) (-6) (pg_if ((π 1 29 ≠ 0 ∧ (0 ≤ q0 ∧ q0 ≤ 3))) (π 1 (30 + q0)) (pg_if ((π 1 29 ≠ 0 ∧ q0 = 4)) (π 1 35) (pg_if ((π 1 29 ≠ 0 ∧ q0 = 5 ∧ mo_ov π)) (1) (pg_if ((π 1 29 ≠ 0 ∧ q0 = 5 ∧ ¬ mo_ov π)) (0) (π 1 34)))))))
theorem pv_now_s (π : rd_Mem) (q0 : Int) : ((q0 < 0 ∨ 6 < q0) ∧ some (rd_I (pv_now π q0)) = some (rd_I (-2)) ∧ π = π) ∨ (((0 ≤ q0 ∧ q0 ≤ 6) ∧ π 1 29 = 0) ∧ some (rd_I (pv_now π q0)) = some (rd_I (-6)) ∧ π = π) ∨ ((π 1 29 ≠ 0 ∧ (0 ≤ q0 ∧ q0 ≤ 3)) ∧ some (rd_I (pv_now π q0)) = some (rd_I (π 1 (30 + q0))) ∧ π = π) ∨ ((π 1 29 ≠ 0 ∧ q0 = 4) ∧ some (rd_I (pv_now π q0)) = some (rd_I (π 1 35)) ∧ π = π) ∨ ((π 1 29 ≠ 0 ∧ q0 = 5 ∧ mo_ov π) ∧ some (rd_I (pv_now π q0)) = some (rd_I 1) ∧ π = π) ∨ ((π 1 29 ≠ 0 ∧ q0 = 5 ∧ ¬ mo_ov π) ∧ some (rd_I (pv_now π q0)) = some (rd_I 0) ∧ π = π) ∨ ((π 1 29 ≠ 0 ∧ q0 = 6) ∧ some (rd_I (pv_now π q0)) = some (rd_I (π 1 34)) ∧ π = π) := by
  unfold pv_now
  by_cases h0 : (q0 < 0 ∨ 6 < q0)
  · rw [pg_ift h0]; exact Or.inl (⟨h0, rfl, rfl⟩)
  rw [pg_iff h0]
  by_cases h1 : ((0 ≤ q0 ∧ q0 ≤ 6) ∧ π 1 29 = 0)
  · rw [pg_ift h1]; exact Or.inr (Or.inl (⟨h1, rfl, rfl⟩))
  rw [pg_iff h1]
  by_cases h2 : (π 1 29 ≠ 0 ∧ (0 ≤ q0 ∧ q0 ≤ 3))
  · rw [pg_ift h2]; exact Or.inr (Or.inr (Or.inl (⟨h2, rfl, rfl⟩)))
  rw [pg_iff h2]
  by_cases h3 : (π 1 29 ≠ 0 ∧ q0 = 4)
  · rw [pg_ift h3]; exact Or.inr (Or.inr (Or.inr (Or.inl (⟨h3, rfl, rfl⟩))))
  rw [pg_iff h3]
  by_cases h4 : (π 1 29 ≠ 0 ∧ q0 = 5 ∧ mo_ov π)
  · rw [pg_ift h4]; exact Or.inr (Or.inr (Or.inr (Or.inr (Or.inl (⟨h4, rfl, rfl⟩)))))
  rw [pg_iff h4]
  by_cases h5 : (π 1 29 ≠ 0 ∧ q0 = 5 ∧ ¬ mo_ov π)
  · rw [pg_ift h5]; exact Or.inr (Or.inr (Or.inr (Or.inr (Or.inr (Or.inl (⟨h5, rfl, rfl⟩))))))
  rw [pg_iff h5]
  have hl : (π 1 29 ≠ 0 ∧ q0 = 6) := by grind
  exact Or.inr (Or.inr (Or.inr (Or.inr (Or.inr (Or.inr (⟨hl, rfl, rfl⟩))))))
theorem kq_now {lz : Launch} {G : rd_G} {r : Nat} {μ π : rd_Mem} {l : List rd_Mem} (hS : pg_S μ π l) {q0 : Int} : rd_M lz G rd_kc 313 r yX9_now cX9_now 2 (some .int) (rd_rm 2 42) [rd_R 0, rd_I q0] μ (fun v μ' => v = some (rd_I (pv_now π q0)) ∧ μ' = μ) :=
  pg_M (c_X9_now (pg_inv hS)) (fun v μ' h1 => by
    have h := pq_now hS h1 (ν' := π) (pv_now_s π q0)
    exact ⟨h.1.symm, h.2⟩)
noncomputable def pv_trail (π : rd_Mem) (p0 q0 : Int) : Int := (pg_if ((p0 < 0 ∨ q0 < 0 ∨ 2 < q0)) (-2) (pg_if (((0 ≤ p0 ∧ (0 ≤ q0 ∧ q0 ≤ 2)) ∧ (π 1 29 ≠ 1 ∨ π 1 35 ≤ p0))) (-6) (π 1 (36 + 3 * (π 1 35 - 1 - p0) + q0))))
theorem pv_trail_s (π : rd_Mem) (p0 q0 : Int) : ((p0 < 0 ∨ q0 < 0 ∨ 2 < q0) ∧ some (rd_I (pv_trail π p0 q0)) = some (rd_I (-2)) ∧ π = π) ∨ (((0 ≤ p0 ∧ (0 ≤ q0 ∧ q0 ≤ 2)) ∧ (π 1 29 ≠ 1 ∨ π 1 35 ≤ p0)) ∧ some (rd_I (pv_trail π p0 q0)) = some (rd_I (-6)) ∧ π = π) ∨ (((0 ≤ p0 ∧ (0 ≤ q0 ∧ q0 ≤ 2)) ∧ π 1 29 = 1 ∧ p0 < π 1 35) ∧ some (rd_I (pv_trail π p0 q0)) = some (rd_I (π 1 (36 + 3 * (π 1 35 - 1 - p0) + q0))) ∧ π = π) := by
  unfold pv_trail
  by_cases h0 : (p0 < 0 ∨ q0 < 0 ∨ 2 < q0)
  · rw [pg_ift h0]; exact Or.inl (⟨h0, rfl, rfl⟩)
  rw [pg_iff h0]
  by_cases h1 : ((0 ≤ p0 ∧ (0 ≤ q0 ∧ q0 ≤ 2)) ∧ (π 1 29 ≠ 1 ∨ π 1 35 ≤ p0))
  · rw [pg_ift h1]; exact Or.inr (Or.inl (⟨h1, rfl, rfl⟩))
  rw [pg_iff h1]
  have hl : ((0 ≤ p0 ∧ (0 ≤ q0 ∧ q0 ≤ 2)) ∧ π 1 29 = 1 ∧ p0 < π 1 35) := by grind
  exact Or.inr (Or.inr (⟨hl, rfl, rfl⟩))
theorem kq_trail {lz : Launch} {G : rd_G} {r : Nat} {μ π : rd_Mem} {l : List rd_Mem} (hS : pg_S μ π l) {p0 q0 : Int} : rd_M lz G rd_kc 313 r yX9_trail cX9_trail 3 (some .int) (rd_rm 2 44) [rd_R 0, rd_I p0, rd_I q0] μ (fun v μ' => v = some (rd_I (pv_trail π p0 q0)) ∧ μ' = μ) :=
  pg_M (c_X9_trail (pg_inv hS)) (fun v μ' h1 => by
    have h := pq_trail hS h1 (ν' := π) (pv_trail_s π p0 q0)
    exact ⟨h.1.symm, h.2⟩)
noncomputable def pv_labels (π : rd_Mem) : Int := (pg_if (π 1 29 = 0) (-6) (mo_tg π (π 1 30) (π 1 31) (mo_o π (π 1 30) 3).toNat))
theorem pv_labels_s (π : rd_Mem) : (π 1 29 = 0 ∧ some (rd_I (pv_labels π)) = some (rd_I (-6)) ∧ π = π) ∨ (π 1 29 ≠ 0 ∧ some (rd_I (pv_labels π)) = some (rd_I (mo_tg π (π 1 30) (π 1 31) (mo_o π (π 1 30) 3).toNat)) ∧ π = π) := by
  unfold pv_labels
  by_cases h0 : π 1 29 = 0
  · rw [pg_ift h0]; exact Or.inl (⟨h0, rfl, rfl⟩)
  rw [pg_iff h0]
  have hl : π 1 29 ≠ 0 := by grind
  exact Or.inr (⟨hl, rfl, rfl⟩)
theorem kq_labels {lz : Launch} {G : rd_G} {r : Nat} {μ π : rd_Mem} {l : List rd_Mem} (hS : pg_S μ π l) : rd_M lz G rd_kc 313 r yX9_labels cX9_labels 2 (some .int) (rd_rm 2 45) [rd_R 0] μ (fun v μ' => v = some (rd_I (pv_labels π)) ∧ μ' = μ) :=
  pg_M (c_X9_labels (pg_inv hS)) (fun v μ' h1 => by
    have h := pq_labels hS h1 (ν' := π) (pv_labels_s π )
    exact ⟨h.1.symm, h.2⟩)
noncomputable def pv_noteNow (π : rd_Mem) : Int := (pg_if (π 1 29 ≠ 1) (-6) ((sp_lat (fun i => π 1 (12 + 2 * i)) (fun i => π 1 (12 + 2 * i + 1)) (π 1 32) (π 1 11).toNat).2))
theorem pv_noteNow_s (π : rd_Mem) : (π 1 29 ≠ 1 ∧ some (rd_I (pv_noteNow π)) = some (rd_I (-6)) ∧ π = π) ∨ (π 1 29 = 1 ∧ some (rd_I (pv_noteNow π)) = some (rd_I (sp_lat (fun i => π 1 (12 + 2 * i)) (fun i => π 1 (12 + 2 * i + 1)) (π 1 32) (π 1 11).toNat).2) ∧ π = π) := by
  unfold pv_noteNow
  by_cases h0 : π 1 29 ≠ 1
  · rw [pg_ift h0]; exact Or.inl (⟨h0, rfl, rfl⟩)
  rw [pg_iff h0]
  have hl : π 1 29 = 1 := by grind
  exact Or.inr (⟨hl, rfl, rfl⟩)
theorem kq_noteNow {lz : Launch} {G : rd_G} {r : Nat} {μ π : rd_Mem} {l : List rd_Mem} (hS : pg_S μ π l) : rd_M lz G rd_kc 313 r yX9_noteNow cX9_noteNow 1 (some .int) (rd_rm 2 42) [rd_R 0] μ (fun v μ' => v = some (rd_I (pv_noteNow π)) ∧ μ' = μ) :=
  pg_M (c_X9_noteNow (pg_inv hS)) (fun v μ' h1 => by
    have h := pq_noteNow hS h1 (ν' := π) (pv_noteNow_s π )
    exact ⟨h.1.symm, h.2⟩)
noncomputable def pv_backTo (π : rd_Mem) : Int := (pg_if (¬ (mo_on π ∧ mo_bp π ≠ -1)) (-6) (π 1 (36 + 3 * mo_bp π)))
theorem pv_backTo_s (π : rd_Mem) : (¬ (mo_on π ∧ mo_bp π ≠ -1) ∧ some (rd_I (pv_backTo π)) = some (rd_I (-6)) ∧ π = π) ∨ ((mo_on π ∧ mo_bp π ≠ -1) ∧ some (rd_I (pv_backTo π)) = some (rd_I (π 1 (36 + 3 * mo_bp π))) ∧ π = π) := by
  unfold pv_backTo
  by_cases h0 : ¬ (mo_on π ∧ mo_bp π ≠ -1)
  · rw [pg_ift h0]; exact Or.inl (⟨h0, rfl, rfl⟩)
  rw [pg_iff h0]
  have hl : (mo_on π ∧ mo_bp π ≠ -1) := by grind
  exact Or.inr (⟨hl, rfl, rfl⟩)
theorem kq_backTo {lz : Launch} {G : rd_G} {r : Nat} {μ π : rd_Mem} {l : List rd_Mem} (hS : pg_S μ π l) : rd_M lz G rd_kc 313 r yX9_backTo cX9_backTo 1 (some .int) (rd_rm 4 106) [rd_R 0] μ (fun v μ' => v = some (rd_I (pv_backTo π)) ∧ μ' = μ) :=
  pg_M (c_X9_backTo (pg_inv hS)) (fun v μ' h1 => by
    have h := pq_backTo hS h1 (ν' := π) (pv_backTo_s π )
    exact ⟨h.1.symm, h.2⟩)
noncomputable def pv_movesLeft (π : rd_Mem) : Int := (pg_if (π 1 29 = 0) (-6) (mo_FS π (π 1 30) - π 1 31 + mo_ml π (mo_pl π (π 1 30) + 1) (π 1 0 - (mo_pl π (π 1 30) + 1)).toNat))
theorem pv_movesLeft_s (π : rd_Mem) : (π 1 29 = 0 ∧ some (rd_I (pv_movesLeft π)) = some (rd_I (-6)) ∧ π = π) ∨ (π 1 29 ≠ 0 ∧ some (rd_I (pv_movesLeft π)) = some (rd_I (mo_FS π (π 1 30) - π 1 31 + mo_ml π (mo_pl π (π 1 30) + 1) (π 1 0 - (mo_pl π (π 1 30) + 1)).toNat)) ∧ π = π) := by
  unfold pv_movesLeft
  by_cases h0 : π 1 29 = 0
  · rw [pg_ift h0]; exact Or.inl (⟨h0, rfl, rfl⟩)
  rw [pg_iff h0]
  have hl : π 1 29 ≠ 0 := by grind
  exact Or.inr (⟨hl, rfl, rfl⟩)
theorem kq_movesLeft {lz : Launch} {G : rd_G} {r : Nat} {μ π : rd_Mem} {l : List rd_Mem} (hS : pg_S μ π l) : rd_M lz G rd_kc 313 r yX9_movesLeft cX9_movesLeft 1 (some .int) (rd_rm 4 110) [rd_R 0] μ (fun v μ' => v = some (rd_I (pv_movesLeft π)) ∧ μ' = μ) :=
  pg_M (c_X9_movesLeft (pg_inv hS)) (fun v μ' h1 => by
    have h := pq_movesLeft hS h1 (ν' := π) (pv_movesLeft_s π )
    exact ⟨h.1.symm, h.2⟩)
noncomputable def pv_secondsLeft (π : rd_Mem) : Int := (pg_if (π 1 29 = 0) (-6) (mo_rs π 200 (π 1 30) (π 1 31) (π 1 33) 0))
theorem pv_secondsLeft_s (π : rd_Mem) : (π 1 29 = 0 ∧ some (rd_I (pv_secondsLeft π)) = some (rd_I (-6)) ∧ π = π) ∨ (π 1 29 ≠ 0 ∧ some (rd_I (pv_secondsLeft π)) = some (rd_I (mo_rs π 200 (π 1 30) (π 1 31) (π 1 33) 0)) ∧ π = π) := by
  unfold pv_secondsLeft
  by_cases h0 : π 1 29 = 0
  · rw [pg_ift h0]; exact Or.inl (⟨h0, rfl, rfl⟩)
  rw [pg_iff h0]
  have hl : π 1 29 ≠ 0 := by grind
  exact Or.inr (⟨hl, rfl, rfl⟩)
theorem kq_secondsLeft {lz : Launch} {G : rd_G} {r : Nat} {μ π : rd_Mem} {l : List rd_Mem} (hS : pg_S μ π l) : rd_M lz G rd_kc 313 r yX9_secondsLeft cX9_secondsLeft 1 (some .int) (rd_rm 4 113) [rd_R 0] μ (fun v μ' => v = some (rd_I (pv_secondsLeft π)) ∧ μ' = μ) :=
  pg_M (c_X9_secondsLeft (pg_inv hS)) (fun v μ' h1 => by
    have h := pq_secondsLeft hS h1 (ν' := π) (pv_secondsLeft_s π )
    exact ⟨h.1.symm, h.2⟩)
theorem kq_meanSteps {lz : Launch} {G : rd_G} {r : Nat} {μ π : rd_Mem} {l : List rd_Mem} (hS : pg_S μ π l) : rd_M lz G rd_kc 313 r yX9_meanSteps cX9_meanSteps 2 (some .float) (rd_rm 3 87) [rd_R 0] μ (fun v μ' => ((π 1 0 = 0 ∧ v = some (rd_F FP.fconst0)) ∨ (π 1 0 ≠ 0 ∧ v = some (rd_F (FP.fdiv (FP.i2f (rd_i (sp_sum (fun i => mo_FS π (π 1 (1 + i)) + 1) (π 1 0).toNat))) (FP.i2f (rd_i (π 1 0))))))) ∧ μ' = μ) :=
  pg_M (c_X9_meanSteps (pg_inv hS)) (fun v μ' h1 => by
    by_cases h0 : π 1 0 = 0
    · have h := pq_meanSteps hS h1 (ν' := π) (Or.inl ⟨h0, rfl, rfl⟩)
      exact ⟨Or.inl ⟨h0, h.1.symm⟩, h.2⟩
    · have h := pq_meanSteps hS h1 (ν' := π) (Or.inr ⟨h0, rfl, rfl⟩)
      exact ⟨Or.inr ⟨h0, h.1.symm⟩, h.2⟩)
theorem kq_undo {lz : Launch} {G : rd_G} {r : Nat} {μ π ρ : rd_Mem} {l : List rd_Mem} (hS : pg_S μ π (ρ :: l)) : rd_M lz G rd_kc 313 r yX9_undo cX9_undo 1 (some .int) (rd_rm 5 125) [rd_R 0] μ (fun v μ' => v = some (rd_I (l.length : Int)) ∧ pg_S μ' ρ l) :=
  pg_M (c_X9_undo (pg_inv hS)) (fun v μ' h1 => by
    have e := hS.2.1.2.1
    rw [List.length_cons] at e
    rcases h1 with ⟨h, -, -⟩ | ⟨h, hv, hm⟩
    · omega
    · exact ⟨by rw [hv, show μ 62 0 - 1 = (l.length : Int) by omega], by rw [hm]; exact pg_undo hS⟩)
theorem kq_undo0 {lz : Launch} {G : rd_G} {r : Nat} {μ π : rd_Mem} (hS : pg_S μ π []) : rd_M lz G rd_kc 313 r yX9_undo cX9_undo 1 (some .int) (rd_rm 5 125) [rd_R 0] μ (fun v μ' => v = some (rd_I (-6)) ∧ μ' = μ) :=
  pg_M (c_X9_undo (pg_inv hS)) (fun v μ' h1 => by
    have e := hS.2.1.2.1
    rw [List.length_nil] at e
    rcases h1 with ⟨h, hv, hm⟩ | ⟨h, hv, hm⟩
    · exact ⟨hv, hm⟩
    · omega)
theorem pg_st {μ π : rd_Mem} {l : List rd_Mem} (hS : pg_S μ π l) : sp_th μ (μ 58 0) → μ 58 1 ≤ sp_FS μ (μ 58 0) := fun h => (rl_pp hS.1 h).2.2.2.2.2.2.2.1
theorem pg_scr {μ μ' π : rd_Mem} {l : List rd_Mem} (hS : pg_S μ π l) (h : ∀ a : Int, a ≠ 312 → μ' a = μ a) : pg_S μ' π l :=
  ⟨rl_1_c (fun a _ a1 => h a (by omega)) (fun _ _ _ => rfl) hS.1, pg_h_c (fun a _ a1 => h a (by omega)) hS.2.1, pg_tx_c (fun a _ a1 => h a (by omega)) hS.2.2⟩
theorem kq_fewest {lz : Launch} {G : rd_G} {r : Nat} {μ π : rd_Mem} {l : List rd_Mem} (hS : pg_S μ π l) {q0 : Int} (hq : mo_t π q0) : rd_M lz G rd_kc 313 r yX9_fewest cX9_fewest 2 (some .int) (rd_rm 4 114) [rd_R 0, rd_I q0] μ (fun v μ' => (∃ z : Int, v = some (rd_I z) ∧ ((π 1 29 = 0 ∧ z = -6) ∨ (π 1 29 = 1 ∧ ((z = -6 ∧ ∀ (e : Nat) (k : Int), ¬ sp_Q μ e k q0) ∨ (0 ≤ z ∧ (∃ e, sp_Q μ e z q0) ∧ ∀ (e : Nat) (k : Int), sp_Q μ e k q0 → z ≤ k))))) ∧ pg_S μ' π l) := by
  have hth := (rl_t hS.1.2.1 q0).mp hq
  by_cases hh : sp_th μ (μ 58 0)
  · refine pg_M (c_X9_fewest (pg_inv hS) (pg_st hS) hh) (fun v μ' h1 => ?_)
    rcases h1 with ⟨h, -⟩ | ⟨-, z, hv, hz, hm⟩
    · exact absurd hth h
    · exact ⟨⟨z, hv, Or.inr ⟨(rl_on29 hS.1).1.mpr hh, hz⟩⟩, pg_scr hS hm⟩
  · refine pg_M (c_X9_fewest_n (pg_inv hS) (pg_st hS) hh) (fun v μ' h1 => ?_)
    rcases h1 with ⟨h, -⟩ | ⟨-, hv, hm⟩
    · exact absurd hth h
    · exact ⟨⟨-6, hv, Or.inl ⟨(rl_on29 hS.1).2.mpr hh, rfl⟩⟩, by rw [hm]; exact hS⟩
