/-! the class makes the moves of a text -/
theorem rd_mvt_t {μ : rd_Mem} (h4 : 0 ≤ μ 58 5 ∧ μ 58 5 ≤ 40) (n s m : Int) {q c : Int} (hq : 0 ≤ q) (hq2 : q < (if μ 58 5 = 40 then 40 else μ 58 5 + 1)) (hc : 0 ≤ c ∧ c ≤ 2) : rd_mvt μ n s m (59 + c) q = (if q = (if μ 58 5 = 40 then 39 else μ 58 5) then μ 58 c else μ (59 + c) (if μ 58 5 = 40 then q + 1 else q)) := by
  have hc3 : c = 0 ∨ c = 1 ∨ c = 2 := by omega
  unfold rd_mvt
  by_cases h : μ 58 5 = 40
  · simp only [if_pos h] at hq2 ⊢
    have e : rd_drk μ 39 58 5 = 39 := by unfold rd_drk; rw [if_pos ⟨rfl, rfl⟩]
    have e2 : ∀ j : Int, j ≠ 5 → rd_drk μ 39 58 j = μ 58 j := fun j hj => by unfold rd_drk; rw [if_neg (by omega), if_neg (by omega)]
    unfold rd_mv
    rw [e, e2 0 (by omega), e2 1 (by omega), e2 2 (by omega)]
    simp only [rd_u]
    unfold rd_drk
    rcases hc3 with rfl | rfl | rfl <;> grind
  · simp only [if_neg h] at hq2 ⊢
    unfold rd_mv
    simp only [rd_u]
    rcases hc3 with rfl | rfl | rfl <;> grind
def sp_ts (μ : rd_Mem) : Prop := ∀ k : Int, 0 ≤ k → k < μ 58 5 → 0 ≤ μ 60 k ∧ μ 60 k ≤ 9
theorem rd_mvt_ts {μ : rd_Mem} (hw : sp_wf μ) (ht : sp_ts μ) (n s m : Int) : sp_ts (rd_mvt μ n s m) := by
  have h4 := hw.2.2.2.1
  intro k k0 k1
  rw [(rd_mvt_58 μ n s m).2.2.2.2.2] at k1
  have e := rd_mvt_t h4 n s m k0 k1 (c := 1) (by omega)
  rw [show (59 : Int) + 1 = 60 from rfl] at e
  rw [e]
  by_cases h : μ 58 5 = 40
  · simp only [if_pos h] at k1 ⊢
    by_cases hq : k = 39
    · rw [if_pos hq]; exact hw.2.2.2.2
    · rw [if_neg hq]; exact ht _ (by omega) (by omega)
  · simp only [if_neg h] at k1 ⊢
    by_cases hq : k = μ 58 5
    · rw [if_pos hq]; exact hw.2.2.2.2
    · rw [if_neg hq]; exact ht _ (by omega) (by omega)
theorem rd_mvt_wf {μ : rd_Mem} (hw : sp_wf μ) (n m : Int) {s : Int} (hs : 0 ≤ s ∧ s ≤ 9) : sp_wf (rd_mvt μ n s m) :=
  sp_wf_c (fun a ha => rd_mvt_lo μ n s m (by omega)) hw (by rw [(rd_mvt_58 μ n s m).2.2.2.2.2]; have := hw.2.2.2.1; split <;> omega) (by rw [(rd_mvt_58 μ n s m).2.1]; exact hs)
theorem rd_gf_ts {μ : rd_Mem} (hw : sp_wf μ) (ht : sp_ts μ) : sp_ts (rd_gf μ) := by
  unfold rd_gf
  by_cases hc : μ 58 1 < sp_FS μ (μ 58 0)
  · rw [sp_ite_t hc]; exact rd_mvt_ts hw ht _ _ _
  · rw [sp_ite_f hc]; exact rd_mvt_ts hw ht _ _ _
theorem rd_t0_ts {μ : rd_Mem} (ht : sp_ts μ) : sp_ts (rd_t0 μ) := by
  intro k k0 k1
  have e5 : rd_t0 μ 58 5 = μ 58 5 := by simp [rd_t0, rd_u]
  rw [e5] at k1
  rw [rd_t0_lo μ (by decide)]
  exact ht k k0 k1
theorem rd_t1_ts {μ : rd_Mem} (hw : sp_wf μ) (hth : sp_th μ (μ 58 0)) (ht : sp_ts μ) : sp_ts (rd_t1 μ) := by
  unfold rd_t1
  by_cases h : sp_mv (rd_t0 μ)
  · rw [sp_ite_t h]; exact rd_gf_ts (rd_t0_wf hw hth).1 (rd_t0_ts ht)
  · rw [sp_ite_f h]; exact rd_t0_ts ht
theorem rd_t1_lo (μ : rd_Mem) {a : Int} (h : a < 58 ∨ 61 < a) : rd_t1 μ a = μ a := by
  unfold rd_t1
  by_cases hm : sp_mv (rd_t0 μ)
  · rw [sp_ite_t hm, rd_gf_lo _ h, rd_t0_lo μ (by omega)]
  · rw [sp_ite_f hm, rd_t0_lo μ (by omega)]
theorem rd_ps_wf (n : Nat) : ∀ {μ : rd_Mem}, sp_wf μ → sp_th μ (μ 58 0) → sp_ts μ → (sp_wf (rd_ps n μ) ∧ sp_ts (rd_ps n μ) ∧ sp_th (rd_ps n μ) (rd_ps n μ 58 0)) ∧ ∀ a : Int, a < 58 ∨ 61 < a → rd_ps n μ a = μ a := by
  induction n with
  | zero => intro μ h1 h2 h3; exact ⟨⟨h1, h3, h2⟩, fun _ _ => rfl⟩
  | succ n ih =>
    intro μ h1 h2 h3
    by_cases ho : sp_over μ
    · rw [(rd_ps_y (Or.inr ho)).1]; exact ⟨⟨h1, h3, h2⟩, fun _ _ => rfl⟩
    · rw [rd_ps_n (Nat.succ_pos n) ho]
      obtain ⟨g1, g2⟩ := rd_t1_wf h1 h2
      obtain ⟨k1, k2⟩ := ih g1 g2 (rd_t1_ts h1 h2 h3)
      exact ⟨k1, fun a ha => (k2 a ha).trans (rd_t1_lo μ ha)⟩
theorem rd_gb_s (μ : rd_Mem) : rd_gb μ 58 0 = μ 59 (sp_bp μ) ∧ rd_gb μ 58 1 = min (μ 60 (sp_bp μ)) (sp_FS μ (μ 59 (sp_bp μ))) ∧ rd_gb μ 58 2 = μ 61 (sp_bp μ) ∧ rd_gb μ 58 3 = μ 58 3 ∧ rd_gb μ 58 4 = 0 ∧ rd_gb μ 58 5 = sp_bp μ ∧ ∀ a : Int, a ≠ 58 → rd_gb μ a = μ a := by
  unfold rd_gb rd_ret
  refine ⟨?_, ?_, ?_, ?_, ?_, ?_, fun a ha => ?_⟩
  · simp [rd_u]
  · simp [rd_u]
  · simp [rd_u]
  · simp [rd_u]
  · simp [rd_u]
  · simp [rd_u]
  · repeat rw [rd_u_ne _ _ _ ha]
theorem rd_gb_wf {μ : rd_Mem} (hw : sp_wf μ) (ht : sp_ts μ) (hb : sp_bp μ ≠ -1) : sp_wf (rd_gb μ) ∧ sp_ts (rd_gb μ) := by
  obtain ⟨⟨hb0, hb1⟩, hb3⟩ := sp_bp_r hb hw.2.2.2.1.1
  obtain ⟨e0, e1, e2, e3, e4, e5, eo⟩ := rd_gb_s μ
  have h9 := sp_FS9 hw.2.1 hw.2.2.1 hb3.1.1.1 hb3.1.1.2
  have h0 : 0 ≤ sp_FS μ (μ 59 (sp_bp μ)) := sp_fs0 _ _ _
  have hst := ht _ hb0 hb1
  have h4 := hw.2.2.2.1
  refine ⟨sp_wf_c (fun a ha => eo a (by omega)) hw (by rw [e5]; omega) (by rw [e1]; omega), fun k k0 k1 => ?_⟩
  rw [e5] at k1
  rw [eo 60 (by decide)]
  exact ht k k0 (by omega)
theorem rd_mk_wf {μ : rd_Mem} (hw : sp_wf μ) (ht : sp_ts μ) {c q : Int} (hc : sp_can μ c q) : (sp_wf (rd_mk μ c q) ∧ sp_ts (rd_mk μ c q)) ∧ ∀ a : Int, a < 58 ∨ 61 < a → rd_mk μ c q a = μ a := by
  unfold rd_mk
  by_cases h1 : c = 102
  · rw [if_pos h1]; exact ⟨⟨(rd_gf_wf hw hc.1 (hc.2.2.1 h1)).1, rd_gf_ts hw ht⟩, fun a ha => rd_gf_lo μ ha⟩
  · rw [if_neg h1]
    by_cases h2 : c = 98
    · rw [if_pos h2]; exact ⟨rd_gb_wf hw ht (hc.2.2.2.1 h2), fun a ha => (rd_gb_s μ).2.2.2.2.2.2 a (by omega)⟩
    · rw [if_neg h2]
      by_cases h3 : c = 107
      · rw [if_pos h3]; exact ⟨⟨rd_mvt_wf hw _ _ (by omega), rd_mvt_ts hw ht _ _ _⟩, fun a ha => rd_mvt_lo μ _ _ _ ha⟩
      · rw [if_neg h3]
        obtain ⟨⟨k1, k2, -⟩, k3⟩ := rd_ps_wf q.toNat hw hc.1 ht
        exact ⟨⟨k1, k2⟩, k3⟩
/-- the moves made one after the other: how many, the memory, where it stopped (-1: all are made) -/
noncomputable def rd_rn : List (Int × Int × Int) → rd_Mem → Int → Int × rd_Mem × Int
  | [], μ, m => (m, μ, -1)
  | (i, c, q) :: r, μ, m => sp_ite (sp_can μ c q) (rd_rn r (rd_mk μ c q) (m + 1)) (m, μ, i)
theorem rd_rn_t {i c q m : Int} {r : List (Int × Int × Int)} {μ : rd_Mem} (h : sp_can μ c q) : rd_rn ((i, c, q) :: r) μ m = rd_rn r (rd_mk μ c q) (m + 1) := by
  show sp_ite _ _ _ = _
  rw [sp_ite_t h]
theorem rd_rn_f {i c q m : Int} {r : List (Int × Int × Int)} {μ : rd_Mem} (h : ¬ sp_can μ c q) : rd_rn ((i, c, q) :: r) μ m = (m, μ, i) := by
  show sp_ite _ _ _ = _
  rw [sp_ite_f h]
noncomputable def rd_tl (M : rd_Mem) (R f : Int) : rd_Mem := if f = -1 then M else rd_u (rd_u (rd_u (rd_u M 310 0 R) 310 1 f) 310 2 (sp_if (M 58 0 ≠ -1) (M 58 0) (-6))) 310 3 (sp_if (M 58 0 ≠ -1) (M 58 1) (-6))
