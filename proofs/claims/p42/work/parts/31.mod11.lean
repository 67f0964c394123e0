/-! what is left, as the check counts it -/
noncomputable def mo_ml (μ : rd_Mem) (a : Int) (n : Nat) : Int := sp_sum (fun i => sp_if (mo_o μ (μ 1 (1 + (a + i))) 1 = 0) (mo_FS μ (μ 1 (1 + (a + i))) + 1) 0) n
def mo_inj (μ : rd_Mem) : Prop := ∀ i : Int, 0 ≤ i → i < μ 1 0 → mo_pl μ (μ 1 (1 + i)) = i
/-- the seconds from a slide, a step and a waited time on; as many moves as are looked at -/
noncomputable def mo_rs (μ : rd_Mem) : Nat → Int → Int → Int → Int → Int
  | 0, _, _, _, x => x
  | f + 1, n, st, w, x => sp_if (st < mo_FS μ n ∨ mo_nx μ (mo_pl μ n + 1) ≠ -1) (sp_if (mo_o μ n 2 = 0) (-6) (mo_rs μ f (if st = mo_FS μ n then mo_nx μ (mo_pl μ n + 1) else n) (if st = mo_FS μ n then 0 else st + 1) 0 (rd_w (x + (if 1 ≤ rd_w (mo_o μ n 2 - w) then rd_w (mo_o μ n 2 - w) else 1))))) x
theorem mo_rs_o {μ : rd_Mem} {f : Nat} {n st w x : Int} (h : ¬ (st < mo_FS μ n ∨ mo_nx μ (mo_pl μ n + 1) ≠ -1)) : mo_rs μ f n st w x = x := by
  cases f with
  | zero => rfl
  | succ f => simp only [mo_rs]; exact sp_iff h _ _
theorem mo_rs_z {μ : rd_Mem} {f : Nat} {n st w x : Int} (hf : 0 < f) (h : st < mo_FS μ n ∨ mo_nx μ (mo_pl μ n + 1) ≠ -1) (h0 : mo_o μ n 2 = 0) : mo_rs μ f n st w x = -6 := by
  obtain ⟨m, rfl⟩ : ∃ m, f = m + 1 := ⟨f - 1, by omega⟩
  simp only [mo_rs]; rw [sp_ift h, sp_ift h0]
theorem mo_rs_s {μ : rd_Mem} {f : Nat} {n st w x : Int} (hf : 0 < f) (h : st < mo_FS μ n ∨ mo_nx μ (mo_pl μ n + 1) ≠ -1) (h0 : mo_o μ n 2 ≠ 0) : mo_rs μ f n st w x = mo_rs μ (f - 1) (if st = mo_FS μ n then mo_nx μ (mo_pl μ n + 1) else n) (if st = mo_FS μ n then 0 else st + 1) 0 (rd_w (x + (if 1 ≤ rd_w (mo_o μ n 2 - w) then rd_w (mo_o μ n 2 - w) else 1))) := by
  obtain ⟨m, rfl⟩ : ∃ m, f = m + 1 := ⟨f - 1, by omega⟩
  simp only [mo_rs]; rw [sp_ift h, sp_iff h0]; rfl
theorem mo_nx_p {μ : rd_Mem} (hi : mo_inj μ) {a : Int} (ha : 0 ≤ a) (h : mo_nx μ a ≠ -1) : a ≤ mo_pl μ (mo_nx μ a) ∧ mo_pl μ (mo_nx μ a) < μ 1 0 ∧ mo_o μ (mo_nx μ a) 1 = 0 := by
  unfold mo_nx at h ⊢
  rcases sp_nx_spec (fun i => μ 1 (1 + i)) (fun n => mo_o μ n 1 = 0) (μ 1 0 - a).toNat a with ⟨h1, -⟩ | ⟨k, ⟨h1, h2⟩, h3, h4, -⟩
  · exact absurd h1 h
  · rw [h3, hi k (by omega) (by omega)]; exact ⟨h1, by omega, h4⟩
