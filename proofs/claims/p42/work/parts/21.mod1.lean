/-! the check's row of numbers -/
abbrev mo_o (μ : rd_Mem) (i w : Int) : Int := μ 1 (156 + 32 * i + w)
def mo_t (μ : rd_Mem) (n : Int) : Prop := (0 ≤ n ∧ n ≤ 9) ∧ mo_o μ n 0 = 1
noncomputable def mo_FS (μ : rd_Mem) (n : Int) : Int := sp_fs (fun q => mo_o μ n (4 + 3 * q)) (fun q => mo_o μ n (4 + 3 * q + 1)) (mo_o μ n 3).toNat
noncomputable def mo_pl (μ : rd_Mem) (n : Int) : Int := sp_ff (fun i => μ 1 (1 + i) = n) (μ 1 0).toNat 0
noncomputable def mo_nx (μ : rd_Mem) (a : Int) : Int := sp_nx (fun i => μ 1 (1 + i)) (fun n => mo_o μ n 1 = 0) (μ 1 0 - a).toNat a
def mo_z (x : Int) : Int := if x = -1 then -6 else x
def mo_ov (μ : rd_Mem) : Prop := 0 < μ 1 28 ∧ μ 1 28 ≤ μ 1 32
def mo_on (μ : rd_Mem) : Prop := μ 1 29 = 1 ∧ ¬ mo_ov μ
/-- ranges that the walks of the check ask for -/
def mo_cn (μ : rd_Mem) : Prop := (0 ≤ μ 1 0 ∧ μ 1 0 ≤ 10) ∧ ∀ i : Int, 0 ≤ i → i < μ 1 0 → 0 ≤ μ 1 (1 + i) ∧ μ 1 (1 + i) ≤ 9
def mo_it (μ : rd_Mem) (n : Int) : Prop := (0 ≤ mo_o μ n 3 ∧ mo_o μ n 3 ≤ 6) ∧ ∀ q : Int, 0 ≤ q → q < mo_o μ n 3 → (0 ≤ mo_o μ n (4 + 3 * q) ∧ mo_o μ n (4 + 3 * q) ≤ 9) ∧ (-1 ≤ mo_o μ n (4 + 3 * q + 1) ∧ mo_o μ n (4 + 3 * q + 1) ≤ 9)
def mo_po (μ : rd_Mem) (n : Int) : Prop := 0 ≤ mo_pl μ n ∧ mo_pl μ n < μ 1 0
theorem mo_FS_r {μ : rd_Mem} {n : Int} (h : mo_it μ n) : 0 ≤ mo_FS μ n ∧ mo_FS μ n ≤ 9 := by
  refine ⟨sp_fs0 _ _ _, sp_fs_le _ _ _ (fun k hk => ?_)⟩
  have h1 := h.1
  exact (h.2 k (by omega) (by omega)).1.2
noncomputable def mo_mk (μ : rd_Mem) (n t : Int) : Nat → Int := sp_mask (fun q => mo_o μ n (4 + 3 * q)) (fun q => mo_o μ n (4 + 3 * q + 1)) t
def mo_lk (t : Int → Int) : Nat → Int
  | 0 => 0
  | n + 1 => if t n = -6 then mo_lk t n else mo_lk t n + 1
theorem mo_lk0 (t : Int → Int) (n : Nat) : 0 ≤ mo_lk t n ∧ mo_lk t n ≤ n := by
  induction n with
  | zero => simp [mo_lk]
  | succ n ih => unfold mo_lk; split <;> omega
/-- what is asked where a position stands: its slide in the order, its items in range -/
def mo_at (μ : rd_Mem) (n : Int) : Prop := (0 ≤ n ∧ n ≤ 9) ∧ mo_it μ n ∧ mo_po μ n
def mo_cf (μ : rd_Mem) : Prop := μ 1 31 < mo_FS μ (μ 1 30) ∨ mo_nx μ (mo_pl μ (μ 1 30) + 1) ≠ -1
theorem mo_nx_r {μ : rd_Mem} (hc : mo_cn μ) {a : Int} (ha : 0 ≤ a) : mo_nx μ a = -1 ∨ (0 ≤ mo_nx μ a ∧ mo_nx μ a ≤ 9) := by
  unfold mo_nx
  rcases sp_nx_spec (fun i => μ 1 (1 + i)) (fun n => mo_o μ n 1 = 0) (μ 1 0 - a).toNat a with ⟨h, -⟩ | ⟨k, ⟨h1, h2⟩, h3, -⟩
  · exact Or.inl h
  · right; rw [h3]; exact hc.2 k (by omega) (by omega)
theorem mo_z6 {x : Int} (h : x = -1 ∨ (0 ≤ x ∧ x ≤ 9)) : mo_z x = -6 ↔ x = -1 := by
  unfold mo_z; split <;> omega
