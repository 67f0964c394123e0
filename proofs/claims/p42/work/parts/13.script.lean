def sp_eL (c : Int) : Int := if c = 98 ∨ c = 102 then 4 else if c = 107 then 1 else if c = 116 then 2 else 5
def sp_eM (c : Int) : Int := if c = 59 then 0 else 5
def sp_eB (c e : Int) : Int := if e = 0 then sp_eL c else if e = 1 then (if 48 ≤ c ∧ c ≤ 57 then 4 else 5) else if e = 2 then (if 49 ≤ c ∧ c ≤ 57 then 3 else 5) else if e = 3 then (if 48 ≤ c ∧ c ≤ 57 then 4 else sp_eM c) else sp_eM c
theorem sp_eB_r (c e : Int) : 0 ≤ sp_eB c e ∧ sp_eB c e ≤ 5 := by
  unfold sp_eB sp_eL sp_eM
  (repeat' split) <;> omega
/-- the fault of a text: from place i on, n signs left, in the state e -/
def sp_flt (t : Int → Int) : Nat → Int → Int → Int
  | 0, i, e => if e = 3 ∨ e = 4 then -6 else i
  | n + 1, i, e => if sp_eB (t i) e = 5 then i else sp_flt t n (i + 1) (sp_eB (t i) e)
theorem sp_flt_t {t : Int → Int} {n : Nat} {i e : Int} (h0 : 0 < n) (h : sp_eB (t i) e = 5) : sp_flt t n i e = i := by
  obtain ⟨m, rfl⟩ : ∃ m, n = m + 1 := ⟨n - 1, by omega⟩
  simp [sp_flt, h]
theorem sp_flt_f {t : Int → Int} {n : Nat} {i e : Int} (h0 : 0 < n) (h : sp_eB (t i) e ≠ 5) : sp_flt t n i e = sp_flt t (n - 1) (i + 1) (sp_eB (t i) e) := by
  obtain ⟨m, rfl⟩ : ∃ m, n = m + 1 := ⟨n - 1, by omega⟩
  simp [sp_flt, h]
def sp_nb (t : Int → Int) : Nat → Int → Int → Int
  | 0, _, a => a
  | n + 1, i, a => if 48 ≤ t i ∧ t i ≤ 57 then sp_nb t n (i + 1) (rd_w (rd_w (a * 10) + (t i - 48))) else a
theorem sp_nb_t {t : Int → Int} {n : Nat} {i a : Int} (h0 : 0 < n) (h : 48 ≤ t i ∧ t i ≤ 57) : sp_nb t n i a = sp_nb t (n - 1) (i + 1) (rd_w (rd_w (a * 10) + (t i - 48))) := by
  obtain ⟨m, rfl⟩ : ∃ m, n = m + 1 := ⟨n - 1, by omega⟩
  simp [sp_nb, h]
theorem sp_nb_f {t : Int → Int} {n : Nat} {i a : Int} (h : ¬ (48 ≤ t i ∧ t i ≤ 57)) : sp_nb t n i a = a := by
  cases n with
  | zero => rfl
  | succ n => unfold sp_nb; rw [if_neg h]
def sp_chs (μ : rd_Mem) : Prop := ∀ j : Int, 0 ≤ j → j < μ 308 0 → 0 ≤ μ 309 j ∧ μ 309 j < 65536
