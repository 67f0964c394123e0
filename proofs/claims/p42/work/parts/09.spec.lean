/-! what is counted, sought and summed, in whole numbers -/
def sp_fs (f l : Int → Int) : Nat → Int
  | 0 => 0
  | n + 1 => if l n ≠ -1 ∧ l n < 9 then max (max (sp_fs f l n) (f n)) (l n + 1) else max (sp_fs f l n) (f n)
def sp_lk (t : Int → Int) : Nat → Int
  | 0 => 0
  | n + 1 => if t n = -1 then sp_lk t n else sp_lk t n + 1
def sp_seen (f l : Int → Int) (i st : Int) : Prop := f i ≤ st ∧ (l i = -1 ∨ st ≤ l i)
noncomputable def sp_if (c : Prop) (a b : Int) : Int := @ite Int c (Classical.propDecidable c) a b
theorem sp_ift {c : Prop} (h : c) (a b : Int) : sp_if c a b = a := by unfold sp_if; exact if_pos h
theorem sp_iff {c : Prop} (h : ¬ c) (a b : Int) : sp_if c a b = b := by unfold sp_if; exact if_neg h
theorem sp_ifc {c d : Prop} (h : c ↔ d) (a b : Int) : sp_if c a b = sp_if d a b := by rw [propext h]
noncomputable def sp_mask (f l : Int → Int) (st : Int) : Nat → Int
  | 0 => 0
  | n + 1 => sp_mask f l st n + sp_if (sp_seen f l n st) (2 ^ n) 0
noncomputable def sp_tags (f l t : Int → Int) (st : Int) : Nat → Int
  | 0 => 0
  | n + 1 => sp_tags f l t st n + sp_if (sp_seen f l n st) (t n) 0
/-- the first from a on, of n, that has p; -1 -/
noncomputable def sp_ff (p : Int → Prop) : Nat → Int → Int
  | 0, _ => -1
  | n + 1, a => sp_if (p a) a (sp_ff p n (a + 1))
/-- the last below n that has p; -1 -/
noncomputable def sp_fb (p : Int → Prop) : Nat → Int
  | 0 => -1
  | n + 1 => sp_if (p n) n (sp_fb p n)
noncomputable def sp_num (p : Int → Prop) : Nat → Int
  | 0 => 0
  | n + 1 => sp_num p n + sp_if (p n) 1 0
noncomputable def sp_sum (g : Int → Int) : Nat → Int
  | 0 => 0
  | n + 1 => sp_sum g n + g n
theorem sp_fs0 (f l : Int → Int) (n : Nat) : 0 ≤ sp_fs f l n := by
  induction n with
  | zero => simp [sp_fs]
  | succ n ih => unfold sp_fs; split <;> omega
theorem sp_fs_le (f l : Int → Int) (n : Nat) (h : ∀ k : Nat, k < n → f k ≤ 9) : sp_fs f l n ≤ 9 := by
  induction n with
  | zero => simp [sp_fs]
  | succ n ih =>
    have h1 := ih (fun k hk => h k (by omega))
    have h2 := h n (by omega)
    unfold sp_fs; split <;> omega
theorem sp_fs_c {f l f' l' : Int → Int} {n : Nat} (h : ∀ k : Nat, k < n → f k = f' k ∧ l k = l' k) : sp_fs f l n = sp_fs f' l' n := by
  induction n with
  | zero => rfl
  | succ n ih =>
    have h1 := ih (fun k hk => h k (by omega))
    obtain ⟨h2, h3⟩ := h n (by omega)
    unfold sp_fs; rw [h1, h2, h3]
theorem sp_lk0 (t : Int → Int) (n : Nat) : 0 ≤ sp_lk t n ∧ sp_lk t n ≤ n := by
  induction n with
  | zero => simp [sp_lk]
  | succ n ih => unfold sp_lk; split <;> omega
theorem sp_ff_t {p : Int → Prop} {n : Nat} {a : Int} (h0 : 0 < n) (h : p a) : sp_ff p n a = a := by
  obtain ⟨m, rfl⟩ : ∃ m, n = m + 1 := ⟨n - 1, by omega⟩
  simp only [sp_ff]; exact sp_ift h _ _
theorem sp_ff_f {p : Int → Prop} {n : Nat} {a : Int} (h0 : 0 < n) (h : ¬ p a) : sp_ff p n a = sp_ff p (n - 1) (a + 1) := by
  obtain ⟨m, rfl⟩ : ∃ m, n = m + 1 := ⟨n - 1, by omega⟩
  simp only [sp_ff, Nat.add_sub_cancel]; exact sp_iff h _ _
theorem sp_ff_spec (p : Int → Prop) (n : Nat) (a : Int) : (sp_ff p n a = -1 ∧ ∀ i, a ≤ i → i < a + n → ¬ p i) ∨ ((a ≤ sp_ff p n a ∧ sp_ff p n a < a + n) ∧ p (sp_ff p n a) ∧ ∀ i, a ≤ i → i < sp_ff p n a → ¬ p i) := by
  induction n generalizing a with
  | zero => exact Or.inl ⟨rfl, fun i h1 h2 => by omega⟩
  | succ n ih =>
    by_cases h : p a
    · rw [sp_ff_t (Nat.succ_pos n) h]
      exact Or.inr ⟨⟨by omega, by omega⟩, h, fun i h1 h2 => by omega⟩
    · rw [sp_ff_f (Nat.succ_pos n) h, show n.succ - 1 = n from rfl]
      rcases ih (a + 1) with ⟨h1, h2⟩ | ⟨⟨h1, h1'⟩, h2, h3⟩
      · refine Or.inl ⟨h1, fun i hi hj => ?_⟩
        by_cases e : i = a
        · subst e; exact h
        · exact h2 i (by omega) (by omega)
      · refine Or.inr ⟨⟨by omega, by omega⟩, h2, fun i hi hj => ?_⟩
        by_cases e : i = a
        · subst e; exact h
        · exact h3 i (by omega) hj
/-- the number at the first place from a on whose number is shown; -1 -/
noncomputable def sp_nx (ord : Int → Int) (sh : Int → Prop) : Nat → Int → Int
  | 0, _ => -1
  | n + 1, a => sp_if (sh (ord a)) (ord a) (sp_nx ord sh n (a + 1))
theorem sp_nx_t {ord : Int → Int} {sh : Int → Prop} {n : Nat} {a : Int} (h0 : 0 < n) (h : sh (ord a)) : sp_nx ord sh n a = ord a := by
  obtain ⟨m, rfl⟩ : ∃ m, n = m + 1 := ⟨n - 1, by omega⟩
  simp only [sp_nx]; exact sp_ift h _ _
theorem sp_nx_f {ord : Int → Int} {sh : Int → Prop} {n : Nat} {a : Int} (h0 : 0 < n) (h : ¬ sh (ord a)) : sp_nx ord sh n a = sp_nx ord sh (n - 1) (a + 1) := by
  obtain ⟨m, rfl⟩ : ∃ m, n = m + 1 := ⟨n - 1, by omega⟩
  simp only [sp_nx, Nat.add_sub_cancel]; exact sp_iff h _ _
theorem sp_nx_spec (ord : Int → Int) (sh : Int → Prop) (n : Nat) (a : Int) : (sp_nx ord sh n a = -1 ∧ ∀ i, a ≤ i → i < a + n → ¬ sh (ord i)) ∨ (∃ k, (a ≤ k ∧ k < a + n) ∧ sp_nx ord sh n a = ord k ∧ sh (ord k) ∧ ∀ i, a ≤ i → i < k → ¬ sh (ord i)) := by
  induction n generalizing a with
  | zero => exact Or.inl ⟨rfl, fun i h1 h2 => by omega⟩
  | succ n ih =>
    by_cases h : sh (ord a)
    · exact Or.inr ⟨a, ⟨by omega, by omega⟩, sp_nx_t (Nat.succ_pos n) h, h, fun i h1 h2 => by omega⟩
    · rw [sp_nx_f (Nat.succ_pos n) h, show n.succ - 1 = n from rfl]
      rcases ih (a + 1) with ⟨h1, h2⟩ | ⟨k, ⟨h1, h1'⟩, h2, h3, h4⟩
      · refine Or.inl ⟨h1, fun i hi hj => ?_⟩
        by_cases e : i = a
        · subst e; exact h
        · exact h2 i (by omega) (by omega)
      · refine Or.inr ⟨k, ⟨by omega, by omega⟩, h2, h3, fun i hi hj => ?_⟩
        by_cases e : i = a
        · subst e; exact h
        · exact h4 i (by omega) hj
theorem sp_fb_t {p : Int → Prop} {n : Nat} (h : p n) : sp_fb p (n + 1) = n := by simp only [sp_fb]; exact sp_ift h _ _
theorem sp_fb_f {p : Int → Prop} {n : Nat} (h : ¬ p n) : sp_fb p (n + 1) = sp_fb p n := by simp only [sp_fb]; exact sp_iff h _ _
theorem sp_fb_spec (p : Int → Prop) (n : Nat) : (sp_fb p n = -1 ∧ ∀ i : Int, 0 ≤ i → i < n → ¬ p i) ∨ ((0 ≤ sp_fb p n ∧ sp_fb p n < n) ∧ p (sp_fb p n) ∧ ∀ i : Int, sp_fb p n < i → i < n → ¬ p i) := by
  induction n with
  | zero => exact Or.inl ⟨rfl, fun i h1 h2 => by omega⟩
  | succ n ih =>
    by_cases h : p n
    · rw [sp_fb_t h]
      exact Or.inr ⟨⟨by omega, by omega⟩, h, fun i h1 h2 => by omega⟩
    · rw [sp_fb_f h]
      rcases ih with ⟨h1, h2⟩ | ⟨⟨h1, h1'⟩, h2, h3⟩
      · refine Or.inl ⟨h1, fun i hi hj => ?_⟩
        by_cases e : i = n
        · subst e; exact h
        · exact h2 i (by omega) (by omega)
      · refine Or.inr ⟨⟨by omega, by omega⟩, h2, fun i hi hj => ?_⟩
        by_cases e : i = n
        · subst e; exact h
        · exact h3 i hi (by omega)
/-- there is a slide of this number, in the present state -/
def sp_th (μ : rd_Mem) (n : Int) : Prop := (0 ≤ n ∧ n < 10) ∧ μ (5 + 5 * n) 0 ≠ 0
def sp_sh (μ : rd_Mem) (n : Int) : Prop := sp_th μ n ∧ μ (5 + 5 * n) 1 = 0
noncomputable def sp_FS (μ : rd_Mem) (n : Int) : Int := sp_fs (μ (5 + 5 * n + 1)) (μ (5 + 5 * n + 2)) (μ (5 + 5 * n) 3).toNat
noncomputable def sp_pl (μ : rd_Mem) (n : Int) : Int := sp_ff (fun i => μ 3 i = n) (μ 2 0).toNat 0
noncomputable def sp_next (μ : rd_Mem) (a : Int) : Int := sp_nx (μ 3) (sp_sh μ) (μ 2 0 - a).toNat a
/-- what the present deck keeps to -/
def sp_cnt (μ : rd_Mem) : Prop := 0 ≤ μ 2 0 ∧ μ 2 0 ≤ 10
def sp_its (μ : rd_Mem) : Prop := ∀ i : Int, 0 ≤ i → i < 10 → 0 ≤ μ (5 + 5 * i) 3 ∧ μ (5 + 5 * i) 3 ≤ 6

