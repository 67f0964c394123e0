/-! the relation looks at the slots within the arrays only -/
section RLR
variable {μ μ' ν ν' : rd_Mem}
def rl_q (μ' μ : rd_Mem) : Prop := ∀ a x : Int, 1 ≤ a → a < 62 → 0 ≤ x → x < rd_bs (a - 1) → μ' a x = μ a x
theorem rl_qs (h : rl_q μ' μ) {n : Int} (n0 : 0 ≤ n) (n9 : n ≤ 9) : (∀ x : Int, 0 ≤ x → x < 4 → μ' (5 + 5 * n) x = μ (5 + 5 * n) x) ∧ (∀ c x : Int, 1 ≤ c → c ≤ 3 → 0 ≤ x → x < 6 → μ' (5 + 5 * n + c) x = μ (5 + 5 * n + c) x) ∧ ∀ x : Int, 0 ≤ x → x < 10 → μ' (5 + 5 * n + 4) x = μ (5 + 5 * n + 4) x := by
  refine ⟨fun x x0 x1 => h _ x (by omega) (by omega) x0 ?_, fun c x c0 c3 x0 x1 => h _ x (by omega) (by omega) x0 ?_, fun x x0 x1 => h _ x (by omega) (by omega) x0 ?_⟩
  · unfold rd_bs; rw [if_neg (by omega), if_neg (by omega), if_neg (by omega), if_pos (by omega), if_pos (by omega)]; exact x1
  · unfold rd_bs; rw [if_neg (by omega), if_neg (by omega), if_neg (by omega), if_pos (by omega), if_neg (by omega), if_neg (by omega)]; exact x1
  · unfold rd_bs; rw [if_neg (by omega), if_neg (by omega), if_neg (by omega), if_pos (by omega), if_neg (by omega), if_pos (by omega)]; exact x1
theorem rl_q1 (h : rl_q μ' μ) : μ' 1 0 = μ 1 0 ∧ μ' 2 0 = μ 2 0 ∧ (∀ x : Int, 0 ≤ x → x < 10 → μ' 3 x = μ 3 x) ∧ μ' 55 0 = μ 55 0 ∧ (∀ x : Int, 0 ≤ x → x < 8 → μ' 56 x = μ 56 x ∧ μ' 57 x = μ 57 x) ∧ (∀ x : Int, 0 ≤ x → x < 6 → μ' 58 x = μ 58 x) ∧ ∀ c x : Int, 0 ≤ c → c ≤ 2 → 0 ≤ x → x < 40 → μ' (59 + c) x = μ (59 + c) x := by
  refine ⟨h 1 0 (by omega) (by omega) (by omega) (by decide), h 2 0 (by omega) (by omega) (by omega) (by decide), fun x x0 x1 => h 3 x (by omega) (by omega) x0 ?_, h 55 0 (by omega) (by omega) (by omega) (by decide), fun x x0 x1 => ⟨h 56 x (by omega) (by omega) x0 ?_, h 57 x (by omega) (by omega) x0 ?_⟩, fun x x0 x1 => h 58 x (by omega) (by omega) x0 ?_, fun c x c0 c2 x0 x1 => h _ x (by omega) (by omega) x0 ?_⟩
  · exact x1
  · exact x1
  · exact x1
  · exact x1
  · unfold rd_bs; rw [if_neg (by omega), if_neg (by omega), if_neg (by omega), if_neg (by omega), if_neg (by omega), if_neg (by omega), if_neg (by omega)]; exact x1
theorem rl_q_th (h : rl_q μ' μ) (n : Int) : sp_th μ' n ↔ sp_th μ n := by
  unfold sp_th
  constructor
  · rintro ⟨h1, h2⟩; exact ⟨h1, by rw [← (rl_qs h h1.1 (by omega)).1 0 (by omega) (by omega)]; exact h2⟩
  · rintro ⟨h1, h2⟩; exact ⟨h1, by rw [(rl_qs h h1.1 (by omega)).1 0 (by omega) (by omega)]; exact h2⟩
theorem rl_q_FS (h : rl_q μ' μ) (hi : sp_its μ) {n : Int} (n0 : 0 ≤ n) (n9 : n < 10) : sp_FS μ' n = sp_FS μ n := by
  obtain ⟨h1, h2, h3⟩ := rl_qs h n0 (by omega)
  have hr := hi n n0 n9
  unfold sp_FS
  rw [h1 3 (by omega) (by omega)]
  exact sp_fs_c (fun k hk => ⟨h2 1 k (by omega) (by omega) (by omega) (by omega), h2 2 k (by omega) (by omega) (by omega) (by omega)⟩)
theorem rl_q_pl (h : rl_q μ' μ) (hc : sp_cnt μ) (x : Int) : sp_pl μ' x = sp_pl μ x := by
  obtain ⟨-, h2, h3, -⟩ := rl_q1 h
  unfold sp_cnt at hc
  unfold sp_pl
  rw [h2]
  refine sp_ff_cl (fun i i0 i1 => ?_)
  show μ' 3 i = x ↔ μ 3 i = x
  rw [h3 i i0 (by omega)]
theorem sp_lk_c {t t' : Int → Int} {n : Nat} (h : ∀ k : Int, 0 ≤ k → k < n → t' k = t k) : sp_lk t' n = sp_lk t n := by
  induction n with
  | zero => rfl
  | succ n ih => simp only [sp_lk]; rw [ih (fun k a b => h k a (by omega)), h n (by omega) (by omega)]
end RLR

