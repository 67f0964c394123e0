/-! sums over the order and over the rows -/
theorem sp_sum_add (f g : Int → Int) (n : Nat) : sp_sum (fun i => f i + g i) n = sp_sum f n + sp_sum g n := by
  induction n with
  | zero => rfl
  | succ n ih => simp only [sp_sum]; rw [ih]; omega
theorem sp_sum_z {f : Int → Int} {n : Nat} (h : ∀ i : Int, 0 ≤ i → i < n → f i = 0) : sp_sum f n = 0 := by
  induction n with
  | zero => rfl
  | succ n ih => simp only [sp_sum]; rw [ih (fun i a b => h i a (by omega)), h n (by omega) (by omega)]; rfl
theorem sp_sum_c {f g : Int → Int} {n : Nat} (h : ∀ i : Int, 0 ≤ i → i < n → f i = g i) : sp_sum f n = sp_sum g n := by
  induction n with
  | zero => rfl
  | succ n ih => simp only [sp_sum]; rw [ih (fun i a b => h i a (by omega)), h n (by omega) (by omega)]
theorem sp_sum_sw (f : Int → Int → Int) (m n : Nat) : sp_sum (fun i => sp_sum (fun j => f i j) m) n = sp_sum (fun j => sp_sum (fun i => f i j) n) m := by
  induction n with
  | zero => simp only [sp_sum]; exact (sp_sum_z (fun _ _ _ => rfl)).symm
  | succ n ih => simp only [sp_sum]; rw [ih, ← sp_sum_add]
theorem sp_sum_1 {f : Int → Int} {n : Nat} {j : Int} (j0 : 0 ≤ j) (j1 : j < n) (h : ∀ i : Int, 0 ≤ i → i < n → i ≠ j → f i = 0) : sp_sum f n = f j := by
  induction n with
  | zero => omega
  | succ n ih =>
    simp only [sp_sum]
    by_cases hj : j = n
    · rw [sp_sum_z (fun i a b => h i a (by omega) (by omega)), hj]; omega
    · rw [ih (by omega) (fun i a b c => h i a (by omega) c), h n (by omega) (by omega) (fun e => hj e.symm)]; omega
theorem sp_sum_num (p : Int → Prop) (n : Nat) : sp_num p n = sp_sum (fun i => sp_if (p i) 1 0) n := by
  induction n with
  | zero => rfl
  | succ n ih => simp only [sp_num, sp_sum]; rw [ih]
theorem sp_sum_o {μ : rd_Mem} (hc : rl_c μ) (g : Int → Int) : sp_sum (fun i => g (μ 3 i)) (μ 2 0).toNat = sp_sum (fun n => sp_if (sp_th μ n) (g n) 0) 10 := by
  have ho := hc.2.2.2.2.2.2.1
  have h1 : sp_sum (fun i => g (μ 3 i)) (μ 2 0).toNat = sp_sum (fun i => sp_sum (fun n => sp_if (n = μ 3 i) (g n) 0) 10) (μ 2 0).toNat := by
    refine sp_sum_c (fun i i0 i1 => ?_)
    have ht := (ho i i0 (by omega)).1
    show _ = sp_sum (fun n => sp_if (n = μ 3 i) (g n) 0) 10
    rw [sp_sum_1 (j := μ 3 i) ht.1.1 (by have := ht.1.2; omega) (fun n _ _ hn => sp_iff hn _ _)]
    exact (sp_ift rfl _ _).symm
  rw [h1, sp_sum_sw]
  refine sp_sum_c (fun n n0 n1 => ?_)
  show sp_sum (fun i => sp_if (n = μ 3 i) (g n) 0) (μ 2 0).toNat = _
  by_cases ht : sp_th μ n
  · have hp := hc.2.2.2.1 n ht
    have hpl : μ 3 (sp_pl μ n) = n := by
      unfold sp_pl at hp ⊢
      rcases sp_ff_spec (fun i => μ 3 i = n) (μ 2 0).toNat 0 with ⟨k, -⟩ | ⟨-, k, -⟩
      · omega
      · exact k
    rw [sp_ift ht, sp_sum_1 (j := sp_pl μ n) hp.1 (by omega) (fun i i0 i1 hi => sp_iff (fun e => hi (by rw [e]; exact ((ho i i0 (by omega)).2).symm)) _ _)]
    exact sp_ift hpl.symm _ _
  · rw [sp_iff ht]
    exact sp_sum_z (fun i i0 i1 => sp_iff (fun e => ht (by rw [e]; exact (ho i i0 (by omega)).1)) _ _)
theorem sp_sum_k (n : Nat) : sp_sum (fun _ => 1) n = n := by
  induction n with
  | zero => rfl
  | succ n ih => simp only [sp_sum]; rw [ih]; omega
theorem rl_num {μ : rd_Mem} (hc : rl_c μ) : sp_num (sp_th μ) 10 = μ 2 0 := by
  rw [sp_sum_num, ← sp_sum_o hc (fun _ => 1), sp_sum_k]
  have := hc.1.1.1; omega
theorem rl_room {μ : rd_Mem} (hc : rl_c μ) : sp_room μ := by
  intro i i0 i1 h
  have h1 := sp_num_s (p := sp_th μ) (q := fun _ => True) (n := 10) (fun _ _ _ _ => trivial) i0 i1 (fun ht => ht.2 h) trivial
  have h2 := (sp_num_le (fun _ => True) 10).2
  rw [rl_num hc] at h1
  omega
/-- a slide is free if there are fewer than ten -/
theorem rl_free {μ : rd_Mem} (hc : rl_c μ) : sp_ff (fun i => μ (5 + 5 * i) 0 = 0) 10 0 = -1 ↔ μ 2 0 = 10 := by
  rcases sp_ff_spec (fun i => μ (5 + 5 * i) 0 = 0) 10 0 with ⟨h1, h2⟩ | ⟨h1, h2, -⟩
  · refine ⟨fun _ => ?_, fun _ => h1⟩
    have h3 := sp_num_m (p := fun _ => True) (q := sp_th μ) (n := 10) (fun i i0 i1 _ => ⟨⟨i0, by omega⟩, h2 i i0 (by omega)⟩)
    have h4 : sp_num (fun _ => True) 10 = 10 := by
      rw [sp_sum_num, sp_sum_c (g := fun _ => 1) (fun i _ _ => sp_ift trivial _ _), sp_sum_k]; rfl
    rw [rl_num hc, h4] at h3
    have := hc.1.1.2
    omega
  · have := rl_room hc _ h1.1 (by omega) h2
    exact ⟨fun h => by omega, fun h => by omega⟩
theorem rl_inv {μ : rd_Mem} (hc : rl_c μ) (hh : sp_hi μ) (ht : sp_tx μ) : sp_inv μ := ⟨hc.1, hc.2.1, hh, ht, hc.2.2.1, hc.2.2.2.1, hc.2.2.2.2.1, rl_room hc⟩

