/-! the history as a list of ghosts, the latest first -/
def pg_h (μ : rd_Mem) (l : List rd_Mem) : Prop := sp_hp μ ∧ μ 62 0 = (l.length : Int) ∧ l.length ≤ 4 ∧ (∀ s t : Int, 0 ≤ s → s < 4 → 0 ≤ t → t < 4 → μ 63 s = μ 63 t → s = t) ∧ ∀ (i : Nat) (π : rd_Mem), l[i]? = some π → rl_1 (rl_sh μ (64 + 61 * μ 63 (μ 62 0 - 1 - i))) π
def pg_S (μ π : rd_Mem) (l : List rd_Mem) : Prop := rl_1 μ π ∧ pg_h μ l ∧ sp_tx μ
section PG
variable {μ μ' π π' : rd_Mem} {l : List rd_Mem}
theorem pg_n (h : pg_h μ l) : 0 ≤ μ 62 0 ∧ μ 62 0 ≤ 4 := by
  have := h.2.1
  have := h.2.2.1
  omega
theorem pg_hi (h : pg_h μ l) : sp_hi μ := by
  have hn := pg_n h
  refine ⟨h.1, hn, fun t t0 t1 i i0 i1 => ?_⟩
  have e := h.2.1
  have hl : (μ 62 0 - 1 - t).toNat < l.length := by omega
  have g := (h.2.2.2.2 (μ 62 0 - 1 - t).toNat (l[(μ 62 0 - 1 - t).toNat]) (List.getElem?_eq_getElem hl)).1.2.1 i i0 i1
  rw [show μ 62 0 - 1 - (((μ 62 0 - 1 - t).toNat : Nat) : Int) = t by omega] at g
  unfold rl_sh at g
  rw [show 1 + 4 + 5 * i - 1 + (64 + 61 * μ 63 t) = 64 + 61 * μ 63 t + 4 + 5 * i by omega] at g
  exact g
theorem pg_inv (h : pg_S μ π l) : sp_inv μ := rl_inv h.1.1 (pg_hi h.2.1) h.2.2
theorem pg_h_c (h : ∀ a : Int, 62 ≤ a → a < 308 → μ' a = μ a) (hh : pg_h μ l) : pg_h μ' l := by
  have hn := pg_n hh
  obtain ⟨g1, g2, g3, g4, g5⟩ := hh
  unfold pg_h sp_hp
  rw [h 62 (by omega) (by omega), h 63 (by omega) (by omega)]
  refine ⟨g1, g2, g3, g4, fun i π hi => ?_⟩
  have hl := (List.getElem?_eq_some_iff.mp hi).1
  have hx := g1 (μ 62 0 - 1 - i) (by omega) (by omega)
  refine rl_1_c (fun a a0 a1 => ?_) (fun _ _ _ => rfl) (g5 i π hi)
  unfold rl_sh; exact h _ (by omega) (by omega)
theorem pg_tx_c (h : ∀ a : Int, 308 ≤ a → a < 311 → μ' a = μ a) (hx : sp_tx μ) : sp_tx μ' := by
  unfold sp_tx sp_chs at hx ⊢
  rw [h 308 (by omega) (by omega), h 309 (by omega) (by omega)]
  exact hx
/-- the end of the row of rows doesn't matter -/
theorem pg_keep (hR : pg_S μ π l) : pg_S (rd_keep μ) π (π :: l.take 3) := by
  obtain ⟨h1, hh, h3⟩ := hR
  have hlo : ∀ a : Int, a < 62 ∨ 308 ≤ a → rd_keep μ a = μ a := fun a ha => rd_keep_lo (pg_hi hh) ha
  refine ⟨rl_1_c (fun a _ a1 => hlo a (Or.inl a1)) (fun _ _ _ => rfl) h1, ?_, pg_tx_c (fun a a0 _ => hlo a (Or.inr a0)) h3⟩
  have hn := pg_n hh
  obtain ⟨g2, ge, gl, g4, g5⟩ := hh
  unfold rd_keep
  by_cases h4 : μ 62 0 = 4
  · rw [if_pos h4]
    obtain ⟨r1, r2, r3⟩ := rd_hdo_r (μ := μ)
    have q3 : rd_hdo μ 63 3 = μ 63 0 := by unfold rd_hdo; rw [rd_u_s]
    have qt : ∀ t : Int, 0 ≤ t → t < 3 → rd_hdo μ 63 t = μ 63 (t + 1) := fun t t0 t1 => by
      unfold rd_hdo; rw [rd_u_j _ _ _ (by omega)]; unfold rd_hdk; rw [if_neg (by omega), if_pos ⟨rfl, t0, t1⟩]
    have q62 : rd_hdo μ 62 0 = 3 := by unfold rd_hdo; rw [rd_u_k _ _ _ (by decide)]; unfold rd_hdk; rw [if_pos ⟨rfl, rfl⟩]
    have qo : ∀ a : Int, a ≠ 62 → a ≠ 63 → rd_hdo μ a = μ a := r3
    have hx0 := g2 0 (by omega) (by omega)
    obtain ⟨k1, k2, k3, k4⟩ := rl_kp_q (κ := rd_hdo μ) (μ := μ) (fun a ha => qo a (by omega) (by omega)) (by rw [q62, q3]; exact hx0)
    rw [q62] at k1 k2 k3
    rw [q3] at k1 k2
    have q63 : ∀ t : Int, 0 ≤ t → t < 4 → rd_kp (rd_hdo μ) 63 t = μ 63 (if t = 3 then 0 else t + 1) := fun t t0 t1 => by
      rw [k4]
      by_cases ht : t = 3
      · rw [if_pos ht, ht]; exact q3
      · rw [if_neg ht]; exact qt t t0 (by omega)
    have hl4 : l.length = 4 := by omega
    refine ⟨fun t t0 t1 => ?_, by rw [k3]; simp [hl4], by simp [hl4], fun s t s0 s1 t0 t1 he => ?_, fun i ρ hi => ?_⟩
    · rw [q63 t t0 t1]; exact g2 _ (by split <;> omega) (by split <;> omega)
    · rw [q63 s s0 s1, q63 t t0 t1] at he
      have := g4 _ _ (by split <;> omega) (by split <;> omega) (by split <;> omega) (by split <;> omega) he
      (repeat' split at this) <;> omega
    · rw [k3]
      cases i with
      | zero =>
        have e : π = ρ := by simpa using hi
        subst e
        rw [show (3 : Int) + 1 - 1 - ((0 : Nat) : Int) = 3 by omega, q63 3 (by omega) (by omega), if_pos rfl]
        exact rl_q_1 k1 h1
      | succ i =>
        have hi2 : (l.take 3)[i]? = some ρ := by simpa using hi
        have hi3 : i < 3 := by
          have := (List.getElem?_eq_some_iff.mp hi2).1
          simp at this; omega
        rw [List.getElem?_take_of_lt hi3] at hi2
        have hb := g2 (4 - 1 - i) (by omega) (by omega)
        have g := g5 i ρ hi2
        rw [h4] at g
        rw [show (3 : Int) + 1 - 1 - ((i + 1 : Nat) : Int) = 2 - i by omega, q63 _ (by omega) (by omega), if_neg (by omega), show (2 : Int) - i + 1 = 4 - 1 - i by omega]
        have hne : μ 63 (4 - 1 - i) ≠ μ 63 0 := fun e => by have := g4 _ _ (by omega) (by omega) (by omega) (by omega) e; omega
        refine rl_1_c (fun a a0 a1 => ?_) (fun _ _ _ => rfl) g
        rw [k2 _ hb.1 hb.2 hne a a0 a1]; unfold rl_sh; exact qo _ (by omega) (by omega)
  · rw [if_neg h4]
    have hxc := g2 (μ 62 0) (by omega) (by omega)
    obtain ⟨k1, k2, k3, k4⟩ := rl_kp_q (κ := μ) (μ := μ) (fun _ _ => rfl) hxc
    have hl3 : l.length ≤ 3 := by omega
    have ht3 : l.take 3 = l := List.take_of_length_le hl3
    rw [ht3]
    refine ⟨fun t t0 t1 => by rw [k4]; exact g2 t t0 t1, by rw [k3, ge]; simp, by simp; omega, fun s t s0 s1 t0 t1 he => by rw [k4] at he; exact g4 s t s0 s1 t0 t1 he, fun i ρ hi => ?_⟩
    rw [k3, k4]
    cases i with
    | zero =>
      have e : π = ρ := by simpa using hi
      subst e
      rw [show μ 62 0 + 1 - 1 - ((0 : Nat) : Int) = μ 62 0 by omega]
      exact rl_q_1 k1 h1
    | succ i =>
      have hi2 : l[i]? = some ρ := by simpa using hi
      have hlt := (List.getElem?_eq_some_iff.mp hi2).1
      have hb := g2 (μ 62 0 - 1 - i) (by omega) (by omega)
      rw [show μ 62 0 + 1 - 1 - ((i + 1 : Nat) : Int) = μ 62 0 - 1 - i by omega]
      have hne : μ 63 (μ 62 0 - 1 - i) ≠ μ 63 (μ 62 0) := fun e => by
        have := g4 _ _ (by omega) (by omega) (by omega) (by omega) e; omega
      exact rl_1_c (fun a a0 a1 => k2 _ hb.1 hb.2 hne a a0 a1) (fun _ _ _ => rfl) (g5 i ρ hi2)
theorem pg_undo {ρ : rd_Mem} (hR : pg_S μ π (ρ :: l)) : pg_S (rd_rst μ) ρ l := by
  obtain ⟨h1, hh, h3⟩ := hR
  have hn := pg_n hh
  obtain ⟨g2, ge, gl, g4, g5⟩ := hh
  have h0 : 0 < μ 62 0 := by rw [ge, List.length_cons]; omega
  have hb := g2 (μ 62 0 - 1) (by omega) (by omega)
  have e62 : rd_rst μ 62 0 = μ 62 0 - 1 := by unfold rd_rst rd_bcr; rw [if_neg (by omega), rd_u_s]
  have eo : ∀ a : Int, 62 < a → rd_rst μ a = μ a := fun a ha => by
    funext x; unfold rd_rst rd_bcr; rw [if_neg (by omega), rd_u_k _ _ _ (by omega)]
  refine ⟨?_, ⟨fun t t0 t1 => by rw [eo 63 (by omega)]; exact g2 t t0 t1, by rw [e62, ge]; simp, by simp at gl; omega, fun s t s0 s1 t0 t1 he => by rw [eo 63 (by omega)] at he; exact g4 s t s0 s1 t0 t1 he, fun i τ hi => ?_⟩, pg_tx_c (fun a a0 _ => eo a (by omega)) h3⟩
  · have hq : rl_q (rd_rst μ) (rl_sh μ (64 + 61 * μ 63 (μ 62 0 - 1))) := fun a x a0 a1 x0 x1 => by
      unfold rd_rst rd_bcr rl_sh
      rw [if_pos ⟨⟨by omega, by omega⟩, x0, x1⟩, rd_u_k _ _ _ (by omega), show 64 + 61 * μ 63 (μ 62 0 - 1) + (a - 1) = a - 1 + (64 + 61 * μ 63 (μ 62 0 - 1)) by omega]
    have g := g5 0 ρ rfl
    rw [show μ 62 0 - 1 - ((0 : Nat) : Int) = μ 62 0 - 1 by omega] at g
    exact rl_q_1 hq g
  · rw [e62, eo 63 (by omega)]
    have g := g5 (i + 1) τ (by simpa using hi)
    have hlt := (List.getElem?_eq_some_iff.mp hi).1
    have hx := g2 (μ 62 0 - 1 - ((i + 1 : Nat) : Int)) (by have := ge; simp at this; omega) (by omega)
    rw [show μ 62 0 - 1 - 1 - (i : Int) = μ 62 0 - 1 - ((i + 1 : Nat) : Int) by omega]
    refine rl_1_c (fun a a0 a1 => ?_) (fun _ _ _ => rfl) g
    unfold rl_sh; exact eo _ (by omega)
/-- an error that changes nothing, or an action -/
def pg_T (μ π : rd_Mem) (l : List rd_Mem) (μ' π' : rd_Mem) (v : Option rd_X) : Prop := ((∃ e : Int, -6 < e ∧ e < 0 ∧ v = some (rd_I e)) ∧ μ' = μ ∧ π' = π) ∨ pg_S μ' π' (π :: l.take 3)
theorem pg_op {κ : rd_Mem} {v : Option rd_X} (hK : pg_S κ π (π :: l.take 3)) (h1 : rl_1 μ' π') (ha : ∀ a : Int, 62 ≤ a → μ' a = κ a) (_ : ∀ j : Int, 476 ≤ j → π' 1 j = π 1 j) (_ : ∀ a : Int, a ≠ 1 → π' a = π a) : pg_T μ π l μ' π' v :=
  Or.inr ⟨h1, pg_h_c (fun a a0 _ => ha a a0) hK.2.1, pg_tx_c (fun a a0 _ => ha a (by omega)) hK.2.2⟩
theorem pg_er {v : Option rd_X} {e : Int} (h : v = some (rd_I e)) (h0 : -6 < e) (h1 : e < 0) (hm : μ' = μ) (hp : π' = π) : pg_T μ π l μ' π' v := Or.inl ⟨⟨e, h0, h1, h⟩, hm, hp⟩
theorem pg_kth (hR : pg_S μ π l) (n : Int) : sp_th (rd_keep μ) n ↔ sp_th μ n := rl_th_c (fun a _ ha => rd_keep_lo (pg_hi hR.2.1) (Or.inl (by omega))) n
theorem pg_klo (hR : pg_S μ π l) {a : Int} (ha : a < 62) : rd_keep μ a = μ a := rd_keep_lo (pg_hi hR.2.1) (Or.inl ha)
end PG
