/-! the actions, one by one -/
section RLO
variable {μ ν : rd_Mem} {x : Int}
theorem rl_pause (hR : rl_1 μ ν) (hx : sp_th μ x) {q : Int} (hq : 0 ≤ q ∧ q ≤ 60) : rl_1 (rd_u μ (5 + 5 * x) 2 q) (rd_u ν 1 (156 + 32 * x + 2) q) := by
  have hxr := hx.1
  have hrow := rl_row hR.2.1 hx
  have hgx := (hR.1.2.2.2.2.2.2.2 x hxr.1 (by omega)).1 hx
  have hit := hR.1.1.2.1 x hxr.1 hxr.2
  have hb := (hR.1.2.1 x hxr.1 hxr.2).2
  rw [show (1 : Int) + 4 + 5 * x = 5 + 5 * x by omega] at hb
  have ej : ∀ j : Int, j ≠ 2 → rd_u μ (5 + 5 * x) 2 q (5 + 5 * x) j = μ (5 + 5 * x) j := fun j hj => rd_u_j _ _ _ hj
  have ec : ∀ a : Int, a ≠ 5 + 5 * x → rd_u μ (5 + 5 * x) 2 q a = μ a := fun a ha => rd_u_ne _ _ _ ha
  have eo : ∀ k : Int, k ≠ 2 → mo_o (rd_u ν 1 (156 + 32 * x + 2) q) x k = mo_o ν x k := fun k hk => rd_u_j _ _ _ (by omega)
  have e2 : mo_o (rd_u ν 1 (156 + 32 * x + 2) q) x 2 = q := rd_u_s _ _ _ _
  have hth : ∀ n, sp_th (rd_u μ (5 + 5 * x) 2 q) n ↔ sp_th μ n := fun n => by
    unfold sp_th
    by_cases hne : 5 + 5 * n = 5 + 5 * x
    · rw [hne, ej 0 (by omega)]
    · rw [ec _ hne]
  refine rl_row_op hR hx (fun a a0 a1 h => ec a (by omega)) (fun j j0 j1 h => rd_u_j _ _ _ (by omega)) (ej 0 (by omega)) (by rw [ej 1 (by omega)]; exact hb) (by rw [ej 3 (by omega)]; exact hit) (fun k k0 k1 => ?_) (fun k k0 k1 => ?_) ⟨by rw [rd_u_s]; exact hq, ?_, ?_, ?_⟩ ⟨?_, ?_, ?_, ?_, ?_, ?_⟩ (fun e => ?_)
  · rw [ej 3 (by omega)] at k1; rw [ec _ (by omega)]; exact hR.1.1.2.2.1 x hxr.1 hxr.2 k k0 (by omega) k1
  · rw [ej 3 (by omega)] at k1; rw [ec _ (by omega)]; exact hR.1.2.2.2.2.1 x hxr.1 hxr.2 k k0 k1
  · intro k k0 k1; rw [ej 3 (by omega)] at k1; rw [ec _ (by omega), ec _ (by omega)]; exact hgx.2.1 k k0 k1
  · intro k k0 k9; rw [ec _ (by omega), hth]; exact hgx.2.2.1 k k0 k9
  · rw [ec _ (by omega)]; exact hgx.2.2.2
  · rw [eo 0 (by omega)]; exact hrow.1
  · rw [eo 1 (by omega), ej 1 (by omega)]; exact hrow.2.1
  · rw [e2, rd_u_s]
  · rw [eo 3 (by omega), ej 3 (by omega)]; exact hrow.2.2.2.1
  · intro k k0 k1; rw [ej 3 (by omega)] at k1; rw [eo _ (by omega), eo _ (by omega), eo _ (by omega), ec _ (by omega), ec _ (by omega), ec _ (by omega)]; exact hrow.2.2.2.2.1 k k0 k1
  · intro k k0 k9; rw [eo _ (by omega), ec _ (by omega)]; exact hrow.2.2.2.2.2 k k0 k9
  · have hp := rl_pp hR (by rw [e]; exact hx)
    have h7 := hp.2.2.2.2.2.2.2.1
    unfold sp_FS at h7 ⊢
    rw [ej 3 (by omega), ec _ (by omega), ec _ (by omega)]
    rw [e] at h7; exact h7
theorem rl_hide (hR : rl_1 μ ν) (hx : sp_th μ x) {q : Int} (hq : q = 0 ∨ q = 1) : rl_1 (rd_u μ (5 + 5 * x) 1 q) (rd_u ν 1 (156 + 32 * x + 1) q) := by
  have hxr := hx.1
  have hrow := rl_row hR.2.1 hx
  have hgx := (hR.1.2.2.2.2.2.2.2 x hxr.1 (by omega)).1 hx
  have hit := hR.1.1.2.1 x hxr.1 hxr.2
  have ej : ∀ j : Int, j ≠ 1 → rd_u μ (5 + 5 * x) 1 q (5 + 5 * x) j = μ (5 + 5 * x) j := fun j hj => rd_u_j _ _ _ hj
  have ec : ∀ a : Int, a ≠ 5 + 5 * x → rd_u μ (5 + 5 * x) 1 q a = μ a := fun a ha => rd_u_ne _ _ _ ha
  have eo : ∀ k : Int, k ≠ 1 → mo_o (rd_u ν 1 (156 + 32 * x + 1) q) x k = mo_o ν x k := fun k hk => rd_u_j _ _ _ (by omega)
  have e2 : mo_o (rd_u ν 1 (156 + 32 * x + 1) q) x 1 = q := rd_u_s _ _ _ _
  have hth : ∀ n, sp_th (rd_u μ (5 + 5 * x) 1 q) n ↔ sp_th μ n := fun n => by
    unfold sp_th
    by_cases hne : 5 + 5 * n = 5 + 5 * x
    · rw [hne, ej 0 (by omega)]
    · rw [ec _ hne]
  refine rl_row_op hR hx (fun a a0 a1 h => ec a (by omega)) (fun j j0 j1 h => rd_u_j _ _ _ (by omega)) (ej 0 (by omega)) (by rw [rd_u_s]; exact hq) (by rw [ej 3 (by omega)]; exact hit) (fun k k0 k1 => ?_) (fun k k0 k1 => ?_) ⟨by rw [ej 2 (by omega)]; exact hgx.1, ?_, ?_, ?_⟩ ⟨?_, ?_, ?_, ?_, ?_, ?_⟩ (fun e => ?_)
  · rw [ej 3 (by omega)] at k1; rw [ec _ (by omega)]; exact hR.1.1.2.2.1 x hxr.1 hxr.2 k k0 (by omega) k1
  · rw [ej 3 (by omega)] at k1; rw [ec _ (by omega)]; exact hR.1.2.2.2.2.1 x hxr.1 hxr.2 k k0 k1
  · intro k k0 k1; rw [ej 3 (by omega)] at k1; rw [ec _ (by omega), ec _ (by omega)]; exact hgx.2.1 k k0 k1
  · intro k k0 k9; rw [ec _ (by omega), hth]; exact hgx.2.2.1 k k0 k9
  · rw [ec _ (by omega)]; exact hgx.2.2.2
  · rw [eo 0 (by omega)]; exact hrow.1
  · rw [e2, rd_u_s]
  · rw [eo 2 (by omega), ej 2 (by omega)]; exact hrow.2.2.1
  · rw [eo 3 (by omega), ej 3 (by omega)]; exact hrow.2.2.2.1
  · intro k k0 k1; rw [ej 3 (by omega)] at k1; rw [eo _ (by omega), eo _ (by omega), eo _ (by omega), ec _ (by omega), ec _ (by omega), ec _ (by omega)]; exact hrow.2.2.2.2.1 k k0 k1
  · intro k k0 k9; rw [eo _ (by omega), ec _ (by omega)]; exact hrow.2.2.2.2.2 k k0 k9
  · have hp := rl_pp hR (by rw [e]; exact hx)
    have h7 := hp.2.2.2.2.2.2.2.1
    unfold sp_FS at h7 ⊢
    rw [ej 3 (by omega), ec _ (by omega), ec _ (by omega)]
    rw [e] at h7; exact h7
theorem rl_link (hR : rl_1 μ ν) (hx : sp_th μ x) {q y : Int} (hq : 0 ≤ q ∧ q ≤ 9) (hy : y = -1 ∨ sp_th μ y) (hl : sp_lk (rd_u μ (5 + 5 * x + 4) q y (5 + 5 * x + 4)) 10 ≤ 3) : rl_1 (rd_u μ (5 + 5 * x + 4) q y) (rd_u ν 1 (156 + 32 * x + (22 + q)) (mo_z y)) := by
  have hxr := hx.1
  have hrow := rl_row hR.2.1 hx
  have hgx := (hR.1.2.2.2.2.2.2.2 x hxr.1 (by omega)).1 hx
  have hit := hR.1.1.2.1 x hxr.1 hxr.2
  have hb := (hR.1.2.1 x hxr.1 hxr.2).2
  rw [show (1 : Int) + 4 + 5 * x = 5 + 5 * x by omega] at hb
  have ec : ∀ a : Int, a ≠ 5 + 5 * x + 4 → rd_u μ (5 + 5 * x + 4) q y a = μ a := fun a ha => rd_u_ne _ _ _ ha
  have eo : ∀ k : Int, k ≠ 22 + q → mo_o (rd_u ν 1 (156 + 32 * x + (22 + q)) (mo_z y)) x k = mo_o ν x k := fun k hk => rd_u_j _ _ _ (by omega)
  have hth : ∀ n, sp_th (rd_u μ (5 + 5 * x + 4) q y) n ↔ sp_th μ n := fun n => by
    unfold sp_th
    rw [ec (5 + 5 * n) (by omega)]
  have e5 := ec (5 + 5 * x) (by omega)
  refine rl_row_op hR hx (fun a a0 a1 h => ec a (by omega)) (fun j j0 j1 h => rd_u_j _ _ _ (by omega)) (by rw [e5]) (by rw [e5]; exact hb) (by rw [e5]; exact hit) (fun k k0 k1 => ?_) (fun k k0 k1 => ?_) ⟨by rw [e5]; exact hgx.1, ?_, ?_, hl⟩ ⟨?_, ?_, ?_, ?_, ?_, ?_⟩ (fun e => ?_)
  · rw [e5] at k1; rw [ec _ (by omega)]; exact hR.1.1.2.2.1 x hxr.1 hxr.2 k k0 (by omega) k1
  · rw [e5] at k1; rw [ec _ (by omega)]; exact hR.1.2.2.2.2.1 x hxr.1 hxr.2 k k0 k1
  · intro k k0 k1; rw [e5] at k1; rw [ec _ (by omega), ec _ (by omega)]; exact hgx.2.1 k k0 k1
  · intro k k0 k9
    rw [hth]
    by_cases hk : k = q
    · rw [hk, rd_u_s]; exact hy
    · rw [rd_u_j _ _ _ hk]; exact hgx.2.2.1 k k0 k9
  · rw [eo 0 (by omega)]; exact hrow.1
  · rw [eo 1 (by omega), e5]; exact hrow.2.1
  · rw [eo 2 (by omega), e5]; exact hrow.2.2.1
  · rw [eo 3 (by omega), e5]; exact hrow.2.2.2.1
  · intro k k0 k1; rw [e5] at k1; rw [eo _ (by omega), eo _ (by omega), eo _ (by omega), ec _ (by omega), ec _ (by omega), ec _ (by omega)]; exact hrow.2.2.2.2.1 k k0 k1
  · intro k k0 k9
    by_cases hk : k = q
    · rw [hk, rd_u_s]; exact rd_u_s _ _ _ _
    · rw [eo _ (by omega), rd_u_j _ _ _ hk]; exact hrow.2.2.2.2.2 k k0 k9
  · have hp := rl_pp hR (by rw [e]; exact hx)
    have h7 := hp.2.2.2.2.2.2.2.1
    unfold sp_FS at h7 ⊢
    rw [e5, ec _ (by omega), ec _ (by omega)]
    rw [e] at h7; exact h7
theorem rl_add (hR : rl_1 μ ν) (hx : sp_th μ x) {f l t : Int} (hf : 0 ≤ f ∧ f ≤ 9) (hl : l = -1 ∨ (f ≤ l ∧ l ≤ 9)) (ht : 0 ≤ t ∧ t ≤ 99) (h6 : μ (5 + 5 * x) 3 < 6) : rl_1 (rd_u (rd_u (rd_u (rd_u μ (5 + 5 * x + 1) (μ (5 + 5 * x) 3) f) (5 + 5 * x + 2) (μ (5 + 5 * x) 3) l) (5 + 5 * x + 3) (μ (5 + 5 * x) 3) t) (5 + 5 * x) 3 (μ (5 + 5 * x) 3 + 1)) (rd_u (rd_u (rd_u (rd_u ν 1 (156 + 32 * x + (4 + 3 * μ (5 + 5 * x) 3)) f) 1 (156 + 32 * x + (4 + 3 * μ (5 + 5 * x) 3 + 1)) l) 1 (156 + 32 * x + (4 + 3 * μ (5 + 5 * x) 3 + 2)) t) 1 (156 + 32 * x + 3) (μ (5 + 5 * x) 3 + 1)) := by
  have hxr := hx.1
  have hrow := rl_row hR.2.1 hx
  have hgx := (hR.1.2.2.2.2.2.2.2 x hxr.1 (by omega)).1 hx
  have hit := hR.1.1.2.1 x hxr.1 hxr.2
  have hb := (hR.1.2.1 x hxr.1 hxr.2).2
  rw [show (1 : Int) + 4 + 5 * x = 5 + 5 * x by omega] at hb
  generalize hc : μ (5 + 5 * x) 3 = c at *
  generalize hM : rd_u (rd_u (rd_u (rd_u μ (5 + 5 * x + 1) c f) (5 + 5 * x + 2) c l) (5 + 5 * x + 3) c t) (5 + 5 * x) 3 (c + 1) = M
  generalize hN : rd_u (rd_u (rd_u (rd_u ν 1 (156 + 32 * x + (4 + 3 * c)) f) 1 (156 + 32 * x + (4 + 3 * c + 1)) l) 1 (156 + 32 * x + (4 + 3 * c + 2)) t) 1 (156 + 32 * x + 3) (c + 1) = N
  have m0 : ∀ j : Int, j ≠ 3 → M (5 + 5 * x) j = μ (5 + 5 * x) j := fun j hj => by rw [← hM, rd_u_j _ _ _ hj, rd_u_k _ _ _ (by omega), rd_u_k _ _ _ (by omega), rd_u_k _ _ _ (by omega)]
  have m3 : M (5 + 5 * x) 3 = c + 1 := by rw [← hM, rd_u_s]
  have mo : ∀ a : Int, (a < 5 + 5 * x ∨ 5 + 5 * x + 3 < a) → M a = μ a := fun a ha => by rw [← hM, rd_u_ne _ _ _ (by omega), rd_u_ne _ _ _ (by omega), rd_u_ne _ _ _ (by omega), rd_u_ne _ _ _ (by omega)]
  have mf : ∀ q : Int, M (5 + 5 * x + 1) q = (if q = c then f else μ (5 + 5 * x + 1) q) := fun q => by
    rw [← hM, rd_u_k _ _ _ (by omega), rd_u_k _ _ _ (by omega), rd_u_k _ _ _ (by omega)]
    by_cases h : q = c
    · rw [if_pos h, h, rd_u_s]
    · rw [if_neg h, rd_u_j _ _ _ h]
  have ml : ∀ q : Int, M (5 + 5 * x + 2) q = (if q = c then l else μ (5 + 5 * x + 2) q) := fun q => by
    rw [← hM, rd_u_k _ _ _ (by omega), rd_u_k _ _ _ (by omega)]
    by_cases h : q = c
    · rw [if_pos h, h, rd_u_s]
    · rw [if_neg h, rd_u_j _ _ _ h, rd_u_k _ _ _ (by omega)]
  have mt : ∀ q : Int, M (5 + 5 * x + 3) q = (if q = c then t else μ (5 + 5 * x + 3) q) := fun q => by
    rw [← hM, rd_u_k _ _ _ (by omega)]
    by_cases h : q = c
    · rw [if_pos h, h, rd_u_s]
    · rw [if_neg h, rd_u_j _ _ _ h, rd_u_k _ _ _ (by omega), rd_u_k _ _ _ (by omega)]
  have n3 : mo_o N x 3 = c + 1 := by show N 1 _ = _; rw [← hN, rd_u_s]
  have no : ∀ k : Int, k ≠ 3 → (k < 4 + 3 * c ∨ 4 + 3 * c + 2 < k) → mo_o N x k = mo_o ν x k := fun k h3 hk => by
    show N 1 _ = _
    rw [← hN, rd_u_j _ _ _ (by omega), rd_u_j _ _ _ (by omega), rd_u_j _ _ _ (by omega), rd_u_j _ _ _ (by omega)]
  have nf : mo_o N x (4 + 3 * c) = f := by show N 1 _ = _; rw [← hN, rd_u_j _ _ _ (by omega), rd_u_j _ _ _ (by omega), rd_u_j _ _ _ (by omega), rd_u_s]
  have nl : mo_o N x (4 + 3 * c + 1) = l := by show N 1 _ = _; rw [← hN, rd_u_j _ _ _ (by omega), rd_u_j _ _ _ (by omega), rd_u_s]
  have nt : mo_o N x (4 + 3 * c + 2) = t := by show N 1 _ = _; rw [← hN, rd_u_j _ _ _ (by omega), rd_u_s]
  have hth : ∀ n, sp_th M n ↔ sp_th μ n := fun n => by
    unfold sp_th
    constructor
    · rintro ⟨h1, h2⟩; refine ⟨h1, ?_⟩; by_cases hn : n = x; rw [hn, m0 0 (by omega)] at h2; rw [hn]; exact h2; rw [mo _ (by omega)] at h2; exact h2
    · rintro ⟨h1, h2⟩; refine ⟨h1, ?_⟩; by_cases hn : n = x; rw [hn, m0 0 (by omega)]; rw [hn] at h2; exact h2; rw [mo _ (by omega)]; exact h2
  refine rl_row_op hR hx (fun a a0 a1 h => mo a (by omega)) (fun j j0 j1 h => ?_) (m0 0 (by omega)) (by rw [m0 1 (by omega)]; exact hb) (by rw [m3]; omega) (fun k k0 k1 => ?_) (fun k k0 k1 => ?_) ⟨by rw [m0 2 (by omega)]; exact hgx.1, ?_, ?_, ?_⟩ ⟨?_, ?_, ?_, ?_, ?_, ?_⟩ (fun e => ?_)
  · rw [← hN, rd_u_j _ _ _ (by omega), rd_u_j _ _ _ (by omega), rd_u_j _ _ _ (by omega), rd_u_j _ _ _ (by omega)]
  · rw [m3] at k1; rw [mf]; split
    · exact hf.2
    · exact hR.1.1.2.2.1 x hxr.1 hxr.2 k k0 (by omega) (by omega)
  · rw [m3] at k1; rw [mt]; split
    · exact ht
    · exact hR.1.2.2.2.2.1 x hxr.1 hxr.2 k k0 (by omega)
  · intro k k0 k1; rw [m3] at k1; rw [mf, ml]
    by_cases h : k = c
    · rw [if_pos h, if_pos h]; omega
    · rw [if_neg h, if_neg h]; exact hgx.2.1 k k0 (by omega)
  · intro k k0 k9; rw [mo _ (by omega), hth]; exact hgx.2.2.1 k k0 k9
  · rw [mo _ (by omega)]; exact hgx.2.2.2
  · rw [no 0 (by omega) (by omega)]; exact hrow.1
  · rw [no 1 (by omega) (by omega), m0 1 (by omega)]; exact hrow.2.1
  · rw [no 2 (by omega) (by omega), m0 2 (by omega)]; exact hrow.2.2.1
  · rw [n3, m3]
  · intro k k0 k1
    rw [m3] at k1
    rw [mf, ml, mt]
    by_cases h : k = c
    · rw [h, if_pos rfl, if_pos rfl, if_pos rfl]; exact ⟨nf, nl, nt⟩
    · rw [if_neg h, if_neg h, if_neg h, no _ (by omega) (by omega), no _ (by omega) (by omega), no _ (by omega) (by omega)]; exact hrow.2.2.2.2.1 k k0 (by omega)
  · intro k k0 k9; rw [no _ (by omega) (by omega), mo _ (by omega)]; exact hrow.2.2.2.2.2 k k0 k9
  · have hp := rl_pp hR (by rw [e]; exact hx)
    have h7 := hp.2.2.2.2.2.2.2.1
    rw [e] at h7
    unfold sp_FS at h7 ⊢
    rw [m3, show (c + 1).toNat = c.toNat + 1 by omega]
    rw [hc] at h7
    have e1 : sp_fs (M (5 + 5 * x + 1)) (M (5 + 5 * x + 2)) c.toNat = sp_fs (μ (5 + 5 * x + 1)) (μ (5 + 5 * x + 2)) c.toNat := sp_fs_c (fun k hk => ⟨by rw [mf, if_neg (by omega)], by rw [ml, if_neg (by omega)]⟩)
    simp only [sp_fs]
    rw [e1]
    split <;> omega
end RLO

