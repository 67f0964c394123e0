/-! positions of a deck: the moves that are left, the seconds that are left -/
def pd_D (π : rd_Mem) : Prop := mo_D π ∧ mo_inj π ∧ ∀ n : Int, mo_t π n → 0 ≤ mo_o π n 2 ∧ mo_o π n 2 ≤ 60
def pd_V (π : rd_Mem) (n t : Int) : Prop := mo_t π n ∧ 0 ≤ t ∧ t ≤ mo_FS π n
def pd_c (π : rd_Mem) (n t : Int) : Prop := t < mo_FS π n ∨ mo_nx π (mo_pl π n + 1) ≠ -1
noncomputable def pd_n (π : rd_Mem) (n t : Int) : Int := if t = mo_FS π n then mo_nx π (mo_pl π n + 1) else n
noncomputable def pd_t (π : rd_Mem) (n t : Int) : Int := if t = mo_FS π n then 0 else t + 1
noncomputable def pd_L (π : rd_Mem) (n t : Int) : Int := mo_FS π n - t + mo_ml π (mo_pl π n + 1) (π 1 0 - (mo_pl π n + 1)).toNat
section PD
variable {π π' : rd_Mem}
theorem pd_of {μ : rd_Mem} (hR : rl_1 μ π) : pd_D π := by
  refine ⟨(rl_J hR).1.1, fun i i0 i1 => ?_, fun n hn => px_pz hR hn⟩
  have hc : π 1 0 = μ 2 0 := hR.2.1.1
  rw [rl_pl hR.2.1, hR.2.1.2.1 i i0 (by omega)]
  exact (hR.1.2.2.2.2.2.2.1 i i0 (by omega)).2
theorem pd_von {μ : rd_Mem} (hR : rl_1 μ π) (h : π 1 29 = 1) : pd_V π (π 1 30) (π 1 31) := by
  have hh := (rl_on29 hR).1.mp h
  have hp := rl_pp hR hh
  refine ⟨(rl_J hR).1.2.2.2.1 h, (rl_J hR).1.2.2.1.1, ?_⟩
  rw [hp.2.1, hp.2.2.1, rl_FS hR.2.1 hh]
  exact hp.2.2.2.2.2.2.2.1
theorem pd_oi (hD : pd_D π) {n : Int} (hn : mo_t π n) : (0 ≤ mo_pl π n ∧ mo_pl π n < π 1 0) ∧ π 1 (1 + mo_pl π n) = n := by
  have h := (hD.1.2.1 n hn).2
  unfold mo_po at h
  refine ⟨h, ?_⟩
  unfold mo_pl at h ⊢
  rcases sp_ff_spec (fun i => π 1 (1 + i) = n) (π 1 0).toNat 0 with ⟨k, -⟩ | ⟨-, k, -⟩
  · omega
  · exact k
theorem pd_FS (hD : pd_D π) {n : Int} (hn : mo_t π n) : 0 ≤ mo_FS π n ∧ mo_FS π n ≤ 9 := mo_FS_r (hD.1.2.1 n hn).1
theorem pd_nx_s {a : Int} (ha : a < π 1 0) (h : mo_o π (π 1 (1 + a)) 1 = 0) : mo_nx π a = π 1 (1 + a) := by
  unfold mo_nx; exact sp_nx_t (by omega) h
theorem pd_nx_n {a : Int} (ha : a < π 1 0) (h : ¬ mo_o π (π 1 (1 + a)) 1 = 0) : mo_nx π a = mo_nx π (a + 1) := by
  unfold mo_nx; rw [sp_nx_f (by omega) h]; congr 1; omega
theorem pd_nx_e {a : Int} (ha : π 1 0 ≤ a) : mo_nx π a = -1 := by
  unfold mo_nx; rw [show (π 1 0 - a).toNat = 0 by omega]; rfl
theorem pd_ml_s (a : Int) (n : Nat) : mo_ml π a (n + 1) = sp_if (mo_o π (π 1 (1 + a)) 1 = 0) (mo_FS π (π 1 (1 + a)) + 1) 0 + mo_ml π (a + 1) n := by
  unfold mo_ml
  rw [sp_sum_h]
  show sp_if (mo_o π (π 1 (1 + (a + 0))) 1 = 0) (mo_FS π (π 1 (1 + (a + 0))) + 1) 0 + sp_sum (fun i => sp_if (mo_o π (π 1 (1 + (a + (i + 1)))) 1 = 0) (mo_FS π (π 1 (1 + (a + (i + 1)))) + 1) 0) n = _
  rw [Int.add_zero]
  congr 1
  exact sp_sum_c (fun i _ _ => by show sp_if (mo_o π (π 1 (1 + (a + (i + 1)))) 1 = 0) (mo_FS π (π 1 (1 + (a + (i + 1)))) + 1) 0 = sp_if (mo_o π (π 1 (1 + (a + 1 + i))) 1 = 0) (mo_FS π (π 1 (1 + (a + 1 + i))) + 1) 0; rw [show a + (i + 1) = a + 1 + i by omega])
/-- what is left behind a place: of the first slide shown there, and behind it -/
theorem pd_ml (hD : pd_D π) : ∀ (n : Nat) (a : Int), 0 ≤ a → a + n = π 1 0 → (mo_nx π a = -1 ∧ mo_ml π a n = 0) ∨ (mo_nx π a ≠ -1 ∧ mo_t π (mo_nx π a) ∧ mo_ml π a n = pd_L π (mo_nx π a) 0 + 1) := by
  intro n
  induction n with
  | zero => intro a a0 h; exact Or.inl ⟨pd_nx_e (by omega), rfl⟩
  | succ n ih =>
    intro a a0 h
    have ht := hD.1.2.2.1 a a0 (by omega)
    rw [pd_ml_s]
    by_cases hs : mo_o π (π 1 (1 + a)) 1 = 0
    · right
      have e := hD.2.1 a a0 (by omega)
      rw [pd_nx_s (by omega) hs, sp_ift hs]
      refine ⟨by have := ht.1; omega, ht, ?_⟩
      unfold pd_L
      rw [e, show (π 1 0 - (a + 1)).toNat = n by omega]; omega
    · rw [pd_nx_n (by omega) hs, sp_iff hs]
      rcases ih (a + 1) (by omega) (by omega) with ⟨g1, g2⟩ | ⟨g1, g2, g3⟩
      · exact Or.inl ⟨g1, by rw [g2]; rfl⟩
      · exact Or.inr ⟨g1, g2, by rw [g3]; omega⟩
theorem pd_ml0 (hD : pd_D π) : ∀ (n : Nat) (a : Int), 0 ≤ a → a + n = π 1 0 → 0 ≤ mo_ml π a n ∧ mo_ml π a n ≤ 10 * n := by
  intro n
  induction n with
  | zero => intro a a0 h; exact ⟨Int.le_refl 0, by show (0 : Int) ≤ 10 * ((0 : Nat) : Int); omega⟩
  | succ n ih =>
    intro a a0 h
    have ht := hD.1.2.2.1 a a0 (by omega)
    have h9 := pd_FS hD ht
    have h1 := ih (a + 1) (by omega) (by omega)
    rw [pd_ml_s]
    by_cases hs : mo_o π (π 1 (1 + a)) 1 = 0
    · rw [sp_ift hs]; omega
    · rw [sp_iff hs]; omega
theorem pd_Lr (hD : pd_D π) {n t : Int} (hV : pd_V π n t) : 0 ≤ pd_L π n t ∧ pd_L π n t ≤ 109 := by
  have ho := (pd_oi hD hV.1).1
  have h9 := pd_FS hD hV.1
  have hm := pd_ml0 hD (π 1 0 - (mo_pl π n + 1)).toNat (mo_pl π n + 1) (by omega) (by omega)
  have hc := hD.1.1.1
  obtain ⟨-, h0, h1⟩ := hV
  unfold pd_L
  omega
theorem pd_Lc (hD : pd_D π) {n t : Int} (hV : pd_V π n t) : (pd_c π n t ↔ 0 < pd_L π n t) ∧ (pd_c π n t → pd_V π (pd_n π n t) (pd_t π n t) ∧ pd_L π (pd_n π n t) (pd_t π n t) = pd_L π n t - 1) := by
  have ho := (pd_oi hD hV.1).1
  have h9 := pd_FS hD hV.1
  have hm := pd_ml hD (π 1 0 - (mo_pl π n + 1)).toNat (mo_pl π n + 1) (by omega) (by omega)
  have hm0 := pd_ml0 hD (π 1 0 - (mo_pl π n + 1)).toNat (mo_pl π n + 1) (by omega) (by omega)
  obtain ⟨hn, h0, h1⟩ := hV
  have eL : pd_L π n t = mo_FS π n - t + mo_ml π (mo_pl π n + 1) (π 1 0 - (mo_pl π n + 1)).toNat := rfl
  unfold pd_c pd_n pd_t
  rw [eL]
  rcases hm with ⟨g1, g2⟩ | ⟨g1, g2, g3⟩
  · rw [g2]
    refine ⟨⟨fun h => by rcases h with h | h; omega; exact absurd g1 h, fun h => Or.inl (by omega)⟩, fun h => ?_⟩
    have h2 : t < mo_FS π n := h.resolve_right (fun g => g g1)
    rw [if_neg (by omega), if_neg (by omega)]
    refine ⟨⟨hn, by omega, by omega⟩, ?_⟩
    unfold pd_L; rw [g2]; omega
  · have gF := pd_FS hD g2
    have gr := pd_Lr hD (show pd_V π (mo_nx π (mo_pl π n + 1)) 0 from ⟨g2, Int.le_refl 0, gF.1⟩)
    refine ⟨⟨fun _ => by rw [g3]; omega, fun _ => Or.inr g1⟩, fun _ => ?_⟩
    by_cases ht : t = mo_FS π n
    · rw [if_pos ht, if_pos ht, g3]
      exact ⟨⟨g2, Int.le_refl 0, gF.1⟩, by omega⟩
    · rw [if_neg ht, if_neg ht]
      refine ⟨⟨hn, by omega, by omega⟩, ?_⟩
      unfold pd_L; omega
/-! the same deck -/
def pd_e (π' π : rd_Mem) : Prop := ∀ j : Int, (0 ≤ j ∧ j < 30) ∨ (156 ≤ j ∧ j < 476) → π' 1 j = π 1 j
theorem pd_e_t (h : pd_e π' π) (n : Int) : mo_t π' n ↔ mo_t π n := mo_t_c (fun j a b => h j (by omega)) n
theorem pd_e_o (h : pd_e π' π) {n q : Int} (hn : 0 ≤ n ∧ n ≤ 9) (hq : 0 ≤ q ∧ q < 32) : mo_o π' n q = mo_o π n q := h _ (by omega)
theorem pd_e_FS (h : pd_e π' π) (hD : pd_D π) {n : Int} (hn : mo_t π n) : mo_FS π' n = mo_FS π n := mo_FS_c (fun j a b => h j (by omega)) hn.1.1 hn.1.2 (hD.1.2.1 n hn).1.1.2
theorem pd_e_pl (h : pd_e π' π) (hD : pd_D π) (n : Int) : mo_pl π' n = mo_pl π n := mo_pl_c (fun j a b => h j (by omega)) hD.1.1.1 n
theorem pd_e_nx (h : pd_e π' π) (hD : pd_D π) {a : Int} (ha : 0 ≤ a) : mo_nx π' a = mo_nx π a := mo_nx_c (fun j g => h j (by omega)) hD.1.1 ha
theorem pd_e_ml (h : pd_e π' π) (hD : pd_D π) : ∀ (n : Nat) (a : Int), 0 ≤ a → a + n = π 1 0 → mo_ml π' a n = mo_ml π a n := by
  intro n
  induction n with
  | zero => intro a a0 h; rfl
  | succ n ih =>
    intro a a0 hn
    have hc := hD.1.1.1
    have ht := hD.1.2.2.1 a a0 (by omega)
    rw [pd_ml_s, pd_ml_s, ih (a + 1) (by omega) (by omega), h (1 + a) (by omega), pd_e_o h ht.1 (by omega), pd_e_FS h hD ht]
theorem pd_e_L (h : pd_e π' π) (hD : pd_D π) {n t : Int} (hn : mo_t π n) : pd_L π' n t = pd_L π n t := by
  have ho := (pd_oi hD hn).1
  unfold pd_L
  rw [pd_e_FS h hD hn, pd_e_pl h hD, h 0 (by omega), pd_e_ml h hD _ _ (by omega) (by omega)]
theorem pd_e_V (h : pd_e π' π) (hD : pd_D π) {n t : Int} : pd_V π' n t ↔ pd_V π n t := by
  unfold pd_V
  rw [pd_e_t h]
  constructor
  · rintro ⟨a, b, c⟩; rw [pd_e_FS h hD a] at c; exact ⟨a, b, c⟩
  · rintro ⟨a, b, c⟩; rw [← pd_e_FS h hD a] at c; exact ⟨a, b, c⟩
theorem pd_e_c (h : pd_e π' π) (hD : pd_D π) {n t : Int} (hn : mo_t π n) : (pd_c π' n t ↔ pd_c π n t) ∧ pd_n π' n t = pd_n π n t ∧ pd_t π' n t = pd_t π n t := by
  have ho := (pd_oi hD hn).1
  unfold pd_c pd_n pd_t
  rw [pd_e_FS h hD hn, pd_e_pl h hD, pd_e_nx h hD (by omega)]
  exact ⟨Iff.rfl, rfl, rfl⟩
/-! the seconds -/
noncomputable def pr (π : rd_Mem) : Nat → Int → Int → Int → Int
  | 0, _, _, _ => 0
  | f + 1, n, t, w => sp_if (pd_c π n t) (sp_if (mo_o π n 2 = 0 ∨ pr π f (pd_n π n t) (pd_t π n t) 0 = -6) (-6) (pr π f (pd_n π n t) (pd_t π n t) 0 + max 1 (mo_o π n 2 - w))) 0
theorem pr_0 {f : Nat} {n t w : Int} (h : ¬ pd_c π n t) : pr π f n t w = 0 := by
  cases f with
  | zero => rfl
  | succ f => simp only [pr]; exact sp_iff h _ _
theorem pr_x {f : Nat} {n t w : Int} (h : pd_c π n t) (hx : mo_o π n 2 = 0 ∨ pr π f (pd_n π n t) (pd_t π n t) 0 = -6) : pr π (f + 1) n t w = -6 := by
  simp only [pr]; rw [sp_ift h, sp_ift hx]
theorem pr_s {f : Nat} {n t w : Int} (h : pd_c π n t) (hx : ¬ (mo_o π n 2 = 0 ∨ pr π f (pd_n π n t) (pd_t π n t) 0 = -6)) : pr π (f + 1) n t w = pr π f (pd_n π n t) (pd_t π n t) 0 + max 1 (mo_o π n 2 - w) := by
  simp only [pr]; rw [sp_ift h, sp_iff hx]
theorem pr_r (hD : pd_D π) : ∀ (f : Nat) (n t w : Int), pd_V π n t → 0 ≤ w → pr π f n t w = -6 ∨ (0 ≤ pr π f n t w ∧ pr π f n t w ≤ 60 * f) := by
  intro f
  induction f with
  | zero => intro n t w _ _; exact Or.inr ⟨Int.le_refl 0, Int.le_refl 0⟩
  | succ f ih =>
    intro n t w hV hw
    by_cases h : pd_c π n t
    · have hn := ((pd_Lc hD hV).2 h).1
      have h1 := ih _ _ 0 hn (Int.le_refl 0)
      have hp := hD.2.2 n hV.1
      by_cases hx : mo_o π n 2 = 0 ∨ pr π f (pd_n π n t) (pd_t π n t) 0 = -6
      · exact Or.inl (pr_x h hx)
      · right
        rw [pr_s h hx]
        have h2 := h1.resolve_left (fun g => hx (Or.inr g))
        omega
    · rw [pr_0 h]; exact Or.inr ⟨Int.le_refl 0, by omega⟩
theorem pr_f (hD : pd_D π) : ∀ (f g : Nat) (n t w : Int), pd_V π n t → pd_L π n t ≤ f → pd_L π n t ≤ g → pr π f n t w = pr π g n t w := by
  intro f
  induction f with
  | zero =>
    intro g n t w hV hf hg
    have hc : ¬ pd_c π n t := fun h => by have := (pd_Lc hD hV).1.mp h; omega
    rw [pr_0 hc, pr_0 hc]
  | succ f ih =>
    intro g n t w hV hf hg
    by_cases h : pd_c π n t
    · obtain ⟨hn, hL⟩ := (pd_Lc hD hV).2 h
      have h0 := (pd_Lc hD hV).1.mp h
      obtain ⟨g', rfl⟩ : ∃ g', g = g' + 1 := ⟨g - 1, by omega⟩
      have e := ih g' _ _ 0 hn (by omega) (by omega)
      simp only [pr]
      rw [e]
    · rw [pr_0 h, pr_0 h]
theorem pr_e (h : pd_e π' π) (hD : pd_D π) : ∀ (f : Nat) (n t w : Int), pd_V π n t → pr π' f n t w = pr π f n t w := by
  intro f
  induction f with
  | zero => intro n t w _; rfl
  | succ f ih =>
    intro n t w hV
    obtain ⟨e1, e2, e3⟩ := pd_e_c h hD (t := t) hV.1
    by_cases hc : pd_c π n t
    · have hn := ((pd_Lc hD hV).2 hc).1
      have e := ih _ _ 0 hn
      simp only [pr]
      rw [e2, e3, e, pd_e_o h hV.1.1 (by omega), sp_ift hc, sp_ift (e1.mpr hc)]
    · rw [pr_0 hc, pr_0 (fun g => hc (e1.mp g))]
/-- the check's seconds are these -/
theorem pr_rs (hD : pd_D π) : ∀ (f : Nat) (n t w x : Int), pd_V π n t → 0 ≤ w → w ≤ 1000000 → 0 ≤ x → x + 60 * f < 1000000 → mo_rs π f n t w x = (if pr π f n t w = -6 then -6 else x + pr π f n t w) := by
  intro f
  induction f with
  | zero => intro n t w x _ _ _ _ _; show x = _; rw [show pr π 0 n t w = 0 from rfl, if_neg (by decide)]; omega
  | succ f ih =>
    intro n t w x hV w0 w1 x0 x1
    by_cases hc : pd_c π n t
    · have hn := ((pd_Lc hD hV).2 hc).1
      have hp := hD.2.2 n hV.1
      by_cases hz : mo_o π n 2 = 0
      · rw [mo_rs_z (Nat.succ_pos f) hc hz, pr_x hc (Or.inl hz), if_pos rfl]
      · have ew : (if 1 ≤ rd_w (mo_o π n 2 - w) then rd_w (mo_o π n 2 - w) else 1) = max 1 (mo_o π n 2 - w) := by
          rw [rd_w_id ⟨by omega, by omega⟩]; split <;> omega
        have hm : 1 ≤ max 1 (mo_o π n 2 - w) ∧ max 1 (mo_o π n 2 - w) ≤ 60 := by omega
        rw [mo_rs_s (Nat.succ_pos f) hc hz, ew, show f.succ - 1 = f from rfl]
        generalize hM : max 1 (mo_o π n 2 - w) = M at *
        have hr := pr_r hD f _ _ 0 hn (Int.le_refl 0)
        show mo_rs π f (pd_n π n t) (pd_t π n t) 0 (rd_w (x + M)) = _
        rw [rd_w_id ⟨by omega, by omega⟩, ih _ _ 0 (x + M) hn (Int.le_refl 0) (by omega) (by omega) (by omega)]
        by_cases hx : pr π f (pd_n π n t) (pd_t π n t) 0 = -6
        · rw [if_pos hx, pr_x hc (Or.inr hx), if_pos rfl]
        · have e := pr_s (w := w) hc (fun g => g.elim hz hx)
          rw [hM] at e
          have h2 := hr.resolve_left hx
          rw [if_neg hx, e, if_neg (by omega)]; omega
    · rw [pr_0 hc, if_neg (by decide), mo_rs_o hc]; omega
end PD
