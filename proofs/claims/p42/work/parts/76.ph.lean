/-! what the law holds of a ghost -/
theorem ph_fs (f l : Int → Int) (n : Nat) : (∀ q : Nat, q < n → f q ≤ sp_fs f l n ∧ (l q ≠ -1 → l q < 9 → l q + 1 ≤ sp_fs f l n)) ∧ (sp_fs f l n = 0 ∨ ∃ q : Nat, q < n ∧ (sp_fs f l n = f q ∨ (l q ≠ -1 ∧ l q < 9 ∧ sp_fs f l n = l q + 1))) := by
  induction n with
  | zero => exact ⟨fun q h => by omega, Or.inl rfl⟩
  | succ n ih =>
    obtain ⟨h1, h2⟩ := ih
    have e : sp_fs f l (n + 1) = (if l n ≠ -1 ∧ l n < 9 then max (max (sp_fs f l n) (f n)) (l n + 1) else max (sp_fs f l n) (f n)) := rfl
    have hle : sp_fs f l n ≤ sp_fs f l (n + 1) := by rw [e]; split <;> omega
    refine ⟨fun q hq => ?_, ?_⟩
    · by_cases g : q = n
      · subst g
        rw [e]
        refine ⟨by split <;> omega, fun a b => ?_⟩
        rw [if_pos ⟨a, b⟩]; omega
      · have := h1 q (by omega)
        exact ⟨by omega, fun a b => by have := this.2 a b; omega⟩
    · by_cases g1 : sp_fs f l (n + 1) = sp_fs f l n
      · rw [g1]
        rcases h2 with h2 | ⟨q, hq, h2⟩
        · exact Or.inl h2
        · exact Or.inr ⟨q, by omega, h2⟩
      · right
        refine ⟨n, by omega, ?_⟩
        by_cases g : l n ≠ -1 ∧ l n < 9
        · rw [e, if_pos g] at g1 ⊢
          by_cases g2 : max (max (sp_fs f l n) (f n)) (l n + 1) = l n + 1
          · exact Or.inr ⟨g.1, g.2, g2⟩
          · left; omega
        · rw [e, if_neg g] at g1 ⊢
          left; omega
theorem ph_mask {f l : Int → Int} {t t' : Int} {n : Nat} (h : ∀ q : Nat, q < n → (sp_seen f l q t ↔ sp_seen f l q t')) : sp_mask f l t n = sp_mask f l t' n := by
  induction n with
  | zero => rfl
  | succ n ih =>
    simp only [sp_mask]
    rw [ih (fun q hq => h q (by omega)), sp_ifc (h n (by omega))]
section PH
variable {μ π : rd_Mem}
theorem ph_pv {x t : Int} (h : mo_t π x) (ht : 0 ≤ t ∧ t ≤ 9) : pv_picture π x t = mo_mk π x t (mo_o π x 3).toNat := by
  unfold pv_picture; rw [pg_iff (fun g => g h), pg_iff (fun g => by have := g.2; omega)]
theorem ph_pic (hR : rl_1 μ π) {x t : Int} (h : mo_t π x) (h0 : mo_FS π x ≤ t) (h8 : t ≤ 8) : pv_picture π x t = pv_picture π x (t + 1) := by
  have hit := (rl_J hR).1.1.2.1 x h
  have hF := mo_FS_r hit.1
  rw [ph_pv h (by omega), ph_pv h (by omega)]
  unfold mo_mk
  refine ph_mask (fun q hq => ?_)
  have hfs := (ph_fs (fun q => mo_o π x (4 + 3 * q)) (fun q => mo_o π x (4 + 3 * q + 1)) (mo_o π x 3).toNat).1 q hq
  have hb := hit.1.2 q (by omega) (by omega)
  unfold mo_FS at h0
  unfold sp_seen
  generalize sp_fs (fun q => mo_o π x (4 + 3 * q)) (fun q => mo_o π x (4 + 3 * q + 1)) (mo_o π x 3).toNat = F at *
  simp only at hfs ⊢
  constructor
  · rintro ⟨a, b⟩; exact ⟨by omega, by omega⟩
  · rintro ⟨a, b⟩; exact ⟨by omega, by omega⟩
theorem ph_pic2 (hR : rl_1 μ π) (hE : px_it π) {x : Int} (h : mo_t π x) (h0 : mo_FS π x ≠ 0) : pv_picture π x (mo_FS π x) ≠ pv_picture π x (mo_FS π x - 1) := by
  have hit := (rl_J hR).1.1.2.1 x h
  have hF := mo_FS_r hit.1
  rw [ph_pv h (by omega), ph_pv h (by omega)]
  unfold mo_mk
  intro he
  obtain ⟨hall, hex⟩ := ph_fs (fun q => mo_o π x (4 + 3 * q)) (fun q => mo_o π x (4 + 3 * q + 1)) (mo_o π x 3).toNat
  have eF : mo_FS π x = sp_fs (fun q => mo_o π x (4 + 3 * q)) (fun q => mo_o π x (4 + 3 * q + 1)) (mo_o π x 3).toNat := rfl
  rw [← eF] at hall hex
  generalize mo_FS π x = F at *
  obtain ⟨q, hq, hc⟩ := hex.resolve_left h0
  have hb := hit.1.2 q (by omega) (by omega)
  have h6 := hit.1.1
  have hi := hE x q h (by omega) (by omega)
  have b1 := sp_mask_b (fun q => mo_o π x (4 + 3 * q)) (fun q => mo_o π x (4 + 3 * q + 1)) F (n := (mo_o π x 3).toNat) (k := q) (by omega) (by omega)
  have b2 := sp_mask_b (fun q => mo_o π x (4 + 3 * q)) (fun q => mo_o π x (4 + 3 * q + 1)) (F - 1) (n := (mo_o π x 3).toNat) (k := q) (by omega) (by omega)
  rw [he] at b1
  unfold sp_seen at b1 b2
  simp only at b1 b2
  generalize sp_mask (fun q => mo_o π x (4 + 3 * q)) (fun q => mo_o π x (4 + 3 * q + 1)) (F - 1) (mo_o π x 3).toNat / 2 ^ q % 2 = B at *
  rcases hc with hc | ⟨c1, c2, c3⟩
  · -- seen at F, not ahead of it
    have s2 : ¬ (q < (mo_o π x 3).toNat ∧ mo_o π x (4 + 3 * (q : Int)) ≤ F - 1 ∧ (mo_o π x (4 + 3 * (q : Int) + 1) = -1 ∨ F - 1 ≤ mo_o π x (4 + 3 * (q : Int) + 1))) := fun g => by have := g.2.1; omega
    have s1 : q < (mo_o π x 3).toNat ∧ mo_o π x (4 + 3 * (q : Int)) ≤ F ∧ (mo_o π x (4 + 3 * (q : Int) + 1) = -1 ∨ F ≤ mo_o π x (4 + 3 * (q : Int) + 1)) := ⟨hq, by omega, by omega⟩
    rcases b1 with ⟨a1, a2, a3⟩ | ⟨a1, a2⟩
    · rcases b2 with ⟨d1, d2, d3⟩ | ⟨d1, d2⟩
      · exact s2 ⟨d1, d2⟩
      · omega
    · exact a1 s1
  · have s1 : ¬ (q < (mo_o π x 3).toNat ∧ mo_o π x (4 + 3 * (q : Int)) ≤ F ∧ (mo_o π x (4 + 3 * (q : Int) + 1) = -1 ∨ F ≤ mo_o π x (4 + 3 * (q : Int) + 1))) := fun g => by have := g.2.2; omega
    have s2 : q < (mo_o π x 3).toNat ∧ mo_o π x (4 + 3 * (q : Int)) ≤ F - 1 ∧ (mo_o π x (4 + 3 * (q : Int) + 1) = -1 ∨ F - 1 ≤ mo_o π x (4 + 3 * (q : Int) + 1)) := ⟨hq, by omega, by omega⟩
    rcases b1 with ⟨a1, a2, a3⟩ | ⟨a1, a2⟩
    · exact s1 ⟨a1, a2⟩
    · rcases b2 with ⟨d1, d2, d3⟩ | ⟨d1, d2⟩
      · omega
      · exact d1 s2
/-! the fewest moves -/
theorem ph_Q (hw : sp_wf μ) (hs : μ 58 1 ≤ sp_FS μ (μ 58 0)) : ∀ (e : Nat) (k n : Int), sp_Q μ e k n → 0 ≤ k ∧ (k = 0 → n = μ 58 0) := by
  intro e
  induction e with
  | zero => intro k n h; exact ⟨by have := h.1; omega, fun _ => h.2⟩
  | succ e ih =>
    intro k n h
    obtain ⟨p, k', w, h1, h2, h3, h4, h5⟩ := h
    have h6 := ih k' _ h1
    have h7 := sp_ed_w hw hs h3 h4
    exact ⟨by omega, fun g => by omega⟩
def ph_z (μ π : rd_Mem) (z n : Int) : Prop := (π 1 29 = 0 ∧ z = -6) ∨ (π 1 29 = 1 ∧ ((z = -6 ∧ ∀ (e : Nat) (k : Int), ¬ sp_Q μ e k n) ∨ (0 ≤ z ∧ (∃ e, sp_Q μ e z n) ∧ ∀ (e : Nat) (k : Int), sp_Q μ e k n → z ≤ k)))
theorem ph_f0 (hR : rl_1 μ π) (h29 : π 1 29 = 1) {z n : Int} (hz : ph_z μ π z n) : z = 0 ↔ n = π 1 30 := by
  have hh := (rl_on29 hR).1.mp h29
  have hp := rl_pp hR hh
  have hst := hp.2.2.2.2.2.2.2.1
  have h30 := hp.2.1
  rcases hz with ⟨g, -⟩ | ⟨-, hz⟩
  · omega
  rcases hz with ⟨g1, g2⟩ | ⟨g1, ⟨e, g2⟩, g3⟩
  · constructor
    · intro g; omega
    · intro g; exact absurd (show sp_Q μ 0 0 n from ⟨rfl, by rw [g, h30]⟩) (g2 0 0)
  · constructor
    · intro g; rw [h30]; exact (ph_Q hR.1.1 hst e z n g2).2 g
    · intro g
      have := g3 0 0 ⟨rfl, by rw [g, h30]⟩
      omega
theorem ph_f1 (hR : rl_1 μ π) (h29 : π 1 29 = 1) {z k : Int} (hk : 0 ≤ k ∧ k ≤ 9) (ht : mo_t π (mo_o π (π 1 30) (22 + k))) (hz : ph_z μ π z (mo_o π (π 1 30) (22 + k))) (hne : mo_o π (π 1 30) (22 + k) ≠ π 1 30) : z = 1 := by
  have h0 := ph_f0 hR h29 hz
  have hh := (rl_on29 hR).1.mp h29
  have hp := rl_pp hR hh
  have h30 := hp.2.1
  have hos := rl_os hR.1 hh
  have hrow := (rl_row hR.2.1 hh).2.2.2.2.2 k hk.1 hk.2
  have hge := ht.1
  have hm : μ (5 + 5 * μ 58 0 + 4) k = mo_o π (π 1 30) (22 + k) := by
    rw [h30] at hge ⊢
    rw [hrow] at hge ⊢
    unfold mo_z at hge ⊢
    split at hge
    · omega
    · rename_i g; rw [if_neg g]
  have hQ : sp_Q μ 1 1 (mo_o π (π 1 30) (22 + k)) := ⟨sp_pl μ (μ 58 0), 0, 1, ⟨rfl, hos.2⟩, hos.1, by rw [hos.2]; exact hh, ⟨hge, Or.inl ⟨k, by omega, by rw [hos.2]; exact hm, rfl⟩⟩, by omega⟩
  rcases hz with ⟨g, -⟩ | ⟨-, hz⟩
  · omega
  rcases hz with ⟨g1, g2⟩ | ⟨g1, ⟨e, g2⟩, g3⟩
  · exact absurd hQ (g2 1 1)
  · have := g3 1 1 hQ
    have : z ≠ 0 := fun g => hne (h0.mp g)
    omega
/-! numbers of a ghost -/
theorem ph_lk3 (hR : rl_1 μ π) {n : Int} (h : mo_t π n) : mo_lk (fun q => mo_o π n (22 + q)) 10 ≤ 3 := by
  have hs := (rl_t hR.2.1 n).mp h
  have hg := (hR.1.2.2.2.2.2.2.2 n h.1.1 h.1.2).1 hs
  rw [rl_lk hg (rl_row hR.2.1 hs) 10 (Nat.le_refl _)]
  exact hg.2.2.2
theorem ph_lks (t : Int → Int) {c : Int} (h0 : 0 ≤ c) : (t c = -6 → mo_lk t (c + 1).toNat = mo_lk t c.toNat) ∧ (t c ≠ -6 → mo_lk t (c + 1).toNat = mo_lk t c.toNat + 1) := by
  obtain ⟨n, rfl⟩ : ∃ n : Nat, c = n := ⟨c.toNat, by omega⟩
  rw [show ((n : Int) + 1).toNat = n + 1 by omega, show (n : Int).toNat = n by omega]
  simp only [mo_lk]
  exact ⟨fun h => if_pos h, fun h => if_neg h⟩
theorem ph_sums (g : Int → Int) {c : Int} (h0 : 0 ≤ c) : sp_sum g (c + 1).toNat = sp_sum g c.toNat + g c := by
  obtain ⟨n, rfl⟩ : ∃ n : Nat, c = n := ⟨c.toNat, by omega⟩
  rw [show ((n : Int) + 1).toNat = n + 1 by omega, show (n : Int).toNat = n by omega]
  rfl
theorem ph_sum (hR : rl_1 μ π) {n : Nat} (hn : (n : Int) ≤ π 1 0) : 0 ≤ sp_sum (fun i => mo_FS π (π 1 (1 + i)) + 1) n ∧ sp_sum (fun i => mo_FS π (π 1 (1 + i)) + 1) n ≤ 10 * n :=
  sp_sum_r (fun i i0 i1 => by
    have := pd_FS (pd_of hR) ((rl_J hR).1.1.2.2.1 i i0 (by omega))
    show 0 ≤ mo_FS π (π 1 (1 + i)) + 1 ∧ mo_FS π (π 1 (1 + i)) + 1 ≤ 10
    omega)
theorem ph_on (hR : rl_1 μ π) : (π 1 29 = 1 ∧ pv_now π 0 = π 1 30 ∧ 0 ≤ π 1 30) ∨ (π 1 29 = 0 ∧ pv_now π 0 = -6) := by
  rcases pm_29 hR with h | h
  · exact Or.inl ⟨h, (pm_now h).1, ((rl_J hR).1.2.2.2.1 h).1.1⟩
  · exact Or.inr ⟨h, pm_nowx h (by omega)⟩
theorem ph_n4 (hR : rl_1 μ π) : pv_now π 4 ≤ 40 := by
  have h4 := (rl_J hR).1.2.1
  rcases pm_29 hR with h | h
  · rw [(pm_now h).2.2.2.2.1]; exact h4.2
  · rw [pm_nowx h (by omega)]; omega
theorem ph_back (hR : rl_1 μ π) : pv_backTo π = -6 ∨ (0 ≤ pv_backTo π ∧ mo_on π ∧ mo_t π (pv_backTo π)) := by
  by_cases h : mo_on π ∧ mo_bp π ≠ -1
  · right
    obtain ⟨br, bt, bh⟩ := mo_bp_r h.2 (rl_J hR).1.2.1.1
    rw [pm_bt h]; exact ⟨bt.1.1, h.1, bt⟩
  · exact Or.inl (pm_btx h)
theorem ph_trail (p : Int) (hp : 0 ≤ p) (h : π 1 29 ≠ 1 ∨ π 1 35 ≤ p) : pv_trail π p 0 = -6 := by
  unfold pv_trail
  rw [pg_iff (by omega), pg_ift ⟨⟨hp, by omega⟩, h⟩]
theorem ph_off (h : π 1 29 = 0) : pv_now π 1 = -6 ∧ pv_movesLeft π = -6 ∧ pv_noteNow π = -6 := by
  refine ⟨pm_nowx h (by omega), ?_, ?_⟩
  · unfold pv_movesLeft; rw [pg_ift h]
  · unfold pv_noteNow; rw [pg_ift (by omega)]
theorem ph_sl {k : Int} (hR : rl_1 μ π) (hE : px_E k π) (hk : k < 800000) (h : π 1 29 = 1) : pv_secondsLeft π = 0 → pv_movesLeft π = 0 := by
  have hD := pd_of hR
  have hV := pd_von hR h
  have h1 := pr_rs hD 200 (π 1 30) (π 1 31) (π 1 33) 0 hV hE.2.2.1.1 (by have := hE.2.2.1.2; omega) (Int.le_refl 0) (by omega)
  have h2 : pv_secondsLeft π = mo_rs π 200 (π 1 30) (π 1 31) (π 1 33) 0 := by unfold pv_secondsLeft; rw [pg_iff (by omega)]
  rw [h2, h1, pm_ml h]
  intro g
  by_cases g2 : pr π 200 (π 1 30) (π 1 31) (π 1 33) = -6
  · rw [if_pos g2] at g; omega
  · rw [if_neg g2] at g
    have e : pw_S π = 0 := by unfold pw_S; omega
    exact (pw_A hR h (by omega)).1.mp e
end PH
