/-! what is read of a ghost -/
section PM
variable {μ π : rd_Mem}
theorem pm_29 (hR : rl_1 μ π) : π 1 29 = 1 ∨ π 1 29 = 0 := by
  have h := rl_on29 hR
  by_cases g : sp_th μ (μ 58 0)
  · exact Or.inl (h.1.mpr g)
  · exact Or.inr (h.2.mpr g)
theorem pm_now (h : π 1 29 = 1) : pv_now π 0 = π 1 30 ∧ pv_now π 1 = π 1 31 ∧ pv_now π 2 = π 1 32 ∧ pv_now π 3 = π 1 33 ∧ pv_now π 4 = π 1 35 ∧ pv_now π 6 = π 1 34 := by
  have h0 : ¬ π 1 29 = 0 := by omega
  unfold pv_now
  refine ⟨?_, ?_, ?_, ?_, ?_, ?_⟩
  · rw [pg_iff (by omega), pg_iff (fun g => h0 g.2), pg_ift ⟨h0, by omega⟩]; rfl
  · rw [pg_iff (by omega), pg_iff (fun g => h0 g.2), pg_ift ⟨h0, by omega⟩]; rfl
  · rw [pg_iff (by omega), pg_iff (fun g => h0 g.2), pg_ift ⟨h0, by omega⟩]; rfl
  · rw [pg_iff (by omega), pg_iff (fun g => h0 g.2), pg_ift ⟨h0, by omega⟩]; rfl
  · rw [pg_iff (by omega), pg_iff (fun g => h0 g.2), pg_iff (fun g => by have := g.2; omega), pg_ift ⟨h0, rfl⟩]
  · rw [pg_iff (by omega), pg_iff (fun g => h0 g.2), pg_iff (fun g => by have := g.2; omega), pg_iff (fun g => by have := g.2; omega), pg_iff (fun g => by have := g.2.1; omega), pg_iff (fun g => by have := g.2.1; omega)]
theorem pm_now5 (h : π 1 29 = 1) : (mo_ov π ∧ pv_now π 5 = 1) ∨ (¬ mo_ov π ∧ pv_now π 5 = 0) := by
  have h0 : ¬ π 1 29 = 0 := by omega
  unfold pv_now
  rw [pg_iff (by omega), pg_iff (fun g => h0 g.2), pg_iff (fun g => by have := g.2; omega), pg_iff (fun g => by have := g.2; omega)]
  by_cases g : mo_ov π
  · left; rw [pg_ift ⟨h0, rfl, g⟩]; exact ⟨g, rfl⟩
  · right; rw [pg_iff (fun k => g k.2.2), pg_ift ⟨h0, rfl, g⟩]; exact ⟨g, rfl⟩
theorem pm_nowx (h : π 1 29 = 0) {q : Int} (hq : 0 ≤ q ∧ q ≤ 6) : pv_now π q = -6 := by
  unfold pv_now
  rw [pg_iff (by omega), pg_ift ⟨hq, h⟩]
theorem pm_trail (h : π 1 29 = 1) {p q : Int} (hp : 0 ≤ p ∧ p < π 1 35) (hq : 0 ≤ q ∧ q ≤ 2) : pv_trail π p q = π 1 (36 + 3 * (π 1 35 - 1 - p) + q) := by
  unfold pv_trail
  rw [pg_iff (by omega), pg_iff (fun g => by have := g.2; omega)]
theorem pm_slide {x q : Int} (h : mo_t π x) : (q = 0 → pv_slide π x q = mo_pl π x) ∧ (1 ≤ q ∧ q ≤ 3 → pv_slide π x q = mo_o π x q) ∧ (q = 4 → pv_slide π x q = mo_FS π x) ∧ (q = 5 → pv_slide π x q = mo_lk (fun q => mo_o π x (22 + q)) 10) := by
  have h' : ¬ ¬ mo_t π x := fun g => g h
  unfold pv_slide
  refine ⟨fun e => ?_, fun e => ?_, fun e => ?_, fun e => ?_⟩
  · rw [pg_iff h', pg_iff (fun g => by have := g.2; omega), pg_ift ⟨h, e⟩]
  · rw [pg_iff h', pg_iff (fun g => by have := g.2; omega), pg_iff (fun g => by have := g.2; omega), pg_ift ⟨h, e⟩]
  · rw [pg_iff h', pg_iff (fun g => by have := g.2; omega), pg_iff (fun g => by have := g.2; omega), pg_iff (fun g => by have := g.2; omega), pg_ift ⟨h, e⟩]
  · rw [pg_iff h', pg_iff (fun g => by have := g.2; omega), pg_iff (fun g => by have := g.2; omega), pg_iff (fun g => by have := g.2; omega), pg_iff (fun g => by have := g.2; omega)]
theorem pm_target {x k : Int} (h : mo_t π x) (hk : 0 ≤ k ∧ k ≤ 9) : pv_target π x k = mo_o π x (22 + k) := by
  unfold pv_target
  rw [pg_iff (fun g => g h), pg_iff (fun g => by have := g.2; omega)]
theorem pm_tg (hR : rl_1 μ π) {x k : Int} (h : mo_t π x) (hk : 0 ≤ k ∧ k ≤ 9) : mo_o π x (22 + k) = -6 ∨ mo_t π (mo_o π x (22 + k)) := (rl_J hR).2 x h k hk.1 hk.2
theorem pm_ml (h : π 1 29 = 1) : pv_movesLeft π = pd_L π (π 1 30) (π 1 31) := by
  unfold pv_movesLeft; rw [pg_iff (by omega)]; rfl
theorem pm_bt (h : mo_on π ∧ mo_bp π ≠ -1) : pv_backTo π = π 1 (36 + 3 * mo_bp π) := by
  unfold pv_backTo; rw [pg_iff (fun g => g h)]
theorem pm_btx (h : ¬ (mo_on π ∧ mo_bp π ≠ -1)) : pv_backTo π = -6 := by
  unfold pv_backTo; rw [pg_ift h]
/-! a move forward -/
theorem pm_fy (h : mo_on π ∧ mo_cf π) : pf_forward π = (mo_fw π 1 31, mo_fw π) := by unfold pf_forward; rw [pg_iff (fun g => g h)]
theorem pm_fn (h : ¬ (mo_on π ∧ mo_cf π)) : pf_forward π = (-5, π) := by unfold pf_forward; rw [pg_ift h]
theorem pm_by (h : mo_on π ∧ mo_bp π ≠ -1) : pf_back π = (mo_bk π 1 31, mo_bk π) := by unfold pf_back; rw [pg_iff (fun g => g h)]
theorem pm_bn (h : ¬ (mo_on π ∧ mo_bp π ≠ -1)) : pf_back π = (-5, π) := by unfold pf_back; rw [pg_ift h]
theorem pm_fe (hR : rl_1 μ π) : pd_e (mo_fw π) π := fun j hj => mo_fw_o (by omega) (rl_J hR).1.2.1
theorem pm_fs (hR : rl_1 μ π) (h : π 1 29 = 1) (hc : mo_cf π) : mo_fw π 1 29 = 1 ∧ mo_fw π 1 30 = pd_n π (π 1 30) (π 1 31) ∧ mo_fw π 1 31 = pd_t π (π 1 30) (π 1 31) ∧ mo_fw π 1 32 = π 1 32 ∧ mo_fw π 1 33 = 0 ∧ mo_fw π 1 35 = (if π 1 35 = 40 then 40 else π 1 35 + 1) ∧ (∀ c : Int, 0 ≤ c → c ≤ 2 → mo_fw π 1 (36 + 3 * (mo_fw π 1 35 - 1) + c) = (if c = 0 then π 1 30 else if c = 1 then π 1 31 else π 1 34)) := by
  have h4 := (rl_J hR).1.2.1
  have hV := pd_von hR h
  have key : ∀ n s k : Int, mo_fw π = mo_cm π n s k → mo_fw π 1 29 = 1 ∧ mo_fw π 1 30 = n ∧ mo_fw π 1 31 = s ∧ mo_fw π 1 32 = π 1 32 ∧ mo_fw π 1 33 = 0 ∧ mo_fw π 1 35 = (if π 1 35 = 40 then 40 else π 1 35 + 1) ∧ (∀ c : Int, 0 ≤ c → c ≤ 2 → mo_fw π 1 (36 + 3 * (mo_fw π 1 35 - 1) + c) = (if c = 0 then π 1 30 else if c = 1 then π 1 31 else π 1 34)) := by
    intro n s k e
    obtain ⟨c1, c2, c3, c4, c5, c6, -⟩ := mo_cm_s h4 n s k
    rw [e]
    refine ⟨by rw [c6 29 (by omega) (by omega) (by omega) (by omega) (by omega)]; exact h, c1, c2, c6 32 (by omega) (by omega) (by omega) (by omega) (by omega), c4, c5, fun c c0 c2' => ?_⟩
    have ht := mo_cm_t h4 n s k (q := mo_cm π n s k 1 35 - 1) (c := c) (by rw [c5]; split <;> omega) (by rw [c5]; split <;> omega) ⟨c0, c2'⟩
    rw [ht, if_pos (by rw [c5]; split <;> omega)]
  obtain ⟨hn, h0, h1⟩ := hV
  unfold pd_n pd_t
  by_cases g : π 1 31 < mo_FS π (π 1 30)
  · rw [if_neg (by omega), if_neg (by omega)]
    exact key _ _ _ (by unfold mo_fw; rw [if_pos g])
  · rw [if_pos (by omega), if_pos (by omega)]
    exact key _ _ _ (by unfold mo_fw; rw [if_neg g])
theorem pm_fL (hR : rl_1 μ π) (h : π 1 29 = 1) (hc : mo_cf π) : pv_movesLeft (mo_fw π) = pv_movesLeft π - 1 := by
  obtain ⟨e29, e30, e31, -⟩ := pm_fs hR h hc
  have hD := pd_of hR
  have hV := pd_von hR h
  obtain ⟨hV', hL⟩ := (pd_Lc hD hV).2 hc
  rw [pm_ml e29, pm_ml h, e30, e31, pd_e_L (pm_fe hR) hD hV'.1, hL]
theorem pm_ft (hR : rl_1 μ π) (h : π 1 29 = 1) (hc : mo_cf π) : pv_trail (mo_fw π) 0 0 = π 1 30 ∧ pv_trail (mo_fw π) 0 1 = π 1 31 ∧ pv_trail (mo_fw π) 0 2 = π 1 34 := by
  obtain ⟨e29, -, -, -, -, e35, et⟩ := pm_fs hR h hc
  have h4 := (rl_J hR).1.2.1
  have h35 : 0 < mo_fw π 1 35 := by rw [e35]; split <;> omega
  refine ⟨?_, ?_, ?_⟩
  · rw [pm_trail e29 ⟨Int.le_refl 0, h35⟩ (by omega), Int.sub_zero, et 0 (by omega) (by omega)]; rfl
  · rw [pm_trail e29 ⟨Int.le_refl 0, h35⟩ (by omega), Int.sub_zero, et 1 (by omega) (by omega)]; rfl
  · rw [pm_trail e29 ⟨Int.le_refl 0, h35⟩ (by omega), Int.sub_zero, et 2 (by omega) (by omega)]; rfl
theorem pm_ove {π' : rd_Mem} (h28 : π' 1 28 = π 1 28) (h32 : π' 1 32 = π 1 32) : mo_ov π' ↔ mo_ov π := by unfold mo_ov; rw [h28, h32]
/-- forward, and back again -/
theorem pm_fb (hR : rl_1 μ π) (hf : mo_on π ∧ mo_cf π) (hfd : mo_o π (π 1 30) 1 = 0 ∨ π 1 34 = 1) : mo_on (mo_fw π) ∧ mo_bp (mo_fw π) = mo_fw π 1 35 - 1 ∧ mo_bp (mo_fw π) ≠ -1 := by
  obtain ⟨e29, e30, e31, e32, e33, e35, et⟩ := pm_fs hR hf.1.1 hf.2
  have h4 := (rl_J hR).1.2.1
  have hV := pd_von hR hf.1.1
  have hE := pm_fe hR
  have h35 : 0 < mo_fw π 1 35 := by rw [e35]; split <;> omega
  have ho : mo_on (mo_fw π) := ⟨e29, fun g => hf.1.2 ((pm_ove (hE 28 (by omega)) e32).mp g)⟩
  have t0 := et 0 (by omega) (by omega)
  have t2 := et 2 (by omega) (by omega)
  rw [Int.add_zero, if_pos rfl] at t0
  rw [if_neg (by decide), if_neg (by decide)] at t2
  have hb : mo_bp (mo_fw π) = mo_fw π 1 35 - 1 := by
    unfold mo_bp
    refine sp_fb_y (by omega) (by omega) ?_
    unfold mo_bpp
    rw [t0, t2, pd_e_t hE, pd_e_o hE hV.1.1 (by omega)]
    exact ⟨hV.1, hfd⟩
  exact ⟨ho, hb, by omega⟩
theorem pm_fb2 (hR : rl_1 μ π) (hf : mo_on π ∧ mo_cf π) (hfd : mo_o π (π 1 30) 1 = 0 ∨ π 1 34 = 1) : pv_backTo (mo_fw π) = π 1 30 ∧ pf_back (mo_fw π) = (π 1 31, mo_bk (mo_fw π)) ∧ pv_now (mo_bk (mo_fw π)) 0 = π 1 30 ∧ pv_now (mo_bk (mo_fw π)) 6 = π 1 34 := by
  obtain ⟨e29, e30, e31, e32, e33, e35, et⟩ := pm_fs hR hf.1.1 hf.2
  obtain ⟨ho, hb, hn⟩ := pm_fb hR hf hfd
  have hV := pd_von hR hf.1.1
  have t0 := et 0 (by omega) (by omega)
  have t1 := et 1 (by omega) (by omega)
  have t2 := et 2 (by omega) (by omega)
  rw [Int.add_zero, if_pos rfl] at t0
  rw [if_neg (by decide), if_pos rfl] at t1
  rw [if_neg (by decide), if_neg (by decide)] at t2
  obtain ⟨b30, b31, -, b34, -⟩ := mo_bk_s (μ := mo_fw π)
  rw [hb] at b30 b31 b34
  rw [t0] at b30 b31
  rw [t1] at b31
  rw [t2] at b34
  have b29 : mo_bk (mo_fw π) 1 29 = 1 := by rw [(mo_bk_o (μ := mo_fw π)).1 29 (by omega) (by omega) (by omega) (by omega) (by omega)]; exact e29
  have e31' : mo_bk (mo_fw π) 1 31 = π 1 31 := by
    rw [b31, pd_e_FS (pm_fe hR) (pd_of hR) hV.1]
    have := hV.2.2
    split <;> omega
  refine ⟨by rw [pm_bt ⟨ho, hn⟩, hb, t0], by rw [pm_by ⟨ho, hn⟩, e31'], ?_, ?_⟩
  · rw [(pm_now b29).1, b30]
  · rw [(pm_now b29).2.2.2.2.2, b34]
/-! a press -/
theorem pm_py {k : Int} (hk : 0 ≤ k ∧ k ≤ 9) (h : mo_on π ∧ mo_o π (π 1 30) (22 + k) ≠ -6) : pf_press π k = (mo_cm π (mo_o π (π 1 30) (22 + k)) 0 1 1 30, mo_cm π (mo_o π (π 1 30) (22 + k)) 0 1) := by
  unfold pf_press; rw [pg_iff (by omega), pg_iff (fun g => g.2 h)]
theorem pm_pn {k : Int} (hk : 0 ≤ k ∧ k ≤ 9) (h : ¬ (mo_on π ∧ mo_o π (π 1 30) (22 + k) ≠ -6)) : pf_press π k = (-5, π) := by
  unfold pf_press; rw [pg_iff (by omega), pg_ift ⟨hk, h⟩]
theorem pm_ps (hR : rl_1 μ π) (h : π 1 29 = 1) (n s k : Int) : mo_cm π n s k 1 30 = n ∧ pv_now (mo_cm π n s k) 0 = n ∧ pv_now (mo_cm π n s k) 1 = s ∧ pv_now (mo_cm π n s k) 6 = k ∧ pv_trail (mo_cm π n s k) 0 0 = π 1 30 ∧ pv_trail (mo_cm π n s k) 0 1 = π 1 31 := by
  have h4 := (rl_J hR).1.2.1
  obtain ⟨c1, c2, c3, c4, c5, c6, -⟩ := mo_cm_s h4 n s k
  have c29 : mo_cm π n s k 1 29 = 1 := by rw [c6 29 (by omega) (by omega) (by omega) (by omega) (by omega)]; exact h
  have et : ∀ c : Int, 0 ≤ c → c ≤ 2 → mo_cm π n s k 1 (36 + 3 * (mo_cm π n s k 1 35 - 1) + c) = (if c = 0 then π 1 30 else if c = 1 then π 1 31 else π 1 34) := fun c c0 c2' => by
    have ht := mo_cm_t h4 n s k (q := mo_cm π n s k 1 35 - 1) (c := c) (by rw [c5]; split <;> omega) (by rw [c5]; split <;> omega) ⟨c0, c2'⟩
    rw [ht, if_pos (by rw [c5]; split <;> omega)]
  have h35 : 0 < mo_cm π n s k 1 35 := by rw [c5]; split <;> omega
  obtain ⟨n0, n1, -, -, -, n6⟩ := pm_now c29
  refine ⟨c1, by rw [n0, c1], by rw [n1, c2], by rw [n6, c3], ?_, ?_⟩
  · rw [pm_trail c29 ⟨Int.le_refl 0, h35⟩ (by omega), Int.sub_zero, et 0 (by omega) (by omega)]; rfl
  · rw [pm_trail c29 ⟨Int.le_refl 0, h35⟩ (by omega), Int.sub_zero, et 1 (by omega) (by omega)]; rfl
/-! back -/
theorem pm_bs (hR : rl_1 μ π) (h : mo_on π ∧ mo_bp π ≠ -1) : 0 ≤ pv_backTo π ∧ pv_now (mo_bk π) 0 = pv_backTo π ∧ pv_now (mo_bk π) 1 = mo_bk π 1 31 ∧ pv_now (mo_bk π) 3 = 0 ∧ (pv_slide (mo_bk π) (pv_backTo π) 1 = 0 ∨ pv_now (mo_bk π) 6 = 1) ∧ 0 ≤ mo_bk π 1 31 := by
  have h4 := (rl_J hR).1.2.1
  obtain ⟨br, bt, bh⟩ := mo_bp_r h.2 h4.1
  obtain ⟨b30, b31, b33, b34, b35⟩ := mo_bk_s (μ := π)
  have bo := (mo_bk_o (μ := π)).1
  have b29 : mo_bk π 1 29 = 1 := by rw [bo 29 (by omega) (by omega) (by omega) (by omega) (by omega)]; exact h.1.1
  have hE : pd_e (mo_bk π) π := fun j hj => bo j (by omega) (by omega) (by omega) (by omega) (by omega)
  obtain ⟨n0, n1, -, n3, -, n6⟩ := pm_now b29
  rw [pm_bt h]
  refine ⟨bt.1.1, by rw [n0, b30], n1, by rw [n3, b33], ?_, (mo_bk_I (rl_J hR).1 h.2).2.2.1.1⟩
  rw [(pm_slide ((pd_e_t hE _).mpr bt)).2.1 (by omega), pd_e_o hE bt.1 (by omega), n6, b34]
  exact bh
/-! no presentation -/
theorem pm_off (h : π 1 29 = 0) {k : Int} (hk : 0 ≤ k ∧ k ≤ 9) : pf_forward π = (-5, π) ∧ pf_back π = (-5, π) ∧ pf_press π k = (-5, π) ∧ pf_tick π 1 = (-5, π) ∧ pf_stop π = (-5, π) := by
  have hn : ¬ mo_on π := fun g => by have := g.1; omega
  refine ⟨pm_fn (fun g => hn g.1), pm_bn (fun g => hn g.1), pm_pn hk (fun g => hn g.1), ?_, ?_⟩
  · unfold pf_tick; rw [pg_iff (by omega), pg_ift ⟨by omega, hn⟩]
  · unfold pf_stop; rw [pg_ift h]
theorem pg_T_no {μ' : rd_Mem} {l : List rd_Mem} {v : Option rd_X} (hS : pg_S μ π l) (h : pg_T μ π l μ' π v) : ∃ l', pg_S μ' π l' := by
  rcases h with ⟨-, e, -⟩ | h
  · exact ⟨l, by rw [e]; exact hS⟩
  · exact ⟨_, h⟩
theorem pg_T_ok {μ' π' : rd_Mem} {l : List rd_Mem} {z : Int} (h : pg_T μ π l μ' π' (some (rd_I z))) (h0 : 0 ≤ z) : pg_S μ' π' (π :: l.take 3) := by
  rcases h with ⟨⟨e, e0, e1, e2⟩, -⟩ | h
  · have : z = e := by injection e2 with e3; injection e3
    omega
  · exact h
end PM
