/-- how many numbers the cell at a place of a state's block holds -/
def rd_bs (p : Int) : Int := if p < 2 then 1 else if p = 2 then 10 else if p = 3 then 0 else if p < 54 then (if (p - 4) % 5 = 0 then 4 else if (p - 4) % 5 = 4 then 10 else 6) else if p = 54 then 1 else if p < 57 then 8 else if p = 57 then 6 else 40
def rd_bcr (μ : rd_Mem) (b c lo hi : Int) : rd_Mem := fun a x => if (b + lo ≤ a ∧ a < b + hi) ∧ (0 ≤ x ∧ x < rd_bs (a - b)) then μ (c + (a - b)) x else μ a x
theorem rd_bcr_out (μ : rd_Mem) (c : Int) {b lo hi a : Int} (h : a < b + lo ∨ b + hi ≤ a) : rd_bcr μ b c lo hi a = μ a := by
  funext x; unfold rd_bcr; rw [if_neg (by omega)]
theorem rd_bcr_in (μ : rd_Mem) {b c lo hi p x : Int} (h : lo ≤ p ∧ p < hi) (hx : 0 ≤ x ∧ x < rd_bs p) : rd_bcr μ b c lo hi (b + p) x = μ (c + p) x := by
  unfold rd_bcr; rw [show b + p - b = p by omega, if_pos ⟨⟨by omega, by omega⟩, hx⟩]
theorem rd_bcr_cat (μ : rd_Mem) {b c lo mi hi : Int} (hd : b + 61 ≤ c ∨ c + 61 ≤ b) (h1 : lo ≤ mi) (h2 : mi ≤ hi) (h0 : 0 ≤ lo) (h3 : hi ≤ 61) : rd_bcr (rd_bcr μ b c lo mi) b c mi hi = rd_bcr μ b c lo hi := by
  funext a x
  by_cases h4 : (b + mi ≤ a ∧ a < b + hi) ∧ (0 ≤ x ∧ x < rd_bs (a - b))
  · have e1 : rd_bcr (rd_bcr μ b c lo mi) b c mi hi a x = rd_bcr μ b c lo mi (c + (a - b)) x := by
      rw [rd_bcr, if_pos h4]
    rw [e1, rd_bcr_out μ c (by omega), rd_bcr, if_pos ⟨⟨by omega, by omega⟩, h4.2⟩]
  · have e1 : rd_bcr (rd_bcr μ b c lo mi) b c mi hi a x = rd_bcr μ b c lo mi a x := by
      rw [rd_bcr, if_neg h4]
    rw [e1]
    by_cases h5 : (b + lo ≤ a ∧ a < b + mi) ∧ (0 ≤ x ∧ x < rd_bs (a - b))
    · rw [rd_bcr, if_pos h5, rd_bcr, if_pos ⟨⟨by omega, by omega⟩, h5.2⟩]
    · rw [rd_bcr, if_neg h5, rd_bcr, if_neg (fun h6 => by
        by_cases q : a < b + mi
        · exact h5 ⟨⟨h6.1.1, q⟩, h6.2⟩
        · exact h4 ⟨⟨by omega, h6.1.2⟩, h6.2⟩)]
def sp_b01 (μ : rd_Mem) (b : Int) : Prop := ∀ i : Int, 0 ≤ i → i < 10 → (μ (b + 4 + 5 * i) 0 = 0 ∨ μ (b + 4 + 5 * i) 0 = 1) ∧ (μ (b + 4 + 5 * i) 1 = 0 ∨ μ (b + 4 + 5 * i) 1 = 1)
theorem rd_bs4 {k : Int} (h0 : 0 ≤ k) (h1 : k < 10) : rd_bs (4 + 5 * k) = 4 ∧ rd_bs (4 + 5 * k + 1) = 6 ∧ rd_bs (4 + 5 * k + 2) = 6 ∧ rd_bs (4 + 5 * k + 3) = 6 ∧ rd_bs (4 + 5 * k + 4) = 10 := by
  have hk : k = 0 ∨ k = 1 ∨ k = 2 ∨ k = 3 ∨ k = 4 ∨ k = 5 ∨ k = 6 ∨ k = 7 ∨ k = 8 ∨ k = 9 := by omega
  rcases hk with rfl | rfl | rfl | rfl | rfl | rfl | rfl | rfl | rfl | rfl <;> decide
theorem rd_scp_bcr (μ : rd_Mem) {b c k : Int} (hd : b + 61 ≤ c ∨ c + 61 ≤ b) (h0 : 0 ≤ k) (h1 : k < 10) : rd_scp (rd_bcr μ b c 1 (4 + 5 * k)) (b + 4 + 5 * k) (c + 4 + 5 * k) = rd_bcr μ b c 1 (4 + 5 * (k + 1)) := by
  rw [← rd_bcr_cat μ (lo := 1) (mi := 4 + 5 * k) (hi := 4 + 5 * (k + 1)) hd (by omega) (by omega) (by omega) (by omega)]
  generalize rd_bcr μ b c 1 (4 + 5 * k) = ν
  obtain ⟨e0, e1, e2, e3, e4⟩ := rd_bs4 h0 h1
  funext a x
  by_cases ha : b + 4 + 5 * k ≤ a ∧ a < b + 4 + 5 * k + 5
  · obtain ⟨t, ht, rfl⟩ : ∃ t : Int, (0 ≤ t ∧ t ≤ 4) ∧ a = b + (4 + 5 * k + t) := ⟨a - (b + 4 + 5 * k), ⟨by omega, by omega⟩, by omega⟩
    have e5 : c + (4 + 5 * k + t) = c + 4 + 5 * k + t := by omega
    have ht5 : t = 0 ∨ t = 1 ∨ t = 2 ∨ t = 3 ∨ t = 4 := by omega
    unfold rd_scp rd_bcr
    rw [show b + (4 + 5 * k + t) - b = 4 + 5 * k + t by omega, e5]
    rcases ht5 with rfl | rfl | rfl | rfl | rfl <;> grind
  · unfold rd_scp rd_bcr
    grind
/-- the kept states' places -/
def sp_hp (μ : rd_Mem) : Prop := ∀ t : Int, 0 ≤ t → t < 4 → 0 ≤ μ 63 t ∧ μ 63 t ≤ 3
theorem rd_isBh {x : Int} (h : 0 ≤ x ∧ x ≤ 3) : rd_isB (64 + 61 * x) := by unfold rd_isB; omega
def rd_hdk (μ : rd_Mem) (k : Int) : rd_Mem := fun a b => if a = 62 ∧ b = 0 then 3 else if a = 63 ∧ (0 ≤ b ∧ b < k) then μ 63 (b + 1) else μ a b
def rd_hdo (μ : rd_Mem) : rd_Mem := rd_u (rd_hdk μ 3) 63 3 (μ 63 0)
def rd_kp (ν : rd_Mem) : rd_Mem := rd_u (rd_bcr ν (64 + 61 * ν 63 (ν 62 0)) 1 0 61) 62 0 (ν 62 0 + 1)
def rd_keep (μ : rd_Mem) : rd_Mem := rd_kp (if μ 62 0 = 4 then rd_hdo μ else μ)
def rd_rst (μ : rd_Mem) : rd_Mem := rd_bcr (rd_u μ 62 0 (μ 62 0 - 1)) 1 (64 + 61 * μ 63 (μ 62 0 - 1)) 0 61
theorem rd_ntcp (μ : rd_Mem) {b c : Int} (hd : b + 61 ≤ c ∨ c + 61 ≤ b) : rd_cp (rd_cp (rd_u μ (b + 54) 0 (μ (c + 54) 0)) (b + 54 + 1) (c + 54 + 1) 8) (b + 54 + 2) (c + 54 + 2) 8 = rd_bcr μ b c 54 57 := by
  funext a x
  have hr : ∀ y : Int, y ≠ b + 54 → rd_u μ (b + 54) 0 (μ (c + 54) 0) y = μ y := fun y hy => rd_u_ne _ _ _ hy
  have s1 : rd_bs 54 = 1 ∧ rd_bs 55 = 8 ∧ rd_bs 56 = 8 := by decide
  have g4 : b + 54 - b = 54 ∧ b + 54 + 1 - b = 55 ∧ b + 54 + 2 - b = 56 := ⟨by omega, by omega, by omega⟩
  have q1 : c + 55 = c + 54 + 1 ∧ c + 56 = c + 54 + 2 := ⟨by omega, by omega⟩
  by_cases h0 : a = b + 54
  · subst h0
    simp only [rd_u, rd_cp, rd_bcr]; rw [g4.1, s1.1]; grind
  · have g0 := congrFun (hr a h0) x
    have g1 := hr (c + 54 + 1) (by omega)
    have g2 := hr (c + 54 + 2) (by omega)
    generalize rd_u μ (b + 54) 0 (μ (c + 54) 0) = ν at g0 g1 g2 ⊢
    by_cases h1 : a = b + 54 + 1
    · subst h1; simp only [rd_cp, rd_bcr]; rw [g4.2.1, s1.2.1, q1.1]; grind
    · by_cases h2 : a = b + 54 + 2
      · subst h2; simp only [rd_cp, rd_bcr]; rw [g4.2.2, s1.2.2, q1.2]; grind
      · simp only [rd_cp, rd_bcr]
        rw [if_neg h2, if_neg h1, if_neg (by omega), g0]
set_option maxHeartbeats 4000000 in
set_option maxRecDepth 100000 in
theorem c_X3_copyFrom {l : Launch} {G : rd_G} {r : Nat} {μ : rd_Mem} {b c0 : Int} (hb : rd_isT b) (hc : rd_isT c0) (hd : b + 61 ≤ c0 ∨ c0 + 61 ≤ b) : rd_M l G rd_kc 313 r yX3_copyFrom cX3_copyFrom 2 none (rd_rm 1 40) [rd_R (b + 54), rd_R (c0 + 54)] μ (fun v μ' => v = none ∧ μ' = rd_bcr μ b c0 54 57) := by
  refine rd_enter (by decide +kernel) (Nat.le_of_ble_eq_true rfl) [rd_R (b + 54), rd_R (c0 + 54)] rfl (fun p e s m args below meth c C => ?_)
  refine rd_W.rng (fun hM hL _ => ?_)
  refine rd_aload_n C dX3_copyFrom_0 rfl ?_
  refine rd_aload_n C dX3_copyFrom_1 rfl ?_
  refine rd_get C rd_g3_0 rf_X3_18 dX3_copyFrom_2 ⟨by have := hc.1; omega, by have := hc.1; omega⟩ hc.2.2.2.2.2.1 (x := rd_I (μ (c0 + 54) 0)) rfl (fun h => h _ _) ?_
  refine rd_put C rd_p3_0 rf_X3_18 dX3_copyFrom_5 ⟨by have := hb.1; omega, by have := hb.1; omega⟩ hb.2.2.2.2.2.1 trivial ?_
  refine rd_aload_n C dX3_copyFrom_8 rfl ?_
  refine rd_get C rd_g3_1 rf_X3_9 dX3_copyFrom_9 ⟨by have := hc.1; omega, by have := hc.1; omega⟩ hc.2.2.2.2.2.1 (x := rd_R (c0 + 54 + 1)) rfl (fun _ => trivial) ?_
  refine rd_iconst C dX3_copyFrom_12 (n := 0) ⟨by decide, by decide⟩ ?_
  refine rd_aload_n C dX3_copyFrom_13 rfl ?_
  refine rd_get C rd_g3_1 rf_X3_9 dX3_copyFrom_14 ⟨by have := hb.1; omega, by have := hb.1; omega⟩ hb.2.2.2.2.2.1 (x := rd_R (b + 54 + 1)) rfl (fun _ => trivial) ?_
  refine rd_iconst C dX3_copyFrom_17 (n := 0) ⟨by decide, by decide⟩ ?_
  refine rd_bipush C dX3_copyFrom_18 (n := 8) (by decide) ⟨by decide, by decide⟩ ?_
  refine rd_acopy C rd_ai13 rm_X3_22 rn_System_arraycopy rt_System_arraycopy rz_J10 ⟨by decide, by decide⟩ (Nat.le_of_ble_eq_true rfl) dX3_copyFrom_20 ⟨by have := hc.1; omega, by have := hc.1; omega⟩ (by rw [show c0 + 54 + 1 = c0 + 55 by omega]; exact hc.2.2.2.2.2.2.1) ⟨by have := hb.1; omega, by have := hb.1; omega⟩ (by rw [show b + 54 + 1 = b + 55 by omega]; exact hb.2.2.2.2.2.2.1) rfl (by decide) ?_
  refine rd_aload_n C dX3_copyFrom_23 rfl ?_
  refine rd_get C rd_g3_2 rf_X3_15 dX3_copyFrom_24 ⟨by have := hc.1; omega, by have := hc.1; omega⟩ hc.2.2.2.2.2.1 (x := rd_R (c0 + 54 + 2)) rfl (fun _ => trivial) ?_
  refine rd_iconst C dX3_copyFrom_27 (n := 0) ⟨by decide, by decide⟩ ?_
  refine rd_aload_n C dX3_copyFrom_28 rfl ?_
  refine rd_get C rd_g3_2 rf_X3_15 dX3_copyFrom_29 ⟨by have := hb.1; omega, by have := hb.1; omega⟩ hb.2.2.2.2.2.1 (x := rd_R (b + 54 + 2)) rfl (fun _ => trivial) ?_
  refine rd_iconst C dX3_copyFrom_32 (n := 0) ⟨by decide, by decide⟩ ?_
  refine rd_bipush C dX3_copyFrom_33 (n := 8) (by decide) ⟨by decide, by decide⟩ ?_
  refine rd_acopy C rd_ai13 rm_X3_22 rn_System_arraycopy rt_System_arraycopy rz_J10 ⟨by decide, by decide⟩ (Nat.le_of_ble_eq_true rfl) dX3_copyFrom_35 ⟨by have := hc.1; omega, by have := hc.1; omega⟩ (by rw [show c0 + 54 + 2 = c0 + 56 by omega]; exact hc.2.2.2.2.2.2.2.1) ⟨by have := hb.1; omega, by have := hb.1; omega⟩ (by rw [show b + 54 + 2 = b + 56 by omega]; exact hb.2.2.2.2.2.2.2.1) rfl (by decide) ?_
  exact rd_vret C dX3_copyFrom_38 ⟨rfl, rd_ntcp μ hd⟩
theorem rd_shcp (μ : rd_Mem) {b c : Int} (hd : b + 61 ≤ c ∨ c + 61 ≤ b) : rd_cp (rd_cp (rd_cp (rd_u (rd_u (rd_u (rd_u (rd_u (rd_u μ (b + 57) 0 (μ (c + 57) 0)) (b + 57) 1 (μ (c + 57) 1)) (b + 57) 2 (μ (c + 57) 2)) (b + 57) 3 (μ (c + 57) 3)) (b + 57) 4 (μ (c + 57) 4)) (b + 57) 5 (μ (c + 57) 5)) (b + 57 + 1) (c + 57 + 1) 40) (b + 57 + 2) (c + 57 + 2) 40) (b + 57 + 3) (c + 57 + 3) 40 = rd_bcr μ b c 57 61 := by
  funext a x
  by_cases h0 : a = b + 57
  · subst h0
    simp only [rd_u, rd_cp, rd_bcr]
    rw [show b + 57 - b = 57 by omega, show rd_bs 57 = 6 by decide]
    have hx : (0 ≤ x ∧ x < 6) ∨ x < 0 ∨ 6 ≤ x := by omega
    rcases hx with hx | hx
    · have h6 : x = 0 ∨ x = 1 ∨ x = 2 ∨ x = 3 ∨ x = 4 ∨ x = 5 := by omega
      rcases h6 with rfl | rfl | rfl | rfl | rfl | rfl <;> simp <;> omega
    · have n0 : ¬ x = 0 := by omega
      have n1 : ¬ x = 1 := by omega
      have n2 : ¬ x = 2 := by omega
      have n3 : ¬ x = 3 := by omega
      have n4 : ¬ x = 4 := by omega
      have n5 : ¬ x = 5 := by omega
      have m1 : ¬ b + 57 = b + 57 + 1 := by omega
      have m2 : ¬ b + 57 = b + 57 + 2 := by omega
      have m3 : ¬ b + 57 = b + 57 + 3 := by omega
      rw [if_neg (show ¬ ((b + 57 ≤ b + 57 ∧ b + 57 < b + 61) ∧ 0 ≤ x ∧ x < 6) by omega)]
      simp only [n0, n1, n2, n3, n4, n5, m1, m2, m3, if_true, if_false]
  · have hr : ∀ y : Int, rd_u (rd_u (rd_u (rd_u (rd_u (rd_u μ (b + 57) 0 (μ (c + 57) 0)) (b + 57) 1 (μ (c + 57) 1)) (b + 57) 2 (μ (c + 57) 2)) (b + 57) 3 (μ (c + 57) 3)) (b + 57) 4 (μ (c + 57) 4)) (b + 57) 5 (μ (c + 57) 5) y = if y = b + 57 then rd_u (rd_u (rd_u (rd_u (rd_u (rd_u μ (b + 57) 0 (μ (c + 57) 0)) (b + 57) 1 (μ (c + 57) 1)) (b + 57) 2 (μ (c + 57) 2)) (b + 57) 3 (μ (c + 57) 3)) (b + 57) 4 (μ (c + 57) 4)) (b + 57) 5 (μ (c + 57) 5) y else μ y := by
      intro y
      by_cases hy : y = b + 57
      · rw [if_pos hy]
      · rw [if_neg hy, rd_u_ne _ _ _ hy, rd_u_ne _ _ _ hy, rd_u_ne _ _ _ hy, rd_u_ne _ _ _ hy, rd_u_ne _ _ _ hy, rd_u_ne _ _ _ hy]
    generalize rd_u (rd_u (rd_u (rd_u (rd_u (rd_u μ (b + 57) 0 (μ (c + 57) 0)) (b + 57) 1 (μ (c + 57) 1)) (b + 57) 2 (μ (c + 57) 2)) (b + 57) 3 (μ (c + 57) 3)) (b + 57) 4 (μ (c + 57) 4)) (b + 57) 5 (μ (c + 57) 5) = ν at hr ⊢
    have g0 : ν a x = μ a x := by rw [hr a, if_neg h0]
    have g1 : ν (c + 57 + 1) = μ (c + 57 + 1) := by rw [hr, if_neg (by omega)]
    have g2 : ν (c + 57 + 2) = μ (c + 57 + 2) := by rw [hr, if_neg (by omega)]
    have g3 : ν (c + 57 + 3) = μ (c + 57 + 3) := by rw [hr, if_neg (by omega)]
    have g4 : b + 57 + 1 - b = 58 ∧ b + 57 + 2 - b = 59 ∧ b + 57 + 3 - b = 60 := ⟨by omega, by omega, by omega⟩
    have s1 : rd_bs 58 = 40 ∧ rd_bs 59 = 40 ∧ rd_bs 60 = 40 := by decide
    have q1 : c + 58 = c + 57 + 1 ∧ c + 59 = c + 57 + 2 ∧ c + 60 = c + 57 + 3 := ⟨by omega, by omega, by omega⟩
    by_cases h1 : a = b + 57 + 1
    · subst h1; simp only [rd_cp, rd_bcr]; rw [g4.1, s1.1, q1.1]; grind
    · by_cases h2 : a = b + 57 + 2
      · subst h2; simp only [rd_cp, rd_bcr]; rw [g4.2.1, s1.2.1, q1.2.1]; grind
      · by_cases h3 : a = b + 57 + 3
        · subst h3; simp only [rd_cp, rd_bcr]; rw [g4.2.2, s1.2.2, q1.2.2]; grind
        · simp only [rd_cp, rd_bcr]
          rw [if_neg h3, if_neg h2, if_neg h1, if_neg (by omega), g0]
set_option maxHeartbeats 4000000 in
set_option maxRecDepth 100000 in
theorem c_X6_copyFrom {l : Launch} {G : rd_G} {r : Nat} {μ : rd_Mem} {b c0 : Int} (hb : rd_isT b) (hc : rd_isT c0) (hd : b + 61 ≤ c0 ∨ c0 + 61 ≤ b) : rd_M l G rd_kc 313 r yX6_copyFrom cX6_copyFrom 2 none (rd_rm 1 40) [rd_R (b + 57), rd_R (c0 + 57)] μ (fun v μ' => v = none ∧ μ' = rd_bcr μ b c0 57 61) := by
  refine rd_enter (by decide +kernel) (Nat.le_of_ble_eq_true rfl) [rd_R (b + 57), rd_R (c0 + 57)] rfl (fun p e s m args below meth c C => ?_)
  refine rd_W.rng (fun hM hL _ => ?_)
  refine rd_aload_n C dX6_copyFrom_0 rfl ?_
  refine rd_aload_n C dX6_copyFrom_1 rfl ?_
  refine rd_get C rd_g6_0 rf_X6_9 dX6_copyFrom_2 ⟨by have := hc.1; omega, by have := hc.1; omega⟩ hc.2.2.2.2.2.2.2.2.1 (x := rd_I (μ (c0 + 57) 0)) rfl (fun h => h _ _) ?_
  refine rd_put C rd_p6_0 rf_X6_9 dX6_copyFrom_5 ⟨by have := hb.1; omega, by have := hb.1; omega⟩ hb.2.2.2.2.2.2.2.2.1 trivial ?_
  refine rd_aload_n C dX6_copyFrom_8 rfl ?_
  refine rd_aload_n C dX6_copyFrom_9 rfl ?_
  refine rd_getx C rd_g6_1 rf_X6_25 dX6_copyFrom_10 ⟨by have := hc.1; omega, by have := hc.1; omega⟩ hc.2.2.2.2.2.2.2.2.1 rfl (z := μ (c0 + 57) 1) (by rw [rd_u_k _ _ _ (by omega)]) ?_
  refine rd_put C rd_p6_1 rf_X6_25 dX6_copyFrom_13 ⟨by have := hb.1; omega, by have := hb.1; omega⟩ hb.2.2.2.2.2.2.2.2.1 trivial ?_
  refine rd_aload_n C dX6_copyFrom_16 rfl ?_
  refine rd_aload_n C dX6_copyFrom_17 rfl ?_
  refine rd_getx C rd_g6_2 rf_X6_28 dX6_copyFrom_18 ⟨by have := hc.1; omega, by have := hc.1; omega⟩ hc.2.2.2.2.2.2.2.2.1 rfl (z := μ (c0 + 57) 2) (by rw [rd_u_k _ _ _ (by omega), rd_u_k _ _ _ (by omega)]) ?_
  refine rd_put C rd_p6_2 rf_X6_28 dX6_copyFrom_21 ⟨by have := hb.1; omega, by have := hb.1; omega⟩ hb.2.2.2.2.2.2.2.2.1 trivial ?_
  refine rd_aload_n C dX6_copyFrom_24 rfl ?_
  refine rd_aload_n C dX6_copyFrom_25 rfl ?_
  refine rd_getx C rd_g6_3 rf_X6_31 dX6_copyFrom_26 ⟨by have := hc.1; omega, by have := hc.1; omega⟩ hc.2.2.2.2.2.2.2.2.1 rfl (z := μ (c0 + 57) 3) (by rw [rd_u_k _ _ _ (by omega), rd_u_k _ _ _ (by omega), rd_u_k _ _ _ (by omega)]) ?_
  refine rd_put C rd_p6_3 rf_X6_31 dX6_copyFrom_29 ⟨by have := hb.1; omega, by have := hb.1; omega⟩ hb.2.2.2.2.2.2.2.2.1 trivial ?_
  refine rd_aload_n C dX6_copyFrom_32 rfl ?_
  refine rd_aload_n C dX6_copyFrom_33 rfl ?_
  refine rd_getx C rd_g6_4 rf_X6_34 dX6_copyFrom_34 ⟨by have := hc.1; omega, by have := hc.1; omega⟩ hc.2.2.2.2.2.2.2.2.1 rfl (z := μ (c0 + 57) 4) (by rw [rd_u_k _ _ _ (by omega), rd_u_k _ _ _ (by omega), rd_u_k _ _ _ (by omega), rd_u_k _ _ _ (by omega)]) ?_
  refine rd_put C rd_p6_4 rf_X6_34 dX6_copyFrom_37 ⟨by have := hb.1; omega, by have := hb.1; omega⟩ hb.2.2.2.2.2.2.2.2.1 trivial ?_
  refine rd_aload_n C dX6_copyFrom_40 rfl ?_
  refine rd_aload_n C dX6_copyFrom_41 rfl ?_
  refine rd_getx C rd_g6_5 rf_X6_37 dX6_copyFrom_42 ⟨by have := hc.1; omega, by have := hc.1; omega⟩ hc.2.2.2.2.2.2.2.2.1 rfl (z := μ (c0 + 57) 5) (by rw [rd_u_k _ _ _ (by omega), rd_u_k _ _ _ (by omega), rd_u_k _ _ _ (by omega), rd_u_k _ _ _ (by omega), rd_u_k _ _ _ (by omega)]) ?_
  refine rd_put C rd_p6_5 rf_X6_37 dX6_copyFrom_45 ⟨by have := hb.1; omega, by have := hb.1; omega⟩ hb.2.2.2.2.2.2.2.2.1 trivial ?_
  refine rd_aload_n C dX6_copyFrom_48 rfl ?_
  refine rd_get C rd_g6_6 rf_X6_15 dX6_copyFrom_49 ⟨by have := hc.1; omega, by have := hc.1; omega⟩ hc.2.2.2.2.2.2.2.2.1 (x := rd_R (c0 + 57 + 1)) rfl (fun _ => trivial) ?_
  refine rd_iconst C dX6_copyFrom_52 (n := 0) ⟨by decide, by decide⟩ ?_
  refine rd_aload_n C dX6_copyFrom_53 rfl ?_
  refine rd_get C rd_g6_6 rf_X6_15 dX6_copyFrom_54 ⟨by have := hb.1; omega, by have := hb.1; omega⟩ hb.2.2.2.2.2.2.2.2.1 (x := rd_R (b + 57 + 1)) rfl (fun _ => trivial) ?_
  refine rd_iconst C dX6_copyFrom_57 (n := 0) ⟨by decide, by decide⟩ ?_
  refine rd_bipush C dX6_copyFrom_58 (n := 40) (by decide) ⟨by decide, by decide⟩ ?_
  refine rd_acopy C rd_ai14 rm_X6_40 rn_System_arraycopy rt_System_arraycopy rz_J10 ⟨by decide, by decide⟩ (Nat.le_of_ble_eq_true rfl) dX6_copyFrom_60 ⟨by have := hc.1; omega, by have := hc.1; omega⟩ (by rw [show c0 + 57 + 1 = c0 + 58 by omega]; exact hc.2.2.2.2.2.2.2.2.2.1) ⟨by have := hb.1; omega, by have := hb.1; omega⟩ (by rw [show b + 57 + 1 = b + 58 by omega]; exact hb.2.2.2.2.2.2.2.2.2.1) rfl (by decide) ?_
  refine rd_aload_n C dX6_copyFrom_63 rfl ?_
  refine rd_get C rd_g6_7 rf_X6_19 dX6_copyFrom_64 ⟨by have := hc.1; omega, by have := hc.1; omega⟩ hc.2.2.2.2.2.2.2.2.1 (x := rd_R (c0 + 57 + 2)) rfl (fun _ => trivial) ?_
  refine rd_iconst C dX6_copyFrom_67 (n := 0) ⟨by decide, by decide⟩ ?_
  refine rd_aload_n C dX6_copyFrom_68 rfl ?_
  refine rd_get C rd_g6_7 rf_X6_19 dX6_copyFrom_69 ⟨by have := hb.1; omega, by have := hb.1; omega⟩ hb.2.2.2.2.2.2.2.2.1 (x := rd_R (b + 57 + 2)) rfl (fun _ => trivial) ?_
  refine rd_iconst C dX6_copyFrom_72 (n := 0) ⟨by decide, by decide⟩ ?_
  refine rd_bipush C dX6_copyFrom_73 (n := 40) (by decide) ⟨by decide, by decide⟩ ?_
  refine rd_acopy C rd_ai14 rm_X6_40 rn_System_arraycopy rt_System_arraycopy rz_J10 ⟨by decide, by decide⟩ (Nat.le_of_ble_eq_true rfl) dX6_copyFrom_75 ⟨by have := hc.1; omega, by have := hc.1; omega⟩ (by rw [show c0 + 57 + 2 = c0 + 59 by omega]; exact hc.2.2.2.2.2.2.2.2.2.2.1) ⟨by have := hb.1; omega, by have := hb.1; omega⟩ (by rw [show b + 57 + 2 = b + 59 by omega]; exact hb.2.2.2.2.2.2.2.2.2.2.1) rfl (by decide) ?_
  refine rd_aload_n C dX6_copyFrom_78 rfl ?_
  refine rd_get C rd_g6_8 rf_X6_22 dX6_copyFrom_79 ⟨by have := hc.1; omega, by have := hc.1; omega⟩ hc.2.2.2.2.2.2.2.2.1 (x := rd_R (c0 + 57 + 3)) rfl (fun _ => trivial) ?_
  refine rd_iconst C dX6_copyFrom_82 (n := 0) ⟨by decide, by decide⟩ ?_
  refine rd_aload_n C dX6_copyFrom_83 rfl ?_
  refine rd_get C rd_g6_8 rf_X6_22 dX6_copyFrom_84 ⟨by have := hb.1; omega, by have := hb.1; omega⟩ hb.2.2.2.2.2.2.2.2.1 (x := rd_R (b + 57 + 3)) rfl (fun _ => trivial) ?_
  refine rd_iconst C dX6_copyFrom_87 (n := 0) ⟨by decide, by decide⟩ ?_
  refine rd_bipush C dX6_copyFrom_88 (n := 40) (by decide) ⟨by decide, by decide⟩ ?_
  refine rd_acopy C rd_ai14 rm_X6_40 rn_System_arraycopy rt_System_arraycopy rz_J10 ⟨by decide, by decide⟩ (Nat.le_of_ble_eq_true rfl) dX6_copyFrom_90 ⟨by have := hc.1; omega, by have := hc.1; omega⟩ (by rw [show c0 + 57 + 3 = c0 + 60 by omega]; exact hc.2.2.2.2.2.2.2.2.2.2.2) ⟨by have := hb.1; omega, by have := hb.1; omega⟩ (by rw [show b + 57 + 3 = b + 60 by omega]; exact hb.2.2.2.2.2.2.2.2.2.2.2) rfl (by decide) ?_
  exact rd_vret C dX6_copyFrom_93 ⟨rfl, rd_shcp μ hd⟩
set_option maxHeartbeats 4000000 in
set_option maxRecDepth 100000 in
theorem c_X0_copyFrom {l : Launch} {G : rd_G} {r : Nat} {μ : rd_Mem} {b c0 : Int} (hBb : rd_isB b) (hBc0 : rd_isB c0) (hd : b + 61 ≤ c0 ∨ c0 + 61 ≤ b) (h01 : sp_b01 μ c0) : rd_M l G rd_kc 313 r yX0_copyFrom cX0_copyFrom 3 none (rd_rm 2 61) [rd_R (b + 1), rd_R (c0 + 1)] μ (fun v μ' => v = none ∧ μ' = rd_bcr μ b c0 1 54) := by
  refine rd_enter (by decide +kernel) (Nat.le_of_ble_eq_true rfl) [rd_R (b + 1), rd_R (c0 + 1), rd_J] rfl (fun p e s m args below meth c C => ?_)
  refine rd_W.rng (fun hM hL _ => ?_)
  have hb := hBb.t
  have hc := hBc0.t
  refine rd_aload_n C dX0_copyFrom_0 rfl ?_
  refine rd_aload_n C dX0_copyFrom_1 rfl ?_
  refine rd_get C rd_g0_0 rf_X0_25 dX0_copyFrom_2 ⟨by have := hc.1; omega, by have := hc.1; omega⟩ hc.2.2.1 (x := rd_I (μ (c0 + 1) 0)) rfl (fun h => h _ _) ?_
  refine rd_put C rd_p0_0 rf_X0_25 dX0_copyFrom_5 ⟨by have := hb.1; omega, by have := hb.1; omega⟩ hb.2.2.1 trivial ?_
  refine rd_aload_n C dX0_copyFrom_8 rfl ?_
  refine rd_get C rd_g0_1 rf_X0_9 dX0_copyFrom_9 ⟨by have := hc.1; omega, by have := hc.1; omega⟩ hc.2.2.1 (x := rd_R (c0 + 1 + 1)) rfl (fun _ => trivial) ?_
  refine rd_iconst C dX0_copyFrom_12 (n := 0) ⟨by decide, by decide⟩ ?_
  refine rd_aload_n C dX0_copyFrom_13 rfl ?_
  refine rd_get C rd_g0_1 rf_X0_9 dX0_copyFrom_14 ⟨by have := hb.1; omega, by have := hb.1; omega⟩ hb.2.2.1 (x := rd_R (b + 1 + 1)) rfl (fun _ => trivial) ?_
  refine rd_iconst C dX0_copyFrom_17 (n := 0) ⟨by decide, by decide⟩ ?_
  refine rd_bipush C dX0_copyFrom_18 (n := 10) (by decide) ⟨by decide, by decide⟩ ?_
  refine rd_acopy C rd_ai11 rm_X0_29 rn_System_arraycopy rt_System_arraycopy rz_J10 ⟨by decide, by decide⟩ (Nat.le_of_ble_eq_true rfl) dX0_copyFrom_20 ⟨by have := hc.1; omega, by have := hc.1; omega⟩ (by rw [show c0 + 1 + 1 = c0 + 2 by omega]; exact hc.2.2.2.1) ⟨by have := hb.1; omega, by have := hb.1; omega⟩ (by rw [show b + 1 + 1 = b + 2 by omega]; exact hb.2.2.2.1) rfl (by decide) ?_
  refine rd_iconst C dX0_copyFrom_23 (n := 0) ⟨by decide, by decide⟩ ?_
  refine rd_istore_n C dX0_copyFrom_24 (by decide) (L' := [rd_R (b + 1), rd_R (c0 + 1), rd_I 0]) rfl ?_
  have lp25 : ∀ (n : Nat) (k : Int) (μ1 : rd_Mem), (0 ≤ k) → (k ≤ 10) → (10 < k + n) → (μ1 = rd_bcr μ b c0 1 (4 + 5 * k)) → rd_W p l e (rd_rm 2 61) s m args below meth c (MQ below (rd_Qc G rd_kc 313 r (fun v μ' => v = none ∧ μ' = rd_bcr μ b c0 1 54)) args s 0 0 (rd_A r 313)) 3 G rd_kc 313 r 25 [rd_R (b + 1), rd_R (c0 + 1), rd_I k] [] μ1 := by
    intro n
    induction n with
    | zero => intro k μ1  h1 h2 h3 hm; exfalso; omega
    | succ n ih =>
      intro k μ1  h1 h2 h3 hm
      refine rd_iload_n C dX0_copyFrom_25 rfl ?_
      refine rd_bipush C dX0_copyFrom_26 (n := 10) (by decide) ⟨by decide, by decide⟩ ?_
      refine rd_icmp_ge C dX0_copyFrom_28 (tgt := 52) (by decide) (fun h_28 => ?_) (fun h_28 => ?_)
      · exact rd_vret C dX0_copyFrom_52 ⟨rfl, by rw [hm, show k = 10 by omega]; rfl⟩
      · refine rd_aload_n C dX0_copyFrom_31 rfl ?_
        refine rd_get C rd_g0_2 rf_X0_17 dX0_copyFrom_32 ⟨by have := hb.1; omega, by have := hb.1; omega⟩ hb.2.2.1 (x := rd_R (b + 1 + 2)) rfl (fun _ => trivial) ?_
        refine rd_iload_n C dX0_copyFrom_35 rfl ?_
        have hS_b := rd_slB hBb (i := k) (by omega) (by omega)
        refine rd_aald16 C dX0_copyFrom_36 ⟨by have := hb.1; omega, by have := hb.1; omega⟩ (by rw [show b + 1 + 2 = b + 3 by omega]; exact hb.2.2.2.2.1) ⟨by omega, by omega⟩ (k' := b + 4 + 5 * k) (by omega) ?_
        refine rd_aload_n C dX0_copyFrom_37 rfl ?_
        refine rd_get C rd_g0_2 rf_X0_17 dX0_copyFrom_38 ⟨by have := hc.1; omega, by have := hc.1; omega⟩ hc.2.2.1 (x := rd_R (c0 + 1 + 2)) rfl (fun _ => trivial) ?_
        refine rd_iload_n C dX0_copyFrom_41 rfl ?_
        have hS_c0 := rd_slB hBc0 (i := k) (by omega) (by omega)
        refine rd_aald16 C dX0_copyFrom_42 ⟨by have := hc.1; omega, by have := hc.1; omega⟩ (by rw [show c0 + 1 + 2 = c0 + 3 by omega]; exact hc.2.2.2.2.1) ⟨by omega, by omega⟩ (k' := c0 + 4 + 5 * k) (by omega) ?_
        refine rd_callV C (c_X7_copyFrom hS_b hS_c0 (by omega) (by rw [hm, rd_bcr_out _ _ (by omega)]; exact (h01 k (by omega) (by omega)).1) (by rw [hm, rd_bcr_out _ _ (by omega)]; exact (h01 k (by omega) (by omega)).2)) rm_X0_35 ri_X7_copyFrom rs_X7_copyFrom rc_X7_copyFrom rz_X7 ⟨rp_X7_copyFrom, rfl, rfl, by decide, by decide⟩ rfl rd_kcl7 dX0_copyFrom_43 hS_b.1 hS_b.2.2.2.2.2.1 rfl (Nat.le_of_ble_eq_true rfl) (fun v1 w1 hq => ?_)
        obtain ⟨hv1, hm1⟩ := hq; rw [hv1, hm1]; clear hv1 hm1
        refine rd_iinc C dX0_copyFrom_46 (by decide) rfl ⟨by omega, by omega⟩ (L' := [rd_R (b + 1), rd_R (c0 + 1), rd_I (k + 1)]) rfl ?_
        refine rd_goto C dX0_copyFrom_49 (tgt := 25) (by decide) ?_
        exact ih (k + 1) _ (by omega) (by omega) (by omega) (by rw [hm]; exact rd_scp_bcr μ hd (by omega) (by omega))
  exact lp25 11 0 _ (by omega) (by omega) (by omega) (by funext a x; simp only [rd_u, rd_cp, rd_bcr, rd_bs]; grind)
set_option maxHeartbeats 4000000 in
set_option maxRecDepth 100000 in
theorem c_X8_copyFrom {l : Launch} {G : rd_G} {r : Nat} {μ : rd_Mem} {b c0 : Int} (hBb : rd_isB b) (hBc0 : rd_isB c0) (hd : b + 61 ≤ c0 ∨ c0 + 61 ≤ b) (h01 : sp_b01 μ c0) : rd_M l G rd_kc 313 r yX8_copyFrom cX8_copyFrom 2 none (rd_rm 3 83) [rd_R b, rd_R c0] μ (fun v μ' => v = none ∧ μ' = rd_bcr μ b c0 0 61) := by
  refine rd_enter (by decide +kernel) (Nat.le_of_ble_eq_true rfl) [rd_R b, rd_R c0] rfl (fun p e s m args below meth c C => ?_)
  refine rd_W.rng (fun hM hL _ => ?_)
  have hb := hBb.t
  have hc := hBc0.t
  refine rd_aload_n C dX8_copyFrom_0 rfl ?_
  refine rd_aload_n C dX8_copyFrom_1 rfl ?_
  refine rd_get C rd_g8_0 rf_X8_32 dX8_copyFrom_2 ⟨by have := hc.1; omega, by have := hc.1; omega⟩ hc.2.1 (x := rd_I (μ c0 0)) rfl (fun h => h _ _) ?_
  refine rd_put C rd_p8_0 rf_X8_32 dX8_copyFrom_5 ⟨by have := hb.1; omega, by have := hb.1; omega⟩ hb.2.1 trivial ?_
  have hu : sp_b01 (rd_u μ b 0 (μ c0 0)) c0 := fun i h0 h1 => by rw [rd_u_ne _ _ _ (by omega)]; exact h01 i h0 h1
  have hnu : rd_u μ b 0 (μ c0 0) = rd_bcr μ b c0 0 1 := by funext a x; simp only [rd_u, rd_bcr, rd_bs]; grind
  rw [hnu] at hu ⊢
  refine rd_aload_n C dX8_copyFrom_8 rfl ?_
  refine rd_get C rd_g8_1 rf_X8_12 dX8_copyFrom_9 ⟨by have := hb.1; omega, by have := hb.1; omega⟩ hb.2.1 (x := rd_R (b + 1)) rfl (fun _ => trivial) ?_
  refine rd_aload_n C dX8_copyFrom_12 rfl ?_
  refine rd_get C rd_g8_1 rf_X8_12 dX8_copyFrom_13 ⟨by have := hc.1; omega, by have := hc.1; omega⟩ hc.2.1 (x := rd_R (c0 + 1)) rfl (fun _ => trivial) ?_
  refine rd_callV C (c_X0_copyFrom hBb hBc0 hd hu) rm_X8_36 ri_X0_copyFrom rs_X0_copyFrom rc_X0_copyFrom rz_X0 ⟨rp_X0_copyFrom, rfl, rfl, by decide, by decide⟩ rfl rd_kcl0 dX8_copyFrom_16 ⟨by have := hb.1; omega, by have := hb.1; omega⟩ hb.2.2.1 rfl (Nat.le_of_ble_eq_true rfl) (fun v1 w1 hq => ?_)
  obtain ⟨hv1, hm1⟩ := hq; rw [hv1, hm1, rd_bcr_cat μ hd (by omega) (by omega) (by omega) (by omega)]; clear hv1 hm1 v1 w1
  refine rd_aload_n C dX8_copyFrom_19 rfl ?_
  refine rd_get C rd_g8_2 rf_X8_21 dX8_copyFrom_20 ⟨by have := hb.1; omega, by have := hb.1; omega⟩ hb.2.1 (x := rd_R (b + 54)) rfl (fun _ => trivial) ?_
  refine rd_aload_n C dX8_copyFrom_23 rfl ?_
  refine rd_get C rd_g8_2 rf_X8_21 dX8_copyFrom_24 ⟨by have := hc.1; omega, by have := hc.1; omega⟩ hc.2.1 (x := rd_R (c0 + 54)) rfl (fun _ => trivial) ?_
  refine rd_callV C (c_X3_copyFrom hb hc hd) rm_X8_40 ri_X3_copyFrom rs_X3_copyFrom rc_X3_copyFrom rz_X3 ⟨rp_X3_copyFrom, rfl, rfl, by decide, by decide⟩ rfl rd_kcl3 dX8_copyFrom_27 ⟨by have := hb.1; omega, by have := hb.1; omega⟩ hb.2.2.2.2.2.1 rfl (Nat.le_of_ble_eq_true rfl) (fun v1 w1 hq => ?_)
  obtain ⟨hv1, hm1⟩ := hq; rw [hv1, hm1, rd_bcr_cat μ hd (by omega) (by omega) (by omega) (by omega)]; clear hv1 hm1 v1 w1
  refine rd_aload_n C dX8_copyFrom_30 rfl ?_
  refine rd_get C rd_g8_3 rf_X8_28 dX8_copyFrom_31 ⟨by have := hb.1; omega, by have := hb.1; omega⟩ hb.2.1 (x := rd_R (b + 57)) rfl (fun _ => trivial) ?_
  refine rd_aload_n C dX8_copyFrom_34 rfl ?_
  refine rd_get C rd_g8_3 rf_X8_28 dX8_copyFrom_35 ⟨by have := hc.1; omega, by have := hc.1; omega⟩ hc.2.1 (x := rd_R (c0 + 57)) rfl (fun _ => trivial) ?_
  refine rd_callV C (c_X6_copyFrom hb hc hd) rm_X8_43 ri_X6_copyFrom rs_X6_copyFrom rc_X6_copyFrom rz_X6 ⟨rp_X6_copyFrom, rfl, rfl, by decide, by decide⟩ rfl rd_kcl6 dX8_copyFrom_38 ⟨by have := hb.1; omega, by have := hb.1; omega⟩ hb.2.2.2.2.2.2.2.2.1 rfl (Nat.le_of_ble_eq_true rfl) (fun v1 w1 hq => ?_)
  obtain ⟨hv1, hm1⟩ := hq; rw [hv1, hm1, rd_bcr_cat μ hd (by omega) (by omega) (by omega) (by omega)]; clear hv1 hm1 v1 w1
  exact rd_vret C dX8_copyFrom_41 ⟨rfl, rfl⟩

