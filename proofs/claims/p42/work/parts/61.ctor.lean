theorem rg_f0_1 : rg_FF 0 1 RX0 TX0 3 := ⟨rfl, by decide, ru_X0, ⟨tyX0, tyX0_ok⟩, nmX0, rfl, rfl, _, tyX0_ok 1 (by decide), fun _ => ⟨rfl, rfl⟩⟩
theorem rg_f0_2 : rg_FF 0 2 RX0 TX0 3 := ⟨rfl, by decide, ru_X0, ⟨tyX0, tyX0_ok⟩, nmX0, rfl, rfl, _, tyX0_ok 2 (by decide), fun _ => ⟨rfl, rfl⟩⟩
theorem rg_f1_0 : rg_FF 1 0 RX1 TX1 1 := ⟨rfl, by decide, ru_X1, ⟨tyX1, tyX1_ok⟩, nmX1, rfl, rfl, _, tyX1_ok 0 (by decide), fun _ => ⟨rfl, rfl⟩⟩
theorem rg_f2_1 : rg_FF 2 1 RX2 TX2 2 := ⟨rfl, by decide, ru_X2, ⟨tyX2, tyX2_ok⟩, nmX2, rfl, rfl, _, tyX2_ok 1 (by decide), fun _ => ⟨rfl, rfl⟩⟩
theorem rg_f3_1 : rg_FF 3 1 RX3 TX3 3 := ⟨rfl, by decide, ru_X3, ⟨tyX3, tyX3_ok⟩, nmX3, rfl, rfl, _, tyX3_ok 1 (by decide), fun _ => ⟨rfl, rfl⟩⟩
theorem rg_f3_2 : rg_FF 3 2 RX3 TX3 3 := ⟨rfl, by decide, ru_X3, ⟨tyX3, tyX3_ok⟩, nmX3, rfl, rfl, _, tyX3_ok 2 (by decide), fun _ => ⟨rfl, rfl⟩⟩
theorem rg_f5_1 : rg_FF 5 1 RX5 TX5 2 := ⟨rfl, by decide, ru_X5, ⟨tyX5, tyX5_ok⟩, nmX5, rfl, rfl, _, tyX5_ok 1 (by decide), fun _ => ⟨rfl, rfl⟩⟩
theorem rg_f6_6 : rg_FF 6 6 RX6 TX6 9 := ⟨rfl, by decide, ru_X6, ⟨tyX6, tyX6_ok⟩, nmX6, rfl, rfl, _, tyX6_ok 6 (by decide), fun _ => ⟨rfl, rfl⟩⟩
theorem rg_f6_7 : rg_FF 6 7 RX6 TX6 9 := ⟨rfl, by decide, ru_X6, ⟨tyX6, tyX6_ok⟩, nmX6, rfl, rfl, _, tyX6_ok 7 (by decide), fun _ => ⟨rfl, rfl⟩⟩
theorem rg_f6_8 : rg_FF 6 8 RX6 TX6 9 := ⟨rfl, by decide, ru_X6, ⟨tyX6, tyX6_ok⟩, nmX6, rfl, rfl, _, tyX6_ok 8 (by decide), fun _ => ⟨rfl, rfl⟩⟩
theorem rg_f7_4 : rg_FF 7 4 RX7 TX7 8 := ⟨rfl, by decide, ru_X7, ⟨tyX7, tyX7_ok⟩, nmX7, rfl, rfl, _, tyX7_ok 4 (by decide), fun _ => ⟨rfl, rfl⟩⟩
theorem rg_f7_5 : rg_FF 7 5 RX7 TX7 8 := ⟨rfl, by decide, ru_X7, ⟨tyX7, tyX7_ok⟩, nmX7, rfl, rfl, _, tyX7_ok 5 (by decide), fun _ => ⟨rfl, rfl⟩⟩
theorem rg_f7_6 : rg_FF 7 6 RX7 TX7 8 := ⟨rfl, by decide, ru_X7, ⟨tyX7, tyX7_ok⟩, nmX7, rfl, rfl, _, tyX7_ok 6 (by decide), fun _ => ⟨rfl, rfl⟩⟩
theorem rg_f7_7 : rg_FF 7 7 RX7 TX7 8 := ⟨rfl, by decide, ru_X7, ⟨tyX7, tyX7_ok⟩, nmX7, rfl, rfl, _, tyX7_ok 7 (by decide), fun _ => ⟨rfl, rfl⟩⟩
theorem rg_f8_1 : rg_FF 8 1 RX8 TX8 4 := ⟨rfl, by decide, ru_X8, ⟨tyX8, tyX8_ok⟩, nmX8, rfl, rfl, _, tyX8_ok 1 (by decide), fun _ => ⟨rfl, rfl⟩⟩
theorem rg_f8_2 : rg_FF 8 2 RX8 TX8 4 := ⟨rfl, by decide, ru_X8, ⟨tyX8, tyX8_ok⟩, nmX8, rfl, rfl, _, tyX8_ok 2 (by decide), fun _ => ⟨rfl, rfl⟩⟩
theorem rg_f8_3 : rg_FF 8 3 RX8 TX8 4 := ⟨rfl, by decide, ru_X8, ⟨tyX8, tyX8_ok⟩, nmX8, rfl, rfl, _, tyX8_ok 3 (by decide), fun _ => ⟨rfl, rfl⟩⟩
theorem rg_f9_0 : rg_FF 9 0 RX9 TX9 5 := ⟨rfl, by decide, ru_X9, ⟨tyX9, tyX9_ok⟩, nmX9, rfl, rfl, _, tyX9_ok 0 (by decide), fun _ => ⟨rfl, rfl⟩⟩
theorem rg_f9_1 : rg_FF 9 1 RX9 TX9 5 := ⟨rfl, by decide, ru_X9, ⟨tyX9, tyX9_ok⟩, nmX9, rfl, rfl, _, tyX9_ok 1 (by decide), fun _ => ⟨rfl, rfl⟩⟩
theorem rg_f9_2 : rg_FF 9 2 RX9 TX9 5 := ⟨rfl, by decide, ru_X9, ⟨tyX9, tyX9_ok⟩, nmX9, rfl, rfl, _, tyX9_ok 2 (by decide), fun _ => ⟨rfl, rfl⟩⟩
theorem rg_f9_3 : rg_FF 9 3 RX9 TX9 5 := ⟨rfl, by decide, ru_X9, ⟨tyX9, tyX9_ok⟩, nmX9, rfl, rfl, _, tyX9_ok 3 (by decide), fun _ => ⟨rfl, rfl⟩⟩
theorem rg_f9_4 : rg_FF 9 4 RX9 TX9 5 := ⟨rfl, by decide, ru_X9, ⟨tyX9, tyX9_ok⟩, nmX9, rfl, rfl, _, tyX9_ok 4 (by decide), fun _ => ⟨rfl, rfl⟩⟩
def rg_e0 : va_E := .inr (0, [.int (rd_i 0), .null, .null])
theorem rg_d0 : ∀ j, j < 3 → defaultValue (tyX0 j) = vp_V [.int (rd_i 0), .null, .null] j := by
  intro j hj
  rcases (show j = 0 ∨ j = 1 ∨ j = 2 by omega) with rfl | rfl | rfl <;> rfl
def rg_e1 : va_E := .inr (1, [.null])
theorem rg_d1 : ∀ j, j < 1 → defaultValue (tyX1 j) = vp_V [.null] j := by
  intro j hj
  rcases (show j = 0 by omega) with rfl <;> rfl
def rg_e2 : va_E := .inr (2, [.int (rd_i 0), .null])
theorem rg_d2 : ∀ j, j < 2 → defaultValue (tyX2 j) = vp_V [.int (rd_i 0), .null] j := by
  intro j hj
  rcases (show j = 0 ∨ j = 1 by omega) with rfl | rfl <;> rfl
def rg_e3 : va_E := .inr (3, [.int (rd_i 0), .null, .null])
theorem rg_d3 : ∀ j, j < 3 → defaultValue (tyX3 j) = vp_V [.int (rd_i 0), .null, .null] j := by
  intro j hj
  rcases (show j = 0 ∨ j = 1 ∨ j = 2 by omega) with rfl | rfl | rfl <;> rfl
def rg_e4 : va_E := .inr (4, [.int (rd_i 0), .int (rd_i 0), .int (rd_i 0), .int (rd_i 0)])
theorem rg_d4 : ∀ j, j < 4 → defaultValue (tyX4 j) = vp_V [.int (rd_i 0), .int (rd_i 0), .int (rd_i 0), .int (rd_i 0)] j := by
  intro j hj
  rcases (show j = 0 ∨ j = 1 ∨ j = 2 ∨ j = 3 by omega) with rfl | rfl | rfl | rfl <;> rfl
def rg_e5 : va_E := .inr (5, [.int (rd_i 0), .null])
theorem rg_d5 : ∀ j, j < 2 → defaultValue (tyX5 j) = vp_V [.int (rd_i 0), .null] j := by
  intro j hj
  rcases (show j = 0 ∨ j = 1 by omega) with rfl | rfl <;> rfl
def rg_e6 : va_E := .inr (6, [.int (rd_i 0), .int (rd_i 0), .int (rd_i 0), .int (rd_i 0), .int (rd_i 0), .int (rd_i 0), .null, .null, .null])
theorem rg_d6 : ∀ j, j < 9 → defaultValue (tyX6 j) = vp_V [.int (rd_i 0), .int (rd_i 0), .int (rd_i 0), .int (rd_i 0), .int (rd_i 0), .int (rd_i 0), .null, .null, .null] j := by
  intro j hj
  rcases (show j = 0 ∨ j = 1 ∨ j = 2 ∨ j = 3 ∨ j = 4 ∨ j = 5 ∨ j = 6 ∨ j = 7 ∨ j = 8 by omega) with rfl | rfl | rfl | rfl | rfl | rfl | rfl | rfl | rfl <;> rfl
def rg_e7 : va_E := .inr (7, [.int (rd_i 0), .int (rd_i 0), .int (rd_i 0), .int (rd_i 0), .null, .null, .null, .null])
theorem rg_d7 : ∀ j, j < 8 → defaultValue (tyX7 j) = vp_V [.int (rd_i 0), .int (rd_i 0), .int (rd_i 0), .int (rd_i 0), .null, .null, .null, .null] j := by
  intro j hj
  rcases (show j = 0 ∨ j = 1 ∨ j = 2 ∨ j = 3 ∨ j = 4 ∨ j = 5 ∨ j = 6 ∨ j = 7 by omega) with rfl | rfl | rfl | rfl | rfl | rfl | rfl | rfl <;> rfl
def rg_e8 : va_E := .inr (8, [.int (rd_i 0), .null, .null, .null])
theorem rg_d8 : ∀ j, j < 4 → defaultValue (tyX8 j) = vp_V [.int (rd_i 0), .null, .null, .null] j := by
  intro j hj
  rcases (show j = 0 ∨ j = 1 ∨ j = 2 ∨ j = 3 by omega) with rfl | rfl | rfl | rfl <;> rfl
def rg_e9 : va_E := .inr (9, [.null, .null, .null, .null, .null])
theorem rg_d9 : ∀ j, j < 5 → defaultValue (tyX9 j) = vp_V [.null, .null, .null, .null, .null] j := by
  intro j hj
  rcases (show j = 0 ∨ j = 1 ∨ j = 2 ∨ j = 3 ∨ j = 4 by omega) with rfl | rfl | rfl | rfl | rfl <;> rfl
theorem rg_arr {cA : ClassId} {N : Nat} {f g : Nat → Option Nat} {D : va_G} {cl : List vw_C} {a : Nat} {H : Heap} (h : ∀ j : Nat, j < N → f j = g j) (ha : va_at D cl (a, .inl (cA, N, .inr (.inr (.inr (.inr f))))) H) : va_at D cl (a, .inl (cA, N, .inr (.inr (.inr (.inr g))))) H := by
  have h1 : H[a]? = some (vp_cell cA (N, .inr (.inr (.inr (.inr f))))) := ha
  show H[a]? = some (vp_cell cA (N, .inr (.inr (.inr (.inr g)))))
  rw [h1, vp_cell_q, vp_cell_q]
  unfold arrV
  congr 3
  funext j
  show va_rf (f j.val) = va_rf (g j.val)
  rw [h j.val j.isLt]
/-! what the cells hold at first -/
def sp_s0 (d j : Int) : Int := if d = 57 ∧ j = 0 then -1 else if (4 ≤ d ∧ d < 54) ∧ (d - 4) % 5 = 4 ∧ (0 ≤ j ∧ j < 10) then -1 else 0
def sp_m0 : rd_Mem := fun a j => if 1 ≤ a ∧ a < 62 then sp_s0 (a - 1) j else if 64 ≤ a ∧ a < 308 then sp_s0 ((a - 64) % 61) j else if a = 63 then (if 0 ≤ j ∧ j < 4 then j else 0) else if a = 310 then -6 else 0
def sp_n0 : rd_Mem := fun a j => if a = 3 ∧ (0 ≤ j ∧ j < 4) then -6 else 0
def rg_B (G : rd_G) (r b : Nat) : Nat → va_E := fun j => rd_cell G r (sp_s0 ((j : Int) - b)) j (rd_kb ((j : Int) - b))
def rg_C (G : rd_G) (r : Nat) : Nat → va_E := fun j => rd_cell G r (sp_m0 j) j (rd_kc j)
def rg_D (G : rd_G) (r : Nat) : Nat → va_E := fun j => rd_cell G r (sp_n0 j) j (rd_km j)
def rg_z (G : rd_G) (N : Nat) : va_E := .inl (G.2.1, N, .inl (rd_ri (fun _ => 0)))
def rg_tf (i : Int) : Int → Int := fun q => if 0 ≤ q ∧ q < i then -1 else 0
def rg_S (G : rd_G) (r k : Nat) (i : Int) : Nat → va_E := fun j => if j = k then .inr (7, [.int (rd_i 0), .int (rd_i 0), .int (rd_i 0), .int (rd_i 0), .ref (r + (k + 1)), .ref (r + (k + 2)), .ref (r + (k + 3)), .ref (r + (k + 4))]) else if j = k + 4 then .inl (G.2.1, 10, .inl (rd_ri (rg_tf i))) else rg_z G 6
theorem rg_tf0 : rg_tf 0 = fun _ => 0 := by funext q; unfold rg_tf; exact if_neg (by omega)
theorem rg_tfs {i : Int} (h : 0 ≤ i) : rd_uf (rg_tf i) i (-1) = rg_tf (i + 1) := by
  funext q; unfold rd_uf rg_tf
  by_cases hq : q = i
  · rw [if_pos hq, if_pos (by omega)]
  · rw [if_neg hq]
    by_cases h2 : 0 ≤ q ∧ q < i
    · rw [if_pos h2, if_pos (by omega)]
    · rw [if_neg h2, if_neg (by omega)]
theorem rg_s0z {d : Int} (h : d ≠ 57) (h2 : ¬ ((4 ≤ d ∧ d < 54) ∧ (d - 4) % 5 = 4)) : sp_s0 d = fun _ => 0 := by
  funext j; unfold sp_s0; rw [if_neg (fun g => h g.1), if_neg (fun g => h2 ⟨g.1, g.2.1⟩)]
theorem rg_s0t {d : Int} (h2 : (4 ≤ d ∧ d < 54) ∧ (d - 4) % 5 = 4) : sp_s0 d = rg_tf 10 := by
  funext j; unfold sp_s0 rg_tf; rw [if_neg (by omega)]
  by_cases h : 0 ≤ j ∧ j < 10
  · rw [if_pos ⟨h2.1, h2.2, h⟩, if_pos h]
  · rw [if_neg (fun g => h g.2.2), if_neg h]
theorem rg_SB {G : rd_G} {r b i j : Nat} (hi : i < 10) (h0 : b + 4 + 5 * i ≤ j) (h1 : j < b + 4 + 5 * i + 5) : rg_S G r (b + 4 + 5 * i) 10 j = rg_B G r b j := by
  unfold rg_S rg_B
  have hk : ∀ d : Int, 4 ≤ d → d < 54 → rd_kb d = if (d - 4) % 5 = 0 then 7 else if (d - 4) % 5 = 4 then 11 else 12 := fun d d0 d1 => by
    unfold rd_kb; rw [if_neg (by omega), if_neg (by omega), if_neg (by omega), if_neg (by omega), if_pos (by omega)]
  rw [hk _ (by omega) (by omega)]
  by_cases c0 : j = b + 4 + 5 * i
  · rw [if_pos c0, if_pos (by omega), rg_s0z (by omega) (by omega)]
    show Sum.inr (7, [_, _, _, _, _, _, _, _]) = Sum.inr (7, [_, _, _, _, Value.ref (r + ((j : Int) + 1).toNat), Value.ref (r + ((j : Int) + 2).toNat), Value.ref (r + ((j : Int) + 3).toNat), Value.ref (r + ((j : Int) + 4).toNat)])
    rw [show ((j : Int) + 1).toNat = b + 4 + 5 * i + 1 by omega, show ((j : Int) + 2).toNat = b + 4 + 5 * i + 2 by omega, show ((j : Int) + 3).toNat = b + 4 + 5 * i + 3 by omega, show ((j : Int) + 4).toNat = b + 4 + 5 * i + 4 by omega]
  · rw [if_neg c0]
    by_cases c4 : j = b + 4 + 5 * i + 4
    · rw [if_pos c4, if_neg (show ¬ ((j : Int) - b - 4) % 5 = 0 by omega), if_pos (show ((j : Int) - b - 4) % 5 = 4 by omega), rg_s0t (by omega)]; rfl
    · rw [if_neg c4, if_neg (show ¬ ((j : Int) - b - 4) % 5 = 0 by omega), if_neg (show ¬ ((j : Int) - b - 4) % 5 = 4 by omega), rg_s0z (by omega) (by omega)]; rfl
set_option maxHeartbeats 1000000 in
set_option maxRecDepth 100000 in
theorem c_X7_init {l : Launch} {G : rd_G} {r k : Nat} : rg_M l G yX7_init cX7_init 1 1 20 4 28 r k 1 5 (fun _ => rg_e7) (rg_S G r k 0) := by
  refine rg_enter (by decide +kernel) (Nat.le_of_ble_eq_true rfl) [rd_R ((k : Nat) : Int)] rfl (fun p e s m args below meth c C hK hnm => ?_)
  refine rx_aload_n C dX7_init_0 rfl ?_
  refine rg_obj C rm_X7_3 ⟨Nat.le_of_ble_eq_true rfl, Nat.le_of_ble_eq_true rfl⟩ (Nat.le_of_ble_eq_true rfl) dX7_init_1 ?_
  refine rx_aload_n C dX7_init_4 rfl ?_
  refine rx_bipush C dX7_init_5 (n := 6) (by decide) ⟨by decide, by decide⟩ ?_
  refine rg_newa C (atype := .int) (t := 0) (N := 6) rfl rfl (fun h => h) rfl ra_int rfl (by decide) (by decide) (by omega) (Nat.le_of_ble_eq_true rfl) (Nat.le_of_ble_eq_true rfl) dX7_init_7 ?_
  refine rg_putF C hnm (fs := [.int (rd_i 0), .int (rd_i 0), .int (rd_i 0), .int (rd_i 0), .null, .null, .null, .null]) rg_f7_4 rf_X7_9 ⟨by omega, by omega⟩ (by rw [rg_u_n _ _ (by omega)] <;> rfl) (Nat.le_of_ble_eq_true rfl) dX7_init_9 ?_
  refine rx_aload_n C dX7_init_12 rfl ?_
  refine rx_bipush C dX7_init_13 (n := 6) (by decide) ⟨by decide, by decide⟩ ?_
  refine rg_newa C (atype := .int) (t := 0) (N := 6) rfl rfl (fun h => h) rfl ra_int rfl (by decide) (by decide) (by omega) (Nat.le_of_ble_eq_true rfl) (Nat.le_of_ble_eq_true rfl) dX7_init_15 ?_
  refine rg_putF C hnm (fs := [.int (rd_i 0), .int (rd_i 0), .int (rd_i 0), .int (rd_i 0), .ref (r + (k + 1)), .null, .null, .null]) rg_f7_5 rf_X7_15 ⟨by omega, by omega⟩ (by rw [rg_u_n _ _ (by omega), rg_u_s] <;> rfl) (Nat.le_of_ble_eq_true rfl) dX7_init_17 ?_
  refine rx_aload_n C dX7_init_20 rfl ?_
  refine rx_bipush C dX7_init_21 (n := 6) (by decide) ⟨by decide, by decide⟩ ?_
  refine rg_newa C (atype := .int) (t := 0) (N := 6) rfl rfl (fun h => h) rfl ra_int rfl (by decide) (by decide) (by omega) (Nat.le_of_ble_eq_true rfl) (Nat.le_of_ble_eq_true rfl) dX7_init_23 ?_
  refine rg_putF C hnm (fs := [.int (rd_i 0), .int (rd_i 0), .int (rd_i 0), .int (rd_i 0), .ref (r + (k + 1)), .ref (r + (k + 2)), .null, .null]) rg_f7_6 rf_X7_18 ⟨by omega, by omega⟩ (by rw [rg_u_n _ _ (by omega), rg_u_s] <;> rfl) (Nat.le_of_ble_eq_true rfl) dX7_init_25 ?_
  refine rx_aload_n C dX7_init_28 rfl ?_
  refine rx_bipush C dX7_init_29 (n := 10) (by decide) ⟨by decide, by decide⟩ ?_
  refine rg_newa C (atype := .int) (t := 0) (N := 10) rfl rfl (fun h => h) rfl ra_int rfl (by decide) (by decide) (by omega) (Nat.le_of_ble_eq_true rfl) (Nat.le_of_ble_eq_true rfl) dX7_init_31 ?_
  refine rg_putF C hnm (fs := [.int (rd_i 0), .int (rd_i 0), .int (rd_i 0), .int (rd_i 0), .ref (r + (k + 1)), .ref (r + (k + 2)), .ref (r + (k + 3)), .null]) rg_f7_7 rf_X7_21 ⟨by omega, by omega⟩ (by rw [rg_u_n _ _ (by omega), rg_u_s] <;> rfl) (Nat.le_of_ble_eq_true rfl) dX7_init_33 ?_
  refine rg_ret C (by omega) (Nat.le_of_ble_eq_true rfl) (Nat.le_of_ble_eq_true rfl) (fun H j j0 j1 hat => ?_) dX7_init_36
  rcases (show j = k ∨ j = k + 1 ∨ j = k + 2 ∨ j = k + 3 ∨ j = k + 4 by omega) with h | h | h | h | h
  · subst h
    rw [rg_u_s] at hat
    unfold rg_S; rw [if_pos rfl]; exact hat
  · subst h
    rw [rg_u_n _ _ (by omega), rg_u_n _ _ (by omega), rg_u_n _ _ (by omega), rg_u_n _ _ (by omega), rg_u_n _ _ (by omega), rg_u_n _ _ (by omega), rg_u_n _ _ (by omega), rg_u_s] at hat
    unfold rg_S; rw [if_neg (by omega), if_neg (by omega)]; exact hat
  · subst h
    rw [rg_u_n _ _ (by omega), rg_u_n _ _ (by omega), rg_u_n _ _ (by omega), rg_u_n _ _ (by omega), rg_u_n _ _ (by omega), rg_u_s] at hat
    unfold rg_S; rw [if_neg (by omega), if_neg (by omega)]; exact hat
  · subst h
    rw [rg_u_n _ _ (by omega), rg_u_n _ _ (by omega), rg_u_n _ _ (by omega), rg_u_s] at hat
    unfold rg_S; rw [if_neg (by omega), if_neg (by omega)]; exact hat
  · subst h
    rw [rg_u_n _ _ (by omega), rg_u_s] at hat
    unfold rg_S; rw [if_neg (by omega), if_pos rfl, rg_tf0]; exact hat
set_option maxHeartbeats 1000000 in
set_option maxRecDepth 100000 in
theorem c_X3_init {l : Launch} {G : rd_G} {r b : Nat} : rg_M l G yX3_init cX3_init 1 1 20 2 16 r (b + 54) 1 3 (fun _ => rg_e3) (rg_B G r b) := by
  refine rg_enter (by decide +kernel) (Nat.le_of_ble_eq_true rfl) [rd_R ((b + 54 : Nat) : Int)] rfl (fun p e s m args below meth c C hK hnm => ?_)
  refine rx_aload_n C dX3_init_0 rfl ?_
  refine rg_obj C rm_X3_3 ⟨Nat.le_of_ble_eq_true rfl, Nat.le_of_ble_eq_true rfl⟩ (Nat.le_of_ble_eq_true rfl) dX3_init_1 ?_
  refine rx_aload_n C dX3_init_4 rfl ?_
  refine rx_bipush C dX3_init_5 (n := 8) (by decide) ⟨by decide, by decide⟩ ?_
  refine rg_newa C (atype := .int) (t := 0) (N := 8) rfl rfl (fun h => h) rfl ra_int rfl (by decide) (by decide) (by omega) (Nat.le_of_ble_eq_true rfl) (Nat.le_of_ble_eq_true rfl) dX3_init_7 ?_
  refine rg_putF C hnm (fs := [.int (rd_i 0), .null, .null]) rg_f3_1 rf_X3_9 ⟨by omega, by omega⟩ (by rw [rg_u_n _ _ (by omega)] <;> rfl) (Nat.le_of_ble_eq_true rfl) dX3_init_9 ?_
  refine rx_aload_n C dX3_init_12 rfl ?_
  refine rx_bipush C dX3_init_13 (n := 8) (by decide) ⟨by decide, by decide⟩ ?_
  refine rg_newa C (atype := .int) (t := 0) (N := 8) rfl rfl (fun h => h) rfl ra_int rfl (by decide) (by decide) (by omega) (Nat.le_of_ble_eq_true rfl) (Nat.le_of_ble_eq_true rfl) dX3_init_15 ?_
  refine rg_putF C hnm (fs := [.int (rd_i 0), .ref (r + (b + 55)), .null]) rg_f3_2 rf_X3_15 ⟨by omega, by omega⟩ (by rw [rg_u_n _ _ (by omega), rg_u_s] <;> rfl) (Nat.le_of_ble_eq_true rfl) dX3_init_17 ?_
  refine rg_ret C (by omega) (Nat.le_of_ble_eq_true rfl) (Nat.le_of_ble_eq_true rfl) (fun H j j0 j1 hat => ?_) dX3_init_20
  rcases (show j = b + 54 ∨ j = b + 55 ∨ j = b + 56 by omega) with h | h | h
  · subst h
    rw [rg_u_s] at hat
    unfold rg_B; rw [show (((b + 54 : Nat) : Int)) - (b : Int) = 54 by omega, rg_s0z (by decide) (by decide)]
    show va_at G.1 rd_cl (r + (b + 54), .inr (3, [.int (rd_i 0), .ref (r + (((b + 54 : Nat) : Int) + 1).toNat), .ref (r + (((b + 54 : Nat) : Int) + 2).toNat)])) H
    rw [show (((b + 54 : Nat) : Int) + 1).toNat = b + 55 by omega, show (((b + 54 : Nat) : Int) + 2).toNat = b + 56 by omega]; exact hat
  · subst h
    rw [rg_u_n _ _ (by omega), rg_u_n _ _ (by omega), rg_u_n _ _ (by omega), rg_u_s] at hat
    unfold rg_B; rw [show (((b + 55 : Nat) : Int)) - (b : Int) = 55 by omega, rg_s0z (by decide) (by decide)]; exact hat
  · subst h
    rw [rg_u_n _ _ (by omega), rg_u_s] at hat
    unfold rg_B; rw [show (((b + 56 : Nat) : Int)) - (b : Int) = 56 by omega, rg_s0z (by decide) (by decide)]; exact hat
set_option maxHeartbeats 1000000 in
set_option maxRecDepth 100000 in
theorem c_X6_init {l : Launch} {G : rd_G} {r b : Nat} : rg_M l G yX6_init cX6_init 1 1 20 3 120 r (b + 57) 1 4 (fun _ => rg_e6) (rg_B G r b) := by
  refine rg_enter (by decide +kernel) (Nat.le_of_ble_eq_true rfl) [rd_R ((b + 57 : Nat) : Int)] rfl (fun p e s m args below meth c C hK hnm => ?_)
  refine rx_aload_n C dX6_init_0 rfl ?_
  refine rg_obj C rm_X6_3 ⟨Nat.le_of_ble_eq_true rfl, Nat.le_of_ble_eq_true rfl⟩ (Nat.le_of_ble_eq_true rfl) dX6_init_1 ?_
  refine rx_aload_n C dX6_init_4 rfl ?_
  refine rx_iconst C dX6_init_5 (n := -1) ⟨by decide, by decide⟩ ?_
  refine rg_putI C (fs := [.int (rd_i 0), .int (rd_i 0), .int (rd_i 0), .int (rd_i 0), .int (rd_i 0), .int (rd_i 0), .null, .null, .null]) rd_p6_0 rf_X6_9 trivial ⟨by omega, by omega⟩ rfl (Nat.le_of_ble_eq_true rfl) dX6_init_6 ?_
  refine rx_aload_n C dX6_init_9 rfl ?_
  refine rx_bipush C dX6_init_10 (n := 40) (by decide) ⟨by decide, by decide⟩ ?_
  refine rg_newa C (atype := .int) (t := 0) (N := 40) rfl rfl (fun h => h) rfl ra_int rfl (by decide) (by decide) (by omega) (Nat.le_of_ble_eq_true rfl) (Nat.le_of_ble_eq_true rfl) dX6_init_12 ?_
  refine rg_putF C hnm (fs := [.int (rd_i (-1)), .int (rd_i 0), .int (rd_i 0), .int (rd_i 0), .int (rd_i 0), .int (rd_i 0), .null, .null, .null]) rg_f6_6 rf_X6_15 ⟨by omega, by omega⟩ (by rw [rg_u_n _ _ (by omega), rg_u_s] <;> rfl) (Nat.le_of_ble_eq_true rfl) dX6_init_14 ?_
  refine rx_aload_n C dX6_init_17 rfl ?_
  refine rx_bipush C dX6_init_18 (n := 40) (by decide) ⟨by decide, by decide⟩ ?_
  refine rg_newa C (atype := .int) (t := 0) (N := 40) rfl rfl (fun h => h) rfl ra_int rfl (by decide) (by decide) (by omega) (Nat.le_of_ble_eq_true rfl) (Nat.le_of_ble_eq_true rfl) dX6_init_20 ?_
  refine rg_putF C hnm (fs := [.int (rd_i (-1)), .int (rd_i 0), .int (rd_i 0), .int (rd_i 0), .int (rd_i 0), .int (rd_i 0), .ref (r + (b + 58)), .null, .null]) rg_f6_7 rf_X6_19 ⟨by omega, by omega⟩ (by rw [rg_u_n _ _ (by omega), rg_u_s] <;> rfl) (Nat.le_of_ble_eq_true rfl) dX6_init_22 ?_
  refine rx_aload_n C dX6_init_25 rfl ?_
  refine rx_bipush C dX6_init_26 (n := 40) (by decide) ⟨by decide, by decide⟩ ?_
  refine rg_newa C (atype := .int) (t := 0) (N := 40) rfl rfl (fun h => h) rfl ra_int rfl (by decide) (by decide) (by omega) (Nat.le_of_ble_eq_true rfl) (Nat.le_of_ble_eq_true rfl) dX6_init_28 ?_
  refine rg_putF C hnm (fs := [.int (rd_i (-1)), .int (rd_i 0), .int (rd_i 0), .int (rd_i 0), .int (rd_i 0), .int (rd_i 0), .ref (r + (b + 58)), .ref (r + (b + 59)), .null]) rg_f6_8 rf_X6_22 ⟨by omega, by omega⟩ (by rw [rg_u_n _ _ (by omega), rg_u_s] <;> rfl) (Nat.le_of_ble_eq_true rfl) dX6_init_30 ?_
  refine rg_ret C (by omega) (Nat.le_of_ble_eq_true rfl) (Nat.le_of_ble_eq_true rfl) (fun H j j0 j1 hat => ?_) dX6_init_33
  rcases (show j = b + 57 ∨ j = b + 58 ∨ j = b + 59 ∨ j = b + 60 by omega) with h | h | h | h
  · subst h
    rw [rg_u_s] at hat
    unfold rg_B; rw [show (((b + 57 : Nat) : Int)) - (b : Int) = 57 by omega]
    show va_at G.1 rd_cl (r + (b + 57), .inr (6, [.int (rd_i (-1)), .int (rd_i 0), .int (rd_i 0), .int (rd_i 0), .int (rd_i 0), .int (rd_i 0), .ref (r + (((b + 57 : Nat) : Int) + 1).toNat), .ref (r + (((b + 57 : Nat) : Int) + 2).toNat), .ref (r + (((b + 57 : Nat) : Int) + 3).toNat)])) H
    rw [show (((b + 57 : Nat) : Int) + 1).toNat = b + 58 by omega, show (((b + 57 : Nat) : Int) + 2).toNat = b + 59 by omega, show (((b + 57 : Nat) : Int) + 3).toNat = b + 60 by omega]; exact hat
  · subst h
    rw [rg_u_n _ _ (by omega), rg_u_n _ _ (by omega), rg_u_n _ _ (by omega), rg_u_n _ _ (by omega), rg_u_n _ _ (by omega), rg_u_s] at hat
    unfold rg_B; rw [show (((b + 58 : Nat) : Int)) - (b : Int) = 58 by omega, rg_s0z (by decide) (by decide)]; exact hat
  · subst h
    rw [rg_u_n _ _ (by omega), rg_u_n _ _ (by omega), rg_u_n _ _ (by omega), rg_u_s] at hat
    unfold rg_B; rw [show (((b + 59 : Nat) : Int)) - (b : Int) = 59 by omega, rg_s0z (by decide) (by decide)]; exact hat
  · subst h
    rw [rg_u_n _ _ (by omega), rg_u_s] at hat
    unfold rg_B; rw [show (((b + 60 : Nat) : Int)) - (b : Int) = 60 by omega, rg_s0z (by decide) (by decide)]; exact hat
set_option maxHeartbeats 1000000 in
set_option maxRecDepth 100000 in
theorem c_X5_init {l : Launch} {G : rd_G} {r : Nat} : rg_M l G yX5_init cX5_init 1 1 20 1 60 r 308 1 2 (fun _ => rg_e5) (rg_C G r) := by
  refine rg_enter (by decide +kernel) (Nat.le_of_ble_eq_true rfl) [rd_R ((308 : Nat) : Int)] rfl (fun p e s m args below meth c C hK hnm => ?_)
  refine rx_aload_n C dX5_init_0 rfl ?_
  refine rg_obj C rm_X5_3 ⟨Nat.le_of_ble_eq_true rfl, Nat.le_of_ble_eq_true rfl⟩ (Nat.le_of_ble_eq_true rfl) dX5_init_1 ?_
  refine rx_aload_n C dX5_init_4 rfl ?_
  refine rx_bipush C dX5_init_5 (n := 60) (by decide) ⟨by decide, by decide⟩ ?_
  refine rg_newa C (atype := .char) (t := 1) (N := 60) rfl rfl (fun h => h) rfl ra_char rfl (by decide) (by decide) (by omega) (Nat.le_of_ble_eq_true rfl) (Nat.le_of_ble_eq_true rfl) dX5_init_7 ?_
  refine rg_putF C hnm (fs := [.int (rd_i 0), .null]) rg_f5_1 rf_X5_9 ⟨by omega, by omega⟩ (by rw [rg_u_n _ _ (by omega)] <;> rfl) (Nat.le_of_ble_eq_true rfl) dX5_init_9 ?_
  refine rg_ret C (by omega) (Nat.le_of_ble_eq_true rfl) (Nat.le_of_ble_eq_true rfl) (fun H j j0 j1 hat => ?_) dX5_init_12
  rcases (show j = 308 ∨ j = 309 by omega) with h | h
  · subst h
    rw [rg_u_s] at hat
    exact hat
  · subst h
    rw [rg_u_n _ _ (by omega), rg_u_s] at hat
    exact hat
set_option maxHeartbeats 1000000 in
set_option maxRecDepth 100000 in
theorem c_X4_init {l : Launch} {G : rd_G} {r : Nat} : rg_M l G yX4_init cX4_init 1 1 20 0 0 r 310 1 1 (fun _ => rg_e4) (rg_C G r) := by
  refine rg_enter (by decide +kernel) (Nat.le_of_ble_eq_true rfl) [rd_R ((310 : Nat) : Int)] rfl (fun p e s m args below meth c C hK hnm => ?_)
  refine rx_aload_n C dX4_init_0 rfl ?_
  refine rg_obj C rm_X4_3 ⟨Nat.le_of_ble_eq_true rfl, Nat.le_of_ble_eq_true rfl⟩ (Nat.le_of_ble_eq_true rfl) dX4_init_1 ?_
  refine rx_aload_n C dX4_init_4 rfl ?_
  refine rx_bipush C dX4_init_5 (n := -6) (by decide) ⟨by decide, by decide⟩ ?_
  refine rg_putI C (fs := [.int (rd_i 0), .int (rd_i 0), .int (rd_i 0), .int (rd_i 0)]) rd_p4_0 rf_X4_9 trivial ⟨by omega, by omega⟩ rfl (Nat.le_of_ble_eq_true rfl) dX4_init_7 ?_
  refine rx_aload_n C dX4_init_10 rfl ?_
  refine rx_bipush C dX4_init_11 (n := -6) (by decide) ⟨by decide, by decide⟩ ?_
  refine rg_putI C (fs := [.int (rd_i (-6)), .int (rd_i 0), .int (rd_i 0), .int (rd_i 0)]) rd_p4_1 rf_X4_15 trivial ⟨by omega, by omega⟩ (by rw [rg_u_s] <;> rfl) (Nat.le_of_ble_eq_true rfl) dX4_init_13 ?_
  refine rx_aload_n C dX4_init_16 rfl ?_
  refine rx_bipush C dX4_init_17 (n := -6) (by decide) ⟨by decide, by decide⟩ ?_
  refine rg_putI C (fs := [.int (rd_i (-6)), .int (rd_i (-6)), .int (rd_i 0), .int (rd_i 0)]) rd_p4_2 rf_X4_18 trivial ⟨by omega, by omega⟩ (by rw [rg_u_s] <;> rfl) (Nat.le_of_ble_eq_true rfl) dX4_init_19 ?_
  refine rx_aload_n C dX4_init_22 rfl ?_
  refine rx_bipush C dX4_init_23 (n := -6) (by decide) ⟨by decide, by decide⟩ ?_
  refine rg_putI C (fs := [.int (rd_i (-6)), .int (rd_i (-6)), .int (rd_i (-6)), .int (rd_i 0)]) rd_p4_3 rf_X4_21 trivial ⟨by omega, by omega⟩ (by rw [rg_u_s] <;> rfl) (Nat.le_of_ble_eq_true rfl) dX4_init_25 ?_
  refine rg_ret C (by omega) (Nat.le_of_ble_eq_true rfl) (Nat.le_of_ble_eq_true rfl) (fun H j j0 j1 hat => ?_) dX4_init_28
  rcases (show j = 310 by omega) with h
  · subst h
    rw [rg_u_s] at hat
    exact hat
set_option maxHeartbeats 1000000 in
set_option maxRecDepth 100000 in
theorem c_X1_init {l : Launch} {G : rd_G} {r : Nat} : rg_M l G yX1_init cX1_init 1 1 20 1 10 r 311 1 2 (fun _ => rg_e1) (rg_C G r) := by
  refine rg_enter (by decide +kernel) (Nat.le_of_ble_eq_true rfl) [rd_R ((311 : Nat) : Int)] rfl (fun p e s m args below meth c C hK hnm => ?_)
  refine rx_aload_n C dX1_init_0 rfl ?_
  refine rg_obj C rm_X1_3 ⟨Nat.le_of_ble_eq_true rfl, Nat.le_of_ble_eq_true rfl⟩ (Nat.le_of_ble_eq_true rfl) dX1_init_1 ?_
  refine rx_aload_n C dX1_init_4 rfl ?_
  refine rx_bipush C dX1_init_5 (n := 10) (by decide) ⟨by decide, by decide⟩ ?_
  refine rg_newa C (atype := .int) (t := 0) (N := 10) rfl rfl (fun h => h) rfl ra_int rfl (by decide) (by decide) (by omega) (Nat.le_of_ble_eq_true rfl) (Nat.le_of_ble_eq_true rfl) dX1_init_7 ?_
  refine rg_putF C hnm (fs := [.null]) rg_f1_0 rf_X1_9 ⟨by omega, by omega⟩ (by rw [rg_u_n _ _ (by omega)] <;> rfl) (Nat.le_of_ble_eq_true rfl) dX1_init_9 ?_
  refine rg_ret C (by omega) (Nat.le_of_ble_eq_true rfl) (Nat.le_of_ble_eq_true rfl) (fun H j j0 j1 hat => ?_) dX1_init_12
  rcases (show j = 311 ∨ j = 312 by omega) with h | h
  · subst h
    rw [rg_u_s] at hat
    exact hat
  · subst h
    rw [rg_u_n _ _ (by omega), rg_u_s] at hat
    exact hat
