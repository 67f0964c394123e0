theorem rd_kcl0 : rd_KC 0 RX0 := fun G r f k => ⟨_, _, _, rfl, rfl, rfl⟩
theorem rd_g0_0 : rd_GF 0 0 0 RX0 TX0 3 (fun f _ => rd_I (f 0)) := ⟨rfl, by decide, ru_X0, fun G r f k => ⟨_, rfl, rfl⟩⟩
theorem rd_p0_0 : rd_PF 0 0 0 RX0 TX0 3 0 (fun _ => True) := ⟨rfl, by decide, ru_X0, fun G r f k z => ⟨_, rfl, Nat.le_of_ble_eq_true rfl, by simp [rd_cell, rd_uf]⟩, ⟨tyX0, tyX0_ok⟩, nmX0, rfl, .int, tyX0_ok 0 (by decide), rd_ni⟩
theorem rd_g0_1 : rd_GF 0 1 0 RX0 TX0 3 (fun _ k => rd_R (k + 1)) := ⟨rfl, by decide, ru_X0, fun G r f k => ⟨_, rfl, rfl⟩⟩
theorem rd_g0_2 : rd_GF 0 2 0 RX0 TX0 3 (fun _ k => rd_R (k + 2)) := ⟨rfl, by decide, ru_X0, fun G r f k => ⟨_, rfl, rfl⟩⟩
theorem rd_kcl1 : rd_KC 1 RX1 := fun G r f k => ⟨_, _, _, rfl, rfl, rfl⟩
theorem rd_g1_0 : rd_GF 1 0 1 RX1 TX1 1 (fun _ k => rd_R (k + 1)) := ⟨rfl, by decide, ru_X1, fun G r f k => ⟨_, rfl, rfl⟩⟩
theorem rd_kcl2 : rd_KC 2 RX2 := fun G r f k => ⟨_, _, _, rfl, rfl, rfl⟩
theorem rd_g2_0 : rd_GF 2 0 2 RX2 TX2 2 (fun f _ => rd_I (f 0)) := ⟨rfl, by decide, ru_X2, fun G r f k => ⟨_, rfl, rfl⟩⟩
theorem rd_p2_0 : rd_PF 2 0 2 RX2 TX2 2 0 (fun _ => True) := ⟨rfl, by decide, ru_X2, fun G r f k z => ⟨_, rfl, Nat.le_of_ble_eq_true rfl, by simp [rd_cell, rd_uf]⟩, ⟨tyX2, tyX2_ok⟩, nmX2, rfl, .int, tyX2_ok 0 (by decide), rd_ni⟩
theorem rd_g2_1 : rd_GF 2 1 2 RX2 TX2 2 (fun _ k => rd_R (k + 1)) := ⟨rfl, by decide, ru_X2, fun G r f k => ⟨_, rfl, rfl⟩⟩
theorem rd_kcl3 : rd_KC 3 RX3 := fun G r f k => ⟨_, _, _, rfl, rfl, rfl⟩
theorem rd_g3_0 : rd_GF 3 0 3 RX3 TX3 3 (fun f _ => rd_I (f 0)) := ⟨rfl, by decide, ru_X3, fun G r f k => ⟨_, rfl, rfl⟩⟩
theorem rd_p3_0 : rd_PF 3 0 3 RX3 TX3 3 0 (fun _ => True) := ⟨rfl, by decide, ru_X3, fun G r f k z => ⟨_, rfl, Nat.le_of_ble_eq_true rfl, by simp [rd_cell, rd_uf]⟩, ⟨tyX3, tyX3_ok⟩, nmX3, rfl, .int, tyX3_ok 0 (by decide), rd_ni⟩
theorem rd_g3_1 : rd_GF 3 1 3 RX3 TX3 3 (fun _ k => rd_R (k + 1)) := ⟨rfl, by decide, ru_X3, fun G r f k => ⟨_, rfl, rfl⟩⟩
theorem rd_g3_2 : rd_GF 3 2 3 RX3 TX3 3 (fun _ k => rd_R (k + 2)) := ⟨rfl, by decide, ru_X3, fun G r f k => ⟨_, rfl, rfl⟩⟩
theorem rd_kcl4 : rd_KC 4 RX4 := fun G r f k => ⟨_, _, _, rfl, rfl, rfl⟩
theorem rd_g4_0 : rd_GF 4 0 4 RX4 TX4 4 (fun f _ => rd_I (f 0)) := ⟨rfl, by decide, ru_X4, fun G r f k => ⟨_, rfl, rfl⟩⟩
theorem rd_p4_0 : rd_PF 4 0 4 RX4 TX4 4 0 (fun _ => True) := ⟨rfl, by decide, ru_X4, fun G r f k z => ⟨_, rfl, Nat.le_of_ble_eq_true rfl, by simp [rd_cell, rd_uf]⟩, ⟨tyX4, tyX4_ok⟩, nmX4, rfl, .int, tyX4_ok 0 (by decide), rd_ni⟩
theorem rd_g4_1 : rd_GF 4 1 4 RX4 TX4 4 (fun f _ => rd_I (f 1)) := ⟨rfl, by decide, ru_X4, fun G r f k => ⟨_, rfl, rfl⟩⟩
theorem rd_p4_1 : rd_PF 4 1 4 RX4 TX4 4 1 (fun _ => True) := ⟨rfl, by decide, ru_X4, fun G r f k z => ⟨_, rfl, Nat.le_of_ble_eq_true rfl, by simp [rd_cell, rd_uf]⟩, ⟨tyX4, tyX4_ok⟩, nmX4, rfl, .int, tyX4_ok 1 (by decide), rd_ni⟩
theorem rd_g4_2 : rd_GF 4 2 4 RX4 TX4 4 (fun f _ => rd_I (f 2)) := ⟨rfl, by decide, ru_X4, fun G r f k => ⟨_, rfl, rfl⟩⟩
theorem rd_p4_2 : rd_PF 4 2 4 RX4 TX4 4 2 (fun _ => True) := ⟨rfl, by decide, ru_X4, fun G r f k z => ⟨_, rfl, Nat.le_of_ble_eq_true rfl, by simp [rd_cell, rd_uf]⟩, ⟨tyX4, tyX4_ok⟩, nmX4, rfl, .int, tyX4_ok 2 (by decide), rd_ni⟩
theorem rd_g4_3 : rd_GF 4 3 4 RX4 TX4 4 (fun f _ => rd_I (f 3)) := ⟨rfl, by decide, ru_X4, fun G r f k => ⟨_, rfl, rfl⟩⟩
theorem rd_p4_3 : rd_PF 4 3 4 RX4 TX4 4 3 (fun _ => True) := ⟨rfl, by decide, ru_X4, fun G r f k z => ⟨_, rfl, Nat.le_of_ble_eq_true rfl, by simp [rd_cell, rd_uf]⟩, ⟨tyX4, tyX4_ok⟩, nmX4, rfl, .int, tyX4_ok 3 (by decide), rd_ni⟩
theorem rd_kcl5 : rd_KC 5 RX5 := fun G r f k => ⟨_, _, _, rfl, rfl, rfl⟩
theorem rd_g5_0 : rd_GF 5 0 5 RX5 TX5 2 (fun f _ => rd_I (f 0)) := ⟨rfl, by decide, ru_X5, fun G r f k => ⟨_, rfl, rfl⟩⟩
theorem rd_p5_0 : rd_PF 5 0 5 RX5 TX5 2 0 (fun _ => True) := ⟨rfl, by decide, ru_X5, fun G r f k z => ⟨_, rfl, Nat.le_of_ble_eq_true rfl, by simp [rd_cell, rd_uf]⟩, ⟨tyX5, tyX5_ok⟩, nmX5, rfl, .int, tyX5_ok 0 (by decide), rd_ni⟩
theorem rd_g5_1 : rd_GF 5 1 5 RX5 TX5 2 (fun _ k => rd_R (k + 1)) := ⟨rfl, by decide, ru_X5, fun G r f k => ⟨_, rfl, rfl⟩⟩
theorem rd_kcl6 : rd_KC 6 RX6 := fun G r f k => ⟨_, _, _, rfl, rfl, rfl⟩
theorem rd_g6_0 : rd_GF 6 0 6 RX6 TX6 9 (fun f _ => rd_I (f 0)) := ⟨rfl, by decide, ru_X6, fun G r f k => ⟨_, rfl, rfl⟩⟩
theorem rd_p6_0 : rd_PF 6 0 6 RX6 TX6 9 0 (fun _ => True) := ⟨rfl, by decide, ru_X6, fun G r f k z => ⟨_, rfl, Nat.le_of_ble_eq_true rfl, by simp [rd_cell, rd_uf]⟩, ⟨tyX6, tyX6_ok⟩, nmX6, rfl, .int, tyX6_ok 0 (by decide), rd_ni⟩
theorem rd_g6_1 : rd_GF 6 1 6 RX6 TX6 9 (fun f _ => rd_I (f 1)) := ⟨rfl, by decide, ru_X6, fun G r f k => ⟨_, rfl, rfl⟩⟩
theorem rd_p6_1 : rd_PF 6 1 6 RX6 TX6 9 1 (fun _ => True) := ⟨rfl, by decide, ru_X6, fun G r f k z => ⟨_, rfl, Nat.le_of_ble_eq_true rfl, by simp [rd_cell, rd_uf]⟩, ⟨tyX6, tyX6_ok⟩, nmX6, rfl, .int, tyX6_ok 1 (by decide), rd_ni⟩
theorem rd_g6_2 : rd_GF 6 2 6 RX6 TX6 9 (fun f _ => rd_I (f 2)) := ⟨rfl, by decide, ru_X6, fun G r f k => ⟨_, rfl, rfl⟩⟩
theorem rd_p6_2 : rd_PF 6 2 6 RX6 TX6 9 2 (fun _ => True) := ⟨rfl, by decide, ru_X6, fun G r f k z => ⟨_, rfl, Nat.le_of_ble_eq_true rfl, by simp [rd_cell, rd_uf]⟩, ⟨tyX6, tyX6_ok⟩, nmX6, rfl, .int, tyX6_ok 2 (by decide), rd_ni⟩
theorem rd_g6_3 : rd_GF 6 3 6 RX6 TX6 9 (fun f _ => rd_I (f 3)) := ⟨rfl, by decide, ru_X6, fun G r f k => ⟨_, rfl, rfl⟩⟩
theorem rd_p6_3 : rd_PF 6 3 6 RX6 TX6 9 3 (fun _ => True) := ⟨rfl, by decide, ru_X6, fun G r f k z => ⟨_, rfl, Nat.le_of_ble_eq_true rfl, by simp [rd_cell, rd_uf]⟩, ⟨tyX6, tyX6_ok⟩, nmX6, rfl, .int, tyX6_ok 3 (by decide), rd_ni⟩
theorem rd_g6_4 : rd_GF 6 4 6 RX6 TX6 9 (fun f _ => rd_I (f 4)) := ⟨rfl, by decide, ru_X6, fun G r f k => ⟨_, rfl, rfl⟩⟩
theorem rd_p6_4 : rd_PF 6 4 6 RX6 TX6 9 4 (fun _ => True) := ⟨rfl, by decide, ru_X6, fun G r f k z => ⟨_, rfl, Nat.le_of_ble_eq_true rfl, by simp [rd_cell, rd_uf]⟩, ⟨tyX6, tyX6_ok⟩, nmX6, rfl, .int, tyX6_ok 4 (by decide), rd_ni⟩
theorem rd_g6_5 : rd_GF 6 5 6 RX6 TX6 9 (fun f _ => rd_I (f 5)) := ⟨rfl, by decide, ru_X6, fun G r f k => ⟨_, rfl, rfl⟩⟩
theorem rd_p6_5 : rd_PF 6 5 6 RX6 TX6 9 5 (fun _ => True) := ⟨rfl, by decide, ru_X6, fun G r f k z => ⟨_, rfl, Nat.le_of_ble_eq_true rfl, by simp [rd_cell, rd_uf]⟩, ⟨tyX6, tyX6_ok⟩, nmX6, rfl, .int, tyX6_ok 5 (by decide), rd_ni⟩
theorem rd_g6_6 : rd_GF 6 6 6 RX6 TX6 9 (fun _ k => rd_R (k + 1)) := ⟨rfl, by decide, ru_X6, fun G r f k => ⟨_, rfl, rfl⟩⟩
theorem rd_g6_7 : rd_GF 6 7 6 RX6 TX6 9 (fun _ k => rd_R (k + 2)) := ⟨rfl, by decide, ru_X6, fun G r f k => ⟨_, rfl, rfl⟩⟩
theorem rd_g6_8 : rd_GF 6 8 6 RX6 TX6 9 (fun _ k => rd_R (k + 3)) := ⟨rfl, by decide, ru_X6, fun G r f k => ⟨_, rfl, rfl⟩⟩
theorem rd_kcl7 : rd_KC 7 RX7 := fun G r f k => ⟨_, _, _, rfl, rfl, rfl⟩
theorem rd_g7_0 : rd_GF 7 0 7 RX7 TX7 8 (fun f _ => rd_I (f 0)) := ⟨rfl, by decide, ru_X7, fun G r f k => ⟨_, rfl, rfl⟩⟩
theorem rd_p7_0 : rd_PF 7 0 7 RX7 TX7 8 0 (fun z => z = 0 ∨ z = 1) := ⟨rfl, by decide, ru_X7, fun G r f k z => ⟨_, rfl, Nat.le_of_ble_eq_true rfl, by simp [rd_cell, rd_uf]⟩, ⟨tyX7, tyX7_ok⟩, nmX7, rfl, .boolean, tyX7_ok 0 (by decide), fun _ h => rd_nb h⟩
theorem rd_g7_1 : rd_GF 7 1 7 RX7 TX7 8 (fun f _ => rd_I (f 1)) := ⟨rfl, by decide, ru_X7, fun G r f k => ⟨_, rfl, rfl⟩⟩
theorem rd_p7_1 : rd_PF 7 1 7 RX7 TX7 8 1 (fun z => z = 0 ∨ z = 1) := ⟨rfl, by decide, ru_X7, fun G r f k z => ⟨_, rfl, Nat.le_of_ble_eq_true rfl, by simp [rd_cell, rd_uf]⟩, ⟨tyX7, tyX7_ok⟩, nmX7, rfl, .boolean, tyX7_ok 1 (by decide), fun _ h => rd_nb h⟩
theorem rd_g7_2 : rd_GF 7 2 7 RX7 TX7 8 (fun f _ => rd_I (f 2)) := ⟨rfl, by decide, ru_X7, fun G r f k => ⟨_, rfl, rfl⟩⟩
theorem rd_p7_2 : rd_PF 7 2 7 RX7 TX7 8 2 (fun _ => True) := ⟨rfl, by decide, ru_X7, fun G r f k z => ⟨_, rfl, Nat.le_of_ble_eq_true rfl, by simp [rd_cell, rd_uf]⟩, ⟨tyX7, tyX7_ok⟩, nmX7, rfl, .int, tyX7_ok 2 (by decide), rd_ni⟩
theorem rd_g7_3 : rd_GF 7 3 7 RX7 TX7 8 (fun f _ => rd_I (f 3)) := ⟨rfl, by decide, ru_X7, fun G r f k => ⟨_, rfl, rfl⟩⟩
theorem rd_p7_3 : rd_PF 7 3 7 RX7 TX7 8 3 (fun _ => True) := ⟨rfl, by decide, ru_X7, fun G r f k z => ⟨_, rfl, Nat.le_of_ble_eq_true rfl, by simp [rd_cell, rd_uf]⟩, ⟨tyX7, tyX7_ok⟩, nmX7, rfl, .int, tyX7_ok 3 (by decide), rd_ni⟩
theorem rd_g7_4 : rd_GF 7 4 7 RX7 TX7 8 (fun _ k => rd_R (k + 1)) := ⟨rfl, by decide, ru_X7, fun G r f k => ⟨_, rfl, rfl⟩⟩
theorem rd_g7_5 : rd_GF 7 5 7 RX7 TX7 8 (fun _ k => rd_R (k + 2)) := ⟨rfl, by decide, ru_X7, fun G r f k => ⟨_, rfl, rfl⟩⟩
theorem rd_g7_6 : rd_GF 7 6 7 RX7 TX7 8 (fun _ k => rd_R (k + 3)) := ⟨rfl, by decide, ru_X7, fun G r f k => ⟨_, rfl, rfl⟩⟩
theorem rd_g7_7 : rd_GF 7 7 7 RX7 TX7 8 (fun _ k => rd_R (k + 4)) := ⟨rfl, by decide, ru_X7, fun G r f k => ⟨_, rfl, rfl⟩⟩
theorem rd_kcl8 : rd_KC 8 RX8 := fun G r f k => ⟨_, _, _, rfl, rfl, rfl⟩
theorem rd_g8_0 : rd_GF 8 0 8 RX8 TX8 4 (fun f _ => rd_I (f 0)) := ⟨rfl, by decide, ru_X8, fun G r f k => ⟨_, rfl, rfl⟩⟩
theorem rd_p8_0 : rd_PF 8 0 8 RX8 TX8 4 0 (fun _ => True) := ⟨rfl, by decide, ru_X8, fun G r f k z => ⟨_, rfl, Nat.le_of_ble_eq_true rfl, by simp [rd_cell, rd_uf]⟩, ⟨tyX8, tyX8_ok⟩, nmX8, rfl, .int, tyX8_ok 0 (by decide), rd_ni⟩
theorem rd_g8_1 : rd_GF 8 1 8 RX8 TX8 4 (fun _ k => rd_R (k + 1)) := ⟨rfl, by decide, ru_X8, fun G r f k => ⟨_, rfl, rfl⟩⟩
theorem rd_g8_2 : rd_GF 8 2 8 RX8 TX8 4 (fun _ k => rd_R (k + 54)) := ⟨rfl, by decide, ru_X8, fun G r f k => ⟨_, rfl, rfl⟩⟩
theorem rd_g8_3 : rd_GF 8 3 8 RX8 TX8 4 (fun _ k => rd_R (k + 57)) := ⟨rfl, by decide, ru_X8, fun G r f k => ⟨_, rfl, rfl⟩⟩
theorem rd_kcl9 : rd_KC 9 RX9 := fun G r f k => ⟨_, _, _, rfl, rfl, rfl⟩
theorem rd_g9_0 : rd_GF 9 0 9 RX9 TX9 5 (fun _ k => rd_R (k + 1)) := ⟨rfl, by decide, ru_X9, fun G r f k => ⟨_, rfl, rfl⟩⟩
theorem rd_g9_1 : rd_GF 9 1 9 RX9 TX9 5 (fun _ k => rd_R (k + 62)) := ⟨rfl, by decide, ru_X9, fun G r f k => ⟨_, rfl, rfl⟩⟩
theorem rd_g9_2 : rd_GF 9 2 9 RX9 TX9 5 (fun _ k => rd_R (k + 308)) := ⟨rfl, by decide, ru_X9, fun G r f k => ⟨_, rfl, rfl⟩⟩
theorem rd_g9_3 : rd_GF 9 3 9 RX9 TX9 5 (fun _ k => rd_R (k + 310)) := ⟨rfl, by decide, ru_X9, fun G r f k => ⟨_, rfl, rfl⟩⟩
theorem rd_g9_4 : rd_GF 9 4 9 RX9 TX9 5 (fun _ k => rd_R (k + 311)) := ⟨rfl, by decide, ru_X9, fun G r f k => ⟨_, rfl, rfl⟩⟩
theorem rd_ai11 : rd_AI 11 10 := fun G r f k => rfl
theorem rd_al11 : ∀ (G : rd_G) (r : Nat) (f : Int → Int) (k : Int), ∃ (t : Nat) (a : ClassId) (ty : FieldType) (x : vp_A), rd_cell G r f k 11 = .inl (a, x) ∧ x.1 = 10 ∧ (rd_tys G)[t]? = some (a, ty) := fun G r f k => ⟨0, _, _, _, rfl, rfl, rfl⟩
theorem rd_ai12 : rd_AI 12 6 := fun G r f k => rfl
theorem rd_al12 : ∀ (G : rd_G) (r : Nat) (f : Int → Int) (k : Int), ∃ (t : Nat) (a : ClassId) (ty : FieldType) (x : vp_A), rd_cell G r f k 12 = .inl (a, x) ∧ x.1 = 6 ∧ (rd_tys G)[t]? = some (a, ty) := fun G r f k => ⟨0, _, _, _, rfl, rfl, rfl⟩
theorem rd_ai13 : rd_AI 13 8 := fun G r f k => rfl
theorem rd_al13 : ∀ (G : rd_G) (r : Nat) (f : Int → Int) (k : Int), ∃ (t : Nat) (a : ClassId) (ty : FieldType) (x : vp_A), rd_cell G r f k 13 = .inl (a, x) ∧ x.1 = 8 ∧ (rd_tys G)[t]? = some (a, ty) := fun G r f k => ⟨0, _, _, _, rfl, rfl, rfl⟩
theorem rd_ai14 : rd_AI 14 40 := fun G r f k => rfl
theorem rd_al14 : ∀ (G : rd_G) (r : Nat) (f : Int → Int) (k : Int), ∃ (t : Nat) (a : ClassId) (ty : FieldType) (x : vp_A), rd_cell G r f k 14 = .inl (a, x) ∧ x.1 = 40 ∧ (rd_tys G)[t]? = some (a, ty) := fun G r f k => ⟨0, _, _, _, rfl, rfl, rfl⟩
theorem rd_ai18 : rd_AI 18 2380 := fun G r f k => rfl
theorem rd_al18 : ∀ (G : rd_G) (r : Nat) (f : Int → Int) (k : Int), ∃ (t : Nat) (a : ClassId) (ty : FieldType) (x : vp_A), rd_cell G r f k 18 = .inl (a, x) ∧ x.1 = 2380 ∧ (rd_tys G)[t]? = some (a, ty) := fun G r f k => ⟨0, _, _, _, rfl, rfl, rfl⟩
theorem rd_ai19 : rd_AI 19 60 := fun G r f k => rfl
theorem rd_al19 : ∀ (G : rd_G) (r : Nat) (f : Int → Int) (k : Int), ∃ (t : Nat) (a : ClassId) (ty : FieldType) (x : vp_A), rd_cell G r f k 19 = .inl (a, x) ∧ x.1 = 60 ∧ (rd_tys G)[t]? = some (a, ty) := fun G r f k => ⟨0, _, _, _, rfl, rfl, rfl⟩
theorem rd_ai20 : rd_AI 20 4 := fun G r f k => rfl
theorem rd_al20 : ∀ (G : rd_G) (r : Nat) (f : Int → Int) (k : Int), ∃ (t : Nat) (a : ClassId) (ty : FieldType) (x : vp_A), rd_cell G r f k 20 = .inl (a, x) ∧ x.1 = 4 ∧ (rd_tys G)[t]? = some (a, ty) := fun G r f k => ⟨0, _, _, _, rfl, rfl, rfl⟩
theorem rd_ai21 : rd_AI 21 100 := fun G r f k => rfl
theorem rd_al21 : ∀ (G : rd_G) (r : Nat) (f : Int → Int) (k : Int), ∃ (t : Nat) (a : ClassId) (ty : FieldType) (x : vp_A), rd_cell G r f k 21 = .inl (a, x) ∧ x.1 = 100 ∧ (rd_tys G)[t]? = some (a, ty) := fun G r f k => ⟨0, _, _, _, rfl, rfl, rfl⟩
theorem rd_al15 : ∀ (G : rd_G) (r : Nat) (f : Int → Int) (k : Int), ∃ (t : Nat) (a : ClassId) (ty : FieldType) (x : vp_A), rd_cell G r f k 15 = .inl (a, x) ∧ x.1 = 60 ∧ (rd_tys G)[t]? = some (a, ty) := fun G r f k => ⟨1, _, _, _, rfl, rfl, rfl⟩
theorem rd_al16 : ∀ (G : rd_G) (r : Nat) (f : Int → Int) (k : Int), ∃ (t : Nat) (a : ClassId) (ty : FieldType) (x : vp_A), rd_cell G r f k 16 = .inl (a, x) ∧ x.1 = 10 ∧ (rd_tys G)[t]? = some (a, ty) := fun G r f k => ⟨2, _, _, _, rfl, rfl, rfl⟩
theorem rd_al17 : ∀ (G : rd_G) (r : Nat) (f : Int → Int) (k : Int), ∃ (t : Nat) (a : ClassId) (ty : FieldType) (x : vp_A), rd_cell G r f k 17 = .inl (a, x) ∧ x.1 = 4 ∧ (rd_tys G)[t]? = some (a, ty) := fun G r f k => ⟨3, _, _, _, rfl, rfl, rfl⟩
/-! which cell is what: the class's block of 313, the check's of 5 -/
def rd_kb (p : Int) : Nat := if p = 0 then 8 else if p = 1 then 0 else if p = 2 then 11 else if p = 3 then 16 else if p < 54 then (if (p - 4) % 5 = 0 then 7 else if (p - 4) % 5 = 4 then 11 else 12) else if p = 54 then 3 else if p < 57 then 13 else if p = 57 then 6 else 14
def rd_kc (k : Int) : Nat := if k = 0 then 9 else if k < 62 then rd_kb (k - 1) else if k = 62 then 2 else if k = 63 then 17 else if k < 308 then rd_kb ((k - 64) % 61) else if k = 308 then 5 else if k = 309 then 15 else if k = 310 then 4 else if k = 311 then 1 else 11
def rd_km (k : Int) : Nat := if k = 0 then 10 else if k = 1 then 18 else if k = 2 then 19 else if k = 3 then 20 else 21
def rd_isS (kd : Int → Nat) (N : Nat) (o : Int) : Prop := (0 ≤ o ∧ o < N) ∧ (0 ≤ o + 1 ∧ o + 1 < N) ∧ (0 ≤ o + 2 ∧ o + 2 < N) ∧ (0 ≤ o + 3 ∧ o + 3 < N) ∧ (0 ≤ o + 4 ∧ o + 4 < N) ∧ kd o = 7 ∧ kd (o + 1) = 12 ∧ kd (o + 2) = 12 ∧ kd (o + 3) = 12 ∧ kd (o + 4) = 11
/-- the blocks of the states: 1 is the present one, 64 + 61 t the kept ones -/
def rd_isB (b : Int) : Prop := b = 1 ∨ b = 64 ∨ b = 125 ∨ b = 186 ∨ b = 247
theorem rd_slB {b i : Int} (hb : rd_isB b) (h0 : 0 ≤ i) (h1 : i < 10) : rd_isS rd_kc 313 (b + 4 + 5 * i) := by
  have hi : i = 0 ∨ i = 1 ∨ i = 2 ∨ i = 3 ∨ i = 4 ∨ i = 5 ∨ i = 6 ∨ i = 7 ∨ i = 8 ∨ i = 9 := by omega
  unfold rd_isB at hb
  unfold rd_isS
  refine ⟨⟨by omega, by omega⟩, ⟨by omega, by omega⟩, ⟨by omega, by omega⟩, ⟨by omega, by omega⟩, ⟨by omega, by omega⟩, ?_⟩
  rcases hb with rfl | rfl | rfl | rfl | rfl <;> rcases hi with rfl | rfl | rfl | rfl | rfl | rfl | rfl | rfl | rfl | rfl <;> decide
theorem rd_sl1 {i : Int} (h0 : 0 ≤ i) (h1 : i < 10) : rd_isS rd_kc 313 (5 + 5 * i) := rd_slB (b := 1) (Or.inl rfl) h0 h1
def rd_isT (b : Int) : Prop := (0 ≤ b ∧ b + 60 < ((313 : Nat) : Int)) ∧ rd_kc b = 8 ∧ rd_kc (b + 1) = 0 ∧ rd_kc (b + 2) = 11 ∧ rd_kc (b + 3) = 16 ∧ rd_kc (b + 54) = 3 ∧ rd_kc (b + 55) = 13 ∧ rd_kc (b + 56) = 13 ∧ rd_kc (b + 57) = 6 ∧ rd_kc (b + 58) = 14 ∧ rd_kc (b + 59) = 14 ∧ rd_kc (b + 60) = 14
theorem rd_isB.t {b : Int} (hb : rd_isB b) : rd_isT b := by
  unfold rd_isB at hb; unfold rd_isT
  rcases hb with rfl | rfl | rfl | rfl | rfl <;> decide

theorem rd_b0 : (0 : Int) ≤ 0 ∧ (0 : Int) < ((313 : Nat) : Int) := by decide
theorem rd_k0 : rd_kc 0 = 9 := by decide
theorem rd_b1 : (0 : Int) ≤ 1 ∧ (1 : Int) < ((313 : Nat) : Int) := by decide
theorem rd_k1 : rd_kc 1 = 8 := by decide
theorem rd_b2 : (0 : Int) ≤ 2 ∧ (2 : Int) < ((313 : Nat) : Int) := by decide
theorem rd_k2 : rd_kc 2 = 0 := by decide
theorem rd_b3 : (0 : Int) ≤ 3 ∧ (3 : Int) < ((313 : Nat) : Int) := by decide
theorem rd_k3 : rd_kc 3 = 11 := by decide
theorem rd_b4 : (0 : Int) ≤ 4 ∧ (4 : Int) < ((313 : Nat) : Int) := by decide
theorem rd_k4 : rd_kc 4 = 16 := by decide
theorem rd_b55 : (0 : Int) ≤ 55 ∧ (55 : Int) < ((313 : Nat) : Int) := by decide
theorem rd_k55 : rd_kc 55 = 3 := by decide
theorem rd_b56 : (0 : Int) ≤ 56 ∧ (56 : Int) < ((313 : Nat) : Int) := by decide
theorem rd_k56 : rd_kc 56 = 13 := by decide
theorem rd_b57 : (0 : Int) ≤ 57 ∧ (57 : Int) < ((313 : Nat) : Int) := by decide
theorem rd_k57 : rd_kc 57 = 13 := by decide
theorem rd_b58 : (0 : Int) ≤ 58 ∧ (58 : Int) < ((313 : Nat) : Int) := by decide
theorem rd_k58 : rd_kc 58 = 6 := by decide
theorem rd_b59 : (0 : Int) ≤ 59 ∧ (59 : Int) < ((313 : Nat) : Int) := by decide
theorem rd_k59 : rd_kc 59 = 14 := by decide
theorem rd_b60 : (0 : Int) ≤ 60 ∧ (60 : Int) < ((313 : Nat) : Int) := by decide
theorem rd_k60 : rd_kc 60 = 14 := by decide
theorem rd_b61 : (0 : Int) ≤ 61 ∧ (61 : Int) < ((313 : Nat) : Int) := by decide
theorem rd_k61 : rd_kc 61 = 14 := by decide
theorem rd_b62 : (0 : Int) ≤ 62 ∧ (62 : Int) < ((313 : Nat) : Int) := by decide
theorem rd_k62 : rd_kc 62 = 2 := by decide
theorem rd_b63 : (0 : Int) ≤ 63 ∧ (63 : Int) < ((313 : Nat) : Int) := by decide
theorem rd_k63 : rd_kc 63 = 17 := by decide
theorem rd_b308 : (0 : Int) ≤ 308 ∧ (308 : Int) < ((313 : Nat) : Int) := by decide
theorem rd_k308 : rd_kc 308 = 5 := by decide
theorem rd_b309 : (0 : Int) ≤ 309 ∧ (309 : Int) < ((313 : Nat) : Int) := by decide
theorem rd_k309 : rd_kc 309 = 15 := by decide
theorem rd_b310 : (0 : Int) ≤ 310 ∧ (310 : Int) < ((313 : Nat) : Int) := by decide
theorem rd_k310 : rd_kc 310 = 4 := by decide
theorem rd_b311 : (0 : Int) ≤ 311 ∧ (311 : Int) < ((313 : Nat) : Int) := by decide
theorem rd_k311 : rd_kc 311 = 1 := by decide
theorem rd_b312 : (0 : Int) ≤ 312 ∧ (312 : Int) < ((313 : Nat) : Int) := by decide
theorem rd_k312 : rd_kc 312 = 11 := by decide
theorem rd_c0 : (0 : Int) ≤ 0 ∧ (0 : Int) < ((5 : Nat) : Int) := by decide
theorem rd_m0 : rd_km 0 = 10 := by decide
theorem rd_c1 : (0 : Int) ≤ 1 ∧ (1 : Int) < ((5 : Nat) : Int) := by decide
theorem rd_m1 : rd_km 1 = 18 := by decide
theorem rd_c2 : (0 : Int) ≤ 2 ∧ (2 : Int) < ((5 : Nat) : Int) := by decide
theorem rd_m2 : rd_km 2 = 19 := by decide
theorem rd_c3 : (0 : Int) ≤ 3 ∧ (3 : Int) < ((5 : Nat) : Int) := by decide
theorem rd_m3 : rd_km 3 = 20 := by decide
theorem rd_c4 : (0 : Int) ≤ 4 ∧ (4 : Int) < ((5 : Nat) : Int) := by decide
theorem rd_m4 : rd_km 4 = 21 := by decide

