set_option maxHeartbeats 1000000 in
set_option maxRecDepth 100000 in
theorem c_X7_clear0 {l : Launch} {G : rd_G} {r k : Nat} : rg_M l G yX7_clear cX7_clear 2 0 0 0 0 r k 5 5 (rg_S G r k 0) (rg_S G r k 10) := by
  refine rg_enter (by decide +kernel) (Nat.le_of_ble_eq_true rfl) [rd_R (k : Int), rd_J] rfl (fun p e s m args below meth c C hK hnm => ?_)
  have h7 : rg_S G r k 0 k = .inr (7, [.int (rd_i 0), .int (rd_i 0), .int (rd_i 0), .int (rd_i 0), .ref (r + (k + 1)), .ref (r + (k + 2)), .ref (r + (k + 3)), .ref (r + (k + 4))]) := by unfold rg_S; rw [if_pos rfl]
  refine rx_aload_n C dX7_clear_0 rfl ?_
  refine rx_iconst C dX7_clear_1 (n := 0) ⟨by decide, by decide⟩ ?_
  refine rg_putI C (fs := [.int (rd_i 0), .int (rd_i 0), .int (rd_i 0), .int (rd_i 0), .ref (r + (k + 1)), .ref (r + (k + 2)), .ref (r + (k + 3)), .ref (r + (k + 4))]) rd_p7_0 rf_X7_24 (Or.inl rfl) ⟨by omega, by omega⟩ h7 (Nat.le_of_ble_eq_true rfl) dX7_clear_2 ?_
  refine rx_aload_n C dX7_clear_5 rfl ?_
  refine rx_iconst C dX7_clear_6 (n := 0) ⟨by decide, by decide⟩ ?_
  refine rg_putI C (fs := [.int (rd_i 0), .int (rd_i 0), .int (rd_i 0), .int (rd_i 0), .ref (r + (k + 1)), .ref (r + (k + 2)), .ref (r + (k + 3)), .ref (r + (k + 4))]) rd_p7_1 rf_X7_28 (Or.inl rfl) ⟨by omega, by omega⟩ (rg_u_s _ _ _) (Nat.le_of_ble_eq_true rfl) dX7_clear_7 ?_
  refine rx_aload_n C dX7_clear_10 rfl ?_
  refine rx_iconst C dX7_clear_11 (n := 0) ⟨by decide, by decide⟩ ?_
  refine rg_putI C (fs := [.int (rd_i 0), .int (rd_i 0), .int (rd_i 0), .int (rd_i 0), .ref (r + (k + 1)), .ref (r + (k + 2)), .ref (r + (k + 3)), .ref (r + (k + 4))]) rd_p7_2 rf_X7_31 trivial ⟨by omega, by omega⟩ (rg_u_s _ _ _) (Nat.le_of_ble_eq_true rfl) dX7_clear_12 ?_
  refine rx_aload_n C dX7_clear_15 rfl ?_
  refine rx_iconst C dX7_clear_16 (n := 0) ⟨by decide, by decide⟩ ?_
  refine rg_putI C (fs := [.int (rd_i 0), .int (rd_i 0), .int (rd_i 0), .int (rd_i 0), .ref (r + (k + 1)), .ref (r + (k + 2)), .ref (r + (k + 3)), .ref (r + (k + 4))]) rd_p7_3 rf_X7_35 trivial ⟨by omega, by omega⟩ (rg_u_s _ _ _) (Nat.le_of_ble_eq_true rfl) dX7_clear_17 ?_
  refine rx_iconst C dX7_clear_20 (n := 0) ⟨by decide, by decide⟩ ?_
  refine rx_istore_n C dX7_clear_21 (by decide) (L' := [rd_R (k : Int), rd_I 0]) rfl ?_
  have lp : ∀ (n : Nat) (i : Int) (E : Nat → va_E), 0 ≤ i → i ≤ 10 → 10 < i + n → (∀ j : Nat, k ≤ j → j < k + 5 → E j = rg_S G r k i j) → rx_W p l e (rg_rm 0 0 0 0) s m args below meth c (MQ below (rg_Qc G r k 5 (rg_S G r k 10)) args s 0 0 (fun q => r + k ≤ q)) 2 r 0 0 (rg_I G r k (k + 5) E s.heap) 22 [rd_R (k : Int), rd_I i] [] := by
    intro n
    induction n with
    | zero => intro i E h1 h2 h3 hE; exfalso; omega
    | succ n ih =>
      intro i E h1 h2 h3 hE
      have hEk : E k = .inr (7, [.int (rd_i 0), .int (rd_i 0), .int (rd_i 0), .int (rd_i 0), .ref (r + (k + 1)), .ref (r + (k + 2)), .ref (r + (k + 3)), .ref (r + (k + 4))]) := by rw [hE k (by omega) (by omega)]; unfold rg_S; rw [if_pos rfl]
      have hE4 : E (k + 4) = .inl (G.2.1, 10, .inl (rd_ri (rg_tf i))) := by rw [hE (k + 4) (by omega) (by omega)]; unfold rg_S; rw [if_neg (by omega), if_pos rfl]
      refine rx_iload_n C dX7_clear_22 rfl ?_
      refine rx_aload_n C dX7_clear_23 rfl ?_
      refine rg_getR C (kf := 7) (v := k + 4) (fs := [.int (rd_i 0), .int (rd_i 0), .int (rd_i 0), .int (rd_i 0), .ref (r + (k + 1)), .ref (r + (k + 2)), .ref (r + (k + 3)), .ref (r + (k + 4))]) rfl (by decide) ru_X7 rf_X7_21 ⟨by omega, by omega⟩ hEk rfl dX7_clear_24 ?_
      refine rg_alen C (t := 0) (N := 10) (z := 10) ⟨by omega, by omega⟩ hE4 rfl rfl rfl ⟨by decide, by decide⟩ dX7_clear_27 ?_
      refine rx_icmp_ge C dX7_clear_28 (tgt := 44) (by decide) (fun h_28 => ?_) (fun h_28 => ?_)
      · have hi : i = 10 := by omega
        subst hi
        exact rg_ret C rfl (Nat.le_refl _) (Nat.le_refl _) (fun H j j0 j1 hat => by rw [hE j j0 j1] at hat; exact hat) dX7_clear_44
      · refine rx_aload_n C dX7_clear_31 rfl ?_
        refine rg_getR C (kf := 7) (v := k + 4) (fs := [.int (rd_i 0), .int (rd_i 0), .int (rd_i 0), .int (rd_i 0), .ref (r + (k + 1)), .ref (r + (k + 2)), .ref (r + (k + 3)), .ref (r + (k + 4))]) rfl (by decide) ru_X7 rf_X7_21 ⟨by omega, by omega⟩ hEk rfl dX7_clear_32 ?_
        refine rx_iload_n C dX7_clear_35 rfl ?_
        refine rx_iconst C dX7_clear_36 (n := -1) ⟨by decide, by decide⟩ ?_
        refine rg_iast C (N := 10) (f := rg_tf i) ⟨by omega, by omega⟩ hE4 ⟨by omega, by omega⟩ dX7_clear_37 ?_
        refine rx_iinc C dX7_clear_38 (by decide) rfl ⟨by omega, by omega⟩ (L' := [rd_R (k : Int), rd_I (i + 1)]) rfl ?_
        refine rx_goto C dX7_clear_41 (tgt := 22) (by decide) ?_
        refine ih (i + 1) _ (by omega) (by omega) (by omega) (fun j j0 j1 => ?_)
        by_cases hj : j = k + 4
        · rw [hj, rg_u_s, rg_tfs h1]; unfold rg_S; rw [if_neg (by omega), if_pos rfl]
        · rw [rg_u_n _ _ hj, hE j j0 j1]; unfold rg_S; rw [if_neg hj, if_neg hj]
  refine lp 11 0 _ (by omega) (by omega) (by omega) (fun j j0 j1 => ?_)
  by_cases hj : j = k
  · rw [hj, rg_u_s, h7]; rfl
  · rw [rg_u_n _ _ hj, rg_u_n _ _ hj, rg_u_n _ _ hj, rg_u_n _ _ hj]
def rg_rf (r b i : Nat) : Nat → Option Nat := fun q => if q < i then some (r + (b + 4 + 5 * q)) else none
theorem rg_rf0 (r b : Nat) : rg_rf r b 0 = fun _ => none := by funext q; unfold rg_rf; exact if_neg (by omega)
theorem rg_rfs (r b i : Nat) : va_up (rg_rf r b i) i (some (r + (b + 4 + 5 * i))) = rg_rf r b (i + 1) := by
  funext q; unfold va_up rg_rf
  by_cases h : q = i
  · rw [if_pos h, if_pos (by omega), h]
  · rw [if_neg h]
    by_cases h2 : q < i
    · rw [if_pos h2, if_pos (by omega)]
    · rw [if_neg h2, if_neg (by omega)]
def rg_L (G : rd_G) (r b i : Nat) : Nat → va_E := fun j => if j = b + 3 then .inl (G.2.2.2.1, 10, .inr (.inr (.inr (.inr (rg_rf r b i))))) else if j = b + 1 then .inr (0, [.int (rd_i 0), .ref (r + (b + 2)), .ref (r + (b + 3))]) else if j = b + 2 then rg_z G 10 else rg_B G r b j
theorem rg_Lf {G : rd_G} {r b j : Nat} {H : Heap} (hat : va_at G.1 rd_cl (r + j, rg_L G r b 10 j) H) (j0 : b + 1 ≤ j) (j1 : j < b + 1 + 53) : va_at G.1 rd_cl (r + j, rg_B G r b j) H := by
  unfold rg_L at hat
  by_cases h3 : j = b + 3
  · subst h3
    rw [if_pos rfl] at hat
    unfold rg_B
    rw [show (((b + 3 : Nat) : Int)) - (b : Int) = 3 by omega]
    refine rg_arr (f := rg_rf r b 10) (fun q hq => ?_) hat
    unfold rg_rf
    rw [if_pos hq]
    congr 2
  · rw [if_neg h3] at hat
    by_cases h1 : j = b + 1
    · subst h1
      rw [if_pos rfl] at hat
      unfold rg_B
      rw [show (((b + 1 : Nat) : Int)) - (b : Int) = 1 by omega, rg_s0z (by decide) (by decide)]
      show va_at G.1 rd_cl (r + (b + 1), .inr (0, [.int (rd_i 0), .ref (r + (((b + 1 : Nat) : Int) + 1).toNat), .ref (r + (((b + 1 : Nat) : Int) + 2).toNat)])) H
      rw [show (((b + 1 : Nat) : Int) + 1).toNat = b + 2 by omega, show (((b + 1 : Nat) : Int) + 2).toNat = b + 3 by omega]
      exact hat
    · rw [if_neg h1] at hat
      by_cases h2 : j = b + 2
      · subst h2
        rw [if_pos rfl] at hat
        unfold rg_B
        rw [show (((b + 2 : Nat) : Int)) - (b : Int) = 2 by omega, rg_s0z (by decide) (by decide)]
        exact hat
      · rw [if_neg h2] at hat; exact hat
set_option maxHeartbeats 1000000 in
set_option maxRecDepth 100000 in
theorem c_X0_init {l : Launch} {G : rd_G} {r b : Nat} : rg_M l G yX0_init cX0_init 3 2 40 52 380 r (b + 1) 1 53 (fun _ => rg_e0) (rg_B G r b) := by
  refine rg_enter (by decide +kernel) (Nat.le_of_ble_eq_true rfl) [rd_R ((b + 1 : Nat) : Int), rd_J, rd_J] rfl (fun p e s m args below meth c C hK hnm => ?_)
  refine rx_aload_n C dX0_init_0 rfl ?_
  refine rg_obj C rm_X0_3 ⟨Nat.le_of_ble_eq_true rfl, Nat.le_of_ble_eq_true rfl⟩ (Nat.le_of_ble_eq_true rfl) dX0_init_1 ?_
  refine rx_aload_n C dX0_init_4 rfl ?_
  refine rx_bipush C dX0_init_5 (n := 10) (by decide) ⟨by decide, by decide⟩ ?_
  refine rg_newa C (atype := .int) (t := 0) (N := 10) rfl rfl (fun h => h) rfl ra_int rfl (by decide) (by decide) (by omega) (Nat.le_of_ble_eq_true rfl) (Nat.le_of_ble_eq_true rfl) dX0_init_7 ?_
  refine rg_putF C hnm (fs := [.int (rd_i 0), .null, .null]) rg_f0_1 rf_X0_9 ⟨by omega, by omega⟩ (by rw [rg_u_n _ _ (by omega)] <;> rfl) (Nat.le_of_ble_eq_true rfl) dX0_init_9 ?_
  refine rx_aload_n C dX0_init_12 rfl ?_
  refine rx_bipush C dX0_init_13 (n := 10) (by decide) ⟨by decide, by decide⟩ ?_
  refine rg_newq C (t := 2) (N := 10) rfl rk_X0_15 hK.2.1 rfl (by decide) (by omega) (Nat.le_of_ble_eq_true rfl) (Nat.le_of_ble_eq_true rfl) dX0_init_15 ?_
  refine rg_putF C hnm (fs := [.int (rd_i 0), .ref (r + (b + 2)), .null]) rg_f0_2 rf_X0_17 ⟨by omega, by omega⟩ (by rw [rg_u_n _ _ (by omega), rg_u_s] <;> rfl) (Nat.le_of_ble_eq_true rfl) dX0_init_18 ?_
  refine rx_iconst C dX0_init_21 (n := 0) ⟨by decide, by decide⟩ ?_
  refine rx_istore_n C dX0_init_22 (by decide) (L' := [rd_R ((b + 1 : Nat) : Int), rd_I 0, rd_J]) rfl ?_
  have lp : ∀ (n i a cs sl : Nat) (E : Nat → va_E), i ≤ 10 → 10 < i + n → a = b + 4 + 5 * i → cs ≤ 2 + 5 * i → sl ≤ 20 + 36 * i → (∀ j : Nat, b + 1 ≤ j → j < a → E j = rg_L G r b i j) → rx_W p l e (rg_rm 2 40 52 380) s m args below meth c (MQ below (rg_Qc G r (b + 1) 53 (rg_B G r b)) args s 52 380 (fun q => r + (b + 1) ≤ q)) 3 r cs sl (rg_I G r (b + 1) a E s.heap) 23 [rd_R ((b + 1 : Nat) : Int), rd_I (i : Int), rd_J] [] := by
    intro n
    induction n with
    | zero => intro i a cs sl E h1 h2 ha hcs hsl hE; exfalso; omega
    | succ n ih =>
      intro i a cs sl E h1 h2 ha hcs hsl hE
      have hE1 : E (b + 1) = .inr (0, [.int (rd_i 0), .ref (r + (b + 2)), .ref (r + (b + 3))]) := by rw [hE _ (by omega) (by omega)]; unfold rg_L; rw [if_neg (by omega), if_pos rfl]
      have hE3 : E (b + 3) = .inl (G.2.2.2.1, 10, .inr (.inr (.inr (.inr (rg_rf r b i))))) := by rw [hE _ (by omega) (by omega)]; unfold rg_L; rw [if_pos rfl]
      refine rx_iload_n C dX0_init_23 rfl ?_
      refine rx_aload_n C dX0_init_24 rfl ?_
      refine rg_getR C (kf := 2) (v := b + 3) (fs := [.int (rd_i 0), .ref (r + (b + 2)), .ref (r + (b + 3))]) rfl (by decide) ru_X0 rf_X0_17 ⟨by omega, by omega⟩ hE1 rfl dX0_init_25 ?_
      refine rg_alen C (t := 2) (N := 10) (z := 10) ⟨by omega, by omega⟩ hE3 rfl rfl rfl ⟨by decide, by decide⟩ dX0_init_28 ?_
      refine rx_icmp_ge C dX0_init_29 (tgt := 57) (by decide) (fun h_29 => ?_) (fun h_29 => ?_)
      · have hi : i = 10 := by omega
        subst hi
        refine rg_ret C (by omega) (by omega) (by omega) (fun H j j0 j1 hat => ?_) dX0_init_57
        rw [hE j j0 (by omega)] at hat
        exact rg_Lf hat j0 j1
      · refine rg_new C (ci := 7) ru_X7 tyX7_ok rfl rk_X0_15 rq_X7 rz_X7 rg_d7 (by omega) (show cs + 1 ≤ 52 by omega) (show sl + 8 ≤ 380 by omega) dX0_init_32 ?_
        refine rx_dup C dX0_init_35 ?_
        refine rg_callN C hK (j := a) (n0 := 1) (c_X7_init (k := a)) rx_X0_21 rfl ri_X7_init rc_X7_init rz_X7 ⟨rp_X7_init, ⟨Nat.le_of_ble_eq_true rfl, Nat.le_of_ble_eq_true rfl⟩, show cs + 1 + 4 ≤ 52 by omega, show sl + 8 + 28 ≤ 380 by omega⟩ dX0_init_36 (by omega) (fun q q0 q1 => by rw [show q = a by omega, rg_u_s]; rfl) (Nat.le_of_ble_eq_true rfl) ?_
        refine rx_astore_n C dX0_init_39 (by decide) (L' := [rd_R ((b + 1 : Nat) : Int), rd_I (i : Int), rd_R (a : Int)]) rfl ?_
        refine rx_aload_n C dX0_init_40 rfl ?_
        refine rg_callV C hK (j := a) (n0 := 5) (c_X7_clear0 (k := a)) rm_X0_22 ri_X7_clear (ci := 7) rs_X7_clear (by rw [rg_if_r _ _ (Nat.le_refl _)]; unfold rg_S; rw [if_pos rfl]) rfl rfl (by decide) rc_X7_clear rz_X7 ⟨rp_X7_clear, ⟨Nat.le_of_ble_eq_true rfl, Nat.le_of_ble_eq_true rfl⟩, show cs + 1 + 4 + 0 ≤ 52 by omega, show sl + 8 + 28 + 0 ≤ 380 by omega⟩ dX0_init_41 (by omega) (fun q q0 q1 => by rw [rg_if_r _ _ q0]) (Nat.le_of_ble_eq_true rfl) ?_
        refine rx_aload_n C dX0_init_44 rfl ?_
        refine rg_getR C (kf := 2) (v := b + 3) (fs := [.int (rd_i 0), .ref (r + (b + 2)), .ref (r + (b + 3))]) rfl (by decide) ru_X0 rf_X0_17 ⟨by omega, by omega⟩ (by rw [rg_if_l _ _ (by omega), rg_if_l _ _ (by omega), rg_u_n _ _ (by omega)]; exact hE1) rfl dX0_init_45 ?_
        refine rx_iload_n C dX0_init_48 rfl ?_
        refine rx_aload_n C dX0_init_49 rfl ?_
        refine rg_aast C (N := 10) (t := 2) (ci := 7) (f := rg_rf r b i) (rr := (RX7, TX7, 8)) ⟨by omega, by omega⟩ (by rw [rg_if_l _ _ (by omega), rg_if_l _ _ (by omega), rg_u_n _ _ (by omega)]; exact hE3) rfl ⟨by omega, by omega⟩ (by rw [rg_if_r _ _ (Nat.le_refl _)]; unfold rg_S; rw [if_pos rfl]) rfl ⟨by omega, by omega⟩ dX0_init_50 ?_
        refine rx_iinc C dX0_init_51 (by decide) rfl ⟨by omega, by omega⟩ (L' := [rd_R ((b + 1 : Nat) : Int), rd_I ((i : Int) + 1), rd_R (a : Int)]) rfl ?_
        refine rx_goto C dX0_init_54 (tgt := 23) (by decide) ?_
        refine rx_W.sub (L' := [rd_R ((b + 1 : Nat) : Int), rd_I (((i + 1 : Nat) : Int)), rd_J]) ?_ (fun q x hq => ?_)
        · refine ih (i + 1) (a + 5) _ _ _ (by omega) (by omega) (by omega) (by omega) (by omega) (fun j j0 j1 => ?_)
          by_cases hj3 : j = b + 3
          · rw [hj3, rg_u_s, ha]; unfold rg_L; rw [if_pos rfl, show ((i : Int)).toNat = i by omega, rg_rfs]
          · rw [rg_u_n _ _ hj3]
            by_cases hja : j < a
            · rw [rg_if_l _ _ hja, rg_if_l _ _ hja, rg_u_n _ _ (by omega), hE j j0 hja]; unfold rg_L; rw [if_neg hj3, if_neg hj3]
            · rw [rg_if_r _ _ (by omega), ha, rg_SB (by omega) (by omega) (by omega)]; unfold rg_L; rw [if_neg hj3, if_neg (by omega), if_neg (by omega)]
        · match q, hq with
          | 0, hq => exact Or.inr hq
          | 1, hq => exact Or.inr hq
          | 2, hq => left; exact (Option.some.inj hq).symm
          | q + 3, hq => simp at hq
  refine lp 11 0 (b + 4) _ _ _ (by omega) (by omega) (by omega) (by omega) (by omega) (fun j j0 j1 => ?_)
  rcases (show j = b + 1 ∨ j = b + 2 ∨ j = b + 3 by omega) with h | h | h
  · subst h; rw [rg_u_s]; unfold rg_L; rw [if_neg (by omega), if_pos rfl]; rfl
  · subst h; rw [rg_u_n _ _ (by omega), rg_u_n _ _ (by omega), rg_u_n _ _ (by omega), rg_u_s]; unfold rg_L; rw [if_neg (by omega), if_neg (by omega), if_pos rfl]; rfl
  · subst h; rw [rg_u_n _ _ (by omega), rg_u_s]; unfold rg_L; rw [if_pos rfl, rg_rf0]
set_option maxHeartbeats 1000000 in
set_option maxRecDepth 100000 in
theorem c_X8_init {l : Launch} {G : rd_G} {r b : Nat} : rg_M l G yX8_init cX8_init 1 3 62 60 531 r b 1 61 (fun _ => rg_e8) (rg_B G r b) := by
  refine rg_enter (by decide +kernel) (Nat.le_of_ble_eq_true rfl) [rd_R ((b : Nat) : Int)] rfl (fun p e s m args below meth c C hK hnm => ?_)
  refine rx_aload_n C dX8_init_0 rfl ?_
  refine rg_obj C rm_X8_3 ⟨Nat.le_of_ble_eq_true rfl, Nat.le_of_ble_eq_true rfl⟩ (Nat.le_of_ble_eq_true rfl) dX8_init_1 ?_
  refine rx_aload_n C dX8_init_4 rfl ?_
  refine rg_new C (ci := 0) ru_X0 tyX0_ok rfl rk_X8_9 rq_X0 rz_X0 rg_d0 (by omega) (Nat.le_of_ble_eq_true rfl) (Nat.le_of_ble_eq_true rfl) dX8_init_5 ?_
  refine rx_dup C dX8_init_8 ?_
  refine rg_callI C hK (j := b + 1) (n0 := 1) (c_X0_init (b := b)) rm_X8_11 rfl ri_X0_init rc_X0_init rz_X0 ⟨rp_X0_init, ⟨Nat.le_of_ble_eq_true rfl, Nat.le_of_ble_eq_true rfl⟩, Nat.le_of_ble_eq_true rfl, Nat.le_of_ble_eq_true rfl⟩ dX8_init_9 (by omega) (fun i i0 i1 => by rw [show i = b + 1 by omega]; exact (by rw [rg_u_s] <;> rfl)) (Nat.le_of_ble_eq_true rfl) ?_
  refine rg_putF C hnm (fs := [.int (rd_i 0), .null, .null, .null]) rg_f8_1 rf_X8_12 ⟨by omega, by omega⟩ (by rw [rg_if_l _ _ (by omega), rg_u_n _ _ (by omega)] <;> rfl) (Nat.le_of_ble_eq_true rfl) dX8_init_12 ?_
  refine rx_aload_n C dX8_init_15 rfl ?_
  refine rg_new C (ci := 3) ru_X3 tyX3_ok rfl rk_X8_18 rq_X3 rz_X3 rg_d3 (by omega) (Nat.le_of_ble_eq_true rfl) (Nat.le_of_ble_eq_true rfl) dX8_init_16 ?_
  refine rx_dup C dX8_init_19 ?_
  refine rg_callN C hK (j := b + 1 + 53) (n0 := 1) (c_X3_init (b := b)) rx_X8_20 rfl ri_X3_init rc_X3_init rz_X3 ⟨rp_X3_init, ⟨Nat.le_of_ble_eq_true rfl, Nat.le_of_ble_eq_true rfl⟩, Nat.le_of_ble_eq_true rfl, Nat.le_of_ble_eq_true rfl⟩ dX8_init_20 (by omega) (fun i i0 i1 => by rw [show i = b + 1 + 53 by omega]; exact (by rw [rg_u_s] <;> rfl)) (Nat.le_of_ble_eq_true rfl) ?_
  refine rg_putF C hnm (fs := [.int (rd_i 0), .ref (r + (b + 1)), .null, .null]) rg_f8_2 rf_X8_21 ⟨by omega, by omega⟩ (by rw [rg_if_l _ _ (by omega), rg_u_n _ _ (by omega), rg_u_s] <;> rfl) (Nat.le_of_ble_eq_true rfl) dX8_init_23 ?_
  refine rx_aload_n C dX8_init_26 rfl ?_
  refine rg_new C (ci := 6) ru_X6 tyX6_ok rfl rk_X8_25 rq_X6 rz_X6 rg_d6 (by omega) (Nat.le_of_ble_eq_true rfl) (Nat.le_of_ble_eq_true rfl) dX8_init_27 ?_
  refine rx_dup C dX8_init_30 ?_
  refine rg_callN C hK (j := b + 1 + 53 + 3) (n0 := 1) (c_X6_init (b := b)) rx_X8_27 rfl ri_X6_init rc_X6_init rz_X6 ⟨rp_X6_init, ⟨Nat.le_of_ble_eq_true rfl, Nat.le_of_ble_eq_true rfl⟩, Nat.le_of_ble_eq_true rfl, Nat.le_of_ble_eq_true rfl⟩ dX8_init_31 (by omega) (fun i i0 i1 => by rw [show i = b + 1 + 53 + 3 by omega]; exact (by rw [rg_u_s] <;> rfl)) (Nat.le_of_ble_eq_true rfl) ?_
  refine rg_putF C hnm (fs := [.int (rd_i 0), .ref (r + (b + 1)), .ref (r + (b + 1 + 53)), .null]) rg_f8_3 rf_X8_28 ⟨by omega, by omega⟩ (by rw [rg_if_l _ _ (by omega), rg_u_n _ _ (by omega), rg_u_s] <;> rfl) (Nat.le_of_ble_eq_true rfl) dX8_init_34 ?_
  refine rg_ret C (N := 61) (by omega) (Nat.le_of_ble_eq_true rfl) (Nat.le_of_ble_eq_true rfl) (fun H j j0 j1 hat => ?_) dX8_init_37
  rcases (show j = b ∨ (b + 1 ≤ j ∧ j < b + 54) ∨ (b + 54 ≤ j ∧ j < b + 57) ∨ (b + 57 ≤ j ∧ j < b + 61) by omega) with h | h | h | h
  · subst h
    rw [rg_u_s] at hat
    unfold rg_B
    rw [Int.sub_self, rg_s0z (by decide) (by decide)]
    show va_at G.1 rd_cl (r + j, .inr (8, [.int (rd_i 0), .ref (r + ((j : Int) + 1).toNat), .ref (r + ((j : Int) + 54).toNat), .ref (r + ((j : Int) + 57).toNat)])) H
    rw [show ((j : Int) + 1).toNat = j + 1 by omega, show ((j : Int) + 54).toNat = j + 54 by omega, show ((j : Int) + 57).toNat = j + 57 by omega]
    exact hat
  · rw [rg_u_n _ _ (by omega), rg_if_l _ _ (by omega), rg_u_n _ _ (by omega), rg_u_n _ _ (by omega), rg_if_l _ _ (by omega), rg_u_n _ _ (by omega), rg_u_n _ _ (by omega), rg_if_r _ _ (by omega)] at hat; exact hat
  · rw [rg_u_n _ _ (by omega), rg_if_l _ _ (by omega), rg_u_n _ _ (by omega), rg_u_n _ _ (by omega), rg_if_r _ _ (by omega)] at hat; exact hat
  · rw [rg_u_n _ _ (by omega), rg_if_r _ _ (by omega)] at hat; exact hat
def rg_hf (r i : Nat) : Nat → Option Nat := fun q => if q < i then some (r + (64 + 61 * q)) else none
theorem rg_hf0 (r : Nat) : rg_hf r 0 = fun _ => none := by funext q; unfold rg_hf; exact if_neg (by omega)
theorem rg_hfs (r i : Nat) : va_up (rg_hf r i) i (some (r + (64 + 61 * i))) = rg_hf r (i + 1) := by
  funext q; unfold va_up rg_hf
  by_cases h : q = i
  · rw [if_pos h, if_pos (by omega), h]
  · rw [if_neg h]
    by_cases h2 : q < i
    · rw [if_pos h2, if_pos (by omega)]
    · rw [if_neg h2, if_neg (by omega)]
theorem rg_BC {G : rd_G} {r i j : Nat} (hi : i < 4) (h0 : 64 + 61 * i ≤ j) (h1 : j < 64 + 61 * i + 61) : rg_B G r (64 + 61 * i) j = rg_C G r j := by
  unfold rg_B rg_C
  have e : ((j : Int) - 64) % 61 = (j : Int) - ((64 + 61 * i : Nat) : Int) := by omega
  have e1 : sp_m0 (j : Int) = sp_s0 ((j : Int) - ((64 + 61 * i : Nat) : Int)) := by
    funext q; unfold sp_m0; rw [if_neg (by omega), if_pos (by omega), e]
  have e2 : rd_kc (j : Int) = rd_kb ((j : Int) - ((64 + 61 * i : Nat) : Int)) := by
    unfold rd_kc; rw [if_neg (by omega), if_neg (by omega), if_neg (by omega), if_neg (by omega), if_pos (by omega), e]
  rw [e1, e2]
theorem rg_BC1 {G : rd_G} {r j : Nat} (h0 : 1 ≤ j) (h1 : j < 62) : rg_B G r 1 j = rg_C G r j := by
  unfold rg_B rg_C
  have e1 : sp_m0 (j : Int) = sp_s0 ((j : Int) - ((1 : Nat) : Int)) := by
    funext q; unfold sp_m0; rw [if_pos (by omega)]; rfl
  have e2 : rd_kc (j : Int) = rd_kb ((j : Int) - ((1 : Nat) : Int)) := by
    unfold rd_kc; rw [if_neg (by omega), if_pos (by omega)]; rfl
  rw [e1, e2]
def rg_K (G : rd_G) (r i : Nat) : Nat → va_E := fun j => if j = 63 then .inl (G.2.2.2.2, 4, .inr (.inr (.inr (.inr (rg_hf r i))))) else if j = 62 then .inr (2, [.int (rd_i 0), .ref (r + 63)]) else rg_C G r j
set_option maxHeartbeats 1000000 in
set_option maxRecDepth 100000 in
theorem c_X2_init {l : Launch} {G : rd_G} {r : Nat} : rg_M l G yX2_init cX2_init 2 4 82 245 2144 r 62 1 246 (fun _ => rg_e2) (rg_C G r) := by
  refine rg_enter (by decide +kernel) (Nat.le_of_ble_eq_true rfl) [rd_R ((62 : Nat) : Int), rd_J] rfl (fun p e s m args below meth c C hK hnm => ?_)
  refine rx_aload_n C dX2_init_0 rfl ?_
  refine rg_obj C rm_X2_3 ⟨Nat.le_of_ble_eq_true rfl, Nat.le_of_ble_eq_true rfl⟩ (Nat.le_of_ble_eq_true rfl) dX2_init_1 ?_
  refine rx_aload_n C dX2_init_4 rfl ?_
  refine rx_iconst C dX2_init_5 (n := 4) ⟨by decide, by decide⟩ ?_
  refine rg_newq C (t := 3) (N := 4) rfl rk_X2_9 hK.2.2 rfl (by decide) (by omega) (Nat.le_of_ble_eq_true rfl) (Nat.le_of_ble_eq_true rfl) dX2_init_6 ?_
  refine rg_putF C hnm (fs := [.int (rd_i 0), .null]) rg_f2_1 rf_X2_11 ⟨by omega, by omega⟩ (by rw [rg_u_n _ _ (by omega)] <;> rfl) (Nat.le_of_ble_eq_true rfl) dX2_init_9 ?_
  refine rx_iconst C dX2_init_12 (n := 0) ⟨by decide, by decide⟩ ?_
  refine rx_istore_n C dX2_init_13 (by decide) (L' := [rd_R ((62 : Nat) : Int), rd_I 0]) rfl ?_
  have lp : ∀ (n i a cs sl : Nat) (E : Nat → va_E), i ≤ 4 → 4 < i + n → a = 64 + 61 * i → cs ≤ 1 + 61 * i → sl ≤ 4 + 535 * i → (∀ j : Nat, 62 ≤ j → j < a → E j = rg_K G r i j) → rx_W p l e (rg_rm 4 82 245 2144) s m args below meth c (MQ below (rg_Qc G r 62 246 (rg_C G r)) args s 245 2144 (fun q => r + 62 ≤ q)) 2 r cs sl (rg_I G r 62 a E s.heap) 14 [rd_R ((62 : Nat) : Int), rd_I (i : Int)] [] := by
    intro n
    induction n with
    | zero => intro i a cs sl E h1 h2 ha hcs hsl hE; exfalso; omega
    | succ n ih =>
      intro i a cs sl E h1 h2 ha hcs hsl hE
      have hE1 : E 62 = .inr (2, [.int (rd_i 0), .ref (r + 63)]) := by rw [hE _ (by omega) (by omega)]; unfold rg_K; rw [if_neg (by omega), if_pos rfl]
      have hE3 : E 63 = .inl (G.2.2.2.2, 4, .inr (.inr (.inr (.inr (rg_hf r i))))) := by rw [hE _ (by omega) (by omega)]; unfold rg_K; rw [if_pos rfl]
      refine rx_iload_n C dX2_init_14 rfl ?_
      refine rx_aload_n C dX2_init_15 rfl ?_
      refine rg_getR C (kf := 1) (v := 63) (fs := [.int (rd_i 0), .ref (r + 63)]) rfl (by decide) ru_X2 rf_X2_11 ⟨by omega, by omega⟩ hE1 rfl dX2_init_16 ?_
      refine rg_alen C (t := 3) (N := 4) (z := 4) ⟨by omega, by omega⟩ hE3 rfl rfl rfl ⟨by decide, by decide⟩ dX2_init_19 ?_
      refine rx_icmp_ge C dX2_init_20 (tgt := 42) (by decide) (fun h_29 => ?_) (fun h_29 => ?_)
      · have hi : i = 4 := by omega
        subst hi
        refine rg_ret C (by omega) (by omega) (by omega) (fun H j j0 j1 hat => ?_) dX2_init_42
        rw [hE j j0 (by omega)] at hat
        unfold rg_K at hat
        by_cases h3 : j = 63
        · subst h3
          rw [if_pos rfl] at hat
          show va_at G.1 rd_cl (r + 63, .inl (G.2.2.2.2, 4, .inr (.inr (.inr (.inr (fun j => some (r + (((63 : Nat) : Int) + 1 + 61 * sp_m0 ((63 : Nat) : Int) (j : Int)).toNat))))))) H
          refine rg_arr (f := rg_hf r 4) (fun q hq => ?_) hat
          unfold rg_hf
          rw [if_pos hq]
          have e : sp_m0 ((63 : Nat) : Int) (q : Int) = q := by unfold sp_m0; rw [if_neg (by omega), if_neg (by omega), if_pos (by omega), if_pos (by omega)]
          rw [e]
          congr 2
        · rw [if_neg h3] at hat
          by_cases h1 : j = 62
          · subst h1
            rw [if_pos rfl] at hat
            exact hat
          · rw [if_neg h1] at hat; exact hat
      · refine rx_aload_n C dX2_init_23 rfl ?_
        refine rg_getR C (kf := 1) (v := 63) (fs := [.int (rd_i 0), .ref (r + 63)]) rfl (by decide) ru_X2 rf_X2_11 ⟨by omega, by omega⟩ hE1 rfl dX2_init_24 ?_
        refine rx_iload_n C dX2_init_27 rfl ?_
        refine rg_new C (ci := 8) ru_X8 tyX8_ok rfl rk_X2_9 rq_X8 rz_X8 rg_d8 (by omega) (show cs + 1 ≤ 245 by omega) (show sl + 4 ≤ 2144 by omega) dX2_init_28 ?_
        refine rx_dup C dX2_init_31 ?_
        refine rg_callN C hK (j := a) (n0 := 1) (c_X8_init (b := a)) rx_X2_17 rfl ri_X8_init rc_X8_init rz_X8 ⟨rp_X8_init, ⟨Nat.le_of_ble_eq_true rfl, Nat.le_of_ble_eq_true rfl⟩, show cs + 1 + 60 ≤ 245 by omega, show sl + 4 + 531 ≤ 2144 by omega⟩ dX2_init_32 (by omega) (fun q q0 q1 => by rw [show q = a by omega, rg_u_s]; rfl) (Nat.le_of_ble_eq_true rfl) ?_
        obtain ⟨vs, hvs⟩ : ∃ vs, rg_B G r a a = .inr (8, vs) := ⟨_, by unfold rg_B; rw [Int.sub_self]; rfl⟩
        refine rg_aast C (N := 4) (t := 3) (ci := 8) (vs := vs) (f := rg_hf r i) (rr := (RX8, TX8, 4)) ⟨by omega, by omega⟩ (by rw [rg_if_l _ _ (by omega), rg_u_n _ _ (by omega)]; exact hE3) rfl ⟨by omega, by omega⟩ (by rw [rg_if_r _ _ (Nat.le_refl _)]; exact hvs) rfl ⟨by omega, by omega⟩ dX2_init_35 ?_
        refine rx_iinc C dX2_init_36 (by decide) rfl ⟨by omega, by omega⟩ (L' := [rd_R ((62 : Nat) : Int), rd_I ((i : Int) + 1)]) rfl ?_
        refine rx_goto C dX2_init_39 (tgt := 14) (by decide) ?_
        refine ih (i + 1) (a + 61) _ _ _ (by omega) (by omega) (by omega) (by omega) (by omega) (fun j j0 j1 => ?_)
        by_cases hj3 : j = 63
        · rw [hj3, rg_u_s, ha]; unfold rg_K; rw [if_pos rfl, show ((i : Int)).toNat = i by omega, rg_hfs]
        · rw [rg_u_n _ _ hj3]
          by_cases hja : j < a
          · rw [rg_if_l _ _ hja, rg_u_n _ _ (by omega), hE j j0 hja]; unfold rg_K; rw [if_neg hj3, if_neg hj3]
          · rw [rg_if_r _ _ (by omega), ha, rg_BC (by omega) (by omega) (by omega)]; unfold rg_K; rw [if_neg hj3, if_neg (by omega)]
  refine lp 5 0 64 _ _ _ (by omega) (by omega) (by omega) (by omega) (by omega) (fun j j0 j1 => ?_)
  rcases (show j = 62 ∨ j = 63 by omega) with h | h
  · subst h; rw [rg_u_s]; unfold rg_K; rw [if_neg (by omega), if_pos rfl]; rfl
  · subst h; rw [rg_u_n _ _ (by omega), rg_u_s]; unfold rg_K; rw [if_pos rfl, rg_hf0]
set_option maxHeartbeats 1000000 in
set_option maxRecDepth 100000 in
theorem c_X9_init {l : Launch} {G : rd_G} {r : Nat} : rg_M l G yX9_init cX9_init 1 5 103 312 2758 r 0 1 313 (fun _ => rg_e9) (rg_C G r) := by
  refine rg_enter (by decide +kernel) (Nat.le_of_ble_eq_true rfl) [rd_R ((0 : Nat) : Int)] rfl (fun p e s m args below meth c C hK hnm => ?_)
  refine rx_aload_n C dX9_init_0 rfl ?_
  refine rg_obj C rm_X9_1 ⟨Nat.le_of_ble_eq_true rfl, Nat.le_of_ble_eq_true rfl⟩ (Nat.le_of_ble_eq_true rfl) dX9_init_1 ?_
  refine rx_aload_n C dX9_init_4 rfl ?_
  refine rg_new C (ci := 8) ru_X8 tyX8_ok rfl rk_X9_7 rq_X8 rz_X8 rg_d8 (by omega) (Nat.le_of_ble_eq_true rfl) (Nat.le_of_ble_eq_true rfl) dX9_init_5 ?_
  refine rx_dup C dX9_init_8 ?_
  refine rg_callN C hK (j := 1) (n0 := 1) (c_X8_init (b := 1)) rx_X9_9 rfl ri_X8_init rc_X8_init rz_X8 ⟨rp_X8_init, ⟨Nat.le_of_ble_eq_true rfl, Nat.le_of_ble_eq_true rfl⟩, Nat.le_of_ble_eq_true rfl, Nat.le_of_ble_eq_true rfl⟩ dX9_init_9 (by omega) (fun i i0 i1 => by rw [show i = 1 by omega]; exact (by rw [rg_u_s] <;> rfl)) (Nat.le_of_ble_eq_true rfl) ?_
  refine rg_putF C hnm (fs := [.null, .null, .null, .null, .null]) rg_f9_0 rf_X9_10 ⟨by omega, by omega⟩ (by rw [rg_if_l _ _ (by omega), rg_u_n _ _ (by omega)] <;> rfl) (Nat.le_of_ble_eq_true rfl) dX9_init_12 ?_
  refine rx_aload_n C dX9_init_15 rfl ?_
  refine rg_new C (ci := 2) ru_X2 tyX2_ok rfl rk_X9_16 rq_X2 rz_X2 rg_d2 (by omega) (Nat.le_of_ble_eq_true rfl) (Nat.le_of_ble_eq_true rfl) dX9_init_16 ?_
  refine rx_dup C dX9_init_19 ?_
  refine rg_callI C hK (j := 62) (n0 := 1) (c_X2_init (r := r)) rm_X9_18 rfl ri_X2_init rc_X2_init rz_X2 ⟨rp_X2_init, ⟨Nat.le_of_ble_eq_true rfl, Nat.le_of_ble_eq_true rfl⟩, Nat.le_of_ble_eq_true rfl, Nat.le_of_ble_eq_true rfl⟩ dX9_init_20 (by omega) (fun i i0 i1 => by rw [show i = 62 by omega]; exact (by rw [rg_u_s] <;> rfl)) (Nat.le_of_ble_eq_true rfl) ?_
  refine rg_putF C hnm (fs := [.ref (r + 1), .null, .null, .null, .null]) rg_f9_1 rf_X9_19 ⟨by omega, by omega⟩ (by rw [rg_if_l _ _ (by omega), rg_u_n _ _ (by omega), rg_u_s] <;> rfl) (Nat.le_of_ble_eq_true rfl) dX9_init_23 ?_
  refine rx_aload_n C dX9_init_26 rfl ?_
  refine rg_new C (ci := 5) ru_X5 tyX5_ok rfl rk_X9_23 rq_X5 rz_X5 rg_d5 (by omega) (Nat.le_of_ble_eq_true rfl) (Nat.le_of_ble_eq_true rfl) dX9_init_27 ?_
  refine rx_dup C dX9_init_30 ?_
  refine rg_callN C hK (j := 308) (n0 := 1) (c_X5_init (r := r)) rx_X9_25 rfl ri_X5_init rc_X5_init rz_X5 ⟨rp_X5_init, ⟨Nat.le_of_ble_eq_true rfl, Nat.le_of_ble_eq_true rfl⟩, Nat.le_of_ble_eq_true rfl, Nat.le_of_ble_eq_true rfl⟩ dX9_init_31 (by omega) (fun i i0 i1 => by rw [show i = 308 by omega]; exact (by rw [rg_u_s] <;> rfl)) (Nat.le_of_ble_eq_true rfl) ?_
  refine rg_putF C hnm (fs := [.ref (r + 1), .ref (r + 62), .null, .null, .null]) rg_f9_2 rf_X9_26 ⟨by omega, by omega⟩ (by rw [rg_if_l _ _ (by omega), rg_u_n _ _ (by omega), rg_u_s] <;> rfl) (Nat.le_of_ble_eq_true rfl) dX9_init_34 ?_
  refine rx_aload_n C dX9_init_37 rfl ?_
  refine rg_new C (ci := 4) ru_X4 tyX4_ok rfl rk_X9_30 rq_X4 rz_X4 rg_d4 (by omega) (Nat.le_of_ble_eq_true rfl) (Nat.le_of_ble_eq_true rfl) dX9_init_38 ?_
  refine rx_dup C dX9_init_41 ?_
  refine rg_callN C hK (j := 310) (n0 := 1) (c_X4_init (r := r)) rx_X9_32 rfl ri_X4_init rc_X4_init rz_X4 ⟨rp_X4_init, ⟨Nat.le_of_ble_eq_true rfl, Nat.le_of_ble_eq_true rfl⟩, Nat.le_of_ble_eq_true rfl, Nat.le_of_ble_eq_true rfl⟩ dX9_init_42 (by omega) (fun i i0 i1 => by rw [show i = 310 by omega]; exact (by rw [rg_u_s] <;> rfl)) (Nat.le_of_ble_eq_true rfl) ?_
  refine rg_putF C hnm (fs := [.ref (r + 1), .ref (r + 62), .ref (r + 308), .null, .null]) rg_f9_3 rf_X9_33 ⟨by omega, by omega⟩ (by rw [rg_if_l _ _ (by omega), rg_u_n _ _ (by omega), rg_u_s] <;> rfl) (Nat.le_of_ble_eq_true rfl) dX9_init_45 ?_
  refine rx_aload_n C dX9_init_48 rfl ?_
  refine rg_new C (ci := 1) ru_X1 tyX1_ok rfl rk_X9_37 rq_X1 rz_X1 rg_d1 (by omega) (Nat.le_of_ble_eq_true rfl) (Nat.le_of_ble_eq_true rfl) dX9_init_49 ?_
  refine rx_dup C dX9_init_52 ?_
  refine rg_callN C hK (j := 311) (n0 := 1) (c_X1_init (r := r)) rx_X9_39 rfl ri_X1_init rc_X1_init rz_X1 ⟨rp_X1_init, ⟨Nat.le_of_ble_eq_true rfl, Nat.le_of_ble_eq_true rfl⟩, Nat.le_of_ble_eq_true rfl, Nat.le_of_ble_eq_true rfl⟩ dX9_init_53 (by omega) (fun i i0 i1 => by rw [show i = 311 by omega]; exact (by rw [rg_u_s] <;> rfl)) (Nat.le_of_ble_eq_true rfl) ?_
  refine rg_putF C hnm (fs := [.ref (r + 1), .ref (r + 62), .ref (r + 308), .ref (r + 310), .null]) rg_f9_4 rf_X9_40 ⟨by omega, by omega⟩ (by rw [rg_if_l _ _ (by omega), rg_u_n _ _ (by omega), rg_u_s] <;> rfl) (Nat.le_of_ble_eq_true rfl) dX9_init_56 ?_
  refine rg_ret C (N := 313) (by omega) (Nat.le_of_ble_eq_true rfl) (Nat.le_of_ble_eq_true rfl) (fun H j j0 j1 hat => ?_) dX9_init_59
  rcases (show j = 0 ∨ (1 ≤ j ∧ j < 62) ∨ (62 ≤ j ∧ j < 308) ∨ (308 ≤ j ∧ j < 310) ∨ (310 ≤ j ∧ j < 311) ∨ (311 ≤ j ∧ j < 313) by omega) with h | h | h | h | h | h
  · subst h
    rw [rg_u_s] at hat
    exact hat
  · rw [rg_u_n _ _ (by omega), rg_if_l _ _ (by omega), rg_u_n _ _ (by omega), rg_u_n _ _ (by omega), rg_if_l _ _ (by omega), rg_u_n _ _ (by omega), rg_u_n _ _ (by omega), rg_if_l _ _ (by omega), rg_u_n _ _ (by omega), rg_u_n _ _ (by omega), rg_if_l _ _ (by omega), rg_u_n _ _ (by omega), rg_u_n _ _ (by omega), rg_if_r _ _ (by omega), rg_BC1 h.1 h.2] at hat; exact hat
  · rw [rg_u_n _ _ (by omega), rg_if_l _ _ (by omega), rg_u_n _ _ (by omega), rg_u_n _ _ (by omega), rg_if_l _ _ (by omega), rg_u_n _ _ (by omega), rg_u_n _ _ (by omega), rg_if_l _ _ (by omega), rg_u_n _ _ (by omega), rg_u_n _ _ (by omega), rg_if_r _ _ (by omega)] at hat; exact hat
  · rw [rg_u_n _ _ (by omega), rg_if_l _ _ (by omega), rg_u_n _ _ (by omega), rg_u_n _ _ (by omega), rg_if_l _ _ (by omega), rg_u_n _ _ (by omega), rg_u_n _ _ (by omega), rg_if_r _ _ (by omega)] at hat; exact hat
  · rw [rg_u_n _ _ (by omega), rg_if_l _ _ (by omega), rg_u_n _ _ (by omega), rg_u_n _ _ (by omega), rg_if_r _ _ (by omega)] at hat; exact hat
  · rw [rg_u_n _ _ (by omega), rg_if_r _ _ (by omega)] at hat; exact hat

