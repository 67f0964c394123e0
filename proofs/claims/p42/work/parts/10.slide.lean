set_option maxHeartbeats 4000000 in
set_option maxRecDepth 100000 in
theorem c_X9_isWithin {l : Launch} {G : rd_G} {r : Nat} {μ : rd_Mem} {z lo hi : Int} : rd_M l G rd_kc 313 r yX9_isWithin cX9_isWithin 3 (some .boolean) (rd_rm 0 0) [rd_I z, rd_I lo, rd_I hi] μ (fun v μ' => ((lo ≤ z ∧ z ≤ hi) ∧ v = some (rd_I 1) ∧ μ' = μ) ∨ ((z < lo ∨ hi < z) ∧ v = some (rd_I 0) ∧ μ' = μ)) := by
  refine rd_enter (by decide +kernel) (Nat.le_of_ble_eq_true rfl) [rd_I z, rd_I lo, rd_I hi] rfl (fun p e s m args below meth c C => ?_)
  refine rd_W.rng (fun hM hL _ => ?_)
  refine rd_iload_n C dX9_isWithin_0 rfl ?_
  refine rd_iload_n C dX9_isWithin_1 rfl ?_
  refine rd_icmp_lt C dX9_isWithin_2 (tgt := 14) (by decide) (fun h_2 => ?_) (fun h_2 => ?_)
  · refine rd_iconst C dX9_isWithin_14 (n := 0) ⟨by decide, by decide⟩ ?_
    exact rd_zret C dX9_isWithin_15 (by omega) (by first | exact Or.inl ⟨⟨by omega, by omega⟩, rfl, rfl⟩ | exact Or.inr ⟨by omega, rfl, rfl⟩)
  · refine rd_iload_n C dX9_isWithin_5 rfl ?_
    refine rd_iload_n C dX9_isWithin_6 rfl ?_
    refine rd_icmp_gt C dX9_isWithin_7 (tgt := 14) (by decide) (fun h_7 => ?_) (fun h_7 => ?_)
    · refine rd_iconst C dX9_isWithin_14 (n := 0) ⟨by decide, by decide⟩ ?_
      exact rd_zret C dX9_isWithin_15 (by omega) (by first | exact Or.inl ⟨⟨by omega, by omega⟩, rfl, rfl⟩ | exact Or.inr ⟨by omega, rfl, rfl⟩)
    · refine rd_iconst C dX9_isWithin_10 (n := 1) ⟨by decide, by decide⟩ ?_
      refine rd_goto C dX9_isWithin_11 (tgt := 15) (by decide) ?_
      exact rd_zret C dX9_isWithin_15 (by omega) (by first | exact Or.inl ⟨⟨by omega, by omega⟩, rfl, rfl⟩ | exact Or.inr ⟨by omega, rfl, rfl⟩)
def rd_clr (μ : rd_Mem) (o k : Int) : rd_Mem := fun a b => if a = o ∧ (0 ≤ b ∧ b < 4) then 0 else if a = o + 4 ∧ (0 ≤ b ∧ b < k) then -1 else μ a b
set_option maxHeartbeats 4000000 in
set_option maxRecDepth 100000 in
theorem c_X7_clear {l : Launch} {G : rd_G} {r : Nat} {μ : rd_Mem} {o : Int} (hS : rd_isS rd_kc 313 o) : rd_M l G rd_kc 313 r yX7_clear cX7_clear 2 none (rd_rm 0 0) [rd_R o] μ (fun v μ' => v = none ∧ μ' = rd_clr μ o 10) := by
  refine rd_enter (by decide +kernel) (Nat.le_of_ble_eq_true rfl) [rd_R o, rd_J] rfl (fun p e s m args below meth c C => ?_)
  refine rd_W.rng (fun hM hL _ => ?_)
  refine rd_aload_n C dX7_clear_0 rfl ?_
  refine rd_iconst C dX7_clear_1 (n := 0) ⟨by decide, by decide⟩ ?_
  refine rd_put C rd_p7_0 rf_X7_24 dX7_clear_2 hS.1 hS.2.2.2.2.2.1 (by omega) ?_
  refine rd_aload_n C dX7_clear_5 rfl ?_
  refine rd_iconst C dX7_clear_6 (n := 0) ⟨by decide, by decide⟩ ?_
  refine rd_put C rd_p7_1 rf_X7_28 dX7_clear_7 hS.1 hS.2.2.2.2.2.1 (by omega) ?_
  refine rd_aload_n C dX7_clear_10 rfl ?_
  refine rd_iconst C dX7_clear_11 (n := 0) ⟨by decide, by decide⟩ ?_
  refine rd_put C rd_p7_2 rf_X7_31 dX7_clear_12 hS.1 hS.2.2.2.2.2.1 trivial ?_
  refine rd_aload_n C dX7_clear_15 rfl ?_
  refine rd_iconst C dX7_clear_16 (n := 0) ⟨by decide, by decide⟩ ?_
  refine rd_put C rd_p7_3 rf_X7_35 dX7_clear_17 hS.1 hS.2.2.2.2.2.1 trivial ?_
  refine rd_iconst C dX7_clear_20 (n := 0) ⟨by decide, by decide⟩ ?_
  refine rd_istore_n C dX7_clear_21 (by decide) (L' := [rd_R o, rd_I 0]) rfl ?_
  have lp22 : ∀ (n : Nat) (k : Int) (μ1 : rd_Mem), (0 ≤ k) → (k ≤ 10) → (10 < k + n) → (μ1 = rd_clr μ o k) → rd_W p l e (rd_rm 0 0) s m args below meth c (MQ below (rd_Qc G rd_kc 313 r (fun v μ' => v = none ∧ μ' = rd_clr μ o 10)) args s 0 0 (rd_A r 313)) 2 G rd_kc 313 r 22 [rd_R o, rd_I k] [] μ1 := by
    intro n
    induction n with
    | zero => intro k μ1  h1 h2 h3 hm; exfalso; omega
    | succ n ih =>
      intro k μ1  h1 h2 h3 hm
      refine rd_iload_n C dX7_clear_22 rfl ?_
      refine rd_aload_n C dX7_clear_23 rfl ?_
      refine rd_get C rd_g7_7 rf_X7_21 dX7_clear_24 hS.1 hS.2.2.2.2.2.1 (x := rd_R (o + 4)) rfl (fun _ => trivial) ?_
      refine rd_alen C rd_al11 dX7_clear_27 hS.2.2.2.2.1 hS.2.2.2.2.2.2.2.2.2 (z := 10) rfl ⟨by decide, by decide⟩ ?_
      refine rd_icmp_ge C dX7_clear_28 (tgt := 44) (by decide) (fun h_28 => ?_) (fun h_28 => ?_)
      · exact rd_vret C dX7_clear_44 ⟨rfl, by rw [hm, show k = 10 by omega]⟩
      · refine rd_aload_n C dX7_clear_31 rfl ?_
        refine rd_get C rd_g7_7 rf_X7_21 dX7_clear_32 hS.1 hS.2.2.2.2.2.1 (x := rd_R (o + 4)) rfl (fun _ => trivial) ?_
        refine rd_iload_n C dX7_clear_35 rfl ?_
        refine rd_iconst C dX7_clear_36 (n := -1) ⟨by decide, by decide⟩ ?_
        refine rd_iast C rd_ai11 dX7_clear_37 hS.2.2.2.2.1 hS.2.2.2.2.2.2.2.2.2 ⟨by omega, by omega⟩ ?_
        refine rd_iinc C dX7_clear_38 (by decide) rfl ⟨by omega, by omega⟩ (L' := [rd_R o, rd_I (k + 1)]) rfl ?_
        refine rd_goto C dX7_clear_41 (tgt := 22) (by decide) ?_
        exact ih (k + 1) _ (by omega) (by omega) (by omega) (by rw [hm]; exact (by funext a b; simp only [rd_u, rd_clr]; (repeat' split) <;> first | rfl | (exfalso; omega)))
  exact lp22 11 0 _ (by omega) (by omega) (by omega) (by funext a b; simp only [rd_u, rd_clr]; (repeat' split) <;> first | rfl | (exfalso; omega))
def rd_scp (μ : rd_Mem) (o q : Int) : rd_Mem := fun a b => if a = o ∧ (0 ≤ b ∧ b < 4) then μ q b else if a = o + 1 ∧ (0 ≤ b ∧ b < 6) then μ (q + 1) b else if a = o + 2 ∧ (0 ≤ b ∧ b < 6) then μ (q + 2) b else if a = o + 3 ∧ (0 ≤ b ∧ b < 6) then μ (q + 3) b else if a = o + 4 ∧ (0 ≤ b ∧ b < 10) then μ (q + 4) b else μ a b
set_option maxHeartbeats 4000000 in
set_option maxRecDepth 100000 in
theorem c_X7_copyFrom {l : Launch} {G : rd_G} {r : Nat} {μ : rd_Mem} {o q : Int} (hS : rd_isS rd_kc 313 o) (hQ : rd_isS rd_kc 313 q) (hne : o + 5 ≤ q ∨ q + 5 ≤ o) (hz0 : μ q 0 = 0 ∨ μ q 0 = 1) (hz1 : μ q 1 = 0 ∨ μ q 1 = 1) : rd_M l G rd_kc 313 r yX7_copyFrom cX7_copyFrom 2 none (rd_rm 1 40) [rd_R o, rd_R q] μ (fun v μ' => v = none ∧ μ' = rd_scp μ o q) := by
  refine rd_enter (by decide +kernel) (Nat.le_of_ble_eq_true rfl) [rd_R o, rd_R q] rfl (fun p e s m args below meth c C => ?_)
  refine rd_W.rng (fun hM hL _ => ?_)
  refine rd_aload_n C dX7_copyFrom_0 rfl ?_
  refine rd_aload_n C dX7_copyFrom_1 rfl ?_
  refine rd_get C rd_g7_0 rf_X7_24 dX7_copyFrom_2 hQ.1 hQ.2.2.2.2.2.1 (x := rd_I (μ q 0)) rfl (fun h => h _ _) ?_
  refine rd_put C rd_p7_0 rf_X7_24 dX7_copyFrom_5 hS.1 hS.2.2.2.2.2.1 (hz0) ?_
  refine rd_aload_n C dX7_copyFrom_8 rfl ?_
  refine rd_aload_n C dX7_copyFrom_9 rfl ?_
  refine rd_getx C rd_g7_1 rf_X7_28 dX7_copyFrom_10 hQ.1 hQ.2.2.2.2.2.1 rfl (z := μ q 1) (by rw [rd_u_k _ _ _ (by omega)]) ?_
  refine rd_put C rd_p7_1 rf_X7_28 dX7_copyFrom_13 hS.1 hS.2.2.2.2.2.1 (hz1) ?_
  refine rd_aload_n C dX7_copyFrom_16 rfl ?_
  refine rd_aload_n C dX7_copyFrom_17 rfl ?_
  refine rd_getx C rd_g7_2 rf_X7_31 dX7_copyFrom_18 hQ.1 hQ.2.2.2.2.2.1 rfl (z := μ q 2) (by rw [rd_u_k _ _ _ (by omega), rd_u_k _ _ _ (by omega)]) ?_
  refine rd_put C rd_p7_2 rf_X7_31 dX7_copyFrom_21 hS.1 hS.2.2.2.2.2.1 trivial ?_
  refine rd_aload_n C dX7_copyFrom_24 rfl ?_
  refine rd_aload_n C dX7_copyFrom_25 rfl ?_
  refine rd_getx C rd_g7_3 rf_X7_35 dX7_copyFrom_26 hQ.1 hQ.2.2.2.2.2.1 rfl (z := μ q 3) (by rw [rd_u_k _ _ _ (by omega), rd_u_k _ _ _ (by omega), rd_u_k _ _ _ (by omega)]) ?_
  refine rd_put C rd_p7_3 rf_X7_35 dX7_copyFrom_29 hS.1 hS.2.2.2.2.2.1 trivial ?_
  refine rd_aload_n C dX7_copyFrom_32 rfl ?_
  refine rd_get C rd_g7_4 rf_X7_9 dX7_copyFrom_33 hQ.1 hQ.2.2.2.2.2.1 (x := rd_R (q + 1)) rfl (fun _ => trivial) ?_
  refine rd_iconst C dX7_copyFrom_36 (n := 0) ⟨by decide, by decide⟩ ?_
  refine rd_aload_n C dX7_copyFrom_37 rfl ?_
  refine rd_get C rd_g7_4 rf_X7_9 dX7_copyFrom_38 hS.1 hS.2.2.2.2.2.1 (x := rd_R (o + 1)) rfl (fun _ => trivial) ?_
  refine rd_iconst C dX7_copyFrom_41 (n := 0) ⟨by decide, by decide⟩ ?_
  refine rd_bipush C dX7_copyFrom_42 (n := 6) (by decide) ⟨by decide, by decide⟩ ?_
  refine rd_acopy C rd_ai12 rm_X7_38 rn_System_arraycopy rt_System_arraycopy rz_J10 ⟨by decide, by decide⟩ (Nat.le_of_ble_eq_true rfl) dX7_copyFrom_44 hQ.2.1 hQ.2.2.2.2.2.2.1 hS.2.1 hS.2.2.2.2.2.2.1 rfl (by decide) ?_
  refine rd_aload_n C dX7_copyFrom_47 rfl ?_
  refine rd_get C rd_g7_5 rf_X7_15 dX7_copyFrom_48 hQ.1 hQ.2.2.2.2.2.1 (x := rd_R (q + 2)) rfl (fun _ => trivial) ?_
  refine rd_iconst C dX7_copyFrom_51 (n := 0) ⟨by decide, by decide⟩ ?_
  refine rd_aload_n C dX7_copyFrom_52 rfl ?_
  refine rd_get C rd_g7_5 rf_X7_15 dX7_copyFrom_53 hS.1 hS.2.2.2.2.2.1 (x := rd_R (o + 2)) rfl (fun _ => trivial) ?_
  refine rd_iconst C dX7_copyFrom_56 (n := 0) ⟨by decide, by decide⟩ ?_
  refine rd_bipush C dX7_copyFrom_57 (n := 6) (by decide) ⟨by decide, by decide⟩ ?_
  refine rd_acopy C rd_ai12 rm_X7_38 rn_System_arraycopy rt_System_arraycopy rz_J10 ⟨by decide, by decide⟩ (Nat.le_of_ble_eq_true rfl) dX7_copyFrom_59 hQ.2.2.1 hQ.2.2.2.2.2.2.2.1 hS.2.2.1 hS.2.2.2.2.2.2.2.1 rfl (by decide) ?_
  refine rd_aload_n C dX7_copyFrom_62 rfl ?_
  refine rd_get C rd_g7_6 rf_X7_18 dX7_copyFrom_63 hQ.1 hQ.2.2.2.2.2.1 (x := rd_R (q + 3)) rfl (fun _ => trivial) ?_
  refine rd_iconst C dX7_copyFrom_66 (n := 0) ⟨by decide, by decide⟩ ?_
  refine rd_aload_n C dX7_copyFrom_67 rfl ?_
  refine rd_get C rd_g7_6 rf_X7_18 dX7_copyFrom_68 hS.1 hS.2.2.2.2.2.1 (x := rd_R (o + 3)) rfl (fun _ => trivial) ?_
  refine rd_iconst C dX7_copyFrom_71 (n := 0) ⟨by decide, by decide⟩ ?_
  refine rd_bipush C dX7_copyFrom_72 (n := 6) (by decide) ⟨by decide, by decide⟩ ?_
  refine rd_acopy C rd_ai12 rm_X7_38 rn_System_arraycopy rt_System_arraycopy rz_J10 ⟨by decide, by decide⟩ (Nat.le_of_ble_eq_true rfl) dX7_copyFrom_74 hQ.2.2.2.1 hQ.2.2.2.2.2.2.2.2.1 hS.2.2.2.1 hS.2.2.2.2.2.2.2.2.1 rfl (by decide) ?_
  refine rd_aload_n C dX7_copyFrom_77 rfl ?_
  refine rd_get C rd_g7_7 rf_X7_21 dX7_copyFrom_78 hQ.1 hQ.2.2.2.2.2.1 (x := rd_R (q + 4)) rfl (fun _ => trivial) ?_
  refine rd_iconst C dX7_copyFrom_81 (n := 0) ⟨by decide, by decide⟩ ?_
  refine rd_aload_n C dX7_copyFrom_82 rfl ?_
  refine rd_get C rd_g7_7 rf_X7_21 dX7_copyFrom_83 hS.1 hS.2.2.2.2.2.1 (x := rd_R (o + 4)) rfl (fun _ => trivial) ?_
  refine rd_iconst C dX7_copyFrom_86 (n := 0) ⟨by decide, by decide⟩ ?_
  refine rd_bipush C dX7_copyFrom_87 (n := 10) (by decide) ⟨by decide, by decide⟩ ?_
  refine rd_acopy C rd_ai11 rm_X7_38 rn_System_arraycopy rt_System_arraycopy rz_J10 ⟨by decide, by decide⟩ (Nat.le_of_ble_eq_true rfl) dX7_copyFrom_89 hQ.2.2.2.2.1 hQ.2.2.2.2.2.2.2.2.2 hS.2.2.2.2.1 hS.2.2.2.2.2.2.2.2.2 rfl (by decide) ?_
  exact rd_vret C dX7_copyFrom_92 ⟨rfl, (by funext a b; simp only [rd_u, rd_cp, rd_scp]; (repeat' split) <;> first | rfl | (exfalso; omega) | grind)⟩
set_option maxHeartbeats 4000000 in
set_option maxRecDepth 100000 in
theorem c_X7_putItem {l : Launch} {G : rd_G} {r : Nat} {μ : rd_Mem} {o : Int} (hS : rd_isS rd_kc 313 o) {a b t : Int} (h0 : 0 ≤ μ o 3) (h6 : μ o 3 < 6) : rd_M l G rd_kc 313 r yX7_putItem cX7_putItem 4 none (rd_rm 0 0) [rd_R o, rd_I a, rd_I b, rd_I t] μ (fun v μ' => v = none ∧ μ' = rd_u (rd_u (rd_u (rd_u μ (o + 1) (μ o 3) a) (o + 2) (μ o 3) b) (o + 3) (μ o 3) t) o 3 (μ o 3 + 1)) := by
  refine rd_enter (by decide +kernel) (Nat.le_of_ble_eq_true rfl) [rd_R o, rd_I a, rd_I b, rd_I t] rfl (fun p e s m args below meth c C => ?_)
  refine rd_W.rng (fun hM hL _ => ?_)
  refine rd_aload_n C dX7_putItem_0 rfl ?_
  refine rd_get C rd_g7_3 rf_X7_35 dX7_putItem_1 hS.1 hS.2.2.2.2.2.1 (x := rd_I (μ o 3)) rfl (fun h => h _ _) ?_
  refine rd_bipush C dX7_putItem_4 (n := 6) (by decide) ⟨by decide, by decide⟩ ?_
  refine rd_icmp_lt C dX7_putItem_6 (tgt := 10) (by decide) (fun h_6 => ?_) (fun h_6 => ?_)
  · refine rd_aload_n C dX7_putItem_10 rfl ?_
    refine rd_get C rd_g7_4 rf_X7_9 dX7_putItem_11 hS.1 hS.2.2.2.2.2.1 (x := rd_R (o + 1)) rfl (fun _ => trivial) ?_
    refine rd_aload_n C dX7_putItem_14 rfl ?_
    refine rd_get C rd_g7_3 rf_X7_35 dX7_putItem_15 hS.1 hS.2.2.2.2.2.1 (x := rd_I (μ o 3)) rfl (fun h => h _ _) ?_
    refine rd_iload_n C dX7_putItem_18 rfl ?_
    refine rd_iast C rd_ai12 dX7_putItem_19 hS.2.1 hS.2.2.2.2.2.2.1 ⟨by omega, by omega⟩ ?_
    refine rd_aload_n C dX7_putItem_20 rfl ?_
    refine rd_get C rd_g7_5 rf_X7_15 dX7_putItem_21 hS.1 hS.2.2.2.2.2.1 (x := rd_R (o + 2)) rfl (fun _ => trivial) ?_
    refine rd_aload_n C dX7_putItem_24 rfl ?_
    refine rd_getx C rd_g7_3 rf_X7_35 dX7_putItem_25 hS.1 hS.2.2.2.2.2.1 rfl (z := μ o 3) (by rw [rd_u_k _ _ _ (by omega)]) ?_
    refine rd_iload_n C dX7_putItem_28 rfl ?_
    refine rd_iast C rd_ai12 dX7_putItem_29 hS.2.2.1 hS.2.2.2.2.2.2.2.1 ⟨by omega, by omega⟩ ?_
    refine rd_aload_n C dX7_putItem_30 rfl ?_
    refine rd_get C rd_g7_6 rf_X7_18 dX7_putItem_31 hS.1 hS.2.2.2.2.2.1 (x := rd_R (o + 3)) rfl (fun _ => trivial) ?_
    refine rd_aload_n C dX7_putItem_34 rfl ?_
    refine rd_getx C rd_g7_3 rf_X7_35 dX7_putItem_35 hS.1 hS.2.2.2.2.2.1 rfl (z := μ o 3) (by rw [rd_u_k _ _ _ (by omega), rd_u_k _ _ _ (by omega)]) ?_
    refine rd_iload_n C dX7_putItem_38 rfl ?_
    refine rd_iast C rd_ai12 dX7_putItem_39 hS.2.2.2.1 hS.2.2.2.2.2.2.2.2.1 ⟨by omega, by omega⟩ ?_
    refine rd_aload_n C dX7_putItem_40 rfl ?_
    refine rd_dup C dX7_putItem_41 ?_
    refine rd_getx C rd_g7_3 rf_X7_35 dX7_putItem_42 hS.1 hS.2.2.2.2.2.1 rfl (z := μ o 3) (by rw [rd_u_k _ _ _ (by omega), rd_u_k _ _ _ (by omega), rd_u_k _ _ _ (by omega)]) ?_
    refine rd_iconst C dX7_putItem_45 (n := 1) ⟨by decide, by decide⟩ ?_
    refine rd_iadd C dX7_putItem_46 (z := μ o 3 + 1) rfl ⟨by omega, by omega⟩ ?_
    refine rd_put C rd_p7_3 rf_X7_35 dX7_putItem_47 hS.1 hS.2.2.2.2.2.1 trivial ?_
    exact rd_vret C dX7_putItem_50 ⟨rfl, rfl⟩
  · exfalso; omega
def rd_dit (μ : rd_Mem) (o p k n : Int) : rd_Mem := fun a b => if a = o ∧ b = 3 then n else if (a = o + 1 ∨ a = o + 2 ∨ a = o + 3) ∧ (p ≤ b ∧ b < k) then μ a (b + 1) else μ a b
set_option maxHeartbeats 4000000 in
set_option maxRecDepth 100000 in
theorem c_X7_dropItem {l : Launch} {G : rd_G} {r : Nat} {μ : rd_Mem} {o : Int} (hS : rd_isS rd_kc 313 o) {p0 : Int} (h6 : μ o 3 ≤ 6) (hp0 : 0 ≤ p0) (hp1 : p0 < μ o 3) : rd_M l G rd_kc 313 r yX7_dropItem cX7_dropItem 3 none (rd_rm 1 22) [rd_R o, rd_I p0] μ (fun v μ' => v = none ∧ μ' = rd_dit μ o p0 (μ o 3 - 1) (μ o 3 - 1)) := by
  refine rd_enter (by decide +kernel) (Nat.le_of_ble_eq_true rfl) [rd_R o, rd_I p0, rd_J] rfl (fun p e s m args below meth c C => ?_)
  refine rd_W.rng (fun hM hL _ => ?_)
  refine rd_iload_n C dX7_dropItem_0 rfl ?_
  refine rd_iconst C dX7_dropItem_1 (n := 0) ⟨by decide, by decide⟩ ?_
  refine rd_aload_n C dX7_dropItem_2 rfl ?_
  refine rd_get C rd_g7_3 rf_X7_35 dX7_dropItem_3 hS.1 hS.2.2.2.2.2.1 (x := rd_I (μ o 3)) rfl (fun h => h _ _) ?_
  refine rd_iconst C dX7_dropItem_6 (n := 1) ⟨by decide, by decide⟩ ?_
  refine rd_isub C dX7_dropItem_7 (z := μ o 3 - 1) rfl ⟨by omega, by omega⟩ ?_
  refine rd_callSN C (c_X9_isWithin) rx_X7_44 rt_X9_isWithin rc_X9_isWithin rz_X9 ⟨rp_X9_isWithin, rfl, rfl, by decide, by decide⟩ rfl dX7_dropItem_8 rfl (Nat.le_of_ble_eq_true rfl) (fun v1 w1 hq => ?_)
  rcases hq with ⟨hw_11, hv1, hm1⟩ | ⟨hw_11, hv1, hm1⟩
  rotate_left
  · exfalso; omega
  rw [hv1, hm1]; clear hv1 hm1 v1 w1
  refine rd_if_ne C dX7_dropItem_11 (tgt := 15) (by decide) (fun _ => ?_) (fun h => absurd h (by decide))
  refine rd_aload_n C dX7_dropItem_15 rfl ?_
  refine rd_dup C dX7_dropItem_16 ?_
  refine rd_get C rd_g7_3 rf_X7_35 dX7_dropItem_17 hS.1 hS.2.2.2.2.2.1 (x := rd_I (μ o 3)) rfl (fun h => h _ _) ?_
  refine rd_iconst C dX7_dropItem_20 (n := 1) ⟨by decide, by decide⟩ ?_
  refine rd_isub C dX7_dropItem_21 (z := μ o 3 - 1) rfl ⟨by omega, by omega⟩ ?_
  refine rd_put C rd_p7_3 rf_X7_35 dX7_dropItem_22 hS.1 hS.2.2.2.2.2.1 trivial ?_
  refine rd_iload_n C dX7_dropItem_25 rfl ?_
  refine rd_istore_n C dX7_dropItem_26 (by decide) (L' := [rd_R o, rd_I p0, rd_I p0]) rfl ?_
  have lp27 : ∀ (n : Nat) (k : Int) (μ1 : rd_Mem), (p0 ≤ k) → (k ≤ μ o 3 - 1) → (μ o 3 - 1 < k + n) → (μ1 = rd_dit μ o p0 k (μ o 3 - 1)) → rd_W p l e (rd_rm 1 22) s m args below meth c (MQ below (rd_Qc G rd_kc 313 r (fun v μ' => v = none ∧ μ' = rd_dit μ o p0 (μ o 3 - 1) (μ o 3 - 1))) args s 0 0 (rd_A r 313)) 3 G rd_kc 313 r 27 [rd_R o, rd_I p0, rd_I k] [] μ1 := by
    intro n
    induction n with
    | zero => intro k μ1  h1 h2 h3 hm; exfalso; omega
    | succ n ih =>
      intro k μ1  h1 h2 h3 hm
      have hc3 : μ1 o 3 = μ o 3 - 1 := by rw [hm]; simp [rd_dit]
      refine rd_iload_n C dX7_dropItem_27 rfl ?_
      refine rd_aload_n C dX7_dropItem_28 rfl ?_
      refine rd_get C rd_g7_3 rf_X7_35 dX7_dropItem_29 hS.1 hS.2.2.2.2.2.1 (x := rd_I (μ1 o 3)) rfl (fun h => h _ _) ?_
      refine rd_icmp_ge C dX7_dropItem_32 (tgt := 83) (by decide) (fun h_32 => ?_) (fun h_32 => ?_)
      · exact rd_vret C dX7_dropItem_83 ⟨rfl, by rw [hm, show k = μ o 3 - 1 by omega]⟩
      · refine rd_aload_n C dX7_dropItem_35 rfl ?_
        refine rd_get C rd_g7_4 rf_X7_9 dX7_dropItem_36 hS.1 hS.2.2.2.2.2.1 (x := rd_R (o + 1)) rfl (fun _ => trivial) ?_
        refine rd_iload_n C dX7_dropItem_39 rfl ?_
        refine rd_aload_n C dX7_dropItem_40 rfl ?_
        refine rd_get C rd_g7_4 rf_X7_9 dX7_dropItem_41 hS.1 hS.2.2.2.2.2.1 (x := rd_R (o + 1)) rfl (fun _ => trivial) ?_
        refine rd_iload_n C dX7_dropItem_44 rfl ?_
        refine rd_iconst C dX7_dropItem_45 (n := 1) ⟨by decide, by decide⟩ ?_
        refine rd_iadd C dX7_dropItem_46 (z := k + 1) rfl ⟨by omega, by omega⟩ ?_
        refine rd_ialdx C rd_ai12 dX7_dropItem_47 hS.2.1 hS.2.2.2.2.2.2.1 ⟨by omega, by omega⟩ (z := μ1 (o + 1) (k + 1)) rfl ?_
        refine rd_iast C rd_ai12 dX7_dropItem_48 hS.2.1 hS.2.2.2.2.2.2.1 ⟨by omega, by omega⟩ ?_
        refine rd_aload_n C dX7_dropItem_49 rfl ?_
        refine rd_get C rd_g7_5 rf_X7_15 dX7_dropItem_50 hS.1 hS.2.2.2.2.2.1 (x := rd_R (o + 2)) rfl (fun _ => trivial) ?_
        refine rd_iload_n C dX7_dropItem_53 rfl ?_
        refine rd_aload_n C dX7_dropItem_54 rfl ?_
        refine rd_get C rd_g7_5 rf_X7_15 dX7_dropItem_55 hS.1 hS.2.2.2.2.2.1 (x := rd_R (o + 2)) rfl (fun _ => trivial) ?_
        refine rd_iload_n C dX7_dropItem_58 rfl ?_
        refine rd_iconst C dX7_dropItem_59 (n := 1) ⟨by decide, by decide⟩ ?_
        refine rd_iadd C dX7_dropItem_60 (z := k + 1) rfl ⟨by omega, by omega⟩ ?_
        refine rd_ialdx C rd_ai12 dX7_dropItem_61 hS.2.2.1 hS.2.2.2.2.2.2.2.1 ⟨by omega, by omega⟩ (z := μ1 (o + 2) (k + 1)) (by rw [rd_u_k _ _ _ (by omega)]) ?_
        refine rd_iast C rd_ai12 dX7_dropItem_62 hS.2.2.1 hS.2.2.2.2.2.2.2.1 ⟨by omega, by omega⟩ ?_
        refine rd_aload_n C dX7_dropItem_63 rfl ?_
        refine rd_get C rd_g7_6 rf_X7_18 dX7_dropItem_64 hS.1 hS.2.2.2.2.2.1 (x := rd_R (o + 3)) rfl (fun _ => trivial) ?_
        refine rd_iload_n C dX7_dropItem_67 rfl ?_
        refine rd_aload_n C dX7_dropItem_68 rfl ?_
        refine rd_get C rd_g7_6 rf_X7_18 dX7_dropItem_69 hS.1 hS.2.2.2.2.2.1 (x := rd_R (o + 3)) rfl (fun _ => trivial) ?_
        refine rd_iload_n C dX7_dropItem_72 rfl ?_
        refine rd_iconst C dX7_dropItem_73 (n := 1) ⟨by decide, by decide⟩ ?_
        refine rd_iadd C dX7_dropItem_74 (z := k + 1) rfl ⟨by omega, by omega⟩ ?_
        refine rd_ialdx C rd_ai12 dX7_dropItem_75 hS.2.2.2.1 hS.2.2.2.2.2.2.2.2.1 ⟨by omega, by omega⟩ (z := μ1 (o + 3) (k + 1)) (by rw [rd_u_k _ _ _ (by omega), rd_u_k _ _ _ (by omega)]) ?_
        refine rd_iast C rd_ai12 dX7_dropItem_76 hS.2.2.2.1 hS.2.2.2.2.2.2.2.2.1 ⟨by omega, by omega⟩ ?_
        refine rd_iinc C dX7_dropItem_77 (by decide) rfl ⟨by omega, by omega⟩ (L' := [rd_R o, rd_I p0, rd_I (k + 1)]) rfl ?_
        refine rd_goto C dX7_dropItem_80 (tgt := 27) (by decide) ?_
        exact ih (k + 1) _ (by omega) (by omega) (by omega) (by rw [hm]; funext a b; simp only [rd_u, rd_dit]; (repeat' split) <;> first | rfl | (exfalso; omega) | grind)
  exact lp27 (μ o 3).toNat p0 _ (by omega) (by omega) (by omega) (by funext a b; simp only [rd_u, rd_dit]; (repeat' split) <;> first | rfl | (exfalso; omega))
set_option maxHeartbeats 4000000 in
set_option maxRecDepth 100000 in
theorem c_X7_targetOf {l : Launch} {G : rd_G} {r : Nat} {μ : rd_Mem} {o : Int} (hS : rd_isS rd_kc 313 o) {k : Int} : rd_M l G rd_kc 313 r yX7_targetOf cX7_targetOf 2 (some .int) (rd_rm 1 22) [rd_R o, rd_I k] μ (fun v μ' => v = some (rd_I (sp_if (0 ≤ k ∧ k ≤ 9) (μ (o + 4) k) (-1))) ∧ μ' = μ) := by
  refine rd_enter (by decide +kernel) (Nat.le_of_ble_eq_true rfl) [rd_R o, rd_I k] rfl (fun p e s m args below meth c C => ?_)
  refine rd_W.rng (fun hM hL _ => ?_)
  refine rd_iload_n C dX7_targetOf_0 rfl ?_
  refine rd_iconst C dX7_targetOf_1 (n := 0) ⟨by decide, by decide⟩ ?_
  refine rd_bipush C dX7_targetOf_2 (n := 9) (by decide) ⟨by decide, by decide⟩ ?_
  refine rd_callSN C (c_X9_isWithin) rx_X7_44 rt_X9_isWithin rc_X9_isWithin rz_X9 ⟨rp_X9_isWithin, rfl, rfl, by decide, by decide⟩ rfl dX7_targetOf_4 rfl (Nat.le_of_ble_eq_true rfl) (fun v1 w1 hq => ?_)
  rcases hq with ⟨hw_7, hv1, hm1⟩ | ⟨hw_7, hv1, hm1⟩
  · rw [hv1, hm1]; clear hv1 hm1 v1 w1
    refine rd_if_eq C dX7_targetOf_7 (tgt := 19) (by decide) (fun h => absurd h (by decide)) (fun _ => ?_)
    refine rd_aload_n C dX7_targetOf_10 rfl ?_
    refine rd_get C rd_g7_7 rf_X7_21 dX7_targetOf_11 hS.1 hS.2.2.2.2.2.1 (x := rd_R (o + 4)) rfl (fun _ => trivial) ?_
    refine rd_iload_n C dX7_targetOf_14 rfl ?_
    refine rd_ialdx C rd_ai11 dX7_targetOf_15 hS.2.2.2.2.1 hS.2.2.2.2.2.2.2.2.2 ⟨by omega, by omega⟩ (z := μ (o + 4) k) rfl ?_
    refine rd_goto C dX7_targetOf_16 (tgt := 20) (by decide) ?_
    exact rd_iret C dX7_targetOf_20 ⟨by first | rw [sp_ift (by omega)] | rw [sp_iff (by omega)], rfl⟩
  · rw [hv1, hm1]; clear hv1 hm1 v1 w1
    refine rd_if_eq C dX7_targetOf_7 (tgt := 19) (by decide) (fun _ => ?_) (fun h => absurd h (by decide))
    refine rd_iconst C dX7_targetOf_19 (n := -1) ⟨by decide, by decide⟩ ?_
    exact rd_iret C dX7_targetOf_20 ⟨by first | rw [sp_ift (by omega)] | rw [sp_iff (by omega)], rfl⟩
set_option maxHeartbeats 4000000 in
set_option maxRecDepth 100000 in
theorem c_X7_setTarget {l : Launch} {G : rd_G} {r : Nat} {μ : rd_Mem} {o : Int} (hS : rd_isS rd_kc 313 o) {k t : Int} (hk0 : 0 ≤ k) (hk9 : k ≤ 9) : rd_M l G rd_kc 313 r yX7_setTarget cX7_setTarget 3 none (rd_rm 1 22) [rd_R o, rd_I k, rd_I t] μ (fun v μ' => v = none ∧ μ' = rd_u μ (o + 4) k t) := by
  refine rd_enter (by decide +kernel) (Nat.le_of_ble_eq_true rfl) [rd_R o, rd_I k, rd_I t] rfl (fun p e s m args below meth c C => ?_)
  refine rd_W.rng (fun hM hL _ => ?_)
  refine rd_iload_n C dX7_setTarget_0 rfl ?_
  refine rd_iconst C dX7_setTarget_1 (n := 0) ⟨by decide, by decide⟩ ?_
  refine rd_bipush C dX7_setTarget_2 (n := 9) (by decide) ⟨by decide, by decide⟩ ?_
  refine rd_callSN C (c_X9_isWithin) rx_X7_44 rt_X9_isWithin rc_X9_isWithin rz_X9 ⟨rp_X9_isWithin, rfl, rfl, by decide, by decide⟩ rfl dX7_setTarget_4 rfl (Nat.le_of_ble_eq_true rfl) (fun v1 w1 hq => ?_)
  rcases hq with ⟨hw_7, hv1, hm1⟩ | ⟨hw_7, hv1, hm1⟩
  rotate_left
  · exfalso; omega
  rw [hv1, hm1]; clear hv1 hm1 v1 w1
  refine rd_if_eq C dX7_setTarget_7 (tgt := 17) (by decide) (fun h => absurd h (by decide)) (fun _ => ?_)
  refine rd_aload_n C dX7_setTarget_10 rfl ?_
  refine rd_get C rd_g7_7 rf_X7_21 dX7_setTarget_11 hS.1 hS.2.2.2.2.2.1 (x := rd_R (o + 4)) rfl (fun _ => trivial) ?_
  refine rd_iload_n C dX7_setTarget_14 rfl ?_
  refine rd_iload_n C dX7_setTarget_15 rfl ?_
  refine rd_iast C rd_ai11 dX7_setTarget_16 hS.2.2.2.2.1 hS.2.2.2.2.2.2.2.2.2 ⟨by omega, by omega⟩ ?_
  exact rd_vret C dX7_setTarget_17 ⟨rfl, rfl⟩
def rd_dlk (μ : rd_Mem) (o t k : Int) : rd_Mem := fun a b => if a = o + 4 ∧ (0 ≤ b ∧ b < k) ∧ μ a b = t then -1 else μ a b
set_option maxHeartbeats 4000000 in
set_option maxRecDepth 100000 in
theorem c_X7_dropLinksTo {l : Launch} {G : rd_G} {r : Nat} {μ : rd_Mem} {o : Int} (hS : rd_isS rd_kc 313 o) {t : Int} : rd_M l G rd_kc 313 r yX7_dropLinksTo cX7_dropLinksTo 3 none (rd_rm 0 0) [rd_R o, rd_I t] μ (fun v μ' => v = none ∧ μ' = rd_dlk μ o t 10) := by
  refine rd_enter (by decide +kernel) (Nat.le_of_ble_eq_true rfl) [rd_R o, rd_I t, rd_J] rfl (fun p e s m args below meth c C => ?_)
  refine rd_W.rng (fun hM hL _ => ?_)
  refine rd_iconst C dX7_dropLinksTo_0 (n := 0) ⟨by decide, by decide⟩ ?_
  refine rd_istore_n C dX7_dropLinksTo_1 (by decide) (L' := [rd_R o, rd_I t, rd_I 0]) rfl ?_
  have lp2 : ∀ (n : Nat) (k : Int) (μ1 : rd_Mem), (0 ≤ k) → (k ≤ 10) → (10 < k + n) → (μ1 = rd_dlk μ o t k) → rd_W p l e (rd_rm 0 0) s m args below meth c (MQ below (rd_Qc G rd_kc 313 r (fun v μ' => v = none ∧ μ' = rd_dlk μ o t 10)) args s 0 0 (rd_A r 313)) 3 G rd_kc 313 r 2 [rd_R o, rd_I t, rd_I k] [] μ1 := by
    intro n
    induction n with
    | zero => intro k μ1  h1 h2 h3 hm; exfalso; omega
    | succ n ih =>
      intro k μ1  h1 h2 h3 hm
      refine rd_iload_n C dX7_dropLinksTo_2 rfl ?_
      refine rd_aload_n C dX7_dropLinksTo_3 rfl ?_
      refine rd_get C rd_g7_7 rf_X7_21 dX7_dropLinksTo_4 hS.1 hS.2.2.2.2.2.1 (x := rd_R (o + 4)) rfl (fun _ => trivial) ?_
      refine rd_alen C rd_al11 dX7_dropLinksTo_7 hS.2.2.2.2.1 hS.2.2.2.2.2.2.2.2.2 (z := 10) rfl ⟨by decide, by decide⟩ ?_
      refine rd_icmp_ge C dX7_dropLinksTo_8 (tgt := 34) (by decide) (fun h_8 => ?_) (fun h_8 => ?_)
      · exact rd_vret C dX7_dropLinksTo_34 ⟨rfl, by rw [hm, show k = 10 by omega]⟩
      · refine rd_aload_n C dX7_dropLinksTo_11 rfl ?_
        refine rd_get C rd_g7_7 rf_X7_21 dX7_dropLinksTo_12 hS.1 hS.2.2.2.2.2.1 (x := rd_R (o + 4)) rfl (fun _ => trivial) ?_
        refine rd_iload_n C dX7_dropLinksTo_15 rfl ?_
        refine rd_ialdx C rd_ai11 dX7_dropLinksTo_16 hS.2.2.2.2.1 hS.2.2.2.2.2.2.2.2.2 ⟨by omega, by omega⟩ (z := μ1 (o + 4) k) rfl ?_
        refine rd_iload_n C dX7_dropLinksTo_17 rfl ?_
        refine rd_icmp_ne C dX7_dropLinksTo_18 (tgt := 28) (by decide) (fun h_18 => ?_) (fun h_18 => ?_)
        · refine rd_iinc C dX7_dropLinksTo_28 (by decide) rfl ⟨by omega, by omega⟩ (L' := [rd_R o, rd_I t, rd_I (k + 1)]) rfl ?_
          refine rd_goto C dX7_dropLinksTo_31 (tgt := 2) (by decide) ?_
          exact ih (k + 1) _ (by omega) (by omega) (by omega) (by rw [hm] at h_18 ⊢; simp only [rd_dlk] at h_18; funext a b; simp only [rd_u, rd_dlk]; grind)
        · refine rd_aload_n C dX7_dropLinksTo_21 rfl ?_
          refine rd_get C rd_g7_7 rf_X7_21 dX7_dropLinksTo_22 hS.1 hS.2.2.2.2.2.1 (x := rd_R (o + 4)) rfl (fun _ => trivial) ?_
          refine rd_iload_n C dX7_dropLinksTo_25 rfl ?_
          refine rd_iconst C dX7_dropLinksTo_26 (n := -1) ⟨by decide, by decide⟩ ?_
          refine rd_iast C rd_ai11 dX7_dropLinksTo_27 hS.2.2.2.2.1 hS.2.2.2.2.2.2.2.2.2 ⟨by omega, by omega⟩ ?_
          refine rd_iinc C dX7_dropLinksTo_28 (by decide) rfl ⟨by omega, by omega⟩ (L' := [rd_R o, rd_I t, rd_I (k + 1)]) rfl ?_
          refine rd_goto C dX7_dropLinksTo_31 (tgt := 2) (by decide) ?_
          exact ih (k + 1) _ (by omega) (by omega) (by omega) (by rw [hm] at h_18 ⊢; simp only [rd_dlk] at h_18; funext a b; simp only [rd_u, rd_dlk]; grind)
  exact lp2 11 0 _ (by omega) (by omega) (by omega) (by funext a b; simp only [rd_dlk]; (repeat' split) <;> first | rfl | (exfalso; omega))
set_option maxHeartbeats 4000000 in
set_option maxRecDepth 100000 in
theorem c_X7_countLinks {l : Launch} {G : rd_G} {r : Nat} {μ : rd_Mem} {o : Int} (hS : rd_isS rd_kc 313 o) : rd_M l G rd_kc 313 r yX7_countLinks cX7_countLinks 6 (some .int) (rd_rm 0 0) [rd_R o] μ (fun v μ' => v = some (rd_I (sp_lk (μ (o + 4)) 10)) ∧ μ' = μ) := by
  refine rd_enter (by decide +kernel) (Nat.le_of_ble_eq_true rfl) [rd_R o, rd_J, rd_J, rd_J, rd_J, rd_J] rfl (fun p e s m args below meth c C => ?_)
  refine rd_W.rng (fun hM hL _ => ?_)
  refine rd_iconst C dX7_countLinks_0 (n := 0) ⟨by decide, by decide⟩ ?_
  refine rd_istore_n C dX7_countLinks_1 (by decide) (L' := [rd_R o, rd_I 0, rd_J, rd_J, rd_J, rd_J]) rfl ?_
  refine rd_aload_n C dX7_countLinks_2 rfl ?_
  refine rd_get C rd_g7_7 rf_X7_21 dX7_countLinks_3 hS.1 hS.2.2.2.2.2.1 (x := rd_R (o + 4)) rfl (fun _ => trivial) ?_
  refine rd_astore_n C dX7_countLinks_6 (by decide) (L' := [rd_R o, rd_I 0, rd_R (o + 4), rd_J, rd_J, rd_J]) rfl ?_
  refine rd_aload_n C dX7_countLinks_7 rfl ?_
  refine rd_alen C rd_al11 dX7_countLinks_8 hS.2.2.2.2.1 hS.2.2.2.2.2.2.2.2.2 (z := 10) rfl ⟨by decide, by decide⟩ ?_
  refine rd_istore_n C dX7_countLinks_9 (by decide) (L' := [rd_R o, rd_I 0, rd_R (o + 4), rd_I 10, rd_J, rd_J]) rfl ?_
  refine rd_iconst C dX7_countLinks_10 (n := 0) ⟨by decide, by decide⟩ ?_
  refine rd_istore C dX7_countLinks_11 (by decide) (L' := [rd_R o, rd_I 0, rd_R (o + 4), rd_I 10, rd_I 0, rd_J]) rfl ?_
  have lp13 : ∀ (n : Nat) (k : Nat) (x c4 y5 : Int) (J5 : rd_X), (k ≤ 10) → (10 < k + n) → (x = sp_lk (μ (o + 4)) k) → (c4 = (k : Int)) → rd_W p l e (rd_rm 0 0) s m args below meth c (MQ below (rd_Qc G rd_kc 313 r (fun v μ' => v = some (rd_I (sp_lk (μ (o + 4)) 10)) ∧ μ' = μ)) args s 0 0 (rd_A r 313)) 6 G rd_kc 313 r 13 [rd_R o, rd_I x, rd_R (o + 4), rd_I 10, rd_I c4, J5] [] μ := by
    intro n
    induction n with
    | zero => intro k x c4 y5 J5  h2 h3 hx hc; exfalso; omega
    | succ n ih =>
      intro k x c4 y5 J5  h2 h3 hx hc
      refine rd_iload C dX7_countLinks_13 rfl ?_
      refine rd_iload_n C dX7_countLinks_15 rfl ?_
      refine rd_icmp_ge C dX7_countLinks_16 (tgt := 40) (by decide) (fun h_16 => ?_) (fun h_16 => ?_)
      · refine rd_iload_n C dX7_countLinks_40 rfl ?_
        exact rd_iret C dX7_countLinks_41 ⟨by rw [hx, show k = 10 by omega], rfl⟩
      · refine rd_aload_n C dX7_countLinks_19 rfl ?_
        refine rd_iload C dX7_countLinks_20 rfl ?_
        refine rd_ialdx C rd_ai11 dX7_countLinks_22 hS.2.2.2.2.1 hS.2.2.2.2.2.2.2.2.2 ⟨by omega, by omega⟩ (z := μ (o + 4) c4) rfl ?_
        refine rd_istore C dX7_countLinks_23 (by decide) (L' := [rd_R o, rd_I x, rd_R (o + 4), rd_I 10, rd_I c4, rd_I (μ (o + 4) c4)]) rfl ?_
        refine rd_iload C dX7_countLinks_25 rfl ?_
        refine rd_iconst C dX7_countLinks_27 (n := -1) ⟨by decide, by decide⟩ ?_
        refine rd_icmp_eq C dX7_countLinks_28 (tgt := 34) (by decide) (fun h_28 => ?_) (fun h_28 => ?_)
        · refine rd_iinc C dX7_countLinks_34 (by decide) rfl ⟨by omega, by omega⟩ (L' := [rd_R o, rd_I x, rd_R (o + 4), rd_I 10, rd_I (c4 + 1), rd_I (μ (o + 4) c4)]) rfl ?_
          refine rd_goto C dX7_countLinks_37 (tgt := 13) (by decide) ?_
          exact ih (k + 1) _ _ 0 _ (by omega) (by omega) (by simp only [sp_lk]; subst hc; grind) (by omega)
        · refine rd_iinc C dX7_countLinks_31 (by decide) rfl (by have := sp_lk0 (μ (o + 4)) k; exact ⟨by omega, by omega⟩) (L' := [rd_R o, rd_I (x + 1), rd_R (o + 4), rd_I 10, rd_I c4, rd_I (μ (o + 4) c4)]) rfl ?_
          refine rd_iinc C dX7_countLinks_34 (by decide) rfl ⟨by omega, by omega⟩ (L' := [rd_R o, rd_I (x + 1), rd_R (o + 4), rd_I 10, rd_I (c4 + 1), rd_I (μ (o + 4) c4)]) rfl ?_
          refine rd_goto C dX7_countLinks_37 (tgt := 13) (by decide) ?_
          exact ih (k + 1) _ _ 0 _ (by omega) (by omega) (by simp only [sp_lk]; subst hc; grind) (by omega)
  exact lp13 11 0 0 0 0 _ (by omega) (by omega) rfl rfl
set_option maxHeartbeats 4000000 in
set_option maxRecDepth 100000 in
theorem c_X7_finalStep {l : Launch} {G : rd_G} {r : Nat} {μ : rd_Mem} {o : Int} (hS : rd_isS rd_kc 313 o) (h0 : 0 ≤ μ o 3) (h6 : μ o 3 ≤ 6) : rd_M l G rd_kc 313 r yX7_finalStep cX7_finalStep 3 (some .int) (rd_rm 1 40) [rd_R o] μ (fun v μ' => v = some (rd_I (sp_fs (μ (o + 1)) (μ (o + 2)) (μ o 3).toNat)) ∧ μ' = μ) := by
  refine rd_enter (by decide +kernel) (Nat.le_of_ble_eq_true rfl) [rd_R o, rd_J, rd_J] rfl (fun p e s m args below meth c C => ?_)
  refine rd_W.rng (fun hM hL _ => ?_)
  refine rd_iconst C dX7_finalStep_0 (n := 0) ⟨by decide, by decide⟩ ?_
  refine rd_istore_n C dX7_finalStep_1 (by decide) (L' := [rd_R o, rd_I 0, rd_J]) rfl ?_
  refine rd_iconst C dX7_finalStep_2 (n := 0) ⟨by decide, by decide⟩ ?_
  refine rd_istore_n C dX7_finalStep_3 (by decide) (L' := [rd_R o, rd_I 0, rd_I 0]) rfl ?_
  have lp4 : ∀ (n : Nat) (k : Nat) (x c2 : Int), ((k : Int) ≤ μ o 3) → (μ o 3 < k + n) → (x = sp_fs (μ (o + 1)) (μ (o + 2)) k) → (c2 = (k : Int)) → rd_W p l e (rd_rm 1 40) s m args below meth c (MQ below (rd_Qc G rd_kc 313 r (fun v μ' => v = some (rd_I (sp_fs (μ (o + 1)) (μ (o + 2)) (μ o 3).toNat)) ∧ μ' = μ)) args s 0 0 (rd_A r 313)) 3 G rd_kc 313 r 4 [rd_R o, rd_I x, rd_I c2] [] μ := by
    intro n
    induction n with
    | zero => intro k x c2  h2 h3 hx hc; exfalso; omega
    | succ n ih =>
      intro k x c2  h2 h3 hx hc
      refine rd_iload_n C dX7_finalStep_4 rfl ?_
      refine rd_aload_n C dX7_finalStep_5 rfl ?_
      refine rd_get C rd_g7_3 rf_X7_35 dX7_finalStep_6 hS.1 hS.2.2.2.2.2.1 (x := rd_I (μ o 3)) rfl (fun h => h _ _) ?_
      refine rd_icmp_ge C dX7_finalStep_9 (tgt := 63) (by decide) (fun h_9 => ?_) (fun h_9 => ?_)
      · refine rd_iload_n C dX7_finalStep_63 rfl ?_
        exact rd_iret C dX7_finalStep_64 ⟨by rw [hx, show k = (μ o 3).toNat by omega], rfl⟩
      · refine rd_iload_n C dX7_finalStep_12 rfl ?_
        refine rd_aload_n C dX7_finalStep_13 rfl ?_
        refine rd_get C rd_g7_4 rf_X7_9 dX7_finalStep_14 hS.1 hS.2.2.2.2.2.1 (x := rd_R (o + 1)) rfl (fun _ => trivial) ?_
        refine rd_iload_n C dX7_finalStep_17 rfl ?_
        refine rd_ialdx C rd_ai12 dX7_finalStep_18 hS.2.1 hS.2.2.2.2.2.2.1 ⟨by omega, by omega⟩ (z := μ (o + 1) c2) rfl ?_
        refine rd_mmax C rm_X7_48 rt_J9_max_7cf53 rz_J9 rc_J9_max_7cf53 ⟨by decide, by decide⟩ (Nat.le_of_ble_eq_true rfl) dX7_finalStep_19 (z := max x (μ (o + 1) c2)) (by omega) ?_
        refine rd_istore_n C dX7_finalStep_22 (by decide) (L' := [rd_R o, rd_I (max x (μ (o + 1) c2)), rd_I c2]) rfl ?_
        refine rd_aload_n C dX7_finalStep_23 rfl ?_
        refine rd_get C rd_g7_5 rf_X7_15 dX7_finalStep_24 hS.1 hS.2.2.2.2.2.1 (x := rd_R (o + 2)) rfl (fun _ => trivial) ?_
        refine rd_iload_n C dX7_finalStep_27 rfl ?_
        refine rd_ialdx C rd_ai12 dX7_finalStep_28 hS.2.2.1 hS.2.2.2.2.2.2.2.1 ⟨by omega, by omega⟩ (z := μ (o + 2) c2) rfl ?_
        refine rd_iconst C dX7_finalStep_29 (n := -1) ⟨by decide, by decide⟩ ?_
        refine rd_icmp_eq C dX7_finalStep_30 (tgt := 57) (by decide) (fun h_30 => ?_) (fun h_30 => ?_)
        · refine rd_iinc C dX7_finalStep_57 (by decide) rfl ⟨by omega, by omega⟩ (L' := [rd_R o, rd_I (max x (μ (o + 1) c2)), rd_I (c2 + 1)]) rfl ?_
          refine rd_goto C dX7_finalStep_60 (tgt := 4) (by decide) ?_
          exact ih (k + 1) _ _ (by omega) (by omega) (by simp only [sp_fs]; subst hc; subst hx; grind) (by omega)
        · refine rd_aload_n C dX7_finalStep_33 rfl ?_
          refine rd_get C rd_g7_5 rf_X7_15 dX7_finalStep_34 hS.1 hS.2.2.2.2.2.1 (x := rd_R (o + 2)) rfl (fun _ => trivial) ?_
          refine rd_iload_n C dX7_finalStep_37 rfl ?_
          refine rd_ialdx C rd_ai12 dX7_finalStep_38 hS.2.2.1 hS.2.2.2.2.2.2.2.1 ⟨by omega, by omega⟩ (z := μ (o + 2) c2) rfl ?_
          refine rd_bipush C dX7_finalStep_39 (n := 9) (by decide) ⟨by decide, by decide⟩ ?_
          refine rd_icmp_ge C dX7_finalStep_41 (tgt := 57) (by decide) (fun h_41 => ?_) (fun h_41 => ?_)
          · refine rd_iinc C dX7_finalStep_57 (by decide) rfl ⟨by omega, by omega⟩ (L' := [rd_R o, rd_I (max x (μ (o + 1) c2)), rd_I (c2 + 1)]) rfl ?_
            refine rd_goto C dX7_finalStep_60 (tgt := 4) (by decide) ?_
            exact ih (k + 1) _ _ (by omega) (by omega) (by simp only [sp_fs]; subst hc; subst hx; grind) (by omega)
          · refine rd_iload_n C dX7_finalStep_44 rfl ?_
            refine rd_aload_n C dX7_finalStep_45 rfl ?_
            refine rd_get C rd_g7_5 rf_X7_15 dX7_finalStep_46 hS.1 hS.2.2.2.2.2.1 (x := rd_R (o + 2)) rfl (fun _ => trivial) ?_
            refine rd_iload_n C dX7_finalStep_49 rfl ?_
            refine rd_ialdx C rd_ai12 dX7_finalStep_50 hS.2.2.1 hS.2.2.2.2.2.2.2.1 ⟨by omega, by omega⟩ (z := μ (o + 2) c2) rfl ?_
            refine rd_iconst C dX7_finalStep_51 (n := 1) ⟨by decide, by decide⟩ ?_
            refine rd_iadd C dX7_finalStep_52 (z := μ (o + 2) c2 + 1) rfl (by have := hM (o + 2) c2; exact ⟨by omega, by omega⟩) ?_
            refine rd_mmax C rm_X7_48 rt_J9_max_7cf53 rz_J9 rc_J9_max_7cf53 ⟨by decide, by decide⟩ (Nat.le_of_ble_eq_true rfl) dX7_finalStep_53 (z := max (max x (μ (o + 1) c2)) (μ (o + 2) c2 + 1)) (by omega) ?_
            refine rd_istore_n C dX7_finalStep_56 (by decide) (L' := [rd_R o, rd_I (max (max x (μ (o + 1) c2)) (μ (o + 2) c2 + 1)), rd_I c2]) rfl ?_
            refine rd_iinc C dX7_finalStep_57 (by decide) rfl ⟨by omega, by omega⟩ (L' := [rd_R o, rd_I (max (max x (μ (o + 1) c2)) (μ (o + 2) c2 + 1)), rd_I (c2 + 1)]) rfl ?_
            refine rd_goto C dX7_finalStep_60 (tgt := 4) (by decide) ?_
            exact ih (k + 1) _ _ (by omega) (by omega) (by simp only [sp_fs]; subst hc; subst hx; grind) (by omega)
  exact lp4 ((μ o 3).toNat + 1) 0 0 0 (by omega) (by omega) rfl rfl
set_option maxHeartbeats 4000000 in
set_option maxRecDepth 100000 in
theorem c_X7_isSeen {l : Launch} {G : rd_G} {r : Nat} {μ : rd_Mem} {o : Int} (hS : rd_isS rd_kc 313 o) {i t : Int} (hi0 : 0 ≤ i) (hi6 : i < 6) : rd_M l G rd_kc 313 r yX7_isSeen cX7_isSeen 3 (some .boolean) (rd_rm 0 0) [rd_R o, rd_I i, rd_I t] μ (fun v μ' => (sp_seen (μ (o + 1)) (μ (o + 2)) i t ∧ v = some (rd_I 1) ∧ μ' = μ) ∨ (¬ sp_seen (μ (o + 1)) (μ (o + 2)) i t ∧ v = some (rd_I 0) ∧ μ' = μ)) := by
  refine rd_enter (by decide +kernel) (Nat.le_of_ble_eq_true rfl) [rd_R o, rd_I i, rd_I t] rfl (fun p e s m args below meth c C => ?_)
  refine rd_W.rng (fun hM hL _ => ?_)
  refine rd_aload_n C dX7_isSeen_0 rfl ?_
  refine rd_get C rd_g7_4 rf_X7_9 dX7_isSeen_1 hS.1 hS.2.2.2.2.2.1 (x := rd_R (o + 1)) rfl (fun _ => trivial) ?_
  refine rd_iload_n C dX7_isSeen_4 rfl ?_
  refine rd_ialdx C rd_ai12 dX7_isSeen_5 hS.2.1 hS.2.2.2.2.2.2.1 ⟨by omega, by omega⟩ (z := μ (o + 1) i) rfl ?_
  refine rd_iload_n C dX7_isSeen_6 rfl ?_
  refine rd_icmp_gt C dX7_isSeen_7 (tgt := 34) (by decide) (fun h_7 => ?_) (fun h_7 => ?_)
  · refine rd_iconst C dX7_isSeen_34 (n := 0) ⟨by decide, by decide⟩ ?_
    exact rd_zret C dX7_isSeen_35 (by omega) (by first | exact Or.inl ⟨⟨by omega, by omega⟩, rfl, rfl⟩ | exact Or.inr ⟨(fun h => by have h1 := h.1; have h2 := h.2; omega), rfl, rfl⟩)
  · refine rd_aload_n C dX7_isSeen_10 rfl ?_
    refine rd_get C rd_g7_5 rf_X7_15 dX7_isSeen_11 hS.1 hS.2.2.2.2.2.1 (x := rd_R (o + 2)) rfl (fun _ => trivial) ?_
    refine rd_iload_n C dX7_isSeen_14 rfl ?_
    refine rd_ialdx C rd_ai12 dX7_isSeen_15 hS.2.2.1 hS.2.2.2.2.2.2.2.1 ⟨by omega, by omega⟩ (z := μ (o + 2) i) rfl ?_
    refine rd_iconst C dX7_isSeen_16 (n := -1) ⟨by decide, by decide⟩ ?_
    refine rd_icmp_eq C dX7_isSeen_17 (tgt := 30) (by decide) (fun h_17 => ?_) (fun h_17 => ?_)
    · refine rd_iconst C dX7_isSeen_30 (n := 1) ⟨by decide, by decide⟩ ?_
      refine rd_goto C dX7_isSeen_31 (tgt := 35) (by decide) ?_
      exact rd_zret C dX7_isSeen_35 (by omega) (by first | exact Or.inl ⟨⟨by omega, by omega⟩, rfl, rfl⟩ | exact Or.inr ⟨(fun h => by have h1 := h.1; have h2 := h.2; omega), rfl, rfl⟩)
    · refine rd_iload_n C dX7_isSeen_20 rfl ?_
      refine rd_aload_n C dX7_isSeen_21 rfl ?_
      refine rd_get C rd_g7_5 rf_X7_15 dX7_isSeen_22 hS.1 hS.2.2.2.2.2.1 (x := rd_R (o + 2)) rfl (fun _ => trivial) ?_
      refine rd_iload_n C dX7_isSeen_25 rfl ?_
      refine rd_ialdx C rd_ai12 dX7_isSeen_26 hS.2.2.1 hS.2.2.2.2.2.2.2.1 ⟨by omega, by omega⟩ (z := μ (o + 2) i) rfl ?_
      refine rd_icmp_gt C dX7_isSeen_27 (tgt := 34) (by decide) (fun h_27 => ?_) (fun h_27 => ?_)
      · refine rd_iconst C dX7_isSeen_34 (n := 0) ⟨by decide, by decide⟩ ?_
        exact rd_zret C dX7_isSeen_35 (by omega) (by first | exact Or.inl ⟨⟨by omega, by omega⟩, rfl, rfl⟩ | exact Or.inr ⟨(fun h => by have h1 := h.1; have h2 := h.2; omega), rfl, rfl⟩)
      · refine rd_iconst C dX7_isSeen_30 (n := 1) ⟨by decide, by decide⟩ ?_
        refine rd_goto C dX7_isSeen_31 (tgt := 35) (by decide) ?_
        exact rd_zret C dX7_isSeen_35 (by omega) (by first | exact Or.inl ⟨⟨by omega, by omega⟩, rfl, rfl⟩ | exact Or.inr ⟨(fun h => by have h1 := h.1; have h2 := h.2; omega), rfl, rfl⟩)

