def sp_eL (c : Int) : Int := if c = 98 ∨ c = 102 then 4 else if c = 107 then 1 else if c = 116 then 2 else 5
def sp_eM (c : Int) : Int := if c = 59 then 0 else 5
def sp_eB (c e : Int) : Int := if e = 0 then sp_eL c else if e = 1 then (if 48 ≤ c ∧ c ≤ 57 then 4 else 5) else if e = 2 then (if 49 ≤ c ∧ c ≤ 57 then 3 else 5) else if e = 3 then (if 48 ≤ c ∧ c ≤ 57 then 4 else sp_eM c) else sp_eM c
theorem sp_eB_r (c e : Int) : 0 ≤ sp_eB c e ∧ sp_eB c e ≤ 5 := by
  unfold sp_eB sp_eL sp_eM
  (repeat' split) <;> omega
/-- the fault of a text: from place i on, n signs left, in the state e -/
def sp_flt (t : Int → Int) : Nat → Int → Int → Int
  | 0, i, e => if e = 3 ∨ e = 4 then -6 else i
  | n + 1, i, e => if sp_eB (t i) e = 5 then i else sp_flt t n (i + 1) (sp_eB (t i) e)
theorem sp_flt_t {t : Int → Int} {n : Nat} {i e : Int} (h0 : 0 < n) (h : sp_eB (t i) e = 5) : sp_flt t n i e = i := by
  obtain ⟨m, rfl⟩ : ∃ m, n = m + 1 := ⟨n - 1, by omega⟩
  simp [sp_flt, h]
theorem sp_flt_f {t : Int → Int} {n : Nat} {i e : Int} (h0 : 0 < n) (h : sp_eB (t i) e ≠ 5) : sp_flt t n i e = sp_flt t (n - 1) (i + 1) (sp_eB (t i) e) := by
  obtain ⟨m, rfl⟩ : ∃ m, n = m + 1 := ⟨n - 1, by omega⟩
  simp [sp_flt, h]
def sp_nb (t : Int → Int) : Nat → Int → Int → Int
  | 0, _, a => a
  | n + 1, i, a => if 48 ≤ t i ∧ t i ≤ 57 then sp_nb t n (i + 1) (rd_w (rd_w (a * 10) + (t i - 48))) else a
theorem sp_nb_t {t : Int → Int} {n : Nat} {i a : Int} (h0 : 0 < n) (h : 48 ≤ t i ∧ t i ≤ 57) : sp_nb t n i a = sp_nb t (n - 1) (i + 1) (rd_w (rd_w (a * 10) + (t i - 48))) := by
  obtain ⟨m, rfl⟩ : ∃ m, n = m + 1 := ⟨n - 1, by omega⟩
  simp [sp_nb, h]
theorem sp_nb_f {t : Int → Int} {n : Nat} {i a : Int} (h : ¬ (48 ≤ t i ∧ t i ≤ 57)) : sp_nb t n i a = a := by
  cases n with
  | zero => rfl
  | succ n => unfold sp_nb; rw [if_neg h]
def sp_chs (μ : rd_Mem) : Prop := ∀ j : Int, 0 ≤ j → j < μ 308 0 → 0 ≤ μ 309 j ∧ μ 309 j < 65536
set_option maxHeartbeats 4000000 in
set_option maxRecDepth 100000 in
theorem c_X5_isDigit {l : Launch} {G : rd_G} {r : Nat} {μ : rd_Mem} {x : Int} : rd_M l G rd_kc 313 r yX5_isDigit cX5_isDigit 1 (some .boolean) (rd_rm 0 0) [rd_I x] μ (fun v μ' => ((48 ≤ x ∧ x ≤ 57) ∧ v = some (rd_I 1) ∧ μ' = μ) ∨ ((x < 48 ∨ 57 < x) ∧ v = some (rd_I 0) ∧ μ' = μ)) := by
  refine rd_enter (by decide +kernel) (Nat.le_of_ble_eq_true rfl) [rd_I x] rfl (fun p e s m args below meth c C => ?_)
  refine rd_W.rng (fun hM hL _ => ?_)
  refine rd_iload_n C dX5_isDigit_0 rfl ?_
  refine rd_bipush C dX5_isDigit_1 (n := 48) (by decide) ⟨by decide, by decide⟩ ?_
  refine rd_icmp_lt C dX5_isDigit_3 (tgt := 16) (by decide) (fun h_3 => ?_) (fun h_3 => ?_)
  · refine rd_iconst C dX5_isDigit_16 (n := 0) ⟨by decide, by decide⟩ ?_
    exact rd_zret C dX5_isDigit_17 (by omega) (by first | exact Or.inl ⟨⟨by omega, by omega⟩, rfl, rfl⟩ | exact Or.inr ⟨by omega, rfl, rfl⟩)
  · refine rd_iload_n C dX5_isDigit_6 rfl ?_
    refine rd_bipush C dX5_isDigit_7 (n := 57) (by decide) ⟨by decide, by decide⟩ ?_
    refine rd_icmp_gt C dX5_isDigit_9 (tgt := 16) (by decide) (fun h_9 => ?_) (fun h_9 => ?_)
    · refine rd_iconst C dX5_isDigit_16 (n := 0) ⟨by decide, by decide⟩ ?_
      exact rd_zret C dX5_isDigit_17 (by omega) (by first | exact Or.inl ⟨⟨by omega, by omega⟩, rfl, rfl⟩ | exact Or.inr ⟨by omega, rfl, rfl⟩)
    · refine rd_iconst C dX5_isDigit_12 (n := 1) ⟨by decide, by decide⟩ ?_
      refine rd_goto C dX5_isDigit_13 (tgt := 17) (by decide) ?_
      exact rd_zret C dX5_isDigit_17 (by omega) (by first | exact Or.inl ⟨⟨by omega, by omega⟩, rfl, rfl⟩ | exact Or.inr ⟨by omega, rfl, rfl⟩)
set_option maxHeartbeats 4000000 in
set_option maxRecDepth 100000 in
theorem c_X5_expectedBehindMove {l : Launch} {G : rd_G} {r : Nat} {μ : rd_Mem} {x : Int} : rd_M l G rd_kc 313 r yX5_expectedBehindMove cX5_expectedBehindMove 1 (some .int) (rd_rm 0 0) [rd_I x] μ (fun v μ' => v = some (rd_I (sp_eM x)) ∧ μ' = μ) := by
  refine rd_enter (by decide +kernel) (Nat.le_of_ble_eq_true rfl) [rd_I x] rfl (fun p e s m args below meth c C => ?_)
  refine rd_W.rng (fun hM hL _ => ?_)
  refine rd_iload_n C dX5_expectedBehindMove_0 rfl ?_
  refine rd_bipush C dX5_expectedBehindMove_1 (n := 59) (by decide) ⟨by decide, by decide⟩ ?_
  refine rd_icmp_ne C dX5_expectedBehindMove_3 (tgt := 10) (by decide) (fun h_3 => ?_) (fun h_3 => ?_)
  · refine rd_iconst C dX5_expectedBehindMove_10 (n := 5) ⟨by decide, by decide⟩ ?_
    exact rd_iret C dX5_expectedBehindMove_11 ⟨by simp [sp_eM, h_3], rfl⟩
  · refine rd_iconst C dX5_expectedBehindMove_6 (n := 0) ⟨by decide, by decide⟩ ?_
    refine rd_goto C dX5_expectedBehindMove_7 (tgt := 11) (by decide) ?_
    exact rd_iret C dX5_expectedBehindMove_11 ⟨by simp [sp_eM, h_3], rfl⟩
set_option maxHeartbeats 4000000 in
set_option maxRecDepth 100000 in
theorem c_X5_expectedBehindLetter {l : Launch} {G : rd_G} {r : Nat} {μ : rd_Mem} {x : Int} : rd_M l G rd_kc 313 r yX5_expectedBehindLetter cX5_expectedBehindLetter 1 (some .int) (rd_rm 0 0) [rd_I x] μ (fun v μ' => v = some (rd_I (sp_eL x)) ∧ μ' = μ) := by
  refine rd_enter (by decide +kernel) (Nat.le_of_ble_eq_true rfl) [rd_I x] rfl (fun p e s m args below meth c C => ?_)
  refine rd_W.rng (fun hM hL _ => ?_)
  refine rd_iload_n C dX5_expectedBehindLetter_0 rfl ?_
  have h_1 : x = 98 ∨ x = 102 ∨ x = 107 ∨ x = 116 ∨ (x ≠ 98 ∧ x ≠ 102 ∧ x ≠ 107 ∧ x ≠ 116) := by omega
  rcases h_1 with h_1 | h_1 | h_1 | h_1 | h_1
  · refine rd_lsw C dX5_expectedBehindLetter_1 (by decide) (off := 43) (by rw [h_1]; decide) (tgt := 44) (by decide) ?_
    refine rd_iconst C dX5_expectedBehindLetter_44 (n := 4) ⟨by decide, by decide⟩ ?_
    exact rd_iret C dX5_expectedBehindLetter_45 ⟨by simp [sp_eL, h_1], rfl⟩
  · refine rd_lsw C dX5_expectedBehindLetter_1 (by decide) (off := 43) (by rw [h_1]; decide) (tgt := 44) (by decide) ?_
    refine rd_iconst C dX5_expectedBehindLetter_44 (n := 4) ⟨by decide, by decide⟩ ?_
    exact rd_iret C dX5_expectedBehindLetter_45 ⟨by simp [sp_eL, h_1], rfl⟩
  · refine rd_lsw C dX5_expectedBehindLetter_1 (by decide) (off := 45) (by rw [h_1]; decide) (tgt := 46) (by decide) ?_
    refine rd_iconst C dX5_expectedBehindLetter_46 (n := 1) ⟨by decide, by decide⟩ ?_
    exact rd_iret C dX5_expectedBehindLetter_47 ⟨by simp [sp_eL, h_1], rfl⟩
  · refine rd_lsw C dX5_expectedBehindLetter_1 (by decide) (off := 47) (by rw [h_1]; decide) (tgt := 48) (by decide) ?_
    refine rd_iconst C dX5_expectedBehindLetter_48 (n := 2) ⟨by decide, by decide⟩ ?_
    exact rd_iret C dX5_expectedBehindLetter_49 ⟨by simp [sp_eL, h_1], rfl⟩
  · refine rd_lsw C dX5_expectedBehindLetter_1 (by decide) (off := 49) (by simp [Op.lookupswitch.offset]; grind) (tgt := 50) (by decide) ?_
    refine rd_iconst C dX5_expectedBehindLetter_50 (n := 5) ⟨by decide, by decide⟩ ?_
    exact rd_iret C dX5_expectedBehindLetter_51 ⟨by simp [sp_eL, h_1], rfl⟩
set_option maxHeartbeats 4000000 in
set_option maxRecDepth 100000 in
theorem c_X5_isMove {l : Launch} {G : rd_G} {r : Nat} {μ : rd_Mem} {x : Int} : rd_M l G rd_kc 313 r yX5_isMove cX5_isMove 1 (some .boolean) (rd_rm 1 20) [rd_I x] μ (fun v μ' => (sp_eL x ≠ 5 ∧ v = some (rd_I 1) ∧ μ' = μ) ∨ (sp_eL x = 5 ∧ v = some (rd_I 0) ∧ μ' = μ)) := by
  refine rd_enter (by decide +kernel) (Nat.le_of_ble_eq_true rfl) [rd_I x] rfl (fun p e s m args below meth c C => ?_)
  refine rd_W.rng (fun hM hL _ => ?_)
  refine rd_iload_n C dX5_isMove_0 rfl ?_
  refine rd_callS C (c_X5_expectedBehindLetter) rm_X5_31 rt_X5_expectedBehindLetter rc_X5_expectedBehindLetter rz_X5 ⟨rp_X5_expectedBehindLetter, rfl, rfl, by decide, by decide⟩ rfl dX5_isMove_1 rfl (Nat.le_of_ble_eq_true rfl) (fun v1 w1 hq => ?_)
  obtain ⟨hv1, hm1⟩ := hq; rw [hv1, hm1]; clear hv1 hm1 v1 w1
  refine rd_iconst C dX5_isMove_4 (n := 5) ⟨by decide, by decide⟩ ?_
  refine rd_icmp_eq C dX5_isMove_5 (tgt := 12) (by decide) (fun h_5 => ?_) (fun h_5 => ?_)
  · refine rd_iconst C dX5_isMove_12 (n := 0) ⟨by decide, by decide⟩ ?_
    exact rd_zret C dX5_isMove_13 (by omega) (by first | exact Or.inl ⟨h_5, rfl, rfl⟩ | exact Or.inr ⟨h_5, rfl, rfl⟩)
  · refine rd_iconst C dX5_isMove_8 (n := 1) ⟨by decide, by decide⟩ ?_
    refine rd_goto C dX5_isMove_9 (tgt := 13) (by decide) ?_
    exact rd_zret C dX5_isMove_13 (by omega) (by first | exact Or.inl ⟨h_5, rfl, rfl⟩ | exact Or.inr ⟨h_5, rfl, rfl⟩)
set_option maxHeartbeats 4000000 in
set_option maxRecDepth 100000 in
theorem c_X5_expectedBehind {l : Launch} {G : rd_G} {r : Nat} {μ : rd_Mem} {x e0 : Int} (he : 0 ≤ e0 ∧ e0 ≤ 5) : rd_M l G rd_kc 313 r yX5_expectedBehind cX5_expectedBehind 2 (some .int) (rd_rm 1 20) [rd_I x, rd_I e0] μ (fun v μ' => v = some (rd_I (sp_eB x e0)) ∧ μ' = μ) := by
  refine rd_enter (by decide +kernel) (Nat.le_of_ble_eq_true rfl) [rd_I x, rd_I e0] rfl (fun p e s m args below meth c C => ?_)
  refine rd_W.rng (fun hM hL _ => ?_)
  refine rd_iload_n C dX5_expectedBehind_0 rfl ?_
  have h_1 : e0 = 0 ∨ e0 = 1 ∨ e0 = 2 ∨ e0 = 3 ∨ (e0 < 0 ∨ 3 < e0) := by omega
  rcases h_1 with h_1 | h_1 | h_1 | h_1 | h_1
  · refine rd_swIn C dX5_expectedBehind_1 (by omega) (by omega) (off := 31) (by rw [h_1]; rfl) (tgt := 32) (by decide) ?_
    refine rd_iload_n C dX5_expectedBehind_32 rfl ?_
    refine rd_callS C (c_X5_expectedBehindLetter) rm_X5_31 rt_X5_expectedBehindLetter rc_X5_expectedBehindLetter rz_X5 ⟨rp_X5_expectedBehindLetter, rfl, rfl, by decide, by decide⟩ rfl dX5_expectedBehind_33 rfl (Nat.le_of_ble_eq_true rfl) (fun v1 w1 hq => ?_)
    obtain ⟨hv1, hm1⟩ := hq; rw [hv1, hm1]; clear hv1 hm1 v1 w1
    exact rd_iret C dX5_expectedBehind_36 ⟨by (first | subst h_1 | skip); unfold sp_eB; grind, rfl⟩
  · refine rd_swIn C dX5_expectedBehind_1 (by omega) (by omega) (off := 36) (by rw [h_1]; rfl) (tgt := 37) (by decide) ?_
    refine rd_iload_n C dX5_expectedBehind_37 rfl ?_
    refine rd_callS C (c_X5_isDigit) rm_X5_35 rt_X5_isDigit rc_X5_isDigit rz_X5 ⟨rp_X5_isDigit, rfl, rfl, by decide, by decide⟩ rfl dX5_expectedBehind_38 rfl (Nat.le_of_ble_eq_true rfl) (fun v1 w1 hq => ?_)
    rcases hq with ⟨hw_41, hv1, hm1⟩ | ⟨hw_41, hv1, hm1⟩
    · rw [hv1, hm1]; clear hv1 hm1 v1 w1
      refine rd_if_eq C dX5_expectedBehind_41 (tgt := 48) (by decide) (fun h => absurd h (by decide)) (fun _ => ?_)
      refine rd_iconst C dX5_expectedBehind_44 (n := 4) ⟨by decide, by decide⟩ ?_
      refine rd_goto C dX5_expectedBehind_45 (tgt := 49) (by decide) ?_
      exact rd_iret C dX5_expectedBehind_49 ⟨by (first | subst h_1 | skip); unfold sp_eB; grind, rfl⟩
    · rw [hv1, hm1]; clear hv1 hm1 v1 w1
      refine rd_if_eq C dX5_expectedBehind_41 (tgt := 48) (by decide) (fun _ => ?_) (fun h => absurd h (by decide))
      refine rd_iconst C dX5_expectedBehind_48 (n := 5) ⟨by decide, by decide⟩ ?_
      exact rd_iret C dX5_expectedBehind_49 ⟨by (first | subst h_1 | skip); unfold sp_eB; grind, rfl⟩
  · refine rd_swIn C dX5_expectedBehind_1 (by omega) (by omega) (off := 49) (by rw [h_1]; rfl) (tgt := 50) (by decide) ?_
    refine rd_iload_n C dX5_expectedBehind_50 rfl ?_
    refine rd_callS C (c_X5_isDigit) rm_X5_35 rt_X5_isDigit rc_X5_isDigit rz_X5 ⟨rp_X5_isDigit, rfl, rfl, by decide, by decide⟩ rfl dX5_expectedBehind_51 rfl (Nat.le_of_ble_eq_true rfl) (fun v1 w1 hq => ?_)
    rcases hq with ⟨hw_54, hv1, hm1⟩ | ⟨hw_54, hv1, hm1⟩
    · rw [hv1, hm1]; clear hv1 hm1 v1 w1
      refine rd_if_eq C dX5_expectedBehind_54 (tgt := 67) (by decide) (fun h => absurd h (by decide)) (fun _ => ?_)
      refine rd_iload_n C dX5_expectedBehind_57 rfl ?_
      refine rd_bipush C dX5_expectedBehind_58 (n := 48) (by decide) ⟨by decide, by decide⟩ ?_
      refine rd_icmp_eq C dX5_expectedBehind_60 (tgt := 67) (by decide) (fun h_60 => ?_) (fun h_60 => ?_)
      · refine rd_iconst C dX5_expectedBehind_67 (n := 5) ⟨by decide, by decide⟩ ?_
        exact rd_iret C dX5_expectedBehind_68 ⟨by (first | subst h_1 | skip); unfold sp_eB; grind, rfl⟩
      · refine rd_iconst C dX5_expectedBehind_63 (n := 3) ⟨by decide, by decide⟩ ?_
        refine rd_goto C dX5_expectedBehind_64 (tgt := 68) (by decide) ?_
        exact rd_iret C dX5_expectedBehind_68 ⟨by (first | subst h_1 | skip); unfold sp_eB; grind, rfl⟩
    · rw [hv1, hm1]; clear hv1 hm1 v1 w1
      refine rd_if_eq C dX5_expectedBehind_54 (tgt := 67) (by decide) (fun _ => ?_) (fun h => absurd h (by decide))
      refine rd_iconst C dX5_expectedBehind_67 (n := 5) ⟨by decide, by decide⟩ ?_
      exact rd_iret C dX5_expectedBehind_68 ⟨by (first | subst h_1 | skip); unfold sp_eB; grind, rfl⟩
  · refine rd_swIn C dX5_expectedBehind_1 (by omega) (by omega) (off := 68) (by rw [h_1]; rfl) (tgt := 69) (by decide) ?_
    refine rd_iload_n C dX5_expectedBehind_69 rfl ?_
    refine rd_callS C (c_X5_isDigit) rm_X5_35 rt_X5_isDigit rc_X5_isDigit rz_X5 ⟨rp_X5_isDigit, rfl, rfl, by decide, by decide⟩ rfl dX5_expectedBehind_70 rfl (Nat.le_of_ble_eq_true rfl) (fun v1 w1 hq => ?_)
    rcases hq with ⟨hw_73, hv1, hm1⟩ | ⟨hw_73, hv1, hm1⟩
    · rw [hv1, hm1]; clear hv1 hm1 v1 w1
      refine rd_if_eq C dX5_expectedBehind_73 (tgt := 80) (by decide) (fun h => absurd h (by decide)) (fun _ => ?_)
      refine rd_iconst C dX5_expectedBehind_76 (n := 4) ⟨by decide, by decide⟩ ?_
      refine rd_goto C dX5_expectedBehind_77 (tgt := 84) (by decide) ?_
      exact rd_iret C dX5_expectedBehind_84 ⟨by (first | subst h_1 | skip); unfold sp_eB; grind, rfl⟩
    · rw [hv1, hm1]; clear hv1 hm1 v1 w1
      refine rd_if_eq C dX5_expectedBehind_73 (tgt := 80) (by decide) (fun _ => ?_) (fun h => absurd h (by decide))
      refine rd_iload_n C dX5_expectedBehind_80 rfl ?_
      refine rd_callS C (c_X5_expectedBehindMove) rm_X5_39 rt_X5_expectedBehindMove rc_X5_expectedBehindMove rz_X5 ⟨rp_X5_expectedBehindMove, rfl, rfl, by decide, by decide⟩ rfl dX5_expectedBehind_81 rfl (Nat.le_of_ble_eq_true rfl) (fun v1 w1 hq => ?_)
      obtain ⟨hv1, hm1⟩ := hq; rw [hv1, hm1]; clear hv1 hm1 v1 w1
      exact rd_iret C dX5_expectedBehind_84 ⟨by (first | subst h_1 | skip); unfold sp_eB; grind, rfl⟩
  · refine rd_swOut C dX5_expectedBehind_1 h_1 (tgt := 85) (by decide) ?_
    refine rd_iload_n C dX5_expectedBehind_85 rfl ?_
    refine rd_callS C (c_X5_expectedBehindMove) rm_X5_39 rt_X5_expectedBehindMove rc_X5_expectedBehindMove rz_X5 ⟨rp_X5_expectedBehindMove, rfl, rfl, by decide, by decide⟩ rfl dX5_expectedBehind_86 rfl (Nat.le_of_ble_eq_true rfl) (fun v1 w1 hq => ?_)
    obtain ⟨hv1, hm1⟩ := hq; rw [hv1, hm1]; clear hv1 hm1 v1 w1
    exact rd_iret C dX5_expectedBehind_89 ⟨by (first | subst h_1 | skip); unfold sp_eB; grind, rfl⟩
set_option maxHeartbeats 4000000 in
set_option maxRecDepth 100000 in
theorem c_X5_findFault {l : Launch} {G : rd_G} {r : Nat} {μ : rd_Mem} (h0 : 0 ≤ μ 308 0) (h60 : μ 308 0 ≤ 60) (hch : sp_chs μ) : rd_M l G rd_kc 313 r yX5_findFault cX5_findFault 3 (some .int) (rd_rm 2 43) [rd_R 308] μ (fun v μ' => v = some (rd_I (sp_flt (μ 309) (μ 308 0).toNat 0 0)) ∧ μ' = μ) := by
  refine rd_enter (by decide +kernel) (Nat.le_of_ble_eq_true rfl) [rd_R 308, rd_J, rd_J] rfl (fun p e s m args below meth c C => ?_)
  refine rd_W.rng (fun hM hL _ => ?_)
  refine rd_iconst C dX5_findFault_0 (n := 0) ⟨by decide, by decide⟩ ?_
  refine rd_istore_n C dX5_findFault_1 (by decide) (L' := [rd_R 308, rd_I 0, rd_J]) rfl ?_
  refine rd_iconst C dX5_findFault_2 (n := 0) ⟨by decide, by decide⟩ ?_
  refine rd_istore_n C dX5_findFault_3 (by decide) (L' := [rd_R 308, rd_I 0, rd_I 0]) rfl ?_
  have lp4 : ∀ (n : Nat) (n' : Nat) (k e0 : Int), (n' < n) → (0 ≤ k) → (k + n' = μ 308 0) → (0 ≤ e0 ∧ e0 ≤ 5) → (sp_flt (μ 309) n' k e0 = sp_flt (μ 309) (μ 308 0).toNat 0 0) → rd_W p l e (rd_rm 2 43) s m args below meth c (MQ below (rd_Qc G rd_kc 313 r (fun v μ' => v = some (rd_I (sp_flt (μ 309) (μ 308 0).toNat 0 0)) ∧ μ' = μ)) args s 0 0 (rd_A r 313)) 3 G rd_kc 313 r 4 [rd_R 308, rd_I e0, rd_I k] [] μ := by
    intro n
    induction n with
    | zero => intro n' k e0  h1 h2 h3 he hF; exfalso; omega
    | succ n ih =>
      intro n' k e0  h1 h2 h3 he hF
      refine rd_iload_n C dX5_findFault_4 rfl ?_
      refine rd_aload_n C dX5_findFault_5 rfl ?_
      refine rd_get C rd_g5_0 rf_X5_15 dX5_findFault_6 rd_b308 rd_k308 (x := rd_I (μ 308 0)) rfl (fun h => h _ _) ?_
      refine rd_icmp_ge C dX5_findFault_9 (tgt := 35) (by decide) (fun h_9 => ?_) (fun h_9 => ?_)
      · refine rd_iload_n C dX5_findFault_35 rfl ?_
        refine rd_iconst C dX5_findFault_36 (n := 3) ⟨by decide, by decide⟩ ?_
        refine rd_icmp_eq C dX5_findFault_37 (tgt := 45) (by decide) (fun h_37 => ?_) (fun h_37 => ?_)
        · refine rd_bipush C dX5_findFault_45 (n := -6) (by decide) ⟨by decide, by decide⟩ ?_
          refine rd_goto C dX5_findFault_47 (tgt := 54) (by decide) ?_
          exact rd_iret C dX5_findFault_54 ⟨by rw [← hF, show n' = 0 by omega]; simp only [sp_flt]; grind, rfl⟩
        · refine rd_iload_n C dX5_findFault_40 rfl ?_
          refine rd_iconst C dX5_findFault_41 (n := 4) ⟨by decide, by decide⟩ ?_
          refine rd_icmp_ne C dX5_findFault_42 (tgt := 50) (by decide) (fun h_42 => ?_) (fun h_42 => ?_)
          · refine rd_aload_n C dX5_findFault_50 rfl ?_
            refine rd_get C rd_g5_0 rf_X5_15 dX5_findFault_51 rd_b308 rd_k308 (x := rd_I (μ 308 0)) rfl (fun h => h _ _) ?_
            exact rd_iret C dX5_findFault_54 ⟨by rw [← hF, show n' = 0 by omega]; simp only [sp_flt]; grind, rfl⟩
          · refine rd_bipush C dX5_findFault_45 (n := -6) (by decide) ⟨by decide, by decide⟩ ?_
            refine rd_goto C dX5_findFault_47 (tgt := 54) (by decide) ?_
            exact rd_iret C dX5_findFault_54 ⟨by rw [← hF, show n' = 0 by omega]; simp only [sp_flt]; grind, rfl⟩
      · refine rd_aload_n C dX5_findFault_12 rfl ?_
        refine rd_iload_n C dX5_findFault_13 rfl ?_
        refine rd_callV C (c_X5_signAt (i := k) h0 h60 hch) rm_X5_23 ri_X5_signAt rs_X5_signAt rc_X5_signAt rz_X5 ⟨rp_X5_signAt, rfl, rfl, by decide, by decide⟩ rfl rd_kcl5 dX5_findFault_14 rd_b308 rd_k308 rfl (Nat.le_of_ble_eq_true rfl) (fun v1 w1 hq => ?_)
        obtain ⟨hv1, hm1⟩ := hq; rw [hv1, hm1, sp_ift ⟨by omega, by omega⟩]; clear hv1 hm1 v1 w1
        refine rd_iload_n C dX5_findFault_17 rfl ?_
        refine rd_callS C (c_X5_expectedBehind he) rm_X5_27 rt_X5_expectedBehind rc_X5_expectedBehind rz_X5 ⟨rp_X5_expectedBehind, rfl, rfl, by decide, by decide⟩ rfl dX5_findFault_18 rfl (Nat.le_of_ble_eq_true rfl) (fun v1 w1 hq => ?_)
        obtain ⟨hv1, hm1⟩ := hq; rw [hv1, hm1]; clear hv1 hm1 v1 w1
        refine rd_istore_n C dX5_findFault_21 (by decide) (L' := [rd_R 308, rd_I (sp_eB (μ 309 k) e0), rd_I k]) rfl ?_
        refine rd_iload_n C dX5_findFault_22 rfl ?_
        refine rd_iconst C dX5_findFault_23 (n := 5) ⟨by decide, by decide⟩ ?_
        refine rd_icmp_ne C dX5_findFault_24 (tgt := 29) (by decide) (fun h_24 => ?_) (fun h_24 => ?_)
        · refine rd_iinc C dX5_findFault_29 (by decide) rfl ⟨by omega, by omega⟩ (L' := [rd_R 308, rd_I (sp_eB (μ 309 k) e0), rd_I (k + 1)]) rfl ?_
          refine rd_goto C dX5_findFault_32 (tgt := 4) (by decide) ?_
          exact ih (n' - 1) (k + 1) _ (by omega) (by omega) (by omega) (sp_eB_r _ _) (by rw [← hF, sp_flt_f (n := n') (by omega) h_24])
        · refine rd_iload_n C dX5_findFault_27 rfl ?_
          exact rd_iret C dX5_findFault_28 ⟨by rw [← hF, sp_flt_t (n := n') (by omega) h_24], rfl⟩
  exact lp4 ((μ 308 0).toNat + 1) (μ 308 0).toNat 0 0 (by omega) (by omega) (by omega) (by omega) rfl
set_option maxHeartbeats 4000000 in
set_option maxRecDepth 100000 in
theorem c_X5_numberBehind {l : Launch} {G : rd_G} {r : Nat} {μ : rd_Mem} {j0 : Int} (h0 : 0 ≤ μ 308 0) (h60 : μ 308 0 ≤ 60) (hch : sp_chs μ) (hj : 0 ≤ j0) (hj2 : j0 < μ 308 0) : rd_M l G rd_kc 313 r yX5_numberBehind cX5_numberBehind 4 (some .int) (rd_rm 2 43) [rd_R 308, rd_I j0] μ (fun v μ' => v = some (rd_I (sp_nb (μ 309) (μ 308 0 - (j0 + 1)).toNat (j0 + 1) 0)) ∧ μ' = μ) := by
  refine rd_enter (by decide +kernel) (Nat.le_of_ble_eq_true rfl) [rd_R 308, rd_I j0, rd_J, rd_J] rfl (fun p e s m args below meth c C => ?_)
  refine rd_W.rng (fun hM hL _ => ?_)
  refine rd_iconst C dX5_numberBehind_0 (n := 0) ⟨by decide, by decide⟩ ?_
  refine rd_istore_n C dX5_numberBehind_1 (by decide) (L' := [rd_R 308, rd_I j0, rd_I 0, rd_J]) rfl ?_
  refine rd_iload_n C dX5_numberBehind_2 rfl ?_
  refine rd_iconst C dX5_numberBehind_3 (n := 1) ⟨by decide, by decide⟩ ?_
  refine rd_iadd C dX5_numberBehind_4 (z := j0 + 1) rfl ⟨by omega, by omega⟩ ?_
  refine rd_istore_n C dX5_numberBehind_5 (by decide) (L' := [rd_R 308, rd_I j0, rd_I 0, rd_I (j0 + 1)]) rfl ?_
  have lp6 : ∀ (n : Nat) (n' : Nat) (a0 k : Int), (n' < n) → (0 ≤ k) → (k + n' = μ 308 0) → (sp_nb (μ 309) n' k a0 = sp_nb (μ 309) (μ 308 0 - (j0 + 1)).toNat (j0 + 1) 0) → rd_W p l e (rd_rm 2 43) s m args below meth c (MQ below (rd_Qc G rd_kc 313 r (fun v μ' => v = some (rd_I (sp_nb (μ 309) (μ 308 0 - (j0 + 1)).toNat (j0 + 1) 0)) ∧ μ' = μ)) args s 0 0 (rd_A r 313)) 4 G rd_kc 313 r 6 [rd_R 308, rd_I j0, rd_I a0, rd_I k] [] μ := by
    intro n
    induction n with
    | zero => intro n' a0 k  h1 h2 h3 hF; exfalso; omega
    | succ n ih =>
      intro n' a0 k  h1 h2 h3 hF
      refine rd_iload_n C dX5_numberBehind_6 rfl ?_
      refine rd_aload_n C dX5_numberBehind_7 rfl ?_
      refine rd_get C rd_g5_0 rf_X5_15 dX5_numberBehind_8 rd_b308 rd_k308 (x := rd_I (μ 308 0)) rfl (fun h => h _ _) ?_
      refine rd_icmp_ge C dX5_numberBehind_11 (tgt := 45) (by decide) (fun h_11 => ?_) (fun h_11 => ?_)
      · refine rd_iload_n C dX5_numberBehind_45 rfl ?_
        exact rd_iret C dX5_numberBehind_46 ⟨by first | (rw [← hF, sp_nb_f (by omega)]) | (rw [← hF, show n' = 0 by omega]; rfl), rfl⟩
      · refine rd_aload_n C dX5_numberBehind_14 rfl ?_
        refine rd_iload_n C dX5_numberBehind_15 rfl ?_
        refine rd_callV C (c_X5_signAt (i := k) h0 h60 hch) rm_X5_23 ri_X5_signAt rs_X5_signAt rc_X5_signAt rz_X5 ⟨rp_X5_signAt, rfl, rfl, by decide, by decide⟩ rfl rd_kcl5 dX5_numberBehind_16 rd_b308 rd_k308 rfl (Nat.le_of_ble_eq_true rfl) (fun v1 w1 hq => ?_)
        obtain ⟨hv1, hm1⟩ := hq; rw [hv1, hm1, sp_ift ⟨by omega, by omega⟩]; clear hv1 hm1 v1 w1
        refine rd_callS C (c_X5_isDigit) rm_X5_35 rt_X5_isDigit rc_X5_isDigit rz_X5 ⟨rp_X5_isDigit, rfl, rfl, by decide, by decide⟩ rfl dX5_numberBehind_19 rfl (Nat.le_of_ble_eq_true rfl) (fun v1 w1 hq => ?_)
        rcases hq with ⟨hw_22, hv1, hm1⟩ | ⟨hw_22, hv1, hm1⟩
        · rw [hv1, hm1]; clear hv1 hm1 v1 w1
          refine rd_if_eq C dX5_numberBehind_22 (tgt := 45) (by decide) (fun h => absurd h (by decide)) (fun _ => ?_)
          refine rd_iload_n C dX5_numberBehind_25 rfl ?_
          refine rd_bipush C dX5_numberBehind_26 (n := 10) (by decide) ⟨by decide, by decide⟩ ?_
          refine rd_imulw C dX5_numberBehind_28 ?_
          refine rd_aload_n C dX5_numberBehind_29 rfl ?_
          refine rd_iload_n C dX5_numberBehind_30 rfl ?_
          refine rd_callV C (c_X5_signAt (i := k) h0 h60 hch) rm_X5_23 ri_X5_signAt rs_X5_signAt rc_X5_signAt rz_X5 ⟨rp_X5_signAt, rfl, rfl, by decide, by decide⟩ rfl rd_kcl5 dX5_numberBehind_31 rd_b308 rd_k308 rfl (Nat.le_of_ble_eq_true rfl) (fun v1 w1 hq => ?_)
          obtain ⟨hv1, hm1⟩ := hq; rw [hv1, hm1, sp_ift ⟨by omega, by omega⟩]; clear hv1 hm1 v1 w1
          refine rd_bipush C dX5_numberBehind_34 (n := 48) (by decide) ⟨by decide, by decide⟩ ?_
          refine rd_isub C dX5_numberBehind_36 (z := μ 309 k - 48) rfl ⟨by omega, by omega⟩ ?_
          refine rd_iaddw C dX5_numberBehind_37 ?_
          refine rd_istore_n C dX5_numberBehind_38 (by decide) (L' := [rd_R 308, rd_I j0, rd_I (rd_w ((rd_w (a0 * 10)) + (μ 309 k - 48))), rd_I k]) rfl ?_
          refine rd_iinc C dX5_numberBehind_39 (by decide) rfl ⟨by omega, by omega⟩ (L' := [rd_R 308, rd_I j0, rd_I (rd_w ((rd_w (a0 * 10)) + (μ 309 k - 48))), rd_I (k + 1)]) rfl ?_
          refine rd_goto C dX5_numberBehind_42 (tgt := 6) (by decide) ?_
          exact ih (n' - 1) _ (k + 1) (by omega) (by omega) (by omega) (by rw [← hF, sp_nb_t (n := n') (by omega) hw_22])
        · rw [hv1, hm1]; clear hv1 hm1 v1 w1
          refine rd_if_eq C dX5_numberBehind_22 (tgt := 45) (by decide) (fun _ => ?_) (fun h => absurd h (by decide))
          refine rd_iload_n C dX5_numberBehind_45 rfl ?_
          exact rd_iret C dX5_numberBehind_46 ⟨by first | (rw [← hF, sp_nb_f (by omega)]) | (rw [← hF, show n' = 0 by omega]; rfl), rfl⟩
  exact lp6 ((μ 308 0).toNat + 1) (μ 308 0 - (j0 + 1)).toNat 0 (j0 + 1) (by omega) (by omega) (by omega) rfl
