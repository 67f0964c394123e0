/-! the first relation -/
theorem sp_m0_ok : rd_okM sp_m0 := by
  intro a j
  unfold sp_m0 sp_s0 rd_ok
  (repeat' split) <;> omega
theorem sp_n0_ok : rd_okM sp_n0 := by
  intro a j
  unfold sp_n0 rd_ok
  split <;> omega
theorem rl_R0 : rl_R sp_m0 sp_n0 := by
  have m1 : ∀ n j : Int, 0 ≤ n → n ≤ 9 → sp_m0 (5 + 5 * n) j = 0 := fun n j n0 n9 => by
    unfold sp_m0; rw [if_pos (by omega)]; unfold sp_s0; rw [if_neg (by omega), if_neg (by omega)]
  have m4 : ∀ n k : Int, 0 ≤ n → n ≤ 9 → 0 ≤ k → k ≤ 9 → sp_m0 (5 + 5 * n + 4) k = -1 := fun n k n0 n9 k0 k9 => by
    unfold sp_m0; rw [if_pos (by omega)]; unfold sp_s0; rw [if_neg (by omega), if_pos ⟨by omega, by omega, by omega⟩]
  have nth : ∀ n, ¬ sp_th sp_m0 n := fun n h => h.2 (m1 n 0 h.1.1 (by have := h.1.2; omega))
  have n1 : ∀ j : Int, sp_n0 1 j = 0 := fun j => by unfold sp_n0; exact if_neg (fun h => absurd h.1 (by decide))
  have z : ∀ a : Int, a = 1 ∨ a = 2 ∨ a = 55 ∨ a = 62 ∨ a = 308 → sp_m0 a 0 = 0 := fun a ha => by
    rcases ha with h | h | h | h | h <;> subst h <;> rfl
  have z2 : sp_m0 2 0 = 0 := z 2 (by omega)
  have z55 : sp_m0 55 0 = 0 := z 55 (by omega)
  have z62 : sp_m0 62 0 = 0 := z 62 (by omega)
  have z308 : sp_m0 308 0 = 0 := z 308 (by omega)
  have z1 : sp_m0 1 0 = 0 := z 1 (by omega)
  have z585 : sp_m0 58 5 = 0 := rfl
  have z581 : sp_m0 58 1 = 0 := rfl
  have z580 : sp_m0 58 0 = -1 := rfl
  refine ⟨rl_mk1 (by rw [z2]; omega) ⟨fun i i0 i1 => by rw [z2] at i1; omega, fun i j i0 i1 => by rw [z2] at i1; omega, fun n h => absurd h (nth n)⟩ (by rw [n1, z2]) (fun i i0 i1 => by rw [z2] at i1; omega) (fun n n0 n9 => ?_) (by unfold sp_nt; rw [z55]; omega) ⟨by rw [n1, z1], by rw [n1, z55], fun i i0 i1 => by rw [z55] at i1; omega⟩ (by rw [z585]; omega) (by rw [z581]; omega) (fun k k0 k1 => by rw [z585] at k1; omega) (Or.inl ⟨n1 _, z580, by rw [n1]; omega, by rw [n1]; omega, fun k k0 k1 => by rw [n1] at k1; omega⟩), ⟨?_, ?_, by rw [z62]; omega, ?_, fun t t0 t1 => by rw [z62] at t1; omega⟩, ⟨?_, by rw [z308]; omega, fun j j0 j1 => by rw [z308] at j1; omega, fun q q0 q3 => ?_⟩⟩
  · refine ⟨⟨Or.inl (m1 n 0 n0 n9), Or.inl (m1 n 1 n0 n9)⟩, by rw [m1 n 3 n0 n9]; omega, fun q q0 q1 => by rw [m1 n 3 n0 n9] at q1; omega, fun h => absurd h (nth n), fun _ => ⟨⟨m1 n 1 n0 n9, m1 n 2 n0 n9, m1 n 3 n0 n9, fun k k0 k9 => m4 n k n0 n9 k0 k9⟩, ?_⟩⟩
    show sp_n0 1 _ ≠ 1
    rw [n1]; decide
  · rw [z62]; rfl
  · intro t t0 t1
    have : sp_m0 63 t = t := by unfold sp_m0; rw [if_neg (by omega), if_neg (by omega), if_pos rfl, if_pos ⟨t0, t1⟩]
    rw [this]; omega
  · intro s t s0 s1 t0 t1 h
    have e1 : sp_m0 63 t = t := by unfold sp_m0; rw [if_neg (by omega), if_neg (by omega), if_pos rfl, if_pos ⟨t0, t1⟩]
    have e2 : sp_m0 63 s = s := by unfold sp_m0; rw [if_neg (by omega), if_neg (by omega), if_pos rfl, if_pos ⟨s0, s1⟩]
    rw [e1, e2] at h; exact h
  · rw [z308]; rfl
  · have e1 : sp_m0 310 q = -6 := by unfold sp_m0; rw [if_neg (by omega), if_neg (by omega), if_neg (by omega), if_pos rfl]
    rw [e1]; unfold sp_n0; rw [if_pos ⟨rfl, by omega, by omega⟩]
/-! what the contracts ask, out of the relation -/
section RLP
variable {μ ν : rd_Mem}
theorem rl_i (hR : rl_R μ ν) : mo_I ν := (rl_J hR.1).1
theorem rl_l3 (hR : rl_R μ ν) : 0 ≤ ν 0 3 ∧ ν 0 3 ≤ 60 := by rw [hR.2.2.1]; exact hR.2.2.2.1
theorem rl_29 (hR : rl_R μ ν) : ν 1 29 ≠ 0 → ν 1 29 = 1 := fun h => by
  rcases hR.1.2.2.2 with ⟨g, -⟩ | ⟨g, -⟩
  · exact absurd g h
  · exact g
theorem rl_31 (hR : rl_R μ ν) : ν 1 29 ≠ 0 → ν 1 31 ≤ mo_FS ν (ν 1 30) := fun h => by
  have hh := (rl_on29 hR.1).1.mp (rl_29 hR h)
  have hp := rl_pp hR.1 hh
  rw [hp.2.1, hp.2.2.1, rl_FS hR.1.2.1 hh]; exact hp.2.2.2.2.2.2.2.1
theorem rl_sF (hR : rl_R μ ν) : sp_th μ (μ 58 0) → μ 58 1 ≤ sp_FS μ (μ 58 0) := fun h => (rl_pp hR.1 h).2.2.2.2.2.2.2.1
theorem rl_ij (hR : rl_R μ ν) : mo_inj ν := fun i i0 i1 => by
  rw [hR.1.2.1.1] at i1
  rw [hR.1.2.1.2.1 i i0 i1, rl_pl hR.1.2.1]
  exact (hR.1.1.2.2.2.2.2.2.1 i i0 i1).2
theorem rl_hh (hR : rl_R μ ν) : ∀ n, mo_t (mo_sv ν) n → 0 ≤ mo_o (mo_sv ν) n 1 ∧ mo_o (mo_sv ν) n 1 ≤ 1 := fun n h => by
  have hK := rl_keep hR
  have hs := (rl_t hK.1.2.1 n).mp h
  have hb := (hK.1.1.2.1 n hs.1.1 hs.1.2).2
  rw [show (1 : Int) + 4 + 5 * n = 5 + 5 * n by omega] at hb
  rw [(rl_row hK.1.2.1 hs).2.1]
  omega
theorem rl_fr (hR : rl_R μ ν) (h : ν 1 0 ≠ 10) : mo_fr (mo_sv ν) ≠ -1 := fun hf => by
  have hK := rl_keep hR
  refine h ?_
  rw [hR.1.2.1.1, ← rl_klo hR (a := 2) (by omega), ← (rl_free hK.1.1)]
  rw [← hf]
  unfold mo_fr
  refine sp_ff_cl (fun i i0 i1 => ?_)
  show rd_keep μ (5 + 5 * i) 0 = 0 ↔ mo_o (mo_sv ν) i 0 ≠ 1
  have hd := hK.1.2.1.2.2 i i0 (by omega)
  constructor
  · intro h; exact hd.2 (fun g => g.2 h)
  · intro h
    by_cases h3 : rd_keep μ (5 + 5 * i) 0 = 0
    · exact h3
    · exact absurd (hd.1 ⟨⟨i0, by omega⟩, h3⟩).1 h
theorem rl_lt (hR : rl_R μ ν) (h : ν 1 29 ≠ 0) : ∀ q : Int, 0 ≤ q → q < mo_o ν (ν 1 30) 3 → 0 ≤ mo_o ν (ν 1 30) (4 + 3 * q + 2) ∧ mo_o ν (ν 1 30) (4 + 3 * q + 2) ≤ 99 := fun q q0 q1 => by
  have hh := (rl_on29 hR.1).1.mp (rl_29 hR h)
  have hp := rl_pp hR.1 hh
  rw [hp.2.1] at q1 ⊢
  obtain ⟨-, -, -, r3, r4, -⟩ := rl_row hR.1.2.1 hh
  rw [r3] at q1
  rw [(r4 q q0 q1).2.2]
  exact hR.1.1.2.2.2.2.1 _ hh.1.1 hh.1.2 q q0 q1
end RLP
/-! two more of the check's -/
set_option maxHeartbeats 4000000 in
set_option maxRecDepth 100000 in
theorem c_X10_addSlide_f {l : Launch} {G : rd_G} {r : Nat} {μ : rd_Mem} (h10 : μ 1 0 = 10) : rd_M l G rd_km 5 r yX10_addSlide cX10_addSlide 3 (some .int) (rd_rm 2 44) [rd_R 0] μ (fun v μ' => (μ 1 0 = 10 ∧ v = some (rd_I (-4)) ∧ μ' = μ) ∨ (μ 1 0 ≠ 10 ∧ v = some (rd_I (mo_fr (mo_sv μ))) ∧ μ' = mo_ad (mo_sv μ) (mo_fr (mo_sv μ)))) := by
  refine rd_enter (by decide +kernel) (Nat.le_of_ble_eq_true rfl) [rd_R 0, rd_J, rd_J] rfl (fun p e s m args below meth c C => ?_)
  refine rd_W.rng (fun hM hL _ => ?_)
  refine rd_aload_n C dX10_addSlide_0 rfl ?_
  refine rd_get C rd_g10_0 rf_X10_7 dX10_addSlide_1 rd_c0 rd_m0 (x := rd_R (1)) rfl (fun _ => trivial) ?_
  refine rd_iconst C dX10_addSlide_4 (n := 0) ⟨by decide, by decide⟩ ?_
  refine rd_ialdx C rd_ai18 dX10_addSlide_5 rd_c1 rd_m1 ⟨by omega, by omega⟩ (z := μ 1 0) rfl ?_
  refine rd_bipush C dX10_addSlide_6 (n := 10) (by decide) ⟨by decide, by decide⟩ ?_
  refine rd_icmp_ne C dX10_addSlide_8 (tgt := 14) (by decide) (fun h_8 => absurd h10 h_8) (fun h_8 => ?_)
  refine rd_bipush C dX10_addSlide_11 (n := -4) (by decide) ⟨by decide, by decide⟩ ?_
  exact rd_iret C dX10_addSlide_13 (Or.inl ⟨h10, rfl, rfl⟩)
set_option maxHeartbeats 4000000 in
set_option maxRecDepth 100000 in
theorem c_X10_labels_n {l : Launch} {G : rd_G} {r : Nat} {μ : rd_Mem} (h29 : μ 1 29 = 0) : rd_M l G rd_km 5 r yX10_labels cX10_labels 4 (some .int) (rd_rm 2 48) [rd_R 0] μ (fun v μ' => (μ 1 29 = 0 ∧ v = some (rd_I (-6)) ∧ μ' = μ) ∨ (μ 1 29 ≠ 0 ∧ v = some (rd_I (mo_tg μ (μ 1 30) (μ 1 31) (mo_o μ (μ 1 30) 3).toNat)) ∧ μ' = μ)) := by
  refine rd_enter (by decide +kernel) (Nat.le_of_ble_eq_true rfl) [rd_R 0, rd_J, rd_J, rd_J] rfl (fun p e s m args below meth c C => ?_)
  refine rd_W.rng (fun hM hL _ => ?_)
  refine rd_aload_n C dX10_labels_0 rfl ?_
  refine rd_get C rd_g10_0 rf_X10_7 dX10_labels_1 rd_c0 rd_m0 (x := rd_R (1)) rfl (fun _ => trivial) ?_
  refine rd_bipush C dX10_labels_4 (n := 29) (by decide) ⟨by decide, by decide⟩ ?_
  refine rd_ialdx C rd_ai18 dX10_labels_6 rd_c1 rd_m1 ⟨by omega, by omega⟩ (z := μ 1 29) rfl ?_
  refine rd_if_ne C dX10_labels_7 (tgt := 13) (by decide) (fun h_7 => absurd h29 h_7) (fun h_7 => ?_)
  refine rd_bipush C dX10_labels_10 (n := -6) (by decide) ⟨by decide, by decide⟩ ?_
  exact rd_iret C dX10_labels_12 (Or.inl ⟨h29, rfl, rfl⟩)
