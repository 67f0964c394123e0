/-! text, run, queries: the same answer -/
theorem sp_flt_c {t t' : Int → Int} : ∀ (n : Nat) (i e : Int), (∀ j : Int, i ≤ j → j < i + n → t' j = t j) → sp_flt t' n i e = sp_flt t n i e := by
  intro n
  induction n with
  | zero => intro i e _; rfl
  | succ n ih =>
    intro i e h
    simp only [sp_flt]
    rw [h i (Int.le_refl _) (by omega), ih (i + 1) _ (fun j a b => h j (by omega) (by omega))]
theorem sp_nb_c {t t' : Int → Int} : ∀ (n : Nat) (i a : Int), (∀ j : Int, i ≤ j → j < i + n → t' j = t j) → sp_nb t' n i a = sp_nb t n i a := by
  intro n
  induction n with
  | zero => intro i e _; rfl
  | succ n ih =>
    intro i e h
    simp only [sp_nb]
    rw [h i (Int.le_refl _) (by omega), ih (i + 1) _ (fun j a b => h j (by omega) (by omega))]
theorem sp_mvs_cg {t t' : Int → Int} {L : Int} : ∀ (n : Nat) (i : Int), i + n = L → (∀ j : Int, i ≤ j → j < L → t' j = t j) → sp_mvs t' L n i = sp_mvs t L n i := by
  intro n
  induction n with
  | zero => intro i _ _; rfl
  | succ n ih =>
    intro i hL h
    simp only [sp_mvs]
    rw [h i (Int.le_refl _) (by omega), ih (i + 1) (by omega) (fun j a b => h j (by omega) b), sp_nb_c _ _ _ (fun j a b => h j (by omega) (by omega))]
theorem sp_mask_cg {f l f' l' : Int → Int} {st : Int} {n : Nat} (h : ∀ k : Int, 0 ≤ k → k < n → f' k = f k ∧ l' k = l k) : sp_mask f' l' st n = sp_mask f l st n := by
  induction n with
  | zero => rfl
  | succ n ih =>
    obtain ⟨h1, h2⟩ := h n (by omega) (by omega)
    simp only [sp_mask]
    rw [ih (fun k a b => h k a (by omega))]
    unfold sp_seen
    rw [h1, h2]
theorem sp_tags_cg {f l t f' l' t' : Int → Int} {st : Int} {n : Nat} (h : ∀ k : Int, 0 ≤ k → k < n → f' k = f k ∧ l' k = l k ∧ t' k = t k) : sp_tags f' l' t' st n = sp_tags f l t st n := by
  induction n with
  | zero => rfl
  | succ n ih =>
    obtain ⟨h1, h2, h3⟩ := h n (by omega) (by omega)
    simp only [sp_tags]
    rw [ih (fun k a b => h k a (by omega)), h3]
    unfold sp_seen
    rw [h1, h2]
theorem sp_lat_cg {s u s' u' : Int → Int} {c : Int} {n : Nat} (h : ∀ k : Int, 0 ≤ k → k < n → s' k = s k ∧ u' k = u k) : sp_lat s' u' c n = sp_lat s u c n := by
  induction n with
  | zero => rfl
  | succ n ih =>
    obtain ⟨h1, h2⟩ := h n (by omega) (by omega)
    simp only [sp_lat]
    rw [ih (fun k a b => h k a (by omega)), h1, h2]
theorem rl_R_tx {μ μ' ν ν' : rd_Mem} (hR : rl_R μ ν) (ha : ∀ a : Int, a < 308 → μ' a = μ a) (h1 : ν' 1 = ν 1) (h01 : ν' 0 1 = ν 0 1) (hx : rl_x μ' ν') : rl_R μ' ν' :=
  ⟨rl_1_c (fun a _ a1 => ha a (by omega)) (fun j _ _ => by rw [h1]) hR.1, rl_h_c (fun a _ a1 => ha a a1) h01 (fun j _ => by rw [h1]) hR.2.1, hx⟩
theorem rl_R_k3 {μ ν κ : rd_Mem} (h : mo_k3 κ ν) (hR : rl_R μ ν) : rl_R μ κ := by
  have h1 := mo_k3_1 h (p := 1) (by decide)
  refine rl_R_tx hR (fun _ _ => rfl) h1 (h 0 1 (by omega)) ?_
  have hx := hR.2.2
  unfold rl_x at hx ⊢
  rw [h 0 3 (by omega), mo_k3_1 h (p := 2) (by decide), mo_k3_1 h (p := 3) (by decide)]
  exact hx
section RQ
variable {μ ν μ' ν' : rd_Mem} {v w : Option rd_X}
theorem rl_flt (hR : rl_R μ ν) : sp_flt (ν 2) (ν 0 3).toNat 0 0 = sp_flt (μ 309) (μ 308 0).toNat 0 0 := by
  obtain ⟨x1, x2, x3, -⟩ := hR.2.2
  rw [x1]
  exact sp_flt_c _ _ _ (fun j j0 j1 => (x3 j j0 (by omega)).1)
theorem rl_mvs (hR : rl_R μ ν) : sp_mvs (ν 2) (ν 0 3) (ν 0 3).toNat 0 = sp_mvs (μ 309) (μ 308 0) (μ 308 0).toNat 0 := by
  obtain ⟨x1, x2, x3, -⟩ := hR.2.2
  rw [x1]
  exact sp_mvs_cg _ _ (by omega) (fun j j0 j1 => (x3 j j0 j1).1)
set_option maxHeartbeats 2000000 in
theorem ro_append (hR : rl_R μ ν) {c0 : Int} (h1 : ((c0 < 32 ∨ 126 < c0) ∧ v = some (rd_I (-2)) ∧ μ' = μ) ∨ (((32 ≤ c0 ∧ c0 ≤ 126) ∧ 60 ≤ μ 308 0) ∧ v = some (rd_I (-4)) ∧ μ' = μ) ∨ (((32 ≤ c0 ∧ c0 ≤ 126) ∧ μ 308 0 < 60) ∧ v = some (rd_I (μ 308 0 + 1)) ∧ μ' = rd_u (rd_u μ 309 (μ 308 0) c0) 308 0 (μ 308 0 + 1))) (h2 : ((c0 < 32 ∨ 126 < c0) ∧ w = some (rd_I (-2)) ∧ ν' = ν) ∨ (((32 ≤ c0 ∧ c0 ≤ 126) ∧ ν 0 3 = 60) ∧ w = some (rd_I (-4)) ∧ ν' = ν) ∨ (((32 ≤ c0 ∧ c0 ≤ 126) ∧ ν 0 3 ≠ 60) ∧ w = some (rd_I (ν 0 3 + 1)) ∧ ν' = rd_u (rd_u ν 2 (ν 0 3) c0) 0 3 (ν 0 3 + 1))) : w = v ∧ rl_R μ' ν' := by
  have ht := rl_t hR.1.2.1
  obtain ⟨x1, x2, x3, x4⟩ := hR.2.2
  rw [x1] at h2
  rcases h1 with ⟨a, e, m⟩ | ⟨a, e, m⟩ | ⟨a, e, m⟩ <;> rcases h2 with ⟨b, f, n⟩ | ⟨b, f, n⟩ | ⟨b, f, n⟩ <;> first | (constructor <;> first | (rw [e, f]; done) | (rw [m, n]; exact hR)) | (exfalso; clear m n e f hR; grind) | skip
  rw [e, f, m, n]
  refine ⟨rfl, rl_R_tx hR (fun a' ha => by rw [rd_u_ne _ _ _ (by omega), rd_u_ne _ _ _ (by omega)]) (by rw [rd_u_ne _ _ _ (by omega), rd_u_ne _ _ _ (by omega)]) (by rw [rd_u_j _ _ _ (by omega), rd_u_k _ _ _ (by omega)]) ⟨?_, ?_, fun j j0 j1 => ?_, fun k k0 k3 => ?_⟩⟩
  · rw [rd_u_s, rd_u_s]
  · rw [rd_u_s]; omega
  · rw [rd_u_s] at j1
    have n2 : rd_u (rd_u ν 2 (μ 308 0) c0) 0 3 (μ 308 0 + 1) 2 = rd_u ν 2 (μ 308 0) c0 2 := rd_u_ne _ _ _ (by decide)
    have m9 : rd_u (rd_u μ 309 (μ 308 0) c0) 308 0 (μ 308 0 + 1) 309 = rd_u μ 309 (μ 308 0) c0 309 := rd_u_ne _ _ _ (by decide)
    rw [n2, m9]
    by_cases h : j = μ 308 0
    · rw [h, rd_u_s, rd_u_s]; exact ⟨rfl, a.1⟩
    · rw [rd_u_j _ _ _ h, rd_u_j _ _ _ h]; exact x3 j j0 (by omega)
  · rw [rd_u_k _ _ _ (by omega), rd_u_k _ _ _ (by omega), rd_u_k _ _ _ (by omega), rd_u_k _ _ _ (by omega)]; exact x4 k k0 k3
set_option maxHeartbeats 2000000 in
theorem ro_clearText (hR : rl_R μ ν) (h1 : (True ∧ v = some (rd_I (μ 308 0)) ∧ μ' = rd_u μ 308 0 0)) (h2 : True ∧ w = some (rd_I (ν 0 3)) ∧ ν' = rd_u ν 0 3 0) : w = v ∧ rl_R μ' ν' := by
  have ht := rl_t hR.1.2.1
  obtain ⟨x1, x2, x3, x4⟩ := hR.2.2
  rcases h1 with ⟨a, e, m⟩ <;> rcases h2 with ⟨b, f, n⟩ <;> first | (constructor <;> first | (rw [e, f]; done) | (rw [m, n]; exact hR)) | (exfalso; clear m n e f hR; grind) | skip
  rw [e, f, m, n, x1]
  refine ⟨rfl, rl_R_tx hR (fun a' ha => rd_u_ne _ _ _ (by omega)) (rd_u_ne _ _ _ (by omega)) (rd_u_j _ _ _ (by omega)) ⟨?_, ?_, fun j j0 j1 => ?_, fun k k0 k3 => ?_⟩⟩
  · rw [rd_u_s, rd_u_s]
  · rw [rd_u_s]; omega
  · rw [rd_u_s] at j1; omega
  · rw [rd_u_k _ _ _ (by omega), rd_u_k _ _ _ (by omega)]; exact x4 k k0 k3
theorem ro_fault (hR : rl_R μ ν) (h1 : (True ∧ v = some (rd_I (sp_flt (μ 309) (μ 308 0).toNat 0 0)) ∧ μ' = μ)) (h2 : w = some (rd_I (sp_flt (ν 2) (ν 0 3).toNat 0 0)) ∧ mo_k3 ν' ν) : w = v ∧ rl_R μ' ν' := by
  obtain ⟨-, e, m⟩ := h1
  obtain ⟨f, n⟩ := h2
  rw [e, f, m, rl_flt hR]
  exact ⟨rfl, rl_R_k3 n hR⟩
set_option maxHeartbeats 1000000 in
theorem ro_run (hR : rl_R μ ν) (h1 : (sp_flt (μ 309) (μ 308 0).toNat 0 0 ≠ -6 ∧ v = some (rd_I (-3)) ∧ μ' = μ) ∨ (sp_flt (μ 309) (μ 308 0).toNat 0 0 = -6 ∧ v = some (rd_I (rd_rn (sp_mvs (μ 309) (μ 308 0) (μ 308 0).toNat 0) (rd_rpc (rd_keep μ)) 0).1) ∧ μ' = rd_tl (rd_rn (sp_mvs (μ 309) (μ 308 0) (μ 308 0).toNat 0) (rd_rpc (rd_keep μ)) 0).2.1 (rd_rn (sp_mvs (μ 309) (μ 308 0) (μ 308 0).toNat 0) (rd_rpc (rd_keep μ)) 0).1 (rd_rn (sp_mvs (μ 309) (μ 308 0) (μ 308 0).toNat 0) (rd_rpc (rd_keep μ)) 0).2.2)) (h2 : (sp_flt (ν 2) (ν 0 3).toNat 0 0 ≠ -6 ∧ w = some (rd_I (-3)) ∧ mo_k3 ν' ν) ∨ (sp_flt (ν 2) (ν 0 3).toNat 0 0 = -6 ∧ ∃ (κ : rd_Mem) (R : Int) (M : rd_Mem) (f : Int), mo_k3 κ ν ∧ mo_rn (sp_mvs (ν 2) (ν 0 3) (ν 0 3).toNat 0) (mo_sv κ) 0 R M f ∧ w = some (rd_I R) ∧ ν' = mo_rp M R f)) : w = v ∧ rl_R μ' ν' := by
  rw [rl_flt hR, rl_mvs hR] at h2
  rcases h1 with ⟨a, e, m⟩ | ⟨a, e, m⟩ <;> rcases h2 with ⟨b, f, n⟩ | ⟨b, κ, R, M, F, hk, hr, f, n⟩
  · rw [e, f, m]; exact ⟨rfl, rl_R_k3 n hR⟩
  · exact absurd b a
  · exact absurd a b
  · have hRk := rl_R_k3 hk hR
    have hK := rl_keep hRk
    have hJ := rl_J hK.1
    have hL := hR.2.2.2.1
    have hq := sp_mvs_q (t := μ 309) (L := μ 308 0) (μ 308 0).toNat 0 0 (Int.le_refl _) (by omega) a
    have hlo : ∀ x : Int, x ≠ 310 → rd_rpc (rd_keep μ) x = rd_keep μ x := fun x hx => by unfold rd_rpc; rw [rd_u_ne _ _ _ hx, rd_u_ne _ _ _ hx, rd_u_ne _ _ _ hx, rd_u_ne _ _ _ hx]
    have hp : ∀ k : Int, 0 ≤ k → k ≤ 3 → rd_rpc (rd_keep μ) 310 k = -6 := fun k k0 k3 => by
      unfold rd_rpc
      rcases (show k = 0 ∨ k = 1 ∨ k = 2 ∨ k = 3 by omega) with h | h | h | h <;> subst h <;> simp [rd_u]
    have h0 : rl_1 (rd_rpc (rd_keep μ)) (mo_sv κ) := rl_1_c (fun x _ x1 => hlo x (by omega)) (fun _ _ _ => rfl) hK.1
    obtain ⟨g1, g2, g3, g4⟩ := rl_rn _ h0 hq hr
    obtain ⟨o1, o2⟩ := mo_rn_o _ hJ hq hr
    generalize rd_rn (sp_mvs (μ 309) (μ 308 0) (μ 308 0).toNat 0) (rd_rpc (rd_keep μ)) 0 = X at *
    obtain ⟨X1, X2, X3⟩ := X
    simp only at g1 g2 g3 g4 e m
    subst g1 g2
    rw [e, f, m, n]
    refine ⟨rfl, ?_⟩
    have tl : ∀ x : Int, x ≠ 310 → rd_tl X2 X1 X3 x = X2 x := fun x hx => by
      unfold rd_tl
      split
      · rfl
      · rw [rd_u_ne _ _ _ hx, rd_u_ne _ _ _ hx, rd_u_ne _ _ _ hx, rd_u_ne _ _ _ hx]
    have rp : ∀ x : Int, x ≠ 3 → mo_rp M X1 X3 x = M x := fun x hx => by
      unfold mo_rp
      rw [rd_u_ne _ _ _ hx, rd_u_ne _ _ _ hx, rd_u_ne _ _ _ hx, rd_u_ne _ _ _ hx]
    have ho : ∀ x : Int, 62 ≤ x → x ≠ 310 → rd_tl X2 X1 X3 x = rd_keep μ x := fun x x0 hx => by rw [tl x hx, g4 x (by omega), hlo x hx]
    refine ⟨rl_1_c (fun x _ x1 => tl x (by omega)) (fun j _ _ => by rw [rp 1 (by decide)]) g3, rl_h_c (fun x x0 x1 => ho x x0 (by omega)) (by rw [rp 0 (by decide)]; exact o2 0 1 (by decide) (by omega)) (fun j hj => by rw [rp 1 (by decide)]; exact o1 j hj) hK.2.1, ?_⟩
    obtain ⟨x1, x2, x3, x4⟩ := hK.2.2
    unfold rl_x
    rw [ho 308 (by omega) (by omega), ho 309 (by omega) (by omega), rp 0 (by decide), rp 2 (by decide), o2 0 3 (by decide) (by omega)]
    refine ⟨x1, x2, fun j j0 j1 => by rw [o2 2 j (by decide) (by omega)]; exact x3 j j0 j1, fun k k0 k3 => ?_⟩
    have hs := rl_on29 g3
    have hM : (M 1 29 = 1 ∧ X2 58 0 ≠ -1 ∧ M 1 30 = X2 58 0 ∧ M 1 31 = X2 58 1) ∨ (M 1 29 ≠ 1 ∧ X2 58 0 = -1) := by
      rcases g3.2.2.2 with ⟨s1, s2, -⟩ | ⟨s1, s2⟩
      · right; exact ⟨by omega, s2⟩
      · left; exact ⟨s1, by have := s2.1.1; omega, s2.2.1, s2.2.2.1⟩
    by_cases hf : X3 = -1
    · have et : rd_tl X2 X1 X3 310 k = -6 := by unfold rd_tl; rw [if_pos hf, g4 310 (by omega)]; exact hp k k0 k3
      rw [et]
      unfold mo_rp
      simp only [if_pos hf, if_pos (Or.inl hf)]
      rcases (show k = 0 ∨ k = 1 ∨ k = 2 ∨ k = 3 by omega) with h | h | h | h <;> subst h <;> simp [rd_u, hf]
    · unfold rd_tl mo_rp
      rw [if_neg hf, if_neg hf, if_neg hf]
      rcases hM with ⟨s1, s2, s3, s4⟩ | ⟨s1, s2⟩
      · have hc : ¬ (X3 = -1 ∨ M 1 29 ≠ 1) := fun h => h.elim hf (fun g => g s1)
        rw [if_neg hc, if_neg hc, sp_ift s2, sp_ift s2, s3, s4]
        rcases (show k = 0 ∨ k = 1 ∨ k = 2 ∨ k = 3 by omega) with h | h | h | h <;> subst h <;> simp [rd_u]
      · have hc : X3 = -1 ∨ M 1 29 ≠ 1 := Or.inr s1
        have s2' : ¬ (X2 58 0 ≠ -1) := fun h => h s2
        rw [if_pos hc, if_pos hc, sp_iff s2', sp_iff s2']
        rcases (show k = 0 ∨ k = 1 ∨ k = 2 ∨ k = 3 by omega) with h | h | h | h <;> subst h <;> simp [rd_u]
set_option maxHeartbeats 2000000 in
theorem ro_why (hR : rl_R μ ν) {q0 : Int} (h1 : ((0 ≤ q0 ∧ q0 ≤ 3) ∧ v = some (rd_I (μ 310 q0)) ∧ μ' = μ) ∨ ((q0 < 0 ∨ 3 < q0) ∧ v = some (rd_I (-2)) ∧ μ' = μ)) (h2 : ((0 ≤ q0 ∧ q0 ≤ 3) ∧ w = some (rd_I (ν 3 q0)) ∧ ν' = ν) ∨ ((q0 < 0 ∨ 3 < q0) ∧ w = some (rd_I (-2)) ∧ ν' = ν)) : w = v ∧ rl_R μ' ν' := by
  have ht := rl_t hR.1.2.1
  have hx := hR.2.2.2.2.2
  rcases h1 with ⟨a, e, m⟩ | ⟨a, e, m⟩ <;> rcases h2 with ⟨b, f, n⟩ | ⟨b, f, n⟩ <;> first | (constructor <;> first | (rw [e, f]; done) | (rw [m, n]; exact hR)) | (exfalso; clear m n e f hR; grind) | skip
  rw [e, f, m, n, hx q0 a.1 a.2]
  exact ⟨rfl, hR⟩
set_option maxHeartbeats 2000000 in
theorem ro_undo (hR : rl_R μ ν) (h1 : (μ 62 0 = 0 ∧ v = some (rd_I (-6)) ∧ μ' = μ) ∨ (0 < μ 62 0 ∧ v = some (rd_I (μ 62 0 - 1)) ∧ μ' = rd_rst μ)) (h2 : (ν 0 1 = 0 ∧ w = some (rd_I (-6)) ∧ ν' = ν) ∨ (ν 0 1 ≠ 0 ∧ w = some (rd_I (ν 0 1 - 1)) ∧ ν' = mo_un ν)) : w = v ∧ rl_R μ' ν' := by
  have ht := rl_t hR.1.2.1
  have hx := hR.2.1.1
  rw [hx] at h2
  rcases h1 with ⟨a, e, m⟩ | ⟨a, e, m⟩ <;> rcases h2 with ⟨b, f, n⟩ | ⟨b, f, n⟩ <;> first | (constructor <;> first | (rw [e, f]; done) | (rw [m, n]; exact hR)) | (exfalso; clear m n e f hR; grind) | skip
  rw [e, f, m, n]
  exact ⟨rfl, rl_undo hR a⟩
set_option maxHeartbeats 2000000 in
theorem ro_slides (hR : rl_R μ ν) (h1 : (True ∧ v = some (rd_I (μ 2 0)) ∧ μ' = μ)) (h2 : True ∧ w = some (rd_I (ν 1 0)) ∧ ν' = ν) : w = v ∧ rl_R μ' ν' := by
  have ht := rl_t hR.1.2.1
  rcases h1 with ⟨a, e, m⟩ <;> rcases h2 with ⟨b, f, n⟩ <;> first | (constructor <;> first | (rw [e, f]; done) | (rw [m, n]; exact hR)) | (exfalso; clear m n e f hR; grind) | skip
  rw [e, f, m, n, hR.1.2.1.1]
  exact ⟨rfl, hR⟩
set_option maxHeartbeats 2000000 in
theorem ro_end (hR : rl_R μ ν) (h1 : (True ∧ v = some (rd_I (μ 1 0)) ∧ μ' = μ)) (h2 : True ∧ w = some (rd_I (ν 1 28)) ∧ ν' = ν) : w = v ∧ rl_R μ' ν' := by
  have ht := rl_t hR.1.2.1
  rcases h1 with ⟨a, e, m⟩ <;> rcases h2 with ⟨b, f, n⟩ <;> first | (constructor <;> first | (rw [e, f]; done) | (rw [m, n]; exact hR)) | (exfalso; clear m n e f hR; grind) | skip
  rw [e, f, m, n, hR.1.2.2.1.1]
  exact ⟨rfl, hR⟩
set_option maxHeartbeats 2000000 in
theorem ro_slideAt (hR : rl_R μ ν) {p0 : Int} (h1 : (p0 < 0 ∧ v = some (rd_I (-2)) ∧ μ' = μ) ∨ ((0 ≤ p0 ∧ sp_if (0 ≤ p0 ∧ p0 < μ 2 0) (μ 3 p0) (-1) = -1) ∧ v = some (rd_I (-6)) ∧ μ' = μ) ∨ ((0 ≤ p0 ∧ sp_if (0 ≤ p0 ∧ p0 < μ 2 0) (μ 3 p0) (-1) ≠ -1) ∧ v = some (rd_I (sp_if (0 ≤ p0 ∧ p0 < μ 2 0) (μ 3 p0) (-1))) ∧ μ' = μ)) (h2 : (p0 < 0 ∧ w = some (rd_I (-2)) ∧ ν' = ν) ∨ (ν 1 0 ≤ p0 ∧ w = some (rd_I (-6)) ∧ ν' = ν) ∨ ((0 ≤ p0 ∧ p0 < ν 1 0) ∧ w = some (rd_I (ν 1 (1 + p0))) ∧ ν' = ν)) : w = v ∧ rl_R μ' ν' := by
  have ht := rl_t hR.1.2.1
  have hc : ν 1 0 = μ 2 0 := hR.1.2.1.1
  have hth := hR.1.1.2.2.2.2.2.2.1
  have hcn := hR.1.1.1.1.1
  have hi : (0 ≤ p0 ∧ p0 < μ 2 0) → sp_if (0 ≤ p0 ∧ p0 < μ 2 0) (μ 3 p0) (-1) = μ 3 p0 ∧ μ 3 p0 ≠ -1 ∧ ν 1 (1 + p0) = μ 3 p0 := fun h => ⟨sp_ift h _ _, by have := (hth p0 h.1 h.2).1.1; omega, hR.1.2.1.2.1 p0 h.1 h.2⟩
  have hi2 : ¬ (0 ≤ p0 ∧ p0 < μ 2 0) → sp_if (0 ≤ p0 ∧ p0 < μ 2 0) (μ 3 p0) (-1) = -1 := fun h => sp_iff h _ _
  rw [hc] at h2
  generalize hA : sp_if (0 ≤ p0 ∧ p0 < μ 2 0) (μ 3 p0) (-1) = A at *
  clear ht hth hc
  rcases h1 with ⟨a, e, m⟩ | ⟨a, e, m⟩ | ⟨a, e, m⟩ <;> rcases h2 with ⟨b, f, n⟩ | ⟨b, f, n⟩ | ⟨b, f, n⟩ <;> first | (constructor <;> first | (rw [e, f]; done) | (rw [m, n]; exact hR)) | (exfalso; clear m n e f hR; grind) | skip
  obtain ⟨y1, y2, y3⟩ := hi b
  rw [e, f, m, n, y3, y1]
  exact ⟨rfl, hR⟩
set_option maxHeartbeats 2000000 in
theorem ro_slide (hR : rl_R μ ν) {x q0 : Int} (h1 : (¬ sp_th μ x ∧ v = some (rd_I (-1)) ∧ μ' = μ) ∨ ((sp_th μ x ∧ (q0 < 0 ∨ 5 < q0)) ∧ v = some (rd_I (-2)) ∧ μ' = μ) ∨ ((sp_th μ x ∧ q0 = 0) ∧ v = some (rd_I (sp_pl μ x)) ∧ μ' = μ) ∨ ((sp_th μ x ∧ q0 = 1) ∧ v = some (rd_I (if μ (5 + 5 * x) 1 = 0 then 0 else 1)) ∧ μ' = μ) ∨ ((sp_th μ x ∧ q0 = 2) ∧ v = some (rd_I (μ (5 + 5 * x) 2)) ∧ μ' = μ) ∨ ((sp_th μ x ∧ q0 = 3) ∧ v = some (rd_I (μ (5 + 5 * x) 3)) ∧ μ' = μ) ∨ ((sp_th μ x ∧ q0 = 4) ∧ v = some (rd_I (sp_FS μ x)) ∧ μ' = μ) ∨ ((sp_th μ x ∧ q0 = 5) ∧ v = some (rd_I (sp_lk (μ (5 + 5 * x + 4)) 10)) ∧ μ' = μ)) (h2 : (¬ mo_t ν x ∧ w = some (rd_I (-1)) ∧ ν' = ν) ∨ ((mo_t ν x ∧ (q0 < 0 ∨ 5 < q0)) ∧ w = some (rd_I (-2)) ∧ ν' = ν) ∨ ((mo_t ν x ∧ q0 = 0) ∧ w = some (rd_I (mo_pl ν x)) ∧ ν' = ν) ∨ ((mo_t ν x ∧ (1 ≤ q0 ∧ q0 ≤ 3)) ∧ w = some (rd_I (mo_o ν x q0)) ∧ ν' = ν) ∨ ((mo_t ν x ∧ q0 = 4) ∧ w = some (rd_I (mo_FS ν x)) ∧ ν' = ν) ∨ ((mo_t ν x ∧ q0 = 5) ∧ w = some (rd_I (mo_lk (fun q => mo_o ν x (22 + q)) 10)) ∧ ν' = ν)) : w = v ∧ rl_R μ' ν' := by
  have ht := rl_t hR.1.2.1
  rw [ht] at h2
  have hv : sp_th μ x → mo_pl ν x = sp_pl μ x ∧ (mo_o ν x 1 = if μ (5 + 5 * x) 1 = 0 then 0 else 1) ∧ mo_o ν x 2 = μ (5 + 5 * x) 2 ∧ mo_o ν x 3 = μ (5 + 5 * x) 3 ∧ mo_FS ν x = sp_FS μ x ∧ mo_lk (fun q => mo_o ν x (22 + q)) 10 = sp_lk (μ (5 + 5 * x + 4)) 10 := fun hx => by
    have hr := rl_row hR.1.2.1 hx
    have hg := (hR.1.1.2.2.2.2.2.2.2 x hx.1.1 (by have := hx.1.2; omega)).1 hx
    have hb := (hR.1.1.2.1 x hx.1.1 hx.1.2).2
    rw [show (1 : Int) + 4 + 5 * x = 5 + 5 * x by omega] at hb
    refine ⟨rl_pl hR.1.2.1 x, ?_, hr.2.2.1, hr.2.2.2.1, rl_FS hR.1.2.1 hx, rl_lk hg hr 10 (Nat.le_refl _)⟩
    rw [hr.2.1]
    rcases hb with h | h <;> rw [h]
    · rfl
    · rfl
  have hq : ∀ k : Int, q0 = k → mo_o ν x q0 = mo_o ν x k := fun k h => by rw [h]
  generalize hA : mo_lk (fun q => mo_o ν x (22 + q)) 10 = A at *
  generalize hB : sp_lk (μ (5 + 5 * x + 4)) 10 = B at *
  clear ht
  rcases h1 with ⟨a, e, m⟩ | ⟨a, e, m⟩ | ⟨a, e, m⟩ | ⟨a, e, m⟩ | ⟨a, e, m⟩ | ⟨a, e, m⟩ | ⟨a, e, m⟩ | ⟨a, e, m⟩ <;> rcases h2 with ⟨b, f, n⟩ | ⟨b, f, n⟩ | ⟨b, f, n⟩ | ⟨b, f, n⟩ | ⟨b, f, n⟩ | ⟨b, f, n⟩ <;> first | (constructor <;> first | (rw [e, f]; done) | (rw [m, n]; exact hR)) | (exfalso; clear m n e f hR; grind) | (refine ⟨?_, by rw [m, n]; exact hR⟩; rw [e, f]; first | rw [(hv a.1).1] | rw [hq 1 a.2, (hv a.1).2.1] | rw [hq 2 a.2, (hv a.1).2.2.1] | rw [hq 3 a.2, (hv a.1).2.2.2.1] | rw [(hv a.1).2.2.2.2.1] | rw [(hv a.1).2.2.2.2.2])
set_option maxHeartbeats 2000000 in
theorem ro_item (hR : rl_R μ ν) {x p0 q0 : Int} (h1 : ((¬ sp_th μ x ∨ p0 < 0 ∨ μ (5 + 5 * x) 3 - 1 < p0) ∧ v = some (rd_I (-1)) ∧ μ' = μ) ∨ ((sp_th μ x ∧ (0 ≤ p0 ∧ p0 ≤ μ (5 + 5 * x) 3 - 1) ∧ (q0 < 0 ∨ 2 < q0)) ∧ v = some (rd_I (-2)) ∧ μ' = μ) ∨ ((sp_th μ x ∧ (0 ≤ p0 ∧ p0 ≤ μ (5 + 5 * x) 3 - 1) ∧ q0 = 0) ∧ v = some (rd_I (μ (5 + 5 * x + 1) p0)) ∧ μ' = μ) ∨ ((sp_th μ x ∧ (0 ≤ p0 ∧ p0 ≤ μ (5 + 5 * x) 3 - 1) ∧ q0 = 1) ∧ v = some (rd_I (if μ (5 + 5 * x + 2) p0 = -1 then -6 else μ (5 + 5 * x + 2) p0)) ∧ μ' = μ) ∨ ((sp_th μ x ∧ (0 ≤ p0 ∧ p0 ≤ μ (5 + 5 * x) 3 - 1) ∧ q0 = 2) ∧ v = some (rd_I (μ (5 + 5 * x + 3) p0)) ∧ μ' = μ)) (h2 : (¬ (mo_t ν x ∧ 0 ≤ p0 ∧ p0 ≤ mo_o ν x 3 - 1) ∧ w = some (rd_I (-1)) ∧ ν' = ν) ∨ (((mo_t ν x ∧ 0 ≤ p0 ∧ p0 ≤ mo_o ν x 3 - 1) ∧ (q0 < 0 ∨ 2 < q0)) ∧ w = some (rd_I (-2)) ∧ ν' = ν) ∨ (((mo_t ν x ∧ 0 ≤ p0 ∧ p0 ≤ mo_o ν x 3 - 1) ∧ (0 ≤ q0 ∧ q0 ≤ 2)) ∧ w = some (rd_I (if mo_o ν x (4 + 3 * p0 + q0) = -1 then -6 else mo_o ν x (4 + 3 * p0 + q0))) ∧ ν' = ν)) : w = v ∧ rl_R μ' ν' := by
  have ht := rl_t hR.1.2.1
  have h3 : sp_th μ x → mo_o ν x 3 = μ (5 + 5 * x) 3 := fun hx => (rl_row hR.1.2.1 hx).2.2.2.1
  have hv : sp_th μ x → (0 ≤ p0 ∧ p0 ≤ μ (5 + 5 * x) 3 - 1) → (mo_o ν x (4 + 3 * p0 + 0) = μ (5 + 5 * x + 1) p0 ∧ mo_o ν x (4 + 3 * p0 + 1) = μ (5 + 5 * x + 2) p0 ∧ mo_o ν x (4 + 3 * p0 + 2) = μ (5 + 5 * x + 3) p0) ∧ μ (5 + 5 * x + 1) p0 ≠ -1 ∧ μ (5 + 5 * x + 3) p0 ≠ -1 := fun hx hp => by
    have hr := (rl_row hR.1.2.1 hx).2.2.2.2.1 p0 hp.1 (by omega)
    have hg := ((hR.1.1.2.2.2.2.2.2.2 x hx.1.1 (by have := hx.1.2; omega)).1 hx).2.1 p0 hp.1 (by omega)
    have htg := hR.1.1.2.2.2.2.1 x hx.1.1 hx.1.2 p0 hp.1 (by omega)
    rw [Int.add_zero]
    exact ⟨hr, by omega, by omega⟩
  rw [ht] at h2
  clear ht
  rcases h1 with ⟨a, e, m⟩ | ⟨a, e, m⟩ | ⟨a, e, m⟩ | ⟨a, e, m⟩ | ⟨a, e, m⟩ <;> rcases h2 with ⟨b, f, n⟩ | ⟨b, f, n⟩ | ⟨b, f, n⟩ <;> first | (constructor <;> first | (rw [e, f]; done) | (rw [m, n]; exact hR)) | (exfalso; clear m n e f hR; grind) | skip
  · have hv' := hv a.1 a.2.1
    refine ⟨?_, by rw [m, n]; exact hR⟩
    rw [e, f, a.2.2, hv'.1.1, if_neg hv'.2.1]
  · have hv' := hv a.1 a.2.1
    refine ⟨?_, by rw [m, n]; exact hR⟩
    rw [e, f, a.2.2, hv'.1.2.1]
  · have hv' := hv a.1 a.2.1
    refine ⟨?_, by rw [m, n]; exact hR⟩
    rw [e, f, a.2.2, hv'.1.2.2, if_neg hv'.2.2]
set_option maxHeartbeats 2000000 in
theorem ro_target (hR : rl_R μ ν) {x k0 : Int} (h1 : (¬ sp_th μ x ∧ v = some (rd_I (-1)) ∧ μ' = μ) ∨ ((sp_th μ x ∧ (k0 < 0 ∨ 9 < k0)) ∧ v = some (rd_I (-2)) ∧ μ' = μ) ∨ ((sp_th μ x ∧ (0 ≤ k0 ∧ k0 ≤ 9)) ∧ v = some (rd_I (if μ (5 + 5 * x + 4) k0 = -1 then -6 else μ (5 + 5 * x + 4) k0)) ∧ μ' = μ)) (h2 : (¬ mo_t ν x ∧ w = some (rd_I (-1)) ∧ ν' = ν) ∨ ((mo_t ν x ∧ (k0 < 0 ∨ 9 < k0)) ∧ w = some (rd_I (-2)) ∧ ν' = ν) ∨ ((mo_t ν x ∧ (0 ≤ k0 ∧ k0 ≤ 9)) ∧ w = some (rd_I (mo_o ν x (22 + k0))) ∧ ν' = ν)) : w = v ∧ rl_R μ' ν' := by
  have ht := rl_t hR.1.2.1
  rw [ht] at h2
  clear ht
  rcases h1 with ⟨a, e, m⟩ | ⟨a, e, m⟩ | ⟨a, e, m⟩ <;> rcases h2 with ⟨b, f, n⟩ | ⟨b, f, n⟩ | ⟨b, f, n⟩ <;> first | (constructor <;> first | (rw [e, f]; done) | (rw [m, n]; exact hR)) | (exfalso; clear m n e f hR; grind) | skip
  rw [e, f, m, n, (rl_row hR.1.2.1 a.1).2.2.2.2.2 k0 a.2.1 a.2.2]
  exact ⟨rfl, hR⟩
set_option maxHeartbeats 2000000 in
theorem ro_picture (hR : rl_R μ ν) {x t0 : Int} (h1 : (¬ sp_th μ x ∧ v = some (rd_I (-1)) ∧ μ' = μ) ∨ ((sp_th μ x ∧ (t0 < 0 ∨ 9 < t0)) ∧ v = some (rd_I (-2)) ∧ μ' = μ) ∨ ((sp_th μ x ∧ (0 ≤ t0 ∧ t0 ≤ 9)) ∧ v = some (rd_I (sp_mask (μ (5 + 5 * x + 1)) (μ (5 + 5 * x + 2)) t0 (μ (5 + 5 * x) 3).toNat)) ∧ μ' = μ)) (h2 : (¬ mo_t ν x ∧ w = some (rd_I (-1)) ∧ ν' = ν) ∨ ((mo_t ν x ∧ (t0 < 0 ∨ 9 < t0)) ∧ w = some (rd_I (-2)) ∧ ν' = ν) ∨ ((mo_t ν x ∧ (0 ≤ t0 ∧ t0 ≤ 9)) ∧ w = some (rd_I (mo_mk ν x t0 (mo_o ν x 3).toNat)) ∧ ν' = ν)) : w = v ∧ rl_R μ' ν' := by
  have ht := rl_t hR.1.2.1
  rw [ht] at h2
  clear ht
  rcases h1 with ⟨a, e, m⟩ | ⟨a, e, m⟩ | ⟨a, e, m⟩ <;> rcases h2 with ⟨b, f, n⟩ | ⟨b, f, n⟩ | ⟨b, f, n⟩ <;> first | (constructor <;> first | (rw [e, f]; done) | (rw [m, n]; exact hR)) | (exfalso; clear m n e f hR; grind) | skip
  obtain ⟨r0, r1, r2, r3, r4, -⟩ := rl_row hR.1.2.1 a.1
  refine ⟨?_, by rw [m, n]; exact hR⟩
  rw [e, f]
  unfold mo_mk
  rw [r3]
  congr 2
  exact sp_mask_cg (fun k k0 k1 => ⟨(r4 k k0 (by omega)).1, (r4 k k0 (by omega)).2.1⟩)
set_option maxHeartbeats 2000000 in
theorem ro_now (hR : rl_R μ ν) {q0 : Int} (h1 : ((q0 < 0 ∨ 6 < q0) ∧ v = some (rd_I (-2)) ∧ μ' = μ) ∨ (((0 ≤ q0 ∧ q0 ≤ 6) ∧ ¬ sp_th μ (μ 58 0)) ∧ v = some (rd_I (-6)) ∧ μ' = μ) ∨ ((sp_th μ (μ 58 0) ∧ q0 = 0) ∧ v = some (rd_I (μ 58 0)) ∧ μ' = μ) ∨ ((sp_th μ (μ 58 0) ∧ q0 = 1) ∧ v = some (rd_I (μ 58 1)) ∧ μ' = μ) ∨ ((sp_th μ (μ 58 0) ∧ q0 = 2) ∧ v = some (rd_I (μ 58 3)) ∧ μ' = μ) ∨ ((sp_th μ (μ 58 0) ∧ q0 = 3) ∧ v = some (rd_I (μ 58 4)) ∧ μ' = μ) ∨ ((sp_th μ (μ 58 0) ∧ q0 = 4) ∧ v = some (rd_I (μ 58 5)) ∧ μ' = μ) ∨ ((sp_th μ (μ 58 0) ∧ q0 = 5 ∧ sp_over μ) ∧ v = some (rd_I (1)) ∧ μ' = μ) ∨ ((sp_th μ (μ 58 0) ∧ q0 = 5 ∧ ¬ sp_over μ) ∧ v = some (rd_I (0)) ∧ μ' = μ) ∨ ((sp_th μ (μ 58 0) ∧ q0 = 6) ∧ v = some (rd_I (μ 58 2)) ∧ μ' = μ)) (h2 : ((q0 < 0 ∨ 6 < q0) ∧ w = some (rd_I (-2)) ∧ ν' = ν) ∨ (((0 ≤ q0 ∧ q0 ≤ 6) ∧ ν 1 29 = 0) ∧ w = some (rd_I (-6)) ∧ ν' = ν) ∨ ((ν 1 29 ≠ 0 ∧ (0 ≤ q0 ∧ q0 ≤ 3)) ∧ w = some (rd_I (ν 1 (30 + q0))) ∧ ν' = ν) ∨ ((ν 1 29 ≠ 0 ∧ q0 = 4) ∧ w = some (rd_I (ν 1 35)) ∧ ν' = ν) ∨ ((ν 1 29 ≠ 0 ∧ q0 = 5 ∧ mo_ov ν) ∧ w = some (rd_I 1) ∧ ν' = ν) ∨ ((ν 1 29 ≠ 0 ∧ q0 = 5 ∧ ¬ mo_ov ν) ∧ w = some (rd_I 0) ∧ ν' = ν) ∨ ((ν 1 29 ≠ 0 ∧ q0 = 6) ∧ w = some (rd_I (ν 1 34)) ∧ ν' = ν)) : w = v ∧ rl_R μ' ν' := by
  have ht := rl_t hR.1.2.1
  have hon := (rl_on29 hR.1).2
  have hp : sp_th μ (μ 58 0) → (ν 1 (30 + 0) = μ 58 0 ∧ ν 1 (30 + 1) = μ 58 1 ∧ ν 1 (30 + 2) = μ 58 3 ∧ ν 1 (30 + 3) = μ 58 4 ∧ ν 1 35 = μ 58 5 ∧ ν 1 34 = μ 58 2) ∧ (mo_ov ν ↔ sp_over μ) := fun h => by
    obtain ⟨p0, p1, p2, p3, p4, p5, p6, -⟩ := rl_pp hR.1 h
    exact ⟨⟨p1, p2, p3, p4, p6, p5⟩, rl_ov hR.1 h⟩
  have hq : ∀ k : Int, q0 = k → ν 1 (30 + q0) = ν 1 (30 + k) := fun k h => by rw [h]
  clear ht
  rcases h1 with ⟨a, e, m⟩ | ⟨a, e, m⟩ | ⟨a, e, m⟩ | ⟨a, e, m⟩ | ⟨a, e, m⟩ | ⟨a, e, m⟩ | ⟨a, e, m⟩ | ⟨a, e, m⟩ | ⟨a, e, m⟩ | ⟨a, e, m⟩ <;> rcases h2 with ⟨b, f, n⟩ | ⟨b, f, n⟩ | ⟨b, f, n⟩ | ⟨b, f, n⟩ | ⟨b, f, n⟩ | ⟨b, f, n⟩ | ⟨b, f, n⟩ <;> first | (constructor <;> first | (rw [e, f]; done) | (rw [m, n]; exact hR)) | (exfalso; clear m n e f hR; grind) | (refine ⟨?_, by rw [m, n]; exact hR⟩; rw [e, f]; first | rw [hq 0 a.2, (hp a.1).1.1] | rw [hq 1 a.2, (hp a.1).1.2.1] | rw [hq 2 a.2, (hp a.1).1.2.2.1] | rw [hq 3 a.2, (hp a.1).1.2.2.2.1] | rw [(hp a.1).1.2.2.2.2.1] | rw [(hp a.1).1.2.2.2.2.2])
set_option maxHeartbeats 2000000 in
theorem ro_trail (hR : rl_R μ ν) {p0 q0 : Int} (h1 : ((p0 < 0 ∨ q0 < 0 ∨ 2 < q0) ∧ v = some (rd_I (-2)) ∧ μ' = μ) ∨ (((0 ≤ p0 ∧ (0 ≤ q0 ∧ q0 ≤ 2)) ∧ (¬ sp_th μ (μ 58 0) ∨ μ 58 5 ≤ p0)) ∧ v = some (rd_I (-6)) ∧ μ' = μ) ∨ (((0 ≤ p0 ∧ (0 ≤ q0 ∧ q0 ≤ 2)) ∧ sp_th μ (μ 58 0) ∧ p0 < μ 58 5) ∧ v = some (rd_I (μ (59 + q0) (μ 58 5 - 1 - p0))) ∧ μ' = μ)) (h2 : ((p0 < 0 ∨ q0 < 0 ∨ 2 < q0) ∧ w = some (rd_I (-2)) ∧ ν' = ν) ∨ (((0 ≤ p0 ∧ (0 ≤ q0 ∧ q0 ≤ 2)) ∧ (ν 1 29 ≠ 1 ∨ ν 1 35 ≤ p0)) ∧ w = some (rd_I (-6)) ∧ ν' = ν) ∨ (((0 ≤ p0 ∧ (0 ≤ q0 ∧ q0 ≤ 2)) ∧ ν 1 29 = 1 ∧ p0 < ν 1 35) ∧ w = some (rd_I (ν 1 (36 + 3 * (ν 1 35 - 1 - p0) + q0))) ∧ ν' = ν)) : w = v ∧ rl_R μ' ν' := by
  have ht := rl_t hR.1.2.1
  have hon := (rl_on29 hR.1).1
  have h5 : sp_th μ (μ 58 0) → ν 1 35 = μ 58 5 := fun h => (rl_pp hR.1 h).2.2.2.2.2.2.1
  clear ht
  rcases h1 with ⟨a, e, m⟩ | ⟨a, e, m⟩ | ⟨a, e, m⟩ <;> rcases h2 with ⟨b, f, n⟩ | ⟨b, f, n⟩ | ⟨b, f, n⟩ <;> first | (constructor <;> first | (rw [e, f]; done) | (rw [m, n]; exact hR)) | (exfalso; clear m n e f hR; grind) | skip
  obtain ⟨y0, y1, y2, y3, y4, y5, y6, y7, y8⟩ := rl_pp hR.1 a.2.1
  obtain ⟨k1, k2, k3⟩ := y8 (μ 58 5 - 1 - p0) (by omega) (by omega)
  refine ⟨?_, by rw [m, n]; exact hR⟩
  rw [e, f, y6]
  rcases (show q0 = 0 ∨ q0 = 1 ∨ q0 = 2 by omega) with h | h | h <;> subst h
  · rw [Int.add_zero, Int.add_zero, k1]
  · rw [k2]; rfl
  · rw [k3]; rfl
set_option maxHeartbeats 2000000 in
theorem ro_labels (hR : rl_R μ ν) (h1 : (¬ sp_th μ (μ 58 0) ∧ v = some (rd_I (-6)) ∧ μ' = μ) ∨ (sp_th μ (μ 58 0) ∧ v = some (rd_I (sp_tags (μ (5 + 5 * μ 58 0 + 1)) (μ (5 + 5 * μ 58 0 + 2)) (μ (5 + 5 * μ 58 0 + 3)) (μ 58 1) (μ (5 + 5 * μ 58 0) 3).toNat)) ∧ μ' = μ)) (h2 : (ν 1 29 = 0 ∧ w = some (rd_I (-6)) ∧ ν' = ν) ∨ (ν 1 29 ≠ 0 ∧ w = some (rd_I (mo_tg ν (ν 1 30) (ν 1 31) (mo_o ν (ν 1 30) 3).toNat)) ∧ ν' = ν)) : w = v ∧ rl_R μ' ν' := by
  have ht := rl_t hR.1.2.1
  have hon := (rl_on29 hR.1).2
  clear ht
  rcases h1 with ⟨a, e, m⟩ | ⟨a, e, m⟩ <;> rcases h2 with ⟨b, f, n⟩ | ⟨b, f, n⟩ <;> first | (constructor <;> first | (rw [e, f]; done) | (rw [m, n]; exact hR)) | (exfalso; clear m n e f hR; grind) | skip
  obtain ⟨y0, y1, y2, -⟩ := rl_pp hR.1 a
  obtain ⟨r0, r1, r2, r3, r4, -⟩ := rl_row hR.1.2.1 a
  refine ⟨?_, by rw [m, n]; exact hR⟩
  rw [e, f, y1, y2]
  unfold mo_tg
  rw [r3]
  congr 2
  exact sp_tags_cg (fun k k0 k1 => r4 k k0 (by omega))
set_option maxHeartbeats 2000000 in
theorem ro_noteNow (hR : rl_R μ ν) (h1 : (¬ sp_th μ (μ 58 0) ∧ v = some (rd_I (-6)) ∧ μ' = μ) ∨ (sp_th μ (μ 58 0) ∧ v = some (rd_I ((sp_lat (μ 56) (μ 57) (μ 58 3) (μ 55 0).toNat).2)) ∧ μ' = μ)) (h2 : (ν 1 29 ≠ 1 ∧ w = some (rd_I (-6)) ∧ ν' = ν) ∨ (ν 1 29 = 1 ∧ w = some (rd_I (sp_lat (fun i => ν 1 (12 + 2 * i)) (fun i => ν 1 (12 + 2 * i + 1)) (ν 1 32) (ν 1 11).toNat).2) ∧ ν' = ν)) : w = v ∧ rl_R μ' ν' := by
  have ht := rl_t hR.1.2.1
  have hon := (rl_on29 hR.1).1
  clear ht
  rcases h1 with ⟨a, e, m⟩ | ⟨a, e, m⟩ <;> rcases h2 with ⟨b, f, n⟩ | ⟨b, f, n⟩ <;> first | (constructor <;> first | (rw [e, f]; done) | (rw [m, n]; exact hR)) | (exfalso; clear m n e f hR; grind) | skip
  obtain ⟨y0, y1, y2, y3, -⟩ := rl_pp hR.1 a
  refine ⟨?_, by rw [m, n]; exact hR⟩
  rw [e, f, y3, hR.1.2.2.1.2.1]
  congr 3
  exact sp_lat_cg (fun k k0 k1 => hR.1.2.2.1.2.2 k k0 (by omega))
set_option maxHeartbeats 2000000 in
theorem ro_meanSteps (hR : rl_R μ ν) (h1 : (μ 2 0 ≤ 0 ∧ v = some (rd_F FP.fconst0) ∧ μ' = μ) ∨ (0 < μ 2 0 ∧ v = some (rd_F (FP.fdiv (FP.i2f (rd_i (sp_sum (fun i => sp_if (μ (5 + 5 * i) 0 ≠ 0) (sp_FS μ i + 1) 0) 10))) (FP.i2f (rd_i (μ 2 0))))) ∧ μ' = μ)) (h2 : (ν 1 0 = 0 ∧ w = some (rd_F FP.fconst0) ∧ ν' = ν) ∨ (ν 1 0 ≠ 0 ∧ w = some (rd_F (FP.fdiv (FP.i2f (rd_i (sp_sum (fun i => mo_FS ν (ν 1 (1 + i)) + 1) (ν 1 0).toNat))) (FP.i2f (rd_i (ν 1 0))))) ∧ ν' = ν)) : w = v ∧ rl_R μ' ν' := by
  have ht := rl_t hR.1.2.1
  have hc : ν 1 0 = μ 2 0 := hR.1.2.1.1
  have hcn := hR.1.1.1.1.1
  rw [hc] at h2
  clear ht
  rcases h1 with ⟨a, e, m⟩ | ⟨a, e, m⟩ <;> rcases h2 with ⟨b, f, n⟩ | ⟨b, f, n⟩ <;> first | (constructor <;> first | (rw [e, f]; done) | (rw [m, n]; exact hR)) | (exfalso; clear m n e f hR; grind) | skip
  refine ⟨?_, by rw [m, n]; exact hR⟩
  have hs : sp_sum (fun i => mo_FS ν (ν 1 (1 + i)) + 1) (μ 2 0).toNat = sp_sum (fun i => sp_if (μ (5 + 5 * i) 0 ≠ 0) (sp_FS μ i + 1) 0) 10 := by
    rw [sp_sum_c (g := fun i => (fun n => sp_FS μ n + 1) (μ 3 i)) (fun i i0 i1 => ?_), sp_sum_o hR.1.1 (fun n => sp_FS μ n + 1)]
    · refine sp_sum_c (fun i i0 i1 => ?_)
      show sp_if (sp_th μ i) (sp_FS μ i + 1) 0 = sp_if (μ (5 + 5 * i) 0 ≠ 0) (sp_FS μ i + 1) 0
      refine sp_ifc ⟨fun h => h.2, fun h => ⟨⟨i0, i1⟩, h⟩⟩ _ _
    · show mo_FS ν (ν 1 (1 + i)) + 1 = sp_FS μ (μ 3 i) + 1
      rw [hR.1.2.1.2.1 i i0 (by omega), rl_FS hR.1.2.1 (hR.1.1.2.2.2.2.2.2.1 i i0 (by omega)).1]
  rw [e, f, hs]
set_option maxHeartbeats 2000000 in
theorem ro_backTo (hR : rl_R μ ν) (h1 : (¬ sp_can μ 98 0 ∧ v = some (rd_I (-6)) ∧ μ' = μ) ∨ (sp_can μ 98 0 ∧ v = some (rd_I (μ 59 (sp_bp μ))) ∧ μ' = μ)) (h2 : (¬ (mo_on ν ∧ mo_bp ν ≠ -1) ∧ w = some (rd_I (-6)) ∧ ν' = ν) ∨ ((mo_on ν ∧ mo_bp ν ≠ -1) ∧ w = some (rd_I (ν 1 (36 + 3 * mo_bp ν))) ∧ ν' = ν)) : w = v ∧ rl_R μ' ν' := by
  have ht := rl_t hR.1.2.1
  have hb : (mo_on ν ∧ mo_bp ν ≠ -1) ↔ sp_can μ 98 0 := by
    rw [← rl_can hR.1 (q := 0) (fun h => absurd h (by decide))]
    unfold mo_can
    exact ⟨fun g => ⟨g.1, fun _ => g.2, fun h => absurd h (by decide), fun h => absurd h (by decide)⟩, fun g => ⟨g.1, g.2.1 rfl⟩⟩
  rw [hb] at h2
  clear ht
  rcases h1 with ⟨a, e, m⟩ | ⟨a, e, m⟩ <;> rcases h2 with ⟨b, f, n⟩ | ⟨b, f, n⟩ <;> first | (constructor <;> first | (rw [e, f]; done) | (rw [m, n]; exact hR)) | (exfalso; clear m n e f hR; grind) | skip
  have hbp := rl_bp hR.1 a.1
  obtain ⟨y0, y1, y2, y3, y4, y5, y6, y7, y8⟩ := rl_pp hR.1 a.1
  have hr := (sp_bp_r (a.2.2.2.1 rfl) hR.1.1.1.2.2.2.1.1).1
  rw [e, f, m, n, hbp, (y8 _ hr.1 hr.2).1]
  exact ⟨rfl, hR⟩
end RQ
