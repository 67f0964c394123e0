theorem sp_mask_cg {f l f' l' : Int → Int} {st : Int} {n : Nat} (h : ∀ k : Int, 0 ≤ k → k < n → f' k = f k ∧ l' k = l k) : sp_mask f' l' st n = sp_mask f l st n := by
  induction n with
  | zero => rfl
  | succ n ih =>
    obtain ⟨h1, h2⟩ := h n (by omega) (by omega)
    simp only [sp_mask]
    rw [ih (fun k a b => h k a (by omega))]
    unfold sp_seen
    rw [h1, h2]
theorem sp_tags_cg {f l t f' l' t' : Int → Int} {st : Int} {n : Nat} (h : ∀ k : Int, 0 ≤ k → k < n → f' k = f k ∧ l' k = l k ∧ t' k = t k) : sp_tags f' l' t' st n = sp_tags f l t st n := by
  induction n with
  | zero => rfl
  | succ n ih =>
    obtain ⟨h1, h2, h3⟩ := h n (by omega) (by omega)
    simp only [sp_tags]
    rw [ih (fun k a b => h k a (by omega)), h3]
    unfold sp_seen
    rw [h1, h2]
theorem sp_lat_cg {s u s' u' : Int → Int} {c : Int} {n : Nat} (h : ∀ k : Int, 0 ≤ k → k < n → s' k = s k ∧ u' k = u k) : sp_lat s' u' c n = sp_lat s u c n := by
  induction n with
  | zero => rfl
  | succ n ih =>
    obtain ⟨h1, h2⟩ := h n (by omega) (by omega)
    simp only [sp_lat]
    rw [ih (fun k a b => h k a (by omega)), h1, h2]
section RQ
variable {μ ν μ' ν' : rd_Mem} {v w : Option rd_X}
set_option maxHeartbeats 2000000 in
theorem pq_slides {l : List rd_Mem} (hR : pg_S μ ν l) (h1 : (True ∧ v = some (rd_I (μ 2 0)) ∧ μ' = μ)) (h2 : True ∧ w = some (rd_I (ν 1 0)) ∧ ν' = ν) : w = v ∧ μ' = μ := by
  have ht := rl_t hR.1.2.1
  rcases h1 with ⟨a, e, m⟩ <;> rcases h2 with ⟨b, f, n⟩ <;> first | (constructor <;> first | (rw [e, f]; done) | exact m) | (exfalso; clear m n e f hR; grind) | skip
  rw [e, f, m, hR.1.2.1.1]
  exact ⟨rfl, rfl⟩
set_option maxHeartbeats 2000000 in
theorem pq_end {l : List rd_Mem} (hR : pg_S μ ν l) (h1 : (True ∧ v = some (rd_I (μ 1 0)) ∧ μ' = μ)) (h2 : True ∧ w = some (rd_I (ν 1 28)) ∧ ν' = ν) : w = v ∧ μ' = μ := by
  have ht := rl_t hR.1.2.1
  rcases h1 with ⟨a, e, m⟩ <;> rcases h2 with ⟨b, f, n⟩ <;> first | (constructor <;> first | (rw [e, f]; done) | exact m) | (exfalso; clear m n e f hR; grind) | skip
  rw [e, f, m, hR.1.2.2.1.1]
  exact ⟨rfl, rfl⟩
set_option maxHeartbeats 2000000 in
theorem pq_slideAt {l : List rd_Mem} (hR : pg_S μ ν l) {p0 : Int} (h1 : (p0 < 0 ∧ v = some (rd_I (-2)) ∧ μ' = μ) ∨ ((0 ≤ p0 ∧ sp_if (0 ≤ p0 ∧ p0 < μ 2 0) (μ 3 p0) (-1) = -1) ∧ v = some (rd_I (-6)) ∧ μ' = μ) ∨ ((0 ≤ p0 ∧ sp_if (0 ≤ p0 ∧ p0 < μ 2 0) (μ 3 p0) (-1) ≠ -1) ∧ v = some (rd_I (sp_if (0 ≤ p0 ∧ p0 < μ 2 0) (μ 3 p0) (-1))) ∧ μ' = μ)) (h2 : (p0 < 0 ∧ w = some (rd_I (-2)) ∧ ν' = ν) ∨ (ν 1 0 ≤ p0 ∧ w = some (rd_I (-6)) ∧ ν' = ν) ∨ ((0 ≤ p0 ∧ p0 < ν 1 0) ∧ w = some (rd_I (ν 1 (1 + p0))) ∧ ν' = ν)) : w = v ∧ μ' = μ := by
  have ht := rl_t hR.1.2.1
  have hc : ν 1 0 = μ 2 0 := hR.1.2.1.1
  have hth := hR.1.1.2.2.2.2.2.2.1
  have hcn := hR.1.1.1.1.1
  have hi : (0 ≤ p0 ∧ p0 < μ 2 0) → sp_if (0 ≤ p0 ∧ p0 < μ 2 0) (μ 3 p0) (-1) = μ 3 p0 ∧ μ 3 p0 ≠ -1 ∧ ν 1 (1 + p0) = μ 3 p0 := fun h => ⟨sp_ift h _ _, by have := (hth p0 h.1 h.2).1.1; omega, hR.1.2.1.2.1 p0 h.1 h.2⟩
  have hi2 : ¬ (0 ≤ p0 ∧ p0 < μ 2 0) → sp_if (0 ≤ p0 ∧ p0 < μ 2 0) (μ 3 p0) (-1) = -1 := fun h => sp_iff h _ _
  rw [hc] at h2
  generalize hA : sp_if (0 ≤ p0 ∧ p0 < μ 2 0) (μ 3 p0) (-1) = A at *
  clear ht hth hc
  rcases h1 with ⟨a, e, m⟩ | ⟨a, e, m⟩ | ⟨a, e, m⟩ <;> rcases h2 with ⟨b, f, n⟩ | ⟨b, f, n⟩ | ⟨b, f, n⟩ <;> first | (constructor <;> first | (rw [e, f]; done) | exact m) | (exfalso; clear m n e f hR; grind) | skip
  obtain ⟨y1, y2, y3⟩ := hi b
  rw [e, f, m, y3, y1]
  exact ⟨rfl, rfl⟩
set_option maxHeartbeats 2000000 in
theorem pq_slide {l : List rd_Mem} (hR : pg_S μ ν l) {x q0 : Int} (h1 : (¬ sp_th μ x ∧ v = some (rd_I (-1)) ∧ μ' = μ) ∨ ((sp_th μ x ∧ (q0 < 0 ∨ 5 < q0)) ∧ v = some (rd_I (-2)) ∧ μ' = μ) ∨ ((sp_th μ x ∧ q0 = 0) ∧ v = some (rd_I (sp_pl μ x)) ∧ μ' = μ) ∨ ((sp_th μ x ∧ q0 = 1) ∧ v = some (rd_I (if μ (5 + 5 * x) 1 = 0 then 0 else 1)) ∧ μ' = μ) ∨ ((sp_th μ x ∧ q0 = 2) ∧ v = some (rd_I (μ (5 + 5 * x) 2)) ∧ μ' = μ) ∨ ((sp_th μ x ∧ q0 = 3) ∧ v = some (rd_I (μ (5 + 5 * x) 3)) ∧ μ' = μ) ∨ ((sp_th μ x ∧ q0 = 4) ∧ v = some (rd_I (sp_FS μ x)) ∧ μ' = μ) ∨ ((sp_th μ x ∧ q0 = 5) ∧ v = some (rd_I (sp_lk (μ (5 + 5 * x + 4)) 10)) ∧ μ' = μ)) (h2 : (¬ mo_t ν x ∧ w = some (rd_I (-1)) ∧ ν' = ν) ∨ ((mo_t ν x ∧ (q0 < 0 ∨ 5 < q0)) ∧ w = some (rd_I (-2)) ∧ ν' = ν) ∨ ((mo_t ν x ∧ q0 = 0) ∧ w = some (rd_I (mo_pl ν x)) ∧ ν' = ν) ∨ ((mo_t ν x ∧ (1 ≤ q0 ∧ q0 ≤ 3)) ∧ w = some (rd_I (mo_o ν x q0)) ∧ ν' = ν) ∨ ((mo_t ν x ∧ q0 = 4) ∧ w = some (rd_I (mo_FS ν x)) ∧ ν' = ν) ∨ ((mo_t ν x ∧ q0 = 5) ∧ w = some (rd_I (mo_lk (fun q => mo_o ν x (22 + q)) 10)) ∧ ν' = ν)) : w = v ∧ μ' = μ := by
  have ht := rl_t hR.1.2.1
  rw [ht] at h2
  have hv : sp_th μ x → mo_pl ν x = sp_pl μ x ∧ (mo_o ν x 1 = if μ (5 + 5 * x) 1 = 0 then 0 else 1) ∧ mo_o ν x 2 = μ (5 + 5 * x) 2 ∧ mo_o ν x 3 = μ (5 + 5 * x) 3 ∧ mo_FS ν x = sp_FS μ x ∧ mo_lk (fun q => mo_o ν x (22 + q)) 10 = sp_lk (μ (5 + 5 * x + 4)) 10 := fun hx => by
    have hr := rl_row hR.1.2.1 hx
    have hg := (hR.1.1.2.2.2.2.2.2.2 x hx.1.1 (by have := hx.1.2; omega)).1 hx
    have hb := (hR.1.1.2.1 x hx.1.1 hx.1.2).2
    rw [show (1 : Int) + 4 + 5 * x = 5 + 5 * x by omega] at hb
    refine ⟨rl_pl hR.1.2.1 x, ?_, hr.2.2.1, hr.2.2.2.1, rl_FS hR.1.2.1 hx, rl_lk hg hr 10 (Nat.le_refl _)⟩
    rw [hr.2.1]
    rcases hb with h | h <;> rw [h]
    · rfl
    · rfl
  have hq : ∀ k : Int, q0 = k → mo_o ν x q0 = mo_o ν x k := fun k h => by rw [h]
  generalize hA : mo_lk (fun q => mo_o ν x (22 + q)) 10 = A at *
  generalize hB : sp_lk (μ (5 + 5 * x + 4)) 10 = B at *
  clear ht
  rcases h1 with ⟨a, e, m⟩ | ⟨a, e, m⟩ | ⟨a, e, m⟩ | ⟨a, e, m⟩ | ⟨a, e, m⟩ | ⟨a, e, m⟩ | ⟨a, e, m⟩ | ⟨a, e, m⟩ <;> rcases h2 with ⟨b, f, n⟩ | ⟨b, f, n⟩ | ⟨b, f, n⟩ | ⟨b, f, n⟩ | ⟨b, f, n⟩ | ⟨b, f, n⟩ <;> first | (constructor <;> first | (rw [e, f]; done) | exact m) | (exfalso; clear m n e f hR; grind) | (refine ⟨?_, m⟩; rw [e, f]; first | rw [(hv a.1).1] | rw [hq 1 a.2, (hv a.1).2.1] | rw [hq 2 a.2, (hv a.1).2.2.1] | rw [hq 3 a.2, (hv a.1).2.2.2.1] | rw [(hv a.1).2.2.2.2.1] | rw [(hv a.1).2.2.2.2.2])
set_option maxHeartbeats 2000000 in
theorem pq_target {l : List rd_Mem} (hR : pg_S μ ν l) {x k0 : Int} (h1 : (¬ sp_th μ x ∧ v = some (rd_I (-1)) ∧ μ' = μ) ∨ ((sp_th μ x ∧ (k0 < 0 ∨ 9 < k0)) ∧ v = some (rd_I (-2)) ∧ μ' = μ) ∨ ((sp_th μ x ∧ (0 ≤ k0 ∧ k0 ≤ 9)) ∧ v = some (rd_I (if μ (5 + 5 * x + 4) k0 = -1 then -6 else μ (5 + 5 * x + 4) k0)) ∧ μ' = μ)) (h2 : (¬ mo_t ν x ∧ w = some (rd_I (-1)) ∧ ν' = ν) ∨ ((mo_t ν x ∧ (k0 < 0 ∨ 9 < k0)) ∧ w = some (rd_I (-2)) ∧ ν' = ν) ∨ ((mo_t ν x ∧ (0 ≤ k0 ∧ k0 ≤ 9)) ∧ w = some (rd_I (mo_o ν x (22 + k0))) ∧ ν' = ν)) : w = v ∧ μ' = μ := by
  have ht := rl_t hR.1.2.1
  rw [ht] at h2
  clear ht
  rcases h1 with ⟨a, e, m⟩ | ⟨a, e, m⟩ | ⟨a, e, m⟩ <;> rcases h2 with ⟨b, f, n⟩ | ⟨b, f, n⟩ | ⟨b, f, n⟩ <;> first | (constructor <;> first | (rw [e, f]; done) | exact m) | (exfalso; clear m n e f hR; grind) | skip
  rw [e, f, m, (rl_row hR.1.2.1 a.1).2.2.2.2.2 k0 a.2.1 a.2.2]
  exact ⟨rfl, rfl⟩
set_option maxHeartbeats 2000000 in
theorem pq_picture {l : List rd_Mem} (hR : pg_S μ ν l) {x t0 : Int} (h1 : (¬ sp_th μ x ∧ v = some (rd_I (-1)) ∧ μ' = μ) ∨ ((sp_th μ x ∧ (t0 < 0 ∨ 9 < t0)) ∧ v = some (rd_I (-2)) ∧ μ' = μ) ∨ ((sp_th μ x ∧ (0 ≤ t0 ∧ t0 ≤ 9)) ∧ v = some (rd_I (sp_mask (μ (5 + 5 * x + 1)) (μ (5 + 5 * x + 2)) t0 (μ (5 + 5 * x) 3).toNat)) ∧ μ' = μ)) (h2 : (¬ mo_t ν x ∧ w = some (rd_I (-1)) ∧ ν' = ν) ∨ ((mo_t ν x ∧ (t0 < 0 ∨ 9 < t0)) ∧ w = some (rd_I (-2)) ∧ ν' = ν) ∨ ((mo_t ν x ∧ (0 ≤ t0 ∧ t0 ≤ 9)) ∧ w = some (rd_I (mo_mk ν x t0 (mo_o ν x 3).toNat)) ∧ ν' = ν)) : w = v ∧ μ' = μ := by
  have ht := rl_t hR.1.2.1
  rw [ht] at h2
  clear ht
  rcases h1 with ⟨a, e, m⟩ | ⟨a, e, m⟩ | ⟨a, e, m⟩ <;> rcases h2 with ⟨b, f, n⟩ | ⟨b, f, n⟩ | ⟨b, f, n⟩ <;> first | (constructor <;> first | (rw [e, f]; done) | exact m) | (exfalso; clear m n e f hR; grind) | skip
  obtain ⟨r0, r1, r2, r3, r4, -⟩ := rl_row hR.1.2.1 a.1
  refine ⟨?_, m⟩
  rw [e, f]
  unfold mo_mk
  rw [r3]
  congr 2
  exact sp_mask_cg (fun k k0 k1 => ⟨(r4 k k0 (by omega)).1, (r4 k k0 (by omega)).2.1⟩)
set_option maxHeartbeats 2000000 in
theorem pq_now {l : List rd_Mem} (hR : pg_S μ ν l) {q0 : Int} (h1 : ((q0 < 0 ∨ 6 < q0) ∧ v = some (rd_I (-2)) ∧ μ' = μ) ∨ (((0 ≤ q0 ∧ q0 ≤ 6) ∧ ¬ sp_th μ (μ 58 0)) ∧ v = some (rd_I (-6)) ∧ μ' = μ) ∨ ((sp_th μ (μ 58 0) ∧ q0 = 0) ∧ v = some (rd_I (μ 58 0)) ∧ μ' = μ) ∨ ((sp_th μ (μ 58 0) ∧ q0 = 1) ∧ v = some (rd_I (μ 58 1)) ∧ μ' = μ) ∨ ((sp_th μ (μ 58 0) ∧ q0 = 2) ∧ v = some (rd_I (μ 58 3)) ∧ μ' = μ) ∨ ((sp_th μ (μ 58 0) ∧ q0 = 3) ∧ v = some (rd_I (μ 58 4)) ∧ μ' = μ) ∨ ((sp_th μ (μ 58 0) ∧ q0 = 4) ∧ v = some (rd_I (μ 58 5)) ∧ μ' = μ) ∨ ((sp_th μ (μ 58 0) ∧ q0 = 5 ∧ sp_over μ) ∧ v = some (rd_I (1)) ∧ μ' = μ) ∨ ((sp_th μ (μ 58 0) ∧ q0 = 5 ∧ ¬ sp_over μ) ∧ v = some (rd_I (0)) ∧ μ' = μ) ∨ ((sp_th μ (μ 58 0) ∧ q0 = 6) ∧ v = some (rd_I (μ 58 2)) ∧ μ' = μ)) (h2 : ((q0 < 0 ∨ 6 < q0) ∧ w = some (rd_I (-2)) ∧ ν' = ν) ∨ (((0 ≤ q0 ∧ q0 ≤ 6) ∧ ν 1 29 = 0) ∧ w = some (rd_I (-6)) ∧ ν' = ν) ∨ ((ν 1 29 ≠ 0 ∧ (0 ≤ q0 ∧ q0 ≤ 3)) ∧ w = some (rd_I (ν 1 (30 + q0))) ∧ ν' = ν) ∨ ((ν 1 29 ≠ 0 ∧ q0 = 4) ∧ w = some (rd_I (ν 1 35)) ∧ ν' = ν) ∨ ((ν 1 29 ≠ 0 ∧ q0 = 5 ∧ mo_ov ν) ∧ w = some (rd_I 1) ∧ ν' = ν) ∨ ((ν 1 29 ≠ 0 ∧ q0 = 5 ∧ ¬ mo_ov ν) ∧ w = some (rd_I 0) ∧ ν' = ν) ∨ ((ν 1 29 ≠ 0 ∧ q0 = 6) ∧ w = some (rd_I (ν 1 34)) ∧ ν' = ν)) : w = v ∧ μ' = μ := by
  have ht := rl_t hR.1.2.1
  have hon := (rl_on29 hR.1).2
  have hp : sp_th μ (μ 58 0) → (ν 1 (30 + 0) = μ 58 0 ∧ ν 1 (30 + 1) = μ 58 1 ∧ ν 1 (30 + 2) = μ 58 3 ∧ ν 1 (30 + 3) = μ 58 4 ∧ ν 1 35 = μ 58 5 ∧ ν 1 34 = μ 58 2) ∧ (mo_ov ν ↔ sp_over μ) := fun h => by
    obtain ⟨p0, p1, p2, p3, p4, p5, p6, -⟩ := rl_pp hR.1 h
    exact ⟨⟨p1, p2, p3, p4, p6, p5⟩, rl_ov hR.1 h⟩
  have hq : ∀ k : Int, q0 = k → ν 1 (30 + q0) = ν 1 (30 + k) := fun k h => by rw [h]
  clear ht
  rcases h1 with ⟨a, e, m⟩ | ⟨a, e, m⟩ | ⟨a, e, m⟩ | ⟨a, e, m⟩ | ⟨a, e, m⟩ | ⟨a, e, m⟩ | ⟨a, e, m⟩ | ⟨a, e, m⟩ | ⟨a, e, m⟩ | ⟨a, e, m⟩ <;> rcases h2 with ⟨b, f, n⟩ | ⟨b, f, n⟩ | ⟨b, f, n⟩ | ⟨b, f, n⟩ | ⟨b, f, n⟩ | ⟨b, f, n⟩ | ⟨b, f, n⟩ <;> first | (constructor <;> first | (rw [e, f]; done) | exact m) | (exfalso; clear m n e f hR; grind) | (refine ⟨?_, m⟩; rw [e, f]; first | rw [hq 0 a.2, (hp a.1).1.1] | rw [hq 1 a.2, (hp a.1).1.2.1] | rw [hq 2 a.2, (hp a.1).1.2.2.1] | rw [hq 3 a.2, (hp a.1).1.2.2.2.1] | rw [(hp a.1).1.2.2.2.2.1] | rw [(hp a.1).1.2.2.2.2.2])
set_option maxHeartbeats 2000000 in
theorem pq_trail {l : List rd_Mem} (hR : pg_S μ ν l) {p0 q0 : Int} (h1 : ((p0 < 0 ∨ q0 < 0 ∨ 2 < q0) ∧ v = some (rd_I (-2)) ∧ μ' = μ) ∨ (((0 ≤ p0 ∧ (0 ≤ q0 ∧ q0 ≤ 2)) ∧ (¬ sp_th μ (μ 58 0) ∨ μ 58 5 ≤ p0)) ∧ v = some (rd_I (-6)) ∧ μ' = μ) ∨ (((0 ≤ p0 ∧ (0 ≤ q0 ∧ q0 ≤ 2)) ∧ sp_th μ (μ 58 0) ∧ p0 < μ 58 5) ∧ v = some (rd_I (μ (59 + q0) (μ 58 5 - 1 - p0))) ∧ μ' = μ)) (h2 : ((p0 < 0 ∨ q0 < 0 ∨ 2 < q0) ∧ w = some (rd_I (-2)) ∧ ν' = ν) ∨ (((0 ≤ p0 ∧ (0 ≤ q0 ∧ q0 ≤ 2)) ∧ (ν 1 29 ≠ 1 ∨ ν 1 35 ≤ p0)) ∧ w = some (rd_I (-6)) ∧ ν' = ν) ∨ (((0 ≤ p0 ∧ (0 ≤ q0 ∧ q0 ≤ 2)) ∧ ν 1 29 = 1 ∧ p0 < ν 1 35) ∧ w = some (rd_I (ν 1 (36 + 3 * (ν 1 35 - 1 - p0) + q0))) ∧ ν' = ν)) : w = v ∧ μ' = μ := by
  have ht := rl_t hR.1.2.1
  have hon := (rl_on29 hR.1).1
  have h5 : sp_th μ (μ 58 0) → ν 1 35 = μ 58 5 := fun h => (rl_pp hR.1 h).2.2.2.2.2.2.1
  clear ht
  rcases h1 with ⟨a, e, m⟩ | ⟨a, e, m⟩ | ⟨a, e, m⟩ <;> rcases h2 with ⟨b, f, n⟩ | ⟨b, f, n⟩ | ⟨b, f, n⟩ <;> first | (constructor <;> first | (rw [e, f]; done) | exact m) | (exfalso; clear m n e f hR; grind) | skip
  obtain ⟨y0, y1, y2, y3, y4, y5, y6, y7, y8⟩ := rl_pp hR.1 a.2.1
  obtain ⟨k1, k2, k3⟩ := y8 (μ 58 5 - 1 - p0) (by omega) (by omega)
  refine ⟨?_, m⟩
  rw [e, f, y6]
  rcases (show q0 = 0 ∨ q0 = 1 ∨ q0 = 2 by omega) with h | h | h <;> subst h
  · rw [Int.add_zero, Int.add_zero, k1]
  · rw [k2]; rfl
  · rw [k3]; rfl
set_option maxHeartbeats 2000000 in
theorem pq_labels {l : List rd_Mem} (hR : pg_S μ ν l) (h1 : (¬ sp_th μ (μ 58 0) ∧ v = some (rd_I (-6)) ∧ μ' = μ) ∨ (sp_th μ (μ 58 0) ∧ v = some (rd_I (sp_tags (μ (5 + 5 * μ 58 0 + 1)) (μ (5 + 5 * μ 58 0 + 2)) (μ (5 + 5 * μ 58 0 + 3)) (μ 58 1) (μ (5 + 5 * μ 58 0) 3).toNat)) ∧ μ' = μ)) (h2 : (ν 1 29 = 0 ∧ w = some (rd_I (-6)) ∧ ν' = ν) ∨ (ν 1 29 ≠ 0 ∧ w = some (rd_I (mo_tg ν (ν 1 30) (ν 1 31) (mo_o ν (ν 1 30) 3).toNat)) ∧ ν' = ν)) : w = v ∧ μ' = μ := by
  have ht := rl_t hR.1.2.1
  have hon := (rl_on29 hR.1).2
  clear ht
  rcases h1 with ⟨a, e, m⟩ | ⟨a, e, m⟩ <;> rcases h2 with ⟨b, f, n⟩ | ⟨b, f, n⟩ <;> first | (constructor <;> first | (rw [e, f]; done) | exact m) | (exfalso; clear m n e f hR; grind) | skip
  obtain ⟨y0, y1, y2, -⟩ := rl_pp hR.1 a
  obtain ⟨r0, r1, r2, r3, r4, -⟩ := rl_row hR.1.2.1 a
  refine ⟨?_, m⟩
  rw [e, f, y1, y2]
  unfold mo_tg
  rw [r3]
  congr 2
  exact sp_tags_cg (fun k k0 k1 => r4 k k0 (by omega))
set_option maxHeartbeats 2000000 in
theorem pq_noteNow {l : List rd_Mem} (hR : pg_S μ ν l) (h1 : (¬ sp_th μ (μ 58 0) ∧ v = some (rd_I (-6)) ∧ μ' = μ) ∨ (sp_th μ (μ 58 0) ∧ v = some (rd_I ((sp_lat (μ 56) (μ 57) (μ 58 3) (μ 55 0).toNat).2)) ∧ μ' = μ)) (h2 : (ν 1 29 ≠ 1 ∧ w = some (rd_I (-6)) ∧ ν' = ν) ∨ (ν 1 29 = 1 ∧ w = some (rd_I (sp_lat (fun i => ν 1 (12 + 2 * i)) (fun i => ν 1 (12 + 2 * i + 1)) (ν 1 32) (ν 1 11).toNat).2) ∧ ν' = ν)) : w = v ∧ μ' = μ := by
  have ht := rl_t hR.1.2.1
  have hon := (rl_on29 hR.1).1
  clear ht
  rcases h1 with ⟨a, e, m⟩ | ⟨a, e, m⟩ <;> rcases h2 with ⟨b, f, n⟩ | ⟨b, f, n⟩ <;> first | (constructor <;> first | (rw [e, f]; done) | exact m) | (exfalso; clear m n e f hR; grind) | skip
  obtain ⟨y0, y1, y2, y3, -⟩ := rl_pp hR.1 a
  refine ⟨?_, m⟩
  rw [e, f, y3, hR.1.2.2.1.2.1]
  congr 3
  exact sp_lat_cg (fun k k0 k1 => hR.1.2.2.1.2.2 k k0 (by omega))
set_option maxHeartbeats 2000000 in
theorem pq_meanSteps {l : List rd_Mem} (hR : pg_S μ ν l) (h1 : (μ 2 0 ≤ 0 ∧ v = some (rd_F FP.fconst0) ∧ μ' = μ) ∨ (0 < μ 2 0 ∧ v = some (rd_F (FP.fdiv (FP.i2f (rd_i (sp_sum (fun i => sp_if (μ (5 + 5 * i) 0 ≠ 0) (sp_FS μ i + 1) 0) 10))) (FP.i2f (rd_i (μ 2 0))))) ∧ μ' = μ)) (h2 : (ν 1 0 = 0 ∧ w = some (rd_F FP.fconst0) ∧ ν' = ν) ∨ (ν 1 0 ≠ 0 ∧ w = some (rd_F (FP.fdiv (FP.i2f (rd_i (sp_sum (fun i => mo_FS ν (ν 1 (1 + i)) + 1) (ν 1 0).toNat))) (FP.i2f (rd_i (ν 1 0))))) ∧ ν' = ν)) : w = v ∧ μ' = μ := by
  have ht := rl_t hR.1.2.1
  have hc : ν 1 0 = μ 2 0 := hR.1.2.1.1
  have hcn := hR.1.1.1.1.1
  rw [hc] at h2
  clear ht
  rcases h1 with ⟨a, e, m⟩ | ⟨a, e, m⟩ <;> rcases h2 with ⟨b, f, n⟩ | ⟨b, f, n⟩ <;> first | (constructor <;> first | (rw [e, f]; done) | exact m) | (exfalso; clear m n e f hR; grind) | skip
  refine ⟨?_, m⟩
  have hs : sp_sum (fun i => mo_FS ν (ν 1 (1 + i)) + 1) (μ 2 0).toNat = sp_sum (fun i => sp_if (μ (5 + 5 * i) 0 ≠ 0) (sp_FS μ i + 1) 0) 10 := by
    rw [sp_sum_c (g := fun i => (fun n => sp_FS μ n + 1) (μ 3 i)) (fun i i0 i1 => ?_), sp_sum_o hR.1.1 (fun n => sp_FS μ n + 1)]
    · refine sp_sum_c (fun i i0 i1 => ?_)
      show sp_if (sp_th μ i) (sp_FS μ i + 1) 0 = sp_if (μ (5 + 5 * i) 0 ≠ 0) (sp_FS μ i + 1) 0
      refine sp_ifc ⟨fun h => h.2, fun h => ⟨⟨i0, i1⟩, h⟩⟩ _ _
    · show mo_FS ν (ν 1 (1 + i)) + 1 = sp_FS μ (μ 3 i) + 1
      rw [hR.1.2.1.2.1 i i0 (by omega), rl_FS hR.1.2.1 (hR.1.1.2.2.2.2.2.2.1 i i0 (by omega)).1]
  rw [e, f, hs]
set_option maxHeartbeats 2000000 in
theorem pq_backTo {l : List rd_Mem} (hR : pg_S μ ν l) (h1 : (¬ sp_can μ 98 0 ∧ v = some (rd_I (-6)) ∧ μ' = μ) ∨ (sp_can μ 98 0 ∧ v = some (rd_I (μ 59 (sp_bp μ))) ∧ μ' = μ)) (h2 : (¬ (mo_on ν ∧ mo_bp ν ≠ -1) ∧ w = some (rd_I (-6)) ∧ ν' = ν) ∨ ((mo_on ν ∧ mo_bp ν ≠ -1) ∧ w = some (rd_I (ν 1 (36 + 3 * mo_bp ν))) ∧ ν' = ν)) : w = v ∧ μ' = μ := by
  have ht := rl_t hR.1.2.1
  have hb : (mo_on ν ∧ mo_bp ν ≠ -1) ↔ sp_can μ 98 0 := by
    rw [← rl_can hR.1 (q := 0) (fun h => absurd h (by decide))]
    unfold mo_can
    exact ⟨fun g => ⟨g.1, fun _ => g.2, fun h => absurd h (by decide), fun h => absurd h (by decide)⟩, fun g => ⟨g.1, g.2.1 rfl⟩⟩
  rw [hb] at h2
  clear ht
  rcases h1 with ⟨a, e, m⟩ | ⟨a, e, m⟩ <;> rcases h2 with ⟨b, f, n⟩ | ⟨b, f, n⟩ <;> first | (constructor <;> first | (rw [e, f]; done) | exact m) | (exfalso; clear m n e f hR; grind) | skip
  have hbp := rl_bp hR.1 a.1
  obtain ⟨y0, y1, y2, y3, y4, y5, y6, y7, y8⟩ := rl_pp hR.1 a.1
  have hr := (sp_bp_r (a.2.2.2.1 rfl) hR.1.1.1.2.2.2.1.1).1
  rw [e, f, m, hbp, (y8 _ hr.1 hr.2).1]
  exact ⟨rfl, rfl⟩
end RQ

theorem sp_sum_h (g : Int → Int) (n : Nat) : sp_sum g (n + 1) = g 0 + sp_sum (fun i => g (i + 1)) n := by
  induction n with
  | zero => show sp_sum g 0 + g 0 = g 0 + 0; show 0 + g 0 = g 0 + 0; omega
  | succ n ih =>
    have e1 : sp_sum g (n + 1 + 1) = sp_sum g (n + 1) + g ((n + 1 : Nat) : Int) := rfl
    have e2 : sp_sum (fun i => g (i + 1)) (n + 1) = sp_sum (fun i => g (i + 1)) n + g ((n : Int) + 1) := rfl
    rw [e1, ih, e2, show ((n + 1 : Nat) : Int) = (n : Int) + 1 by omega]; omega
section RF
variable {μ ν μ' ν' : rd_Mem} {v w : Option rd_X}
theorem sp_next_s {a : Int} (ha : a < μ 2 0) (h : sp_sh μ (μ 3 a)) : sp_next μ a = μ 3 a := by
  unfold sp_next; exact sp_nx_t (by omega) h
theorem sp_next_n {a : Int} (ha : a < μ 2 0) (h : ¬ sp_sh μ (μ 3 a)) : sp_next μ a = sp_next μ (a + 1) := by
  unfold sp_next; rw [sp_nx_f (by omega) h]; congr 1; omega
theorem sp_next_e {a : Int} (ha : μ 2 0 ≤ a) : sp_next μ a = -1 := by
  unfold sp_next; rw [show (μ 2 0 - a).toNat = 0 by omega]; rfl
/-- the moves that begin behind the position's slide -/
theorem rl_ml (hR : rl_1 μ ν) (hh : sp_th μ (μ 58 0)) : ∀ (n : Nat) (a : Int), sp_pl μ (μ 58 0) < a → a + n = μ 2 0 → sp_sum (fun i => sp_mo μ (a + i)) n = mo_ml ν a n - (if sp_next μ a = -1 then 0 else 1) := by
  intro n
  induction n with
  | zero => intro a h1 h2; rw [if_pos (sp_next_e (by omega))]; show (0 : Int) = 0 - 0; omega
  | succ n ih =>
    intro a h1 h2
    have hpo := hR.1.2.2.2.1 _ hh
    have hth := (hR.1.2.2.2.2.2.2.1 a (by omega) (by omega))
    have hne : μ 3 a ≠ μ 58 0 := fun e => by rw [e] at hth; omega
    have ih2 := ih (a + 1) (by omega) (by omega)
    have hord := hR.2.1.2.1 a (by omega) (by omega)
    have hhid := (rl_row hR.2.1 hth.1).2.1
    have hF := rl_FS hR.2.1 hth.1
    have e1 : sp_sum (fun i => sp_mo μ (a + i)) (n + 1) = sp_mo μ a + sp_sum (fun i => sp_mo μ (a + 1 + i)) n := by
      rw [sp_sum_h]
      show sp_mo μ (a + 0) + sp_sum (fun i => sp_mo μ (a + (i + 1))) n = _
      rw [Int.add_zero, sp_sum_c (g := fun i => sp_mo μ (a + 1 + i)) (fun i _ _ => by show sp_mo μ (a + (i + 1)) = sp_mo μ (a + 1 + i); congr 1; omega)]
    have e2 : mo_ml ν a (n + 1) = sp_if (μ (5 + 5 * μ 3 a) 1 = 0) (sp_FS μ (μ 3 a) + 1) 0 + mo_ml ν (a + 1) n := by
      unfold mo_ml
      rw [sp_sum_h]
      show sp_if (mo_o ν (ν 1 (1 + (a + 0))) 1 = 0) (mo_FS ν (ν 1 (1 + (a + 0))) + 1) 0 + sp_sum (fun i => sp_if (mo_o ν (ν 1 (1 + (a + (i + 1)))) 1 = 0) (mo_FS ν (ν 1 (1 + (a + (i + 1)))) + 1) 0) n = _
      rw [Int.add_zero, hord, hhid, hF]
      congr 1
      exact sp_sum_c (fun i _ _ => by show sp_if (mo_o ν (ν 1 (1 + (a + (i + 1)))) 1 = 0) (mo_FS ν (ν 1 (1 + (a + (i + 1)))) + 1) 0 = sp_if (mo_o ν (ν 1 (1 + (a + 1 + i))) 1 = 0) (mo_FS ν (ν 1 (1 + (a + 1 + i))) + 1) 0; rw [show a + (i + 1) = a + 1 + i by omega])
    rw [e1, e2, ih2]
    unfold sp_mo
    by_cases hs : μ (5 + 5 * μ 3 a) 1 = 0
    · have hsh : sp_sh μ (μ 3 a) := ⟨hth.1, hs⟩
      rw [sp_ift ⟨hth.1, Or.inl hs⟩, sp_ift hs, if_neg hne, sp_next_s (by omega) hsh, if_neg (show ¬ μ 3 a = -1 by have := hth.1.1; omega)]
      omega
    · rw [sp_iff (fun h => h.2.elim hs hne), sp_iff hs, sp_next_n (by omega) (fun h => hs h.2)]
      omega
set_option maxHeartbeats 1000000 in
theorem pq_movesLeft {l : List rd_Mem} (hR : pg_S μ ν l) (h1 : (¬ sp_th μ (μ 58 0) ∧ v = some (rd_I (-6)) ∧ μ' = μ) ∨ (sp_th μ (μ 58 0) ∧ v = some (rd_I (sp_sum (fun i => sp_mo μ (sp_pl μ (μ 58 0) + i)) (μ 2 0 - sp_pl μ (μ 58 0)).toNat)) ∧ μ' = μ)) (h2 : (ν 1 29 = 0 ∧ w = some (rd_I (-6)) ∧ ν' = ν) ∨ (ν 1 29 ≠ 0 ∧ w = some (rd_I (mo_FS ν (ν 1 30) - ν 1 31 + mo_ml ν (mo_pl ν (ν 1 30) + 1) (ν 1 0 - (mo_pl ν (ν 1 30) + 1)).toNat)) ∧ ν' = ν)) : w = v ∧ μ' = μ := by
  have hon := (rl_on29 hR.1).2
  rcases h1 with ⟨a, e, m⟩ | ⟨a, e, m⟩ <;> rcases h2 with ⟨b, f, n⟩ | ⟨b, f, n⟩ <;> first | (constructor <;> first | (rw [e, f]; done) | exact m) | (exfalso; clear m n e f hR; grind) | skip
  refine ⟨?_, m⟩
  obtain ⟨p0, p1, p2, -, -, -, -, p7, -⟩ := rl_pp hR.1 a
  have hpo := hR.1.1.2.2.2.1 _ a
  have hos := rl_os hR.1.1 a
  have hc : ν 1 0 = μ 2 0 := hR.1.2.1.1
  rw [e, f, p1, p2, rl_FS hR.1.2.1 a, rl_pl hR.1.2.1, hc]
  congr 2
  have hm := rl_ml hR.1 a (μ 2 0 - (sp_pl μ (μ 58 0) + 1)).toNat (sp_pl μ (μ 58 0) + 1) (by omega) (by omega)
  rw [show (μ 2 0 - sp_pl μ (μ 58 0)).toNat = (μ 2 0 - (sp_pl μ (μ 58 0) + 1)).toNat + 1 by omega, sp_sum_h]
  show _ = sp_mo μ (sp_pl μ (μ 58 0) + 0) + sp_sum (fun i => sp_mo μ (sp_pl μ (μ 58 0) + (i + 1))) _
  rw [sp_sum_c (g := fun i => sp_mo μ (sp_pl μ (μ 58 0) + 1 + i)) (fun i _ _ => by show sp_mo μ (sp_pl μ (μ 58 0) + (i + 1)) = sp_mo μ (sp_pl μ (μ 58 0) + 1 + i); congr 1; omega), hm, Int.add_zero]
  unfold sp_mo
  rw [hos.2, sp_ift ⟨a, Or.inr rfl⟩, if_pos rfl]
  split <;> omega
end RF

/-! the seconds that are left: the same -/
theorem rd_w_l (a b : Int) : rd_w (rd_w a + b) = rd_w (a + b) := by
  show (rd_i (rd_w a + b)).toInt = (rd_i (a + b)).toInt
  rw [← rd_add, ← rd_add, rd_w_i]
theorem rd_w_rr (a b : Int) : rd_w (a + rd_w b) = rd_w (a + b) := by
  show (rd_i (a + rd_w b)).toInt = (rd_i (a + b)).toInt
  rw [← rd_add, ← rd_add, rd_w_i]
section RG
variable {μ ν μ' ν' : rd_Mem} {v w : Option rd_X}
theorem mo_rs_w (ν : rd_Mem) {n : Int} (h0 : 0 ≤ mo_o ν n 2 ∧ mo_o ν n 2 ≤ 60) (h1 : mo_o ν n 2 ≠ 0) : (if 1 ≤ rd_w (mo_o ν n 2 - 0) then rd_w (mo_o ν n 2 - 0) else 1) = mo_o ν n 2 := by
  rw [show mo_o ν n 2 - 0 = mo_o ν n 2 by omega, rd_w_id ⟨by omega, by omega⟩, if_pos (by omega)]
theorem mo_rs_d {ν : rd_Mem} {n : Int} (h0 : 0 ≤ mo_o ν n 2 ∧ mo_o ν n 2 ≤ 60) (h1 : mo_o ν n 2 ≠ 0) : ∀ (d f : Nat) (t x : Int), t + d ≤ mo_FS ν n → d ≤ f → rd_ok x → mo_rs ν f n t 0 x = mo_rs ν (f - d) n (t + d) 0 (rd_w (x + d * mo_o ν n 2)) := by
  intro d
  induction d with
  | zero =>
    intro f t x _ _ hx
    rw [show x + ((0 : Nat) : Int) * mo_o ν n 2 = x by simp, rd_w_id hx, show t + ((0 : Nat) : Int) = t by omega]; rfl
  | succ d ih =>
    intro f t x ht hf hx
    have e : (((d + 1 : Nat) : Int)) * mo_o ν n 2 = d * mo_o ν n 2 + mo_o ν n 2 := by
      rw [show ((d + 1 : Nat) : Int) = (d : Int) + 1 by omega, Int.add_mul, Int.one_mul]
    rw [mo_rs_s (by omega) (Or.inl (by omega)) h1, mo_rs_w ν h0 h1, if_neg (by omega), if_neg (by omega), ih (f - 1) (t + 1) _ (by omega) (by omega) (rd_w_ok _), rd_w_l, e]
    congr 1
    · omega
    · omega
    · congr 1; omega
theorem rl_sc (hR : rl_1 μ ν) (hh : sp_th μ (μ 58 0)) : ∀ (k : Nat) (p x : Int) (f : Nat), sp_pl μ (μ 58 0) < p → p + k = μ 2 0 → 10 * k ≤ f → rd_ok x → sp_sc μ (sp_pl μ (μ 58 0)) k p x = (if sp_next μ p = -1 then x else mo_rs ν f (sp_next μ p) 0 0 x) := by
  intro k
  induction k with
  | zero => intro p x f h1 h2 h3 hx; rw [if_pos (sp_next_e (by omega))]; rfl
  | succ k ih =>
    intro p x f h1 h2 h3 hx
    have hpo := hR.1.2.2.2.1 _ hh
    have hth := hR.1.2.2.2.2.2.2.1 p (by omega) (by omega)
    have hne : μ 3 p ≠ μ 58 0 := fun e => by rw [e] at hth; omega
    have hrow := rl_row hR.2.1 hth.1
    have hF := rl_FS hR.2.1 hth.1
    have h9 := sp_FS9 hR.1.1.2.1 hR.1.1.2.2.1 hth.1.1.1 hth.1.1.2
    have h0 : 0 ≤ sp_FS μ (μ 3 p) := sp_fs0 _ _ _
    have hpz := ((hR.1.2.2.2.2.2.2.2 (μ 3 p) hth.1.1.1 (by have := hth.1.1.2; omega)).1 hth.1).1
    by_cases hs : μ (5 + 5 * μ 3 p) 1 = 0
    · have hsh : sp_sh μ (μ 3 p) := ⟨hth.1, hs⟩
      have hmo : sp_mo μ p = sp_FS μ (μ 3 p) + (if sp_next μ (p + 1) = -1 then 0 else 1) := by
        unfold sp_mo; rw [sp_ift ⟨hth.1, Or.inl hs⟩, if_neg hne]; omega
      have hnx : mo_nx ν (mo_pl ν (μ 3 p) + 1) = sp_next μ (p + 1) := by rw [rl_pl hR.2.1, hth.2, rl_nx hR.1 hR.2.1 (by omega)]
      rw [sp_next_s (by omega) hsh, if_neg (show ¬ μ 3 p = -1 by have := hth.1.1; omega)]
      by_cases hm : sp_mo μ p = 0
      · have hn1 : sp_next μ (p + 1) = -1 := by
          by_cases h : sp_next μ (p + 1) = -1
          · exact h
          · rw [if_neg h] at hmo; omega
        rw [hn1, if_pos rfl] at hmo
        rw [sp_sc_a (Nat.succ_pos k) (Or.inr hm), show k.succ - 1 = k from rfl, ih (p + 1) x f (by omega) (by omega) (by omega) hx, if_pos hn1, mo_rs_o]
        rw [hF, hnx, hn1]
        intro h; rcases h with h | h
        · omega
        · exact h rfl
      · have hc : ¬ (¬ sp_th μ (μ 3 p) ∨ sp_mo μ p = 0) := fun h => h.elim (fun g => g hth.1) hm
        have hgo : 0 < mo_FS ν (μ 3 p) ∨ mo_nx ν (mo_pl ν (μ 3 p) + 1) ≠ -1 := by
          rw [hF, hnx]
          by_cases h : sp_next μ (p + 1) = -1
          · left; rw [if_pos h] at hmo; omega
          · exact Or.inr h
        by_cases hz : μ (5 + 5 * μ 3 p) 2 = 0
        · rw [sp_sc_b (Nat.succ_pos k) hc hz, mo_rs_z (by omega) hgo (by rw [hrow.2.2.1]; exact hz)]
        · have hP := hrow.2.2.1
          have hz2 : mo_o ν (μ 3 p) 2 ≠ 0 := by rw [hP]; exact hz
          have hpz2 : 0 ≤ mo_o ν (μ 3 p) 2 ∧ mo_o ν (μ 3 p) 2 ≤ 60 := by rw [hP]; exact hpz
          have hd := mo_rs_d hpz2 hz2 (sp_FS μ (μ 3 p)).toNat f 0 x (by rw [hF]; omega) (by omega) hx
          rw [show ((sp_FS μ (μ 3 p)).toNat : Int) = sp_FS μ (μ 3 p) by omega, Int.zero_add, hP] at hd
          have hsx : sp_sx μ (sp_pl μ (μ 58 0)) p x = rd_w (x + sp_mo μ p * μ (5 + 5 * μ 3 p) 2) := by
            unfold sp_sx; rw [if_neg (by omega), rd_w_rr]
          rw [sp_sc_c (Nat.succ_pos k) hc hz, show k.succ - 1 = k from rfl, hsx, hd]
          by_cases h : sp_next μ (p + 1) = -1
          · rw [if_pos h, Int.add_zero] at hmo
            rw [ih (p + 1) _ f (by omega) (by omega) (by omega) (rd_w_ok _), if_pos h, mo_rs_o (by rw [hF, hnx, h]; intro g; rcases g with g | g; omega; exact g rfl), hmo]
          · rw [if_neg h] at hmo
            rw [ih (p + 1) _ (f - (sp_FS μ (μ 3 p)).toNat - 1) (by omega) (by omega) (by omega) (rd_w_ok _), if_neg h, mo_rs_s (by omega) (Or.inr (by rw [hnx]; exact h)) hz2, mo_rs_w ν hpz2 hz2, hF, if_pos rfl, if_pos rfl, hnx, rd_w_l, hmo, hP, Int.add_mul, Int.one_mul]
            congr 2; omega
    · have hmo : sp_mo μ p = 0 := by unfold sp_mo; exact sp_iff (fun h => h.2.elim hs hne) _ _
      rw [sp_sc_a (Nat.succ_pos k) (Or.inr hmo), show k.succ - 1 = k from rfl, ih (p + 1) x f (by omega) (by omega) (by omega) hx, sp_next_n (by omega) (fun h => hs h.2)]
theorem rl_sc0 (hR : rl_1 μ ν) (hh : sp_th μ (μ 58 0)) : mo_rs ν 200 (ν 1 30) (ν 1 31) (ν 1 33) 0 = sp_sc μ (sp_pl μ (μ 58 0)) (μ 2 0 - sp_pl μ (μ 58 0)).toNat (sp_pl μ (μ 58 0)) 0 := by
  obtain ⟨-, p1, p2, -, p4, -, -, p7, -⟩ := rl_pp hR hh
  rw [p1, p2, p4]
  have hos := rl_os hR.1 hh
  have hcn := hR.1.1.1
  unfold sp_cnt at hcn
  have hrow := rl_row hR.2.1 hh
  have hF := rl_FS hR.2.1 hh
  have h9 := sp_FS9 hR.1.1.2.1 hR.1.1.2.2.1 hh.1.1 hh.1.2
  have hst := hR.1.1.2.2.2.2
  have hpz := ((hR.1.2.2.2.2.2.2.2 (μ 58 0) hh.1.1 (by have := hh.1.2; omega)).1 hh).1
  have hsc := rl_sc hR hh
  have hnx : mo_nx ν (mo_pl ν (μ 58 0) + 1) = sp_next μ (sp_pl μ (μ 58 0) + 1) := by rw [rl_pl hR.2.1, rl_nx hR.1 hR.2.1 (by omega)]
  have hmo : sp_mo μ (sp_pl μ (μ 58 0)) = sp_FS μ (μ 58 0) - μ 58 1 + (if sp_next μ (sp_pl μ (μ 58 0) + 1) = -1 then 0 else 1) := by
    unfold sp_mo; rw [hos.2, sp_ift ⟨hh, Or.inr rfl⟩, if_pos rfl]
  have h3 : μ 3 (sp_pl μ (μ 58 0)) = μ 58 0 := hos.2
  have hk : (μ 2 0 - sp_pl μ (μ 58 0)).toNat - 1 = (μ 2 0 - (sp_pl μ (μ 58 0) + 1)).toNat := by omega
  have hk0 : 0 < (μ 2 0 - sp_pl μ (μ 58 0)).toNat := by omega
  have hok0 : rd_ok 0 := rd_ok0
  by_cases hm : sp_mo μ (sp_pl μ (μ 58 0)) = 0
  · have hn1 : sp_next μ (sp_pl μ (μ 58 0) + 1) = -1 := by
      by_cases h : sp_next μ (sp_pl μ (μ 58 0) + 1) = -1
      · exact h
      · rw [if_neg h] at hmo; omega
    rw [hn1, if_pos rfl] at hmo
    rw [sp_sc_a hk0 (Or.inr hm), hk, hsc _ _ _ 200 (by omega) (by omega) (by omega) hok0, if_pos hn1, mo_rs_o]
    rw [hF, hnx, hn1]
    intro h; rcases h with h | h
    · omega
    · exact h rfl
  · have hc : ¬ (¬ sp_th μ (μ 3 (sp_pl μ (μ 58 0))) ∨ sp_mo μ (sp_pl μ (μ 58 0)) = 0) := fun h => h.elim (fun g => g (by rw [h3]; exact hh)) hm
    have hgo : μ 58 1 < mo_FS ν (μ 58 0) ∨ mo_nx ν (mo_pl ν (μ 58 0) + 1) ≠ -1 := by
      rw [hF, hnx]
      by_cases h : sp_next μ (sp_pl μ (μ 58 0) + 1) = -1
      · left; rw [if_pos h] at hmo; omega
      · exact Or.inr h
    by_cases hz : μ (5 + 5 * μ 58 0) 2 = 0
    · rw [sp_sc_b hk0 hc (by rw [h3]; exact hz), mo_rs_z (by omega) hgo (by rw [hrow.2.2.1]; exact hz)]
    · have hP := hrow.2.2.1
      have hz2 : mo_o ν (μ 58 0) 2 ≠ 0 := by rw [hP]; exact hz
      have hpz2 : 0 ≤ mo_o ν (μ 58 0) 2 ∧ mo_o ν (μ 58 0) 2 ≤ 60 := by rw [hP]; exact hpz
      have hA : (if 1 ≤ rd_w (mo_o ν (μ 58 0) 2 - μ 58 4) then rd_w (mo_o ν (μ 58 0) 2 - μ 58 4) else 1) = max 1 (rd_w (μ (5 + 5 * μ 58 0) 2 - μ 58 4)) := by rw [hP]; split <;> omega
      have hsx : sp_sx μ (sp_pl μ (μ 58 0)) (sp_pl μ (μ 58 0)) 0 = rd_w (sp_mo μ (sp_pl μ (μ 58 0)) * μ (5 + 5 * μ 58 0) 2 + (max 1 (rd_w (μ (5 + 5 * μ 58 0) 2 - μ 58 4)) - μ (5 + 5 * μ 58 0) 2)) := by
        unfold sp_sx; rw [if_pos rfl, h3, rd_w_rr, Int.zero_add, rd_w_l, rd_w_l]
      rw [sp_sc_c hk0 hc (by rw [h3]; exact hz), hk, hsx, mo_rs_s (by omega) hgo hz2, hA, Int.zero_add]
      generalize max 1 (rd_w (μ (5 + 5 * μ 58 0) 2 - μ 58 4)) = A at *
      by_cases ht : μ 58 1 = sp_FS μ (μ 58 0)
      · rw [hF, if_pos ht, if_pos ht, hnx]
        have h : ¬ sp_next μ (sp_pl μ (μ 58 0) + 1) = -1 := fun g => by rw [if_pos g] at hmo; omega
        rw [if_neg h, ht, Int.sub_self, Int.zero_add] at hmo
        rw [hmo, Int.one_mul, hsc _ _ _ 199 (by omega) (by omega) (by omega) (rd_w_ok _), if_neg h]
        congr 2; omega
      · rw [hF, if_neg ht, if_neg ht, mo_rs_d hpz2 hz2 (sp_FS μ (μ 58 0) - (μ 58 1 + 1)).toNat 199 _ _ (by rw [hF]; omega) (by omega) (rd_w_ok _), rd_w_l, hP, show μ 58 1 + 1 + (((sp_FS μ (μ 58 0) - (μ 58 1 + 1)).toNat : Nat) : Int) = sp_FS μ (μ 58 0) by omega]
        by_cases h : sp_next μ (sp_pl μ (μ 58 0) + 1) = -1
        · rw [if_pos h] at hmo
          have e : sp_mo μ (sp_pl μ (μ 58 0)) = (((sp_FS μ (μ 58 0) - (μ 58 1 + 1)).toNat : Nat) : Int) + 1 := by omega
          rw [e, Int.add_mul, Int.one_mul, hsc _ _ _ 199 (by omega) (by omega) (by omega) (rd_w_ok _), if_pos h, mo_rs_o (by rw [hF, hnx, h]; intro g; rcases g with g | g; omega; exact g rfl)]
          congr 1; omega
        · rw [if_neg h] at hmo
          have e : sp_mo μ (sp_pl μ (μ 58 0)) = (((sp_FS μ (μ 58 0) - (μ 58 1 + 1)).toNat : Nat) : Int) + 1 + 1 := by omega
          rw [e, Int.add_mul, Int.add_mul, Int.one_mul, hsc _ _ _ (199 - (sp_FS μ (μ 58 0) - (μ 58 1 + 1)).toNat - 1) (by omega) (by omega) (by omega) (rd_w_ok _), if_neg h, mo_rs_s (by omega) (Or.inr (by rw [hnx]; exact h)) hz2, mo_rs_w ν hpz2 hz2, hF, if_pos rfl, if_pos rfl, hnx, rd_w_l, hP]
          congr 2; omega
theorem pq_secondsLeft {l : List rd_Mem} (hR : pg_S μ ν l) (h1 : (¬ sp_th μ (μ 58 0) ∧ v = some (rd_I (-6)) ∧ μ' = μ) ∨ (sp_th μ (μ 58 0) ∧ v = some (rd_I (sp_sc μ (sp_pl μ (μ 58 0)) (μ 2 0 - sp_pl μ (μ 58 0)).toNat (sp_pl μ (μ 58 0)) 0)) ∧ μ' = μ)) (h2 : (ν 1 29 = 0 ∧ w = some (rd_I (-6)) ∧ ν' = ν) ∨ (ν 1 29 ≠ 0 ∧ w = some (rd_I (mo_rs ν 200 (ν 1 30) (ν 1 31) (ν 1 33) 0)) ∧ ν' = ν)) : w = v ∧ μ' = μ := by
  have hon := (rl_on29 hR.1).2
  rcases h1 with ⟨a, e, m⟩ | ⟨a, e, m⟩ <;> rcases h2 with ⟨b, f, n⟩ | ⟨b, f, n⟩ <;> first | (constructor <;> first | (rw [e, f]; done) | exact m) | (exfalso; clear m n e f hR; grind) | skip
  rw [e, f, m, rl_sc0 hR.1 a]
  exact ⟨rfl, rfl⟩
end RG

