/-! the seconds that are left: the same -/
theorem rd_w_l (a b : Int) : rd_w (rd_w a + b) = rd_w (a + b) := by
  show (rd_i (rd_w a + b)).toInt = (rd_i (a + b)).toInt
  rw [← rd_add, ← rd_add, rd_w_i]
theorem rd_w_rr (a b : Int) : rd_w (a + rd_w b) = rd_w (a + b) := by
  show (rd_i (a + rd_w b)).toInt = (rd_i (a + b)).toInt
  rw [← rd_add, ← rd_add, rd_w_i]
section RG
variable {μ ν μ' ν' : rd_Mem} {v w : Option rd_X}
theorem mo_rs_w (ν : rd_Mem) {n : Int} (h0 : 0 ≤ mo_o ν n 2 ∧ mo_o ν n 2 ≤ 60) (h1 : mo_o ν n 2 ≠ 0) : (if 1 ≤ rd_w (mo_o ν n 2 - 0) then rd_w (mo_o ν n 2 - 0) else 1) = mo_o ν n 2 := by
  rw [show mo_o ν n 2 - 0 = mo_o ν n 2 by omega, rd_w_id ⟨by omega, by omega⟩, if_pos (by omega)]
theorem mo_rs_d {ν : rd_Mem} {n : Int} (h0 : 0 ≤ mo_o ν n 2 ∧ mo_o ν n 2 ≤ 60) (h1 : mo_o ν n 2 ≠ 0) : ∀ (d f : Nat) (t x : Int), t + d ≤ mo_FS ν n → d ≤ f → rd_ok x → mo_rs ν f n t 0 x = mo_rs ν (f - d) n (t + d) 0 (rd_w (x + d * mo_o ν n 2)) := by
  intro d
  induction d with
  | zero =>
    intro f t x _ _ hx
    rw [show x + ((0 : Nat) : Int) * mo_o ν n 2 = x by simp, rd_w_id hx, show t + ((0 : Nat) : Int) = t by omega]; rfl
  | succ d ih =>
    intro f t x ht hf hx
    have e : (((d + 1 : Nat) : Int)) * mo_o ν n 2 = d * mo_o ν n 2 + mo_o ν n 2 := by
      rw [show ((d + 1 : Nat) : Int) = (d : Int) + 1 by omega, Int.add_mul, Int.one_mul]
    rw [mo_rs_s (by omega) (Or.inl (by omega)) h1, mo_rs_w ν h0 h1, if_neg (by omega), if_neg (by omega), ih (f - 1) (t + 1) _ (by omega) (by omega) (rd_w_ok _), rd_w_l, e]
    congr 1
    · omega
    · omega
    · congr 1; omega
theorem rl_sc (hR : rl_1 μ ν) (hh : sp_th μ (μ 58 0)) : ∀ (k : Nat) (p x : Int) (f : Nat), sp_pl μ (μ 58 0) < p → p + k = μ 2 0 → 10 * k ≤ f → rd_ok x → sp_sc μ (sp_pl μ (μ 58 0)) k p x = (if sp_next μ p = -1 then x else mo_rs ν f (sp_next μ p) 0 0 x) := by
  intro k
  induction k with
  | zero => intro p x f h1 h2 h3 hx; rw [if_pos (sp_next_e (by omega))]; rfl
  | succ k ih =>
    intro p x f h1 h2 h3 hx
    have hpo := hR.1.2.2.2.1 _ hh
    have hth := hR.1.2.2.2.2.2.2.1 p (by omega) (by omega)
    have hne : μ 3 p ≠ μ 58 0 := fun e => by rw [e] at hth; omega
    have hrow := rl_row hR.2.1 hth.1
    have hF := rl_FS hR.2.1 hth.1
    have h9 := sp_FS9 hR.1.1.2.1 hR.1.1.2.2.1 hth.1.1.1 hth.1.1.2
    have h0 : 0 ≤ sp_FS μ (μ 3 p) := sp_fs0 _ _ _
    have hpz := ((hR.1.2.2.2.2.2.2.2 (μ 3 p) hth.1.1.1 (by have := hth.1.1.2; omega)).1 hth.1).1
    by_cases hs : μ (5 + 5 * μ 3 p) 1 = 0
    · have hsh : sp_sh μ (μ 3 p) := ⟨hth.1, hs⟩
      have hmo : sp_mo μ p = sp_FS μ (μ 3 p) + (if sp_next μ (p + 1) = -1 then 0 else 1) := by
        unfold sp_mo; rw [sp_ift ⟨hth.1, Or.inl hs⟩, if_neg hne]; omega
      have hnx : mo_nx ν (mo_pl ν (μ 3 p) + 1) = sp_next μ (p + 1) := by rw [rl_pl hR.2.1, hth.2, rl_nx hR.1 hR.2.1 (by omega)]
      rw [sp_next_s (by omega) hsh, if_neg (show ¬ μ 3 p = -1 by have := hth.1.1; omega)]
      by_cases hm : sp_mo μ p = 0
      · have hn1 : sp_next μ (p + 1) = -1 := by
          by_cases h : sp_next μ (p + 1) = -1
          · exact h
          · rw [if_neg h] at hmo; omega
        rw [hn1, if_pos rfl] at hmo
        rw [sp_sc_a (Nat.succ_pos k) (Or.inr hm), show k.succ - 1 = k from rfl, ih (p + 1) x f (by omega) (by omega) (by omega) hx, if_pos hn1, mo_rs_o]
        rw [hF, hnx, hn1]
        intro h; rcases h with h | h
        · omega
        · exact h rfl
      · have hc : ¬ (¬ sp_th μ (μ 3 p) ∨ sp_mo μ p = 0) := fun h => h.elim (fun g => g hth.1) hm
        have hgo : 0 < mo_FS ν (μ 3 p) ∨ mo_nx ν (mo_pl ν (μ 3 p) + 1) ≠ -1 := by
          rw [hF, hnx]
          by_cases h : sp_next μ (p + 1) = -1
          · left; rw [if_pos h] at hmo; omega
          · exact Or.inr h
        by_cases hz : μ (5 + 5 * μ 3 p) 2 = 0
        · rw [sp_sc_b (Nat.succ_pos k) hc hz, mo_rs_z (by omega) hgo (by rw [hrow.2.2.1]; exact hz)]
        · have hP := hrow.2.2.1
          have hz2 : mo_o ν (μ 3 p) 2 ≠ 0 := by rw [hP]; exact hz
          have hpz2 : 0 ≤ mo_o ν (μ 3 p) 2 ∧ mo_o ν (μ 3 p) 2 ≤ 60 := by rw [hP]; exact hpz
          have hd := mo_rs_d hpz2 hz2 (sp_FS μ (μ 3 p)).toNat f 0 x (by rw [hF]; omega) (by omega) hx
          rw [show ((sp_FS μ (μ 3 p)).toNat : Int) = sp_FS μ (μ 3 p) by omega, Int.zero_add, hP] at hd
          have hsx : sp_sx μ (sp_pl μ (μ 58 0)) p x = rd_w (x + sp_mo μ p * μ (5 + 5 * μ 3 p) 2) := by
            unfold sp_sx; rw [if_neg (by omega), rd_w_rr]
          rw [sp_sc_c (Nat.succ_pos k) hc hz, show k.succ - 1 = k from rfl, hsx, hd]
          by_cases h : sp_next μ (p + 1) = -1
          · rw [if_pos h, Int.add_zero] at hmo
            rw [ih (p + 1) _ f (by omega) (by omega) (by omega) (rd_w_ok _), if_pos h, mo_rs_o (by rw [hF, hnx, h]; intro g; rcases g with g | g; omega; exact g rfl), hmo]
          · rw [if_neg h] at hmo
            rw [ih (p + 1) _ (f - (sp_FS μ (μ 3 p)).toNat - 1) (by omega) (by omega) (by omega) (rd_w_ok _), if_neg h, mo_rs_s (by omega) (Or.inr (by rw [hnx]; exact h)) hz2, mo_rs_w ν hpz2 hz2, hF, if_pos rfl, if_pos rfl, hnx, rd_w_l, hmo, hP, Int.add_mul, Int.one_mul]
            congr 2; omega
    · have hmo : sp_mo μ p = 0 := by unfold sp_mo; exact sp_iff (fun h => h.2.elim hs hne) _ _
      rw [sp_sc_a (Nat.succ_pos k) (Or.inr hmo), show k.succ - 1 = k from rfl, ih (p + 1) x f (by omega) (by omega) (by omega) hx, sp_next_n (by omega) (fun h => hs h.2)]
theorem rl_sc0 (hR : rl_1 μ ν) (hh : sp_th μ (μ 58 0)) : mo_rs ν 200 (ν 1 30) (ν 1 31) (ν 1 33) 0 = sp_sc μ (sp_pl μ (μ 58 0)) (μ 2 0 - sp_pl μ (μ 58 0)).toNat (sp_pl μ (μ 58 0)) 0 := by
  obtain ⟨-, p1, p2, -, p4, -, -, p7, -⟩ := rl_pp hR hh
  rw [p1, p2, p4]
  have hos := rl_os hR.1 hh
  have hcn := hR.1.1.1
  unfold sp_cnt at hcn
  have hrow := rl_row hR.2.1 hh
  have hF := rl_FS hR.2.1 hh
  have h9 := sp_FS9 hR.1.1.2.1 hR.1.1.2.2.1 hh.1.1 hh.1.2
  have hst := hR.1.1.2.2.2.2
  have hpz := ((hR.1.2.2.2.2.2.2.2 (μ 58 0) hh.1.1 (by have := hh.1.2; omega)).1 hh).1
  have hsc := rl_sc hR hh
  have hnx : mo_nx ν (mo_pl ν (μ 58 0) + 1) = sp_next μ (sp_pl μ (μ 58 0) + 1) := by rw [rl_pl hR.2.1, rl_nx hR.1 hR.2.1 (by omega)]
  have hmo : sp_mo μ (sp_pl μ (μ 58 0)) = sp_FS μ (μ 58 0) - μ 58 1 + (if sp_next μ (sp_pl μ (μ 58 0) + 1) = -1 then 0 else 1) := by
    unfold sp_mo; rw [hos.2, sp_ift ⟨hh, Or.inr rfl⟩, if_pos rfl]
  have h3 : μ 3 (sp_pl μ (μ 58 0)) = μ 58 0 := hos.2
  have hk : (μ 2 0 - sp_pl μ (μ 58 0)).toNat - 1 = (μ 2 0 - (sp_pl μ (μ 58 0) + 1)).toNat := by omega
  have hk0 : 0 < (μ 2 0 - sp_pl μ (μ 58 0)).toNat := by omega
  have hok0 : rd_ok 0 := rd_ok0
  by_cases hm : sp_mo μ (sp_pl μ (μ 58 0)) = 0
  · have hn1 : sp_next μ (sp_pl μ (μ 58 0) + 1) = -1 := by
      by_cases h : sp_next μ (sp_pl μ (μ 58 0) + 1) = -1
      · exact h
      · rw [if_neg h] at hmo; omega
    rw [hn1, if_pos rfl] at hmo
    rw [sp_sc_a hk0 (Or.inr hm), hk, hsc _ _ _ 200 (by omega) (by omega) (by omega) hok0, if_pos hn1, mo_rs_o]
    rw [hF, hnx, hn1]
    intro h; rcases h with h | h
    · omega
    · exact h rfl
  · have hc : ¬ (¬ sp_th μ (μ 3 (sp_pl μ (μ 58 0))) ∨ sp_mo μ (sp_pl μ (μ 58 0)) = 0) := fun h => h.elim (fun g => g (by rw [h3]; exact hh)) hm
    have hgo : μ 58 1 < mo_FS ν (μ 58 0) ∨ mo_nx ν (mo_pl ν (μ 58 0) + 1) ≠ -1 := by
      rw [hF, hnx]
      by_cases h : sp_next μ (sp_pl μ (μ 58 0) + 1) = -1
      · left; rw [if_pos h] at hmo; omega
      · exact Or.inr h
    by_cases hz : μ (5 + 5 * μ 58 0) 2 = 0
    · rw [sp_sc_b hk0 hc (by rw [h3]; exact hz), mo_rs_z (by omega) hgo (by rw [hrow.2.2.1]; exact hz)]
    · have hP := hrow.2.2.1
      have hz2 : mo_o ν (μ 58 0) 2 ≠ 0 := by rw [hP]; exact hz
      have hpz2 : 0 ≤ mo_o ν (μ 58 0) 2 ∧ mo_o ν (μ 58 0) 2 ≤ 60 := by rw [hP]; exact hpz
      have hA : (if 1 ≤ rd_w (mo_o ν (μ 58 0) 2 - μ 58 4) then rd_w (mo_o ν (μ 58 0) 2 - μ 58 4) else 1) = max 1 (rd_w (μ (5 + 5 * μ 58 0) 2 - μ 58 4)) := by rw [hP]; split <;> omega
      have hsx : sp_sx μ (sp_pl μ (μ 58 0)) (sp_pl μ (μ 58 0)) 0 = rd_w (sp_mo μ (sp_pl μ (μ 58 0)) * μ (5 + 5 * μ 58 0) 2 + (max 1 (rd_w (μ (5 + 5 * μ 58 0) 2 - μ 58 4)) - μ (5 + 5 * μ 58 0) 2)) := by
        unfold sp_sx; rw [if_pos rfl, h3, rd_w_rr, Int.zero_add, rd_w_l, rd_w_l]
      rw [sp_sc_c hk0 hc (by rw [h3]; exact hz), hk, hsx, mo_rs_s (by omega) hgo hz2, hA, Int.zero_add]
      generalize max 1 (rd_w (μ (5 + 5 * μ 58 0) 2 - μ 58 4)) = A at *
      by_cases ht : μ 58 1 = sp_FS μ (μ 58 0)
      · rw [hF, if_pos ht, if_pos ht, hnx]
        have h : ¬ sp_next μ (sp_pl μ (μ 58 0) + 1) = -1 := fun g => by rw [if_pos g] at hmo; omega
        rw [if_neg h, ht, Int.sub_self, Int.zero_add] at hmo
        rw [hmo, Int.one_mul, hsc _ _ _ 199 (by omega) (by omega) (by omega) (rd_w_ok _), if_neg h]
        congr 2; omega
      · rw [hF, if_neg ht, if_neg ht, mo_rs_d hpz2 hz2 (sp_FS μ (μ 58 0) - (μ 58 1 + 1)).toNat 199 _ _ (by rw [hF]; omega) (by omega) (rd_w_ok _), rd_w_l, hP, show μ 58 1 + 1 + (((sp_FS μ (μ 58 0) - (μ 58 1 + 1)).toNat : Nat) : Int) = sp_FS μ (μ 58 0) by omega]
        by_cases h : sp_next μ (sp_pl μ (μ 58 0) + 1) = -1
        · rw [if_pos h] at hmo
          have e : sp_mo μ (sp_pl μ (μ 58 0)) = (((sp_FS μ (μ 58 0) - (μ 58 1 + 1)).toNat : Nat) : Int) + 1 := by omega
          rw [e, Int.add_mul, Int.one_mul, hsc _ _ _ 199 (by omega) (by omega) (by omega) (rd_w_ok _), if_pos h, mo_rs_o (by rw [hF, hnx, h]; intro g; rcases g with g | g; omega; exact g rfl)]
          congr 1; omega
        · rw [if_neg h] at hmo
          have e : sp_mo μ (sp_pl μ (μ 58 0)) = (((sp_FS μ (μ 58 0) - (μ 58 1 + 1)).toNat : Nat) : Int) + 1 + 1 := by omega
          rw [e, Int.add_mul, Int.add_mul, Int.one_mul, hsc _ _ _ (199 - (sp_FS μ (μ 58 0) - (μ 58 1 + 1)).toNat - 1) (by omega) (by omega) (by omega) (rd_w_ok _), if_neg h, mo_rs_s (by omega) (Or.inr (by rw [hnx]; exact h)) hz2, mo_rs_w ν hpz2 hz2, hF, if_pos rfl, if_pos rfl, hnx, rd_w_l, hP]
          congr 2; omega
theorem ro_secondsLeft (hR : rl_R μ ν) (h1 : (¬ sp_th μ (μ 58 0) ∧ v = some (rd_I (-6)) ∧ μ' = μ) ∨ (sp_th μ (μ 58 0) ∧ v = some (rd_I (sp_sc μ (sp_pl μ (μ 58 0)) (μ 2 0 - sp_pl μ (μ 58 0)).toNat (sp_pl μ (μ 58 0)) 0)) ∧ μ' = μ)) (h2 : (ν 1 29 = 0 ∧ w = some (rd_I (-6)) ∧ ν' = ν) ∨ (ν 1 29 ≠ 0 ∧ w = some (rd_I (mo_rs ν 200 (ν 1 30) (ν 1 31) (ν 1 33) 0)) ∧ ν' = ν)) : w = v ∧ rl_R μ' ν' := by
  have hon := (rl_on29 hR.1).2
  rcases h1 with ⟨a, e, m⟩ | ⟨a, e, m⟩ <;> rcases h2 with ⟨b, f, n⟩ | ⟨b, f, n⟩ <;> first | (constructor <;> first | (rw [e, f]; done) | (rw [m, n]; exact hR)) | (exfalso; clear m n e f hR; grind) | skip
  rw [e, f, m, n, rl_sc0 hR.1 a]
  exact ⟨rfl, hR⟩
end RG
