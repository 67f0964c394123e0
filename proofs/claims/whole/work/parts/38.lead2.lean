theorem mo_Wv_i {μ : rd_Mem} {ρ : Int → Int} {k i f : Int} (h : mo_Wv μ ρ k i f) (hi : ρ i = k → ∀ n' s', mo_e μ (i / 10) (i % 10) n' s' → ρ (10 * n' + s') ≠ -6) : mo_Wv μ ρ k (i + 1) f := by
  obtain ⟨hV, hC, hD, hf, hU⟩ := h
  refine ⟨hV, hC, fun n s n0 n9 s0 s9 hl hv n' s' he => ?_, hf, hU⟩
  by_cases e : 10 * n + s = i
  · refine hi (by rw [← e]; exact hv) n' s' ?_
    rw [show i / 10 = n by omega, show i % 10 = s by omega]; exact he
  · exact hD n s n0 n9 s0 s9 (by omega) hv n' s' he
theorem mo_Wv_0 {μ : rd_Mem} {ρ : Int → Int} {k : Int} (hV : mo_V μ ρ k) (hC : mo_C μ ρ k) (hU : mo_U ρ + k ≤ 100) (hk : 0 ≤ k) : mo_Wv μ ρ k 0 0 := by
  refine ⟨fun n s n0 n9 s0 s9 => ?_, hC, fun n s n0 n9 s0 s9 hl => by omega, ⟨Or.inl rfl, fun _ x x0 x1 => ?_⟩, by omega⟩
  · rcases hV n s n0 n9 s0 s9 with h | ⟨h1, h2⟩
    · exact Or.inl h
    · exact Or.inr ⟨by omega, h2⟩
  · have h := hV (x / 10) (x % 10) (by omega) (by omega) (by omega) (by omega)
    rw [show 10 * (x / 10) + x % 10 = x by omega] at h
    rcases h with h | ⟨h1, h2⟩
    · intro e; omega
    · omega
theorem mo_V_k {μ : rd_Mem} {ρ : Int → Int} {k i f : Int} (h : mo_Wv μ ρ k i f) (i0 : 0 ≤ i ∧ i < 100) (hk : 0 ≤ k) (hv : ρ i = k) : mo_P μ k.toNat (i / 10) (i % 10) := by
  have h1 := h.1 (i / 10) (i % 10) (by omega) (by omega) (by omega) (by omega)
  rw [show 10 * (i / 10) + i % 10 = i by omega, hv] at h1
  exact (h1.resolve_left (by omega)).2
/-- the least of ten -/
def mo_mn (ρ : Int → Int) (g i r : Int) : Prop := (r = -6 ∧ ∀ s : Int, 0 ≤ s → 10 * g + s < i → ρ (10 * g + s) = -6) ∨ (0 ≤ r ∧ (∃ s : Int, (0 ≤ s ∧ 10 * g + s < i) ∧ ρ (10 * g + s) = r) ∧ ∀ s : Int, 0 ≤ s → 10 * g + s < i → ρ (10 * g + s) = -6 ∨ r ≤ ρ (10 * g + s))
theorem mo_mn_s {ρ : Int → Int} {g i r r' : Int} (h : mo_mn ρ g i r) (hi : 10 * g ≤ i) (h6 : ρ i = -6 ∨ 0 ≤ ρ i) (hr : (ρ i = -6 ∧ r' = r) ∨ (ρ i ≠ -6 ∧ (r = -6 ∨ ρ i < r) ∧ r' = ρ i) ∨ (ρ i ≠ -6 ∧ r ≠ -6 ∧ r ≤ ρ i ∧ r' = r)) : mo_mn ρ g (i + 1) r' := by
  have hx : ∀ s : Int, 0 ≤ s → 10 * g + s < i + 1 → 10 * g + s < i ∨ 10 * g + s = i := fun s _ _ => by omega
  rcases hr with ⟨h1, rfl⟩ | ⟨h1, h2, rfl⟩ | ⟨h1, h2, h3, rfl⟩
  · rcases h with ⟨g1, g2⟩ | ⟨g1, ⟨s, g2, g3⟩, g4⟩
    · refine Or.inl ⟨g1, fun s s0 s1 => ?_⟩
      rcases hx s s0 s1 with h | h
      · exact g2 s s0 h
      · rw [h]; exact h1
    · refine Or.inr ⟨g1, ⟨s, by omega, g3⟩, fun s s0 s1 => ?_⟩
      rcases hx s s0 s1 with h | h
      · exact g4 s s0 h
      · rw [h]; exact Or.inl h1
  · refine Or.inr ⟨by omega, ⟨i - 10 * g, by omega, by rw [show 10 * g + (i - 10 * g) = i by omega]⟩, fun s s0 s1 => ?_⟩
    rcases hx s s0 s1 with h5 | h5
    · rcases h with ⟨g1, g2⟩ | ⟨g1, -, g4⟩
      · exact Or.inl (g2 s s0 h5)
      · rcases g4 s s0 h5 with h7 | h7
        · exact Or.inl h7
        · right; omega
    · rw [h5]; exact Or.inr (Int.le_refl _)
  · rcases h with ⟨g1, g2⟩ | ⟨g1, ⟨s, g2, g3⟩, g4⟩
    · exact absurd g1 h2
    · refine Or.inr ⟨g1, ⟨s, by omega, g3⟩, fun s s0 s1 => ?_⟩
      rcases hx s s0 s1 with h | h
      · exact g4 s s0 h
      · rw [h]; exact Or.inr h3
theorem mo_mn_e {μ : rd_Mem} (hJ : mo_J μ) (h29 : μ 1 29 = 1) (hst : μ 1 31 ≤ mo_FS μ (μ 1 30)) {ρ : Int → Int} {k g r : Int} (hg : 0 ≤ g ∧ g ≤ 9) (hV : mo_V μ ρ k) (hall : ∀ (j : Nat) (n s : Int), mo_P μ j n s → 0 ≤ ρ (10 * n + s) ∧ ρ (10 * n + s) ≤ j) (h : mo_mn ρ g (10 * g + 10) r) : (r = -6 ∧ ∀ (j : Nat) (s : Int), ¬ mo_P μ j g s) ∨ (0 ≤ r ∧ (∃ s, mo_P μ r.toNat g s) ∧ ∀ (j : Nat) (s : Int), mo_P μ j g s → r ≤ j) := by
  have hs9 : ∀ (j : Nat) (s : Int), mo_P μ j g s → 0 ≤ s ∧ s ≤ 9 := fun j s hp => by
    obtain ⟨h1, h2, h3⟩ := mo_P_r hJ h29 hst j g s hp
    have := mo_FS_r (hJ.1.1.2.1 _ h1).1
    omega
  rcases h with ⟨h1, h2⟩ | ⟨h1, ⟨s, h2, h3⟩, h4⟩
  · refine Or.inl ⟨h1, fun j s hp => ?_⟩
    have h5 := hs9 j s hp
    have h6 := hall j g s hp
    have h7 := h2 s h5.1 (by omega)
    omega
  · refine Or.inr ⟨h1, ⟨s, ?_⟩, fun j s hp => ?_⟩
    · have h5 := (hV g s hg.1 hg.2 h2.1 (by omega)).resolve_left (by omega)
      rw [h3] at h5; exact h5.2
    · have h5 := hs9 j s hp
      have h6 := hall j g s hp
      have h7 := h4 s h5.1 (by omega)
      omega
set_option maxHeartbeats 4000000 in
set_option maxRecDepth 100000 in
theorem c_X10_leads {l : Launch} {G : rd_G} {r : Nat} {μ : rd_Mem} {g0 : Int} (hJ : mo_J μ) (h29 : μ 1 29 = 1) (hst : μ 1 31 ≤ mo_FS μ (μ 1 30)) (hg : 0 ≤ g0 ∧ g0 ≤ 9) : rd_M l G rd_km 5 r yX10_leads cX10_leads 8 (some .int) (rd_rm 4 86) [rd_R 0, rd_I g0] μ (fun v μ' => ∃ r : Int, v = some (rd_I r) ∧ ((r = -6 ∧ ∀ (j : Nat) (s : Int), ¬ mo_P μ j g0 s) ∨ (0 ≤ r ∧ (∃ s, mo_P μ r.toNat g0 s) ∧ ∀ (j : Nat) (s : Int), mo_P μ j g0 s → r ≤ j)) ∧ ∀ a : Int, a ≠ 4 → μ' a = μ a) := by
  refine rd_enter (by decide +kernel) (Nat.le_of_ble_eq_true rfl) [rd_R 0, rd_I g0, rd_J, rd_J, rd_J, rd_J, rd_J, rd_J] rfl (fun p e s m args below meth c C => ?_)
  refine rd_W.rng (fun hM hL _ => ?_)
  have hat := mo_I_at hJ.1 h29
  have hatr := hat.1
  have hfs0 := mo_FS_r hat.2.1
  have hs31 := hJ.1.2.2.1
  refine rd_iconst C dX10_leads_0 (n := 0) ⟨by decide, by decide⟩ ?_
  refine rd_istore_n C dX10_leads_1 (by decide) (L' := [rd_R 0, rd_I g0, rd_I 0, rd_J, rd_J, rd_J, rd_J, rd_J]) rfl ?_
  have lp2 : ∀ (n : Nat) (i : Int) (μ1 : rd_Mem), (0 ≤ i) → (i ≤ 100) → (100 < i + n) → (∀ a : Int, a ≠ 4 → μ1 a = μ a) → (∀ j : Int, 0 ≤ j → j < i → μ1 4 j = -6) → rd_W p l e (rd_rm 4 86) s m args below meth c (MQ below (rd_Qc G rd_km 5 r (fun v μ' => ∃ r : Int, v = some (rd_I r) ∧ ((r = -6 ∧ ∀ (j : Nat) (s : Int), ¬ mo_P μ j g0 s) ∨ (0 ≤ r ∧ (∃ s, mo_P μ r.toNat g0 s) ∧ ∀ (j : Nat) (s : Int), mo_P μ j g0 s → r ≤ j)) ∧ ∀ a : Int, a ≠ 4 → μ' a = μ a)) args s 0 0 (rd_A r 5)) 8 G rd_km 5 r 2 [rd_R 0, rd_I g0, rd_I i, rd_J, rd_J, rd_J, rd_J, rd_J] [] μ1 := by
    intro n
    induction n with
    | zero => intro i μ1  y0 y1 y2 hfr hin; exfalso; omega
    | succ n ih =>
      intro i μ1  y0 y1 y2 hfr hin
      refine rd_iload_n C dX10_leads_2 rfl ?_
      refine rd_bipush C dX10_leads_3 (n := 100) (by decide) ⟨by decide, by decide⟩ ?_
      refine rd_icmp_ge C dX10_leads_5 (tgt := 22) (by decide) (fun h_5 => ?_) (fun h_5 => ?_)
      · refine rd_aload_n C dX10_leads_22 rfl ?_
        refine rd_get C rd_g10_8 rf_X10_19 dX10_leads_23 rd_c0 rd_m0 (x := rd_R (4)) rfl (fun _ => trivial) ?_
        refine rd_bipush C dX10_leads_26 (n := 10) (by decide) ⟨by decide, by decide⟩ ?_
        refine rd_aload_n C dX10_leads_28 rfl ?_
        refine rd_get C rd_g10_0 rf_X10_7 dX10_leads_29 rd_c0 rd_m0 (x := rd_R (1)) rfl (fun _ => trivial) ?_
        refine rd_bipush C dX10_leads_32 (n := 30) (by decide) ⟨by decide, by decide⟩ ?_
        refine rd_ialdx C rd_ai18 dX10_leads_34 rd_c1 rd_m1 ⟨by omega, by omega⟩ (z := μ 1 30) (by rw [hfr _ (by omega)]) ?_
        refine rd_imul C dX10_leads_35 (z := 10 * (μ 1 30)) rfl ⟨by omega, by omega⟩ ?_
        refine rd_aload_n C dX10_leads_36 rfl ?_
        refine rd_get C rd_g10_0 rf_X10_7 dX10_leads_37 rd_c0 rd_m0 (x := rd_R (1)) rfl (fun _ => trivial) ?_
        refine rd_bipush C dX10_leads_40 (n := 31) (by decide) ⟨by decide, by decide⟩ ?_
        refine rd_ialdx C rd_ai18 dX10_leads_42 rd_c1 rd_m1 ⟨by omega, by omega⟩ (z := μ 1 31) (by rw [hfr _ (by omega)]) ?_
        refine rd_iadd C dX10_leads_43 (z := 10 * (μ 1 30) + μ 1 31) rfl ⟨by omega, by omega⟩ ?_
        refine rd_iconst C dX10_leads_44 (n := 0) ⟨by decide, by decide⟩ ?_
        refine rd_iast C rd_ai21 dX10_leads_45 rd_c4 rd_m4 ⟨by omega, by omega⟩ ?_
        have hm0 : (rd_u μ1 4 (10 * μ 1 30 + μ 1 31) 0) 4 = rd_uf (μ1 4) (10 * μ 1 30 + μ 1 31) 0 := rd_u_row _ _ _ _
        have hfr0 : ∀ a : Int, a ≠ 4 → (rd_u μ1 4 (10 * μ 1 30 + μ 1 31) 0) a = μ a := fun a ha => (rd_u_ne _ _ _ ha).trans (hfr a ha)
        have hi100 : i = 100 := by omega
        have hs0 : (rd_u μ1 4 (10 * μ 1 30 + μ 1 31) 0) 4 (10 * μ 1 30 + μ 1 31) = 0 := rd_u_s _ _ _ _
        have ho0 : ∀ x : Int, 0 ≤ x → x < 100 → x ≠ 10 * μ 1 30 + μ 1 31 → (rd_u μ1 4 (10 * μ 1 30 + μ 1 31) 0) 4 x = -6 := fun x x0 x1 hx => (rd_u_j _ _ _ hx).trans (hin x x0 (by omega))
        have hV0 : mo_V μ ((rd_u μ1 4 (10 * μ 1 30 + μ 1 31) 0) 4) 0 := fun n s n0 n9 s0 s9 => by
          by_cases e : 10 * n + s = 10 * μ 1 30 + μ 1 31
          · obtain ⟨rfl, rfl⟩ : n = μ 1 30 ∧ s = μ 1 31 := by omega
            right; rw [hs0]; exact ⟨by omega, rfl, rfl⟩
          · left; exact ho0 _ (by omega) (by omega) e
        have hC0 : mo_C μ ((rd_u μ1 4 (10 * μ 1 30 + μ 1 31) 0) 4) 0 := fun j n s hj hp => by
          obtain rfl : j = 0 := by omega
          obtain ⟨rfl, rfl⟩ := hp
          rw [hs0]; omega
        have hU0 := (sp_num_le (fun x => (rd_u μ1 4 (10 * μ 1 30 + μ 1 31) 0) 4 x = -6) 100).2
        refine rd_iconst C dX10_leads_46 (n := 1) ⟨by decide, by decide⟩ ?_
        refine rd_istore_n C dX10_leads_47 (by decide) (L' := [rd_R 0, rd_I g0, rd_I 1, rd_J, rd_J, rd_J, rd_J, rd_J]) rfl ?_
        refine rd_iconst C dX10_leads_48 (n := 0) ⟨by decide, by decide⟩ ?_
        refine rd_istore_n C dX10_leads_49 (by decide) (L' := [rd_R 0, rd_I g0, rd_I 1, rd_I 0, rd_J, rd_J, rd_J, rd_J]) rfl ?_
        have lp50 : ∀ (n : Nat) (f k : Int) (j4 j5 j6 j7 : rd_X) (μ1 : rd_Mem), (0 ≤ k) → (k ≤ 101) → (101 < k + n) → (∀ a : Int, a ≠ 4 → μ1 a = μ a) → (mo_V μ (μ1 4) k) → (mo_C μ (μ1 4) k) → (f = 0 ∨ f = 1) → (f = 0 → ∀ x : Int, 0 ≤ x → x < 100 → μ1 4 x ≠ k) → (f = 1 → mo_U (μ1 4) + k ≤ 100) → rd_W p l e (rd_rm 4 86) s m args below meth c (MQ below (rd_Qc G rd_km 5 r (fun v μ' => ∃ r : Int, v = some (rd_I r) ∧ ((r = -6 ∧ ∀ (j : Nat) (s : Int), ¬ mo_P μ j g0 s) ∨ (0 ≤ r ∧ (∃ s, mo_P μ r.toNat g0 s) ∧ ∀ (j : Nat) (s : Int), mo_P μ j g0 s → r ≤ j)) ∧ ∀ a : Int, a ≠ 4 → μ' a = μ a)) args s 0 0 (rd_A r 5)) 8 G rd_km 5 r 50 [rd_R 0, rd_I g0, rd_I f, rd_I k, j4, j5, j6, j7] [] μ1 := by
          intro n
          induction n with
          | zero => intro f k j4 j5 j6 j7 μ1  k0 k1 k2 hfr hV hC hf01 hf0 hU; exfalso; omega
          | succ n ih =>
            intro f k j4 j5 j6 j7 μ1  k0 k1 k2 hfr hV hC hf01 hf0 hU
            have ihO := ih
            refine rd_iload_n C dX10_leads_50 rfl ?_
            refine rd_if_eq C dX10_leads_51 (tgt := 217) (by decide) (fun h_51 => ?_) (fun h_51 => ?_)
            · have hall := mo_Wv_all hJ h29 hst hV hC k0 (hf0 h_51)
              refine rd_bipush C dX10_leads_217 (n := -6) (by decide) ⟨by decide, by decide⟩ ?_
              refine rd_istore_n C dX10_leads_219 (by decide) (L' := [rd_R 0, rd_I g0, rd_I f, rd_I (-6), j4, j5, j6, j7]) rfl ?_
              refine rd_bipush C dX10_leads_220 (n := 10) (by decide) ⟨by decide, by decide⟩ ?_
              refine rd_iload_n C dX10_leads_222 rfl ?_
              refine rd_imul C dX10_leads_223 (z := 10 * g0) rfl ⟨by omega, by omega⟩ ?_
              refine rd_istore C dX10_leads_224 (by decide) (L' := [rd_R 0, rd_I g0, rd_I f, rd_I (-6), rd_I (10 * g0), j5, j6, j7]) rfl ?_
              have lp226 : ∀ (n : Nat) (x i : Int), (10 * g0 ≤ i) → (i ≤ 10 * g0 + 10) → (10 * g0 + 10 < i + n) → (mo_mn (μ1 4) g0 i x) → rd_W p l e (rd_rm 4 86) s m args below meth c (MQ below (rd_Qc G rd_km 5 r (fun v μ' => ∃ r : Int, v = some (rd_I r) ∧ ((r = -6 ∧ ∀ (j : Nat) (s : Int), ¬ mo_P μ j g0 s) ∨ (0 ≤ r ∧ (∃ s, mo_P μ r.toNat g0 s) ∧ ∀ (j : Nat) (s : Int), mo_P μ j g0 s → r ≤ j)) ∧ ∀ a : Int, a ≠ 4 → μ' a = μ a)) args s 0 0 (rd_A r 5)) 8 G rd_km 5 r 226 [rd_R 0, rd_I g0, rd_I f, rd_I x, rd_I i, j5, j6, j7] [] μ1 := by
                intro n
                induction n with
                | zero => intro x i  i0 i1 i2 hmn; exfalso; omega
                | succ n ih =>
                  intro x i  i0 i1 i2 hmn
                  refine rd_iload C dX10_leads_226 rfl ?_
                  refine rd_bipush C dX10_leads_228 (n := 10) (by decide) ⟨by decide, by decide⟩ ?_
                  refine rd_iload_n C dX10_leads_230 rfl ?_
                  refine rd_imul C dX10_leads_231 (z := 10 * g0) rfl ⟨by omega, by omega⟩ ?_
                  refine rd_bipush C dX10_leads_232 (n := 10) (by decide) ⟨by decide, by decide⟩ ?_
                  refine rd_iadd C dX10_leads_234 (z := 10 * g0 + 10) rfl ⟨by omega, by omega⟩ ?_
                  refine rd_icmp_ge C dX10_leads_235 (tgt := 285) (by decide) (fun h_235 => ?_) (fun h_235 => ?_)
                  · refine rd_iload_n C dX10_leads_285 rfl ?_
                    exact rd_iret C dX10_leads_286 ⟨x, rfl, mo_mn_e hJ h29 hst hg hV hall (by rw [← show i = 10 * g0 + 10 by omega]; exact hmn), hfr⟩
                  · refine rd_aload_n C dX10_leads_238 rfl ?_
                    refine rd_get C rd_g10_8 rf_X10_19 dX10_leads_239 rd_c0 rd_m0 (x := rd_R (4)) rfl (fun _ => trivial) ?_
                    refine rd_iload C dX10_leads_242 rfl ?_
                    refine rd_ialdx C rd_ai21 dX10_leads_244 rd_c4 rd_m4 ⟨by omega, by omega⟩ (z := μ1 4 i) rfl ?_
                    refine rd_bipush C dX10_leads_245 (n := -6) (by decide) ⟨by decide, by decide⟩ ?_
                    refine rd_icmp_eq C dX10_leads_247 (tgt := 277) (by decide) (fun h_247 => ?_) (fun h_247 => ?_)
                    · refine rd_iload_n C dX10_leads_277 rfl ?_
                      refine rd_istore_n C dX10_leads_278 (by decide) (L' := [rd_R 0, rd_I g0, rd_I f, rd_I x, rd_I i, j5, j6, j7]) rfl ?_
                      refine rd_iinc C dX10_leads_279 (by decide) rfl ⟨by omega, by omega⟩ (L' := [rd_R 0, rd_I g0, rd_I f, rd_I x, rd_I (i + 1), j5, j6, j7]) rfl ?_
                      refine rd_goto C dX10_leads_282 (tgt := 226) (by decide) ?_
                      have hVi := hV (i / 10) (i % 10) (by omega) (by omega) (by omega) (by omega)
                      rw [show 10 * (i / 10) + i % 10 = i by omega] at hVi
                      exact ih _ (i + 1) (by omega) (by omega) (by omega) (mo_mn_s hmn i0 (by rcases hVi with h | ⟨h, _⟩; exact Or.inl h; exact Or.inr h.1) (by omega))
                    · refine rd_iload_n C dX10_leads_250 rfl ?_
                      refine rd_bipush C dX10_leads_251 (n := -6) (by decide) ⟨by decide, by decide⟩ ?_
                      refine rd_icmp_eq C dX10_leads_253 (tgt := 267) (by decide) (fun h_253 => ?_) (fun h_253 => ?_)
                      · refine rd_aload_n C dX10_leads_267 rfl ?_
                        refine rd_get C rd_g10_8 rf_X10_19 dX10_leads_268 rd_c0 rd_m0 (x := rd_R (4)) rfl (fun _ => trivial) ?_
                        refine rd_iload C dX10_leads_271 rfl ?_
                        refine rd_ialdx C rd_ai21 dX10_leads_273 rd_c4 rd_m4 ⟨by omega, by omega⟩ (z := μ1 4 i) rfl ?_
                        refine rd_goto C dX10_leads_274 (tgt := 278) (by decide) ?_
                        refine rd_istore_n C dX10_leads_278 (by decide) (L' := [rd_R 0, rd_I g0, rd_I f, rd_I (μ1 4 i), rd_I i, j5, j6, j7]) rfl ?_
                        refine rd_iinc C dX10_leads_279 (by decide) rfl ⟨by omega, by omega⟩ (L' := [rd_R 0, rd_I g0, rd_I f, rd_I (μ1 4 i), rd_I (i + 1), j5, j6, j7]) rfl ?_
                        refine rd_goto C dX10_leads_282 (tgt := 226) (by decide) ?_
                        have hVi := hV (i / 10) (i % 10) (by omega) (by omega) (by omega) (by omega)
                        rw [show 10 * (i / 10) + i % 10 = i by omega] at hVi
                        exact ih _ (i + 1) (by omega) (by omega) (by omega) (mo_mn_s hmn i0 (by rcases hVi with h | ⟨h, _⟩; exact Or.inl h; exact Or.inr h.1) (by omega))
                      · refine rd_aload_n C dX10_leads_256 rfl ?_
                        refine rd_get C rd_g10_8 rf_X10_19 dX10_leads_257 rd_c0 rd_m0 (x := rd_R (4)) rfl (fun _ => trivial) ?_
                        refine rd_iload C dX10_leads_260 rfl ?_
                        refine rd_ialdx C rd_ai21 dX10_leads_262 rd_c4 rd_m4 ⟨by omega, by omega⟩ (z := μ1 4 i) rfl ?_
                        refine rd_iload_n C dX10_leads_263 rfl ?_
                        refine rd_icmp_ge C dX10_leads_264 (tgt := 277) (by decide) (fun h_264 => ?_) (fun h_264 => ?_)
                        · refine rd_iload_n C dX10_leads_277 rfl ?_
                          refine rd_istore_n C dX10_leads_278 (by decide) (L' := [rd_R 0, rd_I g0, rd_I f, rd_I x, rd_I i, j5, j6, j7]) rfl ?_
                          refine rd_iinc C dX10_leads_279 (by decide) rfl ⟨by omega, by omega⟩ (L' := [rd_R 0, rd_I g0, rd_I f, rd_I x, rd_I (i + 1), j5, j6, j7]) rfl ?_
                          refine rd_goto C dX10_leads_282 (tgt := 226) (by decide) ?_
                          have hVi := hV (i / 10) (i % 10) (by omega) (by omega) (by omega) (by omega)
                          rw [show 10 * (i / 10) + i % 10 = i by omega] at hVi
                          exact ih _ (i + 1) (by omega) (by omega) (by omega) (mo_mn_s hmn i0 (by rcases hVi with h | ⟨h, _⟩; exact Or.inl h; exact Or.inr h.1) (by omega))
                        · refine rd_aload_n C dX10_leads_267 rfl ?_
                          refine rd_get C rd_g10_8 rf_X10_19 dX10_leads_268 rd_c0 rd_m0 (x := rd_R (4)) rfl (fun _ => trivial) ?_
                          refine rd_iload C dX10_leads_271 rfl ?_
                          refine rd_ialdx C rd_ai21 dX10_leads_273 rd_c4 rd_m4 ⟨by omega, by omega⟩ (z := μ1 4 i) rfl ?_
                          refine rd_goto C dX10_leads_274 (tgt := 278) (by decide) ?_
                          refine rd_istore_n C dX10_leads_278 (by decide) (L' := [rd_R 0, rd_I g0, rd_I f, rd_I (μ1 4 i), rd_I i, j5, j6, j7]) rfl ?_
                          refine rd_iinc C dX10_leads_279 (by decide) rfl ⟨by omega, by omega⟩ (L' := [rd_R 0, rd_I g0, rd_I f, rd_I (μ1 4 i), rd_I (i + 1), j5, j6, j7]) rfl ?_
                          refine rd_goto C dX10_leads_282 (tgt := 226) (by decide) ?_
                          have hVi := hV (i / 10) (i % 10) (by omega) (by omega) (by omega) (by omega)
                          rw [show 10 * (i / 10) + i % 10 = i by omega] at hVi
                          exact ih _ (i + 1) (by omega) (by omega) (by omega) (mo_mn_s hmn i0 (by rcases hVi with h | ⟨h, _⟩; exact Or.inl h; exact Or.inr h.1) (by omega))
              exact lp226 11 (-6) (10 * g0) (by omega) (by omega) (by omega) (Or.inl ⟨rfl, fun s s0 s1 => by omega⟩)
            · refine rd_iconst C dX10_leads_54 (n := 0) ⟨by decide, by decide⟩ ?_
              refine rd_istore_n C dX10_leads_55 (by decide) (L' := [rd_R 0, rd_I g0, rd_I 0, rd_I k, j4, j5, j6, j7]) rfl ?_
              refine rd_iconst C dX10_leads_56 (n := 0) ⟨by decide, by decide⟩ ?_
              refine rd_istore C dX10_leads_57 (by decide) (L' := [rd_R 0, rd_I g0, rd_I 0, rd_I k, rd_I 0, j5, j6, j7]) rfl ?_
              have lp59 : ∀ (n : Nat) (i f2 : Int) (j5 j6 j7 : rd_X) (μ2 : rd_Mem), (0 ≤ i) → (i ≤ 100) → (100 < i + n) → (∀ a : Int, a ≠ 4 → μ2 a = μ a) → (mo_Wv μ (μ2 4) k i f2) → rd_W p l e (rd_rm 4 86) s m args below meth c (MQ below (rd_Qc G rd_km 5 r (fun v μ' => ∃ r : Int, v = some (rd_I r) ∧ ((r = -6 ∧ ∀ (j : Nat) (s : Int), ¬ mo_P μ j g0 s) ∨ (0 ≤ r ∧ (∃ s, mo_P μ r.toNat g0 s) ∧ ∀ (j : Nat) (s : Int), mo_P μ j g0 s → r ≤ j)) ∧ ∀ a : Int, a ≠ 4 → μ' a = μ a)) args s 0 0 (rd_A r 5)) 8 G rd_km 5 r 59 [rd_R 0, rd_I g0, rd_I f2, rd_I k, rd_I i, j5, j6, j7] [] μ2 := by
                intro n
                induction n with
                | zero => intro i f2 j5 j6 j7 μ2  i0 i1 i2 hfr2 hW; exfalso; omega
                | succ n ih =>
                  intro i f2 j5 j6 j7 μ2  i0 i1 i2 hfr2 hW
                  have ihM := ih
                  refine rd_iload C dX10_leads_59 rfl ?_
                  refine rd_bipush C dX10_leads_61 (n := 100) (by decide) ⟨by decide, by decide⟩ ?_
                  refine rd_icmp_ge C dX10_leads_63 (tgt := 211) (by decide) (fun h_63 => ?_) (fun h_63 => ?_)
                  · refine rd_iinc C dX10_leads_211 (by decide) rfl ⟨by omega, by omega⟩ (L' := [rd_R 0, rd_I g0, rd_I f2, rd_I (k + 1), rd_I i, j5, j6, j7]) rfl ?_
                    refine rd_goto C dX10_leads_214 (tgt := 50) (by decide) ?_
                    have hCe := mo_Wv_e hJ h29 hst (show mo_Wv μ (μ2 4) k 100 f2 by rw [← show i = 100 by omega]; exact hW) k0
                    have hWf := hW.2.2.2.1
                    have hWU := hW.2.2.2.2
                    exact ihO f2 (k + 1) _ _ _ _ _ (by omega) (by have := (sp_num_le (fun x => μ2 4 x = -6) 100).1; unfold mo_U at hWU; have := hWf.1; omega) (by omega) hfr2 hW.1 hCe hWf.1 hWf.2 (fun h => by omega)
                  · refine rd_aload_n C dX10_leads_66 rfl ?_
                    refine rd_get C rd_g10_8 rf_X10_19 dX10_leads_67 rd_c0 rd_m0 (x := rd_R (4)) rfl (fun _ => trivial) ?_
                    refine rd_iload C dX10_leads_70 rfl ?_
                    refine rd_ialdx C rd_ai21 dX10_leads_72 rd_c4 rd_m4 ⟨by omega, by omega⟩ (z := μ2 4 i) rfl ?_
                    refine rd_iload_n C dX10_leads_73 rfl ?_
                    refine rd_icmp_ne C dX10_leads_74 (tgt := 205) (by decide) (fun h_74 => ?_) (fun h_74 => ?_)
                    · refine rd_iinc C dX10_leads_205 (by decide) rfl ⟨by omega, by omega⟩ (L' := [rd_R 0, rd_I g0, rd_I f2, rd_I k, rd_I (i + 1), j5, j6, j7]) rfl ?_
                      refine rd_goto C dX10_leads_208 (tgt := 59) (by decide) ?_
                      exact ih (i + 1) _ _ _ _ _ (by omega) (by omega) (by omega) hfr2 (mo_Wv_i hW (fun h => absurd h h_74))
                    · have hP := mo_V_k hW ⟨by omega, by omega⟩ k0 h_74
                      obtain ⟨ht, htr1, htr2⟩ := mo_P_r hJ h29 hst _ _ _ hP
                      have hfsr := mo_FS_r (hJ.1.1.2.1 _ ht).1
                      obtain ⟨e1, e2, e3, e4, e5⟩ := mo_1 (μ := μ) (ν := μ2) (hfr2 1 (by decide))
                      have hI2 := e1 hJ.1
                      have ht2 : mo_t μ2 (i / 10) := ⟨ht.1, by rw [e5]; exact ht.2⟩
                      have hpo := (hJ.1.1.2.1 _ ht).2.1
                      have hPn : ∀ n s, mo_e μ (i / 10) (i % 10) n s → mo_P μ (k + 1).toNat n s := fun n s he => by rw [show (k + 1).toNat = k.toNat + 1 by omega]; exact ⟨_, _, hP, he⟩
                      refine rd_iload C dX10_leads_77 rfl ?_
                      refine rd_bipush C dX10_leads_79 (n := 10) (by decide) ⟨by decide, by decide⟩ ?_
                      refine rd_idiv C dX10_leads_81 (by decide) (z := i / 10) (sp_d10i (by omega) (by omega)).1 ⟨by omega, by omega⟩ ?_
                      refine rd_istore C dX10_leads_82 (by decide) (L' := [rd_R 0, rd_I g0, rd_I f2, rd_I k, rd_I i, rd_I (i / 10), j6, j7]) rfl ?_
                      refine rd_iload C dX10_leads_84 rfl ?_
                      refine rd_bipush C dX10_leads_86 (n := 10) (by decide) ⟨by decide, by decide⟩ ?_
                      refine rd_irem C dX10_leads_88 (by decide) (z := i % 10) (sp_d10i (by omega) (by omega)).2 ⟨by omega, by omega⟩ ?_
                      refine rd_aload_n C dX10_leads_89 rfl ?_
                      refine rd_iload C dX10_leads_90 rfl ?_
                      refine rd_callV C (c_X10_finalStep ht2.1 (hI2.1.2.1 _ ht2).1) rm_X10_48 ri_X10_finalStep rs_X10_finalStep rc_X10_finalStep rz_X10 ⟨rp_X10_finalStep, rfl, rfl, by decide, by decide⟩ rfl rd_kcl10 dX10_leads_92 rd_c0 rd_m0 rfl (Nat.le_of_ble_eq_true rfl) (fun v1 w1 hq => ?_)
                      obtain ⟨hv1, hm1⟩ := hq; rw [hv1, hm1, e2]; clear hv1 hm1
                      refine rd_icmp_lt C dX10_leads_95 (tgt := 102) (by decide) (fun h_95 => ?_) (fun h_95 => ?_)
                      · refine rd_iconst C dX10_leads_102 (n := 0) ⟨by decide, by decide⟩ ?_
                        refine rd_istore C dX10_leads_103 (by decide) (L' := [rd_R 0, rd_I g0, rd_I f2, rd_I k, rd_I i, rd_I (i / 10), rd_I 0, j7]) rfl ?_
                        refine rd_aload_n C dX10_leads_105 rfl ?_
                        refine rd_iload C dX10_leads_106 rfl ?_
                        refine rd_if_eq C dX10_leads_108 (tgt := 120) (by decide) (fun _ => ?_) (fun h => absurd h (by decide))
                        refine rd_iload C dX10_leads_120 rfl ?_
                        refine rd_iload C dX10_leads_122 rfl ?_
                        refine rd_if_eq C dX10_leads_124 (tgt := 131) (by decide) (fun _ => ?_) (fun h => absurd h (by decide))
                        refine rd_iload C dX10_leads_131 rfl ?_
                        refine rd_bipush C dX10_leads_133 (n := 10) (by decide) ⟨by decide, by decide⟩ ?_
                        refine rd_irem C dX10_leads_135 (by decide) (z := i % 10) (sp_d10i (by omega) (by omega)).2 ⟨by omega, by omega⟩ ?_
                        refine rd_iconst C dX10_leads_136 (n := 1) ⟨by decide, by decide⟩ ?_
                        refine rd_iadd C dX10_leads_137 (z := i % 10 + 1) rfl ⟨by omega, by omega⟩ ?_
                        refine rd_iload_n C dX10_leads_138 rfl ?_
                        refine rd_iconst C dX10_leads_139 (n := 1) ⟨by decide, by decide⟩ ?_
                        refine rd_iadd C dX10_leads_140 (z := k + 1) rfl ⟨by omega, by omega⟩ ?_
                        refine rd_callV C (c_X10_reaches (by omega) (by omega)) rm_X10_143 ri_X10_reaches rs_X10_reaches rc_X10_reaches rz_X10 ⟨rp_X10_reaches, rfl, rfl, by decide, by decide⟩ rfl rd_kcl10 dX10_leads_141 rd_c0 rd_m0 rfl (Nat.le_of_ble_eq_true rfl) (fun v1 w1 hq => ?_)
                        rcases hq with ⟨hw_r, hv1, hm1⟩ | ⟨hw_r, hv1, hm1⟩
                        · rw [hv1, hm1]; clear hv1 hm1 v1 w1
                          obtain ⟨hW3, hx3⟩ := mo_Wv_u (n := i / 10) (s := i % 10 + 1) hW k0 ⟨by omega, by omega⟩ ⟨by omega, by omega⟩ hw_r.2 (hPn _ _ (Or.inl (Or.inl ⟨by omega, rfl, rfl⟩)))
                          rw [← rd_u_row] at hW3 hx3
                          have hfr3 : ∀ a : Int, a ≠ 4 → (rd_u μ2 4 (10 * (i / 10) + (i % 10 + 1)) (k + 1)) a = μ a := fun a ha => (rd_u_ne _ _ _ ha).trans (hfr2 a ha)
                          have hvi : (rd_u μ2 4 (10 * (i / 10) + (i % 10 + 1)) (k + 1)) 4 i = k := (hx3 i (by omega)).trans h_74
                          have hfw : ∀ n' s', mo_f μ (i / 10) (i % 10) n' s' → (rd_u μ2 4 (10 * (i / 10) + (i % 10 + 1)) (k + 1)) 4 (10 * n' + s') ≠ -6 := fun n' s' he => by
                            rcases he with ⟨_, rfl, rfl⟩ | ⟨h1, _⟩
                            · rw [rd_u_s]; omega
                            · omega
                          refine rd_if_ne C dX10_leads_144 (tgt := 151) (by decide) (fun _ => ?_) (fun h => absurd h (by decide))
                          refine rd_iconst C dX10_leads_151 (n := 1) ⟨by decide, by decide⟩ ?_
                          refine rd_goto C dX10_leads_152 (tgt := 156) (by decide) ?_
                          refine rd_istore_n C dX10_leads_156 (by decide) (L' := [rd_R 0, rd_I g0, rd_I 1, rd_I k, rd_I i, rd_I (i / 10), rd_I 0, j7]) rfl ?_
                          refine rd_iconst C dX10_leads_157 (n := 0) ⟨by decide, by decide⟩ ?_
                          refine rd_istore C dX10_leads_158 (by decide) (L' := [rd_R 0, rd_I g0, rd_I 1, rd_I k, rd_I i, rd_I (i / 10), rd_I 0, rd_I 0]) rfl ?_
                          have lp160 : ∀ (n : Nat) (q f3 : Int) (j6 : rd_X) (μ3 : rd_Mem), (0 ≤ q) → (q ≤ 10) → (10 < q + n) → (∀ a : Int, a ≠ 4 → μ3 a = μ a) → (mo_Wv μ (μ3 4) k i f3) → (μ3 4 i = k) → (∀ n' s', mo_f μ (i / 10) (i % 10) n' s' → μ3 4 (10 * n' + s') ≠ -6) → (∀ q', 0 ≤ q' → q' < q → ∀ n' s', mo_g μ (i / 10) q' n' s' → μ3 4 (10 * n' + s') ≠ -6) → rd_W p l e (rd_rm 4 86) s m args below meth c (MQ below (rd_Qc G rd_km 5 r (fun v μ' => ∃ r : Int, v = some (rd_I r) ∧ ((r = -6 ∧ ∀ (j : Nat) (s : Int), ¬ mo_P μ j g0 s) ∨ (0 ≤ r ∧ (∃ s, mo_P μ r.toNat g0 s) ∧ ∀ (j : Nat) (s : Int), mo_P μ j g0 s → r ≤ j)) ∧ ∀ a : Int, a ≠ 4 → μ' a = μ a)) args s 0 0 (rd_A r 5)) 8 G rd_km 5 r 160 [rd_R 0, rd_I g0, rd_I f3, rd_I k, rd_I i, rd_I (i / 10), j6, rd_I q] [] μ3 := by
                            intro n
                            induction n with
                            | zero => intro q f3 j6 μ3  q0 q1 q2 hfr3 hW3 hvi hfw hkw; exfalso; omega
                            | succ n ih =>
                              intro q f3 j6 μ3  q0 q1 q2 hfr3 hW3 hvi hfw hkw
                              refine rd_iload C dX10_leads_160 rfl ?_
                              refine rd_bipush C dX10_leads_162 (n := 10) (by decide) ⟨by decide, by decide⟩ ?_
                              refine rd_icmp_ge C dX10_leads_164 (tgt := 205) (by decide) (fun h_164 => ?_) (fun h_164 => ?_)
                              · refine rd_iinc C dX10_leads_205 (by decide) rfl ⟨by omega, by omega⟩ (L' := [rd_R 0, rd_I g0, rd_I f3, rd_I k, rd_I (i + 1), rd_I (i / 10), j6, rd_I q]) rfl ?_
                                refine rd_goto C dX10_leads_208 (tgt := 59) (by decide) ?_
                                exact ihM (i + 1) _ _ _ _ _ (by omega) (by omega) (by omega) hfr3 (mo_Wv_i hW3 (fun _ n' s' he => by rcases he with he | ⟨q', hq', he⟩; exact hfw n' s' he; exact hkw q' hq'.1 (by omega) n' s' he))
                              · refine rd_aload_n C dX10_leads_167 rfl ?_
                                refine rd_aload_n C dX10_leads_168 rfl ?_
                                refine rd_iload C dX10_leads_169 rfl ?_
                                refine rd_bipush C dX10_leads_171 (n := 22) (by decide) ⟨by decide, by decide⟩ ?_
                                refine rd_iload C dX10_leads_173 rfl ?_
                                refine rd_iadd C dX10_leads_175 (z := 22 + q) rfl ⟨by omega, by omega⟩ ?_
                                refine rd_callV C (c_X10_of (i := i / 10) (q := 22 + q) ht.1 ⟨by omega, by omega⟩) rm_X10_26 ri_X10_of rs_X10_of rc_X10_of rz_X10 ⟨rp_X10_of, rfl, rfl, by decide, by decide⟩ rfl rd_kcl10 dX10_leads_176 rd_c0 rd_m0 rfl (Nat.le_of_ble_eq_true rfl) (fun v1 w1 hq => ?_)
                                obtain ⟨hv1, hm1⟩ := hq; rw [show v1 = some (rd_I (mo_o μ3 (i / 10) (22 + q))) from hv1, hm1, (mo_1 (hfr3 1 (by decide))).2.2.2.2]; clear hv1 hm1
                                have htq := hJ.2 _ ht q (by omega) (by omega)
                                have htq2 : mo_o μ (i / 10) (22 + q) = -6 ∨ (0 ≤ mo_o μ (i / 10) (22 + q) ∧ mo_o μ (i / 10) (22 + q) ≤ 9) := htq.elim Or.inl (fun g => Or.inr g.1)
                                refine rd_iconst C dX10_leads_179 (n := 0) ⟨by decide, by decide⟩ ?_
                                refine rd_iload_n C dX10_leads_180 rfl ?_
                                refine rd_iconst C dX10_leads_181 (n := 1) ⟨by decide, by decide⟩ ?_
                                refine rd_iadd C dX10_leads_182 (z := k + 1) rfl ⟨by omega, by omega⟩ ?_
                                refine rd_callV C (c_X10_reaches htq2 (by omega)) rm_X10_143 ri_X10_reaches rs_X10_reaches rc_X10_reaches rz_X10 ⟨rp_X10_reaches, rfl, rfl, by decide, by decide⟩ rfl rd_kcl10 dX10_leads_183 rd_c0 rd_m0 rfl (Nat.le_of_ble_eq_true rfl) (fun v1 w1 hq => ?_)
                                rcases hq with ⟨hw_r, hv1, hm1⟩ | ⟨hw_r, hv1, hm1⟩
                                · rw [hv1, hm1]; clear hv1 hm1 v1 w1
                                  obtain ⟨hW4, hx4⟩ := mo_Wv_u (n := mo_o μ (i / 10) (22 + q)) (s := 0) hW3 k0 (htq2.resolve_left hw_r.1) ⟨by omega, by omega⟩ hw_r.2 (hPn _ _ (Or.inr ⟨q, ⟨by omega, by omega⟩, hw_r.1, rfl, rfl⟩))
                                  rw [← rd_u_row] at hW4 hx4
                                  refine rd_if_ne C dX10_leads_186 (tgt := 193) (by decide) (fun _ => ?_) (fun h => absurd h (by decide))
                                  refine rd_iconst C dX10_leads_193 (n := 1) ⟨by decide, by decide⟩ ?_
                                  refine rd_goto C dX10_leads_194 (tgt := 198) (by decide) ?_
                                  refine rd_istore_n C dX10_leads_198 (by decide) (L' := [rd_R 0, rd_I g0, rd_I 1, rd_I k, rd_I i, rd_I (i / 10), j6, rd_I q]) rfl ?_
                                  refine rd_iinc C dX10_leads_199 (by decide) rfl ⟨by omega, by omega⟩ (L' := [rd_R 0, rd_I g0, rd_I 1, rd_I k, rd_I i, rd_I (i / 10), j6, rd_I (q + 1)]) rfl ?_
                                  refine rd_goto C dX10_leads_202 (tgt := 160) (by decide) ?_
                                  exact ih (q + 1) 1 _ _ (by omega) (by omega) (by omega) (fun a ha => (rd_u_ne _ _ _ ha).trans (hfr3 a ha)) hW4 ((hx4 i (by rw [hvi]; omega)).trans hvi) (fun n' s' he => by rw [hx4 _ (hfw n' s' he)]; exact hfw n' s' he) (fun q' q0 q1 n' s' he => by by_cases hqq : q' = q; subst hqq; obtain ⟨_, rfl, rfl⟩ := he; rw [rd_u_s]; omega; have h9 := hkw q' q0 (by omega) n' s' he; rw [hx4 _ h9]; exact h9)
                                · rw [hv1, hm1]; clear hv1 hm1 v1 w1
                                  refine rd_if_ne C dX10_leads_186 (tgt := 193) (by decide) (fun h => absurd h (by decide)) (fun _ => ?_)
                                  refine rd_iload_n C dX10_leads_189 rfl ?_
                                  refine rd_if_eq C dX10_leads_190 (tgt := 197) (by decide) (fun h_190 => ?_) (fun h_190 => ?_)
                                  · refine rd_iconst C dX10_leads_197 (n := 0) ⟨by decide, by decide⟩ ?_
                                    refine rd_istore_n C dX10_leads_198 (by decide) (L' := [rd_R 0, rd_I g0, rd_I 0, rd_I k, rd_I i, rd_I (i / 10), j6, rd_I q]) rfl ?_
                                    refine rd_iinc C dX10_leads_199 (by decide) rfl ⟨by omega, by omega⟩ (L' := [rd_R 0, rd_I g0, rd_I 0, rd_I k, rd_I i, rd_I (i / 10), j6, rd_I (q + 1)]) rfl ?_
                                    refine rd_goto C dX10_leads_202 (tgt := 160) (by decide) ?_
                                    exact ih (q + 1) 0 _ _ (by omega) (by omega) (by omega) hfr3 (by have hff := hW3.2.2.2.1.1; rw [show (0 : Int) = f3 by omega]; exact hW3) hvi hfw (fun q' q0 q1 n' s' he => by by_cases hqq : q' = q; subst hqq; obtain ⟨h1, rfl, rfl⟩ := he; exact fun h => hw_r ⟨h1, h⟩; exact hkw q' q0 (by omega) n' s' he)
                                  · refine rd_iconst C dX10_leads_193 (n := 1) ⟨by decide, by decide⟩ ?_
                                    refine rd_goto C dX10_leads_194 (tgt := 198) (by decide) ?_
                                    refine rd_istore_n C dX10_leads_198 (by decide) (L' := [rd_R 0, rd_I g0, rd_I 1, rd_I k, rd_I i, rd_I (i / 10), j6, rd_I q]) rfl ?_
                                    refine rd_iinc C dX10_leads_199 (by decide) rfl ⟨by omega, by omega⟩ (L' := [rd_R 0, rd_I g0, rd_I 1, rd_I k, rd_I i, rd_I (i / 10), j6, rd_I (q + 1)]) rfl ?_
                                    refine rd_goto C dX10_leads_202 (tgt := 160) (by decide) ?_
                                    exact ih (q + 1) 1 _ _ (by omega) (by omega) (by omega) hfr3 (by have hff := hW3.2.2.2.1.1; rw [show (1 : Int) = f3 by omega]; exact hW3) hvi hfw (fun q' q0 q1 n' s' he => by by_cases hqq : q' = q; subst hqq; obtain ⟨h1, rfl, rfl⟩ := he; exact fun h => hw_r ⟨h1, h⟩; exact hkw q' q0 (by omega) n' s' he)
                          exact lp160 11 0 1 _ _ (by omega) (by omega) (by omega) hfr3 hW3 hvi hfw (fun q' q0 q1 => by omega)
                        · rw [hv1, hm1]; clear hv1 hm1 v1 w1
                          have hW3 := hW
                          have hfr3 := hfr2
                          have hvi := h_74
                          have hfw : ∀ n' s', mo_f μ (i / 10) (i % 10) n' s' → μ2 4 (10 * n' + s') ≠ -6 := fun n' s' he => by
                            rcases he with ⟨_, rfl, rfl⟩ | ⟨h1, _⟩
                            · exact fun h => hw_r ⟨by omega, h⟩
                            · omega
                          refine rd_if_ne C dX10_leads_144 (tgt := 151) (by decide) (fun h => absurd h (by decide)) (fun _ => ?_)
                          refine rd_iload_n C dX10_leads_147 rfl ?_
                          refine rd_if_eq C dX10_leads_148 (tgt := 155) (by decide) (fun h_148 => ?_) (fun h_148 => ?_)
                          · refine rd_iconst C dX10_leads_155 (n := 0) ⟨by decide, by decide⟩ ?_
                            refine rd_istore_n C dX10_leads_156 (by decide) (L' := [rd_R 0, rd_I g0, rd_I 0, rd_I k, rd_I i, rd_I (i / 10), rd_I 0, j7]) rfl ?_
                            refine rd_iconst C dX10_leads_157 (n := 0) ⟨by decide, by decide⟩ ?_
                            refine rd_istore C dX10_leads_158 (by decide) (L' := [rd_R 0, rd_I g0, rd_I 0, rd_I k, rd_I i, rd_I (i / 10), rd_I 0, rd_I 0]) rfl ?_
                            have lp160 : ∀ (n : Nat) (q f3 : Int) (j6 : rd_X) (μ3 : rd_Mem), (0 ≤ q) → (q ≤ 10) → (10 < q + n) → (∀ a : Int, a ≠ 4 → μ3 a = μ a) → (mo_Wv μ (μ3 4) k i f3) → (μ3 4 i = k) → (∀ n' s', mo_f μ (i / 10) (i % 10) n' s' → μ3 4 (10 * n' + s') ≠ -6) → (∀ q', 0 ≤ q' → q' < q → ∀ n' s', mo_g μ (i / 10) q' n' s' → μ3 4 (10 * n' + s') ≠ -6) → rd_W p l e (rd_rm 4 86) s m args below meth c (MQ below (rd_Qc G rd_km 5 r (fun v μ' => ∃ r : Int, v = some (rd_I r) ∧ ((r = -6 ∧ ∀ (j : Nat) (s : Int), ¬ mo_P μ j g0 s) ∨ (0 ≤ r ∧ (∃ s, mo_P μ r.toNat g0 s) ∧ ∀ (j : Nat) (s : Int), mo_P μ j g0 s → r ≤ j)) ∧ ∀ a : Int, a ≠ 4 → μ' a = μ a)) args s 0 0 (rd_A r 5)) 8 G rd_km 5 r 160 [rd_R 0, rd_I g0, rd_I f3, rd_I k, rd_I i, rd_I (i / 10), j6, rd_I q] [] μ3 := by
                              intro n
                              induction n with
                              | zero => intro q f3 j6 μ3  q0 q1 q2 hfr3 hW3 hvi hfw hkw; exfalso; omega
                              | succ n ih =>
                                intro q f3 j6 μ3  q0 q1 q2 hfr3 hW3 hvi hfw hkw
                                refine rd_iload C dX10_leads_160 rfl ?_
                                refine rd_bipush C dX10_leads_162 (n := 10) (by decide) ⟨by decide, by decide⟩ ?_
                                refine rd_icmp_ge C dX10_leads_164 (tgt := 205) (by decide) (fun h_164 => ?_) (fun h_164 => ?_)
                                · refine rd_iinc C dX10_leads_205 (by decide) rfl ⟨by omega, by omega⟩ (L' := [rd_R 0, rd_I g0, rd_I f3, rd_I k, rd_I (i + 1), rd_I (i / 10), j6, rd_I q]) rfl ?_
                                  refine rd_goto C dX10_leads_208 (tgt := 59) (by decide) ?_
                                  exact ihM (i + 1) _ _ _ _ _ (by omega) (by omega) (by omega) hfr3 (mo_Wv_i hW3 (fun _ n' s' he => by rcases he with he | ⟨q', hq', he⟩; exact hfw n' s' he; exact hkw q' hq'.1 (by omega) n' s' he))
                                · refine rd_aload_n C dX10_leads_167 rfl ?_
                                  refine rd_aload_n C dX10_leads_168 rfl ?_
                                  refine rd_iload C dX10_leads_169 rfl ?_
                                  refine rd_bipush C dX10_leads_171 (n := 22) (by decide) ⟨by decide, by decide⟩ ?_
                                  refine rd_iload C dX10_leads_173 rfl ?_
                                  refine rd_iadd C dX10_leads_175 (z := 22 + q) rfl ⟨by omega, by omega⟩ ?_
                                  refine rd_callV C (c_X10_of (i := i / 10) (q := 22 + q) ht.1 ⟨by omega, by omega⟩) rm_X10_26 ri_X10_of rs_X10_of rc_X10_of rz_X10 ⟨rp_X10_of, rfl, rfl, by decide, by decide⟩ rfl rd_kcl10 dX10_leads_176 rd_c0 rd_m0 rfl (Nat.le_of_ble_eq_true rfl) (fun v1 w1 hq => ?_)
                                  obtain ⟨hv1, hm1⟩ := hq; rw [show v1 = some (rd_I (mo_o μ3 (i / 10) (22 + q))) from hv1, hm1, (mo_1 (hfr3 1 (by decide))).2.2.2.2]; clear hv1 hm1
                                  have htq := hJ.2 _ ht q (by omega) (by omega)
                                  have htq2 : mo_o μ (i / 10) (22 + q) = -6 ∨ (0 ≤ mo_o μ (i / 10) (22 + q) ∧ mo_o μ (i / 10) (22 + q) ≤ 9) := htq.elim Or.inl (fun g => Or.inr g.1)
                                  refine rd_iconst C dX10_leads_179 (n := 0) ⟨by decide, by decide⟩ ?_
                                  refine rd_iload_n C dX10_leads_180 rfl ?_
                                  refine rd_iconst C dX10_leads_181 (n := 1) ⟨by decide, by decide⟩ ?_
                                  refine rd_iadd C dX10_leads_182 (z := k + 1) rfl ⟨by omega, by omega⟩ ?_
                                  refine rd_callV C (c_X10_reaches htq2 (by omega)) rm_X10_143 ri_X10_reaches rs_X10_reaches rc_X10_reaches rz_X10 ⟨rp_X10_reaches, rfl, rfl, by decide, by decide⟩ rfl rd_kcl10 dX10_leads_183 rd_c0 rd_m0 rfl (Nat.le_of_ble_eq_true rfl) (fun v1 w1 hq => ?_)
                                  rcases hq with ⟨hw_r, hv1, hm1⟩ | ⟨hw_r, hv1, hm1⟩
                                  · rw [hv1, hm1]; clear hv1 hm1 v1 w1
                                    obtain ⟨hW4, hx4⟩ := mo_Wv_u (n := mo_o μ (i / 10) (22 + q)) (s := 0) hW3 k0 (htq2.resolve_left hw_r.1) ⟨by omega, by omega⟩ hw_r.2 (hPn _ _ (Or.inr ⟨q, ⟨by omega, by omega⟩, hw_r.1, rfl, rfl⟩))
                                    rw [← rd_u_row] at hW4 hx4
                                    refine rd_if_ne C dX10_leads_186 (tgt := 193) (by decide) (fun _ => ?_) (fun h => absurd h (by decide))
                                    refine rd_iconst C dX10_leads_193 (n := 1) ⟨by decide, by decide⟩ ?_
                                    refine rd_goto C dX10_leads_194 (tgt := 198) (by decide) ?_
                                    refine rd_istore_n C dX10_leads_198 (by decide) (L' := [rd_R 0, rd_I g0, rd_I 1, rd_I k, rd_I i, rd_I (i / 10), j6, rd_I q]) rfl ?_
                                    refine rd_iinc C dX10_leads_199 (by decide) rfl ⟨by omega, by omega⟩ (L' := [rd_R 0, rd_I g0, rd_I 1, rd_I k, rd_I i, rd_I (i / 10), j6, rd_I (q + 1)]) rfl ?_
                                    refine rd_goto C dX10_leads_202 (tgt := 160) (by decide) ?_
                                    exact ih (q + 1) 1 _ _ (by omega) (by omega) (by omega) (fun a ha => (rd_u_ne _ _ _ ha).trans (hfr3 a ha)) hW4 ((hx4 i (by rw [hvi]; omega)).trans hvi) (fun n' s' he => by rw [hx4 _ (hfw n' s' he)]; exact hfw n' s' he) (fun q' q0 q1 n' s' he => by by_cases hqq : q' = q; subst hqq; obtain ⟨_, rfl, rfl⟩ := he; rw [rd_u_s]; omega; have h9 := hkw q' q0 (by omega) n' s' he; rw [hx4 _ h9]; exact h9)
                                  · rw [hv1, hm1]; clear hv1 hm1 v1 w1
                                    refine rd_if_ne C dX10_leads_186 (tgt := 193) (by decide) (fun h => absurd h (by decide)) (fun _ => ?_)
                                    refine rd_iload_n C dX10_leads_189 rfl ?_
                                    refine rd_if_eq C dX10_leads_190 (tgt := 197) (by decide) (fun h_190 => ?_) (fun h_190 => ?_)
                                    · refine rd_iconst C dX10_leads_197 (n := 0) ⟨by decide, by decide⟩ ?_
                                      refine rd_istore_n C dX10_leads_198 (by decide) (L' := [rd_R 0, rd_I g0, rd_I 0, rd_I k, rd_I i, rd_I (i / 10), j6, rd_I q]) rfl ?_
                                      refine rd_iinc C dX10_leads_199 (by decide) rfl ⟨by omega, by omega⟩ (L' := [rd_R 0, rd_I g0, rd_I 0, rd_I k, rd_I i, rd_I (i / 10), j6, rd_I (q + 1)]) rfl ?_
                                      refine rd_goto C dX10_leads_202 (tgt := 160) (by decide) ?_
                                      exact ih (q + 1) 0 _ _ (by omega) (by omega) (by omega) hfr3 (by have hff := hW3.2.2.2.1.1; rw [show (0 : Int) = f3 by omega]; exact hW3) hvi hfw (fun q' q0 q1 n' s' he => by by_cases hqq : q' = q; subst hqq; obtain ⟨h1, rfl, rfl⟩ := he; exact fun h => hw_r ⟨h1, h⟩; exact hkw q' q0 (by omega) n' s' he)
                                    · refine rd_iconst C dX10_leads_193 (n := 1) ⟨by decide, by decide⟩ ?_
                                      refine rd_goto C dX10_leads_194 (tgt := 198) (by decide) ?_
                                      refine rd_istore_n C dX10_leads_198 (by decide) (L' := [rd_R 0, rd_I g0, rd_I 1, rd_I k, rd_I i, rd_I (i / 10), j6, rd_I q]) rfl ?_
                                      refine rd_iinc C dX10_leads_199 (by decide) rfl ⟨by omega, by omega⟩ (L' := [rd_R 0, rd_I g0, rd_I 1, rd_I k, rd_I i, rd_I (i / 10), j6, rd_I (q + 1)]) rfl ?_
                                      refine rd_goto C dX10_leads_202 (tgt := 160) (by decide) ?_
                                      exact ih (q + 1) 1 _ _ (by omega) (by omega) (by omega) hfr3 (by have hff := hW3.2.2.2.1.1; rw [show (1 : Int) = f3 by omega]; exact hW3) hvi hfw (fun q' q0 q1 n' s' he => by by_cases hqq : q' = q; subst hqq; obtain ⟨h1, rfl, rfl⟩ := he; exact fun h => hw_r ⟨h1, h⟩; exact hkw q' q0 (by omega) n' s' he)
                            exact lp160 11 0 0 _ _ (by omega) (by omega) (by omega) hfr3 (by rw [show (0 : Int) = f2 by omega]; exact hW3) hvi hfw (fun q' q0 q1 => by omega)
                          · refine rd_iconst C dX10_leads_151 (n := 1) ⟨by decide, by decide⟩ ?_
                            refine rd_goto C dX10_leads_152 (tgt := 156) (by decide) ?_
                            refine rd_istore_n C dX10_leads_156 (by decide) (L' := [rd_R 0, rd_I g0, rd_I 1, rd_I k, rd_I i, rd_I (i / 10), rd_I 0, j7]) rfl ?_
                            refine rd_iconst C dX10_leads_157 (n := 0) ⟨by decide, by decide⟩ ?_
                            refine rd_istore C dX10_leads_158 (by decide) (L' := [rd_R 0, rd_I g0, rd_I 1, rd_I k, rd_I i, rd_I (i / 10), rd_I 0, rd_I 0]) rfl ?_
                            have lp160 : ∀ (n : Nat) (q f3 : Int) (j6 : rd_X) (μ3 : rd_Mem), (0 ≤ q) → (q ≤ 10) → (10 < q + n) → (∀ a : Int, a ≠ 4 → μ3 a = μ a) → (mo_Wv μ (μ3 4) k i f3) → (μ3 4 i = k) → (∀ n' s', mo_f μ (i / 10) (i % 10) n' s' → μ3 4 (10 * n' + s') ≠ -6) → (∀ q', 0 ≤ q' → q' < q → ∀ n' s', mo_g μ (i / 10) q' n' s' → μ3 4 (10 * n' + s') ≠ -6) → rd_W p l e (rd_rm 4 86) s m args below meth c (MQ below (rd_Qc G rd_km 5 r (fun v μ' => ∃ r : Int, v = some (rd_I r) ∧ ((r = -6 ∧ ∀ (j : Nat) (s : Int), ¬ mo_P μ j g0 s) ∨ (0 ≤ r ∧ (∃ s, mo_P μ r.toNat g0 s) ∧ ∀ (j : Nat) (s : Int), mo_P μ j g0 s → r ≤ j)) ∧ ∀ a : Int, a ≠ 4 → μ' a = μ a)) args s 0 0 (rd_A r 5)) 8 G rd_km 5 r 160 [rd_R 0, rd_I g0, rd_I f3, rd_I k, rd_I i, rd_I (i / 10), j6, rd_I q] [] μ3 := by
                              intro n
                              induction n with
                              | zero => intro q f3 j6 μ3  q0 q1 q2 hfr3 hW3 hvi hfw hkw; exfalso; omega
                              | succ n ih =>
                                intro q f3 j6 μ3  q0 q1 q2 hfr3 hW3 hvi hfw hkw
                                refine rd_iload C dX10_leads_160 rfl ?_
                                refine rd_bipush C dX10_leads_162 (n := 10) (by decide) ⟨by decide, by decide⟩ ?_
                                refine rd_icmp_ge C dX10_leads_164 (tgt := 205) (by decide) (fun h_164 => ?_) (fun h_164 => ?_)
                                · refine rd_iinc C dX10_leads_205 (by decide) rfl ⟨by omega, by omega⟩ (L' := [rd_R 0, rd_I g0, rd_I f3, rd_I k, rd_I (i + 1), rd_I (i / 10), j6, rd_I q]) rfl ?_
                                  refine rd_goto C dX10_leads_208 (tgt := 59) (by decide) ?_
                                  exact ihM (i + 1) _ _ _ _ _ (by omega) (by omega) (by omega) hfr3 (mo_Wv_i hW3 (fun _ n' s' he => by rcases he with he | ⟨q', hq', he⟩; exact hfw n' s' he; exact hkw q' hq'.1 (by omega) n' s' he))
                                · refine rd_aload_n C dX10_leads_167 rfl ?_
                                  refine rd_aload_n C dX10_leads_168 rfl ?_
                                  refine rd_iload C dX10_leads_169 rfl ?_
                                  refine rd_bipush C dX10_leads_171 (n := 22) (by decide) ⟨by decide, by decide⟩ ?_
                                  refine rd_iload C dX10_leads_173 rfl ?_
                                  refine rd_iadd C dX10_leads_175 (z := 22 + q) rfl ⟨by omega, by omega⟩ ?_
                                  refine rd_callV C (c_X10_of (i := i / 10) (q := 22 + q) ht.1 ⟨by omega, by omega⟩) rm_X10_26 ri_X10_of rs_X10_of rc_X10_of rz_X10 ⟨rp_X10_of, rfl, rfl, by decide, by decide⟩ rfl rd_kcl10 dX10_leads_176 rd_c0 rd_m0 rfl (Nat.le_of_ble_eq_true rfl) (fun v1 w1 hq => ?_)
                                  obtain ⟨hv1, hm1⟩ := hq; rw [show v1 = some (rd_I (mo_o μ3 (i / 10) (22 + q))) from hv1, hm1, (mo_1 (hfr3 1 (by decide))).2.2.2.2]; clear hv1 hm1
                                  have htq := hJ.2 _ ht q (by omega) (by omega)
                                  have htq2 : mo_o μ (i / 10) (22 + q) = -6 ∨ (0 ≤ mo_o μ (i / 10) (22 + q) ∧ mo_o μ (i / 10) (22 + q) ≤ 9) := htq.elim Or.inl (fun g => Or.inr g.1)
                                  refine rd_iconst C dX10_leads_179 (n := 0) ⟨by decide, by decide⟩ ?_
                                  refine rd_iload_n C dX10_leads_180 rfl ?_
                                  refine rd_iconst C dX10_leads_181 (n := 1) ⟨by decide, by decide⟩ ?_
                                  refine rd_iadd C dX10_leads_182 (z := k + 1) rfl ⟨by omega, by omega⟩ ?_
                                  refine rd_callV C (c_X10_reaches htq2 (by omega)) rm_X10_143 ri_X10_reaches rs_X10_reaches rc_X10_reaches rz_X10 ⟨rp_X10_reaches, rfl, rfl, by decide, by decide⟩ rfl rd_kcl10 dX10_leads_183 rd_c0 rd_m0 rfl (Nat.le_of_ble_eq_true rfl) (fun v1 w1 hq => ?_)
                                  rcases hq with ⟨hw_r, hv1, hm1⟩ | ⟨hw_r, hv1, hm1⟩
                                  · rw [hv1, hm1]; clear hv1 hm1 v1 w1
                                    obtain ⟨hW4, hx4⟩ := mo_Wv_u (n := mo_o μ (i / 10) (22 + q)) (s := 0) hW3 k0 (htq2.resolve_left hw_r.1) ⟨by omega, by omega⟩ hw_r.2 (hPn _ _ (Or.inr ⟨q, ⟨by omega, by omega⟩, hw_r.1, rfl, rfl⟩))
                                    rw [← rd_u_row] at hW4 hx4
                                    refine rd_if_ne C dX10_leads_186 (tgt := 193) (by decide) (fun _ => ?_) (fun h => absurd h (by decide))
                                    refine rd_iconst C dX10_leads_193 (n := 1) ⟨by decide, by decide⟩ ?_
                                    refine rd_goto C dX10_leads_194 (tgt := 198) (by decide) ?_
                                    refine rd_istore_n C dX10_leads_198 (by decide) (L' := [rd_R 0, rd_I g0, rd_I 1, rd_I k, rd_I i, rd_I (i / 10), j6, rd_I q]) rfl ?_
                                    refine rd_iinc C dX10_leads_199 (by decide) rfl ⟨by omega, by omega⟩ (L' := [rd_R 0, rd_I g0, rd_I 1, rd_I k, rd_I i, rd_I (i / 10), j6, rd_I (q + 1)]) rfl ?_
                                    refine rd_goto C dX10_leads_202 (tgt := 160) (by decide) ?_
                                    exact ih (q + 1) 1 _ _ (by omega) (by omega) (by omega) (fun a ha => (rd_u_ne _ _ _ ha).trans (hfr3 a ha)) hW4 ((hx4 i (by rw [hvi]; omega)).trans hvi) (fun n' s' he => by rw [hx4 _ (hfw n' s' he)]; exact hfw n' s' he) (fun q' q0 q1 n' s' he => by by_cases hqq : q' = q; subst hqq; obtain ⟨_, rfl, rfl⟩ := he; rw [rd_u_s]; omega; have h9 := hkw q' q0 (by omega) n' s' he; rw [hx4 _ h9]; exact h9)
                                  · rw [hv1, hm1]; clear hv1 hm1 v1 w1
                                    refine rd_if_ne C dX10_leads_186 (tgt := 193) (by decide) (fun h => absurd h (by decide)) (fun _ => ?_)
                                    refine rd_iload_n C dX10_leads_189 rfl ?_
                                    refine rd_if_eq C dX10_leads_190 (tgt := 197) (by decide) (fun h_190 => ?_) (fun h_190 => ?_)
                                    · refine rd_iconst C dX10_leads_197 (n := 0) ⟨by decide, by decide⟩ ?_
                                      refine rd_istore_n C dX10_leads_198 (by decide) (L' := [rd_R 0, rd_I g0, rd_I 0, rd_I k, rd_I i, rd_I (i / 10), j6, rd_I q]) rfl ?_
                                      refine rd_iinc C dX10_leads_199 (by decide) rfl ⟨by omega, by omega⟩ (L' := [rd_R 0, rd_I g0, rd_I 0, rd_I k, rd_I i, rd_I (i / 10), j6, rd_I (q + 1)]) rfl ?_
                                      refine rd_goto C dX10_leads_202 (tgt := 160) (by decide) ?_
                                      exact ih (q + 1) 0 _ _ (by omega) (by omega) (by omega) hfr3 (by have hff := hW3.2.2.2.1.1; rw [show (0 : Int) = f3 by omega]; exact hW3) hvi hfw (fun q' q0 q1 n' s' he => by by_cases hqq : q' = q; subst hqq; obtain ⟨h1, rfl, rfl⟩ := he; exact fun h => hw_r ⟨h1, h⟩; exact hkw q' q0 (by omega) n' s' he)
                                    · refine rd_iconst C dX10_leads_193 (n := 1) ⟨by decide, by decide⟩ ?_
                                      refine rd_goto C dX10_leads_194 (tgt := 198) (by decide) ?_
                                      refine rd_istore_n C dX10_leads_198 (by decide) (L' := [rd_R 0, rd_I g0, rd_I 1, rd_I k, rd_I i, rd_I (i / 10), j6, rd_I q]) rfl ?_
                                      refine rd_iinc C dX10_leads_199 (by decide) rfl ⟨by omega, by omega⟩ (L' := [rd_R 0, rd_I g0, rd_I 1, rd_I k, rd_I i, rd_I (i / 10), j6, rd_I (q + 1)]) rfl ?_
                                      refine rd_goto C dX10_leads_202 (tgt := 160) (by decide) ?_
                                      exact ih (q + 1) 1 _ _ (by omega) (by omega) (by omega) hfr3 (by have hff := hW3.2.2.2.1.1; rw [show (1 : Int) = f3 by omega]; exact hW3) hvi hfw (fun q' q0 q1 n' s' he => by by_cases hqq : q' = q; subst hqq; obtain ⟨h1, rfl, rfl⟩ := he; exact fun h => hw_r ⟨h1, h⟩; exact hkw q' q0 (by omega) n' s' he)
                            exact lp160 11 0 1 _ _ (by omega) (by omega) (by omega) hfr3 (by have hff := hW3.2.2.2.1.1; rw [show (1 : Int) = f2 by omega]; exact hW3) hvi hfw (fun q' q0 q1 => by omega)
                      · refine rd_iconst C dX10_leads_98 (n := 1) ⟨by decide, by decide⟩ ?_
                        refine rd_goto C dX10_leads_99 (tgt := 103) (by decide) ?_
                        refine rd_istore C dX10_leads_103 (by decide) (L' := [rd_R 0, rd_I g0, rd_I f2, rd_I k, rd_I i, rd_I (i / 10), rd_I 1, j7]) rfl ?_
                        refine rd_aload_n C dX10_leads_105 rfl ?_
                        refine rd_iload C dX10_leads_106 rfl ?_
                        refine rd_if_eq C dX10_leads_108 (tgt := 120) (by decide) (fun h => absurd h (by decide)) (fun _ => ?_)
                        refine rd_aload_n C dX10_leads_111 rfl ?_
                        refine rd_iload C dX10_leads_112 rfl ?_
                        refine rd_callV C (c_X10_nextOf hI2.1.1 (hI2.1.2.1 _ ht2).2) rm_X10_51 ri_X10_nextOf rs_X10_nextOf rc_X10_nextOf rz_X10 ⟨rp_X10_nextOf, rfl, rfl, by decide, by decide⟩ rfl rd_kcl10 dX10_leads_114 rd_c0 rd_m0 rfl (Nat.le_of_ble_eq_true rfl) (fun v1 w1 hq => ?_)
                        obtain ⟨hv1, hm1⟩ := hq; rw [hv1, hm1, e3, e4]; clear hv1 hm1
                        rcases mo_nx_r hJ.1.1.1 (a := mo_pl μ (i / 10) + 1) (by omega) with hz | hz
                        · rw [show mo_z (mo_nx μ (mo_pl μ (i / 10) + 1)) = -6 from by rw [hz]; rfl]
                          refine rd_goto C dX10_leads_117 (tgt := 122) (by decide) ?_
                          refine rd_iload C dX10_leads_122 rfl ?_
                          refine rd_if_eq C dX10_leads_124 (tgt := 131) (by decide) (fun h => absurd h (by decide)) (fun _ => ?_)
                          refine rd_iconst C dX10_leads_127 (n := 0) ⟨by decide, by decide⟩ ?_
                          refine rd_goto C dX10_leads_128 (tgt := 138) (by decide) ?_
                          refine rd_iload_n C dX10_leads_138 rfl ?_
                          refine rd_iconst C dX10_leads_139 (n := 1) ⟨by decide, by decide⟩ ?_
                          refine rd_iadd C dX10_leads_140 (z := k + 1) rfl ⟨by omega, by omega⟩ ?_
                          refine rd_callV C (c_X10_reaches (by omega) (by omega)) rm_X10_143 ri_X10_reaches rs_X10_reaches rc_X10_reaches rz_X10 ⟨rp_X10_reaches, rfl, rfl, by decide, by decide⟩ rfl rd_kcl10 dX10_leads_141 rd_c0 rd_m0 rfl (Nat.le_of_ble_eq_true rfl) (fun v1 w1 hq => ?_)
                          rcases hq with ⟨hw_r, hv1, hm1⟩ | ⟨hw_r, hv1, hm1⟩
                          · rw [hv1, hm1]; clear hv1 hm1 v1 w1
                            exact absurd rfl hw_r.1
                          · rw [hv1, hm1]; clear hv1 hm1 v1 w1
                            have hW3 := hW
                            have hfr3 := hfr2
                            have hvi := h_74
                            have hfw : ∀ n' s', mo_f μ (i / 10) (i % 10) n' s' → μ2 4 (10 * n' + s') ≠ -6 := fun n' s' he => by
                              rcases he with ⟨h1, _, _⟩ | ⟨h1, h2, _⟩
                              · omega
                              · exact absurd hz h2
                            refine rd_if_ne C dX10_leads_144 (tgt := 151) (by decide) (fun h => absurd h (by decide)) (fun _ => ?_)
                            refine rd_iload_n C dX10_leads_147 rfl ?_
                            refine rd_if_eq C dX10_leads_148 (tgt := 155) (by decide) (fun h_148 => ?_) (fun h_148 => ?_)
                            · refine rd_iconst C dX10_leads_155 (n := 0) ⟨by decide, by decide⟩ ?_
                              refine rd_istore_n C dX10_leads_156 (by decide) (L' := [rd_R 0, rd_I g0, rd_I 0, rd_I k, rd_I i, rd_I (i / 10), rd_I 1, j7]) rfl ?_
                              refine rd_iconst C dX10_leads_157 (n := 0) ⟨by decide, by decide⟩ ?_
                              refine rd_istore C dX10_leads_158 (by decide) (L' := [rd_R 0, rd_I g0, rd_I 0, rd_I k, rd_I i, rd_I (i / 10), rd_I 1, rd_I 0]) rfl ?_
                              have lp160 : ∀ (n : Nat) (q f3 : Int) (j6 : rd_X) (μ3 : rd_Mem), (0 ≤ q) → (q ≤ 10) → (10 < q + n) → (∀ a : Int, a ≠ 4 → μ3 a = μ a) → (mo_Wv μ (μ3 4) k i f3) → (μ3 4 i = k) → (∀ n' s', mo_f μ (i / 10) (i % 10) n' s' → μ3 4 (10 * n' + s') ≠ -6) → (∀ q', 0 ≤ q' → q' < q → ∀ n' s', mo_g μ (i / 10) q' n' s' → μ3 4 (10 * n' + s') ≠ -6) → rd_W p l e (rd_rm 4 86) s m args below meth c (MQ below (rd_Qc G rd_km 5 r (fun v μ' => ∃ r : Int, v = some (rd_I r) ∧ ((r = -6 ∧ ∀ (j : Nat) (s : Int), ¬ mo_P μ j g0 s) ∨ (0 ≤ r ∧ (∃ s, mo_P μ r.toNat g0 s) ∧ ∀ (j : Nat) (s : Int), mo_P μ j g0 s → r ≤ j)) ∧ ∀ a : Int, a ≠ 4 → μ' a = μ a)) args s 0 0 (rd_A r 5)) 8 G rd_km 5 r 160 [rd_R 0, rd_I g0, rd_I f3, rd_I k, rd_I i, rd_I (i / 10), j6, rd_I q] [] μ3 := by
                                intro n
                                induction n with
                                | zero => intro q f3 j6 μ3  q0 q1 q2 hfr3 hW3 hvi hfw hkw; exfalso; omega
                                | succ n ih =>
                                  intro q f3 j6 μ3  q0 q1 q2 hfr3 hW3 hvi hfw hkw
                                  refine rd_iload C dX10_leads_160 rfl ?_
                                  refine rd_bipush C dX10_leads_162 (n := 10) (by decide) ⟨by decide, by decide⟩ ?_
                                  refine rd_icmp_ge C dX10_leads_164 (tgt := 205) (by decide) (fun h_164 => ?_) (fun h_164 => ?_)
                                  · refine rd_iinc C dX10_leads_205 (by decide) rfl ⟨by omega, by omega⟩ (L' := [rd_R 0, rd_I g0, rd_I f3, rd_I k, rd_I (i + 1), rd_I (i / 10), j6, rd_I q]) rfl ?_
                                    refine rd_goto C dX10_leads_208 (tgt := 59) (by decide) ?_
                                    exact ihM (i + 1) _ _ _ _ _ (by omega) (by omega) (by omega) hfr3 (mo_Wv_i hW3 (fun _ n' s' he => by rcases he with he | ⟨q', hq', he⟩; exact hfw n' s' he; exact hkw q' hq'.1 (by omega) n' s' he))
                                  · refine rd_aload_n C dX10_leads_167 rfl ?_
                                    refine rd_aload_n C dX10_leads_168 rfl ?_
                                    refine rd_iload C dX10_leads_169 rfl ?_
                                    refine rd_bipush C dX10_leads_171 (n := 22) (by decide) ⟨by decide, by decide⟩ ?_
                                    refine rd_iload C dX10_leads_173 rfl ?_
                                    refine rd_iadd C dX10_leads_175 (z := 22 + q) rfl ⟨by omega, by omega⟩ ?_
                                    refine rd_callV C (c_X10_of (i := i / 10) (q := 22 + q) ht.1 ⟨by omega, by omega⟩) rm_X10_26 ri_X10_of rs_X10_of rc_X10_of rz_X10 ⟨rp_X10_of, rfl, rfl, by decide, by decide⟩ rfl rd_kcl10 dX10_leads_176 rd_c0 rd_m0 rfl (Nat.le_of_ble_eq_true rfl) (fun v1 w1 hq => ?_)
                                    obtain ⟨hv1, hm1⟩ := hq; rw [show v1 = some (rd_I (mo_o μ3 (i / 10) (22 + q))) from hv1, hm1, (mo_1 (hfr3 1 (by decide))).2.2.2.2]; clear hv1 hm1
                                    have htq := hJ.2 _ ht q (by omega) (by omega)
                                    have htq2 : mo_o μ (i / 10) (22 + q) = -6 ∨ (0 ≤ mo_o μ (i / 10) (22 + q) ∧ mo_o μ (i / 10) (22 + q) ≤ 9) := htq.elim Or.inl (fun g => Or.inr g.1)
                                    refine rd_iconst C dX10_leads_179 (n := 0) ⟨by decide, by decide⟩ ?_
                                    refine rd_iload_n C dX10_leads_180 rfl ?_
                                    refine rd_iconst C dX10_leads_181 (n := 1) ⟨by decide, by decide⟩ ?_
                                    refine rd_iadd C dX10_leads_182 (z := k + 1) rfl ⟨by omega, by omega⟩ ?_
                                    refine rd_callV C (c_X10_reaches htq2 (by omega)) rm_X10_143 ri_X10_reaches rs_X10_reaches rc_X10_reaches rz_X10 ⟨rp_X10_reaches, rfl, rfl, by decide, by decide⟩ rfl rd_kcl10 dX10_leads_183 rd_c0 rd_m0 rfl (Nat.le_of_ble_eq_true rfl) (fun v1 w1 hq => ?_)
                                    rcases hq with ⟨hw_r, hv1, hm1⟩ | ⟨hw_r, hv1, hm1⟩
                                    · rw [hv1, hm1]; clear hv1 hm1 v1 w1
                                      obtain ⟨hW4, hx4⟩ := mo_Wv_u (n := mo_o μ (i / 10) (22 + q)) (s := 0) hW3 k0 (htq2.resolve_left hw_r.1) ⟨by omega, by omega⟩ hw_r.2 (hPn _ _ (Or.inr ⟨q, ⟨by omega, by omega⟩, hw_r.1, rfl, rfl⟩))
                                      rw [← rd_u_row] at hW4 hx4
                                      refine rd_if_ne C dX10_leads_186 (tgt := 193) (by decide) (fun _ => ?_) (fun h => absurd h (by decide))
                                      refine rd_iconst C dX10_leads_193 (n := 1) ⟨by decide, by decide⟩ ?_
                                      refine rd_goto C dX10_leads_194 (tgt := 198) (by decide) ?_
                                      refine rd_istore_n C dX10_leads_198 (by decide) (L' := [rd_R 0, rd_I g0, rd_I 1, rd_I k, rd_I i, rd_I (i / 10), j6, rd_I q]) rfl ?_
                                      refine rd_iinc C dX10_leads_199 (by decide) rfl ⟨by omega, by omega⟩ (L' := [rd_R 0, rd_I g0, rd_I 1, rd_I k, rd_I i, rd_I (i / 10), j6, rd_I (q + 1)]) rfl ?_
                                      refine rd_goto C dX10_leads_202 (tgt := 160) (by decide) ?_
                                      exact ih (q + 1) 1 _ _ (by omega) (by omega) (by omega) (fun a ha => (rd_u_ne _ _ _ ha).trans (hfr3 a ha)) hW4 ((hx4 i (by rw [hvi]; omega)).trans hvi) (fun n' s' he => by rw [hx4 _ (hfw n' s' he)]; exact hfw n' s' he) (fun q' q0 q1 n' s' he => by by_cases hqq : q' = q; subst hqq; obtain ⟨_, rfl, rfl⟩ := he; rw [rd_u_s]; omega; have h9 := hkw q' q0 (by omega) n' s' he; rw [hx4 _ h9]; exact h9)
                                    · rw [hv1, hm1]; clear hv1 hm1 v1 w1
                                      refine rd_if_ne C dX10_leads_186 (tgt := 193) (by decide) (fun h => absurd h (by decide)) (fun _ => ?_)
                                      refine rd_iload_n C dX10_leads_189 rfl ?_
                                      refine rd_if_eq C dX10_leads_190 (tgt := 197) (by decide) (fun h_190 => ?_) (fun h_190 => ?_)
                                      · refine rd_iconst C dX10_leads_197 (n := 0) ⟨by decide, by decide⟩ ?_
                                        refine rd_istore_n C dX10_leads_198 (by decide) (L' := [rd_R 0, rd_I g0, rd_I 0, rd_I k, rd_I i, rd_I (i / 10), j6, rd_I q]) rfl ?_
                                        refine rd_iinc C dX10_leads_199 (by decide) rfl ⟨by omega, by omega⟩ (L' := [rd_R 0, rd_I g0, rd_I 0, rd_I k, rd_I i, rd_I (i / 10), j6, rd_I (q + 1)]) rfl ?_
                                        refine rd_goto C dX10_leads_202 (tgt := 160) (by decide) ?_
                                        exact ih (q + 1) 0 _ _ (by omega) (by omega) (by omega) hfr3 (by have hff := hW3.2.2.2.1.1; rw [show (0 : Int) = f3 by omega]; exact hW3) hvi hfw (fun q' q0 q1 n' s' he => by by_cases hqq : q' = q; subst hqq; obtain ⟨h1, rfl, rfl⟩ := he; exact fun h => hw_r ⟨h1, h⟩; exact hkw q' q0 (by omega) n' s' he)
                                      · refine rd_iconst C dX10_leads_193 (n := 1) ⟨by decide, by decide⟩ ?_
                                        refine rd_goto C dX10_leads_194 (tgt := 198) (by decide) ?_
                                        refine rd_istore_n C dX10_leads_198 (by decide) (L' := [rd_R 0, rd_I g0, rd_I 1, rd_I k, rd_I i, rd_I (i / 10), j6, rd_I q]) rfl ?_
                                        refine rd_iinc C dX10_leads_199 (by decide) rfl ⟨by omega, by omega⟩ (L' := [rd_R 0, rd_I g0, rd_I 1, rd_I k, rd_I i, rd_I (i / 10), j6, rd_I (q + 1)]) rfl ?_
                                        refine rd_goto C dX10_leads_202 (tgt := 160) (by decide) ?_
                                        exact ih (q + 1) 1 _ _ (by omega) (by omega) (by omega) hfr3 (by have hff := hW3.2.2.2.1.1; rw [show (1 : Int) = f3 by omega]; exact hW3) hvi hfw (fun q' q0 q1 n' s' he => by by_cases hqq : q' = q; subst hqq; obtain ⟨h1, rfl, rfl⟩ := he; exact fun h => hw_r ⟨h1, h⟩; exact hkw q' q0 (by omega) n' s' he)
                              exact lp160 11 0 0 _ _ (by omega) (by omega) (by omega) hfr3 (by rw [show (0 : Int) = f2 by omega]; exact hW3) hvi hfw (fun q' q0 q1 => by omega)
                            · refine rd_iconst C dX10_leads_151 (n := 1) ⟨by decide, by decide⟩ ?_
                              refine rd_goto C dX10_leads_152 (tgt := 156) (by decide) ?_
                              refine rd_istore_n C dX10_leads_156 (by decide) (L' := [rd_R 0, rd_I g0, rd_I 1, rd_I k, rd_I i, rd_I (i / 10), rd_I 1, j7]) rfl ?_
                              refine rd_iconst C dX10_leads_157 (n := 0) ⟨by decide, by decide⟩ ?_
                              refine rd_istore C dX10_leads_158 (by decide) (L' := [rd_R 0, rd_I g0, rd_I 1, rd_I k, rd_I i, rd_I (i / 10), rd_I 1, rd_I 0]) rfl ?_
                              have lp160 : ∀ (n : Nat) (q f3 : Int) (j6 : rd_X) (μ3 : rd_Mem), (0 ≤ q) → (q ≤ 10) → (10 < q + n) → (∀ a : Int, a ≠ 4 → μ3 a = μ a) → (mo_Wv μ (μ3 4) k i f3) → (μ3 4 i = k) → (∀ n' s', mo_f μ (i / 10) (i % 10) n' s' → μ3 4 (10 * n' + s') ≠ -6) → (∀ q', 0 ≤ q' → q' < q → ∀ n' s', mo_g μ (i / 10) q' n' s' → μ3 4 (10 * n' + s') ≠ -6) → rd_W p l e (rd_rm 4 86) s m args below meth c (MQ below (rd_Qc G rd_km 5 r (fun v μ' => ∃ r : Int, v = some (rd_I r) ∧ ((r = -6 ∧ ∀ (j : Nat) (s : Int), ¬ mo_P μ j g0 s) ∨ (0 ≤ r ∧ (∃ s, mo_P μ r.toNat g0 s) ∧ ∀ (j : Nat) (s : Int), mo_P μ j g0 s → r ≤ j)) ∧ ∀ a : Int, a ≠ 4 → μ' a = μ a)) args s 0 0 (rd_A r 5)) 8 G rd_km 5 r 160 [rd_R 0, rd_I g0, rd_I f3, rd_I k, rd_I i, rd_I (i / 10), j6, rd_I q] [] μ3 := by
                                intro n
                                induction n with
                                | zero => intro q f3 j6 μ3  q0 q1 q2 hfr3 hW3 hvi hfw hkw; exfalso; omega
                                | succ n ih =>
                                  intro q f3 j6 μ3  q0 q1 q2 hfr3 hW3 hvi hfw hkw
                                  refine rd_iload C dX10_leads_160 rfl ?_
                                  refine rd_bipush C dX10_leads_162 (n := 10) (by decide) ⟨by decide, by decide⟩ ?_
                                  refine rd_icmp_ge C dX10_leads_164 (tgt := 205) (by decide) (fun h_164 => ?_) (fun h_164 => ?_)
                                  · refine rd_iinc C dX10_leads_205 (by decide) rfl ⟨by omega, by omega⟩ (L' := [rd_R 0, rd_I g0, rd_I f3, rd_I k, rd_I (i + 1), rd_I (i / 10), j6, rd_I q]) rfl ?_
                                    refine rd_goto C dX10_leads_208 (tgt := 59) (by decide) ?_
                                    exact ihM (i + 1) _ _ _ _ _ (by omega) (by omega) (by omega) hfr3 (mo_Wv_i hW3 (fun _ n' s' he => by rcases he with he | ⟨q', hq', he⟩; exact hfw n' s' he; exact hkw q' hq'.1 (by omega) n' s' he))
                                  · refine rd_aload_n C dX10_leads_167 rfl ?_
                                    refine rd_aload_n C dX10_leads_168 rfl ?_
                                    refine rd_iload C dX10_leads_169 rfl ?_
                                    refine rd_bipush C dX10_leads_171 (n := 22) (by decide) ⟨by decide, by decide⟩ ?_
                                    refine rd_iload C dX10_leads_173 rfl ?_
                                    refine rd_iadd C dX10_leads_175 (z := 22 + q) rfl ⟨by omega, by omega⟩ ?_
                                    refine rd_callV C (c_X10_of (i := i / 10) (q := 22 + q) ht.1 ⟨by omega, by omega⟩) rm_X10_26 ri_X10_of rs_X10_of rc_X10_of rz_X10 ⟨rp_X10_of, rfl, rfl, by decide, by decide⟩ rfl rd_kcl10 dX10_leads_176 rd_c0 rd_m0 rfl (Nat.le_of_ble_eq_true rfl) (fun v1 w1 hq => ?_)
                                    obtain ⟨hv1, hm1⟩ := hq; rw [show v1 = some (rd_I (mo_o μ3 (i / 10) (22 + q))) from hv1, hm1, (mo_1 (hfr3 1 (by decide))).2.2.2.2]; clear hv1 hm1
                                    have htq := hJ.2 _ ht q (by omega) (by omega)
                                    have htq2 : mo_o μ (i / 10) (22 + q) = -6 ∨ (0 ≤ mo_o μ (i / 10) (22 + q) ∧ mo_o μ (i / 10) (22 + q) ≤ 9) := htq.elim Or.inl (fun g => Or.inr g.1)
                                    refine rd_iconst C dX10_leads_179 (n := 0) ⟨by decide, by decide⟩ ?_
                                    refine rd_iload_n C dX10_leads_180 rfl ?_
                                    refine rd_iconst C dX10_leads_181 (n := 1) ⟨by decide, by decide⟩ ?_
                                    refine rd_iadd C dX10_leads_182 (z := k + 1) rfl ⟨by omega, by omega⟩ ?_
                                    refine rd_callV C (c_X10_reaches htq2 (by omega)) rm_X10_143 ri_X10_reaches rs_X10_reaches rc_X10_reaches rz_X10 ⟨rp_X10_reaches, rfl, rfl, by decide, by decide⟩ rfl rd_kcl10 dX10_leads_183 rd_c0 rd_m0 rfl (Nat.le_of_ble_eq_true rfl) (fun v1 w1 hq => ?_)
                                    rcases hq with ⟨hw_r, hv1, hm1⟩ | ⟨hw_r, hv1, hm1⟩
                                    · rw [hv1, hm1]; clear hv1 hm1 v1 w1
                                      obtain ⟨hW4, hx4⟩ := mo_Wv_u (n := mo_o μ (i / 10) (22 + q)) (s := 0) hW3 k0 (htq2.resolve_left hw_r.1) ⟨by omega, by omega⟩ hw_r.2 (hPn _ _ (Or.inr ⟨q, ⟨by omega, by omega⟩, hw_r.1, rfl, rfl⟩))
                                      rw [← rd_u_row] at hW4 hx4
                                      refine rd_if_ne C dX10_leads_186 (tgt := 193) (by decide) (fun _ => ?_) (fun h => absurd h (by decide))
                                      refine rd_iconst C dX10_leads_193 (n := 1) ⟨by decide, by decide⟩ ?_
                                      refine rd_goto C dX10_leads_194 (tgt := 198) (by decide) ?_
                                      refine rd_istore_n C dX10_leads_198 (by decide) (L' := [rd_R 0, rd_I g0, rd_I 1, rd_I k, rd_I i, rd_I (i / 10), j6, rd_I q]) rfl ?_
                                      refine rd_iinc C dX10_leads_199 (by decide) rfl ⟨by omega, by omega⟩ (L' := [rd_R 0, rd_I g0, rd_I 1, rd_I k, rd_I i, rd_I (i / 10), j6, rd_I (q + 1)]) rfl ?_
                                      refine rd_goto C dX10_leads_202 (tgt := 160) (by decide) ?_
                                      exact ih (q + 1) 1 _ _ (by omega) (by omega) (by omega) (fun a ha => (rd_u_ne _ _ _ ha).trans (hfr3 a ha)) hW4 ((hx4 i (by rw [hvi]; omega)).trans hvi) (fun n' s' he => by rw [hx4 _ (hfw n' s' he)]; exact hfw n' s' he) (fun q' q0 q1 n' s' he => by by_cases hqq : q' = q; subst hqq; obtain ⟨_, rfl, rfl⟩ := he; rw [rd_u_s]; omega; have h9 := hkw q' q0 (by omega) n' s' he; rw [hx4 _ h9]; exact h9)
                                    · rw [hv1, hm1]; clear hv1 hm1 v1 w1
                                      refine rd_if_ne C dX10_leads_186 (tgt := 193) (by decide) (fun h => absurd h (by decide)) (fun _ => ?_)
                                      refine rd_iload_n C dX10_leads_189 rfl ?_
                                      refine rd_if_eq C dX10_leads_190 (tgt := 197) (by decide) (fun h_190 => ?_) (fun h_190 => ?_)
                                      · refine rd_iconst C dX10_leads_197 (n := 0) ⟨by decide, by decide⟩ ?_
                                        refine rd_istore_n C dX10_leads_198 (by decide) (L' := [rd_R 0, rd_I g0, rd_I 0, rd_I k, rd_I i, rd_I (i / 10), j6, rd_I q]) rfl ?_
                                        refine rd_iinc C dX10_leads_199 (by decide) rfl ⟨by omega, by omega⟩ (L' := [rd_R 0, rd_I g0, rd_I 0, rd_I k, rd_I i, rd_I (i / 10), j6, rd_I (q + 1)]) rfl ?_
                                        refine rd_goto C dX10_leads_202 (tgt := 160) (by decide) ?_
                                        exact ih (q + 1) 0 _ _ (by omega) (by omega) (by omega) hfr3 (by have hff := hW3.2.2.2.1.1; rw [show (0 : Int) = f3 by omega]; exact hW3) hvi hfw (fun q' q0 q1 n' s' he => by by_cases hqq : q' = q; subst hqq; obtain ⟨h1, rfl, rfl⟩ := he; exact fun h => hw_r ⟨h1, h⟩; exact hkw q' q0 (by omega) n' s' he)
                                      · refine rd_iconst C dX10_leads_193 (n := 1) ⟨by decide, by decide⟩ ?_
                                        refine rd_goto C dX10_leads_194 (tgt := 198) (by decide) ?_
                                        refine rd_istore_n C dX10_leads_198 (by decide) (L' := [rd_R 0, rd_I g0, rd_I 1, rd_I k, rd_I i, rd_I (i / 10), j6, rd_I q]) rfl ?_
                                        refine rd_iinc C dX10_leads_199 (by decide) rfl ⟨by omega, by omega⟩ (L' := [rd_R 0, rd_I g0, rd_I 1, rd_I k, rd_I i, rd_I (i / 10), j6, rd_I (q + 1)]) rfl ?_
                                        refine rd_goto C dX10_leads_202 (tgt := 160) (by decide) ?_
                                        exact ih (q + 1) 1 _ _ (by omega) (by omega) (by omega) hfr3 (by have hff := hW3.2.2.2.1.1; rw [show (1 : Int) = f3 by omega]; exact hW3) hvi hfw (fun q' q0 q1 n' s' he => by by_cases hqq : q' = q; subst hqq; obtain ⟨h1, rfl, rfl⟩ := he; exact fun h => hw_r ⟨h1, h⟩; exact hkw q' q0 (by omega) n' s' he)
                              exact lp160 11 0 1 _ _ (by omega) (by omega) (by omega) hfr3 (by have hff := hW3.2.2.2.1.1; rw [show (1 : Int) = f2 by omega]; exact hW3) hvi hfw (fun q' q0 q1 => by omega)
                        · rw [mo_z_ne (by omega : mo_nx μ (mo_pl μ (i / 10) + 1) ≠ -1)]
                          refine rd_goto C dX10_leads_117 (tgt := 122) (by decide) ?_
                          refine rd_iload C dX10_leads_122 rfl ?_
                          refine rd_if_eq C dX10_leads_124 (tgt := 131) (by decide) (fun h => absurd h (by decide)) (fun _ => ?_)
                          refine rd_iconst C dX10_leads_127 (n := 0) ⟨by decide, by decide⟩ ?_
                          refine rd_goto C dX10_leads_128 (tgt := 138) (by decide) ?_
                          refine rd_iload_n C dX10_leads_138 rfl ?_
                          refine rd_iconst C dX10_leads_139 (n := 1) ⟨by decide, by decide⟩ ?_
                          refine rd_iadd C dX10_leads_140 (z := k + 1) rfl ⟨by omega, by omega⟩ ?_
                          refine rd_callV C (c_X10_reaches (by omega) (by omega)) rm_X10_143 ri_X10_reaches rs_X10_reaches rc_X10_reaches rz_X10 ⟨rp_X10_reaches, rfl, rfl, by decide, by decide⟩ rfl rd_kcl10 dX10_leads_141 rd_c0 rd_m0 rfl (Nat.le_of_ble_eq_true rfl) (fun v1 w1 hq => ?_)
                          rcases hq with ⟨hw_r, hv1, hm1⟩ | ⟨hw_r, hv1, hm1⟩
                          · rw [hv1, hm1]; clear hv1 hm1 v1 w1
                            obtain ⟨hW3, hx3⟩ := mo_Wv_u (n := mo_nx μ (mo_pl μ (i / 10) + 1)) (s := 0) hW k0 ⟨by omega, by omega⟩ ⟨by omega, by omega⟩ hw_r.2 (hPn _ _ (Or.inl (Or.inr ⟨by omega, by omega, rfl, rfl⟩)))
                            rw [← rd_u_row] at hW3 hx3
                            have hfr3 : ∀ a : Int, a ≠ 4 → (rd_u μ2 4 (10 * (mo_nx μ (mo_pl μ (i / 10) + 1)) + 0) (k + 1)) a = μ a := fun a ha => (rd_u_ne _ _ _ ha).trans (hfr2 a ha)
                            have hvi : (rd_u μ2 4 (10 * (mo_nx μ (mo_pl μ (i / 10) + 1)) + 0) (k + 1)) 4 i = k := (hx3 i (by omega)).trans h_74
                            have hfw : ∀ n' s', mo_f μ (i / 10) (i % 10) n' s' → (rd_u μ2 4 (10 * (mo_nx μ (mo_pl μ (i / 10) + 1)) + 0) (k + 1)) 4 (10 * n' + s') ≠ -6 := fun n' s' he => by
                              rcases he with ⟨h1, _, _⟩ | ⟨h1, h2, rfl, rfl⟩
                              · omega
                              · rw [rd_u_s]; omega
                            refine rd_if_ne C dX10_leads_144 (tgt := 151) (by decide) (fun _ => ?_) (fun h => absurd h (by decide))
                            refine rd_iconst C dX10_leads_151 (n := 1) ⟨by decide, by decide⟩ ?_
                            refine rd_goto C dX10_leads_152 (tgt := 156) (by decide) ?_
                            refine rd_istore_n C dX10_leads_156 (by decide) (L' := [rd_R 0, rd_I g0, rd_I 1, rd_I k, rd_I i, rd_I (i / 10), rd_I 1, j7]) rfl ?_
                            refine rd_iconst C dX10_leads_157 (n := 0) ⟨by decide, by decide⟩ ?_
                            refine rd_istore C dX10_leads_158 (by decide) (L' := [rd_R 0, rd_I g0, rd_I 1, rd_I k, rd_I i, rd_I (i / 10), rd_I 1, rd_I 0]) rfl ?_
                            have lp160 : ∀ (n : Nat) (q f3 : Int) (j6 : rd_X) (μ3 : rd_Mem), (0 ≤ q) → (q ≤ 10) → (10 < q + n) → (∀ a : Int, a ≠ 4 → μ3 a = μ a) → (mo_Wv μ (μ3 4) k i f3) → (μ3 4 i = k) → (∀ n' s', mo_f μ (i / 10) (i % 10) n' s' → μ3 4 (10 * n' + s') ≠ -6) → (∀ q', 0 ≤ q' → q' < q → ∀ n' s', mo_g μ (i / 10) q' n' s' → μ3 4 (10 * n' + s') ≠ -6) → rd_W p l e (rd_rm 4 86) s m args below meth c (MQ below (rd_Qc G rd_km 5 r (fun v μ' => ∃ r : Int, v = some (rd_I r) ∧ ((r = -6 ∧ ∀ (j : Nat) (s : Int), ¬ mo_P μ j g0 s) ∨ (0 ≤ r ∧ (∃ s, mo_P μ r.toNat g0 s) ∧ ∀ (j : Nat) (s : Int), mo_P μ j g0 s → r ≤ j)) ∧ ∀ a : Int, a ≠ 4 → μ' a = μ a)) args s 0 0 (rd_A r 5)) 8 G rd_km 5 r 160 [rd_R 0, rd_I g0, rd_I f3, rd_I k, rd_I i, rd_I (i / 10), j6, rd_I q] [] μ3 := by
                              intro n
                              induction n with
                              | zero => intro q f3 j6 μ3  q0 q1 q2 hfr3 hW3 hvi hfw hkw; exfalso; omega
                              | succ n ih =>
                                intro q f3 j6 μ3  q0 q1 q2 hfr3 hW3 hvi hfw hkw
                                refine rd_iload C dX10_leads_160 rfl ?_
                                refine rd_bipush C dX10_leads_162 (n := 10) (by decide) ⟨by decide, by decide⟩ ?_
                                refine rd_icmp_ge C dX10_leads_164 (tgt := 205) (by decide) (fun h_164 => ?_) (fun h_164 => ?_)
                                · refine rd_iinc C dX10_leads_205 (by decide) rfl ⟨by omega, by omega⟩ (L' := [rd_R 0, rd_I g0, rd_I f3, rd_I k, rd_I (i + 1), rd_I (i / 10), j6, rd_I q]) rfl ?_
                                  refine rd_goto C dX10_leads_208 (tgt := 59) (by decide) ?_
                                  exact ihM (i + 1) _ _ _ _ _ (by omega) (by omega) (by omega) hfr3 (mo_Wv_i hW3 (fun _ n' s' he => by rcases he with he | ⟨q', hq', he⟩; exact hfw n' s' he; exact hkw q' hq'.1 (by omega) n' s' he))
                                · refine rd_aload_n C dX10_leads_167 rfl ?_
                                  refine rd_aload_n C dX10_leads_168 rfl ?_
                                  refine rd_iload C dX10_leads_169 rfl ?_
                                  refine rd_bipush C dX10_leads_171 (n := 22) (by decide) ⟨by decide, by decide⟩ ?_
                                  refine rd_iload C dX10_leads_173 rfl ?_
                                  refine rd_iadd C dX10_leads_175 (z := 22 + q) rfl ⟨by omega, by omega⟩ ?_
                                  refine rd_callV C (c_X10_of (i := i / 10) (q := 22 + q) ht.1 ⟨by omega, by omega⟩) rm_X10_26 ri_X10_of rs_X10_of rc_X10_of rz_X10 ⟨rp_X10_of, rfl, rfl, by decide, by decide⟩ rfl rd_kcl10 dX10_leads_176 rd_c0 rd_m0 rfl (Nat.le_of_ble_eq_true rfl) (fun v1 w1 hq => ?_)
                                  obtain ⟨hv1, hm1⟩ := hq; rw [show v1 = some (rd_I (mo_o μ3 (i / 10) (22 + q))) from hv1, hm1, (mo_1 (hfr3 1 (by decide))).2.2.2.2]; clear hv1 hm1
                                  have htq := hJ.2 _ ht q (by omega) (by omega)
                                  have htq2 : mo_o μ (i / 10) (22 + q) = -6 ∨ (0 ≤ mo_o μ (i / 10) (22 + q) ∧ mo_o μ (i / 10) (22 + q) ≤ 9) := htq.elim Or.inl (fun g => Or.inr g.1)
                                  refine rd_iconst C dX10_leads_179 (n := 0) ⟨by decide, by decide⟩ ?_
                                  refine rd_iload_n C dX10_leads_180 rfl ?_
                                  refine rd_iconst C dX10_leads_181 (n := 1) ⟨by decide, by decide⟩ ?_
                                  refine rd_iadd C dX10_leads_182 (z := k + 1) rfl ⟨by omega, by omega⟩ ?_
                                  refine rd_callV C (c_X10_reaches htq2 (by omega)) rm_X10_143 ri_X10_reaches rs_X10_reaches rc_X10_reaches rz_X10 ⟨rp_X10_reaches, rfl, rfl, by decide, by decide⟩ rfl rd_kcl10 dX10_leads_183 rd_c0 rd_m0 rfl (Nat.le_of_ble_eq_true rfl) (fun v1 w1 hq => ?_)
                                  rcases hq with ⟨hw_r, hv1, hm1⟩ | ⟨hw_r, hv1, hm1⟩
                                  · rw [hv1, hm1]; clear hv1 hm1 v1 w1
                                    obtain ⟨hW4, hx4⟩ := mo_Wv_u (n := mo_o μ (i / 10) (22 + q)) (s := 0) hW3 k0 (htq2.resolve_left hw_r.1) ⟨by omega, by omega⟩ hw_r.2 (hPn _ _ (Or.inr ⟨q, ⟨by omega, by omega⟩, hw_r.1, rfl, rfl⟩))
                                    rw [← rd_u_row] at hW4 hx4
                                    refine rd_if_ne C dX10_leads_186 (tgt := 193) (by decide) (fun _ => ?_) (fun h => absurd h (by decide))
                                    refine rd_iconst C dX10_leads_193 (n := 1) ⟨by decide, by decide⟩ ?_
                                    refine rd_goto C dX10_leads_194 (tgt := 198) (by decide) ?_
                                    refine rd_istore_n C dX10_leads_198 (by decide) (L' := [rd_R 0, rd_I g0, rd_I 1, rd_I k, rd_I i, rd_I (i / 10), j6, rd_I q]) rfl ?_
                                    refine rd_iinc C dX10_leads_199 (by decide) rfl ⟨by omega, by omega⟩ (L' := [rd_R 0, rd_I g0, rd_I 1, rd_I k, rd_I i, rd_I (i / 10), j6, rd_I (q + 1)]) rfl ?_
                                    refine rd_goto C dX10_leads_202 (tgt := 160) (by decide) ?_
                                    exact ih (q + 1) 1 _ _ (by omega) (by omega) (by omega) (fun a ha => (rd_u_ne _ _ _ ha).trans (hfr3 a ha)) hW4 ((hx4 i (by rw [hvi]; omega)).trans hvi) (fun n' s' he => by rw [hx4 _ (hfw n' s' he)]; exact hfw n' s' he) (fun q' q0 q1 n' s' he => by by_cases hqq : q' = q; subst hqq; obtain ⟨_, rfl, rfl⟩ := he; rw [rd_u_s]; omega; have h9 := hkw q' q0 (by omega) n' s' he; rw [hx4 _ h9]; exact h9)
                                  · rw [hv1, hm1]; clear hv1 hm1 v1 w1
                                    refine rd_if_ne C dX10_leads_186 (tgt := 193) (by decide) (fun h => absurd h (by decide)) (fun _ => ?_)
                                    refine rd_iload_n C dX10_leads_189 rfl ?_
                                    refine rd_if_eq C dX10_leads_190 (tgt := 197) (by decide) (fun h_190 => ?_) (fun h_190 => ?_)
                                    · refine rd_iconst C dX10_leads_197 (n := 0) ⟨by decide, by decide⟩ ?_
                                      refine rd_istore_n C dX10_leads_198 (by decide) (L' := [rd_R 0, rd_I g0, rd_I 0, rd_I k, rd_I i, rd_I (i / 10), j6, rd_I q]) rfl ?_
                                      refine rd_iinc C dX10_leads_199 (by decide) rfl ⟨by omega, by omega⟩ (L' := [rd_R 0, rd_I g0, rd_I 0, rd_I k, rd_I i, rd_I (i / 10), j6, rd_I (q + 1)]) rfl ?_
                                      refine rd_goto C dX10_leads_202 (tgt := 160) (by decide) ?_
                                      exact ih (q + 1) 0 _ _ (by omega) (by omega) (by omega) hfr3 (by have hff := hW3.2.2.2.1.1; rw [show (0 : Int) = f3 by omega]; exact hW3) hvi hfw (fun q' q0 q1 n' s' he => by by_cases hqq : q' = q; subst hqq; obtain ⟨h1, rfl, rfl⟩ := he; exact fun h => hw_r ⟨h1, h⟩; exact hkw q' q0 (by omega) n' s' he)
                                    · refine rd_iconst C dX10_leads_193 (n := 1) ⟨by decide, by decide⟩ ?_
                                      refine rd_goto C dX10_leads_194 (tgt := 198) (by decide) ?_
                                      refine rd_istore_n C dX10_leads_198 (by decide) (L' := [rd_R 0, rd_I g0, rd_I 1, rd_I k, rd_I i, rd_I (i / 10), j6, rd_I q]) rfl ?_
                                      refine rd_iinc C dX10_leads_199 (by decide) rfl ⟨by omega, by omega⟩ (L' := [rd_R 0, rd_I g0, rd_I 1, rd_I k, rd_I i, rd_I (i / 10), j6, rd_I (q + 1)]) rfl ?_
                                      refine rd_goto C dX10_leads_202 (tgt := 160) (by decide) ?_
                                      exact ih (q + 1) 1 _ _ (by omega) (by omega) (by omega) hfr3 (by have hff := hW3.2.2.2.1.1; rw [show (1 : Int) = f3 by omega]; exact hW3) hvi hfw (fun q' q0 q1 n' s' he => by by_cases hqq : q' = q; subst hqq; obtain ⟨h1, rfl, rfl⟩ := he; exact fun h => hw_r ⟨h1, h⟩; exact hkw q' q0 (by omega) n' s' he)
                            exact lp160 11 0 1 _ _ (by omega) (by omega) (by omega) hfr3 hW3 hvi hfw (fun q' q0 q1 => by omega)
                          · rw [hv1, hm1]; clear hv1 hm1 v1 w1
                            have hW3 := hW
                            have hfr3 := hfr2
                            have hvi := h_74
                            have hfw : ∀ n' s', mo_f μ (i / 10) (i % 10) n' s' → μ2 4 (10 * n' + s') ≠ -6 := fun n' s' he => by
                              rcases he with ⟨h1, _, _⟩ | ⟨h1, h2, rfl, rfl⟩
                              · omega
                              · exact fun h => hw_r ⟨by omega, h⟩
                            refine rd_if_ne C dX10_leads_144 (tgt := 151) (by decide) (fun h => absurd h (by decide)) (fun _ => ?_)
                            refine rd_iload_n C dX10_leads_147 rfl ?_
                            refine rd_if_eq C dX10_leads_148 (tgt := 155) (by decide) (fun h_148 => ?_) (fun h_148 => ?_)
                            · refine rd_iconst C dX10_leads_155 (n := 0) ⟨by decide, by decide⟩ ?_
                              refine rd_istore_n C dX10_leads_156 (by decide) (L' := [rd_R 0, rd_I g0, rd_I 0, rd_I k, rd_I i, rd_I (i / 10), rd_I 1, j7]) rfl ?_
                              refine rd_iconst C dX10_leads_157 (n := 0) ⟨by decide, by decide⟩ ?_
                              refine rd_istore C dX10_leads_158 (by decide) (L' := [rd_R 0, rd_I g0, rd_I 0, rd_I k, rd_I i, rd_I (i / 10), rd_I 1, rd_I 0]) rfl ?_
                              have lp160 : ∀ (n : Nat) (q f3 : Int) (j6 : rd_X) (μ3 : rd_Mem), (0 ≤ q) → (q ≤ 10) → (10 < q + n) → (∀ a : Int, a ≠ 4 → μ3 a = μ a) → (mo_Wv μ (μ3 4) k i f3) → (μ3 4 i = k) → (∀ n' s', mo_f μ (i / 10) (i % 10) n' s' → μ3 4 (10 * n' + s') ≠ -6) → (∀ q', 0 ≤ q' → q' < q → ∀ n' s', mo_g μ (i / 10) q' n' s' → μ3 4 (10 * n' + s') ≠ -6) → rd_W p l e (rd_rm 4 86) s m args below meth c (MQ below (rd_Qc G rd_km 5 r (fun v μ' => ∃ r : Int, v = some (rd_I r) ∧ ((r = -6 ∧ ∀ (j : Nat) (s : Int), ¬ mo_P μ j g0 s) ∨ (0 ≤ r ∧ (∃ s, mo_P μ r.toNat g0 s) ∧ ∀ (j : Nat) (s : Int), mo_P μ j g0 s → r ≤ j)) ∧ ∀ a : Int, a ≠ 4 → μ' a = μ a)) args s 0 0 (rd_A r 5)) 8 G rd_km 5 r 160 [rd_R 0, rd_I g0, rd_I f3, rd_I k, rd_I i, rd_I (i / 10), j6, rd_I q] [] μ3 := by
                                intro n
                                induction n with
                                | zero => intro q f3 j6 μ3  q0 q1 q2 hfr3 hW3 hvi hfw hkw; exfalso; omega
                                | succ n ih =>
                                  intro q f3 j6 μ3  q0 q1 q2 hfr3 hW3 hvi hfw hkw
                                  refine rd_iload C dX10_leads_160 rfl ?_
                                  refine rd_bipush C dX10_leads_162 (n := 10) (by decide) ⟨by decide, by decide⟩ ?_
                                  refine rd_icmp_ge C dX10_leads_164 (tgt := 205) (by decide) (fun h_164 => ?_) (fun h_164 => ?_)
                                  · refine rd_iinc C dX10_leads_205 (by decide) rfl ⟨by omega, by omega⟩ (L' := [rd_R 0, rd_I g0, rd_I f3, rd_I k, rd_I (i + 1), rd_I (i / 10), j6, rd_I q]) rfl ?_
                                    refine rd_goto C dX10_leads_208 (tgt := 59) (by decide) ?_
                                    exact ihM (i + 1) _ _ _ _ _ (by omega) (by omega) (by omega) hfr3 (mo_Wv_i hW3 (fun _ n' s' he => by rcases he with he | ⟨q', hq', he⟩; exact hfw n' s' he; exact hkw q' hq'.1 (by omega) n' s' he))
                                  · refine rd_aload_n C dX10_leads_167 rfl ?_
                                    refine rd_aload_n C dX10_leads_168 rfl ?_
                                    refine rd_iload C dX10_leads_169 rfl ?_
                                    refine rd_bipush C dX10_leads_171 (n := 22) (by decide) ⟨by decide, by decide⟩ ?_
                                    refine rd_iload C dX10_leads_173 rfl ?_
                                    refine rd_iadd C dX10_leads_175 (z := 22 + q) rfl ⟨by omega, by omega⟩ ?_
                                    refine rd_callV C (c_X10_of (i := i / 10) (q := 22 + q) ht.1 ⟨by omega, by omega⟩) rm_X10_26 ri_X10_of rs_X10_of rc_X10_of rz_X10 ⟨rp_X10_of, rfl, rfl, by decide, by decide⟩ rfl rd_kcl10 dX10_leads_176 rd_c0 rd_m0 rfl (Nat.le_of_ble_eq_true rfl) (fun v1 w1 hq => ?_)
                                    obtain ⟨hv1, hm1⟩ := hq; rw [show v1 = some (rd_I (mo_o μ3 (i / 10) (22 + q))) from hv1, hm1, (mo_1 (hfr3 1 (by decide))).2.2.2.2]; clear hv1 hm1
                                    have htq := hJ.2 _ ht q (by omega) (by omega)
                                    have htq2 : mo_o μ (i / 10) (22 + q) = -6 ∨ (0 ≤ mo_o μ (i / 10) (22 + q) ∧ mo_o μ (i / 10) (22 + q) ≤ 9) := htq.elim Or.inl (fun g => Or.inr g.1)
                                    refine rd_iconst C dX10_leads_179 (n := 0) ⟨by decide, by decide⟩ ?_
                                    refine rd_iload_n C dX10_leads_180 rfl ?_
                                    refine rd_iconst C dX10_leads_181 (n := 1) ⟨by decide, by decide⟩ ?_
                                    refine rd_iadd C dX10_leads_182 (z := k + 1) rfl ⟨by omega, by omega⟩ ?_
                                    refine rd_callV C (c_X10_reaches htq2 (by omega)) rm_X10_143 ri_X10_reaches rs_X10_reaches rc_X10_reaches rz_X10 ⟨rp_X10_reaches, rfl, rfl, by decide, by decide⟩ rfl rd_kcl10 dX10_leads_183 rd_c0 rd_m0 rfl (Nat.le_of_ble_eq_true rfl) (fun v1 w1 hq => ?_)
                                    rcases hq with ⟨hw_r, hv1, hm1⟩ | ⟨hw_r, hv1, hm1⟩
                                    · rw [hv1, hm1]; clear hv1 hm1 v1 w1
                                      obtain ⟨hW4, hx4⟩ := mo_Wv_u (n := mo_o μ (i / 10) (22 + q)) (s := 0) hW3 k0 (htq2.resolve_left hw_r.1) ⟨by omega, by omega⟩ hw_r.2 (hPn _ _ (Or.inr ⟨q, ⟨by omega, by omega⟩, hw_r.1, rfl, rfl⟩))
                                      rw [← rd_u_row] at hW4 hx4
                                      refine rd_if_ne C dX10_leads_186 (tgt := 193) (by decide) (fun _ => ?_) (fun h => absurd h (by decide))
                                      refine rd_iconst C dX10_leads_193 (n := 1) ⟨by decide, by decide⟩ ?_
                                      refine rd_goto C dX10_leads_194 (tgt := 198) (by decide) ?_
                                      refine rd_istore_n C dX10_leads_198 (by decide) (L' := [rd_R 0, rd_I g0, rd_I 1, rd_I k, rd_I i, rd_I (i / 10), j6, rd_I q]) rfl ?_
                                      refine rd_iinc C dX10_leads_199 (by decide) rfl ⟨by omega, by omega⟩ (L' := [rd_R 0, rd_I g0, rd_I 1, rd_I k, rd_I i, rd_I (i / 10), j6, rd_I (q + 1)]) rfl ?_
                                      refine rd_goto C dX10_leads_202 (tgt := 160) (by decide) ?_
                                      exact ih (q + 1) 1 _ _ (by omega) (by omega) (by omega) (fun a ha => (rd_u_ne _ _ _ ha).trans (hfr3 a ha)) hW4 ((hx4 i (by rw [hvi]; omega)).trans hvi) (fun n' s' he => by rw [hx4 _ (hfw n' s' he)]; exact hfw n' s' he) (fun q' q0 q1 n' s' he => by by_cases hqq : q' = q; subst hqq; obtain ⟨_, rfl, rfl⟩ := he; rw [rd_u_s]; omega; have h9 := hkw q' q0 (by omega) n' s' he; rw [hx4 _ h9]; exact h9)
                                    · rw [hv1, hm1]; clear hv1 hm1 v1 w1
                                      refine rd_if_ne C dX10_leads_186 (tgt := 193) (by decide) (fun h => absurd h (by decide)) (fun _ => ?_)
                                      refine rd_iload_n C dX10_leads_189 rfl ?_
                                      refine rd_if_eq C dX10_leads_190 (tgt := 197) (by decide) (fun h_190 => ?_) (fun h_190 => ?_)
                                      · refine rd_iconst C dX10_leads_197 (n := 0) ⟨by decide, by decide⟩ ?_
                                        refine rd_istore_n C dX10_leads_198 (by decide) (L' := [rd_R 0, rd_I g0, rd_I 0, rd_I k, rd_I i, rd_I (i / 10), j6, rd_I q]) rfl ?_
                                        refine rd_iinc C dX10_leads_199 (by decide) rfl ⟨by omega, by omega⟩ (L' := [rd_R 0, rd_I g0, rd_I 0, rd_I k, rd_I i, rd_I (i / 10), j6, rd_I (q + 1)]) rfl ?_
                                        refine rd_goto C dX10_leads_202 (tgt := 160) (by decide) ?_
                                        exact ih (q + 1) 0 _ _ (by omega) (by omega) (by omega) hfr3 (by have hff := hW3.2.2.2.1.1; rw [show (0 : Int) = f3 by omega]; exact hW3) hvi hfw (fun q' q0 q1 n' s' he => by by_cases hqq : q' = q; subst hqq; obtain ⟨h1, rfl, rfl⟩ := he; exact fun h => hw_r ⟨h1, h⟩; exact hkw q' q0 (by omega) n' s' he)
                                      · refine rd_iconst C dX10_leads_193 (n := 1) ⟨by decide, by decide⟩ ?_
                                        refine rd_goto C dX10_leads_194 (tgt := 198) (by decide) ?_
                                        refine rd_istore_n C dX10_leads_198 (by decide) (L' := [rd_R 0, rd_I g0, rd_I 1, rd_I k, rd_I i, rd_I (i / 10), j6, rd_I q]) rfl ?_
                                        refine rd_iinc C dX10_leads_199 (by decide) rfl ⟨by omega, by omega⟩ (L' := [rd_R 0, rd_I g0, rd_I 1, rd_I k, rd_I i, rd_I (i / 10), j6, rd_I (q + 1)]) rfl ?_
                                        refine rd_goto C dX10_leads_202 (tgt := 160) (by decide) ?_
                                        exact ih (q + 1) 1 _ _ (by omega) (by omega) (by omega) hfr3 (by have hff := hW3.2.2.2.1.1; rw [show (1 : Int) = f3 by omega]; exact hW3) hvi hfw (fun q' q0 q1 n' s' he => by by_cases hqq : q' = q; subst hqq; obtain ⟨h1, rfl, rfl⟩ := he; exact fun h => hw_r ⟨h1, h⟩; exact hkw q' q0 (by omega) n' s' he)
                              exact lp160 11 0 0 _ _ (by omega) (by omega) (by omega) hfr3 (by rw [show (0 : Int) = f2 by omega]; exact hW3) hvi hfw (fun q' q0 q1 => by omega)
                            · refine rd_iconst C dX10_leads_151 (n := 1) ⟨by decide, by decide⟩ ?_
                              refine rd_goto C dX10_leads_152 (tgt := 156) (by decide) ?_
                              refine rd_istore_n C dX10_leads_156 (by decide) (L' := [rd_R 0, rd_I g0, rd_I 1, rd_I k, rd_I i, rd_I (i / 10), rd_I 1, j7]) rfl ?_
                              refine rd_iconst C dX10_leads_157 (n := 0) ⟨by decide, by decide⟩ ?_
                              refine rd_istore C dX10_leads_158 (by decide) (L' := [rd_R 0, rd_I g0, rd_I 1, rd_I k, rd_I i, rd_I (i / 10), rd_I 1, rd_I 0]) rfl ?_
                              have lp160 : ∀ (n : Nat) (q f3 : Int) (j6 : rd_X) (μ3 : rd_Mem), (0 ≤ q) → (q ≤ 10) → (10 < q + n) → (∀ a : Int, a ≠ 4 → μ3 a = μ a) → (mo_Wv μ (μ3 4) k i f3) → (μ3 4 i = k) → (∀ n' s', mo_f μ (i / 10) (i % 10) n' s' → μ3 4 (10 * n' + s') ≠ -6) → (∀ q', 0 ≤ q' → q' < q → ∀ n' s', mo_g μ (i / 10) q' n' s' → μ3 4 (10 * n' + s') ≠ -6) → rd_W p l e (rd_rm 4 86) s m args below meth c (MQ below (rd_Qc G rd_km 5 r (fun v μ' => ∃ r : Int, v = some (rd_I r) ∧ ((r = -6 ∧ ∀ (j : Nat) (s : Int), ¬ mo_P μ j g0 s) ∨ (0 ≤ r ∧ (∃ s, mo_P μ r.toNat g0 s) ∧ ∀ (j : Nat) (s : Int), mo_P μ j g0 s → r ≤ j)) ∧ ∀ a : Int, a ≠ 4 → μ' a = μ a)) args s 0 0 (rd_A r 5)) 8 G rd_km 5 r 160 [rd_R 0, rd_I g0, rd_I f3, rd_I k, rd_I i, rd_I (i / 10), j6, rd_I q] [] μ3 := by
                                intro n
                                induction n with
                                | zero => intro q f3 j6 μ3  q0 q1 q2 hfr3 hW3 hvi hfw hkw; exfalso; omega
                                | succ n ih =>
                                  intro q f3 j6 μ3  q0 q1 q2 hfr3 hW3 hvi hfw hkw
                                  refine rd_iload C dX10_leads_160 rfl ?_
                                  refine rd_bipush C dX10_leads_162 (n := 10) (by decide) ⟨by decide, by decide⟩ ?_
                                  refine rd_icmp_ge C dX10_leads_164 (tgt := 205) (by decide) (fun h_164 => ?_) (fun h_164 => ?_)
                                  · refine rd_iinc C dX10_leads_205 (by decide) rfl ⟨by omega, by omega⟩ (L' := [rd_R 0, rd_I g0, rd_I f3, rd_I k, rd_I (i + 1), rd_I (i / 10), j6, rd_I q]) rfl ?_
                                    refine rd_goto C dX10_leads_208 (tgt := 59) (by decide) ?_
                                    exact ihM (i + 1) _ _ _ _ _ (by omega) (by omega) (by omega) hfr3 (mo_Wv_i hW3 (fun _ n' s' he => by rcases he with he | ⟨q', hq', he⟩; exact hfw n' s' he; exact hkw q' hq'.1 (by omega) n' s' he))
                                  · refine rd_aload_n C dX10_leads_167 rfl ?_
                                    refine rd_aload_n C dX10_leads_168 rfl ?_
                                    refine rd_iload C dX10_leads_169 rfl ?_
                                    refine rd_bipush C dX10_leads_171 (n := 22) (by decide) ⟨by decide, by decide⟩ ?_
                                    refine rd_iload C dX10_leads_173 rfl ?_
                                    refine rd_iadd C dX10_leads_175 (z := 22 + q) rfl ⟨by omega, by omega⟩ ?_
                                    refine rd_callV C (c_X10_of (i := i / 10) (q := 22 + q) ht.1 ⟨by omega, by omega⟩) rm_X10_26 ri_X10_of rs_X10_of rc_X10_of rz_X10 ⟨rp_X10_of, rfl, rfl, by decide, by decide⟩ rfl rd_kcl10 dX10_leads_176 rd_c0 rd_m0 rfl (Nat.le_of_ble_eq_true rfl) (fun v1 w1 hq => ?_)
                                    obtain ⟨hv1, hm1⟩ := hq; rw [show v1 = some (rd_I (mo_o μ3 (i / 10) (22 + q))) from hv1, hm1, (mo_1 (hfr3 1 (by decide))).2.2.2.2]; clear hv1 hm1
                                    have htq := hJ.2 _ ht q (by omega) (by omega)
                                    have htq2 : mo_o μ (i / 10) (22 + q) = -6 ∨ (0 ≤ mo_o μ (i / 10) (22 + q) ∧ mo_o μ (i / 10) (22 + q) ≤ 9) := htq.elim Or.inl (fun g => Or.inr g.1)
                                    refine rd_iconst C dX10_leads_179 (n := 0) ⟨by decide, by decide⟩ ?_
                                    refine rd_iload_n C dX10_leads_180 rfl ?_
                                    refine rd_iconst C dX10_leads_181 (n := 1) ⟨by decide, by decide⟩ ?_
                                    refine rd_iadd C dX10_leads_182 (z := k + 1) rfl ⟨by omega, by omega⟩ ?_
                                    refine rd_callV C (c_X10_reaches htq2 (by omega)) rm_X10_143 ri_X10_reaches rs_X10_reaches rc_X10_reaches rz_X10 ⟨rp_X10_reaches, rfl, rfl, by decide, by decide⟩ rfl rd_kcl10 dX10_leads_183 rd_c0 rd_m0 rfl (Nat.le_of_ble_eq_true rfl) (fun v1 w1 hq => ?_)
                                    rcases hq with ⟨hw_r, hv1, hm1⟩ | ⟨hw_r, hv1, hm1⟩
                                    · rw [hv1, hm1]; clear hv1 hm1 v1 w1
                                      obtain ⟨hW4, hx4⟩ := mo_Wv_u (n := mo_o μ (i / 10) (22 + q)) (s := 0) hW3 k0 (htq2.resolve_left hw_r.1) ⟨by omega, by omega⟩ hw_r.2 (hPn _ _ (Or.inr ⟨q, ⟨by omega, by omega⟩, hw_r.1, rfl, rfl⟩))
                                      rw [← rd_u_row] at hW4 hx4
                                      refine rd_if_ne C dX10_leads_186 (tgt := 193) (by decide) (fun _ => ?_) (fun h => absurd h (by decide))
                                      refine rd_iconst C dX10_leads_193 (n := 1) ⟨by decide, by decide⟩ ?_
                                      refine rd_goto C dX10_leads_194 (tgt := 198) (by decide) ?_
                                      refine rd_istore_n C dX10_leads_198 (by decide) (L' := [rd_R 0, rd_I g0, rd_I 1, rd_I k, rd_I i, rd_I (i / 10), j6, rd_I q]) rfl ?_
                                      refine rd_iinc C dX10_leads_199 (by decide) rfl ⟨by omega, by omega⟩ (L' := [rd_R 0, rd_I g0, rd_I 1, rd_I k, rd_I i, rd_I (i / 10), j6, rd_I (q + 1)]) rfl ?_
                                      refine rd_goto C dX10_leads_202 (tgt := 160) (by decide) ?_
                                      exact ih (q + 1) 1 _ _ (by omega) (by omega) (by omega) (fun a ha => (rd_u_ne _ _ _ ha).trans (hfr3 a ha)) hW4 ((hx4 i (by rw [hvi]; omega)).trans hvi) (fun n' s' he => by rw [hx4 _ (hfw n' s' he)]; exact hfw n' s' he) (fun q' q0 q1 n' s' he => by by_cases hqq : q' = q; subst hqq; obtain ⟨_, rfl, rfl⟩ := he; rw [rd_u_s]; omega; have h9 := hkw q' q0 (by omega) n' s' he; rw [hx4 _ h9]; exact h9)
                                    · rw [hv1, hm1]; clear hv1 hm1 v1 w1
                                      refine rd_if_ne C dX10_leads_186 (tgt := 193) (by decide) (fun h => absurd h (by decide)) (fun _ => ?_)
                                      refine rd_iload_n C dX10_leads_189 rfl ?_
                                      refine rd_if_eq C dX10_leads_190 (tgt := 197) (by decide) (fun h_190 => ?_) (fun h_190 => ?_)
                                      · refine rd_iconst C dX10_leads_197 (n := 0) ⟨by decide, by decide⟩ ?_
                                        refine rd_istore_n C dX10_leads_198 (by decide) (L' := [rd_R 0, rd_I g0, rd_I 0, rd_I k, rd_I i, rd_I (i / 10), j6, rd_I q]) rfl ?_
                                        refine rd_iinc C dX10_leads_199 (by decide) rfl ⟨by omega, by omega⟩ (L' := [rd_R 0, rd_I g0, rd_I 0, rd_I k, rd_I i, rd_I (i / 10), j6, rd_I (q + 1)]) rfl ?_
                                        refine rd_goto C dX10_leads_202 (tgt := 160) (by decide) ?_
                                        exact ih (q + 1) 0 _ _ (by omega) (by omega) (by omega) hfr3 (by have hff := hW3.2.2.2.1.1; rw [show (0 : Int) = f3 by omega]; exact hW3) hvi hfw (fun q' q0 q1 n' s' he => by by_cases hqq : q' = q; subst hqq; obtain ⟨h1, rfl, rfl⟩ := he; exact fun h => hw_r ⟨h1, h⟩; exact hkw q' q0 (by omega) n' s' he)
                                      · refine rd_iconst C dX10_leads_193 (n := 1) ⟨by decide, by decide⟩ ?_
                                        refine rd_goto C dX10_leads_194 (tgt := 198) (by decide) ?_
                                        refine rd_istore_n C dX10_leads_198 (by decide) (L' := [rd_R 0, rd_I g0, rd_I 1, rd_I k, rd_I i, rd_I (i / 10), j6, rd_I q]) rfl ?_
                                        refine rd_iinc C dX10_leads_199 (by decide) rfl ⟨by omega, by omega⟩ (L' := [rd_R 0, rd_I g0, rd_I 1, rd_I k, rd_I i, rd_I (i / 10), j6, rd_I (q + 1)]) rfl ?_
                                        refine rd_goto C dX10_leads_202 (tgt := 160) (by decide) ?_
                                        exact ih (q + 1) 1 _ _ (by omega) (by omega) (by omega) hfr3 (by have hff := hW3.2.2.2.1.1; rw [show (1 : Int) = f3 by omega]; exact hW3) hvi hfw (fun q' q0 q1 n' s' he => by by_cases hqq : q' = q; subst hqq; obtain ⟨h1, rfl, rfl⟩ := he; exact fun h => hw_r ⟨h1, h⟩; exact hkw q' q0 (by omega) n' s' he)
                              exact lp160 11 0 1 _ _ (by omega) (by omega) (by omega) hfr3 (by have hff := hW3.2.2.2.1.1; rw [show (1 : Int) = f2 by omega]; exact hW3) hvi hfw (fun q' q0 q1 => by omega)
              exact lp59 101 0 0 _ _ _ _ (by omega) (by omega) (by omega) hfr (mo_Wv_0 hV hC (hU (by omega)) k0)
        exact lp50 102 1 0 _ _ _ _ _ (by omega) (by omega) (by omega) hfr0 hV0 hC0 (Or.inr rfl) (fun h => absurd h (by decide)) (fun _ => by unfold mo_U; omega)
      · refine rd_aload_n C dX10_leads_8 rfl ?_
        refine rd_get C rd_g10_8 rf_X10_19 dX10_leads_9 rd_c0 rd_m0 (x := rd_R (4)) rfl (fun _ => trivial) ?_
        refine rd_iload_n C dX10_leads_12 rfl ?_
        refine rd_bipush C dX10_leads_13 (n := -6) (by decide) ⟨by decide, by decide⟩ ?_
        refine rd_iast C rd_ai21 dX10_leads_15 rd_c4 rd_m4 ⟨by omega, by omega⟩ ?_
        refine rd_iinc C dX10_leads_16 (by decide) rfl ⟨by omega, by omega⟩ (L' := [rd_R 0, rd_I g0, rd_I (i + 1), rd_J, rd_J, rd_J, rd_J, rd_J]) rfl ?_
        refine rd_goto C dX10_leads_19 (tgt := 2) (by decide) ?_
        exact ih (i + 1) _ (by omega) (by omega) (by omega) (fun a ha => (rd_u_ne _ _ _ ha).trans (hfr a ha)) (fun j j0 j1 => by by_cases hj : j = i; rw [hj, rd_u_s]; rw [rd_u_j _ _ _ hj]; exact hin j j0 (by omega))
  exact lp2 101 0 _ (by omega) (by omega) (by omega) (fun _ _ => rfl) (fun j j0 j1 => by omega)
