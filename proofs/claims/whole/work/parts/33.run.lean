/-! the class makes the moves of a text -/
theorem rd_mvt_t {μ : rd_Mem} (h4 : 0 ≤ μ 58 5 ∧ μ 58 5 ≤ 40) (n s m : Int) {q c : Int} (hq : 0 ≤ q) (hq2 : q < (if μ 58 5 = 40 then 40 else μ 58 5 + 1)) (hc : 0 ≤ c ∧ c ≤ 2) : rd_mvt μ n s m (59 + c) q = (if q = (if μ 58 5 = 40 then 39 else μ 58 5) then μ 58 c else μ (59 + c) (if μ 58 5 = 40 then q + 1 else q)) := by
  have hc3 : c = 0 ∨ c = 1 ∨ c = 2 := by omega
  unfold rd_mvt
  by_cases h : μ 58 5 = 40
  · simp only [if_pos h] at hq2 ⊢
    have e : rd_drk μ 39 58 5 = 39 := by unfold rd_drk; rw [if_pos ⟨rfl, rfl⟩]
    have e2 : ∀ j : Int, j ≠ 5 → rd_drk μ 39 58 j = μ 58 j := fun j hj => by unfold rd_drk; rw [if_neg (by omega), if_neg (by omega)]
    unfold rd_mv
    rw [e, e2 0 (by omega), e2 1 (by omega), e2 2 (by omega)]
    simp only [rd_u]
    unfold rd_drk
    rcases hc3 with rfl | rfl | rfl <;> grind
  · simp only [if_neg h] at hq2 ⊢
    unfold rd_mv
    simp only [rd_u]
    rcases hc3 with rfl | rfl | rfl <;> grind
def sp_ts (μ : rd_Mem) : Prop := ∀ k : Int, 0 ≤ k → k < μ 58 5 → 0 ≤ μ 60 k ∧ μ 60 k ≤ 9
theorem rd_mvt_ts {μ : rd_Mem} (hw : sp_wf μ) (ht : sp_ts μ) (n s m : Int) : sp_ts (rd_mvt μ n s m) := by
  have h4 := hw.2.2.2.1
  intro k k0 k1
  rw [(rd_mvt_58 μ n s m).2.2.2.2.2] at k1
  have e := rd_mvt_t h4 n s m k0 k1 (c := 1) (by omega)
  rw [show (59 : Int) + 1 = 60 from rfl] at e
  rw [e]
  by_cases h : μ 58 5 = 40
  · simp only [if_pos h] at k1 ⊢
    by_cases hq : k = 39
    · rw [if_pos hq]; exact hw.2.2.2.2
    · rw [if_neg hq]; exact ht _ (by omega) (by omega)
  · simp only [if_neg h] at k1 ⊢
    by_cases hq : k = μ 58 5
    · rw [if_pos hq]; exact hw.2.2.2.2
    · rw [if_neg hq]; exact ht _ (by omega) (by omega)
theorem rd_mvt_wf {μ : rd_Mem} (hw : sp_wf μ) (n m : Int) {s : Int} (hs : 0 ≤ s ∧ s ≤ 9) : sp_wf (rd_mvt μ n s m) :=
  sp_wf_c (fun a ha => rd_mvt_lo μ n s m (by omega)) hw (by rw [(rd_mvt_58 μ n s m).2.2.2.2.2]; have := hw.2.2.2.1; split <;> omega) (by rw [(rd_mvt_58 μ n s m).2.1]; exact hs)
theorem rd_gf_ts {μ : rd_Mem} (hw : sp_wf μ) (ht : sp_ts μ) : sp_ts (rd_gf μ) := by
  unfold rd_gf
  by_cases hc : μ 58 1 < sp_FS μ (μ 58 0)
  · rw [sp_ite_t hc]; exact rd_mvt_ts hw ht _ _ _
  · rw [sp_ite_f hc]; exact rd_mvt_ts hw ht _ _ _
theorem rd_t0_ts {μ : rd_Mem} (ht : sp_ts μ) : sp_ts (rd_t0 μ) := by
  intro k k0 k1
  have e5 : rd_t0 μ 58 5 = μ 58 5 := by simp [rd_t0, rd_u]
  rw [e5] at k1
  rw [rd_t0_lo μ (by decide)]
  exact ht k k0 k1
theorem rd_t1_ts {μ : rd_Mem} (hw : sp_wf μ) (hth : sp_th μ (μ 58 0)) (ht : sp_ts μ) : sp_ts (rd_t1 μ) := by
  unfold rd_t1
  by_cases h : sp_mv (rd_t0 μ)
  · rw [sp_ite_t h]; exact rd_gf_ts (rd_t0_wf hw hth).1 (rd_t0_ts ht)
  · rw [sp_ite_f h]; exact rd_t0_ts ht
theorem rd_t1_lo (μ : rd_Mem) {a : Int} (h : a < 58 ∨ 61 < a) : rd_t1 μ a = μ a := by
  unfold rd_t1
  by_cases hm : sp_mv (rd_t0 μ)
  · rw [sp_ite_t hm, rd_gf_lo _ h, rd_t0_lo μ (by omega)]
  · rw [sp_ite_f hm, rd_t0_lo μ (by omega)]
theorem rd_ps_wf (n : Nat) : ∀ {μ : rd_Mem}, sp_wf μ → sp_th μ (μ 58 0) → sp_ts μ → (sp_wf (rd_ps n μ) ∧ sp_ts (rd_ps n μ) ∧ sp_th (rd_ps n μ) (rd_ps n μ 58 0)) ∧ ∀ a : Int, a < 58 ∨ 61 < a → rd_ps n μ a = μ a := by
  induction n with
  | zero => intro μ h1 h2 h3; exact ⟨⟨h1, h3, h2⟩, fun _ _ => rfl⟩
  | succ n ih =>
    intro μ h1 h2 h3
    by_cases ho : sp_over μ
    · rw [(rd_ps_y (Or.inr ho)).1]; exact ⟨⟨h1, h3, h2⟩, fun _ _ => rfl⟩
    · rw [rd_ps_n (Nat.succ_pos n) ho]
      obtain ⟨g1, g2⟩ := rd_t1_wf h1 h2
      obtain ⟨k1, k2⟩ := ih g1 g2 (rd_t1_ts h1 h2 h3)
      exact ⟨k1, fun a ha => (k2 a ha).trans (rd_t1_lo μ ha)⟩
theorem rd_gb_s (μ : rd_Mem) : rd_gb μ 58 0 = μ 59 (sp_bp μ) ∧ rd_gb μ 58 1 = min (μ 60 (sp_bp μ)) (sp_FS μ (μ 59 (sp_bp μ))) ∧ rd_gb μ 58 2 = μ 61 (sp_bp μ) ∧ rd_gb μ 58 3 = μ 58 3 ∧ rd_gb μ 58 4 = 0 ∧ rd_gb μ 58 5 = sp_bp μ ∧ ∀ a : Int, a ≠ 58 → rd_gb μ a = μ a := by
  unfold rd_gb rd_ret
  refine ⟨?_, ?_, ?_, ?_, ?_, ?_, fun a ha => ?_⟩
  · simp [rd_u]
  · simp [rd_u]
  · simp [rd_u]
  · simp [rd_u]
  · simp [rd_u]
  · simp [rd_u]
  · repeat rw [rd_u_ne _ _ _ ha]
theorem rd_gb_wf {μ : rd_Mem} (hw : sp_wf μ) (ht : sp_ts μ) (hb : sp_bp μ ≠ -1) : sp_wf (rd_gb μ) ∧ sp_ts (rd_gb μ) := by
  obtain ⟨⟨hb0, hb1⟩, hb3⟩ := sp_bp_r hb hw.2.2.2.1.1
  obtain ⟨e0, e1, e2, e3, e4, e5, eo⟩ := rd_gb_s μ
  have h9 := sp_FS9 hw.2.1 hw.2.2.1 hb3.1.1.1 hb3.1.1.2
  have h0 : 0 ≤ sp_FS μ (μ 59 (sp_bp μ)) := sp_fs0 _ _ _
  have hst := ht _ hb0 hb1
  have h4 := hw.2.2.2.1
  refine ⟨sp_wf_c (fun a ha => eo a (by omega)) hw (by rw [e5]; omega) (by rw [e1]; omega), fun k k0 k1 => ?_⟩
  rw [e5] at k1
  rw [eo 60 (by decide)]
  exact ht k k0 (by omega)
theorem rd_mk_wf {μ : rd_Mem} (hw : sp_wf μ) (ht : sp_ts μ) {c q : Int} (hc : sp_can μ c q) : (sp_wf (rd_mk μ c q) ∧ sp_ts (rd_mk μ c q)) ∧ ∀ a : Int, a < 58 ∨ 61 < a → rd_mk μ c q a = μ a := by
  unfold rd_mk
  by_cases h1 : c = 102
  · rw [if_pos h1]; exact ⟨⟨(rd_gf_wf hw hc.1 (hc.2.2.1 h1)).1, rd_gf_ts hw ht⟩, fun a ha => rd_gf_lo μ ha⟩
  · rw [if_neg h1]
    by_cases h2 : c = 98
    · rw [if_pos h2]; exact ⟨rd_gb_wf hw ht (hc.2.2.2.1 h2), fun a ha => (rd_gb_s μ).2.2.2.2.2.2 a (by omega)⟩
    · rw [if_neg h2]
      by_cases h3 : c = 107
      · rw [if_pos h3]; exact ⟨⟨rd_mvt_wf hw _ _ (by omega), rd_mvt_ts hw ht _ _ _⟩, fun a ha => rd_mvt_lo μ _ _ _ ha⟩
      · rw [if_neg h3]
        obtain ⟨⟨k1, k2, -⟩, k3⟩ := rd_ps_wf q.toNat hw hc.1 ht
        exact ⟨⟨k1, k2⟩, k3⟩
/-- the moves made one after the other: how many, the memory, where it stopped (-1: all are made) -/
noncomputable def rd_rn : List (Int × Int × Int) → rd_Mem → Int → Int × rd_Mem × Int
  | [], μ, m => (m, μ, -1)
  | (i, c, q) :: r, μ, m => sp_ite (sp_can μ c q) (rd_rn r (rd_mk μ c q) (m + 1)) (m, μ, i)
theorem rd_rn_t {i c q m : Int} {r : List (Int × Int × Int)} {μ : rd_Mem} (h : sp_can μ c q) : rd_rn ((i, c, q) :: r) μ m = rd_rn r (rd_mk μ c q) (m + 1) := by
  show sp_ite _ _ _ = _
  rw [sp_ite_t h]
theorem rd_rn_f {i c q m : Int} {r : List (Int × Int × Int)} {μ : rd_Mem} (h : ¬ sp_can μ c q) : rd_rn ((i, c, q) :: r) μ m = (m, μ, i) := by
  show sp_ite _ _ _ = _
  rw [sp_ite_f h]
noncomputable def rd_tl (M : rd_Mem) (R f : Int) : rd_Mem := if f = -1 then M else rd_u (rd_u (rd_u (rd_u M 310 0 R) 310 1 f) 310 2 (sp_if (M 58 0 ≠ -1) (M 58 0) (-6))) 310 3 (sp_if (M 58 0 ≠ -1) (M 58 1) (-6))
set_option maxHeartbeats 4000000 in
set_option maxRecDepth 100000 in
theorem c_X9_run {l : Launch} {G : rd_G} {r : Nat} {μ : rd_Mem} (hI : sp_inv μ) (hT : sp_ts μ) : rd_M l G rd_kc 313 r yX9_run cX9_run 5 (some .int) (rd_rm 6 150) [rd_R 0] μ (fun v μ' => (sp_flt (μ 309) (μ 308 0).toNat 0 0 ≠ -6 ∧ v = some (rd_I (-3)) ∧ μ' = μ) ∨ (sp_flt (μ 309) (μ 308 0).toNat 0 0 = -6 ∧ v = some (rd_I (rd_rn (sp_mvs (μ 309) (μ 308 0) (μ 308 0).toNat 0) (rd_rpc (rd_keep μ)) 0).1) ∧ μ' = rd_tl (rd_rn (sp_mvs (μ 309) (μ 308 0) (μ 308 0).toNat 0) (rd_rpc (rd_keep μ)) 0).2.1 (rd_rn (sp_mvs (μ 309) (μ 308 0) (μ 308 0).toNat 0) (rd_rpc (rd_keep μ)) 0).1 (rd_rn (sp_mvs (μ 309) (μ 308 0) (μ 308 0).toNat 0) (rd_rpc (rd_keep μ)) 0).2.2)) := by
  refine rd_enter (by decide +kernel) (Nat.le_of_ble_eq_true rfl) [rd_R 0, rd_J, rd_J, rd_J, rd_J] rfl (fun p e s m args below meth c C => ?_)
  refine rd_W.rng (fun hM hL _ => ?_)
  have hl1 := hI.2.2.2.1.1.1
  have hl2 := hI.2.2.2.1.1.2
  refine rd_aload_n C dX9_run_0 rfl ?_
  refine rd_get C rd_g9_2 rf_X9_26 dX9_run_1 rd_b0 rd_k0 (x := rd_R (308)) rfl (fun _ => trivial) ?_
  refine rd_callV C (c_X5_findFault hI.2.2.2.1.1.1 hI.2.2.2.1.1.2 hI.2.2.2.1.2) rm_X9_185 ri_X5_findFault rs_X5_findFault rc_X5_findFault rz_X5 ⟨rp_X5_findFault, rfl, rfl, by decide, by decide⟩ rfl rd_kcl5 dX9_run_4 rd_b308 rd_k308 rfl (Nat.le_of_ble_eq_true rfl) (fun v1 w1 hq => ?_)
  obtain ⟨hv1, hm1⟩ := hq; rw [show v1 = some (rd_I (sp_flt (μ 309) (μ 308 0).toNat 0 0)) from hv1, hm1]; clear hv1 hm1
  refine rd_bipush C dX9_run_7 (n := -6) (by decide) ⟨by decide, by decide⟩ ?_
  refine rd_icmp_eq C dX9_run_9 (tgt := 15) (by decide) (fun h_9 => ?_) (fun h_9 => ?_)
  · refine rd_aload_n C dX9_run_15 rfl ?_
    refine rd_get C rd_g9_1 rf_X9_19 dX9_run_16 rd_b0 rd_k0 (x := rd_R (62)) rfl (fun _ => trivial) ?_
    refine rd_aload_n C dX9_run_19 rfl ?_
    refine rd_get C rd_g9_0 rf_X9_10 dX9_run_20 rd_b0 rd_k0 (x := rd_R (1)) rfl (fun _ => trivial) ?_
    refine rd_callV C (c_X2_keep hI.2.2.1.1 hI.2.2.1.2.1.1 hI.2.2.1.2.1.2 hI.2.1) rm_X9_54 ri_X2_keep rs_X2_keep rc_X2_keep rz_X2 ⟨rp_X2_keep, rfl, rfl, by decide, by decide⟩ rfl rd_kcl2 dX9_run_23 rd_b62 rd_k62 rfl (Nat.le_of_ble_eq_true rfl) (fun v1 w1 hq => ?_)
    obtain ⟨hv1, hm1⟩ := hq; rw [hv1, show w1 = rd_keep μ from hm1]; clear hv1 hm1
    have hkl : ∀ a : Int, a < 62 ∨ 308 ≤ a → rd_keep μ a = μ a := fun a ha => rd_keep_lo hI.2.2.1 ha
    have hk62 : ∀ a : Int, a < 62 → rd_keep μ a = μ a := fun a ha => hkl a (Or.inl ha)
    have hkw := sp_wf_k hI hk62
    refine rd_aload_n C dX9_run_26 rfl ?_
    refine rd_get C rd_g9_3 rf_X9_33 dX9_run_27 rd_b0 rd_k0 (x := rd_R (310)) rfl (fun _ => trivial) ?_
    refine rd_callV C (c_X4_clear) rm_X9_188 ri_X4_clear rs_X4_clear rc_X4_clear rz_X4 ⟨rp_X4_clear, rfl, rfl, by decide, by decide⟩ rfl rd_kcl4 dX9_run_30 rd_b310 rd_k310 rfl (Nat.le_of_ble_eq_true rfl) (fun v1 w1 hq => ?_)
    obtain ⟨hv1, hm1⟩ := hq; rw [hv1, show w1 = rd_rpc (rd_keep μ) from hm1]; clear hv1 hm1
    have hrl : ∀ a : Int, a ≠ 310 → rd_rpc (rd_keep μ) a = rd_keep μ a := fun a ha => by unfold rd_rpc; repeat rw [rd_u_ne _ _ _ ha]
    have hrw : sp_wf (rd_rpc (rd_keep μ)) := sp_wf_c (fun a ha => hrl a (by omega)) hkw (by rw [hrl 58 (by decide)]; exact hkw.2.2.2.1) (by rw [hrl 58 (by decide)]; exact hkw.2.2.2.2)
    have hrt : sp_ts (rd_rpc (rd_keep μ)) := by
      intro k k0 k1
      rw [hrl 58 (by decide), hkl 58 (by omega)] at k1
      rw [hrl 60 (by decide), hkl 60 (by omega)]
      exact hT k k0 k1
    refine rd_iconst C dX9_run_33 (n := 0) ⟨by decide, by decide⟩ ?_
    refine rd_istore_n C dX9_run_34 (by decide) (L' := [rd_R 0, rd_I 0, rd_J, rd_J, rd_J]) rfl ?_
    refine rd_iconst C dX9_run_35 (n := 0) ⟨by decide, by decide⟩ ?_
    refine rd_istore_n C dX9_run_36 (by decide) (L' := [rd_R 0, rd_I 0, rd_I 0, rd_J, rd_J]) rfl ?_
    have lp37 : ∀ (n : Nat) (i0 x : Int) (j3 j4 : rd_X) (μ1 : rd_Mem), (0 ≤ i0) → (i0 ≤ μ 308 0) → (μ 308 0 < i0 + n) → (0 ≤ x ∧ x ≤ i0) → (rd_rn (sp_mvs (μ 309) (μ 308 0) (μ 308 0).toNat 0) (rd_rpc (rd_keep μ)) 0 = rd_rn (sp_mvs (μ 309) (μ 308 0) (μ 308 0 - i0).toNat i0) μ1 x) → (sp_wf μ1) → (sp_ts μ1) → (μ1 308 0 = μ 308 0) → (μ1 309 = μ 309) → rd_W p l e (rd_rm 6 150) s m args below meth c (MQ below (rd_Qc G rd_kc 313 r (fun v μ' => (sp_flt (μ 309) (μ 308 0).toNat 0 0 ≠ -6 ∧ v = some (rd_I (-3)) ∧ μ' = μ) ∨ (sp_flt (μ 309) (μ 308 0).toNat 0 0 = -6 ∧ v = some (rd_I (rd_rn (sp_mvs (μ 309) (μ 308 0) (μ 308 0).toNat 0) (rd_rpc (rd_keep μ)) 0).1) ∧ μ' = rd_tl (rd_rn (sp_mvs (μ 309) (μ 308 0) (μ 308 0).toNat 0) (rd_rpc (rd_keep μ)) 0).2.1 (rd_rn (sp_mvs (μ 309) (μ 308 0) (μ 308 0).toNat 0) (rd_rpc (rd_keep μ)) 0).1 (rd_rn (sp_mvs (μ 309) (μ 308 0) (μ 308 0).toNat 0) (rd_rpc (rd_keep μ)) 0).2.2))) args s 0 0 (rd_A r 313)) 5 G rd_kc 313 r 37 [rd_R 0, rd_I x, rd_I i0, j3, j4] [] μ1 := by
      intro n
      induction n with
      | zero => intro i0 x j3 j4 μ1  g0 g1 g2 gx hR hw1 ht1 h308 h309; exfalso; omega
      | succ n ih =>
        intro i0 x j3 j4 μ1  g0 g1 g2 gx hR hw1 ht1 h308 h309
        have hch1 : sp_chs μ1 := by
          intro j j0 j1
          rw [h308] at j1
          rw [h309]
          exact hI.2.2.2.1.2 j j0 j1
        refine rd_iload_n C dX9_run_37 rfl ?_
        refine rd_aload_n C dX9_run_38 rfl ?_
        refine rd_get C rd_g9_2 rf_X9_26 dX9_run_39 rd_b0 rd_k0 (x := rd_R (308)) rfl (fun _ => trivial) ?_
        refine rd_get C rd_g5_0 rf_X9_178 dX9_run_42 rd_b308 rd_k308 (x := rd_I (μ1 308 0)) rfl (fun h => h _ _) ?_
        refine rd_icmp_ge C dX9_run_45 (tgt := 127) (by decide) (fun h_45 => ?_) (fun h_45 => ?_)
        · refine rd_iload_n C dX9_run_127 rfl ?_
          exact rd_iret C dX9_run_128 (Or.inr ⟨h_9, by rw [hR, show (μ 308 0 - i0).toNat = 0 by omega]; rfl, by rw [hR, show (μ 308 0 - i0).toNat = 0 by omega]; show _ = rd_tl μ1 x (-1); unfold rd_tl; rw [if_pos rfl]⟩)
        · refine rd_aload_n C dX9_run_48 rfl ?_
          refine rd_get C rd_g9_2 rf_X9_26 dX9_run_49 rd_b0 rd_k0 (x := rd_R (308)) rfl (fun _ => trivial) ?_
          refine rd_iload_n C dX9_run_52 rfl ?_
          refine rd_callV C (c_X5_signAt (by omega) (by omega) hch1) rm_X9_189 ri_X5_signAt rs_X5_signAt rc_X5_signAt rz_X5 ⟨rp_X5_signAt, rfl, rfl, by decide, by decide⟩ rfl rd_kcl5 dX9_run_53 rd_b308 rd_k308 rfl (Nat.le_of_ble_eq_true rfl) (fun v1 w1 hq => ?_)
          obtain ⟨hv1, hm1⟩ := hq; rw [hv1, hm1, sp_ift ⟨by omega, by omega⟩, h309]; clear hv1 hm1
          refine rd_istore_n C dX9_run_56 (by decide) (L' := [rd_R 0, rd_I x, rd_I i0, rd_I (μ 309 i0), j4]) rfl ?_
          refine rd_iload_n C dX9_run_57 rfl ?_
          refine rd_callS C (c_X5_isMove) rm_X9_193 rt_X5_isMove rc_X5_isMove rz_X5 ⟨rp_X5_isMove, rfl, rfl, by decide, by decide⟩ rfl dX9_run_58 rfl (Nat.le_of_ble_eq_true rfl) (fun v1 w1 hq => ?_)
          rcases hq with ⟨hw_61, hv1, hm1⟩ | ⟨hw_61, hv1, hm1⟩
          · rw [hv1, hm1]; clear hv1 hm1 v1 w1
            refine rd_if_ne C dX9_run_61 (tgt := 67) (by decide) (fun _ => ?_) (fun h => absurd h (by decide))
            refine rd_aload_n C dX9_run_67 rfl ?_
            refine rd_get C rd_g9_2 rf_X9_26 dX9_run_68 rd_b0 rd_k0 (x := rd_R (308)) rfl (fun _ => trivial) ?_
            refine rd_iload_n C dX9_run_71 rfl ?_
            refine rd_callV C (c_X5_numberBehind (by omega) (by omega) hch1 (by omega) (by omega)) rm_X9_197 ri_X5_numberBehind rs_X5_numberBehind rc_X5_numberBehind rz_X5 ⟨rp_X5_numberBehind, rfl, rfl, by decide, by decide⟩ rfl rd_kcl5 dX9_run_72 rd_b308 rd_k308 rfl (Nat.le_of_ble_eq_true rfl) (fun v1 w1 hq => ?_)
            obtain ⟨hv1, hm1⟩ := hq; rw [hv1, hm1, h309, h308]; clear hv1 hm1
            refine rd_istore C dX9_run_75 (by decide) (L' := [rd_R 0, rd_I x, rd_I i0, rd_I (μ 309 i0), rd_I (sp_nb (μ 309) (μ 308 0 - (i0 + 1)).toNat (i0 + 1) 0)]) rfl ?_
            refine rd_aload_n C dX9_run_77 rfl ?_
            refine rd_get C rd_g9_0 rf_X9_10 dX9_run_78 rd_b0 rd_k0 (x := rd_R (1)) rfl (fun _ => trivial) ?_
            refine rd_iload_n C dX9_run_81 rfl ?_
            refine rd_iload C dX9_run_82 rfl ?_
            refine rd_callV C (c_X8_canMake hw1) rm_X9_164 ri_X8_canMake rs_X8_canMake rc_X8_canMake rz_X8 ⟨rp_X8_canMake, rfl, rfl, by decide, by decide⟩ rfl rd_kcl8 dX9_run_84 rd_b1 rd_k1 rfl (Nat.le_of_ble_eq_true rfl) (fun v1 w1 hq => ?_)
            rcases hq with ⟨hw_87, hv1, hm1⟩ | ⟨hw_87, hv1, hm1⟩
            · rw [hv1, hm1]; clear hv1 hm1 v1 w1
              refine rd_if_ne C dX9_run_87 (tgt := 108) (by decide) (fun _ => ?_) (fun h => absurd h (by decide))
              refine rd_aload_n C dX9_run_108 rfl ?_
              refine rd_get C rd_g9_0 rf_X9_10 dX9_run_109 rd_b0 rd_k0 (x := rd_R (1)) rfl (fun _ => trivial) ?_
              refine rd_iload_n C dX9_run_112 rfl ?_
              refine rd_iload C dX9_run_113 rfl ?_
              refine rd_callV C (c_X8_make hw1 hw_87) rm_X9_168 ri_X8_make rs_X8_make rc_X8_make rz_X8 ⟨rp_X8_make, rfl, rfl, by decide, by decide⟩ rfl rd_kcl8 dX9_run_115 rd_b1 rd_k1 rfl (Nat.le_of_ble_eq_true rfl) (fun v1 w1 hq => ?_)
              obtain ⟨hv1, hm1⟩ := hq; rw [hv1, show w1 = rd_mk μ1 (μ 309 i0) (sp_nb (μ 309) (μ 308 0 - (i0 + 1)).toNat (i0 + 1) 0) from hm1]; clear hv1 hm1
              refine rd_iinc C dX9_run_118 (by decide) rfl ⟨by omega, by omega⟩ (L' := [rd_R 0, rd_I (x + 1), rd_I i0, rd_I (μ 309 i0), rd_I (sp_nb (μ 309) (μ 308 0 - (i0 + 1)).toNat (i0 + 1) 0)]) rfl ?_
              refine rd_iinc C dX9_run_121 (by decide) rfl ⟨by omega, by omega⟩ (L' := [rd_R 0, rd_I (x + 1), rd_I (i0 + 1), rd_I (μ 309 i0), rd_I (sp_nb (μ 309) (μ 308 0 - (i0 + 1)).toNat (i0 + 1) 0)]) rfl ?_
              refine rd_goto C dX9_run_124 (tgt := 37) (by decide) ?_
              obtain ⟨⟨k1, k2⟩, k3⟩ := rd_mk_wf hw1 ht1 hw_87
              exact ih (i0 + 1) _ _ _ _ (by omega) (by omega) (by omega) (by omega) (by rw [hR, sp_mv_c (by omega) hw_61]; rw [rd_rn_t hw_87]) k1 k2 (by rw [k3 308 (by omega)]; exact h308) (by rw [k3 309 (by omega)]; exact h309)
            · rw [hv1, hm1]; clear hv1 hm1 v1 w1
              refine rd_if_ne C dX9_run_87 (tgt := 108) (by decide) (fun h => absurd h (by decide)) (fun _ => ?_)
              refine rd_aload_n C dX9_run_90 rfl ?_
              refine rd_get C rd_g9_3 rf_X9_33 dX9_run_91 rd_b0 rd_k0 (x := rd_R (310)) rfl (fun _ => trivial) ?_
              refine rd_iload_n C dX9_run_94 rfl ?_
              refine rd_iload_n C dX9_run_95 rfl ?_
              refine rd_aload_n C dX9_run_96 rfl ?_
              refine rd_get C rd_g9_0 rf_X9_10 dX9_run_97 rd_b0 rd_k0 (x := rd_R (1)) rfl (fun _ => trivial) ?_
              refine rd_get C rd_g8_3 rf_X9_66 dX9_run_100 rd_b1 rd_k1 (x := rd_R (58)) rfl (fun _ => trivial) ?_
              refine rd_callV C (c_X4_tell) rm_X9_200 ri_X4_tell rs_X4_tell rc_X4_tell rz_X4 ⟨rp_X4_tell, rfl, rfl, by decide, by decide⟩ rfl rd_kcl4 dX9_run_103 rd_b310 rd_k310 rfl (Nat.le_of_ble_eq_true rfl) (fun v1 w1 hq => ?_)
              obtain ⟨hv1, hm1⟩ := hq; rw [hv1, show w1 = rd_u (rd_u (rd_u (rd_u μ1 310 0 x) 310 1 i0) 310 2 (sp_if (μ1 58 0 ≠ -1) (μ1 58 0) (-6))) 310 3 (sp_if (μ1 58 0 ≠ -1) (μ1 58 1) (-6)) from hm1]; clear hv1 hm1
              refine rd_iload_n C dX9_run_106 rfl ?_
              exact rd_iret C dX9_run_107 (Or.inr ⟨h_9, by rw [hR, sp_mv_c (by omega) hw_61]; rw [rd_rn_f hw_87], by rw [hR, sp_mv_c (by omega) hw_61]; rw [rd_rn_f hw_87]; unfold rd_tl; rw [if_neg (show ¬ i0 = -1 by omega)]⟩)
          · rw [hv1, hm1]; clear hv1 hm1 v1 w1
            refine rd_if_ne C dX9_run_61 (tgt := 67) (by decide) (fun h => absurd h (by decide)) (fun _ => ?_)
            refine rd_goto C dX9_run_64 (tgt := 121) (by decide) ?_
            refine rd_iinc C dX9_run_121 (by decide) rfl ⟨by omega, by omega⟩ (L' := [rd_R 0, rd_I x, rd_I (i0 + 1), rd_I (μ 309 i0), j4]) rfl ?_
            refine rd_goto C dX9_run_124 (tgt := 37) (by decide) ?_
            exact ih (i0 + 1) _ _ _ _ (by omega) (by omega) (by omega) (by omega) (by rw [hR, sp_mv_s (by omega) hw_61]) hw1 ht1 h308 h309
    exact lp37 ((μ 308 0).toNat + 1) 0 0 _ _ _ (by omega) (by omega) (by omega) (by omega) (by rw [show μ 308 0 - 0 = μ 308 0 by omega]) hrw hrt (by rw [hrl 308 (by decide), hkl 308 (by omega)]) (by rw [hrl 309 (by decide), hkl 309 (by omega)])
  · refine rd_bipush C dX9_run_12 (n := -3) (by decide) ⟨by decide, by decide⟩ ?_
    exact rd_iret C dX9_run_14 (Or.inl ⟨h_9, rfl, rfl⟩)
