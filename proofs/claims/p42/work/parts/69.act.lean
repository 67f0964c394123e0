/-! the law's deeds -/
noncomputable def pf_act (π : rd_Mem) (x0 y0 : Int) : Int × rd_Mem := if pv_slides π < 2 then pf_addSlide π else (if pu x0 32 ≤ 0 then pf_addSlide π else (if pu x0 32 ≤ 1 then (if pu_n y0 1 = 0 then pf_removeSlide π (pv_slideAt π (pu y0 (pv_slides π))) else pf_moveSlide π (pv_slideAt π (pu y0 (pv_slides π))) (pu (pu_s y0 5) (pv_slides π))) else (if pu x0 32 ≤ 2 then pf_hide π (pv_slideAt π (pu y0 (pv_slides π))) (if pu_n (pu_s y0 4) 1 = 0 then 1 else 0) else (if pu x0 32 ≤ 4 then pf_setPause π (pv_slideAt π (pu y0 (pv_slides π))) (pu (pu_s y0 5) 12) else (if pu x0 32 ≤ 7 then pf_addItem π (pv_slideAt π (pu y0 (pv_slides π))) (pu (pu_s y0 8) 5) (if pu_n (pu_s y0 12) 1 = 0 then -1 else (pu (pu_s y0 8) 5) + pu (pu_s y0 13) (10 - (pu (pu_s y0 8) 5))) (pu (pu_s y0 7) 100) else (if pu x0 32 ≤ 8 then pf_removeItem π (pv_slideAt π (pu y0 (pv_slides π))) (pu (pu_s y0 5) 6) else (if pu x0 32 ≤ 10 then pf_link π (pv_slideAt π (pu y0 (pv_slides π))) (pu (pu_s y0 8) 4) (pv_slideAt π (pu (pu_s y0 4) (pv_slides π))) else (if pu x0 32 ≤ 11 then pf_unlink π (pv_slideAt π (pu y0 (pv_slides π))) (pu (pu_s y0 8) 4) else (if pu x0 32 ≤ 12 then pf_note π (pu y0 60) (pu (pu_s y0 6) 101 - 1) else (if pu x0 32 ≤ 13 then pf_setEnd π (if pu_n y0 3 ≤ 0 then pu (pu_s y0 2) 300 else 0) else (if pu x0 32 ≤ 14 then (if pu_n y0 3 = 0 then pf_stop π else pf_start π) else (if pu x0 32 ≤ 17 then pf_back π else (if pu x0 32 ≤ 20 then pf_press π (pu y0 4) else (if pu x0 32 ≤ 23 then pf_tick π (1 + pu y0 (if pu_n (pu_s y0 9) 3 = 0 then 99 else 10)) else (if pv_now π 0 < 0 then pf_start π else pf_forward π)))))))))))))))
theorem pf_act_c {μ π μ' : rd_Mem} {l : List rd_Mem} {x0 y0 : Int} {z : Int × rd_Mem} (e : pf_act π x0 y0 = z) (h : pg_T μ π l μ' z.2 (some (rd_I z.1))) : some (rd_I z.1) = some (rd_I (pf_act π x0 y0).1) ∧ pg_T μ π l μ' (pf_act π x0 y0).2 (some (rd_I z.1)) := by
  rw [e]; exact ⟨rfl, h⟩
set_option maxHeartbeats 4000000 in
set_option maxRecDepth 100000 in
theorem c_L_act {l : Launch} {G : rd_G} {r : Nat} {μ : rd_Mem} {π : rd_Mem} {lh : List rd_Mem} (hS : pg_S μ π lh) {x0 y0 : Int} : rd_M l G rd_kc 313 r yL_act cL_act 7 (some .int) (rd_rm 7 171) [rd_R 0, rd_I x0, rd_I y0] μ (fun v μ' => v = some (rd_I (pf_act π x0 y0).1) ∧ pg_T μ π lh μ' (pf_act π x0 y0).2 v) := by
  refine rd_enter (by decide +kernel) (Nat.le_of_ble_eq_true rfl) [rd_R 0, rd_I x0, rd_I y0, rd_J, rd_J, rd_J, rd_J] rfl (fun p e s m args below meth c C => ?_)
  refine rd_W.rng (fun hM hL _ => ?_)
  refine rd_aload_n C dL_act_0 rfl ?_
  refine rd_callV C (kq_slides hS) rm_L_13 ri_X9_slides rs_X9_slides rc_X9_slides rz_X9 ⟨rp_X9_slides, rfl, rfl, by decide, by decide⟩ rfl rd_kcl9 dL_act_1 rd_b0 rd_k0 rfl (Nat.le_of_ble_eq_true rfl) (fun v1 w1 hq => ?_)
  obtain ⟨hv1, hm1⟩ := hq; rw [hv1, hm1]; clear hv1 hm1 v1 w1
  refine rd_istore_n C dL_act_4 (by decide) (L' := [rd_R 0, rd_I x0, rd_I y0, rd_I (pv_slides π), rd_J, rd_J, rd_J]) rfl ?_
  refine rd_iload_n C dL_act_5 rfl ?_
  refine rd_iconst C dL_act_6 (n := 2) ⟨by decide, by decide⟩ ?_
  refine rd_icmp_ge C dL_act_7 (tgt := 15) (by decide) (fun h_7 => ?_) (fun h_7 => ?_)
  · refine rd_aload_n C dL_act_15 rfl ?_
    refine rd_iload_n C dL_act_16 rfl ?_
    refine rd_iload_n C dL_act_17 rfl ?_
    refine rd_callS C (c_L_up (by omega)) rm_L_49 rt_L_up rc_L_up rz_L ⟨rp_L_up, rfl, rfl, by decide, by decide⟩ rfl dL_act_18 rfl (Nat.le_of_ble_eq_true rfl) (fun v1 w1 hq => ?_)
    obtain ⟨hv1, hm1⟩ := hq; rw [hv1, hm1]; clear hv1 hm1 v1 w1
    have hu_21 := pu_r y0 (n := pv_slides π) (by omega)
    refine rd_callV C (kq_slideAt hS) rm_L_31 ri_X9_slideAt rs_X9_slideAt rc_X9_slideAt rz_X9 ⟨rp_X9_slideAt, rfl, rfl, by decide, by decide⟩ rfl rd_kcl9 dL_act_21 rd_b0 rd_k0 rfl (Nat.le_of_ble_eq_true rfl) (fun v1 w1 hq => ?_)
    obtain ⟨hv1, hm1⟩ := hq; rw [hv1, hm1]; clear hv1 hm1 v1 w1
    refine rd_istore C dL_act_24 (by decide) (L' := [rd_R 0, rd_I x0, rd_I y0, rd_I (pv_slides π), rd_I (pv_slideAt π (pu y0 (pv_slides π))), rd_J, rd_J]) rfl ?_
    refine rd_aload_n C dL_act_26 rfl ?_
    refine rd_iload_n C dL_act_27 rfl ?_
    refine rd_iconst C dL_act_28 (n := 4) ⟨by decide, by decide⟩ ?_
    refine rd_ishr C dL_act_29 (z := pu_s y0 4) (pu_t _) (pu_to _) ?_
    refine rd_iload_n C dL_act_30 rfl ?_
    refine rd_callS C (c_L_up (by omega)) rm_L_49 rt_L_up rc_L_up rz_L ⟨rp_L_up, rfl, rfl, by decide, by decide⟩ rfl dL_act_31 rfl (Nat.le_of_ble_eq_true rfl) (fun v1 w1 hq => ?_)
    obtain ⟨hv1, hm1⟩ := hq; rw [hv1, hm1]; clear hv1 hm1 v1 w1
    have hu_34 := pu_r (pu_s y0 4) (n := pv_slides π) (by omega)
    refine rd_callV C (kq_slideAt hS) rm_L_31 ri_X9_slideAt rs_X9_slideAt rc_X9_slideAt rz_X9 ⟨rp_X9_slideAt, rfl, rfl, by decide, by decide⟩ rfl rd_kcl9 dL_act_34 rd_b0 rd_k0 rfl (Nat.le_of_ble_eq_true rfl) (fun v1 w1 hq => ?_)
    obtain ⟨hv1, hm1⟩ := hq; rw [hv1, hm1]; clear hv1 hm1 v1 w1
    refine rd_istore C dL_act_37 (by decide) (L' := [rd_R 0, rd_I x0, rd_I y0, rd_I (pv_slides π), rd_I (pv_slideAt π (pu y0 (pv_slides π))), rd_I (pv_slideAt π (pu (pu_s y0 4) (pv_slides π))), rd_J]) rfl ?_
    refine rd_iload_n C dL_act_39 rfl ?_
    refine rd_bipush C dL_act_40 (n := 8) (by decide) ⟨by decide, by decide⟩ ?_
    refine rd_ishr C dL_act_42 (z := pu_s y0 8) (pu_t _) (pu_to _) ?_
    refine rd_iconst C dL_act_43 (n := 5) ⟨by decide, by decide⟩ ?_
    refine rd_callS C (c_L_up (by omega)) rm_L_49 rt_L_up rc_L_up rz_L ⟨rp_L_up, rfl, rfl, by decide, by decide⟩ rfl dL_act_44 rfl (Nat.le_of_ble_eq_true rfl) (fun v1 w1 hq => ?_)
    obtain ⟨hv1, hm1⟩ := hq; rw [hv1, hm1]; clear hv1 hm1 v1 w1
    have hu_47 := pu_r (pu_s y0 8) (n := 5) (by omega)
    refine rd_istore C dL_act_47 (by decide) (L' := [rd_R 0, rd_I x0, rd_I y0, rd_I (pv_slides π), rd_I (pv_slideAt π (pu y0 (pv_slides π))), rd_I (pv_slideAt π (pu (pu_s y0 4) (pv_slides π))), rd_I (pu (pu_s y0 8) 5)]) rfl ?_
    refine rd_iload_n C dL_act_49 rfl ?_
    refine rd_bipush C dL_act_50 (n := 32) (by decide) ⟨by decide, by decide⟩ ?_
    refine rd_callS C (c_L_up (by omega)) rm_L_49 rt_L_up rc_L_up rz_L ⟨rp_L_up, rfl, rfl, by decide, by decide⟩ rfl dL_act_52 rfl (Nat.le_of_ble_eq_true rfl) (fun v1 w1 hq => ?_)
    obtain ⟨hv1, hm1⟩ := hq; rw [hv1, hm1]; clear hv1 hm1 v1 w1
    have hu_55 := pu_r x0 (n := 32) (by omega)
    have h_55 : (pu x0 32) = 0 ∨ (pu x0 32) = 1 ∨ (pu x0 32) = 2 ∨ (pu x0 32) = 3 ∨ (pu x0 32) = 4 ∨ (pu x0 32) = 5 ∨ (pu x0 32) = 6 ∨ (pu x0 32) = 7 ∨ (pu x0 32) = 8 ∨ (pu x0 32) = 9 ∨ (pu x0 32) = 10 ∨ (pu x0 32) = 11 ∨ (pu x0 32) = 12 ∨ (pu x0 32) = 13 ∨ (pu x0 32) = 14 ∨ (pu x0 32) = 15 ∨ (pu x0 32) = 16 ∨ (pu x0 32) = 17 ∨ (pu x0 32) = 18 ∨ (pu x0 32) = 19 ∨ (pu x0 32) = 20 ∨ (pu x0 32) = 21 ∨ (pu x0 32) = 22 ∨ (pu x0 32) = 23 ∨ ((pu x0 32) < 0 ∨ 23 < (pu x0 32)) := by omega
    rcases h_55 with h_55 | h_55 | h_55 | h_55 | h_55 | h_55 | h_55 | h_55 | h_55 | h_55 | h_55 | h_55 | h_55 | h_55 | h_55 | h_55 | h_55 | h_55 | h_55 | h_55 | h_55 | h_55 | h_55 | h_55 | h_55
    · refine rd_swIn C dL_act_55 (by omega) (by omega) (off := 109) (by rw [h_55]; rfl) (tgt := 164) (by decide) ?_
      refine rd_aload_n C dL_act_164 rfl ?_
      refine rd_callV C (kq_addSlide hS) rm_L_46 ri_X9_addSlide rs_X9_addSlide rc_X9_addSlide rz_X9 ⟨rp_X9_addSlide, rfl, rfl, by decide, by decide⟩ rfl rd_kcl9 dL_act_165 rd_b0 rd_k0 rfl (Nat.le_of_ble_eq_true rfl) (fun v1 w1 hq => ?_)
      obtain ⟨hv1, hm1⟩ := hq; subst hv1
      exact rd_iret C dL_act_168 (pf_act_c (z := pf_addSlide π) (by unfold pf_act; rw [if_neg (by omega), if_pos (by omega)]) hm1)
    · refine rd_swIn C dL_act_55 (by omega) (by omega) (off := 114) (by rw [h_55]; rfl) (tgt := 169) (by decide) ?_
      refine rd_iload_n C dL_act_169 rfl ?_
      refine rd_iconst C dL_act_170 (n := 1) ⟨by decide, by decide⟩ ?_
      refine rd_iand C dL_act_171 (z := pu_n y0 1) (pu_t _) (pu_to _) ?_
      refine rd_if_ne C dL_act_172 (tgt := 184) (by decide) (fun h_172 => ?_) (fun h_172 => ?_)
      · refine rd_aload_n C dL_act_184 rfl ?_
        refine rd_iload C dL_act_185 rfl ?_
        refine rd_iload_n C dL_act_187 rfl ?_
        refine rd_iconst C dL_act_188 (n := 5) ⟨by decide, by decide⟩ ?_
        refine rd_ishr C dL_act_189 (z := pu_s y0 5) (pu_t _) (pu_to _) ?_
        refine rd_iload_n C dL_act_190 rfl ?_
        refine rd_callS C (c_L_up (by omega)) rm_L_49 rt_L_up rc_L_up rz_L ⟨rp_L_up, rfl, rfl, by decide, by decide⟩ rfl dL_act_191 rfl (Nat.le_of_ble_eq_true rfl) (fun v1 w1 hq => ?_)
        obtain ⟨hv1, hm1⟩ := hq; rw [hv1, hm1]; clear hv1 hm1 v1 w1
        have hu_194 := pu_r (pu_s y0 5) (n := pv_slides π) (by omega)
        refine rd_callV C (kq_moveSlide hS) rm_L_57 ri_X9_moveSlide rs_X9_moveSlide rc_X9_moveSlide rz_X9 ⟨rp_X9_moveSlide, rfl, rfl, by decide, by decide⟩ rfl rd_kcl9 dL_act_194 rd_b0 rd_k0 rfl (Nat.le_of_ble_eq_true rfl) (fun v1 w1 hq => ?_)
        obtain ⟨hv1, hm1⟩ := hq; subst hv1
        exact rd_iret C dL_act_197 (pf_act_c (z := pf_moveSlide π (pv_slideAt π (pu y0 (pv_slides π))) (pu (pu_s y0 5) (pv_slides π))) (by unfold pf_act; rw [if_neg (by omega), if_neg (by omega), if_pos (by omega)]; rw [if_neg (by omega)]) hm1)
      · refine rd_aload_n C dL_act_175 rfl ?_
        refine rd_iload C dL_act_176 rfl ?_
        refine rd_callV C (kq_removeSlide hS) rm_L_54 ri_X9_removeSlide rs_X9_removeSlide rc_X9_removeSlide rz_X9 ⟨rp_X9_removeSlide, rfl, rfl, by decide, by decide⟩ rfl rd_kcl9 dL_act_178 rd_b0 rd_k0 rfl (Nat.le_of_ble_eq_true rfl) (fun v1 w1 hq => ?_)
        obtain ⟨hv1, hm1⟩ := hq; subst hv1
        refine rd_goto C dL_act_181 (tgt := 197) (by decide) ?_
        exact rd_iret C dL_act_197 (pf_act_c (z := pf_removeSlide π (pv_slideAt π (pu y0 (pv_slides π)))) (by unfold pf_act; rw [if_neg (by omega), if_neg (by omega), if_pos (by omega)]; rw [if_pos (by omega)]) hm1)
    · refine rd_swIn C dL_act_55 (by omega) (by omega) (off := 143) (by rw [h_55]; rfl) (tgt := 198) (by decide) ?_
      refine rd_aload_n C dL_act_198 rfl ?_
      refine rd_iload C dL_act_199 rfl ?_
      refine rd_iload_n C dL_act_201 rfl ?_
      refine rd_iconst C dL_act_202 (n := 4) ⟨by decide, by decide⟩ ?_
      refine rd_ishr C dL_act_203 (z := pu_s y0 4) (pu_t _) (pu_to _) ?_
      refine rd_iconst C dL_act_204 (n := 1) ⟨by decide, by decide⟩ ?_
      refine rd_iand C dL_act_205 (z := pu_n (pu_s y0 4) 1) (pu_t _) (pu_to _) ?_
      refine rd_if_ne C dL_act_206 (tgt := 213) (by decide) (fun h_206 => ?_) (fun h_206 => ?_)
      · refine rd_iconst C dL_act_213 (n := 0) ⟨by decide, by decide⟩ ?_
        refine rd_callV C (kq_hide hS (by first | exact Or.inr rfl | exact Or.inl rfl)) rm_L_60 ri_X9_hide rs_X9_hide rc_X9_hide rz_X9 ⟨rp_X9_hide, rfl, rfl, by decide, by decide⟩ rfl rd_kcl9 dL_act_214 rd_b0 rd_k0 rfl (Nat.le_of_ble_eq_true rfl) (fun v1 w1 hq => ?_)
        obtain ⟨hv1, hm1⟩ := hq; subst hv1
        exact rd_iret C dL_act_217 (pf_act_c (z := pf_hide π (pv_slideAt π (pu y0 (pv_slides π))) 0) (by unfold pf_act; rw [if_neg (by omega), if_neg (by omega), if_neg (by omega), if_pos (by omega)]; rw [if_neg (by omega)]) hm1)
      · refine rd_iconst C dL_act_209 (n := 1) ⟨by decide, by decide⟩ ?_
        refine rd_goto C dL_act_210 (tgt := 214) (by decide) ?_
        refine rd_callV C (kq_hide hS (by first | exact Or.inr rfl | exact Or.inl rfl)) rm_L_60 ri_X9_hide rs_X9_hide rc_X9_hide rz_X9 ⟨rp_X9_hide, rfl, rfl, by decide, by decide⟩ rfl rd_kcl9 dL_act_214 rd_b0 rd_k0 rfl (Nat.le_of_ble_eq_true rfl) (fun v1 w1 hq => ?_)
        obtain ⟨hv1, hm1⟩ := hq; subst hv1
        exact rd_iret C dL_act_217 (pf_act_c (z := pf_hide π (pv_slideAt π (pu y0 (pv_slides π))) 1) (by unfold pf_act; rw [if_neg (by omega), if_neg (by omega), if_neg (by omega), if_pos (by omega)]; rw [if_pos (by omega)]) hm1)
    · refine rd_swIn C dL_act_55 (by omega) (by omega) (off := 163) (by rw [h_55]; rfl) (tgt := 218) (by decide) ?_
      refine rd_aload_n C dL_act_218 rfl ?_
      refine rd_iload C dL_act_219 rfl ?_
      refine rd_iload_n C dL_act_221 rfl ?_
      refine rd_iconst C dL_act_222 (n := 5) ⟨by decide, by decide⟩ ?_
      refine rd_ishr C dL_act_223 (z := pu_s y0 5) (pu_t _) (pu_to _) ?_
      refine rd_bipush C dL_act_224 (n := 12) (by decide) ⟨by decide, by decide⟩ ?_
      refine rd_callS C (c_L_up (by omega)) rm_L_49 rt_L_up rc_L_up rz_L ⟨rp_L_up, rfl, rfl, by decide, by decide⟩ rfl dL_act_226 rfl (Nat.le_of_ble_eq_true rfl) (fun v1 w1 hq => ?_)
      obtain ⟨hv1, hm1⟩ := hq; rw [hv1, hm1]; clear hv1 hm1 v1 w1
      have hu_229 := pu_r (pu_s y0 5) (n := 12) (by omega)
      refine rd_callV C (kq_setPause hS) rm_L_64 ri_X9_setPause rs_X9_setPause rc_X9_setPause rz_X9 ⟨rp_X9_setPause, rfl, rfl, by decide, by decide⟩ rfl rd_kcl9 dL_act_229 rd_b0 rd_k0 rfl (Nat.le_of_ble_eq_true rfl) (fun v1 w1 hq => ?_)
      obtain ⟨hv1, hm1⟩ := hq; subst hv1
      exact rd_iret C dL_act_232 (pf_act_c (z := pf_setPause π (pv_slideAt π (pu y0 (pv_slides π))) (pu (pu_s y0 5) 12)) (by unfold pf_act; rw [if_neg (by omega), if_neg (by omega), if_neg (by omega), if_neg (by omega), if_pos (by omega)]) hm1)
    · refine rd_swIn C dL_act_55 (by omega) (by omega) (off := 163) (by rw [h_55]; rfl) (tgt := 218) (by decide) ?_
      refine rd_aload_n C dL_act_218 rfl ?_
      refine rd_iload C dL_act_219 rfl ?_
      refine rd_iload_n C dL_act_221 rfl ?_
      refine rd_iconst C dL_act_222 (n := 5) ⟨by decide, by decide⟩ ?_
      refine rd_ishr C dL_act_223 (z := pu_s y0 5) (pu_t _) (pu_to _) ?_
      refine rd_bipush C dL_act_224 (n := 12) (by decide) ⟨by decide, by decide⟩ ?_
      refine rd_callS C (c_L_up (by omega)) rm_L_49 rt_L_up rc_L_up rz_L ⟨rp_L_up, rfl, rfl, by decide, by decide⟩ rfl dL_act_226 rfl (Nat.le_of_ble_eq_true rfl) (fun v1 w1 hq => ?_)
      obtain ⟨hv1, hm1⟩ := hq; rw [hv1, hm1]; clear hv1 hm1 v1 w1
      have hu_229 := pu_r (pu_s y0 5) (n := 12) (by omega)
      refine rd_callV C (kq_setPause hS) rm_L_64 ri_X9_setPause rs_X9_setPause rc_X9_setPause rz_X9 ⟨rp_X9_setPause, rfl, rfl, by decide, by decide⟩ rfl rd_kcl9 dL_act_229 rd_b0 rd_k0 rfl (Nat.le_of_ble_eq_true rfl) (fun v1 w1 hq => ?_)
      obtain ⟨hv1, hm1⟩ := hq; subst hv1
      exact rd_iret C dL_act_232 (pf_act_c (z := pf_setPause π (pv_slideAt π (pu y0 (pv_slides π))) (pu (pu_s y0 5) 12)) (by unfold pf_act; rw [if_neg (by omega), if_neg (by omega), if_neg (by omega), if_neg (by omega), if_pos (by omega)]) hm1)
    · refine rd_swIn C dL_act_55 (by omega) (by omega) (off := 178) (by rw [h_55]; rfl) (tgt := 233) (by decide) ?_
      refine rd_aload_n C dL_act_233 rfl ?_
      refine rd_iload C dL_act_234 rfl ?_
      refine rd_iload C dL_act_236 rfl ?_
      refine rd_iload_n C dL_act_238 rfl ?_
      refine rd_bipush C dL_act_239 (n := 12) (by decide) ⟨by decide, by decide⟩ ?_
      refine rd_ishr C dL_act_241 (z := pu_s y0 12) (pu_t _) (pu_to _) ?_
      refine rd_iconst C dL_act_242 (n := 1) ⟨by decide, by decide⟩ ?_
      refine rd_iand C dL_act_243 (z := pu_n (pu_s y0 12) 1) (pu_t _) (pu_to _) ?_
      refine rd_if_ne C dL_act_244 (tgt := 251) (by decide) (fun h_244 => ?_) (fun h_244 => ?_)
      · refine rd_iload C dL_act_251 rfl ?_
        refine rd_iload_n C dL_act_253 rfl ?_
        refine rd_bipush C dL_act_254 (n := 13) (by decide) ⟨by decide, by decide⟩ ?_
        refine rd_ishr C dL_act_256 (z := pu_s y0 13) (pu_t _) (pu_to _) ?_
        refine rd_bipush C dL_act_257 (n := 10) (by decide) ⟨by decide, by decide⟩ ?_
        refine rd_iload C dL_act_259 rfl ?_
        refine rd_isub C dL_act_261 (z := 10 - (pu (pu_s y0 8) 5)) rfl ⟨by omega, by omega⟩ ?_
        refine rd_callS C (c_L_up (by omega)) rm_L_49 rt_L_up rc_L_up rz_L ⟨rp_L_up, rfl, rfl, by decide, by decide⟩ rfl dL_act_262 rfl (Nat.le_of_ble_eq_true rfl) (fun v1 w1 hq => ?_)
        obtain ⟨hv1, hm1⟩ := hq; rw [hv1, hm1]; clear hv1 hm1 v1 w1
        have hu_265 := pu_r (pu_s y0 13) (n := 10 - (pu (pu_s y0 8) 5)) (by omega)
        refine rd_iadd C dL_act_265 (z := pu (pu_s y0 8) 5 + (pu (pu_s y0 13) (10 - (pu (pu_s y0 8) 5)))) rfl ⟨by omega, by omega⟩ ?_
        refine rd_iload_n C dL_act_266 rfl ?_
        refine rd_bipush C dL_act_267 (n := 7) (by decide) ⟨by decide, by decide⟩ ?_
        refine rd_ishr C dL_act_269 (z := pu_s y0 7) (pu_t _) (pu_to _) ?_
        refine rd_bipush C dL_act_270 (n := 100) (by decide) ⟨by decide, by decide⟩ ?_
        refine rd_callS C (c_L_up (by omega)) rm_L_49 rt_L_up rc_L_up rz_L ⟨rp_L_up, rfl, rfl, by decide, by decide⟩ rfl dL_act_272 rfl (Nat.le_of_ble_eq_true rfl) (fun v1 w1 hq => ?_)
        obtain ⟨hv1, hm1⟩ := hq; rw [hv1, hm1]; clear hv1 hm1 v1 w1
        have hu_275 := pu_r (pu_s y0 7) (n := 100) (by omega)
        refine rd_callV C (kq_addItem hS) rm_L_67 ri_X9_addItem rs_X9_addItem rc_X9_addItem rz_X9 ⟨rp_X9_addItem, rfl, rfl, by decide, by decide⟩ rfl rd_kcl9 dL_act_275 rd_b0 rd_k0 rfl (Nat.le_of_ble_eq_true rfl) (fun v1 w1 hq => ?_)
        obtain ⟨hv1, hm1⟩ := hq; subst hv1
        exact rd_iret C dL_act_278 (pf_act_c (z := pf_addItem π (pv_slideAt π (pu y0 (pv_slides π))) (pu (pu_s y0 8) 5) (pu (pu_s y0 8) 5 + (pu (pu_s y0 13) (10 - (pu (pu_s y0 8) 5)))) (pu (pu_s y0 7) 100)) (by unfold pf_act; rw [if_neg (by omega), if_neg (by omega), if_neg (by omega), if_neg (by omega), if_neg (by omega), if_pos (by omega)]; rw [if_neg (by omega)]) hm1)
      · refine rd_iconst C dL_act_247 (n := -1) ⟨by decide, by decide⟩ ?_
        refine rd_goto C dL_act_248 (tgt := 266) (by decide) ?_
        refine rd_iload_n C dL_act_266 rfl ?_
        refine rd_bipush C dL_act_267 (n := 7) (by decide) ⟨by decide, by decide⟩ ?_
        refine rd_ishr C dL_act_269 (z := pu_s y0 7) (pu_t _) (pu_to _) ?_
        refine rd_bipush C dL_act_270 (n := 100) (by decide) ⟨by decide, by decide⟩ ?_
        refine rd_callS C (c_L_up (by omega)) rm_L_49 rt_L_up rc_L_up rz_L ⟨rp_L_up, rfl, rfl, by decide, by decide⟩ rfl dL_act_272 rfl (Nat.le_of_ble_eq_true rfl) (fun v1 w1 hq => ?_)
        obtain ⟨hv1, hm1⟩ := hq; rw [hv1, hm1]; clear hv1 hm1 v1 w1
        have hu_275 := pu_r (pu_s y0 7) (n := 100) (by omega)
        refine rd_callV C (kq_addItem hS) rm_L_67 ri_X9_addItem rs_X9_addItem rc_X9_addItem rz_X9 ⟨rp_X9_addItem, rfl, rfl, by decide, by decide⟩ rfl rd_kcl9 dL_act_275 rd_b0 rd_k0 rfl (Nat.le_of_ble_eq_true rfl) (fun v1 w1 hq => ?_)
        obtain ⟨hv1, hm1⟩ := hq; subst hv1
        exact rd_iret C dL_act_278 (pf_act_c (z := pf_addItem π (pv_slideAt π (pu y0 (pv_slides π))) (pu (pu_s y0 8) 5) (-1) (pu (pu_s y0 7) 100)) (by unfold pf_act; rw [if_neg (by omega), if_neg (by omega), if_neg (by omega), if_neg (by omega), if_neg (by omega), if_pos (by omega)]; rw [if_pos (by omega)]) hm1)
    · refine rd_swIn C dL_act_55 (by omega) (by omega) (off := 178) (by rw [h_55]; rfl) (tgt := 233) (by decide) ?_
      refine rd_aload_n C dL_act_233 rfl ?_
      refine rd_iload C dL_act_234 rfl ?_
      refine rd_iload C dL_act_236 rfl ?_
      refine rd_iload_n C dL_act_238 rfl ?_
      refine rd_bipush C dL_act_239 (n := 12) (by decide) ⟨by decide, by decide⟩ ?_
      refine rd_ishr C dL_act_241 (z := pu_s y0 12) (pu_t _) (pu_to _) ?_
      refine rd_iconst C dL_act_242 (n := 1) ⟨by decide, by decide⟩ ?_
      refine rd_iand C dL_act_243 (z := pu_n (pu_s y0 12) 1) (pu_t _) (pu_to _) ?_
      refine rd_if_ne C dL_act_244 (tgt := 251) (by decide) (fun h_244 => ?_) (fun h_244 => ?_)
      · refine rd_iload C dL_act_251 rfl ?_
        refine rd_iload_n C dL_act_253 rfl ?_
        refine rd_bipush C dL_act_254 (n := 13) (by decide) ⟨by decide, by decide⟩ ?_
        refine rd_ishr C dL_act_256 (z := pu_s y0 13) (pu_t _) (pu_to _) ?_
        refine rd_bipush C dL_act_257 (n := 10) (by decide) ⟨by decide, by decide⟩ ?_
        refine rd_iload C dL_act_259 rfl ?_
        refine rd_isub C dL_act_261 (z := 10 - (pu (pu_s y0 8) 5)) rfl ⟨by omega, by omega⟩ ?_
        refine rd_callS C (c_L_up (by omega)) rm_L_49 rt_L_up rc_L_up rz_L ⟨rp_L_up, rfl, rfl, by decide, by decide⟩ rfl dL_act_262 rfl (Nat.le_of_ble_eq_true rfl) (fun v1 w1 hq => ?_)
        obtain ⟨hv1, hm1⟩ := hq; rw [hv1, hm1]; clear hv1 hm1 v1 w1
        have hu_265 := pu_r (pu_s y0 13) (n := 10 - (pu (pu_s y0 8) 5)) (by omega)
        refine rd_iadd C dL_act_265 (z := pu (pu_s y0 8) 5 + (pu (pu_s y0 13) (10 - (pu (pu_s y0 8) 5)))) rfl ⟨by omega, by omega⟩ ?_
        refine rd_iload_n C dL_act_266 rfl ?_
        refine rd_bipush C dL_act_267 (n := 7) (by decide) ⟨by decide, by decide⟩ ?_
        refine rd_ishr C dL_act_269 (z := pu_s y0 7) (pu_t _) (pu_to _) ?_
        refine rd_bipush C dL_act_270 (n := 100) (by decide) ⟨by decide, by decide⟩ ?_
        refine rd_callS C (c_L_up (by omega)) rm_L_49 rt_L_up rc_L_up rz_L ⟨rp_L_up, rfl, rfl, by decide, by decide⟩ rfl dL_act_272 rfl (Nat.le_of_ble_eq_true rfl) (fun v1 w1 hq => ?_)
        obtain ⟨hv1, hm1⟩ := hq; rw [hv1, hm1]; clear hv1 hm1 v1 w1
        have hu_275 := pu_r (pu_s y0 7) (n := 100) (by omega)
        refine rd_callV C (kq_addItem hS) rm_L_67 ri_X9_addItem rs_X9_addItem rc_X9_addItem rz_X9 ⟨rp_X9_addItem, rfl, rfl, by decide, by decide⟩ rfl rd_kcl9 dL_act_275 rd_b0 rd_k0 rfl (Nat.le_of_ble_eq_true rfl) (fun v1 w1 hq => ?_)
        obtain ⟨hv1, hm1⟩ := hq; subst hv1
        exact rd_iret C dL_act_278 (pf_act_c (z := pf_addItem π (pv_slideAt π (pu y0 (pv_slides π))) (pu (pu_s y0 8) 5) (pu (pu_s y0 8) 5 + (pu (pu_s y0 13) (10 - (pu (pu_s y0 8) 5)))) (pu (pu_s y0 7) 100)) (by unfold pf_act; rw [if_neg (by omega), if_neg (by omega), if_neg (by omega), if_neg (by omega), if_neg (by omega), if_pos (by omega)]; rw [if_neg (by omega)]) hm1)
      · refine rd_iconst C dL_act_247 (n := -1) ⟨by decide, by decide⟩ ?_
        refine rd_goto C dL_act_248 (tgt := 266) (by decide) ?_
        refine rd_iload_n C dL_act_266 rfl ?_
        refine rd_bipush C dL_act_267 (n := 7) (by decide) ⟨by decide, by decide⟩ ?_
        refine rd_ishr C dL_act_269 (z := pu_s y0 7) (pu_t _) (pu_to _) ?_
        refine rd_bipush C dL_act_270 (n := 100) (by decide) ⟨by decide, by decide⟩ ?_
        refine rd_callS C (c_L_up (by omega)) rm_L_49 rt_L_up rc_L_up rz_L ⟨rp_L_up, rfl, rfl, by decide, by decide⟩ rfl dL_act_272 rfl (Nat.le_of_ble_eq_true rfl) (fun v1 w1 hq => ?_)
        obtain ⟨hv1, hm1⟩ := hq; rw [hv1, hm1]; clear hv1 hm1 v1 w1
        have hu_275 := pu_r (pu_s y0 7) (n := 100) (by omega)
        refine rd_callV C (kq_addItem hS) rm_L_67 ri_X9_addItem rs_X9_addItem rc_X9_addItem rz_X9 ⟨rp_X9_addItem, rfl, rfl, by decide, by decide⟩ rfl rd_kcl9 dL_act_275 rd_b0 rd_k0 rfl (Nat.le_of_ble_eq_true rfl) (fun v1 w1 hq => ?_)
        obtain ⟨hv1, hm1⟩ := hq; subst hv1
        exact rd_iret C dL_act_278 (pf_act_c (z := pf_addItem π (pv_slideAt π (pu y0 (pv_slides π))) (pu (pu_s y0 8) 5) (-1) (pu (pu_s y0 7) 100)) (by unfold pf_act; rw [if_neg (by omega), if_neg (by omega), if_neg (by omega), if_neg (by omega), if_neg (by omega), if_pos (by omega)]; rw [if_pos (by omega)]) hm1)
    · refine rd_swIn C dL_act_55 (by omega) (by omega) (off := 178) (by rw [h_55]; rfl) (tgt := 233) (by decide) ?_
      refine rd_aload_n C dL_act_233 rfl ?_
      refine rd_iload C dL_act_234 rfl ?_
      refine rd_iload C dL_act_236 rfl ?_
      refine rd_iload_n C dL_act_238 rfl ?_
      refine rd_bipush C dL_act_239 (n := 12) (by decide) ⟨by decide, by decide⟩ ?_
      refine rd_ishr C dL_act_241 (z := pu_s y0 12) (pu_t _) (pu_to _) ?_
      refine rd_iconst C dL_act_242 (n := 1) ⟨by decide, by decide⟩ ?_
      refine rd_iand C dL_act_243 (z := pu_n (pu_s y0 12) 1) (pu_t _) (pu_to _) ?_
      refine rd_if_ne C dL_act_244 (tgt := 251) (by decide) (fun h_244 => ?_) (fun h_244 => ?_)
      · refine rd_iload C dL_act_251 rfl ?_
        refine rd_iload_n C dL_act_253 rfl ?_
        refine rd_bipush C dL_act_254 (n := 13) (by decide) ⟨by decide, by decide⟩ ?_
        refine rd_ishr C dL_act_256 (z := pu_s y0 13) (pu_t _) (pu_to _) ?_
        refine rd_bipush C dL_act_257 (n := 10) (by decide) ⟨by decide, by decide⟩ ?_
        refine rd_iload C dL_act_259 rfl ?_
        refine rd_isub C dL_act_261 (z := 10 - (pu (pu_s y0 8) 5)) rfl ⟨by omega, by omega⟩ ?_
        refine rd_callS C (c_L_up (by omega)) rm_L_49 rt_L_up rc_L_up rz_L ⟨rp_L_up, rfl, rfl, by decide, by decide⟩ rfl dL_act_262 rfl (Nat.le_of_ble_eq_true rfl) (fun v1 w1 hq => ?_)
        obtain ⟨hv1, hm1⟩ := hq; rw [hv1, hm1]; clear hv1 hm1 v1 w1
        have hu_265 := pu_r (pu_s y0 13) (n := 10 - (pu (pu_s y0 8) 5)) (by omega)
        refine rd_iadd C dL_act_265 (z := pu (pu_s y0 8) 5 + (pu (pu_s y0 13) (10 - (pu (pu_s y0 8) 5)))) rfl ⟨by omega, by omega⟩ ?_
        refine rd_iload_n C dL_act_266 rfl ?_
        refine rd_bipush C dL_act_267 (n := 7) (by decide) ⟨by decide, by decide⟩ ?_
        refine rd_ishr C dL_act_269 (z := pu_s y0 7) (pu_t _) (pu_to _) ?_
        refine rd_bipush C dL_act_270 (n := 100) (by decide) ⟨by decide, by decide⟩ ?_
        refine rd_callS C (c_L_up (by omega)) rm_L_49 rt_L_up rc_L_up rz_L ⟨rp_L_up, rfl, rfl, by decide, by decide⟩ rfl dL_act_272 rfl (Nat.le_of_ble_eq_true rfl) (fun v1 w1 hq => ?_)
        obtain ⟨hv1, hm1⟩ := hq; rw [hv1, hm1]; clear hv1 hm1 v1 w1
        have hu_275 := pu_r (pu_s y0 7) (n := 100) (by omega)
        refine rd_callV C (kq_addItem hS) rm_L_67 ri_X9_addItem rs_X9_addItem rc_X9_addItem rz_X9 ⟨rp_X9_addItem, rfl, rfl, by decide, by decide⟩ rfl rd_kcl9 dL_act_275 rd_b0 rd_k0 rfl (Nat.le_of_ble_eq_true rfl) (fun v1 w1 hq => ?_)
        obtain ⟨hv1, hm1⟩ := hq; subst hv1
        exact rd_iret C dL_act_278 (pf_act_c (z := pf_addItem π (pv_slideAt π (pu y0 (pv_slides π))) (pu (pu_s y0 8) 5) (pu (pu_s y0 8) 5 + (pu (pu_s y0 13) (10 - (pu (pu_s y0 8) 5)))) (pu (pu_s y0 7) 100)) (by unfold pf_act; rw [if_neg (by omega), if_neg (by omega), if_neg (by omega), if_neg (by omega), if_neg (by omega), if_pos (by omega)]; rw [if_neg (by omega)]) hm1)
      · refine rd_iconst C dL_act_247 (n := -1) ⟨by decide, by decide⟩ ?_
        refine rd_goto C dL_act_248 (tgt := 266) (by decide) ?_
        refine rd_iload_n C dL_act_266 rfl ?_
        refine rd_bipush C dL_act_267 (n := 7) (by decide) ⟨by decide, by decide⟩ ?_
        refine rd_ishr C dL_act_269 (z := pu_s y0 7) (pu_t _) (pu_to _) ?_
        refine rd_bipush C dL_act_270 (n := 100) (by decide) ⟨by decide, by decide⟩ ?_
        refine rd_callS C (c_L_up (by omega)) rm_L_49 rt_L_up rc_L_up rz_L ⟨rp_L_up, rfl, rfl, by decide, by decide⟩ rfl dL_act_272 rfl (Nat.le_of_ble_eq_true rfl) (fun v1 w1 hq => ?_)
        obtain ⟨hv1, hm1⟩ := hq; rw [hv1, hm1]; clear hv1 hm1 v1 w1
        have hu_275 := pu_r (pu_s y0 7) (n := 100) (by omega)
        refine rd_callV C (kq_addItem hS) rm_L_67 ri_X9_addItem rs_X9_addItem rc_X9_addItem rz_X9 ⟨rp_X9_addItem, rfl, rfl, by decide, by decide⟩ rfl rd_kcl9 dL_act_275 rd_b0 rd_k0 rfl (Nat.le_of_ble_eq_true rfl) (fun v1 w1 hq => ?_)
        obtain ⟨hv1, hm1⟩ := hq; subst hv1
        exact rd_iret C dL_act_278 (pf_act_c (z := pf_addItem π (pv_slideAt π (pu y0 (pv_slides π))) (pu (pu_s y0 8) 5) (-1) (pu (pu_s y0 7) 100)) (by unfold pf_act; rw [if_neg (by omega), if_neg (by omega), if_neg (by omega), if_neg (by omega), if_neg (by omega), if_pos (by omega)]; rw [if_pos (by omega)]) hm1)
    · refine rd_swIn C dL_act_55 (by omega) (by omega) (off := 224) (by rw [h_55]; rfl) (tgt := 279) (by decide) ?_
      refine rd_aload_n C dL_act_279 rfl ?_
      refine rd_iload C dL_act_280 rfl ?_
      refine rd_iload_n C dL_act_282 rfl ?_
      refine rd_iconst C dL_act_283 (n := 5) ⟨by decide, by decide⟩ ?_
      refine rd_ishr C dL_act_284 (z := pu_s y0 5) (pu_t _) (pu_to _) ?_
      refine rd_bipush C dL_act_285 (n := 6) (by decide) ⟨by decide, by decide⟩ ?_
      refine rd_callS C (c_L_up (by omega)) rm_L_49 rt_L_up rc_L_up rz_L ⟨rp_L_up, rfl, rfl, by decide, by decide⟩ rfl dL_act_287 rfl (Nat.le_of_ble_eq_true rfl) (fun v1 w1 hq => ?_)
      obtain ⟨hv1, hm1⟩ := hq; rw [hv1, hm1]; clear hv1 hm1 v1 w1
      have hu_290 := pu_r (pu_s y0 5) (n := 6) (by omega)
      refine rd_callV C (kq_removeItem hS) rm_L_71 ri_X9_removeItem rs_X9_removeItem rc_X9_removeItem rz_X9 ⟨rp_X9_removeItem, rfl, rfl, by decide, by decide⟩ rfl rd_kcl9 dL_act_290 rd_b0 rd_k0 rfl (Nat.le_of_ble_eq_true rfl) (fun v1 w1 hq => ?_)
      obtain ⟨hv1, hm1⟩ := hq; subst hv1
      exact rd_iret C dL_act_293 (pf_act_c (z := pf_removeItem π (pv_slideAt π (pu y0 (pv_slides π))) (pu (pu_s y0 5) 6)) (by unfold pf_act; rw [if_neg (by omega), if_neg (by omega), if_neg (by omega), if_neg (by omega), if_neg (by omega), if_neg (by omega), if_pos (by omega)]) hm1)
    · refine rd_swIn C dL_act_55 (by omega) (by omega) (off := 239) (by rw [h_55]; rfl) (tgt := 294) (by decide) ?_
      refine rd_aload_n C dL_act_294 rfl ?_
      refine rd_iload C dL_act_295 rfl ?_
      refine rd_iload_n C dL_act_297 rfl ?_
      refine rd_bipush C dL_act_298 (n := 8) (by decide) ⟨by decide, by decide⟩ ?_
      refine rd_ishr C dL_act_300 (z := pu_s y0 8) (pu_t _) (pu_to _) ?_
      refine rd_iconst C dL_act_301 (n := 4) ⟨by decide, by decide⟩ ?_
      refine rd_callS C (c_L_up (by omega)) rm_L_49 rt_L_up rc_L_up rz_L ⟨rp_L_up, rfl, rfl, by decide, by decide⟩ rfl dL_act_302 rfl (Nat.le_of_ble_eq_true rfl) (fun v1 w1 hq => ?_)
      obtain ⟨hv1, hm1⟩ := hq; rw [hv1, hm1]; clear hv1 hm1 v1 w1
      have hu_305 := pu_r (pu_s y0 8) (n := 4) (by omega)
      refine rd_iload C dL_act_305 rfl ?_
      refine rd_callV C (kq_link hS) rm_L_74 ri_X9_link rs_X9_link rc_X9_link rz_X9 ⟨rp_X9_link, rfl, rfl, by decide, by decide⟩ rfl rd_kcl9 dL_act_307 rd_b0 rd_k0 rfl (Nat.le_of_ble_eq_true rfl) (fun v1 w1 hq => ?_)
      obtain ⟨hv1, hm1⟩ := hq; subst hv1
      exact rd_iret C dL_act_310 (pf_act_c (z := pf_link π (pv_slideAt π (pu y0 (pv_slides π))) (pu (pu_s y0 8) 4) (pv_slideAt π (pu (pu_s y0 4) (pv_slides π)))) (by unfold pf_act; rw [if_neg (by omega), if_neg (by omega), if_neg (by omega), if_neg (by omega), if_neg (by omega), if_neg (by omega), if_neg (by omega), if_pos (by omega)]) hm1)
    · refine rd_swIn C dL_act_55 (by omega) (by omega) (off := 239) (by rw [h_55]; rfl) (tgt := 294) (by decide) ?_
      refine rd_aload_n C dL_act_294 rfl ?_
      refine rd_iload C dL_act_295 rfl ?_
      refine rd_iload_n C dL_act_297 rfl ?_
      refine rd_bipush C dL_act_298 (n := 8) (by decide) ⟨by decide, by decide⟩ ?_
      refine rd_ishr C dL_act_300 (z := pu_s y0 8) (pu_t _) (pu_to _) ?_
      refine rd_iconst C dL_act_301 (n := 4) ⟨by decide, by decide⟩ ?_
      refine rd_callS C (c_L_up (by omega)) rm_L_49 rt_L_up rc_L_up rz_L ⟨rp_L_up, rfl, rfl, by decide, by decide⟩ rfl dL_act_302 rfl (Nat.le_of_ble_eq_true rfl) (fun v1 w1 hq => ?_)
      obtain ⟨hv1, hm1⟩ := hq; rw [hv1, hm1]; clear hv1 hm1 v1 w1
      have hu_305 := pu_r (pu_s y0 8) (n := 4) (by omega)
      refine rd_iload C dL_act_305 rfl ?_
      refine rd_callV C (kq_link hS) rm_L_74 ri_X9_link rs_X9_link rc_X9_link rz_X9 ⟨rp_X9_link, rfl, rfl, by decide, by decide⟩ rfl rd_kcl9 dL_act_307 rd_b0 rd_k0 rfl (Nat.le_of_ble_eq_true rfl) (fun v1 w1 hq => ?_)
      obtain ⟨hv1, hm1⟩ := hq; subst hv1
      exact rd_iret C dL_act_310 (pf_act_c (z := pf_link π (pv_slideAt π (pu y0 (pv_slides π))) (pu (pu_s y0 8) 4) (pv_slideAt π (pu (pu_s y0 4) (pv_slides π)))) (by unfold pf_act; rw [if_neg (by omega), if_neg (by omega), if_neg (by omega), if_neg (by omega), if_neg (by omega), if_neg (by omega), if_neg (by omega), if_pos (by omega)]) hm1)
    · refine rd_swIn C dL_act_55 (by omega) (by omega) (off := 256) (by rw [h_55]; rfl) (tgt := 311) (by decide) ?_
      refine rd_aload_n C dL_act_311 rfl ?_
      refine rd_iload C dL_act_312 rfl ?_
      refine rd_iload_n C dL_act_314 rfl ?_
      refine rd_bipush C dL_act_315 (n := 8) (by decide) ⟨by decide, by decide⟩ ?_
      refine rd_ishr C dL_act_317 (z := pu_s y0 8) (pu_t _) (pu_to _) ?_
      refine rd_iconst C dL_act_318 (n := 4) ⟨by decide, by decide⟩ ?_
      refine rd_callS C (c_L_up (by omega)) rm_L_49 rt_L_up rc_L_up rz_L ⟨rp_L_up, rfl, rfl, by decide, by decide⟩ rfl dL_act_319 rfl (Nat.le_of_ble_eq_true rfl) (fun v1 w1 hq => ?_)
      obtain ⟨hv1, hm1⟩ := hq; rw [hv1, hm1]; clear hv1 hm1 v1 w1
      have hu_322 := pu_r (pu_s y0 8) (n := 4) (by omega)
      refine rd_callV C (kq_unlink hS) rm_L_78 ri_X9_unlink rs_X9_unlink rc_X9_unlink rz_X9 ⟨rp_X9_unlink, rfl, rfl, by decide, by decide⟩ rfl rd_kcl9 dL_act_322 rd_b0 rd_k0 rfl (Nat.le_of_ble_eq_true rfl) (fun v1 w1 hq => ?_)
      obtain ⟨hv1, hm1⟩ := hq; subst hv1
      exact rd_iret C dL_act_325 (pf_act_c (z := pf_unlink π (pv_slideAt π (pu y0 (pv_slides π))) (pu (pu_s y0 8) 4)) (by unfold pf_act; rw [if_neg (by omega), if_neg (by omega), if_neg (by omega), if_neg (by omega), if_neg (by omega), if_neg (by omega), if_neg (by omega), if_neg (by omega), if_pos (by omega)]) hm1)
    · refine rd_swIn C dL_act_55 (by omega) (by omega) (off := 271) (by rw [h_55]; rfl) (tgt := 326) (by decide) ?_
      refine rd_aload_n C dL_act_326 rfl ?_
      refine rd_iload_n C dL_act_327 rfl ?_
      refine rd_bipush C dL_act_328 (n := 60) (by decide) ⟨by decide, by decide⟩ ?_
      refine rd_callS C (c_L_up (by omega)) rm_L_49 rt_L_up rc_L_up rz_L ⟨rp_L_up, rfl, rfl, by decide, by decide⟩ rfl dL_act_330 rfl (Nat.le_of_ble_eq_true rfl) (fun v1 w1 hq => ?_)
      obtain ⟨hv1, hm1⟩ := hq; rw [hv1, hm1]; clear hv1 hm1 v1 w1
      have hu_333 := pu_r y0 (n := 60) (by omega)
      refine rd_iload_n C dL_act_333 rfl ?_
      refine rd_bipush C dL_act_334 (n := 6) (by decide) ⟨by decide, by decide⟩ ?_
      refine rd_ishr C dL_act_336 (z := pu_s y0 6) (pu_t _) (pu_to _) ?_
      refine rd_bipush C dL_act_337 (n := 101) (by decide) ⟨by decide, by decide⟩ ?_
      refine rd_callS C (c_L_up (by omega)) rm_L_49 rt_L_up rc_L_up rz_L ⟨rp_L_up, rfl, rfl, by decide, by decide⟩ rfl dL_act_339 rfl (Nat.le_of_ble_eq_true rfl) (fun v1 w1 hq => ?_)
      obtain ⟨hv1, hm1⟩ := hq; rw [hv1, hm1]; clear hv1 hm1 v1 w1
      have hu_342 := pu_r (pu_s y0 6) (n := 101) (by omega)
      refine rd_iconst C dL_act_342 (n := 1) ⟨by decide, by decide⟩ ?_
      refine rd_isub C dL_act_343 (z := pu (pu_s y0 6) 101 - 1) rfl ⟨by omega, by omega⟩ ?_
      refine rd_callV C (kq_note hS) rm_L_81 ri_X9_note rs_X9_note rc_X9_note rz_X9 ⟨rp_X9_note, rfl, rfl, by decide, by decide⟩ rfl rd_kcl9 dL_act_344 rd_b0 rd_k0 rfl (Nat.le_of_ble_eq_true rfl) (fun v1 w1 hq => ?_)
      obtain ⟨hv1, hm1⟩ := hq; subst hv1
      exact rd_iret C dL_act_347 (pf_act_c (z := pf_note π (pu y0 60) (pu (pu_s y0 6) 101 - 1)) (by unfold pf_act; rw [if_neg (by omega), if_neg (by omega), if_neg (by omega), if_neg (by omega), if_neg (by omega), if_neg (by omega), if_neg (by omega), if_neg (by omega), if_neg (by omega), if_pos (by omega)]) hm1)
    · refine rd_swIn C dL_act_55 (by omega) (by omega) (off := 293) (by rw [h_55]; rfl) (tgt := 348) (by decide) ?_
      refine rd_aload_n C dL_act_348 rfl ?_
      refine rd_iload_n C dL_act_349 rfl ?_
      refine rd_iconst C dL_act_350 (n := 3) ⟨by decide, by decide⟩ ?_
      refine rd_iand C dL_act_351 (z := pu_n y0 3) (pu_t _) (pu_to _) ?_
      refine rd_if_le C dL_act_352 (tgt := 359) (by decide) (fun h_352 => ?_) (fun h_352 => ?_)
      · refine rd_iload_n C dL_act_359 rfl ?_
        refine rd_iconst C dL_act_360 (n := 2) ⟨by decide, by decide⟩ ?_
        refine rd_ishr C dL_act_361 (z := pu_s y0 2) (pu_t _) (pu_to _) ?_
        refine rd_sipush C dL_act_362 (n := 300) (by decide) ⟨by decide, by decide⟩ ?_
        refine rd_callS C (c_L_up (by omega)) rm_L_49 rt_L_up rc_L_up rz_L ⟨rp_L_up, rfl, rfl, by decide, by decide⟩ rfl dL_act_365 rfl (Nat.le_of_ble_eq_true rfl) (fun v1 w1 hq => ?_)
        obtain ⟨hv1, hm1⟩ := hq; rw [hv1, hm1]; clear hv1 hm1 v1 w1
        have hu_368 := pu_r (pu_s y0 2) (n := 300) (by omega)
        refine rd_callV C (kq_setEnd hS) rm_L_84 ri_X9_setEnd rs_X9_setEnd rc_X9_setEnd rz_X9 ⟨rp_X9_setEnd, rfl, rfl, by decide, by decide⟩ rfl rd_kcl9 dL_act_368 rd_b0 rd_k0 rfl (Nat.le_of_ble_eq_true rfl) (fun v1 w1 hq => ?_)
        obtain ⟨hv1, hm1⟩ := hq; subst hv1
        exact rd_iret C dL_act_371 (pf_act_c (z := pf_setEnd π (pu (pu_s y0 2) 300)) (by unfold pf_act; rw [if_neg (by omega), if_neg (by omega), if_neg (by omega), if_neg (by omega), if_neg (by omega), if_neg (by omega), if_neg (by omega), if_neg (by omega), if_neg (by omega), if_neg (by omega), if_pos (by omega)]; rw [if_pos (by omega)]) hm1)
      · refine rd_iconst C dL_act_355 (n := 0) ⟨by decide, by decide⟩ ?_
        refine rd_goto C dL_act_356 (tgt := 368) (by decide) ?_
        refine rd_callV C (kq_setEnd hS) rm_L_84 ri_X9_setEnd rs_X9_setEnd rc_X9_setEnd rz_X9 ⟨rp_X9_setEnd, rfl, rfl, by decide, by decide⟩ rfl rd_kcl9 dL_act_368 rd_b0 rd_k0 rfl (Nat.le_of_ble_eq_true rfl) (fun v1 w1 hq => ?_)
        obtain ⟨hv1, hm1⟩ := hq; subst hv1
        exact rd_iret C dL_act_371 (pf_act_c (z := pf_setEnd π 0) (by unfold pf_act; rw [if_neg (by omega), if_neg (by omega), if_neg (by omega), if_neg (by omega), if_neg (by omega), if_neg (by omega), if_neg (by omega), if_neg (by omega), if_neg (by omega), if_neg (by omega), if_pos (by omega)]; rw [if_neg (by omega)]) hm1)
    · refine rd_swIn C dL_act_55 (by omega) (by omega) (off := 317) (by rw [h_55]; rfl) (tgt := 372) (by decide) ?_
      refine rd_iload_n C dL_act_372 rfl ?_
      refine rd_iconst C dL_act_373 (n := 3) ⟨by decide, by decide⟩ ?_
      refine rd_iand C dL_act_374 (z := pu_n y0 3) (pu_t _) (pu_to _) ?_
      refine rd_if_ne C dL_act_375 (tgt := 385) (by decide) (fun h_375 => ?_) (fun h_375 => ?_)
      · refine rd_aload_n C dL_act_385 rfl ?_
        refine rd_callV C (kq_start hS) rm_L_90 ri_X9_start rs_X9_start rc_X9_start rz_X9 ⟨rp_X9_start, rfl, rfl, by decide, by decide⟩ rfl rd_kcl9 dL_act_386 rd_b0 rd_k0 rfl (Nat.le_of_ble_eq_true rfl) (fun v1 w1 hq => ?_)
        obtain ⟨hv1, hm1⟩ := hq; subst hv1
        exact rd_iret C dL_act_389 (pf_act_c (z := pf_start π) (by unfold pf_act; rw [if_neg (by omega), if_neg (by omega), if_neg (by omega), if_neg (by omega), if_neg (by omega), if_neg (by omega), if_neg (by omega), if_neg (by omega), if_neg (by omega), if_neg (by omega), if_neg (by omega), if_pos (by omega)]; rw [if_neg (by omega)]) hm1)
      · refine rd_aload_n C dL_act_378 rfl ?_
        refine rd_callV C (kq_stop hS) rm_L_87 ri_X9_stop rs_X9_stop rc_X9_stop rz_X9 ⟨rp_X9_stop, rfl, rfl, by decide, by decide⟩ rfl rd_kcl9 dL_act_379 rd_b0 rd_k0 rfl (Nat.le_of_ble_eq_true rfl) (fun v1 w1 hq => ?_)
        obtain ⟨hv1, hm1⟩ := hq; subst hv1
        refine rd_goto C dL_act_382 (tgt := 389) (by decide) ?_
        exact rd_iret C dL_act_389 (pf_act_c (z := pf_stop π) (by unfold pf_act; rw [if_neg (by omega), if_neg (by omega), if_neg (by omega), if_neg (by omega), if_neg (by omega), if_neg (by omega), if_neg (by omega), if_neg (by omega), if_neg (by omega), if_neg (by omega), if_neg (by omega), if_pos (by omega)]; rw [if_pos (by omega)]) hm1)
    · refine rd_swIn C dL_act_55 (by omega) (by omega) (off := 335) (by rw [h_55]; rfl) (tgt := 390) (by decide) ?_
      refine rd_aload_n C dL_act_390 rfl ?_
      refine rd_callV C (kq_back hS) rm_L_93 ri_X9_back rs_X9_back rc_X9_back rz_X9 ⟨rp_X9_back, rfl, rfl, by decide, by decide⟩ rfl rd_kcl9 dL_act_391 rd_b0 rd_k0 rfl (Nat.le_of_ble_eq_true rfl) (fun v1 w1 hq => ?_)
      obtain ⟨hv1, hm1⟩ := hq; subst hv1
      exact rd_iret C dL_act_394 (pf_act_c (z := pf_back π) (by unfold pf_act; rw [if_neg (by omega), if_neg (by omega), if_neg (by omega), if_neg (by omega), if_neg (by omega), if_neg (by omega), if_neg (by omega), if_neg (by omega), if_neg (by omega), if_neg (by omega), if_neg (by omega), if_neg (by omega), if_pos (by omega)]) hm1)
    · refine rd_swIn C dL_act_55 (by omega) (by omega) (off := 335) (by rw [h_55]; rfl) (tgt := 390) (by decide) ?_
      refine rd_aload_n C dL_act_390 rfl ?_
      refine rd_callV C (kq_back hS) rm_L_93 ri_X9_back rs_X9_back rc_X9_back rz_X9 ⟨rp_X9_back, rfl, rfl, by decide, by decide⟩ rfl rd_kcl9 dL_act_391 rd_b0 rd_k0 rfl (Nat.le_of_ble_eq_true rfl) (fun v1 w1 hq => ?_)
      obtain ⟨hv1, hm1⟩ := hq; subst hv1
      exact rd_iret C dL_act_394 (pf_act_c (z := pf_back π) (by unfold pf_act; rw [if_neg (by omega), if_neg (by omega), if_neg (by omega), if_neg (by omega), if_neg (by omega), if_neg (by omega), if_neg (by omega), if_neg (by omega), if_neg (by omega), if_neg (by omega), if_neg (by omega), if_neg (by omega), if_pos (by omega)]) hm1)
    · refine rd_swIn C dL_act_55 (by omega) (by omega) (off := 335) (by rw [h_55]; rfl) (tgt := 390) (by decide) ?_
      refine rd_aload_n C dL_act_390 rfl ?_
      refine rd_callV C (kq_back hS) rm_L_93 ri_X9_back rs_X9_back rc_X9_back rz_X9 ⟨rp_X9_back, rfl, rfl, by decide, by decide⟩ rfl rd_kcl9 dL_act_391 rd_b0 rd_k0 rfl (Nat.le_of_ble_eq_true rfl) (fun v1 w1 hq => ?_)
      obtain ⟨hv1, hm1⟩ := hq; subst hv1
      exact rd_iret C dL_act_394 (pf_act_c (z := pf_back π) (by unfold pf_act; rw [if_neg (by omega), if_neg (by omega), if_neg (by omega), if_neg (by omega), if_neg (by omega), if_neg (by omega), if_neg (by omega), if_neg (by omega), if_neg (by omega), if_neg (by omega), if_neg (by omega), if_neg (by omega), if_pos (by omega)]) hm1)
    · refine rd_swIn C dL_act_55 (by omega) (by omega) (off := 340) (by rw [h_55]; rfl) (tgt := 395) (by decide) ?_
      refine rd_aload_n C dL_act_395 rfl ?_
      refine rd_iload_n C dL_act_396 rfl ?_
      refine rd_iconst C dL_act_397 (n := 4) ⟨by decide, by decide⟩ ?_
      refine rd_callS C (c_L_up (by omega)) rm_L_49 rt_L_up rc_L_up rz_L ⟨rp_L_up, rfl, rfl, by decide, by decide⟩ rfl dL_act_398 rfl (Nat.le_of_ble_eq_true rfl) (fun v1 w1 hq => ?_)
      obtain ⟨hv1, hm1⟩ := hq; rw [hv1, hm1]; clear hv1 hm1 v1 w1
      have hu_401 := pu_r y0 (n := 4) (by omega)
      refine rd_callV C (kq_press hS) rm_L_96 ri_X9_press rs_X9_press rc_X9_press rz_X9 ⟨rp_X9_press, rfl, rfl, by decide, by decide⟩ rfl rd_kcl9 dL_act_401 rd_b0 rd_k0 rfl (Nat.le_of_ble_eq_true rfl) (fun v1 w1 hq => ?_)
      obtain ⟨hv1, hm1⟩ := hq; subst hv1
      exact rd_iret C dL_act_404 (pf_act_c (z := pf_press π (pu y0 4)) (by unfold pf_act; rw [if_neg (by omega), if_neg (by omega), if_neg (by omega), if_neg (by omega), if_neg (by omega), if_neg (by omega), if_neg (by omega), if_neg (by omega), if_neg (by omega), if_neg (by omega), if_neg (by omega), if_neg (by omega), if_neg (by omega), if_pos (by omega)]) hm1)
    · refine rd_swIn C dL_act_55 (by omega) (by omega) (off := 340) (by rw [h_55]; rfl) (tgt := 395) (by decide) ?_
      refine rd_aload_n C dL_act_395 rfl ?_
      refine rd_iload_n C dL_act_396 rfl ?_
      refine rd_iconst C dL_act_397 (n := 4) ⟨by decide, by decide⟩ ?_
      refine rd_callS C (c_L_up (by omega)) rm_L_49 rt_L_up rc_L_up rz_L ⟨rp_L_up, rfl, rfl, by decide, by decide⟩ rfl dL_act_398 rfl (Nat.le_of_ble_eq_true rfl) (fun v1 w1 hq => ?_)
      obtain ⟨hv1, hm1⟩ := hq; rw [hv1, hm1]; clear hv1 hm1 v1 w1
      have hu_401 := pu_r y0 (n := 4) (by omega)
      refine rd_callV C (kq_press hS) rm_L_96 ri_X9_press rs_X9_press rc_X9_press rz_X9 ⟨rp_X9_press, rfl, rfl, by decide, by decide⟩ rfl rd_kcl9 dL_act_401 rd_b0 rd_k0 rfl (Nat.le_of_ble_eq_true rfl) (fun v1 w1 hq => ?_)
      obtain ⟨hv1, hm1⟩ := hq; subst hv1
      exact rd_iret C dL_act_404 (pf_act_c (z := pf_press π (pu y0 4)) (by unfold pf_act; rw [if_neg (by omega), if_neg (by omega), if_neg (by omega), if_neg (by omega), if_neg (by omega), if_neg (by omega), if_neg (by omega), if_neg (by omega), if_neg (by omega), if_neg (by omega), if_neg (by omega), if_neg (by omega), if_neg (by omega), if_pos (by omega)]) hm1)
    · refine rd_swIn C dL_act_55 (by omega) (by omega) (off := 340) (by rw [h_55]; rfl) (tgt := 395) (by decide) ?_
      refine rd_aload_n C dL_act_395 rfl ?_
      refine rd_iload_n C dL_act_396 rfl ?_
      refine rd_iconst C dL_act_397 (n := 4) ⟨by decide, by decide⟩ ?_
      refine rd_callS C (c_L_up (by omega)) rm_L_49 rt_L_up rc_L_up rz_L ⟨rp_L_up, rfl, rfl, by decide, by decide⟩ rfl dL_act_398 rfl (Nat.le_of_ble_eq_true rfl) (fun v1 w1 hq => ?_)
      obtain ⟨hv1, hm1⟩ := hq; rw [hv1, hm1]; clear hv1 hm1 v1 w1
      have hu_401 := pu_r y0 (n := 4) (by omega)
      refine rd_callV C (kq_press hS) rm_L_96 ri_X9_press rs_X9_press rc_X9_press rz_X9 ⟨rp_X9_press, rfl, rfl, by decide, by decide⟩ rfl rd_kcl9 dL_act_401 rd_b0 rd_k0 rfl (Nat.le_of_ble_eq_true rfl) (fun v1 w1 hq => ?_)
      obtain ⟨hv1, hm1⟩ := hq; subst hv1
      exact rd_iret C dL_act_404 (pf_act_c (z := pf_press π (pu y0 4)) (by unfold pf_act; rw [if_neg (by omega), if_neg (by omega), if_neg (by omega), if_neg (by omega), if_neg (by omega), if_neg (by omega), if_neg (by omega), if_neg (by omega), if_neg (by omega), if_neg (by omega), if_neg (by omega), if_neg (by omega), if_neg (by omega), if_pos (by omega)]) hm1)
    · refine rd_swIn C dL_act_55 (by omega) (by omega) (off := 350) (by rw [h_55]; rfl) (tgt := 405) (by decide) ?_
      refine rd_aload_n C dL_act_405 rfl ?_
      refine rd_iconst C dL_act_406 (n := 1) ⟨by decide, by decide⟩ ?_
      refine rd_iload_n C dL_act_407 rfl ?_
      refine rd_iload_n C dL_act_408 rfl ?_
      refine rd_bipush C dL_act_409 (n := 9) (by decide) ⟨by decide, by decide⟩ ?_
      refine rd_ishr C dL_act_411 (z := pu_s y0 9) (pu_t _) (pu_to _) ?_
      refine rd_iconst C dL_act_412 (n := 3) ⟨by decide, by decide⟩ ?_
      refine rd_iand C dL_act_413 (z := pu_n (pu_s y0 9) 3) (pu_t _) (pu_to _) ?_
      refine rd_if_ne C dL_act_414 (tgt := 422) (by decide) (fun h_414 => ?_) (fun h_414 => ?_)
      · refine rd_bipush C dL_act_422 (n := 10) (by decide) ⟨by decide, by decide⟩ ?_
        refine rd_callS C (c_L_up (by omega)) rm_L_49 rt_L_up rc_L_up rz_L ⟨rp_L_up, rfl, rfl, by decide, by decide⟩ rfl dL_act_424 rfl (Nat.le_of_ble_eq_true rfl) (fun v1 w1 hq => ?_)
        obtain ⟨hv1, hm1⟩ := hq; rw [hv1, hm1]; clear hv1 hm1 v1 w1
        have hu_427 := pu_r y0 (n := 10) (by omega)
        refine rd_iadd C dL_act_427 (z := 1 + pu y0 10) rfl ⟨by omega, by omega⟩ ?_
        refine rd_callV C (kq_tick hS) rm_L_99 ri_X9_tick rs_X9_tick rc_X9_tick rz_X9 ⟨rp_X9_tick, rfl, rfl, by decide, by decide⟩ rfl rd_kcl9 dL_act_428 rd_b0 rd_k0 rfl (Nat.le_of_ble_eq_true rfl) (fun v1 w1 hq => ?_)
        obtain ⟨hv1, hm1⟩ := hq; subst hv1
        exact rd_iret C dL_act_431 (pf_act_c (z := pf_tick π (1 + pu y0 10)) (by unfold pf_act; rw [if_neg (by omega), if_neg (by omega), if_neg (by omega), if_neg (by omega), if_neg (by omega), if_neg (by omega), if_neg (by omega), if_neg (by omega), if_neg (by omega), if_neg (by omega), if_neg (by omega), if_neg (by omega), if_neg (by omega), if_neg (by omega), if_pos (by omega)]; rw [if_neg (by omega)]) hm1)
      · refine rd_bipush C dL_act_417 (n := 99) (by decide) ⟨by decide, by decide⟩ ?_
        refine rd_goto C dL_act_419 (tgt := 424) (by decide) ?_
        refine rd_callS C (c_L_up (by omega)) rm_L_49 rt_L_up rc_L_up rz_L ⟨rp_L_up, rfl, rfl, by decide, by decide⟩ rfl dL_act_424 rfl (Nat.le_of_ble_eq_true rfl) (fun v1 w1 hq => ?_)
        obtain ⟨hv1, hm1⟩ := hq; rw [hv1, hm1]; clear hv1 hm1 v1 w1
        have hu_427 := pu_r y0 (n := 99) (by omega)
        refine rd_iadd C dL_act_427 (z := 1 + pu y0 99) rfl ⟨by omega, by omega⟩ ?_
        refine rd_callV C (kq_tick hS) rm_L_99 ri_X9_tick rs_X9_tick rc_X9_tick rz_X9 ⟨rp_X9_tick, rfl, rfl, by decide, by decide⟩ rfl rd_kcl9 dL_act_428 rd_b0 rd_k0 rfl (Nat.le_of_ble_eq_true rfl) (fun v1 w1 hq => ?_)
        obtain ⟨hv1, hm1⟩ := hq; subst hv1
        exact rd_iret C dL_act_431 (pf_act_c (z := pf_tick π (1 + pu y0 99)) (by unfold pf_act; rw [if_neg (by omega), if_neg (by omega), if_neg (by omega), if_neg (by omega), if_neg (by omega), if_neg (by omega), if_neg (by omega), if_neg (by omega), if_neg (by omega), if_neg (by omega), if_neg (by omega), if_neg (by omega), if_neg (by omega), if_neg (by omega), if_pos (by omega)]; rw [if_pos (by omega)]) hm1)
    · refine rd_swIn C dL_act_55 (by omega) (by omega) (off := 350) (by rw [h_55]; rfl) (tgt := 405) (by decide) ?_
      refine rd_aload_n C dL_act_405 rfl ?_
      refine rd_iconst C dL_act_406 (n := 1) ⟨by decide, by decide⟩ ?_
      refine rd_iload_n C dL_act_407 rfl ?_
      refine rd_iload_n C dL_act_408 rfl ?_
      refine rd_bipush C dL_act_409 (n := 9) (by decide) ⟨by decide, by decide⟩ ?_
      refine rd_ishr C dL_act_411 (z := pu_s y0 9) (pu_t _) (pu_to _) ?_
      refine rd_iconst C dL_act_412 (n := 3) ⟨by decide, by decide⟩ ?_
      refine rd_iand C dL_act_413 (z := pu_n (pu_s y0 9) 3) (pu_t _) (pu_to _) ?_
      refine rd_if_ne C dL_act_414 (tgt := 422) (by decide) (fun h_414 => ?_) (fun h_414 => ?_)
      · refine rd_bipush C dL_act_422 (n := 10) (by decide) ⟨by decide, by decide⟩ ?_
        refine rd_callS C (c_L_up (by omega)) rm_L_49 rt_L_up rc_L_up rz_L ⟨rp_L_up, rfl, rfl, by decide, by decide⟩ rfl dL_act_424 rfl (Nat.le_of_ble_eq_true rfl) (fun v1 w1 hq => ?_)
        obtain ⟨hv1, hm1⟩ := hq; rw [hv1, hm1]; clear hv1 hm1 v1 w1
        have hu_427 := pu_r y0 (n := 10) (by omega)
        refine rd_iadd C dL_act_427 (z := 1 + pu y0 10) rfl ⟨by omega, by omega⟩ ?_
        refine rd_callV C (kq_tick hS) rm_L_99 ri_X9_tick rs_X9_tick rc_X9_tick rz_X9 ⟨rp_X9_tick, rfl, rfl, by decide, by decide⟩ rfl rd_kcl9 dL_act_428 rd_b0 rd_k0 rfl (Nat.le_of_ble_eq_true rfl) (fun v1 w1 hq => ?_)
        obtain ⟨hv1, hm1⟩ := hq; subst hv1
        exact rd_iret C dL_act_431 (pf_act_c (z := pf_tick π (1 + pu y0 10)) (by unfold pf_act; rw [if_neg (by omega), if_neg (by omega), if_neg (by omega), if_neg (by omega), if_neg (by omega), if_neg (by omega), if_neg (by omega), if_neg (by omega), if_neg (by omega), if_neg (by omega), if_neg (by omega), if_neg (by omega), if_neg (by omega), if_neg (by omega), if_pos (by omega)]; rw [if_neg (by omega)]) hm1)
      · refine rd_bipush C dL_act_417 (n := 99) (by decide) ⟨by decide, by decide⟩ ?_
        refine rd_goto C dL_act_419 (tgt := 424) (by decide) ?_
        refine rd_callS C (c_L_up (by omega)) rm_L_49 rt_L_up rc_L_up rz_L ⟨rp_L_up, rfl, rfl, by decide, by decide⟩ rfl dL_act_424 rfl (Nat.le_of_ble_eq_true rfl) (fun v1 w1 hq => ?_)
        obtain ⟨hv1, hm1⟩ := hq; rw [hv1, hm1]; clear hv1 hm1 v1 w1
        have hu_427 := pu_r y0 (n := 99) (by omega)
        refine rd_iadd C dL_act_427 (z := 1 + pu y0 99) rfl ⟨by omega, by omega⟩ ?_
        refine rd_callV C (kq_tick hS) rm_L_99 ri_X9_tick rs_X9_tick rc_X9_tick rz_X9 ⟨rp_X9_tick, rfl, rfl, by decide, by decide⟩ rfl rd_kcl9 dL_act_428 rd_b0 rd_k0 rfl (Nat.le_of_ble_eq_true rfl) (fun v1 w1 hq => ?_)
        obtain ⟨hv1, hm1⟩ := hq; subst hv1
        exact rd_iret C dL_act_431 (pf_act_c (z := pf_tick π (1 + pu y0 99)) (by unfold pf_act; rw [if_neg (by omega), if_neg (by omega), if_neg (by omega), if_neg (by omega), if_neg (by omega), if_neg (by omega), if_neg (by omega), if_neg (by omega), if_neg (by omega), if_neg (by omega), if_neg (by omega), if_neg (by omega), if_neg (by omega), if_neg (by omega), if_pos (by omega)]; rw [if_pos (by omega)]) hm1)
    · refine rd_swIn C dL_act_55 (by omega) (by omega) (off := 350) (by rw [h_55]; rfl) (tgt := 405) (by decide) ?_
      refine rd_aload_n C dL_act_405 rfl ?_
      refine rd_iconst C dL_act_406 (n := 1) ⟨by decide, by decide⟩ ?_
      refine rd_iload_n C dL_act_407 rfl ?_
      refine rd_iload_n C dL_act_408 rfl ?_
      refine rd_bipush C dL_act_409 (n := 9) (by decide) ⟨by decide, by decide⟩ ?_
      refine rd_ishr C dL_act_411 (z := pu_s y0 9) (pu_t _) (pu_to _) ?_
      refine rd_iconst C dL_act_412 (n := 3) ⟨by decide, by decide⟩ ?_
      refine rd_iand C dL_act_413 (z := pu_n (pu_s y0 9) 3) (pu_t _) (pu_to _) ?_
      refine rd_if_ne C dL_act_414 (tgt := 422) (by decide) (fun h_414 => ?_) (fun h_414 => ?_)
      · refine rd_bipush C dL_act_422 (n := 10) (by decide) ⟨by decide, by decide⟩ ?_
        refine rd_callS C (c_L_up (by omega)) rm_L_49 rt_L_up rc_L_up rz_L ⟨rp_L_up, rfl, rfl, by decide, by decide⟩ rfl dL_act_424 rfl (Nat.le_of_ble_eq_true rfl) (fun v1 w1 hq => ?_)
        obtain ⟨hv1, hm1⟩ := hq; rw [hv1, hm1]; clear hv1 hm1 v1 w1
        have hu_427 := pu_r y0 (n := 10) (by omega)
        refine rd_iadd C dL_act_427 (z := 1 + pu y0 10) rfl ⟨by omega, by omega⟩ ?_
        refine rd_callV C (kq_tick hS) rm_L_99 ri_X9_tick rs_X9_tick rc_X9_tick rz_X9 ⟨rp_X9_tick, rfl, rfl, by decide, by decide⟩ rfl rd_kcl9 dL_act_428 rd_b0 rd_k0 rfl (Nat.le_of_ble_eq_true rfl) (fun v1 w1 hq => ?_)
        obtain ⟨hv1, hm1⟩ := hq; subst hv1
        exact rd_iret C dL_act_431 (pf_act_c (z := pf_tick π (1 + pu y0 10)) (by unfold pf_act; rw [if_neg (by omega), if_neg (by omega), if_neg (by omega), if_neg (by omega), if_neg (by omega), if_neg (by omega), if_neg (by omega), if_neg (by omega), if_neg (by omega), if_neg (by omega), if_neg (by omega), if_neg (by omega), if_neg (by omega), if_neg (by omega), if_pos (by omega)]; rw [if_neg (by omega)]) hm1)
      · refine rd_bipush C dL_act_417 (n := 99) (by decide) ⟨by decide, by decide⟩ ?_
        refine rd_goto C dL_act_419 (tgt := 424) (by decide) ?_
        refine rd_callS C (c_L_up (by omega)) rm_L_49 rt_L_up rc_L_up rz_L ⟨rp_L_up, rfl, rfl, by decide, by decide⟩ rfl dL_act_424 rfl (Nat.le_of_ble_eq_true rfl) (fun v1 w1 hq => ?_)
        obtain ⟨hv1, hm1⟩ := hq; rw [hv1, hm1]; clear hv1 hm1 v1 w1
        have hu_427 := pu_r y0 (n := 99) (by omega)
        refine rd_iadd C dL_act_427 (z := 1 + pu y0 99) rfl ⟨by omega, by omega⟩ ?_
        refine rd_callV C (kq_tick hS) rm_L_99 ri_X9_tick rs_X9_tick rc_X9_tick rz_X9 ⟨rp_X9_tick, rfl, rfl, by decide, by decide⟩ rfl rd_kcl9 dL_act_428 rd_b0 rd_k0 rfl (Nat.le_of_ble_eq_true rfl) (fun v1 w1 hq => ?_)
        obtain ⟨hv1, hm1⟩ := hq; subst hv1
        exact rd_iret C dL_act_431 (pf_act_c (z := pf_tick π (1 + pu y0 99)) (by unfold pf_act; rw [if_neg (by omega), if_neg (by omega), if_neg (by omega), if_neg (by omega), if_neg (by omega), if_neg (by omega), if_neg (by omega), if_neg (by omega), if_neg (by omega), if_neg (by omega), if_neg (by omega), if_neg (by omega), if_neg (by omega), if_neg (by omega), if_pos (by omega)]; rw [if_pos (by omega)]) hm1)
    · refine rd_swOut C dL_act_55 h_55 (tgt := 432) (by decide) ?_
      refine rd_aload_n C dL_act_432 rfl ?_
      refine rd_iconst C dL_act_433 (n := 0) ⟨by decide, by decide⟩ ?_
      refine rd_callV C (kq_now hS) rm_L_23 ri_X9_now rs_X9_now rc_X9_now rz_X9 ⟨rp_X9_now, rfl, rfl, by decide, by decide⟩ rfl rd_kcl9 dL_act_434 rd_b0 rd_k0 rfl (Nat.le_of_ble_eq_true rfl) (fun v1 w1 hq => ?_)
      obtain ⟨hv1, hm1⟩ := hq; rw [hv1, hm1]; clear hv1 hm1 v1 w1
      refine rd_if_ge C dL_act_437 (tgt := 447) (by decide) (fun h_437 => ?_) (fun h_437 => ?_)
      · refine rd_aload_n C dL_act_447 rfl ?_
        refine rd_callV C (kq_forward hS) rm_L_102 ri_X9_forward rs_X9_forward rc_X9_forward rz_X9 ⟨rp_X9_forward, rfl, rfl, by decide, by decide⟩ rfl rd_kcl9 dL_act_448 rd_b0 rd_k0 rfl (Nat.le_of_ble_eq_true rfl) (fun v1 w1 hq => ?_)
        obtain ⟨hv1, hm1⟩ := hq; subst hv1
        exact rd_iret C dL_act_451 (pf_act_c (z := pf_forward π) (by unfold pf_act; rw [if_neg (by omega), if_neg (by omega), if_neg (by omega), if_neg (by omega), if_neg (by omega), if_neg (by omega), if_neg (by omega), if_neg (by omega), if_neg (by omega), if_neg (by omega), if_neg (by omega), if_neg (by omega), if_neg (by omega), if_neg (by omega), if_neg (by omega)]; rw [if_neg (by omega)]) hm1)
      · refine rd_aload_n C dL_act_440 rfl ?_
        refine rd_callV C (kq_start hS) rm_L_90 ri_X9_start rs_X9_start rc_X9_start rz_X9 ⟨rp_X9_start, rfl, rfl, by decide, by decide⟩ rfl rd_kcl9 dL_act_441 rd_b0 rd_k0 rfl (Nat.le_of_ble_eq_true rfl) (fun v1 w1 hq => ?_)
        obtain ⟨hv1, hm1⟩ := hq; subst hv1
        refine rd_goto C dL_act_444 (tgt := 451) (by decide) ?_
        exact rd_iret C dL_act_451 (pf_act_c (z := pf_start π) (by unfold pf_act; rw [if_neg (by omega), if_neg (by omega), if_neg (by omega), if_neg (by omega), if_neg (by omega), if_neg (by omega), if_neg (by omega), if_neg (by omega), if_neg (by omega), if_neg (by omega), if_neg (by omega), if_neg (by omega), if_neg (by omega), if_neg (by omega), if_neg (by omega)]; rw [if_pos (by omega)]) hm1)
  · refine rd_aload_n C dL_act_10 rfl ?_
    refine rd_callV C (kq_addSlide hS) rm_L_46 ri_X9_addSlide rs_X9_addSlide rc_X9_addSlide rz_X9 ⟨rp_X9_addSlide, rfl, rfl, by decide, by decide⟩ rfl rd_kcl9 dL_act_11 rd_b0 rd_k0 rfl (Nat.le_of_ble_eq_true rfl) (fun v1 w1 hq => ?_)
    obtain ⟨hv1, hm1⟩ := hq; subst hv1
    exact rd_iret C dL_act_14 (pf_act_c (z := pf_addSlide π) (by unfold pf_act; rw [if_pos (by omega)]) hm1)
