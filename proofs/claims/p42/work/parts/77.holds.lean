/-! the law's holds -/
set_option maxHeartbeats 4000000 in
set_option maxRecDepth 100000 in
theorem c_L_holds {l : Launch} {G : rd_G} {r : Nat} {μ : rd_Mem} {π : rd_Mem} {lh : List rd_Mem} (hS : pg_S μ π lh) {k : Int} (hE : px_E k π) (hk2 : k < 800000) : rd_M l G rd_kc 313 r yL_holds cL_holds 10 (some .boolean) (rd_rm 5 135) [rd_R 0] μ (fun v μ' => v = some (rd_I 1) ∧ pg_S μ' π lh) := by
  refine rd_enter (by decide +kernel) (Nat.le_of_ble_eq_true rfl) [rd_R 0, rd_J, rd_J, rd_J, rd_J, rd_J, rd_J, rd_J, rd_J, rd_J] rfl (fun p e s m args below meth c C => ?_)
  refine rd_W.rng (fun hM hL _ => ?_)
  have hR := hS.1
  have hcn := px_cn hR
  have h4n := ph_n4 hR
  have hon := ph_on hR
  have hsld : pv_slides π = π 1 0 := rfl
  have hend : pv_end π = π 1 28 := rfl
  refine rd_aload_n C dL_holds_0 rfl ?_
  refine rd_iconst C dL_holds_1 (n := 4) ⟨by decide, by decide⟩ ?_
  refine rd_callV C (kq_now hS) rm_L_23 ri_X9_now rs_X9_now rc_X9_now rz_X9 ⟨rp_X9_now, rfl, rfl, by decide, by decide⟩ rfl rd_kcl9 dL_holds_2 rd_b0 rd_k0 rfl (Nat.le_of_ble_eq_true rfl) (fun v1 w1 hq => ?_)
  obtain ⟨hv1, hm1⟩ := hq; rw [hv1, hm1]; clear hv1 hm1 v1 w1
  refine rd_bipush C dL_holds_5 (n := 40) (by decide) ⟨by decide, by decide⟩ ?_
  refine rd_icmp_gt C dL_holds_7 (tgt := 23) (by decide) (fun h_7 => ?_) (fun h_7 => ?_)
  · exfalso; omega
  · refine rd_aload_n C dL_holds_10 rfl ?_
    refine rd_callV C (kq_slides hS) rm_L_13 ri_X9_slides rs_X9_slides rc_X9_slides rz_X9 ⟨rp_X9_slides, rfl, rfl, by decide, by decide⟩ rfl rd_kcl9 dL_holds_11 rd_b0 rd_k0 rfl (Nat.le_of_ble_eq_true rfl) (fun v1 w1 hq => ?_)
    obtain ⟨hv1, hm1⟩ := hq; rw [hv1, hm1, hsld]; clear hv1 hm1 v1 w1
    refine rd_bipush C dL_holds_14 (n := 10) (by decide) ⟨by decide, by decide⟩ ?_
    refine rd_icmp_gt C dL_holds_16 (tgt := 23) (by decide) (fun h_16 => ?_) (fun h_16 => ?_)
    · exfalso; omega
    · refine rd_iconst C dL_holds_19 (n := 1) ⟨by decide, by decide⟩ ?_
      refine rd_goto C dL_holds_20 (tgt := 24) (by decide) ?_
      refine rd_istore_n C dL_holds_24 (by decide) (L' := [rd_R 0, rd_I 1, rd_J, rd_J, rd_J, rd_J, rd_J, rd_J, rd_J, rd_J]) rfl ?_
      refine rd_iconst C dL_holds_25 (n := 0) ⟨by decide, by decide⟩ ?_
      refine rd_istore_n C dL_holds_26 (by decide) (L' := [rd_R 0, rd_I 1, rd_I 0, rd_J, rd_J, rd_J, rd_J, rd_J, rd_J, rd_J]) rfl ?_
      refine rd_aload_n C dL_holds_27 rfl ?_
      refine rd_iconst C dL_holds_28 (n := 0) ⟨by decide, by decide⟩ ?_
      refine rd_callV C (kq_now hS) rm_L_23 ri_X9_now rs_X9_now rc_X9_now rz_X9 ⟨rp_X9_now, rfl, rfl, by decide, by decide⟩ rfl rd_kcl9 dL_holds_29 rd_b0 rd_k0 rfl (Nat.le_of_ble_eq_true rfl) (fun v1 w1 hq => ?_)
      obtain ⟨hv1, hm1⟩ := hq; rw [hv1, hm1]; clear hv1 hm1 v1 w1
      refine rd_istore_n C dL_holds_32 (by decide) (L' := [rd_R 0, rd_I 1, rd_I 0, rd_I (pv_now π 0), rd_J, rd_J, rd_J, rd_J, rd_J, rd_J]) rfl ?_
      refine rd_iconst C dL_holds_33 (n := 0) ⟨by decide, by decide⟩ ?_
      refine rd_istore C dL_holds_34 (by decide) (L' := [rd_R 0, rd_I 1, rd_I 0, rd_I (pv_now π 0), rd_I 0, rd_J, rd_J, rd_J, rd_J, rd_J]) rfl ?_
      have lp36 : ∀ (n : Nat) (mm : rd_Mem) (x c4 : Int), (pg_S mm π lh) → (0 ≤ c4 ∧ c4 ≤ π 1 0) → (π 1 0 < c4 + n) → (x = sp_sum (fun i => mo_FS π (π 1 (1 + i)) + 1) c4.toNat) → rd_W p l e (rd_rm 5 135) s m args below meth c (MQ below (rd_Qc G rd_kc 313 r (fun v μ' => v = some (rd_I 1) ∧ pg_S μ' π lh)) args s 0 0 (rd_A r 313)) 10 G rd_kc 313 r 36 [rd_R 0, rd_I 1, rd_I x, rd_I (pv_now π 0), rd_I c4, rd_J, rd_J, rd_J, rd_J, rd_J] [] mm := by
        intro n
        induction n with
        | zero => intro mm x c4 hSm h2 h3 hx; exfalso; omega
        | succ n ih36 =>
          intro mm x c4 hSm h2 h3 hx
          refine rd_iload C dL_holds_36 rfl ?_
          refine rd_aload_n C dL_holds_38 rfl ?_
          refine rd_callV C (kq_slides hSm) rm_L_13 ri_X9_slides rs_X9_slides rc_X9_slides rz_X9 ⟨rp_X9_slides, rfl, rfl, by decide, by decide⟩ rfl rd_kcl9 dL_holds_39 rd_b0 rd_k0 rfl (Nat.le_of_ble_eq_true rfl) (fun v1 w1 hq => ?_)
          obtain ⟨hv1, hm1⟩ := hq; rw [hv1, hm1, hsld]; clear hv1 hm1 v1 w1
          refine rd_icmp_ge C dL_holds_42 (tgt := 360) (by decide) (fun h_42 => ?_) (fun h_42 => ?_)
          · have hb := ph_back hR
            have hE28 := hE.1
            have h5 : (π 1 29 = 1 → (mo_ov π ∧ pv_now π 5 = 1) ∨ (¬ mo_ov π ∧ pv_now π 5 = 0)) := fun g => pm_now5 g
            have h5x : π 1 29 = 0 → pv_now π 5 = -6 := fun g => pm_nowx g (by omega)
            have hcc : c4 = π 1 0 := by omega
            have hsumr := ph_sum hR (n := (π 1 0).toNat) (by omega)
            have hxs : x = sp_sum (fun i => mo_FS π (π 1 (1 + i)) + 1) (π 1 0).toNat := by rw [hx, hcc]
            have j376 : ∀ (cv : Int), ((cv = 1 ∧ pv_now π 5 = 1) ∨ (cv = 0 ∧ pv_now π 5 ≠ 1)) → rd_W p l e (rd_rm 5 135) s m args below meth c (MQ below (rd_Qc G rd_kc 313 r (fun v μ' => v = some (rd_I 1) ∧ pg_S μ' π lh)) args s 0 0 (rd_A r 313)) 10 G rd_kc 313 r 376 [rd_R 0, rd_I 1, rd_I x, rd_I (pv_now π 0), rd_I cv, rd_J, rd_J, rd_J, rd_J, rd_J] [] mm := by
              intro cv hc
              refine rd_aload_n C dL_holds_376 rfl ?_
              refine rd_callV C (kq_backTo hSm) rm_L_108 ri_X9_backTo rs_X9_backTo rc_X9_backTo rz_X9 ⟨rp_X9_backTo, rfl, rfl, by decide, by decide⟩ rfl rd_kcl9 dL_holds_377 rd_b0 rd_k0 rfl (Nat.le_of_ble_eq_true rfl) (fun v1 w1 hq => ?_)
              obtain ⟨hv1, hm1⟩ := hq; rw [hv1, hm1]; clear hv1 hm1 v1 w1
              refine rd_istore C dL_holds_380 (by decide) (L' := [rd_R 0, rd_I 1, rd_I x, rd_I (pv_now π 0), rd_I cv, rd_I (pv_backTo π), rd_J, rd_J, rd_J, rd_J]) rfl ?_
              have j499 : rd_W p l e (rd_rm 5 135) s m args below meth c (MQ below (rd_Qc G rd_kc 313 r (fun v μ' => v = some (rd_I 1) ∧ pg_S μ' π lh)) args s 0 0 (rd_A r 313)) 10 G rd_kc 313 r 499 [rd_R 0, rd_I 1, rd_I x, rd_I (pv_now π 0), rd_I cv, rd_I (pv_backTo π), rd_J, rd_J, rd_J, rd_J] [] mm := by
                have hb2 : pv_backTo π = -6 ∨ (0 ≤ pv_backTo π ∧ 0 ≤ pv_slide π (pv_backTo π) 0 ∧ cv = 0) := by
                  rcases hb with g | ⟨g1, g2, g3⟩
                  · exact Or.inl g
                  · right; refine ⟨g1, by rw [(pm_slide (q := 0) g3).1 rfl]; exact (px_pl hR g3).1, ?_⟩
                    have g5 := (h5 g2.1).resolve_left (fun g => g2.2 g.1)
                    omega
                have htr1 : 0 ≤ pv_now π 4 → pv_trail π (pv_now π 4) 0 = -6 := fun g => ph_trail _ g (by rcases pm_29 hR with e | e; exact Or.inr (by rw [(pm_now e).2.2.2.2.1]; omega); exact Or.inl (by omega))
                have htr2 : pv_now π 4 < 0 → pv_trail π 0 0 = -6 := fun g => ph_trail _ (by omega) (by rcases pm_29 hR with e | e; exact absurd ((pm_now e).2.2.2.2.1) (by have := (rl_J hR).1.2.1.1; omega); exact Or.inl (by omega))
                refine rd_iload_n C dL_holds_499 rfl ?_
                refine rd_if_eq C dL_holds_500 (tgt := 583) (by decide) (fun h => absurd h (by decide)) (fun _ => ?_)
                refine rd_iload C dL_holds_503 rfl ?_
                refine rd_bipush C dL_holds_505 (n := -6) (by decide) ⟨by decide, by decide⟩ ?_
                refine rd_icmp_eq C dL_holds_507 (tgt := 525) (by decide) (fun h_507 => ?_) (fun h_507 => ?_)
                · refine rd_aload_n C dL_holds_525 rfl ?_
                  refine rd_aload_n C dL_holds_526 rfl ?_
                  refine rd_iconst C dL_holds_527 (n := 4) ⟨by decide, by decide⟩ ?_
                  refine rd_callV C (kq_now hSm) rm_L_23 ri_X9_now rs_X9_now rc_X9_now rz_X9 ⟨rp_X9_now, rfl, rfl, by decide, by decide⟩ rfl rd_kcl9 dL_holds_528 rd_b0 rd_k0 rfl (Nat.le_of_ble_eq_true rfl) (fun v1 w1 hq => ?_)
                  obtain ⟨hv1, hm1⟩ := hq; rw [hv1, hm1]; clear hv1 hm1 v1 w1
                  refine rd_if_ge C dL_holds_531 (tgt := 538) (by decide) (fun h_531 => ?_) (fun h_531 => ?_)
                  · refine rd_aload_n C dL_holds_538 rfl ?_
                    refine rd_iconst C dL_holds_539 (n := 4) ⟨by decide, by decide⟩ ?_
                    refine rd_callV C (kq_now hSm) rm_L_23 ri_X9_now rs_X9_now rc_X9_now rz_X9 ⟨rp_X9_now, rfl, rfl, by decide, by decide⟩ rfl rd_kcl9 dL_holds_540 rd_b0 rd_k0 rfl (Nat.le_of_ble_eq_true rfl) (fun v1 w1 hq => ?_)
                    obtain ⟨hv1, hm1⟩ := hq; rw [hv1, hm1]; clear hv1 hm1 v1 w1
                    refine rd_iconst C dL_holds_543 (n := 0) ⟨by decide, by decide⟩ ?_
                    refine rd_callV C (kq_trail hSm) rm_L_27 ri_X9_trail rs_X9_trail rc_X9_trail rz_X9 ⟨rp_X9_trail, rfl, rfl, by decide, by decide⟩ rfl rd_kcl9 dL_holds_544 rd_b0 rd_k0 rfl (Nat.le_of_ble_eq_true rfl) (fun v1 w1 hq => ?_)
                    obtain ⟨hv1, hm1⟩ := hq; rw [hv1, hm1]; clear hv1 hm1 v1 w1
                    refine rd_bipush C dL_holds_547 (n := -6) (by decide) ⟨by decide, by decide⟩ ?_
                    refine rd_icmp_ne C dL_holds_549 (tgt := 583) (by decide) (fun h_549 => ?_) (fun h_549 => ?_)
                    · exfalso; omega
                    · refine rd_aload_n C dL_holds_552 rfl ?_
                      refine rd_callV C (kq_meanSteps hSm) rm_L_117 ri_X9_meanSteps rs_X9_meanSteps rc_X9_meanSteps rz_X9 ⟨rp_X9_meanSteps, rfl, rfl, by decide, by decide⟩ rfl rd_kcl9 dL_holds_553 rd_b0 rd_k0 rfl (Nat.le_of_ble_eq_true rfl) (fun v1 w1 hq => ?_)
                      obtain ⟨hv1, hm1⟩ := hq; rw [hm1]; clear hm1 w1
                      rcases hv1 with ⟨h0c, hv1⟩ | ⟨h0c, hv1⟩
                      · rw [hv1]; clear hv1 v1
                        refine rd_aload_n C dL_holds_556 rfl ?_
                        refine rd_callV C (kq_slides hSm) rm_L_13 ri_X9_slides rs_X9_slides rc_X9_slides rz_X9 ⟨rp_X9_slides, rfl, rfl, by decide, by decide⟩ rfl rd_kcl9 dL_holds_557 rd_b0 rd_k0 rfl (Nat.le_of_ble_eq_true rfl) (fun v1 w1 hq => ?_)
                        obtain ⟨hv1, hm1⟩ := hq; rw [hv1, hm1, hsld]; clear hv1 hm1 v1 w1
                        refine rd_if_ne C dL_holds_560 (tgt := 567) (by decide) (fun h_560 => ?_) (fun h_560 => ?_)
                        · exfalso; omega
                        · refine rd_fconst0 C dL_holds_563 ?_
                          refine rd_goto C dL_holds_564 (tgt := 575) (by decide) ?_
                          refine rd_fcmp C dL_holds_575 pg_fc0 ?_
                          refine rd_if_ne C dL_holds_576 (tgt := 583) (by decide) (fun h => absurd h (by decide)) (fun _ => ?_)
                          refine rd_iconst C dL_holds_579 (n := 1) ⟨by decide, by decide⟩ ?_
                          refine rd_goto C dL_holds_580 (tgt := 584) (by decide) ?_
                          exact rd_zret C dL_holds_584 (by omega) ⟨rfl, hSm⟩
                      · rw [hv1]; clear hv1 v1
                        refine rd_aload_n C dL_holds_556 rfl ?_
                        refine rd_callV C (kq_slides hSm) rm_L_13 ri_X9_slides rs_X9_slides rc_X9_slides rz_X9 ⟨rp_X9_slides, rfl, rfl, by decide, by decide⟩ rfl rd_kcl9 dL_holds_557 rd_b0 rd_k0 rfl (Nat.le_of_ble_eq_true rfl) (fun v1 w1 hq => ?_)
                        obtain ⟨hv1, hm1⟩ := hq; rw [hv1, hm1, hsld]; clear hv1 hm1 v1 w1
                        refine rd_if_ne C dL_holds_560 (tgt := 567) (by decide) (fun h_560 => ?_) (fun h_560 => ?_)
                        · refine rd_iload_n C dL_holds_567 rfl ?_
                          refine rd_i2f C dL_holds_568 ?_
                          refine rd_aload_n C dL_holds_569 rfl ?_
                          refine rd_callV C (kq_slides hSm) rm_L_13 ri_X9_slides rs_X9_slides rc_X9_slides rz_X9 ⟨rp_X9_slides, rfl, rfl, by decide, by decide⟩ rfl rd_kcl9 dL_holds_570 rd_b0 rd_k0 rfl (Nat.le_of_ble_eq_true rfl) (fun v1 w1 hq => ?_)
                          obtain ⟨hv1, hm1⟩ := hq; rw [hv1, hm1, hsld]; clear hv1 hm1 v1 w1
                          refine rd_i2f C dL_holds_573 ?_
                          refine rd_fdiv C dL_holds_574 (by rw [hxs]; exact sp_fd hsumr.1 (by omega) (by omega) (by omega)) ?_
                          refine rd_fcmp C dL_holds_575 (by rw [hxs]; exact pg_fc hsumr.1 (by omega) (by omega) (by omega)) ?_
                          refine rd_if_ne C dL_holds_576 (tgt := 583) (by decide) (fun h => absurd h (by decide)) (fun _ => ?_)
                          refine rd_iconst C dL_holds_579 (n := 1) ⟨by decide, by decide⟩ ?_
                          refine rd_goto C dL_holds_580 (tgt := 584) (by decide) ?_
                          exact rd_zret C dL_holds_584 (by omega) ⟨rfl, hSm⟩
                        · exfalso; omega
                  · refine rd_iconst C dL_holds_534 (n := 0) ⟨by decide, by decide⟩ ?_
                    refine rd_goto C dL_holds_535 (tgt := 543) (by decide) ?_
                    refine rd_iconst C dL_holds_543 (n := 0) ⟨by decide, by decide⟩ ?_
                    refine rd_callV C (kq_trail hSm) rm_L_27 ri_X9_trail rs_X9_trail rc_X9_trail rz_X9 ⟨rp_X9_trail, rfl, rfl, by decide, by decide⟩ rfl rd_kcl9 dL_holds_544 rd_b0 rd_k0 rfl (Nat.le_of_ble_eq_true rfl) (fun v1 w1 hq => ?_)
                    obtain ⟨hv1, hm1⟩ := hq; rw [hv1, hm1]; clear hv1 hm1 v1 w1
                    refine rd_bipush C dL_holds_547 (n := -6) (by decide) ⟨by decide, by decide⟩ ?_
                    refine rd_icmp_ne C dL_holds_549 (tgt := 583) (by decide) (fun h_549 => ?_) (fun h_549 => ?_)
                    · exfalso; omega
                    · refine rd_aload_n C dL_holds_552 rfl ?_
                      refine rd_callV C (kq_meanSteps hSm) rm_L_117 ri_X9_meanSteps rs_X9_meanSteps rc_X9_meanSteps rz_X9 ⟨rp_X9_meanSteps, rfl, rfl, by decide, by decide⟩ rfl rd_kcl9 dL_holds_553 rd_b0 rd_k0 rfl (Nat.le_of_ble_eq_true rfl) (fun v1 w1 hq => ?_)
                      obtain ⟨hv1, hm1⟩ := hq; rw [hm1]; clear hm1 w1
                      rcases hv1 with ⟨h0c, hv1⟩ | ⟨h0c, hv1⟩
                      · rw [hv1]; clear hv1 v1
                        refine rd_aload_n C dL_holds_556 rfl ?_
                        refine rd_callV C (kq_slides hSm) rm_L_13 ri_X9_slides rs_X9_slides rc_X9_slides rz_X9 ⟨rp_X9_slides, rfl, rfl, by decide, by decide⟩ rfl rd_kcl9 dL_holds_557 rd_b0 rd_k0 rfl (Nat.le_of_ble_eq_true rfl) (fun v1 w1 hq => ?_)
                        obtain ⟨hv1, hm1⟩ := hq; rw [hv1, hm1, hsld]; clear hv1 hm1 v1 w1
                        refine rd_if_ne C dL_holds_560 (tgt := 567) (by decide) (fun h_560 => ?_) (fun h_560 => ?_)
                        · exfalso; omega
                        · refine rd_fconst0 C dL_holds_563 ?_
                          refine rd_goto C dL_holds_564 (tgt := 575) (by decide) ?_
                          refine rd_fcmp C dL_holds_575 pg_fc0 ?_
                          refine rd_if_ne C dL_holds_576 (tgt := 583) (by decide) (fun h => absurd h (by decide)) (fun _ => ?_)
                          refine rd_iconst C dL_holds_579 (n := 1) ⟨by decide, by decide⟩ ?_
                          refine rd_goto C dL_holds_580 (tgt := 584) (by decide) ?_
                          exact rd_zret C dL_holds_584 (by omega) ⟨rfl, hSm⟩
                      · rw [hv1]; clear hv1 v1
                        refine rd_aload_n C dL_holds_556 rfl ?_
                        refine rd_callV C (kq_slides hSm) rm_L_13 ri_X9_slides rs_X9_slides rc_X9_slides rz_X9 ⟨rp_X9_slides, rfl, rfl, by decide, by decide⟩ rfl rd_kcl9 dL_holds_557 rd_b0 rd_k0 rfl (Nat.le_of_ble_eq_true rfl) (fun v1 w1 hq => ?_)
                        obtain ⟨hv1, hm1⟩ := hq; rw [hv1, hm1, hsld]; clear hv1 hm1 v1 w1
                        refine rd_if_ne C dL_holds_560 (tgt := 567) (by decide) (fun h_560 => ?_) (fun h_560 => ?_)
                        · refine rd_iload_n C dL_holds_567 rfl ?_
                          refine rd_i2f C dL_holds_568 ?_
                          refine rd_aload_n C dL_holds_569 rfl ?_
                          refine rd_callV C (kq_slides hSm) rm_L_13 ri_X9_slides rs_X9_slides rc_X9_slides rz_X9 ⟨rp_X9_slides, rfl, rfl, by decide, by decide⟩ rfl rd_kcl9 dL_holds_570 rd_b0 rd_k0 rfl (Nat.le_of_ble_eq_true rfl) (fun v1 w1 hq => ?_)
                          obtain ⟨hv1, hm1⟩ := hq; rw [hv1, hm1, hsld]; clear hv1 hm1 v1 w1
                          refine rd_i2f C dL_holds_573 ?_
                          refine rd_fdiv C dL_holds_574 (by rw [hxs]; exact sp_fd hsumr.1 (by omega) (by omega) (by omega)) ?_
                          refine rd_fcmp C dL_holds_575 (by rw [hxs]; exact pg_fc hsumr.1 (by omega) (by omega) (by omega)) ?_
                          refine rd_if_ne C dL_holds_576 (tgt := 583) (by decide) (fun h => absurd h (by decide)) (fun _ => ?_)
                          refine rd_iconst C dL_holds_579 (n := 1) ⟨by decide, by decide⟩ ?_
                          refine rd_goto C dL_holds_580 (tgt := 584) (by decide) ?_
                          exact rd_zret C dL_holds_584 (by omega) ⟨rfl, hSm⟩
                        · exfalso; omega
                · refine rd_aload_n C dL_holds_510 rfl ?_
                  refine rd_iload C dL_holds_511 rfl ?_
                  refine rd_iconst C dL_holds_513 (n := 0) ⟨by decide, by decide⟩ ?_
                  refine rd_callV C (kq_slide hSm) rm_L_34 ri_X9_slide rs_X9_slide rc_X9_slide rz_X9 ⟨rp_X9_slide, rfl, rfl, by decide, by decide⟩ rfl rd_kcl9 dL_holds_514 rd_b0 rd_k0 rfl (Nat.le_of_ble_eq_true rfl) (fun v1 w1 hq => ?_)
                  obtain ⟨hv1, hm1⟩ := hq; rw [hv1, hm1]; clear hv1 hm1 v1 w1
                  refine rd_if_lt C dL_holds_517 (tgt := 583) (by decide) (fun h_517 => ?_) (fun h_517 => ?_)
                  · exfalso; omega
                  · refine rd_iload C dL_holds_520 rfl ?_
                    refine rd_if_ne C dL_holds_522 (tgt := 583) (by decide) (fun h_522 => ?_) (fun h_522 => ?_)
                    · exfalso; omega
                    · refine rd_aload_n C dL_holds_525 rfl ?_
                      refine rd_aload_n C dL_holds_526 rfl ?_
                      refine rd_iconst C dL_holds_527 (n := 4) ⟨by decide, by decide⟩ ?_
                      refine rd_callV C (kq_now hSm) rm_L_23 ri_X9_now rs_X9_now rc_X9_now rz_X9 ⟨rp_X9_now, rfl, rfl, by decide, by decide⟩ rfl rd_kcl9 dL_holds_528 rd_b0 rd_k0 rfl (Nat.le_of_ble_eq_true rfl) (fun v1 w1 hq => ?_)
                      obtain ⟨hv1, hm1⟩ := hq; rw [hv1, hm1]; clear hv1 hm1 v1 w1
                      refine rd_if_ge C dL_holds_531 (tgt := 538) (by decide) (fun h_531 => ?_) (fun h_531 => ?_)
                      · refine rd_aload_n C dL_holds_538 rfl ?_
                        refine rd_iconst C dL_holds_539 (n := 4) ⟨by decide, by decide⟩ ?_
                        refine rd_callV C (kq_now hSm) rm_L_23 ri_X9_now rs_X9_now rc_X9_now rz_X9 ⟨rp_X9_now, rfl, rfl, by decide, by decide⟩ rfl rd_kcl9 dL_holds_540 rd_b0 rd_k0 rfl (Nat.le_of_ble_eq_true rfl) (fun v1 w1 hq => ?_)
                        obtain ⟨hv1, hm1⟩ := hq; rw [hv1, hm1]; clear hv1 hm1 v1 w1
                        refine rd_iconst C dL_holds_543 (n := 0) ⟨by decide, by decide⟩ ?_
                        refine rd_callV C (kq_trail hSm) rm_L_27 ri_X9_trail rs_X9_trail rc_X9_trail rz_X9 ⟨rp_X9_trail, rfl, rfl, by decide, by decide⟩ rfl rd_kcl9 dL_holds_544 rd_b0 rd_k0 rfl (Nat.le_of_ble_eq_true rfl) (fun v1 w1 hq => ?_)
                        obtain ⟨hv1, hm1⟩ := hq; rw [hv1, hm1]; clear hv1 hm1 v1 w1
                        refine rd_bipush C dL_holds_547 (n := -6) (by decide) ⟨by decide, by decide⟩ ?_
                        refine rd_icmp_ne C dL_holds_549 (tgt := 583) (by decide) (fun h_549 => ?_) (fun h_549 => ?_)
                        · exfalso; omega
                        · refine rd_aload_n C dL_holds_552 rfl ?_
                          refine rd_callV C (kq_meanSteps hSm) rm_L_117 ri_X9_meanSteps rs_X9_meanSteps rc_X9_meanSteps rz_X9 ⟨rp_X9_meanSteps, rfl, rfl, by decide, by decide⟩ rfl rd_kcl9 dL_holds_553 rd_b0 rd_k0 rfl (Nat.le_of_ble_eq_true rfl) (fun v1 w1 hq => ?_)
                          obtain ⟨hv1, hm1⟩ := hq; rw [hm1]; clear hm1 w1
                          rcases hv1 with ⟨h0c, hv1⟩ | ⟨h0c, hv1⟩
                          · rw [hv1]; clear hv1 v1
                            refine rd_aload_n C dL_holds_556 rfl ?_
                            refine rd_callV C (kq_slides hSm) rm_L_13 ri_X9_slides rs_X9_slides rc_X9_slides rz_X9 ⟨rp_X9_slides, rfl, rfl, by decide, by decide⟩ rfl rd_kcl9 dL_holds_557 rd_b0 rd_k0 rfl (Nat.le_of_ble_eq_true rfl) (fun v1 w1 hq => ?_)
                            obtain ⟨hv1, hm1⟩ := hq; rw [hv1, hm1, hsld]; clear hv1 hm1 v1 w1
                            refine rd_if_ne C dL_holds_560 (tgt := 567) (by decide) (fun h_560 => ?_) (fun h_560 => ?_)
                            · exfalso; omega
                            · refine rd_fconst0 C dL_holds_563 ?_
                              refine rd_goto C dL_holds_564 (tgt := 575) (by decide) ?_
                              refine rd_fcmp C dL_holds_575 pg_fc0 ?_
                              refine rd_if_ne C dL_holds_576 (tgt := 583) (by decide) (fun h => absurd h (by decide)) (fun _ => ?_)
                              refine rd_iconst C dL_holds_579 (n := 1) ⟨by decide, by decide⟩ ?_
                              refine rd_goto C dL_holds_580 (tgt := 584) (by decide) ?_
                              exact rd_zret C dL_holds_584 (by omega) ⟨rfl, hSm⟩
                          · rw [hv1]; clear hv1 v1
                            refine rd_aload_n C dL_holds_556 rfl ?_
                            refine rd_callV C (kq_slides hSm) rm_L_13 ri_X9_slides rs_X9_slides rc_X9_slides rz_X9 ⟨rp_X9_slides, rfl, rfl, by decide, by decide⟩ rfl rd_kcl9 dL_holds_557 rd_b0 rd_k0 rfl (Nat.le_of_ble_eq_true rfl) (fun v1 w1 hq => ?_)
                            obtain ⟨hv1, hm1⟩ := hq; rw [hv1, hm1, hsld]; clear hv1 hm1 v1 w1
                            refine rd_if_ne C dL_holds_560 (tgt := 567) (by decide) (fun h_560 => ?_) (fun h_560 => ?_)
                            · refine rd_iload_n C dL_holds_567 rfl ?_
                              refine rd_i2f C dL_holds_568 ?_
                              refine rd_aload_n C dL_holds_569 rfl ?_
                              refine rd_callV C (kq_slides hSm) rm_L_13 ri_X9_slides rs_X9_slides rc_X9_slides rz_X9 ⟨rp_X9_slides, rfl, rfl, by decide, by decide⟩ rfl rd_kcl9 dL_holds_570 rd_b0 rd_k0 rfl (Nat.le_of_ble_eq_true rfl) (fun v1 w1 hq => ?_)
                              obtain ⟨hv1, hm1⟩ := hq; rw [hv1, hm1, hsld]; clear hv1 hm1 v1 w1
                              refine rd_i2f C dL_holds_573 ?_
                              refine rd_fdiv C dL_holds_574 (by rw [hxs]; exact sp_fd hsumr.1 (by omega) (by omega) (by omega)) ?_
                              refine rd_fcmp C dL_holds_575 (by rw [hxs]; exact pg_fc hsumr.1 (by omega) (by omega) (by omega)) ?_
                              refine rd_if_ne C dL_holds_576 (tgt := 583) (by decide) (fun h => absurd h (by decide)) (fun _ => ?_)
                              refine rd_iconst C dL_holds_579 (n := 1) ⟨by decide, by decide⟩ ?_
                              refine rd_goto C dL_holds_580 (tgt := 584) (by decide) ?_
                              exact rd_zret C dL_holds_584 (by omega) ⟨rfl, hSm⟩
                            · exfalso; omega
                      · refine rd_iconst C dL_holds_534 (n := 0) ⟨by decide, by decide⟩ ?_
                        refine rd_goto C dL_holds_535 (tgt := 543) (by decide) ?_
                        refine rd_iconst C dL_holds_543 (n := 0) ⟨by decide, by decide⟩ ?_
                        refine rd_callV C (kq_trail hSm) rm_L_27 ri_X9_trail rs_X9_trail rc_X9_trail rz_X9 ⟨rp_X9_trail, rfl, rfl, by decide, by decide⟩ rfl rd_kcl9 dL_holds_544 rd_b0 rd_k0 rfl (Nat.le_of_ble_eq_true rfl) (fun v1 w1 hq => ?_)
                        obtain ⟨hv1, hm1⟩ := hq; rw [hv1, hm1]; clear hv1 hm1 v1 w1
                        refine rd_bipush C dL_holds_547 (n := -6) (by decide) ⟨by decide, by decide⟩ ?_
                        refine rd_icmp_ne C dL_holds_549 (tgt := 583) (by decide) (fun h_549 => ?_) (fun h_549 => ?_)
                        · exfalso; omega
                        · refine rd_aload_n C dL_holds_552 rfl ?_
                          refine rd_callV C (kq_meanSteps hSm) rm_L_117 ri_X9_meanSteps rs_X9_meanSteps rc_X9_meanSteps rz_X9 ⟨rp_X9_meanSteps, rfl, rfl, by decide, by decide⟩ rfl rd_kcl9 dL_holds_553 rd_b0 rd_k0 rfl (Nat.le_of_ble_eq_true rfl) (fun v1 w1 hq => ?_)
                          obtain ⟨hv1, hm1⟩ := hq; rw [hm1]; clear hm1 w1
                          rcases hv1 with ⟨h0c, hv1⟩ | ⟨h0c, hv1⟩
                          · rw [hv1]; clear hv1 v1
                            refine rd_aload_n C dL_holds_556 rfl ?_
                            refine rd_callV C (kq_slides hSm) rm_L_13 ri_X9_slides rs_X9_slides rc_X9_slides rz_X9 ⟨rp_X9_slides, rfl, rfl, by decide, by decide⟩ rfl rd_kcl9 dL_holds_557 rd_b0 rd_k0 rfl (Nat.le_of_ble_eq_true rfl) (fun v1 w1 hq => ?_)
                            obtain ⟨hv1, hm1⟩ := hq; rw [hv1, hm1, hsld]; clear hv1 hm1 v1 w1
                            refine rd_if_ne C dL_holds_560 (tgt := 567) (by decide) (fun h_560 => ?_) (fun h_560 => ?_)
                            · exfalso; omega
                            · refine rd_fconst0 C dL_holds_563 ?_
                              refine rd_goto C dL_holds_564 (tgt := 575) (by decide) ?_
                              refine rd_fcmp C dL_holds_575 pg_fc0 ?_
                              refine rd_if_ne C dL_holds_576 (tgt := 583) (by decide) (fun h => absurd h (by decide)) (fun _ => ?_)
                              refine rd_iconst C dL_holds_579 (n := 1) ⟨by decide, by decide⟩ ?_
                              refine rd_goto C dL_holds_580 (tgt := 584) (by decide) ?_
                              exact rd_zret C dL_holds_584 (by omega) ⟨rfl, hSm⟩
                          · rw [hv1]; clear hv1 v1
                            refine rd_aload_n C dL_holds_556 rfl ?_
                            refine rd_callV C (kq_slides hSm) rm_L_13 ri_X9_slides rs_X9_slides rc_X9_slides rz_X9 ⟨rp_X9_slides, rfl, rfl, by decide, by decide⟩ rfl rd_kcl9 dL_holds_557 rd_b0 rd_k0 rfl (Nat.le_of_ble_eq_true rfl) (fun v1 w1 hq => ?_)
                            obtain ⟨hv1, hm1⟩ := hq; rw [hv1, hm1, hsld]; clear hv1 hm1 v1 w1
                            refine rd_if_ne C dL_holds_560 (tgt := 567) (by decide) (fun h_560 => ?_) (fun h_560 => ?_)
                            · refine rd_iload_n C dL_holds_567 rfl ?_
                              refine rd_i2f C dL_holds_568 ?_
                              refine rd_aload_n C dL_holds_569 rfl ?_
                              refine rd_callV C (kq_slides hSm) rm_L_13 ri_X9_slides rs_X9_slides rc_X9_slides rz_X9 ⟨rp_X9_slides, rfl, rfl, by decide, by decide⟩ rfl rd_kcl9 dL_holds_570 rd_b0 rd_k0 rfl (Nat.le_of_ble_eq_true rfl) (fun v1 w1 hq => ?_)
                              obtain ⟨hv1, hm1⟩ := hq; rw [hv1, hm1, hsld]; clear hv1 hm1 v1 w1
                              refine rd_i2f C dL_holds_573 ?_
                              refine rd_fdiv C dL_holds_574 (by rw [hxs]; exact sp_fd hsumr.1 (by omega) (by omega) (by omega)) ?_
                              refine rd_fcmp C dL_holds_575 (by rw [hxs]; exact pg_fc hsumr.1 (by omega) (by omega) (by omega)) ?_
                              refine rd_if_ne C dL_holds_576 (tgt := 583) (by decide) (fun h => absurd h (by decide)) (fun _ => ?_)
                              refine rd_iconst C dL_holds_579 (n := 1) ⟨by decide, by decide⟩ ?_
                              refine rd_goto C dL_holds_580 (tgt := 584) (by decide) ?_
                              exact rd_zret C dL_holds_584 (by omega) ⟨rfl, hSm⟩
                            · exfalso; omega
              refine rd_iload_n C dL_holds_382 rfl ?_
              refine rd_if_eq C dL_holds_383 (tgt := 497) (by decide) (fun h => absurd h (by decide)) (fun _ => ?_)
              refine rd_iload_n C dL_holds_386 rfl ?_
              refine rd_if_ge C dL_holds_387 (tgt := 421) (by decide) (fun h_387 => ?_) (fun h_387 => ?_)
              · have hon1 : π 1 29 = 1 := hon.elim (fun g => g.1) (fun g => by exfalso; omega)
                have hn := pm_now hon1
                have hV := pd_von hR hon1
                have hn0 : pv_now π 0 = π 1 30 := hn.1
                have hV0 := hV.2.1
                have hV1 := hV.2.2
                have h4s : pv_slide π (pv_now π 0) 4 = mo_FS π (π 1 30) := by rw [hn0]; exact (pm_slide (q := 4) hV.1).2.2.1 rfl
                have hml := pm_ml hon1
                have hLr := (pd_Lr (pd_of hR) hV).1
                rw [← hml] at hLr
                have hsl := ph_sl hR hE hk2 hon1
                have hovd : (mo_ov π ∧ 0 < π 1 28 ∧ π 1 28 ≤ π 1 32) ∨ (¬ mo_ov π ∧ ¬ (0 < π 1 28 ∧ π 1 28 ≤ π 1 32)) := by by_cases g : mo_ov π; exact Or.inl ⟨g, g⟩; exact Or.inr ⟨g, g⟩
                have hcv : (cv = 1 ∧ (0 < π 1 28 ∧ π 1 28 ≤ π 1 32)) ∨ (cv = 0 ∧ ¬ (0 < π 1 28 ∧ π 1 28 ≤ π 1 32)) := by
                  rcases h5 hon1 with ⟨g1, g2⟩ | ⟨g1, g2⟩ <;> rcases hovd with ⟨g3, g4⟩ | ⟨g3, g4⟩ <;> rcases hc with ⟨g5, g6⟩ | ⟨g5, g6⟩ <;> first | (exfalso; omega) | exact Or.inl ⟨g5, g4⟩ | exact Or.inr ⟨g5, g4⟩ | exact absurd g1 g3 | exact absurd g3 g1
                refine rd_aload_n C dL_holds_421 rfl ?_
                refine rd_iconst C dL_holds_422 (n := 1) ⟨by decide, by decide⟩ ?_
                refine rd_callV C (kq_now hSm) rm_L_23 ri_X9_now rs_X9_now rc_X9_now rz_X9 ⟨rp_X9_now, rfl, rfl, by decide, by decide⟩ rfl rd_kcl9 dL_holds_423 rd_b0 rd_k0 rfl (Nat.le_of_ble_eq_true rfl) (fun v1 w1 hq => ?_)
                obtain ⟨hv1, hm1⟩ := hq; rw [hv1, hm1, hn.2.1]; clear hv1 hm1 v1 w1
                refine rd_if_lt C dL_holds_426 (tgt := 497) (by decide) (fun h_426 => ?_) (fun h_426 => ?_)
                · exfalso; omega
                · refine rd_aload_n C dL_holds_429 rfl ?_
                  refine rd_iconst C dL_holds_430 (n := 1) ⟨by decide, by decide⟩ ?_
                  refine rd_callV C (kq_now hSm) rm_L_23 ri_X9_now rs_X9_now rc_X9_now rz_X9 ⟨rp_X9_now, rfl, rfl, by decide, by decide⟩ rfl rd_kcl9 dL_holds_431 rd_b0 rd_k0 rfl (Nat.le_of_ble_eq_true rfl) (fun v1 w1 hq => ?_)
                  obtain ⟨hv1, hm1⟩ := hq; rw [hv1, hm1, hn.2.1]; clear hv1 hm1 v1 w1
                  refine rd_aload_n C dL_holds_434 rfl ?_
                  refine rd_iload_n C dL_holds_435 rfl ?_
                  refine rd_iconst C dL_holds_436 (n := 4) ⟨by decide, by decide⟩ ?_
                  refine rd_callV C (kq_slide hSm) rm_L_34 ri_X9_slide rs_X9_slide rc_X9_slide rz_X9 ⟨rp_X9_slide, rfl, rfl, by decide, by decide⟩ rfl rd_kcl9 dL_holds_437 rd_b0 rd_k0 rfl (Nat.le_of_ble_eq_true rfl) (fun v1 w1 hq => ?_)
                  obtain ⟨hv1, hm1⟩ := hq; rw [hv1, hm1, h4s]; clear hv1 hm1 v1 w1
                  refine rd_icmp_gt C dL_holds_440 (tgt := 497) (by decide) (fun h_440 => ?_) (fun h_440 => ?_)
                  · exfalso; omega
                  · refine rd_iload C dL_holds_443 rfl ?_
                    refine rd_aload_n C dL_holds_445 rfl ?_
                    refine rd_callV C (kq_end hSm) rm_L_17 ri_X9_end rs_X9_end rc_X9_end rz_X9 ⟨rp_X9_end, rfl, rfl, by decide, by decide⟩ rfl rd_kcl9 dL_holds_446 rd_b0 rd_k0 rfl (Nat.le_of_ble_eq_true rfl) (fun v1 w1 hq => ?_)
                    obtain ⟨hv1, hm1⟩ := hq; rw [hv1, hm1, hend]; clear hv1 hm1 v1 w1
                    refine rd_if_le C dL_holds_449 (tgt := 468) (by decide) (fun h_449 => ?_) (fun h_449 => ?_)
                    · refine rd_iconst C dL_holds_468 (n := 0) ⟨by decide, by decide⟩ ?_
                      refine rd_icmp_ne C dL_holds_469 (tgt := 497) (by decide) (fun h_469 => ?_) (fun h_469 => ?_)
                      · exfalso; omega
                      · refine rd_aload_n C dL_holds_472 rfl ?_
                        refine rd_callV C (kq_movesLeft hSm) rm_L_111 ri_X9_movesLeft rs_X9_movesLeft rc_X9_movesLeft rz_X9 ⟨rp_X9_movesLeft, rfl, rfl, by decide, by decide⟩ rfl rd_kcl9 dL_holds_473 rd_b0 rd_k0 rfl (Nat.le_of_ble_eq_true rfl) (fun v1 w1 hq => ?_)
                        obtain ⟨hv1, hm1⟩ := hq; rw [hv1, hm1]; clear hv1 hm1 v1 w1
                        refine rd_if_lt C dL_holds_476 (tgt := 497) (by decide) (fun h_476 => ?_) (fun h_476 => ?_)
                        · exfalso; omega
                        · refine rd_aload_n C dL_holds_479 rfl ?_
                          refine rd_callV C (kq_secondsLeft hSm) rm_L_114 ri_X9_secondsLeft rs_X9_secondsLeft rc_X9_secondsLeft rz_X9 ⟨rp_X9_secondsLeft, rfl, rfl, by decide, by decide⟩ rfl rd_kcl9 dL_holds_480 rd_b0 rd_k0 rfl (Nat.le_of_ble_eq_true rfl) (fun v1 w1 hq => ?_)
                          obtain ⟨hv1, hm1⟩ := hq; rw [hv1, hm1]; clear hv1 hm1 v1 w1
                          refine rd_if_ne C dL_holds_483 (tgt := 493) (by decide) (fun h_483 => ?_) (fun h_483 => ?_)
                          · refine rd_iconst C dL_holds_493 (n := 1) ⟨by decide, by decide⟩ ?_
                            refine rd_goto C dL_holds_494 (tgt := 498) (by decide) ?_
                            refine rd_istore_n C dL_holds_498 (by decide) (L' := [rd_R 0, rd_I 1, rd_I x, rd_I (pv_now π 0), rd_I cv, rd_I (pv_backTo π), rd_J, rd_J, rd_J, rd_J]) rfl ?_
                            exact j499
                          · refine rd_aload_n C dL_holds_486 rfl ?_
                            refine rd_callV C (kq_movesLeft hSm) rm_L_111 ri_X9_movesLeft rs_X9_movesLeft rc_X9_movesLeft rz_X9 ⟨rp_X9_movesLeft, rfl, rfl, by decide, by decide⟩ rfl rd_kcl9 dL_holds_487 rd_b0 rd_k0 rfl (Nat.le_of_ble_eq_true rfl) (fun v1 w1 hq => ?_)
                            obtain ⟨hv1, hm1⟩ := hq; rw [hv1, hm1]; clear hv1 hm1 v1 w1
                            refine rd_if_ne C dL_holds_490 (tgt := 497) (by decide) (fun h_490 => ?_) (fun h_490 => ?_)
                            · exfalso; omega
                            · refine rd_iconst C dL_holds_493 (n := 1) ⟨by decide, by decide⟩ ?_
                              refine rd_goto C dL_holds_494 (tgt := 498) (by decide) ?_
                              refine rd_istore_n C dL_holds_498 (by decide) (L' := [rd_R 0, rd_I 1, rd_I x, rd_I (pv_now π 0), rd_I cv, rd_I (pv_backTo π), rd_J, rd_J, rd_J, rd_J]) rfl ?_
                              exact j499
                    · refine rd_aload_n C dL_holds_452 rfl ?_
                      refine rd_iconst C dL_holds_453 (n := 2) ⟨by decide, by decide⟩ ?_
                      refine rd_callV C (kq_now hSm) rm_L_23 ri_X9_now rs_X9_now rc_X9_now rz_X9 ⟨rp_X9_now, rfl, rfl, by decide, by decide⟩ rfl rd_kcl9 dL_holds_454 rd_b0 rd_k0 rfl (Nat.le_of_ble_eq_true rfl) (fun v1 w1 hq => ?_)
                      obtain ⟨hv1, hm1⟩ := hq; rw [hv1, hm1, hn.2.2.1]; clear hv1 hm1 v1 w1
                      refine rd_aload_n C dL_holds_457 rfl ?_
                      refine rd_callV C (kq_end hSm) rm_L_17 ri_X9_end rs_X9_end rc_X9_end rz_X9 ⟨rp_X9_end, rfl, rfl, by decide, by decide⟩ rfl rd_kcl9 dL_holds_458 rd_b0 rd_k0 rfl (Nat.le_of_ble_eq_true rfl) (fun v1 w1 hq => ?_)
                      obtain ⟨hv1, hm1⟩ := hq; rw [hv1, hm1, hend]; clear hv1 hm1 v1 w1
                      refine rd_icmp_lt C dL_holds_461 (tgt := 468) (by decide) (fun h_461 => ?_) (fun h_461 => ?_)
                      · refine rd_iconst C dL_holds_468 (n := 0) ⟨by decide, by decide⟩ ?_
                        refine rd_icmp_ne C dL_holds_469 (tgt := 497) (by decide) (fun h_469 => ?_) (fun h_469 => ?_)
                        · exfalso; omega
                        · refine rd_aload_n C dL_holds_472 rfl ?_
                          refine rd_callV C (kq_movesLeft hSm) rm_L_111 ri_X9_movesLeft rs_X9_movesLeft rc_X9_movesLeft rz_X9 ⟨rp_X9_movesLeft, rfl, rfl, by decide, by decide⟩ rfl rd_kcl9 dL_holds_473 rd_b0 rd_k0 rfl (Nat.le_of_ble_eq_true rfl) (fun v1 w1 hq => ?_)
                          obtain ⟨hv1, hm1⟩ := hq; rw [hv1, hm1]; clear hv1 hm1 v1 w1
                          refine rd_if_lt C dL_holds_476 (tgt := 497) (by decide) (fun h_476 => ?_) (fun h_476 => ?_)
                          · exfalso; omega
                          · refine rd_aload_n C dL_holds_479 rfl ?_
                            refine rd_callV C (kq_secondsLeft hSm) rm_L_114 ri_X9_secondsLeft rs_X9_secondsLeft rc_X9_secondsLeft rz_X9 ⟨rp_X9_secondsLeft, rfl, rfl, by decide, by decide⟩ rfl rd_kcl9 dL_holds_480 rd_b0 rd_k0 rfl (Nat.le_of_ble_eq_true rfl) (fun v1 w1 hq => ?_)
                            obtain ⟨hv1, hm1⟩ := hq; rw [hv1, hm1]; clear hv1 hm1 v1 w1
                            refine rd_if_ne C dL_holds_483 (tgt := 493) (by decide) (fun h_483 => ?_) (fun h_483 => ?_)
                            · refine rd_iconst C dL_holds_493 (n := 1) ⟨by decide, by decide⟩ ?_
                              refine rd_goto C dL_holds_494 (tgt := 498) (by decide) ?_
                              refine rd_istore_n C dL_holds_498 (by decide) (L' := [rd_R 0, rd_I 1, rd_I x, rd_I (pv_now π 0), rd_I cv, rd_I (pv_backTo π), rd_J, rd_J, rd_J, rd_J]) rfl ?_
                              exact j499
                            · refine rd_aload_n C dL_holds_486 rfl ?_
                              refine rd_callV C (kq_movesLeft hSm) rm_L_111 ri_X9_movesLeft rs_X9_movesLeft rc_X9_movesLeft rz_X9 ⟨rp_X9_movesLeft, rfl, rfl, by decide, by decide⟩ rfl rd_kcl9 dL_holds_487 rd_b0 rd_k0 rfl (Nat.le_of_ble_eq_true rfl) (fun v1 w1 hq => ?_)
                              obtain ⟨hv1, hm1⟩ := hq; rw [hv1, hm1]; clear hv1 hm1 v1 w1
                              refine rd_if_ne C dL_holds_490 (tgt := 497) (by decide) (fun h_490 => ?_) (fun h_490 => ?_)
                              · exfalso; omega
                              · refine rd_iconst C dL_holds_493 (n := 1) ⟨by decide, by decide⟩ ?_
                                refine rd_goto C dL_holds_494 (tgt := 498) (by decide) ?_
                                refine rd_istore_n C dL_holds_498 (by decide) (L' := [rd_R 0, rd_I 1, rd_I x, rd_I (pv_now π 0), rd_I cv, rd_I (pv_backTo π), rd_J, rd_J, rd_J, rd_J]) rfl ?_
                                exact j499
                      · refine rd_iconst C dL_holds_464 (n := 1) ⟨by decide, by decide⟩ ?_
                        refine rd_goto C dL_holds_465 (tgt := 469) (by decide) ?_
                        refine rd_icmp_ne C dL_holds_469 (tgt := 497) (by decide) (fun h_469 => ?_) (fun h_469 => ?_)
                        · exfalso; omega
                        · refine rd_aload_n C dL_holds_472 rfl ?_
                          refine rd_callV C (kq_movesLeft hSm) rm_L_111 ri_X9_movesLeft rs_X9_movesLeft rc_X9_movesLeft rz_X9 ⟨rp_X9_movesLeft, rfl, rfl, by decide, by decide⟩ rfl rd_kcl9 dL_holds_473 rd_b0 rd_k0 rfl (Nat.le_of_ble_eq_true rfl) (fun v1 w1 hq => ?_)
                          obtain ⟨hv1, hm1⟩ := hq; rw [hv1, hm1]; clear hv1 hm1 v1 w1
                          refine rd_if_lt C dL_holds_476 (tgt := 497) (by decide) (fun h_476 => ?_) (fun h_476 => ?_)
                          · exfalso; omega
                          · refine rd_aload_n C dL_holds_479 rfl ?_
                            refine rd_callV C (kq_secondsLeft hSm) rm_L_114 ri_X9_secondsLeft rs_X9_secondsLeft rc_X9_secondsLeft rz_X9 ⟨rp_X9_secondsLeft, rfl, rfl, by decide, by decide⟩ rfl rd_kcl9 dL_holds_480 rd_b0 rd_k0 rfl (Nat.le_of_ble_eq_true rfl) (fun v1 w1 hq => ?_)
                            obtain ⟨hv1, hm1⟩ := hq; rw [hv1, hm1]; clear hv1 hm1 v1 w1
                            refine rd_if_ne C dL_holds_483 (tgt := 493) (by decide) (fun h_483 => ?_) (fun h_483 => ?_)
                            · refine rd_iconst C dL_holds_493 (n := 1) ⟨by decide, by decide⟩ ?_
                              refine rd_goto C dL_holds_494 (tgt := 498) (by decide) ?_
                              refine rd_istore_n C dL_holds_498 (by decide) (L' := [rd_R 0, rd_I 1, rd_I x, rd_I (pv_now π 0), rd_I cv, rd_I (pv_backTo π), rd_J, rd_J, rd_J, rd_J]) rfl ?_
                              exact j499
                            · refine rd_aload_n C dL_holds_486 rfl ?_
                              refine rd_callV C (kq_movesLeft hSm) rm_L_111 ri_X9_movesLeft rs_X9_movesLeft rc_X9_movesLeft rz_X9 ⟨rp_X9_movesLeft, rfl, rfl, by decide, by decide⟩ rfl rd_kcl9 dL_holds_487 rd_b0 rd_k0 rfl (Nat.le_of_ble_eq_true rfl) (fun v1 w1 hq => ?_)
                              obtain ⟨hv1, hm1⟩ := hq; rw [hv1, hm1]; clear hv1 hm1 v1 w1
                              refine rd_if_ne C dL_holds_490 (tgt := 497) (by decide) (fun h_490 => ?_) (fun h_490 => ?_)
                              · exfalso; omega
                              · refine rd_iconst C dL_holds_493 (n := 1) ⟨by decide, by decide⟩ ?_
                                refine rd_goto C dL_holds_494 (tgt := 498) (by decide) ?_
                                refine rd_istore_n C dL_holds_498 (by decide) (L' := [rd_R 0, rd_I 1, rd_I x, rd_I (pv_now π 0), rd_I cv, rd_I (pv_backTo π), rd_J, rd_J, rd_J, rd_J]) rfl ?_
                                exact j499
              · have hoff : π 1 29 = 0 := hon.elim (fun g => by exfalso; omega) (fun g => g.1)
                obtain ⟨o1, o2, o3⟩ := ph_off hoff
                refine rd_aload_n C dL_holds_390 rfl ?_
                refine rd_iconst C dL_holds_391 (n := 1) ⟨by decide, by decide⟩ ?_
                refine rd_callV C (kq_now hSm) rm_L_23 ri_X9_now rs_X9_now rc_X9_now rz_X9 ⟨rp_X9_now, rfl, rfl, by decide, by decide⟩ rfl rd_kcl9 dL_holds_392 rd_b0 rd_k0 rfl (Nat.le_of_ble_eq_true rfl) (fun v1 w1 hq => ?_)
                obtain ⟨hv1, hm1⟩ := hq; rw [hv1, hm1, o1]; clear hv1 hm1 v1 w1
                refine rd_bipush C dL_holds_395 (n := -6) (by decide) ⟨by decide, by decide⟩ ?_
                refine rd_icmp_ne C dL_holds_397 (tgt := 497) (by decide) (fun h => absurd h (by decide)) (fun _ => ?_)
                refine rd_aload_n C dL_holds_400 rfl ?_
                refine rd_callV C (kq_movesLeft hSm) rm_L_111 ri_X9_movesLeft rs_X9_movesLeft rc_X9_movesLeft rz_X9 ⟨rp_X9_movesLeft, rfl, rfl, by decide, by decide⟩ rfl rd_kcl9 dL_holds_401 rd_b0 rd_k0 rfl (Nat.le_of_ble_eq_true rfl) (fun v1 w1 hq => ?_)
                obtain ⟨hv1, hm1⟩ := hq; rw [hv1, hm1, o2]; clear hv1 hm1 v1 w1
                refine rd_bipush C dL_holds_404 (n := -6) (by decide) ⟨by decide, by decide⟩ ?_
                refine rd_icmp_ne C dL_holds_406 (tgt := 497) (by decide) (fun h => absurd h (by decide)) (fun _ => ?_)
                refine rd_aload_n C dL_holds_409 rfl ?_
                refine rd_callV C (kq_noteNow hSm) rm_L_43 ri_X9_noteNow rs_X9_noteNow rc_X9_noteNow rz_X9 ⟨rp_X9_noteNow, rfl, rfl, by decide, by decide⟩ rfl rd_kcl9 dL_holds_410 rd_b0 rd_k0 rfl (Nat.le_of_ble_eq_true rfl) (fun v1 w1 hq => ?_)
                obtain ⟨hv1, hm1⟩ := hq; rw [hv1, hm1, o3]; clear hv1 hm1 v1 w1
                refine rd_bipush C dL_holds_413 (n := -6) (by decide) ⟨by decide, by decide⟩ ?_
                refine rd_icmp_ne C dL_holds_415 (tgt := 497) (by decide) (fun h => absurd h (by decide)) (fun _ => ?_)
                refine rd_goto C dL_holds_418 (tgt := 493) (by decide) ?_
                refine rd_iconst C dL_holds_493 (n := 1) ⟨by decide, by decide⟩ ?_
                refine rd_goto C dL_holds_494 (tgt := 498) (by decide) ?_
                refine rd_istore_n C dL_holds_498 (by decide) (L' := [rd_R 0, rd_I 1, rd_I x, rd_I (pv_now π 0), rd_I cv, rd_I (pv_backTo π), rd_J, rd_J, rd_J, rd_J]) rfl ?_
                exact j499
            refine rd_aload_n C dL_holds_360 rfl ?_
            refine rd_iconst C dL_holds_361 (n := 5) ⟨by decide, by decide⟩ ?_
            refine rd_callV C (kq_now hSm) rm_L_23 ri_X9_now rs_X9_now rc_X9_now rz_X9 ⟨rp_X9_now, rfl, rfl, by decide, by decide⟩ rfl rd_kcl9 dL_holds_362 rd_b0 rd_k0 rfl (Nat.le_of_ble_eq_true rfl) (fun v1 w1 hq => ?_)
            obtain ⟨hv1, hm1⟩ := hq; rw [hv1, hm1]; clear hv1 hm1 v1 w1
            refine rd_iconst C dL_holds_365 (n := 1) ⟨by decide, by decide⟩ ?_
            refine rd_icmp_ne C dL_holds_366 (tgt := 373) (by decide) (fun h_366 => ?_) (fun h_366 => ?_)
            · refine rd_iconst C dL_holds_373 (n := 0) ⟨by decide, by decide⟩ ?_
              refine rd_istore C dL_holds_374 (by decide) (L' := [rd_R 0, rd_I 1, rd_I x, rd_I (pv_now π 0), rd_I 0, rd_J, rd_J, rd_J, rd_J, rd_J]) rfl ?_
              exact j376 0 (by first | exact Or.inl ⟨rfl, by assumption⟩ | exact Or.inr ⟨rfl, by assumption⟩)
            · refine rd_iconst C dL_holds_369 (n := 1) ⟨by decide, by decide⟩ ?_
              refine rd_goto C dL_holds_370 (tgt := 374) (by decide) ?_
              refine rd_istore C dL_holds_374 (by decide) (L' := [rd_R 0, rd_I 1, rd_I x, rd_I (pv_now π 0), rd_I 1, rd_J, rd_J, rd_J, rd_J, rd_J]) rfl ?_
              exact j376 1 (by first | exact Or.inl ⟨rfl, by assumption⟩ | exact Or.inr ⟨rfl, by assumption⟩)
          · refine rd_iload_n C dL_holds_45 rfl ?_
            refine rd_if_eq C dL_holds_46 (tgt := 360) (by decide) (fun h => absurd h (by decide)) (fun _ => ?_)
            have hsa : pv_slideAt π c4 = π 1 (1 + c4) := by unfold pv_slideAt; rw [pg_iff (by omega), pg_iff (by omega)]
            have hts : mo_t π (π 1 (1 + c4)) := (rl_J hR).1.1.2.2.1 c4 (by omega) (by omega)
            have hsF := pm_slide (q := 4) hts
            have hs4 := hsF.2.2.1 rfl
            have hs5 := (pm_slide (q := 5) hts).2.2.2 rfl
            have hs0 : pv_slide π (π 1 (1 + c4)) 0 = c4 := ((pm_slide (q := 0) hts).1 rfl).trans ((pd_of hR).2.1 c4 (by omega) (by omega))
            have hF9 := pd_FS (pd_of hR) hts
            have hsumr := ph_sum hR (n := c4.toNat) (by omega)
            have hlk3 := ph_lk3 hR hts
            refine rd_aload_n C dL_holds_49 rfl ?_
            refine rd_iload C dL_holds_50 rfl ?_
            refine rd_callV C (kq_slideAt hSm) rm_L_31 ri_X9_slideAt rs_X9_slideAt rc_X9_slideAt rz_X9 ⟨rp_X9_slideAt, rfl, rfl, by decide, by decide⟩ rfl rd_kcl9 dL_holds_52 rd_b0 rd_k0 rfl (Nat.le_of_ble_eq_true rfl) (fun v1 w1 hq => ?_)
            obtain ⟨hv1, hm1⟩ := hq; rw [hv1, hm1, hsa]; clear hv1 hm1 v1 w1
            refine rd_istore C dL_holds_55 (by decide) (L' := [rd_R 0, rd_I 1, rd_I x, rd_I (pv_now π 0), rd_I c4, rd_I (π 1 (1 + c4)), rd_J, rd_J, rd_J, rd_J]) rfl ?_
            refine rd_aload_n C dL_holds_57 rfl ?_
            refine rd_iload C dL_holds_58 rfl ?_
            refine rd_iconst C dL_holds_60 (n := 4) ⟨by decide, by decide⟩ ?_
            refine rd_callV C (kq_slide hSm) rm_L_34 ri_X9_slide rs_X9_slide rc_X9_slide rz_X9 ⟨rp_X9_slide, rfl, rfl, by decide, by decide⟩ rfl rd_kcl9 dL_holds_61 rd_b0 rd_k0 rfl (Nat.le_of_ble_eq_true rfl) (fun v1 w1 hq => ?_)
            obtain ⟨hv1, hm1⟩ := hq; rw [hv1, hm1, hs4]; clear hv1 hm1 v1 w1
            refine rd_istore C dL_holds_64 (by decide) (L' := [rd_R 0, rd_I 1, rd_I x, rd_I (pv_now π 0), rd_I c4, rd_I (π 1 (1 + c4)), rd_I (mo_FS π (π 1 (1 + c4))), rd_J, rd_J, rd_J]) rfl ?_
            refine rd_iconst C dL_holds_66 (n := 0) ⟨by decide, by decide⟩ ?_
            refine rd_istore C dL_holds_67 (by decide) (L' := [rd_R 0, rd_I 1, rd_I x, rd_I (pv_now π 0), rd_I c4, rd_I (π 1 (1 + c4)), rd_I (mo_FS π (π 1 (1 + c4))), rd_I 0, rd_J, rd_J]) rfl ?_
            refine rd_iload_n C dL_holds_69 rfl ?_
            refine rd_iload C dL_holds_70 rfl ?_
            refine rd_iconst C dL_holds_72 (n := 1) ⟨by decide, by decide⟩ ?_
            refine rd_iadd C dL_holds_73 (z := mo_FS π (π 1 (1 + c4)) + 1) rfl ⟨by omega, by omega⟩ ?_
            refine rd_iadd C dL_holds_74 (z := x + (mo_FS π (π 1 (1 + c4)) + 1)) rfl ⟨by omega, by omega⟩ ?_
            refine rd_istore_n C dL_holds_75 (by decide) (L' := [rd_R 0, rd_I 1, rd_I (x + (mo_FS π (π 1 (1 + c4)) + 1)), rd_I (pv_now π 0), rd_I c4, rd_I (π 1 (1 + c4)), rd_I (mo_FS π (π 1 (1 + c4))), rd_I 0, rd_J, rd_J]) rfl ?_
            refine rd_iload C dL_holds_76 rfl ?_
            refine rd_istore C dL_holds_78 (by decide) (L' := [rd_R 0, rd_I 1, rd_I (x + (mo_FS π (π 1 (1 + c4)) + 1)), rd_I (pv_now π 0), rd_I c4, rd_I (π 1 (1 + c4)), rd_I (mo_FS π (π 1 (1 + c4))), rd_I 0, rd_I (mo_FS π (π 1 (1 + c4))), rd_J]) rfl ?_
            have lp80 : ∀ (n : Nat) (c8 : Int), (c8 ≤ 9) → (mo_FS π (π 1 (1 + c4)) ≤ c8) → (9 < c8 + n) → rd_W p l e (rd_rm 5 135) s m args below meth c (MQ below (rd_Qc G rd_kc 313 r (fun v μ' => v = some (rd_I 1) ∧ pg_S μ' π lh)) args s 0 0 (rd_A r 313)) 10 G rd_kc 313 r 80 [rd_R 0, rd_I 1, rd_I (x + (mo_FS π (π 1 (1 + c4)) + 1)), rd_I (pv_now π 0), rd_I c4, rd_I (π 1 (1 + c4)), rd_I (mo_FS π (π 1 (1 + c4))), rd_I 0, rd_I c8, rd_J] [] mm := by
              intro n
              induction n with
              | zero => intro c8 h4 h5 h6; exfalso; omega
              | succ n ih80 =>
                intro c8 h4 h5 h6
                refine rd_iload C dL_holds_80 rfl ?_
                refine rd_bipush C dL_holds_82 (n := 9) (by decide) ⟨by decide, by decide⟩ ?_
                refine rd_icmp_ge C dL_holds_84 (tgt := 124) (by decide) (fun h_84 => ?_) (fun h_84 => ?_)
                · refine rd_iconst C dL_holds_124 (n := 0) ⟨by decide, by decide⟩ ?_
                  refine rd_istore C dL_holds_125 (by decide) (L' := [rd_R 0, rd_I 1, rd_I (x + (mo_FS π (π 1 (1 + c4)) + 1)), rd_I (pv_now π 0), rd_I c4, rd_I (π 1 (1 + c4)), rd_I (mo_FS π (π 1 (1 + c4))), rd_I 0, rd_I 0, rd_J]) rfl ?_
                  have lp127 : ∀ (n : Nat) (mm : rd_Mem) (c7 c8 : Int), (pg_S mm π lh) → (0 ≤ c8 ∧ c8 ≤ 10) → (10 < c8 + n) → (c7 = mo_lk (fun q => mo_o π (π 1 (1 + c4)) (22 + q)) c8.toNat) → rd_W p l e (rd_rm 5 135) s m args below meth c (MQ below (rd_Qc G rd_kc 313 r (fun v μ' => v = some (rd_I 1) ∧ pg_S μ' π lh)) args s 0 0 (rd_A r 313)) 10 G rd_kc 313 r 127 [rd_R 0, rd_I 1, rd_I (x + (mo_FS π (π 1 (1 + c4)) + 1)), rd_I (pv_now π 0), rd_I c4, rd_I (π 1 (1 + c4)), rd_I (mo_FS π (π 1 (1 + c4))), rd_I c7, rd_I c8, rd_J] [] mm := by
                    intro n
                    induction n with
                    | zero => intro mm c7 c8 hSm h7 h8 hl; exfalso; omega
                    | succ n ih127 =>
                      intro mm c7 c8 hSm h7 h8 hl
                      refine rd_iload C dL_holds_127 rfl ?_
                      refine rd_bipush C dL_holds_129 (n := 10) (by decide) ⟨by decide, by decide⟩ ?_
                      refine rd_icmp_ge C dL_holds_131 (tgt := 242) (by decide) (fun h_131 => ?_) (fun h_131 => ?_)
                      · have hl10 : c7 = mo_lk (fun q => mo_o π (π 1 (1 + c4)) (22 + q)) 10 := by rw [hl, show c8.toNat = 10 by omega]
                        refine rd_iload_n C dL_holds_242 rfl ?_
                        refine rd_if_eq C dL_holds_243 (tgt := 352) (by decide) (fun h => absurd h (by decide)) (fun _ => ?_)
                        refine rd_aload_n C dL_holds_246 rfl ?_
                        refine rd_iload C dL_holds_247 rfl ?_
                        refine rd_iconst C dL_holds_249 (n := 0) ⟨by decide, by decide⟩ ?_
                        refine rd_callV C (kq_slide hSm) rm_L_34 ri_X9_slide rs_X9_slide rc_X9_slide rz_X9 ⟨rp_X9_slide, rfl, rfl, by decide, by decide⟩ rfl rd_kcl9 dL_holds_250 rd_b0 rd_k0 rfl (Nat.le_of_ble_eq_true rfl) (fun v1 w1 hq => ?_)
                        obtain ⟨hv1, hm1⟩ := hq; rw [hv1, hm1, hs0]; clear hv1 hm1 v1 w1
                        refine rd_iload C dL_holds_253 rfl ?_
                        refine rd_icmp_ne C dL_holds_255 (tgt := 352) (by decide) (fun h => by exfalso; omega) (fun _ => ?_)
                        refine rd_iload C dL_holds_258 rfl ?_
                        refine rd_aload_n C dL_holds_260 rfl ?_
                        refine rd_iload C dL_holds_261 rfl ?_
                        refine rd_iconst C dL_holds_263 (n := 5) ⟨by decide, by decide⟩ ?_
                        refine rd_callV C (kq_slide hSm) rm_L_34 ri_X9_slide rs_X9_slide rc_X9_slide rz_X9 ⟨rp_X9_slide, rfl, rfl, by decide, by decide⟩ rfl rd_kcl9 dL_holds_264 rd_b0 rd_k0 rfl (Nat.le_of_ble_eq_true rfl) (fun v1 w1 hq => ?_)
                        obtain ⟨hv1, hm1⟩ := hq; rw [hv1, hm1, hs5]; clear hv1 hm1 v1 w1
                        refine rd_icmp_ne C dL_holds_267 (tgt := 352) (by decide) (fun h_267 => ?_) (fun h_267 => ?_)
                        · exfalso; omega
                        · refine rd_iload C dL_holds_270 rfl ?_
                          refine rd_iconst C dL_holds_272 (n := 3) ⟨by decide, by decide⟩ ?_
                          refine rd_icmp_gt C dL_holds_273 (tgt := 352) (by decide) (fun h_273 => ?_) (fun h_273 => ?_)
                          · exfalso; omega
                          · refine rd_iload C dL_holds_276 rfl ?_
                            refine rd_if_eq C dL_holds_278 (tgt := 302) (by decide) (fun h_278 => ?_) (fun h_278 => ?_)
                            · refine rd_iload_n C dL_holds_302 rfl ?_
                              refine rd_if_ge C dL_holds_303 (tgt := 320) (by decide) (fun h_303 => ?_) (fun h_303 => ?_)
                              · refine rd_aload_n C dL_holds_320 rfl ?_
                                refine rd_iload C dL_holds_321 rfl ?_
                                refine rd_callV C (kq_fewest hSm hts) rm_L_105 ri_X9_fewest rs_X9_fewest rc_X9_fewest rz_X9 ⟨rp_X9_fewest, rfl, rfl, by decide, by decide⟩ rfl rd_kcl9 dL_holds_323 rd_b0 rd_k0 rfl (Nat.le_of_ble_eq_true rfl) (fun v1 w1 hq => ?_)
                                obtain ⟨⟨z1, hv1, hz1⟩, hS1⟩ := hq; subst hv1
                                replace hz1 : ph_z mm π z1 (π 1 (1 + c4)) := hz1
                                have hf1 : π 1 29 = 1 → (z1 = 0 ↔ π 1 (1 + c4) = π 1 30) := fun g => ph_f0 hSm.1 g hz1
                                have hg1 : π 1 29 = 0 → z1 = -6 := fun g => by rcases hz1 with ⟨-, e⟩ | ⟨e, -⟩; exact e; omega
                                refine rd_if_ne C dL_holds_326 (tgt := 333) (by decide) (fun h_326 => ?_) (fun h_326 => ?_)
                                · refine rd_iconst C dL_holds_333 (n := 0) ⟨by decide, by decide⟩ ?_
                                  refine rd_iload C dL_holds_334 rfl ?_
                                  refine rd_iload_n C dL_holds_336 rfl ?_
                                  refine rd_icmp_ne C dL_holds_337 (tgt := 344) (by decide) (fun h_337 => ?_) (fun h_337 => ?_)
                                  · refine rd_iconst C dL_holds_344 (n := 0) ⟨by decide, by decide⟩ ?_
                                    refine rd_icmp_ne C dL_holds_345 (tgt := 352) (by decide) (fun h => absurd h (by decide)) (fun _ => ?_)
                                    refine rd_iconst C dL_holds_348 (n := 1) ⟨by decide, by decide⟩ ?_
                                    refine rd_goto C dL_holds_349 (tgt := 353) (by decide) ?_
                                    refine rd_istore_n C dL_holds_353 (by decide) (L' := [rd_R 0, rd_I 1, rd_I (x + (mo_FS π (π 1 (1 + c4)) + 1)), rd_I (pv_now π 0), rd_I c4, rd_I (π 1 (1 + c4)), rd_I (mo_FS π (π 1 (1 + c4))), rd_I c7, rd_I c8, rd_J]) rfl ?_
                                    refine rd_iinc C dL_holds_354 (by decide) rfl ⟨by omega, by omega⟩ (L' := [rd_R 0, rd_I 1, rd_I (x + (mo_FS π (π 1 (1 + c4)) + 1)), rd_I (pv_now π 0), rd_I (c4 + 1), rd_I (π 1 (1 + c4)), rd_I (mo_FS π (π 1 (1 + c4))), rd_I c7, rd_I c8, rd_J]) rfl ?_
                                    refine rd_goto C dL_holds_357 (tgt := 36) (by decide) ?_
                                    refine rd_drop 5 (L' := [rd_R 0, rd_I 1, rd_I (x + (mo_FS π (π 1 (1 + c4)) + 1)), rd_I (pv_now π 0), rd_I (c4 + 1), rd_J, rd_I (mo_FS π (π 1 (1 + c4))), rd_I c7, rd_I c8, rd_J]) rfl ?_
                                    refine rd_drop 6 (L' := [rd_R 0, rd_I 1, rd_I (x + (mo_FS π (π 1 (1 + c4)) + 1)), rd_I (pv_now π 0), rd_I (c4 + 1), rd_J, rd_J, rd_I c7, rd_I c8, rd_J]) rfl ?_
                                    refine rd_drop 7 (L' := [rd_R 0, rd_I 1, rd_I (x + (mo_FS π (π 1 (1 + c4)) + 1)), rd_I (pv_now π 0), rd_I (c4 + 1), rd_J, rd_J, rd_J, rd_I c8, rd_J]) rfl ?_
                                    refine rd_drop 8 (L' := [rd_R 0, rd_I 1, rd_I (x + (mo_FS π (π 1 (1 + c4)) + 1)), rd_I (pv_now π 0), rd_I (c4 + 1), rd_J, rd_J, rd_J, rd_J, rd_J]) rfl ?_
                                    exact ih36 _ _ _ hS1 (by omega) (by omega) (by rw [ph_sums _ (by omega), hx])
                                  · refine rd_iconst C dL_holds_340 (n := 1) ⟨by decide, by decide⟩ ?_
                                    refine rd_goto C dL_holds_341 (tgt := 345) (by decide) ?_
                                    refine rd_icmp_ne C dL_holds_345 (tgt := 352) (by decide) (fun _ => ?_) (fun h => absurd h (by decide))
                                    exfalso; omega
                                · refine rd_iconst C dL_holds_329 (n := 1) ⟨by decide, by decide⟩ ?_
                                  refine rd_goto C dL_holds_330 (tgt := 334) (by decide) ?_
                                  refine rd_iload C dL_holds_334 rfl ?_
                                  refine rd_iload_n C dL_holds_336 rfl ?_
                                  refine rd_icmp_ne C dL_holds_337 (tgt := 344) (by decide) (fun h_337 => ?_) (fun h_337 => ?_)
                                  · refine rd_iconst C dL_holds_344 (n := 0) ⟨by decide, by decide⟩ ?_
                                    refine rd_icmp_ne C dL_holds_345 (tgt := 352) (by decide) (fun _ => ?_) (fun h => absurd h (by decide))
                                    exfalso; omega
                                  · refine rd_iconst C dL_holds_340 (n := 1) ⟨by decide, by decide⟩ ?_
                                    refine rd_goto C dL_holds_341 (tgt := 345) (by decide) ?_
                                    refine rd_icmp_ne C dL_holds_345 (tgt := 352) (by decide) (fun h => absurd h (by decide)) (fun _ => ?_)
                                    refine rd_iconst C dL_holds_348 (n := 1) ⟨by decide, by decide⟩ ?_
                                    refine rd_goto C dL_holds_349 (tgt := 353) (by decide) ?_
                                    refine rd_istore_n C dL_holds_353 (by decide) (L' := [rd_R 0, rd_I 1, rd_I (x + (mo_FS π (π 1 (1 + c4)) + 1)), rd_I (pv_now π 0), rd_I c4, rd_I (π 1 (1 + c4)), rd_I (mo_FS π (π 1 (1 + c4))), rd_I c7, rd_I c8, rd_J]) rfl ?_
                                    refine rd_iinc C dL_holds_354 (by decide) rfl ⟨by omega, by omega⟩ (L' := [rd_R 0, rd_I 1, rd_I (x + (mo_FS π (π 1 (1 + c4)) + 1)), rd_I (pv_now π 0), rd_I (c4 + 1), rd_I (π 1 (1 + c4)), rd_I (mo_FS π (π 1 (1 + c4))), rd_I c7, rd_I c8, rd_J]) rfl ?_
                                    refine rd_goto C dL_holds_357 (tgt := 36) (by decide) ?_
                                    refine rd_drop 5 (L' := [rd_R 0, rd_I 1, rd_I (x + (mo_FS π (π 1 (1 + c4)) + 1)), rd_I (pv_now π 0), rd_I (c4 + 1), rd_J, rd_I (mo_FS π (π 1 (1 + c4))), rd_I c7, rd_I c8, rd_J]) rfl ?_
                                    refine rd_drop 6 (L' := [rd_R 0, rd_I 1, rd_I (x + (mo_FS π (π 1 (1 + c4)) + 1)), rd_I (pv_now π 0), rd_I (c4 + 1), rd_J, rd_J, rd_I c7, rd_I c8, rd_J]) rfl ?_
                                    refine rd_drop 7 (L' := [rd_R 0, rd_I 1, rd_I (x + (mo_FS π (π 1 (1 + c4)) + 1)), rd_I (pv_now π 0), rd_I (c4 + 1), rd_J, rd_J, rd_J, rd_I c8, rd_J]) rfl ?_
                                    refine rd_drop 8 (L' := [rd_R 0, rd_I 1, rd_I (x + (mo_FS π (π 1 (1 + c4)) + 1)), rd_I (pv_now π 0), rd_I (c4 + 1), rd_J, rd_J, rd_J, rd_J, rd_J]) rfl ?_
                                    exact ih36 _ _ _ hS1 (by omega) (by omega) (by rw [ph_sums _ (by omega), hx])
                              · refine rd_aload_n C dL_holds_306 rfl ?_
                                refine rd_iload C dL_holds_307 rfl ?_
                                refine rd_callV C (kq_fewest hSm hts) rm_L_105 ri_X9_fewest rs_X9_fewest rc_X9_fewest rz_X9 ⟨rp_X9_fewest, rfl, rfl, by decide, by decide⟩ rfl rd_kcl9 dL_holds_309 rd_b0 rd_k0 rfl (Nat.le_of_ble_eq_true rfl) (fun v2 w2 hq => ?_)
                                obtain ⟨⟨z2, hv2, hz2⟩, hS2⟩ := hq; subst hv2
                                replace hz2 : ph_z mm π z2 (π 1 (1 + c4)) := hz2
                                have hf2 : π 1 29 = 1 → (z2 = 0 ↔ π 1 (1 + c4) = π 1 30) := fun g => ph_f0 hSm.1 g hz2
                                have hg2 : π 1 29 = 0 → z2 = -6 := fun g => by rcases hz2 with ⟨-, e⟩ | ⟨e, -⟩; exact e; omega
                                refine rd_bipush C dL_holds_312 (n := -6) (by decide) ⟨by decide, by decide⟩ ?_
                                refine rd_icmp_ne C dL_holds_314 (tgt := 352) (by decide) (fun h_314 => ?_) (fun h_314 => ?_)
                                · exfalso; omega
                                · refine rd_goto C dL_holds_317 (tgt := 348) (by decide) ?_
                                  refine rd_iconst C dL_holds_348 (n := 1) ⟨by decide, by decide⟩ ?_
                                  refine rd_goto C dL_holds_349 (tgt := 353) (by decide) ?_
                                  refine rd_istore_n C dL_holds_353 (by decide) (L' := [rd_R 0, rd_I 1, rd_I (x + (mo_FS π (π 1 (1 + c4)) + 1)), rd_I (pv_now π 0), rd_I c4, rd_I (π 1 (1 + c4)), rd_I (mo_FS π (π 1 (1 + c4))), rd_I c7, rd_I c8, rd_J]) rfl ?_
                                  refine rd_iinc C dL_holds_354 (by decide) rfl ⟨by omega, by omega⟩ (L' := [rd_R 0, rd_I 1, rd_I (x + (mo_FS π (π 1 (1 + c4)) + 1)), rd_I (pv_now π 0), rd_I (c4 + 1), rd_I (π 1 (1 + c4)), rd_I (mo_FS π (π 1 (1 + c4))), rd_I c7, rd_I c8, rd_J]) rfl ?_
                                  refine rd_goto C dL_holds_357 (tgt := 36) (by decide) ?_
                                  refine rd_drop 5 (L' := [rd_R 0, rd_I 1, rd_I (x + (mo_FS π (π 1 (1 + c4)) + 1)), rd_I (pv_now π 0), rd_I (c4 + 1), rd_J, rd_I (mo_FS π (π 1 (1 + c4))), rd_I c7, rd_I c8, rd_J]) rfl ?_
                                  refine rd_drop 6 (L' := [rd_R 0, rd_I 1, rd_I (x + (mo_FS π (π 1 (1 + c4)) + 1)), rd_I (pv_now π 0), rd_I (c4 + 1), rd_J, rd_J, rd_I c7, rd_I c8, rd_J]) rfl ?_
                                  refine rd_drop 7 (L' := [rd_R 0, rd_I 1, rd_I (x + (mo_FS π (π 1 (1 + c4)) + 1)), rd_I (pv_now π 0), rd_I (c4 + 1), rd_J, rd_J, rd_J, rd_I c8, rd_J]) rfl ?_
                                  refine rd_drop 8 (L' := [rd_R 0, rd_I 1, rd_I (x + (mo_FS π (π 1 (1 + c4)) + 1)), rd_I (pv_now π 0), rd_I (c4 + 1), rd_J, rd_J, rd_J, rd_J, rd_J]) rfl ?_
                                  exact ih36 _ _ _ hS2 (by omega) (by omega) (by rw [ph_sums _ (by omega), hx])
                            · have hp2 := ph_pic2 hR hE.2.2.2 hts (by omega)
                              refine rd_aload_n C dL_holds_281 rfl ?_
                              refine rd_iload C dL_holds_282 rfl ?_
                              refine rd_iload C dL_holds_284 rfl ?_
                              refine rd_callV C (kq_picture hSm) rm_L_37 ri_X9_picture rs_X9_picture rc_X9_picture rz_X9 ⟨rp_X9_picture, rfl, rfl, by decide, by decide⟩ rfl rd_kcl9 dL_holds_286 rd_b0 rd_k0 rfl (Nat.le_of_ble_eq_true rfl) (fun v1 w1 hq => ?_)
                              obtain ⟨hv1, hm1⟩ := hq; rw [hv1, hm1]; clear hv1 hm1 v1 w1
                              refine rd_aload_n C dL_holds_289 rfl ?_
                              refine rd_iload C dL_holds_290 rfl ?_
                              refine rd_iload C dL_holds_292 rfl ?_
                              refine rd_iconst C dL_holds_294 (n := 1) ⟨by decide, by decide⟩ ?_
                              refine rd_isub C dL_holds_295 (z := mo_FS π (π 1 (1 + c4)) - 1) rfl ⟨by omega, by omega⟩ ?_
                              refine rd_callV C (kq_picture hSm) rm_L_37 ri_X9_picture rs_X9_picture rc_X9_picture rz_X9 ⟨rp_X9_picture, rfl, rfl, by decide, by decide⟩ rfl rd_kcl9 dL_holds_296 rd_b0 rd_k0 rfl (Nat.le_of_ble_eq_true rfl) (fun v1 w1 hq => ?_)
                              obtain ⟨hv1, hm1⟩ := hq; rw [hv1, hm1]; clear hv1 hm1 v1 w1
                              refine rd_icmp_eq C dL_holds_299 (tgt := 352) (by decide) (fun h_299 => ?_) (fun h_299 => ?_)
                              · exfalso; omega
                              · refine rd_iload_n C dL_holds_302 rfl ?_
                                refine rd_if_ge C dL_holds_303 (tgt := 320) (by decide) (fun h_303 => ?_) (fun h_303 => ?_)
                                · refine rd_aload_n C dL_holds_320 rfl ?_
                                  refine rd_iload C dL_holds_321 rfl ?_
                                  refine rd_callV C (kq_fewest hSm hts) rm_L_105 ri_X9_fewest rs_X9_fewest rc_X9_fewest rz_X9 ⟨rp_X9_fewest, rfl, rfl, by decide, by decide⟩ rfl rd_kcl9 dL_holds_323 rd_b0 rd_k0 rfl (Nat.le_of_ble_eq_true rfl) (fun v3 w3 hq => ?_)
                                  obtain ⟨⟨z3, hv3, hz3⟩, hS3⟩ := hq; subst hv3
                                  replace hz3 : ph_z mm π z3 (π 1 (1 + c4)) := hz3
                                  have hf3 : π 1 29 = 1 → (z3 = 0 ↔ π 1 (1 + c4) = π 1 30) := fun g => ph_f0 hSm.1 g hz3
                                  have hg3 : π 1 29 = 0 → z3 = -6 := fun g => by rcases hz3 with ⟨-, e⟩ | ⟨e, -⟩; exact e; omega
                                  refine rd_if_ne C dL_holds_326 (tgt := 333) (by decide) (fun h_326 => ?_) (fun h_326 => ?_)
                                  · refine rd_iconst C dL_holds_333 (n := 0) ⟨by decide, by decide⟩ ?_
                                    refine rd_iload C dL_holds_334 rfl ?_
                                    refine rd_iload_n C dL_holds_336 rfl ?_
                                    refine rd_icmp_ne C dL_holds_337 (tgt := 344) (by decide) (fun h_337 => ?_) (fun h_337 => ?_)
                                    · refine rd_iconst C dL_holds_344 (n := 0) ⟨by decide, by decide⟩ ?_
                                      refine rd_icmp_ne C dL_holds_345 (tgt := 352) (by decide) (fun h => absurd h (by decide)) (fun _ => ?_)
                                      refine rd_iconst C dL_holds_348 (n := 1) ⟨by decide, by decide⟩ ?_
                                      refine rd_goto C dL_holds_349 (tgt := 353) (by decide) ?_
                                      refine rd_istore_n C dL_holds_353 (by decide) (L' := [rd_R 0, rd_I 1, rd_I (x + (mo_FS π (π 1 (1 + c4)) + 1)), rd_I (pv_now π 0), rd_I c4, rd_I (π 1 (1 + c4)), rd_I (mo_FS π (π 1 (1 + c4))), rd_I c7, rd_I c8, rd_J]) rfl ?_
                                      refine rd_iinc C dL_holds_354 (by decide) rfl ⟨by omega, by omega⟩ (L' := [rd_R 0, rd_I 1, rd_I (x + (mo_FS π (π 1 (1 + c4)) + 1)), rd_I (pv_now π 0), rd_I (c4 + 1), rd_I (π 1 (1 + c4)), rd_I (mo_FS π (π 1 (1 + c4))), rd_I c7, rd_I c8, rd_J]) rfl ?_
                                      refine rd_goto C dL_holds_357 (tgt := 36) (by decide) ?_
                                      refine rd_drop 5 (L' := [rd_R 0, rd_I 1, rd_I (x + (mo_FS π (π 1 (1 + c4)) + 1)), rd_I (pv_now π 0), rd_I (c4 + 1), rd_J, rd_I (mo_FS π (π 1 (1 + c4))), rd_I c7, rd_I c8, rd_J]) rfl ?_
                                      refine rd_drop 6 (L' := [rd_R 0, rd_I 1, rd_I (x + (mo_FS π (π 1 (1 + c4)) + 1)), rd_I (pv_now π 0), rd_I (c4 + 1), rd_J, rd_J, rd_I c7, rd_I c8, rd_J]) rfl ?_
                                      refine rd_drop 7 (L' := [rd_R 0, rd_I 1, rd_I (x + (mo_FS π (π 1 (1 + c4)) + 1)), rd_I (pv_now π 0), rd_I (c4 + 1), rd_J, rd_J, rd_J, rd_I c8, rd_J]) rfl ?_
                                      refine rd_drop 8 (L' := [rd_R 0, rd_I 1, rd_I (x + (mo_FS π (π 1 (1 + c4)) + 1)), rd_I (pv_now π 0), rd_I (c4 + 1), rd_J, rd_J, rd_J, rd_J, rd_J]) rfl ?_
                                      exact ih36 _ _ _ hS3 (by omega) (by omega) (by rw [ph_sums _ (by omega), hx])
                                    · refine rd_iconst C dL_holds_340 (n := 1) ⟨by decide, by decide⟩ ?_
                                      refine rd_goto C dL_holds_341 (tgt := 345) (by decide) ?_
                                      refine rd_icmp_ne C dL_holds_345 (tgt := 352) (by decide) (fun _ => ?_) (fun h => absurd h (by decide))
                                      exfalso; omega
                                  · refine rd_iconst C dL_holds_329 (n := 1) ⟨by decide, by decide⟩ ?_
                                    refine rd_goto C dL_holds_330 (tgt := 334) (by decide) ?_
                                    refine rd_iload C dL_holds_334 rfl ?_
                                    refine rd_iload_n C dL_holds_336 rfl ?_
                                    refine rd_icmp_ne C dL_holds_337 (tgt := 344) (by decide) (fun h_337 => ?_) (fun h_337 => ?_)
                                    · refine rd_iconst C dL_holds_344 (n := 0) ⟨by decide, by decide⟩ ?_
                                      refine rd_icmp_ne C dL_holds_345 (tgt := 352) (by decide) (fun _ => ?_) (fun h => absurd h (by decide))
                                      exfalso; omega
                                    · refine rd_iconst C dL_holds_340 (n := 1) ⟨by decide, by decide⟩ ?_
                                      refine rd_goto C dL_holds_341 (tgt := 345) (by decide) ?_
                                      refine rd_icmp_ne C dL_holds_345 (tgt := 352) (by decide) (fun h => absurd h (by decide)) (fun _ => ?_)
                                      refine rd_iconst C dL_holds_348 (n := 1) ⟨by decide, by decide⟩ ?_
                                      refine rd_goto C dL_holds_349 (tgt := 353) (by decide) ?_
                                      refine rd_istore_n C dL_holds_353 (by decide) (L' := [rd_R 0, rd_I 1, rd_I (x + (mo_FS π (π 1 (1 + c4)) + 1)), rd_I (pv_now π 0), rd_I c4, rd_I (π 1 (1 + c4)), rd_I (mo_FS π (π 1 (1 + c4))), rd_I c7, rd_I c8, rd_J]) rfl ?_
                                      refine rd_iinc C dL_holds_354 (by decide) rfl ⟨by omega, by omega⟩ (L' := [rd_R 0, rd_I 1, rd_I (x + (mo_FS π (π 1 (1 + c4)) + 1)), rd_I (pv_now π 0), rd_I (c4 + 1), rd_I (π 1 (1 + c4)), rd_I (mo_FS π (π 1 (1 + c4))), rd_I c7, rd_I c8, rd_J]) rfl ?_
                                      refine rd_goto C dL_holds_357 (tgt := 36) (by decide) ?_
                                      refine rd_drop 5 (L' := [rd_R 0, rd_I 1, rd_I (x + (mo_FS π (π 1 (1 + c4)) + 1)), rd_I (pv_now π 0), rd_I (c4 + 1), rd_J, rd_I (mo_FS π (π 1 (1 + c4))), rd_I c7, rd_I c8, rd_J]) rfl ?_
                                      refine rd_drop 6 (L' := [rd_R 0, rd_I 1, rd_I (x + (mo_FS π (π 1 (1 + c4)) + 1)), rd_I (pv_now π 0), rd_I (c4 + 1), rd_J, rd_J, rd_I c7, rd_I c8, rd_J]) rfl ?_
                                      refine rd_drop 7 (L' := [rd_R 0, rd_I 1, rd_I (x + (mo_FS π (π 1 (1 + c4)) + 1)), rd_I (pv_now π 0), rd_I (c4 + 1), rd_J, rd_J, rd_J, rd_I c8, rd_J]) rfl ?_
                                      refine rd_drop 8 (L' := [rd_R 0, rd_I 1, rd_I (x + (mo_FS π (π 1 (1 + c4)) + 1)), rd_I (pv_now π 0), rd_I (c4 + 1), rd_J, rd_J, rd_J, rd_J, rd_J]) rfl ?_
                                      exact ih36 _ _ _ hS3 (by omega) (by omega) (by rw [ph_sums _ (by omega), hx])
                                · refine rd_aload_n C dL_holds_306 rfl ?_
                                  refine rd_iload C dL_holds_307 rfl ?_
                                  refine rd_callV C (kq_fewest hSm hts) rm_L_105 ri_X9_fewest rs_X9_fewest rc_X9_fewest rz_X9 ⟨rp_X9_fewest, rfl, rfl, by decide, by decide⟩ rfl rd_kcl9 dL_holds_309 rd_b0 rd_k0 rfl (Nat.le_of_ble_eq_true rfl) (fun v4 w4 hq => ?_)
                                  obtain ⟨⟨z4, hv4, hz4⟩, hS4⟩ := hq; subst hv4
                                  replace hz4 : ph_z mm π z4 (π 1 (1 + c4)) := hz4
                                  have hf4 : π 1 29 = 1 → (z4 = 0 ↔ π 1 (1 + c4) = π 1 30) := fun g => ph_f0 hSm.1 g hz4
                                  have hg4 : π 1 29 = 0 → z4 = -6 := fun g => by rcases hz4 with ⟨-, e⟩ | ⟨e, -⟩; exact e; omega
                                  refine rd_bipush C dL_holds_312 (n := -6) (by decide) ⟨by decide, by decide⟩ ?_
                                  refine rd_icmp_ne C dL_holds_314 (tgt := 352) (by decide) (fun h_314 => ?_) (fun h_314 => ?_)
                                  · exfalso; omega
                                  · refine rd_goto C dL_holds_317 (tgt := 348) (by decide) ?_
                                    refine rd_iconst C dL_holds_348 (n := 1) ⟨by decide, by decide⟩ ?_
                                    refine rd_goto C dL_holds_349 (tgt := 353) (by decide) ?_
                                    refine rd_istore_n C dL_holds_353 (by decide) (L' := [rd_R 0, rd_I 1, rd_I (x + (mo_FS π (π 1 (1 + c4)) + 1)), rd_I (pv_now π 0), rd_I c4, rd_I (π 1 (1 + c4)), rd_I (mo_FS π (π 1 (1 + c4))), rd_I c7, rd_I c8, rd_J]) rfl ?_
                                    refine rd_iinc C dL_holds_354 (by decide) rfl ⟨by omega, by omega⟩ (L' := [rd_R 0, rd_I 1, rd_I (x + (mo_FS π (π 1 (1 + c4)) + 1)), rd_I (pv_now π 0), rd_I (c4 + 1), rd_I (π 1 (1 + c4)), rd_I (mo_FS π (π 1 (1 + c4))), rd_I c7, rd_I c8, rd_J]) rfl ?_
                                    refine rd_goto C dL_holds_357 (tgt := 36) (by decide) ?_
                                    refine rd_drop 5 (L' := [rd_R 0, rd_I 1, rd_I (x + (mo_FS π (π 1 (1 + c4)) + 1)), rd_I (pv_now π 0), rd_I (c4 + 1), rd_J, rd_I (mo_FS π (π 1 (1 + c4))), rd_I c7, rd_I c8, rd_J]) rfl ?_
                                    refine rd_drop 6 (L' := [rd_R 0, rd_I 1, rd_I (x + (mo_FS π (π 1 (1 + c4)) + 1)), rd_I (pv_now π 0), rd_I (c4 + 1), rd_J, rd_J, rd_I c7, rd_I c8, rd_J]) rfl ?_
                                    refine rd_drop 7 (L' := [rd_R 0, rd_I 1, rd_I (x + (mo_FS π (π 1 (1 + c4)) + 1)), rd_I (pv_now π 0), rd_I (c4 + 1), rd_J, rd_J, rd_J, rd_I c8, rd_J]) rfl ?_
                                    refine rd_drop 8 (L' := [rd_R 0, rd_I 1, rd_I (x + (mo_FS π (π 1 (1 + c4)) + 1)), rd_I (pv_now π 0), rd_I (c4 + 1), rd_J, rd_J, rd_J, rd_J, rd_J]) rfl ?_
                                    exact ih36 _ _ _ hS4 (by omega) (by omega) (by rw [ph_sums _ (by omega), hx])
                      · have htv := pm_target (k := c8) hts (by omega)
                        have htt := pm_tg hR (k := c8) hts (by omega)
                        have hlb := mo_lk0 (fun q => mo_o π (π 1 (1 + c4)) (22 + q)) c8.toNat
                        refine rd_aload_n C dL_holds_134 rfl ?_
                        refine rd_iload C dL_holds_135 rfl ?_
                        refine rd_iload C dL_holds_137 rfl ?_
                        refine rd_callV C (kq_target hSm) rm_L_40 ri_X9_target rs_X9_target rc_X9_target rz_X9 ⟨rp_X9_target, rfl, rfl, by decide, by decide⟩ rfl rd_kcl9 dL_holds_139 rd_b0 rd_k0 rfl (Nat.le_of_ble_eq_true rfl) (fun v1 w1 hq => ?_)
                        obtain ⟨hv1, hm1⟩ := hq; rw [hv1, hm1, htv]; clear hv1 hm1 v1 w1
                        refine rd_istore C dL_holds_142 (by decide) (L' := [rd_R 0, rd_I 1, rd_I (x + (mo_FS π (π 1 (1 + c4)) + 1)), rd_I (pv_now π 0), rd_I c4, rd_I (π 1 (1 + c4)), rd_I (mo_FS π (π 1 (1 + c4))), rd_I c7, rd_I c8, rd_I (mo_o π (π 1 (1 + c4)) (22 + c8))]) rfl ?_
                        refine rd_iload C dL_holds_144 rfl ?_
                        refine rd_iload C dL_holds_146 rfl ?_
                        refine rd_if_ge C dL_holds_148 (tgt := 155) (by decide) (fun h_148 => ?_) (fun h_148 => ?_)
                        · have htg : mo_t π (mo_o π (π 1 (1 + c4)) (22 + c8)) := htt.resolve_left (by omega)
                          have htp := (pm_slide (q := 0) htg).1 rfl
                          have hpl := px_pl hR htg
                          refine rd_iconst C dL_holds_155 (n := 1) ⟨by decide, by decide⟩ ?_
                          refine rd_iadd C dL_holds_156 (z := c7 + 1) rfl ⟨by omega, by omega⟩ ?_
                          refine rd_istore C dL_holds_157 (by decide) (L' := [rd_R 0, rd_I 1, rd_I (x + (mo_FS π (π 1 (1 + c4)) + 1)), rd_I (pv_now π 0), rd_I c4, rd_I (π 1 (1 + c4)), rd_I (mo_FS π (π 1 (1 + c4))), rd_I (c7 + 1), rd_I c8, rd_I (mo_o π (π 1 (1 + c4)) (22 + c8))]) rfl ?_
                          refine rd_iload_n C dL_holds_159 rfl ?_
                          refine rd_if_eq C dL_holds_160 (tgt := 192) (by decide) (fun h => absurd h (by decide)) (fun _ => ?_)
                          refine rd_iload C dL_holds_163 rfl ?_
                          refine rd_if_ge C dL_holds_165 (tgt := 178) (by decide) (fun h_165 => ?_) (fun h_165 => ?_)
                          · refine rd_aload_n C dL_holds_178 rfl ?_
                            refine rd_iload C dL_holds_179 rfl ?_
                            refine rd_iconst C dL_holds_181 (n := 0) ⟨by decide, by decide⟩ ?_
                            refine rd_callV C (kq_slide hSm) rm_L_34 ri_X9_slide rs_X9_slide rc_X9_slide rz_X9 ⟨rp_X9_slide, rfl, rfl, by decide, by decide⟩ rfl rd_kcl9 dL_holds_182 rd_b0 rd_k0 rfl (Nat.le_of_ble_eq_true rfl) (fun v1 w1 hq => ?_)
                            obtain ⟨hv1, hm1⟩ := hq; rw [hv1, hm1, htp]; clear hv1 hm1 v1 w1
                            refine rd_if_lt C dL_holds_185 (tgt := 192) (by decide) (fun h_185 => ?_) (fun h_185 => ?_)
                            · exfalso; omega
                            · refine rd_iconst C dL_holds_188 (n := 1) ⟨by decide, by decide⟩ ?_
                              refine rd_goto C dL_holds_189 (tgt := 193) (by decide) ?_
                              refine rd_istore_n C dL_holds_193 (by decide) (L' := [rd_R 0, rd_I 1, rd_I (x + (mo_FS π (π 1 (1 + c4)) + 1)), rd_I (pv_now π 0), rd_I c4, rd_I (π 1 (1 + c4)), rd_I (mo_FS π (π 1 (1 + c4))), rd_I (c7 + 1), rd_I c8, rd_I (mo_o π (π 1 (1 + c4)) (22 + c8))]) rfl ?_
                              refine rd_iload_n C dL_holds_194 rfl ?_
                              refine rd_if_eq C dL_holds_195 (tgt := 234) (by decide) (fun h => absurd h (by decide)) (fun _ => ?_)
                              refine rd_iload_n C dL_holds_198 rfl ?_
                              refine rd_iload C dL_holds_199 rfl ?_
                              refine rd_icmp_ne C dL_holds_201 (tgt := 230) (by decide) (fun h_201 => ?_) (fun h_201 => ?_)
                              · refine rd_iconst C dL_holds_230 (n := 1) ⟨by decide, by decide⟩ ?_
                                refine rd_goto C dL_holds_231 (tgt := 235) (by decide) ?_
                                refine rd_istore_n C dL_holds_235 (by decide) (L' := [rd_R 0, rd_I 1, rd_I (x + (mo_FS π (π 1 (1 + c4)) + 1)), rd_I (pv_now π 0), rd_I c4, rd_I (π 1 (1 + c4)), rd_I (mo_FS π (π 1 (1 + c4))), rd_I (c7 + 1), rd_I c8, rd_I (mo_o π (π 1 (1 + c4)) (22 + c8))]) rfl ?_
                                refine rd_iinc C dL_holds_236 (by decide) rfl ⟨by omega, by omega⟩ (L' := [rd_R 0, rd_I 1, rd_I (x + (mo_FS π (π 1 (1 + c4)) + 1)), rd_I (pv_now π 0), rd_I c4, rd_I (π 1 (1 + c4)), rd_I (mo_FS π (π 1 (1 + c4))), rd_I (c7 + 1), rd_I (c8 + 1), rd_I (mo_o π (π 1 (1 + c4)) (22 + c8))]) rfl ?_
                                refine rd_goto C dL_holds_239 (tgt := 127) (by decide) ?_
                                refine rd_drop 9 (L' := [rd_R 0, rd_I 1, rd_I (x + (mo_FS π (π 1 (1 + c4)) + 1)), rd_I (pv_now π 0), rd_I c4, rd_I (π 1 (1 + c4)), rd_I (mo_FS π (π 1 (1 + c4))), rd_I (c7 + 1), rd_I (c8 + 1), rd_J]) rfl ?_
                                exact ih127 _ _ _ hSm (by omega) (by omega) (by have hq := ph_lks (fun q => mo_o π (π 1 (1 + c4)) (22 + q)) (c := c8) (by omega); omega)
                              · refine rd_iload C dL_holds_204 rfl ?_
                                refine rd_if_lt C dL_holds_206 (tgt := 230) (by decide) (fun h_206 => ?_) (fun h_206 => ?_)
                                · exfalso; omega
                                · have hon1 : π 1 29 = 1 := hon.elim (fun g => g.1) (fun g => by have := hts.1; omega)
                                  have hs30 : π 1 (1 + c4) = π 1 30 := by omega
                                  refine rd_aload_n C dL_holds_209 rfl ?_
                                  refine rd_iload C dL_holds_210 rfl ?_
                                  refine rd_callV C (kq_fewest hSm htg) rm_L_105 ri_X9_fewest rs_X9_fewest rc_X9_fewest rz_X9 ⟨rp_X9_fewest, rfl, rfl, by decide, by decide⟩ rfl rd_kcl9 dL_holds_212 rd_b0 rd_k0 rfl (Nat.le_of_ble_eq_true rfl) (fun v5 w5 hq => ?_)
                                  obtain ⟨⟨z5, hv5, hz5⟩, hS5⟩ := hq; subst hv5
                                  replace hz5 : ph_z mm π z5 (mo_o π (π 1 (1 + c4)) (22 + c8)) := hz5
                                  have hf5 := ph_f0 hSm.1 hon1 hz5
                                  have hg5 : mo_o π (π 1 (1 + c4)) (22 + c8) ≠ π 1 (1 + c4) → z5 = 1 := fun g => (by rw [hs30] at hz5 htg g; exact ph_f1 hSm.1 hon1 (by omega) htg hz5 g)
                                  refine rd_iload C dL_holds_215 rfl ?_
                                  refine rd_iload C dL_holds_217 rfl ?_
                                  refine rd_icmp_ne C dL_holds_219 (tgt := 226) (by decide) (fun h_219 => ?_) (fun h_219 => ?_)
                                  · refine rd_iconst C dL_holds_226 (n := 1) ⟨by decide, by decide⟩ ?_
                                    refine rd_icmp_ne C dL_holds_227 (tgt := 234) (by decide) (fun h_227 => ?_) (fun h_227 => ?_)
                                    · exfalso; omega
                                    · refine rd_iconst C dL_holds_230 (n := 1) ⟨by decide, by decide⟩ ?_
                                      refine rd_goto C dL_holds_231 (tgt := 235) (by decide) ?_
                                      refine rd_istore_n C dL_holds_235 (by decide) (L' := [rd_R 0, rd_I 1, rd_I (x + (mo_FS π (π 1 (1 + c4)) + 1)), rd_I (pv_now π 0), rd_I c4, rd_I (π 1 (1 + c4)), rd_I (mo_FS π (π 1 (1 + c4))), rd_I (c7 + 1), rd_I c8, rd_I (mo_o π (π 1 (1 + c4)) (22 + c8))]) rfl ?_
                                      refine rd_iinc C dL_holds_236 (by decide) rfl ⟨by omega, by omega⟩ (L' := [rd_R 0, rd_I 1, rd_I (x + (mo_FS π (π 1 (1 + c4)) + 1)), rd_I (pv_now π 0), rd_I c4, rd_I (π 1 (1 + c4)), rd_I (mo_FS π (π 1 (1 + c4))), rd_I (c7 + 1), rd_I (c8 + 1), rd_I (mo_o π (π 1 (1 + c4)) (22 + c8))]) rfl ?_
                                      refine rd_goto C dL_holds_239 (tgt := 127) (by decide) ?_
                                      refine rd_drop 9 (L' := [rd_R 0, rd_I 1, rd_I (x + (mo_FS π (π 1 (1 + c4)) + 1)), rd_I (pv_now π 0), rd_I c4, rd_I (π 1 (1 + c4)), rd_I (mo_FS π (π 1 (1 + c4))), rd_I (c7 + 1), rd_I (c8 + 1), rd_J]) rfl ?_
                                      exact ih127 _ _ _ hS5 (by omega) (by omega) (by have hq := ph_lks (fun q => mo_o π (π 1 (1 + c4)) (22 + q)) (c := c8) (by omega); omega)
                                  · refine rd_iconst C dL_holds_222 (n := 0) ⟨by decide, by decide⟩ ?_
                                    refine rd_goto C dL_holds_223 (tgt := 227) (by decide) ?_
                                    refine rd_icmp_ne C dL_holds_227 (tgt := 234) (by decide) (fun h_227 => ?_) (fun h_227 => ?_)
                                    · exfalso; omega
                                    · refine rd_iconst C dL_holds_230 (n := 1) ⟨by decide, by decide⟩ ?_
                                      refine rd_goto C dL_holds_231 (tgt := 235) (by decide) ?_
                                      refine rd_istore_n C dL_holds_235 (by decide) (L' := [rd_R 0, rd_I 1, rd_I (x + (mo_FS π (π 1 (1 + c4)) + 1)), rd_I (pv_now π 0), rd_I c4, rd_I (π 1 (1 + c4)), rd_I (mo_FS π (π 1 (1 + c4))), rd_I (c7 + 1), rd_I c8, rd_I (mo_o π (π 1 (1 + c4)) (22 + c8))]) rfl ?_
                                      refine rd_iinc C dL_holds_236 (by decide) rfl ⟨by omega, by omega⟩ (L' := [rd_R 0, rd_I 1, rd_I (x + (mo_FS π (π 1 (1 + c4)) + 1)), rd_I (pv_now π 0), rd_I c4, rd_I (π 1 (1 + c4)), rd_I (mo_FS π (π 1 (1 + c4))), rd_I (c7 + 1), rd_I (c8 + 1), rd_I (mo_o π (π 1 (1 + c4)) (22 + c8))]) rfl ?_
                                      refine rd_goto C dL_holds_239 (tgt := 127) (by decide) ?_
                                      refine rd_drop 9 (L' := [rd_R 0, rd_I 1, rd_I (x + (mo_FS π (π 1 (1 + c4)) + 1)), rd_I (pv_now π 0), rd_I c4, rd_I (π 1 (1 + c4)), rd_I (mo_FS π (π 1 (1 + c4))), rd_I (c7 + 1), rd_I (c8 + 1), rd_J]) rfl ?_
                                      exact ih127 _ _ _ hS5 (by omega) (by omega) (by have hq := ph_lks (fun q => mo_o π (π 1 (1 + c4)) (22 + q)) (c := c8) (by omega); omega)
                          · exfalso; omega
                        · have h6t : mo_o π (π 1 (1 + c4)) (22 + c8) = -6 := htt.resolve_right (fun g => by have := g.1; omega)
                          refine rd_iconst C dL_holds_151 (n := 0) ⟨by decide, by decide⟩ ?_
                          refine rd_goto C dL_holds_152 (tgt := 156) (by decide) ?_
                          refine rd_iadd C dL_holds_156 (z := c7 + 0) rfl ⟨by omega, by omega⟩ ?_
                          refine rd_istore C dL_holds_157 (by decide) (L' := [rd_R 0, rd_I 1, rd_I (x + (mo_FS π (π 1 (1 + c4)) + 1)), rd_I (pv_now π 0), rd_I c4, rd_I (π 1 (1 + c4)), rd_I (mo_FS π (π 1 (1 + c4))), rd_I (c7 + 0), rd_I c8, rd_I (mo_o π (π 1 (1 + c4)) (22 + c8))]) rfl ?_
                          refine rd_iload_n C dL_holds_159 rfl ?_
                          refine rd_if_eq C dL_holds_160 (tgt := 192) (by decide) (fun h => absurd h (by decide)) (fun _ => ?_)
                          refine rd_iload C dL_holds_163 rfl ?_
                          refine rd_if_ge C dL_holds_165 (tgt := 178) (by decide) (fun h_165 => ?_) (fun h_165 => ?_)
                          · exfalso; omega
                          · refine rd_iload C dL_holds_168 rfl ?_
                            refine rd_bipush C dL_holds_170 (n := -6) (by decide) ⟨by decide, by decide⟩ ?_
                            refine rd_icmp_ne C dL_holds_172 (tgt := 192) (by decide) (fun h_172 => ?_) (fun h_172 => ?_)
                            · exfalso; omega
                            · refine rd_goto C dL_holds_175 (tgt := 188) (by decide) ?_
                              refine rd_iconst C dL_holds_188 (n := 1) ⟨by decide, by decide⟩ ?_
                              refine rd_goto C dL_holds_189 (tgt := 193) (by decide) ?_
                              refine rd_istore_n C dL_holds_193 (by decide) (L' := [rd_R 0, rd_I 1, rd_I (x + (mo_FS π (π 1 (1 + c4)) + 1)), rd_I (pv_now π 0), rd_I c4, rd_I (π 1 (1 + c4)), rd_I (mo_FS π (π 1 (1 + c4))), rd_I (c7 + 0), rd_I c8, rd_I (mo_o π (π 1 (1 + c4)) (22 + c8))]) rfl ?_
                              refine rd_iload_n C dL_holds_194 rfl ?_
                              refine rd_if_eq C dL_holds_195 (tgt := 234) (by decide) (fun h => absurd h (by decide)) (fun _ => ?_)
                              refine rd_iload_n C dL_holds_198 rfl ?_
                              refine rd_iload C dL_holds_199 rfl ?_
                              refine rd_icmp_ne C dL_holds_201 (tgt := 230) (by decide) (fun h_201 => ?_) (fun h_201 => ?_)
                              · refine rd_iconst C dL_holds_230 (n := 1) ⟨by decide, by decide⟩ ?_
                                refine rd_goto C dL_holds_231 (tgt := 235) (by decide) ?_
                                refine rd_istore_n C dL_holds_235 (by decide) (L' := [rd_R 0, rd_I 1, rd_I (x + (mo_FS π (π 1 (1 + c4)) + 1)), rd_I (pv_now π 0), rd_I c4, rd_I (π 1 (1 + c4)), rd_I (mo_FS π (π 1 (1 + c4))), rd_I (c7 + 0), rd_I c8, rd_I (mo_o π (π 1 (1 + c4)) (22 + c8))]) rfl ?_
                                refine rd_iinc C dL_holds_236 (by decide) rfl ⟨by omega, by omega⟩ (L' := [rd_R 0, rd_I 1, rd_I (x + (mo_FS π (π 1 (1 + c4)) + 1)), rd_I (pv_now π 0), rd_I c4, rd_I (π 1 (1 + c4)), rd_I (mo_FS π (π 1 (1 + c4))), rd_I (c7 + 0), rd_I (c8 + 1), rd_I (mo_o π (π 1 (1 + c4)) (22 + c8))]) rfl ?_
                                refine rd_goto C dL_holds_239 (tgt := 127) (by decide) ?_
                                refine rd_drop 9 (L' := [rd_R 0, rd_I 1, rd_I (x + (mo_FS π (π 1 (1 + c4)) + 1)), rd_I (pv_now π 0), rd_I c4, rd_I (π 1 (1 + c4)), rd_I (mo_FS π (π 1 (1 + c4))), rd_I (c7 + 0), rd_I (c8 + 1), rd_J]) rfl ?_
                                exact ih127 _ _ _ hSm (by omega) (by omega) (by have hq := ph_lks (fun q => mo_o π (π 1 (1 + c4)) (22 + q)) (c := c8) (by omega); omega)
                              · refine rd_iload C dL_holds_204 rfl ?_
                                refine rd_if_lt C dL_holds_206 (tgt := 230) (by decide) (fun h_206 => ?_) (fun h_206 => ?_)
                                · refine rd_iconst C dL_holds_230 (n := 1) ⟨by decide, by decide⟩ ?_
                                  refine rd_goto C dL_holds_231 (tgt := 235) (by decide) ?_
                                  refine rd_istore_n C dL_holds_235 (by decide) (L' := [rd_R 0, rd_I 1, rd_I (x + (mo_FS π (π 1 (1 + c4)) + 1)), rd_I (pv_now π 0), rd_I c4, rd_I (π 1 (1 + c4)), rd_I (mo_FS π (π 1 (1 + c4))), rd_I (c7 + 0), rd_I c8, rd_I (mo_o π (π 1 (1 + c4)) (22 + c8))]) rfl ?_
                                  refine rd_iinc C dL_holds_236 (by decide) rfl ⟨by omega, by omega⟩ (L' := [rd_R 0, rd_I 1, rd_I (x + (mo_FS π (π 1 (1 + c4)) + 1)), rd_I (pv_now π 0), rd_I c4, rd_I (π 1 (1 + c4)), rd_I (mo_FS π (π 1 (1 + c4))), rd_I (c7 + 0), rd_I (c8 + 1), rd_I (mo_o π (π 1 (1 + c4)) (22 + c8))]) rfl ?_
                                  refine rd_goto C dL_holds_239 (tgt := 127) (by decide) ?_
                                  refine rd_drop 9 (L' := [rd_R 0, rd_I 1, rd_I (x + (mo_FS π (π 1 (1 + c4)) + 1)), rd_I (pv_now π 0), rd_I c4, rd_I (π 1 (1 + c4)), rd_I (mo_FS π (π 1 (1 + c4))), rd_I (c7 + 0), rd_I (c8 + 1), rd_J]) rfl ?_
                                  exact ih127 _ _ _ hSm (by omega) (by omega) (by have hq := ph_lks (fun q => mo_o π (π 1 (1 + c4)) (22 + q)) (c := c8) (by omega); omega)
                                · exfalso; omega
                  exact lp127 11 _ 0 0 hSm (by omega) (by omega) rfl
                · refine rd_iload_n C dL_holds_87 rfl ?_
                  refine rd_if_eq C dL_holds_88 (tgt := 116) (by decide) (fun h => absurd h (by decide)) (fun _ => ?_)
                  have hpic := ph_pic hR hts h5 (by omega)
                  refine rd_aload_n C dL_holds_91 rfl ?_
                  refine rd_iload C dL_holds_92 rfl ?_
                  refine rd_iload C dL_holds_94 rfl ?_
                  refine rd_callV C (kq_picture hSm) rm_L_37 ri_X9_picture rs_X9_picture rc_X9_picture rz_X9 ⟨rp_X9_picture, rfl, rfl, by decide, by decide⟩ rfl rd_kcl9 dL_holds_96 rd_b0 rd_k0 rfl (Nat.le_of_ble_eq_true rfl) (fun v1 w1 hq => ?_)
                  obtain ⟨hv1, hm1⟩ := hq; rw [hv1, hm1]; clear hv1 hm1 v1 w1
                  refine rd_aload_n C dL_holds_99 rfl ?_
                  refine rd_iload C dL_holds_100 rfl ?_
                  refine rd_iload C dL_holds_102 rfl ?_
                  refine rd_iconst C dL_holds_104 (n := 1) ⟨by decide, by decide⟩ ?_
                  refine rd_iadd C dL_holds_105 (z := c8 + 1) rfl ⟨by omega, by omega⟩ ?_
                  refine rd_callV C (kq_picture hSm) rm_L_37 ri_X9_picture rs_X9_picture rc_X9_picture rz_X9 ⟨rp_X9_picture, rfl, rfl, by decide, by decide⟩ rfl rd_kcl9 dL_holds_106 rd_b0 rd_k0 rfl (Nat.le_of_ble_eq_true rfl) (fun v1 w1 hq => ?_)
                  obtain ⟨hv1, hm1⟩ := hq; rw [hv1, hm1]; clear hv1 hm1 v1 w1
                  refine rd_icmp_ne C dL_holds_109 (tgt := 116) (by decide) (fun h_109 => ?_) (fun h_109 => ?_)
                  · exfalso; omega
                  · refine rd_iconst C dL_holds_112 (n := 1) ⟨by decide, by decide⟩ ?_
                    refine rd_goto C dL_holds_113 (tgt := 117) (by decide) ?_
                    refine rd_istore_n C dL_holds_117 (by decide) (L' := [rd_R 0, rd_I 1, rd_I (x + (mo_FS π (π 1 (1 + c4)) + 1)), rd_I (pv_now π 0), rd_I c4, rd_I (π 1 (1 + c4)), rd_I (mo_FS π (π 1 (1 + c4))), rd_I 0, rd_I c8, rd_J]) rfl ?_
                    refine rd_iinc C dL_holds_118 (by decide) rfl ⟨by omega, by omega⟩ (L' := [rd_R 0, rd_I 1, rd_I (x + (mo_FS π (π 1 (1 + c4)) + 1)), rd_I (pv_now π 0), rd_I c4, rd_I (π 1 (1 + c4)), rd_I (mo_FS π (π 1 (1 + c4))), rd_I 0, rd_I (c8 + 1), rd_J]) rfl ?_
                    refine rd_goto C dL_holds_121 (tgt := 80) (by decide) ?_
                    exact ih80 _ (by omega) (by omega) (by omega)
            exact lp80 10 (mo_FS π (π 1 (1 + c4))) (by omega) (by omega) (by omega)
      exact lp36 ((π 1 0).toNat + 1) _ 0 0 hS (by omega) (by omega) rfl
