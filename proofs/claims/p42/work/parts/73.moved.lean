/-! the law's isMoved -/
theorem kq_undo_z {lz : Launch} {G : rd_G} {r : Nat} {μ π ρ : rd_Mem} {l : List rd_Mem} (hS : pg_S μ π (ρ :: l)) : rd_M lz G rd_kc 313 r yX9_undo cX9_undo 1 (some .int) (rd_rm 5 125) [rd_R 0] μ (fun v μ' => ∃ z : Int, 0 ≤ z ∧ v = some (rd_I z) ∧ pg_S μ' ρ l) :=
  pg_M (kq_undo hS) (fun v μ' h => ⟨_, by omega, h.1, h.2⟩)
set_option maxHeartbeats 4000000 in
set_option maxRecDepth 100000 in
theorem c_L_isMoved {l : Launch} {G : rd_G} {r : Nat} {μ : rd_Mem} {π : rd_Mem} {lh : List rd_Mem} (hS : pg_S μ π lh) {k0 : Int} (hk : 0 ≤ k0 ∧ k0 ≤ 9) : rd_M l G rd_kc 313 r yL_isMoved cL_isMoved 17 (some .boolean) (rd_rm 7 171) [rd_R 0, rd_I k0] μ (fun v μ' => v = some (rd_I 1) ∧ ∃ l', pg_S μ' π l') := by
  refine rd_enter (by decide +kernel) (Nat.le_of_ble_eq_true rfl) [rd_R 0, rd_I k0, rd_J, rd_J, rd_J, rd_J, rd_J, rd_J, rd_J, rd_J, rd_J, rd_J, rd_J, rd_J, rd_J, rd_J, rd_J] rfl (fun p e s m args below meth c C => ?_)
  refine rd_W.rng (fun hM hL _ => ?_)
  have hR := hS.1
  refine rd_aload_n C dL_isMoved_0 rfl ?_
  refine rd_iconst C dL_isMoved_1 (n := 0) ⟨by decide, by decide⟩ ?_
  refine rd_callV C (kq_now hS) rm_L_23 ri_X9_now rs_X9_now rc_X9_now rz_X9 ⟨rp_X9_now, rfl, rfl, by decide, by decide⟩ rfl rd_kcl9 dL_isMoved_2 rd_b0 rd_k0 rfl (Nat.le_of_ble_eq_true rfl) (fun v1 w1 hq => ?_)
  obtain ⟨hv1, hm1⟩ := hq; rw [hv1, hm1]; clear hv1 hm1 v1 w1
  refine rd_if_ge C dL_isMoved_5 (tgt := 61) (by decide) (fun h_5 => ?_) (fun h_5 => ?_)
  · have hon : π 1 29 = 1 := (pm_29 hR).resolve_right (fun g => by have h1 := pm_nowx g (q := 0) (by omega); omega)
    have hn := pm_now hon
    have hV := pd_von hR hon
    have htg := pm_target hV.1 hk
    have htt := pm_tg hR hV.1 hk
    have hsl := (pm_slide hV.1 (q := 1)).2.1 (by omega)
    have h5 := pm_now5 hon
    have hLr := pd_Lr (pd_of hR) hV; rw [← pm_ml hon] at hLr
    have hLc := (pd_Lc (pd_of hR) hV).1; rw [← pm_ml hon] at hLc
    have h35 := (rl_J hR).1.2.1
    have hto : 0 ≤ mo_o π (π 1 30) (22 + k0) ∨ mo_o π (π 1 30) (22 + k0) = -6 := htt.elim Or.inr (fun g => Or.inl g.1.1)
    refine rd_aload_n C dL_isMoved_61 rfl ?_
    refine rd_callS C (c_L_looks hS) rm_L_121 rt_L_looks rc_L_looks rz_L ⟨rp_L_looks, rfl, rfl, by decide, by decide⟩ rfl dL_isMoved_62 rfl (Nat.le_of_ble_eq_true rfl) (fun v1 w1 hq => ?_)
    obtain ⟨hv1, hm1⟩ := hq; rw [hv1, hm1]; clear hv1 hm1 v1 w1
    refine rd_lstore_n C dL_isMoved_65 (by decide) (L' := [rd_R 0, rd_I k0, rd_Z (pl π), rd_J, rd_J, rd_J, rd_J, rd_J, rd_J, rd_J, rd_J, rd_J, rd_J, rd_J, rd_J, rd_J, rd_J]) rfl ?_
    have j524 : ∀ (mm : rd_Mem) (lm : List rd_Mem) (c10 c11 c12 c14 : Int), (pg_S mm π lm) → ((c10 = 1 ∧ mo_ov π) ∨ (c10 = 0 ∧ ¬ mo_ov π)) → rd_W p l e (rd_rm 7 171) s m args below meth c (MQ below (rd_Qc G rd_kc 313 r (fun v μ' => v = some (rd_I 1) ∧ ∃ l', pg_S μ' π l')) args s 0 0 (rd_A r 313)) 17 G rd_kc 313 r 524 [rd_R 0, rd_I k0, rd_Z (pl π), rd_J, rd_I (π 1 30), rd_I (π 1 31), rd_I (π 1 34), rd_I (pv_movesLeft π), rd_I (π 1 35), rd_I (mo_o π (π 1 30) (22 + k0)), rd_I c10, rd_I c11, rd_I c12, rd_I 1, rd_I c14, rd_J, rd_J] [] mm := by
      intro mm lm c10 c11 c12 c14 hSm hc10
      refine rd_aload_n C dL_isMoved_524 rfl ?_
      by_cases hb : mo_on π ∧ mo_bp π ≠ -1
      · obtain ⟨b0, b1, b2, b3, b4, b5⟩ := pm_bs hR hb
        refine rd_callV C (kq_backTo hSm) rm_L_108 ri_X9_backTo rs_X9_backTo rc_X9_backTo rz_X9 ⟨rp_X9_backTo, rfl, rfl, by decide, by decide⟩ rfl rd_kcl9 dL_isMoved_525 rd_b0 rd_k0 rfl (Nat.le_of_ble_eq_true rfl) (fun v1 w1 hq => ?_)
        obtain ⟨hv1, hm1⟩ := hq; rw [hv1, hm1]; clear hv1 hm1 v1 w1
        refine rd_istore C dL_isMoved_528 (by decide) (L' := [rd_R 0, rd_I k0, rd_Z (pl π), rd_J, rd_I (π 1 30), rd_I (π 1 31), rd_I (π 1 34), rd_I (pv_movesLeft π), rd_I (π 1 35), rd_I (mo_o π (π 1 30) (22 + k0)), rd_I c10, rd_I c11, rd_I c12, rd_I 1, rd_I c14, rd_I (pv_backTo π), rd_J]) rfl ?_
        refine rd_iload C dL_isMoved_530 rfl ?_
        refine rd_if_eq C dL_isMoved_532 (tgt := 542) (by decide) (fun h => absurd h (by decide)) (fun _ => ?_)
        refine rd_aload_n C dL_isMoved_535 rfl ?_
        refine rd_callV C (kq_back hSm) rm_L_93 ri_X9_back rs_X9_back rc_X9_back rz_X9 ⟨rp_X9_back, rfl, rfl, by decide, by decide⟩ rfl rd_kcl9 dL_isMoved_536 rd_b0 rd_k0 rfl (Nat.le_of_ble_eq_true rfl) (fun v1 w1 hq => ?_)
        obtain ⟨hv1, hm1⟩ := hq; rw [pm_by hb] at hv1 hm1; dsimp only at hv1 hm1; subst hv1
        have hS1 := pg_T_ok hm1 b5
        refine rd_goto C dL_isMoved_539 (tgt := 543) (by decide) ?_
        refine rd_istore C dL_isMoved_543 (by decide) (L' := [rd_R 0, rd_I k0, rd_Z (pl π), rd_J, rd_I (π 1 30), rd_I (π 1 31), rd_I (π 1 34), rd_I (pv_movesLeft π), rd_I (π 1 35), rd_I (mo_o π (π 1 30) (22 + k0)), rd_I c10, rd_I c11, rd_I c12, rd_I 1, rd_I c14, rd_I (pv_backTo π), rd_I (mo_bk π 1 31)]) rfl ?_
        refine rd_iload C dL_isMoved_545 rfl ?_
        refine rd_if_eq C dL_isMoved_547 (tgt := 577) (by decide) (fun h => absurd h (by decide)) (fun _ => ?_)
        refine rd_iload C dL_isMoved_550 rfl ?_
        refine rd_if_lt C dL_isMoved_552 (tgt := 559) (by decide) (fun h_552 => ?_) (fun h_552 => ?_)
        · exfalso; omega
        · refine rd_iconst C dL_isMoved_555 (n := 1) ⟨by decide, by decide⟩ ?_
          refine rd_goto C dL_isMoved_556 (tgt := 560) (by decide) ?_
          refine rd_iload C dL_isMoved_560 rfl ?_
          refine rd_if_lt C dL_isMoved_562 (tgt := 569) (by decide) (fun h_562 => ?_) (fun h_562 => ?_)
          · exfalso; omega
          · refine rd_iconst C dL_isMoved_565 (n := 1) ⟨by decide, by decide⟩ ?_
            refine rd_goto C dL_isMoved_566 (tgt := 570) (by decide) ?_
            refine rd_icmp_ne C dL_isMoved_570 (tgt := 577) (by decide) (fun h => absurd h (by decide)) (fun _ => ?_)
            refine rd_iconst C dL_isMoved_573 (n := 1) ⟨by decide, by decide⟩ ?_
            refine rd_goto C dL_isMoved_574 (tgt := 578) (by decide) ?_
            refine rd_istore C dL_isMoved_578 (by decide) (L' := [rd_R 0, rd_I k0, rd_Z (pl π), rd_J, rd_I (π 1 30), rd_I (π 1 31), rd_I (π 1 34), rd_I (pv_movesLeft π), rd_I (π 1 35), rd_I (mo_o π (π 1 30) (22 + k0)), rd_I c10, rd_I c11, rd_I c12, rd_I 1, rd_I c14, rd_I (pv_backTo π), rd_I (mo_bk π 1 31)]) rfl ?_
            refine rd_iload C dL_isMoved_580 rfl ?_
            refine rd_if_eq C dL_isMoved_582 (tgt := 652) (by decide) (fun h => absurd h (by decide)) (fun _ => ?_)
            refine rd_iload C dL_isMoved_585 rfl ?_
            refine rd_if_lt C dL_isMoved_587 (tgt := 652) (by decide) (fun h_587 => ?_) (fun h_587 => ?_)
            · exfalso; omega
            · refine rd_aload_n C dL_isMoved_590 rfl ?_
              refine rd_iconst C dL_isMoved_591 (n := 0) ⟨by decide, by decide⟩ ?_
              refine rd_callV C (kq_now hS1) rm_L_23 ri_X9_now rs_X9_now rc_X9_now rz_X9 ⟨rp_X9_now, rfl, rfl, by decide, by decide⟩ rfl rd_kcl9 dL_isMoved_592 rd_b0 rd_k0 rfl (Nat.le_of_ble_eq_true rfl) (fun v1 w1 hq => ?_)
              obtain ⟨hv1, hm1⟩ := hq; rw [hv1, hm1, b1]; clear hv1 hm1 v1 w1
              refine rd_iload C dL_isMoved_595 rfl ?_
              refine rd_icmp_ne C dL_isMoved_597 (tgt := 649) (by decide) (fun h => by exfalso; omega) (fun _ => ?_)
              refine rd_aload_n C dL_isMoved_600 rfl ?_
              refine rd_iconst C dL_isMoved_601 (n := 1) ⟨by decide, by decide⟩ ?_
              refine rd_callV C (kq_now hS1) rm_L_23 ri_X9_now rs_X9_now rc_X9_now rz_X9 ⟨rp_X9_now, rfl, rfl, by decide, by decide⟩ rfl rd_kcl9 dL_isMoved_602 rd_b0 rd_k0 rfl (Nat.le_of_ble_eq_true rfl) (fun v1 w1 hq => ?_)
              obtain ⟨hv1, hm1⟩ := hq; rw [hv1, hm1, b2]; clear hv1 hm1 v1 w1
              refine rd_iload C dL_isMoved_605 rfl ?_
              refine rd_icmp_ne C dL_isMoved_607 (tgt := 649) (by decide) (fun h => by exfalso; omega) (fun _ => ?_)
              refine rd_aload_n C dL_isMoved_610 rfl ?_
              refine rd_iconst C dL_isMoved_611 (n := 3) ⟨by decide, by decide⟩ ?_
              refine rd_callV C (kq_now hS1) rm_L_23 ri_X9_now rs_X9_now rc_X9_now rz_X9 ⟨rp_X9_now, rfl, rfl, by decide, by decide⟩ rfl rd_kcl9 dL_isMoved_612 rd_b0 rd_k0 rfl (Nat.le_of_ble_eq_true rfl) (fun v1 w1 hq => ?_)
              obtain ⟨hv1, hm1⟩ := hq; rw [hv1, hm1, b3]; clear hv1 hm1 v1 w1
              refine rd_if_ne C dL_isMoved_615 (tgt := 649) (by decide) (fun h => absurd h (by decide)) (fun _ => ?_)
              refine rd_aload_n C dL_isMoved_618 rfl ?_
              refine rd_iload C dL_isMoved_619 rfl ?_
              refine rd_iconst C dL_isMoved_621 (n := 1) ⟨by decide, by decide⟩ ?_
              refine rd_callV C (kq_slide hS1) rm_L_34 ri_X9_slide rs_X9_slide rc_X9_slide rz_X9 ⟨rp_X9_slide, rfl, rfl, by decide, by decide⟩ rfl rd_kcl9 dL_isMoved_622 rd_b0 rd_k0 rfl (Nat.le_of_ble_eq_true rfl) (fun v1 w1 hq => ?_)
              obtain ⟨hv1, hm1⟩ := hq; rw [hv1, hm1]; clear hv1 hm1 v1 w1
              refine rd_if_eq C dL_isMoved_625 (tgt := 638) (by decide) (fun h_625 => ?_) (fun h_625 => ?_)
              · refine rd_aload_n C dL_isMoved_638 rfl ?_
                refine rd_callV C (kq_undo_z hS1) rm_L_125 ri_X9_undo rs_X9_undo rc_X9_undo rz_X9 ⟨rp_X9_undo, rfl, rfl, by decide, by decide⟩ rfl rd_kcl9 dL_isMoved_639 rd_b0 rd_k0 rfl (Nat.le_of_ble_eq_true rfl) (fun v2 w2 hq => ?_)
                obtain ⟨z2, hz2, hv2, hS2⟩ := hq; subst hv2
                refine rd_if_lt C dL_isMoved_642 (tgt := 649) (by decide) (fun h_642 => ?_) (fun h_642 => ?_)
                · exfalso; omega
                · refine rd_iconst C dL_isMoved_645 (n := 1) ⟨by decide, by decide⟩ ?_
                  refine rd_goto C dL_isMoved_646 (tgt := 650) (by decide) ?_
                  refine rd_istore C dL_isMoved_650 (by decide) (L' := [rd_R 0, rd_I k0, rd_Z (pl π), rd_J, rd_I (π 1 30), rd_I (π 1 31), rd_I (π 1 34), rd_I (pv_movesLeft π), rd_I (π 1 35), rd_I (mo_o π (π 1 30) (22 + k0)), rd_I c10, rd_I c11, rd_I c12, rd_I 1, rd_I c14, rd_I (pv_backTo π), rd_I (mo_bk π 1 31)]) rfl ?_
                  refine rd_iload C dL_isMoved_652 rfl ?_
                  refine rd_if_eq C dL_isMoved_654 (tgt := 670) (by decide) (fun h => absurd h (by decide)) (fun _ => ?_)
                  refine rd_aload_n C dL_isMoved_657 rfl ?_
                  refine rd_callS C (c_L_looks hS2) rm_L_121 rt_L_looks rc_L_looks rz_L ⟨rp_L_looks, rfl, rfl, by decide, by decide⟩ rfl dL_isMoved_658 rfl (Nat.le_of_ble_eq_true rfl) (fun v1 w1 hq => ?_)
                  obtain ⟨hv1, hm1⟩ := hq; rw [hv1, hm1]; clear hv1 hm1 v1 w1
                  refine rd_lload_n C dL_isMoved_661 rfl ?_
                  refine rd_lcmp C dL_isMoved_662 ?_
                  refine rd_if_ne C dL_isMoved_663 (tgt := 670) (by decide) (fun h => absurd h (by decide)) (fun _ => ?_)
                  refine rd_iconst C dL_isMoved_666 (n := 1) ⟨by decide, by decide⟩ ?_
                  refine rd_goto C dL_isMoved_667 (tgt := 671) (by decide) ?_
                  exact rd_zret C dL_isMoved_671 (by omega) ⟨rfl, _, hS2⟩
              · refine rd_aload_n C dL_isMoved_628 rfl ?_
                refine rd_bipush C dL_isMoved_629 (n := 6) (by decide) ⟨by decide, by decide⟩ ?_
                refine rd_callV C (kq_now hS1) rm_L_23 ri_X9_now rs_X9_now rc_X9_now rz_X9 ⟨rp_X9_now, rfl, rfl, by decide, by decide⟩ rfl rd_kcl9 dL_isMoved_631 rd_b0 rd_k0 rfl (Nat.le_of_ble_eq_true rfl) (fun v1 w1 hq => ?_)
                obtain ⟨hv1, hm1⟩ := hq; rw [hv1, hm1]; clear hv1 hm1 v1 w1
                refine rd_iconst C dL_isMoved_634 (n := 1) ⟨by decide, by decide⟩ ?_
                refine rd_icmp_ne C dL_isMoved_635 (tgt := 649) (by decide) (fun h_635 => ?_) (fun h_635 => ?_)
                · exfalso; omega
                · refine rd_aload_n C dL_isMoved_638 rfl ?_
                  refine rd_callV C (kq_undo_z hS1) rm_L_125 ri_X9_undo rs_X9_undo rc_X9_undo rz_X9 ⟨rp_X9_undo, rfl, rfl, by decide, by decide⟩ rfl rd_kcl9 dL_isMoved_639 rd_b0 rd_k0 rfl (Nat.le_of_ble_eq_true rfl) (fun v3 w3 hq => ?_)
                  obtain ⟨z3, hz3, hv3, hS3⟩ := hq; subst hv3
                  refine rd_if_lt C dL_isMoved_642 (tgt := 649) (by decide) (fun h_642 => ?_) (fun h_642 => ?_)
                  · exfalso; omega
                  · refine rd_iconst C dL_isMoved_645 (n := 1) ⟨by decide, by decide⟩ ?_
                    refine rd_goto C dL_isMoved_646 (tgt := 650) (by decide) ?_
                    refine rd_istore C dL_isMoved_650 (by decide) (L' := [rd_R 0, rd_I k0, rd_Z (pl π), rd_J, rd_I (π 1 30), rd_I (π 1 31), rd_I (π 1 34), rd_I (pv_movesLeft π), rd_I (π 1 35), rd_I (mo_o π (π 1 30) (22 + k0)), rd_I c10, rd_I c11, rd_I c12, rd_I 1, rd_I c14, rd_I (pv_backTo π), rd_I (mo_bk π 1 31)]) rfl ?_
                    refine rd_iload C dL_isMoved_652 rfl ?_
                    refine rd_if_eq C dL_isMoved_654 (tgt := 670) (by decide) (fun h => absurd h (by decide)) (fun _ => ?_)
                    refine rd_aload_n C dL_isMoved_657 rfl ?_
                    refine rd_callS C (c_L_looks hS3) rm_L_121 rt_L_looks rc_L_looks rz_L ⟨rp_L_looks, rfl, rfl, by decide, by decide⟩ rfl dL_isMoved_658 rfl (Nat.le_of_ble_eq_true rfl) (fun v1 w1 hq => ?_)
                    obtain ⟨hv1, hm1⟩ := hq; rw [hv1, hm1]; clear hv1 hm1 v1 w1
                    refine rd_lload_n C dL_isMoved_661 rfl ?_
                    refine rd_lcmp C dL_isMoved_662 ?_
                    refine rd_if_ne C dL_isMoved_663 (tgt := 670) (by decide) (fun h => absurd h (by decide)) (fun _ => ?_)
                    refine rd_iconst C dL_isMoved_666 (n := 1) ⟨by decide, by decide⟩ ?_
                    refine rd_goto C dL_isMoved_667 (tgt := 671) (by decide) ?_
                    exact rd_zret C dL_isMoved_671 (by omega) ⟨rfl, _, hS3⟩
      · have hbx := pm_btx hb
        refine rd_callV C (kq_backTo hSm) rm_L_108 ri_X9_backTo rs_X9_backTo rc_X9_backTo rz_X9 ⟨rp_X9_backTo, rfl, rfl, by decide, by decide⟩ rfl rd_kcl9 dL_isMoved_525 rd_b0 rd_k0 rfl (Nat.le_of_ble_eq_true rfl) (fun v1 w1 hq => ?_)
        obtain ⟨hv1, hm1⟩ := hq; rw [hv1, hm1]; clear hv1 hm1 v1 w1
        refine rd_istore C dL_isMoved_528 (by decide) (L' := [rd_R 0, rd_I k0, rd_Z (pl π), rd_J, rd_I (π 1 30), rd_I (π 1 31), rd_I (π 1 34), rd_I (pv_movesLeft π), rd_I (π 1 35), rd_I (mo_o π (π 1 30) (22 + k0)), rd_I c10, rd_I c11, rd_I c12, rd_I 1, rd_I c14, rd_I (pv_backTo π), rd_J]) rfl ?_
        refine rd_iload C dL_isMoved_530 rfl ?_
        refine rd_if_eq C dL_isMoved_532 (tgt := 542) (by decide) (fun h => absurd h (by decide)) (fun _ => ?_)
        refine rd_aload_n C dL_isMoved_535 rfl ?_
        refine rd_callV C (kq_back hSm) rm_L_93 ri_X9_back rs_X9_back rc_X9_back rz_X9 ⟨rp_X9_back, rfl, rfl, by decide, by decide⟩ rfl rd_kcl9 dL_isMoved_536 rd_b0 rd_k0 rfl (Nat.le_of_ble_eq_true rfl) (fun v4 w4 hq => ?_)
        obtain ⟨hv4, hm4⟩ := hq; rw [pm_bn hb] at hv4 hm4; dsimp only at hv4 hm4; subst hv4
        obtain ⟨lh4, hS4⟩ := pg_T_no hSm hm4
        refine rd_goto C dL_isMoved_539 (tgt := 543) (by decide) ?_
        refine rd_istore C dL_isMoved_543 (by decide) (L' := [rd_R 0, rd_I k0, rd_Z (pl π), rd_J, rd_I (π 1 30), rd_I (π 1 31), rd_I (π 1 34), rd_I (pv_movesLeft π), rd_I (π 1 35), rd_I (mo_o π (π 1 30) (22 + k0)), rd_I c10, rd_I c11, rd_I c12, rd_I 1, rd_I c14, rd_I (pv_backTo π), rd_I (-5)]) rfl ?_
        refine rd_iload C dL_isMoved_545 rfl ?_
        refine rd_if_eq C dL_isMoved_547 (tgt := 577) (by decide) (fun h => absurd h (by decide)) (fun _ => ?_)
        refine rd_iload C dL_isMoved_550 rfl ?_
        refine rd_if_lt C dL_isMoved_552 (tgt := 559) (by decide) (fun _ => ?_) (fun h => absurd h (by decide))
        refine rd_iconst C dL_isMoved_559 (n := 0) ⟨by decide, by decide⟩ ?_
        refine rd_iload C dL_isMoved_560 rfl ?_
        refine rd_if_lt C dL_isMoved_562 (tgt := 569) (by decide) (fun h_562 => ?_) (fun h_562 => ?_)
        · refine rd_iconst C dL_isMoved_569 (n := 0) ⟨by decide, by decide⟩ ?_
          refine rd_icmp_ne C dL_isMoved_570 (tgt := 577) (by decide) (fun h => absurd h (by decide)) (fun _ => ?_)
          refine rd_iconst C dL_isMoved_573 (n := 1) ⟨by decide, by decide⟩ ?_
          refine rd_goto C dL_isMoved_574 (tgt := 578) (by decide) ?_
          refine rd_istore C dL_isMoved_578 (by decide) (L' := [rd_R 0, rd_I k0, rd_Z (pl π), rd_J, rd_I (π 1 30), rd_I (π 1 31), rd_I (π 1 34), rd_I (pv_movesLeft π), rd_I (π 1 35), rd_I (mo_o π (π 1 30) (22 + k0)), rd_I c10, rd_I c11, rd_I c12, rd_I 1, rd_I c14, rd_I (pv_backTo π), rd_I (-5)]) rfl ?_
          refine rd_iload C dL_isMoved_580 rfl ?_
          refine rd_if_eq C dL_isMoved_582 (tgt := 652) (by decide) (fun h => absurd h (by decide)) (fun _ => ?_)
          refine rd_iload C dL_isMoved_585 rfl ?_
          refine rd_if_lt C dL_isMoved_587 (tgt := 652) (by decide) (fun _ => ?_) (fun h => absurd h (by decide))
          refine rd_iload C dL_isMoved_652 rfl ?_
          refine rd_if_eq C dL_isMoved_654 (tgt := 670) (by decide) (fun h => absurd h (by decide)) (fun _ => ?_)
          refine rd_aload_n C dL_isMoved_657 rfl ?_
          refine rd_callS C (c_L_looks hS4) rm_L_121 rt_L_looks rc_L_looks rz_L ⟨rp_L_looks, rfl, rfl, by decide, by decide⟩ rfl dL_isMoved_658 rfl (Nat.le_of_ble_eq_true rfl) (fun v1 w1 hq => ?_)
          obtain ⟨hv1, hm1⟩ := hq; rw [hv1, hm1]; clear hv1 hm1 v1 w1
          refine rd_lload_n C dL_isMoved_661 rfl ?_
          refine rd_lcmp C dL_isMoved_662 ?_
          refine rd_if_ne C dL_isMoved_663 (tgt := 670) (by decide) (fun h => absurd h (by decide)) (fun _ => ?_)
          refine rd_iconst C dL_isMoved_666 (n := 1) ⟨by decide, by decide⟩ ?_
          refine rd_goto C dL_isMoved_667 (tgt := 671) (by decide) ?_
          exact rd_zret C dL_isMoved_671 (by omega) ⟨rfl, _, hS4⟩
        · exfalso; omega
    have j387 : ∀ (mm : rd_Mem) (lm : List rd_Mem) (c10 c11 c12 : Int), (pg_S mm π lm) → ((c10 = 1 ∧ mo_ov π) ∨ (c10 = 0 ∧ ¬ mo_ov π)) → rd_W p l e (rd_rm 7 171) s m args below meth c (MQ below (rd_Qc G rd_kc 313 r (fun v μ' => v = some (rd_I 1) ∧ ∃ l', pg_S μ' π l')) args s 0 0 (rd_A r 313)) 17 G rd_kc 313 r 387 [rd_R 0, rd_I k0, rd_Z (pl π), rd_J, rd_I (π 1 30), rd_I (π 1 31), rd_I (π 1 34), rd_I (pv_movesLeft π), rd_I (π 1 35), rd_I (mo_o π (π 1 30) (22 + k0)), rd_I c10, rd_I c11, rd_I c12, rd_I 1, rd_J, rd_J, rd_J] [] mm := by
      intro mm lm c10 c11 c12 hSm hc10
      refine rd_iload C dL_isMoved_387 rfl ?_
      refine rd_if_eq C dL_isMoved_389 (tgt := 400) (by decide) (fun h => absurd h (by decide)) (fun _ => ?_)
      refine rd_aload_n C dL_isMoved_392 rfl ?_
      refine rd_iload_n C dL_isMoved_393 rfl ?_
      by_cases hp : mo_on π ∧ mo_o π (π 1 30) (22 + k0) ≠ -6
      · have hc0 : c10 = 0 := hc10.elim (fun g => absurd g.2 hp.1.2) (fun g => g.1)
        have ht0 : 0 ≤ mo_o π (π 1 30) (22 + k0) := hto.resolve_right hp.2
        obtain ⟨p0, p1, p2, p3, p4, p5⟩ := pm_ps hR hon (mo_o π (π 1 30) (22 + k0)) 0 1
        have e := pm_py hk hp; rw [p0] at e
        refine rd_callV C (kq_press hSm) rm_L_96 ri_X9_press rs_X9_press rc_X9_press rz_X9 ⟨rp_X9_press, rfl, rfl, by decide, by decide⟩ rfl rd_kcl9 dL_isMoved_394 rd_b0 rd_k0 rfl (Nat.le_of_ble_eq_true rfl) (fun v5 w5 hq => ?_)
        obtain ⟨hv5, hm5⟩ := hq; rw [e] at hv5 hm5; dsimp only at hv5 hm5; subst hv5
        have hS5 := pg_T_ok hm5 ht0
        refine rd_goto C dL_isMoved_397 (tgt := 401) (by decide) ?_
        refine rd_istore C dL_isMoved_401 (by decide) (L' := [rd_R 0, rd_I k0, rd_Z (pl π), rd_J, rd_I (π 1 30), rd_I (π 1 31), rd_I (π 1 34), rd_I (pv_movesLeft π), rd_I (π 1 35), rd_I (mo_o π (π 1 30) (22 + k0)), rd_I c10, rd_I c11, rd_I c12, rd_I 1, rd_I (mo_o π (π 1 30) (22 + k0)), rd_J, rd_J]) rfl ?_
        refine rd_iload C dL_isMoved_403 rfl ?_
        refine rd_if_eq C dL_isMoved_405 (tgt := 440) (by decide) (fun h => absurd h (by decide)) (fun _ => ?_)
        refine rd_iload C dL_isMoved_408 rfl ?_
        refine rd_if_lt C dL_isMoved_410 (tgt := 417) (by decide) (fun h_410 => ?_) (fun h_410 => ?_)
        · exfalso; omega
        · refine rd_iconst C dL_isMoved_413 (n := 1) ⟨by decide, by decide⟩ ?_
          refine rd_goto C dL_isMoved_414 (tgt := 418) (by decide) ?_
          refine rd_iload C dL_isMoved_418 rfl ?_
          refine rd_if_lt C dL_isMoved_420 (tgt := 432) (by decide) (fun h_420 => ?_) (fun h_420 => ?_)
          · exfalso; omega
          · refine rd_iload C dL_isMoved_423 rfl ?_
            refine rd_if_ne C dL_isMoved_425 (tgt := 432) (by decide) (fun h_425 => ?_) (fun h_425 => ?_)
            · exfalso; omega
            · refine rd_iconst C dL_isMoved_428 (n := 1) ⟨by decide, by decide⟩ ?_
              refine rd_goto C dL_isMoved_429 (tgt := 433) (by decide) ?_
              refine rd_icmp_ne C dL_isMoved_433 (tgt := 440) (by decide) (fun h => absurd h (by decide)) (fun _ => ?_)
              refine rd_iconst C dL_isMoved_436 (n := 1) ⟨by decide, by decide⟩ ?_
              refine rd_goto C dL_isMoved_437 (tgt := 441) (by decide) ?_
              refine rd_istore C dL_isMoved_441 (by decide) (L' := [rd_R 0, rd_I k0, rd_Z (pl π), rd_J, rd_I (π 1 30), rd_I (π 1 31), rd_I (π 1 34), rd_I (pv_movesLeft π), rd_I (π 1 35), rd_I (mo_o π (π 1 30) (22 + k0)), rd_I c10, rd_I c11, rd_I c12, rd_I 1, rd_I (mo_o π (π 1 30) (22 + k0)), rd_J, rd_J]) rfl ?_
              refine rd_iload C dL_isMoved_443 rfl ?_
              refine rd_if_eq C dL_isMoved_445 (tgt := 524) (by decide) (fun h => absurd h (by decide)) (fun _ => ?_)
              refine rd_iload C dL_isMoved_448 rfl ?_
              refine rd_if_lt C dL_isMoved_450 (tgt := 524) (by decide) (fun h_450 => ?_) (fun h_450 => ?_)
              · exfalso; omega
              · refine rd_iload C dL_isMoved_453 rfl ?_
                refine rd_iload C dL_isMoved_455 rfl ?_
                refine rd_icmp_ne C dL_isMoved_457 (tgt := 521) (by decide) (fun h => by exfalso; omega) (fun _ => ?_)
                refine rd_aload_n C dL_isMoved_460 rfl ?_
                refine rd_iconst C dL_isMoved_461 (n := 0) ⟨by decide, by decide⟩ ?_
                refine rd_callV C (kq_now hS5) rm_L_23 ri_X9_now rs_X9_now rc_X9_now rz_X9 ⟨rp_X9_now, rfl, rfl, by decide, by decide⟩ rfl rd_kcl9 dL_isMoved_462 rd_b0 rd_k0 rfl (Nat.le_of_ble_eq_true rfl) (fun v1 w1 hq => ?_)
                obtain ⟨hv1, hm1⟩ := hq; rw [hv1, hm1, p1]; clear hv1 hm1 v1 w1
                refine rd_iload C dL_isMoved_465 rfl ?_
                refine rd_icmp_ne C dL_isMoved_467 (tgt := 521) (by decide) (fun h => by exfalso; omega) (fun _ => ?_)
                refine rd_aload_n C dL_isMoved_470 rfl ?_
                refine rd_iconst C dL_isMoved_471 (n := 1) ⟨by decide, by decide⟩ ?_
                refine rd_callV C (kq_now hS5) rm_L_23 ri_X9_now rs_X9_now rc_X9_now rz_X9 ⟨rp_X9_now, rfl, rfl, by decide, by decide⟩ rfl rd_kcl9 dL_isMoved_472 rd_b0 rd_k0 rfl (Nat.le_of_ble_eq_true rfl) (fun v1 w1 hq => ?_)
                obtain ⟨hv1, hm1⟩ := hq; rw [hv1, hm1, p2]; clear hv1 hm1 v1 w1
                refine rd_if_ne C dL_isMoved_475 (tgt := 521) (by decide) (fun h => absurd h (by decide)) (fun _ => ?_)
                refine rd_aload_n C dL_isMoved_478 rfl ?_
                refine rd_bipush C dL_isMoved_479 (n := 6) (by decide) ⟨by decide, by decide⟩ ?_
                refine rd_callV C (kq_now hS5) rm_L_23 ri_X9_now rs_X9_now rc_X9_now rz_X9 ⟨rp_X9_now, rfl, rfl, by decide, by decide⟩ rfl rd_kcl9 dL_isMoved_481 rd_b0 rd_k0 rfl (Nat.le_of_ble_eq_true rfl) (fun v1 w1 hq => ?_)
                obtain ⟨hv1, hm1⟩ := hq; rw [hv1, hm1, p3]; clear hv1 hm1 v1 w1
                refine rd_iconst C dL_isMoved_484 (n := 1) ⟨by decide, by decide⟩ ?_
                refine rd_icmp_ne C dL_isMoved_485 (tgt := 521) (by decide) (fun h => absurd h (by decide)) (fun _ => ?_)
                refine rd_aload_n C dL_isMoved_488 rfl ?_
                refine rd_iconst C dL_isMoved_489 (n := 0) ⟨by decide, by decide⟩ ?_
                refine rd_iconst C dL_isMoved_490 (n := 0) ⟨by decide, by decide⟩ ?_
                refine rd_callV C (kq_trail hS5) rm_L_27 ri_X9_trail rs_X9_trail rc_X9_trail rz_X9 ⟨rp_X9_trail, rfl, rfl, by decide, by decide⟩ rfl rd_kcl9 dL_isMoved_491 rd_b0 rd_k0 rfl (Nat.le_of_ble_eq_true rfl) (fun v1 w1 hq => ?_)
                obtain ⟨hv1, hm1⟩ := hq; rw [hv1, hm1, p4]; clear hv1 hm1 v1 w1
                refine rd_iload C dL_isMoved_494 rfl ?_
                refine rd_icmp_ne C dL_isMoved_496 (tgt := 521) (by decide) (fun h => by exfalso; omega) (fun _ => ?_)
                refine rd_aload_n C dL_isMoved_499 rfl ?_
                refine rd_iconst C dL_isMoved_500 (n := 0) ⟨by decide, by decide⟩ ?_
                refine rd_iconst C dL_isMoved_501 (n := 1) ⟨by decide, by decide⟩ ?_
                refine rd_callV C (kq_trail hS5) rm_L_27 ri_X9_trail rs_X9_trail rc_X9_trail rz_X9 ⟨rp_X9_trail, rfl, rfl, by decide, by decide⟩ rfl rd_kcl9 dL_isMoved_502 rd_b0 rd_k0 rfl (Nat.le_of_ble_eq_true rfl) (fun v1 w1 hq => ?_)
                obtain ⟨hv1, hm1⟩ := hq; rw [hv1, hm1, p5]; clear hv1 hm1 v1 w1
                refine rd_iload C dL_isMoved_505 rfl ?_
                refine rd_icmp_ne C dL_isMoved_507 (tgt := 521) (by decide) (fun h => by exfalso; omega) (fun _ => ?_)
                refine rd_aload_n C dL_isMoved_510 rfl ?_
                refine rd_callV C (kq_undo_z hS5) rm_L_125 ri_X9_undo rs_X9_undo rc_X9_undo rz_X9 ⟨rp_X9_undo, rfl, rfl, by decide, by decide⟩ rfl rd_kcl9 dL_isMoved_511 rd_b0 rd_k0 rfl (Nat.le_of_ble_eq_true rfl) (fun v6 w6 hq => ?_)
                obtain ⟨z6, hz6, hv6, hS6⟩ := hq; subst hv6
                refine rd_if_lt C dL_isMoved_514 (tgt := 521) (by decide) (fun h_514 => ?_) (fun h_514 => ?_)
                · exfalso; omega
                · refine rd_iconst C dL_isMoved_517 (n := 1) ⟨by decide, by decide⟩ ?_
                  refine rd_goto C dL_isMoved_518 (tgt := 522) (by decide) ?_
                  refine rd_istore C dL_isMoved_522 (by decide) (L' := [rd_R 0, rd_I k0, rd_Z (pl π), rd_J, rd_I (π 1 30), rd_I (π 1 31), rd_I (π 1 34), rd_I (pv_movesLeft π), rd_I (π 1 35), rd_I (mo_o π (π 1 30) (22 + k0)), rd_I c10, rd_I c11, rd_I c12, rd_I 1, rd_I (mo_o π (π 1 30) (22 + k0)), rd_J, rd_J]) rfl ?_
                  exact j524 _ _ c10 c11 c12 (mo_o π (π 1 30) (22 + k0)) hS6 (by assumption)
      · have hz : mo_o π (π 1 30) (22 + k0) < 0 ∨ c10 ≠ 0 := by
          rcases hc10 with ⟨g, -⟩ | ⟨-, g⟩
          · exact Or.inr (by omega)
          · left; refine Classical.byContradiction (fun g2 => hp ⟨⟨hon, g⟩, by omega⟩)
        refine rd_callV C (kq_press hSm) rm_L_96 ri_X9_press rs_X9_press rc_X9_press rz_X9 ⟨rp_X9_press, rfl, rfl, by decide, by decide⟩ rfl rd_kcl9 dL_isMoved_394 rd_b0 rd_k0 rfl (Nat.le_of_ble_eq_true rfl) (fun v7 w7 hq => ?_)
        obtain ⟨hv7, hm7⟩ := hq; rw [pm_pn hk hp] at hv7 hm7; dsimp only at hv7 hm7; subst hv7
        obtain ⟨lh7, hS7⟩ := pg_T_no hSm hm7
        refine rd_goto C dL_isMoved_397 (tgt := 401) (by decide) ?_
        refine rd_istore C dL_isMoved_401 (by decide) (L' := [rd_R 0, rd_I k0, rd_Z (pl π), rd_J, rd_I (π 1 30), rd_I (π 1 31), rd_I (π 1 34), rd_I (pv_movesLeft π), rd_I (π 1 35), rd_I (mo_o π (π 1 30) (22 + k0)), rd_I c10, rd_I c11, rd_I c12, rd_I 1, rd_I (-5), rd_J, rd_J]) rfl ?_
        refine rd_iload C dL_isMoved_403 rfl ?_
        refine rd_if_eq C dL_isMoved_405 (tgt := 440) (by decide) (fun h => absurd h (by decide)) (fun _ => ?_)
        refine rd_iload C dL_isMoved_408 rfl ?_
        refine rd_if_lt C dL_isMoved_410 (tgt := 417) (by decide) (fun _ => ?_) (fun h => absurd h (by decide))
        refine rd_iconst C dL_isMoved_417 (n := 0) ⟨by decide, by decide⟩ ?_
        refine rd_iload C dL_isMoved_418 rfl ?_
        refine rd_if_lt C dL_isMoved_420 (tgt := 432) (by decide) (fun h_420 => ?_) (fun h_420 => ?_)
        · refine rd_iconst C dL_isMoved_432 (n := 0) ⟨by decide, by decide⟩ ?_
          refine rd_icmp_ne C dL_isMoved_433 (tgt := 440) (by decide) (fun h => absurd h (by decide)) (fun _ => ?_)
          refine rd_iconst C dL_isMoved_436 (n := 1) ⟨by decide, by decide⟩ ?_
          refine rd_goto C dL_isMoved_437 (tgt := 441) (by decide) ?_
          refine rd_istore C dL_isMoved_441 (by decide) (L' := [rd_R 0, rd_I k0, rd_Z (pl π), rd_J, rd_I (π 1 30), rd_I (π 1 31), rd_I (π 1 34), rd_I (pv_movesLeft π), rd_I (π 1 35), rd_I (mo_o π (π 1 30) (22 + k0)), rd_I c10, rd_I c11, rd_I c12, rd_I 1, rd_I (-5), rd_J, rd_J]) rfl ?_
          refine rd_iload C dL_isMoved_443 rfl ?_
          refine rd_if_eq C dL_isMoved_445 (tgt := 524) (by decide) (fun h => absurd h (by decide)) (fun _ => ?_)
          refine rd_iload C dL_isMoved_448 rfl ?_
          refine rd_if_lt C dL_isMoved_450 (tgt := 524) (by decide) (fun _ => ?_) (fun h => absurd h (by decide))
          exact j524 _ _ c10 c11 c12 (-5) hS7 (by assumption)
        · refine rd_iload C dL_isMoved_423 rfl ?_
          refine rd_if_ne C dL_isMoved_425 (tgt := 432) (by decide) (fun h_425 => ?_) (fun h_425 => ?_)
          · refine rd_iconst C dL_isMoved_432 (n := 0) ⟨by decide, by decide⟩ ?_
            refine rd_icmp_ne C dL_isMoved_433 (tgt := 440) (by decide) (fun h => absurd h (by decide)) (fun _ => ?_)
            refine rd_iconst C dL_isMoved_436 (n := 1) ⟨by decide, by decide⟩ ?_
            refine rd_goto C dL_isMoved_437 (tgt := 441) (by decide) ?_
            refine rd_istore C dL_isMoved_441 (by decide) (L' := [rd_R 0, rd_I k0, rd_Z (pl π), rd_J, rd_I (π 1 30), rd_I (π 1 31), rd_I (π 1 34), rd_I (pv_movesLeft π), rd_I (π 1 35), rd_I (mo_o π (π 1 30) (22 + k0)), rd_I c10, rd_I c11, rd_I c12, rd_I 1, rd_I (-5), rd_J, rd_J]) rfl ?_
            refine rd_iload C dL_isMoved_443 rfl ?_
            refine rd_if_eq C dL_isMoved_445 (tgt := 524) (by decide) (fun h => absurd h (by decide)) (fun _ => ?_)
            refine rd_iload C dL_isMoved_448 rfl ?_
            refine rd_if_lt C dL_isMoved_450 (tgt := 524) (by decide) (fun _ => ?_) (fun h => absurd h (by decide))
            exact j524 _ _ c10 c11 c12 (-5) hS7 (by assumption)
          · refine rd_iconst C dL_isMoved_428 (n := 1) ⟨by decide, by decide⟩ ?_
            refine rd_goto C dL_isMoved_429 (tgt := 433) (by decide) ?_
            refine rd_icmp_ne C dL_isMoved_433 (tgt := 440) (by decide) (fun _ => ?_) (fun h => absurd h (by decide))
            exfalso; omega
    have j149 : ∀ (c10 c11 : Int), ((c10 = 1 ∧ mo_ov π) ∨ (c10 = 0 ∧ ¬ mo_ov π)) → ((c11 = 1 ∧ (mo_o π (π 1 30) 1 = 0 ∨ π 1 34 = 1)) ∨ (c11 = 0)) → rd_W p l e (rd_rm 7 171) s m args below meth c (MQ below (rd_Qc G rd_kc 313 r (fun v μ' => v = some (rd_I 1) ∧ ∃ l', pg_S μ' π l')) args s 0 0 (rd_A r 313)) 17 G rd_kc 313 r 149 [rd_R 0, rd_I k0, rd_Z (pl π), rd_J, rd_I (π 1 30), rd_I (π 1 31), rd_I (π 1 34), rd_I (pv_movesLeft π), rd_I (π 1 35), rd_I (mo_o π (π 1 30) (22 + k0)), rd_I c10, rd_I c11, rd_J, rd_J, rd_J, rd_J, rd_J] [] μ := by
      intro c10 c11 hc10 hc11
      refine rd_aload_n C dL_isMoved_149 rfl ?_
      by_cases hf : mo_on π ∧ mo_cf π
      · have hl0 : 0 < pv_movesLeft π := hLc.mp hf.2
        have hc0 : c10 = 0 := hc10.elim (fun g => absurd g.2 hf.1.2) (fun g => g.1)
        obtain ⟨e29, e30, e31, e32, e33, e35, -⟩ := pm_fs hR hon hf.2
        have hnF := pm_now e29
        have hft := pm_ft hR hon hf.2
        have hfL := pm_fL hR hon hf.2
        have hn33 : pv_now (mo_fw π) 3 = 0 := hnF.2.2.2.1.trans e33
        have h0F := (mo_fw_I (rl_J hR).1 hon hf.2).1.2.2.1.1
        have h35F : (π 1 35 < 40 → mo_fw π 1 35 = π 1 35 + 1) ∧ (¬ π 1 35 < 40 → mo_fw π 1 35 = 40) := by rw [e35]; constructor <;> intro g <;> split <;> omega
        refine rd_callV C (kq_forward hS) rm_L_102 ri_X9_forward rs_X9_forward rc_X9_forward rz_X9 ⟨rp_X9_forward, rfl, rfl, by decide, by decide⟩ rfl rd_kcl9 dL_isMoved_150 rd_b0 rd_k0 rfl (Nat.le_of_ble_eq_true rfl) (fun v8 w8 hq => ?_)
        obtain ⟨hv8, hm8⟩ := hq; rw [pm_fy hf] at hv8 hm8; dsimp only at hv8 hm8; subst hv8
        have hS8 := pg_T_ok hm8 h0F
        refine rd_istore C dL_isMoved_153 (by decide) (L' := [rd_R 0, rd_I k0, rd_Z (pl π), rd_J, rd_I (π 1 30), rd_I (π 1 31), rd_I (π 1 34), rd_I (pv_movesLeft π), rd_I (π 1 35), rd_I (mo_o π (π 1 30) (22 + k0)), rd_I c10, rd_I c11, rd_I (mo_fw π 1 31), rd_J, rd_J, rd_J, rd_J]) rfl ?_
        refine rd_iload C dL_isMoved_155 rfl ?_
        refine rd_if_lt C dL_isMoved_157 (tgt := 164) (by decide) (fun h_157 => ?_) (fun h_157 => ?_)
        · exfalso; omega
        · refine rd_iconst C dL_isMoved_160 (n := 1) ⟨by decide, by decide⟩ ?_
          refine rd_goto C dL_isMoved_161 (tgt := 165) (by decide) ?_
          refine rd_iload C dL_isMoved_165 rfl ?_
          refine rd_if_le C dL_isMoved_167 (tgt := 179) (by decide) (fun h_167 => ?_) (fun h_167 => ?_)
          · exfalso; omega
          · refine rd_iload C dL_isMoved_170 rfl ?_
            refine rd_if_ne C dL_isMoved_172 (tgt := 179) (by decide) (fun h_172 => ?_) (fun h_172 => ?_)
            · exfalso; omega
            · refine rd_iconst C dL_isMoved_175 (n := 1) ⟨by decide, by decide⟩ ?_
              refine rd_goto C dL_isMoved_176 (tgt := 180) (by decide) ?_
              refine rd_icmp_ne C dL_isMoved_180 (tgt := 199) (by decide) (fun h => absurd h (by decide)) (fun _ => ?_)
              refine rd_iload C dL_isMoved_183 rfl ?_
              refine rd_if_ge C dL_isMoved_185 (tgt := 195) (by decide) (fun h_185 => ?_) (fun h_185 => ?_)
              · refine rd_iconst C dL_isMoved_195 (n := 1) ⟨by decide, by decide⟩ ?_
                refine rd_goto C dL_isMoved_196 (tgt := 200) (by decide) ?_
                refine rd_istore C dL_isMoved_200 (by decide) (L' := [rd_R 0, rd_I k0, rd_Z (pl π), rd_J, rd_I (π 1 30), rd_I (π 1 31), rd_I (π 1 34), rd_I (pv_movesLeft π), rd_I (π 1 35), rd_I (mo_o π (π 1 30) (22 + k0)), rd_I c10, rd_I c11, rd_I (mo_fw π 1 31), rd_I 1, rd_J, rd_J, rd_J]) rfl ?_
                refine rd_iload C dL_isMoved_202 rfl ?_
                refine rd_if_eq C dL_isMoved_204 (tgt := 387) (by decide) (fun h => absurd h (by decide)) (fun _ => ?_)
                refine rd_iload C dL_isMoved_207 rfl ?_
                refine rd_if_lt C dL_isMoved_209 (tgt := 387) (by decide) (fun h_209 => ?_) (fun h_209 => ?_)
                · exfalso; omega
                · refine rd_aload_n C dL_isMoved_212 rfl ?_
                  refine rd_iconst C dL_isMoved_213 (n := 1) ⟨by decide, by decide⟩ ?_
                  refine rd_callV C (kq_now hS8) rm_L_23 ri_X9_now rs_X9_now rc_X9_now rz_X9 ⟨rp_X9_now, rfl, rfl, by decide, by decide⟩ rfl rd_kcl9 dL_isMoved_214 rd_b0 rd_k0 rfl (Nat.le_of_ble_eq_true rfl) (fun v1 w1 hq => ?_)
                  obtain ⟨hv1, hm1⟩ := hq; rw [hv1, hm1, hnF.2.1]; clear hv1 hm1 v1 w1
                  refine rd_iload C dL_isMoved_217 rfl ?_
                  refine rd_icmp_ne C dL_isMoved_219 (tgt := 302) (by decide) (fun h => by exfalso; omega) (fun _ => ?_)
                  refine rd_aload_n C dL_isMoved_222 rfl ?_
                  refine rd_iconst C dL_isMoved_223 (n := 0) ⟨by decide, by decide⟩ ?_
                  refine rd_iconst C dL_isMoved_224 (n := 0) ⟨by decide, by decide⟩ ?_
                  refine rd_callV C (kq_trail hS8) rm_L_27 ri_X9_trail rs_X9_trail rc_X9_trail rz_X9 ⟨rp_X9_trail, rfl, rfl, by decide, by decide⟩ rfl rd_kcl9 dL_isMoved_225 rd_b0 rd_k0 rfl (Nat.le_of_ble_eq_true rfl) (fun v1 w1 hq => ?_)
                  obtain ⟨hv1, hm1⟩ := hq; rw [hv1, hm1, hft.1]; clear hv1 hm1 v1 w1
                  refine rd_iload C dL_isMoved_228 rfl ?_
                  refine rd_icmp_ne C dL_isMoved_230 (tgt := 302) (by decide) (fun h => by exfalso; omega) (fun _ => ?_)
                  refine rd_aload_n C dL_isMoved_233 rfl ?_
                  refine rd_iconst C dL_isMoved_234 (n := 0) ⟨by decide, by decide⟩ ?_
                  refine rd_iconst C dL_isMoved_235 (n := 1) ⟨by decide, by decide⟩ ?_
                  refine rd_callV C (kq_trail hS8) rm_L_27 ri_X9_trail rs_X9_trail rc_X9_trail rz_X9 ⟨rp_X9_trail, rfl, rfl, by decide, by decide⟩ rfl rd_kcl9 dL_isMoved_236 rd_b0 rd_k0 rfl (Nat.le_of_ble_eq_true rfl) (fun v1 w1 hq => ?_)
                  obtain ⟨hv1, hm1⟩ := hq; rw [hv1, hm1, hft.2.1]; clear hv1 hm1 v1 w1
                  refine rd_iload C dL_isMoved_239 rfl ?_
                  refine rd_icmp_ne C dL_isMoved_241 (tgt := 302) (by decide) (fun h => by exfalso; omega) (fun _ => ?_)
                  refine rd_aload_n C dL_isMoved_244 rfl ?_
                  refine rd_iconst C dL_isMoved_245 (n := 0) ⟨by decide, by decide⟩ ?_
                  refine rd_iconst C dL_isMoved_246 (n := 2) ⟨by decide, by decide⟩ ?_
                  refine rd_callV C (kq_trail hS8) rm_L_27 ri_X9_trail rs_X9_trail rc_X9_trail rz_X9 ⟨rp_X9_trail, rfl, rfl, by decide, by decide⟩ rfl rd_kcl9 dL_isMoved_247 rd_b0 rd_k0 rfl (Nat.le_of_ble_eq_true rfl) (fun v1 w1 hq => ?_)
                  obtain ⟨hv1, hm1⟩ := hq; rw [hv1, hm1, hft.2.2]; clear hv1 hm1 v1 w1
                  refine rd_iload C dL_isMoved_250 rfl ?_
                  refine rd_icmp_ne C dL_isMoved_252 (tgt := 302) (by decide) (fun h => by exfalso; omega) (fun _ => ?_)
                  refine rd_aload_n C dL_isMoved_255 rfl ?_
                  refine rd_iconst C dL_isMoved_256 (n := 3) ⟨by decide, by decide⟩ ?_
                  refine rd_callV C (kq_now hS8) rm_L_23 ri_X9_now rs_X9_now rc_X9_now rz_X9 ⟨rp_X9_now, rfl, rfl, by decide, by decide⟩ rfl rd_kcl9 dL_isMoved_257 rd_b0 rd_k0 rfl (Nat.le_of_ble_eq_true rfl) (fun v1 w1 hq => ?_)
                  obtain ⟨hv1, hm1⟩ := hq; rw [hv1, hm1, hn33]; clear hv1 hm1 v1 w1
                  refine rd_if_ne C dL_isMoved_260 (tgt := 302) (by decide) (fun h => absurd h (by decide)) (fun _ => ?_)
                  refine rd_aload_n C dL_isMoved_263 rfl ?_
                  refine rd_callV C (kq_movesLeft hS8) rm_L_111 ri_X9_movesLeft rs_X9_movesLeft rc_X9_movesLeft rz_X9 ⟨rp_X9_movesLeft, rfl, rfl, by decide, by decide⟩ rfl rd_kcl9 dL_isMoved_264 rd_b0 rd_k0 rfl (Nat.le_of_ble_eq_true rfl) (fun v1 w1 hq => ?_)
                  obtain ⟨hv1, hm1⟩ := hq; rw [hv1, hm1, hfL]; clear hv1 hm1 v1 w1
                  refine rd_iload C dL_isMoved_267 rfl ?_
                  refine rd_iconst C dL_isMoved_269 (n := 1) ⟨by decide, by decide⟩ ?_
                  refine rd_isub C dL_isMoved_270 (z := pv_movesLeft π - 1) rfl ⟨by omega, by omega⟩ ?_
                  refine rd_icmp_ne C dL_isMoved_271 (tgt := 302) (by decide) (fun h => by exfalso; omega) (fun _ => ?_)
                  refine rd_aload_n C dL_isMoved_274 rfl ?_
                  refine rd_iconst C dL_isMoved_275 (n := 4) ⟨by decide, by decide⟩ ?_
                  refine rd_callV C (kq_now hS8) rm_L_23 ri_X9_now rs_X9_now rc_X9_now rz_X9 ⟨rp_X9_now, rfl, rfl, by decide, by decide⟩ rfl rd_kcl9 dL_isMoved_276 rd_b0 rd_k0 rfl (Nat.le_of_ble_eq_true rfl) (fun v1 w1 hq => ?_)
                  obtain ⟨hv1, hm1⟩ := hq; rw [hv1, hm1, hnF.2.2.2.2.1]; clear hv1 hm1 v1 w1
                  refine rd_iload C dL_isMoved_279 rfl ?_
                  refine rd_bipush C dL_isMoved_281 (n := 40) (by decide) ⟨by decide, by decide⟩ ?_
                  refine rd_icmp_ge C dL_isMoved_283 (tgt := 293) (by decide) (fun h_283 => ?_) (fun h_283 => ?_)
                  · refine rd_bipush C dL_isMoved_293 (n := 40) (by decide) ⟨by decide, by decide⟩ ?_
                    refine rd_icmp_ne C dL_isMoved_295 (tgt := 302) (by decide) (fun h_295 => ?_) (fun h_295 => ?_)
                    · exfalso; omega
                    · refine rd_iconst C dL_isMoved_298 (n := 1) ⟨by decide, by decide⟩ ?_
                      refine rd_goto C dL_isMoved_299 (tgt := 303) (by decide) ?_
                      refine rd_istore C dL_isMoved_303 (by decide) (L' := [rd_R 0, rd_I k0, rd_Z (pl π), rd_J, rd_I (π 1 30), rd_I (π 1 31), rd_I (π 1 34), rd_I (pv_movesLeft π), rd_I (π 1 35), rd_I (mo_o π (π 1 30) (22 + k0)), rd_I c10, rd_I c11, rd_I (mo_fw π 1 31), rd_I 1, rd_J, rd_J, rd_J]) rfl ?_
                      refine rd_iload C dL_isMoved_305 rfl ?_
                      refine rd_if_eq C dL_isMoved_307 (tgt := 368) (by decide) (fun h => absurd h (by decide)) (fun _ => ?_)
                      refine rd_iload C dL_isMoved_310 rfl ?_
                      refine rd_if_eq C dL_isMoved_312 (tgt := 368) (by decide) (fun h_312 => ?_) (fun h_312 => ?_)
                      · refine rd_iload C dL_isMoved_368 rfl ?_
                        refine rd_if_eq C dL_isMoved_370 (tgt := 384) (by decide) (fun h => absurd h (by decide)) (fun _ => ?_)
                        refine rd_aload_n C dL_isMoved_373 rfl ?_
                        refine rd_callV C (kq_undo_z hS8) rm_L_125 ri_X9_undo rs_X9_undo rc_X9_undo rz_X9 ⟨rp_X9_undo, rfl, rfl, by decide, by decide⟩ rfl rd_kcl9 dL_isMoved_374 rd_b0 rd_k0 rfl (Nat.le_of_ble_eq_true rfl) (fun v9 w9 hq => ?_)
                        obtain ⟨z9, hz9, hv9, hS9⟩ := hq; subst hv9
                        refine rd_if_lt C dL_isMoved_377 (tgt := 384) (by decide) (fun h_377 => ?_) (fun h_377 => ?_)
                        · exfalso; omega
                        · refine rd_iconst C dL_isMoved_380 (n := 1) ⟨by decide, by decide⟩ ?_
                          refine rd_goto C dL_isMoved_381 (tgt := 385) (by decide) ?_
                          refine rd_istore C dL_isMoved_385 (by decide) (L' := [rd_R 0, rd_I k0, rd_Z (pl π), rd_J, rd_I (π 1 30), rd_I (π 1 31), rd_I (π 1 34), rd_I (pv_movesLeft π), rd_I (π 1 35), rd_I (mo_o π (π 1 30) (22 + k0)), rd_I c10, rd_I c11, rd_I (mo_fw π 1 31), rd_I 1, rd_J, rd_J, rd_J]) rfl ?_
                          exact j387 _ _ c10 c11 (mo_fw π 1 31) hS9 (by assumption)
                      · have hfd : mo_o π (π 1 30) 1 = 0 ∨ π 1 34 = 1 := hc11.elim (fun g => g.2) (fun g => by exfalso; omega)
                        obtain ⟨b1, b2, b3, b4⟩ := pm_fb2 hR hf hfd
                        refine rd_aload_n C dL_isMoved_315 rfl ?_
                        refine rd_callV C (kq_backTo hS8) rm_L_108 ri_X9_backTo rs_X9_backTo rc_X9_backTo rz_X9 ⟨rp_X9_backTo, rfl, rfl, by decide, by decide⟩ rfl rd_kcl9 dL_isMoved_316 rd_b0 rd_k0 rfl (Nat.le_of_ble_eq_true rfl) (fun v1 w1 hq => ?_)
                        obtain ⟨hv1, hm1⟩ := hq; rw [hv1, hm1, b1]; clear hv1 hm1 v1 w1
                        refine rd_iload C dL_isMoved_319 rfl ?_
                        refine rd_icmp_ne C dL_isMoved_321 (tgt := 365) (by decide) (fun h => by exfalso; omega) (fun _ => ?_)
                        refine rd_aload_n C dL_isMoved_324 rfl ?_
                        refine rd_callV C (kq_back hS8) rm_L_93 ri_X9_back rs_X9_back rc_X9_back rz_X9 ⟨rp_X9_back, rfl, rfl, by decide, by decide⟩ rfl rd_kcl9 dL_isMoved_325 rd_b0 rd_k0 rfl (Nat.le_of_ble_eq_true rfl) (fun v10 w10 hq => ?_)
                        obtain ⟨hv10, hm10⟩ := hq; rw [b2] at hv10 hm10; dsimp only at hv10 hm10; subst hv10
                        have hS10 := pg_T_ok hm10 hV.2.1
                        refine rd_iload C dL_isMoved_328 rfl ?_
                        refine rd_icmp_ne C dL_isMoved_330 (tgt := 365) (by decide) (fun h => by exfalso; omega) (fun _ => ?_)
                        refine rd_aload_n C dL_isMoved_333 rfl ?_
                        refine rd_iconst C dL_isMoved_334 (n := 0) ⟨by decide, by decide⟩ ?_
                        refine rd_callV C (kq_now hS10) rm_L_23 ri_X9_now rs_X9_now rc_X9_now rz_X9 ⟨rp_X9_now, rfl, rfl, by decide, by decide⟩ rfl rd_kcl9 dL_isMoved_335 rd_b0 rd_k0 rfl (Nat.le_of_ble_eq_true rfl) (fun v1 w1 hq => ?_)
                        obtain ⟨hv1, hm1⟩ := hq; rw [hv1, hm1, b3]; clear hv1 hm1 v1 w1
                        refine rd_iload C dL_isMoved_338 rfl ?_
                        refine rd_icmp_ne C dL_isMoved_340 (tgt := 365) (by decide) (fun h => by exfalso; omega) (fun _ => ?_)
                        refine rd_aload_n C dL_isMoved_343 rfl ?_
                        refine rd_bipush C dL_isMoved_344 (n := 6) (by decide) ⟨by decide, by decide⟩ ?_
                        refine rd_callV C (kq_now hS10) rm_L_23 ri_X9_now rs_X9_now rc_X9_now rz_X9 ⟨rp_X9_now, rfl, rfl, by decide, by decide⟩ rfl rd_kcl9 dL_isMoved_346 rd_b0 rd_k0 rfl (Nat.le_of_ble_eq_true rfl) (fun v1 w1 hq => ?_)
                        obtain ⟨hv1, hm1⟩ := hq; rw [hv1, hm1, b4]; clear hv1 hm1 v1 w1
                        refine rd_iload C dL_isMoved_349 rfl ?_
                        refine rd_icmp_ne C dL_isMoved_351 (tgt := 365) (by decide) (fun h => by exfalso; omega) (fun _ => ?_)
                        refine rd_aload_n C dL_isMoved_354 rfl ?_
                        refine rd_callV C (kq_undo_z hS10) rm_L_125 ri_X9_undo rs_X9_undo rc_X9_undo rz_X9 ⟨rp_X9_undo, rfl, rfl, by decide, by decide⟩ rfl rd_kcl9 dL_isMoved_355 rd_b0 rd_k0 rfl (Nat.le_of_ble_eq_true rfl) (fun v11 w11 hq => ?_)
                        obtain ⟨z11, hz11, hv11, hS11⟩ := hq; subst hv11
                        refine rd_if_lt C dL_isMoved_358 (tgt := 365) (by decide) (fun h_358 => ?_) (fun h_358 => ?_)
                        · exfalso; omega
                        · refine rd_iconst C dL_isMoved_361 (n := 1) ⟨by decide, by decide⟩ ?_
                          refine rd_goto C dL_isMoved_362 (tgt := 366) (by decide) ?_
                          refine rd_istore C dL_isMoved_366 (by decide) (L' := [rd_R 0, rd_I k0, rd_Z (pl π), rd_J, rd_I (π 1 30), rd_I (π 1 31), rd_I (π 1 34), rd_I (pv_movesLeft π), rd_I (π 1 35), rd_I (mo_o π (π 1 30) (22 + k0)), rd_I c10, rd_I c11, rd_I (mo_fw π 1 31), rd_I 1, rd_J, rd_J, rd_J]) rfl ?_
                          refine rd_iload C dL_isMoved_368 rfl ?_
                          refine rd_if_eq C dL_isMoved_370 (tgt := 384) (by decide) (fun h => absurd h (by decide)) (fun _ => ?_)
                          refine rd_aload_n C dL_isMoved_373 rfl ?_
                          refine rd_callV C (kq_undo_z hS11) rm_L_125 ri_X9_undo rs_X9_undo rc_X9_undo rz_X9 ⟨rp_X9_undo, rfl, rfl, by decide, by decide⟩ rfl rd_kcl9 dL_isMoved_374 rd_b0 rd_k0 rfl (Nat.le_of_ble_eq_true rfl) (fun v12 w12 hq => ?_)
                          obtain ⟨z12, hz12, hv12, hS12⟩ := hq; subst hv12
                          refine rd_if_lt C dL_isMoved_377 (tgt := 384) (by decide) (fun h_377 => ?_) (fun h_377 => ?_)
                          · exfalso; omega
                          · refine rd_iconst C dL_isMoved_380 (n := 1) ⟨by decide, by decide⟩ ?_
                            refine rd_goto C dL_isMoved_381 (tgt := 385) (by decide) ?_
                            refine rd_istore C dL_isMoved_385 (by decide) (L' := [rd_R 0, rd_I k0, rd_Z (pl π), rd_J, rd_I (π 1 30), rd_I (π 1 31), rd_I (π 1 34), rd_I (pv_movesLeft π), rd_I (π 1 35), rd_I (mo_o π (π 1 30) (22 + k0)), rd_I c10, rd_I c11, rd_I (mo_fw π 1 31), rd_I 1, rd_J, rd_J, rd_J]) rfl ?_
                            exact j387 _ _ c10 c11 (mo_fw π 1 31) hS12 (by assumption)
                  · refine rd_iload C dL_isMoved_286 rfl ?_
                    refine rd_iconst C dL_isMoved_288 (n := 1) ⟨by decide, by decide⟩ ?_
                    refine rd_iadd C dL_isMoved_289 (z := π 1 35 + 1) rfl ⟨by omega, by omega⟩ ?_
                    refine rd_goto C dL_isMoved_290 (tgt := 295) (by decide) ?_
                    refine rd_icmp_ne C dL_isMoved_295 (tgt := 302) (by decide) (fun h_295 => ?_) (fun h_295 => ?_)
                    · exfalso; omega
                    · refine rd_iconst C dL_isMoved_298 (n := 1) ⟨by decide, by decide⟩ ?_
                      refine rd_goto C dL_isMoved_299 (tgt := 303) (by decide) ?_
                      refine rd_istore C dL_isMoved_303 (by decide) (L' := [rd_R 0, rd_I k0, rd_Z (pl π), rd_J, rd_I (π 1 30), rd_I (π 1 31), rd_I (π 1 34), rd_I (pv_movesLeft π), rd_I (π 1 35), rd_I (mo_o π (π 1 30) (22 + k0)), rd_I c10, rd_I c11, rd_I (mo_fw π 1 31), rd_I 1, rd_J, rd_J, rd_J]) rfl ?_
                      refine rd_iload C dL_isMoved_305 rfl ?_
                      refine rd_if_eq C dL_isMoved_307 (tgt := 368) (by decide) (fun h => absurd h (by decide)) (fun _ => ?_)
                      refine rd_iload C dL_isMoved_310 rfl ?_
                      refine rd_if_eq C dL_isMoved_312 (tgt := 368) (by decide) (fun h_312 => ?_) (fun h_312 => ?_)
                      · refine rd_iload C dL_isMoved_368 rfl ?_
                        refine rd_if_eq C dL_isMoved_370 (tgt := 384) (by decide) (fun h => absurd h (by decide)) (fun _ => ?_)
                        refine rd_aload_n C dL_isMoved_373 rfl ?_
                        refine rd_callV C (kq_undo_z hS8) rm_L_125 ri_X9_undo rs_X9_undo rc_X9_undo rz_X9 ⟨rp_X9_undo, rfl, rfl, by decide, by decide⟩ rfl rd_kcl9 dL_isMoved_374 rd_b0 rd_k0 rfl (Nat.le_of_ble_eq_true rfl) (fun v13 w13 hq => ?_)
                        obtain ⟨z13, hz13, hv13, hS13⟩ := hq; subst hv13
                        refine rd_if_lt C dL_isMoved_377 (tgt := 384) (by decide) (fun h_377 => ?_) (fun h_377 => ?_)
                        · exfalso; omega
                        · refine rd_iconst C dL_isMoved_380 (n := 1) ⟨by decide, by decide⟩ ?_
                          refine rd_goto C dL_isMoved_381 (tgt := 385) (by decide) ?_
                          refine rd_istore C dL_isMoved_385 (by decide) (L' := [rd_R 0, rd_I k0, rd_Z (pl π), rd_J, rd_I (π 1 30), rd_I (π 1 31), rd_I (π 1 34), rd_I (pv_movesLeft π), rd_I (π 1 35), rd_I (mo_o π (π 1 30) (22 + k0)), rd_I c10, rd_I c11, rd_I (mo_fw π 1 31), rd_I 1, rd_J, rd_J, rd_J]) rfl ?_
                          exact j387 _ _ c10 c11 (mo_fw π 1 31) hS13 (by assumption)
                      · have hfd : mo_o π (π 1 30) 1 = 0 ∨ π 1 34 = 1 := hc11.elim (fun g => g.2) (fun g => by exfalso; omega)
                        obtain ⟨b1, b2, b3, b4⟩ := pm_fb2 hR hf hfd
                        refine rd_aload_n C dL_isMoved_315 rfl ?_
                        refine rd_callV C (kq_backTo hS8) rm_L_108 ri_X9_backTo rs_X9_backTo rc_X9_backTo rz_X9 ⟨rp_X9_backTo, rfl, rfl, by decide, by decide⟩ rfl rd_kcl9 dL_isMoved_316 rd_b0 rd_k0 rfl (Nat.le_of_ble_eq_true rfl) (fun v1 w1 hq => ?_)
                        obtain ⟨hv1, hm1⟩ := hq; rw [hv1, hm1, b1]; clear hv1 hm1 v1 w1
                        refine rd_iload C dL_isMoved_319 rfl ?_
                        refine rd_icmp_ne C dL_isMoved_321 (tgt := 365) (by decide) (fun h => by exfalso; omega) (fun _ => ?_)
                        refine rd_aload_n C dL_isMoved_324 rfl ?_
                        refine rd_callV C (kq_back hS8) rm_L_93 ri_X9_back rs_X9_back rc_X9_back rz_X9 ⟨rp_X9_back, rfl, rfl, by decide, by decide⟩ rfl rd_kcl9 dL_isMoved_325 rd_b0 rd_k0 rfl (Nat.le_of_ble_eq_true rfl) (fun v14 w14 hq => ?_)
                        obtain ⟨hv14, hm14⟩ := hq; rw [b2] at hv14 hm14; dsimp only at hv14 hm14; subst hv14
                        have hS14 := pg_T_ok hm14 hV.2.1
                        refine rd_iload C dL_isMoved_328 rfl ?_
                        refine rd_icmp_ne C dL_isMoved_330 (tgt := 365) (by decide) (fun h => by exfalso; omega) (fun _ => ?_)
                        refine rd_aload_n C dL_isMoved_333 rfl ?_
                        refine rd_iconst C dL_isMoved_334 (n := 0) ⟨by decide, by decide⟩ ?_
                        refine rd_callV C (kq_now hS14) rm_L_23 ri_X9_now rs_X9_now rc_X9_now rz_X9 ⟨rp_X9_now, rfl, rfl, by decide, by decide⟩ rfl rd_kcl9 dL_isMoved_335 rd_b0 rd_k0 rfl (Nat.le_of_ble_eq_true rfl) (fun v1 w1 hq => ?_)
                        obtain ⟨hv1, hm1⟩ := hq; rw [hv1, hm1, b3]; clear hv1 hm1 v1 w1
                        refine rd_iload C dL_isMoved_338 rfl ?_
                        refine rd_icmp_ne C dL_isMoved_340 (tgt := 365) (by decide) (fun h => by exfalso; omega) (fun _ => ?_)
                        refine rd_aload_n C dL_isMoved_343 rfl ?_
                        refine rd_bipush C dL_isMoved_344 (n := 6) (by decide) ⟨by decide, by decide⟩ ?_
                        refine rd_callV C (kq_now hS14) rm_L_23 ri_X9_now rs_X9_now rc_X9_now rz_X9 ⟨rp_X9_now, rfl, rfl, by decide, by decide⟩ rfl rd_kcl9 dL_isMoved_346 rd_b0 rd_k0 rfl (Nat.le_of_ble_eq_true rfl) (fun v1 w1 hq => ?_)
                        obtain ⟨hv1, hm1⟩ := hq; rw [hv1, hm1, b4]; clear hv1 hm1 v1 w1
                        refine rd_iload C dL_isMoved_349 rfl ?_
                        refine rd_icmp_ne C dL_isMoved_351 (tgt := 365) (by decide) (fun h => by exfalso; omega) (fun _ => ?_)
                        refine rd_aload_n C dL_isMoved_354 rfl ?_
                        refine rd_callV C (kq_undo_z hS14) rm_L_125 ri_X9_undo rs_X9_undo rc_X9_undo rz_X9 ⟨rp_X9_undo, rfl, rfl, by decide, by decide⟩ rfl rd_kcl9 dL_isMoved_355 rd_b0 rd_k0 rfl (Nat.le_of_ble_eq_true rfl) (fun v15 w15 hq => ?_)
                        obtain ⟨z15, hz15, hv15, hS15⟩ := hq; subst hv15
                        refine rd_if_lt C dL_isMoved_358 (tgt := 365) (by decide) (fun h_358 => ?_) (fun h_358 => ?_)
                        · exfalso; omega
                        · refine rd_iconst C dL_isMoved_361 (n := 1) ⟨by decide, by decide⟩ ?_
                          refine rd_goto C dL_isMoved_362 (tgt := 366) (by decide) ?_
                          refine rd_istore C dL_isMoved_366 (by decide) (L' := [rd_R 0, rd_I k0, rd_Z (pl π), rd_J, rd_I (π 1 30), rd_I (π 1 31), rd_I (π 1 34), rd_I (pv_movesLeft π), rd_I (π 1 35), rd_I (mo_o π (π 1 30) (22 + k0)), rd_I c10, rd_I c11, rd_I (mo_fw π 1 31), rd_I 1, rd_J, rd_J, rd_J]) rfl ?_
                          refine rd_iload C dL_isMoved_368 rfl ?_
                          refine rd_if_eq C dL_isMoved_370 (tgt := 384) (by decide) (fun h => absurd h (by decide)) (fun _ => ?_)
                          refine rd_aload_n C dL_isMoved_373 rfl ?_
                          refine rd_callV C (kq_undo_z hS15) rm_L_125 ri_X9_undo rs_X9_undo rc_X9_undo rz_X9 ⟨rp_X9_undo, rfl, rfl, by decide, by decide⟩ rfl rd_kcl9 dL_isMoved_374 rd_b0 rd_k0 rfl (Nat.le_of_ble_eq_true rfl) (fun v16 w16 hq => ?_)
                          obtain ⟨z16, hz16, hv16, hS16⟩ := hq; subst hv16
                          refine rd_if_lt C dL_isMoved_377 (tgt := 384) (by decide) (fun h_377 => ?_) (fun h_377 => ?_)
                          · exfalso; omega
                          · refine rd_iconst C dL_isMoved_380 (n := 1) ⟨by decide, by decide⟩ ?_
                            refine rd_goto C dL_isMoved_381 (tgt := 385) (by decide) ?_
                            refine rd_istore C dL_isMoved_385 (by decide) (L' := [rd_R 0, rd_I k0, rd_Z (pl π), rd_J, rd_I (π 1 30), rd_I (π 1 31), rd_I (π 1 34), rd_I (pv_movesLeft π), rd_I (π 1 35), rd_I (mo_o π (π 1 30) (22 + k0)), rd_I c10, rd_I c11, rd_I (mo_fw π 1 31), rd_I 1, rd_J, rd_J, rd_J]) rfl ?_
                            exact j387 _ _ c10 c11 (mo_fw π 1 31) hS16 (by assumption)
              · refine rd_iload C dL_isMoved_188 rfl ?_
                refine rd_bipush C dL_isMoved_190 (n := -5) (by decide) ⟨by decide, by decide⟩ ?_
                refine rd_icmp_ne C dL_isMoved_192 (tgt := 199) (by decide) (fun h_192 => ?_) (fun h_192 => ?_)
                · exfalso; omega
                · refine rd_iconst C dL_isMoved_195 (n := 1) ⟨by decide, by decide⟩ ?_
                  refine rd_goto C dL_isMoved_196 (tgt := 200) (by decide) ?_
                  refine rd_istore C dL_isMoved_200 (by decide) (L' := [rd_R 0, rd_I k0, rd_Z (pl π), rd_J, rd_I (π 1 30), rd_I (π 1 31), rd_I (π 1 34), rd_I (pv_movesLeft π), rd_I (π 1 35), rd_I (mo_o π (π 1 30) (22 + k0)), rd_I c10, rd_I c11, rd_I (mo_fw π 1 31), rd_I 1, rd_J, rd_J, rd_J]) rfl ?_
                  refine rd_iload C dL_isMoved_202 rfl ?_
                  refine rd_if_eq C dL_isMoved_204 (tgt := 387) (by decide) (fun h => absurd h (by decide)) (fun _ => ?_)
                  refine rd_iload C dL_isMoved_207 rfl ?_
                  refine rd_if_lt C dL_isMoved_209 (tgt := 387) (by decide) (fun h_209 => ?_) (fun h_209 => ?_)
                  · exfalso; omega
                  · refine rd_aload_n C dL_isMoved_212 rfl ?_
                    refine rd_iconst C dL_isMoved_213 (n := 1) ⟨by decide, by decide⟩ ?_
                    refine rd_callV C (kq_now hS8) rm_L_23 ri_X9_now rs_X9_now rc_X9_now rz_X9 ⟨rp_X9_now, rfl, rfl, by decide, by decide⟩ rfl rd_kcl9 dL_isMoved_214 rd_b0 rd_k0 rfl (Nat.le_of_ble_eq_true rfl) (fun v1 w1 hq => ?_)
                    obtain ⟨hv1, hm1⟩ := hq; rw [hv1, hm1, hnF.2.1]; clear hv1 hm1 v1 w1
                    refine rd_iload C dL_isMoved_217 rfl ?_
                    refine rd_icmp_ne C dL_isMoved_219 (tgt := 302) (by decide) (fun h => by exfalso; omega) (fun _ => ?_)
                    refine rd_aload_n C dL_isMoved_222 rfl ?_
                    refine rd_iconst C dL_isMoved_223 (n := 0) ⟨by decide, by decide⟩ ?_
                    refine rd_iconst C dL_isMoved_224 (n := 0) ⟨by decide, by decide⟩ ?_
                    refine rd_callV C (kq_trail hS8) rm_L_27 ri_X9_trail rs_X9_trail rc_X9_trail rz_X9 ⟨rp_X9_trail, rfl, rfl, by decide, by decide⟩ rfl rd_kcl9 dL_isMoved_225 rd_b0 rd_k0 rfl (Nat.le_of_ble_eq_true rfl) (fun v1 w1 hq => ?_)
                    obtain ⟨hv1, hm1⟩ := hq; rw [hv1, hm1, hft.1]; clear hv1 hm1 v1 w1
                    refine rd_iload C dL_isMoved_228 rfl ?_
                    refine rd_icmp_ne C dL_isMoved_230 (tgt := 302) (by decide) (fun h => by exfalso; omega) (fun _ => ?_)
                    refine rd_aload_n C dL_isMoved_233 rfl ?_
                    refine rd_iconst C dL_isMoved_234 (n := 0) ⟨by decide, by decide⟩ ?_
                    refine rd_iconst C dL_isMoved_235 (n := 1) ⟨by decide, by decide⟩ ?_
                    refine rd_callV C (kq_trail hS8) rm_L_27 ri_X9_trail rs_X9_trail rc_X9_trail rz_X9 ⟨rp_X9_trail, rfl, rfl, by decide, by decide⟩ rfl rd_kcl9 dL_isMoved_236 rd_b0 rd_k0 rfl (Nat.le_of_ble_eq_true rfl) (fun v1 w1 hq => ?_)
                    obtain ⟨hv1, hm1⟩ := hq; rw [hv1, hm1, hft.2.1]; clear hv1 hm1 v1 w1
                    refine rd_iload C dL_isMoved_239 rfl ?_
                    refine rd_icmp_ne C dL_isMoved_241 (tgt := 302) (by decide) (fun h => by exfalso; omega) (fun _ => ?_)
                    refine rd_aload_n C dL_isMoved_244 rfl ?_
                    refine rd_iconst C dL_isMoved_245 (n := 0) ⟨by decide, by decide⟩ ?_
                    refine rd_iconst C dL_isMoved_246 (n := 2) ⟨by decide, by decide⟩ ?_
                    refine rd_callV C (kq_trail hS8) rm_L_27 ri_X9_trail rs_X9_trail rc_X9_trail rz_X9 ⟨rp_X9_trail, rfl, rfl, by decide, by decide⟩ rfl rd_kcl9 dL_isMoved_247 rd_b0 rd_k0 rfl (Nat.le_of_ble_eq_true rfl) (fun v1 w1 hq => ?_)
                    obtain ⟨hv1, hm1⟩ := hq; rw [hv1, hm1, hft.2.2]; clear hv1 hm1 v1 w1
                    refine rd_iload C dL_isMoved_250 rfl ?_
                    refine rd_icmp_ne C dL_isMoved_252 (tgt := 302) (by decide) (fun h => by exfalso; omega) (fun _ => ?_)
                    refine rd_aload_n C dL_isMoved_255 rfl ?_
                    refine rd_iconst C dL_isMoved_256 (n := 3) ⟨by decide, by decide⟩ ?_
                    refine rd_callV C (kq_now hS8) rm_L_23 ri_X9_now rs_X9_now rc_X9_now rz_X9 ⟨rp_X9_now, rfl, rfl, by decide, by decide⟩ rfl rd_kcl9 dL_isMoved_257 rd_b0 rd_k0 rfl (Nat.le_of_ble_eq_true rfl) (fun v1 w1 hq => ?_)
                    obtain ⟨hv1, hm1⟩ := hq; rw [hv1, hm1, hn33]; clear hv1 hm1 v1 w1
                    refine rd_if_ne C dL_isMoved_260 (tgt := 302) (by decide) (fun h => absurd h (by decide)) (fun _ => ?_)
                    refine rd_aload_n C dL_isMoved_263 rfl ?_
                    refine rd_callV C (kq_movesLeft hS8) rm_L_111 ri_X9_movesLeft rs_X9_movesLeft rc_X9_movesLeft rz_X9 ⟨rp_X9_movesLeft, rfl, rfl, by decide, by decide⟩ rfl rd_kcl9 dL_isMoved_264 rd_b0 rd_k0 rfl (Nat.le_of_ble_eq_true rfl) (fun v1 w1 hq => ?_)
                    obtain ⟨hv1, hm1⟩ := hq; rw [hv1, hm1, hfL]; clear hv1 hm1 v1 w1
                    refine rd_iload C dL_isMoved_267 rfl ?_
                    refine rd_iconst C dL_isMoved_269 (n := 1) ⟨by decide, by decide⟩ ?_
                    refine rd_isub C dL_isMoved_270 (z := pv_movesLeft π - 1) rfl ⟨by omega, by omega⟩ ?_
                    refine rd_icmp_ne C dL_isMoved_271 (tgt := 302) (by decide) (fun h => by exfalso; omega) (fun _ => ?_)
                    refine rd_aload_n C dL_isMoved_274 rfl ?_
                    refine rd_iconst C dL_isMoved_275 (n := 4) ⟨by decide, by decide⟩ ?_
                    refine rd_callV C (kq_now hS8) rm_L_23 ri_X9_now rs_X9_now rc_X9_now rz_X9 ⟨rp_X9_now, rfl, rfl, by decide, by decide⟩ rfl rd_kcl9 dL_isMoved_276 rd_b0 rd_k0 rfl (Nat.le_of_ble_eq_true rfl) (fun v1 w1 hq => ?_)
                    obtain ⟨hv1, hm1⟩ := hq; rw [hv1, hm1, hnF.2.2.2.2.1]; clear hv1 hm1 v1 w1
                    refine rd_iload C dL_isMoved_279 rfl ?_
                    refine rd_bipush C dL_isMoved_281 (n := 40) (by decide) ⟨by decide, by decide⟩ ?_
                    refine rd_icmp_ge C dL_isMoved_283 (tgt := 293) (by decide) (fun h_283 => ?_) (fun h_283 => ?_)
                    · refine rd_bipush C dL_isMoved_293 (n := 40) (by decide) ⟨by decide, by decide⟩ ?_
                      refine rd_icmp_ne C dL_isMoved_295 (tgt := 302) (by decide) (fun h_295 => ?_) (fun h_295 => ?_)
                      · exfalso; omega
                      · refine rd_iconst C dL_isMoved_298 (n := 1) ⟨by decide, by decide⟩ ?_
                        refine rd_goto C dL_isMoved_299 (tgt := 303) (by decide) ?_
                        refine rd_istore C dL_isMoved_303 (by decide) (L' := [rd_R 0, rd_I k0, rd_Z (pl π), rd_J, rd_I (π 1 30), rd_I (π 1 31), rd_I (π 1 34), rd_I (pv_movesLeft π), rd_I (π 1 35), rd_I (mo_o π (π 1 30) (22 + k0)), rd_I c10, rd_I c11, rd_I (mo_fw π 1 31), rd_I 1, rd_J, rd_J, rd_J]) rfl ?_
                        refine rd_iload C dL_isMoved_305 rfl ?_
                        refine rd_if_eq C dL_isMoved_307 (tgt := 368) (by decide) (fun h => absurd h (by decide)) (fun _ => ?_)
                        refine rd_iload C dL_isMoved_310 rfl ?_
                        refine rd_if_eq C dL_isMoved_312 (tgt := 368) (by decide) (fun h_312 => ?_) (fun h_312 => ?_)
                        · refine rd_iload C dL_isMoved_368 rfl ?_
                          refine rd_if_eq C dL_isMoved_370 (tgt := 384) (by decide) (fun h => absurd h (by decide)) (fun _ => ?_)
                          refine rd_aload_n C dL_isMoved_373 rfl ?_
                          refine rd_callV C (kq_undo_z hS8) rm_L_125 ri_X9_undo rs_X9_undo rc_X9_undo rz_X9 ⟨rp_X9_undo, rfl, rfl, by decide, by decide⟩ rfl rd_kcl9 dL_isMoved_374 rd_b0 rd_k0 rfl (Nat.le_of_ble_eq_true rfl) (fun v17 w17 hq => ?_)
                          obtain ⟨z17, hz17, hv17, hS17⟩ := hq; subst hv17
                          refine rd_if_lt C dL_isMoved_377 (tgt := 384) (by decide) (fun h_377 => ?_) (fun h_377 => ?_)
                          · exfalso; omega
                          · refine rd_iconst C dL_isMoved_380 (n := 1) ⟨by decide, by decide⟩ ?_
                            refine rd_goto C dL_isMoved_381 (tgt := 385) (by decide) ?_
                            refine rd_istore C dL_isMoved_385 (by decide) (L' := [rd_R 0, rd_I k0, rd_Z (pl π), rd_J, rd_I (π 1 30), rd_I (π 1 31), rd_I (π 1 34), rd_I (pv_movesLeft π), rd_I (π 1 35), rd_I (mo_o π (π 1 30) (22 + k0)), rd_I c10, rd_I c11, rd_I (mo_fw π 1 31), rd_I 1, rd_J, rd_J, rd_J]) rfl ?_
                            exact j387 _ _ c10 c11 (mo_fw π 1 31) hS17 (by assumption)
                        · have hfd : mo_o π (π 1 30) 1 = 0 ∨ π 1 34 = 1 := hc11.elim (fun g => g.2) (fun g => by exfalso; omega)
                          obtain ⟨b1, b2, b3, b4⟩ := pm_fb2 hR hf hfd
                          refine rd_aload_n C dL_isMoved_315 rfl ?_
                          refine rd_callV C (kq_backTo hS8) rm_L_108 ri_X9_backTo rs_X9_backTo rc_X9_backTo rz_X9 ⟨rp_X9_backTo, rfl, rfl, by decide, by decide⟩ rfl rd_kcl9 dL_isMoved_316 rd_b0 rd_k0 rfl (Nat.le_of_ble_eq_true rfl) (fun v1 w1 hq => ?_)
                          obtain ⟨hv1, hm1⟩ := hq; rw [hv1, hm1, b1]; clear hv1 hm1 v1 w1
                          refine rd_iload C dL_isMoved_319 rfl ?_
                          refine rd_icmp_ne C dL_isMoved_321 (tgt := 365) (by decide) (fun h => by exfalso; omega) (fun _ => ?_)
                          refine rd_aload_n C dL_isMoved_324 rfl ?_
                          refine rd_callV C (kq_back hS8) rm_L_93 ri_X9_back rs_X9_back rc_X9_back rz_X9 ⟨rp_X9_back, rfl, rfl, by decide, by decide⟩ rfl rd_kcl9 dL_isMoved_325 rd_b0 rd_k0 rfl (Nat.le_of_ble_eq_true rfl) (fun v18 w18 hq => ?_)
                          obtain ⟨hv18, hm18⟩ := hq; rw [b2] at hv18 hm18; dsimp only at hv18 hm18; subst hv18
                          have hS18 := pg_T_ok hm18 hV.2.1
                          refine rd_iload C dL_isMoved_328 rfl ?_
                          refine rd_icmp_ne C dL_isMoved_330 (tgt := 365) (by decide) (fun h => by exfalso; omega) (fun _ => ?_)
                          refine rd_aload_n C dL_isMoved_333 rfl ?_
                          refine rd_iconst C dL_isMoved_334 (n := 0) ⟨by decide, by decide⟩ ?_
                          refine rd_callV C (kq_now hS18) rm_L_23 ri_X9_now rs_X9_now rc_X9_now rz_X9 ⟨rp_X9_now, rfl, rfl, by decide, by decide⟩ rfl rd_kcl9 dL_isMoved_335 rd_b0 rd_k0 rfl (Nat.le_of_ble_eq_true rfl) (fun v1 w1 hq => ?_)
                          obtain ⟨hv1, hm1⟩ := hq; rw [hv1, hm1, b3]; clear hv1 hm1 v1 w1
                          refine rd_iload C dL_isMoved_338 rfl ?_
                          refine rd_icmp_ne C dL_isMoved_340 (tgt := 365) (by decide) (fun h => by exfalso; omega) (fun _ => ?_)
                          refine rd_aload_n C dL_isMoved_343 rfl ?_
                          refine rd_bipush C dL_isMoved_344 (n := 6) (by decide) ⟨by decide, by decide⟩ ?_
                          refine rd_callV C (kq_now hS18) rm_L_23 ri_X9_now rs_X9_now rc_X9_now rz_X9 ⟨rp_X9_now, rfl, rfl, by decide, by decide⟩ rfl rd_kcl9 dL_isMoved_346 rd_b0 rd_k0 rfl (Nat.le_of_ble_eq_true rfl) (fun v1 w1 hq => ?_)
                          obtain ⟨hv1, hm1⟩ := hq; rw [hv1, hm1, b4]; clear hv1 hm1 v1 w1
                          refine rd_iload C dL_isMoved_349 rfl ?_
                          refine rd_icmp_ne C dL_isMoved_351 (tgt := 365) (by decide) (fun h => by exfalso; omega) (fun _ => ?_)
                          refine rd_aload_n C dL_isMoved_354 rfl ?_
                          refine rd_callV C (kq_undo_z hS18) rm_L_125 ri_X9_undo rs_X9_undo rc_X9_undo rz_X9 ⟨rp_X9_undo, rfl, rfl, by decide, by decide⟩ rfl rd_kcl9 dL_isMoved_355 rd_b0 rd_k0 rfl (Nat.le_of_ble_eq_true rfl) (fun v19 w19 hq => ?_)
                          obtain ⟨z19, hz19, hv19, hS19⟩ := hq; subst hv19
                          refine rd_if_lt C dL_isMoved_358 (tgt := 365) (by decide) (fun h_358 => ?_) (fun h_358 => ?_)
                          · exfalso; omega
                          · refine rd_iconst C dL_isMoved_361 (n := 1) ⟨by decide, by decide⟩ ?_
                            refine rd_goto C dL_isMoved_362 (tgt := 366) (by decide) ?_
                            refine rd_istore C dL_isMoved_366 (by decide) (L' := [rd_R 0, rd_I k0, rd_Z (pl π), rd_J, rd_I (π 1 30), rd_I (π 1 31), rd_I (π 1 34), rd_I (pv_movesLeft π), rd_I (π 1 35), rd_I (mo_o π (π 1 30) (22 + k0)), rd_I c10, rd_I c11, rd_I (mo_fw π 1 31), rd_I 1, rd_J, rd_J, rd_J]) rfl ?_
                            refine rd_iload C dL_isMoved_368 rfl ?_
                            refine rd_if_eq C dL_isMoved_370 (tgt := 384) (by decide) (fun h => absurd h (by decide)) (fun _ => ?_)
                            refine rd_aload_n C dL_isMoved_373 rfl ?_
                            refine rd_callV C (kq_undo_z hS19) rm_L_125 ri_X9_undo rs_X9_undo rc_X9_undo rz_X9 ⟨rp_X9_undo, rfl, rfl, by decide, by decide⟩ rfl rd_kcl9 dL_isMoved_374 rd_b0 rd_k0 rfl (Nat.le_of_ble_eq_true rfl) (fun v20 w20 hq => ?_)
                            obtain ⟨z20, hz20, hv20, hS20⟩ := hq; subst hv20
                            refine rd_if_lt C dL_isMoved_377 (tgt := 384) (by decide) (fun h_377 => ?_) (fun h_377 => ?_)
                            · exfalso; omega
                            · refine rd_iconst C dL_isMoved_380 (n := 1) ⟨by decide, by decide⟩ ?_
                              refine rd_goto C dL_isMoved_381 (tgt := 385) (by decide) ?_
                              refine rd_istore C dL_isMoved_385 (by decide) (L' := [rd_R 0, rd_I k0, rd_Z (pl π), rd_J, rd_I (π 1 30), rd_I (π 1 31), rd_I (π 1 34), rd_I (pv_movesLeft π), rd_I (π 1 35), rd_I (mo_o π (π 1 30) (22 + k0)), rd_I c10, rd_I c11, rd_I (mo_fw π 1 31), rd_I 1, rd_J, rd_J, rd_J]) rfl ?_
                              exact j387 _ _ c10 c11 (mo_fw π 1 31) hS20 (by assumption)
                    · refine rd_iload C dL_isMoved_286 rfl ?_
                      refine rd_iconst C dL_isMoved_288 (n := 1) ⟨by decide, by decide⟩ ?_
                      refine rd_iadd C dL_isMoved_289 (z := π 1 35 + 1) rfl ⟨by omega, by omega⟩ ?_
                      refine rd_goto C dL_isMoved_290 (tgt := 295) (by decide) ?_
                      refine rd_icmp_ne C dL_isMoved_295 (tgt := 302) (by decide) (fun h_295 => ?_) (fun h_295 => ?_)
                      · exfalso; omega
                      · refine rd_iconst C dL_isMoved_298 (n := 1) ⟨by decide, by decide⟩ ?_
                        refine rd_goto C dL_isMoved_299 (tgt := 303) (by decide) ?_
                        refine rd_istore C dL_isMoved_303 (by decide) (L' := [rd_R 0, rd_I k0, rd_Z (pl π), rd_J, rd_I (π 1 30), rd_I (π 1 31), rd_I (π 1 34), rd_I (pv_movesLeft π), rd_I (π 1 35), rd_I (mo_o π (π 1 30) (22 + k0)), rd_I c10, rd_I c11, rd_I (mo_fw π 1 31), rd_I 1, rd_J, rd_J, rd_J]) rfl ?_
                        refine rd_iload C dL_isMoved_305 rfl ?_
                        refine rd_if_eq C dL_isMoved_307 (tgt := 368) (by decide) (fun h => absurd h (by decide)) (fun _ => ?_)
                        refine rd_iload C dL_isMoved_310 rfl ?_
                        refine rd_if_eq C dL_isMoved_312 (tgt := 368) (by decide) (fun h_312 => ?_) (fun h_312 => ?_)
                        · refine rd_iload C dL_isMoved_368 rfl ?_
                          refine rd_if_eq C dL_isMoved_370 (tgt := 384) (by decide) (fun h => absurd h (by decide)) (fun _ => ?_)
                          refine rd_aload_n C dL_isMoved_373 rfl ?_
                          refine rd_callV C (kq_undo_z hS8) rm_L_125 ri_X9_undo rs_X9_undo rc_X9_undo rz_X9 ⟨rp_X9_undo, rfl, rfl, by decide, by decide⟩ rfl rd_kcl9 dL_isMoved_374 rd_b0 rd_k0 rfl (Nat.le_of_ble_eq_true rfl) (fun v21 w21 hq => ?_)
                          obtain ⟨z21, hz21, hv21, hS21⟩ := hq; subst hv21
                          refine rd_if_lt C dL_isMoved_377 (tgt := 384) (by decide) (fun h_377 => ?_) (fun h_377 => ?_)
                          · exfalso; omega
                          · refine rd_iconst C dL_isMoved_380 (n := 1) ⟨by decide, by decide⟩ ?_
                            refine rd_goto C dL_isMoved_381 (tgt := 385) (by decide) ?_
                            refine rd_istore C dL_isMoved_385 (by decide) (L' := [rd_R 0, rd_I k0, rd_Z (pl π), rd_J, rd_I (π 1 30), rd_I (π 1 31), rd_I (π 1 34), rd_I (pv_movesLeft π), rd_I (π 1 35), rd_I (mo_o π (π 1 30) (22 + k0)), rd_I c10, rd_I c11, rd_I (mo_fw π 1 31), rd_I 1, rd_J, rd_J, rd_J]) rfl ?_
                            exact j387 _ _ c10 c11 (mo_fw π 1 31) hS21 (by assumption)
                        · have hfd : mo_o π (π 1 30) 1 = 0 ∨ π 1 34 = 1 := hc11.elim (fun g => g.2) (fun g => by exfalso; omega)
                          obtain ⟨b1, b2, b3, b4⟩ := pm_fb2 hR hf hfd
                          refine rd_aload_n C dL_isMoved_315 rfl ?_
                          refine rd_callV C (kq_backTo hS8) rm_L_108 ri_X9_backTo rs_X9_backTo rc_X9_backTo rz_X9 ⟨rp_X9_backTo, rfl, rfl, by decide, by decide⟩ rfl rd_kcl9 dL_isMoved_316 rd_b0 rd_k0 rfl (Nat.le_of_ble_eq_true rfl) (fun v1 w1 hq => ?_)
                          obtain ⟨hv1, hm1⟩ := hq; rw [hv1, hm1, b1]; clear hv1 hm1 v1 w1
                          refine rd_iload C dL_isMoved_319 rfl ?_
                          refine rd_icmp_ne C dL_isMoved_321 (tgt := 365) (by decide) (fun h => by exfalso; omega) (fun _ => ?_)
                          refine rd_aload_n C dL_isMoved_324 rfl ?_
                          refine rd_callV C (kq_back hS8) rm_L_93 ri_X9_back rs_X9_back rc_X9_back rz_X9 ⟨rp_X9_back, rfl, rfl, by decide, by decide⟩ rfl rd_kcl9 dL_isMoved_325 rd_b0 rd_k0 rfl (Nat.le_of_ble_eq_true rfl) (fun v22 w22 hq => ?_)
                          obtain ⟨hv22, hm22⟩ := hq; rw [b2] at hv22 hm22; dsimp only at hv22 hm22; subst hv22
                          have hS22 := pg_T_ok hm22 hV.2.1
                          refine rd_iload C dL_isMoved_328 rfl ?_
                          refine rd_icmp_ne C dL_isMoved_330 (tgt := 365) (by decide) (fun h => by exfalso; omega) (fun _ => ?_)
                          refine rd_aload_n C dL_isMoved_333 rfl ?_
                          refine rd_iconst C dL_isMoved_334 (n := 0) ⟨by decide, by decide⟩ ?_
                          refine rd_callV C (kq_now hS22) rm_L_23 ri_X9_now rs_X9_now rc_X9_now rz_X9 ⟨rp_X9_now, rfl, rfl, by decide, by decide⟩ rfl rd_kcl9 dL_isMoved_335 rd_b0 rd_k0 rfl (Nat.le_of_ble_eq_true rfl) (fun v1 w1 hq => ?_)
                          obtain ⟨hv1, hm1⟩ := hq; rw [hv1, hm1, b3]; clear hv1 hm1 v1 w1
                          refine rd_iload C dL_isMoved_338 rfl ?_
                          refine rd_icmp_ne C dL_isMoved_340 (tgt := 365) (by decide) (fun h => by exfalso; omega) (fun _ => ?_)
                          refine rd_aload_n C dL_isMoved_343 rfl ?_
                          refine rd_bipush C dL_isMoved_344 (n := 6) (by decide) ⟨by decide, by decide⟩ ?_
                          refine rd_callV C (kq_now hS22) rm_L_23 ri_X9_now rs_X9_now rc_X9_now rz_X9 ⟨rp_X9_now, rfl, rfl, by decide, by decide⟩ rfl rd_kcl9 dL_isMoved_346 rd_b0 rd_k0 rfl (Nat.le_of_ble_eq_true rfl) (fun v1 w1 hq => ?_)
                          obtain ⟨hv1, hm1⟩ := hq; rw [hv1, hm1, b4]; clear hv1 hm1 v1 w1
                          refine rd_iload C dL_isMoved_349 rfl ?_
                          refine rd_icmp_ne C dL_isMoved_351 (tgt := 365) (by decide) (fun h => by exfalso; omega) (fun _ => ?_)
                          refine rd_aload_n C dL_isMoved_354 rfl ?_
                          refine rd_callV C (kq_undo_z hS22) rm_L_125 ri_X9_undo rs_X9_undo rc_X9_undo rz_X9 ⟨rp_X9_undo, rfl, rfl, by decide, by decide⟩ rfl rd_kcl9 dL_isMoved_355 rd_b0 rd_k0 rfl (Nat.le_of_ble_eq_true rfl) (fun v23 w23 hq => ?_)
                          obtain ⟨z23, hz23, hv23, hS23⟩ := hq; subst hv23
                          refine rd_if_lt C dL_isMoved_358 (tgt := 365) (by decide) (fun h_358 => ?_) (fun h_358 => ?_)
                          · exfalso; omega
                          · refine rd_iconst C dL_isMoved_361 (n := 1) ⟨by decide, by decide⟩ ?_
                            refine rd_goto C dL_isMoved_362 (tgt := 366) (by decide) ?_
                            refine rd_istore C dL_isMoved_366 (by decide) (L' := [rd_R 0, rd_I k0, rd_Z (pl π), rd_J, rd_I (π 1 30), rd_I (π 1 31), rd_I (π 1 34), rd_I (pv_movesLeft π), rd_I (π 1 35), rd_I (mo_o π (π 1 30) (22 + k0)), rd_I c10, rd_I c11, rd_I (mo_fw π 1 31), rd_I 1, rd_J, rd_J, rd_J]) rfl ?_
                            refine rd_iload C dL_isMoved_368 rfl ?_
                            refine rd_if_eq C dL_isMoved_370 (tgt := 384) (by decide) (fun h => absurd h (by decide)) (fun _ => ?_)
                            refine rd_aload_n C dL_isMoved_373 rfl ?_
                            refine rd_callV C (kq_undo_z hS23) rm_L_125 ri_X9_undo rs_X9_undo rc_X9_undo rz_X9 ⟨rp_X9_undo, rfl, rfl, by decide, by decide⟩ rfl rd_kcl9 dL_isMoved_374 rd_b0 rd_k0 rfl (Nat.le_of_ble_eq_true rfl) (fun v24 w24 hq => ?_)
                            obtain ⟨z24, hz24, hv24, hS24⟩ := hq; subst hv24
                            refine rd_if_lt C dL_isMoved_377 (tgt := 384) (by decide) (fun h_377 => ?_) (fun h_377 => ?_)
                            · exfalso; omega
                            · refine rd_iconst C dL_isMoved_380 (n := 1) ⟨by decide, by decide⟩ ?_
                              refine rd_goto C dL_isMoved_381 (tgt := 385) (by decide) ?_
                              refine rd_istore C dL_isMoved_385 (by decide) (L' := [rd_R 0, rd_I k0, rd_Z (pl π), rd_J, rd_I (π 1 30), rd_I (π 1 31), rd_I (π 1 34), rd_I (pv_movesLeft π), rd_I (π 1 35), rd_I (mo_o π (π 1 30) (22 + k0)), rd_I c10, rd_I c11, rd_I (mo_fw π 1 31), rd_I 1, rd_J, rd_J, rd_J]) rfl ?_
                              exact j387 _ _ c10 c11 (mo_fw π 1 31) hS24 (by assumption)
      · have hz : pv_movesLeft π ≤ 0 ∨ c10 ≠ 0 := by
          rcases hc10 with ⟨g, -⟩ | ⟨-, g⟩
          · exact Or.inr (by omega)
          · left; refine Classical.byContradiction (fun g2 => hf ⟨⟨hon, g⟩, hLc.mpr (by omega)⟩)
        refine rd_callV C (kq_forward hS) rm_L_102 ri_X9_forward rs_X9_forward rc_X9_forward rz_X9 ⟨rp_X9_forward, rfl, rfl, by decide, by decide⟩ rfl rd_kcl9 dL_isMoved_150 rd_b0 rd_k0 rfl (Nat.le_of_ble_eq_true rfl) (fun v25 w25 hq => ?_)
        obtain ⟨hv25, hm25⟩ := hq; rw [pm_fn hf] at hv25 hm25; dsimp only at hv25 hm25; subst hv25
        obtain ⟨lh25, hS25⟩ := pg_T_no hS hm25
        refine rd_istore C dL_isMoved_153 (by decide) (L' := [rd_R 0, rd_I k0, rd_Z (pl π), rd_J, rd_I (π 1 30), rd_I (π 1 31), rd_I (π 1 34), rd_I (pv_movesLeft π), rd_I (π 1 35), rd_I (mo_o π (π 1 30) (22 + k0)), rd_I c10, rd_I c11, rd_I (-5), rd_J, rd_J, rd_J, rd_J]) rfl ?_
        refine rd_iload C dL_isMoved_155 rfl ?_
        refine rd_if_lt C dL_isMoved_157 (tgt := 164) (by decide) (fun _ => ?_) (fun h => absurd h (by decide))
        refine rd_iconst C dL_isMoved_164 (n := 0) ⟨by decide, by decide⟩ ?_
        refine rd_iload C dL_isMoved_165 rfl ?_
        refine rd_if_le C dL_isMoved_167 (tgt := 179) (by decide) (fun h_167 => ?_) (fun h_167 => ?_)
        · refine rd_iconst C dL_isMoved_179 (n := 0) ⟨by decide, by decide⟩ ?_
          refine rd_icmp_ne C dL_isMoved_180 (tgt := 199) (by decide) (fun h => absurd h (by decide)) (fun _ => ?_)
          refine rd_iload C dL_isMoved_183 rfl ?_
          refine rd_if_ge C dL_isMoved_185 (tgt := 195) (by decide) (fun h => absurd h (by decide)) (fun _ => ?_)
          refine rd_iload C dL_isMoved_188 rfl ?_
          refine rd_bipush C dL_isMoved_190 (n := -5) (by decide) ⟨by decide, by decide⟩ ?_
          refine rd_icmp_ne C dL_isMoved_192 (tgt := 199) (by decide) (fun h => absurd h (by decide)) (fun _ => ?_)
          refine rd_iconst C dL_isMoved_195 (n := 1) ⟨by decide, by decide⟩ ?_
          refine rd_goto C dL_isMoved_196 (tgt := 200) (by decide) ?_
          refine rd_istore C dL_isMoved_200 (by decide) (L' := [rd_R 0, rd_I k0, rd_Z (pl π), rd_J, rd_I (π 1 30), rd_I (π 1 31), rd_I (π 1 34), rd_I (pv_movesLeft π), rd_I (π 1 35), rd_I (mo_o π (π 1 30) (22 + k0)), rd_I c10, rd_I c11, rd_I (-5), rd_I 1, rd_J, rd_J, rd_J]) rfl ?_
          refine rd_iload C dL_isMoved_202 rfl ?_
          refine rd_if_eq C dL_isMoved_204 (tgt := 387) (by decide) (fun h => absurd h (by decide)) (fun _ => ?_)
          refine rd_iload C dL_isMoved_207 rfl ?_
          refine rd_if_lt C dL_isMoved_209 (tgt := 387) (by decide) (fun _ => ?_) (fun h => absurd h (by decide))
          exact j387 _ _ c10 c11 (-5) hS25 (by assumption)
        · refine rd_iload C dL_isMoved_170 rfl ?_
          refine rd_if_ne C dL_isMoved_172 (tgt := 179) (by decide) (fun h_172 => ?_) (fun h_172 => ?_)
          · refine rd_iconst C dL_isMoved_179 (n := 0) ⟨by decide, by decide⟩ ?_
            refine rd_icmp_ne C dL_isMoved_180 (tgt := 199) (by decide) (fun h => absurd h (by decide)) (fun _ => ?_)
            refine rd_iload C dL_isMoved_183 rfl ?_
            refine rd_if_ge C dL_isMoved_185 (tgt := 195) (by decide) (fun h => absurd h (by decide)) (fun _ => ?_)
            refine rd_iload C dL_isMoved_188 rfl ?_
            refine rd_bipush C dL_isMoved_190 (n := -5) (by decide) ⟨by decide, by decide⟩ ?_
            refine rd_icmp_ne C dL_isMoved_192 (tgt := 199) (by decide) (fun h => absurd h (by decide)) (fun _ => ?_)
            refine rd_iconst C dL_isMoved_195 (n := 1) ⟨by decide, by decide⟩ ?_
            refine rd_goto C dL_isMoved_196 (tgt := 200) (by decide) ?_
            refine rd_istore C dL_isMoved_200 (by decide) (L' := [rd_R 0, rd_I k0, rd_Z (pl π), rd_J, rd_I (π 1 30), rd_I (π 1 31), rd_I (π 1 34), rd_I (pv_movesLeft π), rd_I (π 1 35), rd_I (mo_o π (π 1 30) (22 + k0)), rd_I c10, rd_I c11, rd_I (-5), rd_I 1, rd_J, rd_J, rd_J]) rfl ?_
            refine rd_iload C dL_isMoved_202 rfl ?_
            refine rd_if_eq C dL_isMoved_204 (tgt := 387) (by decide) (fun h => absurd h (by decide)) (fun _ => ?_)
            refine rd_iload C dL_isMoved_207 rfl ?_
            refine rd_if_lt C dL_isMoved_209 (tgt := 387) (by decide) (fun _ => ?_) (fun h => absurd h (by decide))
            exact j387 _ _ c10 c11 (-5) hS25 (by assumption)
          · refine rd_iconst C dL_isMoved_175 (n := 1) ⟨by decide, by decide⟩ ?_
            refine rd_goto C dL_isMoved_176 (tgt := 180) (by decide) ?_
            refine rd_icmp_ne C dL_isMoved_180 (tgt := 199) (by decide) (fun _ => ?_) (fun h => absurd h (by decide))
            exfalso; omega
    have j126 : ∀ (c10 : Int), ((c10 = 1 ∧ mo_ov π) ∨ (c10 = 0 ∧ ¬ mo_ov π)) → rd_W p l e (rd_rm 7 171) s m args below meth c (MQ below (rd_Qc G rd_kc 313 r (fun v μ' => v = some (rd_I 1) ∧ ∃ l', pg_S μ' π l')) args s 0 0 (rd_A r 313)) 17 G rd_kc 313 r 126 [rd_R 0, rd_I k0, rd_Z (pl π), rd_J, rd_I (π 1 30), rd_I (π 1 31), rd_I (π 1 34), rd_I (pv_movesLeft π), rd_I (π 1 35), rd_I (mo_o π (π 1 30) (22 + k0)), rd_I c10, rd_J, rd_J, rd_J, rd_J, rd_J, rd_J] [] μ := by
      intro c10 hc10
      refine rd_aload_n C dL_isMoved_126 rfl ?_
      refine rd_iload C dL_isMoved_127 rfl ?_
      refine rd_iconst C dL_isMoved_129 (n := 1) ⟨by decide, by decide⟩ ?_
      refine rd_callV C (kq_slide hS) rm_L_34 ri_X9_slide rs_X9_slide rc_X9_slide rz_X9 ⟨rp_X9_slide, rfl, rfl, by decide, by decide⟩ rfl rd_kcl9 dL_isMoved_130 rd_b0 rd_k0 rfl (Nat.le_of_ble_eq_true rfl) (fun v1 w1 hq => ?_)
      obtain ⟨hv1, hm1⟩ := hq; rw [hv1, hm1, hsl]; clear hv1 hm1 v1 w1
      refine rd_if_eq C dL_isMoved_133 (tgt := 142) (by decide) (fun h_133 => ?_) (fun h_133 => ?_)
      · refine rd_iconst C dL_isMoved_142 (n := 1) ⟨by decide, by decide⟩ ?_
        refine rd_goto C dL_isMoved_143 (tgt := 147) (by decide) ?_
        refine rd_istore C dL_isMoved_147 (by decide) (L' := [rd_R 0, rd_I k0, rd_Z (pl π), rd_J, rd_I (π 1 30), rd_I (π 1 31), rd_I (π 1 34), rd_I (pv_movesLeft π), rd_I (π 1 35), rd_I (mo_o π (π 1 30) (22 + k0)), rd_I c10, rd_I 1, rd_J, rd_J, rd_J, rd_J, rd_J]) rfl ?_
        exact j149 c10 1 (by assumption) (by first | exact Or.inr rfl | exact Or.inl ⟨rfl, by first | exact Or.inl (by assumption) | exact Or.inr (by omega)⟩)
      · refine rd_iload C dL_isMoved_136 rfl ?_
        refine rd_iconst C dL_isMoved_138 (n := 1) ⟨by decide, by decide⟩ ?_
        refine rd_icmp_ne C dL_isMoved_139 (tgt := 146) (by decide) (fun h_139 => ?_) (fun h_139 => ?_)
        · refine rd_iconst C dL_isMoved_146 (n := 0) ⟨by decide, by decide⟩ ?_
          refine rd_istore C dL_isMoved_147 (by decide) (L' := [rd_R 0, rd_I k0, rd_Z (pl π), rd_J, rd_I (π 1 30), rd_I (π 1 31), rd_I (π 1 34), rd_I (pv_movesLeft π), rd_I (π 1 35), rd_I (mo_o π (π 1 30) (22 + k0)), rd_I c10, rd_I 0, rd_J, rd_J, rd_J, rd_J, rd_J]) rfl ?_
          exact j149 c10 0 (by assumption) (by first | exact Or.inr rfl | exact Or.inl ⟨rfl, by first | exact Or.inl (by assumption) | exact Or.inr (by omega)⟩)
        · refine rd_iconst C dL_isMoved_142 (n := 1) ⟨by decide, by decide⟩ ?_
          refine rd_goto C dL_isMoved_143 (tgt := 147) (by decide) ?_
          refine rd_istore C dL_isMoved_147 (by decide) (L' := [rd_R 0, rd_I k0, rd_Z (pl π), rd_J, rd_I (π 1 30), rd_I (π 1 31), rd_I (π 1 34), rd_I (pv_movesLeft π), rd_I (π 1 35), rd_I (mo_o π (π 1 30) (22 + k0)), rd_I c10, rd_I 1, rd_J, rd_J, rd_J, rd_J, rd_J]) rfl ?_
          exact j149 c10 1 (by assumption) (by first | exact Or.inr rfl | exact Or.inl ⟨rfl, by first | exact Or.inl (by assumption) | exact Or.inr (by omega)⟩)
    refine rd_aload_n C dL_isMoved_66 rfl ?_
    refine rd_iconst C dL_isMoved_67 (n := 0) ⟨by decide, by decide⟩ ?_
    refine rd_callV C (kq_now hS) rm_L_23 ri_X9_now rs_X9_now rc_X9_now rz_X9 ⟨rp_X9_now, rfl, rfl, by decide, by decide⟩ rfl rd_kcl9 dL_isMoved_68 rd_b0 rd_k0 rfl (Nat.le_of_ble_eq_true rfl) (fun v1 w1 hq => ?_)
    obtain ⟨hv1, hm1⟩ := hq; rw [hv1, hm1, hn.1]; clear hv1 hm1 v1 w1
    refine rd_istore C dL_isMoved_71 (by decide) (L' := [rd_R 0, rd_I k0, rd_Z (pl π), rd_J, rd_I (π 1 30), rd_J, rd_J, rd_J, rd_J, rd_J, rd_J, rd_J, rd_J, rd_J, rd_J, rd_J, rd_J]) rfl ?_
    refine rd_aload_n C dL_isMoved_73 rfl ?_
    refine rd_iconst C dL_isMoved_74 (n := 1) ⟨by decide, by decide⟩ ?_
    refine rd_callV C (kq_now hS) rm_L_23 ri_X9_now rs_X9_now rc_X9_now rz_X9 ⟨rp_X9_now, rfl, rfl, by decide, by decide⟩ rfl rd_kcl9 dL_isMoved_75 rd_b0 rd_k0 rfl (Nat.le_of_ble_eq_true rfl) (fun v1 w1 hq => ?_)
    obtain ⟨hv1, hm1⟩ := hq; rw [hv1, hm1, hn.2.1]; clear hv1 hm1 v1 w1
    refine rd_istore C dL_isMoved_78 (by decide) (L' := [rd_R 0, rd_I k0, rd_Z (pl π), rd_J, rd_I (π 1 30), rd_I (π 1 31), rd_J, rd_J, rd_J, rd_J, rd_J, rd_J, rd_J, rd_J, rd_J, rd_J, rd_J]) rfl ?_
    refine rd_aload_n C dL_isMoved_80 rfl ?_
    refine rd_bipush C dL_isMoved_81 (n := 6) (by decide) ⟨by decide, by decide⟩ ?_
    refine rd_callV C (kq_now hS) rm_L_23 ri_X9_now rs_X9_now rc_X9_now rz_X9 ⟨rp_X9_now, rfl, rfl, by decide, by decide⟩ rfl rd_kcl9 dL_isMoved_83 rd_b0 rd_k0 rfl (Nat.le_of_ble_eq_true rfl) (fun v1 w1 hq => ?_)
    obtain ⟨hv1, hm1⟩ := hq; rw [hv1, hm1, hn.2.2.2.2.2]; clear hv1 hm1 v1 w1
    refine rd_istore C dL_isMoved_86 (by decide) (L' := [rd_R 0, rd_I k0, rd_Z (pl π), rd_J, rd_I (π 1 30), rd_I (π 1 31), rd_I (π 1 34), rd_J, rd_J, rd_J, rd_J, rd_J, rd_J, rd_J, rd_J, rd_J, rd_J]) rfl ?_
    refine rd_aload_n C dL_isMoved_88 rfl ?_
    refine rd_callV C (kq_movesLeft hS) rm_L_111 ri_X9_movesLeft rs_X9_movesLeft rc_X9_movesLeft rz_X9 ⟨rp_X9_movesLeft, rfl, rfl, by decide, by decide⟩ rfl rd_kcl9 dL_isMoved_89 rd_b0 rd_k0 rfl (Nat.le_of_ble_eq_true rfl) (fun v1 w1 hq => ?_)
    obtain ⟨hv1, hm1⟩ := hq; rw [hv1, hm1]; clear hv1 hm1 v1 w1
    refine rd_istore C dL_isMoved_92 (by decide) (L' := [rd_R 0, rd_I k0, rd_Z (pl π), rd_J, rd_I (π 1 30), rd_I (π 1 31), rd_I (π 1 34), rd_I (pv_movesLeft π), rd_J, rd_J, rd_J, rd_J, rd_J, rd_J, rd_J, rd_J, rd_J]) rfl ?_
    refine rd_aload_n C dL_isMoved_94 rfl ?_
    refine rd_iconst C dL_isMoved_95 (n := 4) ⟨by decide, by decide⟩ ?_
    refine rd_callV C (kq_now hS) rm_L_23 ri_X9_now rs_X9_now rc_X9_now rz_X9 ⟨rp_X9_now, rfl, rfl, by decide, by decide⟩ rfl rd_kcl9 dL_isMoved_96 rd_b0 rd_k0 rfl (Nat.le_of_ble_eq_true rfl) (fun v1 w1 hq => ?_)
    obtain ⟨hv1, hm1⟩ := hq; rw [hv1, hm1, hn.2.2.2.2.1]; clear hv1 hm1 v1 w1
    refine rd_istore C dL_isMoved_99 (by decide) (L' := [rd_R 0, rd_I k0, rd_Z (pl π), rd_J, rd_I (π 1 30), rd_I (π 1 31), rd_I (π 1 34), rd_I (pv_movesLeft π), rd_I (π 1 35), rd_J, rd_J, rd_J, rd_J, rd_J, rd_J, rd_J, rd_J]) rfl ?_
    refine rd_aload_n C dL_isMoved_101 rfl ?_
    refine rd_iload C dL_isMoved_102 rfl ?_
    refine rd_iload_n C dL_isMoved_104 rfl ?_
    refine rd_callV C (kq_target hS) rm_L_40 ri_X9_target rs_X9_target rc_X9_target rz_X9 ⟨rp_X9_target, rfl, rfl, by decide, by decide⟩ rfl rd_kcl9 dL_isMoved_105 rd_b0 rd_k0 rfl (Nat.le_of_ble_eq_true rfl) (fun v1 w1 hq => ?_)
    obtain ⟨hv1, hm1⟩ := hq; rw [hv1, hm1, htg]; clear hv1 hm1 v1 w1
    refine rd_istore C dL_isMoved_108 (by decide) (L' := [rd_R 0, rd_I k0, rd_Z (pl π), rd_J, rd_I (π 1 30), rd_I (π 1 31), rd_I (π 1 34), rd_I (pv_movesLeft π), rd_I (π 1 35), rd_I (mo_o π (π 1 30) (22 + k0)), rd_J, rd_J, rd_J, rd_J, rd_J, rd_J, rd_J]) rfl ?_
    refine rd_aload_n C dL_isMoved_110 rfl ?_
    refine rd_iconst C dL_isMoved_111 (n := 5) ⟨by decide, by decide⟩ ?_
    refine rd_callV C (kq_now hS) rm_L_23 ri_X9_now rs_X9_now rc_X9_now rz_X9 ⟨rp_X9_now, rfl, rfl, by decide, by decide⟩ rfl rd_kcl9 dL_isMoved_112 rd_b0 rd_k0 rfl (Nat.le_of_ble_eq_true rfl) (fun v1 w1 hq => ?_)
    obtain ⟨hv1, hm1⟩ := hq; rw [hv1, hm1]; clear hv1 hm1 v1 w1
    refine rd_iconst C dL_isMoved_115 (n := 1) ⟨by decide, by decide⟩ ?_
    refine rd_icmp_ne C dL_isMoved_116 (tgt := 123) (by decide) (fun h_116 => ?_) (fun h_116 => ?_)
    · refine rd_iconst C dL_isMoved_123 (n := 0) ⟨by decide, by decide⟩ ?_
      refine rd_istore C dL_isMoved_124 (by decide) (L' := [rd_R 0, rd_I k0, rd_Z (pl π), rd_J, rd_I (π 1 30), rd_I (π 1 31), rd_I (π 1 34), rd_I (pv_movesLeft π), rd_I (π 1 35), rd_I (mo_o π (π 1 30) (22 + k0)), rd_I 0, rd_J, rd_J, rd_J, rd_J, rd_J, rd_J]) rfl ?_
      exact j126 0 (by rcases h5 with ⟨g1, g2⟩ | ⟨g1, g2⟩ <;> first | exact Or.inl ⟨by omega, g1⟩ | exact Or.inr ⟨by omega, g1⟩)
    · refine rd_iconst C dL_isMoved_119 (n := 1) ⟨by decide, by decide⟩ ?_
      refine rd_goto C dL_isMoved_120 (tgt := 124) (by decide) ?_
      refine rd_istore C dL_isMoved_124 (by decide) (L' := [rd_R 0, rd_I k0, rd_Z (pl π), rd_J, rd_I (π 1 30), rd_I (π 1 31), rd_I (π 1 34), rd_I (pv_movesLeft π), rd_I (π 1 35), rd_I (mo_o π (π 1 30) (22 + k0)), rd_I 1, rd_J, rd_J, rd_J, rd_J, rd_J, rd_J]) rfl ?_
      exact j126 1 (by rcases h5 with ⟨g1, g2⟩ | ⟨g1, g2⟩ <;> first | exact Or.inl ⟨by omega, g1⟩ | exact Or.inr ⟨by omega, g1⟩)
  · have hoff : π 1 29 = 0 := (pm_29 hR).resolve_left (fun g => by have h1 := (pm_now g).1; have h2 := (rl_J hR).1.2.2.2.1 g; have h3 := h2.1.1; omega)
    obtain ⟨x1, x2, x3, x4, x5⟩ := pm_off hoff hk
    refine rd_aload_n C dL_isMoved_8 rfl ?_
    refine rd_callV C (kq_forward hS) rm_L_102 ri_X9_forward rs_X9_forward rc_X9_forward rz_X9 ⟨rp_X9_forward, rfl, rfl, by decide, by decide⟩ rfl rd_kcl9 dL_isMoved_9 rd_b0 rd_k0 rfl (Nat.le_of_ble_eq_true rfl) (fun v26 w26 hq => ?_)
    obtain ⟨hv26, hm26⟩ := hq; rw [x1] at hv26 hm26; dsimp only at hv26 hm26; subst hv26
    obtain ⟨lh26, hS26⟩ := pg_T_no hS hm26
    refine rd_bipush C dL_isMoved_12 (n := -5) (by decide) ⟨by decide, by decide⟩ ?_
    refine rd_icmp_ne C dL_isMoved_14 (tgt := 59) (by decide) (fun h => absurd h (by decide)) (fun _ => ?_)
    refine rd_aload_n C dL_isMoved_17 rfl ?_
    refine rd_callV C (kq_back hS26) rm_L_93 ri_X9_back rs_X9_back rc_X9_back rz_X9 ⟨rp_X9_back, rfl, rfl, by decide, by decide⟩ rfl rd_kcl9 dL_isMoved_18 rd_b0 rd_k0 rfl (Nat.le_of_ble_eq_true rfl) (fun v27 w27 hq => ?_)
    obtain ⟨hv27, hm27⟩ := hq; rw [x2] at hv27 hm27; dsimp only at hv27 hm27; subst hv27
    obtain ⟨lh27, hS27⟩ := pg_T_no hS26 hm27
    refine rd_bipush C dL_isMoved_21 (n := -5) (by decide) ⟨by decide, by decide⟩ ?_
    refine rd_icmp_ne C dL_isMoved_23 (tgt := 59) (by decide) (fun h => absurd h (by decide)) (fun _ => ?_)
    refine rd_aload_n C dL_isMoved_26 rfl ?_
    refine rd_iload_n C dL_isMoved_27 rfl ?_
    refine rd_callV C (kq_press hS27) rm_L_96 ri_X9_press rs_X9_press rc_X9_press rz_X9 ⟨rp_X9_press, rfl, rfl, by decide, by decide⟩ rfl rd_kcl9 dL_isMoved_28 rd_b0 rd_k0 rfl (Nat.le_of_ble_eq_true rfl) (fun v28 w28 hq => ?_)
    obtain ⟨hv28, hm28⟩ := hq; rw [x3] at hv28 hm28; dsimp only at hv28 hm28; subst hv28
    obtain ⟨lh28, hS28⟩ := pg_T_no hS27 hm28
    refine rd_bipush C dL_isMoved_31 (n := -5) (by decide) ⟨by decide, by decide⟩ ?_
    refine rd_icmp_ne C dL_isMoved_33 (tgt := 59) (by decide) (fun h => absurd h (by decide)) (fun _ => ?_)
    refine rd_aload_n C dL_isMoved_36 rfl ?_
    refine rd_iconst C dL_isMoved_37 (n := 1) ⟨by decide, by decide⟩ ?_
    refine rd_callV C (kq_tick hS28) rm_L_99 ri_X9_tick rs_X9_tick rc_X9_tick rz_X9 ⟨rp_X9_tick, rfl, rfl, by decide, by decide⟩ rfl rd_kcl9 dL_isMoved_38 rd_b0 rd_k0 rfl (Nat.le_of_ble_eq_true rfl) (fun v29 w29 hq => ?_)
    obtain ⟨hv29, hm29⟩ := hq; rw [x4] at hv29 hm29; dsimp only at hv29 hm29; subst hv29
    obtain ⟨lh29, hS29⟩ := pg_T_no hS28 hm29
    refine rd_bipush C dL_isMoved_41 (n := -5) (by decide) ⟨by decide, by decide⟩ ?_
    refine rd_icmp_ne C dL_isMoved_43 (tgt := 59) (by decide) (fun h => absurd h (by decide)) (fun _ => ?_)
    refine rd_aload_n C dL_isMoved_46 rfl ?_
    refine rd_callV C (kq_stop hS29) rm_L_87 ri_X9_stop rs_X9_stop rc_X9_stop rz_X9 ⟨rp_X9_stop, rfl, rfl, by decide, by decide⟩ rfl rd_kcl9 dL_isMoved_47 rd_b0 rd_k0 rfl (Nat.le_of_ble_eq_true rfl) (fun v30 w30 hq => ?_)
    obtain ⟨hv30, hm30⟩ := hq; rw [x5] at hv30 hm30; dsimp only at hv30 hm30; subst hv30
    obtain ⟨lh30, hS30⟩ := pg_T_no hS29 hm30
    refine rd_bipush C dL_isMoved_50 (n := -5) (by decide) ⟨by decide, by decide⟩ ?_
    refine rd_icmp_ne C dL_isMoved_52 (tgt := 59) (by decide) (fun h => absurd h (by decide)) (fun _ => ?_)
    refine rd_iconst C dL_isMoved_55 (n := 1) ⟨by decide, by decide⟩ ?_
    refine rd_goto C dL_isMoved_56 (tgt := 60) (by decide) ?_
    exact rd_zret C dL_isMoved_60 (by omega) ⟨rfl, _, hS30⟩
