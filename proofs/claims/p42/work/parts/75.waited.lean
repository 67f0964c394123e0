/-! the law's isWaited -/
set_option maxHeartbeats 4000000 in
set_option maxRecDepth 100000 in
theorem c_L_isWaited {l : Launch} {G : rd_G} {r : Nat} {μ : rd_Mem} {π : rd_Mem} {lh : List rd_Mem} (hS : pg_S μ π lh) {k : Int} (hE : px_E k π) (hk : 0 ≤ k) (hk2 : k < 800000) : rd_M l G rd_kc 313 r yL_isWaited cL_isWaited 4 (some .boolean) (rd_rm 6 149) [rd_R 0] μ (fun v μ' => v = some (rd_I 1) ∧ ∃ l', pg_S μ' π l') := by
  refine rd_enter (by decide +kernel) (Nat.le_of_ble_eq_true rfl) [rd_R 0, rd_J, rd_J, rd_J] rfl (fun p e s m args below meth c C => ?_)
  refine rd_W.rng (fun hM hL _ => ?_)
  have hR := hS.1
  refine rd_aload_n C dL_isWaited_0 rfl ?_
  refine rd_callV C (kq_secondsLeft hS) rm_L_114 ri_X9_secondsLeft rs_X9_secondsLeft rc_X9_secondsLeft rz_X9 ⟨rp_X9_secondsLeft, rfl, rfl, by decide, by decide⟩ rfl rd_kcl9 dL_isWaited_1 rd_b0 rd_k0 rfl (Nat.le_of_ble_eq_true rfl) (fun v1 w1 hq => ?_)
  obtain ⟨hv1, hm1⟩ := hq; rw [hv1, hm1]; clear hv1 hm1 v1 w1
  refine rd_istore_n C dL_isWaited_4 (by decide) (L' := [rd_R 0, rd_I (pv_secondsLeft π), rd_J, rd_J]) rfl ?_
  refine rd_iload_n C dL_isWaited_5 rfl ?_
  refine rd_if_le C dL_isWaited_6 (tgt := 22) (by decide) (fun h_6 => ?_) (fun h_6 => ?_)
  · refine rd_iconst C dL_isWaited_22 (n := 1) ⟨by decide, by decide⟩ ?_
    exact rd_zret C dL_isWaited_23 (by omega) ⟨rfl, _, hS⟩
  · refine rd_iload_n C dL_isWaited_9 rfl ?_
    refine rd_bipush C dL_isWaited_10 (n := 99) (by decide) ⟨by decide, by decide⟩ ?_
    refine rd_icmp_gt C dL_isWaited_12 (tgt := 22) (by decide) (fun h_12 => ?_) (fun h_12 => ?_)
    · refine rd_iconst C dL_isWaited_22 (n := 1) ⟨by decide, by decide⟩ ?_
      exact rd_zret C dL_isWaited_23 (by omega) ⟨rfl, _, hS⟩
    · refine rd_aload_n C dL_isWaited_15 rfl ?_
      refine rd_callV C (kq_end hS) rm_L_17 ri_X9_end rs_X9_end rc_X9_end rz_X9 ⟨rp_X9_end, rfl, rfl, by decide, by decide⟩ rfl rd_kcl9 dL_isWaited_16 rd_b0 rd_k0 rfl (Nat.le_of_ble_eq_true rfl) (fun v1 w1 hq => ?_)
      obtain ⟨hv1, hm1⟩ := hq; rw [hv1, hm1]; clear hv1 hm1 v1 w1
      refine rd_if_le C dL_isWaited_19 (tgt := 24) (by decide) (fun h_19 => ?_) (fun h_19 => ?_)
      · obtain ⟨⟨l0, l1, l2⟩, ⟨t1, t2, t3⟩, t4⟩ := pw_law hR hE hk hk2 (by omega) (by omega) (by omega)
        refine rd_aload_n C dL_isWaited_24 rfl ?_
        refine rd_callV C (kq_movesLeft hS) rm_L_111 ri_X9_movesLeft rs_X9_movesLeft rc_X9_movesLeft rz_X9 ⟨rp_X9_movesLeft, rfl, rfl, by decide, by decide⟩ rfl rd_kcl9 dL_isWaited_25 rd_b0 rd_k0 rfl (Nat.le_of_ble_eq_true rfl) (fun v1 w1 hq => ?_)
        obtain ⟨hv1, hm1⟩ := hq; rw [hv1, hm1]; clear hv1 hm1 v1 w1
        refine rd_istore_n C dL_isWaited_28 (by decide) (L' := [rd_R 0, rd_I (pv_secondsLeft π), rd_I (pv_movesLeft π), rd_J]) rfl ?_
        refine rd_aload_n C dL_isWaited_29 rfl ?_
        refine rd_iload_n C dL_isWaited_30 rfl ?_
        refine rd_callV C (kq_tick hS) rm_L_99 ri_X9_tick rs_X9_tick rc_X9_tick rz_X9 ⟨rp_X9_tick, rfl, rfl, by decide, by decide⟩ rfl rd_kcl9 dL_isWaited_31 rd_b0 rd_k0 rfl (Nat.le_of_ble_eq_true rfl) (fun v1 w1 hq => ?_)
        obtain ⟨hv1, hm1⟩ := hq; rw [t1] at hv1 hm1; dsimp only at hv1 hm1; subst hv1
        have hS1 := pg_T_ok hm1 l0
        refine rd_iload_n C dL_isWaited_34 rfl ?_
        refine rd_icmp_ne C dL_isWaited_35 (tgt := 64) (by decide) (fun h => by exfalso; omega) (fun _ => ?_)
        refine rd_aload_n C dL_isWaited_38 rfl ?_
        refine rd_callV C (kq_movesLeft hS1) rm_L_111 ri_X9_movesLeft rs_X9_movesLeft rc_X9_movesLeft rz_X9 ⟨rp_X9_movesLeft, rfl, rfl, by decide, by decide⟩ rfl rd_kcl9 dL_isWaited_39 rd_b0 rd_k0 rfl (Nat.le_of_ble_eq_true rfl) (fun v1 w1 hq => ?_)
        obtain ⟨hv1, hm1⟩ := hq; rw [hv1, hm1, t2]; clear hv1 hm1 v1 w1
        refine rd_if_ne C dL_isWaited_42 (tgt := 64) (by decide) (fun h => absurd h (by decide)) (fun _ => ?_)
        refine rd_aload_n C dL_isWaited_45 rfl ?_
        refine rd_iconst C dL_isWaited_46 (n := 3) ⟨by decide, by decide⟩ ?_
        refine rd_callV C (kq_now hS1) rm_L_23 ri_X9_now rs_X9_now rc_X9_now rz_X9 ⟨rp_X9_now, rfl, rfl, by decide, by decide⟩ rfl rd_kcl9 dL_isWaited_47 rd_b0 rd_k0 rfl (Nat.le_of_ble_eq_true rfl) (fun v1 w1 hq => ?_)
        obtain ⟨hv1, hm1⟩ := hq; rw [hv1, hm1, t3]; clear hv1 hm1 v1 w1
        refine rd_if_ne C dL_isWaited_50 (tgt := 64) (by decide) (fun h => absurd h (by decide)) (fun _ => ?_)
        refine rd_aload_n C dL_isWaited_53 rfl ?_
        refine rd_callV C (kq_undo_z hS1) rm_L_125 ri_X9_undo rs_X9_undo rc_X9_undo rz_X9 ⟨rp_X9_undo, rfl, rfl, by decide, by decide⟩ rfl rd_kcl9 dL_isWaited_54 rd_b0 rd_k0 rfl (Nat.le_of_ble_eq_true rfl) (fun v2 w2 hq => ?_)
        obtain ⟨z2, hz2, hv2, hS2⟩ := hq; subst hv2
        refine rd_if_lt C dL_isWaited_57 (tgt := 64) (by decide) (fun h_57 => ?_) (fun h_57 => ?_)
        · exfalso; omega
        · refine rd_iconst C dL_isWaited_60 (n := 1) ⟨by decide, by decide⟩ ?_
          refine rd_goto C dL_isWaited_61 (tgt := 65) (by decide) ?_
          refine rd_istore_n C dL_isWaited_65 (by decide) (L' := [rd_R 0, rd_I (pv_secondsLeft π), rd_I (pv_movesLeft π), rd_I 1]) rfl ?_
          refine rd_iload_n C dL_isWaited_66 rfl ?_
          refine rd_if_eq C dL_isWaited_67 (tgt := 107) (by decide) (fun h => absurd h (by decide)) (fun _ => ?_)
          refine rd_iload_n C dL_isWaited_70 rfl ?_
          refine rd_iconst C dL_isWaited_71 (n := 1) ⟨by decide, by decide⟩ ?_
          refine rd_icmp_eq C dL_isWaited_72 (tgt := 103) (by decide) (fun h_72 => ?_) (fun h_72 => ?_)
          · refine rd_iconst C dL_isWaited_103 (n := 1) ⟨by decide, by decide⟩ ?_
            refine rd_goto C dL_isWaited_104 (tgt := 108) (by decide) ?_
            exact rd_zret C dL_isWaited_108 (by omega) ⟨rfl, _, hS2⟩
          · obtain ⟨t5, t6⟩ := t4 (by omega)
            refine rd_aload_n C dL_isWaited_75 rfl ?_
            refine rd_iload_n C dL_isWaited_76 rfl ?_
            refine rd_iconst C dL_isWaited_77 (n := 1) ⟨by decide, by decide⟩ ?_
            refine rd_isub C dL_isWaited_78 (z := pv_secondsLeft π - 1) rfl ⟨by omega, by omega⟩ ?_
            refine rd_callV C (kq_tick hS2) rm_L_99 ri_X9_tick rs_X9_tick rc_X9_tick rz_X9 ⟨rp_X9_tick, rfl, rfl, by decide, by decide⟩ rfl rd_kcl9 dL_isWaited_79 rd_b0 rd_k0 rfl (Nat.le_of_ble_eq_true rfl) (fun v3 w3 hq => ?_)
            obtain ⟨hv3, hm3⟩ := hq; rw [t5] at hv3 hm3; dsimp only at hv3 hm3; subst hv3
            have hS3 := pg_T_ok hm3 (by omega)
            refine rd_iload_n C dL_isWaited_82 rfl ?_
            refine rd_iconst C dL_isWaited_83 (n := 1) ⟨by decide, by decide⟩ ?_
            refine rd_isub C dL_isWaited_84 (z := pv_movesLeft π - 1) rfl ⟨by omega, by omega⟩ ?_
            refine rd_icmp_ne C dL_isWaited_85 (tgt := 107) (by decide) (fun h => by exfalso; omega) (fun _ => ?_)
            refine rd_aload_n C dL_isWaited_88 rfl ?_
            refine rd_callV C (kq_movesLeft hS3) rm_L_111 ri_X9_movesLeft rs_X9_movesLeft rc_X9_movesLeft rz_X9 ⟨rp_X9_movesLeft, rfl, rfl, by decide, by decide⟩ rfl rd_kcl9 dL_isWaited_89 rd_b0 rd_k0 rfl (Nat.le_of_ble_eq_true rfl) (fun v1 w1 hq => ?_)
            obtain ⟨hv1, hm1⟩ := hq; rw [hv1, hm1, t6]; clear hv1 hm1 v1 w1
            refine rd_iconst C dL_isWaited_92 (n := 1) ⟨by decide, by decide⟩ ?_
            refine rd_icmp_ne C dL_isWaited_93 (tgt := 107) (by decide) (fun h => absurd h (by decide)) (fun _ => ?_)
            refine rd_aload_n C dL_isWaited_96 rfl ?_
            refine rd_callV C (kq_undo_z hS3) rm_L_125 ri_X9_undo rs_X9_undo rc_X9_undo rz_X9 ⟨rp_X9_undo, rfl, rfl, by decide, by decide⟩ rfl rd_kcl9 dL_isWaited_97 rd_b0 rd_k0 rfl (Nat.le_of_ble_eq_true rfl) (fun v4 w4 hq => ?_)
            obtain ⟨z4, hz4, hv4, hS4⟩ := hq; subst hv4
            refine rd_if_lt C dL_isWaited_100 (tgt := 107) (by decide) (fun h_100 => ?_) (fun h_100 => ?_)
            · exfalso; omega
            · refine rd_iconst C dL_isWaited_103 (n := 1) ⟨by decide, by decide⟩ ?_
              refine rd_goto C dL_isWaited_104 (tgt := 108) (by decide) ?_
              exact rd_zret C dL_isWaited_108 (by omega) ⟨rfl, _, hS4⟩
      · refine rd_iconst C dL_isWaited_22 (n := 1) ⟨by decide, by decide⟩ ?_
        exact rd_zret C dL_isWaited_23 (by omega) ⟨rfl, _, hS⟩
