def mo_sh (μ : rd_Mem) (k : Int) : rd_Mem := fun a b => if a = 1 ∧ (36 ≤ b ∧ b < 36 + k) then μ 1 (b + 3) else μ a b
def mo_mv (ν : rd_Mem) (t n s k : Int) : rd_Mem := rd_u (rd_u (rd_u (rd_u (rd_u (rd_u (rd_u (rd_u (rd_u ν 1 35 t) 1 (36 + 3 * t) (ν 1 30)) 1 (36 + 3 * t + 1) (ν 1 31)) 1 (36 + 3 * t + 2) (ν 1 34)) 1 35 (t + 1)) 1 30 n) 1 31 s) 1 34 k) 1 33 0
def mo_cm (μ : rd_Mem) (n s k : Int) : rd_Mem := if μ 1 35 = 40 then mo_mv (mo_sh μ 117) (mo_sh μ 117 1 35 - 1) n s k else mo_mv μ (μ 1 35 - 0) n s k
set_option maxHeartbeats 4000000 in
set_option maxRecDepth 100000 in
theorem c_X10_comes {l : Launch} {G : rd_G} {r : Nat} {μ : rd_Mem} {x s0 k0 : Int} (h0 : 0 ≤ μ 1 35) (h4 : μ 1 35 ≤ 40) : rd_M l G rd_km 5 r yX10_comes cX10_comes 5 none (rd_rm 0 0) [rd_R 0, rd_I x, rd_I s0, rd_I k0] μ (fun v μ' => v = none ∧ μ' = mo_cm μ x s0 k0) := by
  refine rd_enter (by decide +kernel) (Nat.le_of_ble_eq_true rfl) [rd_R 0, rd_I x, rd_I s0, rd_I k0, rd_J] rfl (fun p e s m args below meth c C => ?_)
  refine rd_W.rng (fun hM hL _ => ?_)
  refine rd_iconst C dX10_comes_0 (n := 0) ⟨by decide, by decide⟩ ?_
  refine rd_istore C dX10_comes_1 (by decide) (L' := [rd_R 0, rd_I x, rd_I s0, rd_I k0, rd_I 0]) rfl ?_
  have lp3 : ∀ (n : Nat) (k : Int) (μ1 : rd_Mem), (0 ≤ k) → (k ≤ 117) → (117 < k + n) → (μ 1 35 ≠ 40 → k = 0) → (μ1 = mo_sh μ k) → rd_W p l e (rd_rm 0 0) s m args below meth c (MQ below (rd_Qc G rd_km 5 r (fun v μ' => v = none ∧ μ' = mo_cm μ x s0 k0)) args s 0 0 (rd_A r 5)) 5 G rd_km 5 r 3 [rd_R 0, rd_I x, rd_I s0, rd_I k0, rd_I k] [] μ1 := by
    intro n
    induction n with
    | zero => intro k μ1  h1 h2 h3 h4 hm; exfalso; omega
    | succ n ih =>
      intro k μ1  h1 h2 h3 h4 hm
      have h35k : μ1 1 35 = μ 1 35 := by rw [hm]; unfold mo_sh; rw [if_neg (by omega)]
      refine rd_iload C dX10_comes_3 rfl ?_
      refine rd_bipush C dX10_comes_5 (n := 117) (by decide) ⟨by decide, by decide⟩ ?_
      refine rd_icmp_ge C dX10_comes_7 (tgt := 50) (by decide) (fun h_7 => ?_) (fun h_7 => ?_)
      · have hk117 : k = 117 := by omega
        have h40 : μ 1 35 = 40 := by
          by_cases h : μ 1 35 = 40
          · exact h
          · have := h4 h; omega
        rw [hm, hk117]
        have h35 : mo_sh μ 117 1 35 = 40 := by unfold mo_sh; rw [if_neg (by omega)]; exact h40
        refine rd_aload_n C dX10_comes_50 rfl ?_
        refine rd_get C rd_g10_0 rf_X10_7 dX10_comes_51 rd_c0 rd_m0 (x := rd_R (1)) rfl (fun _ => trivial) ?_
        refine rd_bipush C dX10_comes_54 (n := 35) (by decide) ⟨by decide, by decide⟩ ?_
        refine rd_dup2 C dX10_comes_56 ?_
        refine rd_ialdx C rd_ai18 dX10_comes_57 rd_c1 rd_m1 ⟨by omega, by omega⟩ (z := (mo_sh μ 117) 1 35) rfl ?_
        refine rd_aload_n C dX10_comes_58 rfl ?_
        refine rd_get C rd_g10_0 rf_X10_7 dX10_comes_59 rd_c0 rd_m0 (x := rd_R (1)) rfl (fun _ => trivial) ?_
        refine rd_bipush C dX10_comes_62 (n := 35) (by decide) ⟨by decide, by decide⟩ ?_
        refine rd_ialdx C rd_ai18 dX10_comes_64 rd_c1 rd_m1 ⟨by omega, by omega⟩ (z := (mo_sh μ 117) 1 35) rfl ?_
        refine rd_bipush C dX10_comes_65 (n := 40) (by decide) ⟨by decide, by decide⟩ ?_
        refine rd_icmp_ne C dX10_comes_67 (tgt := 74) (by decide) (fun h_67 => ?_) (fun h_67 => ?_)
        · exfalso; omega
        · refine rd_iconst C dX10_comes_70 (n := 1) ⟨by decide, by decide⟩ ?_
          refine rd_goto C dX10_comes_71 (tgt := 75) (by decide) ?_
          refine rd_isub C dX10_comes_75 (z := (mo_sh μ 117) 1 35 - 1) rfl ⟨by omega, by omega⟩ ?_
          refine rd_iast C rd_ai18 dX10_comes_76 rd_c1 rd_m1 ⟨by omega, by omega⟩ ?_
          refine rd_bipush C dX10_comes_77 (n := 36) (by decide) ⟨by decide, by decide⟩ ?_
          refine rd_iconst C dX10_comes_79 (n := 3) ⟨by decide, by decide⟩ ?_
          refine rd_aload_n C dX10_comes_80 rfl ?_
          refine rd_get C rd_g10_0 rf_X10_7 dX10_comes_81 rd_c0 rd_m0 (x := rd_R (1)) rfl (fun _ => trivial) ?_
          refine rd_bipush C dX10_comes_84 (n := 35) (by decide) ⟨by decide, by decide⟩ ?_
          refine rd_ialdx C rd_ai18 dX10_comes_86 rd_c1 rd_m1 ⟨by omega, by omega⟩ (z := (mo_sh μ 117) 1 35 - 1) (by rw [rd_u_s]) ?_
          refine rd_imul C dX10_comes_87 (z := 3 * ((mo_sh μ 117) 1 35 - 1)) rfl ⟨by omega, by omega⟩ ?_
          refine rd_iadd C dX10_comes_88 (z := 36 + (3 * ((mo_sh μ 117) 1 35 - 1))) rfl ⟨by omega, by omega⟩ ?_
          refine rd_istore C dX10_comes_89 (by decide) (L' := [rd_R 0, rd_I x, rd_I s0, rd_I k0, rd_I (36 + (3 * ((mo_sh μ 117) 1 35 - 1)))]) rfl ?_
          refine rd_aload_n C dX10_comes_91 rfl ?_
          refine rd_get C rd_g10_0 rf_X10_7 dX10_comes_92 rd_c0 rd_m0 (x := rd_R (1)) rfl (fun _ => trivial) ?_
          refine rd_iload C dX10_comes_95 rfl ?_
          refine rd_aload_n C dX10_comes_97 rfl ?_
          refine rd_get C rd_g10_0 rf_X10_7 dX10_comes_98 rd_c0 rd_m0 (x := rd_R (1)) rfl (fun _ => trivial) ?_
          refine rd_bipush C dX10_comes_101 (n := 30) (by decide) ⟨by decide, by decide⟩ ?_
          refine rd_ialdx C rd_ai18 dX10_comes_103 rd_c1 rd_m1 ⟨by omega, by omega⟩ (z := (mo_sh μ 117) 1 30) (by rw [rd_u_j _ _ _ (by omega)]) ?_
          refine rd_iast C rd_ai18 dX10_comes_104 rd_c1 rd_m1 ⟨by omega, by omega⟩ ?_
          refine rd_aload_n C dX10_comes_105 rfl ?_
          refine rd_get C rd_g10_0 rf_X10_7 dX10_comes_106 rd_c0 rd_m0 (x := rd_R (1)) rfl (fun _ => trivial) ?_
          refine rd_iload C dX10_comes_109 rfl ?_
          refine rd_iconst C dX10_comes_111 (n := 1) ⟨by decide, by decide⟩ ?_
          refine rd_iadd C dX10_comes_112 (z := 36 + (3 * ((mo_sh μ 117) 1 35 - 1)) + 1) rfl ⟨by omega, by omega⟩ ?_
          refine rd_aload_n C dX10_comes_113 rfl ?_
          refine rd_get C rd_g10_0 rf_X10_7 dX10_comes_114 rd_c0 rd_m0 (x := rd_R (1)) rfl (fun _ => trivial) ?_
          refine rd_bipush C dX10_comes_117 (n := 31) (by decide) ⟨by decide, by decide⟩ ?_
          refine rd_ialdx C rd_ai18 dX10_comes_119 rd_c1 rd_m1 ⟨by omega, by omega⟩ (z := (mo_sh μ 117) 1 31) (by rw [rd_u_j _ _ _ (by omega), rd_u_j _ _ _ (by omega)]) ?_
          refine rd_iast C rd_ai18 dX10_comes_120 rd_c1 rd_m1 ⟨by omega, by omega⟩ ?_
          refine rd_aload_n C dX10_comes_121 rfl ?_
          refine rd_get C rd_g10_0 rf_X10_7 dX10_comes_122 rd_c0 rd_m0 (x := rd_R (1)) rfl (fun _ => trivial) ?_
          refine rd_iload C dX10_comes_125 rfl ?_
          refine rd_iconst C dX10_comes_127 (n := 2) ⟨by decide, by decide⟩ ?_
          refine rd_iadd C dX10_comes_128 (z := 36 + (3 * ((mo_sh μ 117) 1 35 - 1)) + 2) rfl ⟨by omega, by omega⟩ ?_
          refine rd_aload_n C dX10_comes_129 rfl ?_
          refine rd_get C rd_g10_0 rf_X10_7 dX10_comes_130 rd_c0 rd_m0 (x := rd_R (1)) rfl (fun _ => trivial) ?_
          refine rd_bipush C dX10_comes_133 (n := 34) (by decide) ⟨by decide, by decide⟩ ?_
          refine rd_ialdx C rd_ai18 dX10_comes_135 rd_c1 rd_m1 ⟨by omega, by omega⟩ (z := (mo_sh μ 117) 1 34) (by rw [rd_u_j _ _ _ (by omega), rd_u_j _ _ _ (by omega), rd_u_j _ _ _ (by omega)]) ?_
          refine rd_iast C rd_ai18 dX10_comes_136 rd_c1 rd_m1 ⟨by omega, by omega⟩ ?_
          refine rd_aload_n C dX10_comes_137 rfl ?_
          refine rd_get C rd_g10_0 rf_X10_7 dX10_comes_138 rd_c0 rd_m0 (x := rd_R (1)) rfl (fun _ => trivial) ?_
          refine rd_bipush C dX10_comes_141 (n := 35) (by decide) ⟨by decide, by decide⟩ ?_
          refine rd_dup2 C dX10_comes_143 ?_
          refine rd_ialdx C rd_ai18 dX10_comes_144 rd_c1 rd_m1 ⟨by omega, by omega⟩ (z := (mo_sh μ 117) 1 35 - 1) (by rw [rd_u_j _ _ _ (by omega), rd_u_j _ _ _ (by omega), rd_u_j _ _ _ (by omega), rd_u_s]) ?_
          refine rd_iconst C dX10_comes_145 (n := 1) ⟨by decide, by decide⟩ ?_
          refine rd_iadd C dX10_comes_146 (z := (mo_sh μ 117) 1 35 - 1 + 1) rfl ⟨by omega, by omega⟩ ?_
          refine rd_iast C rd_ai18 dX10_comes_147 rd_c1 rd_m1 ⟨by omega, by omega⟩ ?_
          refine rd_aload_n C dX10_comes_148 rfl ?_
          refine rd_get C rd_g10_0 rf_X10_7 dX10_comes_149 rd_c0 rd_m0 (x := rd_R (1)) rfl (fun _ => trivial) ?_
          refine rd_bipush C dX10_comes_152 (n := 30) (by decide) ⟨by decide, by decide⟩ ?_
          refine rd_iload_n C dX10_comes_154 rfl ?_
          refine rd_iast C rd_ai18 dX10_comes_155 rd_c1 rd_m1 ⟨by omega, by omega⟩ ?_
          refine rd_aload_n C dX10_comes_156 rfl ?_
          refine rd_get C rd_g10_0 rf_X10_7 dX10_comes_157 rd_c0 rd_m0 (x := rd_R (1)) rfl (fun _ => trivial) ?_
          refine rd_bipush C dX10_comes_160 (n := 31) (by decide) ⟨by decide, by decide⟩ ?_
          refine rd_iload_n C dX10_comes_162 rfl ?_
          refine rd_iast C rd_ai18 dX10_comes_163 rd_c1 rd_m1 ⟨by omega, by omega⟩ ?_
          refine rd_aload_n C dX10_comes_164 rfl ?_
          refine rd_get C rd_g10_0 rf_X10_7 dX10_comes_165 rd_c0 rd_m0 (x := rd_R (1)) rfl (fun _ => trivial) ?_
          refine rd_bipush C dX10_comes_168 (n := 34) (by decide) ⟨by decide, by decide⟩ ?_
          refine rd_iload_n C dX10_comes_170 rfl ?_
          refine rd_iast C rd_ai18 dX10_comes_171 rd_c1 rd_m1 ⟨by omega, by omega⟩ ?_
          refine rd_aload_n C dX10_comes_172 rfl ?_
          refine rd_get C rd_g10_0 rf_X10_7 dX10_comes_173 rd_c0 rd_m0 (x := rd_R (1)) rfl (fun _ => trivial) ?_
          refine rd_bipush C dX10_comes_176 (n := 33) (by decide) ⟨by decide, by decide⟩ ?_
          refine rd_iconst C dX10_comes_178 (n := 0) ⟨by decide, by decide⟩ ?_
          refine rd_iast C rd_ai18 dX10_comes_179 rd_c1 rd_m1 ⟨by omega, by omega⟩ ?_
          exact rd_vret C dX10_comes_180 ⟨rfl, by unfold mo_cm; rw [if_pos h40]; rfl⟩
      · refine rd_aload_n C dX10_comes_10 rfl ?_
        refine rd_get C rd_g10_0 rf_X10_7 dX10_comes_11 rd_c0 rd_m0 (x := rd_R (1)) rfl (fun _ => trivial) ?_
        refine rd_bipush C dX10_comes_14 (n := 35) (by decide) ⟨by decide, by decide⟩ ?_
        refine rd_ialdx C rd_ai18 dX10_comes_16 rd_c1 rd_m1 ⟨by omega, by omega⟩ (z := μ1 1 35) rfl ?_
        refine rd_bipush C dX10_comes_17 (n := 40) (by decide) ⟨by decide, by decide⟩ ?_
        refine rd_icmp_ne C dX10_comes_19 (tgt := 50) (by decide) (fun h_19 => ?_) (fun h_19 => ?_)
        · have h40 : ¬ μ 1 35 = 40 := by rw [← h35k]; exact h_19
          have hk0 := h4 h40
          rw [hm, hk0, show mo_sh μ 0 = μ from by funext a b; unfold mo_sh; rw [if_neg (by omega)]]
          refine rd_aload_n C dX10_comes_50 rfl ?_
          refine rd_get C rd_g10_0 rf_X10_7 dX10_comes_51 rd_c0 rd_m0 (x := rd_R (1)) rfl (fun _ => trivial) ?_
          refine rd_bipush C dX10_comes_54 (n := 35) (by decide) ⟨by decide, by decide⟩ ?_
          refine rd_dup2 C dX10_comes_56 ?_
          refine rd_ialdx C rd_ai18 dX10_comes_57 rd_c1 rd_m1 ⟨by omega, by omega⟩ (z := μ 1 35) rfl ?_
          refine rd_aload_n C dX10_comes_58 rfl ?_
          refine rd_get C rd_g10_0 rf_X10_7 dX10_comes_59 rd_c0 rd_m0 (x := rd_R (1)) rfl (fun _ => trivial) ?_
          refine rd_bipush C dX10_comes_62 (n := 35) (by decide) ⟨by decide, by decide⟩ ?_
          refine rd_ialdx C rd_ai18 dX10_comes_64 rd_c1 rd_m1 ⟨by omega, by omega⟩ (z := μ 1 35) rfl ?_
          refine rd_bipush C dX10_comes_65 (n := 40) (by decide) ⟨by decide, by decide⟩ ?_
          refine rd_icmp_ne C dX10_comes_67 (tgt := 74) (by decide) (fun h_67 => ?_) (fun h_67 => ?_)
          · refine rd_iconst C dX10_comes_74 (n := 0) ⟨by decide, by decide⟩ ?_
            refine rd_isub C dX10_comes_75 (z := μ 1 35 - 0) rfl ⟨by omega, by omega⟩ ?_
            refine rd_iast C rd_ai18 dX10_comes_76 rd_c1 rd_m1 ⟨by omega, by omega⟩ ?_
            refine rd_bipush C dX10_comes_77 (n := 36) (by decide) ⟨by decide, by decide⟩ ?_
            refine rd_iconst C dX10_comes_79 (n := 3) ⟨by decide, by decide⟩ ?_
            refine rd_aload_n C dX10_comes_80 rfl ?_
            refine rd_get C rd_g10_0 rf_X10_7 dX10_comes_81 rd_c0 rd_m0 (x := rd_R (1)) rfl (fun _ => trivial) ?_
            refine rd_bipush C dX10_comes_84 (n := 35) (by decide) ⟨by decide, by decide⟩ ?_
            refine rd_ialdx C rd_ai18 dX10_comes_86 rd_c1 rd_m1 ⟨by omega, by omega⟩ (z := μ 1 35 - 0) (by rw [rd_u_s]) ?_
            refine rd_imul C dX10_comes_87 (z := 3 * (μ 1 35 - 0)) rfl ⟨by omega, by omega⟩ ?_
            refine rd_iadd C dX10_comes_88 (z := 36 + (3 * (μ 1 35 - 0))) rfl ⟨by omega, by omega⟩ ?_
            refine rd_istore C dX10_comes_89 (by decide) (L' := [rd_R 0, rd_I x, rd_I s0, rd_I k0, rd_I (36 + (3 * (μ 1 35 - 0)))]) rfl ?_
            refine rd_aload_n C dX10_comes_91 rfl ?_
            refine rd_get C rd_g10_0 rf_X10_7 dX10_comes_92 rd_c0 rd_m0 (x := rd_R (1)) rfl (fun _ => trivial) ?_
            refine rd_iload C dX10_comes_95 rfl ?_
            refine rd_aload_n C dX10_comes_97 rfl ?_
            refine rd_get C rd_g10_0 rf_X10_7 dX10_comes_98 rd_c0 rd_m0 (x := rd_R (1)) rfl (fun _ => trivial) ?_
            refine rd_bipush C dX10_comes_101 (n := 30) (by decide) ⟨by decide, by decide⟩ ?_
            refine rd_ialdx C rd_ai18 dX10_comes_103 rd_c1 rd_m1 ⟨by omega, by omega⟩ (z := μ 1 30) (by rw [rd_u_j _ _ _ (by omega)]) ?_
            refine rd_iast C rd_ai18 dX10_comes_104 rd_c1 rd_m1 ⟨by omega, by omega⟩ ?_
            refine rd_aload_n C dX10_comes_105 rfl ?_
            refine rd_get C rd_g10_0 rf_X10_7 dX10_comes_106 rd_c0 rd_m0 (x := rd_R (1)) rfl (fun _ => trivial) ?_
            refine rd_iload C dX10_comes_109 rfl ?_
            refine rd_iconst C dX10_comes_111 (n := 1) ⟨by decide, by decide⟩ ?_
            refine rd_iadd C dX10_comes_112 (z := 36 + (3 * (μ 1 35 - 0)) + 1) rfl ⟨by omega, by omega⟩ ?_
            refine rd_aload_n C dX10_comes_113 rfl ?_
            refine rd_get C rd_g10_0 rf_X10_7 dX10_comes_114 rd_c0 rd_m0 (x := rd_R (1)) rfl (fun _ => trivial) ?_
            refine rd_bipush C dX10_comes_117 (n := 31) (by decide) ⟨by decide, by decide⟩ ?_
            refine rd_ialdx C rd_ai18 dX10_comes_119 rd_c1 rd_m1 ⟨by omega, by omega⟩ (z := μ 1 31) (by rw [rd_u_j _ _ _ (by omega), rd_u_j _ _ _ (by omega)]) ?_
            refine rd_iast C rd_ai18 dX10_comes_120 rd_c1 rd_m1 ⟨by omega, by omega⟩ ?_
            refine rd_aload_n C dX10_comes_121 rfl ?_
            refine rd_get C rd_g10_0 rf_X10_7 dX10_comes_122 rd_c0 rd_m0 (x := rd_R (1)) rfl (fun _ => trivial) ?_
            refine rd_iload C dX10_comes_125 rfl ?_
            refine rd_iconst C dX10_comes_127 (n := 2) ⟨by decide, by decide⟩ ?_
            refine rd_iadd C dX10_comes_128 (z := 36 + (3 * (μ 1 35 - 0)) + 2) rfl ⟨by omega, by omega⟩ ?_
            refine rd_aload_n C dX10_comes_129 rfl ?_
            refine rd_get C rd_g10_0 rf_X10_7 dX10_comes_130 rd_c0 rd_m0 (x := rd_R (1)) rfl (fun _ => trivial) ?_
            refine rd_bipush C dX10_comes_133 (n := 34) (by decide) ⟨by decide, by decide⟩ ?_
            refine rd_ialdx C rd_ai18 dX10_comes_135 rd_c1 rd_m1 ⟨by omega, by omega⟩ (z := μ 1 34) (by rw [rd_u_j _ _ _ (by omega), rd_u_j _ _ _ (by omega), rd_u_j _ _ _ (by omega)]) ?_
            refine rd_iast C rd_ai18 dX10_comes_136 rd_c1 rd_m1 ⟨by omega, by omega⟩ ?_
            refine rd_aload_n C dX10_comes_137 rfl ?_
            refine rd_get C rd_g10_0 rf_X10_7 dX10_comes_138 rd_c0 rd_m0 (x := rd_R (1)) rfl (fun _ => trivial) ?_
            refine rd_bipush C dX10_comes_141 (n := 35) (by decide) ⟨by decide, by decide⟩ ?_
            refine rd_dup2 C dX10_comes_143 ?_
            refine rd_ialdx C rd_ai18 dX10_comes_144 rd_c1 rd_m1 ⟨by omega, by omega⟩ (z := μ 1 35 - 0) (by rw [rd_u_j _ _ _ (by omega), rd_u_j _ _ _ (by omega), rd_u_j _ _ _ (by omega), rd_u_s]) ?_
            refine rd_iconst C dX10_comes_145 (n := 1) ⟨by decide, by decide⟩ ?_
            refine rd_iadd C dX10_comes_146 (z := μ 1 35 - 0 + 1) rfl ⟨by omega, by omega⟩ ?_
            refine rd_iast C rd_ai18 dX10_comes_147 rd_c1 rd_m1 ⟨by omega, by omega⟩ ?_
            refine rd_aload_n C dX10_comes_148 rfl ?_
            refine rd_get C rd_g10_0 rf_X10_7 dX10_comes_149 rd_c0 rd_m0 (x := rd_R (1)) rfl (fun _ => trivial) ?_
            refine rd_bipush C dX10_comes_152 (n := 30) (by decide) ⟨by decide, by decide⟩ ?_
            refine rd_iload_n C dX10_comes_154 rfl ?_
            refine rd_iast C rd_ai18 dX10_comes_155 rd_c1 rd_m1 ⟨by omega, by omega⟩ ?_
            refine rd_aload_n C dX10_comes_156 rfl ?_
            refine rd_get C rd_g10_0 rf_X10_7 dX10_comes_157 rd_c0 rd_m0 (x := rd_R (1)) rfl (fun _ => trivial) ?_
            refine rd_bipush C dX10_comes_160 (n := 31) (by decide) ⟨by decide, by decide⟩ ?_
            refine rd_iload_n C dX10_comes_162 rfl ?_
            refine rd_iast C rd_ai18 dX10_comes_163 rd_c1 rd_m1 ⟨by omega, by omega⟩ ?_
            refine rd_aload_n C dX10_comes_164 rfl ?_
            refine rd_get C rd_g10_0 rf_X10_7 dX10_comes_165 rd_c0 rd_m0 (x := rd_R (1)) rfl (fun _ => trivial) ?_
            refine rd_bipush C dX10_comes_168 (n := 34) (by decide) ⟨by decide, by decide⟩ ?_
            refine rd_iload_n C dX10_comes_170 rfl ?_
            refine rd_iast C rd_ai18 dX10_comes_171 rd_c1 rd_m1 ⟨by omega, by omega⟩ ?_
            refine rd_aload_n C dX10_comes_172 rfl ?_
            refine rd_get C rd_g10_0 rf_X10_7 dX10_comes_173 rd_c0 rd_m0 (x := rd_R (1)) rfl (fun _ => trivial) ?_
            refine rd_bipush C dX10_comes_176 (n := 33) (by decide) ⟨by decide, by decide⟩ ?_
            refine rd_iconst C dX10_comes_178 (n := 0) ⟨by decide, by decide⟩ ?_
            refine rd_iast C rd_ai18 dX10_comes_179 rd_c1 rd_m1 ⟨by omega, by omega⟩ ?_
            exact rd_vret C dX10_comes_180 ⟨rfl, by unfold mo_cm; rw [if_neg h40]; rfl⟩
          · exfalso; omega
        · refine rd_aload_n C dX10_comes_22 rfl ?_
          refine rd_get C rd_g10_0 rf_X10_7 dX10_comes_23 rd_c0 rd_m0 (x := rd_R (1)) rfl (fun _ => trivial) ?_
          refine rd_bipush C dX10_comes_26 (n := 36) (by decide) ⟨by decide, by decide⟩ ?_
          refine rd_iload C dX10_comes_28 rfl ?_
          refine rd_iadd C dX10_comes_30 (z := 36 + k) rfl ⟨by omega, by omega⟩ ?_
          refine rd_aload_n C dX10_comes_31 rfl ?_
          refine rd_get C rd_g10_0 rf_X10_7 dX10_comes_32 rd_c0 rd_m0 (x := rd_R (1)) rfl (fun _ => trivial) ?_
          refine rd_bipush C dX10_comes_35 (n := 36) (by decide) ⟨by decide, by decide⟩ ?_
          refine rd_iload C dX10_comes_37 rfl ?_
          refine rd_iadd C dX10_comes_39 (z := 36 + k) rfl ⟨by omega, by omega⟩ ?_
          refine rd_iconst C dX10_comes_40 (n := 3) ⟨by decide, by decide⟩ ?_
          refine rd_iadd C dX10_comes_41 (z := 36 + k + 3) rfl ⟨by omega, by omega⟩ ?_
          refine rd_ialdx C rd_ai18 dX10_comes_42 rd_c1 rd_m1 ⟨by omega, by omega⟩ (z := μ1 1 (36 + k + 3)) rfl ?_
          refine rd_iast C rd_ai18 dX10_comes_43 rd_c1 rd_m1 ⟨by omega, by omega⟩ ?_
          refine rd_iinc C dX10_comes_44 (by decide) rfl ⟨by omega, by omega⟩ (L' := [rd_R 0, rd_I x, rd_I s0, rd_I k0, rd_I (k + 1)]) rfl ?_
          refine rd_goto C dX10_comes_47 (tgt := 3) (by decide) ?_
          exact ih (k + 1) _ (by omega) (by omega) (by omega) (fun h => absurd (h35k.symm.trans h_19) h) (by rw [hm]; funext a b; simp only [rd_u, mo_sh]; grind)
  exact lp3 118 0 _ (by omega) (by omega) (by omega) (fun _ => rfl) (by funext a b; unfold mo_sh; rw [if_neg (by omega)])
noncomputable def mo_fw (μ : rd_Mem) : rd_Mem := if μ 1 31 < mo_FS μ (μ 1 30) then mo_cm μ (μ 1 30) (μ 1 31 + 1) (μ 1 34) else mo_cm μ (mo_nx μ (mo_pl μ (μ 1 30) + 1)) 0 0
theorem mo_z_ne {x : Int} (h : x ≠ -1) : mo_z x = x := by unfold mo_z; rw [if_neg h]
set_option maxHeartbeats 4000000 in
set_option maxRecDepth 100000 in
theorem c_X10_forwards {l : Launch} {G : rd_G} {r : Nat} {μ : rd_Mem} (hc : mo_cn μ) (ha : mo_at μ (μ 1 30)) (ht : 0 ≤ μ 1 35 ∧ μ 1 35 ≤ 40) (hs : 0 ≤ μ 1 31 ∧ μ 1 31 ≤ 9) (hf : mo_cf μ) : rd_M l G rd_km 5 r yX10_forwards cX10_forwards 1 (some .int) (rd_rm 4 86) [rd_R 0] μ (fun v μ' => v = some (rd_I (mo_fw μ 1 31)) ∧ μ' = mo_fw μ) := by
  refine rd_enter (by decide +kernel) (Nat.le_of_ble_eq_true rfl) [rd_R 0] rfl (fun p e s m args below meth c C => ?_)
  refine rd_W.rng (fun hM hL _ => ?_)
  have hr := mo_FS_r ha.2.1
  refine rd_aload_n C dX10_forwards_0 rfl ?_
  refine rd_get C rd_g10_0 rf_X10_7 dX10_forwards_1 rd_c0 rd_m0 (x := rd_R (1)) rfl (fun _ => trivial) ?_
  refine rd_bipush C dX10_forwards_4 (n := 31) (by decide) ⟨by decide, by decide⟩ ?_
  refine rd_ialdx C rd_ai18 dX10_forwards_6 rd_c1 rd_m1 ⟨by omega, by omega⟩ (z := μ 1 31) rfl ?_
  refine rd_aload_n C dX10_forwards_7 rfl ?_
  refine rd_aload_n C dX10_forwards_8 rfl ?_
  refine rd_get C rd_g10_0 rf_X10_7 dX10_forwards_9 rd_c0 rd_m0 (x := rd_R (1)) rfl (fun _ => trivial) ?_
  refine rd_bipush C dX10_forwards_12 (n := 30) (by decide) ⟨by decide, by decide⟩ ?_
  refine rd_ialdx C rd_ai18 dX10_forwards_14 rd_c1 rd_m1 ⟨by omega, by omega⟩ (z := μ 1 30) rfl ?_
  refine rd_callV C (c_X10_finalStep ha.1 ha.2.1) rm_X10_48 ri_X10_finalStep rs_X10_finalStep rc_X10_finalStep rz_X10 ⟨rp_X10_finalStep, rfl, rfl, by decide, by decide⟩ rfl rd_kcl10 dX10_forwards_15 rd_c0 rd_m0 rfl (Nat.le_of_ble_eq_true rfl) (fun v1 w1 hq => ?_)
  obtain ⟨hv1, hm1⟩ := hq; rw [show v1 = some (rd_I (mo_FS μ (μ 1 30))) from hv1, hm1]; clear hv1 hm1
  refine rd_icmp_ge C dX10_forwards_18 (tgt := 51) (by decide) (fun h_18 => ?_) (fun h_18 => ?_)
  · have h_18n : ¬ μ 1 31 < mo_FS μ (μ 1 30) := by omega
    refine rd_aload_n C dX10_forwards_51 rfl ?_
    refine rd_aload_n C dX10_forwards_52 rfl ?_
    refine rd_aload_n C dX10_forwards_53 rfl ?_
    refine rd_get C rd_g10_0 rf_X10_7 dX10_forwards_54 rd_c0 rd_m0 (x := rd_R (1)) rfl (fun _ => trivial) ?_
    refine rd_bipush C dX10_forwards_57 (n := 30) (by decide) ⟨by decide, by decide⟩ ?_
    refine rd_ialdx C rd_ai18 dX10_forwards_59 rd_c1 rd_m1 ⟨by omega, by omega⟩ (z := μ 1 30) rfl ?_
    refine rd_callV C (c_X10_nextOf hc ha.2.2) rm_X10_51 ri_X10_nextOf rs_X10_nextOf rc_X10_nextOf rz_X10 ⟨rp_X10_nextOf, rfl, rfl, by decide, by decide⟩ rfl rd_kcl10 dX10_forwards_60 rd_c0 rd_m0 rfl (Nat.le_of_ble_eq_true rfl) (fun v1 w1 hq => ?_)
    obtain ⟨hv1, hm1⟩ := hq; rw [hv1, hm1, mo_z_ne (hf.resolve_left h_18n)]; clear hv1 hm1 v1 w1
    refine rd_iconst C dX10_forwards_63 (n := 0) ⟨by decide, by decide⟩ ?_
    refine rd_iconst C dX10_forwards_64 (n := 0) ⟨by decide, by decide⟩ ?_
    refine rd_callV C (c_X10_comes ht.1 ht.2) rm_X10_54 ri_X10_comes rs_X10_comes rc_X10_comes rz_X10 ⟨rp_X10_comes, rfl, rfl, by decide, by decide⟩ rfl rd_kcl10 dX10_forwards_65 rd_c0 rd_m0 rfl (Nat.le_of_ble_eq_true rfl) (fun v1 w1 hq => ?_)
    obtain ⟨hv1, hm1⟩ := hq; rw [hv1, show w1 = mo_cm μ (mo_nx μ (mo_pl μ (μ 1 30) + 1)) 0 0 from hm1]; clear hv1 hm1
    have hfw : mo_fw μ = mo_cm μ (mo_nx μ (mo_pl μ (μ 1 30) + 1)) 0 0 := by unfold mo_fw; rw [if_neg (by omega)]
    refine rd_aload_n C dX10_forwards_68 rfl ?_
    refine rd_get C rd_g10_0 rf_X10_7 dX10_forwards_69 rd_c0 rd_m0 (x := rd_R (1)) rfl (fun _ => trivial) ?_
    refine rd_bipush C dX10_forwards_72 (n := 31) (by decide) ⟨by decide, by decide⟩ ?_
    refine rd_ialdx C rd_ai18 dX10_forwards_74 rd_c1 rd_m1 ⟨by omega, by omega⟩ (z := (mo_cm μ (mo_nx μ (mo_pl μ (μ 1 30) + 1)) 0 0) 1 31) rfl ?_
    exact rd_iret C dX10_forwards_75 ⟨by rw [hfw], hfw.symm⟩
  · refine rd_aload_n C dX10_forwards_21 rfl ?_
    refine rd_aload_n C dX10_forwards_22 rfl ?_
    refine rd_get C rd_g10_0 rf_X10_7 dX10_forwards_23 rd_c0 rd_m0 (x := rd_R (1)) rfl (fun _ => trivial) ?_
    refine rd_bipush C dX10_forwards_26 (n := 30) (by decide) ⟨by decide, by decide⟩ ?_
    refine rd_ialdx C rd_ai18 dX10_forwards_28 rd_c1 rd_m1 ⟨by omega, by omega⟩ (z := μ 1 30) rfl ?_
    refine rd_aload_n C dX10_forwards_29 rfl ?_
    refine rd_get C rd_g10_0 rf_X10_7 dX10_forwards_30 rd_c0 rd_m0 (x := rd_R (1)) rfl (fun _ => trivial) ?_
    refine rd_bipush C dX10_forwards_33 (n := 31) (by decide) ⟨by decide, by decide⟩ ?_
    refine rd_ialdx C rd_ai18 dX10_forwards_35 rd_c1 rd_m1 ⟨by omega, by omega⟩ (z := μ 1 31) rfl ?_
    refine rd_iconst C dX10_forwards_36 (n := 1) ⟨by decide, by decide⟩ ?_
    refine rd_iadd C dX10_forwards_37 (z := μ 1 31 + 1) rfl ⟨by omega, by omega⟩ ?_
    refine rd_aload_n C dX10_forwards_38 rfl ?_
    refine rd_get C rd_g10_0 rf_X10_7 dX10_forwards_39 rd_c0 rd_m0 (x := rd_R (1)) rfl (fun _ => trivial) ?_
    refine rd_bipush C dX10_forwards_42 (n := 34) (by decide) ⟨by decide, by decide⟩ ?_
    refine rd_ialdx C rd_ai18 dX10_forwards_44 rd_c1 rd_m1 ⟨by omega, by omega⟩ (z := μ 1 34) rfl ?_
    refine rd_callV C (c_X10_comes ht.1 ht.2) rm_X10_54 ri_X10_comes rs_X10_comes rc_X10_comes rz_X10 ⟨rp_X10_comes, rfl, rfl, by decide, by decide⟩ rfl rd_kcl10 dX10_forwards_45 rd_c0 rd_m0 rfl (Nat.le_of_ble_eq_true rfl) (fun v1 w1 hq => ?_)
    obtain ⟨hv1, hm1⟩ := hq; rw [hv1, show w1 = mo_cm μ (μ 1 30) (μ 1 31 + 1) (μ 1 34) from hm1]; clear hv1 hm1
    refine rd_goto C dX10_forwards_48 (tgt := 68) (by decide) ?_
    have hfw : mo_fw μ = mo_cm μ (μ 1 30) (μ 1 31 + 1) (μ 1 34) := by unfold mo_fw; rw [if_pos (by omega)]
    refine rd_aload_n C dX10_forwards_68 rfl ?_
    refine rd_get C rd_g10_0 rf_X10_7 dX10_forwards_69 rd_c0 rd_m0 (x := rd_R (1)) rfl (fun _ => trivial) ?_
    refine rd_bipush C dX10_forwards_72 (n := 31) (by decide) ⟨by decide, by decide⟩ ?_
    refine rd_ialdx C rd_ai18 dX10_forwards_74 rd_c1 rd_m1 ⟨by omega, by omega⟩ (z := (mo_cm μ (μ 1 30) (μ 1 31 + 1) (μ 1 34)) 1 31) rfl ?_
    exact rd_iret C dX10_forwards_75 ⟨by rw [hfw], hfw.symm⟩
def mo_bpp (μ : rd_Mem) (k : Int) : Prop := mo_t μ (μ 1 (36 + 3 * k)) ∧ (mo_o μ (μ 1 (36 + 3 * k)) 1 = 0 ∨ μ 1 (36 + 3 * k + 2) = 1)
noncomputable def mo_bp (μ : rd_Mem) : Int := sp_fb (mo_bpp μ) (μ 1 35).toNat
noncomputable def mo_bk (μ : rd_Mem) : rd_Mem := rd_u (rd_u (rd_u (rd_u (rd_u μ 1 35 (mo_bp μ)) 1 30 (μ 1 (36 + 3 * mo_bp μ))) 1 31 (if μ 1 (36 + 3 * mo_bp μ + 1) < mo_FS μ (μ 1 (36 + 3 * mo_bp μ)) then μ 1 (36 + 3 * mo_bp μ + 1) else mo_FS μ (μ 1 (36 + 3 * mo_bp μ)))) 1 34 (μ 1 (36 + 3 * mo_bp μ + 2))) 1 33 0
theorem mo_bp_r {μ : rd_Mem} (h : mo_bp μ ≠ -1) (h5 : 0 ≤ μ 1 35) : (0 ≤ mo_bp μ ∧ mo_bp μ < μ 1 35) ∧ mo_bpp μ (mo_bp μ) := by
  unfold mo_bp at h ⊢
  rcases sp_fb_spec (mo_bpp μ) (μ 1 35).toNat with ⟨h1, -⟩ | ⟨h1, h2, -⟩
  · exact absurd h1 h
  · exact ⟨by omega, h2⟩
theorem mo_FS_c {μ ν : rd_Mem} (h : ∀ j : Int, 156 ≤ j → j < 476 → ν 1 j = μ 1 j) {n : Int} (h0 : 0 ≤ n) (h9 : n ≤ 9) (h3 : mo_o μ n 3 ≤ 6) : mo_FS ν n = mo_FS μ n := by
  have e3 : mo_o ν n 3 = mo_o μ n 3 := h _ (by omega) (by omega)
  unfold mo_FS
  rw [e3]
  exact sp_fs_c (fun k hk => ⟨h _ (by omega) (by omega), h _ (by omega) (by omega)⟩)
set_option maxHeartbeats 4000000 in
set_option maxRecDepth 100000 in
theorem c_X10_backPlace {l : Launch} {G : rd_G} {r : Nat} {μ : rd_Mem} (h0 : 0 ≤ μ 1 35) (h40 : μ 1 35 ≤ 40) : rd_M l G rd_km 5 r yX10_backPlace cX10_backPlace 3 (some .int) (rd_rm 2 43) [rd_R 0] μ (fun v μ' => v = some (rd_I (mo_z (mo_bp μ))) ∧ μ' = μ) := by
  refine rd_enter (by decide +kernel) (Nat.le_of_ble_eq_true rfl) [rd_R 0, rd_J, rd_J] rfl (fun p e s m args below meth c C => ?_)
  refine rd_W.rng (fun hM hL _ => ?_)
  refine rd_aload_n C dX10_backPlace_0 rfl ?_
  refine rd_get C rd_g10_0 rf_X10_7 dX10_backPlace_1 rd_c0 rd_m0 (x := rd_R (1)) rfl (fun _ => trivial) ?_
  refine rd_bipush C dX10_backPlace_4 (n := 35) (by decide) ⟨by decide, by decide⟩ ?_
  refine rd_ialdx C rd_ai18 dX10_backPlace_6 rd_c1 rd_m1 ⟨by omega, by omega⟩ (z := μ 1 35) rfl ?_
  refine rd_iconst C dX10_backPlace_7 (n := 1) ⟨by decide, by decide⟩ ?_
  refine rd_isub C dX10_backPlace_8 (z := μ 1 35 - 1) rfl ⟨by omega, by omega⟩ ?_
  refine rd_istore_n C dX10_backPlace_9 (by decide) (L' := [rd_R 0, rd_I (μ 1 35 - 1), rd_J]) rfl ?_
  have lp10 : ∀ (n : Nat) (n' : Nat) (k : Int) (j2 : rd_X), (n' < n) → (k + 1 = (n' : Int)) → (k < μ 1 35) → (sp_fb (mo_bpp μ) n' = mo_bp μ) → rd_W p l e (rd_rm 2 43) s m args below meth c (MQ below (rd_Qc G rd_km 5 r (fun v μ' => v = some (rd_I (mo_z (mo_bp μ))) ∧ μ' = μ)) args s 0 0 (rd_A r 5)) 3 G rd_km 5 r 10 [rd_R 0, rd_I k, j2] [] μ := by
    intro n
    induction n with
    | zero => intro n' k j2  h1 h2 h3 hF; exfalso; omega
    | succ n ih =>
      intro n' k j2  h1 h2 h3 hF
      refine rd_iload_n C dX10_backPlace_10 rfl ?_
      refine rd_if_lt C dX10_backPlace_11 (tgt := 67) (by decide) (fun h_11 => ?_) (fun h_11 => ?_)
      · refine rd_bipush C dX10_backPlace_67 (n := -6) (by decide) ⟨by decide, by decide⟩ ?_
        exact rd_iret C dX10_backPlace_69 ⟨by rw [← hF, show n' = 0 by omega]; rfl, rfl⟩
      · refine rd_aload_n C dX10_backPlace_14 rfl ?_
        refine rd_get C rd_g10_0 rf_X10_7 dX10_backPlace_15 rd_c0 rd_m0 (x := rd_R (1)) rfl (fun _ => trivial) ?_
        refine rd_bipush C dX10_backPlace_18 (n := 36) (by decide) ⟨by decide, by decide⟩ ?_
        refine rd_iconst C dX10_backPlace_20 (n := 3) ⟨by decide, by decide⟩ ?_
        refine rd_iload_n C dX10_backPlace_21 rfl ?_
        refine rd_imul C dX10_backPlace_22 (z := 3 * k) rfl ⟨by omega, by omega⟩ ?_
        refine rd_iadd C dX10_backPlace_23 (z := 36 + 3 * k) rfl ⟨by omega, by omega⟩ ?_
        refine rd_ialdx C rd_ai18 dX10_backPlace_24 rd_c1 rd_m1 ⟨by omega, by omega⟩ (z := μ 1 (36 + 3 * k)) rfl ?_
        refine rd_istore_n C dX10_backPlace_25 (by decide) (L' := [rd_R 0, rd_I k, rd_I (μ 1 (36 + 3 * k))]) rfl ?_
        refine rd_aload_n C dX10_backPlace_26 rfl ?_
        refine rd_iload_n C dX10_backPlace_27 rfl ?_
        refine rd_callV C (c_X10_isSlide) rm_X10_30 ri_X10_isSlide rs_X10_isSlide rc_X10_isSlide rz_X10 ⟨rp_X10_isSlide, rfl, rfl, by decide, by decide⟩ rfl rd_kcl10 dX10_backPlace_28 rd_c0 rd_m0 rfl (Nat.le_of_ble_eq_true rfl) (fun v1 w1 hq => ?_)
        rcases hq with ⟨hw_31, hv1, hm1⟩ | ⟨hw_31, hv1, hm1⟩
        · rw [hv1, hm1]; clear hv1 hm1 v1 w1
          refine rd_if_eq C dX10_backPlace_31 (tgt := 61) (by decide) (fun h => absurd h (by decide)) (fun _ => ?_)
          refine rd_aload_n C dX10_backPlace_34 rfl ?_
          refine rd_iload_n C dX10_backPlace_35 rfl ?_
          refine rd_callV C (c_X10_isShown hw_31.1) rm_X10_34 ri_X10_isShown rs_X10_isShown rc_X10_isShown rz_X10 ⟨rp_X10_isShown, rfl, rfl, by decide, by decide⟩ rfl rd_kcl10 dX10_backPlace_36 rd_c0 rd_m0 rfl (Nat.le_of_ble_eq_true rfl) (fun v1 w1 hq => ?_)
          rcases hq with ⟨hw_39, hv1, hm1⟩ | ⟨hw_39, hv1, hm1⟩
          · rw [hv1, hm1]; clear hv1 hm1 v1 w1
            refine rd_if_ne C dX10_backPlace_39 (tgt := 59) (by decide) (fun _ => ?_) (fun h => absurd h (by decide))
            refine rd_iload_n C dX10_backPlace_59 rfl ?_
            exact rd_iret C dX10_backPlace_60 ⟨by rw [← hF, sp_fb_y (n := n') (by omega) h2 ⟨hw_31, by first | exact Or.inl (by assumption) | exact Or.inr (by assumption)⟩, mo_z_ne (by omega)], rfl⟩
          · rw [hv1, hm1]; clear hv1 hm1 v1 w1
            refine rd_if_ne C dX10_backPlace_39 (tgt := 59) (by decide) (fun h => absurd h (by decide)) (fun _ => ?_)
            refine rd_aload_n C dX10_backPlace_42 rfl ?_
            refine rd_get C rd_g10_0 rf_X10_7 dX10_backPlace_43 rd_c0 rd_m0 (x := rd_R (1)) rfl (fun _ => trivial) ?_
            refine rd_bipush C dX10_backPlace_46 (n := 36) (by decide) ⟨by decide, by decide⟩ ?_
            refine rd_iconst C dX10_backPlace_48 (n := 3) ⟨by decide, by decide⟩ ?_
            refine rd_iload_n C dX10_backPlace_49 rfl ?_
            refine rd_imul C dX10_backPlace_50 (z := 3 * k) rfl ⟨by omega, by omega⟩ ?_
            refine rd_iadd C dX10_backPlace_51 (z := 36 + 3 * k) rfl ⟨by omega, by omega⟩ ?_
            refine rd_iconst C dX10_backPlace_52 (n := 2) ⟨by decide, by decide⟩ ?_
            refine rd_iadd C dX10_backPlace_53 (z := 36 + 3 * k + 2) rfl ⟨by omega, by omega⟩ ?_
            refine rd_ialdx C rd_ai18 dX10_backPlace_54 rd_c1 rd_m1 ⟨by omega, by omega⟩ (z := μ 1 (36 + 3 * k + 2)) rfl ?_
            refine rd_iconst C dX10_backPlace_55 (n := 1) ⟨by decide, by decide⟩ ?_
            refine rd_icmp_ne C dX10_backPlace_56 (tgt := 61) (by decide) (fun h_56 => ?_) (fun h_56 => ?_)
            · refine rd_iinc C dX10_backPlace_61 (by decide) rfl ⟨by omega, by omega⟩ (L' := [rd_R 0, rd_I (k + (-1)), rd_I (μ 1 (36 + 3 * k))]) rfl ?_
              refine rd_goto C dX10_backPlace_64 (tgt := 10) (by decide) ?_
              exact ih (n' - 1) (k + -1) _ (by omega) (by omega) (by omega) (by rw [← hF, sp_fb_n (n := n') (by omega) h2 (fun h => by first | exact hw_31 h.1 | exact h.2.elim hw_39 h_56)])
            · refine rd_iload_n C dX10_backPlace_59 rfl ?_
              exact rd_iret C dX10_backPlace_60 ⟨by rw [← hF, sp_fb_y (n := n') (by omega) h2 ⟨hw_31, by first | exact Or.inl (by assumption) | exact Or.inr (by assumption)⟩, mo_z_ne (by omega)], rfl⟩
        · rw [hv1, hm1]; clear hv1 hm1 v1 w1
          refine rd_if_eq C dX10_backPlace_31 (tgt := 61) (by decide) (fun _ => ?_) (fun h => absurd h (by decide))
          refine rd_iinc C dX10_backPlace_61 (by decide) rfl ⟨by omega, by omega⟩ (L' := [rd_R 0, rd_I (k + (-1)), rd_I (μ 1 (36 + 3 * k))]) rfl ?_
          refine rd_goto C dX10_backPlace_64 (tgt := 10) (by decide) ?_
          exact ih (n' - 1) (k + -1) _ (by omega) (by omega) (by omega) (by rw [← hF, sp_fb_n (n := n') (by omega) h2 (fun h => by first | exact hw_31 h.1 | exact h.2.elim hw_39 h_56)])
  exact lp10 ((μ 1 35).toNat + 1) (μ 1 35).toNat (μ 1 35 - 1) rd_J (by omega) (by omega) (by omega) rfl
theorem mo_it_c {μ ν : rd_Mem} (h : ∀ j : Int, 156 ≤ j → j < 476 → ν 1 j = μ 1 j) {n : Int} (h0 : 0 ≤ n) (h9 : n ≤ 9) (hi : mo_it μ n) : mo_it ν n := by
  obtain ⟨h1, h2⟩ := hi
  have e3 : mo_o ν n 3 = mo_o μ n 3 := h _ (by omega) (by omega)
  refine ⟨by rw [e3]; exact h1, fun q q0 q1 => ?_⟩
  rw [e3] at q1
  have e4 : mo_o ν n (4 + 3 * q) = mo_o μ n (4 + 3 * q) := h _ (by omega) (by omega)
  have e5 : mo_o ν n (4 + 3 * q + 1) = mo_o μ n (4 + 3 * q + 1) := h _ (by omega) (by omega)
  rw [e4, e5]
  exact h2 q q0 q1
set_option maxHeartbeats 4000000 in
set_option maxRecDepth 100000 in
theorem c_X10_backs {l : Launch} {G : rd_G} {r : Nat} {μ : rd_Mem} (ht : 0 ≤ μ 1 35 ∧ μ 1 35 ≤ 40) (hb : mo_bp μ ≠ -1) (hib0 : ∀ n, mo_t μ n → mo_it μ n) : rd_M l G rd_km 5 r yX10_backs cX10_backs 3 (some .int) (rd_rm 3 65) [rd_R 0] μ (fun v μ' => v = some (rd_I (mo_bk μ 1 31)) ∧ μ' = mo_bk μ) := by
  refine rd_enter (by decide +kernel) (Nat.le_of_ble_eq_true rfl) [rd_R 0, rd_J, rd_J] rfl (fun p e s m args below meth c C => ?_)
  refine rd_W.rng (fun hM hL _ => ?_)
  obtain ⟨⟨hb0, hb1⟩, hb3⟩ := mo_bp_r hb ht.1
  have hib := hib0 _ hb3.1
  have hbr := hb3.1.1
  refine rd_aload_n C dX10_backs_0 rfl ?_
  refine rd_callV C (c_X10_backPlace ht.1 ht.2) rm_X10_58 ri_X10_backPlace rs_X10_backPlace rc_X10_backPlace rz_X10 ⟨rp_X10_backPlace, rfl, rfl, by decide, by decide⟩ rfl rd_kcl10 dX10_backs_1 rd_c0 rd_m0 rfl (Nat.le_of_ble_eq_true rfl) (fun v1 w1 hq => ?_)
  obtain ⟨hv1, hm1⟩ := hq; rw [hv1, hm1, mo_z_ne hb]; clear hv1 hm1 v1 w1
  refine rd_istore_n C dX10_backs_4 (by decide) (L' := [rd_R 0, rd_I (mo_bp μ), rd_J]) rfl ?_
  refine rd_bipush C dX10_backs_5 (n := 36) (by decide) ⟨by decide, by decide⟩ ?_
  refine rd_iconst C dX10_backs_7 (n := 3) ⟨by decide, by decide⟩ ?_
  refine rd_iload_n C dX10_backs_8 rfl ?_
  refine rd_imul C dX10_backs_9 (z := 3 * (mo_bp μ)) rfl ⟨by omega, by omega⟩ ?_
  refine rd_iadd C dX10_backs_10 (z := 36 + 3 * (mo_bp μ)) rfl ⟨by omega, by omega⟩ ?_
  refine rd_istore_n C dX10_backs_11 (by decide) (L' := [rd_R 0, rd_I (mo_bp μ), rd_I (36 + 3 * (mo_bp μ))]) rfl ?_
  refine rd_aload_n C dX10_backs_12 rfl ?_
  refine rd_get C rd_g10_0 rf_X10_7 dX10_backs_13 rd_c0 rd_m0 (x := rd_R (1)) rfl (fun _ => trivial) ?_
  refine rd_bipush C dX10_backs_16 (n := 35) (by decide) ⟨by decide, by decide⟩ ?_
  refine rd_iload_n C dX10_backs_18 rfl ?_
  refine rd_iast C rd_ai18 dX10_backs_19 rd_c1 rd_m1 ⟨by omega, by omega⟩ ?_
  refine rd_aload_n C dX10_backs_20 rfl ?_
  refine rd_get C rd_g10_0 rf_X10_7 dX10_backs_21 rd_c0 rd_m0 (x := rd_R (1)) rfl (fun _ => trivial) ?_
  refine rd_bipush C dX10_backs_24 (n := 30) (by decide) ⟨by decide, by decide⟩ ?_
  refine rd_aload_n C dX10_backs_26 rfl ?_
  refine rd_get C rd_g10_0 rf_X10_7 dX10_backs_27 rd_c0 rd_m0 (x := rd_R (1)) rfl (fun _ => trivial) ?_
  refine rd_iload_n C dX10_backs_30 rfl ?_
  refine rd_ialdx C rd_ai18 dX10_backs_31 rd_c1 rd_m1 ⟨by omega, by omega⟩ (z := μ 1 (36 + 3 * (mo_bp μ))) (by rw [rd_u_j _ _ _ (by omega)]) ?_
  refine rd_iast C rd_ai18 dX10_backs_32 rd_c1 rd_m1 ⟨by omega, by omega⟩ ?_
  refine rd_aload_n C dX10_backs_33 rfl ?_
  refine rd_get C rd_g10_0 rf_X10_7 dX10_backs_34 rd_c0 rd_m0 (x := rd_R (1)) rfl (fun _ => trivial) ?_
  refine rd_bipush C dX10_backs_37 (n := 31) (by decide) ⟨by decide, by decide⟩ ?_
  refine rd_aload_n C dX10_backs_39 rfl ?_
  refine rd_get C rd_g10_0 rf_X10_7 dX10_backs_40 rd_c0 rd_m0 (x := rd_R (1)) rfl (fun _ => trivial) ?_
  refine rd_iload_n C dX10_backs_43 rfl ?_
  refine rd_iconst C dX10_backs_44 (n := 1) ⟨by decide, by decide⟩ ?_
  refine rd_iadd C dX10_backs_45 (z := 36 + 3 * (mo_bp μ) + 1) rfl ⟨by omega, by omega⟩ ?_
  refine rd_ialdx C rd_ai18 dX10_backs_46 rd_c1 rd_m1 ⟨by omega, by omega⟩ (z := μ 1 (36 + 3 * (mo_bp μ) + 1)) (by rw [rd_u_j _ _ _ (by omega), rd_u_j _ _ _ (by omega)]) ?_
  refine rd_aload_n C dX10_backs_47 rfl ?_
  have hlo : ∀ j : Int, 156 ≤ j → j < 476 → (rd_u (rd_u μ 1 35 (mo_bp μ)) 1 30 (μ 1 (36 + 3 * mo_bp μ))) 1 j = μ 1 j := fun j h1 h2 => by rw [rd_u_j _ _ _ (by omega), rd_u_j _ _ _ (by omega)]
  have hfsb : mo_FS (rd_u (rd_u μ 1 35 (mo_bp μ)) 1 30 (μ 1 (36 + 3 * mo_bp μ))) (μ 1 (36 + 3 * mo_bp μ)) = mo_FS μ (μ 1 (36 + 3 * mo_bp μ)) := mo_FS_c hlo hb3.1.1.1 hb3.1.1.2 hib.1.2
  have hitb : mo_it (rd_u (rd_u μ 1 35 (mo_bp μ)) 1 30 (μ 1 (36 + 3 * mo_bp μ))) (μ 1 (36 + 3 * mo_bp μ)) := mo_it_c hlo hb3.1.1.1 hb3.1.1.2 hib
  refine rd_aload_n C dX10_backs_48 rfl ?_
  refine rd_get C rd_g10_0 rf_X10_7 dX10_backs_49 rd_c0 rd_m0 (x := rd_R (1)) rfl (fun _ => trivial) ?_
  refine rd_iload_n C dX10_backs_52 rfl ?_
  refine rd_ialdx C rd_ai18 dX10_backs_53 rd_c1 rd_m1 ⟨by omega, by omega⟩ (z := μ 1 (36 + 3 * (mo_bp μ))) (by rw [rd_u_j _ _ _ (by omega), rd_u_j _ _ _ (by omega)]) ?_
  refine rd_callV C (c_X10_finalStep (μ := rd_u (rd_u μ 1 35 (mo_bp μ)) 1 30 (μ 1 (36 + 3 * mo_bp μ))) hb3.1.1 hitb) rm_X10_48 ri_X10_finalStep rs_X10_finalStep rc_X10_finalStep rz_X10 ⟨rp_X10_finalStep, rfl, rfl, by decide, by decide⟩ rfl rd_kcl10 dX10_backs_54 rd_c0 rd_m0 rfl (Nat.le_of_ble_eq_true rfl) (fun v1 w1 hq => ?_)
  obtain ⟨hv1, hm1⟩ := hq; rw [hv1, hm1, hfsb]; clear hv1 hm1 v1 w1
  refine rd_icmp_ge C dX10_backs_57 (tgt := 71) (by decide) (fun h_57 => ?_) (fun h_57 => ?_)
  · refine rd_aload_n C dX10_backs_71 rfl ?_
    refine rd_aload_n C dX10_backs_72 rfl ?_
    refine rd_get C rd_g10_0 rf_X10_7 dX10_backs_73 rd_c0 rd_m0 (x := rd_R (1)) rfl (fun _ => trivial) ?_
    refine rd_iload_n C dX10_backs_76 rfl ?_
    refine rd_ialdx C rd_ai18 dX10_backs_77 rd_c1 rd_m1 ⟨by omega, by omega⟩ (z := μ 1 (36 + 3 * (mo_bp μ))) (by rw [rd_u_j _ _ _ (by omega), rd_u_j _ _ _ (by omega)]) ?_
    refine rd_callV C (c_X10_finalStep (μ := rd_u (rd_u μ 1 35 (mo_bp μ)) 1 30 (μ 1 (36 + 3 * mo_bp μ))) hb3.1.1 hitb) rm_X10_48 ri_X10_finalStep rs_X10_finalStep rc_X10_finalStep rz_X10 ⟨rp_X10_finalStep, rfl, rfl, by decide, by decide⟩ rfl rd_kcl10 dX10_backs_78 rd_c0 rd_m0 rfl (Nat.le_of_ble_eq_true rfl) (fun v1 w1 hq => ?_)
    obtain ⟨hv1, hm1⟩ := hq; rw [hv1, hm1, hfsb]; clear hv1 hm1 v1 w1
    have h_57n : ¬ μ 1 (36 + 3 * mo_bp μ + 1) < mo_FS μ (μ 1 (36 + 3 * mo_bp μ)) := by omega
    refine rd_iast C rd_ai18 dX10_backs_81 rd_c1 rd_m1 ⟨by omega, by omega⟩ ?_
    refine rd_aload_n C dX10_backs_82 rfl ?_
    refine rd_get C rd_g10_0 rf_X10_7 dX10_backs_83 rd_c0 rd_m0 (x := rd_R (1)) rfl (fun _ => trivial) ?_
    refine rd_bipush C dX10_backs_86 (n := 34) (by decide) ⟨by decide, by decide⟩ ?_
    refine rd_aload_n C dX10_backs_88 rfl ?_
    refine rd_get C rd_g10_0 rf_X10_7 dX10_backs_89 rd_c0 rd_m0 (x := rd_R (1)) rfl (fun _ => trivial) ?_
    refine rd_iload_n C dX10_backs_92 rfl ?_
    refine rd_iconst C dX10_backs_93 (n := 2) ⟨by decide, by decide⟩ ?_
    refine rd_iadd C dX10_backs_94 (z := 36 + 3 * (mo_bp μ) + 2) rfl ⟨by omega, by omega⟩ ?_
    refine rd_ialdx C rd_ai18 dX10_backs_95 rd_c1 rd_m1 ⟨by omega, by omega⟩ (z := μ 1 (36 + 3 * (mo_bp μ) + 2)) (by rw [rd_u_j _ _ _ (by omega), rd_u_j _ _ _ (by omega), rd_u_j _ _ _ (by omega)]) ?_
    refine rd_iast C rd_ai18 dX10_backs_96 rd_c1 rd_m1 ⟨by omega, by omega⟩ ?_
    refine rd_aload_n C dX10_backs_97 rfl ?_
    refine rd_get C rd_g10_0 rf_X10_7 dX10_backs_98 rd_c0 rd_m0 (x := rd_R (1)) rfl (fun _ => trivial) ?_
    refine rd_bipush C dX10_backs_101 (n := 33) (by decide) ⟨by decide, by decide⟩ ?_
    refine rd_iconst C dX10_backs_103 (n := 0) ⟨by decide, by decide⟩ ?_
    refine rd_iast C rd_ai18 dX10_backs_104 rd_c1 rd_m1 ⟨by omega, by omega⟩ ?_
    refine rd_aload_n C dX10_backs_105 rfl ?_
    refine rd_get C rd_g10_0 rf_X10_7 dX10_backs_106 rd_c0 rd_m0 (x := rd_R (1)) rfl (fun _ => trivial) ?_
    refine rd_bipush C dX10_backs_109 (n := 31) (by decide) ⟨by decide, by decide⟩ ?_
    refine rd_ialdx C rd_ai18 dX10_backs_111 rd_c1 rd_m1 ⟨by omega, by omega⟩ (z := mo_FS μ (μ 1 (36 + 3 * mo_bp μ))) (by rw [rd_u_j _ _ _ (by omega), rd_u_j _ _ _ (by omega), rd_u_s]) ?_
    exact rd_iret C dX10_backs_112 (by have hbk : mo_bk μ = rd_u (rd_u (rd_u (rd_u (rd_u μ 1 35 (mo_bp μ)) 1 30 (μ 1 (36 + 3 * (mo_bp μ)))) 1 31 (mo_FS μ (μ 1 (36 + 3 * mo_bp μ)))) 1 34 (μ 1 (36 + 3 * (mo_bp μ) + 2))) 1 33 0 := (by unfold mo_bk; rw [if_neg h_57n]); exact ⟨by rw [hbk]; simp [rd_u], hbk.symm⟩)
  · refine rd_aload_n C dX10_backs_60 rfl ?_
    refine rd_get C rd_g10_0 rf_X10_7 dX10_backs_61 rd_c0 rd_m0 (x := rd_R (1)) rfl (fun _ => trivial) ?_
    refine rd_iload_n C dX10_backs_64 rfl ?_
    refine rd_iconst C dX10_backs_65 (n := 1) ⟨by decide, by decide⟩ ?_
    refine rd_iadd C dX10_backs_66 (z := 36 + 3 * (mo_bp μ) + 1) rfl ⟨by omega, by omega⟩ ?_
    refine rd_ialdx C rd_ai18 dX10_backs_67 rd_c1 rd_m1 ⟨by omega, by omega⟩ (z := μ 1 (36 + 3 * (mo_bp μ) + 1)) (by rw [rd_u_j _ _ _ (by omega), rd_u_j _ _ _ (by omega)]) ?_
    refine rd_goto C dX10_backs_68 (tgt := 81) (by decide) ?_
    have h_57n : μ 1 (36 + 3 * mo_bp μ + 1) < mo_FS μ (μ 1 (36 + 3 * mo_bp μ)) := by omega
    refine rd_iast C rd_ai18 dX10_backs_81 rd_c1 rd_m1 ⟨by omega, by omega⟩ ?_
    refine rd_aload_n C dX10_backs_82 rfl ?_
    refine rd_get C rd_g10_0 rf_X10_7 dX10_backs_83 rd_c0 rd_m0 (x := rd_R (1)) rfl (fun _ => trivial) ?_
    refine rd_bipush C dX10_backs_86 (n := 34) (by decide) ⟨by decide, by decide⟩ ?_
    refine rd_aload_n C dX10_backs_88 rfl ?_
    refine rd_get C rd_g10_0 rf_X10_7 dX10_backs_89 rd_c0 rd_m0 (x := rd_R (1)) rfl (fun _ => trivial) ?_
    refine rd_iload_n C dX10_backs_92 rfl ?_
    refine rd_iconst C dX10_backs_93 (n := 2) ⟨by decide, by decide⟩ ?_
    refine rd_iadd C dX10_backs_94 (z := 36 + 3 * (mo_bp μ) + 2) rfl ⟨by omega, by omega⟩ ?_
    refine rd_ialdx C rd_ai18 dX10_backs_95 rd_c1 rd_m1 ⟨by omega, by omega⟩ (z := μ 1 (36 + 3 * (mo_bp μ) + 2)) (by rw [rd_u_j _ _ _ (by omega), rd_u_j _ _ _ (by omega), rd_u_j _ _ _ (by omega)]) ?_
    refine rd_iast C rd_ai18 dX10_backs_96 rd_c1 rd_m1 ⟨by omega, by omega⟩ ?_
    refine rd_aload_n C dX10_backs_97 rfl ?_
    refine rd_get C rd_g10_0 rf_X10_7 dX10_backs_98 rd_c0 rd_m0 (x := rd_R (1)) rfl (fun _ => trivial) ?_
    refine rd_bipush C dX10_backs_101 (n := 33) (by decide) ⟨by decide, by decide⟩ ?_
    refine rd_iconst C dX10_backs_103 (n := 0) ⟨by decide, by decide⟩ ?_
    refine rd_iast C rd_ai18 dX10_backs_104 rd_c1 rd_m1 ⟨by omega, by omega⟩ ?_
    refine rd_aload_n C dX10_backs_105 rfl ?_
    refine rd_get C rd_g10_0 rf_X10_7 dX10_backs_106 rd_c0 rd_m0 (x := rd_R (1)) rfl (fun _ => trivial) ?_
    refine rd_bipush C dX10_backs_109 (n := 31) (by decide) ⟨by decide, by decide⟩ ?_
    refine rd_ialdx C rd_ai18 dX10_backs_111 rd_c1 rd_m1 ⟨by omega, by omega⟩ (z := μ 1 (36 + 3 * (mo_bp μ) + 1)) (by rw [rd_u_j _ _ _ (by omega), rd_u_j _ _ _ (by omega), rd_u_s]) ?_
    exact rd_iret C dX10_backs_112 (by have hbk : mo_bk μ = rd_u (rd_u (rd_u (rd_u (rd_u μ 1 35 (mo_bp μ)) 1 30 (μ 1 (36 + 3 * (mo_bp μ)))) 1 31 (μ 1 (36 + 3 * (mo_bp μ) + 1))) 1 34 (μ 1 (36 + 3 * (mo_bp μ) + 2))) 1 33 0 := (by unfold mo_bk; rw [if_pos h_57n]); exact ⟨by rw [hbk]; simp [rd_u], hbk.symm⟩)
set_option maxHeartbeats 4000000 in
set_option maxRecDepth 100000 in
theorem c_X10_canPress {l : Launch} {G : rd_G} {r : Nat} {μ : rd_Mem} {k0 : Int} (ha : 0 ≤ μ 1 30 ∧ μ 1 30 ≤ 9) (hk : 0 ≤ k0 ∧ k0 ≤ 9) : rd_M l G rd_km 5 r yX10_canPress cX10_canPress 2 (some .boolean) (rd_rm 1 22) [rd_R 0, rd_I k0] μ (fun v μ' => (mo_o μ (μ 1 30) (22 + k0) ≠ -6 ∧ v = some (rd_I 1) ∧ μ' = μ) ∨ (mo_o μ (μ 1 30) (22 + k0) = -6 ∧ v = some (rd_I 0) ∧ μ' = μ)) := by
  refine rd_enter (by decide +kernel) (Nat.le_of_ble_eq_true rfl) [rd_R 0, rd_I k0] rfl (fun p e s m args below meth c C => ?_)
  refine rd_W.rng (fun hM hL _ => ?_)
  refine rd_aload_n C dX10_canPress_0 rfl ?_
  refine rd_aload_n C dX10_canPress_1 rfl ?_
  refine rd_get C rd_g10_0 rf_X10_7 dX10_canPress_2 rd_c0 rd_m0 (x := rd_R (1)) rfl (fun _ => trivial) ?_
  refine rd_bipush C dX10_canPress_5 (n := 30) (by decide) ⟨by decide, by decide⟩ ?_
  refine rd_ialdx C rd_ai18 dX10_canPress_7 rd_c1 rd_m1 ⟨by omega, by omega⟩ (z := μ 1 30) rfl ?_
  refine rd_bipush C dX10_canPress_8 (n := 22) (by decide) ⟨by decide, by decide⟩ ?_
  refine rd_iload_n C dX10_canPress_10 rfl ?_
  refine rd_iadd C dX10_canPress_11 (z := 22 + k0) rfl ⟨by omega, by omega⟩ ?_
  refine rd_callV C (c_X10_of (i := μ 1 30) (q := 22 + k0) ha ⟨by omega, by omega⟩) rm_X10_26 ri_X10_of rs_X10_of rc_X10_of rz_X10 ⟨rp_X10_of, rfl, rfl, by decide, by decide⟩ rfl rd_kcl10 dX10_canPress_12 rd_c0 rd_m0 rfl (Nat.le_of_ble_eq_true rfl) (fun v1 w1 hq => ?_)
  obtain ⟨hv1, hm1⟩ := hq; rw [show v1 = some (rd_I (mo_o μ (μ 1 30) (22 + k0))) from hv1, hm1]; clear hv1 hm1
  refine rd_bipush C dX10_canPress_15 (n := -6) (by decide) ⟨by decide, by decide⟩ ?_
  refine rd_icmp_eq C dX10_canPress_17 (tgt := 24) (by decide) (fun h_17 => ?_) (fun h_17 => ?_)
  · refine rd_iconst C dX10_canPress_24 (n := 0) ⟨by decide, by decide⟩ ?_
    exact rd_zret C dX10_canPress_25 (by omega) (by first | exact Or.inl ⟨h_17, rfl, rfl⟩ | exact Or.inr ⟨h_17, rfl, rfl⟩)
  · refine rd_iconst C dX10_canPress_20 (n := 1) ⟨by decide, by decide⟩ ?_
    refine rd_goto C dX10_canPress_21 (tgt := 25) (by decide) ?_
    exact rd_zret C dX10_canPress_25 (by omega) (by first | exact Or.inl ⟨h_17, rfl, rfl⟩ | exact Or.inr ⟨h_17, rfl, rfl⟩)
set_option maxHeartbeats 4000000 in
set_option maxRecDepth 100000 in
theorem c_X10_presses {l : Launch} {G : rd_G} {r : Nat} {μ : rd_Mem} {k0 : Int} (ha : 0 ≤ μ 1 30 ∧ μ 1 30 ≤ 9) (hk : 0 ≤ k0 ∧ k0 ≤ 9) (ht : 0 ≤ μ 1 35 ∧ μ 1 35 ≤ 40) : rd_M l G rd_km 5 r yX10_presses cX10_presses 2 (some .int) (rd_rm 1 24) [rd_R 0, rd_I k0] μ (fun v μ' => v = some (rd_I (mo_cm μ (mo_o μ (μ 1 30) (22 + k0)) 0 1 1 30)) ∧ μ' = mo_cm μ (mo_o μ (μ 1 30) (22 + k0)) 0 1) := by
  refine rd_enter (by decide +kernel) (Nat.le_of_ble_eq_true rfl) [rd_R 0, rd_I k0] rfl (fun p e s m args below meth c C => ?_)
  refine rd_W.rng (fun hM hL _ => ?_)
  refine rd_aload_n C dX10_presses_0 rfl ?_
  refine rd_aload_n C dX10_presses_1 rfl ?_
  refine rd_aload_n C dX10_presses_2 rfl ?_
  refine rd_get C rd_g10_0 rf_X10_7 dX10_presses_3 rd_c0 rd_m0 (x := rd_R (1)) rfl (fun _ => trivial) ?_
  refine rd_bipush C dX10_presses_6 (n := 30) (by decide) ⟨by decide, by decide⟩ ?_
  refine rd_ialdx C rd_ai18 dX10_presses_8 rd_c1 rd_m1 ⟨by omega, by omega⟩ (z := μ 1 30) rfl ?_
  refine rd_bipush C dX10_presses_9 (n := 22) (by decide) ⟨by decide, by decide⟩ ?_
  refine rd_iload_n C dX10_presses_11 rfl ?_
  refine rd_iadd C dX10_presses_12 (z := 22 + k0) rfl ⟨by omega, by omega⟩ ?_
  refine rd_callV C (c_X10_of (i := μ 1 30) (q := 22 + k0) ha ⟨by omega, by omega⟩) rm_X10_26 ri_X10_of rs_X10_of rc_X10_of rz_X10 ⟨rp_X10_of, rfl, rfl, by decide, by decide⟩ rfl rd_kcl10 dX10_presses_13 rd_c0 rd_m0 rfl (Nat.le_of_ble_eq_true rfl) (fun v1 w1 hq => ?_)
  obtain ⟨hv1, hm1⟩ := hq; rw [show v1 = some (rd_I (mo_o μ (μ 1 30) (22 + k0))) from hv1, hm1]; clear hv1 hm1
  refine rd_iconst C dX10_presses_16 (n := 0) ⟨by decide, by decide⟩ ?_
  refine rd_iconst C dX10_presses_17 (n := 1) ⟨by decide, by decide⟩ ?_
  refine rd_callV C (c_X10_comes ht.1 ht.2) rm_X10_54 ri_X10_comes rs_X10_comes rc_X10_comes rz_X10 ⟨rp_X10_comes, rfl, rfl, by decide, by decide⟩ rfl rd_kcl10 dX10_presses_18 rd_c0 rd_m0 rfl (Nat.le_of_ble_eq_true rfl) (fun v1 w1 hq => ?_)
  obtain ⟨hv1, hm1⟩ := hq; rw [hv1, show w1 = mo_cm μ (mo_o μ (μ 1 30) (22 + k0)) 0 1 from hm1]; clear hv1 hm1
  refine rd_aload_n C dX10_presses_21 rfl ?_
  refine rd_get C rd_g10_0 rf_X10_7 dX10_presses_22 rd_c0 rd_m0 (x := rd_R (1)) rfl (fun _ => trivial) ?_
  refine rd_bipush C dX10_presses_25 (n := 30) (by decide) ⟨by decide, by decide⟩ ?_
  refine rd_ialdx C rd_ai18 dX10_presses_27 rd_c1 rd_m1 ⟨by omega, by omega⟩ (z := (mo_cm μ (mo_o μ (μ 1 30) (22 + k0)) 0 1) 1 30) rfl ?_
  exact rd_iret C dX10_presses_28 ⟨rfl, rfl⟩
def mo_cp (μ : rd_Mem) (f t k : Int) : rd_Mem := fun a b => if a = 1 ∧ (476 * t ≤ b ∧ b < 476 * t + k) then μ 1 (b + 476 * (f - t)) else μ a b
theorem mo_cp_s (μ : rd_Mem) {f t k : Int} (hne : f ≠ t) (f0 : 0 ≤ f) (f4 : f ≤ 4) (t0 : 0 ≤ t) (t4 : t ≤ 4) (k0 : 0 ≤ k) (k4 : k < 476) : rd_u (mo_cp μ f t k) 1 (476 * t + k) (mo_cp μ f t k 1 (476 * f + k)) = mo_cp μ f t (k + 1) := by
  have e : mo_cp μ f t k 1 (476 * f + k) = μ 1 (476 * f + k) := by
    unfold mo_cp
    rw [if_neg]
    rintro ⟨-, h1, h2⟩
    rcases Int.lt_or_gt_of_ne hne with h | h <;> omega
  rw [e]
  funext a b
  unfold rd_u mo_cp
  by_cases ha : a = 1
  · subst ha
    by_cases hb : b = 476 * t + k
    · subst hb
      rw [if_pos rfl, if_pos rfl, if_pos ⟨rfl, by omega, by omega⟩]
      congr 1
      rw [Int.mul_sub]; omega
    · rw [if_pos rfl, if_neg hb]
      by_cases hc : 476 * t ≤ b ∧ b < 476 * t + k
      · rw [if_pos ⟨rfl, hc⟩, if_pos ⟨rfl, by omega, by omega⟩]
      · rw [if_neg (fun h => hc h.2), if_neg (fun h => hc ⟨h.2.1, by have := h.2.2; omega⟩)]
  · rw [if_neg ha, if_neg (fun h => ha h.1), if_neg (fun h => ha h.1)]
set_option maxHeartbeats 4000000 in
set_option maxRecDepth 100000 in
theorem c_X10_copies {l : Launch} {G : rd_G} {r : Nat} {μ : rd_Mem} {f0 t0 : Int} (hf : 0 ≤ f0 ∧ f0 ≤ 4) (ht : 0 ≤ t0 ∧ t0 ≤ 4) (hne : f0 ≠ t0) : rd_M l G rd_km 5 r yX10_copies cX10_copies 4 none (rd_rm 0 0) [rd_R 0, rd_I f0, rd_I t0] μ (fun v μ' => v = none ∧ μ' = mo_cp μ f0 t0 476) := by
  refine rd_enter (by decide +kernel) (Nat.le_of_ble_eq_true rfl) [rd_R 0, rd_I f0, rd_I t0, rd_J] rfl (fun p e s m args below meth c C => ?_)
  refine rd_W.rng (fun hM hL _ => ?_)
  refine rd_iconst C dX10_copies_0 (n := 0) ⟨by decide, by decide⟩ ?_
  refine rd_istore_n C dX10_copies_1 (by decide) (L' := [rd_R 0, rd_I f0, rd_I t0, rd_I 0]) rfl ?_
  have lp2 : ∀ (n : Nat) (k : Int) (μ1 : rd_Mem), (0 ≤ k) → (k ≤ 476) → (476 < k + n) → (μ1 = mo_cp μ f0 t0 k) → rd_W p l e (rd_rm 0 0) s m args below meth c (MQ below (rd_Qc G rd_km 5 r (fun v μ' => v = none ∧ μ' = mo_cp μ f0 t0 476)) args s 0 0 (rd_A r 5)) 4 G rd_km 5 r 2 [rd_R 0, rd_I f0, rd_I t0, rd_I k] [] μ1 := by
    intro n
    induction n with
    | zero => intro k μ1  h1 h2 h3 hm; exfalso; omega
    | succ n ih =>
      intro k μ1  h1 h2 h3 hm
      refine rd_iload_n C dX10_copies_2 rfl ?_
      refine rd_sipush C dX10_copies_3 (n := 476) (by decide) ⟨by decide, by decide⟩ ?_
      refine rd_icmp_ge C dX10_copies_6 (tgt := 39) (by decide) (fun h_6 => ?_) (fun h_6 => ?_)
      · exact rd_vret C dX10_copies_39 ⟨rfl, by rw [hm, show k = 476 by omega]⟩
      · refine rd_aload_n C dX10_copies_9 rfl ?_
        refine rd_get C rd_g10_0 rf_X10_7 dX10_copies_10 rd_c0 rd_m0 (x := rd_R (1)) rfl (fun _ => trivial) ?_
        refine rd_sipush C dX10_copies_13 (n := 476) (by decide) ⟨by decide, by decide⟩ ?_
        refine rd_iload_n C dX10_copies_16 rfl ?_
        refine rd_imul C dX10_copies_17 (z := 476 * t0) rfl ⟨by omega, by omega⟩ ?_
        refine rd_iload_n C dX10_copies_18 rfl ?_
        refine rd_iadd C dX10_copies_19 (z := 476 * t0 + k) rfl ⟨by omega, by omega⟩ ?_
        refine rd_aload_n C dX10_copies_20 rfl ?_
        refine rd_get C rd_g10_0 rf_X10_7 dX10_copies_21 rd_c0 rd_m0 (x := rd_R (1)) rfl (fun _ => trivial) ?_
        refine rd_sipush C dX10_copies_24 (n := 476) (by decide) ⟨by decide, by decide⟩ ?_
        refine rd_iload_n C dX10_copies_27 rfl ?_
        refine rd_imul C dX10_copies_28 (z := 476 * f0) rfl ⟨by omega, by omega⟩ ?_
        refine rd_iload_n C dX10_copies_29 rfl ?_
        refine rd_iadd C dX10_copies_30 (z := 476 * f0 + k) rfl ⟨by omega, by omega⟩ ?_
        refine rd_ialdx C rd_ai18 dX10_copies_31 rd_c1 rd_m1 ⟨by omega, by omega⟩ (z := μ1 1 (476 * f0 + k)) rfl ?_
        refine rd_iast C rd_ai18 dX10_copies_32 rd_c1 rd_m1 ⟨by omega, by omega⟩ ?_
        refine rd_iinc C dX10_copies_33 (by decide) rfl ⟨by omega, by omega⟩ (L' := [rd_R 0, rd_I f0, rd_I t0, rd_I (k + 1)]) rfl ?_
        refine rd_goto C dX10_copies_36 (tgt := 2) (by decide) ?_
        exact ih (k + 1) _ (by omega) (by omega) (by omega) (by rw [hm]; exact mo_cp_s μ hne hf.1 hf.2 ht.1 ht.2 h1 (by omega))
  exact lp2 477 0 _ (by omega) (by omega) (by omega) (by funext a b; unfold mo_cp; rw [if_neg (by omega)])
def mo_sf (μ : rd_Mem) (k : Int) : rd_Mem := fun a b => if a = 1 ∧ (476 ≤ b ∧ b < 476 * k) then μ 1 (b + 476) else μ a b
def mo_sv (μ : rd_Mem) : rd_Mem := if μ 0 1 = 4 then mo_cp (rd_u (mo_sf μ 4) 0 1 (mo_sf μ 4 0 1 + 0)) 0 (mo_sf μ 4 0 1 + 0) 476 else mo_cp (rd_u μ 0 1 (μ 0 1 + 1)) 0 (μ 0 1 + 1) 476
theorem mo_sf_s (μ : rd_Mem) {k : Int} (h : 1 ≤ k ∧ k ≤ 3) : mo_cp (mo_sf μ k) (k + 1) k 476 = mo_sf μ (k + 1) := by
  have hk : k = 1 ∨ k = 2 ∨ k = 3 := by omega
  funext a b
  unfold mo_cp mo_sf
  rcases hk with rfl | rfl | rfl <;> grind
set_option maxHeartbeats 4000000 in
set_option maxRecDepth 100000 in
theorem c_X10_save {l : Launch} {G : rd_G} {r : Nat} {μ : rd_Mem} (hst : 0 ≤ μ 0 1 ∧ μ 0 1 ≤ 4) : rd_M l G rd_km 5 r yX10_save cX10_save 2 none (rd_rm 1 23) [rd_R 0] μ (fun v μ' => v = none ∧ μ' = mo_sv μ) := by
  refine rd_enter (by decide +kernel) (Nat.le_of_ble_eq_true rfl) [rd_R 0, rd_J] rfl (fun p e s m args below meth c C => ?_)
  refine rd_W.rng (fun hM hL _ => ?_)
  refine rd_iconst C dX10_save_0 (n := 1) ⟨by decide, by decide⟩ ?_
  refine rd_istore_n C dX10_save_1 (by decide) (L' := [rd_R 0, rd_I 1]) rfl ?_
  have lp2 : ∀ (n : Nat) (k : Int) (μ1 : rd_Mem), (1 ≤ k) → (k ≤ 4) → (4 < k + n) → (1 < k → μ 0 1 = 4) → (μ1 = mo_sf μ k) → rd_W p l e (rd_rm 1 23) s m args below meth c (MQ below (rd_Qc G rd_km 5 r (fun v μ' => v = none ∧ μ' = mo_sv μ)) args s 0 0 (rd_A r 5)) 2 G rd_km 5 r 2 [rd_R 0, rd_I k] [] μ1 := by
    intro n
    induction n with
    | zero => intro k μ1  h1 h2 h3 hk1 hm; exfalso; omega
    | succ n ih =>
      intro k μ1  h1 h2 h3 hk1 hm
      have hs01 : μ1 0 1 = μ 0 1 := by rw [hm]; unfold mo_sf; rw [if_neg (by omega)]
      refine rd_iload_n C dX10_save_2 rfl ?_
      refine rd_iconst C dX10_save_3 (n := 4) ⟨by decide, by decide⟩ ?_
      refine rd_icmp_ge C dX10_save_4 (tgt := 29) (by decide) (fun h_4 => ?_) (fun h_4 => ?_)
      · have hk4 : k = 4 := by omega
        have h4 : μ 0 1 = 4 := hk1 (by omega)
        rw [hm, hk4]
        have hs4 : mo_sf μ 4 0 1 = 4 := by unfold mo_sf; rw [if_neg (by omega)]; exact h4
        refine rd_aload_n C dX10_save_29 rfl ?_
        refine rd_dup C dX10_save_30 ?_
        refine rd_get C rd_g10_1 rf_X10_68 dX10_save_31 rd_c0 rd_m0 (x := rd_I ((mo_sf μ 4) 0 1)) rfl (fun h => h _ _) ?_
        refine rd_aload_n C dX10_save_34 rfl ?_
        refine rd_get C rd_g10_1 rf_X10_68 dX10_save_35 rd_c0 rd_m0 (x := rd_I ((mo_sf μ 4) 0 1)) rfl (fun h => h _ _) ?_
        refine rd_iconst C dX10_save_38 (n := 4) ⟨by decide, by decide⟩ ?_
        refine rd_icmp_ge C dX10_save_39 (tgt := 46) (by decide) (fun h_39 => ?_) (fun h_39 => ?_)
        · refine rd_iconst C dX10_save_46 (n := 0) ⟨by decide, by decide⟩ ?_
          refine rd_iadd C dX10_save_47 (z := (mo_sf μ 4) 0 1 + 0) rfl ⟨by omega, by omega⟩ ?_
          refine rd_put C rd_p10_1 rf_X10_68 dX10_save_48 rd_c0 rd_m0 trivial ?_
          refine rd_aload_n C dX10_save_51 rfl ?_
          refine rd_iconst C dX10_save_52 (n := 0) ⟨by decide, by decide⟩ ?_
          refine rd_aload_n C dX10_save_53 rfl ?_
          refine rd_getx C rd_g10_1 rf_X10_68 dX10_save_54 rd_c0 rd_m0 rfl (z := (mo_sf μ 4) 0 1 + 0) (by rw [rd_u_s]) ?_
          refine rd_callV C (c_X10_copies (f0 := 0) (t0 := (mo_sf μ 4) 0 1 + 0) ⟨by omega, by omega⟩ ⟨by omega, by omega⟩ (by omega)) rm_X10_72 ri_X10_copies rs_X10_copies rc_X10_copies rz_X10 ⟨rp_X10_copies, rfl, rfl, by decide, by decide⟩ rfl rd_kcl10 dX10_save_57 rd_c0 rd_m0 rfl (Nat.le_of_ble_eq_true rfl) (fun v1 w1 hq => ?_)
          obtain ⟨hv1, hm1⟩ := hq; rw [hv1, hm1]; clear hv1 hm1
          exact rd_vret C dX10_save_60 ⟨rfl, by unfold mo_sv; rw [if_pos h4]⟩
        · exfalso; omega
      · refine rd_aload_n C dX10_save_7 rfl ?_
        refine rd_get C rd_g10_1 rf_X10_68 dX10_save_8 rd_c0 rd_m0 (x := rd_I (μ1 0 1)) rfl (fun h => h _ _) ?_
        refine rd_iconst C dX10_save_11 (n := 4) ⟨by decide, by decide⟩ ?_
        refine rd_icmp_ne C dX10_save_12 (tgt := 29) (by decide) (fun h_12 => ?_) (fun h_12 => ?_)
        · have h4 : ¬ μ 0 1 = 4 := by rw [← hs01]; exact h_12
          have hk0 : k = 1 := by
            by_cases h : k = 1
            · exact h
            · exact absurd (hk1 (by omega)) h4
          rw [hm, hk0, show mo_sf μ 1 = μ from by funext a b; unfold mo_sf; rw [if_neg (by omega)]]
          refine rd_aload_n C dX10_save_29 rfl ?_
          refine rd_dup C dX10_save_30 ?_
          refine rd_get C rd_g10_1 rf_X10_68 dX10_save_31 rd_c0 rd_m0 (x := rd_I (μ 0 1)) rfl (fun h => h _ _) ?_
          refine rd_aload_n C dX10_save_34 rfl ?_
          refine rd_get C rd_g10_1 rf_X10_68 dX10_save_35 rd_c0 rd_m0 (x := rd_I (μ 0 1)) rfl (fun h => h _ _) ?_
          refine rd_iconst C dX10_save_38 (n := 4) ⟨by decide, by decide⟩ ?_
          refine rd_icmp_ge C dX10_save_39 (tgt := 46) (by decide) (fun h_39 => ?_) (fun h_39 => ?_)
          · exfalso; omega
          · refine rd_iconst C dX10_save_42 (n := 1) ⟨by decide, by decide⟩ ?_
            refine rd_goto C dX10_save_43 (tgt := 47) (by decide) ?_
            refine rd_iadd C dX10_save_47 (z := μ 0 1 + 1) rfl ⟨by omega, by omega⟩ ?_
            refine rd_put C rd_p10_1 rf_X10_68 dX10_save_48 rd_c0 rd_m0 trivial ?_
            refine rd_aload_n C dX10_save_51 rfl ?_
            refine rd_iconst C dX10_save_52 (n := 0) ⟨by decide, by decide⟩ ?_
            refine rd_aload_n C dX10_save_53 rfl ?_
            refine rd_getx C rd_g10_1 rf_X10_68 dX10_save_54 rd_c0 rd_m0 rfl (z := μ 0 1 + 1) (by rw [rd_u_s]) ?_
            refine rd_callV C (c_X10_copies (f0 := 0) (t0 := μ 0 1 + 1) ⟨by omega, by omega⟩ ⟨by omega, by omega⟩ (by omega)) rm_X10_72 ri_X10_copies rs_X10_copies rc_X10_copies rz_X10 ⟨rp_X10_copies, rfl, rfl, by decide, by decide⟩ rfl rd_kcl10 dX10_save_57 rd_c0 rd_m0 rfl (Nat.le_of_ble_eq_true rfl) (fun v1 w1 hq => ?_)
            obtain ⟨hv1, hm1⟩ := hq; rw [hv1, hm1]; clear hv1 hm1
            exact rd_vret C dX10_save_60 ⟨rfl, by unfold mo_sv; rw [if_neg h4]⟩
        · refine rd_aload_n C dX10_save_15 rfl ?_
          refine rd_iload_n C dX10_save_16 rfl ?_
          refine rd_iconst C dX10_save_17 (n := 1) ⟨by decide, by decide⟩ ?_
          refine rd_iadd C dX10_save_18 (z := k + 1) rfl ⟨by omega, by omega⟩ ?_
          refine rd_iload_n C dX10_save_19 rfl ?_
          refine rd_callV C (c_X10_copies (f0 := k + 1) (t0 := k) ⟨by omega, by omega⟩ ⟨by omega, by omega⟩ (by omega)) rm_X10_72 ri_X10_copies rs_X10_copies rc_X10_copies rz_X10 ⟨rp_X10_copies, rfl, rfl, by decide, by decide⟩ rfl rd_kcl10 dX10_save_20 rd_c0 rd_m0 rfl (Nat.le_of_ble_eq_true rfl) (fun v1 w1 hq => ?_)
          obtain ⟨hv1, hm1⟩ := hq; rw [hv1, hm1, hm, mo_sf_s μ ⟨by omega, by omega⟩]; clear hv1 hm1
          refine rd_iinc C dX10_save_23 (by decide) rfl ⟨by omega, by omega⟩ (L' := [rd_R 0, rd_I (k + 1)]) rfl ?_
          refine rd_goto C dX10_save_26 (tgt := 2) (by decide) ?_
          exact ih (k + 1) _ (by omega) (by omega) (by omega) (fun _ => by rw [← hs01]; exact h_12) rfl
  exact lp2 5 1 _ (by omega) (by omega) (by omega) (fun h => by omega) (by funext a b; unfold mo_sf; rw [if_neg (by omega)])
