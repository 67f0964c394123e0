section RLR2
variable {μ μ' ν ν' : rd_Mem}
theorem rl_q_c (h : rl_q μ' μ) (hc : rl_c μ) : rl_c μ' := by
  obtain ⟨hw, c2, c3, c4, c5, c6, c7, c8⟩ := hc
  obtain ⟨k1, k2, k3, k55, k56, k58, k59⟩ := rl_q1 h
  have hcn := hw.1
  unfold sp_cnt at hcn
  have e5 := k58 5 (by omega) (by omega)
  have e1 := k58 1 (by omega) (by omega)
  have ht := rl_q_th h
  have hpl := rl_q_pl h hw.1
  refine ⟨⟨by unfold sp_cnt; rw [k2]; exact hcn, fun i i0 i1 => ?_, fun i i0 i1 q q0 q6 q7 => ?_, by rw [e5]; exact hw.2.2.2.1, by rw [e1]; exact hw.2.2.2.2⟩, fun i i0 i1 => ?_, by unfold sp_nt; rw [k55]; exact c3, fun n hn => ?_, fun i i0 i1 q q0 q1 => ?_, fun k k0 k1' => ?_, fun i i0 i1 => ?_, fun n n0 n9 => ⟨fun hn => ?_, fun hn => ?_⟩⟩
  · rw [(rl_qs h i0 (by omega)).1 3 (by omega) (by omega)]; exact hw.2.1 i i0 i1
  · obtain ⟨h1, h2, h3⟩ := rl_qs h i0 (show i ≤ 9 by omega)
    rw [h1 3 (by omega) (by omega)] at q7
    rw [h2 1 q (by omega) (by omega) q0 q6]; exact hw.2.2.1 i i0 i1 q q0 q6 q7
  · obtain ⟨h1, -, -⟩ := rl_qs h i0 (show i ≤ 9 by omega)
    rw [show (1 : Int) + 4 + 5 * i = 5 + 5 * i by omega, h1 0 (by omega) (by omega), h1 1 (by omega) (by omega)]
    have := c2 i i0 i1
    rw [show (1 : Int) + 4 + 5 * i = 5 + 5 * i by omega] at this
    exact this
  · rw [hpl, k2]; exact c4 n ((ht n).mp hn)
  · obtain ⟨h1, h2, h3⟩ := rl_qs h i0 (show i ≤ 9 by omega)
    have hr := hw.2.1 i i0 i1
    rw [h1 3 (by omega) (by omega)] at q1
    rw [h2 3 q (by omega) (by omega) q0 (by omega)]; exact c5 i i0 i1 q q0 q1
  · rw [e5] at k1'
    have h4 := hw.2.2.2.1
    have := k59 1 k (by omega) (by omega) k0 (by omega)
    rw [show (59 : Int) + 1 = 60 from rfl] at this
    rw [this]; exact c6 k k0 k1'
  · rw [k2] at i1
    rw [k3 i i0 (by omega), ht, hpl]; exact c7 i i0 i1
  · have hn' := (ht n).mp hn
    obtain ⟨h1, h2, h3⟩ := rl_qs h n0 n9
    obtain ⟨g1, g2, g3, g4⟩ := (c8 n n0 n9).1 hn'
    have hr := hw.2.1 n n0 (by omega)
    refine ⟨by rw [h1 2 (by omega) (by omega)]; exact g1, fun q q0 q1 => ?_, fun k k0 k9 => ?_, by rw [sp_lk_c (fun k a b => h3 k a (by omega))]; exact g4⟩
    · rw [h1 3 (by omega) (by omega)] at q1
      rw [h2 1 q (by omega) (by omega) q0 (by omega), h2 2 q (by omega) (by omega) q0 (by omega)]; exact g2 q q0 q1
    · rw [h3 k k0 (by omega), ht]; exact g3 k k0 k9
  · obtain ⟨h1, h2, h3⟩ := rl_qs h n0 n9
    obtain ⟨g1, g2, g3, g4⟩ := (c8 n n0 n9).2 (fun e => hn ((ht n).mpr e))
    exact ⟨by rw [h1 1 (by omega) (by omega)]; exact g1, by rw [h1 2 (by omega) (by omega)]; exact g2, by rw [h1 3 (by omega) (by omega)]; exact g3, fun k k0 k9 => by rw [h3 k k0 (by omega)]; exact g4 k k0 k9⟩
theorem rl_q_d (h : rl_q μ' μ) (hc : rl_c μ) (hd : rl_d μ ν) : rl_d μ' ν := by
  obtain ⟨d1, d2, d3⟩ := hd
  obtain ⟨k1, k2, k3, -⟩ := rl_q1 h
  have hcn := hc.1.1
  unfold sp_cnt at hcn
  refine ⟨by rw [k2]; exact d1, fun i i0 i1 => ?_, fun n n0 n9 => ⟨fun hn => ?_, fun hn => (d3 n n0 n9).2 (fun e => hn ((rl_q_th h n).mpr e))⟩⟩
  · rw [k2] at i1; rw [k3 i i0 (by omega)]; exact d2 i i0 i1
  · obtain ⟨h1, h2, h3⟩ := rl_qs h n0 n9
    have hr := hc.1.2.1 n n0 (by omega)
    obtain ⟨r0, r1, r2, r3, r4, r5⟩ := (d3 n n0 n9).1 ((rl_q_th h n).mp hn)
    refine ⟨r0, by rw [h1 1 (by omega) (by omega)]; exact r1, by rw [h1 2 (by omega) (by omega)]; exact r2, by rw [h1 3 (by omega) (by omega)]; exact r3, fun q q0 q1 => ?_, fun k k0 k9 => by rw [h3 k k0 (by omega)]; exact r5 k k0 k9⟩
    rw [h1 3 (by omega) (by omega)] at q1
    rw [h2 1 q (by omega) (by omega) q0 (by omega), h2 2 q (by omega) (by omega) q0 (by omega), h2 3 q (by omega) (by omega) q0 (by omega)]
    exact r4 q q0 q1
theorem rl_q_1 (h : rl_q μ' μ) (hR : rl_1 μ ν) : rl_1 μ' ν := by
  obtain ⟨hc, hd, hn, hs⟩ := hR
  obtain ⟨k1, k2, k3, k55, k56, k58, k59⟩ := rl_q1 h
  have hnt := hc.2.2.1
  unfold sp_nt at hnt
  refine ⟨rl_q_c h hc, rl_q_d h hc hd, ?_, ?_⟩
  · unfold rl_n
    rw [k1, k55]
    exact ⟨hn.1, hn.2.1, fun i i0 i1 => by rw [(k56 i i0 (by omega)).1, (k56 i i0 (by omega)).2]; exact hn.2.2 i i0 i1⟩
  · have e : ∀ x : Int, 0 ≤ x → x < 6 → μ' 58 x = μ 58 x := k58
    rcases hs with ⟨g1, g2, g3⟩ | ⟨g1, p0, p1, p2, p3, p4, p5, p6, p7, p8⟩
    · left; rw [e 0 (by omega) (by omega)]; exact ⟨g1, g2, g3⟩
    · right
      have h4 := hc.1.2.2.2.1
      unfold rl_p
      rw [e 0 (by omega) (by omega), e 1 (by omega) (by omega), e 2 (by omega) (by omega), e 3 (by omega) (by omega), e 4 (by omega) (by omega), e 5 (by omega) (by omega), rl_q_th h, rl_q_FS h hc.1.2.1 p0.1.1 p0.1.2]
      refine ⟨g1, p0, p1, p2, p3, p4, p5, p6, p7, fun q q0 q1 => ?_⟩
      have a0 := k59 0 q (by omega) (by omega) q0 (by omega)
      have a1 := k59 1 q (by omega) (by omega) q0 (by omega)
      have a2 := k59 2 q (by omega) (by omega) q0 (by omega)
      rw [show (59 : Int) + 0 = 59 from rfl] at a0
      rw [show (59 : Int) + 1 = 60 from rfl] at a1
      rw [show (59 : Int) + 2 = 61 from rfl] at a2
      rw [a0, a1, a2]
      exact p8 q q0 q1
end RLR2

