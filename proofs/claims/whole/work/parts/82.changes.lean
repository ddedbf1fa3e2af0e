/-! CALLS THAT CHANGE SOMETHING. -/
theorem op_asks (q u v : Int) {w : Wd} (h : GAl w) : OpI mX11_asks mX12_asks [(2, 0), (0, q), (0, u), (0, v)] [(2, 141), (0, q), (0, u), (0, v)] w := by
  obtain ⟨s9, b9, LN9, hR9, hH9, hC9, hT9, hL9, hV9, hP9, hN9, hO9, hK9⟩ := h
  refine ⟨_, CallN.deep (x_asks q u v w hH9.1.2) (by decide), fun z w1 hJ => ?_⟩
  rcases hJ with ⟨hc9, hz9, hw1⟩ | ⟨hc9, hz9, hw1⟩
  · skip
    have k0 : w1 141 4 = w 141 4 := by rw [hw1, wu_ne (by decide), wu_ne (by decide)]
    have kk0 : w 141 4 = w 15 10 := by exact hH9.1.1
    have hm9 := m_asks q u v w1 (by rw [k0]; rw [hH9.1.1]; exact hH9.1.2)
    rw [k0, kk0] at hm9
    refine CallN.deep (hm9.conseq (fun r w2 hq => ?_)) (by decide)
    obtain ⟨z2, rfl, hq⟩ := hq
    refine ⟨z2, rfl, ?_⟩
    rcases hq with ⟨hd9, hz2, hw2⟩ | ⟨hd9, hz2, hw2⟩
    · refine ⟨hz2.trans hz9.symm, s9, b9, LN9, ?_⟩
      have nGH : GH w2 := by
        have e9 : w2 9 = w 9 := by rw [hw2, wu_ne (by decide), wu_ne (by decide), hw1, wu_ne (by decide), wu_ne (by decide)]
        have e16 : w2 16 = w 16 := by rw [hw2, wu_ne (by decide), wu_ne (by decide), hw1, wu_ne (by decide), wu_ne (by decide)]
        have e17 : w2 17 = w 17 := by rw [hw2, wu_ne (by decide), wu_ne (by decide), hw1, wu_ne (by decide), wu_ne (by decide)]
        have e18 : w2 18 = updF (w 18) q u := by rw [hw2, wu_ne (by decide), wu_ne (by decide), hw1, wu_ne (by decide), wu_upM]
        have e19 : w2 19 = updF (w 19) q v := by rw [hw2, wu_ne (by decide), wu_ne (by decide), hw1, wu_upM, wu_ne (by decide)]
        have e20 : w2 20 = w 20 := by rw [hw2, wu_ne (by decide), wu_ne (by decide), hw1, wu_ne (by decide), wu_ne (by decide)]
        have e21 : w2 21 = w 21 := by rw [hw2, wu_ne (by decide), wu_ne (by decide), hw1, wu_ne (by decide), wu_ne (by decide)]
        have e22 : w2 22 = w 22 := by rw [hw2, wu_ne (by decide), wu_ne (by decide), hw1, wu_ne (by decide), wu_ne (by decide)]
        have e23 : w2 23 = w 23 := by rw [hw2, wu_ne (by decide), wu_ne (by decide), hw1, wu_ne (by decide), wu_ne (by decide)]
        have e24 : w2 24 = w 24 := by rw [hw2, wu_ne (by decide), wu_ne (by decide), hw1, wu_ne (by decide), wu_ne (by decide)]
        have e25 : w2 25 = w 25 := by rw [hw2, wu_ne (by decide), wu_ne (by decide), hw1, wu_ne (by decide), wu_ne (by decide)]
        have e26 : w2 26 = w 26 := by rw [hw2, wu_ne (by decide), wu_ne (by decide), hw1, wu_ne (by decide), wu_ne (by decide)]
        have e27 : w2 27 = w 27 := by rw [hw2, wu_ne (by decide), wu_ne (by decide), hw1, wu_ne (by decide), wu_ne (by decide)]
        have e28 : w2 28 = w 28 := by rw [hw2, wu_ne (by decide), wu_ne (by decide), hw1, wu_ne (by decide), wu_ne (by decide)]
        have e29 : w2 29 = w 29 := by rw [hw2, wu_ne (by decide), wu_ne (by decide), hw1, wu_ne (by decide), wu_ne (by decide)]
        have e149 : w2 149 = w 149 := by rw [hw2, wu_ne (by decide), wu_ne (by decide), hw1, wu_ne (by decide), wu_ne (by decide)]
        have e155 : w2 155 = w 155 := by rw [hw2, wu_ne (by decide), wu_ne (by decide), hw1, wu_ne (by decide), wu_ne (by decide)]
        have e156 : w2 156 = w 156 := by rw [hw2, wu_ne (by decide), wu_ne (by decide), hw1, wu_ne (by decide), wu_ne (by decide)]
        have e157 : w2 157 = updF (w 157) q u := by rw [hw2, wu_ne (by decide), wu_upM, hw1, wu_ne (by decide), wu_ne (by decide)]
        have e158 : w2 158 = updF (w 158) q v := by rw [hw2, wu_upM, wu_ne (by decide), hw1, wu_ne (by decide), wu_ne (by decide)]
        have e159 : w2 159 = w 159 := by rw [hw2, wu_ne (by decide), wu_ne (by decide), hw1, wu_ne (by decide), wu_ne (by decide)]
        have e160 : w2 160 = w 160 := by rw [hw2, wu_ne (by decide), wu_ne (by decide), hw1, wu_ne (by decide), wu_ne (by decide)]
        have e163 : w2 163 = w 163 := by rw [hw2, wu_ne (by decide), wu_ne (by decide), hw1, wu_ne (by decide), wu_ne (by decide)]
        have e164 : w2 164 = w 164 := by rw [hw2, wu_ne (by decide), wu_ne (by decide), hw1, wu_ne (by decide), wu_ne (by decide)]
        have e165 : w2 165 = w 165 := by rw [hw2, wu_ne (by decide), wu_ne (by decide), hw1, wu_ne (by decide), wu_ne (by decide)]
        have e166 : w2 166 = w 166 := by rw [hw2, wu_ne (by decide), wu_ne (by decide), hw1, wu_ne (by decide), wu_ne (by decide)]
        have e167 : w2 167 = w 167 := by rw [hw2, wu_ne (by decide), wu_ne (by decide), hw1, wu_ne (by decide), wu_ne (by decide)]
        have e168 : w2 168 = w 168 := by rw [hw2, wu_ne (by decide), wu_ne (by decide), hw1, wu_ne (by decide), wu_ne (by decide)]
        have f0_10 : w2 0 10 = w 0 10 := by rw [hw2, wu_ne (by decide), wu_ne (by decide), hw1, wu_ne (by decide), wu_ne (by decide)]
        have f15_10 : w2 15 10 = w 15 10 := by rw [hw2, wu_ne (by decide), wu_ne (by decide), hw1, wu_ne (by decide), wu_ne (by decide)]
        have f15_15 : w2 15 15 = w 15 15 := by rw [hw2, wu_ne (by decide), wu_ne (by decide), hw1, wu_ne (by decide), wu_ne (by decide)]
        have f1_9 : w2 1 9 = w 1 9 := by rw [hw2, wu_ne (by decide), wu_ne (by decide), hw1, wu_ne (by decide), wu_ne (by decide)]
        have f141_4 : w2 141 4 = w 141 4 := by rw [hw2, wu_ne (by decide), wu_ne (by decide), hw1, wu_ne (by decide), wu_ne (by decide)]
        have f141_5 : w2 141 5 = w 141 5 := by rw [hw2, wu_ne (by decide), wu_ne (by decide), hw1, wu_ne (by decide), wu_ne (by decide)]
        unfold GH at hH9 ⊢
        rw [e9, e16, e17, e18, e19, e20, e21, e22, e23, e24, e25, e26, e27, e28, e29, e149, e155, e156, e157, e158, e159, e160, e163, e164, e165, e166, e167, e168, f0_10, f15_10, f15_15, f1_9, f141_4, f141_5]
        obtain ⟨a1, a2, a3, a4, a5, a6, a7, a8⟩ := hH9
        exact ⟨a1, a2, ⟨a3.1, a3.2.1, by rw [a3.2.2.1], by rw [a3.2.2.2.1], a3.2.2.2.2.1, a3.2.2.2.2.2.1, a3.2.2.2.2.2.2.1, a3.2.2.2.2.2.2.2.1, a3.2.2.2.2.2.2.2.2.1, a3.2.2.2.2.2.2.2.2.2.1, a3.2.2.2.2.2.2.2.2.2.2.1, a3.2.2.2.2.2.2.2.2.2.2.2.1, a3.2.2.2.2.2.2.2.2.2.2.2.2⟩, (fun h h0 h1 => by
          have old := a4 h h0 h1
          unfold updF
          by_cases e : h = q
          · simp only [if_pos e]; omega
          · simp only [if_neg e]; exact old), a5, a6, a7, a8⟩
      exact GI.mk (hR9.fr (by rw [hw2, hw1]; exact (Agw.c (Agw.c (Agw.c (Agw.c Agw.rf (by decide) (by decide) (by decide)) (by decide) (by decide) (by decide)) (by decide) (by decide) (by decide)) (by decide) (by decide) (by decide)))) nGH (hC9.fr (by rw [hw2, hw1]; exact (Agw.c (Agw.c (Agw.c (Agw.c Agw.rf (by decide) (by decide) (by decide)) (by decide) (by decide) (by decide)) (by decide) (by decide) (by decide)) (by decide) (by decide) (by decide)))) (hT9.fr (by rw [hw2, hw1]; exact (Agw.c (Agw.c (Agw.c (Agw.c Agw.rf (by decide) (by decide) (by decide)) (by decide) (by decide) (by decide)) (by decide) (by decide) (by decide)) (by decide) (by decide) (by decide)))) (hL9.fr (by rw [hw2, hw1]; exact (Agw.c (Agw.c (Agw.c (Agw.c Agw.rf (by decide) (by decide) (by decide)) (by decide) (by decide) (by decide)) (by decide) (by decide) (by decide)) (by decide) (by decide) (by decide)))) (hV9.fr (by rw [hw2, hw1]; exact (Agw.c (Agw.c (Agw.c (Agw.c Agw.rf (by decide) (by decide) (by decide)) (by decide) (by decide) (by decide)) (by decide) (by decide) (by decide)) (by decide) (by decide) (by decide)))) (hP9.fr (by rw [hw2, hw1]; exact (Agw.c (Agw.c (Agw.c (Agw.c Agw.rf (by decide) (by decide) (by decide)) (by decide) (by decide) (by decide)) (by decide) (by decide) (by decide)) (by decide) (by decide) (by decide)))) (hN9.fr (by rw [hw2, hw1]; exact (Agw.c (Agw.c (Agw.c (Agw.c Agw.rf (by decide) (by decide) (by decide)) (by decide) (by decide) (by decide)) (by decide) (by decide) (by decide)) (by decide) (by decide) (by decide)))) (hO9.fr (by rw [hw2, hw1]; exact (Agw.c (Agw.c (Agw.c (Agw.c Agw.rf (by decide) (by decide) (by decide)) (by decide) (by decide) (by decide)) (by decide) (by decide) (by decide)) (by decide) (by decide) (by decide)))) (hK9.fr (by rw [hw2, hw1]; exact (Agw.c (Agw.c (Agw.c (Agw.c Agw.rf (by decide) (by decide) (by decide)) (by decide) (by decide) (by decide)) (by decide) (by decide) (by decide)) (by decide) (by decide) (by decide))))
    · exact absurd hc9 hd9
  · skip
    have k0 : w1 141 4 = w 141 4 := by rw [hw1]
    have kk0 : w 141 4 = w 15 10 := by exact hH9.1.1
    have hm9 := m_asks q u v w1 (by rw [k0]; rw [hH9.1.1]; exact hH9.1.2)
    rw [k0, kk0] at hm9
    refine CallN.deep (hm9.conseq (fun r w2 hq => ?_)) (by decide)
    obtain ⟨z2, rfl, hq⟩ := hq
    refine ⟨z2, rfl, ?_⟩
    rcases hq with ⟨hd9, hz2, hw2⟩ | ⟨hd9, hz2, hw2⟩
    · exact absurd hd9 hc9
    · rw [hw2, hw1]
      exact ⟨hz2.trans hz9.symm, (show GAl w from ⟨s9, b9, LN9, hR9, hH9, hC9, hT9, hL9, hV9, hP9, hN9, hO9, hK9⟩)⟩

theorem op_needs (q k l : Int) {w : Wd} (h : GAl w) : OpI mX11_needs mX12_needs [(2, 0), (0, q), (0, k), (0, l)] [(2, 141), (0, q), (0, k), (0, l)] w := by
  obtain ⟨s9, b9, LN9, hR9, hH9, hC9, hT9, hL9, hV9, hP9, hN9, hO9, hK9⟩ := h
  refine ⟨_, CallN.deep (x_needs q k l w hH9.1.2) (by decide), fun z w1 hJ => ?_⟩
  rcases hJ with ⟨hc9, hz9, hw1⟩ | ⟨hc9, hz9, hw1⟩
  · skip
    have k0 : w1 141 4 = w 141 4 := by rw [hw1, wu_ne (by decide), wu_ne (by decide)]
    have kk0 : w 141 4 = w 15 10 := by exact hH9.1.1
    have hm9 := m_needs q k l w1 (by rw [k0]; rw [hH9.1.1]; exact hH9.1.2)
    rw [k0, kk0] at hm9
    refine CallN.deep (hm9.conseq (fun r w2 hq => ?_)) (by decide)
    obtain ⟨z2, rfl, hq⟩ := hq
    refine ⟨z2, rfl, ?_⟩
    rcases hq with ⟨hd9, hz2, hw2⟩ | ⟨hd9, hz2, hw2⟩
    · refine ⟨hz2.trans hz9.symm, s9, b9, LN9, ?_⟩
      have nGN : GN w2 := by
        have e104 : w2 104 = updF (w 104) q k := by rw [hw2, wu_ne (by decide), wu_ne (by decide), hw1, wu_ne (by decide), wu_upM]
        have e105 : w2 105 = updF (w 105) q l := by rw [hw2, wu_ne (by decide), wu_ne (by decide), hw1, wu_upM, wu_ne (by decide)]
        have e107 : w2 107 = w 107 := by rw [hw2, wu_ne (by decide), wu_ne (by decide), hw1, wu_ne (by decide), wu_ne (by decide)]
        have e108 : w2 108 = w 108 := by rw [hw2, wu_ne (by decide), wu_ne (by decide), hw1, wu_ne (by decide), wu_ne (by decide)]
        have e161 : w2 161 = updF (w 161) q k := by rw [hw2, wu_ne (by decide), wu_upM, hw1, wu_ne (by decide), wu_ne (by decide)]
        have e162 : w2 162 = updF (w 162) q l := by rw [hw2, wu_upM, wu_ne (by decide), hw1, wu_ne (by decide), wu_ne (by decide)]
        unfold GN at hN9 ⊢
        rw [e104, e105, e107, e108, e161, e162]
        obtain ⟨a1, a2, a3, a4⟩ := hN9
        exact ⟨⟨by rw [a1.1], by rw [a1.2]⟩, (fun h h0 h1 => by
          have old := a2 h h0 h1
          unfold updF
          by_cases e : h = q
          · simp only [if_pos e]; omega
          · simp only [if_neg e]; exact old), a3, a4⟩
      exact GI.mk (hR9.fr (by rw [hw2, hw1]; exact (Agw.c (Agw.c (Agw.c (Agw.c Agw.rf (by decide) (by decide) (by decide)) (by decide) (by decide) (by decide)) (by decide) (by decide) (by decide)) (by decide) (by decide) (by decide)))) (hH9.fr (by rw [hw2, hw1]; exact (Agw.c (Agw.c (Agw.c (Agw.c Agw.rf (by decide) (by decide) (by decide)) (by decide) (by decide) (by decide)) (by decide) (by decide) (by decide)) (by decide) (by decide) (by decide)))) (hC9.fr (by rw [hw2, hw1]; exact (Agw.c (Agw.c (Agw.c (Agw.c Agw.rf (by decide) (by decide) (by decide)) (by decide) (by decide) (by decide)) (by decide) (by decide) (by decide)) (by decide) (by decide) (by decide)))) (hT9.fr (by rw [hw2, hw1]; exact (Agw.c (Agw.c (Agw.c (Agw.c Agw.rf (by decide) (by decide) (by decide)) (by decide) (by decide) (by decide)) (by decide) (by decide) (by decide)) (by decide) (by decide) (by decide)))) (hL9.fr (by rw [hw2, hw1]; exact (Agw.c (Agw.c (Agw.c (Agw.c Agw.rf (by decide) (by decide) (by decide)) (by decide) (by decide) (by decide)) (by decide) (by decide) (by decide)) (by decide) (by decide) (by decide)))) (hV9.fr (by rw [hw2, hw1]; exact (Agw.c (Agw.c (Agw.c (Agw.c Agw.rf (by decide) (by decide) (by decide)) (by decide) (by decide) (by decide)) (by decide) (by decide) (by decide)) (by decide) (by decide) (by decide)))) (hP9.fr (by rw [hw2, hw1]; exact (Agw.c (Agw.c (Agw.c (Agw.c Agw.rf (by decide) (by decide) (by decide)) (by decide) (by decide) (by decide)) (by decide) (by decide) (by decide)) (by decide) (by decide) (by decide)))) nGN (hO9.fr (by rw [hw2, hw1]; exact (Agw.c (Agw.c (Agw.c (Agw.c Agw.rf (by decide) (by decide) (by decide)) (by decide) (by decide) (by decide)) (by decide) (by decide) (by decide)) (by decide) (by decide) (by decide)))) (hK9.fr (by rw [hw2, hw1]; exact (Agw.c (Agw.c (Agw.c (Agw.c Agw.rf (by decide) (by decide) (by decide)) (by decide) (by decide) (by decide)) (by decide) (by decide) (by decide)) (by decide) (by decide) (by decide))))
    · exact absurd hc9 hd9
  · skip
    have k0 : w1 141 4 = w 141 4 := by rw [hw1]
    have kk0 : w 141 4 = w 15 10 := by exact hH9.1.1
    have hm9 := m_needs q k l w1 (by rw [k0]; rw [hH9.1.1]; exact hH9.1.2)
    rw [k0, kk0] at hm9
    refine CallN.deep (hm9.conseq (fun r w2 hq => ?_)) (by decide)
    obtain ⟨z2, rfl, hq⟩ := hq
    refine ⟨z2, rfl, ?_⟩
    rcases hq with ⟨hd9, hz2, hw2⟩ | ⟨hd9, hz2, hw2⟩
    · exact absurd hd9 hc9
    · rw [hw2, hw1]
      exact ⟨hz2.trans hz9.symm, (show GAl w from ⟨s9, b9, LN9, hR9, hH9, hC9, hT9, hL9, hV9, hP9, hN9, hO9, hK9⟩)⟩

theorem op_purse (k v : Int) {w : Wd} (h : GAl w) : OpI mX11_purse mX12_purse [(2, 0), (0, k), (0, v)] [(2, 141), (0, k), (0, v)] w := by
  obtain ⟨s9, b9, LN9, hR9, hH9, hC9, hT9, hL9, hV9, hP9, hN9, hO9, hK9⟩ := h
  refine ⟨_, CallN.deep (x_purse k v w ) (by decide), fun z w1 hJ => ?_⟩
  rcases hJ with ⟨hc9, hz9, hw1⟩ | ⟨hc9, hz9, hw1⟩
  · skip
    have hm9 := m_purse k v w1 
    refine CallN.deep (hm9.conseq (fun r w2 hq => ?_)) (by decide)
    obtain ⟨z2, rfl, hq⟩ := hq
    refine ⟨z2, rfl, ?_⟩
    rcases hq with ⟨hd9, hz2, hw2⟩ | ⟨hd9, hz2, hw2⟩
    · refine ⟨hz2.trans hz9.symm, s9, b9, LN9, ?_⟩
      have nGO : GO w2 := by
        have e131 : w2 131 = updF (w 131) (k - 16) v := by rw [hw2, wu_ne (by decide), hw1, wu_upM]
        have e132 : w2 132 = w 132 := by rw [hw2, wu_ne (by decide), hw1, wu_ne (by decide)]
        have e201 : w2 201 = w 201 := by rw [hw2, wu_ne (by decide), hw1, wu_ne (by decide)]
        have e202 : w2 202 = updF (w 202) k v := by rw [hw2, wu_upM, hw1, wu_ne (by decide)]
        have er : ∀ c : Int, 0 ≤ c → c < 20 → w2 (111 + Int.toNat c) = w (111 + Int.toNat c) := fun c c0 c1 => by rw [hw2, wu_ne (by omega), hw1, wu_ne (by omega)]
        unfold GO at hO9 ⊢
        rw [e131, e132, e201, e202]
        obtain ⟨a1, a2, a3⟩ := hO9
        refine ⟨a1, fun j j0 j1 => ?_, fun c j c0 c1 j0 j1 => by rw [er c c0 c1]; exact a3 c j c0 c1 j0 j1⟩
        have old := a2 j j0 j1
        unfold updF
        by_cases e : j = k - 16
        · rw [if_pos (by omega), if_pos e]; omega
        · rw [if_neg (by omega), if_neg e]; exact old
      exact GI.mk (hR9.fr (by rw [hw2, hw1]; exact (Agw.c (Agw.c Agw.rf (by decide) (by decide) (by decide)) (by decide) (by decide) (by decide)))) (hH9.fr (by rw [hw2, hw1]; exact (Agw.c (Agw.c Agw.rf (by decide) (by decide) (by decide)) (by decide) (by decide) (by decide)))) (hC9.fr (by rw [hw2, hw1]; exact (Agw.c (Agw.c Agw.rf (by decide) (by decide) (by decide)) (by decide) (by decide) (by decide)))) (hT9.fr (by rw [hw2, hw1]; exact (Agw.c (Agw.c Agw.rf (by decide) (by decide) (by decide)) (by decide) (by decide) (by decide)))) (hL9.fr (by rw [hw2, hw1]; exact (Agw.c (Agw.c Agw.rf (by decide) (by decide) (by decide)) (by decide) (by decide) (by decide)))) (hV9.fr (by rw [hw2, hw1]; exact (Agw.c (Agw.c Agw.rf (by decide) (by decide) (by decide)) (by decide) (by decide) (by decide)))) (hP9.fr (by rw [hw2, hw1]; exact (Agw.c (Agw.c Agw.rf (by decide) (by decide) (by decide)) (by decide) (by decide) (by decide)))) (hN9.fr (by rw [hw2, hw1]; exact (Agw.c (Agw.c Agw.rf (by decide) (by decide) (by decide)) (by decide) (by decide) (by decide)))) nGO (hK9.fr (by rw [hw2, hw1]; exact (Agw.c (Agw.c Agw.rf (by decide) (by decide) (by decide)) (by decide) (by decide) (by decide))))
    · exact absurd hc9 hd9
  · skip
    have hm9 := m_purse k v w1 
    refine CallN.deep (hm9.conseq (fun r w2 hq => ?_)) (by decide)
    obtain ⟨z2, rfl, hq⟩ := hq
    refine ⟨z2, rfl, ?_⟩
    rcases hq with ⟨hd9, hz2, hw2⟩ | ⟨hd9, hz2, hw2⟩
    · exact absurd hd9 hc9
    · rw [hw2, hw1]
      exact ⟨hz2.trans hz9.symm, (show GAl w from ⟨s9, b9, LN9, hR9, hH9, hC9, hT9, hL9, hV9, hP9, hN9, hO9, hK9⟩)⟩

theorem op_stand (f v : Int) {w : Wd} (h : GAl w) : OpI mX11_stand mX12_stand [(2, 0), (0, f), (0, v)] [(2, 141), (0, f), (0, v)] w := by
  obtain ⟨s9, b9, LN9, hR9, hH9, hC9, hT9, hL9, hV9, hP9, hN9, hO9, hK9⟩ := h
  refine ⟨_, CallN.deep (x_stand f v w ) (by decide), fun z w1 hJ => ?_⟩
  rcases hJ with ⟨hc9, hz9, hw1⟩ | ⟨hc9, hz9, hw1⟩
  · skip
    have hm9 := m_stand f v w1 
    refine CallN.deep (hm9.conseq (fun r w2 hq => ?_)) (by decide)
    obtain ⟨z2, rfl, hq⟩ := hq
    refine ⟨z2, rfl, ?_⟩
    rcases hq with ⟨hd9, hz2, hw2⟩ | ⟨hd9, hz2, hw2⟩
    · refine ⟨hz2.trans hz9.symm, s9, b9, LN9, ?_⟩
      have nGK : GK w2 := by
        have e140 : w2 140 = updF (w 140) f v := by rw [hw2, wu_ne (by decide), hw1, wu_upM]
        have e208 : w2 208 = w 208 := by rw [hw2, wu_ne (by decide), hw1, wu_ne (by decide)]
        have e209 : w2 209 = updF (w 209) f v := by rw [hw2, wu_upM, hw1, wu_ne (by decide)]
        have f135_2 : w2 135 2 = w 135 2 := by rw [hw2, wu_ne (by decide), hw1, wu_ne (by decide)]
        have f141_9 : w2 141 9 = w 141 9 := by rw [hw2, wu_ne (by decide), hw1, wu_ne (by decide)]
        have er : ∀ c : Int, 0 ≤ c → c < 3 → w2 (137 + Int.toNat c) = w (137 + Int.toNat c) := fun c c0 c1 => by rw [hw2, wu_ne (by omega), hw1, wu_ne (by omega)]
        unfold GK at hK9 ⊢
        rw [e140, e208, e209, f135_2, f141_9]
        obtain ⟨a1, a2, a3⟩ := hK9
        exact ⟨a1, by rw [a2], fun c j c0 c1 j0 j1 => by rw [er c c0 c1]; exact a3 c j c0 c1 j0 j1⟩
      exact GI.mk (hR9.fr (by rw [hw2, hw1]; exact (Agw.c (Agw.c Agw.rf (by decide) (by decide) (by decide)) (by decide) (by decide) (by decide)))) (hH9.fr (by rw [hw2, hw1]; exact (Agw.c (Agw.c Agw.rf (by decide) (by decide) (by decide)) (by decide) (by decide) (by decide)))) (hC9.fr (by rw [hw2, hw1]; exact (Agw.c (Agw.c Agw.rf (by decide) (by decide) (by decide)) (by decide) (by decide) (by decide)))) (hT9.fr (by rw [hw2, hw1]; exact (Agw.c (Agw.c Agw.rf (by decide) (by decide) (by decide)) (by decide) (by decide) (by decide)))) (hL9.fr (by rw [hw2, hw1]; exact (Agw.c (Agw.c Agw.rf (by decide) (by decide) (by decide)) (by decide) (by decide) (by decide)))) (hV9.fr (by rw [hw2, hw1]; exact (Agw.c (Agw.c Agw.rf (by decide) (by decide) (by decide)) (by decide) (by decide) (by decide)))) (hP9.fr (by rw [hw2, hw1]; exact (Agw.c (Agw.c Agw.rf (by decide) (by decide) (by decide)) (by decide) (by decide) (by decide)))) (hN9.fr (by rw [hw2, hw1]; exact (Agw.c (Agw.c Agw.rf (by decide) (by decide) (by decide)) (by decide) (by decide) (by decide)))) (hO9.fr (by rw [hw2, hw1]; exact (Agw.c (Agw.c Agw.rf (by decide) (by decide) (by decide)) (by decide) (by decide) (by decide)))) nGK
    · exact absurd hc9 hd9
  · skip
    have hm9 := m_stand f v w1 
    refine CallN.deep (hm9.conseq (fun r w2 hq => ?_)) (by decide)
    obtain ⟨z2, rfl, hq⟩ := hq
    refine ⟨z2, rfl, ?_⟩
    rcases hq with ⟨hd9, hz2, hw2⟩ | ⟨hd9, hz2, hw2⟩
    · exact absurd hd9 hc9
    · rw [hw2, hw1]
      exact ⟨hz2.trans hz9.symm, (show GAl w from ⟨s9, b9, LN9, hR9, hH9, hC9, hT9, hL9, hV9, hP9, hN9, hO9, hK9⟩)⟩

theorem op_change (a u n : Int) {w : Wd} (h : GAl w) : OpI mX11_change mX12_change [(2, 0), (0, a), (0, u), (0, n)] [(2, 141), (0, a), (0, u), (0, n)] w := by
  obtain ⟨s9, b9, LN9, hR9, hH9, hC9, hT9, hL9, hV9, hP9, hN9, hO9, hK9⟩ := h
  have hb9 := hV9.1
  refine ⟨_, CallN.deep (x_change a u n w hV9.1.2) (by decide), fun z w1 hJ => ?_⟩
  rcases hJ with ⟨hc9, hz9, hw1⟩ | ⟨hc9, hz9, hw1⟩
  · skip
    have k0 : w1 141 7 = w 141 7 := by rw [hw1, wu_ne (by omega)]
    have kk0 : w 141 7 = w 88 2 := by exact hV9.1.1
    have hm9 := m_change a u n w1 (by rw [k0]; rw [hV9.1.1]; exact hV9.1.2)
    rw [k0, kk0] at hm9
    refine CallN.deep (hm9.conseq (fun r w2 hq => ?_)) (by decide)
    obtain ⟨z2, rfl, hq⟩ := hq
    refine ⟨z2, rfl, ?_⟩
    rcases hq with ⟨hd9, hz2, hw2⟩ | ⟨hd9, hz2, hw2⟩
    · refine ⟨hz2.trans hz9.symm, s9, b9, LN9, ?_⟩
      have nGV : GV w2 := by
        have e89 : w2 89 = w 89 := by rw [hw2, wu_ne (by decide), hw1, wu_ne (by omega)]
        have e192 : w2 192 = w 192 := by rw [hw2, wu_ne (by decide), hw1, wu_ne (by omega)]
        have e193 : w2 193 = updF (w 193) (9 * a + u) n := by rw [hw2, wu_upM, hw1, wu_ne (by omega)]
        have f88_2 : w2 88 2 = w 88 2 := by rw [hw2, wu_ne (by decide), hw1, wu_ne (by omega)]
        have f141_7 : w2 141 7 = w 141 7 := by rw [hw2, wu_ne (by decide), hw1, wu_ne (by omega)]
        unfold GV at hV9 ⊢
        rw [e89, e192, e193, f88_2, f141_7]
        obtain ⟨a1, a2, a3, a4⟩ := hV9
        refine ⟨a1, a2, a3, fun c j c0 c1 j0 j1 => ?_⟩
        have old := a4 c j c0 c1 j0 j1
        have er : w2 (91 + Int.toNat c) j = if c = a ∧ j = u then n else w (91 + Int.toNat c) j := by
          rw [hw2, wu_ne (by omega), hw1]
          by_cases e : c = a
          · rw [e, wu_at]
            by_cases e2 : j = u
            · rw [if_pos e2, if_pos ⟨rfl, e2⟩]
            · rw [if_neg e2, if_neg (fun z => e2 z.2)]
          · rw [wu_ne (by omega), if_neg (fun z => e z.1)]
        rw [er]
        unfold updF
        by_cases e : c = a ∧ j = u
        · rw [if_pos (by omega), if_pos e]; omega
        · rw [if_neg (by omega), if_neg e]; exact old
      exact GI.mk (hR9.fr (by rw [hw2, hw1]; exact (Agw.c (Agw.r Agw.rf (lo := 91) (hi := 100) ⟨by omega, by omega⟩ (by decide) (by decide) (by decide)) (by decide) (by decide) (by decide)))) (hH9.fr (by rw [hw2, hw1]; exact (Agw.c (Agw.r Agw.rf (lo := 91) (hi := 100) ⟨by omega, by omega⟩ (by decide) (by decide) (by decide)) (by decide) (by decide) (by decide)))) (hC9.fr (by rw [hw2, hw1]; exact (Agw.c (Agw.r Agw.rf (lo := 91) (hi := 100) ⟨by omega, by omega⟩ (by decide) (by decide) (by decide)) (by decide) (by decide) (by decide)))) (hT9.fr (by rw [hw2, hw1]; exact (Agw.c (Agw.r Agw.rf (lo := 91) (hi := 100) ⟨by omega, by omega⟩ (by decide) (by decide) (by decide)) (by decide) (by decide) (by decide)))) (hL9.fr (by rw [hw2, hw1]; exact (Agw.c (Agw.r Agw.rf (lo := 91) (hi := 100) ⟨by omega, by omega⟩ (by decide) (by decide) (by decide)) (by decide) (by decide) (by decide)))) nGV (hP9.fr (by rw [hw2, hw1]; exact (Agw.c (Agw.r Agw.rf (lo := 91) (hi := 100) ⟨by omega, by omega⟩ (by decide) (by decide) (by decide)) (by decide) (by decide) (by decide)))) (hN9.fr (by rw [hw2, hw1]; exact (Agw.c (Agw.r Agw.rf (lo := 91) (hi := 100) ⟨by omega, by omega⟩ (by decide) (by decide) (by decide)) (by decide) (by decide) (by decide)))) (hO9.fr (by rw [hw2, hw1]; exact (Agw.c (Agw.r Agw.rf (lo := 91) (hi := 100) ⟨by omega, by omega⟩ (by decide) (by decide) (by decide)) (by decide) (by decide) (by decide)))) (hK9.fr (by rw [hw2, hw1]; exact (Agw.c (Agw.r Agw.rf (lo := 91) (hi := 100) ⟨by omega, by omega⟩ (by decide) (by decide) (by decide)) (by decide) (by decide) (by decide))))
    · exact absurd hc9 hd9
  · skip
    have k0 : w1 141 7 = w 141 7 := by rw [hw1]
    have kk0 : w 141 7 = w 88 2 := by exact hV9.1.1
    have hm9 := m_change a u n w1 (by rw [k0]; rw [hV9.1.1]; exact hV9.1.2)
    rw [k0, kk0] at hm9
    refine CallN.deep (hm9.conseq (fun r w2 hq => ?_)) (by decide)
    obtain ⟨z2, rfl, hq⟩ := hq
    refine ⟨z2, rfl, ?_⟩
    rcases hq with ⟨hd9, hz2, hw2⟩ | ⟨hd9, hz2, hw2⟩
    · exact absurd hd9 hc9
    · rw [hw2, hw1]
      exact ⟨hz2.trans hz9.symm, (show GAl w from ⟨s9, b9, LN9, hR9, hH9, hC9, hT9, hL9, hV9, hP9, hN9, hO9, hK9⟩)⟩

theorem sumI_c {f g : Int → Int} : ∀ n : Nat, (∀ j : Int, 0 ≤ j → j < n → f j = g j) → sumI f n = sumI g n
  | 0, _ => rfl
  | n + 1, h => by
    show sumI f n + f n = sumI g n + g n
    rw [sumI_c n (fun j a b => h j a (by omega)), h n (by omega) (by omega)]
theorem sumI_up {f g : Int → Int} {k x : Int} (hk : 0 ≤ k) (h : ∀ j, j ≠ k → g j = f j) (hx : g k = x) : ∀ n : Nat, sumI g n = sumI f n + (if k < n then x - f k else 0)
  | 0 => by show (0 : Int) = 0 + _; rw [if_neg (by omega)]; rfl
  | n + 1 => by
    show sumI g n + g n = sumI f n + f n + _
    rw [sumI_up hk h hx n]
    by_cases e : (n : Int) = k
    · rw [e, hx, if_neg (by omega), if_pos (by omega)]; omega
    · rw [h _ e]
      by_cases e2 : k < n
      · rw [if_pos e2, if_pos (by omega)]; omega
      · rw [if_neg e2, if_neg (by omega)]; omega
theorem owM_up {f : Int → Int} {a b x i : Int} (ha : 0 ≤ a) (hb : 0 ≤ b ∧ b < 20) (hi : 0 ≤ i) : owM (updF f (20 * a + b) x) i = if i = a then owM f a + (x - f (20 * a + b)) else owM f i := by
  unfold owM
  by_cases e : i = a
  · rw [if_pos e, e, sumI_up (f := fun j => f (20 * a + j)) (k := b) (x := x) hb.1 (fun j hj => by show updF f _ x _ = _; unfold updF; rw [if_neg (by omega)]) (by show updF f _ x _ = _; unfold updF; rw [if_pos rfl]), if_pos (by omega)]
  · rw [if_neg e]
    exact sumI_c 20 (fun j j0 j1 => by show updF f _ x _ = _; unfold updF; rw [if_neg (by omega)])
theorem owM_bd {w : Wd} (h : GO w) {i : Int} (i0 : 0 ≤ i) (i1 : i < 20) : 0 ≤ w 132 i ∧ w 132 i ≤ 2000000 := by
  rw [h.1 i i0 i1]
  have key : ∀ n : Nat, n ≤ 20 → 0 ≤ sumI (fun j => w 201 (20 * i + j)) n ∧ sumI (fun j => w 201 (20 * i + j)) n ≤ 99999 * n := by
    intro n
    induction n with
    | zero => intro _; exact ⟨Int.le_refl 0, Int.le_refl 0⟩
    | succ n ih =>
      intro hn
      have h1 := ih (by omega)
      have h2 := h.2.2 i n i0 i1 (by omega) (by omega)
      rw [← h2.1] at h2
      show 0 ≤ sumI (fun j => w 201 (20 * i + j)) n + w 201 (20 * i + n) ∧ sumI (fun j => w 201 (20 * i + j)) n + w 201 (20 * i + n) ≤ 99999 * ((n + 1 : Nat) : Int)
      omega
  have h9 := key 20 (Nat.le_refl _)
  unfold owM
  omega
theorem op_owe (a u v : Int) {w : Wd} (h : GAl w) : OpI mX11_owe mX12_owe [(2, 0), (0, a), (0, u), (0, v)] [(2, 141), (0, a), (0, u), (0, v)] w := by
  obtain ⟨s9, b9, LN9, hR9, hH9, hC9, hT9, hL9, hV9, hP9, hN9, hO9, hK9⟩ := h
  refine ⟨_, CallN.deep (x_owe a u v w (fun j i j0 j1 i0 i1 => (hO9.2.2 j i j0 j1 i0 i1).2) (fun j j0 j1 => owM_bd hO9 j0 j1)) (by decide), fun z w1 hJ => ?_⟩
  rcases hJ with ⟨hc9, hz9, hw1⟩ | ⟨hc9, hz9, hw1⟩
  · skip
    have hm9 := m_owe a u v w1 
    refine CallN.deep (hm9.conseq (fun r w2 hq => ?_)) (by decide)
    obtain ⟨z2, rfl, hq⟩ := hq
    refine ⟨z2, rfl, ?_⟩
    rcases hq with ⟨hd9, hz2, hw2⟩ | ⟨hd9, hz2, hw2⟩
    · refine ⟨hz2.trans hz9.symm, s9, b9, LN9, ?_⟩
      have nGO : GO w2 := by
        have e131 : w2 131 = w 131 := by rw [hw2, wu_ne (by decide), hw1, wu_ne (by omega), wu_ne (by decide)]
        have e132 : w2 132 = updF (w 132) a ((w 132 a) + (v - (w (111 + Int.toNat a) u))) := by rw [hw2, wu_ne (by decide), hw1, wu_ne (by omega), wu_upM]
        have e201 : w2 201 = updF (w 201) (20 * a + u) v := by rw [hw2, wu_upM, hw1, wu_ne (by omega), wu_ne (by decide)]
        have e202 : w2 202 = w 202 := by rw [hw2, wu_ne (by decide), hw1, wu_ne (by omega), wu_ne (by decide)]
        unfold GO at hO9 ⊢
        rw [e131, e132, e201, e202]
        obtain ⟨a1, a2, a3⟩ := hO9
        have old9 := a3 a u (by omega) (by omega) (by omega) (by omega)
        refine ⟨fun i i0 i1 => ?_, a2, fun c j c0 c1 j0 j1 => ?_⟩
        · rw [owM_up (by omega) (by omega) i0, ← a1 a (by omega) (by omega), old9.1]
          unfold updF
          by_cases e : i = a
          · rw [if_pos e, if_pos e]
          · rw [if_neg e, if_neg e]; exact a1 i i0 i1
        · have old := a3 c j c0 c1 j0 j1
          have er : w2 (111 + Int.toNat c) j = if c = a ∧ j = u then v else w (111 + Int.toNat c) j := by
            rw [hw2, wu_ne (by omega), hw1]
            by_cases e : c = a
            · rw [e, wu_at]
              by_cases e2 : j = u
              · rw [if_pos e2, if_pos ⟨rfl, e2⟩]
              · rw [if_neg e2, if_neg (fun z => e2 z.2), wu_ne (by omega)]
            · rw [wu_ne (by omega), if_neg (fun z => e z.1), wu_ne (by omega)]
          rw [er]
          unfold updF
          by_cases e : c = a ∧ j = u
          · rw [if_pos (by omega), if_pos e]; omega
          · rw [if_neg (by omega), if_neg e]; exact old
      exact GI.mk (hR9.fr (by rw [hw2, hw1]; exact (Agw.c (Agw.r (Agw.c Agw.rf (by decide) (by decide) (by decide)) (lo := 111) (hi := 131) ⟨by omega, by omega⟩ (by decide) (by decide) (by decide)) (by decide) (by decide) (by decide)))) (hH9.fr (by rw [hw2, hw1]; exact (Agw.c (Agw.r (Agw.c Agw.rf (by decide) (by decide) (by decide)) (lo := 111) (hi := 131) ⟨by omega, by omega⟩ (by decide) (by decide) (by decide)) (by decide) (by decide) (by decide)))) (hC9.fr (by rw [hw2, hw1]; exact (Agw.c (Agw.r (Agw.c Agw.rf (by decide) (by decide) (by decide)) (lo := 111) (hi := 131) ⟨by omega, by omega⟩ (by decide) (by decide) (by decide)) (by decide) (by decide) (by decide)))) (hT9.fr (by rw [hw2, hw1]; exact (Agw.c (Agw.r (Agw.c Agw.rf (by decide) (by decide) (by decide)) (lo := 111) (hi := 131) ⟨by omega, by omega⟩ (by decide) (by decide) (by decide)) (by decide) (by decide) (by decide)))) (hL9.fr (by rw [hw2, hw1]; exact (Agw.c (Agw.r (Agw.c Agw.rf (by decide) (by decide) (by decide)) (lo := 111) (hi := 131) ⟨by omega, by omega⟩ (by decide) (by decide) (by decide)) (by decide) (by decide) (by decide)))) (hV9.fr (by rw [hw2, hw1]; exact (Agw.c (Agw.r (Agw.c Agw.rf (by decide) (by decide) (by decide)) (lo := 111) (hi := 131) ⟨by omega, by omega⟩ (by decide) (by decide) (by decide)) (by decide) (by decide) (by decide)))) (hP9.fr (by rw [hw2, hw1]; exact (Agw.c (Agw.r (Agw.c Agw.rf (by decide) (by decide) (by decide)) (lo := 111) (hi := 131) ⟨by omega, by omega⟩ (by decide) (by decide) (by decide)) (by decide) (by decide) (by decide)))) (hN9.fr (by rw [hw2, hw1]; exact (Agw.c (Agw.r (Agw.c Agw.rf (by decide) (by decide) (by decide)) (lo := 111) (hi := 131) ⟨by omega, by omega⟩ (by decide) (by decide) (by decide)) (by decide) (by decide) (by decide)))) nGO (hK9.fr (by rw [hw2, hw1]; exact (Agw.c (Agw.r (Agw.c Agw.rf (by decide) (by decide) (by decide)) (lo := 111) (hi := 131) ⟨by omega, by omega⟩ (by decide) (by decide) (by decide)) (by decide) (by decide) (by decide))))
    · exact absurd hc9 hd9
  · skip
    have hm9 := m_owe a u v w1 
    refine CallN.deep (hm9.conseq (fun r w2 hq => ?_)) (by decide)
    obtain ⟨z2, rfl, hq⟩ := hq
    refine ⟨z2, rfl, ?_⟩
    rcases hq with ⟨hd9, hz2, hw2⟩ | ⟨hd9, hz2, hw2⟩
    · exact absurd hd9 hc9
    · rw [hw2, hw1]
      exact ⟨hz2.trans hz9.symm, (show GAl w from ⟨s9, b9, LN9, hR9, hH9, hC9, hT9, hL9, hV9, hP9, hN9, hO9, hK9⟩)⟩

theorem op_clause (a u v : Int) {w : Wd} (h : GAl w) : OpI mX11_clause mX12_clause [(2, 0), (0, a), (0, u), (0, v)] [(2, 141), (0, a), (0, u), (0, v)] w := by
  obtain ⟨s9, b9, LN9, hR9, hH9, hC9, hT9, hL9, hV9, hP9, hN9, hO9, hK9⟩ := h
  refine ⟨_, CallN.deep (x_clause a u v w hK9.1.2) (by decide), fun z w1 hJ => ?_⟩
  rcases hJ with ⟨hc9, hz9, hw1⟩ | ⟨hc9, hz9, hw1⟩
  · skip
    have k0 : w1 141 9 = w 141 9 := by rw [hw1, wu_ne (by decide), wu_ne (by decide), wu_ne (by decide), wu_ne (by decide)]
    have kk0 : w 141 9 = w 135 2 := by exact hK9.1.1
    have hm9 := m_clause a u v w1 (by rw [k0]; rw [hK9.1.1]; exact hK9.1.2)
    rw [k0, kk0] at hm9
    refine CallN.deep (hm9.conseq (fun r w2 hq => ?_)) (by decide)
    obtain ⟨z2, rfl, hq⟩ := hq
    refine ⟨z2, rfl, ?_⟩
    rcases hq with ⟨hd9, hz2, hw2⟩ | ⟨hd9, hz2, hw2⟩
    · refine ⟨hz2.trans hz9.symm, s9, b9, LN9, ?_⟩
      have nGK : GK w2 := by
        have e140 : w2 140 = w 140 := by rw [hw2, wu_ne (by decide), wu_ne (by decide), wu_ne (by decide), wu_ne (by decide), hw1, wu_ne (by decide), wu_ne (by decide), wu_ne (by decide), wu_ne (by decide)]
        have e208 : w2 208 = updF (updF (updF (w 208) (3 * (w 135 2)) a) (3 * (w 135 2) + 1) u) (3 * (w 135 2) + 2) v := by rw [hw2, wu_ne (by decide), wu_upM, wu_upM, wu_upM, hw1, wu_ne (by decide), wu_ne (by decide), wu_ne (by decide), wu_ne (by decide)]
        have e209 : w2 209 = w 209 := by rw [hw2, wu_ne (by decide), wu_ne (by decide), wu_ne (by decide), wu_ne (by decide), hw1, wu_ne (by decide), wu_ne (by decide), wu_ne (by decide), wu_ne (by decide)]
        have f135_2 : w2 135 2 = w 135 2 + 1 := by rw [hw2, wu_ne (by decide), wu_ne (by decide), wu_ne (by decide), wu_ne (by decide), hw1, wu_same]
        have f141_9 : w2 141 9 = w 135 2 + 1 := by rw [hw2, wu_same]
        unfold GK at hK9 ⊢
        rw [e140, e208, e209, f135_2, f141_9]
        obtain ⟨a1, a2, a3⟩ := hK9
        refine ⟨⟨rfl, by omega, by omega⟩, a2, fun f j f0 f1 j0 j1 => ?_⟩
        have r0 : ∀ i, w2 137 i = if i = w 135 2 then a else w 137 i := fun i => by rw [hw2, wu_ne (by decide), wu_ne (by decide), wu_ne (by decide), wu_ne (by decide), hw1, wu_ne (by decide), wu_ne (by decide), wu_ne (by decide), wu_at]
        have r1 : ∀ i, w2 138 i = if i = w 135 2 then u else w 138 i := fun i => by rw [hw2, wu_ne (by decide), wu_ne (by decide), wu_ne (by decide), wu_ne (by decide), hw1, wu_ne (by decide), wu_ne (by decide), wu_at, wu_ne (by decide)]
        have r2 : ∀ i, w2 139 i = if i = w 135 2 then v else w 139 i := fun i => by rw [hw2, wu_ne (by decide), wu_ne (by decide), wu_ne (by decide), wu_ne (by decide), hw1, wu_ne (by decide), wu_at, wu_ne (by decide), wu_ne (by decide)]
        rcases (show f = 0 ∨ f = 1 ∨ f = 2 by omega) with e | e | e <;> subst e
        · show updF _ _ _ _ = w2 137 j ∧ -99 ≤ w2 137 j ∧ w2 137 j ≤ 99
          rw [r0]
          unfold updF
          by_cases e : j = w 135 2
          · rw [if_pos e, if_neg (by omega), if_neg (by omega), if_pos (by omega)]; omega
          · rw [if_neg e, if_neg (by omega), if_neg (by omega), if_neg (by omega)]; exact a3 0 j f0 f1 j0 (by omega)
        · show updF _ _ _ _ = w2 138 j ∧ -99 ≤ w2 138 j ∧ w2 138 j ≤ 99
          rw [r1]
          unfold updF
          by_cases e : j = w 135 2
          · rw [if_pos e, if_neg (by omega), if_pos (by omega)]; omega
          · rw [if_neg e, if_neg (by omega), if_neg (by omega), if_neg (by omega)]; exact a3 1 j f0 f1 j0 (by omega)
        · show updF _ _ _ _ = w2 139 j ∧ -99 ≤ w2 139 j ∧ w2 139 j ≤ 99
          rw [r2]
          unfold updF
          by_cases e : j = w 135 2
          · rw [if_pos e, if_pos (by omega)]; omega
          · rw [if_neg e, if_neg (by omega), if_neg (by omega), if_neg (by omega)]; exact a3 2 j f0 f1 j0 (by omega)
      exact GI.mk (hR9.fr (by rw [hw2, hw1]; exact (Agw.f (Agw.c (Agw.c (Agw.c (Agw.c (Agw.c (Agw.c (Agw.c Agw.rf (by decide) (by decide) (by decide)) (by decide) (by decide) (by decide)) (by decide) (by decide) (by decide)) (by decide) (by decide) (by decide)) (by decide) (by decide) (by decide)) (by decide) (by decide) (by decide)) (by decide) (by decide) (by decide)) (by decide) (by decide) (by decide)))) (hH9.fr (by rw [hw2, hw1]; exact (Agw.f (Agw.c (Agw.c (Agw.c (Agw.c (Agw.c (Agw.c (Agw.c Agw.rf (by decide) (by decide) (by decide)) (by decide) (by decide) (by decide)) (by decide) (by decide) (by decide)) (by decide) (by decide) (by decide)) (by decide) (by decide) (by decide)) (by decide) (by decide) (by decide)) (by decide) (by decide) (by decide)) (by decide) (by decide) (by decide)))) (hC9.fr (by rw [hw2, hw1]; exact (Agw.f (Agw.c (Agw.c (Agw.c (Agw.c (Agw.c (Agw.c (Agw.c Agw.rf (by decide) (by decide) (by decide)) (by decide) (by decide) (by decide)) (by decide) (by decide) (by decide)) (by decide) (by decide) (by decide)) (by decide) (by decide) (by decide)) (by decide) (by decide) (by decide)) (by decide) (by decide) (by decide)) (by decide) (by decide) (by decide)))) (hT9.fr (by rw [hw2, hw1]; exact (Agw.f (Agw.c (Agw.c (Agw.c (Agw.c (Agw.c (Agw.c (Agw.c Agw.rf (by decide) (by decide) (by decide)) (by decide) (by decide) (by decide)) (by decide) (by decide) (by decide)) (by decide) (by decide) (by decide)) (by decide) (by decide) (by decide)) (by decide) (by decide) (by decide)) (by decide) (by decide) (by decide)) (by decide) (by decide) (by decide)))) (hL9.fr (by rw [hw2, hw1]; exact (Agw.c (Agw.c (Agw.c (Agw.c (Agw.c (Agw.c (Agw.c (Agw.c Agw.rf (by decide) (by decide) (by decide)) (by decide) (by decide) (by decide)) (by decide) (by decide) (by decide)) (by decide) (by decide) (by decide)) (by decide) (by decide) (by decide)) (by decide) (by decide) (by decide)) (by decide) (by decide) (by decide)) (by decide) (by decide) (by decide)))) (hV9.fr (by rw [hw2, hw1]; exact (Agw.f (Agw.c (Agw.c (Agw.c (Agw.c (Agw.c (Agw.c (Agw.c Agw.rf (by decide) (by decide) (by decide)) (by decide) (by decide) (by decide)) (by decide) (by decide) (by decide)) (by decide) (by decide) (by decide)) (by decide) (by decide) (by decide)) (by decide) (by decide) (by decide)) (by decide) (by decide) (by decide)) (by decide) (by decide) (by decide)))) (hP9.fr (by rw [hw2, hw1]; exact (Agw.f (Agw.c (Agw.c (Agw.c (Agw.c (Agw.c (Agw.c (Agw.c Agw.rf (by decide) (by decide) (by decide)) (by decide) (by decide) (by decide)) (by decide) (by decide) (by decide)) (by decide) (by decide) (by decide)) (by decide) (by decide) (by decide)) (by decide) (by decide) (by decide)) (by decide) (by decide) (by decide)) (by decide) (by decide) (by decide)))) (hN9.fr (by rw [hw2, hw1]; exact (Agw.c (Agw.c (Agw.c (Agw.c (Agw.c (Agw.c (Agw.c (Agw.c Agw.rf (by decide) (by decide) (by decide)) (by decide) (by decide) (by decide)) (by decide) (by decide) (by decide)) (by decide) (by decide) (by decide)) (by decide) (by decide) (by decide)) (by decide) (by decide) (by decide)) (by decide) (by decide) (by decide)) (by decide) (by decide) (by decide)))) (hO9.fr (by rw [hw2, hw1]; exact (Agw.c (Agw.c (Agw.c (Agw.c (Agw.c (Agw.c (Agw.c (Agw.c Agw.rf (by decide) (by decide) (by decide)) (by decide) (by decide) (by decide)) (by decide) (by decide) (by decide)) (by decide) (by decide) (by decide)) (by decide) (by decide) (by decide)) (by decide) (by decide) (by decide)) (by decide) (by decide) (by decide)) (by decide) (by decide) (by decide)))) nGK
    · exact absurd hc9 hd9
  · skip
    have k0 : w1 141 9 = w 141 9 := by rw [hw1]
    have kk0 : w 141 9 = w 135 2 := by exact hK9.1.1
    have hm9 := m_clause a u v w1 (by rw [k0]; rw [hK9.1.1]; exact hK9.1.2)
    rw [k0, kk0] at hm9
    refine CallN.deep (hm9.conseq (fun r w2 hq => ?_)) (by decide)
    obtain ⟨z2, rfl, hq⟩ := hq
    refine ⟨z2, rfl, ?_⟩
    rcases hq with ⟨hd9, hz2, hw2⟩ | ⟨hd9, hz2, hw2⟩
    · exact absurd hd9 hc9
    · rw [hw2, hw1]
      exact ⟨hz2.trans hz9.symm, (show GAl w from ⟨s9, b9, LN9, hR9, hH9, hC9, hT9, hL9, hV9, hP9, hN9, hO9, hK9⟩)⟩

theorem op_end (n : Int) {w : Wd} (h : GAl w) : OpI mX11_end mX12_end [(2, 0), (0, n)] [(2, 141), (0, n)] w := by
  obtain ⟨s9, b9, LN9, hR9, hH9, hC9, hT9, hL9, hV9, hP9, hN9, hO9, hK9⟩ := h
  refine ⟨_, CallN.deep (x_end n w ) (by decide), fun z w1 hJ => ?_⟩
  rcases hJ with ⟨hc9, hz9, hw1⟩ | ⟨hc9, hz9, hw1⟩
  · skip
    have k0 : w1 141 50 = w 141 50 := by rw [hw1, wu_ne (by decide)]
    have kk0 : w 141 50 = w 30 1 := by exact hT9.2.1.1
    have hm9 := m_end n w1 
    rw [k0, kk0] at hm9
    refine CallN.deep (hm9.conseq (fun r w2 hq => ?_)) (by decide)
    obtain ⟨z2, rfl, hq⟩ := hq
    refine ⟨z2, rfl, ?_⟩
    rcases hq with ⟨hd9, hz2, hw2⟩ | ⟨hd9, hz2, hw2⟩
    · refine ⟨hz2.trans hz9.symm, s9, b9, LN9, ?_⟩
      have nGT : GT w2 := by
        have e31 : w2 31 = w 31 := by rw [hw2, wu_ne (by decide), hw1, wu_ne (by decide)]
        have e178 : w2 178 = w 178 := by rw [hw2, wu_ne (by decide), hw1, wu_ne (by decide)]
        have f30_1 : w2 30 1 = n := by rw [hw2, wu_ne (by decide), hw1, wu_same]
        have f141_50 : w2 141 50 = n := by rw [hw2, wu_same]
        have f35_3 : w2 35 3 = w 35 3 := by rw [hw2, wu_ne (by decide), hw1, wu_ne (by decide)]
        have f35_4 : w2 35 4 = w 35 4 := by rw [hw2, wu_ne (by decide), hw1, wu_ne (by decide)]
        have f141_57 : w2 141 57 = w 141 57 := by rw [hw2, wu_at, if_neg (by decide), hw1, wu_ne (by decide)]
        have f141_59 : w2 141 59 = w 141 59 := by rw [hw2, wu_at, if_neg (by decide), hw1, wu_ne (by decide)]
        have f141_54 : w2 141 54 = w 141 54 := by rw [hw2, wu_at, if_neg (by decide), hw1, wu_ne (by decide)]
        unfold GT at hT9 ⊢
        rw [e31, e178, f30_1, f141_50, f35_3, f35_4, f141_57, f141_59, f141_54]
        obtain ⟨a1, a2, a3, a4, a5⟩ := hT9
        exact ⟨a1, ⟨rfl, by omega, by omega⟩, a3, a4, fun j j0 j1 => a5 j j0 (by omega)⟩
      exact GI.mk (hR9.fr (by rw [hw2, hw1]; exact (Agw.f (Agw.c Agw.rf (by decide) (by decide) (by decide)) (by decide) (by decide) (by decide)))) (hH9.fr (by rw [hw2, hw1]; exact (Agw.f (Agw.c Agw.rf (by decide) (by decide) (by decide)) (by decide) (by decide) (by decide)))) (hC9.fr (by rw [hw2, hw1]; exact (Agw.f (Agw.c Agw.rf (by decide) (by decide) (by decide)) (by decide) (by decide) (by decide)))) nGT (hL9.fr (by rw [hw2, hw1]; exact (Agw.c (Agw.c Agw.rf (by decide) (by decide) (by decide)) (by decide) (by decide) (by decide)))) (hV9.fr (by rw [hw2, hw1]; exact (Agw.f (Agw.c Agw.rf (by decide) (by decide) (by decide)) (by decide) (by decide) (by decide)))) (hP9.fr (by rw [hw2, hw1]; exact (Agw.f (Agw.c Agw.rf (by decide) (by decide) (by decide)) (by decide) (by decide) (by decide)))) (hN9.fr (by rw [hw2, hw1]; exact (Agw.c (Agw.c Agw.rf (by decide) (by decide) (by decide)) (by decide) (by decide) (by decide)))) (hO9.fr (by rw [hw2, hw1]; exact (Agw.c (Agw.c Agw.rf (by decide) (by decide) (by decide)) (by decide) (by decide) (by decide)))) (hK9.fr (by rw [hw2, hw1]; exact (Agw.f (Agw.c Agw.rf (by decide) (by decide) (by decide)) (by decide) (by decide) (by decide))))
    · exact absurd hc9 hd9
  · skip
    have k0 : w1 141 50 = w 141 50 := by rw [hw1]
    have kk0 : w 141 50 = w 30 1 := by exact hT9.2.1.1
    have hm9 := m_end n w1 
    rw [k0, kk0] at hm9
    refine CallN.deep (hm9.conseq (fun r w2 hq => ?_)) (by decide)
    obtain ⟨z2, rfl, hq⟩ := hq
    refine ⟨z2, rfl, ?_⟩
    rcases hq with ⟨hd9, hz2, hw2⟩ | ⟨hd9, hz2, hw2⟩
    · exact absurd hd9 hc9
    · rw [hw2, hw1]
      exact ⟨hz2.trans hz9.symm, (show GAl w from ⟨s9, b9, LN9, hR9, hH9, hC9, hT9, hL9, hV9, hP9, hN9, hO9, hK9⟩)⟩

