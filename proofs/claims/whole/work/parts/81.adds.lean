/-! CALLS THAT ADD SOMETHING. -/
abbrev OpI (μx μm : Mu) (ax am : List PV) (w : Wd) : Prop := ∃ J : Int → Wd → Prop, CallN 24 μx ax w (RQ J) ∧ ∀ z w1, J z w1 → CallN 39 μm am w1 (RQ (fun z2 w2 => z2 = z ∧ GAl w2))
abbrev OpJ (μx μm : Mu) (ax am : List PV) (w : Wd) : Prop := ∃ J : Int → Wd → Prop, CallN 24 μx ax w (RQL J) ∧ ∀ z w1, J z w1 → CallN 39 μm am w1 (RQL (fun z2 w2 => z2 = z ∧ GAl w2))
theorem HG.hall {f g : Int → Int} {a n : Int} (h : HG f g a n) : HG f (updF g n (-1)) a (n + 1) := by
  obtain ⟨h1, h2⟩ := h
  refine ⟨fun t t0 t1 => ?_, fun q q0 q1 => ?_⟩
  · rcases h1 t t0 t1 with y | ⟨y, y2⟩
    · exact Or.inl y
    · refine Or.inr ⟨by omega, ?_⟩
      unfold updF
      rw [if_neg (by omega)]
      exact y2
  · unfold updF
    by_cases e : q = n
    · rw [if_pos e]; exact Or.inl rfl
    · rw [if_neg e]; exact h2 q q0 (by omega)
theorem HG.tell {f g : Int → Int} {a n : Int} (h : HG f g a n) : HG (updF f a (-1)) g (a + 1) n := by
  obtain ⟨h1, h2⟩ := h
  refine ⟨fun t t0 t1 => ?_, fun q q0 q1 => ?_⟩
  · unfold updF
    by_cases e : t = a
    · rw [if_pos e]; exact Or.inl rfl
    · rw [if_neg e]; exact h1 t t0 (by omega)
  · rcases h2 q q0 q1 with y | ⟨y, y2⟩
    · exact Or.inl y
    · refine Or.inr ⟨by omega, ?_⟩
      unfold updF
      rw [if_neg (by omega)]
      exact y2
theorem op_hall (t s q u : Int) {w : Wd} (h : GAl w) : OpI mX11_hall mX12_hall [(2, 0), (0, t), (0, s), (0, q), (0, u)] [(2, 141), (0, t), (0, s), (0, q), (0, u)] w := by
  obtain ⟨s9, b9, LN9, hR9, hH9, hC9, hT9, hL9, hV9, hP9, hN9, hO9, hK9⟩ := h
  refine ⟨_, CallN.deep (x_hall t s q u w hH9.1.2) (by decide), fun z w1 hJ => ?_⟩
  rcases hJ with ⟨hc9, hz9, hw1⟩ | ⟨hc9, hz9, hw1⟩
  · skip
    have k0 : w1 141 4 = w 141 4 := by rw [hw1, wu_ne (by decide), wu_ne (by decide), wu_ne (by decide), wu_ne (by decide), wu_ne (by decide), wu_ne (by decide), wu_ne (by decide)]
    have kk0 : w 141 4 = w 15 10 := by exact hH9.1.1
    have hm9 := m_hall t s q u w1 (by rw [k0]; rw [hH9.1.1]; exact hH9.1.2)
    rw [k0, kk0] at hm9
    refine CallN.deep (hm9.conseq (fun r w2 hq => ?_)) (by decide)
    obtain ⟨z2, rfl, hq⟩ := hq
    refine ⟨z2, rfl, ?_⟩
    rcases hq with ⟨hd9, hz2, hw2⟩ | ⟨hd9, hz2, hw2⟩
    · refine ⟨hz2.trans hz9.symm, s9, b9, LN9, ?_⟩
      have nGH : GH w2 := by
        have e9 : w2 9 = w 9 := by rw [hw2, wu_ne (by decide), wu_ne (by decide), wu_ne (by decide), wu_ne (by decide), wu_ne (by decide), hw1, wu_ne (by decide), wu_ne (by decide), wu_ne (by decide), wu_ne (by decide), wu_ne (by decide), wu_ne (by decide), wu_ne (by decide)]
        have e16 : w2 16 = updF (w 16) (w 15 10) t := by rw [hw2, wu_ne (by decide), wu_ne (by decide), wu_ne (by decide), wu_ne (by decide), wu_ne (by decide), hw1, wu_ne (by decide), wu_ne (by decide), wu_ne (by decide), wu_ne (by decide), wu_ne (by decide), wu_ne (by decide), wu_upM]
        have e17 : w2 17 = updF (w 17) (w 15 10) s := by rw [hw2, wu_ne (by decide), wu_ne (by decide), wu_ne (by decide), wu_ne (by decide), wu_ne (by decide), hw1, wu_ne (by decide), wu_ne (by decide), wu_ne (by decide), wu_ne (by decide), wu_ne (by decide), wu_upM, wu_ne (by decide)]
        have e18 : w2 18 = updF (w 18) (w 15 10) q := by rw [hw2, wu_ne (by decide), wu_ne (by decide), wu_ne (by decide), wu_ne (by decide), wu_ne (by decide), hw1, wu_ne (by decide), wu_ne (by decide), wu_ne (by decide), wu_ne (by decide), wu_upM, wu_ne (by decide), wu_ne (by decide)]
        have e19 : w2 19 = updF (w 19) (w 15 10) u := by rw [hw2, wu_ne (by decide), wu_ne (by decide), wu_ne (by decide), wu_ne (by decide), wu_ne (by decide), hw1, wu_ne (by decide), wu_ne (by decide), wu_ne (by decide), wu_upM, wu_ne (by decide), wu_ne (by decide), wu_ne (by decide)]
        have e20 : w2 20 = w 20 := by rw [hw2, wu_ne (by decide), wu_ne (by decide), wu_ne (by decide), wu_ne (by decide), wu_ne (by decide), hw1, wu_ne (by decide), wu_ne (by decide), wu_ne (by decide), wu_ne (by decide), wu_ne (by decide), wu_ne (by decide), wu_ne (by decide)]
        have e21 : w2 21 = w 21 := by rw [hw2, wu_ne (by decide), wu_ne (by decide), wu_ne (by decide), wu_ne (by decide), wu_ne (by decide), hw1, wu_ne (by decide), wu_ne (by decide), wu_ne (by decide), wu_ne (by decide), wu_ne (by decide), wu_ne (by decide), wu_ne (by decide)]
        have e22 : w2 22 = w 22 := by rw [hw2, wu_ne (by decide), wu_ne (by decide), wu_ne (by decide), wu_ne (by decide), wu_ne (by decide), hw1, wu_ne (by decide), wu_ne (by decide), wu_ne (by decide), wu_ne (by decide), wu_ne (by decide), wu_ne (by decide), wu_ne (by decide)]
        have e23 : w2 23 = w 23 := by rw [hw2, wu_ne (by decide), wu_ne (by decide), wu_ne (by decide), wu_ne (by decide), wu_ne (by decide), hw1, wu_ne (by decide), wu_ne (by decide), wu_ne (by decide), wu_ne (by decide), wu_ne (by decide), wu_ne (by decide), wu_ne (by decide)]
        have e24 : w2 24 = updF (w 24) (w 15 10) (-1) := by rw [hw2, wu_ne (by decide), wu_ne (by decide), wu_ne (by decide), wu_ne (by decide), wu_ne (by decide), hw1, wu_ne (by decide), wu_ne (by decide), wu_upM, wu_ne (by decide), wu_ne (by decide), wu_ne (by decide), wu_ne (by decide)]
        have e25 : w2 25 = updF (w 25) (w 15 10) (-1) := by rw [hw2, wu_ne (by decide), wu_ne (by decide), wu_ne (by decide), wu_ne (by decide), wu_ne (by decide), hw1, wu_ne (by decide), wu_upM, wu_ne (by decide), wu_ne (by decide), wu_ne (by decide), wu_ne (by decide), wu_ne (by decide)]
        have e26 : w2 26 = w 26 := by rw [hw2, wu_ne (by decide), wu_ne (by decide), wu_ne (by decide), wu_ne (by decide), wu_ne (by decide), hw1, wu_ne (by decide), wu_ne (by decide), wu_ne (by decide), wu_ne (by decide), wu_ne (by decide), wu_ne (by decide), wu_ne (by decide)]
        have e27 : w2 27 = w 27 := by rw [hw2, wu_ne (by decide), wu_ne (by decide), wu_ne (by decide), wu_ne (by decide), wu_ne (by decide), hw1, wu_ne (by decide), wu_ne (by decide), wu_ne (by decide), wu_ne (by decide), wu_ne (by decide), wu_ne (by decide), wu_ne (by decide)]
        have e28 : w2 28 = w 28 := by rw [hw2, wu_ne (by decide), wu_ne (by decide), wu_ne (by decide), wu_ne (by decide), wu_ne (by decide), hw1, wu_ne (by decide), wu_ne (by decide), wu_ne (by decide), wu_ne (by decide), wu_ne (by decide), wu_ne (by decide), wu_ne (by decide)]
        have e29 : w2 29 = w 29 := by rw [hw2, wu_ne (by decide), wu_ne (by decide), wu_ne (by decide), wu_ne (by decide), wu_ne (by decide), hw1, wu_ne (by decide), wu_ne (by decide), wu_ne (by decide), wu_ne (by decide), wu_ne (by decide), wu_ne (by decide), wu_ne (by decide)]
        have e149 : w2 149 = w 149 := by rw [hw2, wu_ne (by decide), wu_ne (by decide), wu_ne (by decide), wu_ne (by decide), wu_ne (by decide), hw1, wu_ne (by decide), wu_ne (by decide), wu_ne (by decide), wu_ne (by decide), wu_ne (by decide), wu_ne (by decide), wu_ne (by decide)]
        have e155 : w2 155 = updF (w 155) (w 15 10) t := by rw [hw2, wu_ne (by decide), wu_ne (by decide), wu_ne (by decide), wu_ne (by decide), wu_upM, hw1, wu_ne (by decide), wu_ne (by decide), wu_ne (by decide), wu_ne (by decide), wu_ne (by decide), wu_ne (by decide), wu_ne (by decide)]
        have e156 : w2 156 = updF (w 156) (w 15 10) s := by rw [hw2, wu_ne (by decide), wu_ne (by decide), wu_ne (by decide), wu_upM, wu_ne (by decide), hw1, wu_ne (by decide), wu_ne (by decide), wu_ne (by decide), wu_ne (by decide), wu_ne (by decide), wu_ne (by decide), wu_ne (by decide)]
        have e157 : w2 157 = updF (w 157) (w 15 10) q := by rw [hw2, wu_ne (by decide), wu_ne (by decide), wu_upM, wu_ne (by decide), wu_ne (by decide), hw1, wu_ne (by decide), wu_ne (by decide), wu_ne (by decide), wu_ne (by decide), wu_ne (by decide), wu_ne (by decide), wu_ne (by decide)]
        have e158 : w2 158 = updF (w 158) (w 15 10) u := by rw [hw2, wu_ne (by decide), wu_upM, wu_ne (by decide), wu_ne (by decide), wu_ne (by decide), hw1, wu_ne (by decide), wu_ne (by decide), wu_ne (by decide), wu_ne (by decide), wu_ne (by decide), wu_ne (by decide), wu_ne (by decide)]
        have e159 : w2 159 = w 159 := by rw [hw2, wu_ne (by decide), wu_ne (by decide), wu_ne (by decide), wu_ne (by decide), wu_ne (by decide), hw1, wu_ne (by decide), wu_ne (by decide), wu_ne (by decide), wu_ne (by decide), wu_ne (by decide), wu_ne (by decide), wu_ne (by decide)]
        have e160 : w2 160 = w 160 := by rw [hw2, wu_ne (by decide), wu_ne (by decide), wu_ne (by decide), wu_ne (by decide), wu_ne (by decide), hw1, wu_ne (by decide), wu_ne (by decide), wu_ne (by decide), wu_ne (by decide), wu_ne (by decide), wu_ne (by decide), wu_ne (by decide)]
        have e163 : w2 163 = w 163 := by rw [hw2, wu_ne (by decide), wu_ne (by decide), wu_ne (by decide), wu_ne (by decide), wu_ne (by decide), hw1, wu_ne (by decide), wu_ne (by decide), wu_ne (by decide), wu_ne (by decide), wu_ne (by decide), wu_ne (by decide), wu_ne (by decide)]
        have e164 : w2 164 = w 164 := by rw [hw2, wu_ne (by decide), wu_ne (by decide), wu_ne (by decide), wu_ne (by decide), wu_ne (by decide), hw1, wu_ne (by decide), wu_ne (by decide), wu_ne (by decide), wu_ne (by decide), wu_ne (by decide), wu_ne (by decide), wu_ne (by decide)]
        have e165 : w2 165 = w 165 := by rw [hw2, wu_ne (by decide), wu_ne (by decide), wu_ne (by decide), wu_ne (by decide), wu_ne (by decide), hw1, wu_ne (by decide), wu_ne (by decide), wu_ne (by decide), wu_ne (by decide), wu_ne (by decide), wu_ne (by decide), wu_ne (by decide)]
        have e166 : w2 166 = w 166 := by rw [hw2, wu_ne (by decide), wu_ne (by decide), wu_ne (by decide), wu_ne (by decide), wu_ne (by decide), hw1, wu_ne (by decide), wu_ne (by decide), wu_ne (by decide), wu_ne (by decide), wu_ne (by decide), wu_ne (by decide), wu_ne (by decide)]
        have e167 : w2 167 = w 167 := by rw [hw2, wu_ne (by decide), wu_ne (by decide), wu_ne (by decide), wu_ne (by decide), wu_ne (by decide), hw1, wu_ne (by decide), wu_ne (by decide), wu_ne (by decide), wu_ne (by decide), wu_ne (by decide), wu_ne (by decide), wu_ne (by decide)]
        have e168 : w2 168 = w 168 := by rw [hw2, wu_ne (by decide), wu_ne (by decide), wu_ne (by decide), wu_ne (by decide), wu_ne (by decide), hw1, wu_ne (by decide), wu_ne (by decide), wu_ne (by decide), wu_ne (by decide), wu_ne (by decide), wu_ne (by decide), wu_ne (by decide)]
        have f0_10 : w2 0 10 = w 0 10 := by rw [hw2, wu_ne (by decide), wu_ne (by decide), wu_ne (by decide), wu_ne (by decide), wu_ne (by decide), hw1, wu_ne (by decide), wu_ne (by decide), wu_ne (by decide), wu_ne (by decide), wu_ne (by decide), wu_ne (by decide), wu_ne (by decide)]
        have f15_10 : w2 15 10 = w 15 10 + 1 := by rw [hw2, wu_ne (by decide), wu_ne (by decide), wu_ne (by decide), wu_ne (by decide), wu_ne (by decide), hw1, wu_same]
        have f15_15 : w2 15 15 = w 15 15 := by rw [hw2, wu_ne (by decide), wu_ne (by decide), wu_ne (by decide), wu_ne (by decide), wu_ne (by decide), hw1, wu_at, if_neg (by decide), wu_ne (by decide), wu_ne (by decide), wu_ne (by decide), wu_ne (by decide), wu_ne (by decide), wu_ne (by decide)]
        have f1_9 : w2 1 9 = w 1 9 := by rw [hw2, wu_ne (by decide), wu_ne (by decide), wu_ne (by decide), wu_ne (by decide), wu_ne (by decide), hw1, wu_ne (by decide), wu_ne (by decide), wu_ne (by decide), wu_ne (by decide), wu_ne (by decide), wu_ne (by decide), wu_ne (by decide)]
        have f141_4 : w2 141 4 = w 15 10 + 1 := by rw [hw2, wu_same]
        have f141_5 : w2 141 5 = w 141 5 := by rw [hw2, wu_at, if_neg (by decide), wu_ne (by decide), wu_ne (by decide), wu_ne (by decide), wu_ne (by decide), hw1, wu_ne (by decide), wu_ne (by decide), wu_ne (by decide), wu_ne (by decide), wu_ne (by decide), wu_ne (by decide), wu_ne (by decide)]
        unfold GH at hH9 ⊢
        rw [e9, e16, e17, e18, e19, e20, e21, e22, e23, e24, e25, e26, e27, e28, e29, e149, e155, e156, e157, e158, e159, e160, e163, e164, e165, e166, e167, e168, f0_10, f15_10, f15_15, f1_9, f141_4, f141_5]
        obtain ⟨a1, a2, a3, a4, a5, a6, a7, a8⟩ := hH9
        exact ⟨⟨rfl, by omega, by omega⟩, a2, ⟨by rw [a3.1], by rw [a3.2.1], by rw [a3.2.2.1], by rw [a3.2.2.2.1], a3.2.2.2.2.1, a3.2.2.2.2.2.1, a3.2.2.2.2.2.2.1, a3.2.2.2.2.2.2.2.1, a3.2.2.2.2.2.2.2.2.1, a3.2.2.2.2.2.2.2.2.2.1, a3.2.2.2.2.2.2.2.2.2.2.1, a3.2.2.2.2.2.2.2.2.2.2.2.1, a3.2.2.2.2.2.2.2.2.2.2.2.2⟩, (fun h h0 h1 => by
          unfold updF
          by_cases e : h = (w 15 10)
          · simp only [if_pos e]; omega
          · simp only [if_neg e]; exact a4 h h0 (by omega)), a5, a6.hall, a7.hall, a8⟩
      exact GI.mk (hR9.fr (by rw [hw2, hw1]; exact (Agw.f (Agw.c (Agw.c (Agw.c (Agw.c (Agw.c (Agw.c (Agw.c (Agw.c (Agw.c (Agw.c (Agw.c Agw.rf (by decide) (by decide) (by decide)) (by decide) (by decide) (by decide)) (by decide) (by decide) (by decide)) (by decide) (by decide) (by decide)) (by decide) (by decide) (by decide)) (by decide) (by decide) (by decide)) (by decide) (by decide) (by decide)) (by decide) (by decide) (by decide)) (by decide) (by decide) (by decide)) (by decide) (by decide) (by decide)) (by decide) (by decide) (by decide)) (by decide) (by decide) (by decide)))) nGH (hC9.fr (by rw [hw2, hw1]; exact (Agw.f (Agw.c (Agw.c (Agw.c (Agw.c (Agw.c (Agw.c (Agw.c (Agw.c (Agw.c (Agw.c (Agw.c Agw.rf (by decide) (by decide) (by decide)) (by decide) (by decide) (by decide)) (by decide) (by decide) (by decide)) (by decide) (by decide) (by decide)) (by decide) (by decide) (by decide)) (by decide) (by decide) (by decide)) (by decide) (by decide) (by decide)) (by decide) (by decide) (by decide)) (by decide) (by decide) (by decide)) (by decide) (by decide) (by decide)) (by decide) (by decide) (by decide)) (by decide) (by decide) (by decide)))) (hT9.fr (by rw [hw2, hw1]; exact (Agw.f (Agw.c (Agw.c (Agw.c (Agw.c (Agw.c (Agw.c (Agw.c (Agw.c (Agw.c (Agw.c (Agw.c Agw.rf (by decide) (by decide) (by decide)) (by decide) (by decide) (by decide)) (by decide) (by decide) (by decide)) (by decide) (by decide) (by decide)) (by decide) (by decide) (by decide)) (by decide) (by decide) (by decide)) (by decide) (by decide) (by decide)) (by decide) (by decide) (by decide)) (by decide) (by decide) (by decide)) (by decide) (by decide) (by decide)) (by decide) (by decide) (by decide)) (by decide) (by decide) (by decide)))) (hL9.fr (by rw [hw2, hw1]; exact (Agw.c (Agw.c (Agw.c (Agw.c (Agw.c (Agw.c (Agw.c (Agw.c (Agw.c (Agw.c (Agw.c (Agw.c Agw.rf (by decide) (by decide) (by decide)) (by decide) (by decide) (by decide)) (by decide) (by decide) (by decide)) (by decide) (by decide) (by decide)) (by decide) (by decide) (by decide)) (by decide) (by decide) (by decide)) (by decide) (by decide) (by decide)) (by decide) (by decide) (by decide)) (by decide) (by decide) (by decide)) (by decide) (by decide) (by decide)) (by decide) (by decide) (by decide)) (by decide) (by decide) (by decide)))) (hV9.fr (by rw [hw2, hw1]; exact (Agw.f (Agw.c (Agw.c (Agw.c (Agw.c (Agw.c (Agw.c (Agw.c (Agw.c (Agw.c (Agw.c (Agw.c Agw.rf (by decide) (by decide) (by decide)) (by decide) (by decide) (by decide)) (by decide) (by decide) (by decide)) (by decide) (by decide) (by decide)) (by decide) (by decide) (by decide)) (by decide) (by decide) (by decide)) (by decide) (by decide) (by decide)) (by decide) (by decide) (by decide)) (by decide) (by decide) (by decide)) (by decide) (by decide) (by decide)) (by decide) (by decide) (by decide)) (by decide) (by decide) (by decide)))) (hP9.fr (by rw [hw2, hw1]; exact (Agw.f (Agw.c (Agw.c (Agw.c (Agw.c (Agw.c (Agw.c (Agw.c (Agw.c (Agw.c (Agw.c (Agw.c Agw.rf (by decide) (by decide) (by decide)) (by decide) (by decide) (by decide)) (by decide) (by decide) (by decide)) (by decide) (by decide) (by decide)) (by decide) (by decide) (by decide)) (by decide) (by decide) (by decide)) (by decide) (by decide) (by decide)) (by decide) (by decide) (by decide)) (by decide) (by decide) (by decide)) (by decide) (by decide) (by decide)) (by decide) (by decide) (by decide)) (by decide) (by decide) (by decide)))) (hN9.fr (by rw [hw2, hw1]; exact (Agw.c (Agw.c (Agw.c (Agw.c (Agw.c (Agw.c (Agw.c (Agw.c (Agw.c (Agw.c (Agw.c (Agw.c Agw.rf (by decide) (by decide) (by decide)) (by decide) (by decide) (by decide)) (by decide) (by decide) (by decide)) (by decide) (by decide) (by decide)) (by decide) (by decide) (by decide)) (by decide) (by decide) (by decide)) (by decide) (by decide) (by decide)) (by decide) (by decide) (by decide)) (by decide) (by decide) (by decide)) (by decide) (by decide) (by decide)) (by decide) (by decide) (by decide)) (by decide) (by decide) (by decide)))) (hO9.fr (by rw [hw2, hw1]; exact (Agw.c (Agw.c (Agw.c (Agw.c (Agw.c (Agw.c (Agw.c (Agw.c (Agw.c (Agw.c (Agw.c (Agw.c Agw.rf (by decide) (by decide) (by decide)) (by decide) (by decide) (by decide)) (by decide) (by decide) (by decide)) (by decide) (by decide) (by decide)) (by decide) (by decide) (by decide)) (by decide) (by decide) (by decide)) (by decide) (by decide) (by decide)) (by decide) (by decide) (by decide)) (by decide) (by decide) (by decide)) (by decide) (by decide) (by decide)) (by decide) (by decide) (by decide)) (by decide) (by decide) (by decide)))) (hK9.fr (by rw [hw2, hw1]; exact (Agw.f (Agw.c (Agw.c (Agw.c (Agw.c (Agw.c (Agw.c (Agw.c (Agw.c (Agw.c (Agw.c (Agw.c Agw.rf (by decide) (by decide) (by decide)) (by decide) (by decide) (by decide)) (by decide) (by decide) (by decide)) (by decide) (by decide) (by decide)) (by decide) (by decide) (by decide)) (by decide) (by decide) (by decide)) (by decide) (by decide) (by decide)) (by decide) (by decide) (by decide)) (by decide) (by decide) (by decide)) (by decide) (by decide) (by decide)) (by decide) (by decide) (by decide)) (by decide) (by decide) (by decide))))
    · exact absurd hc9 hd9
  · skip
    have k0 : w1 141 4 = w 141 4 := by rw [hw1]
    have kk0 : w 141 4 = w 15 10 := by exact hH9.1.1
    have hm9 := m_hall t s q u w1 (by rw [k0]; rw [hH9.1.1]; exact hH9.1.2)
    rw [k0, kk0] at hm9
    refine CallN.deep (hm9.conseq (fun r w2 hq => ?_)) (by decide)
    obtain ⟨z2, rfl, hq⟩ := hq
    refine ⟨z2, rfl, ?_⟩
    rcases hq with ⟨hd9, hz2, hw2⟩ | ⟨hd9, hz2, hw2⟩
    · exact absurd hd9 hc9
    · rw [hw2, hw1]
      exact ⟨hz2.trans hz9.symm, (show GAl w from ⟨s9, b9, LN9, hR9, hH9, hC9, hT9, hL9, hV9, hP9, hN9, hO9, hK9⟩)⟩

theorem updF_same {f : Int → Int} {n x : Int} (h : f n = x) : updF f n x = f := by
  funext i
  unfold updF
  by_cases e : i = n
  · rw [if_pos e, e, h]
  · rw [if_neg e]
theorem EVB.add {ki am : Int → Int} {N x y : Int} (h : EVB ki am N) (hN : N < 150) (hx : 0 ≤ x ∧ x ≤ 3) (hy : -99 ≤ y ∧ y ≤ 99) (hz : x = 2 → -9 ≤ y ∧ y ≤ 9) : EVB (updF ki N x) (updF am N y) (N + 1) := by
  obtain ⟨h1, h2⟩ := h
  refine ⟨by omega, fun i i0 i1 => ?_⟩
  unfold updF
  by_cases e : i = N
  · simp only [if_pos e]; exact ⟨hx, hy, hz⟩
  · simp only [if_neg e]; exact h2 i i0 (by omega)
theorem op_set (f q u : Int) {w : Wd} (h : GAl w) : OpI mX11_set mX12_set [(2, 0), (0, f), (0, q), (0, u)] [(2, 141), (0, f), (0, q), (0, u)] w := by
  obtain ⟨s9, b9, LN9, hR9, hH9, hC9, hT9, hL9, hV9, hP9, hN9, hO9, hK9⟩ := h
  refine ⟨_, CallN.deep (x_set f q u w hH9.2.1.2) (by decide), fun z w1 hJ => ?_⟩
  rcases hJ with ⟨hc9, hz9, hw1⟩ | ⟨hc9, hz9, hw1⟩
  · skip
    have k0 : w1 141 5 = w 141 5 := by rw [hw1, wu_ne (by decide), wu_ne (by decide), wu_ne (by decide), wu_ne (by decide), wu_ne (by decide)]
    have kk0 : w 141 5 = w 15 15 := by exact hH9.2.1.1
    have hm9 := m_set f q u w1 (by rw [k0]; rw [hH9.2.1.1]; exact hH9.2.1.2)
    rw [k0, kk0] at hm9
    refine CallN.deep (hm9.conseq (fun r w2 hq => ?_)) (by decide)
    obtain ⟨z2, rfl, hq⟩ := hq
    refine ⟨z2, rfl, ?_⟩
    rcases hq with ⟨hd9, hz2, hw2⟩ | ⟨hd9, hz2, hw2⟩
    · refine ⟨hz2.trans hz9.symm, s9, b9, LN9, ?_⟩
      have nGH : GH w2 := by
        have e9 : w2 9 = w 9 := by rw [hw2, wu_ne (by decide), wu_ne (by decide), wu_ne (by decide), wu_ne (by decide), wu_ne (by decide), hw1, wu_ne (by decide), wu_ne (by decide), wu_ne (by decide), wu_ne (by decide), wu_ne (by decide)]
        have e16 : w2 16 = w 16 := by rw [hw2, wu_ne (by decide), wu_ne (by decide), wu_ne (by decide), wu_ne (by decide), wu_ne (by decide), hw1, wu_ne (by decide), wu_ne (by decide), wu_ne (by decide), wu_ne (by decide), wu_ne (by decide)]
        have e17 : w2 17 = w 17 := by rw [hw2, wu_ne (by decide), wu_ne (by decide), wu_ne (by decide), wu_ne (by decide), wu_ne (by decide), hw1, wu_ne (by decide), wu_ne (by decide), wu_ne (by decide), wu_ne (by decide), wu_ne (by decide)]
        have e18 : w2 18 = w 18 := by rw [hw2, wu_ne (by decide), wu_ne (by decide), wu_ne (by decide), wu_ne (by decide), wu_ne (by decide), hw1, wu_ne (by decide), wu_ne (by decide), wu_ne (by decide), wu_ne (by decide), wu_ne (by decide)]
        have e19 : w2 19 = w 19 := by rw [hw2, wu_ne (by decide), wu_ne (by decide), wu_ne (by decide), wu_ne (by decide), wu_ne (by decide), hw1, wu_ne (by decide), wu_ne (by decide), wu_ne (by decide), wu_ne (by decide), wu_ne (by decide)]
        have e20 : w2 20 = w 20 := by rw [hw2, wu_ne (by decide), wu_ne (by decide), wu_ne (by decide), wu_ne (by decide), wu_ne (by decide), hw1, wu_ne (by decide), wu_ne (by decide), wu_ne (by decide), wu_ne (by decide), wu_ne (by decide)]
        have e21 : w2 21 = w 21 := by rw [hw2, wu_ne (by decide), wu_ne (by decide), wu_ne (by decide), wu_ne (by decide), wu_ne (by decide), hw1, wu_ne (by decide), wu_ne (by decide), wu_ne (by decide), wu_ne (by decide), wu_ne (by decide)]
        have e22 : w2 22 = w 22 := by rw [hw2, wu_ne (by decide), wu_ne (by decide), wu_ne (by decide), wu_ne (by decide), wu_ne (by decide), hw1, wu_ne (by decide), wu_ne (by decide), wu_ne (by decide), wu_ne (by decide), wu_ne (by decide)]
        have e23 : w2 23 = w 23 := by rw [hw2, wu_ne (by decide), wu_ne (by decide), wu_ne (by decide), wu_ne (by decide), wu_ne (by decide), hw1, wu_ne (by decide), wu_ne (by decide), wu_ne (by decide), wu_ne (by decide), wu_ne (by decide)]
        have e24 : w2 24 = w 24 := by rw [hw2, wu_ne (by decide), wu_ne (by decide), wu_ne (by decide), wu_ne (by decide), wu_ne (by decide), hw1, wu_ne (by decide), wu_ne (by decide), wu_ne (by decide), wu_ne (by decide), wu_ne (by decide)]
        have e25 : w2 25 = w 25 := by rw [hw2, wu_ne (by decide), wu_ne (by decide), wu_ne (by decide), wu_ne (by decide), wu_ne (by decide), hw1, wu_ne (by decide), wu_ne (by decide), wu_ne (by decide), wu_ne (by decide), wu_ne (by decide)]
        have e26 : w2 26 = updF (w 26) (w 15 15) f := by rw [hw2, wu_ne (by decide), wu_ne (by decide), wu_ne (by decide), wu_ne (by decide), wu_ne (by decide), hw1, wu_ne (by decide), wu_ne (by decide), wu_ne (by decide), wu_ne (by decide), wu_upM]
        have e27 : w2 27 = updF (w 27) (w 15 15) q := by rw [hw2, wu_ne (by decide), wu_ne (by decide), wu_ne (by decide), wu_ne (by decide), wu_ne (by decide), hw1, wu_ne (by decide), wu_ne (by decide), wu_ne (by decide), wu_upM, wu_ne (by decide)]
        have e28 : w2 28 = updF (w 28) (w 15 15) u := by rw [hw2, wu_ne (by decide), wu_ne (by decide), wu_ne (by decide), wu_ne (by decide), wu_ne (by decide), hw1, wu_ne (by decide), wu_ne (by decide), wu_upM, wu_ne (by decide), wu_ne (by decide)]
        have e29 : w2 29 = updF (w 29) (w 15 15) (-1) := by rw [hw2, wu_ne (by decide), wu_ne (by decide), wu_ne (by decide), wu_ne (by decide), wu_ne (by decide), hw1, wu_ne (by decide), wu_upM, wu_ne (by decide), wu_ne (by decide), wu_ne (by decide)]
        have e149 : w2 149 = w 149 := by rw [hw2, wu_ne (by decide), wu_ne (by decide), wu_ne (by decide), wu_ne (by decide), wu_ne (by decide), hw1, wu_ne (by decide), wu_ne (by decide), wu_ne (by decide), wu_ne (by decide), wu_ne (by decide)]
        have e155 : w2 155 = w 155 := by rw [hw2, wu_ne (by decide), wu_ne (by decide), wu_ne (by decide), wu_ne (by decide), wu_ne (by decide), hw1, wu_ne (by decide), wu_ne (by decide), wu_ne (by decide), wu_ne (by decide), wu_ne (by decide)]
        have e156 : w2 156 = w 156 := by rw [hw2, wu_ne (by decide), wu_ne (by decide), wu_ne (by decide), wu_ne (by decide), wu_ne (by decide), hw1, wu_ne (by decide), wu_ne (by decide), wu_ne (by decide), wu_ne (by decide), wu_ne (by decide)]
        have e157 : w2 157 = w 157 := by rw [hw2, wu_ne (by decide), wu_ne (by decide), wu_ne (by decide), wu_ne (by decide), wu_ne (by decide), hw1, wu_ne (by decide), wu_ne (by decide), wu_ne (by decide), wu_ne (by decide), wu_ne (by decide)]
        have e158 : w2 158 = w 158 := by rw [hw2, wu_ne (by decide), wu_ne (by decide), wu_ne (by decide), wu_ne (by decide), wu_ne (by decide), hw1, wu_ne (by decide), wu_ne (by decide), wu_ne (by decide), wu_ne (by decide), wu_ne (by decide)]
        have e159 : w2 159 = w 159 := by rw [hw2, wu_ne (by decide), wu_ne (by decide), wu_ne (by decide), wu_ne (by decide), wu_ne (by decide), hw1, wu_ne (by decide), wu_ne (by decide), wu_ne (by decide), wu_ne (by decide), wu_ne (by decide)]
        have e160 : w2 160 = w 160 := by rw [hw2, wu_ne (by decide), wu_ne (by decide), wu_ne (by decide), wu_ne (by decide), wu_ne (by decide), hw1, wu_ne (by decide), wu_ne (by decide), wu_ne (by decide), wu_ne (by decide), wu_ne (by decide)]
        have e163 : w2 163 = w 163 := by rw [hw2, wu_ne (by decide), wu_ne (by decide), wu_ne (by decide), wu_ne (by decide), wu_ne (by decide), hw1, wu_ne (by decide), wu_ne (by decide), wu_ne (by decide), wu_ne (by decide), wu_ne (by decide)]
        have e164 : w2 164 = w 164 := by rw [hw2, wu_ne (by decide), wu_ne (by decide), wu_ne (by decide), wu_ne (by decide), wu_ne (by decide), hw1, wu_ne (by decide), wu_ne (by decide), wu_ne (by decide), wu_ne (by decide), wu_ne (by decide)]
        have e165 : w2 165 = updF (w 165) (w 15 15) f := by rw [hw2, wu_ne (by decide), wu_ne (by decide), wu_ne (by decide), wu_ne (by decide), wu_upM, hw1, wu_ne (by decide), wu_ne (by decide), wu_ne (by decide), wu_ne (by decide), wu_ne (by decide)]
        have e166 : w2 166 = updF (w 166) (w 15 15) q := by rw [hw2, wu_ne (by decide), wu_ne (by decide), wu_ne (by decide), wu_upM, wu_ne (by decide), hw1, wu_ne (by decide), wu_ne (by decide), wu_ne (by decide), wu_ne (by decide), wu_ne (by decide)]
        have e167 : w2 167 = updF (w 167) (w 15 15) u := by rw [hw2, wu_ne (by decide), wu_ne (by decide), wu_upM, wu_ne (by decide), wu_ne (by decide), hw1, wu_ne (by decide), wu_ne (by decide), wu_ne (by decide), wu_ne (by decide), wu_ne (by decide)]
        have e168 : w2 168 = updF (w 168) (w 15 15) (-1) := by rw [hw2, wu_ne (by decide), wu_upM, wu_ne (by decide), wu_ne (by decide), wu_ne (by decide), hw1, wu_ne (by decide), wu_ne (by decide), wu_ne (by decide), wu_ne (by decide), wu_ne (by decide)]
        have f0_10 : w2 0 10 = w 0 10 := by rw [hw2, wu_ne (by decide), wu_ne (by decide), wu_ne (by decide), wu_ne (by decide), wu_ne (by decide), hw1, wu_ne (by decide), wu_ne (by decide), wu_ne (by decide), wu_ne (by decide), wu_ne (by decide)]
        have f15_10 : w2 15 10 = w 15 10 := by rw [hw2, wu_ne (by decide), wu_ne (by decide), wu_ne (by decide), wu_ne (by decide), wu_ne (by decide), hw1, wu_at, if_neg (by decide), wu_ne (by decide), wu_ne (by decide), wu_ne (by decide), wu_ne (by decide)]
        have f15_15 : w2 15 15 = w 15 15 + 1 := by rw [hw2, wu_ne (by decide), wu_ne (by decide), wu_ne (by decide), wu_ne (by decide), wu_ne (by decide), hw1, wu_same]
        have f1_9 : w2 1 9 = w 1 9 := by rw [hw2, wu_ne (by decide), wu_ne (by decide), wu_ne (by decide), wu_ne (by decide), wu_ne (by decide), hw1, wu_ne (by decide), wu_ne (by decide), wu_ne (by decide), wu_ne (by decide), wu_ne (by decide)]
        have f141_4 : w2 141 4 = w 141 4 := by rw [hw2, wu_at, if_neg (by decide), wu_ne (by decide), wu_ne (by decide), wu_ne (by decide), wu_ne (by decide), hw1, wu_ne (by decide), wu_ne (by decide), wu_ne (by decide), wu_ne (by decide), wu_ne (by decide)]
        have f141_5 : w2 141 5 = w 15 15 + 1 := by rw [hw2, wu_same]
        unfold GH at hH9 ⊢
        rw [e9, e16, e17, e18, e19, e20, e21, e22, e23, e24, e25, e26, e27, e28, e29, e149, e155, e156, e157, e158, e159, e160, e163, e164, e165, e166, e167, e168, f0_10, f15_10, f15_15, f1_9, f141_4, f141_5]
        obtain ⟨a1, a2, a3, a4, a5, a6, a7, a8⟩ := hH9
        exact ⟨a1, ⟨rfl, by omega, by omega⟩, ⟨a3.1, a3.2.1, a3.2.2.1, a3.2.2.2.1, a3.2.2.2.2.1, a3.2.2.2.2.2.1, a3.2.2.2.2.2.2.1, a3.2.2.2.2.2.2.2.1, by rw [a3.2.2.2.2.2.2.2.2.1], by rw [a3.2.2.2.2.2.2.2.2.2.1], by rw [a3.2.2.2.2.2.2.2.2.2.2.1], by rw [a3.2.2.2.2.2.2.2.2.2.2.2.1], a3.2.2.2.2.2.2.2.2.2.2.2.2⟩, a4, (fun h h0 h1 => by
          unfold updF
          by_cases e : h = (w 15 15)
          · simp only [if_pos e]; omega
          · simp only [if_neg e]; exact a5 h h0 (by omega)), a6.tell, a7, a8⟩
      exact GI.mk (hR9.fr (by rw [hw2, hw1]; exact (Agw.f (Agw.c (Agw.c (Agw.c (Agw.c (Agw.c (Agw.c (Agw.c (Agw.c (Agw.c Agw.rf (by decide) (by decide) (by decide)) (by decide) (by decide) (by decide)) (by decide) (by decide) (by decide)) (by decide) (by decide) (by decide)) (by decide) (by decide) (by decide)) (by decide) (by decide) (by decide)) (by decide) (by decide) (by decide)) (by decide) (by decide) (by decide)) (by decide) (by decide) (by decide)) (by decide) (by decide) (by decide)))) nGH (hC9.fr (by rw [hw2, hw1]; exact (Agw.f (Agw.c (Agw.c (Agw.c (Agw.c (Agw.c (Agw.c (Agw.c (Agw.c (Agw.c Agw.rf (by decide) (by decide) (by decide)) (by decide) (by decide) (by decide)) (by decide) (by decide) (by decide)) (by decide) (by decide) (by decide)) (by decide) (by decide) (by decide)) (by decide) (by decide) (by decide)) (by decide) (by decide) (by decide)) (by decide) (by decide) (by decide)) (by decide) (by decide) (by decide)) (by decide) (by decide) (by decide)))) (hT9.fr (by rw [hw2, hw1]; exact (Agw.f (Agw.c (Agw.c (Agw.c (Agw.c (Agw.c (Agw.c (Agw.c (Agw.c (Agw.c Agw.rf (by decide) (by decide) (by decide)) (by decide) (by decide) (by decide)) (by decide) (by decide) (by decide)) (by decide) (by decide) (by decide)) (by decide) (by decide) (by decide)) (by decide) (by decide) (by decide)) (by decide) (by decide) (by decide)) (by decide) (by decide) (by decide)) (by decide) (by decide) (by decide)) (by decide) (by decide) (by decide)))) (hL9.fr (by rw [hw2, hw1]; exact (Agw.c (Agw.c (Agw.c (Agw.c (Agw.c (Agw.c (Agw.c (Agw.c (Agw.c (Agw.c Agw.rf (by decide) (by decide) (by decide)) (by decide) (by decide) (by decide)) (by decide) (by decide) (by decide)) (by decide) (by decide) (by decide)) (by decide) (by decide) (by decide)) (by decide) (by decide) (by decide)) (by decide) (by decide) (by decide)) (by decide) (by decide) (by decide)) (by decide) (by decide) (by decide)) (by decide) (by decide) (by decide)))) (hV9.fr (by rw [hw2, hw1]; exact (Agw.f (Agw.c (Agw.c (Agw.c (Agw.c (Agw.c (Agw.c (Agw.c (Agw.c (Agw.c Agw.rf (by decide) (by decide) (by decide)) (by decide) (by decide) (by decide)) (by decide) (by decide) (by decide)) (by decide) (by decide) (by decide)) (by decide) (by decide) (by decide)) (by decide) (by decide) (by decide)) (by decide) (by decide) (by decide)) (by decide) (by decide) (by decide)) (by decide) (by decide) (by decide)) (by decide) (by decide) (by decide)))) (hP9.fr (by rw [hw2, hw1]; exact (Agw.f (Agw.c (Agw.c (Agw.c (Agw.c (Agw.c (Agw.c (Agw.c (Agw.c (Agw.c Agw.rf (by decide) (by decide) (by decide)) (by decide) (by decide) (by decide)) (by decide) (by decide) (by decide)) (by decide) (by decide) (by decide)) (by decide) (by decide) (by decide)) (by decide) (by decide) (by decide)) (by decide) (by decide) (by decide)) (by decide) (by decide) (by decide)) (by decide) (by decide) (by decide)) (by decide) (by decide) (by decide)))) (hN9.fr (by rw [hw2, hw1]; exact (Agw.c (Agw.c (Agw.c (Agw.c (Agw.c (Agw.c (Agw.c (Agw.c (Agw.c (Agw.c Agw.rf (by decide) (by decide) (by decide)) (by decide) (by decide) (by decide)) (by decide) (by decide) (by decide)) (by decide) (by decide) (by decide)) (by decide) (by decide) (by decide)) (by decide) (by decide) (by decide)) (by decide) (by decide) (by decide)) (by decide) (by decide) (by decide)) (by decide) (by decide) (by decide)) (by decide) (by decide) (by decide)))) (hO9.fr (by rw [hw2, hw1]; exact (Agw.c (Agw.c (Agw.c (Agw.c (Agw.c (Agw.c (Agw.c (Agw.c (Agw.c (Agw.c Agw.rf (by decide) (by decide) (by decide)) (by decide) (by decide) (by decide)) (by decide) (by decide) (by decide)) (by decide) (by decide) (by decide)) (by decide) (by decide) (by decide)) (by decide) (by decide) (by decide)) (by decide) (by decide) (by decide)) (by decide) (by decide) (by decide)) (by decide) (by decide) (by decide)) (by decide) (by decide) (by decide)))) (hK9.fr (by rw [hw2, hw1]; exact (Agw.f (Agw.c (Agw.c (Agw.c (Agw.c (Agw.c (Agw.c (Agw.c (Agw.c (Agw.c Agw.rf (by decide) (by decide) (by decide)) (by decide) (by decide) (by decide)) (by decide) (by decide) (by decide)) (by decide) (by decide) (by decide)) (by decide) (by decide) (by decide)) (by decide) (by decide) (by decide)) (by decide) (by decide) (by decide)) (by decide) (by decide) (by decide)) (by decide) (by decide) (by decide)) (by decide) (by decide) (by decide))))
    · exact absurd hc9 hd9
  · skip
    have k0 : w1 141 5 = w 141 5 := by rw [hw1]
    have kk0 : w 141 5 = w 15 15 := by exact hH9.2.1.1
    have hm9 := m_set f q u w1 (by rw [k0]; rw [hH9.2.1.1]; exact hH9.2.1.2)
    rw [k0, kk0] at hm9
    refine CallN.deep (hm9.conseq (fun r w2 hq => ?_)) (by decide)
    obtain ⟨z2, rfl, hq⟩ := hq
    refine ⟨z2, rfl, ?_⟩
    rcases hq with ⟨hd9, hz2, hw2⟩ | ⟨hd9, hz2, hw2⟩
    · exact absurd hd9 hc9
    · rw [hw2, hw1]
      exact ⟨hz2.trans hz9.symm, (show GAl w from ⟨s9, b9, LN9, hR9, hH9, hC9, hT9, hL9, hV9, hP9, hN9, hO9, hK9⟩)⟩

theorem op_crowd (t g a m q : Int) {w : Wd} (h : GAl w) : OpI mX11_crowd mX12_crowd [(2, 0), (0, t), (0, g), (0, a), (0, m), (0, q)] [(2, 141), (0, t), (0, g), (0, a), (0, m), (0, q)] w := by
  obtain ⟨s9, b9, LN9, hR9, hH9, hC9, hT9, hL9, hV9, hP9, hN9, hO9, hK9⟩ := h
  refine ⟨_, CallN.deep (x_crowd t g a m q w hC9.1.2) (by decide), fun z w1 hJ => ?_⟩
  rcases hJ with ⟨hc9, hz9, hw1⟩ | ⟨hc9, hz9, hw1⟩
  · skip
    have k0 : w1 141 6 = w 141 6 := by rw [hw1, wu_ne (by decide), wu_ne (by decide), wu_ne (by decide), wu_ne (by decide), wu_ne (by decide), wu_ne (by decide)]
    have kk0 : w 141 6 = w 59 9 := by exact hC9.1.1
    have hm9 := m_crowd t g a m q w1 (by rw [k0]; rw [hC9.1.1]; exact hC9.1.2)
    rw [k0, kk0] at hm9
    refine CallN.deep (hm9.conseq (fun r w2 hq => ?_)) (by decide)
    obtain ⟨z2, rfl, hq⟩ := hq
    refine ⟨z2, rfl, ?_⟩
    rcases hq with ⟨hd9, hz2, hw2⟩ | ⟨hd9, hz2, hw2⟩
    · refine ⟨hz2.trans hz9.symm, s9, b9, LN9, ?_⟩
      have nGC : GC w2 := by
        have e60 : w2 60 = updF (w 60) (w 59 9) t := by rw [hw2, wu_ne (by decide), wu_ne (by decide), wu_ne (by decide), wu_ne (by decide), wu_ne (by decide), wu_ne (by decide), hw1, wu_ne (by decide), wu_ne (by decide), wu_ne (by decide), wu_ne (by decide), wu_ne (by decide), wu_upM]
        have e61 : w2 61 = updF (w 61) (w 59 9) g := by rw [hw2, wu_ne (by decide), wu_ne (by decide), wu_ne (by decide), wu_ne (by decide), wu_ne (by decide), wu_ne (by decide), hw1, wu_ne (by decide), wu_ne (by decide), wu_ne (by decide), wu_ne (by decide), wu_upM, wu_ne (by decide)]
        have e62 : w2 62 = updF (w 62) (w 59 9) a := by rw [hw2, wu_ne (by decide), wu_ne (by decide), wu_ne (by decide), wu_ne (by decide), wu_ne (by decide), wu_ne (by decide), hw1, wu_ne (by decide), wu_ne (by decide), wu_ne (by decide), wu_upM, wu_ne (by decide), wu_ne (by decide)]
        have e63 : w2 63 = updF (w 63) (w 59 9) m := by rw [hw2, wu_ne (by decide), wu_ne (by decide), wu_ne (by decide), wu_ne (by decide), wu_ne (by decide), wu_ne (by decide), hw1, wu_ne (by decide), wu_ne (by decide), wu_upM, wu_ne (by decide), wu_ne (by decide), wu_ne (by decide)]
        have e64 : w2 64 = updF (w 64) (w 59 9) q := by rw [hw2, wu_ne (by decide), wu_ne (by decide), wu_ne (by decide), wu_ne (by decide), wu_ne (by decide), wu_ne (by decide), hw1, wu_ne (by decide), wu_upM, wu_ne (by decide), wu_ne (by decide), wu_ne (by decide), wu_ne (by decide)]
        have e181 : w2 181 = updF (w 181) (w 59 9) t := by rw [hw2, wu_ne (by decide), wu_ne (by decide), wu_ne (by decide), wu_ne (by decide), wu_ne (by decide), wu_upM, hw1, wu_ne (by decide), wu_ne (by decide), wu_ne (by decide), wu_ne (by decide), wu_ne (by decide), wu_ne (by decide)]
        have e182 : w2 182 = updF (w 182) (w 59 9) g := by rw [hw2, wu_ne (by decide), wu_ne (by decide), wu_ne (by decide), wu_ne (by decide), wu_upM, wu_ne (by decide), hw1, wu_ne (by decide), wu_ne (by decide), wu_ne (by decide), wu_ne (by decide), wu_ne (by decide), wu_ne (by decide)]
        have e183 : w2 183 = updF (w 183) (w 59 9) a := by rw [hw2, wu_ne (by decide), wu_ne (by decide), wu_ne (by decide), wu_upM, wu_ne (by decide), wu_ne (by decide), hw1, wu_ne (by decide), wu_ne (by decide), wu_ne (by decide), wu_ne (by decide), wu_ne (by decide), wu_ne (by decide)]
        have e184 : w2 184 = updF (w 184) (w 59 9) m := by rw [hw2, wu_ne (by decide), wu_ne (by decide), wu_upM, wu_ne (by decide), wu_ne (by decide), wu_ne (by decide), hw1, wu_ne (by decide), wu_ne (by decide), wu_ne (by decide), wu_ne (by decide), wu_ne (by decide), wu_ne (by decide)]
        have e185 : w2 185 = updF (w 185) (w 59 9) q := by rw [hw2, wu_ne (by decide), wu_upM, wu_ne (by decide), wu_ne (by decide), wu_ne (by decide), wu_ne (by decide), hw1, wu_ne (by decide), wu_ne (by decide), wu_ne (by decide), wu_ne (by decide), wu_ne (by decide), wu_ne (by decide)]
        have e186 : w2 186 = w 186 := by rw [hw2, wu_ne (by decide), wu_ne (by decide), wu_ne (by decide), wu_ne (by decide), wu_ne (by decide), wu_ne (by decide), hw1, wu_ne (by decide), wu_ne (by decide), wu_ne (by decide), wu_ne (by decide), wu_ne (by decide), wu_ne (by decide)]
        have f59_9 : w2 59 9 = w 59 9 + 1 := by rw [hw2, wu_ne (by decide), wu_ne (by decide), wu_ne (by decide), wu_ne (by decide), wu_ne (by decide), wu_ne (by decide), hw1, wu_same]
        have f141_6 : w2 141 6 = w 59 9 + 1 := by rw [hw2, wu_same]
        have er : ∀ c : Int, 0 ≤ c → c < 16 → w2 (66 + Int.toNat c) = w (66 + Int.toNat c) := fun c c0 c1 => by rw [hw2, wu_ne (by omega), wu_ne (by omega), wu_ne (by omega), wu_ne (by omega), wu_ne (by omega), wu_ne (by omega), hw1, wu_ne (by omega), wu_ne (by omega), wu_ne (by omega), wu_ne (by omega), wu_ne (by omega), wu_ne (by omega)]
        unfold GC at hC9 ⊢
        rw [e60, e61, e62, e63, e64, e181, e182, e183, e184, e185, e186, f59_9, f141_6]
        obtain ⟨a1, a2, a3, a4⟩ := hC9
        exact ⟨⟨rfl, by omega, by omega⟩, ⟨by rw [a2.1], by rw [a2.2.1], by rw [a2.2.2.1], by rw [a2.2.2.2.1], by rw [a2.2.2.2.2]⟩, (fun h h0 h1 => by
          unfold updF
          by_cases e : h = (w 59 9)
          · simp only [if_pos e]; omega
          · simp only [if_neg e]; exact a3 h h0 (by omega)), fun c j c0 c1 j0 j1 => by rw [er c c0 c1]; exact a4 c j c0 c1 j0 j1⟩
      exact GI.mk (hR9.fr (by rw [hw2, hw1]; exact (Agw.f (Agw.c (Agw.c (Agw.c (Agw.c (Agw.c (Agw.c (Agw.c (Agw.c (Agw.c (Agw.c (Agw.c Agw.rf (by decide) (by decide) (by decide)) (by decide) (by decide) (by decide)) (by decide) (by decide) (by decide)) (by decide) (by decide) (by decide)) (by decide) (by decide) (by decide)) (by decide) (by decide) (by decide)) (by decide) (by decide) (by decide)) (by decide) (by decide) (by decide)) (by decide) (by decide) (by decide)) (by decide) (by decide) (by decide)) (by decide) (by decide) (by decide)) (by decide) (by decide) (by decide)))) (hH9.fr (by rw [hw2, hw1]; exact (Agw.f (Agw.c (Agw.c (Agw.c (Agw.c (Agw.c (Agw.c (Agw.c (Agw.c (Agw.c (Agw.c (Agw.c Agw.rf (by decide) (by decide) (by decide)) (by decide) (by decide) (by decide)) (by decide) (by decide) (by decide)) (by decide) (by decide) (by decide)) (by decide) (by decide) (by decide)) (by decide) (by decide) (by decide)) (by decide) (by decide) (by decide)) (by decide) (by decide) (by decide)) (by decide) (by decide) (by decide)) (by decide) (by decide) (by decide)) (by decide) (by decide) (by decide)) (by decide) (by decide) (by decide)))) nGC (hT9.fr (by rw [hw2, hw1]; exact (Agw.f (Agw.c (Agw.c (Agw.c (Agw.c (Agw.c (Agw.c (Agw.c (Agw.c (Agw.c (Agw.c (Agw.c Agw.rf (by decide) (by decide) (by decide)) (by decide) (by decide) (by decide)) (by decide) (by decide) (by decide)) (by decide) (by decide) (by decide)) (by decide) (by decide) (by decide)) (by decide) (by decide) (by decide)) (by decide) (by decide) (by decide)) (by decide) (by decide) (by decide)) (by decide) (by decide) (by decide)) (by decide) (by decide) (by decide)) (by decide) (by decide) (by decide)) (by decide) (by decide) (by decide)))) (hL9.fr (by rw [hw2, hw1]; exact (Agw.c (Agw.c (Agw.c (Agw.c (Agw.c (Agw.c (Agw.c (Agw.c (Agw.c (Agw.c (Agw.c (Agw.c Agw.rf (by decide) (by decide) (by decide)) (by decide) (by decide) (by decide)) (by decide) (by decide) (by decide)) (by decide) (by decide) (by decide)) (by decide) (by decide) (by decide)) (by decide) (by decide) (by decide)) (by decide) (by decide) (by decide)) (by decide) (by decide) (by decide)) (by decide) (by decide) (by decide)) (by decide) (by decide) (by decide)) (by decide) (by decide) (by decide)) (by decide) (by decide) (by decide)))) (hV9.fr (by rw [hw2, hw1]; exact (Agw.f (Agw.c (Agw.c (Agw.c (Agw.c (Agw.c (Agw.c (Agw.c (Agw.c (Agw.c (Agw.c (Agw.c Agw.rf (by decide) (by decide) (by decide)) (by decide) (by decide) (by decide)) (by decide) (by decide) (by decide)) (by decide) (by decide) (by decide)) (by decide) (by decide) (by decide)) (by decide) (by decide) (by decide)) (by decide) (by decide) (by decide)) (by decide) (by decide) (by decide)) (by decide) (by decide) (by decide)) (by decide) (by decide) (by decide)) (by decide) (by decide) (by decide)) (by decide) (by decide) (by decide)))) (hP9.fr (by rw [hw2, hw1]; exact (Agw.f (Agw.c (Agw.c (Agw.c (Agw.c (Agw.c (Agw.c (Agw.c (Agw.c (Agw.c (Agw.c (Agw.c Agw.rf (by decide) (by decide) (by decide)) (by decide) (by decide) (by decide)) (by decide) (by decide) (by decide)) (by decide) (by decide) (by decide)) (by decide) (by decide) (by decide)) (by decide) (by decide) (by decide)) (by decide) (by decide) (by decide)) (by decide) (by decide) (by decide)) (by decide) (by decide) (by decide)) (by decide) (by decide) (by decide)) (by decide) (by decide) (by decide)) (by decide) (by decide) (by decide)))) (hN9.fr (by rw [hw2, hw1]; exact (Agw.c (Agw.c (Agw.c (Agw.c (Agw.c (Agw.c (Agw.c (Agw.c (Agw.c (Agw.c (Agw.c (Agw.c Agw.rf (by decide) (by decide) (by decide)) (by decide) (by decide) (by decide)) (by decide) (by decide) (by decide)) (by decide) (by decide) (by decide)) (by decide) (by decide) (by decide)) (by decide) (by decide) (by decide)) (by decide) (by decide) (by decide)) (by decide) (by decide) (by decide)) (by decide) (by decide) (by decide)) (by decide) (by decide) (by decide)) (by decide) (by decide) (by decide)) (by decide) (by decide) (by decide)))) (hO9.fr (by rw [hw2, hw1]; exact (Agw.c (Agw.c (Agw.c (Agw.c (Agw.c (Agw.c (Agw.c (Agw.c (Agw.c (Agw.c (Agw.c (Agw.c Agw.rf (by decide) (by decide) (by decide)) (by decide) (by decide) (by decide)) (by decide) (by decide) (by decide)) (by decide) (by decide) (by decide)) (by decide) (by decide) (by decide)) (by decide) (by decide) (by decide)) (by decide) (by decide) (by decide)) (by decide) (by decide) (by decide)) (by decide) (by decide) (by decide)) (by decide) (by decide) (by decide)) (by decide) (by decide) (by decide)) (by decide) (by decide) (by decide)))) (hK9.fr (by rw [hw2, hw1]; exact (Agw.f (Agw.c (Agw.c (Agw.c (Agw.c (Agw.c (Agw.c (Agw.c (Agw.c (Agw.c (Agw.c (Agw.c Agw.rf (by decide) (by decide) (by decide)) (by decide) (by decide) (by decide)) (by decide) (by decide) (by decide)) (by decide) (by decide) (by decide)) (by decide) (by decide) (by decide)) (by decide) (by decide) (by decide)) (by decide) (by decide) (by decide)) (by decide) (by decide) (by decide)) (by decide) (by decide) (by decide)) (by decide) (by decide) (by decide)) (by decide) (by decide) (by decide)) (by decide) (by decide) (by decide))))
    · exact absurd hc9 hd9
  · skip
    have k0 : w1 141 6 = w 141 6 := by rw [hw1]
    have kk0 : w 141 6 = w 59 9 := by exact hC9.1.1
    have hm9 := m_crowd t g a m q w1 (by rw [k0]; rw [hC9.1.1]; exact hC9.1.2)
    rw [k0, kk0] at hm9
    refine CallN.deep (hm9.conseq (fun r w2 hq => ?_)) (by decide)
    obtain ⟨z2, rfl, hq⟩ := hq
    refine ⟨z2, rfl, ?_⟩
    rcases hq with ⟨hd9, hz2, hw2⟩ | ⟨hd9, hz2, hw2⟩
    · exact absurd hd9 hc9
    · rw [hw2, hw1]
      exact ⟨hz2.trans hz9.symm, (show GAl w from ⟨s9, b9, LN9, hR9, hH9, hC9, hT9, hL9, hV9, hP9, hN9, hO9, hK9⟩)⟩

theorem op_version (n : Int) {w : Wd} (h : GAl w) : OpI mX11_version mX12_version [(2, 0), (0, n)] [(2, 141), (0, n)] w := by
  obtain ⟨s9, b9, LN9, hR9, hH9, hC9, hT9, hL9, hV9, hP9, hN9, hO9, hK9⟩ := h
  refine ⟨_, CallN.deep (x_version n w hV9.1.2) (by decide), fun z w1 hJ => ?_⟩
  rcases hJ with ⟨hc9, hz9, hw1⟩ | ⟨hc9, hz9, hw1⟩
  · skip
    have k0 : w1 141 7 = w 141 7 := by rw [hw1, wu_ne (by decide), wu_ne (by decide)]
    have kk0 : w 141 7 = w 88 2 := by exact hV9.1.1
    have hm9 := m_version n w1 (by rw [k0]; rw [hV9.1.1]; exact hV9.1.2)
    rw [k0, kk0] at hm9
    refine CallN.deep (hm9.conseq (fun r w2 hq => ?_)) (by decide)
    obtain ⟨z2, rfl, hq⟩ := hq
    refine ⟨z2, rfl, ?_⟩
    rcases hq with ⟨hd9, hz2, hw2⟩ | ⟨hd9, hz2, hw2⟩
    · refine ⟨hz2.trans hz9.symm, s9, b9, LN9, ?_⟩
      have nGV : GV w2 := by
        have e89 : w2 89 = updF (w 89) (w 88 2) n := by rw [hw2, wu_ne (by decide), wu_ne (by decide), hw1, wu_ne (by decide), wu_upM]
        have e192 : w2 192 = updF (w 192) (w 88 2) n := by rw [hw2, wu_ne (by decide), wu_upM, hw1, wu_ne (by decide), wu_ne (by decide)]
        have e193 : w2 193 = w 193 := by rw [hw2, wu_ne (by decide), wu_ne (by decide), hw1, wu_ne (by decide), wu_ne (by decide)]
        have f88_2 : w2 88 2 = w 88 2 + 1 := by rw [hw2, wu_ne (by decide), wu_ne (by decide), hw1, wu_same]
        have f141_7 : w2 141 7 = w 88 2 + 1 := by rw [hw2, wu_same]
        have er : ∀ c : Int, 0 ≤ c → c < 9 → w2 (91 + Int.toNat c) = w (91 + Int.toNat c) := fun c c0 c1 => by rw [hw2, wu_ne (by omega), wu_ne (by omega), hw1, wu_ne (by omega), wu_ne (by omega)]
        unfold GV at hV9 ⊢
        rw [e89, e192, e193, f88_2, f141_7]
        obtain ⟨a1, a2, a3, a4⟩ := hV9
        exact ⟨⟨rfl, by omega, by omega⟩, by rw [a2], (fun h h0 h1 => by
          unfold updF
          by_cases e : h = (w 88 2)
          · simp only [if_pos e]; omega
          · simp only [if_neg e]; exact a3 h h0 (by omega)), fun c j c0 c1 j0 j1 => by rw [er c c0 c1]; exact a4 c j c0 c1 j0 j1⟩
      exact GI.mk (hR9.fr (by rw [hw2, hw1]; exact (Agw.f (Agw.c (Agw.c (Agw.c Agw.rf (by decide) (by decide) (by decide)) (by decide) (by decide) (by decide)) (by decide) (by decide) (by decide)) (by decide) (by decide) (by decide)))) (hH9.fr (by rw [hw2, hw1]; exact (Agw.f (Agw.c (Agw.c (Agw.c Agw.rf (by decide) (by decide) (by decide)) (by decide) (by decide) (by decide)) (by decide) (by decide) (by decide)) (by decide) (by decide) (by decide)))) (hC9.fr (by rw [hw2, hw1]; exact (Agw.f (Agw.c (Agw.c (Agw.c Agw.rf (by decide) (by decide) (by decide)) (by decide) (by decide) (by decide)) (by decide) (by decide) (by decide)) (by decide) (by decide) (by decide)))) (hT9.fr (by rw [hw2, hw1]; exact (Agw.f (Agw.c (Agw.c (Agw.c Agw.rf (by decide) (by decide) (by decide)) (by decide) (by decide) (by decide)) (by decide) (by decide) (by decide)) (by decide) (by decide) (by decide)))) (hL9.fr (by rw [hw2, hw1]; exact (Agw.c (Agw.c (Agw.c (Agw.c Agw.rf (by decide) (by decide) (by decide)) (by decide) (by decide) (by decide)) (by decide) (by decide) (by decide)) (by decide) (by decide) (by decide)))) nGV (hP9.fr (by rw [hw2, hw1]; exact (Agw.f (Agw.c (Agw.f (Agw.c Agw.rf (by decide) (by decide) (by decide)) (by decide) (by decide) (by decide)) (by decide) (by decide) (by decide)) (by decide) (by decide) (by decide)))) (hN9.fr (by rw [hw2, hw1]; exact (Agw.c (Agw.c (Agw.c (Agw.c Agw.rf (by decide) (by decide) (by decide)) (by decide) (by decide) (by decide)) (by decide) (by decide) (by decide)) (by decide) (by decide) (by decide)))) (hO9.fr (by rw [hw2, hw1]; exact (Agw.c (Agw.c (Agw.c (Agw.c Agw.rf (by decide) (by decide) (by decide)) (by decide) (by decide) (by decide)) (by decide) (by decide) (by decide)) (by decide) (by decide) (by decide)))) (hK9.fr (by rw [hw2, hw1]; exact (Agw.f (Agw.c (Agw.c (Agw.c Agw.rf (by decide) (by decide) (by decide)) (by decide) (by decide) (by decide)) (by decide) (by decide) (by decide)) (by decide) (by decide) (by decide))))
    · exact absurd hc9 hd9
  · skip
    have k0 : w1 141 7 = w 141 7 := by rw [hw1]
    have kk0 : w 141 7 = w 88 2 := by exact hV9.1.1
    have hm9 := m_version n w1 (by rw [k0]; rw [hV9.1.1]; exact hV9.1.2)
    rw [k0, kk0] at hm9
    refine CallN.deep (hm9.conseq (fun r w2 hq => ?_)) (by decide)
    obtain ⟨z2, rfl, hq⟩ := hq
    refine ⟨z2, rfl, ?_⟩
    rcases hq with ⟨hd9, hz2, hw2⟩ | ⟨hd9, hz2, hw2⟩
    · exact absurd hd9 hc9
    · rw [hw2, hw1]
      exact ⟨hz2.trans hz9.symm, (show GAl w from ⟨s9, b9, LN9, hR9, hH9, hC9, hT9, hL9, hV9, hP9, hN9, hO9, hK9⟩)⟩

theorem op_person (t u : Int) {w : Wd} (h : GAl w) : OpI mX11_person mX12_person [(2, 0), (0, t), (0, u)] [(2, 141), (0, t), (0, u)] w := by
  obtain ⟨s9, b9, LN9, hR9, hH9, hC9, hT9, hL9, hV9, hP9, hN9, hO9, hK9⟩ := h
  refine ⟨_, CallN.deep (x_person t u w hP9.1.2) (by decide), fun z w1 hJ => ?_⟩
  rcases hJ with ⟨hc9, hz9, hw1⟩ | ⟨hc9, hz9, hw1⟩
  · skip
    have k0 : w1 141 8 = w 141 8 := by rw [hw1, wu_ne (by decide), wu_ne (by decide), wu_ne (by decide)]
    have kk0 : w 141 8 = w 88 6 := by exact hP9.1.1
    have hm9 := m_person t u w1 (by rw [k0]; rw [hP9.1.1]; exact hP9.1.2)
    rw [k0, kk0] at hm9
    refine CallN.deep (hm9.conseq (fun r w2 hq => ?_)) (by decide)
    obtain ⟨z2, rfl, hq⟩ := hq
    refine ⟨z2, rfl, ?_⟩
    rcases hq with ⟨hd9, hz2, hw2⟩ | ⟨hd9, hz2, hw2⟩
    · refine ⟨hz2.trans hz9.symm, s9, b9, LN9, ?_⟩
      have nGP : GP w2 := by
        have e101 : w2 101 = updF (w 101) (w 88 6) t := by rw [hw2, wu_ne (by decide), wu_ne (by decide), wu_ne (by decide), hw1, wu_ne (by decide), wu_ne (by decide), wu_upM]
        have e102 : w2 102 = updF (w 102) (w 88 6) u := by rw [hw2, wu_ne (by decide), wu_ne (by decide), wu_ne (by decide), hw1, wu_ne (by decide), wu_upM, wu_ne (by decide)]
        have e197 : w2 197 = updF (w 197) (w 88 6) t := by rw [hw2, wu_ne (by decide), wu_ne (by decide), wu_upM, hw1, wu_ne (by decide), wu_ne (by decide), wu_ne (by decide)]
        have e198 : w2 198 = updF (w 198) (w 88 6) u := by rw [hw2, wu_ne (by decide), wu_upM, wu_ne (by decide), hw1, wu_ne (by decide), wu_ne (by decide), wu_ne (by decide)]
        have f88_6 : w2 88 6 = w 88 6 + 1 := by rw [hw2, wu_ne (by decide), wu_ne (by decide), wu_ne (by decide), hw1, wu_same]
        have f141_8 : w2 141 8 = w 88 6 + 1 := by rw [hw2, wu_same]
        unfold GP at hP9 ⊢
        rw [e101, e102, e197, e198, f88_6, f141_8]
        obtain ⟨a1, a2, a3⟩ := hP9
        exact ⟨⟨rfl, by omega, by omega⟩, ⟨by rw [a2.1], by rw [a2.2]⟩, (fun h h0 h1 => by
          unfold updF
          by_cases e : h = (w 88 6)
          · simp only [if_pos e]; omega
          · simp only [if_neg e]; exact a3 h h0 (by omega))⟩
      exact GI.mk (hR9.fr (by rw [hw2, hw1]; exact (Agw.f (Agw.c (Agw.c (Agw.c (Agw.c (Agw.c Agw.rf (by decide) (by decide) (by decide)) (by decide) (by decide) (by decide)) (by decide) (by decide) (by decide)) (by decide) (by decide) (by decide)) (by decide) (by decide) (by decide)) (by decide) (by decide) (by decide)))) (hH9.fr (by rw [hw2, hw1]; exact (Agw.f (Agw.c (Agw.c (Agw.c (Agw.c (Agw.c Agw.rf (by decide) (by decide) (by decide)) (by decide) (by decide) (by decide)) (by decide) (by decide) (by decide)) (by decide) (by decide) (by decide)) (by decide) (by decide) (by decide)) (by decide) (by decide) (by decide)))) (hC9.fr (by rw [hw2, hw1]; exact (Agw.f (Agw.c (Agw.c (Agw.c (Agw.c (Agw.c Agw.rf (by decide) (by decide) (by decide)) (by decide) (by decide) (by decide)) (by decide) (by decide) (by decide)) (by decide) (by decide) (by decide)) (by decide) (by decide) (by decide)) (by decide) (by decide) (by decide)))) (hT9.fr (by rw [hw2, hw1]; exact (Agw.f (Agw.c (Agw.c (Agw.c (Agw.c (Agw.c Agw.rf (by decide) (by decide) (by decide)) (by decide) (by decide) (by decide)) (by decide) (by decide) (by decide)) (by decide) (by decide) (by decide)) (by decide) (by decide) (by decide)) (by decide) (by decide) (by decide)))) (hL9.fr (by rw [hw2, hw1]; exact (Agw.c (Agw.c (Agw.c (Agw.c (Agw.c (Agw.c Agw.rf (by decide) (by decide) (by decide)) (by decide) (by decide) (by decide)) (by decide) (by decide) (by decide)) (by decide) (by decide) (by decide)) (by decide) (by decide) (by decide)) (by decide) (by decide) (by decide)))) (hV9.fr (by rw [hw2, hw1]; exact (Agw.f (Agw.c (Agw.c (Agw.f (Agw.c (Agw.c Agw.rf (by decide) (by decide) (by decide)) (by decide) (by decide) (by decide)) (by decide) (by decide) (by decide)) (by decide) (by decide) (by decide)) (by decide) (by decide) (by decide)) (by decide) (by decide) (by decide)))) nGP (hN9.fr (by rw [hw2, hw1]; exact (Agw.c (Agw.c (Agw.c (Agw.c (Agw.c (Agw.c Agw.rf (by decide) (by decide) (by decide)) (by decide) (by decide) (by decide)) (by decide) (by decide) (by decide)) (by decide) (by decide) (by decide)) (by decide) (by decide) (by decide)) (by decide) (by decide) (by decide)))) (hO9.fr (by rw [hw2, hw1]; exact (Agw.c (Agw.c (Agw.c (Agw.c (Agw.c (Agw.c Agw.rf (by decide) (by decide) (by decide)) (by decide) (by decide) (by decide)) (by decide) (by decide) (by decide)) (by decide) (by decide) (by decide)) (by decide) (by decide) (by decide)) (by decide) (by decide) (by decide)))) (hK9.fr (by rw [hw2, hw1]; exact (Agw.f (Agw.c (Agw.c (Agw.c (Agw.c (Agw.c Agw.rf (by decide) (by decide) (by decide)) (by decide) (by decide) (by decide)) (by decide) (by decide) (by decide)) (by decide) (by decide) (by decide)) (by decide) (by decide) (by decide)) (by decide) (by decide) (by decide))))
    · exact absurd hc9 hd9
  · skip
    have k0 : w1 141 8 = w 141 8 := by rw [hw1]
    have kk0 : w 141 8 = w 88 6 := by exact hP9.1.1
    have hm9 := m_person t u w1 (by rw [k0]; rw [hP9.1.1]; exact hP9.1.2)
    rw [k0, kk0] at hm9
    refine CallN.deep (hm9.conseq (fun r w2 hq => ?_)) (by decide)
    obtain ⟨z2, rfl, hq⟩ := hq
    refine ⟨z2, rfl, ?_⟩
    rcases hq with ⟨hd9, hz2, hw2⟩ | ⟨hd9, hz2, hw2⟩
    · exact absurd hd9 hc9
    · rw [hw2, hw1]
      exact ⟨hz2.trans hz9.symm, (show GAl w from ⟨s9, b9, LN9, hR9, hH9, hC9, hT9, hL9, hV9, hP9, hN9, hO9, hK9⟩)⟩

theorem op_picture (m t a k f : Int) {w : Wd} (h : GAl w) : OpI mX11_picture mX12_picture [(2, 0), (0, m), (0, t), (0, a), (0, k), (0, f)] [(2, 141), (0, m), (0, t), (0, a), (0, k), (0, f)] w := by
  obtain ⟨s9, b9, LN9, hR9, hH9, hC9, hT9, hL9, hV9, hP9, hN9, hO9, hK9⟩ := h
  refine ⟨_, CallN.deep (x_picture m t a k f w hR9.2.1.2) (by decide), fun z w1 hJ => ?_⟩
  rcases hJ with ⟨hc9, hz9, hw1⟩ | ⟨hc9, hz9, hw1⟩
  · skip
    have k0 : w1 141 1 = w 141 1 := by rw [hw1, wu_ne (by decide), wu_ne (by decide), wu_ne (by decide), wu_ne (by decide), wu_ne (by decide), wu_ne (by decide)]
    have kk0 : w 141 1 = w 1 5 := by exact hR9.2.1.1
    have hm9 := m_picture m t a k f w1 (by rw [k0]; rw [hR9.2.1.1]; exact hR9.2.1.2)
    rw [k0, kk0] at hm9
    refine CallN.deep (hm9.conseq (fun r w2 hq => ?_)) (by decide)
    obtain ⟨z2, rfl, hq⟩ := hq
    refine ⟨z2, rfl, ?_⟩
    rcases hq with ⟨hd9, hz2, hw2⟩ | ⟨hd9, hz2, hw2⟩
    · refine ⟨hz2.trans hz9.symm, s9, b9, LN9, ?_⟩
      have nGR : GR w2 := by
        have e2 : w2 2 = updF (w 2) (w 1 5) m := by rw [hw2, wu_ne (by decide), wu_ne (by decide), wu_ne (by decide), wu_ne (by decide), wu_ne (by decide), wu_ne (by decide), hw1, wu_ne (by decide), wu_ne (by decide), wu_ne (by decide), wu_ne (by decide), wu_ne (by decide), wu_upM]
        have e3 : w2 3 = updF (w 3) (w 1 5) t := by rw [hw2, wu_ne (by decide), wu_ne (by decide), wu_ne (by decide), wu_ne (by decide), wu_ne (by decide), wu_ne (by decide), hw1, wu_ne (by decide), wu_ne (by decide), wu_ne (by decide), wu_ne (by decide), wu_upM, wu_ne (by decide)]
        have e4 : w2 4 = updF (w 4) (w 1 5) a := by rw [hw2, wu_ne (by decide), wu_ne (by decide), wu_ne (by decide), wu_ne (by decide), wu_ne (by decide), wu_ne (by decide), hw1, wu_ne (by decide), wu_ne (by decide), wu_ne (by decide), wu_upM, wu_ne (by decide), wu_ne (by decide)]
        have e5 : w2 5 = updF (w 5) (w 1 5) k := by rw [hw2, wu_ne (by decide), wu_ne (by decide), wu_ne (by decide), wu_ne (by decide), wu_ne (by decide), wu_ne (by decide), hw1, wu_ne (by decide), wu_ne (by decide), wu_upM, wu_ne (by decide), wu_ne (by decide), wu_ne (by decide)]
        have e6 : w2 6 = updF (w 6) (w 1 5) f := by rw [hw2, wu_ne (by decide), wu_ne (by decide), wu_ne (by decide), wu_ne (by decide), wu_ne (by decide), wu_ne (by decide), hw1, wu_ne (by decide), wu_upM, wu_ne (by decide), wu_ne (by decide), wu_ne (by decide), wu_ne (by decide)]
        have e7 : w2 7 = w 7 := by rw [hw2, wu_ne (by decide), wu_ne (by decide), wu_ne (by decide), wu_ne (by decide), wu_ne (by decide), wu_ne (by decide), hw1, wu_ne (by decide), wu_ne (by decide), wu_ne (by decide), wu_ne (by decide), wu_ne (by decide), wu_ne (by decide)]
        have e8 : w2 8 = w 8 := by rw [hw2, wu_ne (by decide), wu_ne (by decide), wu_ne (by decide), wu_ne (by decide), wu_ne (by decide), wu_ne (by decide), hw1, wu_ne (by decide), wu_ne (by decide), wu_ne (by decide), wu_ne (by decide), wu_ne (by decide), wu_ne (by decide)]
        have e10 : w2 10 = w 10 := by rw [hw2, wu_ne (by decide), wu_ne (by decide), wu_ne (by decide), wu_ne (by decide), wu_ne (by decide), wu_ne (by decide), hw1, wu_ne (by decide), wu_ne (by decide), wu_ne (by decide), wu_ne (by decide), wu_ne (by decide), wu_ne (by decide)]
        have e11 : w2 11 = w 11 := by rw [hw2, wu_ne (by decide), wu_ne (by decide), wu_ne (by decide), wu_ne (by decide), wu_ne (by decide), wu_ne (by decide), hw1, wu_ne (by decide), wu_ne (by decide), wu_ne (by decide), wu_ne (by decide), wu_ne (by decide), wu_ne (by decide)]
        have e12 : w2 12 = w 12 := by rw [hw2, wu_ne (by decide), wu_ne (by decide), wu_ne (by decide), wu_ne (by decide), wu_ne (by decide), wu_ne (by decide), hw1, wu_ne (by decide), wu_ne (by decide), wu_ne (by decide), wu_ne (by decide), wu_ne (by decide), wu_ne (by decide)]
        have e13 : w2 13 = w 13 := by rw [hw2, wu_ne (by decide), wu_ne (by decide), wu_ne (by decide), wu_ne (by decide), wu_ne (by decide), wu_ne (by decide), hw1, wu_ne (by decide), wu_ne (by decide), wu_ne (by decide), wu_ne (by decide), wu_ne (by decide), wu_ne (by decide)]
        have e14 : w2 14 = w 14 := by rw [hw2, wu_ne (by decide), wu_ne (by decide), wu_ne (by decide), wu_ne (by decide), wu_ne (by decide), wu_ne (by decide), hw1, wu_ne (by decide), wu_ne (by decide), wu_ne (by decide), wu_ne (by decide), wu_ne (by decide), wu_ne (by decide)]
        have e142 : w2 142 = updF (w 142) (w 1 5) m := by rw [hw2, wu_ne (by decide), wu_ne (by decide), wu_ne (by decide), wu_ne (by decide), wu_ne (by decide), wu_upM, hw1, wu_ne (by decide), wu_ne (by decide), wu_ne (by decide), wu_ne (by decide), wu_ne (by decide), wu_ne (by decide)]
        have e143 : w2 143 = updF (w 143) (w 1 5) t := by rw [hw2, wu_ne (by decide), wu_ne (by decide), wu_ne (by decide), wu_ne (by decide), wu_upM, wu_ne (by decide), hw1, wu_ne (by decide), wu_ne (by decide), wu_ne (by decide), wu_ne (by decide), wu_ne (by decide), wu_ne (by decide)]
        have e144 : w2 144 = updF (w 144) (w 1 5) a := by rw [hw2, wu_ne (by decide), wu_ne (by decide), wu_ne (by decide), wu_upM, wu_ne (by decide), wu_ne (by decide), hw1, wu_ne (by decide), wu_ne (by decide), wu_ne (by decide), wu_ne (by decide), wu_ne (by decide), wu_ne (by decide)]
        have e145 : w2 145 = updF (w 145) (w 1 5) k := by rw [hw2, wu_ne (by decide), wu_ne (by decide), wu_upM, wu_ne (by decide), wu_ne (by decide), wu_ne (by decide), hw1, wu_ne (by decide), wu_ne (by decide), wu_ne (by decide), wu_ne (by decide), wu_ne (by decide), wu_ne (by decide)]
        have e146 : w2 146 = updF (w 146) (w 1 5) f := by rw [hw2, wu_ne (by decide), wu_upM, wu_ne (by decide), wu_ne (by decide), wu_ne (by decide), wu_ne (by decide), hw1, wu_ne (by decide), wu_ne (by decide), wu_ne (by decide), wu_ne (by decide), wu_ne (by decide), wu_ne (by decide)]
        have e147 : w2 147 = w 147 := by rw [hw2, wu_ne (by decide), wu_ne (by decide), wu_ne (by decide), wu_ne (by decide), wu_ne (by decide), wu_ne (by decide), hw1, wu_ne (by decide), wu_ne (by decide), wu_ne (by decide), wu_ne (by decide), wu_ne (by decide), wu_ne (by decide)]
        have e148 : w2 148 = w 148 := by rw [hw2, wu_ne (by decide), wu_ne (by decide), wu_ne (by decide), wu_ne (by decide), wu_ne (by decide), wu_ne (by decide), hw1, wu_ne (by decide), wu_ne (by decide), wu_ne (by decide), wu_ne (by decide), wu_ne (by decide), wu_ne (by decide)]
        have e150 : w2 150 = w 150 := by rw [hw2, wu_ne (by decide), wu_ne (by decide), wu_ne (by decide), wu_ne (by decide), wu_ne (by decide), wu_ne (by decide), hw1, wu_ne (by decide), wu_ne (by decide), wu_ne (by decide), wu_ne (by decide), wu_ne (by decide), wu_ne (by decide)]
        have e151 : w2 151 = w 151 := by rw [hw2, wu_ne (by decide), wu_ne (by decide), wu_ne (by decide), wu_ne (by decide), wu_ne (by decide), wu_ne (by decide), hw1, wu_ne (by decide), wu_ne (by decide), wu_ne (by decide), wu_ne (by decide), wu_ne (by decide), wu_ne (by decide)]
        have e152 : w2 152 = w 152 := by rw [hw2, wu_ne (by decide), wu_ne (by decide), wu_ne (by decide), wu_ne (by decide), wu_ne (by decide), wu_ne (by decide), hw1, wu_ne (by decide), wu_ne (by decide), wu_ne (by decide), wu_ne (by decide), wu_ne (by decide), wu_ne (by decide)]
        have e153 : w2 153 = w 153 := by rw [hw2, wu_ne (by decide), wu_ne (by decide), wu_ne (by decide), wu_ne (by decide), wu_ne (by decide), wu_ne (by decide), hw1, wu_ne (by decide), wu_ne (by decide), wu_ne (by decide), wu_ne (by decide), wu_ne (by decide), wu_ne (by decide)]
        have e154 : w2 154 = w 154 := by rw [hw2, wu_ne (by decide), wu_ne (by decide), wu_ne (by decide), wu_ne (by decide), wu_ne (by decide), wu_ne (by decide), hw1, wu_ne (by decide), wu_ne (by decide), wu_ne (by decide), wu_ne (by decide), wu_ne (by decide), wu_ne (by decide)]
        have f0_10 : w2 0 10 = w 0 10 := by rw [hw2, wu_ne (by decide), wu_ne (by decide), wu_ne (by decide), wu_ne (by decide), wu_ne (by decide), wu_ne (by decide), hw1, wu_ne (by decide), wu_ne (by decide), wu_ne (by decide), wu_ne (by decide), wu_ne (by decide), wu_ne (by decide)]
        have f1_5 : w2 1 5 = w 1 5 + 1 := by rw [hw2, wu_ne (by decide), wu_ne (by decide), wu_ne (by decide), wu_ne (by decide), wu_ne (by decide), wu_ne (by decide), hw1, wu_same]
        have f1_9 : w2 1 9 = w 1 9 := by rw [hw2, wu_ne (by decide), wu_ne (by decide), wu_ne (by decide), wu_ne (by decide), wu_ne (by decide), wu_ne (by decide), hw1, wu_at, if_neg (by decide), wu_ne (by decide), wu_ne (by decide), wu_ne (by decide), wu_ne (by decide), wu_ne (by decide)]
        have f1_15 : w2 1 15 = w 1 15 := by rw [hw2, wu_ne (by decide), wu_ne (by decide), wu_ne (by decide), wu_ne (by decide), wu_ne (by decide), wu_ne (by decide), hw1, wu_at, if_neg (by decide), wu_ne (by decide), wu_ne (by decide), wu_ne (by decide), wu_ne (by decide), wu_ne (by decide)]
        have f141_0 : w2 141 0 = w 141 0 := by rw [hw2, wu_at, if_neg (by decide), wu_ne (by decide), wu_ne (by decide), wu_ne (by decide), wu_ne (by decide), wu_ne (by decide), hw1, wu_ne (by decide), wu_ne (by decide), wu_ne (by decide), wu_ne (by decide), wu_ne (by decide), wu_ne (by decide)]
        have f141_1 : w2 141 1 = w 1 5 + 1 := by rw [hw2, wu_same]
        have f141_2 : w2 141 2 = w 141 2 := by rw [hw2, wu_at, if_neg (by decide), wu_ne (by decide), wu_ne (by decide), wu_ne (by decide), wu_ne (by decide), wu_ne (by decide), hw1, wu_ne (by decide), wu_ne (by decide), wu_ne (by decide), wu_ne (by decide), wu_ne (by decide), wu_ne (by decide)]
        have f141_3 : w2 141 3 = w 141 3 := by rw [hw2, wu_at, if_neg (by decide), wu_ne (by decide), wu_ne (by decide), wu_ne (by decide), wu_ne (by decide), wu_ne (by decide), hw1, wu_ne (by decide), wu_ne (by decide), wu_ne (by decide), wu_ne (by decide), wu_ne (by decide), wu_ne (by decide)]
        unfold GR at hR9 ⊢
        rw [e2, e3, e4, e5, e6, e7, e8, e10, e11, e12, e13, e14, e142, e143, e144, e145, e146, e147, e148, e150, e151, e152, e153, e154, f0_10, f1_5, f1_9, f1_15, f141_0, f141_1, f141_2, f141_3]
        obtain ⟨b1, b2, b3, b4, b5, b6, b7, b8, b9, b10, b11, b12⟩ := hR9
        exact ⟨b1, ⟨rfl, by omega, by omega⟩, b3, b4, ⟨by rw [b5.1], by rw [b5.2.1], by rw [b5.2.2.1], by rw [b5.2.2.2.1], by rw [b5.2.2.2.2.1], b5.2.2.2.2.2.1, b5.2.2.2.2.2.2.1, b5.2.2.2.2.2.2.2.1, b5.2.2.2.2.2.2.2.2.1, b5.2.2.2.2.2.2.2.2.2.1, b5.2.2.2.2.2.2.2.2.2.2.1, b5.2.2.2.2.2.2.2.2.2.2.2⟩, (fun h h0 h1 => by
          unfold updF
          by_cases e : h = (w 1 5)
          · simp only [if_pos e]; omega
          · simp only [if_neg e]; exact b6 h h0 h1), (fun h h0 h1 => by
          unfold updF
          by_cases e : h = (w 1 5)
          · simp only [if_pos e]; omega
          · simp only [if_neg e]; exact b7 h h0 (by omega)), (fun h h0 h1 => by have := b8 h h0 h1; omega), b9, b10, b11, b12⟩
      exact GI.mk nGR (hH9.fr (by rw [hw2, hw1]; exact (Agw.f (Agw.c (Agw.c (Agw.c (Agw.c (Agw.c (Agw.f (Agw.c (Agw.c (Agw.c (Agw.c (Agw.c Agw.rf (by decide) (by decide) (by decide)) (by decide) (by decide) (by decide)) (by decide) (by decide) (by decide)) (by decide) (by decide) (by decide)) (by decide) (by decide) (by decide)) (by decide) (by decide) (by decide)) (by decide) (by decide) (by decide)) (by decide) (by decide) (by decide)) (by decide) (by decide) (by decide)) (by decide) (by decide) (by decide)) (by decide) (by decide) (by decide)) (by decide) (by decide) (by decide)))) (hC9.fr (by rw [hw2, hw1]; exact (Agw.f (Agw.c (Agw.c (Agw.c (Agw.c (Agw.c (Agw.c (Agw.c (Agw.c (Agw.c (Agw.c (Agw.c Agw.rf (by decide) (by decide) (by decide)) (by decide) (by decide) (by decide)) (by decide) (by decide) (by decide)) (by decide) (by decide) (by decide)) (by decide) (by decide) (by decide)) (by decide) (by decide) (by decide)) (by decide) (by decide) (by decide)) (by decide) (by decide) (by decide)) (by decide) (by decide) (by decide)) (by decide) (by decide) (by decide)) (by decide) (by decide) (by decide)) (by decide) (by decide) (by decide)))) (hT9.fr (by rw [hw2, hw1]; exact (Agw.f (Agw.c (Agw.c (Agw.c (Agw.c (Agw.c (Agw.c (Agw.c (Agw.c (Agw.c (Agw.c (Agw.c Agw.rf (by decide) (by decide) (by decide)) (by decide) (by decide) (by decide)) (by decide) (by decide) (by decide)) (by decide) (by decide) (by decide)) (by decide) (by decide) (by decide)) (by decide) (by decide) (by decide)) (by decide) (by decide) (by decide)) (by decide) (by decide) (by decide)) (by decide) (by decide) (by decide)) (by decide) (by decide) (by decide)) (by decide) (by decide) (by decide)) (by decide) (by decide) (by decide)))) (hL9.fr (by rw [hw2, hw1]; exact (Agw.c (Agw.c (Agw.c (Agw.c (Agw.c (Agw.c (Agw.c (Agw.c (Agw.c (Agw.c (Agw.c (Agw.c Agw.rf (by decide) (by decide) (by decide)) (by decide) (by decide) (by decide)) (by decide) (by decide) (by decide)) (by decide) (by decide) (by decide)) (by decide) (by decide) (by decide)) (by decide) (by decide) (by decide)) (by decide) (by decide) (by decide)) (by decide) (by decide) (by decide)) (by decide) (by decide) (by decide)) (by decide) (by decide) (by decide)) (by decide) (by decide) (by decide)) (by decide) (by decide) (by decide)))) (hV9.fr (by rw [hw2, hw1]; exact (Agw.f (Agw.c (Agw.c (Agw.c (Agw.c (Agw.c (Agw.c (Agw.c (Agw.c (Agw.c (Agw.c (Agw.c Agw.rf (by decide) (by decide) (by decide)) (by decide) (by decide) (by decide)) (by decide) (by decide) (by decide)) (by decide) (by decide) (by decide)) (by decide) (by decide) (by decide)) (by decide) (by decide) (by decide)) (by decide) (by decide) (by decide)) (by decide) (by decide) (by decide)) (by decide) (by decide) (by decide)) (by decide) (by decide) (by decide)) (by decide) (by decide) (by decide)) (by decide) (by decide) (by decide)))) (hP9.fr (by rw [hw2, hw1]; exact (Agw.f (Agw.c (Agw.c (Agw.c (Agw.c (Agw.c (Agw.c (Agw.c (Agw.c (Agw.c (Agw.c (Agw.c Agw.rf (by decide) (by decide) (by decide)) (by decide) (by decide) (by decide)) (by decide) (by decide) (by decide)) (by decide) (by decide) (by decide)) (by decide) (by decide) (by decide)) (by decide) (by decide) (by decide)) (by decide) (by decide) (by decide)) (by decide) (by decide) (by decide)) (by decide) (by decide) (by decide)) (by decide) (by decide) (by decide)) (by decide) (by decide) (by decide)) (by decide) (by decide) (by decide)))) (hN9.fr (by rw [hw2, hw1]; exact (Agw.c (Agw.c (Agw.c (Agw.c (Agw.c (Agw.c (Agw.c (Agw.c (Agw.c (Agw.c (Agw.c (Agw.c Agw.rf (by decide) (by decide) (by decide)) (by decide) (by decide) (by decide)) (by decide) (by decide) (by decide)) (by decide) (by decide) (by decide)) (by decide) (by decide) (by decide)) (by decide) (by decide) (by decide)) (by decide) (by decide) (by decide)) (by decide) (by decide) (by decide)) (by decide) (by decide) (by decide)) (by decide) (by decide) (by decide)) (by decide) (by decide) (by decide)) (by decide) (by decide) (by decide)))) (hO9.fr (by rw [hw2, hw1]; exact (Agw.c (Agw.c (Agw.c (Agw.c (Agw.c (Agw.c (Agw.c (Agw.c (Agw.c (Agw.c (Agw.c (Agw.c Agw.rf (by decide) (by decide) (by decide)) (by decide) (by decide) (by decide)) (by decide) (by decide) (by decide)) (by decide) (by decide) (by decide)) (by decide) (by decide) (by decide)) (by decide) (by decide) (by decide)) (by decide) (by decide) (by decide)) (by decide) (by decide) (by decide)) (by decide) (by decide) (by decide)) (by decide) (by decide) (by decide)) (by decide) (by decide) (by decide)) (by decide) (by decide) (by decide)))) (hK9.fr (by rw [hw2, hw1]; exact (Agw.f (Agw.c (Agw.c (Agw.c (Agw.c (Agw.c (Agw.c (Agw.c (Agw.c (Agw.c (Agw.c (Agw.c Agw.rf (by decide) (by decide) (by decide)) (by decide) (by decide) (by decide)) (by decide) (by decide) (by decide)) (by decide) (by decide) (by decide)) (by decide) (by decide) (by decide)) (by decide) (by decide) (by decide)) (by decide) (by decide) (by decide)) (by decide) (by decide) (by decide)) (by decide) (by decide) (by decide)) (by decide) (by decide) (by decide)) (by decide) (by decide) (by decide)) (by decide) (by decide) (by decide))))
    · exact absurd hc9 hd9
  · skip
    have k0 : w1 141 1 = w 141 1 := by rw [hw1]
    have kk0 : w 141 1 = w 1 5 := by exact hR9.2.1.1
    have hm9 := m_picture m t a k f w1 (by rw [k0]; rw [hR9.2.1.1]; exact hR9.2.1.2)
    rw [k0, kk0] at hm9
    refine CallN.deep (hm9.conseq (fun r w2 hq => ?_)) (by decide)
    obtain ⟨z2, rfl, hq⟩ := hq
    refine ⟨z2, rfl, ?_⟩
    rcases hq with ⟨hd9, hz2, hw2⟩ | ⟨hd9, hz2, hw2⟩
    · exact absurd hd9 hc9
    · rw [hw2, hw1]
      exact ⟨hz2.trans hz9.symm, (show GAl w from ⟨s9, b9, LN9, hR9, hH9, hC9, hT9, hL9, hV9, hP9, hN9, hO9, hK9⟩)⟩

theorem op_print (p : Int) {w : Wd} (h : GAl w) : OpI mX11_print mX12_print [(2, 0), (0, p)] [(2, 141), (0, p)] w := by
  obtain ⟨s9, b9, LN9, hR9, hH9, hC9, hT9, hL9, hV9, hP9, hN9, hO9, hK9⟩ := h
  refine ⟨_, CallN.deep (x_print p w hR9.2.2.1.2) (by decide), fun z w1 hJ => ?_⟩
  rcases hJ with ⟨hc9, hz9, hw1⟩ | ⟨hc9, hz9, hw1⟩
  · skip
    have k0 : w1 141 2 = w 141 2 := by rw [hw1, wu_ne (by decide), wu_ne (by decide), wu_ne (by decide), wu_ne (by decide)]
    have kk0 : w 141 2 = w 1 9 := by exact hR9.2.2.1.1
    have k1 : w1 141 1 = w 141 1 := by rw [hw1, wu_ne (by decide), wu_ne (by decide), wu_ne (by decide), wu_ne (by decide)]
    have kk1 : w 141 1 = w 1 5 := by exact hR9.2.1.1
    have hm9 := m_print p w1 (by rw [k1]; rw [hR9.2.1.1]; exact hR9.2.1.2) (by rw [k0]; rw [hR9.2.2.1.1]; exact hR9.2.2.1.2)
    rw [k0, kk0, k1, kk1] at hm9
    refine CallN.deep (hm9.conseq (fun r w2 hq => ?_)) (by decide)
    obtain ⟨z2, rfl, hq⟩ := hq
    refine ⟨z2, rfl, ?_⟩
    rcases hq with ⟨hd9, hz2, hw2⟩ | ⟨hd9, hz2, hw2⟩
    · refine ⟨hz2.trans hz9.symm, s9, b9, LN9, ?_⟩
      have nGR : GR w2 := by
        have e2 : w2 2 = w 2 := by rw [hw2, wu_ne (by decide), wu_ne (by decide), wu_ne (by decide), hw1, wu_ne (by decide), wu_ne (by decide), wu_ne (by decide), wu_ne (by decide)]
        have e3 : w2 3 = w 3 := by rw [hw2, wu_ne (by decide), wu_ne (by decide), wu_ne (by decide), hw1, wu_ne (by decide), wu_ne (by decide), wu_ne (by decide), wu_ne (by decide)]
        have e4 : w2 4 = w 4 := by rw [hw2, wu_ne (by decide), wu_ne (by decide), wu_ne (by decide), hw1, wu_ne (by decide), wu_ne (by decide), wu_ne (by decide), wu_ne (by decide)]
        have e5 : w2 5 = w 5 := by rw [hw2, wu_ne (by decide), wu_ne (by decide), wu_ne (by decide), hw1, wu_ne (by decide), wu_ne (by decide), wu_ne (by decide), wu_ne (by decide)]
        have e6 : w2 6 = w 6 := by rw [hw2, wu_ne (by decide), wu_ne (by decide), wu_ne (by decide), hw1, wu_ne (by decide), wu_ne (by decide), wu_ne (by decide), wu_ne (by decide)]
        have e7 : w2 7 = updF (w 7) (w 1 9) p := by rw [hw2, wu_ne (by decide), wu_ne (by decide), wu_ne (by decide), hw1, wu_ne (by decide), wu_ne (by decide), wu_ne (by decide), wu_upM]
        have e8 : w2 8 = updF (w 8) (w 1 9) 0 := by rw [hw2, wu_ne (by decide), wu_ne (by decide), wu_ne (by decide), hw1, wu_ne (by decide), wu_ne (by decide), wu_upM, wu_ne (by decide)]
        have e10 : w2 10 = w 10 := by rw [hw2, wu_ne (by decide), wu_ne (by decide), wu_ne (by decide), hw1, wu_ne (by decide), wu_ne (by decide), wu_ne (by decide), wu_ne (by decide)]
        have e11 : w2 11 = w 11 := by rw [hw2, wu_ne (by decide), wu_ne (by decide), wu_ne (by decide), hw1, wu_ne (by decide), wu_ne (by decide), wu_ne (by decide), wu_ne (by decide)]
        have e12 : w2 12 = w 12 := by rw [hw2, wu_ne (by decide), wu_ne (by decide), wu_ne (by decide), hw1, wu_ne (by decide), wu_ne (by decide), wu_ne (by decide), wu_ne (by decide)]
        have e13 : w2 13 = w 13 := by rw [hw2, wu_ne (by decide), wu_ne (by decide), wu_ne (by decide), hw1, wu_ne (by decide), wu_ne (by decide), wu_ne (by decide), wu_ne (by decide)]
        have e14 : w2 14 = w 14 := by rw [hw2, wu_ne (by decide), wu_ne (by decide), wu_ne (by decide), hw1, wu_ne (by decide), wu_ne (by decide), wu_ne (by decide), wu_ne (by decide)]
        have e142 : w2 142 = w 142 := by rw [hw2, wu_ne (by decide), wu_ne (by decide), wu_ne (by decide), hw1, wu_ne (by decide), wu_ne (by decide), wu_ne (by decide), wu_ne (by decide)]
        have e143 : w2 143 = w 143 := by rw [hw2, wu_ne (by decide), wu_ne (by decide), wu_ne (by decide), hw1, wu_ne (by decide), wu_ne (by decide), wu_ne (by decide), wu_ne (by decide)]
        have e144 : w2 144 = w 144 := by rw [hw2, wu_ne (by decide), wu_ne (by decide), wu_ne (by decide), hw1, wu_ne (by decide), wu_ne (by decide), wu_ne (by decide), wu_ne (by decide)]
        have e145 : w2 145 = w 145 := by rw [hw2, wu_ne (by decide), wu_ne (by decide), wu_ne (by decide), hw1, wu_ne (by decide), wu_ne (by decide), wu_ne (by decide), wu_ne (by decide)]
        have e146 : w2 146 = w 146 := by rw [hw2, wu_ne (by decide), wu_ne (by decide), wu_ne (by decide), hw1, wu_ne (by decide), wu_ne (by decide), wu_ne (by decide), wu_ne (by decide)]
        have e147 : w2 147 = updF (w 147) (w 1 9) p := by rw [hw2, wu_ne (by decide), wu_ne (by decide), wu_upM, hw1, wu_ne (by decide), wu_ne (by decide), wu_ne (by decide), wu_ne (by decide)]
        have e148 : w2 148 = w 148 := by rw [hw2, wu_ne (by decide), wu_ne (by decide), wu_ne (by decide), hw1, wu_ne (by decide), wu_ne (by decide), wu_ne (by decide), wu_ne (by decide)]
        have e150 : w2 150 = w 150 := by rw [hw2, wu_ne (by decide), wu_ne (by decide), wu_ne (by decide), hw1, wu_ne (by decide), wu_ne (by decide), wu_ne (by decide), wu_ne (by decide)]
        have e151 : w2 151 = w 151 := by rw [hw2, wu_ne (by decide), wu_ne (by decide), wu_ne (by decide), hw1, wu_ne (by decide), wu_ne (by decide), wu_ne (by decide), wu_ne (by decide)]
        have e152 : w2 152 = w 152 := by rw [hw2, wu_ne (by decide), wu_ne (by decide), wu_ne (by decide), hw1, wu_ne (by decide), wu_ne (by decide), wu_ne (by decide), wu_ne (by decide)]
        have e153 : w2 153 = w 153 := by rw [hw2, wu_ne (by decide), wu_ne (by decide), wu_ne (by decide), hw1, wu_ne (by decide), wu_ne (by decide), wu_ne (by decide), wu_ne (by decide)]
        have e154 : w2 154 = w 154 := by rw [hw2, wu_ne (by decide), wu_ne (by decide), wu_ne (by decide), hw1, wu_ne (by decide), wu_ne (by decide), wu_ne (by decide), wu_ne (by decide)]
        have f0_10 : w2 0 10 = w 0 10 := by rw [hw2, wu_ne (by decide), wu_ne (by decide), wu_ne (by decide), hw1, wu_ne (by decide), wu_ne (by decide), wu_ne (by decide), wu_ne (by decide)]
        have f1_5 : w2 1 5 = w 1 5 := by rw [hw2, wu_ne (by decide), wu_ne (by decide), wu_ne (by decide), hw1, wu_at, if_neg (by decide), wu_ne (by decide), wu_ne (by decide), wu_ne (by decide)]
        have f1_9 : w2 1 9 = w 1 9 + 1 := by rw [hw2, wu_ne (by decide), wu_ne (by decide), wu_ne (by decide), hw1, wu_same]
        have f1_15 : w2 1 15 = w 1 15 := by rw [hw2, wu_ne (by decide), wu_ne (by decide), wu_ne (by decide), hw1, wu_at, if_neg (by decide), wu_ne (by decide), wu_ne (by decide), wu_ne (by decide)]
        have f141_0 : w2 141 0 = w 141 0 := by rw [hw2, wu_at, if_neg (by decide), wu_ne (by decide), wu_ne (by decide), hw1, wu_ne (by decide), wu_ne (by decide), wu_ne (by decide), wu_ne (by decide)]
        have f141_1 : w2 141 1 = w 141 1 := by rw [hw2, wu_at, if_neg (by decide), wu_ne (by decide), wu_ne (by decide), hw1, wu_ne (by decide), wu_ne (by decide), wu_ne (by decide), wu_ne (by decide)]
        have f141_2 : w2 141 2 = w 1 9 + 1 := by rw [hw2, wu_same]
        have f141_3 : w2 141 3 = w 141 3 := by rw [hw2, wu_at, if_neg (by decide), wu_ne (by decide), wu_ne (by decide), hw1, wu_ne (by decide), wu_ne (by decide), wu_ne (by decide), wu_ne (by decide)]
        unfold GR at hR9 ⊢
        rw [e2, e3, e4, e5, e6, e7, e8, e10, e11, e12, e13, e14, e142, e143, e144, e145, e146, e147, e148, e150, e151, e152, e153, e154, f0_10, f1_5, f1_9, f1_15, f141_0, f141_1, f141_2, f141_3]
        obtain ⟨b1, b2, b3, b4, b5, b6, b7, b8, b9, b10, b11, b12⟩ := hR9
        have z8 : updF (w 8) (w 1 9) 0 = w 8 := updF_same (b12 _ (Int.le_refl _))
        rw [z8]
        exact ⟨b1, b2, ⟨rfl, by omega, by omega⟩, b4, ⟨b5.1, b5.2.1, b5.2.2.1, b5.2.2.2.1, b5.2.2.2.2.1, by rw [b5.2.2.2.2.2.1], b5.2.2.2.2.2.2.1, b5.2.2.2.2.2.2.2.1, b5.2.2.2.2.2.2.2.2.1, b5.2.2.2.2.2.2.2.2.2.1, b5.2.2.2.2.2.2.2.2.2.2.1, b5.2.2.2.2.2.2.2.2.2.2.2⟩, b6, b7, (fun h h0 h1 => by
          unfold updF
          by_cases e : h = (w 1 9)
          · simp only [if_pos e]; omega
          · simp only [if_neg e]; exact b8 h h0 (by omega)), b9, b10, (fun h h0 h1 => by
          by_cases e : h = (w 1 9)
          · have := b12 h (by omega); omega
          · exact b11 h h0 (by omega)), fun h h0 => b12 h (by omega)⟩
      have nGH : GH w2 := by
        have e9 : w2 9 = updF (w 9) (w 1 9) (-1) := by rw [hw2, wu_ne (by decide), wu_ne (by decide), wu_ne (by decide), hw1, wu_ne (by decide), wu_upM, wu_ne (by decide), wu_ne (by decide)]
        have e16 : w2 16 = w 16 := by rw [hw2, wu_ne (by decide), wu_ne (by decide), wu_ne (by decide), hw1, wu_ne (by decide), wu_ne (by decide), wu_ne (by decide), wu_ne (by decide)]
        have e17 : w2 17 = w 17 := by rw [hw2, wu_ne (by decide), wu_ne (by decide), wu_ne (by decide), hw1, wu_ne (by decide), wu_ne (by decide), wu_ne (by decide), wu_ne (by decide)]
        have e18 : w2 18 = w 18 := by rw [hw2, wu_ne (by decide), wu_ne (by decide), wu_ne (by decide), hw1, wu_ne (by decide), wu_ne (by decide), wu_ne (by decide), wu_ne (by decide)]
        have e19 : w2 19 = w 19 := by rw [hw2, wu_ne (by decide), wu_ne (by decide), wu_ne (by decide), hw1, wu_ne (by decide), wu_ne (by decide), wu_ne (by decide), wu_ne (by decide)]
        have e20 : w2 20 = w 20 := by rw [hw2, wu_ne (by decide), wu_ne (by decide), wu_ne (by decide), hw1, wu_ne (by decide), wu_ne (by decide), wu_ne (by decide), wu_ne (by decide)]
        have e21 : w2 21 = w 21 := by rw [hw2, wu_ne (by decide), wu_ne (by decide), wu_ne (by decide), hw1, wu_ne (by decide), wu_ne (by decide), wu_ne (by decide), wu_ne (by decide)]
        have e22 : w2 22 = w 22 := by rw [hw2, wu_ne (by decide), wu_ne (by decide), wu_ne (by decide), hw1, wu_ne (by decide), wu_ne (by decide), wu_ne (by decide), wu_ne (by decide)]
        have e23 : w2 23 = w 23 := by rw [hw2, wu_ne (by decide), wu_ne (by decide), wu_ne (by decide), hw1, wu_ne (by decide), wu_ne (by decide), wu_ne (by decide), wu_ne (by decide)]
        have e24 : w2 24 = w 24 := by rw [hw2, wu_ne (by decide), wu_ne (by decide), wu_ne (by decide), hw1, wu_ne (by decide), wu_ne (by decide), wu_ne (by decide), wu_ne (by decide)]
        have e25 : w2 25 = w 25 := by rw [hw2, wu_ne (by decide), wu_ne (by decide), wu_ne (by decide), hw1, wu_ne (by decide), wu_ne (by decide), wu_ne (by decide), wu_ne (by decide)]
        have e26 : w2 26 = w 26 := by rw [hw2, wu_ne (by decide), wu_ne (by decide), wu_ne (by decide), hw1, wu_ne (by decide), wu_ne (by decide), wu_ne (by decide), wu_ne (by decide)]
        have e27 : w2 27 = w 27 := by rw [hw2, wu_ne (by decide), wu_ne (by decide), wu_ne (by decide), hw1, wu_ne (by decide), wu_ne (by decide), wu_ne (by decide), wu_ne (by decide)]
        have e28 : w2 28 = w 28 := by rw [hw2, wu_ne (by decide), wu_ne (by decide), wu_ne (by decide), hw1, wu_ne (by decide), wu_ne (by decide), wu_ne (by decide), wu_ne (by decide)]
        have e29 : w2 29 = w 29 := by rw [hw2, wu_ne (by decide), wu_ne (by decide), wu_ne (by decide), hw1, wu_ne (by decide), wu_ne (by decide), wu_ne (by decide), wu_ne (by decide)]
        have e149 : w2 149 = updF (w 149) (w 1 9) (-1) := by rw [hw2, wu_ne (by decide), wu_upM, wu_ne (by decide), hw1, wu_ne (by decide), wu_ne (by decide), wu_ne (by decide), wu_ne (by decide)]
        have e155 : w2 155 = w 155 := by rw [hw2, wu_ne (by decide), wu_ne (by decide), wu_ne (by decide), hw1, wu_ne (by decide), wu_ne (by decide), wu_ne (by decide), wu_ne (by decide)]
        have e156 : w2 156 = w 156 := by rw [hw2, wu_ne (by decide), wu_ne (by decide), wu_ne (by decide), hw1, wu_ne (by decide), wu_ne (by decide), wu_ne (by decide), wu_ne (by decide)]
        have e157 : w2 157 = w 157 := by rw [hw2, wu_ne (by decide), wu_ne (by decide), wu_ne (by decide), hw1, wu_ne (by decide), wu_ne (by decide), wu_ne (by decide), wu_ne (by decide)]
        have e158 : w2 158 = w 158 := by rw [hw2, wu_ne (by decide), wu_ne (by decide), wu_ne (by decide), hw1, wu_ne (by decide), wu_ne (by decide), wu_ne (by decide), wu_ne (by decide)]
        have e159 : w2 159 = w 159 := by rw [hw2, wu_ne (by decide), wu_ne (by decide), wu_ne (by decide), hw1, wu_ne (by decide), wu_ne (by decide), wu_ne (by decide), wu_ne (by decide)]
        have e160 : w2 160 = w 160 := by rw [hw2, wu_ne (by decide), wu_ne (by decide), wu_ne (by decide), hw1, wu_ne (by decide), wu_ne (by decide), wu_ne (by decide), wu_ne (by decide)]
        have e163 : w2 163 = w 163 := by rw [hw2, wu_ne (by decide), wu_ne (by decide), wu_ne (by decide), hw1, wu_ne (by decide), wu_ne (by decide), wu_ne (by decide), wu_ne (by decide)]
        have e164 : w2 164 = w 164 := by rw [hw2, wu_ne (by decide), wu_ne (by decide), wu_ne (by decide), hw1, wu_ne (by decide), wu_ne (by decide), wu_ne (by decide), wu_ne (by decide)]
        have e165 : w2 165 = w 165 := by rw [hw2, wu_ne (by decide), wu_ne (by decide), wu_ne (by decide), hw1, wu_ne (by decide), wu_ne (by decide), wu_ne (by decide), wu_ne (by decide)]
        have e166 : w2 166 = w 166 := by rw [hw2, wu_ne (by decide), wu_ne (by decide), wu_ne (by decide), hw1, wu_ne (by decide), wu_ne (by decide), wu_ne (by decide), wu_ne (by decide)]
        have e167 : w2 167 = w 167 := by rw [hw2, wu_ne (by decide), wu_ne (by decide), wu_ne (by decide), hw1, wu_ne (by decide), wu_ne (by decide), wu_ne (by decide), wu_ne (by decide)]
        have e168 : w2 168 = w 168 := by rw [hw2, wu_ne (by decide), wu_ne (by decide), wu_ne (by decide), hw1, wu_ne (by decide), wu_ne (by decide), wu_ne (by decide), wu_ne (by decide)]
        have f0_10 : w2 0 10 = w 0 10 := by rw [hw2, wu_ne (by decide), wu_ne (by decide), wu_ne (by decide), hw1, wu_ne (by decide), wu_ne (by decide), wu_ne (by decide), wu_ne (by decide)]
        have f15_10 : w2 15 10 = w 15 10 := by rw [hw2, wu_ne (by decide), wu_ne (by decide), wu_ne (by decide), hw1, wu_ne (by decide), wu_ne (by decide), wu_ne (by decide), wu_ne (by decide)]
        have f15_15 : w2 15 15 = w 15 15 := by rw [hw2, wu_ne (by decide), wu_ne (by decide), wu_ne (by decide), hw1, wu_ne (by decide), wu_ne (by decide), wu_ne (by decide), wu_ne (by decide)]
        have f1_9 : w2 1 9 = w 1 9 + 1 := by rw [hw2, wu_ne (by decide), wu_ne (by decide), wu_ne (by decide), hw1, wu_same]
        have f141_4 : w2 141 4 = w 141 4 := by rw [hw2, wu_at, if_neg (by decide), wu_ne (by decide), wu_ne (by decide), hw1, wu_ne (by decide), wu_ne (by decide), wu_ne (by decide), wu_ne (by decide)]
        have f141_5 : w2 141 5 = w 141 5 := by rw [hw2, wu_at, if_neg (by decide), wu_ne (by decide), wu_ne (by decide), hw1, wu_ne (by decide), wu_ne (by decide), wu_ne (by decide), wu_ne (by decide)]
        unfold GH at hH9 ⊢
        rw [e9, e16, e17, e18, e19, e20, e21, e22, e23, e24, e25, e26, e27, e28, e29, e149, e155, e156, e157, e158, e159, e160, e163, e164, e165, e166, e167, e168, f0_10, f15_10, f15_15, f1_9, f141_4, f141_5]
        obtain ⟨a1, a2, a3, a4, a5, a6, a7, a8⟩ := hH9
        exact ⟨a1, a2, ⟨a3.1, a3.2.1, a3.2.2.1, a3.2.2.2.1, a3.2.2.2.2.1, a3.2.2.2.2.2.1, a3.2.2.2.2.2.2.1, a3.2.2.2.2.2.2.2.1, a3.2.2.2.2.2.2.2.2.1, a3.2.2.2.2.2.2.2.2.2.1, a3.2.2.2.2.2.2.2.2.2.2.1, a3.2.2.2.2.2.2.2.2.2.2.2.1, by rw [a3.2.2.2.2.2.2.2.2.2.2.2.2]⟩, a4, a5, a6, a7.tell, a8⟩
      exact GI.mk nGR nGH (hC9.fr (by rw [hw2, hw1]; exact (Agw.f (Agw.c (Agw.c (Agw.c (Agw.c (Agw.c (Agw.c Agw.rf (by decide) (by decide) (by decide)) (by decide) (by decide) (by decide)) (by decide) (by decide) (by decide)) (by decide) (by decide) (by decide)) (by decide) (by decide) (by decide)) (by decide) (by decide) (by decide)) (by decide) (by decide) (by decide)))) (hT9.fr (by rw [hw2, hw1]; exact (Agw.f (Agw.c (Agw.c (Agw.c (Agw.c (Agw.c (Agw.c Agw.rf (by decide) (by decide) (by decide)) (by decide) (by decide) (by decide)) (by decide) (by decide) (by decide)) (by decide) (by decide) (by decide)) (by decide) (by decide) (by decide)) (by decide) (by decide) (by decide)) (by decide) (by decide) (by decide)))) (hL9.fr (by rw [hw2, hw1]; exact (Agw.c (Agw.c (Agw.c (Agw.c (Agw.c (Agw.c (Agw.c Agw.rf (by decide) (by decide) (by decide)) (by decide) (by decide) (by decide)) (by decide) (by decide) (by decide)) (by decide) (by decide) (by decide)) (by decide) (by decide) (by decide)) (by decide) (by decide) (by decide)) (by decide) (by decide) (by decide)))) (hV9.fr (by rw [hw2, hw1]; exact (Agw.f (Agw.c (Agw.c (Agw.c (Agw.c (Agw.c (Agw.c Agw.rf (by decide) (by decide) (by decide)) (by decide) (by decide) (by decide)) (by decide) (by decide) (by decide)) (by decide) (by decide) (by decide)) (by decide) (by decide) (by decide)) (by decide) (by decide) (by decide)) (by decide) (by decide) (by decide)))) (hP9.fr (by rw [hw2, hw1]; exact (Agw.f (Agw.c (Agw.c (Agw.c (Agw.c (Agw.c (Agw.c Agw.rf (by decide) (by decide) (by decide)) (by decide) (by decide) (by decide)) (by decide) (by decide) (by decide)) (by decide) (by decide) (by decide)) (by decide) (by decide) (by decide)) (by decide) (by decide) (by decide)) (by decide) (by decide) (by decide)))) (hN9.fr (by rw [hw2, hw1]; exact (Agw.c (Agw.c (Agw.c (Agw.c (Agw.c (Agw.c (Agw.c Agw.rf (by decide) (by decide) (by decide)) (by decide) (by decide) (by decide)) (by decide) (by decide) (by decide)) (by decide) (by decide) (by decide)) (by decide) (by decide) (by decide)) (by decide) (by decide) (by decide)) (by decide) (by decide) (by decide)))) (hO9.fr (by rw [hw2, hw1]; exact (Agw.c (Agw.c (Agw.c (Agw.c (Agw.c (Agw.c (Agw.c Agw.rf (by decide) (by decide) (by decide)) (by decide) (by decide) (by decide)) (by decide) (by decide) (by decide)) (by decide) (by decide) (by decide)) (by decide) (by decide) (by decide)) (by decide) (by decide) (by decide)) (by decide) (by decide) (by decide)))) (hK9.fr (by rw [hw2, hw1]; exact (Agw.f (Agw.c (Agw.c (Agw.c (Agw.c (Agw.c (Agw.c Agw.rf (by decide) (by decide) (by decide)) (by decide) (by decide) (by decide)) (by decide) (by decide) (by decide)) (by decide) (by decide) (by decide)) (by decide) (by decide) (by decide)) (by decide) (by decide) (by decide)) (by decide) (by decide) (by decide))))
    · exact absurd hc9 hd9
  · skip
    have k0 : w1 141 2 = w 141 2 := by rw [hw1]
    have kk0 : w 141 2 = w 1 9 := by exact hR9.2.2.1.1
    have k1 : w1 141 1 = w 141 1 := by rw [hw1]
    have kk1 : w 141 1 = w 1 5 := by exact hR9.2.1.1
    have hm9 := m_print p w1 (by rw [k1]; rw [hR9.2.1.1]; exact hR9.2.1.2) (by rw [k0]; rw [hR9.2.2.1.1]; exact hR9.2.2.1.2)
    rw [k0, kk0, k1, kk1] at hm9
    refine CallN.deep (hm9.conseq (fun r w2 hq => ?_)) (by decide)
    obtain ⟨z2, rfl, hq⟩ := hq
    refine ⟨z2, rfl, ?_⟩
    rcases hq with ⟨hd9, hz2, hw2⟩ | ⟨hd9, hz2, hw2⟩
    · exact absurd hd9 hc9
    · rw [hw2, hw1]
      exact ⟨hz2.trans hz9.symm, (show GAl w from ⟨s9, b9, LN9, hR9, hH9, hC9, hT9, hL9, hV9, hP9, hN9, hO9, hK9⟩)⟩

theorem op_event (p k f n : Int) {w : Wd} (h : GAl w) : OpI mX11_event mX12_event [(2, 0), (0, p), (0, k), (0, f), (0, n)] [(2, 141), (0, p), (0, k), (0, f), (0, n)] w := by
  obtain ⟨s9, b9, LN9, hR9, hH9, hC9, hT9, hL9, hV9, hP9, hN9, hO9, hK9⟩ := h
  have b8x : ∀ j, 0 ≤ j → j < w 1 9 → 0 ≤ w 7 j ∧ w 7 j < 12 := fun j a b => by have h1 := hR9.2.2.2.2.2.2.2.1 j a b; have h2 := hR9.2.1.2; omega
  refine ⟨_, CallN.deep (x_event p k f n w hR9.2.2.1.2.2 b8x hR9.2.2.2.1.2) (by decide), fun z w1 hJ => ?_⟩
  rcases hJ with ⟨hc9, hz9, hw1⟩ | ⟨hc9, hz9, hw1⟩
  · skip
    have k0 : w1 141 2 = w 141 2 := by rw [hw1, wu_ne (by decide), wu_ne (by decide), wu_ne (by decide), wu_ne (by decide), wu_ne (by decide), wu_ne (by decide)]
    have kk0 : w 141 2 = w 1 9 := by exact hR9.2.2.1.1
    have k1 : w1 141 3 = w 141 3 := by rw [hw1, wu_ne (by decide), wu_ne (by decide), wu_ne (by decide), wu_ne (by decide), wu_ne (by decide), wu_ne (by decide)]
    have kk1 : w 141 3 = w 1 15 := by exact hR9.2.2.2.1.1
    have k2 : w1 141 0 = w 141 0 := by rw [hw1, wu_ne (by decide), wu_ne (by decide), wu_ne (by decide), wu_ne (by decide), wu_ne (by decide), wu_ne (by decide)]
    have kk2 : w 141 0 = w 0 10 := by exact hR9.1.1
    have k3 : w1 146 = w 146 := by rw [hw1, wu_ne (by decide), wu_ne (by decide), wu_ne (by decide), wu_ne (by decide), wu_ne (by decide), wu_ne (by decide)]
    have kk3 : w 146 = w 6 := by exact hR9.2.2.2.2.1.2.2.2.2.1
    have k4 : w1 147 = w 147 := by rw [hw1, wu_ne (by decide), wu_ne (by decide), wu_ne (by decide), wu_ne (by decide), wu_ne (by decide), wu_ne (by decide)]
    have kk4 : w 147 = w 7 := by exact hR9.2.2.2.2.1.2.2.2.2.2.1
    have hm9 := m_event p k f n w1 (by rw [k0, kk0]; exact hR9.2.2.1.2) (by rw [k0, kk0, k4, kk4]; exact b8x) (by rw [k3, kk3]; exact hR9.2.2.2.2.2.1) (by rw [k1, kk1]; exact hR9.2.2.2.1.2) (by rw [k0, kk0, k3, kk3, k4, kk4]; exact fun j a b => (hR9.2.2.2.2.2.2.1 _ (hR9.2.2.2.2.2.2.2.1 j a b).1 (hR9.2.2.2.2.2.2.2.1 j a b).2).1)
    rw [k0, kk0, k1, kk1, k2, kk2, k3, kk3, k4, kk4] at hm9
    refine CallN.deep (hm9.conseq (fun r w2 hq => ?_)) (by decide)
    obtain ⟨z2, rfl, hq⟩ := hq
    refine ⟨z2, rfl, ?_⟩
    rcases hq with ⟨hd9, hz2, hw2⟩ | ⟨hd9, hz2, hw2⟩
    · refine ⟨hz2.trans hz9.symm, s9, b9, LN9, ?_⟩
      have nGR : GR w2 := by
        have e2 : w2 2 = w 2 := by rw [hw2, wu_ne (by decide), wu_ne (by decide), wu_ne (by decide), wu_ne (by decide), wu_ne (by decide), wu_ne (by decide), hw1, wu_ne (by decide), wu_ne (by decide), wu_ne (by decide), wu_ne (by decide), wu_ne (by decide), wu_ne (by decide)]
        have e3 : w2 3 = w 3 := by rw [hw2, wu_ne (by decide), wu_ne (by decide), wu_ne (by decide), wu_ne (by decide), wu_ne (by decide), wu_ne (by decide), hw1, wu_ne (by decide), wu_ne (by decide), wu_ne (by decide), wu_ne (by decide), wu_ne (by decide), wu_ne (by decide)]
        have e4 : w2 4 = w 4 := by rw [hw2, wu_ne (by decide), wu_ne (by decide), wu_ne (by decide), wu_ne (by decide), wu_ne (by decide), wu_ne (by decide), hw1, wu_ne (by decide), wu_ne (by decide), wu_ne (by decide), wu_ne (by decide), wu_ne (by decide), wu_ne (by decide)]
        have e5 : w2 5 = w 5 := by rw [hw2, wu_ne (by decide), wu_ne (by decide), wu_ne (by decide), wu_ne (by decide), wu_ne (by decide), wu_ne (by decide), hw1, wu_ne (by decide), wu_ne (by decide), wu_ne (by decide), wu_ne (by decide), wu_ne (by decide), wu_ne (by decide)]
        have e6 : w2 6 = w 6 := by rw [hw2, wu_ne (by decide), wu_ne (by decide), wu_ne (by decide), wu_ne (by decide), wu_ne (by decide), wu_ne (by decide), hw1, wu_ne (by decide), wu_ne (by decide), wu_ne (by decide), wu_ne (by decide), wu_ne (by decide), wu_ne (by decide)]
        have e7 : w2 7 = w 7 := by rw [hw2, wu_ne (by decide), wu_ne (by decide), wu_ne (by decide), wu_ne (by decide), wu_ne (by decide), wu_ne (by decide), hw1, wu_ne (by decide), wu_ne (by decide), wu_ne (by decide), wu_ne (by decide), wu_ne (by decide), wu_ne (by decide)]
        have e8 : w2 8 = w 8 := by rw [hw2, wu_ne (by decide), wu_ne (by decide), wu_ne (by decide), wu_ne (by decide), wu_ne (by decide), wu_ne (by decide), hw1, wu_ne (by decide), wu_ne (by decide), wu_ne (by decide), wu_ne (by decide), wu_ne (by decide), wu_ne (by decide)]
        have e10 : w2 10 = updF (w 10) (w 1 15) p := by rw [hw2, wu_ne (by decide), wu_ne (by decide), wu_ne (by decide), wu_ne (by decide), wu_ne (by decide), wu_ne (by decide), hw1, wu_ne (by decide), wu_ne (by decide), wu_ne (by decide), wu_ne (by decide), wu_ne (by decide), wu_upM]
        have e11 : w2 11 = updF (w 11) (w 1 15) k := by rw [hw2, wu_ne (by decide), wu_ne (by decide), wu_ne (by decide), wu_ne (by decide), wu_ne (by decide), wu_ne (by decide), hw1, wu_ne (by decide), wu_ne (by decide), wu_ne (by decide), wu_ne (by decide), wu_upM, wu_ne (by decide)]
        have e12 : w2 12 = updF (w 12) (w 1 15) f := by rw [hw2, wu_ne (by decide), wu_ne (by decide), wu_ne (by decide), wu_ne (by decide), wu_ne (by decide), wu_ne (by decide), hw1, wu_ne (by decide), wu_ne (by decide), wu_ne (by decide), wu_upM, wu_ne (by decide), wu_ne (by decide)]
        have e13 : w2 13 = updF (w 13) (w 1 15) n := by rw [hw2, wu_ne (by decide), wu_ne (by decide), wu_ne (by decide), wu_ne (by decide), wu_ne (by decide), wu_ne (by decide), hw1, wu_ne (by decide), wu_ne (by decide), wu_upM, wu_ne (by decide), wu_ne (by decide), wu_ne (by decide)]
        have e14 : w2 14 = updF (w 14) (w 1 15) (w 0 10) := by rw [hw2, wu_ne (by decide), wu_ne (by decide), wu_ne (by decide), wu_ne (by decide), wu_ne (by decide), wu_ne (by decide), hw1, wu_ne (by decide), wu_upM, wu_ne (by decide), wu_ne (by decide), wu_ne (by decide), wu_ne (by decide)]
        have e142 : w2 142 = w 142 := by rw [hw2, wu_ne (by decide), wu_ne (by decide), wu_ne (by decide), wu_ne (by decide), wu_ne (by decide), wu_ne (by decide), hw1, wu_ne (by decide), wu_ne (by decide), wu_ne (by decide), wu_ne (by decide), wu_ne (by decide), wu_ne (by decide)]
        have e143 : w2 143 = w 143 := by rw [hw2, wu_ne (by decide), wu_ne (by decide), wu_ne (by decide), wu_ne (by decide), wu_ne (by decide), wu_ne (by decide), hw1, wu_ne (by decide), wu_ne (by decide), wu_ne (by decide), wu_ne (by decide), wu_ne (by decide), wu_ne (by decide)]
        have e144 : w2 144 = w 144 := by rw [hw2, wu_ne (by decide), wu_ne (by decide), wu_ne (by decide), wu_ne (by decide), wu_ne (by decide), wu_ne (by decide), hw1, wu_ne (by decide), wu_ne (by decide), wu_ne (by decide), wu_ne (by decide), wu_ne (by decide), wu_ne (by decide)]
        have e145 : w2 145 = w 145 := by rw [hw2, wu_ne (by decide), wu_ne (by decide), wu_ne (by decide), wu_ne (by decide), wu_ne (by decide), wu_ne (by decide), hw1, wu_ne (by decide), wu_ne (by decide), wu_ne (by decide), wu_ne (by decide), wu_ne (by decide), wu_ne (by decide)]
        have e146 : w2 146 = w 146 := by rw [hw2, wu_ne (by decide), wu_ne (by decide), wu_ne (by decide), wu_ne (by decide), wu_ne (by decide), wu_ne (by decide), hw1, wu_ne (by decide), wu_ne (by decide), wu_ne (by decide), wu_ne (by decide), wu_ne (by decide), wu_ne (by decide)]
        have e147 : w2 147 = w 147 := by rw [hw2, wu_ne (by decide), wu_ne (by decide), wu_ne (by decide), wu_ne (by decide), wu_ne (by decide), wu_ne (by decide), hw1, wu_ne (by decide), wu_ne (by decide), wu_ne (by decide), wu_ne (by decide), wu_ne (by decide), wu_ne (by decide)]
        have e148 : w2 148 = w 148 := by rw [hw2, wu_ne (by decide), wu_ne (by decide), wu_ne (by decide), wu_ne (by decide), wu_ne (by decide), wu_ne (by decide), hw1, wu_ne (by decide), wu_ne (by decide), wu_ne (by decide), wu_ne (by decide), wu_ne (by decide), wu_ne (by decide)]
        have e150 : w2 150 = updF (w 150) (w 1 15) p := by rw [hw2, wu_ne (by decide), wu_ne (by decide), wu_ne (by decide), wu_ne (by decide), wu_ne (by decide), wu_upM, hw1, wu_ne (by decide), wu_ne (by decide), wu_ne (by decide), wu_ne (by decide), wu_ne (by decide), wu_ne (by decide)]
        have e151 : w2 151 = updF (w 151) (w 1 15) k := by rw [hw2, wu_ne (by decide), wu_ne (by decide), wu_ne (by decide), wu_ne (by decide), wu_upM, wu_ne (by decide), hw1, wu_ne (by decide), wu_ne (by decide), wu_ne (by decide), wu_ne (by decide), wu_ne (by decide), wu_ne (by decide)]
        have e152 : w2 152 = updF (w 152) (w 1 15) f := by rw [hw2, wu_ne (by decide), wu_ne (by decide), wu_ne (by decide), wu_upM, wu_ne (by decide), wu_ne (by decide), hw1, wu_ne (by decide), wu_ne (by decide), wu_ne (by decide), wu_ne (by decide), wu_ne (by decide), wu_ne (by decide)]
        have e153 : w2 153 = updF (w 153) (w 1 15) n := by rw [hw2, wu_ne (by decide), wu_ne (by decide), wu_upM, wu_ne (by decide), wu_ne (by decide), wu_ne (by decide), hw1, wu_ne (by decide), wu_ne (by decide), wu_ne (by decide), wu_ne (by decide), wu_ne (by decide), wu_ne (by decide)]
        have e154 : w2 154 = updF (w 154) (w 1 15) (w 0 10) := by rw [hw2, wu_ne (by decide), wu_upM, wu_ne (by decide), wu_ne (by decide), wu_ne (by decide), wu_ne (by decide), hw1, wu_ne (by decide), wu_ne (by decide), wu_ne (by decide), wu_ne (by decide), wu_ne (by decide), wu_ne (by decide)]
        have f0_10 : w2 0 10 = w 0 10 := by rw [hw2, wu_ne (by decide), wu_ne (by decide), wu_ne (by decide), wu_ne (by decide), wu_ne (by decide), wu_ne (by decide), hw1, wu_ne (by decide), wu_ne (by decide), wu_ne (by decide), wu_ne (by decide), wu_ne (by decide), wu_ne (by decide)]
        have f1_5 : w2 1 5 = w 1 5 := by rw [hw2, wu_ne (by decide), wu_ne (by decide), wu_ne (by decide), wu_ne (by decide), wu_ne (by decide), wu_ne (by decide), hw1, wu_at, if_neg (by decide), wu_ne (by decide), wu_ne (by decide), wu_ne (by decide), wu_ne (by decide), wu_ne (by decide)]
        have f1_9 : w2 1 9 = w 1 9 := by rw [hw2, wu_ne (by decide), wu_ne (by decide), wu_ne (by decide), wu_ne (by decide), wu_ne (by decide), wu_ne (by decide), hw1, wu_at, if_neg (by decide), wu_ne (by decide), wu_ne (by decide), wu_ne (by decide), wu_ne (by decide), wu_ne (by decide)]
        have f1_15 : w2 1 15 = w 1 15 + 1 := by rw [hw2, wu_ne (by decide), wu_ne (by decide), wu_ne (by decide), wu_ne (by decide), wu_ne (by decide), wu_ne (by decide), hw1, wu_same]
        have f141_0 : w2 141 0 = w 141 0 := by rw [hw2, wu_at, if_neg (by decide), wu_ne (by decide), wu_ne (by decide), wu_ne (by decide), wu_ne (by decide), wu_ne (by decide), hw1, wu_ne (by decide), wu_ne (by decide), wu_ne (by decide), wu_ne (by decide), wu_ne (by decide), wu_ne (by decide)]
        have f141_1 : w2 141 1 = w 141 1 := by rw [hw2, wu_at, if_neg (by decide), wu_ne (by decide), wu_ne (by decide), wu_ne (by decide), wu_ne (by decide), wu_ne (by decide), hw1, wu_ne (by decide), wu_ne (by decide), wu_ne (by decide), wu_ne (by decide), wu_ne (by decide), wu_ne (by decide)]
        have f141_2 : w2 141 2 = w 141 2 := by rw [hw2, wu_at, if_neg (by decide), wu_ne (by decide), wu_ne (by decide), wu_ne (by decide), wu_ne (by decide), wu_ne (by decide), hw1, wu_ne (by decide), wu_ne (by decide), wu_ne (by decide), wu_ne (by decide), wu_ne (by decide), wu_ne (by decide)]
        have f141_3 : w2 141 3 = w 1 15 + 1 := by rw [hw2, wu_same]
        unfold GR at hR9 ⊢
        rw [e2, e3, e4, e5, e6, e7, e8, e10, e11, e12, e13, e14, e142, e143, e144, e145, e146, e147, e148, e150, e151, e152, e153, e154, f0_10, f1_5, f1_9, f1_15, f141_0, f141_1, f141_2, f141_3]
        obtain ⟨b1, b2, b3, b4, b5, b6, b7, b8, b9, b10, b11, b12⟩ := hR9
        have hp9 := b8 p (by omega) (by omega)
        have hf9 := b6 (w 7 p) (by omega) (by omega)
        exact ⟨b1, b2, b3, ⟨rfl, by omega, by omega⟩, ⟨b5.1, b5.2.1, b5.2.2.1, b5.2.2.2.1, b5.2.2.2.2.1, b5.2.2.2.2.2.1, b5.2.2.2.2.2.2.1, by rw [b5.2.2.2.2.2.2.2.1], by rw [b5.2.2.2.2.2.2.2.2.1], by rw [b5.2.2.2.2.2.2.2.2.2.1], by rw [b5.2.2.2.2.2.2.2.2.2.2.1], by rw [b5.2.2.2.2.2.2.2.2.2.2.2]⟩, b6, b7, b8, b9.add (by omega) (by omega) (by omega) (by omega), (fun h h0 h1 => by
          unfold updF
          by_cases e : h = (w 1 15)
          · simp only [if_pos e]; omega
          · simp only [if_neg e]; exact b10 h h0 (by omega)), b11, b12⟩
      exact GI.mk nGR (hH9.fr (by rw [hw2, hw1]; exact (Agw.f (Agw.c (Agw.c (Agw.c (Agw.c (Agw.c (Agw.f (Agw.c (Agw.c (Agw.c (Agw.c (Agw.c Agw.rf (by decide) (by decide) (by decide)) (by decide) (by decide) (by decide)) (by decide) (by decide) (by decide)) (by decide) (by decide) (by decide)) (by decide) (by decide) (by decide)) (by decide) (by decide) (by decide)) (by decide) (by decide) (by decide)) (by decide) (by decide) (by decide)) (by decide) (by decide) (by decide)) (by decide) (by decide) (by decide)) (by decide) (by decide) (by decide)) (by decide) (by decide) (by decide)))) (hC9.fr (by rw [hw2, hw1]; exact (Agw.f (Agw.c (Agw.c (Agw.c (Agw.c (Agw.c (Agw.c (Agw.c (Agw.c (Agw.c (Agw.c (Agw.c Agw.rf (by decide) (by decide) (by decide)) (by decide) (by decide) (by decide)) (by decide) (by decide) (by decide)) (by decide) (by decide) (by decide)) (by decide) (by decide) (by decide)) (by decide) (by decide) (by decide)) (by decide) (by decide) (by decide)) (by decide) (by decide) (by decide)) (by decide) (by decide) (by decide)) (by decide) (by decide) (by decide)) (by decide) (by decide) (by decide)) (by decide) (by decide) (by decide)))) (hT9.fr (by rw [hw2, hw1]; exact (Agw.f (Agw.c (Agw.c (Agw.c (Agw.c (Agw.c (Agw.c (Agw.c (Agw.c (Agw.c (Agw.c (Agw.c Agw.rf (by decide) (by decide) (by decide)) (by decide) (by decide) (by decide)) (by decide) (by decide) (by decide)) (by decide) (by decide) (by decide)) (by decide) (by decide) (by decide)) (by decide) (by decide) (by decide)) (by decide) (by decide) (by decide)) (by decide) (by decide) (by decide)) (by decide) (by decide) (by decide)) (by decide) (by decide) (by decide)) (by decide) (by decide) (by decide)) (by decide) (by decide) (by decide)))) (hL9.fr (by rw [hw2, hw1]; exact (Agw.c (Agw.c (Agw.c (Agw.c (Agw.c (Agw.c (Agw.c (Agw.c (Agw.c (Agw.c (Agw.c (Agw.c Agw.rf (by decide) (by decide) (by decide)) (by decide) (by decide) (by decide)) (by decide) (by decide) (by decide)) (by decide) (by decide) (by decide)) (by decide) (by decide) (by decide)) (by decide) (by decide) (by decide)) (by decide) (by decide) (by decide)) (by decide) (by decide) (by decide)) (by decide) (by decide) (by decide)) (by decide) (by decide) (by decide)) (by decide) (by decide) (by decide)) (by decide) (by decide) (by decide)))) (hV9.fr (by rw [hw2, hw1]; exact (Agw.f (Agw.c (Agw.c (Agw.c (Agw.c (Agw.c (Agw.c (Agw.c (Agw.c (Agw.c (Agw.c (Agw.c Agw.rf (by decide) (by decide) (by decide)) (by decide) (by decide) (by decide)) (by decide) (by decide) (by decide)) (by decide) (by decide) (by decide)) (by decide) (by decide) (by decide)) (by decide) (by decide) (by decide)) (by decide) (by decide) (by decide)) (by decide) (by decide) (by decide)) (by decide) (by decide) (by decide)) (by decide) (by decide) (by decide)) (by decide) (by decide) (by decide)) (by decide) (by decide) (by decide)))) (hP9.fr (by rw [hw2, hw1]; exact (Agw.f (Agw.c (Agw.c (Agw.c (Agw.c (Agw.c (Agw.c (Agw.c (Agw.c (Agw.c (Agw.c (Agw.c Agw.rf (by decide) (by decide) (by decide)) (by decide) (by decide) (by decide)) (by decide) (by decide) (by decide)) (by decide) (by decide) (by decide)) (by decide) (by decide) (by decide)) (by decide) (by decide) (by decide)) (by decide) (by decide) (by decide)) (by decide) (by decide) (by decide)) (by decide) (by decide) (by decide)) (by decide) (by decide) (by decide)) (by decide) (by decide) (by decide)) (by decide) (by decide) (by decide)))) (hN9.fr (by rw [hw2, hw1]; exact (Agw.c (Agw.c (Agw.c (Agw.c (Agw.c (Agw.c (Agw.c (Agw.c (Agw.c (Agw.c (Agw.c (Agw.c Agw.rf (by decide) (by decide) (by decide)) (by decide) (by decide) (by decide)) (by decide) (by decide) (by decide)) (by decide) (by decide) (by decide)) (by decide) (by decide) (by decide)) (by decide) (by decide) (by decide)) (by decide) (by decide) (by decide)) (by decide) (by decide) (by decide)) (by decide) (by decide) (by decide)) (by decide) (by decide) (by decide)) (by decide) (by decide) (by decide)) (by decide) (by decide) (by decide)))) (hO9.fr (by rw [hw2, hw1]; exact (Agw.c (Agw.c (Agw.c (Agw.c (Agw.c (Agw.c (Agw.c (Agw.c (Agw.c (Agw.c (Agw.c (Agw.c Agw.rf (by decide) (by decide) (by decide)) (by decide) (by decide) (by decide)) (by decide) (by decide) (by decide)) (by decide) (by decide) (by decide)) (by decide) (by decide) (by decide)) (by decide) (by decide) (by decide)) (by decide) (by decide) (by decide)) (by decide) (by decide) (by decide)) (by decide) (by decide) (by decide)) (by decide) (by decide) (by decide)) (by decide) (by decide) (by decide)) (by decide) (by decide) (by decide)))) (hK9.fr (by rw [hw2, hw1]; exact (Agw.f (Agw.c (Agw.c (Agw.c (Agw.c (Agw.c (Agw.c (Agw.c (Agw.c (Agw.c (Agw.c (Agw.c Agw.rf (by decide) (by decide) (by decide)) (by decide) (by decide) (by decide)) (by decide) (by decide) (by decide)) (by decide) (by decide) (by decide)) (by decide) (by decide) (by decide)) (by decide) (by decide) (by decide)) (by decide) (by decide) (by decide)) (by decide) (by decide) (by decide)) (by decide) (by decide) (by decide)) (by decide) (by decide) (by decide)) (by decide) (by decide) (by decide)) (by decide) (by decide) (by decide))))
    · exact absurd hc9 hd9
  · skip
    have k0 : w1 141 2 = w 141 2 := by rw [hw1]
    have kk0 : w 141 2 = w 1 9 := by exact hR9.2.2.1.1
    have k1 : w1 141 3 = w 141 3 := by rw [hw1]
    have kk1 : w 141 3 = w 1 15 := by exact hR9.2.2.2.1.1
    have k2 : w1 141 0 = w 141 0 := by rw [hw1]
    have kk2 : w 141 0 = w 0 10 := by exact hR9.1.1
    have k3 : w1 146 = w 146 := by rw [hw1]
    have kk3 : w 146 = w 6 := by exact hR9.2.2.2.2.1.2.2.2.2.1
    have k4 : w1 147 = w 147 := by rw [hw1]
    have kk4 : w 147 = w 7 := by exact hR9.2.2.2.2.1.2.2.2.2.2.1
    have hm9 := m_event p k f n w1 (by rw [k0, kk0]; exact hR9.2.2.1.2) (by rw [k0, kk0, k4, kk4]; exact b8x) (by rw [k3, kk3]; exact hR9.2.2.2.2.2.1) (by rw [k1, kk1]; exact hR9.2.2.2.1.2) (by rw [k0, kk0, k3, kk3, k4, kk4]; exact fun j a b => (hR9.2.2.2.2.2.2.1 _ (hR9.2.2.2.2.2.2.2.1 j a b).1 (hR9.2.2.2.2.2.2.2.1 j a b).2).1)
    rw [k0, kk0, k1, kk1, k2, kk2, k3, kk3, k4, kk4] at hm9
    refine CallN.deep (hm9.conseq (fun r w2 hq => ?_)) (by decide)
    obtain ⟨z2, rfl, hq⟩ := hq
    refine ⟨z2, rfl, ?_⟩
    rcases hq with ⟨hd9, hz2, hw2⟩ | ⟨hd9, hz2, hw2⟩
    · exact absurd hd9 hc9
    · rw [hw2, hw1]
      exact ⟨hz2.trans hz9.symm, (show GAl w from ⟨s9, b9, LN9, hR9, hH9, hC9, hT9, hL9, hV9, hP9, hN9, hO9, hK9⟩)⟩

