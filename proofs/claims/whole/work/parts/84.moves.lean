/-! MOVES, THE TAPE. -/
abbrev cGI : List Nat := [2, 3, 4, 5, 6, 7, 8, 9, 10, 11, 12, 13, 14, 16, 17, 18, 19, 20, 21, 22, 23, 24, 25, 26, 27, 28, 29, 31, 36, 37, 38, 39, 42, 44, 45, 46, 47, 49, 50, 51, 52, 54, 55, 56, 57, 60, 61, 62, 63, 64, 89, 101, 102, 104, 105, 107, 108, 131, 132, 140, 142, 143, 144, 145, 146, 147, 148, 149, 150, 151, 152, 153, 154, 155, 156, 157, 158, 159, 160, 161, 162, 163, 164, 165, 166, 167, 168, 169, 170, 171, 172, 173, 178, 181, 182, 183, 184, 185, 186, 192, 193, 197, 198, 201, 202, 208, 209]
abbrev fGI : List (Nat × Int) := [(0, 10), (1, 5), (1, 9), (1, 15), (15, 10), (15, 15), (30, 1), (35, 2), (35, 3), (35, 4), (59, 9), (88, 2), (88, 6), (135, 2), (141, 0), (141, 1), (141, 2), (141, 3), (141, 4), (141, 5), (141, 6), (141, 7), (141, 8), (141, 9), (141, 50), (141, 54), (141, 57), (141, 59)]
abbrev rGI : List (Nat × Nat) := [(66, 16), (91, 9), (111, 20), (137, 3)]
theorem Agw.sub {cs cs2 : List Nat} {fs fs2 : List (Nat × Int)} {rs rs2 : List (Nat × Nat)} {w v : Wd} (h : Agw cs fs rs w v) (h1 : ∀ c ∈ cs2, c ∈ cs) (h2 : ∀ p ∈ fs2, p ∈ fs) (h3 : ∀ r ∈ rs2, r ∈ rs) : Agw cs2 fs2 rs2 w v := ⟨fun c hc => h.1 c (h1 c hc), fun p hp => h.2.1 p (h2 p hp), fun r hr => h.2.2 r (h3 r hr)⟩
theorem GI.fr {s : Int → Nat} {b : Nat} {LN : Int → List Lin} {w v : Wd} (h : GI s b LN w) (a : Agw cGI fGI rGI w v) : GI s b LN v := by
  obtain ⟨h1, h2, h3, h4, h5, h6, h7, h8, h9, h10⟩ := h
  exact ⟨h1.fr (a.sub (by decide) (by decide) (by decide)), h2.fr (a.sub (by decide) (by decide) (by decide)), h3.fr (a.sub (by decide) (by decide) (by decide)), h4.fr (a.sub (by decide) (by decide) (by decide)), h5.fr (a.sub (by decide) (by decide) (by decide)), h6.fr (a.sub (by decide) (by decide) (by decide)), h7.fr (a.sub (by decide) (by decide) (by decide)), h8.fr (a.sub (by decide) (by decide) (by decide)), h9.fr (a.sub (by decide) (by decide) (by decide)), h10.fr (a.sub (by decide) (by decide) (by decide))⟩
/-- cells outside of these lists are otherwise, whole -/
theorem Agw.of {cs : List Nat} {fs : List (Nat × Int)} {rs : List (Nat × Nat)} {w v : Wd} (xs : List Nat) (h : ∀ c, c ∉ xs → v c = w c) (h1 : ∀ c ∈ cs, c ∉ xs) (h2 : ∀ p ∈ fs, p.1 ∉ xs ∨ v p.1 p.2 = w p.1 p.2) (h3 : ∀ r ∈ rs, ∀ x ∈ xs, x < r.1 ∨ r.1 + r.2 ≤ x) : Agw cs fs rs w v := ⟨fun c hc => h c (h1 c hc), fun p hp => (h2 p hp).elim (fun q => by rw [h p.1 q]) id, fun r hr i hi => h _ (fun hm => by have := h3 r hr _ hm; omega)⟩
theorem mvW_o {w : Wd} {ka kb c : Nat} {t q : Int} (h1 : c ≠ ka) (h2 : c ≠ kb) : mvW w ka kb t q c = w c := by
  unfold mvW
  rw [wu_ne h1]
  by_cases e : q = -1
  · rw [if_pos e]
    by_cases e2 : w ka t = -1
    · rw [if_pos e2]
    · rw [if_neg e2, wu_ne h2]
  · rw [if_neg e, wu_ne h2]
    by_cases e2 : w ka t = -1
    · rw [if_pos e2]
    · rw [if_neg e2, wu_ne h2]
theorem mvW_a {w : Wd} {ka kb : Nat} {t q : Int} (h : ka ≠ kb) : mvW w ka kb t q ka = updF (w ka) t q := by
  unfold mvW
  rw [wu_upM]
  congr 1
  by_cases e : q = -1
  · rw [if_pos e]
    by_cases e2 : w ka t = -1
    · rw [if_pos e2]
    · rw [if_neg e2, wu_ne h]
  · rw [if_neg e, wu_ne h]
    by_cases e2 : w ka t = -1
    · rw [if_pos e2]
    · rw [if_neg e2, wu_ne h]
def mvG (f g : Int → Int) (t q : Int) : Int → Int := fun i => if q ≠ -1 ∧ i = q then t else if f t ≠ -1 ∧ i = f t then -1 else g i
theorem mvW_b {w : Wd} {ka kb : Nat} {t q : Int} (h : kb ≠ ka) : mvW w ka kb t q kb = mvG (w ka) (w kb) t q := by
  funext i
  unfold mvW mvG
  rw [wu_ne h]
  by_cases e : q = -1
  · rw [if_pos e, if_neg (show ¬ (q ≠ -1 ∧ i = q) from fun z => z.1 e)]
    by_cases e2 : w ka t = -1
    · rw [if_pos e2, if_neg (show ¬ (w ka t ≠ -1 ∧ i = w ka t) from fun z => z.1 e2)]
    · rw [if_neg e2, wu_at]
      by_cases e3 : i = w ka t
      · rw [if_pos e3, if_pos ⟨e2, e3⟩]
      · rw [if_neg e3, if_neg (show ¬ (w ka t ≠ -1 ∧ i = w ka t) from fun z => e3 z.2)]
  · rw [if_neg e, wu_at]
    by_cases e4 : i = q
    · rw [if_pos e4, if_pos ⟨e, e4⟩]
    · rw [if_neg e4, if_neg (show ¬ (q ≠ -1 ∧ i = q) from fun z => e4 z.2)]
      by_cases e2 : w ka t = -1
      · rw [if_pos e2, if_neg (show ¬ (w ka t ≠ -1 ∧ i = w ka t) from fun z => z.1 e2)]
      · rw [if_neg e2, wu_at]
        by_cases e3 : i = w ka t
        · rw [if_pos e3, if_pos ⟨e2, e3⟩]
        · rw [if_neg e3, if_neg (show ¬ (w ka t ≠ -1 ∧ i = w ka t) from fun z => e3 z.2)]
theorem HG.move {f g : Int → Int} {n m t q : Int} (h : HG f g n m) (ht : 0 ≤ t ∧ t < n) (hq : q = -1 ∨ (0 ≤ q ∧ q < m)) (hg : q = -1 ∨ g q = -1) : HG (updF f t q) (mvG f g t q) n m := by
  obtain ⟨h1, h2⟩ := h
  refine ⟨fun a a0 a1 => ?_, fun i i0 i1 => ?_⟩
  · unfold updF
    by_cases e : a = t
    · rw [if_pos e]
      rcases hq with y | y
      · exact Or.inl y
      · refine Or.inr ⟨y, ?_⟩
        unfold mvG
        rw [if_pos ⟨by omega, rfl⟩]
        exact e.symm
    · rw [if_neg e]
      rcases h1 a a0 a1 with y | ⟨y, y2⟩
      · exact Or.inl y
      · refine Or.inr ⟨y, ?_⟩
        unfold mvG
        rw [if_neg (fun z => by rcases hg with x | x; · omega
                                · rw [← z.2] at x; omega), if_neg (fun z => by
          rcases h1 t ht.1 ht.2 with x | ⟨x, x2⟩
          · exact z.1 x
          · rw [← z.2, y2] at x2; exact e x2)]
        exact y2
  · unfold mvG
    by_cases e : q ≠ -1 ∧ i = q
    · rw [if_pos e]
      refine Or.inr ⟨ht, ?_⟩
      unfold updF
      rw [if_pos rfl]
      exact e.2.symm
    · rw [if_neg e]
      by_cases e2 : f t ≠ -1 ∧ i = f t
      · rw [if_pos e2]; exact Or.inl rfl
      · rw [if_neg e2]
        rcases h2 i i0 i1 with y | ⟨y, y2⟩
        · exact Or.inl y
        · refine Or.inr ⟨y, ?_⟩
          unfold updF
          by_cases e3 : g i = t
          · exfalso
            rw [e3] at y2
            exact e2 ⟨by omega, y2.symm⟩
          · rw [if_neg e3]; exact y2
theorem op_hire (t q : Int) {w : Wd} (h : GAl w) : OpI mX11_hire mX12_hire [(2, 0), (0, t), (0, q)] [(2, 141), (0, t), (0, q)] w := by
  obtain ⟨s9, b9, LN9, hR9, hH9, hC9, hT9, hL9, hV9, hP9, hN9, hO9, hK9⟩ := h
  have hg9 : GAl w := ⟨s9, b9, LN9, hR9, hH9, hC9, hT9, hL9, hV9, hP9, hN9, hO9, hK9⟩
  have hgg : HG (w 29) (w 24) (w 15 15) (w 15 10) := hH9.2.2.2.2.2.1
  have hb1 := hH9.1.2
  have hb2 := hH9.2.1.2
  refine ⟨_, CallN.deep (x_hire t q w hH9.1.2 hH9.2.1.2 (fun j a b => by have := hgg.1 j a b; omega)) (by decide), fun z w1 hJ => ?_⟩
  have k4 : w1 141 4 = w 15 10 ∧ w1 168 = w 29 ∧ w1 141 5 = w 15 15 := by
    rcases hJ with ⟨hc9, hz9, hw1⟩ | ⟨hc9, hz9, hw1⟩
    · rw [hw1, mvW_o (by decide) (by decide), mvW_o (by decide) (by decide)]
      exact ⟨hH9.1.1, hH9.2.2.1.2.2.2.2.2.2.2.2.2.2.2.1, hH9.2.1.1⟩
    · rw [hw1]
      exact ⟨hH9.1.1, hH9.2.2.1.2.2.2.2.2.2.2.2.2.2.2.1, hH9.2.1.1⟩
  have hm9 := m_hire t q w1 (by rw [k4.1]; exact hH9.1.2) (by rw [k4.2.2]; exact hH9.2.1.2)
  rw [k4.1, k4.2.1, k4.2.2] at hm9
  refine CallN.deep (hm9.conseq (fun r w2 hq => ?_)) (by decide)
  obtain ⟨z2, rfl, hq⟩ := hq
  refine ⟨z2, rfl, ?_⟩
  have hfst : ∀ y, (q = -1 ∨ (0 ≤ q ∧ q < w 15 10)) → ((q = -1 ∨ fst (w 29) q (w 15 15).toNat = y) ↔ (q = -1 ∨ w 24 q = y)) := fun y hy => by
    rcases hy with e | e
    · exact ⟨fun _ => Or.inl e, fun _ => Or.inl e⟩
    · rw [hgg.fst e.1 e.2 hb2.1]
  rcases hJ with ⟨hc9, hz9, hw1⟩ | ⟨hc9, hz9, hw1⟩ <;> rcases hq with ⟨hd9, hz2, hw2⟩ | ⟨hd9, hz2, hw2⟩
  · refine ⟨hz2.trans hz9.symm, s9, b9, LN9, ?_⟩
    have e9 : w2 9 = w 9 := by rw [hw2, wu_ne (by decide), hw1, mvW_o (by decide) (by decide)]
    have e16 : w2 16 = w 16 := by rw [hw2, wu_ne (by decide), hw1, mvW_o (by decide) (by decide)]
    have e17 : w2 17 = w 17 := by rw [hw2, wu_ne (by decide), hw1, mvW_o (by decide) (by decide)]
    have e18 : w2 18 = w 18 := by rw [hw2, wu_ne (by decide), hw1, mvW_o (by decide) (by decide)]
    have e19 : w2 19 = w 19 := by rw [hw2, wu_ne (by decide), hw1, mvW_o (by decide) (by decide)]
    have e20 : w2 20 = w 20 := by rw [hw2, wu_ne (by decide), hw1, mvW_o (by decide) (by decide)]
    have e21 : w2 21 = w 21 := by rw [hw2, wu_ne (by decide), hw1, mvW_o (by decide) (by decide)]
    have e22 : w2 22 = w 22 := by rw [hw2, wu_ne (by decide), hw1, mvW_o (by decide) (by decide)]
    have e23 : w2 23 = w 23 := by rw [hw2, wu_ne (by decide), hw1, mvW_o (by decide) (by decide)]
    have e24 : w2 24 = mvG (w 29) (w 24) t q := by rw [hw2, wu_ne (by decide), hw1, mvW_b (by decide)]
    have e25 : w2 25 = w 25 := by rw [hw2, wu_ne (by decide), hw1, mvW_o (by decide) (by decide)]
    have e26 : w2 26 = w 26 := by rw [hw2, wu_ne (by decide), hw1, mvW_o (by decide) (by decide)]
    have e27 : w2 27 = w 27 := by rw [hw2, wu_ne (by decide), hw1, mvW_o (by decide) (by decide)]
    have e28 : w2 28 = w 28 := by rw [hw2, wu_ne (by decide), hw1, mvW_o (by decide) (by decide)]
    have e29 : w2 29 = updF (w 29) t q := by rw [hw2, wu_ne (by decide), hw1, mvW_a (by decide)]
    have e149 : w2 149 = w 149 := by rw [hw2, wu_ne (by decide), hw1, mvW_o (by decide) (by decide)]
    have e155 : w2 155 = w 155 := by rw [hw2, wu_ne (by decide), hw1, mvW_o (by decide) (by decide)]
    have e156 : w2 156 = w 156 := by rw [hw2, wu_ne (by decide), hw1, mvW_o (by decide) (by decide)]
    have e157 : w2 157 = w 157 := by rw [hw2, wu_ne (by decide), hw1, mvW_o (by decide) (by decide)]
    have e158 : w2 158 = w 158 := by rw [hw2, wu_ne (by decide), hw1, mvW_o (by decide) (by decide)]
    have e159 : w2 159 = w 159 := by rw [hw2, wu_ne (by decide), hw1, mvW_o (by decide) (by decide)]
    have e160 : w2 160 = w 160 := by rw [hw2, wu_ne (by decide), hw1, mvW_o (by decide) (by decide)]
    have e163 : w2 163 = w 163 := by rw [hw2, wu_ne (by decide), hw1, mvW_o (by decide) (by decide)]
    have e164 : w2 164 = w 164 := by rw [hw2, wu_ne (by decide), hw1, mvW_o (by decide) (by decide)]
    have e165 : w2 165 = w 165 := by rw [hw2, wu_ne (by decide), hw1, mvW_o (by decide) (by decide)]
    have e166 : w2 166 = w 166 := by rw [hw2, wu_ne (by decide), hw1, mvW_o (by decide) (by decide)]
    have e167 : w2 167 = w 167 := by rw [hw2, wu_ne (by decide), hw1, mvW_o (by decide) (by decide)]
    have e168 : w2 168 = updF (w 168) t q := by rw [hw2, wu_upM, hw1, mvW_o (by decide) (by decide)]
    have f0_10 : w2 0 10 = w 0 10 := by rw [hw2, wu_ne (by decide), hw1, mvW_o (by decide) (by decide)]
    have f15_10 : w2 15 10 = w 15 10 := by rw [hw2, wu_ne (by decide), hw1, mvW_o (by decide) (by decide)]
    have f15_15 : w2 15 15 = w 15 15 := by rw [hw2, wu_ne (by decide), hw1, mvW_o (by decide) (by decide)]
    have f1_9 : w2 1 9 = w 1 9 := by rw [hw2, wu_ne (by decide), hw1, mvW_o (by decide) (by decide)]
    have f141_4 : w2 141 4 = w 141 4 := by rw [hw2, wu_ne (by decide), hw1, mvW_o (by decide) (by decide)]
    have f141_5 : w2 141 5 = w 141 5 := by rw [hw2, wu_ne (by decide), hw1, mvW_o (by decide) (by decide)]
    have nGH : GH w2 := by
      unfold GH at hH9 ⊢
      rw [e9, e16, e17, e18, e19, e20, e21, e22, e23, e24, e25, e26, e27, e28, e29, e149, e155, e156, e157, e158, e159, e160, e163, e164, e165, e166, e167, e168, f0_10, f15_10, f15_15, f1_9, f141_4, f141_5]
      obtain ⟨a1, a2, a3, a4, a5, a6, a7, a8⟩ := hH9
      exact ⟨a1, a2, ⟨a3.1, a3.2.1, a3.2.2.1, a3.2.2.2.1, a3.2.2.2.2.1, a3.2.2.2.2.2.1, a3.2.2.2.2.2.2.1, a3.2.2.2.2.2.2.2.1, a3.2.2.2.2.2.2.2.2.1, a3.2.2.2.2.2.2.2.2.2.1, a3.2.2.2.2.2.2.2.2.2.2.1, by rw [a3.2.2.2.2.2.2.2.2.2.2.2.1], a3.2.2.2.2.2.2.2.2.2.2.2.2⟩, a4, a5, a6.move hc9.1 hc9.2.1 hc9.2.2.2, a7, a8⟩
    exact GI.mk (hR9.fr (by rw [hw2]; exact (Agw.c (Agw.of [29, 24] (fun c hc => by rw [hw1]; exact mvW_o (fun z => hc (by rw [z]; decide)) (fun z => hc (by rw [z]; decide))) (by decide) (fun p hp => Or.inl (by revert p; decide)) (by decide)) (by decide) (by decide) (by decide)))) nGH (hC9.fr (by rw [hw2]; exact (Agw.c (Agw.of [29, 24] (fun c hc => by rw [hw1]; exact mvW_o (fun z => hc (by rw [z]; decide)) (fun z => hc (by rw [z]; decide))) (by decide) (fun p hp => Or.inl (by revert p; decide)) (by decide)) (by decide) (by decide) (by decide)))) (hT9.fr (by rw [hw2]; exact (Agw.c (Agw.of [29, 24] (fun c hc => by rw [hw1]; exact mvW_o (fun z => hc (by rw [z]; decide)) (fun z => hc (by rw [z]; decide))) (by decide) (fun p hp => Or.inl (by revert p; decide)) (by decide)) (by decide) (by decide) (by decide)))) (hL9.fr (by rw [hw2]; exact (Agw.c (Agw.of [29, 24] (fun c hc => by rw [hw1]; exact mvW_o (fun z => hc (by rw [z]; decide)) (fun z => hc (by rw [z]; decide))) (by decide) (fun p hp => Or.inl (by revert p; decide)) (by decide)) (by decide) (by decide) (by decide)))) (hV9.fr (by rw [hw2]; exact (Agw.c (Agw.of [29, 24] (fun c hc => by rw [hw1]; exact mvW_o (fun z => hc (by rw [z]; decide)) (fun z => hc (by rw [z]; decide))) (by decide) (fun p hp => Or.inl (by revert p; decide)) (by decide)) (by decide) (by decide) (by decide)))) (hP9.fr (by rw [hw2]; exact (Agw.c (Agw.of [29, 24] (fun c hc => by rw [hw1]; exact mvW_o (fun z => hc (by rw [z]; decide)) (fun z => hc (by rw [z]; decide))) (by decide) (fun p hp => Or.inl (by revert p; decide)) (by decide)) (by decide) (by decide) (by decide)))) (hN9.fr (by rw [hw2]; exact (Agw.c (Agw.of [29, 24] (fun c hc => by rw [hw1]; exact mvW_o (fun z => hc (by rw [z]; decide)) (fun z => hc (by rw [z]; decide))) (by decide) (fun p hp => Or.inl (by revert p; decide)) (by decide)) (by decide) (by decide) (by decide)))) (hO9.fr (by rw [hw2]; exact (Agw.c (Agw.of [29, 24] (fun c hc => by rw [hw1]; exact mvW_o (fun z => hc (by rw [z]; decide)) (fun z => hc (by rw [z]; decide))) (by decide) (fun p hp => Or.inl (by revert p; decide)) (by decide)) (by decide) (by decide) (by decide)))) (hK9.fr (by rw [hw2]; exact (Agw.c (Agw.of [29, 24] (fun c hc => by rw [hw1]; exact mvW_o (fun z => hc (by rw [z]; decide)) (fun z => hc (by rw [z]; decide))) (by decide) (fun p hp => Or.inl (by revert p; decide)) (by decide)) (by decide) (by decide) (by decide))))
  · exact absurd ⟨hc9.1, hc9.2.1, hc9.2.2.1, (hfst _ hc9.2.1).mpr hc9.2.2.2⟩ hd9
  · exact absurd ⟨hd9.1, hd9.2.1, hd9.2.2.1, (hfst _ hd9.2.1).mp hd9.2.2.2⟩ hc9
  · rw [hw2, hw1]
    exact ⟨hz2.trans hz9.symm, hg9⟩

theorem op_book (t q : Int) {w : Wd} (h : GAl w) : OpI mX11_book mX12_book [(2, 0), (0, t), (0, q)] [(2, 141), (0, t), (0, q)] w := by
  obtain ⟨s9, b9, LN9, hR9, hH9, hC9, hT9, hL9, hV9, hP9, hN9, hO9, hK9⟩ := h
  have hg9 : GAl w := ⟨s9, b9, LN9, hR9, hH9, hC9, hT9, hL9, hV9, hP9, hN9, hO9, hK9⟩
  have hgg : HG (w 9) (w 25) (w 1 9) (w 15 10) := hH9.2.2.2.2.2.2.1
  have hb1 := hH9.1.2
  have hb2 := hR9.2.2.1.2
  refine ⟨_, CallN.deep (x_book t q w hH9.1.2 hR9.2.2.1.2 (fun j a b => by have := hgg.1 j a b; omega)) (by decide), fun z w1 hJ => ?_⟩
  have k4 : w1 141 4 = w 15 10 ∧ w1 149 = w 9 ∧ w1 141 2 = w 1 9 := by
    rcases hJ with ⟨hc9, hz9, hw1⟩ | ⟨hc9, hz9, hw1⟩
    · rw [hw1, mvW_o (by decide) (by decide), mvW_o (by decide) (by decide)]
      exact ⟨hH9.1.1, hH9.2.2.1.2.2.2.2.2.2.2.2.2.2.2.2, hR9.2.2.1.1⟩
    · rw [hw1]
      exact ⟨hH9.1.1, hH9.2.2.1.2.2.2.2.2.2.2.2.2.2.2.2, hR9.2.2.1.1⟩
  have hm9 := m_book t q w1 (by rw [k4.1]; exact hH9.1.2) (by rw [k4.2.2]; exact hR9.2.2.1.2)
  rw [k4.1, k4.2.1, k4.2.2] at hm9
  refine CallN.deep (hm9.conseq (fun r w2 hq => ?_)) (by decide)
  obtain ⟨z2, rfl, hq⟩ := hq
  refine ⟨z2, rfl, ?_⟩
  have hfst : ∀ y, (q = -1 ∨ (0 ≤ q ∧ q < w 15 10)) → ((q = -1 ∨ fst (w 9) q (w 1 9).toNat = y) ↔ (q = -1 ∨ w 25 q = y)) := fun y hy => by
    rcases hy with e | e
    · exact ⟨fun _ => Or.inl e, fun _ => Or.inl e⟩
    · rw [hgg.fst e.1 e.2 hb2.1]
  rcases hJ with ⟨hc9, hz9, hw1⟩ | ⟨hc9, hz9, hw1⟩ <;> rcases hq with ⟨hd9, hz2, hw2⟩ | ⟨hd9, hz2, hw2⟩
  · refine ⟨hz2.trans hz9.symm, s9, b9, LN9, ?_⟩
    have e9 : w2 9 = updF (w 9) t q := by rw [hw2, wu_ne (by decide), hw1, mvW_a (by decide)]
    have e16 : w2 16 = w 16 := by rw [hw2, wu_ne (by decide), hw1, mvW_o (by decide) (by decide)]
    have e17 : w2 17 = w 17 := by rw [hw2, wu_ne (by decide), hw1, mvW_o (by decide) (by decide)]
    have e18 : w2 18 = w 18 := by rw [hw2, wu_ne (by decide), hw1, mvW_o (by decide) (by decide)]
    have e19 : w2 19 = w 19 := by rw [hw2, wu_ne (by decide), hw1, mvW_o (by decide) (by decide)]
    have e20 : w2 20 = w 20 := by rw [hw2, wu_ne (by decide), hw1, mvW_o (by decide) (by decide)]
    have e21 : w2 21 = w 21 := by rw [hw2, wu_ne (by decide), hw1, mvW_o (by decide) (by decide)]
    have e22 : w2 22 = w 22 := by rw [hw2, wu_ne (by decide), hw1, mvW_o (by decide) (by decide)]
    have e23 : w2 23 = w 23 := by rw [hw2, wu_ne (by decide), hw1, mvW_o (by decide) (by decide)]
    have e24 : w2 24 = w 24 := by rw [hw2, wu_ne (by decide), hw1, mvW_o (by decide) (by decide)]
    have e25 : w2 25 = mvG (w 9) (w 25) t q := by rw [hw2, wu_ne (by decide), hw1, mvW_b (by decide)]
    have e26 : w2 26 = w 26 := by rw [hw2, wu_ne (by decide), hw1, mvW_o (by decide) (by decide)]
    have e27 : w2 27 = w 27 := by rw [hw2, wu_ne (by decide), hw1, mvW_o (by decide) (by decide)]
    have e28 : w2 28 = w 28 := by rw [hw2, wu_ne (by decide), hw1, mvW_o (by decide) (by decide)]
    have e29 : w2 29 = w 29 := by rw [hw2, wu_ne (by decide), hw1, mvW_o (by decide) (by decide)]
    have e149 : w2 149 = updF (w 149) t q := by rw [hw2, wu_upM, hw1, mvW_o (by decide) (by decide)]
    have e155 : w2 155 = w 155 := by rw [hw2, wu_ne (by decide), hw1, mvW_o (by decide) (by decide)]
    have e156 : w2 156 = w 156 := by rw [hw2, wu_ne (by decide), hw1, mvW_o (by decide) (by decide)]
    have e157 : w2 157 = w 157 := by rw [hw2, wu_ne (by decide), hw1, mvW_o (by decide) (by decide)]
    have e158 : w2 158 = w 158 := by rw [hw2, wu_ne (by decide), hw1, mvW_o (by decide) (by decide)]
    have e159 : w2 159 = w 159 := by rw [hw2, wu_ne (by decide), hw1, mvW_o (by decide) (by decide)]
    have e160 : w2 160 = w 160 := by rw [hw2, wu_ne (by decide), hw1, mvW_o (by decide) (by decide)]
    have e163 : w2 163 = w 163 := by rw [hw2, wu_ne (by decide), hw1, mvW_o (by decide) (by decide)]
    have e164 : w2 164 = w 164 := by rw [hw2, wu_ne (by decide), hw1, mvW_o (by decide) (by decide)]
    have e165 : w2 165 = w 165 := by rw [hw2, wu_ne (by decide), hw1, mvW_o (by decide) (by decide)]
    have e166 : w2 166 = w 166 := by rw [hw2, wu_ne (by decide), hw1, mvW_o (by decide) (by decide)]
    have e167 : w2 167 = w 167 := by rw [hw2, wu_ne (by decide), hw1, mvW_o (by decide) (by decide)]
    have e168 : w2 168 = w 168 := by rw [hw2, wu_ne (by decide), hw1, mvW_o (by decide) (by decide)]
    have f0_10 : w2 0 10 = w 0 10 := by rw [hw2, wu_ne (by decide), hw1, mvW_o (by decide) (by decide)]
    have f15_10 : w2 15 10 = w 15 10 := by rw [hw2, wu_ne (by decide), hw1, mvW_o (by decide) (by decide)]
    have f15_15 : w2 15 15 = w 15 15 := by rw [hw2, wu_ne (by decide), hw1, mvW_o (by decide) (by decide)]
    have f1_9 : w2 1 9 = w 1 9 := by rw [hw2, wu_ne (by decide), hw1, mvW_o (by decide) (by decide)]
    have f141_4 : w2 141 4 = w 141 4 := by rw [hw2, wu_ne (by decide), hw1, mvW_o (by decide) (by decide)]
    have f141_5 : w2 141 5 = w 141 5 := by rw [hw2, wu_ne (by decide), hw1, mvW_o (by decide) (by decide)]
    have nGH : GH w2 := by
      unfold GH at hH9 ⊢
      rw [e9, e16, e17, e18, e19, e20, e21, e22, e23, e24, e25, e26, e27, e28, e29, e149, e155, e156, e157, e158, e159, e160, e163, e164, e165, e166, e167, e168, f0_10, f15_10, f15_15, f1_9, f141_4, f141_5]
      obtain ⟨a1, a2, a3, a4, a5, a6, a7, a8⟩ := hH9
      exact ⟨a1, a2, ⟨a3.1, a3.2.1, a3.2.2.1, a3.2.2.2.1, a3.2.2.2.2.1, a3.2.2.2.2.2.1, a3.2.2.2.2.2.2.1, a3.2.2.2.2.2.2.2.1, a3.2.2.2.2.2.2.2.2.1, a3.2.2.2.2.2.2.2.2.2.1, a3.2.2.2.2.2.2.2.2.2.2.1, a3.2.2.2.2.2.2.2.2.2.2.2.1, by rw [a3.2.2.2.2.2.2.2.2.2.2.2.2]⟩, a4, a5, a6, a7.move hc9.1 hc9.2.1 hc9.2.2.2, a8⟩
    exact GI.mk (hR9.fr (by rw [hw2]; exact (Agw.c (Agw.of [9, 25] (fun c hc => by rw [hw1]; exact mvW_o (fun z => hc (by rw [z]; decide)) (fun z => hc (by rw [z]; decide))) (by decide) (fun p hp => Or.inl (by revert p; decide)) (by decide)) (by decide) (by decide) (by decide)))) nGH (hC9.fr (by rw [hw2]; exact (Agw.c (Agw.of [9, 25] (fun c hc => by rw [hw1]; exact mvW_o (fun z => hc (by rw [z]; decide)) (fun z => hc (by rw [z]; decide))) (by decide) (fun p hp => Or.inl (by revert p; decide)) (by decide)) (by decide) (by decide) (by decide)))) (hT9.fr (by rw [hw2]; exact (Agw.c (Agw.of [9, 25] (fun c hc => by rw [hw1]; exact mvW_o (fun z => hc (by rw [z]; decide)) (fun z => hc (by rw [z]; decide))) (by decide) (fun p hp => Or.inl (by revert p; decide)) (by decide)) (by decide) (by decide) (by decide)))) (hL9.fr (by rw [hw2]; exact (Agw.c (Agw.of [9, 25] (fun c hc => by rw [hw1]; exact mvW_o (fun z => hc (by rw [z]; decide)) (fun z => hc (by rw [z]; decide))) (by decide) (fun p hp => Or.inl (by revert p; decide)) (by decide)) (by decide) (by decide) (by decide)))) (hV9.fr (by rw [hw2]; exact (Agw.c (Agw.of [9, 25] (fun c hc => by rw [hw1]; exact mvW_o (fun z => hc (by rw [z]; decide)) (fun z => hc (by rw [z]; decide))) (by decide) (fun p hp => Or.inl (by revert p; decide)) (by decide)) (by decide) (by decide) (by decide)))) (hP9.fr (by rw [hw2]; exact (Agw.c (Agw.of [9, 25] (fun c hc => by rw [hw1]; exact mvW_o (fun z => hc (by rw [z]; decide)) (fun z => hc (by rw [z]; decide))) (by decide) (fun p hp => Or.inl (by revert p; decide)) (by decide)) (by decide) (by decide) (by decide)))) (hN9.fr (by rw [hw2]; exact (Agw.c (Agw.of [9, 25] (fun c hc => by rw [hw1]; exact mvW_o (fun z => hc (by rw [z]; decide)) (fun z => hc (by rw [z]; decide))) (by decide) (fun p hp => Or.inl (by revert p; decide)) (by decide)) (by decide) (by decide) (by decide)))) (hO9.fr (by rw [hw2]; exact (Agw.c (Agw.of [9, 25] (fun c hc => by rw [hw1]; exact mvW_o (fun z => hc (by rw [z]; decide)) (fun z => hc (by rw [z]; decide))) (by decide) (fun p hp => Or.inl (by revert p; decide)) (by decide)) (by decide) (by decide) (by decide)))) (hK9.fr (by rw [hw2]; exact (Agw.c (Agw.of [9, 25] (fun c hc => by rw [hw1]; exact mvW_o (fun z => hc (by rw [z]; decide)) (fun z => hc (by rw [z]; decide))) (by decide) (fun p hp => Or.inl (by revert p; decide)) (by decide)) (by decide) (by decide) (by decide))))
  · exact absurd ⟨hc9.1, hc9.2.1, hc9.2.2.1, (hfst _ hc9.2.1).mpr hc9.2.2.2⟩ hd9
  · exact absurd ⟨hd9.1, hd9.2.1, hd9.2.2.1, (hfst _ hd9.2.1).mp hd9.2.2.2⟩ hc9
  · rw [hw2, hw1]
    exact ⟨hz2.trans hz9.symm, hg9⟩

theorem iand_255 (x : Int) : 0 ≤ iand x 255 ∧ iand x 255 ≤ 255 := by
  unfold iand
  obtain ⟨j, hj, e⟩ := pk_andE (Int32.ofInt x) (m := Int32.ofInt 255) 8 (by decide)
  rw [e]
  have h2 : (nI j).toInt = (j : Int) := by
    show (Int32.ofNat j).toInt = _
    rw [← Int32.ofInt_eq_ofNat]
    exact toInt_in ⟨by omega, by have : j < 256 := hj; omega⟩
  rw [h2]
  have : j < 256 := hj
  omega
theorem fB_bd (a b c d e k : Int) : 0 ≤ fB a b c d e k ∧ fB a b c d e k ≤ 255 := iand_255 _
theorem feedW_o {w : Wd} {T F c : Nat} {fi n i : Int} {b : Int → Int} (h1 : c ≠ T) (h2 : c ≠ F) : feedW w T F fi n b i c = w c := by
  funext j
  unfold feedW
  rw [if_neg h1, if_neg h2]
theorem feedW_t {w : Wd} {T F : Nat} {fi n i : Int} {b : Int → Int} : feedW w T F fi n b i T = fun j => if n ≤ j ∧ j < n + i then b (j - n) else w T j := by
  funext j
  unfold feedW
  rw [if_pos rfl]
theorem feedW_f {w : Wd} {T F : Nat} {fi n i j : Int} {b : Int → Int} (h : F ≠ T) : feedW w T F fi n b i F j = if j = fi then n + i else w F j := by
  unfold feedW
  rw [if_neg h, if_pos rfl]
theorem op_feed (a c d e f : Int) {w : Wd} (h : GAl w) : OpI mX11_feed mX12_feed [(2, 0), (0, a), (0, c), (0, d), (0, e), (0, f)] [(2, 141), (0, a), (0, c), (0, d), (0, e), (0, f)] w := by
  obtain ⟨s9, b9, LN9, hR9, hH9, hC9, hT9, hL9, hV9, hP9, hN9, hO9, hK9⟩ := h
  have hg9 : GAl w := ⟨s9, b9, LN9, hR9, hH9, hC9, hT9, hL9, hV9, hP9, hN9, hO9, hK9⟩
  refine ⟨_, CallN.deep (x_feed a c d e f w hT9.2.1.2) (by decide), fun z w1 hJ => ?_⟩
  have k50 : w1 141 50 = w 30 1 := by
    rcases hJ with ⟨hc9, hz9, hw1⟩ | ⟨hc9, hz9, hw1⟩
    · rw [hw1, feedW_o (by decide) (by decide)]; exact hT9.2.1.1
    · rw [hw1]; exact hT9.2.1.1
  have hm9 := m_feed a c d e f w1 (by rw [k50]; exact hT9.2.1.2)
  rw [k50] at hm9
  refine CallN.deep (hm9.conseq (fun r w2 hq => ?_)) (by decide)
  obtain ⟨z2, rfl, hq⟩ := hq
  refine ⟨z2, rfl, ?_⟩
  rcases hJ with ⟨hc9, hz9, hw1⟩ | ⟨hc9, hz9, hw1⟩ <;> rcases hq with ⟨hd9, hz2, hw2⟩ | ⟨hd9, hz2, hw2⟩
  · refine ⟨hz2.trans hz9.symm, s9, b9, LN9, ?_⟩
    have e178 : w2 178 = fun j => if w 30 1 ≤ j ∧ j < w 30 1 + 20 then fB a c d e f (j - w 30 1) else w 178 j := by rw [hw2, feedW_t, hw1, feedW_o (by decide) (by decide)]
    have e31 : w2 31 = fun j => if w 30 1 ≤ j ∧ j < w 30 1 + 20 then fB a c d e f (j - w 30 1) else w 31 j := by rw [hw2, feedW_o (by decide) (by decide), hw1, feedW_t]
    have f30 : w2 30 1 = w 30 1 + 20 := by rw [hw2, feedW_o (by decide) (by decide), hw1, feedW_f (by decide), if_pos rfl]
    have f50 : w2 141 50 = w 30 1 + 20 := by rw [hw2, feedW_f (by decide), if_pos rfl]
    have f35 : w2 35 = w 35 := by rw [hw2, feedW_o (by decide) (by decide), hw1, feedW_o (by decide) (by decide)]
    have fm : ∀ j, j ≠ 50 → w2 141 j = w 141 j := fun j hj => by rw [hw2, feedW_f (by decide), if_neg hj, hw1, feedW_o (by decide) (by decide)]
    have nGT : GT w2 := by
      obtain ⟨a1, a2, a3, a4, a5⟩ := hT9
      unfold GT
      rw [e178, e31, f30, f50, f35, fm 57 (by decide), fm 59 (by decide), fm 54 (by decide), a1]
      refine ⟨rfl, ⟨rfl, by omega, by omega⟩, a3, a4, fun j j0 j1 => ?_⟩
      dsimp only
      by_cases q : w 30 1 ≤ j ∧ j < w 30 1 + 20
      · rw [if_pos q]; exact fB_bd _ _ _ _ _ _
      · rw [if_neg q]; exact a5 j j0 (by omega)
    exact GI.mk (hR9.fr (Agw.tr (Agw.of (v := w1) [31, 30] (fun c hc => by rw [hw1]; exact feedW_o (fun z => hc (by rw [z]; decide)) (fun z => hc (by rw [z]; decide))) (by decide) (fun p hp => Or.inl (by revert p; decide)) (by decide)) (Agw.of (w := w1) (v := w2) [178, 141] (fun c hc => by rw [hw2]; exact feedW_o (fun z => hc (by rw [z]; decide)) (fun z => hc (by rw [z]; decide))) (by decide) (fun p hp => by
      by_cases e : p.1 = 141
      · refine Or.inr ?_
        rw [e, hw2, feedW_f (by decide), if_neg (by revert p; decide)]
      · exact Or.inl (by revert p; decide)) (by decide)))) (hH9.fr (Agw.tr (Agw.of (v := w1) [31, 30] (fun c hc => by rw [hw1]; exact feedW_o (fun z => hc (by rw [z]; decide)) (fun z => hc (by rw [z]; decide))) (by decide) (fun p hp => Or.inl (by revert p; decide)) (by decide)) (Agw.of (w := w1) (v := w2) [178, 141] (fun c hc => by rw [hw2]; exact feedW_o (fun z => hc (by rw [z]; decide)) (fun z => hc (by rw [z]; decide))) (by decide) (fun p hp => by
      by_cases e : p.1 = 141
      · refine Or.inr ?_
        rw [e, hw2, feedW_f (by decide), if_neg (by revert p; decide)]
      · exact Or.inl (by revert p; decide)) (by decide)))) (hC9.fr (Agw.tr (Agw.of (v := w1) [31, 30] (fun c hc => by rw [hw1]; exact feedW_o (fun z => hc (by rw [z]; decide)) (fun z => hc (by rw [z]; decide))) (by decide) (fun p hp => Or.inl (by revert p; decide)) (by decide)) (Agw.of (w := w1) (v := w2) [178, 141] (fun c hc => by rw [hw2]; exact feedW_o (fun z => hc (by rw [z]; decide)) (fun z => hc (by rw [z]; decide))) (by decide) (fun p hp => by
      by_cases e : p.1 = 141
      · refine Or.inr ?_
        rw [e, hw2, feedW_f (by decide), if_neg (by revert p; decide)]
      · exact Or.inl (by revert p; decide)) (by decide)))) nGT (hL9.fr (Agw.tr (Agw.of (v := w1) [31, 30] (fun c hc => by rw [hw1]; exact feedW_o (fun z => hc (by rw [z]; decide)) (fun z => hc (by rw [z]; decide))) (by decide) (fun p hp => Or.inl (by revert p; decide)) (by decide)) (Agw.of (w := w1) (v := w2) [178, 141] (fun c hc => by rw [hw2]; exact feedW_o (fun z => hc (by rw [z]; decide)) (fun z => hc (by rw [z]; decide))) (by decide) (fun p hp => by
      by_cases e : p.1 = 141
      · refine Or.inr ?_
        rw [e, hw2, feedW_f (by decide), if_neg (by revert p; decide)]
      · exact Or.inl (by revert p; decide)) (by decide)))) (hV9.fr (Agw.tr (Agw.of (v := w1) [31, 30] (fun c hc => by rw [hw1]; exact feedW_o (fun z => hc (by rw [z]; decide)) (fun z => hc (by rw [z]; decide))) (by decide) (fun p hp => Or.inl (by revert p; decide)) (by decide)) (Agw.of (w := w1) (v := w2) [178, 141] (fun c hc => by rw [hw2]; exact feedW_o (fun z => hc (by rw [z]; decide)) (fun z => hc (by rw [z]; decide))) (by decide) (fun p hp => by
      by_cases e : p.1 = 141
      · refine Or.inr ?_
        rw [e, hw2, feedW_f (by decide), if_neg (by revert p; decide)]
      · exact Or.inl (by revert p; decide)) (by decide)))) (hP9.fr (Agw.tr (Agw.of (v := w1) [31, 30] (fun c hc => by rw [hw1]; exact feedW_o (fun z => hc (by rw [z]; decide)) (fun z => hc (by rw [z]; decide))) (by decide) (fun p hp => Or.inl (by revert p; decide)) (by decide)) (Agw.of (w := w1) (v := w2) [178, 141] (fun c hc => by rw [hw2]; exact feedW_o (fun z => hc (by rw [z]; decide)) (fun z => hc (by rw [z]; decide))) (by decide) (fun p hp => by
      by_cases e : p.1 = 141
      · refine Or.inr ?_
        rw [e, hw2, feedW_f (by decide), if_neg (by revert p; decide)]
      · exact Or.inl (by revert p; decide)) (by decide)))) (hN9.fr (Agw.tr (Agw.of (v := w1) [31, 30] (fun c hc => by rw [hw1]; exact feedW_o (fun z => hc (by rw [z]; decide)) (fun z => hc (by rw [z]; decide))) (by decide) (fun p hp => Or.inl (by revert p; decide)) (by decide)) (Agw.of (w := w1) (v := w2) [178, 141] (fun c hc => by rw [hw2]; exact feedW_o (fun z => hc (by rw [z]; decide)) (fun z => hc (by rw [z]; decide))) (by decide) (fun p hp => by
      by_cases e : p.1 = 141
      · refine Or.inr ?_
        rw [e, hw2, feedW_f (by decide), if_neg (by revert p; decide)]
      · exact Or.inl (by revert p; decide)) (by decide)))) (hO9.fr (Agw.tr (Agw.of (v := w1) [31, 30] (fun c hc => by rw [hw1]; exact feedW_o (fun z => hc (by rw [z]; decide)) (fun z => hc (by rw [z]; decide))) (by decide) (fun p hp => Or.inl (by revert p; decide)) (by decide)) (Agw.of (w := w1) (v := w2) [178, 141] (fun c hc => by rw [hw2]; exact feedW_o (fun z => hc (by rw [z]; decide)) (fun z => hc (by rw [z]; decide))) (by decide) (fun p hp => by
      by_cases e : p.1 = 141
      · refine Or.inr ?_
        rw [e, hw2, feedW_f (by decide), if_neg (by revert p; decide)]
      · exact Or.inl (by revert p; decide)) (by decide)))) (hK9.fr (Agw.tr (Agw.of (v := w1) [31, 30] (fun c hc => by rw [hw1]; exact feedW_o (fun z => hc (by rw [z]; decide)) (fun z => hc (by rw [z]; decide))) (by decide) (fun p hp => Or.inl (by revert p; decide)) (by decide)) (Agw.of (w := w1) (v := w2) [178, 141] (fun c hc => by rw [hw2]; exact feedW_o (fun z => hc (by rw [z]; decide)) (fun z => hc (by rw [z]; decide))) (by decide) (fun p hp => by
      by_cases e : p.1 = 141
      · refine Or.inr ?_
        rw [e, hw2, feedW_f (by decide), if_neg (by revert p; decide)]
      · exact Or.inl (by revert p; decide)) (by decide))))
  · exfalso
    omega
  · exfalso
    omega
  · rw [hw2, hw1]
    exact ⟨hz2.trans hz9.symm, hg9⟩

