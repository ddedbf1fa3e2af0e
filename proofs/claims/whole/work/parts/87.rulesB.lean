/-! RULES, BOTH. -/
/-- what rules leaves -/
def RuK (w v : Wd) : Prop := (∀ c, c < 30 ∨ (58 < c ∧ c < 141) ∨ (141 < c ∧ c < 169) ∨ 177 < c → v c = w c) ∧ ∀ j : Int, j < 48 → v 141 j = w 141 j
theorem RuK.ag {w v : Wd} (h : RuK w v) {cs : List Nat} {fs : List (Nat × Int)} {rs : List (Nat × Nat)} (h1 : ∀ c ∈ cs, c < 30 ∨ (58 < c ∧ c < 141) ∨ (141 < c ∧ c < 169) ∨ 177 < c) (h2 : ∀ p ∈ fs, (p.1 < 30 ∨ (58 < p.1 ∧ p.1 < 141) ∨ (141 < p.1 ∧ p.1 < 169) ∨ 177 < p.1) ∨ (p.1 = 141 ∧ p.2 < 48)) (h3 : ∀ r ∈ rs, 58 < r.1 ∧ r.1 + r.2 ≤ 141) : Agw cs fs rs w v := ⟨fun c hc => h.1 c (h1 c hc), fun p hp => (h2 p hp).elim (fun q => by rw [h.1 p.1 q]) (fun q => by rw [q.1]; exact h.2 p.2 q.2), fun r hr i hi => h.1 _ (by have := h3 r hr; omega)⟩
theorem IsSc.rng {b : Nat} (h : IsSc b) : 36 ≤ b ∧ b ≤ 54 := by rcases h with rfl | rfl | rfl | rfl <;> decide
theorem RuK.gi {s s2 : Int → Nat} {b b2 : Nat} {LN LN2 : Int → List Lin} {w v : Wd} (h : GI s b LN w) (hk : RuK w v) (hT : GT v) (hL : GL s2 b2 LN2 v) : GAl v := by
  obtain ⟨hR9, hH9, hC9, hT9, hL9, hV9, hP9, hN9, hO9, hK9⟩ := h
  exact ⟨s2, b2, LN2, hR9.fr (hk.ag (by decide) (by decide) (by decide)), hH9.fr (hk.ag (by decide) (by decide) (by decide)), hC9.fr (hk.ag (by decide) (by decide) (by decide)), hT, hL, hV9.fr (hk.ag (by decide) (by decide) (by decide)), hP9.fr (hk.ag (by decide) (by decide) (by decide)), hN9.fr (hk.ag (by decide) (by decide) (by decide)), hO9.fr (hk.ag (by decide) (by decide) (by decide)), hK9.fr (hk.ag (by decide) (by decide) (by decide))⟩
/-- the class's side: which cells stay -/
theorem RuQ.k {w w1 : Wd} {s : Int → Nat} {b : Nat} {f z : Int} (hb : IsSc b) (h : RuQ w s b f z w1) : ∀ c, c < 30 ∨ 58 < c ∨ c = 31 → w1 c = w c := by
  have hr := hb.rng
  intro c hc
  rcases h with ⟨-, -, e⟩ | ⟨-, -, ⟨-, e9, v, -, hf, e, -⟩ | ⟨L, v, N, K, -, -, hf, -, e, -⟩⟩
  · rw [e, wu_ne (by omega), wu_ne (by omega), wu_ne (by omega)]
  · rw [e, wu_ne (by omega), hf.1 c (by omega) (by omega) (by omega) (by omega) (by omega) (by omega) (by omega) (by omega) (by omega)]
  · rw [e, wu_ne (by omega), wu_ne (by omega), wu_ne (by omega), hf.1 c (by omega) (by omega) (by omega) (by omega) (by omega) (by omega) (by omega) (by omega) (by omega)]
theorem RmQ.k {w w1 : Wd} {f z : Int} (h : RmQ w f z w1) : (∀ c, c < 141 ∨ (141 < c ∧ c < 169) ∨ 177 < c → w1 c = w c) ∧ ∀ j : Int, j < 48 → w1 141 j = w 141 j := by
  rcases h with ⟨-, -, e⟩ | ⟨-, ⟨-, e9, v, -, hf, -, e⟩ | ⟨L, v, v2, -, -, hf, -, hc, hs⟩⟩
  · rw [e]
    exact ⟨fun c hc => by rw [wu_ne (by omega), wu_ne (by omega), wu_ne (by omega)], fun j hj => by rw [wu_f (by omega), wu_f (by omega), wu_f (by omega)]⟩
  · rw [e]
    unfold RdM
    exact ⟨fun c hc => by rw [wu_ne (by omega), wu_ne (by omega), wu_ne (by omega), hf.1 c (by omega) (by omega) (by omega) (by omega) (by omega), wu_ne (by omega), wu_ne (by omega)], fun j hj => by rw [wu_f (by omega), wu_f (by omega), wu_f (by omega), hf.2.1 j (by omega) (by omega) (by omega) (by omega) (by omega) (by omega) (by omega) (by omega) (by omega), wu_f (by omega), wu_f (by omega)]⟩
  · refine ⟨fun c hc2 => ?_, fun j hj => ?_⟩
    · rw [hs.1 c (by omega), wu_ne (by omega), hc.1 c (by omega) (by omega) (by omega)]
      unfold RdM
      rw [wu_ne (by omega), wu_ne (by omega), wu_ne (by omega), wu_ne (by omega), hf.1 c (by omega) (by omega) (by omega) (by omega) (by omega), wu_ne (by omega), wu_ne (by omega)]
    · rw [hs.1 141 (by decide), wu_ne (by decide), hc.1 141 (by decide) (by decide) (by decide)]
      unfold RdM
      rw [wu_ne (by decide), wu_f (by omega), wu_f (by omega), wu_f (by omega), hf.2.1 j (by omega) (by omega) (by omega) (by omega) (by omega) (by omega) (by omega) (by omega) (by omega), wu_f (by omega), wu_f (by omega)]
theorem LNM.okl {w : Wd} {LN : Int → List Lin} (h : LNM w LN) {f : Int} (f0 : 0 ≤ f) (f1 : f < 3) : (LN f).length ≤ 20 := (h f f0 f1).2.1
set_option maxHeartbeats 1000000 in
theorem op_rules (f : Int) {w : Wd} (h : GAl w) : OpI mX11_rules mX12_rules [(2, 0), (0, f)] [(2, 141), (0, f)] w := by
  obtain ⟨s9, b9, LN9, hR9, hH9, hC9, hT9, hL9, hV9, hP9, hN9, hO9, hK9⟩ := h
  have hg9 : GI s9 b9 LN9 w := ⟨hR9, hH9, hC9, hT9, hL9, hV9, hP9, hN9, hO9, hK9⟩
  have hbS := hL9.2.2.1.1
  have hrg := hbS.rng
  refine ⟨_, CallN.deep (x_rules f w hL9.2.2.1 (fun g a c => (hL9.1.1 g a c).2.1) hT9.2.1.2 hT9.2.2.2.2 hL9.2.2.2) (by decide), fun z w1 hJ => ?_⟩
  have hk1 := RuQ.k hbS hJ
  have e178 : w1 178 = w 31 := (hk1 178 (by omega)).trans hT9.1
  have e141 : w1 141 = w 141 := hk1 141 (by omega)
  have e50 : w1 141 50 = w 30 1 := by rw [e141]; exact hT9.2.1.1
  have hm9 := m_rules f w1 (by unfold TxM; rw [e178, e50]; exact ⟨hT9.2.1.2, hT9.2.2.2.2⟩) (by rw [e141]; exact hT9.2.2.2.1)
  refine CallN.deep (hm9.conseq (fun r w2 hq => ?_)) (by decide)
  obtain ⟨z2, hr9, hq⟩ := hq
  have hk2 := RmQ.k hq
  have hk : RuK w w2 := ⟨fun c hc => (hk2.1 c (by omega)).trans (hk1 c (by omega)), fun j hj => (hk2.2 j hj).trans (by rw [e141])⟩
  have g178 : w2 178 = w 178 := (hk2.1 178 (by omega)).trans (hk1 178 (by omega))
  have g31 : w2 31 = w 31 := (hk2.1 31 (by omega)).trans (hk1 31 (by omega))
  have gx : ∀ c, c < 141 → w2 c = w1 c := fun c hc => hk2.1 c (by omega)
  suffices hsf : z2 = z ∧ GT w2 ∧ ∃ s2 b2 LN2, GL s2 b2 LN2 w2 by
    obtain ⟨hz, hT2, s2, b2, LN2, hL2⟩ := hsf
    exact ⟨z2, hr9, hz, hk.gi hg9 hT2 hL2⟩
  have mkT : w2 30 1 = 0 → w2 141 50 = 0 → w2 141 57 = w2 35 3 → w2 141 59 = w2 35 4 → (0 ≤ w2 141 54 ∧ w2 141 54 ≤ 9999) → GT w2 := fun a1 a2 a3 a4 a5 => by
    unfold GT
    rw [a1, a2, a3, a4]
    exact ⟨by rw [g178, g31]; exact hT9.1, ⟨rfl, by decide, by decide⟩, ⟨rfl, rfl⟩, a5, fun j j0 j1 => absurd j1 (by omega)⟩
  rcases hJ with ⟨p1, p2, p3⟩ | ⟨p1, p2, p3⟩
  · rcases hq with ⟨y1, y2, y3⟩ | ⟨y1, -⟩
    · refine ⟨y2.trans p2.symm, mkT ?_ ?_ ?_ ?_ ?_, s9, b9, LN9, ?_⟩
      · rw [gx 30 (by decide), p3, wu_same]
      · rw [y3, wu_same]
      · rw [gx 35 (by decide), y3, wu_f (by decide), wu_f (by decide), wu_same, p3, wu_ne (by decide), wu_at, if_neg (by decide), wu_same]
      · rw [gx 35 (by decide), y3, wu_f (by decide), wu_same, p3, wu_ne (by decide), wu_same]
      · rw [y3, wu_f (by decide), wu_f (by decide), wu_f (by decide), e141]; exact hT9.2.2.2.1
      · refine ⟨hL9.1.cells ?_ (fun g g0 g1 k hk => ?_), hL9.2.1.cells (fun c hc => ?_), hL9.2.2.1, ?_⟩
        · rw [gx 42 (by decide), p3, wu_ne (by decide), wu_ne (by decide), wu_ne (by decide)]
        · have hs := (hL9.2.2.1.2.1 g g0 g1).1.rng
          rw [gx _ (by omega), p3, wu_ne (by omega), wu_ne (by omega), wu_ne (by omega)]
        · rw [y3, wu_ne (by omega), wu_ne (by omega), wu_ne (by omega), hk1 c (by omega)]
        · rw [gx 35 (by decide), p3, wu_ne (by decide), wu_at, if_neg (by decide), wu_at, if_neg (by decide)]; exact hL9.2.2.2
    · exact absurd y1 p1
  · rcases hq with ⟨y1, -⟩ | ⟨y1, y2⟩
    · exact absurd p1 y1
    · rw [e178, e50] at y2
      rcases p3 with ⟨x1, e9, v, x2, x3, x4, x5, x6⟩ | ⟨L, v, N, K, x2, x1, x3, x4, x5, x6, x7⟩
      · rcases y2 with ⟨y3, e8, v2, y4, y5, y6, y7⟩ | ⟨L8, v2, v3, y4, -⟩
        · have he : e8 = e9 := Sum.inl.inj (y4.symm.trans x2)
          subst he
          have gv : ∀ c, c ≠ 141 → c ≠ 174 → c ≠ 175 → c ≠ 176 → c ≠ 177 → w2 c = w1 c := fun c c1 c2 c3 c4 c5 => by
            rw [y7]
            unfold RdM
            rw [wu_ne c1, wu_ne c1, wu_ne c1, y5.1 c c1 c2 c3 c4 c5, wu_ne c1, wu_ne c1]
          refine ⟨y3.trans x1.symm, mkT ?_ ?_ ?_ ?_ ?_, s9, b9, LN9, ?_⟩
          · rw [gx 30 (by decide)]; exact p2
          · rw [y7]; unfold RdM; rw [wu_f (by decide), wu_f (by decide), wu_same]
          · rw [gx 35 (by decide), x5, y7]; unfold RdM; rw [wu_f (by decide), wu_same]
          · rw [gx 35 (by decide), x6, y7]; unfold RdM; rw [wu_same]
          · rw [y7]; unfold RdM; rw [wu_f (by decide), wu_f (by decide), wu_f (by decide)]; exact y6
          · refine ⟨hL9.1.cells ?_ (fun g g0 g1 k hk => ?_), hL9.2.1.cells (fun c hc => ?_), hL9.2.2.1, ?_⟩
            · rw [gx 42 (by decide), x4, wu_ne (by decide), x3.1 42 (by decide) (by decide) (by decide) (by decide) (by decide) hbS.n42.1.symm hbS.n42.2.1.symm hbS.n42.2.2.1.symm hbS.n42.2.2.2.symm]
            · have hs := (hL9.2.2.1.2.1 g g0 g1).1.rng
              have hfr := hL9.2.2.1.far g0 g1
              rw [gx _ (by omega), x4, wu_ne (by omega), x3.1 _ (by omega) (by omega) (by omega) (by omega) (by omega) (hfr k 0 hk (by decide)) (hfr k 1 hk (by decide)) (hfr k 2 hk (by decide)) (hfr k 3 hk (by decide))]
            · rw [gv c (by omega) (by omega) (by omega) (by omega) (by omega), hk1 c (by omega)]
            · rw [gx 35 (by decide), x4, wu_ne (by decide), x3.2.2.1 2 (by decide) (by decide) (by decide)]; exact hL9.2.2.2
        · rw [x2] at y4; cases y4
      · rcases y2 with ⟨y3, e8, v2, y4, -⟩ | ⟨L8, v2, v3, y4, y3, y5, y6, y7, y8⟩
        · rw [x2] at y4; cases y4
        · have he : L8 = L := Sum.inr.inj (y4.symm.trans x2)
          subst he
          have hf3 : 0 ≤ f ∧ f < 3 := by omega
          have hb42 : ∀ k : Nat, k ≤ 3 → b9 + k ≠ 42 := fun k hk => by rcases hbS with q | q | q | q <;> omega
          have w1c : ∀ c, c ≠ 42 → c ≠ 35 → c ≠ 30 → w1 c = v c := fun c c1 c2 c3 => by rw [x5, wu_ne c3, wu_ne c2, wu_ne c1]
          have hsS := hL9.2.2.1.2.1 f hf3.1 hf3.2
          have hln : ∀ i, i < L8.length → lnX w2 b9 i (fixL v2 0 L8).length (lnD (fixL v2 0 L8) i) := fun i hi => by
            have h1 := x4.ln (by decide) hi
            have h2 := y6.stp hi
            rw [fixL_len, fixL_get L8 0 i hi, Nat.zero_add]
            have h3 : lnX v b9 i L8.length (fix1 v2 (spA (L8.take i)).length (lnD L8 i)) := by
              unfold lnX at h1 ⊢
              rw [fix1_cd h2.1 h2.2]
              exact h1
            exact lnX_cells (fun k hk => by rw [gx _ (by omega), w1c _ (hb42 k hk) (by omega) (by omega)]) h3
          have hokL : ∀ i, i < L8.length → okLin (lnD (fixL v2 0 L8) i) := fun i hi => by
            have h2 := y6.stp hi
            rw [fixL_get L8 0 i hi, Nat.zero_add]
            exact fix1_ok h2.1 h2.2 (liP_ok (kyT_ok _ _) 22 [] L8 _ x2 (fun q hq => by cases hq) _ (getD_mem2 hi))
          have h20 := y6.2.2.2.2.1.1
          have t169 : w2 169 = updF (w 169) f L8.length := by
            rw [y8.1 169 (by decide), wu_ne (by decide), y7.1 169 (by decide) (by decide) (by decide), wu_upM]
            unfold RdM
            rw [wu_ne (by decide), wu_ne (by decide), wu_ne (by decide), y5.1 169 (by decide) (by decide) (by decide) (by decide) (by decide), wu_ne (by decide), wu_ne (by decide), hk1 169 (by omega)]
          have tB : ∀ c, c = 170 ∨ c = 171 ∨ c = 172 ∨ c = 173 → (wu (RdM v2 0 (-1)) 169 f L8.length) c = w c := fun c hc => by
            unfold RdM
            rw [wu_ne (by omega), wu_ne (by omega), wu_ne (by omega), wu_ne (by omega), y5.1 c (by omega) (by omega) (by omega) (by omega) (by omega), wu_ne (by omega), wu_ne (by omega), hk1 c (by omega)]
          have hsp := y6.2.2.2.1
          refine ⟨y3.trans x1.symm, mkT ?_ ?_ ?_ ?_ ?_, (fun g => if g = f then b9 else s9 g), s9 f, (fun g => if g = f then fixL v2 0 L8 else LN9 g), ?_⟩
          · rw [gx 30 (by decide)]; exact p2
          · rw [y8.1 141 (by decide), wu_ne (by decide), y7.1 141 (by decide) (by decide) (by decide), wu_ne (by decide)]; unfold RdM; rw [wu_f (by decide), wu_f (by decide), wu_same]
          · rw [gx 35 (by decide), x6, y8.1 141 (by decide), wu_ne (by decide), y7.1 141 (by decide) (by decide) (by decide), wu_ne (by decide)]; unfold RdM; rw [wu_f (by decide), wu_same]
          · rw [gx 35 (by decide), x7, y8.1 141 (by decide), wu_ne (by decide), y7.1 141 (by decide) (by decide) (by decide), wu_ne (by decide)]; unfold RdM; rw [wu_same]
          · rw [y8.1 141 (by decide), wu_ne (by decide), y7.1 141 (by decide) (by decide) (by decide), wu_ne (by decide)]; unfold RdM; rw [wu_f (by decide), wu_f (by decide), wu_f (by decide)]; exact y6.1.1.2.2.2.2
          · refine ⟨⟨fun g g0 g1 => ?_, fun g g0 g1 => ?_⟩, fun g g0 g1 => ?_, ⟨hsS.1, fun g g0 g1 => ?_, fun g g' g0 g1 g0' g1' hne => ?_⟩, ?_⟩
            · dsimp only
              by_cases e : g = f
              · rw [if_pos e, gx 42 (by decide), x5, wu_ne (by decide), wu_ne (by decide), e, wu_same, gx b9 (by omega), w1c b9 (hb42 0 (by decide)) (by omega) (by omega), x4.2.2.1]
                exact ⟨hbS, rfl, by omega, by omega⟩
              · have hs := hL9.2.2.1.2.1 g g0 g1
                have hrs := hs.1.rng
                have hfr := hL9.2.2.1.far g0 g1
                have h0 := hL9.1.1 g g0 g1
                have hcell : w2 (s9 g) = w (s9 g) := by
                  rw [gx _ (by omega), w1c _ (by rcases hs.1 with q | q | q | q <;> omega) (by omega) (by omega), x3.1 (s9 g) (by omega) (by omega) (by omega) (by omega) (by omega) (hfr 0 0 (by decide) (by decide)) (hfr 0 1 (by decide) (by decide)) (hfr 0 2 (by decide) (by decide)) (hfr 0 3 (by decide) (by decide))]
                rw [if_neg e, hcell, gx 42 (by decide), x5, wu_ne (by decide), wu_ne (by decide), wu_at, if_neg e, x3.1 42 (by decide) (by decide) (by decide) (by decide) (by decide) hbS.n42.1.symm hbS.n42.2.1.symm hbS.n42.2.2.1.symm hbS.n42.2.2.2.symm]
                exact h0
            · dsimp only
              by_cases e : g = f
              · rw [if_pos e, if_pos e]
                refine ⟨?_, fun i hi => ?_⟩
                · rw [gx b9 (by omega), w1c b9 (hb42 0 (by decide)) (by omega) (by omega), x4.2.2.1, fixL_len]
                · rw [fixL_len] at hi
                  exact ⟨hln i hi, hokL i hi⟩
              · have hs := hL9.2.2.1.2.1 g g0 g1
                have hrs := hs.1.rng
                have hfr := hL9.2.2.1.far g0 g1
                have hcell : ∀ k : Nat, k ≤ 3 → w2 (s9 g + k) = w (s9 g + k) := fun k hk => by
                  rw [gx _ (by omega), w1c _ (by rcases hs.1 with q | q | q | q <;> omega) (by rcases hs.1 with q | q | q | q <;> omega) (by omega), x3.1 _ (by omega) (by omega) (by omega) (by omega) (by omega) (hfr k 0 hk (by decide)) (hfr k 1 hk (by decide)) (hfr k 2 hk (by decide)) (hfr k 3 hk (by decide))]
                have h0 := hL9.1.2 g g0 g1
                have hc0 : w2 (s9 g) = w (s9 g) := hcell 0 (by decide)
                rw [if_neg e, if_neg e, hc0]
                exact ⟨h0.1, fun i hi => ⟨lnX_cells hcell (h0.2 i hi).1, (h0.2 i hi).2⟩⟩
            · dsimp only
              by_cases e : g = f
              · rw [if_pos e, e, t169, fixL_len]
                refine ⟨by unfold updF; rw [if_pos rfl], h20, fun i hi => ⟨rules_lnM (by omega) y6 y7 y8 hi, hokL i hi⟩⟩
              · have h0 := hL9.2.1 g g0 g1
                rw [if_neg e, t169]
                refine ⟨by unfold updF; rw [if_neg e]; exact h0.1, h0.2.1, fun i hi => ⟨lnM_far (by omega) (fun j j0 j1 => ⟨?_, ?_⟩) (fun j j0 j1 => ?_) (fun j j0 j1 => ?_) (by omega) (h0.2.2 i hi).1, (h0.2.2 i hi).2⟩⟩
                · rw [y8.1 170 (by decide), wu_ne (by decide), y7.2.1, if_neg (by omega), tB 170 (by omega)]
                · rw [y8.1 172 (by decide), wu_ne (by decide), y7.2.2.2, if_neg (by omega), tB 172 (by omega)]
                · rw [y8.1 171 (by decide), wu_at, if_neg (by omega), y7.2.2.1, if_neg (by omega), tB 171 (by omega)]
                · have hl0 : ([] : List Int).length = 0 := rfl
                  rw [y8.2, if_neg (by omega), wu_ne (by decide), y7.1 173 (by decide) (by decide) (by decide), tB 173 (by omega)]
            · dsimp only
              by_cases e : g = f
              · rw [if_pos e]
                exact ⟨hbS, fun z => hsS.2 z.symm⟩
              · rw [if_neg e]
                exact ⟨(hL9.2.2.1.2.1 g g0 g1).1, hL9.2.2.1.2.2 g f g0 g1 hf3.1 hf3.2 e⟩
            · dsimp only
              by_cases e : g = f
              · rw [if_pos e, if_neg (fun z => hne (e.trans z.symm))]
                exact fun z => (hL9.2.2.1.2.1 g' g0' g1').2 z.symm
              · rw [if_neg e]
                by_cases e2 : g' = f
                · rw [if_pos e2]; exact (hL9.2.2.1.2.1 g g0 g1).2
                · rw [if_neg e2]; exact hL9.2.2.1.2.2 g g' g0 g1 g0' g1' hne
            · rw [gx 35 (by decide), x5, wu_ne (by decide), wu_same]

