/-! WORTH AND WEEKS, BOTH SIDES. -/
theorem inX_I {s : Int → Nat} {b : Nat} {LN : Int → List Lin} {w t : Wd} (h : GI s b LN w) (e : ∀ c, c < 141 → t c = w c) : InX t s LN := by
  obtain ⟨hR, hH, hC, hT, hL, -, -, -, -, -⟩ := h
  have h3 := hL.2.2.1
  refine ⟨hL.1.cells (e 42 (by decide)) (fun f f0 f1 k hk => e _ ?_), ?_⟩
  · have h9 := (h3.2.1 f f0 f1).1
    unfold IsSc at h9
    omega
  · rw [e 1 (by decide), e 15 (by decide), e 7 (by decide), e 11 (by decide), e 13 (by decide), e 12 (by decide)]
    exact ⟨hR.2.2.1.2.2, hH.2.1.2.2, fun j a b => by have h1 := hR.2.2.2.2.2.2.2.1 j a b; have h2 := hR.2.1.2; omega, hR.2.2.2.2.2.2.2.2.1, hR.2.2.2.2.2.2.2.2.2.1⟩
theorem inM_I {s : Int → Nat} {b : Nat} {LN : Int → List Lin} {w t : Wd} (h : GI s b LN w) (e : ∀ c, 141 ≤ c → t c = w c) : InM t LN := by
  obtain ⟨hR, hH, hC, hT, hL, -, -, -, -, -⟩ := h
  refine ⟨hL.2.1.cells (fun c hc => e c (by omega)), ?_⟩
  rw [e 141 (by decide), e 147 (by decide), e 151 (by decide), e 153 (by decide), e 152 (by decide), e 186 (by decide), hR.2.2.1.1, hH.2.1.1, hR.2.2.2.1.1, hR.2.2.2.2.1.2.2.2.2.2.1, hR.2.2.2.2.1.2.2.2.2.2.2.2.2.1, hR.2.2.2.2.1.2.2.2.2.2.2.2.2.2.1, hR.2.2.2.2.1.2.2.2.2.2.2.2.2.2.2.1]
  exact ⟨hR.2.2.1.2, hH.2.1.2, fun j a b => by have h1 := hR.2.2.2.2.2.2.2.1 j a b; have h2 := hR.2.1.2; omega, hR.2.2.2.2.2.2.2.2.1, hR.2.2.2.2.2.2.2.2.2.1, fun j j0 j1 => by
    have h1 := hC.2.2.2 (j / 12) (j % 12) (by omega) (by omega) (by omega) (by omega)
    rw [show 12 * (j / 12) + j % 12 = j by omega] at h1
    omega⟩
theorem needX_I {s : Int → Nat} {b : Nat} {LN : Int → List Lin} {w t : Wd} (h : GI s b LN w) (e : ∀ c, c < 141 → t c = w c) : NeedX t s LN := by
  refine ⟨inX_I h e, ?_⟩
  obtain ⟨hR, hH, hC, hT, hL, -, -, -, -, -⟩ := h
  have r0 := hR.1
  rw [e 15 (by decide), e 59 (by decide), e 17 (by decide), e 18 (by decide), e 19 (by decide), e 23 (by decide), e 20 (by decide), e 63 (by decide), e 28 (by decide), e 1 (by decide), e 8 (by decide)]
  have n15 := hH.1.2
  refine ⟨hH.1.2, hC.1.2, fun o o0 o1 j j0 j1 => ?_, fun h h0 h1 => ?_, hC.2.2.1, fun j j0 j1 => (hH.2.2.2.2.1 j j0 j1).2.2, fun j j0 j1 => ?_⟩
  · have n59 := hC.1.2
    rw [e (66 + Int.toNat o) (by omega)]
    exact (hC.2.2.2 o j o0 (by omega) j0 j1).2
  · have a := hH.2.2.2.1 h h0 h1
    have c := hH.2.2.2.2.2.2.2 h h0 (by omega)
    omega
  · have a := hR.2.2.2.2.2.2.2.2.2.2.1 j j0 j1
    omega
theorem needM_I {s : Int → Nat} {b : Nat} {LN : Int → List Lin} {w t : Wd} (h : GI s b LN w) (e : ∀ c, 141 ≤ c → t c = w c) : NeedM t LN := by
  refine ⟨inM_I h e, ?_⟩
  obtain ⟨hR, hH, hC, hT, hL, -, -, -, -, -⟩ := h
  have r0 := hR.1
  have n15 := hH.1.2
  rw [e 141 (by decide), e 156 (by decide), e 157 (by decide), e 158 (by decide), e 164 (by decide), e 163 (by decide), e 184 (by decide), e 167 (by decide), e 148 (by decide), hH.1.1, hC.1.1, hH.2.2.1.2.1, hH.2.2.1.2.2.1, hH.2.2.1.2.2.2.1, hH.2.2.1.2.2.2.2.2.2.2.1, hH.2.2.1.2.2.2.2.1, hC.2.1.2.2.2.1, hH.2.1.1, hH.2.2.1.2.2.2.2.2.2.2.2.2.2.1, hR.2.2.1.1, hR.2.2.2.2.1.2.2.2.2.2.2.1, hR.1.1]
  refine ⟨hH.1.2, hC.1.2, fun h h0 h1 => ?_, hC.2.2.1, fun j j0 j1 => (hH.2.2.2.2.1 j j0 j1).2.2, fun j j0 j1 => ?_, by omega, by omega⟩
  · have a := hH.2.2.2.1 h h0 h1
    have c := hH.2.2.2.2.2.2.2 h h0 (by omega)
    omega
  · have a := hR.2.2.2.2.2.2.2.2.2.2.1 j j0 j1
    omega
/-- the reference has a next week, whatever stands -/
theorem weekM_ex (v : Wd) (LN : Int → List Lin) (hn : 0 ≤ v 141 4 ∧ v 141 4 ≤ 16) : ∃ v', WeekM v v' LN := by
  obtain ⟨v1, e1⟩ : ∃ v1 : Wd, ∀ c, v1 c = if c = 188 then (fun j => wvM v LN (j / 16) (j % 16)) else v c := ⟨_, fun _ => rfl⟩
  obtain ⟨K, eK⟩ : ∃ K, K = WKM v1 (v 141 6).toNat := ⟨_, rfl⟩
  obtain ⟨v2, e2⟩ : ∃ v2 : Wd, ∀ c, v2 c = if c = 187 then (fun h => capM v1 h - K.1 h) else if c = 159 then K.1 else if c = 189 then (fun j => (K.2.getD j.toNat (0, 0)).1) else if c = 190 then (fun j => prM v1 (K.2.getD j.toNat (0, 0)).2) else if c = 141 then (fun j => if j = 75 then (K.2.length : Int) else v1 141 j) else v1 c := ⟨_, fun _ => rfl⟩
  obtain ⟨v3, e3⟩ : ∃ v3 : Wd, ∀ c, v3 c = if c = 160 then (fun h => if 0 ≤ h ∧ h < v 141 4 then v2 159 h * v2 157 h else v2 160 h) else if c = 164 then (fun h => if 0 ≤ h ∧ h < v 141 4 then v2 164 h + v2 159 h else v2 164 h) else if c = 163 then (fun h => if 0 ≤ h ∧ h < v 141 4 then acM v2 LN (v2 159) h else v2 163 h) else if c = 191 then (fun h => if 0 ≤ h ∧ h < v 141 4 then ruM v2 LN h else v2 191 h) else v2 c := ⟨_, fun _ => rfl⟩
  obtain ⟨v4, e4⟩ : ∃ v4 : Wd, ∀ c, v4 c = if c = 186 then (fun i => hdM v3 (prL v1 K.2) K.2.length (i / 12) (i % 12)) else v3 c := ⟨_, fun _ => rfl⟩
  obtain ⟨v5, e5⟩ : ∃ v5 : Wd, ∀ c, v5 c = if c = 148 then weM v4 (v 141 4).toNat else if c = 141 then (fun j => if j = 0 then v 141 0 + 1 else v4 141 j) else v4 c := ⟨_, fun _ => rfl⟩
  refine ⟨v5, v1, v2, v3, v4, ⟨⟨fun c _ _ _ a => by rw [e1, if_neg a], fun j _ => by rw [e1, if_neg (by decide)]⟩, fun c1 h1 c0 h0 hl _ => ?_⟩, ⟨⟨fun c a b d f g => by rw [e2, if_neg a, if_neg b, if_neg d, if_neg f, if_neg g], fun j hj => ?_⟩, fun z => ⟨?_, fun h h0 h1 => ?_, ?_, fun j hj => ⟨?_, ?_⟩⟩⟩, ⟨fun c a b d f g i k => by rw [e3, if_neg f, if_neg i, if_neg g, if_neg k], fun j _ => by rw [e3, if_neg (by decide), if_neg (by decide), if_neg (by decide), if_neg (by decide)], ?_, ?_, ?_, ?_⟩, ⟨fun a ha => by rw [e4, if_neg ha], fun o j o0 o1 j0 j1 => ?_⟩, fun k a b => by rw [e5, if_neg a, if_neg b], ?_, ?_, fun j hj => ?_⟩
  · rw [e1, if_pos rfl]
    show wvM v LN ((16 * c1 + h1) / 16) ((16 * c1 + h1) % 16) = _
    rw [show (16 * c1 + h1) / 16 = c1 by omega, show (16 * c1 + h1) % 16 = h1 by omega]
  · rw [e2, if_neg (by decide), if_neg (by decide), if_neg (by decide), if_neg (by decide), if_pos rfl]
    exact if_neg hj
  · rw [e2, if_neg (by decide), if_pos rfl, eK]
  · rw [e2, if_pos rfl, eK]
  · rw [e2, if_neg (by decide), if_neg (by decide), if_neg (by decide), if_neg (by decide), if_pos rfl, eK]
    exact if_pos rfl
  · rw [e2, if_neg (by decide), if_neg (by decide), if_pos rfl, eK]
    rfl
  · rw [e2, if_neg (by decide), if_neg (by decide), if_neg (by decide), if_pos rfl, eK]
    rfl
  · rw [e3, if_pos rfl]
  · rw [e3, if_neg (by decide), if_pos rfl]
  · rw [e3, if_neg (by decide), if_neg (by decide), if_pos rfl]
  · rw [e3, if_neg (by decide), if_neg (by decide), if_neg (by decide), if_pos rfl]
  · rw [e4, if_pos rfl, ← eK]
    show hdM v3 (prL v1 K.2) K.2.length ((12 * o + j) / 12) ((12 * o + j) % 12) = _
    rw [show (12 * o + j) / 12 = o by omega, show (12 * o + j) % 12 = j by omega]
  · rw [e5, if_pos rfl]
  · rw [e5, if_neg (by decide), if_pos rfl]
    exact if_pos rfl
  · rw [e5, if_neg (by decide), if_pos rfl]
    exact if_neg hj
/-- a chain of weeks, week by week -/
theorem WksX.chain {LN : Int → List Lin} {w : Wd} : ∀ {n : Nat} {v : Wd}, WksX LN w n v → ∃ U : Nat → Wd, U 0 = w ∧ U n = v ∧ ∀ k, k < n → ∃ u', WeekX (U k) u' LN (U k 0 10) ∧ U (k + 1) = wu u' 0 10 (u' 0 10 + 1)
  | 0, v, h => ⟨fun _ => w, rfl, h.symm, fun k hk => absurd hk (Nat.not_lt_zero k)⟩
  | n + 1, v, h => by
    obtain ⟨u, u', h1, h2, h3⟩ := h
    obtain ⟨U, a, b, c⟩ := WksX.chain h1
    obtain ⟨X, eX⟩ : ∃ X : Nat → Wd, ∀ k, X k = if k ≤ n then U k else v := ⟨_, fun _ => rfl⟩
    refine ⟨X, by rw [eX, if_pos (Nat.zero_le n)]; exact a, by rw [eX, if_neg (by omega)], fun k hk => ?_⟩
    by_cases e : k < n
    · rw [eX k, eX (k + 1), if_pos (by omega), if_pos (by omega)]
      exact c k e
    · have e2 : k = n := by omega
      rw [eX k, eX (k + 1), if_pos (by omega), if_neg (by omega), e2, b]
      exact ⟨u', h2, h3⟩
theorem WeekM.lo {v v' : Wd} {LN : Int → List Lin} (h : WeekM v v' LN) : ∀ c, c < 141 → v' c = v c := by
  obtain ⟨v1, v2, v3, v4, ⟨hq, -⟩, ⟨hs, -⟩, hA, hWd, hk, -⟩ := h
  intro c hc
  rw [hk c (by omega) (by omega), hWd.1 c (by omega), hA.1 c (by omega) (by omega) (by omega) (by omega) (by omega) (by omega) (by omega), hs.1 c (by omega) (by omega) (by omega) (by omega) (by omega), hq.1 c (by omega) (by omega) (by omega) (by omega)]
theorem WeekX.hi {u u' : Wd} {LN : Int → List Lin} {k : Int} (h : WeekX u u' LN k) : ∀ c, 141 ≤ c → u' c = u c := by
  obtain ⟨u1, u2, u3, ⟨⟨hq, -, -⟩, -⟩, ⟨hs, -⟩, hA, hSp⟩ := h
  intro c hc
  rw [hSp.1 c (by omega), hA.1 c (by omega) (by omega) (by omega) (by omega), hs.1 c (by omega) (by omega) (by omega) (by omega), hq.1 c (by unfold kQ; omega)]
theorem op_worth (c h9 : Int) {w : Wd} (h : GAl w) : OpI mX11_worth mX12_worth [(2, 0), (0, c), (0, h9)] [(2, 141), (0, c), (0, h9)] w := by
  obtain ⟨s9, b9, LN9, hg9⟩ := h
  have hgg := hg9
  obtain ⟨hR9, hH9, hC9, hT9, hL9, hV9, hP9, hN9, hO9, hK9⟩ := hg9
  have n15 := hH9.1.2
  have n59 := hC9.1.2
  refine ⟨_, CallN.deep (x_worth c h9 w s9 LN9 (inX_I hgg (fun _ _ => rfl)) n59.2 n15.2 (fun c c0 c1 j j0 j1 => (hC9.2.2.2 c j c0 (by omega) j0 j1).2)) (by decide), fun z w1 hJ => ?_⟩
  have hfi : FrI w w1 := by
    rcases hJ with y | y
    · exact y.2.1
    · rw [y.2.1]; exact FrI.rf
  have hf : ∀ c, c ∉ [41, 43, 40, 48, 53, 58, 82, 83, 84, 85] → w1 c = w c := fun c hc => hfi.1 c (fun z => hc (by rw [z]; decide)) (fun z => hc (by rw [z]; decide)) (fun z => hc (by rw [z]; decide)) (fun z => hc (by rw [z]; decide)) (fun z => hc (by rw [z]; decide)) (fun z => hc (by rw [z]; decide)) (fun z => hc (by rw [z]; decide)) (fun z => hc (by rw [z]; decide)) (fun z => hc (by rw [z]; decide)) (fun z => hc (by rw [z]; decide))
  have ha : Agw cGI fGI rGI w w1 := Agw.of [41, 43, 40, 48, 53, 58, 82, 83, 84, 85] hf (by decide) (fun p hp => Or.inl (by revert p; decide)) (by decide)
  have hg8 : GI s9 b9 LN9 w1 := hgg.fr ha
  have hg7 := hg8
  obtain ⟨hR8, hH8, hC8, hT8, hL8, hV8, hP8, hN8, hO8, hK8⟩ := hg8
  have hm9 := m_worth c h9 w1 LN9 (inM_I hg7 (fun _ _ => rfl)) (by rw [hC8.1.1]; exact hC8.1.2) (by rw [hH8.1.1]; exact hH8.1.2)
  refine CallN.deep (hm9.conseq (fun r w2 hq => ?_)) (by decide)
  obtain ⟨z2, hr9, hq⟩ := hq
  have hfm : FrM3 w1 w2 := by
    rcases hq with y | y
    · exact y.2.1
    · rw [y.2.1]; exact FrM3.rf
  refine ⟨z2, hr9, ?_, s9, b9, LN9, hg7.fr (Agw.of [141, 179, 180] (fun c hc => hfm.1 c (fun z => hc (by rw [z]; decide)) (fun z => hc (by rw [z]; decide)) (fun z => hc (by rw [z]; decide))) (by decide) (fun p hp => by
      by_cases e : p.1 = 141
      · refine Or.inr ?_
        rw [e]
        exact hfm.2 p.2 (by revert p; decide)
      · exact Or.inl (by revert p; decide)) (by decide))⟩
  have k15 : w1 15 10 = w 15 10 := by rw [hf 15 (by decide)]
  have k59 : w1 59 9 = w 59 9 := by rw [hf 59 (by decide)]
  rw [hC8.1.1, hH8.1.1, k15, k59] at hq
  rcases hJ with y | y <;> rcases hq with x | x
  · rw [x.2.2, y.2.2]
    have hh := y.1
    rw [wv_eq hg7 hh.1.1 (by omega) hh.2.1 (by omega)]
    have hw9 := halls_q (FrQ.rf.i hfi) LN9 h9 (w1 0 10)
    unfold wvX
    rw [hw9.1, hw9.2.1, hf 0 (by decide), hf 60 (by decide), hf 16 (by decide), hf 18 (by decide), hf 64 (by decide), hf 25 (by decide), hf 1 (by decide), hf 7 (by decide), hf 3 (by decide), hf 61 (by decide), hf 4 (by decide), hf 62 (by decide), hfi.k (c := 66 + Int.toNat c) (by unfold keepI; omega)]
  · exact absurd y.1 x.1
  · exact absurd x.1 y.1
  · rw [x.2.2, y.2.2]
theorem op_weeks (n : Int) {w : Wd} (h : GAl w) : OpI mX11_weeks mX12_weeks [(2, 0), (0, n)] [(2, 141), (0, n)] w := by
  obtain ⟨s9, b9, LN9, hgg⟩ := h
  have hR9 := hgg.1
  have hA9 := hR9.1
  refine ⟨_, CallN.deep (x_weeks2 n w s9 LN9 (fun k t => (∀ c, 141 ≤ c → t c = w c) ∧ t 0 10 = w 0 10 + k ∧ ∃ V, GI s9 b9 LN9 (mix t V)) ⟨fun _ _ => rfl, by omega, w, by rw [mix_id (fun _ _ => rfl)]; exact hgg⟩ (fun k u hu => ?_) (fun k u u1 hok hk hu hW => ?_) hA9.2) (by decide), fun z w1 hJ => ?_⟩
  · obtain ⟨-, -, V, hV⟩ := hu
    exact needX_I hV (fun c hc => (mixL hc).symm)
  · obtain ⟨hu1, hu2, V, hV⟩ := hu
    have n15 : 0 ≤ V 141 4 ∧ V 141 4 ≤ 16 := by
      have e : V 141 4 = u 15 10 := hV.2.1.1.1
      have e2 : 0 ≤ u 15 10 ∧ u 15 10 ≤ 16 := hV.2.1.1.2
      rw [e]; exact e2
    obtain ⟨V2, hV2⟩ := weekM_ex V LN9 n15
    have e9 := hW.now
    refine ⟨fun c hc => ?_, by rw [wu_same, e9, hu2]; omega, V2, wk_step hV (by rw [hu2]; omega) hW hV2⟩
    rw [wu_ne (by omega), hW.hi c hc]
    exact hu1 c hc
  rcases hJ with ⟨hok, hz, hv, hch⟩ | ⟨hno, hz, hw1⟩
  · obtain ⟨U, U0, Un, hU⟩ := WksX.chain hch
    have e141 : w1 141 0 = w 0 10 := by rw [hv.1 141 (by decide)]; exact hA9.1
    have hm9 := m_weeks2 n w1 LN9 (fun k v => (∀ c, c < 141 → v c = w1 c) ∧ U k 0 10 = w 0 10 + k ∧ GI s9 b9 LN9 (mix (U k) v)) ⟨fun _ _ => rfl, by rw [U0]; omega, by
        have e : mix (U 0) w1 = w := by
          rw [U0]
          funext c
          by_cases e : c < 141
          · exact mixL e
          · rw [mixR (by omega)]; exact hv.1 c (by omega)
        rw [e]
        exact hgg⟩ (fun k v hI => needM_I hI.2.2 (fun c hc => (mixR hc).symm)) (fun k v v1 hok2 hk hI hW => by
        obtain ⟨u', hW1, hU1⟩ := hU k hk
        have e9 := hW1.now
        refine ⟨fun c hc => (hW.lo c hc).trans (hI.1 c hc), ?_, ?_⟩
        · rw [hU1, wu_same, e9, hI.2.1]; omega
        · rw [hU1]
          exact wk_step hI.2.2 (by rw [hI.2.1]; omega) hW1 hW) (by rw [e141]; exact hA9.2)
    refine CallN.deep (hm9.conseq (fun r w2 hq => ?_)) (by decide)
    obtain ⟨z2, hr9, hq⟩ := hq
    rw [e141] at hq
    rcases hq with ⟨-, hz2, hI⟩ | ⟨hno, -, -⟩
    · refine ⟨z2, hr9, by rw [hz2, hz], s9, b9, LN9, ?_⟩
      have e := hI.2.2
      rw [Un, mix_id hI.1] at e
      exact e
    · exact absurd hok hno
  · rw [hw1]
    have hm9 := m_weeks2 n w LN9 (fun k v => GI s9 b9 LN9 v) hgg (fun k v hI => needM_I hI (fun _ _ => rfl)) (fun k v v1 hok2 hk hI hW => absurd (by rw [← hA9.1]; exact hok2) hno) (by rw [hA9.1]; exact hA9.2)
    refine CallN.deep (hm9.conseq (fun r w2 hq => ?_)) (by decide)
    obtain ⟨z2, hr9, hq⟩ := hq
    rcases hq with ⟨hok, -, -⟩ | ⟨-, hz2, hw2⟩
    · exact absurd (by rw [← hA9.1]; exact hok) hno
    · exact ⟨z2, hr9, by rw [hz2, hz], s9, b9, LN9, by rw [hw2]; exact hgg⟩

