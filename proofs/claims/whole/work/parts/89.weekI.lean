/-! WORTH; A WEEK KEEPS THE INVARIANT. -/
theorem halls_I {w : Wd} {LN : Int → List Lin} (hR : GR w) (hH : GH w) {i : Int} (i0 : 0 ≤ i) (i1 : i < w 15 10) : (prM w i = w 25 i ∧ seM w i = w 24 i) ∧ jM w LN i = jX w LN i (w 0 10) ∧ ruM w LN i = ruX w LN i (w 0 10) ∧ (w 25 i = -1 ∨ (0 ≤ w 25 i ∧ w 25 i < w 1 9)) ∧ (w 24 i = -1 ∨ (0 ≤ w 24 i ∧ w 24 i < w 15 15)) := by
  have e1 : prM w i = w 25 i := by
    unfold prM
    rw [hH.2.2.1.2.2.2.2.2.2.2.2.2.2.2.2, hR.2.2.1.1]
    exact hH.2.2.2.2.2.2.1.fst i0 i1 hR.2.2.1.2.1
  have e2 : seM w i = w 24 i := by
    unfold seM
    rw [hH.2.2.1.2.2.2.2.2.2.2.2.2.2.2.1, hH.2.1.1]
    exact hH.2.2.2.2.2.1.fst i0 i1 hH.2.1.2.1
  have e3 : jM w LN i = jX w LN i (w 0 10) := by
    unfold jM jX
    rw [e1, fc_M hR hH i0 i1]
  have e5 : w 25 i = -1 ∨ (0 ≤ w 25 i ∧ w 25 i < w 1 9) := (hH.2.2.2.2.2.2.1.2 i i0 i1).elim Or.inl (fun z => Or.inr z.1)
  have e6 : w 24 i = -1 ∨ (0 ≤ w 24 i ∧ w 24 i < w 15 15) := (hH.2.2.2.2.2.1.2 i i0 i1).elim Or.inl (fun z => Or.inr z.1)
  refine ⟨⟨e1, e2⟩, e3, ?_, e5, e6⟩
  unfold ruM ruX
  rw [e1, e3]
  rcases e5 with q | q
  · rw [if_pos q, if_neg (by omega)]
  · rw [if_neg (by omega), if_pos q, wh_M hR hH q.1 q.2 i0 i1]
theorem off_I {w : Wd} (hR : GR w) (q k : Int) : offMw w q k = offXw w q k := by
  unfold offMw offXw
  rw [hR.2.2.2.2.1.2.2.2.1, hR.2.2.2.2.1.2.2.2.2.2.1, hR.2.2.2.2.1.2.2.2.2.2.2.2.1, hR.2.2.2.2.1.2.2.2.2.2.2.2.2.1, hR.2.2.2.2.1.2.2.2.2.2.2.2.2.2.1, hR.2.2.2.2.1.2.2.2.2.2.2.2.2.2.2.1, hR.2.2.2.2.1.2.2.2.2.2.2.2.2.2.2.2, hR.2.2.2.1.1]
  exact (off_eq (fun j a b => (hR.2.2.2.2.2.2.2.2.2.1 j a b).1)).symm
theorem of_I {w : Wd} (hR : GR w) {i : Int} (h : 0 ≤ w 25 i ∧ w 25 i < w 1 9) : (ofX w i (w 0 10) = 0 ↔ offMw w (w 25 i) (w 141 0) = -1) := by
  unfold ofX
  rw [if_pos h, off_I hR, hR.1.1]
  by_cases g : offXw w (w 25 i) (w 0 10) = -1
  · rw [if_pos g]; exact ⟨fun _ => g, fun _ => rfl⟩
  · rw [if_neg g]; exact ⟨fun z => absurd z (by decide), fun z => absurd z g⟩
theorem wv_eq {s : Int → Nat} {b : Nat} {LN : Int → List Lin} {w : Wd} (h : GI s b LN w) {c i : Int} (c0 : 0 ≤ c) (c1 : c < 16) (i0 : 0 ≤ i) (i1 : i < w 15 10) : wvM w LN c i = wvX w LN c i (w 0 10) := by
  obtain ⟨hR, hH, hC, -, -, -, -, -, -, -⟩ := h
  obtain ⟨⟨e1, -⟩, e3, e4, e5, -⟩ := halls_I (LN := LN) hR hH i0 i1
  have hru : ruM w LN i = ruX w LN i (w 0 10) := e4
  unfold wvM wvX
  rw [e1]
  rcases e5 with q | q
  · rw [if_pos (Or.inl q), if_neg (fun z => by omega)]
  · have hp := hR.2.2.2.2.2.2.2.1 _ q.1 q.2
    have hp2 := hR.2.1.2
    have hwh : whV w (w 25 i) i (jM w LN i).1 = 0 ↔ ruX w LN i (w 0 10) = 1 := by
      rw [← hru]
      unfold ruM
      rw [e1, if_neg (show ¬ w 25 i = -1 by omega)]
      by_cases g : whV w (w 25 i) i (jM w LN i).1 = 0
      · rw [if_pos g]; exact ⟨fun _ => rfl, fun _ => g⟩
      · rw [if_neg g]; exact ⟨fun z => absurd z g, fun z => absurd z (by decide)⟩
    have hof := of_I hR q
    have ho1 := ofX_01 (w := w) (h := i) (now := w 0 10)
    have h186 := (hC.2.2.2 c (w 7 (w 25 i)) c0 c1 hp.1 (by omega)).1
    rw [hH.2.2.1.1, hC.2.1.1, hC.2.1.2.2.2.2, hH.2.2.1.2.2.1, hR.2.2.2.2.1.2.1, hR.2.2.2.2.1.2.2.2.2.2.1, hC.2.1.2.1, hR.2.2.2.2.1.2.2.1, hC.2.1.2.2.1, h186]
    by_cases g : ruX w LN i (w 0 10) = 1 ∧ w 60 c = w 16 i ∧ w 18 i ≤ w 64 c
    · rw [if_neg (show ¬ (w 25 i = -1 ∨ w 16 i ≠ w 60 c ∨ w 64 c < w 18 i ∨ whV w (w 25 i) i (jM w LN i).1 ≠ 0) from fun z => by
        rcases z with z | z | z | z
        · omega
        · exact z g.2.1.symm
        · omega
        · exact z (hwh.mpr g.1)), if_pos (show (ruX w LN i (w 0 10) = 1 ∧ w 60 c = w 16 i ∧ w 18 i ≤ w 64 c) ∧ (0 ≤ w 25 i ∧ w 25 i < w 1 9) from ⟨g, q⟩)]
      have e9 : (if offMw w (w 25 i) (w 141 0) = -1 then (0 : Int) else 4) = if ofX w i (w 0 10) = 1 then 4 else 0 := by
        by_cases z : ofX w i (w 0 10) = 0
        · rw [if_pos (hof.mp z), if_neg (by omega)]
        · rw [if_neg (fun y => z (hof.mpr y)), if_pos (by omega)]
      rw [e9]
      generalize (if ofX w i (w 0 10) = 1 then (4 : Int) else 0) = y1
      generalize (if w 4 (w 7 (w 25 i)) = w 62 c then (3 : Int) else 0) = y2
      generalize (if w 3 (w 7 (w 25 i)) = w 61 c then (4 : Int) else if w 3 (w 7 (w 25 i)) = 5 then 2 else 0) = y3
      omega
    · have hz : w 25 i = -1 ∨ w 16 i ≠ w 60 c ∨ w 64 c < w 18 i ∨ whV w (w 25 i) i (jM w LN i).1 ≠ 0 := by
        by_cases z1 : w 16 i = w 60 c
        · by_cases z2 : w 64 c < w 18 i
          · exact Or.inr (Or.inr (Or.inl z2))
          · exact Or.inr (Or.inr (Or.inr (fun z3 => g ⟨hwh.mp z3, z1.symm, by omega⟩)))
        · exact Or.inr (Or.inl z1)
      rw [if_pos hz, if_neg (show ¬ ((ruX w LN i (w 0 10) = 1 ∧ w 60 c = w 16 i ∧ w 18 i ≤ w 64 c) ∧ (0 ≤ w 25 i ∧ w 25 i < w 1 9)) from fun z => g z.1)]
/-- the class's cells of one world, the reference's of another -/
def mix (u v : Wd) : Wd := fun c => if c < 141 then u c else v c
theorem mixL {u v : Wd} {c : Nat} (h : c < 141) : mix u v c = u c := if_pos h
theorem mixR {u v : Wd} {c : Nat} (h : 141 ≤ c) : mix u v c = v c := if_neg (by omega)
theorem mix_id {u v : Wd} (h : ∀ c, c < 141 → v c = u c) : mix u v = v := by
  funext c
  by_cases e : c < 141
  · rw [mixL e, h c e]
  · rw [mixR (by omega)]
theorem mix_m (u v : Wd) (LN : Int → List Lin) : (∀ h, prM (mix u v) h = prM v h) ∧ (∀ h, seM (mix u v) h = seM v h) ∧ (∀ h, jM (mix u v) LN h = jM v LN h) ∧ (∀ h, ruM (mix u v) LN h = ruM v LN h) ∧ (∀ q k, offMw (mix u v) q k = offMw v q k) ∧ ∀ c h, wvM (mix u v) LN c h = wvM v LN c h := ⟨fun _ => rfl, fun _ => rfl, fun _ => rfl, fun _ => rfl, fun _ _ => rfl, fun _ _ => rfl⟩
theorem mix_x (u v : Wd) (LN : Int → List Lin) : (∀ h k, jX (mix u v) LN h k = jX u LN h k) ∧ (∀ h k, ruX (mix u v) LN h k = ruX u LN h k) ∧ (∀ h k, ofX (mix u v) h k = ofX u h k) ∧ (∀ h k, feX (mix u v) LN h k = feX u LN h k) ∧ ∀ h k, keX (mix u v) LN h k = keX u LN h k := ⟨fun _ _ => rfl, fun _ _ => rfl, fun _ _ => rfl, fun _ _ => rfl, fun _ _ => rfl⟩
theorem mix_w (u v : Wd) (LN : Int → List Lin) {c : Int} (c1 : c < 16) (h k : Int) : wvX (mix u v) LN c h k = wvX u LN c h k := by
  have e := mixL (u := u) (v := v) (show 66 + Int.toNat c < 141 by omega)
  unfold wvX
  rw [e]
  rfl
def xWk : List Nat := [0, 8, 20, 21, 22, 23, 40, 41, 43, 48, 53, 58, 59, 66, 67, 68, 69, 70, 71, 72, 73, 74, 75, 76, 77, 78, 79, 80, 81, 82, 83, 84, 85, 86, 87, 141, 148, 159, 160, 163, 164, 179, 180, 186, 187, 188, 189, 190, 191]
abbrev cWk : List Nat := cGI.filter (fun c => !(xWk.contains c))
abbrev fWk : List (Nat × Int) := fGI.filter (fun q => !(q == (0, 10)) && !(q == (141, 0)))
abbrev rWk : List (Nat × Nat) := [(91, 9), (111, 20), (137, 3)]
set_option maxRecDepth 100000 in
theorem wk_fr {u u' v v' : Wd} {LN : Int → List Lin} {W W2 : Int → Int → Int} {K K2 : (Int → Int) × List (Int × Int)} (hX : XSp u u' LN W K) (hM : MSp v v' LN W2 K2) (z : Int) : (∀ c, c ∉ xWk → mix (wu u' 0 10 z) v' c = mix u v c) ∧ Agw cWk fWk rWk (mix u v) (mix (wu u' 0 10 z) v') := by
  have hf : ∀ c, c ∉ xWk → mix (wu u' 0 10 z) v' c = mix u v c := fun c hc => by
    by_cases e : c < 141
    · have n1 : ∀ k, k ∈ xWk → c ≠ k := fun k hk e2 => hc (by rw [e2]; exact hk)
      rw [mixL e, mixL e, wu_ne (n1 0 (by decide))]
      refine hX.2.2.1 c ?_ (n1 8 (by decide)) (n1 20 (by decide)) (n1 22 (by decide)) (n1 23 (by decide)) (fun h => ?_)
      · unfold kQ
        exact ⟨n1 41 (by decide), n1 43 (by decide), n1 40 (by decide), n1 48 (by decide), n1 53 (by decide), n1 58 (by decide), n1 82 (by decide), n1 83 (by decide), n1 84 (by decide), n1 85 (by decide), n1 21 (by decide), n1 59 (by decide), n1 86 (by decide), n1 87 (by decide)⟩
      · have h66 := n1 66 (by decide)
        have h67 := n1 67 (by decide)
        have h68 := n1 68 (by decide)
        have h69 := n1 69 (by decide)
        have h70 := n1 70 (by decide)
        have h71 := n1 71 (by decide)
        have h72 := n1 72 (by decide)
        have h73 := n1 73 (by decide)
        have h74 := n1 74 (by decide)
        have h75 := n1 75 (by decide)
        have h76 := n1 76 (by decide)
        have h77 := n1 77 (by decide)
        have h78 := n1 78 (by decide)
        have h79 := n1 79 (by decide)
        have h80 := n1 80 (by decide)
        have h81 := n1 81 (by decide)
        omega
    · have n1 : ∀ k, k ∈ xWk → c ≠ k := fun k hk e2 => hc (by rw [e2]; exact hk)
      rw [mixR (by omega), mixR (by omega)]
      refine hM.2.2.1 c ?_ (n1 186 (by decide)) (n1 148 (by decide))
      unfold kV
      exact ⟨n1 141 (by decide), n1 179 (by decide), n1 180 (by decide), n1 188 (by decide), n1 187 (by decide), n1 159 (by decide), n1 189 (by decide), n1 190 (by decide), n1 160 (by decide), n1 163 (by decide), n1 164 (by decide), n1 191 (by decide)⟩
  have f59 : ∀ j : Int, j ≠ 16 → mix (wu u' 0 10 z) v' 59 j = mix u v 59 j := fun j hj => by
    rw [mixL (by decide), mixL (by decide), wu_ne (by decide)]
    exact hX.2.2.2.1 j hj
  have f141 : ∀ j : Int, jV j → j ≠ 0 → mix (wu u' 0 10 z) v' 141 j = mix u v 141 j := fun j a b => by
    rw [mixR (by decide), mixR (by decide)]
    exact hM.2.2.2.1.2 j a b
  refine ⟨hf, Agw.of xWk hf (by decide) (fun q hq => ?_) (by decide)⟩
  by_cases e : q.1 = 59
  · refine Or.inr ?_
    rw [e]
    exact f59 q.2 (by revert q; decide)
  · by_cases e2 : q.1 = 141
    · refine Or.inr ?_
      rw [e2]
      exact f141 q.2 (by unfold jV; revert q; decide) (by revert q; decide)
    · exact Or.inl (by revert q; decide)

set_option maxRecDepth 100000 in
set_option maxHeartbeats 4000000 in
theorem wk_step {s : Int → Nat} {b : Nat} {LN : Int → List Lin} {u u' v v' : Wd} (h : GI s b LN (mix u v)) (hnw : u 0 10 + 1 ≤ 199) (hx : WeekX u u' LN (u 0 10)) (hm : WeekM v v' LN) : GI s b LN (mix (wu u' 0 10 (u' 0 10 + 1)) v') := by
  have hg := h
  obtain ⟨hR, hH, hC, hT, hL, hV, hP, hN, hO, hK⟩ := h
  have now9 := hx.now
  have n15 : 0 ≤ u 15 10 ∧ u 15 10 ≤ 16 := hH.1.2
  have n59 : 0 ≤ u 59 9 ∧ u 59 9 ≤ 16 := hC.1.2
  have m15 : v 141 4 = u 15 10 := hH.1.1
  have m59 : v 141 6 = u 59 9 := hC.1.1
  obtain ⟨W, K, hX⟩ := WeekX.spec hx n15 n59
  obtain ⟨W2, K2, hM⟩ := WeekM.spec hm (by rw [m15]; exact n15) (by rw [m59]; exact n59)
  obtain ⟨hf, ha⟩ := wk_fr hX hM (u' 0 10 + 1)
  obtain ⟨xW, xK, -, -, x21, x22, x23, x20, x8, x66⟩ := hX
  obtain ⟨mW, mK, -, ⟨m0, -⟩, m159, m160, m164, m163, m148, m186⟩ := hM
  have p17 : v 156 = u 17 := hH.2.2.1.2.1
  have p18 : v 157 = u 18 := hH.2.2.1.2.2.1
  have p19 : v 158 = u 19 := hH.2.2.1.2.2.2.1
  have p20 : v 163 = u 20 := hH.2.2.1.2.2.2.2.1
  have p21 : v 159 = u 21 := hH.2.2.1.2.2.2.2.2.1
  have p22 : v 160 = u 22 := hH.2.2.1.2.2.2.2.2.2.1
  have p23 : v 164 = u 23 := hH.2.2.1.2.2.2.2.2.2.2.1
  have p28 : v 167 = u 28 := hH.2.2.1.2.2.2.2.2.2.2.2.2.2.1
  have p63 : v 184 = u 63 := hC.2.1.2.2.2.1
  have q8 : v 148 = u 8 := hR.2.2.2.2.1.2.2.2.2.2.2.1
  have qnow : v 141 0 = u 0 10 := hR.1.1
  have wW : ∀ c i, 0 ≤ c → c < 16 → 0 ≤ i → i < u 15 10 → wvM v LN c i = wvX u LN c i (u 0 10) := fun c i c0 c1 i0 i1 => by
    have e := wv_eq hg c0 c1 i0 i1
    rw [(mix_m u v LN).2.2.2.2.2, mix_w u v LN c1] at e
    exact e
  have hKK : K2 = K := by
    rw [mK, xK, m15, m59, p18, p63, p21]
    have ec : capM v = capX u := by unfold capM capX; rw [p17]
    rw [ec]
    refine wkG_c _ (fun c i c0 c1 i0 i1 => ?_)
    rw [mW c i c0 (by omega) i0 (by omega), xW c i c0 (by omega) i0 (by omega)]
    exact wW c i c0 (by omega) i0 (by omega)
  rw [hKK] at m159 m160 m164 m163 m186
  -- halls
  have hal : ∀ i, 0 ≤ i → i < u 15 10 → (prM v i = u 25 i ∧ seM v i = u 24 i) ∧ jM v LN i = jX u LN i (u 0 10) ∧ ruM v LN i = ruX u LN i (u 0 10) ∧ (u 25 i = -1 ∨ (0 ≤ u 25 i ∧ u 25 i < u 1 9)) ∧ (u 24 i = -1 ∨ (0 ≤ u 24 i ∧ u 24 i < u 15 15)) := fun i i0 i1 => by
    have e := halls_I (LN := LN) hR hH i0 i1
    rw [(mix_m u v LN).1, (mix_m u v LN).2.1, (mix_m u v LN).2.2.1, (mix_m u v LN).2.2.2.1, (mix_x u v LN).1, (mix_x u v LN).2.1] at e
    exact e
  have hbd : ∀ i, 0 ≤ i → i < u 15 10 → (10 ≤ u 17 i ∧ u 17 i ≤ 999) ∧ (1 ≤ u 18 i ∧ u 18 i ≤ 99) ∧ (0 ≤ u 19 i ∧ u 19 i ≤ 40) := fun i i0 i1 => (hH.2.2.2.1 i i0 i1).2
  have hmy : ∀ c, 0 ≤ c → c < u 59 9 → 0 ≤ u 63 c ∧ u 63 c ≤ 9999 := hC.2.2.1
  have hKb : ∀ i, 0 ≤ i → i < u 15 10 → 0 ≤ K.1 i ∧ K.1 i ≤ 7 * u 17 i := fun i i0 i1 => by
    rw [xK]
    refine (wkG_bd (fun j j0 j1 => ?_) _ (fun c c0 c1 => hmy c c0 (by omega))).1 i i0 (by omega)
    unfold zeF
    rw [if_pos ⟨j0, by omega⟩]
    have := hbd j j0 (by omega)
    show (0 : Int) ≤ 0 ∧ 0 ≤ 7 * u 17 j
    omega
  have hKz : ∀ i, 0 ≤ i → i < u 15 10 → ruX u LN i (u 0 10) = 0 → K.1 i = 0 := fun i i0 i1 e => by
    rw [xK, wkG_z _ (fun c c0 c1 z => ?_)]
    · unfold zeF; rw [if_pos ⟨i0, i1⟩]
    · rw [xW c i c0 (by omega) i0 i1] at z
      have := (wvX_p z).1
      omega
  have hgo : ∀ q ∈ K.2, ((0 ≤ q.1 ∧ q.1 < u 59 9) ∧ (0 ≤ q.2 ∧ q.2 < u 15 10)) ∧ (0 ≤ u 25 q.2 ∧ u 25 q.2 < u 1 9) := fun q hq => by
    rw [xK] at hq
    have h9 := wkG_okw _ q hq
    have h8 := h9.2.2
    rw [xW q.1 q.2 h9.1.1 (by omega) h9.2.1.1 (by omega)] at h8
    exact ⟨⟨⟨h9.1.1, by omega⟩, h9.2.1.1, by omega⟩, (wvX_p h8).2⟩
  -- cells that changed
  have E23 : v' 164 = u' 23 := by rw [m164, x23, m15, p23]
  have E22 : v' 160 = u' 22 := by rw [m160, x22, m15, p18, p22]
  have E21 : v' 159 = u' 21 := by rw [m159, x21]
  have ac9 : ∀ i, 0 ≤ i → i < u 15 10 → acM v LN K.1 i = u 20 i + (K.1 i * u 18 i - 3 * u 19 i) - (if 0 ≤ u 24 i ∧ u 24 i < u 15 15 then u 28 (u 24 i) else 0) - (if 0 ≤ u 25 i ∧ u 25 i < u 1 9 then 9 * mxL 0 (keX u LN i (u 0 10) - u 19 i) else 0) - (if ruX u LN i (u 0 10) = 1 ∧ (0 ≤ u 25 i ∧ u 25 i < u 1 9) then feX u LN i (u 0 10) else 0) := fun i i0 i1 => by
    obtain ⟨⟨e1, e2⟩, e3, e4, e5, e6⟩ := hal i i0 i1
    unfold acM
    rw [e1, e2, e3, e4, p18, p19, p20, p28]
    refine acEq ruX_01 (fun z => by rw [hKz i i0 i1 z]; exact Int.zero_mul _) (fun z => (ruX_p z).1) e6 e5 (fun z => ?_)
    have z2 : 0 ≤ u 25 i ∧ u 25 i < u 1 9 := by omega
    unfold feX keX
    rw [if_pos z2, if_pos z2]
    exact ⟨rfl, rfl⟩
  have E20 : v' 163 = u' 20 := by
    rw [m163, x20, m15, p20]
    funext i
    by_cases g : 0 ≤ i ∧ i < u 15 10
    · rw [if_pos g, if_pos g]; exact ac9 i g.1 g.2
    · rw [if_neg g, if_neg g]
  have E8 : v' 148 = u' 8 := by
    rw [m148, x8, m15, q8]
    exact weG_c _ (fun i i0 i1 => by
      have e := hal i i0 (by omega)
      exact ⟨e.2.2.1, e.1.1⟩)
  have inj : ∀ i j : Int, 0 ≤ i → i < u 15 10 → 0 ≤ j → j < u 15 10 → 0 ≤ u 25 i → u 25 i = u 25 j → i = j := fun i j i0 i1 j0 j1 hp e => by
    have a1 : u 25 i = -1 ∨ ((0 ≤ u 25 i ∧ u 25 i < u 1 9) ∧ u 9 (u 25 i) = i) := hH.2.2.2.2.2.2.1.2 i i0 i1
    have a2 : u 25 j = -1 ∨ ((0 ≤ u 25 j ∧ u 25 j < u 1 9) ∧ u 9 (u 25 j) = j) := hH.2.2.2.2.2.2.1.2 j j0 j1
    rcases a1 with y | ⟨-, y⟩
    · omega
    · rcases a2 with z | ⟨-, z⟩
      · omega
      · rw [← y, e, z]
  have W8 : ∀ j, u' 8 j = u 8 j ∨ (u' 8 j = u 8 j + 1 ∧ ∃ k : Int, (0 ≤ k ∧ k < u 15 10) ∧ ruX u LN k (u 0 10) = 1 ∧ u 25 k = j) := fun j => by
    have e := weG_sp (r := fun i => ruX u LN i (u 0 10)) (q := u 25) (f := u 8) (n := (u 15 10).toNat) (fun i k i0 i1 k0 k1 ri rk e => inj i k i0 (by omega) k0 (by omega) (ruX_p ri).1 e) _ (Nat.le_refl _) j
    rw [← x8] at e
    rcases e with y | ⟨y, k, k0, k1, k2⟩
    · exact Or.inl y
    · exact Or.inr ⟨y, k, ⟨k0.1, by omega⟩, k1, k2⟩
  have r10 : ∀ j, 0 ≤ j → j < u 1 9 → 0 ≤ u 8 j ∧ u 8 j ≤ 12 := hR.2.2.2.2.2.2.2.2.2.2.1
  have r11 : ∀ j, u 1 9 ≤ j → u 8 j = 0 := hR.2.2.2.2.2.2.2.2.2.2.2
  have B8 : ∀ j, 0 ≤ j → j < u 1 9 → 0 ≤ u' 8 j ∧ u' 8 j ≤ 12 := fun j j0 j1 => by
    have h9 := r10 j j0 j1
    rcases W8 j with y | ⟨y, k, k0, k1, k2⟩
    · rw [y]; exact h9
    · have h12 : ¬ 12 ≤ u 8 j := fun z => by
        unfold ruX rsX at k1
        rw [if_pos (by rw [k2]; exact ⟨j0, j1⟩), k2, if_pos z, if_neg (by decide)] at k1
        exact absurd k1 (by decide)
      omega
  have Z8 : ∀ j, u 1 9 ≤ j → u' 8 j = 0 := fun j hj => by
    rcases W8 j with y | ⟨y, k, k0, k1, k2⟩
    · rw [y]; exact r11 j hj
    · have := ruX_p k1; omega
  have D23 : ∀ i, 0 ≤ i → i < 16 → (0 ≤ u' 23 i ∧ u' 23 i ≤ 7000 * (u' 0 10 + 1)) ∧ (-(1000000 * (u' 0 10 + 1)) ≤ u' 20 i ∧ u' 20 i ≤ 1000000 * (u' 0 10 + 1)) := fun i i0 i1 => by
    have h9 : (0 ≤ u 23 i ∧ u 23 i ≤ 7000 * u 0 10) ∧ (-(1000000 * u 0 10) ≤ u 20 i ∧ u 20 i ≤ 1000000 * u 0 10) := hH.2.2.2.2.2.2.2 i i0 i1
    rw [now9, x23, x20]
    try dsimp only
    by_cases g : 0 ≤ i ∧ i < u 15 10
    · rw [if_pos g, if_pos g]
      have k9 := hKb i g.1 g.2
      have b9 := hbd i g.1 g.2
      have f9 := fe_bd (w := u) (LN := LN) (h := i) (now := u 0 10)
      have L0 : 0 ≤ K.1 i * u 18 i := Int.mul_nonneg k9.1 (by omega)
      have L1 : K.1 i * u 18 i ≤ 6993 * 99 := Int.mul_le_mul (by omega) b9.2.1.2 (by omega) (by decide)
      have hh : (0 ≤ u 24 i ∧ u 24 i < u 15 15) → 0 ≤ u 28 (u 24 i) ∧ u 28 (u 24 i) ≤ 99 := fun z => (hH.2.2.2.2.1 (u 24 i) z.1 z.2).2.2
      have c9 := acBd (a := u 20 i) (Lp := K.1 i * u 18 i) (b := u 19 i) (R := ruX u LN i (u 0 10)) (fee := feX u LN i (u 0 10)) (keep := keX u LN i (u 0 10)) (se := u 24 i) (P := u 25 i) (N1 := u 1 9) (N2 := u 15 15) (hi := u 28 (u 24 i)) (A := 1000000 * u 0 10) h9.2 ⟨L0, by omega⟩ b9.2.2 ⟨f9.2.2, f9.2.1⟩ f9.1 hh
      refine ⟨by omega, ?_⟩
      rw [show 1000000 * (u 0 10 + 1) = 1000000 * u 0 10 + 1000000 by omega]
      exact c9
    · rw [if_neg g, if_neg g]
      omega
  have H66 : ∀ o j, 0 ≤ o → o < 16 → 0 ≤ j → j < 12 → v' 186 (12 * o + j) = u' (66 + Int.toNat o) j ∧ -3 ≤ u' (66 + Int.toNat o) j ∧ u' (66 + Int.toNat o) j ≤ 3 := fun o j o0 o1 j0 j1 => by
    have p61 : v 182 = u 61 := hC.2.1.2.1
    have h0 : ∀ o j, 0 ≤ o → o < 16 → 0 ≤ j → j < 12 → v 186 (12 * o + j) = u (66 + Int.toNat o) j ∧ -3 ≤ v 186 (12 * o + j) ∧ v 186 (12 * o + j) ≤ 3 := fun o j o0 o1 j0 j1 => by
      have e := hC.2.2.2 o j o0 o1 j0 j1
      rw [mixL (show 66 + Int.toNat o < 141 by omega)] at e
      have e2 : v 186 (12 * o + j) = u (66 + Int.toNat o) j := e.1
      rw [e2]
      exact ⟨rfl, e.2⟩
    rw [m186 o j o0 o1 j0 j1, x66 o j o0 o1, m59, p61]
    have e := hdG_c (f := fun o j => v 186 (12 * o + j)) (f' := fun o j => u (66 + Int.toNat o) j) (lk := fun c i => likM v c (prM v i)) (lk' := fun c i => if u 4 (u 7 (u 25 i)) = u 62 c ∧ ofX u i (u 0 10) = 0 then 1 else -1) (m := u 59 9) (tg := u 61) (pc := fun i => v 147 (prM v i)) (pc' := fun i => u 7 (u 25 i)) (gs := K.2) h0 (fun q hq => by
      have g9 := hgo q hq
      have a9 := hal q.2 g9.1.2.1 g9.1.2.2
      have q7 : v 147 = u 7 := hR.2.2.2.2.1.2.2.2.2.2.1
      have q4 : v 144 = u 4 := hR.2.2.2.2.1.2.2.1
      have p62 : v 183 = u 62 := hC.2.1.2.2.1
      have o9 : ofX u q.2 (u 0 10) = 0 ↔ offMw v (u 25 q.2) (v 141 0) = -1 := of_I hR g9.2
      refine ⟨by show v 147 (prM v q.2) = u 7 (u 25 q.2); rw [a9.1.1, q7], ?_⟩
      show likM v q.1 (prM v q.2) = _
      unfold likM
      rw [a9.1.1, q7, q4, p62]
      by_cases g : u 4 (u 7 (u 25 q.2)) = u 62 q.1 ∧ ofX u q.2 (u 0 10) = 0
      · rw [if_pos g, if_pos ⟨g.1, o9.mp g.2⟩]
      · rw [if_neg g, if_neg (fun z => g ⟨z.1, o9.mpr z.2⟩)]) _ (Nat.le_refl _) o j o0 o1 j0 j1
    rw [← e.1]
    exact ⟨rfl, e.2⟩

  have nR : GR (mix (wu u' 0 10 (u' 0 10 + 1)) v') := by
    unfold GR at hR ⊢
    rw [ha.1 2 (by decide), ha.1 3 (by decide), ha.1 4 (by decide), ha.1 5 (by decide), ha.1 6 (by decide), ha.1 7 (by decide), ha.1 10 (by decide), ha.1 11 (by decide), ha.1 12 (by decide), ha.1 13 (by decide), ha.1 14 (by decide), ha.1 142 (by decide), ha.1 143 (by decide), ha.1 144 (by decide), ha.1 145 (by decide), ha.1 146 (by decide), ha.1 147 (by decide), ha.1 150 (by decide), ha.1 151 (by decide), ha.1 152 (by decide), ha.1 153 (by decide), ha.1 154 (by decide), ha.f1 1 5 (by decide), ha.f1 1 9 (by decide), ha.f1 1 15 (by decide), ha.f1 141 1 (by decide), ha.f1 141 2 (by decide), ha.f1 141 3 (by decide)]
    obtain ⟨a0, a1, a2, a3, ⟨b1, b2, b3, b4, b5, b6, -, b8, b9, b10, b11, b12⟩, a5, a6, a7, a8, a9, -, -⟩ := hR
    refine ⟨⟨?_, ?_, ?_⟩, a1, a2, a3, ⟨b1, b2, b3, b4, b5, b6, E8, b8, b9, b10, b11, b12⟩, a5, a6, a7, a8, a9, B8, Z8⟩
    · show v' 141 0 = (wu u' 0 10 (u' 0 10 + 1)) 0 10
      rw [wu_same, m0, qnow, now9]
    · show 0 ≤ (wu u' 0 10 (u' 0 10 + 1)) 0 10
      have a02 : 0 ≤ u 0 10 := a0.2.1
      rw [wu_same, now9]; omega
    · show (wu u' 0 10 (u' 0 10 + 1)) 0 10 ≤ 199
      rw [wu_same, now9]; exact hnw
  have nH : GH (mix (wu u' 0 10 (u' 0 10 + 1)) v') := by
    unfold GH at hH ⊢
    rw [ha.1 9 (by decide), ha.1 16 (by decide), ha.1 17 (by decide), ha.1 18 (by decide), ha.1 19 (by decide), ha.1 24 (by decide), ha.1 25 (by decide), ha.1 26 (by decide), ha.1 27 (by decide), ha.1 28 (by decide), ha.1 29 (by decide), ha.1 149 (by decide), ha.1 155 (by decide), ha.1 156 (by decide), ha.1 157 (by decide), ha.1 158 (by decide), ha.1 165 (by decide), ha.1 166 (by decide), ha.1 167 (by decide), ha.1 168 (by decide), ha.f1 15 10 (by decide), ha.f1 15 15 (by decide), ha.f1 1 9 (by decide), ha.f1 141 4 (by decide), ha.f1 141 5 (by decide)]
    obtain ⟨a0, a1, ⟨b1, b2, b3, b4, -, -, -, -, b9, b10, b11, b12, b13⟩, a3, a4, a5, a6, -⟩ := hH
    refine ⟨a0, a1, ⟨b1, b2, b3, b4, E20, E21, E22, E23, b9, b10, b11, b12, b13⟩, a3, a4, a5, a6, fun i i0 i1 => ?_⟩
    have e := D23 i i0 i1
    show (0 ≤ u' 23 i ∧ u' 23 i ≤ 7000 * (wu u' 0 10 (u' 0 10 + 1)) 0 10) ∧ (-(1000000 * (wu u' 0 10 (u' 0 10 + 1)) 0 10) ≤ u' 20 i ∧ u' 20 i ≤ 1000000 * (wu u' 0 10 (u' 0 10 + 1)) 0 10)
    rw [wu_same]
    exact e
  have nC : GC (mix (wu u' 0 10 (u' 0 10 + 1)) v') := by
    unfold GC at hC ⊢
    rw [ha.1 60 (by decide), ha.1 61 (by decide), ha.1 62 (by decide), ha.1 63 (by decide), ha.1 64 (by decide), ha.1 181 (by decide), ha.1 182 (by decide), ha.1 183 (by decide), ha.1 184 (by decide), ha.1 185 (by decide), ha.f1 59 9 (by decide), ha.f1 141 6 (by decide)]
    refine ⟨hC.1, hC.2.1, hC.2.2.1, fun c j c0 c1 j0 j1 => ?_⟩
    rw [mixL (show 66 + Int.toNat c < 141 by omega), wu_ne (by omega), mixR (by decide)]
    exact H66 c j c0 c1 j0 j1
  exact GI.mk nR nH nC (hT.fr (ha.sub (by decide) (by decide) (by decide))) (hL.fr (ha.sub (by decide) (by decide) (by decide))) (hV.fr (ha.sub (by decide) (by decide) (by decide))) (hP.fr (ha.sub (by decide) (by decide) (by decide))) (hN.fr (ha.sub (by decide) (by decide) (by decide))) (hO.fr (ha.sub (by decide) (by decide) (by decide))) (hK.fr (ha.sub (by decide) (by decide) (by decide)))
