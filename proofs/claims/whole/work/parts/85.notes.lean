/-! CALLS THAT LEAVE NOTES OF THEIR OWN. -/
theorem VG_c {c c' : Int → Ps → Nat → Int} {t : Nat → Int} {n : Nat} (h : ∀ i P j, j < n → c i P j = c' i P j) : ∀ (f : Nat) (i : Int) (P : Ps), VG c t n f i P = VG c' t n f i P
  | 0, _, _ => rfl
  | f + 1, i, P => by
    have ha : amN P (fun j => c i P j + VG c t n f (t j) (rmP P j)) n = amN P (fun j => c' i P j + VG c' t n f (t j) (rmP P j)) n := amN_c (fun k h1 h2 => by rw [h i P k h1, VG_c h f])
    rw [VG, VG, ha]
    rcases amN_spec P (fun j => c' i P j + VG c' t n f (t j) (rmP P j)) n with ⟨q, -⟩ | ⟨b, b1, b2, b3, -⟩
    · rw [if_pos q, if_pos q]
    · rw [b1, if_neg (by omega), if_neg (by omega), show ((b : Nat) : Int).toNat = b from rfl, h i P b b2, VG_c h f]
theorem VV_c {c c' : Int → Ps → Nat → Int} {t : Nat → Int} {n : Nat} (h : ∀ i P j, j < n → c i P j = c' i P j) (i : Int) (P : Ps) : VV c t n i P = VV c' t n i P := VG_c h _ i P
theorem nxV_c {c c' : Int → Ps → Nat → Int} {t : Nat → Int} {n : Nat} (h : ∀ i P j, j < n → c i P j = c' i P j) (i : Int) (P : Ps) : nxV c t n i P = nxV c' t n i P := amN_c (fun k h1 h2 => by unfold afV; rw [h i P k h1, VV_c h])
theorem sqV_c {c c' : Int → Ps → Nat → Int} {t : Nat → Int} {n : Nat} (h : ∀ i P j, j < n → c i P j = c' i P j) (i : Int) (P : Ps) : ∀ k : Nat, sqV c t n i P k = sqV c' t n i P k
  | 0 => rfl
  | k + 1 => by rw [sqV, sqV, sqV_c h i P k, nxV_c h]
theorem stV_c {g g' : Int → Int → Int} {N : Int → Int} {n S q : Int} (hn : 0 ≤ n ∧ n ≤ 9) (h : ∀ a b, 0 ≤ a → a < 9 → 0 ≤ b → b < 9 → g a b = g' a b) : stV g N n S q = stV g' N n S q := by
  have hc : ∀ (i : Int) (P : Ps) (j : Nat), j < n.toNat → cSt g i P j = cSt g' i P j := fun i P j hj => by
    unfold cSt
    by_cases e : 0 ≤ i ∧ i < 9
    · rw [if_pos e, if_pos e, h i j e.1 e.2 (by omega) (by omega)]
    · rw [if_neg e, if_neg e]
  unfold stV VS
  rw [VV_c hc, sqV_c hc]
theorem comesS_c {A A' P P' : Int → Int} {O O' : Int → Int → Int} (hA : ∀ i, 0 ≤ i → i < 20 → A i = A' i) (hP : ∀ i, 0 ≤ i → i < 20 → P i = P' i) (hO : ∀ i j, 0 ≤ i → i < 20 → 0 ≤ j → j < 20 → O i j = O' i j) {j : Int} (j0 : 0 ≤ j) (j1 : j < 20) : comesS A P O j = comesS A' P' O' j :=
  sumI_c 20 (fun i a b => by unfold tS; rw [hA i a b, hP i a b, hO i j a b j0 j1])
theorem cleR_c {A A' U U' : Int → Int} {O O' : Int → Int → Int} (hA : ∀ i, 0 ≤ i → i < 20 → A i = A' i) (hU : ∀ i, 0 ≤ i → i < 20 → U i = U' i) (hO : ∀ i j, 0 ≤ i → i < 20 → 0 ≤ j → j < 20 → O i j = O' i j) : ∀ (n : Nat) (P P' : Int → Int) (r : Int), (∀ i, 0 ≤ i → i < 20 → P i = P' i) → (∀ i, 0 ≤ i → i < 20 → (cleR A U O n P r).1 i = (cleR A' U' O' n P' r).1 i) ∧ (cleR A U O n P r).2 = (cleR A' U' O' n P' r).2
  | 0, P, P', r, hP => ⟨hP, rfl⟩
  | n + 1, P, P', r, hP => by
    have hQ : ∀ i, 0 ≤ i → i < 20 → payN A U (comesS A P O) i = payN A' U' (comesS A' P' O') i := fun i a b => payN_congr (hA i a b) (hU i a b) (comesS_c hA hP hO a b)
    rw [cleR, cleR, chB_congr 20 hP hQ]
    split
    · exact ⟨hQ, rfl⟩
    · exact cleR_c hA hU hO n _ _ _ hQ
theorem wX_M {w : Wd} (h : GK w) {f : Int} (f0 : 0 ≤ f) (f1 : f < 3) (s : Int) : wM w s f = wX w s f := by
  unfold wM wX
  rw [h.1.1]
  exact wtS_c (fun j j0 j1 => (h.2.2 f j f0 f1 j0 j1).1)
theorem op_stage (S q : Int) {w : Wd} (h : GAl w) : OpI mX11_stage mX12_stage [(2, 0), (0, S), (0, q)] [(2, 141), (0, S), (0, q)] w := by
  obtain ⟨s9, b9, LN9, hR9, hH9, hC9, hT9, hL9, hV9, hP9, hN9, hO9, hK9⟩ := h
  have hg9 : GI s9 b9 LN9 w := ⟨hR9, hH9, hC9, hT9, hL9, hV9, hP9, hN9, hO9, hK9⟩
  refine ⟨_, CallN.deep (x_stage S q w hV9.1.2 (fun a b a0 a1 b0 b1 => (hV9.2.2.2 a b a0 a1 b0 b1).2) hV9.2.2.1) (by decide), fun z w1 hJ => ?_⟩
  obtain ⟨hf, hz9⟩ := hJ
  have ha : Agw cGI fGI rGI w w1 := (Agw.of [100] (fun c hc => hf c (fun z => hc (by rw [z]; decide))) (by decide) (fun p hp => Or.inl (by revert p; decide)) (by decide))
  have hg8 : GI s9 b9 LN9 w1 := hg9.fr ha
  have hg7 := hg8
  obtain ⟨hR8, hH8, hC8, hT8, hL8, hV8, hP8, hN8, hO8, hK8⟩ := hg8
  have hm9 := m_stage S q w1 (by rw [hV8.1.1]; exact hV8.1.2) (fun a b a0 a1 b0 b1 => by have h1 := hV8.2.2.2 a b a0 a1 b0 b1; omega) (by rw [hV8.1.1, hV8.2.1]; exact hV8.2.2.1)
  refine CallN.deep (hm9.conseq (fun r w2 hq => ?_)) (by decide)
  obtain ⟨z2, hr9, ⟨hf2, hf3⟩, hz2⟩ := hq
  refine ⟨z2, hr9, ?_, s9, b9, LN9, hg7.fr (Agw.of [194, 195, 196, 141] (fun c hc => hf2 c (fun z => hc (by rw [z]; decide)) (fun z => hc (by rw [z]; decide)) (fun z => hc (by rw [z]; decide)) (fun z => hc (by rw [z]; decide))) (by decide) (fun p hp => by
      by_cases e : p.1 = 141
      · refine Or.inr ?_
        rw [e]
        exact hf3 p.2 (by revert p; decide)
      · exact Or.inl (by revert p; decide)) (by decide))⟩
  rw [hz2, hz9, hV8.1.1, hV8.2.1, hf 88 (by decide), hf 89 (by decide)]
  exact stV_c hV9.1.2 (fun a b a0 a1 b0 b1 => by
    have h1 := hV8.2.2.2 a b a0 a1 b0 b1
    show w1 193 (9 * a + b) = w (91 + Int.toNat a) b
    rw [h1.1, hf _ (by omega)])

theorem op_faces (t v q : Int) {w : Wd} (h : GAl w) : OpI mX11_faces mX12_faces [(2, 0), (0, t), (0, v), (0, q)] [(2, 141), (0, t), (0, v), (0, q)] w := by
  obtain ⟨s9, b9, LN9, hR9, hH9, hC9, hT9, hL9, hV9, hP9, hN9, hO9, hK9⟩ := h
  have hg9 : GI s9 b9 LN9 w := ⟨hR9, hH9, hC9, hT9, hL9, hV9, hP9, hN9, hO9, hK9⟩
  refine ⟨_, CallN.deep (x_faces t v q w hP9.1.2 hP9.2.2) (by decide), fun z w1 hJ => ?_⟩
  obtain ⟨hz9, hw⟩ := hJ
  have ha : Agw cGI fGI rGI w w1 := by
    rcases hw with e | ⟨X, e⟩
    · rw [e]; exact Agw.rf
    · rw [e]
      refine Agw.of [88] (fun c hc => ?_) (by decide) (fun p hp => ?_) (by decide)
      · funext j
        show castW w X.1 X.2.1 X.2.2 c j = w c j
        unfold castW
        rw [if_neg (fun z => hc (by rw [z]; decide))]
      · by_cases e2 : p.1 = 88
        · refine Or.inr ?_
          have hp2 : p.2 ≠ 7 ∧ p.2 ≠ 8 ∧ p.2 ≠ 9 := by revert p; decide
          show castW w X.1 X.2.1 X.2.2 p.1 p.2 = w p.1 p.2
          unfold castW
          rw [if_pos e2, if_neg hp2.1, if_neg hp2.2.1, if_neg hp2.2.2, e2]
        · exact Or.inl (by revert p; decide)
  have hg8 : GI s9 b9 LN9 w1 := hg9.fr ha
  have hg7 := hg8
  obtain ⟨hR8, hH8, hC8, hT8, hL8, hV8, hP8, hN8, hO8, hK8⟩ := hg8
  have hm9 := m_faces t v q w1 (by rw [hP8.1.1]; exact hP8.1.2)
  refine CallN.deep (hm9.conseq (fun r w2 hq => ?_)) (by decide)
  obtain ⟨hr9, hw2⟩ := hq
  refine ⟨_, hr9, ?_, by rw [hw2]; exact ⟨s9, b9, LN9, hg7⟩⟩
  rw [hz9, hP8.1.1, hP8.2.1.1, hP8.2.1.2, ha.1 101 (by decide), ha.1 102 (by decide), ha.f1 88 6 (by decide)]

theorem pow_nn {n : Int} (h : 0 ≤ n ∧ n ≤ 9) : ((ishl 1 n).toNat : Int) = ishl 1 n := by
  rcases (show n = 0 ∨ n = 1 ∨ n = 2 ∨ n = 3 ∨ n = 4 ∨ n = 5 ∨ n = 6 ∨ n = 7 ∨ n = 8 ∨ n = 9 by omega) with e | e | e | e | e | e | e | e | e | e <;> rw [e] <;> decide
theorem op_pool (q : Int) {w : Wd} (h : GAl w) : OpI mX11_pool mX12_pool [(2, 0), (0, q)] [(2, 141), (0, q)] w := by
  obtain ⟨s9, b9, LN9, hR9, hH9, hC9, hT9, hL9, hV9, hP9, hN9, hO9, hK9⟩ := h
  have hg9 : GI s9 b9 LN9 w := ⟨hR9, hH9, hC9, hT9, hL9, hV9, hP9, hN9, hO9, hK9⟩
  refine ⟨_, CallN.deep (x_pool q w hK9.1.2 (fun f j f0 f1 j0 j1 => (hK9.2.2 f j f0 f1 j0 j1).2)) (by decide), fun z w1 hJ => ?_⟩
  obtain ⟨hw1, hz9⟩ := hJ
  have ha : Agw cGI fGI rGI w w1 := by
    rw [hw1]
    unfold bargW
    exact ((Agw.rf.f (by decide) (by decide) (by decide)).f (by decide) (by decide) (by decide)).f (by decide) (by decide) (by decide)
  have hg8 : GI s9 b9 LN9 w1 := hg9.fr ha
  have hg7 := hg8
  obtain ⟨hR8, hH8, hC8, hT8, hL8, hV8, hP8, hN8, hO8, hK8⟩ := hg8
  have hm9 := m_pool q w1 (by rw [hK8.1.1]; exact hK8.1.2) (fun f j f0 f1 j0 j1 => by rw [hK8.1.1] at j1; have h1 := hK8.2.2 f j f0 f1 j0 j1; omega)
  refine CallN.deep (hm9.conseq (fun r w2 hq => ?_)) (by decide)
  obtain ⟨z2, hr9, hw2, o9, ho, hz2⟩ := hq
  refine ⟨z2, hr9, ?_, by rw [hw2]; exact ⟨s9, b9, LN9, hg7⟩⟩
  have e135 : w1 135 2 = w 135 2 := ha.f1 135 2 (by decide)
  have eW : ∀ s f, 0 ≤ f → f < 3 → wM w1 s f = wX w s f := fun s f f0 f1 => by
    rw [wX_M hK8 f0 f1]
    unfold wX
    rw [e135, ha.2.2 (137, 3) (by decide) (Int.toNat f) (by show _ < 3; omega)]
  have eA : allM w1 = allX w := by funext s; unfold allM allX; rw [eW s 0 (by decide) (by decide), eW s 1 (by decide) (by decide), eW s 2 (by decide) (by decide)]
  have e140 : w1 209 = w 140 := by rw [hK8.2.1]; exact ha.1 140 (by decide)
  have eS : sgM w1 = sgX w := by funext s; unfold sgM sgX; rw [eW s 0 (by decide) (by decide), eW s 1 (by decide) (by decide), eW s 2 (by decide) (by decide), e140]
  have e9 : w1 141 9 = w 135 2 := by rw [hK8.1.1]; exact e135
  rw [e9] at ho hz2
  have hN : ((ishl 1 (w 135 2)).toNat : Int) = ishl 1 (w 135 2) := pow_nn hK9.1.2
  have ho2 := ShO_lo (B := fun f s => w1 209 f ≤ wM w1 s f) (d0 := fun s => inferInstance) (d1 := fun s => inferInstance) (d2 := fun s => inferInstance) (ishl 1 (w 135 2)).toNat
  rw [hN] at ho2
  have hoo : o9 = loI (sgX w) (ishl 1 (w 135 2)).toNat := by
    rw [ShO_u ho ho2, ← eS]
    rfl
  rw [hz2, hz9, hoo, eA, eS]
  unfold poolV
  by_cases c : 10 ≤ q ∧ q ≤ 12
  · rw [eW _ (q - 10) (by omega) (by omega)]
  · rw [if_neg c, if_neg c]

theorem op_clear (f p q : Int) {w : Wd} (h : GAl w) : OpJ mX11_clear mX12_clear [(2, 0), (0, f), (0, p), (0, q)] [(2, 141), (0, f), (0, p), (0, q)] w := by
  obtain ⟨s9, b9, LN9, hR9, hH9, hC9, hT9, hL9, hV9, hP9, hN9, hO9, hK9⟩ := h
  have hg9 : GI s9 b9 LN9 w := ⟨hR9, hH9, hC9, hT9, hL9, hV9, hP9, hN9, hO9, hK9⟩
  have hn9 := hR9.1.2
  have hh9 := hH9.1.2
  refine ⟨_, CallN.deep (x_clear f p q w (fun i j i0 i1 j0 j1 => (hO9.2.2 i j i0 i1 j0 j1).2) (fun j j0 j1 => owM_bd hO9 j0 j1) hH9.1.2 (fun j j0 j1 => (hO9.2.1 j j0 j1).2) (fun j j0 j1 => by have h1 := hH9.2.2.2.2.2.2.2 j j0 (by omega); omega)) (by decide), fun z w1 hJ => ?_⟩
  have hf : ∀ k j, k ≠ 133 → k ≠ 134 → ¬ (k = 109 ∧ j = 6) → w1 k j = w k j := by
    rcases hJ with y | y
    · exact y.2.2
    · intro k j _ _ _; rw [y.2.2]
  have ha : Agw cGI fGI rGI w w1 := Agw.of [133, 134, 109] (fun c hc => funext fun j => hf c j (fun z => hc (by rw [z]; decide)) (fun z => hc (by rw [z]; decide)) (fun z => hc (by rw [z.1]; decide))) (by decide) (fun p hp => Or.inl (by revert p; decide)) (by decide)
  have hg8 : GI s9 b9 LN9 w1 := hg9.fr ha
  have hg7 := hg8
  obtain ⟨hR8, hH8, hC8, hT8, hL8, hV8, hP8, hN8, hO8, hK8⟩ := hg8
  have hn8 := hR8.1.2
  have hh8 := hH8.1.2
  have hm9 := m_clear f p q w1 (by rw [hH8.1.1]; exact hH8.1.2) (fun j j0 j1 => by have h1 := hO8.2.1 (j - 16) (by omega) (by omega); rw [show 16 + (j - 16) = j by omega] at h1; omega) (by rw [hH8.1.1, hH8.2.2.1.2.2.2.2.1]; exact fun j j0 j1 => by have h1 := hH8.2.2.2.2.2.2.2 j j0 (by omega); omega) (fun i j i0 i1 j0 j1 => by have h1 := hO8.2.2 i j i0 i1 j0 j1; omega)
  refine CallN.deep (hm9.conseq (fun r w2 hq => ?_)) (by decide)
  obtain ⟨z2, hr9, hq⟩ := hq
  have hf2 : ∀ k j, k ≠ 203 → k ≠ 204 → k ≠ 205 → k ≠ 206 → k ≠ 207 → ¬ (k = 141 ∧ j = 95) → w2 k j = w1 k j := by
    rcases hq with y | y
    · exact y.2.2
    · intro k j _ _ _ _ _ _; rw [y.2.2]
  have ha2 : Agw cGI fGI rGI w1 w2 := Agw.of [203, 204, 205, 206, 207, 141] (fun c hc => funext fun j => hf2 c j (fun z => hc (by rw [z]; decide)) (fun z => hc (by rw [z]; decide)) (fun z => hc (by rw [z]; decide)) (fun z => hc (by rw [z]; decide)) (fun z => hc (by rw [z]; decide)) (fun z => hc (by rw [z.1]; decide))) (by decide) (fun p hp => by
      by_cases e : p.1 = 141
      · refine Or.inr ?_
        rw [e]
        exact hf2 141 p.2 (by decide) (by decide) (by decide) (by decide) (by decide) (fun z => absurd z.2 (by revert p; decide))
      · exact Or.inl (by revert p; decide)) (by decide)
  refine ⟨z2, hr9, ?_, s9, b9, LN9, hg7.fr ha2⟩
  have eA : ∀ i, 0 ≤ i → i < 20 → owM (w1 201) i = w 132 i := fun i i0 i1 => by rw [← hO8.1 i i0 i1, ha.1 132 (by decide)]
  have eO : ∀ i j, 0 ≤ i → i < 20 → 0 ≤ j → j < 20 → w1 201 (20 * i + j) = w (111 + Int.toNat i) j := fun i j i0 i1 j0 j1 => by rw [(hO8.2.2 i j i0 i1 j0 j1).1, ha.2.2 (111, 20) (by decide) (Int.toNat i) (by show _ < 20; omega)]
  have eU : ∀ i, 0 ≤ i → i < 20 → usM (w1 202) (w1 163) (w1 141 4) f i = usV (w 131) (w 20) (w 15 10) f i := fun i i0 i1 => by
    unfold usM usV puV
    rw [hH8.1.1, hH8.2.2.1.2.2.2.2.1, ha.f1 15 10 (by decide), ha.1 20 (by decide)]
    by_cases e : 16 ≤ i
    · have h1 := (hO8.2.1 (i - 16) (by omega) (by omega)).1
      rw [show 16 + (i - 16) = i by omega, ha.1 131 (by decide)] at h1
      rw [if_pos e, if_pos e]
      dsimp only
      rw [show i - 16 + 16 = i by omega, h1]
    · rw [if_neg e, if_neg e]
  obtain ⟨c1, c2⟩ := cleR_c (O := fun i j => w1 201 (20 * i + j)) (O' := fun i j => w (111 + Int.toNat i) j) eA eU eO 300 (owM (w1 201)) (w 132) 0 eA
  rcases hJ with y | y <;> rcases hq with x | x
  · rw [x.2.1, y.2.1]
    have hp9 := y.1.2.1
    have c3 := comesS_c (O := fun i j => w1 201 (20 * i + j)) (O' := fun i j => w (111 + Int.toNat i) j) eA c1 eO (j := p) (by omega) (by omega)
    unfold clearV
    rw [c1 p (by omega) (by omega), c2, c3, eA p (by omega) (by omega)]
  · exact absurd y.1 x.1
  · exact absurd x.1 y.1
  · rw [x.2.1, y.2.1]

theorem op_wire (S q : Int) {w : Wd} (h : GAl w) : OpI mX11_wire mX12_wire [(2, 0), (0, S), (0, q)] [(2, 141), (0, S), (0, q)] w := by
  obtain ⟨s9, b9, LN9, hR9, hH9, hC9, hT9, hL9, hV9, hP9, hN9, hO9, hK9⟩ := h
  have hg9 : GI s9 b9 LN9 w := ⟨hR9, hH9, hC9, hT9, hL9, hV9, hP9, hN9, hO9, hK9⟩
  have hh9 := hH9.1.2
  have hw0 : WH0 (w 16) (w 104) (w 105) (w 15 10) := fun h h0 h1 => by have h2 := hH9.2.2.2.1 h h0 h1; have h3 := hN9.2.1 h h0 (by omega); omega
  refine ⟨_, CallN.deep (x_wire S q w hH9.1.2 hw0 hN9.2.2.1 hN9.2.2.2) (by decide), fun z w1 hJ => ?_⟩
  obtain ⟨⟨hf, hf2⟩, ⟨h107, h108⟩, hz9⟩ := hJ
  have ha : Agw (cGI.filter (fun c => c != 107 && c != 108)) fGI rGI w w1 := Agw.of [103, 106, 107, 108] (fun c hc => hf c (fun z => hc (by rw [z]; decide)) (fun z => hc (by rw [z]; decide)) (fun z => hc (by rw [z]; decide)) (fun z => hc (by rw [z]; decide))) (by decide) (fun p hp => Or.inl (by revert p; decide)) (by decide)
  have nGN : GN w1 := by
    obtain ⟨⟨a1, a2⟩, a3, a4, a5⟩ := hN9
    unfold GN
    rw [hf 161 (by decide) (by decide) (by decide) (by decide), hf 162 (by decide) (by decide) (by decide) (by decide), hf 104 (by decide) (by decide) (by decide) (by decide), hf 105 (by decide) (by decide) (by decide) (by decide)]
    exact ⟨⟨a1, a2⟩, a3, h107, h108⟩
  have hg8 : GI s9 b9 LN9 w1 := ⟨hR9.fr (ha.sub (by decide) (by decide) (by decide)), hH9.fr (ha.sub (by decide) (by decide) (by decide)), hC9.fr (ha.sub (by decide) (by decide) (by decide)), hT9.fr (ha.sub (by decide) (by decide) (by decide)), hL9.fr (ha.sub (by decide) (by decide) (by decide)), hV9.fr (ha.sub (by decide) (by decide) (by decide)), hP9.fr (ha.sub (by decide) (by decide) (by decide)), nGN, hO9.fr (ha.sub (by decide) (by decide) (by decide)), hK9.fr (ha.sub (by decide) (by decide) (by decide))⟩
  have hg7 := hg8
  obtain ⟨hR8, hH8, hC8, hT8, hL8, hV8, hP8, hN8, hO8, hK8⟩ := hg8
  have e16 : w1 155 = w 16 ∧ w1 161 = w 104 ∧ w1 162 = w 105 ∧ w1 141 4 = w 15 10 := by
    rw [hH8.2.2.1.1, hN8.1.1, hN8.1.2, hH8.1.1]
    exact ⟨hf 16 (by decide) (by decide) (by decide) (by decide), hf 104 (by decide) (by decide) (by decide) (by decide), hf 105 (by decide) (by decide) (by decide) (by decide), by rw [hf 15 (by decide) (by decide) (by decide) (by decide)]⟩
  have hm9 := m_wire S q w1 (by rw [e16.2.2.2]; exact hH9.1.2) (by rw [e16.1, e16.2.1, e16.2.2.1, e16.2.2.2]; exact hw0)
  refine CallN.deep (hm9.conseq (fun r w2 hq => ?_)) (by decide)
  obtain ⟨z2, hr9, ⟨hg2, hg3⟩, hz2⟩ := hq
  refine ⟨z2, hr9, ?_, s9, b9, LN9, hg7.fr (Agw.of [194, 199, 200, 141] (fun c hc => hg2 c (fun z => hc (by rw [z]; decide)) (fun z => hc (by rw [z]; decide)) (fun z => hc (by rw [z]; decide)) (fun z => hc (by rw [z]; decide))) (by decide) (fun p hp => by
      by_cases e : p.1 = 141
      · refine Or.inr ?_
        rw [e]
        exact hg3 p.2 (by revert p; decide) (by revert p; decide)
      · exact Or.inl (by revert p; decide)) (by decide))⟩
  rw [hz2, hz9, e16.1, e16.2.1, e16.2.2.1, e16.2.2.2]

theorem fc_M {w : Wd} (hR : GR w) (hH : GH w) {p h : Int} (h0 : 0 ≤ h) (h1 : h < w 15 10) : fcM w p h = fcX w p h (w 0 10) := by
  have hf := hH.2.2.2.2.2.1.fst h0 h1 hH.2.1.2.1
  have hg := hH.2.2.2.2.2.1.2 h h0 h1
  unfold fcM fcX
  rw [hR.2.2.2.2.1.1, hR.2.2.2.2.1.2.2.2.1, hR.2.2.2.2.1.2.1, hR.2.2.2.2.1.2.2.2.2.1, hR.2.2.2.2.1.2.2.2.2.2.1, hR.2.2.2.2.1.2.2.2.2.2.2.1, hH.2.2.1.2.1, hH.2.2.1.2.2.2.1, hH.2.2.1.2.2.1, hH.2.2.1.2.2.2.2.2.2.2.2.1, hH.2.2.1.2.2.2.2.2.2.2.2.2.2.2.1, hR.1.1, hH.2.1.1, hf]
  by_cases e : w 24 h = -1
  · rw [if_pos e, if_neg (by omega)]
  · rw [if_neg e, if_pos (by omega)]
theorem wh_M {w : Wd} (hR : GR w) (hH : GH w) {p h bf : Int} (p0 : 0 ≤ p) (p1 : p < w 1 9) (h0 : 0 ≤ h) (h1 : h < w 15 10) : whV w p h bf = rsX w p h bf := by
  have hf := hH.2.2.2.2.2.1.fst h0 h1 hH.2.1.2.1
  have hg := hH.2.2.2.2.2.1.2 h h0 h1
  have hp := hR.2.2.2.2.2.2.2.1 p p0 p1
  have hpi := hR.2.2.2.2.2.2.1 (w 7 p) hp.1 hp.2
  have hw := hR.2.2.2.2.2.2.2.2.2.2.1 p p0 p1
  unfold whV rsX
  rw [hR.2.2.2.2.1.2.1, hR.2.2.2.2.1.2.2.2.1, hR.2.2.2.2.1.2.2.2.2.2.1, hR.2.2.2.2.1.2.2.2.2.2.2.1, hH.2.2.1.2.2.2.1, hH.2.2.1.2.2.2.2.2.2.2.2.2.1, hH.2.2.1.2.2.2.2.2.2.2.2.2.2.2.1, hH.2.1.1, hf]
  by_cases c1 : w 8 p = 12
  · rw [if_pos c1, if_pos (show 12 ≤ w 8 p by omega)]
  · rw [if_neg c1, if_neg (show ¬ 12 ≤ w 8 p by omega)]
    by_cases c2 : w 5 (w 7 p) < 3 ∧ (w 24 h = -1 ∨ bt (w 27 (w 24 h)) (w 5 (w 7 p)) = 0)
    · rw [if_pos c2, if_pos ⟨by omega, fun z => by omega⟩]
    · rw [if_neg c2, if_neg (show ¬ (w 5 (w 7 p) ≠ 3 ∧ ¬ ((0 ≤ w 24 h ∧ w 24 h < w 15 15) ∧ bt (w 27 (w 24 h)) (w 5 (w 7 p)) = 1)) from fun z => c2 ⟨by omega, by
        by_cases e : w 24 h = -1
        · exact Or.inl e
        · rcases bt01 (w 27 (w 24 h)) (w 5 (w 7 p)) with q | q
          · exact Or.inr q
          · exact absurd ⟨⟨by omega, by omega⟩, q⟩ z.2⟩)]
      by_cases c3 : w 3 (w 7 p) = 5 ∧ w 19 h = 0
      · rw [if_pos c3, if_pos ⟨hpi.2.2.2.mp c3.1, c3.2⟩]
      · rw [if_neg c3, if_neg (show ¬ (w 5 (w 7 p) = 3 ∧ w 19 h = 0) from fun z => c3 ⟨hpi.2.2.2.mpr z.1, z.2⟩)]
theorem op_runs (p h9 q : Int) {w : Wd} (h : GAl w) : OpI mX11_runs mX12_runs [(2, 0), (0, p), (0, h9), (0, q)] [(2, 141), (0, p), (0, h9), (0, q)] w := by
  obtain ⟨s9, b9, LN9, hR9, hH9, hC9, hT9, hL9, hV9, hP9, hN9, hO9, hK9⟩ := h
  have hg9 : GI s9 b9 LN9 w := ⟨hR9, hH9, hC9, hT9, hL9, hV9, hP9, hN9, hO9, hK9⟩
  have b8x : ∀ j, 0 ≤ j → j < w 1 9 → 0 ≤ w 7 j ∧ w 7 j < 12 := fun j a b => by have h1 := hR9.2.2.2.2.2.2.2.1 j a b; have h2 := hR9.2.1.2; omega
  have ev9 := hR9.2.2.2.2.2.2.2.2.1
  have fr9 := hR9.2.2.2.2.2.2.2.2.2.1
  refine ⟨_, CallN.deep (x_runs p h9 q w s9 LN9 hL9.1 hR9.2.2.1.2.2 hH9.1.2.2 b8x hH9.2.1.2.2) (by decide), fun z w1 hJ => ?_⟩
  have hf : ∀ c, c ∉ [41, 43, 40, 48, 53, 58] → w1 c = w c := fun c hc => by
    rcases hJ with y | y
    · exact y.2.1.1 c (fun z => hc (by rw [z]; decide)) (fun z => hc (by rw [z]; decide)) (fun z => hc (by rw [z]; decide)) (fun z => hc (by rw [z]; decide)) (fun z => hc (by rw [z]; decide)) (fun z => hc (by rw [z]; decide))
    · rw [y.2.1]
  have ha : Agw cGI fGI rGI w w1 := Agw.of [41, 43, 40, 48, 53, 58] hf (by decide) (fun p hp => Or.inl (by revert p; decide)) (by decide)
  have hg8 : GI s9 b9 LN9 w1 := hg9.fr ha
  have hg7 := hg8
  obtain ⟨hR8, hH8, hC8, hT8, hL8, hV8, hP8, hN8, hO8, hK8⟩ := hg8
  have b8y : ∀ j, 0 ≤ j → j < w1 1 9 → 0 ≤ w1 7 j ∧ w1 7 j < 12 := fun j a b => by have h1 := hR8.2.2.2.2.2.2.2.1 j a b; have h2 := hR8.2.1.2; omega
  have hm9 := m_runs p h9 q w1 LN9 hL8.2.1 (by rw [hR8.2.2.1.1]; exact hR8.2.2.1.2) (by rw [hH8.1.1]; exact hH8.1.2) (by rw [hR8.2.2.1.1, hR8.2.2.2.2.1.2.2.2.2.2.1]; exact b8y) (by rw [hH8.2.1.1]; exact hH8.2.1.2)
  refine CallN.deep (hm9.conseq (fun r w2 hq => ?_)) (by decide)
  obtain ⟨z2, hr9, hq⟩ := hq
  have hfm : FrM3 w1 w2 := by
    rcases hq with y | y
    · exact y.2.1
    · rw [y.2.1]; exact FrM3.rf
  refine ⟨z2, hr9, ?_, s9, b9, LN9, hg7.fr (Agw.of [141, 179, 180] (fun c hc => hfm.1 c (fun z => hc (by rw [z]; decide)) (fun z => hc (by rw [z]; decide)) (fun z => hc (by rw [z]; decide))) (by decide) (fun p hp => by
      by_cases e : p.1 = 141
      · refine Or.inr ?_
        rw [e]
        exact hfm.2 p.2 (by revert p; decide)
      · exact Or.inl (by revert p; decide)) (by decide))⟩
  have e1 : ∀ c, c ∉ [41, 43, 40, 48, 53, 58] → w1 c = w c := hf
  rw [hR8.2.2.1.1, hH8.1.1, e1 1 (by decide), e1 15 (by decide)] at hq
  rcases hJ with y | y <;> rcases hq with x | x
  · rw [x.2.2, y.2.2]
    have hh := y.1
    have k15 : w1 15 10 = w 15 10 := by rw [e1 15 (by decide)]
    have k19 : w1 1 9 = w 1 9 := by rw [e1 1 (by decide)]
    rw [fc_M hR8 hH8 hh.2.1 (by omega), wh_M hR8 hH8 hh.1.1 (by omega) hh.2.1 (by omega)]
    unfold fcX rsX
    rw [e1 0 (by decide), e1 2 (by decide), e1 7 (by decide), e1 5 (by decide), e1 3 (by decide), e1 6 (by decide), e1 8 (by decide), e1 24 (by decide), e1 15 (by decide), e1 26 (by decide), e1 17 (by decide), e1 19 (by decide), e1 18 (by decide), e1 27 (by decide)]
  · exact absurd y.1 x.1
  · exact absurd x.1 y.1
  · rw [x.2.2, y.2.2]

