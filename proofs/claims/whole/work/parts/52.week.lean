/-! A WEEK, the class. -/
/-- the cells that inspecting and sending leave -/
def kQ (c : Nat) : Prop := c ≠ 41 ∧ c ≠ 43 ∧ c ≠ 40 ∧ c ≠ 48 ∧ c ≠ 53 ∧ c ≠ 58 ∧ c ≠ 82 ∧ c ≠ 83 ∧ c ≠ 84 ∧ c ≠ 85 ∧ c ≠ 21 ∧ c ≠ 59 ∧ c ≠ 86 ∧ c ≠ 87
def FrQ (w v : Wd) : Prop := (∀ c, kQ c → v c = w c) ∧ (∀ j : Int, (j < 4 ∨ 7 < j) → v 41 j = w 41 j) ∧ ∀ j : Int, j ≠ 16 → v 59 j = w 59 j
theorem FrQ.rf {w : Wd} : FrQ w w := ⟨fun _ _ => rfl, fun _ _ => rfl, fun _ _ => rfl⟩
theorem FrQ.i {w v u : Wd} (h : FrQ w v) (h2 : FrI v u) : FrQ w u := ⟨fun c hc => (h2.1 c hc.1 hc.2.1 hc.2.2.1 hc.2.2.2.1 hc.2.2.2.2.1 hc.2.2.2.2.2.1 hc.2.2.2.2.2.2.1 hc.2.2.2.2.2.2.2.1 hc.2.2.2.2.2.2.2.2.1 hc.2.2.2.2.2.2.2.2.2.1).trans (h.1 c hc), fun j hj => (h2.2 j hj).trans (h.2.1 j hj), fun j hj => by rw [h2.1 59 (by decide) (by decide) (by decide) (by decide) (by decide) (by decide) (by decide) (by decide) (by decide) (by decide)]; exact h.2.2 j hj⟩
theorem FrQ.s {w v u : Wd} (h : FrQ w v) (h2 : FrS v u) : FrQ w u := ⟨fun c hc => (h2.1 c hc.2.2.2.2.2.2.2.2.2.2.1 hc.2.2.2.2.2.2.2.2.2.2.2.1 hc.2.2.2.2.2.2.2.2.2.2.2.2.1 hc.2.2.2.2.2.2.2.2.2.2.2.2.2).trans (h.1 c hc), fun j hj => by rw [h2.1 41 (by decide) (by decide) (by decide) (by decide)]; exact h.2.1 j hj, fun j hj => (h2.2 j hj).trans (h.2.2 j hj)⟩
theorem FrQ.z {w v : Wd} {j x : Int} (h : FrQ w v) : FrQ w (wu v 21 j x) := ⟨fun c hc => by rw [wu_ne hc.2.2.2.2.2.2.2.2.2.2.1]; exact h.1 c hc, fun j hj => by rw [wu_ne (by decide)]; exact h.2.1 j hj, fun j hj => by rw [wu_ne (by decide)]; exact h.2.2 j hj⟩
theorem SCL.q {w v : Wd} {s : Int → Nat} {LN : Int → List Lin} (h : SCL w s LN) (hf : FrQ w v) : SCL v s LN := by
  have e0 : ∀ f : Int, 0 ≤ f → f < 3 → ∀ k : Nat, k ≤ 3 → v (s f + k) = w (s f + k) := fun f a b k hk => by
    have hs := (h.1 f a b).1
    exact hf.1 _ (by unfold kQ; rcases hs with z | z | z | z <;> rw [z] <;> omega)
  refine ⟨fun f a b => ?_, fun f a b => ?_⟩
  · have e1 : v (s f) = w (s f) := e0 f a b 0 (by decide)
    rw [e1, hf.1 42 (by unfold kQ; decide)]
    exact h.1 f a b
  · have e1 : v (s f) = w (s f) := e0 f a b 0 (by decide)
    rw [e1]
    refine ⟨(h.2 f a b).1, fun i hi => ⟨?_, ((h.2 f a b).2 i hi).2⟩⟩
    have := ((h.2 f a b).2 i hi).1
    unfold lnX at this ⊢
    rw [e0 f a b 1 (by decide), e0 f a b 2 (by decide), e0 f a b 3 (by decide), e1]
    exact this
theorem InX.q {w v : Wd} {s : Int → Nat} {LN : Int → List Lin} (h : InX w s LN) (hf : FrQ w v) : InX v s LN := by
  have e : ∀ c, (c = 1 ∨ c = 15 ∨ c = 7 ∨ c = 11 ∨ c = 13 ∨ c = 12) → v c = w c := fun c hc => hf.1 c (by unfold kQ; omega)
  refine ⟨h.1.q hf, ?_⟩
  rw [e 1 (by omega), e 15 (by omega), e 7 (by omega), e 11 (by omega), e 13 (by omega), e 12 (by omega)]
  exact h.2
/-- what is told of halls depends on cells that stay -/
theorem halls_q {w v : Wd} (hf : FrQ w v) (LN : Int → List Lin) (h now : Int) : ruX v LN h now = ruX w LN h now ∧ ofX v h now = ofX w h now ∧ feX v LN h now = feX w LN h now ∧ keX v LN h now = keX w LN h now := by
  have e : ∀ c, (c = 1 ∨ c = 15 ∨ c = 7 ∨ c = 11 ∨ c = 13 ∨ c = 12 ∨ c = 25 ∨ c = 8 ∨ c = 5 ∨ c = 24 ∨ c = 27 ∨ c = 19 ∨ c = 2 ∨ c = 3 ∨ c = 6 ∨ c = 26 ∨ c = 17 ∨ c = 18 ∨ c = 10 ∨ c = 14) → v c = w c := fun c hc => hf.1 c (by unfold kQ; omega)
  have hfc : fcX v (v 25 h) h now = fcX w (w 25 h) h now := by
    unfold fcX
    rw [e 25 (by omega), e 2 (by omega), e 7 (by omega), e 5 (by omega), e 3 (by omega), e 6 (by omega), e 8 (by omega), e 24 (by omega), e 15 (by omega), e 26 (by omega), e 17 (by omega), e 19 (by omega), e 18 (by omega)]
  have hj : jX v LN h now = jX w LN h now := by unfold jX; rw [hfc]
  have hr : ∀ bf, rsX v (v 25 h) h bf = rsX w (w 25 h) h bf := fun bf => by
    unfold rsX
    rw [e 25 (by omega), e 8 (by omega), e 5 (by omega), e 7 (by omega), e 24 (by omega), e 15 (by omega), e 27 (by omega), e 19 (by omega)]
  have ho : offXw v (v 25 h) now = offXw w (w 25 h) now := by
    unfold offXw
    rw [e 25 (by omega), e 5 (by omega), e 7 (by omega), e 10 (by omega), e 14 (by omega), e 12 (by omega), e 11 (by omega), e 13 (by omega), e 1 (by omega)]
  refine ⟨?_, ?_, ?_, ?_⟩
  · unfold ruX; rw [hj, hr]; rw [e 25 (by omega), e 1 (by omega)]
  · unfold ofX; rw [ho]; rw [e 25 (by omega), e 1 (by omega)]
  · unfold feX; rw [hj, e 25 (by omega), e 1 (by omega)]
  · unfold keX; rw [hj, e 25 (by omega), e 1 (by omega)]
/-- the first i halls are inspected and empty -/
def Insp (w v : Wd) (LN : Int → List Lin) (now i : Int) : Prop := FrQ w v ∧ v 21 = zeF (w 21) i ∧ ∀ h : Int, 0 ≤ h → h < i → v 82 h = ruX w LN h now ∧ v 83 h = ofX w h now ∧ v 84 h = feX w LN h now ∧ v 85 h = keX w LN h now
theorem Insp.step {w v u : Wd} {LN : Int → List Lin} {now i : Int} (h : Insp w v LN now i) (h0 : 0 ≤ i) (hF : FrI v u)
    (hj : ∀ j, u 82 j = (if j = i then ruX v LN i now else v 82 j) ∧ u 83 j = (if j = i then ofX v i now else v 83 j) ∧ u 84 j = (if j = i then feX v LN i now else v 84 j) ∧ u 85 j = (if j = i then keX v LN i now else v 85 j)) : Insp w (wu u 21 i 0) LN now (i + 1) := by
  obtain ⟨h1, h2, h3⟩ := h
  obtain ⟨k1, k2, k3, k4⟩ := halls_q h1 LN i now
  refine ⟨(h1.i hF).z, ?_, fun j j0 j1 => ?_⟩
  · rw [wu_up]
    funext k
    unfold updF
    have e21 : u 21 = v 21 := hF.1 21 (by decide) (by decide) (by decide) (by decide) (by decide) (by decide) (by decide) (by decide) (by decide) (by decide)
    rw [e21, h2]
    unfold zeF
    by_cases e : k = i
    · rw [if_pos e, if_pos (by omega)]
    · rw [if_neg e]
      by_cases e2 : 0 ≤ k ∧ k < i
      · rw [if_pos e2, if_pos (by omega)]
      · rw [if_neg e2, if_neg (by omega)]
  · obtain ⟨a1, a2, a3, a4⟩ := hj j
    rw [wu_ne (by decide), wu_ne (by decide), wu_ne (by decide), wu_ne (by decide), a1, a2, a3, a4]
    by_cases e : j = i
    · rw [if_pos e, if_pos e, if_pos e, if_pos e, k1, k2, k3, k4, e]
      exact ⟨rfl, rfl, rfl, rfl⟩
    · rw [if_neg e, if_neg e, if_neg e, if_neg e]
      exact h3 j j0 (by omega)
