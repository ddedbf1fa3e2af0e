/-! A WEEK, the reference. -/
def kV (c : Nat) : Prop := c ≠ 141 ∧ c ≠ 179 ∧ c ≠ 180 ∧ c ≠ 188 ∧ c ≠ 187 ∧ c ≠ 159 ∧ c ≠ 189 ∧ c ≠ 190 ∧ c ≠ 160 ∧ c ≠ 163 ∧ c ≠ 164 ∧ c ≠ 191
def jV (j : Int) : Prop := (j < 61 ∨ 64 < j) ∧ j ≠ 75
/-- what the loops of a week leave, up to the words -/
def FrV (w v : Wd) : Prop := (∀ c, kV c → v c = w c) ∧ ∀ j : Int, jV j → v 141 j = w 141 j
theorem FrV.rf {w : Wd} : FrV w w := ⟨fun _ _ => rfl, fun _ _ => rfl⟩
theorem FrV.m {w v u : Wd} (h : FrV w v) (h2 : FrM3 v u) : FrV w u := ⟨fun c hc => (h2.1 c hc.1 hc.2.1 hc.2.2.1).trans (h.1 c hc), fun j hj => (h2.2 j hj.1).trans (h.2 j hj)⟩
theorem FrV.t {w v u : Wd} (h : FrV w v) (h2 : FrT v u) : FrV w u := ⟨fun c hc => (h2.1 c hc.2.2.2.2.1 hc.2.2.2.2.2.1 hc.2.2.2.2.2.2.1 hc.2.2.2.2.2.2.2.1 hc.1).trans (h.1 c hc), fun j hj => (h2.2 j hj.2).trans (h.2 j hj)⟩
theorem FrV.u {w v : Wd} {k : Nat} {j x : Int} (h : FrV w v) (hk : ¬ kV k) (h1 : k ≠ 141) : FrV w (wu v k j x) := ⟨fun c hc => by rw [wu_ne (fun e => hk (by rw [← e]; exact hc))]; exact h.1 c hc, fun i hi => by rw [wu_ne (fun e : (141 : Nat) = k => h1 e.symm)]; exact h.2 i hi⟩
theorem InM.v {w v : Wd} {LN : Int → List Lin} (h : InM w LN) (hf : FrV w v) : InM v LN := by
  have e : ∀ c, (c = 147 ∨ c = 151 ∨ c = 153 ∨ c = 152 ∨ c = 186) → v c = w c := fun c hc => hf.1 c (by unfold kV; omega)
  refine ⟨h.1.e (fun c hc => hf.1 c (by unfold kV; omega)), ?_⟩
  rw [hf.2 2 (by unfold jV; omega), hf.2 5 (by unfold jV; omega), hf.2 3 (by unfold jV; omega), e 147 (by omega), e 151 (by omega), e 153 (by omega), e 152 (by omega), e 186 (by omega)]
  exact h.2
theorem halls_v {w v : Wd} (hf : FrV w v) (LN : Int → List Lin) : (∀ h, prM v h = prM w h) ∧ (∀ h, jM v LN h = jM w LN h) ∧ (∀ p h bf, whV v p h bf = whV w p h bf) ∧ (∀ p k, offMw v p k = offMw w p k) ∧ ∀ c h, wvM v LN c h = wvM w LN c h := by
  have e : ∀ c, (c = 149 ∨ c = 142 ∨ c = 147 ∨ c = 145 ∨ c = 143 ∨ c = 146 ∨ c = 148 ∨ c = 168 ∨ c = 165 ∨ c = 156 ∨ c = 158 ∨ c = 157 ∨ c = 166 ∨ c = 150 ∨ c = 154 ∨ c = 152 ∨ c = 151 ∨ c = 153 ∨ c = 155 ∨ c = 181 ∨ c = 185 ∨ c = 182 ∨ c = 144 ∨ c = 183 ∨ c = 186) → v c = w c := fun c hc => hf.1 c (by unfold kV; omega)
  have f0 : v 141 0 = w 141 0 := hf.2 0 (by unfold jV; omega)
  have f2 : v 141 2 = w 141 2 := hf.2 2 (by unfold jV; omega)
  have f3 : v 141 3 = w 141 3 := hf.2 3 (by unfold jV; omega)
  have f5 : v 141 5 = w 141 5 := hf.2 5 (by unfold jV; omega)
  have hp : ∀ h, prM v h = prM w h := fun h => by unfold prM; rw [e 149 (by omega), f2]
  have hfc : ∀ p h, fcM v p h = fcM w p h := fun p h => by
    unfold fcM
    rw [e 142 (by omega), e 147 (by omega), e 145 (by omega), e 143 (by omega), e 146 (by omega), e 148 (by omega), e 168 (by omega), e 165 (by omega), e 156 (by omega), e 158 (by omega), e 157 (by omega), f0, f5]
  have hj : ∀ h, jM v LN h = jM w LN h := fun h => by unfold jM; rw [hp, hfc]
  have hw : ∀ p h bf, whV v p h bf = whV w p h bf := fun p h bf => by
    unfold whV
    rw [e 148 (by omega), e 145 (by omega), e 147 (by omega), e 168 (by omega), e 166 (by omega), e 143 (by omega), e 158 (by omega), f5]
  have ho : ∀ p k, offMw v p k = offMw w p k := fun p k => by
    unfold offMw
    rw [e 145 (by omega), e 147 (by omega), e 150 (by omega), e 154 (by omega), e 152 (by omega), e 151 (by omega), e 153 (by omega), f3]
  refine ⟨hp, hj, hw, ho, fun c h => ?_⟩
  unfold wvM
  rw [hp, hj, hw, ho, e 155 (by omega), e 181 (by omega), e 185 (by omega), e 157 (by omega), e 143 (by omega), e 147 (by omega), e 182 (by omega), e 144 (by omega), e 183 (by omega), e 186 (by omega), f0]
/-- whether a hall's print runs, what the hall has behind the week, the reference -/
def ruM (w : Wd) (LN : Int → List Lin) (h : Int) : Int := if prM w h = -1 then 0 else if whV w (prM w h) h (jM w LN h).1 = 0 then 1 else 0
def seM (w : Wd) (h : Int) : Int := fst (w 168) h (w 141 5).toNat
def acM (w : Wd) (LN : Int → List Lin) (lk : Int → Int) (h : Int) : Int := (if ruM w LN h = 1 then w 163 h + (lk h * w 157 h - (jM w LN h).2.2.1) else w 163 h) - ((if seM w h = -1 then 0 else w 167 (seM w h)) + 3 * w 158 h + (if prM w h ≠ -1 ∧ w 158 h < (jM w LN h).2.2.2 then 9 * ((jM w LN h).2.2.2 - w 158 h) else 0))
theorem jM_bd {w : Wd} {LN : Int → List Lin} {h : Int} : (0 ≤ (jM w LN h).2.2.1 ∧ (jM w LN h).2.2.1 ≤ 299997) ∧ (jM w LN h).2.2.2 ≤ 40 := by
  have h1 := jdA_fee (F := fcM w (prM w h) h) (LN := LN) 3
  unfold jM jdF mnL
  refine ⟨by dsimp only; omega, ?_⟩
  dsimp only
  split <;> omega
/-- worths below place (c, h), rows first -/
def WoM (w v : Wd) (LN : Int → List Lin) (c h : Int) : Prop := ∀ c1 h1, 0 ≤ c1 → 0 ≤ h1 → h1 < w 141 4 → (c1 < c ∨ (c1 = c ∧ h1 < h)) → v 188 (16 * c1 + h1) = wvM w LN c1 h1
