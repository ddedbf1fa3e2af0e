/-! A WEEK, the reference, walked. -/
def FrN (w v : Wd) : Prop := (∀ c, c ≠ 141 → c ≠ 179 → c ≠ 180 → c ≠ 188 → v c = w c) ∧ ∀ j : Int, (j < 61 ∨ 64 < j) → v 141 j = w 141 j
theorem FrN.rf {w : Wd} : FrN w w := ⟨fun _ _ _ _ _ => rfl, fun _ _ => rfl⟩
theorem FrN.m {w v u : Wd} (h : FrN w v) (h2 : FrM3 v u) : FrN w u := ⟨fun c a b d e => (h2.1 c a b d).trans (h.1 c a b d e), fun j hj => (h2.2 j hj).trans (h.2 j hj)⟩
theorem FrN.u {w v : Wd} {j x : Int} (h : FrN w v) : FrN w (wu v 188 j x) := ⟨fun c a b d e => by rw [wu_ne e]; exact h.1 c a b d e, fun i hi => by rw [wu_ne (by decide)]; exact h.2 i hi⟩
theorem FrN.v {w v : Wd} (h : FrN w v) : FrV w v := ⟨fun c hc => h.1 c hc.1 hc.2.1 hc.2.2.1 hc.2.2.2.1, fun j hj => h.2 j hj.1⟩
/-- hall by hall: the first i are settled -/
def AccM (u v : Wd) (LN : Int → List Lin) (i : Int) : Prop := (∀ c, c ≠ 141 → c ≠ 179 → c ≠ 180 → c ≠ 160 → c ≠ 163 → c ≠ 164 → c ≠ 191 → v c = u c) ∧ (∀ j : Int, (j < 61 ∨ 64 < j) → v 141 j = u 141 j) ∧ v 160 = (fun h => if 0 ≤ h ∧ h < i then u 159 h * u 157 h else u 160 h) ∧ v 164 = (fun h => if 0 ≤ h ∧ h < i then u 164 h + u 159 h else u 164 h) ∧ v 163 = (fun h => if 0 ≤ h ∧ h < i then acM u LN (u 159) h else u 163 h) ∧ v 191 = (fun h => if 0 ≤ h ∧ h < i then ruM u LN h else u 191 h)
theorem AccM.z (u : Wd) (LN : Int → List Lin) : AccM u u LN 0 := by
  refine ⟨fun _ _ _ _ _ _ _ _ => rfl, fun _ _ => rfl, ?_, ?_, ?_, ?_⟩ <;> (funext h; rw [if_neg (by omega)])
theorem AccM.v {u v : Wd} {LN : Int → List Lin} {i : Int} (h : AccM u v LN i) : FrV u v := ⟨fun c hc => h.1 c hc.1 hc.2.1 hc.2.2.1 hc.2.2.2.2.2.2.2.2.1 hc.2.2.2.2.2.2.2.2.2.1 hc.2.2.2.2.2.2.2.2.2.2.1 hc.2.2.2.2.2.2.2.2.2.2.2, fun j hj => h.2.1 j hj.1⟩
theorem upd_if' {f g : Int → Int} {i x : Int} (h0 : 0 ≤ i) (hx : x = g i) : updF (fun h => if 0 ≤ h ∧ h < i then g h else f h) i x = fun h => if 0 ≤ h ∧ h < i + 1 then g h else f h := by
  funext h
  unfold updF
  by_cases e : h = i
  · rw [if_pos e, if_pos (by omega), e, hx]
  · rw [if_neg e]
    show (if 0 ≤ h ∧ h < i then g h else f h) = _
    by_cases e2 : 0 ≤ h ∧ h < i
    · rw [if_pos e2, if_pos (by omega)]
    · rw [if_neg e2, if_neg (by omega)]
theorem wu_upM {v : Wd} {k : Nat} {j x : Int} : wu v k j x k = updF (v k) j x := by funext i; rw [wu_at]; rfl
theorem AccM.step {u v x0 : Wd} {LN : Int → List Lin} {i a b1 b2 c : Int} (h : AccM u v LN i) (h0 : 0 ≤ i) (hx : FrM3 v x0) (ha : a = u 159 i * u 157 i) (hb : b1 = u 164 i + u 159 i) (hc : b2 = acM u LN (u 159) i) (hd : c = ruM u LN i) {w1 : Wd} (g0 : ∀ k, k ≠ 160 → k ≠ 163 → k ≠ 164 → k ≠ 191 → w1 k = x0 k) (g1 : w1 160 = updF (x0 160) i a) (g2 : w1 164 = updF (x0 164) i b1) (g3 : w1 163 = updF (x0 163) i b2) (g4 : w1 191 = updF (x0 191) i c) : AccM u w1 LN (i + 1) := by
  obtain ⟨h1, h2, h3, h4, h5, h6⟩ := h
  have e : ∀ k, (k = 160 ∨ k = 163 ∨ k = 164 ∨ k = 191) → x0 k = v k := fun k hk => hx.1 k (by omega) (by omega) (by omega)
  refine ⟨fun k q1 q2 q3 q4 q5 q6 q7 => (g0 k q4 q5 q6 q7).trans ((hx.1 k q1 q2 q3).trans (h1 k q1 q2 q3 q4 q5 q6 q7)), fun j hj => by rw [g0 141 (by decide) (by decide) (by decide) (by decide)]; exact (hx.2 j hj).trans (h2 j hj), ?_, ?_, ?_, ?_⟩
  · rw [g1, e 160 (by omega), h3]; exact upd_if' h0 ha
  · rw [g2, e 164 (by omega), h4]; exact upd_if' h0 hb
  · rw [g3, e 163 (by omega), h5]; exact upd_if' h0 hc
  · rw [g4, e 191 (by omega), h6]; exact upd_if' h0 hd
