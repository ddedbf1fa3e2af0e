/-! PASS, the class. -/
abbrev WKX (u : Wd) (n : Nat) : Nat → (Int → Int) × List (Int × Int) := wkG (fun c h => woX u c h) (capX u) (u 18) (u 63) (u 21) n
theorem send_S (u v : Wd) (c : Int) (K : (Int → Int) × List (Int × Int)) (hf : FrS u v) (hS : ∀ x, StX v (x, K)) (hO : OkS (capX u) (u 15 10).toNat c (u 63 c, K)) (hc : 0 ≤ c ∧ c < 16) (hn : 0 ≤ u 15 10 ∧ u 15 10 ≤ 16) (hn1 : u 1 9 ≤ 30) (hpi : ∀ j, 0 ≤ j → j < u 1 9 → 0 ≤ u 7 j ∧ u 7 j < 12) (hhd : ∀ j, 0 ≤ j → j < 12 → -3 ≤ u (66 + Int.toNat c) j ∧ u (66 + Int.toNat c) j ≤ 3) (hb01 : ∀ h, 0 ≤ h → h < u 15 10 → (u 82 h = 0 ∨ u 82 h = 1) ∧ (u 83 h = 0 ∨ u 83 h = 1)) (hst : ∀ h, 0 ≤ h → h < u 15 10 → 0 ≤ u 17 h ∧ u 17 h ≤ 999) :
    CallN 4 mX0_send [(2, 59), (0, c)] v (RUQ (fun w1 => FrS v w1 ∧ StX w1 (snG (woX u c) (capX u) (u 18) (u 15 10).toNat c (u 15 10).toNat (u 63 c, K.1, K.2)) ∧ OkS (capX u) (u 15 10).toNat c (snG (woX u c) (capX u) (u 18) (u 15 10).toNat c (u 15 10).toNat (u 63 c, K.1, K.2)))) := by
  have k : ∀ a, a ≠ 21 → a ≠ 59 → a ≠ 86 → a ≠ 87 → v a = u a := hf.1
  have e1 : woX v c = woX u c := funext (fun h => woX_s hf hc)
  have e15 : v 15 = u 15 := k 15 (by decide) (by decide) (by decide) (by decide)
  have e18 : v 18 = u 18 := k 18 (by decide) (by decide) (by decide) (by decide)
  have e17 : v 17 = u 17 := k 17 (by decide) (by decide) (by decide) (by decide)
  have e63 : v 63 = u 63 := k 63 (by decide) (by decide) (by decide) (by decide)
  have e2 : capX v = capX u := by unfold capX; rw [e17]
  have e21 : v 21 = K.1 := (hS 0).1
  have hz := c_X_send c v K.2 (by rw [e21]; exact hS _) (by rw [e2, e15, e63, e21]; exact hO) hc (by rw [e15]; exact hn) (by rw [k 1 (by decide) (by decide) (by decide) (by decide)]; exact hn1) (by rw [k 1 (by decide) (by decide) (by decide) (by decide), k 7 (by decide) (by decide) (by decide) (by decide)]; exact hpi) (by rw [k (66 + Int.toNat c) (by omega) (by omega) (by omega) (by omega)]; exact hhd) (by rw [k 82 (by decide) (by decide) (by decide) (by decide), k 83 (by decide) (by decide) (by decide) (by decide), e15]; exact hb01) (by rw [e17, e15]; exact hst)
  rw [e1, e2, e18, e15, e63, e21] at hz
  exact hz
/-- wear behind the first i halls -/
def weF (u : Wd) : Nat → Int → Int
  | 0 => u 8
  | i + 1 => if u 82 i = 1 ∧ (0 ≤ u 25 i ∧ u 25 i < u 1 9) then updF (weF u i) (u 25 i) (weF u i (u 25 i) + 1) else weF u i
theorem weF_bd {u : Wd} (h : ∀ j, 0 ≤ j → j < u 1 9 → 0 ≤ u 8 j ∧ u 8 j ≤ 100) {j : Int} (h0 : 0 ≤ j) (h1 : j < u 1 9) : ∀ i : Nat, 0 ≤ weF u i j ∧ weF u i j ≤ 100 + i
  | 0 => by have := h j h0 h1; show 0 ≤ u 8 j ∧ u 8 j ≤ 100 + ((0 : Nat) : Int); omega
  | i + 1 => by
    have ih := weF_bd h h0 h1 i
    rw [weF]
    split
    · unfold updF
      by_cases e : j = u 25 i
      · rw [if_pos e, ← e]; omega
      · rw [if_neg e]; omega
    · omega
def AccS (u v : Wd) (i : Int) : Prop := (∀ c, c ≠ 8 → c ≠ 20 → c ≠ 22 → c ≠ 23 → v c = u c) ∧ v 22 = (fun h => if 0 ≤ h ∧ h < i then u 21 h * u 18 h else u 22 h) ∧ v 23 = (fun h => if 0 ≤ h ∧ h < i then u 23 h + u 21 h else u 23 h) ∧ v 20 = (fun h => if 0 ≤ h ∧ h < i then acC u h else u 20 h) ∧ v 8 = weF u i.toNat
theorem AccS.z (u : Wd) : AccS u u 0 := by
  refine ⟨fun _ _ _ _ _ => rfl, ?_, ?_, ?_, rfl⟩ <;> (funext h; rw [if_neg (by omega)])
theorem upd_if {f g : Int → Int} {i x : Int} (h0 : 0 ≤ i) (hx : x = g i) : updF (fun h => if 0 ≤ h ∧ h < i then g h else f h) i x = fun h => if 0 ≤ h ∧ h < i + 1 then g h else f h := by
  funext h
  unfold updF
  by_cases e : h = i
  · rw [if_pos e, if_pos (by omega), e, hx]
  · rw [if_neg e]
    show (if 0 ≤ h ∧ h < i then g h else f h) = _
    by_cases e2 : 0 ≤ h ∧ h < i
    · rw [if_pos e2, if_pos (by omega)]
    · rw [if_neg e2, if_neg (by omega)]
theorem AccS.step {u v w1 : Wd} {i : Int} (h : AccS u v i) (h0 : 0 ≤ i) (g0 : ∀ c, c ≠ 8 → c ≠ 20 → c ≠ 22 → c ≠ 23 → w1 c = v c) (g1 : w1 22 = updF (v 22) i (v 21 i * v 18 i)) (g2 : w1 23 = updF (v 23) i (v 23 i + v 21 i)) (g3 : w1 20 = updF (v 20) i (acC v i)) (g4 : w1 8 = (if v 82 i = 1 ∧ (0 ≤ v 25 i ∧ v 25 i < v 1 9) then updF (v 8) (v 25 i) (v 8 (v 25 i) + 1) else v 8)) : AccS u w1 (i + 1) := by
  obtain ⟨h1, h2, h3, h4, h5⟩ := h
  have e : ∀ c, (c = 21 ∨ c = 18 ∨ c = 19 ∨ c = 24 ∨ c = 15 ∨ c = 28 ∨ c = 25 ∨ c = 1 ∨ c = 85 ∨ c = 82 ∨ c = 84) → v c = u c := fun c hc => h1 c (by omega) (by omega) (by omega) (by omega)
  have e20 : v 20 i = u 20 i := by rw [h4]; exact if_neg (by omega)
  have e23 : v 23 i = u 23 i := by rw [h3]; exact if_neg (by omega)
  have hac : acC v i = acC u i := by
    unfold acC
    rw [e20, e 21 (by omega), e 18 (by omega), e 19 (by omega), e 24 (by omega), e 15 (by omega), e 28 (by omega), e 25 (by omega), e 1 (by omega), e 85 (by omega), e 82 (by omega), e 84 (by omega)]
  refine ⟨fun c a b d f => (g0 c a b d f).trans (h1 c a b d f), ?_, ?_, ?_, ?_⟩
  · rw [g1, h2, e 21 (by omega), e 18 (by omega)]; exact upd_if h0 rfl
  · rw [g2, e23, h3, e 21 (by omega)]; exact upd_if h0 rfl
  · rw [g3, hac, h4]; exact upd_if h0 rfl
  · rw [g4, h5, e 82 (by omega), e 25 (by omega), e 1 (by omega), toN_s h0, weF, toN_c h0]
/-- heard behind the first k goings -/
def hdX (u : Wd) (gs : List (Int × Int)) : Nat → Int → Int → Int
  | 0 => fun o j => u (66 + Int.toNat o) j
  | k + 1 => fun o j => if (0 ≤ u 25 (gs.getD k (0, 0)).2 ∧ u 25 (gs.getD k (0, 0)).2 < u 1 9) ∧ (o < u 59 9 ∧ u 61 o = u 61 (gs.getD k (0, 0)).1 ∧ j = u 7 (u 25 (gs.getD k (0, 0)).2)) then clV (hdX u gs k o j + likX u (gs.getD k (0, 0)).1 (gs.getD k (0, 0)).2) else hdX u gs k o j
theorem clX_bd (x : Int) : -3 ≤ clV x ∧ clV x ≤ 3 := by unfold clV mxL mnL; repeat' split; all_goals omega
theorem hdX_bd {u : Wd} {gs : List (Int × Int)} (h : ∀ o, 0 ≤ o → o < u 59 9 → ∀ j, 0 ≤ j → j < 12 → -3 ≤ u (66 + Int.toNat o) j ∧ u (66 + Int.toNat o) j ≤ 3) {o j : Int} (ho : 0 ≤ o ∧ o < u 59 9) (hj : 0 ≤ j ∧ j < 12) : ∀ k : Nat, -3 ≤ hdX u gs k o j ∧ hdX u gs k o j ≤ 3
  | 0 => h o ho.1 ho.2 j hj.1 hj.2
  | k + 1 => by
    have ih := hdX_bd (gs := gs) h ho hj k
    rw [hdX]
    dsimp only
    split
    · exact clX_bd _
    · exact ih
def SprS (u v : Wd) (gs : List (Int × Int)) (k : Nat) : Prop := (∀ c, ¬ (66 ≤ c ∧ c < 82) → v c = u c) ∧ ∀ o j, 0 ≤ o → o < 16 → v (66 + Int.toNat o) j = hdX u gs k o j
theorem SprS.step {u v w1 : Wd} {gs : List (Int × Int)} {k : Nat} (h : SprS u v gs k) (g0 : ∀ c, ¬ (66 ≤ c ∧ c < 82) → w1 c = v c) (g1 : ∀ o j, 0 ≤ o → o < 16 → w1 (66 + Int.toNat o) j = spV v (gs.getD k (0, 0)).1 (gs.getD k (0, 0)).2 o j) : SprS u w1 gs (k + 1) := by
  obtain ⟨h1, h2⟩ := h
  have e : ∀ c, (c = 25 ∨ c = 1 ∨ c = 59 ∨ c = 61 ∨ c = 7 ∨ c = 4 ∨ c = 62 ∨ c = 83) → v c = u c := fun c hc => h1 c (by omega)
  refine ⟨fun c hc => (g0 c hc).trans (h1 c hc), fun o j a b => ?_⟩
  rw [g1 o j a b]
  unfold spV likX
  rw [h2 o j a b, e 25 (by omega), e 1 (by omega), e 59 (by omega), e 61 (by omega), e 7 (by omega), e 4 (by omega), e 62 (by omega), e 83 (by omega), hdX]
  rfl
