/-! WIRE: the costs by places. -/
/-- the k-th of P below n -/
def nthP (P : Ps) : Nat → Nat → Int
  | 0, _ => 0
  | n + 1, k => if P n = true ∧ cdP P n = k then n else nthP P n k
theorem nthP_of {P : Ps} {j : Nat} (hj : P j = true) : ∀ n : Nat, j < n → nthP P n (cdP P j) = j
  | 0, h => absurd h (by omega)
  | n + 1, h => by
    rw [nthP]
    by_cases e : j = n
    · subst e; rw [if_pos ⟨hj, rfl⟩]
    · have hlt := cdP_lt (P := P) (a := j) (b := n) (by omega) hj
      rw [if_neg (fun q => by omega)]
      exact nthP_of hj n (by omega)
theorem nthP_bd {P : Ps} {n k : Nat} (h : k < cdP P n) : 0 ≤ nthP P n k ∧ nthP P n k < n := by
  obtain ⟨j, j1, j2, j3⟩ := cdP_ex (P := P) n k h
  rw [← j3, nthP_of j2 n j1]
  omega
theorem niP_bB {N : Int → Int} {Q : Ps} {B : Int} : ∀ n : Nat, (∀ k : Int, 0 ≤ k → k < n → 0 ≤ N k ∧ N k ≤ B) → 0 ≤ niP N Q n ∧ niP N Q n ≤ B * n
  | 0, _ => by simp [niP]
  | n + 1, h => by
    have ih := niP_bB (Q := Q) n (fun k a b => h k a (by omega))
    have h2 := h n (by omega) (by omega)
    rw [niP]
    have e : B * ((n + 1 : Nat) : Int) = B * n + B := by rw [Int.natCast_add, Int.mul_add]; simp
    split <;> omega
def abD (a b : Int) : Int := if b < a then a - b else b - a
/-- how long from town i to the place k and there -/
def dW (tf wf e : Int → Int) (i k : Int) : Int := (if 0 ≤ i ∧ i ≤ 3 then abD i (tf (e k)) else 0) + wf (e k)
def cWi (tf wf lf e : Int → Int) (m : Nat) : Int → Ps → Nat → Int := fun i P k => dW tf wf e i k * niP (fun k => lf (e k)) P m
def tWi (tf e : Int → Int) : Nat → Int := fun k => tf (e k)
def WH (tf wf lf e : Int → Int) (m : Nat) : Prop := m ≤ 9 ∧ ∀ k : Int, 0 ≤ k → k < m → (0 ≤ e k ∧ e k < 16) ∧ (0 ≤ tf (e k) ∧ tf (e k) ≤ 3) ∧ (1 ≤ wf (e k) ∧ wf (e k) ≤ 9) ∧ (0 ≤ lf (e k) ∧ lf (e k) ≤ 999)
section WI
variable {tf wf lf e : Int → Int} {m : Nat}
theorem dW_bd (h : WH tf wf lf e m) {i k : Int} (h0 : 0 ≤ k) (h1 : k < m) : 1 ≤ dW tf wf e i k ∧ dW tf wf e i k ≤ 12 := by
  have := h.2 k h0 h1
  unfold dW abD
  split
  · split <;> omega
  · omega
theorem loW_bd (h : WH tf wf lf e m) (P : Ps) : 0 ≤ niP (fun k => lf (e k)) P m ∧ niP (fun k => lf (e k)) P m ≤ 8991 := by
  have h1 := niP_bB (N := fun k => lf (e k)) (Q := P) (B := 999) m (fun k a b => (h.2 k a b).2.2.2)
  have := h.1
  omega
theorem cWi_bd (h : WH tf wf lf e m) {i : Int} {P : Ps} {k : Nat} (hk : k < m) : 0 ≤ cWi tf wf lf e m i P k ∧ cWi tf wf lf e m i P k ≤ 107892 := by
  have h1 := dW_bd h (i := i) (k := (k : Int)) (by omega) (by omega)
  have h2 := loW_bd h P
  have h3 := mul_bd (x := dW tf wf e i k) (y := niP (fun k => lf (e k)) P m) (X := 12) (Y := 8991) ⟨by omega, h1.2⟩ h2
  unfold cWi
  omega
theorem VW_bd (h : WH tf wf lf e m) (i : Int) (P : Ps) : 0 ≤ VV (cWi tf wf lf e m) (tWi tf e) m i P ∧ VV (cWi tf wf lf e m) (tWi tf e) m i P ≤ 971028 := by
  have h1 := VV_bd (c := cWi tf wf lf e m) (t := tWi tf e) (n := m) (C := 107892) (by decide) (fun i P j hj _ => cWi_bd h hj) (cdP P m) i P rfl
  have h2 := cdP_le P m
  have := h.1
  omega
/-- what comes to in all: lost so far, so many weeks gone -/
def TW (tf wf lf e : Int → Int) (m : Nat) (time lost i : Int) (P : Ps) : Int := lost + time * niP (fun k => lf (e k)) P m + VV (cWi tf wf lf e m) (tWi tf e) m i P
def TA (tf wf lf e : Int → Int) (m : Nat) (time lost i : Int) (P : Ps) (k : Nat) : Int := lost + time * niP (fun k => lf (e k)) P m + afV (cWi tf wf lf e m) (tWi tf e) m i P k
theorem TW_step {time lost i : Int} {P : Ps} {k : Nat} (hk : k < m) (hp : P k = true) : TW tf wf lf e m (time + dW tf wf e i k) (lost + lf (e k) * (time + dW tf wf e i k)) (tf (e k)) (rmP P k) = TA tf wf lf e m time lost i P k := by
  have h1 := (niP_rm (N := fun k => lf (e k)) hp m).1 hk
  unfold TW TA afV cWi
  rw [← h1]
  show lost + lf (e k) * (time + dW tf wf e i k) + (time + dW tf wf e i k) * niP (fun k => lf (e k)) (rmP P k) m + VV (cWi tf wf lf e m) (tWi tf e) m (tf (e k)) (rmP P k) = lost + time * (niP (fun k => lf (e k)) (rmP P k) m + lf (e k)) + (dW tf wf e i k * (niP (fun k => lf (e k)) (rmP P k) m + lf (e k)) + VV (cWi tf wf lf e m) (tWi tf e) m (tf (e k)) (rmP P k))
  generalize niP (fun k => lf (e k)) (rmP P k) m = A
  generalize lf (e k) = B
  generalize dW tf wf e i k = D
  generalize VV (cWi tf wf lf e m) (tWi tf e) m (tf (e k)) (rmP P k) = V
  rw [Int.mul_add, Int.mul_add, Int.mul_add, Int.add_mul, Int.mul_comm B time, Int.mul_comm B D]
  omega
end WI
theorem sqV_S {c : Int → Ps → Nat → Int} {t : Nat → Int} {n : Nat} {i : Int} {P : Ps} (k : Nat) : sqV c t n i P (k + 1) = (fun X : Int × Ps => (nxV c t n X.1 X.2, t (nxV c t n X.1 X.2).toNat, rmP X.2 (nxV c t n X.1 X.2).toNat)) (sqV c t n i P k).2 := rfl
theorem sqV_cg {c : Int → Ps → Nat → Int} {t : Nat → Int} {n : Nat} {i j : Int} {P Q : Ps} {a b : Nat} (h : (sqV c t n i P a).2 = (sqV c t n j Q b).2) : sqV c t n i P (a + 1) = sqV c t n j Q (b + 1) := by
  rw [sqV_S, sqV_S, h]
theorem sqV_shift {c : Int → Ps → Nat → Int} {t : Nat → Int} {n : Nat} {i : Int} {P : Ps} {b : Nat} (h : nxV c t n i P = b) : ∀ s : Nat, (sqV c t n i P (s + 1)).2 = (sqV c t n (t b) (rmP P b) s).2 ∧ sqV c t n i P (s + 2) = sqV c t n (t b) (rmP P b) (s + 1)
  | 0 => by
    have e1 : (sqV c t n i P (0 + 1)).2 = (sqV c t n (t b) (rmP P b) 0).2 := by
      show (t (nxV c t n i P).toNat, rmP P (nxV c t n i P).toNat) = (t b, rmP P b)
      rw [h]; rfl
    exact ⟨e1, sqV_cg e1⟩
  | s + 1 => by
    obtain ⟨h1, h2⟩ := sqV_shift h s
    have h3 : (sqV c t n i P (s + 1 + 1)).2 = (sqV c t n (t b) (rmP P b) (s + 1)).2 := congrArg Prod.snd h2
    exact ⟨h3, sqV_cg h3⟩
theorem sqV_1 {c : Int → Ps → Nat → Int} {t : Nat → Int} {n : Nat} {i : Int} {P : Ps} : (sqV c t n i P 1).1 = nxV c t n i P := by rw [sqV, sqV]
/-- whether a total beats the best so far -/
def Bet (w : Wd) (T : Int) : Prop := w 141 85 = -1 ∨ T < w 141 85
/-- the best so far, and its order, after a total T with order f has been looked at -/
def Up (w v : Wd) (n m : Int) (T : Int) (f : Nat → Int) : Prop := (Bet w T → v 141 85 = T ∧ (∀ t, 0 ≤ t → t < n → v 200 t = w 199 t) ∧ ∀ s : Nat, n + s < m → v 200 (n + s) = f s) ∧ (¬ Bet w T → v 141 85 = w 141 85 ∧ ∀ t, 0 ≤ t → t < m → v 200 t = w 200 t)
def FrW (w v : Wd) : Prop := (∀ c, c ≠ 199 → c ≠ 200 → c ≠ 141 → v c = w c) ∧ ∀ j, j ≠ 85 → v 141 j = w 141 j
theorem FrW.rf {w : Wd} : FrW w w := ⟨fun _ _ _ _ => rfl, fun _ _ => rfl⟩
theorem FrW.tr {w v u : Wd} (h : FrW w v) (h2 : FrW v u) : FrW w u := ⟨fun c a b d => (h2.1 c a b d).trans (h.1 c a b d), fun j hj => (h2.2 j hj).trans (h.2 j hj)⟩
theorem FrW.u9 {w v : Wd} {j x : Int} (h : FrW w v) : FrW w (wu v 199 j x) := ⟨fun c a b d => by rw [wu_ne a]; exact h.1 c a b d, fun j hj => by rw [wu_ne (by decide)]; exact h.2 j hj⟩
/-- the loop over the places: a is the best place so far -/
def LpI (w v : Wd) (n m a : Int) (T : Nat → Int) (f : Nat → Nat → Int) : Prop := (a = -1 → v 141 85 = w 141 85 ∧ ∀ t, 0 ≤ t → t < m → v 200 t = w 200 t) ∧ (a ≠ -1 → Up w v n m (T a.toNat) (f a.toNat))
theorem Lp_step {w v v1 : Wd} {n m a x : Int} {k : Nat} {T : Nat → Int} {f : Nat → Nat → Int} {g : Nat → Int} (hn : 0 ≤ n ∧ n < m) (ha : -1 ≤ a) (hT : ∀ b : Nat, a = b → 0 ≤ T b) (hI : LpI w v n m a T f) (ht : ∀ t, 0 ≤ t → t < n → v 199 t = w 199 t) (hf0 : f k 0 = x) (hfs : ∀ s, f k (s + 1) = g s)
    (hU : Up (wu v 199 n x) v1 (n + 1) m (T k) g) : LpI w v1 n m (if a = -1 ∨ T k < T a.toNat then (k : Int) else a) T f := by
  have e85 : wu v 199 n x 141 85 = v 141 85 := rfl
  have e200 : ∀ t, wu v 199 n x 200 t = v 200 t := fun _ => rfl
  have e199 : ∀ t, 0 ≤ t → t < n → wu v 199 n x 199 t = w 199 t := fun t a b => by rw [wu_at, if_neg (by omega)]; exact ht t a b
  have e199n : wu v 199 n x 199 n = x := wu_same _ _ _ _
  have hk : (k : Int).toNat = k := rfl
  -- the new total is taken
  have take : Bet (wu v 199 n x) (T k) → Up w v1 n m (T k) (f k) ∨ ¬ Bet w (T k) := fun hb => by
    by_cases c : Bet w (T k)
    · left
      obtain ⟨u1, u2, u3⟩ := hU.1 hb
      refine ⟨fun _ => ⟨u1, fun t a b => by rw [u2 t a (by omega)]; exact e199 t a b, fun s hs => ?_⟩, fun q => absurd c q⟩
      rcases s with _ | s
      · rw [show n + ((0 : Nat) : Int) = n by omega, u2 n hn.1 (by omega), e199n, hf0]
      · rw [show n + ((s + 1 : Nat) : Int) = n + 1 + s by omega, u3 s (by omega), hfs]
    · exact Or.inr c
  by_cases ca : a = -1
  · obtain ⟨i1, i2⟩ := hI.1 ca
    rw [if_pos (Or.inl ca)]
    refine ⟨fun q => absurd q (by omega), fun _ => ?_⟩
    rw [hk]
    by_cases c : Bet w (T k)
    · have hb : Bet (wu v 199 n x) (T k) := by unfold Bet at c ⊢; rw [e85, i1]; exact c
      rcases take hb with q | q
      · exact q
      · exact absurd c q
    · have hb : ¬ Bet (wu v 199 n x) (T k) := fun z => c (by unfold Bet at z ⊢; rw [e85, i1] at z; exact z)
      obtain ⟨u1, u2⟩ := hU.2 hb
      exact ⟨fun q => absurd q c, fun _ => ⟨by rw [u1, e85, i1], fun t a b => by rw [u2 t a b, e200, i2 t a b]⟩⟩
  · have hA := hI.2 ca
    by_cases cT : T k < T a.toNat
    · rw [if_pos (Or.inr cT)]
      refine ⟨fun q => absurd q (by omega), fun _ => ?_⟩
      rw [hk]
      by_cases c1 : Bet w (T a.toNat)
      · obtain ⟨i1, i2, i3⟩ := hA.1 c1
        have hb : Bet (wu v 199 n x) (T k) := by unfold Bet; rw [e85, i1]; exact Or.inr cT
        rcases take hb with q | q
        · exact q
        · exfalso
          unfold Bet at c1 q
          omega
      · obtain ⟨i1, i2⟩ := hA.2 c1
        by_cases c : Bet w (T k)
        · have hb : Bet (wu v 199 n x) (T k) := by unfold Bet at c ⊢; rw [e85, i1]; exact c
          rcases take hb with q | q
          · exact q
          · exact absurd c q
        · have hb : ¬ Bet (wu v 199 n x) (T k) := fun z => c (by unfold Bet at z ⊢; rw [e85, i1] at z; exact z)
          obtain ⟨u1, u2⟩ := hU.2 hb
          exact ⟨fun q => absurd q c, fun _ => ⟨by rw [u1, e85, i1], fun t a b => by rw [u2 t a b, e200, i2 t a b]⟩⟩
    · rw [if_neg (fun q => q.elim ca cT)]
      refine ⟨fun q => absurd q ca, fun _ => ?_⟩
      by_cases c1 : Bet w (T a.toNat)
      · obtain ⟨i1, i2, i3⟩ := hA.1 c1
        have hb : ¬ Bet (wu v 199 n x) (T k) := fun z => by
          unfold Bet at z
          rw [e85, i1] at z
          have := hT a.toNat (by omega)
          omega
        obtain ⟨u1, u2⟩ := hU.2 hb
        exact ⟨fun _ => ⟨by rw [u1, e85, i1], fun t a b => by rw [u2 t a (by omega), e200, i2 t a b], fun s hs => by rw [u2 _ (by omega) hs, e200, i3 s hs]⟩, fun q => absurd c1 q⟩
      · obtain ⟨i1, i2⟩ := hA.2 c1
        have hb : ¬ Bet (wu v 199 n x) (T k) := fun z => by
          unfold Bet at z c1
          rw [e85, i1] at z
          omega
        obtain ⟨u1, u2⟩ := hU.2 hb
        exact ⟨fun q => absurd q c1, fun _ => ⟨by rw [u1, e85, i1], fun t a b => by rw [u2 t a b, e200, i2 t a b]⟩⟩
/-- the places below m that are not used -/
def UP (m : Nat) (s : Int) : Ps := fun k => decide (k < m) && !(mbP s k)
theorem UP_t {m : Nat} {s : Int} {k : Nat} : UP m s k = true ↔ k < m ∧ mbP s k = false := by unfold UP; simp
theorem UP_or {m : Nat} {s l : Int} {k : Nat} (h1 : mbP l k = true) (h2 : ∀ x, x ≠ k → mbP l x = mbP s x) : UP m l = rmP (UP m s) k := by
  funext x
  unfold rmP
  apply Bool.eq_iff_iff.mpr
  rw [Bool.and_eq_true, UP_t, UP_t, Bool.not_eq_true', decide_eq_false_iff_not]
  constructor
  · rintro ⟨a, b⟩
    by_cases e : x = k
    · subst e; rw [h1] at b; cases b
    · rw [h2 _ e] at b
      exact ⟨⟨a, b⟩, e⟩
  · rintro ⟨⟨a, b⟩, e⟩
    exact ⟨a, by rw [h2 _ e]; exact b⟩
theorem UP_full {m : Nat} (hm : m < 31) : mbP (((2 ^ m - 1 : Nat) : Int)) = UP m 0 := by
  funext x
  unfold UP mbP
  show (2 ^ m - 1).testBit x = (decide (x < m) && !(Nat.testBit (0 : Int).toNat x))
  rw [Nat.testBit_two_pow_sub_one]
  simp
theorem cdP_UP0 {m : Nat} : ∀ n : Nat, n ≤ m → cdP (UP m 0) n = n
  | 0, _ => rfl
  | n + 1, h => by
    rw [cdP, cdP_UP0 n (by omega), if_pos (UP_t.mpr ⟨by omega, show mbP 0 n = false by unfold mbP; exact Nat.zero_testBit n⟩)]
/-- what the answer is -/
def wiV (tf wf lf : Int → Int) (n S q : Int) : Int := if ((1 ≤ S ∧ S ≤ ishl 1 n - 1) ∧ ppI S ≤ 9) ∧ (0 ≤ q ∧ q ≤ ppI S) then
  (if q = 0 then VV (cWi tf wf lf (fun k => nthP (mbP S) n.toNat k.toNat) (cdP (mbP S) n.toNat)) (tWi tf (fun k => nthP (mbP S) n.toNat k.toNat)) (cdP (mbP S) n.toNat) 0 (UP (cdP (mbP S) n.toNat) 0)
   else nthP (mbP S) n.toNat (sqV (cWi tf wf lf (fun k => nthP (mbP S) n.toNat k.toNat) (cdP (mbP S) n.toNat)) (tWi tf (fun k => nthP (mbP S) n.toNat k.toNat)) (cdP (mbP S) n.toNat) 0 (UP (cdP (mbP S) n.toNat) 0) q.toNat).1.toNat) else -1
