/-! WEEKS, COMPARED: what a week gives, told without the worlds between. -/
/-- wear behind the first i halls -/
def weG (r p f : Int → Int) : Nat → Int → Int
  | 0 => f
  | i + 1 => if r i = 1 then updF (weG r p f i) (p i) (weG r p f i (p i) + 1) else weG r p f i
theorem weF_G {u : Wd} {r : Int → Int} : ∀ n : Nat, (∀ i : Int, 0 ≤ i → i < n → ((u 82 i = 1 ∧ (0 ≤ u 25 i ∧ u 25 i < u 1 9)) ↔ r i = 1)) → weF u n = weG r (u 25) (u 8) n
  | 0, _ => rfl
  | n + 1, h => by
    have ih := weF_G n (fun i a b => h i a (by omega))
    have hn := h (n : Int) (by omega) (by omega)
    rw [weF, weG, ih]
    by_cases g : r n = 1
    · rw [if_pos g, if_pos (hn.mpr g)]
    · rw [if_neg g, if_neg (fun z => g (hn.mp z))]
theorem weM_G {v : Wd} {r q : Int → Int} : ∀ n : Nat, (∀ i : Int, 0 ≤ i → i < n → v 191 i = r i ∧ prM v i = q i) → weM v n = weG r q (v 148) n
  | 0, _ => rfl
  | n + 1, h => by
    have ih := weM_G n (fun i a b => h i a (by omega))
    have hn := h (n : Int) (by omega) (by omega)
    rw [weM, weG, ih, hn.1, hn.2]
theorem weG_c {r r' q q' f : Int → Int} : ∀ n : Nat, (∀ i : Int, 0 ≤ i → i < n → r i = r' i ∧ q i = q' i) → weG r q f n = weG r' q' f n
  | 0, _ => rfl
  | n + 1, h => by
    have ih := weG_c (f := f) n (fun i a b => h i a (by omega))
    have hn := h (n : Int) (by omega) (by omega)
    rw [weG, weG, ih, hn.1, hn.2]
theorem weG_sp {r q f : Int → Int} {n : Nat} (hinj : ∀ i j : Int, 0 ≤ i → i < n → 0 ≤ j → j < n → r i = 1 → r j = 1 → q i = q j → i = j) : ∀ i : Nat, i ≤ n → ∀ j, weG r q f i j = f j ∨ (weG r q f i j = f j + 1 ∧ ∃ k : Int, (0 ≤ k ∧ k < i) ∧ r k = 1 ∧ q k = j)
  | 0, _, j => Or.inl rfl
  | i + 1, hi, j => by
    have ih := weG_sp (f := f) hinj i (by omega) j
    rw [weG]
    by_cases g : r i = 1
    · rw [if_pos g]
      unfold updF
      by_cases e : j = q i
      · rw [if_pos e, ← e]
        rcases ih with y | ⟨-, k, k0, k1, k2⟩
        · exact Or.inr ⟨by rw [y], i, ⟨by omega, by omega⟩, g, e.symm⟩
        · have := hinj k i k0.1 (by omega) (by omega) (by omega) k1 g (by rw [k2, e])
          omega
      · rw [if_neg e]
        rcases ih with y | ⟨y, k, k0, k1, k2⟩
        · exact Or.inl y
        · exact Or.inr ⟨y, k, ⟨k0.1, by omega⟩, k1, k2⟩
    · rw [if_neg g]
      rcases ih with y | ⟨y, k, k0, k1, k2⟩
      · exact Or.inl y
      · exact Or.inr ⟨y, k, ⟨k0.1, by omega⟩, k1, k2⟩
/-- heard behind the first k goings: crowd and hall -/
def hdG (f : Int → Int → Int) (m : Int) (tg pc : Int → Int) (lk : Int → Int → Int) (gs : List (Int × Int)) : Nat → Int → Int → Int
  | 0 => f
  | k + 1 => fun o j => if o < m ∧ tg o = tg (gs.getD k (0, 0)).1 ∧ j = pc (gs.getD k (0, 0)).2 then clV (hdG f m tg pc lk gs k o j + lk (gs.getD k (0, 0)).1 (gs.getD k (0, 0)).2) else hdG f m tg pc lk gs k o j
theorem hdG_f {f f' lk : Int → Int → Int} {m : Int} {tg pc : Int → Int} {gs : List (Int × Int)} (hf : ∀ o j, o < 16 → f o j = f' o j) : ∀ k : Nat, ∀ o j, o < 16 → hdG f m tg pc lk gs k o j = hdG f' m tg pc lk gs k o j
  | 0, o, j, h => hf o j h
  | k + 1, o, j, h => by
    have ih := hdG_f (lk := lk) (m := m) (tg := tg) (pc := pc) (gs := gs) hf k o j h
    rw [hdG, hdG]
    dsimp only
    rw [ih]
theorem hdG_c {f f' lk lk' : Int → Int → Int} {m : Int} {tg pc pc' : Int → Int} {gs : List (Int × Int)} (hf : ∀ o j, 0 ≤ o → o < 16 → 0 ≤ j → j < 12 → f o j = f' o j ∧ -3 ≤ f o j ∧ f o j ≤ 3) (hg : ∀ q ∈ gs, pc q.2 = pc' q.2 ∧ lk q.1 q.2 = lk' q.1 q.2) : ∀ k : Nat, k ≤ gs.length → ∀ o j, 0 ≤ o → o < 16 → 0 ≤ j → j < 12 → hdG f m tg pc lk gs k o j = hdG f' m tg pc' lk' gs k o j ∧ -3 ≤ hdG f m tg pc lk gs k o j ∧ hdG f m tg pc lk gs k o j ≤ 3
  | 0, _, o, j, a, b, c, d => hf o j a b c d
  | k + 1, hk, o, j, a, b, c, d => by
    have ih := hdG_c (m := m) (tg := tg) hf hg k (by omega) o j a b c d
    have hq := hg _ (getD_mem (show k < gs.length by omega))
    rw [hdG, hdG]
    dsimp only
    rw [← hq.1, ← hq.2, ← ih.1]
    by_cases e : o < m ∧ tg o = tg (gs.getD k (0, 0)).1 ∧ j = pc (gs.getD k (0, 0)).2
    · rw [if_pos e]; exact ⟨rfl, clV_bd _⟩
    · rw [if_neg e]; exact ⟨rfl, ih.2⟩
theorem hdX_G {u : Wd} {gs : List (Int × Int)} {lk : Int → Int → Int} (hg : ∀ q ∈ gs, (0 ≤ u 25 q.2 ∧ u 25 q.2 < u 1 9) ∧ likX u q.1 q.2 = lk q.1 q.2) : ∀ k : Nat, k ≤ gs.length → ∀ o j, hdX u gs k o j = hdG (fun o j => u (66 + Int.toNat o) j) (u 59 9) (u 61) (fun h => u 7 (u 25 h)) lk gs k o j
  | 0, _, o, j => rfl
  | k + 1, hk, o, j => by
    have ih := hdX_G hg k (by omega) o j
    have hq := hg _ (getD_mem (show k < gs.length by omega))
    rw [hdX, hdG]
    dsimp only
    rw [hq.2, ih]
    by_cases e : o < u 59 9 ∧ u 61 o = u 61 (gs.getD k (0, 0)).1 ∧ j = u 7 (u 25 (gs.getD k (0, 0)).2)
    · rw [if_pos e, if_pos ⟨hq.1, e⟩]
    · rw [if_neg e, if_neg (fun z => e z.2)]
theorem hdM_G {v v1 : Wd} {gs : List (Int × Int)} {lk : Int → Int → Int} (hg : ∀ q ∈ gs, likM v q.1 (prM v1 q.2) = lk q.1 q.2) : ∀ k : Nat, k ≤ gs.length → ∀ o j, hdM v (prL v1 gs) k o j = hdG (fun o j => v 186 (12 * o + j)) (v 141 6) (v 182) (fun h => v 147 (prM v1 h)) lk gs k o j
  | 0, _, o, j => rfl
  | k + 1, hk, o, j => by
    have ih := hdM_G hg k (by omega) o j
    have hq := hg _ (getD_mem (show k < gs.length by omega))
    rw [hdM, hdG]
    dsimp only
    rw [prL_get v1 (show k < gs.length by omega)]
    dsimp only
    rw [hq, ih]
/-- a crowd goes by worths below the count of halls -/
theorem snG_c {W W' cap pr : Int → Int} {n : Nat} {c : Int} (hW : ∀ h : Int, 0 ≤ h → h < n → W h = W' h) : ∀ (f : Nat) (S : Sn), snG W cap pr n c f S = snG W' cap pr n c f S
  | 0, _ => rfl
  | f + 1, S => by
    have hb : bhS W cap pr n S = bhS W' cap pr n S := bhV_c n (fun h a b => ⟨hW h a b, Iff.rfl, rfl⟩)
    rw [snG, snG]
    unfold sn1
    rw [hb, snG_c hW f]
theorem wkG_c {W W' : Int → Int → Int} {cap pr many lk0 : Int → Int} {n : Nat} : ∀ m : Nat, (∀ c h : Int, 0 ≤ c → c < m → 0 ≤ h → h < n → W c h = W' c h) → wkG W cap pr many lk0 n m = wkG W' cap pr many lk0 n m
  | 0, _ => rfl
  | m + 1, h => by
    rw [wkG, wkG, wkG_c m (fun c q a b => h c q a (by omega)), snG_c (fun q a b => h m q (by omega) (by omega) a b)]
theorem snG_z {W cap pr : Int → Int} {n : Nat} {c b : Int} (hb : ¬ 0 < W b) : ∀ (f : Nat) (S : Sn), (snG W cap pr n c f S).2.1 b = S.2.1 b
  | 0, _ => rfl
  | f + 1, S => by
    rw [snG]
    split
    · rename_i g
      rw [snG_z hb f]
      show updF S.2.1 (bhS W cap pr n S) _ b = _
      unfold updF
      rw [if_neg (fun e => ?_)]
      rcases bhV_p (W := W) (pl := fun h => cap h - S.2.1 h) (pr := pr) n with y | ⟨-, -, -, y⟩
      · exact g.2 y
      · exact hb (by rw [e]; exact y)
    · rfl
theorem wkG_z {W : Int → Int → Int} {cap pr many lk0 : Int → Int} {n : Nat} {b : Int} : ∀ m : Nat, (∀ c : Int, 0 ≤ c → c < m → ¬ 0 < W c b) → (wkG W cap pr many lk0 n m).1 b = lk0 b
  | 0, _ => rfl
  | m + 1, h => by
    rw [wkG]
    show (snG (W m) cap pr n m n (many m, (wkG W cap pr many lk0 n m).1, (wkG W cap pr many lk0 n m).2)).2.1 b = _
    rw [snG_z (h m (by omega) (by omega))]
    exact wkG_z m (fun c a d => h c a (by omega))
/-- takings, in pure numbers -/
theorem acEq {a Lp b R fee fee2 keep keep2 se P N1 N2 hi : Int} (hR : R = 0 ∨ R = 1) (h0 : R = 0 → Lp = 0) (hP : R = 1 → 0 ≤ P) (hs : se = -1 ∨ (0 ≤ se ∧ se < N2)) (hp : P = -1 ∨ (0 ≤ P ∧ P < N1)) (hfk : 0 ≤ P → fee = fee2 ∧ keep = keep2) : (if R = 1 then a + (Lp - fee) else a) - ((if se = -1 then 0 else hi) + 3 * b + (if P ≠ -1 ∧ b < keep then 9 * (keep - b) else 0)) = a + (Lp - 3 * b) - (if 0 ≤ se ∧ se < N2 then hi else 0) - (if 0 ≤ P ∧ P < N1 then 9 * mxL 0 (keep2 - b) else 0) - (if R = 1 ∧ (0 ≤ P ∧ P < N1) then fee2 else 0) := by
  unfold mxL
  rcases hp with p9 | p9
  · have e1 : R = 0 := by omega
    have e2 := h0 e1
    rw [if_neg (show ¬ R = 1 by omega), if_neg (show ¬ (P ≠ -1 ∧ b < keep) from fun z => z.1 p9), if_neg (show ¬ (0 ≤ P ∧ P < N1) by omega), if_neg (show ¬ (R = 1 ∧ (0 ≤ P ∧ P < N1)) by omega)]
    rcases hs with q | q
    · rw [if_pos q, if_neg (show ¬ (0 ≤ se ∧ se < N2) by omega)]; omega
    · rw [if_neg (show ¬ se = -1 by omega), if_pos q]; omega
  · have e3 := hfk p9.1
    rw [if_pos p9]
    have e4 : (if P ≠ -1 ∧ b < keep then 9 * (keep - b) else 0) = 9 * (if keep2 - b ≤ 0 then 0 else keep2 - b) := by
      rw [← e3.2]
      by_cases g : b < keep
      · rw [if_pos ⟨by omega, g⟩, if_neg (by omega)]
      · rw [if_neg (fun z => g z.2), if_pos (by omega)]; rfl
    have e5 : (if se = -1 then 0 else hi) = (if 0 ≤ se ∧ se < N2 then hi else 0) := by
      rcases hs with q | q
      · rw [if_pos q, if_neg (by omega)]
      · rw [if_neg (by omega), if_pos q]
    rw [e4, e5, e3.1]
    rcases hR with y | y
    · have e2 := h0 y
      rw [if_neg (show ¬ R = 1 by omega), if_neg (show ¬ (R = 1 ∧ (0 ≤ P ∧ P < N1)) by omega)]
      omega
    · rw [if_pos y, if_pos (show R = 1 ∧ (0 ≤ P ∧ P < N1) from ⟨y, p9⟩)]
      omega
theorem acBd {a Lp b R fee keep se P N1 N2 hi A : Int} (ha : -A ≤ a ∧ a ≤ A) (hL : 0 ≤ Lp ∧ Lp ≤ 692307) (hb : 0 ≤ b ∧ b ≤ 40) (hk : 0 ≤ keep ∧ keep ≤ 40) (hf : 0 ≤ fee ∧ fee ≤ 299997) (hh : (0 ≤ se ∧ se < N2) → 0 ≤ hi ∧ hi ≤ 99) : -(A + 1000000) ≤ a + (Lp - 3 * b) - (if 0 ≤ se ∧ se < N2 then hi else 0) - (if 0 ≤ P ∧ P < N1 then 9 * mxL 0 (keep - b) else 0) - (if R = 1 ∧ (0 ≤ P ∧ P < N1) then fee else 0) ∧ a + (Lp - 3 * b) - (if 0 ≤ se ∧ se < N2 then hi else 0) - (if 0 ≤ P ∧ P < N1 then 9 * mxL 0 (keep - b) else 0) - (if R = 1 ∧ (0 ≤ P ∧ P < N1) then fee else 0) ≤ A + 1000000 := by
  have x1 : 0 ≤ (if 0 ≤ se ∧ se < N2 then hi else 0) ∧ (if 0 ≤ se ∧ se < N2 then hi else 0) ≤ 99 := by
    by_cases g : 0 ≤ se ∧ se < N2
    · rw [if_pos g]; exact hh g
    · rw [if_neg g]; omega
  have x0 : 0 ≤ mxL 0 (keep - b) ∧ mxL 0 (keep - b) ≤ 40 := by unfold mxL; split <;> omega
  have x2 : 0 ≤ (if 0 ≤ P ∧ P < N1 then 9 * mxL 0 (keep - b) else 0) ∧ (if 0 ≤ P ∧ P < N1 then 9 * mxL 0 (keep - b) else 0) ≤ 360 := by
    by_cases g : 0 ≤ P ∧ P < N1
    · rw [if_pos g]; omega
    · rw [if_neg g]; omega
  have x3 : 0 ≤ (if R = 1 ∧ (0 ≤ P ∧ P < N1) then fee else 0) ∧ (if R = 1 ∧ (0 ≤ P ∧ P < N1) then fee else 0) ≤ 299997 := by
    by_cases g : R = 1 ∧ (0 ≤ P ∧ P < N1)
    · rw [if_pos g]; exact hf
    · rw [if_neg g]; omega
  omega
/-- what a week of the class gives -/
def XSp (u u' : Wd) (LN : Int → List Lin) (W : Int → Int → Int) (K : (Int → Int) × List (Int × Int)) : Prop :=
  (∀ c h, 0 ≤ c → c < 16 → 0 ≤ h → h < u 15 10 → W c h = wvX u LN c h (u 0 10)) ∧
  K = wkG W (capX u) (u 18) (u 63) (zeF (u 21) (u 15 10)) (u 15 10).toNat (u 59 9).toNat ∧
  (∀ c, kQ c → c ≠ 8 → c ≠ 20 → c ≠ 22 → c ≠ 23 → ¬ (66 ≤ c ∧ c < 82) → u' c = u c) ∧ (∀ j : Int, j ≠ 16 → u' 59 j = u 59 j) ∧
  u' 21 = K.1 ∧ (u' 22 = fun h => if 0 ≤ h ∧ h < u 15 10 then K.1 h * u 18 h else u 22 h) ∧ (u' 23 = fun h => if 0 ≤ h ∧ h < u 15 10 then u 23 h + K.1 h else u 23 h) ∧
  (u' 20 = fun h => if 0 ≤ h ∧ h < u 15 10 then u 20 h + (K.1 h * u 18 h - 3 * u 19 h) - (if 0 ≤ u 24 h ∧ u 24 h < u 15 15 then u 28 (u 24 h) else 0) - (if 0 ≤ u 25 h ∧ u 25 h < u 1 9 then 9 * mxL 0 (keX u LN h (u 0 10) - u 19 h) else 0) - (if ruX u LN h (u 0 10) = 1 ∧ (0 ≤ u 25 h ∧ u 25 h < u 1 9) then feX u LN h (u 0 10) else 0) else u 20 h) ∧
  u' 8 = weG (fun h => ruX u LN h (u 0 10)) (u 25) (u 8) (u 15 10).toNat ∧
  ∀ o j, 0 ≤ o → o < 16 → u' (66 + Int.toNat o) j = hdG (fun o j => u (66 + Int.toNat o) j) (u 59 9) (u 61) (fun h => u 7 (u 25 h)) (fun c h => if u 4 (u 7 (u 25 h)) = u 62 c ∧ ofX u h (u 0 10) = 0 then 1 else -1) K.2 K.2.length o j
theorem ruX_p {u : Wd} {LN : Int → List Lin} {h now : Int} (e : ruX u LN h now = 1) : 0 ≤ u 25 h ∧ u 25 h < u 1 9 := by
  unfold ruX at e
  by_cases g : 0 ≤ u 25 h ∧ u 25 h < u 1 9
  · exact g
  · rw [if_neg g] at e; omega
theorem wvX_p {u : Wd} {LN : Int → List Lin} {c h now : Int} (e : 0 < wvX u LN c h now) : ruX u LN h now = 1 ∧ (0 ≤ u 25 h ∧ u 25 h < u 1 9) := by
  unfold wvX at e
  by_cases g : (ruX u LN h now = 1 ∧ u 60 c = u 16 h ∧ u 18 h ≤ u 64 c) ∧ (0 ≤ u 25 h ∧ u 25 h < u 1 9)
  · exact ⟨g.1.1, g.2⟩
  · rw [if_neg g] at e; omega
theorem WeekX.spec {u u' : Wd} {LN : Int → List Lin} (h : WeekX u u' LN (u 0 10)) (hn : 0 ≤ u 15 10 ∧ u 15 10 ≤ 16) (hm : 0 ≤ u 59 9 ∧ u 59 9 ≤ 16) : ∃ W K, XSp u u' LN W K := by
  obtain ⟨u1, u2, u3, ⟨⟨hq, hz, hi⟩, -⟩, ⟨hs, hS⟩, hA, hSp⟩ := h
  have e1 : ∀ c, kQ c → u1 c = u c := hq.1
  have e2 : ∀ c, kQ c → u2 c = u c := fun c hc => (hs.1 c (by unfold kQ at hc; omega) (by unfold kQ at hc; omega) (by unfold kQ at hc; omega) (by unfold kQ at hc; omega)).trans (e1 c hc)
  have e3 : ∀ c, kQ c → c ≠ 8 → c ≠ 20 → c ≠ 22 → c ≠ 23 → u3 c = u c := fun c hc a b d f => (hA.1 c a b d f).trans (e2 c hc)
  have f1 : ∀ j : Int, j ≠ 16 → u1 59 j = u 59 j := hq.2.2
  have f2 : ∀ j : Int, j ≠ 16 → u2 59 j = u 59 j := fun j hj => (hs.2 j hj).trans (f1 j hj)
  have f3 : ∀ j : Int, j ≠ 16 → u3 59 j = u 59 j := fun j hj => by rw [hA.1 59 (by decide) (by decide) (by decide) (by decide)]; exact f2 j hj
  have d2 : ∀ c, (c = 82 ∨ c = 83 ∨ c = 84 ∨ c = 85) → u2 c = u1 c := fun c hc => hs.1 c (by omega) (by omega) (by omega) (by omega)
  have eK : WKX u1 (u 15 10).toNat (u 59 9).toNat = wkG (fun c h => woX u1 c h) (capX u) (u 18) (u 63) (zeF (u 21) (u 15 10)) (u 15 10).toNat (u 59 9).toNat := by
    show wkG _ (capX u1) (u1 18) (u1 63) (u1 21) _ _ = _
    have ec : capX u1 = capX u := by unfold capX; rw [e1 17 (by unfold kQ; decide)]
    rw [ec, e1 18 (by unfold kQ; decide), e1 63 (by unfold kQ; decide), hz]
  have hW : ∀ c h, 0 ≤ c → c < 16 → 0 ≤ h → h < u 15 10 → woX u1 c h = wvX u LN c h (u 0 10) := fun c h c0 c1 h0 h1 => by
    have hi9 := hi h h0 h1
    unfold woX wvX
    rw [hi9.1, hi9.2.1, e1 60 (by unfold kQ; decide), e1 16 (by unfold kQ; decide), e1 18 (by unfold kQ; decide), e1 64 (by unfold kQ; decide), e1 25 (by unfold kQ; decide), e1 1 (by unfold kQ; decide), e1 7 (by unfold kQ; decide), e1 3 (by unfold kQ; decide), e1 61 (by unfold kQ; decide), e1 4 (by unfold kQ; decide), e1 62 (by unfold kQ; decide), e1 (66 + Int.toNat c) (by unfold kQ; omega)]
  rw [eK] at hSp hS
  generalize hKK : wkG (fun c h => woX u1 c h) (capX u) (u 18) (u 63) (zeF (u 21) (u 15 10)) (u 15 10).toNat (u 59 9).toNat = K at hSp hS
  have hg : ∀ q ∈ K.2, ((0 ≤ q.1 ∧ q.1 < (u 59 9).toNat) ∧ (0 ≤ q.2 ∧ q.2 < (u 15 10).toNat)) ∧ (0 ≤ u 25 q.2 ∧ u 25 q.2 < u 1 9) := fun q hq9 => by
    rw [← hKK] at hq9
    have h9 := wkG_okw _ q hq9
    have h8 := h9.2.2
    rw [hW q.1 q.2 h9.1.1 (by omega) h9.2.1.1 (by omega)] at h8
    exact ⟨⟨h9.1, h9.2.1⟩, (wvX_p h8).2⟩
  have a21 : u2 21 = K.1 := (hS 0).1
  refine ⟨fun c h => woX u1 c h, K, hW, hKK.symm, fun c hc a b d f g => (hSp.1 c g).trans (e3 c hc a b d f), fun j hj => by rw [hSp.1 59 (by decide)]; exact f3 j hj, ?_, ?_, ?_, ?_, ?_, ?_⟩
  · rw [hSp.1 21 (by decide), hA.1 21 (by decide) (by decide) (by decide) (by decide)]; exact a21
  · rw [hSp.1 22 (by decide), hA.2.1, a21, e2 18 (by unfold kQ; decide), e2 22 (by unfold kQ; decide)]
  · rw [hSp.1 23 (by decide), hA.2.2.1, a21, e2 23 (by unfold kQ; decide)]
  · rw [hSp.1 20 (by decide), hA.2.2.2.1]
    funext h
    by_cases g : 0 ≤ h ∧ h < u 15 10
    · have hi9 := hi h g.1 g.2
      rw [if_pos g, if_pos g]
      unfold acC
      rw [a21, d2 82 (by omega), d2 84 (by omega), d2 85 (by omega), hi9.1, hi9.2.2.1, hi9.2.2.2, e2 20 (by unfold kQ; decide), e2 18 (by unfold kQ; decide), e2 19 (by unfold kQ; decide), e2 24 (by unfold kQ; decide), e2 15 (by unfold kQ; decide), e2 28 (by unfold kQ; decide), e2 25 (by unfold kQ; decide), e2 1 (by unfold kQ; decide)]
    · rw [if_neg g, if_neg g, e2 20 (by unfold kQ; decide)]
  · rw [hSp.1 8 (by decide), hA.2.2.2.2, weF_G (r := fun h => ruX u LN h (u 0 10)) _ (fun i i0 i1 => ?_), e2 25 (by unfold kQ; decide), e2 8 (by unfold kQ; decide)]
    have hi9 := hi i i0 (by omega)
    rw [d2 82 (by omega), hi9.1, e2 25 (by unfold kQ; decide), e2 1 (by unfold kQ; decide)]
    exact ⟨fun z => z.1, fun z => ⟨z, ruX_p z⟩⟩
  · intro o j o0 o1
    rw [hSp.2 o j o0 o1, hdX_G (lk := fun c h => if u 4 (u 7 (u 25 h)) = u 62 c ∧ ofX u h (u 0 10) = 0 then 1 else -1) (fun q hq9 => ?_) _ (Nat.le_refl _) o j, f3 9 (by decide), e3 61 (by unfold kQ; decide) (by decide) (by decide) (by decide) (by decide), e3 7 (by unfold kQ; decide) (by decide) (by decide) (by decide) (by decide), e3 25 (by unfold kQ; decide) (by decide) (by decide) (by decide) (by decide)]
    · have e66 : ∀ o : Int, o < 16 → u3 (66 + Int.toNat o) = u (66 + Int.toNat o) := fun o ho => e3 _ (by unfold kQ; omega) (by omega) (by omega) (by omega) (by omega)
      exact hdG_f (fun o j h9 => by rw [e66 o h9]) _ o j o1
    · have h9 := hg q hq9
      have hi9 := hi q.2 h9.1.2.1 (by omega)
      refine ⟨by rw [e3 25 (by unfold kQ; decide) (by decide) (by decide) (by decide) (by decide), e3 1 (by unfold kQ; decide) (by decide) (by decide) (by decide) (by decide)]; exact h9.2, ?_⟩
      unfold likX
      rw [e3 25 (by unfold kQ; decide) (by decide) (by decide) (by decide) (by decide), e3 4 (by unfold kQ; decide) (by decide) (by decide) (by decide) (by decide), e3 7 (by unfold kQ; decide) (by decide) (by decide) (by decide) (by decide), e3 62 (by unfold kQ; decide) (by decide) (by decide) (by decide) (by decide), hA.1 83 (by decide) (by decide) (by decide) (by decide), d2 83 (by omega), hi9.2.1]
/-- what a week of the reference gives -/
def MSp (v v' : Wd) (LN : Int → List Lin) (W : Int → Int → Int) (K : (Int → Int) × List (Int × Int)) : Prop :=
  (∀ c h, 0 ≤ c → c < v 141 6 → 0 ≤ h → h < v 141 4 → W c h = wvM v LN c h) ∧
  K = wkG W (capM v) (v 157) (v 184) (zeF (v 159) (v 141 4)) (v 141 4).toNat (v 141 6).toNat ∧
  (∀ c, kV c → c ≠ 186 → c ≠ 148 → v' c = v c) ∧ (v' 141 0 = v 141 0 + 1 ∧ ∀ j : Int, jV j → j ≠ 0 → v' 141 j = v 141 j) ∧
  v' 159 = K.1 ∧ (v' 160 = fun h => if 0 ≤ h ∧ h < v 141 4 then K.1 h * v 157 h else v 160 h) ∧ (v' 164 = fun h => if 0 ≤ h ∧ h < v 141 4 then v 164 h + K.1 h else v 164 h) ∧
  (v' 163 = fun h => if 0 ≤ h ∧ h < v 141 4 then acM v LN K.1 h else v 163 h) ∧
  v' 148 = weG (ruM v LN) (prM v) (v 148) (v 141 4).toNat ∧
  ∀ o j, 0 ≤ o → o < 16 → 0 ≤ j → j < 12 → v' 186 (12 * o + j) = hdG (fun o j => v 186 (12 * o + j)) (v 141 6) (v 182) (fun h => v 147 (prM v h)) (fun c h => likM v c (prM v h)) K.2 K.2.length o j
theorem halls_m {w v : Wd} (hf : FrV w v) (LN : Int → List Lin) : (∀ h, ruM v LN h = ruM w LN h) ∧ (∀ h, seM v h = seM w h) := by
  obtain ⟨a, b, c, -, -⟩ := halls_v hf LN
  refine ⟨fun h => ?_, fun h => ?_⟩
  · unfold ruM; rw [a, b, c]
  · unfold seM; rw [hf.1 168 (by unfold kV; decide), hf.2 5 (by unfold jV; omega)]
theorem WeekM.spec {v v' : Wd} {LN : Int → List Lin} (h : WeekM v v' LN) (hn : 0 ≤ v 141 4 ∧ v 141 4 ≤ 16) (hm : 0 ≤ v 141 6 ∧ v 141 6 ≤ 16) : ∃ W K, MSp v v' LN W K := by
  obtain ⟨v1, v2, v3, v4, ⟨hq, hwo⟩, ⟨hs, hS⟩, hA, hWd, hk, h148, h0, h141⟩ := h
  have g1 : FrV v v1 := hq.v
  have g2 : FrV v v2 := g1.t hs
  have g3 : FrV v2 v3 := hA.v
  have e1 : ∀ c, kV c → v1 c = v c := g1.1
  have e2 : ∀ c, kV c → v2 c = v c := g2.1
  have e3 : ∀ c, kV c → v3 c = v c := fun c hc => (g3.1 c hc).trans (e2 c hc)
  have f1 : ∀ j, jV j → v1 141 j = v 141 j := g1.2
  have f3 : ∀ j, jV j → v3 141 j = v 141 j := fun j hj => (g3.2 j hj).trans (g2.2 j hj)
  have g30 : FrV v v3 := ⟨e3, f3⟩
  have j4 : jV 4 := by unfold jV; omega
  have j6 : jV 6 := by unfold jV; omega
  have k159 : v1 159 = v 159 := hq.1 159 (by decide) (by decide) (by decide) (by decide)
  have eK : WKM v1 (v 141 6).toNat = wkG (WMx v1) (capM v) (v 157) (v 184) (zeF (v 159) (v 141 4)) (v 141 4).toNat (v 141 6).toNat := by
    show wkG _ (capM v1) (v1 157) (v1 184) (zeF (v1 159) (v1 141 4)) (v1 141 4).toNat _ = _
    have ec : capM v1 = capM v := by unfold capM; rw [e1 156 (by unfold kV; decide)]
    rw [ec, e1 157 (by unfold kV; decide), e1 184 (by unfold kV; decide), k159, f1 4 j4]
  have hW : ∀ c h, 0 ≤ c → c < v 141 6 → 0 ≤ h → h < v 141 4 → WMx v1 c h = wvM v LN c h := fun c h c0 c1 h0 h1 => hwo c h c0 h0 h1 (Or.inl c1)
  rw [eK] at hWd hS
  generalize hKK : wkG (WMx v1) (capM v) (v 157) (v 184) (zeF (v 159) (v 141 4)) (v 141 4).toNat (v 141 6).toNat = K at hWd hS
  have a159 : v2 159 = K.1 := (hS 0).1
  have h4 : ∀ c, c ≠ 148 → c ≠ 141 → c ≠ 186 → v' c = v3 c := fun c a b d => (hk c a b).trans (hWd.1 c d)
  have x2 : ∀ c, (c = 160 ∨ c = 163 ∨ c = 164 ∨ c = 191) → v2 c = v c := fun c hc => (hs.1 c (by omega) (by omega) (by omega) (by omega) (by omega)).trans (hq.1 c (by omega) (by omega) (by omega) (by omega))
  refine ⟨WMx v1, K, hW, hKK.symm, fun c hc a b => (h4 c b (by unfold kV at hc; omega) a).trans (e3 c hc), ⟨h0, fun j hj hj0 => by rw [h141 j hj0, hWd.1 141 (by decide)]; exact f3 j hj⟩, ?_, ?_, ?_, ?_, ?_, ?_⟩
  · rw [h4 159 (by decide) (by decide) (by decide), hA.1 159 (by decide) (by decide) (by decide) (by decide) (by decide) (by decide) (by decide)]; exact a159
  · rw [h4 160 (by decide) (by decide) (by decide), hA.2.2.1, a159, e2 157 (by unfold kV; decide), x2 160 (by omega)]
  · rw [h4 164 (by decide) (by decide) (by decide), hA.2.2.2.1, a159, x2 164 (by omega)]
  · rw [h4 163 (by decide) (by decide) (by decide), hA.2.2.2.2.1, a159, x2 163 (by omega)]
    obtain ⟨b1, b2, -, -, -⟩ := halls_v g2 LN
    obtain ⟨b3, b4⟩ := halls_m g2 LN
    funext h
    by_cases g : 0 ≤ h ∧ h < v 141 4
    · rw [if_pos g, if_pos g]
      unfold acM
      rw [b3, b4, b1, b2, x2 163 (by omega), e2 157 (by unfold kV; decide), e2 158 (by unfold kV; decide), e2 167 (by unfold kV; decide)]
    · rw [if_neg g, if_neg g]
  · obtain ⟨b3, b4⟩ := halls_m g2 LN
    obtain ⟨b1, -, -, -, -⟩ := halls_v g30 LN
    have k148 : v4 148 = v 148 := by rw [hWd.1 148 (by decide)]; exact e3 148 (by unfold kV; decide)
    rw [h148, weM_G (r := ruM v LN) (q := prM v) _ (fun i i0 i1 => ?_), k148]
    refine ⟨?_, ?_⟩
    · rw [hWd.1 191 (by decide), hA.2.2.2.2.2, ← b3 i]
      exact if_pos ⟨i0, by omega⟩
    · unfold prM
      rw [hWd.1 149 (by decide), hWd.1 141 (by decide)]
      exact b1 i
  · intro o j o0 o1 j0 j1
    obtain ⟨b1, b2, b3, b4, -⟩ := halls_v g30 LN
    have b5 := (halls_v g1 LN).1
    rw [hk 186 (by decide) (by decide), hWd.2 o j o0 o1 j0 j1, hdM_G (lk := fun c h => likM v c (prM v h)) (fun q hq9 => ?_) _ (Nat.le_refl _) o j, f3 6 j6, e3 182 (by unfold kV; decide), e3 147 (by unfold kV; decide), e3 186 (by unfold kV; decide)]
    · have e9 : (fun h => v 147 (prM v1 h)) = fun h => v 147 (prM v h) := by funext h; rw [b5]
      rw [e9]
    · rw [b5]
      unfold likM
      rw [e3 144 (by unfold kV; decide), e3 147 (by unfold kV; decide), e3 183 (by unfold kV; decide), b4, f3 0 (by unfold jV; omega)]

theorem WeekX.now {u u' : Wd} {LN : Int → List Lin} {k : Int} (h : WeekX u u' LN k) : u' 0 10 = u 0 10 := by
  obtain ⟨u1, u2, u3, ⟨⟨hq, -, -⟩, -⟩, ⟨hs, -⟩, hA, hSp⟩ := h
  rw [hSp.1 0 (by decide), hA.1 0 (by decide) (by decide) (by decide) (by decide), hs.1 0 (by decide) (by decide) (by decide) (by decide), hq.1 0 (by unfold kQ; decide)]
set_option maxRecDepth 100000 in
theorem x_weeks2 (n : Int) (w : Wd) (s : Int → Nat) (LN : Int → List Lin) (Inv : Nat → Wd → Prop) (h0 : Inv 0 w) (hneed : ∀ k u, Inv k u → NeedX u s LN) (hstep : ∀ k u u1, ((1 ≤ n ∧ n ≤ 20) ∧ w 0 10 + n ≤ 199) → k < n.toNat → Inv k u → WeekX u u1 LN (u 0 10) → Inv (k + 1) (wu u1 0 10 (u1 0 10 + 1))) (ht0 : 0 ≤ w 0 10 ∧ w 0 10 ≤ 199) : CallN 8 mX11_weeks [(2, 0), (0, n)] w (RQ (fun z w1 => (((1 ≤ n ∧ n ≤ 20) ∧ w 0 10 + n ≤ 199) ∧ z = w 0 10 + n ∧ Inv n.toNat w1 ∧ WksX LN w n.toNat w1) ∨ (¬ ((1 ≤ n ∧ n ≤ 20) ∧ w 0 10 + n ≤ 199) ∧ z = -1 ∧ w1 = w))) := by
  refine CallN.intro (by decide +kernel) (Nat.le_of_ble_eq_true rfl) (fun ρ hR => ?_)
  show AtN mX11_weeks 8 ρ 0 [(0, (2, 0)), (1, (0, n))] [] w
  have L_26 : ∀ (fu : Nat) (i : Int) (v9 : Wd), (1 ≤ n ∧ n ≤ 20) ∧ w 0 10 + n ≤ 199 → 0 ≤ i ∧ i ≤ n → Inv i.toNat v9 → v9 0 10 = w 0 10 + i → WksX LN w i.toNat v9 → (n - i).toNat < fu → AtN mX11_weeks 8 ρ 26 [(0, (2, 0)), (1, (0, n)), (2, (0, i))] [] v9 := by
    intro fu
    induction fu with
    | zero => intro i v9 hok hi hv ht hw hm; exact absurd hm (Nat.not_lt_zero _)
    | succ fu ih =>
      intro i v9 hok hi hv ht hw hm
      have hq := hneed i.toNat v9 hv
      refine s_iload_n dX11_weeks_26 2 rfl (s_iload_n dX11_weeks_27 1 rfl (s_icmp_ge 58 dX11_weeks_28 (by decide) (fun c_28 => ?_) (fun c_28 => ?_)))
      · skip
        refine s_aload_n dX11_weeks_58 0 rfl rfl (n_getf 0 10 0 dX11_weeks_59 cf_X11 ff_X11_87 rfl sh_0 rfl (by decide) (v := (v9 0 10)) rfl (n_iret dX11_weeks_62 hR rfl ?_))
        have e9 : i = n := by omega
        rw [e9] at hv hw ht
        exact ⟨_, rfl, Or.inl ⟨hok, ht, hv, hw⟩⟩
      · skip
        refine s_aload_n dX11_weeks_31 0 rfl rfl (n_getc (q := 59) 0 5 69 dX11_weeks_32 cf_X11 ff_X11_53 rfl sh_0 rfl (by decide) rfl (by decide) (s_aload_n dX11_weeks_35 0 rfl rfl (n_getf 0 10 0 dX11_weeks_36 cf_X11 ff_X11_87 rfl sh_0 rfl (by decide) (v := (v9 0 10)) rfl (n_invV' (as := [(0, (v9 0 10))]) dX11_weeks_39 kv_X0_pass ml_X11_227 (c_X_pass (v9 0 10) v9 s LN hq.1 hq.2.1 hq.2.2.1 hq.2.2.2.1 hq.2.2.2.2.1 hq.2.2.2.2.2.1 hq.2.2.2.2.2.2.1 hq.2.2.2.2.2.2.2) (by decide) 59 cf_X0 rfl sh_59 rfl rfl rfl (Nat.le_of_ble_eq_true rfl) ?_))))
        rintro r_39 w_39 ⟨rfl, hW39⟩
        have hnw := WeekX.now hW39
        refine s_aload_n dX11_weeks_42 0 rfl rfl (s_dup dX11_weeks_43 (show (2 : Nat) ≠ 1 by decide) (n_getf 0 10 0 dX11_weeks_44 cf_X11 ff_X11_87 rfl sh_0 rfl (by decide) (v := (w_39 0 10)) rfl (s_iconst dX11_weeks_47 (by decide) (n_add (z := ((w_39 0 10) + 1)) dX11_weeks_48 (wr_id (by omega) (by omega)) (n_putf 0 10 10 dX11_weeks_49 cf_X11 ff_X11_87 rfl rfl sh_0 rfl rfl rfl (s_iinc (z := (i + 1)) (ls' := [(0, (2, 0)), (1, (0, n)), (2, (0, (i + 1)))]) dX11_weeks_52 2 rfl (Nat.le_of_ble_eq_true rfl) (wr_id (by omega) (by omega)) rfl (s_goto 26 dX11_weeks_55 (by decide) ?_)))))))
        exact ih (i + 1) (wu w_39 0 10 ((w_39 0 10) + 1)) (by omega) (by omega) (by rw [toN_s hi.1]; exact hstep i.toNat v9 w_39 hok (by omega) hv hW39) (by rw [wu_same]; omega) (by rw [toN_s hi.1]; exact ⟨v9, w_39, hw, hW39, rfl⟩) (by omega)
  refine s_iload_n dX11_weeks_0 1 rfl (s_iconst dX11_weeks_1 (by decide) (s_bipush dX11_weeks_2 (by decide) (n_invS (as := [(0, n), (0, 1), (0, 20)]) dX11_weeks_4 kv_X11_within ml_X11_102 (c_within n 1 20 w) (by decide) rfl rfl (Nat.le_of_ble_eq_true rfl) (n_ifeq_b 22 dX11_weeks_7 (by decide) (fun c_7 => ?_) (fun c_7 => ?_)))))
  · skip
    refine s_iconst dX11_weeks_22 (by decide) (n_iret dX11_weeks_23 hR rfl ?_)
    exact ⟨_, rfl, Or.inr ⟨by omega, rfl, rfl⟩⟩
  · skip
    refine s_aload_n dX11_weeks_10 0 rfl rfl (n_getf 0 10 0 dX11_weeks_11 cf_X11 ff_X11_87 rfl sh_0 rfl (by decide) (v := (w 0 10)) rfl (s_iload_n dX11_weeks_14 1 rfl (n_add (z := ((w 0 10) + n)) dX11_weeks_15 (wr_id (by omega) (by omega)) (s_sipush dX11_weeks_16 (by decide) (s_icmp_le 24 dX11_weeks_19 (by decide) (fun c_19 => ?_) (fun c_19 => ?_))))))
    · skip
      refine s_iconst dX11_weeks_24 (by decide) (s_istore_n (ls' := [(0, (2, 0)), (1, (0, n)), (2, (0, 0))]) dX11_weeks_25 (Nat.le_of_ble_eq_true rfl) rfl ?_)
      exact L_26 _ 0 w (by omega) (by omega) h0 (by omega) rfl (Nat.lt_succ_self _)
    · skip
      refine s_iconst dX11_weeks_22 (by decide) (n_iret dX11_weeks_23 hR rfl ?_)
      exact ⟨_, rfl, Or.inr ⟨by omega, rfl, rfl⟩⟩

set_option maxRecDepth 100000 in
theorem m_weeks2 (n : Int) (w : Wd) (LN : Int → List Lin) (Inv : Nat → Wd → Prop) (h0 : Inv 0 w) (hneed : ∀ k u, Inv k u → NeedM u LN) (hstep : ∀ k u u1, ((1 ≤ n ∧ n ≤ 20) ∧ w 141 0 + n ≤ 199) → k < n.toNat → Inv k u → WeekM u u1 LN → Inv (k + 1) u1) (ht0 : 0 ≤ w 141 0 ∧ w 141 0 ≤ 199) : CallN 9 mX12_weeks [(2, 141), (0, n)] w (RQ (fun z w1 => (((1 ≤ n ∧ n ≤ 20) ∧ w 141 0 + n ≤ 199) ∧ z = w 141 0 + n ∧ Inv n.toNat w1) ∨ (¬ ((1 ≤ n ∧ n ≤ 20) ∧ w 141 0 + n ≤ 199) ∧ z = -1 ∧ w1 = w))) := by
  refine CallN.intro (by decide +kernel) (Nat.le_of_ble_eq_true rfl) (fun ρ hR => ?_)
  show AtN mX12_weeks 9 ρ 0 [(0, (2, 141)), (1, (0, n))] [] w
  have L_26 : ∀ (fu : Nat) (i : Int) (v9 : Wd), ((1 ≤ n ∧ n ≤ 20) ∧ w 141 0 + n ≤ 199) → 0 ≤ i ∧ i ≤ n → Inv i.toNat v9 → v9 141 0 = w 141 0 + i → (n - i).toNat < fu → AtN mX12_weeks 9 ρ 26 [(0, (2, 141)), (1, (0, n)), (2, (0, i))] [] v9 := by
    intro fu
    induction fu with
    | zero => intro i v9 hok hi hv ht hm; exact absurd hm (Nat.not_lt_zero _)
    | succ fu ih =>
      intro i v9 hok hi hv ht hm
      have hq := hneed _ v9 hv
      refine s_iload_n dX12_weeks_26 2 rfl (s_iload_n dX12_weeks_27 1 rfl (s_icmp_ge 41 dX12_weeks_28 (by decide) (fun c_28 => ?_) (fun c_28 => ?_)))
      · skip
        refine s_aload_n dX12_weeks_41 0 rfl rfl (n_getf 141 0 0 dX12_weeks_42 cf_X12 ff_X12_253 rfl sh_141 rfl (by decide) (v := (v9 141 0)) rfl (n_iret dX12_weeks_45 hR rfl ?_))
        have e9 : i = n := by omega
        rw [e9] at hv ht
        exact ⟨_, rfl, Or.inl ⟨hok, ht, hv⟩⟩
      · skip
        refine s_aload_n dX12_weeks_31 0 rfl rfl (n_invV' (as := []) dX12_weeks_32 kv_X12_week ml_X12_447 (c_M_week v9 LN hq.1 hq.2.1 hq.2.2.1 hq.2.2.2.1 hq.2.2.2.2.1 hq.2.2.2.2.2.1 hq.2.2.2.2.2.2.1 hq.2.2.2.2.2.2.2) (by decide) 141 cf_X12 rfl sh_141 rfl rfl rfl (Nat.le_of_ble_eq_true rfl) ?_)
        rintro r_32 w_32 ⟨rfl, hW32⟩
        have hnw := hW32.now
        refine s_iinc (z := (i + 1)) (ls' := [(0, (2, 141)), (1, (0, n)), (2, (0, (i + 1)))]) dX12_weeks_35 2 rfl (Nat.le_of_ble_eq_true rfl) (wr_id (by omega) (by omega)) rfl (s_goto 26 dX12_weeks_38 (by decide) ?_)
        exact ih (i + 1) w_32 (by omega) (by omega) (by rw [toN_s hi.1]; exact hstep i.toNat v9 w_32 hok (by omega) hv hW32) (by omega) (by omega)
  refine s_iload_n dX12_weeks_0 1 rfl (s_iconst dX12_weeks_1 (by decide) (s_bipush dX12_weeks_2 (by decide) (n_invS (as := [(0, n), (0, 1), (0, 20)]) dX12_weeks_4 kv_X12_isIn ml_X12_223 (c_isIn n 1 20 w) (by decide) rfl rfl (Nat.le_of_ble_eq_true rfl) (n_ifeq_b 22 dX12_weeks_7 (by decide) (fun c_7 => ?_) (fun c_7 => ?_)))))
  · skip
    refine s_iconst dX12_weeks_22 (by decide) (n_iret dX12_weeks_23 hR rfl ?_)
    exact ⟨_, rfl, Or.inr ⟨by omega, rfl, rfl⟩⟩
  · skip
    refine s_aload_n dX12_weeks_10 0 rfl rfl (n_getf 141 0 0 dX12_weeks_11 cf_X12 ff_X12_253 rfl sh_141 rfl (by decide) (v := (w 141 0)) rfl (s_sipush dX12_weeks_14 (by decide) (s_iload_n dX12_weeks_17 1 rfl (n_sub (z := (199 - n)) dX12_weeks_18 (wr_id (by omega) (by omega)) (s_icmp_le 24 dX12_weeks_19 (by decide) (fun c_19 => ?_) (fun c_19 => ?_))))))
    · skip
      refine s_iconst dX12_weeks_24 (by decide) (s_istore_n (ls' := [(0, (2, 141)), (1, (0, n)), (2, (0, 0))]) dX12_weeks_25 (Nat.le_of_ble_eq_true rfl) rfl ?_)
      exact L_26 _ 0 w (by omega) (by omega) h0 (by omega) (Nat.lt_succ_self _)
    · skip
      refine s_iconst dX12_weeks_22 (by decide) (n_iret dX12_weeks_23 hR rfl ?_)
      exact ⟨_, rfl, Or.inr ⟨by omega, rfl, rfl⟩⟩
