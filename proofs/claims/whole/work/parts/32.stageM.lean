/-! STAGE, THE REFERENCE: its places among the members of a set. -/
theorem cdP_mono {P : Ps} {a b : Nat} (h : a ≤ b) : cdP P a ≤ cdP P b := by
  induction b with
  | zero => rw [show a = 0 by omega]; exact Nat.le_refl _
  | succ b ih =>
    by_cases e : a = b + 1
    · rw [e]; exact Nat.le_refl _
    · have := ih (by omega)
      rw [cdP]
      omega
theorem cdP_lt {P : Ps} {a b : Nat} (h : a < b) (hp : P a = true) : cdP P a < cdP P b := by
  have h1 := cdP_mono (P := P) (a := a + 1) (b := b) h
  rw [cdP, if_pos hp] at h1
  omega
theorem cdP_inj {P : Ps} {a b : Nat} (ha : P a = true) (hb : P b = true) (h : cdP P a = cdP P b) : a = b := by
  rcases Nat.lt_trichotomy a b with q | q | q
  · have := cdP_lt q ha; omega
  · exact q
  · have := cdP_lt q hb; omega
theorem cdP_ex {P : Ps} : ∀ n k : Nat, k < cdP P n → ∃ j, j < n ∧ P j = true ∧ cdP P j = k
  | 0, k, h => absurd h (by simp [cdP])
  | n + 1, k, h => by
    rw [cdP] at h
    by_cases c : P n = true
    · rw [if_pos c] at h
      by_cases e : k = cdP P n
      · exact ⟨n, by omega, c, e.symm⟩
      · obtain ⟨j, j1, j2⟩ := cdP_ex (P := P) n k (by omega)
        exact ⟨j, by omega, j2⟩
    · rw [if_neg c] at h
      obtain ⟨j, j1, j2⟩ := cdP_ex (P := P) n k (by omega)
      exact ⟨j, by omega, j2⟩
/-- what is left of P if the places in s are used -/
def LfP (P : Ps) (s : Int) : Ps := fun j => P j && !(mbP s (cdP P j))
theorem LfP_t {P : Ps} {s : Int} {j : Nat} : LfP P s j = true ↔ P j = true ∧ mbP s (cdP P j) = false := by unfold LfP; simp
theorem LfP_0 {P : Ps} : LfP P 0 = P := by
  funext j
  unfold LfP
  have : mbP 0 (cdP P j) = false := Nat.zero_testBit _
  rw [this]; simp
theorem ior_mb {s k : Int} (h0 : 0 ≤ s) (h1 : s < 65536) (hk : 0 ≤ k) (hk1 : k < 16) : ∃ l : Nat, ior s (ishl 1 k) = (l : Int) ∧ (l : Int) < 65536 ∧ s ≤ (l : Int) ∧ (mbP s k.toNat = false → s < (l : Int)) ∧ mbP (l : Int) k.toNat = true ∧ (∀ x, x ≠ k.toNat → mbP (l : Int) x = mbP s x) ∧ ∀ m : Nat, s < 2 ^ m → k.toNat < m → (l : Int) < 2 ^ m := by
  have e := ishl1 k.toNat (by omega)
  rw [show ((k.toNat : Nat) : Int) = k by omega] at e
  have hp : 2 ^ k.toNat ≤ 2 ^ 15 := Nat.pow_le_pow_right (by omega) (by omega)
  have e2 := ior_N (a := s.toNat) (b := 2 ^ k.toNat) (by omega) (by omega)
  rw [show ((s.toNat : Nat) : Int) = s by omega, ← e] at e2
  have hb : ∀ x, (s.toNat ||| 2 ^ k.toNat).testBit x = (s.toNat.testBit x || decide (k.toNat = x)) := fun x => by rw [Nat.testBit_or, Nat.testBit_two_pow]
  have hle : s.toNat ≤ s.toNat ||| 2 ^ k.toNat := Nat.left_le_or
  have hlt : s.toNat ||| 2 ^ k.toNat < 2 ^ 16 := Nat.or_lt_two_pow (by omega) (by omega)
  refine ⟨_, e2, by omega, by omega, fun h => ?_, ?_, fun x hx => ?_, fun m hm hkm => ?_⟩
  · rcases Nat.lt_or_ge s.toNat (s.toNat ||| 2 ^ k.toNat) with q | q
    · omega
    · have e3 : s.toNat ||| 2 ^ k.toNat = s.toNat := by omega
      have h3 := hb k.toNat
      rw [e3] at h3
      unfold mbP at h
      rw [h] at h3
      simp at h3
  · show (s.toNat ||| 2 ^ k.toNat).testBit k.toNat = true
    rw [hb]; simp
  · show (s.toNat ||| 2 ^ k.toNat).testBit x = s.toNat.testBit x
    rw [hb, decide_eq_false (fun q => hx q.symm), Bool.or_false]
  · have ep : ((2 ^ m : Nat) : Int) = 2 ^ m := by simp
    have h5 : s.toNat ||| 2 ^ k.toNat < 2 ^ m := Nat.or_lt_two_pow (by omega) (Nat.pow_lt_pow_right (by omega) hkm)
    omega
theorem LfP_or {P : Ps} {s l : Int} {j : Nat} (hP : P j = true) (h1 : mbP l (cdP P j) = true) (h2 : ∀ x, x ≠ cdP P j → mbP l x = mbP s x) : LfP P l = rmP (LfP P s) j := by
  funext x
  unfold rmP
  apply Bool.eq_iff_iff.mpr
  rw [Bool.and_eq_true, LfP_t, LfP_t, Bool.not_eq_true', decide_eq_false_iff_not]
  constructor
  · rintro ⟨a, b⟩
    by_cases e : x = j
    · subst e; rw [h1] at b; cases b
    · have hne : cdP P x ≠ cdP P j := fun q => e (cdP_inj a hP q)
      rw [h2 _ hne] at b
      exact ⟨⟨a, b⟩, e⟩
  · rintro ⟨⟨a, b⟩, e⟩
    have hne : cdP P x ≠ cdP P j := fun q => e (cdP_inj a hP q)
    exact ⟨a, by rw [h2 _ hne]; exact b⟩
/-- the nights of the versions of Q -/
def niP (N : Int → Int) (Q : Ps) : Nat → Int
  | 0 => 0
  | n + 1 => niP N Q n + (if Q n = true then N n else 0)
theorem niP_rm {N : Int → Int} {Q : Ps} {j : Nat} (hj : Q j = true) : ∀ n : Nat, (j < n → niP N (rmP Q j) n + N j = niP N Q n) ∧ (n ≤ j → niP N (rmP Q j) n = niP N Q n)
  | 0 => ⟨fun h => absurd h (by omega), fun _ => rfl⟩
  | n + 1 => by
    have ih := niP_rm (N := N) hj n
    rw [niP, niP]
    by_cases e : n = j
    · subst e
      have e2 : rmP Q n n = false := by unfold rmP; simp
      rw [ih.2 (Nat.le_refl _), e2, hj]
      exact ⟨fun _ => by simp, fun q => absurd q (by omega)⟩
    · have e2 : rmP Q j n = Q n := by unfold rmP; rw [decide_eq_false e]; simp
      rw [e2]
      refine ⟨fun q => ?_, fun q => by rw [ih.2 (by omega)]⟩
      have := ih.1 (by omega)
      omega
theorem niP_0 {N : Int → Int} {Q : Ps} : ∀ n : Nat, (∀ k, k < n → Q k = false) → niP N Q n = 0
  | 0, _ => rfl
  | n + 1, h => by rw [niP, niP_0 n (fun k hk => h k (by omega)), h n (by omega)]; rfl
theorem niP_bd {N : Int → Int} {Q : Ps} : ∀ n : Nat, (∀ k : Int, 0 ≤ k → k < n → 0 ≤ N k ∧ N k ≤ 20) → 0 ≤ niP N Q n ∧ niP N Q n ≤ 20 * n
  | 0, _ => by simp [niP]
  | n + 1, h => by
    have ih := niP_bd (Q := Q) n (fun k a b => h k a (by omega))
    have h2 := h n (by omega) (by omega)
    rw [niP]
    split <;> omega
theorem niP_wt {N : Int → Int} {s : Int} (h0 : 0 ≤ s) (h1 : s < 65536) : ∀ n : Nat, n ≤ 20 → niP N (mbP s) n = sumI (fun i => bt s i * N i) n
  | 0, _ => rfl
  | n + 1, h => by
    rw [niP, sumI, niP_wt h0 h1 n (by omega)]
    have hb := mbP_bt (s := s) (j := (n : Int)) h0 h1 (by omega) (by omega)
    rw [show ((n : Int)).toNat = n from rfl] at hb
    have h01 := bt01 s n
    show _ = _ + bt s n * N n
    by_cases c : mbP s n = true
    · rw [if_pos c, hb.mpr c]; omega
    · rw [if_neg c, show bt s n = 0 by have : ¬ bt s n = 1 := fun q => c (hb.mp q); omega]
      omega
/-- the members of S in their order stand in cell 194, their number m in field 82 -/
def GA (v : Wd) (S : Int) (n : Nat) : Prop := v 141 82 = ((cdP (mbP S) n : Nat) : Int) ∧ ∀ j : Nat, j < n → mbP S j = true → v 194 ((cdP (mbP S) j : Nat) : Int) = j
theorem GA_e {v : Wd} {S : Int} {n : Nat} (h : GA v S n) {k : Int} (h0 : 0 ≤ k) (h1 : k < v 141 82) : ∃ j : Nat, j < n ∧ mbP S j = true ∧ ((cdP (mbP S) j : Nat) : Int) = k ∧ v 194 k = j := by
  obtain ⟨j, j1, j2, j3⟩ := cdP_ex (P := mbP S) n k.toNat (by have := h.1; omega)
  refine ⟨j, j1, j2, by omega, ?_⟩
  have := h.2 j j1 j2
  rwa [j3, toN_c h0] at this
def gM (w : Wd) : Int → Int → Int := fun i j => w 193 (9 * i + j)
def coM (w : Wd) (i k : Int) : Int := w 192 (w 194 k) + (if i = 9 then 0 else w 193 (9 * w 194 i + w 194 k))
/-- which version place i means, 9 none -/
def eM (w : Wd) (i : Int) : Int := if i = 9 then -1 else w 194 i
def VM (w : Wd) (n : Nat) (S s i : Int) : Int := VV (cSt (gM w)) tJ n (eM w i) (LfP (mbP S) s) + niP (w 192) (LfP (mbP S) s) n
/-- entries of the sets of places above e -/
def TBM (v : Wd) (n : Nat) (S e : Int) : Prop := ∀ s i, e < s → s < ishl 1 (v 141 82) → (i = 9 ∨ (0 ≤ i ∧ i < v 141 82 ∧ mbP s i.toNat = true)) → v 195 (10 * s + i) = VM v n S s i
def valM (w : Wd) (s i k : Int) : Int := w 195 (10 * ior s (ishl 1 k) + k) + coM w i k
/-- what one place on costs -/
theorem valM_eq {v : Wd} {n : Nat} {S s i k : Int} (hn : n ≤ 9) (hg : GA v S n) (hm : v 141 82 ≤ 9) (hT : TBM v n S s) (hs : 0 ≤ s ∧ s < ishl 1 (v 141 82)) (hi : i = 9 ∨ (0 ≤ i ∧ i < v 141 82)) (hk : 0 ≤ k ∧ k < v 141 82) (hb : mbP s k.toNat = false) :
    ∃ j : Nat, j < n ∧ v 194 k = j ∧ ((cdP (mbP S) j : Nat) : Int) = k ∧ LfP (mbP S) s j = true ∧ valM v s i k = afV (cSt (gM v)) tJ n (eM v i) (LfP (mbP S) s) j + niP (v 192) (LfP (mbP S) s) n := by
  obtain ⟨j, j1, j2, j3, j4⟩ := GA_e hg hk.1 hk.2
  have hm0 : 0 ≤ v 141 82 := by rw [hg.1]; omega
  have hq := ishl1_bd hm0 (show v 141 82 ≤ 16 by omega)
  have hq2 := ishl1_pow hm0 (show v 141 82 ≤ 16 by omega)
  obtain ⟨l, l1, l2, l3, l4, l5, l6, l7⟩ := ior_mb hs.1 (by omega) hk.1 (by omega)
  have hj : j2 = j2 := rfl
  have hL : LfP (mbP S) s j = true := LfP_t.mpr ⟨j2, by rw [show cdP (mbP S) j = k.toNat by omega]; exact hb⟩
  have hLr : LfP (mbP S) (l : Int) = rmP (LfP (mbP S) s) j := LfP_or j2 (by rw [show cdP (mbP S) j = k.toNat by omega]; exact l5) (fun x hx => l6 x (by omega))
  refine ⟨j, j1, j4, j3, hL, ?_⟩
  have hlt : (l : Int) < ishl 1 (v 141 82) := by rw [hq2]; exact l7 _ (by rw [← hq2]; exact hs.2) (by omega)
  have ht := hT (l : Int) k (l4 hb) hlt (Or.inr ⟨hk.1, hk.2, l5⟩)
  unfold valM coM
  rw [l1, ht]
  unfold VM afV
  have hek : eM v k = (j : Int) := by unfold eM; rw [if_neg (by omega)]; exact j4
  rw [hek, hLr, j4]
  have hni := (niP_rm (N := v 192) hL n).1 j1
  have hce : (if i = 9 then 0 else v 193 (9 * v 194 i + (j : Int))) = cSt (gM v) (eM v i) (LfP (mbP S) s) j := by
    unfold cSt eM gM
    rcases hi with e | e
    · rw [if_pos e, if_pos e, if_neg (by omega)]
    · obtain ⟨j', p1, p2, p3, p4⟩ := GA_e hg e.1 e.2
      rw [if_neg (show ¬ i = 9 by omega), if_neg (show ¬ i = 9 by omega), if_pos (by rw [p4]; omega)]
  rw [hce]
  show VV (cSt (gM v)) tJ n (j : Int) (rmP (LfP (mbP S) s) j) + niP (v 192) (rmP (LfP (mbP S) s) j) n + (v 192 (j : Int) + cSt (gM v) (eM v i) (LfP (mbP S) s) j) = cSt (gM v) (eM v i) (LfP (mbP S) s) j + VV (cSt (gM v)) tJ n (tJ j) (rmP (LfP (mbP S) s) j) + niP (v 192) (LfP (mbP S) s) n
  have htj : tJ j = (j : Int) := rfl
  rw [htj]
  omega
theorem VVg_bd {g : Int → Int → Int} {n : Nat} {i : Int} {P : Ps} (hn : n ≤ 9) (hg : ∀ a b, 0 ≤ a → a < 9 → 0 ≤ b → b < 9 → 0 ≤ g a b ∧ g a b ≤ 9) : 0 ≤ VV (cSt g) tJ n i P ∧ VV (cSt g) tJ n i P ≤ 81 := by
  have h := VV_bd (c := cSt g) (t := tJ) (n := n) (C := 9) (by decide) (fun i P j hj _ => by
    unfold cSt
    split
    · exact hg i j (by omega) (by omega) (by omega) (by omega)
    · omega) (cdP P n) i P rfl
  have h2 := cdP_le P n
  omega
/-- the least of them all -/
theorem M_min {v : Wd} {n : Nat} {S s i b : Int} (hn : n ≤ 9) (hg : GA v S n) (hm : v 141 82 ≤ 9) (hc : ∀ a b, 0 ≤ a → a < 9 → 0 ≤ b → b < 9 → 0 ≤ gM v a b ∧ gM v a b ≤ 9) (hN : ∀ k : Int, 0 ≤ k → k < n → 0 ≤ v 192 k ∧ v 192 k ≤ 20)
    (hT : TBM v n S s) (hs : 0 ≤ s ∧ s < ishl 1 (v 141 82)) (hi : i = 9 ∨ (0 ≤ i ∧ i < v 141 82))
    (hA : ∀ k, 0 ≤ k → k < v 141 82 → mbP s k.toNat = false → b ≤ valM v s i k) (hB : b = (if s = ishl 1 (v 141 82) - 1 then 0 else 99999) ∨ ∃ k, 0 ≤ k ∧ k < v 141 82 ∧ mbP s k.toNat = false ∧ b = valM v s i k) : b = VM v n S s i := by
  have hm0 : 0 ≤ v 141 82 := by rw [hg.1]; omega
  have hq := ishl1_bd hm0 (show v 141 82 ≤ 16 by omega)
  have hq2 := ishl1_pow hm0 (show v 141 82 ≤ 16 by omega)
  have hmN : (v 141 82).toNat = cdP (mbP S) n := by have := hg.1; omega
  unfold VM
  by_cases hex : ∃ j, j < n ∧ LfP (mbP S) s j = true
  · obtain ⟨j, q1, q2, q3, q4, q5, q6⟩ := nxV_spec (c := cSt (gM v)) (t := tJ) (n := n) (eM v i) (LfP (mbP S) s) hex
    obtain ⟨p1, p2⟩ := LfP_t.mp q3
    have hkj : cdP (mbP S) j < cdP (mbP S) n := cdP_lt q2 p1
    obtain ⟨j', r1, r2, r3, r4, r5⟩ := valM_eq (k := ((cdP (mbP S) j : Nat) : Int)) hn hg hm hT hs hi ⟨by omega, by omega⟩ p2
    have ej : j' = j := cdP_inj (LfP_t.mp r4).1 p1 (by omega)
    subst ej
    have hA1 := hA ((cdP (mbP S) j' : Nat) : Int) (by omega) (by omega) p2
    rw [r5, ← q4] at hA1
    have hv := VVg_bd (i := eM v i) (P := LfP (mbP S) s) hn hc
    have hni := niP_bd (Q := LfP (mbP S) s) n hN
    rcases hB with e | ⟨k, k0, k1, k2, k3⟩
    · by_cases c : s = ishl 1 (v 141 82) - 1
      · exfalso
        have h3 : (s.toNat).testBit (cdP (mbP S) j') = true := by
          have e5 : ((2 ^ (v 141 82).toNat : Nat) : Int) = 2 ^ (v 141 82).toNat := by simp
          rw [show s.toNat = 2 ^ (v 141 82).toNat - 1 by omega, Nat.testBit_two_pow_sub_one]
          exact decide_eq_true (by omega)
        have p3 : s.toNat.testBit (cdP (mbP S) j') = false := p2
        rw [h3] at p3; cases p3
      · rw [if_neg c] at e
        omega
    · obtain ⟨j2, s1, s2, s3, s4, s5⟩ := valM_eq hn hg hm hT hs hi ⟨k0, k1⟩ k2
      have := q5 j2 s1 s4
      omega
  · have hno : ∀ j, j < n → LfP (mbP S) s j = false := fun j hj => by
      cases hc : LfP (mbP S) s j with
      | false => rfl
      | true => exact absurd ⟨j, hj, hc⟩ hex
    rw [VV_0 hno, niP_0 n hno]
    rcases hB with e | ⟨k, k0, k1, k2, k3⟩
    · by_cases c : s = ishl 1 (v 141 82) - 1
      · rw [if_pos c] at e; exact e
      · exfalso
        have hall : ∀ k, k < (v 141 82).toNat → s.toNat.testBit k = true := fun k hk => by
          obtain ⟨j, j1, j2, j3⟩ := cdP_ex (P := mbP S) n k (by omega)
          have h5 := hno j j1
          cases hq7 : mbP s k with
          | true => exact hq7
          | false =>
            have : LfP (mbP S) s j = true := LfP_t.mpr ⟨j2, by rw [j3]; exact hq7⟩
            rw [this] at h5; cases h5
        have e5 : ((2 ^ (v 141 82).toNat : Nat) : Int) = 2 ^ (v 141 82).toNat := by simp
        have : s.toNat = 2 ^ (v 141 82).toNat - 1 := Nat.eq_of_testBit_eq (fun x => by
          rw [Nat.testBit_two_pow_sub_one]
          by_cases hx : x < (v 141 82).toNat
          · rw [hall x hx, decide_eq_true hx]
          · rw [decide_eq_false hx]
            exact Nat.testBit_lt_two_pow (Nat.lt_of_lt_of_le (show s.toNat < 2 ^ (v 141 82).toNat by omega) (Nat.pow_le_pow_right (by omega) (by omega))))
        omega
    · obtain ⟨j2, s1, s2, s3, s4, -⟩ := valM_eq hn hg hm hT hs hi ⟨k0, k1⟩ k2
      rw [hno j2 s1] at s4; cases s4
/-- the first place that is as good as the best stands for the version that goes next -/
theorem M_first {v : Wd} {n : Nat} {S s i : Int} (hn : n ≤ 9) (hg : GA v S n) (hm : v 141 82 ≤ 9) (hT : TBM v n S (-1)) (hs : 0 ≤ s ∧ s < ishl 1 (v 141 82)) (hi : i = 9 ∨ (0 ≤ i ∧ i < v 141 82 ∧ mbP s i.toNat = true))
    (hex : ∃ j, j < n ∧ LfP (mbP S) s j = true) : ∃ b : Nat, nxV (cSt (gM v)) tJ n (eM v i) (LfP (mbP S) s) = b ∧ ∃ kb, 0 ≤ kb ∧ kb < v 141 82 ∧ v 194 kb = b ∧ mbP s kb.toNat = false ∧ valM v s i kb = v 195 (10 * s + i) ∧ ∀ k, 0 ≤ k → k < kb → mbP s k.toNat = false → valM v s i k ≠ v 195 (10 * s + i) := by
  have hm0 : 0 ≤ v 141 82 := by rw [hg.1]; omega
  have hmN : (v 141 82).toNat = cdP (mbP S) n := by have := hg.1; omega
  have hT2 : TBM v n S s := fun a b c d e => hT a b (by omega) d e
  have hi2 : i = 9 ∨ (0 ≤ i ∧ i < v 141 82) := by
    rcases hi with e | e
    · exact Or.inl e
    · exact Or.inr ⟨e.1, e.2.1⟩
  obtain ⟨j, q1, q2, q3, q4, q5, q6⟩ := nxV_spec (c := cSt (gM v)) (t := tJ) (n := n) (eM v i) (LfP (mbP S) s) hex
  obtain ⟨p1, p2⟩ := LfP_t.mp q3
  have hkj : cdP (mbP S) j < cdP (mbP S) n := cdP_lt q2 p1
  obtain ⟨j', r1, r2, r3, r4, r5⟩ := valM_eq (k := ((cdP (mbP S) j : Nat) : Int)) hn hg hm hT2 hs hi2 ⟨by omega, by omega⟩ p2
  have ej : j' = j := cdP_inj (LfP_t.mp r4).1 p1 (by omega)
  subst ej
  have hent := hT s i (by omega) hs.2 hi
  unfold VM at hent
  refine ⟨j', q1, ((cdP (mbP S) j' : Nat) : Int), by omega, by omega, r2, p2, by rw [r5, hent, q4], fun k k0 k1 k2 => ?_⟩
  obtain ⟨j2, s1, s2, s3, s4, s5⟩ := valM_eq hn hg hm hT2 hs hi2 ⟨k0, by omega⟩ k2
  have hlt : j2 < j' := by
    rcases Nat.lt_or_ge j2 j' with q | q
    · exact q
    · have := cdP_mono (P := mbP S) q; omega
  have := q6 j2 hlt s4
  rw [s5, hent]
  omega
