/-! TOKENS. -/
abbrev isLt (c : Int) : Prop := (97 ≤ c ∧ c ≤ 122) ∨ (65 ≤ c ∧ c ≤ 90)
abbrev isDg (c : Int) : Prop := 48 ≤ c ∧ c ≤ 57
abbrev togT (a b : Int) : Prop := (isLt a ∧ isLt b) ∨ (isDg a ∧ isDg b)
abbrev blkT (c : Int) : Prop := c = 32 ∨ c = 10
/-- a token begins at i -/
abbrev staT (T : Int → Int) (i : Int) : Prop := ¬ blkT (T i) ∧ ¬ (0 < i ∧ togT (T (i - 1)) (T i))
/-- signs of c's sort from e on -/
def exT (T : Int → Int) (n c : Int) : Nat → Int → Int
  | 0, e => e
  | f + 1, e => if e < n ∧ togT c (T e) then exT T n c f (e + 1) else e
def enT (T : Int → Int) (n s : Int) : Int := exT T n (T s) (n - s).toNat (s + 1)
theorem exT_ge {T : Int → Int} {n c : Int} : ∀ (f : Nat) (e : Int), e ≤ exT T n c f e
  | 0, e => Int.le_refl e
  | f + 1, e => by
    rw [exT]
    split
    · exact Int.le_trans (by omega) (exT_ge f (e + 1))
    · exact Int.le_refl e
theorem exT_le {T : Int → Int} {n c : Int} : ∀ (f : Nat) (e : Int), e ≤ n → exT T n c f e ≤ n
  | 0, e, h => h
  | f + 1, e, h => by
    rw [exT]
    split
    · rename_i q
      exact exT_le f (e + 1) (by omega)
    · exact h
theorem exT_in {T : Int → Int} {n c : Int} : ∀ (f : Nat) (e j : Int), e ≤ j → j < exT T n c f e → j < n ∧ togT c (T j)
  | 0, e, j, h1, h2 => absurd h2 (by show ¬ j < e; omega)
  | f + 1, e, j, h1, h2 => by
    rw [exT] at h2
    split at h2
    · rename_i q
      by_cases ej : j = e
      · rw [ej]; exact q
      · exact exT_in f (e + 1) j (by omega) h2
    · omega
theorem exT_st {T : Int → Int} {n c : Int} : ∀ (f : Nat) (e : Int), n - e ≤ f → ¬ (exT T n c f e < n ∧ togT c (T (exT T n c f e)))
  | 0, e, h => fun q => by have := q.1; rw [exT] at this; omega
  | f + 1, e, h => by
    rw [exT]
    split
    · exact exT_st f (e + 1) (by omega)
    · assumption
/-- one more step where the next sign is of that sort -/
theorem exT_on {T : Int → Int} {n c : Int} {f : Nat} {e : Int} (hf : n - e ≤ f) (h : e < n ∧ togT c (T e)) : exT T n c f e = exT T n c (n - (e + 1)).toNat (e + 1) := by
  have key : ∀ (f g : Nat) (e : Int), n - e ≤ f → n - e ≤ g → exT T n c f e = exT T n c g e := by
    intro f
    induction f with
    | zero =>
      intro g e h1 h2
      cases g with
      | zero => rfl
      | succ g => rw [exT, exT, if_neg (by omega)]
    | succ f ih =>
      intro g e h1 h2
      cases g with
      | zero => rw [exT, exT, if_neg (by omega)]
      | succ g =>
        rw [exT, exT]
        split
        · exact ih g (e + 1) (by omega) (by omega)
        · rfl
  cases f with
  | zero => exact absurd h.1 (by omega)
  | succ f =>
    rw [exT, if_pos h]
    exact key _ _ _ (by omega) (by omega)
theorem exT_off {T : Int → Int} {n c : Int} {f : Nat} {e : Int} (h : ¬ (e < n ∧ togT c (T e))) : exT T n c f e = e := by
  cases f with
  | zero => rfl
  | succ f => rw [exT, if_neg h]
theorem enT_gt {T : Int → Int} {n s : Int} : s < enT T n s := by
  have := exT_ge (T := T) (n := n) (c := T s) (n - s).toNat (s + 1)
  unfold enT
  omega
theorem enT_le {T : Int → Int} {n s : Int} (h : s < n) : enT T n s ≤ n := exT_le _ _ (by omega)
theorem enT_in {T : Int → Int} {n s j : Int} (h1 : s < j) (h2 : j < enT T n s) : j < n ∧ togT (T s) (T j) := exT_in _ _ j (by omega) h2
/-- beginnings of tokens from p on -/
def reF (T : Int → Int) : Nat → Int → List Int
  | 0, _ => []
  | f + 1, p => if staT T p then p :: reF T f (p + 1) else reF T f (p + 1)
def reL (T : Int → Int) (n p : Int) : List Int := reF T (n - p).toNat p
theorem reL_end {T : Int → Int} {n p : Int} (h : n ≤ p) : reL T n p = [] := by
  unfold reL
  rw [show (n - p).toNat = 0 by omega]
  rfl
theorem reL_s {T : Int → Int} {n p : Int} (h : p < n) : reL T n p = if staT T p then p :: reL T n (p + 1) else reL T n (p + 1) := by
  unfold reL
  rw [show (n - p).toNat = (n - (p + 1)).toNat + 1 by omega, reF]
/-- p follows no sign of its own sort -/
abbrev frT (T : Int → Int) (n p : Int) : Prop := ¬ (0 < p ∧ p < n ∧ togT (T (p - 1)) (T p))
theorem exT_re {T : Int → Int} {n c : Int} : ∀ (f : Nat) (e : Int), 0 < e → ((isLt c ↔ isLt (T (e - 1))) ∧ (isDg c ↔ isDg (T (e - 1)))) → n - e ≤ f → reL T n e = reL T n (exT T n c f e) ∧ frT T n (exT T n c f e)
  | 0, e, h0, h1, h2 => ⟨rfl, fun q => by have := q.2.1; rw [exT] at this; omega⟩
  | f + 1, e, h0, h1, h2 => by
    rw [exT]
    by_cases q : e < n ∧ togT c (T e)
    · rw [if_pos q, reL_s q.1, if_neg (fun z => z.2 ⟨h0, by
        rcases q.2 with y | y
        · exact Or.inl ⟨h1.1.mp y.1, y.2⟩
        · exact Or.inr ⟨h1.2.mp y.1, y.2⟩⟩)]
      refine exT_re f (e + 1) (by omega) ?_ (by omega)
      rw [show e + 1 - 1 = e by omega]
      have q2 := q.2
      generalize T e = x at q2 ⊢
      constructor <;> constructor <;> intro y <;> omega
    · rw [if_neg q]
      refine ⟨rfl, fun z => q ⟨z.2.1, ?_⟩⟩
      rcases z.2.2 with y | y
      · exact Or.inl ⟨h1.1.mpr y.1, y.2⟩
      · exact Or.inr ⟨h1.2.mpr y.1, y.2⟩
/-- behind a token: the others stand -/
theorem enT_re {T : Int → Int} {n s : Int} (h0 : 0 ≤ s) : reL T n (s + 1) = reL T n (enT T n s) ∧ frT T n (enT T n s) :=
  exT_re _ _ (by omega) (by rw [show s + 1 - 1 = s by omega]; exact ⟨Iff.rfl, Iff.rfl⟩) (by omega)
/-- a number's value by its first k digits -/
def nuF (T : Int → Int) (s : Int) : Nat → Int
  | 0 => 0
  | k + 1 => 10 * nuF T s k + T (s + k) - 48
theorem nuF_bd {T : Int → Int} {s : Int} : ∀ k : Nat, (∀ j : Int, 0 ≤ j → j < k → isDg (T (s + j))) → 0 ≤ nuF T s k ∧ nuF T s k + 1 ≤ (10 : Int) ^ k
  | 0, _ => ⟨Int.le_refl 0, by show (0 : Int) + 1 ≤ (10 : Int) ^ 0; decide⟩
  | k + 1, h => by
    have ih := nuF_bd k (fun j a b => h j a (by omega))
    have hk := h k (by omega) (by omega)
    rw [nuF, Int.pow_succ]
    generalize (10 : Int) ^ k = P at ih ⊢
    generalize T (s + (k : Int)) = x at hk ⊢
    omega
theorem nuF_4 {T : Int → Int} {s : Int} {k : Nat} (hk : k ≤ 4) (h : ∀ j : Int, 0 ≤ j → j < k → isDg (T (s + j))) : 0 ≤ nuF T s k ∧ nuF T s k ≤ 9999 := by
  have h1 := nuF_bd k h
  have h2 : (10 : Int) ^ k ≤ 10000 := by
    rcases (show k = 0 ∨ k = 1 ∨ k = 2 ∨ k = 3 ∨ k = 4 by omega) with e | e | e | e | e <;> rw [e] <;> decide
  omega
def nuT (T : Int → Int) (n s : Int) : Int := nuF T s (if enT T n s - s ≤ 4 then (enT T n s - s).toNat else 4)
theorem tog_dg {a b : Int} (h : togT a b) (ha : isDg a) : isDg b := by omega
theorem tog_lt {a b : Int} (h : togT a b) (ha : isLt a) : isLt b := by omega
theorem nuT_bd {T : Int → Int} {n s : Int} (h : isDg (T s)) : 0 ≤ nuT T n s ∧ nuT T n s ≤ 9999 := by
  have hg := enT_gt (T := T) (n := n) (s := s)
  unfold nuT
  refine nuF_4 (by split <;> omega) (fun j a b => ?_)
  by_cases e : j = 0
  · rw [e, Int.add_zero]; exact h
  · have hj : s + j < enT T n s := by
      split at b <;> omega
    exact tog_dg (enT_in (by omega) hj).2 h
/-- the token at s, l signs long, is word k -/
def isWb (T : Int → Int) (s l : Int) (k : Nat) : Bool := decide (l = (lnS (k + 2) : Nat)) && (List.range (lnS (k + 2))).all (fun j => decide (T (s + j) = chS (k + 2) j))
theorem isWb_iff {T : Int → Int} {s l : Int} {k : Nat} : isWb T s l k = true ↔ l = (lnS (k + 2) : Nat) ∧ ∀ j : Int, 0 ≤ j → j < l → T (s + j) = chS (k + 2) j := by
  unfold isWb
  rw [Bool.and_eq_true, decide_eq_true_iff, List.all_eq_true]
  constructor
  · rintro ⟨h1, h2⟩
    refine ⟨h1, fun j a b => ?_⟩
    have := h2 j.toNat (List.mem_range.mpr (by omega))
    rw [decide_eq_true_iff, Int.toNat_of_nonneg a] at this
    exact this
  · rintro ⟨h1, h2⟩
    refine ⟨h1, fun j hj => decide_eq_true (h2 j (by omega) (by have := List.mem_range.mp hj; omega))⟩
def kwF (T : Int → Int) (s l : Int) : Nat → Nat → Int
  | 0, _ => -1
  | f + 1, k => if isWb T s l k = true then k else kwF T s l f (k + 1)
def kwT (T : Int → Int) (s l : Int) : Int := kwF T s l 17 0
theorem kwF_bd {T : Int → Int} {s l : Int} : ∀ f k : Nat, kwF T s l f k = -1 ∨ ((k : Int) ≤ kwF T s l f k ∧ kwF T s l f k < (k + f : Nat))
  | 0, k => Or.inl rfl
  | f + 1, k => by
    rw [kwF]
    split
    · exact Or.inr ⟨Int.le_refl _, by omega⟩
    · rcases kwF_bd f (k + 1) with h | h
      · exact Or.inl h
      · exact Or.inr ⟨by omega, by omega⟩
theorem kwT_bd {T : Int → Int} {s l : Int} : kwT T s l = -1 ∨ (0 ≤ kwT T s l ∧ kwT T s l < 17) := by
  have := kwF_bd (T := T) (s := s) (l := l) 17 0
  unfold kwT
  omega
abbrev sgnT (c : Int) : Prop := c = 59 ∨ c = 43 ∨ c = 45 ∨ c = 42 ∨ c = 47 ∨ c = 40 ∨ c = 41 ∨ c = 60 ∨ c = 61 ∨ c = 62
theorem hasS_1 (c : Int) : hasS 1 c ↔ sgnT c := by
  have hl : lnS 1 = 10 := rfl
  constructor
  · rintro ⟨j, h0, h1, h2⟩
    rw [hl] at h1
    rcases (show j = 0 ∨ j = 1 ∨ j = 2 ∨ j = 3 ∨ j = 4 ∨ j = 5 ∨ j = 6 ∨ j = 7 ∨ j = 8 ∨ j = 9 by omega) with rfl | rfl | rfl | rfl | rfl | rfl | rfl | rfl | rfl | rfl
    · have : chS 1 0 = 59 := rfl; omega
    · have : chS 1 1 = 43 := rfl; omega
    · have : chS 1 2 = 45 := rfl; omega
    · have : chS 1 3 = 42 := rfl; omega
    · have : chS 1 4 = 47 := rfl; omega
    · have : chS 1 5 = 40 := rfl; omega
    · have : chS 1 6 = 41 := rfl; omega
    · have : chS 1 7 = 60 := rfl; omega
    · have : chS 1 8 = 61 := rfl; omega
    · have : chS 1 9 = 62 := rfl; omega
  · rintro (h | h | h | h | h | h | h | h | h | h)
    · exact ⟨0, by decide, by rw [hl]; decide, h.symm⟩
    · exact ⟨1, by decide, by rw [hl]; decide, h.symm⟩
    · exact ⟨2, by decide, by rw [hl]; decide, h.symm⟩
    · exact ⟨3, by decide, by rw [hl]; decide, h.symm⟩
    · exact ⟨4, by decide, by rw [hl]; decide, h.symm⟩
    · exact ⟨5, by decide, by rw [hl]; decide, h.symm⟩
    · exact ⟨6, by decide, by rw [hl]; decide, h.symm⟩
    · exact ⟨7, by decide, by rw [hl]; decide, h.symm⟩
    · exact ⟨8, by decide, by rw [hl]; decide, h.symm⟩
    · exact ⟨9, by decide, by rw [hl]; decide, h.symm⟩
/-- what the token at s is -/
def kdT (T : Int → Int) (n s : Int) : Int := if isLt (T s) then (if 0 ≤ kwT T s (enT T n s - s) then 256 + kwT T s (enT T n s - s) else 2) else if isDg (T s) then (if enT T n s - s ≤ 4 then 1 else 2) else if sgnT (T s) then T s else 2
theorem kdT_bd (T : Int → Int) (n s : Int) : 1 ≤ kdT T n s ∧ kdT T n s ≤ 272 ∧ (kdT T n s = 1 ∨ kdT T n s = 2 ∨ (40 ≤ kdT T n s ∧ kdT T n s ≤ 62) ∨ 256 ≤ kdT T n s) := by
  have := kwT_bd (T := T) (s := s) (l := enT T n s - s)
  unfold kdT
  split
  · split <;> omega
  · split
    · split <;> omega
    · split <;> omega
theorem kdT_1 {T : Int → Int} {n s : Int} (h : kdT T n s = 1) : isDg (T s) ∧ enT T n s - s ≤ 4 := by
  have := kwT_bd (T := T) (s := s) (l := enT T n s - s)
  unfold kdT at h
  split at h
  · split at h <;> omega
  · split at h
    · split at h
      · constructor <;> assumption
      · omega
    · split at h <;> omega
/-- the reference's number of a token -/
def mkK (k : Int) : Int := if k = 1 then 2 else if k = 2 then 1 else if 259 ≤ k ∧ k ≤ 262 then k - 256 else if 256 ≤ k ∧ k ≤ 258 then k + 45 else if 263 ≤ k ∧ k ≤ 272 then k + 138 else k
/-- the padded word of the class -/
theorem word_tab : ∀ k : Fin 17, lnS ((k : Nat) + 2) ≤ 6 ∧ ∀ i : Fin 6, chS 0 ((6 * (k : Nat) + (i : Nat) : Nat) : Int) = (if (i : Nat) < lnS ((k : Nat) + 2) then chS ((k : Nat) + 2) ((i : Nat) : Int) else 32) ∧ ((i : Nat) < lnS ((k : Nat) + 2) → chS ((k : Nat) + 2) ((i : Nat) : Int) ≠ 32) := by decide +kernel
theorem lnS_0 : lnS 0 = 102 := rfl
theorem isW_pad {T : Int → Int} {s l : Int} {k : Nat} (hk : k < 17) (hl : 0 ≤ l ∧ l ≤ 6) (hT : ∀ j : Int, 0 ≤ j → j < l → T (s + j) ≠ 32) : isWb T s l k = true ↔ ∀ i : Int, 0 ≤ i → i < 6 → chS 0 (6 * k + i) = if i < l then T (s + i) else 32 := by
  obtain ⟨w1, w2⟩ := word_tab ⟨k, hk⟩
  have w1 : lnS (k + 2) ≤ 6 := w1
  have w3 : ∀ i : Int, 0 ≤ i → i < 6 → chS 0 (6 * k + i) = (if i < (lnS (k + 2) : Nat) then chS (k + 2) i else 32) ∧ (i < (lnS (k + 2) : Nat) → chS (k + 2) i ≠ 32) := fun i a b => by
    have := w2 ⟨i.toNat, by omega⟩
    have e1 : ((6 * k + i.toNat : Nat) : Int) = 6 * (k : Int) + i := by omega
    have e2 : ((i.toNat : Nat) : Int) = i := Int.toNat_of_nonneg a
    dsimp only at this
    rw [e1, e2] at this
    refine ⟨?_, fun q => this.2 (by omega)⟩
    rw [this.1]
    by_cases q : i < (lnS (k + 2) : Nat)
    · rw [if_pos q, if_pos (by omega)]
    · rw [if_neg q, if_neg (by omega)]
  rw [isWb_iff]
  constructor
  · rintro ⟨h1, h2⟩ i a b
    rw [(w3 i a b).1, ← h1]
    by_cases q : i < l
    · rw [if_pos q, if_pos q, h2 i a q]
    · rw [if_neg q, if_neg q]
  · intro h
    have hle : l = (lnS (k + 2) : Nat) := by
      rcases Int.lt_trichotomy l (lnS (k + 2) : Nat) with q | q | q
      · exfalso
        have a1 := h l hl.1 (by omega)
        rw [(w3 l hl.1 (by omega)).1, if_pos q, if_neg (Int.lt_irrefl _)] at a1
        exact (w3 l hl.1 (by omega)).2 q a1
      · exact q
      · exfalso
        have a1 := h (lnS (k + 2) : Nat) (by omega) (by omega)
        rw [(w3 (lnS (k + 2) : Nat) (by omega) (by omega)).1, if_neg (Int.lt_irrefl _), if_pos q] at a1
        exact hT _ (by omega) q a1.symm
    refine ⟨hle, fun j a b => ?_⟩
    have a1 := h j a (by omega)
    rw [(w3 j a (by omega)).1, if_pos (by omega), if_pos b] at a1
    exact a1.symm
theorem isW_long {T : Int → Int} {s l : Int} {k : Nat} (hk : k < 17) (hl : 6 < l) : ¬ isWb T s l k = true := fun h => by
  have := (isWb_iff.mp h).1
  have := (word_tab ⟨k, hk⟩).1
  dsimp only at this
  omega
theorem kwF_0 {T : Int → Int} {s l : Int} : ∀ f k : Nat, k + f ≤ 17 → 6 < l → kwF T s l f k = -1
  | 0, k, _, _ => rfl
  | f + 1, k, h, hl => by
    rw [kwF, if_neg (isW_long (by omega) hl)]
    exact kwF_0 f (k + 1) (by omega) hl
/-- T may be read as any text that agrees below n -/
theorem reL_mem {T : Int → Int} {n : Int} : ∀ (f : Nat) (p s : Int), s ∈ reF T f p → (p ≤ s ∧ s < p + f) ∧ staT T s
  | 0, p, s, h => by cases h
  | f + 1, p, s, h => by
    rw [reF] at h
    split at h
    · rename_i q
      rcases List.mem_cons.mp h with rfl | h
      · exact ⟨⟨Int.le_refl _, by omega⟩, q⟩
      · have := reL_mem (n := n) f (p + 1) s h
        exact ⟨by omega, this.2⟩
    · have := reL_mem (n := n) f (p + 1) s h
      exact ⟨by omega, this.2⟩
/-- beginnings below i -/
def stL (T : Int → Int) : Nat → List Int
  | 0 => []
  | i + 1 => stL T i ++ if staT T i then [(i : Int)] else []
theorem stL_re {T : Int → Int} {n : Int} : ∀ i : Nat, (i : Int) ≤ n → stL T i ++ reL T n i = reL T n 0
  | 0, _ => rfl
  | i + 1, h => by
    have ih := stL_re (T := T) (n := n) i (by omega)
    rw [stL, List.append_assoc, ← ih, reL_s (T := T) (n := n) (p := (i : Int)) (by omega)]
    congr 1
    split <;> rfl
theorem stL_len {T : Int → Int} : ∀ i : Nat, (stL T i).length ≤ i
  | 0 => Nat.le_refl _
  | i + 1 => by
    have := stL_len (T := T) i
    rw [stL, List.length_append]
    split
    · show _ + 1 ≤ i + 1; omega
    · show _ + 0 ≤ i + 1; omega
