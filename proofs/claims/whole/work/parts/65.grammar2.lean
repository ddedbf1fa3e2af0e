/-! WHAT THE GRAMMAR GIVES. -/
def KOK (K : Ky) : Prop := (∀ s, K.1 s = 1 → 0 ≤ K.2.1 s ∧ K.2.1 s ≤ 9999) ∧ ∀ s, 1 ≤ K.1 s ∧ K.1 s ≤ 272
/-- read from S on: behind C0 stands a code with P, no longer than what was read -/
def Gd (C0 : List Stq) (P : List Stq → Prop) (m : Nat) (S : List Int) (r : Rs) : Prop := ∀ e R, r = okR e R → (∃ D, e = C0 ++ D ∧ P D ∧ D.length + R.length ≤ m ∧ (trL D).length + R.length ≤ m) ∧ R <:+ S
theorem okR_inj {C D : List Stq} {S R : List Int} (h : okR C S = okR D R) : C = D ∧ S = R := by
  have h2 := Sum.inr.inj h
  exact ⟨congrArg Prod.fst h2, congrArg Prod.snd h2⟩
theorem Gd.bnd {C0 : List Stq} {P : List Stq → Prop} {m : Nat} {S : List Int} {r0 : Rs} {f : List Stq → List Int → Rs} (h : ∀ D R, r0 = okR D R → Gd C0 P m S (f D R)) : Gd C0 P m S (bnd r0 f) := by
  intro e R he
  cases hq : r0 with
  | inl x => rw [hq] at he; cases he
  | inr q => rw [hq] at he; exact h q.1 q.2 hq e R he
theorem Gd.fl {C0 : List Stq} {P : List Stq → Prop} {m : Nat} {S S2 : List Int} {K : Ky} {k : Int} : Gd C0 P m S (flK K k S2) := fun e R h => by cases h
theorem Gd.ok {C0 D : List Stq} {P : List Stq → Prop} {m : Nat} {S S2 : List Int} (h : P D) (h1 : D.length + S2.length ≤ m) (h2 : (trL D).length + S2.length ≤ m) (h3 : S2 <:+ S) : Gd C0 P m S (okR (C0 ++ D) S2) := fun e R he => by
  obtain ⟨rfl, rfl⟩ := okR_inj he
  exact ⟨⟨D, rfl, h, h1, h2⟩, h3⟩
theorem hd_tail {K : Ky} {S : List Int} (h : hdK K S ≠ 0) : S.tail.length + 1 = S.length := by
  cases S with
  | nil => exact absurd rfl h
  | cons a r => rfl
theorem hd_le {K : Ky} (hK : KOK K) (S : List Int) : 0 ≤ hdK K S ∧ hdK K S ≤ 272 := by
  cases S with
  | nil => show (0 : Int) ≤ 0 ∧ (0 : Int) ≤ 272; decide
  | cons a r => have := hK.2 a; show 0 ≤ K.1 a ∧ K.1 a ≤ 272; omega
theorem hd_nu {K : Ky} (hK : KOK K) {S : List Int} (h : hdK K S = 1) : 0 ≤ nuK K S ∧ nuK K S ≤ 9999 := by
  cases S with
  | nil => exact absurd h (by show ¬ (0 : Int) = 1; decide)
  | cons a r => exact hK.1 a h
theorem un_gr {K : Ky} (hK : KOK K) {C e : List Stq} {S R : List Int} (h : unP K C S = okR e R) : (∃ p : Stq, e = C ++ [p] ∧ (0 ≤ p.1 ∧ p.1 ≤ 10) ∧ 0 ≤ p.2 ∧ p.2 ≤ 9999) ∧ R = S.tail ∧ R.length + 1 = S.length := by
  unfold unP at h
  have hl := hd_le hK S
  split at h
  · rename_i q
    obtain ⟨rfl, rfl⟩ := okR_inj h
    exact ⟨⟨_, rfl, ⟨Int.le_refl 0, (show (0 : Int) ≤ 10 by decide)⟩, hd_nu hK q⟩, rfl, hd_tail (K := K) (by omega)⟩
  · split at h
    · obtain ⟨rfl, rfl⟩ := okR_inj h
      exact ⟨⟨_, rfl, by dsimp only; omega, by dsimp only; omega⟩, rfl, hd_tail (K := K) (by omega)⟩
    · cases h
theorem pa_gr {K : Ky} (hK : KOK K) {C e : List Stq} {S R : List Int} (h : paP K C S = okR e R) : (∃ v : Int, e = C ++ [(15, v)] ∧ 1 ≤ v ∧ v ≤ 9999) ∧ R = S.tail ∧ R.length + 1 = S.length := by
  unfold paP at h
  split at h
  · rename_i q
    have := hd_nu hK q
    split at h
    · cases h
    · obtain ⟨rfl, rfl⟩ := okR_inj h
      exact ⟨⟨_, rfl, by omega, by omega⟩, rfl, hd_tail (K := K) (by omega)⟩
  · cases h
theorem ok_un {p : Stq} (h : (0 ≤ p.1 ∧ p.1 ≤ 10) ∧ 0 ≤ p.2 ∧ p.2 ≤ 9999) {B k : Nat} (hB : k + 1 ≤ B) : okL B [p] k (k + 1) := by
  rw [okL, if_pos (by omega)]
  exact ⟨⟨h.1, h.2, hB⟩, rfl⟩
theorem ok_op {B : Nat} {k : Int} (h : k = 12 ∨ k = 13 ∨ k = 14 ∨ k = 16 ∨ k = 17 ∨ k = 18 ∨ k = 20 ∨ k = 21) : okL B [(k, 0)] 2 1 := by
  rw [okL, if_neg (by dsimp only; omega), if_neg (by dsimp only; omega), if_neg (by dsimp only; omega)]
  exact ⟨⟨by dsimp only; omega, Nat.le_refl _⟩, rfl⟩
theorem tr_un {p : Stq} (h : 0 ≤ p.1 ∧ p.1 ≤ 10) : (trL [p]).length = 1 := by
  show (tr1 p ++ []).length = 1
  rw [List.append_nil]
  unfold tr1
  split
  · rfl
  · rw [if_pos (by omega)]; rfl
theorem tr_op {k : Int} (h : k = 12 ∨ k = 13 ∨ k = 14 ∨ k = 16 ∨ k = 17 ∨ k = 18 ∨ k = 19 ∨ k = 20 ∨ k = 21) : (trL [(k, 0)]).length = 1 := by
  rcases h with h | h | h | h | h | h | h | h | h <;> rw [h] <;> rfl
theorem suf_tail {S R : List Int} (h : R <:+ S) : R.tail <:+ S := (List.tail_suffix R).trans h
theorem suf_len {S R : List Int} (h : R <:+ S) : R.length ≤ S.length := h.length_le
def okE (D : List Stq) : Prop := okL 3 D 0 1
theorem pr_gr {K : Ky} (hK : KOK K) {C0 : List Stq} {m : Nat} {S0 : List Int} : ∀ (f : Nat) (D : List Stq) (S : List Int), okL 2 D 0 1 → D.length + S.length ≤ m → (trL D).length + S.length ≤ m → S <:+ S0 → Gd C0 (fun D => okL 2 D 0 1) m S0 (prP K f (C0 ++ D) S)
  | 0, D, S, h, h1, h2, h3 => Gd.ok h h1 h2 h3
  | f + 1, D, S, h, h1, h2, h3 => by
    rw [prP]
    split
    · rename_i q
      have ht := hd_tail (K := K) (S := S) (by omega)
      refine Gd.bnd (fun E R hE => ?_)
      obtain ⟨⟨p, rfl, p1, p2⟩, rfl, hl⟩ := un_gr hK hE
      rw [show C0 ++ D ++ [p] ++ [((14 : Int), (0 : Int))] = C0 ++ (D ++ ([p] ++ [((14 : Int), (0 : Int))])) by simp]
      refine pr_gr hK f _ _ ?_ ?_ ?_ (suf_tail (suf_tail h3))
      · exact okL_app D h (okL_app [p] (ok_un ⟨p1, p2⟩ (Nat.le_refl _)) (ok_op (by omega)))
      · simp only [List.length_append, List.length_cons, List.length_nil]; omega
      · rw [trL_app, trL_app]; simp only [List.length_append, tr_un p1, tr_op (show (14 : Int) = 12 ∨ (14 : Int) = 13 ∨ (14 : Int) = 14 ∨ (14 : Int) = 16 ∨ (14 : Int) = 17 ∨ (14 : Int) = 18 ∨ (14 : Int) = 19 ∨ (14 : Int) = 20 ∨ (14 : Int) = 21 by decide)]; omega
    · split
      · have ht := hd_tail (K := K) (S := S) (by omega)
        refine Gd.bnd (fun E R hE => ?_)
        obtain ⟨⟨v, rfl, v1, v2⟩, rfl, hl⟩ := pa_gr hK hE
        rw [List.append_assoc]
        refine pr_gr hK f _ _ ?_ ?_ ?_ (suf_tail (suf_tail h3))
        · refine okL_app D h ?_
          rw [okL, if_neg (show ¬ (15 : Int) < 12 by decide), if_pos rfl]
          exact ⟨⟨⟨v1, v2⟩, Nat.le_refl _⟩, rfl⟩
        · simp only [List.length_append, List.length_cons, List.length_nil]; omega
        · rw [trL_app]
          have : (trL [((15 : Int), v)]).length = 2 := rfl
          simp only [List.length_append, this]; omega
      · exact Gd.ok h h1 h2 h3
theorem tm_gr {K : Ky} (hK : KOK K) {C : List Stq} {S : List Int} : Gd C (fun D => okL 2 D 0 1) S.length S (tmP K C S) := by
  unfold tmP
  refine Gd.bnd (fun E R hE => ?_)
  obtain ⟨⟨p, rfl, p1, p2⟩, rfl, hl⟩ := un_gr hK hE
  refine pr_gr hK _ [p] _ (ok_un ⟨p1, p2⟩ (by decide)) ?_ ?_ (List.tail_suffix S)
  · simp only [List.length_cons, List.length_nil]; omega
  · rw [tr_un p1]; omega
theorem su_gr {K : Ky} (hK : KOK K) {C0 : List Stq} {m : Nat} {S0 : List Int} : ∀ (f : Nat) (D : List Stq) (S : List Int), okL 3 D 0 1 → D.length + S.length ≤ m → (trL D).length + S.length ≤ m → S <:+ S0 → Gd C0 (fun D => okL 3 D 0 1) m S0 (suP K f (C0 ++ D) S)
  | 0, D, S, h, h1, h2, h3 => Gd.ok h h1 h2 h3
  | f + 1, D, S, h, h1, h2, h3 => by
    rw [suP]
    split
    · rename_i q
      have ht := hd_tail (K := K) (S := S) (by omega)
      refine Gd.bnd (fun E R hE => ?_)
      obtain ⟨⟨E1, rfl, e1, e2, e3⟩, hs⟩ := tm_gr hK E R hE
      obtain ⟨k, hk, hk2⟩ : ∃ k : Int, k = (if hdK K S = 43 then 12 else 13) ∧ (k = 12 ∨ k = 13) := ⟨_, rfl, by split <;> omega⟩
      rw [← hk, show C0 ++ D ++ E1 ++ [(k, (0 : Int))] = C0 ++ (D ++ (E1 ++ [(k, (0 : Int))])) by simp]
      refine su_gr hK f _ _ ?_ ?_ ?_ (hs.trans (suf_tail h3))
      · exact okL_app D h (okL_app E1 (okL_up (k := 1) E1 e1) (ok_op (by omega)))
      · simp only [List.length_append, List.length_cons, List.length_nil]; omega
      · rw [trL_app, trL_app]; simp only [List.length_append, tr_op (show k = 12 ∨ k = 13 ∨ k = 14 ∨ k = 16 ∨ k = 17 ∨ k = 18 ∨ k = 19 ∨ k = 20 ∨ k = 21 by omega)]; omega
    · exact Gd.ok h h1 h2 h3
theorem ex_gr {K : Ky} (hK : KOK K) {C : List Stq} {S : List Int} : Gd C okE S.length S (exP K C S) := by
  unfold exP
  refine Gd.bnd (fun E R hE => ?_)
  obtain ⟨⟨E1, rfl, e1, e2, e3⟩, hs⟩ := tm_gr hK E R hE
  exact su_gr hK _ E1 R (okL_le (by decide) E1 e1) e2 e3 hs
theorem ok_ne {B : Nat} {D : List Stq} (h : okL B D 0 1) : 1 ≤ D.length := by
  cases D with
  | nil => exact absurd (show 0 = 1 from h) (by decide)
  | cons a r => show 1 ≤ r.length + 1; omega
theorem Gd.lt {C0 : List Stq} {P : List Stq → Prop} {S : List Int} {r : Rs} (h : Gd C0 P S.length S r) (hP : ∀ D, P D → 1 ≤ D.length) {e : List Stq} {R : List Int} (he : r = okR e R) : R.length < S.length := by
  obtain ⟨⟨D, -, h1, h2, -⟩, -⟩ := h e R he
  have := hP D h1
  omega
/-- two codes and a sign -/
theorem va_2 {F : Int → Int} {B1 B2 : Nat} {D E : List Stq} (hD : okL B1 D 0 1) (hE : okL B2 E 0 1) {k : Int} (hk : ¬ k < 12 ∧ k ≠ 15 ∧ k ≠ 19) : evL F (D ++ (E ++ [(k, 0)])) [] = [joV k (vaL F D) (vaL F E)] := by
  rw [evL_app, vaL_1 hD, evL_app]
  have := evL_fr (F := F) (B := B2) E (st := []) (s := [vaL F D]) hE
  rw [List.nil_append] at this
  rw [this, vaL_1 hE]
  show ev1 F (k, 0) [vaL F E, vaL F D] = _
  unfold ev1
  rw [if_neg hk.1, if_neg hk.2.1, if_neg hk.2.2]
/-- a condition's code -/
def okC (b : Nat) (D : List Stq) : Prop := okL b D 0 1 ∧ ∀ F, vaL F D = 0 ∨ vaL F D = 1
theorem okC_1 {b : Nat} {D : List Stq} (h : okC b D) : 1 ≤ D.length := ok_ne h.1
theorem okC_le {b c : Nat} {D : List Stq} (hb : b ≤ c) (h : okC b D) : okC c D := ⟨okL_le hb D h.1, h.2⟩
theorem ok_2 {B1 B2 B : Nat} {D E : List Stq} (h1 : B1 ≤ B) (h2 : B2 + 1 ≤ B) (hD : okL B1 D 0 1) (hE : okL B2 E 0 1) {k : Int} (h : k = 12 ∨ k = 13 ∨ k = 14 ∨ k = 16 ∨ k = 17 ∨ k = 18 ∨ k = 20 ∨ k = 21) : okL B (D ++ (E ++ [(k, 0)])) 0 1 :=
  okL_app D (okL_le h1 D hD) (okL_app E (okL_le h2 E (okL_up (k := 1) E hE)) (ok_op h))
theorem jo_cmp {k : Int} (h : k = 16 ∨ k = 17 ∨ k = 18) (a b : Int) : joV k a b = 0 ∨ joV k a b = 1 := by
  unfold joV
  rcases h with rfl | rfl | rfl
  · rw [if_neg (by decide), if_neg (by decide), if_neg (by decide), if_pos rfl]
    split
    · exact Or.inr rfl
    · exact Or.inl rfl
  · rw [if_neg (by decide), if_neg (by decide), if_neg (by decide), if_neg (by decide), if_pos rfl]
    split
    · exact Or.inr rfl
    · exact Or.inl rfl
  · rw [if_neg (by decide), if_neg (by decide), if_neg (by decide), if_neg (by decide), if_neg (by decide), if_pos rfl]
    split
    · exact Or.inr rfl
    · exact Or.inl rfl
theorem cm_gr {K : Ky} (hK : KOK K) {C : List Stq} {S : List Int} : Gd C (okC 4) S.length S (cmP K C S) := by
  unfold cmP
  refine Gd.bnd (fun E R hE => ?_)
  obtain ⟨⟨E1, rfl, e1, e2, e3⟩, hs⟩ := ex_gr hK E R hE
  split
  · rename_i q
    have ht := hd_tail (K := K) (S := R) (by omega)
    refine Gd.bnd (fun G Q hG => ?_)
    obtain ⟨⟨G1, rfl, g1, g2, g3⟩, hs2⟩ := ex_gr hK G Q hG
    obtain ⟨k, hk, hk2⟩ : ∃ k : Int, k = hdK K R - 44 ∧ (k = 16 ∨ k = 17 ∨ k = 18) := ⟨_, rfl, by omega⟩
    rw [← hk, show C ++ E1 ++ G1 ++ [(k, (0 : Int))] = C ++ (E1 ++ (G1 ++ [(k, (0 : Int))])) by simp]
    refine Gd.ok ⟨ok_2 (by decide) (by decide) e1 g1 (by omega), fun F => ?_⟩ ?_ ?_ (hs2.trans (suf_tail hs))
    · unfold vaL
      rw [va_2 e1 g1 (by omega)]
      show joV k (vaL F E1) (vaL F G1) = 0 ∨ joV k (vaL F E1) (vaL F G1) = 1
      exact jo_cmp hk2 _ _
    · simp only [List.length_append, List.length_cons, List.length_nil]; omega
    · rw [trL_app, trL_app]; simp only [List.length_append, tr_op (show k = 12 ∨ k = 13 ∨ k = 14 ∨ k = 16 ∨ k = 17 ∨ k = 18 ∨ k = 19 ∨ k = 20 ∨ k = 21 by omega)]; omega
  · exact Gd.fl
theorem nd_gr {K : Ky} {C0 D : List Stq} {P : List Stq → Prop} {m : Nat} {S S0 : List Int} {k : Int} (hk : k ≠ 0) (h : P D) (h1 : D.length + S.length ≤ m) (h2 : (trL D).length + S.length ≤ m) (h3 : S <:+ S0) : Gd C0 P m S0 (ndP K k (C0 ++ D) S) := by
  unfold ndP
  split
  · rename_i q
    have ht := hd_tail (K := K) (S := S) (by omega)
    exact Gd.ok h (by omega) (by omega) (suf_tail h3)
  · exact Gd.fl
theorem iand_01 {a b : Int} (ha : a = 0 ∨ a = 1) (hb : b = 0 ∨ b = 1) : iand a b = 0 ∨ iand a b = 1 := by
  rcases ha with rfl | rfl <;> rcases hb with rfl | rfl <;> first | exact Or.inl (by decide) | exact Or.inr (by decide)
theorem ior_01 {a b : Int} (ha : a = 0 ∨ a = 1) (hb : b = 0 ∨ b = 1) : ior a b = 0 ∨ ior a b = 1 := by
  rcases ha with rfl | rfl <;> rcases hb with rfl | rfl <;> first | exact Or.inl (by decide) | exact Or.inr (by decide)
/-- an and- or or-chain -/
theorem okC_2 {b c : Nat} {D E : List Stq} (hb : b ≤ c) (hc : c < c + 1) {k : Int} (hk : k = 20 ∨ k = 21) (hD : okC (c + 1) D) (hE : okC b E) : okC (c + 1) (D ++ (E ++ [(k, 0)])) := by
  refine ⟨ok_2 (Nat.le_refl _) (by omega) hD.1 hE.1 (by omega), fun F => ?_⟩
  unfold vaL
  rw [va_2 hD.1 hE.1 (by omega)]
  show joV k (vaL F D) (vaL F E) = 0 ∨ joV k (vaL F D) (vaL F E) = 1
  unfold joV
  rcases hk with z | z <;> rw [z]
  · exact iand_01 (hD.2 F) (hE.2 F)
  · exact ior_01 (hD.2 F) (hE.2 F)
abbrev OneOk (K : Ky) (b : Nat) (one : List Stq → List Int → Rs) : Prop := ∀ C S, Gd C (okC b) S.length S (one C S)
theorem evW_gr {K : Ky} {b : Nat} {one : List Stq → List Int → Rs} (ho : OneOk K b one) {C0 : List Stq} {m : Nat} {S0 : List Int} : ∀ (f : Nat) (D : List Stq) (S : List Int), okC (b + 1) D → D.length + S.length ≤ m → (trL D).length + S.length ≤ m → S <:+ S0 → Gd C0 (okC (b + 1)) m S0 (evW K one f (C0 ++ D) S)
  | 0, D, S, h, h1, h2, h3 => Gd.ok h h1 h2 h3
  | f + 1, D, S, h, h1, h2, h3 => by
    rw [evW]
    split
    · have ht := hd_tail (K := K) (S := S) (by omega)
      refine Gd.bnd (fun E R hE => ?_)
      obtain ⟨⟨E1, rfl, e1, e2, e3⟩, hs⟩ := ho _ _ E R hE
      rw [show C0 ++ D ++ E1 ++ [((20 : Int), (0 : Int))] = C0 ++ (D ++ (E1 ++ [((20 : Int), (0 : Int))])) by simp]
      refine evW_gr ho f _ _ (okC_2 (Nat.le_refl _) (by omega) (Or.inl rfl) h e1) ?_ ?_ (hs.trans (suf_tail h3))
      · simp only [List.length_append, List.length_cons, List.length_nil]; omega
      · rw [trL_app, trL_app]
        have : (trL [((20 : Int), (0 : Int))]).length = 1 := rfl
        simp only [List.length_append, this]; omega
    · exact Gd.ok h h1 h2 h3
theorem ev_gr {K : Ky} {b : Nat} {one : List Stq → List Int → Rs} (ho : OneOk K b one) (C : List Stq) (S : List Int) : Gd C (okC (b + 1)) S.length S (evF K one C S) := by
  unfold evF
  refine Gd.bnd (fun E R hE => ?_)
  obtain ⟨⟨E1, rfl, e1, e2, e3⟩, hs⟩ := ho _ _ E R hE
  exact evW_gr ho _ E1 R (okC_le (by omega) e1) e2 e3 hs
theorem anW_gr {K : Ky} {b : Nat} {one : List Stq → List Int → Rs} (ho : OneOk K b one) {C0 : List Stq} {m : Nat} {S0 : List Int} : ∀ (f : Nat) (D : List Stq) (S : List Int), okC (b + 2) D → D.length + S.length ≤ m → (trL D).length + S.length ≤ m → S <:+ S0 → Gd C0 (okC (b + 2)) m S0 (anW K one f (C0 ++ D) S)
  | 0, D, S, h, h1, h2, h3 => Gd.ok h h1 h2 h3
  | f + 1, D, S, h, h1, h2, h3 => by
    rw [anW]
    split
    · have ht := hd_tail (K := K) (S := S) (by omega)
      refine Gd.bnd (fun E R hE => ?_)
      obtain ⟨⟨E1, rfl, e1, e2, e3⟩, hs⟩ := ev_gr ho _ _ E R hE
      rw [show C0 ++ D ++ E1 ++ [((21 : Int), (0 : Int))] = C0 ++ (D ++ (E1 ++ [((21 : Int), (0 : Int))])) by simp]
      refine anW_gr ho f _ _ (okC_2 (c := b + 1) (Nat.le_refl _) (by omega) (Or.inr rfl) h e1) ?_ ?_ (hs.trans (suf_tail h3))
      · simp only [List.length_append, List.length_cons, List.length_nil]; omega
      · rw [trL_app, trL_app]
        have : (trL [((21 : Int), (0 : Int))]).length = 1 := rfl
        simp only [List.length_append, this]; omega
    · exact Gd.ok h h1 h2 h3
theorem an_gr {K : Ky} {b : Nat} {one : List Stq → List Int → Rs} (ho : OneOk K b one) (C : List Stq) (S : List Int) : Gd C (okC (b + 2)) S.length S (anF K one C S) := by
  unfold anF
  refine Gd.bnd (fun E R hE => ?_)
  obtain ⟨⟨E1, rfl, e1, e2, e3⟩, hs⟩ := ev_gr ho _ _ E R hE
  exact anW_gr ho _ E1 R (okC_le (by omega) e1) e2 e3 hs
theorem on_gr {K : Ky} (hK : KOK K) : ∀ r : Nat, OneOk K (4 + 2 * r) (onP K r)
  | 0 => fun C S => by
    rw [onP]
    split
    · exact Gd.fl
    · exact cm_gr hK
  | r + 1 => fun C S => by
    rw [onP]
    split
    · have ht := hd_tail (K := K) (S := S) (by omega)
      refine Gd.bnd (fun E R hE => ?_)
      obtain ⟨⟨E1, rfl, e1, e2, e3⟩, hs⟩ := on_gr hK r _ _ E R hE
      rw [List.append_assoc]
      refine Gd.ok ⟨okL_app E1 (okL_le (by omega) E1 e1.1) ?_, fun F => ?_⟩ ?_ ?_ (hs.trans (List.tail_suffix S))
      · rw [okL, if_neg (by decide), if_neg (by decide), if_pos rfl]
        exact ⟨Nat.le_refl _, rfl⟩
      · unfold vaL
        rw [evL_app, vaL_1 e1.1]
        show wr (1 - vaL F E1) = 0 ∨ wr (1 - vaL F E1) = 1
        rcases e1.2 F with z | z <;> rw [z]
        · exact Or.inr (by decide)
        · exact Or.inl (by decide)
      · simp only [List.length_append, List.length_cons, List.length_nil]; omega
      · rw [trL_app]
        have : (trL [((19 : Int), (0 : Int))]).length = 1 := rfl
        simp only [List.length_append, this]; omega
    · split
      · have ht := hd_tail (K := K) (S := S) (by omega)
        refine Gd.bnd (fun E R hE => ?_)
        obtain ⟨⟨E1, rfl, e1, e2, e3⟩, hs⟩ := an_gr (on_gr hK r) _ _ E R hE
        exact nd_gr (by decide) (okC_le (by omega) e1) (by omega) (by omega) (hs.trans (List.tail_suffix S))
      · intro e R he
        obtain ⟨⟨D, d0, d1, d2, d3⟩, hs⟩ := cm_gr hK e R he
        exact ⟨⟨D, d0, okC_le (by omega) d1, d2, d3⟩, hs⟩
