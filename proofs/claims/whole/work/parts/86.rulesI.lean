/-! RULES KEEP THE INVARIANT. -/
/-- the second numbers as they stand in the reference's table -/
def fixS (v : Wd) : Nat → List Stq → List Stq
  | _, [] => []
  | a, p :: r => (p.1, v 177 (2 * (a : Int) + 1)) :: fixS v (a + 1) r
def fixL (v : Wd) : Nat → List Lin → List Lin
  | _, [] => []
  | a, q :: r => (q.1, fixS v a q.2.1, fixS v (a + q.2.1.length) q.2.2) :: fixL v (a + q.2.1.length + q.2.2.length) r
/-- steps stand from a on -/
def StpA (v : Wd) (a : Nat) (V : List Stq) : Prop := ∀ j : Nat, j < V.length → stp (V.getD j (0, 0)) (v 177 (2 * ((a + j : Nat) : Int))) (v 177 (2 * ((a + j : Nat) : Int) + 1))
theorem StpA.hd {v : Wd} {a : Nat} {p : Stq} {r : List Stq} (h : StpA v a (p :: r)) : stp p (v 177 (2 * (a : Int))) (v 177 (2 * (a : Int) + 1)) ∧ StpA v (a + 1) r := by
  refine ⟨h 0 (by show 0 < r.length + 1; omega), fun j hj => ?_⟩
  have h2 := h (j + 1) (by show j + 1 < r.length + 1; omega)
  rw [show a + (j + 1) = a + 1 + j by omega] at h2
  exact h2
theorem StpA.app {v : Wd} : ∀ {A B : List Stq} {a : Nat}, StpA v a (A ++ B) → StpA v a A ∧ StpA v (a + A.length) B
  | [], B, a, h => ⟨fun j hj => absurd hj (Nat.not_lt_zero j), h⟩
  | p :: A, B, a, h => by
    obtain ⟨h1, h2⟩ := StpA.hd (r := A ++ B) h
    obtain ⟨h3, h4⟩ := StpA.app h2
    refine ⟨fun j hj => ?_, ?_⟩
    · cases j with
      | zero => exact h1
      | succ j =>
        have h5 := h3 j (by have : j + 1 < A.length + 1 := hj; omega)
        rw [show a + 1 + j = a + (j + 1) by omega] at h5
        exact h5
    · rw [show a + (p :: A).length = a + 1 + A.length by show a + (A.length + 1) = _; omega]
      exact h4
theorem fixS_len {v : Wd} : ∀ (V : List Stq) (a : Nat), (fixS v a V).length = V.length
  | [], _ => rfl
  | p :: r, a => by show (fixS v (a + 1) r).length + 1 = r.length + 1; rw [fixS_len r]
theorem fixS_nil {v : Wd} {a : Nat} {V : List Stq} : fixS v a V = [] ↔ V = [] := by
  cases V with
  | nil => exact ⟨fun _ => rfl, fun _ => rfl⟩
  | cons p r => exact ⟨fun h => absurd (show (p.1, v 177 (2 * (a : Int) + 1)) :: fixS v (a + 1) r = [] from h) (List.cons_ne_nil _ _), fun h => absurd h (List.cons_ne_nil _ _)⟩
theorem fixS_get {v : Wd} : ∀ (V : List Stq) (a j : Nat), j < V.length → (fixS v a V).getD j (0, 0) = ((V.getD j (0, 0)).1, v 177 (2 * ((a + j : Nat) : Int) + 1))
  | [], _, _, h => absurd h (Nat.not_lt_zero _)
  | p :: r, a, 0, _ => rfl
  | p :: r, a, j + 1, h => by
    have h2 := fixS_get (v := v) r (a + 1) j (by have : j + 1 < r.length + 1 := h; omega)
    rw [show a + 1 + j = a + (j + 1) by omega] at h2
    exact h2
theorem fixS_ok {v : Wd} {Bd : Nat} : ∀ (V : List Stq) (a h h' : Nat), StpA v a V → okL Bd V h h' → okL Bd (fixS v a V) h h'
  | [], _, _, _, _, k => k
  | p :: r, a, h, h', hs, k => by
    obtain ⟨⟨s1, s2, s3⟩, ht⟩ := hs.hd
    rw [fixS, okL]
    rw [okL] at k
    dsimp only
    by_cases c1 : p.1 < 12
    · rw [if_pos c1] at k ⊢
      exact ⟨⟨k.1.1, s3, k.1.2.2⟩, fixS_ok r _ _ _ ht k.2⟩
    · rw [if_neg c1] at k ⊢
      by_cases c2 : p.1 = 15
      · rw [if_pos c2] at k ⊢
        rw [s2 (Or.inr (by omega))]
        exact ⟨k.1, fixS_ok r _ _ _ ht k.2⟩
      · rw [if_neg c2] at k ⊢
        by_cases c3 : p.1 = 19
        · rw [if_pos c3] at k ⊢
          exact ⟨k.1, fixS_ok r _ _ _ ht k.2⟩
        · rw [if_neg c3] at k ⊢
          exact ⟨k.1, fixS_ok r _ _ _ ht k.2⟩
theorem fixS_ev {v : Wd} {F : Int → Int} : ∀ (V : List Stq) (a : Nat) (st : List Int), StpA v a V → evL F (fixS v a V) st = evL F V st
  | [], _, _, _ => rfl
  | p :: r, a, st, hs => by
    obtain ⟨⟨s1, s2, s3⟩, ht⟩ := hs.hd
    rw [fixS, evL, evL, fixS_ev r _ _ ht]
    congr 1
    unfold ev1
    dsimp only
    by_cases c1 : p.1 < 12
    · rw [if_pos c1, if_pos c1]
      by_cases c0 : p.1 = 0
      · rw [if_pos c0, if_pos c0, s2 (Or.inl c0)]
      · rw [if_neg c0, if_neg c0]
    · rw [if_neg c1, if_neg c1]
      by_cases c2 : p.1 = 15
      · rw [if_pos c2, if_pos c2, s2 (Or.inr (by omega))]
      · rw [if_neg c2, if_neg c2]
theorem fixS_tr {v : Wd} : ∀ (V : List Stq) (a : Nat), StpA v a V → trL (fixS v a V) = trL V
  | [], _, _ => rfl
  | p :: r, a, hs => by
    obtain ⟨⟨s1, s2, s3⟩, ht⟩ := hs.hd
    show tr1 (p.1, v 177 (2 * (a : Int) + 1)) ++ trL (fixS v (a + 1) r) = tr1 p ++ trL r
    rw [fixS_tr r _ ht]
    congr 1
    unfold tr1
    dsimp only
    by_cases c0 : p.1 = 0
    · rw [if_pos c0, if_pos c0, s2 (Or.inl c0)]
    · rw [if_neg c0, if_neg c0]
      by_cases c2 : p.1 = 15
      · rw [s2 (Or.inr (by omega))]
      · simp only [if_neg c2]
/-- a line so -/
abbrev fix1 (v : Wd) (a : Nat) (q : Lin) : Lin := (q.1, fixS v a q.2.1, fixS v (a + q.2.1.length) q.2.2)
theorem fix1_ok {v : Wd} {a : Nat} {q : Lin} (h1 : StpA v a q.2.1) (h2 : StpA v (a + q.2.1.length) q.2.2) (h : okLin q) : okLin (fix1 v a q) := by
  obtain ⟨k1, k2, k3, k4⟩ := h
  refine ⟨k1, fun z => ⟨by show fixS v a q.2.1 = []; rw [(k2 z).1]; rfl, fun y => (k2 z).2 (fixS_nil.mp y)⟩, fun z => fixS_ok _ _ _ _ h1 (k3 z), fun z => ?_⟩
  have hn : q.2.2 ≠ [] := fun y => z (fixS_nil.mpr y)
  refine ⟨fixS_ok _ _ _ _ h2 (k4 hn).1, fun F => ?_⟩
  show vaL F (fixS v (a + q.2.1.length) q.2.2) = 0 ∨ _ = 1
  unfold vaL
  rw [fixS_ev _ _ _ h2]
  exact (k4 hn).2 F
theorem fix1_cd {v : Wd} {a : Nat} {q : Lin} (h1 : StpA v a q.2.1) (h2 : StpA v (a + q.2.1.length) q.2.2) : cdL (fix1 v a q) = cdL q := by
  unfold cdL
  dsimp only
  rw [trL_app, trL_app]
  congr 1
  · by_cases c : q.1 = 0
    · rw [if_pos c, if_pos c]
    · rw [if_neg c, if_neg c, fixS_tr _ _ h1]
  · by_cases c : q.2.2 = []
    · rw [if_pos c, if_pos (fixS_nil.mpr c)]
    · rw [if_neg c, if_neg (fun z => c (fixS_nil.mp z)), fixS_tr _ _ h2]
theorem fixL_len {v : Wd} : ∀ (L : List Lin) (a : Nat), (fixL v a L).length = L.length
  | [], _ => rfl
  | q :: r, a => by show (fixL v _ r).length + 1 = r.length + 1; rw [fixL_len r]
theorem fixL_get {v : Wd} : ∀ (L : List Lin) (a i : Nat), i < L.length → lnD (fixL v a L) i = fix1 v (a + (spA (L.take i)).length) (lnD L i)
  | [], _, _, h => absurd h (Nat.not_lt_zero _)
  | q :: r, a, 0, _ => rfl
  | q :: r, a, i + 1, h => by
    have h2 := fixL_get (v := v) r (a + q.2.1.length + q.2.2.length) i (by have : i + 1 < r.length + 1 := h; omega)
    have e : (spA ((q :: r).take (i + 1))).length = q.2.1.length + q.2.2.length + (spA (r.take i)).length := by
      show ((q.2.1 ++ q.2.2) ++ spA (r.take i)).length = _
      rw [List.length_append, List.length_append]
    rw [e, show a + (q.2.1.length + q.2.2.length + (spA (r.take i)).length) = a + q.2.1.length + q.2.2.length + (spA (r.take i)).length by omega]
    exact h2
theorem spA_split (L : List Lin) {i : Nat} (h : i < L.length) : spA L = spA (L.take i) ++ (((lnD L i).2.1 ++ (lnD L i).2.2) ++ spA (L.drop (i + 1))) := by
  have e : L = L.take i ++ (lnD L i :: L.drop (i + 1)) := by
    have h2 : lnD L i = L[i] := by
      unfold lnD
      rw [List.getD_eq_getElem?_getD, List.getElem?_eq_getElem h]
      rfl
    rw [h2, ← List.drop_eq_getElem_cons h, List.take_append_drop]
  conv => lhs; rw [e]
  unfold spA
  rw [List.map_append, List.flatten_append]
  rfl
theorem spA_take (L : List Lin) {i : Nat} (h : i < L.length) : (spA (L.take (i + 1))).length = (spA (L.take i)).length + ((lnD L i).2.1.length + (lnD L i).2.2.length) := by
  have h2 : lnD L i = L[i] := by
    unfold lnD
    rw [List.getD_eq_getElem?_getD, List.getElem?_eq_getElem h]
    rfl
  rw [List.take_succ_eq_append_getElem h, spA_s, List.length_append, List.length_append, h2]
/-- what the reading says of line i's steps -/
theorem LmS.stp {v : Wd} {K : Ky} {L : List Lin} {S : List Int} {k : Int} (h : LmS v K L S k) {i : Nat} (hi : i < L.length) : StpA v (spA (L.take i)).length (lnD L i).2.1 ∧ StpA v ((spA (L.take i)).length + (lnD L i).2.1.length) (lnD L i).2.2 := by
  have h1 : StpA v 0 (spA L) := fun j hj => by
    have h2 := h.2.2.1.2 j hj
    rw [show ((0 : Nat) : Int) + (j : Int) = ((0 + j : Nat) : Int) by omega] at h2
    exact h2
  rw [spA_split L hi] at h1
  have h3 := (StpA.app h1).2
  have h4 := (StpA.app h3).1
  have h5 := StpA.app h4
  rw [Nat.zero_add] at h5
  exact h5
theorem getD_mem2 {L : List Lin} {i : Nat} (h : i < L.length) : lnD L i ∈ L := by
  unfold lnD
  rw [List.getD_eq_getElem?_getD, List.getElem?_eq_getElem h]
  exact List.getElem_mem _
/-- the reference's tables behind the copying -/
theorem rules_lnM {v v2 w1 : Wd} {K : Ky} {L : List Lin} {f : Int} {x y : Int} (hf : 0 ≤ f ∧ f ≤ 2) (h : LmS v K L [] 0) (hc : CpQ (wu (RdM v x y) 169 f L.length) v2 f L.length) (hs : CsQ (wu v2 171 (21 * f + L.length) (spA L).length) w1 f (2 * (spA L).length)) {i : Nat} (hi : i < L.length) : lnM w1 f i (lnD (fixL v 0 L) i) := by
  have hst := h.stp hi
  have hsp : (spA L).length = (spA (L.take i)).length + (((lnD L i).2.1.length + (lnD L i).2.2.length) + (spA (L.drop (i + 1))).length) := by rw [spA_split L hi, List.length_append, List.length_append, List.length_append]
  have hle := h.2.2.2.1
  have ht := h.2.2.2.2.2 i hi
  have h20 := h.2.2.2.2.1.1
  have hl0 : ([] : List Int).length = 0 := rfl
  have k174 : ∀ c : Nat, c = 174 ∨ c = 175 ∨ c = 176 ∨ c = 177 → (wu (RdM v x y) 169 f L.length) c = v c := fun c hc => by
    unfold RdM
    rw [wu_ne (by omega), wu_ne (by omega), wu_ne (by omega), wu_ne (by omega)]
  rw [fixL_get L 0 i hi, Nat.zero_add]
  have e171 : ∀ j, w1 171 j = if j = 21 * f + L.length then ((spA L).length : Int) else v2 171 j := fun j => by rw [hs.1 171 (by decide), wu_at]
  have e170 : ∀ j, w1 170 j = v2 170 j := fun j => by rw [hs.1 170 (by decide), wu_ne (by decide)]
  have e172 : ∀ j, w1 172 j = v2 172 j := fun j => by rw [hs.1 172 (by decide), wu_ne (by decide)]
  have e173 : ∀ j : Nat, j < 2 * (spA L).length → w1 173 (1220 * f + j) = v 177 j := fun j hj => by
    rw [hs.2, if_pos (by omega), show 1220 * f + (j : Int) - 1220 * f = (j : Int) by omega, wu_ne (by decide), hc.1 177 (by decide) (by decide) (by decide), k174 177 (by omega)]
  have s171 : ∀ j : Nat, j ≤ L.length → w1 171 (21 * f + j) = ((spA (L.take j)).length : Int) := fun j hj => by
    rw [e171]
    by_cases e : j = L.length
    · rw [if_pos (by omega), e, List.take_length]
    · rw [if_neg (by omega), hc.2.2.1, if_pos (by omega), show 21 * f + (j : Int) - 21 * f = (j : Int) by omega, k174 175 (by omega)]
      exact (h.2.2.2.2.2 j (by omega)).2.1
  have hstA : ∀ (a : Nat) (V : List Stq), StpA v a V → a + V.length ≤ (spA L).length → stA w1 f a (fixS v a V) := fun a V hv hl j hj => by
    rw [fixS_len] at hj
    have h7 := hv j hj
    rw [fixS_get V a j hj]
    have p1 := e173 (2 * (a + j)) (by omega)
    have p2 := e173 (2 * (a + j) + 1) (by omega)
    rw [show ((2 * (a + j) : Nat) : Int) = 2 * ((a : Int) + (j : Int)) by omega] at p1
    rw [show ((2 * (a + j) + 1 : Nat) : Int) = 2 * ((a : Int) + (j : Int)) + 1 by omega] at p2
    rw [show ((a + j : Nat) : Int) = (a : Int) + (j : Int) by omega] at h7 ⊢
    refine ⟨p1.trans h7.1, ?_⟩
    rw [show 1220 * f + 2 * ((a : Int) + (j : Int)) + 1 = 1220 * f + (2 * ((a : Int) + (j : Int)) + 1) by omega]
    exact p2
  refine ⟨((spA (L.take i)).length : Int), by omega, s171 i (by omega), ?_, ?_, ?_, hstA _ _ hst.1 (by omega), ?_, ?_⟩
  · rw [e172, hc.2.2.2, if_pos (by omega), show 20 * f + (i : Int) - 20 * f = (i : Int) by omega, k174 176 (by omega), ht.2.2, fixS_len]
  · have h8 := s171 (i + 1) (by omega)
    rw [spA_take L hi] at h8
    rw [fixS_len, fixS_len, show 21 * f + (i : Int) + 1 = 21 * f + ((i + 1 : Nat) : Int) by omega, h8]
    omega
  · rw [fixS_len, fixS_len]
    omega
  · rw [fixS_len]
    have h9 := hstA ((spA (L.take i)).length + (lnD L i).2.1.length) (lnD L i).2.2 hst.2 (by omega)
    rw [show (((spA (L.take i)).length + (lnD L i).2.1.length : Nat) : Int) = ((spA (L.take i)).length : Int) + (lnD L i).2.1.length by omega] at h9
    exact h9
  · rw [e170, hc.2.1, if_pos (by omega), show 20 * f + (i : Int) - 20 * f = (i : Int) by omega, k174 174 (by omega)]
    exact ht.1
/-- another firm's lines stay -/
theorem lnM_far {w v : Wd} {g i : Int} {q : Lin} (i0 : 0 ≤ i) (h1 : ∀ j, 20 * g ≤ j → j < 20 * g + 20 → v 170 j = w 170 j ∧ v 172 j = w 172 j) (h2 : ∀ j, 21 * g ≤ j → j < 21 * g + 21 → v 171 j = w 171 j) (h3 : ∀ j, 1220 * g ≤ j → j < 1220 * g + 1220 → v 173 j = w 173 j) (hi : i < 20) (h : lnM w g i q) : lnM v g i q := by
  obtain ⟨a, q0, q1, q2, q3, q4, q5, q6, q7⟩ := h
  have hst : ∀ (b : Int) (V : List Stq), 0 ≤ b → b + V.length ≤ 610 → stA w g b V → stA v g b V := fun b V b0 b1 hs j hj => by
    rw [h3 _ (by omega) (by omega), h3 _ (by omega) (by omega)]
    exact hs j hj
  exact ⟨a, q0, by rw [h2 _ (by omega) (by omega)]; exact q1, by rw [(h1 _ (by omega) (by omega)).2]; exact q2, by rw [h2 _ (by omega) (by omega)]; exact q3, q4, hst _ _ q0 (by omega) q5, hst _ _ (by omega) q4 q6, by rw [(h1 _ (by omega) (by omega)).1]; exact q7⟩
