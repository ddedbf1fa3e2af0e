/-! WHAT A LINE COMES TO: a stack machine. -/
abbrev Stq := Int × Int
def joV (k a b : Int) : Int := if k = 12 then wr (a + b) else if k = 13 then wr (a - b) else if k = 14 then wr (a * b) else if k = 16 then (if a < b then 1 else 0) else if k = 17 then (if a = b then 1 else 0) else if k = 18 then (if a > b then 1 else 0) else if k = 20 then iand a b else ior a b
/-- one step: the top of the stack stands first -/
def ev1 (F : Int → Int) (p : Stq) (st : List Int) : List Int :=
  if p.1 < 12 then (if p.1 = 0 then p.2 else F p.1) :: st
  else if p.1 = 15 then (match st with | a :: r => wr (a.tdiv p.2) :: r | [] => [])
  else if p.1 = 19 then (match st with | a :: r => wr (1 - a) :: r | [] => [])
  else (match st with | b :: a :: r => joV p.1 a b :: r | s => s)
def evL (F : Int → Int) : List Stq → List Int → List Int
  | [], st => st
  | p :: r, st => evL F r (ev1 F p st)
/-- from height h a code comes to height h', never above B -/
def okL (B : Nat) : List Stq → Nat → Nat → Prop
  | [], h, h' => h = h'
  | p :: r, h, h' => if p.1 < 12 then ((0 ≤ p.1 ∧ p.1 ≤ 10) ∧ (0 ≤ p.2 ∧ p.2 ≤ 9999) ∧ h + 1 ≤ B) ∧ okL B r (h + 1) h'
    else if p.1 = 15 then ((1 ≤ p.2 ∧ p.2 ≤ 9999) ∧ 1 ≤ h) ∧ okL B r h h'
    else if p.1 = 19 then 1 ≤ h ∧ okL B r h h'
    else ((p.1 ≤ 21) ∧ 2 ≤ h) ∧ okL B r (h - 1) h'
theorem okL_app {B : Nat} : ∀ (L : List Stq) {M : List Stq} {h h1 h2 : Nat}, okL B L h h1 → okL B M h1 h2 → okL B (L ++ M) h h2
  | [], M, h, h1, h2, a, b => by
    have e : h = h1 := a
    subst e; exact b
  | p :: r, M, h, h1, h2, a, b => by
    show okL B (p :: (r ++ M)) h h2
    rw [okL] at a ⊢
    split
    · rename_i c; rw [if_pos c] at a; exact ⟨a.1, okL_app r a.2 b⟩
    · rename_i c; rw [if_neg c] at a
      split
      · rename_i c2; rw [if_pos c2] at a; exact ⟨a.1, okL_app r a.2 b⟩
      · rename_i c2; rw [if_neg c2] at a
        split
        · rename_i c3; rw [if_pos c3] at a; exact ⟨a.1, okL_app r a.2 b⟩
        · rename_i c3; rw [if_neg c3] at a; exact ⟨a.1, okL_app r a.2 b⟩
theorem okL_le {B B' : Nat} (hB : B ≤ B') : ∀ (L : List Stq) {h h1 : Nat}, okL B L h h1 → okL B' L h h1
  | [], h, h1, a => a
  | p :: r, h, h1, a => by
    rw [okL] at a ⊢
    split
    · rename_i c; rw [if_pos c] at a; exact ⟨⟨a.1.1, a.1.2.1, by omega⟩, okL_le hB r a.2⟩
    · rename_i c; rw [if_neg c] at a
      split
      · rename_i c2; rw [if_pos c2] at a; exact ⟨a.1, okL_le hB r a.2⟩
      · rename_i c2; rw [if_neg c2] at a
        split
        · rename_i c3; rw [if_pos c3] at a; exact ⟨a.1, okL_le hB r a.2⟩
        · rename_i c3; rw [if_neg c3] at a; exact ⟨a.1, okL_le hB r a.2⟩
theorem okL_up {B k : Nat} : ∀ (L : List Stq) {h h1 : Nat}, okL B L h h1 → okL (B + k) L (h + k) (h1 + k)
  | [], h, h1, a => by have e : h = h1 := a; subst e; exact rfl
  | p :: r, h, h1, a => by
    rw [okL] at a ⊢
    split
    · rename_i c; rw [if_pos c] at a
      exact ⟨⟨a.1.1, a.1.2.1, by omega⟩, by have := okL_up (k := k) r a.2; rwa [show h + 1 + k = h + k + 1 by omega] at this⟩
    · rename_i c; rw [if_neg c] at a
      split
      · rename_i c2; rw [if_pos c2] at a; exact ⟨⟨a.1.1, by omega⟩, okL_up r a.2⟩
      · rename_i c2; rw [if_neg c2] at a
        split
        · rename_i c3; rw [if_pos c3] at a; exact ⟨by omega, okL_up r a.2⟩
        · rename_i c3; rw [if_neg c3] at a
          exact ⟨⟨a.1.1, by omega⟩, by have := okL_up (k := k) r a.2; rwa [show h - 1 + k = h + k - 1 by omega] at this⟩
theorem ev1_len {F : Int → Int} {p : Stq} {st : List Int} {B h' : Nat} {r : List Stq} (h : okL B (p :: r) st.length h') : okL B r (ev1 F p st).length h' ∧ (ev1 F p st).length ≤ st.length + 1 ∧ (st.length ≤ B → (ev1 F p st).length ≤ B) := by
  rw [okL] at h
  unfold ev1
  split
  · rename_i c; rw [if_pos c] at h; exact ⟨h.2, Nat.le_refl _, fun _ => by show st.length + 1 ≤ B; omega⟩
  · rename_i c; rw [if_neg c] at h
    split
    · rename_i c2; rw [if_pos c2] at h
      match st, h with
      | a :: s, h => exact ⟨h.2, Nat.le_succ _, fun q => q⟩
      | [], h => exact absurd h.1.2 (by simp)
    · rename_i c2; rw [if_neg c2] at h
      split
      · rename_i c3; rw [if_pos c3] at h
        match st, h with
        | a :: s, h => exact ⟨h.2, Nat.le_succ _, fun q => q⟩
        | [], h => exact absurd h.1 (by simp)
      · rename_i c3; rw [if_neg c3] at h
        match st, h with
        | b :: a :: s, h => exact ⟨by have := h.2; exact this, by show s.length + 1 ≤ s.length + 2 + 1; omega, fun q => by have : s.length + 2 ≤ B := q; show s.length + 1 ≤ B; omega⟩
        | [a], h => exact absurd h.1.2 (by simp)
        | [], h => exact absurd h.1.2 (by simp)
theorem evL_len {F : Int → Int} {B : Nat} : ∀ (L : List Stq) {st : List Int} {h' : Nat}, okL B L st.length h' → (evL F L st).length = h'
  | [], st, h', h => h
  | p :: r, st, h', h => by
    rw [evL]
    exact evL_len r (ev1_len h).1
theorem ev1_fr {F : Int → Int} {p : Stq} {st s : List Int} {B h' : Nat} {r : List Stq} (h : okL B (p :: r) st.length h') : ev1 F p (st ++ s) = ev1 F p st ++ s := by
  rw [okL] at h
  unfold ev1
  split
  · rfl
  · rename_i c; rw [if_neg c] at h
    split
    · rename_i c2; rw [if_pos c2] at h
      match st, h with
      | a :: t, h => rfl
      | [], h => exact absurd h.1.2 (by simp)
    · rename_i c2; rw [if_neg c2] at h
      split
      · rename_i c3; rw [if_pos c3] at h
        match st, h with
        | a :: t, h => rfl
        | [], h => exact absurd h.1 (by simp)
      · rename_i c3; rw [if_neg c3] at h
        match st, h with
        | b :: a :: t, h => rfl
        | [a], h => exact absurd h.1.2 (by simp)
        | [], h => exact absurd h.1.2 (by simp)
theorem evL_fr {F : Int → Int} {B : Nat} : ∀ (L : List Stq) {st s : List Int} {h' : Nat}, okL B L st.length h' → evL F L (st ++ s) = evL F L st ++ s
  | [], st, s, h', h => rfl
  | p :: r, st, s, h', h => by
    rw [evL, evL, ev1_fr h]
    exact evL_fr r (ev1_len h).1
theorem evL_app {F : Int → Int} : ∀ (L : List Stq) {M : List Stq} {st : List Int}, evL F (L ++ M) st = evL F M (evL F L st)
  | [], M, st => rfl
  | p :: r, M, st => by show evL F (r ++ M) (ev1 F p st) = _; rw [evL_app r]; rfl
/-- a code's value -/
def vaL (F : Int → Int) (L : List Stq) : Int := (evL F L []).headD 0
/-- the class's numbers for a code -/
def tr1 (p : Stq) : List Int := if p.1 = 0 then [1000 + p.2] else if p.1 < 12 then [262 + p.1] else if p.1 = 12 then [43] else if p.1 = 13 then [45] else if p.1 = 14 then [42] else if p.1 = 15 then [1000 + p.2, 47] else if p.1 = 16 then [60] else if p.1 = 17 then [61] else if p.1 = 18 then [62] else if p.1 = 19 then [262] else if p.1 = 20 then [261] else [260]
def trL : List Stq → List Int
  | [] => []
  | p :: r => tr1 p ++ trL r
theorem trL_app : ∀ (L M : List Stq), trL (L ++ M) = trL L ++ trL M
  | [], M => rfl
  | p :: r, M => by show tr1 p ++ trL (r ++ M) = (tr1 p ++ trL r) ++ trL M; rw [trL_app r, List.append_assoc]
def jnX (op a b : Int) : Int := if op = 43 then wr (a + b) else if op = 45 then wr (a - b) else if op = 42 then wr (a * b) else if op = 47 then (if b = 0 then 0 else wr (a.tdiv b)) else if op = 60 then (if a < b then 1 else 0) else if op = 61 then (if a = b then 1 else 0) else if op = 62 then (if a > b then 1 else 0) else if op = 261 then iand a b else ior a b
/-- one number of the class's: facts G -/
def xv1 (G : Int → Int) (op : Int) (st : List Int) : List Int :=
  if 263 ≤ op ∧ st.length < 64 then (if 1000 ≤ op then op - 1000 else G (op - 263)) :: st
  else if op = 262 ∧ 0 < st.length then (match st with | a :: r => wr (1 - a) :: r | [] => [])
  else (match st with | b :: a :: r => jnX op a b :: r | s => s)
def xvL (G : Int → Int) : List Int → List Int → List Int
  | [], st => st
  | p :: r, st => xvL G r (xv1 G p st)
theorem xvL_app {G : Int → Int} : ∀ (L : List Int) {M : List Int} {st : List Int}, xvL G (L ++ M) st = xvL G M (xvL G L st)
  | [], M, st => rfl
  | p :: r, M, st => by show xvL G (r ++ M) (xv1 G p st) = _; rw [xvL_app r]; rfl
/-- every number of the class's is in its range, the stack never too low -/
def okX : List Int → Nat → Prop
  | [], _ => True
  | op :: r, h => if 263 ≤ op then ((op ≤ 272 ∨ (1000 ≤ op ∧ op ≤ 10999)) ∧ h < 64) ∧ okX r (h + 1) else if op = 262 then 0 < h ∧ okX r h else (0 ≤ op ∧ 1 < h) ∧ okX r (h - 1)
theorem xv_ev1 {F G : Int → Int} (hG : ∀ j, 0 ≤ j → j ≤ 9 → G j = F (j + 1)) {p : Stq} {st : List Int} {B h' : Nat} (hB : B < 64) {r : List Stq} (h : okL B (p :: r) st.length h') (hst : st.length ≤ B) :
    xvL G (tr1 p) st = ev1 F p st ∧ ∀ M : List Int, okX M (ev1 F p st).length → okX (tr1 p ++ M) st.length := by
  rw [okL] at h
  unfold ev1 tr1
  by_cases c : p.1 < 12
  · rw [if_pos c] at h ⊢
    by_cases c0 : p.1 = 0
    · rw [if_pos c0, if_pos c0, if_pos c]
      refine ⟨?_, fun M hM => ?_⟩
      · show xv1 G (1000 + p.2) st = _
        unfold xv1
        rw [if_pos (by omega), if_pos (by omega), show 1000 + p.2 - 1000 = p.2 by omega]
      · show okX ((1000 + p.2) :: M) st.length
        rw [okX, if_pos (by omega)]
        exact ⟨⟨by omega, by omega⟩, hM⟩
    · rw [if_neg c0, if_neg c0, if_pos c]
      refine ⟨?_, fun M hM => ?_⟩
      · show xv1 G (262 + p.1) st = _
        unfold xv1
        rw [if_pos (by omega), if_neg (by omega), show 262 + p.1 - 263 = p.1 - 1 by omega, hG (p.1 - 1) (by omega) (by omega), show p.1 - 1 + 1 = p.1 by omega]
      · show okX ((262 + p.1) :: M) st.length
        rw [okX, if_pos (by omega)]
        exact ⟨⟨by omega, by omega⟩, hM⟩
  · rw [if_neg c] at h ⊢
    rw [if_neg (show ¬ p.1 = 0 by omega), if_neg c]
    by_cases c15 : p.1 = 15
    · rw [if_pos c15] at h ⊢
      match st, h with
      | a :: s, h =>
        rw [if_neg (by omega), if_neg (by omega), if_neg (by omega), if_pos c15]
        have hs : (a :: s).length ≤ B := hst
        refine ⟨?_, fun M hM => ?_⟩
        · show xv1 G 47 (xv1 G (1000 + p.2) (a :: s)) = _
          have e1 : xv1 G (1000 + p.2) (a :: s) = p.2 :: a :: s := by
            unfold xv1
            rw [if_pos (by omega), if_pos (by omega), show 1000 + p.2 - 1000 = p.2 by omega]
          rw [e1]
          unfold xv1
          rw [if_neg (by omega), if_neg (by omega)]
          show jnX 47 a p.2 :: s = _
          unfold jnX
          rw [if_neg (by decide), if_neg (by decide), if_neg (by decide), if_pos rfl, if_neg (by omega)]
        · show okX ((1000 + p.2) :: 47 :: M) (a :: s).length
          rw [okX, if_pos (by omega), okX, if_neg (by decide), if_neg (by decide)]
          exact ⟨⟨by omega, by omega⟩, ⟨by decide, by show 1 < (a :: s).length + 1; simp⟩, hM⟩
      | [], h => exact absurd h.1.2 (by simp)
    · rw [if_neg c15] at h ⊢
      by_cases c19 : p.1 = 19
      · rw [if_pos c19] at h ⊢
        match st, h with
        | a :: s, h =>
          rw [if_neg (by omega), if_neg (by omega), if_neg (by omega), if_neg (by omega), if_neg (by omega), if_neg (by omega), if_neg (by omega), if_pos c19]
          refine ⟨?_, fun M hM => ?_⟩
          · show xv1 G 262 (a :: s) = _
            unfold xv1
            rw [if_neg (by omega), if_pos ⟨rfl, by simp⟩]
          · show okX (262 :: M) (a :: s).length
            rw [okX, if_neg (by decide), if_pos rfl]
            exact ⟨by simp, hM⟩
        | [], h => exact absurd h.1 (by simp)
      · rw [if_neg c19] at h ⊢
        match st, h with
        | b :: a :: s, h =>
          have key : ∀ op : Int, op < 262 → 0 ≤ op → jnX op a b = joV p.1 a b → xvL G [op] (b :: a :: s) = joV p.1 a b :: s ∧ ∀ M : List Int, okX M (joV p.1 a b :: s).length → okX ([op] ++ M) (b :: a :: s).length := fun op h1 h0 h2 => by
            refine ⟨?_, fun M hM => ?_⟩
            · show xv1 G op (b :: a :: s) = _
              unfold xv1
              rw [if_neg (by omega), if_neg (by omega)]
              show jnX op a b :: s = _
              rw [h2]
            · show okX (op :: M) (b :: a :: s).length
              rw [okX, if_neg (by omega), if_neg (by omega)]
              exact ⟨⟨h0, by simp⟩, hM⟩
          have hk := h.1.1
          rcases (show p.1 = 12 ∨ p.1 = 13 ∨ p.1 = 14 ∨ p.1 = 16 ∨ p.1 = 17 ∨ p.1 = 18 ∨ p.1 = 20 ∨ p.1 = 21 from by omega) with e | e | e | e | e | e | e | e <;> rw [e] <;> rw [e] at key <;> exact key _ (by decide) (by decide) rfl
        | [a], h => exact absurd h.1.2 (by simp)
        | [], h => exact absurd h.1.2 (by simp)
theorem xv_ev {F G : Int → Int} (hG : ∀ j, 0 ≤ j → j ≤ 9 → G j = F (j + 1)) {B : Nat} (hB : B < 64) : ∀ (L : List Stq) {st : List Int} {h' : Nat}, okL B L st.length h' → st.length ≤ B → xvL G (trL L) st = evL F L st ∧ okX (trL L) st.length
  | [], st, h', h, hs => ⟨rfl, trivial⟩
  | p :: r, st, h', h, hs => by
    obtain ⟨h1, h2⟩ := xv_ev1 hG hB h hs
    obtain ⟨l1, l2, l3⟩ := ev1_len (F := F) h
    obtain ⟨i1, i2⟩ := xv_ev hG hB r l1 (l3 hs)
    refine ⟨?_, h2 _ i2⟩
    show xvL G (tr1 p ++ trL r) st = evL F r (ev1 F p st)
    rw [xvL_app, h1, i1]
/-- a line of rules: its kind, the code of its value, the code of its condition ([] where there is none) -/
abbrev Lin := Int × List Stq × List Stq
def okLin (q : Lin) : Prop := (0 ≤ q.1 ∧ q.1 ≤ 2) ∧ (q.1 = 0 → q.2.1 = [] ∧ q.2.2 ≠ []) ∧ (q.1 ≠ 0 → okL 40 q.2.1 0 1) ∧ (q.2.2 ≠ [] → okL 40 q.2.2 0 1 ∧ ∀ F, vaL F q.2.2 = 0 ∨ vaL F q.2.2 = 1)
def soL (F : Int → Int) (q : Lin) : Prop := q.2.2 = [] ∨ vaL F q.2.2 = 1
/-- the class's numbers for a line -/
def cdL (q : Lin) : List Int := trL ((if q.1 = 0 then [(0, 0)] else q.2.1) ++ (if q.2.2 = [] then [(0, 1)] else q.2.2))
theorem vaL_1 {F : Int → Int} {L : List Stq} {B : Nat} (h : okL B L 0 1) : evL F L [] = [vaL F L] := by
  have hl := evL_len (F := F) (st := []) L h
  unfold vaL
  match hq : evL F L [], hl with
  | [a], _ => rfl
theorem cdL_ev {F G : Int → Int} (hG : ∀ j, 0 ≤ j → j ≤ 9 → G j = F (j + 1)) {q : Lin} (h : okLin q) : ∃ v c, xvL G (cdL q) [] = [c, v] ∧ (c ≠ 0 ↔ soL F q) ∧ (q.1 ≠ 0 → v = vaL F q.2.1) ∧ okX (cdL q) 0 := by
  obtain ⟨h1, h2, h3, h4⟩ := h
  obtain ⟨k, V, C⟩ := q
  dsimp only at h1 h2 h3 h4
  have hv : ∃ W : List Stq, (if k = 0 then [(0, 0)] else V) = W ∧ okL 40 W 0 1 ∧ (k ≠ 0 → W = V) := by
    by_cases c : k = 0
    · exact ⟨[(0, 0)], if_pos c, by show okL 40 [(0, 0)] 0 1; rw [okL, if_pos (by decide)]; exact ⟨by decide, rfl⟩, fun q => absurd c q⟩
    · exact ⟨V, if_neg c, h3 c, fun _ => rfl⟩
  have hc : ∃ D : List Stq, (if C = [] then [(0, 1)] else C) = D ∧ okL 40 D 0 1 ∧ (vaL F D ≠ 0 ↔ soL F (k, V, C)) := by
    by_cases c : C = []
    · refine ⟨[(0, 1)], if_pos c, by rw [okL, if_pos (by decide)]; exact ⟨by decide, rfl⟩, ?_⟩
      constructor
      · intro _; exact Or.inl c
      · intro _ z
        have : vaL F [(0, 1)] = 1 := rfl
        rw [this] at z
        exact absurd z (by decide)
    · refine ⟨C, if_neg c, (h4 c).1, ?_⟩
      have h01 := (h4 c).2 F
      constructor
      · intro hn
        exact Or.inr (show vaL F C = 1 by omega)
      · rintro (hn | hn)
        · exact absurd hn c
        · have : vaL F C = 1 := hn
          omega
  obtain ⟨W, w1, w2, w3⟩ := hv
  obtain ⟨D, d1, d2, d3⟩ := hc
  have hcd : cdL (k, V, C) = trL (W ++ D) := by unfold cdL; dsimp only; rw [w1, d1]
  have hok : okL 41 (W ++ D) 0 2 := okL_app W (okL_le (by decide) W w2) (okL_up (k := 1) D d2)
  obtain ⟨x1, x2⟩ := xv_ev (F := F) hG (B := 41) (by decide) (W ++ D) (st := []) hok (by simp)
  refine ⟨vaL F W, vaL F D, ?_, d3, fun q => by rw [w3 q], by rw [hcd]; exact x2⟩
  rw [hcd, x1, evL_app, vaL_1 w2]
  have := evL_fr (F := F) (B := 40) D (st := []) (s := [vaL F W]) d2
  rw [List.nil_append] at this
  rw [this, vaL_1 d2]
  rfl
