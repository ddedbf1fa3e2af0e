/-! THE RULES' GRAMMAR. -/
/-- what the tokens are, what the numbers are worth, where the text ends -/
abbrev Ky := (Int → Int) × (Int → Int) × Int
abbrev Rs := Sum (Int × Int) (List Stq × List Int)
def hdK (K : Ky) : List Int → Int
  | [] => 0
  | s :: _ => K.1 s
def plK (K : Ky) : List Int → Int
  | [] => K.2.2
  | s :: _ => s
def nuK (K : Ky) : List Int → Int
  | [] => 0
  | s :: _ => K.2.1 s
def bnd (r : Rs) (f : List Stq → List Int → Rs) : Rs := match r with
  | .inl e => .inl e
  | .inr q => f q.1 q.2
def flK (K : Ky) (k : Int) (S : List Int) : Rs := .inl (k, plK K S)
def okR (C : List Stq) (S : List Int) : Rs := .inr (C, S)
theorem bnd_ok (C : List Stq) (S : List Int) (f : List Stq → List Int → Rs) : bnd (okR C S) f = f C S := rfl
theorem bnd_fl (K : Ky) (k : Int) (S : List Int) (f : List Stq → List Int → Rs) : bnd (flK K k S) f = flK K k S := rfl
theorem bnd_as (r : Rs) (f g : List Stq → List Int → Rs) : bnd (bnd r f) g = bnd r (fun C S => bnd (f C S) g) := by cases r <;> rfl
/-- U -/
def unP (K : Ky) (C : List Stq) (S : List Int) : Rs := if hdK K S = 1 then okR (C ++ [(0, nuK K S)]) S.tail else if 263 ≤ hdK K S then okR (C ++ [(hdK K S - 262, 0)]) S.tail else flK K 1 S
/-- a part's number -/
def paP (K : Ky) (C : List Stq) (S : List Int) : Rs := if hdK K S = 1 then (if nuK K S = 0 then flK K 2 S else okR (C ++ [(15, nuK K S)]) S.tail) else flK K 1 S
/-- what stands behind a U -/
def prP (K : Ky) : Nat → List Stq → List Int → Rs
  | 0, C, S => okR C S
  | f + 1, C, S => if hdK K S = 42 then bnd (unP K C S.tail) (fun D R => prP K f (D ++ [(14, 0)]) R) else if hdK K S = 47 then bnd (paP K C S.tail) (fun D R => prP K f D R) else okR C S
/-- T -/
def tmP (K : Ky) (C : List Stq) (S : List Int) : Rs := bnd (unP K C S) (fun D R => prP K (R.length + 1) D R)
def suP (K : Ky) : Nat → List Stq → List Int → Rs
  | 0, C, S => okR C S
  | f + 1, C, S => if hdK K S = 43 ∨ hdK K S = 45 then bnd (tmP K C S.tail) (fun D R => suP K f (D ++ [(if hdK K S = 43 then 12 else 13, 0)]) R) else okR C S
/-- E -/
def exP (K : Ky) (C : List Stq) (S : List Int) : Rs := bnd (tmP K C S) (fun D R => suP K (R.length + 1) D R)
/-- E (< | = | >) E -/
def cmP (K : Ky) (C : List Stq) (S : List Int) : Rs := bnd (exP K C S) (fun D R => if 60 ≤ hdK K R ∧ hdK K R ≤ 62 then bnd (exP K D R.tail) (fun G Q => okR (G ++ [(hdK K R - 44, 0)]) Q) else flK K 1 R)
/-- a sign that must stand here -/
def ndP (K : Ky) (k : Int) (C : List Stq) (S : List Int) : Rs := if hdK K S = k then okR C S.tail else flK K 1 S
def evW (K : Ky) (one : List Stq → List Int → Rs) : Nat → List Stq → List Int → Rs
  | 0, C, S => okR C S
  | f + 1, C, S => if hdK K S = 261 then bnd (one C S.tail) (fun D R => evW K one f (D ++ [(20, 0)]) R) else okR C S
/-- A -/
def evF (K : Ky) (one : List Stq → List Int → Rs) (C : List Stq) (S : List Int) : Rs := bnd (one C S) (fun D R => evW K one (R.length + 1) D R)
def anW (K : Ky) (one : List Stq → List Int → Rs) : Nat → List Stq → List Int → Rs
  | 0, C, S => okR C S
  | f + 1, C, S => if hdK K S = 260 then bnd (evF K one C S.tail) (fun D R => anW K one f (D ++ [(21, 0)]) R) else okR C S
/-- B -/
def anF (K : Ky) (one : List Stq → List Int → Rs) (C : List Stq) (S : List Int) : Rs := bnd (evF K one C S) (fun D R => anW K one (R.length + 1) D R)
/-- C, r more ( and not may be open -/
def onP (K : Ky) : Nat → List Stq → List Int → Rs
  | 0, C, S => if hdK K S = 262 ∨ hdK K S = 40 then flK K 3 S else cmP K C S
  | r + 1, C, S => if hdK K S = 262 then bnd (onP K r C S.tail) (fun D R => okR (D ++ [(19, 0)]) R) else if hdK K S = 40 then bnd (anF K (onP K r) C S.tail) (fun D R => ndP K 41 D R) else cmP K C S
/-- a line, k lines ahead of it -/
def lnP (K : Ky) (k : Nat) (S : List Int) : Sum (Int × Int) (Lin × List Int) :=
  if ¬ (256 ≤ hdK K S ∧ hdK K S ≤ 258) then .inl (1, plK K S)
  else if 20 ≤ k then .inl (3, plK K S)
  else if hdK K S = 256 then (match bnd (anF K (onP K 8) [] S.tail) (ndP K 59) with
    | .inl e => .inl e
    | .inr q => .inr ((0, [], q.1), q.2))
  else (match exP K [] S.tail with
    | .inl e => .inl e
    | .inr q => if hdK K q.2 = 259 then (match bnd (anF K (onP K 8) [] q.2.tail) (ndP K 59) with
        | .inl e => .inl e
        | .inr p => .inr ((hdK K S - 256, q.1, p.1), p.2))
      else (match ndP K 59 [] q.2 with
        | .inl e => .inl e
        | .inr p => .inr ((hdK K S - 256, q.1, []), p.2)))
/-- lines, the first k stand in L -/
def liP (K : Ky) : Nat → List Lin → List Int → Sum (Int × Int) (List Lin)
  | 0, L, _ => .inr L
  | f + 1, L, S => if S = [] then .inr L else match lnP K L.length S with
    | .inl e => .inl e
    | .inr q => liP K f (L ++ [q.1]) q.2
