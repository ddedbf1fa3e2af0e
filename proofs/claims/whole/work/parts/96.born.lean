/-! THE CONSTRUCTORS' STEPS: shapes with their sizes, worlds as they are at birth. -/
theorem ac_I : Cond.arrayClass .int ∈ TS := mem_T 1 98 rfl rfl
theorem ac_Z : Cond.arrayClass .boolean ∈ TS := mem_T 2 124 rfl rfl
theorem ac_J : Cond.arrayClass .long ∈ TS := mem_T 1 178 rfl rfl
theorem oi_inst : Cond.instanceMethod Lib.objectInit ∈ TS := mem_T 1 27 rfl rfl
theorem oi_code : Cond.code Lib.objectInit ⟨#[0xb1]⟩ 1 none ∈ TS := mem_T 1 28 rfl rfl
theorem oi_X11 : Cond.methodLink RX11 1 Lib.objectInit ∈ TS := mem_T 1 26 rfl rfl
theorem oi_X0 : Cond.methodLink RX0 3 Lib.objectInit ∈ TS := mem_T 2 67 rfl rfl
theorem oi_X1 : Cond.methodLink RX1 3 Lib.objectInit ∈ TS := mem_T 2 199 rfl rfl
theorem oi_X2 : Cond.methodLink RX2 3 Lib.objectInit ∈ TS := mem_T 2 27 rfl rfl
theorem oi_X3 : Cond.methodLink RX3 3 Lib.objectInit ∈ TS := mem_T 1 104 rfl rfl
theorem oi_X4 : Cond.methodLink RX4 3 Lib.objectInit ∈ TS := mem_T 1 214 rfl rfl
theorem oi_X5 : Cond.methodLink RX5 3 Lib.objectInit ∈ TS := mem_T 1 34 rfl rfl
theorem oi_X6 : Cond.methodLink RX6 3 Lib.objectInit ∈ TS := mem_T 1 220 rfl rfl
theorem oi_X7 : Cond.methodLink RX7 3 Lib.objectInit ∈ TS := mem_T 2 130 rfl rfl
theorem oi_X8 : Cond.methodLink RX8 3 Lib.objectInit ∈ TS := mem_T 1 184 rfl rfl
theorem oi_X9 : Cond.methodLink RX9 3 Lib.objectInit ∈ TS := mem_T 2 232 rfl rfl
theorem oi_X10 : Cond.methodLink RX10 3 Lib.objectInit ∈ TS := mem_T 2 171 rfl rfl
theorem oi_X12 : Cond.methodLink RX12 1 Lib.objectInit ∈ TS := mem_T 6 49 rfl rfl
theorem ck_X11_7 : Cond.classLink RX11 7 RX5 ∈ TS := mem_T 1 29 rfl rfl
theorem ck_X11_16 : Cond.classLink RX11 16 RX3 ∈ TS := mem_T 1 99 rfl rfl
theorem ck_X11_23 : Cond.classLink RX11 23 RX8 ∈ TS := mem_T 1 179 rfl rfl
theorem ck_X11_30 : Cond.classLink RX11 30 RX4 ∈ TS := mem_T 1 209 rfl rfl
theorem ck_X11_39 : Cond.classLink RX11 39 RX2 ∈ TS := mem_T 2 22 rfl rfl
theorem ck_X11_48 : Cond.classLink RX11 48 RX0 ∈ TS := mem_T 2 62 rfl rfl
theorem ck_X11_57 : Cond.classLink RX11 57 RX7 ∈ TS := mem_T 2 125 rfl rfl
theorem ck_X11_64 : Cond.classLink RX11 64 RX10 ∈ TS := mem_T 2 166 rfl rfl
theorem ck_X11_73 : Cond.classLink RX11 73 RX1 ∈ TS := mem_T 2 194 rfl rfl
theorem ck_X11_80 : Cond.classLink RX11 80 RX9 ∈ TS := mem_T 2 227 rfl rfl
theorem ck_X0_27 : Cond.classLink RX0 27 ("[" ++ (FieldType.array .int).toString) ∈ TS := by
  have e : "[" ++ (FieldType.array .int).toString = "[[I" := by decide +kernel
  rw [e]
  exact mem_T 2 68 rfl rfl
theorem ck_X1_9 : Cond.classLink RX1 9 ("[" ++ (FieldType.array .int).toString) ∈ TS := by
  have e : "[" ++ (FieldType.array .int).toString = "[[I" := by decide +kernel
  rw [e]
  exact mem_T 2 200 rfl rfl
theorem ck_X2_9 : Cond.classLink RX2 9 RX6 ∈ TS := mem_T 2 28 rfl rfl
theorem ck_X4_15 : Cond.classLink RX4 15 RX6 ∈ TS := mem_T 1 215 rfl rfl
theorem ck_X7_15 : Cond.classLink RX7 15 ("[" ++ (FieldType.array .int).toString) ∈ TS := by
  have e : "[" ++ (FieldType.array .int).toString = "[[I" := by decide +kernel
  rw [e]
  exact mem_T 2 131 rfl rfl
theorem ck_X9_9 : Cond.classLink RX9 9 ("[" ++ (FieldType.array .int).toString) ∈ TS := by
  have e : "[" ++ (FieldType.array .int).toString = "[[I" := by decide +kernel
  rw [e]
  exact mem_T 2 233 rfl rfl
theorem ck_L_7 : Cond.classLink RL 7 RX11 ∈ TS := mem_T 1 21 rfl rfl
theorem ck_L_10 : Cond.classLink RL 10 RX12 ∈ TS := mem_T 6 44 rfl rfl
theorem ib_X11 : Cond.instantiable RX11 11 ∈ TS := mem_T 1 22 rfl rfl
theorem in_X11 : Cond.initialized RX11 ∈ TS := mem_T 1 1 rfl rfl
theorem ib_X0 : Cond.instantiable RX0 17 ∈ TS := mem_T 2 63 rfl rfl
theorem in_X0 : Cond.initialized RX0 ∈ TS := mem_T 1 8 rfl rfl
theorem ib_X1 : Cond.instantiable RX1 7 ∈ TS := mem_T 2 195 rfl rfl
theorem in_X1 : Cond.initialized RX1 ∈ TS := mem_T 1 11 rfl rfl
theorem ib_X2 : Cond.instantiable RX2 8 ∈ TS := mem_T 2 23 rfl rfl
theorem in_X2 : Cond.initialized RX2 ∈ TS := mem_T 1 7 rfl rfl
theorem ib_X3 : Cond.instantiable RX3 16 ∈ TS := mem_T 1 100 rfl rfl
theorem in_X3 : Cond.initialized RX3 ∈ TS := mem_T 1 3 rfl rfl
theorem ib_X4 : Cond.instantiable RX4 5 ∈ TS := mem_T 1 210 rfl rfl
theorem in_X4 : Cond.initialized RX4 ∈ TS := mem_T 1 5 rfl rfl
theorem ib_X5 : Cond.instantiable RX5 16 ∈ TS := mem_T 1 30 rfl rfl
theorem in_X5 : Cond.initialized RX5 ∈ TS := mem_T 1 2 rfl rfl
theorem ib_X6 : Cond.instantiable RX6 6 ∈ TS := mem_T 1 216 rfl rfl
theorem in_X6 : Cond.initialized RX6 ∈ TS := mem_T 1 6 rfl rfl
theorem ib_X7 : Cond.instantiable RX7 10 ∈ TS := mem_T 2 126 rfl rfl
theorem in_X7 : Cond.initialized RX7 ∈ TS := mem_T 1 9 rfl rfl
theorem ib_X8 : Cond.instantiable RX8 6 ∈ TS := mem_T 1 180 rfl rfl
theorem in_X8 : Cond.initialized RX8 ∈ TS := mem_T 1 4 rfl rfl
theorem ib_X9 : Cond.instantiable RX9 6 ∈ TS := mem_T 2 228 rfl rfl
theorem in_X9 : Cond.initialized RX9 ∈ TS := mem_T 1 12 rfl rfl
theorem ib_X10 : Cond.instantiable RX10 7 ∈ TS := mem_T 2 167 rfl rfl
theorem in_X10 : Cond.initialized RX10 ∈ TS := mem_T 1 10 rfl rfl
theorem ib_X12 : Cond.instantiable RX12 98 ∈ TS := mem_T 6 45 rfl rfl
theorem in_X12 : Cond.initialized RX12 ∈ TS := mem_T 1 13 rfl rfl
/-- an object's fields at birth -/
def bz (ts : List Nat) : Int → Int := fun j => if ts.getD j.toNat 0 = 2 then -1 else 0
/-- an array's at birth -/
def nz : Int → Int := fun _ => 0
def Sg (n sz : Nat) (sh : List Sh) : Prop := sh.length = n ∧ SZ sh = sz ∧ shB sh = true ∧ ∀ (k : Nat) (s : Sh), sh[k]? = some s → (s.1 = 4 ∨ s.1 = 5) → k = 42
theorem shC_mono {N M k : Nat} {s : Sh} (h : N ≤ M) (hc : shC N k s = true) : shC M k s = true := by
  unfold shC at hc ⊢
  by_cases h0 : s.1 = 0
  · rw [if_pos h0] at hc ⊢
    refine List.all_eq_true.mpr (fun t ht => ?_)
    have h2 := List.all_eq_true.mp hc t ht
    simp only [Bool.or_eq_true, Bool.and_eq_true, decide_eq_true_eq] at h2 ⊢
    omega
  · rw [if_neg h0]
theorem shB_of {sh : List Sh} (h : ∀ (k : Nat) (s : Sh), sh[k]? = some s → shC sh.length k s = true) : shB sh = true := by
  refine List.all_eq_true.mpr (fun k hk => ?_)
  have hl := List.mem_range.mp hk
  have e1 : sh[k]? = some sh[k] := List.getElem?_eq_getElem hl
  have e : sh.getD k (0, 0, []) = sh[k] := by rw [List.getD_eq_getElem?_getD, e1]; rfl
  rw [e]
  exact h k _ e1
section SG
variable {n sz : Nat} {sh : List Sh}
theorem Sg.nil : Sg 0 0 [] := ⟨rfl, rfl, rfl, fun k s h _ => by simp at h⟩
theorem Sg.push {s : Sh} (G : Sg n sz sh) (hc : shC (n + 1) n s = true) (h4 : (s.1 = 4 ∨ s.1 = 5) → n = 42) : Sg (n + 1) (sz + szS s) (sh ++ [s]) := by
  obtain ⟨rfl, rfl, hB, h5⟩ := G
  have hlen : (sh ++ [s]).length = sh.length + 1 := by rw [List.length_append]; rfl
  refine ⟨hlen, SZ_push, shB_of (fun k s9 hk => ?_), fun k s9 hk h9 => ?_⟩
  · rw [hlen]
    by_cases hi : k < sh.length
    · rw [List.getElem?_append_left hi] at hk
      exact shC_mono (Nat.le_succ _) (shB_get hB hk)
    · have hl := (List.getElem?_eq_some_iff.mp hk).1
      rw [hlen] at hl
      have e : k = sh.length := by omega
      subst e
      have e2 : (sh ++ [s])[sh.length]? = some s := by simp
      rw [e2] at hk
      cases hk
      exact hc
  · by_cases hi : k < sh.length
    · rw [List.getElem?_append_left hi] at hk
      exact h5 k s9 hk h9
    · have hl := (List.getElem?_eq_some_iff.mp hk).1
      rw [hlen] at hl
      have e : k = sh.length := by omega
      subst e
      have e2 : (sh ++ [s])[sh.length]? = some s := by simp
      rw [e2] at hk
      cases hk
      exact h4 h9
theorem Sg.set {k : Nat} {s s' : Sh} (G : Sg n sz sh) (hk : sh[k]? = some s) (hs : szS s' = szS s) (hc : shC n k s' = true) (h4 : ¬ (s'.1 = 4 ∨ s'.1 = 5)) : Sg n sz (sh.set k s') := by
  obtain ⟨rfl, rfl, hB, h5⟩ := G
  have hkl := (List.getElem?_eq_some_iff.mp hk).1
  have hlen : (sh.set k s').length = sh.length := List.length_set ..
  refine ⟨hlen, SZ_set hk hs, shB_of (fun i s9 hi => ?_), fun i s9 hi h9 => ?_⟩
  · rw [hlen]
    by_cases e : i = k
    · subst e
      rw [List.getElem?_set_self hkl] at hi
      cases hi
      exact hc
    · rw [List.getElem?_set_ne (Ne.symm e)] at hi
      exact shB_get hB hi
  · by_cases e : i = k
    · subst e
      rw [List.getElem?_set_self hkl] at hi
      cases hi
      exact absurd h9 h4
    · rw [List.getElem?_set_ne (Ne.symm e)] at hi
      exact h5 i s9 hi h9
theorem Sg.mna {N K : Nat} (G : Sg n sz sh) : Sg (n + (1 + N)) (sz + (N + N * K)) (shM sh N K) := by
  obtain ⟨rfl, rfl, hB, h5⟩ := G
  refine ⟨shM_len, shM_sz, shB_of (fun k s9 hk => ?_), fun k s9 hk h9 => ?_⟩
  · by_cases c1 : k < sh.length
    · rw [shM_lo c1] at hk
      rw [shM_len]
      exact shC_mono (Nat.le_add_right _ _) (shB_get hB hk)
    · have hkl := (List.getElem?_eq_some_iff.mp hk).1
      rw [shM_len] at hkl
      by_cases c2 : k = sh.length
      · subst c2
        rw [shM_n] at hk
        cases hk
        rfl
      · rw [shM_hi (by omega) hkl] at hk
        cases hk
        rfl
  · by_cases c1 : k < sh.length
    · rw [shM_lo c1] at hk
      exact h5 k s9 hk h9
    · have hkl := (List.getElem?_eq_some_iff.mp hk).1
      rw [shM_len] at hkl
      by_cases c2 : k = sh.length
      · subst c2
        rw [shM_n] at hk
        cases hk
        exact h9.elim (fun h => absurd (show (6 : Nat) = 4 from h) (by decide)) (fun h => absurd (show (6 : Nat) = 5 from h) (by decide))
      · rw [shM_hi (by omega) hkl] at hk
        cases hk
        exact h9.elim (fun h => absurd (show (1 : Nat) = 4 from h) (by decide)) (fun h => absurd (show (1 : Nat) = 5 from h) (by decide))
theorem Sg.h5 {w : Wd} (G : Sg n sz sh) (h : ∀ j : Int, w 42 j < ((n : Nat) : Int)) : H5 sh w := fun k s hk h4 j => by
  have e := G.2.2.2 k s hk h4
  subst e
  rw [G.1]
  exact h j
end SG
theorem w42u {w : Wd} {i v : Int} {n : Nat} (h : ∀ j : Int, w 42 j < ((n : Nat) : Int)) (hv : v < ((n : Nat) : Int)) : ∀ j : Int, wu w 42 i v 42 j < ((n : Nat) : Int) := fun j => by
  rw [wu_at]
  split
  · exact hv
  · exact h j
theorem w42n {w : Wd} {k : Nat} {i v : Int} {n : Nat} (hk : (42 : Nat) ≠ k) (h : ∀ j : Int, w 42 j < ((n : Nat) : Int)) : ∀ j : Int, wu w k i v 42 j < ((n : Nat) : Int) := fun j => by
  rw [wu_ne hk]
  exact h j
theorem wun {w : Wd} {k a : Nat} {j v : Int} {f : Int → Int} (h : a ≠ k) (e : w a = f) : wu w k j v a = f := (wu_ne h).trans e
def dfk (v : Value) : Nat := match v with
  | .int x => if x = 0 then 0 else 9
  | .null => 2
  | _ => 9
theorem dfk_0 {v : Value} (h : dfk v = 0) : v = .int 0 := by
  cases v with
  | int x =>
    by_cases c : x = 0
    · rw [c]
    · simp [dfk, c] at h
  | _ => simp [dfk] at h
theorem dfk_2 {v : Value} (h : dfk v = 2) : v = .null := by
  cases v with
  | null => rfl
  | int x =>
    by_cases c : x = 0
    · simp [dfk, c] at h
    · simp [dfk, c] at h
  | _ => simp [dfk] at h
/-- a birth's fields are those that the class's types say -/
def bOK (N : Nat) (ty : Nat → FieldType) (ts : List Nat) : Bool := (List.range N).all (fun j => (ts.getD j 0 == 0 || ts.getD j 0 == 2) && dfk (defaultValue (ty j)) == ts.getD j 0)
theorem bOK_get {N : Nat} {ty : Nat → FieldType} {ts : List Nat} (h : bOK N ty ts = true) {f : Int → Int} (hf : f = bz ts) : ∀ j : Nat, j < N → (ts.getD j 0 = 0 ∧ defaultValue (ty j) = .int 0 ∧ f (j : Int) = 0) ∨ (ts.getD j 0 = 2 ∧ defaultValue (ty j) = .null ∧ f (j : Int) = -1) := by
  intro j hj
  subst hf
  have h2 := List.all_eq_true.mp h j (List.mem_range.mpr hj)
  simp only [Bool.or_eq_true, Bool.and_eq_true, beq_iff_eq] at h2
  have e : bz ts (j : Int) = if ts.getD j 0 = 2 then -1 else 0 := by unfold bz; rw [Int.toNat_natCast]
  rcases h2 with ⟨h3 | h3, h4⟩
  · exact Or.inl ⟨h3, dfk_0 (by rw [h4, h3]), by rw [e, if_neg (by omega)]⟩
  · exact Or.inr ⟨h3, dfk_2 (by rw [h4, h3]), by rw [e, if_pos h3]⟩
abbrev PC (sh1 : List Sh) (w1 : Wd) : Option PV → List Sh → Wd → Prop := fun r sh w => r = none ∧ sh = sh1 ∧ w = w1
theorem Call.introG {d mc ms n sz : Nat} {μ : Mu} {args : List PV} {sh : List Sh} {w : Wd} {Φ : Option PV → List Sh → Wd → Prop} (G : Sg n sz sh) (hy : plainName μ.1.cls = true) (hn : lsz args ≤ μ.2.2.1)
    (h : ∀ ρ : Rh, RetOK mc ms Φ ρ sh → At μ (d, n + mc, sz + ms) ρ sh 0 (la 0 args) [] w) : Call d mc ms μ args sh w Φ := by
  obtain ⟨rfl, rfl, -⟩ := G
  exact Call.intro hy hn h
section Z
variable {μ : Mu} {δ : De} {ρ : Rh} {pc : Nat} {ls : List (Nat × PV)} {st stk : List PV} {w : Wd} {sh sh' : List Sh} {n sz : Nat}
theorem z_newI {at9 : ArrayType} {x q : Int} (N : Nat) (d : decode μ.2.1 pc = .ok (.newarray at9, 2)) (G : Sg n sz sh) (hat : newarray.typeOf at9 = .int) (hx : x = ((N : Nat) : Int)) (hq : ((n : Nat) : Int) = q) (hN : N < 60000000) (hz : w n = nz) (h42 : ∀ j : Int, w 42 j < ((n : Nat) : Int)) (hroom : n + 1 ≤ δ.2.1 ∧ sz + N ≤ δ.2.2) (hsh : sh ++ [(1, N, [])] = sh') (kk : At μ δ ρ sh' (pc + 2) ls ((2, q) :: st) w) : At μ δ ρ sh pc ls ((0, x) :: st) w := by
  have h5 := G.h5 h42
  obtain ⟨rfl, rfl, hB, -⟩ := G
  subst hsh
  subst hq
  exact s_newI N d hat ac_I hx hN hz hB h5 hroom kk
theorem z_newZ {at9 : ArrayType} {x q : Int} (N : Nat) (d : decode μ.2.1 pc = .ok (.newarray at9, 2)) (G : Sg n sz sh) (hat : newarray.typeOf at9 = .boolean) (hx : x = ((N : Nat) : Int)) (hq : ((n : Nat) : Int) = q) (hN : N < 60000000) (hz : w n = nz) (h42 : ∀ j : Int, w 42 j < ((n : Nat) : Int)) (hroom : n + 1 ≤ δ.2.1 ∧ sz + N ≤ δ.2.2) (hsh : sh ++ [(2, N, [])] = sh') (kk : At μ δ ρ sh' (pc + 2) ls ((2, q) :: st) w) : At μ δ ρ sh pc ls ((0, x) :: st) w := by
  have h5 := G.h5 h42
  obtain ⟨rfl, rfl, hB, -⟩ := G
  subst hsh
  subst hq
  exact s_newZ N d hat ac_Z hx hN hz hB h5 hroom kk
theorem z_newJ {at9 : ArrayType} {x q : Int} (N : Nat) (d : decode μ.2.1 pc = .ok (.newarray at9, 2)) (G : Sg n sz sh) (hat : newarray.typeOf at9 = .long) (hx : x = ((N : Nat) : Int)) (hq : ((n : Nat) : Int) = q) (hN : N < 60000000) (hz : w n = nz) (h42 : ∀ j : Int, w 42 j < ((n : Nat) : Int)) (hroom : n + 1 ≤ δ.2.1 ∧ sz + N ≤ δ.2.2) (hsh : sh ++ [(3, N, [])] = sh') (kk : At μ δ ρ sh' (pc + 2) ls ((2, q) :: st) w) : At μ δ ρ sh pc ls ((0, x) :: st) w := by
  have h5 := G.h5 h42
  obtain ⟨rfl, rfl, hB, -⟩ := G
  subst hsh
  subst hq
  exact s_newJ N d hat ac_J hx hN hz hB h5 hroom kk
theorem z_newQ {idx : Nat} {x q : Int} (N : Nat) (d : decode μ.2.1 pc = .ok (.anewarray idx, 3)) (G : Sg n sz sh) (hlk : Cond.classLink μ.1.cls idx "TalkingReels$Script" ∈ TS) (hx : x = ((N : Nat) : Int)) (hq : ((n : Nat) : Int) = q) (hN : N < 60000000) (hz : w n = fun _ => -1) (h42 : ∀ j : Int, w 42 j < ((n : Nat) : Int)) (hroom : n + 1 ≤ δ.2.1 ∧ sz + N ≤ δ.2.2) (hsh : sh ++ [(5, N, [])] = sh') (kk : At μ δ ρ sh' (pc + 3) ls ((2, q) :: st) w) : At μ δ ρ sh pc ls ((0, x) :: st) w := by
  have h5 := G.h5 h42
  obtain ⟨rfl, rfl, hB, -⟩ := G
  subst hsh
  subst hq
  exact s_newQ N d hlk hx hN hz hB h5 hroom kk
theorem z_mna {idx : Nat} {x y q : Int} (N K : Nat) (d : decode μ.2.1 pc = .ok (.multianewarray idx 2, 4)) (G : Sg n sz sh) (hlk : Cond.classLink μ.1.cls idx ("[" ++ (FieldType.array .int).toString) ∈ TS) (hx : x = ((N : Nat) : Int)) (hy : y = ((K : Nat) : Int)) (hq : ((n : Nat) : Int) = q) (hN : N < 1000 ∧ K < 1000) (hz : ∀ k, n < k → k < n + (1 + N) → w k = nz) (h42 : ∀ j : Int, w 42 j < ((n : Nat) : Int)) (hroom : n + (1 + N) ≤ δ.2.1 ∧ sz + (N + N * K) ≤ δ.2.2) (hsh : shM sh N K = sh') (kk : At μ δ ρ sh' (pc + 4) ls ((2, q) :: st) w) : At μ δ ρ sh pc ls ((0, y) :: (0, x) :: st) w := by
  have h5 := G.h5 h42
  obtain ⟨rfl, rfl, hB, -⟩ := G
  subst hq
  exact s_mna N K d hlk ac_I hx hy hN hz hB h5 hroom hsh kk
theorem z_newO {idx ci : Nat} {r : vw_C} {ty : Nat → FieldType} {q : Int} (ts : List Nat) (d : decode μ.2.1 pc = .ok (.new idx, 3)) (G : Sg n sz sh) (cf : CF ci r ty) (hlk : Cond.classLink μ.1.cls idx r.1 ∈ TS) (hinst : Cond.instantiable r.1 r.2.2 ∈ TS) (hini : Cond.initialized r.1 ∈ TS) (hq : ((n : Nat) : Int) = q) (hlen : ts.length = r.2.2) (hb9 : bOK r.2.2 ty ts = true) (hz : w n = bz ts) (h42 : ∀ j : Int, w 42 j < ((n : Nat) : Int)) (hroom : n + 1 ≤ δ.2.1 ∧ sz + ts.length ≤ δ.2.2) (hsh : sh ++ [(0, ci, ts)] = sh') (kk : At μ δ ρ sh' (pc + 3) ls ((2, q) :: st) w) : At μ δ ρ sh pc ls st w := by
  have h5 := G.h5 h42
  obtain ⟨rfl, rfl, hB, -⟩ := G
  subst hsh
  subst hq
  exact s_newO ts d cf hlk hinst hini hlen (bOK_get hb9 hz) hB h5 hroom kk
theorem z_obj {idx : Nat} {z : Int} (k : Nat) (d : decode μ.2.1 pc = .ok (.invokespecial idx, 3)) (ml : Cond.methodLink μ.1.cls idx Lib.objectInit ∈ TS) (hz : z = ((k : Nat) : Int)) (hd1 : 1 ≤ δ.1) (hcat : catS st = 0) (kk : At μ δ ρ sh (pc + 3) ls st w) : At μ δ ρ sh pc ls ((2, z) :: st) w := by
  obtain ⟨⟨p, l, e, R, s⟩, ⟨m, args, below, meth, c⟩, ⟨g, ad0, sh0⟩, Q⟩ := ρ
  intro C ad H locs lsa h1 h2 h3 hr hl hi hs
  obtain ⟨hx, hb, -, hml, -, hown, -, hts, hK, hE, hd9, hd2, hd3, hd4⟩ := id C
  subst hz
  rw [List.map_cons, tv_ref]
  have hcs : ((st.map (tv g ad)).map fun v => v.category).sum = 0 := by rw [catS_eq]; exact hcat
  refine W.objInit hx hb hown (hts _ (List.mem_cons_of_mem _ ml)) (hts _ (List.mem_cons_of_mem _ oi_inst)) (hts _ (List.mem_cons_of_mem _ oi_code)) rfl (by rw [hml]; exact hl.1) rfl d (by omega) ?_ (kk C ad H locs lsa h1 h2 h3 hr hl hi (List.forall_mem_cons.mp hs).2)
  show 2 * 0 + ((st.map (tv g ad)).map fun v => v.category).sum + 12 ≤ R.locals
  rw [hcs]
  omega
theorem z_invI {idx na dc mc ms : Nat} {μ' : Mu} {z : Int} {as : List PV} {w1 : Wd} (G : Sg n sz sh) (d : decode μ.2.1 pc = .ok (.invokespecial idx, 3)) (kv : KI μ' na) (ml : Cond.methodLink μ.1.cls idx μ'.1 ∈ TS) (hc : Call dc mc ms μ' ((2, z) :: as) sh w (PC sh' w1)) (hdc : dc + 1 ≤ δ.1) (k : Nat) (hz : z = ((k : Nat) : Int)) (hks : k < n) (hn : as.length = na) (hstk : stk = as.reverse ++ (2, z) :: st) (hcat : catS st ≤ 8) (hroom : n + mc ≤ δ.2.1 ∧ sz + ms ≤ δ.2.2) (kk : At μ δ ρ sh' (pc + 3) ls st w1) : At μ δ ρ sh pc ls stk w := by
  obtain ⟨rfl, rfl, -⟩ := G
  exact s_invI d kv ml hc hdc k hz hks hn hstk hcat hroom (fun r sh1 w2 h _ _ => by obtain ⟨rfl, rfl, rfl⟩ := h; exact kk)
theorem z_invIN {idx na dc mc ms : Nat} {μ' : Mu} {host : String} {z : Int} {as : List PV} {w1 : Wd} (G : Sg n sz sh) (d : decode μ.2.1 pc = .ok (.invokespecial idx, 3)) (kv : KI μ' na) (ml : Cond.methodLinkNest μ.1.cls idx μ'.1 host ∈ NWs) (hc : Call dc mc ms μ' ((2, z) :: as) sh w (PC sh' w1)) (hdc : dc + 1 ≤ δ.1) (k : Nat) (hz : z = ((k : Nat) : Int)) (hks : k < n) (hn : as.length = na) (hstk : stk = as.reverse ++ (2, z) :: st) (hcat : catS st ≤ 8) (hroom : n + mc ≤ δ.2.1 ∧ sz + ms ≤ δ.2.2) (kk : At μ δ ρ sh' (pc + 3) ls st w1) : At μ δ ρ sh pc ls stk w := by
  obtain ⟨rfl, rfl, -⟩ := G
  exact s_invIN d kv ml hc hdc k hz hks hn hstk hcat hroom (fun r sh1 w2 h _ _ => by obtain ⟨rfl, rfl, rfl⟩ := h; exact kk)
theorem z_ret {mc ms n0 sz0 : Nat} {sh0 : List Sh} (d : decode μ.2.1 pc = .ok (.return_, 1)) (hR : RetOK mc ms (PC sh w) ρ sh0) (hret : μ.2.2.2 = none) (G0 : Sg n0 sz0 sh0) (G : Sg n sz sh) (hn : n = n0 + mc) (hs : sz = sz0 + ms) : At μ δ ρ sh pc ls [] w :=
  s_return d hR hret ⟨by rw [G.1, G0.1]; exact hn, by rw [G.2.1, G0.2.1]; exact hs⟩ ⟨rfl, rfl, rfl⟩
end Z
