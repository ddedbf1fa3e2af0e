/-! MAKING: a cell comes to stand behind those that stand. -/
/-- the names in a shape, of cells below N -/
def shC (N k : Nat) (s : Sh) : Bool := if s.1 = 0 then s.2.2.all (fun t => decide (t < 10) || (decide (t < 1000) && decide (t - 10 < N)) || (decide (1000 ≤ t) && decide (k + (t - 1000) < N))) else true
def shB (sh : List Sh) : Bool := (List.range sh.length).all (fun k => shC sh.length k (sh.getD k (0, 0, [])))
theorem shB_get {sh : List Sh} (h : shB sh = true) {k : Nat} {s : Sh} (hk : sh[k]? = some s) : shC sh.length k s = true := by
  have hl := (List.getElem?_eq_some_iff.mp hk).1
  have h2 := List.all_eq_true.mp h k (List.mem_range.mpr hl)
  have e : sh.getD k (0, 0, []) = s := by rw [List.getD_eq_getElem?_getD, hk]; rfl
  rw [e] at h2
  exact h2
theorem fv_agree {g : Gt} {ad ad1 : Nat → Nat} {N k t : Nat} {z : Int} (ha : ∀ k, k < N → ad1 k = ad k) (hv : t < 10 → InV N (t, z)) (ht : t < 10 ∨ (t < 1000 ∧ t - 10 < N) ∨ (1000 ≤ t ∧ k + (t - 1000) < N)) : fv g ad1 k t z = fv g ad k t z := by
  unfold fv
  by_cases c1 : t < 10
  · rw [if_pos c1, if_pos c1]; exact tv_agree ha (hv c1)
  · rw [if_neg c1, if_neg c1]
    by_cases c2 : t < 1000
    · rw [if_pos c2, if_pos c2, ha _ (by omega)]
    · rw [if_neg c2, if_neg c2, ha _ (by omega)]
theorem ce_agree {g : Gt} {ad ad1 : Nat → Nat} {N k : Nat} {s : Sh} {f : Int → Int} (ha : ∀ k, k < N → ad1 k = ad k) (hc : InC N s f) (hs : shC N k s = true) (h5 : (s.1 = 4 ∨ s.1 = 5) → ∀ j : Int, f j < N) : ce g ad1 k s f = ce g ad k s f := by
  obtain ⟨t, n, ts⟩ := s
  rcases t with _ | _ | _ | _ | _ | _ | t
  · show (Sum.inr (n, (List.range ts.length).map (fun j => fv g ad1 k (ts.getD j 0) (f (j : Int)))) : va_E) = Sum.inr (n, (List.range ts.length).map (fun j => fv g ad k (ts.getD j 0) (f (j : Int))))
    have e : (List.range ts.length).map (fun j => fv g ad1 k (ts.getD j 0) (f (j : Int))) = (List.range ts.length).map (fun j => fv g ad k (ts.getD j 0) (f (j : Int))) := List.map_congr_left (fun j hj => by
      have hjl := List.mem_range.mp hj
      refine fv_agree ha (fun h10 => hc j hjl h10) ?_
      have hm : ts.getD j 0 ∈ ts := by
        rw [List.getD_eq_getElem?_getD, List.getElem?_eq_getElem hjl]
        exact List.getElem_mem _
      have h3 : ts.all (fun t => decide (t < 10) || (decide (t < 1000) && decide (t - 10 < N)) || (decide (1000 ≤ t) && decide (k + (t - 1000) < N))) = true := hs
      have h2 := List.all_eq_true.mp h3 _ hm
      simp only [Bool.or_eq_true, Bool.and_eq_true, decide_eq_true_eq] at h2
      rcases h2 with (h2 | h2) | h2
      · exact Or.inl h2
      · exact Or.inr (Or.inl h2)
      · exact Or.inr (Or.inr h2))
    rw [e]
  · rfl
  · rfl
  · rfl
  · have h6 := h5 (Or.inl rfl)
    have e : (fun j : Nat => if f (j : Int) < 0 then none else some (ad1 (f (j : Int)).toNat)) = fun j : Nat => if f (j : Int) < 0 then none else some (ad (f (j : Int)).toNat) := by
      funext j
      have h7 := h6 (j : Int)
      by_cases c : f (j : Int) < 0
      · rw [if_pos c, if_pos c]
      · rw [if_neg c, if_neg c, ha _ (by omega)]
    show (Sum.inl (g.2.1 4, n, .inr (.inr (.inr (.inr (fun j : Nat => if f (j : Int) < 0 then none else some (ad1 (f (j : Int)).toNat)))))) : va_E) = _
    rw [e]
    rfl
  · have h6 := h5 (Or.inr rfl)
    have e : (fun j : Nat => if f (j : Int) < 0 then none else some (ad1 (f (j : Int)).toNat)) = fun j : Nat => if f (j : Int) < 0 then none else some (ad (f (j : Int)).toNat) := by
      funext j
      have h7 := h6 (j : Int)
      by_cases c : f (j : Int) < 0
      · rw [if_pos c, if_pos c]
      · rw [if_neg c, if_neg c, ha _ (by omega)]
    show (Sum.inl (g.2.1 5, n, .inr (.inr (.inr (.inr (fun j : Nat => if f (j : Int) < 0 then none else some (ad1 (f (j : Int)).toNat)))))) : va_E) = _
    rw [e]
    rfl
  · have hb : ts.getD 0 0 + n ≤ N := hc
    have e : (fun j : Nat => if j < n then some (ad1 (ts.getD 0 0 + j)) else none) = fun j : Nat => if j < n then some (ad (ts.getD 0 0 + j)) else none := by
      funext j
      by_cases c : j < n
      · rw [if_pos c, if_pos c, ha _ (by omega)]
      · rw [if_neg c, if_neg c]
    show (Sum.inl (g.2.1 4, n, .inr (.inr (.inr (.inr (fun j : Nat => if j < n then some (ad1 (ts.getD 0 0 + j)) else none))))) : va_E) = _
    rw [e]
    rfl
theorem InC.mono {N M : Nat} {s : Sh} {f : Int → Int} (h : N ≤ M) (hc : InC N s f) : InC M s f := by
  obtain ⟨t, n, ts⟩ := s
  rcases t with _ | _ | _ | _ | _ | _ | t
  · exact fun j hj h10 => InV.mono h (hc j hj h10)
  · exact hc
  · exact hc
  · exact hc
  · intro j j0 j1
    have h2 := hc j j0 j1
    exact ⟨h2.1, by have := h2.2; omega⟩
  · intro j j0 j1
    have h2 := hc j j0 j1
    exact ⟨h2.1, by have := h2.2; omega⟩
  · show ts.getD 0 0 + n ≤ M
    have h2 : ts.getD 0 0 + n ≤ N := hc
    omega
/-- one more address -/
def adP (ad : Nat → Nat) (n q : Nat) : Nat → Nat := fun i => if i = n then q else ad i
theorem adP_lo {ad : Nat → Nat} {n q : Nat} : ∀ k, k < n → adP ad n q k = ad k := fun k hk => if_neg (by omega)
theorem adP_n {ad : Nat → Nat} {n q : Nat} : adP ad n q n = q := if_pos rfl
def szS (s : Sh) : Nat := match s.1 with | 0 => s.2.2.length | _ => s.2.1
theorem SZ_push {sh : List Sh} {s : Sh} : SZ (sh ++ [s]) = SZ sh + szS s := by
  obtain ⟨t, n, ts⟩ := s
  unfold SZ
  rw [List.map_append, List.sum_append]
  cases t with
  | zero => simp [szS]
  | succ t => simp [szS]
/-- what a push asks of the worlds' references to arrays -/
def H5 (sh : List Sh) (w : Wd) : Prop := ∀ (k : Nat) (s : Sh), sh[k]? = some s → (s.1 = 4 ∨ s.1 = 5) → ∀ j : Int, w k j < sh.length
theorem wl_push {g : Gt} {ad : Nat → Nat} {sh : List Sh} {w : Wd} {s : Sh} {q : Nat} (hw : WF sh w) (hcl : shB sh = true) (h5 : H5 sh w) : wl g (adP ad sh.length q) (sh ++ [s]) w = wl g ad sh w ++ [(q, ce g (adP ad sh.length q) sh.length s (w sh.length))] := by
  apply List.ext_getElem?
  intro i
  by_cases hi : i < sh.length
  · rw [List.getElem?_append_left (by rw [wl_len]; exact hi)]
    have e1 : sh[i]? = some sh[i] := List.getElem?_eq_getElem hi
    have e2 : (sh ++ [s])[i]? = some sh[i] := by rw [List.getElem?_append_left hi]; exact e1
    rw [wl_get e1, wl_get e2, adP_lo i hi, ce_agree adP_lo (hw i _ e1) (shB_get hcl e1) (h5 i _ e1)]
  · by_cases hi2 : i = sh.length
    · subst hi2
      have e2 : (sh ++ [s])[sh.length]? = some s := by simp
      rw [wl_get e2, List.getElem?_append_right (by rw [wl_len]; exact Nat.le_refl _), wl_len, Nat.sub_self, adP_n]
      rfl
    · rw [List.getElem?_eq_none (by rw [wl_len, List.length_append]; show sh.length + 1 ≤ i; omega), List.getElem?_eq_none (by rw [List.length_append, wl_len]; show sh.length + 1 ≤ i; omega)]
theorem WF_push {sh : List Sh} {w : Wd} {s : Sh} (hw : WF sh w) (hc : InC (sh.length + 1) s (w sh.length)) : WF (sh ++ [s]) w := by
  intro k s9 hk
  have hlen : (sh ++ [s]).length = sh.length + 1 := by rw [List.length_append]; rfl
  rw [hlen]
  by_cases hi : k < sh.length
  · rw [List.getElem?_append_left hi] at hk
    exact InC.mono (Nat.le_succ _) (hw k s9 hk)
  · have hl := (List.getElem?_eq_some_iff.mp hk).1
    rw [hlen] at hl
    have e : k = sh.length := by omega
    subst e
    have e2 : (sh ++ [s])[sh.length]? = some s := by simp
    rw [e2] at hk
    cases hk
    exact hc
section MAKE
variable {p : Program} {l : Launch} {e : Env} {R : Room} {s : State} {m : MethodId} {args : Array Value} {below : List Frame} {meth : Method} {c : Code} {H H1 : Heap} {locs : List Loc} {Q : State → Prop} {g : Gt} {ad ad0 : Nat → Nat} {sh sh0 : List Sh}
variable {μ : Mu} {δ : De} {pc : Nat} {ls : List (Nat × PV)} {st : List PV} {w : Wd} {lsa : Array Slot}
/-- the walk goes on behind a push -/
theorem push_go {s9 : Sh} {q : Nat} (kk : At μ δ ((p, l, e, R, s), (m, args, below, meth, c), (g, ad0, sh0), Q) (sh ++ [s9]) pc ls ((2, (sh.length : Int)) :: st) w) (C : Cx μ δ ((p, l, e, R, s), (m, args, below, meth, c), (g, ad0, sh0), Q)) (h1 : ∀ k, k < sh0.length → ad k = ad0 k) (h2 : sh0.length ≤ sh.length ∧ SZ sh0 ≤ SZ sh) (h3 : sh.length + 1 ≤ δ.2.1 ∧ SZ sh + szS s9 ≤ δ.2.2) (hr : RP g ad sh w (AA ad0 sh0.length s.heap.size) s.heap H locs) (hl : lv_has lsa μ.2.2.1 (tvl g ad ls)) (hi : ∀ q ∈ ls, InV sh.length q.2) (hs : ∀ v ∈ st, InV sh.length v) (hcl : shB sh = true) (h5 : H5 sh w) (hc : InC (sh.length + 1) s9 (w sh.length))
    (hP : va_P g.1 CL (wl g ad sh w ++ [(q, ce g (adP ad sh.length q) sh.length s9 (w sh.length))]) H1) (hD : va_D (AA ad0 sh0.length s.heap.size) (wl g ad sh w ++ [(q, ce g (adP ad sh.length q) sh.length s9 (w sh.length))])) (hS : va_S (AA ad0 sh0.length s.heap.size) s.heap H1 locs) :
    W p l e R s m args below meth c H1 locs (sh.length - sh0.length + 1) (SZ sh - SZ sh0 + szS s9) Q (F0 m pc lsa (.ref q :: st.map (tv g ad))) := by
  have hlen : (sh ++ [s9]).length = sh.length + 1 := by rw [List.length_append]; rfl
  have hsz : SZ (sh ++ [s9]) = SZ sh + szS s9 := SZ_push
  rw [← wl_push hr.2.2.2 hcl h5] at hP hD
  have k1 := kk C (adP ad sh.length q) H1 locs lsa (fun k hk => (adP_lo k (by omega)).trans (h1 k hk)) ⟨by omega, by omega⟩ ⟨by omega, by omega⟩ ⟨hP, hD, hS, WF_push hr.2.2.2 hc⟩ (by
    have e9 : tvl g (adP ad sh.length q) ls = tvl g ad ls := List.map_congr_left (fun x hx => by rw [tv_agree adP_lo (hi x hx)])
    rw [e9]
    exact hl) (fun x hx => InV.mono (by omega) (hi x hx)) (fun v hv => by
    rcases List.mem_cons.mp hv with rfl | hv
    · show (-1 : Int) ≤ (sh.length : Int) ∧ (sh.length : Int) < (((sh ++ [s9]).length : Nat) : Int)
      omega
    · exact InV.mono (by omega) (hs v hv))
  have e1 : (sh ++ [s9]).length - sh0.length = sh.length - sh0.length + 1 := by omega
  have e2 : SZ (sh ++ [s9]) - SZ sh0 = SZ sh - SZ sh0 + szS s9 := by omega
  have e3 : (((2, (sh.length : Int)) :: st : List PV)).map (tv g (adP ad sh.length q)) = .ref q :: st.map (tv g ad) := by
    rw [List.map_cons, tv_ref, adP_n]
    congr 1
    exact List.map_congr_left (fun v hv => tv_agree adP_lo (hs v hv))
  rw [e1, e2, e3] at k1
  exact k1
theorem s_newI {ρ : Rh} {at9 : ArrayType} {n : Int} (N : Nat) (d : decode μ.2.1 pc = .ok (.newarray at9, 2)) (hat : newarray.typeOf at9 = .int) (hcond : Cond.arrayClass .int ∈ TS) (hn : n = (N : Int)) (hN : N < 60000000) (hz : w sh.length = fun _ => 0) (hcl : shB sh = true) (h5 : H5 sh w) (hroom : sh.length + 1 ≤ δ.2.1 ∧ SZ sh + N ≤ δ.2.2) (kk : At μ δ ρ (sh ++ [(1, N, [])]) (pc + 2) ls ((2, (sh.length : Int)) :: st) w) : At μ δ ρ sh pc ls ((0, n) :: st) w := by
  obtain ⟨⟨p, l, e, R, s⟩, ⟨m, args, below, meth, c⟩, ⟨g, ad0, sh0⟩, Q⟩ := ρ
  intro C ad H locs lsa h1 h2 h3 hr hl hi hs
  obtain ⟨hx, hb, -, -, -, hown, -, hts, hK, hE, hd1, hd2, hd3, hd4⟩ := id C
  subst hn
  simp only [List.forall_mem_cons] at hs
  have hA : ∀ q, s.heap.size ≤ q → AA ad0 sh0.length s.heap.size q := fun q hq => Or.inr hq
  have hI : InI (N : Int) := ⟨by omega, by omega⟩
  have hb9 : (Cond.arrayClass (newarray.typeOf at9)).before args s = true := by rw [hat]; exact hts _ (List.mem_cons_of_mem _ hcond)
  have hd3 : δ.2.1 ≤ R.cells + sh0.length := hd3
  have hd4 : δ.2.2 ≤ R.slots + SZ sh0 := hd4
  refine va_newa hx hb hb9 hat hK hr.1 hr.2.1 hr.2.2.1 hA (n := Int32.ofInt (N : Int)) (N' := N) (a0 := (N, .inl (fun _ => 0))) (fun cA => rfl) (by rw [i32_lt0 hI]; omega) (by rw [i32_clamp (by omega) hI]; omega) (by show N * 4 ≤ 536870912; omega) (by omega) (by omega) d (fun q cA H1 hK1 hP hD hS => ?_)
  have k0 := (hK.2 0 _ (tyl_get g).1).2
  have k5 := (hK1.2 5 (cA, .int) rfl).2
  have ec : cA = g.2.1 1 := Option.some.inj (Eq.trans (Eq.symm k5) k0)
  have hce : (.inl (cA, N, .inl (fun _ => 0)) : va_E) = ce g (adP ad sh.length q) sh.length (1, N, []) (w sh.length) := by rw [ec, hz]; rfl
  rw [hce] at hP hD
  exact push_go kk C h1 h2 hroom hr hl hi hs.2 hcl h5 (fun j j0 j1 => by rw [hz]; exact InI_0) hP hD hS
theorem s_newZ {ρ : Rh} {at9 : ArrayType} {n : Int} (N : Nat) (d : decode μ.2.1 pc = .ok (.newarray at9, 2)) (hat : newarray.typeOf at9 = .boolean) (hcond : Cond.arrayClass .boolean ∈ TS) (hn : n = (N : Int)) (hN : N < 60000000) (hz : w sh.length = fun _ => 0) (hcl : shB sh = true) (h5 : H5 sh w) (hroom : sh.length + 1 ≤ δ.2.1 ∧ SZ sh + N ≤ δ.2.2) (kk : At μ δ ρ (sh ++ [(2, N, [])]) (pc + 2) ls ((2, (sh.length : Int)) :: st) w) : At μ δ ρ sh pc ls ((0, n) :: st) w := by
  obtain ⟨⟨p, l, e, R, s⟩, ⟨m, args, below, meth, c⟩, ⟨g, ad0, sh0⟩, Q⟩ := ρ
  intro C ad H locs lsa h1 h2 h3 hr hl hi hs
  obtain ⟨hx, hb, -, -, -, hown, -, hts, hK, hE, hd1, hd2, hd3, hd4⟩ := id C
  subst hn
  simp only [List.forall_mem_cons] at hs
  have hA : ∀ q, s.heap.size ≤ q → AA ad0 sh0.length s.heap.size q := fun q hq => Or.inr hq
  have hI : InI (N : Int) := ⟨by omega, by omega⟩
  have hb9 : (Cond.arrayClass (newarray.typeOf at9)).before args s = true := by rw [hat]; exact hts _ (List.mem_cons_of_mem _ hcond)
  have hd3 : δ.2.1 ≤ R.cells + sh0.length := hd3
  have hd4 : δ.2.2 ≤ R.slots + SZ sh0 := hd4
  refine va_newa hx hb hb9 hat hK hr.1 hr.2.1 hr.2.2.1 hA (n := Int32.ofInt (N : Int)) (N' := N) (a0 := (N, .inl (fun _ => 0))) (fun cA => rfl) (by rw [i32_lt0 hI]; omega) (by rw [i32_clamp (by omega) hI]; omega) (by show N * 1 ≤ 536870912; omega) (by omega) (by omega) d (fun q cA H1 hK1 hP hD hS => ?_)
  have k0 := (hK.2 1 _ (tyl_get g).2.1).2
  have k5 := (hK1.2 5 (cA, .boolean) rfl).2
  have ec : cA = g.2.1 2 := Option.some.inj (Eq.trans (Eq.symm k5) k0)
  have hce : (.inl (cA, N, .inl (fun _ => 0)) : va_E) = ce g (adP ad sh.length q) sh.length (2, N, []) (w sh.length) := by rw [ec, hz]; rfl
  rw [hce] at hP hD
  exact push_go kk C h1 h2 hroom hr hl hi hs.2 hcl h5 (fun j j0 j1 => by rw [hz]; exact Or.inl rfl) hP hD hS
theorem s_newJ {ρ : Rh} {at9 : ArrayType} {n : Int} (N : Nat) (d : decode μ.2.1 pc = .ok (.newarray at9, 2)) (hat : newarray.typeOf at9 = .long) (hcond : Cond.arrayClass .long ∈ TS) (hn : n = (N : Int)) (hN : N < 60000000) (hz : w sh.length = fun _ => 0) (hcl : shB sh = true) (h5 : H5 sh w) (hroom : sh.length + 1 ≤ δ.2.1 ∧ SZ sh + N ≤ δ.2.2) (kk : At μ δ ρ (sh ++ [(3, N, [])]) (pc + 2) ls ((2, (sh.length : Int)) :: st) w) : At μ δ ρ sh pc ls ((0, n) :: st) w := by
  obtain ⟨⟨p, l, e, R, s⟩, ⟨m, args, below, meth, c⟩, ⟨g, ad0, sh0⟩, Q⟩ := ρ
  intro C ad H locs lsa h1 h2 h3 hr hl hi hs
  obtain ⟨hx, hb, -, -, -, hown, -, hts, hK, hE, hd1, hd2, hd3, hd4⟩ := id C
  subst hn
  simp only [List.forall_mem_cons] at hs
  have hA : ∀ q, s.heap.size ≤ q → AA ad0 sh0.length s.heap.size q := fun q hq => Or.inr hq
  have hI : InI (N : Int) := ⟨by omega, by omega⟩
  have hb9 : (Cond.arrayClass (newarray.typeOf at9)).before args s = true := by rw [hat]; exact hts _ (List.mem_cons_of_mem _ hcond)
  have hd3 : δ.2.1 ≤ R.cells + sh0.length := hd3
  have hd4 : δ.2.2 ≤ R.slots + SZ sh0 := hd4
  refine va_newa hx hb hb9 hat hK hr.1 hr.2.1 hr.2.2.1 hA (n := Int32.ofInt (N : Int)) (N' := N) (a0 := (N, .inr (.inl (fun _ => 0)))) (fun cA => rfl) (by rw [i32_lt0 hI]; omega) (by rw [i32_clamp (by omega) hI]; omega) (by show N * 8 ≤ 536870912; omega) (by omega) (by omega) d (fun q cA H1 hK1 hP hD hS => ?_)
  have k0 := (hK.2 2 _ (tyl_get g).2.2.1).2
  have k5 := (hK1.2 5 (cA, .long) rfl).2
  have ec : cA = g.2.1 3 := Option.some.inj (Eq.trans (Eq.symm k5) k0)
  have hce : (.inl (cA, N, .inr (.inl (fun _ => 0))) : va_E) = ce g (adP ad sh.length q) sh.length (3, N, []) (w sh.length) := by rw [ec, hz]; rfl
  rw [hce] at hP hD
  exact push_go kk C h1 h2 hroom hr hl hi hs.2 hcl h5 (fun j j0 j1 => by rw [hz]; exact (show InL 0 from ⟨by decide, by decide⟩)) hP hD hS
theorem s_newO {ρ : Rh} {idx ci : Nat} {r : vw_C} {ty : Nat → FieldType} (ts : List Nat) (d : decode μ.2.1 pc = .ok (.new idx, 3)) (cf : CF ci r ty) (hlk : Cond.classLink μ.1.cls idx r.1 ∈ TS) (hinst : Cond.instantiable r.1 r.2.2 ∈ TS) (hini : Cond.initialized r.1 ∈ TS) (hlen : ts.length = r.2.2) (hdf : ∀ j : Nat, j < r.2.2 → (ts.getD j 0 = 0 ∧ defaultValue (ty j) = .int 0 ∧ w sh.length (j : Int) = 0) ∨ (ts.getD j 0 = 2 ∧ defaultValue (ty j) = .null ∧ w sh.length (j : Int) = -1)) (hcl : shB sh = true) (h5 : H5 sh w) (hroom : sh.length + 1 ≤ δ.2.1 ∧ SZ sh + ts.length ≤ δ.2.2) (kk : At μ δ ρ (sh ++ [(0, ci, ts)]) (pc + 3) ls ((2, (sh.length : Int)) :: st) w) : At μ δ ρ sh pc ls st w := by
  obtain ⟨⟨p, l, e, R, s⟩, ⟨m, args, below, meth, c⟩, ⟨g, ad0, sh0⟩, Q⟩ := ρ
  intro C ad H locs lsa h1 h2 h3 hr hl hi hs
  obtain ⟨hx, hb, -, -, -, hown, -, hts, hK, hE, hd1, hd2, hd3, hd4⟩ := id C
  have hA : ∀ q, s.heap.size ≤ q → AA ad0 sh0.length s.heap.size q := fun q hq => Or.inr hq
  have hd3 : δ.2.1 ≤ R.cells + sh0.length := hd3
  have hd4 : δ.2.2 ≤ R.slots + SZ sh0 := hd4
  have hfd : ∀ (ad : Nat → Nat) (j : Nat), j < r.2.2 → fv g ad sh.length (ts.getD j 0) (w sh.length (j : Int)) = defaultValue (ty j) := fun ad j hj => by
    rcases hdf j hj with ⟨a, b, c9⟩ | ⟨a, b, c9⟩
    · rw [a, b, c9]; rfl
    · rw [a, b, c9]; rfl
  refine va_new hx hb (Ts := wsM μ) hts (fun w hw => List.mem_cons_of_mem _ (cf.2.1 w hw)) ty cf.2.2.1 hown (hts _ (List.mem_cons_of_mem _ hlk)) (hts _ (List.mem_cons_of_mem _ hinst)) (hts _ (List.mem_cons_of_mem _ hini)) hK hr.1 hr.2.1 hr.2.2.1 hA cf.1 (fs := (List.range ts.length).map (fun j => fv g ad sh.length (ts.getD j 0) (w sh.length (j : Int)))) (fun j hj => ?_) (by omega) (by omega) d (fun q H1 hP hD hS => ?_)
  · show _ = ((List.range ts.length).map (fun j => fv g ad sh.length (ts.getD j 0) (w sh.length (j : Int)))).getD j .null
    rw [List.getD_eq_getElem?_getD, range_get (by omega)]
    exact (hfd ad j hj).symm
  · have hce : (.inr (ci, (List.range ts.length).map (fun j => fv g ad sh.length (ts.getD j 0) (w sh.length (j : Int)))) : va_E) = ce g (adP ad sh.length q) sh.length (0, ci, ts) (w sh.length) := by
      have e9 : (List.range ts.length).map (fun j => fv g ad sh.length (ts.getD j 0) (w sh.length (j : Int))) = (List.range ts.length).map (fun j => fv g (adP ad sh.length q) sh.length (ts.getD j 0) (w sh.length (j : Int))) := List.map_congr_left (fun j hj => by
        have hjl := List.mem_range.mp hj
        rw [hfd _ j (by omega), hfd _ j (by omega)])
      rw [e9]
      rfl
    rw [hce] at hP hD
    have k1 := push_go (s9 := (0, ci, ts)) kk C h1 h2 hroom hr hl hi hs hcl h5 (fun j hj h10 => by
      show InV _ (ts.getD j 0, w sh.length (j : Int))
      rcases hdf j (by rw [← hlen]; exact hj) with ⟨a, b, c9⟩ | ⟨a, b, c9⟩
      · rw [a, c9]; exact InI_0
      · rw [a, c9]; show (-1 : Int) ≤ -1 ∧ (-1 : Int) < ((sh.length + 1 : Nat) : Int); omega) hP hD hS
    rw [← hlen]
    exact k1
end MAKE

