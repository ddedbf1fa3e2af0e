/-! MAKING: a reference is put into a final field; the shape remembers it. -/
theorem wl_shset {g : Gt} {ad : Nat → Nat} {sh : List Sh} {w : Wd} {k : Nat} {s' : Sh} (hk : k < sh.length) : wl g ad (sh.set k s') w = (wl g ad sh w).set k (ad k, ce g ad k s' (w k)) := by
  apply List.ext_getElem?
  intro i
  by_cases e : i = k
  · subst e
    have e1 : (sh.set i s')[i]? = some s' := List.getElem?_set_self hk
    rw [wl_get e1, List.getElem?_set_self (by rw [wl_len]; exact hk)]
  · rw [List.getElem?_set_ne (Ne.symm e)]
    by_cases hi : i < sh.length
    · have e0 : sh[i]? = some sh[i] := List.getElem?_eq_getElem hi
      have e1 : (sh.set k s')[i]? = some sh[i] := by rw [List.getElem?_set_ne (Ne.symm e)]; exact e0
      rw [wl_get e1, wl_get e0]
    · rw [List.getElem?_eq_none (by rw [wl_len, List.length_set]; omega), List.getElem?_eq_none (by rw [wl_len]; omega)]
theorem SZ_set {sh : List Sh} {k : Nat} {s s' : Sh} (hk : sh[k]? = some s) (h : szS s' = szS s) : SZ (sh.set k s') = SZ sh := by
  have e : ∀ l : List Sh, SZ l = (l.map szS).sum := fun l => rfl
  rw [e, e]
  congr 1
  apply List.ext_getElem?
  intro i
  rw [List.getElem?_map, List.getElem?_map]
  have hl := (List.getElem?_eq_some_iff.mp hk).1
  by_cases c : i = k
  · subst c
    rw [List.getElem?_set_self hl, hk]
    show some (szS s') = some (szS s)
    rw [h]
  · rw [List.getElem?_set_ne (Ne.symm c)]
section MAKE
variable {μ : Mu} {δ : De} {pc : Nat} {ls : List (Nat × PV)} {st : List PV} {w : Wd} {sh : List Sh}
theorem s_putRF {ρ : Rh} {idx ci : Nat} {r : vw_C} {ty : Nat → FieldType} {z x : Int} (k j cN t : Nat) {sh' : List Sh} {ts : List Nat} (d : decode μ.2.1 pc = .ok (.putfield idx, 3)) (cf : CF ci r ty) (f : FF μ.1.cls idx ci r j) (hz : z = ((k : Nat) : Int)) (hxc : x = ((cN : Nat) : Int)) (ht9 : 10 ≤ t) (htc : (if t < 1000 then t - 10 else k + (t - 1000)) = cN) (hsh : sh[k]? = some (0, ci, ts)) (hj : j < ts.length) (hfin : (r.2.1 j).2.2.2 = true) (hdecl : (r.2.1 j).1 = μ.1.cls) (hin : μ.1.name = "<init>") (hnar : ∀ a : Nat, narrow (ty j) (.ref a) = .ref a ∧ fits (ty j) (.ref a) = true) (hsh' : sh.set k (0, ci, ts.set j t) = sh') (kk : At μ δ ρ sh' (pc + 3) ls st w) : At μ δ ρ sh pc ls ((2, x) :: (2, z) :: st) w := by
  obtain ⟨⟨p, l, e, R, s⟩, ⟨m, args, below, meth, c⟩, ⟨g, ad0, sh0⟩, Q⟩ := ρ
  intro C ad H locs lsa h1 h2 h3 hr hl hi hs
  obtain ⟨hx, hb, -, -, -, hown, hnm, hts, hK, -⟩ := id C
  have hkl := (List.getElem?_eq_some_iff.mp hsh).1
  subst hz
  subst hxc
  subst hsh'
  simp only [List.forall_mem_cons] at hs
  have hlen : (sh.set k (0, ci, ts.set j t)).length = sh.length := List.length_set ..
  have hsz : SZ (sh.set k (0, ci, ts.set j t)) = SZ sh := SZ_set hsh (by show (ts.set j t).length = ts.length; exact List.length_set ..)
  have hset : ((List.range ts.length).map (fun j => fv g ad k (ts.getD j 0) (w k (j : Int)))).set j (.ref (ad cN)) = (List.range (ts.set j t).length).map (fun i => fv g ad k ((ts.set j t).getD i 0) (w k (i : Int))) := by
    rw [List.length_set]
    apply List.ext_getElem?
    intro i
    by_cases hij : i = j
    · subst hij
      rw [List.getElem?_set_self (by simp; exact hj), range_get hj]
      have e9 : (ts.set i t).getD i 0 = t := by rw [List.getD_eq_getElem?_getD, List.getElem?_set_self hj]; rfl
      rw [e9]
      unfold fv
      rw [if_neg (by omega)]
      by_cases c9 : t < 1000
      · rw [if_pos c9] at htc ⊢
        rw [htc]
      · rw [if_neg c9] at htc ⊢
        rw [htc]
    · rw [List.getElem?_set_ne (Ne.symm hij)]
      by_cases hil : i < ts.length
      · rw [range_get hil, range_get hil]
        have e9 : (ts.set j t).getD i 0 = ts.getD i 0 := by rw [List.getD_eq_getElem?_getD, List.getD_eq_getElem?_getD, List.getElem?_set_ne (Ne.symm hij)]
        rw [e9]
      · rw [List.getElem?_eq_none (by simp; omega), List.getElem?_eq_none (by simp; omega)]
  rw [List.map_cons, List.map_cons, tv_ref, tv_ref]
  refine va_putF hx hb (Ts := wsM μ) hts (fun w hw => List.mem_cons_of_mem _ (cf.2.1 w hw)) ty cf.2.2.1 cf.2.2.2 hown hK hr.1 hr.2.1 hr.2.2.1 k (wl_get hsh) cf.1 j f.1 (hts _ (List.mem_cons_of_mem _ f.2)) (fun _ h => h) hfin (by rw [hnm, hin]) hdecl (ty := ty j) (cf.2.2.1 j f.1) (hnar _).1 (hnar _).2 (by simp; exact hj) d (fun H1 locs1 hP hD hS => ?_)
  have hP : va_P g.1 CL ((wl g ad sh w).set k (ad k, .inr (ci, ((List.range ts.length).map (fun j => fv g ad k (ts.getD j 0) (w k (j : Int)))).set j (.ref (ad cN))))) H1 := hP
  have hD : va_D (AA ad0 sh0.length s.heap.size) ((wl g ad sh w).set k (ad k, .inr (ci, ((List.range ts.length).map (fun j => fv g ad k (ts.getD j 0) (w k (j : Int)))).set j (.ref (ad cN))))) := hD
  rw [hset] at hP hD
  have ew : wl g ad (sh.set k (0, ci, ts.set j t)) w = (wl g ad sh w).set k (ad k, .inr (ci, (List.range (ts.set j t).length).map (fun i => fv g ad k ((ts.set j t).getD i 0) (w k (i : Int))))) := wl_shset hkl
  rw [← ew] at hP hD
  have k1 := kk C ad H1 locs1 lsa h1 ⟨by omega, by omega⟩ ⟨by omega, by omega⟩ ⟨hP, hD, hS, ?_⟩ hl (fun x hx9 => by rw [hlen]; exact hi x hx9) (fun v hv => by rw [hlen]; exact hs.2.2 v hv)
  · rw [hlen, hsz] at k1
    exact k1
  · intro i s9 hi9
    rw [hlen]
    by_cases e9 : i = k
    · subst e9
      rw [List.getElem?_set_self hkl] at hi9
      cases hi9
      intro i2 hi2 hi3
      have hi2 : i2 < (ts.set j t).length := hi2
      have hi3 : (ts.set j t).getD i2 0 < 10 := hi3
      rw [List.length_set] at hi2
      show InV sh.length ((ts.set j t).getD i2 0, w i (i2 : Int))
      by_cases e8 : i2 = j
      · subst e8
        rw [List.getD_eq_getElem?_getD, List.getElem?_set_self hj] at hi3
        have hi3 : t < 10 := hi3
        omega
      · have e7 : (ts.set j t).getD i2 0 = ts.getD i2 0 := by rw [List.getD_eq_getElem?_getD, List.getD_eq_getElem?_getD, List.getElem?_set_ne (Ne.symm e8)]
        rw [e7] at hi3 ⊢
        exact hr.2.2.2 i _ hsh i2 hi2 hi3
    · rw [List.getElem?_set_ne (Ne.symm e9)] at hi9
      exact hr.2.2.2 i s9 hi9
end MAKE

