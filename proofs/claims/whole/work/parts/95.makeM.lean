/-! MAKING: rows that stand side by side. -/
def adQ (ad : Nat → Nat) (n q : Nat) (r : Nat → Nat) : Nat → Nat := fun i => if i < n then ad i else if i = n then q else r (i - n - 1)
abbrev shM (sh : List Sh) (N K : Nat) : List Sh := sh ++ (6, N, [sh.length + 1]) :: List.replicate N (1, K, [])
theorem shM_len {sh : List Sh} {N K : Nat} : (shM sh N K).length = sh.length + (1 + N) := by
  unfold shM
  rw [List.length_append, List.length_cons, List.length_replicate]
  omega
theorem shM_lo {sh : List Sh} {N K k : Nat} (h : k < sh.length) : (shM sh N K)[k]? = sh[k]? := List.getElem?_append_left h
theorem shM_n {sh : List Sh} {N K : Nat} : (shM sh N K)[sh.length]? = some (6, N, [sh.length + 1]) := by
  unfold shM
  rw [List.getElem?_append_right (Nat.le_refl _), Nat.sub_self]
  all_goals rfl
theorem shM_hi {sh : List Sh} {N K k : Nat} (h : sh.length < k) (h2 : k < sh.length + (1 + N)) : (shM sh N K)[k]? = some (1, K, []) := by
  unfold shM
  rw [List.getElem?_append_right (by omega), show k - sh.length = (k - sh.length - 1) + 1 by omega, List.getElem?_cons_succ, List.getElem?_replicate, if_pos (by omega)]
theorem shM_sz {sh : List Sh} {N K : Nat} : SZ (shM sh N K) = SZ sh + (N + N * K) := by
  have e : ∀ l : List Sh, SZ l = (l.map szS).sum := fun l => rfl
  rw [e, e]
  unfold shM
  rw [List.map_append, List.sum_append, List.map_cons, List.sum_cons, List.map_replicate, List.sum_replicate_nat]
  all_goals rfl
section MAKE
variable {μ : Mu} {δ : De} {ρ : Rh} {pc : Nat} {ls : List (Nat × PV)} {st : List PV} {w : Wd} {sh : List Sh}
theorem wl_mna {g : Gt} {ad r : Nat → Nat} {q N K : Nat} (hw : WF sh w) (hcl : shB sh = true) (h5 : H5 sh w) (hz : ∀ k, sh.length < k → k < sh.length + (1 + N) → w k = fun _ => 0) : wl g (adQ ad sh.length q r) (shM sh N K) w = (wl g ad sh w ++ [(q, .inl (g.2.1 4, N, .inr (.inr (.inr (.inr (fun i => if i < N then some (r i) else none))))))]) ++ (List.range N).map (fun i => (r i, .inl (g.2.1 1, K, .inl (fun _ => 0)))) := by
  have hlo : ∀ k, k < sh.length → adQ ad sh.length q r k = ad k := fun k hk => if_pos hk
  apply List.ext_getElem?
  intro i
  by_cases c1 : i < sh.length
  · have e1 : sh[i]? = some sh[i] := List.getElem?_eq_getElem c1
    rw [List.getElem?_append_left (by rw [List.length_append, wl_len]; omega), List.getElem?_append_left (by rw [wl_len]; exact c1), wl_get e1, wl_get ((shM_lo c1).trans e1), hlo i c1, ce_agree hlo (hw i _ e1) (shB_get hcl e1) (h5 i _ e1)]
  · by_cases c2 : i = sh.length
    · subst c2
      rw [wl_get shM_n, List.getElem?_append_left (by rw [List.length_append, wl_len]; exact Nat.lt_succ_self _), List.getElem?_append_right (by rw [wl_len]; exact Nat.le_refl _), wl_len, Nat.sub_self]
      have e9 : adQ ad sh.length q r sh.length = q := by unfold adQ; rw [if_neg (Nat.lt_irrefl _), if_pos rfl]
      have e8 : (fun j : Nat => if j < N then some (adQ ad sh.length q r ([sh.length + 1].getD 0 0 + j)) else none) = fun i : Nat => if i < N then some (r i) else none := by
        funext j
        have e7 : adQ ad sh.length q r (sh.length + 1 + j) = r j := by unfold adQ; rw [if_neg (by omega), if_neg (by omega), show sh.length + 1 + j - sh.length - 1 = j by omega]
        show (if j < N then some (adQ ad sh.length q r (sh.length + 1 + j)) else none) = _
        rw [e7]
      rw [e9]
      show some (q, (Sum.inl (g.2.1 4, N, .inr (.inr (.inr (.inr (fun j : Nat => if j < N then some (adQ ad sh.length q r ([sh.length + 1].getD 0 0 + j)) else none))))) : va_E)) = _
      rw [e8]
      all_goals rfl
    · by_cases c3 : i < sh.length + (1 + N)
      · have hlen : (wl g ad sh w ++ [(q, (Sum.inl (g.2.1 4, N, .inr (.inr (.inr (.inr (fun i => if i < N then some (r i) else none))))) : va_E))]).length = sh.length + 1 := by rw [List.length_append, wl_len]; rfl
        rw [wl_get (shM_hi (by omega) c3), List.getElem?_append_right (by rw [hlen]; omega), hlen, List.getElem?_map, List.getElem?_range (by omega)]
        have e9 : adQ ad sh.length q r i = r (i - (sh.length + 1)) := by unfold adQ; rw [if_neg c1, if_neg c2, Nat.sub_sub]
        rw [e9, hz i (by omega) c3]
        all_goals rfl
      · rw [List.getElem?_eq_none (by rw [wl_len, shM_len]; omega), List.getElem?_eq_none (by rw [List.length_append, List.length_append, wl_len, List.length_map, List.length_range]; show sh.length + 1 + N ≤ i; omega)]
theorem s_mna {idx : Nat} {n m9 : Int} (N K : Nat) (d : decode μ.2.1 pc = .ok (.multianewarray idx 2, 4)) (hlk : Cond.classLink μ.1.cls idx ("[" ++ (FieldType.array .int).toString) ∈ TS) (hcond : Cond.arrayClass .int ∈ TS) (hn : n = (N : Int)) (hm : m9 = (K : Int)) (hN : N < 1000 ∧ K < 1000) (hz : ∀ k, sh.length < k → k < sh.length + (1 + N) → w k = fun _ => 0) (hcl : shB sh = true) (h5 : H5 sh w) (hroom : sh.length + (1 + N) ≤ δ.2.1 ∧ SZ sh + (N + N * K) ≤ δ.2.2) {sh' : List Sh} (hsh : shM sh N K = sh') (kk : At μ δ ρ sh' (pc + 4) ls ((2, (sh.length : Int)) :: st) w) : At μ δ ρ sh pc ls ((0, m9) :: (0, n) :: st) w := by
  obtain ⟨⟨p, l, e, R, s⟩, ⟨m, args, below, meth, c⟩, ⟨g, ad0, sh0⟩, Q⟩ := ρ
  intro C ad H locs lsa h1 h2 h3 hr hl hi hs
  obtain ⟨hx, hb, -, -, -, hown, -, hts, hK, hE, hd1, hd2, hd3, hd4⟩ := id C
  subst hn
  subst hm
  subst hsh
  simp only [List.forall_mem_cons] at hs
  have hA : ∀ q, s.heap.size ≤ q → AA ad0 sh0.length s.heap.size q := fun q hq => Or.inr hq
  have hI : InI (N : Int) := ⟨by omega, by omega⟩
  have hI2 : InI (K : Int) := ⟨by omega, by omega⟩
  have hd3 : δ.2.1 ≤ R.cells + sh0.length := hd3
  have hd4 : δ.2.2 ≤ R.slots + SZ sh0 := hd4
  have hlen := shM_len (sh := sh) (N := N) (K := K)
  have hsz := shM_sz (sh := sh) (N := N) (K := K)
  have k1 := (hK.2 0 _ (tyl_get g).1).2
  have hP0 : va_P g.1 CL (wl g ad sh w ++ va_pl [] (fun _ => .inr (0, []))) H := by show va_P g.1 CL (wl g ad sh w ++ []) H; rw [List.append_nil]; exact hr.1
  have hD0 : va_D (AA ad0 sh0.length s.heap.size) (wl g ad sh w ++ va_pl [] (fun _ => .inr (0, []))) := by show va_D _ (wl g ad sh w ++ []); rw [List.append_nil]; exact hr.2.1
  refine va_mna (X := wl g ad sh w) (L := []) (f := fun _ => .inr (0, [])) (ty := .int) (cy := g.2.1 1) hx hb hown (hts _ (List.mem_cons_of_mem _ hlk)) hE.2.2.2.2.1.2 (hts _ (List.mem_cons_of_mem _ hcond)) k1 hK hP0 hD0 hr.2.2.1 hA (n := Int32.ofInt (N : Int)) (k := Int32.ofInt (K : Int)) (N' := N) (K' := K) (z := (K, .inl (fun _ => 0))) (by rw [i32_lt0 hI]; omega) (by rw [i32_lt0 hI2]; omega) (by rw [i32_clamp (by omega) hI]; omega) (by rw [i32_clamp (by omega) hI2]; omega) (by omega) (by show K * 4 ≤ 536870912; omega) (by omega) rfl rfl (by omega) (by omega) (fun cA => ?_) d (fun q r cA H1 hr1 hr2 hK1 hP hD hS => ?_)
  · show Jvm.Free.Multi.innerC cA K (.int 0) = vp_cell cA (K, .inl (fun _ => 0))
    rw [vp_cell_i]
    exact arrV_new cA K (.int 0)
  · obtain k0 := (hK.2 3 _ (tyl_get g).2.2.2.1).2
    have k5 := (hK1.2 5 (cA, .array .int) rfl).2
    have ec : cA = g.2.1 4 := Option.some.inj (Eq.trans (Eq.symm k5) k0)
    have er : va_pl ([] ++ (List.range N).map r) (vr_up (fun _ => .inr (0, [])) ((List.range N).map r) (.inl (g.2.1 1, K, .inl (fun _ => 0)))) = (List.range N).map (fun i => (r i, (.inl (g.2.1 1, K, .inl (fun _ => 0)) : va_E))) := by
      rw [List.nil_append]
      unfold va_pl
      rw [List.map_map]
      exact List.map_congr_left (fun i hi9 => by
        show (r i, vr_up _ _ _ (r i)) = _
        rw [vr_up_in (List.mem_map.mpr ⟨i, hi9, rfl⟩)])
    rw [er, ec, ← wl_mna hr.2.2.2 hcl h5 hz] at hP hD
    have hlo : ∀ k, k < sh.length → adQ ad sh.length q r k = ad k := fun k hk => if_pos hk
    have k9 := kk C (adQ ad sh.length q r) H1 locs lsa (fun k hk => (hlo k (by omega)).trans (h1 k hk)) ⟨by omega, by omega⟩ ⟨by omega, by omega⟩ ⟨hP, hD, hS, ?_⟩ (by
      have e9 : tvl g (adQ ad sh.length q r) ls = tvl g ad ls := List.map_congr_left (fun x hx => by rw [tv_agree hlo (hi x hx)])
      rw [e9]
      exact hl) (fun x hx => InV.mono (by omega) (hi x hx)) (fun v hv => by
      rcases List.mem_cons.mp hv with rfl | hv
      · show (-1 : Int) ≤ (sh.length : Int) ∧ (sh.length : Int) < (((shM sh N K).length : Nat) : Int)
        omega
      · exact InV.mono (by omega) (hs.2.2 v hv))
    · have e1 : (shM sh N K).length - sh0.length = sh.length - sh0.length + 1 + N := by omega
      have e2 : SZ (shM sh N K) - SZ sh0 = SZ sh - SZ sh0 + N + N * K := by omega
      have e3 : (((2, (sh.length : Int)) :: st : List PV)).map (tv g (adQ ad sh.length q r)) = .ref q :: st.map (tv g ad) := by
        rw [List.map_cons, tv_ref]
        have e4 : adQ ad sh.length q r sh.length = q := by unfold adQ; rw [if_neg (Nat.lt_irrefl _), if_pos rfl]
        rw [e4]
        congr 1
        exact List.map_congr_left (fun v hv => tv_agree hlo (hs.2.2 v hv))
      rw [e1, e2, e3] at k9
      exact k9
    · intro k s9 hk
      rw [hlen]
      by_cases c1 : k < sh.length
      · rw [shM_lo c1] at hk
        exact InC.mono (by omega) (hr.2.2.2 k s9 hk)
      · have hkl := (List.getElem?_eq_some_iff.mp hk).1
        rw [hlen] at hkl
        by_cases c2 : k = sh.length
        · subst c2
          rw [shM_n] at hk
          cases hk
          show sh.length + 1 + N ≤ sh.length + (1 + N)
          omega
        · rw [shM_hi (by omega) hkl] at hk
          cases hk
          intro j j0 j1
          rw [hz k (by omega) hkl]
          exact InI_0
end MAKE

