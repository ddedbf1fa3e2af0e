/-! MAKING: arrays of references. -/
section MAKE
variable {μ : Mu} {δ : De} {ρ : Rh} {pc : Nat} {ls : List (Nat × PV)} {st : List PV} {w : Wd} {sh : List Sh}
theorem s_aast5g {z j : Int} (k v : Nat) {n : Nat} {ts tv6 : List Nat} (dd : decode μ.2.1 pc = .ok (.aastore, 1)) (hz : z = ((k : Nat) : Int)) (hsh : sh[k]? = some (5, n, ts)) (hn : n < 2147483648) (hj : 0 ≤ j ∧ j < n) (hv : sh[v]? = some (0, 6, tv6)) (kk : At μ δ ρ sh (pc + 1) ls st (wu w k j ((v : Nat) : Int))) : At μ δ ρ sh pc ls ((2, ((v : Nat) : Int)) :: (0, j) :: (2, z) :: st) w := by
  obtain ⟨⟨p, l, e, R, s⟩, ⟨m, args, below, meth, c⟩, ⟨g, ad0, sh0⟩, Q⟩ := ρ
  intro C ad H locs lsa h1 h2 h3 hr hl hi hs
  obtain ⟨hx, hb, -, -, -, hown, -, hts, hK, -⟩ := id C
  subst hz
  simp only [List.forall_mem_cons] at hs
  have hjI : InI j := ⟨by omega, by omega⟩
  have e1 : ((((Int32.ofInt j).toNatClampNeg : Nat)) : Int) = j := by rw [i32_clamp hj.1 hjI]; omega
  refine va_astq hx hb hK hr.1 hr.2.1 hr.2.2.1 k 4 v 6 (wl_get hsh) (tyl_get g).2.2.2.2 (wl_get hv) cf_X6.1 (vp_in_int hn hj.1 hj.2) dd (fun H1 locs1 hP hD hS => ?_)
  have e3 : va_up (fun i : Nat => if w k (i : Int) < 0 then none else some (ad (w k (i : Int)).toNat)) (Int32.ofInt j).toNatClampNeg (some (ad v)) = fun i : Nat => if (if (i : Int) = j then ((v : Nat) : Int) else w k (i : Int)) < 0 then none else some (ad (if (i : Int) = j then ((v : Nat) : Int) else w k (i : Int)).toNat) := by
    funext i
    unfold va_up
    by_cases h : i = (Int32.ofInt j).toNatClampNeg
    · rw [if_pos h, if_pos (show (i : Int) = j by omega), if_neg (by omega)]
      rfl
    · rw [if_neg h, if_neg (show ¬ (i : Int) = j by omega)]
  have hP : va_P g.1 CL ((wl g ad sh w).set k (ad k, .inl (g.2.1 5, n, .inr (.inr (.inr (.inr (va_up (fun i : Nat => if w k (i : Int) < 0 then none else some (ad (w k (i : Int)).toNat)) (Int32.ofInt j).toNatClampNeg (some (ad v))))))))) H1 := hP
  have hD : va_D (AA ad0 sh0.length s.heap.size) ((wl g ad sh w).set k (ad k, .inl (g.2.1 5, n, .inr (.inr (.inr (.inr (va_up (fun i : Nat => if w k (i : Int) < 0 then none else some (ad (w k (i : Int)).toNat)) (Int32.ofInt j).toNatClampNeg (some (ad v))))))))) := hD
  rw [e3] at hP hD
  have ew : wl g ad sh (wu w k j ((v : Nat) : Int)) = (wl g ad sh w).set k (ad k, .inl (g.2.1 5, n, .inr (.inr (.inr (.inr (fun i : Nat => if (if (i : Int) = j then ((v : Nat) : Int) else w k (i : Int)) < 0 then none else some (ad (if (i : Int) = j then ((v : Nat) : Int) else w k (i : Int)).toNat))))))) := by
    rw [wl_set hsh]
    congr 2
    show ce g ad k (5, n, ts) _ = _
    unfold ce
    simp only [wu_at]
  rw [← ew] at hP hD
  refine kk C ad H1 locs1 lsa h1 h2 h3 ⟨hP, hD, hS, wf_set hr.2.2.2 hsh ?_⟩ hl hi hs.2.2.2
  intro i hi2 hi3
  rw [wu_at]
  by_cases hij : i = j
  · rw [if_pos hij]
    exact hs.1
  · rw [if_neg hij]
    exact hr.2.2.2 k _ hsh i hi2 hi3
theorem s_newQ {idx : Nat} {n : Int} (N : Nat) (d : decode μ.2.1 pc = .ok (.anewarray idx, 3)) (hlk : Cond.classLink μ.1.cls idx "TalkingReels$Script" ∈ TS) (hn : n = (N : Int)) (hN : N < 60000000) (hz : w sh.length = fun _ => -1) (hcl : shB sh = true) (h5 : H5 sh w) (hroom : sh.length + 1 ≤ δ.2.1 ∧ SZ sh + N ≤ δ.2.2) (kk : At μ δ ρ (sh ++ [(5, N, [])]) (pc + 3) ls ((2, (sh.length : Int)) :: st) w) : At μ δ ρ sh pc ls ((0, n) :: st) w := by
  obtain ⟨⟨p, l, e, R, s⟩, ⟨m, args, below, meth, c⟩, ⟨g, ad0, sh0⟩, Q⟩ := ρ
  intro C ad H locs lsa h1 h2 h3 hr hl hi hs
  obtain ⟨hx, hb, -, -, -, hown, -, hts, hK, hE, hd1, hd2, hd3, hd4⟩ := id C
  subst hn
  simp only [List.forall_mem_cons] at hs
  have hA : ∀ q, s.heap.size ≤ q → AA ad0 sh0.length s.heap.size q := fun q hq => Or.inr hq
  have hI : InI (N : Int) := ⟨by omega, by omega⟩
  have hd3 : δ.2.1 ≤ R.cells + sh0.length := hd3
  have hd4 : δ.2.2 ≤ R.slots + SZ sh0 := hd4
  refine va_newq hx hb hown (hts _ (List.mem_cons_of_mem _ hlk)) hE.2.2.2.2.1.1 hK hr.1 hr.2.1 hr.2.2.1 hA (n := Int32.ofInt (N : Int)) (N' := N) (by rw [i32_lt0 hI]; omega) (by rw [i32_clamp (by omega) hI]; omega) (by omega) (by omega) (by omega) d (fun q cA H1 hK1 hP hD hS => ?_)
  obtain ⟨kA, comp, -, -, -, k0⟩ := (hK.2 4 _ (tyl_get g).2.2.2.2).2
  obtain ⟨kB, comp2, -, -, -, k5⟩ := (hK1.2 5 (cA, .object "TalkingReels$Script") rfl).2
  have ec : cA = g.2.1 5 := Option.some.inj (Eq.trans (Eq.symm k5) k0)
  have hce : (.inl (cA, N, .inr (.inr (.inr (.inr (fun _ => none))))) : va_E) = ce g (adP ad sh.length q) sh.length (5, N, []) (w sh.length) := by
    have e9 : (fun _ : Nat => (none : Option Nat)) = fun j : Nat => if w sh.length (j : Int) < 0 then none else some (adP ad sh.length q (w sh.length (j : Int)).toNat) := by
      funext j
      rw [hz]
      exact (if_pos (show (-1 : Int) < 0 by decide)).symm
    rw [ec, e9]
    rfl
  rw [hce] at hP hD
  exact push_go kk C h1 h2 hroom hr hl hi hs.2 hcl h5 (fun j j0 j1 => by rw [hz]; show (-1 : Int) ≤ -1 ∧ (-1 : Int) < ((sh.length + 1 : Nat) : Int); omega) hP hD hS
end MAKE

