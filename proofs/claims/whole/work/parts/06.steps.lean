/-! ONE INSTRUCTION, ONE ROW: from At behind it to At before it. -/
def wu (w : Wd) (k : Nat) (j v : Int) : Wd := fun a => if a = k then (fun i => if i = j then v else w k i) else w a
theorem wu_same (w : Wd) (k : Nat) (j v : Int) : wu w k j v k j = v := by simp [wu]
theorem wu_at (w : Wd) (k : Nat) (j v i : Int) : wu w k j v k i = if i = j then v else w k i := by simp [wu]
theorem wu_ne {w : Wd} {k a : Nat} {j v : Int} (h : a ≠ k) : wu w k j v a = w a := by simp [wu, h]
def pick {α : Type} (l : List α) (ks : List Nat) : List α := ks.filterMap (fun k => l[k]?)
def insL (i : Nat) (v : PV) : List (Nat × PV) → List (Nat × PV)
  | [] => [(i, v)]
  | q :: r => if q.1 < i then q :: insL i v r else (i, v) :: q :: r
def setL (ls : List (Nat × PV)) (i : Nat) (v : PV) : List (Nat × PV) := insL i v (ls.filter (fun q => !(q.1 == i) && !(q.1 + 1 == i && q.2.1 == 1) && !(v.1 == 1 && q.1 == i + 1)))
theorem insL_mem {i : Nat} {v : PV} : ∀ {l : List (Nat × PV)} {q : Nat × PV}, q ∈ insL i v l → q = (i, v) ∨ q ∈ l
  | [], q, h => by simpa [insL] using h
  | a :: r, q, h => by
    unfold insL at h
    split at h
    · rcases List.mem_cons.mp h with h | h
      · exact Or.inr (h ▸ List.mem_cons_self)
      · rcases insL_mem h with h | h
        · exact Or.inl h
        · exact Or.inr (List.mem_cons_of_mem _ h)
    · rcases List.mem_cons.mp h with h | h
      · exact Or.inl h
      · exact Or.inr h
theorem setL_mem {ls : List (Nat × PV)} {i : Nat} {v : PV} {q : Nat × PV} (h : q ∈ setL ls i v) : q = (i, v) ∨ (q ∈ ls ∧ (q.1 ≠ i ∧ ¬ (q.1 + 1 = i ∧ q.2.1 = 1) ∧ ¬ (v.1 = 1 ∧ q.1 = i + 1))) := by
  rcases insL_mem h with h | h
  · exact Or.inl h
  · obtain ⟨h1, h2⟩ := List.mem_filter.mp h
    exact Or.inr ⟨h1, fun z => by simp [z] at h2, fun z => by simp [z.1, z.2] at h2, fun z => by simp [z.1, z.2] at h2⟩
theorem tvl_at {g : Gt} {ad : Nat → Nat} {ls : List (Nat × PV)} {j i : Nat} {v : PV} (h : ls[j]? = some (i, v)) : (tvl g ad ls)[j]? = some (i, tv g ad v) := by
  simp [tvl, h]
theorem tvl_mem {g : Gt} {ad : Nat → Nat} {ls : List (Nat × PV)} {q : Nat × Value} (h : q ∈ tvl g ad ls) : ∃ x ∈ ls, q = (x.1, tv g ad x.2) := by
  obtain ⟨x, hx, e⟩ := List.mem_map.mp h
  exact ⟨x, hx, e.symm⟩
theorem has_mono {lsa : Array Slot} {nL : Nat} {l l' : List (Nat × Value)} (h : lv_has lsa nL l) (hs : ∀ q ∈ l', q ∈ l) : lv_has lsa nL l' := ⟨h.1, h.2.1, fun q hq => h.2.2 q (hs q hq)⟩
theorem cat2 {g : Gt} {ad : Nat → Nat} {v : PV} (h : (tv g ad v).category = 2) : v.1 = 1 := by
  rw [tv_cat] at h
  by_cases h1 : v.1 = 1
  · exact h1
  · rw [if_neg h1] at h; omega
theorem has_set1 {g : Gt} {ad : Nat → Nat} {lsa : Array Slot} {nL i : Nat} {ls : List (Nat × PV)} {v : PV} (hv : v.1 ≠ 1) (h : lv_has lsa nL ((i, tv g ad v) :: (tvl g ad ls).filter (fun q => !(q.1 == i) && !(q.1 + 1 == i && q.2.category == 2)))) : lv_has lsa nL (tvl g ad (setL ls i v)) := by
  refine has_mono h (fun q hq => ?_)
  obtain ⟨x, hx, rfl⟩ := tvl_mem hq
  rcases setL_mem hx with rfl | ⟨h1, h2, h3, -⟩
  · exact List.mem_cons_self
  · refine List.mem_cons_of_mem _ (List.mem_filter.mpr ⟨List.mem_map.mpr ⟨x, h1, rfl⟩, ?_⟩)
    have : ¬ (x.1 + 1 = i ∧ (tv g ad x.2).category = 2) := fun z => h3 ⟨z.1, cat2 z.2⟩
    have e1 : (x.1 == i) = false := by simpa using h2
    have e2 : (x.1 + 1 == i && (tv g ad x.2).category == 2) = false := Bool.eq_false_iff.mpr (fun z => this (by simpa using z))
    show (!(x.1 == i) && !(x.1 + 1 == i && (tv g ad x.2).category == 2)) = true
    rw [e1, e2]; rfl
theorem has_set2 {g : Gt} {ad : Nat → Nat} {lsa : Array Slot} {nL i : Nat} {ls : List (Nat × PV)} {v : PV} (hv : v.1 = 1) (h : lv_has lsa nL ((i, tv g ad v) :: (tvl g ad ls).filter (fun q => !(q.1 == i) && (!(q.1 == i + 1) && !(q.1 + 1 == i && q.2.category == 2))))) : lv_has lsa nL (tvl g ad (setL ls i v)) := by
  refine has_mono h (fun q hq => ?_)
  obtain ⟨x, hx, rfl⟩ := tvl_mem hq
  rcases setL_mem hx with rfl | ⟨h1, h2, h3, h4⟩
  · exact List.mem_cons_self
  · refine List.mem_cons_of_mem _ (List.mem_filter.mpr ⟨List.mem_map.mpr ⟨x, h1, rfl⟩, ?_⟩)
    have : ¬ (x.1 + 1 = i ∧ (tv g ad x.2).category = 2) := fun z => h3 ⟨z.1, cat2 z.2⟩
    have h5 : x.1 ≠ i + 1 := fun z => h4 ⟨hv, z⟩
    have e1 : (x.1 == i) = false := by simpa using h2
    have e3 : (x.1 == i + 1) = false := by simpa using h5
    have e2 : (x.1 + 1 == i && (tv g ad x.2).category == 2) = false := Bool.eq_false_iff.mpr (fun z => this (by simpa using z))
    show (!(x.1 == i) && (!(x.1 == i + 1) && !(x.1 + 1 == i && (tv g ad x.2).category == 2))) = true
    rw [e1, e2, e3]; rfl
theorem setL_in {N i : Nat} {ls : List (Nat × PV)} {v : PV} (hi : ∀ q ∈ ls, InV N q.2) (hv : InV N v) : ∀ q ∈ setL ls i v, InV N q.2 := by
  intro q hq
  rcases setL_mem hq with rfl | ⟨h1, -⟩
  · exact hv
  · exact hi q h1
def refb (v : PV) : Bool := match v.1 with
  | 0 => false
  | 1 => false
  | 2 => decide (0 ≤ v.2)
  | _ => true
theorem refb_ref {g : Gt} {ad : Nat → Nat} {v : PV} (h : refb v = true) : ∃ a, tv g ad v = .ref a := by
  obtain ⟨t, z⟩ := v
  unfold refb at h
  rcases t with _ | _ | _ | _ | _ | _ | t
  · cases h
  · cases h
  · have h0 : 0 ≤ z := of_decide_eq_true h
    exact ⟨ad z.toNat, if_neg (by show ¬ z < 0; omega)⟩
  · exact ⟨_, rfl⟩
  · exact ⟨_, rfl⟩
  · exact ⟨_, rfl⟩
  · exact ⟨_, rfl⟩
section STEPS
variable {μ : Mu} {δ : De} {ρ : Rh} {sh : List Sh} {pc : Nat} {ls : List (Nat × PV)} {st : List PV} {w : Wd}
theorem At.wf (k : WF sh w → At μ δ ρ sh pc ls st w) : At μ δ ρ sh pc ls st w := by
  obtain ⟨⟨p, l, e, R, s⟩, ⟨m, args, below, meth, c⟩, ⟨g, ad0, sh0⟩, Q⟩ := ρ
  intro C ad H locs lsa h1 h2 h3 hr hl hi hs
  exact k hr.2.2.2 C ad H locs lsa h1 h2 h3 hr hl hi hs
theorem At.inS (k : (∀ v ∈ st, InV sh.length v) → At μ δ ρ sh pc ls st w) : At μ δ ρ sh pc ls st w := by
  obtain ⟨⟨p, l, e, R, s⟩, ⟨m, args, below, meth, c⟩, ⟨g, ad0, sh0⟩, Q⟩ := ρ
  intro C ad H locs lsa h1 h2 h3 hr hl hi hs
  exact k hs C ad H locs lsa h1 h2 h3 hr hl hi hs
theorem At.inL (k : (∀ q ∈ ls, InV sh.length q.2) → At μ δ ρ sh pc ls st w) : At μ δ ρ sh pc ls st w := by
  obtain ⟨⟨p, l, e, R, s⟩, ⟨m, args, below, meth, c⟩, ⟨g, ad0, sh0⟩, Q⟩ := ρ
  intro C ad H locs lsa h1 h2 h3 hr hl hi hs
  exact k hi C ad H locs lsa h1 h2 h3 hr hl hi hs
/-- fewer locals -/
theorem At.keep {ls' : List (Nat × PV)} (ks : List Nat) (hp : pick ls ks = ls') (k : At μ δ ρ sh pc ls' st w) : At μ δ ρ sh pc ls st w := by
  obtain ⟨⟨p, l, e, R, s⟩, ⟨m, args, below, meth, c⟩, ⟨g, ad0, sh0⟩, Q⟩ := ρ
  intro C ad H locs lsa h1 h2 h3 hr hl hi hs
  subst hp
  have hm : ∀ q ∈ pick ls ks, q ∈ ls := fun q hq => by
    obtain ⟨i, -, hi⟩ := List.mem_filterMap.mp hq
    exact List.mem_of_getElem? hi
  exact k C ad H locs lsa h1 h2 h3 hr (has_mono hl (fun q hq => by
    obtain ⟨x, hx, rfl⟩ := tvl_mem hq
    exact List.mem_map.mpr ⟨x, hm x hx, rfl⟩)) (fun q hq => hi q (hm q hq)) hs
theorem s_iconst {n : Int} (d : decode μ.2.1 pc = .ok (.iconst n, 1)) (hn : -32768 ≤ n ∧ n ≤ 32767) (k : At μ δ ρ sh (pc + 1) ls ((0, n) :: st) w) : At μ δ ρ sh pc ls st w := by
  obtain ⟨⟨p, l, e, R, s⟩, ⟨m, args, below, meth, c⟩, ⟨g, ad0, sh0⟩, Q⟩ := ρ
  intro C ad H locs lsa h1 h2 h3 hr hl hi hs
  exact lv_iconst C.1 C.2.1 d rfl (k C ad H locs lsa h1 h2 h3 hr hl hi (List.forall_mem_cons.mpr ⟨⟨by show -2147483648 ≤ n; omega, by show n < 2147483648; omega⟩, hs⟩))
theorem s_bipush {n : Int} (d : decode μ.2.1 pc = .ok (.bipush n, 2)) (hn : -128 ≤ n ∧ n ≤ 127) (k : At μ δ ρ sh (pc + 2) ls ((0, n) :: st) w) : At μ δ ρ sh pc ls st w := by
  obtain ⟨⟨p, l, e, R, s⟩, ⟨m, args, below, meth, c⟩, ⟨g, ad0, sh0⟩, Q⟩ := ρ
  intro C ad H locs lsa h1 h2 h3 hr hl hi hs
  refine lv_bipush C.1 C.2.1 d (v := Int32.ofInt n) ?_ (k C ad H locs lsa h1 h2 h3 hr hl hi (List.forall_mem_cons.mpr ⟨⟨by show -2147483648 ≤ n; omega, by show n < 2147483648; omega⟩, hs⟩))
  apply i32_ext
  rw [toInt_in ⟨by omega, by omega⟩, Int8.toInt_toInt32, Int8.toInt_ofInt]
  show n.bmod 256 = n
  rw [Int.bmod_def]
  split <;> omega
theorem s_sipush {n : Int} (d : decode μ.2.1 pc = .ok (.sipush n, 3)) (hn : -32768 ≤ n ∧ n ≤ 32767) (k : At μ δ ρ sh (pc + 3) ls ((0, n) :: st) w) : At μ δ ρ sh pc ls st w := by
  obtain ⟨⟨p, l, e, R, s⟩, ⟨m, args, below, meth, c⟩, ⟨g, ad0, sh0⟩, Q⟩ := ρ
  intro C ad H locs lsa h1 h2 h3 hr hl hi hs
  refine lv_sipush C.1 C.2.1 d (v := Int32.ofInt n) ?_ (k C ad H locs lsa h1 h2 h3 hr hl hi (List.forall_mem_cons.mpr ⟨⟨by show -2147483648 ≤ n; omega, by show n < 2147483648; omega⟩, hs⟩))
  apply i32_ext
  rw [toInt_in ⟨by omega, by omega⟩, Int16.toInt_toInt32, Int16.toInt_ofInt]
  show n.bmod 65536 = n
  rw [Int.bmod_def]
  split <;> omega
theorem s_lconst {n : Fin 2} (d : decode μ.2.1 pc = .ok (.lconst n, 1)) {z : Int} (hz : z = (n : Nat)) (k : At μ δ ρ sh (pc + 1) ls ((1, z) :: st) w) : At μ δ ρ sh pc ls st w := by
  obtain ⟨⟨p, l, e, R, s⟩, ⟨m, args, below, meth, c⟩, ⟨g, ad0, sh0⟩, Q⟩ := ρ
  intro C ad H locs lsa h1 h2 h3 hr hl hi hs
  have hb : (n : Nat) < 2 := n.2
  subst hz
  exact lv_lconst C.1 C.2.1 d (v := Int64.ofInt ((n : Nat) : Int)) (Int64.ofInt_eq_ofNat ..).symm (k C ad H locs lsa h1 h2 h3 hr hl hi (List.forall_mem_cons.mpr ⟨⟨by show -9223372036854775808 ≤ ((n : Nat) : Int); omega, by show ((n : Nat) : Int) < 9223372036854775808; omega⟩, hs⟩))
theorem s_iload_n {q : Fin 4} {x : Int} (d : decode μ.2.1 pc = .ok (.iload_n q, 1)) (j : Nat) (hj : ls[j]? = some ((q : Nat), (0, x))) (k : At μ δ ρ sh (pc + 1) ls ((0, x) :: st) w) : At μ δ ρ sh pc ls st w := by
  obtain ⟨⟨p, l, e, R, s⟩, ⟨m, args, below, meth, c⟩, ⟨g, ad0, sh0⟩, Q⟩ := ρ
  intro C ad H locs lsa h1 h2 h3 hr hl hi hs
  exact lv_iload_n C.1 C.2.1 d rfl (lv_at hl j (tvl_at hj)) (k C ad H locs lsa h1 h2 h3 hr hl hi (List.forall_mem_cons.mpr ⟨hi _ (List.mem_of_getElem? hj), hs⟩))
theorem s_iload {i : Nat} {x : Int} (d : decode μ.2.1 pc = .ok (.iload i, 2)) (j : Nat) (hj : ls[j]? = some (i, (0, x))) (k : At μ δ ρ sh (pc + 2) ls ((0, x) :: st) w) : At μ δ ρ sh pc ls st w := by
  obtain ⟨⟨p, l, e, R, s⟩, ⟨m, args, below, meth, c⟩, ⟨g, ad0, sh0⟩, Q⟩ := ρ
  intro C ad H locs lsa h1 h2 h3 hr hl hi hs
  exact lv_iload C.1 C.2.1 d (lv_at hl j (tvl_at hj)) (k C ad H locs lsa h1 h2 h3 hr hl hi (List.forall_mem_cons.mpr ⟨hi _ (List.mem_of_getElem? hj), hs⟩))
theorem s_lload_n {q : Fin 4} {x : Int} (d : decode μ.2.1 pc = .ok (.lload_n q, 1)) (j : Nat) (hj : ls[j]? = some ((q : Nat), (1, x))) (k : At μ δ ρ sh (pc + 1) ls ((1, x) :: st) w) : At μ δ ρ sh pc ls st w := by
  obtain ⟨⟨p, l, e, R, s⟩, ⟨m, args, below, meth, c⟩, ⟨g, ad0, sh0⟩, Q⟩ := ρ
  intro C ad H locs lsa h1 h2 h3 hr hl hi hs
  exact lv_lload_n C.1 C.2.1 d rfl (lv_at hl j (tvl_at hj)) (k C ad H locs lsa h1 h2 h3 hr hl hi (List.forall_mem_cons.mpr ⟨hi _ (List.mem_of_getElem? hj), hs⟩))
theorem s_lload {i : Nat} {x : Int} (d : decode μ.2.1 pc = .ok (.lload i, 2)) (j : Nat) (hj : ls[j]? = some (i, (1, x))) (k : At μ δ ρ sh (pc + 2) ls ((1, x) :: st) w) : At μ δ ρ sh pc ls st w := by
  obtain ⟨⟨p, l, e, R, s⟩, ⟨m, args, below, meth, c⟩, ⟨g, ad0, sh0⟩, Q⟩ := ρ
  intro C ad H locs lsa h1 h2 h3 hr hl hi hs
  exact lv_lload C.1 C.2.1 d (lv_at hl j (tvl_at hj)) (k C ad H locs lsa h1 h2 h3 hr hl hi (List.forall_mem_cons.mpr ⟨hi _ (List.mem_of_getElem? hj), hs⟩))
theorem s_aload_n {q : Fin 4} {v : PV} (d : decode μ.2.1 pc = .ok (.aload_n q, 1)) (j : Nat) (hj : ls[j]? = some ((q : Nat), v)) (hv : refb v = true) (k : At μ δ ρ sh (pc + 1) ls (v :: st) w) : At μ δ ρ sh pc ls st w := by
  obtain ⟨⟨p, l, e, R, s⟩, ⟨m, args, below, meth, c⟩, ⟨g, ad0, sh0⟩, Q⟩ := ρ
  intro C ad H locs lsa h1 h2 h3 hr hl hi hs
  obtain ⟨a, ha⟩ := refb_ref (g := g) (ad := ad) hv
  have kk := k C ad H locs lsa h1 h2 h3 hr hl hi (List.forall_mem_cons.mpr ⟨hi _ (List.mem_of_getElem? hj), hs⟩)
  have hg := lv_at hl j (tvl_at hj)
  rw [List.map_cons, ha] at kk
  rw [ha] at hg
  exact lv_aload_n C.1 C.2.1 d rfl hg kk
theorem s_aload {i : Nat} {v : PV} (d : decode μ.2.1 pc = .ok (.aload i, 2)) (j : Nat) (hj : ls[j]? = some (i, v)) (hv : refb v = true) (k : At μ δ ρ sh (pc + 2) ls (v :: st) w) : At μ δ ρ sh pc ls st w := by
  obtain ⟨⟨p, l, e, R, s⟩, ⟨m, args, below, meth, c⟩, ⟨g, ad0, sh0⟩, Q⟩ := ρ
  intro C ad H locs lsa h1 h2 h3 hr hl hi hs
  obtain ⟨a, ha⟩ := refb_ref (g := g) (ad := ad) hv
  have kk := k C ad H locs lsa h1 h2 h3 hr hl hi (List.forall_mem_cons.mpr ⟨hi _ (List.mem_of_getElem? hj), hs⟩)
  have hg := lv_at hl j (tvl_at hj)
  rw [List.map_cons, ha] at kk
  rw [ha] at hg
  exact lv_aload C.1 C.2.1 d hg kk
theorem s_istore_n {q : Fin 4} {x : Int} {ls' : List (Nat × PV)} (d : decode μ.2.1 pc = .ok (.istore_n q, 1)) (hq : ((q : Nat) < μ.2.2.1)) (hl' : setL ls (q : Nat) (0, x) = ls') (k : At μ δ ρ sh (pc + 1) ls' st w) : At μ δ ρ sh pc ls ((0, x) :: st) w := by
  obtain ⟨⟨p, l, e, R, s⟩, ⟨m, args, below, meth, c⟩, ⟨g, ad0, sh0⟩, Q⟩ := ρ
  intro C ad H locs lsa h1 h2 h3 hr hl hi hs
  subst hl'
  obtain ⟨hx, hs⟩ := List.forall_mem_cons.mp hs
  exact lv_istore_n C.1 C.2.1 d rfl hl hq rfl (fun lsb hb => k C ad H locs lsb h1 h2 h3 hr (has_set1 (v := (0, x)) Nat.zero_ne_one hb) (setL_in hi hx) hs)
theorem s_istore {i : Nat} {x : Int} {ls' : List (Nat × PV)} (d : decode μ.2.1 pc = .ok (.istore i, 2)) (hq : (i < μ.2.2.1)) (hl' : setL ls i (0, x) = ls') (k : At μ δ ρ sh (pc + 2) ls' st w) : At μ δ ρ sh pc ls ((0, x) :: st) w := by
  obtain ⟨⟨p, l, e, R, s⟩, ⟨m, args, below, meth, c⟩, ⟨g, ad0, sh0⟩, Q⟩ := ρ
  intro C ad H locs lsa h1 h2 h3 hr hl hi hs
  subst hl'
  obtain ⟨hx, hs⟩ := List.forall_mem_cons.mp hs
  exact lv_istore C.1 C.2.1 d hl hq rfl (fun lsb hb => k C ad H locs lsb h1 h2 h3 hr (has_set1 (v := (0, x)) Nat.zero_ne_one hb) (setL_in hi hx) hs)
theorem s_lstore_n {q : Fin 4} {x : Int} {ls' : List (Nat × PV)} (d : decode μ.2.1 pc = .ok (.lstore_n q, 1)) (hq : ((q : Nat) + 1 < μ.2.2.1)) (hl' : setL ls (q : Nat) (1, x) = ls') (k : At μ δ ρ sh (pc + 1) ls' st w) : At μ δ ρ sh pc ls ((1, x) :: st) w := by
  obtain ⟨⟨p, l, e, R, s⟩, ⟨m, args, below, meth, c⟩, ⟨g, ad0, sh0⟩, Q⟩ := ρ
  intro C ad H locs lsa h1 h2 h3 hr hl hi hs
  subst hl'
  obtain ⟨hx, hs⟩ := List.forall_mem_cons.mp hs
  exact lv_lstore_n C.1 C.2.1 d rfl hl hq rfl (fun lsb hb => k C ad H locs lsb h1 h2 h3 hr (has_set2 (v := (1, x)) rfl hb) (setL_in hi hx) hs)
theorem s_lstore {i : Nat} {x : Int} {ls' : List (Nat × PV)} (d : decode μ.2.1 pc = .ok (.lstore i, 2)) (hq : (i + 1 < μ.2.2.1)) (hl' : setL ls i (1, x) = ls') (k : At μ δ ρ sh (pc + 2) ls' st w) : At μ δ ρ sh pc ls ((1, x) :: st) w := by
  obtain ⟨⟨p, l, e, R, s⟩, ⟨m, args, below, meth, c⟩, ⟨g, ad0, sh0⟩, Q⟩ := ρ
  intro C ad H locs lsa h1 h2 h3 hr hl hi hs
  subst hl'
  obtain ⟨hx, hs⟩ := List.forall_mem_cons.mp hs
  exact lv_lstore C.1 C.2.1 d hl hq rfl (fun lsb hb => k C ad H locs lsb h1 h2 h3 hr (has_set2 (v := (1, x)) rfl hb) (setL_in hi hx) hs)
theorem s_astore_n {q : Fin 4} {v : PV} {ls' : List (Nat × PV)} (d : decode μ.2.1 pc = .ok (.astore_n q, 1)) (hq : ((q : Nat) < μ.2.2.1)) (hv : refb v = true) (hl' : setL ls (q : Nat) v = ls') (k : At μ δ ρ sh (pc + 1) ls' st w) : At μ δ ρ sh pc ls (v :: st) w := by
  obtain ⟨⟨p, l, e, R, s⟩, ⟨m, args, below, meth, c⟩, ⟨g, ad0, sh0⟩, Q⟩ := ρ
  intro C ad H locs lsa h1 h2 h3 hr hl hi hs
  subst hl'
  obtain ⟨hx, hs⟩ := List.forall_mem_cons.mp hs
  obtain ⟨a, ha⟩ := refb_ref (g := g) (ad := ad) hv
  have h1v : v.1 ≠ 1 := fun z => by unfold refb at hv; rw [z] at hv; cases hv
  rw [List.map_cons, ha]
  exact lv_astore_n C.1 C.2.1 d rfl hl hq rfl (fun lsb hb => k C ad H locs lsb h1 h2 h3 hr (has_set1 h1v (ha ▸ hb)) (setL_in hi hx) hs)
theorem s_iinc {i : Nat} {n x z : Int} {ls' : List (Nat × PV)} (d : decode μ.2.1 pc = .ok (.iinc i n, 3)) (j : Nat) (hj : ls[j]? = some (i, (0, x))) (hq : (i < μ.2.2.1)) (hz : wr (x + n) = z) (hl' : setL ls i (0, z) = ls') (k : At μ δ ρ sh (pc + 3) ls' st w) : At μ δ ρ sh pc ls st w := by
  obtain ⟨⟨p, l, e, R, s⟩, ⟨m, args, below, meth, c⟩, ⟨g, ad0, sh0⟩, Q⟩ := ρ
  intro C ad H locs lsa h1 h2 h3 hr hl hi hs
  subst hl'
  subst hz
  exact lv_iinc C.1 C.2.1 d hl (v := Int32.ofInt (wr (x + n))) (tvl_at hj) (by rw [← i32_add]) hq rfl (fun lsb hb => k C ad H locs lsb h1 h2 h3 hr (has_set1 (v := (0, wr (x + n))) Nat.zero_ne_one hb) (setL_in hi (wr_in _)) hs)
theorem s_iadd {x y : Int} (d : decode μ.2.1 pc = .ok (.iadd, 1)) (k : At μ δ ρ sh (pc + 1) ls ((0, wr (x + y)) :: st) w) : At μ δ ρ sh pc ls ((0, y) :: (0, x) :: st) w := by
  obtain ⟨⟨p, l, e, R, s⟩, ⟨m, args, below, meth, c⟩, ⟨g, ad0, sh0⟩, Q⟩ := ρ
  intro C ad H locs lsa h1 h2 h3 hr hl hi hs
  simp only [List.forall_mem_cons] at hs
  have kk := k C ad H locs lsa h1 h2 h3 hr hl hi (List.forall_mem_cons.mpr ⟨wr_in _, hs.2.2⟩)
  refine lv_iadd C.1 C.2.1 d ?_
  rw [i32_add]
  exact kk
theorem s_isub {x y : Int} (d : decode μ.2.1 pc = .ok (.isub, 1)) (k : At μ δ ρ sh (pc + 1) ls ((0, wr (x - y)) :: st) w) : At μ δ ρ sh pc ls ((0, y) :: (0, x) :: st) w := by
  obtain ⟨⟨p, l, e, R, s⟩, ⟨m, args, below, meth, c⟩, ⟨g, ad0, sh0⟩, Q⟩ := ρ
  intro C ad H locs lsa h1 h2 h3 hr hl hi hs
  simp only [List.forall_mem_cons] at hs
  have kk := k C ad H locs lsa h1 h2 h3 hr hl hi (List.forall_mem_cons.mpr ⟨wr_in _, hs.2.2⟩)
  refine lv_isub C.1 C.2.1 d ?_
  rw [i32_sub]
  exact kk
theorem s_imul {x y : Int} (d : decode μ.2.1 pc = .ok (.imul, 1)) (k : At μ δ ρ sh (pc + 1) ls ((0, wr (x * y)) :: st) w) : At μ δ ρ sh pc ls ((0, y) :: (0, x) :: st) w := by
  obtain ⟨⟨p, l, e, R, s⟩, ⟨m, args, below, meth, c⟩, ⟨g, ad0, sh0⟩, Q⟩ := ρ
  intro C ad H locs lsa h1 h2 h3 hr hl hi hs
  simp only [List.forall_mem_cons] at hs
  have kk := k C ad H locs lsa h1 h2 h3 hr hl hi (List.forall_mem_cons.mpr ⟨wr_in _, hs.2.2⟩)
  refine lv_imul C.1 C.2.1 d ?_
  rw [i32_mul hs.2.1 hs.1]
  exact kk
theorem s_idiv {x y : Int} (d : decode μ.2.1 pc = .ok (.idiv, 1)) (h0 : y ≠ 0) (k : At μ δ ρ sh (pc + 1) ls ((0, wr (x.tdiv y)) :: st) w) : At μ δ ρ sh pc ls ((0, y) :: (0, x) :: st) w := by
  obtain ⟨⟨p, l, e, R, s⟩, ⟨m, args, below, meth, c⟩, ⟨g, ad0, sh0⟩, Q⟩ := ρ
  intro C ad H locs lsa h1 h2 h3 hr hl hi hs
  simp only [List.forall_mem_cons] at hs
  have kk := k C ad H locs lsa h1 h2 h3 hr hl hi (List.forall_mem_cons.mpr ⟨wr_in _, hs.2.2⟩)
  refine lv_idiv C.1 C.2.1 d (fun z => h0 ?_) ?_
  · rw [i32_zero] at z
    exact (i32_eq hs.1 InI_0).mp z
  · rw [i32_div hs.2.1 hs.1]
    exact kk
theorem s_irem {x y : Int} (d : decode μ.2.1 pc = .ok (.irem, 1)) (hx : 0 ≤ x) (h0 : 0 < y) (k : At μ δ ρ sh (pc + 1) ls ((0, x % y) :: st) w) : At μ δ ρ sh pc ls ((0, y) :: (0, x) :: st) w := by
  obtain ⟨⟨p, l, e, R, s⟩, ⟨m, args, below, meth, c⟩, ⟨g, ad0, sh0⟩, Q⟩ := ρ
  intro C ad H locs lsa h1 h2 h3 hr hl hi hs
  simp only [List.forall_mem_cons] at hs
  obtain ⟨hy1, hx1, hs⟩ := hs
  have hb1 := Int.emod_nonneg x (by omega : y ≠ 0)
  have hb2 := Int.emod_lt_of_pos x h0
  have hyI : InI y := hy1
  have hxI : InI x := hx1
  have kk := k C ad H locs lsa h1 h2 h3 hr hl hi (List.forall_mem_cons.mpr ⟨⟨by show -2147483648 ≤ x % y; omega, by show x % y < 2147483648; have := hyI.2; omega⟩, hs⟩)
  refine lv_irem C.1 C.2.1 d (fun z => ?_) ?_
  · rw [i32_zero] at z
    have := (i32_eq hyI InI_0).mp z
    omega
  · have hd : x.tdiv y = x / y := Int.tdiv_eq_ediv_of_nonneg hx
    have hq : InI (x / y) := by
      have h5 := Int.ediv_nonneg hx (by omega : 0 ≤ y)
      have h6 := Int.ediv_le_self y hx
      exact ⟨by omega, by have := hxI.2; omega⟩
    have em := Int.mul_ediv_add_emod x y
    rw [i32_div hxI hyI, hd, wr_id hq.1 hq.2, i32_mul hq hyI, i32_sub]
    have e : wr (x - wr (x / y * y)) = x % y := by
      have h7 : x / y * y = x - x % y := by rw [Int.mul_comm]; omega
      have b1 := hxI.2
      have b2 := hyI.2
      have b3 : x - (x - x % y) = x % y := by omega
      rw [h7, wr_id (z := x - x % y) (by omega) (by omega), b3, wr_id (by omega) (by omega)]
    rw [e]
    exact kk
theorem s_ineg {x : Int} (d : decode μ.2.1 pc = .ok (.ineg, 1)) (k : At μ δ ρ sh (pc + 1) ls ((0, wr (-x)) :: st) w) : At μ δ ρ sh pc ls ((0, x) :: st) w := by
  obtain ⟨⟨p, l, e, R, s⟩, ⟨m, args, below, meth, c⟩, ⟨g, ad0, sh0⟩, Q⟩ := ρ
  intro C ad H locs lsa h1 h2 h3 hr hl hi hs
  simp only [List.forall_mem_cons] at hs
  have kk := k C ad H locs lsa h1 h2 h3 hr hl hi (List.forall_mem_cons.mpr ⟨wr_in _, hs.2⟩)
  refine lv_ineg C.1 C.2.1 d ?_
  rw [i32_neg]
  exact kk
theorem s_iand {x y : Int} (d : decode μ.2.1 pc = .ok (.iand, 1)) (k : At μ δ ρ sh (pc + 1) ls ((0, iand x y) :: st) w) : At μ δ ρ sh pc ls ((0, y) :: (0, x) :: st) w := by
  obtain ⟨⟨p, l, e, R, s⟩, ⟨m, args, below, meth, c⟩, ⟨g, ad0, sh0⟩, Q⟩ := ρ
  intro C ad H locs lsa h1 h2 h3 hr hl hi hs
  simp only [List.forall_mem_cons] at hs
  have kk := k C ad H locs lsa h1 h2 h3 hr hl hi (List.forall_mem_cons.mpr ⟨toInt_InI _, hs.2.2⟩)
  refine lv_iand C.1 C.2.1 d ?_
  rw [← ofInt_toInt (Int32.ofInt x &&& Int32.ofInt y)]
  exact kk
theorem s_ior {x y : Int} (d : decode μ.2.1 pc = .ok (.ior, 1)) (k : At μ δ ρ sh (pc + 1) ls ((0, ior x y) :: st) w) : At μ δ ρ sh pc ls ((0, y) :: (0, x) :: st) w := by
  obtain ⟨⟨p, l, e, R, s⟩, ⟨m, args, below, meth, c⟩, ⟨g, ad0, sh0⟩, Q⟩ := ρ
  intro C ad H locs lsa h1 h2 h3 hr hl hi hs
  simp only [List.forall_mem_cons] at hs
  have kk := k C ad H locs lsa h1 h2 h3 hr hl hi (List.forall_mem_cons.mpr ⟨toInt_InI _, hs.2.2⟩)
  refine lv_ior C.1 C.2.1 d ?_
  rw [← ofInt_toInt (Int32.ofInt x ||| Int32.ofInt y)]
  exact kk
theorem s_ixor {x y : Int} (d : decode μ.2.1 pc = .ok (.ixor, 1)) (k : At μ δ ρ sh (pc + 1) ls ((0, ixor x y) :: st) w) : At μ δ ρ sh pc ls ((0, y) :: (0, x) :: st) w := by
  obtain ⟨⟨p, l, e, R, s⟩, ⟨m, args, below, meth, c⟩, ⟨g, ad0, sh0⟩, Q⟩ := ρ
  intro C ad H locs lsa h1 h2 h3 hr hl hi hs
  simp only [List.forall_mem_cons] at hs
  have kk := k C ad H locs lsa h1 h2 h3 hr hl hi (List.forall_mem_cons.mpr ⟨toInt_InI _, hs.2.2⟩)
  refine lv_ixor C.1 C.2.1 d ?_
  rw [← ofInt_toInt (Int32.ofInt x ^^^ Int32.ofInt y)]
  exact kk
theorem s_ishl {x y : Int} (d : decode μ.2.1 pc = .ok (.ishl, 1)) (k : At μ δ ρ sh (pc + 1) ls ((0, ishl x y) :: st) w) : At μ δ ρ sh pc ls ((0, y) :: (0, x) :: st) w := by
  obtain ⟨⟨p, l, e, R, s⟩, ⟨m, args, below, meth, c⟩, ⟨g, ad0, sh0⟩, Q⟩ := ρ
  intro C ad H locs lsa h1 h2 h3 hr hl hi hs
  simp only [List.forall_mem_cons] at hs
  have kk := k C ad H locs lsa h1 h2 h3 hr hl hi (List.forall_mem_cons.mpr ⟨toInt_InI _, hs.2.2⟩)
  refine lv_ishl C.1 C.2.1 d ?_
  rw [← ofInt_toInt (Int32.ofInt x <<< (Int32.ofInt y &&& 31))]
  exact kk
theorem s_ishr {x y : Int} (d : decode μ.2.1 pc = .ok (.ishr, 1)) (k : At μ δ ρ sh (pc + 1) ls ((0, ishr x y) :: st) w) : At μ δ ρ sh pc ls ((0, y) :: (0, x) :: st) w := by
  obtain ⟨⟨p, l, e, R, s⟩, ⟨m, args, below, meth, c⟩, ⟨g, ad0, sh0⟩, Q⟩ := ρ
  intro C ad H locs lsa h1 h2 h3 hr hl hi hs
  simp only [List.forall_mem_cons] at hs
  have kk := k C ad H locs lsa h1 h2 h3 hr hl hi (List.forall_mem_cons.mpr ⟨toInt_InI _, hs.2.2⟩)
  refine lv_ishr C.1 C.2.1 d ?_
  rw [← ofInt_toInt (Int32.ofInt x >>> (Int32.ofInt y &&& 31))]
  exact kk
theorem s_iushr {x y : Int} (d : decode μ.2.1 pc = .ok (.iushr, 1)) (k : At μ δ ρ sh (pc + 1) ls ((0, iushr x y) :: st) w) : At μ δ ρ sh pc ls ((0, y) :: (0, x) :: st) w := by
  obtain ⟨⟨p, l, e, R, s⟩, ⟨m, args, below, meth, c⟩, ⟨g, ad0, sh0⟩, Q⟩ := ρ
  intro C ad H locs lsa h1 h2 h3 hr hl hi hs
  simp only [List.forall_mem_cons] at hs
  have kk := k C ad H locs lsa h1 h2 h3 hr hl hi (List.forall_mem_cons.mpr ⟨toInt_InI _, hs.2.2⟩)
  refine lv_iushr C.1 C.2.1 d rfl ?_
  rw [← ofInt_toInt ((Int32.ofInt x).toUInt32 >>> ((Int32.ofInt y).toUInt32 &&& Int32.toUInt32 31)).toInt32]
  exact kk
theorem s_i2c {x : Int} (d : decode μ.2.1 pc = .ok (.i2c, 1)) (k : At μ δ ρ sh (pc + 1) ls ((0, i2c x) :: st) w) : At μ δ ρ sh pc ls ((0, x) :: st) w := by
  obtain ⟨⟨p, l, e, R, s⟩, ⟨m, args, below, meth, c⟩, ⟨g, ad0, sh0⟩, Q⟩ := ρ
  intro C ad H locs lsa h1 h2 h3 hr hl hi hs
  simp only [List.forall_mem_cons] at hs
  have kk := k C ad H locs lsa h1 h2 h3 hr hl hi (List.forall_mem_cons.mpr ⟨toInt_InI _, hs.2⟩)
  refine lv_i2c C.1 C.2.1 d rfl ?_
  rw [← ofInt_toInt ((Int32.ofInt x).toUInt32 % 65536).toInt32]
  exact kk
theorem s_i2l {x : Int} (d : decode μ.2.1 pc = .ok (.i2l, 1)) (k : At μ δ ρ sh (pc + 1) ls ((1, x) :: st) w) : At μ δ ρ sh pc ls ((0, x) :: st) w := by
  obtain ⟨⟨p, l, e, R, s⟩, ⟨m, args, below, meth, c⟩, ⟨g, ad0, sh0⟩, Q⟩ := ρ
  intro C ad H locs lsa h1 h2 h3 hr hl hi hs
  simp only [List.forall_mem_cons] at hs
  exact lv_i2l C.1 C.2.1 d (i32_i2l hs.1) (k C ad H locs lsa h1 h2 h3 hr hl hi (List.forall_mem_cons.mpr ⟨InI_L hs.1, hs.2⟩))
theorem s_ladd {x y : Int} (d : decode μ.2.1 pc = .ok (.ladd, 1)) (k : At μ δ ρ sh (pc + 1) ls ((1, wrL (x + y)) :: st) w) : At μ δ ρ sh pc ls ((1, y) :: (1, x) :: st) w := by
  obtain ⟨⟨p, l, e, R, s⟩, ⟨m, args, below, meth, c⟩, ⟨g, ad0, sh0⟩, Q⟩ := ρ
  intro C ad H locs lsa h1 h2 h3 hr hl hi hs
  simp only [List.forall_mem_cons] at hs
  have kk := k C ad H locs lsa h1 h2 h3 hr hl hi (List.forall_mem_cons.mpr ⟨wrL_in _, hs.2.2⟩)
  refine lv_ladd C.1 C.2.1 d ?_
  rw [i64_add]
  exact kk
theorem s_lsub {x y : Int} (d : decode μ.2.1 pc = .ok (.lsub, 1)) (k : At μ δ ρ sh (pc + 1) ls ((1, wrL (x - y)) :: st) w) : At μ δ ρ sh pc ls ((1, y) :: (1, x) :: st) w := by
  obtain ⟨⟨p, l, e, R, s⟩, ⟨m, args, below, meth, c⟩, ⟨g, ad0, sh0⟩, Q⟩ := ρ
  intro C ad H locs lsa h1 h2 h3 hr hl hi hs
  simp only [List.forall_mem_cons] at hs
  have kk := k C ad H locs lsa h1 h2 h3 hr hl hi (List.forall_mem_cons.mpr ⟨wrL_in _, hs.2.2⟩)
  refine lv_lsub C.1 C.2.1 d ?_
  rw [i64_sub]
  exact kk
theorem s_lmul {x y : Int} (d : decode μ.2.1 pc = .ok (.lmul, 1)) (k : At μ δ ρ sh (pc + 1) ls ((1, wrL (x * y)) :: st) w) : At μ δ ρ sh pc ls ((1, y) :: (1, x) :: st) w := by
  obtain ⟨⟨p, l, e, R, s⟩, ⟨m, args, below, meth, c⟩, ⟨g, ad0, sh0⟩, Q⟩ := ρ
  intro C ad H locs lsa h1 h2 h3 hr hl hi hs
  simp only [List.forall_mem_cons] at hs
  have kk := k C ad H locs lsa h1 h2 h3 hr hl hi (List.forall_mem_cons.mpr ⟨wrL_in _, hs.2.2⟩)
  refine lv_lmul C.1 C.2.1 d ?_
  rw [i64_mul hs.2.1 hs.1]
  exact kk
theorem s_ldiv {x y : Int} (d : decode μ.2.1 pc = .ok (.ldiv, 1)) (h0 : y ≠ 0) (k : At μ δ ρ sh (pc + 1) ls ((1, wrL (x.tdiv y)) :: st) w) : At μ δ ρ sh pc ls ((1, y) :: (1, x) :: st) w := by
  obtain ⟨⟨p, l, e, R, s⟩, ⟨m, args, below, meth, c⟩, ⟨g, ad0, sh0⟩, Q⟩ := ρ
  intro C ad H locs lsa h1 h2 h3 hr hl hi hs
  simp only [List.forall_mem_cons] at hs
  have kk := k C ad H locs lsa h1 h2 h3 hr hl hi (List.forall_mem_cons.mpr ⟨wrL_in _, hs.2.2⟩)
  refine lv_ldiv C.1 C.2.1 d (fun z => h0 ?_) ?_
  · rw [i64_zero] at z
    exact (i64_eq hs.1 (InI_L InI_0)).mp z
  · rw [i64_div hs.2.1 hs.1]
    exact kk
theorem s_dup {v : PV} (d : decode μ.2.1 pc = .ok (.dup, 1)) (hv : v.1 ≠ 1) (k : At μ δ ρ sh (pc + 1) ls (v :: v :: st) w) : At μ δ ρ sh pc ls (v :: st) w := by
  obtain ⟨⟨p, l, e, R, s⟩, ⟨m, args, below, meth, c⟩, ⟨g, ad0, sh0⟩, Q⟩ := ρ
  intro C ad H locs lsa h1 h2 h3 hr hl hi hs
  exact lv_dup C.1 C.2.1 d (by rw [tv_cat, if_neg hv]) (k C ad H locs lsa h1 h2 h3 hr hl hi (List.forall_mem_cons.mpr ⟨hs v List.mem_cons_self, hs⟩))
theorem s_pop {v : PV} (d : decode μ.2.1 pc = .ok (.pop, 1)) (hv : v.1 ≠ 1) (k : At μ δ ρ sh (pc + 1) ls st w) : At μ δ ρ sh pc ls (v :: st) w := by
  obtain ⟨⟨p, l, e, R, s⟩, ⟨m, args, below, meth, c⟩, ⟨g, ad0, sh0⟩, Q⟩ := ρ
  intro C ad H locs lsa h1 h2 h3 hr hl hi hs
  exact lv_pop C.1 C.2.1 d (by rw [tv_cat, if_neg hv]) (k C ad H locs lsa h1 h2 h3 hr hl hi (List.forall_mem_cons.mp hs).2)
theorem s_dup2 {v u : PV} (d : decode μ.2.1 pc = .ok (.dup2, 1)) (hv : v.1 ≠ 1) (hu : u.1 ≠ 1) (k : At μ δ ρ sh (pc + 1) ls (v :: u :: v :: u :: st) w) : At μ δ ρ sh pc ls (v :: u :: st) w := by
  obtain ⟨⟨p, l, e, R, s⟩, ⟨m, args, below, meth, c⟩, ⟨g, ad0, sh0⟩, Q⟩ := ρ
  intro C ad H locs lsa h1 h2 h3 hr hl hi hs
  have hs2 := hs
  simp only [List.forall_mem_cons] at hs2
  exact lv_dup2_11 C.1 C.2.1 d (by rw [tv_cat, if_neg hv]) (by rw [tv_cat, if_neg hu]) (k C ad H locs lsa h1 h2 h3 hr hl hi (List.forall_mem_cons.mpr ⟨hs2.1, List.forall_mem_cons.mpr ⟨hs2.2.1, hs⟩⟩))
theorem s_goto {off : Int} (tgt : Nat) (d : decode μ.2.1 pc = .ok (.goto off, 3)) (ht : (pc : Int) + off = (tgt : Int)) (k : At μ δ ρ sh tgt ls st w) : At μ δ ρ sh pc ls st w := by
  obtain ⟨⟨p, l, e, R, s⟩, ⟨m, args, below, meth, c⟩, ⟨g, ad0, sh0⟩, Q⟩ := ρ
  intro C ad H locs lsa h1 h2 h3 hr hl hi hs
  exact lv_goto C.1 C.2.1 d ht (k C ad H locs lsa h1 h2 h3 hr hl hi hs)
end STEPS
