/-! BRANCHES, SWITCHES, THE HEAP. -/
section BRS
variable {μ : Mu} {δ : De} {ρ : Rh} {sh : List Sh} {pc : Nat} {ls : List (Nat × PV)} {st : List PV} {w : Wd}
theorem i32_eq0 {x : Int} (h : InI x) : Int32.ofInt x = 0 ↔ x = 0 := by rw [i32_zero]; exact i32_eq h InI_0
theorem i32_lt0 {x : Int} (h : InI x) : Int32.ofInt x < 0 ↔ x < 0 := by rw [i32_zero]; exact i32_lt h InI_0
theorem i32_gt0 {x : Int} (h : InI x) : 0 < Int32.ofInt x ↔ 0 < x := by rw [i32_zero]; exact i32_lt InI_0 h
theorem i32_ge0 {x : Int} (h : InI x) : 0 ≤ Int32.ofInt x ↔ 0 ≤ x := by rw [i32_zero]; exact i32_le InI_0 h
theorem i32_le0 {x : Int} (h : InI x) : Int32.ofInt x ≤ 0 ↔ x ≤ 0 := by rw [i32_zero]; exact i32_le h InI_0
theorem s_if_eq {x : Int} {off : Int} (tgt : Nat) (d : decode μ.2.1 pc = .ok (.ifCond .eq off, 3)) (ht : (pc : Int) + off = (tgt : Int)) (kt : x = 0 → At μ δ ρ sh tgt ls st w) (kf : ¬ (x = 0) → At μ δ ρ sh (pc + 3) ls st w) : At μ δ ρ sh pc ls ((0, x) :: st) w := by
  obtain ⟨⟨p, l, e, R, s⟩, ⟨m, args, below, meth, c⟩, ⟨g, ad0, sh0⟩, Q⟩ := ρ
  intro C ad H locs lsa h1 h2 h3 hr hl hi hs
  simp only [List.forall_mem_cons] at hs
  have hx : InI x := hs.1
  exact lv_if_eq C.1 C.2.1 d ht (fun z => kt ((i32_eq0 hx).mp z) C ad H locs lsa h1 h2 h3 hr hl hi hs.2) (fun z => kf (fun q => z ((i32_eq0 hx).mpr q)) C ad H locs lsa h1 h2 h3 hr hl hi hs.2)
theorem s_icmp_eq {x y : Int} {off : Int} (tgt : Nat) (d : decode μ.2.1 pc = .ok (.if_icmp .eq off, 3)) (ht : (pc : Int) + off = (tgt : Int)) (kt : x = y → At μ δ ρ sh tgt ls st w) (kf : ¬ (x = y) → At μ δ ρ sh (pc + 3) ls st w) : At μ δ ρ sh pc ls ((0, y) :: (0, x) :: st) w := by
  obtain ⟨⟨p, l, e, R, s⟩, ⟨m, args, below, meth, c⟩, ⟨g, ad0, sh0⟩, Q⟩ := ρ
  intro C ad H locs lsa h1 h2 h3 hr hl hi hs
  simp only [List.forall_mem_cons] at hs
  have hy : InI y := hs.1
  have hx : InI x := hs.2.1
  exact lv_icmp_eq C.1 C.2.1 d ht (fun z => kt ((i32_eq hx hy).mp z) C ad H locs lsa h1 h2 h3 hr hl hi hs.2.2) (fun z => kf (fun q => z ((i32_eq hx hy).mpr q)) C ad H locs lsa h1 h2 h3 hr hl hi hs.2.2)
theorem s_if_ne {x : Int} {off : Int} (tgt : Nat) (d : decode μ.2.1 pc = .ok (.ifCond .ne off, 3)) (ht : (pc : Int) + off = (tgt : Int)) (kt : x ≠ 0 → At μ δ ρ sh tgt ls st w) (kf : ¬ (x ≠ 0) → At μ δ ρ sh (pc + 3) ls st w) : At μ δ ρ sh pc ls ((0, x) :: st) w := by
  obtain ⟨⟨p, l, e, R, s⟩, ⟨m, args, below, meth, c⟩, ⟨g, ad0, sh0⟩, Q⟩ := ρ
  intro C ad H locs lsa h1 h2 h3 hr hl hi hs
  simp only [List.forall_mem_cons] at hs
  have hx : InI x := hs.1
  exact lv_if_ne C.1 C.2.1 d ht (fun z => kt (fun q => z ((i32_eq0 hx).mpr q)) C ad H locs lsa h1 h2 h3 hr hl hi hs.2) (fun z => kf (fun q => q ((i32_eq0 hx).mp z)) C ad H locs lsa h1 h2 h3 hr hl hi hs.2)
theorem s_icmp_ne {x y : Int} {off : Int} (tgt : Nat) (d : decode μ.2.1 pc = .ok (.if_icmp .ne off, 3)) (ht : (pc : Int) + off = (tgt : Int)) (kt : x ≠ y → At μ δ ρ sh tgt ls st w) (kf : ¬ (x ≠ y) → At μ δ ρ sh (pc + 3) ls st w) : At μ δ ρ sh pc ls ((0, y) :: (0, x) :: st) w := by
  obtain ⟨⟨p, l, e, R, s⟩, ⟨m, args, below, meth, c⟩, ⟨g, ad0, sh0⟩, Q⟩ := ρ
  intro C ad H locs lsa h1 h2 h3 hr hl hi hs
  simp only [List.forall_mem_cons] at hs
  have hy : InI y := hs.1
  have hx : InI x := hs.2.1
  exact lv_icmp_ne C.1 C.2.1 d ht (fun z => kt (fun q => z ((i32_eq hx hy).mpr q)) C ad H locs lsa h1 h2 h3 hr hl hi hs.2.2) (fun z => kf (fun q => q ((i32_eq hx hy).mp z)) C ad H locs lsa h1 h2 h3 hr hl hi hs.2.2)
theorem s_if_lt {x : Int} {off : Int} (tgt : Nat) (d : decode μ.2.1 pc = .ok (.ifCond .lt off, 3)) (ht : (pc : Int) + off = (tgt : Int)) (kt : x < 0 → At μ δ ρ sh tgt ls st w) (kf : ¬ (x < 0) → At μ δ ρ sh (pc + 3) ls st w) : At μ δ ρ sh pc ls ((0, x) :: st) w := by
  obtain ⟨⟨p, l, e, R, s⟩, ⟨m, args, below, meth, c⟩, ⟨g, ad0, sh0⟩, Q⟩ := ρ
  intro C ad H locs lsa h1 h2 h3 hr hl hi hs
  simp only [List.forall_mem_cons] at hs
  have hx : InI x := hs.1
  exact lv_if_lt C.1 C.2.1 d ht (fun z => kt ((i32_lt0 hx).mp z) C ad H locs lsa h1 h2 h3 hr hl hi hs.2) (fun z => kf (fun q => z ((i32_lt0 hx).mpr q)) C ad H locs lsa h1 h2 h3 hr hl hi hs.2)
theorem s_icmp_lt {x y : Int} {off : Int} (tgt : Nat) (d : decode μ.2.1 pc = .ok (.if_icmp .lt off, 3)) (ht : (pc : Int) + off = (tgt : Int)) (kt : x < y → At μ δ ρ sh tgt ls st w) (kf : ¬ (x < y) → At μ δ ρ sh (pc + 3) ls st w) : At μ δ ρ sh pc ls ((0, y) :: (0, x) :: st) w := by
  obtain ⟨⟨p, l, e, R, s⟩, ⟨m, args, below, meth, c⟩, ⟨g, ad0, sh0⟩, Q⟩ := ρ
  intro C ad H locs lsa h1 h2 h3 hr hl hi hs
  simp only [List.forall_mem_cons] at hs
  have hy : InI y := hs.1
  have hx : InI x := hs.2.1
  exact lv_icmp_lt C.1 C.2.1 d ht (fun z => kt ((i32_lt hx hy).mp z) C ad H locs lsa h1 h2 h3 hr hl hi hs.2.2) (fun z => kf (fun q => z ((i32_lt hx hy).mpr q)) C ad H locs lsa h1 h2 h3 hr hl hi hs.2.2)
theorem s_if_ge {x : Int} {off : Int} (tgt : Nat) (d : decode μ.2.1 pc = .ok (.ifCond .ge off, 3)) (ht : (pc : Int) + off = (tgt : Int)) (kt : 0 ≤ x → At μ δ ρ sh tgt ls st w) (kf : ¬ (0 ≤ x) → At μ δ ρ sh (pc + 3) ls st w) : At μ δ ρ sh pc ls ((0, x) :: st) w := by
  obtain ⟨⟨p, l, e, R, s⟩, ⟨m, args, below, meth, c⟩, ⟨g, ad0, sh0⟩, Q⟩ := ρ
  intro C ad H locs lsa h1 h2 h3 hr hl hi hs
  simp only [List.forall_mem_cons] at hs
  have hx : InI x := hs.1
  exact lv_if_ge C.1 C.2.1 d ht (fun z => kt ((i32_ge0 hx).mp z) C ad H locs lsa h1 h2 h3 hr hl hi hs.2) (fun z => kf (fun q => z ((i32_ge0 hx).mpr q)) C ad H locs lsa h1 h2 h3 hr hl hi hs.2)
theorem s_icmp_ge {x y : Int} {off : Int} (tgt : Nat) (d : decode μ.2.1 pc = .ok (.if_icmp .ge off, 3)) (ht : (pc : Int) + off = (tgt : Int)) (kt : y ≤ x → At μ δ ρ sh tgt ls st w) (kf : ¬ (y ≤ x) → At μ δ ρ sh (pc + 3) ls st w) : At μ δ ρ sh pc ls ((0, y) :: (0, x) :: st) w := by
  obtain ⟨⟨p, l, e, R, s⟩, ⟨m, args, below, meth, c⟩, ⟨g, ad0, sh0⟩, Q⟩ := ρ
  intro C ad H locs lsa h1 h2 h3 hr hl hi hs
  simp only [List.forall_mem_cons] at hs
  have hy : InI y := hs.1
  have hx : InI x := hs.2.1
  exact lv_icmp_ge C.1 C.2.1 d ht (fun z => kt ((i32_le hy hx).mp z) C ad H locs lsa h1 h2 h3 hr hl hi hs.2.2) (fun z => kf (fun q => z ((i32_le hy hx).mpr q)) C ad H locs lsa h1 h2 h3 hr hl hi hs.2.2)
theorem s_if_gt {x : Int} {off : Int} (tgt : Nat) (d : decode μ.2.1 pc = .ok (.ifCond .gt off, 3)) (ht : (pc : Int) + off = (tgt : Int)) (kt : 0 < x → At μ δ ρ sh tgt ls st w) (kf : ¬ (0 < x) → At μ δ ρ sh (pc + 3) ls st w) : At μ δ ρ sh pc ls ((0, x) :: st) w := by
  obtain ⟨⟨p, l, e, R, s⟩, ⟨m, args, below, meth, c⟩, ⟨g, ad0, sh0⟩, Q⟩ := ρ
  intro C ad H locs lsa h1 h2 h3 hr hl hi hs
  simp only [List.forall_mem_cons] at hs
  have hx : InI x := hs.1
  exact lv_if_gt C.1 C.2.1 d ht (fun z => kt ((i32_gt0 hx).mp z) C ad H locs lsa h1 h2 h3 hr hl hi hs.2) (fun z => kf (fun q => z ((i32_gt0 hx).mpr q)) C ad H locs lsa h1 h2 h3 hr hl hi hs.2)
theorem s_icmp_gt {x y : Int} {off : Int} (tgt : Nat) (d : decode μ.2.1 pc = .ok (.if_icmp .gt off, 3)) (ht : (pc : Int) + off = (tgt : Int)) (kt : y < x → At μ δ ρ sh tgt ls st w) (kf : ¬ (y < x) → At μ δ ρ sh (pc + 3) ls st w) : At μ δ ρ sh pc ls ((0, y) :: (0, x) :: st) w := by
  obtain ⟨⟨p, l, e, R, s⟩, ⟨m, args, below, meth, c⟩, ⟨g, ad0, sh0⟩, Q⟩ := ρ
  intro C ad H locs lsa h1 h2 h3 hr hl hi hs
  simp only [List.forall_mem_cons] at hs
  have hy : InI y := hs.1
  have hx : InI x := hs.2.1
  exact lv_icmp_gt C.1 C.2.1 d ht (fun z => kt ((i32_lt hy hx).mp z) C ad H locs lsa h1 h2 h3 hr hl hi hs.2.2) (fun z => kf (fun q => z ((i32_lt hy hx).mpr q)) C ad H locs lsa h1 h2 h3 hr hl hi hs.2.2)
theorem s_if_le {x : Int} {off : Int} (tgt : Nat) (d : decode μ.2.1 pc = .ok (.ifCond .le off, 3)) (ht : (pc : Int) + off = (tgt : Int)) (kt : x ≤ 0 → At μ δ ρ sh tgt ls st w) (kf : ¬ (x ≤ 0) → At μ δ ρ sh (pc + 3) ls st w) : At μ δ ρ sh pc ls ((0, x) :: st) w := by
  obtain ⟨⟨p, l, e, R, s⟩, ⟨m, args, below, meth, c⟩, ⟨g, ad0, sh0⟩, Q⟩ := ρ
  intro C ad H locs lsa h1 h2 h3 hr hl hi hs
  simp only [List.forall_mem_cons] at hs
  have hx : InI x := hs.1
  exact lv_if_le C.1 C.2.1 d ht (fun z => kt ((i32_le0 hx).mp z) C ad H locs lsa h1 h2 h3 hr hl hi hs.2) (fun z => kf (fun q => z ((i32_le0 hx).mpr q)) C ad H locs lsa h1 h2 h3 hr hl hi hs.2)
theorem s_icmp_le {x y : Int} {off : Int} (tgt : Nat) (d : decode μ.2.1 pc = .ok (.if_icmp .le off, 3)) (ht : (pc : Int) + off = (tgt : Int)) (kt : x ≤ y → At μ δ ρ sh tgt ls st w) (kf : ¬ (x ≤ y) → At μ δ ρ sh (pc + 3) ls st w) : At μ δ ρ sh pc ls ((0, y) :: (0, x) :: st) w := by
  obtain ⟨⟨p, l, e, R, s⟩, ⟨m, args, below, meth, c⟩, ⟨g, ad0, sh0⟩, Q⟩ := ρ
  intro C ad H locs lsa h1 h2 h3 hr hl hi hs
  simp only [List.forall_mem_cons] at hs
  have hy : InI y := hs.1
  have hx : InI x := hs.2.1
  exact lv_icmp_le C.1 C.2.1 d ht (fun z => kt ((i32_le hx hy).mp z) C ad H locs lsa h1 h2 h3 hr hl hi hs.2.2) (fun z => kf (fun q => z ((i32_le hx hy).mpr q)) C ad H locs lsa h1 h2 h3 hr hl hi hs.2.2)
theorem s_tableOut {x : Int} {dflt lo hi2 : Int} {offs : Array Int} {len : Nat} (tgt : Nat) (d : decode μ.2.1 pc = .ok (.tableswitch dflt lo hi2 offs, len)) (h : x < lo ∨ hi2 < x) (ht : (pc : Int) + dflt = (tgt : Int)) (k : At μ δ ρ sh tgt ls st w) : At μ δ ρ sh pc ls ((0, x) :: st) w := by
  obtain ⟨⟨p, l, e, R, s⟩, ⟨m, args, below, meth, c⟩, ⟨g, ad0, sh0⟩, Q⟩ := ρ
  intro C ad H locs lsa h1 h2 h3 hr hl hi hs
  simp only [List.forall_mem_cons] at hs
  have hx : InI x := hs.1
  exact lv_tableOut C.1 C.2.1 d (by rw [toInt_in hx]; exact h) ht (k C ad H locs lsa h1 h2 h3 hr hl hi hs.2)
theorem s_tableIn {x : Int} {dflt lo hi2 off : Int} {offs : Array Int} {len : Nat} (tgt : Nat) (j : Nat) (d : decode μ.2.1 pc = .ok (.tableswitch dflt lo hi2 offs, len)) (h : x = lo + j) (h9 : lo + j ≤ hi2) (ho : offs[j]? = some off) (ht : (pc : Int) + off = (tgt : Int)) (k : At μ δ ρ sh tgt ls st w) : At μ δ ρ sh pc ls ((0, x) :: st) w := by
  obtain ⟨⟨p, l, e, R, s⟩, ⟨m, args, below, meth, c⟩, ⟨g, ad0, sh0⟩, Q⟩ := ρ
  intro C ad H locs lsa h1 h2 h3 hr hl hi hs
  simp only [List.forall_mem_cons] at hs
  have hx : InI x := hs.1
  have e9 : (x - lo).toNat = j := by omega
  exact lv_tableIn C.1 C.2.1 d (by rw [toInt_in hx]; omega) (by rw [toInt_in hx]; omega) (by rw [toInt_in hx, e9]; exact ho) ht (k C ad H locs lsa h1 h2 h3 hr hl hi hs.2)
theorem s_lookup {x : Int} {dflt off : Int} {ps : Array (Int × Int)} {len : Nat} (tgt : Nat) (d : decode μ.2.1 pc = .ok (.lookupswitch dflt ps, len)) (hp : (ps.toList.zip (ps.toList.drop 1)).all (fun (a, next) => a.1 < next.1) = true) (ho : Op.lookupswitch.offset ps.toList dflt x = off) (ht : (pc : Int) + off = (tgt : Int)) (k : At μ δ ρ sh tgt ls st w) : At μ δ ρ sh pc ls ((0, x) :: st) w := by
  obtain ⟨⟨p, l, e, R, s⟩, ⟨m, args, below, meth, c⟩, ⟨g, ad0, sh0⟩, Q⟩ := ρ
  intro C ad H locs lsa h1 h2 h3 hr hl hi hs
  simp only [List.forall_mem_cons] at hs
  have hx : InI x := hs.1
  exact lv_lookup C.1 C.2.1 d hp (by rw [toInt_in hx]; exact ho) ht (k C ad H locs lsa h1 h2 h3 hr hl hi hs.2)
theorem s_lcmp {x y : Int} (d : decode μ.2.1 pc = .ok (.lcmp, 1)) (k : At μ δ ρ sh (pc + 1) ls ((0, if x < y then -1 else if x = y then 0 else 1) :: st) w) : At μ δ ρ sh pc ls ((1, y) :: (1, x) :: st) w := by
  obtain ⟨⟨p, l, e, R, s⟩, ⟨m, args, below, meth, c⟩, ⟨g, ad0, sh0⟩, Q⟩ := ρ
  intro C ad H locs lsa h1 h2 h3 hr hl hi hs
  simp only [List.forall_mem_cons] at hs
  have hy : InL y := hs.1
  have hx : InL x := hs.2.1
  have kk := k C ad H locs lsa h1 h2 h3 hr hl hi (List.forall_mem_cons.mpr ⟨by
    show InI _
    unfold InI
    by_cases q1 : x < y
    · rw [if_pos q1]; omega
    · by_cases q2 : x = y
      · rw [if_neg q1, if_pos q2]; omega
      · rw [if_neg q1, if_neg q2]; omega, hs.2.2⟩)
  refine W.lcmp C.1 C.2.1 d ?_
  have e9 : lg_cmp (Int64.ofInt x) (Int64.ofInt y) = Int32.ofInt (if x < y then -1 else if x = y then 0 else 1) := by
    unfold lg_cmp
    by_cases q1 : x < y
    · rw [if_pos q1, if_neg (fun q => absurd ((i64_lt hy hx).mp q) (by omega)), if_neg (fun q => absurd ((i64_eq hx hy).mp q) (by omega))]; decide
    · by_cases q2 : x = y
      · rw [if_neg q1, if_pos q2, if_neg (fun q => absurd ((i64_lt hy hx).mp q) (by omega)), if_pos ((i64_eq hx hy).mpr q2)]; decide
      · rw [if_neg q1, if_neg q2, if_pos ((i64_lt hy hx).mpr (by omega))]; decide
  rw [e9]
  exact kk
theorem s_ldc {own : String} {idx : Nat} {v : Int32} {z : Int} (d : decode μ.2.1 pc = .ok (.ldc idx, 2)) (f : Cond.constant μ.1.cls idx v ∈ TS) (hz : v.toInt = z) (k : At μ δ ρ sh (pc + 2) ls ((0, z) :: st) w) : At μ δ ρ sh pc ls st w := by
  obtain ⟨⟨p, l, e, R, s⟩, ⟨m, args, below, meth, c⟩, ⟨g, ad0, sh0⟩, Q⟩ := ρ
  intro C ad H locs lsa h1 h2 h3 hr hl hi hs
  subst hz
  obtain ⟨hx, hb, -, -, -, hown, -, hts, -⟩ := id C
  refine lv_ldc hx hb hown (hts _ (List.mem_cons_of_mem _ f)) d ?_
  have kk := k C ad H locs lsa h1 h2 h3 hr hl hi (List.forall_mem_cons.mpr ⟨toInt_InI _, hs⟩)
  rw [← ofInt_toInt v]
  exact kk
theorem s_ldcw {idx : Nat} {v : Int32} {z : Int} (d : decode μ.2.1 pc = .ok (.ldc_w idx, 3)) (f : Cond.constant μ.1.cls idx v ∈ TS) (hz : v.toInt = z) (k : At μ δ ρ sh (pc + 3) ls ((0, z) :: st) w) : At μ δ ρ sh pc ls st w := by
  obtain ⟨⟨p, l, e, R, s⟩, ⟨m, args, below, meth, c⟩, ⟨g, ad0, sh0⟩, Q⟩ := ρ
  intro C ad H locs lsa h1 h2 h3 hr hl hi hs
  subst hz
  obtain ⟨hx, hb, -, -, -, hown, -, hts, -⟩ := id C
  refine lv_ldcw hx hb hown (hts _ (List.mem_cons_of_mem _ f)) d ?_
  have kk := k C ad H locs lsa h1 h2 h3 hr hl hi (List.forall_mem_cons.mpr ⟨toInt_InI _, hs⟩)
  rw [← ofInt_toInt v]
  exact kk
theorem s_ldc2 {idx : Nat} {v : Int64} {z : Int} (d : decode μ.2.1 pc = .ok (.ldc2_w idx, 3)) (f : Cond.constantLong μ.1.cls idx v ∈ TS) (hz : v = Int64.ofInt z) (hz2 : InL z) (k : At μ δ ρ sh (pc + 3) ls ((1, z) :: st) w) : At μ δ ρ sh pc ls st w := by
  obtain ⟨⟨p, l, e, R, s⟩, ⟨m, args, below, meth, c⟩, ⟨g, ad0, sh0⟩, Q⟩ := ρ
  intro C ad H locs lsa h1 h2 h3 hr hl hi hs
  obtain ⟨hx, hb, -, -, -, hown, -, hts, -⟩ := id C
  have f2 := hts _ (List.mem_cons_of_mem _ f)
  rw [hz] at f2
  exact lv_ldc2 hx hb hown f2 d (k C ad H locs lsa h1 h2 h3 hr hl hi (List.forall_mem_cons.mpr ⟨hz2, hs⟩))
end BRS
section HEAP
variable {μ : Mu} {δ : De} {ρ : Rh} {sh : List Sh} {pc : Nat} {ls : List (Nat × PV)} {st : List PV} {w : Wd}
/-- a class of ours: its fields' names differ, their kinds are known, the tables hold its words -/
def CF (ci : Nat) (r : vw_C) (ty : Nat → FieldType) : Prop := CL[ci]? = some r ∧ (∀ w ∈ u_ws r.1 r.2.1 r.2.2, w ∈ TS) ∧ (∀ k, k < r.2.2 → parseFieldDescriptor (r.2.1 k).2.2.1 = some (ty k)) ∧ (∀ a, a < r.2.2 → ∀ b, b < r.2.2 → a ≠ b → (r.2.1 a).2.1 ≠ (r.2.1 b).2.1)
/-- entry idx of class own's pool is field j of class ci -/
def FF (own : String) (idx ci : Nat) (r : vw_C) (j : Nat) : Prop := j < r.2.2 ∧ Cond.fieldLink own idx (r.2.1 j).1 (r.2.1 j).2.1 (r.2.1 j).2.2.1 ∈ TS
theorem range_get {α : Type} {n j : Nat} {f : Nat → α} (h : j < n) : ((List.range n).map f)[j]? = some (f j) := by
  rw [List.getElem?_map, List.getElem?_range h]; rfl
theorem fv_dyn {g : Gt} {ad : Nat → Nat} {k t : Nat} {z : Int} (h : t < 10) : fv g ad k t z = tv g ad (t, z) := by simp [fv, h]
theorem tv_ref (g : Gt) (ad : Nat → Nat) (n : Nat) : tv g ad (2, ((n : Nat) : Int)) = .ref (ad n) := by
  show (if ((n : Nat) : Int) < 0 then Value.null else .ref (ad ((n : Nat) : Int).toNat)) = _
  rw [if_neg (by omega)]
  rfl
theorem tyl_get (g : Gt) : (tyl g)[0]? = some (g.2.1 1, .int) ∧ (tyl g)[1]? = some (g.2.1 2, .boolean) ∧ (tyl g)[2]? = some (g.2.1 3, .long) ∧ (tyl g)[3]? = some (g.2.1 4, .array .int) ∧ (tyl g)[4]? = some (g.2.1 5, .object "TalkingReels$Script") := ⟨rfl, rfl, rfl, rfl, rfl⟩
theorem s_getfield {idx ci : Nat} {r : vw_C} {ty : Nat → FieldType} {z : Int} (k j t : Nat) {ts : List Nat} (d : decode μ.2.1 pc = .ok (.getfield idx, 3)) (cf : CF ci r ty) (f : FF μ.1.cls idx ci r j) (hz : z = ((k : Nat) : Int)) (hsh : sh[k]? = some (0, ci, ts)) (ht : ts[j]? = some t) (h10 : t < 10) (kk : At μ δ ρ sh (pc + 3) ls ((t, w k j) :: st) w) : At μ δ ρ sh pc ls ((2, z) :: st) w := by
  obtain ⟨⟨p, l, e, R, s⟩, ⟨m, args, below, meth, c⟩, ⟨g, ad0, sh0⟩, Q⟩ := ρ
  intro C ad H locs lsa h1 h2 h3 hr hl hi hs
  obtain ⟨hx, hb, -, -, -, hown, -, hts, hK, -⟩ := id C
  have hjl := (List.getElem?_eq_some_iff.mp ht).1
  have hgd : ts.getD j 0 = t := by simp [List.getD, ht]
  subst hz
  have hin : InV sh.length (t, w k j) := by
    have := hr.2.2.2 k _ hsh j hjl (by rw [show List.getD _ j 0 = t from hgd]; exact h10)
    rwa [show List.getD _ j 0 = t from hgd] at this
  have hv : ((List.range ts.length).map (fun j => fv g ad k (ts.getD j 0) (w k (j : Int))))[j]? = some (tv g ad (t, w k j)) := by
    rw [range_get hjl, hgd, fv_dyn h10]
  exact va_get hx hb (Ts := wsM μ) hts (fun w hw => List.mem_cons_of_mem _ (cf.2.1 w hw)) hown hK hr.1 k (wl_get hsh) cf.1 j f.1 (hts _ (List.mem_cons_of_mem _ f.2)) (fun _ h => h) hv d (kk C ad H locs lsa h1 h2 h3 hr hl hi (List.forall_mem_cons.mpr ⟨hin, (List.forall_mem_cons.mp hs).2⟩))
theorem s_getfieldC {idx ci : Nat} {r : vw_C} {ty : Nat → FieldType} {z q : Int} (k j t : Nat) {ts : List Nat} (d : decode μ.2.1 pc = .ok (.getfield idx, 3)) (cf : CF ci r ty) (f : FF μ.1.cls idx ci r j) (hz : z = ((k : Nat) : Int)) (hsh : sh[k]? = some (0, ci, ts)) (ht : ts[j]? = some t) (h10 : ¬ t < 10) (hq : (((if t < 1000 then t - 10 else k + (t - 1000)) : Nat) : Int) = q) (hqn : q < sh.length) (kk : At μ δ ρ sh (pc + 3) ls ((2, q) :: st) w) : At μ δ ρ sh pc ls ((2, z) :: st) w := by
  obtain ⟨⟨p, l, e, R, s⟩, ⟨m, args, below, meth, c⟩, ⟨g, ad0, sh0⟩, Q⟩ := ρ
  intro C ad H locs lsa h1 h2 h3 hr hl hi hs
  obtain ⟨hx, hb, -, -, -, hown, -, hts, hK, -⟩ := id C
  have hjl := (List.getElem?_eq_some_iff.mp ht).1
  have hgd : ts.getD j 0 = t := by simp [List.getD, ht]
  subst hz
  subst hq
  have hv : ((List.range ts.length).map (fun j => fv g ad k (ts.getD j 0) (w k (j : Int))))[j]? = some (tv g ad (2, (((if t < 1000 then t - 10 else k + (t - 1000)) : Nat) : Int))) := by
    rw [range_get hjl, hgd, tv_ref]
    unfold fv
    rw [if_neg h10]
    by_cases h9 : t < 1000
    · rw [if_pos h9, if_pos h9]
    · rw [if_neg h9, if_neg h9]
  exact va_get hx hb (Ts := wsM μ) hts (fun w hw => List.mem_cons_of_mem _ (cf.2.1 w hw)) hown hK hr.1 k (wl_get hsh) cf.1 j f.1 (hts _ (List.mem_cons_of_mem _ f.2)) (fun _ h => h) hv d (kk C ad H locs lsa h1 h2 h3 hr hl hi (List.forall_mem_cons.mpr ⟨⟨Int.le_trans (by decide) (Int.natCast_nonneg _), hqn⟩, (List.forall_mem_cons.mp hs).2⟩))
theorem wl_set {g : Gt} {ad : Nat → Nat} {w : Wd} {k : Nat} {s : Sh} {j v : Int} (h : sh[k]? = some s) : wl g ad sh (wu w k j v) = (wl g ad sh w).set k (ad k, ce g ad k s (wu w k j v k)) := by
  have hl := (List.getElem?_eq_some_iff.mp h).1
  apply List.ext_getElem?
  intro i
  by_cases hik : i = k
  · subst hik
    rw [wl_get h, List.getElem?_set_self (by rw [wl_len]; exact hl)]
  · rw [List.getElem?_set_ne (Ne.symm hik)]
    by_cases hi : i < sh.length
    · rw [wl_get (List.getElem?_eq_getElem hi), wl_get (List.getElem?_eq_getElem hi), wu_ne hik]
    · rw [List.getElem?_eq_none (by rw [wl_len]; omega), List.getElem?_eq_none (by rw [wl_len]; omega)]
theorem wf_set {w : Wd} {k : Nat} {s : Sh} {j v : Int} (hw : WF sh w) (h : sh[k]? = some s) (hc : InC sh.length s (wu w k j v k)) : WF sh (wu w k j v) := by
  intro i s' hi
  by_cases hik : i = k
  · subst hik
    rw [h] at hi
    cases hi
    exact hc
  · rw [wu_ne hik]
    exact hw i s' hi
theorem s_putfield {idx ci : Nat} {r : vw_C} {ty : Nat → FieldType} {z x : Int} (k j : Nat) {ts : List Nat} (d : decode μ.2.1 pc = .ok (.putfield idx, 3)) (cf : CF ci r ty) (f : FF μ.1.cls idx ci r j) (hz : z = ((k : Nat) : Int)) (hsh : sh[k]? = some (0, ci, ts)) (ht : ts[j]? = some 0) (hty : ty j = .int) (hfin : (r.2.1 j).2.2.2 = false) (kk : At μ δ ρ sh (pc + 3) ls st (wu w k j x)) : At μ δ ρ sh pc ls ((0, x) :: (2, z) :: st) w := by
  obtain ⟨⟨p, l, e, R, s⟩, ⟨m, args, below, meth, c⟩, ⟨g, ad0, sh0⟩, Q⟩ := ρ
  intro C ad H locs lsa h1 h2 h3 hr hl hi hs
  obtain ⟨hx, hb, -, -, -, hown, -, hts, hK, -⟩ := id C
  have hjl := (List.getElem?_eq_some_iff.mp ht).1
  have hgd : ts.getD j 0 = 0 := by simp [List.getD, ht]
  subst hz
  simp only [List.forall_mem_cons] at hs
  have hset : ((List.range ts.length).map (fun j => fv g ad k (ts.getD j 0) (w k (j : Int)))).set j (.int (Int32.ofInt x)) = (List.range ts.length).map (fun i => fv g ad k (ts.getD i 0) (wu w k j x k (i : Int))) := by
    apply List.ext_getElem?
    intro i
    by_cases hij : i = j
    · subst hij
      rw [List.getElem?_set_self (by simp; exact hjl), range_get hjl, hgd, wu_same]
      rfl
    · rw [List.getElem?_set_ne (Ne.symm hij)]
      by_cases hil : i < ts.length
      · rw [range_get hil, range_get hil, wu_at, if_neg (by omega)]
      · rw [List.getElem?_eq_none (by simp; omega), List.getElem?_eq_none (by simp; omega)]
  refine va_put hx hb (Ts := wsM μ) hts (fun w hw => List.mem_cons_of_mem _ (cf.2.1 w hw)) ty cf.2.2.1 cf.2.2.2 hown hK hr.1 hr.2.1 hr.2.2.1 k (wl_get hsh) cf.1 j f.1 (hts _ (List.mem_cons_of_mem _ f.2)) (fun _ h => h) hfin (ty := .int) (by rw [cf.2.2.1 j f.1, hty]) rfl rfl (by simp; exact hjl) d (fun H1 locs1 hP hD hS => ?_)
  have hP : va_P g.1 CL ((wl g ad sh w).set k (ad k, .inr (ci, ((List.range ts.length).map (fun j => fv g ad k (ts.getD j 0) (w k (j : Int)))).set j (.int (Int32.ofInt x))))) H1 := hP
  have hD : va_D (AA ad0 sh0.length s.heap.size) ((wl g ad sh w).set k (ad k, .inr (ci, ((List.range ts.length).map (fun j => fv g ad k (ts.getD j 0) (w k (j : Int)))).set j (.int (Int32.ofInt x))))) := hD
  rw [hset] at hP hD
  have ew : wl g ad sh (wu w k j x) = (wl g ad sh w).set k (ad k, .inr (ci, (List.range ts.length).map (fun i => fv g ad k (ts.getD i 0) (wu w k j x k (i : Int))))) := wl_set hsh
  rw [← ew] at hP hD
  refine kk C ad H1 locs1 lsa h1 h2 h3 ⟨hP, hD, hS, wf_set hr.2.2.2 hsh ?_⟩ hl hi hs.2.2
  intro i hi2 hi3
  rw [wu_at]
  by_cases hij : (i : Int) = j
  · have : i = j := by omega
    subst this
    rw [if_pos rfl, hgd]
    exact hs.1
  · rw [if_neg hij]
    exact hr.2.2.2 k _ hsh i hi2 hi3
theorem s_iaload {z j : Int} (k : Nat) {n : Nat} {ts : List Nat} (d : decode μ.2.1 pc = .ok (.iaload, 1)) (hz : z = ((k : Nat) : Int)) (hsh : sh[k]? = some (1, n, ts)) (hn : n < 2147483648) (hj : 0 ≤ j ∧ j < n) (kk : At μ δ ρ sh (pc + 1) ls ((0, w k j) :: st) w) : At μ δ ρ sh pc ls ((0, j) :: (2, z) :: st) w := by
  obtain ⟨⟨p, l, e, R, s⟩, ⟨m, args, below, meth, c⟩, ⟨g, ad0, sh0⟩, Q⟩ := ρ
  intro C ad H locs lsa h1 h2 h3 hr hl hi hs
  obtain ⟨hx, hb, -, -, -, hown, -, hts, hK, -⟩ := id C
  subst hz
  simp only [List.forall_mem_cons] at hs
  have hjI : InI j := ⟨by omega, by omega⟩
  have k1 := kk C ad H locs lsa h1 h2 h3 hr hl hi (List.forall_mem_cons.mpr ⟨hr.2.2.2 k _ hsh j hj.1 hj.2, hs.2.2⟩)
  have e1 : ((((Int32.ofInt j).toNatClampNeg : Nat)) : Int) = j := by rw [i32_clamp hj.1 hjI]; omega
  refine va_iald hx hb hK hr.1 k 0 (wl_get hsh) (tyl_get g).1 (vp_in_int hn hj.1 hj.2) d ?_
  show W p l e R s m args below meth c H locs (sh.length - sh0.length) (SZ sh - SZ sh0) Q (F0 m (pc + 1) lsa (.int (Int32.ofInt (w k (((Int32.ofInt j).toNatClampNeg : Nat) : Int))) :: _))
  rw [e1]
  exact k1
theorem s_baload {z j : Int} (k : Nat) {n : Nat} {ts : List Nat} (d : decode μ.2.1 pc = .ok (.baload, 1)) (hz : z = ((k : Nat) : Int)) (hsh : sh[k]? = some (2, n, ts)) (hn : n < 2147483648) (hj : 0 ≤ j ∧ j < n) (kk : At μ δ ρ sh (pc + 1) ls ((0, w k j) :: st) w) : At μ δ ρ sh pc ls ((0, j) :: (2, z) :: st) w := by
  obtain ⟨⟨p, l, e, R, s⟩, ⟨m, args, below, meth, c⟩, ⟨g, ad0, sh0⟩, Q⟩ := ρ
  intro C ad H locs lsa h1 h2 h3 hr hl hi hs
  obtain ⟨hx, hb, -, -, -, hown, -, hts, hK, -⟩ := id C
  subst hz
  simp only [List.forall_mem_cons] at hs
  have hjI : InI j := ⟨by omega, by omega⟩
  have h01 : w k j = 0 ∨ w k j = 1 := hr.2.2.2 k _ hsh j hj.1 hj.2
  have k1 := kk C ad H locs lsa h1 h2 h3 hr hl hi (List.forall_mem_cons.mpr ⟨by show InI _; unfold InI; omega, hs.2.2⟩)
  have e1 : ((((Int32.ofInt j).toNatClampNeg : Nat)) : Int) = j := by rw [i32_clamp hj.1 hjI]; omega
  refine va_zald hx hb hK hr.1 k 1 (wl_get hsh) (tyl_get g).2.1 (vp_in_int hn hj.1 hj.2) d ?_
  show W p l e R s m args below meth c H locs (sh.length - sh0.length) (SZ sh - SZ sh0) Q (F0 m (pc + 1) lsa (.int (Int32.ofInt (w k (((Int32.ofInt j).toNatClampNeg : Nat) : Int))) :: _))
  rw [e1]
  exact k1
theorem s_laload {z j : Int} (k : Nat) {n : Nat} {ts : List Nat} (d : decode μ.2.1 pc = .ok (.laload, 1)) (hz : z = ((k : Nat) : Int)) (hsh : sh[k]? = some (3, n, ts)) (hn : n < 2147483648) (hj : 0 ≤ j ∧ j < n) (kk : At μ δ ρ sh (pc + 1) ls ((1, w k j) :: st) w) : At μ δ ρ sh pc ls ((0, j) :: (2, z) :: st) w := by
  obtain ⟨⟨p, l, e, R, s⟩, ⟨m, args, below, meth, c⟩, ⟨g, ad0, sh0⟩, Q⟩ := ρ
  intro C ad H locs lsa h1 h2 h3 hr hl hi hs
  obtain ⟨hx, hb, -, -, -, hown, -, hts, hK, -⟩ := id C
  subst hz
  simp only [List.forall_mem_cons] at hs
  have hjI : InI j := ⟨by omega, by omega⟩
  have k1 := kk C ad H locs lsa h1 h2 h3 hr hl hi (List.forall_mem_cons.mpr ⟨hr.2.2.2 k _ hsh j hj.1 hj.2, hs.2.2⟩)
  have e1 : ((((Int32.ofInt j).toNatClampNeg : Nat)) : Int) = j := by rw [i32_clamp hj.1 hjI]; omega
  refine va_lald hx hb hK hr.1 k 2 (wl_get hsh) (tyl_get g).2.2.1 (vp_in_int hn hj.1 hj.2) d ?_
  show W p l e R s m args below meth c H locs (sh.length - sh0.length) (SZ sh - SZ sh0) Q (F0 m (pc + 1) lsa (.long (Int64.ofInt (w k (((Int32.ofInt j).toNatClampNeg : Nat) : Int))) :: _))
  rw [e1]
  exact k1
/-- a row of an int[][] whose rows stand side by side -/
theorem s_aaload6 {z j : Int} (k : Nat) {n b : Nat} (d : decode μ.2.1 pc = .ok (.aaload, 1)) (hz : z = ((k : Nat) : Int)) (hsh : sh[k]? = some (6, n, [b])) (hn : n < 2147483648) (hj : 0 ≤ j ∧ j < n) (kk : At μ δ ρ sh (pc + 1) ls ((2, (((b + j.toNat : Nat)) : Int)) :: st) w) : At μ δ ρ sh pc ls ((0, j) :: (2, z) :: st) w := by
  obtain ⟨⟨p, l, e, R, s⟩, ⟨m, args, below, meth, c⟩, ⟨g, ad0, sh0⟩, Q⟩ := ρ
  intro C ad H locs lsa h1 h2 h3 hr hl hi hs
  obtain ⟨hx, hb, -, -, -, hown, -, hts, hK, -⟩ := id C
  subst hz
  simp only [List.forall_mem_cons] at hs
  have hjI : InI j := ⟨by omega, by omega⟩
  have h8 : b + n ≤ sh.length := hr.2.2.2 k _ hsh
  have k1 := kk C ad H locs lsa h1 h2 h3 hr hl hi (List.forall_mem_cons.mpr ⟨⟨by show (-1 : Int) ≤ (((b + j.toNat : Nat)) : Int); omega, by show (((b + j.toNat : Nat)) : Int) < _; omega⟩, hs.2.2⟩)
  have hlt : (Int32.ofInt j).toNatClampNeg = j.toNat := i32_clamp hj.1 hjI
  have hin := vp_in_int hn hj.1 hj.2
  have ha : (wl g ad sh w)[k]? = some (ad k, .inl (g.2.1 4, n, .inr (.inr (.inr (.inr (fun j => if j < n then some (ad (b + j)) else none)))))) := wl_get hsh
  refine W.aald (v := .ref (ad (b + j.toNat))) (ty := .array .int) hx hb (hr.1 k _ ha) ((hK.2 3 _ (tyl_get g).2.2.2.1).1 n (fun i => va_rf (if i < n then some (ad (b + i)) else none))) rfl (fun q => by cases q) (by show ¬ (_ < 0 ∨ (arrV _ _ _).slots.size ≤ _); rw [arrV_size]; exact hin) ?_ rfl rfl d ?_
  · show (arrV _ _ _).slots[_]? = _
    have hjn : j.toNat < n := by omega
    rw [hlt, arrV_read _ _ hjn]
    show some (va_rf (if j.toNat < n then some (ad (b + j.toNat)) else none)) = _
    rw [if_pos (by omega)]
    rfl
  · have e3 := tv_ref g ad (b + j.toNat)
    have k2 : W p l e R s m args below meth c H locs (sh.length - sh0.length) (SZ sh - SZ sh0) Q (F0 m (pc + 1) lsa (tv g ad (2, (((b + j.toNat : Nat)) : Int)) :: st.map (tv g ad))) := k1
    rw [e3] at k2
    exact k2
theorem ofInt_upd (f : Int → Int) {j v : Int} {jn : Nat} (hj : ((jn : Nat) : Int) = j) : upd (fun i : Nat => Int32.ofInt (f (i : Int))) jn (Int32.ofInt v) = fun i : Nat => Int32.ofInt (if (i : Int) = j then v else f (i : Int)) := by
  funext i
  unfold upd
  by_cases h : i = jn
  · rw [if_pos h, if_pos (by omega)]
  · rw [if_neg h, if_neg (by omega)]
theorem ofInt_updL (f : Int → Int) {j v : Int} {jn : Nat} (hj : ((jn : Nat) : Int) = j) : vp_updL (fun i : Nat => Int64.ofInt (f (i : Int))) jn (Int64.ofInt v) = fun i : Nat => Int64.ofInt (if (i : Int) = j then v else f (i : Int)) := by
  funext i
  unfold vp_updL
  by_cases h : i = jn
  · rw [if_pos h, if_pos (by omega)]
  · rw [if_neg h, if_neg (by omega)]
theorem s_iastore {z j x : Int} (k : Nat) {n : Nat} {ts : List Nat} (d : decode μ.2.1 pc = .ok (.iastore, 1)) (hz : z = ((k : Nat) : Int)) (hsh : sh[k]? = some (1, n, ts)) (hn : n < 2147483648) (hj : 0 ≤ j ∧ j < n) (kk : At μ δ ρ sh (pc + 1) ls st (wu w k j x)) : At μ δ ρ sh pc ls ((0, x) :: (0, j) :: (2, z) :: st) w := by
  obtain ⟨⟨p, l, e, R, s⟩, ⟨m, args, below, meth, c⟩, ⟨g, ad0, sh0⟩, Q⟩ := ρ
  intro C ad H locs lsa h1 h2 h3 hr hl hi hs
  obtain ⟨hx, hb, -, -, -, hown, -, hts, hK, -⟩ := id C
  subst hz
  simp only [List.forall_mem_cons] at hs
  have hjI : InI j := ⟨by omega, by omega⟩
  have e1 : ((((Int32.ofInt j).toNatClampNeg : Nat)) : Int) = j := by rw [i32_clamp hj.1 hjI]; omega
  refine va_iast hx hb hK hr.1 hr.2.1 hr.2.2.1 k 0 (wl_get hsh) (tyl_get g).1 (vp_in_int hn hj.1 hj.2) d (fun H1 locs1 hP hD hS => ?_)
  rw [ofInt_upd (w k) e1] at hP hD
  have ew : wl g ad sh (wu w k j x) = (wl g ad sh w).set k (ad k, .inl (g.2.1 1, n, .inl (fun i : Nat => Int32.ofInt (if (i : Int) = j then x else w k (i : Int))))) := by
    rw [wl_set hsh]
    congr 2
    show ce g ad k (1, n, ts) _ = _
    unfold ce
    simp only [wu_at]
  rw [← ew] at hP hD
  refine kk C ad H1 locs1 lsa h1 h2 h3 ⟨hP, hD, hS, wf_set hr.2.2.2 hsh ?_⟩ hl hi hs.2.2.2
  intro i hi2 hi3
  rw [wu_at]
  by_cases hij : i = j
  · rw [if_pos hij]
    exact hs.1
  · rw [if_neg hij]
    exact hr.2.2.2 k _ hsh i hi2 hi3
theorem s_bastore {z j x : Int} (k : Nat) {n : Nat} {ts : List Nat} (d : decode μ.2.1 pc = .ok (.bastore, 1)) (hz : z = ((k : Nat) : Int)) (hsh : sh[k]? = some (2, n, ts)) (hn : n < 2147483648) (hj : 0 ≤ j ∧ j < n) (h01 : x = 0 ∨ x = 1) (kk : At μ δ ρ sh (pc + 1) ls st (wu w k j x)) : At μ δ ρ sh pc ls ((0, x) :: (0, j) :: (2, z) :: st) w := by
  obtain ⟨⟨p, l, e, R, s⟩, ⟨m, args, below, meth, c⟩, ⟨g, ad0, sh0⟩, Q⟩ := ρ
  intro C ad H locs lsa h1 h2 h3 hr hl hi hs
  obtain ⟨hx, hb, -, -, -, hown, -, hts, hK, -⟩ := id C
  subst hz
  simp only [List.forall_mem_cons] at hs
  have hjI : InI j := ⟨by omega, by omega⟩
  have e1 : ((((Int32.ofInt j).toNatClampNeg : Nat)) : Int) = j := by rw [i32_clamp hj.1 hjI]; omega
  refine va_zast hx hb hK hr.1 hr.2.1 hr.2.2.1 k 1 (wl_get hsh) (tyl_get g).2.1 (vp_in_int hn hj.1 hj.2) d (fun H1 locs1 hP hD hS => ?_)
  have e2 : vp_nar .boolean (Int32.ofInt x) = Int32.ofInt x := by
    rcases h01 with rfl | rfl <;> decide
  rw [e2, ofInt_upd (w k) e1] at hP hD
  have ew : wl g ad sh (wu w k j x) = (wl g ad sh w).set k (ad k, .inl (g.2.1 2, n, .inl (fun i : Nat => Int32.ofInt (if (i : Int) = j then x else w k (i : Int))))) := by
    rw [wl_set hsh]
    congr 2
    show ce g ad k (2, n, ts) _ = _
    unfold ce
    simp only [wu_at]
  rw [← ew] at hP hD
  refine kk C ad H1 locs1 lsa h1 h2 h3 ⟨hP, hD, hS, wf_set hr.2.2.2 hsh ?_⟩ hl hi hs.2.2.2
  intro i hi2 hi3
  rw [wu_at]
  by_cases hij : i = j
  · rw [if_pos hij]
    exact h01
  · rw [if_neg hij]
    exact hr.2.2.2 k _ hsh i hi2 hi3
theorem s_lastore {z j x : Int} (k : Nat) {n : Nat} {ts : List Nat} (d : decode μ.2.1 pc = .ok (.lastore, 1)) (hz : z = ((k : Nat) : Int)) (hsh : sh[k]? = some (3, n, ts)) (hn : n < 2147483648) (hj : 0 ≤ j ∧ j < n) (kk : At μ δ ρ sh (pc + 1) ls st (wu w k j x)) : At μ δ ρ sh pc ls ((1, x) :: (0, j) :: (2, z) :: st) w := by
  obtain ⟨⟨p, l, e, R, s⟩, ⟨m, args, below, meth, c⟩, ⟨g, ad0, sh0⟩, Q⟩ := ρ
  intro C ad H locs lsa h1 h2 h3 hr hl hi hs
  obtain ⟨hx, hb, -, -, -, hown, -, hts, hK, -⟩ := id C
  subst hz
  simp only [List.forall_mem_cons] at hs
  have hjI : InI j := ⟨by omega, by omega⟩
  have e1 : ((((Int32.ofInt j).toNatClampNeg : Nat)) : Int) = j := by rw [i32_clamp hj.1 hjI]; omega
  refine va_last hx hb hK hr.1 hr.2.1 hr.2.2.1 k 2 (wl_get hsh) (tyl_get g).2.2.1 (vp_in_int hn hj.1 hj.2) d (fun H1 locs1 hP hD hS => ?_)
  rw [ofInt_updL (w k) e1] at hP hD
  have ew : wl g ad sh (wu w k j x) = (wl g ad sh w).set k (ad k, .inl (g.2.1 3, n, .inr (.inl (fun i : Nat => Int64.ofInt (if (i : Int) = j then x else w k (i : Int)))))) := by
    rw [wl_set hsh]
    congr 2
    show ce g ad k (3, n, ts) _ = _
    unfold ce
    simp only [wu_at]
  rw [← ew] at hP hD
  refine kk C ad H1 locs1 lsa h1 h2 h3 ⟨hP, hD, hS, wf_set hr.2.2.2 hsh ?_⟩ hl hi hs.2.2.2
  intro i hi2 hi3
  rw [wu_at]
  by_cases hij : i = j
  · rw [if_pos hij]
    exact hs.1
  · rw [if_neg hij]
    exact hr.2.2.2 k _ hsh i hi2 hi3
end HEAP
