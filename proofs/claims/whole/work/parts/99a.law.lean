/-! THE LAW: its end, its script. -/
def R_law : String := "TalkingReelsLaw"
def lw_P (b : Addr) (xs : List Int32) (args : Array Value) (s : State) : Prop := args = #[.ref b] ∧ s.IntsAt b xs ∧ xs.length ≤ 3072 ∧ (Jvm.Cond.and given_1 narrow_1).before args s = true
def lw_Q (_ : Array Value) (s : State) (o : Outcome) (t : State) : Prop := o = .returned (some (.int 1)) ∧ Framed s o t [] 600000 7302250
def lw_Z (below : List Frame) (a : Array Value) (s : State) : State → Prop := fun t => ∃ o, t.status = .running ∧ Ended t below o ∧ lw_Q a s o t
/-- the law's own end, with 1 on the stack, nothing written that was there before, its room as the claim has it -/
theorem lw_ret {p : Program} {l : Launch} {e : Env} {s : State} {m : MethodId} {below : List Frame} {meth : Method} {c : Code} {b : Nat} (hx : p.tables.exec = Jvm.exec) (hb : c.code = code) (hr : meth.sig.returnType = ret) (hlocks : meth.locks = false) {pc : Nat} {H : Heap} {ls : Array Slot} (hdg : decode code pc = .ok (.ireturn, 1)) : W p l e room_1 s m #[Value.ref b] below meth c H [] 600000 7302250 (lw_Z below #[Value.ref b] s) (F0 m pc ls [.int 1]) := by
  intro T hT X
  obtain ⟨fs, hret, hrun, hended, hW, hframe⟩ := X.leave (v := some (.int 1)) (hlocks := hlocks) (fun h => by rw [hr] at h; cases h)
  have hmeth' : T.vm.method? m = some meth := X.method'
  refine ⟨T.setFrames fs, ?_, .returned (some (.int 1)), hrun, hended, rfl, ⟨_, rfl⟩, hW, hframe⟩
  jvm_step X.here [X.here.top, hx, hb, hdg, hmeth', hr, ret, narrow_b1]
  (try refine ⟨rfl, ?_⟩); (try refine ⟨rfl, ?_⟩)
  first | (intro acts; rw [hret _ acts rfl rfl rfl]) | rw [hret _ _ rfl rfl rfl]
  exact Steps.refl _
/-- what holds at the law's entry: the machine, the code, the tables' words (any of lw_tbl by 'hts w (by decide +kernel)'), the script of L ints xs at the cell b, what the Statement gives of the start (any of its parts by flat_of_before) -/
def lw_At (p : Program) (s : State) (m : MethodId) (meth : Method) (c : Code) (b L : Nat) (xs : Nat → Int32) : Prop :=
  p.tables.exec = Jvm.exec ∧ c.code = code ∧ meth.sig.returnType = ret ∧ c.maxLocals = 4 ∧ s.vm.findClass R_law = some m.cls ∧ (∀ w ∈ lw_tbl, w.before #[Value.ref b] s = true) ∧ va_X b L xs s s.heap ∧ b < s.heap.size ∧ meth.locks = false ∧ (Jvm.Cond.and given_1 narrow_1).before #[Value.ref b] s = true
abbrev mL : Mu := (yL_law, cL_law, 4, ret)
abbrev dL : De := (42, 210, 29424)
def sv (xs : Nat → Int32) (j : Int) : Int := (xs j.toNat).toInt
def XF (ρ : Rh) (L : Nat) (xs : Nat → Int32) : Prop := match ρ with
  | ((p, l, e, R, s), (m, args, below, meth, c), (g, ad0, sh0), Q) => va_X (g.2.2.1 19) L xs s s.heap ∧ g.2.2.1 19 < s.heap.size ∧ sh0 = []
section LAW
variable {μ : Mu} {δ : De} {ρ : Rh} {sh : List Sh} {pc : Nat} {ls : List (Nat × PV)} {st : List PV} {w : Wd} {L : Nat} {xs : Nat → Int32}
theorem s_slen {z : Int} (d : decode μ.2.1 pc = .ok (.arraylength, 1)) (hX : XF ρ L xs) (hL : L ≤ 3072) (kk : At μ δ ρ sh (pc + 1) ls ((0, (L : Int)) :: st) w) : At μ δ ρ sh pc ls ((6, z) :: st) w := by
  obtain ⟨⟨p, l, e, R, s⟩, ⟨m, args, below, meth, c⟩, ⟨g, ad0, sh0⟩, Q⟩ := ρ
  obtain ⟨hX, hbl, hnil⟩ := hX
  subst hnil
  intro C ad H locs lsa h1 h2 h3 hr hl hi hs
  obtain ⟨hx, hb, -, hml, -, hown, -, hts, hK, hE, hd9, hd2, hd3, hd4⟩ := id C
  have hbA : ¬ AA ad0 ([] : List Sh).length s.heap.size (g.2.2.1 19) := by
    rintro (⟨k, hk, -⟩ | h)
    · exact absurd hk (Nat.not_lt_zero _)
    · omega
  have k1 := kk C ad H locs lsa h1 h2 h3 hr hl hi (List.forall_mem_cons.mpr ⟨⟨by show (-2147483648 : Int) ≤ (L : Int); omega, by show (L : Int) < 2147483648; omega⟩, (List.forall_mem_cons.mp hs).2⟩)
  have e1 : Int32.ofInt ((L : Nat) : Int) = Int32.ofNat L := Int32.ofInt_eq_ofNat ..
  have k2 : W p l e R s m args below meth c H locs (sh.length - ([] : List Sh).length) (SZ sh - SZ []) Q (F0 m (pc + 1) lsa (.int (Int32.ofInt ((L : Nat) : Int)) :: st.map (tv g ad))) := k1
  rw [e1] at k2
  exact va_slen hx hb hX hbl hbA hr.2.2.1 d k2
theorem s_sld {z j : Int} (d : decode μ.2.1 pc = .ok (.iaload, 1)) (hX : XF ρ L xs) (hL : L ≤ 3072) (hj : 0 ≤ j ∧ j < L) (kk : At μ δ ρ sh (pc + 1) ls ((0, sv xs j) :: st) w) : At μ δ ρ sh pc ls ((0, j) :: (6, z) :: st) w := by
  obtain ⟨⟨p, l, e, R, s⟩, ⟨m, args, below, meth, c⟩, ⟨g, ad0, sh0⟩, Q⟩ := ρ
  obtain ⟨hX, hbl, hnil⟩ := hX
  subst hnil
  intro C ad H locs lsa h1 h2 h3 hr hl hi hs
  obtain ⟨hx, hb, -, hml, -, hown, -, hts, hK, hE, hd9, hd2, hd3, hd4⟩ := id C
  have hbA : ¬ AA ad0 ([] : List Sh).length s.heap.size (g.2.2.1 19) := by
    rintro (⟨k, hk, -⟩ | h)
    · exact absurd hk (Nat.not_lt_zero _)
    · omega
  have hjI : InI j := ⟨by omega, by omega⟩
  have k1 := kk C ad H locs lsa h1 h2 h3 hr hl hi (List.forall_mem_cons.mpr ⟨toInt_InI _, (List.forall_mem_cons.mp (List.forall_mem_cons.mp hs).2).2⟩)
  have k2 : W p l e R s m args below meth c H locs (sh.length - ([] : List Sh).length) (SZ sh - SZ []) Q (F0 m (pc + 1) lsa (.int (Int32.ofInt (xs j.toNat).toInt) :: st.map (tv g ad))) := k1
  rw [ofInt_toInt] at k2
  have e1 : (Int32.ofInt j).toNatClampNeg = j.toNat := i32_clamp hj.1 hjI
  rw [← e1] at k2
  exact va_sld hx hb hX hbl hbA hr.2.2.1 (vp_in_int (by omega) hj.1 hj.2) d k2
end LAW
theorem s_lawEnd {p : Program} {l : Launch} {e : Env} {s : State} {m : MethodId} {below : List Frame} {meth : Method} {c : Code} {b : Nat} {g : Gt} {ad0 : Nat → Nat} {sh : List Sh} {ls : List (Nat × PV)} {w : Wd} : At mL dL ((p, l, e, room_1, s), (m, #[Value.ref b], below, meth, c), (g, ad0, []), lw_Z below #[Value.ref b] s) sh 1502 ls [] w := by
  refine s_iconst dL_law_1502 (by decide) ?_
  intro C ad H locs lsa h1 h2 h3 hr hl hi hs
  obtain ⟨hx, hb, hret, hml, hlk, hown, -, hts, hK, hE, hd9, hd2, hd3, hd4⟩ := id C
  refine va_forget (fun q hq => ?_) ?_
  · rcases hr.2.2.1.2.2 q hq with ⟨k, hk, -⟩ | h
    · exact absurd hk (Nat.not_lt_zero _)
    · exact h
  · have h31 : sh.length ≤ 210 := h3.1
    have h32 : SZ sh ≤ 29424 := h3.2
    refine W.widen (k := 600000) (n := 7302250) (by omega) (by omega) ?_
    have e1 : Int32.ofInt 1 = 1 := by decide
    have k := lw_ret (p := p) (l := l) (e := e) (s := s) (m := m) (below := below) (meth := meth) (c := c) (b := b) hx hb hret hlk (pc := 1503) (H := H) (ls := lsa) dL_law_1503
    rw [← e1] at k
    exact k
