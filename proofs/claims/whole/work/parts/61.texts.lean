/-! TEXTS. -/
def byZ : List (List Int) := [[98, 97, 114, 32, 32, 32, 102, 101, 101, 32, 32, 32, 107, 101, 101, 112, 32, 32, 119, 104, 101, 110, 32, 32, 111, 114, 32, 32, 32, 32, 97, 110, 100, 32, 32, 32, 110, 111, 116, 32, 32, 32, 109, 97, 107, 101, 114, 32, 116, 114, 97, 99, 107, 32, 116, 111, 110, 103, 117, 101, 102, 114, 97, 109, 101, 115, 119, 101, 97, 114, 32, 32, 102, 105, 114, 109, 32, 32, 115, 101, 97, 116, 115, 32, 98, 97, 110, 100, 32, 32, 112, 114, 105, 99, 101, 32, 119, 101, 101, 107, 32, 32], [59, 43, 45, 42, 47, 40, 41, 60, 61, 62], [98, 97, 114], [102, 101, 101], [107, 101, 101, 112], [119, 104, 101, 110], [111, 114], [97, 110, 100], [110, 111, 116], [109, 97, 107, 101, 114], [116, 114, 97, 99, 107], [116, 111, 110, 103, 117, 101], [102, 114, 97, 109, 101, 115], [119, 101, 97, 114], [102, 105, 114, 109], [115, 101, 97, 116, 115], [98, 97, 110, 100], [112, 114, 105, 99, 101], [119, 101, 101, 107]]
theorem st_0 : STs[0]? = some ("TalkingReels$Tape", 72, "bar   fee   keep  when  or    and   not   maker track tongueframeswear  firm  seats band  price week  ") := rfl
theorem st_1 : STs[1]? = some ("TalkingReels$Tape", 61, ";+-*/()<=>") := rfl
theorem st_2 : STs[2]? = some ("TalkingReelsModel", 296, "bar") := rfl
theorem st_3 : STs[3]? = some ("TalkingReelsModel", 302, "fee") := rfl
theorem st_4 : STs[4]? = some ("TalkingReelsModel", 304, "keep") := rfl
theorem st_5 : STs[5]? = some ("TalkingReelsModel", 306, "when") := rfl
theorem st_6 : STs[6]? = some ("TalkingReelsModel", 307, "or") := rfl
theorem st_7 : STs[7]? = some ("TalkingReelsModel", 309, "and") := rfl
theorem st_8 : STs[8]? = some ("TalkingReelsModel", 311, "not") := rfl
theorem st_9 : STs[9]? = some ("TalkingReelsModel", 313, "maker") := rfl
theorem st_10 : STs[10]? = some ("TalkingReelsModel", 314, "track") := rfl
theorem st_11 : STs[11]? = some ("TalkingReelsModel", 315, "tongue") := rfl
theorem st_12 : STs[12]? = some ("TalkingReelsModel", 316, "frames") := rfl
theorem st_13 : STs[13]? = some ("TalkingReelsModel", 317, "wear") := rfl
theorem st_14 : STs[14]? = some ("TalkingReelsModel", 318, "firm") := rfl
theorem st_15 : STs[15]? = some ("TalkingReelsModel", 320, "seats") := rfl
theorem st_16 : STs[16]? = some ("TalkingReelsModel", 321, "band") := rfl
theorem st_17 : STs[17]? = some ("TalkingReelsModel", 322, "price") := rfl
theorem st_18 : STs[18]? = some ("TalkingReelsModel", 323, "week") := rfl
theorem STs_len : STs.length = 19 := rfl
/-- sign j of text i -/
def chS (i : Nat) (j : Int) : Int := (byZ.getD i []).getD j.toNat 0
def lnS (i : Nat) : Nat := (byZ.getD i []).length
theorem lenS_z : lenS = byZ.map List.length := by decide +kernel
theorem bytS_z : bytS = byZ.map (fun l => l.map (fun z => Int32.ofInt z)) := by decide +kernel
theorem byZ_ok : ∀ l ∈ byZ, ∀ z ∈ l, 0 ≤ z ∧ z ≤ 122 := by decide +kernel
theorem byZ_ln : byZ.length = 19 := rfl
theorem lnS_le : ∀ l ∈ byZ, l.length ≤ 102 := by decide +kernel
theorem getD_map {α β : Type} (f : α → β) (d : α) : ∀ (l : List α) (i : Nat), (l.map f).getD i (f d) = f (l.getD i d)
  | [], _ => rfl
  | a :: l, 0 => rfl
  | a :: l, i + 1 => getD_map f d l i
theorem lenS_at (i : Nat) : lenS.getD i 0 = lnS i := by rw [lenS_z]; exact getD_map List.length [] byZ i
theorem bytS_at (i j : Nat) : (bytS.getD i []).getD j 0 = Int32.ofInt ((byZ.getD i []).getD j 0) := by
  rw [bytS_z, show ([] : List Int32) = (fun l : List Int => l.map (fun z => Int32.ofInt z)) [] from rfl, getD_map (fun l : List Int => l.map (fun z => Int32.ofInt z)) [] byZ i]
  exact getD_map (fun z => Int32.ofInt z) 0 _ j
theorem getD_in {α : Type} {P : α → Prop} {d : α} (hd : P d) : ∀ (l : List α) (i : Nat), (∀ a ∈ l, P a) → P (l.getD i d)
  | [], _, _ => hd
  | a :: l, 0, h => h a List.mem_cons_self
  | a :: l, i + 1, h => getD_in hd l i (fun b hb => h b (List.mem_cons_of_mem _ hb))
theorem chS_bd (i : Nat) (j : Int) : 0 ≤ chS i j ∧ chS i j ≤ 122 := getD_in (P := fun z : Int => 0 ≤ z ∧ z ≤ 122) (by decide) _ _ (getD_in (P := fun l : List Int => ∀ z ∈ l, 0 ≤ z ∧ z ≤ 122) (fun z hz => by cases hz) _ _ byZ_ok)
theorem lnS_bd (i : Nat) : lnS i ≤ 102 := getD_in (P := fun l : List Int => l.length ≤ 102) (by decide) _ _ lnS_le
theorem i2c_id {x : Int} (h : 0 ≤ x ∧ x ≤ 122) : i2c x = x := by
  have key : ∀ n : Fin 123, i2c ((n : Nat) : Int) = ((n : Nat) : Int) := by decide +kernel
  have := key ⟨x.toNat, by omega⟩
  rwa [show (((⟨x.toNat, by omega⟩ : Fin 123) : Nat) : Int) = x from Int.toNat_of_nonneg h.1] at this
theorem and255 {x : Int} (h : 0 ≤ x ∧ x ≤ 122) : iand x 255 = x := by
  have key : ∀ n : Fin 123, iand ((n : Nat) : Int) 255 = ((n : Nat) : Int) := by decide +kernel
  have := key ⟨x.toNat, by omega⟩
  rwa [show (((⟨x.toNat, by omega⟩ : Fin 123) : Nat) : Int) = x from Int.toNat_of_nonneg h.1] at this
theorem narC {x : Int} (h : 0 ≤ x ∧ x ≤ 122) : narrow .char (.int (Int32.ofInt x)) = .int (Int32.ofInt x) := by
  have key : ∀ n : Fin 123, (Int32.ofInt ((n : Nat) : Int)).toUInt32.toUInt16.toUInt32.toInt32 = Int32.ofInt ((n : Nat) : Int) := by decide +kernel
  have := key ⟨x.toNat, by omega⟩
  rw [show (((⟨x.toNat, by omega⟩ : Fin 123) : Nat) : Int) = x from Int.toNat_of_nonneg h.1] at this
  show Value.int _ = Value.int _
  rw [this]
theorem ldcwStr {p : Program} {l : Launch} {e : Env} {R : Room} {s : State} {m : MethodId} {args : Array Value} {below : List Frame} {meth : Method} {c : Code} {T : State} {locs : List Loc} {cells slots : Nat}
    (X : Stand p l e R s m args below meth c T locs cells slots) (hexec : p.tables.exec = Jvm.exec) {own text : String} {index : Nat} {a : Addr} (hown : s.vm.findClass own = some m.cls)
    (hconst : (Cond.stringRef own index text).before args s = true) (hev : (Term.string own index).eval args s none [] s = some (.ref a)) {g : JFrame} (hg : g.method = m) (hdg : decode c.code g.pc = .ok (.ldc_w index, 3)) :
    ∀ target, Steps p.tables e below (T.setTop { g with pc := g.pc + 3, stack := .ref a :: g.stack }) target → Steps p.tables e below (T.setTop g) target := by
  obtain ⟨k, cf, i, a', hk, hcf, hcp, -, hr, hev'⟩ := Cond.stringRef_spec hown hconst
  cases hev.symm.trans hev'
  obtain ⟨k', hk', he⟩ := X.warmed.alike.2.2 _ _ hk
  have hr' : k'.resolved[index]? = some (some (.string a)) := by
    rcases X.warmed.entry hk hk' index with h | ⟨h, -⟩
    · rw [h]; exact hr
    · rw [hr] at h; cases h
  intro target hrest
  subst hg
  jvm_step X.here [hexec, hdg, ldc_w.wp_string (e := e) (s := T) (f := g) X.here.top hk' (by rw [he]; exact hcf) hcp hr']
  exact hrest
section TEXTS
variable {μ : Mu} {δ : De} {ρ : Rh} {sh : List Sh} {pc : Nat} {ls : List (Nat × PV)} {st stk : List PV} {w : Wd} {dc mc ms : Nat} {Φ : Option PV → List Sh → Wd → Prop}
theorem s_ldcS {idx i : Nat} {tx : String} (d : decode μ.2.1 pc = .ok (.ldc idx, 2)) (q : STs[i]? = some (μ.1.cls, idx, tx)) (k : At μ δ ρ sh (pc + 2) ls ((3, (i : Int)) :: st) w) : At μ δ ρ sh pc ls st w := by
  obtain ⟨⟨p, l, e, R, s⟩, ⟨m, args, below, meth, c⟩, ⟨g, ad0, sh0⟩, Q⟩ := ρ
  intro C ad H locs lsa h1 h2 h3 hr hl hi hs
  obtain ⟨hx, hb, -, -, -, hown, -, hts, hK, hE, -⟩ := id C
  have hi9 : i < 19 := (List.getElem?_eq_some_iff.mp q).1
  exact va_ldcS hx hb hown (hE.2.2.2.1 i _ q) d (k C ad H locs lsa h1 h2 h3 hr hl hi (List.forall_mem_cons.mpr ⟨⟨by show (0 : Int) ≤ i; omega, by show (i : Int) < 19; omega⟩, hs⟩))
theorem s_ldcwS {idx i : Nat} {tx : String} (d : decode μ.2.1 pc = .ok (.ldc_w idx, 3)) (q : STs[i]? = some (μ.1.cls, idx, tx)) (k : At μ δ ρ sh (pc + 3) ls ((3, (i : Int)) :: st) w) : At μ δ ρ sh pc ls st w := by
  obtain ⟨⟨p, l, e, R, s⟩, ⟨m, args, below, meth, c⟩, ⟨g, ad0, sh0⟩, Q⟩ := ρ
  intro C ad H locs lsa h1 h2 h3 hr hl hi hs
  obtain ⟨hx, hb, -, -, -, hown, -, hts, hK, hE, -⟩ := id C
  have hi9 : i < 19 := (List.getElem?_eq_some_iff.mp q).1
  have kk := k C ad H locs lsa h1 h2 h3 hr hl hi (List.forall_mem_cons.mpr ⟨⟨by show (0 : Int) ≤ i; omega, by show (i : Int) < 19; omega⟩, hs⟩)
  have hZ := hE.2.2.2.1 i _ q
  intro T hT X
  obtain ⟨t, a1, b1⟩ := kk T hT X
  refine ⟨t, ldcwStr X hx hown hZ.1 hZ.2 (g := F0 m pc lsa (st.map (tv g ad))) rfl (by rw [hb]; exact d) t a1, b1⟩
theorem s_getCo {idx i : Nat} (d : decode μ.2.1 pc = .ok (.getfield idx, 3)) (hi9 : i < 19) (f : Cond.fieldLink μ.1.cls idx "java/lang/String" "coder" "B" ∈ TS) (k : At μ δ ρ sh (pc + 3) ls ((0, 0) :: st) w) : At μ δ ρ sh pc ls ((3, (i : Int)) :: st) w := by
  obtain ⟨⟨p, l, e, R, s⟩, ⟨m, args, below, meth, c⟩, ⟨g, ad0, sh0⟩, Q⟩ := ρ
  intro C ad H locs lsa h1 h2 h3 hr hl hi hs
  obtain ⟨hx, hb, -, -, -, hown, -, hts, hK, hE, -⟩ := id C
  exact vk_getf hx hb (hE.2.1.1 i hi9).2.1 hr.2.2.1 hown (hts _ (List.mem_cons_of_mem _ f)) (fun _ h => h) d (k C ad H locs lsa h1 h2 h3 hr hl hi (List.forall_mem_cons.mpr ⟨InI_0, (List.forall_mem_cons.mp hs).2⟩))
theorem s_getVa {idx i : Nat} (d : decode μ.2.1 pc = .ok (.getfield idx, 3)) (hi9 : i < 19) (f : Cond.fieldLink μ.1.cls idx "java/lang/String" "value" "[B" ∈ TS) (k : At μ δ ρ sh (pc + 3) ls ((4, (i : Int)) :: st) w) : At μ δ ρ sh pc ls ((3, (i : Int)) :: st) w := by
  obtain ⟨⟨p, l, e, R, s⟩, ⟨m, args, below, meth, c⟩, ⟨g, ad0, sh0⟩, Q⟩ := ρ
  intro C ad H locs lsa h1 h2 h3 hr hl hi hs
  obtain ⟨hx, hb, -, -, -, hown, -, hts, hK, hE, -⟩ := id C
  exact vk_getf hx hb (hE.2.1.1 i hi9).2.2.1 hr.2.2.1 hown (hts _ (List.mem_cons_of_mem _ f)) (fun _ h => h) d (k C ad H locs lsa h1 h2 h3 hr hl hi (List.forall_mem_cons.mpr ⟨⟨by show (0 : Int) ≤ i; omega, by show (i : Int) < 19; omega⟩, (List.forall_mem_cons.mp hs).2⟩))
theorem s_alenS {i : Nat} (d : decode μ.2.1 pc = .ok (.arraylength, 1)) (hi9 : i < 19) (k : At μ δ ρ sh (pc + 1) ls ((0, (lnS i : Nat)) :: st) w) : At μ δ ρ sh pc ls ((4, (i : Int)) :: st) w := by
  obtain ⟨⟨p, l, e, R, s⟩, ⟨m, args, below, meth, c⟩, ⟨g, ad0, sh0⟩, Q⟩ := ρ
  intro C ad H locs lsa h1 h2 h3 hr hl hi hs
  obtain ⟨hx, hb, -, -, -, hown, -, hts, hK, hE, -⟩ := id C
  have hb9 := lnS_bd i
  refine va_tlen hx hb (hE.2.1.1 i hi9).2.2.2 hr.2.2.1 (v := Int32.ofInt ((lnS i : Nat) : Int)) (by rw [lenS_at]; exact (Int32.ofInt_eq_ofNat ..).symm) d (k C ad H locs lsa h1 h2 h3 hr hl hi (List.forall_mem_cons.mpr ⟨?_, (List.forall_mem_cons.mp hs).2⟩))
  show InI ((lnS i : Nat) : Int)
  unfold InI
  omega
theorem s_baldS {i : Nat} {j : Int} (d : decode μ.2.1 pc = .ok (.baload, 1)) (hi9 : i < 19) (hj : 0 ≤ j ∧ j < (lnS i : Nat)) (k : At μ δ ρ sh (pc + 1) ls ((0, chS i j) :: st) w) : At μ δ ρ sh pc ls ((0, j) :: (4, (i : Int)) :: st) w := by
  obtain ⟨⟨p, l, e, R, s⟩, ⟨m, args, below, meth, c⟩, ⟨g, ad0, sh0⟩, Q⟩ := ρ
  intro C ad H locs lsa h1 h2 h3 hr hl hi hs
  obtain ⟨hx, hb, -, -, -, hown, -, hts, hK, hE, -⟩ := id C
  have hb9 := lnS_bd i
  have hc9 := chS_bd i j
  simp only [List.forall_mem_cons] at hs
  have hjI : InI j := ⟨by omega, by omega⟩
  refine va_tb hx hb (hE.2.1.1 i hi9).2.2.2 hr.2.2.1 (i := Int32.ofInt j) (v := .int (Int32.ofInt (chS i j))) (by rw [lenS_at]; exact vp_in_int (by omega) hj.1 hj.2) ?_ d (k C ad H locs lsa h1 h2 h3 hr hl hi (List.forall_mem_cons.mpr ⟨?_, hs.2.2⟩))
  · show Value.int _ = _
    rw [bytS_at, i32_clamp hj.1 hjI]
    rfl
  · show InI (chS i j)
    unfold InI
    omega
theorem s_getsC {idx : Nat} (d : decode μ.2.1 pc = .ok (.getstatic idx, 3)) (f : Cond.fieldLink μ.1.cls idx "java/lang/String" "COMPACT_STRINGS" "Z" ∈ TS) (k : At μ δ ρ sh (pc + 3) ls ((0, 1) :: st) w) : At μ δ ρ sh pc ls st w := by
  obtain ⟨⟨p, l, e, R, s⟩, ⟨m, args, below, meth, c⟩, ⟨g, ad0, sh0⟩, Q⟩ := ρ
  intro C ad H locs lsa h1 h2 h3 hr hl hi hs
  obtain ⟨hx, hb, -, -, -, hown, -, hts, hK, hE, -⟩ := id C
  exact va_gets hx hb hE.2.2.1 hr.2.2.1 hown (hts _ (List.mem_cons_of_mem _ f)) (fun _ h => h) d (k C ad H locs lsa h1 h2 h3 hr hl hi (List.forall_mem_cons.mpr ⟨by show InI 1; unfold InI; omega, hs⟩))
theorem s_getsF {idx : Nat} (d : decode μ.2.1 pc = .ok (.getstatic idx, 3)) (f : Cond.fieldLink μ.1.cls idx "jdk/internal/util/Preconditions" "SIOOBE_FORMATTER" "Ljava/util/function/BiFunction;" ∈ TS) (k : ∀ v : PV, (v = (2, -1) ∨ v = (5, 0)) → At μ δ ρ sh (pc + 3) ls (v :: st) w) : At μ δ ρ sh pc ls st w := by
  obtain ⟨⟨p, l, e, R, s⟩, ⟨m, args, below, meth, c⟩, ⟨g, ad0, sh0⟩, Q⟩ := ρ
  intro C ad H locs lsa h1 h2 h3 hr hl hi hs
  obtain ⟨hx, hb, -, -, -, hown, -, hts, hK, hE, -⟩ := id C
  rcases hE.2.2.2.2.2 with hZ | hZ
  · exact va_gets hx hb hZ hr.2.2.1 hown (hts _ (List.mem_cons_of_mem _ f)) (fun _ h => h) d (k (2, -1) (Or.inl rfl) C ad H locs lsa h1 h2 h3 hr hl hi (List.forall_mem_cons.mpr ⟨⟨Int.le_refl _, by show (-1 : Int) < _; omega⟩, hs⟩))
  · exact va_gets hx hb hZ hr.2.2.1 hown (hts _ (List.mem_cons_of_mem _ f)) (fun _ h => h) d (k (5, 0) (Or.inr rfl) C ad H locs lsa h1 h2 h3 hr hl hi (List.forall_mem_cons.mpr ⟨trivial, hs⟩))
theorem s_i2bS {x : Int} (h : 0 ≤ x ∧ x ≤ 255) (d : decode μ.2.1 pc = .ok (.i2b, 1)) (k : At μ δ ρ sh (pc + 1) ls ((0, if x < 128 then x else x - 256) :: st) w) : At μ δ ρ sh pc ls ((0, x) :: st) w := by
  obtain ⟨⟨p, l, e, R, s⟩, ⟨m, args, below, meth, c⟩, ⟨g, ad0, sh0⟩, Q⟩ := ρ
  intro C ad H locs lsa h1 h2 h3 hr hl hi hs
  have key : ∀ n : Fin 256, (Int32.ofInt ((n : Nat) : Int)).toInt8.toInt32 = Int32.ofInt (if ((n : Nat) : Int) < 128 then ((n : Nat) : Int) else ((n : Nat) : Int) - 256) := by decide +kernel
  have k9 := key ⟨x.toNat, by omega⟩
  rw [show (((⟨x.toNat, by omega⟩ : Fin 256) : Nat) : Int) = x from Int.toNat_of_nonneg h.1] at k9
  refine lv_i2b C.1 C.2.1 d k9 (k C ad H locs lsa h1 h2 h3 hr hl hi (List.forall_mem_cons.mpr ⟨?_, (List.forall_mem_cons.mp hs).2⟩))
  show InI (if x < 128 then x else x - 256)
  unfold InI
  split <;> omega
theorem s_creturn {sh0 : List Sh} {x : Int} (d : decode μ.2.1 pc = .ok (.ireturn, 1)) (hR : RetOK mc ms Φ ρ sh0) (hret : μ.2.2.2 = some .char) (h01 : 0 ≤ x ∧ x ≤ 122) (hsz : sh.length = sh0.length + mc ∧ SZ sh = SZ sh0 + ms) (hΦ : Φ (some (0, x)) sh w) : At μ δ ρ sh pc ls [(0, x)] w := by
  obtain ⟨⟨p, l, e, R, s⟩, ⟨m, args, below, meth, c⟩, ⟨g, ad0, sh1⟩, Q⟩ := ρ
  obtain ⟨rfl, rfl, rfl, rfl⟩ := hR
  intro C ad H locs lsa h1 h2 h3 hr hl hi hs
  obtain ⟨hx, hb, hrt, hml, hlk, -⟩ := id C
  have e1 : sh.length - sh1.length = R.cells := by omega
  have e2 : SZ sh - SZ sh1 = R.slots := by omega
  rw [e1, e2]
  have hq : ∀ t : State, t.heap = H → s.WarmedH t.vm → QC g ad0 sh1 s.heap.size R.cells R.slots Φ args s (.returned (((some (0, x)) : Option PV).map (tv g ad))) t := fun t ht _ => ⟨⟨(some (0, x)), sh, w, ad, rfl, hΦ, fun v hv => by cases hv; exact hs _ List.mem_cons_self, h1, hsz.1, hsz.2, by rw [ht]; exact hr.1, hr.2.1, hr.2.2.2⟩, hr.2.2.1.F ht⟩
  exact W.zret hx hb (hrt.trans hret) (narC h01) hq hr.2.2.1.2.2 d hlk
theorem s_breturn {sh0 : List Sh} (d : decode μ.2.1 pc = .ok (.ireturn, 1)) (hR : RetOK mc ms Φ ρ sh0) (hret : μ.2.2.2 = some .byte) (hsz : sh.length = sh0.length + mc ∧ SZ sh = SZ sh0 + ms) (hΦ : Φ (some (0, 0)) sh w) : At μ δ ρ sh pc ls [(0, 0)] w := by
  obtain ⟨⟨p, l, e, R, s⟩, ⟨m, args, below, meth, c⟩, ⟨g, ad0, sh1⟩, Q⟩ := ρ
  obtain ⟨rfl, rfl, rfl, rfl⟩ := hR
  intro C ad H locs lsa h1 h2 h3 hr hl hi hs
  obtain ⟨hx, hb, hrt, hml, hlk, -⟩ := id C
  have e1 : sh.length - sh1.length = R.cells := by omega
  have e2 : SZ sh - SZ sh1 = R.slots := by omega
  rw [e1, e2]
  have hq : ∀ t : State, t.heap = H → s.WarmedH t.vm → QC g ad0 sh1 s.heap.size R.cells R.slots Φ args s (.returned (((some (0, 0)) : Option PV).map (tv g ad))) t := fun t ht _ => ⟨⟨(some (0, 0)), sh, w, ad, rfl, hΦ, fun v hv => by cases hv; exact hs _ List.mem_cons_self, h1, hsz.1, hsz.2, by rw [ht]; exact hr.1, hr.2.1, hr.2.2.2⟩, hr.2.2.1.F ht⟩
  exact W.zret hx hb (hrt.trans hret) rfl hq hr.2.2.1.2.2 d hlk

theorem s_invVS {idx n : Nat} {μ' : Mu} {i : Nat} {as : List PV} (d : decode μ.2.1 pc = .ok (.invokevirtual idx, 3)) (kv : KV μ' n) (ml : Cond.methodLink μ.1.cls idx μ'.1 ∈ TS) (hc : Call dc mc ms μ' ((3, (i : Int)) :: as) sh w Φ) (hdc : dc + 1 ≤ δ.1) (hi9 : i < 19) (hrn : "java/lang/String" = μ'.1.cls) (hn : as.length = n) (hstk : stk = as.reverse ++ (3, (i : Int)) :: st) (hcat : catS st ≤ 8) (hroom : sh.length + mc ≤ δ.2.1 ∧ SZ sh + ms ≤ δ.2.2)
    (kk : ∀ (r : Option PV) (sh1 : List Sh) (w1 : Wd), Φ r sh1 w1 → sh1.length = sh.length + mc → SZ sh1 = SZ sh + ms → At μ δ ρ sh1 (pc + 3) ls (r.toList ++ st) w1) : At μ δ ρ sh pc ls stk w := by
  obtain ⟨⟨p, l, e, R, s⟩, ⟨m, args, below, meth, c⟩, ⟨g, ad0, sh0⟩, Q⟩ := ρ
  intro C ad H locs lsa h1 h2 h3 hr hl hi hs
  obtain ⟨hx, hb, -, hml, -, hown, -, hts, hK, hE, hd1, hd2, hd3, hd4⟩ := id C
  subst hstk
  simp only [List.forall_mem_append, List.mem_reverse, List.forall_mem_cons] at hs
  have hA : ∀ q, s.heap.size ≤ q → AA ad0 sh0.length s.heap.size q := fun q hq => Or.inr hq
  have hAc := AA_sub hr.2.1 hr.2.2.1 hA
  have hM := hc l g ad H.size (R.frames - 1) (by omega)
  have hnL := kv.1.2.2.2
  have hRm : (RMd (R.frames - 1) mc ms).frames + 1 ≤ R.frames ∧ 8 + (μ'.2.2.1 + 11) + (RMd (R.frames - 1) mc ms).locals ≤ R.locals := ⟨by show R.frames - 1 + 1 ≤ R.frames; omega, by show 8 + (μ'.2.2.1 + 11) + 40 * (R.frames - 1) ≤ R.locals; omega⟩
  have hst : (as.reverse ++ (3, (i : Int)) :: st).map (tv g ad) = (as.map (tv g ad)).reverse ++ .ref (g.2.2.1 i) :: st.map (tv g ad) := by
    rw [List.map_append, List.map_reverse, List.map_cons]; rfl
  have hca : (.ref (g.2.2.1 i) :: as.map (tv g ad)) = ((3, (i : Int)) :: as).map (tv g ad) := by rw [List.map_cons]; rfl
  have hPU : ∀ U : State, U.heap = H → s.WarmedH U.vm → va_Pc (((3, (i : Int)) :: as).map (tv g ad)) (PCB g ad sh w H.size ((3, (i : Int)) :: as)) (Value.ref (g.2.2.1 i) :: as.map (tv g ad)).toArray U := fun U hU hW => ⟨by rw [hca], by rw [hU], by rw [hU]; exact hr.1, hr.2.1.weaken (fun _ _ _ _ => trivial), va_K.moved hW.alike hK, by rw [hU]; exact EV.warm hW (ev_sub hr.2.1 hr.2.2.1 hA hE), hr.2.2.2, List.forall_mem_cons.mpr ⟨hs.2.1, hs.1⟩⟩
  rw [hst]
  obtain ⟨kM, kI, kSel⟩ := kv
  have hG : GoodIn (wsM μ) (wsV μ.1.cls idx μ'.1.cls μ'.1 (wsM μ')) := goodIn_TS (fun q hq => by
    rcases List.mem_append.mp hq with hq | hq
    · simp only [List.mem_cons, List.not_mem_nil, or_false] at hq
      rcases hq with rfl | rfl | rfl | rfl
      · exact ml
      · exact kI
      · exact kSel
      · exact kM.2.1
    · exact kM.words q hq)
  have cw := cwV (R := R) (rm := RMd (R.frames - 1) mc ms) (C := μ'.1.cls) (index := idx) (own := μ.1.cls) n hts hG rfl rfl rfl ⟨rfl, kM.2.2.1⟩ hRm
  refine run_call (ad := ad) (sh := sh) (g := g) (Φ := Φ) (va_runV (As := as.map (tv g ad)) (rest := st.map (tv g ad)) ⟨hx, hb, hml, hown, hts⟩ hM cw ⟨pcb_blind, hrn ▸ vk_recv hE.2.1 hi9 hr.2.2.1, hPU⟩ rfl (by simp; exact hn) hl.1 rfl (lv_room (by rw [catS_eq]; exact hcat)) d ⟨by show sh.length - sh0.length + mc ≤ R.cells; omega, by show SZ sh - SZ sh0 + ms ≤ R.slots; omega⟩) hr.2.2.1 hAc hAc (fun r sh1 w1 ad1 H1 locs1 hΦ hin had hlen hsz hP hD hW hS => ?_)
  have kk1 := kk r sh1 w1 hΦ hlen hsz C ad1 H1 locs1 lsa (fun k hk => (had k (by omega)).trans (h1 k hk)) ⟨by omega, by omega⟩ ⟨by omega, by omega⟩ ⟨hP, hD, hS, hW⟩ (by
    have : tvl g ad1 ls = tvl g ad ls := List.map_congr_left (fun q hq => by rw [tv_agree had (hi q hq)])
    rw [this]
    exact hl) (fun q hq => InV.mono (by omega) (hi q hq)) (fun v hv => by
    rcases List.mem_append.mp hv with hv | hv
    · cases r with
      | none => cases hv
      | some v' =>
        have : v = v' := by simpa using hv
        exact this ▸ hin v' rfl
    · exact InV.mono (by omega) (hs.2.2 v hv))
  have e1 : sh1.length - sh0.length = sh.length - sh0.length + mc := by omega
  have e2 : SZ sh1 - SZ sh0 = SZ sh - SZ sh0 + ms := by omega
  rw [e1, e2] at kk1
  have e3 : (r.toList ++ st).map (tv g ad1) = (r.map (tv g ad1)).toList ++ st.map (tv g ad) := by
    rw [List.map_append]
    congr 1
    · cases r <;> rfl
    · exact List.map_congr_left (fun v hv => tv_agree had (hs.2.2 v hv))
  rw [e3] at kk1
  exact kk1

end TEXTS
section NTEXTS
variable {μ : Mu} {d : Nat} {ρ : Rh} {pc : Nat} {ls : List (Nat × PV)} {st stk : List PV} {w : Wd} {Ψ : Option PV → Wd → Prop}
theorem n_cret {x : Int} (dd : decode μ.2.1 pc = .ok (.ireturn, 1)) (hR : RetN Ψ ρ) (hret : μ.2.2.2 = some .char) (h01 : 0 ≤ x ∧ x ≤ 122) (hΨ : Ψ (some (0, x)) w) : AtN μ d ρ pc ls [(0, x)] w := s_creturn dd hR hret h01 ⟨(Nat.add_zero _).symm, (Nat.add_zero _).symm⟩ ⟨rfl, hΨ⟩
theorem n_bret (dd : decode μ.2.1 pc = .ok (.ireturn, 1)) (hR : RetN Ψ ρ) (hret : μ.2.2.2 = some .byte) (hΨ : Ψ (some (0, 0)) w) : AtN μ d ρ pc ls [(0, 0)] w := s_breturn dd hR hret ⟨(Nat.add_zero _).symm, (Nat.add_zero _).symm⟩ ⟨rfl, hΨ⟩
theorem n_invVS' {idx n dc i : Nat} {μ' : Mu} {as : List PV} (dd : decode μ.2.1 pc = .ok (.invokevirtual idx, 3)) (kv : KV μ' n) (ml : Cond.methodLink μ.1.cls idx μ'.1 ∈ TS) (hc : CallN dc μ' ((3, (i : Int)) :: as) w Ψ) (hdc : dc + 1 ≤ d) (hi9 : i < 19) (hrn : "java/lang/String" = μ'.1.cls) (hn : as.length = n) (hstk : stk = as.reverse ++ (3, (i : Int)) :: st) (hcat : catS st ≤ 8) (kk : ∀ r w1, Ψ r w1 → AtN μ d ρ (pc + 3) ls (r.toList ++ st) w1) : AtN μ d ρ pc ls stk w :=
  s_invVS dd kv ml hc hdc hi9 hrn hn hstk hcat ⟨Nat.le_refl _, Nat.le_refl _⟩ (fun r sh1 w1 h _ _ => by obtain ⟨rfl, h⟩ := h; exact kk r w1 h)
theorem n_invVS {idx n dc i : Nat} {μ' : Mu} {as : List PV} {v : PV} {w1 : Wd} (dd : decode μ.2.1 pc = .ok (.invokevirtual idx, 3)) (kv : KV μ' n) (ml : Cond.methodLink μ.1.cls idx μ'.1 ∈ TS) (hc : CallN dc μ' ((3, (i : Int)) :: as) w (RV v w1)) (hdc : dc + 1 ≤ d) (hi9 : i < 19) (hrn : "java/lang/String" = μ'.1.cls) (hn : as.length = n) (hstk : stk = as.reverse ++ (3, (i : Int)) :: st) (hcat : catS st ≤ 8) (kk : AtN μ d ρ (pc + 3) ls (v :: st) w1) : AtN μ d ρ pc ls stk w :=
  n_invVS' dd kv ml hc hdc hi9 hrn hn hstk hcat (fun r w1 h => by obtain ⟨rfl, rfl⟩ := h; exact kk)
end NTEXTS

theorem fls_co : Cond.fieldLink "java/lang/String" 15 "java/lang/String" "coder" "B" ∈ TS := mem_T 8 228 rfl rfl
theorem fls_va : Cond.fieldLink "java/lang/String" 9 "java/lang/String" "value" "[B" ∈ TS := mem_T 8 229 rfl rfl
theorem fls_cs : Cond.fieldLink "java/lang/String" 38 "java/lang/String" "COMPACT_STRINGS" "Z" ∈ TS := mem_T 3 234 rfl rfl
theorem fls_fz : Cond.fieldLink "java/lang/String" 1053 "jdk/internal/util/Preconditions" "SIOOBE_FORMATTER" "Ljava/util/function/BiFunction;" ∈ TS := mem_T 4 2 rfl rfl
