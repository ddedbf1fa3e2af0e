/-! THE LAW's start: what the statement gives. -/
theorem TS_in {w : Cond} (h : w ∈ TS) : w ∈ lw_tbl := (List.mem_filter.mp h).1
def tmS (i : Nat) : Term := Term.string (STs.getD i ("", 0, "")).1 (STs.getD i ("", 0, "")).2.1
def vaS (i : Nat) : Term := Term.field (tmS i) "java/lang/String" "value" "[B"
def blS (i : Nat) : List Cond := ([Cond.exactly (tmS i) "java/lang/String", Cond.eq (.field (tmS i) "java/lang/String" "coder" "B") (.int 0), Cond.arrayOf (vaS i) .byte, Cond.eq (.length (vaS i)) (.int (Int32.ofNat (lenS.getD i 0)))] ++ (List.range (lenS.getD i 0)).map (fun j => Cond.eq (.elem (vaS i) (.int (Int32.ofNat j))) (.int ((bytS.getD i []).getD j 0)))) ++ (List.range i).map (fun j => Cond.not (Cond.eq (tmS j) (tmS i)))
def hdS : List Cond := [Cond.count 1, Cond.isRef (.arg 0), Cond.arrayOf (.arg 0) .int, Cond.le (.length (.arg 0)) (.int 3072), Cond.eq (.static "java/lang/String" "COMPACT_STRINGS" "Z") (.int 1), Cond.isRef (.static "jdk/internal/util/Preconditions" "SIOOBE_FORMATTER" "Ljava/util/function/BiFunction;"), Cond.eq (.static "java/lang/StringUTF16" "$assertionsDisabled" "Z") (.int 1), Cond.eq (.static "java/lang/StringUTF16" "HI_BYTE_SHIFT" "I") (.int 0), Cond.eq (.static "java/lang/StringUTF16" "LO_BYTE_SHIFT" "I") (.int 8)]
def alS : List Cond := hdS ++ (List.range 19).flatMap blS
set_option maxRecDepth 100000 in
theorem alS_eq : flatC (Jvm.Cond.and given_1 narrow_1) = alS := by decide +kernel
theorem alS_bl {i : Nat} (hi : i < 19) {c : Cond} (h : c ∈ blS i) : c ∈ alS := List.mem_append_right _ (List.mem_flatMap.mpr ⟨i, List.mem_range.mpr hi, h⟩)
theorem alS_hd {c : Cond} (i : Nat) (h : hdS[i]? = some c) : c ∈ alS := List.mem_append_left _ (List.mem_of_getElem? h)
theorem vk_S.other {N : Nat} {len : List Nat} {byt : List (List Int32)} {adK adV adK2 : Nat → Nat} {A : Nat → Prop} {U : State} {H : Heap} (h : vk_S N len byt adK adV A U H) (e : ∀ i, i < N → adK2 i = adK i) : vk_S N len byt adK2 adV A U H :=
  ⟨fun i hi => by rw [e i hi]; exact h.1 i hi, fun i j hi hj e9 => h.2 i j hi hj (by rw [← e i hi, ← e j hj]; exact e9)⟩
theorem sr_0 : Cond.stringRef "TalkingReels$Tape" 72 "bar   fee   keep  when  or    and   not   maker track tongueframeswear  firm  seats band  price week  " ∈ lw_tbl := tabs_in 3 (List.mem_of_getElem? (i := 225) rfl)
theorem sr_1 : Cond.stringRef "TalkingReels$Tape" 61 ";+-*/()<=>" ∈ lw_tbl := tabs_in 4 (List.mem_of_getElem? (i := 30) rfl)
theorem sr_2 : Cond.stringRef "TalkingReelsModel" 296 "bar" ∈ lw_tbl := tabs_in 7 (List.mem_of_getElem? (i := 210) rfl)
theorem sr_3 : Cond.stringRef "TalkingReelsModel" 302 "fee" ∈ lw_tbl := tabs_in 7 (List.mem_of_getElem? (i := 217) rfl)
theorem sr_4 : Cond.stringRef "TalkingReelsModel" 304 "keep" ∈ lw_tbl := tabs_in 7 (List.mem_of_getElem? (i := 218) rfl)
theorem sr_5 : Cond.stringRef "TalkingReelsModel" 306 "when" ∈ lw_tbl := tabs_in 7 (List.mem_of_getElem? (i := 219) rfl)
theorem sr_6 : Cond.stringRef "TalkingReelsModel" 307 "or" ∈ lw_tbl := tabs_in 7 (List.mem_of_getElem? (i := 220) rfl)
theorem sr_7 : Cond.stringRef "TalkingReelsModel" 309 "and" ∈ lw_tbl := tabs_in 7 (List.mem_of_getElem? (i := 221) rfl)
theorem sr_8 : Cond.stringRef "TalkingReelsModel" 311 "not" ∈ lw_tbl := tabs_in 7 (List.mem_of_getElem? (i := 222) rfl)
theorem sr_9 : Cond.stringRef "TalkingReelsModel" 313 "maker" ∈ lw_tbl := tabs_in 7 (List.mem_of_getElem? (i := 223) rfl)
theorem sr_10 : Cond.stringRef "TalkingReelsModel" 314 "track" ∈ lw_tbl := tabs_in 7 (List.mem_of_getElem? (i := 224) rfl)
theorem sr_11 : Cond.stringRef "TalkingReelsModel" 315 "tongue" ∈ lw_tbl := tabs_in 7 (List.mem_of_getElem? (i := 225) rfl)
theorem sr_12 : Cond.stringRef "TalkingReelsModel" 316 "frames" ∈ lw_tbl := tabs_in 7 (List.mem_of_getElem? (i := 226) rfl)
theorem sr_13 : Cond.stringRef "TalkingReelsModel" 317 "wear" ∈ lw_tbl := tabs_in 7 (List.mem_of_getElem? (i := 227) rfl)
theorem sr_14 : Cond.stringRef "TalkingReelsModel" 318 "firm" ∈ lw_tbl := tabs_in 7 (List.mem_of_getElem? (i := 228) rfl)
theorem sr_15 : Cond.stringRef "TalkingReelsModel" 320 "seats" ∈ lw_tbl := tabs_in 7 (List.mem_of_getElem? (i := 229) rfl)
theorem sr_16 : Cond.stringRef "TalkingReelsModel" 321 "band" ∈ lw_tbl := tabs_in 7 (List.mem_of_getElem? (i := 230) rfl)
theorem sr_17 : Cond.stringRef "TalkingReelsModel" 322 "price" ∈ lw_tbl := tabs_in 7 (List.mem_of_getElem? (i := 231) rfl)
theorem sr_18 : Cond.stringRef "TalkingReelsModel" 323 "week" ∈ lw_tbl := tabs_in 7 (List.mem_of_getElem? (i := 232) rfl)
theorem wl_cs : Cond.laysStatic "java/lang/String" "COMPACT_STRINGS" "Z" ∈ lw_tbl := tabs_in 3 (List.mem_of_getElem? (i := 235) rfl)
theorem wl_sf : Cond.laysStatic "jdk/internal/util/Preconditions" "SIOOBE_FORMATTER" "Ljava/util/function/BiFunction;" ∈ lw_tbl := tabs_in 4 (List.mem_of_getElem? (i := 3) rfl)
theorem wi_st : Cond.initialized "java/lang/String" ∈ lw_tbl := tabs_in 1 (List.mem_of_getElem? (i := 14) rfl)
theorem wi_pc : Cond.initialized "jdk/internal/util/Preconditions" ∈ lw_tbl := tabs_in 1 (List.mem_of_getElem? (i := 16) rfl)
theorem wo_sc : Cond.arrayOver (.object "TalkingReels$Script") ∈ lw_tbl := tabs_in 2 (List.mem_of_getElem? (i := 29) rfl)
theorem wo_ii : Cond.arrayOver (.array .int) ∈ lw_tbl := tabs_in 2 (List.mem_of_getElem? (i := 69) rfl)
theorem nw_on {w : Cond} (h : w ∈ NWs) : w ∈ lw_tbl ∧ w.onTables = true := by
  obtain ⟨h1, h2⟩ := List.mem_filter.mp h
  refine ⟨h1, ?_⟩
  simp only [Bool.and_eq_true] at h2
  revert h2
  cases w <;> intro h2 <;> first | rfl | exact absurd h2.2 (by simp)
/-- the classes have numbers -/
theorem lw_cls {args : Array Value} {s : State} (hts : ∀ w ∈ lw_tbl, w.before args s = true) : ∃ (dC : Nat → ClassId) (dI : Nat → Nat → Nat), ∀ (k : Nat) (q : vw_C), CL[k]? = some q → u_Kn s q.1 q.2.1 q.2.2 (dC k) (dI k) := by
  have h : ∀ k : Nat, ∃ x : ClassId × (Nat → Nat), ∀ q : vw_C, CL[k]? = some q → u_Kn s q.1 q.2.1 q.2.2 x.1 x.2 := by
    intro k
    match k with
    | 0 =>
      obtain ⟨cC, iS, hh⟩ := u_known (C := RX0) (T := TX0) (N := 17) (n := 17) hts (fun w hw => TS_in (ws_X0 w hw)) (hts _ (TS_in ib_X0))
      exact ⟨(cC, iS), fun q hq => by cases hq; exact hh⟩
    | 1 =>
      obtain ⟨cC, iS, hh⟩ := u_known (C := RX1) (T := TX1) (N := 7) (n := 7) hts (fun w hw => TS_in (ws_X1 w hw)) (hts _ (TS_in ib_X1))
      exact ⟨(cC, iS), fun q hq => by cases hq; exact hh⟩
    | 2 =>
      obtain ⟨cC, iS, hh⟩ := u_known (C := RX2) (T := TX2) (N := 8) (n := 8) hts (fun w hw => TS_in (ws_X2 w hw)) (hts _ (TS_in ib_X2))
      exact ⟨(cC, iS), fun q hq => by cases hq; exact hh⟩
    | 3 =>
      obtain ⟨cC, iS, hh⟩ := u_known (C := RX3) (T := TX3) (N := 16) (n := 16) hts (fun w hw => TS_in (ws_X3 w hw)) (hts _ (TS_in ib_X3))
      exact ⟨(cC, iS), fun q hq => by cases hq; exact hh⟩
    | 4 =>
      obtain ⟨cC, iS, hh⟩ := u_known (C := RX4) (T := TX4) (N := 5) (n := 5) hts (fun w hw => TS_in (ws_X4 w hw)) (hts _ (TS_in ib_X4))
      exact ⟨(cC, iS), fun q hq => by cases hq; exact hh⟩
    | 5 =>
      obtain ⟨cC, iS, hh⟩ := u_known (C := RX5) (T := TX5) (N := 16) (n := 16) hts (fun w hw => TS_in (ws_X5 w hw)) (hts _ (TS_in ib_X5))
      exact ⟨(cC, iS), fun q hq => by cases hq; exact hh⟩
    | 6 =>
      obtain ⟨cC, iS, hh⟩ := u_known (C := RX6) (T := TX6) (N := 6) (n := 6) hts (fun w hw => TS_in (ws_X6 w hw)) (hts _ (TS_in ib_X6))
      exact ⟨(cC, iS), fun q hq => by cases hq; exact hh⟩
    | 7 =>
      obtain ⟨cC, iS, hh⟩ := u_known (C := RX7) (T := TX7) (N := 10) (n := 10) hts (fun w hw => TS_in (ws_X7 w hw)) (hts _ (TS_in ib_X7))
      exact ⟨(cC, iS), fun q hq => by cases hq; exact hh⟩
    | 8 =>
      obtain ⟨cC, iS, hh⟩ := u_known (C := RX8) (T := TX8) (N := 6) (n := 6) hts (fun w hw => TS_in (ws_X8 w hw)) (hts _ (TS_in ib_X8))
      exact ⟨(cC, iS), fun q hq => by cases hq; exact hh⟩
    | 9 =>
      obtain ⟨cC, iS, hh⟩ := u_known (C := RX9) (T := TX9) (N := 6) (n := 6) hts (fun w hw => TS_in (ws_X9 w hw)) (hts _ (TS_in ib_X9))
      exact ⟨(cC, iS), fun q hq => by cases hq; exact hh⟩
    | 10 =>
      obtain ⟨cC, iS, hh⟩ := u_known (C := RX10) (T := TX10) (N := 7) (n := 7) hts (fun w hw => TS_in (ws_X10 w hw)) (hts _ (TS_in ib_X10))
      exact ⟨(cC, iS), fun q hq => by cases hq; exact hh⟩
    | 11 =>
      obtain ⟨cC, iS, hh⟩ := u_known (C := RX11) (T := TX11) (N := 11) (n := 11) hts (fun w hw => TS_in (ws_X11 w hw)) (hts _ (TS_in ib_X11))
      exact ⟨(cC, iS), fun q hq => by cases hq; exact hh⟩
    | 12 =>
      obtain ⟨cC, iS, hh⟩ := u_known (C := RX12) (T := TX12) (N := 98) (n := 98) hts (fun w hw => TS_in (ws_X12 w hw)) (hts _ (TS_in ib_X12))
      exact ⟨(cC, iS), fun q hq => by cases hq; exact hh⟩
    | k + 13 =>
      obtain ⟨cC, iS, -⟩ := u_known (C := RX0) (T := TX0) (N := 17) (n := 17) hts (fun w hw => TS_in (ws_X0 w hw)) (hts _ (TS_in ib_X0))
      exact ⟨(cC, iS), fun q hq => by
        have hl := (List.getElem?_eq_some_iff.mp hq).1
        have hl2 : k + 13 < 13 := hl
        omega⟩
  obtain ⟨f, hf⟩ := Classical.axiomOfChoice h
  exact ⟨fun k => (f k).1, fun k => (f k).2, hf⟩
/-- the array classes stand -/
theorem lw_arr {args : Array Value} {s : State} (hts : ∀ w ∈ lw_tbl, w.before args s = true) : ∃ aC : Nat → ClassId, ∀ (k : Nat) (q : ClassId × FieldType), [(aC 1, FieldType.int), (aC 2, .boolean), (aC 3, .long), (aC 4, .array .int), (aC 5, .object "TalkingReels$Script")][k]? = some q → ArrOfT s q.1 q.2 ∧ va_RA s q.1 q.2 := by
  obtain ⟨cI, kI, mI, i1, i2, i3⟩ := Cond.arrayClass_spec (hts _ (TS_in ac_I))
  obtain ⟨cZ, kZ, mZ, z1, z2, z3⟩ := Cond.arrayClass_spec (hts _ (TS_in ac_Z))
  obtain ⟨cJ, kJ, mJ, j1, j2, j3⟩ := Cond.arrayClass_spec (hts _ (TS_in ac_J))
  obtain ⟨mA, cA, kA, a1, a2, a3, a4⟩ := Cond.arrayOver_specA (hts _ wo_ii)
  obtain ⟨mS, cS, kS, s1, s2, s3, s4, s5⟩ := Cond.arrayOver_spec (hts _ wo_sc)
  refine ⟨fun k => if k = 1 then cI else if k = 2 then cZ else if k = 3 then cJ else if k = 4 then cA else cS, fun k q hq => ?_⟩
  match k, hq with
  | 0, hq => cases hq; exact ⟨fun N z => ⟨(fun k h => by cases h), kI, i2, mI, i3⟩, i1⟩
  | 1, hq => cases hq; exact ⟨fun N z => ⟨(fun k h => by cases h), kZ, z2, mZ, z3⟩, z1⟩
  | 2, hq => cases hq; exact ⟨fun N z => ⟨(fun k h => by cases h), kJ, j2, mJ, j3⟩, j1⟩
  | 3, hq => cases hq; exact ⟨fun N z => ⟨(fun k h => by cases h), kA, a2, mA, a3⟩, a4⟩
  | 4, hq => cases hq; exact ⟨fun N z => ⟨(fun k h => by cases h), kS, s3, mS, s4⟩, ⟨kS, mS, s3, s4, s1, s5⟩⟩
  | k + 5, hq =>
    have hl := (List.getElem?_eq_some_iff.mp hq).1
    have hl2 : k + 5 < 5 := hl
    omega
/-- the texts stand -/
theorem lw_txt {args : Array Value} {s : State} {A : Nat → Prop} (hf : ∀ c ∈ alS, c.before args s = true) (hA : ∀ a : Nat, a < s.heap.size → ¬ A a) : ∃ adK adV : Nat → Nat, vk_S 19 lenS bytS adK adV A s s.heap ∧ ∀ i : Nat, i < 19 → (tmS i).eval args s none [] s = some (.ref (adK i)) := by
  refine vk_Sof (tm := tmS) (by decide +kernel) (fun i hi => hf _ (alS_bl hi ?_)) (fun i hi => hf _ (alS_bl hi ?_)) (fun i hi => hf _ (alS_bl hi ?_)) (fun i hi => hf _ (alS_bl hi ?_)) (fun i hi j hj => hf _ (alS_bl hi ?_)) (fun i j hi hj hij => ?_) hA
  · exact List.mem_append_left _ (List.mem_append_left _ (List.mem_of_getElem? (i := 0) rfl))
  · exact List.mem_append_left _ (List.mem_append_left _ (List.mem_of_getElem? (i := 1) rfl))
  · exact List.mem_append_left _ (List.mem_append_left _ (List.mem_of_getElem? (i := 2) rfl))
  · exact List.mem_append_left _ (List.mem_append_left _ (List.mem_of_getElem? (i := 3) rfl))
  · exact List.mem_append_left _ (List.mem_append_right _ (List.mem_map.mpr ⟨j, List.mem_range.mpr hj, rfl⟩))
  · rcases Nat.lt_or_gt_of_ne hij with h | h
    · exact Or.inl (hf _ (alS_bl hj (List.mem_append_right _ (List.mem_map.mpr ⟨i, List.mem_range.mpr h, rfl⟩))))
    · exact Or.inr (hf _ (alS_bl hi (List.mem_append_right _ (List.mem_map.mpr ⟨j, List.mem_range.mpr h, rfl⟩))))
/-- each text's word -/
theorem lw_sr {i : Nat} {q : String × Nat × String} (h : STs[i]? = some q) : Cond.stringRef q.1 q.2.1 q.2.2 ∈ lw_tbl ∧ i < 19 ∧ tmS i = Term.string q.1 q.2.1 := by
  have hl := (List.getElem?_eq_some_iff.mp h).1
  have hl : i < 19 := hl
  refine ⟨?_, hl, ?_⟩
  · match i, hl, h with
    | 0, _, h => cases h; exact sr_0
    | 1, _, h => cases h; exact sr_1
    | 2, _, h => cases h; exact sr_2
    | 3, _, h => cases h; exact sr_3
    | 4, _, h => cases h; exact sr_4
    | 5, _, h => cases h; exact sr_5
    | 6, _, h => cases h; exact sr_6
    | 7, _, h => cases h; exact sr_7
    | 8, _, h => cases h; exact sr_8
    | 9, _, h => cases h; exact sr_9
    | 10, _, h => cases h; exact sr_10
    | 11, _, h => cases h; exact sr_11
    | 12, _, h => cases h; exact sr_12
    | 13, _, h => cases h; exact sr_13
    | 14, _, h => cases h; exact sr_14
    | 15, _, h => cases h; exact sr_15
    | 16, _, h => cases h; exact sr_16
    | 17, _, h => cases h; exact sr_17
    | 18, _, h => cases h; exact sr_18
    | i + 19, hl, _ => omega
  · unfold tmS
    rw [List.getD_eq_getElem?_getD, h]
    all_goals rfl
