/-! CALLS AND RETURNS. -/
theorem goodIn_TS {μ : Mu} {ws : List Cond} (h : ∀ w ∈ ws, w ∈ TS) : GoodIn (wsM μ) ws := fun w hw => ⟨List.mem_cons_of_mem _ (h w hw), good_of_word (good_TS (h w hw))⟩
/-- what the tables say of a method that is called: its code, its class is ready, so many arguments, not too many locals -/
def KM (μ : Mu) (n : Nat) : Prop := Cond.code μ.1 μ.2.1 μ.2.2.1 μ.2.2.2 ∈ TS ∧ Cond.initialized μ.1.cls ∈ TS ∧ (μ.1.cls ≠ "java/lang/invoke/MethodHandle" ∧ μ.1.cls ≠ "java/lang/invoke/VarHandle" ∧ (parseMethodDescriptor μ.1.desc).map (fun d => d.parameters.length) = some n) ∧ μ.2.2.1 ≤ 21
def KV (μ : Mu) (n : Nat) : Prop := KM μ n ∧ Cond.instanceMethod μ.1 ∈ TS ∧ Cond.selects μ.1.cls μ.1 μ.1 ∈ TS
def KS (μ : Mu) (n : Nat) : Prop := KM μ n ∧ Cond.static μ.1 ∈ TS
def KI (μ : Mu) (n : Nat) : Prop := KM μ n ∧ Cond.instanceMethod μ.1 ∈ TS ∧ μ.1.name = "<init>" ∧ μ.2.2.2 = none
theorem KM.words {μ : Mu} {n : Nat} (h : KM μ n) : ∀ w ∈ wsM μ, w ∈ TS := fun w hw => by
  rcases List.mem_cons.mp hw with rfl | hw
  · exact h.1
  · exact hw
def catS (st : List PV) : Nat := (st.map (fun v => if v.1 = 1 then 2 else 1)).sum
theorem catS_eq (g : Gt) (ad : Nat → Nat) (st : List PV) : ((st.map (tv g ad)).map fun v => v.category).sum = catS st := by
  unfold catS
  rw [List.map_map]
  congr 1
  apply List.map_congr_left
  intro v _
  exact tv_cat g ad v
theorem tv_agree {g : Gt} {ad ad1 : Nat → Nat} {N : Nat} {v : PV} (h : ∀ k, k < N → ad1 k = ad k) (hv : InV N v) : tv g ad1 v = tv g ad v := by
  obtain ⟨t, z⟩ := v
  rcases t with _ | _ | _ | _ | _ | _ | t <;> try rfl
  obtain ⟨q1, q2⟩ : -1 ≤ z ∧ z < N := hv
  show (if z < 0 then Value.null else .ref (ad1 z.toNat)) = if z < 0 then Value.null else .ref (ad z.toNat)
  by_cases hz : z < 0
  · rw [if_pos hz, if_pos hz]
  · rw [if_neg hz, if_neg hz, h _ (by omega)]
theorem InV.mono {N M : Nat} {v : PV} (h : N ≤ M) (hv : InV N v) : InV M v := by
  obtain ⟨t, z⟩ := v
  rcases t with _ | _ | _ | _ | _ | _ | t <;> try exact hv
  obtain ⟨q1, q2⟩ : -1 ≤ z ∧ z < N := hv
  exact ⟨q1, by show z < M; omega⟩
section RUN
variable {p : Program} {l : Launch} {e : Env} {R : Room} {s : State} {m : MethodId} {args : Array Value} {below : List Frame} {meth : Method} {c : Code} {H : Heap} {locs : List Loc} {cells slots : Nat} {Q : State → Prop} {pc : Nat} {lsa : Array Slot} {rest st0 : List Value} {mc ms : Nat} {free : Addr → Prop} {a : Array Value} {A0 : Nat → Prop} {H0 : Heap}
theorem run_call {g : Gt} {ad : Nat → Nat} {sh : List Sh} {Φ : Option PV → List Sh → Wd → Prop} (hr : va_Run p l e R s m args below meth c H locs cells slots mc ms (F0 m pc lsa st0) rest (QC g ad sh H.size mc ms Φ a) free) (hS : va_S A0 H0 H locs) (hA : ∀ q, AA ad sh.length H.size q → A0 q) (hf : ∀ q, free q → A0 q)
    (kk : ∀ (r : Option PV) (sh1 : List Sh) (w1 : Wd) (ad1 : Nat → Nat) (H1 : Heap) (locs1 : List Loc), Φ r sh1 w1 → (∀ v, r = some v → InV sh1.length v) → (∀ k, k < sh.length → ad1 k = ad k) → sh1.length = sh.length + mc → SZ sh1 = SZ sh + ms → va_P g.1 CL (wl g ad1 sh1 w1) H1 → va_D A0 (wl g ad1 sh1 w1) → WF sh1 w1 → va_S A0 H0 H1 locs1 → W p l e R s m args below meth c H1 locs1 (cells + mc) (slots + ms) Q (F0 m (pc + 3) lsa ((r.map (tv g ad1)).toList ++ rest))) : W p l e R s m args below meth c H locs cells slots Q (F0 m pc lsa st0) := by
  intro T hT X
  obtain ⟨v, st₀, t, T', L, h0, X', hL, e1, e2, ⟨⟨r, sh1, w1, ad1, hv, hp, hi, ha, hn, hz, hP, hD, hW⟩, hz1, hk⟩, st⟩ := hr T hT X
  cases hv
  rw [h0] at hz1 hk
  obtain ⟨t2, a1, b1⟩ := kk r sh1 w1 ad1 T'.heap (locs ++ L) hp hi ha hn hz (by rw [e1]; exact hP) (hD.weaken (fun _ _ _ q => hA _ q)) hW
    ⟨Nat.le_trans hS.1 (by rw [e1]; exact hz1), fun q h1 h2 => by rw [e1, hk q (Nat.lt_of_lt_of_le h1 hS.1) (fun z => h2 (hA q z))]; exact hS.2.1 q h1 h2, fun q hq => by
      rcases List.mem_append.mp hq with h | h
      · exact hS.2.2 q h
      · exact hf _ (hL q h)⟩ T' rfl X'
  exact ⟨t2, st t2 a1, b1⟩
end RUN
section CALLS
variable {μ : Mu} {δ : De} {ρ : Rh} {sh : List Sh} {pc : Nat} {ls : List (Nat × PV)} {st stk : List PV} {w : Wd} {dc mc ms : Nat} {Φ : Option PV → List Sh → Wd → Prop}
theorem pcb_blind {g : Gt} {ad : Nat → Nat} {w : Wd} {sz : Nat} {as : List PV} : FrameBlind (va_Pc (as.map (tv g ad)) (PCB g ad sh w sz as)) := fun a U g' mk q => by
  obtain ⟨rfl, q1, q2, q3, q4, q5, q6, q7⟩ := q
  exact ⟨rfl, q1, q2, q3, va_K.moved (u := U) (U := U.calling g' mk _) (Vm.Alike.refl U.vm) q4, EV.same (s := U) (U := U.calling g' mk _) rfl q5, q6, q7⟩
theorem AA_sub {g : Gt} {ad : Nat → Nat} {w : Wd} {A0 : Nat → Prop} {H0 H : Heap} {locs : List Loc} (hD : va_D A0 (wl g ad sh w)) (hS : va_S A0 H0 H locs) (hA : ∀ q, H0.size ≤ q → A0 q) : ∀ q, AA ad sh.length H.size q → A0 q := by
  rintro q (⟨k, hk, rfl⟩ | hq)
  · exact hD.2 k _ (wl_get (List.getElem?_eq_getElem hk))
  · exact hA q (Nat.le_trans hS.1 hq)
theorem ev_sub {g : Gt} {ad : Nat → Nat} {w : Wd} {A0 : Nat → Prop} {s : State} {H : Heap} {locs : List Loc} (hD : va_D A0 (wl g ad sh w)) (hS : va_S A0 s.heap H locs) (hA : ∀ q, s.heap.size ≤ q → A0 q) (h : EV g A0 s s.heap) : EV g (AA ad sh.length H.size) s H :=
  EV.narrow (EV.kept h (fun a h1 h2 => hS.2.1 a h1 h2)) (AA_sub hD hS hA)
theorem s_invV {idx n : Nat} {μ' : Mu} {z : Int} {as : List PV} (d : decode μ.2.1 pc = .ok (.invokevirtual idx, 3)) (kv : KV μ' n) (ml : Cond.methodLink μ.1.cls idx μ'.1 ∈ TS) (hc : Call dc mc ms μ' ((2, z) :: as) sh w Φ) (hdc : dc + 1 ≤ δ.1) (k : Nat) {ci : Nat} {ts : List Nat} {r : vw_C} (hz : z = ((k : Nat) : Int)) (hsh : sh[k]? = some (0, ci, ts)) (hcl : CL[ci]? = some r) (hrn : r.1 = μ'.1.cls) (hn : as.length = n) (hstk : stk = as.reverse ++ (2, z) :: st) (hcat : catS st ≤ 8) (hroom : sh.length + mc ≤ δ.2.1 ∧ SZ sh + ms ≤ δ.2.2)
    (kk : ∀ (r : Option PV) (sh1 : List Sh) (w1 : Wd), Φ r sh1 w1 → sh1.length = sh.length + mc → SZ sh1 = SZ sh + ms → At μ δ ρ sh1 (pc + 3) ls (r.toList ++ st) w1) : At μ δ ρ sh pc ls stk w := by
  obtain ⟨⟨p, l, e, R, s⟩, ⟨m, args, below, meth, c⟩, ⟨g, ad0, sh0⟩, Q⟩ := ρ
  intro C ad H locs lsa h1 h2 h3 hr hl hi hs
  obtain ⟨hx, hb, -, hml, -, hown, -, hts, hK, hE, hd1, hd2, hd3, hd4⟩ := id C
  subst hstk
  simp only [List.forall_mem_append, List.mem_reverse, List.forall_mem_cons] at hs
  have hA : ∀ q, s.heap.size ≤ q → AA ad0 sh0.length s.heap.size q := fun q hq => Or.inr hq
  have hAc := AA_sub hr.2.1 hr.2.2.1 hA
  have hM := hc l g ad H.size (R.frames - 1) (by omega)
  have hnL := kv.1.2.2.2
  have hRm : (RMd (R.frames - 1) mc ms).frames + 1 ≤ R.frames ∧ 8 + (μ'.2.2.1 + 11) + (RMd (R.frames - 1) mc ms).locals ≤ R.locals := ⟨by show R.frames - 1 + 1 ≤ R.frames; omega, by show 8 + (μ'.2.2.1 + 11) + 40 * (R.frames - 1) ≤ R.locals; omega⟩
  subst hz
  have hst : (as.reverse ++ (2, ((k : Nat) : Int)) :: st).map (tv g ad) = (as.map (tv g ad)).reverse ++ .ref (ad k) :: st.map (tv g ad) := by
    rw [List.map_append, List.map_reverse, List.map_cons, tv_ref]
  have hca : (.ref (ad k) :: as.map (tv g ad)) = ((2, ((k : Nat) : Int)) :: as).map (tv g ad) := by rw [List.map_cons, tv_ref]
  have hPU : ∀ U : State, U.heap = H → s.WarmedH U.vm → va_Pc (((2, ((k : Nat) : Int)) :: as).map (tv g ad)) (PCB g ad sh w H.size ((2, ((k : Nat) : Int)) :: as)) (Value.ref (ad k) :: as.map (tv g ad)).toArray U := fun U hU hW => ⟨by rw [hca], by rw [hU], by rw [hU]; exact hr.1, hr.2.1.weaken (fun _ _ _ _ => trivial), va_K.moved hW.alike hK, by rw [hU]; exact EV.warm hW (ev_sub hr.2.1 hr.2.2.1 hA hE), hr.2.2.2, List.forall_mem_cons.mpr ⟨hs.2.1, hs.1⟩⟩
  rw [hst]
  obtain ⟨kM, kI, kSel⟩ := kv
  have hG : GoodIn (wsM μ) (wsV μ.1.cls idx μ'.1.cls μ'.1 (wsM μ')) := goodIn_TS (fun q hq => by
    rcases List.mem_append.mp hq with hq | hq
    · simp only [List.mem_cons, List.not_mem_nil, or_false] at hq
      rcases hq with rfl | rfl | rfl | rfl
      · exact ml
      · exact kI
      · exact kSel
      · exact kM.2.1
    · exact kM.words q hq)
  have cw := cwV (R := R) (rm := RMd (R.frames - 1) mc ms) (C := μ'.1.cls) (index := idx) (own := μ.1.cls) n hts hG rfl rfl rfl ⟨rfl, kM.2.2.1⟩ hRm
  refine run_call (ad := ad) (sh := sh) (g := g) (Φ := Φ) (va_runV (As := as.map (tv g ad)) (rest := st.map (tv g ad)) ⟨hx, hb, hml, hown, hts⟩ hM cw ⟨pcb_blind, hrn ▸ va_recv hK hr.1 hcl (wl_get hsh), hPU⟩ rfl (by simp; exact hn) hl.1 rfl (lv_room (by rw [catS_eq]; exact hcat)) d ⟨by show sh.length - sh0.length + mc ≤ R.cells; omega, by show SZ sh - SZ sh0 + ms ≤ R.slots; omega⟩) hr.2.2.1 hAc hAc (fun r sh1 w1 ad1 H1 locs1 hΦ hin had hlen hsz hP hD hW hS => ?_)
  have kk1 := kk r sh1 w1 hΦ hlen hsz C ad1 H1 locs1 lsa (fun k hk => (had k (by omega)).trans (h1 k hk)) ⟨by omega, by omega⟩ ⟨by omega, by omega⟩ ⟨hP, hD, hS, hW⟩ (by
    have : tvl g ad1 ls = tvl g ad ls := List.map_congr_left (fun q hq => by rw [tv_agree had (hi q hq)])
    rw [this]
    exact hl) (fun q hq => InV.mono (by omega) (hi q hq)) (fun v hv => by
    rcases List.mem_append.mp hv with hv | hv
    · cases r with
      | none => cases hv
      | some v' =>
        have : v = v' := by simpa using hv
        exact this ▸ hin v' rfl
    · exact InV.mono (by omega) (hs.2.2 v hv))
  have e1 : sh1.length - sh0.length = sh.length - sh0.length + mc := by omega
  have e2 : SZ sh1 - SZ sh0 = SZ sh - SZ sh0 + ms := by omega
  rw [e1, e2] at kk1
  have e3 : (r.toList ++ st).map (tv g ad1) = (r.map (tv g ad1)).toList ++ st.map (tv g ad) := by
    rw [List.map_append]
    congr 1
    · cases r <;> rfl
    · exact List.map_congr_left (fun v hv => tv_agree had (hs.2.2 v hv))
  rw [e3] at kk1
  exact kk1
theorem s_invS {idx n : Nat} {μ' : Mu} {as : List PV} (d : decode μ.2.1 pc = .ok (.invokestatic idx, 3)) (kv : KS μ' n) (ml : Cond.methodLink μ.1.cls idx μ'.1 ∈ TS) (hc : Call dc mc ms μ' (as) sh w Φ) (hdc : dc + 1 ≤ δ.1) (hn : as.length = n) (hstk : stk = as.reverse ++ st) (hcat : catS st ≤ 8) (hroom : sh.length + mc ≤ δ.2.1 ∧ SZ sh + ms ≤ δ.2.2)
    (kk : ∀ (r : Option PV) (sh1 : List Sh) (w1 : Wd), Φ r sh1 w1 → sh1.length = sh.length + mc → SZ sh1 = SZ sh + ms → At μ δ ρ sh1 (pc + 3) ls (r.toList ++ st) w1) : At μ δ ρ sh pc ls stk w := by
  obtain ⟨⟨p, l, e, R, s⟩, ⟨m, args, below, meth, c⟩, ⟨g, ad0, sh0⟩, Q⟩ := ρ
  intro C ad H locs lsa h1 h2 h3 hr hl hi hs
  obtain ⟨hx, hb, -, hml, -, hown, -, hts, hK, hE, hd1, hd2, hd3, hd4⟩ := id C
  subst hstk
  simp only [List.forall_mem_append, List.mem_reverse, List.forall_mem_cons] at hs
  have hA : ∀ q, s.heap.size ≤ q → AA ad0 sh0.length s.heap.size q := fun q hq => Or.inr hq
  have hAc := AA_sub hr.2.1 hr.2.2.1 hA
  have hM := hc l g ad H.size (R.frames - 1) (by omega)
  have hnL := kv.1.2.2.2
  have hRm : (RMd (R.frames - 1) mc ms).frames + 1 ≤ R.frames ∧ 8 + (μ'.2.2.1 + 11) + (RMd (R.frames - 1) mc ms).locals ≤ R.locals := ⟨by show R.frames - 1 + 1 ≤ R.frames; omega, by show 8 + (μ'.2.2.1 + 11) + 40 * (R.frames - 1) ≤ R.locals; omega⟩
  have hst : (as.reverse ++ st).map (tv g ad) = (as.map (tv g ad)).reverse ++ st.map (tv g ad) := by
    rw [List.map_append, List.map_reverse]
  have hPU : ∀ U : State, U.heap = H → s.WarmedH U.vm → va_Pc (as.map (tv g ad)) (PCB g ad sh w H.size as) (as.map (tv g ad)).toArray U := fun U hU hW => ⟨rfl, by rw [hU], by rw [hU]; exact hr.1, hr.2.1.weaken (fun _ _ _ _ => trivial), va_K.moved hW.alike hK, by rw [hU]; exact EV.warm hW (ev_sub hr.2.1 hr.2.2.1 hA hE), hr.2.2.2, hs.1⟩
  rw [hst]
  obtain ⟨kM, kSt⟩ := kv
  have hG : GoodIn (wsM μ) (va_wsS μ.1.cls idx μ'.1 (wsM μ')) := goodIn_TS (fun q hq => by
    rcases List.mem_append.mp hq with hq | hq
    · simp only [List.mem_cons, List.not_mem_nil, or_false] at hq
      rcases hq with rfl | rfl | rfl
      · exact ml
      · exact kSt
      · exact kM.2.1
    · exact kM.words q hq)
  have cw := va_cwS (R := R) (rm := RMd (R.frames - 1) mc ms) (index := idx) (own := μ.1.cls) n hts hG rfl rfl rfl kM.2.2.1 hRm
  refine run_call (ad := ad) (sh := sh) (g := g) (Φ := Φ) (va_runS (As := as.map (tv g ad)) (rest := st.map (tv g ad)) ⟨hx, hb, hml, hown, hts⟩ hM cw ⟨pcb_blind, hPU⟩ rfl (by simp; exact hn) hl.1 rfl (lv_room (by rw [catS_eq]; exact hcat)) d ⟨by show sh.length - sh0.length + mc ≤ R.cells; omega, by show SZ sh - SZ sh0 + ms ≤ R.slots; omega⟩) hr.2.2.1 hAc hAc (fun r sh1 w1 ad1 H1 locs1 hΦ hin had hlen hsz hP hD hW hS => ?_)
  have kk1 := kk r sh1 w1 hΦ hlen hsz C ad1 H1 locs1 lsa (fun k hk => (had k (by omega)).trans (h1 k hk)) ⟨by omega, by omega⟩ ⟨by omega, by omega⟩ ⟨hP, hD, hS, hW⟩ (by
    have : tvl g ad1 ls = tvl g ad ls := List.map_congr_left (fun q hq => by rw [tv_agree had (hi q hq)])
    rw [this]
    exact hl) (fun q hq => InV.mono (by omega) (hi q hq)) (fun v hv => by
    rcases List.mem_append.mp hv with hv | hv
    · cases r with
      | none => cases hv
      | some v' =>
        have : v = v' := by simpa using hv
        exact this ▸ hin v' rfl
    · exact InV.mono (by omega) (hs.2 v hv))
  have e1 : sh1.length - sh0.length = sh.length - sh0.length + mc := by omega
  have e2 : SZ sh1 - SZ sh0 = SZ sh - SZ sh0 + ms := by omega
  rw [e1, e2] at kk1
  have e3 : (r.toList ++ st).map (tv g ad1) = (r.map (tv g ad1)).toList ++ st.map (tv g ad) := by
    rw [List.map_append]
    congr 1
    · cases r <;> rfl
    · exact List.map_congr_left (fun v hv => tv_agree had (hs.2 v hv))
  rw [e3] at kk1
  exact kk1
theorem s_invSN {idx n : Nat} {μ' : Mu} {as : List PV} (d : decode μ.2.1 pc = .ok (.invokestatic idx, 3)) (kv : KS μ' n) {host : String} (ml : Cond.methodLinkNest μ.1.cls idx μ'.1 host ∈ NWs) (hc : Call dc mc ms μ' (as) sh w Φ) (hdc : dc + 1 ≤ δ.1) (hn : as.length = n) (hstk : stk = as.reverse ++ st) (hcat : catS st ≤ 8) (hroom : sh.length + mc ≤ δ.2.1 ∧ SZ sh + ms ≤ δ.2.2)
    (kk : ∀ (r : Option PV) (sh1 : List Sh) (w1 : Wd), Φ r sh1 w1 → sh1.length = sh.length + mc → SZ sh1 = SZ sh + ms → At μ δ ρ sh1 (pc + 3) ls (r.toList ++ st) w1) : At μ δ ρ sh pc ls stk w := by
  obtain ⟨⟨p, l, e, R, s⟩, ⟨m, args, below, meth, c⟩, ⟨g, ad0, sh0⟩, Q⟩ := ρ
  intro C ad H locs lsa h1 h2 h3 hr hl hi hs
  obtain ⟨hx, hb, -, hml, -, hown, -, hts, hK, hE, hd1, hd2, hd3, hd4⟩ := id C
  subst hstk
  simp only [List.forall_mem_append, List.mem_reverse, List.forall_mem_cons] at hs
  have hA : ∀ q, s.heap.size ≤ q → AA ad0 sh0.length s.heap.size q := fun q hq => Or.inr hq
  have hAc := AA_sub hr.2.1 hr.2.2.1 hA
  have hM := hc l g ad H.size (R.frames - 1) (by omega)
  have hnL := kv.1.2.2.2
  have hRm : (RMd (R.frames - 1) mc ms).frames + 1 ≤ R.frames ∧ 8 + (μ'.2.2.1 + 11) + (RMd (R.frames - 1) mc ms).locals ≤ R.locals := ⟨by show R.frames - 1 + 1 ≤ R.frames; omega, by show 8 + (μ'.2.2.1 + 11) + 40 * (R.frames - 1) ≤ R.locals; omega⟩
  have hst : (as.reverse ++ st).map (tv g ad) = (as.map (tv g ad)).reverse ++ st.map (tv g ad) := by
    rw [List.map_append, List.map_reverse]
  have hPU : ∀ U : State, U.heap = H → s.WarmedH U.vm → va_Pc (as.map (tv g ad)) (PCB g ad sh w H.size as) (as.map (tv g ad)).toArray U := fun U hU hW => ⟨rfl, by rw [hU], by rw [hU]; exact hr.1, hr.2.1.weaken (fun _ _ _ _ => trivial), va_K.moved hW.alike hK, by rw [hU]; exact EV.warm hW (ev_sub hr.2.1 hr.2.2.1 hA hE), hr.2.2.2, hs.1⟩
  rw [hst]
  obtain ⟨kM, kSt⟩ := kv
  have cw := va_cnB (R := R) (rm := RMd (R.frames - 1) mc ms) (index := idx) (own := μ.1.cls) (host := host) n hts (goodIn_TS kM.words) rfl rfl rfl (hE.1 _ ml) (hts _ (List.mem_cons_of_mem _ kM.2.1)) kM.2.2.1 hRm
  refine run_call (ad := ad) (sh := sh) (g := g) (Φ := Φ) (va_runSN (As := as.map (tv g ad)) (rest := st.map (tv g ad)) ⟨hx, hb, hml, hown, hts⟩ hM ⟨cw, hts _ (List.mem_cons_of_mem _ kSt), trivial⟩ ⟨pcb_blind, hPU⟩ rfl (by simp; exact hn) hl.1 rfl (lv_room (by rw [catS_eq]; exact hcat)) d ⟨by show sh.length - sh0.length + mc ≤ R.cells; omega, by show SZ sh - SZ sh0 + ms ≤ R.slots; omega⟩) hr.2.2.1 hAc hAc (fun r sh1 w1 ad1 H1 locs1 hΦ hin had hlen hsz hP hD hW hS => ?_)
  have kk1 := kk r sh1 w1 hΦ hlen hsz C ad1 H1 locs1 lsa (fun k hk => (had k (by omega)).trans (h1 k hk)) ⟨by omega, by omega⟩ ⟨by omega, by omega⟩ ⟨hP, hD, hS, hW⟩ (by
    have : tvl g ad1 ls = tvl g ad ls := List.map_congr_left (fun q hq => by rw [tv_agree had (hi q hq)])
    rw [this]
    exact hl) (fun q hq => InV.mono (by omega) (hi q hq)) (fun v hv => by
    rcases List.mem_append.mp hv with hv | hv
    · cases r with
      | none => cases hv
      | some v' =>
        have : v = v' := by simpa using hv
        exact this ▸ hin v' rfl
    · exact InV.mono (by omega) (hs.2 v hv))
  have e1 : sh1.length - sh0.length = sh.length - sh0.length + mc := by omega
  have e2 : SZ sh1 - SZ sh0 = SZ sh - SZ sh0 + ms := by omega
  rw [e1, e2] at kk1
  have e3 : (r.toList ++ st).map (tv g ad1) = (r.map (tv g ad1)).toList ++ st.map (tv g ad) := by
    rw [List.map_append]
    congr 1
    · cases r <;> rfl
    · exact List.map_congr_left (fun v hv => tv_agree had (hs.2 v hv))
  rw [e3] at kk1
  exact kk1
theorem s_invI {idx n : Nat} {μ' : Mu} {z : Int} {as : List PV} (d : decode μ.2.1 pc = .ok (.invokespecial idx, 3)) (kv : KI μ' n) (ml : Cond.methodLink μ.1.cls idx μ'.1 ∈ TS) (hc : Call dc mc ms μ' ((2, z) :: as) sh w Φ) (hdc : dc + 1 ≤ δ.1) (k : Nat) (hz : z = ((k : Nat) : Int)) (hks : k < sh.length) (hn : as.length = n) (hstk : stk = as.reverse ++ (2, z) :: st) (hcat : catS st ≤ 8) (hroom : sh.length + mc ≤ δ.2.1 ∧ SZ sh + ms ≤ δ.2.2)
    (kk : ∀ (r : Option PV) (sh1 : List Sh) (w1 : Wd), Φ r sh1 w1 → sh1.length = sh.length + mc → SZ sh1 = SZ sh + ms → At μ δ ρ sh1 (pc + 3) ls (r.toList ++ st) w1) : At μ δ ρ sh pc ls stk w := by
  obtain ⟨⟨p, l, e, R, s⟩, ⟨m, args, below, meth, c⟩, ⟨g, ad0, sh0⟩, Q⟩ := ρ
  intro C ad H locs lsa h1 h2 h3 hr hl hi hs
  obtain ⟨hx, hb, -, hml, -, hown, -, hts, hK, hE, hd1, hd2, hd3, hd4⟩ := id C
  subst hstk
  simp only [List.forall_mem_append, List.mem_reverse, List.forall_mem_cons] at hs
  have hA : ∀ q, s.heap.size ≤ q → AA ad0 sh0.length s.heap.size q := fun q hq => Or.inr hq
  have hAc := AA_sub hr.2.1 hr.2.2.1 hA
  have hM := hc l g ad H.size (R.frames - 1) (by omega)
  have hnL := kv.1.2.2.2
  have hRm : (RMd (R.frames - 1) mc ms).frames + 1 ≤ R.frames ∧ 8 + (μ'.2.2.1 + 11) + (RMd (R.frames - 1) mc ms).locals ≤ R.locals := ⟨by show R.frames - 1 + 1 ≤ R.frames; omega, by show 8 + (μ'.2.2.1 + 11) + 40 * (R.frames - 1) ≤ R.locals; omega⟩
  subst hz
  have hst : (as.reverse ++ (2, ((k : Nat) : Int)) :: st).map (tv g ad) = (as.map (tv g ad)).reverse ++ .ref (ad k) :: st.map (tv g ad) := by
    rw [List.map_append, List.map_reverse, List.map_cons, tv_ref]
  have hca : (.ref (ad k) :: as.map (tv g ad)) = ((2, ((k : Nat) : Int)) :: as).map (tv g ad) := by rw [List.map_cons, tv_ref]
  have hPU : ∀ U : State, U.heap = H → s.WarmedH U.vm → va_Pc (((2, ((k : Nat) : Int)) :: as).map (tv g ad)) (PCB g ad sh w H.size ((2, ((k : Nat) : Int)) :: as)) (Value.ref (ad k) :: as.map (tv g ad)).toArray U := fun U hU hW => ⟨by rw [hca], by rw [hU], by rw [hU]; exact hr.1, hr.2.1.weaken (fun _ _ _ _ => trivial), va_K.moved hW.alike hK, by rw [hU]; exact EV.warm hW (ev_sub hr.2.1 hr.2.2.1 hA hE), hr.2.2.2, List.forall_mem_cons.mpr ⟨hs.2.1, hs.1⟩⟩
  rw [hst]
  obtain ⟨kM, kI, kN, kRet⟩ := kv
  have hw9 : wsM μ' = Cond.code μ'.1 μ'.2.1 μ'.2.2.1 none :: TS := by unfold wsM; rw [kRet]
  have cw := cwI (R := R) (rm := RMd (R.frames - 1) mc ms) (index := idx) (own := μ.1.cls) n hts (goodIn_TS kM.words) hw9 rfl rfl (hts _ (List.mem_cons_of_mem _ kM.2.1)) (hts _ (List.mem_cons_of_mem _ ml)) (hts _ (List.mem_cons_of_mem _ kI)) kN kM.2.2.1 hRm
  refine run_call (ad := ad) (sh := sh) (g := g) (Φ := Φ) (va_runI (As := as.map (tv g ad)) (rest := st.map (tv g ad)) ⟨hx, hb, hml, hown, hts⟩ hM cw ⟨pcb_blind, hPU⟩ rfl (by simp; exact hn) hl.1 rfl (lv_room (by rw [catS_eq]; exact hcat)) d ⟨by show sh.length - sh0.length + mc ≤ R.cells; omega, by show SZ sh - SZ sh0 + ms ≤ R.slots; omega⟩) hr.2.2.1 hAc hAc (fun r sh1 w1 ad1 H1 locs1 hΦ hin had hlen hsz hP hD hW hS => ?_)
  have kk1 := kk r sh1 w1 hΦ hlen hsz C ad1 H1 locs1 lsa (fun k hk => (had k (by omega)).trans (h1 k hk)) ⟨by omega, by omega⟩ ⟨by omega, by omega⟩ ⟨hP, hD, hS, hW⟩ (by
    have : tvl g ad1 ls = tvl g ad ls := List.map_congr_left (fun q hq => by rw [tv_agree had (hi q hq)])
    rw [this]
    exact hl) (fun q hq => InV.mono (by omega) (hi q hq)) (fun v hv => by
    rcases List.mem_append.mp hv with hv | hv
    · cases r with
      | none => cases hv
      | some v' =>
        have : v = v' := by simpa using hv
        exact this ▸ hin v' rfl
    · exact InV.mono (by omega) (hs.2.2 v hv))
  have e1 : sh1.length - sh0.length = sh.length - sh0.length + mc := by omega
  have e2 : SZ sh1 - SZ sh0 = SZ sh - SZ sh0 + ms := by omega
  rw [e1, e2] at kk1
  have e3 : (r.toList ++ st).map (tv g ad1) = (r.map (tv g ad1)).toList ++ st.map (tv g ad) := by
    rw [List.map_append]
    congr 1
    · cases r <;> rfl
    · exact List.map_congr_left (fun v hv => tv_agree had (hs.2.2 v hv))
  rw [e3] at kk1
  exact kk1
theorem s_invIN {idx n : Nat} {μ' : Mu} {z : Int} {as : List PV} (d : decode μ.2.1 pc = .ok (.invokespecial idx, 3)) (kv : KI μ' n) {host : String} (ml : Cond.methodLinkNest μ.1.cls idx μ'.1 host ∈ NWs) (hc : Call dc mc ms μ' ((2, z) :: as) sh w Φ) (hdc : dc + 1 ≤ δ.1) (k : Nat) (hz : z = ((k : Nat) : Int)) (hks : k < sh.length) (hn : as.length = n) (hstk : stk = as.reverse ++ (2, z) :: st) (hcat : catS st ≤ 8) (hroom : sh.length + mc ≤ δ.2.1 ∧ SZ sh + ms ≤ δ.2.2)
    (kk : ∀ (r : Option PV) (sh1 : List Sh) (w1 : Wd), Φ r sh1 w1 → sh1.length = sh.length + mc → SZ sh1 = SZ sh + ms → At μ δ ρ sh1 (pc + 3) ls (r.toList ++ st) w1) : At μ δ ρ sh pc ls stk w := by
  obtain ⟨⟨p, l, e, R, s⟩, ⟨m, args, below, meth, c⟩, ⟨g, ad0, sh0⟩, Q⟩ := ρ
  intro C ad H locs lsa h1 h2 h3 hr hl hi hs
  obtain ⟨hx, hb, -, hml, -, hown, -, hts, hK, hE, hd1, hd2, hd3, hd4⟩ := id C
  subst hstk
  simp only [List.forall_mem_append, List.mem_reverse, List.forall_mem_cons] at hs
  have hA : ∀ q, s.heap.size ≤ q → AA ad0 sh0.length s.heap.size q := fun q hq => Or.inr hq
  have hAc := AA_sub hr.2.1 hr.2.2.1 hA
  have hM := hc l g ad H.size (R.frames - 1) (by omega)
  have hnL := kv.1.2.2.2
  have hRm : (RMd (R.frames - 1) mc ms).frames + 1 ≤ R.frames ∧ 8 + (μ'.2.2.1 + 11) + (RMd (R.frames - 1) mc ms).locals ≤ R.locals := ⟨by show R.frames - 1 + 1 ≤ R.frames; omega, by show 8 + (μ'.2.2.1 + 11) + 40 * (R.frames - 1) ≤ R.locals; omega⟩
  subst hz
  have hst : (as.reverse ++ (2, ((k : Nat) : Int)) :: st).map (tv g ad) = (as.map (tv g ad)).reverse ++ .ref (ad k) :: st.map (tv g ad) := by
    rw [List.map_append, List.map_reverse, List.map_cons, tv_ref]
  have hca : (.ref (ad k) :: as.map (tv g ad)) = ((2, ((k : Nat) : Int)) :: as).map (tv g ad) := by rw [List.map_cons, tv_ref]
  have hPU : ∀ U : State, U.heap = H → s.WarmedH U.vm → va_Pc (((2, ((k : Nat) : Int)) :: as).map (tv g ad)) (PCB g ad sh w H.size ((2, ((k : Nat) : Int)) :: as)) (Value.ref (ad k) :: as.map (tv g ad)).toArray U := fun U hU hW => ⟨by rw [hca], by rw [hU], by rw [hU]; exact hr.1, hr.2.1.weaken (fun _ _ _ _ => trivial), va_K.moved hW.alike hK, by rw [hU]; exact EV.warm hW (ev_sub hr.2.1 hr.2.2.1 hA hE), hr.2.2.2, List.forall_mem_cons.mpr ⟨hs.2.1, hs.1⟩⟩
  rw [hst]
  obtain ⟨kM, kI, kN, kRet⟩ := kv
  have hw9 : wsM μ' = Cond.code μ'.1 μ'.2.1 μ'.2.2.1 none :: TS := by unfold wsM; rw [kRet]
  have cw := va_cnB (R := R) (rm := RMd (R.frames - 1) mc ms) (index := idx) (own := μ.1.cls) (host := host) n hts (goodIn_TS kM.words) hw9 rfl rfl (hE.1 _ ml) (hts _ (List.mem_cons_of_mem _ kM.2.1)) kM.2.2.1 hRm
  refine run_call (ad := ad) (sh := sh) (g := g) (Φ := Φ) (va_runIN (As := as.map (tv g ad)) (rest := st.map (tv g ad)) ⟨hx, hb, hml, hown, hts⟩ hM ⟨cw, kN, hts _ (List.mem_cons_of_mem _ kI)⟩ ⟨pcb_blind, hPU⟩ rfl (by simp; exact hn) hl.1 rfl (lv_room (by rw [catS_eq]; exact hcat)) d ⟨by show sh.length - sh0.length + mc ≤ R.cells; omega, by show SZ sh - SZ sh0 + ms ≤ R.slots; omega⟩) hr.2.2.1 hAc hAc (fun r sh1 w1 ad1 H1 locs1 hΦ hin had hlen hsz hP hD hW hS => ?_)
  have kk1 := kk r sh1 w1 hΦ hlen hsz C ad1 H1 locs1 lsa (fun k hk => (had k (by omega)).trans (h1 k hk)) ⟨by omega, by omega⟩ ⟨by omega, by omega⟩ ⟨hP, hD, hS, hW⟩ (by
    have : tvl g ad1 ls = tvl g ad ls := List.map_congr_left (fun q hq => by rw [tv_agree had (hi q hq)])
    rw [this]
    exact hl) (fun q hq => InV.mono (by omega) (hi q hq)) (fun v hv => by
    rcases List.mem_append.mp hv with hv | hv
    · cases r with
      | none => cases hv
      | some v' =>
        have : v = v' := by simpa using hv
        exact this ▸ hin v' rfl
    · exact InV.mono (by omega) (hs.2.2 v hv))
  have e1 : sh1.length - sh0.length = sh.length - sh0.length + mc := by omega
  have e2 : SZ sh1 - SZ sh0 = SZ sh - SZ sh0 + ms := by omega
  rw [e1, e2] at kk1
  have e3 : (r.toList ++ st).map (tv g ad1) = (r.map (tv g ad1)).toList ++ st.map (tv g ad) := by
    rw [List.map_append]
    congr 1
    · cases r <;> rfl
    · exact List.map_congr_left (fun v hv => tv_agree had (hs.2.2 v hv))
  rw [e3] at kk1
  exact kk1
theorem s_ireturn {sh0 : List Sh} {x : Int} (d : decode μ.2.1 pc = .ok (.ireturn, 1)) (hR : RetOK mc ms Φ ρ sh0) (hret : μ.2.2.2 = some .int) (hsz : sh.length = sh0.length + mc ∧ SZ sh = SZ sh0 + ms) (hΦ : Φ (some (0, x)) sh w) : At μ δ ρ sh pc ls [(0, x)] w := by
  obtain ⟨⟨p, l, e, R, s⟩, ⟨m, args, below, meth, c⟩, ⟨g, ad0, sh1⟩, Q⟩ := ρ
  obtain ⟨rfl, rfl, rfl, rfl⟩ := hR
  intro C ad H locs lsa h1 h2 h3 hr hl hi hs
  obtain ⟨hx, hb, hrt, hml, hlk, -⟩ := id C
  have e1 : sh.length - sh1.length = R.cells := by omega
  have e2 : SZ sh - SZ sh1 = R.slots := by omega
  rw [e1, e2]
  have hq : ∀ t : State, t.heap = H → s.WarmedH t.vm → QC g ad0 sh1 s.heap.size R.cells R.slots Φ args s (.returned (((some (0, x)) : Option PV).map (tv g ad))) t := fun t ht _ => ⟨⟨(some (0, x)), sh, w, ad, rfl, hΦ, fun v hv => by cases hv; exact hs _ List.mem_cons_self, h1, hsz.1, hsz.2, by rw [ht]; exact hr.1, hr.2.1, hr.2.2.2⟩, hr.2.2.1.F ht⟩
  exact W.iret hx hb (hrt.trans hret) hq hr.2.2.1.2.2 d hlk
theorem s_zreturn {sh0 : List Sh} {x : Int} (d : decode μ.2.1 pc = .ok (.ireturn, 1)) (hR : RetOK mc ms Φ ρ sh0) (hret : μ.2.2.2 = some .boolean) (h01 : x = 0 ∨ x = 1) (hsz : sh.length = sh0.length + mc ∧ SZ sh = SZ sh0 + ms) (hΦ : Φ (some (0, x)) sh w) : At μ δ ρ sh pc ls [(0, x)] w := by
  obtain ⟨⟨p, l, e, R, s⟩, ⟨m, args, below, meth, c⟩, ⟨g, ad0, sh1⟩, Q⟩ := ρ
  obtain ⟨rfl, rfl, rfl, rfl⟩ := hR
  intro C ad H locs lsa h1 h2 h3 hr hl hi hs
  obtain ⟨hx, hb, hrt, hml, hlk, -⟩ := id C
  have e1 : sh.length - sh1.length = R.cells := by omega
  have e2 : SZ sh - SZ sh1 = R.slots := by omega
  rw [e1, e2]
  have hq : ∀ t : State, t.heap = H → s.WarmedH t.vm → QC g ad0 sh1 s.heap.size R.cells R.slots Φ args s (.returned (((some (0, x)) : Option PV).map (tv g ad))) t := fun t ht _ => ⟨⟨(some (0, x)), sh, w, ad, rfl, hΦ, fun v hv => by cases hv; exact hs _ List.mem_cons_self, h1, hsz.1, hsz.2, by rw [ht]; exact hr.1, hr.2.1, hr.2.2.2⟩, hr.2.2.1.F ht⟩
  exact W.zret hx hb (hrt.trans hret) (by rcases h01 with rfl | rfl <;> rfl) hq hr.2.2.1.2.2 d hlk
theorem s_lreturn {sh0 : List Sh} {x : Int} (d : decode μ.2.1 pc = .ok (.lreturn, 1)) (hR : RetOK mc ms Φ ρ sh0) (hret : μ.2.2.2 = some .long) (hsz : sh.length = sh0.length + mc ∧ SZ sh = SZ sh0 + ms) (hΦ : Φ (some (1, x)) sh w) : At μ δ ρ sh pc ls [(1, x)] w := by
  obtain ⟨⟨p, l, e, R, s⟩, ⟨m, args, below, meth, c⟩, ⟨g, ad0, sh1⟩, Q⟩ := ρ
  obtain ⟨rfl, rfl, rfl, rfl⟩ := hR
  intro C ad H locs lsa h1 h2 h3 hr hl hi hs
  obtain ⟨hx, hb, hrt, hml, hlk, -⟩ := id C
  have e1 : sh.length - sh1.length = R.cells := by omega
  have e2 : SZ sh - SZ sh1 = R.slots := by omega
  rw [e1, e2]
  have hq : ∀ t : State, t.heap = H → s.WarmedH t.vm → QC g ad0 sh1 s.heap.size R.cells R.slots Φ args s (.returned (((some (1, x)) : Option PV).map (tv g ad))) t := fun t ht _ => ⟨⟨(some (1, x)), sh, w, ad, rfl, hΦ, fun v hv => by cases hv; exact hs _ List.mem_cons_self, h1, hsz.1, hsz.2, by rw [ht]; exact hr.1, hr.2.1, hr.2.2.2⟩, hr.2.2.1.F ht⟩
  exact W.lret hx hb (hrt.trans hret) hq hr.2.2.1.2.2 d hlk
theorem s_return {sh0 : List Sh} (d : decode μ.2.1 pc = .ok (.return_, 1)) (hR : RetOK mc ms Φ ρ sh0) (hret : μ.2.2.2 = none) (hsz : sh.length = sh0.length + mc ∧ SZ sh = SZ sh0 + ms) (hΦ : Φ none sh w) : At μ δ ρ sh pc ls [] w := by
  obtain ⟨⟨p, l, e, R, s⟩, ⟨m, args, below, meth, c⟩, ⟨g, ad0, sh1⟩, Q⟩ := ρ
  obtain ⟨rfl, rfl, rfl, rfl⟩ := hR
  intro C ad H locs lsa h1 h2 h3 hr hl hi hs
  obtain ⟨hx, hb, hrt, hml, hlk, -⟩ := id C
  have e1 : sh.length - sh1.length = R.cells := by omega
  have e2 : SZ sh - SZ sh1 = R.slots := by omega
  rw [e1, e2]
  have hq : ∀ t : State, t.heap = H → s.WarmedH t.vm → QC g ad0 sh1 s.heap.size R.cells R.slots Φ args s (.returned ((none : Option PV).map (tv g ad))) t := fun t ht _ => ⟨⟨none, sh, w, ad, rfl, hΦ, fun v hv => (by cases hv), h1, hsz.1, hsz.2, by rw [ht]; exact hr.1, hr.2.1, hr.2.2.2⟩, hr.2.2.1.F ht⟩
  exact W.vret hx hb (hrt.trans hret) hq hr.2.2.1.2.2 d hlk
end CALLS
