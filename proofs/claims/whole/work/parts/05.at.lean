/-! THE MACHINE SIDE: a pure state stands for a machine's; At says that the walk from there ends well. -/
abbrev CL : List vw_C := [(RX0, TX0, 17), (RX1, TX1, 7), (RX2, TX2, 8), (RX3, TX3, 16), (RX4, TX4, 5), (RX5, TX5, 16), (RX6, TX6, 6), (RX7, TX7, 10), (RX8, TX8, 6), (RX9, TX9, 6), (RX10, TX10, 7), (RX11, TX11, 11), (RX12, TX12, 98)]
def TS : List Cond := lw_tbl.filter goodWord
theorem mem_TS {w : Cond} (i : Nat) (h : lw_tbl[i]? = some w) (hg : goodWord w = true) : w ∈ TS := List.mem_filter.mpr ⟨List.mem_of_getElem? h, hg⟩
theorem good_TS {w : Cond} (h : w ∈ TS) : goodWord w = true := (List.mem_filter.mp h).2
/-- a value -/
def tv (g : Gt) (ad : Nat → Nat) (v : PV) : Value := match v.1 with
  | 0 => .int (Int32.ofInt v.2)
  | 1 => .long (Int64.ofInt v.2)
  | 2 => if v.2 < 0 then .null else .ref (ad v.2.toNat)
  | 3 => .ref (g.2.2.1 v.2.toNat)
  | 4 => .ref (g.2.2.2.1 v.2.toNat)
  | 5 => .ref g.2.2.2.2
  | _ => .ref (g.2.2.1 19)
/-- a field: below 10 its kind, from 10 on a cell's number and 10, from 1000 on how far it lies behind the object -/
def fv (g : Gt) (ad : Nat → Nat) (k t : Nat) (z : Int) : Value := if t < 10 then tv g ad (t, z) else if t < 1000 then .ref (ad (t - 10)) else .ref (ad (k + (t - 1000)))
/-- a cell: kind 0 an object, 1 int[], 2 boolean[], 3 long[], 4 int[][], 5 Script[], 6 int[][] whose rows stand side by side -/
def ce (g : Gt) (ad : Nat → Nat) (k : Nat) (s : Sh) (f : Int → Int) : va_E := match s.1 with
  | 0 => .inr (s.2.1, (List.range s.2.2.length).map (fun j => fv g ad k (s.2.2.getD j 0) (f (j : Int))))
  | 1 => .inl (g.2.1 1, s.2.1, .inl (fun j => Int32.ofInt (f (j : Int))))
  | 2 => .inl (g.2.1 2, s.2.1, .inl (fun j => Int32.ofInt (f (j : Int))))
  | 3 => .inl (g.2.1 3, s.2.1, .inr (.inl (fun j => Int64.ofInt (f (j : Int)))))
  | 4 => .inl (g.2.1 4, s.2.1, .inr (.inr (.inr (.inr (fun j => if f (j : Int) < 0 then none else some (ad (f (j : Int)).toNat))))))
  | 5 => .inl (g.2.1 5, s.2.1, .inr (.inr (.inr (.inr (fun j => if f (j : Int) < 0 then none else some (ad (f (j : Int)).toNat))))))
  | _ => .inl (g.2.1 4, s.2.1, .inr (.inr (.inr (.inr (fun j => if j < s.2.1 then some (ad (s.2.2.getD 0 0 + j)) else none)))))
def wl (g : Gt) (ad : Nat → Nat) (sh : List Sh) (w : Wd) : va_W := (List.range sh.length).map (fun k => (ad k, ce g ad k (sh.getD k (0, 0, [])) (w k)))
def tyl (g : Gt) : List (ClassId × FieldType) := [(g.2.1 1, .int), (g.2.1 2, .boolean), (g.2.1 3, .long), (g.2.1 4, .array .int), (g.2.1 5, .object "TalkingReels$Script")]
/-- a value in its range; N cells stand -/
def InV (N : Nat) (v : PV) : Prop := match v.1 with
  | 0 => InI v.2
  | 1 => InL v.2
  | 2 => -1 ≤ v.2 ∧ v.2 < N
  | 3 => 0 ≤ v.2 ∧ v.2 < 19
  | 4 => 0 ≤ v.2 ∧ v.2 < 19
  | _ => True
/-- a cell's contents in their ranges -/
def InC (N : Nat) (s : Sh) (f : Int → Int) : Prop := match s.1 with
  | 0 => ∀ j : Nat, j < s.2.2.length → s.2.2.getD j 0 < 10 → InV N (s.2.2.getD j 0, f (j : Int))
  | 1 => ∀ j : Int, 0 ≤ j → j < s.2.1 → InI (f j)
  | 2 => ∀ j : Int, 0 ≤ j → j < s.2.1 → f j = 0 ∨ f j = 1
  | 3 => ∀ j : Int, 0 ≤ j → j < s.2.1 → InL (f j)
  | 4 => ∀ j : Int, 0 ≤ j → j < s.2.1 → -1 ≤ f j ∧ f j < N
  | 5 => ∀ j : Int, 0 ≤ j → j < s.2.1 → -1 ≤ f j ∧ f j < N
  | _ => s.2.2.getD 0 0 + s.2.1 ≤ N
def WF (sh : List Sh) (w : Wd) : Prop := ∀ (k : Nat) (s : Sh), sh[k]? = some s → InC sh.length s (w k)
def SZ (sh : List Sh) : Nat := (sh.map (fun s => match s.1 with | 0 => s.2.2.length | _ => s.2.1)).sum
def AA (ad : Nat → Nat) (n sz : Nat) : Nat → Prop := fun q => (∃ k, k < n ∧ q = ad k) ∨ sz ≤ q
/-- the words of nest mates -/
def NWs : List Cond := lw_tbl.filter (fun w => !goodWord w && match w with | .methodLinkNest .. => true | _ => false)
/-- the texts: whose they are, which entry, the text, its number -/
def STs : List (String × Nat × String) := [("TalkingReels$Tape", 72, "bar   fee   keep  when  or    and   not   maker track tongueframeswear  firm  seats band  price week  "), ("TalkingReels$Tape", 61, ";+-*/()<=>"), ("TalkingReelsModel", 296, "bar"), ("TalkingReelsModel", 302, "fee"), ("TalkingReelsModel", 304, "keep"), ("TalkingReelsModel", 306, "when"), ("TalkingReelsModel", 307, "or"), ("TalkingReelsModel", 309, "and"), ("TalkingReelsModel", 311, "not"), ("TalkingReelsModel", 313, "maker"), ("TalkingReelsModel", 314, "track"), ("TalkingReelsModel", 315, "tongue"), ("TalkingReelsModel", 316, "frames"), ("TalkingReelsModel", 317, "wear"), ("TalkingReelsModel", 318, "firm"), ("TalkingReelsModel", 320, "seats"), ("TalkingReelsModel", 321, "band"), ("TalkingReelsModel", 322, "price"), ("TalkingReelsModel", 323, "week")]
def lenS : List Nat := STs.map (fun q => q.2.2.length)
def bytS : List (List Int32) := STs.map (fun q => q.2.2.toList.map (fun c => Int32.ofNat c.toNat))
/-- what the texts' checks hand on: null or some object -/
def FZ (g : Gt) (A : Nat → Prop) (U : State) (H : Heap) : Prop := va_Z "jdk/internal/util/Preconditions" "SIOOBE_FORMATTER" "Ljava/util/function/BiFunction;" .null A U H ∨ va_Z "jdk/internal/util/Preconditions" "SIOOBE_FORMATTER" "Ljava/util/function/BiFunction;" (.ref g.2.2.2.2) A U H
theorem FZ.moved {g : Gt} {A : Nat → Prop} {u U : State} {H : Heap} (hvm : u.vm.Alike U.vm) (h : FZ g A u H) : FZ g A U H := h.elim (fun q => Or.inl (va_Z.moved hvm q)) (fun q => Or.inr (va_Z.moved hvm q))
theorem FZ.kept {g : Gt} {A : Nat → Prop} {U : State} {H H1 : Heap} (h : FZ g A U H) (hq : ∀ a : Nat, a < H.size → ¬ A a → H1[a]? = H[a]?) : FZ g A U H1 := h.elim (fun q => Or.inl (va_Z.kept q hq)) (fun q => Or.inr (va_Z.kept q hq))
theorem FZ.narrow {g : Gt} {A B : Nat → Prop} {U : State} {H : Heap} (h : FZ g A U H) (hAB : ∀ q, B q → A q) : FZ g B U H := h.elim (fun q => Or.inl (va_Z.narrow q hAB)) (fun q => Or.inr (va_Z.narrow q hAB))
/-- arrays of arrays can be made -/
def va_AOA (ty : FieldType) (U : State) : Prop := (Cond.arrayOver (.array ty)).before #[] U = true
theorem va_AOA.use {ty : FieldType} {A : Array Value} {U : State} (h : va_AOA ty U) : (Cond.arrayOver (.array ty)).before A U = true := h
theorem va_AOA.moved {ty : FieldType} {u U : State} (hvm : u.vm.Alike U.vm) (h : va_AOA ty u) : va_AOA ty U := by
  have h2 : (Cond.arrayOver (.array ty)).before #[] (u.setVm U.vm) = true := by rw [Cond.arrayOver_setVmC hvm]; exact h
  exact h2
/-- what stays the same for the whole run: nest mates' words, the texts, String's own switch, which arrays can be made -/
def EV (g : Gt) (A : Nat → Prop) (U : State) (H : Heap) : Prop :=
  (∀ w ∈ NWs, va_Nw w U) ∧ vk_S 19 lenS bytS g.2.2.1 g.2.2.2.1 A U H ∧ va_Z "java/lang/String" "COMPACT_STRINGS" "Z" (.int 1) A U H ∧ (∀ (i : Nat) (q : String × Nat × String), STs[i]? = some q → vk_R q.1 q.2.1 q.2.2 (g.2.2.1 i) U) ∧ (va_AO "TalkingReels$Script" U ∧ va_AOA .int U) ∧ FZ g A U H
theorem nw_same {u U : State} (h : u.vm = U.vm) (hZ : ∀ w ∈ NWs, va_Nw w u) : ∀ w ∈ NWs, va_Nw w U := by
  intro w hw
  obtain ⟨h1, h2⟩ := List.mem_filter.mp hw
  simp only [Bool.and_eq_true] at h2
  revert hw
  cases w <;> intro hw <;> first | exact va_Nw.same rfl h (hZ _ hw) | exact absurd h2.2 (by simp)
theorem nw_warm {s U : State} (hW : s.WarmedH U.vm) (hZ : ∀ w ∈ NWs, va_Nw w s) : ∀ w ∈ NWs, va_Nw w U := by
  intro w hw
  obtain ⟨h1, h2⟩ := List.mem_filter.mp hw
  simp only [Bool.and_eq_true] at h2
  revert hw
  cases w <;> intro hw <;> first | exact va_Nw.warmM hW (hZ _ hw) | exact absurd h2.2 (by simp)
theorem EV.warm {g : Gt} {A : Nat → Prop} {s U : State} {H : Heap} (hW : s.WarmedH U.vm) (h : EV g A s H) : EV g A U H :=
  ⟨nw_warm hW h.1, vk_S.moved hW.alike h.2.1, va_Z.moved hW.alike h.2.2.1, fun i q hq => vk_R.warm hW (h.2.2.2.1 i q hq), ⟨va_AO.moved hW.alike h.2.2.2.2.1.1, va_AOA.moved hW.alike h.2.2.2.2.1.2⟩, FZ.moved hW.alike h.2.2.2.2.2⟩
theorem EV.same {g : Gt} {A : Nat → Prop} {s U : State} {H : Heap} (hv : s.vm = U.vm) (h : EV g A s H) : EV g A U H :=
  ⟨nw_same hv h.1, vk_S.moved (hv ▸ Vm.Alike.refl s.vm) h.2.1, va_Z.moved (hv ▸ Vm.Alike.refl s.vm) h.2.2.1, fun i q hq => vk_R.same hv.symm (h.2.2.2.1 i q hq), ⟨va_AO.moved (hv ▸ Vm.Alike.refl s.vm) h.2.2.2.2.1.1, va_AOA.moved (hv ▸ Vm.Alike.refl s.vm) h.2.2.2.2.1.2⟩, FZ.moved (hv ▸ Vm.Alike.refl s.vm) h.2.2.2.2.2⟩
theorem EV.kept {g : Gt} {A : Nat → Prop} {U : State} {H H1 : Heap} (h : EV g A U H) (hq : ∀ a : Nat, a < H.size → ¬ A a → H1[a]? = H[a]?) : EV g A U H1 :=
  ⟨h.1, vk_S.kept h.2.1 hq, va_Z.kept h.2.2.1 hq, h.2.2.2.1, h.2.2.2.2.1, FZ.kept h.2.2.2.2.2 hq⟩
theorem EV.narrow {g : Gt} {A B : Nat → Prop} {U : State} {H : Heap} (h : EV g A U H) (hAB : ∀ q, B q → A q) : EV g B U H :=
  ⟨h.1, vk_S.narrow h.2.1 hAB, va_Z.narrow h.2.2.1 hAB, h.2.2.2.1, h.2.2.2.2.1, FZ.narrow h.2.2.2.2.2 hAB⟩
/-- a method: its name, its bytes, its locals, what it returns -/
abbrev Mu := MethodName × ByteArray × Nat × Option FieldType
/-- how deep it may go, how many cells there may be, how many places -/
abbrev De := Nat × Nat × Nat
abbrev Rh := (Program × Launch × Env × Room × State) × (MethodId × Array Value × List Frame × Method × Code) × (Gt × (Nat → Nat) × List Sh) × (State → Prop)
def wsM (μ : Mu) : List Cond := Cond.code μ.1 μ.2.1 μ.2.2.1 μ.2.2.2 :: TS
def RMd (d mc ms : Nat) : Room := { frames := d, cells := mc, slots := ms, locals := 40 * d }
def Cx (μ : Mu) (δ : De) (ρ : Rh) : Prop := match ρ with
  | ((p, l, e, R, s), (m, args, below, meth, c), (g, ad0, sh0), Q) =>
    p.tables.exec = Jvm.exec ∧ c.code = μ.2.1 ∧ meth.sig.returnType = μ.2.2.2 ∧ c.maxLocals = μ.2.2.1 ∧ meth.locks = false ∧ s.vm.findClass μ.1.cls = some m.cls ∧ meth.name = μ.1.name ∧ (∀ w ∈ wsM μ, w.before args s = true) ∧ va_K g.1 CL (tyl g) s ∧ EV g (AA ad0 sh0.length s.heap.size) s s.heap ∧ δ.1 ≤ R.frames ∧ 40 * R.frames ≤ R.locals ∧ δ.2.1 ≤ R.cells + sh0.length ∧ δ.2.2 ≤ R.slots + SZ sh0
/-- the machine's heap H stands for the world w -/
def RP (g : Gt) (ad : Nat → Nat) (sh : List Sh) (w : Wd) (A : Nat → Prop) (H0 H : Heap) (locs : List Loc) : Prop :=
  va_P g.1 CL (wl g ad sh w) H ∧ va_D A (wl g ad sh w) ∧ va_S A H0 H locs ∧ WF sh w
def tvl (g : Gt) (ad : Nat → Nat) (ls : List (Nat × PV)) : List (Nat × Value) := ls.map (fun q => (q.1, tv g ad q.2))
def At (μ : Mu) (δ : De) (ρ : Rh) (sh : List Sh) (pc : Nat) (ls : List (Nat × PV)) (st : List PV) (w : Wd) : Prop := match ρ with
  | ((p, l, e, R, s), (m, args, below, meth, c), (g, ad0, sh0), Q) =>
    Cx μ δ ((p, l, e, R, s), (m, args, below, meth, c), (g, ad0, sh0), Q) → ∀ (ad : Nat → Nat) (H : Heap) (locs : List Loc) (lsa : Array Slot), (∀ k, k < sh0.length → ad k = ad0 k) → (sh0.length ≤ sh.length ∧ SZ sh0 ≤ SZ sh) → (sh.length ≤ δ.2.1 ∧ SZ sh ≤ δ.2.2) → RP g ad sh w (AA ad0 sh0.length s.heap.size) s.heap H locs → lv_has lsa μ.2.2.1 (tvl g ad ls) → (∀ q ∈ ls, InV sh.length q.2) → (∀ v ∈ st, InV sh.length v) →
      W p l e R s m args below meth c H locs (sh.length - sh0.length) (SZ sh - SZ sh0) Q (F0 m pc lsa (st.map (tv g ad)))
/-- what a method leaves behind -/
def QC (g : Gt) (ad0 : Nat → Nat) (sh0 : List Sh) (sz mc ms : Nat) (Φ : Option PV → List Sh → Wd → Prop) : Array Value → State → Outcome → State → Prop := fun _ st o t =>
  (∃ (r : Option PV) (sh : List Sh) (w : Wd) (ad : Nat → Nat), o = .returned (r.map (tv g ad)) ∧ Φ r sh w ∧ (∀ v, r = some v → InV sh.length v) ∧ (∀ k, k < sh0.length → ad k = ad0 k) ∧ sh.length = sh0.length + mc ∧ SZ sh = SZ sh0 + ms ∧ va_P g.1 CL (wl g ad sh w) t.heap ∧ va_D (AA ad0 sh0.length sz) (wl g ad sh w) ∧ WF sh w) ∧ va_F (AA ad0 sh0.length sz) st t
def PCB (g : Gt) (ad : Nat → Nat) (sh : List Sh) (w : Wd) (sz : Nat) (args : List PV) (U : State) : Prop :=
  U.heap.size = sz ∧ va_P g.1 CL (wl g ad sh w) U.heap ∧ va_D (fun _ => True) (wl g ad sh w) ∧ va_K g.1 CL (tyl g) U ∧ EV g (AA ad sh.length sz) U U.heap ∧ WF sh w ∧ ∀ v ∈ args, InV sh.length v
/-- method μ, asked with args in the world w, returns, and Φ says what and which world -/
def Call (d mc ms : Nat) (μ : Mu) (args : List PV) (sh : List Sh) (w : Wd) (Φ : Option PV → List Sh → Wd → Prop) : Prop :=
  ∀ (l : Launch) (g : Gt) (ad : Nat → Nat) (sz d' : Nat), d ≤ d' → Met l μ.1 (wsM μ) (RMd d' mc ms) (va_Pc (args.map (tv g ad)) (PCB g ad sh w sz args)) (QC g ad sh sz mc ms Φ) mc ms (AA ad sh.length sz)
def RetOK (mc ms : Nat) (Φ : Option PV → List Sh → Wd → Prop) (ρ : Rh) (sh0 : List Sh) : Prop := match ρ with
  | ((_, _, _, R, s), (_, args, below, _, _), (g, ad0, sh1), Q) => sh1 = sh0 ∧ R.cells = mc ∧ R.slots = ms ∧ Q = MQ below (QC g ad0 sh0 s.heap.size mc ms Φ) args s mc ms (AA ad0 sh0.length s.heap.size)
def la : Nat → List PV → List (Nat × PV)
  | _, [] => []
  | i, v :: vs => (i, v) :: la (if v.1 = 1 then i + 2 else i + 1) vs
theorem tv_cat (g : Gt) (ad : Nat → Nat) (v : PV) : (tv g ad v).category = if v.1 = 1 then 2 else 1 := by
  obtain ⟨t, z⟩ := v
  unfold tv
  rcases t with _ | _ | _ | _ | _ | _ | t <;> simp [Value.category]
  by_cases hz : z < 0 <;> simp [hz]
theorem tvl_la (g : Gt) (ad : Nat → Nat) : ∀ (vs : List PV) (i : Nat), tvl g ad (la i vs) = lv_args i (vs.map (tv g ad))
  | [], i => rfl
  | v :: vs, i => by
    have h := tvl_la g ad vs (if v.1 = 1 then i + 2 else i + 1)
    show (i, tv g ad v) :: tvl g ad (la (if v.1 = 1 then i + 2 else i + 1) vs) = _
    rw [h]
    show _ = (i, tv g ad v) :: lv_args (if (tv g ad v).category = 2 then i + 2 else i + 1) (vs.map (tv g ad))
    congr 2
    rw [tv_cat]
    by_cases h1 : v.1 = 1 <;> simp [h1]
theorem la_in {N : Nat} : ∀ (vs : List PV) (i : Nat), (∀ v ∈ vs, InV N v) → ∀ q ∈ la i vs, InV N q.2
  | [], i, h, q, hq => by cases hq
  | v :: vs, i, h, q, hq => by
    rcases List.mem_cons.mp hq with rfl | hq
    · exact h v List.mem_cons_self
    · exact la_in vs _ (fun v hv => h v (List.mem_cons_of_mem _ hv)) q hq
def lsz (vs : List PV) : Nat := (vs.map (fun v => if v.1 = 1 then 2 else 1)).sum
theorem lsz_eq (g : Gt) (ad : Nat → Nat) : ∀ (vs : List PV), (lg_sl (vs.map (tv g ad))).length = lsz vs
  | [] => rfl
  | v :: vs => by
    have h := lsz_eq g ad vs
    have e : lg_sl ((v :: vs).map (tv g ad)) = (if (tv g ad v).category = 2 then [Slot.val (tv g ad v), .second] else [.val (tv g ad v)]) ++ lg_sl (vs.map (tv g ad)) := by simp [lg_sl]
    rw [e, List.length_append, h]
    have e2 : lsz (v :: vs) = (if v.1 = 1 then 2 else 1) + lsz vs := by simp [lsz]
    rw [e2, tv_cat]
    by_cases h1 : v.1 = 1 <;> simp [h1]
theorem wl_get {g : Gt} {ad : Nat → Nat} {sh : List Sh} {w : Wd} {k : Nat} {s : Sh} (h : sh[k]? = some s) : (wl g ad sh w)[k]? = some (ad k, ce g ad k s (w k)) := by
  have hl := (List.getElem?_eq_some_iff.mp h).1
  unfold wl
  rw [List.getElem?_map, List.getElem?_range hl]
  simp [List.getD, h]
theorem wl_len (g : Gt) (ad : Nat → Nat) (sh : List Sh) (w : Wd) : (wl g ad sh w).length = sh.length := by simp [wl]
theorem Call.intro {d mc ms : Nat} {μ : Mu} {args : List PV} {sh : List Sh} {w : Wd} {Φ : Option PV → List Sh → Wd → Prop} (hy : plainName μ.1.cls = true) (hn : lsz args ≤ μ.2.2.1)
    (h : ∀ ρ : Rh, RetOK mc ms Φ ρ sh → At μ (d, sh.length + mc, SZ sh + ms) ρ sh 0 (la 0 args) [] w) : Call d mc ms μ args sh w Φ := by
  intro l g ad sz d' hd
  refine Met.ofW (cc := μ.2.1) (maxL := μ.2.2.1) (ret := μ.2.2.2) hy rfl ?_
  intro p e s m av below meth c s₁ B hml hv
  obtain ⟨rfl, hsz, hP, hD, hK, hE, hW, hI⟩ := hv
  subst hsz
  have hts := atoms_spec (ws := wsM μ) B.pre
  have hown : s.vm.findClass μ.1.cls = some m.cls := findClass_of_methodNamed B.named
  have hl := lv_entry (args.map (tv g ad)) (n := μ.2.2.1) (by rw [lsz_eq]; exact hn)
  rw [lg_entry_eq]
  rw [← tvl_la] at hl
  have hD2 : va_D (AA ad sh.length s.heap.size) (wl g ad sh w) := by
    refine hD.weaken (fun i q hq _ => Or.inl ⟨i, ?_, ?_⟩)
    · have := (List.getElem?_eq_some_iff.mp hq).1
      rwa [wl_len] at this
    · have hl : i < sh.length := by
        have := (List.getElem?_eq_some_iff.mp hq).1
        rwa [wl_len] at this
      rw [wl_get (List.getElem?_eq_getElem hl)] at hq
      cases hq
      rfl
  have K := h ((p, l, e, (headSpec (wsM μ) (RMd d' mc ms)).room, s), (m, (args.map (tv g ad)).toArray, below, meth, c), (g, ad, sh), _) ⟨rfl, rfl, rfl, rfl⟩ ⟨B.exec, B.bytes, B.returns, hml, B.notSynchronized, hown, (name_of_methodNamed B.named B.method).1, hts, hK, hE, hd, Nat.le_refl _, by show sh.length + mc ≤ mc + sh.length; omega, by show SZ sh + ms ≤ ms + SZ sh; omega⟩ ad s.heap [] _ (fun _ _ => rfl) ⟨Nat.le_refl _, Nat.le_refl _⟩ ⟨by show _ ≤ sh.length + mc; omega, by show _ ≤ SZ sh + ms; omega⟩ ⟨hP, hD2, va_S.rf, hW⟩ hl (la_in args 0 hI) (fun v hv => by cases hv)
  simp only [Nat.sub_self] at K
  exact K
