/-! METHODS THAT MAKE NO CELL: the shape is SH throughout. -/
def bi (p : Prop) [Decidable p] : Int := if p then 1 else 0
theorem bi_t {p : Prop} [Decidable p] (h : p) : bi p = 1 := if_pos h
theorem bi_f {p : Prop} [Decidable p] (h : ¬ p) : bi p = 0 := if_neg h
theorem bi_01 (p : Prop) [Decidable p] : bi p = 0 ∨ bi p = 1 := by
  by_cases h : p
  · exact Or.inr (bi_t h)
  · exact Or.inl (bi_f h)
theorem bi_congr {p q : Prop} [Decidable p] [Decidable q] (h : p ↔ q) : bi p = bi q := by
  by_cases hp : p
  · rw [bi_t hp, bi_t (h.mp hp)]
  · rw [bi_f hp, bi_f (fun z => hp (h.mpr z))]
abbrev AtN (μ : Mu) (d : Nat) (ρ : Rh) (pc : Nat) (ls : List (Nat × PV)) (st : List PV) (w : Wd) : Prop := At μ (d, SH.length + 0, SZ SH + 0) ρ SH pc ls st w
abbrev PN (Ψ : Option PV → Wd → Prop) : Option PV → List Sh → Wd → Prop := fun r sh w => sh = SH ∧ Ψ r w
def CallN (d : Nat) (μ : Mu) (args : List PV) (w : Wd) (Ψ : Option PV → Wd → Prop) : Prop := Call d 0 0 μ args SH w (PN Ψ)
abbrev RV (v : PV) (w1 : Wd) : Option PV → Wd → Prop := fun r w' => r = some v ∧ w' = w1
abbrev RU (w1 : Wd) : Option PV → Wd → Prop := fun r w' => r = none ∧ w' = w1
abbrev RetN (Ψ : Option PV → Wd → Prop) (ρ : Rh) : Prop := RetOK 0 0 (PN Ψ) ρ SH
theorem CallN.intro {d : Nat} {μ : Mu} {args : List PV} {w : Wd} {Ψ : Option PV → Wd → Prop} (hy : plainName μ.1.cls = true) (hn : lsz args ≤ μ.2.2.1) (h : ∀ ρ : Rh, RetN Ψ ρ → AtN μ d ρ 0 (la 0 args) [] w) : CallN d μ args w Ψ := Call.intro hy hn h
theorem Met.conseq {l : Launch} {y : MethodName} {ws : List Cond} {rm : Room} {Pc : Array Value → State → Prop} {Qc Qd : Array Value → State → Outcome → State → Prop} {mc ms : Nat} {free : Addr → Prop} (h : Met l y ws rm Pc Qc mc ms free) (hq : ∀ a st o t, Qc a st o t → Qd a st o t) : Met l y ws rm Pc Qd mc ms free := by
  intro p e ha hc hk s m args below hf happ hpre hK
  obtain ⟨n, o, h1, h2, h3, h4⟩ := h p e ha hc hk s m args below hf happ hpre hK
  exact ⟨n, o, h1, h2, h3, hq _ _ _ _ h4.1, h4.2⟩
theorem CallN.conseq {d : Nat} {μ : Mu} {args : List PV} {w : Wd} {Ψ Ψ' : Option PV → Wd → Prop} (h : CallN d μ args w Ψ) (hq : ∀ r w', Ψ r w' → Ψ' r w') : CallN d μ args w Ψ' := by
  intro l g ad sz d' hd
  refine Met.conseq (h l g ad sz d' hd) (fun a st o t hQ => ?_)
  obtain ⟨⟨r, sh, w', ad', q1, ⟨q2, q3⟩, q4⟩, q5⟩ := hQ
  exact ⟨⟨r, sh, w', ad', q1, ⟨q2, hq _ _ q3⟩, q4⟩, q5⟩
theorem CallN.deep {d d2 : Nat} {μ : Mu} {args : List PV} {w : Wd} {Ψ : Option PV → Wd → Prop} (h : CallN d μ args w Ψ) (hd : d ≤ d2) : CallN d2 μ args w Ψ := fun l g ad sz d' hd' => h l g ad sz d' (Nat.le_trans hd hd')
section NSTEPS
variable {μ : Mu} {d : Nat} {ρ : Rh} {pc : Nat} {ls : List (Nat × PV)} {st stk : List PV} {w : Wd}
theorem n_getf {idx ci : Nat} {r : vw_C} {ty : Nat → FieldType} {z : Int} (k j t : Nat) {ts : List Nat} (dd : decode μ.2.1 pc = .ok (.getfield idx, 3)) (cf : CF ci r ty) (f : FF μ.1.cls idx ci r j) (hz : z = ((k : Nat) : Int)) (hsh : SH[k]? = some (0, ci, ts)) (ht : ts[j]? = some t) (h10 : t < 10) {v : Int} (hv : w k ((j : Nat) : Int) = v) (kk : AtN μ d ρ (pc + 3) ls ((t, v) :: st) w) : AtN μ d ρ pc ls ((2, z) :: st) w := by
  subst hv
  exact s_getfield k j t dd cf f hz hsh ht h10 kk
theorem n_getc {idx ci : Nat} {r : vw_C} {ty : Nat → FieldType} {z q : Int} (k j t : Nat) {ts : List Nat} (dd : decode μ.2.1 pc = .ok (.getfield idx, 3)) (cf : CF ci r ty) (f : FF μ.1.cls idx ci r j) (hz : z = ((k : Nat) : Int)) (hsh : SH[k]? = some (0, ci, ts)) (ht : ts[j]? = some t) (h10 : ¬ t < 10) (hq : (((if t < 1000 then t - 10 else k + (t - 1000)) : Nat) : Int) = q) (hqn : q < 210) (kk : AtN μ d ρ (pc + 3) ls ((2, q) :: st) w) : AtN μ d ρ pc ls ((2, z) :: st) w :=
  s_getfieldC k j t dd cf f hz hsh ht h10 hq (by rw [SH_len]; exact hqn) kk
theorem n_putf {idx ci : Nat} {r : vw_C} {ty : Nat → FieldType} {z x : Int} (k j : Nat) (ji : Int) {ts : List Nat} (dd : decode μ.2.1 pc = .ok (.putfield idx, 3)) (cf : CF ci r ty) (f : FF μ.1.cls idx ci r j) (hz : z = ((k : Nat) : Int)) (hji : ((j : Nat) : Int) = ji) (hsh : SH[k]? = some (0, ci, ts)) (ht : ts[j]? = some 0) (hty : ty j = .int) (hfin : (r.2.1 j).2.2.2 = false) (kk : AtN μ d ρ (pc + 3) ls st (wu w k ji x)) : AtN μ d ρ pc ls ((0, x) :: (2, z) :: st) w := by
  subst hji
  exact s_putfield k j dd cf f hz hsh ht hty hfin kk
theorem n_iald {z j : Int} (k : Nat) {n : Nat} {ts : List Nat} (dd : decode μ.2.1 pc = .ok (.iaload, 1)) (hz : z = ((k : Nat) : Int)) (hsh : SH[k]? = some (1, n, ts)) (hn : n < 2147483648) (hj : 0 ≤ j ∧ j < n) {v : Int} (hv : w k j = v) (kk : AtN μ d ρ (pc + 1) ls ((0, v) :: st) w) : AtN μ d ρ pc ls ((0, j) :: (2, z) :: st) w := by
  subst hv
  exact s_iaload k dd hz hsh hn hj kk
theorem n_bald {z j : Int} (k : Nat) {n : Nat} {ts : List Nat} (dd : decode μ.2.1 pc = .ok (.baload, 1)) (hz : z = ((k : Nat) : Int)) (hsh : SH[k]? = some (2, n, ts)) (hn : n < 2147483648) (hj : 0 ≤ j ∧ j < n) {v : Int} (hv : w k j = v) (kk : AtN μ d ρ (pc + 1) ls ((0, v) :: st) w) : AtN μ d ρ pc ls ((0, j) :: (2, z) :: st) w := by
  subst hv
  exact s_baload k dd hz hsh hn hj kk
theorem n_lald {z j : Int} (k : Nat) {n : Nat} {ts : List Nat} (dd : decode μ.2.1 pc = .ok (.laload, 1)) (hz : z = ((k : Nat) : Int)) (hsh : SH[k]? = some (3, n, ts)) (hn : n < 2147483648) (hj : 0 ≤ j ∧ j < n) {v : Int} (hv : w k j = v) (kk : AtN μ d ρ (pc + 1) ls ((1, v) :: st) w) : AtN μ d ρ pc ls ((0, j) :: (2, z) :: st) w := by
  subst hv
  exact s_laload k dd hz hsh hn hj kk
theorem n_ifeq_b {p : Prop} [Decidable p] {off : Int} (tgt : Nat) (dd : decode μ.2.1 pc = .ok (.ifCond .eq off, 3)) (ht : (pc : Int) + off = (tgt : Int)) (kt : ¬ p → AtN μ d ρ tgt ls st w) (kf : p → AtN μ d ρ (pc + 3) ls st w) : AtN μ d ρ pc ls ((0, bi p) :: st) w :=
  s_if_eq tgt dd ht (fun h => kt (fun hp => by rw [bi_t hp] at h; exact absurd h (by decide))) (fun h => kf (by
    by_cases hp : p
    · exact hp
    · exact absurd (bi_f hp) h))
theorem n_ifne_b {p : Prop} [Decidable p] {off : Int} (tgt : Nat) (dd : decode μ.2.1 pc = .ok (.ifCond .ne off, 3)) (ht : (pc : Int) + off = (tgt : Int)) (kt : p → AtN μ d ρ tgt ls st w) (kf : ¬ p → AtN μ d ρ (pc + 3) ls st w) : AtN μ d ρ pc ls ((0, bi p) :: st) w :=
  s_if_ne tgt dd ht (fun h => kt (by
    by_cases hp : p
    · exact hp
    · exact absurd (bi_f hp) h)) (fun h => kf (fun hp => h (by rw [bi_t hp]; decide)))
theorem n_add {x y z : Int} (dd : decode μ.2.1 pc = .ok (.iadd, 1)) (hz : wr (x + y) = z) (k : AtN μ d ρ (pc + 1) ls ((0, z) :: st) w) : AtN μ d ρ pc ls ((0, y) :: (0, x) :: st) w := by
  subst hz; exact s_iadd dd k
theorem n_sub {x y z : Int} (dd : decode μ.2.1 pc = .ok (.isub, 1)) (hz : wr (x - y) = z) (k : AtN μ d ρ (pc + 1) ls ((0, z) :: st) w) : AtN μ d ρ pc ls ((0, y) :: (0, x) :: st) w := by
  subst hz; exact s_isub dd k
theorem n_mul {x y z : Int} (dd : decode μ.2.1 pc = .ok (.imul, 1)) (hz : wr (x * y) = z) (k : AtN μ d ρ (pc + 1) ls ((0, z) :: st) w) : AtN μ d ρ pc ls ((0, y) :: (0, x) :: st) w := by
  subst hz; exact s_imul dd k
theorem n_neg {x z : Int} (dd : decode μ.2.1 pc = .ok (.ineg, 1)) (hz : wr (-x) = z) (k : AtN μ d ρ (pc + 1) ls ((0, z) :: st) w) : AtN μ d ρ pc ls ((0, x) :: st) w := by
  subst hz; exact s_ineg dd k
theorem n_ladd {x y z : Int} (dd : decode μ.2.1 pc = .ok (.ladd, 1)) (hz : wrL (x + y) = z) (k : AtN μ d ρ (pc + 1) ls ((1, z) :: st) w) : AtN μ d ρ pc ls ((1, y) :: (1, x) :: st) w := by
  subst hz; exact s_ladd dd k
theorem n_lsub {x y z : Int} (dd : decode μ.2.1 pc = .ok (.lsub, 1)) (hz : wrL (x - y) = z) (k : AtN μ d ρ (pc + 1) ls ((1, z) :: st) w) : AtN μ d ρ pc ls ((1, y) :: (1, x) :: st) w := by
  subst hz; exact s_lsub dd k
theorem n_lmul {x y z : Int} (dd : decode μ.2.1 pc = .ok (.lmul, 1)) (hz : wrL (x * y) = z) (k : AtN μ d ρ (pc + 1) ls ((1, z) :: st) w) : AtN μ d ρ pc ls ((1, y) :: (1, x) :: st) w := by
  subst hz; exact s_lmul dd k
theorem n_ldiv {x y z : Int} (dd : decode μ.2.1 pc = .ok (.ldiv, 1)) (h0 : y ≠ 0) (hz : wrL (x.tdiv y) = z) (k : AtN μ d ρ (pc + 1) ls ((1, z) :: st) w) : AtN μ d ρ pc ls ((1, y) :: (1, x) :: st) w := by
  subst hz; exact s_ldiv dd h0 k
/-- a value by another name -/
theorem n_top {t : Nat} {x y : Int} (h : x = y) (k : AtN μ d ρ pc ls ((t, y) :: st) w) : AtN μ d ρ pc ls ((t, x) :: st) w := by subst h; exact k
theorem n_world {w1 : Wd} (h : w = w1) (k : AtN μ d ρ pc ls st w1) : AtN μ d ρ pc ls st w := by subst h; exact k
variable {dc n idx : Nat} {μ' : Mu} {as : List PV} {Ψ : Option PV → Wd → Prop} {z : Int} {host : String} {v : PV} {w1 : Wd}
theorem n_invV' (dd : decode μ.2.1 pc = .ok (.invokevirtual idx, 3)) (kv : KV μ' n) (ml : Cond.methodLink μ.1.cls idx μ'.1 ∈ TS) (hc : CallN dc μ' ((2, z) :: as) w Ψ) (hdc : dc + 1 ≤ d) (k : Nat) {ci : Nat} {ts : List Nat} {r : vw_C} {ty : Nat → FieldType} (cf : CF ci r ty) (hz : z = ((k : Nat) : Int)) (hsh : SH[k]? = some (0, ci, ts)) (hrn : r.1 = μ'.1.cls) (hn : as.length = n) (hstk : stk = as.reverse ++ (2, z) :: st) (hcat : catS st ≤ 8) (kk : ∀ r w1, Ψ r w1 → AtN μ d ρ (pc + 3) ls (r.toList ++ st) w1) : AtN μ d ρ pc ls stk w :=
  s_invV dd kv ml hc hdc k hz hsh cf.1 hrn hn hstk hcat ⟨Nat.le_refl _, Nat.le_refl _⟩ (fun r sh1 w1 h _ _ => by obtain ⟨rfl, h⟩ := h; exact kk r w1 h)
theorem n_invS' (dd : decode μ.2.1 pc = .ok (.invokestatic idx, 3)) (kv : KS μ' n) (ml : Cond.methodLink μ.1.cls idx μ'.1 ∈ TS) (hc : CallN dc μ' as w Ψ) (hdc : dc + 1 ≤ d) (hn : as.length = n) (hstk : stk = as.reverse ++ st) (hcat : catS st ≤ 8) (kk : ∀ r w1, Ψ r w1 → AtN μ d ρ (pc + 3) ls (r.toList ++ st) w1) : AtN μ d ρ pc ls stk w :=
  s_invS dd kv ml hc hdc hn hstk hcat ⟨Nat.le_refl _, Nat.le_refl _⟩ (fun r sh1 w1 h _ _ => by obtain ⟨rfl, h⟩ := h; exact kk r w1 h)
theorem n_invT' (dd : decode μ.2.1 pc = .ok (.invokestatic idx, 3)) (kv : KS μ' n) (ml : Cond.methodLinkNest μ.1.cls idx μ'.1 host ∈ NWs) (hc : CallN dc μ' as w Ψ) (hdc : dc + 1 ≤ d) (hn : as.length = n) (hstk : stk = as.reverse ++ st) (hcat : catS st ≤ 8) (kk : ∀ r w1, Ψ r w1 → AtN μ d ρ (pc + 3) ls (r.toList ++ st) w1) : AtN μ d ρ pc ls stk w :=
  s_invSN dd kv ml hc hdc hn hstk hcat ⟨Nat.le_refl _, Nat.le_refl _⟩ (fun r sh1 w1 h _ _ => by obtain ⟨rfl, h⟩ := h; exact kk r w1 h)
theorem n_invV (dd : decode μ.2.1 pc = .ok (.invokevirtual idx, 3)) (kv : KV μ' n) (ml : Cond.methodLink μ.1.cls idx μ'.1 ∈ TS) (hc : CallN dc μ' ((2, z) :: as) w (RV v w1)) (hdc : dc + 1 ≤ d) (k : Nat) {ci : Nat} {ts : List Nat} {r : vw_C} {ty : Nat → FieldType} (cf : CF ci r ty) (hz : z = ((k : Nat) : Int)) (hsh : SH[k]? = some (0, ci, ts)) (hrn : r.1 = μ'.1.cls) (hn : as.length = n) (hstk : stk = as.reverse ++ (2, z) :: st) (hcat : catS st ≤ 8) (kk : AtN μ d ρ (pc + 3) ls (v :: st) w1) : AtN μ d ρ pc ls stk w :=
  n_invV' dd kv ml hc hdc k cf hz hsh hrn hn hstk hcat (fun r w1 h => by obtain ⟨rfl, rfl⟩ := h; exact kk)
theorem n_invS (dd : decode μ.2.1 pc = .ok (.invokestatic idx, 3)) (kv : KS μ' n) (ml : Cond.methodLink μ.1.cls idx μ'.1 ∈ TS) (hc : CallN dc μ' as w (RV v w1)) (hdc : dc + 1 ≤ d) (hn : as.length = n) (hstk : stk = as.reverse ++ st) (hcat : catS st ≤ 8) (kk : AtN μ d ρ (pc + 3) ls (v :: st) w1) : AtN μ d ρ pc ls stk w :=
  n_invS' dd kv ml hc hdc hn hstk hcat (fun r w1 h => by obtain ⟨rfl, rfl⟩ := h; exact kk)
theorem n_invT (dd : decode μ.2.1 pc = .ok (.invokestatic idx, 3)) (kv : KS μ' n) (ml : Cond.methodLinkNest μ.1.cls idx μ'.1 host ∈ NWs) (hc : CallN dc μ' as w (RV v w1)) (hdc : dc + 1 ≤ d) (hn : as.length = n) (hstk : stk = as.reverse ++ st) (hcat : catS st ≤ 8) (kk : AtN μ d ρ (pc + 3) ls (v :: st) w1) : AtN μ d ρ pc ls stk w :=
  n_invT' dd kv ml hc hdc hn hstk hcat (fun r w1 h => by obtain ⟨rfl, rfl⟩ := h; exact kk)
theorem n_invVu (dd : decode μ.2.1 pc = .ok (.invokevirtual idx, 3)) (kv : KV μ' n) (ml : Cond.methodLink μ.1.cls idx μ'.1 ∈ TS) (hc : CallN dc μ' ((2, z) :: as) w (RU w1)) (hdc : dc + 1 ≤ d) (k : Nat) {ci : Nat} {ts : List Nat} {r : vw_C} {ty : Nat → FieldType} (cf : CF ci r ty) (hz : z = ((k : Nat) : Int)) (hsh : SH[k]? = some (0, ci, ts)) (hrn : r.1 = μ'.1.cls) (hn : as.length = n) (hstk : stk = as.reverse ++ (2, z) :: st) (hcat : catS st ≤ 8) (kk : AtN μ d ρ (pc + 3) ls st w1) : AtN μ d ρ pc ls stk w :=
  n_invV' dd kv ml hc hdc k cf hz hsh hrn hn hstk hcat (fun r w1 h => by obtain ⟨rfl, rfl⟩ := h; exact kk)
theorem n_iret {x : Int} (dd : decode μ.2.1 pc = .ok (.ireturn, 1)) (hR : RetN Ψ ρ) (hret : μ.2.2.2 = some .int) (hΨ : Ψ (some (0, x)) w) : AtN μ d ρ pc ls [(0, x)] w := s_ireturn dd hR hret ⟨(Nat.add_zero _).symm, (Nat.add_zero _).symm⟩ ⟨rfl, hΨ⟩
theorem n_zret {x : Int} (dd : decode μ.2.1 pc = .ok (.ireturn, 1)) (hR : RetN Ψ ρ) (hret : μ.2.2.2 = some .boolean) (h01 : x = 0 ∨ x = 1) (hΨ : Ψ (some (0, x)) w) : AtN μ d ρ pc ls [(0, x)] w := s_zreturn dd hR hret h01 ⟨(Nat.add_zero _).symm, (Nat.add_zero _).symm⟩ ⟨rfl, hΨ⟩
theorem n_lret {x : Int} (dd : decode μ.2.1 pc = .ok (.lreturn, 1)) (hR : RetN Ψ ρ) (hret : μ.2.2.2 = some .long) (hΨ : Ψ (some (1, x)) w) : AtN μ d ρ pc ls [(1, x)] w := s_lreturn dd hR hret ⟨(Nat.add_zero _).symm, (Nat.add_zero _).symm⟩ ⟨rfl, hΨ⟩
theorem n_ret (dd : decode μ.2.1 pc = .ok (.return_, 1)) (hR : RetN Ψ ρ) (hret : μ.2.2.2 = none) (hΨ : Ψ none w) : AtN μ d ρ pc ls [] w := s_return dd hR hret ⟨(Nat.add_zero _).symm, (Nat.add_zero _).symm⟩ ⟨rfl, hΨ⟩
end NSTEPS
/-- cells outside S are as they were -/
def Fr (S : List Nat) (w w' : Wd) : Prop := ∀ k, k ∉ S → w' k = w k
theorem Fr.rf {S : List Nat} {w : Wd} : Fr S w w := fun _ _ => rfl
theorem Fr.tr {S : List Nat} {w w1 w2 : Wd} (h1 : Fr S w w1) (h2 : Fr S w1 w2) : Fr S w w2 := fun k hk => (h2 k hk).trans (h1 k hk)
theorem Fr.wu {S : List Nat} {w w1 : Wd} {k : Nat} {j v : Int} (h : Fr S w w1) (hk : k ∈ S) : Fr S w (wu w1 k j v) := fun a ha => by rw [wu_ne (fun e => ha (by rw [e]; exact hk)), h a ha]
theorem Fr.mono {S T : List Nat} {w w1 : Wd} (h : Fr S w w1) (hs : ∀ k ∈ S, k ∈ T) : Fr T w w1 := fun a ha => h a (fun q => ha (hs a q))
