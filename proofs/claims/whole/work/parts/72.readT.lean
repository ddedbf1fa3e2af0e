/-! THE CLASS READS A TEXT. -/
def kyT (T : Int → Int) (n : Int) : Ky := (fun s => kdT T n s, fun s => nuT T n s, n)
theorem kyT_ok (T : Int → Int) (n : Int) : KOK (kyT T n) := ⟨fun s h => nuT_bd (kdT_1 h).1, fun s => ⟨(kdT_bd T n s).1, (kdT_bd T n s).2.1⟩⟩
theorem hd_nil {K : Ky} (hK : KOK K) {S : List Int} (h : hdK K S = 0) : S = [] := by
  cases S with
  | nil => rfl
  | cons s r =>
    have h2 : K.1 s = 0 := h
    have := (hK.2 s).1
    omega
theorem liP_nil {K : Ky} {f : Nat} {L : List Lin} : liP K f L [] = .inr L := by
  cases f with
  | zero => rfl
  | succ f => rw [liP, if_pos rfl]
theorem liP_in {K : Ky} {f : Nat} {L : List Lin} {S : List Int} {e : Int × Int} (h0 : S ≠ []) (h : lnP K L.length S = .inl e) : liP K (f + 1) L S = .inl e := by
  rw [liP, if_neg h0, h]
theorem liP_on {K : Ky} {f : Nat} {L : List Lin} {S R : List Int} {q : Lin} (h0 : S ≠ []) (h : lnP K L.length S = .inr (q, R)) : liP K (f + 1) L S = liP K f (L ++ [q]) R := by
  rw [liP, if_neg h0, h]
theorem liP_ok {K : Ky} (hK : KOK K) : ∀ (f : Nat) (L M : List Lin) (S : List Int), liP K f L S = .inr M → (∀ q ∈ L, okLin q) → ∀ q ∈ M, okLin q
  | 0, L, M, S, h, hL => by
    have : L = M := Sum.inr.inj h
    rw [← this]; exact hL
  | f + 1, L, M, S, h, hL => by
    rw [liP] at h
    split at h
    · have : L = M := Sum.inr.inj h
      rw [← this]; exact hL
    · cases hq : lnP K L.length S with
      | inl e => rw [hq] at h; cases h
      | inr q =>
        rw [hq] at h
        refine liP_ok hK f (L ++ [q.1]) M q.2 h (fun p hp => ?_)
        rcases List.mem_append.mp hp with z | z
        · exact hL p z
        · rw [List.mem_singleton.mp z]
          exact (ln_gr hK (q := q.1) (R := q.2) hq).1
/-- what reading a text leaves -/
def FrR (b : Nat) (w v : Wd) : Prop := (∀ c, c ≠ 30 → c ≠ 32 → c ≠ 33 → c ≠ 34 → c ≠ 35 → c ≠ b → c ≠ b + 1 → c ≠ b + 2 → c ≠ b + 3 → v c = w c) ∧ (∀ j, j ≠ 5 → v 30 j = w 30 j) ∧ (∀ j, j ≠ 1 → j ≠ 3 → j ≠ 4 → v 35 j = w 35 j) ∧ ∀ j, j ≠ 1 → j ≠ 4 → v b j = w b j
theorem FrR.K {b : Nat} {w v u : Wd} (hb : IsSc b) (h : FrR b w v) (h2 : FrKf b v u) : FrR b w u := by
  have hn := hb.n
  have hm := hb.m
  refine ⟨fun c c1 c2 c3 c4 c5 c6 c7 c8 c9 => (h2.1 c c5 c6 c7 c8 c9).trans (h.1 c c1 c2 c3 c4 c5 c6 c7 c8 c9), fun j hj => ?_, fun j a b c => (h2.2.1 j a b c).trans (h.2.2.1 j a b c), fun j a b => (h2.2.2 j a b).trans (h.2.2.2 j a b)⟩
  rw [h2.1 30 (by decide) (by omega) (by omega) (by omega) (by omega)]
  exact h.2.1 j hj
theorem FrK.f {b : Nat} {w v : Wd} (h : FrK b w v) : FrKf b w v := ⟨h.1, fun j a _ _ => h.2.1 j a, h.2.2⟩
theorem ScT.tk {w v : Wd} {n : Int} (hn : 0 ≤ n ∧ n ≤ 600) (hw : w 30 1 = n) (h : ScT w v n n.toNat) : TkX v (reL (w 31) n 0) (kyT (w 31) n) ∧ v 35 = w 35 := by
  obtain ⟨h1, h2, h3, h4⟩ := h
  have e := stL_re (T := w 31) (n := n) n.toNat (by omega)
  rw [reL_end (by omega), List.append_nil] at e
  rw [← e]
  have hl := stL_len (T := w 31) n.toNat
  refine ⟨⟨by omega, h3, by rw [h2 1 (by decide)]; exact hw, fun j hj => ?_⟩, h1 35 (by decide) (by decide) (by decide) (by decide)⟩
  obtain ⟨a1, a2, a3⟩ := h4 j hj
  refine ⟨a1, a3, fun q => ?_⟩
  have q2 : kdT (w 31) n ((stL (w 31) n.toNat).getD j 0) = 1 := q
  rw [a2, if_pos q2]
  rfl
theorem ScT.R {w v : Wd} {n : Int} {i b : Nat} (hb : IsSc b) (h : ScT w v n i) : FrR b w v := by
  have hn := hb.n
  exact ⟨fun c c1 c2 c3 c4 _ _ _ _ _ => h.1 c c1 c2 c3 c4, h.2.1, fun j _ _ _ => by rw [h.1 35 (by decide) (by decide) (by decide) (by decide)], fun j _ _ => by rw [h.1 b (by omega) (by omega) (by omega) (by omega)]⟩
section REFS
variable {μ : Mu} {d : Nat} {ρ : Rh} {pc : Nat} {ls : List (Nat × PV)} {st : List PV} {w : Wd} {Ψ : Option PV → Wd → Prop}
/-- a script into the table of scripts -/
theorem n_aast5 {z j : Int} (k v : Nat) {n : Nat} {ts tv6 : List Nat} (dd : decode μ.2.1 pc = .ok (.aastore, 1)) (hz : z = ((k : Nat) : Int)) (hsh : SH[k]? = some (5, n, ts)) (hn : n < 2147483648) (hj : 0 ≤ j ∧ j < n) (hv : SH[v]? = some (0, 6, tv6)) (kk : AtN μ d ρ (pc + 1) ls st (wu w k j ((v : Nat) : Int))) : AtN μ d ρ pc ls ((2, ((v : Nat) : Int)) :: (0, j) :: (2, z) :: st) w := by
  obtain ⟨⟨p, l, e, R, s⟩, ⟨m, args, below, meth, c⟩, ⟨g, ad0, sh0⟩, Q⟩ := ρ
  intro C ad H locs lsa h1 h2 h3 hr hl hi hs
  obtain ⟨hx, hb, -, -, -, hown, -, hts, hK, -⟩ := id C
  subst hz
  simp only [List.forall_mem_cons] at hs
  have hjI : InI j := ⟨by omega, by omega⟩
  have e1 : ((((Int32.ofInt j).toNatClampNeg : Nat)) : Int) = j := by rw [i32_clamp hj.1 hjI]; omega
  refine va_astq hx hb hK hr.1 hr.2.1 hr.2.2.1 k 4 v 6 (wl_get hsh) (tyl_get g).2.2.2.2 (wl_get hv) cf_X6.1 (vp_in_int hn hj.1 hj.2) dd (fun H1 locs1 hP hD hS => ?_)
  have e3 : va_up (fun i : Nat => if w k (i : Int) < 0 then none else some (ad (w k (i : Int)).toNat)) (Int32.ofInt j).toNatClampNeg (some (ad v)) = fun i : Nat => if (if (i : Int) = j then ((v : Nat) : Int) else w k (i : Int)) < 0 then none else some (ad (if (i : Int) = j then ((v : Nat) : Int) else w k (i : Int)).toNat) := by
    funext i
    unfold va_up
    by_cases h : i = (Int32.ofInt j).toNatClampNeg
    · rw [if_pos h, if_pos (show (i : Int) = j by omega), if_neg (by omega)]
      rfl
    · rw [if_neg h, if_neg (show ¬ (i : Int) = j by omega)]
  have hP : va_P g.1 CL ((wl g ad SH w).set k (ad k, .inl (g.2.1 5, n, .inr (.inr (.inr (.inr (va_up (fun i : Nat => if w k (i : Int) < 0 then none else some (ad (w k (i : Int)).toNat)) (Int32.ofInt j).toNatClampNeg (some (ad v))))))))) H1 := hP
  have hD : va_D (AA ad0 sh0.length s.heap.size) ((wl g ad SH w).set k (ad k, .inl (g.2.1 5, n, .inr (.inr (.inr (.inr (va_up (fun i : Nat => if w k (i : Int) < 0 then none else some (ad (w k (i : Int)).toNat)) (Int32.ofInt j).toNatClampNeg (some (ad v))))))))) := hD
  rw [e3] at hP hD
  have ew : wl g ad SH (wu w k j ((v : Nat) : Int)) = (wl g ad SH w).set k (ad k, .inl (g.2.1 5, n, .inr (.inr (.inr (.inr (fun i : Nat => if (if (i : Int) = j then ((v : Nat) : Int) else w k (i : Int)) < 0 then none else some (ad (if (i : Int) = j then ((v : Nat) : Int) else w k (i : Int)).toNat))))))) := by
    rw [wl_set hsh]
    congr 2
    show ce g ad k (5, n, ts) _ = _
    unfold ce
    simp only [wu_at]
  rw [← ew] at hP hD
  refine kk C ad H1 locs1 lsa h1 h2 h3 ⟨hP, hD, hS, wf_set hr.2.2.2 hsh ?_⟩ hl hi hs.2.2.2
  intro i hi2 hi3
  rw [wu_at]
  by_cases hij : i = j
  · rw [if_pos hij]
    exact hs.1
  · rw [if_neg hij]
    exact hr.2.2.2 k _ hsh i hi2 hi3
/-- a reference into a field -/
theorem s_putR {δ : De} {sh : List Sh} {idx ci : Nat} {r : vw_C} {ty : Nat → FieldType} {z : Int} {v : Nat} {tn : String} (k j : Nat) {ts : List Nat} (dd : decode μ.2.1 pc = .ok (.putfield idx, 3)) (cf : CF ci r ty) (f : FF μ.1.cls idx ci r j) (hz : z = ((k : Nat) : Int)) (hsh : sh[k]? = some (0, ci, ts)) (ht : ts[j]? = some 2) (hty : ty j = .object tn) (hfin : (r.2.1 j).2.2.2 = false) (kk : At μ δ ρ sh (pc + 3) ls st (wu w k j ((v : Nat) : Int))) : At μ δ ρ sh pc ls ((2, ((v : Nat) : Int)) :: (2, z) :: st) w := by
  obtain ⟨⟨p, l, e, R, s⟩, ⟨m, args, below, meth, c⟩, ⟨g, ad0, sh0⟩, Q⟩ := ρ
  intro C ad H locs lsa h1 h2 h3 hr hl hi hs
  obtain ⟨hx, hb, -, -, -, hown, -, hts, hK, -⟩ := id C
  have hjl := (List.getElem?_eq_some_iff.mp ht).1
  have hgd : ts.getD j 0 = 2 := by simp [List.getD, ht]
  subst hz
  simp only [List.forall_mem_cons] at hs
  have hset : ((List.range ts.length).map (fun j => fv g ad k (ts.getD j 0) (w k (j : Int)))).set j (.ref (ad v)) = (List.range ts.length).map (fun i => fv g ad k (ts.getD i 0) (wu w k j ((v : Nat) : Int) k (i : Int))) := by
    apply List.ext_getElem?
    intro i
    by_cases hij : i = j
    · subst hij
      rw [List.getElem?_set_self (by simp; exact hjl), range_get hjl, hgd, wu_same]
      rfl
    · rw [List.getElem?_set_ne (Ne.symm hij)]
      by_cases hil : i < ts.length
      · rw [range_get hil, range_get hil, wu_at, if_neg (by omega)]
      · rw [List.getElem?_eq_none (by simp; omega), List.getElem?_eq_none (by simp; omega)]
  refine va_put hx hb (Ts := wsM μ) hts (fun w hw => List.mem_cons_of_mem _ (cf.2.1 w hw)) ty cf.2.2.1 cf.2.2.2 hown hK hr.1 hr.2.1 hr.2.2.1 k (wl_get hsh) cf.1 j f.1 (hts _ (List.mem_cons_of_mem _ f.2)) (fun _ h => h) hfin (ty := .object tn) (v := .ref (ad v)) (by rw [cf.2.2.1 j f.1, hty]) rfl rfl (by simp; exact hjl) dd (fun H1 locs1 hP hD hS => ?_)
  have hP : va_P g.1 CL ((wl g ad sh w).set k (ad k, .inr (ci, ((List.range ts.length).map (fun j => fv g ad k (ts.getD j 0) (w k (j : Int)))).set j (.ref (ad v))))) H1 := hP
  have hD : va_D (AA ad0 sh0.length s.heap.size) ((wl g ad sh w).set k (ad k, .inr (ci, ((List.range ts.length).map (fun j => fv g ad k (ts.getD j 0) (w k (j : Int)))).set j (.ref (ad v))))) := hD
  rw [hset] at hP hD
  have ew : wl g ad sh (wu w k j ((v : Nat) : Int)) = (wl g ad sh w).set k (ad k, .inr (ci, (List.range ts.length).map (fun i => fv g ad k (ts.getD i 0) (wu w k j ((v : Nat) : Int) k (i : Int))))) := wl_set hsh
  rw [← ew] at hP hD
  refine kk C ad H1 locs1 lsa h1 h2 h3 ⟨hP, hD, hS, wf_set hr.2.2.2 hsh ?_⟩ hl hi hs.2.2
  intro i hi2 hi3
  rw [wu_at]
  by_cases hij : (i : Int) = j
  · have : i = j := by omega
    subst this
    rw [if_pos rfl, hgd]
    exact hs.1
  · rw [if_neg hij]
    exact hr.2.2.2 k _ hsh i hi2 hi3
theorem n_putR {idx ci : Nat} {r : vw_C} {ty : Nat → FieldType} {z : Int} {v : Nat} {tn : String} (k j : Nat) {ts : List Nat} (dd : decode μ.2.1 pc = .ok (.putfield idx, 3)) (cf : CF ci r ty) (f : FF μ.1.cls idx ci r j) (hz : z = ((k : Nat) : Int)) (hsh : SH[k]? = some (0, ci, ts)) (ht : ts[j]? = some 2) (hty : ty j = .object tn) (hfin : (r.2.1 j).2.2.2 = false) (kk : AtN μ d ρ (pc + 3) ls st (wu w k j ((v : Nat) : Int))) : AtN μ d ρ pc ls ((2, ((v : Nat) : Int)) :: (2, z) :: st) w :=
  s_putR k j dd cf f hz hsh ht hty hfin kk
/-- a script is answered -/
theorem s_aret {δ : De} {sh sh0 : List Sh} {mc ms : Nat} {Φ : Option PV → List Sh → Wd → Prop} {v : Nat} {tn : String} (d : decode μ.2.1 pc = .ok (.areturn, 1)) (hR : RetOK mc ms Φ ρ sh0) (hret : μ.2.2.2 = some (.object tn)) (hsz : sh.length = sh0.length + mc ∧ SZ sh = SZ sh0 + ms) (hΦ : Φ (some (2, ((v : Nat) : Int))) sh w) : At μ δ ρ sh pc ls [(2, ((v : Nat) : Int))] w := by
  obtain ⟨⟨p, l, e, R, s⟩, ⟨m, args, below, meth, c⟩, ⟨g, ad0, sh1⟩, Q⟩ := ρ
  obtain ⟨rfl, rfl, rfl, rfl⟩ := hR
  intro C ad H locs lsa h1 h2 h3 hr hl hi hs
  obtain ⟨hx, hb, hrt, hml, hlk, -⟩ := id C
  have e1 : sh.length - sh1.length = R.cells := by omega
  have e2 : SZ sh - SZ sh1 = R.slots := by omega
  rw [e1, e2]
  have hq : ∀ t : State, t.heap = H → s.WarmedH t.vm → QC g ad0 sh1 s.heap.size R.cells R.slots Φ args s (.returned (((some (2, ((v : Nat) : Int))) : Option PV).map (tv g ad))) t := fun t ht _ => ⟨⟨(some (2, ((v : Nat) : Int))), sh, w, ad, rfl, hΦ, fun v hv => by cases hv; exact hs _ List.mem_cons_self, h1, hsz.1, hsz.2, by rw [ht]; exact hr.1, hr.2.1, hr.2.2.2⟩, hr.2.2.1.F ht⟩
  exact W.aret (v := .ref (ad v)) hx hb (hrt.trans hret) (Or.inl ⟨_, rfl⟩) (Or.inr ⟨_, rfl⟩) hq hr.2.2.1.2.2 d hlk
theorem n_aret {v : Nat} {tn : String} (dd : decode μ.2.1 pc = .ok (.areturn, 1)) (hR : RetN Ψ ρ) (hret : μ.2.2.2 = some (.object tn)) (hΨ : Ψ (some (2, ((v : Nat) : Int))) w) : AtN μ d ρ pc ls [(2, ((v : Nat) : Int))] w := s_aret dd hR hret ⟨(Nat.add_zero _).symm, (Nat.add_zero _).symm⟩ ⟨rfl, hΨ⟩
end REFS

set_option maxRecDepth 100000 in
theorem c_X_empty {b : Nat} (w : Wd) (hb : IsSc b) : CallN 1 mX6_empty [(2, ((b : Nat) : Int))] w (RU (wu (wu w b 1 0) b 4 0)) := by
  refine CallN.intro (by decide +kernel) (Nat.le_of_ble_eq_true rfl) (fun ρ hR => ?_)
  show AtN mX6_empty 1 ρ 0 [(0, (2, ((b : Nat) : Int)))] [] w
  refine s_aload_n dX6_empty_0 0 rfl (refb_nat b) (s_iconst dX6_empty_1 (by decide) (n_putf b 1 1 dX6_empty_2 cf_X6 ff_X6_24 rfl rfl (shS hb) rfl rfl rfl (s_aload_n dX6_empty_5 0 rfl (refb_nat b) (s_iconst dX6_empty_6 (by decide) (n_putf b 4 4 dX6_empty_7 cf_X6 ff_X6_28 rfl rfl (shS hb) rfl rfl rfl (n_ret dX6_empty_10 hR rfl ?_))))))
  exact ⟨rfl, rfl⟩

set_option maxRecDepth 100000 in
set_option maxHeartbeats 1000000 in
theorem c_X_parse {b : Nat} {n : Int} (w : Wd) (hb : IsSc b) (hw1 : w 30 1 = n) (hn : 0 ≤ n ∧ n ≤ 600) (hch : ∀ j, 0 ≤ j → j < n → 0 ≤ w 31 j ∧ w 31 j ≤ 255) (hd : w 35 2 = b) : CallN 23 mX4_parse [(2, 35)] w (RQ (fun z w1 => FrR b w w1 ∧ ((z = 0 ∧ ∃ e, liP (kyT (w 31) n) 22 [] (reL (w 31) n 0) = .inl e ∧ w1 35 3 = e.1 ∧ w1 35 4 = e.2) ∨ (z = 1 ∧ ∃ L, liP (kyT (w 31) n) 22 [] (reL (w 31) n 0) = .inr L ∧ DrS w1 b (reL (w 31) n 0) (kyT (w 31) n) 0 L [] ∧ w1 35 3 = w 35 3 ∧ w1 35 4 = w 35 4)))) := by
  refine CallN.intro (by decide +kernel) (Nat.le_of_ble_eq_true rfl) (fun ρ hR => ?_)
  show AtN mX4_parse 23 ρ 0 [(0, (2, 35))] [] w
  have hnb := hb.n
  have L_23 : ∀ (fu : Nat) (fine : Int) (i : Int) (v9 : Wd) (L : List Lin) (S : List Int), fine = 0 ∨ fine = 1 → 0 ≤ i ∧ i ≤ 21 → ((fine = 1 ∧ DrS v9 b (reL (w 31) n 0) (kyT (w 31) n) 0 L S ∧ liP (kyT (w 31) n) (22 - L.length) L S = liP (kyT (w 31) n) 22 [] (reL (w 31) n 0) ∧ (L.length : Int) = i ∧ v9 35 3 = w 35 3 ∧ v9 35 4 = w 35 4) ∨ (fine = 0 ∧ ∃ e, liP (kyT (w 31) n) 22 [] (reL (w 31) n 0) = .inl e ∧ v9 35 3 = e.1 ∧ v9 35 4 = e.2)) → FrR b w v9 → (21 - i).toNat < fu → AtN mX4_parse 23 ρ 23 [(0, (2, 35)), (1, (0, fine)), (2, (0, i))] [] v9 := by
    intro fu
    induction fu with
    | zero => intro fine i v9 L S hfi hi hM hF hm; exact absurd hm (Nat.not_lt_zero _)
    | succ fu ih =>
      intro fine i v9 L S hfi hi hM hF hm
      refine s_iload_n dX4_parse_23 2 rfl (s_bipush dX4_parse_24 (by decide) (s_icmp_gt 51 dX4_parse_26 (by decide) (fun c_26 => ?_) (fun c_26 => ?_)))
      · skip
        refine s_iload_n dX4_parse_51 1 rfl (n_zret dX4_parse_52 hR rfl (by first | exact Or.inl rfl | exact Or.inr rfl | exact bi_01 _ | omega) ?_)
        rcases hM with q | q
        · exfalso
          have := q.2.1.2.1
          omega
        · exact ⟨_, rfl, hF, Or.inl q⟩
      · skip
        refine s_iload_n dX4_parse_29 1 rfl (s_if_eq 51 dX4_parse_30 (by decide) (fun c_30 => ?_) (fun c_30 => ?_))
        · skip
          refine s_iload_n dX4_parse_51 1 rfl (n_zret dX4_parse_52 hR rfl (by first | exact Or.inl rfl | exact Or.inr rfl | exact bi_01 _ | omega) ?_)
          rcases hM with q | q
          · exfalso
            have := q.2.1.2.1
            omega
          · exact ⟨_, rfl, hF, Or.inl q⟩
        · skip
          have hM2 : DrS v9 b (reL (w 31) n 0) (kyT (w 31) n) 0 L S ∧ liP (kyT (w 31) n) (22 - L.length) L S = liP (kyT (w 31) n) 22 [] (reL (w 31) n 0) ∧ (L.length : Int) = i ∧ v9 35 3 = w 35 3 ∧ v9 35 4 = w 35 4 := by
            rcases hM with q | q
            · exact q.2
            · omega
          have hL20 := hM2.1.2.1
          refine s_aload_n dX4_parse_33 0 rfl rfl (n_invV (as := []) dX4_parse_34 kv_X4_sign ml_X4_40 (c_X_sign v9 hb hM2.1.1) (by decide) 35 cf_X4 rfl sh_35 rfl rfl rfl (Nat.le_of_ble_eq_true rfl) (s_if_eq 51 dX4_parse_37 (by decide) (fun c_37 => ?_) (fun c_37 => ?_)))
          · skip
            refine s_iload_n dX4_parse_51 1 rfl (n_zret dX4_parse_52 hR rfl (by first | exact Or.inl rfl | exact Or.inr rfl | exact bi_01 _ | omega) ?_)
            have hnil := hd_nil (kyT_ok (w 31) n) c_37
            have hfi1 : fine = 1 := by omega
            rw [hnil] at hM2
            exact ⟨_, rfl, hF, Or.inr ⟨hfi1, L, by rw [← hM2.2.1, liP_nil], hM2.1, hM2.2.2.2⟩⟩
          · skip
            refine s_aload_n dX4_parse_40 0 rfl rfl (n_invV' (as := []) dX4_parse_41 kv_X4_line ml_X4_44 (c_X_line (kyT_ok (w 31) n) v9 hb hM2.1 (by decide)) (by decide) 35 cf_X4 rfl sh_35 rfl rfl rfl (Nat.le_of_ble_eq_true rfl) ?_)
            rintro r_41 w_41 ⟨z_41, rfl, hz_41⟩
            show AtN _ _ ρ _ _ [(0, z_41)] w_41
            have hS0 : S ≠ [] := fun e => c_37 (by rw [e]; rfl)
            have hfu : 22 - L.length = (21 - L.length) + 1 := by omega
            refine s_istore_n (ls' := [(0, (2, 35)), (1, (0, z_41)), (2, (0, i))]) dX4_parse_44 (Nat.le_of_ble_eq_true rfl) rfl ?_
            rcases hz_41 with ⟨hz, e9, q1, q2, q3, q4⟩ | ⟨hz, q9, R9, q1, q2, q3⟩
            · skip
              refine s_iinc (z := (i + 1)) (ls' := [(0, (2, 35)), (1, (0, z_41)), (2, (0, (i + 1)))]) dX4_parse_45 2 rfl (Nat.le_of_ble_eq_true rfl) (wr_id (by omega) (by omega)) rfl (s_goto 23 dX4_parse_48 (by decide) ?_)
              exact ih z_41 (i + 1) w_41 ([]) ([]) (by omega) (by omega) (Or.inr ⟨hz, e9, by rw [← hM2.2.1, hfu]; exact liP_in hS0 q1, q3, q4⟩) (FrR.K hb hF q2) (by omega)
            · skip
              refine s_iinc (z := (i + 1)) (ls' := [(0, (2, 35)), (1, (0, z_41)), (2, (0, (i + 1)))]) dX4_parse_45 2 rfl (Nat.le_of_ble_eq_true rfl) (wr_id (by omega) (by omega)) rfl (s_goto 23 dX4_parse_48 (by decide) ?_)
              exact ih z_41 (i + 1) w_41 (L ++ [q9]) R9 (by omega) (by omega) (Or.inl ⟨hz, q3, by rw [← hM2.2.1, hfu, liP_on hS0 q1, List.length_append]; exact congrArg (fun f => liP (kyT (w 31) n) f (L ++ [q9]) R9) (by show 22 - (L.length + 1) = 21 - L.length; omega), by rw [List.length_append]; show ((L.length + 1 : Nat) : Int) = i + 1; omega, (q2.2.1 3 (by decide)).trans hM2.2.2.2.1, (q2.2.1 4 (by decide)).trans hM2.2.2.2.2⟩) (FrR.K hb hF q2.f) (by omega)
            
  refine s_iconst dX4_parse_0 (by decide) (s_istore_n (ls' := [(0, (2, 35)), (1, (0, 1))]) dX4_parse_1 (Nat.le_of_ble_eq_true rfl) rfl (s_aload_n dX4_parse_2 0 rfl rfl (n_getc (q := 30) 35 0 40 dX4_parse_3 cf_X4 ff_X4_9 rfl sh_35 rfl (by decide) rfl (by decide) (n_invV' (as := []) dX4_parse_6 kv_X8_scan ml_X4_29 (c_X_scan n w ⟨hw1, hn.2⟩ hn.1 hch) (by decide) 30 cf_X8 rfl sh_30 rfl rfl rfl (Nat.le_of_ble_eq_true rfl) ?_))))
  rintro r_6 w_6 ⟨rfl, hSc⟩
  obtain ⟨hTk, h35⟩ := hSc.tk hn hw1
  have hdr : w_6 35 2 = b := by rw [h35]; exact hd
  refine s_aload_n dX4_parse_9 0 rfl rfl (n_getf 35 2 2 dX4_parse_10 cf_X4 ff_X4_18 rfl sh_35 rfl (by decide) (v := ((b : Nat) : Int)) hdr (n_invVu (as := []) dX4_parse_13 kv_X6_empty ml_X4_34 (c_X_empty w_6 hb) (by decide) b cf_X6 rfl (shS hb) rfl rfl rfl (Nat.le_of_ble_eq_true rfl) (s_aload_n dX4_parse_16 0 rfl rfl (s_iconst dX4_parse_17 (by decide) (n_putf 35 1 1 dX4_parse_18 cf_X4 ff_X4_37 rfl rfl sh_35 rfl rfl rfl ?_)))))
  have e0 : ∀ c, c ≠ 35 → c ≠ b → wu (wu (wu w_6 b 1 0) b 4 0) 35 1 0 c = w_6 c := fun c x y => by rw [wu_ne x, wu_ne y, wu_ne y]
  refine s_iconst dX4_parse_21 (by decide) (s_istore_n (ls' := [(0, (2, 35)), (1, (0, 1)), (2, (0, 0))]) dX4_parse_22 (Nat.le_of_ble_eq_true rfl) rfl ?_)
  exact L_23 _ 1 0 (wu (wu (wu w_6 b 1 0) b 4 0) 35 1 0) ([]) (reL (w 31) n 0) (Or.inr rfl) (by omega) (Or.inl ⟨rfl, ⟨⟨hTk.fr (e0 30 (by decide) (by omega)) (e0 32 (by decide) (by omega)) (e0 33 (by decide) (by omega)) (e0 34 (by decide) (by omega)), List.suffix_refl _, by rw [wu_same]; omega, by rw [wu_at, if_neg (by decide), wu_ne hnb.1.symm, wu_ne hnb.1.symm]; exact hdr, ⟨by rw [wu_ne hnb.1, wu_at, if_neg (by decide), wu_same]; rfl, fun j hj => absurd hj (Nat.not_lt_zero j)⟩, by show ((0 : Nat) : Int) + _ + 0 ≤ _; omega⟩, by decide, by rw [wu_ne hnb.1, wu_same]; rfl, fun i hi => absurd hi (Nat.not_lt_zero i)⟩, rfl, rfl, by rw [wu_at, if_neg (by decide), wu_ne hnb.1.symm, wu_ne hnb.1.symm, h35], by rw [wu_at, if_neg (by decide), wu_ne hnb.1.symm, wu_ne hnb.1.symm, h35]⟩) (FrR.K hb (hSc.R hb) ⟨fun c c1 c2 _ _ _ => by rw [wu_ne c1, wu_ne c2, wu_ne c2], fun j j1 _ _ => by rw [wu_at, if_neg j1, wu_ne hnb.1.symm, wu_ne hnb.1.symm], fun j j1 j4 => by rw [wu_ne hnb.1, wu_at, if_neg j4, wu_at, if_neg j1]⟩) (Nat.lt_succ_self _)

