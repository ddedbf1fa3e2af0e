/-! SCRIPTS, LOOK, FEED. -/
def IsSc (s : Nat) : Prop := s = 36 ∨ s = 44 ∨ s = 49 ∨ s = 54
theorem shS {s : Nat} (h : IsSc s) : SH[s]? = some (0, 6, [1001, 0, 1002, 1003, 0, 1004]) := by rcases h with rfl | rfl | rfl | rfl <;> rfl
theorem shS1 {s : Nat} (h : IsSc s) : SH[s + 1]? = some (1, 640, []) := by rcases h with rfl | rfl | rfl | rfl <;> rfl
theorem shS2 {s : Nat} (h : IsSc s) : SH[s + 2]? = some (1, 20, []) := by rcases h with rfl | rfl | rfl | rfl <;> rfl
theorem shS3 {s : Nat} (h : IsSc s) : SH[s + 3]? = some (1, 20, []) := by rcases h with rfl | rfl | rfl | rfl <;> rfl
theorem shS4 {s : Nat} (h : IsSc s) : SH[s + 4]? = some (1, 64, []) := by rcases h with rfl | rfl | rfl | rfl <;> rfl
theorem sc_lt {s : Nat} (h : IsSc s) (k : Nat) (hk : k ≤ 4) : (((s + k : Nat)) : Int) < 210 := by rcases h with rfl | rfl | rfl | rfl <;> omega
section DYN
variable {μ : Mu} {d : Nat} {ρ : Rh} {pc : Nat} {ls : List (Nat × PV)} {st : List PV} {w : Wd}
/-- an entry of a Script[] -/
theorem n_aald5 {z j q : Int} (k : Nat) {n : Nat} {ts : List Nat} (dd : decode μ.2.1 pc = .ok (.aaload, 1)) (hz : z = ((k : Nat) : Int)) (hsh : SH[k]? = some (5, n, ts)) (hn : n < 2147483648) (hj : 0 ≤ j ∧ j < n) (hq : w k j = q) (kk : AtN μ d ρ (pc + 1) ls ((2, q) :: st) w) : AtN μ d ρ pc ls ((0, j) :: (2, z) :: st) w := by
  subst hq
  obtain ⟨⟨p, l, e, R, s⟩, ⟨m, args, below, meth, c⟩, ⟨g, ad0, sh0⟩, Q⟩ := ρ
  intro C ad H locs lsa h1 h2 h3 hr hl hi hs
  obtain ⟨hx, hb, -, -, -, hown, -, hts, hK, -⟩ := id C
  subst hz
  simp only [List.forall_mem_cons] at hs
  have hjI : InI j := ⟨by omega, by omega⟩
  have hin9 : -1 ≤ w k j ∧ w k j < SH.length := hr.2.2.2 k _ hsh j hj.1 hj.2
  have k1 := kk C ad H locs lsa h1 h2 h3 hr hl hi (List.forall_mem_cons.mpr ⟨hin9, hs.2.2⟩)
  have e1 : ((((Int32.ofInt j).toNatClampNeg : Nat)) : Int) = j := by rw [i32_clamp hj.1 hjI]; omega
  refine va_aldq hx hb hK hr.1 k 4 (wl_get hsh) (tyl_get g).2.2.2.2 (vp_in_int hn hj.1 hj.2) dd ?_
  have e2 : va_rf (if w k ((((Int32.ofInt j).toNatClampNeg : Nat)) : Int) < 0 then none else some (ad (w k ((((Int32.ofInt j).toNatClampNeg : Nat)) : Int)).toNat)) = tv g ad (2, w k j) := by
    rw [e1]
    show _ = if w k j < 0 then Value.null else .ref (ad (w k j).toNat)
    by_cases h0 : w k j < 0
    · rw [if_pos h0, if_pos h0]; rfl
    · rw [if_neg h0, if_neg h0]; rfl
  show W p l e R s m args below meth c H locs (SH.length - sh0.length) (SZ SH - SZ sh0) Q (F0 m (pc + 1) lsa (va_rf (if w k ((((Int32.ofInt j).toNatClampNeg : Nat)) : Int) < 0 then none else some (ad (w k ((((Int32.ofInt j).toNatClampNeg : Nat)) : Int)).toNat)) :: _))
  rw [e2]
  exact k1
end DYN
def sumI (f : Int → Int) : Nat → Int
  | 0 => 0
  | n + 1 => sumI f n + f n
theorem sumI_s {f : Int → Int} {i : Int} (h : 0 ≤ i) : sumI f (i + 1).toNat = sumI f i.toNat + f i := by rw [toN_s h, sumI, toN_c h]
theorem sumI_bd {f : Int → Int} {B : Int} : ∀ n : Nat, (∀ j : Int, 0 ≤ j → j < n → 0 ≤ f j ∧ f j ≤ B) → 0 ≤ sumI f n ∧ sumI f n ≤ B * n
  | 0, _ => by simp [sumI]
  | n + 1, h => by
    have ih := sumI_bd n (fun j h1 h2 => h j h1 (by omega))
    have h2 := h n (by omega) (by omega)
    rw [sumI]
    have e : B * ((n + 1 : Nat) : Int) = B * n + B := by rw [Int.natCast_add, Int.mul_add]; simp
    omega
theorem sumI_bd' {f : Int → Int} {B N i : Int} (hN : ∀ j : Int, 0 ≤ j → j < N → 0 ≤ f j ∧ f j ≤ B) (h0 : 0 ≤ i) (h1 : i ≤ N) : 0 ≤ sumI f i.toNat ∧ sumI f i.toNat ≤ B * i := by
  have h := sumI_bd (f := f) (B := B) i.toNat (fun j a b => hN j a (by omega))
  rwa [toN_c h0] at h
theorem sumI_cong {f g : Int → Int} : ∀ n : Nat, (∀ j : Int, 0 ≤ j → j < n → f j = g j) → sumI f n = sumI g n
  | 0, _ => rfl
  | n + 1, h => by rw [sumI, sumI, sumI_cong n (fun j a b => h j a (by omega)), h n (by omega) (by omega)]
abbrev is12 (f : Int → Int) : Int → Int := fun j => if f j = 12 then 1 else 0

set_option maxRecDepth 100000 in
theorem c_X_lookersInAll (w : Wd) (h : 0 ≤ w 15 10 ∧ w 15 10 ≤ 16) (hl : ∀ j, 0 ≤ j → j < w 15 10 → 0 ≤ w 23 j ∧ w 23 j ≤ 1400000) : CallN 1 mX3_lookersInAll [(2, 15)] w (RV (0, sumI (w 23) (w 15 10).toNat) w) := by
  refine CallN.intro (by decide +kernel) (Nat.le_of_ble_eq_true rfl) (fun ρ hR => ?_)
  show AtN mX3_lookersInAll 1 ρ 0 [(0, (2, 15))] [] w
  have L_4 : ∀ (fu : Nat) (i : Int) (a : Int), 0 ≤ i ∧ i ≤ w 15 10 → a = sumI (w 23) i.toNat → (w 15 10 - i).toNat < fu → AtN mX3_lookersInAll 1 ρ 4 [(0, (2, 15)), (1, (0, a)), (2, (0, i))] [] w := by
    intro fu
    induction fu with
    | zero => intro i a hi ha hm; exact absurd hm (Nat.not_lt_zero _)
    | succ fu ih =>
      intro i a hi ha hm
      have qa := sumI_bd' (f := (w 23)) (B := 1400000) (N := w 15 10) hl hi.1 hi.2
      rw [← ha] at qa
      refine s_iload_n dX3_lookersInAll_4 2 rfl (s_aload_n dX3_lookersInAll_5 0 rfl rfl (n_getf 15 10 0 dX3_lookersInAll_6 cf_X3 ff_X3_63 rfl sh_15 rfl (by decide) (v := (w 15 10)) rfl (s_icmp_ge 27 dX3_lookersInAll_9 (by decide) (fun c_9 => ?_) (fun c_9 => ?_))))
      · skip
        refine s_iload_n dX3_lookersInAll_27 1 rfl (n_iret dX3_lookersInAll_28 hR rfl ?_)
        have e9 : i = w 15 10 := by omega
        rw [e9] at ha
        exact ⟨congrArg (fun z => some ((0 : Nat), z)) ha, rfl⟩
      · skip
        refine s_iload_n dX3_lookersInAll_12 1 rfl (s_aload_n dX3_lookersInAll_13 0 rfl rfl (n_getc (q := 23) 15 7 33 dX3_lookersInAll_14 cf_X3 ff_X3_34 rfl sh_15 rfl (by decide) rfl (by decide) (s_iload_n dX3_lookersInAll_17 2 rfl (n_iald 23 dX3_lookersInAll_18 rfl sh_23 (by decide) ⟨(by omega), (by omega)⟩ (v := (w 23 i)) rfl (n_add (z := (a + (w 23 i))) dX3_lookersInAll_19 (wr_id (by omega) (by omega)) (s_istore_n (ls' := [(0, (2, 15)), (1, (0, (a + (w 23 i)))), (2, (0, i))]) dX3_lookersInAll_20 (Nat.le_of_ble_eq_true rfl) rfl (s_iinc (z := (i + 1)) (ls' := [(0, (2, 15)), (1, (0, (a + (w 23 i)))), (2, (0, (i + 1)))]) dX3_lookersInAll_21 2 rfl (Nat.le_of_ble_eq_true rfl) (wr_id (by omega) (by omega)) rfl (s_goto 4 dX3_lookersInAll_24 (by decide) ?_))))))))
        exact ih (i + 1) (a + (w 23 i)) (by omega) (by rw [sumI_s hi.1, ← ha]) (by omega)
  refine s_iconst dX3_lookersInAll_0 (by decide) (s_istore_n (ls' := [(0, (2, 15)), (1, (0, 0))]) dX3_lookersInAll_1 (Nat.le_of_ble_eq_true rfl) rfl (s_iconst dX3_lookersInAll_2 (by decide) (s_istore_n (ls' := [(0, (2, 15)), (1, (0, 0)), (2, (0, 0))]) dX3_lookersInAll_3 (Nat.le_of_ble_eq_true rfl) rfl ?_)))
  exact L_4 _ 0 0 (by omega) rfl (Nat.lt_succ_self _)

set_option maxRecDepth 100000 in
theorem c_X_players (w : Wd) (h : 0 ≤ w 15 10 ∧ w 15 10 ≤ 16) (hl : ∀ j, 0 ≤ j → j < w 15 10 → 0 ≤ w 19 j ∧ w 19 j ≤ 40) : CallN 1 mX3_players [(2, 15)] w (RV (0, sumI (w 19) (w 15 10).toNat) w) := by
  refine CallN.intro (by decide +kernel) (Nat.le_of_ble_eq_true rfl) (fun ρ hR => ?_)
  show AtN mX3_players 1 ρ 0 [(0, (2, 15))] [] w
  have L_4 : ∀ (fu : Nat) (i : Int) (a : Int), 0 ≤ i ∧ i ≤ w 15 10 → a = sumI (w 19) i.toNat → (w 15 10 - i).toNat < fu → AtN mX3_players 1 ρ 4 [(0, (2, 15)), (1, (0, a)), (2, (0, i))] [] w := by
    intro fu
    induction fu with
    | zero => intro i a hi ha hm; exact absurd hm (Nat.not_lt_zero _)
    | succ fu ih =>
      intro i a hi ha hm
      have qa := sumI_bd' (f := (w 19)) (B := 40) (N := w 15 10) hl hi.1 hi.2
      rw [← ha] at qa
      refine s_iload_n dX3_players_4 2 rfl (s_aload_n dX3_players_5 0 rfl rfl (n_getf 15 10 0 dX3_players_6 cf_X3 ff_X3_63 rfl sh_15 rfl (by decide) (v := (w 15 10)) rfl (s_icmp_ge 27 dX3_players_9 (by decide) (fun c_9 => ?_) (fun c_9 => ?_))))
      · skip
        refine s_iload_n dX3_players_27 1 rfl (n_iret dX3_players_28 hR rfl ?_)
        have e9 : i = w 15 10 := by omega
        rw [e9] at ha
        exact ⟨congrArg (fun z => some ((0 : Nat), z)) ha, rfl⟩
      · skip
        refine s_iload_n dX3_players_12 1 rfl (s_aload_n dX3_players_13 0 rfl rfl (n_getc (q := 19) 15 3 29 dX3_players_14 cf_X3 ff_X3_21 rfl sh_15 rfl (by decide) rfl (by decide) (s_iload_n dX3_players_17 2 rfl (n_iald 19 dX3_players_18 rfl sh_19 (by decide) ⟨(by omega), (by omega)⟩ (v := (w 19 i)) rfl (n_add (z := (a + (w 19 i))) dX3_players_19 (wr_id (by omega) (by omega)) (s_istore_n (ls' := [(0, (2, 15)), (1, (0, (a + (w 19 i)))), (2, (0, i))]) dX3_players_20 (Nat.le_of_ble_eq_true rfl) rfl (s_iinc (z := (i + 1)) (ls' := [(0, (2, 15)), (1, (0, (a + (w 19 i)))), (2, (0, (i + 1)))]) dX3_players_21 2 rfl (Nat.le_of_ble_eq_true rfl) (wr_id (by omega) (by omega)) rfl (s_goto 4 dX3_players_24 (by decide) ?_))))))))
        exact ih (i + 1) (a + (w 19 i)) (by omega) (by rw [sumI_s hi.1, ← ha]) (by omega)
  refine s_iconst dX3_players_0 (by decide) (s_istore_n (ls' := [(0, (2, 15)), (1, (0, 0))]) dX3_players_1 (Nat.le_of_ble_eq_true rfl) rfl (s_iconst dX3_players_2 (by decide) (s_istore_n (ls' := [(0, (2, 15)), (1, (0, 0)), (2, (0, 0))]) dX3_players_3 (Nat.le_of_ble_eq_true rfl) rfl ?_)))
  exact L_4 _ 0 0 (by omega) rfl (Nat.lt_succ_self _)

set_option maxRecDepth 100000 in
theorem c_X_wornOut (w : Wd) (h : 0 ≤ w 1 9 ∧ w 1 9 ≤ 30)  : CallN 1 mX5_wornOut [(2, 1)] w (RV (0, sumI (is12 (w 8)) (w 1 9).toNat) w) := by
  refine CallN.intro (by decide +kernel) (Nat.le_of_ble_eq_true rfl) (fun ρ hR => ?_)
  show AtN mX5_wornOut 1 ρ 0 [(0, (2, 1))] [] w
  have L_4 : ∀ (fu : Nat) (i : Int) (a : Int), 0 ≤ i ∧ i ≤ w 1 9 → a = sumI (is12 (w 8)) i.toNat → (w 1 9 - i).toNat < fu → AtN mX5_wornOut 1 ρ 4 [(0, (2, 1)), (1, (0, a)), (2, (0, i))] [] w := by
    intro fu
    induction fu with
    | zero => intro i a hi ha hm; exact absurd hm (Nat.not_lt_zero _)
    | succ fu ih =>
      intro i a hi ha hm
      have qa := sumI_bd' (f := (is12 (w 8))) (B := 1) (N := w 1 9) (fun j _ _ => by unfold is12; split <;> omega) hi.1 hi.2
      rw [← ha] at qa
      refine s_iload_n dX5_wornOut_4 2 rfl (s_aload_n dX5_wornOut_5 0 rfl rfl (n_getf 1 9 0 dX5_wornOut_6 cf_X5 ff_X5_63 rfl sh_1 rfl (by decide) (v := (w 1 9)) rfl (s_icmp_ge 32 dX5_wornOut_9 (by decide) (fun c_9 => ?_) (fun c_9 => ?_))))
      · skip
        refine s_iload_n dX5_wornOut_32 1 rfl (n_iret dX5_wornOut_33 hR rfl ?_)
        have e9 : i = w 1 9 := by omega
        rw [e9] at ha
        exact ⟨congrArg (fun z => some ((0 : Nat), z)) ha, rfl⟩
      · skip
        refine s_aload_n dX5_wornOut_12 0 rfl rfl (n_getc (q := 8) 1 7 18 dX5_wornOut_13 cf_X5 ff_X5_30 rfl sh_1 rfl (by decide) rfl (by decide) (s_iload_n dX5_wornOut_16 2 rfl (n_iald 8 dX5_wornOut_17 rfl sh_8 (by decide) ⟨(by omega), (by omega)⟩ (v := (w 8 i)) rfl (s_bipush dX5_wornOut_18 (by decide) (s_icmp_ne 26 dX5_wornOut_20 (by decide) (fun c_20 => ?_) (fun c_20 => ?_))))))
        · skip
          refine s_iinc (z := (i + 1)) (ls' := [(0, (2, 1)), (1, (0, a)), (2, (0, (i + 1)))]) dX5_wornOut_26 2 rfl (Nat.le_of_ble_eq_true rfl) (wr_id (by omega) (by omega)) rfl (s_goto 4 dX5_wornOut_29 (by decide) ?_)
          exact ih (i + 1) a (by omega) (by rw [sumI_s hi.1, ← ha]; show _ = a + (if w 8 i = 12 then 1 else 0); split <;> omega) (by omega)
        · skip
          refine s_iinc (z := (a + 1)) (ls' := [(0, (2, 1)), (1, (0, (a + 1))), (2, (0, i))]) dX5_wornOut_23 1 rfl (Nat.le_of_ble_eq_true rfl) (wr_id (by omega) (by omega)) rfl (s_iinc (z := (i + 1)) (ls' := [(0, (2, 1)), (1, (0, (a + 1))), (2, (0, (i + 1)))]) dX5_wornOut_26 2 rfl (Nat.le_of_ble_eq_true rfl) (wr_id (by omega) (by omega)) rfl (s_goto 4 dX5_wornOut_29 (by decide) ?_))
          exact ih (i + 1) (a + 1) (by omega) (by rw [sumI_s hi.1, ← ha]; show _ = a + (if w 8 i = 12 then 1 else 0); split <;> omega) (by omega)
  refine s_iconst dX5_wornOut_0 (by decide) (s_istore_n (ls' := [(0, (2, 1)), (1, (0, 0))]) dX5_wornOut_1 (Nat.le_of_ble_eq_true rfl) rfl (s_iconst dX5_wornOut_2 (by decide) (s_istore_n (ls' := [(0, (2, 1)), (1, (0, 0)), (2, (0, 0))]) dX5_wornOut_3 (Nat.le_of_ble_eq_true rfl) rfl ?_)))
  exact L_4 _ 0 0 (by omega) rfl (Nat.lt_succ_self _)

/-- the firms' scripts: which cell each is -/
def SCS (w : Wd) (s : Int → Nat) : Prop := ∀ f : Int, 0 ≤ f → f < 3 → IsSc (s f) ∧ w 42 f = ((s f : Nat) : Int) ∧ 0 ≤ w (s f) 4 ∧ w (s f) 4 ≤ 20
set_option maxRecDepth 100000 in
theorem c_X_linesInAll (w : Wd) (s : Int → Nat) (hs : SCS w s) : CallN 1 mX2_linesInAll [(2, 41)] w (RV (0, sumI (fun f => w (s f) 4) 3) w) := by
  refine CallN.intro (by decide +kernel) (Nat.le_of_ble_eq_true rfl) (fun ρ hR => ?_)
  show AtN mX2_linesInAll 1 ρ 0 [(0, (2, 41))] [] w
  have L_4 : ∀ (fu : Nat) (i : Int) (a : Int), 0 ≤ i ∧ i ≤ 3 → a = sumI (fun f => w (s f) 4) i.toNat → (3 - i).toNat < fu → AtN mX2_linesInAll 1 ρ 4 [(0, (2, 41)), (1, (0, a)), (2, (0, i))] [] w := by
    intro fu
    induction fu with
    | zero => intro i a hi ha hm; exact absurd hm (Nat.not_lt_zero _)
    | succ fu ih =>
      intro i a hi ha hm
      have qa := sumI_bd' (f := fun f => w (s f) 4) (B := 20) (N := 3) (fun j a b => (hs j a b).2.2) hi.1 hi.2
      rw [← ha] at qa
      refine s_iload_n dX2_linesInAll_4 2 rfl (s_iconst dX2_linesInAll_5 (by decide) (s_icmp_ge 27 dX2_linesInAll_6 (by decide) (fun c_6 => ?_) (fun c_6 => ?_)))
      · skip
        refine s_iload_n dX2_linesInAll_27 1 rfl (n_iret dX2_linesInAll_28 hR rfl ?_)
        have e9 : i = 3 := by omega
        rw [e9] at ha
        exact ⟨congrArg (fun z => some ((0 : Nat), z)) ha, rfl⟩
      · skip
        refine s_iload_n dX2_linesInAll_9 1 rfl (s_aload_n dX2_linesInAll_10 0 rfl rfl (n_getc (q := 42) 41 2 52 dX2_linesInAll_11 cf_X2 ff_X2_11 rfl sh_41 rfl (by decide) rfl (by decide) (s_iload_n dX2_linesInAll_14 2 rfl ?_)))
        refine n_aald5 42 dX2_linesInAll_15 rfl sh_42 (by decide) ⟨by omega, by omega⟩ (hs i (by omega) (by omega)).2.1 ?_
        have hx9 := (hs i (by omega) (by omega)).2.2
        refine n_getf (s i) 4 0 dX2_linesInAll_16 cf_X6 ff_X2_30 rfl (shS (hs i (by omega) (by omega)).1) rfl (by decide) (v := (w (s i) 4)) rfl (n_add (z := (a + (w (s i) 4))) dX2_linesInAll_19 (wr_id (by omega) (by omega)) (s_istore_n (ls' := [(0, (2, 41)), (1, (0, (a + (w (s i) 4)))), (2, (0, i))]) dX2_linesInAll_20 (Nat.le_of_ble_eq_true rfl) rfl (s_iinc (z := (i + 1)) (ls' := [(0, (2, 41)), (1, (0, (a + (w (s i) 4)))), (2, (0, (i + 1)))]) dX2_linesInAll_21 2 rfl (Nat.le_of_ble_eq_true rfl) (wr_id (by omega) (by omega)) rfl (s_goto 4 dX2_linesInAll_24 (by decide) ?_))))
        exact ih (i + 1) (a + (w (s i) 4)) (by omega) (by rw [sumI_s hi.1, ← ha]) (by omega)
  refine s_iconst dX2_linesInAll_0 (by decide) (s_istore_n (ls' := [(0, (2, 41)), (1, (0, 0))]) dX2_linesInAll_1 (Nat.le_of_ble_eq_true rfl) rfl (s_iconst dX2_linesInAll_2 (by decide) (s_istore_n (ls' := [(0, (2, 41)), (1, (0, 0)), (2, (0, 0))]) dX2_linesInAll_3 (Nat.le_of_ble_eq_true rfl) rfl ?_)))
  exact L_4 _ 0 0 (by omega) rfl (Nat.lt_succ_self _)
