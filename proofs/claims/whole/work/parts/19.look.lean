/-! SCRIPTS, LOOK, FEED. -/
def IsSc (s : Nat) : Prop := s = 36 ∨ s = 44 ∨ s = 49 ∨ s = 54
theorem shS {s : Nat} (h : IsSc s) : SH[s]? = some (0, 6, [1001, 0, 1002, 1003, 0, 1004]) := by rcases h with rfl | rfl | rfl | rfl <;> rfl
theorem shS1 {s : Nat} (h : IsSc s) : SH[s + 1]? = some (1, 640, []) := by rcases h with rfl | rfl | rfl | rfl <;> rfl
theorem shS2 {s : Nat} (h : IsSc s) : SH[s + 2]? = some (1, 20, []) := by rcases h with rfl | rfl | rfl | rfl <;> rfl
theorem shS3 {s : Nat} (h : IsSc s) : SH[s + 3]? = some (1, 20, []) := by rcases h with rfl | rfl | rfl | rfl <;> rfl
theorem shS4 {s : Nat} (h : IsSc s) : SH[s + 4]? = some (1, 64, []) := by rcases h with rfl | rfl | rfl | rfl <;> rfl
theorem sc_lt {s : Nat} (h : IsSc s) (k : Nat) (hk : k ≤ 4) : (((s + k : Nat)) : Int) < 210 := by rcases h with rfl | rfl | rfl | rfl <;> omega
section DYN
variable {μ : Mu} {d : Nat} {ρ : Rh} {pc : Nat} {ls : List (Nat × PV)} {st : List PV} {w : Wd}
/-- an entry of a Script[] -/
theorem n_aald5 {z j q : Int} (k : Nat) {n : Nat} {ts : List Nat} (dd : decode μ.2.1 pc = .ok (.aaload, 1)) (hz : z = ((k : Nat) : Int)) (hsh : SH[k]? = some (5, n, ts)) (hn : n < 2147483648) (hj : 0 ≤ j ∧ j < n) (hq : w k j = q) (kk : AtN μ d ρ (pc + 1) ls ((2, q) :: st) w) : AtN μ d ρ pc ls ((0, j) :: (2, z) :: st) w := by
  subst hq
  obtain ⟨⟨p, l, e, R, s⟩, ⟨m, args, below, meth, c⟩, ⟨g, ad0, sh0⟩, Q⟩ := ρ
  intro C ad H locs lsa h1 h2 h3 hr hl hi hs
  obtain ⟨hx, hb, -, -, -, hown, -, hts, hK, -⟩ := id C
  subst hz
  simp only [List.forall_mem_cons] at hs
  have hjI : InI j := ⟨by omega, by omega⟩
  have hin9 : -1 ≤ w k j ∧ w k j < SH.length := hr.2.2.2 k _ hsh j hj.1 hj.2
  have k1 := kk C ad H locs lsa h1 h2 h3 hr hl hi (List.forall_mem_cons.mpr ⟨hin9, hs.2.2⟩)
  have e1 : ((((Int32.ofInt j).toNatClampNeg : Nat)) : Int) = j := by rw [i32_clamp hj.1 hjI]; omega
  refine va_aldq hx hb hK hr.1 k 4 (wl_get hsh) (tyl_get g).2.2.2.2 (vp_in_int hn hj.1 hj.2) dd ?_
  have e2 : va_rf (if w k ((((Int32.ofInt j).toNatClampNeg : Nat)) : Int) < 0 then none else some (ad (w k ((((Int32.ofInt j).toNatClampNeg : Nat)) : Int)).toNat)) = tv g ad (2, w k j) := by
    rw [e1]
    show _ = if w k j < 0 then Value.null else .ref (ad (w k j).toNat)
    by_cases h0 : w k j < 0
    · rw [if_pos h0, if_pos h0]; rfl
    · rw [if_neg h0, if_neg h0]; rfl
  show W p l e R s m args below meth c H locs (SH.length - sh0.length) (SZ SH - SZ sh0) Q (F0 m (pc + 1) lsa (va_rf (if w k ((((Int32.ofInt j).toNatClampNeg : Nat)) : Int) < 0 then none else some (ad (w k ((((Int32.ofInt j).toNatClampNeg : Nat)) : Int)).toNat)) :: _))
  rw [e2]
  exact k1
end DYN
def sumI (f : Int → Int) : Nat → Int
  | 0 => 0
  | n + 1 => sumI f n + f n
theorem sumI_s {f : Int → Int} {i : Int} (h : 0 ≤ i) : sumI f (i + 1).toNat = sumI f i.toNat + f i := by rw [toN_s h, sumI, toN_c h]
theorem sumI_bd {f : Int → Int} {B : Int} : ∀ n : Nat, (∀ j : Int, 0 ≤ j → j < n → 0 ≤ f j ∧ f j ≤ B) → 0 ≤ sumI f n ∧ sumI f n ≤ B * n
  | 0, _ => by simp [sumI]
  | n + 1, h => by
    have ih := sumI_bd n (fun j h1 h2 => h j h1 (by omega))
    have h2 := h n (by omega) (by omega)
    rw [sumI]
    have e : B * ((n + 1 : Nat) : Int) = B * n + B := by rw [Int.natCast_add, Int.mul_add]; simp
    omega
theorem sumI_bd' {f : Int → Int} {B N i : Int} (hN : ∀ j : Int, 0 ≤ j → j < N → 0 ≤ f j ∧ f j ≤ B) (h0 : 0 ≤ i) (h1 : i ≤ N) : 0 ≤ sumI f i.toNat ∧ sumI f i.toNat ≤ B * i := by
  have h := sumI_bd (f := f) (B := B) i.toNat (fun j a b => hN j a (by omega))
  rwa [toN_c h0] at h
theorem sumI_cong {f g : Int → Int} : ∀ n : Nat, (∀ j : Int, 0 ≤ j → j < n → f j = g j) → sumI f n = sumI g n
  | 0, _ => rfl
  | n + 1, h => by rw [sumI, sumI, sumI_cong n (fun j a b => h j a (by omega)), h n (by omega) (by omega)]
abbrev is12 (f : Int → Int) : Int → Int := fun j => if f j = 12 then 1 else 0

set_option maxRecDepth 100000 in
theorem c_X_lookersInAll (w : Wd) (h : 0 ≤ w 15 10 ∧ w 15 10 ≤ 16) (hl : ∀ j, 0 ≤ j → j < w 15 10 → 0 ≤ w 23 j ∧ w 23 j ≤ 1400000) : CallN 1 mX3_lookersInAll [(2, 15)] w (RV (0, sumI (w 23) (w 15 10).toNat) w) := by
  refine CallN.intro (by decide +kernel) (Nat.le_of_ble_eq_true rfl) (fun ρ hR => ?_)
  show AtN mX3_lookersInAll 1 ρ 0 [(0, (2, 15))] [] w
  have L_4 : ∀ (fu : Nat) (i : Int) (a : Int), 0 ≤ i ∧ i ≤ w 15 10 → a = sumI (w 23) i.toNat → (w 15 10 - i).toNat < fu → AtN mX3_lookersInAll 1 ρ 4 [(0, (2, 15)), (1, (0, a)), (2, (0, i))] [] w := by
    intro fu
    induction fu with
    | zero => intro i a hi ha hm; exact absurd hm (Nat.not_lt_zero _)
    | succ fu ih =>
      intro i a hi ha hm
      have qa := sumI_bd' (f := (w 23)) (B := 1400000) (N := w 15 10) hl hi.1 hi.2
      rw [← ha] at qa
      refine s_iload_n dX3_lookersInAll_4 2 rfl (s_aload_n dX3_lookersInAll_5 0 rfl rfl (n_getf 15 10 0 dX3_lookersInAll_6 cf_X3 ff_X3_63 rfl sh_15 rfl (by decide) (v := (w 15 10)) rfl (s_icmp_ge 27 dX3_lookersInAll_9 (by decide) (fun c_9 => ?_) (fun c_9 => ?_))))
      · skip
        refine s_iload_n dX3_lookersInAll_27 1 rfl (n_iret dX3_lookersInAll_28 hR rfl ?_)
        have e9 : i = w 15 10 := by omega
        rw [e9] at ha
        exact ⟨congrArg (fun z => some ((0 : Nat), z)) ha, rfl⟩
      · skip
        have h9 := hl i (by omega) (by omega)
        refine s_iload_n dX3_lookersInAll_12 1 rfl (s_aload_n dX3_lookersInAll_13 0 rfl rfl (n_getc (q := 23) 15 7 33 dX3_lookersInAll_14 cf_X3 ff_X3_34 rfl sh_15 rfl (by decide) rfl (by decide) (s_iload_n dX3_lookersInAll_17 2 rfl (n_iald 23 dX3_lookersInAll_18 rfl sh_23 (by decide) ⟨(by omega), (by omega)⟩ (v := (w 23 i)) rfl (n_add (z := (a + (w 23 i))) dX3_lookersInAll_19 (wr_id (by omega) (by omega)) (s_istore_n (ls' := [(0, (2, 15)), (1, (0, (a + (w 23 i)))), (2, (0, i))]) dX3_lookersInAll_20 (Nat.le_of_ble_eq_true rfl) rfl (s_iinc (z := (i + 1)) (ls' := [(0, (2, 15)), (1, (0, (a + (w 23 i)))), (2, (0, (i + 1)))]) dX3_lookersInAll_21 2 rfl (Nat.le_of_ble_eq_true rfl) (wr_id (by omega) (by omega)) rfl (s_goto 4 dX3_lookersInAll_24 (by decide) ?_))))))))
        exact ih (i + 1) (a + (w 23 i)) (by omega) (by rw [sumI_s hi.1, ← ha]) (by omega)
  refine s_iconst dX3_lookersInAll_0 (by decide) (s_istore_n (ls' := [(0, (2, 15)), (1, (0, 0))]) dX3_lookersInAll_1 (Nat.le_of_ble_eq_true rfl) rfl (s_iconst dX3_lookersInAll_2 (by decide) (s_istore_n (ls' := [(0, (2, 15)), (1, (0, 0)), (2, (0, 0))]) dX3_lookersInAll_3 (Nat.le_of_ble_eq_true rfl) rfl ?_)))
  exact L_4 _ 0 0 (by omega) rfl (Nat.lt_succ_self _)

set_option maxRecDepth 100000 in
theorem c_X_players (w : Wd) (h : 0 ≤ w 15 10 ∧ w 15 10 ≤ 16) (hl : ∀ j, 0 ≤ j → j < w 15 10 → 0 ≤ w 19 j ∧ w 19 j ≤ 40) : CallN 1 mX3_players [(2, 15)] w (RV (0, sumI (w 19) (w 15 10).toNat) w) := by
  refine CallN.intro (by decide +kernel) (Nat.le_of_ble_eq_true rfl) (fun ρ hR => ?_)
  show AtN mX3_players 1 ρ 0 [(0, (2, 15))] [] w
  have L_4 : ∀ (fu : Nat) (i : Int) (a : Int), 0 ≤ i ∧ i ≤ w 15 10 → a = sumI (w 19) i.toNat → (w 15 10 - i).toNat < fu → AtN mX3_players 1 ρ 4 [(0, (2, 15)), (1, (0, a)), (2, (0, i))] [] w := by
    intro fu
    induction fu with
    | zero => intro i a hi ha hm; exact absurd hm (Nat.not_lt_zero _)
    | succ fu ih =>
      intro i a hi ha hm
      have qa := sumI_bd' (f := (w 19)) (B := 40) (N := w 15 10) hl hi.1 hi.2
      rw [← ha] at qa
      refine s_iload_n dX3_players_4 2 rfl (s_aload_n dX3_players_5 0 rfl rfl (n_getf 15 10 0 dX3_players_6 cf_X3 ff_X3_63 rfl sh_15 rfl (by decide) (v := (w 15 10)) rfl (s_icmp_ge 27 dX3_players_9 (by decide) (fun c_9 => ?_) (fun c_9 => ?_))))
      · skip
        refine s_iload_n dX3_players_27 1 rfl (n_iret dX3_players_28 hR rfl ?_)
        have e9 : i = w 15 10 := by omega
        rw [e9] at ha
        exact ⟨congrArg (fun z => some ((0 : Nat), z)) ha, rfl⟩
      · skip
        have h9 := hl i (by omega) (by omega)
        refine s_iload_n dX3_players_12 1 rfl (s_aload_n dX3_players_13 0 rfl rfl (n_getc (q := 19) 15 3 29 dX3_players_14 cf_X3 ff_X3_21 rfl sh_15 rfl (by decide) rfl (by decide) (s_iload_n dX3_players_17 2 rfl (n_iald 19 dX3_players_18 rfl sh_19 (by decide) ⟨(by omega), (by omega)⟩ (v := (w 19 i)) rfl (n_add (z := (a + (w 19 i))) dX3_players_19 (wr_id (by omega) (by omega)) (s_istore_n (ls' := [(0, (2, 15)), (1, (0, (a + (w 19 i)))), (2, (0, i))]) dX3_players_20 (Nat.le_of_ble_eq_true rfl) rfl (s_iinc (z := (i + 1)) (ls' := [(0, (2, 15)), (1, (0, (a + (w 19 i)))), (2, (0, (i + 1)))]) dX3_players_21 2 rfl (Nat.le_of_ble_eq_true rfl) (wr_id (by omega) (by omega)) rfl (s_goto 4 dX3_players_24 (by decide) ?_))))))))
        exact ih (i + 1) (a + (w 19 i)) (by omega) (by rw [sumI_s hi.1, ← ha]) (by omega)
  refine s_iconst dX3_players_0 (by decide) (s_istore_n (ls' := [(0, (2, 15)), (1, (0, 0))]) dX3_players_1 (Nat.le_of_ble_eq_true rfl) rfl (s_iconst dX3_players_2 (by decide) (s_istore_n (ls' := [(0, (2, 15)), (1, (0, 0)), (2, (0, 0))]) dX3_players_3 (Nat.le_of_ble_eq_true rfl) rfl ?_)))
  exact L_4 _ 0 0 (by omega) rfl (Nat.lt_succ_self _)

set_option maxRecDepth 100000 in
theorem c_X_wornOut (w : Wd) (h : 0 ≤ w 1 9 ∧ w 1 9 ≤ 30)  : CallN 1 mX5_wornOut [(2, 1)] w (RV (0, sumI (is12 (w 8)) (w 1 9).toNat) w) := by
  refine CallN.intro (by decide +kernel) (Nat.le_of_ble_eq_true rfl) (fun ρ hR => ?_)
  show AtN mX5_wornOut 1 ρ 0 [(0, (2, 1))] [] w
  have L_4 : ∀ (fu : Nat) (i : Int) (a : Int), 0 ≤ i ∧ i ≤ w 1 9 → a = sumI (is12 (w 8)) i.toNat → (w 1 9 - i).toNat < fu → AtN mX5_wornOut 1 ρ 4 [(0, (2, 1)), (1, (0, a)), (2, (0, i))] [] w := by
    intro fu
    induction fu with
    | zero => intro i a hi ha hm; exact absurd hm (Nat.not_lt_zero _)
    | succ fu ih =>
      intro i a hi ha hm
      have qa := sumI_bd' (f := (is12 (w 8))) (B := 1) (N := w 1 9) (fun j _ _ => by unfold is12; split <;> omega) hi.1 hi.2
      rw [← ha] at qa
      refine s_iload_n dX5_wornOut_4 2 rfl (s_aload_n dX5_wornOut_5 0 rfl rfl (n_getf 1 9 0 dX5_wornOut_6 cf_X5 ff_X5_63 rfl sh_1 rfl (by decide) (v := (w 1 9)) rfl (s_icmp_ge 32 dX5_wornOut_9 (by decide) (fun c_9 => ?_) (fun c_9 => ?_))))
      · skip
        refine s_iload_n dX5_wornOut_32 1 rfl (n_iret dX5_wornOut_33 hR rfl ?_)
        have e9 : i = w 1 9 := by omega
        rw [e9] at ha
        exact ⟨congrArg (fun z => some ((0 : Nat), z)) ha, rfl⟩
      · skip
        refine s_aload_n dX5_wornOut_12 0 rfl rfl (n_getc (q := 8) 1 7 18 dX5_wornOut_13 cf_X5 ff_X5_30 rfl sh_1 rfl (by decide) rfl (by decide) (s_iload_n dX5_wornOut_16 2 rfl (n_iald 8 dX5_wornOut_17 rfl sh_8 (by decide) ⟨(by omega), (by omega)⟩ (v := (w 8 i)) rfl (s_bipush dX5_wornOut_18 (by decide) (s_icmp_ne 26 dX5_wornOut_20 (by decide) (fun c_20 => ?_) (fun c_20 => ?_))))))
        · skip
          refine s_iinc (z := (i + 1)) (ls' := [(0, (2, 1)), (1, (0, a)), (2, (0, (i + 1)))]) dX5_wornOut_26 2 rfl (Nat.le_of_ble_eq_true rfl) (wr_id (by omega) (by omega)) rfl (s_goto 4 dX5_wornOut_29 (by decide) ?_)
          exact ih (i + 1) a (by omega) (by rw [sumI_s hi.1, ← ha]; show _ = a + (if w 8 i = 12 then 1 else 0); split <;> omega) (by omega)
        · skip
          refine s_iinc (z := (a + 1)) (ls' := [(0, (2, 1)), (1, (0, (a + 1))), (2, (0, i))]) dX5_wornOut_23 1 rfl (Nat.le_of_ble_eq_true rfl) (wr_id (by omega) (by omega)) rfl (s_iinc (z := (i + 1)) (ls' := [(0, (2, 1)), (1, (0, (a + 1))), (2, (0, (i + 1)))]) dX5_wornOut_26 2 rfl (Nat.le_of_ble_eq_true rfl) (wr_id (by omega) (by omega)) rfl (s_goto 4 dX5_wornOut_29 (by decide) ?_))
          exact ih (i + 1) (a + 1) (by omega) (by rw [sumI_s hi.1, ← ha]; show _ = a + (if w 8 i = 12 then 1 else 0); split <;> omega) (by omega)
  refine s_iconst dX5_wornOut_0 (by decide) (s_istore_n (ls' := [(0, (2, 1)), (1, (0, 0))]) dX5_wornOut_1 (Nat.le_of_ble_eq_true rfl) rfl (s_iconst dX5_wornOut_2 (by decide) (s_istore_n (ls' := [(0, (2, 1)), (1, (0, 0)), (2, (0, 0))]) dX5_wornOut_3 (Nat.le_of_ble_eq_true rfl) rfl ?_)))
  exact L_4 _ 0 0 (by omega) rfl (Nat.lt_succ_self _)

/-- the firms' scripts: which cell each is -/
def SCS (w : Wd) (s : Int → Nat) : Prop := ∀ f : Int, 0 ≤ f → f < 3 → IsSc (s f) ∧ w 42 f = ((s f : Nat) : Int) ∧ 0 ≤ w (s f) 4 ∧ w (s f) 4 ≤ 20
set_option maxRecDepth 100000 in
theorem c_X_linesInAll (w : Wd) (s : Int → Nat) (hs : SCS w s) : CallN 1 mX2_linesInAll [(2, 41)] w (RV (0, sumI (fun f => w (s f) 4) 3) w) := by
  refine CallN.intro (by decide +kernel) (Nat.le_of_ble_eq_true rfl) (fun ρ hR => ?_)
  show AtN mX2_linesInAll 1 ρ 0 [(0, (2, 41))] [] w
  have L_4 : ∀ (fu : Nat) (i : Int) (a : Int), 0 ≤ i ∧ i ≤ 3 → a = sumI (fun f => w (s f) 4) i.toNat → (3 - i).toNat < fu → AtN mX2_linesInAll 1 ρ 4 [(0, (2, 41)), (1, (0, a)), (2, (0, i))] [] w := by
    intro fu
    induction fu with
    | zero => intro i a hi ha hm; exact absurd hm (Nat.not_lt_zero _)
    | succ fu ih =>
      intro i a hi ha hm
      have qa := sumI_bd' (f := fun f => w (s f) 4) (B := 20) (N := 3) (fun j a b => (hs j a b).2.2) hi.1 hi.2
      rw [← ha] at qa
      refine s_iload_n dX2_linesInAll_4 2 rfl (s_iconst dX2_linesInAll_5 (by decide) (s_icmp_ge 27 dX2_linesInAll_6 (by decide) (fun c_6 => ?_) (fun c_6 => ?_)))
      · skip
        refine s_iload_n dX2_linesInAll_27 1 rfl (n_iret dX2_linesInAll_28 hR rfl ?_)
        have e9 : i = 3 := by omega
        rw [e9] at ha
        exact ⟨congrArg (fun z => some ((0 : Nat), z)) ha, rfl⟩
      · skip
        refine s_iload_n dX2_linesInAll_9 1 rfl (s_aload_n dX2_linesInAll_10 0 rfl rfl (n_getc (q := 42) 41 2 52 dX2_linesInAll_11 cf_X2 ff_X2_11 rfl sh_41 rfl (by decide) rfl (by decide) (s_iload_n dX2_linesInAll_14 2 rfl ?_)))
        refine n_aald5 42 dX2_linesInAll_15 rfl sh_42 (by decide) ⟨by omega, by omega⟩ (hs i (by omega) (by omega)).2.1 ?_
        have hx9 := (hs i (by omega) (by omega)).2.2
        refine n_getf (s i) 4 0 dX2_linesInAll_16 cf_X6 ff_X2_30 rfl (shS (hs i (by omega) (by omega)).1) rfl (by decide) (v := (w (s i) 4)) rfl (n_add (z := (a + (w (s i) 4))) dX2_linesInAll_19 (wr_id (by omega) (by omega)) (s_istore_n (ls' := [(0, (2, 41)), (1, (0, (a + (w (s i) 4)))), (2, (0, i))]) dX2_linesInAll_20 (Nat.le_of_ble_eq_true rfl) rfl (s_iinc (z := (i + 1)) (ls' := [(0, (2, 41)), (1, (0, (a + (w (s i) 4)))), (2, (0, (i + 1)))]) dX2_linesInAll_21 2 rfl (Nat.le_of_ble_eq_true rfl) (wr_id (by omega) (by omega)) rfl (s_goto 4 dX2_linesInAll_24 (by decide) ?_))))
        exact ih (i + 1) (a + (w (s i) 4)) (by omega) (by rw [sumI_s hi.1, ← ha]) (by omega)
  refine s_iconst dX2_linesInAll_0 (by decide) (s_istore_n (ls' := [(0, (2, 41)), (1, (0, 0))]) dX2_linesInAll_1 (Nat.le_of_ble_eq_true rfl) rfl (s_iconst dX2_linesInAll_2 (by decide) (s_istore_n (ls' := [(0, (2, 41)), (1, (0, 0)), (2, (0, 0))]) dX2_linesInAll_3 (Nat.le_of_ble_eq_true rfl) rfl ?_)))
  exact L_4 _ 0 0 (by omega) rfl (Nat.lt_succ_self _)

def lookV (a b c d e f g h k l m q : Int) : Int := if q = 0 then a else if q = 1 then b else if q = 2 then c else if q = 3 then d else if q = 4 then e else if q = 5 then f else if q = 6 then g else if q = 7 then h else if q = 8 then k else if q = 9 then l else if q = 10 then m else -1
theorem lookV_no {a b c d e f g h k l m q : Int} (hq : q < 0 ∨ 10 < q) : lookV a b c d e f g h k l m q = -1 := by
  unfold lookV
  repeat (split; · omega)
  rfl
set_option maxRecDepth 100000 in
theorem x_look (q : Int) (w : Wd) (s : Int → Nat) (hs : SCS w s) (h4 : 0 ≤ w 15 10 ∧ w 15 10 ≤ 16) (h2 : 0 ≤ w 1 9 ∧ w 1 9 ≤ 30) (ha : ∀ j, 0 ≤ j → j < w 15 10 → 0 ≤ w 23 j ∧ w 23 j ≤ 1400000) (hb : ∀ j, 0 ≤ j → j < w 15 10 → 0 ≤ w 19 j ∧ w 19 j ≤ 40) : CallN 2 mX11_look [(2, 0), (0, q)] w (RQL (fun z w1 => w1 = w ∧ z = lookV (w 0 10) (w 1 5) (w 1 9) (w 1 15) (w 15 10) (w 15 15) (w 59 9) (sumI (w 23) (w 15 10).toNat) (sumI (w 19) (w 15 10).toNat) (sumI (is12 (w 8)) (w 1 9).toNat) (sumI (fun f => w (s f) 4) 3) q)) := by
  refine CallN.intro (by decide +kernel) (Nat.le_of_ble_eq_true rfl) (fun ρ hR => ?_)
  show AtN mX11_look 2 ρ 0 [(0, (2, 0)), (1, (0, q))] [] w
  refine s_iload_n dX11_look_0 1 rfl ?_
  rcases (show (q < 0 ∨ 10 < q) ∨ q = 0 ∨ q = 1 ∨ q = 2 ∨ q = 3 ∨ q = 4 ∨ q = 5 ∨ q = 6 ∨ q = 7 ∨ q = 8 ∨ q = 9 ∨ q = 10 from by omega) with c_1 | c_1 | c_1 | c_1 | c_1 | c_1 | c_1 | c_1 | c_1 | c_1 | c_1 | c_1
  · refine s_tableOut 156 dX11_look_1 c_1 (by decide) ?_
    refine s_ldc2 (z := (-1)) dX11_look_156 kc_X11_269 rfl (by unfold InL; decide) (n_lret dX11_look_159 hR rfl ?_)
    first | exact ⟨_, rfl, rfl, (lookV_no c_1).symm⟩ | (subst c_1; exact ⟨_, rfl, rfl, rfl⟩)
  · refine s_tableIn 60 0 dX11_look_1 (by rw [c_1]; rfl) (by decide) rfl (by decide) ?_
    refine s_aload_n dX11_look_60 0 rfl rfl (n_getf 0 10 0 dX11_look_61 cf_X11 ff_X11_87 rfl sh_0 rfl (by decide) (v := (w 0 10)) rfl (s_i2l dX11_look_64 (n_lret dX11_look_65 hR rfl ?_)))
    first | exact ⟨_, rfl, rfl, (lookV_no c_1).symm⟩ | (subst c_1; exact ⟨_, rfl, rfl, rfl⟩)
  · refine s_tableIn 66 1 dX11_look_1 (by rw [c_1]; rfl) (by decide) rfl (by decide) ?_
    refine s_aload_n dX11_look_66 0 rfl rfl (n_getc (q := 1) 0 0 11 dX11_look_67 cf_X11 ff_X11_10 rfl sh_0 rfl (by decide) rfl (by decide) (n_getf 1 5 0 dX11_look_70 cf_X5 ff_X11_308 rfl sh_1 rfl (by decide) (v := (w 1 5)) rfl (s_i2l dX11_look_73 (n_lret dX11_look_74 hR rfl ?_))))
    first | exact ⟨_, rfl, rfl, (lookV_no c_1).symm⟩ | (subst c_1; exact ⟨_, rfl, rfl, rfl⟩)
  · refine s_tableIn 75 2 dX11_look_1 (by rw [c_1]; rfl) (by decide) rfl (by decide) ?_
    refine s_aload_n dX11_look_75 0 rfl rfl (n_getc (q := 1) 0 0 11 dX11_look_76 cf_X11 ff_X11_10 rfl sh_0 rfl (by decide) rfl (by decide) (n_getf 1 9 0 dX11_look_79 cf_X5 ff_X11_311 rfl sh_1 rfl (by decide) (v := (w 1 9)) rfl (s_i2l dX11_look_82 (n_lret dX11_look_83 hR rfl ?_))))
    first | exact ⟨_, rfl, rfl, (lookV_no c_1).symm⟩ | (subst c_1; exact ⟨_, rfl, rfl, rfl⟩)
  · refine s_tableIn 84 3 dX11_look_1 (by rw [c_1]; rfl) (by decide) rfl (by decide) ?_
    refine s_aload_n dX11_look_84 0 rfl rfl (n_getc (q := 1) 0 0 11 dX11_look_85 cf_X11 ff_X11_10 rfl sh_0 rfl (by decide) rfl (by decide) (n_getf 1 15 0 dX11_look_88 cf_X5 ff_X11_314 rfl sh_1 rfl (by decide) (v := (w 1 15)) rfl (s_i2l dX11_look_91 (n_lret dX11_look_92 hR rfl ?_))))
    first | exact ⟨_, rfl, rfl, (lookV_no c_1).symm⟩ | (subst c_1; exact ⟨_, rfl, rfl, rfl⟩)
  · refine s_tableIn 93 4 dX11_look_1 (by rw [c_1]; rfl) (by decide) rfl (by decide) ?_
    refine s_aload_n dX11_look_93 0 rfl rfl (n_getc (q := 15) 0 1 25 dX11_look_94 cf_X11 ff_X11_19 rfl sh_0 rfl (by decide) rfl (by decide) (n_getf 15 10 0 dX11_look_97 cf_X3 ff_X11_317 rfl sh_15 rfl (by decide) (v := (w 15 10)) rfl (s_i2l dX11_look_100 (n_lret dX11_look_101 hR rfl ?_))))
    first | exact ⟨_, rfl, rfl, (lookV_no c_1).symm⟩ | (subst c_1; exact ⟨_, rfl, rfl, rfl⟩)
  · refine s_tableIn 102 5 dX11_look_1 (by rw [c_1]; rfl) (by decide) rfl (by decide) ?_
    refine s_aload_n dX11_look_102 0 rfl rfl (n_getc (q := 15) 0 1 25 dX11_look_103 cf_X11 ff_X11_19 rfl sh_0 rfl (by decide) rfl (by decide) (n_getf 15 15 0 dX11_look_106 cf_X3 ff_X11_320 rfl sh_15 rfl (by decide) (v := (w 15 15)) rfl (s_i2l dX11_look_109 (n_lret dX11_look_110 hR rfl ?_))))
    first | exact ⟨_, rfl, rfl, (lookV_no c_1).symm⟩ | (subst c_1; exact ⟨_, rfl, rfl, rfl⟩)
  · refine s_tableIn 111 6 dX11_look_1 (by rw [c_1]; rfl) (by decide) rfl (by decide) ?_
    refine s_aload_n dX11_look_111 0 rfl rfl (n_getc (q := 59) 0 5 69 dX11_look_112 cf_X11 ff_X11_53 rfl sh_0 rfl (by decide) rfl (by decide) (n_getf 59 9 0 dX11_look_115 cf_X0 ff_X11_323 rfl sh_59 rfl (by decide) (v := (w 59 9)) rfl (s_i2l dX11_look_118 (n_lret dX11_look_119 hR rfl ?_))))
    first | exact ⟨_, rfl, rfl, (lookV_no c_1).symm⟩ | (subst c_1; exact ⟨_, rfl, rfl, rfl⟩)
  · refine s_tableIn 120 7 dX11_look_1 (by rw [c_1]; rfl) (by decide) rfl (by decide) ?_
    refine s_aload_n dX11_look_120 0 rfl rfl (n_getc (q := 15) 0 1 25 dX11_look_121 cf_X11 ff_X11_19 rfl sh_0 rfl (by decide) rfl (by decide) (n_invV (as := []) dX11_look_124 kv_X3_lookersInAll ml_X11_325 (c_X_lookersInAll  w h4 ha) (by decide) 15 cf_X3 rfl sh_15 rfl rfl rfl (Nat.le_of_ble_eq_true rfl) (s_i2l dX11_look_127 (n_lret dX11_look_128 hR rfl ?_))))
    first | exact ⟨_, rfl, rfl, (lookV_no c_1).symm⟩ | (subst c_1; exact ⟨_, rfl, rfl, rfl⟩)
  · refine s_tableIn 129 8 dX11_look_1 (by rw [c_1]; rfl) (by decide) rfl (by decide) ?_
    refine s_aload_n dX11_look_129 0 rfl rfl (n_getc (q := 15) 0 1 25 dX11_look_130 cf_X11 ff_X11_19 rfl sh_0 rfl (by decide) rfl (by decide) (n_invV (as := []) dX11_look_133 kv_X3_players ml_X11_329 (c_X_players  w h4 hb) (by decide) 15 cf_X3 rfl sh_15 rfl rfl rfl (Nat.le_of_ble_eq_true rfl) (s_i2l dX11_look_136 (n_lret dX11_look_137 hR rfl ?_))))
    first | exact ⟨_, rfl, rfl, (lookV_no c_1).symm⟩ | (subst c_1; exact ⟨_, rfl, rfl, rfl⟩)
  · refine s_tableIn 138 9 dX11_look_1 (by rw [c_1]; rfl) (by decide) rfl (by decide) ?_
    refine s_aload_n dX11_look_138 0 rfl rfl (n_getc (q := 1) 0 0 11 dX11_look_139 cf_X11 ff_X11_10 rfl sh_0 rfl (by decide) rfl (by decide) (n_invV (as := []) dX11_look_142 kv_X5_wornOut ml_X11_332 (c_X_wornOut  w h2) (by decide) 1 cf_X5 rfl sh_1 rfl rfl rfl (Nat.le_of_ble_eq_true rfl) (s_i2l dX11_look_145 (n_lret dX11_look_146 hR rfl ?_))))
    first | exact ⟨_, rfl, rfl, (lookV_no c_1).symm⟩ | (subst c_1; exact ⟨_, rfl, rfl, rfl⟩)
  · refine s_tableIn 147 10 dX11_look_1 (by rw [c_1]; rfl) (by decide) rfl (by decide) ?_
    refine s_aload_n dX11_look_147 0 rfl rfl (n_getc (q := 41) 0 4 51 dX11_look_148 cf_X11 ff_X11_44 rfl sh_0 rfl (by decide) rfl (by decide) (n_invV (as := []) dX11_look_151 kv_X2_linesInAll ml_X11_335 (c_X_linesInAll  w s hs) (by decide) 41 cf_X2 rfl sh_41 rfl rfl rfl (Nat.le_of_ble_eq_true rfl) (s_i2l dX11_look_154 (n_lret dX11_look_155 hR rfl ?_))))
    first | exact ⟨_, rfl, rfl, (lookV_no c_1).symm⟩ | (subst c_1; exact ⟨_, rfl, rfl, rfl⟩)

set_option maxRecDepth 100000 in
theorem m_look (q : Int) (w : Wd) (h4 : 0 ≤ w 141 4 ∧ w 141 4 ≤ 16) (h2 : 0 ≤ w 141 2 ∧ w 141 2 ≤ 30) (la : ∀ j, 0 ≤ j → j < w 141 4 → 0 ≤ w 164 j ∧ w 164 j ≤ 1400000) (lb : ∀ j, 0 ≤ j → j < w 141 4 → 0 ≤ w 158 j ∧ w 158 j ≤ 40) (lc : ∀ j, 0 ≤ j → j < 3 → 0 ≤ w 169 j ∧ w 169 j ≤ 20) : CallN 1 mX12_look [(2, 141), (0, q)] w (RQL (fun z w1 => w1 = w ∧ z = lookV (w 141 0) (w 141 1) (w 141 2) (w 141 3) (w 141 4) (w 141 5) (w 141 6) (sumI (w 164) (w 141 4).toNat) (sumI (w 158) (w 141 4).toNat) (sumI (is12 (w 148)) (w 141 2).toNat) (sumI (w 169) 3) q)) := by
  refine CallN.intro (by decide +kernel) (Nat.le_of_ble_eq_true rfl) (fun ρ hR => ?_)
  show AtN mX12_look 1 ρ 0 [(0, (2, 141)), (1, (0, q))] [] w
  have L_105 : ∀ (fu : Nat) (i : Int) (a : Int), q = 7 → 0 ≤ i ∧ i ≤ w 141 4 → a = sumI (w 164) i.toNat → (w 141 4 - i).toNat < fu → AtN mX12_look 1 ρ 105 [(0, (2, 141)), (2, (1, a)), (4, (0, i))] [] w := by
    intro fu
    induction fu with
    | zero => intro i a c_3 hi ha hm; exact absurd hm (Nat.not_lt_zero _)
    | succ fu ih =>
      intro i a c_3 hi ha hm
      have qa := sumI_bd' (f := (w 164)) (B := 1400000) (N := w 141 4) la hi.1 hi.2
      rw [← ha] at qa
      refine s_iload dX12_look_105 2 rfl (s_aload_n dX12_look_107 0 rfl rfl (n_getf 141 4 0 dX12_look_108 cf_X12 ff_X12_230 rfl sh_141 rfl (by decide) (v := (w 141 4)) rfl (s_icmp_ge 130 dX12_look_111 (by decide) (fun c_111 => ?_) (fun c_111 => ?_))))
      · skip
        refine s_lload_n dX12_look_130 1 rfl (n_lret dX12_look_131 hR rfl ?_)
        first
        | exact ⟨_, rfl, rfl, (lookV_no c_3).symm⟩
        | (subst c_3; exact ⟨_, rfl, rfl, rfl⟩)
        | (have e9 : i = w 141 4 := (by omega); rw [e9] at ha; subst c_3; exact ⟨_, rfl, rfl, ha⟩)
        | (have e9 : i = w 141 2 := (by omega); rw [e9] at ha; subst c_3; exact ⟨_, rfl, rfl, ha⟩)
        | (have e9 : i = 3 := (by omega); rw [e9] at ha; subst c_3; exact ⟨_, rfl, rfl, ha⟩)
      · skip
        have h9 := la i (by omega) (by omega)
        refine s_lload_n dX12_look_114 1 rfl (s_aload_n dX12_look_115 0 rfl rfl (n_getc (q := 164) 141 32 174 dX12_look_116 cf_X12 ff_X12_77 rfl sh_141 rfl (by decide) rfl (by decide) (s_iload dX12_look_119 2 rfl (n_lald 164 dX12_look_121 rfl sh_164 (by decide) ⟨(by omega), (by omega)⟩ (v := (w 164 i)) rfl (n_ladd (z := (a + (w 164 i))) dX12_look_122 (wrL_id (by omega) (by omega)) (s_lstore_n (ls' := [(0, (2, 141)), (2, (1, (a + (w 164 i)))), (4, (0, i))]) dX12_look_123 (Nat.le_of_ble_eq_true rfl) rfl (s_iinc (z := (i + 1)) (ls' := [(0, (2, 141)), (2, (1, (a + (w 164 i)))), (4, (0, (i + 1)))]) dX12_look_124 2 rfl (Nat.le_of_ble_eq_true rfl) (wr_id (by omega) (by omega)) rfl (s_goto 105 dX12_look_127 (by decide) ?_))))))))
        exact ih (i + 1) (a + (w 164 i)) (by omega) (by omega) (by rw [sumI_s hi.1, ← ha]) (by omega)
  have L_135 : ∀ (fu : Nat) (i : Int) (a : Int), q = 8 → 0 ≤ i ∧ i ≤ w 141 4 → a = sumI (w 158) i.toNat → (w 141 4 - i).toNat < fu → AtN mX12_look 1 ρ 135 [(0, (2, 141)), (2, (1, a)), (4, (0, i))] [] w := by
    intro fu
    induction fu with
    | zero => intro i a c_3 hi ha hm; exact absurd hm (Nat.not_lt_zero _)
    | succ fu ih =>
      intro i a c_3 hi ha hm
      have qa := sumI_bd' (f := (w 158)) (B := 40) (N := w 141 4) lb hi.1 hi.2
      rw [← ha] at qa
      refine s_iload dX12_look_135 2 rfl (s_aload_n dX12_look_137 0 rfl rfl (n_getf 141 4 0 dX12_look_138 cf_X12 ff_X12_230 rfl sh_141 rfl (by decide) (v := (w 141 4)) rfl (s_icmp_ge 161 dX12_look_141 (by decide) (fun c_141 => ?_) (fun c_141 => ?_))))
      · skip
        refine s_lload_n dX12_look_161 1 rfl (n_lret dX12_look_162 hR rfl ?_)
        first
        | exact ⟨_, rfl, rfl, (lookV_no c_3).symm⟩
        | (subst c_3; exact ⟨_, rfl, rfl, rfl⟩)
        | (have e9 : i = w 141 4 := (by omega); rw [e9] at ha; subst c_3; exact ⟨_, rfl, rfl, ha⟩)
        | (have e9 : i = w 141 2 := (by omega); rw [e9] at ha; subst c_3; exact ⟨_, rfl, rfl, ha⟩)
        | (have e9 : i = 3 := (by omega); rw [e9] at ha; subst c_3; exact ⟨_, rfl, rfl, ha⟩)
      · skip
        have h9 := lb i (by omega) (by omega)
        refine s_lload_n dX12_look_144 1 rfl (s_aload_n dX12_look_145 0 rfl rfl (n_getc (q := 158) 141 26 168 dX12_look_146 cf_X12 ff_X12_58 rfl sh_141 rfl (by decide) rfl (by decide) (s_iload dX12_look_149 2 rfl (n_iald 158 dX12_look_151 rfl sh_158 (by decide) ⟨(by omega), (by omega)⟩ (v := (w 158 i)) rfl (s_i2l dX12_look_152 (n_ladd (z := (a + (w 158 i))) dX12_look_153 (wrL_id (by omega) (by omega)) (s_lstore_n (ls' := [(0, (2, 141)), (2, (1, (a + (w 158 i)))), (4, (0, i))]) dX12_look_154 (Nat.le_of_ble_eq_true rfl) rfl (s_iinc (z := (i + 1)) (ls' := [(0, (2, 141)), (2, (1, (a + (w 158 i)))), (4, (0, (i + 1)))]) dX12_look_155 2 rfl (Nat.le_of_ble_eq_true rfl) (wr_id (by omega) (by omega)) rfl (s_goto 135 dX12_look_158 (by decide) ?_)))))))))
        exact ih (i + 1) (a + (w 158 i)) (by omega) (by omega) (by rw [sumI_s hi.1, ← ha]) (by omega)
  have L_166 : ∀ (fu : Nat) (i : Int) (a : Int), q = 9 → 0 ≤ i ∧ i ≤ w 141 2 → a = sumI (is12 (w 148)) i.toNat → (w 141 2 - i).toNat < fu → AtN mX12_look 1 ρ 166 [(0, (2, 141)), (2, (1, a)), (4, (0, i))] [] w := by
    intro fu
    induction fu with
    | zero => intro i a c_3 hi ha hm; exact absurd hm (Nat.not_lt_zero _)
    | succ fu ih =>
      intro i a c_3 hi ha hm
      have qa := sumI_bd' (f := (is12 (w 148))) (B := 1) (N := w 141 2) (fun j _ _ => by unfold is12; split <;> omega) hi.1 hi.2
      rw [← ha] at qa
      refine s_iload dX12_look_166 2 rfl (s_aload_n dX12_look_168 0 rfl rfl (n_getf 141 2 0 dX12_look_169 cf_X12 ff_X12_227 rfl sh_141 rfl (by decide) (v := (w 141 2)) rfl (s_icmp_ge 201 dX12_look_172 (by decide) (fun c_172 => ?_) (fun c_172 => ?_))))
      · skip
        refine s_lload_n dX12_look_201 1 rfl (n_lret dX12_look_202 hR rfl ?_)
        first
        | exact ⟨_, rfl, rfl, (lookV_no c_3).symm⟩
        | (subst c_3; exact ⟨_, rfl, rfl, rfl⟩)
        | (have e9 : i = w 141 4 := (by omega); rw [e9] at ha; subst c_3; exact ⟨_, rfl, rfl, ha⟩)
        | (have e9 : i = w 141 2 := (by omega); rw [e9] at ha; subst c_3; exact ⟨_, rfl, rfl, ha⟩)
        | (have e9 : i = 3 := (by omega); rw [e9] at ha; subst c_3; exact ⟨_, rfl, rfl, ha⟩)
      · skip
        refine s_lload_n dX12_look_175 1 rfl (s_aload_n dX12_look_176 0 rfl rfl (n_getc (q := 148) 141 16 158 dX12_look_177 cf_X12 ff_X12_28 rfl sh_141 rfl (by decide) rfl (by decide) (s_iload dX12_look_180 2 rfl (n_iald 148 dX12_look_182 rfl sh_148 (by decide) ⟨(by omega), (by omega)⟩ (v := (w 148 i)) rfl (s_bipush dX12_look_183 (by decide) (s_icmp_ne 192 dX12_look_185 (by decide) (fun c_185 => ?_) (fun c_185 => ?_)))))))
        · skip
          refine s_lconst (z := 0) dX12_look_192 rfl (n_ladd (z := (a + 0)) dX12_look_193 (wrL_id (by omega) (by omega)) (s_lstore_n (ls' := [(0, (2, 141)), (2, (1, (a + 0))), (4, (0, i))]) dX12_look_194 (Nat.le_of_ble_eq_true rfl) rfl (s_iinc (z := (i + 1)) (ls' := [(0, (2, 141)), (2, (1, (a + 0))), (4, (0, (i + 1)))]) dX12_look_195 2 rfl (Nat.le_of_ble_eq_true rfl) (wr_id (by omega) (by omega)) rfl (s_goto 166 dX12_look_198 (by decide) ?_))))
          exact ih (i + 1) (a + 0) (by omega) (by omega) (by rw [sumI_s hi.1, ← ha]; show _ = a + (if w 148 i = 12 then 1 else 0); split <;> omega) (by omega)
        · skip
          refine s_lconst (z := 1) dX12_look_188 rfl (s_goto 193 dX12_look_189 (by decide) (n_ladd (z := (a + 1)) dX12_look_193 (wrL_id (by omega) (by omega)) (s_lstore_n (ls' := [(0, (2, 141)), (2, (1, (a + 1))), (4, (0, i))]) dX12_look_194 (Nat.le_of_ble_eq_true rfl) rfl (s_iinc (z := (i + 1)) (ls' := [(0, (2, 141)), (2, (1, (a + 1))), (4, (0, (i + 1)))]) dX12_look_195 2 rfl (Nat.le_of_ble_eq_true rfl) (wr_id (by omega) (by omega)) rfl (s_goto 166 dX12_look_198 (by decide) ?_)))))
          exact ih (i + 1) (a + 1) (by omega) (by omega) (by rw [sumI_s hi.1, ← ha]; show _ = a + (if w 148 i = 12 then 1 else 0); split <;> omega) (by omega)
  have L_206 : ∀ (fu : Nat) (i : Int) (a : Int), q = 10 → 0 ≤ i ∧ i ≤ 3 → a = sumI (w 169) i.toNat → (3 - i).toNat < fu → AtN mX12_look 1 ρ 206 [(0, (2, 141)), (2, (1, a)), (4, (0, i))] [] w := by
    intro fu
    induction fu with
    | zero => intro i a c_3 hi ha hm; exact absurd hm (Nat.not_lt_zero _)
    | succ fu ih =>
      intro i a c_3 hi ha hm
      have qa := sumI_bd' (f := (w 169)) (B := 20) (N := 3) lc hi.1 hi.2
      rw [← ha] at qa
      refine s_iload dX12_look_206 2 rfl (s_iconst dX12_look_208 (by decide) (s_icmp_ge 229 dX12_look_209 (by decide) (fun c_209 => ?_) (fun c_209 => ?_)))
      · skip
        refine s_lload_n dX12_look_229 1 rfl (n_lret dX12_look_230 hR rfl ?_)
        first
        | exact ⟨_, rfl, rfl, (lookV_no c_3).symm⟩
        | (subst c_3; exact ⟨_, rfl, rfl, rfl⟩)
        | (have e9 : i = w 141 4 := (by omega); rw [e9] at ha; subst c_3; exact ⟨_, rfl, rfl, ha⟩)
        | (have e9 : i = w 141 2 := (by omega); rw [e9] at ha; subst c_3; exact ⟨_, rfl, rfl, ha⟩)
        | (have e9 : i = 3 := (by omega); rw [e9] at ha; subst c_3; exact ⟨_, rfl, rfl, ha⟩)
      · skip
        have h9 := lc i (by omega) (by omega)
        refine s_lload_n dX12_look_212 1 rfl (s_aload_n dX12_look_213 0 rfl rfl (n_getc (q := 169) 141 37 179 dX12_look_214 cf_X12 ff_X12_92 rfl sh_141 rfl (by decide) rfl (by decide) (s_iload dX12_look_217 2 rfl (n_iald 169 dX12_look_219 rfl sh_169 (by decide) ⟨(by omega), (by omega)⟩ (v := (w 169 i)) rfl (s_i2l dX12_look_220 (n_ladd (z := (a + (w 169 i))) dX12_look_221 (wrL_id (by omega) (by omega)) (s_lstore_n (ls' := [(0, (2, 141)), (2, (1, (a + (w 169 i)))), (4, (0, i))]) dX12_look_222 (Nat.le_of_ble_eq_true rfl) rfl (s_iinc (z := (i + 1)) (ls' := [(0, (2, 141)), (2, (1, (a + (w 169 i)))), (4, (0, (i + 1)))]) dX12_look_223 2 rfl (Nat.le_of_ble_eq_true rfl) (wr_id (by omega) (by omega)) rfl (s_goto 206 dX12_look_226 (by decide) ?_)))))))))
        exact ih (i + 1) (a + (w 169 i)) (by omega) (by omega) (by rw [sumI_s hi.1, ← ha]) (by omega)
  refine s_lconst (z := 0) dX12_look_0 rfl (s_lstore_n (ls' := [(0, (2, 141)), (1, (0, q)), (2, (1, 0))]) dX12_look_1 (Nat.le_of_ble_eq_true rfl) rfl (s_iload_n dX12_look_2 1 rfl ?_))
  rcases (show (q < 0 ∨ 10 < q) ∨ q = 0 ∨ q = 1 ∨ q = 2 ∨ q = 3 ∨ q = 4 ∨ q = 5 ∨ q = 6 ∨ q = 7 ∨ q = 8 ∨ q = 9 ∨ q = 10 from by omega) with c_3 | c_3 | c_3 | c_3 | c_3 | c_3 | c_3 | c_3 | c_3 | c_3 | c_3 | c_3
  · refine s_tableOut 231 dX12_look_3 c_3 (by decide) ?_
    refine s_ldc2 (z := (-1)) dX12_look_231 kc_X12_449 rfl (by unfold InL; decide) (n_lret dX12_look_234 hR rfl ?_)
    first
    | exact ⟨_, rfl, rfl, (lookV_no c_3).symm⟩
    | (subst c_3; exact ⟨_, rfl, rfl, rfl⟩)
    | (have e9 : i = w 141 4 := (by omega); rw [e9] at ha; subst c_3; exact ⟨_, rfl, rfl, ha⟩)
    | (have e9 : i = w 141 2 := (by omega); rw [e9] at ha; subst c_3; exact ⟨_, rfl, rfl, ha⟩)
    | (have e9 : i = 3 := (by omega); rw [e9] at ha; subst c_3; exact ⟨_, rfl, rfl, ha⟩)
  · refine s_tableIn 60 0 dX12_look_3 (by rw [c_3]; rfl) (by decide) rfl (by decide) ?_
    refine s_aload_n dX12_look_60 0 rfl rfl (n_getf 141 0 0 dX12_look_61 cf_X12 ff_X12_253 rfl sh_141 rfl (by decide) (v := (w 141 0)) rfl (s_i2l dX12_look_64 (n_lret dX12_look_65 hR rfl ?_)))
    first
    | exact ⟨_, rfl, rfl, (lookV_no c_3).symm⟩
    | (subst c_3; exact ⟨_, rfl, rfl, rfl⟩)
    | (have e9 : i = w 141 4 := (by omega); rw [e9] at ha; subst c_3; exact ⟨_, rfl, rfl, ha⟩)
    | (have e9 : i = w 141 2 := (by omega); rw [e9] at ha; subst c_3; exact ⟨_, rfl, rfl, ha⟩)
    | (have e9 : i = 3 := (by omega); rw [e9] at ha; subst c_3; exact ⟨_, rfl, rfl, ha⟩)
  · refine s_tableIn 66 1 dX12_look_3 (by rw [c_3]; rfl) (by decide) rfl (by decide) ?_
    refine s_aload_n dX12_look_66 0 rfl rfl (n_getf 141 1 0 dX12_look_67 cf_X12 ff_X12_220 rfl sh_141 rfl (by decide) (v := (w 141 1)) rfl (s_i2l dX12_look_70 (n_lret dX12_look_71 hR rfl ?_)))
    first
    | exact ⟨_, rfl, rfl, (lookV_no c_3).symm⟩
    | (subst c_3; exact ⟨_, rfl, rfl, rfl⟩)
    | (have e9 : i = w 141 4 := (by omega); rw [e9] at ha; subst c_3; exact ⟨_, rfl, rfl, ha⟩)
    | (have e9 : i = w 141 2 := (by omega); rw [e9] at ha; subst c_3; exact ⟨_, rfl, rfl, ha⟩)
    | (have e9 : i = 3 := (by omega); rw [e9] at ha; subst c_3; exact ⟨_, rfl, rfl, ha⟩)
  · refine s_tableIn 72 2 dX12_look_3 (by rw [c_3]; rfl) (by decide) rfl (by decide) ?_
    refine s_aload_n dX12_look_72 0 rfl rfl (n_getf 141 2 0 dX12_look_73 cf_X12 ff_X12_227 rfl sh_141 rfl (by decide) (v := (w 141 2)) rfl (s_i2l dX12_look_76 (n_lret dX12_look_77 hR rfl ?_)))
    first
    | exact ⟨_, rfl, rfl, (lookV_no c_3).symm⟩
    | (subst c_3; exact ⟨_, rfl, rfl, rfl⟩)
    | (have e9 : i = w 141 4 := (by omega); rw [e9] at ha; subst c_3; exact ⟨_, rfl, rfl, ha⟩)
    | (have e9 : i = w 141 2 := (by omega); rw [e9] at ha; subst c_3; exact ⟨_, rfl, rfl, ha⟩)
    | (have e9 : i = 3 := (by omega); rw [e9] at ha; subst c_3; exact ⟨_, rfl, rfl, ha⟩)
  · refine s_tableIn 78 3 dX12_look_3 (by rw [c_3]; rfl) (by decide) rfl (by decide) ?_
    refine s_aload_n dX12_look_78 0 rfl rfl (n_getf 141 3 0 dX12_look_79 cf_X12 ff_X12_250 rfl sh_141 rfl (by decide) (v := (w 141 3)) rfl (s_i2l dX12_look_82 (n_lret dX12_look_83 hR rfl ?_)))
    first
    | exact ⟨_, rfl, rfl, (lookV_no c_3).symm⟩
    | (subst c_3; exact ⟨_, rfl, rfl, rfl⟩)
    | (have e9 : i = w 141 4 := (by omega); rw [e9] at ha; subst c_3; exact ⟨_, rfl, rfl, ha⟩)
    | (have e9 : i = w 141 2 := (by omega); rw [e9] at ha; subst c_3; exact ⟨_, rfl, rfl, ha⟩)
    | (have e9 : i = 3 := (by omega); rw [e9] at ha; subst c_3; exact ⟨_, rfl, rfl, ha⟩)
  · refine s_tableIn 84 4 dX12_look_3 (by rw [c_3]; rfl) (by decide) rfl (by decide) ?_
    refine s_aload_n dX12_look_84 0 rfl rfl (n_getf 141 4 0 dX12_look_85 cf_X12 ff_X12_230 rfl sh_141 rfl (by decide) (v := (w 141 4)) rfl (s_i2l dX12_look_88 (n_lret dX12_look_89 hR rfl ?_)))
    first
    | exact ⟨_, rfl, rfl, (lookV_no c_3).symm⟩
    | (subst c_3; exact ⟨_, rfl, rfl, rfl⟩)
    | (have e9 : i = w 141 4 := (by omega); rw [e9] at ha; subst c_3; exact ⟨_, rfl, rfl, ha⟩)
    | (have e9 : i = w 141 2 := (by omega); rw [e9] at ha; subst c_3; exact ⟨_, rfl, rfl, ha⟩)
    | (have e9 : i = 3 := (by omega); rw [e9] at ha; subst c_3; exact ⟨_, rfl, rfl, ha⟩)
  · refine s_tableIn 90 5 dX12_look_3 (by rw [c_3]; rfl) (by decide) rfl (by decide) ?_
    refine s_aload_n dX12_look_90 0 rfl rfl (n_getf 141 5 0 dX12_look_91 cf_X12 ff_X12_233 rfl sh_141 rfl (by decide) (v := (w 141 5)) rfl (s_i2l dX12_look_94 (n_lret dX12_look_95 hR rfl ?_)))
    first
    | exact ⟨_, rfl, rfl, (lookV_no c_3).symm⟩
    | (subst c_3; exact ⟨_, rfl, rfl, rfl⟩)
    | (have e9 : i = w 141 4 := (by omega); rw [e9] at ha; subst c_3; exact ⟨_, rfl, rfl, ha⟩)
    | (have e9 : i = w 141 2 := (by omega); rw [e9] at ha; subst c_3; exact ⟨_, rfl, rfl, ha⟩)
    | (have e9 : i = 3 := (by omega); rw [e9] at ha; subst c_3; exact ⟨_, rfl, rfl, ha⟩)
  · refine s_tableIn 96 6 dX12_look_3 (by rw [c_3]; rfl) (by decide) rfl (by decide) ?_
    refine s_aload_n dX12_look_96 0 rfl rfl (n_getf 141 6 0 dX12_look_97 cf_X12 ff_X12_236 rfl sh_141 rfl (by decide) (v := (w 141 6)) rfl (s_i2l dX12_look_100 (n_lret dX12_look_101 hR rfl ?_)))
    first
    | exact ⟨_, rfl, rfl, (lookV_no c_3).symm⟩
    | (subst c_3; exact ⟨_, rfl, rfl, rfl⟩)
    | (have e9 : i = w 141 4 := (by omega); rw [e9] at ha; subst c_3; exact ⟨_, rfl, rfl, ha⟩)
    | (have e9 : i = w 141 2 := (by omega); rw [e9] at ha; subst c_3; exact ⟨_, rfl, rfl, ha⟩)
    | (have e9 : i = 3 := (by omega); rw [e9] at ha; subst c_3; exact ⟨_, rfl, rfl, ha⟩)
  · refine s_tableIn 102 7 dX12_look_3 (by rw [c_3]; rfl) (by decide) rfl (by decide) ?_
    refine s_iconst dX12_look_102 (by decide) (s_istore (ls' := [(0, (2, 141)), (1, (0, q)), (2, (1, 0)), (4, (0, 0))]) dX12_look_103 (Nat.le_of_ble_eq_true rfl) rfl ?_)
    exact At.keep (ls' := [(0, (2, 141)), (2, (1, 0)), (4, (0, 0))]) [0, 2, 3] rfl (L_105 _ 0 0 (by omega) (by omega) rfl (Nat.lt_succ_self _))
  · refine s_tableIn 132 8 dX12_look_3 (by rw [c_3]; rfl) (by decide) rfl (by decide) ?_
    refine s_iconst dX12_look_132 (by decide) (s_istore (ls' := [(0, (2, 141)), (1, (0, q)), (2, (1, 0)), (4, (0, 0))]) dX12_look_133 (Nat.le_of_ble_eq_true rfl) rfl ?_)
    exact At.keep (ls' := [(0, (2, 141)), (2, (1, 0)), (4, (0, 0))]) [0, 2, 3] rfl (L_135 _ 0 0 (by omega) (by omega) rfl (Nat.lt_succ_self _))
  · refine s_tableIn 163 9 dX12_look_3 (by rw [c_3]; rfl) (by decide) rfl (by decide) ?_
    refine s_iconst dX12_look_163 (by decide) (s_istore (ls' := [(0, (2, 141)), (1, (0, q)), (2, (1, 0)), (4, (0, 0))]) dX12_look_164 (Nat.le_of_ble_eq_true rfl) rfl ?_)
    exact At.keep (ls' := [(0, (2, 141)), (2, (1, 0)), (4, (0, 0))]) [0, 2, 3] rfl (L_166 _ 0 0 (by omega) (by omega) rfl (Nat.lt_succ_self _))
  · refine s_tableIn 203 10 dX12_look_3 (by rw [c_3]; rfl) (by decide) rfl (by decide) ?_
    refine s_iconst dX12_look_203 (by decide) (s_istore (ls' := [(0, (2, 141)), (1, (0, q)), (2, (1, 0)), (4, (0, 0))]) dX12_look_204 (Nat.le_of_ble_eq_true rfl) rfl ?_)
    exact At.keep (ls' := [(0, (2, 141)), (2, (1, 0)), (4, (0, 0))]) [0, 2, 3] rfl (L_206 _ 0 0 (by omega) (by omega) rfl (Nat.lt_succ_self _))
