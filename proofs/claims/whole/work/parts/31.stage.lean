/-! STAGE, THE CLASS. -/
def tJ : Nat → Int := fun j => (j : Int)
def cSt (g : Int → Int → Int) : Int → Ps → Nat → Int := fun i _ j => if 0 ≤ i ∧ i < 9 then g i j else 0
def gX (w : Wd) : Int → Int → Int := fun i j => w (91 + Int.toNat i) j
abbrev VS (g : Int → Int → Int) (n : Int) (i : Int) (P : Ps) : Int := VV (cSt g) tJ n.toNat i P
/-- what the answer is -/
def stV (g : Int → Int → Int) (N : Int → Int) (n S q : Int) : Int := if (1 ≤ S ∧ S ≤ ishl 1 n - 1) ∧ (0 ≤ q ∧ q ≤ ppI S) then (if q = 0 then VS g n (-1) (mbP S) + wtS N S n else (sqV (cSt g) tJ n.toNat (-1) (mbP S) q.toNat).1) else -1
def afT (w : Wd) (i L j : Int) : Int := (if 0 ≤ i ∧ i < 9 then w (91 + Int.toNat i) j else 0) + w 100 (L * 9 + j)
theorem am_step {P : Ps} {F : Nat → Int} {s b l k v : Int} (hb : b = amN P F k.toNat) (hl : b ≠ -1 → l = F b.toNat) (hv : bt s k = 1 → v = F k.toNat) (hm : bt s k = 1 ↔ P k.toNat = true) (h0 : 0 ≤ k) : amN P F (k + 1).toNat = if bt s k = 1 ∧ (b = -1 ∨ v < l) then k else b := by
  rw [amN_s h0, ← hb]
  by_cases c1 : bt s k = 1
  · by_cases c2 : b = -1
    · rw [if_pos ⟨hm.mp c1, Or.inl c2⟩, if_pos ⟨c1, Or.inl c2⟩]
    · rw [hv c1, hl c2]
      by_cases c3 : F k.toNat < F b.toNat
      · rw [if_pos ⟨hm.mp c1, Or.inr c3⟩, if_pos ⟨c1, Or.inr c3⟩]
      · rw [if_neg (fun q => q.2.elim c2 c3), if_neg (fun q => q.2.elim c2 c3)]
  · rw [if_neg (fun q => c1 (hm.mpr q.1)), if_neg (fun q => c1 q.1)]
theorem VS_bd {g : Int → Int → Int} {n i : Int} {P : Ps} (hn : 0 ≤ n ∧ n ≤ 9) (hg : ∀ a b, 0 ≤ a → a < 9 → 0 ≤ b → b < 9 → 0 ≤ g a b ∧ g a b ≤ 9) : 0 ≤ VS g n i P ∧ VS g n i P ≤ 81 := by
  have h := VV_bd (c := cSt g) (t := tJ) (n := n.toNat) (C := 9) (by decide) (fun i P j hj _ => by
    unfold cSt
    split
    · exact hg i j (by omega) (by omega) (by omega) (by omega)
    · omega) (cdP P n.toNat) i P rfl
  have h2 := cdP_le P n.toNat
  unfold VS
  omega
theorem iand_subI {a b : Int} (ha : 0 ≤ a ∧ a < 65536) (hb : 0 ≤ b ∧ b < 65536) : iand a b = a ↔ ∀ j, mbP a j = true → mbP b j = true := by
  have h := iand_sub (a := a.toNat) (b := b.toNat) (by omega) (by omega)
  rwa [show ((a.toNat : Nat) : Int) = a by omega, show ((b.toNat : Nat) : Int) = b by omega] at h
/-- the entries of the sets below e that are parts of S -/
def TBX (w v : Wd) (S e : Int) : Prop := ∀ q j, 1 ≤ q → q < e → iand q S = q → 0 ≤ j → j < w 88 2 → mbP q j.toNat = true → v 100 (q * 9 + j) = VS (gX w) (w 88 2) j (rmP (mbP q) j.toNat)
theorem stX_nx {w v : Wd} {S e L i : Int} (hn : 0 ≤ w 88 2 ∧ w 88 2 ≤ 9) (hg : ∀ a b, 0 ≤ a → a < 9 → 0 ≤ b → b < 9 → 0 ≤ gX w a b ∧ gX w a b ≤ 9) (hf : ∀ c, c ≠ 100 → v c = w c) (hT : TBX w v S e) (hS : 0 ≤ S ∧ S < 2 ^ (w 88 2).toNat) (hL : 1 ≤ L ∧ L < e) (hs : iand L S = L) (hL2 : L < 512) :
    (∀ j, 0 ≤ j → j < w 88 2 → mbP L j.toNat = true → 0 ≤ v 100 (L * 9 + j) ∧ v 100 (L * 9 + j) ≤ 1000) ∧ ∃ b : Nat, nxV (cSt (gX w)) tJ (w 88 2).toNat i (mbP L) = b ∧ amN (mbP L) (fun k => afT v i L k) (w 88 2).toNat = b ∧ (b : Int) < w 88 2 ∧ mbP L b = true ∧ afT v i L b = VS (gX w) (w 88 2) i (mbP L) := by
  have hp : ((2 ^ (w 88 2).toNat : Nat) : Int) = 2 ^ (w 88 2).toNat := by simp
  have hp2 : 2 ^ (w 88 2).toNat ≤ 2 ^ 9 := Nat.pow_le_pow_right (by omega) (by omega)
  have hsub := (iand_subI ⟨by omega, by omega⟩ ⟨hS.1, by omega⟩).mp hs
  have hlt : ∀ k, mbP L k = true → (k : Int) < w 88 2 := fun k hk => by
    have := mbP_lt (n := (w 88 2).toNat) hS.1 hS.2 (hsub k hk)
    omega
  have hex : ∃ k, k < (w 88 2).toNat ∧ mbP L k = true := by
    cases hc : (cdP (mbP L) 16) with
    | zero =>
      have h0 := (cdP_0 16).mp hc
      have : L = 0 := mbP_0 (by omega) (fun k => by
        cases hk : mbP L k with
        | false => rfl
        | true =>
          have := hlt k hk
          rw [h0 k (by omega)] at hk; cases hk)
      omega
    | succ m =>
      rcases amN_spec (mbP L) (fun _ => 0) 16 with ⟨-, q⟩ | ⟨b, -, b2, b3, -⟩
      · rw [(cdP_0 16).mpr q] at hc; cases hc
      · exact ⟨b, by have := hlt b b3; omega, b3⟩
  have hv : ∀ j, 0 ≤ j → j < w 88 2 → mbP L j.toNat = true → v 100 (L * 9 + j) = VS (gX w) (w 88 2) j (rmP (mbP L) j.toNat) := fun j a b c => hT L j hL.1 hL.2 hs a b c
  refine ⟨fun j a b c => by rw [hv j a b c]; have := VS_bd (i := j) (P := rmP (mbP L) j.toNat) hn hg; omega, ?_⟩
  obtain ⟨b, b1, b2, b3, b4, -⟩ := nxV_spec (c := cSt (gX w)) (t := tJ) (n := (w 88 2).toNat) i (mbP L) hex
  have haf : ∀ k : Nat, k < (w 88 2).toNat → mbP L k = true → afT v i L k = afV (cSt (gX w)) tJ (w 88 2).toNat i (mbP L) k := fun k h1 h2 => by
    unfold afT afV cSt gX
    rw [hv k (by omega) (by omega) h2]
    show _ = (if 0 ≤ i ∧ i < 9 then w (91 + i.toNat) (k : Int) else 0) + VV (cSt (gX w)) tJ (w 88 2).toNat (k : Int) (rmP (mbP L) k)
    by_cases c : 0 ≤ i ∧ i < 9
    · rw [if_pos c, if_pos c, hf (91 + i.toNat) (by omega)]
      rfl
    · rw [if_neg c, if_neg c]
      rfl
  refine ⟨b, b1, ?_, by omega, b3, ?_⟩
  · rw [← b1]
    exact amN_c haf
  · rw [haf b b2 b3]
    exact b4.symm

set_option maxRecDepth 100000 in
theorem c_X_stAfter (i L j : Int) (w : Wd) (hi : -1 ≤ i ∧ i < 9) (hj : 0 ≤ j ∧ j < 9) (hL : 0 ≤ L ∧ L < 512) (hc : ∀ a b, 0 ≤ a → a < 9 → 0 ≤ b → b < 9 → 0 ≤ w (91 + Int.toNat a) b ∧ w (91 + Int.toNat a) b ≤ 9) (hf : 0 ≤ w 100 (L * 9 + j) ∧ w 100 (L * 9 + j) ≤ 1000) : CallN 1 mX7_after [(2, 88), (0, i), (0, L), (0, j)] w (RV (0, afT w i L j) w) := by
  refine CallN.intro (by decide +kernel) (Nat.le_of_ble_eq_true rfl) (fun ρ hR => ?_)
  show AtN mX7_after 1 ρ 0 [(0, (2, 88)), (1, (0, i)), (2, (0, L)), (3, (0, j))] [] w
  refine s_iload_n dX7_after_0 1 rfl (s_iconst dX7_after_1 (by decide) (s_icmp_ne 9 dX7_after_2 (by decide) (fun c_2 => ?_) (fun c_2 => ?_)))
  · skip
    have hc9 := hc i j (by omega) hi.2 hj.1 hj.2
    refine s_aload_n dX7_after_9 0 rfl rfl (n_getc (q := 90) 88 1 100 dX7_after_10 cf_X7 ff_X7_17 rfl sh_88 rfl (by decide) rfl (by decide) (s_iload_n dX7_after_13 1 rfl (s_aaload6 90 dX7_after_14 rfl sh_90 (by decide) ⟨(by omega), (by omega)⟩ (s_iload_n dX7_after_15 3 rfl (n_iald (91 + Int.toNat i) dX7_after_16 rfl (rowsh_91 _ (by omega)) (by decide) ⟨(by omega), (by omega)⟩ (v := (w (91 + Int.toNat i) j)) rfl (s_istore (ls' := [(0, (2, 88)), (1, (0, i)), (2, (0, L)), (3, (0, j)), (4, (0, (w (91 + Int.toNat i) j)))]) dX7_after_17 (Nat.le_of_ble_eq_true rfl) rfl (s_iload dX7_after_19 4 rfl (s_aload_n dX7_after_21 0 rfl rfl (n_getc (q := 100) 88 3 110 dX7_after_22 cf_X7 ff_X7_20 rfl sh_88 rfl (by decide) rfl (by decide) ?_)))))))))
    refine s_iload_n dX7_after_25 2 rfl (s_bipush dX7_after_26 (by decide) (n_mul (z := (L * 9)) dX7_after_28 (wr_id (by omega) (by omega)) (s_iload_n dX7_after_29 3 rfl (n_add (z := ((L * 9) + j)) dX7_after_30 (wr_id (by omega) (by omega)) (n_iald 100 dX7_after_31 rfl sh_100 (by decide) ⟨(by omega), (by omega)⟩ (v := (w 100 ((L * 9) + j))) rfl (n_add (z := ((w (91 + Int.toNat i) j) + (w 100 ((L * 9) + j)))) dX7_after_32 (wr_id (by omega) (by omega)) (n_iret dX7_after_33 hR rfl ?_)))))))
    refine ⟨congrArg (fun z => some ((0 : Nat), z)) ?_, rfl⟩
    unfold afT
    first
    | (rw [if_pos (show 0 ≤ i ∧ i < 9 by omega)]; done)
    | (rw [if_neg (show ¬ (0 ≤ i ∧ i < 9) by omega)]; done)
  · skip
    refine s_iconst dX7_after_5 (by decide) (s_goto 17 dX7_after_6 (by decide) (s_istore (ls' := [(0, (2, 88)), (1, (0, i)), (2, (0, L)), (3, (0, j)), (4, (0, 0))]) dX7_after_17 (Nat.le_of_ble_eq_true rfl) rfl (s_iload dX7_after_19 4 rfl (s_aload_n dX7_after_21 0 rfl rfl (n_getc (q := 100) 88 3 110 dX7_after_22 cf_X7 ff_X7_20 rfl sh_88 rfl (by decide) rfl (by decide) (s_iload_n dX7_after_25 2 rfl (s_bipush dX7_after_26 (by decide) (n_mul (z := (L * 9)) dX7_after_28 (wr_id (by omega) (by omega)) (s_iload_n dX7_after_29 3 rfl ?_)))))))))
    refine n_add (z := ((L * 9) + j)) dX7_after_30 (wr_id (by omega) (by omega)) (n_iald 100 dX7_after_31 rfl sh_100 (by decide) ⟨(by omega), (by omega)⟩ (v := (w 100 ((L * 9) + j))) rfl (n_add (z := (0 + (w 100 ((L * 9) + j)))) dX7_after_32 (wr_id (by omega) (by omega)) (n_iret dX7_after_33 hR rfl ?_)))
    refine ⟨congrArg (fun z => some ((0 : Nat), z)) ?_, rfl⟩
    unfold afT
    first
    | (rw [if_pos (show 0 ≤ i ∧ i < 9 by omega)]; done)
    | (rw [if_neg (show ¬ (0 ≤ i ∧ i < 9) by omega)]; done)

set_option maxRecDepth 100000 in
theorem c_X_stNext (i L : Int) (w : Wd) (hi : -1 ≤ i ∧ i < 9) (hn : 0 ≤ w 88 2 ∧ w 88 2 ≤ 9) (hL : 0 ≤ L ∧ L < 512) (hc : ∀ a b, 0 ≤ a → a < 9 → 0 ≤ b → b < 9 → 0 ≤ w (91 + Int.toNat a) b ∧ w (91 + Int.toNat a) b ≤ 9) (hf : ∀ j, 0 ≤ j → j < w 88 2 → mbP L j.toNat = true → 0 ≤ w 100 (L * 9 + j) ∧ w 100 (L * 9 + j) ≤ 1000) : CallN 2 mX7_next [(2, 88), (0, i), (0, L)] w (RQ (fun z w1 => w1 = w ∧ z = amN (mbP L) (fun k : Nat => afT w i L k) (w 88 2).toNat)) := by
  refine CallN.intro (by decide +kernel) (Nat.le_of_ble_eq_true rfl) (fun ρ hR => ?_)
  show AtN mX7_next 2 ρ 0 [(0, (2, 88)), (1, (0, i)), (2, (0, L))] [] w
  have L_8 : ∀ (fu : Nat) (b : Int) (l : Int) (k : Int), 0 ≤ k ∧ k ≤ w 88 2 → b = amN (mbP L) (fun k : Nat => afT w i L k) k.toNat → (b ≠ -1 → l = (fun k : Nat => afT w i L k) b.toNat) → (w 88 2 - k).toNat < fu → AtN mX7_next 2 ρ 8 [(0, (2, 88)), (1, (0, i)), (2, (0, L)), (3, (0, b)), (4, (0, l)), (5, (0, k))] [] w := by
    intro fu
    induction fu with
    | zero => intro b l k hk hb hl hm; exact absurd hm (Nat.not_lt_zero _)
    | succ fu ih =>
      intro b l k hk hb hl hm
      have hm : bt L k = 1 ↔ mbP L k.toNat = true := mbP_bt hL.1 (by omega) hk.1 (by omega)
      have hF : afT w i L k = (fun k : Nat => afT w i L k) k.toNat := by show _ = afT w i L ((k.toNat : Nat) : Int); rw [toN_c hk.1]
      refine s_iload dX7_next_8 5 rfl (s_aload_n dX7_next_10 0 rfl rfl (n_getf 88 2 0 dX7_next_11 cf_X7 ff_X7_33 rfl sh_88 rfl (by decide) (v := (w 88 2)) rfl (s_icmp_ge 74 dX7_next_14 (by decide) (fun c_14 => ?_) (fun c_14 => ?_))))
      · skip
        refine s_iload_n dX7_next_74 3 rfl (n_iret dX7_next_75 hR rfl ?_)
        have e9 : k = w 88 2 := by omega
        rw [e9] at hb
        exact ⟨_, rfl, rfl, hb⟩
      · skip
        refine s_iload_n dX7_next_17 2 rfl (s_iload dX7_next_18 5 rfl (n_invT (as := [(0, L), (0, k)]) dX7_next_20 kv_X11_has ml_X7_58 (c_X_has L k w) (by decide) rfl rfl (Nat.le_of_ble_eq_true rfl) (n_ifeq_b 37 dX7_next_23 (by decide) (fun c_23 => ?_) (fun c_23 => ?_))))
        · skip
          refine s_iconst dX7_next_37 (by decide) (s_istore (ls' := [(0, (2, 88)), (1, (0, i)), (2, (0, L)), (3, (0, b)), (4, (0, l)), (5, (0, k)), (6, (0, 0))]) dX7_next_38 (Nat.le_of_ble_eq_true rfl) rfl (s_iload_n dX7_next_40 2 rfl (s_iload dX7_next_41 5 rfl (n_invT (as := [(0, L), (0, k)]) dX7_next_43 kv_X11_has ml_X7_58 (c_X_has L k w) (by decide) rfl rfl (Nat.le_of_ble_eq_true rfl) (n_ifeq_b 68 dX7_next_46 (by decide) (fun c_46 => ?_) (fun c_46 => ?_))))))
          · skip
            refine s_iinc (z := (k + 1)) (ls' := [(0, (2, 88)), (1, (0, i)), (2, (0, L)), (3, (0, b)), (4, (0, l)), (5, (0, (k + 1))), (6, (0, 0))]) dX7_next_68 5 rfl (Nat.le_of_ble_eq_true rfl) (wr_id (by omega) (by omega)) rfl (s_goto 8 dX7_next_71 (by decide) ?_)
            exact At.keep (ls' := [(0, (2, 88)), (1, (0, i)), (2, (0, L)), (3, (0, b)), (4, (0, l)), (5, (0, (k + 1)))]) [0, 1, 2, 3, 4, 5] rfl (ih b l (k + 1) (by omega) (by first | (exfalso; omega) | (rw [am_step (v := afT w i L k) hb hl (fun _ => hF) hm hk.1]; first | exact (if_pos (by omega)).symm | exact (if_neg (by omega)).symm)) (by first | (exfalso; omega) | exact hl | exact fun _ => hF) (by omega))
          · skip
            refine s_iload_n dX7_next_49 3 rfl (s_iconst dX7_next_50 (by decide) (s_icmp_eq 61 dX7_next_51 (by decide) (fun c_51 => ?_) (fun c_51 => ?_)))
            · skip
              refine s_iload dX7_next_61 5 rfl (s_istore_n (ls' := [(0, (2, 88)), (1, (0, i)), (2, (0, L)), (3, (0, k)), (4, (0, l)), (5, (0, k)), (6, (0, 0))]) dX7_next_63 (Nat.le_of_ble_eq_true rfl) rfl (s_iload dX7_next_64 6 rfl (s_istore (ls' := [(0, (2, 88)), (1, (0, i)), (2, (0, L)), (3, (0, k)), (4, (0, 0)), (5, (0, k)), (6, (0, 0))]) dX7_next_66 (Nat.le_of_ble_eq_true rfl) rfl (s_iinc (z := (k + 1)) (ls' := [(0, (2, 88)), (1, (0, i)), (2, (0, L)), (3, (0, k)), (4, (0, 0)), (5, (0, (k + 1))), (6, (0, 0))]) dX7_next_68 5 rfl (Nat.le_of_ble_eq_true rfl) (wr_id (by omega) (by omega)) rfl (s_goto 8 dX7_next_71 (by decide) ?_)))))
              exact At.keep (ls' := [(0, (2, 88)), (1, (0, i)), (2, (0, L)), (3, (0, k)), (4, (0, 0)), (5, (0, (k + 1)))]) [0, 1, 2, 3, 4, 5] rfl (ih k 0 (k + 1) (by omega) (by first | (exfalso; omega) | (rw [am_step (v := afT w i L k) hb hl (fun _ => hF) hm hk.1]; first | exact (if_pos (by omega)).symm | exact (if_neg (by omega)).symm)) (by first | (exfalso; omega) | exact hl | exact fun _ => hF) (by omega))
            · skip
              refine s_iload dX7_next_54 6 rfl (s_iload dX7_next_56 4 rfl (s_icmp_ge 68 dX7_next_58 (by decide) (fun c_58 => ?_) (fun c_58 => ?_)))
              · skip
                refine s_iinc (z := (k + 1)) (ls' := [(0, (2, 88)), (1, (0, i)), (2, (0, L)), (3, (0, b)), (4, (0, l)), (5, (0, (k + 1))), (6, (0, 0))]) dX7_next_68 5 rfl (Nat.le_of_ble_eq_true rfl) (wr_id (by omega) (by omega)) rfl (s_goto 8 dX7_next_71 (by decide) ?_)
                exact At.keep (ls' := [(0, (2, 88)), (1, (0, i)), (2, (0, L)), (3, (0, b)), (4, (0, l)), (5, (0, (k + 1)))]) [0, 1, 2, 3, 4, 5] rfl (ih b l (k + 1) (by omega) (by first | (exfalso; omega) | (rw [am_step (v := afT w i L k) hb hl (fun _ => hF) hm hk.1]; first | exact (if_pos (by omega)).symm | exact (if_neg (by omega)).symm)) (by first | (exfalso; omega) | exact hl | exact fun _ => hF) (by omega))
              · skip
                refine s_iload dX7_next_61 5 rfl (s_istore_n (ls' := [(0, (2, 88)), (1, (0, i)), (2, (0, L)), (3, (0, k)), (4, (0, l)), (5, (0, k)), (6, (0, 0))]) dX7_next_63 (Nat.le_of_ble_eq_true rfl) rfl (s_iload dX7_next_64 6 rfl (s_istore (ls' := [(0, (2, 88)), (1, (0, i)), (2, (0, L)), (3, (0, k)), (4, (0, 0)), (5, (0, k)), (6, (0, 0))]) dX7_next_66 (Nat.le_of_ble_eq_true rfl) rfl (s_iinc (z := (k + 1)) (ls' := [(0, (2, 88)), (1, (0, i)), (2, (0, L)), (3, (0, k)), (4, (0, 0)), (5, (0, (k + 1))), (6, (0, 0))]) dX7_next_68 5 rfl (Nat.le_of_ble_eq_true rfl) (wr_id (by omega) (by omega)) rfl (s_goto 8 dX7_next_71 (by decide) ?_)))))
                exact At.keep (ls' := [(0, (2, 88)), (1, (0, i)), (2, (0, L)), (3, (0, k)), (4, (0, 0)), (5, (0, (k + 1)))]) [0, 1, 2, 3, 4, 5] rfl (ih k 0 (k + 1) (by omega) (by first | (exfalso; omega) | (rw [am_step (v := afT w i L k) hb hl (fun _ => hF) hm hk.1]; first | exact (if_pos (by omega)).symm | exact (if_neg (by omega)).symm)) (by first | (exfalso; omega) | exact hl | exact fun _ => hF) (by omega))
        · skip
          refine s_aload_n dX7_next_26 0 rfl rfl (s_iload_n dX7_next_27 1 rfl (s_iload_n dX7_next_28 2 rfl (s_iload dX7_next_29 5 rfl (n_invV (as := [(0, i), (0, L), (0, k)]) dX7_next_31 kv_X7_after ml_X7_62 (c_X_stAfter i L k w (by omega) (by omega) (by omega) hc (hf k hk.1 (by omega) (hm.mp (by omega)))) (by decide) 88 cf_X7 rfl sh_88 rfl rfl rfl (Nat.le_of_ble_eq_true rfl) (s_goto 38 dX7_next_34 (by decide) (s_istore (ls' := [(0, (2, 88)), (1, (0, i)), (2, (0, L)), (3, (0, b)), (4, (0, l)), (5, (0, k)), (6, (0, (afT w i L k)))]) dX7_next_38 (Nat.le_of_ble_eq_true rfl) rfl (s_iload_n dX7_next_40 2 rfl (s_iload dX7_next_41 5 rfl (n_invT (as := [(0, L), (0, k)]) dX7_next_43 kv_X11_has ml_X7_58 (c_X_has L k w) (by decide) rfl rfl (Nat.le_of_ble_eq_true rfl) ?_)))))))))
          refine n_ifeq_b 68 dX7_next_46 (by decide) (fun c_46 => ?_) (fun c_46 => ?_)
          · skip
            refine s_iinc (z := (k + 1)) (ls' := [(0, (2, 88)), (1, (0, i)), (2, (0, L)), (3, (0, b)), (4, (0, l)), (5, (0, (k + 1))), (6, (0, (afT w i L k)))]) dX7_next_68 5 rfl (Nat.le_of_ble_eq_true rfl) (wr_id (by omega) (by omega)) rfl (s_goto 8 dX7_next_71 (by decide) ?_)
            exact At.keep (ls' := [(0, (2, 88)), (1, (0, i)), (2, (0, L)), (3, (0, b)), (4, (0, l)), (5, (0, (k + 1)))]) [0, 1, 2, 3, 4, 5] rfl (ih b l (k + 1) (by omega) (by first | (exfalso; omega) | (rw [am_step (v := afT w i L k) hb hl (fun _ => hF) hm hk.1]; first | exact (if_pos (by omega)).symm | exact (if_neg (by omega)).symm)) (by first | (exfalso; omega) | exact hl | exact fun _ => hF) (by omega))
          · skip
            refine s_iload_n dX7_next_49 3 rfl (s_iconst dX7_next_50 (by decide) (s_icmp_eq 61 dX7_next_51 (by decide) (fun c_51 => ?_) (fun c_51 => ?_)))
            · skip
              refine s_iload dX7_next_61 5 rfl (s_istore_n (ls' := [(0, (2, 88)), (1, (0, i)), (2, (0, L)), (3, (0, k)), (4, (0, l)), (5, (0, k)), (6, (0, (afT w i L k)))]) dX7_next_63 (Nat.le_of_ble_eq_true rfl) rfl (s_iload dX7_next_64 6 rfl (s_istore (ls' := [(0, (2, 88)), (1, (0, i)), (2, (0, L)), (3, (0, k)), (4, (0, (afT w i L k))), (5, (0, k)), (6, (0, (afT w i L k)))]) dX7_next_66 (Nat.le_of_ble_eq_true rfl) rfl (s_iinc (z := (k + 1)) (ls' := [(0, (2, 88)), (1, (0, i)), (2, (0, L)), (3, (0, k)), (4, (0, (afT w i L k))), (5, (0, (k + 1))), (6, (0, (afT w i L k)))]) dX7_next_68 5 rfl (Nat.le_of_ble_eq_true rfl) (wr_id (by omega) (by omega)) rfl (s_goto 8 dX7_next_71 (by decide) ?_)))))
              exact At.keep (ls' := [(0, (2, 88)), (1, (0, i)), (2, (0, L)), (3, (0, k)), (4, (0, (afT w i L k))), (5, (0, (k + 1)))]) [0, 1, 2, 3, 4, 5] rfl (ih k (afT w i L k) (k + 1) (by omega) (by first | (exfalso; omega) | (rw [am_step (v := afT w i L k) hb hl (fun _ => hF) hm hk.1]; first | exact (if_pos (by omega)).symm | exact (if_neg (by omega)).symm)) (by first | (exfalso; omega) | exact hl | exact fun _ => hF) (by omega))
            · skip
              refine s_iload dX7_next_54 6 rfl (s_iload dX7_next_56 4 rfl (s_icmp_ge 68 dX7_next_58 (by decide) (fun c_58 => ?_) (fun c_58 => ?_)))
              · skip
                refine s_iinc (z := (k + 1)) (ls' := [(0, (2, 88)), (1, (0, i)), (2, (0, L)), (3, (0, b)), (4, (0, l)), (5, (0, (k + 1))), (6, (0, (afT w i L k)))]) dX7_next_68 5 rfl (Nat.le_of_ble_eq_true rfl) (wr_id (by omega) (by omega)) rfl (s_goto 8 dX7_next_71 (by decide) ?_)
                exact At.keep (ls' := [(0, (2, 88)), (1, (0, i)), (2, (0, L)), (3, (0, b)), (4, (0, l)), (5, (0, (k + 1)))]) [0, 1, 2, 3, 4, 5] rfl (ih b l (k + 1) (by omega) (by first | (exfalso; omega) | (rw [am_step (v := afT w i L k) hb hl (fun _ => hF) hm hk.1]; first | exact (if_pos (by omega)).symm | exact (if_neg (by omega)).symm)) (by first | (exfalso; omega) | exact hl | exact fun _ => hF) (by omega))
              · skip
                refine s_iload dX7_next_61 5 rfl (s_istore_n (ls' := [(0, (2, 88)), (1, (0, i)), (2, (0, L)), (3, (0, k)), (4, (0, l)), (5, (0, k)), (6, (0, (afT w i L k)))]) dX7_next_63 (Nat.le_of_ble_eq_true rfl) rfl (s_iload dX7_next_64 6 rfl (s_istore (ls' := [(0, (2, 88)), (1, (0, i)), (2, (0, L)), (3, (0, k)), (4, (0, (afT w i L k))), (5, (0, k)), (6, (0, (afT w i L k)))]) dX7_next_66 (Nat.le_of_ble_eq_true rfl) rfl (s_iinc (z := (k + 1)) (ls' := [(0, (2, 88)), (1, (0, i)), (2, (0, L)), (3, (0, k)), (4, (0, (afT w i L k))), (5, (0, (k + 1))), (6, (0, (afT w i L k)))]) dX7_next_68 5 rfl (Nat.le_of_ble_eq_true rfl) (wr_id (by omega) (by omega)) rfl (s_goto 8 dX7_next_71 (by decide) ?_)))))
                exact At.keep (ls' := [(0, (2, 88)), (1, (0, i)), (2, (0, L)), (3, (0, k)), (4, (0, (afT w i L k))), (5, (0, (k + 1)))]) [0, 1, 2, 3, 4, 5] rfl (ih k (afT w i L k) (k + 1) (by omega) (by first | (exfalso; omega) | (rw [am_step (v := afT w i L k) hb hl (fun _ => hF) hm hk.1]; first | exact (if_pos (by omega)).symm | exact (if_neg (by omega)).symm)) (by first | (exfalso; omega) | exact hl | exact fun _ => hF) (by omega))
  refine s_iconst dX7_next_0 (by decide) (s_istore_n (ls' := [(0, (2, 88)), (1, (0, i)), (2, (0, L)), (3, (0, (-1)))]) dX7_next_1 (Nat.le_of_ble_eq_true rfl) rfl (s_iconst dX7_next_2 (by decide) (s_istore (ls' := [(0, (2, 88)), (1, (0, i)), (2, (0, L)), (3, (0, (-1))), (4, (0, 0))]) dX7_next_3 (Nat.le_of_ble_eq_true rfl) rfl (s_iconst dX7_next_5 (by decide) (s_istore (ls' := [(0, (2, 88)), (1, (0, i)), (2, (0, L)), (3, (0, (-1))), (4, (0, 0)), (5, (0, 0))]) dX7_next_6 (Nat.le_of_ble_eq_true rfl) rfl ?_)))))
  exact L_8 _ (-1) 0 0 (by omega) rfl (fun q => absurd rfl q) (Nat.lt_succ_self _)

set_option maxRecDepth 100000 in
theorem c_X_stFill (S : Int) (w : Wd) (hn : 0 ≤ w 88 2 ∧ w 88 2 ≤ 9) (hc : ∀ a b, 0 ≤ a → a < 9 → 0 ≤ b → b < 9 → 0 ≤ w (91 + Int.toNat a) b ∧ w (91 + Int.toNat a) b ≤ 9) (hS1 : 1 ≤ S) (hS : S < 2 ^ (w 88 2).toNat) : CallN 3 mX7_fill [(2, 88), (0, S)] w (RUQ (fun w1 => (∀ c, c ≠ 100 → w1 c = w c) ∧ TBX w w1 S (S + 1))) := by
  refine CallN.intro (by decide +kernel) (Nat.le_of_ble_eq_true rfl) (fun ρ hR => ?_)
  show AtN mX7_fill 3 ρ 0 [(0, (2, 88)), (1, (0, S))] [] w
  have hpw : ((2 ^ (w 88 2).toNat : Nat) : Int) = 2 ^ (w 88 2).toNat := by simp
  have hpw2 : 2 ^ (w 88 2).toNat ≤ 2 ^ 9 := Nat.pow_le_pow_right (by omega) (by omega)
  have hS9 : S < 512 := by omega
  clear hpw hpw2
  have L_9 : ∀ (fu : Nat) (p : Int) (i : Int) (v9 : Wd), 1 ≤ p ∧ p ≤ S → 0 ≤ i ∧ i ≤ w 88 2 → (∀ c, c ≠ 100 → v9 c = w c) → TBX w v9 S p → (∀ j, 0 ≤ j → j < i → iand p S = p → mbP p j.toNat = true → v9 100 (p * 9 + j) = VS (gX w) (w 88 2) j (rmP (mbP p) j.toNat)) → (∀ v : Wd, (∀ c, c ≠ 100 → v c = w c) → TBX w v S (p + 1) → AtN mX7_fill 3 ρ 81 [(0, (2, 88)), (1, (0, S)), (2, (0, p))] [] v) → (w 88 2 - i).toNat < fu → AtN mX7_fill 3 ρ 9 [(0, (2, 88)), (1, (0, S)), (2, (0, p)), (3, (0, i))] [] v9 := by
    intro fu
    induction fu with
    | zero => intro p i v9 hp hi hw hT hI hK hm; exact absurd hm (Nat.not_lt_zero _)
    | succ fu ih =>
      intro p i v9 hp hi hw hT hI hK hm
      have q2 : v9 88 2 = w 88 2 := by rw [hw 88 (by decide)]
      have hn9 : 0 ≤ v9 88 2 ∧ v9 88 2 ≤ 9 := by rw [q2]; exact hn
      have hc9 : ∀ a b, 0 ≤ a → a < 9 → 0 ≤ b → b < 9 → 0 ≤ v9 (91 + Int.toNat a) b ∧ v9 (91 + Int.toNat a) b ≤ 9 := fun a b a1 a2 a3 a4 => by rw [hw (91 + a.toNat) (by omega)]; exact hc a b a1 a2 a3 a4
      refine s_iload_n dX7_fill_9 3 rfl (s_aload_n dX7_fill_10 0 rfl rfl (n_getf 88 2 0 dX7_fill_11 cf_X7 ff_X7_33 rfl sh_88 rfl (by decide) (v := (v9 88 2)) rfl (s_icmp_ge 81 dX7_fill_14 (by decide) (fun c_14 => ?_) (fun c_14 => ?_))))
      · skip
        refine At.keep (ls' := [(0, (2, 88)), (1, (0, S)), (2, (0, p))]) [0, 1, 2] rfl (hK v9 hw (fun q j a b c d e f => ?_))
        by_cases eq : q = p
        · subst eq
          first
          | exact absurd c (by omega)
          | exact hI j d (by omega) c f
        · exact hT q j a (by omega) c d e f
      · skip
        refine s_iload_n dX7_fill_17 2 rfl (s_iload_n dX7_fill_18 1 rfl (s_iand dX7_fill_19 (s_iload_n dX7_fill_20 2 rfl (s_icmp_ne 81 dX7_fill_21 (by decide) (fun c_21 => ?_) (fun c_21 => ?_)))))
        · skip
          refine At.keep (ls' := [(0, (2, 88)), (1, (0, S)), (2, (0, p))]) [0, 1, 2] rfl (hK v9 hw (fun q j a b c d e f => ?_))
          by_cases eq : q = p
          · subst eq
            first
            | exact absurd c (by omega)
            | exact hI j d (by omega) c f
          · exact hT q j a (by omega) c d e f
        · skip
          refine s_iload_n dX7_fill_24 2 rfl (s_iload_n dX7_fill_25 3 rfl (n_invT (as := [(0, p), (0, i)]) dX7_fill_26 kv_X11_has ml_X7_58 (c_X_has p i v9) (by decide) rfl rfl (Nat.le_of_ble_eq_true rfl) (n_ifeq_b 75 dX7_fill_29 (by decide) (fun c_29 => ?_) (fun c_29 => ?_))))
          · skip
            refine s_iinc (z := (i + 1)) (ls' := [(0, (2, 88)), (1, (0, S)), (2, (0, p)), (3, (0, (i + 1)))]) dX7_fill_75 3 rfl (Nat.le_of_ble_eq_true rfl) (wr_id (by omega) (by omega)) rfl (s_goto 9 dX7_fill_78 (by decide) ?_)
            exact ih p (i + 1) v9 (by omega) (by omega) hw hT (fun j a b c d => by by_cases e : j = i; (subst e; exact absurd ((mbP_bt (s := p) (by omega) (by omega) (by omega) (by omega)).mpr d) (by omega)); exact hI j a (by omega) c d) hK (by omega)
          · skip
            refine s_iload_n dX7_fill_32 2 rfl (s_iconst dX7_fill_33 (by decide) (s_iload_n dX7_fill_34 3 rfl (s_ishl dX7_fill_35 (s_iconst dX7_fill_36 (by decide) (s_ixor dX7_fill_37 (s_iand dX7_fill_38 (s_istore (ls' := [(0, (2, 88)), (1, (0, S)), (2, (0, p)), (3, (0, i)), (4, (0, (iand p (ixor (ishl 1 i) (-1)))))]) dX7_fill_39 (Nat.le_of_ble_eq_true rfl) rfl ?_)))))))
            obtain ⟨l0, el, hle, hmb, hlt⟩ := mbP_clr (s := p) (j := i) (by omega) (by omega) (by omega) (by omega)
            obtain ⟨l9, e9⟩ : ∃ l9 : Int, l9 = (l0 : Int) := ⟨_, rfl⟩
            rw [← e9] at el hle hmb hlt
            rw [el]
            have hm : bt p i = 1 ↔ mbP p i.toNat = true := mbP_bt (by omega) (by omega) (by omega) (by omega)
            have hlt2 := hlt (hm.mp (by omega))
            have hl0 : 0 ≤ l9 := by omega
            have hsl : iand l9 S = l9 := (iand_subI ⟨by omega, by omega⟩ ⟨by omega, by omega⟩).mpr (fun j hj => (iand_subI ⟨by omega, by omega⟩ ⟨by omega, by omega⟩).mp (show iand p S = p by omega) j (by rw [hmb] at hj; exact (rmP_t.mp hj).1))
            refine s_aload_n dX7_fill_41 0 rfl rfl (n_getc (q := 100) 88 3 110 dX7_fill_42 cf_X7 ff_X7_20 rfl sh_88 rfl (by decide) rfl (by decide) (s_iload_n dX7_fill_45 2 rfl (s_bipush dX7_fill_46 (by decide) (n_mul (z := (p * 9)) dX7_fill_48 (wr_id (by omega) (by omega)) (s_iload_n dX7_fill_49 3 rfl (n_add (z := ((p * 9) + i)) dX7_fill_50 (wr_id (by omega) (by omega)) (s_iload dX7_fill_51 4 rfl (s_if_ne 60 dX7_fill_53 (by decide) (fun c_53 => ?_) (fun c_53 => ?_)))))))))
            · skip
              obtain ⟨hnx_68, b, b1, b2, b3, b4, b5⟩ := stX_nx (i := i) hn hc hw hT ⟨by omega, hS⟩ ⟨by omega, hlt2⟩ hsl (by omega)
              rw [← q2] at hnx_68
              refine s_aload_n dX7_fill_60 0 rfl rfl (s_iload_n dX7_fill_61 3 rfl (s_iload dX7_fill_62 4 rfl (s_aload_n dX7_fill_64 0 rfl rfl (s_iload_n dX7_fill_65 3 rfl (s_iload dX7_fill_66 4 rfl (n_invV' (as := [(0, i), (0, l9)]) dX7_fill_68 kv_X7_next ml_X7_54 (c_X_stNext i l9 v9 (by omega) hn9 (by omega) hc9 hnx_68) (by decide) 88 cf_X7 rfl sh_88 rfl rfl rfl (Nat.le_of_ble_eq_true rfl) ?_))))))
              rintro r_68 w_68 ⟨z_68, rfl, hw_68, hz_68⟩
              rw [hw_68]
              show AtN _ _ ρ _ _ [(0, z_68), (0, l9), (0, i), (2, 88), (0, ((p * 9) + i)), (2, 100)] v9
              rw [q2] at hz_68
              have hzb : z_68 = (b : Int) := hz_68.trans b2
              have hfb := hnx_68 (b : Int) (by omega) (by omega) b4
              rw [← hzb] at hfb b5
              refine n_invV (as := [(0, i), (0, l9), (0, z_68)]) dX7_fill_71 kv_X7_after ml_X7_62 (c_X_stAfter i l9 z_68 v9 (by omega) (by omega) (by omega) hc9 hfb) (by decide) 88 cf_X7 rfl sh_88 rfl rfl rfl (Nat.le_of_ble_eq_true rfl) (s_iastore 100 dX7_fill_74 rfl sh_100 (by decide) ⟨(by omega), (by omega)⟩ (s_iinc (z := (i + 1)) (ls' := [(0, (2, 88)), (1, (0, S)), (2, (0, p)), (3, (0, (i + 1))), (4, (0, l9))]) dX7_fill_75 3 rfl (Nat.le_of_ble_eq_true rfl) (wr_id (by omega) (by omega)) rfl (s_goto 9 dX7_fill_78 (by decide) ?_)))
              exact At.keep (ls' := [(0, (2, 88)), (1, (0, S)), (2, (0, p)), (3, (0, (i + 1)))]) [0, 1, 2, 3] rfl (ih p (i + 1) (wu v9 100 ((p * 9) + i) (afT v9 i l9 z_68)) (by omega) (by omega) (fun c q => by rw [wu_ne q]; exact hw c q) (fun q j a b c d e f => by rw [wu_at, if_neg (by omega)]; exact hT q j a b c d e f) (fun j a b c d => by by_cases e : j = i; (subst e; rw [wu_same]; exact (by rw [← hmb]; exact b5)); (rw [wu_at, if_neg (by omega)]; exact hI j a (by omega) c d)) hK (by omega))
            · skip
              refine s_iconst dX7_fill_56 (by decide) (s_goto 74 dX7_fill_57 (by decide) (s_iastore 100 dX7_fill_74 rfl sh_100 (by decide) ⟨(by omega), (by omega)⟩ (s_iinc (z := (i + 1)) (ls' := [(0, (2, 88)), (1, (0, S)), (2, (0, p)), (3, (0, (i + 1))), (4, (0, l9))]) dX7_fill_75 3 rfl (Nat.le_of_ble_eq_true rfl) (wr_id (by omega) (by omega)) rfl (s_goto 9 dX7_fill_78 (by decide) ?_))))
              exact At.keep (ls' := [(0, (2, 88)), (1, (0, S)), (2, (0, p)), (3, (0, (i + 1)))]) [0, 1, 2, 3] rfl (ih p (i + 1) (wu v9 100 ((p * 9) + i) 0) (by omega) (by omega) (fun c q => by rw [wu_ne q]; exact hw c q) (fun q j a b c d e f => by rw [wu_at, if_neg (by omega)]; exact hT q j a b c d e f) (fun j a b c d => by by_cases e : j = i; (subst e; rw [wu_same]; exact ((VV_0 (fun k _ => by rw [← hmb, show l9 = 0 by omega]; exact Nat.zero_testBit k)).symm)); (rw [wu_at, if_neg (by omega)]; exact hI j a (by omega) c d)) hK (by omega))
  have L_2 : ∀ (fu : Nat) (p : Int) (v9 : Wd), 1 ≤ p ∧ p ≤ S + 1 → (∀ c, c ≠ 100 → v9 c = w c) → TBX w v9 S p → (S + 1 - p).toNat < fu → AtN mX7_fill 3 ρ 2 [(0, (2, 88)), (1, (0, S)), (2, (0, p))] [] v9 := by
    intro fu
    induction fu with
    | zero => intro p v9 hp hw hT hm; exact absurd hm (Nat.not_lt_zero _)
    | succ fu ih =>
      intro p v9 hp hw hT hm
      refine s_iload_n dX7_fill_2 2 rfl (s_iload_n dX7_fill_3 1 rfl (s_icmp_gt 87 dX7_fill_4 (by decide) (fun c_4 => ?_) (fun c_4 => ?_)))
      · skip
        refine n_ret dX7_fill_87 hR rfl ?_
        have e9 : p = S + 1 := by omega
        rw [e9] at hT
        exact ⟨rfl, hw, hT⟩
      · skip
        refine s_iconst dX7_fill_7 (by decide) (s_istore_n (ls' := [(0, (2, 88)), (1, (0, S)), (2, (0, p)), (3, (0, 0))]) dX7_fill_8 (Nat.le_of_ble_eq_true rfl) rfl ?_)
        exact L_9 _ p 0 v9 (by omega) (by omega) hw hT (fun j a b => absurd b (by omega)) (fun v f1 f2 => s_iinc (z := (p + 1)) (ls' := [(0, (2, 88)), (1, (0, S)), (2, (0, (p + 1)))]) dX7_fill_81 2 rfl (Nat.le_of_ble_eq_true rfl) (wr_id (by omega) (by omega)) rfl (s_goto 2 dX7_fill_84 (by decide) (ih (p + 1) v (by omega) f1 f2 (by omega)))) (Nat.lt_succ_self _)
  refine s_iconst dX7_fill_0 (by decide) (s_istore_n (ls' := [(0, (2, 88)), (1, (0, S)), (2, (0, 1))]) dX7_fill_1 (Nat.le_of_ble_eq_true rfl) rfl ?_)
  exact L_2 _ 1 w (by omega) (fun _ _ => rfl) (fun q j a b => absurd b (by omega)) (Nat.lt_succ_self _)

set_option maxRecDepth 100000 in
theorem c_X_stNights (S : Int) (w : Wd) (hn : 0 ≤ w 88 2 ∧ w 88 2 ≤ 9) (hc : ∀ a b, 0 ≤ a → a < 9 → 0 ≤ b → b < 9 → 0 ≤ w (91 + Int.toNat a) b ∧ w (91 + Int.toNat a) b ≤ 9) (hS1 : 1 ≤ S) (hS : S < 2 ^ (w 88 2).toNat) (hN : ∀ j, 0 ≤ j → j < w 88 2 → 0 ≤ w 89 j ∧ w 89 j ≤ 20) (u : Wd) (hw : ∀ c, c ≠ 100 → w c = u c) (hT : TBX u w S (S + 1)) (hnu : 0 ≤ u 88 2 ∧ u 88 2 ≤ 9) (hcu : ∀ a b, 0 ≤ a → a < 9 → 0 ≤ b → b < 9 → 0 ≤ gX u a b ∧ gX u a b ≤ 9) : CallN 3 mX7_fewestNights [(2, 88), (0, S)] w (RV (0, VS (gX u) (u 88 2) (-1) (mbP S) + wtS (w 89) S (w 88 2)) w) := by
  refine CallN.intro (by decide +kernel) (Nat.le_of_ble_eq_true rfl) (fun ρ hR => ?_)
  show AtN mX7_fewestNights 3 ρ 0 [(0, (2, 88)), (1, (0, S))] [] w
  have hpw : ((2 ^ (w 88 2).toNat : Nat) : Int) = 2 ^ (w 88 2).toNat := by simp
  have hpw2 : 2 ^ (w 88 2).toNat ≤ 2 ^ 9 := Nat.pow_le_pow_right (by omega) (by omega)
  have hS9 : S < 512 := by omega
  clear hpw hpw2
  have q2 : w 88 2 = u 88 2 := by rw [hw 88 (by decide)]
  have hn9 := hn
  have hc9 := hc
  obtain ⟨hnx_6, b, b1, b2, b3, b4, b5⟩ := stX_nx (i := -1) hnu hcu hw hT ⟨by omega, by rw [← q2]; exact hS⟩ ⟨hS1, by omega⟩ ((iand_subI ⟨by omega, by omega⟩ ⟨by omega, by omega⟩).mpr (fun _ h => h)) hS9
  rw [← q2] at hnx_6 b2 b3
  have L_15 : ∀ (fu : Nat) (a : Int) (i : Int), 0 ≤ i ∧ i ≤ w 88 2 → a = VS (gX u) (u 88 2) (-1) (mbP S) + wtS (w 89) S i → (w 88 2 - i).toNat < fu → AtN mX7_fewestNights 3 ρ 15 [(0, (2, 88)), (1, (0, S)), (2, (0, a)), (3, (0, i))] [] w := by
    intro fu
    induction fu with
    | zero => intro a i hi ha hm; exact absurd hm (Nat.not_lt_zero _)
    | succ fu ih =>
      intro a i hi ha hm
      have qa := wtS_bd (g := w 89) (s := S) hi.1 (fun j a b => by have := hN j a (by omega); omega)
      have qv := VS_bd (i := -1) (P := mbP S) hnu hcu
      refine s_iload_n dX7_fewestNights_15 3 rfl (s_aload_n dX7_fewestNights_16 0 rfl rfl (n_getf 88 2 0 dX7_fewestNights_17 cf_X7 ff_X7_33 rfl sh_88 rfl (by decide) (v := (w 88 2)) rfl (s_icmp_ge 46 dX7_fewestNights_20 (by decide) (fun c_20 => ?_) (fun c_20 => ?_))))
      · skip
        refine s_iload_n dX7_fewestNights_46 2 rfl (n_iret dX7_fewestNights_47 hR rfl ?_)
        have e9 : i = w 88 2 := by omega
        rw [e9] at ha
        exact ⟨congrArg (fun z => some ((0 : Nat), z)) ha, rfl⟩
      · skip
        refine s_iload_n dX7_fewestNights_23 1 rfl (s_iload_n dX7_fewestNights_24 3 rfl (n_invT (as := [(0, S), (0, i)]) dX7_fewestNights_25 kv_X11_has ml_X7_58 (c_X_has S i w) (by decide) rfl rfl (Nat.le_of_ble_eq_true rfl) (n_ifeq_b 40 dX7_fewestNights_28 (by decide) (fun c_28 => ?_) (fun c_28 => ?_))))
        · skip
          refine s_iinc (z := (i + 1)) (ls' := [(0, (2, 88)), (1, (0, S)), (2, (0, a)), (3, (0, (i + 1)))]) dX7_fewestNights_40 3 rfl (Nat.le_of_ble_eq_true rfl) (wr_id (by omega) (by omega)) rfl (s_goto 15 dX7_fewestNights_43 (by decide) ?_)
          exact ih a (i + 1) (by omega) (by rw [wtS_s hi.1, ← Int.add_assoc, ← ha]; have hb := bt01 S i; first | (rw [show bt S i = 0 by omega]; omega) | (rw [show bt S i = 1 by omega]; omega)) (by omega)
        · skip
          have hN8 := hN i hi.1 (by omega)
          refine s_iload_n dX7_fewestNights_31 2 rfl (s_aload_n dX7_fewestNights_32 0 rfl rfl (n_getc (q := 89) 88 0 99 dX7_fewestNights_33 cf_X7 ff_X7_9 rfl sh_88 rfl (by decide) rfl (by decide) (s_iload_n dX7_fewestNights_36 3 rfl (n_iald 89 dX7_fewestNights_37 rfl sh_89 (by decide) ⟨(by omega), (by omega)⟩ (v := (w 89 i)) rfl (n_add (z := (a + (w 89 i))) dX7_fewestNights_38 (wr_id (by omega) (by omega)) (s_istore_n (ls' := [(0, (2, 88)), (1, (0, S)), (2, (0, (a + (w 89 i)))), (3, (0, i))]) dX7_fewestNights_39 (Nat.le_of_ble_eq_true rfl) rfl (s_iinc (z := (i + 1)) (ls' := [(0, (2, 88)), (1, (0, S)), (2, (0, (a + (w 89 i)))), (3, (0, (i + 1)))]) dX7_fewestNights_40 3 rfl (Nat.le_of_ble_eq_true rfl) (wr_id (by omega) (by omega)) rfl (s_goto 15 dX7_fewestNights_43 (by decide) ?_))))))))
          exact ih (a + (w 89 i)) (i + 1) (by omega) (by rw [wtS_s hi.1, ← Int.add_assoc, ← ha]; have hb := bt01 S i; first | (rw [show bt S i = 0 by omega]; omega) | (rw [show bt S i = 1 by omega]; omega)) (by omega)
  refine s_aload_n dX7_fewestNights_0 0 rfl rfl (s_iconst dX7_fewestNights_1 (by decide) (s_iload_n dX7_fewestNights_2 1 rfl (s_aload_n dX7_fewestNights_3 0 rfl rfl (s_iconst dX7_fewestNights_4 (by decide) (s_iload_n dX7_fewestNights_5 1 rfl (n_invV' (as := [(0, (-1)), (0, S)]) dX7_fewestNights_6 kv_X7_next ml_X7_54 (c_X_stNext (-1) S w (by omega) hn9 (by omega) hc9 hnx_6) (by decide) 88 cf_X7 rfl sh_88 rfl rfl rfl (Nat.le_of_ble_eq_true rfl) ?_))))))
  rintro r_6 w_6 ⟨z_6, rfl, hw_6, hz_6⟩
  rw [hw_6]
  show AtN _ _ ρ _ _ [(0, z_6), (0, S), (0, (-1)), (2, 88)] w
  have hzb : z_6 = (b : Int) := hz_6.trans b2
  have hfb := hnx_6 (b : Int) (by omega) (by omega) b4
  rw [← hzb] at hfb b5
  have hb5 : afT w (-1) S z_6 = VS (gX u) (u 88 2) (-1) (mbP S) := b5
  refine n_invV (as := [(0, (-1)), (0, S), (0, z_6)]) dX7_fewestNights_9 kv_X7_after ml_X7_62 (c_X_stAfter (-1) S z_6 w (by omega) (by omega) (by omega) hc9 hfb) (by decide) 88 cf_X7 rfl sh_88 rfl rfl rfl (Nat.le_of_ble_eq_true rfl) (s_istore_n (ls' := [(0, (2, 88)), (1, (0, S)), (2, (0, (afT w (-1) S z_6)))]) dX7_fewestNights_12 (Nat.le_of_ble_eq_true rfl) rfl (s_iconst dX7_fewestNights_13 (by decide) (s_istore_n (ls' := [(0, (2, 88)), (1, (0, S)), (2, (0, (afT w (-1) S z_6))), (3, (0, 0))]) dX7_fewestNights_14 (Nat.le_of_ble_eq_true rfl) rfl ?_)))
  exact L_15 _ (afT w (-1) S z_6) 0 (by omega) (by rw [hb5]; exact (Int.add_zero _).symm) (Nat.lt_succ_self _)

set_option maxRecDepth 100000 in
theorem c_X_stOrder (S q : Int) (w : Wd) (hn : 0 ≤ w 88 2 ∧ w 88 2 ≤ 9) (hc : ∀ a b, 0 ≤ a → a < 9 → 0 ≤ b → b < 9 → 0 ≤ w (91 + Int.toNat a) b ∧ w (91 + Int.toNat a) b ≤ 9) (hN : ∀ j, 0 ≤ j → j < w 88 2 → 0 ≤ w 89 j ∧ w 89 j ≤ 20) : CallN 4 mX7_order [(2, 88), (0, S), (0, q)] w (RQ (fun z w1 => (∀ c, c ≠ 100 → w1 c = w c) ∧ z = stV (gX w) (w 89) (w 88 2) S q)) := by
  refine CallN.intro (by decide +kernel) (Nat.le_of_ble_eq_true rfl) (fun ρ hR => ?_)
  show AtN mX7_order 4 ρ 0 [(0, (2, 88)), (1, (0, S)), (2, (0, q))] [] w
  have qb := ishl1_bd hn.1 (show w 88 2 ≤ 16 by omega)
  have qp := ishl1_pow hn.1 (show w 88 2 ≤ 16 by omega)
  have hcs : 1 ≤ S → S ≤ ishl 1 (w 88 2) - 1 → ((cdP (mbP S) (w 88 2).toNat : Nat) : Int) = ppI S := fun a b => cd_pp (by omega) (by omega) hn.1 (by rw [← qp]; omega)
  have hpw : ((2 ^ (w 88 2).toNat : Nat) : Int) = 2 ^ (w 88 2).toNat := by simp
  have hpw2 : 2 ^ (w 88 2).toNat ≤ 2 ^ 9 := Nat.pow_le_pow_right (by omega) (by omega)
  have hS5 : ishl 1 (w 88 2) ≤ 512 := by omega
  clear hpw hpw2
  have hpb := ppI_bd S
  have L_53 : ∀ (fu : Nat) (m : Int) (L : Int) (i : Int) (v9 : Wd), (1 ≤ S ∧ S ≤ ishl 1 (w 88 2) - 1) ∧ (0 ≤ q ∧ q ≤ ppI S) ∧ q ≠ 0 → 0 ≤ i ∧ i ≤ q → (∀ c, c ≠ 100 → v9 c = w c) → TBX w v9 S (S + 1) → m = (sqV (cSt (gX w)) tJ (w 88 2).toNat (-1) (mbP S) i.toNat).1 → m = (sqV (cSt (gX w)) tJ (w 88 2).toNat (-1) (mbP S) i.toNat).2.1 → mbP L = (sqV (cSt (gX w)) tJ (w 88 2).toNat (-1) (mbP S) i.toNat).2.2 → 0 ≤ L ∧ L ≤ S → iand L S = L → -1 ≤ m ∧ m < 9 → (q - i).toNat < fu → AtN mX7_order 4 ρ 53 [(0, (2, 88)), (1, (0, S)), (2, (0, q)), (3, (0, m)), (4, (0, L)), (5, (0, i))] [] v9 := by
    intro fu
    induction fu with
    | zero => intro m L i v9 hok hi hw hT h1 h2 h3 hL hs hm hm; exact absurd hm (Nat.not_lt_zero _)
    | succ fu ih =>
      intro m L i v9 hok hi hw hT h1 h2 h3 hL hs hm hm
      have q2 : v9 88 2 = w 88 2 := by rw [hw 88 (by decide)]
      have hn9 : 0 ≤ v9 88 2 ∧ v9 88 2 ≤ 9 := by rw [q2]; exact hn
      have hc9 : ∀ a b, 0 ≤ a → a < 9 → 0 ≤ b → b < 9 → 0 ≤ v9 (91 + Int.toNat a) b ∧ v9 (91 + Int.toNat a) b ≤ 9 := fun a b a1 a2 a3 a4 => by rw [hw (91 + a.toNat) (by omega)]; exact hc a b a1 a2 a3 a4
      have hS2 : S < 2 ^ (w 88 2).toNat := by rw [← qp]; omega
      have hcs2 := hcs hok.1.1 hok.1.2
      refine s_iload dX7_order_53 5 rfl (s_iload_n dX7_order_55 2 rfl (s_icmp_ge 83 dX7_order_56 (by decide) (fun c_56 => ?_) (fun c_56 => ?_)))
      · skip
        refine s_iload_n dX7_order_83 3 rfl (n_iret dX7_order_84 hR rfl ?_)
        have e9 : i = q := by omega
        rw [e9] at h1
        refine ⟨_, rfl, hw, ?_⟩
        unfold stV
        rw [if_pos (by omega), if_neg (show ¬ q = 0 by omega)]
        exact h1
      · skip
        have hcd := sqV_cd (c := cSt (gX w)) (t := tJ) (n := (w 88 2).toNat) (i := -1) (P := mbP S) i.toNat (by omega)
        rw [← h3] at hcd
        have hLp : 1 ≤ L := by
          rcases (show L = 0 ∨ 1 ≤ L from by omega) with e | e
          · have h0 : cdP (mbP L) (w 88 2).toNat = 0 := (cdP_0 _).mpr (fun k _ => by rw [e]; exact Nat.zero_testBit k)
            omega
          · exact e
        obtain ⟨hnx_63, b, b1, b2, b3, b4, b5⟩ := stX_nx (i := m) hn hc hw hT ⟨by omega, hS2⟩ ⟨hLp, by omega⟩ hs (by omega)
        rw [← q2] at hnx_63
        refine s_aload_n dX7_order_59 0 rfl rfl (s_iload_n dX7_order_60 3 rfl (s_iload dX7_order_61 4 rfl (n_invV' (as := [(0, m), (0, L)]) dX7_order_63 kv_X7_next ml_X7_54 (c_X_stNext m L v9 (by omega) hn9 (by omega) hc9 hnx_63) (by decide) 88 cf_X7 rfl sh_88 rfl rfl rfl (Nat.le_of_ble_eq_true rfl) ?_)))
        rintro r_63 w_63 ⟨z_63, rfl, hw_63, hz_63⟩
        rw [hw_63]
        show AtN _ _ ρ _ _ [(0, z_63)] v9
        rw [q2] at hz_63
        have hzb : z_63 = (b : Int) := hz_63.trans b2
        refine s_istore_n (ls' := [(0, (2, 88)), (1, (0, S)), (2, (0, q)), (3, (0, z_63)), (4, (0, L)), (5, (0, i))]) dX7_order_66 (Nat.le_of_ble_eq_true rfl) rfl (s_iload dX7_order_67 4 rfl (s_iconst dX7_order_69 (by decide) (s_iload_n dX7_order_70 3 rfl (s_ishl dX7_order_71 (s_iconst dX7_order_72 (by decide) (s_ixor dX7_order_73 (s_iand dX7_order_74 (s_istore (ls' := [(0, (2, 88)), (1, (0, S)), (2, (0, q)), (3, (0, z_63)), (4, (0, (iand L (ixor (ishl 1 z_63) (-1))))), (5, (0, i))]) dX7_order_75 (Nat.le_of_ble_eq_true rfl) rfl ?_))))))))
        obtain ⟨l0, el, hle, hmb, hlt⟩ := mbP_clr (s := L) (j := z_63) (by omega) (by omega) (by omega) (by omega)
        obtain ⟨l9, e9⟩ : ∃ l9 : Int, l9 = (l0 : Int) := ⟨_, rfl⟩
        rw [← e9] at el hle hmb hlt
        rw [el]
        have hsl : iand l9 S = l9 := (iand_subI ⟨by omega, by omega⟩ ⟨by omega, by omega⟩).mpr (fun j hj => (iand_subI ⟨by omega, by omega⟩ ⟨by omega, by omega⟩).mp hs j (by rw [hmb] at hj; exact (rmP_t.mp hj).1))
        refine s_iinc (z := (i + 1)) (ls' := [(0, (2, 88)), (1, (0, S)), (2, (0, q)), (3, (0, z_63)), (4, (0, l9)), (5, (0, (i + 1)))]) dX7_order_77 5 rfl (Nat.le_of_ble_eq_true rfl) (wr_id (by omega) (by omega)) rfl (s_goto 53 dX7_order_80 (by decide) ?_)
        exact ih z_63 l9 (i + 1) v9 (by omega) (by omega) hw hT (by rw [toN_s hi.1, sqV, ← h2, ← h3]; exact (hzb.trans b1.symm)) (by rw [toN_s hi.1, sqV, ← h2, ← h3, b1]; exact hzb) (by rw [toN_s hi.1, sqV, ← h2, ← h3, b1, hmb, hzb] <;> rfl) (by omega) hsl (by omega) (by omega)
  refine s_iload_n dX7_order_0 1 rfl (s_iconst dX7_order_1 (by decide) (s_iconst dX7_order_2 (by decide) (s_aload_n dX7_order_3 0 rfl rfl (n_getf 88 2 0 dX7_order_4 cf_X7 ff_X7_33 rfl sh_88 rfl (by decide) (v := (w 88 2)) rfl (s_ishl dX7_order_7 (s_iconst dX7_order_8 (by decide) (n_sub (z := ((ishl 1 (w 88 2)) - 1)) dX7_order_9 (wr_id (by omega) (by omega)) (n_invT (as := [(0, S), (0, 1), (0, ((ishl 1 (w 88 2)) - 1))]) dX7_order_10 kv_X11_within ml_X7_29 (c_within S 1 ((ishl 1 (w 88 2)) - 1) w) (by decide) rfl rfl (Nat.le_of_ble_eq_true rfl) (n_ifeq_b 28 dX7_order_13 (by decide) (fun c_13 => ?_) (fun c_13 => ?_))))))))))
  · skip
    refine s_iconst dX7_order_28 (by decide) (n_iret dX7_order_29 hR rfl ?_)
    exact ⟨_, rfl, fun _ _ => rfl, (if_neg (by omega)).symm⟩
  · skip
    refine s_iload_n dX7_order_16 2 rfl (s_iconst dX7_order_17 (by decide) (s_iload_n dX7_order_18 1 rfl (n_invS (as := [(0, S)]) dX7_order_19 kv_J6_bitCount_0f7a4 ml_X7_41 (j_bits S w (by omega) (by omega)) (by decide) rfl rfl (Nat.le_of_ble_eq_true rfl) (n_invT (as := [(0, q), (0, 0), (0, (ppI S))]) dX7_order_22 kv_X11_within ml_X7_29 (c_within q 0 (ppI S) w) (by decide) rfl rfl (Nat.le_of_ble_eq_true rfl) (n_ifne_b 30 dX7_order_25 (by decide) (fun c_25 => ?_) (fun c_25 => ?_))))))
    · skip
      have hS2 : S < 2 ^ (w 88 2).toNat := by rw [← qp]; omega
      have hcs2 := hcs (by omega) (by omega)
      refine s_aload_n dX7_order_30 0 rfl rfl (s_iload_n dX7_order_31 1 rfl (n_invV' (as := [(0, S)]) dX7_order_32 kv_X7_fill ml_X7_47 (c_X_stFill S w hn hc (by omega) hS2) (by decide) 88 cf_X7 rfl sh_88 rfl rfl rfl (Nat.le_of_ble_eq_true rfl) ?_))
      rintro r_32 w_32 ⟨rfl, hw, hT⟩
      have q2 : w_32 88 2 = w 88 2 := by rw [hw 88 (by decide)]
      have hn9 : 0 ≤ w_32 88 2 ∧ w_32 88 2 ≤ 9 := by rw [q2]; exact hn
      have hc9 : ∀ a b, 0 ≤ a → a < 9 → 0 ≤ b → b < 9 → 0 ≤ w_32 (91 + Int.toNat a) b ∧ w_32 (91 + Int.toNat a) b ≤ 9 := fun a b a1 a2 a3 a4 => by rw [hw (91 + a.toNat) (by omega)]; exact hc a b a1 a2 a3 a4
      have hS3 : S < 2 ^ (w_32 88 2).toNat := by rw [q2]; exact hS2
      have hN9 : ∀ j, 0 ≤ j → j < w_32 88 2 → 0 ≤ w_32 89 j ∧ w_32 89 j ≤ 20 := fun j a b => by rw [hw 89 (by decide)]; exact hN j a (by omega)
      refine s_iload_n dX7_order_35 2 rfl (s_if_ne 45 dX7_order_36 (by decide) (fun c_36 => ?_) (fun c_36 => ?_))
      · skip
        refine s_iconst dX7_order_45 (by decide) (s_istore_n (ls' := [(0, (2, 88)), (1, (0, S)), (2, (0, q)), (3, (0, (-1)))]) dX7_order_46 (Nat.le_of_ble_eq_true rfl) rfl (s_iload_n dX7_order_47 1 rfl (s_istore (ls' := [(0, (2, 88)), (1, (0, S)), (2, (0, q)), (3, (0, (-1))), (4, (0, S))]) dX7_order_48 (Nat.le_of_ble_eq_true rfl) rfl (s_iconst dX7_order_50 (by decide) (s_istore (ls' := [(0, (2, 88)), (1, (0, S)), (2, (0, q)), (3, (0, (-1))), (4, (0, S)), (5, (0, 0))]) dX7_order_51 (Nat.le_of_ble_eq_true rfl) rfl ?_)))))
        exact L_53 _ (-1) S 0 w_32 (by omega) (by omega) hw hT rfl rfl rfl (by omega) ((iand_subI ⟨by omega, by omega⟩ ⟨by omega, by omega⟩).mpr (fun _ h => h)) (by omega) (Nat.lt_succ_self _)
      · skip
        refine s_aload_n dX7_order_39 0 rfl rfl (s_iload_n dX7_order_40 1 rfl (n_invV (as := [(0, S)]) dX7_order_41 kv_X7_fewestNights ml_X7_51 (c_X_stNights S w_32 hn9 hc9 (by omega) hS3 hN9 w hw hT hn hc) (by decide) 88 cf_X7 rfl sh_88 rfl rfl rfl (Nat.le_of_ble_eq_true rfl) (n_iret dX7_order_44 hR rfl ?_)))
        refine ⟨_, rfl, hw, ?_⟩
        unfold stV
        rw [if_pos (by omega), if_pos (show q = 0 by omega), hw 89 (by decide), q2]
    · skip
      refine s_iconst dX7_order_28 (by decide) (n_iret dX7_order_29 hR rfl ?_)
      exact ⟨_, rfl, fun _ _ => rfl, (if_neg (by omega)).symm⟩

set_option maxRecDepth 100000 in
theorem x_stage (S q : Int) (w : Wd) (hn : 0 ≤ w 88 2 ∧ w 88 2 ≤ 9) (hc : ∀ a b, 0 ≤ a → a < 9 → 0 ≤ b → b < 9 → 0 ≤ w (91 + Int.toNat a) b ∧ w (91 + Int.toNat a) b ≤ 9) (hN : ∀ j, 0 ≤ j → j < w 88 2 → 0 ≤ w 89 j ∧ w 89 j ≤ 20) : CallN 5 mX11_stage [(2, 0), (0, S), (0, q)] w (RQ (fun z w1 => (∀ c, c ≠ 100 → w1 c = w c) ∧ z = stV (gX w) (w 89) (w 88 2) S q)) := by
  refine CallN.intro (by decide +kernel) (Nat.le_of_ble_eq_true rfl) (fun ρ hR => ?_)
  show AtN mX11_stage 5 ρ 0 [(0, (2, 0)), (1, (0, S)), (2, (0, q))] [] w
  refine s_aload_n dX11_stage_0 0 rfl rfl (n_getc (q := 88) 0 6 98 dX11_stage_1 cf_X11 ff_X11_60 rfl sh_0 rfl (by decide) rfl (by decide) (s_iload_n dX11_stage_4 1 rfl (s_iload_n dX11_stage_5 2 rfl (n_invV' (as := [(0, S), (0, q)]) dX11_stage_6 kv_X7_order ml_X11_243 (c_X_stOrder S q w hn hc hN) (by decide) 88 cf_X7 rfl sh_88 rfl rfl rfl (Nat.le_of_ble_eq_true rfl) ?_))))
  rintro r_6 w_6 ⟨z_6, rfl, hz_6⟩
  show AtN _ _ ρ _ _ [(0, z_6)] w_6
  refine n_iret dX11_stage_9 hR rfl ?_
  exact ⟨_, rfl, hz_6⟩
