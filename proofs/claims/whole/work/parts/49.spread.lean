/-! SPREAD, the class. -/
def clV (x : Int) : Int := mxL (-3) (mnL 3 x)
def likX (w : Wd) (c h : Int) : Int := if w 4 (w 7 (w 25 h)) = w 62 c ∧ w 83 h = 0 then 1 else -1
/-- what crowd o thinks of picture j behind the word of some of crowd c about hall h -/
def spV (w : Wd) (c h o j : Int) : Int := if (0 ≤ w 25 h ∧ w 25 h < w 1 9) ∧ (o < w 59 9 ∧ w 61 o = w 61 c ∧ j = w 7 (w 25 h)) then clV (w (66 + Int.toNat o) j + likX w c h) else w (66 + Int.toNat o) j

def spW (w : Wd) (c h i o j : Int) : Int := if o < i ∧ w 61 o = w 61 c ∧ j = w 7 (w 25 h) then clV (w (66 + Int.toNat o) j + likX w c h) else w (66 + Int.toNat o) j
set_option maxRecDepth 100000 in
set_option maxHeartbeats 2000000 in
theorem c_X_spread (c h : Int) (w : Wd) (hc : 0 ≤ c ∧ c < 16) (hh : 0 ≤ h ∧ h < 16) (hn1 : w 1 9 ≤ 30) (hcr : 0 ≤ w 59 9 ∧ w 59 9 ≤ 16) (hpi : ∀ j, 0 ≤ j → j < w 1 9 → 0 ≤ w 7 j ∧ w 7 j < 12) (hhd : ∀ o, 0 ≤ o → o < w 59 9 → ∀ j, 0 ≤ j → j < 12 → -3 ≤ w (66 + Int.toNat o) j ∧ w (66 + Int.toNat o) j ≤ 3) (h01 : w 83 h = 0 ∨ w 83 h = 1) : CallN 2 mX0_spread [(2, 59), (0, c), (0, h)] w (RUQ (fun w1 => (∀ k, ¬ (66 ≤ k ∧ k < 82) → w1 k = w k) ∧ ∀ o j, 0 ≤ o → o < 16 → w1 (66 + Int.toNat o) j = spV w c h o j)) := by
  refine CallN.intro (by decide +kernel) (Nat.le_of_ble_eq_true rfl) (fun ρ hR => ?_)
  show AtN mX0_spread 2 ρ 0 [(0, (2, 59)), (1, (0, c)), (2, (0, h))] [] w
  have L_71 : ∀ (fu : Nat) (lk : Int) (i : Int) (v9 : Wd), 0 ≤ w 25 h ∧ w 25 h < w 1 9 → (if lk = 0 then (-1 : Int) else 1) = likX w c h → 0 ≤ i ∧ i ≤ w 59 9 → (∀ k, ¬ (66 ≤ k ∧ k < 82) → v9 k = w k) → (∀ o j, 0 ≤ o → o < 16 → v9 (66 + Int.toNat o) j = spW w c h i o j) → (w 59 9 - i).toNat < fu → AtN mX0_spread 2 ρ 71 [(0, (2, 59)), (1, (0, c)), (2, (0, h)), (3, (0, (w 25 h))), (4, (0, (w 7 (w 25 h)))), (5, (0, lk)), (6, (0, i))] [] v9 := by
    intro fu
    induction fu with
    | zero => intro lk i v9 hpr hlk hi hf9 hS hm; exact absurd hm (Nat.not_lt_zero _)
    | succ fu ih =>
      intro lk i v9 hpr hlk hi hf9 hS hm
      have q59 : v9 59 9 = w 59 9 := by rw [hf9 59 (by omega)]
      have q61 : v9 61 = w 61 := hf9 61 (by omega)
      have hpp := hpi (w 25 h) hpr.1 hpr.2
      refine s_iload dX0_spread_71 6 rfl (s_aload_n dX0_spread_73 0 rfl rfl (n_getf 59 9 0 dX0_spread_74 cf_X0 ff_X0_67 rfl sh_59 rfl (by decide) (v := (v9 59 9)) rfl (s_icmp_ge 146 dX0_spread_77 (by decide) (fun c_77 => ?_) (fun c_77 => ?_))))
      · skip
        refine n_ret dX0_spread_146 hR rfl ?_
        have e9 : i = w 59 9 := by omega
        rw [e9] at hS
        refine ⟨rfl, hf9, fun o j a b => ?_⟩
        rw [hS o j a b]
        unfold spW spV
        by_cases e3 : (o < w 59 9 ∧ w 61 o = w 61 c ∧ j = w 7 (w 25 h))
        · rw [if_pos e3, if_pos ⟨hpr, e3⟩]
        · rw [if_neg e3, if_neg (fun z => e3 z.2)]
      · skip
        have e61 : v9 61 i = w 61 i := by rw [q61]
        have e61c : v9 61 c = w 61 c := by rw [q61]
        have hv9 : v9 (66 + Int.toNat i) (w 7 (w 25 h)) = w (66 + Int.toNat i) (w 7 (w 25 h)) := by
          rw [hS i _ hi.1 (by omega)]
          exact if_neg (by omega)
        have hhh := hhd i hi.1 (by omega) (w 7 (w 25 h)) (by omega) (by omega)
        refine s_aload_n dX0_spread_80 0 rfl rfl (n_getc (q := 61) 59 4 71 dX0_spread_81 cf_X0 ff_X0_15 rfl sh_59 rfl (by decide) rfl (by decide) (s_iload dX0_spread_84 6 rfl (n_iald 61 dX0_spread_86 rfl sh_61 (by decide) ⟨(by omega), (by omega)⟩ (v := (v9 61 i)) rfl (s_aload_n dX0_spread_87 0 rfl rfl (n_getc (q := 61) 59 4 71 dX0_spread_88 cf_X0 ff_X0_15 rfl sh_59 rfl (by decide) rfl (by decide) (s_iload_n dX0_spread_91 1 rfl (n_iald 61 dX0_spread_92 rfl sh_61 (by decide) ⟨(by omega), (by omega)⟩ (v := (v9 61 c)) rfl (s_icmp_ne 140 dX0_spread_93 (by decide) (fun c_93 => ?_) (fun c_93 => ?_)))))))))
        · skip
          refine s_iinc (z := (i + 1)) (ls' := [(0, (2, 59)), (1, (0, c)), (2, (0, h)), (3, (0, (w 25 h))), (4, (0, (w 7 (w 25 h)))), (5, (0, lk)), (6, (0, (i + 1)))]) dX0_spread_140 6 rfl (Nat.le_of_ble_eq_true rfl) (wr_id (by omega) (by omega)) rfl (s_goto 71 dX0_spread_143 (by decide) ?_)
          exact ih lk (i + 1) v9 (by omega) hlk (by omega) hf9 (fun o j o0 o1 => by
  rw [hS o j o0 o1]
  unfold spW
  by_cases e : o = i
  · subst e
    rw [if_neg (by omega), if_neg (by omega)]
  · by_cases e2 : o < i
    · first | (rw [if_pos (by omega), if_pos (by omega)]; done) | (by_cases e3 : (o < i ∧ w 61 o = w 61 c ∧ j = w 7 (w 25 h)); (rw [if_pos e3, if_pos ⟨by omega, e3.2⟩]); (rw [if_neg e3, if_neg (fun z => e3 ⟨e2, z.2⟩)]))
    · rw [if_neg (by omega), if_neg (by omega)]) (by omega)
        · skip
          refine s_aload_n dX0_spread_96 0 rfl rfl (n_getc (q := 65) 59 8 75 dX0_spread_97 cf_X0 ff_X0_29 rfl sh_59 rfl (by decide) rfl (by decide) (s_iload dX0_spread_100 6 rfl (s_aaload6 65 dX0_spread_102 rfl sh_65 (by decide) ⟨(by omega), (by omega)⟩ (s_iload dX0_spread_103 4 rfl (n_iald (66 + Int.toNat i) dX0_spread_105 rfl (rowsh_66 _ (by omega)) (by decide) ⟨(by omega), (by omega)⟩ (v := (v9 (66 + Int.toNat i) (w 7 (w 25 h)))) rfl (s_iload dX0_spread_106 5 rfl (s_if_eq 115 dX0_spread_108 (by decide) (fun c_108 => ?_) (fun c_108 => ?_))))))))
          · skip
            refine s_iconst dX0_spread_115 (by decide) (n_add (z := ((v9 (66 + Int.toNat i) (w 7 (w 25 h))) + (-1))) dX0_spread_116 (wr_id (by omega) (by omega)) (s_istore (ls' := [(0, (2, 59)), (1, (0, c)), (2, (0, h)), (3, (0, (w 25 h))), (4, (0, (w 7 (w 25 h)))), (5, (0, lk)), (6, (0, i)), (7, (0, ((v9 (66 + Int.toNat i) (w 7 (w 25 h))) + (-1))))]) dX0_spread_117 (Nat.le_of_ble_eq_true rfl) rfl (s_aload_n dX0_spread_119 0 rfl rfl (n_getc (q := 65) 59 8 75 dX0_spread_120 cf_X0 ff_X0_29 rfl sh_59 rfl (by decide) rfl (by decide) (s_iload dX0_spread_123 6 rfl (s_aaload6 65 dX0_spread_125 rfl sh_65 (by decide) ⟨(by omega), (by omega)⟩ (s_iload dX0_spread_126 4 rfl (s_bipush dX0_spread_128 (by decide) (s_iconst dX0_spread_130 (by decide) ?_)))))))))
            refine s_iload dX0_spread_131 7 rfl (n_invS (as := [(0, 3), (0, ((v9 (66 + Int.toNat i) (w 7 (w 25 h))) + (-1)))]) dX0_spread_133 kv_J9_min_7cf53 ml_X0_138 (j_minI 3 ((v9 (66 + Int.toNat i) (w 7 (w 25 h))) + (-1)) v9) (by decide) rfl rfl (Nat.le_of_ble_eq_true rfl) (n_invS (as := [(0, (-3)), (0, (mnL 3 ((v9 (66 + Int.toNat i) (w 7 (w 25 h))) + (-1))))]) dX0_spread_136 kv_J9_max_7cf53 ml_X0_171 (j_maxI (-3) (mnL 3 ((v9 (66 + Int.toNat i) (w 7 (w 25 h))) + (-1))) v9) (by decide) rfl rfl (Nat.le_of_ble_eq_true rfl) ?_))
            have hvv : (mxL (-3) (mnL 3 ((v9 (66 + Int.toNat i) (w 7 (w 25 h))) + (-1)))) = clV (w (66 + Int.toNat i) (w 7 (w 25 h)) + likX w c h) := by
              rw [← hlk, ← hv9]
              unfold clV
              first
              | (rw [if_pos (show lk = 0 by omega)])
              | (rw [if_neg (show ¬ lk = 0 by omega)])
            refine s_iastore (66 + Int.toNat i) dX0_spread_139 rfl (rowsh_66 _ (by omega)) (by decide) ⟨(by omega), (by omega)⟩ (s_iinc (z := (i + 1)) (ls' := [(0, (2, 59)), (1, (0, c)), (2, (0, h)), (3, (0, (w 25 h))), (4, (0, (w 7 (w 25 h)))), (5, (0, lk)), (6, (0, (i + 1))), (7, (0, ((v9 (66 + Int.toNat i) (w 7 (w 25 h))) + (-1))))]) dX0_spread_140 6 rfl (Nat.le_of_ble_eq_true rfl) (wr_id (by omega) (by omega)) rfl (s_goto 71 dX0_spread_143 (by decide) ?_))
            exact At.keep (ls' := [(0, (2, 59)), (1, (0, c)), (2, (0, h)), (3, (0, (w 25 h))), (4, (0, (w 7 (w 25 h)))), (5, (0, lk)), (6, (0, (i + 1)))]) [0, 1, 2, 3, 4, 5, 6] rfl (ih lk (i + 1) (wu v9 (66 + Int.toNat i) (w 7 (w 25 h)) (mxL (-3) (mnL 3 ((v9 (66 + Int.toNat i) (w 7 (w 25 h))) + (-1))))) (by omega) hlk (by omega) (fun k hk => by rw [wu_ne (by omega)]; exact hf9 k hk) (fun o j o0 o1 => by
  unfold spW
  by_cases e : o = i
  · subst e
    rw [wu_at]
    by_cases e2 : j = w 7 (w 25 h)
    · rw [if_pos e2, if_pos ⟨by omega, by omega, e2⟩, hvv, e2]
    · rw [if_neg e2, if_neg (fun z => e2 z.2.2), hS o j o0 o1]
      unfold spW
      rw [if_neg (by omega)]
  · rw [wu_ne (by omega), hS o j o0 o1]
    unfold spW
    by_cases e3 : (o < i ∧ w 61 o = w 61 c ∧ j = w 7 (w 25 h))
    · rw [if_pos e3, if_pos ⟨by omega, e3.2⟩]
    · rw [if_neg e3, if_neg (fun z => e3 ⟨by omega, z.2⟩)]) (by omega))
          · skip
            refine s_iconst dX0_spread_111 (by decide) (s_goto 116 dX0_spread_112 (by decide) (n_add (z := ((v9 (66 + Int.toNat i) (w 7 (w 25 h))) + 1)) dX0_spread_116 (wr_id (by omega) (by omega)) (s_istore (ls' := [(0, (2, 59)), (1, (0, c)), (2, (0, h)), (3, (0, (w 25 h))), (4, (0, (w 7 (w 25 h)))), (5, (0, lk)), (6, (0, i)), (7, (0, ((v9 (66 + Int.toNat i) (w 7 (w 25 h))) + 1)))]) dX0_spread_117 (Nat.le_of_ble_eq_true rfl) rfl (s_aload_n dX0_spread_119 0 rfl rfl (n_getc (q := 65) 59 8 75 dX0_spread_120 cf_X0 ff_X0_29 rfl sh_59 rfl (by decide) rfl (by decide) (s_iload dX0_spread_123 6 rfl (s_aaload6 65 dX0_spread_125 rfl sh_65 (by decide) ⟨(by omega), (by omega)⟩ (s_iload dX0_spread_126 4 rfl (s_bipush dX0_spread_128 (by decide) ?_)))))))))
            refine s_iconst dX0_spread_130 (by decide) (s_iload dX0_spread_131 7 rfl (n_invS (as := [(0, 3), (0, ((v9 (66 + Int.toNat i) (w 7 (w 25 h))) + 1))]) dX0_spread_133 kv_J9_min_7cf53 ml_X0_138 (j_minI 3 ((v9 (66 + Int.toNat i) (w 7 (w 25 h))) + 1) v9) (by decide) rfl rfl (Nat.le_of_ble_eq_true rfl) (n_invS (as := [(0, (-3)), (0, (mnL 3 ((v9 (66 + Int.toNat i) (w 7 (w 25 h))) + 1)))]) dX0_spread_136 kv_J9_max_7cf53 ml_X0_171 (j_maxI (-3) (mnL 3 ((v9 (66 + Int.toNat i) (w 7 (w 25 h))) + 1)) v9) (by decide) rfl rfl (Nat.le_of_ble_eq_true rfl) ?_)))
            have hvv : (mxL (-3) (mnL 3 ((v9 (66 + Int.toNat i) (w 7 (w 25 h))) + 1))) = clV (w (66 + Int.toNat i) (w 7 (w 25 h)) + likX w c h) := by
              rw [← hlk, ← hv9]
              unfold clV
              first
              | (rw [if_pos (show lk = 0 by omega)])
              | (rw [if_neg (show ¬ lk = 0 by omega)])
            refine s_iastore (66 + Int.toNat i) dX0_spread_139 rfl (rowsh_66 _ (by omega)) (by decide) ⟨(by omega), (by omega)⟩ (s_iinc (z := (i + 1)) (ls' := [(0, (2, 59)), (1, (0, c)), (2, (0, h)), (3, (0, (w 25 h))), (4, (0, (w 7 (w 25 h)))), (5, (0, lk)), (6, (0, (i + 1))), (7, (0, ((v9 (66 + Int.toNat i) (w 7 (w 25 h))) + 1)))]) dX0_spread_140 6 rfl (Nat.le_of_ble_eq_true rfl) (wr_id (by omega) (by omega)) rfl (s_goto 71 dX0_spread_143 (by decide) ?_))
            exact At.keep (ls' := [(0, (2, 59)), (1, (0, c)), (2, (0, h)), (3, (0, (w 25 h))), (4, (0, (w 7 (w 25 h)))), (5, (0, lk)), (6, (0, (i + 1)))]) [0, 1, 2, 3, 4, 5, 6] rfl (ih lk (i + 1) (wu v9 (66 + Int.toNat i) (w 7 (w 25 h)) (mxL (-3) (mnL 3 ((v9 (66 + Int.toNat i) (w 7 (w 25 h))) + 1)))) (by omega) hlk (by omega) (fun k hk => by rw [wu_ne (by omega)]; exact hf9 k hk) (fun o j o0 o1 => by
  unfold spW
  by_cases e : o = i
  · subst e
    rw [wu_at]
    by_cases e2 : j = w 7 (w 25 h)
    · rw [if_pos e2, if_pos ⟨by omega, by omega, e2⟩, hvv, e2]
    · rw [if_neg e2, if_neg (fun z => e2 z.2.2), hS o j o0 o1]
      unfold spW
      rw [if_neg (by omega)]
  · rw [wu_ne (by omega), hS o j o0 o1]
    unfold spW
    by_cases e3 : (o < i ∧ w 61 o = w 61 c ∧ j = w 7 (w 25 h))
    · rw [if_pos e3, if_pos ⟨by omega, e3.2⟩]
    · rw [if_neg e3, if_neg (fun z => e3 ⟨by omega, z.2⟩)]) (by omega))
  refine s_aload_n dX0_spread_0 0 rfl rfl (n_getc (q := 15) 59 1 25 dX0_spread_1 cf_X0 ff_X0_55 rfl sh_59 rfl (by decide) rfl (by decide) (n_getc (q := 25) 15 9 35 dX0_spread_4 cf_X3 ff_X0_71 rfl sh_15 rfl (by decide) rfl (by decide) (s_iload_n dX0_spread_7 2 rfl (n_iald 25 dX0_spread_8 rfl sh_25 (by decide) ⟨(by omega), (by omega)⟩ (v := (w 25 h)) rfl (s_istore_n (ls' := [(0, (2, 59)), (1, (0, c)), (2, (0, h)), (3, (0, (w 25 h)))]) dX0_spread_9 (Nat.le_of_ble_eq_true rfl) rfl (s_aload_n dX0_spread_10 0 rfl rfl (n_getc (q := 1) 59 0 11 dX0_spread_11 cf_X0 ff_X0_51 rfl sh_59 rfl (by decide) rfl (by decide) (s_iload_n dX0_spread_14 3 rfl (n_invV (as := [(0, (w 25 h))]) dX0_spread_15 kv_X5_hasPrint ml_X0_76 (c_X_hasPrint (w 25 h) w) (by decide) 1 cf_X5 rfl sh_1 rfl rfl rfl (Nat.le_of_ble_eq_true rfl) ?_)))))))))
  refine n_ifne_b 22 dX0_spread_18 (by decide) (fun c_18 => ?_) (fun c_18 => ?_)
  · skip
    have hpp := hpi (w 25 h) (by omega) (by omega)
    refine s_aload_n dX0_spread_22 0 rfl rfl (n_getc (q := 1) 59 0 11 dX0_spread_23 cf_X0 ff_X0_51 rfl sh_59 rfl (by decide) rfl (by decide) (n_getc (q := 7) 1 6 17 dX0_spread_26 cf_X5 ff_X0_103 rfl sh_1 rfl (by decide) rfl (by decide) (s_iload_n dX0_spread_29 3 rfl (n_iald 7 dX0_spread_30 rfl sh_7 (by decide) ⟨(by omega), (by omega)⟩ (v := (w 7 (w 25 h))) rfl (s_istore (ls' := [(0, (2, 59)), (1, (0, c)), (2, (0, h)), (3, (0, (w 25 h))), (4, (0, (w 7 (w 25 h))))]) dX0_spread_31 (Nat.le_of_ble_eq_true rfl) rfl (s_aload_n dX0_spread_33 0 rfl rfl (n_getc (q := 1) 59 0 11 dX0_spread_34 cf_X0 ff_X0_51 rfl sh_59 rfl (by decide) rfl (by decide) (n_getc (q := 4) 1 2 14 dX0_spread_37 cf_X5 ff_X0_107 rfl sh_1 rfl (by decide) rfl (by decide) (s_iload dX0_spread_40 4 rfl ?_)))))))))
    refine n_iald 4 dX0_spread_42 rfl sh_4 (by decide) ⟨(by omega), (by omega)⟩ (v := (w 4 (w 7 (w 25 h)))) rfl (s_aload_n dX0_spread_43 0 rfl rfl (n_getc (q := 62) 59 5 72 dX0_spread_44 cf_X0 ff_X0_18 rfl sh_59 rfl (by decide) rfl (by decide) (s_iload_n dX0_spread_47 1 rfl (n_iald 62 dX0_spread_48 rfl sh_62 (by decide) ⟨(by omega), (by omega)⟩ (v := (w 62 c)) rfl (s_icmp_ne 65 dX0_spread_49 (by decide) (fun c_49 => ?_) (fun c_49 => ?_))))))
    · skip
      refine s_iconst dX0_spread_65 (by decide) (s_istore (ls' := [(0, (2, 59)), (1, (0, c)), (2, (0, h)), (3, (0, (w 25 h))), (4, (0, (w 7 (w 25 h)))), (5, (0, 0))]) dX0_spread_66 (Nat.le_of_ble_eq_true rfl) rfl (s_iconst dX0_spread_68 (by decide) (s_istore (ls' := [(0, (2, 59)), (1, (0, c)), (2, (0, h)), (3, (0, (w 25 h))), (4, (0, (w 7 (w 25 h)))), (5, (0, 0)), (6, (0, 0))]) dX0_spread_69 (Nat.le_of_ble_eq_true rfl) rfl ?_)))
      exact L_71 _ 0 0 w (by omega) (by unfold likX; rw [if_pos rfl, if_neg (by omega)]) (by omega) (fun _ _ => rfl) (fun o j o0 o1 => (if_neg (by omega)).symm) (Nat.lt_succ_self _)
    · skip
      refine s_aload_n dX0_spread_52 0 rfl rfl (n_getc (q := 83) 59 11 93 dX0_spread_53 cf_X0 ff_X0_36 rfl sh_59 rfl (by decide) rfl (by decide) (s_iload_n dX0_spread_56 2 rfl (n_bald 83 dX0_spread_57 rfl sh_83 (by decide) ⟨(by omega), (by omega)⟩ (v := (w 83 h)) rfl (s_if_ne 65 dX0_spread_58 (by decide) (fun c_58 => ?_) (fun c_58 => ?_)))))
      · skip
        refine s_iconst dX0_spread_65 (by decide) (s_istore (ls' := [(0, (2, 59)), (1, (0, c)), (2, (0, h)), (3, (0, (w 25 h))), (4, (0, (w 7 (w 25 h)))), (5, (0, 0))]) dX0_spread_66 (Nat.le_of_ble_eq_true rfl) rfl (s_iconst dX0_spread_68 (by decide) (s_istore (ls' := [(0, (2, 59)), (1, (0, c)), (2, (0, h)), (3, (0, (w 25 h))), (4, (0, (w 7 (w 25 h)))), (5, (0, 0)), (6, (0, 0))]) dX0_spread_69 (Nat.le_of_ble_eq_true rfl) rfl ?_)))
        exact L_71 _ 0 0 w (by omega) (by unfold likX; rw [if_pos rfl, if_neg (by omega)]) (by omega) (fun _ _ => rfl) (fun o j o0 o1 => (if_neg (by omega)).symm) (Nat.lt_succ_self _)
      · skip
        refine s_iconst dX0_spread_61 (by decide) (s_goto 66 dX0_spread_62 (by decide) (s_istore (ls' := [(0, (2, 59)), (1, (0, c)), (2, (0, h)), (3, (0, (w 25 h))), (4, (0, (w 7 (w 25 h)))), (5, (0, 1))]) dX0_spread_66 (Nat.le_of_ble_eq_true rfl) rfl (s_iconst dX0_spread_68 (by decide) (s_istore (ls' := [(0, (2, 59)), (1, (0, c)), (2, (0, h)), (3, (0, (w 25 h))), (4, (0, (w 7 (w 25 h)))), (5, (0, 1)), (6, (0, 0))]) dX0_spread_69 (Nat.le_of_ble_eq_true rfl) rfl ?_))))
        exact L_71 _ 1 0 w (by omega) (by unfold likX; rw [if_neg (by decide), if_pos ⟨by omega, by omega⟩]) (by omega) (fun _ _ => rfl) (fun o j o0 o1 => (if_neg (by omega)).symm) (Nat.lt_succ_self _)
  · skip
    refine n_ret dX0_spread_21 hR rfl ?_
    exact ⟨rfl, fun _ _ => rfl, fun o j a b => (if_neg (by omega)).symm⟩
