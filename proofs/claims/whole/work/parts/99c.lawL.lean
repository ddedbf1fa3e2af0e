/-! THE LAW's loop. -/
theorem lw_case {ρ : Rh} {L : Nat} {xs : Nat → Int32} {i : Int} {w : Wd} (hX : XF ρ L xs) (hL : L ≤ 3072) (h0 : 0 ≤ i) (h1 : i + 5 < L) (h : GAl w) (kk : ∀ w1, GAl w1 → AtN mL 42 ρ 1496 (LL i) [] w1) : AtN mL 42 ρ 27 (LL i) [] w := by
  refine s_aload_n dL_law_27 0 rfl rfl (s_iload_n dL_law_28 3 rfl (s_sld dL_law_29 hX hL ⟨h0, by omega⟩ (s_bipush dL_law_30 (by decide) (s_iand dL_law_32 ?_))))
  generalize iand (sv xs i) 63 = v
  rcases (show (v < 0 ∨ 34 < v) ∨ v = 0 ∨ v = 1 ∨ v = 2 ∨ v = 3 ∨ v = 4 ∨ v = 5 ∨ v = 6 ∨ v = 7 ∨ v = 8 ∨ v = 9 ∨ v = 10 ∨ v = 11 ∨ v = 12 ∨ v = 13 ∨ v = 14 ∨ v = 15 ∨ v = 16 ∨ v = 17 ∨ v = 18 ∨ v = 19 ∨ v = 20 ∨ v = 21 ∨ v = 22 ∨ v = 23 ∨ v = 24 ∨ v = 25 ∨ v = 26 ∨ v = 27 ∨ v = 28 ∨ v = 29 ∨ v = 30 ∨ v = 31 ∨ v = 32 ∨ v = 33 ∨ v = 34 from by omega) with c | rfl | rfl | rfl | rfl | rfl | rfl | rfl | rfl | rfl | rfl | rfl | rfl | rfl | rfl | rfl | rfl | rfl | rfl | rfl | rfl | rfl | rfl | rfl | rfl | rfl | rfl | rfl | rfl | rfl | rfl | rfl | rfl | rfl | rfl | rfl
  · exact s_tableOut 1496 dL_law_33 c (by decide) (kk w h)
  · exact s_tableIn 188 0 dL_law_33 (by decide) (by decide) rfl (by decide) (lc_picture hX hL h0 h1 h kk)
  · exact s_tableIn 251 1 dL_law_33 (by decide) (by decide) rfl (by decide) (lc_print hX hL h0 h1 h kk)
  · exact s_tableIn 274 2 dL_law_33 (by decide) (by decide) rfl (by decide) (lc_event hX hL h0 h1 h kk)
  · exact s_tableIn 327 3 dL_law_33 (by decide) (by decide) rfl (by decide) (lc_lead hX hL h0 h1 h kk)
  · exact s_tableIn 370 4 dL_law_33 (by decide) (by decide) rfl (by decide) (lc_off hX hL h0 h1 h kk)
  · exact s_tableIn 403 5 dL_law_33 (by decide) (by decide) rfl (by decide) (lc_hall hX hL h0 h1 h kk)
  · exact s_tableIn 456 6 dL_law_33 (by decide) (by decide) rfl (by decide) (lc_asks hX hL h0 h1 h kk)
  · exact s_tableIn 499 7 dL_law_33 (by decide) (by decide) rfl (by decide) (lc_set hX hL h0 h1 h kk)
  · exact s_tableIn 542 8 dL_law_33 (by decide) (by decide) rfl (by decide) (lc_hire hX hL h0 h1 h kk)
  · exact s_tableIn 575 9 dL_law_33 (by decide) (by decide) rfl (by decide) (lc_book hX hL h0 h1 h kk)
  · exact s_tableIn 608 10 dL_law_33 (by decide) (by decide) rfl (by decide) (lc_feed hX hL h0 h1 h kk)
  · exact s_tableIn 671 11 dL_law_33 (by decide) (by decide) rfl (by decide) (lc_end hX hL h0 h1 h kk)
  · exact s_tableIn 694 12 dL_law_33 (by decide) (by decide) rfl (by decide) (lc_rules hX hL h0 h1 h kk)
  · exact s_tableIn 717 13 dL_law_33 (by decide) (by decide) rfl (by decide) (lc_fault hX hL h0 h1 h kk)
  · exact s_tableIn 740 14 dL_law_33 (by decide) (by decide) rfl (by decide) (lc_runs hX hL h0 h1 h kk)
  · exact s_tableIn 783 15 dL_law_33 (by decide) (by decide) rfl (by decide) (lc_crowd hX hL h0 h1 h kk)
  · exact s_tableIn 846 16 dL_law_33 (by decide) (by decide) rfl (by decide) (lc_worth hX hL h0 h1 h kk)
  · exact s_tableIn 879 17 dL_law_33 (by decide) (by decide) rfl (by decide) (lc_heard hX hL h0 h1 h kk)
  · exact s_tableIn 912 18 dL_law_33 (by decide) (by decide) rfl (by decide) (lc_weeks hX hL h0 h1 h kk)
  · exact s_tableIn 935 19 dL_law_33 (by decide) (by decide) rfl (by decide) (lc_of hX hL h0 h1 h kk)
  · exact s_tableIn 969 20 dL_law_33 (by decide) (by decide) rfl (by decide) (lc_at hX hL h0 h1 h kk)
  · exact s_tableIn 1002 21 dL_law_33 (by decide) (by decide) rfl (by decide) (lc_version hX hL h0 h1 h kk)
  · exact s_tableIn 1025 22 dL_law_33 (by decide) (by decide) rfl (by decide) (lc_change hX hL h0 h1 h kk)
  · exact s_tableIn 1068 23 dL_law_33 (by decide) (by decide) rfl (by decide) (lc_stage hX hL h0 h1 h kk)
  · exact s_tableIn 1101 24 dL_law_33 (by decide) (by decide) rfl (by decide) (lc_person hX hL h0 h1 h kk)
  · exact s_tableIn 1134 25 dL_law_33 (by decide) (by decide) rfl (by decide) (lc_faces hX hL h0 h1 h kk)
  · exact s_tableIn 1177 26 dL_law_33 (by decide) (by decide) rfl (by decide) (lc_needs hX hL h0 h1 h kk)
  · exact s_tableIn 1220 27 dL_law_33 (by decide) (by decide) rfl (by decide) (lc_wire hX hL h0 h1 h kk)
  · exact s_tableIn 1253 28 dL_law_33 (by decide) (by decide) rfl (by decide) (lc_owe hX hL h0 h1 h kk)
  · exact s_tableIn 1296 29 dL_law_33 (by decide) (by decide) rfl (by decide) (lc_purse hX hL h0 h1 h kk)
  · exact s_tableIn 1329 30 dL_law_33 (by decide) (by decide) rfl (by decide) (lc_clear hX hL h0 h1 h kk)
  · exact s_tableIn 1373 31 dL_law_33 (by decide) (by decide) rfl (by decide) (lc_clause hX hL h0 h1 h kk)
  · exact s_tableIn 1416 32 dL_law_33 (by decide) (by decide) rfl (by decide) (lc_stand hX hL h0 h1 h kk)
  · exact s_tableIn 1449 33 dL_law_33 (by decide) (by decide) rfl (by decide) (lc_pool hX hL h0 h1 h kk)
  · exact s_tableIn 1472 34 dL_law_33 (by decide) (by decide) rfl (by decide) (lc_look hX hL h0 h1 h kk)
theorem lw_loop {ρ : Rh} {L : Nat} {xs : Nat → Int32} (hX : XF ρ L xs) (hL : L ≤ 3072) (hEnd : ∀ (w1 : Wd) (l1 : List (Nat × PV)), AtN mL 42 ρ 1502 l1 [] w1) : ∀ (n : Nat) (i : Int) (w : Wd), 0 ≤ i → i ≤ L → (L : Int) < i + n → GAl w → AtN mL 42 ρ 18 (LL i) [] w := by
  intro n
  induction n with
  | zero =>
    intro i w h0 h1 h2 h
    exact absurd h2 (by omega)
  | succ n ih =>
    intro i w h0 h1 h2 h
    refine s_iload_n dL_law_18 3 rfl (s_aload_n dL_law_19 0 rfl rfl (s_slen dL_law_20 hX hL (s_bipush dL_law_21 (by decide) (n_sub (z := (L : Int) - 6) dL_law_23 (wr_id (by omega) (by omega)) ?_))))
    refine s_icmp_gt 1502 dL_law_24 (by decide) (fun _ => hEnd w _) (fun c => ?_)
    refine lw_case hX hL h0 (by omega) h (fun w1 hw => ?_)
    refine s_iinc (z := i + 6) (ls' := LL (i + 6)) dL_law_1496 3 rfl (Nat.le_of_ble_eq_true rfl) (wr_id (by omega) (by omega)) rfl (s_goto 18 dL_law_1499 (by decide) ?_)
    exact ih (i + 6) w1 (by omega) (by omega) (by omega) hw
theorem sz_SH : SZ SH = 29424 := by decide +kernel
set_option maxRecDepth 100000 in
theorem lw_begin {ρ : Rh} {L : Nat} {xs : Nat → Int32} (hX : XF ρ L xs) (hL : L ≤ 3072) (hEnd : ∀ (w1 : Wd) (l1 : List (Nat × PV)), At mL dL ρ SH 1502 l1 [] w1) : At mL dL ρ sx_0 0 [(0, (6, 0))] [] V0 := by
  refine z_newO (q := 0) [2, 2, 2, 2, 2, 2, 2, 2, 2, 2, 0] dL_law_0 gx_0 cf_X11 ck_L_7 ib_X11 in_X11 rfl rfl bo_X11 V0_0 V0_h ⟨Nat.le_of_ble_eq_true rfl, Nat.le_of_ble_eq_true rfl⟩ (sh' := sx_1) rfl ?_
  refine s_dup dL_law_3 (show (2 : Nat) ≠ 1 by decide) ?_
  refine z_invI (as := []) gx_1 dL_law_4 kv_X11_init ml_L_9 cX11_init_0 (by decide) 0 rfl (by decide) rfl rfl (by decide) ⟨Nat.le_of_ble_eq_true rfl, Nat.le_of_ble_eq_true rfl⟩ ?_
  refine s_astore_n (ls' := [(0, (6, 0)), (1, (2, 0))]) dL_law_7 (Nat.le_of_ble_eq_true rfl) rfl rfl ?_
  refine z_newO (q := 141) [0, 0, 0, 0, 0, 0, 0, 0, 0, 0, 2, 2, 2, 2, 2, 2, 2, 2, 2, 2, 2, 2, 2, 2, 2, 2, 2, 2, 2, 2, 2, 2, 2, 2, 2, 2, 2, 2, 2, 2, 2, 2, 2, 2, 2, 2, 2, 2, 0, 0, 0, 0, 0, 0, 0, 0, 0, 0, 0, 0, 2, 0, 0, 0, 0, 2, 2, 2, 2, 2, 2, 2, 2, 2, 2, 0, 2, 2, 2, 2, 2, 2, 0, 2, 2, 0, 2, 2, 2, 2, 2, 2, 2, 2, 2, 0, 2, 2] dL_law_8 gx_189 cf_X12 ck_L_10 ib_X12 in_X12 rfl rfl bo_X12 ((V4_hi (by decide) (by decide) (by decide) (by decide)).trans V0_141) (V4_h (by decide)) ⟨Nat.le_of_ble_eq_true rfl, Nat.le_of_ble_eq_true rfl⟩ (sh' := sx_190) rfl ?_
  refine s_dup dL_law_11 (show (2 : Nat) ≠ 1 by decide) ?_
  refine z_invI (as := []) gx_190 dL_law_12 kv_X12_init ml_L_12 cX12_init_141 (by decide) 141 rfl (by decide) rfl rfl (by decide) ⟨Nat.le_of_ble_eq_true rfl, Nat.le_of_ble_eq_true rfl⟩ ?_
  refine s_astore_n (ls' := [(0, (6, 0)), (1, (2, 0)), (2, (2, 141))]) dL_law_15 (Nat.le_of_ble_eq_true rfl) rfl rfl ?_
  refine s_iconst dL_law_16 (by decide) (s_istore_n (ls' := LL 0) dL_law_17 (Nat.le_of_ble_eq_true rfl) rfl ?_)
  have e : dL = ((42 : Nat), SH.length + 0, SZ SH + 0) := by
    rw [SH_len, sz_SH]
    all_goals rfl
  rw [sx_SH, e]
  rw [e] at hEnd
  exact lw_loop hX hL hEnd (L + 1) 0 V6 (by decide) (by omega) (by omega) GAl_0
