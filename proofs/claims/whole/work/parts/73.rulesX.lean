/-! RULES, the class. -/
/-- the scripts of the firms are three, b is the fourth -/
def FreeS (s : Int → Nat) (b : Nat) : Prop := IsSc b ∧ (∀ f, 0 ≤ f → f < 3 → IsSc (s f) ∧ s f ≠ b) ∧ ∀ f g, 0 ≤ f → f < 3 → 0 ≤ g → g < 3 → f ≠ g → s f ≠ s g
theorem FreeS.far {s : Int → Nat} {b : Nat} (h : FreeS s b) {f : Int} (h0 : 0 ≤ f) (h1 : f < 3) : ∀ k l : Nat, k ≤ 3 → l ≤ 3 → s f + k ≠ b + l := by
  obtain ⟨hb, hs, -⟩ := h
  obtain ⟨a, ne⟩ := hs f h0 h1
  intro k l hk hl
  rcases hb with q | q | q | q <;> rcases a with y | y | y | y <;> omega
theorem lnX_cells {w v : Wd} {s : Nat} {i n : Int} {q : Lin} (e : ∀ k : Nat, k ≤ 3 → v (s + k) = w (s + k)) (h : lnX w s i n q) : lnX v s i n q := by
  unfold lnX at h ⊢
  have e0 : v s = w s := e 0 (by decide)
  rw [e 1 (by decide), e 2 (by decide), e 3 (by decide), e0]
  exact h
theorem cdA_split (L : List Lin) {i : Nat} (h : i < L.length) : cdA L = cdA (L.take i) ++ (cdL (lnD L i) ++ cdA (L.drop (i + 1))) := by
  have e : L = L.take i ++ (lnD L i :: L.drop (i + 1)) := by
    have h2 : lnD L i = L[i] := by
      unfold lnD
      rw [List.getD_eq_getElem?_getD, List.getElem?_eq_getElem h]
      rfl
    rw [h2, ← List.drop_eq_getElem_cons h, List.take_append_drop]
  conv => lhs; rw [e]
  unfold cdA
  rw [List.map_append, List.flatten_append]
  rfl
theorem cdA_take (L : List Lin) {i : Nat} (h : i < L.length) : (cdA (L.take (i + 1))).length = (cdA (L.take i)).length + (cdL (lnD L i)).length := by
  have h2 : lnD L i = L[i] := by
    unfold lnD
    rw [List.getD_eq_getElem?_getD, List.getElem?_eq_getElem h]
    rfl
  rw [List.take_succ_eq_append_getElem h, cdA_s, List.length_append, h2]
theorem getD_m {A B C : List Int} {j : Nat} (h : j < B.length) : (A ++ (B ++ C)).getD (A.length + j) 0 = B.getD j 0 := by
  rw [List.getD_eq_getElem?_getD, List.getD_eq_getElem?_getD, List.getElem?_append_right (by omega), Nat.add_sub_cancel_left, List.getElem?_append_left h]
theorem DrS.ln {w : Wd} {b : Nat} {N : List Int} {K : Ky} {k : Int} {L : List Lin} {S : List Int} (hk : 0 ≤ k) (h : DrS w b N K k L S) {i : Nat} (hi : i < L.length) : lnX w b i L.length (lnD L i) := by
  obtain ⟨⟨h1, h2, h3, h4, h5, h6⟩, h7, h8, h9⟩ := h
  have hsp := cdA_split L hi
  have hlen : (cdA L).length = (cdA (L.take i)).length + ((cdL (lnD L i)).length + (cdA (L.drop (i + 1))).length) := by rw [hsp, List.length_append, List.length_append]
  have hn := h1.1
  refine ⟨(cdA (L.take i)).length, by omega, (h9 i hi).2, by omega, fun j hj => ?_, fun q => ?_, fun q => ?_, (h9 i hi).1⟩
  · have := h5.2 ((cdA (L.take i)).length + j) (by omega)
    rw [hsp, getD_m hj] at this
    rw [← this]
    congr 1
  · have h10 := (h9 (i + 1) (by omega)).2
    rw [cdA_take L hi] at h10
    have e : (((i + 1 : Nat) : Nat) : Int) = (i : Int) + 1 := by omega
    rw [e] at h10
    rw [h10]
    omega
  · have h10 := cdA_take L hi
    rw [List.take_of_length_le (by omega)] at h10
    rw [h5.1, h10]
    omega

set_option maxRecDepth 100000 in
theorem c_X_adopt (f : Int) {a b : Nat} (w : Wd) (hf : 0 ≤ f ∧ f < 3) (ha : IsSc a) (hb : IsSc b) (h42 : w 42 f = ((a : Nat) : Int)) : CallN 1 mX2_adopt [(2, 41), (0, f), (2, ((b : Nat) : Int))] w (RV (2, ((a : Nat) : Int)) (wu w 42 f ((b : Nat) : Int))) := by
  refine CallN.intro (by decide +kernel) (Nat.le_of_ble_eq_true rfl) (fun ρ hR => ?_)
  show AtN mX2_adopt 1 ρ 0 [(0, (2, 41)), (1, (0, f)), (2, (2, ((b : Nat) : Int)))] [] w
  refine s_aload_n dX2_adopt_0 0 rfl rfl (n_getc (q := 42) 41 2 52 dX2_adopt_1 cf_X2 ff_X2_11 rfl sh_41 rfl (by decide) rfl (by decide) (s_iload_n dX2_adopt_4 1 rfl ?_))
  refine n_aald5 42 dX2_adopt_5 rfl sh_42 (by decide) ⟨by omega, by omega⟩ h42 ?_
  refine s_astore_n (ls' := [(0, (2, 41)), (1, (0, f)), (2, (2, ((b : Nat) : Int))), (3, (2, ((a : Nat) : Int)))]) dX2_adopt_6 (Nat.le_of_ble_eq_true rfl) (refb_nat a) rfl (s_aload_n dX2_adopt_7 0 rfl rfl (n_getc (q := 42) 41 2 52 dX2_adopt_8 cf_X2 ff_X2_11 rfl sh_41 rfl (by decide) rfl (by decide) (s_iload_n dX2_adopt_11 1 rfl (s_aload_n dX2_adopt_12 2 rfl (refb_nat b) ?_))))
  refine n_aast5 42 b dX2_adopt_13 rfl sh_42 (by decide) ⟨by omega, by omega⟩ (shS hb) ?_
  refine s_aload_n dX2_adopt_14 3 rfl (refb_nat a) ?_
  exact n_aret dX2_adopt_15 hR rfl ⟨rfl, rfl⟩

set_option maxRecDepth 100000 in
theorem c_X_linesOf (f : Int) {a : Nat} (w : Wd) (hf : 0 ≤ f ∧ f < 3) (ha : IsSc a) (h42 : w 42 f = ((a : Nat) : Int)) : CallN 1 mX2_linesOf [(2, 41), (0, f)] w (RV (0, w a 4) w) := by
  refine CallN.intro (by decide +kernel) (Nat.le_of_ble_eq_true rfl) (fun ρ hR => ?_)
  show AtN mX2_linesOf 1 ρ 0 [(0, (2, 41)), (1, (0, f))] [] w
  refine s_aload_n dX2_linesOf_0 0 rfl rfl (n_getc (q := 42) 41 2 52 dX2_linesOf_1 cf_X2 ff_X2_11 rfl sh_41 rfl (by decide) rfl (by decide) (s_iload_n dX2_linesOf_4 1 rfl ?_))
  refine n_aald5 42 dX2_linesOf_5 rfl sh_42 (by decide) ⟨by omega, by omega⟩ h42 ?_
  refine n_getf a 4 0 dX2_linesOf_6 cf_X6 ff_X2_30 rfl (shS ha) rfl (by decide) (v := (w a 4)) rfl (n_iret dX2_linesOf_9 hR rfl ?_)
  exact ⟨rfl, rfl⟩

set_option maxRecDepth 100000 in
theorem c_X_forget (w : Wd) : CallN 1 mX4_forget [(2, 35)] w (RU (wu (wu w 35 3 0) 35 4 (-1))) := by
  refine CallN.intro (by decide +kernel) (Nat.le_of_ble_eq_true rfl) (fun ρ hR => ?_)
  show AtN mX4_forget 1 ρ 0 [(0, (2, 35))] [] w
  refine s_aload_n dX4_forget_0 0 rfl rfl (s_iconst dX4_forget_1 (by decide) (n_putf 35 3 3 dX4_forget_2 cf_X4 ff_X4_22 rfl rfl sh_35 rfl rfl rfl (s_aload_n dX4_forget_5 0 rfl rfl (s_iconst dX4_forget_6 (by decide) (n_putf 35 4 4 dX4_forget_7 cf_X4 ff_X4_26 rfl rfl sh_35 rfl rfl rfl (n_ret dX4_forget_10 hR rfl ?_))))))
  exact ⟨rfl, rfl⟩

theorem FrR.w0 {b : Nat} {w v : Wd} (hb : IsSc b) (h : FrR b (wu (wu w 35 3 0) 35 4 (-1)) v) : FrR b w v := by
  have hn := hb.n.1
  exact ⟨fun c c1 c2 c3 c4 c5 c6 c7 c8 c9 => by rw [h.1 c c1 c2 c3 c4 c5 c6 c7 c8 c9, wu_ne c5, wu_ne c5], fun j hj => by rw [h.2.1 j hj, wu_ne (by decide), wu_ne (by decide)], fun j a b c => by rw [h.2.2.1 j a b c, wu_at, if_neg c, wu_at, if_neg b], fun j a c => by rw [h.2.2.2 j a c, wu_ne hn, wu_ne hn]⟩
/-- what a text's reading tells -/
abbrev txX (T : Int → Int) (n : Int) : Sum (Int × Int) (List Lin) := liP (kyT T n) 22 [] (reL T n 0)
/-- how rules ends -/
def RuQ (w : Wd) (s : Int → Nat) (b : Nat) (f z : Int) (w1 : Wd) : Prop :=
  (¬ (0 ≤ f ∧ f ≤ 2) ∧ z = -1 ∧ w1 = wu (wu (wu w 35 3 0) 35 4 (-1)) 30 1 0) ∨
  ((0 ≤ f ∧ f ≤ 2) ∧ w1 30 1 = 0 ∧ ((z = -1 ∧ ∃ e v, txX (w 31) (w 30 1) = .inl e ∧ FrR b w v ∧ w1 = wu v 30 1 0 ∧ w1 35 3 = e.1 ∧ w1 35 4 = e.2) ∨ (∃ L v N K, txX (w 31) (w 30 1) = .inr L ∧ z = L.length ∧ FrR b w v ∧ DrS v b N K 0 L [] ∧ w1 = wu (wu (wu v 42 f ((b : Nat) : Int)) 35 2 ((s f : Nat) : Int)) 30 1 0 ∧ w1 35 3 = 0 ∧ w1 35 4 = -1)))
theorem IsSc.n42 {b : Nat} (h : IsSc b) : b ≠ 42 ∧ b + 1 ≠ 42 ∧ b + 2 ≠ 42 ∧ b + 3 ≠ 42 := by rcases h with rfl | rfl | rfl | rfl <;> decide
theorem wu_30 (w : Wd) : wu (wu w 35 3 0) 35 4 (-1) 30 1 = w 30 1 := by rw [wu_ne (by decide), wu_ne (by decide)]
theorem wu_31 (w : Wd) : wu (wu w 35 3 0) 35 4 (-1) 31 = w 31 := by rw [wu_ne (by decide), wu_ne (by decide)]
theorem wu_352 (w : Wd) : wu (wu w 35 3 0) 35 4 (-1) 35 2 = w 35 2 := by rw [wu_at, if_neg (by decide), wu_at, if_neg (by decide)]
set_option maxRecDepth 100000 in
theorem c_X_cut0 (w : Wd) (h : 0 ≤ w 30 1) : CallN 2 mX8_cut [(2, 30), (0, 0)] w (RV (0, 1) (wu w 30 1 0)) := by
  refine CallN.intro (by decide +kernel) (Nat.le_of_ble_eq_true rfl) (fun ρ hR => ?_)
  show AtN mX8_cut 2 ρ 0 [(0, (2, 30)), (1, (0, 0))] [] w
  refine s_iload_n dX8_cut_0 1 rfl (s_iconst dX8_cut_1 (by decide) (s_aload_n dX8_cut_2 0 rfl rfl (n_getf 30 1 0 dX8_cut_3 cf_X8 ff_X8_24 rfl sh_30 rfl (by decide) (v := (w 30 1)) rfl (n_invT (as := [(0, 0), (0, 0), (0, (w 30 1))]) dX8_cut_6 kv_X11_within ml_X8_32 (c_within 0 0 (w 30 1) w) (by decide) rfl rfl (Nat.le_of_ble_eq_true rfl) (n_ifne_b 14 dX8_cut_9 (by decide) (fun c_9 => ?_) (fun c_9 => ?_))))))
  · skip
    refine s_aload_n dX8_cut_14 0 rfl rfl (s_iload_n dX8_cut_15 1 rfl (n_putf 30 1 1 dX8_cut_16 cf_X8 ff_X8_24 rfl rfl sh_30 rfl rfl rfl (s_iconst dX8_cut_19 (by decide) (n_zret dX8_cut_20 hR rfl (by first | exact Or.inl rfl | exact Or.inr rfl | exact bi_01 _ | omega) ?_))))
    exact ⟨rfl, rfl⟩
  · skip
    exfalso
    omega

set_option maxRecDepth 100000 in
theorem x_rules (f : Int) {s : Int → Nat} {b : Nat} (w : Wd) (hS : FreeS s b) (h42 : ∀ f, 0 ≤ f → f < 3 → w 42 f = ((s f : Nat) : Int)) (hn : 0 ≤ w 30 1 ∧ w 30 1 ≤ 600) (hch : ∀ j, 0 ≤ j → j < w 30 1 → 0 ≤ w 31 j ∧ w 31 j ≤ 255) (hd : w 35 2 = ((b : Nat) : Int)) : CallN 24 mX11_rules [(2, 0), (0, f)] w (RQ (fun z w1 => RuQ w s b f z w1)) := by
  refine CallN.intro (by decide +kernel) (Nat.le_of_ble_eq_true rfl) (fun ρ hR => ?_)
  show AtN mX11_rules 24 ρ 0 [(0, (2, 0)), (1, (0, f))] [] w
  refine s_iconst dX11_rules_0 (by decide) (s_istore_n (ls' := [(0, (2, 0)), (1, (0, f)), (2, (0, (-1)))]) dX11_rules_1 (Nat.le_of_ble_eq_true rfl) rfl (s_aload_n dX11_rules_2 0 rfl rfl (n_getc (q := 35) 0 3 45 dX11_rules_3 cf_X11 ff_X11_35 rfl sh_0 rfl (by decide) rfl (by decide) (n_invVu (as := []) dX11_rules_6 kv_X4_forget ml_X11_161 (c_X_forget w) (by decide) 35 cf_X4 rfl sh_35 rfl rfl rfl (Nat.le_of_ble_eq_true rfl) (s_iload_n dX11_rules_9 1 rfl (s_iconst dX11_rules_10 (by decide) (s_iconst dX11_rules_11 (by decide) (n_invS (as := [(0, f), (0, 0), (0, 2)]) dX11_rules_12 kv_X11_within ml_X11_102 (c_within f 0 2 (wu (wu w 35 3 0) 35 4 (-1))) (by decide) rfl rfl (Nat.le_of_ble_eq_true rfl) (n_ifeq_b 59 dX11_rules_15 (by decide) (fun c_15 => ?_) (fun c_15 => ?_))))))))))
  · skip
    refine s_aload_n dX11_rules_59 0 rfl rfl (n_getc (q := 30) 0 2 40 dX11_rules_60 cf_X11 ff_X11_26 rfl sh_0 rfl (by decide) rfl (by decide) (s_iconst dX11_rules_63 (by decide) (n_invV (as := [(0, 0)]) dX11_rules_64 kv_X8_cut ml_X11_158 (c_X_cut0 (wu (wu w 35 3 0) 35 4 (-1)) (by rw [(wu_30 w)]; exact hn.1)) (by decide) 30 cf_X8 rfl sh_30 rfl rfl rfl (Nat.le_of_ble_eq_true rfl) (s_pop dX11_rules_67 (show (0 : Nat) ≠ 1 by decide) (s_iload_n dX11_rules_68 2 rfl (n_iret dX11_rules_69 hR rfl ?_))))))
    exact ⟨_, rfl, Or.inl ⟨by omega, rfl, rfl⟩⟩
  · skip
    refine s_aload_n dX11_rules_18 0 rfl rfl (n_getc (q := 35) 0 3 45 dX11_rules_19 cf_X11 ff_X11_35 rfl sh_0 rfl (by decide) rfl (by decide) (n_invV' (as := []) dX11_rules_22 kv_X4_parse ml_X11_164 (c_X_parse (b := b) (n := w 30 1) (wu (wu w 35 3 0) 35 4 (-1)) hS.1 (wu_30 w) hn (fun j a c => by rw [wu_31]; exact hch j a c) (wu_352 w ▸ hd)) (by decide) 35 cf_X4 rfl sh_35 rfl rfl rfl (Nat.le_of_ble_eq_true rfl) ?_))
    rintro r_22 w_22 ⟨z_22, rfl, hF9, hz_22⟩
    show AtN _ _ ρ _ _ [(0, z_22)] w_22
    rw [wu_31] at hz_22
    replace hF9 := hF9.w0 hS.1
    have hdr : w_22 35 2 = ((b : Nat) : Int) := (hF9.2.2.1 2 (by decide) (by decide) (by decide)).trans hd
    have e42 : w_22 42 = w 42 := hF9.1 42 (by decide) (by decide) (by decide) (by decide) (by decide) hS.1.n42.1.symm hS.1.n42.2.1.symm hS.1.n42.2.2.1.symm hS.1.n42.2.2.2.symm
    have e301 : w_22 30 1 = w 30 1 := hF9.2.1 1 (by decide)
    refine s_if_eq 59 dX11_rules_25 (by decide) (fun c_25 => ?_) (fun c_25 => ?_)
    · skip
      refine s_aload_n dX11_rules_59 0 rfl rfl (n_getc (q := 30) 0 2 40 dX11_rules_60 cf_X11 ff_X11_26 rfl sh_0 rfl (by decide) rfl (by decide) (s_iconst dX11_rules_63 (by decide) (n_invV (as := [(0, 0)]) dX11_rules_64 kv_X8_cut ml_X11_158 (c_X_cut0 w_22 (by rw [e301]; exact hn.1)) (by decide) 30 cf_X8 rfl sh_30 rfl rfl rfl (Nat.le_of_ble_eq_true rfl) (s_pop dX11_rules_67 (show (0 : Nat) ≠ 1 by decide) (s_iload_n dX11_rules_68 2 rfl (n_iret dX11_rules_69 hR rfl ?_))))))
      rcases hz_22 with ⟨hz, e9, q1, q2, q3⟩ | ⟨hz, -⟩
      · exact ⟨_, rfl, Or.inr ⟨by omega, wu_same .., Or.inl ⟨rfl, e9, w_22, q1, hF9, rfl, by rw [wu_ne (by decide)]; exact q2, by rw [wu_ne (by decide)]; exact q3⟩⟩⟩
      · exfalso
        omega
    · skip
      refine s_aload_n dX11_rules_28 0 rfl rfl (n_getc (q := 35) 0 3 45 dX11_rules_29 cf_X11 ff_X11_35 rfl sh_0 rfl (by decide) rfl (by decide) (s_aload_n dX11_rules_32 0 rfl rfl (n_getc (q := 41) 0 4 51 dX11_rules_33 cf_X11 ff_X11_44 rfl sh_0 rfl (by decide) rfl (by decide) (s_iload_n dX11_rules_36 1 rfl (s_aload_n dX11_rules_37 0 rfl rfl (n_getc (q := 35) 0 3 45 dX11_rules_38 cf_X11 ff_X11_35 rfl sh_0 rfl (by decide) rfl (by decide) (n_getf 35 2 2 dX11_rules_41 cf_X4 ff_X11_168 rfl sh_35 rfl (by decide) (v := ((b : Nat) : Int)) hdr (n_invV (as := [(0, f), (2, ((b : Nat) : Int))]) dX11_rules_44 kv_X2_adopt ml_X11_172 (c_X_adopt f w_22 ⟨by omega, by omega⟩ (hS.2.1 f (by omega) (by omega)).1 hS.1 (by rw [e42]; exact h42 f (by omega) (by omega))) (by decide) 41 cf_X2 rfl sh_41 rfl rfl rfl (Nat.le_of_ble_eq_true rfl) ?_))))))))
      refine n_putR 35 2 dX11_rules_47 cf_X4 ff_X11_168 rfl sh_35 rfl rfl rfl ?_
      refine s_aload_n dX11_rules_50 0 rfl rfl (n_getc (q := 41) 0 4 51 dX11_rules_51 cf_X11 ff_X11_44 rfl sh_0 rfl (by decide) rfl (by decide) (s_iload_n dX11_rules_54 1 rfl (n_invV (as := [(0, f)]) dX11_rules_55 kv_X2_linesOf ml_X11_176 (show CallN 1 mX2_linesOf [(2, 41), (0, f)] (wu (wu w_22 42 f ((b : Nat) : Int)) 35 2 (((s f) : Nat) : Int)) (RV (0, w_22 b 4) (wu (wu w_22 42 f ((b : Nat) : Int)) 35 2 (((s f) : Nat) : Int))) from (by have hz := c_X_linesOf f (a := b) (wu (wu w_22 42 f ((b : Nat) : Int)) 35 2 (((s f) : Nat) : Int)) ⟨by omega, by omega⟩ hS.1 (by rw [wu_ne (by decide), wu_same]); rw [wu_ne hS.1.n.1, wu_ne hS.1.n42.1] at hz; exact hz)) (by decide) 41 cf_X2 rfl sh_41 rfl rfl rfl (Nat.le_of_ble_eq_true rfl) (s_istore_n (ls' := [(0, (2, 0)), (1, (0, f)), (2, (0, (w_22 b 4)))]) dX11_rules_58 (Nat.le_of_ble_eq_true rfl) rfl (s_aload_n dX11_rules_59 0 rfl rfl (n_getc (q := 30) 0 2 40 dX11_rules_60 cf_X11 ff_X11_26 rfl sh_0 rfl (by decide) rfl (by decide) (s_iconst dX11_rules_63 (by decide) (n_invV (as := [(0, 0)]) dX11_rules_64 kv_X8_cut ml_X11_158 (c_X_cut0 (wu (wu w_22 42 f ((b : Nat) : Int)) 35 2 (((s f) : Nat) : Int)) (by rw [((by rw [wu_ne (by decide), wu_ne (by decide)]; exact e301) : (wu (wu w_22 42 f ((b : Nat) : Int)) 35 2 (((s f) : Nat) : Int)) 30 1 = w 30 1)]; exact hn.1)) (by decide) 30 cf_X8 rfl sh_30 rfl rfl rfl (Nat.le_of_ble_eq_true rfl) (s_pop dX11_rules_67 (show (0 : Nat) ≠ 1 by decide) ?_)))))))))
      refine s_iload_n dX11_rules_68 2 rfl (n_iret dX11_rules_69 hR rfl ?_)
      rcases hz_22 with ⟨hz, -⟩ | ⟨hz, L9, q1, q2, q3, q4⟩
      · exfalso
        omega
      · refine ⟨_, rfl, Or.inr ⟨by omega, wu_same .., Or.inr ⟨L9, w_22, _, _, q1, q2.2.2.1, hF9, q2, rfl, ?_, ?_⟩⟩⟩
        · rw [wu_ne (by decide), wu_at, if_neg (by decide), wu_ne (by decide), q3, wu_at, if_neg (by decide), wu_same]
        · rw [wu_ne (by decide), wu_at, if_neg (by decide), wu_ne (by decide), q4, wu_same]

