/-! THE CLASS'S READER. -/
/-- the tokens found -/
def TkX (w : Wd) (N : List Int) (K : Ky) : Prop := N.length ≤ 600 ∧ w 30 5 = N.length ∧ w 30 1 = K.2.2 ∧ ∀ j : Nat, j < N.length → w 32 j = K.1 (N.getD j 0) ∧ w 34 j = N.getD j 0 ∧ (K.1 (N.getD j 0) = 1 → w 33 j = K.2.1 (N.getD j 0))
/-- the code laid in script b -/
def CoX (w : Wd) (b : Nat) (c : List Int) : Prop := w b 1 = c.length ∧ ∀ j : Nat, j < c.length → w (b + 1) j = c.getD j 0
/-- the reader with draft b stands at S, code c is laid, k places are to spare -/
def StP (w : Wd) (b : Nat) (N : List Int) (K : Ky) (k : Int) (c : List Int) (S : List Int) : Prop := TkX w N K ∧ S <:+ N ∧ w 35 1 = (N.length : Int) - S.length ∧ w 35 2 = b ∧ CoX w b c ∧ (c.length : Int) + S.length + k ≤ N.length
def FrPg (b : Nat) (w v : Wd) : Prop := (∀ c, c ≠ 35 → c ≠ b → c ≠ b + 1 → v c = w c) ∧ (∀ j, j ≠ 1 → v 35 j = w 35 j) ∧ ∀ j, j ≠ 1 → v b j = w b j
def FrPf (b : Nat) (w v : Wd) : Prop := (∀ c, c ≠ 35 → c ≠ b → c ≠ b + 1 → v c = w c) ∧ (∀ j, j ≠ 1 → j ≠ 3 → j ≠ 4 → v 35 j = w 35 j) ∧ ∀ j, j ≠ 1 → v b j = w b j
theorem FrPg.rf {b : Nat} {w : Wd} : FrPg b w w := ⟨fun _ _ _ _ => rfl, fun _ _ => rfl, fun _ _ => rfl⟩
theorem FrPg.tr {b : Nat} {w v u : Wd} (h : FrPg b w v) (h2 : FrPg b v u) : FrPg b w u := ⟨fun c x y z => (h2.1 c x y z).trans (h.1 c x y z), fun j hj => (h2.2.1 j hj).trans (h.2.1 j hj), fun j hj => (h2.2.2 j hj).trans (h.2.2 j hj)⟩
theorem FrPg.tF {b : Nat} {w v u : Wd} (h : FrPg b w v) (h2 : FrPf b v u) : FrPf b w u := ⟨fun c x y z => (h2.1 c x y z).trans (h.1 c x y z), fun j a b c => (h2.2.1 j a b c).trans (h.2.1 j a), fun j hj => (h2.2.2 j hj).trans (h.2.2 j hj)⟩
theorem IsSc.n {b : Nat} (h : IsSc b) : b ≠ 35 ∧ b + 1 ≠ 35 ∧ b ≠ 30 ∧ b + 1 ≠ 30 ∧ b ≠ 31 ∧ b + 1 ≠ 31 ∧ b ≠ 32 ∧ b + 1 ≠ 32 ∧ b ≠ 33 ∧ b + 1 ≠ 33 ∧ b ≠ 34 ∧ b + 1 ≠ 34 := by rcases h with rfl | rfl | rfl | rfl <;> decide
theorem FrPg.adv {b : Nat} {w : Wd} {x : Int} (hb : IsSc b) : FrPg b w (wu w 35 1 x) := ⟨fun c h _ _ => wu_ne h, fun j hj => by rw [wu_at, if_neg hj], fun j _ => by rw [wu_ne hb.n.1]⟩
theorem FrPf.ref {b : Nat} {w : Wd} {x y : Int} (hb : IsSc b) : FrPf b w (wu (wu w 35 3 x) 35 4 y) := ⟨fun c h _ _ => by rw [wu_ne h, wu_ne h], fun j _ h3 h4 => by rw [wu_at, if_neg h4, wu_at, if_neg h3], fun j _ => by rw [wu_ne hb.n.1, wu_ne hb.n.1]⟩
theorem TkX.fr {w v : Wd} {N : List Int} {K : Ky} (h : TkX w N K) (e30 : v 30 = w 30) (e32 : v 32 = w 32) (e33 : v 33 = w 33) (e34 : v 34 = w 34) : TkX v N K := by
  unfold TkX at h ⊢
  rw [e30, e32, e33, e34]
  exact h
theorem suf_get : ∀ {N S : List Int} {s : Int} {r : List Int}, S <:+ N → S = s :: r → N.getD (N.length - S.length) 0 = s := by
  intro N S s r h e
  obtain ⟨P, rfl⟩ := h
  rw [List.length_append, Nat.add_sub_cancel, List.getD_eq_getElem?_getD, List.getElem?_append_right (Nat.le_refl _), Nat.sub_self, e]
  rfl
theorem StP.hd {w : Wd} {b : Nat} {k : Int} {N c S : List Int} {K : Ky} (h : StP w b N K k c S) : (w 30 5 ≤ w 35 1 ∧ hdK K S = 0 ∧ plK K S = w 30 1) ∨ ((0 ≤ w 35 1 ∧ w 35 1 < w 30 5 ∧ w 30 5 ≤ 600) ∧ w 32 (w 35 1) = hdK K S ∧ w 34 (w 35 1) = plK K S ∧ (hdK K S = 1 → w 33 (w 35 1) = nuK K S)) := by
  obtain ⟨⟨h1, h2, h3, h4⟩, h5, h6, -, -, -⟩ := h
  have hl := suf_len h5
  match S, h5, h6, hl with
  | [], h5, h6, hl =>
    refine Or.inl ⟨?_, rfl, h3.symm⟩
    rw [h6, h2]
    show _ ≤ (N.length : Int) - ((0 : Nat) : Int)
    omega
  | s :: r, h5, h6, hl =>
    have hl2 : r.length + 1 ≤ N.length := hl
    have h6b : w 35 1 = ((N.length - (s :: r).length : Nat) : Int) := by rw [h6]; omega
    have hlt : N.length - (s :: r).length < N.length := by show N.length - (r.length + 1) < N.length; omega
    have hg := h4 _ hlt
    rw [suf_get h5 rfl, ← h6b] at hg
    exact Or.inr ⟨⟨by rw [h6b]; omega, by rw [h6b, h2]; omega, by rw [h2]; omega⟩, hg⟩
theorem StP.adv {w : Wd} {b : Nat} {k : Int} {N c S : List Int} {K : Ky} (hb : IsSc b) (h : StP w b N K k c S) (hd : hdK K S ≠ 0) : StP (wu w 35 1 (w 35 1 + 1)) b N K (k + 1) c S.tail := by
  have ht := hd_tail hd
  obtain ⟨h1, h5, h6, h7, h8, h9⟩ := h
  refine ⟨h1.fr (wu_ne (by decide)) (wu_ne (by decide)) (wu_ne (by decide)) (wu_ne (by decide)), suf_tail h5, ?_, ?_, ?_, by omega⟩
  · rw [wu_same, h6]; omega
  · rw [wu_at, if_neg (by decide)]; exact h7
  · unfold CoX; rw [wu_ne hb.n.1, wu_ne hb.n.2.1]; exact h8
theorem StP.lt {w : Wd} {b : Nat} {k : Int} {N c S : List Int} {K : Ky} (h : StP w b N K k c S) : 0 ≤ w b 1 ∧ w b 1 + k ≤ 600 ∧ (0 ≤ w 35 1 ∧ w 35 1 ≤ 600) := by
  obtain ⟨⟨h1, -⟩, h5, h6, -, h8, h9⟩ := h
  have := suf_len h5
  have := h8.1
  omega
theorem StP.wk {w : Wd} {b : Nat} {k k2 : Int} {N c S : List Int} {K : Ky} (h : StP w b N K k c S) (hk : k2 ≤ k) : StP w b N K k2 c S := by
  obtain ⟨h1, h5, h6, h7, h8, h9⟩ := h
  exact ⟨h1, h5, h6, h7, h8, by omega⟩
theorem CoX.add {w : Wd} {b : Nat} {c : List Int} {op : Int} (h : CoX w b c) : CoX (wu (wu w (b + 1) (w b 1) op) b 1 (w b 1 + 1)) b (c ++ [op]) := by
  obtain ⟨h1, h2⟩ := h
  refine ⟨?_, fun j hj => ?_⟩
  · rw [wu_same, h1, List.length_append]; rfl
  · rw [wu_ne (by omega), wu_at, h1]
    rw [List.length_append] at hj
    have hj2 : j < c.length + 1 := hj
    by_cases e : j = c.length
    · rw [if_pos (by omega), e, getD_r]
    · rw [if_neg (by omega), getD_l (by omega)]
      exact h2 j (by omega)
/-- how a reader ends -/
def ReX (w : Wd) (b : Nat) (N : List Int) (K : Ky) (k : Int) (X0 : List Int) (r : Rs) (z : Int) (w1 : Wd) : Prop := (z = 0 ∧ ∃ e, r = .inl e ∧ FrPf b w w1 ∧ w1 35 3 = e.1 ∧ w1 35 4 = e.2) ∨ (z = 1 ∧ ∃ C S, r = okR C S ∧ FrPg b w w1 ∧ StP w1 b N K k (X0 ++ trL C) S)
theorem ReX.no {w w1 : Wd} {b : Nat} {k : Int} {N X0 : List Int} {K : Ky} {r : Rs} {z : Int} (h : ReX w b N K k X0 r z w1) (hz : z = 0) : ∃ e, r = .inl e ∧ FrPf b w w1 ∧ w1 35 3 = e.1 ∧ w1 35 4 = e.2 := by
  rcases h with h | h
  · exact h.2
  · omega
theorem ReX.ok {w w1 : Wd} {b : Nat} {k : Int} {N X0 : List Int} {K : Ky} {r : Rs} {z : Int} (h : ReX w b N K k X0 r z w1) (hz : z ≠ 0) : ∃ C S, r = okR C S ∧ FrPg b w w1 ∧ StP w1 b N K k (X0 ++ trL C) S := by
  rcases h with h | h
  · omega
  · exact h.2
theorem ReX.z {w w1 : Wd} {b : Nat} {k : Int} {N X0 : List Int} {K : Ky} {r : Rs} {z : Int} (h : ReX w b N K k X0 r z w1) : z = 0 ∨ z = 1 := by
  rcases h with h | h
  · exact Or.inl h.1
  · exact Or.inr h.1

set_option maxRecDepth 100000 in
theorem c_X_sign {b : Nat} {k : Int} {N c S : List Int} {K : Ky} (w : Wd) (hb : IsSc b) (hS : StP w b N K k c S) : CallN 1 mX4_sign [(2, 35)] w (RV (0, hdK K S) w) := by
  refine CallN.intro (by decide +kernel) (Nat.le_of_ble_eq_true rfl) (fun ρ hR => ?_)
  show AtN mX4_sign 1 ρ 0 [(0, (2, 35))] [] w
  have hh := hS.hd
  have hl9 := hS.lt
  refine s_aload_n dX4_sign_0 0 rfl rfl (n_getf 35 1 0 dX4_sign_1 cf_X4 ff_X4_37 rfl sh_35 rfl (by decide) (v := (w 35 1)) rfl (s_aload_n dX4_sign_4 0 rfl rfl (n_getc (q := 30) 35 0 40 dX4_sign_5 cf_X4 ff_X4_9 rfl sh_35 rfl (by decide) rfl (by decide) (n_getf 30 5 0 dX4_sign_8 cf_X8 ff_X4_48 rfl sh_30 rfl (by decide) (v := (w 30 5)) rfl (s_icmp_ge 29 dX4_sign_11 (by decide) (fun c_11 => ?_) (fun c_11 => ?_))))))
  · skip
    refine s_iconst dX4_sign_29 (by decide) (n_iret dX4_sign_30 hR rfl ?_)
    refine ⟨congrArg (fun z => some ((0 : Nat), z)) ?_, rfl⟩
    omega
  · skip
    refine s_aload_n dX4_sign_14 0 rfl rfl (n_getc (q := 30) 35 0 40 dX4_sign_15 cf_X4 ff_X4_9 rfl sh_35 rfl (by decide) rfl (by decide) (n_getc (q := 32) 30 2 42 dX4_sign_18 cf_X8 ff_X4_51 rfl sh_30 rfl (by decide) rfl (by decide) (s_aload_n dX4_sign_21 0 rfl rfl (n_getf 35 1 0 dX4_sign_22 cf_X4 ff_X4_37 rfl sh_35 rfl (by decide) (v := (w 35 1)) rfl (n_iald 32 dX4_sign_25 rfl sh_32 (by decide) ⟨(by omega), (by omega)⟩ (v := (w 32 (w 35 1))) rfl (s_goto 30 dX4_sign_26 (by decide) (n_iret dX4_sign_30 hR rfl ?_)))))))
    refine ⟨congrArg (fun z => some ((0 : Nat), z)) ?_, rfl⟩
    omega

set_option maxRecDepth 100000 in
theorem c_X_refuse (q : Int) {b : Nat} {k : Int} {N c S : List Int} {K : Ky} (w : Wd) (hb : IsSc b) (hS : StP w b N K k c S) : CallN 1 mX4_refuse [(2, 35), (0, q)] w (RV (0, 0) (wu (wu w 35 3 q) 35 4 (plK K S))) := by
  refine CallN.intro (by decide +kernel) (Nat.le_of_ble_eq_true rfl) (fun ρ hR => ?_)
  show AtN mX4_refuse 1 ρ 0 [(0, (2, 35)), (1, (0, q))] [] w
  have hh := hS.hd
  have hl9 := hS.lt
  refine s_aload_n dX4_refuse_0 0 rfl rfl (s_iload_n dX4_refuse_1 1 rfl (n_putf 35 3 3 dX4_refuse_2 cf_X4 ff_X4_22 rfl rfl sh_35 rfl rfl rfl (s_aload_n dX4_refuse_5 0 rfl rfl (s_aload_n dX4_refuse_6 0 rfl rfl (n_getf 35 1 0 dX4_refuse_7 cf_X4 ff_X4_37 rfl sh_35 rfl (by decide) (v := (w 35 1)) rfl (s_aload_n dX4_refuse_10 0 rfl rfl (n_getc (q := 30) 35 0 40 dX4_refuse_11 cf_X4 ff_X4_9 rfl sh_35 rfl (by decide) rfl (by decide) (n_getf 30 5 0 dX4_refuse_14 cf_X8 ff_X4_48 rfl sh_30 rfl (by decide) (v := (w 30 5)) rfl (s_icmp_ge 35 dX4_refuse_17 (by decide) (fun c_17 => ?_) (fun c_17 => ?_))))))))))
  · skip
    refine s_aload_n dX4_refuse_35 0 rfl rfl (n_getc (q := 30) 35 0 40 dX4_refuse_36 cf_X4 ff_X4_9 rfl sh_35 rfl (by decide) rfl (by decide) (n_getf 30 1 0 dX4_refuse_39 cf_X8 ff_X4_58 rfl sh_30 rfl (by decide) (v := (w 30 1)) rfl (n_putf 35 4 4 dX4_refuse_42 cf_X4 ff_X4_26 rfl rfl sh_35 rfl rfl rfl (s_iconst dX4_refuse_45 (by decide) (n_zret dX4_refuse_46 hR rfl (by first | exact Or.inl rfl | exact Or.inr rfl | exact bi_01 _ | omega) ?_)))))
    refine ⟨rfl, ?_⟩
    rw [show plK K S = (w 30 1) from by omega]
  · skip
    refine s_aload_n dX4_refuse_20 0 rfl rfl (n_getc (q := 30) 35 0 40 dX4_refuse_21 cf_X4 ff_X4_9 rfl sh_35 rfl (by decide) rfl (by decide) (n_getc (q := 34) 30 4 44 dX4_refuse_24 cf_X8 ff_X4_55 rfl sh_30 rfl (by decide) rfl (by decide) (s_aload_n dX4_refuse_27 0 rfl rfl (n_getf 35 1 0 dX4_refuse_28 cf_X4 ff_X4_37 rfl sh_35 rfl (by decide) (v := (w 35 1)) rfl (n_iald 34 dX4_refuse_31 rfl sh_34 (by decide) ⟨(by omega), (by omega)⟩ (v := (w 34 (w 35 1))) rfl (s_goto 42 dX4_refuse_32 (by decide) (n_putf 35 4 4 dX4_refuse_42 cf_X4 ff_X4_26 rfl rfl sh_35 rfl rfl rfl (s_iconst dX4_refuse_45 (by decide) (n_zret dX4_refuse_46 hR rfl (by first | exact Or.inl rfl | exact Or.inr rfl | exact bi_01 _ | omega) ?_)))))))))
    refine ⟨rfl, ?_⟩
    rw [show plK K S = (w 34 (w 35 1)) from by omega]

set_option maxRecDepth 100000 in
theorem c_X_take (q : Int) {b : Nat} {k : Int} {N c S : List Int} {K : Ky} (w : Wd) (hb : IsSc b) (hS : StP w b N K k c S) : CallN 2 mX4_take [(2, 35), (0, q)] w (RQ (fun z w1 => (hdK K S = q ∧ z = 1 ∧ w1 = wu w 35 1 (w 35 1 + 1)) ∨ (hdK K S ≠ q ∧ z = 0 ∧ w1 = wu (wu w 35 3 1) 35 4 (plK K S)))) := by
  refine CallN.intro (by decide +kernel) (Nat.le_of_ble_eq_true rfl) (fun ρ hR => ?_)
  show AtN mX4_take 2 ρ 0 [(0, (2, 35)), (1, (0, q))] [] w
  have hh := hS.hd
  have hl9 := hS.lt
  refine s_aload_n dX4_take_0 0 rfl rfl (n_invV (as := []) dX4_take_1 kv_X4_sign ml_X4_40 (c_X_sign w hb hS) (by decide) 35 cf_X4 rfl sh_35 rfl rfl rfl (Nat.le_of_ble_eq_true rfl) (s_iload_n dX4_take_4 1 rfl (s_icmp_eq 14 dX4_take_5 (by decide) (fun c_5 => ?_) (fun c_5 => ?_))))
  · skip
    refine s_aload_n dX4_take_14 0 rfl rfl (s_dup dX4_take_15 (show (2 : Nat) ≠ 1 by decide) (n_getf 35 1 0 dX4_take_16 cf_X4 ff_X4_37 rfl sh_35 rfl (by decide) (v := (w 35 1)) rfl (s_iconst dX4_take_19 (by decide) (n_add (z := ((w 35 1) + 1)) dX4_take_20 (wr_id (by omega) (by omega)) (n_putf 35 1 1 dX4_take_21 cf_X4 ff_X4_37 rfl rfl sh_35 rfl rfl rfl (s_iconst dX4_take_24 (by decide) (n_zret dX4_take_25 hR rfl (by first | exact Or.inl rfl | exact Or.inr rfl | exact bi_01 _ | omega) ?_)))))))
    exact ⟨_, rfl, Or.inl ⟨c_5, rfl, rfl⟩⟩
  · skip
    refine s_aload_n dX4_take_8 0 rfl rfl (s_iconst dX4_take_9 (by decide) (n_invV (as := [(0, 1)]) dX4_take_10 kv_X4_refuse ml_X4_61 (c_X_refuse 1 w hb hS) (by decide) 35 cf_X4 rfl sh_35 rfl rfl rfl (Nat.le_of_ble_eq_true rfl) (n_zret dX4_take_13 hR rfl (by first | exact Or.inl rfl | exact Or.inr rfl | exact bi_01 _ | omega) ?_)))
    exact ⟨_, rfl, Or.inr ⟨c_5, rfl, rfl⟩⟩

set_option maxRecDepth 100000 in
theorem c_X_add0 (q : Int) {b : Nat} (w : Wd) (hb : IsSc b) (hl : 0 ≤ w b 1 ∧ w b 1 < 640) : CallN 1 mX6_add [(2, ((b : Nat) : Int)), (0, q)] w (RU (wu (wu w (b + 1) (w b 1) q) b 1 (w b 1 + 1))) := by
  refine CallN.intro (by decide +kernel) (Nat.le_of_ble_eq_true rfl) (fun ρ hR => ?_)
  show AtN mX6_add 1 ρ 0 [(0, (2, ((b : Nat) : Int))), (1, (0, q))] [] w
  refine s_aload_n dX6_add_0 0 rfl (refb_nat b) (n_getf b 1 0 dX6_add_1 cf_X6 ff_X6_24 rfl (shS hb) rfl (by decide) (v := (w b 1)) rfl (s_sipush dX6_add_4 (by decide) (s_icmp_ge 30 dX6_add_7 (by decide) (fun c_7 => ?_) (fun c_7 => ?_))))
  · skip
    exfalso
    omega
  · skip
    refine s_aload_n dX6_add_10 0 rfl (refb_nat b) (n_getc (q := (((b + 1) : Nat) : Int)) b 0 1001 dX6_add_11 cf_X6 ff_X6_11 rfl (shS hb) rfl (by decide) rfl (sc_lt hb 1 (by decide)) (s_aload_n dX6_add_14 0 rfl (refb_nat b) (n_getf b 1 0 dX6_add_15 cf_X6 ff_X6_24 rfl (shS hb) rfl (by decide) (v := (w b 1)) rfl (s_iload_n dX6_add_18 1 rfl (s_iastore (b + 1) dX6_add_19 rfl (shS1 hb) (by decide) ⟨(by omega), (by omega)⟩ (s_aload_n dX6_add_20 0 rfl (refb_nat b) (s_dup dX6_add_21 (show (2 : Nat) ≠ 1 by decide) (n_getf b 1 0 dX6_add_22 cf_X6 ff_X6_24 rfl (shS hb) rfl (by decide) (v := ((wu w (b + 1) (w b 1) q) b 1)) rfl ?_))))))))
    rw [wu_ne (show b ≠ b + 1 by omega)]
    refine s_iconst dX6_add_25 (by decide) (n_add (z := ((w b 1) + 1)) dX6_add_26 (wr_id (by omega) (by omega)) (n_putf b 1 1 dX6_add_27 cf_X6 ff_X6_24 rfl rfl (shS hb) rfl rfl rfl (n_ret dX6_add_30 hR rfl ?_)))
    exact ⟨rfl, rfl⟩

theorem c_X_add (q : Int) {b : Nat} {k : Int} {N c S : List Int} {K : Ky} (w : Wd) (hb : IsSc b) (hS : StP w b N K k c S) (hk : 0 ≤ k) : CallN 1 mX6_add [(2, ((b : Nat) : Int)), (0, q)] w (RUQ (fun w1 => FrPg b w w1 ∧ StP w1 b N K (k - 1) (c ++ [q]) S)) := by
  have hl := hS.lt
  refine (c_X_add0 q w hb ⟨by omega, by omega⟩).conseq (fun r w1 h => ?_)
  obtain ⟨rfl, rfl⟩ := h
  have hn := hb.n
  obtain ⟨h1, h5, h6, h7, h8, h9⟩ := hS
  refine ⟨rfl, ⟨fun c x y z => by rw [wu_ne y, wu_ne z], fun j hj => by rw [wu_ne (Ne.symm hn.1), wu_ne (Ne.symm hn.2.1)], fun j hj => by rw [wu_at, if_neg hj, wu_ne (show b ≠ b + 1 by omega)]⟩, h1.fr ?_ ?_ ?_ ?_, h5, ?_, ?_, h8.add, ?_⟩
  · rw [wu_ne (by omega), wu_ne (by omega)]
  · rw [wu_ne (by omega), wu_ne (by omega)]
  · rw [wu_ne (by omega), wu_ne (by omega)]
  · rw [wu_ne (by omega), wu_ne (by omega)]
  · rw [wu_ne (by omega), wu_ne (by omega)]; exact h6
  · rw [wu_ne (by omega), wu_ne (by omega)]; exact h7
  · rw [List.length_append]; show ((c.length + 1 : Nat) : Int) + S.length + (k - 1) ≤ N.length; omega
