/-! PASS, WALKED. -/
theorem snG_ok {W cap pr : Int → Int} {n : Nat} {c : Int} {P : Int × Int → Prop} (hP : ∀ b : Int, 0 ≤ b → b < n → P (c, b)) : ∀ (f : Nat) (S : Sn), (∀ q ∈ S.2.2, P q) → ∀ q ∈ (snG W cap pr n c f S).2.2, P q
  | 0, S, h => h
  | f + 1, S, h => by
    rw [snG]
    split
    · rename_i g
      refine snG_ok hP f _ (fun q hq => ?_)
      have hq2 : q ∈ S.2.2 ++ [(c, bhS W cap pr n S)] := hq
      rcases List.mem_append.mp hq2 with z | z
      · exact h q z
      · rw [List.mem_singleton.mp z]
        rcases bhV_p (W := W) (pl := fun h => cap h - S.2.1 h) (pr := pr) n with y | ⟨y1, y2, -⟩
        · exact absurd y g.2
        · exact hP _ y1 y2
    · exact h
theorem wkG_ok {W : Int → Int → Int} {cap pr many lk0 : Int → Int} {n : Nat} : ∀ (m : Nat), ∀ q ∈ (wkG W cap pr many lk0 n m).2, (0 ≤ q.1 ∧ q.1 < m) ∧ 0 ≤ q.2 ∧ q.2 < n
  | 0, q, h => by cases h
  | m + 1, q, h => by
    rw [wkG] at h
    exact snG_ok (P := fun q => (0 ≤ q.1 ∧ q.1 < ((m + 1 : Nat) : Int)) ∧ 0 ≤ q.2 ∧ q.2 < n) (fun b b0 b1 => ⟨⟨by show (0 : Int) ≤ m; omega, by show (m : Int) < _; omega⟩, b0, b1⟩) n _ (fun q hq => by
      have := wkG_ok m q hq
      omega) q h
theorem jd1_k {F : Int → Int} {f i : Int} {q : Lin} {S : Jd} : S.2.2.2 ≤ (jd1 F f i q S).2.2.2 := by
  unfold jd1
  split
  · split
    · split <;> exact Int.le_refl _
    · split
      · exact Int.le_refl _
      · exact mxL_ge _ _
  · exact Int.le_refl _
theorem jdL_k {F : Int → Int} {f : Int} {L : List Lin} {S : Jd} : ∀ n : Nat, S.2.2.2 ≤ (jdL F f L n S).2.2.2
  | 0 => Int.le_refl _
  | n + 1 => by rw [jdL]; exact Int.le_trans (jdL_k n) jd1_k
theorem jdA_k {F : Int → Int} {LN : Int → List Lin} : ∀ n : Nat, 0 ≤ (jdA F LN n).2.2.2
  | 0 => Int.le_refl _
  | n + 1 => by
    have ih := jdA_k (F := F) (LN := LN) n
    rw [jdA]
    exact Int.le_trans ih (jdL_k (S := ((jdA F LN n).1, (jdA F LN n).2.1, 0, (jdA F LN n).2.2.2)) _)
theorem fe_bd {w : Wd} {LN : Int → List Lin} {h now : Int} : (0 ≤ feX w LN h now ∧ feX w LN h now ≤ 299997) ∧ (keX w LN h now ≤ 40 ∧ 0 ≤ keX w LN h now) := by
  have h1 := jdA_fee (F := fcX w (w 25 h) h now) (LN := LN) 3
  have h2 := jdA_k (F := fcX w (w 25 h) h now) (LN := LN) 3
  unfold feX keX jX jdF mnL
  constructor
  · split
    · dsimp only; omega
    · omega
  · split
    · dsimp only; split <;> omega
    · omega

def WeekX (w w1 : Wd) (LN : Int → List Lin) (now : Int) : Prop := ∃ u1 u2 u3, (Insp w u1 LN now (w 15 10) ∧ u1 59 16 = 0) ∧ (FrS u1 u2 ∧ ∀ x, StX u2 (x, WKX u1 (w 15 10).toNat (w 59 9).toNat)) ∧ AccS u2 u3 (w 15 10) ∧ SprS u3 w1 (WKX u1 (w 15 10).toNat (w 59 9).toNat).2 (WKX u1 (w 15 10).toNat (w 59 9).toNat).2.length
set_option maxRecDepth 100000 in
set_option maxHeartbeats 4000000 in
theorem c_X_pass (now : Int) (w : Wd) (s : Int → Nat) (LN : Int → List Lin) (hI : InX w s LN) (hn : 0 ≤ w 15 10 ∧ w 15 10 ≤ 16) (hcr : 0 ≤ w 59 9 ∧ w 59 9 ≤ 16) (hhd : ∀ o, 0 ≤ o → o < w 59 9 → ∀ j, 0 ≤ j → j < 12 → -3 ≤ w (66 + Int.toNat o) j ∧ w (66 + Int.toNat o) j ≤ 3) (hst : ∀ h, 0 ≤ h → h < w 15 10 → (0 ≤ w 17 h ∧ w 17 h ≤ 999) ∧ (1 ≤ w 18 h ∧ w 18 h ≤ 99) ∧ (0 ≤ w 19 h ∧ w 19 h ≤ 40) ∧ (0 ≤ w 23 h ∧ w 23 h ≤ 1400000) ∧ (-1000000000000 ≤ w 20 h ∧ w 20 h ≤ 1000000000000)) (hmy : ∀ c, 0 ≤ c → c < w 59 9 → 0 ≤ w 63 c ∧ w 63 c ≤ 9999) (hhi : ∀ j, 0 ≤ j → j < w 15 15 → 0 ≤ w 28 j ∧ w 28 j ≤ 99) (hwe : ∀ j, 0 ≤ j → j < w 1 9 → 0 ≤ w 8 j ∧ w 8 j ≤ 100) : CallN 7 mX0_pass [(2, 59), (0, now)] w (RUQ (fun w1 => WeekX w w1 LN now)) := by
  refine CallN.intro (by decide +kernel) (Nat.le_of_ble_eq_true rfl) (fun ρ hR => ?_)
  show AtN mX0_pass 7 ρ 0 [(0, (2, 59)), (1, (0, now))] [] w
  have L_87 : ∀ (fu : Nat) (k : Int) (v9 : Wd) (u1 : Wd) (u2 : Wd) (u3 : Wd), Insp w u1 LN now (w 15 10) → u1 59 16 = 0 → FrS u1 u2 → (∀ x, StX u2 (x, WKX u1 (w 15 10).toNat (w 59 9).toNat)) → ((WKX u1 (w 15 10).toNat (w 59 9).toNat).2.length : Int) ≤ 32 → AccS u2 u3 (w 15 10) → 0 ≤ k ∧ k ≤ ((WKX u1 (w 15 10).toNat (w 59 9).toNat).2.length : Int) → SprS u3 v9 (WKX u1 (w 15 10).toNat (w 59 9).toNat).2 k.toNat → (((WKX u1 (w 15 10).toNat (w 59 9).toNat).2.length : Int) - k).toNat < fu → AtN mX0_pass 7 ρ 87 [(0, (2, 59)), (1, (0, now)), (2, (0, k))] [] v9 := by
    intro fu
    induction fu with
    | zero => intro k v9 u1 u2 u3 hu h6u hf2 hS2 hlen hA3 hk hSp hm; exact absurd hm (Nat.not_lt_zero _)
    | succ fu ih =>
      intro k v9 u1 u2 u3 hu h6u hf2 hS2 hlen hA3 hk hSp hm
      have k1 : ∀ c, kQ c → u1 c = w c := hu.1.1
      have e15 : u1 15 = w 15 := k1 15 (by unfold kQ; decide)
      have e1 : u1 1 = w 1 := k1 1 (by unfold kQ; decide)
      have e7 : u1 7 = w 7 := k1 7 (by unfold kQ; decide)
      have e17 : u1 17 = w 17 := k1 17 (by unfold kQ; decide)
      have e63 : u1 63 = w 63 := k1 63 (by unfold kQ; decide)
      have e59 : u1 59 9 = w 59 9 := hu.1.2.2 9 (by decide)
      have k2 : ∀ c, kQ c → u2 c = w c := fun c hc => (hf2.1 c (by unfold kQ at hc; omega) (by unfold kQ at hc; omega) (by unfold kQ at hc; omega) (by unfold kQ at hc; omega)).trans (k1 c hc)
      have k8 : ∀ c, (c = 82 ∨ c = 83 ∨ c = 84 ∨ c = 85) → u2 c = u1 c := fun c hc => hf2.1 c (by omega) (by omega) (by omega) (by omega)
      have f59 : u2 59 9 = w 59 9 := (hf2.2 9 (by decide)).trans e59
      have n : ∀ c, ¬ (66 ≤ c ∧ c < 82) → v9 c = u3 c := hSp.1
      have n3 : ∀ c, (c ≠ 8 ∧ c ≠ 20 ∧ c ≠ 22 ∧ c ≠ 23) → u3 c = u2 c := fun c hc => hA3.1 c hc.1 hc.2.1 hc.2.2.1 hc.2.2.2
      have hgl := hS2 0
      have q593 : u3 59 9 = w 59 9 := by rw [n3 59 (by decide)]; exact f59
      have q59 : v9 59 9 = w 59 9 := by rw [n 59 (by omega)]; exact q593
      have q16 : v9 59 16 = ((WKX u1 (w 15 10).toNat (w 59 9).toNat).2.length : Int) := by rw [n 59 (by omega), n3 59 (by decide)]; exact hgl.2.1
      refine s_iload_n dX0_pass_87 2 rfl (s_aload_n dX0_pass_88 0 rfl rfl (n_getf 59 16 0 dX0_pass_89 cf_X0 ff_X0_108 rfl sh_59 rfl (by decide) (v := (v9 59 16)) rfl (s_icmp_ge 117 dX0_pass_92 (by decide) (fun c_92 => ?_) (fun c_92 => ?_))))
      · skip
        refine n_ret dX0_pass_117 hR rfl ?_
        have e9 : k = ((WKX u1 (w 15 10).toNat (w 59 9).toNat).2.length : Int) := by omega
        rw [e9] at hSp
        exact ⟨rfl, u1, u2, u3, ⟨hu, h6u⟩, ⟨hf2, hS2⟩, hA3, hSp⟩
      · skip
        have hgo := hgl.2.2 k.toNat (show k.toNat < (WKX u1 (w 15 10).toNat (w 59 9).toNat).2.length by omega)
        rw [toN_c hk.1] at hgo
        have hqm : ((WKX u1 (w 15 10).toNat (w 59 9).toNat).2.getD k.toNat (0, 0)) ∈ (WKX u1 (w 15 10).toNat (w 59 9).toNat).2 := by
          rw [List.getD_eq_getElem?_getD, List.getElem?_eq_getElem (by omega)]
          exact List.getElem_mem _
        have hqo := wkG_ok _ _ hqm
        obtain ⟨c9, ec9⟩ : ∃ c9, c9 = ((WKX u1 (w 15 10).toNat (w 59 9).toNat).2.getD k.toNat (0, 0)).1 := ⟨_, rfl⟩
        obtain ⟨h9, eh9⟩ : ∃ h9, h9 = ((WKX u1 (w 15 10).toNat (w 59 9).toNat).2.getD k.toNat (0, 0)).2 := ⟨_, rfl⟩
        rw [← ec9, ← eh9] at hqo
        have e86 : v9 86 k = c9 := by rw [n 86 (by omega), n3 86 (by decide), ec9]; exact hgo.1
        have e87 : v9 87 k = h9 := by rw [n 87 (by omega), n3 87 (by decide), eh9]; exact hgo.2
        have hx9 := hu.2.2 h9 (by omega) (by omega)
        refine s_aload_n dX0_pass_95 0 rfl rfl (s_aload_n dX0_pass_96 0 rfl rfl (n_getc (q := 86) 59 14 96 dX0_pass_97 cf_X0 ff_X0_45 rfl sh_59 rfl (by decide) rfl (by decide) (s_iload_n dX0_pass_100 2 rfl (n_iald 86 dX0_pass_101 rfl sh_86 (by decide) ⟨(by omega), (by omega)⟩ (v := (v9 86 k)) rfl ?_))))
        rw [e86]
        refine s_aload_n dX0_pass_102 0 rfl rfl (n_getc (q := 87) 59 15 97 dX0_pass_103 cf_X0 ff_X0_48 rfl sh_59 rfl (by decide) rfl (by decide) (s_iload_n dX0_pass_106 2 rfl (n_iald 87 dX0_pass_107 rfl sh_87 (by decide) ⟨(by omega), (by omega)⟩ (v := (v9 87 k)) rfl ?_)))
        rw [e87]
        refine n_invV' (as := [(0, c9), (0, h9)]) dX0_pass_108 kv_X0_spread ml_X0_128 (c_X_spread c9 h9 v9 ⟨by omega, by omega⟩ ⟨by omega, by omega⟩ (by rw [n 1 (by omega), n3 1 (by decide), k2 1 (by unfold kQ; decide)]; exact hI.2.1) (by rw [q59]; exact hcr) (by rw [n 1 (by omega), n3 1 (by decide), k2 1 (by unfold kQ; decide), n 7 (by omega), n3 7 (by decide), k2 7 (by unfold kQ; decide)]; exact hI.2.2.2.1) (by
      rw [q59]
      intro o a b j j0 j1
      rw [hSp.2 o j a (by omega)]
      refine hdX_bd (gs := (WKX u1 (w 15 10).toNat (w 59 9).toNat).2) ?_ ⟨a, by rw [q593]; exact b⟩ ⟨j0, j1⟩ k.toNat
      rw [q593]
      intro o1 a1 b1
      rw [n3 (66 + Int.toNat o1) (by omega), k2 (66 + Int.toNat o1) (by unfold kQ; omega)]
      exact hhd o1 a1 b1) (by rw [n 83 (by omega), n3 83 (by decide), k8 83 (by omega), hx9.2.1]; exact ofX_01)) (by decide) 59 cf_X0 rfl sh_59 rfl rfl rfl (Nat.le_of_ble_eq_true rfl) ?_
        rintro r_108 w_108 ⟨rfl, g0, g1⟩
        refine s_iinc (z := (k + 1)) (ls' := [(0, (2, 59)), (1, (0, now)), (2, (0, (k + 1)))]) dX0_pass_111 2 rfl (Nat.le_of_ble_eq_true rfl) (wr_id (by omega) (by omega)) rfl (s_goto 87 dX0_pass_114 (by decide) ?_)
        exact ih (k + 1) w_108 u1 u2 u3 hu h6u hf2 hS2 hlen hA3 (by omega) (by rw [toN_s hk.1]; exact hSp.step g0 (by rw [← ec9, ← eh9]; exact g1)) (by omega)
  have L_63 : ∀ (fu : Nat) (i : Int) (v9 : Wd) (u1 : Wd) (u2 : Wd), Insp w u1 LN now (w 15 10) → u1 59 16 = 0 → FrS u1 u2 → (∀ x, StX u2 (x, WKX u1 (w 15 10).toNat (w 59 9).toNat)) → ((WKX u1 (w 15 10).toNat (w 59 9).toNat).2.length : Int) ≤ 32 → (∀ h : Int, 0 ≤ h → h < w 15 10 → 0 ≤ u2 21 h ∧ u2 21 h ≤ 7 * w 17 h) → 0 ≤ i ∧ i ≤ w 15 10 → AccS u2 v9 i → (w 15 10 - i).toNat < fu → AtN mX0_pass 7 ρ 63 [(0, (2, 59)), (1, (0, now)), (2, (0, i))] [] v9 := by
    intro fu
    induction fu with
    | zero => intro i v9 u1 u2 hu h6u hf2 hS2 hlen hL2 hi hA hm; exact absurd hm (Nat.not_lt_zero _)
    | succ fu ih =>
      intro i v9 u1 u2 hu h6u hf2 hS2 hlen hL2 hi hA hm
      have k1 : ∀ c, kQ c → u1 c = w c := hu.1.1
      have e15 : u1 15 = w 15 := k1 15 (by unfold kQ; decide)
      have e1 : u1 1 = w 1 := k1 1 (by unfold kQ; decide)
      have e7 : u1 7 = w 7 := k1 7 (by unfold kQ; decide)
      have e17 : u1 17 = w 17 := k1 17 (by unfold kQ; decide)
      have e63 : u1 63 = w 63 := k1 63 (by unfold kQ; decide)
      have e59 : u1 59 9 = w 59 9 := hu.1.2.2 9 (by decide)
      have k2 : ∀ c, kQ c → u2 c = w c := fun c hc => (hf2.1 c (by unfold kQ at hc; omega) (by unfold kQ at hc; omega) (by unfold kQ at hc; omega) (by unfold kQ at hc; omega)).trans (k1 c hc)
      have k8 : ∀ c, (c = 82 ∨ c = 83 ∨ c = 84 ∨ c = 85) → u2 c = u1 c := fun c hc => hf2.1 c (by omega) (by omega) (by omega) (by omega)
      have f59 : u2 59 9 = w 59 9 := (hf2.2 9 (by decide)).trans e59
      have q15 : v9 15 10 = w 15 10 := by rw [hA.1 15 (by decide) (by decide) (by decide) (by decide), k2 15 (by unfold kQ; decide)]
      refine s_iload_n dX0_pass_63 2 rfl (s_aload_n dX0_pass_64 0 rfl rfl (n_getc (q := 15) 59 1 25 dX0_pass_65 cf_X0 ff_X0_55 rfl sh_59 rfl (by decide) rfl (by decide) (n_getf 15 10 0 dX0_pass_68 cf_X3 ff_X0_111 rfl sh_15 rfl (by decide) (v := (v9 15 10)) rfl (s_icmp_ge 85 dX0_pass_71 (by decide) (fun c_71 => ?_) (fun c_71 => ?_)))))
      · skip
        refine s_iconst dX0_pass_85 (by decide) (s_istore_n (ls' := [(0, (2, 59)), (1, (0, now)), (2, (0, 0))]) dX0_pass_86 (Nat.le_of_ble_eq_true rfl) rfl ?_)
        exact L_87 _ 0 v9 u1 u2 v9 hu h6u hf2 hS2 hlen (by rw [show w 15 10 = i by omega]; exact hA) (by omega) ⟨fun _ _ => rfl, fun _ _ _ _ => rfl⟩ (Nat.lt_succ_self _)
      · skip
        have hs9 := hst i hi.1 (by omega)
        have hin9 := hu.2.2 i hi.1 (by omega)
        have m : ∀ c, (c ≠ 8 ∧ c ≠ 20 ∧ c ≠ 22 ∧ c ≠ 23) → v9 c = u2 c := fun c hc => hA.1 c hc.1 hc.2.1 hc.2.2.1 hc.2.2.2
        have e20 : v9 20 i = w 20 i := by rw [hA.2.2.2.1]; show (if 0 ≤ i ∧ i < i then _ else u2 20 i) = _; rw [if_neg (by omega), k2 20 (by unfold kQ; decide)]
        have e23 : v9 23 i = w 23 i := by rw [hA.2.2.1]; show (if 0 ≤ i ∧ i < i then _ else u2 23 i) = _; rw [if_neg (by omega), k2 23 (by unfold kQ; decide)]
        refine s_aload_n dX0_pass_74 0 rfl rfl (s_iload_n dX0_pass_75 2 rfl (n_invV' (as := [(0, i)]) dX0_pass_76 kv_X0_account ml_X0_125 (c_X_account i v9 ⟨by omega, by omega⟩ (by rw [m 1 (by decide), k2 1 (by unfold kQ; decide)]; exact hI.2.1) (by rw [m 15 (by decide), k2 15 (by unfold kQ; decide)]; exact hI.2.2.1) (by rw [m 21 (by decide)]; have := hL2 i hi.1 (by omega); omega) (by rw [m 18 (by decide), k2 18 (by unfold kQ; decide)]; exact hs9.2.1) (by rw [m 19 (by decide), k2 19 (by unfold kQ; decide)]; exact hs9.2.2.1) (by rw [e23]; exact hs9.2.2.2.1) (by rw [e20]; exact hs9.2.2.2.2) (by rw [m 15 (by decide), m 28 (by decide), k2 15 (by unfold kQ; decide), k2 28 (by unfold kQ; decide)]; exact hhi) (by rw [m 84 (by decide), k8 84 (by omega), hin9.2.2.1]; exact fe_bd.1) (by rw [m 85 (by decide), k8 85 (by omega), hin9.2.2.2]; have := (fe_bd (w := w) (LN := LN) (h := i) (now := now)).2; omega) (by rw [m 82 (by decide), k8 82 (by omega), hin9.1]; exact ruX_01) (by
      rw [m 1 (by decide), hA.2.2.2.2]
      intro j a b
      have h5 := weF_bd (u := u2) (by rw [k2 1 (by unfold kQ; decide), k2 8 (by unfold kQ; decide)]; exact hwe) a b i.toNat
      omega)) (by decide) 59 cf_X0 rfl sh_59 rfl rfl rfl (Nat.le_of_ble_eq_true rfl) ?_))
        rintro r_76 w_76 ⟨rfl, g0, g1, g2, g3, g4⟩
        refine s_iinc (z := (i + 1)) (ls' := [(0, (2, 59)), (1, (0, now)), (2, (0, (i + 1)))]) dX0_pass_79 2 rfl (Nat.le_of_ble_eq_true rfl) (wr_id (by omega) (by omega)) rfl (s_goto 63 dX0_pass_82 (by decide) ?_)
        exact ih (i + 1) w_76 u1 u2 hu h6u hf2 hS2 hlen hL2 (by omega) (hA.step hi.1 g0 g1 g2 g3 g4) (by omega)
  have L_42 : ∀ (fu : Nat) (c : Int) (v9 : Wd) (u1 : Wd), Insp w u1 LN now (w 15 10) → u1 59 16 = 0 → 0 ≤ c ∧ c ≤ w 59 9 → FrS u1 v9 → (∀ x, StX v9 (x, WKX u1 (w 15 10).toNat c.toNat)) → OkS (capX u1) (w 15 10).toNat (c - 1) (0, WKX u1 (w 15 10).toNat c.toNat) → (w 59 9 - c).toNat < fu → AtN mX0_pass 7 ρ 42 [(0, (2, 59)), (1, (0, now)), (2, (0, c))] [] v9 := by
    intro fu
    induction fu with
    | zero => intro c v9 u1 hu h6u hci hf hS hO hm; exact absurd hm (Nat.not_lt_zero _)
    | succ fu ih =>
      intro c v9 u1 hu h6u hci hf hS hO hm
      have k1 : ∀ c, kQ c → u1 c = w c := hu.1.1
      have e15 : u1 15 = w 15 := k1 15 (by unfold kQ; decide)
      have e1 : u1 1 = w 1 := k1 1 (by unfold kQ; decide)
      have e7 : u1 7 = w 7 := k1 7 (by unfold kQ; decide)
      have e17 : u1 17 = w 17 := k1 17 (by unfold kQ; decide)
      have e63 : u1 63 = w 63 := k1 63 (by unfold kQ; decide)
      have e59 : u1 59 9 = w 59 9 := hu.1.2.2 9 (by decide)
      have q59 : v9 59 9 = w 59 9 := (hf.2 9 (by decide)).trans e59
      refine s_iload_n dX0_pass_42 2 rfl (s_aload_n dX0_pass_43 0 rfl rfl (n_getf 59 9 0 dX0_pass_44 cf_X0 ff_X0_67 rfl sh_59 rfl (by decide) (v := (v9 59 9)) rfl (s_icmp_ge 61 dX0_pass_47 (by decide) (fun c_47 => ?_) (fun c_47 => ?_))))
      · skip
        refine s_iconst dX0_pass_61 (by decide) (s_istore_n (ls' := [(0, (2, 59)), (1, (0, now)), (2, (0, 0))]) dX0_pass_62 (Nat.le_of_ble_eq_true rfl) rfl ?_)
        exact L_63 _ 0 v9 u1 v9 hu h6u hf (by rw [show w 59 9 = c by omega]; exact hS) (by have h7 : (((WKX u1 (w 15 10).toNat c.toNat).2.length : Nat) : Int) + (opS (capX u1) (WKX u1 (w 15 10).toNat c.toNat).1 (w 15 10).toNat : Nat) ≤ ((w 15 10).toNat : Nat) + (c - 1) + 1 := hO.2.1; rw [show w 59 9 = c by omega]; omega) (fun h a b => by rw [(hS 0).1]; have := hO.1 h a (by omega); have e : capX u1 h = 7 * w 17 h := (by show 7 * u1 17 h = _; rw [e17]); rw [e] at this; exact this) (by omega) (AccS.z _) (Nat.lt_succ_self _)
      · skip
        have hmy9 := hmy c hci.1 (by omega)
        have e63c : u1 63 c = w 63 c := by rw [e63]
        have hO7 : (((WKX u1 (w 15 10).toNat c.toNat).2.length : Nat) : Int) + (opS (capX u1) (WKX u1 (w 15 10).toNat c.toNat).1 (w 15 10).toNat : Nat) ≤ ((w 15 10).toNat : Nat) + (c - 1) + 1 := hO.2.1
        have hOc : OkS (capX u1) (w 15 10).toNat c (u1 63 c, WKX u1 (w 15 10).toNat c.toNat) := ⟨hO.1, by show (((WKX u1 (w 15 10).toNat c.toNat).2.length : Nat) : Int) + (opS (capX u1) (WKX u1 (w 15 10).toNat c.toNat).1 (w 15 10).toNat : Nat) ≤ ((w 15 10).toNat : Nat) + c + 1; omega, fun q => by show (((WKX u1 (w 15 10).toNat c.toNat).2.length : Nat) : Int) + (opS (capX u1) (WKX u1 (w 15 10).toNat c.toNat).1 (w 15 10).toNat : Nat) ≤ ((w 15 10).toNat : Nat) + c; omega, by show 0 ≤ u1 63 c ∧ u1 63 c ≤ 9999; omega⟩
        refine s_aload_n dX0_pass_50 0 rfl rfl (s_iload_n dX0_pass_51 2 rfl (n_invV' (as := [(0, c)]) dX0_pass_52 kv_X0_send ml_X0_121 (by
      have hz := send_S u1 v9 c (WKX u1 (w 15 10).toNat c.toNat) hf hS (by rw [e15]; exact hOc) ⟨by omega, by omega⟩ (by rw [e15]; exact hn) (by rw [e1]; exact hI.2.1) (by rw [e1, e7]; exact hI.2.2.2.1) (by rw [k1 (66 + Int.toNat c) (by unfold kQ; omega)]; exact hhd c (by omega) (by omega)) (by rw [e15]; exact fun h a b => ⟨by rw [(hu.2.2 h a b).1]; exact ruX_01, by rw [(hu.2.2 h a b).2.1]; exact ofX_01⟩) (by rw [e15, e17]; exact fun h a b => (hst h a b).1)
      rw [e15] at hz
      exact hz) (show 4 + 1 ≤ 7 by decide) 59 cf_X0 rfl sh_59 rfl rfl rfl (Nat.le_of_ble_eq_true rfl) ?_))
        rintro r_52 w_52 ⟨rfl, hF52, hS52, hO52⟩
        have hw1 : WKX u1 (w 15 10).toNat (c + 1).toNat = (snG (woX u1 c) (capX u1) (u1 18) (w 15 10).toNat c (w 15 10).toNat (u1 63 c, (WKX u1 (w 15 10).toNat c.toNat).1, (WKX u1 (w 15 10).toNat c.toNat).2)).2 := wkG_s hci.1
        refine s_iinc (z := (c + 1)) (ls' := [(0, (2, 59)), (1, (0, now)), (2, (0, (c + 1)))]) dX0_pass_55 2 rfl (Nat.le_of_ble_eq_true rfl) (wr_id (by omega) (by omega)) rfl (s_goto 42 dX0_pass_58 (by decide) ?_)
        exact ih (c + 1) w_52 u1 hu h6u (by omega) (hf.tr hF52) (fun x => by rw [hw1]; exact hS52) (by rw [show c + 1 - 1 = c by omega, hw1]; exact ⟨hO52.1, hO52.2.1, fun q => absurd q (Int.lt_irrefl 0), Int.le_refl 0, (by show (0 : Int) ≤ 9999; decide)⟩) (by omega)
  have L_7 : ∀ (fu : Nat) (i : Int) (v9 : Wd), 0 ≤ i ∧ i ≤ w 15 10 → Insp w v9 LN now i → v9 59 16 = 0 → (w 15 10 - i).toNat < fu → AtN mX0_pass 7 ρ 7 [(0, (2, 59)), (1, (0, now)), (2, (0, i))] [] v9 := by
    intro fu
    induction fu with
    | zero => intro i v9 hi hIn h16 hm; exact absurd hm (Nat.not_lt_zero _)
    | succ fu ih =>
      intro i v9 hi hIn h16 hm
      have q15 : v9 15 10 = w 15 10 := by rw [hIn.1.1 15 (by unfold kQ; decide)]
      refine s_iload_n dX0_pass_7 2 rfl (s_aload_n dX0_pass_8 0 rfl rfl (n_getc (q := 15) 59 1 25 dX0_pass_9 cf_X0 ff_X0_55 rfl sh_59 rfl (by decide) rfl (by decide) (n_getf 15 10 0 dX0_pass_12 cf_X3 ff_X0_111 rfl sh_15 rfl (by decide) (v := (v9 15 10)) rfl (s_icmp_ge 40 dX0_pass_15 (by decide) (fun c_15 => ?_) (fun c_15 => ?_)))))
      · skip
        refine s_iconst dX0_pass_40 (by decide) (s_istore_n (ls' := [(0, (2, 59)), (1, (0, now)), (2, (0, 0))]) dX0_pass_41 (Nat.le_of_ble_eq_true rfl) rfl ?_)
        exact L_42 _ 0 v9 v9 (by rw [show w 15 10 = i by omega]; exact hIn) h16 (by omega) FrS.rf (fun x => ⟨rfl, h16, fun j hj => absurd hj (Nat.not_lt_zero j)⟩) ⟨fun h a b => by
      have e21 : v9 21 h = 0 := by rw [hIn.2.1]; unfold zeF; rw [if_pos (by omega)]
      show 0 ≤ v9 21 h ∧ v9 21 h ≤ 7 * v9 17 h
      rw [e21, hIn.1.1 17 (by unfold kQ; decide)]
      have := (hst h a (by omega)).1
      omega, by have := opS_le (cap := capX v9) (lk := v9 21) (w 15 10).toNat; show ((0 : Nat) : Int) + (opS (capX v9) (v9 21) (w 15 10).toNat : Nat) ≤ _; omega, fun q => absurd q (Int.lt_irrefl 0), Int.le_refl 0, (by show (0 : Int) ≤ 9999; decide)⟩ (Nat.lt_succ_self _)
      · skip
        refine s_aload_n dX0_pass_18 0 rfl rfl (s_iload_n dX0_pass_19 2 rfl (s_iload_n dX0_pass_20 1 rfl (n_invV' (as := [(0, i), (0, now)]) dX0_pass_21 kv_X0_inspect ml_X0_114 (c_X_inspect i now v9 s LN ⟨by omega, by omega⟩ (hI.q hIn.1)) (by decide) 59 cf_X0 rfl sh_59 rfl rfl rfl (Nat.le_of_ble_eq_true rfl) ?_)))
        rintro r_21 w_21 ⟨rfl, hF21, hj21⟩
        have e21 : ∀ c, (c = 15 ∨ c = 59) → w_21 c = v9 c := fun c hc => hF21.1 c (by omega) (by omega) (by omega) (by omega) (by omega) (by omega) (by omega) (by omega) (by omega) (by omega)
        refine s_aload_n dX0_pass_24 0 rfl rfl (n_getc (q := 15) 59 1 25 dX0_pass_25 cf_X0 ff_X0_55 rfl sh_59 rfl (by decide) rfl (by decide) (n_getc (q := 21) 15 5 31 dX0_pass_28 cf_X3 ff_X0_118 rfl sh_15 rfl (by decide) rfl (by decide) (s_iload_n dX0_pass_31 2 rfl (s_iconst dX0_pass_32 (by decide) (s_iastore 21 dX0_pass_33 rfl sh_21 (by decide) ⟨(by omega), (by omega)⟩ (s_iinc (z := (i + 1)) (ls' := [(0, (2, 59)), (1, (0, now)), (2, (0, (i + 1)))]) dX0_pass_34 2 rfl (Nat.le_of_ble_eq_true rfl) (wr_id (by omega) (by omega)) rfl (s_goto 7 dX0_pass_37 (by decide) ?_)))))))
        exact ih (i + 1) (wu w_21 21 i 0) (by omega) (hIn.step hi.1 hF21 hj21) (by show w_21 59 16 = 0; rw [e21 59 (by omega)]; exact h16) (by omega)
  refine s_aload_n dX0_pass_0 0 rfl rfl (s_iconst dX0_pass_1 (by decide) (n_putf 59 16 16 dX0_pass_2 cf_X0 ff_X0_108 rfl rfl sh_59 rfl rfl rfl (s_iconst dX0_pass_5 (by decide) (s_istore_n (ls' := [(0, (2, 59)), (1, (0, now)), (2, (0, 0))]) dX0_pass_6 (Nat.le_of_ble_eq_true rfl) rfl ?_))))
  exact L_7 _ 0 (wu w 59 16 0) (by omega) ⟨⟨fun c hc => wu_ne hc.2.2.2.2.2.2.2.2.2.2.2.1, fun j hj => rfl, fun j hj => by rw [wu_at, if_neg hj]⟩, (by funext k; unfold zeF; rw [if_neg (by omega)]; rfl), fun h a b => absurd b (by omega)⟩ rfl (Nat.lt_succ_self _)
