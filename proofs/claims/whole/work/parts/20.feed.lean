/-! FEED. -/
theorem bv_and {x : BitVec 32} {n : Nat} (h : n ≤ 24) : (x >>> n) &&& 255#32 = (x.sshiftRight n) &&& 255#32 := by
  apply BitVec.eq_of_getLsbD_eq
  intro i hi
  rw [BitVec.getLsbD_and, BitVec.getLsbD_and]
  by_cases h8 : i < 8
  · have e : n + i < 32 := by omega
    have e2 : ¬ 32 ≤ i := by omega
    rw [BitVec.getLsbD_ushiftRight, BitVec.getLsbD_sshiftRight]
    simp [e2, e]
  · have e : ∀ i < 32, 8 ≤ i → (255#32).getLsbD i = false := by decide
    rw [e i hi (by omega)]
    simp
theorem byt_24 (v : Int) : iand (iushr v 24) 255 = iand (ishr v 24) 255 := by
  unfold iand iushr ishr
  rw [ofInt_toInt, ofInt_toInt]
  exact congrArg BitVec.toInt (bv_and (x := (Int32.ofInt v).toBitVec) (n := 24) (by decide))
theorem byt_16 (v : Int) : iand (iushr v 16) 255 = iand (ishr v 16) 255 := by
  unfold iand iushr ishr
  rw [ofInt_toInt, ofInt_toInt]
  exact congrArg BitVec.toInt (bv_and (x := (Int32.ofInt v).toBitVec) (n := 16) (by decide))
theorem byt_8 (v : Int) : iand (iushr v 8) 255 = iand (ishr v 8) 255 := by
  unfold iand iushr ishr
  rw [ofInt_toInt, ofInt_toInt]
  exact congrArg BitVec.toInt (bv_and (x := (Int32.ofInt v).toBitVec) (n := 8) (by decide))
theorem byt_0 (v : Int) : iand (iushr v 0) 255 = iand (ishr v 0) 255 := by
  unfold iand iushr ishr
  rw [ofInt_toInt, ofInt_toInt]
  exact congrArg BitVec.toInt (bv_and (x := (Int32.ofInt v).toBitVec) (n := 0) (by decide))
/-- byte r of a word, the first byte first -/
def byt (v r : Int) : Int := iand (ishr v (24 - 8 * r)) 255
theorem byt_u {v k s : Int} (hs : s = 24 - 8 * k) (h0 : 0 ≤ k) (h1 : k ≤ 3) : iand (iushr v s) 255 = byt v k := by
  subst hs
  rcases (show k = 0 ∨ k = 1 ∨ k = 2 ∨ k = 3 from by omega) with rfl | rfl | rfl | rfl
  · exact byt_24 v
  · exact byt_16 v
  · exact byt_8 v
  · exact byt_0 v
/-- the bytes b 0 .. b (i - 1) written behind place n of cell T, the count n + i in cell F at fi -/
def feedW (w : Wd) (T F : Nat) (fi n : Int) (b : Int → Int) (i : Int) : Wd := fun c j => if c = T then (if n ≤ j ∧ j < n + i then b (j - n) else w T j) else if c = F then (if j = fi then n + i else w F j) else w c j
theorem feed0 {w : Wd} {T F : Nat} {fi n : Int} {b : Int → Int} (h : w F fi = n) : w = feedW w T F fi n b 0 := by
  funext c j
  unfold feedW
  by_cases hT : c = T
  · subst hT; rw [if_pos rfl, if_neg (by omega)]
  · rw [if_neg hT]
    by_cases hF : c = F
    · subst hF
      rw [if_pos rfl]
      by_cases hj : j = fi
      · subst hj; rw [if_pos rfl]; omega
      · rw [if_neg hj]
    · rw [if_neg hF]
theorem feedF {w : Wd} {T F : Nat} {fi n i : Int} {b : Int → Int} (h : T ≠ F) : feedW w T F fi n b i F fi = n + i := by
  unfold feedW; rw [if_neg (fun e => h e.symm), if_pos rfl, if_pos rfl]
theorem feedS {w : Wd} {T F : Nat} {fi n i : Int} {b : Int → Int} (h : T ≠ F) (h0 : 0 ≤ i) : wu (wu (feedW w T F fi n b i) T (n + i) (b i)) F fi (n + i + 1) = feedW w T F fi n b (i + 1) := by
  funext c j
  unfold feedW wu
  by_cases hT : c = T
  · subst hT
    simp only [if_neg h, if_true]
    split
    · rename_i e; subst e
      rw [if_pos ⟨by omega, by omega⟩, show n + i - n = i by omega]
    · split <;> split <;> first | rfl | omega
  · by_cases hF : c = F
    · subst hF
      simp only [if_neg hT, if_true]
      split <;> first | rfl | omega
    · simp only [if_neg hT, if_neg hF]
theorem feedC {w : Wd} {T F : Nat} {fi n i k : Int} {b b' : Int → Int} (h : T ≠ F) (h0 : 0 ≤ i) (h1 : 0 ≤ k) : feedW (feedW w T F fi n b i) T F fi (n + i) b' k = feedW w T F fi n (fun j => if j < i then b j else b' (j - i)) (i + k) := by
  funext c j
  unfold feedW
  by_cases hT : c = T
  · subst hT
    simp only [if_true]
    by_cases c1 : n + i ≤ j ∧ j < n + i + k
    · rw [if_pos c1, if_pos (show n ≤ j ∧ j < n + (i + k) by omega), if_neg (show ¬ j - n < i by omega), show j - (n + i) = j - n - i by omega]
    · rw [if_neg c1]
      by_cases c2 : n ≤ j ∧ j < n + i
      · rw [if_pos c2, if_pos (show n ≤ j ∧ j < n + (i + k) by omega), if_pos (show j - n < i by omega)]
      · rw [if_neg c2, if_neg (show ¬ (n ≤ j ∧ j < n + (i + k)) by omega)]
  · by_cases hF : c = F
    · subst hF
      simp only [if_neg hT, if_true]
      split <;> first | rfl | omega
    · simp only [if_neg hT, if_neg hF]
theorem feedB {w : Wd} {T F : Nat} {fi n i : Int} {b b' : Int → Int} (hb : ∀ k, 0 ≤ k → k < i → b k = b' k) : feedW w T F fi n b i = feedW w T F fi n b' i := by
  funext c j
  unfold feedW
  by_cases hT : c = T
  · subst hT
    simp only [if_true]
    by_cases c1 : n ≤ j ∧ j < n + i
    · rw [if_pos c1, if_pos c1, hb _ (by omega) (by omega)]
    · rw [if_neg c1, if_neg c1]
  · rw [if_neg hT, if_neg hT]
/-- byte k of the twenty -/
def fB (a b c d e k : Int) : Int := byt (if k < 4 then a else if k < 8 then b else if k < 12 then c else if k < 16 then d else e) (k % 4)
theorem fB_0 {a b c d e k : Int} (h : k < 4) : fB a b c d e k = byt a (k % 4) := by unfold fB; rw [if_pos h]
theorem fB_1 {a b c d e k : Int} (h : 4 ≤ k) (h1 : k < 8) : fB a b c d e k = byt b (k % 4) := by unfold fB; rw [if_neg (by omega), if_pos h1]
theorem fB_2 {a b c d e k : Int} (h : 8 ≤ k) (h1 : k < 12) : fB a b c d e k = byt c (k % 4) := by unfold fB; rw [if_neg (by omega), if_neg (by omega), if_pos h1]
theorem fB_3 {a b c d e k : Int} (h : 12 ≤ k) (h1 : k < 16) : fB a b c d e k = byt d (k % 4) := by unfold fB; rw [if_neg (by omega), if_neg (by omega), if_neg (by omega), if_pos h1]
theorem fB_4 {a b c d e k : Int} (h : 16 ≤ k) : fB a b c d e k = byt e (k % 4) := by unfold fB; rw [if_neg (by omega), if_neg (by omega), if_neg (by omega), if_neg (by omega)]
set_option maxRecDepth 100000 in
theorem c_X_appendBytes (v : Int) (w : Wd) (h : 0 ≤ w 30 1 ∧ w 30 1 + 4 ≤ 600) : CallN 1 mX8_appendBytes [(2, 30), (0, v)] w (RUQ (fun w1 => w1 = feedW w 31 30 1 (w 30 1) (byt v) 4)) := by
  refine CallN.intro (by decide +kernel) (Nat.le_of_ble_eq_true rfl) (fun ρ hR => ?_)
  show AtN mX8_appendBytes 1 ρ 0 [(0, (2, 30)), (1, (0, v))] [] w
  have L_3 : ∀ (fu : Nat) (s : Int) (k : Int) (v9 : Wd), 0 ≤ k ∧ k ≤ 4 → s = 24 - 8 * k → v9 = feedW w 31 30 1 (w 30 1) (byt v) k → (4 - k).toNat < fu → AtN mX8_appendBytes 1 ρ 3 [(0, (2, 30)), (1, (0, v)), (2, (0, s))] [] v9 := by
    intro fu
    induction fu with
    | zero => intro s k v9 hk hs hw hm; exact absurd hm (Nat.not_lt_zero _)
    | succ fu ih =>
      intro s k v9 hk hs hw hm
      have q1 : v9 30 1 = w 30 1 + k := by rw [hw]; exact feedF (by decide)
      refine s_iload_n dX8_appendBytes_3 2 rfl (s_if_lt 49 dX8_appendBytes_4 (by decide) (fun c_4 => ?_) (fun c_4 => ?_))
      · skip
        refine n_ret dX8_appendBytes_49 hR rfl ?_
        have e9 : k = 4 := by omega
        rw [e9] at hw
        exact ⟨rfl, hw⟩
      · skip
        refine s_aload_n dX8_appendBytes_7 0 rfl rfl (n_getf 30 1 0 dX8_appendBytes_8 cf_X8 ff_X8_24 rfl sh_30 rfl (by decide) (v := (v9 30 1)) rfl (s_sipush dX8_appendBytes_11 (by decide) (s_icmp_ge 43 dX8_appendBytes_14 (by decide) (fun c_14 => ?_) (fun c_14 => ?_))))
        · skip
          exfalso; omega
        · skip
          refine s_aload_n dX8_appendBytes_17 0 rfl rfl (n_getc (q := 31) 30 0 41 dX8_appendBytes_18 cf_X8 ff_X8_11 rfl sh_30 rfl (by decide) rfl (by decide) (s_aload_n dX8_appendBytes_21 0 rfl rfl (n_getf 30 1 0 dX8_appendBytes_22 cf_X8 ff_X8_24 rfl sh_30 rfl (by decide) (v := (v9 30 1)) rfl (s_iload_n dX8_appendBytes_25 1 rfl (s_iload_n dX8_appendBytes_26 2 rfl (s_iushr dX8_appendBytes_27 (s_sipush dX8_appendBytes_28 (by decide) (s_iand dX8_appendBytes_31 (s_iastore 31 dX8_appendBytes_32 rfl sh_31 (by decide) ⟨(by omega), (by omega)⟩ ?_)))))))))
          refine s_aload_n dX8_appendBytes_33 0 rfl rfl (s_dup dX8_appendBytes_34 (show (2 : Nat) ≠ 1 by decide) (n_getf 30 1 0 dX8_appendBytes_35 cf_X8 ff_X8_24 rfl sh_30 rfl (by decide) (v := (v9 30 1)) rfl (s_iconst dX8_appendBytes_38 (by decide) (n_add (z := ((v9 30 1) + 1)) dX8_appendBytes_39 (wr_id (by omega) (by omega)) (n_putf 30 1 1 dX8_appendBytes_40 cf_X8 ff_X8_24 rfl rfl sh_30 rfl rfl rfl (s_iinc (z := (s + (-8))) (ls' := [(0, (2, 30)), (1, (0, v)), (2, (0, (s + (-8))))]) dX8_appendBytes_43 2 rfl (Nat.le_of_ble_eq_true rfl) (wr_id (by omega) (by omega)) rfl (s_goto 3 dX8_appendBytes_46 (by decide) ?_)))))))
          exact ih (s + (-8)) (k + 1) (wu (wu v9 31 (v9 30 1) (iand (iushr v s) 255)) 30 1 ((v9 30 1) + 1)) (by omega) (by omega) (by rw [q1, byt_u hs (by omega) (by omega), hw]; exact feedS (by decide) (by omega)) (by omega)
  refine s_bipush dX8_appendBytes_0 (by decide) (s_istore_n (ls' := [(0, (2, 30)), (1, (0, v)), (2, (0, 24))]) dX8_appendBytes_2 (Nat.le_of_ble_eq_true rfl) rfl ?_)
  exact L_3 _ 24 0 w (by omega) (by omega) (feed0 rfl) (Nat.lt_succ_self _)

set_option maxRecDepth 100000 in
theorem c_X_append (a b c d e : Int) (w : Wd) (h : 0 ≤ w 30 1 ∧ w 30 1 ≤ 600) : CallN 2 mX8_append [(2, 30), (0, a), (0, b), (0, c), (0, d), (0, e)] w (RQ (fun z w1 => (w 30 1 + 20 ≤ 600 ∧ z = w 30 1 + 20 ∧ w1 = feedW w 31 30 1 (w 30 1) (fB a b c d e) 20) ∨ (600 < w 30 1 + 20 ∧ z = -1 ∧ w1 = w))) := by
  refine CallN.intro (by decide +kernel) (Nat.le_of_ble_eq_true rfl) (fun ρ hR => ?_)
  show AtN mX8_append 2 ρ 0 [(0, (2, 30)), (1, (0, a)), (2, (0, b)), (3, (0, c)), (4, (0, d)), (5, (0, e))] [] w
  refine s_aload_n dX8_append_0 0 rfl rfl (n_getf 30 1 0 dX8_append_1 cf_X8 ff_X8_24 rfl sh_30 rfl (by decide) (v := (w 30 1)) rfl (s_bipush dX8_append_4 (by decide) (n_add (z := ((w 30 1) + 20)) dX8_append_6 (wr_id (by omega) (by omega)) (s_sipush dX8_append_7 (by decide) (s_icmp_le 15 dX8_append_10 (by decide) (fun c_10 => ?_) (fun c_10 => ?_))))))
  · skip
    refine s_aload_n dX8_append_15 0 rfl rfl (s_iload_n dX8_append_16 1 rfl (n_invV' (as := [(0, a)]) dX8_append_17 kv_X8_appendBytes ml_X8_28 (c_X_appendBytes a w ⟨by omega, by omega⟩) (by decide) 30 cf_X8 rfl sh_30 rfl rfl rfl (Nat.le_of_ble_eq_true rfl) ?_))
    rintro r_17 w_17 ⟨rfl, hz_17⟩
    have t_17 : w_17 = feedW w 31 30 1 (w 30 1) (byt a) 4 := hz_17
    have s_17 : w_17 30 1 = w 30 1 + 4 := by rw [t_17]; exact feedF (by decide)
    refine s_aload_n dX8_append_20 0 rfl rfl (s_iload_n dX8_append_21 2 rfl (n_invV' (as := [(0, b)]) dX8_append_22 kv_X8_appendBytes ml_X8_28 (c_X_appendBytes b w_17 ⟨by omega, by omega⟩) (by decide) 30 cf_X8 rfl sh_30 rfl rfl rfl (Nat.le_of_ble_eq_true rfl) ?_))
    rintro r_22 w_22 ⟨rfl, hz_22⟩
    have t_22 : w_22 = feedW w 31 30 1 (w 30 1) (fun j => if j < 4 then (byt a) j else byt b (j - 4)) 8 := by rw [hz_22, s_17, t_17]; exact feedC (by decide) (by decide) (by decide)
    have s_22 : w_22 30 1 = w 30 1 + 8 := by rw [t_22]; exact feedF (by decide)
    refine s_aload_n dX8_append_25 0 rfl rfl (s_iload_n dX8_append_26 3 rfl (n_invV' (as := [(0, c)]) dX8_append_27 kv_X8_appendBytes ml_X8_28 (c_X_appendBytes c w_22 ⟨by omega, by omega⟩) (by decide) 30 cf_X8 rfl sh_30 rfl rfl rfl (Nat.le_of_ble_eq_true rfl) ?_))
    rintro r_27 w_27 ⟨rfl, hz_27⟩
    have t_27 : w_27 = feedW w 31 30 1 (w 30 1) (fun j => if j < 8 then (fun j => if j < 4 then (byt a) j else byt b (j - 4)) j else byt c (j - 8)) 12 := by rw [hz_27, s_22, t_22]; exact feedC (by decide) (by decide) (by decide)
    have s_27 : w_27 30 1 = w 30 1 + 12 := by rw [t_27]; exact feedF (by decide)
    refine s_aload_n dX8_append_30 0 rfl rfl (s_iload dX8_append_31 4 rfl (n_invV' (as := [(0, d)]) dX8_append_33 kv_X8_appendBytes ml_X8_28 (c_X_appendBytes d w_27 ⟨by omega, by omega⟩) (by decide) 30 cf_X8 rfl sh_30 rfl rfl rfl (Nat.le_of_ble_eq_true rfl) ?_))
    rintro r_33 w_33 ⟨rfl, hz_33⟩
    have t_33 : w_33 = feedW w 31 30 1 (w 30 1) (fun j => if j < 12 then (fun j => if j < 8 then (fun j => if j < 4 then (byt a) j else byt b (j - 4)) j else byt c (j - 8)) j else byt d (j - 12)) 16 := by rw [hz_33, s_27, t_27]; exact feedC (by decide) (by decide) (by decide)
    have s_33 : w_33 30 1 = w 30 1 + 16 := by rw [t_33]; exact feedF (by decide)
    refine s_aload_n dX8_append_36 0 rfl rfl (s_iload dX8_append_37 5 rfl (n_invV' (as := [(0, e)]) dX8_append_39 kv_X8_appendBytes ml_X8_28 (c_X_appendBytes e w_33 ⟨by omega, by omega⟩) (by decide) 30 cf_X8 rfl sh_30 rfl rfl rfl (Nat.le_of_ble_eq_true rfl) ?_))
    rintro r_39 w_39 ⟨rfl, hz_39⟩
    have t_39 : w_39 = feedW w 31 30 1 (w 30 1) (fun j => if j < 16 then (fun j => if j < 12 then (fun j => if j < 8 then (fun j => if j < 4 then (byt a) j else byt b (j - 4)) j else byt c (j - 8)) j else byt d (j - 12)) j else byt e (j - 16)) 20 := by rw [hz_39, s_33, t_33]; exact feedC (by decide) (by decide) (by decide)
    have s_39 : w_39 30 1 = w 30 1 + 20 := by rw [t_39]; exact feedF (by decide)
    refine s_aload_n dX8_append_42 0 rfl rfl (n_getf 30 1 0 dX8_append_43 cf_X8 ff_X8_24 rfl sh_30 rfl (by decide) (v := (w_39 30 1)) rfl (n_iret dX8_append_46 hR rfl ?_))
    first
    | exact ⟨_, rfl, Or.inr ⟨by omega, rfl, rfl⟩⟩
    | (refine ⟨_, rfl, Or.inl ⟨by omega, s_39, ?_⟩⟩
       rw [t_39]
       refine feedB (fun k k0 k1 => ?_)
       by_cases x3 : k < 16
       · by_cases x2 : k < 12
         · by_cases x1 : k < 8
           · by_cases x0 : k < 4
             · rw [fB_0 x0]; simp only [x3, x2, x1, x0, if_true]; rw [show k % 4 = k from by omega]
             · rw [fB_1 (by omega) x1]; simp only [x3, x2, x1, x0, if_true, if_false]; rw [show k % 4 = k - 4 from by omega]
           · rw [fB_2 (by omega) x2]; simp only [x3, x2, x1, if_true, if_false]; rw [show k % 4 = k - 8 from by omega]
         · rw [fB_3 (by omega) x3]; simp only [x3, x2, if_true, if_false]; rw [show k % 4 = k - 12 from by omega]
       · rw [fB_4 (by omega)]; simp only [x3, if_false]; rw [show k % 4 = k - 16 from by omega])
  · skip
    refine s_iconst dX8_append_13 (by decide) (n_iret dX8_append_14 hR rfl ?_)
    first
    | exact ⟨_, rfl, Or.inr ⟨by omega, rfl, rfl⟩⟩
    | (refine ⟨_, rfl, Or.inl ⟨by omega, s_39, ?_⟩⟩
       rw [t_39]
       refine feedB (fun k k0 k1 => ?_)
       by_cases x3 : k < 16
       · by_cases x2 : k < 12
         · by_cases x1 : k < 8
           · by_cases x0 : k < 4
             · rw [fB_0 x0]; simp only [x3, x2, x1, x0, if_true]; rw [show k % 4 = k from by omega]
             · rw [fB_1 (by omega) x1]; simp only [x3, x2, x1, x0, if_true, if_false]; rw [show k % 4 = k - 4 from by omega]
           · rw [fB_2 (by omega) x2]; simp only [x3, x2, x1, if_true, if_false]; rw [show k % 4 = k - 8 from by omega]
         · rw [fB_3 (by omega) x3]; simp only [x3, x2, if_true, if_false]; rw [show k % 4 = k - 12 from by omega]
       · rw [fB_4 (by omega)]; simp only [x3, if_false]; rw [show k % 4 = k - 16 from by omega])

set_option maxRecDepth 100000 in
theorem x_feed (a b c d e : Int) (w : Wd) (h : 0 ≤ w 30 1 ∧ w 30 1 ≤ 600) : CallN 3 mX11_feed [(2, 0), (0, a), (0, b), (0, c), (0, d), (0, e)] w (RQ (fun z w1 => (w 30 1 + 20 ≤ 600 ∧ z = w 30 1 + 20 ∧ w1 = feedW w 31 30 1 (w 30 1) (fB a b c d e) 20) ∨ (600 < w 30 1 + 20 ∧ z = -1 ∧ w1 = w))) := by
  refine CallN.intro (by decide +kernel) (Nat.le_of_ble_eq_true rfl) (fun ρ hR => ?_)
  show AtN mX11_feed 3 ρ 0 [(0, (2, 0)), (1, (0, a)), (2, (0, b)), (3, (0, c)), (4, (0, d)), (5, (0, e))] [] w
  refine s_aload_n dX11_feed_0 0 rfl rfl (n_getc (q := 30) 0 2 40 dX11_feed_1 cf_X11 ff_X11_26 rfl sh_0 rfl (by decide) rfl (by decide) (s_iload_n dX11_feed_4 1 rfl (s_iload_n dX11_feed_5 2 rfl (s_iload_n dX11_feed_6 3 rfl (s_iload dX11_feed_7 4 rfl (s_iload dX11_feed_9 5 rfl (n_invV' (as := [(0, a), (0, b), (0, c), (0, d), (0, e)]) dX11_feed_11 kv_X8_append ml_X11_155 (c_X_append a b c d e w h) (by decide) 30 cf_X8 rfl sh_30 rfl rfl rfl (Nat.le_of_ble_eq_true rfl) ?_)))))))
  rintro r_11 w_11 ⟨z_11, rfl, hz_11⟩
  show AtN _ _ ρ _ _ [(0, z_11)] w_11
  refine n_iret dX11_feed_14 hR rfl ?_
  exact ⟨_, rfl, hz_11⟩

set_option maxRecDepth 100000 in
theorem m_feed (a b c d e : Int) (w : Wd) (h : 0 ≤ w 141 50 ∧ w 141 50 ≤ 600) : CallN 1 mX12_feed [(2, 141), (0, a), (0, b), (0, c), (0, d), (0, e)] w (RQ (fun z w1 => (w 141 50 + 20 ≤ 600 ∧ z = w 141 50 + 20 ∧ w1 = feedW w 178 141 50 (w 141 50) (fB a b c d e) 20) ∨ (600 < w 141 50 + 20 ∧ z = -1 ∧ w1 = w))) := by
  refine CallN.intro (by decide +kernel) (Nat.le_of_ble_eq_true rfl) (fun ρ hR => ?_)
  show AtN mX12_feed 1 ρ 0 [(0, (2, 141)), (1, (0, a)), (2, (0, b)), (3, (0, c)), (4, (0, d)), (5, (0, e))] [] w
  have L_18 : ∀ (fu : Nat) (i : Int) (v9 : Wd), w 141 50 + 20 ≤ 600 → 0 ≤ i ∧ i ≤ 20 → v9 = feedW w 178 141 50 (w 141 50) (fB a b c d e) i → (20 - i).toNat < fu → AtN mX12_feed 1 ρ 18 [(0, (2, 141)), (1, (0, a)), (2, (0, b)), (3, (0, c)), (4, (0, d)), (5, (0, e)), (6, (0, i))] [] v9 := by
    intro fu
    induction fu with
    | zero => intro i v9 h6 hi hw hm; exact absurd hm (Nat.not_lt_zero _)
    | succ fu ih =>
      intro i v9 h6 hi hw hm
      have q1 : v9 141 50 = w 141 50 + i := by rw [hw]; exact feedF (by decide)
      refine s_iload dX12_feed_18 6 rfl (s_bipush dX12_feed_20 (by decide) (s_icmp_ge 115 dX12_feed_22 (by decide) (fun c_22 => ?_) (fun c_22 => ?_)))
      · skip
        refine s_aload_n dX12_feed_115 0 rfl rfl (n_getf 141 50 0 dX12_feed_116 cf_X12 ff_X12_277 rfl sh_141 rfl (by decide) (v := (v9 141 50)) rfl (n_iret dX12_feed_119 hR rfl ?_))
        first
        | exact ⟨_, rfl, Or.inr ⟨by omega, rfl, rfl⟩⟩
        | (have e9 : i = 20 := (by omega)
           rw [e9] at hw q1
           exact ⟨_, rfl, Or.inl ⟨by omega, q1, hw⟩⟩)
      · skip
        refine s_iload dX12_feed_25 6 rfl (s_iconst dX12_feed_27 (by decide) (s_icmp_ge 35 dX12_feed_28 (by decide) (fun c_28 => ?_) (fun c_28 => ?_)))
        · skip
          refine s_iload dX12_feed_35 6 rfl (s_bipush dX12_feed_37 (by decide) (s_icmp_ge 46 dX12_feed_39 (by decide) (fun c_39 => ?_) (fun c_39 => ?_)))
          · skip
            refine s_iload dX12_feed_46 6 rfl (s_bipush dX12_feed_48 (by decide) (s_icmp_ge 57 dX12_feed_50 (by decide) (fun c_50 => ?_) (fun c_50 => ?_)))
            · skip
              refine s_iload dX12_feed_57 6 rfl (s_bipush dX12_feed_59 (by decide) (s_icmp_ge 69 dX12_feed_61 (by decide) (fun c_61 => ?_) (fun c_61 => ?_)))
              · skip
                refine s_iload dX12_feed_69 5 rfl (s_istore (ls' := [(0, (2, 141)), (1, (0, a)), (2, (0, b)), (3, (0, c)), (4, (0, d)), (5, (0, e)), (6, (0, i)), (7, (0, e))]) dX12_feed_71 (Nat.le_of_ble_eq_true rfl) rfl (s_aload_n dX12_feed_73 0 rfl rfl (n_getc (q := 178) 141 46 188 dX12_feed_74 cf_X12 ff_X12_119 rfl sh_141 rfl (by decide) rfl (by decide) (s_aload_n dX12_feed_77 0 rfl rfl (n_getf 141 50 0 dX12_feed_78 cf_X12 ff_X12_277 rfl sh_141 rfl (by decide) (v := (v9 141 50)) rfl (s_iload dX12_feed_81 7 rfl (s_bipush dX12_feed_83 (by decide) (s_bipush dX12_feed_85 (by decide) (s_iload dX12_feed_87 6 rfl ?_)))))))))
                refine s_iconst dX12_feed_89 (by decide) (s_irem dX12_feed_90 (by omega) (by omega) (n_mul (z := (8 * (i % 4))) dX12_feed_91 (wr_id (by omega) (by omega)) (n_sub (z := (24 - (8 * (i % 4)))) dX12_feed_92 (wr_id (by omega) (by omega)) (s_ishr dX12_feed_93 (s_sipush dX12_feed_94 (by decide) (s_iand dX12_feed_97 (s_iastore 178 dX12_feed_98 rfl sh_178 (by decide) ⟨(by omega), (by omega)⟩ (s_aload_n dX12_feed_99 0 rfl rfl (s_dup dX12_feed_100 (show (2 : Nat) ≠ 1 by decide) ?_)))))))))
                refine n_getf 141 50 0 dX12_feed_101 cf_X12 ff_X12_277 rfl sh_141 rfl (by decide) (v := (v9 141 50)) rfl (s_iconst dX12_feed_104 (by decide) (n_add (z := ((v9 141 50) + 1)) dX12_feed_105 (wr_id (by omega) (by omega)) (n_putf 141 50 50 dX12_feed_106 cf_X12 ff_X12_277 rfl rfl sh_141 rfl rfl rfl (s_iinc (z := (i + 1)) (ls' := [(0, (2, 141)), (1, (0, a)), (2, (0, b)), (3, (0, c)), (4, (0, d)), (5, (0, e)), (6, (0, (i + 1))), (7, (0, e))]) dX12_feed_109 6 rfl (Nat.le_of_ble_eq_true rfl) (wr_id (by omega) (by omega)) rfl (s_goto 18 dX12_feed_112 (by decide) ?_)))))
                exact At.keep (ls' := [(0, (2, 141)), (1, (0, a)), (2, (0, b)), (3, (0, c)), (4, (0, d)), (5, (0, e)), (6, (0, (i + 1)))]) [0, 1, 2, 3, 4, 5, 6] rfl (ih (i + 1) (wu (wu v9 178 (v9 141 50) (iand (ishr e (24 - (8 * (i % 4)))) 255)) 141 50 ((v9 141 50) + 1)) (by omega) (by omega) (by rw [q1, hw]; first | (rw [show iand (ishr a (24 - (8 * (i % 4)))) 255 = fB a b c d e i from (fB_0 (by omega)).symm]; exact feedS (by decide) (by omega)) | (rw [show iand (ishr b (24 - (8 * (i % 4)))) 255 = fB a b c d e i from (fB_1 (by omega) (by omega)).symm]; exact feedS (by decide) (by omega)) | (rw [show iand (ishr c (24 - (8 * (i % 4)))) 255 = fB a b c d e i from (fB_2 (by omega) (by omega)).symm]; exact feedS (by decide) (by omega)) | (rw [show iand (ishr d (24 - (8 * (i % 4)))) 255 = fB a b c d e i from (fB_3 (by omega) (by omega)).symm]; exact feedS (by decide) (by omega)) | (rw [show iand (ishr e (24 - (8 * (i % 4)))) 255 = fB a b c d e i from (fB_4 (by omega)).symm]; exact feedS (by decide) (by omega))) (by omega))
              · skip
                refine s_iload dX12_feed_64 4 rfl (s_goto 71 dX12_feed_66 (by decide) (s_istore (ls' := [(0, (2, 141)), (1, (0, a)), (2, (0, b)), (3, (0, c)), (4, (0, d)), (5, (0, e)), (6, (0, i)), (7, (0, d))]) dX12_feed_71 (Nat.le_of_ble_eq_true rfl) rfl (s_aload_n dX12_feed_73 0 rfl rfl (n_getc (q := 178) 141 46 188 dX12_feed_74 cf_X12 ff_X12_119 rfl sh_141 rfl (by decide) rfl (by decide) (s_aload_n dX12_feed_77 0 rfl rfl (n_getf 141 50 0 dX12_feed_78 cf_X12 ff_X12_277 rfl sh_141 rfl (by decide) (v := (v9 141 50)) rfl (s_iload dX12_feed_81 7 rfl (s_bipush dX12_feed_83 (by decide) (s_bipush dX12_feed_85 (by decide) ?_)))))))))
                refine s_iload dX12_feed_87 6 rfl (s_iconst dX12_feed_89 (by decide) (s_irem dX12_feed_90 (by omega) (by omega) (n_mul (z := (8 * (i % 4))) dX12_feed_91 (wr_id (by omega) (by omega)) (n_sub (z := (24 - (8 * (i % 4)))) dX12_feed_92 (wr_id (by omega) (by omega)) (s_ishr dX12_feed_93 (s_sipush dX12_feed_94 (by decide) (s_iand dX12_feed_97 (s_iastore 178 dX12_feed_98 rfl sh_178 (by decide) ⟨(by omega), (by omega)⟩ (s_aload_n dX12_feed_99 0 rfl rfl ?_)))))))))
                refine s_dup dX12_feed_100 (show (2 : Nat) ≠ 1 by decide) (n_getf 141 50 0 dX12_feed_101 cf_X12 ff_X12_277 rfl sh_141 rfl (by decide) (v := (v9 141 50)) rfl (s_iconst dX12_feed_104 (by decide) (n_add (z := ((v9 141 50) + 1)) dX12_feed_105 (wr_id (by omega) (by omega)) (n_putf 141 50 50 dX12_feed_106 cf_X12 ff_X12_277 rfl rfl sh_141 rfl rfl rfl (s_iinc (z := (i + 1)) (ls' := [(0, (2, 141)), (1, (0, a)), (2, (0, b)), (3, (0, c)), (4, (0, d)), (5, (0, e)), (6, (0, (i + 1))), (7, (0, d))]) dX12_feed_109 6 rfl (Nat.le_of_ble_eq_true rfl) (wr_id (by omega) (by omega)) rfl (s_goto 18 dX12_feed_112 (by decide) ?_))))))
                exact At.keep (ls' := [(0, (2, 141)), (1, (0, a)), (2, (0, b)), (3, (0, c)), (4, (0, d)), (5, (0, e)), (6, (0, (i + 1)))]) [0, 1, 2, 3, 4, 5, 6] rfl (ih (i + 1) (wu (wu v9 178 (v9 141 50) (iand (ishr d (24 - (8 * (i % 4)))) 255)) 141 50 ((v9 141 50) + 1)) (by omega) (by omega) (by rw [q1, hw]; first | (rw [show iand (ishr a (24 - (8 * (i % 4)))) 255 = fB a b c d e i from (fB_0 (by omega)).symm]; exact feedS (by decide) (by omega)) | (rw [show iand (ishr b (24 - (8 * (i % 4)))) 255 = fB a b c d e i from (fB_1 (by omega) (by omega)).symm]; exact feedS (by decide) (by omega)) | (rw [show iand (ishr c (24 - (8 * (i % 4)))) 255 = fB a b c d e i from (fB_2 (by omega) (by omega)).symm]; exact feedS (by decide) (by omega)) | (rw [show iand (ishr d (24 - (8 * (i % 4)))) 255 = fB a b c d e i from (fB_3 (by omega) (by omega)).symm]; exact feedS (by decide) (by omega)) | (rw [show iand (ishr e (24 - (8 * (i % 4)))) 255 = fB a b c d e i from (fB_4 (by omega)).symm]; exact feedS (by decide) (by omega))) (by omega))
            · skip
              refine s_iload_n dX12_feed_53 3 rfl (s_goto 71 dX12_feed_54 (by decide) (s_istore (ls' := [(0, (2, 141)), (1, (0, a)), (2, (0, b)), (3, (0, c)), (4, (0, d)), (5, (0, e)), (6, (0, i)), (7, (0, c))]) dX12_feed_71 (Nat.le_of_ble_eq_true rfl) rfl (s_aload_n dX12_feed_73 0 rfl rfl (n_getc (q := 178) 141 46 188 dX12_feed_74 cf_X12 ff_X12_119 rfl sh_141 rfl (by decide) rfl (by decide) (s_aload_n dX12_feed_77 0 rfl rfl (n_getf 141 50 0 dX12_feed_78 cf_X12 ff_X12_277 rfl sh_141 rfl (by decide) (v := (v9 141 50)) rfl (s_iload dX12_feed_81 7 rfl (s_bipush dX12_feed_83 (by decide) (s_bipush dX12_feed_85 (by decide) ?_)))))))))
              refine s_iload dX12_feed_87 6 rfl (s_iconst dX12_feed_89 (by decide) (s_irem dX12_feed_90 (by omega) (by omega) (n_mul (z := (8 * (i % 4))) dX12_feed_91 (wr_id (by omega) (by omega)) (n_sub (z := (24 - (8 * (i % 4)))) dX12_feed_92 (wr_id (by omega) (by omega)) (s_ishr dX12_feed_93 (s_sipush dX12_feed_94 (by decide) (s_iand dX12_feed_97 (s_iastore 178 dX12_feed_98 rfl sh_178 (by decide) ⟨(by omega), (by omega)⟩ (s_aload_n dX12_feed_99 0 rfl rfl ?_)))))))))
              refine s_dup dX12_feed_100 (show (2 : Nat) ≠ 1 by decide) (n_getf 141 50 0 dX12_feed_101 cf_X12 ff_X12_277 rfl sh_141 rfl (by decide) (v := (v9 141 50)) rfl (s_iconst dX12_feed_104 (by decide) (n_add (z := ((v9 141 50) + 1)) dX12_feed_105 (wr_id (by omega) (by omega)) (n_putf 141 50 50 dX12_feed_106 cf_X12 ff_X12_277 rfl rfl sh_141 rfl rfl rfl (s_iinc (z := (i + 1)) (ls' := [(0, (2, 141)), (1, (0, a)), (2, (0, b)), (3, (0, c)), (4, (0, d)), (5, (0, e)), (6, (0, (i + 1))), (7, (0, c))]) dX12_feed_109 6 rfl (Nat.le_of_ble_eq_true rfl) (wr_id (by omega) (by omega)) rfl (s_goto 18 dX12_feed_112 (by decide) ?_))))))
              exact At.keep (ls' := [(0, (2, 141)), (1, (0, a)), (2, (0, b)), (3, (0, c)), (4, (0, d)), (5, (0, e)), (6, (0, (i + 1)))]) [0, 1, 2, 3, 4, 5, 6] rfl (ih (i + 1) (wu (wu v9 178 (v9 141 50) (iand (ishr c (24 - (8 * (i % 4)))) 255)) 141 50 ((v9 141 50) + 1)) (by omega) (by omega) (by rw [q1, hw]; first | (rw [show iand (ishr a (24 - (8 * (i % 4)))) 255 = fB a b c d e i from (fB_0 (by omega)).symm]; exact feedS (by decide) (by omega)) | (rw [show iand (ishr b (24 - (8 * (i % 4)))) 255 = fB a b c d e i from (fB_1 (by omega) (by omega)).symm]; exact feedS (by decide) (by omega)) | (rw [show iand (ishr c (24 - (8 * (i % 4)))) 255 = fB a b c d e i from (fB_2 (by omega) (by omega)).symm]; exact feedS (by decide) (by omega)) | (rw [show iand (ishr d (24 - (8 * (i % 4)))) 255 = fB a b c d e i from (fB_3 (by omega) (by omega)).symm]; exact feedS (by decide) (by omega)) | (rw [show iand (ishr e (24 - (8 * (i % 4)))) 255 = fB a b c d e i from (fB_4 (by omega)).symm]; exact feedS (by decide) (by omega))) (by omega))
          · skip
            refine s_iload_n dX12_feed_42 2 rfl (s_goto 71 dX12_feed_43 (by decide) (s_istore (ls' := [(0, (2, 141)), (1, (0, a)), (2, (0, b)), (3, (0, c)), (4, (0, d)), (5, (0, e)), (6, (0, i)), (7, (0, b))]) dX12_feed_71 (Nat.le_of_ble_eq_true rfl) rfl (s_aload_n dX12_feed_73 0 rfl rfl (n_getc (q := 178) 141 46 188 dX12_feed_74 cf_X12 ff_X12_119 rfl sh_141 rfl (by decide) rfl (by decide) (s_aload_n dX12_feed_77 0 rfl rfl (n_getf 141 50 0 dX12_feed_78 cf_X12 ff_X12_277 rfl sh_141 rfl (by decide) (v := (v9 141 50)) rfl (s_iload dX12_feed_81 7 rfl (s_bipush dX12_feed_83 (by decide) (s_bipush dX12_feed_85 (by decide) ?_)))))))))
            refine s_iload dX12_feed_87 6 rfl (s_iconst dX12_feed_89 (by decide) (s_irem dX12_feed_90 (by omega) (by omega) (n_mul (z := (8 * (i % 4))) dX12_feed_91 (wr_id (by omega) (by omega)) (n_sub (z := (24 - (8 * (i % 4)))) dX12_feed_92 (wr_id (by omega) (by omega)) (s_ishr dX12_feed_93 (s_sipush dX12_feed_94 (by decide) (s_iand dX12_feed_97 (s_iastore 178 dX12_feed_98 rfl sh_178 (by decide) ⟨(by omega), (by omega)⟩ (s_aload_n dX12_feed_99 0 rfl rfl ?_)))))))))
            refine s_dup dX12_feed_100 (show (2 : Nat) ≠ 1 by decide) (n_getf 141 50 0 dX12_feed_101 cf_X12 ff_X12_277 rfl sh_141 rfl (by decide) (v := (v9 141 50)) rfl (s_iconst dX12_feed_104 (by decide) (n_add (z := ((v9 141 50) + 1)) dX12_feed_105 (wr_id (by omega) (by omega)) (n_putf 141 50 50 dX12_feed_106 cf_X12 ff_X12_277 rfl rfl sh_141 rfl rfl rfl (s_iinc (z := (i + 1)) (ls' := [(0, (2, 141)), (1, (0, a)), (2, (0, b)), (3, (0, c)), (4, (0, d)), (5, (0, e)), (6, (0, (i + 1))), (7, (0, b))]) dX12_feed_109 6 rfl (Nat.le_of_ble_eq_true rfl) (wr_id (by omega) (by omega)) rfl (s_goto 18 dX12_feed_112 (by decide) ?_))))))
            exact At.keep (ls' := [(0, (2, 141)), (1, (0, a)), (2, (0, b)), (3, (0, c)), (4, (0, d)), (5, (0, e)), (6, (0, (i + 1)))]) [0, 1, 2, 3, 4, 5, 6] rfl (ih (i + 1) (wu (wu v9 178 (v9 141 50) (iand (ishr b (24 - (8 * (i % 4)))) 255)) 141 50 ((v9 141 50) + 1)) (by omega) (by omega) (by rw [q1, hw]; first | (rw [show iand (ishr a (24 - (8 * (i % 4)))) 255 = fB a b c d e i from (fB_0 (by omega)).symm]; exact feedS (by decide) (by omega)) | (rw [show iand (ishr b (24 - (8 * (i % 4)))) 255 = fB a b c d e i from (fB_1 (by omega) (by omega)).symm]; exact feedS (by decide) (by omega)) | (rw [show iand (ishr c (24 - (8 * (i % 4)))) 255 = fB a b c d e i from (fB_2 (by omega) (by omega)).symm]; exact feedS (by decide) (by omega)) | (rw [show iand (ishr d (24 - (8 * (i % 4)))) 255 = fB a b c d e i from (fB_3 (by omega) (by omega)).symm]; exact feedS (by decide) (by omega)) | (rw [show iand (ishr e (24 - (8 * (i % 4)))) 255 = fB a b c d e i from (fB_4 (by omega)).symm]; exact feedS (by decide) (by omega))) (by omega))
        · skip
          refine s_iload_n dX12_feed_31 1 rfl (s_goto 71 dX12_feed_32 (by decide) (s_istore (ls' := [(0, (2, 141)), (1, (0, a)), (2, (0, b)), (3, (0, c)), (4, (0, d)), (5, (0, e)), (6, (0, i)), (7, (0, a))]) dX12_feed_71 (Nat.le_of_ble_eq_true rfl) rfl (s_aload_n dX12_feed_73 0 rfl rfl (n_getc (q := 178) 141 46 188 dX12_feed_74 cf_X12 ff_X12_119 rfl sh_141 rfl (by decide) rfl (by decide) (s_aload_n dX12_feed_77 0 rfl rfl (n_getf 141 50 0 dX12_feed_78 cf_X12 ff_X12_277 rfl sh_141 rfl (by decide) (v := (v9 141 50)) rfl (s_iload dX12_feed_81 7 rfl (s_bipush dX12_feed_83 (by decide) (s_bipush dX12_feed_85 (by decide) ?_)))))))))
          refine s_iload dX12_feed_87 6 rfl (s_iconst dX12_feed_89 (by decide) (s_irem dX12_feed_90 (by omega) (by omega) (n_mul (z := (8 * (i % 4))) dX12_feed_91 (wr_id (by omega) (by omega)) (n_sub (z := (24 - (8 * (i % 4)))) dX12_feed_92 (wr_id (by omega) (by omega)) (s_ishr dX12_feed_93 (s_sipush dX12_feed_94 (by decide) (s_iand dX12_feed_97 (s_iastore 178 dX12_feed_98 rfl sh_178 (by decide) ⟨(by omega), (by omega)⟩ (s_aload_n dX12_feed_99 0 rfl rfl ?_)))))))))
          refine s_dup dX12_feed_100 (show (2 : Nat) ≠ 1 by decide) (n_getf 141 50 0 dX12_feed_101 cf_X12 ff_X12_277 rfl sh_141 rfl (by decide) (v := (v9 141 50)) rfl (s_iconst dX12_feed_104 (by decide) (n_add (z := ((v9 141 50) + 1)) dX12_feed_105 (wr_id (by omega) (by omega)) (n_putf 141 50 50 dX12_feed_106 cf_X12 ff_X12_277 rfl rfl sh_141 rfl rfl rfl (s_iinc (z := (i + 1)) (ls' := [(0, (2, 141)), (1, (0, a)), (2, (0, b)), (3, (0, c)), (4, (0, d)), (5, (0, e)), (6, (0, (i + 1))), (7, (0, a))]) dX12_feed_109 6 rfl (Nat.le_of_ble_eq_true rfl) (wr_id (by omega) (by omega)) rfl (s_goto 18 dX12_feed_112 (by decide) ?_))))))
          exact At.keep (ls' := [(0, (2, 141)), (1, (0, a)), (2, (0, b)), (3, (0, c)), (4, (0, d)), (5, (0, e)), (6, (0, (i + 1)))]) [0, 1, 2, 3, 4, 5, 6] rfl (ih (i + 1) (wu (wu v9 178 (v9 141 50) (iand (ishr a (24 - (8 * (i % 4)))) 255)) 141 50 ((v9 141 50) + 1)) (by omega) (by omega) (by rw [q1, hw]; first | (rw [show iand (ishr a (24 - (8 * (i % 4)))) 255 = fB a b c d e i from (fB_0 (by omega)).symm]; exact feedS (by decide) (by omega)) | (rw [show iand (ishr b (24 - (8 * (i % 4)))) 255 = fB a b c d e i from (fB_1 (by omega) (by omega)).symm]; exact feedS (by decide) (by omega)) | (rw [show iand (ishr c (24 - (8 * (i % 4)))) 255 = fB a b c d e i from (fB_2 (by omega) (by omega)).symm]; exact feedS (by decide) (by omega)) | (rw [show iand (ishr d (24 - (8 * (i % 4)))) 255 = fB a b c d e i from (fB_3 (by omega) (by omega)).symm]; exact feedS (by decide) (by omega)) | (rw [show iand (ishr e (24 - (8 * (i % 4)))) 255 = fB a b c d e i from (fB_4 (by omega)).symm]; exact feedS (by decide) (by omega))) (by omega))
  refine s_aload_n dX12_feed_0 0 rfl rfl (n_getf 141 50 0 dX12_feed_1 cf_X12 ff_X12_277 rfl sh_141 rfl (by decide) (v := (w 141 50)) rfl (s_bipush dX12_feed_4 (by decide) (n_add (z := ((w 141 50) + 20)) dX12_feed_6 (wr_id (by omega) (by omega)) (s_sipush dX12_feed_7 (by decide) (s_icmp_le 15 dX12_feed_10 (by decide) (fun c_10 => ?_) (fun c_10 => ?_))))))
  · skip
    refine s_iconst dX12_feed_15 (by decide) (s_istore (ls' := [(0, (2, 141)), (1, (0, a)), (2, (0, b)), (3, (0, c)), (4, (0, d)), (5, (0, e)), (6, (0, 0))]) dX12_feed_16 (Nat.le_of_ble_eq_true rfl) rfl ?_)
    exact L_18 _ 0 w (by omega) (by omega) (feed0 rfl) (Nat.lt_succ_self _)
  · skip
    refine s_iconst dX12_feed_13 (by decide) (n_iret dX12_feed_14 hR rfl ?_)
    first
    | exact ⟨_, rfl, Or.inr ⟨by omega, rfl, rfl⟩⟩
    | (have e9 : i = 20 := (by omega)
       rw [e9] at hw q1
       exact ⟨_, rfl, Or.inl ⟨by omega, q1, hw⟩⟩)
