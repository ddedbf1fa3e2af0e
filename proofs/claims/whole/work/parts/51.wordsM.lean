/-! WORDS, the reference. -/
def likM (w : Wd) (c p : Int) : Int := if w 144 (w 147 p) = w 183 c ∧ offMw w p (w 141 0) = -1 then 1 else -1
/-- what crowd o thinks of picture j behind the first k goings (crowd and print) -/
def hdM (w : Wd) (gs : List (Int × Int)) : Nat → Int → Int → Int
  | 0 => fun o j => w 186 (12 * o + j)
  | k + 1 => fun o j => if o < w 141 6 ∧ w 182 o = w 182 (gs.getD k (0, 0)).1 ∧ j = w 147 (gs.getD k (0, 0)).2 then clV (hdM w gs k o j + likM w (gs.getD k (0, 0)).1 (gs.getD k (0, 0)).2) else hdM w gs k o j
theorem clV_bd (x : Int) : -3 ≤ clV x ∧ clV x ≤ 3 := by unfold clV mxL mnL; repeat' split; all_goals omega
theorem hdM_bd {w : Wd} {gs : List (Int × Int)} (h : ∀ j, 0 ≤ j → j < 192 → -3 ≤ w 186 j ∧ w 186 j ≤ 3) {o j : Int} (ho : 0 ≤ o ∧ o < 16) (hj : 0 ≤ j ∧ j < 12) : ∀ k : Nat, -3 ≤ hdM w gs k o j ∧ hdM w gs k o j ≤ 3
  | 0 => h _ (by omega) (by omega)
  | k + 1 => by
    have ih := hdM_bd (gs := gs) h ho hj k
    rw [hdM]
    dsimp only
    split
    · exact clV_bd _
    · exact ih
theorem likM_01 (w : Wd) (c p : Int) : likM w c p = 1 ∨ likM w c p = -1 := by unfold likM; split <;> omega
theorem clV_in {x v : Int} (hx : -3 ≤ x ∧ x ≤ 3) : (-3 ≤ x + v ∧ x + v ≤ 3 → clV (x + v) = x + v) ∧ ((v = 1 ∨ v = -1) → ¬ (-3 ≤ x + v ∧ x + v ≤ 3) → clV (x + v) = x) := by
  unfold clV mxL mnL
  refine ⟨fun h => ?_, fun h h2 => ?_⟩ <;> repeat' split
  all_goals omega

set_option maxRecDepth 100000 in
set_option maxHeartbeats 2000000 in
theorem c_M_words (gs : List (Int × Int)) (w : Wd) (LN : Int → List Lin) (hI : InM w LN) (hcr : 0 ≤ w 141 6 ∧ w 141 6 ≤ 16) (hg : w 141 75 = gs.length) (hgl : gs.length ≤ 200) (hG : GoS (w 189) (w 190) gs) (hok : ∀ j : Nat, j < gs.length → (0 ≤ (gs.getD j (0, 0)).1 ∧ (gs.getD j (0, 0)).1 < 16) ∧ 0 ≤ (gs.getD j (0, 0)).2 ∧ (gs.getD j (0, 0)).2 < w 141 2) : CallN 3 mX12_words [(2, 141)] w (RUQ (fun w1 => (∀ a, a ≠ 186 → w1 a = w a) ∧ ∀ o j, 0 ≤ o → o < 16 → 0 ≤ j → j < 12 → w1 186 (12 * o + j) = hdM w gs gs.length o j)) := by
  refine CallN.intro (by decide +kernel) (Nat.le_of_ble_eq_true rfl) (fun ρ hR => ?_)
  show AtN mX12_words 3 ρ 0 [(0, (2, 141))] [] w
  have L_72 : ∀ (fu : Nat) (i : Int) (c : Int) (k : Int) (v : Int) (o : Int) (v9 : Wd), 0 ≤ i ∧ i < (gs.length : Int) → (0 ≤ c ∧ c < 16) ∧ (0 ≤ k ∧ k < 12) → v = 1 ∨ v = -1 → 0 ≤ o ∧ o ≤ w 141 6 → (∀ a, a ≠ 186 → v9 a = w a) → (∀ o1 j, 0 ≤ o1 → o1 < 16 → 0 ≤ j → j < 12 → v9 186 (12 * o1 + j) = if o1 < o ∧ w 182 o1 = w 182 c ∧ j = k then clV (hdM w gs i.toNat o1 j + v) else hdM w gs i.toNat o1 j) → (∀ u : Wd, (∀ a, a ≠ 186 → u a = w a) → (∀ o1 j, 0 ≤ o1 → o1 < 16 → 0 ≤ j → j < 12 → u 186 (12 * o1 + j) = if o1 < w 141 6 ∧ w 182 o1 = w 182 c ∧ j = k then clV (hdM w gs i.toNat o1 j + v) else hdM w gs i.toNat o1 j) → AtN mX12_words 3 ρ 144 [(0, (2, 141)), (1, (0, i))] [] u) → (w 141 6 - o).toNat < fu → AtN mX12_words 3 ρ 72 [(0, (2, 141)), (1, (0, i)), (2, (0, c)), (3, (0, k)), (4, (0, v)), (5, (0, o))] [] v9 := by
    intro fu
    induction fu with
    | zero => intro i c k v o v9 hii hck hv1 ho hf9 hH hK hm; exact absurd hm (Nat.not_lt_zero _)
    | succ fu ih =>
      intro i c k v o v9 hii hck hv1 ho hf9 hH hK hm
      have q6 : v9 141 6 = w 141 6 := by rw [hf9 141 (by decide)]
      have q182 : v9 182 = w 182 := hf9 182 (by decide)
      refine s_iload dX12_words_72 5 rfl (s_aload_n dX12_words_74 0 rfl rfl (n_getf 141 6 0 dX12_words_75 cf_X12 ff_X12_236 rfl sh_141 rfl (by decide) (v := (v9 141 6)) rfl (s_icmp_ge 144 dX12_words_78 (by decide) (fun c_78 => ?_) (fun c_78 => ?_))))
      · skip
        have e9 : o = w 141 6 := by omega
        rw [e9] at hH
        exact At.keep (ls' := [(0, (2, 141)), (1, (0, i))]) [0, 1] rfl (hK v9 hf9 hH)
      · skip
        have e182 : v9 182 o = w 182 o := by rw [q182]
        have e182c : v9 182 c = w 182 c := by rw [q182]
        have hok9 : v9 186 (12 * o + k) = hdM w gs i.toNat o k := by
          rw [hH o k ho.1 (by omega) hck.2.1 hck.2.2]
          exact if_neg (by omega)
        have hbd := hdM_bd (gs := gs) hI.2.2.2.2.2.2 (o := o) (j := k) ⟨ho.1, by omega⟩ hck.2 i.toNat
        have hcl := clV_in (v := v) hbd
        refine s_aload_n dX12_words_81 0 rfl rfl (n_getc (q := 182) 141 66 192 dX12_words_82 cf_X12 ff_X12_135 rfl sh_141 rfl (by decide) rfl (by decide) (s_iload dX12_words_85 5 rfl (n_iald 182 dX12_words_87 rfl sh_182 (by decide) ⟨(by omega), (by omega)⟩ (v := (v9 182 o)) rfl (s_aload_n dX12_words_88 0 rfl rfl (n_getc (q := 182) 141 66 192 dX12_words_89 cf_X12 ff_X12_135 rfl sh_141 rfl (by decide) rfl (by decide) (s_iload_n dX12_words_92 2 rfl (n_iald 182 dX12_words_93 rfl sh_182 (by decide) ⟨(by omega), (by omega)⟩ (v := (v9 182 c)) rfl (s_icmp_ne 138 dX12_words_94 (by decide) (fun c_94 => ?_) (fun c_94 => ?_)))))))))
        · skip
          refine s_iinc (z := (o + 1)) (ls' := [(0, (2, 141)), (1, (0, i)), (2, (0, c)), (3, (0, k)), (4, (0, v)), (5, (0, (o + 1)))]) dX12_words_138 5 rfl (Nat.le_of_ble_eq_true rfl) (wr_id (by omega) (by omega)) rfl (s_goto 72 dX12_words_141 (by decide) ?_)
          exact ih i c k v (o + 1) v9 (by omega) hck hv1 (by omega) hf9 (fun o1 j a b c1 d => by
  rw [hH o1 j a b c1 d]
  by_cases e : o1 < o ∧ w 182 o1 = w 182 c ∧ j = k
  · rw [if_pos e, if_pos ⟨by omega, e.2⟩]
  · rw [if_neg e, if_neg (fun z => by
      by_cases e2 : o1 = o
      · rw [e2] at z; omega
      · exact e ⟨by omega, z.2⟩)]) hK (by omega)
        · skip
          refine s_aload_n dX12_words_97 0 rfl rfl (n_getc (q := 186) 141 70 196 dX12_words_98 cf_X12 ff_X12_147 rfl sh_141 rfl (by decide) rfl (by decide) (s_bipush dX12_words_101 (by decide) (s_iload dX12_words_103 5 rfl (n_mul (z := (12 * o)) dX12_words_105 (wr_id (by omega) (by omega)) (s_iload_n dX12_words_106 3 rfl (n_add (z := ((12 * o) + k)) dX12_words_107 (wr_id (by omega) (by omega)) (n_iald 186 dX12_words_108 rfl sh_186 (by decide) ⟨(by omega), (by omega)⟩ (v := (v9 186 ((12 * o) + k))) rfl (s_iload dX12_words_109 4 rfl (n_add (z := ((v9 186 ((12 * o) + k)) + v)) dX12_words_111 (wr_id (by omega) (by omega)) ?_)))))))))
          refine s_bipush dX12_words_112 (by decide) (s_iconst dX12_words_114 (by decide) (n_invS (as := [(0, ((v9 186 ((12 * o) + k)) + v)), (0, (-3)), (0, 3)]) dX12_words_115 kv_X12_isIn ml_X12_223 (c_isIn ((v9 186 ((12 * o) + k)) + v) (-3) 3 v9) (by decide) rfl rfl (Nat.le_of_ble_eq_true rfl) (n_ifeq_b 138 dX12_words_118 (by decide) (fun c_118 => ?_) (fun c_118 => ?_))))
          · skip
            refine s_iinc (z := (o + 1)) (ls' := [(0, (2, 141)), (1, (0, i)), (2, (0, c)), (3, (0, k)), (4, (0, v)), (5, (0, (o + 1)))]) dX12_words_138 5 rfl (Nat.le_of_ble_eq_true rfl) (wr_id (by omega) (by omega)) rfl (s_goto 72 dX12_words_141 (by decide) ?_)
            exact ih i c k v (o + 1) v9 (by omega) hck hv1 (by omega) hf9 (fun o1 j a b c1 d => by
  rw [hH o1 j a b c1 d]
  by_cases e : o1 < o ∧ w 182 o1 = w 182 c ∧ j = k
  · rw [if_pos e, if_pos ⟨by omega, e.2⟩]
  · rw [if_neg e]
    by_cases e2 : o1 = o ∧ j = k
    · rw [if_pos ⟨by omega, by rw [e2.1]; omega, e2.2⟩, e2.1, e2.2]
      exact (hcl.2 hv1 (by omega)).symm
    · rw [if_neg (fun z => by
        by_cases e3 : o1 = o
        · exact e2 ⟨e3, z.2.2⟩
        · exact e ⟨by omega, z.2⟩)]) hK (by omega)
          · skip
            refine s_aload_n dX12_words_121 0 rfl rfl (n_getc (q := 186) 141 70 196 dX12_words_122 cf_X12 ff_X12_147 rfl sh_141 rfl (by decide) rfl (by decide) (s_bipush dX12_words_125 (by decide) (s_iload dX12_words_127 5 rfl (n_mul (z := (12 * o)) dX12_words_129 (wr_id (by omega) (by omega)) (s_iload_n dX12_words_130 3 rfl (n_add (z := ((12 * o) + k)) dX12_words_131 (wr_id (by omega) (by omega)) (s_dup2 dX12_words_132 (show (0 : Nat) ≠ 1 by decide) (show (2 : Nat) ≠ 1 by decide) (n_iald 186 dX12_words_133 rfl sh_186 (by decide) ⟨(by omega), (by omega)⟩ (v := (v9 186 ((12 * o) + k))) rfl (s_iload dX12_words_134 4 rfl ?_)))))))))
            refine n_add (z := ((v9 186 ((12 * o) + k)) + v)) dX12_words_136 (wr_id (by omega) (by omega)) (s_iastore 186 dX12_words_137 rfl sh_186 (by decide) ⟨(by omega), (by omega)⟩ (s_iinc (z := (o + 1)) (ls' := [(0, (2, 141)), (1, (0, i)), (2, (0, c)), (3, (0, k)), (4, (0, v)), (5, (0, (o + 1)))]) dX12_words_138 5 rfl (Nat.le_of_ble_eq_true rfl) (wr_id (by omega) (by omega)) rfl (s_goto 72 dX12_words_141 (by decide) ?_)))
            exact ih i c k v (o + 1) (wu v9 186 ((12 * o) + k) ((v9 186 ((12 * o) + k)) + v)) (by omega) hck hv1 (by omega) (fun a ha => by rw [wu_ne ha]; exact hf9 a ha) (fun o1 j a b c1 d => by
  rw [wu_at]
  by_cases e2 : o1 = o ∧ j = k
  · rw [if_pos (by omega), if_pos ⟨by omega, by rw [e2.1]; omega, e2.2⟩, e2.1, e2.2, hok9]
    exact (hcl.1 (by omega)).symm
  · rw [if_neg (by omega), hH o1 j a b c1 d]
    by_cases e : o1 < o ∧ w 182 o1 = w 182 c ∧ j = k
    · rw [if_pos e, if_pos ⟨by omega, e.2⟩]
    · rw [if_neg e, if_neg (fun z => by
        by_cases e3 : o1 = o
        · exact e2 ⟨e3, z.2.2⟩
        · exact e ⟨by omega, z.2⟩)]) hK (by omega)
  have L_2 : ∀ (fu : Nat) (i : Int) (v9 : Wd), 0 ≤ i ∧ i ≤ (gs.length : Int) → (∀ a, a ≠ 186 → v9 a = w a) → (∀ o1 j, 0 ≤ o1 → o1 < 16 → 0 ≤ j → j < 12 → v9 186 (12 * o1 + j) = hdM w gs i.toNat o1 j) → ((gs.length : Int) - i).toNat < fu → AtN mX12_words 3 ρ 2 [(0, (2, 141)), (1, (0, i))] [] v9 := by
    intro fu
    induction fu with
    | zero => intro i v9 hi hf9 hH hm; exact absurd hm (Nat.not_lt_zero _)
    | succ fu ih =>
      intro i v9 hi hf9 hH hm
      have q75 : v9 141 75 = (gs.length : Int) := by rw [hf9 141 (by decide)]; exact hg
      refine s_iload_n dX12_words_2 1 rfl (s_aload_n dX12_words_3 0 rfl rfl (n_getf 141 75 0 dX12_words_4 cf_X12 ff_X12_435 rfl sh_141 rfl (by decide) (v := (v9 141 75)) rfl (s_icmp_ge 150 dX12_words_7 (by decide) (fun c_7 => ?_) (fun c_7 => ?_))))
      · skip
        refine n_ret dX12_words_150 hR rfl ?_
        have e9 : i = (gs.length : Int) := by omega
        rw [e9] at hH
        exact ⟨rfl, hf9, hH⟩
      · skip
        have hgo := hG i.toNat (by omega)
        rw [toN_c hi.1] at hgo
        have hq := hok i.toNat (by omega)
        obtain ⟨c9, ec9⟩ : ∃ c9, c9 = (gs.getD i.toNat (0, 0)).1 := ⟨_, rfl⟩
        obtain ⟨p9, ep9⟩ : ∃ p9, p9 = (gs.getD i.toNat (0, 0)).2 := ⟨_, rfl⟩
        rw [← ec9, ← ep9] at hgo hq
        have e189 : v9 189 i = c9 := by rw [hf9 189 (by decide)]; exact hgo.1
        have e190 : v9 190 i = p9 := by rw [hf9 190 (by decide)]; exact hgo.2
        have h30 := hI.2.1
        have hpk := hI.2.2.2.1 p9 hq.2.1 hq.2.2
        have e147 : v9 147 p9 = w 147 p9 := by rw [hf9 147 (by decide)]
        have e144 : v9 144 (w 147 p9) = w 144 (w 147 p9) := by rw [hf9 144 (by decide)]
        have e183 : v9 183 c9 = w 183 c9 := by rw [hf9 183 (by decide)]
        refine s_aload_n dX12_words_10 0 rfl rfl (n_getc (q := 189) 141 73 199 dX12_words_11 cf_X12 ff_X12_156 rfl sh_141 rfl (by decide) rfl (by decide) (s_iload_n dX12_words_14 1 rfl (n_iald 189 dX12_words_15 rfl sh_189 (by decide) ⟨(by omega), (by omega)⟩ (v := (v9 189 i)) rfl ?_)))
        rw [e189]
        refine s_istore_n (ls' := [(0, (2, 141)), (1, (0, i)), (2, (0, c9))]) dX12_words_16 (Nat.le_of_ble_eq_true rfl) rfl (s_aload_n dX12_words_17 0 rfl rfl (n_getc (q := 147) 141 15 157 dX12_words_18 cf_X12 ff_X12_25 rfl sh_141 rfl (by decide) rfl (by decide) (s_aload_n dX12_words_21 0 rfl rfl (n_getc (q := 190) 141 74 200 dX12_words_22 cf_X12 ff_X12_159 rfl sh_141 rfl (by decide) rfl (by decide) (s_iload_n dX12_words_25 1 rfl (n_iald 190 dX12_words_26 rfl sh_190 (by decide) ⟨(by omega), (by omega)⟩ (v := (v9 190 i)) rfl ?_))))))
        rw [e190]
        refine n_iald 147 dX12_words_27 rfl sh_147 (by decide) ⟨(by omega), (by omega)⟩ (v := (v9 147 p9)) rfl ?_
        rw [e147]
        refine s_istore_n (ls' := [(0, (2, 141)), (1, (0, i)), (2, (0, c9)), (3, (0, (w 147 p9)))]) dX12_words_28 (Nat.le_of_ble_eq_true rfl) rfl (s_aload_n dX12_words_29 0 rfl rfl (n_getc (q := 144) 141 12 154 dX12_words_30 cf_X12 ff_X12_16 rfl sh_141 rfl (by decide) rfl (by decide) (s_iload_n dX12_words_33 3 rfl (n_iald 144 dX12_words_34 rfl sh_144 (by decide) ⟨(by omega), (by omega)⟩ (v := (v9 144 (w 147 p9))) rfl (s_aload_n dX12_words_35 0 rfl rfl (n_getc (q := 183) 141 67 193 dX12_words_36 cf_X12 ff_X12_138 rfl sh_141 rfl (by decide) rfl (by decide) (s_iload_n dX12_words_39 2 rfl (n_iald 183 dX12_words_40 rfl sh_183 (by decide) ⟨(by omega), (by omega)⟩ (v := (v9 183 c9)) rfl (s_icmp_ne 66 dX12_words_41 (by decide) (fun c_41 => ?_) (fun c_41 => ?_))))))))))
        · skip
          refine s_iconst dX12_words_66 (by decide) (s_istore (ls' := [(0, (2, 141)), (1, (0, i)), (2, (0, c9)), (3, (0, (w 147 p9))), (4, (0, (-1)))]) dX12_words_67 (Nat.le_of_ble_eq_true rfl) rfl ?_)
          have hkE : likM w c9 p9 = (-1) := by unfold likM; first | exact if_pos ⟨by omega, by omega⟩ | exact if_neg (by omega)
          have hck : (0 ≤ c9 ∧ c9 < 16) ∧ (0 ≤ w 147 p9 ∧ w 147 p9 < 12) := ⟨hq.1, hpk⟩
          have ec := ec9
          have hii : 0 ≤ i ∧ i < (gs.length : Int) := ⟨hi.1, by omega⟩
          refine s_iconst dX12_words_69 (by decide) (s_istore (ls' := [(0, (2, 141)), (1, (0, i)), (2, (0, c9)), (3, (0, (w 147 p9))), (4, (0, (-1))), (5, (0, 0))]) dX12_words_70 (Nat.le_of_ble_eq_true rfl) rfl ?_)
          exact L_72 _ i c9 (w 147 p9) (-1) 0 v9 (by omega) hck (by omega) (by omega) hf9 (fun o1 j a b c1 d => by rw [hH o1 j a b c1 d]; exact (if_neg (by omega)).symm) (fun u f1 f2 => s_iinc (z := (i + 1)) (ls' := [(0, (2, 141)), (1, (0, (i + 1)))]) dX12_words_144 1 rfl (Nat.le_of_ble_eq_true rfl) (wr_id (by omega) (by omega)) rfl (s_goto 2 dX12_words_147 (by decide) (ih (i + 1) u (by omega) f1 (fun o1 j a b c1 d => by rw [f2 o1 j a b c1 d, toN_s hii.1, hdM]; dsimp only; rw [← ec9, ← ep9, hkE]) (by omega)))) (Nat.lt_succ_self _)
        · skip
          refine s_aload_n dX12_words_44 0 rfl rfl (s_aload_n dX12_words_45 0 rfl rfl (n_getc (q := 190) 141 74 200 dX12_words_46 cf_X12 ff_X12_159 rfl sh_141 rfl (by decide) rfl (by decide) (s_iload_n dX12_words_49 1 rfl (n_iald 190 dX12_words_50 rfl sh_190 (by decide) ⟨(by omega), (by omega)⟩ (v := (v9 190 i)) rfl ?_))))
          rw [e190]
          refine s_aload_n dX12_words_51 0 rfl rfl (n_getf 141 0 0 dX12_words_52 cf_X12 ff_X12_253 rfl sh_141 rfl (by decide) (v := (v9 141 0)) rfl (n_invV (as := [(0, p9), (0, (v9 141 0))]) dX12_words_55 kv_X12_offOf ml_X12_260 (show CallN 2 mX12_offOf [(2, 141), (0, p9), (0, v9 141 0)] v9 (RV (0, offMw w p9 (w 141 0)) v9) from (by
      have hz := c_M_offOf p9 (v9 141 0) v9 ⟨by omega, by omega⟩ (by rw [hf9 147 (by decide)]; exact hI.2.2.2.1 p9 (by omega) (by omega)) (by rw [hf9 151 (by decide), hf9 153 (by decide), hf9 141 (by decide)]; exact hI.2.2.2.2.1) (by rw [hf9 152 (by decide), hf9 141 (by decide)]; exact hI.2.2.2.2.2.1)
      rw [hf9 145 (by decide), hf9 147 (by decide), hf9 150 (by decide), hf9 154 (by decide), hf9 152 (by decide), hf9 151 (by decide), hf9 153 (by decide), hf9 141 (by decide)] at hz
      rw [hf9 141 (by decide)]
      exact hz)) (by decide) 141 cf_X12 rfl sh_141 rfl rfl rfl (Nat.le_of_ble_eq_true rfl) (s_iconst dX12_words_58 (by decide) (s_icmp_ne 66 dX12_words_59 (by decide) (fun c_59 => ?_) (fun c_59 => ?_)))))
          · skip
            refine s_iconst dX12_words_66 (by decide) (s_istore (ls' := [(0, (2, 141)), (1, (0, i)), (2, (0, c9)), (3, (0, (w 147 p9))), (4, (0, (-1)))]) dX12_words_67 (Nat.le_of_ble_eq_true rfl) rfl ?_)
            have hkE : likM w c9 p9 = (-1) := by unfold likM; first | exact if_pos ⟨by omega, by omega⟩ | exact if_neg (by omega)
            have hck : (0 ≤ c9 ∧ c9 < 16) ∧ (0 ≤ w 147 p9 ∧ w 147 p9 < 12) := ⟨hq.1, hpk⟩
            have ec := ec9
            have hii : 0 ≤ i ∧ i < (gs.length : Int) := ⟨hi.1, by omega⟩
            refine s_iconst dX12_words_69 (by decide) (s_istore (ls' := [(0, (2, 141)), (1, (0, i)), (2, (0, c9)), (3, (0, (w 147 p9))), (4, (0, (-1))), (5, (0, 0))]) dX12_words_70 (Nat.le_of_ble_eq_true rfl) rfl ?_)
            exact L_72 _ i c9 (w 147 p9) (-1) 0 v9 (by omega) hck (by omega) (by omega) hf9 (fun o1 j a b c1 d => by rw [hH o1 j a b c1 d]; exact (if_neg (by omega)).symm) (fun u f1 f2 => s_iinc (z := (i + 1)) (ls' := [(0, (2, 141)), (1, (0, (i + 1)))]) dX12_words_144 1 rfl (Nat.le_of_ble_eq_true rfl) (wr_id (by omega) (by omega)) rfl (s_goto 2 dX12_words_147 (by decide) (ih (i + 1) u (by omega) f1 (fun o1 j a b c1 d => by rw [f2 o1 j a b c1 d, toN_s hii.1, hdM]; dsimp only; rw [← ec9, ← ep9, hkE]) (by omega)))) (Nat.lt_succ_self _)
          · skip
            refine s_iconst dX12_words_62 (by decide) (s_goto 67 dX12_words_63 (by decide) (s_istore (ls' := [(0, (2, 141)), (1, (0, i)), (2, (0, c9)), (3, (0, (w 147 p9))), (4, (0, 1))]) dX12_words_67 (Nat.le_of_ble_eq_true rfl) rfl ?_))
            have hkE : likM w c9 p9 = 1 := by unfold likM; first | exact if_pos ⟨by omega, by omega⟩ | exact if_neg (by omega)
            have hck : (0 ≤ c9 ∧ c9 < 16) ∧ (0 ≤ w 147 p9 ∧ w 147 p9 < 12) := ⟨hq.1, hpk⟩
            have ec := ec9
            have hii : 0 ≤ i ∧ i < (gs.length : Int) := ⟨hi.1, by omega⟩
            refine s_iconst dX12_words_69 (by decide) (s_istore (ls' := [(0, (2, 141)), (1, (0, i)), (2, (0, c9)), (3, (0, (w 147 p9))), (4, (0, 1)), (5, (0, 0))]) dX12_words_70 (Nat.le_of_ble_eq_true rfl) rfl ?_)
            exact L_72 _ i c9 (w 147 p9) 1 0 v9 (by omega) hck (by omega) (by omega) hf9 (fun o1 j a b c1 d => by rw [hH o1 j a b c1 d]; exact (if_neg (by omega)).symm) (fun u f1 f2 => s_iinc (z := (i + 1)) (ls' := [(0, (2, 141)), (1, (0, (i + 1)))]) dX12_words_144 1 rfl (Nat.le_of_ble_eq_true rfl) (wr_id (by omega) (by omega)) rfl (s_goto 2 dX12_words_147 (by decide) (ih (i + 1) u (by omega) f1 (fun o1 j a b c1 d => by rw [f2 o1 j a b c1 d, toN_s hii.1, hdM]; dsimp only; rw [← ec9, ← ep9, hkE]) (by omega)))) (Nat.lt_succ_self _)
  refine s_iconst dX12_words_0 (by decide) (s_istore_n (ls' := [(0, (2, 141)), (1, (0, 0))]) dX12_words_1 (Nat.le_of_ble_eq_true rfl) rfl ?_)
  exact L_2 _ 0 w (by omega) (fun _ _ => rfl) (fun _ _ _ _ _ _ => rfl) (Nat.lt_succ_self _)
