/-! RULES, the reference. -/
/-- the lines' tables are written over: the first i -/
def CpQ (B v : Wd) (f i : Int) : Prop := (∀ c, c ≠ 170 → c ≠ 171 → c ≠ 172 → v c = B c) ∧ (∀ j, v 170 j = if 20 * f ≤ j ∧ j < 20 * f + i then B 174 (j - 20 * f) else B 170 j) ∧ (∀ j, v 171 j = if 21 * f ≤ j ∧ j < 21 * f + i then B 175 (j - 21 * f) else B 171 j) ∧ ∀ j, v 172 j = if 20 * f ≤ j ∧ j < 20 * f + i then B 176 (j - 20 * f) else B 172 j
theorem CpQ.z {B : Wd} {f : Int} : CpQ B B f 0 := ⟨fun _ _ _ _ => rfl, fun j => by rw [if_neg (by omega)], fun j => by rw [if_neg (by omega)], fun j => by rw [if_neg (by omega)]⟩
theorem CpQ.step {B v : Wd} {f i x y z : Int} (h : CpQ B v f i) (hi : 0 ≤ i) (hx : x = B 174 i) (hy : y = B 175 i) (hz : z = B 176 i) : CpQ B (wu (wu (wu v 170 (20 * f + i) x) 171 (21 * f + i) y) 172 (20 * f + i) z) f (i + 1) := by
  obtain ⟨h1, h2, h3, h4⟩ := h
  refine ⟨fun c a b d => by rw [wu_ne d, wu_ne b, wu_ne a]; exact h1 c a b d, fun j => ?_, fun j => ?_, fun j => ?_⟩
  · rw [wu_ne (by decide), wu_ne (by decide), wu_at]
    by_cases e : j = 20 * f + i
    · rw [if_pos e, if_pos (by omega), hx, show j - 20 * f = i by omega]
    · rw [if_neg e, h2]
      by_cases e2 : 20 * f ≤ j ∧ j < 20 * f + i
      · rw [if_pos e2, if_pos (by omega)]
      · rw [if_neg e2, if_neg (by omega)]
  · rw [wu_ne (by decide), wu_at]
    by_cases e : j = 21 * f + i
    · rw [if_pos e, if_pos (by omega), hy, show j - 21 * f = i by omega]
    · rw [if_neg e, wu_ne (by decide), h3]
      by_cases e2 : 21 * f ≤ j ∧ j < 21 * f + i
      · rw [if_pos e2, if_pos (by omega)]
      · rw [if_neg e2, if_neg (by omega)]
  · rw [wu_at]
    by_cases e : j = 20 * f + i
    · rw [if_pos e, if_pos (by omega), hz, show j - 20 * f = i by omega]
    · rw [if_neg e, wu_ne (by decide), wu_ne (by decide), h4]
      by_cases e2 : 20 * f ≤ j ∧ j < 20 * f + i
      · rw [if_pos e2, if_pos (by omega)]
      · rw [if_neg e2, if_neg (by omega)]
def CsQ (B v : Wd) (f i : Int) : Prop := (∀ c, c ≠ 173 → v c = B c) ∧ ∀ j, v 173 j = if 1220 * f ≤ j ∧ j < 1220 * f + i then B 177 (j - 1220 * f) else B 173 j
theorem CsQ.z {B : Wd} {f : Int} : CsQ B B f 0 := ⟨fun _ _ => rfl, fun j => by rw [if_neg (by omega)]⟩
theorem CsQ.step {B v : Wd} {f i x : Int} (h : CsQ B v f i) (hi : 0 ≤ i) (hx : x = B 177 i) : CsQ B (wu v 173 (1220 * f + i) x) f (i + 1) := by
  obtain ⟨h1, h2⟩ := h
  refine ⟨fun c a => by rw [wu_ne a]; exact h1 c a, fun j => ?_⟩
  rw [wu_at]
  by_cases e : j = 1220 * f + i
  · rw [if_pos e, if_pos (by omega), hx, show j - 1220 * f = i by omega]
  · rw [if_neg e, h2]
    by_cases e2 : 1220 * f ≤ j ∧ j < 1220 * f + i
    · rw [if_pos e2, if_pos (by omega)]
    · rw [if_neg e2, if_neg (by omega)]
/-- behind the reading: the text is empty, what was wrong is told -/
abbrev RdM (v : Wd) (x y : Int) : Wd := wu (wu (wu v 141 50 0) 141 57 x) 141 59 y
/-- how rules ends -/
def RmQ (w : Wd) (f z : Int) (w1 : Wd) : Prop :=
  (¬ (0 ≤ f ∧ f ≤ 2) ∧ z = -1 ∧ w1 = wu (wu (wu w 141 57 0) 141 59 (-1)) 141 50 0) ∨
  ((0 ≤ f ∧ f ≤ 2) ∧ ((z = -1 ∧ ∃ e v, txX (w 178) (w 141 50) = .inl e ∧ FrA (wu (wu w 141 57 0) 141 59 (-1)) v ∧ (0 ≤ v 141 54 ∧ v 141 54 ≤ 9999) ∧ w1 = RdM v e.1 e.2) ∨ (∃ L v v2, txX (w 178) (w 141 50) = .inr L ∧ z = L.length ∧ FrA (wu (wu w 141 57 0) 141 59 (-1)) v ∧ LmS v (KM' w) L [] 0 ∧ CpQ (wu (RdM v 0 (-1)) 169 f L.length) v2 f L.length ∧ CsQ (wu v2 171 (21 * f + L.length) (spA L).length) w1 f (2 * (spA L).length))))

theorem FrA.r0 {w : Wd} : FrA w (wu (wu (wu (wu w 141 55 0) 141 51 0) 141 48 0) 141 49 0) := ⟨fun c a _ _ _ _ => by rw [wu_ne a, wu_ne a, wu_ne a, wu_ne a], fun j a b c _ _ _ e _ _ => by rw [wu_f b, wu_f a, wu_f c, wu_f e], fun q => by rw [wu_f (by decide), wu_f (by decide), wu_f (by decide), wu_f (by decide)]; exact q⟩
theorem KM_r0 (w : Wd) : KM' (wu (wu (wu (wu (wu (wu w 141 57 0) 141 59 (-1)) 141 55 0) 141 51 0) 141 48 0) 141 49 0) = KM' w := by
  unfold KM'
  simp only [wu_ne (show (178 : Nat) ≠ 141 by decide), wu_f (show (50 : Int) ≠ 49 by decide), wu_f (show (50 : Int) ≠ 48 by decide), wu_f (show (50 : Int) ≠ 51 by decide), wu_f (show (50 : Int) ≠ 55 by decide), wu_f (show (50 : Int) ≠ 59 by decide), wu_f (show (50 : Int) ≠ 57 by decide)]
theorem w55_r0 (w : Wd) : (wu (wu (wu (wu (wu (wu w 141 57 0) 141 59 (-1)) 141 55 0) 141 51 0) 141 48 0) 141 49 0) 141 55 = 0 := by rw [wu_f (by decide), wu_f (by decide), wu_f (by decide), wu_same]
theorem w48_r0 (w : Wd) : (wu (wu (wu (wu (wu (wu w 141 57 0) 141 59 (-1)) 141 55 0) 141 51 0) 141 48 0) 141 49 0) 141 48 = 0 := by rw [wu_f (by decide), wu_same]
theorem RuPo {w : Wd} (hx : TxM w) (hv : 0 ≤ w 141 54 ∧ w 141 54 ≤ 9999) : PoM (wu (wu (wu (wu (wu (wu w 141 57 0) 141 59 (-1)) 141 55 0) 141 51 0) 141 48 0) 141 49 0) (reL (w 178) (w 141 50) 0) := by
  have e178 : (wu (wu (wu (wu (wu (wu w 141 57 0) 141 59 (-1)) 141 55 0) 141 51 0) 141 48 0) 141 49 0) 178 = w 178 := by simp only [wu_ne (show (178 : Nat) ≠ 141 by decide)]
  have e50 : (wu (wu (wu (wu (wu (wu w 141 57 0) 141 59 (-1)) 141 55 0) 141 51 0) 141 48 0) 141 49 0) 141 50 = w 141 50 := by simp only [wu_f (show (50 : Int) ≠ 49 by decide), wu_f (show (50 : Int) ≠ 48 by decide), wu_f (show (50 : Int) ≠ 51 by decide), wu_f (show (50 : Int) ≠ 55 by decide), wu_f (show (50 : Int) ≠ 59 by decide), wu_f (show (50 : Int) ≠ 57 by decide)]
  have e51 : (wu (wu (wu (wu (wu (wu w 141 57 0) 141 59 (-1)) 141 55 0) 141 51 0) 141 48 0) 141 49 0) 141 51 = 0 := by rw [wu_f (by decide), wu_f (by decide), wu_same]
  have e54 : (wu (wu (wu (wu (wu (wu w 141 57 0) 141 59 (-1)) 141 55 0) 141 51 0) 141 48 0) 141 49 0) 141 54 = w 141 54 := by simp only [wu_f (show (54 : Int) ≠ 49 by decide), wu_f (show (54 : Int) ≠ 48 by decide), wu_f (show (54 : Int) ≠ 51 by decide), wu_f (show (54 : Int) ≠ 55 by decide), wu_f (show (54 : Int) ≠ 59 by decide), wu_f (show (54 : Int) ≠ 57 by decide)]
  unfold PoM TxM
  rw [e178, e50, e51, e54]
  exact ⟨hx, ⟨Int.le_refl _, hx.1.1⟩, fun q => absurd q.1 (by decide), rfl, hv⟩
theorem LaV {w : Wd} {K : Ky} {L : List Lin} {S : List Int} {k : Int} (h : LmS w K L S k) : 0 ≤ w 141 54 ∧ w 141 54 ≤ 9999 := h.1.1.2.2.2.2
set_option maxRecDepth 100000 in
set_option maxHeartbeats 2000000 in
theorem m_rules (f : Int) (w : Wd) (hx : TxM w) (hv : 0 ≤ w 141 54 ∧ w 141 54 ≤ 9999) : CallN 39 mX12_rules [(2, 141), (0, f)] w (RQ (fun z w1 => RmQ w f z w1)) := by
  refine CallN.intro (by decide +kernel) (Nat.le_of_ble_eq_true rfl) (fun ρ hR => ?_)
  show AtN mX12_rules 39 ρ 0 [(0, (2, 141)), (1, (0, f))] [] w
  have hlen0 : (((spA []).length : Nat) : Int) + (reL (w 178) (w 141 50) 0).length + 0 ≤ 600 := by
    have h1 := stL_re (T := w 178) (n := w 141 50) (w 141 50).toNat (by have := hx.1; omega)
    rw [reL_end (by have := hx.1; omega), List.append_nil] at h1
    have h2 := stL_len (T := w 178) (w 141 50).toNat
    rw [h1] at h2
    have := hx.1
    show ((0 : Nat) : Int) + _ + 0 ≤ 600
    omega
  have L_203 : ∀ (fu : Nat) (i : Int) (vv : Wd) (v2 : Wd) (B : Wd) (n : Int) (stt : Int), B 141 48 = n → B 141 49 = stt → (0 ≤ n ∧ n ≤ 20) ∧ (0 ≤ stt ∧ stt ≤ 600) → 0 ≤ f ∧ f ≤ 2 → (∀ v2 w1, CpQ B v2 f n → CsQ (wu v2 171 (21 * f + n) stt) w1 f (2 * stt) → RmQ w f n w1) → CpQ B v2 f n → 0 ≤ i ∧ i ≤ 2 * stt → CsQ (wu v2 171 (21 * f + n) stt) vv f i → (2 * stt - i).toNat < fu → AtN mX12_rules 39 ρ 203 [(0, (2, 141)), (1, (0, f)), (3, (0, i))] [] vv := by
    intro fu
    induction fu with
    | zero => intro i vv v2 B n stt hb48 hb49 hnb hf hfin hC hi hCs hm; exact absurd hm (Nat.not_lt_zero _)
    | succ fu ih =>
      intro i vv v2 B n stt hb48 hb49 hnb hf hfin hC hi hCs hm
      have e48 : vv 141 48 = n := by rw [hCs.1 141 (by decide), wu_ne (by decide), hC.1 141 (by decide) (by decide) (by decide)]; exact hb48
      have e49 : vv 141 49 = stt := by rw [hCs.1 141 (by decide), wu_ne (by decide), hC.1 141 (by decide) (by decide) (by decide)]; exact hb49
      have e177 : vv 177 = (wu v2 171 (21 * f + n) stt) 177 := hCs.1 177 (by decide)
      refine s_iload_n dX12_rules_203 2 rfl (s_iconst dX12_rules_204 (by decide) (s_aload_n dX12_rules_205 0 rfl rfl (n_getf 141 49 0 dX12_rules_206 cf_X12 ff_X12_355 rfl sh_141 rfl (by decide) (v := (vv 141 49)) rfl (n_mul (z := (2 * (vv 141 49))) dX12_rules_209 (wr_id (by omega) (by omega)) (s_icmp_ge 237 dX12_rules_210 (by decide) (fun c_210 => ?_) (fun c_210 => ?_))))))
      · skip
        refine s_aload_n dX12_rules_237 0 rfl rfl (n_getf 141 48 0 dX12_rules_238 cf_X12 ff_X12_390 rfl sh_141 rfl (by decide) (v := (vv 141 48)) rfl (n_iret dX12_rules_241 hR rfl ?_))
        have e9 : i = 2 * stt := by omega
        rw [e9] at hCs
        exact ⟨_, rfl, by rw [e48]; exact hfin v2 vv hC hCs⟩
      · skip
        refine s_aload_n dX12_rules_213 0 rfl rfl (n_getc (q := 173) 141 41 183 dX12_rules_214 cf_X12 ff_X12_104 rfl sh_141 rfl (by decide) rfl (by decide) (s_sipush dX12_rules_217 (by decide) (s_iload_n dX12_rules_220 1 rfl (n_mul (z := (1220 * f)) dX12_rules_221 (wr_id (by omega) (by omega)) (s_iload_n dX12_rules_222 2 rfl (n_add (z := ((1220 * f) + i)) dX12_rules_223 (wr_id (by omega) (by omega)) (s_aload_n dX12_rules_224 0 rfl rfl (n_getc (q := 177) 141 45 187 dX12_rules_225 cf_X12 ff_X12_116 rfl sh_141 rfl (by decide) rfl (by decide) (s_iload_n dX12_rules_228 2 rfl ?_)))))))))
        refine n_iald 177 dX12_rules_229 rfl sh_177 (by decide) ⟨(by omega), (by omega)⟩ (v := (vv 177 i)) rfl (s_iastore 173 dX12_rules_230 rfl sh_173 (by decide) ⟨(by omega), (by omega)⟩ (s_iinc (z := (i + 1)) (ls' := [(0, (2, 141)), (1, (0, f)), (3, (0, (i + 1)))]) dX12_rules_231 2 rfl (Nat.le_of_ble_eq_true rfl) (wr_id (by omega) (by omega)) rfl (s_goto 203 dX12_rules_234 (by decide) ?_)))
        exact ih (i + 1) (wu vv 173 ((1220 * f) + i) (vv 177 i)) v2 B n stt hb48 hb49 hnb hf hfin hC (by omega) (hCs.step hi.1 (by rw [e177])) (by omega)
  have L_118 : ∀ (fu : Nat) (i : Int) (vv : Wd) (B : Wd) (n : Int) (stt : Int), B 141 48 = n → B 141 49 = stt → (0 ≤ n ∧ n ≤ 20) ∧ (0 ≤ stt ∧ stt ≤ 600) → 0 ≤ f ∧ f ≤ 2 → (∀ v2 w1, CpQ B v2 f n → CsQ (wu v2 171 (21 * f + n) stt) w1 f (2 * stt) → RmQ w f n w1) → 0 ≤ i ∧ i ≤ n → CpQ B vv f i → (n - i).toNat < fu → AtN mX12_rules 39 ρ 118 [(0, (2, 141)), (1, (0, f)), (3, (0, i))] [] vv := by
    intro fu
    induction fu with
    | zero => intro i vv B n stt hb48 hb49 hnb hf hfin hi hC hm; exact absurd hm (Nat.not_lt_zero _)
    | succ fu ih =>
      intro i vv B n stt hb48 hb49 hnb hf hfin hi hC hm
      have e48 : vv 141 48 = n := by rw [hC.1 141 (by decide) (by decide) (by decide)]; exact hb48
      have e49 : vv 141 49 = stt := by rw [hC.1 141 (by decide) (by decide) (by decide)]; exact hb49
      have e174 : vv 174 = B 174 := hC.1 174 (by decide) (by decide) (by decide)
      have e175 : vv 175 = B 175 := hC.1 175 (by decide) (by decide) (by decide)
      have e176 : vv 176 = B 176 := hC.1 176 (by decide) (by decide) (by decide)
      refine s_iload_n dX12_rules_118 2 rfl (s_aload_n dX12_rules_119 0 rfl rfl (n_getf 141 48 0 dX12_rules_120 cf_X12 ff_X12_390 rfl sh_141 rfl (by decide) (v := (vv 141 48)) rfl (s_icmp_ge 183 dX12_rules_123 (by decide) (fun c_123 => ?_) (fun c_123 => ?_))))
      · skip
        refine s_aload_n dX12_rules_183 0 rfl rfl (n_getc (q := 171) 141 39 181 dX12_rules_184 cf_X12 ff_X12_98 rfl sh_141 rfl (by decide) rfl (by decide) (s_bipush dX12_rules_187 (by decide) (s_iload_n dX12_rules_189 1 rfl (n_mul (z := (21 * f)) dX12_rules_190 (wr_id (by omega) (by omega)) (s_aload_n dX12_rules_191 0 rfl rfl (n_getf 141 48 0 dX12_rules_192 cf_X12 ff_X12_390 rfl sh_141 rfl (by decide) (v := (vv 141 48)) rfl (n_add (z := ((21 * f) + (vv 141 48))) dX12_rules_195 (wr_id (by omega) (by omega)) (s_aload_n dX12_rules_196 0 rfl rfl (n_getf 141 49 0 dX12_rules_197 cf_X12 ff_X12_355 rfl sh_141 rfl (by decide) (v := (vv 141 49)) rfl ?_)))))))))
        refine s_iastore 171 dX12_rules_200 rfl sh_171 (by decide) ⟨(by omega), (by omega)⟩ (s_iconst dX12_rules_201 (by decide) (s_istore_n (ls' := [(0, (2, 141)), (1, (0, f)), (3, (0, 0))]) dX12_rules_202 (Nat.le_of_ble_eq_true rfl) rfl ?_))
        exact L_203 _ 0 (wu vv 171 ((21 * f) + (vv 141 48)) (vv 141 49)) vv B n stt hb48 hb49 hnb hf hfin (by rw [show n = i by omega]; exact hC) (by omega) (by rw [e48, e49]; exact CsQ.z) (Nat.lt_succ_self _)
      · skip
        refine s_aload_n dX12_rules_126 0 rfl rfl (n_getc (q := 170) 141 38 180 dX12_rules_127 cf_X12 ff_X12_95 rfl sh_141 rfl (by decide) rfl (by decide) (s_bipush dX12_rules_130 (by decide) (s_iload_n dX12_rules_132 1 rfl (n_mul (z := (20 * f)) dX12_rules_133 (wr_id (by omega) (by omega)) (s_iload_n dX12_rules_134 2 rfl (n_add (z := ((20 * f) + i)) dX12_rules_135 (wr_id (by omega) (by omega)) (s_aload_n dX12_rules_136 0 rfl rfl (n_getc (q := 174) 141 42 184 dX12_rules_137 cf_X12 ff_X12_107 rfl sh_141 rfl (by decide) rfl (by decide) (s_iload_n dX12_rules_140 2 rfl ?_)))))))))
        refine n_iald 174 dX12_rules_141 rfl sh_174 (by decide) ⟨(by omega), (by omega)⟩ (v := (vv 174 i)) rfl (s_iastore 170 dX12_rules_142 rfl sh_170 (by decide) ⟨(by omega), (by omega)⟩ (s_aload_n dX12_rules_143 0 rfl rfl (n_getc (q := 171) 141 39 181 dX12_rules_144 cf_X12 ff_X12_98 rfl sh_141 rfl (by decide) rfl (by decide) (s_bipush dX12_rules_147 (by decide) (s_iload_n dX12_rules_149 1 rfl (n_mul (z := (21 * f)) dX12_rules_150 (wr_id (by omega) (by omega)) (s_iload_n dX12_rules_151 2 rfl (n_add (z := ((21 * f) + i)) dX12_rules_152 (wr_id (by omega) (by omega)) (s_aload_n dX12_rules_153 0 rfl rfl ?_)))))))))
        refine n_getc (q := 175) 141 43 185 dX12_rules_154 cf_X12 ff_X12_110 rfl sh_141 rfl (by decide) rfl (by decide) (s_iload_n dX12_rules_157 2 rfl (n_iald 175 dX12_rules_158 rfl sh_175 (by decide) ⟨(by omega), (by omega)⟩ (v := (vv 175 i)) rfl (s_iastore 171 dX12_rules_159 rfl sh_171 (by decide) ⟨(by omega), (by omega)⟩ (s_aload_n dX12_rules_160 0 rfl rfl (n_getc (q := 172) 141 40 182 dX12_rules_161 cf_X12 ff_X12_101 rfl sh_141 rfl (by decide) rfl (by decide) (s_bipush dX12_rules_164 (by decide) (s_iload_n dX12_rules_166 1 rfl (n_mul (z := (20 * f)) dX12_rules_167 (wr_id (by omega) (by omega)) (s_iload_n dX12_rules_168 2 rfl ?_)))))))))
        refine n_add (z := ((20 * f) + i)) dX12_rules_169 (wr_id (by omega) (by omega)) (s_aload_n dX12_rules_170 0 rfl rfl (n_getc (q := 176) 141 44 186 dX12_rules_171 cf_X12 ff_X12_113 rfl sh_141 rfl (by decide) rfl (by decide) (s_iload_n dX12_rules_174 2 rfl (n_iald 176 dX12_rules_175 rfl sh_176 (by decide) ⟨(by omega), (by omega)⟩ (v := (vv 176 i)) rfl (s_iastore 172 dX12_rules_176 rfl sh_172 (by decide) ⟨(by omega), (by omega)⟩ (s_iinc (z := (i + 1)) (ls' := [(0, (2, 141)), (1, (0, f)), (3, (0, (i + 1)))]) dX12_rules_177 2 rfl (Nat.le_of_ble_eq_true rfl) (wr_id (by omega) (by omega)) rfl (s_goto 118 dX12_rules_180 (by decide) ?_)))))))
        exact ih (i + 1) (wu (wu (wu vv 170 ((20 * f) + i) (vv 174 i)) 171 ((21 * f) + i) (vv 175 i)) 172 ((20 * f) + i) (vv 176 i)) B n stt hb48 hb49 hnb hf hfin (by omega) (hC.step hi.1 (by rw [e174]) (by rw [e175]) (by rw [e176])) (by omega)
  have L_52 : ∀ (fu : Nat) (good : Int) (v9 : Wd) (L : List Lin) (S : List Int), good = 0 ∨ good = 1 → ((good = 1 ∧ LmS v9 (KM' w) L S 0 ∧ liP (KM' w) (22 - L.length) L S = (txX (w 178) (w 141 50)) ∧ v9 141 55 = 0) ∨ (good = 0 ∧ ∃ e, (txX (w 178) (w 141 50)) = .inl e ∧ v9 141 55 = e.1 ∧ v9 141 56 = e.2)) → FrA (wu (wu w 141 57 0) 141 59 (-1)) v9 → 0 ≤ v9 141 54 ∧ v9 141 54 ≤ 9999 → 0 ≤ f ∧ f ≤ 2 → (S.length + good.toNat) < fu → AtN mX12_rules 39 ρ 52 [(0, (2, 141)), (1, (0, f)), (2, (0, good))] [] v9 := by
    intro fu
    induction fu with
    | zero => intro good v9 L S hg hM hA hv9 hf9 hm; exact absurd hm (Nat.not_lt_zero _)
    | succ fu ih =>
      intro good v9 L S hg hM hA hv9 hf9 hm
      refine s_iload_n dX12_rules_52 2 rfl (s_if_eq 71 dX12_rules_53 (by decide) (fun c_53 => ?_) (fun c_53 => ?_))
      · skip
        refine s_aload_n dX12_rules_71 0 rfl rfl (s_iconst dX12_rules_72 (by decide) (n_putf 141 50 50 dX12_rules_73 cf_X12 ff_X12_277 rfl rfl sh_141 rfl rfl rfl (s_aload_n dX12_rules_76 0 rfl rfl (s_aload_n dX12_rules_77 0 rfl rfl (n_getf 141 55 0 dX12_rules_78 cf_X12 ff_X12_343 rfl sh_141 rfl (by decide) (v := (v9 141 55)) rfl (n_putf 141 57 57 dX12_rules_81 cf_X12 ff_X12_393 rfl rfl sh_141 rfl rfl rfl (s_aload_n dX12_rules_84 0 rfl rfl (s_iload_n dX12_rules_85 2 rfl (s_if_eq 93 dX12_rules_86 (by decide) (fun c_86 => ?_) (fun c_86 => ?_))))))))))
        · skip
          skip
          refine s_aload_n dX12_rules_93 0 rfl rfl (n_getf 141 56 0 dX12_rules_94 cf_X12 ff_X12_346 rfl sh_141 rfl (by decide) (v := (v9 141 56)) rfl (n_putf 141 59 59 dX12_rules_97 cf_X12 ff_X12_125 rfl rfl sh_141 rfl rfl rfl (s_iload_n dX12_rules_100 2 rfl (s_if_ne 106 dX12_rules_101 (by decide) (fun c_101 => ?_) (fun c_101 => ?_)))))
          · skip
            exfalso
            omega
          · skip
            skip
            refine s_iconst dX12_rules_104 (by decide) (n_iret dX12_rules_105 hR rfl ?_)
            rcases hM with q | ⟨q0, e9, q1, q2, q3⟩
            · exfalso
              omega
            · exact ⟨_, rfl, Or.inr ⟨hf9, Or.inl ⟨rfl, e9, v9, q1, hA, hv9, by rw [q2, q3]⟩⟩⟩
        · skip
          exfalso
          omega
      · skip
        have hM2 : LmS v9 (KM' w) L S 0 ∧ liP (KM' w) (22 - L.length) L S = (txX (w 178) (w 141 50)) ∧ v9 141 55 = 0 := by
          rcases hM with q | q
          · exact q.2
          · omega
        have hS0 : MpS v9 (KM' w) 0 (spA L) S (v9 141 58) 0 := ⟨hM2.1.1, hM2.1.2.1, hM2.1.2.2.1, rfl, by have := hM2.1.2.2.2.1; show ((0 : Nat) : Int) + _ + _ + 0 ≤ 600; omega⟩
        have hL20 := hM2.1.2.2.2.2.1.1
        refine s_aload_n dX12_rules_56 0 rfl rfl (n_getf 141 52 0 dX12_rules_57 cf_X12 ff_X12_328 rfl sh_141 rfl (by decide) (v := (v9 141 52)) rfl (s_if_eq 71 dX12_rules_60 (by decide) (fun c_60 => ?_) (fun c_60 => ?_)))
        · skip
          have k60 : hdK (KM' w) S = 0 := hS0.tk.c0.mp (by omega)
          refine s_aload_n dX12_rules_71 0 rfl rfl (s_iconst dX12_rules_72 (by decide) (n_putf 141 50 50 dX12_rules_73 cf_X12 ff_X12_277 rfl rfl sh_141 rfl rfl rfl (s_aload_n dX12_rules_76 0 rfl rfl (s_aload_n dX12_rules_77 0 rfl rfl (n_getf 141 55 0 dX12_rules_78 cf_X12 ff_X12_343 rfl sh_141 rfl (by decide) (v := (v9 141 55)) rfl (n_putf 141 57 57 dX12_rules_81 cf_X12 ff_X12_393 rfl rfl sh_141 rfl rfl rfl (s_aload_n dX12_rules_84 0 rfl rfl (s_iload_n dX12_rules_85 2 rfl (s_if_eq 93 dX12_rules_86 (by decide) (fun c_86 => ?_) (fun c_86 => ?_))))))))))
          · skip
            exfalso
            omega
          · skip
            skip
            refine s_iconst dX12_rules_89 (by decide) (s_goto 97 dX12_rules_90 (by decide) (n_putf 141 59 59 dX12_rules_97 cf_X12 ff_X12_125 rfl rfl sh_141 rfl rfl rfl (s_iload_n dX12_rules_100 2 rfl (s_if_ne 106 dX12_rules_101 (by decide) (fun c_101 => ?_) (fun c_101 => ?_)))))
            · skip
              skip
              refine s_aload_n dX12_rules_106 0 rfl rfl (n_getc (q := 169) 141 37 179 dX12_rules_107 cf_X12 ff_X12_92 rfl sh_141 rfl (by decide) rfl (by decide) (s_iload_n dX12_rules_110 1 rfl (s_aload_n dX12_rules_111 0 rfl rfl (n_getf 141 48 0 dX12_rules_112 cf_X12 ff_X12_390 rfl sh_141 rfl (by decide) (v := (v9 141 48)) rfl (s_iastore 169 dX12_rules_115 rfl sh_169 (by decide) ⟨(by omega), (by omega)⟩ ?_)))))
              have hM3 := hM2.1
              have hnil : S = [] := hd_nil (kyT_ok _ _) k60
              rw [hnil] at hM2 hM3
              have q55 : v9 141 55 = 0 := hM2.2.2
              have q48 : v9 141 48 = L.length := hM3.2.2.2.2.1.2
              have q49 : v9 141 49 = (spA L).length := by rw [hM3.2.2.1.1]; exact Int.zero_add _
              have hsp := hM3.2.2.2.1
              rw [q55, q48]
              obtain ⟨B, hB⟩ : ∃ B, B = wu (RdM v9 0 (-1)) 169 f L.length := ⟨_, rfl⟩
              show AtN _ _ ρ 116 _ _ (wu (RdM v9 0 (-1)) 169 f L.length)
              rw [← hB]
              obtain ⟨n, hn9⟩ : ∃ n : Int, n = L.length := ⟨_, rfl⟩
              obtain ⟨stt, hs9⟩ : ∃ stt : Int, stt = (spA L).length := ⟨_, rfl⟩
              have hb48 : B 141 48 = n := by rw [hB]; unfold RdM; rw [wu_ne (by decide), wu_f (by decide), wu_f (by decide), wu_f (by decide), q48, hn9]
              have hb49 : B 141 49 = stt := by rw [hB]; unfold RdM; rw [wu_ne (by decide), wu_f (by decide), wu_f (by decide), wu_f (by decide), q49, hs9]
              have hnb : (0 ≤ n ∧ n ≤ 20) ∧ (0 ≤ stt ∧ stt ≤ 600) := by
                rw [show ([] : List Int).length = 0 from rfl] at hsp
                omega
              have hfin : ∀ v2 w1, CpQ B v2 f n → CsQ (wu v2 171 (21 * f + n) stt) w1 f (2 * stt) → RmQ w f n w1 := fun v2 w1 a b => by
                rw [hB, hn9] at a
                rw [hn9, hs9] at b
                exact Or.inr ⟨hf9, Or.inr ⟨L, v9, v2, by rw [← hM2.2.1, liP_nil], hn9, hA, hM3, a, b⟩⟩
              refine s_iconst dX12_rules_116 (by decide) (s_istore_n (ls' := [(0, (2, 141)), (1, (0, f)), (2, (0, good)), (3, (0, 0))]) dX12_rules_117 (Nat.le_of_ble_eq_true rfl) rfl ?_)
              exact At.keep (ls' := [(0, (2, 141)), (1, (0, f)), (3, (0, 0))]) [0, 1, 3] rfl (L_118 _ 0 B B n stt hb48 hb49 hnb hf9 hfin (by omega) CpQ.z (Nat.lt_succ_self _))
            · skip
              exfalso
              omega
        · skip
          have k60 : hdK (KM' w) S ≠ 0 := fun z => absurd (hS0.tk.c0.mpr z) (by omega)
          refine s_aload_n dX12_rules_63 0 rfl rfl (n_invV' (as := []) dX12_rules_64 kv_X12_aLine ml_X12_396 (c_M_aLine v9 hM2.1 (by decide)) (by decide) 141 cf_X12 rfl sh_141 rfl rfl rfl (Nat.le_of_ble_eq_true rfl) ?_)
          rintro r_64 w_64 ⟨z_64, rfl, hz_64⟩
          show AtN _ _ ρ _ _ [(0, z_64)] w_64
          have hS1 : S ≠ [] := fun e => k60 (by rw [e]; rfl)
          have hS2 : 0 < S.length := List.length_pos_iff.mpr hS1
          have hfu : 22 - L.length = (21 - L.length) + 1 := by omega
          have hKo : KOK (KM' w) := kyT_ok _ _
          refine s_istore_n (ls' := [(0, (2, 141)), (1, (0, f)), (2, (0, z_64))]) dX12_rules_67 (Nat.le_of_ble_eq_true rfl) rfl ?_
          rcases hz_64 with ⟨hz, e9, q1, q2, q3, q4⟩ | ⟨hz, q9, R9, q1, q2, q3, q4⟩
          · skip
            have hl0 : ([] : List Int).length = 0 := rfl
            refine s_goto 52 dX12_rules_68 (by decide) ?_
            exact ih z_64 w_64 ([]) ([]) (by omega) (Or.inr ⟨hz, e9, by rw [← hM2.2.1, hfu]; exact liP_in hS1 q1, q3, q4⟩) (hA.tr q2) (q2.2.2 hv9) hf9 (by omega)
          · skip
            have hlt9 := (ln_gr hKo q1).2.2.1
            refine s_goto 52 dX12_rules_68 (by decide) ?_
            exact ih z_64 w_64 (L ++ [q9]) R9 (by omega) (Or.inl ⟨hz, q3, by rw [← hM2.2.1, hfu, liP_on hS1 q1, List.length_append]; exact congrArg (fun f => liP (KM' w) f (L ++ [q9]) R9) (by show 22 - (L.length + 1) = 21 - L.length; omega), q4.trans hM2.2.2⟩) (hA.tr q2) (LaV q3) hf9 (by omega)
          
  refine s_aload_n dX12_rules_0 0 rfl rfl (s_iconst dX12_rules_1 (by decide) (n_putf 141 57 57 dX12_rules_2 cf_X12 ff_X12_393 rfl rfl sh_141 rfl rfl rfl (s_aload_n dX12_rules_5 0 rfl rfl (s_iconst dX12_rules_6 (by decide) (n_putf 141 59 59 dX12_rules_7 cf_X12 ff_X12_125 rfl rfl sh_141 rfl rfl rfl (s_iload_n dX12_rules_10 1 rfl (s_iconst dX12_rules_11 (by decide) (s_iconst dX12_rules_12 (by decide) (n_invS (as := [(0, f), (0, 0), (0, 2)]) dX12_rules_13 kv_X12_isIn ml_X12_223 (c_isIn f 0 2 (wu (wu w 141 57 0) 141 59 (-1))) (by decide) rfl rfl (Nat.le_of_ble_eq_true rfl) ?_)))))))))
  refine n_ifne_b 26 dX12_rules_16 (by decide) (fun c_16 => ?_) (fun c_16 => ?_)
  · skip
    refine s_aload_n dX12_rules_26 0 rfl rfl (s_iconst dX12_rules_27 (by decide) (n_putf 141 55 55 dX12_rules_28 cf_X12 ff_X12_343 rfl rfl sh_141 rfl rfl rfl (s_aload_n dX12_rules_31 0 rfl rfl (s_iconst dX12_rules_32 (by decide) (n_putf 141 51 51 dX12_rules_33 cf_X12 ff_X12_280 rfl rfl sh_141 rfl rfl rfl (s_aload_n dX12_rules_36 0 rfl rfl (s_iconst dX12_rules_37 (by decide) (n_putf 141 48 48 dX12_rules_38 cf_X12 ff_X12_390 rfl rfl sh_141 rfl rfl rfl (s_aload_n dX12_rules_41 0 rfl rfl ?_)))))))))
    refine s_iconst dX12_rules_42 (by decide) (n_putf 141 49 49 dX12_rules_43 cf_X12 ff_X12_355 rfl rfl sh_141 rfl rfl rfl (s_aload_n dX12_rules_46 0 rfl rfl (n_invV' (as := []) dX12_rules_47 kv_X12_next0 ml_X12_352 (c_M_next0 (S := reL (w 178) (w 141 50) 0) (wu (wu (wu (wu (wu (wu w 141 57 0) 141 59 (-1)) 141 55 0) 141 51 0) 141 48 0) 141 49 0) (RuPo hx hv)) (by decide) 141 cf_X12 rfl sh_141 rfl rfl rfl (Nat.le_of_ble_eq_true rfl) ?_)))
    rintro r_47 w_47 ⟨rfl, hF47, hM47⟩
    have hA47 : FrA (wu (wu w 141 57 0) 141 59 (-1)) w_47 := FrA.tr FrA.r0 (hF47.M hM47.1.2.2.2.2).A
    have hK47 : KM' w_47 = KM' w := hF47.km.trans (KM_r0 w)
    have h55 : w_47 141 55 = 0 := by rw [hF47.2 55 (by omega)]; exact w55_r0 w
    have h48 : w_47 141 48 = 0 := by rw [hF47.2 48 (by omega)]; exact w48_r0 w
    have h49 : w_47 141 49 = 0 := by rw [hF47.2 49 (by omega)]; exact wu_same ..
    refine s_iconst dX12_rules_50 (by decide) (s_istore_n (ls' := [(0, (2, 141)), (1, (0, f)), (2, (0, 1))]) dX12_rules_51 (Nat.le_of_ble_eq_true rfl) rfl ?_)
    exact L_52 _ 1 w_47 ([]) (reL (w 178) (w 141 50) 0) (Or.inr rfl) (Or.inl ⟨rfl, ⟨hM47, hK47, ⟨by rw [h49]; rfl, fun j hj => absurd hj (Nat.not_lt_zero j)⟩, hlen0, ⟨by decide, by rw [h48]; rfl⟩, fun i hi => absurd hi (Nat.not_lt_zero i)⟩, rfl, h55⟩) hA47 hM47.1.2.2.2.2 c_16 (Nat.lt_succ_self _)
  · skip
    refine s_aload_n dX12_rules_19 0 rfl rfl (s_iconst dX12_rules_20 (by decide) (n_putf 141 50 50 dX12_rules_21 cf_X12 ff_X12_277 rfl rfl sh_141 rfl rfl rfl (s_iconst dX12_rules_24 (by decide) (n_iret dX12_rules_25 hR rfl ?_))))
    exact ⟨_, rfl, Or.inl ⟨c_16, rfl, rfl⟩⟩

