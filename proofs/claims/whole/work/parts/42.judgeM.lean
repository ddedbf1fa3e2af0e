/-! FACTS, JUDGE, RUNS: the reference. -/
def fcM (w : Wd) (p h : Int) : Int → Int := fcV (w 142 (w 147 p)) (w 145 (w 147 p)) (w 143 (w 147 p)) (w 146 (w 147 p)) (w 148 p) (if fst (w 168) h (w 141 5).toNat = -1 then 3 else w 165 (fst (w 168) h (w 141 5).toNat)) (w 156 h) (w 158 h) (w 157 h) (w 141 0)
/-- the reference's tables hold these lines -/
def LNM (w : Wd) (LN : Int → List Lin) : Prop := ∀ f : Int, 0 ≤ f → f < 3 → w 169 f = (LN f).length ∧ (LN f).length ≤ 20 ∧ ∀ i : Nat, i < (LN f).length → lnM w f i (lnD (LN f) i) ∧ okLin (lnD (LN f) i)
/-- only the pile, the facts and the fields 61 to 64 are otherwise -/
def FrL (w v : Wd) : Prop := (∀ c, c ≠ 141 → c ≠ 179 → v c = w c) ∧ ∀ j : Int, (j < 61 ∨ 64 < j) → v 141 j = w 141 j
theorem FrL.rf {w : Wd} : FrL w w := ⟨fun _ _ _ => rfl, fun _ _ => rfl⟩
theorem FrL.tr {w v u : Wd} (h : FrL w v) (h2 : FrL v u) : FrL w u := ⟨fun c a b => (h2.1 c a b).trans (h.1 c a b), fun j hj => (h2.2 j hj).trans (h.2 j hj)⟩
theorem FrL.p {w v u : Wd} (h : FrL w v) (h2 : ∀ c, c ≠ 179 → u c = v c) : FrL w u := ⟨fun c a b => (h2 c b).trans (h.1 c a b), fun j hj => by rw [h2 141 (by decide)]; exact h.2 j hj⟩
theorem FrL.u1 {w v : Wd} {j x : Int} (h : FrL w v) (hj : 61 ≤ j ∧ j ≤ 64) : FrL w (wu v 141 j x) := ⟨fun c a b => by rw [wu_ne a]; exact h.1 c a b, fun k hk => by rw [wu_at, if_neg (by omega)]; exact h.2 k hk⟩
theorem LNM.e {w v : Wd} {LN : Int → List Lin} (h : LNM w LN) (hf : ∀ c, c = 169 ∨ c = 170 ∨ c = 171 ∨ c = 172 ∨ c = 173 → v c = w c) : LNM v LN := fun f a b => by
  obtain ⟨h1, h2, h3⟩ := h f a b
  refine ⟨by rw [hf 169 (by omega)]; exact h1, h2, fun i hi => ⟨?_, (h3 i hi).2⟩⟩
  have := (h3 i hi).1
  unfold lnM stA at this ⊢
  rw [hf 170 (by omega), hf 171 (by omega), hf 172 (by omega), hf 173 (by omega)]
  exact this
theorem LNM.fr {w v : Wd} {LN : Int → List Lin} (h : LNM w LN) (hf : FrL w v) : LNM v LN := h.e (fun c hc => hf.1 c (by omega) (by omega))

theorem ev1_c {F G : Int → Int} (hF : ∀ k, 1 ≤ k → k ≤ 10 → F k = G k) {p : Stq} {st : List Int} {B h' : Nat} {r : List Stq} (h : okL B (p :: r) st.length h') : ev1 F p st = ev1 G p st := by
  rw [okL] at h
  unfold ev1
  by_cases c : p.1 < 12
  · rw [if_pos c] at h
    rw [if_pos c, if_pos c]
    by_cases c0 : p.1 = 0
    · rw [if_pos c0, if_pos c0]
    · rw [if_neg c0, if_neg c0, hF p.1 (by omega) (by omega)]
  · rw [if_neg c, if_neg c]
theorem evL_c {F G : Int → Int} (hF : ∀ k, 1 ≤ k → k ≤ 10 → F k = G k) {B : Nat} : ∀ (L : List Stq) {st : List Int} {h' : Nat}, okL B L st.length h' → evL F L st = evL G L st
  | [], st, h', h => rfl
  | p :: r, st, h', h => by
    rw [evL, evL, ev1_c hF h]
    exact evL_c hF r (ev1_len (F := G) h).1
theorem vaL_c {F G : Int → Int} (hF : ∀ k, 1 ≤ k → k ≤ 10 → F k = G k) {B h' : Nat} {L : List Stq} (h : okL B L 0 h') : vaL F L = vaL G L := by
  unfold vaL
  rw [evL_c hF L (st := []) h]
theorem soI_c {F G : Int → Int} (hF : ∀ k, 1 ≤ k → k ≤ 10 → F k = G k) {q : Lin} (ho : okLin q) : soI F q = soI G q := by
  unfold soI
  by_cases c : q.2.2 = []
  · rw [if_pos (Or.inl c), if_pos (Or.inl c)]
  · rw [vaL_c hF (ho.2.2.2 c).1]
theorem jd1_c {F G : Int → Int} (hF : ∀ k, 1 ≤ k → k ≤ 10 → F k = G k) {f i : Int} {q : Lin} {S : Jd} (ho : okLin q) : jd1 F f i q S = jd1 G f i q S := by
  unfold jd1
  rw [soI_c hF ho]
  by_cases c : q.1 = 0
  · simp only [if_pos c]
  · rw [vaL_c hF (ho.2.2.1 c)]
theorem jdL_c {F G : Int → Int} (hF : ∀ k, 1 ≤ k → k ≤ 10 → F k = G k) {f : Int} {L : List Lin} {S : Jd} : ∀ n : Nat, (∀ i, i < n → okLin (lnD L i)) → jdL F f L n S = jdL G f L n S
  | 0, _ => rfl
  | n + 1, h => by rw [jdL, jdL, jdL_c hF n (fun i hi => h i (by omega)), jd1_c hF (h n (by omega))]
theorem jdA_c {F G : Int → Int} (hF : ∀ k, 1 ≤ k → k ≤ 10 → F k = G k) {LN : Int → List Lin} : ∀ n : Nat, (∀ f : Int, 0 ≤ f → f < n → ∀ i, i < (LN f).length → okLin (lnD (LN f) i)) → jdA F LN n = jdA G LN n
  | 0, _ => rfl
  | n + 1, h => by rw [jdA, jdA, jdA_c hF n (fun f a b => h f a (by omega)), jdL_c hF _ (h n (by omega) (by omega))]
theorem jdF_c {F G : Int → Int} (hF : ∀ k, 1 ≤ k → k ≤ 10 → F k = G k) {LN : Int → List Lin} (h : ∀ f : Int, 0 ≤ f → f < 3 → ∀ i, i < (LN f).length → okLin (lnD (LN f) i)) : jdF F LN = jdF G LN := by
  unfold jdF
  rw [jdA_c hF 3 h]

set_option maxRecDepth 100000 in
set_option maxHeartbeats 2000000 in
theorem c_M_asksAll (p h : Int) (w : Wd) (LN : Int → List Lin) (hs : LNM w LN) (hp : 0 ≤ p ∧ p < 30) (hh : 0 ≤ h ∧ h < 16) (hpi : 0 ≤ w 147 p ∧ w 147 p < 12) (hset : 0 ≤ w 141 5 ∧ w 141 5 ≤ 20) : CallN 5 mX12_asksAll [(2, 141), (0, p), (0, h)] w (RUQ (fun w1 => ((∀ c, c ≠ 141 → c ≠ 179 → c ≠ 180 → w1 c = w c) ∧ ∀ j : Int, (j < 61 ∨ 64 < j) → w1 141 j = w 141 j) ∧ (w1 141 61, w1 141 62, w1 141 63, w1 141 64) = jdF (fcM w p h) LN)) := by
  refine CallN.intro (by decide +kernel) (Nat.le_of_ble_eq_true rfl) (fun ρ hR => ?_)
  show AtN mX12_asksAll 5 ρ 0 [(0, (2, 141)), (1, (0, p)), (2, (0, h))] [] w
  have L_183 : ∀ (fu : Nat) (u : Wd) (f : Int) (m : Int) (i : Int) (v9 : Wd), (∀ c, c ≠ 141 → c ≠ 180 → u c = w c) → (∀ j : Int, (j < 61 ∨ 64 < j) → u 141 j = w 141 j) → (∀ k, 1 ≤ k → k ≤ 10 → u 180 k = fcM w p h k) → 0 ≤ f ∧ f < 3 → 0 ≤ i ∧ i ≤ (LN f).length → FrL u v9 → v9 141 63 = (jdA (u 180) LN f.toNat).2.2.1 → (v9 141 61, v9 141 62, m, v9 141 64) = jdL (u 180) f (LN f) i.toNat ((jdA (u 180) LN f.toNat).1, (jdA (u 180) LN f.toNat).2.1, 0, (jdA (u 180) LN f.toNat).2.2.2) → (∀ m1 (v : Wd), FrL u v → v 141 63 = (jdA (u 180) LN f.toNat).2.2.1 → (v 141 61, v 141 62, m1, v 141 64) = jdL (u 180) f (LN f) (LN f).length ((jdA (u 180) LN f.toNat).1, (jdA (u 180) LN f.toNat).2.1, 0, (jdA (u 180) LN f.toNat).2.2.2) → AtN mX12_asksAll 5 ρ 312 [(0, (2, 141)), (1, (0, p)), (2, (0, h)), (5, (0, f)), (6, (0, m1))] [] v) → (((LN f).length : Int) - i).toNat < fu → AtN mX12_asksAll 5 ρ 183 [(0, (2, 141)), (1, (0, p)), (2, (0, h)), (5, (0, f)), (6, (0, m)), (7, (0, i))] [] v9 := by
    intro fu
    induction fu with
    | zero => intro u f m i v9 hwu hju hgu hf hi hfl h6 hJ hK hm; exact absurd hm (Nat.not_lt_zero _)
    | succ fu ih =>
      intro u f m i v9 hwu hju hgu hf hi hfl h6 hJ hK hm
      have hs9 := (hs.e (v := u) (fun c hc => hwu c (by omega) (by omega))).fr hfl
      have hq := hs9 f hf.1 hf.2
      have hq1 := hq.1
      have hq2 := hq.2.1
      have hc180 : v9 180 = u 180 := hfl.1 180 (by decide) (by decide)
      refine s_iload dX12_asksAll_183 5 rfl (s_aload_n dX12_asksAll_185 0 rfl rfl (n_getc (q := 169) 141 37 179 dX12_asksAll_186 cf_X12 ff_X12_92 rfl sh_141 rfl (by decide) rfl (by decide) (s_iload dX12_asksAll_189 3 rfl (n_iald 169 dX12_asksAll_191 rfl sh_169 (by decide) ⟨(by omega), (by omega)⟩ (v := (v9 169 f)) rfl (s_icmp_ge 312 dX12_asksAll_192 (by decide) (fun c_192 => ?_) (fun c_192 => ?_))))))
      · skip
        have e9 : i = (LN f).length := by omega
        rw [e9] at hJ
        exact At.keep (ls' := [(0, (2, 141)), (1, (0, p)), (2, (0, h)), (5, (0, f)), (6, (0, m))]) [0, 1, 2, 3, 4] rfl (hK m v9 hfl h6 hJ)
      · skip
        have q5 := hq.2.2 i.toNat (by omega)
        refine s_aload_n dX12_asksAll_195 0 rfl rfl (s_iload dX12_asksAll_196 3 rfl (s_iload dX12_asksAll_198 5 rfl (n_invV' (as := [(0, f), (0, i)]) dX12_asksAll_200 kv_X12_isSo ml_X12_416 (c_M_isSo f i (lnD (LN f) i.toNat) v9 hf (by omega) (by have := q5.1; rwa [toN_c hi.1] at this) q5.2) (by decide) 141 cf_X12 rfl sh_141 rfl rfl rfl (Nat.le_of_ble_eq_true rfl) ?_)))
        rintro r_200 w_200 ⟨z_200, rfl, hw200, hso⟩
        show AtN _ _ ρ _ _ [(0, z_200)] w_200
        rw [hc180] at hso
        have hz2 := SoQ_I hso
        have h01 := SoQ_01 hso
        have eu : w_200 141 = v9 141 := hw200 141 (by decide)
        have e61 : w_200 141 61 = v9 141 61 := by rw [eu]
        have hfl9 : FrL u w_200 := hfl.p hw200
        have h69 : w_200 141 63 = (jdA (u 180) LN f.toNat).2.2.1 := by rw [eu]; exact h6
        have hkd : w_200 170 (20 * f + i) = (lnD (LN f) i.toNat).1 := by
          rw [hw200 170 (by decide)]
          obtain ⟨a, b0, b1, b2, b3, b4, b5, b6, b7⟩ := q5.1
          rw [toN_c hi.1] at b7
          exact b7
        have hk02 := q5.2.1
        refine s_if_ne 209 dX12_asksAll_203 (by decide) (fun c_203 => ?_) (fun c_203 => ?_)
        · skip
          refine s_aload_n dX12_asksAll_209 0 rfl rfl (n_getc (q := 170) 141 38 180 dX12_asksAll_210 cf_X12 ff_X12_95 rfl sh_141 rfl (by decide) rfl (by decide) (s_bipush dX12_asksAll_213 (by decide) (s_iload dX12_asksAll_215 3 rfl (n_mul (z := (20 * f)) dX12_asksAll_217 (wr_id (by omega) (by omega)) (s_iload dX12_asksAll_218 5 rfl (n_add (z := ((20 * f) + i)) dX12_asksAll_220 (wr_id (by omega) (by omega)) (n_iald 170 dX12_asksAll_221 rfl sh_170 (by decide) ⟨(by omega), (by omega)⟩ (v := (w_200 170 ((20 * f) + i))) rfl (s_istore (ls' := [(0, (2, 141)), (1, (0, p)), (2, (0, h)), (5, (0, f)), (6, (0, m)), (7, (0, i)), (8, (0, (w_200 170 ((20 * f) + i))))]) dX12_asksAll_222 (Nat.le_of_ble_eq_true rfl) rfl (s_iload dX12_asksAll_224 6 rfl ?_)))))))))
          refine s_if_ne 249 dX12_asksAll_226 (by decide) (fun c_226 => ?_) (fun c_226 => ?_)
          · skip
            refine s_iload dX12_asksAll_249 6 rfl (s_if_ne 258 dX12_asksAll_251 (by decide) (fun c_251 => ?_) (fun c_251 => ?_))
            · skip
              skip
              refine s_aload_n dX12_asksAll_258 0 rfl rfl (s_iload dX12_asksAll_259 3 rfl (s_iload dX12_asksAll_261 5 rfl (n_invV' (as := [(0, f), (0, i)]) dX12_asksAll_263 kv_X12_numberOf ml_X12_419 (c_M_numberOf f i (lnD (LN f) i.toNat) w_200 hf (by omega) (by have := ((hs9.fr (FrL.rf.p hw200) f hf.1 hf.2).2.2 i.toNat (by omega)).1; rwa [toN_c hi.1] at this) q5.2 (by omega)) (by decide) 141 cf_X12 rfl sh_141 rfl rfl rfl (Nat.le_of_ble_eq_true rfl) ?_)))
              rintro r_263 w_263 ⟨z_263, rfl, hw263, hz_263⟩
              show AtN _ _ ρ _ _ [(0, z_263)] w_263
              have hfl8 := hfl9
              have hfl9 : FrL u w_263 := hfl8.p hw263
              have eu9 : w_263 141 = v9 141 := (hw263 141 (by decide)).trans eu
              have e64 : w_263 141 64 = v9 141 64 := by rw [eu9]
              have hzv : z_263 = vaL (u 180) (lnD (LN f) i.toNat).2.1 := by rw [hz_263, hw200 180 (by decide), hc180]
              have h69 : w_263 141 63 = (jdA (u 180) LN f.toNat).2.2.1 := by rw [eu9]; exact h6
              refine s_istore (ls' := [(0, (2, 141)), (1, (0, p)), (2, (0, h)), (5, (0, f)), (6, (0, m)), (7, (0, i)), (8, (0, (w_200 170 ((20 * f) + i)))), (9, (0, z_263))]) dX12_asksAll_266 (Nat.le_of_ble_eq_true rfl) rfl (s_iload dX12_asksAll_268 6 rfl (s_iconst dX12_asksAll_270 (by decide) (s_icmp_ne 285 dX12_asksAll_271 (by decide) (fun c_271 => ?_) (fun c_271 => ?_))))
              · skip
                refine s_iload dX12_asksAll_285 6 rfl (s_iconst dX12_asksAll_287 (by decide) (s_icmp_ne 306 dX12_asksAll_288 (by decide) (fun c_288 => ?_) (fun c_288 => ?_)))
                · skip
                  exfalso
                  omega
                · skip
                  skip
                  refine s_iload dX12_asksAll_291 7 rfl (s_aload_n dX12_asksAll_293 0 rfl rfl (n_getf 141 64 0 dX12_asksAll_294 cf_X12 ff_X12_414 rfl sh_141 rfl (by decide) (v := (w_263 141 64)) rfl (s_icmp_le 306 dX12_asksAll_297 (by decide) (fun c_297 => ?_) (fun c_297 => ?_))))
                  · skip
                    refine s_iinc (z := (i + 1)) (ls' := [(0, (2, 141)), (1, (0, p)), (2, (0, h)), (5, (0, f)), (6, (0, m)), (7, (0, (i + 1))), (8, (0, (w_200 170 ((20 * f) + i)))), (9, (0, z_263))]) dX12_asksAll_306 5 rfl (Nat.le_of_ble_eq_true rfl) (wr_id (by omega) (by omega)) rfl (s_goto 183 dX12_asksAll_309 (by decide) ?_)
                    exact At.keep (ls' := [(0, (2, 141)), (1, (0, p)), (2, (0, h)), (5, (0, f)), (6, (0, m)), (7, (0, (i + 1)))]) [0, 1, 2, 3, 4, 5] rfl (ih u f m (i + 1) w_263 hwu hju hgu (by omega) (by omega) hfl9 h69 (by rw [jdL_s hi.1, ← hJ, jd1_keep (by omega) (by omega), eu9, ← hzv]; unfold mxL; rw [if_pos (by omega)]) hK (by omega))
                  · skip
                    refine s_aload_n dX12_asksAll_300 0 rfl rfl (s_iload dX12_asksAll_301 7 rfl (n_putf 141 64 64 dX12_asksAll_303 cf_X12 ff_X12_414 rfl rfl sh_141 rfl rfl rfl (s_iinc (z := (i + 1)) (ls' := [(0, (2, 141)), (1, (0, p)), (2, (0, h)), (5, (0, f)), (6, (0, m)), (7, (0, (i + 1))), (8, (0, (w_200 170 ((20 * f) + i)))), (9, (0, z_263))]) dX12_asksAll_306 5 rfl (Nat.le_of_ble_eq_true rfl) (wr_id (by omega) (by omega)) rfl (s_goto 183 dX12_asksAll_309 (by decide) ?_))))
                    exact At.keep (ls' := [(0, (2, 141)), (1, (0, p)), (2, (0, h)), (5, (0, f)), (6, (0, m)), (7, (0, (i + 1)))]) [0, 1, 2, 3, 4, 5] rfl (ih u f m (i + 1) (wu w_263 141 64 z_263) hwu hju hgu (by omega) (by omega) (FrL.u1 hfl9 (by decide)) h69 (by rw [jdL_s hi.1, ← hJ, jd1_keep (by omega) (by omega), ← hzv]; unfold mxL; rw [if_neg (by omega)]; show (w_263 141 61, w_263 141 62, m, z_263) = _; rw [eu9]) hK (by omega))
              · skip
                skip
                refine s_iload dX12_asksAll_274 7 rfl (s_iload dX12_asksAll_276 4 rfl (s_icmp_le 285 dX12_asksAll_278 (by decide) (fun c_278 => ?_) (fun c_278 => ?_)))
                · skip
                  refine s_iload dX12_asksAll_285 6 rfl (s_iconst dX12_asksAll_287 (by decide) (s_icmp_ne 306 dX12_asksAll_288 (by decide) (fun c_288 => ?_) (fun c_288 => ?_)))
                  · skip
                    skip
                    refine s_iinc (z := (i + 1)) (ls' := [(0, (2, 141)), (1, (0, p)), (2, (0, h)), (5, (0, f)), (6, (0, m)), (7, (0, (i + 1))), (8, (0, (w_200 170 ((20 * f) + i)))), (9, (0, z_263))]) dX12_asksAll_306 5 rfl (Nat.le_of_ble_eq_true rfl) (wr_id (by omega) (by omega)) rfl (s_goto 183 dX12_asksAll_309 (by decide) ?_)
                    exact At.keep (ls' := [(0, (2, 141)), (1, (0, p)), (2, (0, h)), (5, (0, f)), (6, (0, m)), (7, (0, (i + 1)))]) [0, 1, 2, 3, 4, 5] rfl (ih u f m (i + 1) w_263 hwu hju hgu (by omega) (by omega) hfl9 h69 (by rw [jdL_s hi.1, ← hJ, jd1_fee (by omega) (by omega), eu9, ← hzv]; unfold mxL; rw [if_pos (by omega)]) hK (by omega))
                  · skip
                    exfalso
                    omega
                · skip
                  refine s_iload dX12_asksAll_281 7 rfl (s_istore (ls' := [(0, (2, 141)), (1, (0, p)), (2, (0, h)), (5, (0, f)), (6, (0, z_263)), (7, (0, i)), (8, (0, (w_200 170 ((20 * f) + i)))), (9, (0, z_263))]) dX12_asksAll_283 (Nat.le_of_ble_eq_true rfl) rfl (s_iload dX12_asksAll_285 6 rfl (s_iconst dX12_asksAll_287 (by decide) (s_icmp_ne 306 dX12_asksAll_288 (by decide) (fun c_288 => ?_) (fun c_288 => ?_)))))
                  · skip
                    skip
                    refine s_iinc (z := (i + 1)) (ls' := [(0, (2, 141)), (1, (0, p)), (2, (0, h)), (5, (0, f)), (6, (0, z_263)), (7, (0, (i + 1))), (8, (0, (w_200 170 ((20 * f) + i)))), (9, (0, z_263))]) dX12_asksAll_306 5 rfl (Nat.le_of_ble_eq_true rfl) (wr_id (by omega) (by omega)) rfl (s_goto 183 dX12_asksAll_309 (by decide) ?_)
                    exact At.keep (ls' := [(0, (2, 141)), (1, (0, p)), (2, (0, h)), (5, (0, f)), (6, (0, z_263)), (7, (0, (i + 1)))]) [0, 1, 2, 3, 4, 5] rfl (ih u f z_263 (i + 1) w_263 hwu hju hgu (by omega) (by omega) hfl9 h69 (by rw [jdL_s hi.1, ← hJ, jd1_fee (by omega) (by omega), eu9, ← hzv]; unfold mxL; rw [if_neg (by omega)]) hK (by omega))
                  · skip
                    exfalso
                    omega
            · skip
              exfalso
              omega
          · skip
            refine s_aload_n dX12_asksAll_229 0 rfl rfl (n_getf 141 61 0 dX12_asksAll_230 cf_X12 ff_X12_405 rfl sh_141 rfl (by decide) (v := (w_200 141 61)) rfl (s_iconst dX12_asksAll_233 (by decide) (s_icmp_ne 249 dX12_asksAll_234 (by decide) (fun c_234 => ?_) (fun c_234 => ?_))))
            · skip
              refine s_iload dX12_asksAll_249 6 rfl (s_if_ne 258 dX12_asksAll_251 (by decide) (fun c_251 => ?_) (fun c_251 => ?_))
              · skip
                exfalso
                omega
              · skip
                skip
                refine s_iconst dX12_asksAll_254 (by decide) (s_goto 266 dX12_asksAll_255 (by decide) (s_istore (ls' := [(0, (2, 141)), (1, (0, p)), (2, (0, h)), (5, (0, f)), (6, (0, m)), (7, (0, i)), (8, (0, (w_200 170 ((20 * f) + i)))), (9, (0, 0))]) dX12_asksAll_266 (Nat.le_of_ble_eq_true rfl) rfl (s_iload dX12_asksAll_268 6 rfl (s_iconst dX12_asksAll_270 (by decide) (s_icmp_ne 285 dX12_asksAll_271 (by decide) (fun c_271 => ?_) (fun c_271 => ?_))))))
                · skip
                  refine s_iload dX12_asksAll_285 6 rfl (s_iconst dX12_asksAll_287 (by decide) (s_icmp_ne 306 dX12_asksAll_288 (by decide) (fun c_288 => ?_) (fun c_288 => ?_)))
                  · skip
                    skip
                    refine s_iinc (z := (i + 1)) (ls' := [(0, (2, 141)), (1, (0, p)), (2, (0, h)), (5, (0, f)), (6, (0, m)), (7, (0, (i + 1))), (8, (0, (w_200 170 ((20 * f) + i)))), (9, (0, 0))]) dX12_asksAll_306 5 rfl (Nat.le_of_ble_eq_true rfl) (wr_id (by omega) (by omega)) rfl (s_goto 183 dX12_asksAll_309 (by decide) ?_)
                    exact At.keep (ls' := [(0, (2, 141)), (1, (0, p)), (2, (0, h)), (5, (0, f)), (6, (0, m)), (7, (0, (i + 1)))]) [0, 1, 2, 3, 4, 5] rfl (ih u f m (i + 1) w_200 hwu hju hgu (by omega) (by omega) hfl9 h69 (by rw [jdL_s hi.1, ← hJ, jd1_bar (by omega) (by omega), if_neg (by omega), eu]) hK (by omega))
                  · skip
                    exfalso
                    omega
                · skip
                  exfalso
                  omega
            · skip
              refine s_aload_n dX12_asksAll_237 0 rfl rfl (s_iload dX12_asksAll_238 3 rfl (n_putf 141 61 61 dX12_asksAll_240 cf_X12 ff_X12_405 rfl rfl sh_141 rfl rfl rfl (s_aload_n dX12_asksAll_243 0 rfl rfl (s_iload dX12_asksAll_244 5 rfl (n_putf 141 62 62 dX12_asksAll_246 cf_X12 ff_X12_408 rfl rfl sh_141 rfl rfl rfl (s_iload dX12_asksAll_249 6 rfl (s_if_ne 258 dX12_asksAll_251 (by decide) (fun c_251 => ?_) (fun c_251 => ?_))))))))
              · skip
                exfalso
                omega
              · skip
                skip
                refine s_iconst dX12_asksAll_254 (by decide) (s_goto 266 dX12_asksAll_255 (by decide) (s_istore (ls' := [(0, (2, 141)), (1, (0, p)), (2, (0, h)), (5, (0, f)), (6, (0, m)), (7, (0, i)), (8, (0, (w_200 170 ((20 * f) + i)))), (9, (0, 0))]) dX12_asksAll_266 (Nat.le_of_ble_eq_true rfl) rfl (s_iload dX12_asksAll_268 6 rfl (s_iconst dX12_asksAll_270 (by decide) (s_icmp_ne 285 dX12_asksAll_271 (by decide) (fun c_271 => ?_) (fun c_271 => ?_))))))
                · skip
                  refine s_iload dX12_asksAll_285 6 rfl (s_iconst dX12_asksAll_287 (by decide) (s_icmp_ne 306 dX12_asksAll_288 (by decide) (fun c_288 => ?_) (fun c_288 => ?_)))
                  · skip
                    skip
                    refine s_iinc (z := (i + 1)) (ls' := [(0, (2, 141)), (1, (0, p)), (2, (0, h)), (5, (0, f)), (6, (0, m)), (7, (0, (i + 1))), (8, (0, (w_200 170 ((20 * f) + i)))), (9, (0, 0))]) dX12_asksAll_306 5 rfl (Nat.le_of_ble_eq_true rfl) (wr_id (by omega) (by omega)) rfl (s_goto 183 dX12_asksAll_309 (by decide) ?_)
                    exact At.keep (ls' := [(0, (2, 141)), (1, (0, p)), (2, (0, h)), (5, (0, f)), (6, (0, m)), (7, (0, (i + 1)))]) [0, 1, 2, 3, 4, 5] rfl (ih u f m (i + 1) (wu (wu w_200 141 61 f) 141 62 i) hwu hju hgu (by omega) (by omega) (FrL.u1 (FrL.u1 hfl9 (by decide)) (by decide)) h69 (by rw [jdL_s hi.1, ← hJ, jd1_bar (by omega) (by omega), if_pos (by omega)]; show (f, i, m, w_200 141 64) = _; rw [eu]) hK (by omega))
                  · skip
                    exfalso
                    omega
                · skip
                  exfalso
                  omega
        · skip
          refine s_goto 306 dX12_asksAll_206 (by decide) (s_iinc (z := (i + 1)) (ls' := [(0, (2, 141)), (1, (0, p)), (2, (0, h)), (5, (0, f)), (6, (0, m)), (7, (0, (i + 1)))]) dX12_asksAll_306 5 rfl (Nat.le_of_ble_eq_true rfl) (wr_id (by omega) (by omega)) rfl (s_goto 183 dX12_asksAll_309 (by decide) ?_))
          exact ih u f m (i + 1) w_200 hwu hju hgu (by omega) (by omega) hfl9 h69 (by rw [jdL_s hi.1, ← hJ, jd1_no (by omega), eu]) hK (by omega)
  have L_171 : ∀ (fu : Nat) (u : Wd) (f : Int) (v9 : Wd), (∀ c, c ≠ 141 → c ≠ 180 → u c = w c) → (∀ j : Int, (j < 61 ∨ 64 < j) → u 141 j = w 141 j) → (∀ k, 1 ≤ k → k ≤ 10 → u 180 k = fcM w p h k) → 0 ≤ f ∧ f ≤ 3 → FrL u v9 → v9 141 61 = (jdA (u 180) LN f.toNat).1 ∧ v9 141 62 = (jdA (u 180) LN f.toNat).2.1 ∧ v9 141 63 = (jdA (u 180) LN f.toNat).2.2.1 ∧ v9 141 64 = (jdA (u 180) LN f.toNat).2.2.2 → (3 - f).toNat < fu → AtN mX12_asksAll 5 ρ 171 [(0, (2, 141)), (1, (0, p)), (2, (0, h)), (5, (0, f))] [] v9 := by
    intro fu
    induction fu with
    | zero => intro u f v9 hwu hju hgu hf hfl hS hm; exact absurd hm (Nat.not_lt_zero _)
    | succ fu ih =>
      intro u f v9 hwu hju hgu hf hfl hS hm
      have hs8 := (hs.e (v := u) (fun c hc => hwu c (by omega) (by omega))).fr hfl
      have hfe := jdA_fee (F := u 180) (LN := LN) f.toNat
      rw [toN_c hf.1] at hfe
      refine s_iload dX12_asksAll_171 3 rfl (s_iconst dX12_asksAll_173 (by decide) (s_icmp_ge 343 dX12_asksAll_174 (by decide) (fun c_174 => ?_) (fun c_174 => ?_)))
      · skip
        refine s_aload_n dX12_asksAll_343 0 rfl rfl (n_getf 141 64 0 dX12_asksAll_344 cf_X12 ff_X12_414 rfl sh_141 rfl (by decide) (v := (v9 141 64)) rfl (s_bipush dX12_asksAll_347 (by decide) (s_icmp_le 358 dX12_asksAll_349 (by decide) (fun c_349 => ?_) (fun c_349 => ?_))))
        · skip
          refine n_ret dX12_asksAll_358 hR rfl ?_
          refine ⟨rfl, ⟨fun c c1 c2 c3 => ?_, fun j hj => ?_⟩, ?_⟩
          · rw [hfl.1 c c1 c2]; exact hwu c c1 c3
          · rw [hfl.2 j hj]; exact hju j hj
          · rw [← jdF_c (F := u 180) hgu (fun f a b i hi => (((hs f a b).2.2 i hi).2))]
            have e9 : f = 3 := by omega
            rw [e9] at hS
            unfold jdF
            rw [hS.1, hS.2.1, hS.2.2.1]
            have h40 : mnL (jdA (u 180) LN 3).2.2.2 40 = v9 141 64 := by
              have := hS.2.2.2
              have e3 : (3 : Int).toNat = 3 := rfl
              rw [e3] at this
              unfold mnL
              rw [if_pos (by omega)]
              exact this.symm
            rw [h40]
            rfl
        · skip
          refine s_aload_n dX12_asksAll_352 0 rfl rfl (s_bipush dX12_asksAll_353 (by decide) (n_putf 141 64 64 dX12_asksAll_355 cf_X12 ff_X12_414 rfl rfl sh_141 rfl rfl rfl (n_ret dX12_asksAll_358 hR rfl ?_)))
          refine ⟨rfl, ⟨fun c c1 c2 c3 => ?_, fun j hj => ?_⟩, ?_⟩
          · rw [wu_ne c1, hfl.1 c c1 c2]; exact hwu c c1 c3
          · rw [wu_at, if_neg (by omega), hfl.2 j hj]; exact hju j hj
          · rw [← jdF_c (F := u 180) hgu (fun f a b i hi => (((hs f a b).2.2 i hi).2))]
            have e9 : f = 3 := by omega
            rw [e9] at hS
            unfold jdF
            show (v9 141 61, v9 141 62, v9 141 63, _) = _
            rw [wu_same, hS.1, hS.2.1, hS.2.2.1]
            have h40 : mnL (jdA (u 180) LN 3).2.2.2 40 = 40 := by
              have := hS.2.2.2
              unfold mnL
              split
              · have e3 : (3 : Int).toNat = 3 := rfl
                rw [e3] at this
                omega
              · rfl
            rw [h40]
            rfl
      · skip
        have hK0 : ∀ m1 (v : Wd), FrL u v → v 141 63 = (jdA (u 180) LN f.toNat).2.2.1 → (v 141 61, v 141 62, m1, v 141 64) = jdL (u 180) f (LN f) (LN f).length ((jdA (u 180) LN f.toNat).1, (jdA (u 180) LN f.toNat).2.1, 0, (jdA (u 180) LN f.toNat).2.2.2) → AtN mX12_asksAll 5 ρ 312 [(0, (2, 141)), (1, (0, p)), (2, (0, h)), (5, (0, f)), (6, (0, m1))] [] v := by
          intro m1 v f1 f2 f3
          have hmz : (0 : Int) ≤ m1 := by
            have h7 := jdL_m (F := u 180) (f := f) (L := LN f) (S := ((jdA (u 180) LN f.toNat).1, (jdA (u 180) LN f.toNat).2.1, 0, (jdA (u 180) LN f.toNat).2.2.2)) (LN f).length
            rw [← f3] at h7
            exact h7
          refine s_aload_n dX12_asksAll_312 0 rfl rfl (s_dup dX12_asksAll_313 (show (2 : Nat) ≠ 1 by decide) (n_getf 141 63 0 dX12_asksAll_314 cf_X12 ff_X12_411 rfl sh_141 rfl (by decide) (v := (v 141 63)) rfl (s_iload dX12_asksAll_317 4 rfl (s_ldcw (z := 99999) dX12_asksAll_319 kc_X12_422 rfl (s_icmp_le 331 dX12_asksAll_322 (by decide) (fun c_322 => ?_) (fun c_322 => ?_))))))
          · skip
            refine s_iload dX12_asksAll_331 4 rfl (n_add (z := ((v 141 63) + m1)) dX12_asksAll_333 (wr_id (by omega) (by omega)) (n_putf 141 63 63 dX12_asksAll_334 cf_X12 ff_X12_411 rfl rfl sh_141 rfl rfl rfl (s_iinc (z := (f + 1)) (ls' := [(0, (2, 141)), (1, (0, p)), (2, (0, h)), (5, (0, (f + 1))), (6, (0, m1))]) dX12_asksAll_337 3 rfl (Nat.le_of_ble_eq_true rfl) (wr_id (by omega) (by omega)) rfl (s_goto 171 dX12_asksAll_340 (by decide) ?_))))
            exact At.keep (ls' := [(0, (2, 141)), (1, (0, p)), (2, (0, h)), (5, (0, (f + 1)))]) [0, 1, 2, 3] rfl (ih u (f + 1) (wu v 141 63 ((v 141 63) + m1)) hwu hju hgu (by omega) (FrL.u1 f1 (by decide)) (by
  rw [toN_s hf.1, jdA, toN_c hf.1]
  rw [← f3]
  refine ⟨rfl, rfl, ?_, rfl⟩
  show _ = _ + mnL m1 99999
  rw [← f2]
  unfold mnL
  first
  | (rw [if_pos (by omega)]; exact wu_same _ _ _ _)
  | (rw [if_neg (by omega)]; exact wu_same _ _ _ _)) (by omega))
          · skip
            refine s_ldcw (z := 99999) dX12_asksAll_325 kc_X12_422 rfl (s_goto 333 dX12_asksAll_328 (by decide) (n_add (z := ((v 141 63) + 99999)) dX12_asksAll_333 (wr_id (by omega) (by omega)) (n_putf 141 63 63 dX12_asksAll_334 cf_X12 ff_X12_411 rfl rfl sh_141 rfl rfl rfl (s_iinc (z := (f + 1)) (ls' := [(0, (2, 141)), (1, (0, p)), (2, (0, h)), (5, (0, (f + 1))), (6, (0, m1))]) dX12_asksAll_337 3 rfl (Nat.le_of_ble_eq_true rfl) (wr_id (by omega) (by omega)) rfl (s_goto 171 dX12_asksAll_340 (by decide) ?_)))))
            exact At.keep (ls' := [(0, (2, 141)), (1, (0, p)), (2, (0, h)), (5, (0, (f + 1)))]) [0, 1, 2, 3] rfl (ih u (f + 1) (wu v 141 63 ((v 141 63) + 99999)) hwu hju hgu (by omega) (FrL.u1 f1 (by decide)) (by
  rw [toN_s hf.1, jdA, toN_c hf.1]
  rw [← f3]
  refine ⟨rfl, rfl, ?_, rfl⟩
  show _ = _ + mnL m1 99999
  rw [← f2]
  unfold mnL
  first
  | (rw [if_pos (by omega)]; exact wu_same _ _ _ _)
  | (rw [if_neg (by omega)]; exact wu_same _ _ _ _)) (by omega))
        skip
        refine s_iconst dX12_asksAll_177 (by decide) (s_istore (ls' := [(0, (2, 141)), (1, (0, p)), (2, (0, h)), (5, (0, f)), (6, (0, 0))]) dX12_asksAll_178 (Nat.le_of_ble_eq_true rfl) rfl (s_iconst dX12_asksAll_180 (by decide) (s_istore (ls' := [(0, (2, 141)), (1, (0, p)), (2, (0, h)), (5, (0, f)), (6, (0, 0)), (7, (0, 0))]) dX12_asksAll_181 (Nat.le_of_ble_eq_true rfl) rfl ?_)))
        exact L_183 _ u f 0 0 v9 hwu hju hgu (by omega) (by omega) hfl hS.2.2.1 (by rw [hS.1, hS.2.1, hS.2.2.2]; rfl) hK0 (Nat.lt_succ_self _)
  refine s_aload_n dX12_asksAll_0 0 rfl rfl (n_getc (q := 147) 141 15 157 dX12_asksAll_1 cf_X12 ff_X12_25 rfl sh_141 rfl (by decide) rfl (by decide) (s_iload_n dX12_asksAll_4 1 rfl (n_iald 147 dX12_asksAll_5 rfl sh_147 (by decide) ⟨(by omega), (by omega)⟩ (v := (w 147 p)) rfl (s_istore_n (ls' := [(0, (2, 141)), (1, (0, p)), (2, (0, h)), (3, (0, (w 147 p)))]) dX12_asksAll_6 (Nat.le_of_ble_eq_true rfl) rfl (s_aload_n dX12_asksAll_7 0 rfl rfl (s_iload_n dX12_asksAll_8 2 rfl (n_invV (as := [(0, h)]) dX12_asksAll_9 kv_X12_setIn ml_X12_270 (c_M_setIn h w hset) (by decide) 141 cf_X12 rfl sh_141 rfl rfl rfl (Nat.le_of_ble_eq_true rfl) ?_)))))))
  have hsp := fst_spec (w 168) h (w 141 5).toNat
  refine s_istore (ls' := [(0, (2, 141)), (1, (0, p)), (2, (0, h)), (3, (0, (w 147 p))), (4, (0, (fst (w 168) h (w 141 5).toNat)))]) dX12_asksAll_12 (Nat.le_of_ble_eq_true rfl) rfl (s_aload_n dX12_asksAll_14 0 rfl rfl (n_getc (q := 180) 141 60 190 dX12_asksAll_15 cf_X12 ff_X12_129 rfl sh_141 rfl (by decide) rfl (by decide) (s_iconst dX12_asksAll_18 (by decide) (s_aload_n dX12_asksAll_19 0 rfl rfl (n_getc (q := 142) 141 10 152 dX12_asksAll_20 cf_X12 ff_X12_7 rfl sh_141 rfl (by decide) rfl (by decide) (s_iload_n dX12_asksAll_23 3 rfl (n_iald 142 dX12_asksAll_24 rfl sh_142 (by decide) ⟨(by omega), (by omega)⟩ (v := (w 142 (w 147 p))) rfl (s_iastore 180 dX12_asksAll_25 rfl sh_180 (by decide) (by decide) (s_aload_n dX12_asksAll_26 0 rfl rfl ?_)))))))))
  refine n_getc (q := 180) 141 60 190 dX12_asksAll_27 cf_X12 ff_X12_129 rfl sh_141 rfl (by decide) rfl (by decide) (s_iconst dX12_asksAll_30 (by decide) (s_aload_n dX12_asksAll_31 0 rfl rfl (n_getc (q := 145) 141 13 155 dX12_asksAll_32 cf_X12 ff_X12_19 rfl sh_141 rfl (by decide) rfl (by decide) (s_iload_n dX12_asksAll_35 3 rfl (n_iald 145 dX12_asksAll_36 rfl sh_145 (by decide) ⟨(by omega), (by omega)⟩ (v := (w 145 (w 147 p))) rfl (s_iastore 180 dX12_asksAll_37 rfl sh_180 (by decide) (by decide) (s_aload_n dX12_asksAll_38 0 rfl rfl (n_getc (q := 180) 141 60 190 dX12_asksAll_39 cf_X12 ff_X12_129 rfl sh_141 rfl (by decide) rfl (by decide) (s_iconst dX12_asksAll_42 (by decide) ?_)))))))))
  refine s_aload_n dX12_asksAll_43 0 rfl rfl (n_getc (q := 143) 141 11 153 dX12_asksAll_44 cf_X12 ff_X12_13 rfl sh_141 rfl (by decide) rfl (by decide) (s_iload_n dX12_asksAll_47 3 rfl (n_iald 143 dX12_asksAll_48 rfl sh_143 (by decide) ⟨(by omega), (by omega)⟩ (v := (w 143 (w 147 p))) rfl (s_iastore 180 dX12_asksAll_49 rfl sh_180 (by decide) (by decide) (s_aload_n dX12_asksAll_50 0 rfl rfl (n_getc (q := 180) 141 60 190 dX12_asksAll_51 cf_X12 ff_X12_129 rfl sh_141 rfl (by decide) rfl (by decide) (s_iconst dX12_asksAll_54 (by decide) (s_aload_n dX12_asksAll_55 0 rfl rfl (n_getc (q := 146) 141 14 156 dX12_asksAll_56 cf_X12 ff_X12_22 rfl sh_141 rfl (by decide) rfl (by decide) ?_)))))))))
  refine s_iload_n dX12_asksAll_59 3 rfl (n_iald 146 dX12_asksAll_60 rfl sh_146 (by decide) ⟨(by omega), (by omega)⟩ (v := (w 146 (w 147 p))) rfl (s_iastore 180 dX12_asksAll_61 rfl sh_180 (by decide) (by decide) (s_aload_n dX12_asksAll_62 0 rfl rfl (n_getc (q := 180) 141 60 190 dX12_asksAll_63 cf_X12 ff_X12_129 rfl sh_141 rfl (by decide) rfl (by decide) (s_iconst dX12_asksAll_66 (by decide) (s_aload_n dX12_asksAll_67 0 rfl rfl (n_getc (q := 148) 141 16 158 dX12_asksAll_68 cf_X12 ff_X12_28 rfl sh_141 rfl (by decide) rfl (by decide) (s_iload_n dX12_asksAll_71 1 rfl (n_iald 148 dX12_asksAll_72 rfl sh_148 (by decide) ⟨(by omega), (by omega)⟩ (v := (w 148 p)) rfl ?_)))))))))
  refine s_iastore 180 dX12_asksAll_73 rfl sh_180 (by decide) (by decide) (s_aload_n dX12_asksAll_74 0 rfl rfl (n_getc (q := 180) 141 60 190 dX12_asksAll_75 cf_X12 ff_X12_129 rfl sh_141 rfl (by decide) rfl (by decide) (s_bipush dX12_asksAll_78 (by decide) (s_iload dX12_asksAll_80 4 rfl (s_iconst dX12_asksAll_82 (by decide) (s_icmp_ne 90 dX12_asksAll_83 (by decide) (fun c_83 => ?_) (fun c_83 => ?_)))))))
  · skip
    refine s_aload_n dX12_asksAll_90 0 rfl rfl (n_getc (q := 165) 141 33 175 dX12_asksAll_91 cf_X12 ff_X12_80 rfl sh_141 rfl (by decide) rfl (by decide) (s_iload dX12_asksAll_94 4 rfl (n_iald 165 dX12_asksAll_96 rfl sh_165 (by decide) ⟨(by omega), (by omega)⟩ (v := (w 165 (fst (w 168) h (w 141 5).toNat))) rfl (s_iastore 180 dX12_asksAll_97 rfl sh_180 (by decide) (by decide) (s_aload_n dX12_asksAll_98 0 rfl rfl (n_getc (q := 180) 141 60 190 dX12_asksAll_99 cf_X12 ff_X12_129 rfl sh_141 rfl (by decide) rfl (by decide) (s_bipush dX12_asksAll_102 (by decide) (s_aload_n dX12_asksAll_104 0 rfl rfl (n_getc (q := 156) 141 24 166 dX12_asksAll_105 cf_X12 ff_X12_52 rfl sh_141 rfl (by decide) rfl (by decide) ?_)))))))))
    refine s_iload_n dX12_asksAll_108 2 rfl (n_iald 156 dX12_asksAll_109 rfl sh_156 (by decide) ⟨(by omega), (by omega)⟩ (v := (w 156 h)) rfl (s_iastore 180 dX12_asksAll_110 rfl sh_180 (by decide) (by decide) (s_aload_n dX12_asksAll_111 0 rfl rfl (n_getc (q := 180) 141 60 190 dX12_asksAll_112 cf_X12 ff_X12_129 rfl sh_141 rfl (by decide) rfl (by decide) (s_bipush dX12_asksAll_115 (by decide) (s_aload_n dX12_asksAll_117 0 rfl rfl (n_getc (q := 158) 141 26 168 dX12_asksAll_118 cf_X12 ff_X12_58 rfl sh_141 rfl (by decide) rfl (by decide) (s_iload_n dX12_asksAll_121 2 rfl (n_iald 158 dX12_asksAll_122 rfl sh_158 (by decide) ⟨(by omega), (by omega)⟩ (v := (w 158 h)) rfl ?_)))))))))
    refine s_iastore 180 dX12_asksAll_123 rfl sh_180 (by decide) (by decide) (s_aload_n dX12_asksAll_124 0 rfl rfl (n_getc (q := 180) 141 60 190 dX12_asksAll_125 cf_X12 ff_X12_129 rfl sh_141 rfl (by decide) rfl (by decide) (s_bipush dX12_asksAll_128 (by decide) (s_aload_n dX12_asksAll_130 0 rfl rfl (n_getc (q := 157) 141 25 167 dX12_asksAll_131 cf_X12 ff_X12_55 rfl sh_141 rfl (by decide) rfl (by decide) (s_iload_n dX12_asksAll_134 2 rfl (n_iald 157 dX12_asksAll_135 rfl sh_157 (by decide) ⟨(by omega), (by omega)⟩ (v := (w 157 h)) rfl (s_iastore 180 dX12_asksAll_136 rfl sh_180 (by decide) (by decide) (s_aload_n dX12_asksAll_137 0 rfl rfl ?_)))))))))
    refine n_getc (q := 180) 141 60 190 dX12_asksAll_138 cf_X12 ff_X12_129 rfl sh_141 rfl (by decide) rfl (by decide) (s_bipush dX12_asksAll_141 (by decide) (s_aload_n dX12_asksAll_143 0 rfl rfl (n_getf 141 0 0 dX12_asksAll_144 cf_X12 ff_X12_253 rfl sh_141 rfl (by decide) (v := (w 141 0)) rfl (s_iastore 180 dX12_asksAll_147 rfl sh_180 (by decide) (by decide) (s_aload_n dX12_asksAll_148 0 rfl rfl (s_iconst dX12_asksAll_149 (by decide) (n_putf 141 61 61 dX12_asksAll_150 cf_X12 ff_X12_405 rfl rfl sh_141 rfl rfl rfl (s_aload_n dX12_asksAll_153 0 rfl rfl (s_iconst dX12_asksAll_154 (by decide) ?_)))))))))
    refine n_putf 141 62 62 dX12_asksAll_155 cf_X12 ff_X12_408 rfl rfl sh_141 rfl rfl rfl (s_aload_n dX12_asksAll_158 0 rfl rfl (s_iconst dX12_asksAll_159 (by decide) (n_putf 141 63 63 dX12_asksAll_160 cf_X12 ff_X12_411 rfl rfl sh_141 rfl rfl rfl (s_aload_n dX12_asksAll_163 0 rfl rfl (s_iconst dX12_asksAll_164 (by decide) (n_putf 141 64 64 dX12_asksAll_165 cf_X12 ff_X12_414 rfl rfl sh_141 rfl rfl rfl (s_iconst dX12_asksAll_168 (by decide) (s_istore (ls' := [(0, (2, 141)), (1, (0, p)), (2, (0, h)), (3, (0, (w 147 p))), (4, (0, (fst (w 168) h (w 141 5).toNat))), (5, (0, 0))]) dX12_asksAll_169 (Nat.le_of_ble_eq_true rfl) rfl ?_))))))))
    exact At.keep (ls' := [(0, (2, 141)), (1, (0, p)), (2, (0, h)), (5, (0, 0))]) [0, 1, 2, 5] rfl (L_171 _ (wu (wu (wu (wu (wu (wu (wu (wu (wu (wu (wu (wu (wu (wu w 180 1 (w 142 (w 147 p))) 180 2 (w 145 (w 147 p))) 180 3 (w 143 (w 147 p))) 180 4 (w 146 (w 147 p))) 180 5 (w 148 p)) 180 6 (w 165 (fst (w 168) h (w 141 5).toNat))) 180 7 (w 156 h)) 180 8 (w 158 h)) 180 9 (w 157 h)) 180 10 (w 141 0)) 141 61 (-1)) 141 62 (-1)) 141 63 0) 141 64 0) 0 (wu (wu (wu (wu (wu (wu (wu (wu (wu (wu (wu (wu (wu (wu w 180 1 (w 142 (w 147 p))) 180 2 (w 145 (w 147 p))) 180 3 (w 143 (w 147 p))) 180 4 (w 146 (w 147 p))) 180 5 (w 148 p)) 180 6 (w 165 (fst (w 168) h (w 141 5).toNat))) 180 7 (w 156 h)) 180 8 (w 158 h)) 180 9 (w 157 h)) 180 10 (w 141 0)) 141 61 (-1)) 141 62 (-1)) 141 63 0) 141 64 0) (fun c c1 c2 => by repeat (first | rw [wu_ne c1] | rw [wu_ne c2])) (fun j hj => by rw [wu_at, if_neg (by omega), wu_at, if_neg (by omega), wu_at, if_neg (by omega), wu_at, if_neg (by omega)]; repeat rw [wu_ne (show (141 : Nat) ≠ 180 by decide)]) (fun k k0 k1 => by
  rcases (show k = 1 ∨ k = 2 ∨ k = 3 ∨ k = 4 ∨ k = 5 ∨ k = 6 ∨ k = 7 ∨ k = 8 ∨ k = 9 ∨ k = 10 from by omega) with rfl | rfl | rfl | rfl | rfl | rfl | rfl | rfl | rfl | rfl
  all_goals first
  | rfl
  | (show _ = (if fst (w 168) h (w 141 5).toNat = -1 then 3 else w 165 (fst (w 168) h (w 141 5).toNat)); first | exact (if_pos (by omega)).symm | exact (if_neg (by omega)).symm)) (by omega) FrL.rf ⟨rfl, rfl, rfl, rfl⟩ (Nat.lt_succ_self _))
  · skip
    refine s_iconst dX12_asksAll_86 (by decide) (s_goto 97 dX12_asksAll_87 (by decide) (s_iastore 180 dX12_asksAll_97 rfl sh_180 (by decide) (by decide) (s_aload_n dX12_asksAll_98 0 rfl rfl (n_getc (q := 180) 141 60 190 dX12_asksAll_99 cf_X12 ff_X12_129 rfl sh_141 rfl (by decide) rfl (by decide) (s_bipush dX12_asksAll_102 (by decide) (s_aload_n dX12_asksAll_104 0 rfl rfl (n_getc (q := 156) 141 24 166 dX12_asksAll_105 cf_X12 ff_X12_52 rfl sh_141 rfl (by decide) rfl (by decide) (s_iload_n dX12_asksAll_108 2 rfl (n_iald 156 dX12_asksAll_109 rfl sh_156 (by decide) ⟨(by omega), (by omega)⟩ (v := (w 156 h)) rfl ?_)))))))))
    refine s_iastore 180 dX12_asksAll_110 rfl sh_180 (by decide) (by decide) (s_aload_n dX12_asksAll_111 0 rfl rfl (n_getc (q := 180) 141 60 190 dX12_asksAll_112 cf_X12 ff_X12_129 rfl sh_141 rfl (by decide) rfl (by decide) (s_bipush dX12_asksAll_115 (by decide) (s_aload_n dX12_asksAll_117 0 rfl rfl (n_getc (q := 158) 141 26 168 dX12_asksAll_118 cf_X12 ff_X12_58 rfl sh_141 rfl (by decide) rfl (by decide) (s_iload_n dX12_asksAll_121 2 rfl (n_iald 158 dX12_asksAll_122 rfl sh_158 (by decide) ⟨(by omega), (by omega)⟩ (v := (w 158 h)) rfl (s_iastore 180 dX12_asksAll_123 rfl sh_180 (by decide) (by decide) (s_aload_n dX12_asksAll_124 0 rfl rfl ?_)))))))))
    refine n_getc (q := 180) 141 60 190 dX12_asksAll_125 cf_X12 ff_X12_129 rfl sh_141 rfl (by decide) rfl (by decide) (s_bipush dX12_asksAll_128 (by decide) (s_aload_n dX12_asksAll_130 0 rfl rfl (n_getc (q := 157) 141 25 167 dX12_asksAll_131 cf_X12 ff_X12_55 rfl sh_141 rfl (by decide) rfl (by decide) (s_iload_n dX12_asksAll_134 2 rfl (n_iald 157 dX12_asksAll_135 rfl sh_157 (by decide) ⟨(by omega), (by omega)⟩ (v := (w 157 h)) rfl (s_iastore 180 dX12_asksAll_136 rfl sh_180 (by decide) (by decide) (s_aload_n dX12_asksAll_137 0 rfl rfl (n_getc (q := 180) 141 60 190 dX12_asksAll_138 cf_X12 ff_X12_129 rfl sh_141 rfl (by decide) rfl (by decide) (s_bipush dX12_asksAll_141 (by decide) ?_)))))))))
    refine s_aload_n dX12_asksAll_143 0 rfl rfl (n_getf 141 0 0 dX12_asksAll_144 cf_X12 ff_X12_253 rfl sh_141 rfl (by decide) (v := (w 141 0)) rfl (s_iastore 180 dX12_asksAll_147 rfl sh_180 (by decide) (by decide) (s_aload_n dX12_asksAll_148 0 rfl rfl (s_iconst dX12_asksAll_149 (by decide) (n_putf 141 61 61 dX12_asksAll_150 cf_X12 ff_X12_405 rfl rfl sh_141 rfl rfl rfl (s_aload_n dX12_asksAll_153 0 rfl rfl (s_iconst dX12_asksAll_154 (by decide) (n_putf 141 62 62 dX12_asksAll_155 cf_X12 ff_X12_408 rfl rfl sh_141 rfl rfl rfl (s_aload_n dX12_asksAll_158 0 rfl rfl ?_)))))))))
    refine s_iconst dX12_asksAll_159 (by decide) (n_putf 141 63 63 dX12_asksAll_160 cf_X12 ff_X12_411 rfl rfl sh_141 rfl rfl rfl (s_aload_n dX12_asksAll_163 0 rfl rfl (s_iconst dX12_asksAll_164 (by decide) (n_putf 141 64 64 dX12_asksAll_165 cf_X12 ff_X12_414 rfl rfl sh_141 rfl rfl rfl (s_iconst dX12_asksAll_168 (by decide) (s_istore (ls' := [(0, (2, 141)), (1, (0, p)), (2, (0, h)), (3, (0, (w 147 p))), (4, (0, (fst (w 168) h (w 141 5).toNat))), (5, (0, 0))]) dX12_asksAll_169 (Nat.le_of_ble_eq_true rfl) rfl ?_))))))
    exact At.keep (ls' := [(0, (2, 141)), (1, (0, p)), (2, (0, h)), (5, (0, 0))]) [0, 1, 2, 5] rfl (L_171 _ (wu (wu (wu (wu (wu (wu (wu (wu (wu (wu (wu (wu (wu (wu w 180 1 (w 142 (w 147 p))) 180 2 (w 145 (w 147 p))) 180 3 (w 143 (w 147 p))) 180 4 (w 146 (w 147 p))) 180 5 (w 148 p)) 180 6 3) 180 7 (w 156 h)) 180 8 (w 158 h)) 180 9 (w 157 h)) 180 10 (w 141 0)) 141 61 (-1)) 141 62 (-1)) 141 63 0) 141 64 0) 0 (wu (wu (wu (wu (wu (wu (wu (wu (wu (wu (wu (wu (wu (wu w 180 1 (w 142 (w 147 p))) 180 2 (w 145 (w 147 p))) 180 3 (w 143 (w 147 p))) 180 4 (w 146 (w 147 p))) 180 5 (w 148 p)) 180 6 3) 180 7 (w 156 h)) 180 8 (w 158 h)) 180 9 (w 157 h)) 180 10 (w 141 0)) 141 61 (-1)) 141 62 (-1)) 141 63 0) 141 64 0) (fun c c1 c2 => by repeat (first | rw [wu_ne c1] | rw [wu_ne c2])) (fun j hj => by rw [wu_at, if_neg (by omega), wu_at, if_neg (by omega), wu_at, if_neg (by omega), wu_at, if_neg (by omega)]; repeat rw [wu_ne (show (141 : Nat) ≠ 180 by decide)]) (fun k k0 k1 => by
  rcases (show k = 1 ∨ k = 2 ∨ k = 3 ∨ k = 4 ∨ k = 5 ∨ k = 6 ∨ k = 7 ∨ k = 8 ∨ k = 9 ∨ k = 10 from by omega) with rfl | rfl | rfl | rfl | rfl | rfl | rfl | rfl | rfl | rfl
  all_goals first
  | rfl
  | (show _ = (if fst (w 168) h (w 141 5).toNat = -1 then 3 else w 165 (fst (w 168) h (w 141 5).toNat)); first | exact (if_pos (by omega)).symm | exact (if_neg (by omega)).symm)) (by omega) FrL.rf ⟨rfl, rfl, rfl, rfl⟩ (Nat.lt_succ_self _))
