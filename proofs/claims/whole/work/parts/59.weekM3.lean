/-! THE REFERENCE'S WEEK, WALKED. -/
abbrev WKM (u : Wd) : Nat → (Int → Int) × List (Int × Int) := wkG (WMx u) (capM u) (u 157) (u 184) (zeF (u 159) (u 141 4)) (u 141 4).toNat
def prL (u : Wd) (gs : List (Int × Int)) : List (Int × Int) := gs.map (fun q => (q.1, prM u q.2))
/-- wear behind the first i halls -/
def weM (v : Wd) : Nat → Int → Int
  | 0 => v 148
  | i + 1 => if v 191 i = 1 then updF (weM v i) (prM v i) (weM v i (prM v i) + 1) else weM v i

theorem snG_okw {W cap pr : Int → Int} {n : Nat} {c : Int} {P : Int × Int → Prop} (hP : ∀ b : Int, 0 ≤ b → b < n → 0 < W b → P (c, b)) : ∀ (f : Nat) (S : Sn), (∀ q ∈ S.2.2, P q) → ∀ q ∈ (snG W cap pr n c f S).2.2, P q
  | 0, S, h => h
  | f + 1, S, h => by
    rw [snG]
    split
    · rename_i g
      refine snG_okw hP f _ (fun q hq => ?_)
      have hq2 : q ∈ S.2.2 ++ [(c, bhS W cap pr n S)] := hq
      rcases List.mem_append.mp hq2 with z | z
      · exact h q z
      · rw [List.mem_singleton.mp z]
        rcases bhV_p (W := W) (pl := fun h => cap h - S.2.1 h) (pr := pr) n with y | ⟨y1, y2, -, y4⟩
        · exact absurd y g.2
        · exact hP _ y1 y2 y4
    · exact h
theorem wkG_okw {W : Int → Int → Int} {cap pr many lk0 : Int → Int} {n : Nat} : ∀ (m : Nat), ∀ q ∈ (wkG W cap pr many lk0 n m).2, (0 ≤ q.1 ∧ q.1 < m) ∧ (0 ≤ q.2 ∧ q.2 < n) ∧ 0 < W q.1 q.2
  | 0, q, h => by cases h
  | m + 1, q, h => by
    rw [wkG] at h
    exact snG_okw (P := fun q => (0 ≤ q.1 ∧ q.1 < ((m + 1 : Nat) : Int)) ∧ (0 ≤ q.2 ∧ q.2 < n) ∧ 0 < W q.1 q.2) (fun b b0 b1 b2 => ⟨⟨by show (0 : Int) ≤ m; omega, by show (m : Int) < _; omega⟩, ⟨b0, b1⟩, b2⟩) n _ (fun q hq => by
      have h7 := wkG_okw m q hq
      exact ⟨⟨h7.1.1, by have := h7.1.2; omega⟩, h7.2⟩) q h
theorem prL_len (u : Wd) (gs : List (Int × Int)) : (prL u gs).length = gs.length := List.length_map ..
theorem prL_get (u : Wd) {gs : List (Int × Int)} {j : Nat} (h : j < gs.length) : (prL u gs).getD j (0, 0) = ((gs.getD j (0, 0)).1, prM u (gs.getD j (0, 0)).2) := by
  unfold prL
  rw [List.getD_eq_getElem?_getD, List.getD_eq_getElem?_getD, List.getElem?_map, List.getElem?_eq_getElem h]
  rfl
theorem getD_mem {gs : List (Int × Int)} {j : Nat} (h : j < gs.length) : gs.getD j (0, 0) ∈ gs := by
  rw [List.getD_eq_getElem?_getD, List.getElem?_eq_getElem h]
  exact List.getElem_mem _
theorem wvM_pr {w : Wd} {LN : Int → List Lin} {c h : Int} (h0 : 0 < wvM w LN c h) : prM w h ≠ -1 := fun e => by
  unfold wvM at h0
  rw [if_pos (Or.inl e)] at h0
  omega
theorem weM_bd {v : Wd} {m : Int} (h : ∀ j, 0 ≤ j → j < m → 0 ≤ v 148 j ∧ v 148 j ≤ 100) {j : Int} (h0 : 0 ≤ j) (h1 : j < m) : ∀ i : Nat, 0 ≤ weM v i j ∧ weM v i j ≤ 100 + i
  | 0 => by have := h j h0 h1; show 0 ≤ v 148 j ∧ v 148 j ≤ 100 + ((0 : Nat) : Int); omega
  | i + 1 => by
    have ih := weM_bd h h0 h1 i
    rw [weM]
    split
    · unfold updF
      by_cases e : j = prM v i
      · rw [if_pos e, ← e]; omega
      · rw [if_neg e]; omega
    · omega
/-- the words of a week -/
def WdsM (u1 u3 u4 : Wd) (gs : List (Int × Int)) : Prop := (∀ a, a ≠ 186 → u4 a = u3 a) ∧ ∀ o j, 0 ≤ o → o < 16 → 0 ≤ j → j < 12 → u4 186 (12 * o + j) = hdM u3 (prL u1 gs) gs.length o j
def WeekM (w w1 : Wd) (LN : Int → List Lin) : Prop := ∃ u1 u2 u3 u4, (FrN w u1 ∧ WoM w u1 LN (w 141 6) 0) ∧ (FrT u1 u2 ∧ ∀ x, StM u1 u2 (x, WKM u1 (w 141 6).toNat)) ∧ AccM u2 u3 LN (w 141 4) ∧ WdsM u1 u3 u4 (WKM u1 (w 141 6).toNat).2 ∧ ((∀ k, k ≠ 148 → k ≠ 141 → w1 k = u4 k) ∧ w1 148 = weM u4 (w 141 4).toNat ∧ w1 141 0 = w 141 0 + 1 ∧ ∀ j : Int, j ≠ 0 → w1 141 j = u4 141 j)

set_option maxRecDepth 100000 in
set_option maxHeartbeats 4000000 in
theorem c_M_week (w : Wd) (LN : Int → List Lin) (hI : InM w LN) (hn : 0 ≤ w 141 4 ∧ w 141 4 ≤ 16) (hcr : 0 ≤ w 141 6 ∧ w 141 6 ≤ 16) (hst : ∀ h, 0 ≤ h → h < w 141 4 → (0 ≤ w 156 h ∧ w 156 h ≤ 999) ∧ (1 ≤ w 157 h ∧ w 157 h ≤ 99) ∧ (0 ≤ w 158 h ∧ w 158 h ≤ 40) ∧ (0 ≤ w 164 h ∧ w 164 h ≤ 1400000) ∧ (-1000000000000 ≤ w 163 h ∧ w 163 h ≤ 1000000000000)) (hmy : ∀ c, 0 ≤ c → c < w 141 6 → 0 ≤ w 184 c ∧ w 184 c ≤ 9999) (hhi : ∀ j, 0 ≤ j → j < w 141 5 → 0 ≤ w 167 j ∧ w 167 j ≤ 99) (hwe : ∀ j, 0 ≤ j → j < w 141 2 → 0 ≤ w 148 j ∧ w 148 j ≤ 100) (hnw : 0 ≤ w 141 0 ∧ w 141 0 ≤ 1000) : CallN 8 mX12_week [(2, 141)] w (RUQ (fun w1 => WeekM w w1 LN)) := by
  refine CallN.intro (by decide +kernel) (Nat.le_of_ble_eq_true rfl) (fun ρ hR => ?_)
  show AtN mX12_week 8 ρ 0 [(0, (2, 141))] [] w
  have L_248 : ∀ (fu : Nat) (i : Int) (v9 : Wd) (u1 : Wd) (u2 : Wd) (u3 : Wd) (u4 : Wd), FrN w u1 → WoM w u1 LN (w 141 6) 0 → FrT u1 u2 → (∀ x, StM u1 u2 (x, WKM u1 (w 141 6).toNat)) → AccM u2 u3 LN (w 141 4) → WdsM u1 u3 u4 (WKM u1 (w 141 6).toNat).2 → 0 ≤ i ∧ i ≤ w 141 4 → (∀ k, k ≠ 148 → v9 k = u4 k) → v9 148 = weM u4 i.toNat → (w 141 4 - i).toNat < fu → AtN mX12_week 8 ρ 248 [(0, (2, 141)), (1, (0, i))] [] v9 := by
    intro fu
    induction fu with
    | zero => intro i v9 u1 u2 u3 u4 hN1 hW1 hT hS hA3 hD hi hfw hw hm; exact absurd hm (Nat.not_lt_zero _)
    | succ fu ih =>
      intro i v9 u1 u2 u3 u4 hN1 hW1 hT hS hA3 hD hi hfw hw hm
      have hV4 : FrV w u2 := (hN1.v).t hT
      have k4 : ∀ a, a ≠ 186 → u4 a = u3 a := hD.1
      have hVA : FrV u2 u3 := hA3.v
      have q141 : v9 141 = u4 141 := hfw 141 (by decide)
      have q4 : v9 141 4 = w 141 4 := by rw [q141, k4 141 (by decide), hVA.2 4 (by unfold jV; omega), hV4.2 4 (by unfold jV; omega)]
      have q2 : v9 141 2 = w 141 2 := by rw [q141, k4 141 (by decide), hVA.2 2 (by unfold jV; omega), hV4.2 2 (by unfold jV; omega)]
      have q0 : v9 141 0 = w 141 0 := by rw [q141, k4 141 (by decide), hVA.2 0 (by unfold jV; omega), hV4.2 0 (by unfold jV; omega)]
      have q149 : u4 149 = w 149 := by rw [k4 149 (by decide), hVA.1 149 (by unfold kV; omega), hV4.1 149 (by unfold kV; omega)]
      have q148 : u4 148 = w 148 := by rw [k4 148 (by decide), hVA.1 148 (by unfold kV; omega), hV4.1 148 (by unfold kV; omega)]
      have p4 : ∀ h, prM u4 h = prM w h := fun h => by unfold prM; rw [q149, ← q141, q2]
      have p2 : ∀ h, prM u2 h = prM w h := fun h => (halls_v hV4 LN).1 h
      have h30 := hI.2.1
      refine s_iload_n dX12_week_248 1 rfl (s_aload_n dX12_week_249 0 rfl rfl (n_getf 141 4 0 dX12_week_250 cf_X12 ff_X12_230 rfl sh_141 rfl (by decide) (v := (v9 141 4)) rfl (s_icmp_ge 285 dX12_week_253 (by decide) (fun c_253 => ?_) (fun c_253 => ?_))))
      · skip
        refine s_aload_n dX12_week_285 0 rfl rfl (s_dup dX12_week_286 (show (2 : Nat) ≠ 1 by decide) (n_getf 141 0 0 dX12_week_287 cf_X12 ff_X12_253 rfl sh_141 rfl (by decide) (v := (v9 141 0)) rfl (s_iconst dX12_week_290 (by decide) (n_add (z := ((v9 141 0) + 1)) dX12_week_291 (wr_id (by omega) (by omega)) (n_putf 141 0 0 dX12_week_292 cf_X12 ff_X12_253 rfl rfl sh_141 rfl rfl rfl (n_ret dX12_week_295 hR rfl ?_))))))
        have e9 : i = w 141 4 := by omega
        rw [e9] at hw
        exact ⟨rfl, u1, u2, u3, u4, ⟨hN1, hW1⟩, ⟨hT, hS⟩, hA3, hD, fun k k1 k2 => by rw [wu_ne k2]; exact hfw k k1, by rw [wu_ne (by decide)]; exact hw, by rw [wu_same, q0], fun j hj => by rw [wu_at, if_neg hj, q141]⟩
      · skip
        refine s_aload_n dX12_week_256 0 rfl rfl (n_getc (q := 191) 141 76 201 dX12_week_257 cf_X12 ff_X12_162 rfl sh_141 rfl (by decide) rfl (by decide) (s_iload_n dX12_week_260 1 rfl (n_bald 191 dX12_week_261 rfl sh_191 (by decide) ⟨(by omega), (by omega)⟩ (v := (v9 191 i)) rfl (s_if_eq 279 dX12_week_262 (by decide) (fun c_262 => ?_) (fun c_262 => ?_)))))
        · skip
          refine s_iinc (z := (i + 1)) (ls' := [(0, (2, 141)), (1, (0, (i + 1)))]) dX12_week_279 1 rfl (Nat.le_of_ble_eq_true rfl) (wr_id (by omega) (by omega)) rfl (s_goto 248 dX12_week_282 (by decide) ?_)
          exact ih (i + 1) v9 u1 u2 u3 u4 hN1 hW1 hT hS hA3 hD (by omega) hfw (by rw [hw, toN_s hi.1, weM, toN_c hi.1, if_neg (by rw [← hfw 191 (by decide)]; omega)]) (by omega)
        · skip
          have hr9 : u4 191 i = ruM u2 LN i := by
            rw [k4 191 (by decide), hA3.2.2.2.2.2]
            exact if_pos (by omega)
          have e191 : v9 191 i = u4 191 i := by rw [hfw 191 (by decide)]
          have hr1 : u4 191 i = 1 := by
            rw [hr9] at e191 ⊢
            unfold ruM at e191 ⊢
            split at e191
            · omega
            · split at e191
              · rw [if_neg (by assumption), if_pos (by assumption)]
              · omega
          have hp9 : prM u4 i ≠ -1 := fun e => by
            rw [p4] at e
            rw [hr9] at hr1
            unfold ruM at hr1
            rw [p2, if_pos e] at hr1
            omega
          have hpb := prM_bd (w := w) (h := i)
          rw [← p4] at hpb
          have hwb := weM_bd (v := u4) (m := w 141 2) (by rw [q148]; exact hwe) (j := prM u4 i) (by omega) (by omega) i.toNat
          have e148 : v9 148 (prM u4 i) = weM u4 i.toNat (prM u4 i) := by rw [hw]
          refine s_aload_n dX12_week_265 0 rfl rfl (n_getc (q := 148) 141 16 158 dX12_week_266 cf_X12 ff_X12_28 rfl sh_141 rfl (by decide) rfl (by decide) (s_aload_n dX12_week_269 0 rfl rfl (s_iload_n dX12_week_270 1 rfl (n_invV (as := [(0, i)]) dX12_week_271 kv_X12_printIn ml_X12_274 (show CallN 1 mX12_printIn [(2, 141), (0, i)] v9 (RV (0, prM u4 i) v9) from (by have hz := c_M_printIn i v9 (by rw [q2]; exact hI.2.1); have e : fst (v9 149) i (v9 141 2).toNat = prM u4 i := (by rw [hfw 149 (by decide), q141]; rfl); rw [e] at hz; exact hz)) (by decide) 141 cf_X12 rfl sh_141 rfl rfl rfl (Nat.le_of_ble_eq_true rfl) (s_dup2 dX12_week_274 (show (0 : Nat) ≠ 1 by decide) (show (2 : Nat) ≠ 1 by decide) (n_iald 148 dX12_week_275 rfl sh_148 (by decide) ⟨(by omega), (by omega)⟩ (v := (v9 148 (prM u4 i))) rfl (s_iconst dX12_week_276 (by decide) (n_add (z := ((v9 148 (prM u4 i)) + 1)) dX12_week_277 (wr_id (by omega) (by omega)) (s_iastore 148 dX12_week_278 rfl sh_148 (by decide) ⟨(by omega), (by omega)⟩ ?_)))))))))
          refine s_iinc (z := (i + 1)) (ls' := [(0, (2, 141)), (1, (0, (i + 1)))]) dX12_week_279 1 rfl (Nat.le_of_ble_eq_true rfl) (wr_id (by omega) (by omega)) rfl (s_goto 248 dX12_week_282 (by decide) ?_)
          exact ih (i + 1) (wu v9 148 (prM u4 i) ((v9 148 (prM u4 i)) + 1)) u1 u2 u3 u4 hN1 hW1 hT hS hA3 hD (by omega) (fun k hk => by rw [wu_ne hk]; exact hfw k hk) (by rw [wu_upM, hw, toN_s hi.1, weM, toN_c hi.1, if_pos hr1]) (by omega)
  have L_55 : ∀ (fu : Nat) (i : Int) (v9 : Wd) (u1 : Wd) (u2 : Wd), FrN w u1 → WoM w u1 LN (w 141 6) 0 → FrT u1 u2 → (∀ x, StM u1 u2 (x, WKM u1 (w 141 6).toNat)) → (∀ h : Int, 0 ≤ h → h < w 141 4 → 0 ≤ u2 159 h ∧ u2 159 h ≤ 7 * w 156 h) → ((WKM u1 (w 141 6).toNat).2.length : Int) ≤ 32 → 0 ≤ i ∧ i ≤ w 141 4 → AccM u2 v9 LN i → (w 141 4 - i).toNat < fu → AtN mX12_week 8 ρ 55 [(0, (2, 141)), (1, (0, i))] [] v9 := by
    intro fu
    induction fu with
    | zero => intro i v9 u1 u2 hN1 hW1 hT hS hL hlen hi hA hm; exact absurd hm (Nat.not_lt_zero _)
    | succ fu ih =>
      intro i v9 u1 u2 hN1 hW1 hT hS hL hlen hi hA hm
      have hV1 : FrV w u2 := (hN1.v).t hT
      have hVA : FrV w v9 := ⟨fun c hc => (hA.v.1 c hc).trans (hV1.1 c hc), fun j hj => (hA.v.2 j hj).trans (hV1.2 j hj)⟩
      have hs2 := halls_v hA.v LN
      have q4 : v9 141 4 = w 141 4 := hVA.2 4 (by unfold jV; omega)
      have q2 : v9 141 2 = w 141 2 := hVA.2 2 (by unfold jV; omega)
      have q5 : v9 141 5 = w 141 5 := hVA.2 5 (by unfold jV; omega)
      have r5 : u2 141 5 = w 141 5 := hV1.2 5 (by unfold jV; omega)
      have r2 : u2 141 2 = w 141 2 := hV1.2 2 (by unfold jV; omega)
      refine s_iload_n dX12_week_55 1 rfl (s_aload_n dX12_week_56 0 rfl rfl (n_getf 141 4 0 dX12_week_57 cf_X12 ff_X12_230 rfl sh_141 rfl (by decide) (v := (v9 141 4)) rfl (s_icmp_ge 242 dX12_week_60 (by decide) (fun c_60 => ?_) (fun c_60 => ?_))))
      · skip
        have e9 : i = w 141 4 := by omega
        have hA9 : AccM u2 v9 LN (w 141 4) := by rw [← e9]; exact hA
        obtain ⟨gs, egs⟩ : ∃ gs, gs = (WKM u1 (w 141 6).toNat).2 := ⟨_, rfl⟩
        have hgo : ∀ j : Nat, j < gs.length → (0 ≤ (gs.getD j (0, 0)).1 ∧ (gs.getD j (0, 0)).1 < 16) ∧ 0 ≤ prM u1 (gs.getD j (0, 0)).2 ∧ prM u1 (gs.getD j (0, 0)).2 < w 141 2 := fun j hj => by
          have hm := getD_mem hj
          obtain ⟨q9, eq9⟩ : ∃ q9, q9 = gs.getD j (0, 0) := ⟨_, rfl⟩
          rw [← eq9] at hm ⊢
          rw [egs] at hm
          obtain ⟨g1, g2, g3⟩ := wkG_okw _ _ hm
          have o4 : u1 141 4 = w 141 4 := hN1.2 4 (by omega)
          have g4 : 0 < wvM w LN q9.1 q9.2 := by
            have h7 := hW1 q9.1 q9.2 g1.1 g2.1 (by omega) (by omega)
            rw [← h7]
            exact g3
          have g5 := wvM_pr g4
          rw [(halls_v hN1.v LN).1]
          have h6 := prM_bd (w := w) (h := q9.2)
          have h30 := hI.2.1
          refine ⟨⟨g1.1, by omega⟩, ?_⟩
          omega
        have hgl : (gs.length : Int) ≤ 32 := by rw [egs]; exact hlen
        have hs75 : u2 141 75 = (gs.length : Int) := by rw [egs]; exact (hS 0).2.2.1
        have q6 : v9 141 6 = w 141 6 := hVA.2 6 (by unfold jV; omega)
        refine s_aload_n dX12_week_242 0 rfl rfl (n_invV' (as := []) dX12_week_243 kv_X12_words ml_X12_444 (c_M_words (prL u1 gs) v9 LN (hI.v hVA) (by rw [q6]; exact hcr) (by rw [prL_len, hA9.2.1 75 (by omega)]; exact hs75) (by rw [prL_len]; omega) (fun j hj => by
      rw [prL_len] at hj
      rw [prL_get u1 hj, hA9.1 189 (by decide) (by decide) (by decide) (by decide) (by decide) (by decide) (by decide), hA9.1 190 (by decide) (by decide) (by decide) (by decide) (by decide) (by decide) (by decide), egs]
      rw [egs] at hj
      exact (hS 0).2.2.2 j hj) (fun j hj => by
      rw [prL_len] at hj
      rw [prL_get u1 hj, q2]
      exact hgo j hj)) (by decide) 141 cf_X12 rfl sh_141 rfl rfl rfl (Nat.le_of_ble_eq_true rfl) ?_)
        rintro r_243 w_243 ⟨rfl, hF243, hH243⟩
        rw [prL_len] at hH243
        have hD243 : WdsM u1 v9 w_243 (WKM u1 (w 141 6).toNat).2 := by rw [← egs]; exact ⟨hF243, hH243⟩
        refine s_iconst dX12_week_246 (by decide) (s_istore_n (ls' := [(0, (2, 141)), (1, (0, 0))]) dX12_week_247 (Nat.le_of_ble_eq_true rfl) rfl ?_)
        exact L_248 _ 0 w_243 u1 u2 v9 w_243 hN1 hW1 hT hS hA9 hD243 (by omega) (fun _ _ => rfl) rfl (Nat.lt_succ_self _)
      · skip
        refine s_aload_n dX12_week_63 0 rfl rfl (s_iload_n dX12_week_64 1 rfl (n_invV (as := [(0, i)]) dX12_week_65 kv_X12_printIn ml_X12_274 (show CallN 1 mX12_printIn [(2, 141), (0, i)] v9 (RV (0, prM u2 i) v9) from (by rw [← hs2.1 i]; exact c_M_printIn i v9 (by rw [q2]; exact hI.2.1))) (by decide) 141 cf_X12 rfl sh_141 rfl rfl rfl (Nat.le_of_ble_eq_true rfl) (s_istore_n (ls' := [(0, (2, 141)), (1, (0, i)), (2, (0, (prM u2 i)))]) dX12_week_68 (Nat.le_of_ble_eq_true rfl) rfl (s_aload_n dX12_week_69 0 rfl rfl (s_iload_n dX12_week_70 1 rfl (n_invV (as := [(0, i)]) dX12_week_71 kv_X12_setIn ml_X12_270 (show CallN 1 mX12_setIn [(2, 141), (0, i)] v9 (RV (0, seM u2 i) v9) from (by have e : seM v9 i = seM u2 i := (by unfold seM; rw [hA.v.1 168 (by unfold kV; omega), q5, r5]); rw [← e]; exact c_M_setIn i v9 (by rw [q5]; exact hI.2.2.1))) (by decide) 141 cf_X12 rfl sh_141 rfl rfl rfl (Nat.le_of_ble_eq_true rfl) (s_istore_n (ls' := [(0, (2, 141)), (1, (0, i)), (2, (0, (prM u2 i))), (3, (0, (seM u2 i)))]) dX12_week_74 (Nat.le_of_ble_eq_true rfl) rfl ?_)))))))
        have hs9 := hst i hi.1 (by omega)
        have hpb := prM_bd (w := u2) (h := i)
        have h30 := hI.2.1
        have hsb := fst_spec (u2 168) i (u2 141 5).toNat
        have hset := hI.2.2.1
        have hsb2 : seM u2 i = -1 ∨ (0 ≤ seM u2 i ∧ seM u2 i < w 141 5) := by
          rcases hsb with z | ⟨z1, z2, -⟩
          · exact Or.inl z.1
          · exact Or.inr ⟨z1, Int.lt_of_lt_of_le z2 (by omega)⟩
        clear hsb
        have hlk := hL i hi.1 (by omega)
        have hjb := jM_bd (w := u2) (LN := LN) (h := i)
        refine s_iload_n dX12_week_75 2 rfl (s_iconst dX12_week_76 (by decide) (s_icmp_eq 93 dX12_week_77 (by decide) (fun c_77 => ?_) (fun c_77 => ?_)))
        · skip
          refine s_iconst dX12_week_93 (by decide) (s_istore (ls' := [(0, (2, 141)), (1, (0, i)), (2, (0, (prM u2 i))), (3, (0, (seM u2 i))), (4, (0, 0))]) dX12_week_94 (Nat.le_of_ble_eq_true rfl) rfl ?_)
          have hx : FrM3 v9 v9 := FrM3.rf
          have m : ∀ k, (k = 159 ∨ k = 157 ∨ k = 158 ∨ k = 167) → v9 k = u2 k := fun k hk => (hx.1 k (by omega) (by omega) (by omega)).trans (hA.1 k (by omega) (by omega) (by omega) (by omega) (by omega) (by omega) (by omega))
          have e159 : v9 159 i = u2 159 i := by rw [m 159 (by omega)]
          have e157 : v9 157 i = w 157 i := by rw [m 157 (by omega), hV1.1 157 (by unfold kV; omega)]
          have e158 : v9 158 i = w 158 i := by rw [m 158 (by omega), hV1.1 158 (by unfold kV; omega)]
          have f157 : u2 157 i = w 157 i := by rw [hV1.1 157 (by unfold kV; omega)]
          have f158 : u2 158 i = w 158 i := by rw [hV1.1 158 (by unfold kV; omega)]
          have e164 : v9 164 i = w 164 i := by rw [hx.1 164 (by decide) (by decide) (by decide), hA.2.2.2.1]; show (if 0 ≤ i ∧ i < i then _ else u2 164 i) = _; rw [if_neg (by omega), hT.1 164 (by decide) (by decide) (by decide) (by decide) (by decide), hN1.1 164 (by decide) (by decide) (by decide) (by decide)]
          have e163 : v9 163 i = w 163 i := by rw [hx.1 163 (by decide) (by decide) (by decide), hA.2.2.2.2.1]; show (if 0 ≤ i ∧ i < i then _ else u2 163 i) = _; rw [if_neg (by omega), hT.1 163 (by decide) (by decide) (by decide) (by decide) (by decide), hN1.1 163 (by decide) (by decide) (by decide) (by decide)]
          have f164 : u2 164 i = w 164 i := by rw [hT.1 164 (by decide) (by decide) (by decide) (by decide) (by decide), hN1.1 164 (by decide) (by decide) (by decide) (by decide)]
          have f163 : u2 163 i = w 163 i := by rw [hT.1 163 (by decide) (by decide) (by decide) (by decide) (by decide), hN1.1 163 (by decide) (by decide) (by decide) (by decide)]
          have hmul := mul_bd (x := v9 159 i) (y := v9 157 i) (X := 6993) (Y := 99) ⟨by omega, by omega⟩ ⟨by omega, by omega⟩
          have hmu2 : u2 159 i * u2 157 i = v9 159 i * v9 157 i := by rw [e159, e157, f157]
          have hru : ruM u2 LN i = 0 := by
            unfold ruM
            first
            | (rw [if_pos (by omega)]; done)
            | (rw [if_neg (by omega), if_pos (by omega)]; done)
            | (rw [if_neg (by omega), if_neg (by omega)])
          refine s_aload_n dX12_week_96 0 rfl rfl (n_getc (q := 160) 141 28 170 dX12_week_97 cf_X12 ff_X12_64 rfl sh_141 rfl (by decide) rfl (by decide) (s_iload_n dX12_week_100 1 rfl (s_aload_n dX12_week_101 0 rfl rfl (n_getc (q := 159) 141 27 169 dX12_week_102 cf_X12 ff_X12_61 rfl sh_141 rfl (by decide) rfl (by decide) (s_iload_n dX12_week_105 1 rfl (n_iald 159 dX12_week_106 rfl sh_159 (by decide) ⟨(by omega), (by omega)⟩ (v := (v9 159 i)) rfl (s_aload_n dX12_week_107 0 rfl rfl (n_getc (q := 157) 141 25 167 dX12_week_108 cf_X12 ff_X12_55 rfl sh_141 rfl (by decide) rfl (by decide) (s_iload_n dX12_week_111 1 rfl ?_)))))))))
          refine n_iald 157 dX12_week_112 rfl sh_157 (by decide) ⟨(by omega), (by omega)⟩ (v := (v9 157 i)) rfl (n_mul (z := ((v9 159 i) * (v9 157 i))) dX12_week_113 (wr_id (by omega) (by omega)) (s_iastore 160 dX12_week_114 rfl sh_160 (by decide) ⟨(by omega), (by omega)⟩ (s_aload_n dX12_week_115 0 rfl rfl (n_getc (q := 164) 141 32 174 dX12_week_116 cf_X12 ff_X12_77 rfl sh_141 rfl (by decide) rfl (by decide) (s_iload_n dX12_week_119 1 rfl (s_dup2 dX12_week_120 (show (0 : Nat) ≠ 1 by decide) (show (2 : Nat) ≠ 1 by decide) (n_lald 164 dX12_week_121 rfl sh_164 (by decide) ⟨(by omega), (by omega)⟩ (v := (v9 164 i)) rfl (s_aload_n dX12_week_122 0 rfl rfl (n_getc (q := 159) 141 27 169 dX12_week_123 cf_X12 ff_X12_61 rfl sh_141 rfl (by decide) rfl (by decide) ?_)))))))))
          refine s_iload_n dX12_week_126 1 rfl (n_iald 159 dX12_week_127 rfl sh_159 (by decide) ⟨(by omega), (by omega)⟩ (v := (v9 159 i)) rfl (s_i2l dX12_week_128 (n_ladd (z := ((v9 164 i) + (v9 159 i))) dX12_week_129 (wrL_id (by omega) (by omega)) (s_lastore 164 dX12_week_130 rfl sh_164 (by decide) ⟨(by omega), (by omega)⟩ (s_iload dX12_week_131 4 rfl (s_if_eq 157 dX12_week_133 (by decide) (kf := fun c => absurd c (by decide)) (kt := fun _ => s_aload_n dX12_week_157 0 rfl rfl (n_getc (q := 163) 141 31 173 dX12_week_158 cf_X12 ff_X12_73 rfl sh_141 rfl (by decide) rfl (by decide) (s_iload_n dX12_week_161 1 rfl ?_)))))))))
          refine s_dup2 dX12_week_162 (show (0 : Nat) ≠ 1 by decide) (show (2 : Nat) ≠ 1 by decide) (n_lald 163 dX12_week_163 rfl sh_163 (by decide) ⟨(by omega), (by omega)⟩ (v := (v9 163 i)) rfl (s_iload_n dX12_week_164 3 rfl (s_iconst dX12_week_165 (by decide) (s_icmp_ne 173 dX12_week_166 (by decide) (fun c_166 => ?_) (fun c_166 => ?_)))))
          · skip
            have hse9 : seM u2 i ≠ -1 := by omega
            have hhi9 := hhi (seM u2 i) (by omega) (by omega)
            have e167 : v9 167 (seM u2 i) = w 167 (seM u2 i) := by rw [m 167 (by omega), hV1.1 167 (by unfold kV; omega)]
            have f167 : u2 167 (seM u2 i) = w 167 (seM u2 i) := by rw [hV1.1 167 (by unfold kV; omega)]
            refine s_aload_n dX12_week_173 0 rfl rfl (n_getc (q := 167) 141 35 177 dX12_week_174 cf_X12 ff_X12_86 rfl sh_141 rfl (by decide) rfl (by decide) (s_iload_n dX12_week_177 3 rfl (n_iald 167 dX12_week_178 rfl sh_167 (by decide) ⟨(by omega), (by omega)⟩ (v := (v9 167 (seM u2 i))) rfl (s_iconst dX12_week_179 (by decide) (s_aload_n dX12_week_180 0 rfl rfl (n_getc (q := 158) 141 26 168 dX12_week_181 cf_X12 ff_X12_58 rfl sh_141 rfl (by decide) rfl (by decide) (s_iload_n dX12_week_184 1 rfl (n_iald 158 dX12_week_185 rfl sh_158 (by decide) ⟨(by omega), (by omega)⟩ (v := (v9 158 i)) rfl (n_mul (z := (3 * (v9 158 i))) dX12_week_186 (wr_id (by omega) (by omega)) ?_)))))))))
            refine n_add (z := ((v9 167 (seM u2 i)) + (3 * (v9 158 i)))) dX12_week_187 (wr_id (by omega) (by omega)) (s_iload_n dX12_week_188 2 rfl (s_iconst dX12_week_189 (by decide) (s_icmp_eq 223 dX12_week_190 (by decide) (fun c_190 => ?_) (fun c_190 => ?_))))
            · skip
              skip
              refine s_iconst dX12_week_223 (by decide) (n_add (z := (((v9 167 (seM u2 i)) + (3 * (v9 158 i))) + 0)) dX12_week_224 (wr_id (by omega) (by omega)) (s_i2l dX12_week_225 (n_lsub (z := ((v9 163 i) - (((v9 167 (seM u2 i)) + (3 * (v9 158 i))) + 0))) dX12_week_226 (wrL_id (by omega) (by omega)) (s_lastore 163 dX12_week_227 rfl sh_163 (by decide) ⟨(by omega), (by omega)⟩ (s_aload_n dX12_week_228 0 rfl rfl (n_getc (q := 191) 141 76 201 dX12_week_229 cf_X12 ff_X12_162 rfl sh_141 rfl (by decide) rfl (by decide) (s_iload_n dX12_week_232 1 rfl (s_iload dX12_week_233 4 rfl (s_bastore 191 dX12_week_235 rfl sh_191 (by decide) ⟨(by omega), (by omega)⟩ (by first | exact Or.inl rfl | exact Or.inr rfl | exact bi_01 _ | omega) ?_)))))))))
              refine s_iinc (z := (i + 1)) (ls' := [(0, (2, 141)), (1, (0, (i + 1))), (2, (0, (prM u2 i))), (3, (0, (seM u2 i))), (4, (0, 0))]) dX12_week_236 1 rfl (Nat.le_of_ble_eq_true rfl) (wr_id (by omega) (by omega)) rfl (s_goto 55 dX12_week_239 (by decide) ?_)
              exact At.keep (ls' := [(0, (2, 141)), (1, (0, (i + 1)))]) [0, 1] rfl (ih (i + 1) (wu (wu (wu (wu v9 160 i ((v9 159 i) * (v9 157 i))) 164 i ((v9 164 i) + (v9 159 i))) 163 i ((v9 163 i) - (((v9 167 (seM u2 i)) + (3 * (v9 158 i))) + 0))) 191 i 0) u1 u2 hN1 hW1 hT hS hL hlen (by omega) (hA.step (a := ((v9 159 i) * (v9 157 i))) (b1 := ((v9 164 i) + (v9 159 i))) (b2 := ((v9 163 i) - (((v9 167 (seM u2 i)) + (3 * (v9 158 i))) + 0))) (c := 0) hi.1 hx (by omega) (by omega) (by
      unfold acM
      rw [hru]
      (repeat' split) <;> (first | omega | (exfalso; omega))) hru.symm (fun k k1 k2 k3 k4 => by repeat (first | rw [wu_ne k1] | rw [wu_ne k2] | rw [wu_ne k3] | rw [wu_ne k4])) (by rw [wu_ne (by decide), wu_ne (by decide), wu_ne (by decide), wu_up]) (by rw [wu_ne (by decide), wu_ne (by decide), wu_up, wu_ne (by decide)]) (by rw [wu_ne (by decide), wu_up, wu_ne (by decide), wu_ne (by decide)]) (by rw [wu_up, wu_ne (by decide), wu_ne (by decide), wu_ne (by decide)])) (by omega))
            · skip
              exfalso
              omega
          · skip
            refine s_iconst dX12_week_169 (by decide) (s_goto 179 dX12_week_170 (by decide) (s_iconst dX12_week_179 (by decide) (s_aload_n dX12_week_180 0 rfl rfl (n_getc (q := 158) 141 26 168 dX12_week_181 cf_X12 ff_X12_58 rfl sh_141 rfl (by decide) rfl (by decide) (s_iload_n dX12_week_184 1 rfl (n_iald 158 dX12_week_185 rfl sh_158 (by decide) ⟨(by omega), (by omega)⟩ (v := (v9 158 i)) rfl (n_mul (z := (3 * (v9 158 i))) dX12_week_186 (wr_id (by omega) (by omega)) (n_add (z := (0 + (3 * (v9 158 i)))) dX12_week_187 (wr_id (by omega) (by omega)) (s_iload_n dX12_week_188 2 rfl ?_)))))))))
            refine s_iconst dX12_week_189 (by decide) (s_icmp_eq 223 dX12_week_190 (by decide) (fun c_190 => ?_) (fun c_190 => ?_))
            · skip
              skip
              refine s_iconst dX12_week_223 (by decide) (n_add (z := ((0 + (3 * (v9 158 i))) + 0)) dX12_week_224 (wr_id (by omega) (by omega)) (s_i2l dX12_week_225 (n_lsub (z := ((v9 163 i) - ((0 + (3 * (v9 158 i))) + 0))) dX12_week_226 (wrL_id (by omega) (by omega)) (s_lastore 163 dX12_week_227 rfl sh_163 (by decide) ⟨(by omega), (by omega)⟩ (s_aload_n dX12_week_228 0 rfl rfl (n_getc (q := 191) 141 76 201 dX12_week_229 cf_X12 ff_X12_162 rfl sh_141 rfl (by decide) rfl (by decide) (s_iload_n dX12_week_232 1 rfl (s_iload dX12_week_233 4 rfl (s_bastore 191 dX12_week_235 rfl sh_191 (by decide) ⟨(by omega), (by omega)⟩ (by first | exact Or.inl rfl | exact Or.inr rfl | exact bi_01 _ | omega) ?_)))))))))
              refine s_iinc (z := (i + 1)) (ls' := [(0, (2, 141)), (1, (0, (i + 1))), (2, (0, (prM u2 i))), (3, (0, (seM u2 i))), (4, (0, 0))]) dX12_week_236 1 rfl (Nat.le_of_ble_eq_true rfl) (wr_id (by omega) (by omega)) rfl (s_goto 55 dX12_week_239 (by decide) ?_)
              exact At.keep (ls' := [(0, (2, 141)), (1, (0, (i + 1)))]) [0, 1] rfl (ih (i + 1) (wu (wu (wu (wu v9 160 i ((v9 159 i) * (v9 157 i))) 164 i ((v9 164 i) + (v9 159 i))) 163 i ((v9 163 i) - ((0 + (3 * (v9 158 i))) + 0))) 191 i 0) u1 u2 hN1 hW1 hT hS hL hlen (by omega) (hA.step (a := ((v9 159 i) * (v9 157 i))) (b1 := ((v9 164 i) + (v9 159 i))) (b2 := ((v9 163 i) - ((0 + (3 * (v9 158 i))) + 0))) (c := 0) hi.1 hx (by omega) (by omega) (by
      unfold acM
      rw [hru]
      (repeat' split) <;> (first | omega | (exfalso; omega))) hru.symm (fun k k1 k2 k3 k4 => by repeat (first | rw [wu_ne k1] | rw [wu_ne k2] | rw [wu_ne k3] | rw [wu_ne k4])) (by rw [wu_ne (by decide), wu_ne (by decide), wu_ne (by decide), wu_up]) (by rw [wu_ne (by decide), wu_ne (by decide), wu_up, wu_ne (by decide)]) (by rw [wu_ne (by decide), wu_up, wu_ne (by decide), wu_ne (by decide)]) (by rw [wu_up, wu_ne (by decide), wu_ne (by decide), wu_ne (by decide)])) (by omega))
            · skip
              exfalso
              omega
        · skip
          refine s_aload_n dX12_week_80 0 rfl rfl (s_iload_n dX12_week_81 2 rfl (s_iload_n dX12_week_82 1 rfl (n_invV' (as := [(0, (prM u2 i)), (0, i)]) dX12_week_83 kv_X12_whyNot ml_X12_426 (c_M_whyNot (prM u2 i) i v9 LN (hI.v hVA).1 ⟨by omega, by omega⟩ ⟨by omega, by omega⟩ (by rw [hVA.1 147 (by unfold kV; omega)]; exact hI.2.2.2.1 (prM u2 i) (by omega) (by omega)) (by rw [q5]; exact hset)) (by decide) 141 cf_X12 rfl sh_141 rfl rfl rfl (Nat.le_of_ble_eq_true rfl) ?_)))
          rintro r_83 w_83 ⟨z_83, rfl, hF83, hJ83, hz83⟩
          show AtN _ _ ρ _ _ [(0, z_83)] w_83
          have ej : jdF (fcM v9 (prM u2 i) i) LN = jM u2 LN i := by rw [← hs2.2.1 i]; unfold jM; rw [hs2.1 i]
          rw [ej] at hJ83 hz83
          rw [hs2.2.2.1] at hz83
          have j3 : w_83 141 63 = (jM u2 LN i).2.2.1 := by rw [← hJ83]
          have j4 : w_83 141 64 = (jM u2 LN i).2.2.2 := by rw [← hJ83]
          refine s_if_ne 93 dX12_week_86 (by decide) (fun c_86 => ?_) (fun c_86 => ?_)
          · skip
            refine s_iconst dX12_week_93 (by decide) (s_istore (ls' := [(0, (2, 141)), (1, (0, i)), (2, (0, (prM u2 i))), (3, (0, (seM u2 i))), (4, (0, 0))]) dX12_week_94 (Nat.le_of_ble_eq_true rfl) rfl ?_)
            have hx : FrM3 v9 w_83 := hF83
            have m : ∀ k, (k = 159 ∨ k = 157 ∨ k = 158 ∨ k = 167) → w_83 k = u2 k := fun k hk => (hx.1 k (by omega) (by omega) (by omega)).trans (hA.1 k (by omega) (by omega) (by omega) (by omega) (by omega) (by omega) (by omega))
            have e159 : w_83 159 i = u2 159 i := by rw [m 159 (by omega)]
            have e157 : w_83 157 i = w 157 i := by rw [m 157 (by omega), hV1.1 157 (by unfold kV; omega)]
            have e158 : w_83 158 i = w 158 i := by rw [m 158 (by omega), hV1.1 158 (by unfold kV; omega)]
            have f157 : u2 157 i = w 157 i := by rw [hV1.1 157 (by unfold kV; omega)]
            have f158 : u2 158 i = w 158 i := by rw [hV1.1 158 (by unfold kV; omega)]
            have e164 : w_83 164 i = w 164 i := by rw [hx.1 164 (by decide) (by decide) (by decide), hA.2.2.2.1]; show (if 0 ≤ i ∧ i < i then _ else u2 164 i) = _; rw [if_neg (by omega), hT.1 164 (by decide) (by decide) (by decide) (by decide) (by decide), hN1.1 164 (by decide) (by decide) (by decide) (by decide)]
            have e163 : w_83 163 i = w 163 i := by rw [hx.1 163 (by decide) (by decide) (by decide), hA.2.2.2.2.1]; show (if 0 ≤ i ∧ i < i then _ else u2 163 i) = _; rw [if_neg (by omega), hT.1 163 (by decide) (by decide) (by decide) (by decide) (by decide), hN1.1 163 (by decide) (by decide) (by decide) (by decide)]
            have f164 : u2 164 i = w 164 i := by rw [hT.1 164 (by decide) (by decide) (by decide) (by decide) (by decide), hN1.1 164 (by decide) (by decide) (by decide) (by decide)]
            have f163 : u2 163 i = w 163 i := by rw [hT.1 163 (by decide) (by decide) (by decide) (by decide) (by decide), hN1.1 163 (by decide) (by decide) (by decide) (by decide)]
            have hmul := mul_bd (x := w_83 159 i) (y := w_83 157 i) (X := 6993) (Y := 99) ⟨by omega, by omega⟩ ⟨by omega, by omega⟩
            have hmu2 : u2 159 i * u2 157 i = w_83 159 i * w_83 157 i := by rw [e159, e157, f157]
            have hru : ruM u2 LN i = 0 := by
              unfold ruM
              first
              | (rw [if_pos (by omega)]; done)
              | (rw [if_neg (by omega), if_pos (by omega)]; done)
              | (rw [if_neg (by omega), if_neg (by omega)])
            refine s_aload_n dX12_week_96 0 rfl rfl (n_getc (q := 160) 141 28 170 dX12_week_97 cf_X12 ff_X12_64 rfl sh_141 rfl (by decide) rfl (by decide) (s_iload_n dX12_week_100 1 rfl (s_aload_n dX12_week_101 0 rfl rfl (n_getc (q := 159) 141 27 169 dX12_week_102 cf_X12 ff_X12_61 rfl sh_141 rfl (by decide) rfl (by decide) (s_iload_n dX12_week_105 1 rfl (n_iald 159 dX12_week_106 rfl sh_159 (by decide) ⟨(by omega), (by omega)⟩ (v := (w_83 159 i)) rfl (s_aload_n dX12_week_107 0 rfl rfl (n_getc (q := 157) 141 25 167 dX12_week_108 cf_X12 ff_X12_55 rfl sh_141 rfl (by decide) rfl (by decide) (s_iload_n dX12_week_111 1 rfl ?_)))))))))
            refine n_iald 157 dX12_week_112 rfl sh_157 (by decide) ⟨(by omega), (by omega)⟩ (v := (w_83 157 i)) rfl (n_mul (z := ((w_83 159 i) * (w_83 157 i))) dX12_week_113 (wr_id (by omega) (by omega)) (s_iastore 160 dX12_week_114 rfl sh_160 (by decide) ⟨(by omega), (by omega)⟩ (s_aload_n dX12_week_115 0 rfl rfl (n_getc (q := 164) 141 32 174 dX12_week_116 cf_X12 ff_X12_77 rfl sh_141 rfl (by decide) rfl (by decide) (s_iload_n dX12_week_119 1 rfl (s_dup2 dX12_week_120 (show (0 : Nat) ≠ 1 by decide) (show (2 : Nat) ≠ 1 by decide) (n_lald 164 dX12_week_121 rfl sh_164 (by decide) ⟨(by omega), (by omega)⟩ (v := (w_83 164 i)) rfl (s_aload_n dX12_week_122 0 rfl rfl (n_getc (q := 159) 141 27 169 dX12_week_123 cf_X12 ff_X12_61 rfl sh_141 rfl (by decide) rfl (by decide) ?_)))))))))
            refine s_iload_n dX12_week_126 1 rfl (n_iald 159 dX12_week_127 rfl sh_159 (by decide) ⟨(by omega), (by omega)⟩ (v := (w_83 159 i)) rfl (s_i2l dX12_week_128 (n_ladd (z := ((w_83 164 i) + (w_83 159 i))) dX12_week_129 (wrL_id (by omega) (by omega)) (s_lastore 164 dX12_week_130 rfl sh_164 (by decide) ⟨(by omega), (by omega)⟩ (s_iload dX12_week_131 4 rfl (s_if_eq 157 dX12_week_133 (by decide) (kf := fun c => absurd c (by decide)) (kt := fun _ => s_aload_n dX12_week_157 0 rfl rfl (n_getc (q := 163) 141 31 173 dX12_week_158 cf_X12 ff_X12_73 rfl sh_141 rfl (by decide) rfl (by decide) (s_iload_n dX12_week_161 1 rfl ?_)))))))))
            refine s_dup2 dX12_week_162 (show (0 : Nat) ≠ 1 by decide) (show (2 : Nat) ≠ 1 by decide) (n_lald 163 dX12_week_163 rfl sh_163 (by decide) ⟨(by omega), (by omega)⟩ (v := (w_83 163 i)) rfl (s_iload_n dX12_week_164 3 rfl (s_iconst dX12_week_165 (by decide) (s_icmp_ne 173 dX12_week_166 (by decide) (fun c_166 => ?_) (fun c_166 => ?_)))))
            · skip
              have hse9 : seM u2 i ≠ -1 := by omega
              have hhi9 := hhi (seM u2 i) (by omega) (by omega)
              have e167 : w_83 167 (seM u2 i) = w 167 (seM u2 i) := by rw [m 167 (by omega), hV1.1 167 (by unfold kV; omega)]
              have f167 : u2 167 (seM u2 i) = w 167 (seM u2 i) := by rw [hV1.1 167 (by unfold kV; omega)]
              refine s_aload_n dX12_week_173 0 rfl rfl (n_getc (q := 167) 141 35 177 dX12_week_174 cf_X12 ff_X12_86 rfl sh_141 rfl (by decide) rfl (by decide) (s_iload_n dX12_week_177 3 rfl (n_iald 167 dX12_week_178 rfl sh_167 (by decide) ⟨(by omega), (by omega)⟩ (v := (w_83 167 (seM u2 i))) rfl (s_iconst dX12_week_179 (by decide) (s_aload_n dX12_week_180 0 rfl rfl (n_getc (q := 158) 141 26 168 dX12_week_181 cf_X12 ff_X12_58 rfl sh_141 rfl (by decide) rfl (by decide) (s_iload_n dX12_week_184 1 rfl (n_iald 158 dX12_week_185 rfl sh_158 (by decide) ⟨(by omega), (by omega)⟩ (v := (w_83 158 i)) rfl (n_mul (z := (3 * (w_83 158 i))) dX12_week_186 (wr_id (by omega) (by omega)) ?_)))))))))
              refine n_add (z := ((w_83 167 (seM u2 i)) + (3 * (w_83 158 i)))) dX12_week_187 (wr_id (by omega) (by omega)) (s_iload_n dX12_week_188 2 rfl (s_iconst dX12_week_189 (by decide) (s_icmp_eq 223 dX12_week_190 (by decide) (fun c_190 => ?_) (fun c_190 => ?_))))
              · skip
                exfalso
                omega
              · skip
                skip
                refine s_aload_n dX12_week_193 0 rfl rfl (n_getf 141 64 0 dX12_week_194 cf_X12 ff_X12_414 rfl sh_141 rfl (by decide) (v := (w_83 141 64)) rfl (s_aload_n dX12_week_197 0 rfl rfl (n_getc (q := 158) 141 26 168 dX12_week_198 cf_X12 ff_X12_58 rfl sh_141 rfl (by decide) rfl (by decide) (s_iload_n dX12_week_201 1 rfl (n_iald 158 dX12_week_202 rfl sh_158 (by decide) ⟨(by omega), (by omega)⟩ (v := (w_83 158 i)) rfl (s_icmp_le 223 dX12_week_203 (by decide) (fun c_203 => ?_) (fun c_203 => ?_)))))))
                · skip
                  refine s_iconst dX12_week_223 (by decide) (n_add (z := (((w_83 167 (seM u2 i)) + (3 * (w_83 158 i))) + 0)) dX12_week_224 (wr_id (by omega) (by omega)) (s_i2l dX12_week_225 (n_lsub (z := ((w_83 163 i) - (((w_83 167 (seM u2 i)) + (3 * (w_83 158 i))) + 0))) dX12_week_226 (wrL_id (by omega) (by omega)) (s_lastore 163 dX12_week_227 rfl sh_163 (by decide) ⟨(by omega), (by omega)⟩ (s_aload_n dX12_week_228 0 rfl rfl (n_getc (q := 191) 141 76 201 dX12_week_229 cf_X12 ff_X12_162 rfl sh_141 rfl (by decide) rfl (by decide) (s_iload_n dX12_week_232 1 rfl (s_iload dX12_week_233 4 rfl (s_bastore 191 dX12_week_235 rfl sh_191 (by decide) ⟨(by omega), (by omega)⟩ (by first | exact Or.inl rfl | exact Or.inr rfl | exact bi_01 _ | omega) ?_)))))))))
                  refine s_iinc (z := (i + 1)) (ls' := [(0, (2, 141)), (1, (0, (i + 1))), (2, (0, (prM u2 i))), (3, (0, (seM u2 i))), (4, (0, 0))]) dX12_week_236 1 rfl (Nat.le_of_ble_eq_true rfl) (wr_id (by omega) (by omega)) rfl (s_goto 55 dX12_week_239 (by decide) ?_)
                  exact At.keep (ls' := [(0, (2, 141)), (1, (0, (i + 1)))]) [0, 1] rfl (ih (i + 1) (wu (wu (wu (wu w_83 160 i ((w_83 159 i) * (w_83 157 i))) 164 i ((w_83 164 i) + (w_83 159 i))) 163 i ((w_83 163 i) - (((w_83 167 (seM u2 i)) + (3 * (w_83 158 i))) + 0))) 191 i 0) u1 u2 hN1 hW1 hT hS hL hlen (by omega) (hA.step (a := ((w_83 159 i) * (w_83 157 i))) (b1 := ((w_83 164 i) + (w_83 159 i))) (b2 := ((w_83 163 i) - (((w_83 167 (seM u2 i)) + (3 * (w_83 158 i))) + 0))) (c := 0) hi.1 hx (by omega) (by omega) (by
      unfold acM
      rw [hru]
      (repeat' split) <;> (first | omega | (exfalso; omega))) hru.symm (fun k k1 k2 k3 k4 => by repeat (first | rw [wu_ne k1] | rw [wu_ne k2] | rw [wu_ne k3] | rw [wu_ne k4])) (by rw [wu_ne (by decide), wu_ne (by decide), wu_ne (by decide), wu_up]) (by rw [wu_ne (by decide), wu_ne (by decide), wu_up, wu_ne (by decide)]) (by rw [wu_ne (by decide), wu_up, wu_ne (by decide), wu_ne (by decide)]) (by rw [wu_up, wu_ne (by decide), wu_ne (by decide), wu_ne (by decide)])) (by omega))
                · skip
                  refine s_bipush dX12_week_206 (by decide) (s_aload_n dX12_week_208 0 rfl rfl (n_getf 141 64 0 dX12_week_209 cf_X12 ff_X12_414 rfl sh_141 rfl (by decide) (v := (w_83 141 64)) rfl (s_aload_n dX12_week_212 0 rfl rfl (n_getc (q := 158) 141 26 168 dX12_week_213 cf_X12 ff_X12_58 rfl sh_141 rfl (by decide) rfl (by decide) (s_iload_n dX12_week_216 1 rfl (n_iald 158 dX12_week_217 rfl sh_158 (by decide) ⟨(by omega), (by omega)⟩ (v := (w_83 158 i)) rfl (n_sub (z := ((w_83 141 64) - (w_83 158 i))) dX12_week_218 (wr_id (by omega) (by omega)) (n_mul (z := (9 * ((w_83 141 64) - (w_83 158 i)))) dX12_week_219 (wr_id (by omega) (by omega)) (s_goto 224 dX12_week_220 (by decide) ?_)))))))))
                  refine n_add (z := (((w_83 167 (seM u2 i)) + (3 * (w_83 158 i))) + (9 * ((w_83 141 64) - (w_83 158 i))))) dX12_week_224 (wr_id (by omega) (by omega)) (s_i2l dX12_week_225 (n_lsub (z := ((w_83 163 i) - (((w_83 167 (seM u2 i)) + (3 * (w_83 158 i))) + (9 * ((w_83 141 64) - (w_83 158 i)))))) dX12_week_226 (wrL_id (by omega) (by omega)) (s_lastore 163 dX12_week_227 rfl sh_163 (by decide) ⟨(by omega), (by omega)⟩ (s_aload_n dX12_week_228 0 rfl rfl (n_getc (q := 191) 141 76 201 dX12_week_229 cf_X12 ff_X12_162 rfl sh_141 rfl (by decide) rfl (by decide) (s_iload_n dX12_week_232 1 rfl (s_iload dX12_week_233 4 rfl (s_bastore 191 dX12_week_235 rfl sh_191 (by decide) ⟨(by omega), (by omega)⟩ (by first | exact Or.inl rfl | exact Or.inr rfl | exact bi_01 _ | omega) (s_iinc (z := (i + 1)) (ls' := [(0, (2, 141)), (1, (0, (i + 1))), (2, (0, (prM u2 i))), (3, (0, (seM u2 i))), (4, (0, 0))]) dX12_week_236 1 rfl (Nat.le_of_ble_eq_true rfl) (wr_id (by omega) (by omega)) rfl ?_)))))))))
                  refine s_goto 55 dX12_week_239 (by decide) ?_
                  exact At.keep (ls' := [(0, (2, 141)), (1, (0, (i + 1)))]) [0, 1] rfl (ih (i + 1) (wu (wu (wu (wu w_83 160 i ((w_83 159 i) * (w_83 157 i))) 164 i ((w_83 164 i) + (w_83 159 i))) 163 i ((w_83 163 i) - (((w_83 167 (seM u2 i)) + (3 * (w_83 158 i))) + (9 * ((w_83 141 64) - (w_83 158 i)))))) 191 i 0) u1 u2 hN1 hW1 hT hS hL hlen (by omega) (hA.step (a := ((w_83 159 i) * (w_83 157 i))) (b1 := ((w_83 164 i) + (w_83 159 i))) (b2 := ((w_83 163 i) - (((w_83 167 (seM u2 i)) + (3 * (w_83 158 i))) + (9 * ((w_83 141 64) - (w_83 158 i)))))) (c := 0) hi.1 hx (by omega) (by omega) (by
      unfold acM
      rw [hru]
      (repeat' split) <;> (first | omega | (exfalso; omega))) hru.symm (fun k k1 k2 k3 k4 => by repeat (first | rw [wu_ne k1] | rw [wu_ne k2] | rw [wu_ne k3] | rw [wu_ne k4])) (by rw [wu_ne (by decide), wu_ne (by decide), wu_ne (by decide), wu_up]) (by rw [wu_ne (by decide), wu_ne (by decide), wu_up, wu_ne (by decide)]) (by rw [wu_ne (by decide), wu_up, wu_ne (by decide), wu_ne (by decide)]) (by rw [wu_up, wu_ne (by decide), wu_ne (by decide), wu_ne (by decide)])) (by omega))
            · skip
              refine s_iconst dX12_week_169 (by decide) (s_goto 179 dX12_week_170 (by decide) (s_iconst dX12_week_179 (by decide) (s_aload_n dX12_week_180 0 rfl rfl (n_getc (q := 158) 141 26 168 dX12_week_181 cf_X12 ff_X12_58 rfl sh_141 rfl (by decide) rfl (by decide) (s_iload_n dX12_week_184 1 rfl (n_iald 158 dX12_week_185 rfl sh_158 (by decide) ⟨(by omega), (by omega)⟩ (v := (w_83 158 i)) rfl (n_mul (z := (3 * (w_83 158 i))) dX12_week_186 (wr_id (by omega) (by omega)) (n_add (z := (0 + (3 * (w_83 158 i)))) dX12_week_187 (wr_id (by omega) (by omega)) (s_iload_n dX12_week_188 2 rfl ?_)))))))))
              refine s_iconst dX12_week_189 (by decide) (s_icmp_eq 223 dX12_week_190 (by decide) (fun c_190 => ?_) (fun c_190 => ?_))
              · skip
                exfalso
                omega
              · skip
                skip
                refine s_aload_n dX12_week_193 0 rfl rfl (n_getf 141 64 0 dX12_week_194 cf_X12 ff_X12_414 rfl sh_141 rfl (by decide) (v := (w_83 141 64)) rfl (s_aload_n dX12_week_197 0 rfl rfl (n_getc (q := 158) 141 26 168 dX12_week_198 cf_X12 ff_X12_58 rfl sh_141 rfl (by decide) rfl (by decide) (s_iload_n dX12_week_201 1 rfl (n_iald 158 dX12_week_202 rfl sh_158 (by decide) ⟨(by omega), (by omega)⟩ (v := (w_83 158 i)) rfl (s_icmp_le 223 dX12_week_203 (by decide) (fun c_203 => ?_) (fun c_203 => ?_)))))))
                · skip
                  refine s_iconst dX12_week_223 (by decide) (n_add (z := ((0 + (3 * (w_83 158 i))) + 0)) dX12_week_224 (wr_id (by omega) (by omega)) (s_i2l dX12_week_225 (n_lsub (z := ((w_83 163 i) - ((0 + (3 * (w_83 158 i))) + 0))) dX12_week_226 (wrL_id (by omega) (by omega)) (s_lastore 163 dX12_week_227 rfl sh_163 (by decide) ⟨(by omega), (by omega)⟩ (s_aload_n dX12_week_228 0 rfl rfl (n_getc (q := 191) 141 76 201 dX12_week_229 cf_X12 ff_X12_162 rfl sh_141 rfl (by decide) rfl (by decide) (s_iload_n dX12_week_232 1 rfl (s_iload dX12_week_233 4 rfl (s_bastore 191 dX12_week_235 rfl sh_191 (by decide) ⟨(by omega), (by omega)⟩ (by first | exact Or.inl rfl | exact Or.inr rfl | exact bi_01 _ | omega) ?_)))))))))
                  refine s_iinc (z := (i + 1)) (ls' := [(0, (2, 141)), (1, (0, (i + 1))), (2, (0, (prM u2 i))), (3, (0, (seM u2 i))), (4, (0, 0))]) dX12_week_236 1 rfl (Nat.le_of_ble_eq_true rfl) (wr_id (by omega) (by omega)) rfl (s_goto 55 dX12_week_239 (by decide) ?_)
                  exact At.keep (ls' := [(0, (2, 141)), (1, (0, (i + 1)))]) [0, 1] rfl (ih (i + 1) (wu (wu (wu (wu w_83 160 i ((w_83 159 i) * (w_83 157 i))) 164 i ((w_83 164 i) + (w_83 159 i))) 163 i ((w_83 163 i) - ((0 + (3 * (w_83 158 i))) + 0))) 191 i 0) u1 u2 hN1 hW1 hT hS hL hlen (by omega) (hA.step (a := ((w_83 159 i) * (w_83 157 i))) (b1 := ((w_83 164 i) + (w_83 159 i))) (b2 := ((w_83 163 i) - ((0 + (3 * (w_83 158 i))) + 0))) (c := 0) hi.1 hx (by omega) (by omega) (by
      unfold acM
      rw [hru]
      (repeat' split) <;> (first | omega | (exfalso; omega))) hru.symm (fun k k1 k2 k3 k4 => by repeat (first | rw [wu_ne k1] | rw [wu_ne k2] | rw [wu_ne k3] | rw [wu_ne k4])) (by rw [wu_ne (by decide), wu_ne (by decide), wu_ne (by decide), wu_up]) (by rw [wu_ne (by decide), wu_ne (by decide), wu_up, wu_ne (by decide)]) (by rw [wu_ne (by decide), wu_up, wu_ne (by decide), wu_ne (by decide)]) (by rw [wu_up, wu_ne (by decide), wu_ne (by decide), wu_ne (by decide)])) (by omega))
                · skip
                  refine s_bipush dX12_week_206 (by decide) (s_aload_n dX12_week_208 0 rfl rfl (n_getf 141 64 0 dX12_week_209 cf_X12 ff_X12_414 rfl sh_141 rfl (by decide) (v := (w_83 141 64)) rfl (s_aload_n dX12_week_212 0 rfl rfl (n_getc (q := 158) 141 26 168 dX12_week_213 cf_X12 ff_X12_58 rfl sh_141 rfl (by decide) rfl (by decide) (s_iload_n dX12_week_216 1 rfl (n_iald 158 dX12_week_217 rfl sh_158 (by decide) ⟨(by omega), (by omega)⟩ (v := (w_83 158 i)) rfl (n_sub (z := ((w_83 141 64) - (w_83 158 i))) dX12_week_218 (wr_id (by omega) (by omega)) (n_mul (z := (9 * ((w_83 141 64) - (w_83 158 i)))) dX12_week_219 (wr_id (by omega) (by omega)) (s_goto 224 dX12_week_220 (by decide) ?_)))))))))
                  refine n_add (z := ((0 + (3 * (w_83 158 i))) + (9 * ((w_83 141 64) - (w_83 158 i))))) dX12_week_224 (wr_id (by omega) (by omega)) (s_i2l dX12_week_225 (n_lsub (z := ((w_83 163 i) - ((0 + (3 * (w_83 158 i))) + (9 * ((w_83 141 64) - (w_83 158 i)))))) dX12_week_226 (wrL_id (by omega) (by omega)) (s_lastore 163 dX12_week_227 rfl sh_163 (by decide) ⟨(by omega), (by omega)⟩ (s_aload_n dX12_week_228 0 rfl rfl (n_getc (q := 191) 141 76 201 dX12_week_229 cf_X12 ff_X12_162 rfl sh_141 rfl (by decide) rfl (by decide) (s_iload_n dX12_week_232 1 rfl (s_iload dX12_week_233 4 rfl (s_bastore 191 dX12_week_235 rfl sh_191 (by decide) ⟨(by omega), (by omega)⟩ (by first | exact Or.inl rfl | exact Or.inr rfl | exact bi_01 _ | omega) (s_iinc (z := (i + 1)) (ls' := [(0, (2, 141)), (1, (0, (i + 1))), (2, (0, (prM u2 i))), (3, (0, (seM u2 i))), (4, (0, 0))]) dX12_week_236 1 rfl (Nat.le_of_ble_eq_true rfl) (wr_id (by omega) (by omega)) rfl ?_)))))))))
                  refine s_goto 55 dX12_week_239 (by decide) ?_
                  exact At.keep (ls' := [(0, (2, 141)), (1, (0, (i + 1)))]) [0, 1] rfl (ih (i + 1) (wu (wu (wu (wu w_83 160 i ((w_83 159 i) * (w_83 157 i))) 164 i ((w_83 164 i) + (w_83 159 i))) 163 i ((w_83 163 i) - ((0 + (3 * (w_83 158 i))) + (9 * ((w_83 141 64) - (w_83 158 i)))))) 191 i 0) u1 u2 hN1 hW1 hT hS hL hlen (by omega) (hA.step (a := ((w_83 159 i) * (w_83 157 i))) (b1 := ((w_83 164 i) + (w_83 159 i))) (b2 := ((w_83 163 i) - ((0 + (3 * (w_83 158 i))) + (9 * ((w_83 141 64) - (w_83 158 i)))))) (c := 0) hi.1 hx (by omega) (by omega) (by
      unfold acM
      rw [hru]
      (repeat' split) <;> (first | omega | (exfalso; omega))) hru.symm (fun k k1 k2 k3 k4 => by repeat (first | rw [wu_ne k1] | rw [wu_ne k2] | rw [wu_ne k3] | rw [wu_ne k4])) (by rw [wu_ne (by decide), wu_ne (by decide), wu_ne (by decide), wu_up]) (by rw [wu_ne (by decide), wu_ne (by decide), wu_up, wu_ne (by decide)]) (by rw [wu_ne (by decide), wu_up, wu_ne (by decide), wu_ne (by decide)]) (by rw [wu_up, wu_ne (by decide), wu_ne (by decide), wu_ne (by decide)])) (by omega))
          · skip
            refine s_iconst dX12_week_89 (by decide) (s_goto 94 dX12_week_90 (by decide) (s_istore (ls' := [(0, (2, 141)), (1, (0, i)), (2, (0, (prM u2 i))), (3, (0, (seM u2 i))), (4, (0, 1))]) dX12_week_94 (Nat.le_of_ble_eq_true rfl) rfl ?_))
            have hx : FrM3 v9 w_83 := hF83
            have m : ∀ k, (k = 159 ∨ k = 157 ∨ k = 158 ∨ k = 167) → w_83 k = u2 k := fun k hk => (hx.1 k (by omega) (by omega) (by omega)).trans (hA.1 k (by omega) (by omega) (by omega) (by omega) (by omega) (by omega) (by omega))
            have e159 : w_83 159 i = u2 159 i := by rw [m 159 (by omega)]
            have e157 : w_83 157 i = w 157 i := by rw [m 157 (by omega), hV1.1 157 (by unfold kV; omega)]
            have e158 : w_83 158 i = w 158 i := by rw [m 158 (by omega), hV1.1 158 (by unfold kV; omega)]
            have f157 : u2 157 i = w 157 i := by rw [hV1.1 157 (by unfold kV; omega)]
            have f158 : u2 158 i = w 158 i := by rw [hV1.1 158 (by unfold kV; omega)]
            have e164 : w_83 164 i = w 164 i := by rw [hx.1 164 (by decide) (by decide) (by decide), hA.2.2.2.1]; show (if 0 ≤ i ∧ i < i then _ else u2 164 i) = _; rw [if_neg (by omega), hT.1 164 (by decide) (by decide) (by decide) (by decide) (by decide), hN1.1 164 (by decide) (by decide) (by decide) (by decide)]
            have e163 : w_83 163 i = w 163 i := by rw [hx.1 163 (by decide) (by decide) (by decide), hA.2.2.2.2.1]; show (if 0 ≤ i ∧ i < i then _ else u2 163 i) = _; rw [if_neg (by omega), hT.1 163 (by decide) (by decide) (by decide) (by decide) (by decide), hN1.1 163 (by decide) (by decide) (by decide) (by decide)]
            have f164 : u2 164 i = w 164 i := by rw [hT.1 164 (by decide) (by decide) (by decide) (by decide) (by decide), hN1.1 164 (by decide) (by decide) (by decide) (by decide)]
            have f163 : u2 163 i = w 163 i := by rw [hT.1 163 (by decide) (by decide) (by decide) (by decide) (by decide), hN1.1 163 (by decide) (by decide) (by decide) (by decide)]
            have hmul := mul_bd (x := w_83 159 i) (y := w_83 157 i) (X := 6993) (Y := 99) ⟨by omega, by omega⟩ ⟨by omega, by omega⟩
            have hmu2 : u2 159 i * u2 157 i = w_83 159 i * w_83 157 i := by rw [e159, e157, f157]
            have hru : ruM u2 LN i = 1 := by
              unfold ruM
              first
              | (rw [if_pos (by omega)]; done)
              | (rw [if_neg (by omega), if_pos (by omega)]; done)
              | (rw [if_neg (by omega), if_neg (by omega)])
            refine s_aload_n dX12_week_96 0 rfl rfl (n_getc (q := 160) 141 28 170 dX12_week_97 cf_X12 ff_X12_64 rfl sh_141 rfl (by decide) rfl (by decide) (s_iload_n dX12_week_100 1 rfl (s_aload_n dX12_week_101 0 rfl rfl (n_getc (q := 159) 141 27 169 dX12_week_102 cf_X12 ff_X12_61 rfl sh_141 rfl (by decide) rfl (by decide) (s_iload_n dX12_week_105 1 rfl (n_iald 159 dX12_week_106 rfl sh_159 (by decide) ⟨(by omega), (by omega)⟩ (v := (w_83 159 i)) rfl (s_aload_n dX12_week_107 0 rfl rfl (n_getc (q := 157) 141 25 167 dX12_week_108 cf_X12 ff_X12_55 rfl sh_141 rfl (by decide) rfl (by decide) (s_iload_n dX12_week_111 1 rfl ?_)))))))))
            refine n_iald 157 dX12_week_112 rfl sh_157 (by decide) ⟨(by omega), (by omega)⟩ (v := (w_83 157 i)) rfl (n_mul (z := ((w_83 159 i) * (w_83 157 i))) dX12_week_113 (wr_id (by omega) (by omega)) (s_iastore 160 dX12_week_114 rfl sh_160 (by decide) ⟨(by omega), (by omega)⟩ (s_aload_n dX12_week_115 0 rfl rfl (n_getc (q := 164) 141 32 174 dX12_week_116 cf_X12 ff_X12_77 rfl sh_141 rfl (by decide) rfl (by decide) (s_iload_n dX12_week_119 1 rfl (s_dup2 dX12_week_120 (show (0 : Nat) ≠ 1 by decide) (show (2 : Nat) ≠ 1 by decide) (n_lald 164 dX12_week_121 rfl sh_164 (by decide) ⟨(by omega), (by omega)⟩ (v := (w_83 164 i)) rfl (s_aload_n dX12_week_122 0 rfl rfl (n_getc (q := 159) 141 27 169 dX12_week_123 cf_X12 ff_X12_61 rfl sh_141 rfl (by decide) rfl (by decide) ?_)))))))))
            refine s_iload_n dX12_week_126 1 rfl (n_iald 159 dX12_week_127 rfl sh_159 (by decide) ⟨(by omega), (by omega)⟩ (v := (w_83 159 i)) rfl (s_i2l dX12_week_128 (n_ladd (z := ((w_83 164 i) + (w_83 159 i))) dX12_week_129 (wrL_id (by omega) (by omega)) (s_lastore 164 dX12_week_130 rfl sh_164 (by decide) ⟨(by omega), (by omega)⟩ (s_iload dX12_week_131 4 rfl (s_if_eq 157 dX12_week_133 (by decide) (kt := fun c => absurd c (by decide)) (kf := fun _ => s_aload_n dX12_week_136 0 rfl rfl (n_getc (q := 163) 141 31 173 dX12_week_137 cf_X12 ff_X12_73 rfl sh_141 rfl (by decide) rfl (by decide) (s_iload_n dX12_week_140 1 rfl ?_)))))))))
            refine s_dup2 dX12_week_141 (show (0 : Nat) ≠ 1 by decide) (show (2 : Nat) ≠ 1 by decide) (n_lald 163 dX12_week_142 rfl sh_163 (by decide) ⟨(by omega), (by omega)⟩ (v := (w_83 163 i)) rfl (s_aload_n dX12_week_143 0 rfl rfl (n_getc (q := 160) 141 28 170 dX12_week_144 cf_X12 ff_X12_64 rfl sh_141 rfl (by decide) rfl (by decide) (s_iload_n dX12_week_147 1 rfl (n_iald 160 dX12_week_148 rfl sh_160 (by decide) ⟨(by omega), (by omega)⟩ (v := ((w_83 159 i) * (w_83 157 i))) (by simp [wu]) (s_aload_n dX12_week_149 0 rfl rfl (n_getf 141 63 0 dX12_week_150 cf_X12 ff_X12_411 rfl sh_141 rfl (by decide) (v := (w_83 141 63)) rfl (n_sub (z := (((w_83 159 i) * (w_83 157 i)) - (w_83 141 63))) dX12_week_153 (wr_id (by omega) (by omega)) (s_i2l dX12_week_154 ?_)))))))))
            refine n_ladd (z := ((w_83 163 i) + (((w_83 159 i) * (w_83 157 i)) - (w_83 141 63)))) dX12_week_155 (wrL_id (by omega) (by omega)) (s_lastore 163 dX12_week_156 rfl sh_163 (by decide) ⟨(by omega), (by omega)⟩ (s_aload_n dX12_week_157 0 rfl rfl (n_getc (q := 163) 141 31 173 dX12_week_158 cf_X12 ff_X12_73 rfl sh_141 rfl (by decide) rfl (by decide) (s_iload_n dX12_week_161 1 rfl (s_dup2 dX12_week_162 (show (0 : Nat) ≠ 1 by decide) (show (2 : Nat) ≠ 1 by decide) (n_lald 163 dX12_week_163 rfl sh_163 (by decide) ⟨(by omega), (by omega)⟩ (v := ((w_83 163 i) + (((w_83 159 i) * (w_83 157 i)) - (w_83 141 63)))) (by simp [wu]) (s_iload_n dX12_week_164 3 rfl (s_iconst dX12_week_165 (by decide) (s_icmp_ne 173 dX12_week_166 (by decide) (fun c_166 => ?_) (fun c_166 => ?_))))))))))
            · skip
              have hse9 : seM u2 i ≠ -1 := by omega
              have hhi9 := hhi (seM u2 i) (by omega) (by omega)
              have e167 : w_83 167 (seM u2 i) = w 167 (seM u2 i) := by rw [m 167 (by omega), hV1.1 167 (by unfold kV; omega)]
              have f167 : u2 167 (seM u2 i) = w 167 (seM u2 i) := by rw [hV1.1 167 (by unfold kV; omega)]
              refine s_aload_n dX12_week_173 0 rfl rfl (n_getc (q := 167) 141 35 177 dX12_week_174 cf_X12 ff_X12_86 rfl sh_141 rfl (by decide) rfl (by decide) (s_iload_n dX12_week_177 3 rfl (n_iald 167 dX12_week_178 rfl sh_167 (by decide) ⟨(by omega), (by omega)⟩ (v := (w_83 167 (seM u2 i))) rfl (s_iconst dX12_week_179 (by decide) (s_aload_n dX12_week_180 0 rfl rfl (n_getc (q := 158) 141 26 168 dX12_week_181 cf_X12 ff_X12_58 rfl sh_141 rfl (by decide) rfl (by decide) (s_iload_n dX12_week_184 1 rfl (n_iald 158 dX12_week_185 rfl sh_158 (by decide) ⟨(by omega), (by omega)⟩ (v := (w_83 158 i)) rfl (n_mul (z := (3 * (w_83 158 i))) dX12_week_186 (wr_id (by omega) (by omega)) ?_)))))))))
              refine n_add (z := ((w_83 167 (seM u2 i)) + (3 * (w_83 158 i)))) dX12_week_187 (wr_id (by omega) (by omega)) (s_iload_n dX12_week_188 2 rfl (s_iconst dX12_week_189 (by decide) (s_icmp_eq 223 dX12_week_190 (by decide) (fun c_190 => ?_) (fun c_190 => ?_))))
              · skip
                exfalso
                omega
              · skip
                skip
                refine s_aload_n dX12_week_193 0 rfl rfl (n_getf 141 64 0 dX12_week_194 cf_X12 ff_X12_414 rfl sh_141 rfl (by decide) (v := (w_83 141 64)) rfl (s_aload_n dX12_week_197 0 rfl rfl (n_getc (q := 158) 141 26 168 dX12_week_198 cf_X12 ff_X12_58 rfl sh_141 rfl (by decide) rfl (by decide) (s_iload_n dX12_week_201 1 rfl (n_iald 158 dX12_week_202 rfl sh_158 (by decide) ⟨(by omega), (by omega)⟩ (v := (w_83 158 i)) rfl (s_icmp_le 223 dX12_week_203 (by decide) (fun c_203 => ?_) (fun c_203 => ?_)))))))
                · skip
                  refine s_iconst dX12_week_223 (by decide) (n_add (z := (((w_83 167 (seM u2 i)) + (3 * (w_83 158 i))) + 0)) dX12_week_224 (wr_id (by omega) (by omega)) (s_i2l dX12_week_225 (n_lsub (z := (((w_83 163 i) + (((w_83 159 i) * (w_83 157 i)) - (w_83 141 63))) - (((w_83 167 (seM u2 i)) + (3 * (w_83 158 i))) + 0))) dX12_week_226 (wrL_id (by omega) (by omega)) (s_lastore 163 dX12_week_227 rfl sh_163 (by decide) ⟨(by omega), (by omega)⟩ (s_aload_n dX12_week_228 0 rfl rfl (n_getc (q := 191) 141 76 201 dX12_week_229 cf_X12 ff_X12_162 rfl sh_141 rfl (by decide) rfl (by decide) (s_iload_n dX12_week_232 1 rfl (s_iload dX12_week_233 4 rfl (s_bastore 191 dX12_week_235 rfl sh_191 (by decide) ⟨(by omega), (by omega)⟩ (by first | exact Or.inl rfl | exact Or.inr rfl | exact bi_01 _ | omega) ?_)))))))))
                  refine s_iinc (z := (i + 1)) (ls' := [(0, (2, 141)), (1, (0, (i + 1))), (2, (0, (prM u2 i))), (3, (0, (seM u2 i))), (4, (0, 1))]) dX12_week_236 1 rfl (Nat.le_of_ble_eq_true rfl) (wr_id (by omega) (by omega)) rfl (s_goto 55 dX12_week_239 (by decide) ?_)
                  exact At.keep (ls' := [(0, (2, 141)), (1, (0, (i + 1)))]) [0, 1] rfl (ih (i + 1) (wu (wu (wu (wu (wu w_83 160 i ((w_83 159 i) * (w_83 157 i))) 164 i ((w_83 164 i) + (w_83 159 i))) 163 i ((w_83 163 i) + (((w_83 159 i) * (w_83 157 i)) - (w_83 141 63)))) 163 i (((w_83 163 i) + (((w_83 159 i) * (w_83 157 i)) - (w_83 141 63))) - (((w_83 167 (seM u2 i)) + (3 * (w_83 158 i))) + 0))) 191 i 1) u1 u2 hN1 hW1 hT hS hL hlen (by omega) (hA.step (a := ((w_83 159 i) * (w_83 157 i))) (b1 := ((w_83 164 i) + (w_83 159 i))) (b2 := (((w_83 163 i) + (((w_83 159 i) * (w_83 157 i)) - (w_83 141 63))) - (((w_83 167 (seM u2 i)) + (3 * (w_83 158 i))) + 0))) (c := 1) hi.1 hx (by omega) (by omega) (by
      unfold acM
      rw [hru]
      (repeat' split) <;> (first | omega | (exfalso; omega))) hru.symm (fun k k1 k2 k3 k4 => by repeat (first | rw [wu_ne k1] | rw [wu_ne k2] | rw [wu_ne k3] | rw [wu_ne k4])) (by rw [wu_ne (by decide), wu_ne (by decide), wu_ne (by decide), wu_ne (by decide), wu_up]) (by rw [wu_ne (by decide), wu_ne (by decide), wu_ne (by decide), wu_up, wu_ne (by decide)]) (by rw [wu_ne (by decide), wu_up, wu_up, updF2, wu_ne (by decide), wu_ne (by decide)]) (by rw [wu_up, wu_ne (by decide), wu_ne (by decide), wu_ne (by decide), wu_ne (by decide)])) (by omega))
                · skip
                  refine s_bipush dX12_week_206 (by decide) (s_aload_n dX12_week_208 0 rfl rfl (n_getf 141 64 0 dX12_week_209 cf_X12 ff_X12_414 rfl sh_141 rfl (by decide) (v := (w_83 141 64)) rfl (s_aload_n dX12_week_212 0 rfl rfl (n_getc (q := 158) 141 26 168 dX12_week_213 cf_X12 ff_X12_58 rfl sh_141 rfl (by decide) rfl (by decide) (s_iload_n dX12_week_216 1 rfl (n_iald 158 dX12_week_217 rfl sh_158 (by decide) ⟨(by omega), (by omega)⟩ (v := (w_83 158 i)) rfl (n_sub (z := ((w_83 141 64) - (w_83 158 i))) dX12_week_218 (wr_id (by omega) (by omega)) (n_mul (z := (9 * ((w_83 141 64) - (w_83 158 i)))) dX12_week_219 (wr_id (by omega) (by omega)) (s_goto 224 dX12_week_220 (by decide) ?_)))))))))
                  refine n_add (z := (((w_83 167 (seM u2 i)) + (3 * (w_83 158 i))) + (9 * ((w_83 141 64) - (w_83 158 i))))) dX12_week_224 (wr_id (by omega) (by omega)) (s_i2l dX12_week_225 (n_lsub (z := (((w_83 163 i) + (((w_83 159 i) * (w_83 157 i)) - (w_83 141 63))) - (((w_83 167 (seM u2 i)) + (3 * (w_83 158 i))) + (9 * ((w_83 141 64) - (w_83 158 i)))))) dX12_week_226 (wrL_id (by omega) (by omega)) (s_lastore 163 dX12_week_227 rfl sh_163 (by decide) ⟨(by omega), (by omega)⟩ (s_aload_n dX12_week_228 0 rfl rfl (n_getc (q := 191) 141 76 201 dX12_week_229 cf_X12 ff_X12_162 rfl sh_141 rfl (by decide) rfl (by decide) (s_iload_n dX12_week_232 1 rfl (s_iload dX12_week_233 4 rfl (s_bastore 191 dX12_week_235 rfl sh_191 (by decide) ⟨(by omega), (by omega)⟩ (by first | exact Or.inl rfl | exact Or.inr rfl | exact bi_01 _ | omega) (s_iinc (z := (i + 1)) (ls' := [(0, (2, 141)), (1, (0, (i + 1))), (2, (0, (prM u2 i))), (3, (0, (seM u2 i))), (4, (0, 1))]) dX12_week_236 1 rfl (Nat.le_of_ble_eq_true rfl) (wr_id (by omega) (by omega)) rfl ?_)))))))))
                  refine s_goto 55 dX12_week_239 (by decide) ?_
                  exact At.keep (ls' := [(0, (2, 141)), (1, (0, (i + 1)))]) [0, 1] rfl (ih (i + 1) (wu (wu (wu (wu (wu w_83 160 i ((w_83 159 i) * (w_83 157 i))) 164 i ((w_83 164 i) + (w_83 159 i))) 163 i ((w_83 163 i) + (((w_83 159 i) * (w_83 157 i)) - (w_83 141 63)))) 163 i (((w_83 163 i) + (((w_83 159 i) * (w_83 157 i)) - (w_83 141 63))) - (((w_83 167 (seM u2 i)) + (3 * (w_83 158 i))) + (9 * ((w_83 141 64) - (w_83 158 i)))))) 191 i 1) u1 u2 hN1 hW1 hT hS hL hlen (by omega) (hA.step (a := ((w_83 159 i) * (w_83 157 i))) (b1 := ((w_83 164 i) + (w_83 159 i))) (b2 := (((w_83 163 i) + (((w_83 159 i) * (w_83 157 i)) - (w_83 141 63))) - (((w_83 167 (seM u2 i)) + (3 * (w_83 158 i))) + (9 * ((w_83 141 64) - (w_83 158 i)))))) (c := 1) hi.1 hx (by omega) (by omega) (by
      unfold acM
      rw [hru]
      (repeat' split) <;> (first | omega | (exfalso; omega))) hru.symm (fun k k1 k2 k3 k4 => by repeat (first | rw [wu_ne k1] | rw [wu_ne k2] | rw [wu_ne k3] | rw [wu_ne k4])) (by rw [wu_ne (by decide), wu_ne (by decide), wu_ne (by decide), wu_ne (by decide), wu_up]) (by rw [wu_ne (by decide), wu_ne (by decide), wu_ne (by decide), wu_up, wu_ne (by decide)]) (by rw [wu_ne (by decide), wu_up, wu_up, updF2, wu_ne (by decide), wu_ne (by decide)]) (by rw [wu_up, wu_ne (by decide), wu_ne (by decide), wu_ne (by decide), wu_ne (by decide)])) (by omega))
            · skip
              refine s_iconst dX12_week_169 (by decide) (s_goto 179 dX12_week_170 (by decide) (s_iconst dX12_week_179 (by decide) (s_aload_n dX12_week_180 0 rfl rfl (n_getc (q := 158) 141 26 168 dX12_week_181 cf_X12 ff_X12_58 rfl sh_141 rfl (by decide) rfl (by decide) (s_iload_n dX12_week_184 1 rfl (n_iald 158 dX12_week_185 rfl sh_158 (by decide) ⟨(by omega), (by omega)⟩ (v := (w_83 158 i)) rfl (n_mul (z := (3 * (w_83 158 i))) dX12_week_186 (wr_id (by omega) (by omega)) (n_add (z := (0 + (3 * (w_83 158 i)))) dX12_week_187 (wr_id (by omega) (by omega)) (s_iload_n dX12_week_188 2 rfl ?_)))))))))
              refine s_iconst dX12_week_189 (by decide) (s_icmp_eq 223 dX12_week_190 (by decide) (fun c_190 => ?_) (fun c_190 => ?_))
              · skip
                exfalso
                omega
              · skip
                skip
                refine s_aload_n dX12_week_193 0 rfl rfl (n_getf 141 64 0 dX12_week_194 cf_X12 ff_X12_414 rfl sh_141 rfl (by decide) (v := (w_83 141 64)) rfl (s_aload_n dX12_week_197 0 rfl rfl (n_getc (q := 158) 141 26 168 dX12_week_198 cf_X12 ff_X12_58 rfl sh_141 rfl (by decide) rfl (by decide) (s_iload_n dX12_week_201 1 rfl (n_iald 158 dX12_week_202 rfl sh_158 (by decide) ⟨(by omega), (by omega)⟩ (v := (w_83 158 i)) rfl (s_icmp_le 223 dX12_week_203 (by decide) (fun c_203 => ?_) (fun c_203 => ?_)))))))
                · skip
                  refine s_iconst dX12_week_223 (by decide) (n_add (z := ((0 + (3 * (w_83 158 i))) + 0)) dX12_week_224 (wr_id (by omega) (by omega)) (s_i2l dX12_week_225 (n_lsub (z := (((w_83 163 i) + (((w_83 159 i) * (w_83 157 i)) - (w_83 141 63))) - ((0 + (3 * (w_83 158 i))) + 0))) dX12_week_226 (wrL_id (by omega) (by omega)) (s_lastore 163 dX12_week_227 rfl sh_163 (by decide) ⟨(by omega), (by omega)⟩ (s_aload_n dX12_week_228 0 rfl rfl (n_getc (q := 191) 141 76 201 dX12_week_229 cf_X12 ff_X12_162 rfl sh_141 rfl (by decide) rfl (by decide) (s_iload_n dX12_week_232 1 rfl (s_iload dX12_week_233 4 rfl (s_bastore 191 dX12_week_235 rfl sh_191 (by decide) ⟨(by omega), (by omega)⟩ (by first | exact Or.inl rfl | exact Or.inr rfl | exact bi_01 _ | omega) ?_)))))))))
                  refine s_iinc (z := (i + 1)) (ls' := [(0, (2, 141)), (1, (0, (i + 1))), (2, (0, (prM u2 i))), (3, (0, (seM u2 i))), (4, (0, 1))]) dX12_week_236 1 rfl (Nat.le_of_ble_eq_true rfl) (wr_id (by omega) (by omega)) rfl (s_goto 55 dX12_week_239 (by decide) ?_)
                  exact At.keep (ls' := [(0, (2, 141)), (1, (0, (i + 1)))]) [0, 1] rfl (ih (i + 1) (wu (wu (wu (wu (wu w_83 160 i ((w_83 159 i) * (w_83 157 i))) 164 i ((w_83 164 i) + (w_83 159 i))) 163 i ((w_83 163 i) + (((w_83 159 i) * (w_83 157 i)) - (w_83 141 63)))) 163 i (((w_83 163 i) + (((w_83 159 i) * (w_83 157 i)) - (w_83 141 63))) - ((0 + (3 * (w_83 158 i))) + 0))) 191 i 1) u1 u2 hN1 hW1 hT hS hL hlen (by omega) (hA.step (a := ((w_83 159 i) * (w_83 157 i))) (b1 := ((w_83 164 i) + (w_83 159 i))) (b2 := (((w_83 163 i) + (((w_83 159 i) * (w_83 157 i)) - (w_83 141 63))) - ((0 + (3 * (w_83 158 i))) + 0))) (c := 1) hi.1 hx (by omega) (by omega) (by
      unfold acM
      rw [hru]
      (repeat' split) <;> (first | omega | (exfalso; omega))) hru.symm (fun k k1 k2 k3 k4 => by repeat (first | rw [wu_ne k1] | rw [wu_ne k2] | rw [wu_ne k3] | rw [wu_ne k4])) (by rw [wu_ne (by decide), wu_ne (by decide), wu_ne (by decide), wu_ne (by decide), wu_up]) (by rw [wu_ne (by decide), wu_ne (by decide), wu_ne (by decide), wu_up, wu_ne (by decide)]) (by rw [wu_ne (by decide), wu_up, wu_up, updF2, wu_ne (by decide), wu_ne (by decide)]) (by rw [wu_up, wu_ne (by decide), wu_ne (by decide), wu_ne (by decide), wu_ne (by decide)])) (by omega))
                · skip
                  refine s_bipush dX12_week_206 (by decide) (s_aload_n dX12_week_208 0 rfl rfl (n_getf 141 64 0 dX12_week_209 cf_X12 ff_X12_414 rfl sh_141 rfl (by decide) (v := (w_83 141 64)) rfl (s_aload_n dX12_week_212 0 rfl rfl (n_getc (q := 158) 141 26 168 dX12_week_213 cf_X12 ff_X12_58 rfl sh_141 rfl (by decide) rfl (by decide) (s_iload_n dX12_week_216 1 rfl (n_iald 158 dX12_week_217 rfl sh_158 (by decide) ⟨(by omega), (by omega)⟩ (v := (w_83 158 i)) rfl (n_sub (z := ((w_83 141 64) - (w_83 158 i))) dX12_week_218 (wr_id (by omega) (by omega)) (n_mul (z := (9 * ((w_83 141 64) - (w_83 158 i)))) dX12_week_219 (wr_id (by omega) (by omega)) (s_goto 224 dX12_week_220 (by decide) ?_)))))))))
                  refine n_add (z := ((0 + (3 * (w_83 158 i))) + (9 * ((w_83 141 64) - (w_83 158 i))))) dX12_week_224 (wr_id (by omega) (by omega)) (s_i2l dX12_week_225 (n_lsub (z := (((w_83 163 i) + (((w_83 159 i) * (w_83 157 i)) - (w_83 141 63))) - ((0 + (3 * (w_83 158 i))) + (9 * ((w_83 141 64) - (w_83 158 i)))))) dX12_week_226 (wrL_id (by omega) (by omega)) (s_lastore 163 dX12_week_227 rfl sh_163 (by decide) ⟨(by omega), (by omega)⟩ (s_aload_n dX12_week_228 0 rfl rfl (n_getc (q := 191) 141 76 201 dX12_week_229 cf_X12 ff_X12_162 rfl sh_141 rfl (by decide) rfl (by decide) (s_iload_n dX12_week_232 1 rfl (s_iload dX12_week_233 4 rfl (s_bastore 191 dX12_week_235 rfl sh_191 (by decide) ⟨(by omega), (by omega)⟩ (by first | exact Or.inl rfl | exact Or.inr rfl | exact bi_01 _ | omega) (s_iinc (z := (i + 1)) (ls' := [(0, (2, 141)), (1, (0, (i + 1))), (2, (0, (prM u2 i))), (3, (0, (seM u2 i))), (4, (0, 1))]) dX12_week_236 1 rfl (Nat.le_of_ble_eq_true rfl) (wr_id (by omega) (by omega)) rfl ?_)))))))))
                  refine s_goto 55 dX12_week_239 (by decide) ?_
                  exact At.keep (ls' := [(0, (2, 141)), (1, (0, (i + 1)))]) [0, 1] rfl (ih (i + 1) (wu (wu (wu (wu (wu w_83 160 i ((w_83 159 i) * (w_83 157 i))) 164 i ((w_83 164 i) + (w_83 159 i))) 163 i ((w_83 163 i) + (((w_83 159 i) * (w_83 157 i)) - (w_83 141 63)))) 163 i (((w_83 163 i) + (((w_83 159 i) * (w_83 157 i)) - (w_83 141 63))) - ((0 + (3 * (w_83 158 i))) + (9 * ((w_83 141 64) - (w_83 158 i)))))) 191 i 1) u1 u2 hN1 hW1 hT hS hL hlen (by omega) (hA.step (a := ((w_83 159 i) * (w_83 157 i))) (b1 := ((w_83 164 i) + (w_83 159 i))) (b2 := (((w_83 163 i) + (((w_83 159 i) * (w_83 157 i)) - (w_83 141 63))) - ((0 + (3 * (w_83 158 i))) + (9 * ((w_83 141 64) - (w_83 158 i)))))) (c := 1) hi.1 hx (by omega) (by omega) (by
      unfold acM
      rw [hru]
      (repeat' split) <;> (first | omega | (exfalso; omega))) hru.symm (fun k k1 k2 k3 k4 => by repeat (first | rw [wu_ne k1] | rw [wu_ne k2] | rw [wu_ne k3] | rw [wu_ne k4])) (by rw [wu_ne (by decide), wu_ne (by decide), wu_ne (by decide), wu_ne (by decide), wu_up]) (by rw [wu_ne (by decide), wu_ne (by decide), wu_ne (by decide), wu_up, wu_ne (by decide)]) (by rw [wu_ne (by decide), wu_up, wu_up, updF2, wu_ne (by decide), wu_ne (by decide)]) (by rw [wu_up, wu_ne (by decide), wu_ne (by decide), wu_ne (by decide), wu_ne (by decide)])) (by omega))
  have L_12 : ∀ (fu : Nat) (c : Int) (h : Int) (v9 : Wd), 0 ≤ c ∧ c < w 141 6 → 0 ≤ h ∧ h ≤ w 141 4 → FrN w v9 → WoM w v9 LN c h → (∀ v : Wd, FrN w v → WoM w v LN (c + 1) 0 → AtN mX12_week 8 ρ 43 [(0, (2, 141)), (1, (0, c))] [] v) → (w 141 4 - h).toNat < fu → AtN mX12_week 8 ρ 12 [(0, (2, 141)), (1, (0, c)), (2, (0, h))] [] v9 := by
    intro fu
    induction fu with
    | zero => intro c h v9 hc hh hN hW hK hm; exact absurd hm (Nat.not_lt_zero _)
    | succ fu ih =>
      intro c h v9 hc hh hN hW hK hm
      have q4 : v9 141 4 = w 141 4 := hN.2 4 (by omega)
      have q6 : v9 141 6 = w 141 6 := hN.2 6 (by omega)
      refine s_iload_n dX12_week_12 2 rfl (s_aload_n dX12_week_13 0 rfl rfl (n_getf 141 4 0 dX12_week_14 cf_X12 ff_X12_230 rfl sh_141 rfl (by decide) (v := (v9 141 4)) rfl (s_icmp_ge 43 dX12_week_17 (by decide) (fun c_17 => ?_) (fun c_17 => ?_))))
      · skip
        exact At.keep (ls' := [(0, (2, 141)), (1, (0, c))]) [0, 1] rfl (hK v9 hN (fun c1 h1 a b d e => hW c1 h1 a b d (by omega)))
      · skip
        refine s_aload_n dX12_week_20 0 rfl rfl (n_getc (q := 188) 141 72 198 dX12_week_21 cf_X12 ff_X12_153 rfl sh_141 rfl (by decide) rfl (by decide) (s_bipush dX12_week_24 (by decide) (s_iload_n dX12_week_26 1 rfl (n_mul (z := (16 * c)) dX12_week_27 (wr_id (by omega) (by omega)) (s_iload_n dX12_week_28 2 rfl (n_add (z := ((16 * c) + h)) dX12_week_29 (wr_id (by omega) (by omega)) (s_aload_n dX12_week_30 0 rfl rfl (s_iload_n dX12_week_31 1 rfl (s_iload_n dX12_week_32 2 rfl ?_)))))))))
        refine n_invV' (as := [(0, c), (0, h)]) dX12_week_33 kv_X12_worthOf ml_X12_432 (c_M_worthOf c h v9 LN (hI.v hN.v) ⟨by omega, by omega⟩ ⟨by omega, by omega⟩) (by decide) 141 cf_X12 rfl sh_141 rfl rfl rfl (Nat.le_of_ble_eq_true rfl) ?_
        rintro r_33 w_33 ⟨z_33, rfl, hF33, hz33⟩
        show AtN _ _ ρ _ _ [(0, z_33), (0, ((16 * c) + h)), (2, 188)] w_33
        rw [(halls_v hN.v LN).2.2.2.2] at hz33
        refine s_iastore 188 dX12_week_36 rfl sh_188 (by decide) ⟨(by omega), (by omega)⟩ (s_iinc (z := (h + 1)) (ls' := [(0, (2, 141)), (1, (0, c)), (2, (0, (h + 1)))]) dX12_week_37 2 rfl (Nat.le_of_ble_eq_true rfl) (wr_id (by omega) (by omega)) rfl (s_goto 12 dX12_week_40 (by decide) ?_))
        exact ih c (h + 1) (wu w_33 188 ((16 * c) + h) z_33) (by omega) (by omega) (hN.m hF33).u (fun c1 h1 a b d e => by
  rw [wu_at]
  by_cases e2 : c1 = c ∧ h1 = h
  · rw [if_pos (by omega), hz33, e2.1, e2.2]
  · rw [if_neg (by omega), hF33.1 188 (by decide) (by decide) (by decide)]
    exact hW c1 h1 a b d (by omega)) hK (by omega)
  have L_2 : ∀ (fu : Nat) (c : Int) (v9 : Wd), 0 ≤ c ∧ c ≤ w 141 6 → FrN w v9 → WoM w v9 LN c 0 → (w 141 6 - c).toNat < fu → AtN mX12_week 8 ρ 2 [(0, (2, 141)), (1, (0, c))] [] v9 := by
    intro fu
    induction fu with
    | zero => intro c v9 hc hN hW hm; exact absurd hm (Nat.not_lt_zero _)
    | succ fu ih =>
      intro c v9 hc hN hW hm
      have q4 : v9 141 4 = w 141 4 := hN.2 4 (by omega)
      have q6 : v9 141 6 = w 141 6 := hN.2 6 (by omega)
      have q2 : v9 141 2 = w 141 2 := hN.2 2 (by omega)
      have q156 : v9 156 = w 156 := hN.1 156 (by decide) (by decide) (by decide) (by decide)
      have q184 : v9 184 = w 184 := hN.1 184 (by decide) (by decide) (by decide) (by decide)
      refine s_iload_n dX12_week_2 1 rfl (s_aload_n dX12_week_3 0 rfl rfl (n_getf 141 6 0 dX12_week_4 cf_X12 ff_X12_236 rfl sh_141 rfl (by decide) (v := (v9 141 6)) rfl (s_icmp_ge 49 dX12_week_7 (by decide) (fun c_7 => ?_) (fun c_7 => ?_))))
      · skip
        refine s_aload_n dX12_week_49 0 rfl rfl (n_invV' (as := []) dX12_week_50 kv_X12_goes ml_X12_441 (c_M_goes v9 (by rw [q4]; exact hn) (by rw [q6]; exact hcr) (by rw [q2]; exact hI.2.1) (by rw [q4, q156]; exact fun h a b => (hst h a b).1) (by rw [q6, q184]; exact hmy)) (by decide) 141 cf_X12 rfl sh_141 rfl rfl rfl (Nat.le_of_ble_eq_true rfl) ?_)
        rintro r_50 w_50 ⟨rfl, hT50, hS50⟩
        refine s_iconst dX12_week_53 (by decide) (s_istore_n (ls' := [(0, (2, 141)), (1, (0, 0))]) dX12_week_54 (Nat.le_of_ble_eq_true rfl) rfl ?_)
        exact L_55 _ 0 w_50 v9 w_50 hN (by rw [show w 141 6 = c by omega]; exact hW) hT50 (by rw [← q6]; exact hS50) (by
    have hb := (wkG_bd (W := WMx v9) (cap := capM v9) (pr := v9 157) (many := v9 184) (lk0 := zeF (v9 159) (v9 141 4)) (n := (v9 141 4).toNat) (fun h a b => by unfold zeF; rw [if_pos (by omega)]; have := (hst h a (by omega)).1; show (0 : Int) ≤ 0 ∧ 0 ≤ 7 * v9 156 h; rw [q156]; omega) (v9 141 6).toNat (fun c a b => by rw [q184]; exact hmy c a (by omega))).1
    intro h a b
    have h8 := hb h a (by omega)
    rw [(hS50 0).1]
    have e7 : capM v9 h = 7 * w 156 h := by show 7 * v9 156 h = _; rw [q156]
    rw [e7] at h8
    exact h8) (by
    have hb := (wkG_bd (W := WMx v9) (cap := capM v9) (pr := v9 157) (many := v9 184) (lk0 := zeF (v9 159) (v9 141 4)) (n := (v9 141 4).toNat) (fun h a b => by unfold zeF; rw [if_pos (by omega)]; have := (hst h a (by omega)).1; show (0 : Int) ≤ 0 ∧ 0 ≤ 7 * v9 156 h; rw [q156]; omega) (v9 141 6).toNat (fun c a b => by rw [q184]; exact hmy c a (by omega))).2
    rw [q6] at hb
    have hb2 : ((WKM v9 (w 141 6).toNat).2.length : Int) + opS (capM v9) (WKM v9 (w 141 6).toNat).1 (v9 141 4).toNat ≤ _ := hb
    omega) (by omega) (AccM.z _ _) (Nat.lt_succ_self _)
      · skip
        refine s_iconst dX12_week_10 (by decide) (s_istore_n (ls' := [(0, (2, 141)), (1, (0, c)), (2, (0, 0))]) dX12_week_11 (Nat.le_of_ble_eq_true rfl) rfl ?_)
        exact L_12 _ c 0 v9 (by omega) (by omega) hN hW (fun v f1 f2 => s_iinc (z := (c + 1)) (ls' := [(0, (2, 141)), (1, (0, (c + 1)))]) dX12_week_43 1 rfl (Nat.le_of_ble_eq_true rfl) (wr_id (by omega) (by omega)) rfl (s_goto 2 dX12_week_46 (by decide) (ih (c + 1) v (by omega) f1 f2 (by omega)))) (Nat.lt_succ_self _)
  refine s_iconst dX12_week_0 (by decide) (s_istore_n (ls' := [(0, (2, 141)), (1, (0, 0))]) dX12_week_1 (Nat.le_of_ble_eq_true rfl) rfl ?_)
  exact L_2 _ 0 w (by omega) FrN.rf (fun c1 h1 a b d e => absurd e (by omega)) (Nat.lt_succ_self _)
