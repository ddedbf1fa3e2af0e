/-! m's CLEARS. -/
/-- what party i owes in all, from m's table -/
def owM (f : Int → Int) (i : Int) : Int := sumI (fun j => f (20 * i + j)) 20
/-- what is left to party i, from m's tables -/
def usM (told coin : Int → Int) (n f i : Int) : Int := usV (fun j => told (j + 16)) coin n f i
theorem usM_0 {told coin : Int → Int} {n f i : Int} (h : 16 ≤ i) : usM told coin n f i = (told i * (100 - f)).tdiv 100 := by
  unfold usM usV puV
  rw [if_pos h]
  show (told (i - 16 + 16) * (100 - f)).tdiv 100 = _
  rw [show i - 16 + 16 = i by omega]
theorem usM_1 {told coin : Int → Int} {n f i : Int} (h : ¬ 16 ≤ i) (h1 : i < n) (h2 : 0 < coin i) : usM told coin n f i = (coin i * (100 - f)).tdiv 100 := by
  unfold usM usV puV mxL
  rw [if_neg h, if_pos h1, if_neg (by omega)]
theorem usM_2 {told coin : Int → Int} {n f i : Int} (h : ¬ 16 ≤ i) (h1 : ¬ (i < n ∧ 0 < coin i)) : usM told coin n f i = (0 * (100 - f)).tdiv 100 := by
  unfold usM usV puV mxL
  rw [if_neg h]
  by_cases h2 : i < n
  · rw [if_pos h2, if_pos (by omega)]
  · rw [if_neg h2]
set_option maxRecDepth 100000 in
theorem c_M_clears (f : Int) (w : Wd) (hf : 0 ≤ f ∧ f ≤ 100) (h : 0 ≤ w 141 4 ∧ w 141 4 ≤ 16) (ht : ∀ j, 16 ≤ j → j < 20 → 0 ≤ w 202 j ∧ w 202 j ≤ 99999) (hc : ∀ j, 0 ≤ j → j < w 141 4 → w 163 j ≤ 1000000000000) (hO : ∀ i j, 0 ≤ i → i < 20 → 0 ≤ j → j < 20 → 0 ≤ w 201 (20 * i + j) ∧ w 201 (20 * i + j) ≤ 99999) : CallN 2 mX12_clears [(2, 141), (0, f)] w (RUQ (fun w1 => (∀ k j, k ≠ 203 → k ≠ 204 → k ≠ 205 → k ≠ 206 → k ≠ 207 → ¬ (k = 141 ∧ j = 95) → w1 k j = w k j) ∧ (∀ j, 0 ≤ j → j < 20 → w1 204 j = (cleR (owM (w 201)) (usM (w 202) (w 163) (w 141 4) f) (fun i j => w 201 (20 * i + j)) 300 (owM (w 201)) 0).1 j ∧ w1 207 j = comesS (owM (w 201)) (cleR (owM (w 201)) (usM (w 202) (w 163) (w 141 4) f) (fun i j => w 201 (20 * i + j)) 300 (owM (w 201)) 0).1 (fun i j => w 201 (20 * i + j)) j ∧ w1 206 j = (owM (w 201)) j) ∧ w1 141 95 = (cleR (owM (w 201)) (usM (w 202) (w 163) (w 141 4) f) (fun i j => w 201 (20 * i + j)) 300 (owM (w 201)) 0).2)) := by
  refine CallN.intro (by decide +kernel) (Nat.le_of_ble_eq_true rfl) (fun ρ hR => ?_)
  show AtN mX12_clears 2 ρ 0 [(0, (2, 141)), (1, (0, f))] [] w
  obtain ⟨G, hG⟩ : ∃ G, G = (cleR (owM (w 201)) (usM (w 202) (w 163) (w 141 4) f) (fun i j => w 201 (20 * i + j)) 300 (owM (w 201)) 0) := ⟨_, rfl⟩
  have hOA : ∀ j, 0 ≤ j → j < 20 → 0 ≤ (owM (w 201)) j ∧ (owM (w 201)) j ≤ 2000000 := fun j a b => by
    have e := sumI_bd (f := fun q => w 201 (20 * j + q)) (B := 99999) 20 (fun q a' b' => hO j q a b a' (by omega))
    unfold owM
    omega
  have hUb : ∀ j, 0 ≤ j → j < 20 → 0 ≤ (usM (w 202) (w 163) (w 141 4) f) j ∧ (usM (w 202) (w 163) (w 141 4) f) j ≤ 100000000000000 := fun j a b => (usV_bd (fun q a' b' => ht (q + 16) (by omega) (by omega)) hc hf a b).2
  have L_264 : ∀ (c : Int) (r : Int) (P : Int → Int) (v9 : Wd), 0 ≤ r ∧ r < 300 → ((∀ k j, k ≠ 203 → k ≠ 204 → k ≠ 205 → k ≠ 206 → k ≠ 207 → ¬ (k = 141 ∧ j = 95) → v9 k j = w k j) ∧ (∀ j, 0 ≤ j → j < 20 → v9 203 j = (usM (w 202) (w 163) (w 141 4) f) j) ∧ (∀ j, 0 ≤ j → j < 20 → v9 206 j = (owM (w 201)) j)) → (∀ j, 0 ≤ j → j < 20 → v9 204 j = (payN (owM (w 201)) (usM (w 202) (w 163) (w 141 4) f) (comesS (owM (w 201)) P (fun i j => w 201 (20 * i + j)))) j) → (∀ j, 0 ≤ j → j < 20 → 0 ≤ P j ∧ P j ≤ 2000000) → v9 141 95 = r → c = 1 - chB P (payN (owM (w 201)) (usM (w 202) (w 163) (w 141 4) f) (comesS (owM (w 201)) P (fun i j => w 201 (20 * i + j)))) 20 → G = cleR (owM (w 201)) (usM (w 202) (w 163) (w 141 4) f) (fun i j => w 201 (20 * i + j)) (300 - r).toNat P r → (∀ (b : Int) (v : Wd), (b = 0 ∨ b = 1) → ((∀ k j, k ≠ 203 → k ≠ 204 → k ≠ 205 → k ≠ 206 → k ≠ 207 → ¬ (k = 141 ∧ j = 95) → v k j = w k j) ∧ (∀ j, 0 ≤ j → j < 20 → v 203 j = (usM (w 202) (w 163) (w 141 4) f) j) ∧ (∀ j, 0 ≤ j → j < 20 → v 206 j = (owM (w 201)) j)) → (∀ j, 0 ≤ j → j < 20 → v 204 j = (payN (owM (w 201)) (usM (w 202) (w 163) (w 141 4) f) (comesS (owM (w 201)) P (fun i j => w 201 (20 * i + j)))) j) → (∀ j, 0 ≤ j → j < 20 → 0 ≤ (payN (owM (w 201)) (usM (w 202) (w 163) (w 141 4) f) (comesS (owM (w 201)) P (fun i j => w 201 (20 * i + j)))) j ∧ (payN (owM (w 201)) (usM (w 202) (w 163) (w 141 4) f) (comesS (owM (w 201)) P (fun i j => w 201 (20 * i + j)))) j ≤ 2000000) → v 141 95 = r + 1 → G = (if b = 0 then cleR (owM (w 201)) (usM (w 202) (w 163) (w 141 4) f) (fun i j => w 201 (20 * i + j)) (300 - (r + 1)).toNat (payN (owM (w 201)) (usM (w 202) (w 163) (w 141 4) f) (comesS (owM (w 201)) P (fun i j => w 201 (20 * i + j)))) (r + 1) else ((payN (owM (w 201)) (usM (w 202) (w 163) (w 141 4) f) (comesS (owM (w 201)) P (fun i j => w 201 (20 * i + j)))), r + 1)) → AtN mX12_clears 2 ρ 141 [(0, (2, 141)), (1, (0, f)), (2, (0, b))] [] v) → AtN mX12_clears 2 ρ 264 [(0, (2, 141)), (1, (0, f)), (2, (0, c))] [] v9 := by
    intro c r P v9 hi t1 t2 hPb t3 t4 hF2 hK2
    refine s_aload_n dX12_clears_264 0 rfl rfl (s_dup dX12_clears_265 (show (2 : Nat) ≠ 1 by decide) (n_getf 141 95 0 dX12_clears_266 cf_X12 ff_X12_484 rfl sh_141 rfl (by decide) (v := (v9 141 95)) rfl (s_iconst dX12_clears_269 (by decide) (n_add (z := ((v9 141 95) + 1)) dX12_clears_270 (wr_id (by omega) (by omega)) (n_putf 141 95 95 dX12_clears_271 cf_X12 ff_X12_484 rfl rfl sh_141 rfl rfl rfl (s_goto 141 dX12_clears_274 (by decide) ?_))))))
    exact hK2 c _ (by have e := chB_01 (f := P) (g := (payN (owM (w 201)) (usM (w 202) (w 163) (w 141 4) f) (comesS (owM (w 201)) P (fun i j => w 201 (20 * i + j))))) 20; omega) ⟨fun k j a b d e g o => if x : k = 141 then (by subst x; rw [wu_at, if_neg (fun y => o ⟨rfl, y⟩)]; exact t1.1 _ j a b d e g o) else (by rw [wu_ne x]; exact t1.1 k j a b d e g o), fun j a b => by rw [wu_ne (by decide)]; exact t1.2.1 j a b, fun j a b => by rw [wu_ne (by decide)]; exact t1.2.2 j a b⟩ (fun j a b => by rw [wu_ne (by decide)]; exact t2 j a b) (fun j a b => payN_bd (hOA j a b) (hUb j a b).1 (comesS_bd (fun i a' b' => hO i j a' b' a b) hPb).1) (by rw [wu_same, t3]) (by rw [hF2, show (300 - r).toNat = (300 - (r + 1)).toNat + 1 by omega, cleR, t4]; rcases chB_01 (f := P) (g := (payN (owM (w 201)) (usM (w 202) (w 163) (w 141 4) f) (comesS (owM (w 201)) P (fun i j => w 201 (20 * i + j))))) 20 with e | e <;> rw [e] <;> simp)
  have L_163 : ∀ (fu : Nat) (c : Int) (i : Int) (r : Int) (P : Int → Int) (v9 : Wd), 0 ≤ i ∧ i ≤ 20 → ((∀ k j, k ≠ 203 → k ≠ 204 → k ≠ 205 → k ≠ 206 → k ≠ 207 → ¬ (k = 141 ∧ j = 95) → v9 k j = w k j) ∧ (∀ j, 0 ≤ j → j < 20 → v9 203 j = (usM (w 202) (w 163) (w 141 4) f) j) ∧ (∀ j, 0 ≤ j → j < 20 → v9 206 j = (owM (w 201)) j)) → (∀ j, 0 ≤ j → j < 20 → v9 207 j = (comesS (owM (w 201)) P (fun i j => w 201 (20 * i + j))) j) → (∀ j, 0 ≤ j → j < 20 → v9 204 j = if j < i then (payN (owM (w 201)) (usM (w 202) (w 163) (w 141 4) f) (comesS (owM (w 201)) P (fun i j => w 201 (20 * i + j)))) j else P j) → (∀ j, 0 ≤ j → j < 20 → 0 ≤ P j ∧ P j ≤ 2000000) → (∀ j, 0 ≤ j → j < 20 → 0 ≤ (comesS (owM (w 201)) P (fun i j => w 201 (20 * i + j))) j ∧ (comesS (owM (w 201)) P (fun i j => w 201 (20 * i + j))) j ≤ 4000000000000) → v9 141 95 = r → c = 1 - chB P (payN (owM (w 201)) (usM (w 202) (w 163) (w 141 4) f) (comesS (owM (w 201)) P (fun i j => w 201 (20 * i + j)))) i.toNat → (∀ (v : Wd) (b : Int), ((∀ k j, k ≠ 203 → k ≠ 204 → k ≠ 205 → k ≠ 206 → k ≠ 207 → ¬ (k = 141 ∧ j = 95) → v k j = w k j) ∧ (∀ j, 0 ≤ j → j < 20 → v 203 j = (usM (w 202) (w 163) (w 141 4) f) j) ∧ (∀ j, 0 ≤ j → j < 20 → v 206 j = (owM (w 201)) j)) → (∀ j, 0 ≤ j → j < 20 → v 204 j = (payN (owM (w 201)) (usM (w 202) (w 163) (w 141 4) f) (comesS (owM (w 201)) P (fun i j => w 201 (20 * i + j)))) j) → v 141 95 = r → b = 1 - chB P (payN (owM (w 201)) (usM (w 202) (w 163) (w 141 4) f) (comesS (owM (w 201)) P (fun i j => w 201 (20 * i + j)))) 20 → AtN mX12_clears 2 ρ 264 [(0, (2, 141)), (1, (0, f)), (2, (0, b))] [] v) → (20 - i).toNat < fu → AtN mX12_clears 2 ρ 163 [(0, (2, 141)), (1, (0, f)), (2, (0, c)), (3, (0, i))] [] v9 := by
    intro fu
    induction fu with
    | zero => intro c i r P v9 hi hs hC hq hPb hcb hr hz hK hm; exact absurd hm (Nat.not_lt_zero _)
    | succ fu ih =>
      intro c i r P v9 hi hs hC hq hPb hcb hr hz hK hm
      refine s_iload_n dX12_clears_163 3 rfl (s_bipush dX12_clears_164 (by decide) (s_icmp_ge 264 dX12_clears_166 (by decide) (fun c_166 => ?_) (fun c_166 => ?_)))
      · skip
        exact At.keep (ls' := [(0, (2, 141)), (1, (0, f)), (2, (0, c))]) [0, 1, 2] rfl (hK v9 c hs (fun j a b => by rw [hq j a b]; exact if_pos (by omega)) hr (by rw [hz, show i = 20 by omega]; rfl))
      · skip
        have j9 : i < 20 := by omega
        have a1 := hs.2.1 i hi.1 j9
        have a2 := hs.2.2 i hi.1 j9
        have a3 := hC i hi.1 j9
        have a4 := hUb i hi.1 j9
        have a5 := hOA i hi.1 j9
        have a6 := hcb i hi.1 j9
        rw [← a1] at a4
        rw [← a2] at a5
        rw [← a3] at a6
        have q9 : v9 204 i = P i := by rw [hq i hi.1 j9]; exact if_neg (by omega)
        refine s_aload_n dX12_clears_169 0 rfl rfl (n_getc (q := 205) 141 92 215 dX12_clears_170 cf_X12 ff_X12_205 rfl sh_141 rfl (by decide) rfl (by decide) (s_iload_n dX12_clears_173 3 rfl (s_aload_n dX12_clears_174 0 rfl rfl (n_getc (q := 204) 141 91 214 dX12_clears_175 cf_X12 ff_X12_202 rfl sh_141 rfl (by decide) rfl (by decide) (s_iload_n dX12_clears_178 3 rfl (n_lald 204 dX12_clears_179 rfl sh_204 (by decide) ⟨(by omega), (by omega)⟩ (v := (v9 204 i)) rfl (s_lastore 205 dX12_clears_180 rfl sh_205 (by decide) ⟨(by omega), (by omega)⟩ (s_aload_n dX12_clears_181 0 rfl rfl (n_getc (q := 204) 141 91 214 dX12_clears_182 cf_X12 ff_X12_202 rfl sh_141 rfl (by decide) rfl (by decide) ?_)))))))))
        refine s_iload_n dX12_clears_185 3 rfl (s_aload_n dX12_clears_186 0 rfl rfl (n_getc (q := 203) 141 90 213 dX12_clears_187 cf_X12 ff_X12_199 rfl sh_141 rfl (by decide) rfl (by decide) (s_iload_n dX12_clears_190 3 rfl (n_lald 203 dX12_clears_191 rfl sh_203 (by decide) ⟨(by omega), (by omega)⟩ (v := (v9 203 i)) rfl (s_aload_n dX12_clears_192 0 rfl rfl (n_getc (q := 207) 141 94 217 dX12_clears_193 cf_X12 ff_X12_211 rfl sh_141 rfl (by decide) rfl (by decide) (s_iload_n dX12_clears_196 3 rfl (n_lald 207 dX12_clears_197 rfl sh_207 (by decide) ⟨(by omega), (by omega)⟩ (v := (v9 207 i)) rfl (n_ladd (z := ((v9 203 i) + (v9 207 i))) dX12_clears_198 (wrL_id (by omega) (by omega)) ?_)))))))))
        refine s_aload_n dX12_clears_199 0 rfl rfl (n_getc (q := 206) 141 93 216 dX12_clears_200 cf_X12 ff_X12_208 rfl sh_141 rfl (by decide) rfl (by decide) (s_iload_n dX12_clears_203 3 rfl (n_lald 206 dX12_clears_204 rfl sh_206 (by decide) ⟨(by omega), (by omega)⟩ (v := (v9 206 i)) rfl (s_lcmp dX12_clears_205 (s_if_ge 225 dX12_clears_206 (by decide) (fun c_206 => ?_) (fun c_206 => ?_))))))
        · skip
          refine s_aload_n dX12_clears_225 0 rfl rfl (n_getc (q := 206) 141 93 216 dX12_clears_226 cf_X12 ff_X12_208 rfl sh_141 rfl (by decide) rfl (by decide) (s_iload_n dX12_clears_229 3 rfl (n_lald 206 dX12_clears_230 rfl sh_206 (by decide) ⟨(by omega), (by omega)⟩ (v := (v9 206 i)) rfl (s_lastore 204 dX12_clears_231 rfl sh_204 (by decide) ⟨(by omega), (by omega)⟩ (s_iload_n dX12_clears_232 2 rfl (s_if_eq 256 dX12_clears_233 (by decide) (fun c_233 => ?_) (fun c_233 => ?_)))))))
          · skip
            refine s_iconst dX12_clears_256 (by decide) (s_istore_n (ls' := [(0, (2, 141)), (1, (0, f)), (2, (0, 0)), (3, (0, i))]) dX12_clears_257 (Nat.le_of_ble_eq_true rfl) rfl ?_)
            have hx : (v9 206 i) = (payN (owM (w 201)) (usM (w 202) (w 163) (w 141 4) f) (comesS (owM (w 201)) P (fun i j => w 201 (20 * i + j)))) i := by
              show _ = mnL ((owM (w 201)) i) ((usM (w 202) (w 163) (w 141 4) f) i + (comesS (owM (w 201)) P (fun i j => w 201 (20 * i + j))) i)
              rw [← a1, ← a2, ← a3]
              unfold mnL
              split <;> omega
            have hn : 0 = 1 - chB P (payN (owM (w 201)) (usM (w 202) (w 163) (w 141 4) f) (comesS (owM (w 201)) P (fun i j => w 201 (20 * i + j)))) (i + 1).toNat := by
              rw [chB_s hi.1]
              have h01 := chB_01 (f := P) (g := (payN (owM (w 201)) (usM (w 202) (w 163) (w 141 4) f) (comesS (owM (w 201)) P (fun i j => w 201 (20 * i + j))))) i.toNat
              split
              · rename_i o; rcases o with o | o <;> omega
              · rename_i o
                have o1 : ¬ chB P (payN (owM (w 201)) (usM (w 202) (w 163) (w 141 4) f) (comesS (owM (w 201)) P (fun i j => w 201 (20 * i + j)))) i.toNat = 1 := fun e => o (Or.inl e)
                have o2 : P i = (payN (owM (w 201)) (usM (w 202) (w 163) (w 141 4) f) (comesS (owM (w 201)) P (fun i j => w 201 (20 * i + j)))) i := Classical.byContradiction (fun e => o (Or.inr e))
                omega
            refine s_iinc (z := (i + 1)) (ls' := [(0, (2, 141)), (1, (0, f)), (2, (0, 0)), (3, (0, (i + 1)))]) dX12_clears_258 3 rfl (Nat.le_of_ble_eq_true rfl) (wr_id (by omega) (by omega)) rfl (s_goto 163 dX12_clears_261 (by decide) ?_)
            exact ih 0 (i + 1) r P (wu (wu v9 205 i (v9 204 i)) 204 i (v9 206 i)) (by omega) ⟨fun k j a b d e g o => by rw [wu_ne b, wu_ne d]; exact hs.1 k j a b d e g o, fun j a b => by rw [wu_ne (by decide), wu_ne (by decide)]; exact hs.2.1 j a b, fun j a b => by rw [wu_ne (by decide), wu_ne (by decide)]; exact hs.2.2 j a b⟩ (fun j a b => by rw [wu_ne (by decide), wu_ne (by decide)]; exact hC j a b) (fun j a b => by rw [wu_at]; exact (if e : j = i then (by rw [if_pos e, if_pos (by omega), e]; exact hx) else (by rw [if_neg e, wu_ne (by decide), hq j a b]; split <;> split <;> first | rfl | omega))) hPb hcb (by rw [wu_ne (by decide), wu_ne (by decide)]; exact hr) hn hK (by omega)
          · skip
            refine s_aload_n dX12_clears_236 0 rfl rfl (n_getc (q := 204) 141 91 214 dX12_clears_237 cf_X12 ff_X12_202 rfl sh_141 rfl (by decide) rfl (by decide) (s_iload_n dX12_clears_240 3 rfl (n_lald 204 dX12_clears_241 rfl sh_204 (by decide) ⟨(by omega), (by omega)⟩ (v := (v9 206 i)) (by simp [wu]) (s_aload_n dX12_clears_242 0 rfl rfl (n_getc (q := 205) 141 92 215 dX12_clears_243 cf_X12 ff_X12_205 rfl sh_141 rfl (by decide) rfl (by decide) (s_iload_n dX12_clears_246 3 rfl (n_lald 205 dX12_clears_247 rfl sh_205 (by decide) ⟨(by omega), (by omega)⟩ (v := (v9 204 i)) (by simp [wu]) (s_lcmp dX12_clears_248 (s_if_ne 256 dX12_clears_249 (by decide) (fun c_249 => ?_) (fun c_249 => ?_))))))))))
            · skip
              refine s_iconst dX12_clears_256 (by decide) (s_istore_n (ls' := [(0, (2, 141)), (1, (0, f)), (2, (0, 0)), (3, (0, i))]) dX12_clears_257 (Nat.le_of_ble_eq_true rfl) rfl ?_)
              have hx : (v9 206 i) = (payN (owM (w 201)) (usM (w 202) (w 163) (w 141 4) f) (comesS (owM (w 201)) P (fun i j => w 201 (20 * i + j)))) i := by
                show _ = mnL ((owM (w 201)) i) ((usM (w 202) (w 163) (w 141 4) f) i + (comesS (owM (w 201)) P (fun i j => w 201 (20 * i + j))) i)
                rw [← a1, ← a2, ← a3]
                unfold mnL
                split <;> omega
              have hn : 0 = 1 - chB P (payN (owM (w 201)) (usM (w 202) (w 163) (w 141 4) f) (comesS (owM (w 201)) P (fun i j => w 201 (20 * i + j)))) (i + 1).toNat := by
                rw [chB_s hi.1]
                have h01 := chB_01 (f := P) (g := (payN (owM (w 201)) (usM (w 202) (w 163) (w 141 4) f) (comesS (owM (w 201)) P (fun i j => w 201 (20 * i + j))))) i.toNat
                split
                · rename_i o; rcases o with o | o <;> omega
                · rename_i o
                  have o1 : ¬ chB P (payN (owM (w 201)) (usM (w 202) (w 163) (w 141 4) f) (comesS (owM (w 201)) P (fun i j => w 201 (20 * i + j)))) i.toNat = 1 := fun e => o (Or.inl e)
                  have o2 : P i = (payN (owM (w 201)) (usM (w 202) (w 163) (w 141 4) f) (comesS (owM (w 201)) P (fun i j => w 201 (20 * i + j)))) i := Classical.byContradiction (fun e => o (Or.inr e))
                  omega
              refine s_iinc (z := (i + 1)) (ls' := [(0, (2, 141)), (1, (0, f)), (2, (0, 0)), (3, (0, (i + 1)))]) dX12_clears_258 3 rfl (Nat.le_of_ble_eq_true rfl) (wr_id (by omega) (by omega)) rfl (s_goto 163 dX12_clears_261 (by decide) ?_)
              exact ih 0 (i + 1) r P (wu (wu v9 205 i (v9 204 i)) 204 i (v9 206 i)) (by omega) ⟨fun k j a b d e g o => by rw [wu_ne b, wu_ne d]; exact hs.1 k j a b d e g o, fun j a b => by rw [wu_ne (by decide), wu_ne (by decide)]; exact hs.2.1 j a b, fun j a b => by rw [wu_ne (by decide), wu_ne (by decide)]; exact hs.2.2 j a b⟩ (fun j a b => by rw [wu_ne (by decide), wu_ne (by decide)]; exact hC j a b) (fun j a b => by rw [wu_at]; exact (if e : j = i then (by rw [if_pos e, if_pos (by omega), e]; exact hx) else (by rw [if_neg e, wu_ne (by decide), hq j a b]; split <;> split <;> first | rfl | omega))) hPb hcb (by rw [wu_ne (by decide), wu_ne (by decide)]; exact hr) hn hK (by omega)
            · skip
              refine s_iconst dX12_clears_252 (by decide) (s_goto 257 dX12_clears_253 (by decide) (s_istore_n (ls' := [(0, (2, 141)), (1, (0, f)), (2, (0, 1)), (3, (0, i))]) dX12_clears_257 (Nat.le_of_ble_eq_true rfl) rfl ?_))
              have hx : (v9 206 i) = (payN (owM (w 201)) (usM (w 202) (w 163) (w 141 4) f) (comesS (owM (w 201)) P (fun i j => w 201 (20 * i + j)))) i := by
                show _ = mnL ((owM (w 201)) i) ((usM (w 202) (w 163) (w 141 4) f) i + (comesS (owM (w 201)) P (fun i j => w 201 (20 * i + j))) i)
                rw [← a1, ← a2, ← a3]
                unfold mnL
                split <;> omega
              have hn : 1 = 1 - chB P (payN (owM (w 201)) (usM (w 202) (w 163) (w 141 4) f) (comesS (owM (w 201)) P (fun i j => w 201 (20 * i + j)))) (i + 1).toNat := by
                rw [chB_s hi.1]
                have h01 := chB_01 (f := P) (g := (payN (owM (w 201)) (usM (w 202) (w 163) (w 141 4) f) (comesS (owM (w 201)) P (fun i j => w 201 (20 * i + j))))) i.toNat
                split
                · rename_i o; rcases o with o | o <;> omega
                · rename_i o
                  have o1 : ¬ chB P (payN (owM (w 201)) (usM (w 202) (w 163) (w 141 4) f) (comesS (owM (w 201)) P (fun i j => w 201 (20 * i + j)))) i.toNat = 1 := fun e => o (Or.inl e)
                  have o2 : P i = (payN (owM (w 201)) (usM (w 202) (w 163) (w 141 4) f) (comesS (owM (w 201)) P (fun i j => w 201 (20 * i + j)))) i := Classical.byContradiction (fun e => o (Or.inr e))
                  omega
              refine s_iinc (z := (i + 1)) (ls' := [(0, (2, 141)), (1, (0, f)), (2, (0, 1)), (3, (0, (i + 1)))]) dX12_clears_258 3 rfl (Nat.le_of_ble_eq_true rfl) (wr_id (by omega) (by omega)) rfl (s_goto 163 dX12_clears_261 (by decide) ?_)
              exact ih 1 (i + 1) r P (wu (wu v9 205 i (v9 204 i)) 204 i (v9 206 i)) (by omega) ⟨fun k j a b d e g o => by rw [wu_ne b, wu_ne d]; exact hs.1 k j a b d e g o, fun j a b => by rw [wu_ne (by decide), wu_ne (by decide)]; exact hs.2.1 j a b, fun j a b => by rw [wu_ne (by decide), wu_ne (by decide)]; exact hs.2.2 j a b⟩ (fun j a b => by rw [wu_ne (by decide), wu_ne (by decide)]; exact hC j a b) (fun j a b => by rw [wu_at]; exact (if e : j = i then (by rw [if_pos e, if_pos (by omega), e]; exact hx) else (by rw [if_neg e, wu_ne (by decide), hq j a b]; split <;> split <;> first | rfl | omega))) hPb hcb (by rw [wu_ne (by decide), wu_ne (by decide)]; exact hr) hn hK (by omega)
        · skip
          refine s_aload_n dX12_clears_209 0 rfl rfl (n_getc (q := 203) 141 90 213 dX12_clears_210 cf_X12 ff_X12_199 rfl sh_141 rfl (by decide) rfl (by decide) (s_iload_n dX12_clears_213 3 rfl (n_lald 203 dX12_clears_214 rfl sh_203 (by decide) ⟨(by omega), (by omega)⟩ (v := (v9 203 i)) rfl (s_aload_n dX12_clears_215 0 rfl rfl (n_getc (q := 207) 141 94 217 dX12_clears_216 cf_X12 ff_X12_211 rfl sh_141 rfl (by decide) rfl (by decide) (s_iload_n dX12_clears_219 3 rfl (n_lald 207 dX12_clears_220 rfl sh_207 (by decide) ⟨(by omega), (by omega)⟩ (v := (v9 207 i)) rfl (n_ladd (z := ((v9 203 i) + (v9 207 i))) dX12_clears_221 (wrL_id (by omega) (by omega)) (s_goto 231 dX12_clears_222 (by decide) ?_)))))))))
          refine s_lastore 204 dX12_clears_231 rfl sh_204 (by decide) ⟨(by omega), (by omega)⟩ (s_iload_n dX12_clears_232 2 rfl (s_if_eq 256 dX12_clears_233 (by decide) (fun c_233 => ?_) (fun c_233 => ?_)))
          · skip
            refine s_iconst dX12_clears_256 (by decide) (s_istore_n (ls' := [(0, (2, 141)), (1, (0, f)), (2, (0, 0)), (3, (0, i))]) dX12_clears_257 (Nat.le_of_ble_eq_true rfl) rfl ?_)
            have hx : ((v9 203 i) + (v9 207 i)) = (payN (owM (w 201)) (usM (w 202) (w 163) (w 141 4) f) (comesS (owM (w 201)) P (fun i j => w 201 (20 * i + j)))) i := by
              show _ = mnL ((owM (w 201)) i) ((usM (w 202) (w 163) (w 141 4) f) i + (comesS (owM (w 201)) P (fun i j => w 201 (20 * i + j))) i)
              rw [← a1, ← a2, ← a3]
              unfold mnL
              split <;> omega
            have hn : 0 = 1 - chB P (payN (owM (w 201)) (usM (w 202) (w 163) (w 141 4) f) (comesS (owM (w 201)) P (fun i j => w 201 (20 * i + j)))) (i + 1).toNat := by
              rw [chB_s hi.1]
              have h01 := chB_01 (f := P) (g := (payN (owM (w 201)) (usM (w 202) (w 163) (w 141 4) f) (comesS (owM (w 201)) P (fun i j => w 201 (20 * i + j))))) i.toNat
              split
              · rename_i o; rcases o with o | o <;> omega
              · rename_i o
                have o1 : ¬ chB P (payN (owM (w 201)) (usM (w 202) (w 163) (w 141 4) f) (comesS (owM (w 201)) P (fun i j => w 201 (20 * i + j)))) i.toNat = 1 := fun e => o (Or.inl e)
                have o2 : P i = (payN (owM (w 201)) (usM (w 202) (w 163) (w 141 4) f) (comesS (owM (w 201)) P (fun i j => w 201 (20 * i + j)))) i := Classical.byContradiction (fun e => o (Or.inr e))
                omega
            refine s_iinc (z := (i + 1)) (ls' := [(0, (2, 141)), (1, (0, f)), (2, (0, 0)), (3, (0, (i + 1)))]) dX12_clears_258 3 rfl (Nat.le_of_ble_eq_true rfl) (wr_id (by omega) (by omega)) rfl (s_goto 163 dX12_clears_261 (by decide) ?_)
            exact ih 0 (i + 1) r P (wu (wu v9 205 i (v9 204 i)) 204 i ((v9 203 i) + (v9 207 i))) (by omega) ⟨fun k j a b d e g o => by rw [wu_ne b, wu_ne d]; exact hs.1 k j a b d e g o, fun j a b => by rw [wu_ne (by decide), wu_ne (by decide)]; exact hs.2.1 j a b, fun j a b => by rw [wu_ne (by decide), wu_ne (by decide)]; exact hs.2.2 j a b⟩ (fun j a b => by rw [wu_ne (by decide), wu_ne (by decide)]; exact hC j a b) (fun j a b => by rw [wu_at]; exact (if e : j = i then (by rw [if_pos e, if_pos (by omega), e]; exact hx) else (by rw [if_neg e, wu_ne (by decide), hq j a b]; split <;> split <;> first | rfl | omega))) hPb hcb (by rw [wu_ne (by decide), wu_ne (by decide)]; exact hr) hn hK (by omega)
          · skip
            refine s_aload_n dX12_clears_236 0 rfl rfl (n_getc (q := 204) 141 91 214 dX12_clears_237 cf_X12 ff_X12_202 rfl sh_141 rfl (by decide) rfl (by decide) (s_iload_n dX12_clears_240 3 rfl (n_lald 204 dX12_clears_241 rfl sh_204 (by decide) ⟨(by omega), (by omega)⟩ (v := ((v9 203 i) + (v9 207 i))) (by simp [wu]) (s_aload_n dX12_clears_242 0 rfl rfl (n_getc (q := 205) 141 92 215 dX12_clears_243 cf_X12 ff_X12_205 rfl sh_141 rfl (by decide) rfl (by decide) (s_iload_n dX12_clears_246 3 rfl (n_lald 205 dX12_clears_247 rfl sh_205 (by decide) ⟨(by omega), (by omega)⟩ (v := (v9 204 i)) (by simp [wu]) (s_lcmp dX12_clears_248 (s_if_ne 256 dX12_clears_249 (by decide) (fun c_249 => ?_) (fun c_249 => ?_))))))))))
            · skip
              refine s_iconst dX12_clears_256 (by decide) (s_istore_n (ls' := [(0, (2, 141)), (1, (0, f)), (2, (0, 0)), (3, (0, i))]) dX12_clears_257 (Nat.le_of_ble_eq_true rfl) rfl ?_)
              have hx : ((v9 203 i) + (v9 207 i)) = (payN (owM (w 201)) (usM (w 202) (w 163) (w 141 4) f) (comesS (owM (w 201)) P (fun i j => w 201 (20 * i + j)))) i := by
                show _ = mnL ((owM (w 201)) i) ((usM (w 202) (w 163) (w 141 4) f) i + (comesS (owM (w 201)) P (fun i j => w 201 (20 * i + j))) i)
                rw [← a1, ← a2, ← a3]
                unfold mnL
                split <;> omega
              have hn : 0 = 1 - chB P (payN (owM (w 201)) (usM (w 202) (w 163) (w 141 4) f) (comesS (owM (w 201)) P (fun i j => w 201 (20 * i + j)))) (i + 1).toNat := by
                rw [chB_s hi.1]
                have h01 := chB_01 (f := P) (g := (payN (owM (w 201)) (usM (w 202) (w 163) (w 141 4) f) (comesS (owM (w 201)) P (fun i j => w 201 (20 * i + j))))) i.toNat
                split
                · rename_i o; rcases o with o | o <;> omega
                · rename_i o
                  have o1 : ¬ chB P (payN (owM (w 201)) (usM (w 202) (w 163) (w 141 4) f) (comesS (owM (w 201)) P (fun i j => w 201 (20 * i + j)))) i.toNat = 1 := fun e => o (Or.inl e)
                  have o2 : P i = (payN (owM (w 201)) (usM (w 202) (w 163) (w 141 4) f) (comesS (owM (w 201)) P (fun i j => w 201 (20 * i + j)))) i := Classical.byContradiction (fun e => o (Or.inr e))
                  omega
              refine s_iinc (z := (i + 1)) (ls' := [(0, (2, 141)), (1, (0, f)), (2, (0, 0)), (3, (0, (i + 1)))]) dX12_clears_258 3 rfl (Nat.le_of_ble_eq_true rfl) (wr_id (by omega) (by omega)) rfl (s_goto 163 dX12_clears_261 (by decide) ?_)
              exact ih 0 (i + 1) r P (wu (wu v9 205 i (v9 204 i)) 204 i ((v9 203 i) + (v9 207 i))) (by omega) ⟨fun k j a b d e g o => by rw [wu_ne b, wu_ne d]; exact hs.1 k j a b d e g o, fun j a b => by rw [wu_ne (by decide), wu_ne (by decide)]; exact hs.2.1 j a b, fun j a b => by rw [wu_ne (by decide), wu_ne (by decide)]; exact hs.2.2 j a b⟩ (fun j a b => by rw [wu_ne (by decide), wu_ne (by decide)]; exact hC j a b) (fun j a b => by rw [wu_at]; exact (if e : j = i then (by rw [if_pos e, if_pos (by omega), e]; exact hx) else (by rw [if_neg e, wu_ne (by decide), hq j a b]; split <;> split <;> first | rfl | omega))) hPb hcb (by rw [wu_ne (by decide), wu_ne (by decide)]; exact hr) hn hK (by omega)
            · skip
              refine s_iconst dX12_clears_252 (by decide) (s_goto 257 dX12_clears_253 (by decide) (s_istore_n (ls' := [(0, (2, 141)), (1, (0, f)), (2, (0, 1)), (3, (0, i))]) dX12_clears_257 (Nat.le_of_ble_eq_true rfl) rfl ?_))
              have hx : ((v9 203 i) + (v9 207 i)) = (payN (owM (w 201)) (usM (w 202) (w 163) (w 141 4) f) (comesS (owM (w 201)) P (fun i j => w 201 (20 * i + j)))) i := by
                show _ = mnL ((owM (w 201)) i) ((usM (w 202) (w 163) (w 141 4) f) i + (comesS (owM (w 201)) P (fun i j => w 201 (20 * i + j))) i)
                rw [← a1, ← a2, ← a3]
                unfold mnL
                split <;> omega
              have hn : 1 = 1 - chB P (payN (owM (w 201)) (usM (w 202) (w 163) (w 141 4) f) (comesS (owM (w 201)) P (fun i j => w 201 (20 * i + j)))) (i + 1).toNat := by
                rw [chB_s hi.1]
                have h01 := chB_01 (f := P) (g := (payN (owM (w 201)) (usM (w 202) (w 163) (w 141 4) f) (comesS (owM (w 201)) P (fun i j => w 201 (20 * i + j))))) i.toNat
                split
                · rename_i o; rcases o with o | o <;> omega
                · rename_i o
                  have o1 : ¬ chB P (payN (owM (w 201)) (usM (w 202) (w 163) (w 141 4) f) (comesS (owM (w 201)) P (fun i j => w 201 (20 * i + j)))) i.toNat = 1 := fun e => o (Or.inl e)
                  have o2 : P i = (payN (owM (w 201)) (usM (w 202) (w 163) (w 141 4) f) (comesS (owM (w 201)) P (fun i j => w 201 (20 * i + j)))) i := Classical.byContradiction (fun e => o (Or.inr e))
                  omega
              refine s_iinc (z := (i + 1)) (ls' := [(0, (2, 141)), (1, (0, f)), (2, (0, 1)), (3, (0, (i + 1)))]) dX12_clears_258 3 rfl (Nat.le_of_ble_eq_true rfl) (wr_id (by omega) (by omega)) rfl (s_goto 163 dX12_clears_261 (by decide) ?_)
              exact ih 1 (i + 1) r P (wu (wu v9 205 i (v9 204 i)) 204 i ((v9 203 i) + (v9 207 i))) (by omega) ⟨fun k j a b d e g o => by rw [wu_ne b, wu_ne d]; exact hs.1 k j a b d e g o, fun j a b => by rw [wu_ne (by decide), wu_ne (by decide)]; exact hs.2.1 j a b, fun j a b => by rw [wu_ne (by decide), wu_ne (by decide)]; exact hs.2.2 j a b⟩ (fun j a b => by rw [wu_ne (by decide), wu_ne (by decide)]; exact hC j a b) (fun j a b => by rw [wu_at]; exact (if e : j = i then (by rw [if_pos e, if_pos (by omega), e]; exact hx) else (by rw [if_neg e, wu_ne (by decide), hq j a b]; split <;> split <;> first | rfl | omega))) hPb hcb (by rw [wu_ne (by decide), wu_ne (by decide)]; exact hr) hn hK (by omega)
  have L_141 : ∀ (fu : Nat) (c : Int) (r : Int) (P : Int → Int) (v9 : Wd), 0 ≤ r ∧ r ≤ 300 → (c = 0 ∨ c = 1) → ((∀ k j, k ≠ 203 → k ≠ 204 → k ≠ 205 → k ≠ 206 → k ≠ 207 → ¬ (k = 141 ∧ j = 95) → v9 k j = w k j) ∧ (∀ j, 0 ≤ j → j < 20 → v9 203 j = (usM (w 202) (w 163) (w 141 4) f) j) ∧ (∀ j, 0 ≤ j → j < 20 → v9 206 j = (owM (w 201)) j)) → (∀ j, 0 ≤ j → j < 20 → v9 204 j = P j) → (∀ j, 0 ≤ j → j < 20 → 0 ≤ P j ∧ P j ≤ 2000000) → v9 141 95 = r → G = (if c = 0 then cleR (owM (w 201)) (usM (w 202) (w 163) (w 141 4) f) (fun i j => w 201 (20 * i + j)) (300 - r).toNat P r else (P, r)) → (300 - r).toNat < fu → AtN mX12_clears 2 ρ 141 [(0, (2, 141)), (1, (0, f)), (2, (0, c))] [] v9 := by
    intro fu
    induction fu with
    | zero => intro c r P v9 hi h01 hs hP hPb hr hF hm; exact absurd hm (Nat.not_lt_zero _)
    | succ fu ih =>
      intro c r P v9 hi h01 hs hP hPb hr hF hm
      have bR : 0 ≤ v9 141 95 ∧ v9 141 95 ≤ 300 := by rw [hr]; exact hi
      refine s_iload_n dX12_clears_141 2 rfl (s_if_ne 277 dX12_clears_142 (by decide) (fun c_142 => ?_) (fun c_142 => ?_))
      · skip
        have hO9 : ∀ i j, 0 ≤ i → i < 20 → 0 ≤ j → j < 20 → 0 ≤ v9 201 (20 * i + j) ∧ v9 201 (20 * i + j) ≤ 99999 := fun i j a b a' b' => by rw [hs.1 201 _ (by decide) (by decide) (by decide) (by decide) (by decide) (fun x => absurd x.1 (by decide))]; exact hO i j a b a' b'
        have hA9 : ∀ j, 0 ≤ j → j < 20 → 0 ≤ v9 206 j ∧ v9 206 j ≤ 2000000 := fun j a b => by rw [hs.2.2 j a b]; exact hOA j a b
        have hP9 : ∀ j, 0 ≤ j → j < 20 → 0 ≤ v9 204 j ∧ v9 204 j ≤ 2000000 := fun j a b => by rw [hP j a b]; exact hPb j a b
        refine s_aload_n dX12_clears_277 0 rfl rfl (n_invV' (as := []) dX12_clears_278 kv_X12_come ml_X12_487 (c_M_come  v9 hO9 hA9 hP9) (by decide) 141 cf_X12 rfl sh_141 rfl rfl rfl (Nat.le_of_ble_eq_true rfl) ?_)
        rintro r_278 w_278 ⟨rfl, hz_278⟩
        have hcm : ∀ j, 0 ≤ j → j < 20 → w_278 207 j = (comesS (owM (w 201)) P (fun i j => w 201 (20 * i + j))) j := fun j a b => by rw [hz_278, fillV ⟨a, b⟩]; exact comesS_congr (fun i a b => hs.2.2 i a b) hP (fun i j _ _ => hs.1 201 _ (by decide) (by decide) (by decide) (by decide) (by decide) (fun x => absurd x.1 (by decide))) j
        refine n_ret dX12_clears_281 hR rfl ?_
        have hF3 : (cleR (owM (w 201)) (usM (w 202) (w 163) (w 141 4) f) (fun i j => w 201 (20 * i + j)) 300 (owM (w 201)) 0) = (P, r) := by
          rw [← hG, hF]
          split
          · first
            | (exfalso; omega)
            | (rw [show (300 - r).toNat = 0 by omega]; rfl)
          · rfl
        refine ⟨rfl, ?_, ?_, ?_⟩
        · intro k j a b d e g o
          rw [hz_278, fillN g]; exact hs.1 k j a b d e g o
        · intro j a b
          rw [hF3]
          refine ⟨?_, hcm j a b, ?_⟩
          · rw [hz_278, fillN (by decide)]; exact hP j a b
          · rw [hz_278, fillN (by decide)]; exact hs.2.2 j a b
        · rw [hF3, hz_278, fillN (by decide)]; exact hr
      · skip
        refine s_aload_n dX12_clears_145 0 rfl rfl (n_getf 141 95 0 dX12_clears_146 cf_X12 ff_X12_484 rfl sh_141 rfl (by decide) (v := (v9 141 95)) rfl (s_sipush dX12_clears_149 (by decide) (s_icmp_ge 277 dX12_clears_152 (by decide) (fun c_152 => ?_) (fun c_152 => ?_))))
        · skip
          have hO9 : ∀ i j, 0 ≤ i → i < 20 → 0 ≤ j → j < 20 → 0 ≤ v9 201 (20 * i + j) ∧ v9 201 (20 * i + j) ≤ 99999 := fun i j a b a' b' => by rw [hs.1 201 _ (by decide) (by decide) (by decide) (by decide) (by decide) (fun x => absurd x.1 (by decide))]; exact hO i j a b a' b'
          have hA9 : ∀ j, 0 ≤ j → j < 20 → 0 ≤ v9 206 j ∧ v9 206 j ≤ 2000000 := fun j a b => by rw [hs.2.2 j a b]; exact hOA j a b
          have hP9 : ∀ j, 0 ≤ j → j < 20 → 0 ≤ v9 204 j ∧ v9 204 j ≤ 2000000 := fun j a b => by rw [hP j a b]; exact hPb j a b
          refine s_aload_n dX12_clears_277 0 rfl rfl (n_invV' (as := []) dX12_clears_278 kv_X12_come ml_X12_487 (c_M_come  v9 hO9 hA9 hP9) (by decide) 141 cf_X12 rfl sh_141 rfl rfl rfl (Nat.le_of_ble_eq_true rfl) ?_)
          rintro r_278 w_278 ⟨rfl, hz_278⟩
          have hcm : ∀ j, 0 ≤ j → j < 20 → w_278 207 j = (comesS (owM (w 201)) P (fun i j => w 201 (20 * i + j))) j := fun j a b => by rw [hz_278, fillV ⟨a, b⟩]; exact comesS_congr (fun i a b => hs.2.2 i a b) hP (fun i j _ _ => hs.1 201 _ (by decide) (by decide) (by decide) (by decide) (by decide) (fun x => absurd x.1 (by decide))) j
          refine n_ret dX12_clears_281 hR rfl ?_
          have hF3 : (cleR (owM (w 201)) (usM (w 202) (w 163) (w 141 4) f) (fun i j => w 201 (20 * i + j)) 300 (owM (w 201)) 0) = (P, r) := by
            rw [← hG, hF]
            split
            · first
              | (exfalso; omega)
              | (rw [show (300 - r).toNat = 0 by omega]; rfl)
            · rfl
          refine ⟨rfl, ?_, ?_, ?_⟩
          · intro k j a b d e g o
            rw [hz_278, fillN g]; exact hs.1 k j a b d e g o
          · intro j a b
            rw [hF3]
            refine ⟨?_, hcm j a b, ?_⟩
            · rw [hz_278, fillN (by decide)]; exact hP j a b
            · rw [hz_278, fillN (by decide)]; exact hs.2.2 j a b
          · rw [hF3, hz_278, fillN (by decide)]; exact hr
        · skip
          have hO9 : ∀ i j, 0 ≤ i → i < 20 → 0 ≤ j → j < 20 → 0 ≤ v9 201 (20 * i + j) ∧ v9 201 (20 * i + j) ≤ 99999 := fun i j a b a' b' => by rw [hs.1 201 _ (by decide) (by decide) (by decide) (by decide) (by decide) (fun x => absurd x.1 (by decide))]; exact hO i j a b a' b'
          have hA9 : ∀ j, 0 ≤ j → j < 20 → 0 ≤ v9 206 j ∧ v9 206 j ≤ 2000000 := fun j a b => by rw [hs.2.2 j a b]; exact hOA j a b
          have hP9 : ∀ j, 0 ≤ j → j < 20 → 0 ≤ v9 204 j ∧ v9 204 j ≤ 2000000 := fun j a b => by rw [hP j a b]; exact hPb j a b
          refine s_aload_n dX12_clears_155 0 rfl rfl (n_invV' (as := []) dX12_clears_156 kv_X12_come ml_X12_487 (c_M_come  v9 hO9 hA9 hP9) (by decide) 141 cf_X12 rfl sh_141 rfl rfl rfl (Nat.le_of_ble_eq_true rfl) ?_)
          rintro r_156 w_156 ⟨rfl, hz_156⟩
          have hcm : ∀ j, 0 ≤ j → j < 20 → w_156 207 j = (comesS (owM (w 201)) P (fun i j => w 201 (20 * i + j))) j := fun j a b => by rw [hz_156, fillV ⟨a, b⟩]; exact comesS_congr (fun i a b => hs.2.2 i a b) hP (fun i j _ _ => hs.1 201 _ (by decide) (by decide) (by decide) (by decide) (by decide) (fun x => absurd x.1 (by decide))) j
          refine s_iconst dX12_clears_159 (by decide) (s_istore_n (ls' := [(0, (2, 141)), (1, (0, f)), (2, (0, 1))]) dX12_clears_160 (Nat.le_of_ble_eq_true rfl) rfl (s_iconst dX12_clears_161 (by decide) (s_istore_n (ls' := [(0, (2, 141)), (1, (0, f)), (2, (0, 1)), (3, (0, 0))]) dX12_clears_162 (Nat.le_of_ble_eq_true rfl) rfl ?_)))
          exact L_163 _ 1 0 r P w_156 (by omega) ⟨fun k j a b d e g o => by rw [hz_156, fillN g]; exact hs.1 k j a b d e g o, fun j a b => by rw [hz_156, fillN (by decide)]; exact hs.2.1 j a b, fun j a b => by rw [hz_156, fillN (by decide)]; exact hs.2.2 j a b⟩ hcm (fun j a b => by rw [hz_156, fillN (by decide), if_neg (by omega)]; exact hP j a b) hPb (fun j a b => comesS_bd (fun i a' b' => hO i j a' b' a b) hPb) (by rw [hz_156, fillN (by decide)]; exact hr) rfl (fun v b t1 t2 t3 t4 => L_264 b r P v ⟨hi.1, by omega⟩ t1 t2 hPb t3 t4 (by rw [hF, if_pos (show c = 0 by omega)]) (fun b v u1 u2 u3 u4 u5 u6 => ih b (r + 1) _ v (by omega) u1 u2 u3 u4 u5 u6 (by omega))) (Nat.lt_succ_self _)
  have L_116 : ∀ (i : Int) (v9 : Wd), 0 ≤ i ∧ i < 20 → ((∀ k j, k ≠ 203 → k ≠ 204 → k ≠ 206 → v9 k j = w k j) ∧ (∀ j, 0 ≤ j → j < i + 1 → v9 203 j = (usM (w 202) (w 163) (w 141 4) f) j) ∧ (∀ j, 0 ≤ j → j < i + 1 → v9 206 j = (owM (w 201)) j) ∧ (∀ j, 0 ≤ j → j < i → v9 204 j = (owM (w 201)) j)) → (∀ v : Wd, ((∀ k j, k ≠ 203 → k ≠ 204 → k ≠ 206 → v k j = w k j) ∧ (∀ j, 0 ≤ j → j < i + 1 → v 203 j = (usM (w 202) (w 163) (w 141 4) f) j) ∧ (∀ j, 0 ≤ j → j < i + 1 → v 206 j = (owM (w 201)) j) ∧ (∀ j, 0 ≤ j → j < i + 1 → v 204 j = (owM (w 201)) j)) → AtN mX12_clears 2 ρ 2 [(0, (2, 141)), (1, (0, f)), (2, (0, (i + 1)))] [] v) → AtN mX12_clears 2 ρ 116 [(0, (2, 141)), (1, (0, f)), (2, (0, i))] [] v9 := by
    intro i v9 hi hs hK
    refine s_aload_n dX12_clears_116 0 rfl rfl (n_getc (q := 204) 141 91 214 dX12_clears_117 cf_X12 ff_X12_202 rfl sh_141 rfl (by decide) rfl (by decide) (s_iload_n dX12_clears_120 2 rfl (s_aload_n dX12_clears_121 0 rfl rfl (n_getc (q := 206) 141 93 216 dX12_clears_122 cf_X12 ff_X12_208 rfl sh_141 rfl (by decide) rfl (by decide) (s_iload_n dX12_clears_125 2 rfl (n_lald 206 dX12_clears_126 rfl sh_206 (by decide) ⟨(by omega), (by omega)⟩ (v := (v9 206 i)) rfl (s_lastore 204 dX12_clears_127 rfl sh_204 (by decide) ⟨(by omega), (by omega)⟩ (s_iinc (z := (i + 1)) (ls' := [(0, (2, 141)), (1, (0, f)), (2, (0, (i + 1)))]) dX12_clears_128 2 rfl (Nat.le_of_ble_eq_true rfl) (wr_id (by omega) (by omega)) rfl (s_goto 2 dX12_clears_131 (by decide) ?_)))))))))
    exact hK _ ⟨fun k j a b d => by rw [wu_ne b]; exact hs.1 k j a b d, fun j a b => by rw [wu_ne (by decide)]; exact hs.2.1 j a b, fun j a b => by rw [wu_ne (by decide)]; exact hs.2.2.1 j a b, fun j a b => by rw [wu_at]; exact (if e : j = i then (by rw [if_pos e, e]; exact hs.2.2.1 i hi.1 (by omega)) else (by rw [if_neg e]; exact hs.2.2.2 j a (by omega)))⟩
  have L_81 : ∀ (fu : Nat) (i : Int) (j : Int) (v9 : Wd), 0 ≤ i ∧ i < 20 → 0 ≤ j ∧ j ≤ 20 → ((∀ k j, k ≠ 203 → k ≠ 204 → k ≠ 206 → v9 k j = w k j) ∧ (∀ j, 0 ≤ j → j < i + 1 → v9 203 j = (usM (w 202) (w 163) (w 141 4) f) j) ∧ (∀ j, 0 ≤ j → j < i → v9 206 j = (owM (w 201)) j) ∧ (∀ j, 0 ≤ j → j < i → v9 204 j = (owM (w 201)) j)) → v9 206 i = sumI (fun q => w 201 (20 * i + q)) j.toNat → (∀ v : Wd, ((∀ k j, k ≠ 203 → k ≠ 204 → k ≠ 206 → v k j = w k j) ∧ (∀ j, 0 ≤ j → j < i + 1 → v 203 j = (usM (w 202) (w 163) (w 141 4) f) j) ∧ (∀ j, 0 ≤ j → j < i + 1 → v 206 j = (owM (w 201)) j) ∧ (∀ j, 0 ≤ j → j < i → v 204 j = (owM (w 201)) j)) → AtN mX12_clears 2 ρ 116 [(0, (2, 141)), (1, (0, f)), (2, (0, i))] [] v) → (20 - j).toNat < fu → AtN mX12_clears 2 ρ 81 [(0, (2, 141)), (1, (0, f)), (2, (0, i)), (5, (0, j))] [] v9 := by
    intro fu
    induction fu with
    | zero => intro i j v9 hi hj hs ho hK hm; exact absurd hm (Nat.not_lt_zero _)
    | succ fu ih =>
      intro i j v9 hi hj hs ho hK hm
      have q1 : v9 201 (20 * i + j) = w 201 (20 * i + j) := hs.1 201 _ (by decide) (by decide) (by decide)
      have qb := sumI_bd' (f := fun q => w 201 (20 * i + q)) (B := 99999) (N := 20) (fun q a b => hO i q hi.1 hi.2 a b) hj.1 hj.2
      rw [← ho] at qb
      refine s_iload dX12_clears_81 3 rfl (s_bipush dX12_clears_83 (by decide) (s_icmp_ge 116 dX12_clears_85 (by decide) (fun c_85 => ?_) (fun c_85 => ?_)))
      · skip
        exact At.keep (ls' := [(0, (2, 141)), (1, (0, f)), (2, (0, i))]) [0, 1, 2] rfl (hK v9 ⟨hs.1, hs.2.1, fun k a b => if e : k = i then (by rw [e, ho, show j = 20 by omega]; rfl) else hs.2.2.1 k a (by omega), hs.2.2.2⟩)
      · skip
        have b9 := hO i j hi.1 hi.2 hj.1 (by omega)
        refine s_aload_n dX12_clears_88 0 rfl rfl (n_getc (q := 206) 141 93 216 dX12_clears_89 cf_X12 ff_X12_208 rfl sh_141 rfl (by decide) rfl (by decide) (s_iload_n dX12_clears_92 2 rfl (s_dup2 dX12_clears_93 (show (0 : Nat) ≠ 1 by decide) (show (2 : Nat) ≠ 1 by decide) (n_lald 206 dX12_clears_94 rfl sh_206 (by decide) ⟨(by omega), (by omega)⟩ (v := (v9 206 i)) rfl (s_aload_n dX12_clears_95 0 rfl rfl (n_getc (q := 201) 141 88 211 dX12_clears_96 cf_X12 ff_X12_193 rfl sh_141 rfl (by decide) rfl (by decide) (s_bipush dX12_clears_99 (by decide) (s_iload_n dX12_clears_101 2 rfl (n_mul (z := (20 * i)) dX12_clears_102 (wr_id (by omega) (by omega)) ?_)))))))))
        refine s_iload dX12_clears_103 3 rfl (n_add (z := ((20 * i) + j)) dX12_clears_105 (wr_id (by omega) (by omega)) (n_iald 201 dX12_clears_106 rfl sh_201 (by decide) ⟨(by omega), (by omega)⟩ (v := (v9 201 ((20 * i) + j))) rfl (s_i2l dX12_clears_107 (n_ladd (z := ((v9 206 i) + (v9 201 ((20 * i) + j)))) dX12_clears_108 (wrL_id (by omega) (by omega)) (s_lastore 206 dX12_clears_109 rfl sh_206 (by decide) ⟨(by omega), (by omega)⟩ (s_iinc (z := (j + 1)) (ls' := [(0, (2, 141)), (1, (0, f)), (2, (0, i)), (5, (0, (j + 1)))]) dX12_clears_110 3 rfl (Nat.le_of_ble_eq_true rfl) (wr_id (by omega) (by omega)) rfl (s_goto 81 dX12_clears_113 (by decide) ?_)))))))
        exact ih i (j + 1) (wu v9 206 i ((v9 206 i) + (v9 201 ((20 * i) + j)))) (by omega) (by omega) ⟨fun k j a b d => by rw [wu_ne d]; exact hs.1 k j a b d, fun j a b => by rw [wu_ne (by decide)]; exact hs.2.1 j a b, fun j a b => by rw [wu_at, if_neg (by omega)]; exact hs.2.2.1 j a b, fun j a b => by rw [wu_ne (by decide)]; exact hs.2.2.2 j a b⟩ (by rw [wu_same, sumI_s hj.1, ← ho, q1]) hK (by omega)
  have L_2 : ∀ (fu : Nat) (i : Int) (v9 : Wd), 0 ≤ i ∧ i ≤ 20 → ((∀ k j, k ≠ 203 → k ≠ 204 → k ≠ 206 → v9 k j = w k j) ∧ (∀ j, 0 ≤ j → j < i → v9 203 j = (usM (w 202) (w 163) (w 141 4) f) j) ∧ (∀ j, 0 ≤ j → j < i → v9 206 j = (owM (w 201)) j) ∧ (∀ j, 0 ≤ j → j < i → v9 204 j = (owM (w 201)) j)) → (20 - i).toNat < fu → AtN mX12_clears 2 ρ 2 [(0, (2, 141)), (1, (0, f)), (2, (0, i))] [] v9 := by
    intro fu
    induction fu with
    | zero => intro i v9 hi hs hm; exact absurd hm (Nat.not_lt_zero _)
    | succ fu ih =>
      intro i v9 hi hs hm
      have q2 : v9 202 i = w 202 i := hs.1 202 _ (by decide) (by decide) (by decide)
      have q3 : v9 163 i = w 163 i := hs.1 163 _ (by decide) (by decide) (by decide)
      have q4 : v9 141 4 = w 141 4 := hs.1 141 _ (by decide) (by decide) (by decide)
      refine s_iload_n dX12_clears_2 2 rfl (s_bipush dX12_clears_3 (by decide) (s_icmp_ge 134 dX12_clears_5 (by decide) (fun c_5 => ?_) (fun c_5 => ?_)))
      · skip
        have e20 : i = 20 := by omega
        rw [e20] at hs
        refine s_aload_n dX12_clears_134 0 rfl rfl (s_iconst dX12_clears_135 (by decide) (n_putf 141 95 95 dX12_clears_136 cf_X12 ff_X12_484 rfl rfl sh_141 rfl rfl rfl (s_iconst dX12_clears_139 (by decide) (s_istore_n (ls' := [(0, (2, 141)), (1, (0, f)), (2, (0, 0))]) dX12_clears_140 (Nat.le_of_ble_eq_true rfl) rfl ?_))))
        exact L_141 _ 0 0 (owM (w 201)) (wu v9 141 95 0) (by omega) (Or.inl rfl) ⟨fun k j a b d e g o => if x : k = 141 then (by subst x; rw [wu_at, if_neg (fun y => o ⟨rfl, y⟩)]; exact hs.1 _ j a b e) else (by rw [wu_ne x]; exact hs.1 k j a b e), fun j a b => by rw [wu_ne (by decide)]; exact hs.2.1 j a b, fun j a b => by rw [wu_ne (by decide)]; exact hs.2.2.1 j a b⟩ (fun j a b => by rw [wu_ne (by decide)]; exact hs.2.2.2 j a b) hOA (wu_same _ _ _ _) (by rw [hG, if_pos (show (0 : Int) = 0 from rfl), show ((300 : Int) - 0).toNat = 300 from rfl]) (Nat.lt_succ_self _)
      · skip
        have hi9 : 0 ≤ i ∧ i < 20 := ⟨hi.1, by omega⟩
        have b1 : 16 ≤ i → 0 ≤ w 202 i ∧ w 202 i ≤ 99999 := fun a => ht i a hi9.2
        have b2 : i < w 141 4 → w 163 i ≤ 1000000000000 := fun a => hc i hi9.1 a
        refine s_iload_n dX12_clears_8 2 rfl (s_bipush dX12_clears_9 (by decide) (s_icmp_lt 24 dX12_clears_11 (by decide) (fun c_11 => ?_) (fun c_11 => ?_)))
        · skip
          refine s_iload_n dX12_clears_24 2 rfl (s_aload_n dX12_clears_25 0 rfl rfl (n_getf 141 4 0 dX12_clears_26 cf_X12 ff_X12_230 rfl sh_141 rfl (by decide) (v := (v9 141 4)) rfl (s_icmp_ge 52 dX12_clears_29 (by decide) (fun c_29 => ?_) (fun c_29 => ?_))))
          · skip
            refine s_lconst (z := 0) dX12_clears_52 rfl (s_lstore_n (ls' := [(0, (2, 141)), (1, (0, f)), (2, (0, i)), (3, (1, 0))]) dX12_clears_53 (Nat.le_of_ble_eq_true rfl) rfl ?_)
            have b3 : (0 : Int) ≤ (0 : Int) ∧ (0 : Int) ≤ 1000000000000 := by omega
            have b4 := mul_bd b3 (show 0 ≤ 100 - f ∧ 100 - f ≤ 100 by omega)
            have b5 := tdiv_bd b4.1 (show (0 : Int) < 100 by decide)
            refine s_aload_n dX12_clears_54 0 rfl rfl (n_getc (q := 203) 141 90 213 dX12_clears_55 cf_X12 ff_X12_199 rfl sh_141 rfl (by decide) rfl (by decide) (s_iload_n dX12_clears_58 2 rfl (s_lload_n dX12_clears_59 3 rfl (s_bipush dX12_clears_60 (by decide) (s_iload_n dX12_clears_62 1 rfl (n_sub (z := (100 - f)) dX12_clears_63 (wr_id (by omega) (by omega)) (s_i2l dX12_clears_64 (n_lmul (z := (0 * (100 - f))) dX12_clears_65 (wrL_id (by omega) (by omega)) (s_ldc2 (z := 100) dX12_clears_66 kc_X12_482 rfl (by unfold InL; decide) ?_)))))))))
            refine n_ldiv (z := (Int.tdiv (0 * (100 - f)) 100)) dX12_clears_69 (by omega) (wrL_id (by omega) (by omega)) (s_lastore 203 dX12_clears_70 rfl sh_203 (by decide) ⟨(by omega), (by omega)⟩ ?_)
            have hu : (Int.tdiv (0 * (100 - f)) 100) = (usM (w 202) (w 163) (w 141 4) f) i := by
              first
              | (rw [usM_0 (by omega), q2]; done)
              | (rw [usM_1 (by omega) (by omega) (by omega), q3]; done)
              | (rw [usM_2 (by omega) (fun x => by omega)]; done)
            refine s_aload_n dX12_clears_71 0 rfl rfl (n_getc (q := 206) 141 93 216 dX12_clears_72 cf_X12 ff_X12_208 rfl sh_141 rfl (by decide) rfl (by decide) (s_iload_n dX12_clears_75 2 rfl (s_lconst (z := 0) dX12_clears_76 rfl (s_lastore 206 dX12_clears_77 rfl sh_206 (by decide) ⟨(by omega), (by omega)⟩ (s_iconst dX12_clears_78 (by decide) (s_istore (ls' := [(0, (2, 141)), (1, (0, f)), (2, (0, i)), (3, (1, 0)), (5, (0, 0))]) dX12_clears_79 (Nat.le_of_ble_eq_true rfl) rfl ?_))))))
            exact At.keep (ls' := [(0, (2, 141)), (1, (0, f)), (2, (0, i)), (5, (0, 0))]) [0, 1, 2, 4] rfl (L_81 _ i 0 (wu (wu v9 203 i (Int.tdiv (0 * (100 - f)) 100)) 206 i 0) (by omega) (by omega) ⟨fun k j a b d => by rw [wu_ne d, wu_ne a]; exact hs.1 k j a b d, fun j a b => by rw [wu_ne (by decide), wu_at]; exact (if e : j = i then (by rw [if_pos e, e]; exact hu) else (by rw [if_neg e]; exact hs.2.1 j a (by omega))), fun j a b => by rw [wu_at, if_neg (by omega), wu_ne (by decide)]; exact hs.2.2.1 j a b, fun j a b => by rw [wu_ne (by decide), wu_ne (by decide)]; exact hs.2.2.2 j a b⟩ (wu_same _ _ _ _) (fun v hv => L_116 i v hi9 hv (fun v hv => ih (i + 1) v (by omega) hv (by omega))) (Nat.lt_succ_self _))
          · skip
            refine s_aload_n dX12_clears_32 0 rfl rfl (n_getc (q := 163) 141 31 173 dX12_clears_33 cf_X12 ff_X12_73 rfl sh_141 rfl (by decide) rfl (by decide) (s_iload_n dX12_clears_36 2 rfl (n_lald 163 dX12_clears_37 rfl sh_163 (by decide) ⟨(by omega), (by omega)⟩ (v := (v9 163 i)) rfl (s_lconst (z := 0) dX12_clears_38 rfl (s_lcmp dX12_clears_39 (s_if_le 52 dX12_clears_40 (by decide) (fun c_40 => ?_) (fun c_40 => ?_)))))))
            · skip
              refine s_lconst (z := 0) dX12_clears_52 rfl (s_lstore_n (ls' := [(0, (2, 141)), (1, (0, f)), (2, (0, i)), (3, (1, 0))]) dX12_clears_53 (Nat.le_of_ble_eq_true rfl) rfl ?_)
              have b3 : (0 : Int) ≤ (0 : Int) ∧ (0 : Int) ≤ 1000000000000 := by omega
              have b4 := mul_bd b3 (show 0 ≤ 100 - f ∧ 100 - f ≤ 100 by omega)
              have b5 := tdiv_bd b4.1 (show (0 : Int) < 100 by decide)
              refine s_aload_n dX12_clears_54 0 rfl rfl (n_getc (q := 203) 141 90 213 dX12_clears_55 cf_X12 ff_X12_199 rfl sh_141 rfl (by decide) rfl (by decide) (s_iload_n dX12_clears_58 2 rfl (s_lload_n dX12_clears_59 3 rfl (s_bipush dX12_clears_60 (by decide) (s_iload_n dX12_clears_62 1 rfl (n_sub (z := (100 - f)) dX12_clears_63 (wr_id (by omega) (by omega)) (s_i2l dX12_clears_64 (n_lmul (z := (0 * (100 - f))) dX12_clears_65 (wrL_id (by omega) (by omega)) (s_ldc2 (z := 100) dX12_clears_66 kc_X12_482 rfl (by unfold InL; decide) ?_)))))))))
              refine n_ldiv (z := (Int.tdiv (0 * (100 - f)) 100)) dX12_clears_69 (by omega) (wrL_id (by omega) (by omega)) (s_lastore 203 dX12_clears_70 rfl sh_203 (by decide) ⟨(by omega), (by omega)⟩ ?_)
              have hu : (Int.tdiv (0 * (100 - f)) 100) = (usM (w 202) (w 163) (w 141 4) f) i := by
                first
                | (rw [usM_0 (by omega), q2]; done)
                | (rw [usM_1 (by omega) (by omega) (by omega), q3]; done)
                | (rw [usM_2 (by omega) (fun x => by omega)]; done)
              refine s_aload_n dX12_clears_71 0 rfl rfl (n_getc (q := 206) 141 93 216 dX12_clears_72 cf_X12 ff_X12_208 rfl sh_141 rfl (by decide) rfl (by decide) (s_iload_n dX12_clears_75 2 rfl (s_lconst (z := 0) dX12_clears_76 rfl (s_lastore 206 dX12_clears_77 rfl sh_206 (by decide) ⟨(by omega), (by omega)⟩ (s_iconst dX12_clears_78 (by decide) (s_istore (ls' := [(0, (2, 141)), (1, (0, f)), (2, (0, i)), (3, (1, 0)), (5, (0, 0))]) dX12_clears_79 (Nat.le_of_ble_eq_true rfl) rfl ?_))))))
              exact At.keep (ls' := [(0, (2, 141)), (1, (0, f)), (2, (0, i)), (5, (0, 0))]) [0, 1, 2, 4] rfl (L_81 _ i 0 (wu (wu v9 203 i (Int.tdiv (0 * (100 - f)) 100)) 206 i 0) (by omega) (by omega) ⟨fun k j a b d => by rw [wu_ne d, wu_ne a]; exact hs.1 k j a b d, fun j a b => by rw [wu_ne (by decide), wu_at]; exact (if e : j = i then (by rw [if_pos e, e]; exact hu) else (by rw [if_neg e]; exact hs.2.1 j a (by omega))), fun j a b => by rw [wu_at, if_neg (by omega), wu_ne (by decide)]; exact hs.2.2.1 j a b, fun j a b => by rw [wu_ne (by decide), wu_ne (by decide)]; exact hs.2.2.2 j a b⟩ (wu_same _ _ _ _) (fun v hv => L_116 i v hi9 hv (fun v hv => ih (i + 1) v (by omega) hv (by omega))) (Nat.lt_succ_self _))
            · skip
              refine s_aload_n dX12_clears_43 0 rfl rfl (n_getc (q := 163) 141 31 173 dX12_clears_44 cf_X12 ff_X12_73 rfl sh_141 rfl (by decide) rfl (by decide) (s_iload_n dX12_clears_47 2 rfl (n_lald 163 dX12_clears_48 rfl sh_163 (by decide) ⟨(by omega), (by omega)⟩ (v := (v9 163 i)) rfl (s_goto 53 dX12_clears_49 (by decide) (s_lstore_n (ls' := [(0, (2, 141)), (1, (0, f)), (2, (0, i)), (3, (1, (v9 163 i)))]) dX12_clears_53 (Nat.le_of_ble_eq_true rfl) rfl ?_)))))
              have b3 : (0 : Int) ≤ ((v9 163 i) : Int) ∧ ((v9 163 i) : Int) ≤ 1000000000000 := by omega
              have b4 := mul_bd b3 (show 0 ≤ 100 - f ∧ 100 - f ≤ 100 by omega)
              have b5 := tdiv_bd b4.1 (show (0 : Int) < 100 by decide)
              refine s_aload_n dX12_clears_54 0 rfl rfl (n_getc (q := 203) 141 90 213 dX12_clears_55 cf_X12 ff_X12_199 rfl sh_141 rfl (by decide) rfl (by decide) (s_iload_n dX12_clears_58 2 rfl (s_lload_n dX12_clears_59 3 rfl (s_bipush dX12_clears_60 (by decide) (s_iload_n dX12_clears_62 1 rfl (n_sub (z := (100 - f)) dX12_clears_63 (wr_id (by omega) (by omega)) (s_i2l dX12_clears_64 (n_lmul (z := ((v9 163 i) * (100 - f))) dX12_clears_65 (wrL_id (by omega) (by omega)) (s_ldc2 (z := 100) dX12_clears_66 kc_X12_482 rfl (by unfold InL; decide) ?_)))))))))
              refine n_ldiv (z := (Int.tdiv ((v9 163 i) * (100 - f)) 100)) dX12_clears_69 (by omega) (wrL_id (by omega) (by omega)) (s_lastore 203 dX12_clears_70 rfl sh_203 (by decide) ⟨(by omega), (by omega)⟩ ?_)
              have hu : (Int.tdiv ((v9 163 i) * (100 - f)) 100) = (usM (w 202) (w 163) (w 141 4) f) i := by
                first
                | (rw [usM_0 (by omega), q2]; done)
                | (rw [usM_1 (by omega) (by omega) (by omega), q3]; done)
                | (rw [usM_2 (by omega) (fun x => by omega)]; done)
              refine s_aload_n dX12_clears_71 0 rfl rfl (n_getc (q := 206) 141 93 216 dX12_clears_72 cf_X12 ff_X12_208 rfl sh_141 rfl (by decide) rfl (by decide) (s_iload_n dX12_clears_75 2 rfl (s_lconst (z := 0) dX12_clears_76 rfl (s_lastore 206 dX12_clears_77 rfl sh_206 (by decide) ⟨(by omega), (by omega)⟩ (s_iconst dX12_clears_78 (by decide) (s_istore (ls' := [(0, (2, 141)), (1, (0, f)), (2, (0, i)), (3, (1, (v9 163 i))), (5, (0, 0))]) dX12_clears_79 (Nat.le_of_ble_eq_true rfl) rfl ?_))))))
              exact At.keep (ls' := [(0, (2, 141)), (1, (0, f)), (2, (0, i)), (5, (0, 0))]) [0, 1, 2, 4] rfl (L_81 _ i 0 (wu (wu v9 203 i (Int.tdiv ((v9 163 i) * (100 - f)) 100)) 206 i 0) (by omega) (by omega) ⟨fun k j a b d => by rw [wu_ne d, wu_ne a]; exact hs.1 k j a b d, fun j a b => by rw [wu_ne (by decide), wu_at]; exact (if e : j = i then (by rw [if_pos e, e]; exact hu) else (by rw [if_neg e]; exact hs.2.1 j a (by omega))), fun j a b => by rw [wu_at, if_neg (by omega), wu_ne (by decide)]; exact hs.2.2.1 j a b, fun j a b => by rw [wu_ne (by decide), wu_ne (by decide)]; exact hs.2.2.2 j a b⟩ (wu_same _ _ _ _) (fun v hv => L_116 i v hi9 hv (fun v hv => ih (i + 1) v (by omega) hv (by omega))) (Nat.lt_succ_self _))
        · skip
          refine s_aload_n dX12_clears_14 0 rfl rfl (n_getc (q := 202) 141 89 212 dX12_clears_15 cf_X12 ff_X12_196 rfl sh_141 rfl (by decide) rfl (by decide) (s_iload_n dX12_clears_18 2 rfl (n_iald 202 dX12_clears_19 rfl sh_202 (by decide) ⟨(by omega), (by omega)⟩ (v := (v9 202 i)) rfl (s_i2l dX12_clears_20 (s_goto 53 dX12_clears_21 (by decide) (s_lstore_n (ls' := [(0, (2, 141)), (1, (0, f)), (2, (0, i)), (3, (1, (v9 202 i)))]) dX12_clears_53 (Nat.le_of_ble_eq_true rfl) rfl ?_))))))
          have b3 : (0 : Int) ≤ ((v9 202 i) : Int) ∧ ((v9 202 i) : Int) ≤ 1000000000000 := by omega
          have b4 := mul_bd b3 (show 0 ≤ 100 - f ∧ 100 - f ≤ 100 by omega)
          have b5 := tdiv_bd b4.1 (show (0 : Int) < 100 by decide)
          refine s_aload_n dX12_clears_54 0 rfl rfl (n_getc (q := 203) 141 90 213 dX12_clears_55 cf_X12 ff_X12_199 rfl sh_141 rfl (by decide) rfl (by decide) (s_iload_n dX12_clears_58 2 rfl (s_lload_n dX12_clears_59 3 rfl (s_bipush dX12_clears_60 (by decide) (s_iload_n dX12_clears_62 1 rfl (n_sub (z := (100 - f)) dX12_clears_63 (wr_id (by omega) (by omega)) (s_i2l dX12_clears_64 (n_lmul (z := ((v9 202 i) * (100 - f))) dX12_clears_65 (wrL_id (by omega) (by omega)) (s_ldc2 (z := 100) dX12_clears_66 kc_X12_482 rfl (by unfold InL; decide) ?_)))))))))
          refine n_ldiv (z := (Int.tdiv ((v9 202 i) * (100 - f)) 100)) dX12_clears_69 (by omega) (wrL_id (by omega) (by omega)) (s_lastore 203 dX12_clears_70 rfl sh_203 (by decide) ⟨(by omega), (by omega)⟩ ?_)
          have hu : (Int.tdiv ((v9 202 i) * (100 - f)) 100) = (usM (w 202) (w 163) (w 141 4) f) i := by
            first
            | (rw [usM_0 (by omega), q2]; done)
            | (rw [usM_1 (by omega) (by omega) (by omega), q3]; done)
            | (rw [usM_2 (by omega) (fun x => by omega)]; done)
          refine s_aload_n dX12_clears_71 0 rfl rfl (n_getc (q := 206) 141 93 216 dX12_clears_72 cf_X12 ff_X12_208 rfl sh_141 rfl (by decide) rfl (by decide) (s_iload_n dX12_clears_75 2 rfl (s_lconst (z := 0) dX12_clears_76 rfl (s_lastore 206 dX12_clears_77 rfl sh_206 (by decide) ⟨(by omega), (by omega)⟩ (s_iconst dX12_clears_78 (by decide) (s_istore (ls' := [(0, (2, 141)), (1, (0, f)), (2, (0, i)), (3, (1, (v9 202 i))), (5, (0, 0))]) dX12_clears_79 (Nat.le_of_ble_eq_true rfl) rfl ?_))))))
          exact At.keep (ls' := [(0, (2, 141)), (1, (0, f)), (2, (0, i)), (5, (0, 0))]) [0, 1, 2, 4] rfl (L_81 _ i 0 (wu (wu v9 203 i (Int.tdiv ((v9 202 i) * (100 - f)) 100)) 206 i 0) (by omega) (by omega) ⟨fun k j a b d => by rw [wu_ne d, wu_ne a]; exact hs.1 k j a b d, fun j a b => by rw [wu_ne (by decide), wu_at]; exact (if e : j = i then (by rw [if_pos e, e]; exact hu) else (by rw [if_neg e]; exact hs.2.1 j a (by omega))), fun j a b => by rw [wu_at, if_neg (by omega), wu_ne (by decide)]; exact hs.2.2.1 j a b, fun j a b => by rw [wu_ne (by decide), wu_ne (by decide)]; exact hs.2.2.2 j a b⟩ (wu_same _ _ _ _) (fun v hv => L_116 i v hi9 hv (fun v hv => ih (i + 1) v (by omega) hv (by omega))) (Nat.lt_succ_self _))
  refine s_iconst dX12_clears_0 (by decide) (s_istore_n (ls' := [(0, (2, 141)), (1, (0, f)), (2, (0, 0))]) dX12_clears_1 (Nat.le_of_ble_eq_true rfl) rfl ?_)
  exact L_2 _ 0 w (by omega) ⟨fun _ _ _ _ _ => rfl, fun j a b => by omega, fun j a b => by omega, fun j a b => by omega⟩ (Nat.lt_succ_self _)
