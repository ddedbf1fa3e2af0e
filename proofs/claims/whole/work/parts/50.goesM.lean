/-! GOES, the reference. -/
theorem snG_1 {W cap pr : Int → Int} {n : Nat} {c : Int} {S : Sn} (h : 0 < S.1 ∧ bhS W cap pr n S ≠ -1) : snG W cap pr n c n S = snG W cap pr n c n (sn1 W cap pr n c S) := by
  have hp := (sn1_p (c := c) h).1
  obtain ⟨f, hf⟩ : ∃ f : Nat, S.1 = ((f + 1 : Nat) : Int) := ⟨(S.1 - 1).toNat, by omega⟩
  rw [← snG_eq (W := W) (cap := cap) (pr := pr) (n := n) (c := c) (S := S) (f := f + 1) (by omega), snG_go h, snG_eq (by omega)]
/-- lookers and goings when the first c crowds have gone -/
def wkG (W : Int → Int → Int) (cap pr many lk0 : Int → Int) (n : Nat) : Nat → (Int → Int) × List (Int × Int)
  | 0 => (lk0, [])
  | c + 1 => (snG (W c) cap pr n c n (many c, (wkG W cap pr many lk0 n c).1, (wkG W cap pr many lk0 n c).2)).2
theorem wkG_s {W : Int → Int → Int} {cap pr many lk0 : Int → Int} {n : Nat} {c : Int} (h : 0 ≤ c) : wkG W cap pr many lk0 n (c + 1).toNat = (snG (W c) cap pr n c n (many c, (wkG W cap pr many lk0 n c.toNat).1, (wkG W cap pr many lk0 n c.toNat).2)).2 := by rw [toN_s h, wkG, toN_c h]
def zeF (f : Int → Int) (n : Int) : Int → Int := fun h => if 0 ≤ h ∧ h < n then 0 else f h
abbrev WMx (w : Wd) : Int → Int → Int := fun c h => w 188 (16 * c + h)
abbrev capM (w : Wd) : Int → Int := fun h => 7 * w 156 h
/-- going writes these cells, and the field 75 -/
def FrT (w v : Wd) : Prop := (∀ c, c ≠ 187 → c ≠ 159 → c ≠ 189 → c ≠ 190 → c ≠ 141 → v c = w c) ∧ ∀ j : Int, j ≠ 75 → v 141 j = w 141 j
theorem FrT.rf {w : Wd} : FrT w w := ⟨fun _ _ _ _ _ _ => rfl, fun _ _ => rfl⟩
/-- goings: crowd, and the print in the hall -/
def StM (w v : Wd) (S : Sn) : Prop := v 159 = S.2.1 ∧ (∀ h : Int, 0 ≤ h → h < w 141 4 → v 187 h = capM w h - S.2.1 h) ∧ v 141 75 = S.2.2.length ∧ ∀ j : Nat, j < S.2.2.length → v 189 j = (S.2.2.getD j (0, 0)).1 ∧ v 190 j = prM w (S.2.2.getD j (0, 0)).2
theorem StM_step {w v : Wd} {W cap pr : Int → Int} {n : Nat} {c b x : Int} {S : Sn} (h : StM w v S) (hcap : cap = capM w) (hb : b = bhS W cap pr n S) (hb0 : 0 ≤ b ∧ b < w 141 4) (hx : x = mnL S.1 (cap b - S.2.1 b)) :
    StM w (wu (wu (wu (wu (wu v 187 b (v 187 b - x)) 159 b (v 159 b + x)) 189 (v 141 75) c) 190 (v 141 75) (prM w b)) 141 75 (v 141 75 + 1)) (sn1 W cap pr n c S) := by
  obtain ⟨h1, h2, h3, h4⟩ := h
  have e1 : (sn1 W cap pr n c S).2.1 = updF S.2.1 b (S.2.1 b + x) := by rw [hx, hb]; rfl
  have e2 : (sn1 W cap pr n c S).2.2 = S.2.2 ++ [(c, b)] := by rw [hb]; rfl
  refine ⟨?_, fun k k0 k1 => ?_, ?_, ?_⟩
  · rw [e1, wu_ne (by decide), wu_ne (by decide), wu_ne (by decide)]
    funext i
    rw [wu_at, h1, wu_ne (by decide)]
    unfold updF
    by_cases e : i = b
    · rw [if_pos e, if_pos e]
    · rw [if_neg e, if_neg e, h1]
  · rw [e1, wu_ne (by decide), wu_ne (by decide), wu_ne (by decide), wu_ne (by decide), wu_at]
    unfold updF
    by_cases e : k = b
    · rw [if_pos e, if_pos e, h2 b hb0.1 hb0.2, e]
      omega
    · rw [if_neg e, if_neg e, h2 k k0 k1]
  · rw [e2, wu_same, h3, List.length_append]
    simp
  · have g1 : wu (wu (wu (wu (wu v 187 b (v 187 b - x)) 159 b (v 159 b + x)) 189 (v 141 75) c) 190 (v 141 75) (prM w b)) 141 75 (v 141 75 + 1) 189 = updF (v 189) (v 141 75) c := by
      funext i
      rw [wu_ne (by decide), wu_ne (by decide), wu_at, wu_ne (by decide), wu_ne (by decide)]
      rfl
    have g2 : wu (wu (wu (wu (wu v 187 b (v 187 b - x)) 159 b (v 159 b + x)) 189 (v 141 75) c) 190 (v 141 75) (prM w b)) 141 75 (v 141 75 + 1) 190 = updF (v 190) (v 141 75) (prM w b) := by
      funext i
      rw [wu_ne (by decide), wu_at, wu_ne (by decide), wu_ne (by decide), wu_ne (by decide)]
      rfl
    rw [e2, g1, g2]
    intro j hj
    simp only [List.length_append, List.length_cons, List.length_nil] at hj
    unfold updF
    rw [h3]
    by_cases e : j = S.2.2.length
    · subst e
      rw [if_pos rfl, if_pos rfl]
      simp
    · have := h4 j (by omega)
      rw [if_neg (by omega), if_neg (by omega), List.getD_eq_getElem?_getD, List.getElem?_append_left (by omega), ← List.getD_eq_getElem?_getD]
      exact this

theorem choice_S (w u : Wd) (c : Int) (S : Sn) (hn : 0 ≤ w 141 4 ∧ w 141 4 ≤ 16) (hc : 0 ≤ c ∧ c < 16) (hfw : FrT w u) (hsw : StM w u S) (hok : OkS (capM w) (w 141 4).toNat c S) : CallN 1 mX12_choice [(2, 141), (0, c)] u (RV (0, bhS (WMx w c) (capM w) (w 157) (w 141 4).toNat S) u) := by
  have p4 : u 141 4 = w 141 4 := hfw.2 4 (by decide)
  have hz := c_M_choice c u (by rw [p4]; exact hn) hc (by rw [p4]; exact fun h a b => by rw [hsw.2.1 h a b]; have := hok.1 h a (by omega); omega)
  have e1 : u 188 = w 188 := hfw.1 188 (by decide) (by decide) (by decide) (by decide) (by decide)
  have e2 : u 157 = w 157 := hfw.1 157 (by decide) (by decide) (by decide) (by decide) (by decide)
  have e3 : bhV (fun h => u 188 (16 * c + h)) (u 187) (u 157) (u 141 4).toNat = bhS (WMx w c) (capM w) (w 157) (w 141 4).toNat S := by
    rw [p4, e1, e2]
    exact bhV_c _ (fun h a b => ⟨rfl, by rw [hsw.2.1 h a (by omega)], rfl⟩)
  rw [e3] at hz
  exact hz

set_option maxRecDepth 100000 in
set_option maxHeartbeats 4000000 in
theorem c_M_goes (w : Wd) (hn : 0 ≤ w 141 4 ∧ w 141 4 ≤ 16) (hcr : 0 ≤ w 141 6 ∧ w 141 6 ≤ 16) (hpn : 0 ≤ w 141 2 ∧ w 141 2 ≤ 30) (hst : ∀ h, 0 ≤ h → h < w 141 4 → 0 ≤ w 156 h ∧ w 156 h ≤ 999) (hmy : ∀ c, 0 ≤ c → c < w 141 6 → 0 ≤ w 184 c ∧ w 184 c ≤ 9999) : CallN 3 mX12_goes [(2, 141)] w (RUQ (fun w1 => FrT w w1 ∧ ∀ x, StM w w1 (x, wkG (WMx w) (capM w) (w 157) (w 184) (zeF (w 159) (w 141 4)) (w 141 4).toNat (w 141 6).toNat))) := by
  refine CallN.intro (by decide +kernel) (Nat.le_of_ble_eq_true rfl) (fun ρ hR => ?_)
  show AtN mX12_goes 3 ρ 0 [(0, (2, 141))] [] w
  have L_66 : ∀ (fu : Nat) (c : Int) (r : Int) (h : Int) (v9 : Wd) (S : Sn), 0 ≤ c ∧ c < w 141 6 → r = S.1 → h = bhS (WMx w c) (capM w) (w 157) (w 141 4).toNat S → FrT w v9 → StM w v9 S → OkS (capM w) (w 141 4).toNat c S → snG (WMx w c) (capM w) (w 157) (w 141 4).toNat c (w 141 4).toNat S = snG (WMx w c) (capM w) (w 157) (w 141 4).toNat c (w 141 4).toNat (w 184 c, (wkG (WMx w) (capM w) (w 157) (w 184) (zeF (w 159) (w 141 4)) (w 141 4).toNat c.toNat).1, (wkG (WMx w) (capM w) (w 157) (w 184) (zeF (w 159) (w 141 4)) (w 141 4).toNat c.toNat).2) → (∀ v : Wd, FrT w v → (∀ x, StM w v (x, wkG (WMx w) (capM w) (w 157) (w 184) (zeF (w 159) (w 141 4)) (w 141 4).toNat (c + 1).toNat)) → OkS (capM w) (w 141 4).toNat c (0, wkG (WMx w) (capM w) (w 157) (w 184) (zeF (w 159) (w 141 4)) (w 141 4).toNat (c + 1).toNat) → AtN mX12_goes 3 ρ 167 [(0, (2, 141)), (1, (0, c))] [] v) → r.toNat < fu → AtN mX12_goes 3 ρ 66 [(0, (2, 141)), (1, (0, c)), (2, (0, r)), (3, (0, h))] [] v9 := by
    intro fu
    induction fu with
    | zero => intro c r h v9 S hci hr hh hf9 hS hO hG hK hm; exact absurd hm (Nat.not_lt_zero _)
    | succ fu ih =>
      intro c r h v9 S hci hr hh hf9 hS hO hG hK hm
      have q4 : v9 141 4 = w 141 4 := hf9.2 4 (by decide)
      have q6 : v9 141 6 = w 141 6 := hf9.2 6 (by decide)
      have q2 : v9 141 2 = w 141 2 := hf9.2 2 (by decide)
      have q188 : v9 188 = w 188 := hf9.1 188 (by decide) (by decide) (by decide) (by decide) (by decide)
      have q157 : v9 157 = w 157 := hf9.1 157 (by decide) (by decide) (by decide) (by decide) (by decide)
      have q184 : v9 184 = w 184 := hf9.1 184 (by decide) (by decide) (by decide) (by decide) (by decide)
      have q149 : v9 149 = w 149 := hf9.1 149 (by decide) (by decide) (by decide) (by decide) (by decide)
      have hO4 := hO.2.2.2
      refine s_iload_n dX12_goes_66 2 rfl (s_if_le 167 dX12_goes_67 (by decide) (fun c_67 => ?_) (fun c_67 => ?_))
      · skip
        have hfin : snG (WMx w c) (capM w) (w 157) (w 141 4).toNat c (w 141 4).toNat S = S := snG_st (fun q => by have q1 := q.1; have q2 := q.2; rw [← hh] at q2; omega)
        rw [hfin] at hG
        have hw1 : wkG (WMx w) (capM w) (w 157) (w 184) (zeF (w 159) (w 141 4)) (w 141 4).toNat (c + 1).toNat = S.2 := by rw [wkG_s hci.1, ← hG]
        exact At.keep (ls' := [(0, (2, 141)), (1, (0, c))]) [0, 1] rfl (hK v9 hf9 (fun x => by rw [hw1]; exact hS) ⟨fun k a b => by rw [hw1]; exact hO.1 k a b, by rw [hw1]; exact hO.2.1, fun q => absurd q (Int.lt_irrefl 0), Int.le_refl 0, (by show (0 : Int) ≤ 9999; decide)⟩)
      · skip
        refine s_iload_n dX12_goes_70 3 rfl (s_iconst dX12_goes_71 (by decide) (s_icmp_eq 167 dX12_goes_72 (by decide) (fun c_72 => ?_) (fun c_72 => ?_)))
        · skip
          have hfin : snG (WMx w c) (capM w) (w 157) (w 141 4).toNat c (w 141 4).toNat S = S := snG_st (fun q => by have q1 := q.1; have q2 := q.2; rw [← hh] at q2; omega)
          rw [hfin] at hG
          have hw1 : wkG (WMx w) (capM w) (w 157) (w 184) (zeF (w 159) (w 141 4)) (w 141 4).toNat (c + 1).toNat = S.2 := by rw [wkG_s hci.1, ← hG]
          exact At.keep (ls' := [(0, (2, 141)), (1, (0, c))]) [0, 1] rfl (hK v9 hf9 (fun x => by rw [hw1]; exact hS) ⟨fun k a b => by rw [hw1]; exact hO.1 k a b, by rw [hw1]; exact hO.2.1, fun q => absurd q (Int.lt_irrefl 0), Int.le_refl 0, (by show (0 : Int) ≤ 9999; decide)⟩)
        · skip
          have hgo : 0 < S.1 ∧ bhS (WMx w c) (capM w) (w 157) (w 141 4).toNat S ≠ -1 := ⟨by omega, by rw [← hh]; omega⟩
          have hbp := bhV_p (W := WMx w c) (pl := fun h => capM w h - S.2.1 h) (pr := w 157) (w 141 4).toNat
          have hbp2 : 0 ≤ h ∧ h < w 141 4 ∧ 0 < capM w h - S.2.1 h := by
            rw [hh]
            rcases hbp with q | ⟨z1, z2, z3, z4⟩
            · exact absurd q hgo.2
            · exact ⟨z1, Int.lt_of_lt_of_le z2 (by omega), z3⟩
          clear hbp
          have hsp := sn1_p (c := c) hgo
          have hOn := OkS_step (c := c) hO hgo
          have hlen := hO.2.2.1 hgo.1
          have hO1 := hO.1 h hbp2.1 (by omega)
          have hl187 := hS.2.1 h hbp2.1 hbp2.2.1
          have hst9 := hst h hbp2.1 hbp2.2.1
          have e159 : v9 159 h = S.2.1 h := by rw [hS.1]
          have hg75 := hS.2.2.1
          have hcapE : capM w h = 7 * w 156 h := rfl
          have hmn : 0 ≤ mnL S.1 (capM w h - S.2.1 h) ∧ mnL S.1 (capM w h - S.2.1 h) ≤ S.1 ∧ mnL S.1 (capM w h - S.2.1 h) ≤ capM w h - S.2.1 h := by unfold mnL; split <;> omega
          refine s_iload_n dX12_goes_75 2 rfl (s_aload_n dX12_goes_76 0 rfl rfl (n_getc (q := 187) 141 71 197 dX12_goes_77 cf_X12 ff_X12_150 rfl sh_141 rfl (by decide) rfl (by decide) (s_iload_n dX12_goes_80 3 rfl (n_iald 187 dX12_goes_81 rfl sh_187 (by decide) ⟨(by omega), (by omega)⟩ (v := (v9 187 h)) rfl (s_icmp_ge 89 dX12_goes_82 (by decide) (fun c_82 => ?_) (fun c_82 => ?_))))))
          · skip
            refine s_aload_n dX12_goes_89 0 rfl rfl (n_getc (q := 187) 141 71 197 dX12_goes_90 cf_X12 ff_X12_150 rfl sh_141 rfl (by decide) rfl (by decide) (s_iload_n dX12_goes_93 3 rfl (n_iald 187 dX12_goes_94 rfl sh_187 (by decide) ⟨(by omega), (by omega)⟩ (v := (v9 187 h)) rfl (s_istore (ls' := [(0, (2, 141)), (1, (0, c)), (2, (0, r)), (3, (0, h)), (4, (0, (v9 187 h)))]) dX12_goes_95 (Nat.le_of_ble_eq_true rfl) rfl ?_))))
            have hx : (v9 187 h) = mnL S.1 (capM w h - S.2.1 h) := by unfold mnL; split <;> omega
            refine s_aload_n dX12_goes_97 0 rfl rfl (n_getc (q := 187) 141 71 197 dX12_goes_98 cf_X12 ff_X12_150 rfl sh_141 rfl (by decide) rfl (by decide) (s_iload_n dX12_goes_101 3 rfl (s_dup2 dX12_goes_102 (show (0 : Nat) ≠ 1 by decide) (show (2 : Nat) ≠ 1 by decide) (n_iald 187 dX12_goes_103 rfl sh_187 (by decide) ⟨(by omega), (by omega)⟩ (v := (v9 187 h)) rfl (s_iload dX12_goes_104 4 rfl (n_sub (z := ((v9 187 h) - (v9 187 h))) dX12_goes_106 (wr_id (by omega) (by omega)) (s_iastore 187 dX12_goes_107 rfl sh_187 (by decide) ⟨(by omega), (by omega)⟩ (s_iload_n dX12_goes_108 2 rfl (s_iload dX12_goes_109 4 rfl ?_)))))))))
            refine n_sub (z := (r - (v9 187 h))) dX12_goes_111 (wr_id (by omega) (by omega)) (s_istore_n (ls' := [(0, (2, 141)), (1, (0, c)), (2, (0, (r - (v9 187 h)))), (3, (0, h)), (4, (0, (v9 187 h)))]) dX12_goes_112 (Nat.le_of_ble_eq_true rfl) rfl (s_aload_n dX12_goes_113 0 rfl rfl (n_getc (q := 159) 141 27 169 dX12_goes_114 cf_X12 ff_X12_61 rfl sh_141 rfl (by decide) rfl (by decide) (s_iload_n dX12_goes_117 3 rfl (s_dup2 dX12_goes_118 (show (0 : Nat) ≠ 1 by decide) (show (2 : Nat) ≠ 1 by decide) (n_iald 159 dX12_goes_119 rfl sh_159 (by decide) ⟨(by omega), (by omega)⟩ (v := (v9 159 h)) rfl (s_iload dX12_goes_120 4 rfl (n_add (z := ((v9 159 h) + (v9 187 h))) dX12_goes_122 (wr_id (by omega) (by omega)) (s_iastore 159 dX12_goes_123 rfl sh_159 (by decide) ⟨(by omega), (by omega)⟩ ?_)))))))))
            refine s_aload_n dX12_goes_124 0 rfl rfl (n_getc (q := 189) 141 73 199 dX12_goes_125 cf_X12 ff_X12_156 rfl sh_141 rfl (by decide) rfl (by decide) (s_aload_n dX12_goes_128 0 rfl rfl (n_getf 141 75 0 dX12_goes_129 cf_X12 ff_X12_435 rfl sh_141 rfl (by decide) (v := (v9 141 75)) rfl (s_iload_n dX12_goes_132 1 rfl (s_iastore 189 dX12_goes_133 rfl sh_189 (by decide) ⟨(by omega), (by omega)⟩ (s_aload_n dX12_goes_134 0 rfl rfl (n_getc (q := 190) 141 74 200 dX12_goes_135 cf_X12 ff_X12_159 rfl sh_141 rfl (by decide) rfl (by decide) (s_aload_n dX12_goes_138 0 rfl rfl (n_getf 141 75 0 dX12_goes_139 cf_X12 ff_X12_435 rfl sh_141 rfl (by decide) (v := (v9 141 75)) rfl ?_)))))))))
            refine s_aload_n dX12_goes_142 0 rfl rfl (s_iload_n dX12_goes_143 3 rfl (n_invV (as := [(0, h)]) dX12_goes_144 kv_X12_printIn ml_X12_274 (show CallN 1 mX12_printIn [(2, 141), (0, h)] (wu (wu (wu v9 187 h ((v9 187 h) - (v9 187 h))) 159 h ((v9 159 h) + (v9 187 h))) 189 (v9 141 75) c) (RV (0, prM w h) (wu (wu (wu v9 187 h ((v9 187 h) - (v9 187 h))) 159 h ((v9 159 h) + (v9 187 h))) 189 (v9 141 75) c)) from (by have hz := c_M_printIn h (wu (wu (wu v9 187 h ((v9 187 h) - (v9 187 h))) 159 h ((v9 159 h) + (v9 187 h))) 189 (v9 141 75) c) (by show 0 ≤ v9 141 2 ∧ v9 141 2 ≤ 30; rw [q2]; exact hpn); have e : fst (((wu (wu (wu v9 187 h ((v9 187 h) - (v9 187 h))) 159 h ((v9 159 h) + (v9 187 h))) 189 (v9 141 75) c)) 149) h (((wu (wu (wu v9 187 h ((v9 187 h) - (v9 187 h))) 159 h ((v9 159 h) + (v9 187 h))) 189 (v9 141 75) c)) 141 2).toNat = prM w h := (by show fst (v9 149) h (v9 141 2).toNat = _; rw [q149, q2]; rfl); rw [e] at hz; exact hz)) (by decide) 141 cf_X12 rfl sh_141 rfl rfl rfl (Nat.le_of_ble_eq_true rfl) (s_iastore 190 dX12_goes_147 rfl sh_190 (by decide) ⟨(by omega), (by omega)⟩ (s_aload_n dX12_goes_148 0 rfl rfl (s_dup dX12_goes_149 (show (2 : Nat) ≠ 1 by decide) (n_getf 141 75 0 dX12_goes_150 cf_X12 ff_X12_435 rfl sh_141 rfl (by decide) (v := (v9 141 75)) rfl (s_iconst dX12_goes_153 (by decide) (n_add (z := ((v9 141 75) + 1)) dX12_goes_154 (wr_id (by omega) (by omega)) (n_putf 141 75 75 dX12_goes_155 cf_X12 ff_X12_435 rfl rfl sh_141 rfl rfl rfl ?_)))))))))
            have hSn : StM w (wu (wu (wu (wu (wu v9 187 h ((v9 187 h) - (v9 187 h))) 159 h ((v9 159 h) + (v9 187 h))) 189 (v9 141 75) c) 190 (v9 141 75) (prM w h)) 141 75 ((v9 141 75) + 1)) (sn1 (WMx w c) (capM w) (w 157) (w 141 4).toNat c S) := by
              have h9 := StM_step (W := WMx w c) (cap := capM w) (pr := w 157) (n := (w 141 4).toNat) (c := c) hS rfl hh ⟨hbp2.1, hbp2.2.1⟩ hx
              exact h9
            have hfn : FrT w (wu (wu (wu (wu (wu v9 187 h ((v9 187 h) - (v9 187 h))) 159 h ((v9 159 h) + (v9 187 h))) 189 (v9 141 75) c) 190 (v9 141 75) (prM w h)) 141 75 ((v9 141 75) + 1)) := ⟨fun k k1 k2 k3 k4 k5 => by rw [wu_ne k5, wu_ne k4, wu_ne k3, wu_ne k2, wu_ne k1]; exact hf9.1 k k1 k2 k3 k4 k5, fun j hj => by rw [wu_at, if_neg hj, wu_ne (by decide), wu_ne (by decide), wu_ne (by decide), wu_ne (by decide)]; exact hf9.2 j hj⟩
            have hrn : r - (v9 187 h) = (sn1 (WMx w c) (capM w) (w 157) (w 141 4).toNat c S).1 := by
              show _ = S.1 - mnL S.1 (capM w (bhS (WMx w c) (capM w) (w 157) (w 141 4).toNat S) - S.2.1 (bhS (WMx w c) (capM w) (w 157) (w 141 4).toNat S))
              rw [← hh]
              omega
            refine s_aload_n dX12_goes_158 0 rfl rfl (s_iload_n dX12_goes_159 1 rfl (n_invV (as := [(0, c)]) dX12_goes_160 kv_X12_choice ml_X12_438 (choice_S w (wu (wu (wu (wu (wu v9 187 h ((v9 187 h) - (v9 187 h))) 159 h ((v9 159 h) + (v9 187 h))) 189 (v9 141 75) c) 190 (v9 141 75) (prM w h)) 141 75 ((v9 141 75) + 1)) c (sn1 (WMx w c) (capM w) (w 157) (w 141 4).toNat c S) hn ⟨by omega, by omega⟩ hfn hSn hOn) (by decide) 141 cf_X12 rfl sh_141 rfl rfl rfl (Nat.le_of_ble_eq_true rfl) (s_istore_n (ls' := [(0, (2, 141)), (1, (0, c)), (2, (0, (r - (v9 187 h)))), (3, (0, (bhS (WMx w c) (capM w) (w 157) (w 141 4).toNat (sn1 (WMx w c) (capM w) (w 157) (w 141 4).toNat c S)))), (4, (0, (v9 187 h)))]) dX12_goes_163 (Nat.le_of_ble_eq_true rfl) rfl (s_goto 66 dX12_goes_164 (by decide) ?_))))
            exact At.keep (ls' := [(0, (2, 141)), (1, (0, c)), (2, (0, (r - (v9 187 h)))), (3, (0, (bhS (WMx w c) (capM w) (w 157) (w 141 4).toNat (sn1 (WMx w c) (capM w) (w 157) (w 141 4).toNat c S))))]) [0, 1, 2, 3] rfl (ih c (r - (v9 187 h)) (bhS (WMx w c) (capM w) (w 157) (w 141 4).toNat (sn1 (WMx w c) (capM w) (w 157) (w 141 4).toNat c S)) (wu (wu (wu (wu (wu v9 187 h ((v9 187 h) - (v9 187 h))) 159 h ((v9 159 h) + (v9 187 h))) 189 (v9 141 75) c) 190 (v9 141 75) (prM w h)) 141 75 ((v9 141 75) + 1)) (sn1 (WMx w c) (capM w) (w 157) (w 141 4).toNat c S) (by omega) hrn rfl hfn hSn hOn ((snG_1 hgo).symm.trans hG) hK (by omega))
          · skip
            refine s_iload_n dX12_goes_85 2 rfl (s_goto 95 dX12_goes_86 (by decide) (s_istore (ls' := [(0, (2, 141)), (1, (0, c)), (2, (0, r)), (3, (0, h)), (4, (0, r))]) dX12_goes_95 (Nat.le_of_ble_eq_true rfl) rfl ?_))
            have hx : r = mnL S.1 (capM w h - S.2.1 h) := by unfold mnL; split <;> omega
            refine s_aload_n dX12_goes_97 0 rfl rfl (n_getc (q := 187) 141 71 197 dX12_goes_98 cf_X12 ff_X12_150 rfl sh_141 rfl (by decide) rfl (by decide) (s_iload_n dX12_goes_101 3 rfl (s_dup2 dX12_goes_102 (show (0 : Nat) ≠ 1 by decide) (show (2 : Nat) ≠ 1 by decide) (n_iald 187 dX12_goes_103 rfl sh_187 (by decide) ⟨(by omega), (by omega)⟩ (v := (v9 187 h)) rfl (s_iload dX12_goes_104 4 rfl (n_sub (z := ((v9 187 h) - r)) dX12_goes_106 (wr_id (by omega) (by omega)) (s_iastore 187 dX12_goes_107 rfl sh_187 (by decide) ⟨(by omega), (by omega)⟩ (s_iload_n dX12_goes_108 2 rfl (s_iload dX12_goes_109 4 rfl ?_)))))))))
            refine n_sub (z := (r - r)) dX12_goes_111 (wr_id (by omega) (by omega)) (s_istore_n (ls' := [(0, (2, 141)), (1, (0, c)), (2, (0, (r - r))), (3, (0, h)), (4, (0, r))]) dX12_goes_112 (Nat.le_of_ble_eq_true rfl) rfl (s_aload_n dX12_goes_113 0 rfl rfl (n_getc (q := 159) 141 27 169 dX12_goes_114 cf_X12 ff_X12_61 rfl sh_141 rfl (by decide) rfl (by decide) (s_iload_n dX12_goes_117 3 rfl (s_dup2 dX12_goes_118 (show (0 : Nat) ≠ 1 by decide) (show (2 : Nat) ≠ 1 by decide) (n_iald 159 dX12_goes_119 rfl sh_159 (by decide) ⟨(by omega), (by omega)⟩ (v := (v9 159 h)) rfl (s_iload dX12_goes_120 4 rfl (n_add (z := ((v9 159 h) + r)) dX12_goes_122 (wr_id (by omega) (by omega)) (s_iastore 159 dX12_goes_123 rfl sh_159 (by decide) ⟨(by omega), (by omega)⟩ ?_)))))))))
            refine s_aload_n dX12_goes_124 0 rfl rfl (n_getc (q := 189) 141 73 199 dX12_goes_125 cf_X12 ff_X12_156 rfl sh_141 rfl (by decide) rfl (by decide) (s_aload_n dX12_goes_128 0 rfl rfl (n_getf 141 75 0 dX12_goes_129 cf_X12 ff_X12_435 rfl sh_141 rfl (by decide) (v := (v9 141 75)) rfl (s_iload_n dX12_goes_132 1 rfl (s_iastore 189 dX12_goes_133 rfl sh_189 (by decide) ⟨(by omega), (by omega)⟩ (s_aload_n dX12_goes_134 0 rfl rfl (n_getc (q := 190) 141 74 200 dX12_goes_135 cf_X12 ff_X12_159 rfl sh_141 rfl (by decide) rfl (by decide) (s_aload_n dX12_goes_138 0 rfl rfl (n_getf 141 75 0 dX12_goes_139 cf_X12 ff_X12_435 rfl sh_141 rfl (by decide) (v := (v9 141 75)) rfl ?_)))))))))
            refine s_aload_n dX12_goes_142 0 rfl rfl (s_iload_n dX12_goes_143 3 rfl (n_invV (as := [(0, h)]) dX12_goes_144 kv_X12_printIn ml_X12_274 (show CallN 1 mX12_printIn [(2, 141), (0, h)] (wu (wu (wu v9 187 h ((v9 187 h) - r)) 159 h ((v9 159 h) + r)) 189 (v9 141 75) c) (RV (0, prM w h) (wu (wu (wu v9 187 h ((v9 187 h) - r)) 159 h ((v9 159 h) + r)) 189 (v9 141 75) c)) from (by have hz := c_M_printIn h (wu (wu (wu v9 187 h ((v9 187 h) - r)) 159 h ((v9 159 h) + r)) 189 (v9 141 75) c) (by show 0 ≤ v9 141 2 ∧ v9 141 2 ≤ 30; rw [q2]; exact hpn); have e : fst (((wu (wu (wu v9 187 h ((v9 187 h) - r)) 159 h ((v9 159 h) + r)) 189 (v9 141 75) c)) 149) h (((wu (wu (wu v9 187 h ((v9 187 h) - r)) 159 h ((v9 159 h) + r)) 189 (v9 141 75) c)) 141 2).toNat = prM w h := (by show fst (v9 149) h (v9 141 2).toNat = _; rw [q149, q2]; rfl); rw [e] at hz; exact hz)) (by decide) 141 cf_X12 rfl sh_141 rfl rfl rfl (Nat.le_of_ble_eq_true rfl) (s_iastore 190 dX12_goes_147 rfl sh_190 (by decide) ⟨(by omega), (by omega)⟩ (s_aload_n dX12_goes_148 0 rfl rfl (s_dup dX12_goes_149 (show (2 : Nat) ≠ 1 by decide) (n_getf 141 75 0 dX12_goes_150 cf_X12 ff_X12_435 rfl sh_141 rfl (by decide) (v := (v9 141 75)) rfl (s_iconst dX12_goes_153 (by decide) (n_add (z := ((v9 141 75) + 1)) dX12_goes_154 (wr_id (by omega) (by omega)) (n_putf 141 75 75 dX12_goes_155 cf_X12 ff_X12_435 rfl rfl sh_141 rfl rfl rfl ?_)))))))))
            have hSn : StM w (wu (wu (wu (wu (wu v9 187 h ((v9 187 h) - r)) 159 h ((v9 159 h) + r)) 189 (v9 141 75) c) 190 (v9 141 75) (prM w h)) 141 75 ((v9 141 75) + 1)) (sn1 (WMx w c) (capM w) (w 157) (w 141 4).toNat c S) := by
              have h9 := StM_step (W := WMx w c) (cap := capM w) (pr := w 157) (n := (w 141 4).toNat) (c := c) hS rfl hh ⟨hbp2.1, hbp2.2.1⟩ hx
              exact h9
            have hfn : FrT w (wu (wu (wu (wu (wu v9 187 h ((v9 187 h) - r)) 159 h ((v9 159 h) + r)) 189 (v9 141 75) c) 190 (v9 141 75) (prM w h)) 141 75 ((v9 141 75) + 1)) := ⟨fun k k1 k2 k3 k4 k5 => by rw [wu_ne k5, wu_ne k4, wu_ne k3, wu_ne k2, wu_ne k1]; exact hf9.1 k k1 k2 k3 k4 k5, fun j hj => by rw [wu_at, if_neg hj, wu_ne (by decide), wu_ne (by decide), wu_ne (by decide), wu_ne (by decide)]; exact hf9.2 j hj⟩
            have hrn : r - r = (sn1 (WMx w c) (capM w) (w 157) (w 141 4).toNat c S).1 := by
              show _ = S.1 - mnL S.1 (capM w (bhS (WMx w c) (capM w) (w 157) (w 141 4).toNat S) - S.2.1 (bhS (WMx w c) (capM w) (w 157) (w 141 4).toNat S))
              rw [← hh]
              omega
            refine s_aload_n dX12_goes_158 0 rfl rfl (s_iload_n dX12_goes_159 1 rfl (n_invV (as := [(0, c)]) dX12_goes_160 kv_X12_choice ml_X12_438 (choice_S w (wu (wu (wu (wu (wu v9 187 h ((v9 187 h) - r)) 159 h ((v9 159 h) + r)) 189 (v9 141 75) c) 190 (v9 141 75) (prM w h)) 141 75 ((v9 141 75) + 1)) c (sn1 (WMx w c) (capM w) (w 157) (w 141 4).toNat c S) hn ⟨by omega, by omega⟩ hfn hSn hOn) (by decide) 141 cf_X12 rfl sh_141 rfl rfl rfl (Nat.le_of_ble_eq_true rfl) (s_istore_n (ls' := [(0, (2, 141)), (1, (0, c)), (2, (0, (r - r))), (3, (0, (bhS (WMx w c) (capM w) (w 157) (w 141 4).toNat (sn1 (WMx w c) (capM w) (w 157) (w 141 4).toNat c S)))), (4, (0, r))]) dX12_goes_163 (Nat.le_of_ble_eq_true rfl) rfl (s_goto 66 dX12_goes_164 (by decide) ?_))))
            exact At.keep (ls' := [(0, (2, 141)), (1, (0, c)), (2, (0, (r - r))), (3, (0, (bhS (WMx w c) (capM w) (w 157) (w 141 4).toNat (sn1 (WMx w c) (capM w) (w 157) (w 141 4).toNat c S))))]) [0, 1, 2, 3] rfl (ih c (r - r) (bhS (WMx w c) (capM w) (w 157) (w 141 4).toNat (sn1 (WMx w c) (capM w) (w 157) (w 141 4).toNat c S)) (wu (wu (wu (wu (wu v9 187 h ((v9 187 h) - r)) 159 h ((v9 159 h) + r)) 189 (v9 141 75) c) 190 (v9 141 75) (prM w h)) 141 75 ((v9 141 75) + 1)) (sn1 (WMx w c) (capM w) (w 157) (w 141 4).toNat c S) (by omega) hrn rfl hfn hSn hOn ((snG_1 hgo).symm.trans hG) hK (by omega))
  have L_45 : ∀ (fu : Nat) (c : Int) (v9 : Wd), 0 ≤ c ∧ c ≤ w 141 6 → FrT w v9 → (∀ x, StM w v9 (x, wkG (WMx w) (capM w) (w 157) (w 184) (zeF (w 159) (w 141 4)) (w 141 4).toNat c.toNat)) → OkS (capM w) (w 141 4).toNat (c - 1) (0, wkG (WMx w) (capM w) (w 157) (w 184) (zeF (w 159) (w 141 4)) (w 141 4).toNat c.toNat) → (w 141 6 - c).toNat < fu → AtN mX12_goes 3 ρ 45 [(0, (2, 141)), (1, (0, c))] [] v9 := by
    intro fu
    induction fu with
    | zero => intro c v9 hci hf9 hS hO hm; exact absurd hm (Nat.not_lt_zero _)
    | succ fu ih =>
      intro c v9 hci hf9 hS hO hm
      have q4 : v9 141 4 = w 141 4 := hf9.2 4 (by decide)
      have q6 : v9 141 6 = w 141 6 := hf9.2 6 (by decide)
      have q2 : v9 141 2 = w 141 2 := hf9.2 2 (by decide)
      have q188 : v9 188 = w 188 := hf9.1 188 (by decide) (by decide) (by decide) (by decide) (by decide)
      have q157 : v9 157 = w 157 := hf9.1 157 (by decide) (by decide) (by decide) (by decide) (by decide)
      have q184 : v9 184 = w 184 := hf9.1 184 (by decide) (by decide) (by decide) (by decide) (by decide)
      have q149 : v9 149 = w 149 := hf9.1 149 (by decide) (by decide) (by decide) (by decide) (by decide)
      refine s_iload_n dX12_goes_45 1 rfl (s_aload_n dX12_goes_46 0 rfl rfl (n_getf 141 6 0 dX12_goes_47 cf_X12 ff_X12_236 rfl sh_141 rfl (by decide) (v := (v9 141 6)) rfl (s_icmp_ge 173 dX12_goes_50 (by decide) (fun c_50 => ?_) (fun c_50 => ?_))))
      · skip
        refine n_ret dX12_goes_173 hR rfl ?_
        have e9 : c = w 141 6 := by omega
        rw [e9] at hS
        exact ⟨rfl, hf9, hS⟩
      · skip
        have hmy9 := hmy c hci.1 (by omega)
        have hO7 : (((wkG (WMx w) (capM w) (w 157) (w 184) (zeF (w 159) (w 141 4)) (w 141 4).toNat c.toNat).2.length : Nat) : Int) + (opS (capM w) (wkG (WMx w) (capM w) (w 157) (w 184) (zeF (w 159) (w 141 4)) (w 141 4).toNat c.toNat).1 (w 141 4).toNat : Nat) ≤ ((w 141 4).toNat : Nat) + (c - 1) + 1 := hO.2.1
        have hOc : OkS (capM w) (w 141 4).toNat c (w 184 c, (wkG (WMx w) (capM w) (w 157) (w 184) (zeF (w 159) (w 141 4)) (w 141 4).toNat c.toNat).1, (wkG (WMx w) (capM w) (w 157) (w 184) (zeF (w 159) (w 141 4)) (w 141 4).toNat c.toNat).2) := ⟨hO.1, by show (((wkG (WMx w) (capM w) (w 157) (w 184) (zeF (w 159) (w 141 4)) (w 141 4).toNat c.toNat).2.length : Nat) : Int) + (opS (capM w) (wkG (WMx w) (capM w) (w 157) (w 184) (zeF (w 159) (w 141 4)) (w 141 4).toNat c.toNat).1 (w 141 4).toNat : Nat) ≤ ((w 141 4).toNat : Nat) + c + 1; omega, fun q => by show (((wkG (WMx w) (capM w) (w 157) (w 184) (zeF (w 159) (w 141 4)) (w 141 4).toNat c.toNat).2.length : Nat) : Int) + (opS (capM w) (wkG (WMx w) (capM w) (w 157) (w 184) (zeF (w 159) (w 141 4)) (w 141 4).toNat c.toNat).1 (w 141 4).toNat : Nat) ≤ ((w 141 4).toNat : Nat) + c; omega, hmy9⟩
        refine s_aload_n dX12_goes_53 0 rfl rfl (n_getc (q := 184) 141 68 194 dX12_goes_54 cf_X12 ff_X12_141 rfl sh_141 rfl (by decide) rfl (by decide) (s_iload_n dX12_goes_57 1 rfl (n_iald 184 dX12_goes_58 rfl sh_184 (by decide) ⟨(by omega), (by omega)⟩ (v := (v9 184 c)) rfl (s_istore_n (ls' := [(0, (2, 141)), (1, (0, c)), (2, (0, (v9 184 c)))]) dX12_goes_59 (Nat.le_of_ble_eq_true rfl) rfl (s_aload_n dX12_goes_60 0 rfl rfl (s_iload_n dX12_goes_61 1 rfl (n_invV (as := [(0, c)]) dX12_goes_62 kv_X12_choice ml_X12_438 (choice_S w v9 c (w 184 c, (wkG (WMx w) (capM w) (w 157) (w 184) (zeF (w 159) (w 141 4)) (w 141 4).toNat c.toNat).1, (wkG (WMx w) (capM w) (w 157) (w 184) (zeF (w 159) (w 141 4)) (w 141 4).toNat c.toNat).2) hn ⟨by omega, by omega⟩ hf9 (hS _) hOc) (by decide) 141 cf_X12 rfl sh_141 rfl rfl rfl (Nat.le_of_ble_eq_true rfl) (s_istore_n (ls' := [(0, (2, 141)), (1, (0, c)), (2, (0, (v9 184 c))), (3, (0, (bhS (WMx w c) (capM w) (w 157) (w 141 4).toNat (w 184 c, (wkG (WMx w) (capM w) (w 157) (w 184) (zeF (w 159) (w 141 4)) (w 141 4).toNat c.toNat).1, (wkG (WMx w) (capM w) (w 157) (w 184) (zeF (w 159) (w 141 4)) (w 141 4).toNat c.toNat).2))))]) dX12_goes_65 (Nat.le_of_ble_eq_true rfl) rfl ?_))))))))
        exact L_66 _ c (v9 184 c) (bhS (WMx w c) (capM w) (w 157) (w 141 4).toNat (w 184 c, (wkG (WMx w) (capM w) (w 157) (w 184) (zeF (w 159) (w 141 4)) (w 141 4).toNat c.toNat).1, (wkG (WMx w) (capM w) (w 157) (w 184) (zeF (w 159) (w 141 4)) (w 141 4).toNat c.toNat).2)) v9 (w 184 c, (wkG (WMx w) (capM w) (w 157) (w 184) (zeF (w 159) (w 141 4)) (w 141 4).toNat c.toNat).1, (wkG (WMx w) (capM w) (w 157) (w 184) (zeF (w 159) (w 141 4)) (w 141 4).toNat c.toNat).2) (by omega) (by rw [q184]) rfl hf9 (hS _) hOc rfl (fun v f1 f2 f3 => s_iinc (z := (c + 1)) (ls' := [(0, (2, 141)), (1, (0, (c + 1)))]) dX12_goes_167 1 rfl (Nat.le_of_ble_eq_true rfl) (wr_id (by omega) (by omega)) rfl (s_goto 45 dX12_goes_170 (by decide) (ih (c + 1) v (by omega) f1 f2 (by rw [show c + 1 - 1 = c by omega]; exact f3) (by omega)))) (Nat.lt_succ_self _)
  have L_7 : ∀ (fu : Nat) (i : Int) (v9 : Wd), 0 ≤ i ∧ i ≤ w 141 4 → FrT w v9 → v9 141 75 = 0 → v9 159 = zeF (w 159) i → (∀ h, 0 ≤ h → h < i → v9 187 h = 7 * w 156 h) → (w 141 4 - i).toNat < fu → AtN mX12_goes 3 ρ 7 [(0, (2, 141)), (1, (0, i))] [] v9 := by
    intro fu
    induction fu with
    | zero => intro i v9 hi hf9 h75 hz hlf hm; exact absurd hm (Nat.not_lt_zero _)
    | succ fu ih =>
      intro i v9 hi hf9 h75 hz hlf hm
      have q4 : v9 141 4 = w 141 4 := hf9.2 4 (by decide)
      have q156 : v9 156 = w 156 := hf9.1 156 (by decide) (by decide) (by decide) (by decide) (by decide)
      refine s_iload_n dX12_goes_7 1 rfl (s_aload_n dX12_goes_8 0 rfl rfl (n_getf 141 4 0 dX12_goes_9 cf_X12 ff_X12_230 rfl sh_141 rfl (by decide) (v := (v9 141 4)) rfl (s_icmp_ge 43 dX12_goes_12 (by decide) (fun c_12 => ?_) (fun c_12 => ?_))))
      · skip
        refine s_iconst dX12_goes_43 (by decide) (s_istore_n (ls' := [(0, (2, 141)), (1, (0, 0))]) dX12_goes_44 (Nat.le_of_ble_eq_true rfl) rfl ?_)
        exact L_45 _ 0 v9 (by omega) hf9 (fun x => ⟨by rw [hz, show i = w 141 4 by omega]; rfl, fun h a b => by rw [hlf h a (by omega)]; show _ = 7 * w 156 h - zeF (w 159) (w 141 4) h; unfold zeF; rw [if_pos ⟨a, b⟩]; omega, h75, fun j hj => absurd hj (Nat.not_lt_zero j)⟩) ⟨fun h a b => by show 0 ≤ zeF (w 159) (w 141 4) h ∧ zeF (w 159) (w 141 4) h ≤ 7 * w 156 h; unfold zeF; rw [if_pos (by omega)]; have := hst h a (by omega); omega, by have := opS_le (cap := capM w) (lk := zeF (w 159) (w 141 4)) (w 141 4).toNat; show ((0 : Nat) : Int) + (opS (capM w) (zeF (w 159) (w 141 4)) (w 141 4).toNat : Nat) ≤ _; omega, fun q => absurd q (Int.lt_irrefl 0), Int.le_refl 0, (by show (0 : Int) ≤ 9999; decide)⟩ (Nat.lt_succ_self _)
      · skip
        have hst9 := hst i hi.1 (by omega)
        have e156 : v9 156 i = w 156 i := by rw [q156]
        refine s_aload_n dX12_goes_15 0 rfl rfl (n_getc (q := 187) 141 71 197 dX12_goes_16 cf_X12 ff_X12_150 rfl sh_141 rfl (by decide) rfl (by decide) (s_iload_n dX12_goes_19 1 rfl (s_bipush dX12_goes_20 (by decide) (s_aload_n dX12_goes_22 0 rfl rfl (n_getc (q := 156) 141 24 166 dX12_goes_23 cf_X12 ff_X12_52 rfl sh_141 rfl (by decide) rfl (by decide) (s_iload_n dX12_goes_26 1 rfl (n_iald 156 dX12_goes_27 rfl sh_156 (by decide) ⟨(by omega), (by omega)⟩ (v := (v9 156 i)) rfl (n_mul (z := (7 * (v9 156 i))) dX12_goes_28 (wr_id (by omega) (by omega)) (s_iastore 187 dX12_goes_29 rfl sh_187 (by decide) ⟨(by omega), (by omega)⟩ ?_)))))))))
        refine s_aload_n dX12_goes_30 0 rfl rfl (n_getc (q := 159) 141 27 169 dX12_goes_31 cf_X12 ff_X12_61 rfl sh_141 rfl (by decide) rfl (by decide) (s_iload_n dX12_goes_34 1 rfl (s_iconst dX12_goes_35 (by decide) (s_iastore 159 dX12_goes_36 rfl sh_159 (by decide) ⟨(by omega), (by omega)⟩ (s_iinc (z := (i + 1)) (ls' := [(0, (2, 141)), (1, (0, (i + 1)))]) dX12_goes_37 1 rfl (Nat.le_of_ble_eq_true rfl) (wr_id (by omega) (by omega)) rfl (s_goto 7 dX12_goes_40 (by decide) ?_))))))
        exact ih (i + 1) (wu (wu v9 187 i (7 * (v9 156 i))) 159 i 0) (by omega) ⟨fun c c1 c2 c3 c4 c5 => by rw [wu_ne c2, wu_ne c1]; exact hf9.1 c c1 c2 c3 c4 c5, fun j hj => by rw [wu_ne (by decide), wu_ne (by decide)]; exact hf9.2 j hj⟩ h75 (by rw [wu_up, wu_ne (by decide), hz]; funext k; unfold updF zeF; by_cases e : k = i; (rw [if_pos e, if_pos (by omega)]); (rw [if_neg e]; by_cases e2 : 0 ≤ k ∧ k < i; (rw [if_pos e2, if_pos (by omega)]); (rw [if_neg e2, if_neg (by omega)]))) (fun k k0 k1 => by rw [wu_ne (by decide), wu_at]; by_cases e : k = i; (rw [if_pos e, q156, e]); (rw [if_neg e]; exact hlf k k0 (by omega))) (by omega)
  refine s_aload_n dX12_goes_0 0 rfl rfl (s_iconst dX12_goes_1 (by decide) (n_putf 141 75 75 dX12_goes_2 cf_X12 ff_X12_435 rfl rfl sh_141 rfl rfl rfl (s_iconst dX12_goes_5 (by decide) (s_istore_n (ls' := [(0, (2, 141)), (1, (0, 0))]) dX12_goes_6 (Nat.le_of_ble_eq_true rfl) rfl ?_))))
  exact L_7 _ 0 (wu w 141 75 0) (by omega) ⟨fun c _ _ _ _ c5 => wu_ne c5, fun j hj => by rw [wu_at, if_neg hj]⟩ rfl (by funext k; unfold zeF; rw [if_neg (by omega)]; rfl) (fun k k0 k1 => absurd k1 (by omega)) (Nat.lt_succ_self _)
