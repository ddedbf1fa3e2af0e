/-! THE FIRST WORLD keeps the invariant. -/
theorem V6_nz {k : Nat} (h : k ≠ 0 ∧ k ≠ 1 ∧ k ≠ 15 ∧ k ≠ 30 ∧ k ≠ 35 ∧ k ≠ 36 ∧ k ≠ 41 ∧ k ≠ 44 ∧ k ≠ 49 ∧ k ≠ 54 ∧ k ≠ 59 ∧ k ≠ 88 ∧ k ≠ 103 ∧ k ≠ 109 ∧ k ≠ 135 ∧ k ≠ 141 ∧ k ≠ 42 ∧ k ≠ 104 ∧ k ≠ 161) : V6 k = nz := by
  obtain ⟨h0, h1, h15, h30, h35, h36, h41, h44, h49, h54, h59, h88, h103, h109, h135, h141, h42, h104, h161⟩ := h
  unfold V6
  rw [wu_ne h161, wu_ne h161, wu_ne h161, wu_ne h161, wu_ne h161, wu_ne h161, wu_ne h161, wu_ne h161, wu_ne h161, wu_ne h161, wu_ne h161, wu_ne h161, wu_ne h161, wu_ne h161, wu_ne h161, wu_ne h161, V5_hi h35 h42 h104 h0 h141]
  exact V0_nz ⟨h0, h1, h15, h30, h35, h36, h41, h44, h49, h54, h59, h88, h103, h109, h135, h141, h42⟩
def t16 (f : Int → Int) : Int → Int := fun i => if i = 15 then 1 else if i = 14 then 1 else if i = 13 then 1 else if i = 12 then 1 else if i = 11 then 1 else if i = 10 then 1 else if i = 9 then 1 else if i = 8 then 1 else if i = 7 then 1 else if i = 6 then 1 else if i = 5 then 1 else if i = 4 then 1 else if i = 3 then 1 else if i = 2 then 1 else if i = 1 then 1 else if i = 0 then 1 else f i
theorem t16_wu (w : Wd) (c : Nat) : (wu (wu (wu (wu (wu (wu (wu (wu (wu (wu (wu (wu (wu (wu (wu (wu w c 0 1) c 1 1) c 2 1) c 3 1) c 4 1) c 5 1) c 6 1) c 7 1) c 8 1) c 9 1) c 10 1) c 11 1) c 12 1) c 13 1) c 14 1) c 15 1) c = t16 (w c) := by
  funext i
  unfold t16
  simp only [wu_at]
theorem t16_bd {j : Int} (h0 : 0 ≤ j) (h1 : j < 16) : 1 ≤ t16 nz j ∧ t16 nz j ≤ 9 := by
  unfold t16
  rcases (show j = 0 ∨ j = 1 ∨ j = 2 ∨ j = 3 ∨ j = 4 ∨ j = 5 ∨ j = 6 ∨ j = 7 ∨ j = 8 ∨ j = 9 ∨ j = 10 ∨ j = 11 ∨ j = 12 ∨ j = 13 ∨ j = 14 ∨ j = 15 by omega) with rfl | rfl | rfl | rfl | rfl | rfl | rfl | rfl | rfl | rfl | rfl | rfl | rfl | rfl | rfl | rfl
  all_goals decide
theorem V6_161 : V6 161 = t16 nz := by
  unfold V6
  rw [t16_wu, V5_hi (k := 161) (by decide) (by decide) (by decide) (by decide) (by decide), V0_nz (k := 161) (by decide)]
theorem V6_104 : V6 104 = t16 nz := by
  unfold V6
  rw [wu_ne (show (104 : Nat) ≠ 161 by decide), wu_ne (show (104 : Nat) ≠ 161 by decide), wu_ne (show (104 : Nat) ≠ 161 by decide), wu_ne (show (104 : Nat) ≠ 161 by decide), wu_ne (show (104 : Nat) ≠ 161 by decide), wu_ne (show (104 : Nat) ≠ 161 by decide), wu_ne (show (104 : Nat) ≠ 161 by decide), wu_ne (show (104 : Nat) ≠ 161 by decide), wu_ne (show (104 : Nat) ≠ 161 by decide), wu_ne (show (104 : Nat) ≠ 161 by decide), wu_ne (show (104 : Nat) ≠ 161 by decide), wu_ne (show (104 : Nat) ≠ 161 by decide), wu_ne (show (104 : Nat) ≠ 161 by decide), wu_ne (show (104 : Nat) ≠ 161 by decide), wu_ne (show (104 : Nat) ≠ 161 by decide), wu_ne (show (104 : Nat) ≠ 161 by decide)]
  unfold V5
  rw [wu_ne (show (104 : Nat) ≠ 141 by decide)]
  unfold V4
  rw [wu_ne (show (104 : Nat) ≠ 0 by decide)]
  unfold V3
  rw [t16_wu, V2_hi (k := 104) (by decide) (by decide), V0_nz (k := 104) (by decide)]
theorem n6_2 : V6 2 = nz := V6_nz (by decide)
theorem n6_3 : V6 3 = nz := V6_nz (by decide)
theorem n6_4 : V6 4 = nz := V6_nz (by decide)
theorem n6_5 : V6 5 = nz := V6_nz (by decide)
theorem n6_6 : V6 6 = nz := V6_nz (by decide)
theorem n6_7 : V6 7 = nz := V6_nz (by decide)
theorem n6_8 : V6 8 = nz := V6_nz (by decide)
theorem n6_10 : V6 10 = nz := V6_nz (by decide)
theorem n6_11 : V6 11 = nz := V6_nz (by decide)
theorem n6_12 : V6 12 = nz := V6_nz (by decide)
theorem n6_13 : V6 13 = nz := V6_nz (by decide)
theorem n6_14 : V6 14 = nz := V6_nz (by decide)
theorem n6_142 : V6 142 = nz := V6_nz (by decide)
theorem n6_143 : V6 143 = nz := V6_nz (by decide)
theorem n6_144 : V6 144 = nz := V6_nz (by decide)
theorem n6_145 : V6 145 = nz := V6_nz (by decide)
theorem n6_146 : V6 146 = nz := V6_nz (by decide)
theorem n6_147 : V6 147 = nz := V6_nz (by decide)
theorem n6_148 : V6 148 = nz := V6_nz (by decide)
theorem n6_150 : V6 150 = nz := V6_nz (by decide)
theorem n6_151 : V6 151 = nz := V6_nz (by decide)
theorem n6_152 : V6 152 = nz := V6_nz (by decide)
theorem n6_153 : V6 153 = nz := V6_nz (by decide)
theorem n6_154 : V6 154 = nz := V6_nz (by decide)
theorem n6_9 : V6 9 = nz := V6_nz (by decide)
theorem n6_16 : V6 16 = nz := V6_nz (by decide)
theorem n6_17 : V6 17 = nz := V6_nz (by decide)
theorem n6_18 : V6 18 = nz := V6_nz (by decide)
theorem n6_19 : V6 19 = nz := V6_nz (by decide)
theorem n6_20 : V6 20 = nz := V6_nz (by decide)
theorem n6_21 : V6 21 = nz := V6_nz (by decide)
theorem n6_22 : V6 22 = nz := V6_nz (by decide)
theorem n6_23 : V6 23 = nz := V6_nz (by decide)
theorem n6_24 : V6 24 = nz := V6_nz (by decide)
theorem n6_25 : V6 25 = nz := V6_nz (by decide)
theorem n6_26 : V6 26 = nz := V6_nz (by decide)
theorem n6_27 : V6 27 = nz := V6_nz (by decide)
theorem n6_28 : V6 28 = nz := V6_nz (by decide)
theorem n6_29 : V6 29 = nz := V6_nz (by decide)
theorem n6_149 : V6 149 = nz := V6_nz (by decide)
theorem n6_155 : V6 155 = nz := V6_nz (by decide)
theorem n6_156 : V6 156 = nz := V6_nz (by decide)
theorem n6_157 : V6 157 = nz := V6_nz (by decide)
theorem n6_158 : V6 158 = nz := V6_nz (by decide)
theorem n6_159 : V6 159 = nz := V6_nz (by decide)
theorem n6_160 : V6 160 = nz := V6_nz (by decide)
theorem n6_163 : V6 163 = nz := V6_nz (by decide)
theorem n6_164 : V6 164 = nz := V6_nz (by decide)
theorem n6_165 : V6 165 = nz := V6_nz (by decide)
theorem n6_166 : V6 166 = nz := V6_nz (by decide)
theorem n6_167 : V6 167 = nz := V6_nz (by decide)
theorem n6_168 : V6 168 = nz := V6_nz (by decide)
theorem n6_31 : V6 31 = nz := V6_nz (by decide)
theorem n6_178 : V6 178 = nz := V6_nz (by decide)
theorem n6_101 : V6 101 = nz := V6_nz (by decide)
theorem n6_102 : V6 102 = nz := V6_nz (by decide)
theorem n6_197 : V6 197 = nz := V6_nz (by decide)
theorem n6_198 : V6 198 = nz := V6_nz (by decide)
theorem n6_105 : V6 105 = nz := V6_nz (by decide)
theorem n6_107 : V6 107 = nz := V6_nz (by decide)
theorem n6_108 : V6 108 = nz := V6_nz (by decide)
theorem n6_162 : V6 162 = nz := V6_nz (by decide)
theorem n6_60 : V6 60 = nz := V6_nz (by decide)
theorem n6_61 : V6 61 = nz := V6_nz (by decide)
theorem n6_62 : V6 62 = nz := V6_nz (by decide)
theorem n6_63 : V6 63 = nz := V6_nz (by decide)
theorem n6_64 : V6 64 = nz := V6_nz (by decide)
theorem n6_181 : V6 181 = nz := V6_nz (by decide)
theorem n6_182 : V6 182 = nz := V6_nz (by decide)
theorem n6_183 : V6 183 = nz := V6_nz (by decide)
theorem n6_184 : V6 184 = nz := V6_nz (by decide)
theorem n6_185 : V6 185 = nz := V6_nz (by decide)
theorem n6_186 : V6 186 = nz := V6_nz (by decide)
theorem n6_89 : V6 89 = nz := V6_nz (by decide)
theorem n6_192 : V6 192 = nz := V6_nz (by decide)
theorem n6_193 : V6 193 = nz := V6_nz (by decide)
theorem n6_131 : V6 131 = nz := V6_nz (by decide)
theorem n6_132 : V6 132 = nz := V6_nz (by decide)
theorem n6_201 : V6 201 = nz := V6_nz (by decide)
theorem n6_202 : V6 202 = nz := V6_nz (by decide)
theorem n6_140 : V6 140 = nz := V6_nz (by decide)
theorem n6_208 : V6 208 = nz := V6_nz (by decide)
theorem n6_209 : V6 209 = nz := V6_nz (by decide)
theorem n6_169 : V6 169 = nz := V6_nz (by decide)
theorem nz_at (j : Int) : nz j = 0 := rfl
theorem sumI_0 {f : Int → Int} (h : ∀ j, f j = 0) : ∀ n : Nat, sumI f n = 0
  | 0 => rfl
  | n + 1 => by
    show sumI f n + f n = 0
    rw [sumI_0 h n, h]
    all_goals rfl
theorem f6_0_10 : V6 0 10 = 0 := by decide +kernel
theorem f6_1_5 : V6 1 5 = 0 := by decide +kernel
theorem f6_1_9 : V6 1 9 = 0 := by decide +kernel
theorem f6_1_15 : V6 1 15 = 0 := by decide +kernel
theorem f6_141_0 : V6 141 0 = 0 := by decide +kernel
theorem f6_141_1 : V6 141 1 = 0 := by decide +kernel
theorem f6_141_2 : V6 141 2 = 0 := by decide +kernel
theorem f6_141_3 : V6 141 3 = 0 := by decide +kernel
theorem f6_15_10 : V6 15 10 = 0 := by decide +kernel
theorem f6_15_15 : V6 15 15 = 0 := by decide +kernel
theorem f6_141_4 : V6 141 4 = 0 := by decide +kernel
theorem f6_141_5 : V6 141 5 = 0 := by decide +kernel
theorem f6_30_1 : V6 30 1 = 0 := by decide +kernel
theorem f6_141_50 : V6 141 50 = 0 := by decide +kernel
theorem f6_35_3 : V6 35 3 = 0 := by decide +kernel
theorem f6_35_4 : V6 35 4 = (-1) := by decide +kernel
theorem f6_141_57 : V6 141 57 = 0 := by decide +kernel
theorem f6_141_59 : V6 141 59 = (-1) := by decide +kernel
theorem f6_141_54 : V6 141 54 = 0 := by decide +kernel
theorem f6_88_6 : V6 88 6 = 0 := by decide +kernel
theorem f6_141_8 : V6 141 8 = 0 := by decide +kernel
theorem f6_59_9 : V6 59 9 = 0 := by decide +kernel
theorem f6_141_6 : V6 141 6 = 0 := by decide +kernel
theorem f6_88_2 : V6 88 2 = 0 := by decide +kernel
theorem f6_141_7 : V6 141 7 = 0 := by decide +kernel
theorem f6_135_2 : V6 135 2 = 0 := by decide +kernel
theorem f6_141_9 : V6 141 9 = 0 := by decide +kernel
theorem f6_35_2 : V6 35 2 = 36 := by decide +kernel
theorem f6_42_0 : V6 42 0 = 44 := by decide +kernel
theorem f6_42_1 : V6 42 1 = 49 := by decide +kernel
theorem f6_42_2 : V6 42 2 = 54 := by decide +kernel
theorem f6_44_4 : V6 44 4 = 0 := by decide +kernel
theorem f6_49_4 : V6 49 4 = 0 := by decide +kernel
theorem f6_54_4 : V6 54 4 = 0 := by decide +kernel
theorem GR_0 : GR V6 := by
  unfold GR
  rw [n6_2, n6_3, n6_4, n6_5, n6_6, n6_7, n6_8, n6_10, n6_11, n6_12, n6_13, n6_14, n6_142, n6_143, n6_144, n6_145, n6_146, n6_147, n6_148, n6_150, n6_151, n6_152, n6_153, n6_154, f6_0_10, f6_1_5, f6_1_9, f6_1_15, f6_141_0, f6_141_1, f6_141_2, f6_141_3]
  exact ⟨⟨rfl, by decide, by decide⟩, ⟨rfl, by decide, by decide⟩, ⟨rfl, by decide, by decide⟩, ⟨rfl, by decide, by decide⟩, ⟨rfl, rfl, rfl, rfl, rfl, rfl, rfl, rfl, rfl, rfl, rfl, rfl⟩, fun j _ _ => by rw [nz_at]; decide, fun j a c => absurd (Int.lt_of_le_of_lt a c) (by decide), fun j a c => absurd (Int.lt_of_le_of_lt a c) (by decide), ⟨by decide, fun i a c => absurd (Int.lt_of_le_of_lt a c) (by decide)⟩, fun j a c => absurd (Int.lt_of_le_of_lt a c) (by decide), fun j a c => absurd (Int.lt_of_le_of_lt a c) (by decide), fun j _ => rfl⟩
theorem GH_0 : GH V6 := by
  unfold GH
  rw [n6_9, n6_16, n6_17, n6_18, n6_19, n6_20, n6_23, n6_24, n6_25, n6_26, n6_27, n6_28, n6_29, n6_21, n6_22, n6_149, n6_155, n6_156, n6_157, n6_158, n6_159, n6_160, n6_163, n6_164, n6_165, n6_166, n6_167, n6_168, f6_0_10, f6_15_10, f6_15_15, f6_1_9, f6_141_4, f6_141_5]
  exact ⟨⟨rfl, by decide, by decide⟩, ⟨rfl, by decide, by decide⟩, ⟨rfl, rfl, rfl, rfl, rfl, rfl, rfl, rfl, rfl, rfl, rfl, rfl, rfl⟩, fun j a c => absurd (Int.lt_of_le_of_lt a c) (by decide), fun j a c => absurd (Int.lt_of_le_of_lt a c) (by decide), ⟨fun j a c => absurd (Int.lt_of_le_of_lt a c) (by decide), fun j a c => absurd (Int.lt_of_le_of_lt a c) (by decide)⟩, ⟨fun j a c => absurd (Int.lt_of_le_of_lt a c) (by decide), fun j a c => absurd (Int.lt_of_le_of_lt a c) (by decide)⟩, fun j _ _ => by rw [nz_at]; decide⟩
theorem GT_0 : GT V6 := by
  unfold GT
  rw [n6_31, n6_178, f6_30_1, f6_141_50, f6_35_3, f6_35_4, f6_141_57, f6_141_59, f6_141_54]
  exact ⟨rfl, ⟨rfl, by decide, by decide⟩, ⟨rfl, rfl⟩, by decide, fun j a c => absurd (Int.lt_of_le_of_lt a c) (by decide)⟩
theorem GP_0 : GP V6 := by
  unfold GP
  rw [n6_101, n6_102, n6_197, n6_198, f6_88_6, f6_141_8]
  exact ⟨⟨rfl, by decide, by decide⟩, ⟨rfl, rfl⟩, fun j a c => absurd (Int.lt_of_le_of_lt a c) (by decide)⟩
theorem GN_0 : GN V6 := by
  unfold GN
  rw [V6_104, V6_161, n6_105, n6_107, n6_108, n6_162]
  exact ⟨⟨rfl, rfl⟩, fun j a c => ⟨t16_bd a c, by rw [nz_at]; decide⟩, rfl, fun t _ _ => rfl⟩
theorem GC_0 : GC V6 := by
  unfold GC
  rw [n6_60, n6_61, n6_62, n6_63, n6_64, n6_181, n6_182, n6_183, n6_184, n6_185, n6_186, f6_59_9, f6_141_6]
  refine ⟨⟨rfl, by decide, by decide⟩, ⟨rfl, rfl, rfl, rfl, rfl⟩, fun j a c => absurd (Int.lt_of_le_of_lt a c) (by decide), fun c j c0 c1 j0 j1 => ?_⟩
  have hc : Int.toNat c < 16 := by omega
  have e : V6 (66 + Int.toNat c) = nz := (V6_nz ⟨by omega, by omega, by omega, by omega, by omega, by omega, by omega, by omega, by omega, by omega, by omega, by omega, by omega, by omega, by omega, by omega, by omega, by omega, by omega⟩)
  rw [e, nz_at, nz_at]
  decide
theorem GV_0 : GV V6 := by
  unfold GV
  rw [n6_89, n6_192, n6_193, f6_88_2, f6_141_7]
  refine ⟨⟨rfl, by decide, by decide⟩, rfl, fun j a c => absurd (Int.lt_of_le_of_lt a c) (by decide), fun c j c0 c1 j0 j1 => ?_⟩
  have hc : Int.toNat c < 9 := by omega
  have e : V6 (91 + Int.toNat c) = nz := (V6_nz ⟨by omega, by omega, by omega, by omega, by omega, by omega, by omega, by omega, by omega, by omega, by omega, by omega, by omega, by omega, by omega, by omega, by omega, by omega, by omega⟩)
  rw [e, nz_at, nz_at]
  decide
theorem GO_0 : GO V6 := by
  unfold GO
  rw [n6_131, n6_132, n6_201, n6_202]
  refine ⟨fun i _ _ => show (0 : Int) = sumI (fun j => nz (20 * i + j)) 20 from (sumI_0 (fun _ => rfl) 20).symm, fun j _ _ => by rw [nz_at, nz_at]; decide, fun c j c0 c1 j0 j1 => ?_⟩
  have hc : Int.toNat c < 20 := by omega
  have e : V6 (111 + Int.toNat c) = nz := (V6_nz ⟨by omega, by omega, by omega, by omega, by omega, by omega, by omega, by omega, by omega, by omega, by omega, by omega, by omega, by omega, by omega, by omega, by omega, by omega, by omega⟩)
  rw [e, nz_at, nz_at]
  decide
theorem GK_0 : GK V6 := by
  unfold GK
  rw [n6_140, n6_208, n6_209, f6_135_2, f6_141_9]
  exact ⟨⟨rfl, by decide, by decide⟩, rfl, fun c j c0 c1 a h => absurd (Int.lt_of_le_of_lt a h) (by decide)⟩
def s0 (q : Int) : Nat := if q = 0 then 44 else if q = 1 then 49 else 54
theorem three {q : Int} (h0 : 0 ≤ q) (h1 : q < 3) : q = 0 ∨ q = 1 ∨ q = 2 := by omega
theorem GL_0 : GL s0 36 (fun _ => []) V6 := by
  have k0 : s0 0 = 44 := rfl
  have k1 : s0 1 = 49 := rfl
  have k2 : s0 2 = 54 := rfl
  refine ⟨⟨fun q h0 h1 => ?_, fun q h0 h1 => ⟨?_, fun i hi => absurd hi (Nat.not_lt_zero _)⟩⟩, fun q h0 h1 => ⟨?_, Nat.zero_le _, fun i hi => absurd hi (Nat.not_lt_zero _)⟩, ⟨Or.inl rfl, fun q h0 h1 => ?_, fun q r h0 h1 h2 h3 h4 => ?_⟩, ?_⟩
  · rcases three h0 h1 with rfl | rfl | rfl
    · rw [k0, f6_42_0, f6_44_4]; exact ⟨Or.inr (Or.inl rfl), rfl, by decide, by decide⟩
    · rw [k1, f6_42_1, f6_49_4]; exact ⟨Or.inr (Or.inr (Or.inl rfl)), rfl, by decide, by decide⟩
    · rw [k2, f6_42_2, f6_54_4]; exact ⟨Or.inr (Or.inr (Or.inr rfl)), rfl, by decide, by decide⟩
  · rcases three h0 h1 with rfl | rfl | rfl
    · rw [k0, f6_44_4] <;> rfl
    · rw [k1, f6_49_4] <;> rfl
    · rw [k2, f6_54_4] <;> rfl
  · rw [n6_169] <;> rfl
  · rcases three h0 h1 with rfl | rfl | rfl
    · rw [k0]; exact ⟨Or.inr (Or.inl rfl), by decide⟩
    · rw [k1]; exact ⟨Or.inr (Or.inr (Or.inl rfl)), by decide⟩
    · rw [k2]; exact ⟨Or.inr (Or.inr (Or.inr rfl)), by decide⟩
  · rcases three h0 h1 with rfl | rfl | rfl <;> rcases three h2 h3 with rfl | rfl | rfl <;> first | exact absurd rfl h4 | decide
  · rw [f6_35_2] <;> rfl
theorem GAl_0 : GAl V6 := ⟨s0, 36, fun _ => [], GI.mk GR_0 GH_0 GC_0 GT_0 GL_0 GV_0 GP_0 GN_0 GO_0 GK_0⟩
