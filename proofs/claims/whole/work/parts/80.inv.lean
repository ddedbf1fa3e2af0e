/-! THE INVARIANT OF A RUN. -/
/-- two worlds agree on these cells, fields and rows -/
def Agw (cs : List Nat) (fs : List (Nat × Int)) (rs : List (Nat × Nat)) (w v : Wd) : Prop := (∀ c ∈ cs, v c = w c) ∧ (∀ p ∈ fs, v p.1 p.2 = w p.1 p.2) ∧ ∀ r ∈ rs, ∀ i, i < r.2 → v (r.1 + i) = w (r.1 + i)
section AGR
variable {cs : List Nat} {fs : List (Nat × Int)} {rs : List (Nat × Nat)} {w v u : Wd}
theorem Agw.rf : Agw cs fs rs w w := ⟨fun _ _ => rfl, fun _ _ => rfl, fun _ _ _ _ => rfl⟩
theorem Agw.tr (h : Agw cs fs rs w v) (h2 : Agw cs fs rs v u) : Agw cs fs rs w u := ⟨fun c hc => (h2.1 c hc).trans (h.1 c hc), fun p hp => (h2.2.1 p hp).trans (h.2.1 p hp), fun r hr i hi => (h2.2.2 r hr i hi).trans (h.2.2 r hr i hi)⟩
/-- a write elsewhere: another cell -/
theorem Agw.c {k : Nat} {j x : Int} (h : Agw cs fs rs w v) (h1 : ∀ c ∈ cs, c ≠ k) (h2 : ∀ p ∈ fs, p.1 ≠ k) (h3 : ∀ r ∈ rs, k < r.1 ∨ r.1 + r.2 ≤ k) : Agw cs fs rs w (wu v k j x) := ⟨fun c hc => by rw [wu_ne (h1 c hc)]; exact h.1 c hc, fun p hp => by rw [wu_ne (h2 p hp)]; exact h.2.1 p hp, fun r hr i hi => by rw [wu_ne (by have := h3 r hr; omega)]; exact h.2.2 r hr i hi⟩
/-- another field -/
theorem Agw.f {k : Nat} {j x : Int} (h : Agw cs fs rs w v) (h1 : ∀ c ∈ cs, c ≠ k) (h2 : ∀ p ∈ fs, p.1 ≠ k ∨ p.2 ≠ j) (h3 : ∀ r ∈ rs, k < r.1 ∨ r.1 + r.2 ≤ k) : Agw cs fs rs w (wu v k j x) := ⟨fun c hc => by rw [wu_ne (h1 c hc)]; exact h.1 c hc, fun p hp => by
  by_cases e : p.1 = k
  · rw [e, wu_at, if_neg ((h2 p hp).resolve_left (fun z => z e)), ← e]; exact h.2.1 p hp
  · rw [wu_ne e]; exact h.2.1 p hp, fun r hr i hi => by rw [wu_ne (by have := h3 r hr; omega)]; exact h.2.2 r hr i hi⟩
/-- another row -/
theorem Agw.r {k lo hi : Nat} {j x : Int} (h : Agw cs fs rs w v) (hk : lo ≤ k ∧ k < hi) (h1 : ∀ c ∈ cs, c < lo ∨ hi ≤ c) (h2 : ∀ p ∈ fs, p.1 < lo ∨ hi ≤ p.1) (h3 : ∀ r ∈ rs, r.1 + r.2 ≤ lo ∨ hi ≤ r.1) : Agw cs fs rs w (wu v k j x) := ⟨fun c hc => by rw [wu_ne (by have := h1 c hc; omega)]; exact h.1 c hc, fun p hp => by rw [wu_ne (by have := h2 p hp; omega)]; exact h.2.1 p hp, fun r hr i hi2 => by rw [wu_ne (by have := h3 r hr; omega)]; exact h.2.2 r hr i hi2⟩
theorem Agw.f1 (h : Agw cs fs rs w v) (k : Nat) (j : Int) (hp : (k, j) ∈ fs) : v k j = w k j := h.2.1 (k, j) hp
end AGR
/-- sets and halls tell of each other -/
def HG (f g : Int → Int) (n m : Int) : Prop := (∀ t, 0 ≤ t → t < n → f t = -1 ∨ ((0 ≤ f t ∧ f t < m) ∧ g (f t) = t)) ∧ ∀ h, 0 ≤ h → h < m → g h = -1 ∨ ((0 ≤ g h ∧ g h < n) ∧ f (g h) = h)
theorem HG.fst {f g : Int → Int} {n m : Int} (h : HG f g n m) {q : Int} (h0 : 0 ≤ q) (h1 : q < m) (hn : 0 ≤ n) : fst f q n.toNat = g q := by
  obtain ⟨a1, a2⟩ := h
  rcases fst_spec f q n.toNat with ⟨e, z⟩ | ⟨z0, z1, z2, -⟩
  · rcases a2 q h0 h1 with y | ⟨y, y2⟩
    · rw [e, y]
    · exact absurd y2 (z (g q) y.1 (by omega))
  · rcases a1 _ z0 (by omega) with y | ⟨y, y2⟩
    · omega
    · rw [z2] at y2
      exact y2.symm

abbrev cGR : List Nat := [2, 3, 4, 5, 6, 7, 8, 10, 11, 12, 13, 14, 142, 143, 144, 145, 146, 147, 148, 150, 151, 152, 153, 154]
abbrev fGR : List (Nat × Int) := [(0, 10), (1, 5), (1, 9), (1, 15), (141, 0), (141, 1), (141, 2), (141, 3)]
abbrev rGR : List (Nat × Nat) := []
def GR (w : Wd) : Prop := (w 141 0 = w 0 10 ∧ 0 ≤ w 0 10 ∧ w 0 10 ≤ 199) ∧ (w 141 1 = w 1 5 ∧ 0 ≤ w 1 5 ∧ w 1 5 ≤ 12) ∧ (w 141 2 = w 1 9 ∧ 0 ≤ w 1 9 ∧ w 1 9 ≤ 30) ∧ (w 141 3 = w 1 15 ∧ 0 ≤ w 1 15 ∧ w 1 15 ≤ 150) ∧ (w 142 = w 2 ∧ w 143 = w 3 ∧ w 144 = w 4 ∧ w 145 = w 5 ∧ w 146 = w 6 ∧ w 147 = w 7 ∧ w 148 = w 8 ∧ w 150 = w 10 ∧ w 151 = w 11 ∧ w 152 = w 12 ∧ w 153 = w 13 ∧ w 154 = w 14) ∧ (∀ j, 0 ≤ j → j < 12 → 0 ≤ w 6 j ∧ w 6 j ≤ 9999) ∧ (∀ j, 0 ≤ j → j < w 1 5 → 100 ≤ w 6 j ∧ (0 ≤ w 5 j ∧ w 5 j ≤ 3) ∧ (0 ≤ w 3 j ∧ w 3 j ≤ 5) ∧ (w 3 j = 5 ↔ w 5 j = 3)) ∧ (∀ j, 0 ≤ j → j < w 1 9 → 0 ≤ w 7 j ∧ w 7 j < w 1 5) ∧ EVB (w 11) (w 13) (w 1 15) ∧ (∀ j, 0 ≤ j → j < w 1 15 → 0 ≤ w 12 j ∧ w 12 j ≤ 9999) ∧ (∀ j, 0 ≤ j → j < w 1 9 → 0 ≤ w 8 j ∧ w 8 j ≤ 12) ∧ ∀ j, w 1 9 ≤ j → w 8 j = 0
theorem GR.fr {w v : Wd} (h : GR w) (a : Agw cGR fGR rGR w v) : GR v := by
  unfold GR at h ⊢
  rw [a.1 2 (by decide), a.1 3 (by decide), a.1 4 (by decide), a.1 5 (by decide), a.1 6 (by decide), a.1 7 (by decide), a.1 8 (by decide), a.1 10 (by decide), a.1 11 (by decide), a.1 12 (by decide), a.1 13 (by decide), a.1 14 (by decide), a.1 142 (by decide), a.1 143 (by decide), a.1 144 (by decide), a.1 145 (by decide), a.1 146 (by decide), a.1 147 (by decide), a.1 148 (by decide), a.1 150 (by decide), a.1 151 (by decide), a.1 152 (by decide), a.1 153 (by decide), a.1 154 (by decide), a.f1 0 10 (by decide), a.f1 1 5 (by decide), a.f1 1 9 (by decide), a.f1 1 15 (by decide), a.f1 141 0 (by decide), a.f1 141 1 (by decide), a.f1 141 2 (by decide), a.f1 141 3 (by decide)]
  exact h
abbrev cGH : List Nat := [9, 16, 17, 18, 19, 20, 21, 22, 23, 24, 25, 26, 27, 28, 29, 149, 155, 156, 157, 158, 159, 160, 163, 164, 165, 166, 167, 168]
abbrev fGH : List (Nat × Int) := [(0, 10), (15, 10), (15, 15), (1, 9), (141, 4), (141, 5)]
abbrev rGH : List (Nat × Nat) := []
def GH (w : Wd) : Prop := (w 141 4 = w 15 10 ∧ 0 ≤ w 15 10 ∧ w 15 10 ≤ 16) ∧ (w 141 5 = w 15 15 ∧ 0 ≤ w 15 15 ∧ w 15 15 ≤ 20) ∧ (w 155 = w 16 ∧ w 156 = w 17 ∧ w 157 = w 18 ∧ w 158 = w 19 ∧ w 163 = w 20 ∧ w 159 = w 21 ∧ w 160 = w 22 ∧ w 164 = w 23 ∧ w 165 = w 26 ∧ w 166 = w 27 ∧ w 167 = w 28 ∧ w 168 = w 29 ∧ w 149 = w 9) ∧ (∀ h, 0 ≤ h → h < w 15 10 → (0 ≤ w 16 h ∧ w 16 h ≤ 3) ∧ (10 ≤ w 17 h ∧ w 17 h ≤ 999) ∧ (1 ≤ w 18 h ∧ w 18 h ≤ 99) ∧ (0 ≤ w 19 h ∧ w 19 h ≤ 40)) ∧ (∀ t, 0 ≤ t → t < w 15 15 → (0 ≤ w 26 t ∧ w 26 t ≤ 2) ∧ (1 ≤ w 27 t ∧ w 27 t ≤ 7) ∧ (0 ≤ w 28 t ∧ w 28 t ≤ 99)) ∧ HG (w 29) (w 24) (w 15 15) (w 15 10) ∧ HG (w 9) (w 25) (w 1 9) (w 15 10) ∧ ∀ h, 0 ≤ h → h < 16 → (0 ≤ w 23 h ∧ w 23 h ≤ 7000 * w 0 10) ∧ (-(1000000 * w 0 10) ≤ w 20 h ∧ w 20 h ≤ 1000000 * w 0 10)
theorem GH.fr {w v : Wd} (h : GH w) (a : Agw cGH fGH rGH w v) : GH v := by
  unfold GH at h ⊢
  rw [a.1 9 (by decide), a.1 16 (by decide), a.1 17 (by decide), a.1 18 (by decide), a.1 19 (by decide), a.1 20 (by decide), a.1 21 (by decide), a.1 22 (by decide), a.1 23 (by decide), a.1 24 (by decide), a.1 25 (by decide), a.1 26 (by decide), a.1 27 (by decide), a.1 28 (by decide), a.1 29 (by decide), a.1 149 (by decide), a.1 155 (by decide), a.1 156 (by decide), a.1 157 (by decide), a.1 158 (by decide), a.1 159 (by decide), a.1 160 (by decide), a.1 163 (by decide), a.1 164 (by decide), a.1 165 (by decide), a.1 166 (by decide), a.1 167 (by decide), a.1 168 (by decide), a.f1 0 10 (by decide), a.f1 15 10 (by decide), a.f1 15 15 (by decide), a.f1 1 9 (by decide), a.f1 141 4 (by decide), a.f1 141 5 (by decide)]
  exact h
abbrev cGT : List Nat := [31, 178]
abbrev fGT : List (Nat × Int) := [(30, 1), (141, 50), (35, 3), (35, 4), (141, 57), (141, 59), (141, 54)]
abbrev rGT : List (Nat × Nat) := []
def GT (w : Wd) : Prop := w 178 = w 31 ∧ (w 141 50 = w 30 1 ∧ 0 ≤ w 30 1 ∧ w 30 1 ≤ 600) ∧ (w 141 57 = w 35 3 ∧ w 141 59 = w 35 4) ∧ (0 ≤ w 141 54 ∧ w 141 54 ≤ 9999) ∧ ∀ j, 0 ≤ j → j < w 30 1 → 0 ≤ w 31 j ∧ w 31 j ≤ 255
theorem GT.fr {w v : Wd} (h : GT w) (a : Agw cGT fGT rGT w v) : GT v := by
  unfold GT at h ⊢
  rw [a.1 31 (by decide), a.1 178 (by decide), a.f1 30 1 (by decide), a.f1 141 50 (by decide), a.f1 35 3 (by decide), a.f1 35 4 (by decide), a.f1 141 57 (by decide), a.f1 141 59 (by decide), a.f1 141 54 (by decide)]
  exact h
abbrev cGP : List Nat := [101, 102, 197, 198]
abbrev fGP : List (Nat × Int) := [(88, 6), (141, 8)]
abbrev rGP : List (Nat × Nat) := []
def GP (w : Wd) : Prop := (w 141 8 = w 88 6 ∧ 0 ≤ w 88 6 ∧ w 88 6 ≤ 14) ∧ (w 197 = w 101 ∧ w 198 = w 102) ∧ ∀ p, 0 ≤ p → p < w 88 6 → 0 ≤ w 101 p ∧ w 101 p ≤ 31
theorem GP.fr {w v : Wd} (h : GP w) (a : Agw cGP fGP rGP w v) : GP v := by
  unfold GP at h ⊢
  rw [a.1 101 (by decide), a.1 102 (by decide), a.1 197 (by decide), a.1 198 (by decide), a.f1 88 6 (by decide), a.f1 141 8 (by decide)]
  exact h
abbrev cGN : List Nat := [104, 105, 107, 108, 161, 162]
abbrev fGN : List (Nat × Int) := []
abbrev rGN : List (Nat × Nat) := []
def GN (w : Wd) : Prop := (w 161 = w 104 ∧ w 162 = w 105) ∧ (∀ j, 0 ≤ j → j < 16 → (1 ≤ w 104 j ∧ w 104 j ≤ 9) ∧ (0 ≤ w 105 j ∧ w 105 j ≤ 999)) ∧ w 107 0 = 0 ∧ ∀ t, 0 ≤ t → t < 4 → w 108 t = 0
theorem GN.fr {w v : Wd} (h : GN w) (a : Agw cGN fGN rGN w v) : GN v := by
  unfold GN at h ⊢
  rw [a.1 104 (by decide), a.1 105 (by decide), a.1 107 (by decide), a.1 108 (by decide), a.1 161 (by decide), a.1 162 (by decide)]
  exact h
abbrev cGC : List Nat := [60, 61, 62, 63, 64, 181, 182, 183, 184, 185, 186]
abbrev fGC : List (Nat × Int) := [(59, 9), (141, 6)]
abbrev rGC : List (Nat × Nat) := [(66, 16)]
def GC (w : Wd) : Prop := (w 141 6 = w 59 9 ∧ 0 ≤ w 59 9 ∧ w 59 9 ≤ 16) ∧ (w 181 = w 60 ∧ w 182 = w 61 ∧ w 183 = w 62 ∧ w 184 = w 63 ∧ w 185 = w 64) ∧ (∀ c, 0 ≤ c → c < w 59 9 → 0 ≤ w 63 c ∧ w 63 c ≤ 9999) ∧ (∀ c j, 0 ≤ c → c < 16 → 0 ≤ j → j < 12 → w 186 (12 * c + j) = w (66 + Int.toNat c) j ∧ -3 ≤ w (66 + Int.toNat c) j ∧ w (66 + Int.toNat c) j ≤ 3)
theorem GC.fr {w v : Wd} (h : GC w) (a : Agw cGC fGC rGC w v) : GC v := by
  unfold GC at h ⊢
  rw [a.1 60 (by decide), a.1 61 (by decide), a.1 62 (by decide), a.1 63 (by decide), a.1 64 (by decide), a.1 181 (by decide), a.1 182 (by decide), a.1 183 (by decide), a.1 184 (by decide), a.1 185 (by decide), a.1 186 (by decide), a.f1 59 9 (by decide), a.f1 141 6 (by decide)]
  refine ⟨h.1, h.2.1, h.2.2.1, fun c j c0 c1 j0 j1 => ?_⟩
  rw [a.2.2 (66, 16) (by decide) (Int.toNat c) (by show _ < 16; omega)]
  exact h.2.2.2 c j c0 c1 j0 j1
abbrev cGV : List Nat := [89, 192, 193]
abbrev fGV : List (Nat × Int) := [(88, 2), (141, 7)]
abbrev rGV : List (Nat × Nat) := [(91, 9)]
def GV (w : Wd) : Prop := (w 141 7 = w 88 2 ∧ 0 ≤ w 88 2 ∧ w 88 2 ≤ 9) ∧ (w 192 = w 89) ∧ (∀ j, 0 ≤ j → j < w 88 2 → 0 ≤ w 89 j ∧ w 89 j ≤ 20) ∧ (∀ c j, 0 ≤ c → c < 9 → 0 ≤ j → j < 9 → w 193 (9 * c + j) = w (91 + Int.toNat c) j ∧ 0 ≤ w (91 + Int.toNat c) j ∧ w (91 + Int.toNat c) j ≤ 9)
theorem GV.fr {w v : Wd} (h : GV w) (a : Agw cGV fGV rGV w v) : GV v := by
  unfold GV at h ⊢
  rw [a.1 89 (by decide), a.1 192 (by decide), a.1 193 (by decide), a.f1 88 2 (by decide), a.f1 141 7 (by decide)]
  refine ⟨h.1, h.2.1, h.2.2.1, fun c j c0 c1 j0 j1 => ?_⟩
  rw [a.2.2 (91, 9) (by decide) (Int.toNat c) (by show _ < 9; omega)]
  exact h.2.2.2 c j c0 c1 j0 j1
abbrev cGO : List Nat := [131, 132, 201, 202]
abbrev fGO : List (Nat × Int) := []
abbrev rGO : List (Nat × Nat) := [(111, 20)]
def GO (w : Wd) : Prop := (∀ i, 0 ≤ i → i < 20 → w 132 i = owM (w 201) i) ∧ (∀ j, 0 ≤ j → j < 4 → w 202 (16 + j) = w 131 j ∧ 0 ≤ w 131 j ∧ w 131 j ≤ 99999) ∧ (∀ c j, 0 ≤ c → c < 20 → 0 ≤ j → j < 20 → w 201 (20 * c + j) = w (111 + Int.toNat c) j ∧ 0 ≤ w (111 + Int.toNat c) j ∧ w (111 + Int.toNat c) j ≤ 99999)
theorem GO.fr {w v : Wd} (h : GO w) (a : Agw cGO fGO rGO w v) : GO v := by
  unfold GO at h ⊢
  rw [a.1 131 (by decide), a.1 132 (by decide), a.1 201 (by decide), a.1 202 (by decide)]
  refine ⟨h.1, h.2.1, fun c j c0 c1 j0 j1 => ?_⟩
  rw [a.2.2 (111, 20) (by decide) (Int.toNat c) (by show _ < 20; omega)]
  exact h.2.2 c j c0 c1 j0 j1
abbrev cGK : List Nat := [140, 208, 209]
abbrev fGK : List (Nat × Int) := [(135, 2), (141, 9)]
abbrev rGK : List (Nat × Nat) := [(137, 3)]
def GK (w : Wd) : Prop := (w 141 9 = w 135 2 ∧ 0 ≤ w 135 2 ∧ w 135 2 ≤ 9) ∧ (w 209 = w 140) ∧ (∀ f j, 0 ≤ f → f < 3 → 0 ≤ j → j < w 135 2 → w 208 (3 * j + f) = w (137 + Int.toNat f) j ∧ -99 ≤ w (137 + Int.toNat f) j ∧ w (137 + Int.toNat f) j ≤ 99)
theorem GK.fr {w v : Wd} (h : GK w) (a : Agw cGK fGK rGK w v) : GK v := by
  unfold GK at h ⊢
  rw [a.1 140 (by decide), a.1 208 (by decide), a.1 209 (by decide), a.f1 135 2 (by decide), a.f1 141 9 (by decide)]
  refine ⟨h.1, h.2.1, fun c j c0 c1 j0 j1 => ?_⟩
  rw [a.2.2 (137, 3) (by decide) (Int.toNat c) (by show _ < 3; omega)]
  exact h.2.2 c j c0 c1 j0 j1
abbrev cGL : List Nat := [36, 37, 38, 39, 42, 44, 45, 46, 47, 49, 50, 51, 52, 54, 55, 56, 57, 169, 170, 171, 172, 173]
abbrev fGL : List (Nat × Int) := [(35, 2)]
abbrev rGL : List (Nat × Nat) := []
def GL (s : Int → Nat) (b : Nat) (LN : Int → List Lin) (w : Wd) : Prop := SCL w s LN ∧ LNM w LN ∧ FreeS s b ∧ w 35 2 = ((b : Nat) : Int)
theorem IsSc.mem {b : Nat} (h : IsSc b) (k : Nat) (hk : k ≤ 3) : b + k ∈ cGL := by
  rcases h with rfl | rfl | rfl | rfl <;> rcases (show k = 0 ∨ k = 1 ∨ k = 2 ∨ k = 3 by omega) with rfl | rfl | rfl | rfl <;> decide
theorem SCL.cells {w v : Wd} {s : Int → Nat} {LN : Int → List Lin} (h : SCL w s LN) (h42 : v 42 = w 42) (e : ∀ f, 0 ≤ f → f < 3 → ∀ k : Nat, k ≤ 3 → v (s f + k) = w (s f + k)) : SCL v s LN := by
  obtain ⟨h1, h2⟩ := h
  refine ⟨fun f a b => ?_, fun f a b => ?_⟩
  · have e0 : v (s f) = w (s f) := e f a b 0 (by decide)
    rw [h42, e0]
    exact h1 f a b
  · have e0 : v (s f) = w (s f) := e f a b 0 (by decide)
    rw [e0]
    exact ⟨(h2 f a b).1, fun i hi => ⟨lnX_cells (e f a b) ((h2 f a b).2 i hi).1, ((h2 f a b).2 i hi).2⟩⟩
theorem stA_cells {w v : Wd} (e : v 173 = w 173) {f i : Int} {L : List Stq} (h : stA w f i L) : stA v f i L := by
  unfold stA at h ⊢
  rw [e]
  exact h
theorem LNM.cells {w v : Wd} {LN : Int → List Lin} (h : LNM w LN) (e : ∀ c, c = 169 ∨ c = 170 ∨ c = 171 ∨ c = 172 ∨ c = 173 → v c = w c) : LNM v LN := by
  intro f a b
  obtain ⟨h1, h2, h3⟩ := h f a b
  rw [e 169 (by omega)]
  refine ⟨h1, h2, fun i hi => ⟨?_, (h3 i hi).2⟩⟩
  obtain ⟨p, q0, q1, q2, q3, q4, q5, q6, q7⟩ := (h3 i hi).1
  exact ⟨p, q0, by rw [e 171 (by omega)]; exact q1, by rw [e 172 (by omega)]; exact q2, by rw [e 171 (by omega)]; exact q3, q4, stA_cells (e 173 (by omega)) q5, stA_cells (e 173 (by omega)) q6, by rw [e 170 (by omega)]; exact q7⟩
theorem GL.fr {s : Int → Nat} {b : Nat} {LN : Int → List Lin} {w v : Wd} (h : GL s b LN w) (a : Agw cGL fGL rGL w v) : GL s b LN v := by
  obtain ⟨h1, h2, h3, h4⟩ := h
  refine ⟨h1.cells (a.1 42 (by decide)) (fun f f0 f1 k hk => a.1 _ ((h3.2.1 f f0 f1).1.mem k hk)), h2.cells (fun c hc => a.1 c (by rcases hc with rfl | rfl | rfl | rfl | rfl <;> decide)), h3, ?_⟩
  rw [a.f1 35 2 (by decide)]
  exact h4
/-- the whole -/
def GI (s : Int → Nat) (b : Nat) (LN : Int → List Lin) (w : Wd) : Prop := GR w ∧ GH w ∧ GC w ∧ GT w ∧ GL s b LN w ∧ GV w ∧ GP w ∧ GN w ∧ GO w ∧ GK w
theorem GI.mk {s : Int → Nat} {b : Nat} {LN : Int → List Lin} {w : Wd} (a : GR w) (c : GH w) (d : GC w) (e : GT w) (f : GL s b LN w) (g : GV w) (h : GP w) (i : GN w) (j : GO w) (k : GK w) : GI s b LN w := ⟨a, c, d, e, f, g, h, i, j, k⟩
/-- some scripts and lines -/
def GAl (w : Wd) : Prop := ∃ s b LN, GI s b LN w
