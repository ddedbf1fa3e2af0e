/-! THE CONSTRUCTORS: shapes and worlds as they grow. -/
def V0 : Wd := fun k => if k = 0 then bz [2, 2, 2, 2, 2, 2, 2, 2, 2, 2, 0] else if k = 1 then bz [2, 2, 2, 2, 2, 0, 2, 2, 2, 0, 2, 2, 2, 2, 2, 0] else if k = 15 then bz [2, 2, 2, 2, 2, 2, 2, 2, 2, 2, 0, 2, 2, 2, 2, 0] else if k = 30 then bz [2, 0, 2, 2, 2, 0] else if k = 35 then bz [2, 0, 2, 0, 0] else if k = 36 then bz [2, 0, 2, 2, 0, 2] else if k = 41 then bz [2, 2, 2, 2, 0, 0, 0, 0] else if k = 44 then bz [2, 0, 2, 2, 0, 2] else if k = 49 then bz [2, 0, 2, 2, 0, 2] else if k = 54 then bz [2, 0, 2, 2, 0, 2] else if k = 59 then bz [2, 2, 2, 2, 2, 2, 2, 2, 2, 0, 2, 2, 2, 2, 2, 2, 0] else if k = 88 then bz [2, 2, 0, 2, 2, 2, 0, 0, 0, 0] else if k = 103 then bz [2, 2, 2, 2, 0, 2, 2] else if k = 109 then bz [2, 2, 2, 2, 2, 2, 0] else if k = 135 then bz [2, 2, 0, 0, 0, 0] else if k = 141 then bz [0, 0, 0, 0, 0, 0, 0, 0, 0, 0, 2, 2, 2, 2, 2, 2, 2, 2, 2, 2, 2, 2, 2, 2, 2, 2, 2, 2, 2, 2, 2, 2, 2, 2, 2, 2, 2, 2, 2, 2, 2, 2, 2, 2, 2, 2, 2, 2, 0, 0, 0, 0, 0, 0, 0, 0, 0, 0, 0, 0, 2, 0, 0, 0, 0, 2, 2, 2, 2, 2, 2, 2, 2, 2, 2, 0, 2, 2, 2, 2, 2, 2, 0, 2, 2, 0, 2, 2, 2, 2, 2, 2, 2, 2, 2, 0, 2, 2] else if k = 42 then (fun _ => -1) else nz
theorem V0_nz {k : Nat} (h : k ≠ 0 ∧ k ≠ 1 ∧ k ≠ 15 ∧ k ≠ 30 ∧ k ≠ 35 ∧ k ≠ 36 ∧ k ≠ 41 ∧ k ≠ 44 ∧ k ≠ 49 ∧ k ≠ 54 ∧ k ≠ 59 ∧ k ≠ 88 ∧ k ≠ 103 ∧ k ≠ 109 ∧ k ≠ 135 ∧ k ≠ 141 ∧ k ≠ 42) : V0 k = nz := by
  obtain ⟨h0, h1, h15, h30, h35, h36, h41, h44, h49, h54, h59, h88, h103, h109, h135, h141, h42⟩ := h
  unfold V0
  rw [if_neg h0, if_neg h1, if_neg h15, if_neg h30, if_neg h35, if_neg h36, if_neg h41, if_neg h44, if_neg h49, if_neg h54, if_neg h59, if_neg h88, if_neg h103, if_neg h109, if_neg h135, if_neg h141, if_neg h42]
theorem V0_0 : V0 0 = bz [2, 2, 2, 2, 2, 2, 2, 2, 2, 2, 0] := rfl
theorem V0_1 : V0 1 = bz [2, 2, 2, 2, 2, 0, 2, 2, 2, 0, 2, 2, 2, 2, 2, 0] := rfl
theorem V0_15 : V0 15 = bz [2, 2, 2, 2, 2, 2, 2, 2, 2, 2, 0, 2, 2, 2, 2, 0] := rfl
theorem V0_30 : V0 30 = bz [2, 0, 2, 2, 2, 0] := rfl
theorem V0_35 : V0 35 = bz [2, 0, 2, 0, 0] := rfl
theorem V0_36 : V0 36 = bz [2, 0, 2, 2, 0, 2] := rfl
theorem V0_41 : V0 41 = bz [2, 2, 2, 2, 0, 0, 0, 0] := rfl
theorem V0_44 : V0 44 = bz [2, 0, 2, 2, 0, 2] := rfl
theorem V0_49 : V0 49 = bz [2, 0, 2, 2, 0, 2] := rfl
theorem V0_54 : V0 54 = bz [2, 0, 2, 2, 0, 2] := rfl
theorem V0_59 : V0 59 = bz [2, 2, 2, 2, 2, 2, 2, 2, 2, 0, 2, 2, 2, 2, 2, 2, 0] := rfl
theorem V0_88 : V0 88 = bz [2, 2, 0, 2, 2, 2, 0, 0, 0, 0] := rfl
theorem V0_103 : V0 103 = bz [2, 2, 2, 2, 0, 2, 2] := rfl
theorem V0_109 : V0 109 = bz [2, 2, 2, 2, 2, 2, 0] := rfl
theorem V0_135 : V0 135 = bz [2, 2, 0, 0, 0, 0] := rfl
theorem V0_141 : V0 141 = bz [0, 0, 0, 0, 0, 0, 0, 0, 0, 0, 2, 2, 2, 2, 2, 2, 2, 2, 2, 2, 2, 2, 2, 2, 2, 2, 2, 2, 2, 2, 2, 2, 2, 2, 2, 2, 2, 2, 2, 2, 2, 2, 2, 2, 2, 2, 2, 2, 0, 0, 0, 0, 0, 0, 0, 0, 0, 0, 0, 0, 2, 0, 0, 0, 0, 2, 2, 2, 2, 2, 2, 2, 2, 2, 2, 0, 2, 2, 2, 2, 2, 2, 0, 2, 2, 0, 2, 2, 2, 2, 2, 2, 2, 2, 2, 0, 2, 2] := rfl
theorem V0_42 : V0 42 = fun _ => -1 := rfl
theorem V0_h {n : Nat} : ∀ j : Int, V0 42 j < ((n : Nat) : Int) := fun j => by rw [V0_42]; show (-1 : Int) < ((n : Nat) : Int); omega
def V1 : Wd := wu (wu (wu V0 35 2 36) 35 3 0) 35 4 (-1)
theorem V1_hi {k : Nat} (h : k ≠ 35) : V1 k = V0 k := by unfold V1; rw [wu_ne h, wu_ne h, wu_ne h]
theorem V1_h {n : Nat} : ∀ j : Int, V1 42 j < ((n : Nat) : Int) := by rw [V1_hi (k := 42) (by decide)]; exact V0_h
def V2 : Wd := wu (wu (wu V1 42 0 44) 42 1 49) 42 2 54
theorem V2_hi {k : Nat} (h : k ≠ 35) (h2 : k ≠ 42) : V2 k = V0 k := by unfold V2; rw [wu_ne h2, wu_ne h2, wu_ne h2, V1_hi h]
theorem V2_h {n : Nat} (h : 54 < n) : ∀ j : Int, V2 42 j < ((n : Nat) : Int) := by unfold V2; exact w42u (w42u (w42u V1_h (by omega)) (by omega)) (by omega)
def V3 : Wd := wu (wu (wu (wu (wu (wu (wu (wu (wu (wu (wu (wu (wu (wu (wu (wu V2 104 0 1) 104 1 1) 104 2 1) 104 3 1) 104 4 1) 104 5 1) 104 6 1) 104 7 1) 104 8 1) 104 9 1) 104 10 1) 104 11 1) 104 12 1) 104 13 1) 104 14 1) 104 15 1
theorem V3_hi {k : Nat} (h : k ≠ 35) (h2 : k ≠ 42) (h3 : k ≠ 104) : V3 k = V0 k := by unfold V3; rw [wu_ne h3, wu_ne h3, wu_ne h3, wu_ne h3, wu_ne h3, wu_ne h3, wu_ne h3, wu_ne h3, wu_ne h3, wu_ne h3, wu_ne h3, wu_ne h3, wu_ne h3, wu_ne h3, wu_ne h3, wu_ne h3, V2_hi h h2]
theorem V3_h {n : Nat} (h : 54 < n) : ∀ j : Int, V3 42 j < ((n : Nat) : Int) := by unfold V3; exact w42n (by decide) (w42n (by decide) (w42n (by decide) (w42n (by decide) (w42n (by decide) (w42n (by decide) (w42n (by decide) (w42n (by decide) (w42n (by decide) (w42n (by decide) (w42n (by decide) (w42n (by decide) (w42n (by decide) (w42n (by decide) (w42n (by decide) (w42n (by decide) (V2_h h))))))))))))))))
def V4 : Wd := wu V3 0 10 0
theorem V4_hi {k : Nat} (h : k ≠ 35) (h2 : k ≠ 42) (h3 : k ≠ 104) (h4 : k ≠ 0) : V4 k = V0 k := by unfold V4; rw [wu_ne h4, V3_hi h h2 h3]
theorem V4_h {n : Nat} (h : 54 < n) : ∀ j : Int, V4 42 j < ((n : Nat) : Int) := by unfold V4; exact w42n (by decide) (V3_h h)
def V5 : Wd := wu V4 141 59 (-1)
theorem V5_hi {k : Nat} (h : k ≠ 35) (h2 : k ≠ 42) (h3 : k ≠ 104) (h4 : k ≠ 0) (h5 : k ≠ 141) : V5 k = V0 k := by unfold V5; rw [wu_ne h5, V4_hi h h2 h3 h4]
theorem V5_h {n : Nat} (h : 54 < n) : ∀ j : Int, V5 42 j < ((n : Nat) : Int) := by unfold V5; exact w42n (by decide) (V4_h h)
def V6 : Wd := wu (wu (wu (wu (wu (wu (wu (wu (wu (wu (wu (wu (wu (wu (wu (wu V5 161 0 1) 161 1 1) 161 2 1) 161 3 1) 161 4 1) 161 5 1) 161 6 1) 161 7 1) 161 8 1) 161 9 1) 161 10 1) 161 11 1) 161 12 1) 161 13 1) 161 14 1) 161 15 1
def sx_0 : List Sh := []
theorem gx_0 : Sg 0 0 sx_0 := Sg.nil
theorem bo_X0 : bOK 17 tyX0 [2, 2, 2, 2, 2, 2, 2, 2, 2, 0, 2, 2, 2, 2, 2, 2, 0] = true := by decide +kernel
theorem bo_X1 : bOK 7 tyX1 [2, 2, 2, 2, 2, 2, 0] = true := by decide +kernel
theorem bo_X2 : bOK 8 tyX2 [2, 2, 2, 2, 0, 0, 0, 0] = true := by decide +kernel
theorem bo_X3 : bOK 16 tyX3 [2, 2, 2, 2, 2, 2, 2, 2, 2, 2, 0, 2, 2, 2, 2, 0] = true := by decide +kernel
theorem bo_X4 : bOK 5 tyX4 [2, 0, 2, 0, 0] = true := by decide +kernel
theorem bo_X5 : bOK 16 tyX5 [2, 2, 2, 2, 2, 0, 2, 2, 2, 0, 2, 2, 2, 2, 2, 0] = true := by decide +kernel
theorem bo_X6 : bOK 6 tyX6 [2, 0, 2, 2, 0, 2] = true := by decide +kernel
theorem bo_X7 : bOK 10 tyX7 [2, 2, 0, 2, 2, 2, 0, 0, 0, 0] = true := by decide +kernel
theorem bo_X8 : bOK 6 tyX8 [2, 0, 2, 2, 2, 0] = true := by decide +kernel
theorem bo_X9 : bOK 6 tyX9 [2, 2, 0, 0, 0, 0] = true := by decide +kernel
theorem bo_X10 : bOK 7 tyX10 [2, 2, 2, 2, 0, 2, 2] = true := by decide +kernel
theorem bo_X11 : bOK 11 tyX11 [2, 2, 2, 2, 2, 2, 2, 2, 2, 2, 0] = true := by decide +kernel
theorem bo_X12 : bOK 98 tyX12 [0, 0, 0, 0, 0, 0, 0, 0, 0, 0, 2, 2, 2, 2, 2, 2, 2, 2, 2, 2, 2, 2, 2, 2, 2, 2, 2, 2, 2, 2, 2, 2, 2, 2, 2, 2, 2, 2, 2, 2, 2, 2, 2, 2, 2, 2, 2, 2, 0, 0, 0, 0, 0, 0, 0, 0, 0, 0, 0, 0, 2, 0, 0, 0, 0, 2, 2, 2, 2, 2, 2, 2, 2, 2, 2, 0, 2, 2, 2, 2, 2, 2, 0, 2, 2, 0, 2, 2, 2, 2, 2, 2, 2, 2, 2, 0, 2, 2] = true := by decide +kernel
def sx_1 : List Sh := sx_0 ++ [(0, 11, [2, 2, 2, 2, 2, 2, 2, 2, 2, 2, 0])]
theorem gx_1 : Sg 1 11 sx_1 := Sg.push (s := (0, 11, [2, 2, 2, 2, 2, 2, 2, 2, 2, 2, 0])) gx_0 (by decide +kernel) (by decide)
def sx_2 : List Sh := sx_1 ++ [(0, 5, [2, 2, 2, 2, 2, 0, 2, 2, 2, 0, 2, 2, 2, 2, 2, 0])]
theorem gx_2 : Sg 2 27 sx_2 := Sg.push (s := (0, 5, [2, 2, 2, 2, 2, 0, 2, 2, 2, 0, 2, 2, 2, 2, 2, 0])) gx_1 (by decide +kernel) (by decide)
def sx_3 : List Sh := sx_2 ++ [(1, 12, [])]
theorem gx_3 : Sg 3 39 sx_3 := Sg.push (s := (1, 12, [])) gx_2 (by decide +kernel) (by decide)
theorem ox_3_1 : sx_3[1]? = some (0, 5, [2, 2, 2, 2, 2, 0, 2, 2, 2, 0, 2, 2, 2, 2, 2, 0]) := by decide +kernel
def sx_4 : List Sh := sx_3.set 1 (0, 5, [12, 2, 2, 2, 2, 0, 2, 2, 2, 0, 2, 2, 2, 2, 2, 0])
theorem gx_4 : Sg 3 39 sx_4 := Sg.set (k := 1) (s := (0, 5, [2, 2, 2, 2, 2, 0, 2, 2, 2, 0, 2, 2, 2, 2, 2, 0])) (s' := (0, 5, [12, 2, 2, 2, 2, 0, 2, 2, 2, 0, 2, 2, 2, 2, 2, 0])) gx_3 ox_3_1 rfl (by decide +kernel) (by decide)
def sx_5 : List Sh := sx_4 ++ [(1, 12, [])]
theorem gx_5 : Sg 4 51 sx_5 := Sg.push (s := (1, 12, [])) gx_4 (by decide +kernel) (by decide)
theorem ox_5_1 : sx_5[1]? = some (0, 5, [12, 2, 2, 2, 2, 0, 2, 2, 2, 0, 2, 2, 2, 2, 2, 0]) := by decide +kernel
def sx_6 : List Sh := sx_5.set 1 (0, 5, [12, 13, 2, 2, 2, 0, 2, 2, 2, 0, 2, 2, 2, 2, 2, 0])
theorem gx_6 : Sg 4 51 sx_6 := Sg.set (k := 1) (s := (0, 5, [12, 2, 2, 2, 2, 0, 2, 2, 2, 0, 2, 2, 2, 2, 2, 0])) (s' := (0, 5, [12, 13, 2, 2, 2, 0, 2, 2, 2, 0, 2, 2, 2, 2, 2, 0])) gx_5 ox_5_1 rfl (by decide +kernel) (by decide)
def sx_7 : List Sh := sx_6 ++ [(1, 12, [])]
theorem gx_7 : Sg 5 63 sx_7 := Sg.push (s := (1, 12, [])) gx_6 (by decide +kernel) (by decide)
theorem ox_7_1 : sx_7[1]? = some (0, 5, [12, 13, 2, 2, 2, 0, 2, 2, 2, 0, 2, 2, 2, 2, 2, 0]) := by decide +kernel
def sx_8 : List Sh := sx_7.set 1 (0, 5, [12, 13, 14, 2, 2, 0, 2, 2, 2, 0, 2, 2, 2, 2, 2, 0])
theorem gx_8 : Sg 5 63 sx_8 := Sg.set (k := 1) (s := (0, 5, [12, 13, 2, 2, 2, 0, 2, 2, 2, 0, 2, 2, 2, 2, 2, 0])) (s' := (0, 5, [12, 13, 14, 2, 2, 0, 2, 2, 2, 0, 2, 2, 2, 2, 2, 0])) gx_7 ox_7_1 rfl (by decide +kernel) (by decide)
def sx_9 : List Sh := sx_8 ++ [(1, 12, [])]
theorem gx_9 : Sg 6 75 sx_9 := Sg.push (s := (1, 12, [])) gx_8 (by decide +kernel) (by decide)
theorem ox_9_1 : sx_9[1]? = some (0, 5, [12, 13, 14, 2, 2, 0, 2, 2, 2, 0, 2, 2, 2, 2, 2, 0]) := by decide +kernel
def sx_10 : List Sh := sx_9.set 1 (0, 5, [12, 13, 14, 15, 2, 0, 2, 2, 2, 0, 2, 2, 2, 2, 2, 0])
theorem gx_10 : Sg 6 75 sx_10 := Sg.set (k := 1) (s := (0, 5, [12, 13, 14, 2, 2, 0, 2, 2, 2, 0, 2, 2, 2, 2, 2, 0])) (s' := (0, 5, [12, 13, 14, 15, 2, 0, 2, 2, 2, 0, 2, 2, 2, 2, 2, 0])) gx_9 ox_9_1 rfl (by decide +kernel) (by decide)
def sx_11 : List Sh := sx_10 ++ [(1, 12, [])]
theorem gx_11 : Sg 7 87 sx_11 := Sg.push (s := (1, 12, [])) gx_10 (by decide +kernel) (by decide)
theorem ox_11_1 : sx_11[1]? = some (0, 5, [12, 13, 14, 15, 2, 0, 2, 2, 2, 0, 2, 2, 2, 2, 2, 0]) := by decide +kernel
def sx_12 : List Sh := sx_11.set 1 (0, 5, [12, 13, 14, 15, 16, 0, 2, 2, 2, 0, 2, 2, 2, 2, 2, 0])
theorem gx_12 : Sg 7 87 sx_12 := Sg.set (k := 1) (s := (0, 5, [12, 13, 14, 15, 2, 0, 2, 2, 2, 0, 2, 2, 2, 2, 2, 0])) (s' := (0, 5, [12, 13, 14, 15, 16, 0, 2, 2, 2, 0, 2, 2, 2, 2, 2, 0])) gx_11 ox_11_1 rfl (by decide +kernel) (by decide)
def sx_13 : List Sh := sx_12 ++ [(1, 30, [])]
theorem gx_13 : Sg 8 117 sx_13 := Sg.push (s := (1, 30, [])) gx_12 (by decide +kernel) (by decide)
theorem ox_13_1 : sx_13[1]? = some (0, 5, [12, 13, 14, 15, 16, 0, 2, 2, 2, 0, 2, 2, 2, 2, 2, 0]) := by decide +kernel
def sx_14 : List Sh := sx_13.set 1 (0, 5, [12, 13, 14, 15, 16, 0, 17, 2, 2, 0, 2, 2, 2, 2, 2, 0])
theorem gx_14 : Sg 8 117 sx_14 := Sg.set (k := 1) (s := (0, 5, [12, 13, 14, 15, 16, 0, 2, 2, 2, 0, 2, 2, 2, 2, 2, 0])) (s' := (0, 5, [12, 13, 14, 15, 16, 0, 17, 2, 2, 0, 2, 2, 2, 2, 2, 0])) gx_13 ox_13_1 rfl (by decide +kernel) (by decide)
def sx_15 : List Sh := sx_14 ++ [(1, 30, [])]
theorem gx_15 : Sg 9 147 sx_15 := Sg.push (s := (1, 30, [])) gx_14 (by decide +kernel) (by decide)
theorem ox_15_1 : sx_15[1]? = some (0, 5, [12, 13, 14, 15, 16, 0, 17, 2, 2, 0, 2, 2, 2, 2, 2, 0]) := by decide +kernel
def sx_16 : List Sh := sx_15.set 1 (0, 5, [12, 13, 14, 15, 16, 0, 17, 18, 2, 0, 2, 2, 2, 2, 2, 0])
theorem gx_16 : Sg 9 147 sx_16 := Sg.set (k := 1) (s := (0, 5, [12, 13, 14, 15, 16, 0, 17, 2, 2, 0, 2, 2, 2, 2, 2, 0])) (s' := (0, 5, [12, 13, 14, 15, 16, 0, 17, 18, 2, 0, 2, 2, 2, 2, 2, 0])) gx_15 ox_15_1 rfl (by decide +kernel) (by decide)
def sx_17 : List Sh := sx_16 ++ [(1, 30, [])]
theorem gx_17 : Sg 10 177 sx_17 := Sg.push (s := (1, 30, [])) gx_16 (by decide +kernel) (by decide)
theorem ox_17_1 : sx_17[1]? = some (0, 5, [12, 13, 14, 15, 16, 0, 17, 18, 2, 0, 2, 2, 2, 2, 2, 0]) := by decide +kernel
def sx_18 : List Sh := sx_17.set 1 (0, 5, [12, 13, 14, 15, 16, 0, 17, 18, 19, 0, 2, 2, 2, 2, 2, 0])
theorem gx_18 : Sg 10 177 sx_18 := Sg.set (k := 1) (s := (0, 5, [12, 13, 14, 15, 16, 0, 17, 18, 2, 0, 2, 2, 2, 2, 2, 0])) (s' := (0, 5, [12, 13, 14, 15, 16, 0, 17, 18, 19, 0, 2, 2, 2, 2, 2, 0])) gx_17 ox_17_1 rfl (by decide +kernel) (by decide)
def sx_19 : List Sh := sx_18 ++ [(1, 150, [])]
theorem gx_19 : Sg 11 327 sx_19 := Sg.push (s := (1, 150, [])) gx_18 (by decide +kernel) (by decide)
theorem ox_19_1 : sx_19[1]? = some (0, 5, [12, 13, 14, 15, 16, 0, 17, 18, 19, 0, 2, 2, 2, 2, 2, 0]) := by decide +kernel
def sx_20 : List Sh := sx_19.set 1 (0, 5, [12, 13, 14, 15, 16, 0, 17, 18, 19, 0, 20, 2, 2, 2, 2, 0])
theorem gx_20 : Sg 11 327 sx_20 := Sg.set (k := 1) (s := (0, 5, [12, 13, 14, 15, 16, 0, 17, 18, 19, 0, 2, 2, 2, 2, 2, 0])) (s' := (0, 5, [12, 13, 14, 15, 16, 0, 17, 18, 19, 0, 20, 2, 2, 2, 2, 0])) gx_19 ox_19_1 rfl (by decide +kernel) (by decide)
def sx_21 : List Sh := sx_20 ++ [(1, 150, [])]
theorem gx_21 : Sg 12 477 sx_21 := Sg.push (s := (1, 150, [])) gx_20 (by decide +kernel) (by decide)
theorem ox_21_1 : sx_21[1]? = some (0, 5, [12, 13, 14, 15, 16, 0, 17, 18, 19, 0, 20, 2, 2, 2, 2, 0]) := by decide +kernel
def sx_22 : List Sh := sx_21.set 1 (0, 5, [12, 13, 14, 15, 16, 0, 17, 18, 19, 0, 20, 21, 2, 2, 2, 0])
theorem gx_22 : Sg 12 477 sx_22 := Sg.set (k := 1) (s := (0, 5, [12, 13, 14, 15, 16, 0, 17, 18, 19, 0, 20, 2, 2, 2, 2, 0])) (s' := (0, 5, [12, 13, 14, 15, 16, 0, 17, 18, 19, 0, 20, 21, 2, 2, 2, 0])) gx_21 ox_21_1 rfl (by decide +kernel) (by decide)
def sx_23 : List Sh := sx_22 ++ [(1, 150, [])]
theorem gx_23 : Sg 13 627 sx_23 := Sg.push (s := (1, 150, [])) gx_22 (by decide +kernel) (by decide)
theorem ox_23_1 : sx_23[1]? = some (0, 5, [12, 13, 14, 15, 16, 0, 17, 18, 19, 0, 20, 21, 2, 2, 2, 0]) := by decide +kernel
def sx_24 : List Sh := sx_23.set 1 (0, 5, [12, 13, 14, 15, 16, 0, 17, 18, 19, 0, 20, 21, 22, 2, 2, 0])
theorem gx_24 : Sg 13 627 sx_24 := Sg.set (k := 1) (s := (0, 5, [12, 13, 14, 15, 16, 0, 17, 18, 19, 0, 20, 21, 2, 2, 2, 0])) (s' := (0, 5, [12, 13, 14, 15, 16, 0, 17, 18, 19, 0, 20, 21, 22, 2, 2, 0])) gx_23 ox_23_1 rfl (by decide +kernel) (by decide)
def sx_25 : List Sh := sx_24 ++ [(1, 150, [])]
theorem gx_25 : Sg 14 777 sx_25 := Sg.push (s := (1, 150, [])) gx_24 (by decide +kernel) (by decide)
theorem ox_25_1 : sx_25[1]? = some (0, 5, [12, 13, 14, 15, 16, 0, 17, 18, 19, 0, 20, 21, 22, 2, 2, 0]) := by decide +kernel
def sx_26 : List Sh := sx_25.set 1 (0, 5, [12, 13, 14, 15, 16, 0, 17, 18, 19, 0, 20, 21, 22, 23, 2, 0])
theorem gx_26 : Sg 14 777 sx_26 := Sg.set (k := 1) (s := (0, 5, [12, 13, 14, 15, 16, 0, 17, 18, 19, 0, 20, 21, 22, 2, 2, 0])) (s' := (0, 5, [12, 13, 14, 15, 16, 0, 17, 18, 19, 0, 20, 21, 22, 23, 2, 0])) gx_25 ox_25_1 rfl (by decide +kernel) (by decide)
def sx_27 : List Sh := sx_26 ++ [(1, 150, [])]
theorem gx_27 : Sg 15 927 sx_27 := Sg.push (s := (1, 150, [])) gx_26 (by decide +kernel) (by decide)
theorem ox_27_1 : sx_27[1]? = some (0, 5, [12, 13, 14, 15, 16, 0, 17, 18, 19, 0, 20, 21, 22, 23, 2, 0]) := by decide +kernel
def sx_28 : List Sh := sx_27.set 1 (0, 5, [12, 13, 14, 15, 16, 0, 17, 18, 19, 0, 20, 21, 22, 23, 24, 0])
theorem gx_28 : Sg 15 927 sx_28 := Sg.set (k := 1) (s := (0, 5, [12, 13, 14, 15, 16, 0, 17, 18, 19, 0, 20, 21, 22, 23, 2, 0])) (s' := (0, 5, [12, 13, 14, 15, 16, 0, 17, 18, 19, 0, 20, 21, 22, 23, 24, 0])) gx_27 ox_27_1 rfl (by decide +kernel) (by decide)
set_option maxHeartbeats 4000000 in
set_option maxRecDepth 100000 in
theorem cX5_init_1 : Call 1 13 900 mX5_init [(2, 1)] sx_2 V0 (PC sx_28 V0) := by
  refine Call.introG gx_2 (by decide +kernel) (Nat.le_of_ble_eq_true rfl) (fun ρ hR => ?_)
  refine s_aload_n dX5_init_0 0 rfl rfl (z_obj 1 dX5_init_1 oi_X5 rfl (by decide) rfl (s_aload_n dX5_init_4 0 rfl rfl (s_bipush dX5_init_5 (by decide) (z_newI (q := 2) 12 dX5_init_7 gx_2 rfl rfl rfl (Nat.le_of_ble_eq_true rfl) (V0_nz (by decide)) V0_h ⟨Nat.le_of_ble_eq_true rfl, Nat.le_of_ble_eq_true rfl⟩ (sh' := sx_3) rfl (s_putRF 1 0 2 12 dX5_init_9 cf_X5 ff_X5_9 rfl rfl (by decide) (by decide) ox_3_1 (by decide) rfl rfl rfl (fun _ => ⟨rfl, rfl⟩) (sh' := sx_4) rfl (s_aload_n dX5_init_12 0 rfl rfl (s_bipush dX5_init_13 (by decide) ?_)))))))
  refine z_newI (q := 3) 12 dX5_init_15 gx_4 rfl rfl rfl (Nat.le_of_ble_eq_true rfl) (V0_nz (by decide)) V0_h ⟨Nat.le_of_ble_eq_true rfl, Nat.le_of_ble_eq_true rfl⟩ (sh' := sx_5) rfl (s_putRF 1 1 3 13 dX5_init_17 cf_X5 ff_X5_15 rfl rfl (by decide) (by decide) ox_5_1 (by decide) rfl rfl rfl (fun _ => ⟨rfl, rfl⟩) (sh' := sx_6) rfl (s_aload_n dX5_init_20 0 rfl rfl (s_bipush dX5_init_21 (by decide) (z_newI (q := 4) 12 dX5_init_23 gx_6 rfl rfl rfl (Nat.le_of_ble_eq_true rfl) (V0_nz (by decide)) V0_h ⟨Nat.le_of_ble_eq_true rfl, Nat.le_of_ble_eq_true rfl⟩ (sh' := sx_7) rfl (s_putRF 1 2 4 14 dX5_init_25 cf_X5 ff_X5_18 rfl rfl (by decide) (by decide) ox_7_1 (by decide) rfl rfl rfl (fun _ => ⟨rfl, rfl⟩) (sh' := sx_8) rfl (s_aload_n dX5_init_28 0 rfl rfl (s_bipush dX5_init_29 (by decide) ?_)))))))
  refine z_newI (q := 5) 12 dX5_init_31 gx_8 rfl rfl rfl (Nat.le_of_ble_eq_true rfl) (V0_nz (by decide)) V0_h ⟨Nat.le_of_ble_eq_true rfl, Nat.le_of_ble_eq_true rfl⟩ (sh' := sx_9) rfl (s_putRF 1 3 5 15 dX5_init_33 cf_X5 ff_X5_21 rfl rfl (by decide) (by decide) ox_9_1 (by decide) rfl rfl rfl (fun _ => ⟨rfl, rfl⟩) (sh' := sx_10) rfl (s_aload_n dX5_init_36 0 rfl rfl (s_bipush dX5_init_37 (by decide) (z_newI (q := 6) 12 dX5_init_39 gx_10 rfl rfl rfl (Nat.le_of_ble_eq_true rfl) (V0_nz (by decide)) V0_h ⟨Nat.le_of_ble_eq_true rfl, Nat.le_of_ble_eq_true rfl⟩ (sh' := sx_11) rfl (s_putRF 1 4 6 16 dX5_init_41 cf_X5 ff_X5_24 rfl rfl (by decide) (by decide) ox_11_1 (by decide) rfl rfl rfl (fun _ => ⟨rfl, rfl⟩) (sh' := sx_12) rfl (s_aload_n dX5_init_44 0 rfl rfl (s_bipush dX5_init_45 (by decide) ?_)))))))
  refine z_newI (q := 7) 30 dX5_init_47 gx_12 rfl rfl rfl (Nat.le_of_ble_eq_true rfl) (V0_nz (by decide)) V0_h ⟨Nat.le_of_ble_eq_true rfl, Nat.le_of_ble_eq_true rfl⟩ (sh' := sx_13) rfl (s_putRF 1 6 7 17 dX5_init_49 cf_X5 ff_X5_27 rfl rfl (by decide) (by decide) ox_13_1 (by decide) rfl rfl rfl (fun _ => ⟨rfl, rfl⟩) (sh' := sx_14) rfl (s_aload_n dX5_init_52 0 rfl rfl (s_bipush dX5_init_53 (by decide) (z_newI (q := 8) 30 dX5_init_55 gx_14 rfl rfl rfl (Nat.le_of_ble_eq_true rfl) (V0_nz (by decide)) V0_h ⟨Nat.le_of_ble_eq_true rfl, Nat.le_of_ble_eq_true rfl⟩ (sh' := sx_15) rfl (s_putRF 1 7 8 18 dX5_init_57 cf_X5 ff_X5_30 rfl rfl (by decide) (by decide) ox_15_1 (by decide) rfl rfl rfl (fun _ => ⟨rfl, rfl⟩) (sh' := sx_16) rfl (s_aload_n dX5_init_60 0 rfl rfl (s_bipush dX5_init_61 (by decide) ?_)))))))
  refine z_newI (q := 9) 30 dX5_init_63 gx_16 rfl rfl rfl (Nat.le_of_ble_eq_true rfl) (V0_nz (by decide)) V0_h ⟨Nat.le_of_ble_eq_true rfl, Nat.le_of_ble_eq_true rfl⟩ (sh' := sx_17) rfl (s_putRF 1 8 9 19 dX5_init_65 cf_X5 ff_X5_33 rfl rfl (by decide) (by decide) ox_17_1 (by decide) rfl rfl rfl (fun _ => ⟨rfl, rfl⟩) (sh' := sx_18) rfl (s_aload_n dX5_init_68 0 rfl rfl (s_sipush dX5_init_69 (by decide) (z_newI (q := 10) 150 dX5_init_72 gx_18 rfl rfl rfl (Nat.le_of_ble_eq_true rfl) (V0_nz (by decide)) V0_h ⟨Nat.le_of_ble_eq_true rfl, Nat.le_of_ble_eq_true rfl⟩ (sh' := sx_19) rfl (s_putRF 1 10 10 20 dX5_init_74 cf_X5 ff_X5_36 rfl rfl (by decide) (by decide) ox_19_1 (by decide) rfl rfl rfl (fun _ => ⟨rfl, rfl⟩) (sh' := sx_20) rfl (s_aload_n dX5_init_77 0 rfl rfl (s_sipush dX5_init_78 (by decide) ?_)))))))
  refine z_newI (q := 11) 150 dX5_init_81 gx_20 rfl rfl rfl (Nat.le_of_ble_eq_true rfl) (V0_nz (by decide)) V0_h ⟨Nat.le_of_ble_eq_true rfl, Nat.le_of_ble_eq_true rfl⟩ (sh' := sx_21) rfl (s_putRF 1 11 11 21 dX5_init_83 cf_X5 ff_X5_39 rfl rfl (by decide) (by decide) ox_21_1 (by decide) rfl rfl rfl (fun _ => ⟨rfl, rfl⟩) (sh' := sx_22) rfl (s_aload_n dX5_init_86 0 rfl rfl (s_sipush dX5_init_87 (by decide) (z_newI (q := 12) 150 dX5_init_90 gx_22 rfl rfl rfl (Nat.le_of_ble_eq_true rfl) (V0_nz (by decide)) V0_h ⟨Nat.le_of_ble_eq_true rfl, Nat.le_of_ble_eq_true rfl⟩ (sh' := sx_23) rfl (s_putRF 1 12 12 22 dX5_init_92 cf_X5 ff_X5_42 rfl rfl (by decide) (by decide) ox_23_1 (by decide) rfl rfl rfl (fun _ => ⟨rfl, rfl⟩) (sh' := sx_24) rfl (s_aload_n dX5_init_95 0 rfl rfl (s_sipush dX5_init_96 (by decide) ?_)))))))
  refine z_newI (q := 13) 150 dX5_init_99 gx_24 rfl rfl rfl (Nat.le_of_ble_eq_true rfl) (V0_nz (by decide)) V0_h ⟨Nat.le_of_ble_eq_true rfl, Nat.le_of_ble_eq_true rfl⟩ (sh' := sx_25) rfl (s_putRF 1 13 13 23 dX5_init_101 cf_X5 ff_X5_45 rfl rfl (by decide) (by decide) ox_25_1 (by decide) rfl rfl rfl (fun _ => ⟨rfl, rfl⟩) (sh' := sx_26) rfl (s_aload_n dX5_init_104 0 rfl rfl (s_sipush dX5_init_105 (by decide) (z_newI (q := 14) 150 dX5_init_108 gx_26 rfl rfl rfl (Nat.le_of_ble_eq_true rfl) (V0_nz (by decide)) V0_h ⟨Nat.le_of_ble_eq_true rfl, Nat.le_of_ble_eq_true rfl⟩ (sh' := sx_27) rfl (s_putRF 1 14 14 24 dX5_init_110 cf_X5 ff_X5_48 rfl rfl (by decide) (by decide) ox_27_1 (by decide) rfl rfl rfl (fun _ => ⟨rfl, rfl⟩) (sh' := sx_28) rfl (z_ret dX5_init_113 hR rfl gx_2 gx_28 rfl rfl))))))
theorem ox_28_0 : sx_28[0]? = some (0, 11, [2, 2, 2, 2, 2, 2, 2, 2, 2, 2, 0]) := by decide +kernel
def sx_29 : List Sh := sx_28.set 0 (0, 11, [11, 2, 2, 2, 2, 2, 2, 2, 2, 2, 0])
theorem gx_29 : Sg 15 927 sx_29 := Sg.set (k := 0) (s := (0, 11, [2, 2, 2, 2, 2, 2, 2, 2, 2, 2, 0])) (s' := (0, 11, [11, 2, 2, 2, 2, 2, 2, 2, 2, 2, 0])) gx_28 ox_28_0 rfl (by decide +kernel) (by decide)
def sx_30 : List Sh := sx_29 ++ [(0, 3, [2, 2, 2, 2, 2, 2, 2, 2, 2, 2, 0, 2, 2, 2, 2, 0])]
theorem gx_30 : Sg 16 943 sx_30 := Sg.push (s := (0, 3, [2, 2, 2, 2, 2, 2, 2, 2, 2, 2, 0, 2, 2, 2, 2, 0])) gx_29 (by decide +kernel) (by decide)
def sx_31 : List Sh := sx_30 ++ [(1, 16, [])]
theorem gx_31 : Sg 17 959 sx_31 := Sg.push (s := (1, 16, [])) gx_30 (by decide +kernel) (by decide)
theorem ox_31_15 : sx_31[15]? = some (0, 3, [2, 2, 2, 2, 2, 2, 2, 2, 2, 2, 0, 2, 2, 2, 2, 0]) := by decide +kernel
def sx_32 : List Sh := sx_31.set 15 (0, 3, [26, 2, 2, 2, 2, 2, 2, 2, 2, 2, 0, 2, 2, 2, 2, 0])
theorem gx_32 : Sg 17 959 sx_32 := Sg.set (k := 15) (s := (0, 3, [2, 2, 2, 2, 2, 2, 2, 2, 2, 2, 0, 2, 2, 2, 2, 0])) (s' := (0, 3, [26, 2, 2, 2, 2, 2, 2, 2, 2, 2, 0, 2, 2, 2, 2, 0])) gx_31 ox_31_15 rfl (by decide +kernel) (by decide)
def sx_33 : List Sh := sx_32 ++ [(1, 16, [])]
theorem gx_33 : Sg 18 975 sx_33 := Sg.push (s := (1, 16, [])) gx_32 (by decide +kernel) (by decide)
theorem ox_33_15 : sx_33[15]? = some (0, 3, [26, 2, 2, 2, 2, 2, 2, 2, 2, 2, 0, 2, 2, 2, 2, 0]) := by decide +kernel
def sx_34 : List Sh := sx_33.set 15 (0, 3, [26, 27, 2, 2, 2, 2, 2, 2, 2, 2, 0, 2, 2, 2, 2, 0])
theorem gx_34 : Sg 18 975 sx_34 := Sg.set (k := 15) (s := (0, 3, [26, 2, 2, 2, 2, 2, 2, 2, 2, 2, 0, 2, 2, 2, 2, 0])) (s' := (0, 3, [26, 27, 2, 2, 2, 2, 2, 2, 2, 2, 0, 2, 2, 2, 2, 0])) gx_33 ox_33_15 rfl (by decide +kernel) (by decide)
def sx_35 : List Sh := sx_34 ++ [(1, 16, [])]
theorem gx_35 : Sg 19 991 sx_35 := Sg.push (s := (1, 16, [])) gx_34 (by decide +kernel) (by decide)
theorem ox_35_15 : sx_35[15]? = some (0, 3, [26, 27, 2, 2, 2, 2, 2, 2, 2, 2, 0, 2, 2, 2, 2, 0]) := by decide +kernel
def sx_36 : List Sh := sx_35.set 15 (0, 3, [26, 27, 28, 2, 2, 2, 2, 2, 2, 2, 0, 2, 2, 2, 2, 0])
theorem gx_36 : Sg 19 991 sx_36 := Sg.set (k := 15) (s := (0, 3, [26, 27, 2, 2, 2, 2, 2, 2, 2, 2, 0, 2, 2, 2, 2, 0])) (s' := (0, 3, [26, 27, 28, 2, 2, 2, 2, 2, 2, 2, 0, 2, 2, 2, 2, 0])) gx_35 ox_35_15 rfl (by decide +kernel) (by decide)
def sx_37 : List Sh := sx_36 ++ [(1, 16, [])]
theorem gx_37 : Sg 20 1007 sx_37 := Sg.push (s := (1, 16, [])) gx_36 (by decide +kernel) (by decide)
theorem ox_37_15 : sx_37[15]? = some (0, 3, [26, 27, 28, 2, 2, 2, 2, 2, 2, 2, 0, 2, 2, 2, 2, 0]) := by decide +kernel
def sx_38 : List Sh := sx_37.set 15 (0, 3, [26, 27, 28, 29, 2, 2, 2, 2, 2, 2, 0, 2, 2, 2, 2, 0])
theorem gx_38 : Sg 20 1007 sx_38 := Sg.set (k := 15) (s := (0, 3, [26, 27, 28, 2, 2, 2, 2, 2, 2, 2, 0, 2, 2, 2, 2, 0])) (s' := (0, 3, [26, 27, 28, 29, 2, 2, 2, 2, 2, 2, 0, 2, 2, 2, 2, 0])) gx_37 ox_37_15 rfl (by decide +kernel) (by decide)
def sx_39 : List Sh := sx_38 ++ [(3, 16, [])]
theorem gx_39 : Sg 21 1023 sx_39 := Sg.push (s := (3, 16, [])) gx_38 (by decide +kernel) (by decide)
theorem ox_39_15 : sx_39[15]? = some (0, 3, [26, 27, 28, 29, 2, 2, 2, 2, 2, 2, 0, 2, 2, 2, 2, 0]) := by decide +kernel
def sx_40 : List Sh := sx_39.set 15 (0, 3, [26, 27, 28, 29, 30, 2, 2, 2, 2, 2, 0, 2, 2, 2, 2, 0])
theorem gx_40 : Sg 21 1023 sx_40 := Sg.set (k := 15) (s := (0, 3, [26, 27, 28, 29, 2, 2, 2, 2, 2, 2, 0, 2, 2, 2, 2, 0])) (s' := (0, 3, [26, 27, 28, 29, 30, 2, 2, 2, 2, 2, 0, 2, 2, 2, 2, 0])) gx_39 ox_39_15 rfl (by decide +kernel) (by decide)
def sx_41 : List Sh := sx_40 ++ [(1, 16, [])]
theorem gx_41 : Sg 22 1039 sx_41 := Sg.push (s := (1, 16, [])) gx_40 (by decide +kernel) (by decide)
theorem ox_41_15 : sx_41[15]? = some (0, 3, [26, 27, 28, 29, 30, 2, 2, 2, 2, 2, 0, 2, 2, 2, 2, 0]) := by decide +kernel
def sx_42 : List Sh := sx_41.set 15 (0, 3, [26, 27, 28, 29, 30, 31, 2, 2, 2, 2, 0, 2, 2, 2, 2, 0])
theorem gx_42 : Sg 22 1039 sx_42 := Sg.set (k := 15) (s := (0, 3, [26, 27, 28, 29, 30, 2, 2, 2, 2, 2, 0, 2, 2, 2, 2, 0])) (s' := (0, 3, [26, 27, 28, 29, 30, 31, 2, 2, 2, 2, 0, 2, 2, 2, 2, 0])) gx_41 ox_41_15 rfl (by decide +kernel) (by decide)
def sx_43 : List Sh := sx_42 ++ [(1, 16, [])]
theorem gx_43 : Sg 23 1055 sx_43 := Sg.push (s := (1, 16, [])) gx_42 (by decide +kernel) (by decide)
theorem ox_43_15 : sx_43[15]? = some (0, 3, [26, 27, 28, 29, 30, 31, 2, 2, 2, 2, 0, 2, 2, 2, 2, 0]) := by decide +kernel
def sx_44 : List Sh := sx_43.set 15 (0, 3, [26, 27, 28, 29, 30, 31, 32, 2, 2, 2, 0, 2, 2, 2, 2, 0])
theorem gx_44 : Sg 23 1055 sx_44 := Sg.set (k := 15) (s := (0, 3, [26, 27, 28, 29, 30, 31, 2, 2, 2, 2, 0, 2, 2, 2, 2, 0])) (s' := (0, 3, [26, 27, 28, 29, 30, 31, 32, 2, 2, 2, 0, 2, 2, 2, 2, 0])) gx_43 ox_43_15 rfl (by decide +kernel) (by decide)
def sx_45 : List Sh := sx_44 ++ [(1, 16, [])]
theorem gx_45 : Sg 24 1071 sx_45 := Sg.push (s := (1, 16, [])) gx_44 (by decide +kernel) (by decide)
theorem ox_45_15 : sx_45[15]? = some (0, 3, [26, 27, 28, 29, 30, 31, 32, 2, 2, 2, 0, 2, 2, 2, 2, 0]) := by decide +kernel
def sx_46 : List Sh := sx_45.set 15 (0, 3, [26, 27, 28, 29, 30, 31, 32, 33, 2, 2, 0, 2, 2, 2, 2, 0])
theorem gx_46 : Sg 24 1071 sx_46 := Sg.set (k := 15) (s := (0, 3, [26, 27, 28, 29, 30, 31, 32, 2, 2, 2, 0, 2, 2, 2, 2, 0])) (s' := (0, 3, [26, 27, 28, 29, 30, 31, 32, 33, 2, 2, 0, 2, 2, 2, 2, 0])) gx_45 ox_45_15 rfl (by decide +kernel) (by decide)
def sx_47 : List Sh := sx_46 ++ [(1, 16, [])]
theorem gx_47 : Sg 25 1087 sx_47 := Sg.push (s := (1, 16, [])) gx_46 (by decide +kernel) (by decide)
theorem ox_47_15 : sx_47[15]? = some (0, 3, [26, 27, 28, 29, 30, 31, 32, 33, 2, 2, 0, 2, 2, 2, 2, 0]) := by decide +kernel
def sx_48 : List Sh := sx_47.set 15 (0, 3, [26, 27, 28, 29, 30, 31, 32, 33, 34, 2, 0, 2, 2, 2, 2, 0])
theorem gx_48 : Sg 25 1087 sx_48 := Sg.set (k := 15) (s := (0, 3, [26, 27, 28, 29, 30, 31, 32, 33, 2, 2, 0, 2, 2, 2, 2, 0])) (s' := (0, 3, [26, 27, 28, 29, 30, 31, 32, 33, 34, 2, 0, 2, 2, 2, 2, 0])) gx_47 ox_47_15 rfl (by decide +kernel) (by decide)
def sx_49 : List Sh := sx_48 ++ [(1, 16, [])]
theorem gx_49 : Sg 26 1103 sx_49 := Sg.push (s := (1, 16, [])) gx_48 (by decide +kernel) (by decide)
theorem ox_49_15 : sx_49[15]? = some (0, 3, [26, 27, 28, 29, 30, 31, 32, 33, 34, 2, 0, 2, 2, 2, 2, 0]) := by decide +kernel
def sx_50 : List Sh := sx_49.set 15 (0, 3, [26, 27, 28, 29, 30, 31, 32, 33, 34, 35, 0, 2, 2, 2, 2, 0])
theorem gx_50 : Sg 26 1103 sx_50 := Sg.set (k := 15) (s := (0, 3, [26, 27, 28, 29, 30, 31, 32, 33, 34, 2, 0, 2, 2, 2, 2, 0])) (s' := (0, 3, [26, 27, 28, 29, 30, 31, 32, 33, 34, 35, 0, 2, 2, 2, 2, 0])) gx_49 ox_49_15 rfl (by decide +kernel) (by decide)
def sx_51 : List Sh := sx_50 ++ [(1, 20, [])]
theorem gx_51 : Sg 27 1123 sx_51 := Sg.push (s := (1, 20, [])) gx_50 (by decide +kernel) (by decide)
theorem ox_51_15 : sx_51[15]? = some (0, 3, [26, 27, 28, 29, 30, 31, 32, 33, 34, 35, 0, 2, 2, 2, 2, 0]) := by decide +kernel
def sx_52 : List Sh := sx_51.set 15 (0, 3, [26, 27, 28, 29, 30, 31, 32, 33, 34, 35, 0, 36, 2, 2, 2, 0])
theorem gx_52 : Sg 27 1123 sx_52 := Sg.set (k := 15) (s := (0, 3, [26, 27, 28, 29, 30, 31, 32, 33, 34, 35, 0, 2, 2, 2, 2, 0])) (s' := (0, 3, [26, 27, 28, 29, 30, 31, 32, 33, 34, 35, 0, 36, 2, 2, 2, 0])) gx_51 ox_51_15 rfl (by decide +kernel) (by decide)
def sx_53 : List Sh := sx_52 ++ [(1, 20, [])]
theorem gx_53 : Sg 28 1143 sx_53 := Sg.push (s := (1, 20, [])) gx_52 (by decide +kernel) (by decide)
theorem ox_53_15 : sx_53[15]? = some (0, 3, [26, 27, 28, 29, 30, 31, 32, 33, 34, 35, 0, 36, 2, 2, 2, 0]) := by decide +kernel
def sx_54 : List Sh := sx_53.set 15 (0, 3, [26, 27, 28, 29, 30, 31, 32, 33, 34, 35, 0, 36, 37, 2, 2, 0])
theorem gx_54 : Sg 28 1143 sx_54 := Sg.set (k := 15) (s := (0, 3, [26, 27, 28, 29, 30, 31, 32, 33, 34, 35, 0, 36, 2, 2, 2, 0])) (s' := (0, 3, [26, 27, 28, 29, 30, 31, 32, 33, 34, 35, 0, 36, 37, 2, 2, 0])) gx_53 ox_53_15 rfl (by decide +kernel) (by decide)
def sx_55 : List Sh := sx_54 ++ [(1, 20, [])]
theorem gx_55 : Sg 29 1163 sx_55 := Sg.push (s := (1, 20, [])) gx_54 (by decide +kernel) (by decide)
theorem ox_55_15 : sx_55[15]? = some (0, 3, [26, 27, 28, 29, 30, 31, 32, 33, 34, 35, 0, 36, 37, 2, 2, 0]) := by decide +kernel
def sx_56 : List Sh := sx_55.set 15 (0, 3, [26, 27, 28, 29, 30, 31, 32, 33, 34, 35, 0, 36, 37, 38, 2, 0])
theorem gx_56 : Sg 29 1163 sx_56 := Sg.set (k := 15) (s := (0, 3, [26, 27, 28, 29, 30, 31, 32, 33, 34, 35, 0, 36, 37, 2, 2, 0])) (s' := (0, 3, [26, 27, 28, 29, 30, 31, 32, 33, 34, 35, 0, 36, 37, 38, 2, 0])) gx_55 ox_55_15 rfl (by decide +kernel) (by decide)
def sx_57 : List Sh := sx_56 ++ [(1, 20, [])]
theorem gx_57 : Sg 30 1183 sx_57 := Sg.push (s := (1, 20, [])) gx_56 (by decide +kernel) (by decide)
theorem ox_57_15 : sx_57[15]? = some (0, 3, [26, 27, 28, 29, 30, 31, 32, 33, 34, 35, 0, 36, 37, 38, 2, 0]) := by decide +kernel
def sx_58 : List Sh := sx_57.set 15 (0, 3, [26, 27, 28, 29, 30, 31, 32, 33, 34, 35, 0, 36, 37, 38, 39, 0])
theorem gx_58 : Sg 30 1183 sx_58 := Sg.set (k := 15) (s := (0, 3, [26, 27, 28, 29, 30, 31, 32, 33, 34, 35, 0, 36, 37, 38, 2, 0])) (s' := (0, 3, [26, 27, 28, 29, 30, 31, 32, 33, 34, 35, 0, 36, 37, 38, 39, 0])) gx_57 ox_57_15 rfl (by decide +kernel) (by decide)
set_option maxHeartbeats 4000000 in
set_option maxRecDepth 100000 in
theorem cX3_init_15 : Call 1 14 240 mX3_init [(2, 15)] sx_30 V0 (PC sx_58 V0) := by
  refine Call.introG gx_30 (by decide +kernel) (Nat.le_of_ble_eq_true rfl) (fun ρ hR => ?_)
  refine s_aload_n dX3_init_0 0 rfl rfl (z_obj 15 dX3_init_1 oi_X3 rfl (by decide) rfl (s_aload_n dX3_init_4 0 rfl rfl (s_bipush dX3_init_5 (by decide) (z_newI (q := 16) 16 dX3_init_7 gx_30 rfl rfl rfl (Nat.le_of_ble_eq_true rfl) (V0_nz (by decide)) V0_h ⟨Nat.le_of_ble_eq_true rfl, Nat.le_of_ble_eq_true rfl⟩ (sh' := sx_31) rfl (s_putRF 15 0 16 26 dX3_init_9 cf_X3 ff_X3_9 rfl rfl (by decide) (by decide) ox_31_15 (by decide) rfl rfl rfl (fun _ => ⟨rfl, rfl⟩) (sh' := sx_32) rfl (s_aload_n dX3_init_12 0 rfl rfl (s_bipush dX3_init_13 (by decide) ?_)))))))
  refine z_newI (q := 17) 16 dX3_init_15 gx_32 rfl rfl rfl (Nat.le_of_ble_eq_true rfl) (V0_nz (by decide)) V0_h ⟨Nat.le_of_ble_eq_true rfl, Nat.le_of_ble_eq_true rfl⟩ (sh' := sx_33) rfl (s_putRF 15 1 17 27 dX3_init_17 cf_X3 ff_X3_15 rfl rfl (by decide) (by decide) ox_33_15 (by decide) rfl rfl rfl (fun _ => ⟨rfl, rfl⟩) (sh' := sx_34) rfl (s_aload_n dX3_init_20 0 rfl rfl (s_bipush dX3_init_21 (by decide) (z_newI (q := 18) 16 dX3_init_23 gx_34 rfl rfl rfl (Nat.le_of_ble_eq_true rfl) (V0_nz (by decide)) V0_h ⟨Nat.le_of_ble_eq_true rfl, Nat.le_of_ble_eq_true rfl⟩ (sh' := sx_35) rfl (s_putRF 15 2 18 28 dX3_init_25 cf_X3 ff_X3_18 rfl rfl (by decide) (by decide) ox_35_15 (by decide) rfl rfl rfl (fun _ => ⟨rfl, rfl⟩) (sh' := sx_36) rfl (s_aload_n dX3_init_28 0 rfl rfl (s_bipush dX3_init_29 (by decide) ?_)))))))
  refine z_newI (q := 19) 16 dX3_init_31 gx_36 rfl rfl rfl (Nat.le_of_ble_eq_true rfl) (V0_nz (by decide)) V0_h ⟨Nat.le_of_ble_eq_true rfl, Nat.le_of_ble_eq_true rfl⟩ (sh' := sx_37) rfl (s_putRF 15 3 19 29 dX3_init_33 cf_X3 ff_X3_21 rfl rfl (by decide) (by decide) ox_37_15 (by decide) rfl rfl rfl (fun _ => ⟨rfl, rfl⟩) (sh' := sx_38) rfl (s_aload_n dX3_init_36 0 rfl rfl (s_bipush dX3_init_37 (by decide) (z_newJ (q := 20) 16 dX3_init_39 gx_38 rfl rfl rfl (Nat.le_of_ble_eq_true rfl) (V0_nz (by decide)) V0_h ⟨Nat.le_of_ble_eq_true rfl, Nat.le_of_ble_eq_true rfl⟩ (sh' := sx_39) rfl (s_putRF 15 4 20 30 dX3_init_41 cf_X3 ff_X3_24 rfl rfl (by decide) (by decide) ox_39_15 (by decide) rfl rfl rfl (fun _ => ⟨rfl, rfl⟩) (sh' := sx_40) rfl (s_aload_n dX3_init_44 0 rfl rfl (s_bipush dX3_init_45 (by decide) ?_)))))))
  refine z_newI (q := 21) 16 dX3_init_47 gx_40 rfl rfl rfl (Nat.le_of_ble_eq_true rfl) (V0_nz (by decide)) V0_h ⟨Nat.le_of_ble_eq_true rfl, Nat.le_of_ble_eq_true rfl⟩ (sh' := sx_41) rfl (s_putRF 15 5 21 31 dX3_init_49 cf_X3 ff_X3_28 rfl rfl (by decide) (by decide) ox_41_15 (by decide) rfl rfl rfl (fun _ => ⟨rfl, rfl⟩) (sh' := sx_42) rfl (s_aload_n dX3_init_52 0 rfl rfl (s_bipush dX3_init_53 (by decide) (z_newI (q := 22) 16 dX3_init_55 gx_42 rfl rfl rfl (Nat.le_of_ble_eq_true rfl) (V0_nz (by decide)) V0_h ⟨Nat.le_of_ble_eq_true rfl, Nat.le_of_ble_eq_true rfl⟩ (sh' := sx_43) rfl (s_putRF 15 6 22 32 dX3_init_57 cf_X3 ff_X3_31 rfl rfl (by decide) (by decide) ox_43_15 (by decide) rfl rfl rfl (fun _ => ⟨rfl, rfl⟩) (sh' := sx_44) rfl (s_aload_n dX3_init_60 0 rfl rfl (s_bipush dX3_init_61 (by decide) ?_)))))))
  refine z_newI (q := 23) 16 dX3_init_63 gx_44 rfl rfl rfl (Nat.le_of_ble_eq_true rfl) (V0_nz (by decide)) V0_h ⟨Nat.le_of_ble_eq_true rfl, Nat.le_of_ble_eq_true rfl⟩ (sh' := sx_45) rfl (s_putRF 15 7 23 33 dX3_init_65 cf_X3 ff_X3_34 rfl rfl (by decide) (by decide) ox_45_15 (by decide) rfl rfl rfl (fun _ => ⟨rfl, rfl⟩) (sh' := sx_46) rfl (s_aload_n dX3_init_68 0 rfl rfl (s_bipush dX3_init_69 (by decide) (z_newI (q := 24) 16 dX3_init_71 gx_46 rfl rfl rfl (Nat.le_of_ble_eq_true rfl) (V0_nz (by decide)) V0_h ⟨Nat.le_of_ble_eq_true rfl, Nat.le_of_ble_eq_true rfl⟩ (sh' := sx_47) rfl (s_putRF 15 8 24 34 dX3_init_73 cf_X3 ff_X3_37 rfl rfl (by decide) (by decide) ox_47_15 (by decide) rfl rfl rfl (fun _ => ⟨rfl, rfl⟩) (sh' := sx_48) rfl (s_aload_n dX3_init_76 0 rfl rfl (s_bipush dX3_init_77 (by decide) ?_)))))))
  refine z_newI (q := 25) 16 dX3_init_79 gx_48 rfl rfl rfl (Nat.le_of_ble_eq_true rfl) (V0_nz (by decide)) V0_h ⟨Nat.le_of_ble_eq_true rfl, Nat.le_of_ble_eq_true rfl⟩ (sh' := sx_49) rfl (s_putRF 15 9 25 35 dX3_init_81 cf_X3 ff_X3_40 rfl rfl (by decide) (by decide) ox_49_15 (by decide) rfl rfl rfl (fun _ => ⟨rfl, rfl⟩) (sh' := sx_50) rfl (s_aload_n dX3_init_84 0 rfl rfl (s_bipush dX3_init_85 (by decide) (z_newI (q := 26) 20 dX3_init_87 gx_50 rfl rfl rfl (Nat.le_of_ble_eq_true rfl) (V0_nz (by decide)) V0_h ⟨Nat.le_of_ble_eq_true rfl, Nat.le_of_ble_eq_true rfl⟩ (sh' := sx_51) rfl (s_putRF 15 11 26 36 dX3_init_89 cf_X3 ff_X3_43 rfl rfl (by decide) (by decide) ox_51_15 (by decide) rfl rfl rfl (fun _ => ⟨rfl, rfl⟩) (sh' := sx_52) rfl (s_aload_n dX3_init_92 0 rfl rfl (s_bipush dX3_init_93 (by decide) ?_)))))))
  refine z_newI (q := 27) 20 dX3_init_95 gx_52 rfl rfl rfl (Nat.le_of_ble_eq_true rfl) (V0_nz (by decide)) V0_h ⟨Nat.le_of_ble_eq_true rfl, Nat.le_of_ble_eq_true rfl⟩ (sh' := sx_53) rfl (s_putRF 15 12 27 37 dX3_init_97 cf_X3 ff_X3_46 rfl rfl (by decide) (by decide) ox_53_15 (by decide) rfl rfl rfl (fun _ => ⟨rfl, rfl⟩) (sh' := sx_54) rfl (s_aload_n dX3_init_100 0 rfl rfl (s_bipush dX3_init_101 (by decide) (z_newI (q := 28) 20 dX3_init_103 gx_54 rfl rfl rfl (Nat.le_of_ble_eq_true rfl) (V0_nz (by decide)) V0_h ⟨Nat.le_of_ble_eq_true rfl, Nat.le_of_ble_eq_true rfl⟩ (sh' := sx_55) rfl (s_putRF 15 13 28 38 dX3_init_105 cf_X3 ff_X3_49 rfl rfl (by decide) (by decide) ox_55_15 (by decide) rfl rfl rfl (fun _ => ⟨rfl, rfl⟩) (sh' := sx_56) rfl (s_aload_n dX3_init_108 0 rfl rfl (s_bipush dX3_init_109 (by decide) ?_)))))))
  refine z_newI (q := 29) 20 dX3_init_111 gx_56 rfl rfl rfl (Nat.le_of_ble_eq_true rfl) (V0_nz (by decide)) V0_h ⟨Nat.le_of_ble_eq_true rfl, Nat.le_of_ble_eq_true rfl⟩ (sh' := sx_57) rfl (s_putRF 15 14 29 39 dX3_init_113 cf_X3 ff_X3_52 rfl rfl (by decide) (by decide) ox_57_15 (by decide) rfl rfl rfl (fun _ => ⟨rfl, rfl⟩) (sh' := sx_58) rfl (z_ret dX3_init_116 hR rfl gx_30 gx_58 rfl rfl))
theorem ox_58_0 : sx_58[0]? = some (0, 11, [11, 2, 2, 2, 2, 2, 2, 2, 2, 2, 0]) := by decide +kernel
def sx_59 : List Sh := sx_58.set 0 (0, 11, [11, 25, 2, 2, 2, 2, 2, 2, 2, 2, 0])
theorem gx_59 : Sg 30 1183 sx_59 := Sg.set (k := 0) (s := (0, 11, [11, 2, 2, 2, 2, 2, 2, 2, 2, 2, 0])) (s' := (0, 11, [11, 25, 2, 2, 2, 2, 2, 2, 2, 2, 0])) gx_58 ox_58_0 rfl (by decide +kernel) (by decide)
def sx_60 : List Sh := sx_59 ++ [(0, 8, [2, 0, 2, 2, 2, 0])]
theorem gx_60 : Sg 31 1189 sx_60 := Sg.push (s := (0, 8, [2, 0, 2, 2, 2, 0])) gx_59 (by decide +kernel) (by decide)
def sx_61 : List Sh := sx_60 ++ [(1, 600, [])]
theorem gx_61 : Sg 32 1789 sx_61 := Sg.push (s := (1, 600, [])) gx_60 (by decide +kernel) (by decide)
theorem ox_61_30 : sx_61[30]? = some (0, 8, [2, 0, 2, 2, 2, 0]) := by decide +kernel
def sx_62 : List Sh := sx_61.set 30 (0, 8, [41, 0, 2, 2, 2, 0])
theorem gx_62 : Sg 32 1789 sx_62 := Sg.set (k := 30) (s := (0, 8, [2, 0, 2, 2, 2, 0])) (s' := (0, 8, [41, 0, 2, 2, 2, 0])) gx_61 ox_61_30 rfl (by decide +kernel) (by decide)
def sx_63 : List Sh := sx_62 ++ [(1, 600, [])]
theorem gx_63 : Sg 33 2389 sx_63 := Sg.push (s := (1, 600, [])) gx_62 (by decide +kernel) (by decide)
theorem ox_63_30 : sx_63[30]? = some (0, 8, [41, 0, 2, 2, 2, 0]) := by decide +kernel
def sx_64 : List Sh := sx_63.set 30 (0, 8, [41, 0, 42, 2, 2, 0])
theorem gx_64 : Sg 33 2389 sx_64 := Sg.set (k := 30) (s := (0, 8, [41, 0, 2, 2, 2, 0])) (s' := (0, 8, [41, 0, 42, 2, 2, 0])) gx_63 ox_63_30 rfl (by decide +kernel) (by decide)
def sx_65 : List Sh := sx_64 ++ [(1, 600, [])]
theorem gx_65 : Sg 34 2989 sx_65 := Sg.push (s := (1, 600, [])) gx_64 (by decide +kernel) (by decide)
theorem ox_65_30 : sx_65[30]? = some (0, 8, [41, 0, 42, 2, 2, 0]) := by decide +kernel
def sx_66 : List Sh := sx_65.set 30 (0, 8, [41, 0, 42, 43, 2, 0])
theorem gx_66 : Sg 34 2989 sx_66 := Sg.set (k := 30) (s := (0, 8, [41, 0, 42, 2, 2, 0])) (s' := (0, 8, [41, 0, 42, 43, 2, 0])) gx_65 ox_65_30 rfl (by decide +kernel) (by decide)
def sx_67 : List Sh := sx_66 ++ [(1, 600, [])]
theorem gx_67 : Sg 35 3589 sx_67 := Sg.push (s := (1, 600, [])) gx_66 (by decide +kernel) (by decide)
theorem ox_67_30 : sx_67[30]? = some (0, 8, [41, 0, 42, 43, 2, 0]) := by decide +kernel
def sx_68 : List Sh := sx_67.set 30 (0, 8, [41, 0, 42, 43, 44, 0])
theorem gx_68 : Sg 35 3589 sx_68 := Sg.set (k := 30) (s := (0, 8, [41, 0, 42, 43, 2, 0])) (s' := (0, 8, [41, 0, 42, 43, 44, 0])) gx_67 ox_67_30 rfl (by decide +kernel) (by decide)
set_option maxHeartbeats 4000000 in
set_option maxRecDepth 100000 in
theorem cX8_init_30 : Call 1 4 2400 mX8_init [(2, 30)] sx_60 V0 (PC sx_68 V0) := by
  refine Call.introG gx_60 (by decide +kernel) (Nat.le_of_ble_eq_true rfl) (fun ρ hR => ?_)
  refine s_aload_n dX8_init_0 0 rfl rfl (z_obj 30 dX8_init_1 oi_X8 rfl (by decide) rfl (s_aload_n dX8_init_4 0 rfl rfl (s_sipush dX8_init_5 (by decide) (z_newI (q := 31) 600 dX8_init_8 gx_60 rfl rfl rfl (Nat.le_of_ble_eq_true rfl) (V0_nz (by decide)) V0_h ⟨Nat.le_of_ble_eq_true rfl, Nat.le_of_ble_eq_true rfl⟩ (sh' := sx_61) rfl (s_putRF 30 0 31 41 dX8_init_10 cf_X8 ff_X8_11 rfl rfl (by decide) (by decide) ox_61_30 (by decide) rfl rfl rfl (fun _ => ⟨rfl, rfl⟩) (sh' := sx_62) rfl (s_aload_n dX8_init_13 0 rfl rfl (s_sipush dX8_init_14 (by decide) ?_)))))))
  refine z_newI (q := 32) 600 dX8_init_17 gx_62 rfl rfl rfl (Nat.le_of_ble_eq_true rfl) (V0_nz (by decide)) V0_h ⟨Nat.le_of_ble_eq_true rfl, Nat.le_of_ble_eq_true rfl⟩ (sh' := sx_63) rfl (s_putRF 30 2 32 42 dX8_init_19 cf_X8 ff_X8_15 rfl rfl (by decide) (by decide) ox_63_30 (by decide) rfl rfl rfl (fun _ => ⟨rfl, rfl⟩) (sh' := sx_64) rfl (s_aload_n dX8_init_22 0 rfl rfl (s_sipush dX8_init_23 (by decide) (z_newI (q := 33) 600 dX8_init_26 gx_64 rfl rfl rfl (Nat.le_of_ble_eq_true rfl) (V0_nz (by decide)) V0_h ⟨Nat.le_of_ble_eq_true rfl, Nat.le_of_ble_eq_true rfl⟩ (sh' := sx_65) rfl (s_putRF 30 3 33 43 dX8_init_28 cf_X8 ff_X8_18 rfl rfl (by decide) (by decide) ox_65_30 (by decide) rfl rfl rfl (fun _ => ⟨rfl, rfl⟩) (sh' := sx_66) rfl (s_aload_n dX8_init_31 0 rfl rfl (s_sipush dX8_init_32 (by decide) ?_)))))))
  refine z_newI (q := 34) 600 dX8_init_35 gx_66 rfl rfl rfl (Nat.le_of_ble_eq_true rfl) (V0_nz (by decide)) V0_h ⟨Nat.le_of_ble_eq_true rfl, Nat.le_of_ble_eq_true rfl⟩ (sh' := sx_67) rfl (s_putRF 30 4 34 44 dX8_init_37 cf_X8 ff_X8_21 rfl rfl (by decide) (by decide) ox_67_30 (by decide) rfl rfl rfl (fun _ => ⟨rfl, rfl⟩) (sh' := sx_68) rfl (z_ret dX8_init_40 hR rfl gx_60 gx_68 rfl rfl))
theorem ox_68_0 : sx_68[0]? = some (0, 11, [11, 25, 2, 2, 2, 2, 2, 2, 2, 2, 0]) := by decide +kernel
def sx_69 : List Sh := sx_68.set 0 (0, 11, [11, 25, 40, 2, 2, 2, 2, 2, 2, 2, 0])
theorem gx_69 : Sg 35 3589 sx_69 := Sg.set (k := 0) (s := (0, 11, [11, 25, 2, 2, 2, 2, 2, 2, 2, 2, 0])) (s' := (0, 11, [11, 25, 40, 2, 2, 2, 2, 2, 2, 2, 0])) gx_68 ox_68_0 rfl (by decide +kernel) (by decide)
def sx_70 : List Sh := sx_69 ++ [(0, 4, [2, 0, 2, 0, 0])]
theorem gx_70 : Sg 36 3594 sx_70 := Sg.push (s := (0, 4, [2, 0, 2, 0, 0])) gx_69 (by decide +kernel) (by decide)
theorem ox_70_0 : sx_70[0]? = some (0, 11, [11, 25, 40, 2, 2, 2, 2, 2, 2, 2, 0]) := by decide +kernel
theorem ox_70_35 : sx_70[35]? = some (0, 4, [2, 0, 2, 0, 0]) := by decide +kernel
def sx_71 : List Sh := sx_70.set 35 (0, 4, [40, 0, 2, 0, 0])
theorem gx_71 : Sg 36 3594 sx_71 := Sg.set (k := 35) (s := (0, 4, [2, 0, 2, 0, 0])) (s' := (0, 4, [40, 0, 2, 0, 0])) gx_70 ox_70_35 rfl (by decide +kernel) (by decide)
def sx_72 : List Sh := sx_71 ++ [(0, 6, [2, 0, 2, 2, 0, 2])]
theorem gx_72 : Sg 37 3600 sx_72 := Sg.push (s := (0, 6, [2, 0, 2, 2, 0, 2])) gx_71 (by decide +kernel) (by decide)
def sx_73 : List Sh := sx_72 ++ [(1, 640, [])]
theorem gx_73 : Sg 38 4240 sx_73 := Sg.push (s := (1, 640, [])) gx_72 (by decide +kernel) (by decide)
theorem ox_73_36 : sx_73[36]? = some (0, 6, [2, 0, 2, 2, 0, 2]) := by decide +kernel
def sx_74 : List Sh := sx_73.set 36 (0, 6, [1001, 0, 2, 2, 0, 2])
theorem gx_74 : Sg 38 4240 sx_74 := Sg.set (k := 36) (s := (0, 6, [2, 0, 2, 2, 0, 2])) (s' := (0, 6, [1001, 0, 2, 2, 0, 2])) gx_73 ox_73_36 rfl (by decide +kernel) (by decide)
def sx_75 : List Sh := sx_74 ++ [(1, 20, [])]
theorem gx_75 : Sg 39 4260 sx_75 := Sg.push (s := (1, 20, [])) gx_74 (by decide +kernel) (by decide)
theorem ox_75_36 : sx_75[36]? = some (0, 6, [1001, 0, 2, 2, 0, 2]) := by decide +kernel
def sx_76 : List Sh := sx_75.set 36 (0, 6, [1001, 0, 1002, 2, 0, 2])
theorem gx_76 : Sg 39 4260 sx_76 := Sg.set (k := 36) (s := (0, 6, [1001, 0, 2, 2, 0, 2])) (s' := (0, 6, [1001, 0, 1002, 2, 0, 2])) gx_75 ox_75_36 rfl (by decide +kernel) (by decide)
def sx_77 : List Sh := sx_76 ++ [(1, 20, [])]
theorem gx_77 : Sg 40 4280 sx_77 := Sg.push (s := (1, 20, [])) gx_76 (by decide +kernel) (by decide)
theorem ox_77_36 : sx_77[36]? = some (0, 6, [1001, 0, 1002, 2, 0, 2]) := by decide +kernel
def sx_78 : List Sh := sx_77.set 36 (0, 6, [1001, 0, 1002, 1003, 0, 2])
theorem gx_78 : Sg 40 4280 sx_78 := Sg.set (k := 36) (s := (0, 6, [1001, 0, 1002, 2, 0, 2])) (s' := (0, 6, [1001, 0, 1002, 1003, 0, 2])) gx_77 ox_77_36 rfl (by decide +kernel) (by decide)
def sx_79 : List Sh := sx_78 ++ [(1, 64, [])]
theorem gx_79 : Sg 41 4344 sx_79 := Sg.push (s := (1, 64, [])) gx_78 (by decide +kernel) (by decide)
theorem ox_79_36 : sx_79[36]? = some (0, 6, [1001, 0, 1002, 1003, 0, 2]) := by decide +kernel
def sx_80 : List Sh := sx_79.set 36 (0, 6, [1001, 0, 1002, 1003, 0, 1004])
theorem gx_80 : Sg 41 4344 sx_80 := Sg.set (k := 36) (s := (0, 6, [1001, 0, 1002, 1003, 0, 2])) (s' := (0, 6, [1001, 0, 1002, 1003, 0, 1004])) gx_79 ox_79_36 rfl (by decide +kernel) (by decide)
set_option maxHeartbeats 4000000 in
set_option maxRecDepth 100000 in
theorem cX6_init_36 : Call 1 4 744 mX6_init [(2, 36)] sx_72 V0 (PC sx_80 V0) := by
  refine Call.introG gx_72 (by decide +kernel) (Nat.le_of_ble_eq_true rfl) (fun ρ hR => ?_)
  refine s_aload_n dX6_init_0 0 rfl rfl (z_obj 36 dX6_init_1 oi_X6 rfl (by decide) rfl (s_aload_n dX6_init_4 0 rfl rfl (s_sipush dX6_init_5 (by decide) (z_newI (q := 37) 640 dX6_init_8 gx_72 rfl rfl rfl (Nat.le_of_ble_eq_true rfl) (V0_nz (by decide)) V0_h ⟨Nat.le_of_ble_eq_true rfl, Nat.le_of_ble_eq_true rfl⟩ (sh' := sx_73) rfl (s_putRF 36 0 37 1001 dX6_init_10 cf_X6 ff_X6_11 rfl rfl (by decide) (by decide) ox_73_36 (by decide) rfl rfl rfl (fun _ => ⟨rfl, rfl⟩) (sh' := sx_74) rfl (s_aload_n dX6_init_13 0 rfl rfl (s_bipush dX6_init_14 (by decide) ?_)))))))
  refine z_newI (q := 38) 20 dX6_init_16 gx_74 rfl rfl rfl (Nat.le_of_ble_eq_true rfl) (V0_nz (by decide)) V0_h ⟨Nat.le_of_ble_eq_true rfl, Nat.le_of_ble_eq_true rfl⟩ (sh' := sx_75) rfl (s_putRF 36 2 38 1002 dX6_init_18 cf_X6 ff_X6_15 rfl rfl (by decide) (by decide) ox_75_36 (by decide) rfl rfl rfl (fun _ => ⟨rfl, rfl⟩) (sh' := sx_76) rfl (s_aload_n dX6_init_21 0 rfl rfl (s_bipush dX6_init_22 (by decide) (z_newI (q := 39) 20 dX6_init_24 gx_76 rfl rfl rfl (Nat.le_of_ble_eq_true rfl) (V0_nz (by decide)) V0_h ⟨Nat.le_of_ble_eq_true rfl, Nat.le_of_ble_eq_true rfl⟩ (sh' := sx_77) rfl (s_putRF 36 3 39 1003 dX6_init_26 cf_X6 ff_X6_18 rfl rfl (by decide) (by decide) ox_77_36 (by decide) rfl rfl rfl (fun _ => ⟨rfl, rfl⟩) (sh' := sx_78) rfl (s_aload_n dX6_init_29 0 rfl rfl (s_bipush dX6_init_30 (by decide) ?_)))))))
  refine z_newI (q := 40) 64 dX6_init_32 gx_78 rfl rfl rfl (Nat.le_of_ble_eq_true rfl) (V0_nz (by decide)) V0_h ⟨Nat.le_of_ble_eq_true rfl, Nat.le_of_ble_eq_true rfl⟩ (sh' := sx_79) rfl (s_putRF 36 5 40 1004 dX6_init_34 cf_X6 ff_X6_21 rfl rfl (by decide) (by decide) ox_79_36 (by decide) rfl rfl rfl (fun _ => ⟨rfl, rfl⟩) (sh' := sx_80) rfl (z_ret dX6_init_37 hR rfl gx_72 gx_80 rfl rfl))
theorem ox_80_35 : sx_80[35]? = some (0, 4, [40, 0, 2, 0, 0]) := by decide +kernel
set_option maxHeartbeats 4000000 in
set_option maxRecDepth 100000 in
theorem cX4_init_35 : Call 2 5 750 mX4_init [(2, 35), (2, 30)] sx_70 V0 (PC sx_80 V1) := by
  refine Call.introG gx_70 (by decide +kernel) (Nat.le_of_ble_eq_true rfl) (fun ρ hR => ?_)
  refine s_aload_n dX4_init_0 0 rfl rfl (z_obj 35 dX4_init_1 oi_X4 rfl (by decide) rfl (s_aload_n dX4_init_4 0 rfl rfl (s_aload_n dX4_init_5 1 rfl rfl (s_putRF 35 0 30 40 dX4_init_6 cf_X4 ff_X4_9 rfl rfl (by decide) (by decide) ox_70_35 (by decide) rfl rfl rfl (fun _ => ⟨rfl, rfl⟩) (sh' := sx_71) rfl (s_aload_n dX4_init_9 0 rfl rfl (z_newO (q := 36) [2, 0, 2, 2, 0, 2] dX4_init_10 gx_71 cf_X6 ck_X4_15 ib_X6 in_X6 rfl rfl bo_X6 V0_36 V0_h ⟨Nat.le_of_ble_eq_true rfl, Nat.le_of_ble_eq_true rfl⟩ (sh' := sx_72) rfl (s_dup dX4_init_13 (show (2 : Nat) ≠ 1 by decide) ?_)))))))
  refine z_invIN (as := []) gx_72 dX4_init_14 kv_X6_init ml_X4_17 cX6_init_36 (by decide) 36 rfl (by decide) rfl rfl (by decide) ⟨Nat.le_of_ble_eq_true rfl, Nat.le_of_ble_eq_true rfl⟩ (s_putR (tn := "TalkingReels$Script") (v := 36) 35 2 dX4_init_17 cf_X4 ff_X4_18 rfl ox_80_35 rfl rfl rfl (s_aload_n dX4_init_20 0 rfl rfl (s_iconst dX4_init_21 (by decide) (s_putfield 35 3 dX4_init_22 cf_X4 ff_X4_22 rfl ox_80_35 rfl rfl rfl (s_aload_n dX4_init_25 0 rfl rfl (s_iconst dX4_init_26 (by decide) (s_putfield 35 4 dX4_init_27 cf_X4 ff_X4_26 rfl ox_80_35 rfl rfl rfl ?_)))))))
  refine z_ret dX4_init_30 hR rfl gx_70 gx_80 rfl rfl
theorem ox_80_0 : sx_80[0]? = some (0, 11, [11, 25, 40, 2, 2, 2, 2, 2, 2, 2, 0]) := by decide +kernel
def sx_81 : List Sh := sx_80.set 0 (0, 11, [11, 25, 40, 45, 2, 2, 2, 2, 2, 2, 0])
theorem gx_81 : Sg 41 4344 sx_81 := Sg.set (k := 0) (s := (0, 11, [11, 25, 40, 2, 2, 2, 2, 2, 2, 2, 0])) (s' := (0, 11, [11, 25, 40, 45, 2, 2, 2, 2, 2, 2, 0])) gx_80 ox_80_0 rfl (by decide +kernel) (by decide)
def sx_82 : List Sh := sx_81 ++ [(0, 2, [2, 2, 2, 2, 0, 0, 0, 0])]
theorem gx_82 : Sg 42 4352 sx_82 := Sg.push (s := (0, 2, [2, 2, 2, 2, 0, 0, 0, 0])) gx_81 (by decide +kernel) (by decide)
theorem ox_82_0 : sx_82[0]? = some (0, 11, [11, 25, 40, 45, 2, 2, 2, 2, 2, 2, 0]) := by decide +kernel
def sx_83 : List Sh := sx_82 ++ [(5, 3, [])]
theorem gx_83 : Sg 43 4355 sx_83 := Sg.push (s := (5, 3, [])) gx_82 (by decide +kernel) (by decide)
theorem ox_83_41 : sx_83[41]? = some (0, 2, [2, 2, 2, 2, 0, 0, 0, 0]) := by decide +kernel
def sx_84 : List Sh := sx_83.set 41 (0, 2, [2, 2, 52, 2, 0, 0, 0, 0])
theorem gx_84 : Sg 43 4355 sx_84 := Sg.set (k := 41) (s := (0, 2, [2, 2, 2, 2, 0, 0, 0, 0])) (s' := (0, 2, [2, 2, 52, 2, 0, 0, 0, 0])) gx_83 ox_83_41 rfl (by decide +kernel) (by decide)
def sx_85 : List Sh := sx_84 ++ [(1, 10, [])]
theorem gx_85 : Sg 44 4365 sx_85 := Sg.push (s := (1, 10, [])) gx_84 (by decide +kernel) (by decide)
theorem ox_85_41 : sx_85[41]? = some (0, 2, [2, 2, 52, 2, 0, 0, 0, 0]) := by decide +kernel
def sx_86 : List Sh := sx_85.set 41 (0, 2, [2, 2, 52, 53, 0, 0, 0, 0])
theorem gx_86 : Sg 44 4365 sx_86 := Sg.set (k := 41) (s := (0, 2, [2, 2, 52, 2, 0, 0, 0, 0])) (s' := (0, 2, [2, 2, 52, 53, 0, 0, 0, 0])) gx_85 ox_85_41 rfl (by decide +kernel) (by decide)
theorem ox_86_41 : sx_86[41]? = some (0, 2, [2, 2, 52, 53, 0, 0, 0, 0]) := by decide +kernel
def sx_87 : List Sh := sx_86.set 41 (0, 2, [11, 2, 52, 53, 0, 0, 0, 0])
theorem gx_87 : Sg 44 4365 sx_87 := Sg.set (k := 41) (s := (0, 2, [2, 2, 52, 53, 0, 0, 0, 0])) (s' := (0, 2, [11, 2, 52, 53, 0, 0, 0, 0])) gx_86 ox_86_41 rfl (by decide +kernel) (by decide)
theorem ox_87_41 : sx_87[41]? = some (0, 2, [11, 2, 52, 53, 0, 0, 0, 0]) := by decide +kernel
def sx_88 : List Sh := sx_87.set 41 (0, 2, [11, 25, 52, 53, 0, 0, 0, 0])
theorem gx_88 : Sg 44 4365 sx_88 := Sg.set (k := 41) (s := (0, 2, [11, 2, 52, 53, 0, 0, 0, 0])) (s' := (0, 2, [11, 25, 52, 53, 0, 0, 0, 0])) gx_87 ox_87_41 rfl (by decide +kernel) (by decide)
theorem ox_88_41 : sx_88[41]? = some (0, 2, [11, 25, 52, 53, 0, 0, 0, 0]) := by decide +kernel
def sx_89 : List Sh := sx_88 ++ [(0, 6, [2, 0, 2, 2, 0, 2])]
theorem gx_89 : Sg 45 4371 sx_89 := Sg.push (s := (0, 6, [2, 0, 2, 2, 0, 2])) gx_88 (by decide +kernel) (by decide)
def sx_90 : List Sh := sx_89 ++ [(1, 640, [])]
theorem gx_90 : Sg 46 5011 sx_90 := Sg.push (s := (1, 640, [])) gx_89 (by decide +kernel) (by decide)
theorem ox_90_44 : sx_90[44]? = some (0, 6, [2, 0, 2, 2, 0, 2]) := by decide +kernel
def sx_91 : List Sh := sx_90.set 44 (0, 6, [1001, 0, 2, 2, 0, 2])
theorem gx_91 : Sg 46 5011 sx_91 := Sg.set (k := 44) (s := (0, 6, [2, 0, 2, 2, 0, 2])) (s' := (0, 6, [1001, 0, 2, 2, 0, 2])) gx_90 ox_90_44 rfl (by decide +kernel) (by decide)
def sx_92 : List Sh := sx_91 ++ [(1, 20, [])]
theorem gx_92 : Sg 47 5031 sx_92 := Sg.push (s := (1, 20, [])) gx_91 (by decide +kernel) (by decide)
theorem ox_92_44 : sx_92[44]? = some (0, 6, [1001, 0, 2, 2, 0, 2]) := by decide +kernel
def sx_93 : List Sh := sx_92.set 44 (0, 6, [1001, 0, 1002, 2, 0, 2])
theorem gx_93 : Sg 47 5031 sx_93 := Sg.set (k := 44) (s := (0, 6, [1001, 0, 2, 2, 0, 2])) (s' := (0, 6, [1001, 0, 1002, 2, 0, 2])) gx_92 ox_92_44 rfl (by decide +kernel) (by decide)
def sx_94 : List Sh := sx_93 ++ [(1, 20, [])]
theorem gx_94 : Sg 48 5051 sx_94 := Sg.push (s := (1, 20, [])) gx_93 (by decide +kernel) (by decide)
theorem ox_94_44 : sx_94[44]? = some (0, 6, [1001, 0, 1002, 2, 0, 2]) := by decide +kernel
def sx_95 : List Sh := sx_94.set 44 (0, 6, [1001, 0, 1002, 1003, 0, 2])
theorem gx_95 : Sg 48 5051 sx_95 := Sg.set (k := 44) (s := (0, 6, [1001, 0, 1002, 2, 0, 2])) (s' := (0, 6, [1001, 0, 1002, 1003, 0, 2])) gx_94 ox_94_44 rfl (by decide +kernel) (by decide)
def sx_96 : List Sh := sx_95 ++ [(1, 64, [])]
theorem gx_96 : Sg 49 5115 sx_96 := Sg.push (s := (1, 64, [])) gx_95 (by decide +kernel) (by decide)
theorem ox_96_44 : sx_96[44]? = some (0, 6, [1001, 0, 1002, 1003, 0, 2]) := by decide +kernel
def sx_97 : List Sh := sx_96.set 44 (0, 6, [1001, 0, 1002, 1003, 0, 1004])
theorem gx_97 : Sg 49 5115 sx_97 := Sg.set (k := 44) (s := (0, 6, [1001, 0, 1002, 1003, 0, 2])) (s' := (0, 6, [1001, 0, 1002, 1003, 0, 1004])) gx_96 ox_96_44 rfl (by decide +kernel) (by decide)
set_option maxHeartbeats 4000000 in
set_option maxRecDepth 100000 in
theorem cX6_init_44 : Call 1 4 744 mX6_init [(2, 44)] sx_89 V1 (PC sx_97 V1) := by
  refine Call.introG gx_89 (by decide +kernel) (Nat.le_of_ble_eq_true rfl) (fun ρ hR => ?_)
  refine s_aload_n dX6_init_0 0 rfl rfl (z_obj 44 dX6_init_1 oi_X6 rfl (by decide) rfl (s_aload_n dX6_init_4 0 rfl rfl (s_sipush dX6_init_5 (by decide) (z_newI (q := 45) 640 dX6_init_8 gx_89 rfl rfl rfl (Nat.le_of_ble_eq_true rfl) ((V1_hi (by decide)).trans (V0_nz (by decide))) V1_h ⟨Nat.le_of_ble_eq_true rfl, Nat.le_of_ble_eq_true rfl⟩ (sh' := sx_90) rfl (s_putRF 44 0 45 1001 dX6_init_10 cf_X6 ff_X6_11 rfl rfl (by decide) (by decide) ox_90_44 (by decide) rfl rfl rfl (fun _ => ⟨rfl, rfl⟩) (sh' := sx_91) rfl (s_aload_n dX6_init_13 0 rfl rfl (s_bipush dX6_init_14 (by decide) ?_)))))))
  refine z_newI (q := 46) 20 dX6_init_16 gx_91 rfl rfl rfl (Nat.le_of_ble_eq_true rfl) ((V1_hi (by decide)).trans (V0_nz (by decide))) V1_h ⟨Nat.le_of_ble_eq_true rfl, Nat.le_of_ble_eq_true rfl⟩ (sh' := sx_92) rfl (s_putRF 44 2 46 1002 dX6_init_18 cf_X6 ff_X6_15 rfl rfl (by decide) (by decide) ox_92_44 (by decide) rfl rfl rfl (fun _ => ⟨rfl, rfl⟩) (sh' := sx_93) rfl (s_aload_n dX6_init_21 0 rfl rfl (s_bipush dX6_init_22 (by decide) (z_newI (q := 47) 20 dX6_init_24 gx_93 rfl rfl rfl (Nat.le_of_ble_eq_true rfl) ((V1_hi (by decide)).trans (V0_nz (by decide))) V1_h ⟨Nat.le_of_ble_eq_true rfl, Nat.le_of_ble_eq_true rfl⟩ (sh' := sx_94) rfl (s_putRF 44 3 47 1003 dX6_init_26 cf_X6 ff_X6_18 rfl rfl (by decide) (by decide) ox_94_44 (by decide) rfl rfl rfl (fun _ => ⟨rfl, rfl⟩) (sh' := sx_95) rfl (s_aload_n dX6_init_29 0 rfl rfl (s_bipush dX6_init_30 (by decide) ?_)))))))
  refine z_newI (q := 48) 64 dX6_init_32 gx_95 rfl rfl rfl (Nat.le_of_ble_eq_true rfl) ((V1_hi (by decide)).trans (V0_nz (by decide))) V1_h ⟨Nat.le_of_ble_eq_true rfl, Nat.le_of_ble_eq_true rfl⟩ (sh' := sx_96) rfl (s_putRF 44 5 48 1004 dX6_init_34 cf_X6 ff_X6_21 rfl rfl (by decide) (by decide) ox_96_44 (by decide) rfl rfl rfl (fun _ => ⟨rfl, rfl⟩) (sh' := sx_97) rfl (z_ret dX6_init_37 hR rfl gx_89 gx_97 rfl rfl))
theorem ox_97_42 : sx_97[42]? = some (5, 3, []) := by decide +kernel
theorem ox_97_44 : sx_97[44]? = some (0, 6, [1001, 0, 1002, 1003, 0, 1004]) := by decide +kernel
theorem ox_97_41 : sx_97[41]? = some (0, 2, [11, 25, 52, 53, 0, 0, 0, 0]) := by decide +kernel
def sx_98 : List Sh := sx_97 ++ [(0, 6, [2, 0, 2, 2, 0, 2])]
theorem gx_98 : Sg 50 5121 sx_98 := Sg.push (s := (0, 6, [2, 0, 2, 2, 0, 2])) gx_97 (by decide +kernel) (by decide)
def sx_99 : List Sh := sx_98 ++ [(1, 640, [])]
theorem gx_99 : Sg 51 5761 sx_99 := Sg.push (s := (1, 640, [])) gx_98 (by decide +kernel) (by decide)
theorem ox_99_49 : sx_99[49]? = some (0, 6, [2, 0, 2, 2, 0, 2]) := by decide +kernel
def sx_100 : List Sh := sx_99.set 49 (0, 6, [1001, 0, 2, 2, 0, 2])
theorem gx_100 : Sg 51 5761 sx_100 := Sg.set (k := 49) (s := (0, 6, [2, 0, 2, 2, 0, 2])) (s' := (0, 6, [1001, 0, 2, 2, 0, 2])) gx_99 ox_99_49 rfl (by decide +kernel) (by decide)
def sx_101 : List Sh := sx_100 ++ [(1, 20, [])]
theorem gx_101 : Sg 52 5781 sx_101 := Sg.push (s := (1, 20, [])) gx_100 (by decide +kernel) (by decide)
theorem ox_101_49 : sx_101[49]? = some (0, 6, [1001, 0, 2, 2, 0, 2]) := by decide +kernel
def sx_102 : List Sh := sx_101.set 49 (0, 6, [1001, 0, 1002, 2, 0, 2])
theorem gx_102 : Sg 52 5781 sx_102 := Sg.set (k := 49) (s := (0, 6, [1001, 0, 2, 2, 0, 2])) (s' := (0, 6, [1001, 0, 1002, 2, 0, 2])) gx_101 ox_101_49 rfl (by decide +kernel) (by decide)
def sx_103 : List Sh := sx_102 ++ [(1, 20, [])]
theorem gx_103 : Sg 53 5801 sx_103 := Sg.push (s := (1, 20, [])) gx_102 (by decide +kernel) (by decide)
theorem ox_103_49 : sx_103[49]? = some (0, 6, [1001, 0, 1002, 2, 0, 2]) := by decide +kernel
def sx_104 : List Sh := sx_103.set 49 (0, 6, [1001, 0, 1002, 1003, 0, 2])
theorem gx_104 : Sg 53 5801 sx_104 := Sg.set (k := 49) (s := (0, 6, [1001, 0, 1002, 2, 0, 2])) (s' := (0, 6, [1001, 0, 1002, 1003, 0, 2])) gx_103 ox_103_49 rfl (by decide +kernel) (by decide)
def sx_105 : List Sh := sx_104 ++ [(1, 64, [])]
theorem gx_105 : Sg 54 5865 sx_105 := Sg.push (s := (1, 64, [])) gx_104 (by decide +kernel) (by decide)
theorem ox_105_49 : sx_105[49]? = some (0, 6, [1001, 0, 1002, 1003, 0, 2]) := by decide +kernel
def sx_106 : List Sh := sx_105.set 49 (0, 6, [1001, 0, 1002, 1003, 0, 1004])
theorem gx_106 : Sg 54 5865 sx_106 := Sg.set (k := 49) (s := (0, 6, [1001, 0, 1002, 1003, 0, 2])) (s' := (0, 6, [1001, 0, 1002, 1003, 0, 1004])) gx_105 ox_105_49 rfl (by decide +kernel) (by decide)
set_option maxHeartbeats 4000000 in
set_option maxRecDepth 100000 in
theorem cX6_init_49 : Call 1 4 744 mX6_init [(2, 49)] sx_98 (wu V1 42 0 44) (PC sx_106 (wu V1 42 0 44)) := by
  refine Call.introG gx_98 (by decide +kernel) (Nat.le_of_ble_eq_true rfl) (fun ρ hR => ?_)
  refine s_aload_n dX6_init_0 0 rfl rfl (z_obj 49 dX6_init_1 oi_X6 rfl (by decide) rfl (s_aload_n dX6_init_4 0 rfl rfl (s_sipush dX6_init_5 (by decide) (z_newI (q := 50) 640 dX6_init_8 gx_98 rfl rfl rfl (Nat.le_of_ble_eq_true rfl) (wun (by decide) ((V1_hi (by decide)).trans (V0_nz (by decide)))) (w42u V1_h (by decide)) ⟨Nat.le_of_ble_eq_true rfl, Nat.le_of_ble_eq_true rfl⟩ (sh' := sx_99) rfl (s_putRF 49 0 50 1001 dX6_init_10 cf_X6 ff_X6_11 rfl rfl (by decide) (by decide) ox_99_49 (by decide) rfl rfl rfl (fun _ => ⟨rfl, rfl⟩) (sh' := sx_100) rfl (s_aload_n dX6_init_13 0 rfl rfl (s_bipush dX6_init_14 (by decide) ?_)))))))
  refine z_newI (q := 51) 20 dX6_init_16 gx_100 rfl rfl rfl (Nat.le_of_ble_eq_true rfl) (wun (by decide) ((V1_hi (by decide)).trans (V0_nz (by decide)))) (w42u V1_h (by decide)) ⟨Nat.le_of_ble_eq_true rfl, Nat.le_of_ble_eq_true rfl⟩ (sh' := sx_101) rfl (s_putRF 49 2 51 1002 dX6_init_18 cf_X6 ff_X6_15 rfl rfl (by decide) (by decide) ox_101_49 (by decide) rfl rfl rfl (fun _ => ⟨rfl, rfl⟩) (sh' := sx_102) rfl (s_aload_n dX6_init_21 0 rfl rfl (s_bipush dX6_init_22 (by decide) (z_newI (q := 52) 20 dX6_init_24 gx_102 rfl rfl rfl (Nat.le_of_ble_eq_true rfl) (wun (by decide) ((V1_hi (by decide)).trans (V0_nz (by decide)))) (w42u V1_h (by decide)) ⟨Nat.le_of_ble_eq_true rfl, Nat.le_of_ble_eq_true rfl⟩ (sh' := sx_103) rfl (s_putRF 49 3 52 1003 dX6_init_26 cf_X6 ff_X6_18 rfl rfl (by decide) (by decide) ox_103_49 (by decide) rfl rfl rfl (fun _ => ⟨rfl, rfl⟩) (sh' := sx_104) rfl (s_aload_n dX6_init_29 0 rfl rfl (s_bipush dX6_init_30 (by decide) ?_)))))))
  refine z_newI (q := 53) 64 dX6_init_32 gx_104 rfl rfl rfl (Nat.le_of_ble_eq_true rfl) (wun (by decide) ((V1_hi (by decide)).trans (V0_nz (by decide)))) (w42u V1_h (by decide)) ⟨Nat.le_of_ble_eq_true rfl, Nat.le_of_ble_eq_true rfl⟩ (sh' := sx_105) rfl (s_putRF 49 5 53 1004 dX6_init_34 cf_X6 ff_X6_21 rfl rfl (by decide) (by decide) ox_105_49 (by decide) rfl rfl rfl (fun _ => ⟨rfl, rfl⟩) (sh' := sx_106) rfl (z_ret dX6_init_37 hR rfl gx_98 gx_106 rfl rfl))
theorem ox_106_42 : sx_106[42]? = some (5, 3, []) := by decide +kernel
theorem ox_106_49 : sx_106[49]? = some (0, 6, [1001, 0, 1002, 1003, 0, 1004]) := by decide +kernel
theorem ox_106_41 : sx_106[41]? = some (0, 2, [11, 25, 52, 53, 0, 0, 0, 0]) := by decide +kernel
def sx_107 : List Sh := sx_106 ++ [(0, 6, [2, 0, 2, 2, 0, 2])]
theorem gx_107 : Sg 55 5871 sx_107 := Sg.push (s := (0, 6, [2, 0, 2, 2, 0, 2])) gx_106 (by decide +kernel) (by decide)
def sx_108 : List Sh := sx_107 ++ [(1, 640, [])]
theorem gx_108 : Sg 56 6511 sx_108 := Sg.push (s := (1, 640, [])) gx_107 (by decide +kernel) (by decide)
theorem ox_108_54 : sx_108[54]? = some (0, 6, [2, 0, 2, 2, 0, 2]) := by decide +kernel
def sx_109 : List Sh := sx_108.set 54 (0, 6, [1001, 0, 2, 2, 0, 2])
theorem gx_109 : Sg 56 6511 sx_109 := Sg.set (k := 54) (s := (0, 6, [2, 0, 2, 2, 0, 2])) (s' := (0, 6, [1001, 0, 2, 2, 0, 2])) gx_108 ox_108_54 rfl (by decide +kernel) (by decide)
def sx_110 : List Sh := sx_109 ++ [(1, 20, [])]
theorem gx_110 : Sg 57 6531 sx_110 := Sg.push (s := (1, 20, [])) gx_109 (by decide +kernel) (by decide)
theorem ox_110_54 : sx_110[54]? = some (0, 6, [1001, 0, 2, 2, 0, 2]) := by decide +kernel
def sx_111 : List Sh := sx_110.set 54 (0, 6, [1001, 0, 1002, 2, 0, 2])
theorem gx_111 : Sg 57 6531 sx_111 := Sg.set (k := 54) (s := (0, 6, [1001, 0, 2, 2, 0, 2])) (s' := (0, 6, [1001, 0, 1002, 2, 0, 2])) gx_110 ox_110_54 rfl (by decide +kernel) (by decide)
def sx_112 : List Sh := sx_111 ++ [(1, 20, [])]
theorem gx_112 : Sg 58 6551 sx_112 := Sg.push (s := (1, 20, [])) gx_111 (by decide +kernel) (by decide)
theorem ox_112_54 : sx_112[54]? = some (0, 6, [1001, 0, 1002, 2, 0, 2]) := by decide +kernel
def sx_113 : List Sh := sx_112.set 54 (0, 6, [1001, 0, 1002, 1003, 0, 2])
theorem gx_113 : Sg 58 6551 sx_113 := Sg.set (k := 54) (s := (0, 6, [1001, 0, 1002, 2, 0, 2])) (s' := (0, 6, [1001, 0, 1002, 1003, 0, 2])) gx_112 ox_112_54 rfl (by decide +kernel) (by decide)
def sx_114 : List Sh := sx_113 ++ [(1, 64, [])]
theorem gx_114 : Sg 59 6615 sx_114 := Sg.push (s := (1, 64, [])) gx_113 (by decide +kernel) (by decide)
theorem ox_114_54 : sx_114[54]? = some (0, 6, [1001, 0, 1002, 1003, 0, 2]) := by decide +kernel
def sx_115 : List Sh := sx_114.set 54 (0, 6, [1001, 0, 1002, 1003, 0, 1004])
theorem gx_115 : Sg 59 6615 sx_115 := Sg.set (k := 54) (s := (0, 6, [1001, 0, 1002, 1003, 0, 2])) (s' := (0, 6, [1001, 0, 1002, 1003, 0, 1004])) gx_114 ox_114_54 rfl (by decide +kernel) (by decide)
set_option maxHeartbeats 4000000 in
set_option maxRecDepth 100000 in
theorem cX6_init_54 : Call 1 4 744 mX6_init [(2, 54)] sx_107 (wu (wu V1 42 0 44) 42 1 49) (PC sx_115 (wu (wu V1 42 0 44) 42 1 49)) := by
  refine Call.introG gx_107 (by decide +kernel) (Nat.le_of_ble_eq_true rfl) (fun ρ hR => ?_)
  refine s_aload_n dX6_init_0 0 rfl rfl (z_obj 54 dX6_init_1 oi_X6 rfl (by decide) rfl (s_aload_n dX6_init_4 0 rfl rfl (s_sipush dX6_init_5 (by decide) (z_newI (q := 55) 640 dX6_init_8 gx_107 rfl rfl rfl (Nat.le_of_ble_eq_true rfl) (wun (by decide) (wun (by decide) ((V1_hi (by decide)).trans (V0_nz (by decide))))) (w42u (w42u V1_h (by decide)) (by decide)) ⟨Nat.le_of_ble_eq_true rfl, Nat.le_of_ble_eq_true rfl⟩ (sh' := sx_108) rfl (s_putRF 54 0 55 1001 dX6_init_10 cf_X6 ff_X6_11 rfl rfl (by decide) (by decide) ox_108_54 (by decide) rfl rfl rfl (fun _ => ⟨rfl, rfl⟩) (sh' := sx_109) rfl (s_aload_n dX6_init_13 0 rfl rfl (s_bipush dX6_init_14 (by decide) ?_)))))))
  refine z_newI (q := 56) 20 dX6_init_16 gx_109 rfl rfl rfl (Nat.le_of_ble_eq_true rfl) (wun (by decide) (wun (by decide) ((V1_hi (by decide)).trans (V0_nz (by decide))))) (w42u (w42u V1_h (by decide)) (by decide)) ⟨Nat.le_of_ble_eq_true rfl, Nat.le_of_ble_eq_true rfl⟩ (sh' := sx_110) rfl (s_putRF 54 2 56 1002 dX6_init_18 cf_X6 ff_X6_15 rfl rfl (by decide) (by decide) ox_110_54 (by decide) rfl rfl rfl (fun _ => ⟨rfl, rfl⟩) (sh' := sx_111) rfl (s_aload_n dX6_init_21 0 rfl rfl (s_bipush dX6_init_22 (by decide) (z_newI (q := 57) 20 dX6_init_24 gx_111 rfl rfl rfl (Nat.le_of_ble_eq_true rfl) (wun (by decide) (wun (by decide) ((V1_hi (by decide)).trans (V0_nz (by decide))))) (w42u (w42u V1_h (by decide)) (by decide)) ⟨Nat.le_of_ble_eq_true rfl, Nat.le_of_ble_eq_true rfl⟩ (sh' := sx_112) rfl (s_putRF 54 3 57 1003 dX6_init_26 cf_X6 ff_X6_18 rfl rfl (by decide) (by decide) ox_112_54 (by decide) rfl rfl rfl (fun _ => ⟨rfl, rfl⟩) (sh' := sx_113) rfl (s_aload_n dX6_init_29 0 rfl rfl (s_bipush dX6_init_30 (by decide) ?_)))))))
  refine z_newI (q := 58) 64 dX6_init_32 gx_113 rfl rfl rfl (Nat.le_of_ble_eq_true rfl) (wun (by decide) (wun (by decide) ((V1_hi (by decide)).trans (V0_nz (by decide))))) (w42u (w42u V1_h (by decide)) (by decide)) ⟨Nat.le_of_ble_eq_true rfl, Nat.le_of_ble_eq_true rfl⟩ (sh' := sx_114) rfl (s_putRF 54 5 58 1004 dX6_init_34 cf_X6 ff_X6_21 rfl rfl (by decide) (by decide) ox_114_54 (by decide) rfl rfl rfl (fun _ => ⟨rfl, rfl⟩) (sh' := sx_115) rfl (z_ret dX6_init_37 hR rfl gx_107 gx_115 rfl rfl))
theorem ox_115_42 : sx_115[42]? = some (5, 3, []) := by decide +kernel
theorem ox_115_54 : sx_115[54]? = some (0, 6, [1001, 0, 1002, 1003, 0, 1004]) := by decide +kernel
set_option maxHeartbeats 4000000 in
set_option maxRecDepth 100000 in
theorem cX2_init_41 : Call 2 17 2263 mX2_init [(2, 41), (2, 1), (2, 15)] sx_82 V1 (PC sx_115 V2) := by
  refine Call.introG gx_82 (by decide +kernel) (Nat.le_of_ble_eq_true rfl) (fun ρ hR => ?_)
  refine s_aload_n dX2_init_0 0 rfl rfl (z_obj 41 dX2_init_1 oi_X2 rfl (by decide) rfl (s_aload_n dX2_init_4 0 rfl rfl (s_iconst dX2_init_5 (by decide) (z_newQ (q := 42) 3 dX2_init_6 gx_82 ck_X2_9 rfl rfl (Nat.le_of_ble_eq_true rfl) ((V1_hi (by decide)).trans V0_42) V1_h ⟨Nat.le_of_ble_eq_true rfl, Nat.le_of_ble_eq_true rfl⟩ (sh' := sx_83) rfl (s_putRF 41 2 42 52 dX2_init_9 cf_X2 ff_X2_11 rfl rfl (by decide) (by decide) ox_83_41 (by decide) rfl rfl rfl (fun _ => ⟨rfl, rfl⟩) (sh' := sx_84) rfl (s_aload_n dX2_init_12 0 rfl rfl (s_bipush dX2_init_13 (by decide) ?_)))))))
  refine z_newI (q := 43) 10 dX2_init_15 gx_84 rfl rfl rfl (Nat.le_of_ble_eq_true rfl) ((V1_hi (by decide)).trans (V0_nz (by decide))) V1_h ⟨Nat.le_of_ble_eq_true rfl, Nat.le_of_ble_eq_true rfl⟩ (sh' := sx_85) rfl (s_putRF 41 3 43 53 dX2_init_17 cf_X2 ff_X2_17 rfl rfl (by decide) (by decide) ox_85_41 (by decide) rfl rfl rfl (fun _ => ⟨rfl, rfl⟩) (sh' := sx_86) rfl (s_aload_n dX2_init_20 0 rfl rfl (s_aload_n dX2_init_21 1 rfl rfl (s_putRF 41 0 1 11 dX2_init_22 cf_X2 ff_X2_21 rfl rfl (by decide) (by decide) ox_86_41 (by decide) rfl rfl rfl (fun _ => ⟨rfl, rfl⟩) (sh' := sx_87) rfl (s_aload_n dX2_init_25 0 rfl rfl (s_aload_n dX2_init_26 2 rfl rfl (s_putRF 41 1 15 25 dX2_init_27 cf_X2 ff_X2_25 rfl rfl (by decide) (by decide) ox_87_41 (by decide) rfl rfl rfl (fun _ => ⟨rfl, rfl⟩) (sh' := sx_88) rfl ?_)))))))
  refine s_iconst dX2_init_30 (by decide) (s_istore_n (ls' := [(0, (2, 41)), (1, (2, 1)), (2, (2, 15)), (3, (0, 0))]) dX2_init_31 (Nat.le_of_ble_eq_true rfl) rfl (s_iload_n dX2_init_32 3 rfl (s_iconst dX2_init_33 (by decide) (s_icmp_ge 56 dX2_init_34 (by decide) (kt := fun c => absurd c (by decide)) (kf := fun _ => s_aload_n dX2_init_37 0 rfl rfl (s_getfieldC (q := 42) 41 2 52 dX2_init_38 cf_X2 ff_X2_11 rfl ox_88_41 rfl (by decide) rfl (by rw [gx_88.1]; decide) (s_iload_n dX2_init_41 3 rfl ?_)))))))
  refine z_newO (q := 44) [2, 0, 2, 2, 0, 2] dX2_init_42 gx_88 cf_X6 ck_X2_9 ib_X6 in_X6 rfl rfl bo_X6 ((V1_hi (by decide)).trans V0_44) V1_h ⟨Nat.le_of_ble_eq_true rfl, Nat.le_of_ble_eq_true rfl⟩ (sh' := sx_89) rfl (s_dup dX2_init_45 (show (2 : Nat) ≠ 1 by decide) (z_invIN (as := []) gx_89 dX2_init_46 kv_X6_init ml_X2_29 cX6_init_44 (by decide) 44 rfl (by decide) rfl rfl (by decide) ⟨Nat.le_of_ble_eq_true rfl, Nat.le_of_ble_eq_true rfl⟩ (s_aast5g 42 44 dX2_init_49 rfl ox_97_42 (by decide) (by decide) ox_97_44 (s_iinc (z := 1) (ls' := [(0, (2, 41)), (1, (2, 1)), (2, (2, 15)), (3, (0, 1))]) dX2_init_50 3 rfl (Nat.le_of_ble_eq_true rfl) (by decide) rfl (s_goto 32 dX2_init_53 (by decide) (s_iload_n dX2_init_32 3 rfl (s_iconst dX2_init_33 (by decide) ?_)))))))
  refine s_icmp_ge 56 dX2_init_34 (by decide) (kt := fun c => absurd c (by decide)) (kf := fun _ => s_aload_n dX2_init_37 0 rfl rfl (s_getfieldC (q := 42) 41 2 52 dX2_init_38 cf_X2 ff_X2_11 rfl ox_97_41 rfl (by decide) rfl (by rw [gx_97.1]; decide) (s_iload_n dX2_init_41 3 rfl (z_newO (q := 49) [2, 0, 2, 2, 0, 2] dX2_init_42 gx_97 cf_X6 ck_X2_9 ib_X6 in_X6 rfl rfl bo_X6 (wun (by decide) ((V1_hi (by decide)).trans V0_49)) (w42u V1_h (by decide)) ⟨Nat.le_of_ble_eq_true rfl, Nat.le_of_ble_eq_true rfl⟩ (sh' := sx_98) rfl (s_dup dX2_init_45 (show (2 : Nat) ≠ 1 by decide) (z_invIN (as := []) gx_98 dX2_init_46 kv_X6_init ml_X2_29 cX6_init_49 (by decide) 49 rfl (by decide) rfl rfl (by decide) ⟨Nat.le_of_ble_eq_true rfl, Nat.le_of_ble_eq_true rfl⟩ (s_aast5g 42 49 dX2_init_49 rfl ox_106_42 (by decide) (by decide) ox_106_49 ?_)))))))
  refine s_iinc (z := 2) (ls' := [(0, (2, 41)), (1, (2, 1)), (2, (2, 15)), (3, (0, 2))]) dX2_init_50 3 rfl (Nat.le_of_ble_eq_true rfl) (by decide) rfl (s_goto 32 dX2_init_53 (by decide) (s_iload_n dX2_init_32 3 rfl (s_iconst dX2_init_33 (by decide) (s_icmp_ge 56 dX2_init_34 (by decide) (kt := fun c => absurd c (by decide)) (kf := fun _ => s_aload_n dX2_init_37 0 rfl rfl (s_getfieldC (q := 42) 41 2 52 dX2_init_38 cf_X2 ff_X2_11 rfl ox_106_41 rfl (by decide) rfl (by rw [gx_106.1]; decide) (s_iload_n dX2_init_41 3 rfl ?_)))))))
  refine z_newO (q := 54) [2, 0, 2, 2, 0, 2] dX2_init_42 gx_106 cf_X6 ck_X2_9 ib_X6 in_X6 rfl rfl bo_X6 (wun (by decide) (wun (by decide) ((V1_hi (by decide)).trans V0_54))) (w42u (w42u V1_h (by decide)) (by decide)) ⟨Nat.le_of_ble_eq_true rfl, Nat.le_of_ble_eq_true rfl⟩ (sh' := sx_107) rfl (s_dup dX2_init_45 (show (2 : Nat) ≠ 1 by decide) (z_invIN (as := []) gx_107 dX2_init_46 kv_X6_init ml_X2_29 cX6_init_54 (by decide) 54 rfl (by decide) rfl rfl (by decide) ⟨Nat.le_of_ble_eq_true rfl, Nat.le_of_ble_eq_true rfl⟩ (s_aast5g 42 54 dX2_init_49 rfl ox_115_42 (by decide) (by decide) ox_115_54 (s_iinc (z := 3) (ls' := [(0, (2, 41)), (1, (2, 1)), (2, (2, 15)), (3, (0, 3))]) dX2_init_50 3 rfl (Nat.le_of_ble_eq_true rfl) (by decide) rfl (s_goto 32 dX2_init_53 (by decide) (s_iload_n dX2_init_32 3 rfl (s_iconst dX2_init_33 (by decide) ?_)))))))
  refine s_icmp_ge 56 dX2_init_34 (by decide) (kf := fun c => absurd (show (3 : Int) ≤ 3 by decide) c) (kt := fun _ => z_ret dX2_init_56 hR rfl gx_82 gx_115 rfl rfl)
theorem ox_115_0 : sx_115[0]? = some (0, 11, [11, 25, 40, 45, 2, 2, 2, 2, 2, 2, 0]) := by decide +kernel
def sx_116 : List Sh := sx_115.set 0 (0, 11, [11, 25, 40, 45, 51, 2, 2, 2, 2, 2, 0])
theorem gx_116 : Sg 59 6615 sx_116 := Sg.set (k := 0) (s := (0, 11, [11, 25, 40, 45, 2, 2, 2, 2, 2, 2, 0])) (s' := (0, 11, [11, 25, 40, 45, 51, 2, 2, 2, 2, 2, 0])) gx_115 ox_115_0 rfl (by decide +kernel) (by decide)
def sx_117 : List Sh := sx_116 ++ [(0, 0, [2, 2, 2, 2, 2, 2, 2, 2, 2, 0, 2, 2, 2, 2, 2, 2, 0])]
theorem gx_117 : Sg 60 6632 sx_117 := Sg.push (s := (0, 0, [2, 2, 2, 2, 2, 2, 2, 2, 2, 0, 2, 2, 2, 2, 2, 2, 0])) gx_116 (by decide +kernel) (by decide)
theorem ox_117_0 : sx_117[0]? = some (0, 11, [11, 25, 40, 45, 51, 2, 2, 2, 2, 2, 0]) := by decide +kernel
def sx_118 : List Sh := sx_117 ++ [(1, 16, [])]
theorem gx_118 : Sg 61 6648 sx_118 := Sg.push (s := (1, 16, [])) gx_117 (by decide +kernel) (by decide)
theorem ox_118_59 : sx_118[59]? = some (0, 0, [2, 2, 2, 2, 2, 2, 2, 2, 2, 0, 2, 2, 2, 2, 2, 2, 0]) := by decide +kernel
def sx_119 : List Sh := sx_118.set 59 (0, 0, [2, 2, 2, 70, 2, 2, 2, 2, 2, 0, 2, 2, 2, 2, 2, 2, 0])
theorem gx_119 : Sg 61 6648 sx_119 := Sg.set (k := 59) (s := (0, 0, [2, 2, 2, 2, 2, 2, 2, 2, 2, 0, 2, 2, 2, 2, 2, 2, 0])) (s' := (0, 0, [2, 2, 2, 70, 2, 2, 2, 2, 2, 0, 2, 2, 2, 2, 2, 2, 0])) gx_118 ox_118_59 rfl (by decide +kernel) (by decide)
def sx_120 : List Sh := sx_119 ++ [(1, 16, [])]
theorem gx_120 : Sg 62 6664 sx_120 := Sg.push (s := (1, 16, [])) gx_119 (by decide +kernel) (by decide)
theorem ox_120_59 : sx_120[59]? = some (0, 0, [2, 2, 2, 70, 2, 2, 2, 2, 2, 0, 2, 2, 2, 2, 2, 2, 0]) := by decide +kernel
def sx_121 : List Sh := sx_120.set 59 (0, 0, [2, 2, 2, 70, 71, 2, 2, 2, 2, 0, 2, 2, 2, 2, 2, 2, 0])
theorem gx_121 : Sg 62 6664 sx_121 := Sg.set (k := 59) (s := (0, 0, [2, 2, 2, 70, 2, 2, 2, 2, 2, 0, 2, 2, 2, 2, 2, 2, 0])) (s' := (0, 0, [2, 2, 2, 70, 71, 2, 2, 2, 2, 0, 2, 2, 2, 2, 2, 2, 0])) gx_120 ox_120_59 rfl (by decide +kernel) (by decide)
def sx_122 : List Sh := sx_121 ++ [(1, 16, [])]
theorem gx_122 : Sg 63 6680 sx_122 := Sg.push (s := (1, 16, [])) gx_121 (by decide +kernel) (by decide)
theorem ox_122_59 : sx_122[59]? = some (0, 0, [2, 2, 2, 70, 71, 2, 2, 2, 2, 0, 2, 2, 2, 2, 2, 2, 0]) := by decide +kernel
def sx_123 : List Sh := sx_122.set 59 (0, 0, [2, 2, 2, 70, 71, 72, 2, 2, 2, 0, 2, 2, 2, 2, 2, 2, 0])
theorem gx_123 : Sg 63 6680 sx_123 := Sg.set (k := 59) (s := (0, 0, [2, 2, 2, 70, 71, 2, 2, 2, 2, 0, 2, 2, 2, 2, 2, 2, 0])) (s' := (0, 0, [2, 2, 2, 70, 71, 72, 2, 2, 2, 0, 2, 2, 2, 2, 2, 2, 0])) gx_122 ox_122_59 rfl (by decide +kernel) (by decide)
def sx_124 : List Sh := sx_123 ++ [(1, 16, [])]
theorem gx_124 : Sg 64 6696 sx_124 := Sg.push (s := (1, 16, [])) gx_123 (by decide +kernel) (by decide)
theorem ox_124_59 : sx_124[59]? = some (0, 0, [2, 2, 2, 70, 71, 72, 2, 2, 2, 0, 2, 2, 2, 2, 2, 2, 0]) := by decide +kernel
def sx_125 : List Sh := sx_124.set 59 (0, 0, [2, 2, 2, 70, 71, 72, 73, 2, 2, 0, 2, 2, 2, 2, 2, 2, 0])
theorem gx_125 : Sg 64 6696 sx_125 := Sg.set (k := 59) (s := (0, 0, [2, 2, 2, 70, 71, 72, 2, 2, 2, 0, 2, 2, 2, 2, 2, 2, 0])) (s' := (0, 0, [2, 2, 2, 70, 71, 72, 73, 2, 2, 0, 2, 2, 2, 2, 2, 2, 0])) gx_124 ox_124_59 rfl (by decide +kernel) (by decide)
def sx_126 : List Sh := sx_125 ++ [(1, 16, [])]
theorem gx_126 : Sg 65 6712 sx_126 := Sg.push (s := (1, 16, [])) gx_125 (by decide +kernel) (by decide)
theorem ox_126_59 : sx_126[59]? = some (0, 0, [2, 2, 2, 70, 71, 72, 73, 2, 2, 0, 2, 2, 2, 2, 2, 2, 0]) := by decide +kernel
def sx_127 : List Sh := sx_126.set 59 (0, 0, [2, 2, 2, 70, 71, 72, 73, 74, 2, 0, 2, 2, 2, 2, 2, 2, 0])
theorem gx_127 : Sg 65 6712 sx_127 := Sg.set (k := 59) (s := (0, 0, [2, 2, 2, 70, 71, 72, 73, 2, 2, 0, 2, 2, 2, 2, 2, 2, 0])) (s' := (0, 0, [2, 2, 2, 70, 71, 72, 73, 74, 2, 0, 2, 2, 2, 2, 2, 2, 0])) gx_126 ox_126_59 rfl (by decide +kernel) (by decide)
def sx_128 : List Sh := shM sx_127 16 12
theorem gx_128 : Sg 82 6920 sx_128 := Sg.mna (N := 16) (K := 12) gx_127
theorem ox_128_59 : sx_128[59]? = some (0, 0, [2, 2, 2, 70, 71, 72, 73, 74, 2, 0, 2, 2, 2, 2, 2, 2, 0]) := by decide +kernel
def sx_129 : List Sh := sx_128.set 59 (0, 0, [2, 2, 2, 70, 71, 72, 73, 74, 75, 0, 2, 2, 2, 2, 2, 2, 0])
theorem gx_129 : Sg 82 6920 sx_129 := Sg.set (k := 59) (s := (0, 0, [2, 2, 2, 70, 71, 72, 73, 74, 2, 0, 2, 2, 2, 2, 2, 2, 0])) (s' := (0, 0, [2, 2, 2, 70, 71, 72, 73, 74, 75, 0, 2, 2, 2, 2, 2, 2, 0])) gx_128 ox_128_59 rfl (by decide +kernel) (by decide)
def sx_130 : List Sh := sx_129 ++ [(2, 16, [])]
theorem gx_130 : Sg 83 6936 sx_130 := Sg.push (s := (2, 16, [])) gx_129 (by decide +kernel) (by decide)
theorem ox_130_59 : sx_130[59]? = some (0, 0, [2, 2, 2, 70, 71, 72, 73, 74, 75, 0, 2, 2, 2, 2, 2, 2, 0]) := by decide +kernel
def sx_131 : List Sh := sx_130.set 59 (0, 0, [2, 2, 2, 70, 71, 72, 73, 74, 75, 0, 92, 2, 2, 2, 2, 2, 0])
theorem gx_131 : Sg 83 6936 sx_131 := Sg.set (k := 59) (s := (0, 0, [2, 2, 2, 70, 71, 72, 73, 74, 75, 0, 2, 2, 2, 2, 2, 2, 0])) (s' := (0, 0, [2, 2, 2, 70, 71, 72, 73, 74, 75, 0, 92, 2, 2, 2, 2, 2, 0])) gx_130 ox_130_59 rfl (by decide +kernel) (by decide)
def sx_132 : List Sh := sx_131 ++ [(2, 16, [])]
theorem gx_132 : Sg 84 6952 sx_132 := Sg.push (s := (2, 16, [])) gx_131 (by decide +kernel) (by decide)
theorem ox_132_59 : sx_132[59]? = some (0, 0, [2, 2, 2, 70, 71, 72, 73, 74, 75, 0, 92, 2, 2, 2, 2, 2, 0]) := by decide +kernel
def sx_133 : List Sh := sx_132.set 59 (0, 0, [2, 2, 2, 70, 71, 72, 73, 74, 75, 0, 92, 93, 2, 2, 2, 2, 0])
theorem gx_133 : Sg 84 6952 sx_133 := Sg.set (k := 59) (s := (0, 0, [2, 2, 2, 70, 71, 72, 73, 74, 75, 0, 92, 2, 2, 2, 2, 2, 0])) (s' := (0, 0, [2, 2, 2, 70, 71, 72, 73, 74, 75, 0, 92, 93, 2, 2, 2, 2, 0])) gx_132 ox_132_59 rfl (by decide +kernel) (by decide)
def sx_134 : List Sh := sx_133 ++ [(1, 16, [])]
theorem gx_134 : Sg 85 6968 sx_134 := Sg.push (s := (1, 16, [])) gx_133 (by decide +kernel) (by decide)
theorem ox_134_59 : sx_134[59]? = some (0, 0, [2, 2, 2, 70, 71, 72, 73, 74, 75, 0, 92, 93, 2, 2, 2, 2, 0]) := by decide +kernel
def sx_135 : List Sh := sx_134.set 59 (0, 0, [2, 2, 2, 70, 71, 72, 73, 74, 75, 0, 92, 93, 94, 2, 2, 2, 0])
theorem gx_135 : Sg 85 6968 sx_135 := Sg.set (k := 59) (s := (0, 0, [2, 2, 2, 70, 71, 72, 73, 74, 75, 0, 92, 93, 2, 2, 2, 2, 0])) (s' := (0, 0, [2, 2, 2, 70, 71, 72, 73, 74, 75, 0, 92, 93, 94, 2, 2, 2, 0])) gx_134 ox_134_59 rfl (by decide +kernel) (by decide)
def sx_136 : List Sh := sx_135 ++ [(1, 16, [])]
theorem gx_136 : Sg 86 6984 sx_136 := Sg.push (s := (1, 16, [])) gx_135 (by decide +kernel) (by decide)
theorem ox_136_59 : sx_136[59]? = some (0, 0, [2, 2, 2, 70, 71, 72, 73, 74, 75, 0, 92, 93, 94, 2, 2, 2, 0]) := by decide +kernel
def sx_137 : List Sh := sx_136.set 59 (0, 0, [2, 2, 2, 70, 71, 72, 73, 74, 75, 0, 92, 93, 94, 95, 2, 2, 0])
theorem gx_137 : Sg 86 6984 sx_137 := Sg.set (k := 59) (s := (0, 0, [2, 2, 2, 70, 71, 72, 73, 74, 75, 0, 92, 93, 94, 2, 2, 2, 0])) (s' := (0, 0, [2, 2, 2, 70, 71, 72, 73, 74, 75, 0, 92, 93, 94, 95, 2, 2, 0])) gx_136 ox_136_59 rfl (by decide +kernel) (by decide)
def sx_138 : List Sh := sx_137 ++ [(1, 32, [])]
theorem gx_138 : Sg 87 7016 sx_138 := Sg.push (s := (1, 32, [])) gx_137 (by decide +kernel) (by decide)
theorem ox_138_59 : sx_138[59]? = some (0, 0, [2, 2, 2, 70, 71, 72, 73, 74, 75, 0, 92, 93, 94, 95, 2, 2, 0]) := by decide +kernel
def sx_139 : List Sh := sx_138.set 59 (0, 0, [2, 2, 2, 70, 71, 72, 73, 74, 75, 0, 92, 93, 94, 95, 96, 2, 0])
theorem gx_139 : Sg 87 7016 sx_139 := Sg.set (k := 59) (s := (0, 0, [2, 2, 2, 70, 71, 72, 73, 74, 75, 0, 92, 93, 94, 95, 2, 2, 0])) (s' := (0, 0, [2, 2, 2, 70, 71, 72, 73, 74, 75, 0, 92, 93, 94, 95, 96, 2, 0])) gx_138 ox_138_59 rfl (by decide +kernel) (by decide)
def sx_140 : List Sh := sx_139 ++ [(1, 32, [])]
theorem gx_140 : Sg 88 7048 sx_140 := Sg.push (s := (1, 32, [])) gx_139 (by decide +kernel) (by decide)
theorem ox_140_59 : sx_140[59]? = some (0, 0, [2, 2, 2, 70, 71, 72, 73, 74, 75, 0, 92, 93, 94, 95, 96, 2, 0]) := by decide +kernel
def sx_141 : List Sh := sx_140.set 59 (0, 0, [2, 2, 2, 70, 71, 72, 73, 74, 75, 0, 92, 93, 94, 95, 96, 97, 0])
theorem gx_141 : Sg 88 7048 sx_141 := Sg.set (k := 59) (s := (0, 0, [2, 2, 2, 70, 71, 72, 73, 74, 75, 0, 92, 93, 94, 95, 96, 2, 0])) (s' := (0, 0, [2, 2, 2, 70, 71, 72, 73, 74, 75, 0, 92, 93, 94, 95, 96, 97, 0])) gx_140 ox_140_59 rfl (by decide +kernel) (by decide)
theorem ox_141_59 : sx_141[59]? = some (0, 0, [2, 2, 2, 70, 71, 72, 73, 74, 75, 0, 92, 93, 94, 95, 96, 97, 0]) := by decide +kernel
def sx_142 : List Sh := sx_141.set 59 (0, 0, [11, 2, 2, 70, 71, 72, 73, 74, 75, 0, 92, 93, 94, 95, 96, 97, 0])
theorem gx_142 : Sg 88 7048 sx_142 := Sg.set (k := 59) (s := (0, 0, [2, 2, 2, 70, 71, 72, 73, 74, 75, 0, 92, 93, 94, 95, 96, 97, 0])) (s' := (0, 0, [11, 2, 2, 70, 71, 72, 73, 74, 75, 0, 92, 93, 94, 95, 96, 97, 0])) gx_141 ox_141_59 rfl (by decide +kernel) (by decide)
theorem ox_142_59 : sx_142[59]? = some (0, 0, [11, 2, 2, 70, 71, 72, 73, 74, 75, 0, 92, 93, 94, 95, 96, 97, 0]) := by decide +kernel
def sx_143 : List Sh := sx_142.set 59 (0, 0, [11, 25, 2, 70, 71, 72, 73, 74, 75, 0, 92, 93, 94, 95, 96, 97, 0])
theorem gx_143 : Sg 88 7048 sx_143 := Sg.set (k := 59) (s := (0, 0, [11, 2, 2, 70, 71, 72, 73, 74, 75, 0, 92, 93, 94, 95, 96, 97, 0])) (s' := (0, 0, [11, 25, 2, 70, 71, 72, 73, 74, 75, 0, 92, 93, 94, 95, 96, 97, 0])) gx_142 ox_142_59 rfl (by decide +kernel) (by decide)
theorem ox_143_59 : sx_143[59]? = some (0, 0, [11, 25, 2, 70, 71, 72, 73, 74, 75, 0, 92, 93, 94, 95, 96, 97, 0]) := by decide +kernel
def sx_144 : List Sh := sx_143.set 59 (0, 0, [11, 25, 51, 70, 71, 72, 73, 74, 75, 0, 92, 93, 94, 95, 96, 97, 0])
theorem gx_144 : Sg 88 7048 sx_144 := Sg.set (k := 59) (s := (0, 0, [11, 25, 2, 70, 71, 72, 73, 74, 75, 0, 92, 93, 94, 95, 96, 97, 0])) (s' := (0, 0, [11, 25, 51, 70, 71, 72, 73, 74, 75, 0, 92, 93, 94, 95, 96, 97, 0])) gx_143 ox_143_59 rfl (by decide +kernel) (by decide)
set_option maxHeartbeats 4000000 in
set_option maxRecDepth 100000 in
theorem cX0_init_59 : Call 1 28 416 mX0_init [(2, 59), (2, 1), (2, 15), (2, 41)] sx_117 V2 (PC sx_144 V2) := by
  refine Call.introG gx_117 (by decide +kernel) (Nat.le_of_ble_eq_true rfl) (fun ρ hR => ?_)
  refine s_aload_n dX0_init_0 0 rfl rfl (z_obj 59 dX0_init_1 oi_X0 rfl (by decide) rfl (s_aload_n dX0_init_4 0 rfl rfl (s_bipush dX0_init_5 (by decide) (z_newI (q := 60) 16 dX0_init_7 gx_117 rfl rfl rfl (Nat.le_of_ble_eq_true rfl) ((V2_hi (by decide) (by decide)).trans (V0_nz (by decide))) (V2_h (by decide)) ⟨Nat.le_of_ble_eq_true rfl, Nat.le_of_ble_eq_true rfl⟩ (sh' := sx_118) rfl (s_putRF 59 3 60 70 dX0_init_9 cf_X0 ff_X0_9 rfl rfl (by decide) (by decide) ox_118_59 (by decide) rfl rfl rfl (fun _ => ⟨rfl, rfl⟩) (sh' := sx_119) rfl (s_aload_n dX0_init_12 0 rfl rfl (s_bipush dX0_init_13 (by decide) ?_)))))))
  refine z_newI (q := 61) 16 dX0_init_15 gx_119 rfl rfl rfl (Nat.le_of_ble_eq_true rfl) ((V2_hi (by decide) (by decide)).trans (V0_nz (by decide))) (V2_h (by decide)) ⟨Nat.le_of_ble_eq_true rfl, Nat.le_of_ble_eq_true rfl⟩ (sh' := sx_120) rfl (s_putRF 59 4 61 71 dX0_init_17 cf_X0 ff_X0_15 rfl rfl (by decide) (by decide) ox_120_59 (by decide) rfl rfl rfl (fun _ => ⟨rfl, rfl⟩) (sh' := sx_121) rfl (s_aload_n dX0_init_20 0 rfl rfl (s_bipush dX0_init_21 (by decide) (z_newI (q := 62) 16 dX0_init_23 gx_121 rfl rfl rfl (Nat.le_of_ble_eq_true rfl) ((V2_hi (by decide) (by decide)).trans (V0_nz (by decide))) (V2_h (by decide)) ⟨Nat.le_of_ble_eq_true rfl, Nat.le_of_ble_eq_true rfl⟩ (sh' := sx_122) rfl (s_putRF 59 5 62 72 dX0_init_25 cf_X0 ff_X0_18 rfl rfl (by decide) (by decide) ox_122_59 (by decide) rfl rfl rfl (fun _ => ⟨rfl, rfl⟩) (sh' := sx_123) rfl (s_aload_n dX0_init_28 0 rfl rfl (s_bipush dX0_init_29 (by decide) ?_)))))))
  refine z_newI (q := 63) 16 dX0_init_31 gx_123 rfl rfl rfl (Nat.le_of_ble_eq_true rfl) ((V2_hi (by decide) (by decide)).trans (V0_nz (by decide))) (V2_h (by decide)) ⟨Nat.le_of_ble_eq_true rfl, Nat.le_of_ble_eq_true rfl⟩ (sh' := sx_124) rfl (s_putRF 59 6 63 73 dX0_init_33 cf_X0 ff_X0_21 rfl rfl (by decide) (by decide) ox_124_59 (by decide) rfl rfl rfl (fun _ => ⟨rfl, rfl⟩) (sh' := sx_125) rfl (s_aload_n dX0_init_36 0 rfl rfl (s_bipush dX0_init_37 (by decide) (z_newI (q := 64) 16 dX0_init_39 gx_125 rfl rfl rfl (Nat.le_of_ble_eq_true rfl) ((V2_hi (by decide) (by decide)).trans (V0_nz (by decide))) (V2_h (by decide)) ⟨Nat.le_of_ble_eq_true rfl, Nat.le_of_ble_eq_true rfl⟩ (sh' := sx_126) rfl (s_putRF 59 7 64 74 dX0_init_41 cf_X0 ff_X0_24 rfl rfl (by decide) (by decide) ox_126_59 (by decide) rfl rfl rfl (fun _ => ⟨rfl, rfl⟩) (sh' := sx_127) rfl (s_aload_n dX0_init_44 0 rfl rfl (s_bipush dX0_init_45 (by decide) ?_)))))))
  refine s_bipush dX0_init_47 (by decide) (z_mna (q := 65) 16 12 dX0_init_49 gx_127 ck_X0_27 rfl rfl rfl (by decide) (fun k h1 h2 => ((V2_hi (by omega) (by omega)).trans (V0_nz ⟨by omega, by omega, by omega, by omega, by omega, by omega, by omega, by omega, by omega, by omega, by omega, by omega, by omega, by omega, by omega, by omega, by omega⟩))) (V2_h (by decide)) ⟨Nat.le_of_ble_eq_true rfl, Nat.le_of_ble_eq_true rfl⟩ (sh' := sx_128) rfl (s_putRF 59 8 65 75 dX0_init_53 cf_X0 ff_X0_29 rfl rfl (by decide) (by decide) ox_128_59 (by decide) rfl rfl rfl (fun _ => ⟨rfl, rfl⟩) (sh' := sx_129) rfl (s_aload_n dX0_init_56 0 rfl rfl (s_bipush dX0_init_57 (by decide) (z_newZ (q := 82) 16 dX0_init_59 gx_129 rfl rfl rfl (Nat.le_of_ble_eq_true rfl) ((V2_hi (by decide) (by decide)).trans (V0_nz (by decide))) (V2_h (by decide)) ⟨Nat.le_of_ble_eq_true rfl, Nat.le_of_ble_eq_true rfl⟩ (sh' := sx_130) rfl (s_putRF 59 10 82 92 dX0_init_61 cf_X0 ff_X0_32 rfl rfl (by decide) (by decide) ox_130_59 (by decide) rfl rfl rfl (fun _ => ⟨rfl, rfl⟩) (sh' := sx_131) rfl (s_aload_n dX0_init_64 0 rfl rfl ?_)))))))
  refine s_bipush dX0_init_65 (by decide) (z_newZ (q := 83) 16 dX0_init_67 gx_131 rfl rfl rfl (Nat.le_of_ble_eq_true rfl) ((V2_hi (by decide) (by decide)).trans (V0_nz (by decide))) (V2_h (by decide)) ⟨Nat.le_of_ble_eq_true rfl, Nat.le_of_ble_eq_true rfl⟩ (sh' := sx_132) rfl (s_putRF 59 11 83 93 dX0_init_69 cf_X0 ff_X0_36 rfl rfl (by decide) (by decide) ox_132_59 (by decide) rfl rfl rfl (fun _ => ⟨rfl, rfl⟩) (sh' := sx_133) rfl (s_aload_n dX0_init_72 0 rfl rfl (s_bipush dX0_init_73 (by decide) (z_newI (q := 84) 16 dX0_init_75 gx_133 rfl rfl rfl (Nat.le_of_ble_eq_true rfl) ((V2_hi (by decide) (by decide)).trans (V0_nz (by decide))) (V2_h (by decide)) ⟨Nat.le_of_ble_eq_true rfl, Nat.le_of_ble_eq_true rfl⟩ (sh' := sx_134) rfl (s_putRF 59 12 84 94 dX0_init_77 cf_X0 ff_X0_39 rfl rfl (by decide) (by decide) ox_134_59 (by decide) rfl rfl rfl (fun _ => ⟨rfl, rfl⟩) (sh' := sx_135) rfl (s_aload_n dX0_init_80 0 rfl rfl ?_)))))))
  refine s_bipush dX0_init_81 (by decide) (z_newI (q := 85) 16 dX0_init_83 gx_135 rfl rfl rfl (Nat.le_of_ble_eq_true rfl) ((V2_hi (by decide) (by decide)).trans (V0_nz (by decide))) (V2_h (by decide)) ⟨Nat.le_of_ble_eq_true rfl, Nat.le_of_ble_eq_true rfl⟩ (sh' := sx_136) rfl (s_putRF 59 13 85 95 dX0_init_85 cf_X0 ff_X0_42 rfl rfl (by decide) (by decide) ox_136_59 (by decide) rfl rfl rfl (fun _ => ⟨rfl, rfl⟩) (sh' := sx_137) rfl (s_aload_n dX0_init_88 0 rfl rfl (s_bipush dX0_init_89 (by decide) (z_newI (q := 86) 32 dX0_init_91 gx_137 rfl rfl rfl (Nat.le_of_ble_eq_true rfl) ((V2_hi (by decide) (by decide)).trans (V0_nz (by decide))) (V2_h (by decide)) ⟨Nat.le_of_ble_eq_true rfl, Nat.le_of_ble_eq_true rfl⟩ (sh' := sx_138) rfl (s_putRF 59 14 86 96 dX0_init_93 cf_X0 ff_X0_45 rfl rfl (by decide) (by decide) ox_138_59 (by decide) rfl rfl rfl (fun _ => ⟨rfl, rfl⟩) (sh' := sx_139) rfl (s_aload_n dX0_init_96 0 rfl rfl ?_)))))))
  refine s_bipush dX0_init_97 (by decide) (z_newI (q := 87) 32 dX0_init_99 gx_139 rfl rfl rfl (Nat.le_of_ble_eq_true rfl) ((V2_hi (by decide) (by decide)).trans (V0_nz (by decide))) (V2_h (by decide)) ⟨Nat.le_of_ble_eq_true rfl, Nat.le_of_ble_eq_true rfl⟩ (sh' := sx_140) rfl (s_putRF 59 15 87 97 dX0_init_101 cf_X0 ff_X0_48 rfl rfl (by decide) (by decide) ox_140_59 (by decide) rfl rfl rfl (fun _ => ⟨rfl, rfl⟩) (sh' := sx_141) rfl (s_aload_n dX0_init_104 0 rfl rfl (s_aload_n dX0_init_105 1 rfl rfl (s_putRF 59 0 1 11 dX0_init_106 cf_X0 ff_X0_51 rfl rfl (by decide) (by decide) ox_141_59 (by decide) rfl rfl rfl (fun _ => ⟨rfl, rfl⟩) (sh' := sx_142) rfl (s_aload_n dX0_init_109 0 rfl rfl (s_aload_n dX0_init_110 2 rfl rfl ?_)))))))
  refine s_putRF 59 1 15 25 dX0_init_111 cf_X0 ff_X0_55 rfl rfl (by decide) (by decide) ox_142_59 (by decide) rfl rfl rfl (fun _ => ⟨rfl, rfl⟩) (sh' := sx_143) rfl (s_aload_n dX0_init_114 0 rfl rfl (s_aload_n dX0_init_115 3 rfl rfl (s_putRF 59 2 41 51 dX0_init_116 cf_X0 ff_X0_59 rfl rfl (by decide) (by decide) ox_143_59 (by decide) rfl rfl rfl (fun _ => ⟨rfl, rfl⟩) (sh' := sx_144) rfl (z_ret dX0_init_119 hR rfl gx_117 gx_144 rfl rfl))))
theorem ox_144_0 : sx_144[0]? = some (0, 11, [11, 25, 40, 45, 51, 2, 2, 2, 2, 2, 0]) := by decide +kernel
def sx_145 : List Sh := sx_144.set 0 (0, 11, [11, 25, 40, 45, 51, 69, 2, 2, 2, 2, 0])
theorem gx_145 : Sg 88 7048 sx_145 := Sg.set (k := 0) (s := (0, 11, [11, 25, 40, 45, 51, 2, 2, 2, 2, 2, 0])) (s' := (0, 11, [11, 25, 40, 45, 51, 69, 2, 2, 2, 2, 0])) gx_144 ox_144_0 rfl (by decide +kernel) (by decide)
def sx_146 : List Sh := sx_145 ++ [(0, 7, [2, 2, 0, 2, 2, 2, 0, 0, 0, 0])]
theorem gx_146 : Sg 89 7058 sx_146 := Sg.push (s := (0, 7, [2, 2, 0, 2, 2, 2, 0, 0, 0, 0])) gx_145 (by decide +kernel) (by decide)
def sx_147 : List Sh := sx_146 ++ [(1, 9, [])]
theorem gx_147 : Sg 90 7067 sx_147 := Sg.push (s := (1, 9, [])) gx_146 (by decide +kernel) (by decide)
theorem ox_147_88 : sx_147[88]? = some (0, 7, [2, 2, 0, 2, 2, 2, 0, 0, 0, 0]) := by decide +kernel
def sx_148 : List Sh := sx_147.set 88 (0, 7, [99, 2, 0, 2, 2, 2, 0, 0, 0, 0])
theorem gx_148 : Sg 90 7067 sx_148 := Sg.set (k := 88) (s := (0, 7, [2, 2, 0, 2, 2, 2, 0, 0, 0, 0])) (s' := (0, 7, [99, 2, 0, 2, 2, 2, 0, 0, 0, 0])) gx_147 ox_147_88 rfl (by decide +kernel) (by decide)
def sx_149 : List Sh := shM sx_148 9 9
theorem gx_149 : Sg 100 7157 sx_149 := Sg.mna (N := 9) (K := 9) gx_148
theorem ox_149_88 : sx_149[88]? = some (0, 7, [99, 2, 0, 2, 2, 2, 0, 0, 0, 0]) := by decide +kernel
def sx_150 : List Sh := sx_149.set 88 (0, 7, [99, 100, 0, 2, 2, 2, 0, 0, 0, 0])
theorem gx_150 : Sg 100 7157 sx_150 := Sg.set (k := 88) (s := (0, 7, [99, 2, 0, 2, 2, 2, 0, 0, 0, 0])) (s' := (0, 7, [99, 100, 0, 2, 2, 2, 0, 0, 0, 0])) gx_149 ox_149_88 rfl (by decide +kernel) (by decide)
def sx_151 : List Sh := sx_150 ++ [(1, 4608, [])]
theorem gx_151 : Sg 101 11765 sx_151 := Sg.push (s := (1, 4608, [])) gx_150 (by decide +kernel) (by decide)
theorem ox_151_88 : sx_151[88]? = some (0, 7, [99, 100, 0, 2, 2, 2, 0, 0, 0, 0]) := by decide +kernel
def sx_152 : List Sh := sx_151.set 88 (0, 7, [99, 100, 0, 110, 2, 2, 0, 0, 0, 0])
theorem gx_152 : Sg 101 11765 sx_152 := Sg.set (k := 88) (s := (0, 7, [99, 100, 0, 2, 2, 2, 0, 0, 0, 0])) (s' := (0, 7, [99, 100, 0, 110, 2, 2, 0, 0, 0, 0])) gx_151 ox_151_88 rfl (by decide +kernel) (by decide)
def sx_153 : List Sh := sx_152 ++ [(1, 14, [])]
theorem gx_153 : Sg 102 11779 sx_153 := Sg.push (s := (1, 14, [])) gx_152 (by decide +kernel) (by decide)
theorem ox_153_88 : sx_153[88]? = some (0, 7, [99, 100, 0, 110, 2, 2, 0, 0, 0, 0]) := by decide +kernel
def sx_154 : List Sh := sx_153.set 88 (0, 7, [99, 100, 0, 110, 111, 2, 0, 0, 0, 0])
theorem gx_154 : Sg 102 11779 sx_154 := Sg.set (k := 88) (s := (0, 7, [99, 100, 0, 110, 2, 2, 0, 0, 0, 0])) (s' := (0, 7, [99, 100, 0, 110, 111, 2, 0, 0, 0, 0])) gx_153 ox_153_88 rfl (by decide +kernel) (by decide)
def sx_155 : List Sh := sx_154 ++ [(1, 14, [])]
theorem gx_155 : Sg 103 11793 sx_155 := Sg.push (s := (1, 14, [])) gx_154 (by decide +kernel) (by decide)
theorem ox_155_88 : sx_155[88]? = some (0, 7, [99, 100, 0, 110, 111, 2, 0, 0, 0, 0]) := by decide +kernel
def sx_156 : List Sh := sx_155.set 88 (0, 7, [99, 100, 0, 110, 111, 112, 0, 0, 0, 0])
theorem gx_156 : Sg 103 11793 sx_156 := Sg.set (k := 88) (s := (0, 7, [99, 100, 0, 110, 111, 2, 0, 0, 0, 0])) (s' := (0, 7, [99, 100, 0, 110, 111, 112, 0, 0, 0, 0])) gx_155 ox_155_88 rfl (by decide +kernel) (by decide)
set_option maxHeartbeats 4000000 in
set_option maxRecDepth 100000 in
theorem cX7_init_88 : Call 1 14 4735 mX7_init [(2, 88)] sx_146 V2 (PC sx_156 V2) := by
  refine Call.introG gx_146 (by decide +kernel) (Nat.le_of_ble_eq_true rfl) (fun ρ hR => ?_)
  refine s_aload_n dX7_init_0 0 rfl rfl (z_obj 88 dX7_init_1 oi_X7 rfl (by decide) rfl (s_aload_n dX7_init_4 0 rfl rfl (s_bipush dX7_init_5 (by decide) (z_newI (q := 89) 9 dX7_init_7 gx_146 rfl rfl rfl (Nat.le_of_ble_eq_true rfl) ((V2_hi (by decide) (by decide)).trans (V0_nz (by decide))) (V2_h (by decide)) ⟨Nat.le_of_ble_eq_true rfl, Nat.le_of_ble_eq_true rfl⟩ (sh' := sx_147) rfl (s_putRF 88 0 89 99 dX7_init_9 cf_X7 ff_X7_9 rfl rfl (by decide) (by decide) ox_147_88 (by decide) rfl rfl rfl (fun _ => ⟨rfl, rfl⟩) (sh' := sx_148) rfl (s_aload_n dX7_init_12 0 rfl rfl (s_bipush dX7_init_13 (by decide) ?_)))))))
  refine s_bipush dX7_init_15 (by decide) (z_mna (q := 90) 9 9 dX7_init_17 gx_148 ck_X7_15 rfl rfl rfl (by decide) (fun k h1 h2 => ((V2_hi (by omega) (by omega)).trans (V0_nz ⟨by omega, by omega, by omega, by omega, by omega, by omega, by omega, by omega, by omega, by omega, by omega, by omega, by omega, by omega, by omega, by omega, by omega⟩))) (V2_h (by decide)) ⟨Nat.le_of_ble_eq_true rfl, Nat.le_of_ble_eq_true rfl⟩ (sh' := sx_149) rfl (s_putRF 88 1 90 100 dX7_init_21 cf_X7 ff_X7_17 rfl rfl (by decide) (by decide) ox_149_88 (by decide) rfl rfl rfl (fun _ => ⟨rfl, rfl⟩) (sh' := sx_150) rfl (s_aload_n dX7_init_24 0 rfl rfl (s_sipush dX7_init_25 (by decide) (z_newI (q := 100) 4608 dX7_init_28 gx_150 rfl rfl rfl (Nat.le_of_ble_eq_true rfl) ((V2_hi (by decide) (by decide)).trans (V0_nz (by decide))) (V2_h (by decide)) ⟨Nat.le_of_ble_eq_true rfl, Nat.le_of_ble_eq_true rfl⟩ (sh' := sx_151) rfl (s_putRF 88 3 100 110 dX7_init_30 cf_X7 ff_X7_20 rfl rfl (by decide) (by decide) ox_151_88 (by decide) rfl rfl rfl (fun _ => ⟨rfl, rfl⟩) (sh' := sx_152) rfl (s_aload_n dX7_init_33 0 rfl rfl ?_)))))))
  refine s_bipush dX7_init_34 (by decide) (z_newI (q := 101) 14 dX7_init_36 gx_152 rfl rfl rfl (Nat.le_of_ble_eq_true rfl) ((V2_hi (by decide) (by decide)).trans (V0_nz (by decide))) (V2_h (by decide)) ⟨Nat.le_of_ble_eq_true rfl, Nat.le_of_ble_eq_true rfl⟩ (sh' := sx_153) rfl (s_putRF 88 4 101 111 dX7_init_38 cf_X7 ff_X7_23 rfl rfl (by decide) (by decide) ox_153_88 (by decide) rfl rfl rfl (fun _ => ⟨rfl, rfl⟩) (sh' := sx_154) rfl (s_aload_n dX7_init_41 0 rfl rfl (s_bipush dX7_init_42 (by decide) (z_newI (q := 102) 14 dX7_init_44 gx_154 rfl rfl rfl (Nat.le_of_ble_eq_true rfl) ((V2_hi (by decide) (by decide)).trans (V0_nz (by decide))) (V2_h (by decide)) ⟨Nat.le_of_ble_eq_true rfl, Nat.le_of_ble_eq_true rfl⟩ (sh' := sx_155) rfl (s_putRF 88 5 102 112 dX7_init_46 cf_X7 ff_X7_26 rfl rfl (by decide) (by decide) ox_155_88 (by decide) rfl rfl rfl (fun _ => ⟨rfl, rfl⟩) (sh' := sx_156) rfl (z_ret dX7_init_49 hR rfl gx_146 gx_156 rfl rfl)))))))
theorem ox_156_0 : sx_156[0]? = some (0, 11, [11, 25, 40, 45, 51, 69, 2, 2, 2, 2, 0]) := by decide +kernel
def sx_157 : List Sh := sx_156.set 0 (0, 11, [11, 25, 40, 45, 51, 69, 98, 2, 2, 2, 0])
theorem gx_157 : Sg 103 11793 sx_157 := Sg.set (k := 0) (s := (0, 11, [11, 25, 40, 45, 51, 69, 2, 2, 2, 2, 0])) (s' := (0, 11, [11, 25, 40, 45, 51, 69, 98, 2, 2, 2, 0])) gx_156 ox_156_0 rfl (by decide +kernel) (by decide)
def sx_158 : List Sh := sx_157 ++ [(0, 10, [2, 2, 2, 2, 0, 2, 2])]
theorem gx_158 : Sg 104 11800 sx_158 := Sg.push (s := (0, 10, [2, 2, 2, 2, 0, 2, 2])) gx_157 (by decide +kernel) (by decide)
theorem ox_158_0 : sx_158[0]? = some (0, 11, [11, 25, 40, 45, 51, 69, 98, 2, 2, 2, 0]) := by decide +kernel
def sx_159 : List Sh := sx_158 ++ [(1, 16, [])]
theorem gx_159 : Sg 105 11816 sx_159 := Sg.push (s := (1, 16, [])) gx_158 (by decide +kernel) (by decide)
theorem ox_159_103 : sx_159[103]? = some (0, 10, [2, 2, 2, 2, 0, 2, 2]) := by decide +kernel
def sx_160 : List Sh := sx_159.set 103 (0, 10, [2, 114, 2, 2, 0, 2, 2])
theorem gx_160 : Sg 105 11816 sx_160 := Sg.set (k := 103) (s := (0, 10, [2, 2, 2, 2, 0, 2, 2])) (s' := (0, 10, [2, 114, 2, 2, 0, 2, 2])) gx_159 ox_159_103 rfl (by decide +kernel) (by decide)
def sx_161 : List Sh := sx_160 ++ [(1, 16, [])]
theorem gx_161 : Sg 106 11832 sx_161 := Sg.push (s := (1, 16, [])) gx_160 (by decide +kernel) (by decide)
theorem ox_161_103 : sx_161[103]? = some (0, 10, [2, 114, 2, 2, 0, 2, 2]) := by decide +kernel
def sx_162 : List Sh := sx_161.set 103 (0, 10, [2, 114, 115, 2, 0, 2, 2])
theorem gx_162 : Sg 106 11832 sx_162 := Sg.set (k := 103) (s := (0, 10, [2, 114, 2, 2, 0, 2, 2])) (s' := (0, 10, [2, 114, 115, 2, 0, 2, 2])) gx_161 ox_161_103 rfl (by decide +kernel) (by decide)
def sx_163 : List Sh := sx_162 ++ [(1, 9, [])]
theorem gx_163 : Sg 107 11841 sx_163 := Sg.push (s := (1, 9, [])) gx_162 (by decide +kernel) (by decide)
theorem ox_163_103 : sx_163[103]? = some (0, 10, [2, 114, 115, 2, 0, 2, 2]) := by decide +kernel
def sx_164 : List Sh := sx_163.set 103 (0, 10, [2, 114, 115, 116, 0, 2, 2])
theorem gx_164 : Sg 107 11841 sx_164 := Sg.set (k := 103) (s := (0, 10, [2, 114, 115, 2, 0, 2, 2])) (s' := (0, 10, [2, 114, 115, 116, 0, 2, 2])) gx_163 ox_163_103 rfl (by decide +kernel) (by decide)
def sx_165 : List Sh := sx_164 ++ [(1, 512, [])]
theorem gx_165 : Sg 108 12353 sx_165 := Sg.push (s := (1, 512, [])) gx_164 (by decide +kernel) (by decide)
theorem ox_165_103 : sx_165[103]? = some (0, 10, [2, 114, 115, 116, 0, 2, 2]) := by decide +kernel
def sx_166 : List Sh := sx_165.set 103 (0, 10, [2, 114, 115, 116, 0, 117, 2])
theorem gx_166 : Sg 108 12353 sx_166 := Sg.set (k := 103) (s := (0, 10, [2, 114, 115, 116, 0, 2, 2])) (s' := (0, 10, [2, 114, 115, 116, 0, 117, 2])) gx_165 ox_165_103 rfl (by decide +kernel) (by decide)
def sx_167 : List Sh := sx_166 ++ [(1, 2048, [])]
theorem gx_167 : Sg 109 14401 sx_167 := Sg.push (s := (1, 2048, [])) gx_166 (by decide +kernel) (by decide)
theorem ox_167_103 : sx_167[103]? = some (0, 10, [2, 114, 115, 116, 0, 117, 2]) := by decide +kernel
def sx_168 : List Sh := sx_167.set 103 (0, 10, [2, 114, 115, 116, 0, 117, 118])
theorem gx_168 : Sg 109 14401 sx_168 := Sg.set (k := 103) (s := (0, 10, [2, 114, 115, 116, 0, 117, 2])) (s' := (0, 10, [2, 114, 115, 116, 0, 117, 118])) gx_167 ox_167_103 rfl (by decide +kernel) (by decide)
theorem ox_168_103 : sx_168[103]? = some (0, 10, [2, 114, 115, 116, 0, 117, 118]) := by decide +kernel
def sx_169 : List Sh := sx_168.set 103 (0, 10, [25, 114, 115, 116, 0, 117, 118])
theorem gx_169 : Sg 109 14401 sx_169 := Sg.set (k := 103) (s := (0, 10, [2, 114, 115, 116, 0, 117, 118])) (s' := (0, 10, [25, 114, 115, 116, 0, 117, 118])) gx_168 ox_168_103 rfl (by decide +kernel) (by decide)
theorem ox_169_103 : sx_169[103]? = some (0, 10, [25, 114, 115, 116, 0, 117, 118]) := by decide +kernel
theorem ox_169_104 : sx_169[104]? = some (1, 16, []) := by decide +kernel
set_option maxHeartbeats 4000000 in
set_option maxRecDepth 100000 in
theorem cX10_init_103 : Call 1 5 2601 mX10_init [(2, 103), (2, 15)] sx_158 V2 (PC sx_169 V3) := by
  refine Call.introG gx_158 (by decide +kernel) (Nat.le_of_ble_eq_true rfl) (fun ρ hR => ?_)
  refine s_aload_n dX10_init_0 0 rfl rfl (z_obj 103 dX10_init_1 oi_X10 rfl (by decide) rfl (s_aload_n dX10_init_4 0 rfl rfl (s_bipush dX10_init_5 (by decide) (z_newI (q := 104) 16 dX10_init_7 gx_158 rfl rfl rfl (Nat.le_of_ble_eq_true rfl) ((V2_hi (by decide) (by decide)).trans (V0_nz (by decide))) (V2_h (by decide)) ⟨Nat.le_of_ble_eq_true rfl, Nat.le_of_ble_eq_true rfl⟩ (sh' := sx_159) rfl (s_putRF 103 1 104 114 dX10_init_9 cf_X10 ff_X10_9 rfl rfl (by decide) (by decide) ox_159_103 (by decide) rfl rfl rfl (fun _ => ⟨rfl, rfl⟩) (sh' := sx_160) rfl (s_aload_n dX10_init_12 0 rfl rfl (s_bipush dX10_init_13 (by decide) ?_)))))))
  refine z_newI (q := 105) 16 dX10_init_15 gx_160 rfl rfl rfl (Nat.le_of_ble_eq_true rfl) ((V2_hi (by decide) (by decide)).trans (V0_nz (by decide))) (V2_h (by decide)) ⟨Nat.le_of_ble_eq_true rfl, Nat.le_of_ble_eq_true rfl⟩ (sh' := sx_161) rfl (s_putRF 103 2 105 115 dX10_init_17 cf_X10 ff_X10_15 rfl rfl (by decide) (by decide) ox_161_103 (by decide) rfl rfl rfl (fun _ => ⟨rfl, rfl⟩) (sh' := sx_162) rfl (s_aload_n dX10_init_20 0 rfl rfl (s_bipush dX10_init_21 (by decide) (z_newI (q := 106) 9 dX10_init_23 gx_162 rfl rfl rfl (Nat.le_of_ble_eq_true rfl) ((V2_hi (by decide) (by decide)).trans (V0_nz (by decide))) (V2_h (by decide)) ⟨Nat.le_of_ble_eq_true rfl, Nat.le_of_ble_eq_true rfl⟩ (sh' := sx_163) rfl (s_putRF 103 3 106 116 dX10_init_25 cf_X10 ff_X10_18 rfl rfl (by decide) (by decide) ox_163_103 (by decide) rfl rfl rfl (fun _ => ⟨rfl, rfl⟩) (sh' := sx_164) rfl (s_aload_n dX10_init_28 0 rfl rfl (s_sipush dX10_init_29 (by decide) ?_)))))))
  refine z_newI (q := 107) 512 dX10_init_32 gx_164 rfl rfl rfl (Nat.le_of_ble_eq_true rfl) ((V2_hi (by decide) (by decide)).trans (V0_nz (by decide))) (V2_h (by decide)) ⟨Nat.le_of_ble_eq_true rfl, Nat.le_of_ble_eq_true rfl⟩ (sh' := sx_165) rfl (s_putRF 103 5 107 117 dX10_init_34 cf_X10 ff_X10_21 rfl rfl (by decide) (by decide) ox_165_103 (by decide) rfl rfl rfl (fun _ => ⟨rfl, rfl⟩) (sh' := sx_166) rfl (s_aload_n dX10_init_37 0 rfl rfl (s_sipush dX10_init_38 (by decide) (z_newI (q := 108) 2048 dX10_init_41 gx_166 rfl rfl rfl (Nat.le_of_ble_eq_true rfl) ((V2_hi (by decide) (by decide)).trans (V0_nz (by decide))) (V2_h (by decide)) ⟨Nat.le_of_ble_eq_true rfl, Nat.le_of_ble_eq_true rfl⟩ (sh' := sx_167) rfl (s_putRF 103 6 108 118 dX10_init_43 cf_X10 ff_X10_24 rfl rfl (by decide) (by decide) ox_167_103 (by decide) rfl rfl rfl (fun _ => ⟨rfl, rfl⟩) (sh' := sx_168) rfl (s_aload_n dX10_init_46 0 rfl rfl (s_aload_n dX10_init_47 1 rfl rfl ?_)))))))
  refine s_putRF 103 0 15 25 dX10_init_48 cf_X10 ff_X10_27 rfl rfl (by decide) (by decide) ox_168_103 (by decide) rfl rfl rfl (fun _ => ⟨rfl, rfl⟩) (sh' := sx_169) rfl (s_iconst dX10_init_51 (by decide) (s_istore_n (ls' := [(0, (2, 103)), (1, (2, 15)), (2, (0, 0))]) dX10_init_52 (Nat.le_of_ble_eq_true rfl) rfl (s_iload_n dX10_init_53 2 rfl (s_bipush dX10_init_54 (by decide) (s_icmp_ge 72 dX10_init_56 (by decide) (kt := fun c => absurd c (by decide)) (kf := fun _ => s_aload_n dX10_init_59 0 rfl rfl (s_getfieldC (q := 104) 103 1 114 dX10_init_60 cf_X10 ff_X10_9 rfl ox_169_103 rfl (by decide) rfl (by rw [gx_169.1]; decide) ?_)))))))
  refine s_iload_n dX10_init_63 2 rfl (s_iconst dX10_init_64 (by decide) (s_iastore 104 dX10_init_65 rfl ox_169_104 (by decide) (by decide) (s_iinc (z := 1) (ls' := [(0, (2, 103)), (1, (2, 15)), (2, (0, 1))]) dX10_init_66 2 rfl (Nat.le_of_ble_eq_true rfl) (by decide) rfl (s_goto 53 dX10_init_69 (by decide) (s_iload_n dX10_init_53 2 rfl (s_bipush dX10_init_54 (by decide) (s_icmp_ge 72 dX10_init_56 (by decide) (kt := fun c => absurd c (by decide)) (kf := fun _ => ?_))))))))
  refine s_aload_n dX10_init_59 0 rfl rfl (s_getfieldC (q := 104) 103 1 114 dX10_init_60 cf_X10 ff_X10_9 rfl ox_169_103 rfl (by decide) rfl (by rw [gx_169.1]; decide) (s_iload_n dX10_init_63 2 rfl (s_iconst dX10_init_64 (by decide) (s_iastore 104 dX10_init_65 rfl ox_169_104 (by decide) (by decide) (s_iinc (z := 2) (ls' := [(0, (2, 103)), (1, (2, 15)), (2, (0, 2))]) dX10_init_66 2 rfl (Nat.le_of_ble_eq_true rfl) (by decide) rfl (s_goto 53 dX10_init_69 (by decide) (s_iload_n dX10_init_53 2 rfl ?_)))))))
  refine s_bipush dX10_init_54 (by decide) (s_icmp_ge 72 dX10_init_56 (by decide) (kt := fun c => absurd c (by decide)) (kf := fun _ => s_aload_n dX10_init_59 0 rfl rfl (s_getfieldC (q := 104) 103 1 114 dX10_init_60 cf_X10 ff_X10_9 rfl ox_169_103 rfl (by decide) rfl (by rw [gx_169.1]; decide) (s_iload_n dX10_init_63 2 rfl (s_iconst dX10_init_64 (by decide) (s_iastore 104 dX10_init_65 rfl ox_169_104 (by decide) (by decide) (s_iinc (z := 3) (ls' := [(0, (2, 103)), (1, (2, 15)), (2, (0, 3))]) dX10_init_66 2 rfl (Nat.le_of_ble_eq_true rfl) (by decide) rfl ?_)))))))
  refine s_goto 53 dX10_init_69 (by decide) (s_iload_n dX10_init_53 2 rfl (s_bipush dX10_init_54 (by decide) (s_icmp_ge 72 dX10_init_56 (by decide) (kt := fun c => absurd c (by decide)) (kf := fun _ => s_aload_n dX10_init_59 0 rfl rfl (s_getfieldC (q := 104) 103 1 114 dX10_init_60 cf_X10 ff_X10_9 rfl ox_169_103 rfl (by decide) rfl (by rw [gx_169.1]; decide) (s_iload_n dX10_init_63 2 rfl (s_iconst dX10_init_64 (by decide) ?_)))))))
  refine s_iastore 104 dX10_init_65 rfl ox_169_104 (by decide) (by decide) (s_iinc (z := 4) (ls' := [(0, (2, 103)), (1, (2, 15)), (2, (0, 4))]) dX10_init_66 2 rfl (Nat.le_of_ble_eq_true rfl) (by decide) rfl (s_goto 53 dX10_init_69 (by decide) (s_iload_n dX10_init_53 2 rfl (s_bipush dX10_init_54 (by decide) (s_icmp_ge 72 dX10_init_56 (by decide) (kt := fun c => absurd c (by decide)) (kf := fun _ => s_aload_n dX10_init_59 0 rfl rfl (s_getfieldC (q := 104) 103 1 114 dX10_init_60 cf_X10 ff_X10_9 rfl ox_169_103 rfl (by decide) rfl (by rw [gx_169.1]; decide) ?_)))))))
  refine s_iload_n dX10_init_63 2 rfl (s_iconst dX10_init_64 (by decide) (s_iastore 104 dX10_init_65 rfl ox_169_104 (by decide) (by decide) (s_iinc (z := 5) (ls' := [(0, (2, 103)), (1, (2, 15)), (2, (0, 5))]) dX10_init_66 2 rfl (Nat.le_of_ble_eq_true rfl) (by decide) rfl (s_goto 53 dX10_init_69 (by decide) (s_iload_n dX10_init_53 2 rfl (s_bipush dX10_init_54 (by decide) (s_icmp_ge 72 dX10_init_56 (by decide) (kt := fun c => absurd c (by decide)) (kf := fun _ => ?_))))))))
  refine s_aload_n dX10_init_59 0 rfl rfl (s_getfieldC (q := 104) 103 1 114 dX10_init_60 cf_X10 ff_X10_9 rfl ox_169_103 rfl (by decide) rfl (by rw [gx_169.1]; decide) (s_iload_n dX10_init_63 2 rfl (s_iconst dX10_init_64 (by decide) (s_iastore 104 dX10_init_65 rfl ox_169_104 (by decide) (by decide) (s_iinc (z := 6) (ls' := [(0, (2, 103)), (1, (2, 15)), (2, (0, 6))]) dX10_init_66 2 rfl (Nat.le_of_ble_eq_true rfl) (by decide) rfl (s_goto 53 dX10_init_69 (by decide) (s_iload_n dX10_init_53 2 rfl ?_)))))))
  refine s_bipush dX10_init_54 (by decide) (s_icmp_ge 72 dX10_init_56 (by decide) (kt := fun c => absurd c (by decide)) (kf := fun _ => s_aload_n dX10_init_59 0 rfl rfl (s_getfieldC (q := 104) 103 1 114 dX10_init_60 cf_X10 ff_X10_9 rfl ox_169_103 rfl (by decide) rfl (by rw [gx_169.1]; decide) (s_iload_n dX10_init_63 2 rfl (s_iconst dX10_init_64 (by decide) (s_iastore 104 dX10_init_65 rfl ox_169_104 (by decide) (by decide) (s_iinc (z := 7) (ls' := [(0, (2, 103)), (1, (2, 15)), (2, (0, 7))]) dX10_init_66 2 rfl (Nat.le_of_ble_eq_true rfl) (by decide) rfl ?_)))))))
  refine s_goto 53 dX10_init_69 (by decide) (s_iload_n dX10_init_53 2 rfl (s_bipush dX10_init_54 (by decide) (s_icmp_ge 72 dX10_init_56 (by decide) (kt := fun c => absurd c (by decide)) (kf := fun _ => s_aload_n dX10_init_59 0 rfl rfl (s_getfieldC (q := 104) 103 1 114 dX10_init_60 cf_X10 ff_X10_9 rfl ox_169_103 rfl (by decide) rfl (by rw [gx_169.1]; decide) (s_iload_n dX10_init_63 2 rfl (s_iconst dX10_init_64 (by decide) ?_)))))))
  refine s_iastore 104 dX10_init_65 rfl ox_169_104 (by decide) (by decide) (s_iinc (z := 8) (ls' := [(0, (2, 103)), (1, (2, 15)), (2, (0, 8))]) dX10_init_66 2 rfl (Nat.le_of_ble_eq_true rfl) (by decide) rfl (s_goto 53 dX10_init_69 (by decide) (s_iload_n dX10_init_53 2 rfl (s_bipush dX10_init_54 (by decide) (s_icmp_ge 72 dX10_init_56 (by decide) (kt := fun c => absurd c (by decide)) (kf := fun _ => s_aload_n dX10_init_59 0 rfl rfl (s_getfieldC (q := 104) 103 1 114 dX10_init_60 cf_X10 ff_X10_9 rfl ox_169_103 rfl (by decide) rfl (by rw [gx_169.1]; decide) ?_)))))))
  refine s_iload_n dX10_init_63 2 rfl (s_iconst dX10_init_64 (by decide) (s_iastore 104 dX10_init_65 rfl ox_169_104 (by decide) (by decide) (s_iinc (z := 9) (ls' := [(0, (2, 103)), (1, (2, 15)), (2, (0, 9))]) dX10_init_66 2 rfl (Nat.le_of_ble_eq_true rfl) (by decide) rfl (s_goto 53 dX10_init_69 (by decide) (s_iload_n dX10_init_53 2 rfl (s_bipush dX10_init_54 (by decide) (s_icmp_ge 72 dX10_init_56 (by decide) (kt := fun c => absurd c (by decide)) (kf := fun _ => ?_))))))))
  refine s_aload_n dX10_init_59 0 rfl rfl (s_getfieldC (q := 104) 103 1 114 dX10_init_60 cf_X10 ff_X10_9 rfl ox_169_103 rfl (by decide) rfl (by rw [gx_169.1]; decide) (s_iload_n dX10_init_63 2 rfl (s_iconst dX10_init_64 (by decide) (s_iastore 104 dX10_init_65 rfl ox_169_104 (by decide) (by decide) (s_iinc (z := 10) (ls' := [(0, (2, 103)), (1, (2, 15)), (2, (0, 10))]) dX10_init_66 2 rfl (Nat.le_of_ble_eq_true rfl) (by decide) rfl (s_goto 53 dX10_init_69 (by decide) (s_iload_n dX10_init_53 2 rfl ?_)))))))
  refine s_bipush dX10_init_54 (by decide) (s_icmp_ge 72 dX10_init_56 (by decide) (kt := fun c => absurd c (by decide)) (kf := fun _ => s_aload_n dX10_init_59 0 rfl rfl (s_getfieldC (q := 104) 103 1 114 dX10_init_60 cf_X10 ff_X10_9 rfl ox_169_103 rfl (by decide) rfl (by rw [gx_169.1]; decide) (s_iload_n dX10_init_63 2 rfl (s_iconst dX10_init_64 (by decide) (s_iastore 104 dX10_init_65 rfl ox_169_104 (by decide) (by decide) (s_iinc (z := 11) (ls' := [(0, (2, 103)), (1, (2, 15)), (2, (0, 11))]) dX10_init_66 2 rfl (Nat.le_of_ble_eq_true rfl) (by decide) rfl ?_)))))))
  refine s_goto 53 dX10_init_69 (by decide) (s_iload_n dX10_init_53 2 rfl (s_bipush dX10_init_54 (by decide) (s_icmp_ge 72 dX10_init_56 (by decide) (kt := fun c => absurd c (by decide)) (kf := fun _ => s_aload_n dX10_init_59 0 rfl rfl (s_getfieldC (q := 104) 103 1 114 dX10_init_60 cf_X10 ff_X10_9 rfl ox_169_103 rfl (by decide) rfl (by rw [gx_169.1]; decide) (s_iload_n dX10_init_63 2 rfl (s_iconst dX10_init_64 (by decide) ?_)))))))
  refine s_iastore 104 dX10_init_65 rfl ox_169_104 (by decide) (by decide) (s_iinc (z := 12) (ls' := [(0, (2, 103)), (1, (2, 15)), (2, (0, 12))]) dX10_init_66 2 rfl (Nat.le_of_ble_eq_true rfl) (by decide) rfl (s_goto 53 dX10_init_69 (by decide) (s_iload_n dX10_init_53 2 rfl (s_bipush dX10_init_54 (by decide) (s_icmp_ge 72 dX10_init_56 (by decide) (kt := fun c => absurd c (by decide)) (kf := fun _ => s_aload_n dX10_init_59 0 rfl rfl (s_getfieldC (q := 104) 103 1 114 dX10_init_60 cf_X10 ff_X10_9 rfl ox_169_103 rfl (by decide) rfl (by rw [gx_169.1]; decide) ?_)))))))
  refine s_iload_n dX10_init_63 2 rfl (s_iconst dX10_init_64 (by decide) (s_iastore 104 dX10_init_65 rfl ox_169_104 (by decide) (by decide) (s_iinc (z := 13) (ls' := [(0, (2, 103)), (1, (2, 15)), (2, (0, 13))]) dX10_init_66 2 rfl (Nat.le_of_ble_eq_true rfl) (by decide) rfl (s_goto 53 dX10_init_69 (by decide) (s_iload_n dX10_init_53 2 rfl (s_bipush dX10_init_54 (by decide) (s_icmp_ge 72 dX10_init_56 (by decide) (kt := fun c => absurd c (by decide)) (kf := fun _ => ?_))))))))
  refine s_aload_n dX10_init_59 0 rfl rfl (s_getfieldC (q := 104) 103 1 114 dX10_init_60 cf_X10 ff_X10_9 rfl ox_169_103 rfl (by decide) rfl (by rw [gx_169.1]; decide) (s_iload_n dX10_init_63 2 rfl (s_iconst dX10_init_64 (by decide) (s_iastore 104 dX10_init_65 rfl ox_169_104 (by decide) (by decide) (s_iinc (z := 14) (ls' := [(0, (2, 103)), (1, (2, 15)), (2, (0, 14))]) dX10_init_66 2 rfl (Nat.le_of_ble_eq_true rfl) (by decide) rfl (s_goto 53 dX10_init_69 (by decide) (s_iload_n dX10_init_53 2 rfl ?_)))))))
  refine s_bipush dX10_init_54 (by decide) (s_icmp_ge 72 dX10_init_56 (by decide) (kt := fun c => absurd c (by decide)) (kf := fun _ => s_aload_n dX10_init_59 0 rfl rfl (s_getfieldC (q := 104) 103 1 114 dX10_init_60 cf_X10 ff_X10_9 rfl ox_169_103 rfl (by decide) rfl (by rw [gx_169.1]; decide) (s_iload_n dX10_init_63 2 rfl (s_iconst dX10_init_64 (by decide) (s_iastore 104 dX10_init_65 rfl ox_169_104 (by decide) (by decide) (s_iinc (z := 15) (ls' := [(0, (2, 103)), (1, (2, 15)), (2, (0, 15))]) dX10_init_66 2 rfl (Nat.le_of_ble_eq_true rfl) (by decide) rfl ?_)))))))
  refine s_goto 53 dX10_init_69 (by decide) (s_iload_n dX10_init_53 2 rfl (s_bipush dX10_init_54 (by decide) (s_icmp_ge 72 dX10_init_56 (by decide) (kt := fun c => absurd c (by decide)) (kf := fun _ => s_aload_n dX10_init_59 0 rfl rfl (s_getfieldC (q := 104) 103 1 114 dX10_init_60 cf_X10 ff_X10_9 rfl ox_169_103 rfl (by decide) rfl (by rw [gx_169.1]; decide) (s_iload_n dX10_init_63 2 rfl (s_iconst dX10_init_64 (by decide) ?_)))))))
  refine s_iastore 104 dX10_init_65 rfl ox_169_104 (by decide) (by decide) (s_iinc (z := 16) (ls' := [(0, (2, 103)), (1, (2, 15)), (2, (0, 16))]) dX10_init_66 2 rfl (Nat.le_of_ble_eq_true rfl) (by decide) rfl (s_goto 53 dX10_init_69 (by decide) (s_iload_n dX10_init_53 2 rfl (s_bipush dX10_init_54 (by decide) (s_icmp_ge 72 dX10_init_56 (by decide) (kf := fun c => absurd (show (16 : Int) ≤ 16 by decide) c) (kt := fun _ => z_ret dX10_init_72 hR rfl gx_158 gx_169 rfl rfl))))))
theorem ox_169_0 : sx_169[0]? = some (0, 11, [11, 25, 40, 45, 51, 69, 98, 2, 2, 2, 0]) := by decide +kernel
def sx_170 : List Sh := sx_169.set 0 (0, 11, [11, 25, 40, 45, 51, 69, 98, 113, 2, 2, 0])
theorem gx_170 : Sg 109 14401 sx_170 := Sg.set (k := 0) (s := (0, 11, [11, 25, 40, 45, 51, 69, 98, 2, 2, 2, 0])) (s' := (0, 11, [11, 25, 40, 45, 51, 69, 98, 113, 2, 2, 0])) gx_169 ox_169_0 rfl (by decide +kernel) (by decide)
def sx_171 : List Sh := sx_170 ++ [(0, 1, [2, 2, 2, 2, 2, 2, 0])]
theorem gx_171 : Sg 110 14408 sx_171 := Sg.push (s := (0, 1, [2, 2, 2, 2, 2, 2, 0])) gx_170 (by decide +kernel) (by decide)
theorem ox_171_0 : sx_171[0]? = some (0, 11, [11, 25, 40, 45, 51, 69, 98, 113, 2, 2, 0]) := by decide +kernel
def sx_172 : List Sh := shM sx_171 20 20
theorem gx_172 : Sg 131 14828 sx_172 := Sg.mna (N := 20) (K := 20) gx_171
theorem ox_172_109 : sx_172[109]? = some (0, 1, [2, 2, 2, 2, 2, 2, 0]) := by decide +kernel
def sx_173 : List Sh := sx_172.set 109 (0, 1, [2, 120, 2, 2, 2, 2, 0])
theorem gx_173 : Sg 131 14828 sx_173 := Sg.set (k := 109) (s := (0, 1, [2, 2, 2, 2, 2, 2, 0])) (s' := (0, 1, [2, 120, 2, 2, 2, 2, 0])) gx_172 ox_172_109 rfl (by decide +kernel) (by decide)
def sx_174 : List Sh := sx_173 ++ [(1, 4, [])]
theorem gx_174 : Sg 132 14832 sx_174 := Sg.push (s := (1, 4, [])) gx_173 (by decide +kernel) (by decide)
theorem ox_174_109 : sx_174[109]? = some (0, 1, [2, 120, 2, 2, 2, 2, 0]) := by decide +kernel
def sx_175 : List Sh := sx_174.set 109 (0, 1, [2, 120, 141, 2, 2, 2, 0])
theorem gx_175 : Sg 132 14832 sx_175 := Sg.set (k := 109) (s := (0, 1, [2, 120, 2, 2, 2, 2, 0])) (s' := (0, 1, [2, 120, 141, 2, 2, 2, 0])) gx_174 ox_174_109 rfl (by decide +kernel) (by decide)
def sx_176 : List Sh := sx_175 ++ [(3, 20, [])]
theorem gx_176 : Sg 133 14852 sx_176 := Sg.push (s := (3, 20, [])) gx_175 (by decide +kernel) (by decide)
theorem ox_176_109 : sx_176[109]? = some (0, 1, [2, 120, 141, 2, 2, 2, 0]) := by decide +kernel
def sx_177 : List Sh := sx_176.set 109 (0, 1, [2, 120, 141, 142, 2, 2, 0])
theorem gx_177 : Sg 133 14852 sx_177 := Sg.set (k := 109) (s := (0, 1, [2, 120, 141, 2, 2, 2, 0])) (s' := (0, 1, [2, 120, 141, 142, 2, 2, 0])) gx_176 ox_176_109 rfl (by decide +kernel) (by decide)
def sx_178 : List Sh := sx_177 ++ [(3, 20, [])]
theorem gx_178 : Sg 134 14872 sx_178 := Sg.push (s := (3, 20, [])) gx_177 (by decide +kernel) (by decide)
theorem ox_178_109 : sx_178[109]? = some (0, 1, [2, 120, 141, 142, 2, 2, 0]) := by decide +kernel
def sx_179 : List Sh := sx_178.set 109 (0, 1, [2, 120, 141, 142, 143, 2, 0])
theorem gx_179 : Sg 134 14872 sx_179 := Sg.set (k := 109) (s := (0, 1, [2, 120, 141, 142, 2, 2, 0])) (s' := (0, 1, [2, 120, 141, 142, 143, 2, 0])) gx_178 ox_178_109 rfl (by decide +kernel) (by decide)
def sx_180 : List Sh := sx_179 ++ [(3, 20, [])]
theorem gx_180 : Sg 135 14892 sx_180 := Sg.push (s := (3, 20, [])) gx_179 (by decide +kernel) (by decide)
theorem ox_180_109 : sx_180[109]? = some (0, 1, [2, 120, 141, 142, 143, 2, 0]) := by decide +kernel
def sx_181 : List Sh := sx_180.set 109 (0, 1, [2, 120, 141, 142, 143, 144, 0])
theorem gx_181 : Sg 135 14892 sx_181 := Sg.set (k := 109) (s := (0, 1, [2, 120, 141, 142, 143, 2, 0])) (s' := (0, 1, [2, 120, 141, 142, 143, 144, 0])) gx_180 ox_180_109 rfl (by decide +kernel) (by decide)
theorem ox_181_109 : sx_181[109]? = some (0, 1, [2, 120, 141, 142, 143, 144, 0]) := by decide +kernel
def sx_182 : List Sh := sx_181.set 109 (0, 1, [25, 120, 141, 142, 143, 144, 0])
theorem gx_182 : Sg 135 14892 sx_182 := Sg.set (k := 109) (s := (0, 1, [2, 120, 141, 142, 143, 144, 0])) (s' := (0, 1, [25, 120, 141, 142, 143, 144, 0])) gx_181 ox_181_109 rfl (by decide +kernel) (by decide)
set_option maxHeartbeats 4000000 in
set_option maxRecDepth 100000 in
theorem cX1_init_109 : Call 1 25 484 mX1_init [(2, 109), (2, 15)] sx_171 V3 (PC sx_182 V3) := by
  refine Call.introG gx_171 (by decide +kernel) (Nat.le_of_ble_eq_true rfl) (fun ρ hR => ?_)
  refine s_aload_n dX1_init_0 0 rfl rfl (z_obj 109 dX1_init_1 oi_X1 rfl (by decide) rfl (s_aload_n dX1_init_4 0 rfl rfl (s_bipush dX1_init_5 (by decide) (s_bipush dX1_init_7 (by decide) (z_mna (q := 110) 20 20 dX1_init_9 gx_171 ck_X1_9 rfl rfl rfl (by decide) (fun k h1 h2 => ((V3_hi (by omega) (by omega) (by omega)).trans (V0_nz ⟨by omega, by omega, by omega, by omega, by omega, by omega, by omega, by omega, by omega, by omega, by omega, by omega, by omega, by omega, by omega, by omega, by omega⟩))) (V3_h (by decide)) ⟨Nat.le_of_ble_eq_true rfl, Nat.le_of_ble_eq_true rfl⟩ (sh' := sx_172) rfl (s_putRF 109 1 110 120 dX1_init_13 cf_X1 ff_X1_11 rfl rfl (by decide) (by decide) ox_172_109 (by decide) rfl rfl rfl (fun _ => ⟨rfl, rfl⟩) (sh' := sx_173) rfl (s_aload_n dX1_init_16 0 rfl rfl ?_)))))))
  refine s_iconst dX1_init_17 (by decide) (z_newI (q := 131) 4 dX1_init_18 gx_173 rfl rfl rfl (Nat.le_of_ble_eq_true rfl) ((V3_hi (by decide) (by decide) (by decide)).trans (V0_nz (by decide))) (V3_h (by decide)) ⟨Nat.le_of_ble_eq_true rfl, Nat.le_of_ble_eq_true rfl⟩ (sh' := sx_174) rfl (s_putRF 109 2 131 141 dX1_init_20 cf_X1 ff_X1_16 rfl rfl (by decide) (by decide) ox_174_109 (by decide) rfl rfl rfl (fun _ => ⟨rfl, rfl⟩) (sh' := sx_175) rfl (s_aload_n dX1_init_23 0 rfl rfl (s_bipush dX1_init_24 (by decide) (z_newJ (q := 132) 20 dX1_init_26 gx_175 rfl rfl rfl (Nat.le_of_ble_eq_true rfl) ((V3_hi (by decide) (by decide) (by decide)).trans (V0_nz (by decide))) (V3_h (by decide)) ⟨Nat.le_of_ble_eq_true rfl, Nat.le_of_ble_eq_true rfl⟩ (sh' := sx_176) rfl (s_putRF 109 3 132 142 dX1_init_28 cf_X1 ff_X1_20 rfl rfl (by decide) (by decide) ox_176_109 (by decide) rfl rfl rfl (fun _ => ⟨rfl, rfl⟩) (sh' := sx_177) rfl (s_aload_n dX1_init_31 0 rfl rfl ?_)))))))
  refine s_bipush dX1_init_32 (by decide) (z_newJ (q := 133) 20 dX1_init_34 gx_177 rfl rfl rfl (Nat.le_of_ble_eq_true rfl) ((V3_hi (by decide) (by decide) (by decide)).trans (V0_nz (by decide))) (V3_h (by decide)) ⟨Nat.le_of_ble_eq_true rfl, Nat.le_of_ble_eq_true rfl⟩ (sh' := sx_178) rfl (s_putRF 109 4 133 143 dX1_init_36 cf_X1 ff_X1_24 rfl rfl (by decide) (by decide) ox_178_109 (by decide) rfl rfl rfl (fun _ => ⟨rfl, rfl⟩) (sh' := sx_179) rfl (s_aload_n dX1_init_39 0 rfl rfl (s_bipush dX1_init_40 (by decide) (z_newJ (q := 134) 20 dX1_init_42 gx_179 rfl rfl rfl (Nat.le_of_ble_eq_true rfl) ((V3_hi (by decide) (by decide) (by decide)).trans (V0_nz (by decide))) (V3_h (by decide)) ⟨Nat.le_of_ble_eq_true rfl, Nat.le_of_ble_eq_true rfl⟩ (sh' := sx_180) rfl (s_putRF 109 5 134 144 dX1_init_44 cf_X1 ff_X1_27 rfl rfl (by decide) (by decide) ox_180_109 (by decide) rfl rfl rfl (fun _ => ⟨rfl, rfl⟩) (sh' := sx_181) rfl (s_aload_n dX1_init_47 0 rfl rfl ?_)))))))
  refine s_aload_n dX1_init_48 1 rfl rfl (s_putRF 109 0 15 25 dX1_init_49 cf_X1 ff_X1_30 rfl rfl (by decide) (by decide) ox_181_109 (by decide) rfl rfl rfl (fun _ => ⟨rfl, rfl⟩) (sh' := sx_182) rfl (z_ret dX1_init_52 hR rfl gx_171 gx_182 rfl rfl))
theorem ox_182_0 : sx_182[0]? = some (0, 11, [11, 25, 40, 45, 51, 69, 98, 113, 2, 2, 0]) := by decide +kernel
def sx_183 : List Sh := sx_182.set 0 (0, 11, [11, 25, 40, 45, 51, 69, 98, 113, 119, 2, 0])
theorem gx_183 : Sg 135 14892 sx_183 := Sg.set (k := 0) (s := (0, 11, [11, 25, 40, 45, 51, 69, 98, 113, 2, 2, 0])) (s' := (0, 11, [11, 25, 40, 45, 51, 69, 98, 113, 119, 2, 0])) gx_182 ox_182_0 rfl (by decide +kernel) (by decide)
def sx_184 : List Sh := sx_183 ++ [(0, 9, [2, 2, 0, 0, 0, 0])]
theorem gx_184 : Sg 136 14898 sx_184 := Sg.push (s := (0, 9, [2, 2, 0, 0, 0, 0])) gx_183 (by decide +kernel) (by decide)
def sx_185 : List Sh := shM sx_184 3 9
theorem gx_185 : Sg 140 14928 sx_185 := Sg.mna (N := 3) (K := 9) gx_184
theorem ox_185_135 : sx_185[135]? = some (0, 9, [2, 2, 0, 0, 0, 0]) := by decide +kernel
def sx_186 : List Sh := sx_185.set 135 (0, 9, [146, 2, 0, 0, 0, 0])
theorem gx_186 : Sg 140 14928 sx_186 := Sg.set (k := 135) (s := (0, 9, [2, 2, 0, 0, 0, 0])) (s' := (0, 9, [146, 2, 0, 0, 0, 0])) gx_185 ox_185_135 rfl (by decide +kernel) (by decide)
def sx_187 : List Sh := sx_186 ++ [(1, 3, [])]
theorem gx_187 : Sg 141 14931 sx_187 := Sg.push (s := (1, 3, [])) gx_186 (by decide +kernel) (by decide)
theorem ox_187_135 : sx_187[135]? = some (0, 9, [146, 2, 0, 0, 0, 0]) := by decide +kernel
def sx_188 : List Sh := sx_187.set 135 (0, 9, [146, 150, 0, 0, 0, 0])
theorem gx_188 : Sg 141 14931 sx_188 := Sg.set (k := 135) (s := (0, 9, [146, 2, 0, 0, 0, 0])) (s' := (0, 9, [146, 150, 0, 0, 0, 0])) gx_187 ox_187_135 rfl (by decide +kernel) (by decide)
set_option maxHeartbeats 4000000 in
set_option maxRecDepth 100000 in
theorem cX9_init_135 : Call 1 5 33 mX9_init [(2, 135)] sx_184 V3 (PC sx_188 V3) := by
  refine Call.introG gx_184 (by decide +kernel) (Nat.le_of_ble_eq_true rfl) (fun ρ hR => ?_)
  refine s_aload_n dX9_init_0 0 rfl rfl (z_obj 135 dX9_init_1 oi_X9 rfl (by decide) rfl (s_aload_n dX9_init_4 0 rfl rfl (s_iconst dX9_init_5 (by decide) (s_bipush dX9_init_6 (by decide) (z_mna (q := 136) 3 9 dX9_init_8 gx_184 ck_X9_9 rfl rfl rfl (by decide) (fun k h1 h2 => ((V3_hi (by omega) (by omega) (by omega)).trans (V0_nz ⟨by omega, by omega, by omega, by omega, by omega, by omega, by omega, by omega, by omega, by omega, by omega, by omega, by omega, by omega, by omega, by omega, by omega⟩))) (V3_h (by decide)) ⟨Nat.le_of_ble_eq_true rfl, Nat.le_of_ble_eq_true rfl⟩ (sh' := sx_185) rfl (s_putRF 135 0 136 146 dX9_init_12 cf_X9 ff_X9_11 rfl rfl (by decide) (by decide) ox_185_135 (by decide) rfl rfl rfl (fun _ => ⟨rfl, rfl⟩) (sh' := sx_186) rfl (s_aload_n dX9_init_15 0 rfl rfl ?_)))))))
  refine s_iconst dX9_init_16 (by decide) (z_newI (q := 140) 3 dX9_init_17 gx_186 rfl rfl rfl (Nat.le_of_ble_eq_true rfl) ((V3_hi (by decide) (by decide) (by decide)).trans (V0_nz (by decide))) (V3_h (by decide)) ⟨Nat.le_of_ble_eq_true rfl, Nat.le_of_ble_eq_true rfl⟩ (sh' := sx_187) rfl (s_putRF 135 1 140 150 dX9_init_19 cf_X9 ff_X9_16 rfl rfl (by decide) (by decide) ox_187_135 (by decide) rfl rfl rfl (fun _ => ⟨rfl, rfl⟩) (sh' := sx_188) rfl (z_ret dX9_init_22 hR rfl gx_184 gx_188 rfl rfl)))
theorem ox_188_0 : sx_188[0]? = some (0, 11, [11, 25, 40, 45, 51, 69, 98, 113, 119, 2, 0]) := by decide +kernel
def sx_189 : List Sh := sx_188.set 0 (0, 11, [11, 25, 40, 45, 51, 69, 98, 113, 119, 145, 0])
theorem gx_189 : Sg 141 14931 sx_189 := Sg.set (k := 0) (s := (0, 11, [11, 25, 40, 45, 51, 69, 98, 113, 119, 2, 0])) (s' := (0, 11, [11, 25, 40, 45, 51, 69, 98, 113, 119, 145, 0])) gx_188 ox_188_0 rfl (by decide +kernel) (by decide)
theorem ox_189_0 : sx_189[0]? = some (0, 11, [11, 25, 40, 45, 51, 69, 98, 113, 119, 145, 0]) := by decide +kernel
set_option maxHeartbeats 4000000 in
set_option maxRecDepth 100000 in
theorem cX11_init_0 : Call 3 140 14920 mX11_init [(2, 0)] sx_1 V0 (PC sx_189 V4) := by
  refine Call.introG gx_1 (by decide +kernel) (Nat.le_of_ble_eq_true rfl) (fun ρ hR => ?_)
  refine s_aload_n dX11_init_0 0 rfl rfl (z_obj 0 dX11_init_1 oi_X11 rfl (by decide) rfl (s_aload_n dX11_init_4 0 rfl rfl (z_newO (q := 1) [2, 2, 2, 2, 2, 0, 2, 2, 2, 0, 2, 2, 2, 2, 2, 0] dX11_init_5 gx_1 cf_X5 ck_X11_7 ib_X5 in_X5 rfl rfl bo_X5 V0_1 V0_h ⟨Nat.le_of_ble_eq_true rfl, Nat.le_of_ble_eq_true rfl⟩ (sh' := sx_2) rfl (s_dup dX11_init_8 (show (2 : Nat) ≠ 1 by decide) (z_invIN (as := []) gx_2 dX11_init_9 kv_X5_init ml_X11_9 cX5_init_1 (by decide) 1 rfl (by decide) rfl rfl (by decide) ⟨Nat.le_of_ble_eq_true rfl, Nat.le_of_ble_eq_true rfl⟩ (s_putRF 0 0 1 11 dX11_init_12 cf_X11 ff_X11_10 rfl rfl (by decide) (by decide) ox_28_0 (by decide) rfl rfl rfl (fun _ => ⟨rfl, rfl⟩) (sh' := sx_29) rfl (s_aload_n dX11_init_15 0 rfl rfl ?_)))))))
  refine z_newO (q := 15) [2, 2, 2, 2, 2, 2, 2, 2, 2, 2, 0, 2, 2, 2, 2, 0] dX11_init_16 gx_29 cf_X3 ck_X11_16 ib_X3 in_X3 rfl rfl bo_X3 V0_15 V0_h ⟨Nat.le_of_ble_eq_true rfl, Nat.le_of_ble_eq_true rfl⟩ (sh' := sx_30) rfl (s_dup dX11_init_19 (show (2 : Nat) ≠ 1 by decide) (z_invIN (as := []) gx_30 dX11_init_20 kv_X3_init ml_X11_18 cX3_init_15 (by decide) 15 rfl (by decide) rfl rfl (by decide) ⟨Nat.le_of_ble_eq_true rfl, Nat.le_of_ble_eq_true rfl⟩ (s_putRF 0 1 15 25 dX11_init_23 cf_X11 ff_X11_19 rfl rfl (by decide) (by decide) ox_58_0 (by decide) rfl rfl rfl (fun _ => ⟨rfl, rfl⟩) (sh' := sx_59) rfl (s_aload_n dX11_init_26 0 rfl rfl (z_newO (q := 30) [2, 0, 2, 2, 2, 0] dX11_init_27 gx_59 cf_X8 ck_X11_23 ib_X8 in_X8 rfl rfl bo_X8 V0_30 V0_h ⟨Nat.le_of_ble_eq_true rfl, Nat.le_of_ble_eq_true rfl⟩ (sh' := sx_60) rfl (s_dup dX11_init_30 (show (2 : Nat) ≠ 1 by decide) (z_invIN (as := []) gx_60 dX11_init_31 kv_X8_init ml_X11_25 cX8_init_30 (by decide) 30 rfl (by decide) rfl rfl (by decide) ⟨Nat.le_of_ble_eq_true rfl, Nat.le_of_ble_eq_true rfl⟩ ?_)))))))
  refine s_putRF 0 2 30 40 dX11_init_34 cf_X11 ff_X11_26 rfl rfl (by decide) (by decide) ox_68_0 (by decide) rfl rfl rfl (fun _ => ⟨rfl, rfl⟩) (sh' := sx_69) rfl (s_aload_n dX11_init_37 0 rfl rfl (z_newO (q := 35) [2, 0, 2, 0, 0] dX11_init_38 gx_69 cf_X4 ck_X11_30 ib_X4 in_X4 rfl rfl bo_X4 V0_35 V0_h ⟨Nat.le_of_ble_eq_true rfl, Nat.le_of_ble_eq_true rfl⟩ (sh' := sx_70) rfl (s_dup dX11_init_41 (show (2 : Nat) ≠ 1 by decide) (s_aload_n dX11_init_42 0 rfl rfl (s_getfieldC (q := 30) 0 2 40 dX11_init_43 cf_X11 ff_X11_26 rfl ox_70_0 rfl (by decide) rfl (by rw [gx_70.1]; decide) (z_invI (as := [(2, 30)]) gx_70 dX11_init_46 kv_X4_init ml_X11_32 cX4_init_35 (by decide) 35 rfl (by decide) rfl rfl (by decide) ⟨Nat.le_of_ble_eq_true rfl, Nat.le_of_ble_eq_true rfl⟩ (s_putRF 0 3 35 45 dX11_init_49 cf_X11 ff_X11_35 rfl rfl (by decide) (by decide) ox_80_0 (by decide) rfl rfl rfl (fun _ => ⟨rfl, rfl⟩) (sh' := sx_81) rfl ?_)))))))
  refine s_aload_n dX11_init_52 0 rfl rfl (z_newO (q := 41) [2, 2, 2, 2, 0, 0, 0, 0] dX11_init_53 gx_81 cf_X2 ck_X11_39 ib_X2 in_X2 rfl rfl bo_X2 ((V1_hi (by decide)).trans V0_41) V1_h ⟨Nat.le_of_ble_eq_true rfl, Nat.le_of_ble_eq_true rfl⟩ (sh' := sx_82) rfl (s_dup dX11_init_56 (show (2 : Nat) ≠ 1 by decide) (s_aload_n dX11_init_57 0 rfl rfl (s_getfieldC (q := 1) 0 0 11 dX11_init_58 cf_X11 ff_X11_10 rfl ox_82_0 rfl (by decide) rfl (by rw [gx_82.1]; decide) (s_aload_n dX11_init_61 0 rfl rfl (s_getfieldC (q := 15) 0 1 25 dX11_init_62 cf_X11 ff_X11_19 rfl ox_82_0 rfl (by decide) rfl (by rw [gx_82.1]; decide) (z_invI (as := [(2, 1), (2, 15)]) gx_82 dX11_init_65 kv_X2_init ml_X11_41 cX2_init_41 (by decide) 41 rfl (by decide) rfl rfl (by decide) ⟨Nat.le_of_ble_eq_true rfl, Nat.le_of_ble_eq_true rfl⟩ ?_)))))))
  refine s_putRF 0 4 41 51 dX11_init_68 cf_X11 ff_X11_44 rfl rfl (by decide) (by decide) ox_115_0 (by decide) rfl rfl rfl (fun _ => ⟨rfl, rfl⟩) (sh' := sx_116) rfl (s_aload_n dX11_init_71 0 rfl rfl (z_newO (q := 59) [2, 2, 2, 2, 2, 2, 2, 2, 2, 0, 2, 2, 2, 2, 2, 2, 0] dX11_init_72 gx_116 cf_X0 ck_X11_48 ib_X0 in_X0 rfl rfl bo_X0 ((V2_hi (by decide) (by decide)).trans V0_59) (V2_h (by decide)) ⟨Nat.le_of_ble_eq_true rfl, Nat.le_of_ble_eq_true rfl⟩ (sh' := sx_117) rfl (s_dup dX11_init_75 (show (2 : Nat) ≠ 1 by decide) (s_aload_n dX11_init_76 0 rfl rfl (s_getfieldC (q := 1) 0 0 11 dX11_init_77 cf_X11 ff_X11_10 rfl ox_117_0 rfl (by decide) rfl (by rw [gx_117.1]; decide) (s_aload_n dX11_init_80 0 rfl rfl (s_getfieldC (q := 15) 0 1 25 dX11_init_81 cf_X11 ff_X11_19 rfl ox_117_0 rfl (by decide) rfl (by rw [gx_117.1]; decide) ?_)))))))
  refine s_aload_n dX11_init_84 0 rfl rfl (s_getfieldC (q := 41) 0 4 51 dX11_init_85 cf_X11 ff_X11_44 rfl ox_117_0 rfl (by decide) rfl (by rw [gx_117.1]; decide) (z_invI (as := [(2, 1), (2, 15), (2, 41)]) gx_117 dX11_init_88 kv_X0_init ml_X11_50 cX0_init_59 (by decide) 59 rfl (by decide) rfl rfl (by decide) ⟨Nat.le_of_ble_eq_true rfl, Nat.le_of_ble_eq_true rfl⟩ (s_putRF 0 5 59 69 dX11_init_91 cf_X11 ff_X11_53 rfl rfl (by decide) (by decide) ox_144_0 (by decide) rfl rfl rfl (fun _ => ⟨rfl, rfl⟩) (sh' := sx_145) rfl (s_aload_n dX11_init_94 0 rfl rfl (z_newO (q := 88) [2, 2, 0, 2, 2, 2, 0, 0, 0, 0] dX11_init_95 gx_145 cf_X7 ck_X11_57 ib_X7 in_X7 rfl rfl bo_X7 ((V2_hi (by decide) (by decide)).trans V0_88) (V2_h (by decide)) ⟨Nat.le_of_ble_eq_true rfl, Nat.le_of_ble_eq_true rfl⟩ (sh' := sx_146) rfl (s_dup dX11_init_98 (show (2 : Nat) ≠ 1 by decide) (z_invIN (as := []) gx_146 dX11_init_99 kv_X7_init ml_X11_59 cX7_init_88 (by decide) 88 rfl (by decide) rfl rfl (by decide) ⟨Nat.le_of_ble_eq_true rfl, Nat.le_of_ble_eq_true rfl⟩ ?_)))))))
  refine s_putRF 0 6 88 98 dX11_init_102 cf_X11 ff_X11_60 rfl rfl (by decide) (by decide) ox_156_0 (by decide) rfl rfl rfl (fun _ => ⟨rfl, rfl⟩) (sh' := sx_157) rfl (s_aload_n dX11_init_105 0 rfl rfl (z_newO (q := 103) [2, 2, 2, 2, 0, 2, 2] dX11_init_106 gx_157 cf_X10 ck_X11_64 ib_X10 in_X10 rfl rfl bo_X10 ((V2_hi (by decide) (by decide)).trans V0_103) (V2_h (by decide)) ⟨Nat.le_of_ble_eq_true rfl, Nat.le_of_ble_eq_true rfl⟩ (sh' := sx_158) rfl (s_dup dX11_init_109 (show (2 : Nat) ≠ 1 by decide) (s_aload_n dX11_init_110 0 rfl rfl (s_getfieldC (q := 15) 0 1 25 dX11_init_111 cf_X11 ff_X11_19 rfl ox_158_0 rfl (by decide) rfl (by rw [gx_158.1]; decide) (z_invI (as := [(2, 15)]) gx_158 dX11_init_114 kv_X10_init ml_X11_66 cX10_init_103 (by decide) 103 rfl (by decide) rfl rfl (by decide) ⟨Nat.le_of_ble_eq_true rfl, Nat.le_of_ble_eq_true rfl⟩ (s_putRF 0 7 103 113 dX11_init_117 cf_X11 ff_X11_69 rfl rfl (by decide) (by decide) ox_169_0 (by decide) rfl rfl rfl (fun _ => ⟨rfl, rfl⟩) (sh' := sx_170) rfl ?_)))))))
  refine s_aload_n dX11_init_120 0 rfl rfl (z_newO (q := 109) [2, 2, 2, 2, 2, 2, 0] dX11_init_121 gx_170 cf_X1 ck_X11_73 ib_X1 in_X1 rfl rfl bo_X1 ((V3_hi (by decide) (by decide) (by decide)).trans V0_109) (V3_h (by decide)) ⟨Nat.le_of_ble_eq_true rfl, Nat.le_of_ble_eq_true rfl⟩ (sh' := sx_171) rfl (s_dup dX11_init_124 (show (2 : Nat) ≠ 1 by decide) (s_aload_n dX11_init_125 0 rfl rfl (s_getfieldC (q := 15) 0 1 25 dX11_init_126 cf_X11 ff_X11_19 rfl ox_171_0 rfl (by decide) rfl (by rw [gx_171.1]; decide) (z_invI (as := [(2, 15)]) gx_171 dX11_init_129 kv_X1_init ml_X11_75 cX1_init_109 (by decide) 109 rfl (by decide) rfl rfl (by decide) ⟨Nat.le_of_ble_eq_true rfl, Nat.le_of_ble_eq_true rfl⟩ (s_putRF 0 8 109 119 dX11_init_132 cf_X11 ff_X11_76 rfl rfl (by decide) (by decide) ox_182_0 (by decide) rfl rfl rfl (fun _ => ⟨rfl, rfl⟩) (sh' := sx_183) rfl (s_aload_n dX11_init_135 0 rfl rfl ?_)))))))
  refine z_newO (q := 135) [2, 2, 0, 0, 0, 0] dX11_init_136 gx_183 cf_X9 ck_X11_80 ib_X9 in_X9 rfl rfl bo_X9 ((V3_hi (by decide) (by decide) (by decide)).trans V0_135) (V3_h (by decide)) ⟨Nat.le_of_ble_eq_true rfl, Nat.le_of_ble_eq_true rfl⟩ (sh' := sx_184) rfl (s_dup dX11_init_139 (show (2 : Nat) ≠ 1 by decide) (z_invIN (as := []) gx_184 dX11_init_140 kv_X9_init ml_X11_82 cX9_init_135 (by decide) 135 rfl (by decide) rfl rfl (by decide) ⟨Nat.le_of_ble_eq_true rfl, Nat.le_of_ble_eq_true rfl⟩ (s_putRF 0 9 135 145 dX11_init_143 cf_X11 ff_X11_83 rfl rfl (by decide) (by decide) ox_188_0 (by decide) rfl rfl rfl (fun _ => ⟨rfl, rfl⟩) (sh' := sx_189) rfl (s_aload_n dX11_init_146 0 rfl rfl (s_iconst dX11_init_147 (by decide) (s_putfield 0 10 dX11_init_148 cf_X11 ff_X11_87 rfl ox_189_0 rfl rfl rfl (z_ret dX11_init_151 hR rfl gx_1 gx_189 rfl rfl)))))))
