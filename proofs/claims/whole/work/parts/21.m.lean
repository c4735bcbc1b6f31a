def f_X9_in (v : Int64) (low : Int64) (high : Int64) : Int32 := if (lg_cmp v low) < 0 then 0 else if 0 < (lg_cmp v high) then 0 else 1
set_option maxRecDepth 100000 in
theorem c_X9_in {l : Launch} {G : zG} {v : Int64} {low : Int64} {high : Int64} : Ct l G yX9_in cX9_in 6 (Option.some FieldType.boolean) 0 0 [.long v, .long low, .long high] ([]) (pI (f_X9_in v low high) ([])) := by
  refine Ct.of (plainFor_of_name (by decide)) (Nat.le_of_ble_eq_true rfl) (pI.ad rfl) (fun X C E => ?_)
  show Z X G 6 0 0 _ 0 [(0, .long v), (2, .long low), (4, .long high)] []
  refine z_lload_n (pc := 0) C 0 dX9_in_0 rfl ?_
  refine z_lload_n (pc := 1) C 1 dX9_in_1 rfl ?_
  refine z_lcmp (pc := 2) C dX9_in_2 ?_
  refine z_if_lt (pc := 3) 17 C dX9_in_3 (by decide) (fun c_3 => ?_) (fun c_3 => ?_)
  · skip
    refine z_iconst (pc := 17) (v := 0) C dX9_in_17 (by decide) ?_
    exact z_zret (pc := 18) C E dX9_in_18 (by first | rfl | assumption) (pI.mk (by simp only [f_X9_in, if_pos c_3]) rfl)
  · skip
    refine z_lload_n (pc := 6) C 0 dX9_in_6 rfl ?_
    refine z_lload (pc := 7) C 2 dX9_in_7 rfl ?_
    refine z_lcmp (pc := 9) C dX9_in_9 ?_
    refine z_if_gt (pc := 10) 17 C dX9_in_10 (by decide) (fun c_10 => ?_) (fun c_10 => ?_)
    · skip
      refine z_iconst (pc := 17) (v := 0) C dX9_in_17 (by decide) ?_
      exact z_zret (pc := 18) C E dX9_in_18 (by first | rfl | assumption) (pI.mk (by simp only [f_X9_in, if_neg c_3, if_pos c_10]) rfl)
    · skip
      refine z_iconst (pc := 13) (v := 1) C dX9_in_13 (by decide) ?_
      refine z_goto (pc := 14) 18 C dX9_in_14 (by decide) ?_
      exact z_zret (pc := 18) C E dX9_in_18 (by first | rfl | assumption) (pI.mk (by simp only [f_X9_in, if_neg c_3, if_neg c_10]) rfl)
theorem nb_X9_in {v : Int64} {low : Int64} {high : Int64} : narrow .boolean (.int (f_X9_in v low high)) = .int (f_X9_in v low high) := by unfold f_X9_in; (repeat' split) <;> first | rfl

def f_X9_isPicture (t : Int32) : Int32 := f_X9_in t.toInt64 0 2
set_option maxRecDepth 100000 in
theorem c_X9_isPicture {l : Launch} {G : zG} {t : Int32} : Ct l G yX9_isPicture cX9_isPicture 1 (Option.some FieldType.boolean) 1 25 [.int t] ([]) (pI (f_X9_isPicture t) ([])) := by
  refine Ct.of (plainFor_of_name (by decide)) (Nat.le_of_ble_eq_true rfl) (pI.ad rfl) (fun X C E => ?_)
  show Z X G 1 0 0 _ 0 [(0, .int t)] []
  refine z_iload_n (pc := 0) C 0 dX9_isPicture_0 rfl ?_
  refine z_i2l (pc := 1) C dX9_isPicture_1 ?_
  refine z_lconst (pc := 2) (v := 0) C dX9_isPicture_2 (by decide) ?_
  refine z_ldc2_w (pc := 3) C q_874 dX9_isPicture_3 ?_
  refine z_callS (pc := 6) C (c_X9_in) [] z00 mS_X9_in q_875 dX9_isPicture_6 rfl rfl rfl rfl (Nat.le_of_ble_eq_true rfl) (by decide) (pI.stay rfl ?_)
  exact z_zret (pc := 9) C E dX9_isPicture_9 (nb_X9_in) (pI.mk rfl rfl)
theorem nb_X9_isPicture {t : Int32} : narrow .boolean (.int (f_X9_isPicture t)) = .int (f_X9_isPicture t) := by unfold f_X9_isPicture; (repeat' split) <;> first | exact nb_X9_in | rfl

def f_X9_isJoin (t : Int32) : Int32 := f_X9_in t.toInt64 0 255
set_option maxRecDepth 100000 in
theorem c_X9_isJoin {l : Launch} {G : zG} {t : Int32} : Ct l G yX9_isJoin cX9_isJoin 1 (Option.some FieldType.boolean) 1 25 [.int t] ([]) (pI (f_X9_isJoin t) ([])) := by
  refine Ct.of (plainFor_of_name (by decide)) (Nat.le_of_ble_eq_true rfl) (pI.ad rfl) (fun X C E => ?_)
  show Z X G 1 0 0 _ 0 [(0, .int t)] []
  refine z_iload_n (pc := 0) C 0 dX9_isJoin_0 rfl ?_
  refine z_i2l (pc := 1) C dX9_isJoin_1 ?_
  refine z_lconst (pc := 2) (v := 0) C dX9_isJoin_2 (by decide) ?_
  refine z_ldc2_w (pc := 3) C q_907 dX9_isJoin_3 ?_
  refine z_callS (pc := 6) C (c_X9_in) [] z00 mS_X9_in q_875 dX9_isJoin_6 rfl rfl rfl rfl (Nat.le_of_ble_eq_true rfl) (by decide) (pI.stay rfl ?_)
  exact z_zret (pc := 9) C E dX9_isJoin_9 (nb_X9_in) (pI.mk rfl rfl)
theorem nb_X9_isJoin {t : Int32} : narrow .boolean (.int (f_X9_isJoin t)) = .int (f_X9_isJoin t) := by unfold f_X9_isJoin; (repeat' split) <;> first | exact nb_X9_in | rfl

def f_X9_isPlace (x : Int32) (y : Int32) : Int32 := if (f_X9_in x.toInt64 (-64) 63) = 0 then 0 else if (f_X9_in y.toInt64 (-64) 63) = 0 then 0 else 1
set_option maxRecDepth 100000 in
theorem c_X9_isPlace {l : Launch} {G : zG} {x : Int32} {y : Int32} : Ct l G yX9_isPlace cX9_isPlace 2 (Option.some FieldType.boolean) 1 25 [.int x, .int y] ([]) (pI (f_X9_isPlace x y) ([])) := by
  refine Ct.of (plainFor_of_name (by decide)) (Nat.le_of_ble_eq_true rfl) (pI.ad rfl) (fun X C E => ?_)
  show Z X G 2 0 0 _ 0 [(0, .int x), (1, .int y)] []
  refine z_iload_n (pc := 0) C 0 dX9_isPlace_0 rfl ?_
  refine z_i2l (pc := 1) C dX9_isPlace_1 ?_
  refine z_ldc2_w (pc := 2) C q_929 dX9_isPlace_2 ?_
  refine z_ldc2_w (pc := 5) C q_930 dX9_isPlace_5 ?_
  refine z_callS (pc := 8) C (c_X9_in) [] z00 mS_X9_in q_875 dX9_isPlace_8 rfl rfl rfl rfl (Nat.le_of_ble_eq_true rfl) (by decide) (pI.stay rfl ?_)
  refine z_if_eq (pc := 11) 32 C dX9_isPlace_11 (by decide) (fun c_11 => ?_) (fun c_11 => ?_)
  · skip
    refine z_iconst (pc := 32) (v := 0) C dX9_isPlace_32 (by decide) ?_
    exact z_zret (pc := 33) C E dX9_isPlace_33 (by first | rfl | assumption) (pI.mk (by simp only [f_X9_isPlace, if_pos c_11]) rfl)
  · skip
    refine z_iload_n (pc := 14) C 1 dX9_isPlace_14 rfl ?_
    refine z_i2l (pc := 15) C dX9_isPlace_15 ?_
    refine z_ldc2_w (pc := 16) C q_929 dX9_isPlace_16 ?_
    refine z_ldc2_w (pc := 19) C q_930 dX9_isPlace_19 ?_
    refine z_callS (pc := 22) C (c_X9_in) [] z00 mS_X9_in q_875 dX9_isPlace_22 rfl rfl rfl rfl (Nat.le_of_ble_eq_true rfl) (by decide) (pI.stay rfl ?_)
    refine z_if_eq (pc := 25) 32 C dX9_isPlace_25 (by decide) (fun c_25 => ?_) (fun c_25 => ?_)
    · skip
      refine z_iconst (pc := 32) (v := 0) C dX9_isPlace_32 (by decide) ?_
      exact z_zret (pc := 33) C E dX9_isPlace_33 (by first | rfl | assumption) (pI.mk (by simp only [f_X9_isPlace, if_neg c_11, if_pos c_25]) rfl)
    · skip
      refine z_iconst (pc := 28) (v := 1) C dX9_isPlace_28 (by decide) ?_
      refine z_goto (pc := 29) 33 C dX9_isPlace_29 (by decide) ?_
      exact z_zret (pc := 33) C E dX9_isPlace_33 (by first | rfl | assumption) (pI.mk (by simp only [f_X9_isPlace, if_neg c_11, if_neg c_25]) rfl)
theorem nb_X9_isPlace {x : Int32} {y : Int32} : narrow .boolean (.int (f_X9_isPlace x y)) = .int (f_X9_isPlace x y) := by unfold f_X9_isPlace; (repeat' split) <;> first | rfl

def f_X9_isSize (x : Int32) (y : Int32) : Int32 := if (f_X9_in x.toInt64 1 64) = 0 then 0 else if (f_X9_in y.toInt64 1 64) = 0 then 0 else 1
set_option maxRecDepth 100000 in
theorem c_X9_isSize {l : Launch} {G : zG} {x : Int32} {y : Int32} : Ct l G yX9_isSize cX9_isSize 2 (Option.some FieldType.boolean) 1 25 [.int x, .int y] ([]) (pI (f_X9_isSize x y) ([])) := by
  refine Ct.of (plainFor_of_name (by decide)) (Nat.le_of_ble_eq_true rfl) (pI.ad rfl) (fun X C E => ?_)
  show Z X G 2 0 0 _ 0 [(0, .int x), (1, .int y)] []
  refine z_iload_n (pc := 0) C 0 dX9_isSize_0 rfl ?_
  refine z_i2l (pc := 1) C dX9_isSize_1 ?_
  refine z_lconst (pc := 2) (v := 1) C dX9_isSize_2 (by decide) ?_
  refine z_ldc2_w (pc := 3) C q_934 dX9_isSize_3 ?_
  refine z_callS (pc := 6) C (c_X9_in) [] z00 mS_X9_in q_875 dX9_isSize_6 rfl rfl rfl rfl (Nat.le_of_ble_eq_true rfl) (by decide) (pI.stay rfl ?_)
  refine z_if_eq (pc := 9) 28 C dX9_isSize_9 (by decide) (fun c_9 => ?_) (fun c_9 => ?_)
  · skip
    refine z_iconst (pc := 28) (v := 0) C dX9_isSize_28 (by decide) ?_
    exact z_zret (pc := 29) C E dX9_isSize_29 (by first | rfl | assumption) (pI.mk (by simp only [f_X9_isSize, if_pos c_9]) rfl)
  · skip
    refine z_iload_n (pc := 12) C 1 dX9_isSize_12 rfl ?_
    refine z_i2l (pc := 13) C dX9_isSize_13 ?_
    refine z_lconst (pc := 14) (v := 1) C dX9_isSize_14 (by decide) ?_
    refine z_ldc2_w (pc := 15) C q_934 dX9_isSize_15 ?_
    refine z_callS (pc := 18) C (c_X9_in) [] z00 mS_X9_in q_875 dX9_isSize_18 rfl rfl rfl rfl (Nat.le_of_ble_eq_true rfl) (by decide) (pI.stay rfl ?_)
    refine z_if_eq (pc := 21) 28 C dX9_isSize_21 (by decide) (fun c_21 => ?_) (fun c_21 => ?_)
    · skip
      refine z_iconst (pc := 28) (v := 0) C dX9_isSize_28 (by decide) ?_
      exact z_zret (pc := 29) C E dX9_isSize_29 (by first | rfl | assumption) (pI.mk (by simp only [f_X9_isSize, if_neg c_9, if_pos c_21]) rfl)
    · skip
      refine z_iconst (pc := 24) (v := 1) C dX9_isSize_24 (by decide) ?_
      refine z_goto (pc := 25) 29 C dX9_isSize_25 (by decide) ?_
      exact z_zret (pc := 29) C E dX9_isSize_29 (by first | rfl | assumption) (pI.mk (by simp only [f_X9_isSize, if_neg c_9, if_neg c_21]) rfl)
theorem nb_X9_isSize {x : Int32} {y : Int32} : narrow .boolean (.int (f_X9_isSize x y)) = .int (f_X9_isSize x y) := by unfold f_X9_isSize; (repeat' split) <;> first | rfl

def f_X9_isIn (x : Int32) (y : Int32) : Int32 := if (f_X9_in x.toInt64 0 31) = 0 then 0 else if (f_X9_in y.toInt64 0 23) = 0 then 0 else 1
set_option maxRecDepth 100000 in
theorem c_X9_isIn {l : Launch} {G : zG} {x : Int32} {y : Int32} : Ct l G yX9_isIn cX9_isIn 2 (Option.some FieldType.boolean) 1 25 [.int x, .int y] ([]) (pI (f_X9_isIn x y) ([])) := by
  refine Ct.of (plainFor_of_name (by decide)) (Nat.le_of_ble_eq_true rfl) (pI.ad rfl) (fun X C E => ?_)
  show Z X G 2 0 0 _ 0 [(0, .int x), (1, .int y)] []
  refine z_iload_n (pc := 0) C 0 dX9_isIn_0 rfl ?_
  refine z_i2l (pc := 1) C dX9_isIn_1 ?_
  refine z_lconst (pc := 2) (v := 0) C dX9_isIn_2 (by decide) ?_
  refine z_ldc2_w (pc := 3) C q_881 dX9_isIn_3 ?_
  refine z_callS (pc := 6) C (c_X9_in) [] z00 mS_X9_in q_875 dX9_isIn_6 rfl rfl rfl rfl (Nat.le_of_ble_eq_true rfl) (by decide) (pI.stay rfl ?_)
  refine z_if_eq (pc := 9) 28 C dX9_isIn_9 (by decide) (fun c_9 => ?_) (fun c_9 => ?_)
  · skip
    refine z_iconst (pc := 28) (v := 0) C dX9_isIn_28 (by decide) ?_
    exact z_zret (pc := 29) C E dX9_isIn_29 (by first | rfl | assumption) (pI.mk (by simp only [f_X9_isIn, if_pos c_9]) rfl)
  · skip
    refine z_iload_n (pc := 12) C 1 dX9_isIn_12 rfl ?_
    refine z_i2l (pc := 13) C dX9_isIn_13 ?_
    refine z_lconst (pc := 14) (v := 0) C dX9_isIn_14 (by decide) ?_
    refine z_ldc2_w (pc := 15) C q_882 dX9_isIn_15 ?_
    refine z_callS (pc := 18) C (c_X9_in) [] z00 mS_X9_in q_875 dX9_isIn_18 rfl rfl rfl rfl (Nat.le_of_ble_eq_true rfl) (by decide) (pI.stay rfl ?_)
    refine z_if_eq (pc := 21) 28 C dX9_isIn_21 (by decide) (fun c_21 => ?_) (fun c_21 => ?_)
    · skip
      refine z_iconst (pc := 28) (v := 0) C dX9_isIn_28 (by decide) ?_
      exact z_zret (pc := 29) C E dX9_isIn_29 (by first | rfl | assumption) (pI.mk (by simp only [f_X9_isIn, if_neg c_9, if_pos c_21]) rfl)
    · skip
      refine z_iconst (pc := 24) (v := 1) C dX9_isIn_24 (by decide) ?_
      refine z_goto (pc := 25) 29 C dX9_isIn_25 (by decide) ?_
      exact z_zret (pc := 29) C E dX9_isIn_29 (by first | rfl | assumption) (pI.mk (by simp only [f_X9_isIn, if_neg c_9, if_neg c_21]) rfl)
theorem nb_X9_isIn {x : Int32} {y : Int32} : narrow .boolean (.int (f_X9_isIn x y)) = .int (f_X9_isIn x y) := by unfold f_X9_isIn; (repeat' split) <;> first | rfl

def f_X9_bitOf (row : Int32) (x : Int32) : Int32 := (row >>> ((31 - x) &&& 31)) &&& 1
set_option maxRecDepth 100000 in
theorem c_X9_bitOf {l : Launch} {G : zG} {row : Int32} {x : Int32} : Ct l G yX9_bitOf cX9_bitOf 2 (Option.some FieldType.int) 0 0 [.int row, .int x] ([]) (pI (f_X9_bitOf row x) ([])) := by
  refine Ct.of (plainFor_of_name (by decide)) (Nat.le_of_ble_eq_true rfl) (pI.ad rfl) (fun X C E => ?_)
  show Z X G 2 0 0 _ 0 [(0, .int row), (1, .int x)] []
  refine z_iload_n (pc := 0) C 0 dX9_bitOf_0 rfl ?_
  refine z_bipush (pc := 1) (v := 31) C dX9_bitOf_1 (by decide) ?_
  refine z_iload_n (pc := 3) C 1 dX9_bitOf_3 rfl ?_
  refine z_isub (pc := 4) C dX9_bitOf_4 ?_
  refine z_ishr (pc := 5) C dX9_bitOf_5 ?_
  refine z_iconst (pc := 6) (v := 1) C dX9_bitOf_6 (by decide) ?_
  refine z_iand (pc := 7) C dX9_bitOf_7 ?_
  exact z_iret (pc := 8) C E dX9_bitOf_8 (pI.mk rfl rfl)

def f_X9_size (v : Int32) : Int32 := if 0 ≤ v then v else -v
set_option maxRecDepth 100000 in
theorem c_X9_size {l : Launch} {G : zG} {v : Int32} : Ct l G yX9_size cX9_size 1 (Option.some FieldType.int) 0 0 [.int v] ([]) (pI (f_X9_size v) ([])) := by
  refine Ct.of (plainFor_of_name (by decide)) (Nat.le_of_ble_eq_true rfl) (pI.ad rfl) (fun X C E => ?_)
  show Z X G 1 0 0 _ 0 [(0, .int v)] []
  refine z_iload_n (pc := 0) C 0 dX9_size_0 rfl ?_
  refine z_if_ge (pc := 1) 9 C dX9_size_1 (by decide) (fun c_1 => ?_) (fun c_1 => ?_)
  · skip
    refine z_iload_n (pc := 9) C 0 dX9_size_9 rfl ?_
    exact z_iret (pc := 10) C E dX9_size_10 (pI.mk (by simp only [f_X9_size, if_pos c_1]) rfl)
  · skip
    refine z_iload_n (pc := 4) C 0 dX9_size_4 rfl ?_
    refine z_ineg (pc := 5) C dX9_size_5 ?_
    refine z_goto (pc := 6) 10 C dX9_size_6 (by decide) ?_
    exact z_iret (pc := 10) C E dX9_size_10 (pI.mk (by simp only [f_X9_size, if_neg c_1]) rfl)

theorem mIn_ne {v a b : Int64} (h : ¬ f_X9_in v a b = 0) : a.toInt ≤ v.toInt ∧ v.toInt ≤ b.toInt := by
  unfold f_X9_in at h
  by_cases h1 : lg_cmp v a < 0
  · rw [if_pos h1] at h; exact absurd rfl h
  · rw [if_neg h1] at h
    by_cases h2 : 0 < lg_cmp v b
    · rw [if_pos h2] at h; exact absurd rfl h
    · rw [lg_cmp_lt] at h1
      rw [lg_cmp_gt] at h2
      rw [Int64.lt_iff_toInt_lt] at h1 h2
      omega
theorem mIn_eq {v a b : Int64} (h1 : a.toInt ≤ v.toInt) (h2 : v.toInt ≤ b.toInt) : f_X9_in v a b = 1 := by
  unfold f_X9_in
  rw [if_neg (by rw [lg_cmp_lt, Int64.lt_iff_toInt_lt]; omega), if_neg (by rw [lg_cmp_gt, Int64.lt_iff_toInt_lt]; omega)]
/-- a picture; a row of it -/
def pT (t : Int32) : Prop := 0 ≤ t.toInt ∧ t.toInt ≤ 2
def pY (y : Int32) : Prop := 0 ≤ y.toInt ∧ y.toInt ≤ 23
theorem mP_ne {t : Int32} (h : ¬ f_X9_isPicture t = 0) : pT t := by
  have b := mIn_ne (show ¬ f_X9_in t.toInt64 0 2 = 0 from h)
  rw [Int32.toInt_toInt64] at b
  exact b
theorem mI_ne {x y : Int32} (h : ¬ f_X9_isIn x y = 0) : (0 ≤ x.toInt ∧ x.toInt ≤ 31) ∧ pY y := by
  unfold f_X9_isIn at h
  by_cases h1 : f_X9_in x.toInt64 0 31 = 0
  · rw [if_pos h1] at h; exact absurd rfl h
  · rw [if_neg h1] at h
    by_cases h2 : f_X9_in y.toInt64 0 23 = 0
    · rw [if_pos h2] at h; exact absurd rfl h
    · have a := mIn_ne h1
      have b := mIn_ne h2
      rw [Int32.toInt_toInt64] at a b
      exact ⟨a, b⟩
theorem ix_ty {t y : Int32} {n : Nat} (hn : 72 ≤ n) (h1 : pT t) (h2 : pY y) : vp_in (24 * t + y) n := by
  obtain ⟨a1, a2⟩ := h1
  obtain ⟨b1, b2⟩ := h2
  have e2 : (24 * t).toInt = 24 * t.toInt := tI_mul rfl (by have : (24 : Int32).toInt = 24 := rfl; omega) (by have : (24 : Int32).toInt = 24 := rfl; omega)
  rw [vp_in_iff, tI_add (by omega) (by omega), e2]
  omega
theorem ix_c {k : Nat} {x : Int32} {n : Nat} (hx : x = nI k) (h : k < n) (hn : n < 2 ^ 31) : vp_in x n := by rw [hx]; exact vp_in_nI h hn
theorem pY_nI {y : Int32} (h : pY y) : y = nI y.toNatClampNeg ∧ y.toNatClampNeg ≤ 23 := by
  have e : (y.toNatClampNeg : Int) = y.toInt := Int.toNat_of_nonneg h.1
  refine ⟨?_, by have := h.2; omega⟩
  rw [← Int32.toInt_inj, nI_toInt (by have := h.2; omega)]
  exact e.symm
theorem pY_n {i : Nat} (h : i < 24) : pY (nI i) := by unfold pY; rw [nI_toInt (by omega)]; omega
theorem ix_pat {y : Int32} (h : pY y) : vp_in (72 + (y - y / 8 * 8)) 97 := by
  obtain ⟨e, l⟩ := pY_nI h
  rw [e]
  have e2 : nI y.toNatClampNeg - nI y.toNatClampNeg / 8 * 8 = nI (y.toNatClampNeg % 8) := pk_rem (d := 8) (by omega) (by decide) (by decide)
  rw [e2, show (72 : Int32) = nI 72 from rfl, nI_add]
  exact vp_in_nI (by omega) (by decide)
/-- how many openings the reference has -/
def mOk (now : Nat → Int32) : Prop := cOk (now (96 : Int32).toNatClampNeg)
theorem ix_mo {i c : Nat} {k : Int32} (hi : i < c) (hc : c ≤ 4) (j : Nat) (hk : k = nI j) (hj : j < 4) : vp_in (80 + 4 * nI i + k) 97 := by
  subst hk
  rw [show (4 : Int32) = nI 4 from rfl, show (80 : Int32) = nI 80 from rfl, pk_mul, nI_add, nI_add]
  exact vp_in_nI (by omega) (by decide)
theorem ix_mo0 {i c : Nat} (hi : i < c) (hc : c ≤ 4) : vp_in (80 + 4 * nI i) 97 := by
  rw [show (4 : Int32) = nI 4 from rfl, show (80 : Int32) = nI 80 from rfl, pk_mul, nI_add]
  exact vp_in_nI (by omega) (by decide)
/-- how many states the reference holds -/
def qOk (states : Int32) : Prop := 0 ≤ states.toInt ∧ states.toInt ≤ 6
theorem qOk_nI {states : Int32} (h : qOk states) : states = nI states.toNatClampNeg ∧ states.toNatClampNeg ≤ 6 := by
  have e : (states.toNatClampNeg : Int) = states.toInt := Int.toNat_of_nonneg h.1
  refine ⟨?_, by have := h.2; omega⟩
  rw [← Int32.toInt_inj, nI_toInt (by have := h.2; omega)]
  exact e.symm
theorem qOk_m {states : Int32} (h : qOk states) : ∃ c : Nat, c ≤ 5 ∧ (if states = 6 then states - 1 else states : Int32) = nI c := by
  obtain ⟨e, l⟩ := qOk_nI h
  by_cases h6 : states = 6
  · exact ⟨5, by decide, by rw [if_pos h6, h6]; decide⟩
  · refine ⟨states.toNatClampNeg, ?_, by rw [if_neg h6]; exact e⟩
    by_cases h7 : states.toNatClampNeg = 6
    · rw [h7] at e; exact absurd e h6
    · omega
theorem ix_ps {s : Int32} {c i : Nat} (hs : s = nI c) (hc : c ≤ 5) (hi : i < 97) : vp_in (97 * s + nI i) 582 := by
  rw [hs, show (97 : Int32) = nI 97 from rfl, pk_mul, nI_add]
  exact vp_in_nI (by omega) (by decide)

def f_X9_bad (tells : Int32) : Int32 := tells
def g_X9_bad_refused (refused : Nat → Int32) : Nat → Int32 := upd refused (0 : Int32).toNatClampNeg ((refused (0 : Int32).toNatClampNeg) + 1)
set_option maxRecDepth 100000 in
theorem c_X9_bad {l : Launch} {G : zG} {da dn dp dr ds dl dc dt dg : Nat} {now : Nat → Int32} {past : Nat → Int32} {states : Int32} {refused : Nat → Int32} {aside : Nat → Int32} {pile : Nat → Int32} {came : Nat → Int32} {pileL : Int32} {text : Nat → Int32} {textL : Int32} {place : Int32} {nargs : Nat → Int32} {tells : Int32} : Ct l G yX9_bad cX9_bad 2 (Option.some FieldType.int) 0 0 [.ref da, .int tells] (wMd G da dn dp dr ds dl dc dt dg now past states refused aside pile came pileL text textL place nargs) (pI (f_X9_bad tells) (wMd G da dn dp dr ds dl dc dt dg now past states (g_X9_bad_refused refused) aside pile came pileL text textL place nargs)) := by
  refine Ct.of (plainFor_of_name (by decide)) (Nat.le_of_ble_eq_true rfl) (pI.ad ad_Md) (fun X C E => ?_)
  show Z X G 2 0 0 _ 0 [(0, .ref da), (1, .int tells)] []
  refine z_aload_n (pc := 0) C 0 dX9_bad_0 rfl ?_
  refine z_get (pc := 1) C 0 3 dX9_bad_1 rfl rfl i_X9 (by decide) q_832 rfl ?_
  refine z_iconst (pc := 4) (v := 0) C dX9_bad_4 (by decide) ?_
  refine z_dup2 (pc := 5) C dX9_bad_5 rfl rfl ?_
  refine z_iald (pc := 6) C 3 dX9_bad_6 rfl (ix_c (k := 0) rfl (by decide) (by decide)) ?_
  refine z_iconst (pc := 7) (v := 1) C dX9_bad_7 (by decide) ?_
  refine z_iadd (pc := 8) C dX9_bad_8 ?_
  refine z_iast (pc := 9) (wMd G da dn dp dr ds dl dc dt dg now past states _ aside pile came pileL text textL place nargs) C 3 dX9_bad_9 rfl (ix_c (k := 0) rfl (by decide) (by decide)) rfl ?_
  refine z_iload_n (pc := 10) C 1 dX9_bad_10 rfl ?_
  exact z_iret (pc := 11) C E dX9_bad_11 (pI.mk rfl rfl)

def f_X9_no  : Int32 := (-3)
def g_X9_no_refused (refused : Nat → Int32) : Nat → Int32 := upd refused (1 : Int32).toNatClampNeg ((refused (1 : Int32).toNatClampNeg) + 1)
set_option maxRecDepth 100000 in
theorem c_X9_no {l : Launch} {G : zG} {da dn dp dr ds dl dc dt dg : Nat} {now : Nat → Int32} {past : Nat → Int32} {states : Int32} {refused : Nat → Int32} {aside : Nat → Int32} {pile : Nat → Int32} {came : Nat → Int32} {pileL : Int32} {text : Nat → Int32} {textL : Int32} {place : Int32} {nargs : Nat → Int32} : Ct l G yX9_no cX9_no 1 (Option.some FieldType.int) 0 0 [.ref da] (wMd G da dn dp dr ds dl dc dt dg now past states refused aside pile came pileL text textL place nargs) (pI (f_X9_no) (wMd G da dn dp dr ds dl dc dt dg now past states (g_X9_no_refused refused) aside pile came pileL text textL place nargs)) := by
  refine Ct.of (plainFor_of_name (by decide)) (Nat.le_of_ble_eq_true rfl) (pI.ad ad_Md) (fun X C E => ?_)
  show Z X G 1 0 0 _ 0 [(0, .ref da)] []
  refine z_aload_n (pc := 0) C 0 dX9_no_0 rfl ?_
  refine z_get (pc := 1) C 0 3 dX9_no_1 rfl rfl i_X9 (by decide) q_832 rfl ?_
  refine z_iconst (pc := 4) (v := 1) C dX9_no_4 (by decide) ?_
  refine z_dup2 (pc := 5) C dX9_no_5 rfl rfl ?_
  refine z_iald (pc := 6) C 3 dX9_no_6 rfl (ix_c (k := 1) rfl (by decide) (by decide)) ?_
  refine z_iconst (pc := 7) (v := 1) C dX9_no_7 (by decide) ?_
  refine z_iadd (pc := 8) C dX9_no_8 ?_
  refine z_iast (pc := 9) (wMd G da dn dp dr ds dl dc dt dg now past states _ aside pile came pileL text textL place nargs) C 3 dX9_no_9 rfl (ix_c (k := 1) rfl (by decide) (by decide)) rfl ?_
  refine z_bipush (pc := 10) (v := (-3)) C dX9_no_10 (by decide) ?_
  exact z_iret (pc := 12) C E dX9_no_12 (pI.mk rfl rfl)

def f_X9_full  : Int32 := (-4)
def g_X9_full_refused (refused : Nat → Int32) : Nat → Int32 := upd refused (2 : Int32).toNatClampNeg ((refused (2 : Int32).toNatClampNeg) + 1)
set_option maxRecDepth 100000 in
theorem c_X9_full {l : Launch} {G : zG} {da dn dp dr ds dl dc dt dg : Nat} {now : Nat → Int32} {past : Nat → Int32} {states : Int32} {refused : Nat → Int32} {aside : Nat → Int32} {pile : Nat → Int32} {came : Nat → Int32} {pileL : Int32} {text : Nat → Int32} {textL : Int32} {place : Int32} {nargs : Nat → Int32} : Ct l G yX9_full cX9_full 1 (Option.some FieldType.int) 0 0 [.ref da] (wMd G da dn dp dr ds dl dc dt dg now past states refused aside pile came pileL text textL place nargs) (pI (f_X9_full) (wMd G da dn dp dr ds dl dc dt dg now past states (g_X9_full_refused refused) aside pile came pileL text textL place nargs)) := by
  refine Ct.of (plainFor_of_name (by decide)) (Nat.le_of_ble_eq_true rfl) (pI.ad ad_Md) (fun X C E => ?_)
  show Z X G 1 0 0 _ 0 [(0, .ref da)] []
  refine z_aload_n (pc := 0) C 0 dX9_full_0 rfl ?_
  refine z_get (pc := 1) C 0 3 dX9_full_1 rfl rfl i_X9 (by decide) q_832 rfl ?_
  refine z_iconst (pc := 4) (v := 2) C dX9_full_4 (by decide) ?_
  refine z_dup2 (pc := 5) C dX9_full_5 rfl rfl ?_
  refine z_iald (pc := 6) C 3 dX9_full_6 rfl (ix_c (k := 2) rfl (by decide) (by decide)) ?_
  refine z_iconst (pc := 7) (v := 1) C dX9_full_7 (by decide) ?_
  refine z_iadd (pc := 8) C dX9_full_8 ?_
  refine z_iast (pc := 9) (wMd G da dn dp dr ds dl dc dt dg now past states _ aside pile came pileL text textL place nargs) C 3 dX9_full_9 rfl (ix_c (k := 2) rfl (by decide) (by decide)) rfl ?_
  refine z_bipush (pc := 10) (v := (-4)) C dX9_full_10 (by decide) ?_
  exact z_iret (pc := 12) C E dX9_full_12 (pI.mk rfl rfl)

def b_X9_keep_51 (now : Nat → Int32) (states : Int32) (i_51 : Nat) (z_51 : (Nat → Int32)) : (Nat → Int32) := upd z_51 ((97 * (if states = 6 then (states - 1) else states : Int32)) + (nI i_51)).toNatClampNeg (now (nI i_51).toNatClampNeg)
def b_X9_keep_11  (i_11 : Nat) (z_11 : (Nat → Int32)) : (Nat → Int32) := upd z_11 (nI i_11).toNatClampNeg (z_11 ((nI i_11) + 97).toNatClampNeg)
def s_X9_keep_11 (past : Nat → Int32) : Nat → (Nat → Int32)
  | 0 => past
  | i_11 + 1 => b_X9_keep_11  i_11 (s_X9_keep_11 past i_11)
def s_X9_keep_51 (now : Nat → Int32) (past : Nat → Int32) (states : Int32) : Nat → (Nat → Int32)
  | 0 => (if states = 6 then (s_X9_keep_11 past 485) else past : Nat → Int32)
  | i_51 + 1 => b_X9_keep_51 now states i_51 (s_X9_keep_51 now past states i_51)
def g_X9_keep_past (now : Nat → Int32) (past : Nat → Int32) (states : Int32) : Nat → Int32 := (s_X9_keep_51 now past states 97)
def g_X9_keep_states (states : Int32) : Int32 := (if states = 6 then (states - 1) else states : Int32) + 1
set_option maxRecDepth 100000 in
theorem c_X9_keep {l : Launch} {G : zG} {da dn dp dr ds dl dc dt dg : Nat} {now : Nat → Int32} {past : Nat → Int32} {states : Int32} {refused : Nat → Int32} {aside : Nat → Int32} {pile : Nat → Int32} {came : Nat → Int32} {pileL : Int32} {text : Nat → Int32} {textL : Int32} {place : Int32} {nargs : Nat → Int32} (hq : qOk states) : Ct l G yX9_keep cX9_keep 2 (Option.none : Option Jvm.ClassFile.FieldType) 0 0 [.ref da] (wMd G da dn dp dr ds dl dc dt dg now past states refused aside pile came pileL text textL place nargs) (pV (wMd G da dn dp dr ds dl dc dt dg now (g_X9_keep_past now past states) (g_X9_keep_states states) refused aside pile came pileL text textL place nargs)) := by
  refine Ct.of (plainFor_of_name (by decide)) (Nat.le_of_ble_eq_true rfl) (pV.ad ad_Md) (fun X C E => ?_)
  show Z X G 2 0 0 _ 0 [(0, .ref da)] []
  obtain ⟨c, hc5, hcs⟩ := qOk_m hq
  refine z_aload_n (pc := 0) C 0 dX9_keep_0 rfl ?_
  refine z_get (pc := 1) C 0 2 dX9_keep_1 rfl rfl i_X9 (by decide) q_831 rfl ?_
  refine z_bipush (pc := 4) (v := 6) C dX9_keep_4 (by decide) ?_
  have K_49 : Z X G 2 0 0 (wMd G da dn dp dr ds dl dc dt dg now (if states = 6 then (s_X9_keep_11 past 485) else past : Nat → Int32) (if states = 6 then (states - 1) else states : Int32) refused aside pile came pileL text textL place nargs) 49 [(0, .ref da)] [] := by
    refine z_iconst (pc := 49) (v := 0) C dX9_keep_49 (by decide) ?_
    refine z_istore_n (pc := 50) [(1, _), (0, _)] C dX9_keep_50 rfl (by decide) rfl ?_
    refine z_lv (lv' := [(0, _), (1, _)]) [1, 0] rfl ?_
    refine z_loop (pc := 51) (e := 97) (fun i_51 => wMd G da dn dp dr ds dl dc dt dg now (s_X9_keep_51 now past states i_51) (if states = 6 then (states - 1) else states : Int32) refused aside pile came pileL text textL place nargs) (fun i_51 => [(0, .ref da), (1, .int (nI i_51))]) [] (fun i_51 hi_51 ih_51 => ?_) ?_ 0 (Nat.zero_le _)
    · show Z X G 2 0 0 (wMd G da dn dp dr ds dl dc dt dg now (s_X9_keep_51 now past states i_51) (if states = 6 then (states - 1) else states : Int32) refused aside pile came pileL text textL place nargs) 51 [(0, .ref da), (1, .int (nI i_51))] []
      generalize hz_51 : s_X9_keep_51 now past states i_51 = z_51
      refine z_iload_n (pc := 51) C 1 dX9_keep_51 rfl ?_
      refine z_bipush (pc := 52) (v := 97) C dX9_keep_52 (by decide) ?_
      refine z_icmp_ge (pc := 54) 83 C dX9_keep_54 (by decide) (fun c_54 => ?_) (fun c_54 => ?_)
      · skip
        exact absurd c_54 (nI_ge (b := 97) (by omega) (by decide))
      · skip
        refine z_aload_n (pc := 57) C 0 dX9_keep_57 rfl ?_
        refine z_get (pc := 58) C 0 1 dX9_keep_58 rfl rfl i_X9 (by decide) q_830 rfl ?_
        refine z_bipush (pc := 61) (v := 97) C dX9_keep_61 (by decide) ?_
        refine z_aload_n (pc := 63) C 0 dX9_keep_63 rfl ?_
        refine z_get (pc := 64) C 0 2 dX9_keep_64 rfl rfl i_X9 (by decide) q_831 rfl ?_
        refine z_imul (pc := 67) C dX9_keep_67 ?_
        refine z_iload_n (pc := 68) C 1 dX9_keep_68 rfl ?_
        refine z_iadd (pc := 69) C dX9_keep_69 ?_
        refine z_aload_n (pc := 70) C 0 dX9_keep_70 rfl ?_
        refine z_get (pc := 71) C 0 0 dX9_keep_71 rfl rfl i_X9 (by decide) q_829 rfl ?_
        refine z_iload_n (pc := 74) C 1 dX9_keep_74 rfl ?_
        refine z_iald (pc := 75) C 1 dX9_keep_75 rfl (ix_nI (by omega) (by decide)) ?_
        refine z_iast (pc := 76) (wMd G da dn dp dr ds dl dc dt dg now _ _ refused aside pile came pileL text textL place nargs) C 2 dX9_keep_76 rfl (ix_ps hcs hc5 hi_51) rfl ?_
        refine z_iinc (pc := 77) (v := nI (i_51 + 1)) [(1, _), (0, _)] C 1 dX9_keep_77 rfl ((nI_succ _).symm) (by decide) rfl ?_
        refine z_goto (pc := 80) 51 C dX9_keep_80 (by decide) ?_
        refine z_lv (lv' := [(0, _), (1, _)]) [1, 0] rfl ?_
        exact z_eq (by simp only [s_X9_keep_51, hz_51, b_X9_keep_51]) rfl rfl ih_51
    · show Z X G 2 0 0 (wMd G da dn dp dr ds dl dc dt dg now (s_X9_keep_51 now past states 97) (if states = 6 then (states - 1) else states : Int32) refused aside pile came pileL text textL place nargs) 51 [(0, .ref da), (1, .int (nI 97))] []
      refine z_iload_n (pc := 51) C 1 dX9_keep_51 rfl ?_
      refine z_bipush (pc := 52) (v := 97) C dX9_keep_52 (by decide) ?_
      refine z_icmp_ge (pc := 54) 83 C dX9_keep_54 (by decide) (fun c_54 => ?_) (fun c_54 => ?_)
      · skip
        refine z_aload_n (pc := 83) C 0 dX9_keep_83 rfl ?_
        refine z_dup (pc := 84) C dX9_keep_84 rfl ?_
        refine z_get (pc := 85) C 0 2 dX9_keep_85 rfl rfl i_X9 (by decide) q_831 rfl ?_
        refine z_iconst (pc := 88) (v := 1) C dX9_keep_88 (by decide) ?_
        refine z_iadd (pc := 89) C dX9_keep_89 ?_
        refine z_put (pc := 90) (wMd G da dn dp dr ds dl dc dt dg now _ _ refused aside pile came pileL text textL place nargs) C 0 2 dX9_keep_90 rfl rfl i_X9 tyX9_ok nmX9 (by decide) q_831 rfl rfl rfl rfl (Nat.le_of_ble_eq_true rfl) rfl ?_
        exact z_vret (pc := 93) C E dX9_keep_93 (pV.mk rfl)
      · skip
        exact absurd (nI_le (Nat.le_refl 97) (by decide)) c_54
  refine z_icmp_ne (pc := 6) 49 C dX9_keep_6 (by decide) (fun c_6 => ?_) (fun c_6 => ?_)
  · skip
    refine z_lv (lv' := [(0, _)]) [0] rfl ?_
    exact z_eq (by simp only [if_neg c_6]) rfl rfl K_49
  · skip
    refine z_iconst (pc := 9) (v := 0) C dX9_keep_9 (by decide) ?_
    refine z_istore_n (pc := 10) [(1, _), (0, _)] C dX9_keep_10 rfl (by decide) rfl ?_
    refine z_lv (lv' := [(0, _), (1, _)]) [1, 0] rfl ?_
    refine z_loop (pc := 11) (e := 485) (fun i_11 => wMd G da dn dp dr ds dl dc dt dg now (s_X9_keep_11 past i_11) states refused aside pile came pileL text textL place nargs) (fun i_11 => [(0, .ref da), (1, .int (nI i_11))]) [] (fun i_11 hi_11 ih_11 => ?_) ?_ 0 (Nat.zero_le _)
    · show Z X G 2 0 0 (wMd G da dn dp dr ds dl dc dt dg now (s_X9_keep_11 past i_11) states refused aside pile came pileL text textL place nargs) 11 [(0, .ref da), (1, .int (nI i_11))] []
      generalize hz_11 : s_X9_keep_11 past i_11 = z_11
      refine z_iload_n (pc := 11) C 1 dX9_keep_11 rfl ?_
      refine z_sipush (pc := 12) (v := 485) C dX9_keep_12 (by decide) ?_
      refine z_icmp_ge (pc := 15) 39 C dX9_keep_15 (by decide) (fun c_15 => ?_) (fun c_15 => ?_)
      · skip
        exact absurd c_15 (nI_ge (b := 485) (by omega) (by decide))
      · skip
        refine z_aload_n (pc := 18) C 0 dX9_keep_18 rfl ?_
        refine z_get (pc := 19) C 0 1 dX9_keep_19 rfl rfl i_X9 (by decide) q_830 rfl ?_
        refine z_iload_n (pc := 22) C 1 dX9_keep_22 rfl ?_
        refine z_aload_n (pc := 23) C 0 dX9_keep_23 rfl ?_
        refine z_get (pc := 24) C 0 1 dX9_keep_24 rfl rfl i_X9 (by decide) q_830 rfl ?_
        refine z_iload_n (pc := 27) C 1 dX9_keep_27 rfl ?_
        refine z_bipush (pc := 28) (v := 97) C dX9_keep_28 (by decide) ?_
        refine z_iadd (pc := 30) C dX9_keep_30 ?_
        refine z_iald (pc := 31) C 2 dX9_keep_31 rfl (ix_c (k := i_11 + 97) (nI_add _ 97) (by omega) (by decide)) ?_
        refine z_iast (pc := 32) (wMd G da dn dp dr ds dl dc dt dg now _ states refused aside pile came pileL text textL place nargs) C 2 dX9_keep_32 rfl (ix_nI (by omega) (by decide)) rfl ?_
        refine z_iinc (pc := 33) (v := nI (i_11 + 1)) [(1, _), (0, _)] C 1 dX9_keep_33 rfl ((nI_succ _).symm) (by decide) rfl ?_
        refine z_goto (pc := 36) 11 C dX9_keep_36 (by decide) ?_
        refine z_lv (lv' := [(0, _), (1, _)]) [1, 0] rfl ?_
        exact z_eq (by simp only [s_X9_keep_11, hz_11, b_X9_keep_11]) rfl rfl ih_11
    · show Z X G 2 0 0 (wMd G da dn dp dr ds dl dc dt dg now (s_X9_keep_11 past 485) states refused aside pile came pileL text textL place nargs) 11 [(0, .ref da), (1, .int (nI 485))] []
      refine z_iload_n (pc := 11) C 1 dX9_keep_11 rfl ?_
      refine z_sipush (pc := 12) (v := 485) C dX9_keep_12 (by decide) ?_
      refine z_icmp_ge (pc := 15) 39 C dX9_keep_15 (by decide) (fun c_15 => ?_) (fun c_15 => ?_)
      · skip
        refine z_aload_n (pc := 39) C 0 dX9_keep_39 rfl ?_
        refine z_dup (pc := 40) C dX9_keep_40 rfl ?_
        refine z_get (pc := 41) C 0 2 dX9_keep_41 rfl rfl i_X9 (by decide) q_831 rfl ?_
        refine z_iconst (pc := 44) (v := 1) C dX9_keep_44 (by decide) ?_
        refine z_isub (pc := 45) C dX9_keep_45 ?_
        refine z_put (pc := 46) (wMd G da dn dp dr ds dl dc dt dg now _ _ refused aside pile came pileL text textL place nargs) C 0 2 dX9_keep_46 rfl rfl i_X9 tyX9_ok nmX9 (by decide) q_831 rfl rfl rfl rfl (Nat.le_of_ble_eq_true rfl) rfl ?_
        refine z_lv (lv' := [(0, _)]) [0] rfl ?_
        exact z_eq (by simp only [if_pos c_6]) rfl rfl K_49
      · skip
        exact absurd (nI_le (Nat.le_refl 485) (by decide)) c_15

def f_X9_dotOf (now : Nat → Int32) (t : Int32) (x : Int32) (y : Int32) : Int32 := if (f_X9_isIn x y) = 0 then 0 else f_X9_bitOf (now ((24 * t) + y).toNatClampNeg) x
set_option maxRecDepth 100000 in
theorem c_X9_dotOf {l : Launch} {G : zG} {da dn dp dr ds dl dc dt dg : Nat} {now : Nat → Int32} {past : Nat → Int32} {states : Int32} {refused : Nat → Int32} {aside : Nat → Int32} {pile : Nat → Int32} {came : Nat → Int32} {pileL : Int32} {text : Nat → Int32} {textL : Int32} {place : Int32} {nargs : Nat → Int32} {t : Int32} {x : Int32} {y : Int32} (hT : pT t) : Ct l G yX9_dotOf cX9_dotOf 4 (Option.some FieldType.int) 2 46 [.ref da, .int t, .int x, .int y] (wMd G da dn dp dr ds dl dc dt dg now past states refused aside pile came pileL text textL place nargs) (pI (f_X9_dotOf now t x y) (wMd G da dn dp dr ds dl dc dt dg now past states refused aside pile came pileL text textL place nargs)) := by
  refine Ct.of (plainFor_of_name (by decide)) (Nat.le_of_ble_eq_true rfl) (pI.ad ad_Md) (fun X C E => ?_)
  show Z X G 4 0 0 _ 0 [(0, .ref da), (1, .int t), (2, .int x), (3, .int y)] []
  refine z_iload_n (pc := 0) C 2 dX9_dotOf_0 rfl ?_
  refine z_iload_n (pc := 1) C 3 dX9_dotOf_1 rfl ?_
  refine z_callS (pc := 2) C (c_X9_isIn) [] z00 mS_X9_isIn q_878 dX9_dotOf_2 rfl rfl rfl rfl (Nat.le_of_ble_eq_true rfl) (by decide) (pI.stay rfl ?_)
  refine z_if_eq (pc := 5) 26 C dX9_dotOf_5 (by decide) (fun c_5 => ?_) (fun c_5 => ?_)
  · skip
    refine z_iconst (pc := 26) (v := 0) C dX9_dotOf_26 (by decide) ?_
    exact z_iret (pc := 27) C E dX9_dotOf_27 (pI.mk (by simp only [f_X9_dotOf, if_pos c_5]) rfl)
  · skip
    refine z_aload_n (pc := 8) C 0 dX9_dotOf_8 rfl ?_
    refine z_get (pc := 9) C 0 0 dX9_dotOf_9 rfl rfl i_X9 (by decide) q_829 rfl ?_
    refine z_bipush (pc := 12) (v := 24) C dX9_dotOf_12 (by decide) ?_
    refine z_iload_n (pc := 14) C 1 dX9_dotOf_14 rfl ?_
    refine z_imul (pc := 15) C dX9_dotOf_15 ?_
    refine z_iload_n (pc := 16) C 3 dX9_dotOf_16 rfl ?_
    refine z_iadd (pc := 17) C dX9_dotOf_17 ?_
    refine z_iald (pc := 18) C 1 dX9_dotOf_18 rfl (ix_ty (by decide) hT (mI_ne c_5).2) ?_
    refine z_iload_n (pc := 19) C 2 dX9_dotOf_19 rfl ?_
    refine z_callS (pc := 20) C (c_X9_bitOf) [] z00 mS_X9_bitOf q_899 dX9_dotOf_20 rfl rfl rfl rfl (Nat.le_of_ble_eq_true rfl) (by decide) (pI.stay rfl ?_)
    refine z_goto (pc := 23) 27 C dX9_dotOf_23 (by decide) ?_
    exact z_iret (pc := 27) C E dX9_dotOf_27 (pI.mk (by simp only [f_X9_dotOf, if_neg c_5]) rfl)

def f_X9_sets (now : Nat → Int32) (t : Int32) (x : Int32) (y : Int32) (v : Int32) : Int32 := (if (f_X9_dotOf now t x y) = v then 0 else 1 : Int32)
def g_X9_sets_now (now : Nat → Int32) (t : Int32) (x : Int32) (y : Int32) (v : Int32) : Nat → Int32 := upd now ((24 * t) + y).toNatClampNeg ((now ((24 * t) + y).toNatClampNeg) ^^^ (if (f_X9_dotOf now t x y) = v then 0 else (1 <<< ((31 - x) &&& 31)) : Int32))
set_option maxRecDepth 100000 in
theorem c_X9_sets {l : Launch} {G : zG} {da dn dp dr ds dl dc dt dg : Nat} {now : Nat → Int32} {past : Nat → Int32} {states : Int32} {refused : Nat → Int32} {aside : Nat → Int32} {pile : Nat → Int32} {came : Nat → Int32} {pileL : Int32} {text : Nat → Int32} {textL : Int32} {place : Int32} {nargs : Nat → Int32} {t : Int32} {x : Int32} {y : Int32} {v : Int32} (hT : pT t) (hY : pY y) : Ct l G yX9_sets cX9_sets 6 (Option.some FieldType.int) 3 69 [.ref da, .int t, .int x, .int y, .int v] (wMd G da dn dp dr ds dl dc dt dg now past states refused aside pile came pileL text textL place nargs) (pI (f_X9_sets now t x y v) (wMd G da dn dp dr ds dl dc dt dg (g_X9_sets_now now t x y v) past states refused aside pile came pileL text textL place nargs)) := by
  refine Ct.of (plainFor_of_name (by decide)) (Nat.le_of_ble_eq_true rfl) (pI.ad ad_Md) (fun X C E => ?_)
  show Z X G 6 0 0 _ 0 [(0, .ref da), (1, .int t), (2, .int x), (3, .int y), (4, .int v)] []
  refine z_aload_n (pc := 0) C 0 dX9_sets_0 rfl ?_
  refine z_iload_n (pc := 1) C 1 dX9_sets_1 rfl ?_
  refine z_iload_n (pc := 2) C 2 dX9_sets_2 rfl ?_
  refine z_iload_n (pc := 3) C 3 dX9_sets_3 rfl ?_
  refine z_callV (pc := 4) C (c_X9_dotOf (by assumption)) [0, 1, 2, 3, 4, 5, 6, 7, 8] z00 mV_X9_dotOf q_895 dX9_sets_4 rfl rfl rfl 0 rfl rfl rfl rfl (Nat.le_of_ble_eq_true rfl) (by decide) (pI.stay rfl ?_)
  refine z_istore (pc := 7) [(5, _), (0, _), (1, _), (2, _), (3, _), (4, _)] C dX9_sets_7 (by decide) rfl ?_
  refine z_aload_n (pc := 9) C 1 dX9_sets_9 rfl ?_
  refine z_get (pc := 10) C 0 0 dX9_sets_10 rfl rfl i_X9 (by decide) q_829 rfl ?_
  refine z_bipush (pc := 13) (v := 24) C dX9_sets_13 (by decide) ?_
  refine z_iload_n (pc := 15) C 2 dX9_sets_15 rfl ?_
  refine z_imul (pc := 16) C dX9_sets_16 ?_
  refine z_iload_n (pc := 17) C 4 dX9_sets_17 rfl ?_
  refine z_iadd (pc := 18) C dX9_sets_18 ?_
  refine z_dup2 (pc := 19) C dX9_sets_19 rfl rfl ?_
  refine z_iald (pc := 20) C 1 dX9_sets_20 rfl (ix_ty (by decide) hT hY) ?_
  refine z_iload (pc := 21) C 0 dX9_sets_21 rfl ?_
  refine z_iload (pc := 23) C 5 dX9_sets_23 rfl ?_
  have K_38 : Z X G 6 0 0 (wMd G da dn dp dr ds dl dc dt dg now past states refused aside pile came pileL text textL place nargs) 38 [(0, .ref da), (1, .int t), (2, .int x), (3, .int y), (4, .int v), (5, .int (f_X9_dotOf now t x y))] [.int (if (f_X9_dotOf now t x y) = v then 0 else (1 <<< ((31 - x) &&& 31)) : Int32), .int (now ((24 * t) + y).toNatClampNeg), .int ((24 * t) + y), .ref dn] := by
    refine z_ixor (pc := 38) C dX9_sets_38 ?_
    refine z_iast (pc := 39) (wMd G da dn dp dr ds dl dc dt dg _ past states refused aside pile came pileL text textL place nargs) C 1 dX9_sets_39 rfl (ix_ty (by decide) hT hY) rfl ?_
    refine z_iload (pc := 40) C 5 dX9_sets_40 rfl ?_
    refine z_iload (pc := 42) C 4 dX9_sets_42 rfl ?_
    have K_52 : Z X G 6 0 0 (wMd G da dn dp dr ds dl dc dt dg (upd now ((24 * t) + y).toNatClampNeg ((now ((24 * t) + y).toNatClampNeg) ^^^ (if (f_X9_dotOf now t x y) = v then 0 else (1 <<< ((31 - x) &&& 31)) : Int32))) past states refused aside pile came pileL text textL place nargs) 52 [(0, .ref da), (1, .int t), (2, .int x), (3, .int y), (4, .int v), (5, .int (f_X9_dotOf now t x y))] [.int (if (f_X9_dotOf now t x y) = v then 0 else 1 : Int32)] := by
      exact z_iret (pc := 52) C E dX9_sets_52 (pI.mk rfl rfl)
    refine z_icmp_ne (pc := 44) 51 C dX9_sets_44 (by decide) (fun c_44 => ?_) (fun c_44 => ?_)
    · skip
      refine z_iconst (pc := 51) (v := 1) C dX9_sets_51 (by decide) ?_
      refine z_lv (lv' := [(0, _), (1, _), (2, _), (3, _), (4, _), (5, _)]) [0, 1, 2, 3, 4, 5] rfl ?_
      exact z_eq rfl rfl (by simp only [if_neg c_44]) K_52
    · skip
      refine z_iconst (pc := 47) (v := 0) C dX9_sets_47 (by decide) ?_
      refine z_goto (pc := 48) 52 C dX9_sets_48 (by decide) ?_
      refine z_lv (lv' := [(0, _), (1, _), (2, _), (3, _), (4, _), (5, _)]) [0, 1, 2, 3, 4, 5] rfl ?_
      exact z_eq rfl rfl (by simp only [if_pos c_44]) K_52
  refine z_icmp_ne (pc := 25) 32 C dX9_sets_25 (by decide) (fun c_25 => ?_) (fun c_25 => ?_)
  · skip
    refine z_iconst (pc := 32) (v := 1) C dX9_sets_32 (by decide) ?_
    refine z_bipush (pc := 33) (v := 31) C dX9_sets_33 (by decide) ?_
    refine z_iload_n (pc := 35) C 3 dX9_sets_35 rfl ?_
    refine z_isub (pc := 36) C dX9_sets_36 ?_
    refine z_ishl (pc := 37) C dX9_sets_37 ?_
    refine z_lv (lv' := [(0, _), (1, _), (2, _), (3, _), (4, _), (5, _)]) [1, 2, 3, 4, 5, 0] rfl ?_
    exact z_eq rfl rfl (by simp only [if_neg c_25]) K_38
  · skip
    refine z_iconst (pc := 28) (v := 0) C dX9_sets_28 (by decide) ?_
    refine z_goto (pc := 29) 38 C dX9_sets_29 (by decide) ?_
    refine z_lv (lv' := [(0, _), (1, _), (2, _), (3, _), (4, _), (5, _)]) [1, 2, 3, 4, 5, 0] rfl ?_
    exact z_eq rfl rfl (by simp only [if_pos c_25]) K_38

def f_X9_patternAt (now : Nat → Int32) (x : Int32) (y : Int32) : Int32 := ((now (72 + (y - y / 8 * 8)).toNatClampNeg) >>> ((7 - (x - x / 8 * 8)) &&& 31)) &&& 1
set_option maxRecDepth 100000 in
theorem c_X9_patternAt {l : Launch} {G : zG} {da dn dp dr ds dl dc dt dg : Nat} {now : Nat → Int32} {past : Nat → Int32} {states : Int32} {refused : Nat → Int32} {aside : Nat → Int32} {pile : Nat → Int32} {came : Nat → Int32} {pileL : Int32} {text : Nat → Int32} {textL : Int32} {place : Int32} {nargs : Nat → Int32} {x : Int32} {y : Int32} (hY : pY y) : Ct l G yX9_patternAt cX9_patternAt 3 (Option.some FieldType.int) 0 0 [.ref da, .int x, .int y] (wMd G da dn dp dr ds dl dc dt dg now past states refused aside pile came pileL text textL place nargs) (pI (f_X9_patternAt now x y) (wMd G da dn dp dr ds dl dc dt dg now past states refused aside pile came pileL text textL place nargs)) := by
  refine Ct.of (plainFor_of_name (by decide)) (Nat.le_of_ble_eq_true rfl) (pI.ad ad_Md) (fun X C E => ?_)
  show Z X G 3 0 0 _ 0 [(0, .ref da), (1, .int x), (2, .int y)] []
  refine z_aload_n (pc := 0) C 0 dX9_patternAt_0 rfl ?_
  refine z_get (pc := 1) C 0 0 dX9_patternAt_1 rfl rfl i_X9 (by decide) q_829 rfl ?_
  refine z_bipush (pc := 4) (v := 72) C dX9_patternAt_4 (by decide) ?_
  refine z_iload_n (pc := 6) C 2 dX9_patternAt_6 rfl ?_
  refine z_bipush (pc := 7) (v := 8) C dX9_patternAt_7 (by decide) ?_
  refine z_irem (pc := 9) C dX9_patternAt_9 (by decide) ?_
  refine z_iadd (pc := 10) C dX9_patternAt_10 ?_
  refine z_iald (pc := 11) C 1 dX9_patternAt_11 rfl (ix_pat hY) ?_
  refine z_bipush (pc := 12) (v := 7) C dX9_patternAt_12 (by decide) ?_
  refine z_iload_n (pc := 14) C 1 dX9_patternAt_14 rfl ?_
  refine z_bipush (pc := 15) (v := 8) C dX9_patternAt_15 (by decide) ?_
  refine z_irem (pc := 17) C dX9_patternAt_17 (by decide) ?_
  refine z_isub (pc := 18) C dX9_patternAt_18 ?_
  refine z_ishr (pc := 19) C dX9_patternAt_19 ?_
  refine z_iconst (pc := 20) (v := 1) C dX9_patternAt_20 (by decide) ?_
  refine z_iand (pc := 21) C dX9_patternAt_21 ?_
  exact z_iret (pc := 22) C E dX9_patternAt_22 (pI.mk rfl rfl)

def b_X9_isOpen_19 (now : Nat → Int32) (x : Int32) (y : Int32) (i_19 : Nat) (z_19 : Int32) : Int32 := (if z_19 = 0 then if (f_X9_in ((x - (now (80 + (4 * (nI i_19))).toNatClampNeg)).toInt64) 0 (((now ((80 + (4 * (nI i_19))) + 2).toNatClampNeg) - 1).toInt64)) = 0 then 0 else if (f_X9_in ((y - (now ((80 + (4 * (nI i_19))) + 1).toNatClampNeg)).toInt64) 0 (((now ((80 + (4 * (nI i_19))) + 3).toNatClampNeg) - 1).toInt64)) = 0 then 0 else 1 else 1 : Int32)
def s_X9_isOpen_19 (now : Nat → Int32) (x : Int32) (y : Int32) : Nat → Int32
  | 0 => (if (now (96 : Int32).toNatClampNeg) = 0 then 1 else 0 : Int32)
  | i_19 + 1 => b_X9_isOpen_19 now x y i_19 (s_X9_isOpen_19 now x y i_19)
def f_X9_isOpen (now : Nat → Int32) (x : Int32) (y : Int32) : Int32 := (s_X9_isOpen_19 now x y ((now (96 : Int32).toNatClampNeg).toNatClampNeg))
theorem mo_01 (now : Nat → Int32) (x y : Int32) : ∀ n : Nat, s_X9_isOpen_19 now x y n = 0 ∨ s_X9_isOpen_19 now x y n = 1
  | 0 => by unfold s_X9_isOpen_19; split <;> simp
  | n + 1 => by unfold s_X9_isOpen_19 b_X9_isOpen_19; (repeat' split) <;> simp
theorem nb_X9_isOpen {now : Nat → Int32} {x y : Int32} : narrow .boolean (.int (f_X9_isOpen now x y)) = .int (f_X9_isOpen now x y) := by
  unfold f_X9_isOpen
  rcases mo_01 now x y (now (96 : Int32).toNatClampNeg).toNatClampNeg with h | h <;> rw [h] <;> rfl
set_option maxRecDepth 100000 in
theorem c_X9_isOpen {l : Launch} {G : zG} {da dn dp dr ds dl dc dt dg : Nat} {now : Nat → Int32} {past : Nat → Int32} {states : Int32} {refused : Nat → Int32} {aside : Nat → Int32} {pile : Nat → Int32} {came : Nat → Int32} {pileL : Int32} {text : Nat → Int32} {textL : Int32} {place : Int32} {nargs : Nat → Int32} {x : Int32} {y : Int32} (hm : mOk now) : Ct l G yX9_isOpen cX9_isOpen 6 (Option.some FieldType.boolean) 1 25 [.ref da, .int x, .int y] (wMd G da dn dp dr ds dl dc dt dg now past states refused aside pile came pileL text textL place nargs) (pI (f_X9_isOpen now x y) (wMd G da dn dp dr ds dl dc dt dg now past states refused aside pile came pileL text textL place nargs)) := by
  refine Ct.of (plainFor_of_name (by decide)) (Nat.le_of_ble_eq_true rfl) (pI.ad ad_Md) (fun X C E => ?_)
  show Z X G 6 0 0 _ 0 [(0, .ref da), (1, .int x), (2, .int y)] []
  have hk := cOk_nI hm
  refine z_aload_n (pc := 0) C 0 dX9_isOpen_0 rfl ?_
  refine z_get (pc := 1) C 0 0 dX9_isOpen_1 rfl rfl i_X9 (by decide) q_829 rfl ?_
  refine z_bipush (pc := 4) (v := 96) C dX9_isOpen_4 (by decide) ?_
  refine z_iald (pc := 6) C 1 dX9_isOpen_6 rfl (ix_c (k := 96) rfl (by decide) (by decide)) ?_
  have K_15 : Z X G 6 0 0 (wMd G da dn dp dr ds dl dc dt dg now past states refused aside pile came pileL text textL place nargs) 15 [(0, .ref da), (1, .int x), (2, .int y)] [.int (if (now (96 : Int32).toNatClampNeg) = 0 then 1 else 0 : Int32)] := by
    refine z_istore_n (pc := 15) [(3, _), (0, _), (1, _), (2, _)] C dX9_isOpen_15 rfl (by decide) rfl ?_
    refine z_iconst (pc := 16) (v := 0) C dX9_isOpen_16 (by decide) ?_
    refine z_istore (pc := 17) [(4, _), (3, _), (0, _), (1, _), (2, _)] C dX9_isOpen_17 (by decide) rfl ?_
    refine z_lv (lv' := [(0, _), (1, _), (2, _), (3, _), (4, _)]) [2, 3, 4, 1, 0] rfl ?_
    refine z_loop (pc := 19) (e := (now (96 : Int32).toNatClampNeg).toNatClampNeg) (fun i_19 => wMd G da dn dp dr ds dl dc dt dg now past states refused aside pile came pileL text textL place nargs) (fun i_19 => [(0, .ref da), (1, .int x), (2, .int y), (3, .int (s_X9_isOpen_19 now x y i_19)), (4, .int (nI i_19))]) [] (fun i_19 hi_19 ih_19 => ?_) ?_ 0 (Nat.zero_le _)
    · show Z X G 6 0 0 (wMd G da dn dp dr ds dl dc dt dg now past states refused aside pile came pileL text textL place nargs) 19 [(0, .ref da), (1, .int x), (2, .int y), (3, .int (s_X9_isOpen_19 now x y i_19)), (4, .int (nI i_19))] []
      generalize hz_19 : s_X9_isOpen_19 now x y i_19 = z_19
      refine z_iload (pc := 19) C 4 dX9_isOpen_19 rfl ?_
      refine z_aload_n (pc := 21) C 0 dX9_isOpen_21 rfl ?_
      refine z_get (pc := 22) C 0 0 dX9_isOpen_22 rfl rfl i_X9 (by decide) q_829 rfl ?_
      refine z_bipush (pc := 25) (v := 96) C dX9_isOpen_25 (by decide) ?_
      refine z_iald (pc := 27) C 1 dX9_isOpen_27 rfl (ix_c (k := 96) rfl (by decide) (by decide)) ?_
      refine z_icmp_ge (pc := 28) 116 C dX9_isOpen_28 (by decide) (fun c_28 => ?_) (fun c_28 => ?_)
      · skip
        exact absurd c_28 (lps (hk.1) (by omega) (by omega))
      · skip
        refine z_bipush (pc := 31) (v := 80) C dX9_isOpen_31 (by decide) ?_
        refine z_iconst (pc := 33) (v := 4) C dX9_isOpen_33 (by decide) ?_
        refine z_iload (pc := 34) C 4 dX9_isOpen_34 rfl ?_
        refine z_imul (pc := 36) C dX9_isOpen_36 ?_
        refine z_iadd (pc := 37) C dX9_isOpen_37 ?_
        refine z_istore (pc := 38) [(5, _), (0, _), (1, _), (2, _), (3, _), (4, _)] C dX9_isOpen_38 (by decide) rfl ?_
        refine z_iload_n (pc := 40) C 4 dX9_isOpen_40 rfl ?_
        have K_109 : Z X G 6 0 0 (wMd G da dn dp dr ds dl dc dt dg now past states refused aside pile came pileL text textL place nargs) 109 [(0, .ref da), (1, .int x), (2, .int y), (3, .int z_19), (4, .int (nI i_19)), (5, .int (80 + (4 * (nI i_19))))] [.int (if z_19 = 0 then if (f_X9_in ((x - (now (80 + (4 * (nI i_19))).toNatClampNeg)).toInt64) 0 (((now ((80 + (4 * (nI i_19))) + 2).toNatClampNeg) - 1).toInt64)) = 0 then 0 else if (f_X9_in ((y - (now ((80 + (4 * (nI i_19))) + 1).toNatClampNeg)).toInt64) 0 (((now ((80 + (4 * (nI i_19))) + 3).toNatClampNeg) - 1).toInt64)) = 0 then 0 else 1 else 1 : Int32)] := by
          refine z_istore_n (pc := 109) [(3, _), (0, _), (1, _), (2, _), (4, _), (5, _)] C dX9_isOpen_109 rfl (by decide) rfl ?_
          refine z_iinc (pc := 110) (v := nI (i_19 + 1)) [(4, _), (3, _), (0, _), (1, _), (2, _), (5, _)] C 4 dX9_isOpen_110 rfl ((nI_succ _).symm) (by decide) rfl ?_
          refine z_goto (pc := 113) 19 C dX9_isOpen_113 (by decide) ?_
          refine z_lv (lv' := [(0, _), (1, _), (2, _), (3, _), (4, _)]) [2, 3, 4, 1, 0] rfl ?_
          exact z_eq rfl (by simp only [s_X9_isOpen_19, hz_19, b_X9_isOpen_19]) rfl ih_19
        refine z_if_ne (pc := 41) 104 C dX9_isOpen_41 (by decide) (fun c_41 => ?_) (fun c_41 => ?_)
        · skip
          refine z_iconst (pc := 104) (v := 1) C dX9_isOpen_104 (by decide) ?_
          refine z_goto (pc := 105) 109 C dX9_isOpen_105 (by decide) ?_
          refine z_lv (lv' := [(0, _), (1, _), (2, _), (3, _), (4, _), (5, _)]) [1, 2, 3, 4, 5, 0] rfl ?_
          exact z_eq rfl rfl (by simp only [if_neg c_41]) K_109
        · skip
          refine z_iload_n (pc := 44) C 2 dX9_isOpen_44 rfl ?_
          refine z_aload_n (pc := 45) C 1 dX9_isOpen_45 rfl ?_
          refine z_get (pc := 46) C 0 0 dX9_isOpen_46 rfl rfl i_X9 (by decide) q_829 rfl ?_
          refine z_iload (pc := 49) C 0 dX9_isOpen_49 rfl ?_
          refine z_iald (pc := 51) C 1 dX9_isOpen_51 rfl (ix_mo0 hi_19 hk.2) ?_
          refine z_isub (pc := 52) C dX9_isOpen_52 ?_
          refine z_i2l (pc := 53) C dX9_isOpen_53 ?_
          refine z_lconst (pc := 54) (v := 0) C dX9_isOpen_54 (by decide) ?_
          refine z_aload_n (pc := 55) C 1 dX9_isOpen_55 rfl ?_
          refine z_get (pc := 56) C 0 0 dX9_isOpen_56 rfl rfl i_X9 (by decide) q_829 rfl ?_
          refine z_iload (pc := 59) C 0 dX9_isOpen_59 rfl ?_
          refine z_iconst (pc := 61) (v := 2) C dX9_isOpen_61 (by decide) ?_
          refine z_iadd (pc := 62) C dX9_isOpen_62 ?_
          refine z_iald (pc := 63) C 1 dX9_isOpen_63 rfl (ix_mo hi_19 hk.2 2 rfl (by decide)) ?_
          refine z_iconst (pc := 64) (v := 1) C dX9_isOpen_64 (by decide) ?_
          refine z_isub (pc := 65) C dX9_isOpen_65 ?_
          refine z_i2l (pc := 66) C dX9_isOpen_66 ?_
          refine z_callS (pc := 67) C (c_X9_in) [] z00 mS_X9_in q_875 dX9_isOpen_67 rfl rfl rfl rfl (Nat.le_of_ble_eq_true rfl) (by decide) (pI.stay rfl ?_)
          refine z_if_eq (pc := 70) 108 C dX9_isOpen_70 (by decide) (fun c_70 => ?_) (fun c_70 => ?_)
          · skip
            refine z_iconst (pc := 108) (v := 0) C dX9_isOpen_108 (by decide) ?_
            refine z_lv (lv' := [(0, _), (1, _), (2, _), (3, _), (4, _), (5, _)]) [1, 2, 3, 4, 5, 0] rfl ?_
            exact z_eq rfl rfl (by simp only [if_pos c_41, if_pos c_70]) K_109
          · skip
            refine z_iload_n (pc := 73) C 3 dX9_isOpen_73 rfl ?_
            refine z_aload_n (pc := 74) C 1 dX9_isOpen_74 rfl ?_
            refine z_get (pc := 75) C 0 0 dX9_isOpen_75 rfl rfl i_X9 (by decide) q_829 rfl ?_
            refine z_iload (pc := 78) C 0 dX9_isOpen_78 rfl ?_
            refine z_iconst (pc := 80) (v := 1) C dX9_isOpen_80 (by decide) ?_
            refine z_iadd (pc := 81) C dX9_isOpen_81 ?_
            refine z_iald (pc := 82) C 1 dX9_isOpen_82 rfl (ix_mo hi_19 hk.2 1 rfl (by decide)) ?_
            refine z_isub (pc := 83) C dX9_isOpen_83 ?_
            refine z_i2l (pc := 84) C dX9_isOpen_84 ?_
            refine z_lconst (pc := 85) (v := 0) C dX9_isOpen_85 (by decide) ?_
            refine z_aload_n (pc := 86) C 1 dX9_isOpen_86 rfl ?_
            refine z_get (pc := 87) C 0 0 dX9_isOpen_87 rfl rfl i_X9 (by decide) q_829 rfl ?_
            refine z_iload (pc := 90) C 0 dX9_isOpen_90 rfl ?_
            refine z_iconst (pc := 92) (v := 3) C dX9_isOpen_92 (by decide) ?_
            refine z_iadd (pc := 93) C dX9_isOpen_93 ?_
            refine z_iald (pc := 94) C 1 dX9_isOpen_94 rfl (ix_mo hi_19 hk.2 3 rfl (by decide)) ?_
            refine z_iconst (pc := 95) (v := 1) C dX9_isOpen_95 (by decide) ?_
            refine z_isub (pc := 96) C dX9_isOpen_96 ?_
            refine z_i2l (pc := 97) C dX9_isOpen_97 ?_
            refine z_callS (pc := 98) C (c_X9_in) [] z00 mS_X9_in q_875 dX9_isOpen_98 rfl rfl rfl rfl (Nat.le_of_ble_eq_true rfl) (by decide) (pI.stay rfl ?_)
            refine z_if_eq (pc := 101) 108 C dX9_isOpen_101 (by decide) (fun c_101 => ?_) (fun c_101 => ?_)
            · skip
              refine z_iconst (pc := 108) (v := 0) C dX9_isOpen_108 (by decide) ?_
              refine z_lv (lv' := [(0, _), (1, _), (2, _), (3, _), (4, _), (5, _)]) [1, 2, 3, 4, 5, 0] rfl ?_
              exact z_eq rfl rfl (by simp only [if_pos c_41, if_neg c_70, if_pos c_101]) K_109
            · skip
              refine z_iconst (pc := 104) (v := 1) C dX9_isOpen_104 (by decide) ?_
              refine z_goto (pc := 105) 109 C dX9_isOpen_105 (by decide) ?_
              refine z_lv (lv' := [(0, _), (1, _), (2, _), (3, _), (4, _), (5, _)]) [1, 2, 3, 4, 5, 0] rfl ?_
              exact z_eq rfl rfl (by simp only [if_pos c_41, if_neg c_70, if_neg c_101]) K_109
    · show Z X G 6 0 0 (wMd G da dn dp dr ds dl dc dt dg now past states refused aside pile came pileL text textL place nargs) 19 [(0, .ref da), (1, .int x), (2, .int y), (3, .int (s_X9_isOpen_19 now x y ((now (96 : Int32).toNatClampNeg).toNatClampNeg))), (4, .int (nI ((now (96 : Int32).toNatClampNeg).toNatClampNeg)))] []
      refine z_iload (pc := 19) C 4 dX9_isOpen_19 rfl ?_
      refine z_aload_n (pc := 21) C 0 dX9_isOpen_21 rfl ?_
      refine z_get (pc := 22) C 0 0 dX9_isOpen_22 rfl rfl i_X9 (by decide) q_829 rfl ?_
      refine z_bipush (pc := 25) (v := 96) C dX9_isOpen_25 (by decide) ?_
      refine z_iald (pc := 27) C 1 dX9_isOpen_27 rfl (ix_c (k := 96) rfl (by decide) (by decide)) ?_
      refine z_icmp_ge (pc := 28) 116 C dX9_isOpen_28 (by decide) (fun c_28 => ?_) (fun c_28 => ?_)
      · skip
        refine z_iload_n (pc := 116) C 3 dX9_isOpen_116 rfl ?_
        exact z_zret (pc := 117) C E dX9_isOpen_117 (nb_X9_isOpen) (pI.mk rfl rfl)
      · skip
        exact absurd (lpx (hk.1)) c_28
  refine z_if_ne (pc := 7) 14 C dX9_isOpen_7 (by decide) (fun c_7 => ?_) (fun c_7 => ?_)
  · skip
    refine z_iconst (pc := 14) (v := 0) C dX9_isOpen_14 (by decide) ?_
    refine z_lv (lv' := [(0, _), (1, _), (2, _)]) [0, 1, 2] rfl ?_
    exact z_eq rfl rfl (by simp only [if_neg c_7]) K_15
  · skip
    refine z_iconst (pc := 10) (v := 1) C dX9_isOpen_10 (by decide) ?_
    refine z_goto (pc := 11) 15 C dX9_isOpen_11 (by decide) ?_
    refine z_lv (lv' := [(0, _), (1, _), (2, _)]) [0, 1, 2] rfl ?_
    exact z_eq rfl rfl (by simp only [if_pos c_7]) K_15

def f_X9_joinsAt (now : Nat → Int32) (t : Int32) (x : Int32) (y : Int32) (s : Int32) (join : Int32) : Int32 := if (f_X9_isIn x y) = 0 then 0 else if (f_X9_isOpen now x y) = 0 then 0 else f_X9_sets now t x y ((join >>> ((((4 * s) + (2 * (f_X9_patternAt now x y))) + (f_X9_dotOf now t x y)) &&& 31)) &&& 1)
def g_X9_joinsAt_now (now : Nat → Int32) (t : Int32) (x : Int32) (y : Int32) (s : Int32) (join : Int32) : Nat → Int32 := if (f_X9_isIn x y) = 0 then now else if (f_X9_isOpen now x y) = 0 then now else g_X9_sets_now now t x y ((join >>> ((((4 * s) + (2 * (f_X9_patternAt now x y))) + (f_X9_dotOf now t x y)) &&& 31)) &&& 1)
set_option maxRecDepth 100000 in
theorem c_X9_joinsAt {l : Launch} {G : zG} {da dn dp dr ds dl dc dt dg : Nat} {now : Nat → Int32} {past : Nat → Int32} {states : Int32} {refused : Nat → Int32} {aside : Nat → Int32} {pile : Nat → Int32} {came : Nat → Int32} {pileL : Int32} {text : Nat → Int32} {textL : Int32} {place : Int32} {nargs : Nat → Int32} {t : Int32} {x : Int32} {y : Int32} {s : Int32} {join : Int32} (hT : pT t) (hm : mOk now) : Ct l G yX9_joinsAt cX9_joinsAt 7 (Option.some FieldType.int) 4 94 [.ref da, .int t, .int x, .int y, .int s, .int join] (wMd G da dn dp dr ds dl dc dt dg now past states refused aside pile came pileL text textL place nargs) (pI (f_X9_joinsAt now t x y s join) (wMd G da dn dp dr ds dl dc dt dg (g_X9_joinsAt_now now t x y s join) past states refused aside pile came pileL text textL place nargs)) := by
  refine Ct.of (plainFor_of_name (by decide)) (Nat.le_of_ble_eq_true rfl) (pI.ad ad_Md) (fun X C E => ?_)
  show Z X G 7 0 0 _ 0 [(0, .ref da), (1, .int t), (2, .int x), (3, .int y), (4, .int s), (5, .int join)] []
  refine z_iload_n (pc := 0) C 2 dX9_joinsAt_0 rfl ?_
  refine z_iload_n (pc := 1) C 3 dX9_joinsAt_1 rfl ?_
  refine z_callS (pc := 2) C (c_X9_isIn) [] z00 mS_X9_isIn q_878 dX9_joinsAt_2 rfl rfl rfl rfl (Nat.le_of_ble_eq_true rfl) (by decide) (pI.stay rfl ?_)
  refine z_if_eq (pc := 5) 17 C dX9_joinsAt_5 (by decide) (fun c_5 => ?_) (fun c_5 => ?_)
  · skip
    refine z_iconst (pc := 17) (v := 0) C dX9_joinsAt_17 (by decide) ?_
    exact z_iret (pc := 18) C E dX9_joinsAt_18 (pI.mk (by simp only [f_X9_joinsAt, if_pos c_5]) (by simp only [g_X9_joinsAt_now, if_pos c_5]))
  · skip
    refine z_aload_n (pc := 8) C 0 dX9_joinsAt_8 rfl ?_
    refine z_iload_n (pc := 9) C 2 dX9_joinsAt_9 rfl ?_
    refine z_iload_n (pc := 10) C 3 dX9_joinsAt_10 rfl ?_
    refine z_callV (pc := 11) C (c_X9_isOpen (by exact hm)) [0, 1, 2, 3, 4, 5, 6, 7, 8] z00 mV_X9_isOpen q_974 dX9_joinsAt_11 rfl rfl rfl 0 rfl rfl rfl rfl (Nat.le_of_ble_eq_true rfl) (by decide) (pI.stay rfl ?_)
    refine z_if_ne (pc := 14) 19 C dX9_joinsAt_14 (by decide) (fun c_14 => ?_) (fun c_14 => ?_)
    · skip
      refine z_iconst (pc := 19) (v := 4) C dX9_joinsAt_19 (by decide) ?_
      refine z_iload (pc := 20) C 4 dX9_joinsAt_20 rfl ?_
      refine z_imul (pc := 22) C dX9_joinsAt_22 ?_
      refine z_iconst (pc := 23) (v := 2) C dX9_joinsAt_23 (by decide) ?_
      refine z_aload_n (pc := 24) C 0 dX9_joinsAt_24 rfl ?_
      refine z_iload_n (pc := 25) C 2 dX9_joinsAt_25 rfl ?_
      refine z_iload_n (pc := 26) C 3 dX9_joinsAt_26 rfl ?_
      refine z_callV (pc := 27) C (c_X9_patternAt (by exact (mI_ne c_5).2)) [0, 1, 2, 3, 4, 5, 6, 7, 8] z00 mV_X9_patternAt q_978 dX9_joinsAt_27 rfl rfl rfl 0 rfl rfl rfl rfl (Nat.le_of_ble_eq_true rfl) (by decide) (pI.stay rfl ?_)
      refine z_imul (pc := 30) C dX9_joinsAt_30 ?_
      refine z_iadd (pc := 31) C dX9_joinsAt_31 ?_
      refine z_aload_n (pc := 32) C 0 dX9_joinsAt_32 rfl ?_
      refine z_iload_n (pc := 33) C 1 dX9_joinsAt_33 rfl ?_
      refine z_iload_n (pc := 34) C 2 dX9_joinsAt_34 rfl ?_
      refine z_iload_n (pc := 35) C 3 dX9_joinsAt_35 rfl ?_
      refine z_callV (pc := 36) C (c_X9_dotOf (by exact hT)) [0, 1, 2, 3, 4, 5, 6, 7, 8] z00 mV_X9_dotOf q_895 dX9_joinsAt_36 rfl rfl rfl 0 rfl rfl rfl rfl (Nat.le_of_ble_eq_true rfl) (by decide) (pI.stay rfl ?_)
      refine z_iadd (pc := 39) C dX9_joinsAt_39 ?_
      refine z_istore (pc := 40) [(6, _), (0, _), (1, _), (2, _), (3, _), (4, _), (5, _)] C dX9_joinsAt_40 (by decide) rfl ?_
      refine z_aload_n (pc := 42) C 1 dX9_joinsAt_42 rfl ?_
      refine z_iload_n (pc := 43) C 2 dX9_joinsAt_43 rfl ?_
      refine z_iload_n (pc := 44) C 3 dX9_joinsAt_44 rfl ?_
      refine z_iload_n (pc := 45) C 4 dX9_joinsAt_45 rfl ?_
      refine z_iload (pc := 46) C 6 dX9_joinsAt_46 rfl ?_
      refine z_iload (pc := 48) C 0 dX9_joinsAt_48 rfl ?_
      refine z_ishr (pc := 50) C dX9_joinsAt_50 ?_
      refine z_iconst (pc := 51) (v := 1) C dX9_joinsAt_51 (by decide) ?_
      refine z_iand (pc := 52) C dX9_joinsAt_52 ?_
      refine z_callV (pc := 53) C (c_X9_sets (by exact hT) (by exact (mI_ne c_5).2)) [0, 1, 2, 3, 4, 5, 6, 7, 8] z00 mV_X9_sets q_891 dX9_joinsAt_53 rfl rfl rfl 0 rfl rfl rfl rfl (Nat.le_of_ble_eq_true rfl) (by decide) (pI.go (ws' := wMd G da dn dp dr ds dl dc dt dg _ past states refused aside pile came pileL text textL place nargs) rfl ?_)
      exact z_iret (pc := 56) C E dX9_joinsAt_56 (pI.mk (by simp only [f_X9_joinsAt, if_neg c_5, if_neg c_14]) (by simp only [g_X9_joinsAt_now, if_neg c_5, if_neg c_14]))
    · skip
      refine z_iconst (pc := 17) (v := 0) C dX9_joinsAt_17 (by decide) ?_
      exact z_iret (pc := 18) C E dX9_joinsAt_18 (pI.mk (by simp only [f_X9_joinsAt, if_neg c_5, if_pos c_14]) (by simp only [g_X9_joinsAt_now, if_neg c_5, if_pos c_14]))

def f_X9_dot (now : Nat → Int32) (t : Int32) (x : Int32) (y : Int32) (v : Int32) : Int32 := if (f_X9_isPicture t) = 0 then f_X9_bad (-2) else if (f_X9_isIn x y) = 0 then f_X9_bad (-2) else if (f_X9_in v.toInt64 0 1) = 0 then f_X9_bad (-2) else if (f_X9_sets now t x y v) = 1 then 1 - v else v
def g_X9_dot_now (now : Nat → Int32) (t : Int32) (x : Int32) (y : Int32) (v : Int32) : Nat → Int32 := if (f_X9_isPicture t) = 0 then now else if (f_X9_isIn x y) = 0 then now else if (f_X9_in v.toInt64 0 1) = 0 then now else g_X9_sets_now now t x y v
def g_X9_dot_past (now : Nat → Int32) (past : Nat → Int32) (states : Int32) (t : Int32) (x : Int32) (y : Int32) (v : Int32) : Nat → Int32 := if (f_X9_isPicture t) = 0 then past else if (f_X9_isIn x y) = 0 then past else if (f_X9_in v.toInt64 0 1) = 0 then past else g_X9_keep_past now past states
def g_X9_dot_states (states : Int32) (t : Int32) (x : Int32) (y : Int32) (v : Int32) : Int32 := if (f_X9_isPicture t) = 0 then states else if (f_X9_isIn x y) = 0 then states else if (f_X9_in v.toInt64 0 1) = 0 then states else g_X9_keep_states states
def g_X9_dot_refused (refused : Nat → Int32) (t : Int32) (x : Int32) (y : Int32) (v : Int32) : Nat → Int32 := if (f_X9_isPicture t) = 0 then g_X9_bad_refused refused else if (f_X9_isIn x y) = 0 then g_X9_bad_refused refused else if (f_X9_in v.toInt64 0 1) = 0 then g_X9_bad_refused refused else refused
set_option maxRecDepth 100000 in
theorem c_X9_dot {l : Launch} {G : zG} {da dn dp dr ds dl dc dt dg : Nat} {now : Nat → Int32} {past : Nat → Int32} {states : Int32} {refused : Nat → Int32} {aside : Nat → Int32} {pile : Nat → Int32} {came : Nat → Int32} {pileL : Int32} {text : Nat → Int32} {textL : Int32} {place : Int32} {nargs : Nat → Int32} {t : Int32} {x : Int32} {y : Int32} {v : Int32} (hq : qOk states) : Ct l G yX9_dot cX9_dot 6 (Option.some FieldType.int) 4 94 [.ref da, .int t, .int x, .int y, .int v] (wMd G da dn dp dr ds dl dc dt dg now past states refused aside pile came pileL text textL place nargs) (pI (f_X9_dot now t x y v) (wMd G da dn dp dr ds dl dc dt dg (g_X9_dot_now now t x y v) (g_X9_dot_past now past states t x y v) (g_X9_dot_states states t x y v) (g_X9_dot_refused refused t x y v) aside pile came pileL text textL place nargs)) := by
  refine Ct.of (plainFor_of_name (by decide)) (Nat.le_of_ble_eq_true rfl) (pI.ad ad_Md) (fun X C E => ?_)
  show Z X G 6 0 0 _ 0 [(0, .ref da), (1, .int t), (2, .int x), (3, .int y), (4, .int v)] []
  refine z_iload_n (pc := 0) C 1 dX9_dot_0 rfl ?_
  refine z_callS (pc := 1) C (c_X9_isPicture) [] z00 mS_X9_isPicture q_871 dX9_dot_1 rfl rfl rfl rfl (Nat.le_of_ble_eq_true rfl) (by decide) (pI.stay rfl ?_)
  refine z_if_eq (pc := 4) 26 C dX9_dot_4 (by decide) (fun c_4 => ?_) (fun c_4 => ?_)
  · skip
    refine z_aload_n (pc := 26) C 0 dX9_dot_26 rfl ?_
    refine z_bipush (pc := 27) (v := (-2)) C dX9_dot_27 (by decide) ?_
    refine z_callV (pc := 29) C (c_X9_bad) [0, 1, 2, 3, 4, 5, 6, 7, 8] z00 mV_X9_bad q_883 dX9_dot_29 rfl rfl rfl 0 rfl rfl rfl rfl (Nat.le_of_ble_eq_true rfl) (by decide) (pI.go (ws' := wMd G da dn dp dr ds dl dc dt dg now past states _ aside pile came pileL text textL place nargs) rfl ?_)
    exact z_iret (pc := 32) C E dX9_dot_32 (pI.mk (by simp only [f_X9_dot, if_pos c_4]) (by simp only [g_X9_dot_now, g_X9_dot_past, g_X9_dot_states, g_X9_dot_refused, if_pos c_4]))
  · skip
    refine z_iload_n (pc := 7) C 2 dX9_dot_7 rfl ?_
    refine z_iload_n (pc := 8) C 3 dX9_dot_8 rfl ?_
    refine z_callS (pc := 9) C (c_X9_isIn) [] z00 mS_X9_isIn q_878 dX9_dot_9 rfl rfl rfl rfl (Nat.le_of_ble_eq_true rfl) (by decide) (pI.stay rfl ?_)
    refine z_if_eq (pc := 12) 26 C dX9_dot_12 (by decide) (fun c_12 => ?_) (fun c_12 => ?_)
    · skip
      refine z_aload_n (pc := 26) C 0 dX9_dot_26 rfl ?_
      refine z_bipush (pc := 27) (v := (-2)) C dX9_dot_27 (by decide) ?_
      refine z_callV (pc := 29) C (c_X9_bad) [0, 1, 2, 3, 4, 5, 6, 7, 8] z00 mV_X9_bad q_883 dX9_dot_29 rfl rfl rfl 0 rfl rfl rfl rfl (Nat.le_of_ble_eq_true rfl) (by decide) (pI.go (ws' := wMd G da dn dp dr ds dl dc dt dg now past states _ aside pile came pileL text textL place nargs) rfl ?_)
      exact z_iret (pc := 32) C E dX9_dot_32 (pI.mk (by simp only [f_X9_dot, if_neg c_4, if_pos c_12]) (by simp only [g_X9_dot_now, g_X9_dot_past, g_X9_dot_states, g_X9_dot_refused, if_neg c_4, if_pos c_12]))
    · skip
      refine z_iload (pc := 15) C 4 dX9_dot_15 rfl ?_
      refine z_i2l (pc := 17) C dX9_dot_17 ?_
      refine z_lconst (pc := 18) (v := 0) C dX9_dot_18 (by decide) ?_
      refine z_lconst (pc := 19) (v := 1) C dX9_dot_19 (by decide) ?_
      refine z_callS (pc := 20) C (c_X9_in) [] z00 mS_X9_in q_875 dX9_dot_20 rfl rfl rfl rfl (Nat.le_of_ble_eq_true rfl) (by decide) (pI.stay rfl ?_)
      refine z_if_ne (pc := 23) 33 C dX9_dot_23 (by decide) (fun c_23 => ?_) (fun c_23 => ?_)
      · skip
        refine z_aload_n (pc := 33) C 0 dX9_dot_33 rfl ?_
        refine z_callV (pc := 34) C (c_X9_keep (by exact hq)) [0, 1, 2, 3, 4, 5, 6, 7, 8] z00 mV_X9_keep q_887 dX9_dot_34 rfl rfl rfl 0 rfl rfl rfl rfl (Nat.le_of_ble_eq_true rfl) (by decide) (pV.go (ws' := wMd G da dn dp dr ds dl dc dt dg now _ _ refused aside pile came pileL text textL place nargs) rfl ?_)
        refine z_aload_n (pc := 37) C 0 dX9_dot_37 rfl ?_
        refine z_iload_n (pc := 38) C 1 dX9_dot_38 rfl ?_
        refine z_iload_n (pc := 39) C 2 dX9_dot_39 rfl ?_
        refine z_iload_n (pc := 40) C 3 dX9_dot_40 rfl ?_
        refine z_iload (pc := 41) C 4 dX9_dot_41 rfl ?_
        refine z_callV (pc := 43) C (c_X9_sets (by exact (mP_ne c_4)) (by exact (mI_ne c_12).2)) [0, 1, 2, 3, 4, 5, 6, 7, 8] z00 mV_X9_sets q_891 dX9_dot_43 rfl rfl rfl 0 rfl rfl rfl rfl (Nat.le_of_ble_eq_true rfl) (by decide) (pI.go (ws' := wMd G da dn dp dr ds dl dc dt dg _ _ _ refused aside pile came pileL text textL place nargs) rfl ?_)
        refine z_istore (pc := 46) [(5, _), (0, _), (1, _), (2, _), (3, _), (4, _)] C dX9_dot_46 (by decide) rfl ?_
        refine z_iload (pc := 48) C 0 dX9_dot_48 rfl ?_
        refine z_iconst (pc := 50) (v := 1) C dX9_dot_50 (by decide) ?_
        refine z_icmp_ne (pc := 51) 61 C dX9_dot_51 (by decide) (fun c_51 => ?_) (fun c_51 => ?_)
        · skip
          refine z_iload (pc := 61) C 5 dX9_dot_61 rfl ?_
          exact z_iret (pc := 63) C E dX9_dot_63 (pI.mk (by simp only [f_X9_dot, if_neg c_4, if_neg c_12, if_neg c_23, if_neg c_51]) (by simp only [g_X9_dot_now, g_X9_dot_past, g_X9_dot_states, g_X9_dot_refused, if_neg c_4, if_neg c_12, if_neg c_23, if_neg c_51]))
        · skip
          refine z_iconst (pc := 54) (v := 1) C dX9_dot_54 (by decide) ?_
          refine z_iload (pc := 55) C 5 dX9_dot_55 rfl ?_
          refine z_isub (pc := 57) C dX9_dot_57 ?_
          refine z_goto (pc := 58) 63 C dX9_dot_58 (by decide) ?_
          exact z_iret (pc := 63) C E dX9_dot_63 (pI.mk (by simp only [f_X9_dot, if_neg c_4, if_neg c_12, if_neg c_23, if_pos c_51]) (by simp only [g_X9_dot_now, g_X9_dot_past, g_X9_dot_states, g_X9_dot_refused, if_neg c_4, if_neg c_12, if_neg c_23, if_pos c_51]))
      · skip
        refine z_aload_n (pc := 26) C 0 dX9_dot_26 rfl ?_
        refine z_bipush (pc := 27) (v := (-2)) C dX9_dot_27 (by decide) ?_
        refine z_callV (pc := 29) C (c_X9_bad) [0, 1, 2, 3, 4, 5, 6, 7, 8] z00 mV_X9_bad q_883 dX9_dot_29 rfl rfl rfl 0 rfl rfl rfl rfl (Nat.le_of_ble_eq_true rfl) (by decide) (pI.go (ws' := wMd G da dn dp dr ds dl dc dt dg now past states _ aside pile came pileL text textL place nargs) rfl ?_)
        exact z_iret (pc := 32) C E dX9_dot_32 (pI.mk (by simp only [f_X9_dot, if_neg c_4, if_neg c_12, if_pos c_23]) (by simp only [g_X9_dot_now, g_X9_dot_past, g_X9_dot_states, g_X9_dot_refused, if_neg c_4, if_neg c_12, if_pos c_23]))

def f_X9_pattern (now : Nat → Int32) (y : Int32) (bits : Int32) : Int32 := if (f_X9_in y.toInt64 0 7) = 0 then f_X9_bad (-2) else if (f_X9_in bits.toInt64 0 255) = 0 then f_X9_bad (-2) else now (72 + y).toNatClampNeg
def g_X9_pattern_now (now : Nat → Int32) (y : Int32) (bits : Int32) : Nat → Int32 := if (f_X9_in y.toInt64 0 7) = 0 then now else if (f_X9_in bits.toInt64 0 255) = 0 then now else upd now (72 + y).toNatClampNeg bits
def g_X9_pattern_past (now : Nat → Int32) (past : Nat → Int32) (states : Int32) (y : Int32) (bits : Int32) : Nat → Int32 := if (f_X9_in y.toInt64 0 7) = 0 then past else if (f_X9_in bits.toInt64 0 255) = 0 then past else g_X9_keep_past now past states
def g_X9_pattern_states (states : Int32) (y : Int32) (bits : Int32) : Int32 := if (f_X9_in y.toInt64 0 7) = 0 then states else if (f_X9_in bits.toInt64 0 255) = 0 then states else g_X9_keep_states states
def g_X9_pattern_refused (refused : Nat → Int32) (y : Int32) (bits : Int32) : Nat → Int32 := if (f_X9_in y.toInt64 0 7) = 0 then g_X9_bad_refused refused else if (f_X9_in bits.toInt64 0 255) = 0 then g_X9_bad_refused refused else refused
theorem ix_72 {y : Int32} (h : ¬ f_X9_in y.toInt64 0 7 = 0) : vp_in (72 + y) 97 := by
  have b := mIn_ne h
  rw [Int32.toInt_toInt64] at b
  have e0 : (0 : Int64).toInt = 0 := rfl
  have e7 : (7 : Int64).toInt = 7 := rfl
  have e72 : (72 : Int32).toInt = 72 := rfl
  rw [vp_in_iff, tI_add (by omega) (by omega)]; omega
set_option maxRecDepth 100000 in
theorem c_X9_pattern {l : Launch} {G : zG} {da dn dp dr ds dl dc dt dg : Nat} {now : Nat → Int32} {past : Nat → Int32} {states : Int32} {refused : Nat → Int32} {aside : Nat → Int32} {pile : Nat → Int32} {came : Nat → Int32} {pileL : Int32} {text : Nat → Int32} {textL : Int32} {place : Int32} {nargs : Nat → Int32} {y : Int32} {bits : Int32} (hq : qOk states) : Ct l G yX9_pattern cX9_pattern 4 (Option.some FieldType.int) 1 25 [.ref da, .int y, .int bits] (wMd G da dn dp dr ds dl dc dt dg now past states refused aside pile came pileL text textL place nargs) (pI (f_X9_pattern now y bits) (wMd G da dn dp dr ds dl dc dt dg (g_X9_pattern_now now y bits) (g_X9_pattern_past now past states y bits) (g_X9_pattern_states states y bits) (g_X9_pattern_refused refused y bits) aside pile came pileL text textL place nargs)) := by
  refine Ct.of (plainFor_of_name (by decide)) (Nat.le_of_ble_eq_true rfl) (pI.ad ad_Md) (fun X C E => ?_)
  show Z X G 4 0 0 _ 0 [(0, .ref da), (1, .int y), (2, .int bits)] []
  refine z_iload_n (pc := 0) C 1 dX9_pattern_0 rfl ?_
  refine z_i2l (pc := 1) C dX9_pattern_1 ?_
  refine z_lconst (pc := 2) (v := 0) C dX9_pattern_2 (by decide) ?_
  refine z_ldc2_w (pc := 3) C q_906 dX9_pattern_3 ?_
  refine z_callS (pc := 6) C (c_X9_in) [] z00 mS_X9_in q_875 dX9_pattern_6 rfl rfl rfl rfl (Nat.le_of_ble_eq_true rfl) (by decide) (pI.stay rfl ?_)
  refine z_if_eq (pc := 9) 24 C dX9_pattern_9 (by decide) (fun c_9 => ?_) (fun c_9 => ?_)
  · skip
    refine z_aload_n (pc := 24) C 0 dX9_pattern_24 rfl ?_
    refine z_bipush (pc := 25) (v := (-2)) C dX9_pattern_25 (by decide) ?_
    refine z_callV (pc := 27) C (c_X9_bad) [0, 1, 2, 3, 4, 5, 6, 7, 8] z00 mV_X9_bad q_883 dX9_pattern_27 rfl rfl rfl 0 rfl rfl rfl rfl (Nat.le_of_ble_eq_true rfl) (by decide) (pI.go (ws' := wMd G da dn dp dr ds dl dc dt dg now past states _ aside pile came pileL text textL place nargs) rfl ?_)
    exact z_iret (pc := 30) C E dX9_pattern_30 (pI.mk (by simp only [f_X9_pattern, if_pos c_9]) (by simp only [g_X9_pattern_now, g_X9_pattern_past, g_X9_pattern_states, g_X9_pattern_refused, if_pos c_9]))
  · skip
    refine z_iload_n (pc := 12) C 2 dX9_pattern_12 rfl ?_
    refine z_i2l (pc := 13) C dX9_pattern_13 ?_
    refine z_lconst (pc := 14) (v := 0) C dX9_pattern_14 (by decide) ?_
    refine z_ldc2_w (pc := 15) C q_907 dX9_pattern_15 ?_
    refine z_callS (pc := 18) C (c_X9_in) [] z00 mS_X9_in q_875 dX9_pattern_18 rfl rfl rfl rfl (Nat.le_of_ble_eq_true rfl) (by decide) (pI.stay rfl ?_)
    refine z_if_ne (pc := 21) 31 C dX9_pattern_21 (by decide) (fun c_21 => ?_) (fun c_21 => ?_)
    · skip
      refine z_aload_n (pc := 31) C 0 dX9_pattern_31 rfl ?_
      refine z_callV (pc := 32) C (c_X9_keep (by exact hq)) [0, 1, 2, 3, 4, 5, 6, 7, 8] z00 mV_X9_keep q_887 dX9_pattern_32 rfl rfl rfl 0 rfl rfl rfl rfl (Nat.le_of_ble_eq_true rfl) (by decide) (pV.go (ws' := wMd G da dn dp dr ds dl dc dt dg now _ _ refused aside pile came pileL text textL place nargs) rfl ?_)
      refine z_aload_n (pc := 35) C 0 dX9_pattern_35 rfl ?_
      refine z_get (pc := 36) C 0 0 dX9_pattern_36 rfl rfl i_X9 (by decide) q_829 rfl ?_
      refine z_bipush (pc := 39) (v := 72) C dX9_pattern_39 (by decide) ?_
      refine z_iload_n (pc := 41) C 1 dX9_pattern_41 rfl ?_
      refine z_iadd (pc := 42) C dX9_pattern_42 ?_
      refine z_iald (pc := 43) C 1 dX9_pattern_43 rfl (ix_72 c_9) ?_
      refine z_istore_n (pc := 44) [(3, _), (0, _), (1, _), (2, _)] C dX9_pattern_44 rfl (by decide) rfl ?_
      refine z_aload_n (pc := 45) C 1 dX9_pattern_45 rfl ?_
      refine z_get (pc := 46) C 0 0 dX9_pattern_46 rfl rfl i_X9 (by decide) q_829 rfl ?_
      refine z_bipush (pc := 49) (v := 72) C dX9_pattern_49 (by decide) ?_
      refine z_iload_n (pc := 51) C 2 dX9_pattern_51 rfl ?_
      refine z_iadd (pc := 52) C dX9_pattern_52 ?_
      refine z_iload_n (pc := 53) C 3 dX9_pattern_53 rfl ?_
      refine z_iast (pc := 54) (wMd G da dn dp dr ds dl dc dt dg _ _ _ refused aside pile came pileL text textL place nargs) C 1 dX9_pattern_54 rfl (ix_72 c_9) rfl ?_
      refine z_iload_n (pc := 55) C 0 dX9_pattern_55 rfl ?_
      exact z_iret (pc := 56) C E dX9_pattern_56 (pI.mk (by simp only [f_X9_pattern, if_neg c_9, if_neg c_21]) (by simp only [g_X9_pattern_now, g_X9_pattern_past, g_X9_pattern_states, g_X9_pattern_refused, if_neg c_9, if_neg c_21]))
    · skip
      refine z_aload_n (pc := 24) C 0 dX9_pattern_24 rfl ?_
      refine z_bipush (pc := 25) (v := (-2)) C dX9_pattern_25 (by decide) ?_
      refine z_callV (pc := 27) C (c_X9_bad) [0, 1, 2, 3, 4, 5, 6, 7, 8] z00 mV_X9_bad q_883 dX9_pattern_27 rfl rfl rfl 0 rfl rfl rfl rfl (Nat.le_of_ble_eq_true rfl) (by decide) (pI.go (ws' := wMd G da dn dp dr ds dl dc dt dg now past states _ aside pile came pileL text textL place nargs) rfl ?_)
      exact z_iret (pc := 30) C E dX9_pattern_30 (pI.mk (by simp only [f_X9_pattern, if_neg c_9, if_pos c_21]) (by simp only [g_X9_pattern_now, g_X9_pattern_past, g_X9_pattern_states, g_X9_pattern_refused, if_neg c_9, if_pos c_21]))

def b_X9_dots_13 (now : Nat → Int32) (t : Int32) (i_4 : Nat) (i_13 : Nat) (z_13 : Int32) : Int32 := z_13 + (f_X9_dotOf now t (nI i_13) (nI i_4))
def s_X9_dots_13 (now : Nat → Int32) (t : Int32) (i_4 : Nat) (z_4 : Int32) : Nat → Int32
  | 0 => z_4
  | i_13 + 1 => b_X9_dots_13 now t i_4 i_13 (s_X9_dots_13 now t i_4 z_4 i_13)
def b_X9_dots_4 (now : Nat → Int32) (t : Int32) (i_4 : Nat) (z_4 : Int32) : Int32 := (s_X9_dots_13 now t i_4 z_4 32)
def s_X9_dots_4 (now : Nat → Int32) (t : Int32) : Nat → Int32
  | 0 => 0
  | i_4 + 1 => b_X9_dots_4 now t i_4 (s_X9_dots_4 now t i_4)
def f_X9_dots (now : Nat → Int32) (t : Int32) : Int32 := (s_X9_dots_4 now t 24)
set_option maxRecDepth 100000 in
theorem c_X9_dots {l : Launch} {G : zG} {da dn dp dr ds dl dc dt dg : Nat} {now : Nat → Int32} {past : Nat → Int32} {states : Int32} {refused : Nat → Int32} {aside : Nat → Int32} {pile : Nat → Int32} {came : Nat → Int32} {pileL : Int32} {text : Nat → Int32} {textL : Int32} {place : Int32} {nargs : Nat → Int32} {t : Int32} (hT : pT t) : Ct l G yX9_dots cX9_dots 5 (Option.some FieldType.int) 3 69 [.ref da, .int t] (wMd G da dn dp dr ds dl dc dt dg now past states refused aside pile came pileL text textL place nargs) (pI (f_X9_dots now t) (wMd G da dn dp dr ds dl dc dt dg now past states refused aside pile came pileL text textL place nargs)) := by
  refine Ct.of (plainFor_of_name (by decide)) (Nat.le_of_ble_eq_true rfl) (pI.ad ad_Md) (fun X C E => ?_)
  show Z X G 5 0 0 _ 0 [(0, .ref da), (1, .int t)] []
  refine z_iconst (pc := 0) (v := 0) C dX9_dots_0 (by decide) ?_
  refine z_istore_n (pc := 1) [(2, _), (0, _), (1, _)] C dX9_dots_1 rfl (by decide) rfl ?_
  refine z_iconst (pc := 2) (v := 0) C dX9_dots_2 (by decide) ?_
  refine z_istore_n (pc := 3) [(3, _), (2, _), (0, _), (1, _)] C dX9_dots_3 rfl (by decide) rfl ?_
  refine z_lv (lv' := [(0, _), (1, _), (2, _), (3, _)]) [2, 3, 1, 0] rfl ?_
  refine z_loop (pc := 4) (e := 24) (fun i_4 => wMd G da dn dp dr ds dl dc dt dg now past states refused aside pile came pileL text textL place nargs) (fun i_4 => [(0, .ref da), (1, .int t), (2, .int (s_X9_dots_4 now t i_4)), (3, .int (nI i_4))]) [] (fun i_4 hi_4 ih_4 => ?_) ?_ 0 (Nat.zero_le _)
  · show Z X G 5 0 0 (wMd G da dn dp dr ds dl dc dt dg now past states refused aside pile came pileL text textL place nargs) 4 [(0, .ref da), (1, .int t), (2, .int (s_X9_dots_4 now t i_4)), (3, .int (nI i_4))] []
    generalize hz_4 : s_X9_dots_4 now t i_4 = z_4
    refine z_iload_n (pc := 4) C 3 dX9_dots_4 rfl ?_
    refine z_bipush (pc := 5) (v := 24) C dX9_dots_5 (by decide) ?_
    refine z_icmp_ge (pc := 7) 43 C dX9_dots_7 (by decide) (fun c_7 => ?_) (fun c_7 => ?_)
    · skip
      exact absurd c_7 (nI_ge (b := 24) (by omega) (by decide))
    · skip
      refine z_iconst (pc := 10) (v := 0) C dX9_dots_10 (by decide) ?_
      refine z_istore (pc := 11) [(4, _), (0, _), (1, _), (2, _), (3, _)] C dX9_dots_11 (by decide) rfl ?_
      refine z_lv (lv' := [(0, _), (1, _), (2, _), (3, _), (4, _)]) [1, 2, 3, 4, 0] rfl ?_
      refine z_loop (pc := 13) (e := 32) (fun i_13 => wMd G da dn dp dr ds dl dc dt dg now past states refused aside pile came pileL text textL place nargs) (fun i_13 => [(0, .ref da), (1, .int t), (2, .int (s_X9_dots_13 now t i_4 z_4 i_13)), (3, .int (nI i_4)), (4, .int (nI i_13))]) [] (fun i_13 hi_13 ih_13 => ?_) ?_ 0 (Nat.zero_le _)
      · show Z X G 5 0 0 (wMd G da dn dp dr ds dl dc dt dg now past states refused aside pile came pileL text textL place nargs) 13 [(0, .ref da), (1, .int t), (2, .int (s_X9_dots_13 now t i_4 z_4 i_13)), (3, .int (nI i_4)), (4, .int (nI i_13))] []
        generalize hz_13 : s_X9_dots_13 now t i_4 z_4 i_13 = z_13
        refine z_iload (pc := 13) C 4 dX9_dots_13 rfl ?_
        refine z_bipush (pc := 15) (v := 32) C dX9_dots_15 (by decide) ?_
        refine z_icmp_ge (pc := 17) 37 C dX9_dots_17 (by decide) (fun c_17 => ?_) (fun c_17 => ?_)
        · skip
          exact absurd c_17 (nI_ge (b := 32) (by omega) (by decide))
        · skip
          refine z_iload_n (pc := 20) C 2 dX9_dots_20 rfl ?_
          refine z_aload_n (pc := 21) C 0 dX9_dots_21 rfl ?_
          refine z_iload_n (pc := 22) C 1 dX9_dots_22 rfl ?_
          refine z_iload (pc := 23) C 4 dX9_dots_23 rfl ?_
          refine z_iload_n (pc := 25) C 3 dX9_dots_25 rfl ?_
          refine z_callV (pc := 26) C (c_X9_dotOf (by exact hT)) [0, 1, 2, 3, 4, 5, 6, 7, 8] z00 mV_X9_dotOf q_895 dX9_dots_26 rfl rfl rfl 0 rfl rfl rfl rfl (Nat.le_of_ble_eq_true rfl) (by decide) (pI.stay rfl ?_)
          refine z_iadd (pc := 29) C dX9_dots_29 ?_
          refine z_istore_n (pc := 30) [(2, _), (0, _), (1, _), (3, _), (4, _)] C dX9_dots_30 rfl (by decide) rfl ?_
          refine z_iinc (pc := 31) (v := nI (i_13 + 1)) [(4, _), (2, _), (0, _), (1, _), (3, _)] C 4 dX9_dots_31 rfl ((nI_succ _).symm) (by decide) rfl ?_
          refine z_goto (pc := 34) 13 C dX9_dots_34 (by decide) ?_
          refine z_lv (lv' := [(0, _), (1, _), (2, _), (3, _), (4, _)]) [2, 3, 1, 4, 0] rfl ?_
          exact z_eq rfl (by simp only [s_X9_dots_13, hz_13, b_X9_dots_13]) rfl ih_13
      · show Z X G 5 0 0 (wMd G da dn dp dr ds dl dc dt dg now past states refused aside pile came pileL text textL place nargs) 13 [(0, .ref da), (1, .int t), (2, .int (s_X9_dots_13 now t i_4 z_4 32)), (3, .int (nI i_4)), (4, .int (nI 32))] []
        refine z_iload (pc := 13) C 4 dX9_dots_13 rfl ?_
        refine z_bipush (pc := 15) (v := 32) C dX9_dots_15 (by decide) ?_
        refine z_icmp_ge (pc := 17) 37 C dX9_dots_17 (by decide) (fun c_17 => ?_) (fun c_17 => ?_)
        · skip
          refine z_iinc (pc := 37) (v := nI (i_4 + 1)) [(3, _), (0, _), (1, _), (2, _), (4, _)] C 3 dX9_dots_37 rfl ((nI_succ _).symm) (by decide) rfl ?_
          refine z_goto (pc := 40) 4 C dX9_dots_40 (by decide) ?_
          refine z_lv (lv' := [(0, _), (1, _), (2, _), (3, _)]) [1, 2, 3, 0] rfl ?_
          exact z_eq rfl (by simp only [s_X9_dots_4, hz_4, b_X9_dots_4]) rfl ih_4
        · skip
          exact absurd (nI_le (Nat.le_refl 32) (by decide)) c_17
  · show Z X G 5 0 0 (wMd G da dn dp dr ds dl dc dt dg now past states refused aside pile came pileL text textL place nargs) 4 [(0, .ref da), (1, .int t), (2, .int (s_X9_dots_4 now t 24)), (3, .int (nI 24))] []
    refine z_iload_n (pc := 4) C 3 dX9_dots_4 rfl ?_
    refine z_bipush (pc := 5) (v := 24) C dX9_dots_5 (by decide) ?_
    refine z_icmp_ge (pc := 7) 43 C dX9_dots_7 (by decide) (fun c_7 => ?_) (fun c_7 => ?_)
    · skip
      refine z_iload_n (pc := 43) C 2 dX9_dots_43 rfl ?_
      exact z_iret (pc := 44) C E dX9_dots_44 (pI.mk rfl rfl)
    · skip
      exact absurd (nI_le (Nat.le_refl 24) (by decide)) c_7
