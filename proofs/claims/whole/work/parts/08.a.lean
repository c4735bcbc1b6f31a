def f_J9_max_7cf53 (a : Int32) (b : Int32) : Int32 := if a < b then b else a
set_option maxRecDepth 100000 in
theorem c_J9_max_7cf53 {l : Launch} {G : zG} {a : Int32} {b : Int32} : Ct l G yJ9_max_7cf53 cJ9_max_7cf53 2 (Option.some FieldType.int) 0 0 [.int a, .int b] ([]) (pI (f_J9_max_7cf53 a b) ([])) := by
  refine Ct.of (by decide +kernel) (Nat.le_of_ble_eq_true rfl) (pI.ad rfl) (fun X C E => ?_)
  show Z X G 2 0 0 _ 0 [(0, .int a), (1, .int b)] []
  refine z_iload_n (pc := 0) C 0 dJ9_max_7cf53_0 rfl ?_
  refine z_iload_n (pc := 1) C 1 dJ9_max_7cf53_1 rfl ?_
  refine z_icmp_lt (pc := 2) 9 C dJ9_max_7cf53_2 (by decide) (fun c_2 => ?_) (fun c_2 => ?_)
  · skip
    refine z_iload_n (pc := 9) C 1 dJ9_max_7cf53_9 rfl ?_
    exact z_iret (pc := 10) C E dJ9_max_7cf53_10 (pI.mk (by simp only [f_J9_max_7cf53, if_pos c_2]) rfl)
  · skip
    refine z_iload_n (pc := 5) C 0 dJ9_max_7cf53_5 rfl ?_
    refine z_goto (pc := 6) 10 C dJ9_max_7cf53_6 (by decide) ?_
    exact z_iret (pc := 10) C E dJ9_max_7cf53_10 (pI.mk (by simp only [f_J9_max_7cf53, if_neg c_2]) rfl)

def f_J9_min_7cf53 (a : Int32) (b : Int32) : Int32 := if b < a then b else a
set_option maxRecDepth 100000 in
theorem c_J9_min_7cf53 {l : Launch} {G : zG} {a : Int32} {b : Int32} : Ct l G yJ9_min_7cf53 cJ9_min_7cf53 2 (Option.some FieldType.int) 0 0 [.int a, .int b] ([]) (pI (f_J9_min_7cf53 a b) ([])) := by
  refine Ct.of (by decide +kernel) (Nat.le_of_ble_eq_true rfl) (pI.ad rfl) (fun X C E => ?_)
  show Z X G 2 0 0 _ 0 [(0, .int a), (1, .int b)] []
  refine z_iload_n (pc := 0) C 0 dJ9_min_7cf53_0 rfl ?_
  refine z_iload_n (pc := 1) C 1 dJ9_min_7cf53_1 rfl ?_
  refine z_icmp_gt (pc := 2) 9 C dJ9_min_7cf53_2 (by decide) (fun c_2 => ?_) (fun c_2 => ?_)
  · skip
    refine z_iload_n (pc := 9) C 1 dJ9_min_7cf53_9 rfl ?_
    exact z_iret (pc := 10) C E dJ9_min_7cf53_10 (pI.mk (by simp only [f_J9_min_7cf53, if_pos c_2]) rfl)
  · skip
    refine z_iload_n (pc := 5) C 0 dJ9_min_7cf53_5 rfl ?_
    refine z_goto (pc := 6) 10 C dJ9_min_7cf53_6 (by decide) ?_
    exact z_iret (pc := 10) C E dJ9_min_7cf53_10 (pI.mk (by simp only [f_J9_min_7cf53, if_neg c_2]) rfl)

def f_J9_abs_0f7a4 (a : Int32) : Int32 := if 0 ≤ a then a else -a
set_option maxRecDepth 100000 in
theorem c_J9_abs_0f7a4 {l : Launch} {G : zG} {a : Int32} : Ct l G yJ9_abs_0f7a4 cJ9_abs_0f7a4 1 (Option.some FieldType.int) 0 0 [.int a] ([]) (pI (f_J9_abs_0f7a4 a) ([])) := by
  refine Ct.of (by decide +kernel) (Nat.le_of_ble_eq_true rfl) (pI.ad rfl) (fun X C E => ?_)
  show Z X G 1 0 0 _ 0 [(0, .int a)] []
  refine z_iload_n (pc := 0) C 0 dJ9_abs_0f7a4_0 rfl ?_
  refine z_if_ge (pc := 1) 9 C dJ9_abs_0f7a4_1 (by decide) (fun c_1 => ?_) (fun c_1 => ?_)
  · skip
    refine z_iload_n (pc := 9) C 0 dJ9_abs_0f7a4_9 rfl ?_
    exact z_iret (pc := 10) C E dJ9_abs_0f7a4_10 (pI.mk (by simp only [f_J9_abs_0f7a4, if_pos c_1]) rfl)
  · skip
    refine z_iload_n (pc := 4) C 0 dJ9_abs_0f7a4_4 rfl ?_
    refine z_ineg (pc := 5) C dJ9_abs_0f7a4_5 ?_
    refine z_goto (pc := 6) 10 C dJ9_abs_0f7a4_6 (by decide) ?_
    exact z_iret (pc := 10) C E dJ9_abs_0f7a4_10 (pI.mk (by simp only [f_J9_abs_0f7a4, if_neg c_1]) rfl)

def f_J6_bitCount_0f7a4 (i : Int32) : Int32 := (((((((i - ((uShr i 1) &&& 1431655765)) &&& 858993459) + ((uShr (i - ((uShr i 1) &&& 1431655765)) 2) &&& 858993459)) + (uShr (((i - ((uShr i 1) &&& 1431655765)) &&& 858993459) + ((uShr (i - ((uShr i 1) &&& 1431655765)) 2) &&& 858993459)) 4)) &&& 252645135) + (uShr (((((i - ((uShr i 1) &&& 1431655765)) &&& 858993459) + ((uShr (i - ((uShr i 1) &&& 1431655765)) 2) &&& 858993459)) + (uShr (((i - ((uShr i 1) &&& 1431655765)) &&& 858993459) + ((uShr (i - ((uShr i 1) &&& 1431655765)) 2) &&& 858993459)) 4)) &&& 252645135) 8)) + (uShr ((((((i - ((uShr i 1) &&& 1431655765)) &&& 858993459) + ((uShr (i - ((uShr i 1) &&& 1431655765)) 2) &&& 858993459)) + (uShr (((i - ((uShr i 1) &&& 1431655765)) &&& 858993459) + ((uShr (i - ((uShr i 1) &&& 1431655765)) 2) &&& 858993459)) 4)) &&& 252645135) + (uShr (((((i - ((uShr i 1) &&& 1431655765)) &&& 858993459) + ((uShr (i - ((uShr i 1) &&& 1431655765)) 2) &&& 858993459)) + (uShr (((i - ((uShr i 1) &&& 1431655765)) &&& 858993459) + ((uShr (i - ((uShr i 1) &&& 1431655765)) 2) &&& 858993459)) 4)) &&& 252645135) 8)) 16)) &&& 63
set_option maxRecDepth 100000 in
theorem c_J6_bitCount_0f7a4 {l : Launch} {G : zG} {i : Int32} : Ct l G yJ6_bitCount_0f7a4 cJ6_bitCount_0f7a4 1 (Option.some FieldType.int) 0 0 [.int i] ([]) (pI (f_J6_bitCount_0f7a4 i) ([])) := by
  refine Ct.of (plainFor_of_name (by decide)) (Nat.le_of_ble_eq_true rfl) (pI.ad rfl) (fun X C E => ?_)
  show Z X G 1 0 0 _ 0 [(0, .int i)] []
  refine z_iload_n (pc := 0) C 0 dJ6_bitCount_0f7a4_0 rfl ?_
  refine z_iload_n (pc := 1) C 0 dJ6_bitCount_0f7a4_1 rfl ?_
  refine z_iconst (pc := 2) (v := 1) C dJ6_bitCount_0f7a4_2 (by decide) ?_
  refine z_iushr (pc := 3) C dJ6_bitCount_0f7a4_3 ?_
  refine z_ldc_w (pc := 4) C q_379 dJ6_bitCount_0f7a4_4 ?_
  refine z_iand (pc := 7) C dJ6_bitCount_0f7a4_7 ?_
  refine z_isub (pc := 8) C dJ6_bitCount_0f7a4_8 ?_
  refine z_istore_n (pc := 9) [(0, _)] C dJ6_bitCount_0f7a4_9 rfl (by decide) rfl ?_
  refine z_iload_n (pc := 10) C 0 dJ6_bitCount_0f7a4_10 rfl ?_
  refine z_ldc_w (pc := 11) C q_380 dJ6_bitCount_0f7a4_11 ?_
  refine z_iand (pc := 14) C dJ6_bitCount_0f7a4_14 ?_
  refine z_iload_n (pc := 15) C 0 dJ6_bitCount_0f7a4_15 rfl ?_
  refine z_iconst (pc := 16) (v := 2) C dJ6_bitCount_0f7a4_16 (by decide) ?_
  refine z_iushr (pc := 17) C dJ6_bitCount_0f7a4_17 ?_
  refine z_ldc_w (pc := 18) C q_380 dJ6_bitCount_0f7a4_18 ?_
  refine z_iand (pc := 21) C dJ6_bitCount_0f7a4_21 ?_
  refine z_iadd (pc := 22) C dJ6_bitCount_0f7a4_22 ?_
  refine z_istore_n (pc := 23) [(0, _)] C dJ6_bitCount_0f7a4_23 rfl (by decide) rfl ?_
  refine z_iload_n (pc := 24) C 0 dJ6_bitCount_0f7a4_24 rfl ?_
  refine z_iload_n (pc := 25) C 0 dJ6_bitCount_0f7a4_25 rfl ?_
  refine z_iconst (pc := 26) (v := 4) C dJ6_bitCount_0f7a4_26 (by decide) ?_
  refine z_iushr (pc := 27) C dJ6_bitCount_0f7a4_27 ?_
  refine z_iadd (pc := 28) C dJ6_bitCount_0f7a4_28 ?_
  refine z_ldc_w (pc := 29) C q_381 dJ6_bitCount_0f7a4_29 ?_
  refine z_iand (pc := 32) C dJ6_bitCount_0f7a4_32 ?_
  refine z_istore_n (pc := 33) [(0, _)] C dJ6_bitCount_0f7a4_33 rfl (by decide) rfl ?_
  refine z_iload_n (pc := 34) C 0 dJ6_bitCount_0f7a4_34 rfl ?_
  refine z_iload_n (pc := 35) C 0 dJ6_bitCount_0f7a4_35 rfl ?_
  refine z_bipush (pc := 36) (v := 8) C dJ6_bitCount_0f7a4_36 (by decide) ?_
  refine z_iushr (pc := 38) C dJ6_bitCount_0f7a4_38 ?_
  refine z_iadd (pc := 39) C dJ6_bitCount_0f7a4_39 ?_
  refine z_istore_n (pc := 40) [(0, _)] C dJ6_bitCount_0f7a4_40 rfl (by decide) rfl ?_
  refine z_iload_n (pc := 41) C 0 dJ6_bitCount_0f7a4_41 rfl ?_
  refine z_iload_n (pc := 42) C 0 dJ6_bitCount_0f7a4_42 rfl ?_
  refine z_bipush (pc := 43) (v := 16) C dJ6_bitCount_0f7a4_43 (by decide) ?_
  refine z_iushr (pc := 45) C dJ6_bitCount_0f7a4_45 ?_
  refine z_iadd (pc := 46) C dJ6_bitCount_0f7a4_46 ?_
  refine z_istore_n (pc := 47) [(0, _)] C dJ6_bitCount_0f7a4_47 rfl (by decide) rfl ?_
  refine z_iload_n (pc := 48) C 0 dJ6_bitCount_0f7a4_48 rfl ?_
  refine z_bipush (pc := 49) (v := 63) C dJ6_bitCount_0f7a4_49 (by decide) ?_
  refine z_iand (pc := 51) C dJ6_bitCount_0f7a4_51 ?_
  exact z_iret (pc := 52) C E dJ6_bitCount_0f7a4_52 (pI.mk rfl rfl)

def f_X8_isWithin (number : Int32) (least : Int32) (greatest : Int32) : Int32 := if number < least then 0 else if greatest < number then 0 else 1
set_option maxRecDepth 100000 in
theorem c_X8_isWithin {l : Launch} {G : zG} {number : Int32} {least : Int32} {greatest : Int32} : Ct l G yX8_isWithin cX8_isWithin 3 (Option.some FieldType.boolean) 0 0 [.int number, .int least, .int greatest] ([]) (pI (f_X8_isWithin number least greatest) ([])) := by
  refine Ct.of (plainFor_of_name (by decide)) (Nat.le_of_ble_eq_true rfl) (pI.ad rfl) (fun X C E => ?_)
  show Z X G 3 0 0 _ 0 [(0, .int number), (1, .int least), (2, .int greatest)] []
  refine z_iload_n (pc := 0) C 0 dX8_isWithin_0 rfl ?_
  refine z_iload_n (pc := 1) C 1 dX8_isWithin_1 rfl ?_
  refine z_icmp_lt (pc := 2) 14 C dX8_isWithin_2 (by decide) (fun c_2 => ?_) (fun c_2 => ?_)
  · skip
    refine z_iconst (pc := 14) (v := 0) C dX8_isWithin_14 (by decide) ?_
    exact z_zret (pc := 15) C E dX8_isWithin_15 (by first | rfl | assumption) (pI.mk (by simp only [f_X8_isWithin, if_pos c_2]) rfl)
  · skip
    refine z_iload_n (pc := 5) C 0 dX8_isWithin_5 rfl ?_
    refine z_iload_n (pc := 6) C 2 dX8_isWithin_6 rfl ?_
    refine z_icmp_gt (pc := 7) 14 C dX8_isWithin_7 (by decide) (fun c_7 => ?_) (fun c_7 => ?_)
    · skip
      refine z_iconst (pc := 14) (v := 0) C dX8_isWithin_14 (by decide) ?_
      exact z_zret (pc := 15) C E dX8_isWithin_15 (by first | rfl | assumption) (pI.mk (by simp only [f_X8_isWithin, if_neg c_2, if_pos c_7]) rfl)
    · skip
      refine z_iconst (pc := 10) (v := 1) C dX8_isWithin_10 (by decide) ?_
      refine z_goto (pc := 11) 15 C dX8_isWithin_11 (by decide) ?_
      exact z_zret (pc := 15) C E dX8_isWithin_15 (by first | rfl | assumption) (pI.mk (by simp only [f_X8_isWithin, if_neg c_2, if_neg c_7]) rfl)
theorem nb_X8_isWithin {number : Int32} {least : Int32} {greatest : Int32} : narrow .boolean (.int (f_X8_isWithin number least greatest)) = .int (f_X8_isWithin number least greatest) := by unfold f_X8_isWithin; (repeat' split) <;> first | rfl

def f_X8_isPicture (t : Int32) : Int32 := f_X8_isWithin t 0 2
set_option maxRecDepth 100000 in
theorem c_X8_isPicture {l : Launch} {G : zG} {t : Int32} : Ct l G yX8_isPicture cX8_isPicture 1 (Option.some FieldType.boolean) 1 22 [.int t] ([]) (pI (f_X8_isPicture t) ([])) := by
  refine Ct.of (plainFor_of_name (by decide)) (Nat.le_of_ble_eq_true rfl) (pI.ad rfl) (fun X C E => ?_)
  show Z X G 1 0 0 _ 0 [(0, .int t)] []
  refine z_iload_n (pc := 0) C 0 dX8_isPicture_0 rfl ?_
  refine z_iconst (pc := 1) (v := 0) C dX8_isPicture_1 (by decide) ?_
  refine z_iconst (pc := 2) (v := 2) C dX8_isPicture_2 (by decide) ?_
  refine z_callS (pc := 3) C (c_X8_isWithin) [] z00 mS_X8_isWithin q_290 dX8_isPicture_3 rfl rfl rfl rfl (Nat.le_of_ble_eq_true rfl) (by decide) (pI.stay rfl ?_)
  exact z_zret (pc := 6) C E dX8_isPicture_6 (nb_X8_isWithin) (pI.mk rfl rfl)
theorem nb_X8_isPicture {t : Int32} : narrow .boolean (.int (f_X8_isPicture t)) = .int (f_X8_isPicture t) := by unfold f_X8_isPicture; (repeat' split) <;> first | exact nb_X8_isWithin | rfl

def f_X8_isInPicture (x : Int32) (y : Int32) : Int32 := if (f_X8_isWithin x 0 31) = 0 then 0 else if (f_X8_isWithin y 0 23) = 0 then 0 else 1
set_option maxRecDepth 100000 in
theorem c_X8_isInPicture {l : Launch} {G : zG} {x : Int32} {y : Int32} : Ct l G yX8_isInPicture cX8_isInPicture 2 (Option.some FieldType.boolean) 1 22 [.int x, .int y] ([]) (pI (f_X8_isInPicture x y) ([])) := by
  refine Ct.of (plainFor_of_name (by decide)) (Nat.le_of_ble_eq_true rfl) (pI.ad rfl) (fun X C E => ?_)
  show Z X G 2 0 0 _ 0 [(0, .int x), (1, .int y)] []
  refine z_iload_n (pc := 0) C 0 dX8_isInPicture_0 rfl ?_
  refine z_iconst (pc := 1) (v := 0) C dX8_isInPicture_1 (by decide) ?_
  refine z_bipush (pc := 2) (v := 31) C dX8_isInPicture_2 (by decide) ?_
  refine z_callS (pc := 4) C (c_X8_isWithin) [] z00 mS_X8_isWithin q_290 dX8_isInPicture_4 rfl rfl rfl rfl (Nat.le_of_ble_eq_true rfl) (by decide) (pI.stay rfl ?_)
  refine z_if_eq (pc := 7) 24 C dX8_isInPicture_7 (by decide) (fun c_7 => ?_) (fun c_7 => ?_)
  · skip
    refine z_iconst (pc := 24) (v := 0) C dX8_isInPicture_24 (by decide) ?_
    exact z_zret (pc := 25) C E dX8_isInPicture_25 (by first | rfl | assumption) (pI.mk (by simp only [f_X8_isInPicture, if_pos c_7]) rfl)
  · skip
    refine z_iload_n (pc := 10) C 1 dX8_isInPicture_10 rfl ?_
    refine z_iconst (pc := 11) (v := 0) C dX8_isInPicture_11 (by decide) ?_
    refine z_bipush (pc := 12) (v := 23) C dX8_isInPicture_12 (by decide) ?_
    refine z_callS (pc := 14) C (c_X8_isWithin) [] z00 mS_X8_isWithin q_290 dX8_isInPicture_14 rfl rfl rfl rfl (Nat.le_of_ble_eq_true rfl) (by decide) (pI.stay rfl ?_)
    refine z_if_eq (pc := 17) 24 C dX8_isInPicture_17 (by decide) (fun c_17 => ?_) (fun c_17 => ?_)
    · skip
      refine z_iconst (pc := 24) (v := 0) C dX8_isInPicture_24 (by decide) ?_
      exact z_zret (pc := 25) C E dX8_isInPicture_25 (by first | rfl | assumption) (pI.mk (by simp only [f_X8_isInPicture, if_neg c_7, if_pos c_17]) rfl)
    · skip
      refine z_iconst (pc := 20) (v := 1) C dX8_isInPicture_20 (by decide) ?_
      refine z_goto (pc := 21) 25 C dX8_isInPicture_21 (by decide) ?_
      exact z_zret (pc := 25) C E dX8_isInPicture_25 (by first | rfl | assumption) (pI.mk (by simp only [f_X8_isInPicture, if_neg c_7, if_neg c_17]) rfl)
theorem nb_X8_isInPicture {x : Int32} {y : Int32} : narrow .boolean (.int (f_X8_isInPicture x y)) = .int (f_X8_isInPicture x y) := by unfold f_X8_isInPicture; (repeat' split) <;> first | rfl

def f_X8_isPlace (number : Int32) : Int32 := f_X8_isWithin number (-64) 63
set_option maxRecDepth 100000 in
theorem c_X8_isPlace {l : Launch} {G : zG} {number : Int32} : Ct l G yX8_isPlace cX8_isPlace 1 (Option.some FieldType.boolean) 1 22 [.int number] ([]) (pI (f_X8_isPlace number) ([])) := by
  refine Ct.of (plainFor_of_name (by decide)) (Nat.le_of_ble_eq_true rfl) (pI.ad rfl) (fun X C E => ?_)
  show Z X G 1 0 0 _ 0 [(0, .int number)] []
  refine z_iload_n (pc := 0) C 0 dX8_isPlace_0 rfl ?_
  refine z_bipush (pc := 1) (v := (-64)) C dX8_isPlace_1 (by decide) ?_
  refine z_bipush (pc := 3) (v := 63) C dX8_isPlace_3 (by decide) ?_
  refine z_callS (pc := 5) C (c_X8_isWithin) [] z00 mS_X8_isWithin q_290 dX8_isPlace_5 rfl rfl rfl rfl (Nat.le_of_ble_eq_true rfl) (by decide) (pI.stay rfl ?_)
  exact z_zret (pc := 8) C E dX8_isPlace_8 (nb_X8_isWithin) (pI.mk rfl rfl)
theorem nb_X8_isPlace {number : Int32} : narrow .boolean (.int (f_X8_isPlace number)) = .int (f_X8_isPlace number) := by unfold f_X8_isPlace; (repeat' split) <;> first | exact nb_X8_isWithin | rfl

def f_X8_isSize (number : Int32) : Int32 := f_X8_isWithin number 1 64
set_option maxRecDepth 100000 in
theorem c_X8_isSize {l : Launch} {G : zG} {number : Int32} : Ct l G yX8_isSize cX8_isSize 1 (Option.some FieldType.boolean) 1 22 [.int number] ([]) (pI (f_X8_isSize number) ([])) := by
  refine Ct.of (plainFor_of_name (by decide)) (Nat.le_of_ble_eq_true rfl) (pI.ad rfl) (fun X C E => ?_)
  show Z X G 1 0 0 _ 0 [(0, .int number)] []
  refine z_iload_n (pc := 0) C 0 dX8_isSize_0 rfl ?_
  refine z_iconst (pc := 1) (v := 1) C dX8_isSize_1 (by decide) ?_
  refine z_bipush (pc := 2) (v := 64) C dX8_isSize_2 (by decide) ?_
  refine z_callS (pc := 4) C (c_X8_isWithin) [] z00 mS_X8_isWithin q_290 dX8_isSize_4 rfl rfl rfl rfl (Nat.le_of_ble_eq_true rfl) (by decide) (pI.stay rfl ?_)
  exact z_zret (pc := 7) C E dX8_isSize_7 (nb_X8_isWithin) (pI.mk rfl rfl)
theorem nb_X8_isSize {number : Int32} : narrow .boolean (.int (f_X8_isSize number)) = .int (f_X8_isSize number) := by unfold f_X8_isSize; (repeat' split) <;> first | exact nb_X8_isWithin | rfl

def f_X8_shifted (row : Int32) (tr : Int32) : Int32 := if tr ≤ (-32) then 0 else if tr < 32 then if tr < 0 then row <<< ((-tr) &&& 31) else uShr row tr else 0
set_option maxRecDepth 100000 in
theorem c_X8_shifted {l : Launch} {G : zG} {row : Int32} {tr : Int32} : Ct l G yX8_shifted cX8_shifted 2 (Option.some FieldType.int) 0 0 [.int row, .int tr] ([]) (pI (f_X8_shifted row tr) ([])) := by
  refine Ct.of (plainFor_of_name (by decide)) (Nat.le_of_ble_eq_true rfl) (pI.ad rfl) (fun X C E => ?_)
  show Z X G 2 0 0 _ 0 [(0, .int row), (1, .int tr)] []
  refine z_iload_n (pc := 0) C 1 dX8_shifted_0 rfl ?_
  refine z_bipush (pc := 1) (v := (-32)) C dX8_shifted_1 (by decide) ?_
  refine z_icmp_le (pc := 3) 12 C dX8_shifted_3 (by decide) (fun c_3 => ?_) (fun c_3 => ?_)
  · skip
    refine z_iconst (pc := 12) (v := 0) C dX8_shifted_12 (by decide) ?_
    exact z_iret (pc := 13) C E dX8_shifted_13 (pI.mk (by simp only [f_X8_shifted, if_pos c_3]) rfl)
  · skip
    refine z_iload_n (pc := 6) C 1 dX8_shifted_6 rfl ?_
    refine z_bipush (pc := 7) (v := 32) C dX8_shifted_7 (by decide) ?_
    refine z_icmp_lt (pc := 9) 14 C dX8_shifted_9 (by decide) (fun c_9 => ?_) (fun c_9 => ?_)
    · skip
      refine z_iload_n (pc := 14) C 1 dX8_shifted_14 rfl ?_
      refine z_if_lt (pc := 15) 24 C dX8_shifted_15 (by decide) (fun c_15 => ?_) (fun c_15 => ?_)
      · skip
        refine z_iload_n (pc := 24) C 0 dX8_shifted_24 rfl ?_
        refine z_iload_n (pc := 25) C 1 dX8_shifted_25 rfl ?_
        refine z_ineg (pc := 26) C dX8_shifted_26 ?_
        refine z_ishl (pc := 27) C dX8_shifted_27 ?_
        exact z_iret (pc := 28) C E dX8_shifted_28 (pI.mk (by simp only [f_X8_shifted, if_neg c_3, if_pos c_9, if_pos c_15]) rfl)
      · skip
        refine z_iload_n (pc := 18) C 0 dX8_shifted_18 rfl ?_
        refine z_iload_n (pc := 19) C 1 dX8_shifted_19 rfl ?_
        refine z_iushr (pc := 20) C dX8_shifted_20 ?_
        refine z_goto (pc := 21) 28 C dX8_shifted_21 (by decide) ?_
        exact z_iret (pc := 28) C E dX8_shifted_28 (pI.mk (by simp only [f_X8_shifted, if_neg c_3, if_pos c_9, if_neg c_15]) rfl)
    · skip
      refine z_iconst (pc := 12) (v := 0) C dX8_shifted_12 (by decide) ?_
      exact z_iret (pc := 13) C E dX8_shifted_13 (pI.mk (by simp only [f_X8_shifted, if_neg c_3, if_neg c_9]) rfl)

def f_X8_dotMask (x : Int32) : Int32 := f_X8_shifted (-2147483648) x
set_option maxRecDepth 100000 in
theorem c_X8_dotMask {l : Launch} {G : zG} {x : Int32} : Ct l G yX8_dotMask cX8_dotMask 1 (Option.some FieldType.int) 1 21 [.int x] ([]) (pI (f_X8_dotMask x) ([])) := by
  refine Ct.of (plainFor_of_name (by decide)) (Nat.le_of_ble_eq_true rfl) (pI.ad rfl) (fun X C E => ?_)
  show Z X G 1 0 0 _ 0 [(0, .int x)] []
  refine z_ldc (pc := 0) C q_328 dX8_dotMask_0 ?_
  refine z_iload_n (pc := 2) C 0 dX8_dotMask_2 rfl ?_
  refine z_callS (pc := 3) C (c_X8_shifted) [] z00 mS_X8_shifted q_329 dX8_dotMask_3 rfl rfl rfl rfl (Nat.le_of_ble_eq_true rfl) (by decide) (pI.stay rfl ?_)
  exact z_iret (pc := 6) C E dX8_dotMask_6 (pI.mk rfl rfl)

def f_X8_spanMask (x : Int32) (w : Int32) : Int32 := if (f_J9_min_7cf53 (x + w) 32) ≤ (f_J9_max_7cf53 x 0) then 0 else (f_X8_shifted (-1) (f_J9_max_7cf53 x 0)) &&& ((f_X8_shifted (-1) (f_J9_min_7cf53 (x + w) 32)) ^^^ (-1))
set_option maxRecDepth 100000 in
theorem c_X8_spanMask {l : Launch} {G : zG} {x : Int32} {w : Int32} : Ct l G yX8_spanMask cX8_spanMask 4 (Option.some FieldType.int) 1 21 [.int x, .int w] ([]) (pI (f_X8_spanMask x w) ([])) := by
  refine Ct.of (plainFor_of_name (by decide)) (Nat.le_of_ble_eq_true rfl) (pI.ad rfl) (fun X C E => ?_)
  show Z X G 4 0 0 _ 0 [(0, .int x), (1, .int w)] []
  refine z_iload_n (pc := 0) C 0 dX8_spanMask_0 rfl ?_
  refine z_iconst (pc := 1) (v := 0) C dX8_spanMask_1 (by decide) ?_
  refine z_callS (pc := 2) C (c_J9_max_7cf53) [] z00 mS_J9_max_7cf53 q_371 dX8_spanMask_2 rfl rfl rfl rfl (Nat.le_of_ble_eq_true rfl) (by decide) (pI.stay rfl ?_)
  refine z_istore_n (pc := 5) [(2, _), (0, _), (1, _)] C dX8_spanMask_5 rfl (by decide) rfl ?_
  refine z_iload_n (pc := 6) C 1 dX8_spanMask_6 rfl ?_
  refine z_iload_n (pc := 7) C 2 dX8_spanMask_7 rfl ?_
  refine z_iadd (pc := 8) C dX8_spanMask_8 ?_
  refine z_bipush (pc := 9) (v := 32) C dX8_spanMask_9 (by decide) ?_
  refine z_callS (pc := 11) C (c_J9_min_7cf53) [] z00 mS_J9_min_7cf53 q_374 dX8_spanMask_11 rfl rfl rfl rfl (Nat.le_of_ble_eq_true rfl) (by decide) (pI.stay rfl ?_)
  refine z_istore_n (pc := 14) [(3, _), (2, _), (0, _), (1, _)] C dX8_spanMask_14 rfl (by decide) rfl ?_
  refine z_iload_n (pc := 15) C 1 dX8_spanMask_15 rfl ?_
  refine z_iload_n (pc := 16) C 0 dX8_spanMask_16 rfl ?_
  refine z_icmp_ge (pc := 17) 36 C dX8_spanMask_17 (by decide) (fun c_17 => ?_) (fun c_17 => ?_)
  · skip
    refine z_iconst (pc := 36) (v := 0) C dX8_spanMask_36 (by decide) ?_
    exact z_iret (pc := 37) C E dX8_spanMask_37 (pI.mk (by simp only [f_X8_spanMask, if_pos c_17]) rfl)
  · skip
    refine z_iconst (pc := 20) (v := (-1)) C dX8_spanMask_20 (by decide) ?_
    refine z_iload_n (pc := 21) C 1 dX8_spanMask_21 rfl ?_
    refine z_callS (pc := 22) C (c_X8_shifted) [] z00 mS_X8_shifted q_329 dX8_spanMask_22 rfl rfl rfl rfl (Nat.le_of_ble_eq_true rfl) (by decide) (pI.stay rfl ?_)
    refine z_iconst (pc := 25) (v := (-1)) C dX8_spanMask_25 (by decide) ?_
    refine z_iload_n (pc := 26) C 0 dX8_spanMask_26 rfl ?_
    refine z_callS (pc := 27) C (c_X8_shifted) [] z00 mS_X8_shifted q_329 dX8_spanMask_27 rfl rfl rfl rfl (Nat.le_of_ble_eq_true rfl) (by decide) (pI.stay rfl ?_)
    refine z_iconst (pc := 30) (v := (-1)) C dX8_spanMask_30 (by decide) ?_
    refine z_ixor (pc := 31) C dX8_spanMask_31 ?_
    refine z_iand (pc := 32) C dX8_spanMask_32 ?_
    refine z_goto (pc := 33) 37 C dX8_spanMask_33 (by decide) ?_
    exact z_iret (pc := 37) C E dX8_spanMask_37 (pI.mk (by simp only [f_X8_spanMask, if_neg c_17]) rfl)
