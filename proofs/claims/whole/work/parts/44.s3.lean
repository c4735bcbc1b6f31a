theorem ko_m0 : g_X1_with_osz (g_X1_begins_kix 109) 0 = 1 := by decide
theorem ka_m0 (aw v : Int32) : g_X1_with_aw (g_X1_begins_kix 109) 0 aw v = if aw = 0 then 0 else if f_X9_isPicture v = 0 then 0 else 1 := by
  unfold g_X1_with_aw
  rw [if_neg (by decide), if_neg (by decide), show f_X1_isOfKind v (sBt (g_X1_begins_kix 109) 0) = f_X8_isPicture v from rfl, pic_eq v]
theorem kn_m0 (nums : Nat → Int32) (v : Int32) : g_X1_with_nums nums (g_X1_begins_kix 109) 0 v = upd nums 0 v := by
  unfold g_X1_with_nums
  rw [if_neg (by decide), if_neg (by decide), show (0 : Int32).toNatClampNeg = 0 from by decide]
theorem ko_m1 : g_X1_with_osz (g_X1_begins_kix 109) 1 = 2 := by decide
theorem ka_m1 (aw v : Int32) : g_X1_with_aw (g_X1_begins_kix 109) 1 aw v = if aw = 0 then 0 else if f_X9_in v.toInt64 (-64) 63 = 0 then 0 else 1 := by
  unfold g_X1_with_aw
  rw [if_neg (by decide), if_neg (by decide), show f_X1_isOfKind v (sBt (g_X1_begins_kix 109) 1) = f_X8_isWithin v (-64) 63 from rfl, W_in (v := v) (a' := -64) (b' := 63) rfl rfl]
theorem kn_m1 (nums : Nat → Int32) (v : Int32) : g_X1_with_nums nums (g_X1_begins_kix 109) 1 v = upd nums 1 v := by
  unfold g_X1_with_nums
  rw [if_neg (by decide), if_neg (by decide), show (1 : Int32).toNatClampNeg = 1 from by decide]
theorem ko_m2 : g_X1_with_osz (g_X1_begins_kix 109) 2 = 3 := by decide
theorem ka_m2 (aw v : Int32) : g_X1_with_aw (g_X1_begins_kix 109) 2 aw v = if aw = 0 then 0 else if f_X9_in v.toInt64 (-64) 63 = 0 then 0 else 1 := by
  unfold g_X1_with_aw
  rw [if_neg (by decide), if_neg (by decide), show f_X1_isOfKind v (sBt (g_X1_begins_kix 109) 2) = f_X8_isWithin v (-64) 63 from rfl, W_in (v := v) (a' := -64) (b' := 63) rfl rfl]
theorem kn_m2 (nums : Nat → Int32) (v : Int32) : g_X1_with_nums nums (g_X1_begins_kix 109) 2 v = upd nums 2 v := by
  unfold g_X1_with_nums
  rw [if_neg (by decide), if_neg (by decide), show (2 : Int32).toNatClampNeg = 2 from by decide]
theorem ko_m3 : g_X1_with_osz (g_X1_begins_kix 109) 3 = 4 := by decide
theorem ka_m3 (aw v : Int32) : g_X1_with_aw (g_X1_begins_kix 109) 3 aw v = if aw = 0 then 0 else if f_X9_in v.toInt64 1 64 = 0 then 0 else 1 := by
  unfold g_X1_with_aw
  rw [if_neg (by decide), if_neg (by decide), show f_X1_isOfKind v (sBt (g_X1_begins_kix 109) 3) = f_X8_isWithin v 1 64 from rfl, W_in (v := v) (a' := 1) (b' := 64) rfl rfl]
theorem kn_m3 (nums : Nat → Int32) (v : Int32) : g_X1_with_nums nums (g_X1_begins_kix 109) 3 v = upd nums 3 v := by
  unfold g_X1_with_nums
  rw [if_neg (by decide), if_neg (by decide), show (3 : Int32).toNatClampNeg = 3 from by decide]
theorem ko_m4 : g_X1_with_osz (g_X1_begins_kix 109) 4 = 5 := by decide
theorem ka_m4 (aw v : Int32) : g_X1_with_aw (g_X1_begins_kix 109) 4 aw v = if aw = 0 then 0 else if f_X9_in v.toInt64 1 64 = 0 then 0 else 1 := by
  unfold g_X1_with_aw
  rw [if_neg (by decide), if_neg (by decide), show f_X1_isOfKind v (sBt (g_X1_begins_kix 109) 4) = f_X8_isWithin v 1 64 from rfl, W_in (v := v) (a' := 1) (b' := 64) rfl rfl]
theorem kn_m4 (nums : Nat → Int32) (v : Int32) : g_X1_with_nums nums (g_X1_begins_kix 109) 4 v = upd nums 4 v := by
  unfold g_X1_with_nums
  rw [if_neg (by decide), if_neg (by decide), show (4 : Int32).toNatClampNeg = 4 from by decide]
theorem ko_m5 : g_X1_with_osz (g_X1_begins_kix 109) 5 = 6 := by decide
theorem ka_m5 (aw v : Int32) : g_X1_with_aw (g_X1_begins_kix 109) 5 aw v = if aw = 0 then 0 else if f_X9_isPicture v = 0 then 0 else 1 := by
  unfold g_X1_with_aw
  rw [if_neg (by decide), if_neg (by decide), show f_X1_isOfKind v (sBt (g_X1_begins_kix 109) 5) = f_X8_isPicture v from rfl, pic_eq v]
theorem kn_m5 (nums : Nat → Int32) (v : Int32) : g_X1_with_nums nums (g_X1_begins_kix 109) 5 v = upd nums 5 v := by
  unfold g_X1_with_nums
  rw [if_neg (by decide), if_neg (by decide), show (5 : Int32).toNatClampNeg = 5 from by decide]
theorem ko_m6 : g_X1_with_osz (g_X1_begins_kix 109) 6 = 7 := by decide
theorem ka_m6 (aw v : Int32) : g_X1_with_aw (g_X1_begins_kix 109) 6 aw v = if aw = 0 then 0 else if f_X9_in v.toInt64 (-64) 63 = 0 then 0 else 1 := by
  unfold g_X1_with_aw
  rw [if_neg (by decide), if_neg (by decide), show f_X1_isOfKind v (sBt (g_X1_begins_kix 109) 6) = f_X8_isWithin v (-64) 63 from rfl, W_in (v := v) (a' := -64) (b' := 63) rfl rfl]
theorem kn_m6 (nums : Nat → Int32) (v : Int32) : g_X1_with_nums nums (g_X1_begins_kix 109) 6 v = upd nums 6 v := by
  unfold g_X1_with_nums
  rw [if_neg (by decide), if_neg (by decide), show (6 : Int32).toNatClampNeg = 6 from by decide]
theorem ko_m7 : g_X1_with_osz (g_X1_begins_kix 109) 7 = 8 := by decide
theorem ka_m7 (aw v : Int32) : g_X1_with_aw (g_X1_begins_kix 109) 7 aw v = if aw = 0 then 0 else if f_X9_in v.toInt64 (-64) 63 = 0 then 0 else 1 := by
  unfold g_X1_with_aw
  rw [if_neg (by decide), if_neg (by decide), show f_X1_isOfKind v (sBt (g_X1_begins_kix 109) 7) = f_X8_isWithin v (-64) 63 from rfl, W_in (v := v) (a' := -64) (b' := 63) rfl rfl]
theorem kn_m7 (nums : Nat → Int32) (v : Int32) : g_X1_with_nums nums (g_X1_begins_kix 109) 7 v = upd nums 7 v := by
  unfold g_X1_with_nums
  rw [if_neg (by decide), if_neg (by decide), show (7 : Int32).toNatClampNeg = 7 from by decide]
theorem ko_m8 : g_X1_with_osz (g_X1_begins_kix 109) 8 = 9 := by decide
theorem ka_m8 (aw v : Int32) : g_X1_with_aw (g_X1_begins_kix 109) 8 aw v = if aw = 0 then 0 else if f_X9_in v.toInt64 0 255 = 0 then 0 else 1 := by
  unfold g_X1_with_aw
  rw [if_neg (by decide), if_neg (by decide), show f_X1_isOfKind v (sBt (g_X1_begins_kix 109) 8) = f_X8_isWithin v 0 255 from rfl, W_in (v := v) (a' := 0) (b' := 255) rfl rfl]
theorem kn_m8 (nums : Nat → Int32) (v : Int32) : g_X1_with_nums nums (g_X1_begins_kix 109) 8 v = upd nums 8 v := by
  unfold g_X1_with_nums
  rw [if_neg (by decide), if_neg (by decide), show (8 : Int32).toNatClampNeg = 8 from by decide]
theorem kt_m (aw : Int32) : f_X1_isAsTold (g_X1_begins_kix 109) 9 aw = if aw = 0 then 0 else 1 := by
  unfold f_X1_isAsTold
  rw [if_pos (show (9 : Int32) = sLen (g_X1_begins_kix 109) by decide)]
theorem ko_l0 : g_X1_with_osz (g_X1_begins_kix 108) 0 = 1 := by decide
theorem ka_l0 (aw v : Int32) : g_X1_with_aw (g_X1_begins_kix 108) 0 aw v = if aw = 0 then 0 else if f_X9_isPicture v = 0 then 0 else 1 := by
  unfold g_X1_with_aw
  rw [if_neg (by decide), if_neg (by decide), show f_X1_isOfKind v (sBt (g_X1_begins_kix 108) 0) = f_X8_isPicture v from rfl, pic_eq v]
theorem kn_l0 (nums : Nat → Int32) (v : Int32) : g_X1_with_nums nums (g_X1_begins_kix 108) 0 v = upd nums 0 v := by
  unfold g_X1_with_nums
  rw [if_neg (by decide), if_neg (by decide), show (0 : Int32).toNatClampNeg = 0 from by decide]
theorem ko_l1 : g_X1_with_osz (g_X1_begins_kix 108) 1 = 2 := by decide
theorem ka_l1 (aw v : Int32) : g_X1_with_aw (g_X1_begins_kix 108) 1 aw v = if aw = 0 then 0 else if f_X9_in v.toInt64 (-64) 63 = 0 then 0 else 1 := by
  unfold g_X1_with_aw
  rw [if_neg (by decide), if_neg (by decide), show f_X1_isOfKind v (sBt (g_X1_begins_kix 108) 1) = f_X8_isWithin v (-64) 63 from rfl, W_in (v := v) (a' := -64) (b' := 63) rfl rfl]
theorem kn_l1 (nums : Nat → Int32) (v : Int32) : g_X1_with_nums nums (g_X1_begins_kix 108) 1 v = upd nums 1 v := by
  unfold g_X1_with_nums
  rw [if_neg (by decide), if_neg (by decide), show (1 : Int32).toNatClampNeg = 1 from by decide]
theorem ko_l2 : g_X1_with_osz (g_X1_begins_kix 108) 2 = 3 := by decide
theorem ka_l2 (aw v : Int32) : g_X1_with_aw (g_X1_begins_kix 108) 2 aw v = if aw = 0 then 0 else if f_X9_in v.toInt64 (-64) 63 = 0 then 0 else 1 := by
  unfold g_X1_with_aw
  rw [if_neg (by decide), if_neg (by decide), show f_X1_isOfKind v (sBt (g_X1_begins_kix 108) 2) = f_X8_isWithin v (-64) 63 from rfl, W_in (v := v) (a' := -64) (b' := 63) rfl rfl]
theorem kn_l2 (nums : Nat → Int32) (v : Int32) : g_X1_with_nums nums (g_X1_begins_kix 108) 2 v = upd nums 2 v := by
  unfold g_X1_with_nums
  rw [if_neg (by decide), if_neg (by decide), show (2 : Int32).toNatClampNeg = 2 from by decide]
theorem ko_l3 : g_X1_with_osz (g_X1_begins_kix 108) 3 = 4 := by decide
theorem ka_l3 (aw v : Int32) : g_X1_with_aw (g_X1_begins_kix 108) 3 aw v = if aw = 0 then 0 else if f_X9_in v.toInt64 (-64) 63 = 0 then 0 else 1 := by
  unfold g_X1_with_aw
  rw [if_neg (by decide), if_neg (by decide), show f_X1_isOfKind v (sBt (g_X1_begins_kix 108) 3) = f_X8_isWithin v (-64) 63 from rfl, W_in (v := v) (a' := -64) (b' := 63) rfl rfl]
theorem kn_l3 (nums : Nat → Int32) (v : Int32) : g_X1_with_nums nums (g_X1_begins_kix 108) 3 v = upd nums 3 v := by
  unfold g_X1_with_nums
  rw [if_neg (by decide), if_neg (by decide), show (3 : Int32).toNatClampNeg = 3 from by decide]
theorem ko_l4 : g_X1_with_osz (g_X1_begins_kix 108) 4 = 5 := by decide
theorem ka_l4 (aw v : Int32) : g_X1_with_aw (g_X1_begins_kix 108) 4 aw v = if aw = 0 then 0 else if f_X9_in v.toInt64 (-64) 63 = 0 then 0 else 1 := by
  unfold g_X1_with_aw
  rw [if_neg (by decide), if_neg (by decide), show f_X1_isOfKind v (sBt (g_X1_begins_kix 108) 4) = f_X8_isWithin v (-64) 63 from rfl, W_in (v := v) (a' := -64) (b' := 63) rfl rfl]
theorem kn_l4 (nums : Nat → Int32) (v : Int32) : g_X1_with_nums nums (g_X1_begins_kix 108) 4 v = upd nums 4 v := by
  unfold g_X1_with_nums
  rw [if_neg (by decide), if_neg (by decide), show (4 : Int32).toNatClampNeg = 4 from by decide]
theorem ko_l5 : g_X1_with_osz (g_X1_begins_kix 108) 5 = 6 := by decide
theorem ka_l5 (aw v : Int32) : g_X1_with_aw (g_X1_begins_kix 108) 5 aw v = if aw = 0 then 0 else if f_X9_in v.toInt64 0 255 = 0 then 0 else 1 := by
  unfold g_X1_with_aw
  rw [if_neg (by decide), if_neg (by decide), show f_X1_isOfKind v (sBt (g_X1_begins_kix 108) 5) = f_X8_isWithin v 0 255 from rfl, W_in (v := v) (a' := 0) (b' := 255) rfl rfl]
theorem kn_l5 (nums : Nat → Int32) (v : Int32) : g_X1_with_nums nums (g_X1_begins_kix 108) 5 v = upd nums 5 v := by
  unfold g_X1_with_nums
  rw [if_neg (by decide), if_neg (by decide), show (5 : Int32).toNatClampNeg = 5 from by decide]
theorem kt_l (aw : Int32) : f_X1_isAsTold (g_X1_begins_kix 108) 6 aw = if aw = 0 then 0 else 1 := by
  unfold f_X1_isAsTold
  rw [if_pos (show (6 : Int32) = sLen (g_X1_begins_kix 108) by decide)]
theorem ko_f0 : g_X1_with_osz (g_X1_begins_kix 102) 0 = 1 := by decide
theorem ka_f0 (aw v : Int32) : g_X1_with_aw (g_X1_begins_kix 102) 0 aw v = if aw = 0 then 0 else if f_X9_isPicture v = 0 then 0 else 1 := by
  unfold g_X1_with_aw
  rw [if_neg (by decide), if_neg (by decide), show f_X1_isOfKind v (sBt (g_X1_begins_kix 102) 0) = f_X8_isPicture v from rfl, pic_eq v]
theorem kn_f0 (nums : Nat → Int32) (v : Int32) : g_X1_with_nums nums (g_X1_begins_kix 102) 0 v = upd nums 0 v := by
  unfold g_X1_with_nums
  rw [if_neg (by decide), if_neg (by decide), show (0 : Int32).toNatClampNeg = 0 from by decide]
theorem ko_f1 : g_X1_with_osz (g_X1_begins_kix 102) 1 = 2 := by decide
theorem ka_f1 (aw v : Int32) : g_X1_with_aw (g_X1_begins_kix 102) 1 aw v = if aw = 0 then 0 else if f_X9_in v.toInt64 (-64) 63 = 0 then 0 else 1 := by
  unfold g_X1_with_aw
  rw [if_neg (by decide), if_neg (by decide), show f_X1_isOfKind v (sBt (g_X1_begins_kix 102) 1) = f_X8_isWithin v (-64) 63 from rfl, W_in (v := v) (a' := -64) (b' := 63) rfl rfl]
theorem kn_f1 (nums : Nat → Int32) (v : Int32) : g_X1_with_nums nums (g_X1_begins_kix 102) 1 v = upd nums 1 v := by
  unfold g_X1_with_nums
  rw [if_neg (by decide), if_neg (by decide), show (1 : Int32).toNatClampNeg = 1 from by decide]
theorem ko_f2 : g_X1_with_osz (g_X1_begins_kix 102) 2 = 3 := by decide
theorem ka_f2 (aw v : Int32) : g_X1_with_aw (g_X1_begins_kix 102) 2 aw v = if aw = 0 then 0 else if f_X9_in v.toInt64 (-64) 63 = 0 then 0 else 1 := by
  unfold g_X1_with_aw
  rw [if_neg (by decide), if_neg (by decide), show f_X1_isOfKind v (sBt (g_X1_begins_kix 102) 2) = f_X8_isWithin v (-64) 63 from rfl, W_in (v := v) (a' := -64) (b' := 63) rfl rfl]
theorem kn_f2 (nums : Nat → Int32) (v : Int32) : g_X1_with_nums nums (g_X1_begins_kix 102) 2 v = upd nums 2 v := by
  unfold g_X1_with_nums
  rw [if_neg (by decide), if_neg (by decide), show (2 : Int32).toNatClampNeg = 2 from by decide]
theorem kt_f (aw : Int32) : f_X1_isAsTold (g_X1_begins_kix 102) 3 aw = if aw = 0 then 0 else 1 := by
  unfold f_X1_isAsTold
  rw [if_pos (show (3 : Int32) = sLen (g_X1_begins_kix 102) by decide)]
theorem ko_r0 : g_X1_with_osz (g_X1_begins_kix 114) 0 = 1 := by decide
theorem ka_r0 (aw v : Int32) : g_X1_with_aw (g_X1_begins_kix 114) 0 aw v = if aw = 0 then 0 else if f_X9_isPicture v = 0 then 0 else 1 := by
  unfold g_X1_with_aw
  rw [if_neg (by decide), if_neg (by decide), show f_X1_isOfKind v (sBt (g_X1_begins_kix 114) 0) = f_X8_isPicture v from rfl, pic_eq v]
theorem kn_r0 (nums : Nat → Int32) (v : Int32) : g_X1_with_nums nums (g_X1_begins_kix 114) 0 v = upd nums 0 v := by
  unfold g_X1_with_nums
  rw [if_neg (by decide), if_neg (by decide), show (0 : Int32).toNatClampNeg = 0 from by decide]
theorem ko_r1 : g_X1_with_osz (g_X1_begins_kix 114) 1 = 2 := by decide
theorem ka_r1 (aw v : Int32) : g_X1_with_aw (g_X1_begins_kix 114) 1 aw v = if aw = 0 then 0 else if f_X9_in v.toInt64 (-64) 63 = 0 then 0 else 1 := by
  unfold g_X1_with_aw
  rw [if_neg (by decide), if_neg (by decide), show f_X1_isOfKind v (sBt (g_X1_begins_kix 114) 1) = f_X8_isWithin v (-64) 63 from rfl, W_in (v := v) (a' := -64) (b' := 63) rfl rfl]
theorem kn_r1 (nums : Nat → Int32) (v : Int32) : g_X1_with_nums nums (g_X1_begins_kix 114) 1 v = upd nums 1 v := by
  unfold g_X1_with_nums
  rw [if_neg (by decide), if_neg (by decide), show (1 : Int32).toNatClampNeg = 1 from by decide]
theorem ko_r2 : g_X1_with_osz (g_X1_begins_kix 114) 2 = 3 := by decide
theorem ka_r2 (aw v : Int32) : g_X1_with_aw (g_X1_begins_kix 114) 2 aw v = if aw = 0 then 0 else if f_X9_in v.toInt64 (-64) 63 = 0 then 0 else 1 := by
  unfold g_X1_with_aw
  rw [if_neg (by decide), if_neg (by decide), show f_X1_isOfKind v (sBt (g_X1_begins_kix 114) 2) = f_X8_isWithin v (-64) 63 from rfl, W_in (v := v) (a' := -64) (b' := 63) rfl rfl]
theorem kn_r2 (nums : Nat → Int32) (v : Int32) : g_X1_with_nums nums (g_X1_begins_kix 114) 2 v = upd nums 2 v := by
  unfold g_X1_with_nums
  rw [if_neg (by decide), if_neg (by decide), show (2 : Int32).toNatClampNeg = 2 from by decide]
theorem ko_r3 : g_X1_with_osz (g_X1_begins_kix 114) 3 = 4 := by decide
theorem ka_r3 (aw v : Int32) : g_X1_with_aw (g_X1_begins_kix 114) 3 aw v = if aw = 0 then 0 else if f_X9_in v.toInt64 1 64 = 0 then 0 else 1 := by
  unfold g_X1_with_aw
  rw [if_neg (by decide), if_neg (by decide), show f_X1_isOfKind v (sBt (g_X1_begins_kix 114) 3) = f_X8_isWithin v 1 64 from rfl, W_in (v := v) (a' := 1) (b' := 64) rfl rfl]
theorem kn_r3 (nums : Nat → Int32) (v : Int32) : g_X1_with_nums nums (g_X1_begins_kix 114) 3 v = upd nums 3 v := by
  unfold g_X1_with_nums
  rw [if_neg (by decide), if_neg (by decide), show (3 : Int32).toNatClampNeg = 3 from by decide]
theorem ko_r4 : g_X1_with_osz (g_X1_begins_kix 114) 4 = 5 := by decide
theorem ka_r4 (aw v : Int32) : g_X1_with_aw (g_X1_begins_kix 114) 4 aw v = if aw = 0 then 0 else if f_X9_in v.toInt64 1 64 = 0 then 0 else 1 := by
  unfold g_X1_with_aw
  rw [if_neg (by decide), if_neg (by decide), show f_X1_isOfKind v (sBt (g_X1_begins_kix 114) 4) = f_X8_isWithin v 1 64 from rfl, W_in (v := v) (a' := 1) (b' := 64) rfl rfl]
theorem kn_r4 (nums : Nat → Int32) (v : Int32) : g_X1_with_nums nums (g_X1_begins_kix 114) 4 v = upd nums 4 v := by
  unfold g_X1_with_nums
  rw [if_neg (by decide), if_neg (by decide), show (4 : Int32).toNatClampNeg = 4 from by decide]
theorem ko_r5 : g_X1_with_osz (g_X1_begins_kix 114) 5 = 6 := by decide
theorem ka_r5 (aw v : Int32) : g_X1_with_aw (g_X1_begins_kix 114) 5 aw v = if aw = 0 then 0 else if f_X9_in v.toInt64 0 255 = 0 then 0 else 1 := by
  unfold g_X1_with_aw
  rw [if_neg (by decide), if_neg (by decide), show f_X1_isOfKind v (sBt (g_X1_begins_kix 114) 5) = f_X8_isWithin v 0 255 from rfl, W_in (v := v) (a' := 0) (b' := 255) rfl rfl]
theorem kn_r5 (nums : Nat → Int32) (v : Int32) : g_X1_with_nums nums (g_X1_begins_kix 114) 5 v = upd nums 5 v := by
  unfold g_X1_with_nums
  rw [if_neg (by decide), if_neg (by decide), show (5 : Int32).toNatClampNeg = 5 from by decide]
theorem kt_r (aw : Int32) : f_X1_isAsTold (g_X1_begins_kix 114) 6 aw = if aw = 0 then 0 else 1 := by
  unfold f_X1_isAsTold
  rw [if_pos (show (6 : Int32) = sLen (g_X1_begins_kix 114) by decide)]
theorem ko_c0 : g_X1_with_osz (g_X1_begins_kix 99) 0 = 1 := by decide
theorem ka_c0 (aw v : Int32) : g_X1_with_aw (g_X1_begins_kix 99) 0 aw v = if aw = 0 then 0 else if f_X9_isPicture v = 0 then 0 else 1 := by
  unfold g_X1_with_aw
  rw [if_neg (by decide), if_neg (by decide), show f_X1_isOfKind v (sBt (g_X1_begins_kix 99) 0) = f_X8_isPicture v from rfl, pic_eq v]
theorem kn_c0 (nums : Nat → Int32) (v : Int32) : g_X1_with_nums nums (g_X1_begins_kix 99) 0 v = upd nums 0 v := by
  unfold g_X1_with_nums
  rw [if_neg (by decide), if_neg (by decide), show (0 : Int32).toNatClampNeg = 0 from by decide]
theorem ko_c1 : g_X1_with_osz (g_X1_begins_kix 99) 1 = 2 := by decide
theorem ka_c1 (aw v : Int32) : g_X1_with_aw (g_X1_begins_kix 99) 1 aw v = if aw = 0 then 0 else if f_X9_in v.toInt64 0 15 = 0 then 0 else 1 := by
  unfold g_X1_with_aw
  rw [if_neg (by decide), if_neg (by decide), show f_X1_isOfKind v (sBt (g_X1_begins_kix 99) 1) = f_X8_isWithin v 0 15 from rfl, W_in (v := v) (a' := 0) (b' := 15) rfl rfl]
theorem kn_c1 (nums : Nat → Int32) (v : Int32) : g_X1_with_nums nums (g_X1_begins_kix 99) 1 v = upd nums 1 v := by
  unfold g_X1_with_nums
  rw [if_neg (by decide), if_neg (by decide), show (1 : Int32).toNatClampNeg = 1 from by decide]
theorem ko_c2 : g_X1_with_osz (g_X1_begins_kix 99) 2 = 3 := by decide
theorem ka_c2 (aw v : Int32) : g_X1_with_aw (g_X1_begins_kix 99) 2 aw v = if aw = 0 then 0 else if f_X9_in v.toInt64 (-64) 63 = 0 then 0 else 1 := by
  unfold g_X1_with_aw
  rw [if_neg (by decide), if_neg (by decide), show f_X1_isOfKind v (sBt (g_X1_begins_kix 99) 2) = f_X8_isWithin v (-64) 63 from rfl, W_in (v := v) (a' := -64) (b' := 63) rfl rfl]
theorem kn_c2 (nums : Nat → Int32) (v : Int32) : g_X1_with_nums nums (g_X1_begins_kix 99) 2 v = upd nums 2 v := by
  unfold g_X1_with_nums
  rw [if_neg (by decide), if_neg (by decide), show (2 : Int32).toNatClampNeg = 2 from by decide]
theorem ko_c3 : g_X1_with_osz (g_X1_begins_kix 99) 3 = 4 := by decide
theorem ka_c3 (aw v : Int32) : g_X1_with_aw (g_X1_begins_kix 99) 3 aw v = if aw = 0 then 0 else if f_X9_in v.toInt64 (-64) 63 = 0 then 0 else 1 := by
  unfold g_X1_with_aw
  rw [if_neg (by decide), if_neg (by decide), show f_X1_isOfKind v (sBt (g_X1_begins_kix 99) 3) = f_X8_isWithin v (-64) 63 from rfl, W_in (v := v) (a' := -64) (b' := 63) rfl rfl]
theorem kn_c3 (nums : Nat → Int32) (v : Int32) : g_X1_with_nums nums (g_X1_begins_kix 99) 3 v = upd nums 3 v := by
  unfold g_X1_with_nums
  rw [if_neg (by decide), if_neg (by decide), show (3 : Int32).toNatClampNeg = 3 from by decide]
theorem ko_c4 : g_X1_with_osz (g_X1_begins_kix 99) 4 = 5 := by decide
theorem ka_c4 (aw v : Int32) : g_X1_with_aw (g_X1_begins_kix 99) 4 aw v = if aw = 0 then 0 else if f_X9_in v.toInt64 0 255 = 0 then 0 else 1 := by
  unfold g_X1_with_aw
  rw [if_neg (by decide), if_neg (by decide), show f_X1_isOfKind v (sBt (g_X1_begins_kix 99) 4) = f_X8_isWithin v 0 255 from rfl, W_in (v := v) (a' := 0) (b' := 255) rfl rfl]
theorem kn_c4 (nums : Nat → Int32) (v : Int32) : g_X1_with_nums nums (g_X1_begins_kix 99) 4 v = upd nums 4 v := by
  unfold g_X1_with_nums
  rw [if_neg (by decide), if_neg (by decide), show (4 : Int32).toNatClampNeg = 4 from by decide]
theorem kt_c (aw : Int32) : f_X1_isAsTold (g_X1_begins_kix 99) 5 aw = if aw = 0 then 0 else 1 := by
  unfold f_X1_isAsTold
  rw [if_pos (show (5 : Int32) = sLen (g_X1_begins_kix 99) by decide)]
theorem ko_o0 : g_X1_with_osz (g_X1_begins_kix 111) 0 = 1 := by decide
theorem ka_o0 (aw v : Int32) : g_X1_with_aw (g_X1_begins_kix 111) 0 aw v = if aw = 0 then 0 else if f_X9_in v.toInt64 (-64) 63 = 0 then 0 else 1 := by
  unfold g_X1_with_aw
  rw [if_neg (by decide), if_neg (by decide), show f_X1_isOfKind v (sBt (g_X1_begins_kix 111) 0) = f_X8_isWithin v (-64) 63 from rfl, W_in (v := v) (a' := -64) (b' := 63) rfl rfl]
theorem kn_o0 (nums : Nat → Int32) (v : Int32) : g_X1_with_nums nums (g_X1_begins_kix 111) 0 v = upd nums 0 v := by
  unfold g_X1_with_nums
  rw [if_neg (by decide), if_neg (by decide), show (0 : Int32).toNatClampNeg = 0 from by decide]
theorem ko_o1 : g_X1_with_osz (g_X1_begins_kix 111) 1 = 2 := by decide
theorem ka_o1 (aw v : Int32) : g_X1_with_aw (g_X1_begins_kix 111) 1 aw v = if aw = 0 then 0 else if f_X9_in v.toInt64 (-64) 63 = 0 then 0 else 1 := by
  unfold g_X1_with_aw
  rw [if_neg (by decide), if_neg (by decide), show f_X1_isOfKind v (sBt (g_X1_begins_kix 111) 1) = f_X8_isWithin v (-64) 63 from rfl, W_in (v := v) (a' := -64) (b' := 63) rfl rfl]
theorem kn_o1 (nums : Nat → Int32) (v : Int32) : g_X1_with_nums nums (g_X1_begins_kix 111) 1 v = upd nums 1 v := by
  unfold g_X1_with_nums
  rw [if_neg (by decide), if_neg (by decide), show (1 : Int32).toNatClampNeg = 1 from by decide]
theorem ko_o2 : g_X1_with_osz (g_X1_begins_kix 111) 2 = 3 := by decide
theorem ka_o2 (aw v : Int32) : g_X1_with_aw (g_X1_begins_kix 111) 2 aw v = if aw = 0 then 0 else if f_X9_in v.toInt64 1 64 = 0 then 0 else 1 := by
  unfold g_X1_with_aw
  rw [if_neg (by decide), if_neg (by decide), show f_X1_isOfKind v (sBt (g_X1_begins_kix 111) 2) = f_X8_isWithin v 1 64 from rfl, W_in (v := v) (a' := 1) (b' := 64) rfl rfl]
theorem kn_o2 (nums : Nat → Int32) (v : Int32) : g_X1_with_nums nums (g_X1_begins_kix 111) 2 v = upd nums 2 v := by
  unfold g_X1_with_nums
  rw [if_neg (by decide), if_neg (by decide), show (2 : Int32).toNatClampNeg = 2 from by decide]
theorem ko_o3 : g_X1_with_osz (g_X1_begins_kix 111) 3 = 4 := by decide
theorem ka_o3 (aw v : Int32) : g_X1_with_aw (g_X1_begins_kix 111) 3 aw v = if aw = 0 then 0 else if f_X9_in v.toInt64 1 64 = 0 then 0 else 1 := by
  unfold g_X1_with_aw
  rw [if_neg (by decide), if_neg (by decide), show f_X1_isOfKind v (sBt (g_X1_begins_kix 111) 3) = f_X8_isWithin v 1 64 from rfl, W_in (v := v) (a' := 1) (b' := 64) rfl rfl]
theorem kn_o3 (nums : Nat → Int32) (v : Int32) : g_X1_with_nums nums (g_X1_begins_kix 111) 3 v = upd nums 3 v := by
  unfold g_X1_with_nums
  rw [if_neg (by decide), if_neg (by decide), show (3 : Int32).toNatClampNeg = 3 from by decide]
theorem kt_o (aw : Int32) : f_X1_isAsTold (g_X1_begins_kix 111) 4 aw = if aw = 0 then 0 else 1 := by
  unfold f_X1_isAsTold
  rw [if_pos (show (4 : Int32) = sLen (g_X1_begins_kix 111) by decide)]
theorem sim_move {rows : Nat → Int32} {pat : Nat → Int32} {ops : Nat → Int32} {cnt : Int32} {krows : Nat → Nat → Int32} {kpat : Nat → Nat → Int32} {kops : Nat → Nat → Int32} {kcnt : Nat → Int32} {next : Int32} {size : Int32} {bytes : Nat → Int32} {len : Int32} {bads : Int32} {noes : Int32} {fulls : Int32} {osz : Int32} {now : Nat → Int32} {past : Nat → Int32} {states : Int32} {refused : Nat → Int32} {text : Nat → Int32} {textL : Int32} {left : Nat → Int32} {srow : Nat → Int32} {sdot : Nat → Int32} {source : Nat → Int32} {like : Nat → Int32} {nums : Nat → Int32} {asidem : Nat → Int32} (h : Rel rows pat ops cnt krows kpat kops kcnt next size bytes len bads noes fulls osz now past states refused text textL) (A1 : Int32) (A2 : Int32) (A3 : Int32) (A4 : Int32) (A5 : Int32) (A6 : Int32) (A7 : Int32) (A8 : Int32) (A9 : Int32) : f_X8_move rows pat ops cnt source like left srow sdot nums A1 A2 A3 A4 A5 A6 A7 A8 A9 = f_X9_move now asidem A1 A2 A3 A4 A5 A6 A7 A8 A9 ∧ Rel (g_X8_move_rows rows pat ops cnt source like left srow sdot nums A1 A2 A3 A4 A5 A6 A7 A8 A9) pat (g_X8_move_ops ops cnt nums A1 A2 A3 A4 A5 A6 A7 A8 A9) (g_X8_move_cnt cnt A1 A2 A3 A4 A5 A6 A7 A8 A9) (g_X8_move_krows rows krows next A1 A2 A3 A4 A5 A6 A7 A8 A9) (g_X8_move_kpat pat kpat next A1 A2 A3 A4 A5 A6 A7 A8 A9) (g_X8_move_kops ops kops next A1 A2 A3 A4 A5 A6 A7 A8 A9) (g_X8_move_kcnt cnt kcnt next A1 A2 A3 A4 A5 A6 A7 A8 A9) (g_X8_move_next next A1 A2 A3 A4 A5 A6 A7 A8 A9) (g_X8_move_size size A1 A2 A3 A4 A5 A6 A7 A8 A9) bytes len (g_X8_move_bads bads A1 A2 A3 A4 A5 A6 A7 A8 A9) noes fulls g_X8_move_osz (g_X9_move_now now asidem A1 A2 A3 A4 A5 A6 A7 A8 A9) (g_X9_move_past now past states A1 A2 A3 A4 A5 A6 A7 A8 A9) (g_X9_move_states states A1 A2 A3 A4 A5 A6 A7 A8 A9) (g_X9_move_refused refused A1 A2 A3 A4 A5 A6 A7 A8 A9) text textL := by
  unfold f_X8_move f_X9_move g_X8_move_bads g_X8_move_rows g_X8_move_ops g_X8_move_cnt g_X8_move_krows g_X8_move_kpat g_X8_move_kops g_X8_move_kcnt g_X8_move_next g_X8_move_size g_X8_move_osz g_X9_move_now g_X9_move_past g_X9_move_states g_X9_move_refused f_X9_isPlace f_X9_isSize f_X9_isJoin
  simp only [g_X1_begins_osz, g_X1_begins_aw, ko_m0, ko_m1, ko_m2, ko_m3, ko_m4, ko_m5, ko_m6, ko_m7, ko_m8, ka_m0, ka_m1, ka_m2, ka_m3, ka_m4, ka_m5, ka_m6, ka_m7, ka_m8, kn_m0, kn_m1, kn_m2, kn_m3, kn_m4, kn_m5, kn_m6, kn_m7, kn_m8, kt_m]
  by_cases q0 : f_X9_isPicture A1 = 0
  · simp only [i00, if_pos q0, if_true, i00, i10]
    exact ⟨rfl, (h.setO (o := 9) ⟨by decide, by decide⟩).bad⟩
  by_cases q1 : f_X9_in A2.toInt64 (-64) 63 = 0
  · simp only [if_neg q0, if_pos q1, if_true, i00, i10]
    exact ⟨rfl, (h.setO (o := 9) ⟨by decide, by decide⟩).bad⟩
  by_cases q2 : f_X9_in A3.toInt64 (-64) 63 = 0
  · simp only [if_neg q0, if_neg q1, if_pos q2, if_true, i00, i10]
    exact ⟨rfl, (h.setO (o := 9) ⟨by decide, by decide⟩).bad⟩
  by_cases q3 : f_X9_in A4.toInt64 1 64 = 0
  · simp only [if_neg q0, if_neg q1, if_neg q2, if_pos q3, if_true, i00, i10]
    exact ⟨rfl, (h.setO (o := 9) ⟨by decide, by decide⟩).bad⟩
  by_cases q4 : f_X9_in A5.toInt64 1 64 = 0
  · simp only [if_neg q0, if_neg q1, if_neg q2, if_neg q3, if_pos q4, if_true, i00, i10]
    exact ⟨rfl, (h.setO (o := 9) ⟨by decide, by decide⟩).bad⟩
  by_cases q5 : f_X9_isPicture A6 = 0
  · simp only [if_neg q0, if_neg q1, if_neg q2, if_neg q3, if_neg q4, if_pos q5, if_true, i00, i10]
    exact ⟨rfl, (h.setO (o := 9) ⟨by decide, by decide⟩).bad⟩
  by_cases q6 : f_X9_in A7.toInt64 (-64) 63 = 0
  · simp only [if_neg q0, if_neg q1, if_neg q2, if_neg q3, if_neg q4, if_neg q5, if_pos q6, if_true, i00, i10]
    exact ⟨rfl, (h.setO (o := 9) ⟨by decide, by decide⟩).bad⟩
  by_cases q7 : f_X9_in A8.toInt64 (-64) 63 = 0
  · simp only [if_neg q0, if_neg q1, if_neg q2, if_neg q3, if_neg q4, if_neg q5, if_neg q6, if_pos q7, if_true, i00, i10]
    exact ⟨rfl, (h.setO (o := 9) ⟨by decide, by decide⟩).bad⟩
  by_cases q8 : f_X9_in A9.toInt64 0 255 = 0
  · simp only [if_neg q0, if_neg q1, if_neg q2, if_neg q3, if_neg q4, if_neg q5, if_neg q6, if_neg q7, if_pos q8, if_true, i00, i10]
    exact ⟨rfl, (h.setO (o := 9) ⟨by decide, by decide⟩).bad⟩
  simp only [if_neg q0, if_neg q1, if_neg q2, if_neg q3, if_neg q4, if_neg q5, if_neg q6, if_neg q7, if_neg q8, if_true, i00, i10]
  have b0 := mP_ne q0
  have b1 := mIn_ne q1
  rw [Int32.toInt_toInt64] at b1
  have b2 := mIn_ne q2
  rw [Int32.toInt_toInt64] at b2
  have b3 := mIn_ne q3
  rw [Int32.toInt_toInt64] at b3
  have b4 := mIn_ne q4
  rw [Int32.toInt_toInt64] at b4
  have b5 := mP_ne q5
  have b6 := mIn_ne q6
  rw [Int32.toInt_toInt64] at b6
  have b7 := mIn_ne q7
  rw [Int32.toInt_toInt64] at b7
  have b8 := mIn_ne q8
  rw [Int32.toInt_toInt64] at b8
  have hc := mv_core (source := source) (aside := asidem) h.1 (nums := upd (upd (upd (upd (upd (upd (upd (upd (upd nums 0 A1) 1 A2) 2 A3) 3 A4) 4 A5) 5 A6) 6 A7) 7 A8) 8 A9) (osz := 9) rfl rfl rfl rfl rfl rfl rfl rfl rfl b0 b1 b2 b3 b4 b5 b6 b7
  exact ⟨hc.1, (h.setO (o := 9) ⟨by decide, by decide⟩).kept hc.2⟩

theorem sim_line {rows : Nat → Int32} {pat : Nat → Int32} {ops : Nat → Int32} {cnt : Int32} {krows : Nat → Nat → Int32} {kpat : Nat → Nat → Int32} {kops : Nat → Nat → Int32} {kcnt : Nat → Int32} {next : Int32} {size : Int32} {bytes : Nat → Int32} {len : Int32} {bads : Int32} {noes : Int32} {fulls : Int32} {osz : Int32} {now : Nat → Int32} {past : Nat → Int32} {states : Int32} {refused : Nat → Int32} {text : Nat → Int32} {textL : Int32} {left : Nat → Int32} {srow : Nat → Int32} {sdot : Nat → Int32} {source : Nat → Int32} {like : Nat → Int32} {nums : Nat → Int32} (h : Rel rows pat ops cnt krows kpat kops kcnt next size bytes len bads noes fulls osz now past states refused text textL) (A1 : Int32) (A2 : Int32) (A3 : Int32) (A4 : Int32) (A5 : Int32) (A6 : Int32) : f_X8_line rows pat ops cnt source like left srow sdot nums A1 A2 A3 A4 A5 A6 = f_X9_line now A1 A2 A3 A4 A5 A6 ∧ Rel (g_X8_line_rows rows pat ops cnt source like left srow sdot nums A1 A2 A3 A4 A5 A6) pat (g_X8_line_ops ops cnt nums A1 A2 A3 A4 A5 A6) (g_X8_line_cnt cnt A1 A2 A3 A4 A5 A6) (g_X8_line_krows rows krows next A1 A2 A3 A4 A5 A6) (g_X8_line_kpat pat kpat next A1 A2 A3 A4 A5 A6) (g_X8_line_kops ops kops next A1 A2 A3 A4 A5 A6) (g_X8_line_kcnt cnt kcnt next A1 A2 A3 A4 A5 A6) (g_X8_line_next next A1 A2 A3 A4 A5 A6) (g_X8_line_size size A1 A2 A3 A4 A5 A6) bytes len (g_X8_line_bads bads A1 A2 A3 A4 A5 A6) noes fulls g_X8_line_osz (g_X9_line_now now A1 A2 A3 A4 A5 A6) (g_X9_line_past now past states A1 A2 A3 A4 A5 A6) (g_X9_line_states states A1 A2 A3 A4 A5 A6) (g_X9_line_refused refused A1 A2 A3 A4 A5 A6) text textL := by
  unfold f_X8_line f_X9_line g_X8_line_bads g_X8_line_rows g_X8_line_ops g_X8_line_cnt g_X8_line_krows g_X8_line_kpat g_X8_line_kops g_X8_line_kcnt g_X8_line_next g_X8_line_size g_X8_line_osz g_X9_line_now g_X9_line_past g_X9_line_states g_X9_line_refused f_X9_isPlace f_X9_isJoin
  simp only [g_X1_begins_osz, g_X1_begins_aw, ko_l0, ko_l1, ko_l2, ko_l3, ko_l4, ko_l5, ka_l0, ka_l1, ka_l2, ka_l3, ka_l4, ka_l5, kn_l0, kn_l1, kn_l2, kn_l3, kn_l4, kn_l5, kt_l]
  by_cases q0 : f_X9_isPicture A1 = 0
  · simp only [i00, if_pos q0, if_true, i00, i10]
    exact ⟨rfl, (h.setO (o := 6) ⟨by decide, by decide⟩).bad⟩
  by_cases q1 : f_X9_in A2.toInt64 (-64) 63 = 0
  · simp only [if_neg q0, if_pos q1, if_true, i00, i10]
    exact ⟨rfl, (h.setO (o := 6) ⟨by decide, by decide⟩).bad⟩
  by_cases q2 : f_X9_in A3.toInt64 (-64) 63 = 0
  · simp only [if_neg q0, if_neg q1, if_pos q2, if_true, i00, i10]
    exact ⟨rfl, (h.setO (o := 6) ⟨by decide, by decide⟩).bad⟩
  by_cases q3 : f_X9_in A4.toInt64 (-64) 63 = 0
  · simp only [if_neg q0, if_neg q1, if_neg q2, if_pos q3, if_true, i00, i10]
    exact ⟨rfl, (h.setO (o := 6) ⟨by decide, by decide⟩).bad⟩
  by_cases q4 : f_X9_in A5.toInt64 (-64) 63 = 0
  · simp only [if_neg q0, if_neg q1, if_neg q2, if_neg q3, if_pos q4, if_true, i00, i10]
    exact ⟨rfl, (h.setO (o := 6) ⟨by decide, by decide⟩).bad⟩
  by_cases q5 : f_X9_in A6.toInt64 0 255 = 0
  · simp only [if_neg q0, if_neg q1, if_neg q2, if_neg q3, if_neg q4, if_pos q5, if_true, i00, i10]
    exact ⟨rfl, (h.setO (o := 6) ⟨by decide, by decide⟩).bad⟩
  simp only [if_neg q0, if_neg q1, if_neg q2, if_neg q3, if_neg q4, if_neg q5, if_true, i00, i10]
  have b0 := mP_ne q0
  have b1 := mIn_ne q1
  rw [Int32.toInt_toInt64] at b1
  have b2 := mIn_ne q2
  rw [Int32.toInt_toInt64] at b2
  have b3 := mIn_ne q3
  rw [Int32.toInt_toInt64] at b3
  have b4 := mIn_ne q4
  rw [Int32.toInt_toInt64] at b4
  have b5 := mIn_ne q5
  rw [Int32.toInt_toInt64] at b5
  have hc := li_core h.1 (nums := upd (upd (upd (upd (upd (upd nums 0 A1) 1 A2) 2 A3) 3 A4) 4 A5) 5 A6) (osz := 6) rfl rfl rfl rfl rfl rfl b0 b1 b2 b3 b4
  exact ⟨hc.1, (h.setO (o := 6) ⟨by decide, by decide⟩).kept hc.2⟩

theorem sim_rectangle {rows : Nat → Int32} {pat : Nat → Int32} {ops : Nat → Int32} {cnt : Int32} {krows : Nat → Nat → Int32} {kpat : Nat → Nat → Int32} {kops : Nat → Nat → Int32} {kcnt : Nat → Int32} {next : Int32} {size : Int32} {bytes : Nat → Int32} {len : Int32} {bads : Int32} {noes : Int32} {fulls : Int32} {osz : Int32} {now : Nat → Int32} {past : Nat → Int32} {states : Int32} {refused : Nat → Int32} {text : Nat → Int32} {textL : Int32} {left : Nat → Int32} {srow : Nat → Int32} {sdot : Nat → Int32} {source : Nat → Int32} {like : Nat → Int32} {nums : Nat → Int32} (h : Rel rows pat ops cnt krows kpat kops kcnt next size bytes len bads noes fulls osz now past states refused text textL) (A1 : Int32) (A2 : Int32) (A3 : Int32) (A4 : Int32) (A5 : Int32) (A6 : Int32) : f_X8_rectangle rows pat ops cnt source like left srow sdot nums A1 A2 A3 A4 A5 A6 = f_X9_rectangle now A1 A2 A3 A4 A5 A6 ∧ Rel (g_X8_rectangle_rows rows pat ops cnt source like left srow sdot nums A1 A2 A3 A4 A5 A6) pat (g_X8_rectangle_ops ops cnt nums A1 A2 A3 A4 A5 A6) (g_X8_rectangle_cnt cnt A1 A2 A3 A4 A5 A6) (g_X8_rectangle_krows rows krows next A1 A2 A3 A4 A5 A6) (g_X8_rectangle_kpat pat kpat next A1 A2 A3 A4 A5 A6) (g_X8_rectangle_kops ops kops next A1 A2 A3 A4 A5 A6) (g_X8_rectangle_kcnt cnt kcnt next A1 A2 A3 A4 A5 A6) (g_X8_rectangle_next next A1 A2 A3 A4 A5 A6) (g_X8_rectangle_size size A1 A2 A3 A4 A5 A6) bytes len (g_X8_rectangle_bads bads A1 A2 A3 A4 A5 A6) noes fulls g_X8_rectangle_osz (g_X9_rectangle_now now A1 A2 A3 A4 A5 A6) (g_X9_rectangle_past now past states A1 A2 A3 A4 A5 A6) (g_X9_rectangle_states states A1 A2 A3 A4 A5 A6) (g_X9_rectangle_refused refused A1 A2 A3 A4 A5 A6) text textL := by
  unfold f_X8_rectangle f_X9_rectangle g_X8_rectangle_bads g_X8_rectangle_rows g_X8_rectangle_ops g_X8_rectangle_cnt g_X8_rectangle_krows g_X8_rectangle_kpat g_X8_rectangle_kops g_X8_rectangle_kcnt g_X8_rectangle_next g_X8_rectangle_size g_X8_rectangle_osz g_X9_rectangle_now g_X9_rectangle_past g_X9_rectangle_states g_X9_rectangle_refused f_X9_isPlace f_X9_isSize f_X9_isJoin
  simp only [g_X1_begins_osz, g_X1_begins_aw, ko_r0, ko_r1, ko_r2, ko_r3, ko_r4, ko_r5, ka_r0, ka_r1, ka_r2, ka_r3, ka_r4, ka_r5, kn_r0, kn_r1, kn_r2, kn_r3, kn_r4, kn_r5, kt_r]
  by_cases q0 : f_X9_isPicture A1 = 0
  · simp only [i00, if_pos q0, if_true, i00, i10]
    exact ⟨rfl, (h.setO (o := 6) ⟨by decide, by decide⟩).bad⟩
  by_cases q1 : f_X9_in A2.toInt64 (-64) 63 = 0
  · simp only [if_neg q0, if_pos q1, if_true, i00, i10]
    exact ⟨rfl, (h.setO (o := 6) ⟨by decide, by decide⟩).bad⟩
  by_cases q2 : f_X9_in A3.toInt64 (-64) 63 = 0
  · simp only [if_neg q0, if_neg q1, if_pos q2, if_true, i00, i10]
    exact ⟨rfl, (h.setO (o := 6) ⟨by decide, by decide⟩).bad⟩
  by_cases q3 : f_X9_in A4.toInt64 1 64 = 0
  · simp only [if_neg q0, if_neg q1, if_neg q2, if_pos q3, if_true, i00, i10]
    exact ⟨rfl, (h.setO (o := 6) ⟨by decide, by decide⟩).bad⟩
  by_cases q4 : f_X9_in A5.toInt64 1 64 = 0
  · simp only [if_neg q0, if_neg q1, if_neg q2, if_neg q3, if_pos q4, if_true, i00, i10]
    exact ⟨rfl, (h.setO (o := 6) ⟨by decide, by decide⟩).bad⟩
  by_cases q5 : f_X9_in A6.toInt64 0 255 = 0
  · simp only [if_neg q0, if_neg q1, if_neg q2, if_neg q3, if_neg q4, if_pos q5, if_true, i00, i10]
    exact ⟨rfl, (h.setO (o := 6) ⟨by decide, by decide⟩).bad⟩
  simp only [if_neg q0, if_neg q1, if_neg q2, if_neg q3, if_neg q4, if_neg q5, if_true, i00, i10]
  have b0 := mP_ne q0
  have b1 := mIn_ne q1
  rw [Int32.toInt_toInt64] at b1
  have b2 := mIn_ne q2
  rw [Int32.toInt_toInt64] at b2
  have b3 := mIn_ne q3
  rw [Int32.toInt_toInt64] at b3
  have b4 := mIn_ne q4
  rw [Int32.toInt_toInt64] at b4
  have b5 := mIn_ne q5
  rw [Int32.toInt_toInt64] at b5
  have hc := re_core h.1 (nums := upd (upd (upd (upd (upd (upd nums 0 A1) 1 A2) 2 A3) 3 A4) 4 A5) 5 A6) (osz := 6) rfl rfl rfl rfl rfl rfl b0 b1 b2 b3 b4
  exact ⟨hc.1, (h.setO (o := 6) ⟨by decide, by decide⟩).kept hc.2⟩

theorem sim_letter {rows : Nat → Int32} {pat : Nat → Int32} {ops : Nat → Int32} {cnt : Int32} {krows : Nat → Nat → Int32} {kpat : Nat → Nat → Int32} {kops : Nat → Nat → Int32} {kcnt : Nat → Int32} {next : Int32} {size : Int32} {bytes : Nat → Int32} {len : Int32} {bads : Int32} {noes : Int32} {fulls : Int32} {osz : Int32} {now : Nat → Int32} {past : Nat → Int32} {states : Int32} {refused : Nat → Int32} {text : Nat → Int32} {textL : Int32} {left : Nat → Int32} {srow : Nat → Int32} {sdot : Nat → Int32} {source : Nat → Int32} {like : Nat → Int32} {nums : Nat → Int32} (h : Rel rows pat ops cnt krows kpat kops kcnt next size bytes len bads noes fulls osz now past states refused text textL) (A1 : Int32) (A2 : Int32) (A3 : Int32) (A4 : Int32) (A5 : Int32) : f_X8_letter rows pat ops cnt source like left srow sdot nums A1 A2 A3 A4 A5 = f_X9_letter now A1 A2 A3 A4 A5 ∧ Rel (g_X8_letter_rows rows pat ops cnt source like left srow sdot nums A1 A2 A3 A4 A5) pat (g_X8_letter_ops ops cnt nums A1 A2 A3 A4 A5) (g_X8_letter_cnt cnt A1 A2 A3 A4 A5) (g_X8_letter_krows rows krows next A1 A2 A3 A4 A5) (g_X8_letter_kpat pat kpat next A1 A2 A3 A4 A5) (g_X8_letter_kops ops kops next A1 A2 A3 A4 A5) (g_X8_letter_kcnt cnt kcnt next A1 A2 A3 A4 A5) (g_X8_letter_next next A1 A2 A3 A4 A5) (g_X8_letter_size size A1 A2 A3 A4 A5) bytes len (g_X8_letter_bads bads A1 A2 A3 A4 A5) noes fulls g_X8_letter_osz (g_X9_letter_now now A1 A2 A3 A4 A5) (g_X9_letter_past now past states A1 A2 A3 A4 A5) (g_X9_letter_states states A1 A2 A3 A4 A5) (g_X9_letter_refused refused A1 A2 A3 A4 A5) text textL := by
  unfold f_X8_letter f_X9_letter g_X8_letter_bads g_X8_letter_rows g_X8_letter_ops g_X8_letter_cnt g_X8_letter_krows g_X8_letter_kpat g_X8_letter_kops g_X8_letter_kcnt g_X8_letter_next g_X8_letter_size g_X8_letter_osz g_X9_letter_now g_X9_letter_past g_X9_letter_states g_X9_letter_refused f_X9_isPlace f_X9_isJoin
  simp only [g_X1_begins_osz, g_X1_begins_aw, ko_c0, ko_c1, ko_c2, ko_c3, ko_c4, ka_c0, ka_c1, ka_c2, ka_c3, ka_c4, kn_c0, kn_c1, kn_c2, kn_c3, kn_c4, kt_c]
  by_cases q0 : f_X9_isPicture A1 = 0
  · simp only [i00, if_pos q0, if_true, i00, i10]
    exact ⟨rfl, (h.setO (o := 5) ⟨by decide, by decide⟩).bad⟩
  by_cases q1 : f_X9_in A2.toInt64 0 15 = 0
  · simp only [if_neg q0, if_pos q1, if_true, i00, i10]
    exact ⟨rfl, (h.setO (o := 5) ⟨by decide, by decide⟩).bad⟩
  by_cases q2 : f_X9_in A3.toInt64 (-64) 63 = 0
  · simp only [if_neg q0, if_neg q1, if_pos q2, if_true, i00, i10]
    exact ⟨rfl, (h.setO (o := 5) ⟨by decide, by decide⟩).bad⟩
  by_cases q3 : f_X9_in A4.toInt64 (-64) 63 = 0
  · simp only [if_neg q0, if_neg q1, if_neg q2, if_pos q3, if_true, i00, i10]
    exact ⟨rfl, (h.setO (o := 5) ⟨by decide, by decide⟩).bad⟩
  by_cases q4 : f_X9_in A5.toInt64 0 255 = 0
  · simp only [if_neg q0, if_neg q1, if_neg q2, if_neg q3, if_pos q4, if_true, i00, i10]
    exact ⟨rfl, (h.setO (o := 5) ⟨by decide, by decide⟩).bad⟩
  simp only [if_neg q0, if_neg q1, if_neg q2, if_neg q3, if_neg q4, if_true, i00, i10]
  have b0 := mP_ne q0
  have b1 := mIn_ne q1
  rw [Int32.toInt_toInt64] at b1
  have b2 := mIn_ne q2
  rw [Int32.toInt_toInt64] at b2
  have b3 := mIn_ne q3
  rw [Int32.toInt_toInt64] at b3
  have b4 := mIn_ne q4
  rw [Int32.toInt_toInt64] at b4
  have hc := le_core h.1 (nums := upd (upd (upd (upd (upd nums 0 A1) 1 A2) 2 A3) 3 A4) 4 A5) (osz := 5) rfl rfl rfl rfl rfl b0 b1 b2 b3
  exact ⟨hc.1, (h.setO (o := 5) ⟨by decide, by decide⟩).kept hc.2⟩

theorem op_core {rows pat ops now : Nat → Int32} {cnt a0 a1 a2 a3 : Int32} (h : Rs rows pat ops cnt now) (hc : cnt.toInt < 4) (h0 : pX a0) (h1 : pX a1) (h2 : 1 ≤ a2.toInt ∧ a2.toInt ≤ 64) (h3 : 1 ≤ a3.toInt ∧ a3.toInt ≤ 64) :
    Rs rows pat (g_X6_opens_ops ops cnt a0 a1 a2 a3) (g_X6_opens_cnt cnt) (g_X9_opens_now now a0 a1 a2 a3) ∧ g_X6_opens_cnt cnt = g_X9_opens_now now a0 a1 a2 a3 96 := by
  obtain ⟨r1, r2, r3, r4, r5⟩ := h
  have hc0 := r4.1
  have e4 : (4 : Int32).toInt = 4 := rfl
  have hlt : cnt < 4 := Int32.lt_iff_toInt_lt.mpr (by omega)
  have ec : cnt = nI cnt.toInt.toNat := Dn_of (by omega) (by omega)
  have lc : cnt.toInt.toNat < 4 := by omega
  have ic : (cnt.toInt.toNat : Int) = cnt.toInt := by omega
  generalize cnt.toInt.toNat = c at ec lc ic
  unfold g_X6_opens_ops g_X6_opens_cnt g_X9_opens_now
  rw [if_pos hlt, if_pos hlt, c96, ← r3]
  have m0 : (cnt * 4).toNatClampNeg = 4 * c := by rw [ec]; exact ixo0 lc
  have m1 : ((cnt * 4) + 1).toNatClampNeg = 4 * c + 1 := by rw [ec]; exact ixo lc (by decide) rfl
  have m2 : ((cnt * 4) + 2).toNatClampNeg = 4 * c + 2 := by rw [ec]; exact ixo lc (by decide) rfl
  have m3 : ((cnt * 4) + 3).toNatClampNeg = 4 * c + 3 := by rw [ec]; exact ixo lc (by decide) rfl
  have n0 : (80 + 4 * cnt).toNatClampNeg = 80 + 4 * c := by rw [ec]; exact ixn0 lc
  have n1 : (80 + 4 * cnt + 1).toNatClampNeg = 80 + (4 * c + 1) := by rw [ec]; exact ixn lc (by decide) rfl
  have n2 : (80 + 4 * cnt + 2).toNatClampNeg = 80 + (4 * c + 2) := by rw [ec]; exact ixn lc (by decide) rfl
  have n3 : (80 + 4 * cnt + 3).toNatClampNeg = 80 + (4 * c + 3) := by rw [ec]; exact ixn lc (by decide) rfl
  rw [m0, m1, m2, m3, n0, n1, n2, n3]
  have l96 : upd (upd (upd (upd now (80 + 4 * c) a0) (80 + (4 * c + 1)) a1) (80 + (4 * c + 2)) a2) (80 + (4 * c + 3)) a3 96 = cnt := by
    rw [pk_un (by omega), pk_un (by omega), pk_un (by omega), pk_un (by omega), ← r3]
  rw [l96]
  have ec1 : (cnt + 1).toInt = cnt.toInt + 1 := by
    have : (1 : Int32).toInt = 1 := rfl
    rw [tI_add (by omega) (by omega)]
    omega
  refine ⟨⟨fun k hk => ?_, fun k hk => ?_, ?_, ⟨by omega, by omega⟩, fun k hk => ?_⟩, by rw [pk_us]⟩
  · rw [pk_un (by omega), pk_un (by omega), pk_un (by omega), pk_un (by omega), pk_un (by omega)]; exact r1 k hk
  · rw [pk_un (by omega), pk_un (by omega), pk_un (by omega), pk_un (by omega), pk_un (by omega)]; exact r2 k hk
  · rw [pk_us]
  · by_cases z : k = c
    · subst z
      have v0 : upd (upd (upd (upd ops (4 * k) a0) (4 * k + 1) a1) (4 * k + 2) a2) (4 * k + 3) a3 (4 * k) = a0 := by rw [pk_un (by omega), pk_un (by omega), pk_un (by omega), pk_us]
      have v1 : upd (upd (upd (upd ops (4 * k) a0) (4 * k + 1) a1) (4 * k + 2) a2) (4 * k + 3) a3 (4 * k + 1) = a1 := by rw [pk_un (by omega), pk_un (by omega), pk_us]
      have v2 : upd (upd (upd (upd ops (4 * k) a0) (4 * k + 1) a1) (4 * k + 2) a2) (4 * k + 3) a3 (4 * k + 2) = a2 := by rw [pk_un (by omega), pk_us]
      have v3 : upd (upd (upd (upd ops (4 * k) a0) (4 * k + 1) a1) (4 * k + 2) a2) (4 * k + 3) a3 (4 * k + 3) = a3 := by rw [pk_us]
      refine ⟨fun j hj => ?_, by rw [v0]; exact h0, by rw [v1]; exact h1, by rw [v2]; exact h2, by rw [v3]; exact h3⟩
      match j, hj with
      | 0, _ =>
        show upd (upd (upd (upd ops (4 * k) a0) (4 * k + 1) a1) (4 * k + 2) a2) (4 * k + 3) a3 (4 * k) = _
        rw [v0, pk_un (by omega), pk_un (by omega), pk_un (by omega), pk_un (by omega)]
        exact pk_us.symm
      | 1, _ => rw [v1, pk_un (by omega), pk_un (by omega), pk_un (by omega), pk_us]
      | 2, _ => rw [v2, pk_un (by omega), pk_un (by omega), pk_us]
      | 3, _ => rw [v3, pk_un (by omega), pk_us]
    · have hk2 := r5 k (by omega)
      have w : ∀ j : Nat, j < 4 → upd (upd (upd (upd ops (4 * c) a0) (4 * c + 1) a1) (4 * c + 2) a2) (4 * c + 3) a3 (4 * k + j) = ops (4 * k + j) := fun j hj => by rw [pk_un (by omega), pk_un (by omega), pk_un (by omega), pk_un (by omega)]
      have w0 : upd (upd (upd (upd ops (4 * c) a0) (4 * c + 1) a1) (4 * c + 2) a2) (4 * c + 3) a3 (4 * k) = ops (4 * k) := w 0 (by decide)
      rw [w0, w 1 (by decide), w 2 (by decide), w 3 (by decide)]
      refine ⟨fun j hj => ?_, hk2.2⟩
      rw [w j hj, hk2.1 j hj, pk_un (by omega), pk_un (by omega), pk_un (by omega), pk_un (by omega), pk_un (by omega)]

theorem sim_opening {rows : Nat → Int32} {pat : Nat → Int32} {ops : Nat → Int32} {cnt : Int32} {krows : Nat → Nat → Int32} {kpat : Nat → Nat → Int32} {kops : Nat → Nat → Int32} {kcnt : Nat → Int32} {next : Int32} {size : Int32} {bytes : Nat → Int32} {len : Int32} {bads : Int32} {noes : Int32} {fulls : Int32} {osz : Int32} {now : Nat → Int32} {past : Nat → Int32} {states : Int32} {refused : Nat → Int32} {text : Nat → Int32} {textL : Int32} {left : Nat → Int32} {srow : Nat → Int32} {sdot : Nat → Int32} {source : Nat → Int32} {like : Nat → Int32} {nums : Nat → Int32} (h : Rel rows pat ops cnt krows kpat kops kcnt next size bytes len bads noes fulls osz now past states refused text textL) (A1 : Int32) (A2 : Int32) (A3 : Int32) (A4 : Int32) : f_X8_opening cnt A1 A2 A3 A4 = f_X9_opening now A1 A2 A3 A4 ∧ Rel (g_X8_opening_rows rows pat ops cnt source like left srow sdot nums A1 A2 A3 A4) pat (g_X8_opening_ops ops cnt nums A1 A2 A3 A4) (g_X8_opening_cnt cnt A1 A2 A3 A4) (g_X8_opening_krows rows cnt krows next A1 A2 A3 A4) (g_X8_opening_kpat pat cnt kpat next A1 A2 A3 A4) (g_X8_opening_kops ops cnt kops next A1 A2 A3 A4) (g_X8_opening_kcnt cnt kcnt next A1 A2 A3 A4) (g_X8_opening_next cnt next A1 A2 A3 A4) (g_X8_opening_size cnt size A1 A2 A3 A4) bytes len (g_X8_opening_bads bads A1 A2 A3 A4) noes (g_X8_opening_fulls fulls cnt A1 A2 A3 A4) g_X8_opening_osz (g_X9_opening_now now A1 A2 A3 A4) (g_X9_opening_past now past states A1 A2 A3 A4) (g_X9_opening_states now states A1 A2 A3 A4) (g_X9_opening_refused now refused A1 A2 A3 A4) text textL := by
  unfold f_X8_opening f_X9_opening g_X8_opening_bads g_X8_opening_fulls g_X8_opening_rows g_X8_opening_ops g_X8_opening_cnt g_X8_opening_krows g_X8_opening_kpat g_X8_opening_kops g_X8_opening_kcnt g_X8_opening_next g_X8_opening_size g_X8_opening_osz g_X9_opening_now g_X9_opening_past g_X9_opening_states g_X9_opening_refused f_X9_isPlace f_X9_isSize
  simp only [g_X1_begins_osz, g_X1_begins_aw, ko_o0, ko_o1, ko_o2, ko_o3, ka_o0, ka_o1, ka_o2, ka_o3, kn_o0, kn_o1, kn_o2, kn_o3, kt_o]
  by_cases q0 : f_X9_in A1.toInt64 (-64) 63 = 0
  · simp only [i00, if_pos q0, if_true, i00, i10]
    exact ⟨rfl, (h.setO (o := 4) ⟨by decide, by decide⟩).bad⟩
  by_cases q1 : f_X9_in A2.toInt64 (-64) 63 = 0
  · simp only [if_neg q0, if_pos q1, if_true, i00, i10]
    exact ⟨rfl, (h.setO (o := 4) ⟨by decide, by decide⟩).bad⟩
  by_cases q2 : f_X9_in A3.toInt64 1 64 = 0
  · simp only [if_neg q0, if_neg q1, if_pos q2, if_true, i00, i10]
    exact ⟨rfl, (h.setO (o := 4) ⟨by decide, by decide⟩).bad⟩
  by_cases q3 : f_X9_in A4.toInt64 1 64 = 0
  · simp only [if_neg q0, if_neg q1, if_neg q2, if_pos q3, if_true, i00, i10]
    exact ⟨rfl, (h.setO (o := 4) ⟨by decide, by decide⟩).bad⟩
  simp only [if_neg q0, if_neg q1, if_neg q2, if_neg q3, if_true, i00, i10]
  have b0 := mIn_ne q0
  rw [Int32.toInt_toInt64] at b0
  have b1 := mIn_ne q1
  rw [Int32.toInt_toInt64] at b1
  have b2 := mIn_ne q2
  rw [Int32.toInt_toInt64] at b2
  have b3 := mIn_ne q3
  rw [Int32.toInt_toInt64] at b3
  obtain ⟨c1, c2⟩ := h.1.2.2.2.1
  have e4 : (4 : Int32).toInt = 4 := rfl
  have e96 : now 96 = cnt := h.1.2.2.1.symm
  simp only [c96, e96]
  by_cases q : cnt = 4
  · have q2 : ¬ cnt < 4 := fun z => by have := Int32.lt_iff_toInt_lt.mp z; rw [q] at this; omega
    simp only [if_pos q, if_neg q2]
    exact ⟨rfl, (h.setO (o := 4) ⟨by decide, by decide⟩).full⟩
  · have q3 : cnt.toInt < 4 := by
      have : ¬ cnt.toInt = 4 := fun z => q (Int32.toInt_inj.mp z)
      omega
    have q2 : cnt < 4 := Int32.lt_iff_toInt_lt.mpr q3
    simp only [if_neg q, if_pos q2]
    have hc := op_core h.1 q3 b0 b1 b2 b3
    exact ⟨hc.2, (h.setO (o := 4) ⟨by decide, by decide⟩).kept hc.1⟩
