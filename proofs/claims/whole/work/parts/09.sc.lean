theorem isW_ne {n a b : Int32} (h : ¬ f_X8_isWithin n a b = 0) : a.toInt ≤ n.toInt ∧ n.toInt ≤ b.toInt := by
  unfold f_X8_isWithin at h
  by_cases h1 : n < a
  · rw [if_pos h1] at h; exact absurd rfl h
  · rw [if_neg h1] at h
    by_cases h2 : b < n
    · rw [if_pos h2] at h; exact absurd rfl h
    · rw [Int32.lt_iff_toInt_lt] at h1 h2
      omega
theorem isW_eq {n a b : Int32} (h1 : a.toInt ≤ n.toInt) (h2 : n.toInt ≤ b.toInt) : f_X8_isWithin n a b = 1 := by
  unfold f_X8_isWithin
  rw [if_neg (by rw [Int32.lt_iff_toInt_lt]; omega), if_neg (by rw [Int32.lt_iff_toInt_lt]; omega)]
theorem isP_ne {t : Int32} (h : ¬ f_X8_isPicture t = 0) : 0 ≤ t.toInt ∧ t.toInt ≤ 2 := isW_ne h
theorem tI_add {a b : Int32} (h1 : -2147483648 ≤ a.toInt + b.toInt) (h2 : a.toInt + b.toInt < 2147483648) : (a + b).toInt = a.toInt + b.toInt := by
  rw [Int32.toInt_add]; exact Int.bmod_eq_of_le (by omega) (by omega)
theorem tI_sub {a b : Int32} (h1 : -2147483648 ≤ a.toInt - b.toInt) (h2 : a.toInt - b.toInt < 2147483648) : (a - b).toInt = a.toInt - b.toInt := by
  rw [Int32.toInt_sub]; exact Int.bmod_eq_of_le (by omega) (by omega)
theorem tI_mul {a b : Int32} {n : Int} (hn : a.toInt * b.toInt = n) (h1 : -2147483648 ≤ n) (h2 : n < 2147483648) : (a * b).toInt = n := by
  rw [Int32.toInt_mul, hn]; exact Int.bmod_eq_of_le (by omega) (by omega)
theorem ix_rt {t y : Int32} (h1 : ¬ f_X8_isPicture t = 0) (h2 : ¬ f_X8_isWithin y 0 23 = 0) : vp_in (t * 24 + y) 72 := by
  have a := isP_ne h1
  have b := isW_ne h2
  have e0 : (0 : Int32).toInt = 0 := rfl
  have e1 : (23 : Int32).toInt = 23 := rfl
  have e2 : (t * 24).toInt = t.toInt * 24 := tI_mul rfl (by omega) (by omega)
  rw [vp_in_iff, tI_add (by omega) (by omega), e2]
  omega
theorem ix_7 (y : Int32) : vp_in (y &&& 7) 8 := pk_andIn y 3 (by decide) (by decide)
/-- how many openings there may be -/
def cOk (cnt : Int32) : Prop := 0 ≤ cnt.toInt ∧ cnt.toInt ≤ 4
theorem cOk_nI {cnt : Int32} (h : cOk cnt) : cnt = nI cnt.toNatClampNeg ∧ cnt.toNatClampNeg ≤ 4 := by
  have e : (cnt.toNatClampNeg : Int) = cnt.toInt := Int.toNat_of_nonneg h.1
  refine ⟨?_, by have := h.2; omega⟩
  rw [← Int32.toInt_inj, nI_toInt (by have := h.2; omega)]
  exact e.symm
theorem ix_op {i c : Nat} {k : Int32} (hi : i < c) (hc : c ≤ 4) (j : Nat) (hk : k = nI j) (hj : j < 4) : vp_in (nI i * 4 + k) 16 := by
  subst hk
  rw [show (4 : Int32) = nI 4 from rfl, pk_mul, nI_add]
  exact vp_in_nI (by omega) (by decide)
theorem ix_op0 {i c : Nat} (hi : i < c) (hc : c ≤ 4) : vp_in (nI i * 4) 16 := by
  rw [show (4 : Int32) = nI 4 from rfl, pk_mul]
  exact vp_in_nI (by omega) (by decide)

def f_X6_rowAt (rows : Nat → Int32) (t : Int32) (y : Int32) : Int32 := if (f_X8_isPicture t) = 0 then 0 else if (f_X8_isWithin y 0 23) = 0 then 0 else rows ((t * 24) + y).toNatClampNeg
set_option maxRecDepth 100000 in
theorem c_X6_rowAt {l : Launch} {G : zG} {so sr sp sq : Nat} {rows : Nat → Int32} {pat : Nat → Int32} {ops : Nat → Int32} {cnt : Int32} {t : Int32} {y : Int32} : Ct l G yX6_rowAt cX6_rowAt 3 (Option.some FieldType.int) 2 42 [.ref so, .int t, .int y] (wSc G so sr sp sq rows pat ops cnt) (pI (f_X6_rowAt rows t y) (wSc G so sr sp sq rows pat ops cnt)) := by
  refine Ct.of (plainFor_of_name (by decide)) (Nat.le_of_ble_eq_true rfl) (pI.ad ad_Sc) (fun X C E => ?_)
  show Z X G 3 0 0 _ 0 [(0, .ref so), (1, .int t), (2, .int y)] []
  refine z_iload_n (pc := 0) C 1 dX6_rowAt_0 rfl ?_
  refine z_callSN (pc := 1) C (c_X8_isPicture) [] z00 mS_X8_isPicture q_323 dX6_rowAt_1 rfl rfl rfl rfl (Nat.le_of_ble_eq_true rfl) (by decide) (pI.stay rfl ?_)
  refine z_if_eq (pc := 4) 31 C dX6_rowAt_4 (by decide) (fun c_4 => ?_) (fun c_4 => ?_)
  · skip
    refine z_iconst (pc := 31) (v := 0) C dX6_rowAt_31 (by decide) ?_
    exact z_iret (pc := 32) C E dX6_rowAt_32 (pI.mk (by simp only [f_X6_rowAt, if_pos c_4]) rfl)
  · skip
    refine z_iload_n (pc := 7) C 2 dX6_rowAt_7 rfl ?_
    refine z_iconst (pc := 8) (v := 0) C dX6_rowAt_8 (by decide) ?_
    refine z_bipush (pc := 9) (v := 23) C dX6_rowAt_9 (by decide) ?_
    refine z_callSN (pc := 11) C (c_X8_isWithin) [] z00 mS_X8_isWithin q_324 dX6_rowAt_11 rfl rfl rfl rfl (Nat.le_of_ble_eq_true rfl) (by decide) (pI.stay rfl ?_)
    refine z_if_eq (pc := 14) 31 C dX6_rowAt_14 (by decide) (fun c_14 => ?_) (fun c_14 => ?_)
    · skip
      refine z_iconst (pc := 31) (v := 0) C dX6_rowAt_31 (by decide) ?_
      exact z_iret (pc := 32) C E dX6_rowAt_32 (pI.mk (by simp only [f_X6_rowAt, if_neg c_4, if_pos c_14]) rfl)
    · skip
      refine z_aload_n (pc := 17) C 0 dX6_rowAt_17 rfl ?_
      refine z_get (pc := 18) C 0 0 dX6_rowAt_18 rfl rfl i_X6 (by decide) q_98 rfl ?_
      refine z_iload_n (pc := 21) C 1 dX6_rowAt_21 rfl ?_
      refine z_bipush (pc := 22) (v := 24) C dX6_rowAt_22 (by decide) ?_
      refine z_imul (pc := 24) C dX6_rowAt_24 ?_
      refine z_iload_n (pc := 25) C 2 dX6_rowAt_25 rfl ?_
      refine z_iadd (pc := 26) C dX6_rowAt_26 ?_
      refine z_iald (pc := 27) C 1 dX6_rowAt_27 rfl (ix_rt c_4 c_14) ?_
      refine z_goto (pc := 28) 32 C dX6_rowAt_28 (by decide) ?_
      exact z_iret (pc := 32) C E dX6_rowAt_32 (pI.mk (by simp only [f_X6_rowAt, if_neg c_4, if_neg c_14]) rfl)

def g_X6_putRow_rows (rows : Nat → Int32) (t : Int32) (y : Int32) (row : Int32) : Nat → Int32 := if (f_X8_isPicture t) = 0 then rows else if (f_X8_isWithin y 0 23) = 0 then rows else upd rows ((t * 24) + y).toNatClampNeg row
set_option maxRecDepth 100000 in
theorem c_X6_putRow {l : Launch} {G : zG} {so sr sp sq : Nat} {rows : Nat → Int32} {pat : Nat → Int32} {ops : Nat → Int32} {cnt : Int32} {t : Int32} {y : Int32} {row : Int32} : Ct l G yX6_putRow cX6_putRow 4 (Option.none : Option Jvm.ClassFile.FieldType) 2 42 [.ref so, .int t, .int y, .int row] (wSc G so sr sp sq rows pat ops cnt) (pV (wSc G so sr sp sq (g_X6_putRow_rows rows t y row) pat ops cnt)) := by
  refine Ct.of (plainFor_of_name (by decide)) (Nat.le_of_ble_eq_true rfl) (pV.ad ad_Sc) (fun X C E => ?_)
  show Z X G 4 0 0 _ 0 [(0, .ref so), (1, .int t), (2, .int y), (3, .int row)] []
  refine z_iload_n (pc := 0) C 1 dX6_putRow_0 rfl ?_
  refine z_callSN (pc := 1) C (c_X8_isPicture) [] z00 mS_X8_isPicture q_323 dX6_putRow_1 rfl rfl rfl rfl (Nat.le_of_ble_eq_true rfl) (by decide) (pI.stay rfl ?_)
  refine z_if_eq (pc := 4) 29 C dX6_putRow_4 (by decide) (fun c_4 => ?_) (fun c_4 => ?_)
  · skip
    exact z_vret (pc := 29) C E dX6_putRow_29 (pV.mk (by simp only [g_X6_putRow_rows, if_pos c_4]))
  · skip
    refine z_iload_n (pc := 7) C 2 dX6_putRow_7 rfl ?_
    refine z_iconst (pc := 8) (v := 0) C dX6_putRow_8 (by decide) ?_
    refine z_bipush (pc := 9) (v := 23) C dX6_putRow_9 (by decide) ?_
    refine z_callSN (pc := 11) C (c_X8_isWithin) [] z00 mS_X8_isWithin q_324 dX6_putRow_11 rfl rfl rfl rfl (Nat.le_of_ble_eq_true rfl) (by decide) (pI.stay rfl ?_)
    refine z_if_eq (pc := 14) 29 C dX6_putRow_14 (by decide) (fun c_14 => ?_) (fun c_14 => ?_)
    · skip
      exact z_vret (pc := 29) C E dX6_putRow_29 (pV.mk (by simp only [g_X6_putRow_rows, if_neg c_4, if_pos c_14]))
    · skip
      refine z_aload_n (pc := 17) C 0 dX6_putRow_17 rfl ?_
      refine z_get (pc := 18) C 0 0 dX6_putRow_18 rfl rfl i_X6 (by decide) q_98 rfl ?_
      refine z_iload_n (pc := 21) C 1 dX6_putRow_21 rfl ?_
      refine z_bipush (pc := 22) (v := 24) C dX6_putRow_22 (by decide) ?_
      refine z_imul (pc := 24) C dX6_putRow_24 ?_
      refine z_iload_n (pc := 25) C 2 dX6_putRow_25 rfl ?_
      refine z_iadd (pc := 26) C dX6_putRow_26 ?_
      refine z_iload_n (pc := 27) C 3 dX6_putRow_27 rfl ?_
      refine z_iast (pc := 28) (wSc G so sr sp sq _ pat ops cnt) C 1 dX6_putRow_28 rfl (ix_rt c_4 c_14) rfl ?_
      exact z_vret (pc := 29) C E dX6_putRow_29 (pV.mk (by simp only [g_X6_putRow_rows, if_neg c_4, if_neg c_14]))

def f_X6_dotAt (rows : Nat → Int32) (t : Int32) (x : Int32) (y : Int32) : Int32 := if (f_X8_isInPicture x y) = 0 then 0 else if ((f_X6_rowAt rows t y) &&& (f_X8_dotMask x)) = 0 then 0 else 1
set_option maxRecDepth 100000 in
theorem c_X6_dotAt {l : Launch} {G : zG} {so sr sp sq : Nat} {rows : Nat → Int32} {pat : Nat → Int32} {ops : Nat → Int32} {cnt : Int32} {t : Int32} {x : Int32} {y : Int32} : Ct l G yX6_dotAt cX6_dotAt 4 (Option.some FieldType.int) 3 64 [.ref so, .int t, .int x, .int y] (wSc G so sr sp sq rows pat ops cnt) (pI (f_X6_dotAt rows t x y) (wSc G so sr sp sq rows pat ops cnt)) := by
  refine Ct.of (plainFor_of_name (by decide)) (Nat.le_of_ble_eq_true rfl) (pI.ad ad_Sc) (fun X C E => ?_)
  show Z X G 4 0 0 _ 0 [(0, .ref so), (1, .int t), (2, .int x), (3, .int y)] []
  refine z_iload_n (pc := 0) C 2 dX6_dotAt_0 rfl ?_
  refine z_iload_n (pc := 1) C 3 dX6_dotAt_1 rfl ?_
  refine z_callSN (pc := 2) C (c_X8_isInPicture) [] z00 mS_X8_isInPicture q_318 dX6_dotAt_2 rfl rfl rfl rfl (Nat.le_of_ble_eq_true rfl) (by decide) (pI.stay rfl ?_)
  refine z_if_eq (pc := 5) 26 C dX6_dotAt_5 (by decide) (fun c_5 => ?_) (fun c_5 => ?_)
  · skip
    refine z_iconst (pc := 26) (v := 0) C dX6_dotAt_26 (by decide) ?_
    exact z_iret (pc := 27) C E dX6_dotAt_27 (pI.mk (by simp only [f_X6_dotAt, if_pos c_5]) rfl)
  · skip
    refine z_aload_n (pc := 8) C 0 dX6_dotAt_8 rfl ?_
    refine z_iload_n (pc := 9) C 1 dX6_dotAt_9 rfl ?_
    refine z_iload_n (pc := 10) C 3 dX6_dotAt_10 rfl ?_
    refine z_callV (pc := 11) C (c_X6_rowAt) [0, 1, 2, 3] z00 mV_X6_rowAt q_319 dX6_dotAt_11 rfl rfl rfl 0 rfl rfl rfl rfl (Nat.le_of_ble_eq_true rfl) (by decide) (pI.stay rfl ?_)
    refine z_iload_n (pc := 14) C 2 dX6_dotAt_14 rfl ?_
    refine z_callSN (pc := 15) C (c_X8_dotMask) [] z00 mS_X8_dotMask q_325 dX6_dotAt_15 rfl rfl rfl rfl (Nat.le_of_ble_eq_true rfl) (by decide) (pI.stay rfl ?_)
    refine z_iand (pc := 18) C dX6_dotAt_18 ?_
    refine z_if_eq (pc := 19) 26 C dX6_dotAt_19 (by decide) (fun c_19 => ?_) (fun c_19 => ?_)
    · skip
      refine z_iconst (pc := 26) (v := 0) C dX6_dotAt_26 (by decide) ?_
      exact z_iret (pc := 27) C E dX6_dotAt_27 (pI.mk (by simp only [f_X6_dotAt, if_neg c_5, if_pos c_19]) rfl)
    · skip
      refine z_iconst (pc := 22) (v := 1) C dX6_dotAt_22 (by decide) ?_
      refine z_goto (pc := 23) 27 C dX6_dotAt_23 (by decide) ?_
      exact z_iret (pc := 27) C E dX6_dotAt_27 (pI.mk (by simp only [f_X6_dotAt, if_neg c_5, if_neg c_19]) rfl)

def f_X6_patternAt (pat : Nat → Int32) (y : Int32) : Int32 := (pat (y &&& 7).toNatClampNeg) * 16843009
set_option maxRecDepth 100000 in
theorem c_X6_patternAt {l : Launch} {G : zG} {so sr sp sq : Nat} {rows : Nat → Int32} {pat : Nat → Int32} {ops : Nat → Int32} {cnt : Int32} {y : Int32} : Ct l G yX6_patternAt cX6_patternAt 2 (Option.some FieldType.int) 0 0 [.ref so, .int y] (wSc G so sr sp sq rows pat ops cnt) (pI (f_X6_patternAt pat y) (wSc G so sr sp sq rows pat ops cnt)) := by
  refine Ct.of (plainFor_of_name (by decide)) (Nat.le_of_ble_eq_true rfl) (pI.ad ad_Sc) (fun X C E => ?_)
  show Z X G 2 0 0 _ 0 [(0, .ref so), (1, .int y)] []
  refine z_aload_n (pc := 0) C 0 dX6_patternAt_0 rfl ?_
  refine z_get (pc := 1) C 0 1 dX6_patternAt_1 rfl rfl i_X6 (by decide) q_99 rfl ?_
  refine z_iload_n (pc := 4) C 1 dX6_patternAt_4 rfl ?_
  refine z_bipush (pc := 5) (v := 7) C dX6_patternAt_5 (by decide) ?_
  refine z_iand (pc := 7) C dX6_patternAt_7 ?_
  refine z_iald (pc := 8) C 2 dX6_patternAt_8 rfl (ix_7 _) ?_
  refine z_ldc (pc := 9) C q_507 dX6_patternAt_9 ?_
  refine z_imul (pc := 11) C dX6_patternAt_11 ?_
  exact z_iret (pc := 12) C E dX6_patternAt_12 (pI.mk rfl rfl)

def b_X6_openAt_13 (ops : Nat → Int32) (y : Int32) (i_13 : Nat) (z_13 : Int32) : Int32 := if y < (ops (((nI i_13) * 4) + 1).toNatClampNeg) then z_13 else if ((ops (((nI i_13) * 4) + 1).toNatClampNeg) + (ops (((nI i_13) * 4) + 3).toNatClampNeg)) ≤ y then z_13 else z_13 ||| (f_X8_spanMask (ops ((nI i_13) * 4).toNatClampNeg) (ops (((nI i_13) * 4) + 2).toNatClampNeg))
def s_X6_openAt_13 (ops : Nat → Int32) (y : Int32) : Nat → Int32
  | 0 => 0
  | i_13 + 1 => b_X6_openAt_13 ops y i_13 (s_X6_openAt_13 ops y i_13)
def f_X6_openAt (ops : Nat → Int32) (cnt : Int32) (y : Int32) : Int32 := if cnt = 0 then (-1) else (s_X6_openAt_13 ops y cnt.toNatClampNeg)
set_option maxRecDepth 100000 in
theorem c_X6_openAt {l : Launch} {G : zG} {so sr sp sq : Nat} {rows : Nat → Int32} {pat : Nat → Int32} {ops : Nat → Int32} {cnt : Int32} {y : Int32} (hc : cOk cnt) : Ct l G yX6_openAt cX6_openAt 6 (Option.some FieldType.int) 2 44 [.ref so, .int y] (wSc G so sr sp sq rows pat ops cnt) (pI (f_X6_openAt ops cnt y) (wSc G so sr sp sq rows pat ops cnt)) := by
  refine Ct.of (plainFor_of_name (by decide)) (Nat.le_of_ble_eq_true rfl) (pI.ad ad_Sc) (fun X C E => ?_)
  show Z X G 6 0 0 _ 0 [(0, .ref so), (1, .int y)] []
  have hk := cOk_nI hc
  refine z_aload_n (pc := 0) C 0 dX6_openAt_0 rfl ?_
  refine z_get (pc := 1) C 0 3 dX6_openAt_1 rfl rfl i_X6 (by decide) q_102 rfl ?_
  refine z_if_ne (pc := 4) 9 C dX6_openAt_4 (by decide) (fun c_4 => ?_) (fun c_4 => ?_)
  · skip
    refine z_iconst (pc := 9) (v := 0) C dX6_openAt_9 (by decide) ?_
    refine z_istore_n (pc := 10) [(2, _), (0, _), (1, _)] C dX6_openAt_10 rfl (by decide) rfl ?_
    refine z_iconst (pc := 11) (v := 0) C dX6_openAt_11 (by decide) ?_
    refine z_istore_n (pc := 12) [(3, _), (2, _), (0, _), (1, _)] C dX6_openAt_12 rfl (by decide) rfl ?_
    refine z_lv (lv' := [(0, _), (1, _), (2, _), (3, _)]) [2, 3, 1, 0] rfl ?_
    refine z_loop (pc := 13) (e := cnt.toNatClampNeg) (fun i_13 => wSc G so sr sp sq rows pat ops cnt) (fun i_13 => [(0, .ref so), (1, .int y), (2, .int (s_X6_openAt_13 ops y i_13)), (3, .int (nI i_13))]) [] (fun i_13 hi_13 ih_13 => ?_) ?_ 0 (Nat.zero_le _)
    · show Z X G 6 0 0 (wSc G so sr sp sq rows pat ops cnt) 13 [(0, .ref so), (1, .int y), (2, .int (s_X6_openAt_13 ops y i_13)), (3, .int (nI i_13))] []
      generalize hz_13 : s_X6_openAt_13 ops y i_13 = z_13
      refine z_iload_n (pc := 13) C 3 dX6_openAt_13 rfl ?_
      refine z_aload_n (pc := 14) C 0 dX6_openAt_14 rfl ?_
      refine z_get (pc := 15) C 0 3 dX6_openAt_15 rfl rfl i_X6 (by decide) q_102 rfl ?_
      refine z_icmp_ge (pc := 18) 92 C dX6_openAt_18 (by decide) (fun c_18 => ?_) (fun c_18 => ?_)
      · skip
        exact absurd c_18 (lps (hk.1) (by omega) (by omega))
      · skip
        refine z_iload_n (pc := 21) C 3 dX6_openAt_21 rfl ?_
        refine z_iconst (pc := 22) (v := 4) C dX6_openAt_22 (by decide) ?_
        refine z_icmp_ge (pc := 23) 92 C dX6_openAt_23 (by decide) (fun c_23 => ?_) (fun c_23 => ?_)
        · skip
          exact absurd c_23 (nI_ge (b := 4) (by omega) (by decide))
        · skip
          refine z_iload_n (pc := 26) C 3 dX6_openAt_26 rfl ?_
          refine z_iconst (pc := 27) (v := 4) C dX6_openAt_27 (by decide) ?_
          refine z_imul (pc := 28) C dX6_openAt_28 ?_
          refine z_istore (pc := 29) [(4, _), (0, _), (1, _), (2, _), (3, _)] C dX6_openAt_29 (by decide) rfl ?_
          refine z_aload_n (pc := 31) C 1 dX6_openAt_31 rfl ?_
          refine z_get (pc := 32) C 0 2 dX6_openAt_32 rfl rfl i_X6 (by decide) q_101 rfl ?_
          refine z_iload (pc := 35) C 0 dX6_openAt_35 rfl ?_
          refine z_iconst (pc := 37) (v := 1) C dX6_openAt_37 (by decide) ?_
          refine z_iadd (pc := 38) C dX6_openAt_38 ?_
          refine z_iald (pc := 39) C 3 dX6_openAt_39 rfl (ix_op hi_13 hk.2 1 rfl (by decide)) ?_
          refine z_istore (pc := 40) [(5, _), (4, _), (0, _), (1, _), (2, _), (3, _)] C dX6_openAt_40 (by decide) rfl ?_
          refine z_iload_n (pc := 42) C 3 dX6_openAt_42 rfl ?_
          refine z_iload (pc := 43) C 0 dX6_openAt_43 rfl ?_
          refine z_icmp_lt (pc := 45) 86 C dX6_openAt_45 (by decide) (fun c_45 => ?_) (fun c_45 => ?_)
          · skip
            refine z_iinc (pc := 86) (v := nI (i_13 + 1)) [(3, _), (5, _), (4, _), (0, _), (1, _), (2, _)] C 5 dX6_openAt_86 rfl ((nI_succ _).symm) (by decide) rfl ?_
            refine z_goto (pc := 89) 13 C dX6_openAt_89 (by decide) ?_
            refine z_lv (lv' := [(0, _), (1, _), (2, _), (3, _)]) [3, 4, 5, 0] rfl ?_
            exact z_eq rfl (by simp only [s_X6_openAt_13, hz_13, b_X6_openAt_13, if_pos c_45]) rfl ih_13
          · skip
            refine z_iload_n (pc := 48) C 3 dX6_openAt_48 rfl ?_
            refine z_iload (pc := 49) C 0 dX6_openAt_49 rfl ?_
            refine z_aload_n (pc := 51) C 2 dX6_openAt_51 rfl ?_
            refine z_get (pc := 52) C 0 2 dX6_openAt_52 rfl rfl i_X6 (by decide) q_101 rfl ?_
            refine z_iload (pc := 55) C 1 dX6_openAt_55 rfl ?_
            refine z_iconst (pc := 57) (v := 3) C dX6_openAt_57 (by decide) ?_
            refine z_iadd (pc := 58) C dX6_openAt_58 ?_
            refine z_iald (pc := 59) C 3 dX6_openAt_59 rfl (ix_op hi_13 hk.2 3 rfl (by decide)) ?_
            refine z_iadd (pc := 60) C dX6_openAt_60 ?_
            refine z_icmp_ge (pc := 61) 86 C dX6_openAt_61 (by decide) (fun c_61 => ?_) (fun c_61 => ?_)
            · skip
              refine z_iinc (pc := 86) (v := nI (i_13 + 1)) [(3, _), (5, _), (4, _), (0, _), (1, _), (2, _)] C 5 dX6_openAt_86 rfl ((nI_succ _).symm) (by decide) rfl ?_
              refine z_goto (pc := 89) 13 C dX6_openAt_89 (by decide) ?_
              refine z_lv (lv' := [(0, _), (1, _), (2, _), (3, _)]) [3, 4, 5, 0] rfl ?_
              exact z_eq rfl (by simp only [s_X6_openAt_13, hz_13, b_X6_openAt_13, if_neg c_45, if_pos c_61]) rfl ih_13
            · skip
              refine z_iload_n (pc := 64) C 4 dX6_openAt_64 rfl ?_
              refine z_aload_n (pc := 65) C 2 dX6_openAt_65 rfl ?_
              refine z_get (pc := 66) C 0 2 dX6_openAt_66 rfl rfl i_X6 (by decide) q_101 rfl ?_
              refine z_iload (pc := 69) C 1 dX6_openAt_69 rfl ?_
              refine z_iald (pc := 71) C 3 dX6_openAt_71 rfl (ix_op0 hi_13 hk.2) ?_
              refine z_aload_n (pc := 72) C 2 dX6_openAt_72 rfl ?_
              refine z_get (pc := 73) C 0 2 dX6_openAt_73 rfl rfl i_X6 (by decide) q_101 rfl ?_
              refine z_iload (pc := 76) C 1 dX6_openAt_76 rfl ?_
              refine z_iconst (pc := 78) (v := 2) C dX6_openAt_78 (by decide) ?_
              refine z_iadd (pc := 79) C dX6_openAt_79 ?_
              refine z_iald (pc := 80) C 3 dX6_openAt_80 rfl (ix_op hi_13 hk.2 2 rfl (by decide)) ?_
              refine z_callSN (pc := 81) C (c_X8_spanMask) [] z00 mS_X8_spanMask q_502 dX6_openAt_81 rfl rfl rfl rfl (Nat.le_of_ble_eq_true rfl) (by decide) (pI.stay rfl ?_)
              refine z_ior (pc := 84) C dX6_openAt_84 ?_
              refine z_istore_n (pc := 85) [(2, _), (5, _), (4, _), (0, _), (1, _), (3, _)] C dX6_openAt_85 rfl (by decide) rfl ?_
              refine z_iinc (pc := 86) (v := nI (i_13 + 1)) [(3, _), (2, _), (5, _), (4, _), (0, _), (1, _)] C 5 dX6_openAt_86 rfl ((nI_succ _).symm) (by decide) rfl ?_
              refine z_goto (pc := 89) 13 C dX6_openAt_89 (by decide) ?_
              refine z_lv (lv' := [(0, _), (1, _), (2, _), (3, _)]) [4, 5, 1, 0] rfl ?_
              exact z_eq rfl (by simp only [s_X6_openAt_13, hz_13, b_X6_openAt_13, if_neg c_45, if_neg c_61]) rfl ih_13
    · show Z X G 6 0 0 (wSc G so sr sp sq rows pat ops cnt) 13 [(0, .ref so), (1, .int y), (2, .int (s_X6_openAt_13 ops y cnt.toNatClampNeg)), (3, .int (nI cnt.toNatClampNeg))] []
      refine z_iload_n (pc := 13) C 3 dX6_openAt_13 rfl ?_
      refine z_aload_n (pc := 14) C 0 dX6_openAt_14 rfl ?_
      refine z_get (pc := 15) C 0 3 dX6_openAt_15 rfl rfl i_X6 (by decide) q_102 rfl ?_
      refine z_icmp_ge (pc := 18) 92 C dX6_openAt_18 (by decide) (fun c_18 => ?_) (fun c_18 => ?_)
      · skip
        refine z_iload_n (pc := 92) C 2 dX6_openAt_92 rfl ?_
        exact z_iret (pc := 93) C E dX6_openAt_93 (pI.mk (by simp only [f_X6_openAt, if_neg c_4]) rfl)
      · skip
        exact absurd (lpx (hk.1)) c_18
  · skip
    refine z_iconst (pc := 7) (v := (-1)) C dX6_openAt_7 (by decide) ?_
    exact z_iret (pc := 8) C E dX6_openAt_8 (pI.mk (by simp only [f_X6_openAt, if_pos c_4]) rfl)

def f_X6_isOpen (ops : Nat → Int32) (cnt : Int32) (x : Int32) (y : Int32) : Int32 := if (f_X8_isInPicture x y) = 0 then 0 else if ((f_X6_openAt ops cnt y) &&& (f_X8_dotMask x)) = 0 then 0 else 1
set_option maxRecDepth 100000 in
theorem c_X6_isOpen {l : Launch} {G : zG} {so sr sp sq : Nat} {rows : Nat → Int32} {pat : Nat → Int32} {ops : Nat → Int32} {cnt : Int32} {x : Int32} {y : Int32} (hc : cOk cnt) : Ct l G yX6_isOpen cX6_isOpen 3 (Option.some FieldType.boolean) 3 69 [.ref so, .int x, .int y] (wSc G so sr sp sq rows pat ops cnt) (pI (f_X6_isOpen ops cnt x y) (wSc G so sr sp sq rows pat ops cnt)) := by
  refine Ct.of (plainFor_of_name (by decide)) (Nat.le_of_ble_eq_true rfl) (pI.ad ad_Sc) (fun X C E => ?_)
  show Z X G 3 0 0 _ 0 [(0, .ref so), (1, .int x), (2, .int y)] []
  refine z_iload_n (pc := 0) C 1 dX6_isOpen_0 rfl ?_
  refine z_iload_n (pc := 1) C 2 dX6_isOpen_1 rfl ?_
  refine z_callSN (pc := 2) C (c_X8_isInPicture) [] z00 mS_X8_isInPicture q_318 dX6_isOpen_2 rfl rfl rfl rfl (Nat.le_of_ble_eq_true rfl) (by decide) (pI.stay rfl ?_)
  refine z_if_eq (pc := 5) 25 C dX6_isOpen_5 (by decide) (fun c_5 => ?_) (fun c_5 => ?_)
  · skip
    refine z_iconst (pc := 25) (v := 0) C dX6_isOpen_25 (by decide) ?_
    exact z_zret (pc := 26) C E dX6_isOpen_26 (by first | rfl | assumption) (pI.mk (by simp only [f_X6_isOpen, if_pos c_5]) rfl)
  · skip
    refine z_aload_n (pc := 8) C 0 dX6_isOpen_8 rfl ?_
    refine z_iload_n (pc := 9) C 2 dX6_isOpen_9 rfl ?_
    refine z_callV (pc := 10) C (c_X6_openAt (by assumption)) [0, 1, 2, 3] z00 mV_X6_openAt q_498 dX6_isOpen_10 rfl rfl rfl 0 rfl rfl rfl rfl (Nat.le_of_ble_eq_true rfl) (by decide) (pI.stay rfl ?_)
    refine z_iload_n (pc := 13) C 1 dX6_isOpen_13 rfl ?_
    refine z_callSN (pc := 14) C (c_X8_dotMask) [] z00 mS_X8_dotMask q_325 dX6_isOpen_14 rfl rfl rfl rfl (Nat.le_of_ble_eq_true rfl) (by decide) (pI.stay rfl ?_)
    refine z_iand (pc := 17) C dX6_isOpen_17 ?_
    refine z_if_eq (pc := 18) 25 C dX6_isOpen_18 (by decide) (fun c_18 => ?_) (fun c_18 => ?_)
    · skip
      refine z_iconst (pc := 25) (v := 0) C dX6_isOpen_25 (by decide) ?_
      exact z_zret (pc := 26) C E dX6_isOpen_26 (by first | rfl | assumption) (pI.mk (by simp only [f_X6_isOpen, if_neg c_5, if_pos c_18]) rfl)
    · skip
      refine z_iconst (pc := 21) (v := 1) C dX6_isOpen_21 (by decide) ?_
      refine z_goto (pc := 22) 26 C dX6_isOpen_22 (by decide) ?_
      exact z_zret (pc := 26) C E dX6_isOpen_26 (by first | rfl | assumption) (pI.mk (by simp only [f_X6_isOpen, if_neg c_5, if_neg c_18]) rfl)
theorem nb_X6_isOpen {ops : Nat → Int32} {cnt : Int32} {x : Int32} {y : Int32} : narrow .boolean (.int (f_X6_isOpen ops cnt x y)) = .int (f_X6_isOpen ops cnt x y) := by unfold f_X6_isOpen; (repeat' split) <;> first | rfl

def b_X8_joinedRow_6 (s : Int32) (p : Int32) (d : Int32) (join : Int32) (i_6 : Nat) (z_6 : Int32) : Int32 := if ((join >>> ((nI i_6) &&& 31)) &&& 1) = 1 then if ((nI i_6) &&& 4) = 0 then if ((nI i_6) &&& 2) = 0 then if ((nI i_6) &&& 1) = 0 then z_6 ||| (((s ^^^ (-1)) &&& (p ^^^ (-1))) &&& (d ^^^ (-1))) else z_6 ||| (((s ^^^ (-1)) &&& (p ^^^ (-1))) &&& d) else if ((nI i_6) &&& 1) = 0 then z_6 ||| (((s ^^^ (-1)) &&& p) &&& (d ^^^ (-1))) else z_6 ||| (((s ^^^ (-1)) &&& p) &&& d) else if ((nI i_6) &&& 2) = 0 then if ((nI i_6) &&& 1) = 0 then z_6 ||| ((s &&& (p ^^^ (-1))) &&& (d ^^^ (-1))) else z_6 ||| ((s &&& (p ^^^ (-1))) &&& d) else if ((nI i_6) &&& 1) = 0 then z_6 ||| ((s &&& p) &&& (d ^^^ (-1))) else z_6 ||| ((s &&& p) &&& d) else z_6
def s_X8_joinedRow_6 (s : Int32) (p : Int32) (d : Int32) (join : Int32) : Nat → Int32
  | 0 => 0
  | i_6 + 1 => b_X8_joinedRow_6 s p d join i_6 (s_X8_joinedRow_6 s p d join i_6)
def f_X8_joinedRow (s : Int32) (p : Int32) (d : Int32) (join : Int32) : Int32 := (s_X8_joinedRow_6 s p d join 8)
set_option maxRecDepth 100000 in
theorem c_X8_joinedRow {l : Launch} {G : zG} {s : Int32} {p : Int32} {d : Int32} {join : Int32} : Ct l G yX8_joinedRow cX8_joinedRow 6 (Option.some FieldType.int) 0 0 [.int s, .int p, .int d, .int join] ([]) (pI (f_X8_joinedRow s p d join) ([])) := by
  refine Ct.of (plainFor_of_name (by decide)) (Nat.le_of_ble_eq_true rfl) (pI.ad rfl) (fun X C E => ?_)
  show Z X G 6 0 0 _ 0 [(0, .int s), (1, .int p), (2, .int d), (3, .int join)] []
  refine z_iconst (pc := 0) (v := 0) C dX8_joinedRow_0 (by decide) ?_
  refine z_istore (pc := 1) [(4, _), (0, _), (1, _), (2, _), (3, _)] C dX8_joinedRow_1 (by decide) rfl ?_
  refine z_iconst (pc := 3) (v := 0) C dX8_joinedRow_3 (by decide) ?_
  refine z_istore (pc := 4) [(5, _), (4, _), (0, _), (1, _), (2, _), (3, _)] C dX8_joinedRow_4 (by decide) rfl ?_
  refine z_lv (lv' := [(0, _), (1, _), (2, _), (3, _), (4, _), (5, _)]) [2, 3, 4, 5, 1, 0] rfl ?_
  refine z_loop (pc := 6) (e := 8) (fun i_6 => []) (fun i_6 => [(0, .int s), (1, .int p), (2, .int d), (3, .int join), (4, .int (s_X8_joinedRow_6 s p d join i_6)), (5, .int (nI i_6))]) [] (fun i_6 hi_6 ih_6 => ?_) ?_ 0 (Nat.zero_le _)
  · show Z X G 6 0 0 ([]) 6 [(0, .int s), (1, .int p), (2, .int d), (3, .int join), (4, .int (s_X8_joinedRow_6 s p d join i_6)), (5, .int (nI i_6))] []
    generalize hz_6 : s_X8_joinedRow_6 s p d join i_6 = z_6
    refine z_iload (pc := 6) C 5 dX8_joinedRow_6 rfl ?_
    refine z_bipush (pc := 8) (v := 8) C dX8_joinedRow_8 (by decide) ?_
    refine z_icmp_ge (pc := 10) 78 C dX8_joinedRow_10 (by decide) (fun c_10 => ?_) (fun c_10 => ?_)
    · skip
      exact absurd c_10 (nI_ge (b := 8) (by omega) (by decide))
    · skip
      refine z_iload_n (pc := 13) C 3 dX8_joinedRow_13 rfl ?_
      refine z_iload (pc := 14) C 5 dX8_joinedRow_14 rfl ?_
      refine z_ishr (pc := 16) C dX8_joinedRow_16 ?_
      refine z_iconst (pc := 17) (v := 1) C dX8_joinedRow_17 (by decide) ?_
      refine z_iand (pc := 18) C dX8_joinedRow_18 ?_
      refine z_iconst (pc := 19) (v := 1) C dX8_joinedRow_19 (by decide) ?_
      refine z_icmp_ne (pc := 20) 72 C dX8_joinedRow_20 (by decide) (fun c_20 => ?_) (fun c_20 => ?_)
      · skip
        refine z_iinc (pc := 72) (v := nI (i_6 + 1)) [(5, _), (0, _), (1, _), (2, _), (3, _), (4, _)] C 5 dX8_joinedRow_72 rfl ((nI_succ _).symm) (by decide) rfl ?_
        refine z_goto (pc := 75) 6 C dX8_joinedRow_75 (by decide) ?_
        refine z_lv (lv' := [(0, _), (1, _), (2, _), (3, _), (4, _), (5, _)]) [1, 2, 3, 4, 5, 0] rfl ?_
        exact z_eq rfl (by simp only [s_X8_joinedRow_6, hz_6, b_X8_joinedRow_6, if_neg c_20]) rfl ih_6
      · skip
        refine z_iload (pc := 23) C 4 dX8_joinedRow_23 rfl ?_
        refine z_iload (pc := 25) C 5 dX8_joinedRow_25 rfl ?_
        refine z_iconst (pc := 27) (v := 4) C dX8_joinedRow_27 (by decide) ?_
        refine z_iand (pc := 28) C dX8_joinedRow_28 ?_
        refine z_if_eq (pc := 29) 36 C dX8_joinedRow_29 (by decide) (fun c_29 => ?_) (fun c_29 => ?_)
        · skip
          refine z_iload_n (pc := 36) C 0 dX8_joinedRow_36 rfl ?_
          refine z_iconst (pc := 37) (v := (-1)) C dX8_joinedRow_37 (by decide) ?_
          refine z_ixor (pc := 38) C dX8_joinedRow_38 ?_
          refine z_iload (pc := 39) C 5 dX8_joinedRow_39 rfl ?_
          refine z_iconst (pc := 41) (v := 2) C dX8_joinedRow_41 (by decide) ?_
          refine z_iand (pc := 42) C dX8_joinedRow_42 ?_
          refine z_if_eq (pc := 43) 50 C dX8_joinedRow_43 (by decide) (fun c_43 => ?_) (fun c_43 => ?_)
          · skip
            refine z_iload_n (pc := 50) C 1 dX8_joinedRow_50 rfl ?_
            refine z_iconst (pc := 51) (v := (-1)) C dX8_joinedRow_51 (by decide) ?_
            refine z_ixor (pc := 52) C dX8_joinedRow_52 ?_
            refine z_iand (pc := 53) C dX8_joinedRow_53 ?_
            refine z_iload (pc := 54) C 5 dX8_joinedRow_54 rfl ?_
            refine z_iconst (pc := 56) (v := 1) C dX8_joinedRow_56 (by decide) ?_
            refine z_iand (pc := 57) C dX8_joinedRow_57 ?_
            refine z_if_eq (pc := 58) 65 C dX8_joinedRow_58 (by decide) (fun c_58 => ?_) (fun c_58 => ?_)
            · skip
              refine z_iload_n (pc := 65) C 2 dX8_joinedRow_65 rfl ?_
              refine z_iconst (pc := 66) (v := (-1)) C dX8_joinedRow_66 (by decide) ?_
              refine z_ixor (pc := 67) C dX8_joinedRow_67 ?_
              refine z_iand (pc := 68) C dX8_joinedRow_68 ?_
              refine z_ior (pc := 69) C dX8_joinedRow_69 ?_
              refine z_istore (pc := 70) [(4, _), (0, _), (1, _), (2, _), (3, _), (5, _)] C dX8_joinedRow_70 (by decide) rfl ?_
              refine z_iinc (pc := 72) (v := nI (i_6 + 1)) [(5, _), (4, _), (0, _), (1, _), (2, _), (3, _)] C 5 dX8_joinedRow_72 rfl ((nI_succ _).symm) (by decide) rfl ?_
              refine z_goto (pc := 75) 6 C dX8_joinedRow_75 (by decide) ?_
              refine z_lv (lv' := [(0, _), (1, _), (2, _), (3, _), (4, _), (5, _)]) [2, 3, 4, 5, 1, 0] rfl ?_
              exact z_eq rfl (by simp only [s_X8_joinedRow_6, hz_6, b_X8_joinedRow_6, if_pos c_20, if_pos c_29, if_pos c_43, if_pos c_58]) rfl ih_6
            · skip
              refine z_iload_n (pc := 61) C 2 dX8_joinedRow_61 rfl ?_
              refine z_goto (pc := 62) 68 C dX8_joinedRow_62 (by decide) ?_
              refine z_iand (pc := 68) C dX8_joinedRow_68 ?_
              refine z_ior (pc := 69) C dX8_joinedRow_69 ?_
              refine z_istore (pc := 70) [(4, _), (0, _), (1, _), (2, _), (3, _), (5, _)] C dX8_joinedRow_70 (by decide) rfl ?_
              refine z_iinc (pc := 72) (v := nI (i_6 + 1)) [(5, _), (4, _), (0, _), (1, _), (2, _), (3, _)] C 5 dX8_joinedRow_72 rfl ((nI_succ _).symm) (by decide) rfl ?_
              refine z_goto (pc := 75) 6 C dX8_joinedRow_75 (by decide) ?_
              refine z_lv (lv' := [(0, _), (1, _), (2, _), (3, _), (4, _), (5, _)]) [2, 3, 4, 5, 1, 0] rfl ?_
              exact z_eq rfl (by simp only [s_X8_joinedRow_6, hz_6, b_X8_joinedRow_6, if_pos c_20, if_pos c_29, if_pos c_43, if_neg c_58]) rfl ih_6
          · skip
            refine z_iload_n (pc := 46) C 1 dX8_joinedRow_46 rfl ?_
            refine z_goto (pc := 47) 53 C dX8_joinedRow_47 (by decide) ?_
            refine z_iand (pc := 53) C dX8_joinedRow_53 ?_
            refine z_iload (pc := 54) C 5 dX8_joinedRow_54 rfl ?_
            refine z_iconst (pc := 56) (v := 1) C dX8_joinedRow_56 (by decide) ?_
            refine z_iand (pc := 57) C dX8_joinedRow_57 ?_
            refine z_if_eq (pc := 58) 65 C dX8_joinedRow_58 (by decide) (fun c_58 => ?_) (fun c_58 => ?_)
            · skip
              refine z_iload_n (pc := 65) C 2 dX8_joinedRow_65 rfl ?_
              refine z_iconst (pc := 66) (v := (-1)) C dX8_joinedRow_66 (by decide) ?_
              refine z_ixor (pc := 67) C dX8_joinedRow_67 ?_
              refine z_iand (pc := 68) C dX8_joinedRow_68 ?_
              refine z_ior (pc := 69) C dX8_joinedRow_69 ?_
              refine z_istore (pc := 70) [(4, _), (0, _), (1, _), (2, _), (3, _), (5, _)] C dX8_joinedRow_70 (by decide) rfl ?_
              refine z_iinc (pc := 72) (v := nI (i_6 + 1)) [(5, _), (4, _), (0, _), (1, _), (2, _), (3, _)] C 5 dX8_joinedRow_72 rfl ((nI_succ _).symm) (by decide) rfl ?_
              refine z_goto (pc := 75) 6 C dX8_joinedRow_75 (by decide) ?_
              refine z_lv (lv' := [(0, _), (1, _), (2, _), (3, _), (4, _), (5, _)]) [2, 3, 4, 5, 1, 0] rfl ?_
              exact z_eq rfl (by simp only [s_X8_joinedRow_6, hz_6, b_X8_joinedRow_6, if_pos c_20, if_pos c_29, if_neg c_43, if_pos c_58]) rfl ih_6
            · skip
              refine z_iload_n (pc := 61) C 2 dX8_joinedRow_61 rfl ?_
              refine z_goto (pc := 62) 68 C dX8_joinedRow_62 (by decide) ?_
              refine z_iand (pc := 68) C dX8_joinedRow_68 ?_
              refine z_ior (pc := 69) C dX8_joinedRow_69 ?_
              refine z_istore (pc := 70) [(4, _), (0, _), (1, _), (2, _), (3, _), (5, _)] C dX8_joinedRow_70 (by decide) rfl ?_
              refine z_iinc (pc := 72) (v := nI (i_6 + 1)) [(5, _), (4, _), (0, _), (1, _), (2, _), (3, _)] C 5 dX8_joinedRow_72 rfl ((nI_succ _).symm) (by decide) rfl ?_
              refine z_goto (pc := 75) 6 C dX8_joinedRow_75 (by decide) ?_
              refine z_lv (lv' := [(0, _), (1, _), (2, _), (3, _), (4, _), (5, _)]) [2, 3, 4, 5, 1, 0] rfl ?_
              exact z_eq rfl (by simp only [s_X8_joinedRow_6, hz_6, b_X8_joinedRow_6, if_pos c_20, if_pos c_29, if_neg c_43, if_neg c_58]) rfl ih_6
        · skip
          refine z_iload_n (pc := 32) C 0 dX8_joinedRow_32 rfl ?_
          refine z_goto (pc := 33) 39 C dX8_joinedRow_33 (by decide) ?_
          refine z_iload (pc := 39) C 5 dX8_joinedRow_39 rfl ?_
          refine z_iconst (pc := 41) (v := 2) C dX8_joinedRow_41 (by decide) ?_
          refine z_iand (pc := 42) C dX8_joinedRow_42 ?_
          refine z_if_eq (pc := 43) 50 C dX8_joinedRow_43 (by decide) (fun c_43 => ?_) (fun c_43 => ?_)
          · skip
            refine z_iload_n (pc := 50) C 1 dX8_joinedRow_50 rfl ?_
            refine z_iconst (pc := 51) (v := (-1)) C dX8_joinedRow_51 (by decide) ?_
            refine z_ixor (pc := 52) C dX8_joinedRow_52 ?_
            refine z_iand (pc := 53) C dX8_joinedRow_53 ?_
            refine z_iload (pc := 54) C 5 dX8_joinedRow_54 rfl ?_
            refine z_iconst (pc := 56) (v := 1) C dX8_joinedRow_56 (by decide) ?_
            refine z_iand (pc := 57) C dX8_joinedRow_57 ?_
            refine z_if_eq (pc := 58) 65 C dX8_joinedRow_58 (by decide) (fun c_58 => ?_) (fun c_58 => ?_)
            · skip
              refine z_iload_n (pc := 65) C 2 dX8_joinedRow_65 rfl ?_
              refine z_iconst (pc := 66) (v := (-1)) C dX8_joinedRow_66 (by decide) ?_
              refine z_ixor (pc := 67) C dX8_joinedRow_67 ?_
              refine z_iand (pc := 68) C dX8_joinedRow_68 ?_
              refine z_ior (pc := 69) C dX8_joinedRow_69 ?_
              refine z_istore (pc := 70) [(4, _), (0, _), (1, _), (2, _), (3, _), (5, _)] C dX8_joinedRow_70 (by decide) rfl ?_
              refine z_iinc (pc := 72) (v := nI (i_6 + 1)) [(5, _), (4, _), (0, _), (1, _), (2, _), (3, _)] C 5 dX8_joinedRow_72 rfl ((nI_succ _).symm) (by decide) rfl ?_
              refine z_goto (pc := 75) 6 C dX8_joinedRow_75 (by decide) ?_
              refine z_lv (lv' := [(0, _), (1, _), (2, _), (3, _), (4, _), (5, _)]) [2, 3, 4, 5, 1, 0] rfl ?_
              exact z_eq rfl (by simp only [s_X8_joinedRow_6, hz_6, b_X8_joinedRow_6, if_pos c_20, if_neg c_29, if_pos c_43, if_pos c_58]) rfl ih_6
            · skip
              refine z_iload_n (pc := 61) C 2 dX8_joinedRow_61 rfl ?_
              refine z_goto (pc := 62) 68 C dX8_joinedRow_62 (by decide) ?_
              refine z_iand (pc := 68) C dX8_joinedRow_68 ?_
              refine z_ior (pc := 69) C dX8_joinedRow_69 ?_
              refine z_istore (pc := 70) [(4, _), (0, _), (1, _), (2, _), (3, _), (5, _)] C dX8_joinedRow_70 (by decide) rfl ?_
              refine z_iinc (pc := 72) (v := nI (i_6 + 1)) [(5, _), (4, _), (0, _), (1, _), (2, _), (3, _)] C 5 dX8_joinedRow_72 rfl ((nI_succ _).symm) (by decide) rfl ?_
              refine z_goto (pc := 75) 6 C dX8_joinedRow_75 (by decide) ?_
              refine z_lv (lv' := [(0, _), (1, _), (2, _), (3, _), (4, _), (5, _)]) [2, 3, 4, 5, 1, 0] rfl ?_
              exact z_eq rfl (by simp only [s_X8_joinedRow_6, hz_6, b_X8_joinedRow_6, if_pos c_20, if_neg c_29, if_pos c_43, if_neg c_58]) rfl ih_6
          · skip
            refine z_iload_n (pc := 46) C 1 dX8_joinedRow_46 rfl ?_
            refine z_goto (pc := 47) 53 C dX8_joinedRow_47 (by decide) ?_
            refine z_iand (pc := 53) C dX8_joinedRow_53 ?_
            refine z_iload (pc := 54) C 5 dX8_joinedRow_54 rfl ?_
            refine z_iconst (pc := 56) (v := 1) C dX8_joinedRow_56 (by decide) ?_
            refine z_iand (pc := 57) C dX8_joinedRow_57 ?_
            refine z_if_eq (pc := 58) 65 C dX8_joinedRow_58 (by decide) (fun c_58 => ?_) (fun c_58 => ?_)
            · skip
              refine z_iload_n (pc := 65) C 2 dX8_joinedRow_65 rfl ?_
              refine z_iconst (pc := 66) (v := (-1)) C dX8_joinedRow_66 (by decide) ?_
              refine z_ixor (pc := 67) C dX8_joinedRow_67 ?_
              refine z_iand (pc := 68) C dX8_joinedRow_68 ?_
              refine z_ior (pc := 69) C dX8_joinedRow_69 ?_
              refine z_istore (pc := 70) [(4, _), (0, _), (1, _), (2, _), (3, _), (5, _)] C dX8_joinedRow_70 (by decide) rfl ?_
              refine z_iinc (pc := 72) (v := nI (i_6 + 1)) [(5, _), (4, _), (0, _), (1, _), (2, _), (3, _)] C 5 dX8_joinedRow_72 rfl ((nI_succ _).symm) (by decide) rfl ?_
              refine z_goto (pc := 75) 6 C dX8_joinedRow_75 (by decide) ?_
              refine z_lv (lv' := [(0, _), (1, _), (2, _), (3, _), (4, _), (5, _)]) [2, 3, 4, 5, 1, 0] rfl ?_
              exact z_eq rfl (by simp only [s_X8_joinedRow_6, hz_6, b_X8_joinedRow_6, if_pos c_20, if_neg c_29, if_neg c_43, if_pos c_58]) rfl ih_6
            · skip
              refine z_iload_n (pc := 61) C 2 dX8_joinedRow_61 rfl ?_
              refine z_goto (pc := 62) 68 C dX8_joinedRow_62 (by decide) ?_
              refine z_iand (pc := 68) C dX8_joinedRow_68 ?_
              refine z_ior (pc := 69) C dX8_joinedRow_69 ?_
              refine z_istore (pc := 70) [(4, _), (0, _), (1, _), (2, _), (3, _), (5, _)] C dX8_joinedRow_70 (by decide) rfl ?_
              refine z_iinc (pc := 72) (v := nI (i_6 + 1)) [(5, _), (4, _), (0, _), (1, _), (2, _), (3, _)] C 5 dX8_joinedRow_72 rfl ((nI_succ _).symm) (by decide) rfl ?_
              refine z_goto (pc := 75) 6 C dX8_joinedRow_75 (by decide) ?_
              refine z_lv (lv' := [(0, _), (1, _), (2, _), (3, _), (4, _), (5, _)]) [2, 3, 4, 5, 1, 0] rfl ?_
              exact z_eq rfl (by simp only [s_X8_joinedRow_6, hz_6, b_X8_joinedRow_6, if_pos c_20, if_neg c_29, if_neg c_43, if_neg c_58]) rfl ih_6
  · show Z X G 6 0 0 ([]) 6 [(0, .int s), (1, .int p), (2, .int d), (3, .int join), (4, .int (s_X8_joinedRow_6 s p d join 8)), (5, .int (nI 8))] []
    refine z_iload (pc := 6) C 5 dX8_joinedRow_6 rfl ?_
    refine z_bipush (pc := 8) (v := 8) C dX8_joinedRow_8 (by decide) ?_
    refine z_icmp_ge (pc := 10) 78 C dX8_joinedRow_10 (by decide) (fun c_10 => ?_) (fun c_10 => ?_)
    · skip
      refine z_iload (pc := 78) C 4 dX8_joinedRow_78 rfl ?_
      exact z_iret (pc := 80) C E dX8_joinedRow_80 (pI.mk rfl rfl)
    · skip
      exact absurd (nI_le (Nat.le_refl 8) (by decide)) c_10

def f_X6_turnsDots (t : Int32) (y : Int32) (mask : Int32) : Int32 := if (f_X8_isPicture t) = 0 then 0 else if (f_X8_isWithin y 0 23) = 0 then 0 else f_J6_bitCount_0f7a4 mask
def g_X6_turnsDots_rows (rows : Nat → Int32) (t : Int32) (y : Int32) (mask : Int32) : Nat → Int32 := if (f_X8_isPicture t) = 0 then rows else if (f_X8_isWithin y 0 23) = 0 then rows else upd rows ((t * 24) + y).toNatClampNeg ((rows ((t * 24) + y).toNatClampNeg) ^^^ mask)
set_option maxRecDepth 100000 in
theorem c_X6_turnsDots {l : Launch} {G : zG} {so sr sp sq : Nat} {rows : Nat → Int32} {pat : Nat → Int32} {ops : Nat → Int32} {cnt : Int32} {t : Int32} {y : Int32} {mask : Int32} : Ct l G yX6_turnsDots cX6_turnsDots 4 (Option.some FieldType.int) 2 42 [.ref so, .int t, .int y, .int mask] (wSc G so sr sp sq rows pat ops cnt) (pI (f_X6_turnsDots t y mask) (wSc G so sr sp sq (g_X6_turnsDots_rows rows t y mask) pat ops cnt)) := by
  refine Ct.of (plainFor_of_name (by decide)) (Nat.le_of_ble_eq_true rfl) (pI.ad ad_Sc) (fun X C E => ?_)
  show Z X G 4 0 0 _ 0 [(0, .ref so), (1, .int t), (2, .int y), (3, .int mask)] []
  refine z_iload_n (pc := 0) C 1 dX6_turnsDots_0 rfl ?_
  refine z_callSN (pc := 1) C (c_X8_isPicture) [] z00 mS_X8_isPicture q_323 dX6_turnsDots_1 rfl rfl rfl rfl (Nat.le_of_ble_eq_true rfl) (by decide) (pI.stay rfl ?_)
  refine z_if_eq (pc := 4) 17 C dX6_turnsDots_4 (by decide) (fun c_4 => ?_) (fun c_4 => ?_)
  · skip
    refine z_iconst (pc := 17) (v := 0) C dX6_turnsDots_17 (by decide) ?_
    exact z_iret (pc := 18) C E dX6_turnsDots_18 (pI.mk (by simp only [f_X6_turnsDots, if_pos c_4]) (by simp only [g_X6_turnsDots_rows, if_pos c_4]))
  · skip
    refine z_iload_n (pc := 7) C 2 dX6_turnsDots_7 rfl ?_
    refine z_iconst (pc := 8) (v := 0) C dX6_turnsDots_8 (by decide) ?_
    refine z_bipush (pc := 9) (v := 23) C dX6_turnsDots_9 (by decide) ?_
    refine z_callSN (pc := 11) C (c_X8_isWithin) [] z00 mS_X8_isWithin q_324 dX6_turnsDots_11 rfl rfl rfl rfl (Nat.le_of_ble_eq_true rfl) (by decide) (pI.stay rfl ?_)
    refine z_if_ne (pc := 14) 19 C dX6_turnsDots_14 (by decide) (fun c_14 => ?_) (fun c_14 => ?_)
    · skip
      refine z_aload_n (pc := 19) C 0 dX6_turnsDots_19 rfl ?_
      refine z_get (pc := 20) C 0 0 dX6_turnsDots_20 rfl rfl i_X6 (by decide) q_98 rfl ?_
      refine z_iload_n (pc := 23) C 1 dX6_turnsDots_23 rfl ?_
      refine z_bipush (pc := 24) (v := 24) C dX6_turnsDots_24 (by decide) ?_
      refine z_imul (pc := 26) C dX6_turnsDots_26 ?_
      refine z_iload_n (pc := 27) C 2 dX6_turnsDots_27 rfl ?_
      refine z_iadd (pc := 28) C dX6_turnsDots_28 ?_
      refine z_dup2 (pc := 29) C dX6_turnsDots_29 rfl rfl ?_
      refine z_iald (pc := 30) C 1 dX6_turnsDots_30 rfl (ix_rt c_4 c_14) ?_
      refine z_iload_n (pc := 31) C 3 dX6_turnsDots_31 rfl ?_
      refine z_ixor (pc := 32) C dX6_turnsDots_32 ?_
      refine z_iast (pc := 33) (wSc G so sr sp sq _ pat ops cnt) C 1 dX6_turnsDots_33 rfl (ix_rt c_4 c_14) rfl ?_
      refine z_iload_n (pc := 34) C 3 dX6_turnsDots_34 rfl ?_
      refine z_callS (pc := 35) C (c_J6_bitCount_0f7a4) [] z00 mS_J6_bitCount_0f7a4 q_515 dX6_turnsDots_35 rfl rfl rfl rfl (Nat.le_of_ble_eq_true rfl) (by decide) (pI.stay rfl ?_)
      exact z_iret (pc := 38) C E dX6_turnsDots_38 (pI.mk (by simp only [f_X6_turnsDots, if_neg c_4, if_neg c_14]) (by simp only [g_X6_turnsDots_rows, if_neg c_4, if_neg c_14]))
    · skip
      refine z_iconst (pc := 17) (v := 0) C dX6_turnsDots_17 (by decide) ?_
      exact z_iret (pc := 18) C E dX6_turnsDots_18 (pI.mk (by simp only [f_X6_turnsDots, if_neg c_4, if_pos c_14]) (by simp only [g_X6_turnsDots_rows, if_neg c_4, if_pos c_14]))

def f_X6_joinsRow (rows : Nat → Int32) (pat : Nat → Int32) (ops : Nat → Int32) (cnt : Int32) (t : Int32) (y : Int32) (mask : Int32) (source : Int32) (join : Int32) : Int32 := if (mask &&& (f_X6_openAt ops cnt y)) = 0 then 0 else f_X6_turnsDots t y (((f_X8_joinedRow source (f_X6_patternAt pat y) (f_X6_rowAt rows t y) join) ^^^ (f_X6_rowAt rows t y)) &&& (mask &&& (f_X6_openAt ops cnt y)))
def g_X6_joinsRow_rows (rows : Nat → Int32) (pat : Nat → Int32) (ops : Nat → Int32) (cnt : Int32) (t : Int32) (y : Int32) (mask : Int32) (source : Int32) (join : Int32) : Nat → Int32 := if (mask &&& (f_X6_openAt ops cnt y)) = 0 then rows else g_X6_turnsDots_rows rows t y (((f_X8_joinedRow source (f_X6_patternAt pat y) (f_X6_rowAt rows t y) join) ^^^ (f_X6_rowAt rows t y)) &&& (mask &&& (f_X6_openAt ops cnt y)))
set_option maxRecDepth 100000 in
theorem c_X6_joinsRow {l : Launch} {G : zG} {so sr sp sq : Nat} {rows : Nat → Int32} {pat : Nat → Int32} {ops : Nat → Int32} {cnt : Int32} {t : Int32} {y : Int32} {mask : Int32} {source : Int32} {join : Int32} (hc : cOk cnt) : Ct l G yX6_joinsRow cX6_joinsRow 9 (Option.some FieldType.int) 3 69 [.ref so, .int t, .int y, .int mask, .int source, .int join] (wSc G so sr sp sq rows pat ops cnt) (pI (f_X6_joinsRow rows pat ops cnt t y mask source join) (wSc G so sr sp sq (g_X6_joinsRow_rows rows pat ops cnt t y mask source join) pat ops cnt)) := by
  refine Ct.of (plainFor_of_name (by decide)) (Nat.le_of_ble_eq_true rfl) (pI.ad ad_Sc) (fun X C E => ?_)
  show Z X G 9 0 0 _ 0 [(0, .ref so), (1, .int t), (2, .int y), (3, .int mask), (4, .int source), (5, .int join)] []
  refine z_iload_n (pc := 0) C 3 dX6_joinsRow_0 rfl ?_
  refine z_aload_n (pc := 1) C 0 dX6_joinsRow_1 rfl ?_
  refine z_iload_n (pc := 2) C 2 dX6_joinsRow_2 rfl ?_
  refine z_callV (pc := 3) C (c_X6_openAt (by assumption)) [0, 1, 2, 3] z00 mV_X6_openAt q_498 dX6_joinsRow_3 rfl rfl rfl 0 rfl rfl rfl rfl (Nat.le_of_ble_eq_true rfl) (by decide) (pI.stay rfl ?_)
  refine z_iand (pc := 6) C dX6_joinsRow_6 ?_
  refine z_istore (pc := 7) [(6, _), (0, _), (1, _), (2, _), (3, _), (4, _), (5, _)] C dX6_joinsRow_7 (by decide) rfl ?_
  refine z_iload (pc := 9) C 0 dX6_joinsRow_9 rfl ?_
  refine z_if_ne (pc := 11) 16 C dX6_joinsRow_11 (by decide) (fun c_11 => ?_) (fun c_11 => ?_)
  · skip
    refine z_aload_n (pc := 16) C 1 dX6_joinsRow_16 rfl ?_
    refine z_iload_n (pc := 17) C 2 dX6_joinsRow_17 rfl ?_
    refine z_iload_n (pc := 18) C 3 dX6_joinsRow_18 rfl ?_
    refine z_callV (pc := 19) C (c_X6_rowAt) [0, 1, 2, 3] z00 mV_X6_rowAt q_319 dX6_joinsRow_19 rfl rfl rfl 0 rfl rfl rfl rfl (Nat.le_of_ble_eq_true rfl) (by decide) (pI.stay rfl ?_)
    refine z_istore (pc := 22) [(7, _), (6, _), (0, _), (1, _), (2, _), (3, _), (4, _), (5, _)] C dX6_joinsRow_22 (by decide) rfl ?_
    refine z_iload (pc := 24) C 6 dX6_joinsRow_24 rfl ?_
    refine z_aload_n (pc := 26) C 2 dX6_joinsRow_26 rfl ?_
    refine z_iload_n (pc := 27) C 4 dX6_joinsRow_27 rfl ?_
    refine z_callV (pc := 28) C (c_X6_patternAt) [0, 1, 2, 3] z00 mV_X6_patternAt q_503 dX6_joinsRow_28 rfl rfl rfl 0 rfl rfl rfl rfl (Nat.le_of_ble_eq_true rfl) (by decide) (pI.stay rfl ?_)
    refine z_iload (pc := 31) C 0 dX6_joinsRow_31 rfl ?_
    refine z_iload (pc := 33) C 7 dX6_joinsRow_33 rfl ?_
    refine z_callSN (pc := 35) C (c_X8_joinedRow) [] z00 mS_X8_joinedRow q_508 dX6_joinsRow_35 rfl rfl rfl rfl (Nat.le_of_ble_eq_true rfl) (by decide) (pI.stay rfl ?_)
    refine z_istore (pc := 38) [(8, _), (7, _), (6, _), (0, _), (1, _), (2, _), (3, _), (4, _), (5, _)] C dX6_joinsRow_38 (by decide) rfl ?_
    refine z_aload_n (pc := 40) C 3 dX6_joinsRow_40 rfl ?_
    refine z_iload_n (pc := 41) C 4 dX6_joinsRow_41 rfl ?_
    refine z_iload_n (pc := 42) C 5 dX6_joinsRow_42 rfl ?_
    refine z_iload (pc := 43) C 0 dX6_joinsRow_43 rfl ?_
    refine z_iload (pc := 45) C 1 dX6_joinsRow_45 rfl ?_
    refine z_ixor (pc := 47) C dX6_joinsRow_47 ?_
    refine z_iload (pc := 48) C 2 dX6_joinsRow_48 rfl ?_
    refine z_iand (pc := 50) C dX6_joinsRow_50 ?_
    refine z_callV (pc := 51) C (c_X6_turnsDots) [0, 1, 2, 3] z00 mV_X6_turnsDots q_511 dX6_joinsRow_51 rfl rfl rfl 0 rfl rfl rfl rfl (Nat.le_of_ble_eq_true rfl) (by decide) (pI.go (ws' := wSc G so sr sp sq _ pat ops cnt) rfl ?_)
    exact z_iret (pc := 54) C E dX6_joinsRow_54 (pI.mk (by simp only [f_X6_joinsRow, if_neg c_11]) (by simp only [g_X6_joinsRow_rows, if_neg c_11]))
  · skip
    refine z_iconst (pc := 14) (v := 0) C dX6_joinsRow_14 (by decide) ?_
    exact z_iret (pc := 15) C E dX6_joinsRow_15 (pI.mk (by simp only [f_X6_joinsRow, if_pos c_11]) (by simp only [g_X6_joinsRow_rows, if_pos c_11]))
