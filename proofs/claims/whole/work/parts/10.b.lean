theorem ix_nI {i n : Nat} (h : i < n) (hn : n < 2 ^ 31) : vp_in (nI i) n := vp_in_nI h hn
theorem cOk_lt {cnt : Int32} (h : cOk cnt) (h4 : cnt < 4) : cnt = nI cnt.toNatClampNeg ∧ cnt.toNatClampNeg < 4 := by
  obtain ⟨h1, h2⟩ := cOk_nI h
  refine ⟨h1, ?_⟩
  have e : (cnt.toNatClampNeg : Int) = cnt.toInt := Int.toNat_of_nonneg h.1
  have h5 := Int32.lt_iff_toInt_lt.mp h4
  have e4 : (4 : Int32).toInt = 4 := rfl
  omega
theorem ix_opc {cnt : Int32} (h : cOk cnt) (h4 : cnt < 4) (j : Nat) {k : Int32} (hk : k = nI j) (hj : j < 4) : vp_in (cnt * 4 + k) 16 := by
  obtain ⟨h1, h2⟩ := cOk_lt h h4
  rw [h1]
  exact ix_op h2 (Nat.le_refl 4) j hk hj
theorem ix_opc0 {cnt : Int32} (h : cOk cnt) (h4 : cnt < 4) : vp_in (cnt * 4) 16 := by
  obtain ⟨h1, h2⟩ := cOk_lt h h4
  rw [h1]
  exact ix_op0 h2 (Nat.le_refl 4)
theorem cOk_mul {cnt : Int32} (h : cOk cnt) : cnt * 4 = nI (cnt.toNatClampNeg * 4) := by
  rw [← pk_mul, ← (cOk_nI h).1]; rfl

def g_X6_opens_ops (ops : Nat → Int32) (cnt : Int32) (x : Int32) (y : Int32) (w : Int32) (h : Int32) : Nat → Int32 := if cnt < 4 then upd (upd (upd (upd ops (cnt * 4).toNatClampNeg x) ((cnt * 4) + 1).toNatClampNeg y) ((cnt * 4) + 2).toNatClampNeg w) ((cnt * 4) + 3).toNatClampNeg h else ops
def g_X6_opens_cnt (cnt : Int32) : Int32 := if cnt < 4 then cnt + 1 else cnt
set_option maxRecDepth 100000 in
theorem c_X6_opens {l : Launch} {G : zG} {so sr sp sq : Nat} {rows : Nat → Int32} {pat : Nat → Int32} {ops : Nat → Int32} {cnt : Int32} {x : Int32} {y : Int32} {w : Int32} {h : Int32} (hc : cOk cnt) : Ct l G yX6_opens cX6_opens 6 (Option.none : Option Jvm.ClassFile.FieldType) 0 0 [.ref so, .int x, .int y, .int w, .int h] (wSc G so sr sp sq rows pat ops cnt) (pV (wSc G so sr sp sq rows pat (g_X6_opens_ops ops cnt x y w h) (g_X6_opens_cnt cnt))) := by
  refine Ct.of (plainFor_of_name (by decide)) (Nat.le_of_ble_eq_true rfl) (pV.ad ad_Sc) (fun X C E => ?_)
  show Z X G 6 0 0 _ 0 [(0, .ref so), (1, .int x), (2, .int y), (3, .int w), (4, .int h)] []
  refine z_aload_n (pc := 0) C 0 dX6_opens_0 rfl ?_
  refine z_get (pc := 1) C 0 3 dX6_opens_1 rfl rfl i_X6 (by decide) q_102 rfl ?_
  refine z_iconst (pc := 4) (v := 4) C dX6_opens_4 (by decide) ?_
  refine z_icmp_lt (pc := 5) 9 C dX6_opens_5 (by decide) (fun c_5 => ?_) (fun c_5 => ?_)
  · skip
    refine z_aload_n (pc := 9) C 0 dX6_opens_9 rfl ?_
    refine z_get (pc := 10) C 0 3 dX6_opens_10 rfl rfl i_X6 (by decide) q_102 rfl ?_
    refine z_iconst (pc := 13) (v := 4) C dX6_opens_13 (by decide) ?_
    refine z_imul (pc := 14) C dX6_opens_14 ?_
    refine z_istore (pc := 15) [(5, _), (0, _), (1, _), (2, _), (3, _), (4, _)] C dX6_opens_15 (by decide) rfl ?_
    refine z_aload_n (pc := 17) C 1 dX6_opens_17 rfl ?_
    refine z_get (pc := 18) C 0 2 dX6_opens_18 rfl rfl i_X6 (by decide) q_101 rfl ?_
    refine z_iload (pc := 21) C 0 dX6_opens_21 rfl ?_
    refine z_iload_n (pc := 23) C 2 dX6_opens_23 rfl ?_
    refine z_iast (pc := 24) (wSc G so sr sp sq rows pat _ cnt) C 3 dX6_opens_24 rfl (ix_opc0 hc c_5) rfl ?_
    refine z_aload_n (pc := 25) C 1 dX6_opens_25 rfl ?_
    refine z_get (pc := 26) C 0 2 dX6_opens_26 rfl rfl i_X6 (by decide) q_101 rfl ?_
    refine z_iload (pc := 29) C 0 dX6_opens_29 rfl ?_
    refine z_iconst (pc := 31) (v := 1) C dX6_opens_31 (by decide) ?_
    refine z_iadd (pc := 32) C dX6_opens_32 ?_
    refine z_iload_n (pc := 33) C 3 dX6_opens_33 rfl ?_
    refine z_iast (pc := 34) (wSc G so sr sp sq rows pat _ cnt) C 3 dX6_opens_34 rfl (ix_opc hc c_5 1 rfl (by decide)) rfl ?_
    refine z_aload_n (pc := 35) C 1 dX6_opens_35 rfl ?_
    refine z_get (pc := 36) C 0 2 dX6_opens_36 rfl rfl i_X6 (by decide) q_101 rfl ?_
    refine z_iload (pc := 39) C 0 dX6_opens_39 rfl ?_
    refine z_iconst (pc := 41) (v := 2) C dX6_opens_41 (by decide) ?_
    refine z_iadd (pc := 42) C dX6_opens_42 ?_
    refine z_iload_n (pc := 43) C 4 dX6_opens_43 rfl ?_
    refine z_iast (pc := 44) (wSc G so sr sp sq rows pat _ cnt) C 3 dX6_opens_44 rfl (ix_opc hc c_5 2 rfl (by decide)) rfl ?_
    refine z_aload_n (pc := 45) C 1 dX6_opens_45 rfl ?_
    refine z_get (pc := 46) C 0 2 dX6_opens_46 rfl rfl i_X6 (by decide) q_101 rfl ?_
    refine z_iload (pc := 49) C 0 dX6_opens_49 rfl ?_
    refine z_iconst (pc := 51) (v := 3) C dX6_opens_51 (by decide) ?_
    refine z_iadd (pc := 52) C dX6_opens_52 ?_
    refine z_iload (pc := 53) C 5 dX6_opens_53 rfl ?_
    refine z_iast (pc := 55) (wSc G so sr sp sq rows pat _ cnt) C 3 dX6_opens_55 rfl (ix_opc hc c_5 3 rfl (by decide)) rfl ?_
    refine z_aload_n (pc := 56) C 1 dX6_opens_56 rfl ?_
    refine z_dup (pc := 57) C dX6_opens_57 rfl ?_
    refine z_get (pc := 58) C 0 3 dX6_opens_58 rfl rfl i_X6 (by decide) q_102 rfl ?_
    refine z_iconst (pc := 61) (v := 1) C dX6_opens_61 (by decide) ?_
    refine z_iadd (pc := 62) C dX6_opens_62 ?_
    refine z_put (pc := 63) (wSc G so sr sp sq rows pat _ _) C 0 3 dX6_opens_63 rfl rfl i_X6 tyX6_ok nmX6 (by decide) q_102 rfl rfl rfl rfl (Nat.le_of_ble_eq_true rfl) rfl ?_
    exact z_vret (pc := 66) C E dX6_opens_66 (pV.mk (by simp only [g_X6_opens_ops, g_X6_opens_cnt, if_pos c_5]))
  · skip
    exact z_vret (pc := 8) C E dX6_opens_8 (pV.mk (by simp only [g_X6_opens_ops, g_X6_opens_cnt, if_neg c_5]))

def b_X6_mixedInto_5 (rows : Nat → Int32) (i_5 : Nat) (z_5 : Int64) : Int64 := (31 * z_5) + ((rows (nI i_5).toNatClampNeg).toInt64)
def s_X6_mixedInto_5 (rows : Nat → Int32) (start : Int64) : Nat → Int64
  | 0 => start
  | i_5 + 1 => b_X6_mixedInto_5 rows i_5 (s_X6_mixedInto_5 rows start i_5)
def b_X6_mixedInto_39 (pat : Nat → Int32) (i_39 : Nat) (z_39 : Int64) : Int64 := (31 * z_39) + ((pat (nI i_39).toNatClampNeg).toInt64)
def s_X6_mixedInto_39 (rows : Nat → Int32) (pat : Nat → Int32) (start : Int64) : Nat → Int64
  | 0 => (s_X6_mixedInto_5 rows start 72)
  | i_39 + 1 => b_X6_mixedInto_39 pat i_39 (s_X6_mixedInto_39 rows pat start i_39)
def b_X6_mixedInto_70 (ops : Nat → Int32) (i_70 : Nat) (z_70 : Int64) : Int64 := (31 * z_70) + ((ops (nI i_70).toNatClampNeg).toInt64)
def s_X6_mixedInto_70 (rows : Nat → Int32) (pat : Nat → Int32) (ops : Nat → Int32) (start : Int64) : Nat → Int64
  | 0 => (s_X6_mixedInto_39 rows pat start 8)
  | i_70 + 1 => b_X6_mixedInto_70 ops i_70 (s_X6_mixedInto_70 rows pat ops start i_70)
def f_X6_mixedInto (rows : Nat → Int32) (pat : Nat → Int32) (ops : Nat → Int32) (cnt : Int32) (start : Int64) : Int64 := (s_X6_mixedInto_70 rows pat ops start (cnt.toNatClampNeg * 4))
set_option maxRecDepth 100000 in
theorem c_X6_mixedInto {l : Launch} {G : zG} {so sr sp sq : Nat} {rows : Nat → Int32} {pat : Nat → Int32} {ops : Nat → Int32} {cnt : Int32} {start : Int64} (hc : cOk cnt) : Ct l G yX6_mixedInto cX6_mixedInto 6 (Option.some FieldType.long) 0 0 [.ref so, .long start] (wSc G so sr sp sq rows pat ops cnt) (pL (f_X6_mixedInto rows pat ops cnt start) (wSc G so sr sp sq rows pat ops cnt)) := by
  refine Ct.of (plainFor_of_name (by decide)) (Nat.le_of_ble_eq_true rfl) (pL.ad ad_Sc) (fun X C E => ?_)
  show Z X G 6 0 0 _ 0 [(0, .ref so), (1, .long start)] []
  have hk := cOk_nI hc
  refine z_lload_n (pc := 0) C 1 dX6_mixedInto_0 rfl ?_
  refine z_lstore_n (pc := 1) [(3, _), (0, _), (1, _)] C dX6_mixedInto_1 rfl (by decide) rfl ?_
  refine z_iconst (pc := 2) (v := 0) C dX6_mixedInto_2 (by decide) ?_
  refine z_istore (pc := 3) [(5, _), (3, _), (0, _), (1, _)] C dX6_mixedInto_3 (by decide) rfl ?_
  refine z_lv (lv' := [(0, _), (1, _), (3, _), (5, _)]) [2, 3, 1, 0] rfl ?_
  refine z_loop (pc := 5) (e := 72) (fun i_5 => wSc G so sr sp sq rows pat ops cnt) (fun i_5 => [(0, .ref so), (1, .long start), (3, .long (s_X6_mixedInto_5 rows start i_5)), (5, .int (nI i_5))]) [] (fun i_5 hi_5 ih_5 => ?_) ?_ 0 (Nat.zero_le _)
  · show Z X G 6 0 0 (wSc G so sr sp sq rows pat ops cnt) 5 [(0, .ref so), (1, .long start), (3, .long (s_X6_mixedInto_5 rows start i_5)), (5, .int (nI i_5))] []
    generalize hz_5 : s_X6_mixedInto_5 rows start i_5 = z_5
    refine z_iload (pc := 5) C 3 dX6_mixedInto_5 rfl ?_
    refine z_aload_n (pc := 7) C 0 dX6_mixedInto_7 rfl ?_
    refine z_get (pc := 8) C 0 0 dX6_mixedInto_8 rfl rfl i_X6 (by decide) q_98 rfl ?_
    refine z_alen_cI (pc := 11) (v := 72) C 1 dX6_mixedInto_11 rfl rfl ?_
    refine z_icmp_ge (pc := 12) 36 C dX6_mixedInto_12 (by decide) (fun c_12 => ?_) (fun c_12 => ?_)
    · skip
      exact absurd c_12 (nI_ge (b := 72) (by omega) (by decide))
    · skip
      refine z_ldc2_w (pc := 15) C q_822 dX6_mixedInto_15 ?_
      refine z_lload_n (pc := 18) C 2 dX6_mixedInto_18 rfl ?_
      refine z_lmul (pc := 19) C dX6_mixedInto_19 ?_
      refine z_aload_n (pc := 20) C 0 dX6_mixedInto_20 rfl ?_
      refine z_get (pc := 21) C 0 0 dX6_mixedInto_21 rfl rfl i_X6 (by decide) q_98 rfl ?_
      refine z_iload (pc := 24) C 3 dX6_mixedInto_24 rfl ?_
      refine z_iald (pc := 26) C 1 dX6_mixedInto_26 rfl (ix_nI hi_5 (by decide)) ?_
      refine z_i2l (pc := 27) C dX6_mixedInto_27 ?_
      refine z_ladd (pc := 28) C dX6_mixedInto_28 ?_
      refine z_lstore_n (pc := 29) [(3, _), (0, _), (1, _), (5, _)] C dX6_mixedInto_29 rfl (by decide) rfl ?_
      refine z_iinc (pc := 30) (v := nI (i_5 + 1)) [(5, _), (3, _), (0, _), (1, _)] C 3 dX6_mixedInto_30 rfl ((nI_succ _).symm) (by decide) rfl ?_
      refine z_goto (pc := 33) 5 C dX6_mixedInto_33 (by decide) ?_
      refine z_lv (lv' := [(0, _), (1, _), (3, _), (5, _)]) [2, 3, 1, 0] rfl ?_
      exact z_eq rfl (by simp only [s_X6_mixedInto_5, hz_5, b_X6_mixedInto_5]) rfl ih_5
  · show Z X G 6 0 0 (wSc G so sr sp sq rows pat ops cnt) 5 [(0, .ref so), (1, .long start), (3, .long (s_X6_mixedInto_5 rows start 72)), (5, .int (nI 72))] []
    refine z_iload (pc := 5) C 3 dX6_mixedInto_5 rfl ?_
    refine z_aload_n (pc := 7) C 0 dX6_mixedInto_7 rfl ?_
    refine z_get (pc := 8) C 0 0 dX6_mixedInto_8 rfl rfl i_X6 (by decide) q_98 rfl ?_
    refine z_alen_cI (pc := 11) (v := 72) C 1 dX6_mixedInto_11 rfl rfl ?_
    refine z_icmp_ge (pc := 12) 36 C dX6_mixedInto_12 (by decide) (fun c_12 => ?_) (fun c_12 => ?_)
    · skip
      refine z_iconst (pc := 36) (v := 0) C dX6_mixedInto_36 (by decide) ?_
      refine z_istore (pc := 37) [(5, _), (0, _), (1, _), (3, _)] C dX6_mixedInto_37 (by decide) rfl ?_
      refine z_lv (lv' := [(0, _), (1, _), (3, _), (5, _)]) [1, 2, 3, 0] rfl ?_
      refine z_loop (pc := 39) (e := 8) (fun i_39 => wSc G so sr sp sq rows pat ops cnt) (fun i_39 => [(0, .ref so), (1, .long start), (3, .long (s_X6_mixedInto_39 rows pat start i_39)), (5, .int (nI i_39))]) [] (fun i_39 hi_39 ih_39 => ?_) ?_ 0 (Nat.zero_le _)
      · show Z X G 6 0 0 (wSc G so sr sp sq rows pat ops cnt) 39 [(0, .ref so), (1, .long start), (3, .long (s_X6_mixedInto_39 rows pat start i_39)), (5, .int (nI i_39))] []
        generalize hz_39 : s_X6_mixedInto_39 rows pat start i_39 = z_39
        refine z_iload (pc := 39) C 3 dX6_mixedInto_39 rfl ?_
        refine z_bipush (pc := 41) (v := 8) C dX6_mixedInto_41 (by decide) ?_
        refine z_icmp_ge (pc := 43) 67 C dX6_mixedInto_43 (by decide) (fun c_43 => ?_) (fun c_43 => ?_)
        · skip
          exact absurd c_43 (nI_ge (b := 8) (by omega) (by decide))
        · skip
          refine z_ldc2_w (pc := 46) C q_822 dX6_mixedInto_46 ?_
          refine z_lload_n (pc := 49) C 2 dX6_mixedInto_49 rfl ?_
          refine z_lmul (pc := 50) C dX6_mixedInto_50 ?_
          refine z_aload_n (pc := 51) C 0 dX6_mixedInto_51 rfl ?_
          refine z_get (pc := 52) C 0 1 dX6_mixedInto_52 rfl rfl i_X6 (by decide) q_99 rfl ?_
          refine z_iload (pc := 55) C 3 dX6_mixedInto_55 rfl ?_
          refine z_iald (pc := 57) C 2 dX6_mixedInto_57 rfl (ix_nI hi_39 (by decide)) ?_
          refine z_i2l (pc := 58) C dX6_mixedInto_58 ?_
          refine z_ladd (pc := 59) C dX6_mixedInto_59 ?_
          refine z_lstore_n (pc := 60) [(3, _), (0, _), (1, _), (5, _)] C dX6_mixedInto_60 rfl (by decide) rfl ?_
          refine z_iinc (pc := 61) (v := nI (i_39 + 1)) [(5, _), (3, _), (0, _), (1, _)] C 3 dX6_mixedInto_61 rfl ((nI_succ _).symm) (by decide) rfl ?_
          refine z_goto (pc := 64) 39 C dX6_mixedInto_64 (by decide) ?_
          refine z_lv (lv' := [(0, _), (1, _), (3, _), (5, _)]) [2, 3, 1, 0] rfl ?_
          exact z_eq rfl (by simp only [s_X6_mixedInto_39, hz_39, b_X6_mixedInto_39]) rfl ih_39
      · show Z X G 6 0 0 (wSc G so sr sp sq rows pat ops cnt) 39 [(0, .ref so), (1, .long start), (3, .long (s_X6_mixedInto_39 rows pat start 8)), (5, .int (nI 8))] []
        refine z_iload (pc := 39) C 3 dX6_mixedInto_39 rfl ?_
        refine z_bipush (pc := 41) (v := 8) C dX6_mixedInto_41 (by decide) ?_
        refine z_icmp_ge (pc := 43) 67 C dX6_mixedInto_43 (by decide) (fun c_43 => ?_) (fun c_43 => ?_)
        · skip
          refine z_iconst (pc := 67) (v := 0) C dX6_mixedInto_67 (by decide) ?_
          refine z_istore (pc := 68) [(5, _), (0, _), (1, _), (3, _)] C dX6_mixedInto_68 (by decide) rfl ?_
          refine z_lv (lv' := [(0, _), (1, _), (3, _), (5, _)]) [1, 2, 3, 0] rfl ?_
          refine z_loop (pc := 70) (e := cnt.toNatClampNeg * 4) (fun i_70 => wSc G so sr sp sq rows pat ops cnt) (fun i_70 => [(0, .ref so), (1, .long start), (3, .long (s_X6_mixedInto_70 rows pat ops start i_70)), (5, .int (nI i_70))]) [] (fun i_70 hi_70 ih_70 => ?_) ?_ 0 (Nat.zero_le _)
          · show Z X G 6 0 0 (wSc G so sr sp sq rows pat ops cnt) 70 [(0, .ref so), (1, .long start), (3, .long (s_X6_mixedInto_70 rows pat ops start i_70)), (5, .int (nI i_70))] []
            generalize hz_70 : s_X6_mixedInto_70 rows pat ops start i_70 = z_70
            refine z_iload (pc := 70) C 3 dX6_mixedInto_70 rfl ?_
            refine z_aload_n (pc := 72) C 0 dX6_mixedInto_72 rfl ?_
            refine z_get (pc := 73) C 0 3 dX6_mixedInto_73 rfl rfl i_X6 (by decide) q_102 rfl ?_
            refine z_iconst (pc := 76) (v := 4) C dX6_mixedInto_76 (by decide) ?_
            refine z_imul (pc := 77) C dX6_mixedInto_77 ?_
            refine z_icmp_ge (pc := 78) 112 C dX6_mixedInto_78 (by decide) (fun c_78 => ?_) (fun c_78 => ?_)
            · skip
              exact absurd c_78 (lps (cOk_mul hc) (by omega) (by omega))
            · skip
              refine z_iload (pc := 81) C 3 dX6_mixedInto_81 rfl ?_
              refine z_aload_n (pc := 83) C 0 dX6_mixedInto_83 rfl ?_
              refine z_get (pc := 84) C 0 2 dX6_mixedInto_84 rfl rfl i_X6 (by decide) q_101 rfl ?_
              refine z_alen_cI (pc := 87) (v := 16) C 3 dX6_mixedInto_87 rfl rfl ?_
              refine z_icmp_ge (pc := 88) 112 C dX6_mixedInto_88 (by decide) (fun c_88 => ?_) (fun c_88 => ?_)
              · skip
                exact absurd c_88 (nI_ge (b := 16) (by omega) (by decide))
              · skip
                refine z_ldc2_w (pc := 91) C q_822 dX6_mixedInto_91 ?_
                refine z_lload_n (pc := 94) C 2 dX6_mixedInto_94 rfl ?_
                refine z_lmul (pc := 95) C dX6_mixedInto_95 ?_
                refine z_aload_n (pc := 96) C 0 dX6_mixedInto_96 rfl ?_
                refine z_get (pc := 97) C 0 2 dX6_mixedInto_97 rfl rfl i_X6 (by decide) q_101 rfl ?_
                refine z_iload (pc := 100) C 3 dX6_mixedInto_100 rfl ?_
                refine z_iald (pc := 102) C 3 dX6_mixedInto_102 rfl (ix_nI (by omega) (by decide)) ?_
                refine z_i2l (pc := 103) C dX6_mixedInto_103 ?_
                refine z_ladd (pc := 104) C dX6_mixedInto_104 ?_
                refine z_lstore_n (pc := 105) [(3, _), (0, _), (1, _), (5, _)] C dX6_mixedInto_105 rfl (by decide) rfl ?_
                refine z_iinc (pc := 106) (v := nI (i_70 + 1)) [(5, _), (3, _), (0, _), (1, _)] C 3 dX6_mixedInto_106 rfl ((nI_succ _).symm) (by decide) rfl ?_
                refine z_goto (pc := 109) 70 C dX6_mixedInto_109 (by decide) ?_
                refine z_lv (lv' := [(0, _), (1, _), (3, _), (5, _)]) [2, 3, 1, 0] rfl ?_
                exact z_eq rfl (by simp only [s_X6_mixedInto_70, hz_70, b_X6_mixedInto_70]) rfl ih_70
          · show Z X G 6 0 0 (wSc G so sr sp sq rows pat ops cnt) 70 [(0, .ref so), (1, .long start), (3, .long (s_X6_mixedInto_70 rows pat ops start (cnt.toNatClampNeg * 4))), (5, .int (nI (cnt.toNatClampNeg * 4)))] []
            refine z_iload (pc := 70) C 3 dX6_mixedInto_70 rfl ?_
            refine z_aload_n (pc := 72) C 0 dX6_mixedInto_72 rfl ?_
            refine z_get (pc := 73) C 0 3 dX6_mixedInto_73 rfl rfl i_X6 (by decide) q_102 rfl ?_
            refine z_iconst (pc := 76) (v := 4) C dX6_mixedInto_76 (by decide) ?_
            refine z_imul (pc := 77) C dX6_mixedInto_77 ?_
            refine z_icmp_ge (pc := 78) 112 C dX6_mixedInto_78 (by decide) (fun c_78 => ?_) (fun c_78 => ?_)
            · skip
              refine z_lload_n (pc := 112) C 2 dX6_mixedInto_112 rfl ?_
              exact z_lret (pc := 113) C E dX6_mixedInto_113 (pL.mk rfl rfl)
            · skip
              exact absurd (lpx (cOk_mul hc)) c_78
        · skip
          exact absurd (nI_le (Nat.le_refl 8) (by decide)) c_43
    · skip
      exact absurd (nI_le (Nat.le_refl 72) (by decide)) c_12

def g_X6_becomes_rows (rows : Nat → Int32) (rows2 : Nat → Int32) : Nat → Int32 := va_cpy rows2 rows (0 : Int32).toNatClampNeg (0 : Int32).toNatClampNeg (72 : Int32).toNatClampNeg
def g_X6_becomes_pat (pat : Nat → Int32) (pat2 : Nat → Int32) : Nat → Int32 := va_cpy pat2 pat (0 : Int32).toNatClampNeg (0 : Int32).toNatClampNeg (8 : Int32).toNatClampNeg
def g_X6_becomes_ops (ops : Nat → Int32) (ops2 : Nat → Int32) : Nat → Int32 := va_cpy ops2 ops (0 : Int32).toNatClampNeg (0 : Int32).toNatClampNeg (16 : Int32).toNatClampNeg
def g_X6_becomes_cnt (cnt2 : Int32) : Int32 := cnt2
set_option maxRecDepth 100000 in
theorem c_X6_becomes {l : Launch} {G : zG} {so sr sp sq so2 sr2 sp2 sq2 : Nat} {rows : Nat → Int32} {pat : Nat → Int32} {ops : Nat → Int32} {cnt : Int32} {rows2 : Nat → Int32} {pat2 : Nat → Int32} {ops2 : Nat → Int32} {cnt2 : Int32} : Ct l G yX6_becomes cX6_becomes 2 (Option.none : Option Jvm.ClassFile.FieldType) 1 40 [.ref so, .ref so2] (wSc G so sr sp sq rows pat ops cnt ++ wSc G so2 sr2 sp2 sq2 rows2 pat2 ops2 cnt2) (pV (wSc G so sr sp sq (g_X6_becomes_rows rows rows2) (g_X6_becomes_pat pat pat2) (g_X6_becomes_ops ops ops2) (g_X6_becomes_cnt cnt2) ++ wSc G so2 sr2 sp2 sq2 rows2 pat2 ops2 cnt2)) := by
  refine Ct.of (plainFor_of_name (by decide)) (Nat.le_of_ble_eq_true rfl) (pV.ad (ad_app ad_Sc ad_Sc)) (fun X C E => ?_)
  show Z X G 2 0 0 _ 0 [(0, .ref so), (1, .ref so2)] []
  refine z_aload_n (pc := 0) C 1 dX6_becomes_0 rfl ?_
  refine z_get (pc := 1) C 4 0 dX6_becomes_1 rfl rfl i_X6 (by decide) q_98 rfl ?_
  refine z_iconst (pc := 4) (v := 0) C dX6_becomes_4 (by decide) ?_
  refine z_aload_n (pc := 5) C 0 dX6_becomes_5 rfl ?_
  refine z_get (pc := 6) C 0 0 dX6_becomes_6 rfl rfl i_X6 (by decide) q_98 rfl ?_
  refine z_iconst (pc := 9) (v := 0) C dX6_becomes_9 (by decide) ?_
  refine z_aload_n (pc := 10) C 0 dX6_becomes_10 rfl ?_
  refine z_get (pc := 11) C 0 0 dX6_becomes_11 rfl rfl i_X6 (by decide) q_98 rfl ?_
  refine z_alen_cI (pc := 14) (v := 72) C 1 dX6_becomes_14 rfl rfl ?_
  refine z_copyi (pc := 15) (wSc G so sr sp sq _ pat ops cnt ++ wSc G so2 sr2 sp2 sq2 rows2 pat2 ops2 cnt2) C 5 1 q_308 q_310 q_309 q_74 dX6_becomes_15 rfl rfl (by decide) (by decide) (by decide) (by decide) (by decide) (by decide) (by decide) rfl ?_
  refine z_aload_n (pc := 18) C 1 dX6_becomes_18 rfl ?_
  refine z_get (pc := 19) C 4 1 dX6_becomes_19 rfl rfl i_X6 (by decide) q_99 rfl ?_
  refine z_iconst (pc := 22) (v := 0) C dX6_becomes_22 (by decide) ?_
  refine z_aload_n (pc := 23) C 0 dX6_becomes_23 rfl ?_
  refine z_get (pc := 24) C 0 1 dX6_becomes_24 rfl rfl i_X6 (by decide) q_99 rfl ?_
  refine z_iconst (pc := 27) (v := 0) C dX6_becomes_27 (by decide) ?_
  refine z_aload_n (pc := 28) C 0 dX6_becomes_28 rfl ?_
  refine z_get (pc := 29) C 0 1 dX6_becomes_29 rfl rfl i_X6 (by decide) q_99 rfl ?_
  refine z_alen_cI (pc := 32) (v := 8) C 2 dX6_becomes_32 rfl rfl ?_
  refine z_copyi (pc := 33) (wSc G so sr sp sq _ _ ops cnt ++ wSc G so2 sr2 sp2 sq2 rows2 pat2 ops2 cnt2) C 6 2 q_308 q_310 q_309 q_74 dX6_becomes_33 rfl rfl (by decide) (by decide) (by decide) (by decide) (by decide) (by decide) (by decide) rfl ?_
  refine z_aload_n (pc := 36) C 1 dX6_becomes_36 rfl ?_
  refine z_get (pc := 37) C 4 2 dX6_becomes_37 rfl rfl i_X6 (by decide) q_101 rfl ?_
  refine z_iconst (pc := 40) (v := 0) C dX6_becomes_40 (by decide) ?_
  refine z_aload_n (pc := 41) C 0 dX6_becomes_41 rfl ?_
  refine z_get (pc := 42) C 0 2 dX6_becomes_42 rfl rfl i_X6 (by decide) q_101 rfl ?_
  refine z_iconst (pc := 45) (v := 0) C dX6_becomes_45 (by decide) ?_
  refine z_aload_n (pc := 46) C 0 dX6_becomes_46 rfl ?_
  refine z_get (pc := 47) C 0 2 dX6_becomes_47 rfl rfl i_X6 (by decide) q_101 rfl ?_
  refine z_alen_cI (pc := 50) (v := 16) C 3 dX6_becomes_50 rfl rfl ?_
  refine z_copyi (pc := 51) (wSc G so sr sp sq _ _ _ cnt ++ wSc G so2 sr2 sp2 sq2 rows2 pat2 ops2 cnt2) C 7 3 q_308 q_310 q_309 q_74 dX6_becomes_51 rfl rfl (by decide) (by decide) (by decide) (by decide) (by decide) (by decide) (by decide) rfl ?_
  refine z_aload_n (pc := 54) C 0 dX6_becomes_54 rfl ?_
  refine z_aload_n (pc := 55) C 1 dX6_becomes_55 rfl ?_
  refine z_get (pc := 56) C 4 3 dX6_becomes_56 rfl rfl i_X6 (by decide) q_102 rfl ?_
  refine z_put (pc := 59) (wSc G so sr sp sq _ _ _ _ ++ wSc G so2 sr2 sp2 sq2 rows2 pat2 ops2 cnt2) C 0 3 dX6_becomes_59 rfl rfl i_X6 tyX6_ok nmX6 (by decide) q_102 rfl rfl rfl rfl (Nat.le_of_ble_eq_true rfl) rfl ?_
  exact z_vret (pc := 62) C E dX6_becomes_62 (pV.mk rfl)

def f_J9_floorMod_7cf53 (a : Int32) (b : Int32) : Int32 := if 0 ≤ (a ^^^ b) then a - a / b * b else if (a - a / b * b) = 0 then a - a / b * b else (a - a / b * b) + b
set_option maxRecDepth 100000 in
theorem c_J9_floorMod_7cf53 {l : Launch} {G : zG} {a : Int32} {b : Int32} (hb : ¬ b = 0) : Ct l G yJ9_floorMod_7cf53 cJ9_floorMod_7cf53 3 (Option.some FieldType.int) 0 0 [.int a, .int b] ([]) (pI (f_J9_floorMod_7cf53 a b) ([])) := by
  refine Ct.of (by decide +kernel) (Nat.le_of_ble_eq_true rfl) (pI.ad rfl) (fun X C E => ?_)
  show Z X G 3 0 0 _ 0 [(0, .int a), (1, .int b)] []
  refine z_iload_n (pc := 0) C 0 dJ9_floorMod_7cf53_0 rfl ?_
  refine z_iload_n (pc := 1) C 1 dJ9_floorMod_7cf53_1 rfl ?_
  refine z_irem (pc := 2) C dJ9_floorMod_7cf53_2 (hb) ?_
  refine z_istore_n (pc := 3) [(2, _), (0, _), (1, _)] C dJ9_floorMod_7cf53_3 rfl (by decide) rfl ?_
  refine z_iload_n (pc := 4) C 1 dJ9_floorMod_7cf53_4 rfl ?_
  refine z_iload_n (pc := 5) C 2 dJ9_floorMod_7cf53_5 rfl ?_
  refine z_ixor (pc := 6) C dJ9_floorMod_7cf53_6 ?_
  refine z_if_ge (pc := 7) 18 C dJ9_floorMod_7cf53_7 (by decide) (fun c_7 => ?_) (fun c_7 => ?_)
  · skip
    refine z_iload_n (pc := 18) C 0 dJ9_floorMod_7cf53_18 rfl ?_
    exact z_iret (pc := 19) C E dJ9_floorMod_7cf53_19 (pI.mk (by simp only [f_J9_floorMod_7cf53, if_pos c_7]) rfl)
  · skip
    refine z_iload_n (pc := 10) C 0 dJ9_floorMod_7cf53_10 rfl ?_
    refine z_if_eq (pc := 11) 18 C dJ9_floorMod_7cf53_11 (by decide) (fun c_11 => ?_) (fun c_11 => ?_)
    · skip
      refine z_iload_n (pc := 18) C 0 dJ9_floorMod_7cf53_18 rfl ?_
      exact z_iret (pc := 19) C E dJ9_floorMod_7cf53_19 (pI.mk (by simp only [f_J9_floorMod_7cf53, if_neg c_7, if_pos c_11]) rfl)
    · skip
      refine z_iload_n (pc := 14) C 0 dJ9_floorMod_7cf53_14 rfl ?_
      refine z_iload_n (pc := 15) C 2 dJ9_floorMod_7cf53_15 rfl ?_
      refine z_iadd (pc := 16) C dJ9_floorMod_7cf53_16 ?_
      exact z_iret (pc := 17) C E dJ9_floorMod_7cf53_17 (pI.mk (by simp only [f_J9_floorMod_7cf53, if_neg c_7, if_neg c_11]) rfl)

def f_J9_floorDiv_7cf53 (a : Int32) (b : Int32) : Int32 := if 0 ≤ (a ^^^ b) then a / b else if ((a / b) * b) = a then a / b else (a / b) - 1
set_option maxRecDepth 100000 in
theorem c_J9_floorDiv_7cf53 {l : Launch} {G : zG} {a : Int32} {b : Int32} (hb : ¬ b = 0) : Ct l G yJ9_floorDiv_7cf53 cJ9_floorDiv_7cf53 3 (Option.some FieldType.int) 0 0 [.int a, .int b] ([]) (pI (f_J9_floorDiv_7cf53 a b) ([])) := by
  refine Ct.of (by decide +kernel) (Nat.le_of_ble_eq_true rfl) (pI.ad rfl) (fun X C E => ?_)
  show Z X G 3 0 0 _ 0 [(0, .int a), (1, .int b)] []
  refine z_iload_n (pc := 0) C 0 dJ9_floorDiv_7cf53_0 rfl ?_
  refine z_iload_n (pc := 1) C 1 dJ9_floorDiv_7cf53_1 rfl ?_
  refine z_idiv (pc := 2) C dJ9_floorDiv_7cf53_2 (hb) ?_
  refine z_istore_n (pc := 3) [(2, _), (0, _), (1, _)] C dJ9_floorDiv_7cf53_3 rfl (by decide) rfl ?_
  refine z_iload_n (pc := 4) C 1 dJ9_floorDiv_7cf53_4 rfl ?_
  refine z_iload_n (pc := 5) C 2 dJ9_floorDiv_7cf53_5 rfl ?_
  refine z_ixor (pc := 6) C dJ9_floorDiv_7cf53_6 ?_
  refine z_if_ge (pc := 7) 21 C dJ9_floorDiv_7cf53_7 (by decide) (fun c_7 => ?_) (fun c_7 => ?_)
  · skip
    refine z_iload_n (pc := 21) C 0 dJ9_floorDiv_7cf53_21 rfl ?_
    exact z_iret (pc := 22) C E dJ9_floorDiv_7cf53_22 (pI.mk (by simp only [f_J9_floorDiv_7cf53, if_pos c_7]) rfl)
  · skip
    refine z_iload_n (pc := 10) C 0 dJ9_floorDiv_7cf53_10 rfl ?_
    refine z_iload_n (pc := 11) C 2 dJ9_floorDiv_7cf53_11 rfl ?_
    refine z_imul (pc := 12) C dJ9_floorDiv_7cf53_12 ?_
    refine z_iload_n (pc := 13) C 1 dJ9_floorDiv_7cf53_13 rfl ?_
    refine z_icmp_eq (pc := 14) 21 C dJ9_floorDiv_7cf53_14 (by decide) (fun c_14 => ?_) (fun c_14 => ?_)
    · skip
      refine z_iload_n (pc := 21) C 0 dJ9_floorDiv_7cf53_21 rfl ?_
      exact z_iret (pc := 22) C E dJ9_floorDiv_7cf53_22 (pI.mk (by simp only [f_J9_floorDiv_7cf53, if_neg c_7, if_pos c_14]) rfl)
    · skip
      refine z_iload_n (pc := 17) C 0 dJ9_floorDiv_7cf53_17 rfl ?_
      refine z_iconst (pc := 18) (v := 1) C dJ9_floorDiv_7cf53_18 (by decide) ?_
      refine z_isub (pc := 19) C dJ9_floorDiv_7cf53_19 ?_
      exact z_iret (pc := 20) C E dJ9_floorDiv_7cf53_20 (pI.mk (by simp only [f_J9_floorDiv_7cf53, if_neg c_7, if_neg c_14]) rfl)

def f_X4_runsThrough (row : Int32) (seeds : Int32) : Int32 := (((((seeds ||| (row &&& (seeds <<< (1 &&& 31)))) ||| ((row &&& (row <<< (1 &&& 31))) &&& ((seeds ||| (row &&& (seeds <<< (1 &&& 31)))) <<< ((1 * 2) &&& 31)))) ||| (((row &&& (row <<< (1 &&& 31))) &&& ((row &&& (row <<< (1 &&& 31))) <<< ((1 * 2) &&& 31))) &&& (((seeds ||| (row &&& (seeds <<< (1 &&& 31)))) ||| ((row &&& (row <<< (1 &&& 31))) &&& ((seeds ||| (row &&& (seeds <<< (1 &&& 31)))) <<< ((1 * 2) &&& 31)))) <<< (((1 * 2) * 2) &&& 31)))) ||| ((((row &&& (row <<< (1 &&& 31))) &&& ((row &&& (row <<< (1 &&& 31))) <<< ((1 * 2) &&& 31))) &&& (((row &&& (row <<< (1 &&& 31))) &&& ((row &&& (row <<< (1 &&& 31))) <<< ((1 * 2) &&& 31))) <<< (((1 * 2) * 2) &&& 31))) &&& ((((seeds ||| (row &&& (seeds <<< (1 &&& 31)))) ||| ((row &&& (row <<< (1 &&& 31))) &&& ((seeds ||| (row &&& (seeds <<< (1 &&& 31)))) <<< ((1 * 2) &&& 31)))) ||| (((row &&& (row <<< (1 &&& 31))) &&& ((row &&& (row <<< (1 &&& 31))) <<< ((1 * 2) &&& 31))) &&& (((seeds ||| (row &&& (seeds <<< (1 &&& 31)))) ||| ((row &&& (row <<< (1 &&& 31))) &&& ((seeds ||| (row &&& (seeds <<< (1 &&& 31)))) <<< ((1 * 2) &&& 31)))) <<< (((1 * 2) * 2) &&& 31)))) <<< ((((1 * 2) * 2) * 2) &&& 31)))) ||| (((((row &&& (row <<< (1 &&& 31))) &&& ((row &&& (row <<< (1 &&& 31))) <<< ((1 * 2) &&& 31))) &&& (((row &&& (row <<< (1 &&& 31))) &&& ((row &&& (row <<< (1 &&& 31))) <<< ((1 * 2) &&& 31))) <<< (((1 * 2) * 2) &&& 31))) &&& ((((row &&& (row <<< (1 &&& 31))) &&& ((row &&& (row <<< (1 &&& 31))) <<< ((1 * 2) &&& 31))) &&& (((row &&& (row <<< (1 &&& 31))) &&& ((row &&& (row <<< (1 &&& 31))) <<< ((1 * 2) &&& 31))) <<< (((1 * 2) * 2) &&& 31))) <<< ((((1 * 2) * 2) * 2) &&& 31))) &&& (((((seeds ||| (row &&& (seeds <<< (1 &&& 31)))) ||| ((row &&& (row <<< (1 &&& 31))) &&& ((seeds ||| (row &&& (seeds <<< (1 &&& 31)))) <<< ((1 * 2) &&& 31)))) ||| (((row &&& (row <<< (1 &&& 31))) &&& ((row &&& (row <<< (1 &&& 31))) <<< ((1 * 2) &&& 31))) &&& (((seeds ||| (row &&& (seeds <<< (1 &&& 31)))) ||| ((row &&& (row <<< (1 &&& 31))) &&& ((seeds ||| (row &&& (seeds <<< (1 &&& 31)))) <<< ((1 * 2) &&& 31)))) <<< (((1 * 2) * 2) &&& 31)))) ||| ((((row &&& (row <<< (1 &&& 31))) &&& ((row &&& (row <<< (1 &&& 31))) <<< ((1 * 2) &&& 31))) &&& (((row &&& (row <<< (1 &&& 31))) &&& ((row &&& (row <<< (1 &&& 31))) <<< ((1 * 2) &&& 31))) <<< (((1 * 2) * 2) &&& 31))) &&& ((((seeds ||| (row &&& (seeds <<< (1 &&& 31)))) ||| ((row &&& (row <<< (1 &&& 31))) &&& ((seeds ||| (row &&& (seeds <<< (1 &&& 31)))) <<< ((1 * 2) &&& 31)))) ||| (((row &&& (row <<< (1 &&& 31))) &&& ((row &&& (row <<< (1 &&& 31))) <<< ((1 * 2) &&& 31))) &&& (((seeds ||| (row &&& (seeds <<< (1 &&& 31)))) ||| ((row &&& (row <<< (1 &&& 31))) &&& ((seeds ||| (row &&& (seeds <<< (1 &&& 31)))) <<< ((1 * 2) &&& 31)))) <<< (((1 * 2) * 2) &&& 31)))) <<< ((((1 * 2) * 2) * 2) &&& 31)))) <<< (((((1 * 2) * 2) * 2) * 2) &&& 31)))) ||| (((((seeds ||| (row &&& (uShr seeds 1))) ||| ((row &&& (uShr row 1)) &&& (uShr (seeds ||| (row &&& (uShr seeds 1))) (1 * 2)))) ||| (((row &&& (uShr row 1)) &&& (uShr (row &&& (uShr row 1)) (1 * 2))) &&& (uShr ((seeds ||| (row &&& (uShr seeds 1))) ||| ((row &&& (uShr row 1)) &&& (uShr (seeds ||| (row &&& (uShr seeds 1))) (1 * 2)))) ((1 * 2) * 2)))) ||| ((((row &&& (uShr row 1)) &&& (uShr (row &&& (uShr row 1)) (1 * 2))) &&& (uShr ((row &&& (uShr row 1)) &&& (uShr (row &&& (uShr row 1)) (1 * 2))) ((1 * 2) * 2))) &&& (uShr (((seeds ||| (row &&& (uShr seeds 1))) ||| ((row &&& (uShr row 1)) &&& (uShr (seeds ||| (row &&& (uShr seeds 1))) (1 * 2)))) ||| (((row &&& (uShr row 1)) &&& (uShr (row &&& (uShr row 1)) (1 * 2))) &&& (uShr ((seeds ||| (row &&& (uShr seeds 1))) ||| ((row &&& (uShr row 1)) &&& (uShr (seeds ||| (row &&& (uShr seeds 1))) (1 * 2)))) ((1 * 2) * 2)))) (((1 * 2) * 2) * 2)))) ||| (((((row &&& (uShr row 1)) &&& (uShr (row &&& (uShr row 1)) (1 * 2))) &&& (uShr ((row &&& (uShr row 1)) &&& (uShr (row &&& (uShr row 1)) (1 * 2))) ((1 * 2) * 2))) &&& (uShr (((row &&& (uShr row 1)) &&& (uShr (row &&& (uShr row 1)) (1 * 2))) &&& (uShr ((row &&& (uShr row 1)) &&& (uShr (row &&& (uShr row 1)) (1 * 2))) ((1 * 2) * 2))) (((1 * 2) * 2) * 2))) &&& (uShr ((((seeds ||| (row &&& (uShr seeds 1))) ||| ((row &&& (uShr row 1)) &&& (uShr (seeds ||| (row &&& (uShr seeds 1))) (1 * 2)))) ||| (((row &&& (uShr row 1)) &&& (uShr (row &&& (uShr row 1)) (1 * 2))) &&& (uShr ((seeds ||| (row &&& (uShr seeds 1))) ||| ((row &&& (uShr row 1)) &&& (uShr (seeds ||| (row &&& (uShr seeds 1))) (1 * 2)))) ((1 * 2) * 2)))) ||| ((((row &&& (uShr row 1)) &&& (uShr (row &&& (uShr row 1)) (1 * 2))) &&& (uShr ((row &&& (uShr row 1)) &&& (uShr (row &&& (uShr row 1)) (1 * 2))) ((1 * 2) * 2))) &&& (uShr (((seeds ||| (row &&& (uShr seeds 1))) ||| ((row &&& (uShr row 1)) &&& (uShr (seeds ||| (row &&& (uShr seeds 1))) (1 * 2)))) ||| (((row &&& (uShr row 1)) &&& (uShr (row &&& (uShr row 1)) (1 * 2))) &&& (uShr ((seeds ||| (row &&& (uShr seeds 1))) ||| ((row &&& (uShr row 1)) &&& (uShr (seeds ||| (row &&& (uShr seeds 1))) (1 * 2)))) ((1 * 2) * 2)))) (((1 * 2) * 2) * 2)))) ((((1 * 2) * 2) * 2) * 2))))
set_option maxRecDepth 100000 in
theorem c_X4_runsThrough {l : Launch} {G : zG} {row : Int32} {seeds : Int32} : Ct l G yX4_runsThrough cX4_runsThrough 7 (Option.some FieldType.int) 0 0 [.int row, .int seeds] ([]) (pI (f_X4_runsThrough row seeds) ([])) := by
  refine Ct.of (plainFor_of_name (by decide)) (Nat.le_of_ble_eq_true rfl) (pI.ad rfl) (fun X C E => ?_)
  show Z X G 7 0 0 _ 0 [(0, .int row), (1, .int seeds)] []
  refine z_iload_n (pc := 0) C 1 dX4_runsThrough_0 rfl ?_
  refine z_istore_n (pc := 1) [(2, _), (0, _), (1, _)] C dX4_runsThrough_1 rfl (by decide) rfl ?_
  refine z_iload_n (pc := 2) C 2 dX4_runsThrough_2 rfl ?_
  refine z_istore_n (pc := 3) [(3, _), (2, _), (0, _), (1, _)] C dX4_runsThrough_3 rfl (by decide) rfl ?_
  refine z_iload_n (pc := 4) C 2 dX4_runsThrough_4 rfl ?_
  refine z_istore (pc := 5) [(4, _), (3, _), (2, _), (0, _), (1, _)] C dX4_runsThrough_5 (by decide) rfl ?_
  refine z_iload_n (pc := 7) C 3 dX4_runsThrough_7 rfl ?_
  refine z_istore (pc := 8) [(5, _), (4, _), (3, _), (2, _), (0, _), (1, _)] C dX4_runsThrough_8 (by decide) rfl ?_
  refine z_iconst (pc := 10) (v := 1) C dX4_runsThrough_10 (by decide) ?_
  refine z_istore (pc := 11) [(6, _), (5, _), (4, _), (3, _), (2, _), (0, _), (1, _)] C dX4_runsThrough_11 (by decide) rfl ?_
  refine z_iload (pc := 13) C 0 dX4_runsThrough_13 rfl ?_
  refine z_bipush (pc := 15) (v := 32) C dX4_runsThrough_15 (by decide) ?_
  refine z_icmp_ge (pc := 17) 69 C dX4_runsThrough_17 (by decide) (fun c_17 => ?_) (fun c_17 => ?_)
  · skip
    exact absurd c_17 (by decide)
  · skip
    refine z_iload_n (pc := 20) C 4 dX4_runsThrough_20 rfl ?_
    refine z_iload (pc := 21) C 2 dX4_runsThrough_21 rfl ?_
    refine z_iload_n (pc := 23) C 4 dX4_runsThrough_23 rfl ?_
    refine z_iload (pc := 24) C 0 dX4_runsThrough_24 rfl ?_
    refine z_ishl (pc := 26) C dX4_runsThrough_26 ?_
    refine z_iand (pc := 27) C dX4_runsThrough_27 ?_
    refine z_ior (pc := 28) C dX4_runsThrough_28 ?_
    refine z_istore_n (pc := 29) [(2, _), (6, _), (5, _), (4, _), (3, _), (0, _), (1, _)] C dX4_runsThrough_29 rfl (by decide) rfl ?_
    refine z_iload (pc := 30) C 3 dX4_runsThrough_30 rfl ?_
    refine z_iload (pc := 32) C 3 dX4_runsThrough_32 rfl ?_
    refine z_iload (pc := 34) C 1 dX4_runsThrough_34 rfl ?_
    refine z_ishl (pc := 36) C dX4_runsThrough_36 ?_
    refine z_iand (pc := 37) C dX4_runsThrough_37 ?_
    refine z_istore (pc := 38) [(4, _), (2, _), (6, _), (5, _), (3, _), (0, _), (1, _)] C dX4_runsThrough_38 (by decide) rfl ?_
    refine z_iload_n (pc := 40) C 4 dX4_runsThrough_40 rfl ?_
    refine z_iload (pc := 41) C 3 dX4_runsThrough_41 rfl ?_
    refine z_iload_n (pc := 43) C 4 dX4_runsThrough_43 rfl ?_
    refine z_iload (pc := 44) C 2 dX4_runsThrough_44 rfl ?_
    refine z_iushr (pc := 46) C dX4_runsThrough_46 ?_
    refine z_iand (pc := 47) C dX4_runsThrough_47 ?_
    refine z_ior (pc := 48) C dX4_runsThrough_48 ?_
    refine z_istore_n (pc := 49) [(3, _), (4, _), (2, _), (6, _), (5, _), (0, _), (1, _)] C dX4_runsThrough_49 rfl (by decide) rfl ?_
    refine z_iload (pc := 50) C 4 dX4_runsThrough_50 rfl ?_
    refine z_iload (pc := 52) C 4 dX4_runsThrough_52 rfl ?_
    refine z_iload (pc := 54) C 3 dX4_runsThrough_54 rfl ?_
    refine z_iushr (pc := 56) C dX4_runsThrough_56 ?_
    refine z_iand (pc := 57) C dX4_runsThrough_57 ?_
    refine z_istore (pc := 58) [(5, _), (3, _), (4, _), (2, _), (6, _), (0, _), (1, _)] C dX4_runsThrough_58 (by decide) rfl ?_
    refine z_iload (pc := 60) C 4 dX4_runsThrough_60 rfl ?_
    refine z_iconst (pc := 62) (v := 2) C dX4_runsThrough_62 (by decide) ?_
    refine z_imul (pc := 63) C dX4_runsThrough_63 ?_
    refine z_istore (pc := 64) [(6, _), (5, _), (3, _), (4, _), (2, _), (0, _), (1, _)] C dX4_runsThrough_64 (by decide) rfl ?_
    refine z_goto (pc := 66) 13 C dX4_runsThrough_66 (by decide) ?_
    refine z_iload (pc := 13) C 0 dX4_runsThrough_13 rfl ?_
    refine z_bipush (pc := 15) (v := 32) C dX4_runsThrough_15 (by decide) ?_
    refine z_icmp_ge (pc := 17) 69 C dX4_runsThrough_17 (by decide) (fun c_17 => ?_) (fun c_17 => ?_)
    · skip
      exact absurd c_17 (by decide)
    · skip
      refine z_iload_n (pc := 20) C 4 dX4_runsThrough_20 rfl ?_
      refine z_iload (pc := 21) C 3 dX4_runsThrough_21 rfl ?_
      refine z_iload_n (pc := 23) C 4 dX4_runsThrough_23 rfl ?_
      refine z_iload (pc := 24) C 0 dX4_runsThrough_24 rfl ?_
      refine z_ishl (pc := 26) C dX4_runsThrough_26 ?_
      refine z_iand (pc := 27) C dX4_runsThrough_27 ?_
      refine z_ior (pc := 28) C dX4_runsThrough_28 ?_
      refine z_istore_n (pc := 29) [(2, _), (6, _), (5, _), (3, _), (4, _), (0, _), (1, _)] C dX4_runsThrough_29 rfl (by decide) rfl ?_
      refine z_iload (pc := 30) C 4 dX4_runsThrough_30 rfl ?_
      refine z_iload (pc := 32) C 4 dX4_runsThrough_32 rfl ?_
      refine z_iload (pc := 34) C 1 dX4_runsThrough_34 rfl ?_
      refine z_ishl (pc := 36) C dX4_runsThrough_36 ?_
      refine z_iand (pc := 37) C dX4_runsThrough_37 ?_
      refine z_istore (pc := 38) [(4, _), (2, _), (6, _), (5, _), (3, _), (0, _), (1, _)] C dX4_runsThrough_38 (by decide) rfl ?_
      refine z_iload_n (pc := 40) C 4 dX4_runsThrough_40 rfl ?_
      refine z_iload (pc := 41) C 3 dX4_runsThrough_41 rfl ?_
      refine z_iload_n (pc := 43) C 4 dX4_runsThrough_43 rfl ?_
      refine z_iload (pc := 44) C 2 dX4_runsThrough_44 rfl ?_
      refine z_iushr (pc := 46) C dX4_runsThrough_46 ?_
      refine z_iand (pc := 47) C dX4_runsThrough_47 ?_
      refine z_ior (pc := 48) C dX4_runsThrough_48 ?_
      refine z_istore_n (pc := 49) [(3, _), (4, _), (2, _), (6, _), (5, _), (0, _), (1, _)] C dX4_runsThrough_49 rfl (by decide) rfl ?_
      refine z_iload (pc := 50) C 4 dX4_runsThrough_50 rfl ?_
      refine z_iload (pc := 52) C 4 dX4_runsThrough_52 rfl ?_
      refine z_iload (pc := 54) C 3 dX4_runsThrough_54 rfl ?_
      refine z_iushr (pc := 56) C dX4_runsThrough_56 ?_
      refine z_iand (pc := 57) C dX4_runsThrough_57 ?_
      refine z_istore (pc := 58) [(5, _), (3, _), (4, _), (2, _), (6, _), (0, _), (1, _)] C dX4_runsThrough_58 (by decide) rfl ?_
      refine z_iload (pc := 60) C 4 dX4_runsThrough_60 rfl ?_
      refine z_iconst (pc := 62) (v := 2) C dX4_runsThrough_62 (by decide) ?_
      refine z_imul (pc := 63) C dX4_runsThrough_63 ?_
      refine z_istore (pc := 64) [(6, _), (5, _), (3, _), (4, _), (2, _), (0, _), (1, _)] C dX4_runsThrough_64 (by decide) rfl ?_
      refine z_goto (pc := 66) 13 C dX4_runsThrough_66 (by decide) ?_
      refine z_iload (pc := 13) C 0 dX4_runsThrough_13 rfl ?_
      refine z_bipush (pc := 15) (v := 32) C dX4_runsThrough_15 (by decide) ?_
      refine z_icmp_ge (pc := 17) 69 C dX4_runsThrough_17 (by decide) (fun c_17 => ?_) (fun c_17 => ?_)
      · skip
        exact absurd c_17 (by decide)
      · skip
        refine z_iload_n (pc := 20) C 4 dX4_runsThrough_20 rfl ?_
        refine z_iload (pc := 21) C 3 dX4_runsThrough_21 rfl ?_
        refine z_iload_n (pc := 23) C 4 dX4_runsThrough_23 rfl ?_
        refine z_iload (pc := 24) C 0 dX4_runsThrough_24 rfl ?_
        refine z_ishl (pc := 26) C dX4_runsThrough_26 ?_
        refine z_iand (pc := 27) C dX4_runsThrough_27 ?_
        refine z_ior (pc := 28) C dX4_runsThrough_28 ?_
        refine z_istore_n (pc := 29) [(2, _), (6, _), (5, _), (3, _), (4, _), (0, _), (1, _)] C dX4_runsThrough_29 rfl (by decide) rfl ?_
        refine z_iload (pc := 30) C 4 dX4_runsThrough_30 rfl ?_
        refine z_iload (pc := 32) C 4 dX4_runsThrough_32 rfl ?_
        refine z_iload (pc := 34) C 1 dX4_runsThrough_34 rfl ?_
        refine z_ishl (pc := 36) C dX4_runsThrough_36 ?_
        refine z_iand (pc := 37) C dX4_runsThrough_37 ?_
        refine z_istore (pc := 38) [(4, _), (2, _), (6, _), (5, _), (3, _), (0, _), (1, _)] C dX4_runsThrough_38 (by decide) rfl ?_
        refine z_iload_n (pc := 40) C 4 dX4_runsThrough_40 rfl ?_
        refine z_iload (pc := 41) C 3 dX4_runsThrough_41 rfl ?_
        refine z_iload_n (pc := 43) C 4 dX4_runsThrough_43 rfl ?_
        refine z_iload (pc := 44) C 2 dX4_runsThrough_44 rfl ?_
        refine z_iushr (pc := 46) C dX4_runsThrough_46 ?_
        refine z_iand (pc := 47) C dX4_runsThrough_47 ?_
        refine z_ior (pc := 48) C dX4_runsThrough_48 ?_
        refine z_istore_n (pc := 49) [(3, _), (4, _), (2, _), (6, _), (5, _), (0, _), (1, _)] C dX4_runsThrough_49 rfl (by decide) rfl ?_
        refine z_iload (pc := 50) C 4 dX4_runsThrough_50 rfl ?_
        refine z_iload (pc := 52) C 4 dX4_runsThrough_52 rfl ?_
        refine z_iload (pc := 54) C 3 dX4_runsThrough_54 rfl ?_
        refine z_iushr (pc := 56) C dX4_runsThrough_56 ?_
        refine z_iand (pc := 57) C dX4_runsThrough_57 ?_
        refine z_istore (pc := 58) [(5, _), (3, _), (4, _), (2, _), (6, _), (0, _), (1, _)] C dX4_runsThrough_58 (by decide) rfl ?_
        refine z_iload (pc := 60) C 4 dX4_runsThrough_60 rfl ?_
        refine z_iconst (pc := 62) (v := 2) C dX4_runsThrough_62 (by decide) ?_
        refine z_imul (pc := 63) C dX4_runsThrough_63 ?_
        refine z_istore (pc := 64) [(6, _), (5, _), (3, _), (4, _), (2, _), (0, _), (1, _)] C dX4_runsThrough_64 (by decide) rfl ?_
        refine z_goto (pc := 66) 13 C dX4_runsThrough_66 (by decide) ?_
        refine z_iload (pc := 13) C 0 dX4_runsThrough_13 rfl ?_
        refine z_bipush (pc := 15) (v := 32) C dX4_runsThrough_15 (by decide) ?_
        refine z_icmp_ge (pc := 17) 69 C dX4_runsThrough_17 (by decide) (fun c_17 => ?_) (fun c_17 => ?_)
        · skip
          exact absurd c_17 (by decide)
        · skip
          refine z_iload_n (pc := 20) C 4 dX4_runsThrough_20 rfl ?_
          refine z_iload (pc := 21) C 3 dX4_runsThrough_21 rfl ?_
          refine z_iload_n (pc := 23) C 4 dX4_runsThrough_23 rfl ?_
          refine z_iload (pc := 24) C 0 dX4_runsThrough_24 rfl ?_
          refine z_ishl (pc := 26) C dX4_runsThrough_26 ?_
          refine z_iand (pc := 27) C dX4_runsThrough_27 ?_
          refine z_ior (pc := 28) C dX4_runsThrough_28 ?_
          refine z_istore_n (pc := 29) [(2, _), (6, _), (5, _), (3, _), (4, _), (0, _), (1, _)] C dX4_runsThrough_29 rfl (by decide) rfl ?_
          refine z_iload (pc := 30) C 4 dX4_runsThrough_30 rfl ?_
          refine z_iload (pc := 32) C 4 dX4_runsThrough_32 rfl ?_
          refine z_iload (pc := 34) C 1 dX4_runsThrough_34 rfl ?_
          refine z_ishl (pc := 36) C dX4_runsThrough_36 ?_
          refine z_iand (pc := 37) C dX4_runsThrough_37 ?_
          refine z_istore (pc := 38) [(4, _), (2, _), (6, _), (5, _), (3, _), (0, _), (1, _)] C dX4_runsThrough_38 (by decide) rfl ?_
          refine z_iload_n (pc := 40) C 4 dX4_runsThrough_40 rfl ?_
          refine z_iload (pc := 41) C 3 dX4_runsThrough_41 rfl ?_
          refine z_iload_n (pc := 43) C 4 dX4_runsThrough_43 rfl ?_
          refine z_iload (pc := 44) C 2 dX4_runsThrough_44 rfl ?_
          refine z_iushr (pc := 46) C dX4_runsThrough_46 ?_
          refine z_iand (pc := 47) C dX4_runsThrough_47 ?_
          refine z_ior (pc := 48) C dX4_runsThrough_48 ?_
          refine z_istore_n (pc := 49) [(3, _), (4, _), (2, _), (6, _), (5, _), (0, _), (1, _)] C dX4_runsThrough_49 rfl (by decide) rfl ?_
          refine z_iload (pc := 50) C 4 dX4_runsThrough_50 rfl ?_
          refine z_iload (pc := 52) C 4 dX4_runsThrough_52 rfl ?_
          refine z_iload (pc := 54) C 3 dX4_runsThrough_54 rfl ?_
          refine z_iushr (pc := 56) C dX4_runsThrough_56 ?_
          refine z_iand (pc := 57) C dX4_runsThrough_57 ?_
          refine z_istore (pc := 58) [(5, _), (3, _), (4, _), (2, _), (6, _), (0, _), (1, _)] C dX4_runsThrough_58 (by decide) rfl ?_
          refine z_iload (pc := 60) C 4 dX4_runsThrough_60 rfl ?_
          refine z_iconst (pc := 62) (v := 2) C dX4_runsThrough_62 (by decide) ?_
          refine z_imul (pc := 63) C dX4_runsThrough_63 ?_
          refine z_istore (pc := 64) [(6, _), (5, _), (3, _), (4, _), (2, _), (0, _), (1, _)] C dX4_runsThrough_64 (by decide) rfl ?_
          refine z_goto (pc := 66) 13 C dX4_runsThrough_66 (by decide) ?_
          refine z_iload (pc := 13) C 0 dX4_runsThrough_13 rfl ?_
          refine z_bipush (pc := 15) (v := 32) C dX4_runsThrough_15 (by decide) ?_
          refine z_icmp_ge (pc := 17) 69 C dX4_runsThrough_17 (by decide) (fun c_17 => ?_) (fun c_17 => ?_)
          · skip
            exact absurd c_17 (by decide)
          · skip
            refine z_iload_n (pc := 20) C 4 dX4_runsThrough_20 rfl ?_
            refine z_iload (pc := 21) C 3 dX4_runsThrough_21 rfl ?_
            refine z_iload_n (pc := 23) C 4 dX4_runsThrough_23 rfl ?_
            refine z_iload (pc := 24) C 0 dX4_runsThrough_24 rfl ?_
            refine z_ishl (pc := 26) C dX4_runsThrough_26 ?_
            refine z_iand (pc := 27) C dX4_runsThrough_27 ?_
            refine z_ior (pc := 28) C dX4_runsThrough_28 ?_
            refine z_istore_n (pc := 29) [(2, _), (6, _), (5, _), (3, _), (4, _), (0, _), (1, _)] C dX4_runsThrough_29 rfl (by decide) rfl ?_
            refine z_iload (pc := 30) C 4 dX4_runsThrough_30 rfl ?_
            refine z_iload (pc := 32) C 4 dX4_runsThrough_32 rfl ?_
            refine z_iload (pc := 34) C 1 dX4_runsThrough_34 rfl ?_
            refine z_ishl (pc := 36) C dX4_runsThrough_36 ?_
            refine z_iand (pc := 37) C dX4_runsThrough_37 ?_
            refine z_istore (pc := 38) [(4, _), (2, _), (6, _), (5, _), (3, _), (0, _), (1, _)] C dX4_runsThrough_38 (by decide) rfl ?_
            refine z_iload_n (pc := 40) C 4 dX4_runsThrough_40 rfl ?_
            refine z_iload (pc := 41) C 3 dX4_runsThrough_41 rfl ?_
            refine z_iload_n (pc := 43) C 4 dX4_runsThrough_43 rfl ?_
            refine z_iload (pc := 44) C 2 dX4_runsThrough_44 rfl ?_
            refine z_iushr (pc := 46) C dX4_runsThrough_46 ?_
            refine z_iand (pc := 47) C dX4_runsThrough_47 ?_
            refine z_ior (pc := 48) C dX4_runsThrough_48 ?_
            refine z_istore_n (pc := 49) [(3, _), (4, _), (2, _), (6, _), (5, _), (0, _), (1, _)] C dX4_runsThrough_49 rfl (by decide) rfl ?_
            refine z_iload (pc := 50) C 4 dX4_runsThrough_50 rfl ?_
            refine z_iload (pc := 52) C 4 dX4_runsThrough_52 rfl ?_
            refine z_iload (pc := 54) C 3 dX4_runsThrough_54 rfl ?_
            refine z_iushr (pc := 56) C dX4_runsThrough_56 ?_
            refine z_iand (pc := 57) C dX4_runsThrough_57 ?_
            refine z_istore (pc := 58) [(5, _), (3, _), (4, _), (2, _), (6, _), (0, _), (1, _)] C dX4_runsThrough_58 (by decide) rfl ?_
            refine z_iload (pc := 60) C 4 dX4_runsThrough_60 rfl ?_
            refine z_iconst (pc := 62) (v := 2) C dX4_runsThrough_62 (by decide) ?_
            refine z_imul (pc := 63) C dX4_runsThrough_63 ?_
            refine z_istore (pc := 64) [(6, _), (5, _), (3, _), (4, _), (2, _), (0, _), (1, _)] C dX4_runsThrough_64 (by decide) rfl ?_
            refine z_goto (pc := 66) 13 C dX4_runsThrough_66 (by decide) ?_
            refine z_iload (pc := 13) C 0 dX4_runsThrough_13 rfl ?_
            refine z_bipush (pc := 15) (v := 32) C dX4_runsThrough_15 (by decide) ?_
            refine z_icmp_ge (pc := 17) 69 C dX4_runsThrough_17 (by decide) (fun c_17 => ?_) (fun c_17 => ?_)
            · skip
              refine z_iload_n (pc := 69) C 4 dX4_runsThrough_69 rfl ?_
              refine z_iload_n (pc := 70) C 2 dX4_runsThrough_70 rfl ?_
              refine z_ior (pc := 71) C dX4_runsThrough_71 ?_
              exact z_iret (pc := 72) C E dX4_runsThrough_72 (pI.mk rfl rfl)
            · skip
              exact absurd (by decide) c_17
