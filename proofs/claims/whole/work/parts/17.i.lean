def b_X3_keepsSource_2 (rows : Nat → Int32) (s : Int32) (i_2 : Nat) (z_2 : (Nat → Int32)) : (Nat → Int32) := upd z_2 (nI i_2).toNatClampNeg (f_X6_rowAt rows s (nI i_2))
def s_X3_keepsSource_2 (source : Nat → Int32) (rows : Nat → Int32) (s : Int32) : Nat → (Nat → Int32)
  | 0 => source
  | i_2 + 1 => b_X3_keepsSource_2 rows s i_2 (s_X3_keepsSource_2 source rows s i_2)
def g_X3_keepsSource_source (source : Nat → Int32) (rows : Nat → Int32) (s : Int32) : Nat → Int32 := (s_X3_keepsSource_2 source rows s 24)
set_option maxRecDepth 100000 in
theorem c_X3_keepsSource {l : Launch} {G : zG} {to ts tl so sr sp sq po : Nat} {source : Nat → Int32} {like : Nat → Int32} {rows : Nat → Int32} {pat : Nat → Int32} {ops : Nat → Int32} {cnt : Int32} {s : Int32} : Ct l G yX3_keepsSource cX3_keepsSource 3 (Option.none : Option Jvm.ClassFile.FieldType) 3 64 [.ref to, .int s] (wPt G to ts tl so po source like ++ wSc G so sr sp sq rows pat ops cnt) (pV (wPt G to ts tl so po (g_X3_keepsSource_source source rows s) like ++ wSc G so sr sp sq rows pat ops cnt)) := by
  refine Ct.of (plainFor_of_name (by decide)) (Nat.le_of_ble_eq_true rfl) (pV.ad (ad_app ad_Pt ad_Sc)) (fun X C E => ?_)
  show Z X G 3 0 0 _ 0 [(0, .ref to), (1, .int s)] []
  refine z_iconst (pc := 0) (v := 0) C dX3_keepsSource_0 (by decide) ?_
  refine z_istore_n (pc := 1) [(2, _), (0, _), (1, _)] C dX3_keepsSource_1 rfl (by decide) rfl ?_
  refine z_lv (lv' := [(0, _), (1, _), (2, _)]) [1, 2, 0] rfl ?_
  refine z_loop (pc := 2) (e := 24) (fun i_2 => wPt G to ts tl so po (s_X3_keepsSource_2 source rows s i_2) like ++ wSc G so sr sp sq rows pat ops cnt) (fun i_2 => [(0, .ref to), (1, .int s), (2, .int (nI i_2))]) [] (fun i_2 hi_2 ih_2 => ?_) ?_ 0 (Nat.zero_le _)
  · show Z X G 3 0 0 (wPt G to ts tl so po (s_X3_keepsSource_2 source rows s i_2) like ++ wSc G so sr sp sq rows pat ops cnt) 2 [(0, .ref to), (1, .int s), (2, .int (nI i_2))] []
    generalize hz_2 : s_X3_keepsSource_2 source rows s i_2 = z_2
    refine z_iload_n (pc := 2) C 2 dX3_keepsSource_2 rfl ?_
    refine z_bipush (pc := 3) (v := 24) C dX3_keepsSource_3 (by decide) ?_
    refine z_icmp_ge (pc := 5) 29 C dX3_keepsSource_5 (by decide) (fun c_5 => ?_) (fun c_5 => ?_)
    · skip
      exact absurd c_5 (nI_ge (b := 24) (by omega) (by decide))
    · skip
      refine z_aload_n (pc := 8) C 0 dX3_keepsSource_8 rfl ?_
      refine z_get (pc := 9) C 0 2 dX3_keepsSource_9 rfl rfl i_X3 (by decide) q_164 rfl ?_
      refine z_iload_n (pc := 12) C 2 dX3_keepsSource_12 rfl ?_
      refine z_aload_n (pc := 13) C 0 dX3_keepsSource_13 rfl ?_
      refine z_get (pc := 14) C 0 0 dX3_keepsSource_14 rfl rfl i_X3 (by decide) q_162 rfl ?_
      refine z_iload_n (pc := 17) C 1 dX3_keepsSource_17 rfl ?_
      refine z_iload_n (pc := 18) C 2 dX3_keepsSource_18 rfl ?_
      refine z_callV (pc := 19) C (c_X6_rowAt) [3, 4, 5, 6] z00 mV_X6_rowAt q_486 dX3_keepsSource_19 rfl rfl rfl 3 rfl rfl rfl rfl (Nat.le_of_ble_eq_true rfl) (by decide) (pI.stay rfl ?_)
      refine z_iast (pc := 22) (wPt G to ts tl so po _ like ++ wSc G so sr sp sq rows pat ops cnt) C 1 dX3_keepsSource_22 rfl (ix_nI hi_2 (by decide)) rfl ?_
      refine z_iinc (pc := 23) (v := nI (i_2 + 1)) [(2, _), (0, _), (1, _)] C 2 dX3_keepsSource_23 rfl ((nI_succ _).symm) (by decide) rfl ?_
      refine z_goto (pc := 26) 2 C dX3_keepsSource_26 (by decide) ?_
      refine z_lv (lv' := [(0, _), (1, _), (2, _)]) [1, 2, 0] rfl ?_
      exact z_eq (by simp only [s_X3_keepsSource_2, hz_2, b_X3_keepsSource_2]) rfl rfl ih_2
  · show Z X G 3 0 0 (wPt G to ts tl so po (s_X3_keepsSource_2 source rows s 24) like ++ wSc G so sr sp sq rows pat ops cnt) 2 [(0, .ref to), (1, .int s), (2, .int (nI 24))] []
    refine z_iload_n (pc := 2) C 2 dX3_keepsSource_2 rfl ?_
    refine z_bipush (pc := 3) (v := 24) C dX3_keepsSource_3 (by decide) ?_
    refine z_icmp_ge (pc := 5) 29 C dX3_keepsSource_5 (by decide) (fun c_5 => ?_) (fun c_5 => ?_)
    · skip
      exact z_vret (pc := 29) C E dX3_keepsSource_29 (pV.mk rfl)
    · skip
      exact absurd (nI_le (Nat.le_refl 24) (by decide)) c_5

def f_X3_sourceAt (source : Nat → Int32) (y : Int32) : Int32 := if (f_X8_isWithin y 0 23) = 0 then 0 else source y.toNatClampNeg
set_option maxRecDepth 100000 in
theorem c_X3_sourceAt {l : Launch} {G : zG} {to ts tl so sr sp sq po : Nat} {source : Nat → Int32} {like : Nat → Int32} {rows : Nat → Int32} {pat : Nat → Int32} {ops : Nat → Int32} {cnt : Int32} {y : Int32} : Ct l G yX3_sourceAt cX3_sourceAt 2 (Option.some FieldType.int) 1 22 [.ref to, .int y] (wPt G to ts tl so po source like ++ wSc G so sr sp sq rows pat ops cnt) (pI (f_X3_sourceAt source y) (wPt G to ts tl so po source like ++ wSc G so sr sp sq rows pat ops cnt)) := by
  refine Ct.of (plainFor_of_name (by decide)) (Nat.le_of_ble_eq_true rfl) (pI.ad (ad_app ad_Pt ad_Sc)) (fun X C E => ?_)
  show Z X G 2 0 0 _ 0 [(0, .ref to), (1, .int y)] []
  refine z_iload_n (pc := 0) C 1 dX3_sourceAt_0 rfl ?_
  refine z_iconst (pc := 1) (v := 0) C dX3_sourceAt_1 (by decide) ?_
  refine z_bipush (pc := 2) (v := 23) C dX3_sourceAt_2 (by decide) ?_
  refine z_callSN (pc := 4) C (c_X8_isWithin) [] z00 mS_X8_isWithin q_492 dX3_sourceAt_4 rfl rfl rfl rfl (Nat.le_of_ble_eq_true rfl) (by decide) (pI.stay rfl ?_)
  refine z_if_eq (pc := 7) 19 C dX3_sourceAt_7 (by decide) (fun c_7 => ?_) (fun c_7 => ?_)
  · skip
    refine z_iconst (pc := 19) (v := 0) C dX3_sourceAt_19 (by decide) ?_
    exact z_iret (pc := 20) C E dX3_sourceAt_20 (pI.mk (by simp only [f_X3_sourceAt, if_pos c_7]) rfl)
  · skip
    refine z_aload_n (pc := 10) C 0 dX3_sourceAt_10 rfl ?_
    refine z_get (pc := 11) C 0 2 dX3_sourceAt_11 rfl rfl i_X3 (by decide) q_164 rfl ?_
    refine z_iload_n (pc := 14) C 1 dX3_sourceAt_14 rfl ?_
    refine z_iald (pc := 15) C 1 dX3_sourceAt_15 rfl (ix_24 c_7) ?_
    refine z_goto (pc := 16) 20 C dX3_sourceAt_16 (by decide) ?_
    exact z_iret (pc := 20) C E dX3_sourceAt_20 (pI.mk (by simp only [f_X3_sourceAt, if_neg c_7]) rfl)

def f_X3_letterRow (n : Int32) (k : Int32) : Int32 := ((((n * 5) + (3 * k)) + (n / 3)) - (((n * 5) + (3 * k)) + (n / 3)) / 16 * 16) <<< (28 &&& 31)
set_option maxRecDepth 100000 in
theorem c_X3_letterRow {l : Launch} {G : zG} {n : Int32} {k : Int32} : Ct l G yX3_letterRow cX3_letterRow 2 (Option.some FieldType.int) 0 0 [.int n, .int k] ([]) (pI (f_X3_letterRow n k) ([])) := by
  refine Ct.of (plainFor_of_name (by decide)) (Nat.le_of_ble_eq_true rfl) (pI.ad rfl) (fun X C E => ?_)
  show Z X G 2 0 0 _ 0 [(0, .int n), (1, .int k)] []
  refine z_iload_n (pc := 0) C 0 dX3_letterRow_0 rfl ?_
  refine z_iconst (pc := 1) (v := 5) C dX3_letterRow_1 (by decide) ?_
  refine z_imul (pc := 2) C dX3_letterRow_2 ?_
  refine z_iconst (pc := 3) (v := 3) C dX3_letterRow_3 (by decide) ?_
  refine z_iload_n (pc := 4) C 1 dX3_letterRow_4 rfl ?_
  refine z_imul (pc := 5) C dX3_letterRow_5 ?_
  refine z_iadd (pc := 6) C dX3_letterRow_6 ?_
  refine z_iload_n (pc := 7) C 0 dX3_letterRow_7 rfl ?_
  refine z_iconst (pc := 8) (v := 3) C dX3_letterRow_8 (by decide) ?_
  refine z_idiv (pc := 9) C dX3_letterRow_9 (by decide) ?_
  refine z_iadd (pc := 10) C dX3_letterRow_10 ?_
  refine z_bipush (pc := 11) (v := 16) C dX3_letterRow_11 (by decide) ?_
  refine z_irem (pc := 13) C dX3_letterRow_13 (by decide) ?_
  refine z_bipush (pc := 14) (v := 28) C dX3_letterRow_14 (by decide) ?_
  refine z_ishl (pc := 16) C dX3_letterRow_16 ?_
  exact z_iret (pc := 17) C E dX3_letterRow_17 (pI.mk rfl rfl)

theorem two_ne {n : Int32} (h : 0 < n) : ¬ 2 * n = 0 := by
  intro q
  have h3 := Int32.lt_iff_toInt_lt.mp h
  have e0 : (0 : Int32).toInt = 0 := rfl
  have e2 : (2 : Int32).toInt = 2 := rfl
  have h4 := Int32.toInt_lt n
  have e := Int32.toInt_mul 2 n
  rw [q, e0, e2] at e
  have := Int.dvd_of_bmod_eq_zero e.symm
  omega

def f_X3_between (v0 : Int32) (v1 : Int32) (i : Int32) (n : Int32) : Int32 := if 0 < n then v0 + (f_J9_floorDiv_7cf53 ((((v1 - v0) * 2) * i) + n) (2 * n)) else v0
set_option maxRecDepth 100000 in
theorem c_X3_between {l : Launch} {G : zG} {v0 : Int32} {v1 : Int32} {i : Int32} {n : Int32} : Ct l G yX3_between cX3_between 4 (Option.some FieldType.int) 1 22 [.int v0, .int v1, .int i, .int n] ([]) (pI (f_X3_between v0 v1 i n) ([])) := by
  refine Ct.of (plainFor_of_name (by decide)) (Nat.le_of_ble_eq_true rfl) (pI.ad rfl) (fun X C E => ?_)
  show Z X G 4 0 0 _ 0 [(0, .int v0), (1, .int v1), (2, .int i), (3, .int n)] []
  refine z_iload_n (pc := 0) C 3 dX3_between_0 rfl ?_
  refine z_if_gt (pc := 1) 8 C dX3_between_1 (by decide) (fun c_1 => ?_) (fun c_1 => ?_)
  · skip
    refine z_iload_n (pc := 8) C 0 dX3_between_8 rfl ?_
    refine z_iload_n (pc := 9) C 1 dX3_between_9 rfl ?_
    refine z_iload_n (pc := 10) C 0 dX3_between_10 rfl ?_
    refine z_isub (pc := 11) C dX3_between_11 ?_
    refine z_iconst (pc := 12) (v := 2) C dX3_between_12 (by decide) ?_
    refine z_imul (pc := 13) C dX3_between_13 ?_
    refine z_iload_n (pc := 14) C 2 dX3_between_14 rfl ?_
    refine z_imul (pc := 15) C dX3_between_15 ?_
    refine z_iload_n (pc := 16) C 3 dX3_between_16 rfl ?_
    refine z_iadd (pc := 17) C dX3_between_17 ?_
    refine z_iconst (pc := 18) (v := 2) C dX3_between_18 (by decide) ?_
    refine z_iload_n (pc := 19) C 3 dX3_between_19 rfl ?_
    refine z_imul (pc := 20) C dX3_between_20 ?_
    refine z_callS (pc := 21) C (c_J9_floorDiv_7cf53 (by exact (two_ne c_1))) [] z00 mS_J9_floorDiv_7cf53 q_527 dX3_between_21 rfl rfl rfl rfl (Nat.le_of_ble_eq_true rfl) (by decide) (pI.stay rfl ?_)
    refine z_iadd (pc := 24) C dX3_between_24 ?_
    exact z_iret (pc := 25) C E dX3_between_25 (pI.mk (by simp only [f_X3_between, if_pos c_1]) rfl)
  · skip
    refine z_iload_n (pc := 4) C 0 dX3_between_4 rfl ?_
    refine z_goto (pc := 5) 25 C dX3_between_5 (by decide) ?_
    exact z_iret (pc := 25) C E dX3_between_25 (pI.mk (by simp only [f_X3_between, if_neg c_1]) rfl)

def r_X3_movesBlock_69 (source : Nat → Int32) (rows : Nat → Int32) (pat : Nat → Int32) (ops : Nat → Int32) (cnt : Int32) (nums : Nat → Int32) (osz : Int32) : Nat → Nat → (Int32 × (Nat → Int32)) → Int32 × (Nat → Int32)
  | 0, i_69, z_69 => (z_69.1, z_69.2)
  | n_69 + 1, i_69, z_69 => if (f_X1_numberAt nums osz 4) ≤ (nI i_69) then (z_69.1, z_69.2) else r_X3_movesBlock_69 source rows pat ops cnt nums osz n_69 (i_69 + 1) (z_69.1 + (f_X6_joinsRow z_69.2 pat ops cnt (f_X1_numberAt nums osz 5) ((f_X1_numberAt nums osz 7) + (nI i_69)) (f_X8_spanMask (f_X1_numberAt nums osz 6) (f_X1_numberAt nums osz 3)) (f_X8_shifted (f_X3_sourceAt (g_X3_keepsSource_source source rows (f_X1_numberAt nums osz 0)) ((f_X1_numberAt nums osz 2) + (nI i_69))) ((f_X1_numberAt nums osz 6) - (f_X1_numberAt nums osz 1))) (f_X1_numberAt nums osz 8)), g_X6_joinsRow_rows z_69.2 pat ops cnt (f_X1_numberAt nums osz 5) ((f_X1_numberAt nums osz 7) + (nI i_69)) (f_X8_spanMask (f_X1_numberAt nums osz 6) (f_X1_numberAt nums osz 3)) (f_X8_shifted (f_X3_sourceAt (g_X3_keepsSource_source source rows (f_X1_numberAt nums osz 0)) ((f_X1_numberAt nums osz 2) + (nI i_69))) ((f_X1_numberAt nums osz 6) - (f_X1_numberAt nums osz 1))) (f_X1_numberAt nums osz 8))
def f_X3_movesBlock (source : Nat → Int32) (rows : Nat → Int32) (pat : Nat → Int32) (ops : Nat → Int32) (cnt : Int32) (nums : Nat → Int32) (osz : Int32) : Int32 := (r_X3_movesBlock_69 source rows pat ops cnt nums osz 64 0 (0, rows)).1
def g_X3_movesBlock_source (source : Nat → Int32) (rows : Nat → Int32) (nums : Nat → Int32) (osz : Int32) : Nat → Int32 := g_X3_keepsSource_source source rows (f_X1_numberAt nums osz 0)
def g_X3_movesBlock_rows (source : Nat → Int32) (rows : Nat → Int32) (pat : Nat → Int32) (ops : Nat → Int32) (cnt : Int32) (nums : Nat → Int32) (osz : Int32) : Nat → Int32 := (r_X3_movesBlock_69 source rows pat ops cnt nums osz 64 0 (0, rows)).2
set_option maxRecDepth 100000 in
theorem c_X3_movesBlock {l : Launch} {G : zG} {to ts tl so sr sp sq oo on po : Nat} {source : Nat → Int32} {like : Nat → Int32} {rows : Nat → Int32} {pat : Nat → Int32} {ops : Nat → Int32} {cnt : Int32} {nums : Nat → Int32} {sign : Int32} {kix : Nat} {osz : Int32} {aw : Int32} (hc : cOk cnt) (ho : oOk osz) : Ct l G yX3_movesBlock cX3_movesBlock 12 (Option.some FieldType.int) 4 97 [.ref to, .ref oo] (wPt G to ts tl so po source like ++ (wSc G so sr sp sq rows pat ops cnt ++ wOr G oo on nums sign kix osz aw)) (pI (f_X3_movesBlock source rows pat ops cnt nums osz) (wPt G to ts tl so po (g_X3_movesBlock_source source rows nums osz) like ++ (wSc G so sr sp sq (g_X3_movesBlock_rows source rows pat ops cnt nums osz) pat ops cnt ++ wOr G oo on nums sign kix osz aw))) := by
  refine Ct.of (plainFor_of_name (by decide)) (Nat.le_of_ble_eq_true rfl) (pI.ad (ad_app ad_Pt (ad_app ad_Sc ad_Or))) (fun X C E => ?_)
  show Z X G 12 0 0 _ 0 [(0, .ref to), (1, .ref oo)] []
  refine z_aload_n (pc := 0) C 0 dX3_movesBlock_0 rfl ?_
  refine z_aload_n (pc := 1) C 1 dX3_movesBlock_1 rfl ?_
  refine z_iconst (pc := 2) (v := 0) C dX3_movesBlock_2 (by decide) ?_
  refine z_callV (pc := 3) C (c_X1_numberAt (by assumption)) [7, 8] z00 mV_X1_numberAt q_478 dX3_movesBlock_3 rfl rfl rfl 7 rfl rfl rfl rfl (Nat.le_of_ble_eq_true rfl) (by decide) (pI.stay rfl ?_)
  refine z_callV (pc := 6) C (c_X3_keepsSource) [0, 1, 2, 3, 4, 5, 6] z00 mV_X3_keepsSource q_482 dX3_movesBlock_6 rfl rfl rfl 0 rfl rfl rfl rfl (Nat.le_of_ble_eq_true rfl) (by decide) (pV.go (ws' := wPt G to ts tl so po _ like ++ (wSc G so sr sp sq rows pat ops cnt ++ wOr G oo on nums sign kix osz aw)) rfl ?_)
  refine z_aload_n (pc := 9) C 1 dX3_movesBlock_9 rfl ?_
  refine z_iconst (pc := 10) (v := 1) C dX3_movesBlock_10 (by decide) ?_
  refine z_callV (pc := 11) C (c_X1_numberAt (by assumption)) [7, 8] z00 mV_X1_numberAt q_478 dX3_movesBlock_11 rfl rfl rfl 7 rfl rfl rfl rfl (Nat.le_of_ble_eq_true rfl) (by decide) (pI.stay rfl ?_)
  refine z_istore_n (pc := 14) [(2, _), (0, _), (1, _)] C dX3_movesBlock_14 rfl (by decide) rfl ?_
  refine z_aload_n (pc := 15) C 2 dX3_movesBlock_15 rfl ?_
  refine z_iconst (pc := 16) (v := 2) C dX3_movesBlock_16 (by decide) ?_
  refine z_callV (pc := 17) C (c_X1_numberAt (by assumption)) [7, 8] z00 mV_X1_numberAt q_478 dX3_movesBlock_17 rfl rfl rfl 7 rfl rfl rfl rfl (Nat.le_of_ble_eq_true rfl) (by decide) (pI.stay rfl ?_)
  refine z_istore_n (pc := 20) [(3, _), (2, _), (0, _), (1, _)] C dX3_movesBlock_20 rfl (by decide) rfl ?_
  refine z_aload_n (pc := 21) C 3 dX3_movesBlock_21 rfl ?_
  refine z_iconst (pc := 22) (v := 4) C dX3_movesBlock_22 (by decide) ?_
  refine z_callV (pc := 23) C (c_X1_numberAt (by assumption)) [7, 8] z00 mV_X1_numberAt q_478 dX3_movesBlock_23 rfl rfl rfl 7 rfl rfl rfl rfl (Nat.le_of_ble_eq_true rfl) (by decide) (pI.stay rfl ?_)
  refine z_istore (pc := 26) [(4, _), (3, _), (2, _), (0, _), (1, _)] C dX3_movesBlock_26 (by decide) rfl ?_
  refine z_aload_n (pc := 28) C 4 dX3_movesBlock_28 rfl ?_
  refine z_iconst (pc := 29) (v := 5) C dX3_movesBlock_29 (by decide) ?_
  refine z_callV (pc := 30) C (c_X1_numberAt (by assumption)) [7, 8] z00 mV_X1_numberAt q_478 dX3_movesBlock_30 rfl rfl rfl 7 rfl rfl rfl rfl (Nat.le_of_ble_eq_true rfl) (by decide) (pI.stay rfl ?_)
  refine z_istore (pc := 33) [(5, _), (4, _), (3, _), (2, _), (0, _), (1, _)] C dX3_movesBlock_33 (by decide) rfl ?_
  refine z_aload_n (pc := 35) C 5 dX3_movesBlock_35 rfl ?_
  refine z_bipush (pc := 36) (v := 6) C dX3_movesBlock_36 (by decide) ?_
  refine z_callV (pc := 38) C (c_X1_numberAt (by assumption)) [7, 8] z00 mV_X1_numberAt q_478 dX3_movesBlock_38 rfl rfl rfl 7 rfl rfl rfl rfl (Nat.le_of_ble_eq_true rfl) (by decide) (pI.stay rfl ?_)
  refine z_istore (pc := 41) [(6, _), (5, _), (4, _), (3, _), (2, _), (0, _), (1, _)] C dX3_movesBlock_41 (by decide) rfl ?_
  refine z_aload_n (pc := 43) C 6 dX3_movesBlock_43 rfl ?_
  refine z_bipush (pc := 44) (v := 7) C dX3_movesBlock_44 (by decide) ?_
  refine z_callV (pc := 46) C (c_X1_numberAt (by assumption)) [7, 8] z00 mV_X1_numberAt q_478 dX3_movesBlock_46 rfl rfl rfl 7 rfl rfl rfl rfl (Nat.le_of_ble_eq_true rfl) (by decide) (pI.stay rfl ?_)
  refine z_istore (pc := 49) [(7, _), (6, _), (5, _), (4, _), (3, _), (2, _), (0, _), (1, _)] C dX3_movesBlock_49 (by decide) rfl ?_
  refine z_iload (pc := 51) C 1 dX3_movesBlock_51 rfl ?_
  refine z_aload_n (pc := 53) C 7 dX3_movesBlock_53 rfl ?_
  refine z_iconst (pc := 54) (v := 3) C dX3_movesBlock_54 (by decide) ?_
  refine z_callV (pc := 55) C (c_X1_numberAt (by assumption)) [7, 8] z00 mV_X1_numberAt q_478 dX3_movesBlock_55 rfl rfl rfl 7 rfl rfl rfl rfl (Nat.le_of_ble_eq_true rfl) (by decide) (pI.stay rfl ?_)
  refine z_callSN (pc := 58) C (c_X8_spanMask) [] z00 mS_X8_spanMask q_487 dX3_movesBlock_58 rfl rfl rfl rfl (Nat.le_of_ble_eq_true rfl) (by decide) (pI.stay rfl ?_)
  refine z_istore (pc := 61) [(8, _), (7, _), (6, _), (5, _), (4, _), (3, _), (2, _), (0, _), (1, _)] C dX3_movesBlock_61 (by decide) rfl ?_
  refine z_iconst (pc := 63) (v := 0) C dX3_movesBlock_63 (by decide) ?_
  refine z_istore (pc := 64) [(9, _), (8, _), (7, _), (6, _), (5, _), (4, _), (3, _), (2, _), (0, _), (1, _)] C dX3_movesBlock_64 (by decide) rfl ?_
  refine z_iconst (pc := 66) (v := 0) C dX3_movesBlock_66 (by decide) ?_
  refine z_istore (pc := 67) [(10, _), (9, _), (8, _), (7, _), (6, _), (5, _), (4, _), (3, _), (2, _), (0, _), (1, _)] C dX3_movesBlock_67 (by decide) rfl ?_
  refine z_lv (lv' := [(0, _), (1, _), (2, _), (3, _), (4, _), (5, _), (6, _), (7, _), (8, _), (9, _), (10, _)]) [9, 10, 8, 7, 6, 5, 4, 3, 2, 1, 0] rfl ?_
  have L_69 : ∀ (n_69 i_69 : Nat) (z_69 : Int32 × (Nat → Int32)), n_69 + i_69 = 64 → Z X G 12 0 0 (wPt G to ts tl so po (g_X3_keepsSource_source source rows (f_X1_numberAt nums osz 0)) like ++ (wSc G so sr sp sq ((r_X3_movesBlock_69 source rows pat ops cnt nums osz n_69 i_69 z_69).2) pat ops cnt ++ wOr G oo on nums sign kix osz aw)) 135 [(0, .ref to), (1, .ref oo), (2, .int (f_X1_numberAt nums osz 1)), (3, .int (f_X1_numberAt nums osz 2)), (4, .int (f_X1_numberAt nums osz 4)), (5, .int (f_X1_numberAt nums osz 5)), (6, .int (f_X1_numberAt nums osz 6)), (7, .int (f_X1_numberAt nums osz 7)), (8, .int (f_X8_spanMask (f_X1_numberAt nums osz 6) (f_X1_numberAt nums osz 3))), (9, .int ((r_X3_movesBlock_69 source rows pat ops cnt nums osz n_69 i_69 z_69).1))] [] → Z X G 12 0 0 (wPt G to ts tl so po (g_X3_keepsSource_source source rows (f_X1_numberAt nums osz 0)) like ++ (wSc G so sr sp sq z_69.2 pat ops cnt ++ wOr G oo on nums sign kix osz aw)) 69 [(0, .ref to), (1, .ref oo), (2, .int (f_X1_numberAt nums osz 1)), (3, .int (f_X1_numberAt nums osz 2)), (4, .int (f_X1_numberAt nums osz 4)), (5, .int (f_X1_numberAt nums osz 5)), (6, .int (f_X1_numberAt nums osz 6)), (7, .int (f_X1_numberAt nums osz 7)), (8, .int (f_X8_spanMask (f_X1_numberAt nums osz 6) (f_X1_numberAt nums osz 3))), (9, .int z_69.1), (10, .int (nI i_69))] [] := by
    intro n_69
    induction n_69 with
    | zero =>
      intro i_69 z_69 hn_69 hF_69
      obtain rfl : i_69 = 64 := by omega
      refine z_iload (pc := 69) C 10 dX3_movesBlock_69 rfl ?_
      refine z_iload (pc := 71) C 4 dX3_movesBlock_71 rfl ?_
      refine z_icmp_ge (pc := 73) 135 C dX3_movesBlock_73 (by decide) (fun c_73 => ?_) (fun c_73 => ?_)
      · skip
        refine z_lv (lv' := [(0, _), (1, _), (2, _), (3, _), (4, _), (5, _), (6, _), (7, _), (8, _), (9, _)]) [0, 1, 2, 3, 4, 5, 6, 7, 8, 9] rfl ?_
        simp only [r_X3_movesBlock_69, if_pos c_73] at hF_69
        exact hF_69
      · skip
        refine z_iload (pc := 76) C 10 dX3_movesBlock_76 rfl ?_
        refine z_bipush (pc := 78) (v := 64) C dX3_movesBlock_78 (by decide) ?_
        refine z_icmp_ge (pc := 80) 135 C dX3_movesBlock_80 (by decide) (fun c_80 => ?_) (fun c_80 => ?_)
        · skip
          refine z_lv (lv' := [(0, _), (1, _), (2, _), (3, _), (4, _), (5, _), (6, _), (7, _), (8, _), (9, _)]) [0, 1, 2, 3, 4, 5, 6, 7, 8, 9] rfl ?_
          simp only [r_X3_movesBlock_69, if_neg c_73] at hF_69
          exact hF_69
        · skip
          exact absurd (nI_le (Nat.le_refl 64) (by decide)) c_80
    | succ n_69 ih_69 =>
      intro i_69 z_69 hn_69 hF_69
      have hi_69 : i_69 < 64 := by omega
      refine z_iload (pc := 69) C 10 dX3_movesBlock_69 rfl ?_
      refine z_iload (pc := 71) C 4 dX3_movesBlock_71 rfl ?_
      refine z_icmp_ge (pc := 73) 135 C dX3_movesBlock_73 (by decide) (fun c_73 => ?_) (fun c_73 => ?_)
      · skip
        refine z_lv (lv' := [(0, _), (1, _), (2, _), (3, _), (4, _), (5, _), (6, _), (7, _), (8, _), (9, _)]) [0, 1, 2, 3, 4, 5, 6, 7, 8, 9] rfl ?_
        simp only [r_X3_movesBlock_69, if_pos c_73] at hF_69
        exact hF_69
      · skip
        refine z_iload (pc := 76) C 10 dX3_movesBlock_76 rfl ?_
        refine z_bipush (pc := 78) (v := 64) C dX3_movesBlock_78 (by decide) ?_
        refine z_icmp_ge (pc := 80) 135 C dX3_movesBlock_80 (by decide) (fun c_80 => ?_) (fun c_80 => ?_)
        · skip
          exact absurd c_80 (nI_ge (b := 64) (by omega) (by decide))
        · skip
          refine z_aload_n (pc := 83) C 0 dX3_movesBlock_83 rfl ?_
          refine z_iload_n (pc := 84) C 3 dX3_movesBlock_84 rfl ?_
          refine z_iload (pc := 85) C 10 dX3_movesBlock_85 rfl ?_
          refine z_iadd (pc := 87) C dX3_movesBlock_87 ?_
          refine z_callV (pc := 88) C (c_X3_sourceAt) [0, 1, 2, 3, 4, 5, 6] z00 mV_X3_sourceAt q_488 dX3_movesBlock_88 rfl rfl rfl 0 rfl rfl rfl rfl (Nat.le_of_ble_eq_true rfl) (by decide) (pI.stay rfl ?_)
          refine z_iload (pc := 91) C 6 dX3_movesBlock_91 rfl ?_
          refine z_iload_n (pc := 93) C 2 dX3_movesBlock_93 rfl ?_
          refine z_isub (pc := 94) C dX3_movesBlock_94 ?_
          refine z_callSN (pc := 95) C (c_X8_shifted) [] z00 mS_X8_shifted q_493 dX3_movesBlock_95 rfl rfl rfl rfl (Nat.le_of_ble_eq_true rfl) (by decide) (pI.stay rfl ?_)
          refine z_istore (pc := 98) [(11, _), (0, _), (1, _), (2, _), (3, _), (4, _), (5, _), (6, _), (7, _), (8, _), (9, _), (10, _)] C dX3_movesBlock_98 (by decide) rfl ?_
          refine z_iload (pc := 100) C 10 dX3_movesBlock_100 rfl ?_
          refine z_aload_n (pc := 102) C 1 dX3_movesBlock_102 rfl ?_
          refine z_get (pc := 103) C 0 0 dX3_movesBlock_103 rfl rfl i_X3 (by decide) q_162 rfl ?_
          refine z_iload (pc := 106) C 6 dX3_movesBlock_106 rfl ?_
          refine z_iload (pc := 108) C 8 dX3_movesBlock_108 rfl ?_
          refine z_iload (pc := 110) C 11 dX3_movesBlock_110 rfl ?_
          refine z_iadd (pc := 112) C dX3_movesBlock_112 ?_
          refine z_iload (pc := 113) C 9 dX3_movesBlock_113 rfl ?_
          refine z_iload (pc := 115) C 0 dX3_movesBlock_115 rfl ?_
          refine z_aload_n (pc := 117) C 2 dX3_movesBlock_117 rfl ?_
          refine z_bipush (pc := 118) (v := 8) C dX3_movesBlock_118 (by decide) ?_
          refine z_callV (pc := 120) C (c_X1_numberAt (by assumption)) [7, 8] z00 mV_X1_numberAt q_478 dX3_movesBlock_120 rfl rfl rfl 7 rfl rfl rfl rfl (Nat.le_of_ble_eq_true rfl) (by decide) (pI.stay rfl ?_)
          refine z_callV (pc := 123) C (c_X6_joinsRow (by assumption)) [3, 4, 5, 6] z00 mV_X6_joinsRow q_494 dX3_movesBlock_123 rfl rfl rfl 3 rfl rfl rfl rfl (Nat.le_of_ble_eq_true rfl) (by decide) (pI.go (ws' := wPt G to ts tl so po _ like ++ (wSc G so sr sp sq _ pat ops cnt ++ wOr G oo on nums sign kix osz aw)) rfl ?_)
          refine z_iadd (pc := 126) C dX3_movesBlock_126 ?_
          refine z_istore (pc := 127) [(9, _), (11, _), (0, _), (1, _), (2, _), (3, _), (4, _), (5, _), (6, _), (7, _), (8, _), (10, _)] C dX3_movesBlock_127 (by decide) rfl ?_
          refine z_iinc (pc := 129) (v := nI (i_69 + 1)) [(10, _), (9, _), (11, _), (0, _), (1, _), (2, _), (3, _), (4, _), (5, _), (6, _), (7, _), (8, _)] C 11 dX3_movesBlock_129 rfl ((nI_succ _).symm) (by decide) rfl ?_
          refine z_goto (pc := 132) 69 C dX3_movesBlock_132 (by decide) ?_
          refine z_lv (lv' := [(0, _), (1, _), (2, _), (3, _), (4, _), (5, _), (6, _), (7, _), (8, _), (9, _), (10, _)]) [3, 4, 5, 6, 7, 8, 9, 10, 11, 1, 0] rfl ?_
          have h9 := ih_69 (i_69 + 1) (z_69.1 + (f_X6_joinsRow z_69.2 pat ops cnt (f_X1_numberAt nums osz 5) ((f_X1_numberAt nums osz 7) + (nI i_69)) (f_X8_spanMask (f_X1_numberAt nums osz 6) (f_X1_numberAt nums osz 3)) (f_X8_shifted (f_X3_sourceAt (g_X3_keepsSource_source source rows (f_X1_numberAt nums osz 0)) ((f_X1_numberAt nums osz 2) + (nI i_69))) ((f_X1_numberAt nums osz 6) - (f_X1_numberAt nums osz 1))) (f_X1_numberAt nums osz 8)), g_X6_joinsRow_rows z_69.2 pat ops cnt (f_X1_numberAt nums osz 5) ((f_X1_numberAt nums osz 7) + (nI i_69)) (f_X8_spanMask (f_X1_numberAt nums osz 6) (f_X1_numberAt nums osz 3)) (f_X8_shifted (f_X3_sourceAt (g_X3_keepsSource_source source rows (f_X1_numberAt nums osz 0)) ((f_X1_numberAt nums osz 2) + (nI i_69))) ((f_X1_numberAt nums osz 6) - (f_X1_numberAt nums osz 1))) (f_X1_numberAt nums osz 8)) (by omega) (by simp only [r_X3_movesBlock_69, if_neg c_73] at hF_69; exact hF_69)
          dsimp only at h9
          exact h9
  have h9 := L_69 64 0 (0, rows) (by omega)
  dsimp only at h9
  refine h9 ?_
  clear h9
  show Z X G 12 0 0 (wPt G to ts tl so po (g_X3_keepsSource_source source rows (f_X1_numberAt nums osz 0)) like ++ (wSc G so sr sp sq ((r_X3_movesBlock_69 source rows pat ops cnt nums osz 64 0 (0, rows)).2) pat ops cnt ++ wOr G oo on nums sign kix osz aw)) 135 [(0, .ref to), (1, .ref oo), (2, .int (f_X1_numberAt nums osz 1)), (3, .int (f_X1_numberAt nums osz 2)), (4, .int (f_X1_numberAt nums osz 4)), (5, .int (f_X1_numberAt nums osz 5)), (6, .int (f_X1_numberAt nums osz 6)), (7, .int (f_X1_numberAt nums osz 7)), (8, .int (f_X8_spanMask (f_X1_numberAt nums osz 6) (f_X1_numberAt nums osz 3))), (9, .int ((r_X3_movesBlock_69 source rows pat ops cnt nums osz 64 0 (0, rows)).1))] []
  refine z_iload (pc := 135) C 9 dX3_movesBlock_135 rfl ?_
  exact z_iret (pc := 137) C E dX3_movesBlock_137 (pI.mk rfl rfl)

def r_X3_fillsRectangle_40 (pat : Nat → Int32) (ops : Nat → Int32) (cnt : Int32) (nums : Nat → Int32) (osz : Int32) : Nat → Nat → (Int32 × (Nat → Int32)) → Int32 × (Nat → Int32)
  | 0, i_40, z_40 => (z_40.1, z_40.2)
  | n_40 + 1, i_40, z_40 => if (f_X1_numberAt nums osz 4) ≤ (nI i_40) then (z_40.1, z_40.2) else r_X3_fillsRectangle_40 pat ops cnt nums osz n_40 (i_40 + 1) (z_40.1 + (f_X6_joinsRow z_40.2 pat ops cnt (f_X1_numberAt nums osz 0) ((f_X1_numberAt nums osz 2) + (nI i_40)) (f_X8_spanMask (f_X1_numberAt nums osz 1) (f_X1_numberAt nums osz 3)) (-1) (f_X1_numberAt nums osz 5)), g_X6_joinsRow_rows z_40.2 pat ops cnt (f_X1_numberAt nums osz 0) ((f_X1_numberAt nums osz 2) + (nI i_40)) (f_X8_spanMask (f_X1_numberAt nums osz 1) (f_X1_numberAt nums osz 3)) (-1) (f_X1_numberAt nums osz 5))
def f_X3_fillsRectangle (rows : Nat → Int32) (pat : Nat → Int32) (ops : Nat → Int32) (cnt : Int32) (nums : Nat → Int32) (osz : Int32) : Int32 := (r_X3_fillsRectangle_40 pat ops cnt nums osz 64 0 (0, rows)).1
def g_X3_fillsRectangle_rows (rows : Nat → Int32) (pat : Nat → Int32) (ops : Nat → Int32) (cnt : Int32) (nums : Nat → Int32) (osz : Int32) : Nat → Int32 := (r_X3_fillsRectangle_40 pat ops cnt nums osz 64 0 (0, rows)).2
set_option maxRecDepth 100000 in
theorem c_X3_fillsRectangle {l : Launch} {G : zG} {to ts tl so sr sp sq oo on po : Nat} {source : Nat → Int32} {like : Nat → Int32} {rows : Nat → Int32} {pat : Nat → Int32} {ops : Nat → Int32} {cnt : Int32} {nums : Nat → Int32} {sign : Int32} {kix : Nat} {osz : Int32} {aw : Int32} (hc : cOk cnt) (ho : oOk osz) : Ct l G yX3_fillsRectangle cX3_fillsRectangle 8 (Option.some FieldType.int) 4 97 [.ref to, .ref oo] (wPt G to ts tl so po source like ++ (wSc G so sr sp sq rows pat ops cnt ++ wOr G oo on nums sign kix osz aw)) (pI (f_X3_fillsRectangle rows pat ops cnt nums osz) (wPt G to ts tl so po source like ++ (wSc G so sr sp sq (g_X3_fillsRectangle_rows rows pat ops cnt nums osz) pat ops cnt ++ wOr G oo on nums sign kix osz aw))) := by
  refine Ct.of (plainFor_of_name (by decide)) (Nat.le_of_ble_eq_true rfl) (pI.ad (ad_app ad_Pt (ad_app ad_Sc ad_Or))) (fun X C E => ?_)
  show Z X G 8 0 0 _ 0 [(0, .ref to), (1, .ref oo)] []
  refine z_aload_n (pc := 0) C 1 dX3_fillsRectangle_0 rfl ?_
  refine z_iconst (pc := 1) (v := 0) C dX3_fillsRectangle_1 (by decide) ?_
  refine z_callV (pc := 2) C (c_X1_numberAt (by assumption)) [7, 8] z00 mV_X1_numberAt q_478 dX3_fillsRectangle_2 rfl rfl rfl 7 rfl rfl rfl rfl (Nat.le_of_ble_eq_true rfl) (by decide) (pI.stay rfl ?_)
  refine z_istore_n (pc := 5) [(2, _), (0, _), (1, _)] C dX3_fillsRectangle_5 rfl (by decide) rfl ?_
  refine z_aload_n (pc := 6) C 2 dX3_fillsRectangle_6 rfl ?_
  refine z_iconst (pc := 7) (v := 2) C dX3_fillsRectangle_7 (by decide) ?_
  refine z_callV (pc := 8) C (c_X1_numberAt (by assumption)) [7, 8] z00 mV_X1_numberAt q_478 dX3_fillsRectangle_8 rfl rfl rfl 7 rfl rfl rfl rfl (Nat.le_of_ble_eq_true rfl) (by decide) (pI.stay rfl ?_)
  refine z_istore_n (pc := 11) [(3, _), (2, _), (0, _), (1, _)] C dX3_fillsRectangle_11 rfl (by decide) rfl ?_
  refine z_aload_n (pc := 12) C 3 dX3_fillsRectangle_12 rfl ?_
  refine z_iconst (pc := 13) (v := 4) C dX3_fillsRectangle_13 (by decide) ?_
  refine z_callV (pc := 14) C (c_X1_numberAt (by assumption)) [7, 8] z00 mV_X1_numberAt q_478 dX3_fillsRectangle_14 rfl rfl rfl 7 rfl rfl rfl rfl (Nat.le_of_ble_eq_true rfl) (by decide) (pI.stay rfl ?_)
  refine z_istore (pc := 17) [(4, _), (3, _), (2, _), (0, _), (1, _)] C dX3_fillsRectangle_17 (by decide) rfl ?_
  refine z_aload_n (pc := 19) C 4 dX3_fillsRectangle_19 rfl ?_
  refine z_iconst (pc := 20) (v := 1) C dX3_fillsRectangle_20 (by decide) ?_
  refine z_callV (pc := 21) C (c_X1_numberAt (by assumption)) [7, 8] z00 mV_X1_numberAt q_478 dX3_fillsRectangle_21 rfl rfl rfl 7 rfl rfl rfl rfl (Nat.le_of_ble_eq_true rfl) (by decide) (pI.stay rfl ?_)
  refine z_aload_n (pc := 24) C 4 dX3_fillsRectangle_24 rfl ?_
  refine z_iconst (pc := 25) (v := 3) C dX3_fillsRectangle_25 (by decide) ?_
  refine z_callV (pc := 26) C (c_X1_numberAt (by assumption)) [7, 8] z00 mV_X1_numberAt q_478 dX3_fillsRectangle_26 rfl rfl rfl 7 rfl rfl rfl rfl (Nat.le_of_ble_eq_true rfl) (by decide) (pI.stay rfl ?_)
  refine z_callSN (pc := 29) C (c_X8_spanMask) [] z00 mS_X8_spanMask q_487 dX3_fillsRectangle_29 rfl rfl rfl rfl (Nat.le_of_ble_eq_true rfl) (by decide) (pI.stay rfl ?_)
  refine z_istore (pc := 32) [(5, _), (4, _), (3, _), (2, _), (0, _), (1, _)] C dX3_fillsRectangle_32 (by decide) rfl ?_
  refine z_iconst (pc := 34) (v := 0) C dX3_fillsRectangle_34 (by decide) ?_
  refine z_istore (pc := 35) [(6, _), (5, _), (4, _), (3, _), (2, _), (0, _), (1, _)] C dX3_fillsRectangle_35 (by decide) rfl ?_
  refine z_iconst (pc := 37) (v := 0) C dX3_fillsRectangle_37 (by decide) ?_
  refine z_istore (pc := 38) [(7, _), (6, _), (5, _), (4, _), (3, _), (2, _), (0, _), (1, _)] C dX3_fillsRectangle_38 (by decide) rfl ?_
  refine z_lv (lv' := [(0, _), (1, _), (2, _), (3, _), (4, _), (5, _), (6, _), (7, _)]) [6, 7, 5, 4, 3, 2, 1, 0] rfl ?_
  have L_40 : ∀ (n_40 i_40 : Nat) (z_40 : Int32 × (Nat → Int32)), n_40 + i_40 = 64 → Z X G 8 0 0 (wPt G to ts tl so po source like ++ (wSc G so sr sp sq ((r_X3_fillsRectangle_40 pat ops cnt nums osz n_40 i_40 z_40).2) pat ops cnt ++ wOr G oo on nums sign kix osz aw)) 85 [(0, .ref to), (1, .ref oo), (2, .int (f_X1_numberAt nums osz 0)), (3, .int (f_X1_numberAt nums osz 2)), (4, .int (f_X1_numberAt nums osz 4)), (5, .int (f_X8_spanMask (f_X1_numberAt nums osz 1) (f_X1_numberAt nums osz 3))), (6, .int ((r_X3_fillsRectangle_40 pat ops cnt nums osz n_40 i_40 z_40).1))] [] → Z X G 8 0 0 (wPt G to ts tl so po source like ++ (wSc G so sr sp sq z_40.2 pat ops cnt ++ wOr G oo on nums sign kix osz aw)) 40 [(0, .ref to), (1, .ref oo), (2, .int (f_X1_numberAt nums osz 0)), (3, .int (f_X1_numberAt nums osz 2)), (4, .int (f_X1_numberAt nums osz 4)), (5, .int (f_X8_spanMask (f_X1_numberAt nums osz 1) (f_X1_numberAt nums osz 3))), (6, .int z_40.1), (7, .int (nI i_40))] [] := by
    intro n_40
    induction n_40 with
    | zero =>
      intro i_40 z_40 hn_40 hF_40
      obtain rfl : i_40 = 64 := by omega
      refine z_iload (pc := 40) C 7 dX3_fillsRectangle_40 rfl ?_
      refine z_iload (pc := 42) C 4 dX3_fillsRectangle_42 rfl ?_
      refine z_icmp_ge (pc := 44) 85 C dX3_fillsRectangle_44 (by decide) (fun c_44 => ?_) (fun c_44 => ?_)
      · skip
        refine z_lv (lv' := [(0, _), (1, _), (2, _), (3, _), (4, _), (5, _), (6, _)]) [0, 1, 2, 3, 4, 5, 6] rfl ?_
        simp only [r_X3_fillsRectangle_40, if_pos c_44] at hF_40
        exact hF_40
      · skip
        refine z_iload (pc := 47) C 7 dX3_fillsRectangle_47 rfl ?_
        refine z_bipush (pc := 49) (v := 64) C dX3_fillsRectangle_49 (by decide) ?_
        refine z_icmp_ge (pc := 51) 85 C dX3_fillsRectangle_51 (by decide) (fun c_51 => ?_) (fun c_51 => ?_)
        · skip
          refine z_lv (lv' := [(0, _), (1, _), (2, _), (3, _), (4, _), (5, _), (6, _)]) [0, 1, 2, 3, 4, 5, 6] rfl ?_
          simp only [r_X3_fillsRectangle_40, if_neg c_44] at hF_40
          exact hF_40
        · skip
          exact absurd (nI_le (Nat.le_refl 64) (by decide)) c_51
    | succ n_40 ih_40 =>
      intro i_40 z_40 hn_40 hF_40
      have hi_40 : i_40 < 64 := by omega
      refine z_iload (pc := 40) C 7 dX3_fillsRectangle_40 rfl ?_
      refine z_iload (pc := 42) C 4 dX3_fillsRectangle_42 rfl ?_
      refine z_icmp_ge (pc := 44) 85 C dX3_fillsRectangle_44 (by decide) (fun c_44 => ?_) (fun c_44 => ?_)
      · skip
        refine z_lv (lv' := [(0, _), (1, _), (2, _), (3, _), (4, _), (5, _), (6, _)]) [0, 1, 2, 3, 4, 5, 6] rfl ?_
        simp only [r_X3_fillsRectangle_40, if_pos c_44] at hF_40
        exact hF_40
      · skip
        refine z_iload (pc := 47) C 7 dX3_fillsRectangle_47 rfl ?_
        refine z_bipush (pc := 49) (v := 64) C dX3_fillsRectangle_49 (by decide) ?_
        refine z_icmp_ge (pc := 51) 85 C dX3_fillsRectangle_51 (by decide) (fun c_51 => ?_) (fun c_51 => ?_)
        · skip
          exact absurd c_51 (nI_ge (b := 64) (by omega) (by decide))
        · skip
          refine z_iload (pc := 54) C 6 dX3_fillsRectangle_54 rfl ?_
          refine z_aload_n (pc := 56) C 0 dX3_fillsRectangle_56 rfl ?_
          refine z_get (pc := 57) C 0 0 dX3_fillsRectangle_57 rfl rfl i_X3 (by decide) q_162 rfl ?_
          refine z_iload_n (pc := 60) C 2 dX3_fillsRectangle_60 rfl ?_
          refine z_iload_n (pc := 61) C 3 dX3_fillsRectangle_61 rfl ?_
          refine z_iload (pc := 62) C 7 dX3_fillsRectangle_62 rfl ?_
          refine z_iadd (pc := 64) C dX3_fillsRectangle_64 ?_
          refine z_iload (pc := 65) C 5 dX3_fillsRectangle_65 rfl ?_
          refine z_iconst (pc := 67) (v := (-1)) C dX3_fillsRectangle_67 (by decide) ?_
          refine z_aload_n (pc := 68) C 1 dX3_fillsRectangle_68 rfl ?_
          refine z_iconst (pc := 69) (v := 5) C dX3_fillsRectangle_69 (by decide) ?_
          refine z_callV (pc := 70) C (c_X1_numberAt (by assumption)) [7, 8] z00 mV_X1_numberAt q_478 dX3_fillsRectangle_70 rfl rfl rfl 7 rfl rfl rfl rfl (Nat.le_of_ble_eq_true rfl) (by decide) (pI.stay rfl ?_)
          refine z_callV (pc := 73) C (c_X6_joinsRow (by assumption)) [3, 4, 5, 6] z00 mV_X6_joinsRow q_494 dX3_fillsRectangle_73 rfl rfl rfl 3 rfl rfl rfl rfl (Nat.le_of_ble_eq_true rfl) (by decide) (pI.go (ws' := wPt G to ts tl so po source like ++ (wSc G so sr sp sq _ pat ops cnt ++ wOr G oo on nums sign kix osz aw)) rfl ?_)
          refine z_iadd (pc := 76) C dX3_fillsRectangle_76 ?_
          refine z_istore (pc := 77) [(6, _), (0, _), (1, _), (2, _), (3, _), (4, _), (5, _), (7, _)] C dX3_fillsRectangle_77 (by decide) rfl ?_
          refine z_iinc (pc := 79) (v := nI (i_40 + 1)) [(7, _), (6, _), (0, _), (1, _), (2, _), (3, _), (4, _), (5, _)] C 7 dX3_fillsRectangle_79 rfl ((nI_succ _).symm) (by decide) rfl ?_
          refine z_goto (pc := 82) 40 C dX3_fillsRectangle_82 (by decide) ?_
          refine z_lv (lv' := [(0, _), (1, _), (2, _), (3, _), (4, _), (5, _), (6, _), (7, _)]) [2, 3, 4, 5, 6, 7, 1, 0] rfl ?_
          have h9 := ih_40 (i_40 + 1) (z_40.1 + (f_X6_joinsRow z_40.2 pat ops cnt (f_X1_numberAt nums osz 0) ((f_X1_numberAt nums osz 2) + (nI i_40)) (f_X8_spanMask (f_X1_numberAt nums osz 1) (f_X1_numberAt nums osz 3)) (-1) (f_X1_numberAt nums osz 5)), g_X6_joinsRow_rows z_40.2 pat ops cnt (f_X1_numberAt nums osz 0) ((f_X1_numberAt nums osz 2) + (nI i_40)) (f_X8_spanMask (f_X1_numberAt nums osz 1) (f_X1_numberAt nums osz 3)) (-1) (f_X1_numberAt nums osz 5)) (by omega) (by simp only [r_X3_fillsRectangle_40, if_neg c_44] at hF_40; exact hF_40)
          dsimp only at h9
          exact h9
  have h9 := L_40 64 0 (0, rows) (by omega)
  dsimp only at h9
  refine h9 ?_
  clear h9
  show Z X G 8 0 0 (wPt G to ts tl so po source like ++ (wSc G so sr sp sq ((r_X3_fillsRectangle_40 pat ops cnt nums osz 64 0 (0, rows)).2) pat ops cnt ++ wOr G oo on nums sign kix osz aw)) 85 [(0, .ref to), (1, .ref oo), (2, .int (f_X1_numberAt nums osz 0)), (3, .int (f_X1_numberAt nums osz 2)), (4, .int (f_X1_numberAt nums osz 4)), (5, .int (f_X8_spanMask (f_X1_numberAt nums osz 1) (f_X1_numberAt nums osz 3))), (6, .int ((r_X3_fillsRectangle_40 pat ops cnt nums osz 64 0 (0, rows)).1))] []
  refine z_iload (pc := 85) C 6 dX3_fillsRectangle_85 rfl ?_
  exact z_iret (pc := 87) C E dX3_fillsRectangle_87 (pI.mk rfl rfl)

def b_X3_writesLetter_32 (pat : Nat → Int32) (ops : Nat → Int32) (cnt : Int32) (nums : Nat → Int32) (osz : Int32) (i_32 : Nat) (z_32 : Int32 × (Nat → Int32)) : Int32 × (Nat → Int32) := (z_32.1 + (f_X6_joinsRow z_32.2 pat ops cnt (f_X1_numberAt nums osz 0) ((f_X1_numberAt nums osz 3) + (nI i_32)) (f_X8_spanMask (f_X1_numberAt nums osz 2) 4) (f_X8_shifted (f_X3_letterRow (f_X1_numberAt nums osz 1) (nI i_32)) (f_X1_numberAt nums osz 2)) (f_X1_numberAt nums osz 4)), g_X6_joinsRow_rows z_32.2 pat ops cnt (f_X1_numberAt nums osz 0) ((f_X1_numberAt nums osz 3) + (nI i_32)) (f_X8_spanMask (f_X1_numberAt nums osz 2) 4) (f_X8_shifted (f_X3_letterRow (f_X1_numberAt nums osz 1) (nI i_32)) (f_X1_numberAt nums osz 2)) (f_X1_numberAt nums osz 4))
def s_X3_writesLetter_32 (rows : Nat → Int32) (pat : Nat → Int32) (ops : Nat → Int32) (cnt : Int32) (nums : Nat → Int32) (osz : Int32) : Nat → Int32 × (Nat → Int32)
  | 0 => (0, rows)
  | i_32 + 1 => b_X3_writesLetter_32 pat ops cnt nums osz i_32 (s_X3_writesLetter_32 rows pat ops cnt nums osz i_32)
def f_X3_writesLetter (rows : Nat → Int32) (pat : Nat → Int32) (ops : Nat → Int32) (cnt : Int32) (nums : Nat → Int32) (osz : Int32) : Int32 := (s_X3_writesLetter_32 rows pat ops cnt nums osz 4).1
def g_X3_writesLetter_rows (rows : Nat → Int32) (pat : Nat → Int32) (ops : Nat → Int32) (cnt : Int32) (nums : Nat → Int32) (osz : Int32) : Nat → Int32 := (s_X3_writesLetter_32 rows pat ops cnt nums osz 4).2
set_option maxRecDepth 100000 in
theorem c_X3_writesLetter {l : Launch} {G : zG} {to ts tl so sr sp sq oo on po : Nat} {source : Nat → Int32} {like : Nat → Int32} {rows : Nat → Int32} {pat : Nat → Int32} {ops : Nat → Int32} {cnt : Int32} {nums : Nat → Int32} {sign : Int32} {kix : Nat} {osz : Int32} {aw : Int32} (hc : cOk cnt) (ho : oOk osz) : Ct l G yX3_writesLetter cX3_writesLetter 9 (Option.some FieldType.int) 4 97 [.ref to, .ref oo] (wPt G to ts tl so po source like ++ (wSc G so sr sp sq rows pat ops cnt ++ wOr G oo on nums sign kix osz aw)) (pI (f_X3_writesLetter rows pat ops cnt nums osz) (wPt G to ts tl so po source like ++ (wSc G so sr sp sq (g_X3_writesLetter_rows rows pat ops cnt nums osz) pat ops cnt ++ wOr G oo on nums sign kix osz aw))) := by
  refine Ct.of (plainFor_of_name (by decide)) (Nat.le_of_ble_eq_true rfl) (pI.ad (ad_app ad_Pt (ad_app ad_Sc ad_Or))) (fun X C E => ?_)
  show Z X G 9 0 0 _ 0 [(0, .ref to), (1, .ref oo)] []
  refine z_aload_n (pc := 0) C 1 dX3_writesLetter_0 rfl ?_
  refine z_iconst (pc := 1) (v := 1) C dX3_writesLetter_1 (by decide) ?_
  refine z_callV (pc := 2) C (c_X1_numberAt (by assumption)) [7, 8] z00 mV_X1_numberAt q_478 dX3_writesLetter_2 rfl rfl rfl 7 rfl rfl rfl rfl (Nat.le_of_ble_eq_true rfl) (by decide) (pI.stay rfl ?_)
  refine z_istore_n (pc := 5) [(2, _), (0, _), (1, _)] C dX3_writesLetter_5 rfl (by decide) rfl ?_
  refine z_aload_n (pc := 6) C 2 dX3_writesLetter_6 rfl ?_
  refine z_iconst (pc := 7) (v := 2) C dX3_writesLetter_7 (by decide) ?_
  refine z_callV (pc := 8) C (c_X1_numberAt (by assumption)) [7, 8] z00 mV_X1_numberAt q_478 dX3_writesLetter_8 rfl rfl rfl 7 rfl rfl rfl rfl (Nat.le_of_ble_eq_true rfl) (by decide) (pI.stay rfl ?_)
  refine z_istore_n (pc := 11) [(3, _), (2, _), (0, _), (1, _)] C dX3_writesLetter_11 rfl (by decide) rfl ?_
  refine z_aload_n (pc := 12) C 3 dX3_writesLetter_12 rfl ?_
  refine z_iconst (pc := 13) (v := 3) C dX3_writesLetter_13 (by decide) ?_
  refine z_callV (pc := 14) C (c_X1_numberAt (by assumption)) [7, 8] z00 mV_X1_numberAt q_478 dX3_writesLetter_14 rfl rfl rfl 7 rfl rfl rfl rfl (Nat.le_of_ble_eq_true rfl) (by decide) (pI.stay rfl ?_)
  refine z_istore (pc := 17) [(4, _), (3, _), (2, _), (0, _), (1, _)] C dX3_writesLetter_17 (by decide) rfl ?_
  refine z_iload_n (pc := 19) C 1 dX3_writesLetter_19 rfl ?_
  refine z_iconst (pc := 20) (v := 4) C dX3_writesLetter_20 (by decide) ?_
  refine z_callSN (pc := 21) C (c_X8_spanMask) [] z00 mS_X8_spanMask q_487 dX3_writesLetter_21 rfl rfl rfl rfl (Nat.le_of_ble_eq_true rfl) (by decide) (pI.stay rfl ?_)
  refine z_istore (pc := 24) [(5, _), (4, _), (3, _), (2, _), (0, _), (1, _)] C dX3_writesLetter_24 (by decide) rfl ?_
  refine z_iconst (pc := 26) (v := 0) C dX3_writesLetter_26 (by decide) ?_
  refine z_istore (pc := 27) [(6, _), (5, _), (4, _), (3, _), (2, _), (0, _), (1, _)] C dX3_writesLetter_27 (by decide) rfl ?_
  refine z_iconst (pc := 29) (v := 0) C dX3_writesLetter_29 (by decide) ?_
  refine z_istore (pc := 30) [(7, _), (6, _), (5, _), (4, _), (3, _), (2, _), (0, _), (1, _)] C dX3_writesLetter_30 (by decide) rfl ?_
  refine z_lv (lv' := [(0, _), (1, _), (2, _), (3, _), (4, _), (5, _), (6, _), (7, _)]) [6, 7, 5, 4, 3, 2, 1, 0] rfl ?_
  refine z_loop (pc := 32) (e := 4) (fun i_32 => wPt G to ts tl so po source like ++ (wSc G so sr sp sq ((s_X3_writesLetter_32 rows pat ops cnt nums osz i_32).2) pat ops cnt ++ wOr G oo on nums sign kix osz aw)) (fun i_32 => [(0, .ref to), (1, .ref oo), (2, .int (f_X1_numberAt nums osz 1)), (3, .int (f_X1_numberAt nums osz 2)), (4, .int (f_X1_numberAt nums osz 3)), (5, .int (f_X8_spanMask (f_X1_numberAt nums osz 2) 4)), (6, .int ((s_X3_writesLetter_32 rows pat ops cnt nums osz i_32).1)), (7, .int (nI i_32))]) [] (fun i_32 hi_32 ih_32 => ?_) ?_ 0 (Nat.zero_le _)
  · show Z X G 9 0 0 (wPt G to ts tl so po source like ++ (wSc G so sr sp sq ((s_X3_writesLetter_32 rows pat ops cnt nums osz i_32).2) pat ops cnt ++ wOr G oo on nums sign kix osz aw)) 32 [(0, .ref to), (1, .ref oo), (2, .int (f_X1_numberAt nums osz 1)), (3, .int (f_X1_numberAt nums osz 2)), (4, .int (f_X1_numberAt nums osz 3)), (5, .int (f_X8_spanMask (f_X1_numberAt nums osz 2) 4)), (6, .int ((s_X3_writesLetter_32 rows pat ops cnt nums osz i_32).1)), (7, .int (nI i_32))] []
    generalize hz_32 : s_X3_writesLetter_32 rows pat ops cnt nums osz i_32 = z_32
    refine z_iload (pc := 32) C 7 dX3_writesLetter_32 rfl ?_
    refine z_iconst (pc := 34) (v := 4) C dX3_writesLetter_34 (by decide) ?_
    refine z_icmp_ge (pc := 35) 87 C dX3_writesLetter_35 (by decide) (fun c_35 => ?_) (fun c_35 => ?_)
    · skip
      exact absurd c_35 (nI_ge (b := 4) (by omega) (by decide))
    · skip
      refine z_iload_n (pc := 38) C 2 dX3_writesLetter_38 rfl ?_
      refine z_iload (pc := 39) C 7 dX3_writesLetter_39 rfl ?_
      refine z_callS (pc := 41) C (c_X3_letterRow) [] z00 mS_X3_letterRow q_562 dX3_writesLetter_41 rfl rfl rfl rfl (Nat.le_of_ble_eq_true rfl) (by decide) (pI.stay rfl ?_)
      refine z_iload_n (pc := 44) C 3 dX3_writesLetter_44 rfl ?_
      refine z_callSN (pc := 45) C (c_X8_shifted) [] z00 mS_X8_shifted q_493 dX3_writesLetter_45 rfl rfl rfl rfl (Nat.le_of_ble_eq_true rfl) (by decide) (pI.stay rfl ?_)
      refine z_istore (pc := 48) [(8, _), (0, _), (1, _), (2, _), (3, _), (4, _), (5, _), (6, _), (7, _)] C dX3_writesLetter_48 (by decide) rfl ?_
      refine z_iload (pc := 50) C 7 dX3_writesLetter_50 rfl ?_
      refine z_aload_n (pc := 52) C 1 dX3_writesLetter_52 rfl ?_
      refine z_get (pc := 53) C 0 0 dX3_writesLetter_53 rfl rfl i_X3 (by decide) q_162 rfl ?_
      refine z_aload_n (pc := 56) C 2 dX3_writesLetter_56 rfl ?_
      refine z_iconst (pc := 57) (v := 0) C dX3_writesLetter_57 (by decide) ?_
      refine z_callV (pc := 58) C (c_X1_numberAt (by assumption)) [7, 8] z00 mV_X1_numberAt q_478 dX3_writesLetter_58 rfl rfl rfl 7 rfl rfl rfl rfl (Nat.le_of_ble_eq_true rfl) (by decide) (pI.stay rfl ?_)
      refine z_iload (pc := 61) C 5 dX3_writesLetter_61 rfl ?_
      refine z_iload (pc := 63) C 8 dX3_writesLetter_63 rfl ?_
      refine z_iadd (pc := 65) C dX3_writesLetter_65 ?_
      refine z_iload (pc := 66) C 6 dX3_writesLetter_66 rfl ?_
      refine z_iload (pc := 68) C 0 dX3_writesLetter_68 rfl ?_
      refine z_aload_n (pc := 70) C 2 dX3_writesLetter_70 rfl ?_
      refine z_iconst (pc := 71) (v := 4) C dX3_writesLetter_71 (by decide) ?_
      refine z_callV (pc := 72) C (c_X1_numberAt (by assumption)) [7, 8] z00 mV_X1_numberAt q_478 dX3_writesLetter_72 rfl rfl rfl 7 rfl rfl rfl rfl (Nat.le_of_ble_eq_true rfl) (by decide) (pI.stay rfl ?_)
      refine z_callV (pc := 75) C (c_X6_joinsRow (by assumption)) [3, 4, 5, 6] z00 mV_X6_joinsRow q_494 dX3_writesLetter_75 rfl rfl rfl 3 rfl rfl rfl rfl (Nat.le_of_ble_eq_true rfl) (by decide) (pI.go (ws' := wPt G to ts tl so po source like ++ (wSc G so sr sp sq _ pat ops cnt ++ wOr G oo on nums sign kix osz aw)) rfl ?_)
      refine z_iadd (pc := 78) C dX3_writesLetter_78 ?_
      refine z_istore (pc := 79) [(6, _), (8, _), (0, _), (1, _), (2, _), (3, _), (4, _), (5, _), (7, _)] C dX3_writesLetter_79 (by decide) rfl ?_
      refine z_iinc (pc := 81) (v := nI (i_32 + 1)) [(7, _), (6, _), (8, _), (0, _), (1, _), (2, _), (3, _), (4, _), (5, _)] C 8 dX3_writesLetter_81 rfl ((nI_succ _).symm) (by decide) rfl ?_
      refine z_goto (pc := 84) 32 C dX3_writesLetter_84 (by decide) ?_
      refine z_lv (lv' := [(0, _), (1, _), (2, _), (3, _), (4, _), (5, _), (6, _), (7, _)]) [3, 4, 5, 6, 7, 8, 1, 0] rfl ?_
      exact z_eq (by simp only [s_X3_writesLetter_32, hz_32, b_X3_writesLetter_32]) (by simp only [s_X3_writesLetter_32, hz_32, b_X3_writesLetter_32]) rfl ih_32
  · show Z X G 9 0 0 (wPt G to ts tl so po source like ++ (wSc G so sr sp sq ((s_X3_writesLetter_32 rows pat ops cnt nums osz 4).2) pat ops cnt ++ wOr G oo on nums sign kix osz aw)) 32 [(0, .ref to), (1, .ref oo), (2, .int (f_X1_numberAt nums osz 1)), (3, .int (f_X1_numberAt nums osz 2)), (4, .int (f_X1_numberAt nums osz 3)), (5, .int (f_X8_spanMask (f_X1_numberAt nums osz 2) 4)), (6, .int ((s_X3_writesLetter_32 rows pat ops cnt nums osz 4).1)), (7, .int (nI 4))] []
    refine z_iload (pc := 32) C 7 dX3_writesLetter_32 rfl ?_
    refine z_iconst (pc := 34) (v := 4) C dX3_writesLetter_34 (by decide) ?_
    refine z_icmp_ge (pc := 35) 87 C dX3_writesLetter_35 (by decide) (fun c_35 => ?_) (fun c_35 => ?_)
    · skip
      refine z_iload (pc := 87) C 6 dX3_writesLetter_87 rfl ?_
      exact z_iret (pc := 89) C E dX3_writesLetter_89 (pI.mk rfl rfl)
    · skip
      exact absurd (nI_le (Nat.le_refl 4) (by decide)) c_35

def b_X3_floods_38 (rows : Nat → Int32) (ops : Nat → Int32) (cnt : Int32) (t : Int32) (x : Int32) (y : Int32) (i_38 : Nat) (z_38 : (Nat → Int32) × (Nat → Int32)) : (Nat → Int32) × (Nat → Int32) := (upd z_38.1 (nI i_38).toNatClampNeg (((f_X6_rowAt rows t (nI i_38)) ^^^ (if (f_X6_dotAt rows t x y) = 1 then 0 else (-1) : Int32)) &&& (f_X6_openAt ops cnt (nI i_38))), upd z_38.2 (nI i_38).toNatClampNeg ((upd z_38.1 (nI i_38).toNatClampNeg (((f_X6_rowAt rows t (nI i_38)) ^^^ (if (f_X6_dotAt rows t x y) = 1 then 0 else (-1) : Int32)) &&& (f_X6_openAt ops cnt (nI i_38)))) (nI i_38).toNatClampNeg))
def s_X3_floods_38 (like : Nat → Int32) (rows : Nat → Int32) (ops : Nat → Int32) (cnt : Int32) (left : Nat → Int32) (t : Int32) (x : Int32) (y : Int32) : Nat → (Nat → Int32) × (Nat → Int32)
  | 0 => (like, left)
  | i_38 + 1 => b_X3_floods_38 rows ops cnt t x y i_38 (s_X3_floods_38 like rows ops cnt left t x y i_38)
def b_X3_floods_116 (like : Nat → Int32) (rows : Nat → Int32) (ops : Nat → Int32) (cnt : Int32) (left : Nat → Int32) (srow : Nat → Int32) (sdot : Nat → Int32) (t : Int32) (x : Int32) (y : Int32) (i_116 : Nat) (z_116 : Int32 × (Nat → Int32)) : Int32 × (Nat → Int32) := (z_116.1 + (f_X6_turnsDots t (nI i_116) ((((s_X3_floods_38 like rows ops cnt left t x y 24).1) (nI i_116).toNatClampNeg) &&& (((g_X4_takesOut_left ((s_X3_floods_38 like rows ops cnt left t x y 24).2) srow sdot y (f_X8_dotMask x)) (nI i_116).toNatClampNeg) ^^^ (-1)))), g_X6_turnsDots_rows z_116.2 t (nI i_116) ((((s_X3_floods_38 like rows ops cnt left t x y 24).1) (nI i_116).toNatClampNeg) &&& (((g_X4_takesOut_left ((s_X3_floods_38 like rows ops cnt left t x y 24).2) srow sdot y (f_X8_dotMask x)) (nI i_116).toNatClampNeg) ^^^ (-1))))
def s_X3_floods_116 (like : Nat → Int32) (rows : Nat → Int32) (ops : Nat → Int32) (cnt : Int32) (left : Nat → Int32) (srow : Nat → Int32) (sdot : Nat → Int32) (t : Int32) (x : Int32) (y : Int32) : Nat → Int32 × (Nat → Int32)
  | 0 => (0, rows)
  | i_116 + 1 => b_X3_floods_116 like rows ops cnt left srow sdot t x y i_116 (s_X3_floods_116 like rows ops cnt left srow sdot t x y i_116)
def f_X3_floods (like : Nat → Int32) (rows : Nat → Int32) (ops : Nat → Int32) (cnt : Int32) (left : Nat → Int32) (srow : Nat → Int32) (sdot : Nat → Int32) (t : Int32) (x : Int32) (y : Int32) : Int32 := if (f_X6_isOpen ops cnt x y) = 0 then 0 else (s_X3_floods_116 like rows ops cnt left srow sdot t x y 24).1
def g_X3_floods_like (like : Nat → Int32) (rows : Nat → Int32) (ops : Nat → Int32) (cnt : Int32) (left : Nat → Int32) (t : Int32) (x : Int32) (y : Int32) : Nat → Int32 := if (f_X6_isOpen ops cnt x y) = 0 then like else (s_X3_floods_38 like rows ops cnt left t x y 24).1
def g_X3_floods_rows (like : Nat → Int32) (rows : Nat → Int32) (ops : Nat → Int32) (cnt : Int32) (left : Nat → Int32) (srow : Nat → Int32) (sdot : Nat → Int32) (t : Int32) (x : Int32) (y : Int32) : Nat → Int32 := if (f_X6_isOpen ops cnt x y) = 0 then rows else (s_X3_floods_116 like rows ops cnt left srow sdot t x y 24).2
def g_X3_floods_left (like : Nat → Int32) (rows : Nat → Int32) (ops : Nat → Int32) (cnt : Int32) (left : Nat → Int32) (srow : Nat → Int32) (sdot : Nat → Int32) (t : Int32) (x : Int32) (y : Int32) : Nat → Int32 := if (f_X6_isOpen ops cnt x y) = 0 then left else g_X4_takesOut_left ((s_X3_floods_38 like rows ops cnt left t x y 24).2) srow sdot y (f_X8_dotMask x)
def g_X3_floods_srow (like : Nat → Int32) (rows : Nat → Int32) (ops : Nat → Int32) (cnt : Int32) (left : Nat → Int32) (srow : Nat → Int32) (sdot : Nat → Int32) (t : Int32) (x : Int32) (y : Int32) : Nat → Int32 := if (f_X6_isOpen ops cnt x y) = 0 then srow else g_X4_takesOut_srow ((s_X3_floods_38 like rows ops cnt left t x y 24).2) srow sdot y (f_X8_dotMask x)
def g_X3_floods_sdot (like : Nat → Int32) (rows : Nat → Int32) (ops : Nat → Int32) (cnt : Int32) (left : Nat → Int32) (srow : Nat → Int32) (sdot : Nat → Int32) (t : Int32) (x : Int32) (y : Int32) : Nat → Int32 := if (f_X6_isOpen ops cnt x y) = 0 then sdot else g_X4_takesOut_sdot ((s_X3_floods_38 like rows ops cnt left t x y 24).2) srow sdot y (f_X8_dotMask x)
def g_X3_floods_steps (like : Nat → Int32) (rows : Nat → Int32) (ops : Nat → Int32) (cnt : Int32) (left : Nat → Int32) (srow : Nat → Int32) (sdot : Nat → Int32) (steps : Int32) (t : Int32) (x : Int32) (y : Int32) : Int32 := if (f_X6_isOpen ops cnt x y) = 0 then steps else g_X4_takesOut_steps ((s_X3_floods_38 like rows ops cnt left t x y 24).2) srow sdot y (f_X8_dotMask x)
set_option maxRecDepth 100000 in
theorem c_X3_floods {l : Launch} {G : zG} {to ts tl so sr sp sq po pl pr pd : Nat} {source : Nat → Int32} {like : Nat → Int32} {rows : Nat → Int32} {pat : Nat → Int32} {ops : Nat → Int32} {cnt : Int32} {left : Nat → Int32} {srow : Nat → Int32} {sdot : Nat → Int32} {steps : Int32} {t : Int32} {x : Int32} {y : Int32} (hc : cOk cnt) : Ct l G yX3_floods cX3_floods 7 (Option.some FieldType.int) 4 91 [.ref to, .int t, .int x, .int y] (wPt G to ts tl so po source like ++ (wSc G so sr sp sq rows pat ops cnt ++ wPa G po pl pr pd left srow sdot steps)) (pI (f_X3_floods like rows ops cnt left srow sdot t x y) (wPt G to ts tl so po source (g_X3_floods_like like rows ops cnt left t x y) ++ (wSc G so sr sp sq (g_X3_floods_rows like rows ops cnt left srow sdot t x y) pat ops cnt ++ wPa G po pl pr pd (g_X3_floods_left like rows ops cnt left srow sdot t x y) (g_X3_floods_srow like rows ops cnt left srow sdot t x y) (g_X3_floods_sdot like rows ops cnt left srow sdot t x y) (g_X3_floods_steps like rows ops cnt left srow sdot steps t x y)))) := by
  refine Ct.of (plainFor_of_name (by decide)) (Nat.le_of_ble_eq_true rfl) (pI.ad (ad_app ad_Pt (ad_app ad_Sc ad_Pa))) (fun X C E => ?_)
  show Z X G 7 0 0 _ 0 [(0, .ref to), (1, .int t), (2, .int x), (3, .int y)] []
  refine z_aload_n (pc := 0) C 0 dX3_floods_0 rfl ?_
  refine z_get (pc := 1) C 0 0 dX3_floods_1 rfl rfl i_X3 (by decide) q_162 rfl ?_
  refine z_iload_n (pc := 4) C 2 dX3_floods_4 rfl ?_
  refine z_iload_n (pc := 5) C 3 dX3_floods_5 rfl ?_
  refine z_callV (pc := 6) C (c_X6_isOpen (by assumption)) [3, 4, 5, 6] z00 mV_X6_isOpen q_534 dX3_floods_6 rfl rfl rfl 3 rfl rfl rfl rfl (Nat.le_of_ble_eq_true rfl) (by decide) (pI.stay rfl ?_)
  refine z_if_ne (pc := 9) 14 C dX3_floods_9 (by decide) (fun c_9 => ?_) (fun c_9 => ?_)
  · skip
    refine z_aload_n (pc := 14) C 0 dX3_floods_14 rfl ?_
    refine z_get (pc := 15) C 0 0 dX3_floods_15 rfl rfl i_X3 (by decide) q_162 rfl ?_
    refine z_iload_n (pc := 18) C 1 dX3_floods_18 rfl ?_
    refine z_iload_n (pc := 19) C 2 dX3_floods_19 rfl ?_
    refine z_iload_n (pc := 20) C 3 dX3_floods_20 rfl ?_
    refine z_callV (pc := 21) C (c_X6_dotAt) [3, 4, 5, 6] z00 mV_X6_dotAt q_538 dX3_floods_21 rfl rfl rfl 3 rfl rfl rfl rfl (Nat.le_of_ble_eq_true rfl) (by decide) (pI.stay rfl ?_)
    refine z_iconst (pc := 24) (v := 1) C dX3_floods_24 (by decide) ?_
    have K_33 : Z X G 7 0 0 (wPt G to ts tl so po source like ++ (wSc G so sr sp sq rows pat ops cnt ++ wPa G po pl pr pd left srow sdot steps)) 33 [(0, .ref to), (1, .int t), (2, .int x), (3, .int y)] [.int (if (f_X6_dotAt rows t x y) = 1 then 0 else (-1) : Int32)] := by
      refine z_istore (pc := 33) [(4, _), (0, _), (1, _), (2, _), (3, _)] C dX3_floods_33 (by decide) rfl ?_
      refine z_iconst (pc := 35) (v := 0) C dX3_floods_35 (by decide) ?_
      refine z_istore (pc := 36) [(5, _), (4, _), (0, _), (1, _), (2, _), (3, _)] C dX3_floods_36 (by decide) rfl ?_
      refine z_lv (lv' := [(0, _), (1, _), (2, _), (3, _), (4, _), (5, _)]) [2, 3, 4, 5, 1, 0] rfl ?_
      refine z_loop (pc := 38) (e := 24) (fun i_38 => wPt G to ts tl so po source ((s_X3_floods_38 like rows ops cnt left t x y i_38).1) ++ (wSc G so sr sp sq rows pat ops cnt ++ wPa G po pl pr pd ((s_X3_floods_38 like rows ops cnt left t x y i_38).2) srow sdot steps)) (fun i_38 => [(0, .ref to), (1, .int t), (2, .int x), (3, .int y), (4, .int (if (f_X6_dotAt rows t x y) = 1 then 0 else (-1) : Int32)), (5, .int (nI i_38))]) [] (fun i_38 hi_38 ih_38 => ?_) ?_ 0 (Nat.zero_le _)
      · show Z X G 7 0 0 (wPt G to ts tl so po source ((s_X3_floods_38 like rows ops cnt left t x y i_38).1) ++ (wSc G so sr sp sq rows pat ops cnt ++ wPa G po pl pr pd ((s_X3_floods_38 like rows ops cnt left t x y i_38).2) srow sdot steps)) 38 [(0, .ref to), (1, .int t), (2, .int x), (3, .int y), (4, .int (if (f_X6_dotAt rows t x y) = 1 then 0 else (-1) : Int32)), (5, .int (nI i_38))] []
        generalize hz_38 : s_X3_floods_38 like rows ops cnt left t x y i_38 = z_38
        refine z_iload (pc := 38) C 5 dX3_floods_38 rfl ?_
        refine z_bipush (pc := 40) (v := 24) C dX3_floods_40 (by decide) ?_
        refine z_icmp_ge (pc := 42) 98 C dX3_floods_42 (by decide) (fun c_42 => ?_) (fun c_42 => ?_)
        · skip
          exact absurd c_42 (nI_ge (b := 24) (by omega) (by decide))
        · skip
          refine z_aload_n (pc := 45) C 0 dX3_floods_45 rfl ?_
          refine z_get (pc := 46) C 0 3 dX3_floods_46 rfl rfl i_X3 (by decide) q_165 rfl ?_
          refine z_iload (pc := 49) C 5 dX3_floods_49 rfl ?_
          refine z_aload_n (pc := 51) C 0 dX3_floods_51 rfl ?_
          refine z_get (pc := 52) C 0 0 dX3_floods_52 rfl rfl i_X3 (by decide) q_162 rfl ?_
          refine z_iload_n (pc := 55) C 1 dX3_floods_55 rfl ?_
          refine z_iload (pc := 56) C 5 dX3_floods_56 rfl ?_
          refine z_callV (pc := 58) C (c_X6_rowAt) [3, 4, 5, 6] z00 mV_X6_rowAt q_486 dX3_floods_58 rfl rfl rfl 3 rfl rfl rfl rfl (Nat.le_of_ble_eq_true rfl) (by decide) (pI.stay rfl ?_)
          refine z_iload (pc := 61) C 4 dX3_floods_61 rfl ?_
          refine z_ixor (pc := 63) C dX3_floods_63 ?_
          refine z_aload_n (pc := 64) C 0 dX3_floods_64 rfl ?_
          refine z_get (pc := 65) C 0 0 dX3_floods_65 rfl rfl i_X3 (by decide) q_162 rfl ?_
          refine z_iload (pc := 68) C 5 dX3_floods_68 rfl ?_
          refine z_callV (pc := 70) C (c_X6_openAt (by assumption)) [3, 4, 5, 6] z00 mV_X6_openAt q_539 dX3_floods_70 rfl rfl rfl 3 rfl rfl rfl rfl (Nat.le_of_ble_eq_true rfl) (by decide) (pI.stay rfl ?_)
          refine z_iand (pc := 73) C dX3_floods_73 ?_
          refine z_iast (pc := 74) (wPt G to ts tl so po source _ ++ (wSc G so sr sp sq rows pat ops cnt ++ wPa G po pl pr pd _ srow sdot steps)) C 2 dX3_floods_74 rfl (ix_nI hi_38 (by decide)) rfl ?_
          refine z_aload_n (pc := 75) C 0 dX3_floods_75 rfl ?_
          refine z_get (pc := 76) C 0 1 dX3_floods_76 rfl rfl i_X3 (by decide) q_163 rfl ?_
          refine z_get (pc := 79) C 7 0 dX3_floods_79 rfl rfl i_X4 (by decide) q_122 rfl ?_
          refine z_iload (pc := 82) C 5 dX3_floods_82 rfl ?_
          refine z_aload_n (pc := 84) C 0 dX3_floods_84 rfl ?_
          refine z_get (pc := 85) C 0 3 dX3_floods_85 rfl rfl i_X3 (by decide) q_165 rfl ?_
          refine z_iload (pc := 88) C 5 dX3_floods_88 rfl ?_
          refine z_iald (pc := 90) C 2 dX3_floods_90 rfl (ix_nI hi_38 (by decide)) ?_
          refine z_iast (pc := 91) (wPt G to ts tl so po source _ ++ (wSc G so sr sp sq rows pat ops cnt ++ wPa G po pl pr pd _ srow sdot steps)) C 8 dX3_floods_91 rfl (ix_nI hi_38 (by decide)) rfl ?_
          refine z_iinc (pc := 92) (v := nI (i_38 + 1)) [(5, _), (0, _), (1, _), (2, _), (3, _), (4, _)] C 5 dX3_floods_92 rfl ((nI_succ _).symm) (by decide) rfl ?_
          refine z_goto (pc := 95) 38 C dX3_floods_95 (by decide) ?_
          refine z_lv (lv' := [(0, _), (1, _), (2, _), (3, _), (4, _), (5, _)]) [1, 2, 3, 4, 5, 0] rfl ?_
          exact z_eq (by simp only [s_X3_floods_38, hz_38, b_X3_floods_38]) rfl rfl ih_38
      · show Z X G 7 0 0 (wPt G to ts tl so po source ((s_X3_floods_38 like rows ops cnt left t x y 24).1) ++ (wSc G so sr sp sq rows pat ops cnt ++ wPa G po pl pr pd ((s_X3_floods_38 like rows ops cnt left t x y 24).2) srow sdot steps)) 38 [(0, .ref to), (1, .int t), (2, .int x), (3, .int y), (4, .int (if (f_X6_dotAt rows t x y) = 1 then 0 else (-1) : Int32)), (5, .int (nI 24))] []
        refine z_iload (pc := 38) C 5 dX3_floods_38 rfl ?_
        refine z_bipush (pc := 40) (v := 24) C dX3_floods_40 (by decide) ?_
        refine z_icmp_ge (pc := 42) 98 C dX3_floods_42 (by decide) (fun c_42 => ?_) (fun c_42 => ?_)
        · skip
          refine z_aload_n (pc := 98) C 0 dX3_floods_98 rfl ?_
          refine z_get (pc := 99) C 0 1 dX3_floods_99 rfl rfl i_X3 (by decide) q_163 rfl ?_
          refine z_iload_n (pc := 102) C 3 dX3_floods_102 rfl ?_
          refine z_iload_n (pc := 103) C 2 dX3_floods_103 rfl ?_
          refine z_callSN (pc := 104) C (c_X8_dotMask) [] z00 mS_X8_dotMask q_540 dX3_floods_104 rfl rfl rfl rfl (Nat.le_of_ble_eq_true rfl) (by decide) (pI.stay rfl ?_)
          refine z_callV (pc := 107) C (c_X4_takesOut) [7, 8, 9, 10] z00 mV_X4_takesOut q_541 dX3_floods_107 rfl rfl rfl 7 rfl rfl rfl rfl (Nat.le_of_ble_eq_true rfl) (by decide) (pV.go (ws' := wPt G to ts tl so po source _ ++ (wSc G so sr sp sq rows pat ops cnt ++ wPa G po pl pr pd _ _ _ _)) rfl ?_)
          refine z_iconst (pc := 110) (v := 0) C dX3_floods_110 (by decide) ?_
          refine z_istore (pc := 111) [(5, _), (0, _), (1, _), (2, _), (3, _), (4, _)] C dX3_floods_111 (by decide) rfl ?_
          refine z_iconst (pc := 113) (v := 0) C dX3_floods_113 (by decide) ?_
          refine z_istore (pc := 114) [(6, _), (5, _), (0, _), (1, _), (2, _), (3, _), (4, _)] C dX3_floods_114 (by decide) rfl ?_
          refine z_lv (lv' := [(0, _), (1, _), (2, _), (3, _), (4, _), (5, _), (6, _)]) [2, 3, 4, 5, 6, 1, 0] rfl ?_
          refine z_loop (pc := 116) (e := 24) (fun i_116 => wPt G to ts tl so po source ((s_X3_floods_38 like rows ops cnt left t x y 24).1) ++ (wSc G so sr sp sq ((s_X3_floods_116 like rows ops cnt left srow sdot t x y i_116).2) pat ops cnt ++ wPa G po pl pr pd (g_X4_takesOut_left ((s_X3_floods_38 like rows ops cnt left t x y 24).2) srow sdot y (f_X8_dotMask x)) (g_X4_takesOut_srow ((s_X3_floods_38 like rows ops cnt left t x y 24).2) srow sdot y (f_X8_dotMask x)) (g_X4_takesOut_sdot ((s_X3_floods_38 like rows ops cnt left t x y 24).2) srow sdot y (f_X8_dotMask x)) (g_X4_takesOut_steps ((s_X3_floods_38 like rows ops cnt left t x y 24).2) srow sdot y (f_X8_dotMask x)))) (fun i_116 => [(0, .ref to), (1, .int t), (2, .int x), (3, .int y), (4, .int (if (f_X6_dotAt rows t x y) = 1 then 0 else (-1) : Int32)), (5, .int ((s_X3_floods_116 like rows ops cnt left srow sdot t x y i_116).1)), (6, .int (nI i_116))]) [] (fun i_116 hi_116 ih_116 => ?_) ?_ 0 (Nat.zero_le _)
          · show Z X G 7 0 0 (wPt G to ts tl so po source ((s_X3_floods_38 like rows ops cnt left t x y 24).1) ++ (wSc G so sr sp sq ((s_X3_floods_116 like rows ops cnt left srow sdot t x y i_116).2) pat ops cnt ++ wPa G po pl pr pd (g_X4_takesOut_left ((s_X3_floods_38 like rows ops cnt left t x y 24).2) srow sdot y (f_X8_dotMask x)) (g_X4_takesOut_srow ((s_X3_floods_38 like rows ops cnt left t x y 24).2) srow sdot y (f_X8_dotMask x)) (g_X4_takesOut_sdot ((s_X3_floods_38 like rows ops cnt left t x y 24).2) srow sdot y (f_X8_dotMask x)) (g_X4_takesOut_steps ((s_X3_floods_38 like rows ops cnt left t x y 24).2) srow sdot y (f_X8_dotMask x)))) 116 [(0, .ref to), (1, .int t), (2, .int x), (3, .int y), (4, .int (if (f_X6_dotAt rows t x y) = 1 then 0 else (-1) : Int32)), (5, .int ((s_X3_floods_116 like rows ops cnt left srow sdot t x y i_116).1)), (6, .int (nI i_116))] []
            generalize hz_116 : s_X3_floods_116 like rows ops cnt left srow sdot t x y i_116 = z_116
            refine z_iload (pc := 116) C 6 dX3_floods_116 rfl ?_
            refine z_bipush (pc := 118) (v := 24) C dX3_floods_118 (by decide) ?_
            refine z_icmp_ge (pc := 120) 164 C dX3_floods_120 (by decide) (fun c_120 => ?_) (fun c_120 => ?_)
            · skip
              exact absurd c_120 (nI_ge (b := 24) (by omega) (by decide))
            · skip
              refine z_iload (pc := 123) C 5 dX3_floods_123 rfl ?_
              refine z_aload_n (pc := 125) C 0 dX3_floods_125 rfl ?_
              refine z_get (pc := 126) C 0 0 dX3_floods_126 rfl rfl i_X3 (by decide) q_162 rfl ?_
              refine z_iload_n (pc := 129) C 1 dX3_floods_129 rfl ?_
              refine z_iload (pc := 130) C 6 dX3_floods_130 rfl ?_
              refine z_aload_n (pc := 132) C 0 dX3_floods_132 rfl ?_
              refine z_get (pc := 133) C 0 3 dX3_floods_133 rfl rfl i_X3 (by decide) q_165 rfl ?_
              refine z_iload (pc := 136) C 6 dX3_floods_136 rfl ?_
              refine z_iald (pc := 138) C 2 dX3_floods_138 rfl (ix_nI hi_116 (by decide)) ?_
              refine z_aload_n (pc := 139) C 0 dX3_floods_139 rfl ?_
              refine z_get (pc := 140) C 0 1 dX3_floods_140 rfl rfl i_X3 (by decide) q_163 rfl ?_
              refine z_get (pc := 143) C 7 0 dX3_floods_143 rfl rfl i_X4 (by decide) q_122 rfl ?_
              refine z_iload (pc := 146) C 6 dX3_floods_146 rfl ?_
              refine z_iald (pc := 148) C 8 dX3_floods_148 rfl (ix_nI hi_116 (by decide)) ?_
              refine z_iconst (pc := 149) (v := (-1)) C dX3_floods_149 (by decide) ?_
              refine z_ixor (pc := 150) C dX3_floods_150 ?_
              refine z_iand (pc := 151) C dX3_floods_151 ?_
              refine z_callV (pc := 152) C (c_X6_turnsDots) [3, 4, 5, 6] z00 mV_X6_turnsDots q_553 dX3_floods_152 rfl rfl rfl 3 rfl rfl rfl rfl (Nat.le_of_ble_eq_true rfl) (by decide) (pI.go (ws' := wPt G to ts tl so po source _ ++ (wSc G so sr sp sq _ pat ops cnt ++ wPa G po pl pr pd _ _ _ _)) rfl ?_)
              refine z_iadd (pc := 155) C dX3_floods_155 ?_
              refine z_istore (pc := 156) [(5, _), (0, _), (1, _), (2, _), (3, _), (4, _), (6, _)] C dX3_floods_156 (by decide) rfl ?_
              refine z_iinc (pc := 158) (v := nI (i_116 + 1)) [(6, _), (5, _), (0, _), (1, _), (2, _), (3, _), (4, _)] C 6 dX3_floods_158 rfl ((nI_succ _).symm) (by decide) rfl ?_
              refine z_goto (pc := 161) 116 C dX3_floods_161 (by decide) ?_
              refine z_lv (lv' := [(0, _), (1, _), (2, _), (3, _), (4, _), (5, _), (6, _)]) [2, 3, 4, 5, 6, 1, 0] rfl ?_
              exact z_eq (by simp only [s_X3_floods_116, hz_116, b_X3_floods_116]) (by simp only [s_X3_floods_116, hz_116, b_X3_floods_116]) rfl ih_116
          · show Z X G 7 0 0 (wPt G to ts tl so po source ((s_X3_floods_38 like rows ops cnt left t x y 24).1) ++ (wSc G so sr sp sq ((s_X3_floods_116 like rows ops cnt left srow sdot t x y 24).2) pat ops cnt ++ wPa G po pl pr pd (g_X4_takesOut_left ((s_X3_floods_38 like rows ops cnt left t x y 24).2) srow sdot y (f_X8_dotMask x)) (g_X4_takesOut_srow ((s_X3_floods_38 like rows ops cnt left t x y 24).2) srow sdot y (f_X8_dotMask x)) (g_X4_takesOut_sdot ((s_X3_floods_38 like rows ops cnt left t x y 24).2) srow sdot y (f_X8_dotMask x)) (g_X4_takesOut_steps ((s_X3_floods_38 like rows ops cnt left t x y 24).2) srow sdot y (f_X8_dotMask x)))) 116 [(0, .ref to), (1, .int t), (2, .int x), (3, .int y), (4, .int (if (f_X6_dotAt rows t x y) = 1 then 0 else (-1) : Int32)), (5, .int ((s_X3_floods_116 like rows ops cnt left srow sdot t x y 24).1)), (6, .int (nI 24))] []
            refine z_iload (pc := 116) C 6 dX3_floods_116 rfl ?_
            refine z_bipush (pc := 118) (v := 24) C dX3_floods_118 (by decide) ?_
            refine z_icmp_ge (pc := 120) 164 C dX3_floods_120 (by decide) (fun c_120 => ?_) (fun c_120 => ?_)
            · skip
              refine z_iload (pc := 164) C 5 dX3_floods_164 rfl ?_
              exact z_iret (pc := 166) C E dX3_floods_166 (pI.mk (by simp only [f_X3_floods, if_neg c_9]) (by simp only [g_X3_floods_like, g_X3_floods_rows, g_X3_floods_left, g_X3_floods_srow, g_X3_floods_sdot, g_X3_floods_steps, if_neg c_9]))
            · skip
              exact absurd (nI_le (Nat.le_refl 24) (by decide)) c_120
        · skip
          exact absurd (nI_le (Nat.le_refl 24) (by decide)) c_42
    refine z_icmp_ne (pc := 25) 32 C dX3_floods_25 (by decide) (fun c_25 => ?_) (fun c_25 => ?_)
    · skip
      refine z_iconst (pc := 32) (v := (-1)) C dX3_floods_32 (by decide) ?_
      refine z_lv (lv' := [(0, _), (1, _), (2, _), (3, _)]) [0, 1, 2, 3] rfl ?_
      exact z_eq rfl rfl (by simp only [if_neg c_25]) K_33
    · skip
      refine z_iconst (pc := 28) (v := 0) C dX3_floods_28 (by decide) ?_
      refine z_goto (pc := 29) 33 C dX3_floods_29 (by decide) ?_
      refine z_lv (lv' := [(0, _), (1, _), (2, _), (3, _)]) [0, 1, 2, 3] rfl ?_
      exact z_eq rfl rfl (by simp only [if_pos c_25]) K_33
  · skip
    refine z_iconst (pc := 12) (v := 0) C dX3_floods_12 (by decide) ?_
    exact z_iret (pc := 13) C E dX3_floods_13 (pI.mk (by simp only [f_X3_floods, if_pos c_9]) (by simp only [g_X3_floods_like, g_X3_floods_rows, g_X3_floods_left, g_X3_floods_srow, g_X3_floods_sdot, g_X3_floods_steps, if_pos c_9]))

def r_X3_drawsLine_51 (pat : Nat → Int32) (ops : Nat → Int32) (cnt : Int32) (nums : Nat → Int32) (osz : Int32) : Nat → Nat → (Int32 × (Nat → Int32)) → Int32 × (Nat → Int32)
  | 0, i_51, z_51 => (z_51.1, z_51.2)
  | n_51 + 1, i_51, z_51 => if (f_J9_max_7cf53 (f_J9_abs_0f7a4 ((f_X1_numberAt nums osz 3) - (f_X1_numberAt nums osz 1))) (f_J9_abs_0f7a4 ((f_X1_numberAt nums osz 4) - (f_X1_numberAt nums osz 2)))) < (nI i_51) then (z_51.1, z_51.2) else r_X3_drawsLine_51 pat ops cnt nums osz n_51 (i_51 + 1) (z_51.1 + (f_X6_joinsRow z_51.2 pat ops cnt (f_X1_numberAt nums osz 0) (f_X3_between (f_X1_numberAt nums osz 2) (f_X1_numberAt nums osz 4) (nI i_51) (f_J9_max_7cf53 (f_J9_abs_0f7a4 ((f_X1_numberAt nums osz 3) - (f_X1_numberAt nums osz 1))) (f_J9_abs_0f7a4 ((f_X1_numberAt nums osz 4) - (f_X1_numberAt nums osz 2))))) (f_X8_spanMask (f_X3_between (f_X1_numberAt nums osz 1) (f_X1_numberAt nums osz 3) (nI i_51) (f_J9_max_7cf53 (f_J9_abs_0f7a4 ((f_X1_numberAt nums osz 3) - (f_X1_numberAt nums osz 1))) (f_J9_abs_0f7a4 ((f_X1_numberAt nums osz 4) - (f_X1_numberAt nums osz 2))))) 1) (-1) (f_X1_numberAt nums osz 5)), g_X6_joinsRow_rows z_51.2 pat ops cnt (f_X1_numberAt nums osz 0) (f_X3_between (f_X1_numberAt nums osz 2) (f_X1_numberAt nums osz 4) (nI i_51) (f_J9_max_7cf53 (f_J9_abs_0f7a4 ((f_X1_numberAt nums osz 3) - (f_X1_numberAt nums osz 1))) (f_J9_abs_0f7a4 ((f_X1_numberAt nums osz 4) - (f_X1_numberAt nums osz 2))))) (f_X8_spanMask (f_X3_between (f_X1_numberAt nums osz 1) (f_X1_numberAt nums osz 3) (nI i_51) (f_J9_max_7cf53 (f_J9_abs_0f7a4 ((f_X1_numberAt nums osz 3) - (f_X1_numberAt nums osz 1))) (f_J9_abs_0f7a4 ((f_X1_numberAt nums osz 4) - (f_X1_numberAt nums osz 2))))) 1) (-1) (f_X1_numberAt nums osz 5))
def f_X3_drawsLine (rows : Nat → Int32) (pat : Nat → Int32) (ops : Nat → Int32) (cnt : Int32) (nums : Nat → Int32) (osz : Int32) : Int32 := (r_X3_drawsLine_51 pat ops cnt nums osz 128 0 (0, rows)).1
def g_X3_drawsLine_rows (rows : Nat → Int32) (pat : Nat → Int32) (ops : Nat → Int32) (cnt : Int32) (nums : Nat → Int32) (osz : Int32) : Nat → Int32 := (r_X3_drawsLine_51 pat ops cnt nums osz 128 0 (0, rows)).2
set_option maxRecDepth 100000 in
theorem c_X3_drawsLine {l : Launch} {G : zG} {to ts tl so sr sp sq oo on po : Nat} {source : Nat → Int32} {like : Nat → Int32} {rows : Nat → Int32} {pat : Nat → Int32} {ops : Nat → Int32} {cnt : Int32} {nums : Nat → Int32} {sign : Int32} {kix : Nat} {osz : Int32} {aw : Int32} (hc : cOk cnt) (ho : oOk osz) : Ct l G yX3_drawsLine cX3_drawsLine 11 (Option.some FieldType.int) 4 97 [.ref to, .ref oo] (wPt G to ts tl so po source like ++ (wSc G so sr sp sq rows pat ops cnt ++ wOr G oo on nums sign kix osz aw)) (pI (f_X3_drawsLine rows pat ops cnt nums osz) (wPt G to ts tl so po source like ++ (wSc G so sr sp sq (g_X3_drawsLine_rows rows pat ops cnt nums osz) pat ops cnt ++ wOr G oo on nums sign kix osz aw))) := by
  refine Ct.of (plainFor_of_name (by decide)) (Nat.le_of_ble_eq_true rfl) (pI.ad (ad_app ad_Pt (ad_app ad_Sc ad_Or))) (fun X C E => ?_)
  show Z X G 11 0 0 _ 0 [(0, .ref to), (1, .ref oo)] []
  refine z_aload_n (pc := 0) C 1 dX3_drawsLine_0 rfl ?_
  refine z_iconst (pc := 1) (v := 1) C dX3_drawsLine_1 (by decide) ?_
  refine z_callV (pc := 2) C (c_X1_numberAt (by assumption)) [7, 8] z00 mV_X1_numberAt q_478 dX3_drawsLine_2 rfl rfl rfl 7 rfl rfl rfl rfl (Nat.le_of_ble_eq_true rfl) (by decide) (pI.stay rfl ?_)
  refine z_istore_n (pc := 5) [(2, _), (0, _), (1, _)] C dX3_drawsLine_5 rfl (by decide) rfl ?_
  refine z_aload_n (pc := 6) C 2 dX3_drawsLine_6 rfl ?_
  refine z_iconst (pc := 7) (v := 2) C dX3_drawsLine_7 (by decide) ?_
  refine z_callV (pc := 8) C (c_X1_numberAt (by assumption)) [7, 8] z00 mV_X1_numberAt q_478 dX3_drawsLine_8 rfl rfl rfl 7 rfl rfl rfl rfl (Nat.le_of_ble_eq_true rfl) (by decide) (pI.stay rfl ?_)
  refine z_istore_n (pc := 11) [(3, _), (2, _), (0, _), (1, _)] C dX3_drawsLine_11 rfl (by decide) rfl ?_
  refine z_aload_n (pc := 12) C 3 dX3_drawsLine_12 rfl ?_
  refine z_iconst (pc := 13) (v := 3) C dX3_drawsLine_13 (by decide) ?_
  refine z_callV (pc := 14) C (c_X1_numberAt (by assumption)) [7, 8] z00 mV_X1_numberAt q_478 dX3_drawsLine_14 rfl rfl rfl 7 rfl rfl rfl rfl (Nat.le_of_ble_eq_true rfl) (by decide) (pI.stay rfl ?_)
  refine z_istore (pc := 17) [(4, _), (3, _), (2, _), (0, _), (1, _)] C dX3_drawsLine_17 (by decide) rfl ?_
  refine z_aload_n (pc := 19) C 4 dX3_drawsLine_19 rfl ?_
  refine z_iconst (pc := 20) (v := 4) C dX3_drawsLine_20 (by decide) ?_
  refine z_callV (pc := 21) C (c_X1_numberAt (by assumption)) [7, 8] z00 mV_X1_numberAt q_478 dX3_drawsLine_21 rfl rfl rfl 7 rfl rfl rfl rfl (Nat.le_of_ble_eq_true rfl) (by decide) (pI.stay rfl ?_)
  refine z_istore (pc := 24) [(5, _), (4, _), (3, _), (2, _), (0, _), (1, _)] C dX3_drawsLine_24 (by decide) rfl ?_
  refine z_iload (pc := 26) C 1 dX3_drawsLine_26 rfl ?_
  refine z_iload_n (pc := 28) C 3 dX3_drawsLine_28 rfl ?_
  refine z_isub (pc := 29) C dX3_drawsLine_29 ?_
  refine z_callS (pc := 30) C (c_J9_abs_0f7a4) [] z00 mS_J9_abs_0f7a4 q_520 dX3_drawsLine_30 rfl rfl rfl rfl (Nat.le_of_ble_eq_true rfl) (by decide) (pI.stay rfl ?_)
  refine z_iload (pc := 33) C 0 dX3_drawsLine_33 rfl ?_
  refine z_iload_n (pc := 35) C 2 dX3_drawsLine_35 rfl ?_
  refine z_isub (pc := 36) C dX3_drawsLine_36 ?_
  refine z_callS (pc := 37) C (c_J9_abs_0f7a4) [] z00 mS_J9_abs_0f7a4 q_520 dX3_drawsLine_37 rfl rfl rfl rfl (Nat.le_of_ble_eq_true rfl) (by decide) (pI.stay rfl ?_)
  refine z_callS (pc := 40) C (c_J9_max_7cf53) [] z00 mS_J9_max_7cf53 q_523 dX3_drawsLine_40 rfl rfl rfl rfl (Nat.le_of_ble_eq_true rfl) (by decide) (pI.stay rfl ?_)
  refine z_istore (pc := 43) [(6, _), (5, _), (4, _), (3, _), (2, _), (0, _), (1, _)] C dX3_drawsLine_43 (by decide) rfl ?_
  refine z_iconst (pc := 45) (v := 0) C dX3_drawsLine_45 (by decide) ?_
  refine z_istore (pc := 46) [(7, _), (6, _), (5, _), (4, _), (3, _), (2, _), (0, _), (1, _)] C dX3_drawsLine_46 (by decide) rfl ?_
  refine z_iconst (pc := 48) (v := 0) C dX3_drawsLine_48 (by decide) ?_
  refine z_istore (pc := 49) [(8, _), (7, _), (6, _), (5, _), (4, _), (3, _), (2, _), (0, _), (1, _)] C dX3_drawsLine_49 (by decide) rfl ?_
  refine z_lv (lv' := [(0, _), (1, _), (2, _), (3, _), (4, _), (5, _), (6, _), (7, _), (8, _)]) [7, 8, 6, 5, 4, 3, 2, 1, 0] rfl ?_
  have L_51 : ∀ (n_51 i_51 : Nat) (z_51 : Int32 × (Nat → Int32)), n_51 + i_51 = 128 → Z X G 11 0 0 (wPt G to ts tl so po source like ++ (wSc G so sr sp sq ((r_X3_drawsLine_51 pat ops cnt nums osz n_51 i_51 z_51).2) pat ops cnt ++ wOr G oo on nums sign kix osz aw)) 126 [(0, .ref to), (1, .ref oo), (2, .int (f_X1_numberAt nums osz 1)), (3, .int (f_X1_numberAt nums osz 2)), (4, .int (f_X1_numberAt nums osz 3)), (5, .int (f_X1_numberAt nums osz 4)), (6, .int (f_J9_max_7cf53 (f_J9_abs_0f7a4 ((f_X1_numberAt nums osz 3) - (f_X1_numberAt nums osz 1))) (f_J9_abs_0f7a4 ((f_X1_numberAt nums osz 4) - (f_X1_numberAt nums osz 2))))), (7, .int ((r_X3_drawsLine_51 pat ops cnt nums osz n_51 i_51 z_51).1))] [] → Z X G 11 0 0 (wPt G to ts tl so po source like ++ (wSc G so sr sp sq z_51.2 pat ops cnt ++ wOr G oo on nums sign kix osz aw)) 51 [(0, .ref to), (1, .ref oo), (2, .int (f_X1_numberAt nums osz 1)), (3, .int (f_X1_numberAt nums osz 2)), (4, .int (f_X1_numberAt nums osz 3)), (5, .int (f_X1_numberAt nums osz 4)), (6, .int (f_J9_max_7cf53 (f_J9_abs_0f7a4 ((f_X1_numberAt nums osz 3) - (f_X1_numberAt nums osz 1))) (f_J9_abs_0f7a4 ((f_X1_numberAt nums osz 4) - (f_X1_numberAt nums osz 2))))), (7, .int z_51.1), (8, .int (nI i_51))] [] := by
    intro n_51
    induction n_51 with
    | zero =>
      intro i_51 z_51 hn_51 hF_51
      obtain rfl : i_51 = 128 := by omega
      refine z_iload (pc := 51) C 8 dX3_drawsLine_51 rfl ?_
      refine z_iload (pc := 53) C 6 dX3_drawsLine_53 rfl ?_
      refine z_icmp_gt (pc := 55) 126 C dX3_drawsLine_55 (by decide) (fun c_55 => ?_) (fun c_55 => ?_)
      · skip
        refine z_lv (lv' := [(0, _), (1, _), (2, _), (3, _), (4, _), (5, _), (6, _), (7, _)]) [0, 1, 2, 3, 4, 5, 6, 7] rfl ?_
        simp only [r_X3_drawsLine_51, if_pos c_55] at hF_51
        exact hF_51
      · skip
        refine z_iload (pc := 58) C 8 dX3_drawsLine_58 rfl ?_
        refine z_bipush (pc := 60) (v := 127) C dX3_drawsLine_60 (by decide) ?_
        refine z_icmp_gt (pc := 62) 126 C dX3_drawsLine_62 (by decide) (fun c_62 => ?_) (fun c_62 => ?_)
        · skip
          refine z_lv (lv' := [(0, _), (1, _), (2, _), (3, _), (4, _), (5, _), (6, _), (7, _)]) [0, 1, 2, 3, 4, 5, 6, 7] rfl ?_
          simp only [r_X3_drawsLine_51, if_neg c_55] at hF_51
          exact hF_51
        · skip
          exact absurd (gt_x (n := 127) rfl (by decide)) c_62
    | succ n_51 ih_51 =>
      intro i_51 z_51 hn_51 hF_51
      have hi_51 : i_51 < 128 := by omega
      refine z_iload (pc := 51) C 8 dX3_drawsLine_51 rfl ?_
      refine z_iload (pc := 53) C 6 dX3_drawsLine_53 rfl ?_
      refine z_icmp_gt (pc := 55) 126 C dX3_drawsLine_55 (by decide) (fun c_55 => ?_) (fun c_55 => ?_)
      · skip
        refine z_lv (lv' := [(0, _), (1, _), (2, _), (3, _), (4, _), (5, _), (6, _), (7, _)]) [0, 1, 2, 3, 4, 5, 6, 7] rfl ?_
        simp only [r_X3_drawsLine_51, if_pos c_55] at hF_51
        exact hF_51
      · skip
        refine z_iload (pc := 58) C 8 dX3_drawsLine_58 rfl ?_
        refine z_bipush (pc := 60) (v := 127) C dX3_drawsLine_60 (by decide) ?_
        refine z_icmp_gt (pc := 62) 126 C dX3_drawsLine_62 (by decide) (fun c_62 => ?_) (fun c_62 => ?_)
        · skip
          exact absurd c_62 (gt_s (n := 127) rfl (by omega) (by decide))
        · skip
          refine z_iload_n (pc := 65) C 2 dX3_drawsLine_65 rfl ?_
          refine z_iload (pc := 66) C 4 dX3_drawsLine_66 rfl ?_
          refine z_iload (pc := 68) C 8 dX3_drawsLine_68 rfl ?_
          refine z_iload (pc := 70) C 6 dX3_drawsLine_70 rfl ?_
          refine z_callS (pc := 72) C (c_X3_between) [] z00 mS_X3_between q_524 dX3_drawsLine_72 rfl rfl rfl rfl (Nat.le_of_ble_eq_true rfl) (by decide) (pI.stay rfl ?_)
          refine z_iconst (pc := 75) (v := 1) C dX3_drawsLine_75 (by decide) ?_
          refine z_callSN (pc := 76) C (c_X8_spanMask) [] z00 mS_X8_spanMask q_487 dX3_drawsLine_76 rfl rfl rfl rfl (Nat.le_of_ble_eq_true rfl) (by decide) (pI.stay rfl ?_)
          refine z_istore (pc := 79) [(9, _), (0, _), (1, _), (2, _), (3, _), (4, _), (5, _), (6, _), (7, _), (8, _)] C dX3_drawsLine_79 (by decide) rfl ?_
          refine z_iload_n (pc := 81) C 4 dX3_drawsLine_81 rfl ?_
          refine z_iload (pc := 82) C 6 dX3_drawsLine_82 rfl ?_
          refine z_iload (pc := 84) C 9 dX3_drawsLine_84 rfl ?_
          refine z_iload (pc := 86) C 7 dX3_drawsLine_86 rfl ?_
          refine z_callS (pc := 88) C (c_X3_between) [] z00 mS_X3_between q_524 dX3_drawsLine_88 rfl rfl rfl rfl (Nat.le_of_ble_eq_true rfl) (by decide) (pI.stay rfl ?_)
          refine z_istore (pc := 91) [(10, _), (9, _), (0, _), (1, _), (2, _), (3, _), (4, _), (5, _), (6, _), (7, _), (8, _)] C dX3_drawsLine_91 (by decide) rfl ?_
          refine z_iload (pc := 93) C 9 dX3_drawsLine_93 rfl ?_
          refine z_aload_n (pc := 95) C 2 dX3_drawsLine_95 rfl ?_
          refine z_get (pc := 96) C 0 0 dX3_drawsLine_96 rfl rfl i_X3 (by decide) q_162 rfl ?_
          refine z_aload_n (pc := 99) C 3 dX3_drawsLine_99 rfl ?_
          refine z_iconst (pc := 100) (v := 0) C dX3_drawsLine_100 (by decide) ?_
          refine z_callV (pc := 101) C (c_X1_numberAt (by assumption)) [7, 8] z00 mV_X1_numberAt q_478 dX3_drawsLine_101 rfl rfl rfl 7 rfl rfl rfl rfl (Nat.le_of_ble_eq_true rfl) (by decide) (pI.stay rfl ?_)
          refine z_iload (pc := 104) C 0 dX3_drawsLine_104 rfl ?_
          refine z_iload (pc := 106) C 1 dX3_drawsLine_106 rfl ?_
          refine z_iconst (pc := 108) (v := (-1)) C dX3_drawsLine_108 (by decide) ?_
          refine z_aload_n (pc := 109) C 3 dX3_drawsLine_109 rfl ?_
          refine z_iconst (pc := 110) (v := 5) C dX3_drawsLine_110 (by decide) ?_
          refine z_callV (pc := 111) C (c_X1_numberAt (by assumption)) [7, 8] z00 mV_X1_numberAt q_478 dX3_drawsLine_111 rfl rfl rfl 7 rfl rfl rfl rfl (Nat.le_of_ble_eq_true rfl) (by decide) (pI.stay rfl ?_)
          refine z_callV (pc := 114) C (c_X6_joinsRow (by assumption)) [3, 4, 5, 6] z00 mV_X6_joinsRow q_494 dX3_drawsLine_114 rfl rfl rfl 3 rfl rfl rfl rfl (Nat.le_of_ble_eq_true rfl) (by decide) (pI.go (ws' := wPt G to ts tl so po source like ++ (wSc G so sr sp sq _ pat ops cnt ++ wOr G oo on nums sign kix osz aw)) rfl ?_)
          refine z_iadd (pc := 117) C dX3_drawsLine_117 ?_
          refine z_istore (pc := 118) [(7, _), (10, _), (9, _), (0, _), (1, _), (2, _), (3, _), (4, _), (5, _), (6, _), (8, _)] C dX3_drawsLine_118 (by decide) rfl ?_
          refine z_iinc (pc := 120) (v := nI (i_51 + 1)) [(8, _), (7, _), (10, _), (9, _), (0, _), (1, _), (2, _), (3, _), (4, _), (5, _), (6, _)] C 10 dX3_drawsLine_120 rfl ((nI_succ _).symm) (by decide) rfl ?_
          refine z_goto (pc := 123) 51 C dX3_drawsLine_123 (by decide) ?_
          refine z_lv (lv' := [(0, _), (1, _), (2, _), (3, _), (4, _), (5, _), (6, _), (7, _), (8, _)]) [4, 5, 6, 7, 8, 9, 10, 1, 0] rfl ?_
          have h9 := ih_51 (i_51 + 1) (z_51.1 + (f_X6_joinsRow z_51.2 pat ops cnt (f_X1_numberAt nums osz 0) (f_X3_between (f_X1_numberAt nums osz 2) (f_X1_numberAt nums osz 4) (nI i_51) (f_J9_max_7cf53 (f_J9_abs_0f7a4 ((f_X1_numberAt nums osz 3) - (f_X1_numberAt nums osz 1))) (f_J9_abs_0f7a4 ((f_X1_numberAt nums osz 4) - (f_X1_numberAt nums osz 2))))) (f_X8_spanMask (f_X3_between (f_X1_numberAt nums osz 1) (f_X1_numberAt nums osz 3) (nI i_51) (f_J9_max_7cf53 (f_J9_abs_0f7a4 ((f_X1_numberAt nums osz 3) - (f_X1_numberAt nums osz 1))) (f_J9_abs_0f7a4 ((f_X1_numberAt nums osz 4) - (f_X1_numberAt nums osz 2))))) 1) (-1) (f_X1_numberAt nums osz 5)), g_X6_joinsRow_rows z_51.2 pat ops cnt (f_X1_numberAt nums osz 0) (f_X3_between (f_X1_numberAt nums osz 2) (f_X1_numberAt nums osz 4) (nI i_51) (f_J9_max_7cf53 (f_J9_abs_0f7a4 ((f_X1_numberAt nums osz 3) - (f_X1_numberAt nums osz 1))) (f_J9_abs_0f7a4 ((f_X1_numberAt nums osz 4) - (f_X1_numberAt nums osz 2))))) (f_X8_spanMask (f_X3_between (f_X1_numberAt nums osz 1) (f_X1_numberAt nums osz 3) (nI i_51) (f_J9_max_7cf53 (f_J9_abs_0f7a4 ((f_X1_numberAt nums osz 3) - (f_X1_numberAt nums osz 1))) (f_J9_abs_0f7a4 ((f_X1_numberAt nums osz 4) - (f_X1_numberAt nums osz 2))))) 1) (-1) (f_X1_numberAt nums osz 5)) (by omega) (by simp only [r_X3_drawsLine_51, if_neg c_55] at hF_51; exact hF_51)
          dsimp only at h9
          exact h9
  have h9 := L_51 128 0 (0, rows) (by omega)
  dsimp only at h9
  refine h9 ?_
  clear h9
  show Z X G 11 0 0 (wPt G to ts tl so po source like ++ (wSc G so sr sp sq ((r_X3_drawsLine_51 pat ops cnt nums osz 128 0 (0, rows)).2) pat ops cnt ++ wOr G oo on nums sign kix osz aw)) 126 [(0, .ref to), (1, .ref oo), (2, .int (f_X1_numberAt nums osz 1)), (3, .int (f_X1_numberAt nums osz 2)), (4, .int (f_X1_numberAt nums osz 3)), (5, .int (f_X1_numberAt nums osz 4)), (6, .int (f_J9_max_7cf53 (f_J9_abs_0f7a4 ((f_X1_numberAt nums osz 3) - (f_X1_numberAt nums osz 1))) (f_J9_abs_0f7a4 ((f_X1_numberAt nums osz 4) - (f_X1_numberAt nums osz 2))))), (7, .int ((r_X3_drawsLine_51 pat ops cnt nums osz 128 0 (0, rows)).1))] []
  refine z_iload (pc := 126) C 7 dX3_drawsLine_126 rfl ?_
  exact z_iret (pc := 128) C E dX3_drawsLine_128 (pI.mk rfl rfl)

def f_X3_performs (source : Nat → Int32) (like : Nat → Int32) (rows : Nat → Int32) (pat : Nat → Int32) (ops : Nat → Int32) (cnt : Int32) (left : Nat → Int32) (srow : Nat → Int32) (sdot : Nat → Int32) (nums : Nat → Int32) (sign : Int32) (osz : Int32) : Int32 := if sign = 99 then f_X3_writesLetter rows pat ops cnt nums osz else if sign = 102 then f_X3_floods like rows ops cnt left srow sdot (f_X1_numberAt nums osz 0) (f_X1_numberAt nums osz 1) (f_X1_numberAt nums osz 2) else if sign = 107 then 0 else if sign = 108 then f_X3_drawsLine rows pat ops cnt nums osz else if sign = 109 then f_X3_movesBlock source rows pat ops cnt nums osz else if sign = 111 then 0 else if sign = 114 then f_X3_fillsRectangle rows pat ops cnt nums osz else 0
def g_X3_performs_source (source : Nat → Int32) (rows : Nat → Int32) (nums : Nat → Int32) (sign : Int32) (osz : Int32) : Nat → Int32 := if sign = 99 then source else if sign = 102 then source else if sign = 107 then source else if sign = 108 then source else if sign = 109 then g_X3_movesBlock_source source rows nums osz else source
def g_X3_performs_like (like : Nat → Int32) (rows : Nat → Int32) (ops : Nat → Int32) (cnt : Int32) (left : Nat → Int32) (nums : Nat → Int32) (sign : Int32) (osz : Int32) : Nat → Int32 := if sign = 99 then like else if sign = 102 then g_X3_floods_like like rows ops cnt left (f_X1_numberAt nums osz 0) (f_X1_numberAt nums osz 1) (f_X1_numberAt nums osz 2) else like
def g_X3_performs_rows (source : Nat → Int32) (like : Nat → Int32) (rows : Nat → Int32) (pat : Nat → Int32) (ops : Nat → Int32) (cnt : Int32) (left : Nat → Int32) (srow : Nat → Int32) (sdot : Nat → Int32) (nums : Nat → Int32) (sign : Int32) (osz : Int32) : Nat → Int32 := if sign = 99 then g_X3_writesLetter_rows rows pat ops cnt nums osz else if sign = 102 then g_X3_floods_rows like rows ops cnt left srow sdot (f_X1_numberAt nums osz 0) (f_X1_numberAt nums osz 1) (f_X1_numberAt nums osz 2) else if sign = 107 then rows else if sign = 108 then g_X3_drawsLine_rows rows pat ops cnt nums osz else if sign = 109 then g_X3_movesBlock_rows source rows pat ops cnt nums osz else if sign = 111 then rows else if sign = 114 then g_X3_fillsRectangle_rows rows pat ops cnt nums osz else rows
def g_X3_performs_ops (ops : Nat → Int32) (cnt : Int32) (nums : Nat → Int32) (sign : Int32) (osz : Int32) : Nat → Int32 := if sign = 99 then ops else if sign = 102 then ops else if sign = 107 then ops else if sign = 108 then ops else if sign = 109 then ops else if sign = 111 then g_X6_opens_ops ops cnt (f_X1_numberAt nums osz 0) (f_X1_numberAt nums osz 1) (f_X1_numberAt nums osz 2) (f_X1_numberAt nums osz 3) else ops
def g_X3_performs_cnt (cnt : Int32) (sign : Int32) : Int32 := if sign = 99 then cnt else if sign = 102 then cnt else if sign = 107 then 0 else if sign = 108 then cnt else if sign = 109 then cnt else if sign = 111 then g_X6_opens_cnt cnt else cnt
def g_X3_performs_left (like : Nat → Int32) (rows : Nat → Int32) (ops : Nat → Int32) (cnt : Int32) (left : Nat → Int32) (srow : Nat → Int32) (sdot : Nat → Int32) (nums : Nat → Int32) (sign : Int32) (osz : Int32) : Nat → Int32 := if sign = 99 then left else if sign = 102 then g_X3_floods_left like rows ops cnt left srow sdot (f_X1_numberAt nums osz 0) (f_X1_numberAt nums osz 1) (f_X1_numberAt nums osz 2) else left
def g_X3_performs_srow (like : Nat → Int32) (rows : Nat → Int32) (ops : Nat → Int32) (cnt : Int32) (left : Nat → Int32) (srow : Nat → Int32) (sdot : Nat → Int32) (nums : Nat → Int32) (sign : Int32) (osz : Int32) : Nat → Int32 := if sign = 99 then srow else if sign = 102 then g_X3_floods_srow like rows ops cnt left srow sdot (f_X1_numberAt nums osz 0) (f_X1_numberAt nums osz 1) (f_X1_numberAt nums osz 2) else srow
def g_X3_performs_sdot (like : Nat → Int32) (rows : Nat → Int32) (ops : Nat → Int32) (cnt : Int32) (left : Nat → Int32) (srow : Nat → Int32) (sdot : Nat → Int32) (nums : Nat → Int32) (sign : Int32) (osz : Int32) : Nat → Int32 := if sign = 99 then sdot else if sign = 102 then g_X3_floods_sdot like rows ops cnt left srow sdot (f_X1_numberAt nums osz 0) (f_X1_numberAt nums osz 1) (f_X1_numberAt nums osz 2) else sdot
def g_X3_performs_steps (like : Nat → Int32) (rows : Nat → Int32) (ops : Nat → Int32) (cnt : Int32) (left : Nat → Int32) (srow : Nat → Int32) (sdot : Nat → Int32) (steps : Int32) (nums : Nat → Int32) (sign : Int32) (osz : Int32) : Int32 := if sign = 99 then steps else if sign = 102 then g_X3_floods_steps like rows ops cnt left srow sdot steps (f_X1_numberAt nums osz 0) (f_X1_numberAt nums osz 1) (f_X1_numberAt nums osz 2) else steps
set_option maxRecDepth 100000 in
theorem c_X3_performs {l : Launch} {G : zG} {to ts tl so sr sp sq po pl pr pd oo on : Nat} {source : Nat → Int32} {like : Nat → Int32} {rows : Nat → Int32} {pat : Nat → Int32} {ops : Nat → Int32} {cnt : Int32} {left : Nat → Int32} {srow : Nat → Int32} {sdot : Nat → Int32} {steps : Int32} {nums : Nat → Int32} {sign : Int32} {kix : Nat} {osz : Int32} {aw : Int32} (hc : cOk cnt) (ho : oOk osz) : Ct l G yX3_performs cX3_performs 2 (Option.some FieldType.int) 5 128 [.ref to, .ref oo] (wPt G to ts tl so po source like ++ (wSc G so sr sp sq rows pat ops cnt ++ (wPa G po pl pr pd left srow sdot steps ++ wOr G oo on nums sign kix osz aw))) (pI (f_X3_performs source like rows pat ops cnt left srow sdot nums sign osz) (wPt G to ts tl so po (g_X3_performs_source source rows nums sign osz) (g_X3_performs_like like rows ops cnt left nums sign osz) ++ (wSc G so sr sp sq (g_X3_performs_rows source like rows pat ops cnt left srow sdot nums sign osz) pat (g_X3_performs_ops ops cnt nums sign osz) (g_X3_performs_cnt cnt sign) ++ (wPa G po pl pr pd (g_X3_performs_left like rows ops cnt left srow sdot nums sign osz) (g_X3_performs_srow like rows ops cnt left srow sdot nums sign osz) (g_X3_performs_sdot like rows ops cnt left srow sdot nums sign osz) (g_X3_performs_steps like rows ops cnt left srow sdot steps nums sign osz) ++ wOr G oo on nums sign kix osz aw)))) := by
  refine Ct.of (plainFor_of_name (by decide)) (Nat.le_of_ble_eq_true rfl) (pI.ad (ad_app ad_Pt (ad_app ad_Sc (ad_app ad_Pa ad_Or)))) (fun X C E => ?_)
  show Z X G 2 0 0 _ 0 [(0, .ref to), (1, .ref oo)] []
  refine z_aload_n (pc := 0) C 1 dX3_performs_0 rfl ?_
  refine z_get (pc := 1) C 11 1 dX3_performs_1 rfl rfl i_X1 (by decide) q_212 rfl ?_
  by_cases c_4_99 : sign = 99
  · skip
    refine z_tableIn (pc := 4) 122 C dX3_performs_4 (by rw [c_4_99]; decide) (by rw [c_4_99]; decide) (by rw [c_4_99]; rfl) (by decide) ?_
    refine z_aload_n (pc := 122) C 0 dX3_performs_122 rfl ?_
    refine z_aload_n (pc := 123) C 1 dX3_performs_123 rfl ?_
    refine z_callV (pc := 124) C (c_X3_writesLetter (by assumption) (by assumption)) [0, 1, 2, 3, 4, 5, 6, 11, 12] z00 mV_X3_writesLetter q_558 dX3_performs_124 rfl rfl rfl 0 rfl rfl rfl rfl (Nat.le_of_ble_eq_true rfl) (by decide) (pI.go (ws' := wPt G to ts tl so po source like ++ (wSc G so sr sp sq _ pat ops cnt ++ (wPa G po pl pr pd left srow sdot steps ++ wOr G oo on nums sign kix osz aw))) rfl ?_)
    exact z_iret (pc := 127) C E dX3_performs_127 (pI.mk (by simp only [f_X3_performs, if_pos c_4_99]) (by simp only [g_X3_performs_source, g_X3_performs_like, g_X3_performs_rows, g_X3_performs_ops, g_X3_performs_cnt, g_X3_performs_left, g_X3_performs_srow, g_X3_performs_sdot, g_X3_performs_steps, if_pos c_4_99]))
  by_cases c_4_102 : sign = 102
  · skip
    refine z_tableIn (pc := 4) 96 C dX3_performs_4 (by rw [c_4_102]; decide) (by rw [c_4_102]; decide) (by rw [c_4_102]; rfl) (by decide) ?_
    refine z_aload_n (pc := 96) C 0 dX3_performs_96 rfl ?_
    refine z_aload_n (pc := 97) C 1 dX3_performs_97 rfl ?_
    refine z_iconst (pc := 98) (v := 0) C dX3_performs_98 (by decide) ?_
    refine z_callV (pc := 99) C (c_X1_numberAt (by assumption)) [11, 12] z00 mV_X1_numberAt q_478 dX3_performs_99 rfl rfl rfl 11 rfl rfl rfl rfl (Nat.le_of_ble_eq_true rfl) (by decide) (pI.stay rfl ?_)
    refine z_aload_n (pc := 102) C 1 dX3_performs_102 rfl ?_
    refine z_iconst (pc := 103) (v := 1) C dX3_performs_103 (by decide) ?_
    refine z_callV (pc := 104) C (c_X1_numberAt (by assumption)) [11, 12] z00 mV_X1_numberAt q_478 dX3_performs_104 rfl rfl rfl 11 rfl rfl rfl rfl (Nat.le_of_ble_eq_true rfl) (by decide) (pI.stay rfl ?_)
    refine z_aload_n (pc := 107) C 1 dX3_performs_107 rfl ?_
    refine z_iconst (pc := 108) (v := 2) C dX3_performs_108 (by decide) ?_
    refine z_callV (pc := 109) C (c_X1_numberAt (by assumption)) [11, 12] z00 mV_X1_numberAt q_478 dX3_performs_109 rfl rfl rfl 11 rfl rfl rfl rfl (Nat.le_of_ble_eq_true rfl) (by decide) (pI.stay rfl ?_)
    refine z_callV (pc := 112) C (c_X3_floods (by assumption)) [0, 1, 2, 3, 4, 5, 6, 7, 8, 9, 10] z00 mV_X3_floods q_530 dX3_performs_112 rfl rfl rfl 0 rfl rfl rfl rfl (Nat.le_of_ble_eq_true rfl) (by decide) (pI.go (ws' := wPt G to ts tl so po source _ ++ (wSc G so sr sp sq _ pat ops cnt ++ (wPa G po pl pr pd _ _ _ _ ++ wOr G oo on nums sign kix osz aw))) rfl ?_)
    exact z_iret (pc := 115) C E dX3_performs_115 (pI.mk (by simp only [f_X3_performs, if_neg c_4_99, if_pos c_4_102]) (by simp only [g_X3_performs_source, g_X3_performs_like, g_X3_performs_rows, g_X3_performs_ops, g_X3_performs_cnt, g_X3_performs_left, g_X3_performs_srow, g_X3_performs_sdot, g_X3_performs_steps, if_neg c_4_99, if_pos c_4_102]))
  by_cases c_4_107 : sign = 107
  · skip
    refine z_tableIn (pc := 4) 157 C dX3_performs_4 (by rw [c_4_107]; decide) (by rw [c_4_107]; decide) (by rw [c_4_107]; rfl) (by decide) ?_
    refine z_aload_n (pc := 157) C 0 dX3_performs_157 rfl ?_
    refine z_get (pc := 158) C 0 0 dX3_performs_158 rfl rfl i_X3 (by decide) q_162 rfl ?_
    refine z_iconst (pc := 161) (v := 0) C dX3_performs_161 (by decide) ?_
    refine z_put (pc := 162) (wPt G to ts tl so po source like ++ (wSc G so sr sp sq rows pat ops _ ++ (wPa G po pl pr pd left srow sdot steps ++ wOr G oo on nums sign kix osz aw))) C 3 3 dX3_performs_162 rfl rfl i_X6 tyX6_ok nmX6 (by decide) q_103 rfl rfl rfl rfl (Nat.le_of_ble_eq_true rfl) rfl ?_
    refine z_iconst (pc := 165) (v := 0) C dX3_performs_165 (by decide) ?_
    exact z_iret (pc := 166) C E dX3_performs_166 (pI.mk (by simp only [f_X3_performs, if_neg c_4_99, if_neg c_4_102, if_pos c_4_107]) (by simp only [g_X3_performs_source, g_X3_performs_like, g_X3_performs_rows, g_X3_performs_ops, g_X3_performs_cnt, g_X3_performs_left, g_X3_performs_srow, g_X3_performs_sdot, g_X3_performs_steps, if_neg c_4_99, if_neg c_4_102, if_pos c_4_107]))
  by_cases c_4_108 : sign = 108
  · skip
    refine z_tableIn (pc := 4) 90 C dX3_performs_4 (by rw [c_4_108]; decide) (by rw [c_4_108]; decide) (by rw [c_4_108]; rfl) (by decide) ?_
    refine z_aload_n (pc := 90) C 0 dX3_performs_90 rfl ?_
    refine z_aload_n (pc := 91) C 1 dX3_performs_91 rfl ?_
    refine z_callV (pc := 92) C (c_X3_drawsLine (by assumption) (by assumption)) [0, 1, 2, 3, 4, 5, 6, 11, 12] z00 mV_X3_drawsLine q_516 dX3_performs_92 rfl rfl rfl 0 rfl rfl rfl rfl (Nat.le_of_ble_eq_true rfl) (by decide) (pI.go (ws' := wPt G to ts tl so po source like ++ (wSc G so sr sp sq _ pat ops cnt ++ (wPa G po pl pr pd left srow sdot steps ++ wOr G oo on nums sign kix osz aw))) rfl ?_)
    exact z_iret (pc := 95) C E dX3_performs_95 (pI.mk (by simp only [f_X3_performs, if_neg c_4_99, if_neg c_4_102, if_neg c_4_107, if_pos c_4_108]) (by simp only [g_X3_performs_source, g_X3_performs_like, g_X3_performs_rows, g_X3_performs_ops, g_X3_performs_cnt, g_X3_performs_left, g_X3_performs_srow, g_X3_performs_sdot, g_X3_performs_steps, if_neg c_4_99, if_neg c_4_102, if_neg c_4_107, if_pos c_4_108]))
  by_cases c_4_109 : sign = 109
  · skip
    refine z_tableIn (pc := 4) 84 C dX3_performs_4 (by rw [c_4_109]; decide) (by rw [c_4_109]; decide) (by rw [c_4_109]; rfl) (by decide) ?_
    refine z_aload_n (pc := 84) C 0 dX3_performs_84 rfl ?_
    refine z_aload_n (pc := 85) C 1 dX3_performs_85 rfl ?_
    refine z_callV (pc := 86) C (c_X3_movesBlock (by assumption) (by assumption)) [0, 1, 2, 3, 4, 5, 6, 11, 12] z00 mV_X3_movesBlock q_474 dX3_performs_86 rfl rfl rfl 0 rfl rfl rfl rfl (Nat.le_of_ble_eq_true rfl) (by decide) (pI.go (ws' := wPt G to ts tl so po _ like ++ (wSc G so sr sp sq _ pat ops cnt ++ (wPa G po pl pr pd left srow sdot steps ++ wOr G oo on nums sign kix osz aw))) rfl ?_)
    exact z_iret (pc := 89) C E dX3_performs_89 (pI.mk (by simp only [f_X3_performs, if_neg c_4_99, if_neg c_4_102, if_neg c_4_107, if_neg c_4_108, if_pos c_4_109]) (by simp only [g_X3_performs_source, g_X3_performs_like, g_X3_performs_rows, g_X3_performs_ops, g_X3_performs_cnt, g_X3_performs_left, g_X3_performs_srow, g_X3_performs_sdot, g_X3_performs_steps, if_neg c_4_99, if_neg c_4_102, if_neg c_4_107, if_neg c_4_108, if_pos c_4_109]))
  by_cases c_4_111 : sign = 111
  · skip
    refine z_tableIn (pc := 4) 128 C dX3_performs_4 (by rw [c_4_111]; decide) (by rw [c_4_111]; decide) (by rw [c_4_111]; rfl) (by decide) ?_
    refine z_aload_n (pc := 128) C 0 dX3_performs_128 rfl ?_
    refine z_get (pc := 129) C 0 0 dX3_performs_129 rfl rfl i_X3 (by decide) q_162 rfl ?_
    refine z_aload_n (pc := 132) C 1 dX3_performs_132 rfl ?_
    refine z_iconst (pc := 133) (v := 0) C dX3_performs_133 (by decide) ?_
    refine z_callV (pc := 134) C (c_X1_numberAt (by assumption)) [11, 12] z00 mV_X1_numberAt q_478 dX3_performs_134 rfl rfl rfl 11 rfl rfl rfl rfl (Nat.le_of_ble_eq_true rfl) (by decide) (pI.stay rfl ?_)
    refine z_aload_n (pc := 137) C 1 dX3_performs_137 rfl ?_
    refine z_iconst (pc := 138) (v := 1) C dX3_performs_138 (by decide) ?_
    refine z_callV (pc := 139) C (c_X1_numberAt (by assumption)) [11, 12] z00 mV_X1_numberAt q_478 dX3_performs_139 rfl rfl rfl 11 rfl rfl rfl rfl (Nat.le_of_ble_eq_true rfl) (by decide) (pI.stay rfl ?_)
    refine z_aload_n (pc := 142) C 1 dX3_performs_142 rfl ?_
    refine z_iconst (pc := 143) (v := 2) C dX3_performs_143 (by decide) ?_
    refine z_callV (pc := 144) C (c_X1_numberAt (by assumption)) [11, 12] z00 mV_X1_numberAt q_478 dX3_performs_144 rfl rfl rfl 11 rfl rfl rfl rfl (Nat.le_of_ble_eq_true rfl) (by decide) (pI.stay rfl ?_)
    refine z_aload_n (pc := 147) C 1 dX3_performs_147 rfl ?_
    refine z_iconst (pc := 148) (v := 3) C dX3_performs_148 (by decide) ?_
    refine z_callV (pc := 149) C (c_X1_numberAt (by assumption)) [11, 12] z00 mV_X1_numberAt q_478 dX3_performs_149 rfl rfl rfl 11 rfl rfl rfl rfl (Nat.le_of_ble_eq_true rfl) (by decide) (pI.stay rfl ?_)
    refine z_callV (pc := 152) C (c_X6_opens (by assumption)) [3, 4, 5, 6] z00 mV_X6_opens q_565 dX3_performs_152 rfl rfl rfl 3 rfl rfl rfl rfl (Nat.le_of_ble_eq_true rfl) (by decide) (pV.go (ws' := wPt G to ts tl so po source like ++ (wSc G so sr sp sq rows pat _ _ ++ (wPa G po pl pr pd left srow sdot steps ++ wOr G oo on nums sign kix osz aw))) rfl ?_)
    refine z_iconst (pc := 155) (v := 0) C dX3_performs_155 (by decide) ?_
    exact z_iret (pc := 156) C E dX3_performs_156 (pI.mk (by simp only [f_X3_performs, if_neg c_4_99, if_neg c_4_102, if_neg c_4_107, if_neg c_4_108, if_neg c_4_109, if_pos c_4_111]) (by simp only [g_X3_performs_source, g_X3_performs_like, g_X3_performs_rows, g_X3_performs_ops, g_X3_performs_cnt, g_X3_performs_left, g_X3_performs_srow, g_X3_performs_sdot, g_X3_performs_steps, if_neg c_4_99, if_neg c_4_102, if_neg c_4_107, if_neg c_4_108, if_neg c_4_109, if_pos c_4_111]))
  by_cases c_4_114 : sign = 114
  · skip
    refine z_tableIn (pc := 4) 116 C dX3_performs_4 (by rw [c_4_114]; decide) (by rw [c_4_114]; decide) (by rw [c_4_114]; rfl) (by decide) ?_
    refine z_aload_n (pc := 116) C 0 dX3_performs_116 rfl ?_
    refine z_aload_n (pc := 117) C 1 dX3_performs_117 rfl ?_
    refine z_callV (pc := 118) C (c_X3_fillsRectangle (by assumption) (by assumption)) [0, 1, 2, 3, 4, 5, 6, 11, 12] z00 mV_X3_fillsRectangle q_554 dX3_performs_118 rfl rfl rfl 0 rfl rfl rfl rfl (Nat.le_of_ble_eq_true rfl) (by decide) (pI.go (ws' := wPt G to ts tl so po source like ++ (wSc G so sr sp sq _ pat ops cnt ++ (wPa G po pl pr pd left srow sdot steps ++ wOr G oo on nums sign kix osz aw))) rfl ?_)
    exact z_iret (pc := 121) C E dX3_performs_121 (pI.mk (by simp only [f_X3_performs, if_neg c_4_99, if_neg c_4_102, if_neg c_4_107, if_neg c_4_108, if_neg c_4_109, if_neg c_4_111, if_pos c_4_114]) (by simp only [g_X3_performs_source, g_X3_performs_like, g_X3_performs_rows, g_X3_performs_ops, g_X3_performs_cnt, g_X3_performs_left, g_X3_performs_srow, g_X3_performs_sdot, g_X3_performs_steps, if_neg c_4_99, if_neg c_4_102, if_neg c_4_107, if_neg c_4_108, if_neg c_4_109, if_neg c_4_111, if_pos c_4_114]))
  refine z_tableD (pc := 4) 167 C dX3_performs_4 [99, 102, 107, 108, 109, 111, 114] (by decide) (List.forall_mem_cons.mpr ⟨lv_neT c_4_99 rfl, List.forall_mem_cons.mpr ⟨lv_neT c_4_102 rfl, List.forall_mem_cons.mpr ⟨lv_neT c_4_107 rfl, List.forall_mem_cons.mpr ⟨lv_neT c_4_108 rfl, List.forall_mem_cons.mpr ⟨lv_neT c_4_109 rfl, List.forall_mem_cons.mpr ⟨lv_neT c_4_111 rfl, List.forall_mem_cons.mpr ⟨lv_neT c_4_114 rfl, fun _ h => absurd h List.not_mem_nil⟩⟩⟩⟩⟩⟩⟩) (by decide) ?_
  refine z_iconst (pc := 167) (v := 0) C dX3_performs_167 (by decide) ?_
  exact z_iret (pc := 168) C E dX3_performs_168 (pI.mk (by simp only [f_X3_performs, if_neg c_4_99, if_neg c_4_102, if_neg c_4_107, if_neg c_4_108, if_neg c_4_109, if_neg c_4_111, if_neg c_4_114]) (by simp only [g_X3_performs_source, g_X3_performs_like, g_X3_performs_rows, g_X3_performs_ops, g_X3_performs_cnt, g_X3_performs_left, g_X3_performs_srow, g_X3_performs_sdot, g_X3_performs_steps, if_neg c_4_99, if_neg c_4_102, if_neg c_4_107, if_neg c_4_108, if_neg c_4_109, if_neg c_4_111, if_neg c_4_114]))

theorem cOk_opens {cnt : Int32} (h : cOk cnt) : cOk (g_X6_opens_cnt cnt) := by
  unfold g_X6_opens_cnt
  split
  · rename_i h4
    have h5 := Int32.lt_iff_toInt_lt.mp h4
    have e4 : (4 : Int32).toInt = 4 := rfl
    have e1 : (1 : Int32).toInt = 1 := rfl
    obtain ⟨a, b⟩ := h
    unfold cOk
    rw [tI_add (by omega) (by omega)]; omega
  · exact h
theorem cOk_0 : cOk 0 := ⟨by decide, by decide⟩
