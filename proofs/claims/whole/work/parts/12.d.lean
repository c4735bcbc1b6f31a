/-- a height, as it may be told -/
def hOk (h : Int32) : Prop := 0 ≤ h.toInt ∧ h.toInt ≤ 64
theorem hOk_nI {h : Int32} (q : hOk h) : h = nI h.toNatClampNeg ∧ h.toNatClampNeg ≤ 64 := by
  have e : (h.toNatClampNeg : Int) = h.toInt := Int.toNat_of_nonneg q.1
  refine ⟨?_, by have := q.2; omega⟩
  rw [← Int32.toInt_inj, nI_toInt (by have := q.2; omega)]
  exact e.symm
theorem hOk_32 : hOk 32 := ⟨by decide, by decide⟩
theorem hOk_24 : hOk 24 := ⟨by decide, by decide⟩
/-- a block's side -/
def kOk (h : Int32) : Prop := 1 ≤ h.toInt ∧ h.toInt ≤ 8
theorem kOk_nI {h : Int32} (q : kOk h) : h = nI h.toNatClampNeg ∧ 1 ≤ h.toNatClampNeg ∧ h.toNatClampNeg ≤ 8 := by
  have e : (h.toNatClampNeg : Int) = h.toInt := Int.toNat_of_nonneg (by have := q.1; omega)
  refine ⟨?_, by have := q.1; omega, by have := q.2; omega⟩
  rw [← Int32.toInt_inj, nI_toInt (by have := q.2; omega)]
  exact e.symm
theorem dn1 (a : Int32) (i : Nat) : a - nI i + Int32.ofInt (-1) = a - nI (i + 1) := by
  rw [nI_succ]
  have e : (Int32.ofInt (-1)) = -1 := by decide
  rw [e, Int32.sub_eq_add_neg, Int32.sub_eq_add_neg, Int32.neg_add, Int32.sub_eq_add_neg, Int32.add_assoc]
theorem dn_ge {a i : Nat} (ha : a < 2 ^ 30) (h : i ≤ a) : ¬ nI a - nI i < 0 := by
  rw [Int32.lt_iff_toInt_lt, pk_sub h, nI_toInt (by omega)]
  have e0 : (0 : Int32).toInt = 0 := rfl
  omega
theorem dn_lt {a : Nat} (ha : a < 2 ^ 29) : nI a - nI (a + 1) < 0 := pk_sneg (by omega) (by omega)
theorem gt_s {x : Int32} {n i : Nat} (h : x = nI n) (hi : i < n + 1) (hn : n < 2 ^ 31) : ¬ x < nI i := by rw [h]; exact nI_nlt (by omega) (by omega)
theorem gt_x {x : Int32} {n : Nat} (h : x = nI n) (hn : n + 1 < 2 ^ 31) : x < nI (n + 1) := by rw [h]; exact nI_lt (by omega) hn
theorem kOk_24 {h : Int32} (q : kOk h) : 24 - h = nI (24 - h.toNatClampNeg) := by
  have e := kOk_nI q
  rw [← pk_sub (by omega), ← e.1]; rfl

def b_X0_onesWithin_14 (rows : Nat → Int32) (t : Int32) (x : Int32) (y : Int32) (w : Int32) (i_14 : Nat) (z_14 : Int32) : Int32 := z_14 + (f_J6_bitCount_0f7a4 ((f_X6_rowAt rows t (y + (nI i_14))) &&& (f_X8_spanMask x w)))
def s_X0_onesWithin_14 (rows : Nat → Int32) (t : Int32) (x : Int32) (y : Int32) (w : Int32) : Nat → Int32
  | 0 => 0
  | i_14 + 1 => b_X0_onesWithin_14 rows t x y w i_14 (s_X0_onesWithin_14 rows t x y w i_14)
def f_X0_onesWithin (rows : Nat → Int32) (t : Int32) (x : Int32) (y : Int32) (w : Int32) (h : Int32) : Int32 := (s_X0_onesWithin_14 rows t x y w h.toNatClampNeg)
set_option maxRecDepth 100000 in
theorem c_X0_onesWithin {l : Launch} {G : zG} {mo mb so sr sp sq po : Nat} {block : Nat → Int32} {rows : Nat → Int32} {pat : Nat → Int32} {ops : Nat → Int32} {cnt : Int32} {t : Int32} {x : Int32} {y : Int32} {w : Int32} {h : Int32} (hh : hOk h) : Ct l G yX0_onesWithin cX0_onesWithin 9 (Option.some FieldType.int) 3 64 [.ref mo, .int t, .int x, .int y, .int w, .int h] (wMe G mo mb so po block ++ wSc G so sr sp sq rows pat ops cnt) (pI (f_X0_onesWithin rows t x y w h) (wMe G mo mb so po block ++ wSc G so sr sp sq rows pat ops cnt)) := by
  refine Ct.of (plainFor_of_name (by decide)) (Nat.le_of_ble_eq_true rfl) (pI.ad (ad_app ad_Me ad_Sc)) (fun X C E => ?_)
  show Z X G 9 0 0 _ 0 [(0, .ref mo), (1, .int t), (2, .int x), (3, .int y), (4, .int w), (5, .int h)] []
  have hk := hOk_nI hh
  refine z_iload_n (pc := 0) C 2 dX0_onesWithin_0 rfl ?_
  refine z_iload (pc := 1) C 4 dX0_onesWithin_1 rfl ?_
  refine z_callSN (pc := 3) C (c_X8_spanMask) [] z00 mS_X8_spanMask q_368 dX0_onesWithin_3 rfl rfl rfl rfl (Nat.le_of_ble_eq_true rfl) (by decide) (pI.stay rfl ?_)
  refine z_istore (pc := 6) [(6, _), (0, _), (1, _), (2, _), (3, _), (4, _), (5, _)] C dX0_onesWithin_6 (by decide) rfl ?_
  refine z_iconst (pc := 8) (v := 0) C dX0_onesWithin_8 (by decide) ?_
  refine z_istore (pc := 9) [(7, _), (6, _), (0, _), (1, _), (2, _), (3, _), (4, _), (5, _)] C dX0_onesWithin_9 (by decide) rfl ?_
  refine z_iconst (pc := 11) (v := 0) C dX0_onesWithin_11 (by decide) ?_
  refine z_istore (pc := 12) [(8, _), (7, _), (6, _), (0, _), (1, _), (2, _), (3, _), (4, _), (5, _)] C dX0_onesWithin_12 (by decide) rfl ?_
  refine z_lv (lv' := [(0, _), (1, _), (2, _), (3, _), (4, _), (5, _), (6, _), (7, _), (8, _)]) [3, 4, 5, 6, 7, 8, 2, 1, 0] rfl ?_
  refine z_loop (pc := 14) (e := h.toNatClampNeg) (fun i_14 => wMe G mo mb so po block ++ wSc G so sr sp sq rows pat ops cnt) (fun i_14 => [(0, .ref mo), (1, .int t), (2, .int x), (3, .int y), (4, .int w), (5, .int h), (6, .int (f_X8_spanMask x w)), (7, .int (s_X0_onesWithin_14 rows t x y w i_14)), (8, .int (nI i_14))]) [] (fun i_14 hi_14 ih_14 => ?_) ?_ 0 (Nat.zero_le _)
  · show Z X G 9 0 0 (wMe G mo mb so po block ++ wSc G so sr sp sq rows pat ops cnt) 14 [(0, .ref mo), (1, .int t), (2, .int x), (3, .int y), (4, .int w), (5, .int h), (6, .int (f_X8_spanMask x w)), (7, .int (s_X0_onesWithin_14 rows t x y w i_14)), (8, .int (nI i_14))] []
    generalize hz_14 : s_X0_onesWithin_14 rows t x y w i_14 = z_14
    refine z_iload (pc := 14) C 8 dX0_onesWithin_14 rfl ?_
    refine z_iload (pc := 16) C 5 dX0_onesWithin_16 rfl ?_
    refine z_icmp_ge (pc := 18) 57 C dX0_onesWithin_18 (by decide) (fun c_18 => ?_) (fun c_18 => ?_)
    · skip
      exact absurd c_18 (lps (hk.1) (by omega) (by omega))
    · skip
      refine z_iload (pc := 21) C 8 dX0_onesWithin_21 rfl ?_
      refine z_bipush (pc := 23) (v := 64) C dX0_onesWithin_23 (by decide) ?_
      refine z_icmp_ge (pc := 25) 57 C dX0_onesWithin_25 (by decide) (fun c_25 => ?_) (fun c_25 => ?_)
      · skip
        exact absurd c_25 (nI_ge (b := 64) (by omega) (by decide))
      · skip
        refine z_iload (pc := 28) C 7 dX0_onesWithin_28 rfl ?_
        refine z_aload_n (pc := 30) C 0 dX0_onesWithin_30 rfl ?_
        refine z_get (pc := 31) C 0 0 dX0_onesWithin_31 rfl rfl i_X0 (by decide) q_194 rfl ?_
        refine z_iload_n (pc := 34) C 1 dX0_onesWithin_34 rfl ?_
        refine z_iload_n (pc := 35) C 3 dX0_onesWithin_35 rfl ?_
        refine z_iload (pc := 36) C 8 dX0_onesWithin_36 rfl ?_
        refine z_iadd (pc := 38) C dX0_onesWithin_38 ?_
        refine z_callV (pc := 39) C (c_X6_rowAt) [2, 3, 4, 5] z00 mV_X6_rowAt q_375 dX0_onesWithin_39 rfl rfl rfl 2 rfl rfl rfl rfl (Nat.le_of_ble_eq_true rfl) (by decide) (pI.stay rfl ?_)
        refine z_iload (pc := 42) C 6 dX0_onesWithin_42 rfl ?_
        refine z_iand (pc := 44) C dX0_onesWithin_44 ?_
        refine z_callS (pc := 45) C (c_J6_bitCount_0f7a4) [] z00 mS_J6_bitCount_0f7a4 q_376 dX0_onesWithin_45 rfl rfl rfl rfl (Nat.le_of_ble_eq_true rfl) (by decide) (pI.stay rfl ?_)
        refine z_iadd (pc := 48) C dX0_onesWithin_48 ?_
        refine z_istore (pc := 49) [(7, _), (0, _), (1, _), (2, _), (3, _), (4, _), (5, _), (6, _), (8, _)] C dX0_onesWithin_49 (by decide) rfl ?_
        refine z_iinc (pc := 51) (v := nI (i_14 + 1)) [(8, _), (7, _), (0, _), (1, _), (2, _), (3, _), (4, _), (5, _), (6, _)] C 8 dX0_onesWithin_51 rfl ((nI_succ _).symm) (by decide) rfl ?_
        refine z_goto (pc := 54) 14 C dX0_onesWithin_54 (by decide) ?_
        refine z_lv (lv' := [(0, _), (1, _), (2, _), (3, _), (4, _), (5, _), (6, _), (7, _), (8, _)]) [2, 3, 4, 5, 6, 7, 8, 1, 0] rfl ?_
        exact z_eq rfl (by simp only [s_X0_onesWithin_14, hz_14, b_X0_onesWithin_14]) rfl ih_14
  · show Z X G 9 0 0 (wMe G mo mb so po block ++ wSc G so sr sp sq rows pat ops cnt) 14 [(0, .ref mo), (1, .int t), (2, .int x), (3, .int y), (4, .int w), (5, .int h), (6, .int (f_X8_spanMask x w)), (7, .int (s_X0_onesWithin_14 rows t x y w h.toNatClampNeg)), (8, .int (nI h.toNatClampNeg))] []
    refine z_iload (pc := 14) C 8 dX0_onesWithin_14 rfl ?_
    refine z_iload (pc := 16) C 5 dX0_onesWithin_16 rfl ?_
    refine z_icmp_ge (pc := 18) 57 C dX0_onesWithin_18 (by decide) (fun c_18 => ?_) (fun c_18 => ?_)
    · skip
      refine z_iload (pc := 57) C 7 dX0_onesWithin_57 rfl ?_
      exact z_iret (pc := 59) C E dX0_onesWithin_59 (pI.mk rfl rfl)
    · skip
      exact absurd (lpx (hk.1)) c_18

def f_X0_ones (rows : Nat → Int32) (t : Int32) : Int32 := f_X0_onesWithin rows t 0 0 32 24
set_option maxRecDepth 100000 in
theorem c_X0_ones {l : Launch} {G : zG} {mo mb so sr sp sq po : Nat} {block : Nat → Int32} {rows : Nat → Int32} {pat : Nat → Int32} {ops : Nat → Int32} {cnt : Int32} {t : Int32} : Ct l G yX0_ones cX0_ones 2 (Option.some FieldType.int) 4 92 [.ref mo, .int t] (wMe G mo mb so po block ++ wSc G so sr sp sq rows pat ops cnt) (pI (f_X0_ones rows t) (wMe G mo mb so po block ++ wSc G so sr sp sq rows pat ops cnt)) := by
  refine Ct.of (plainFor_of_name (by decide)) (Nat.le_of_ble_eq_true rfl) (pI.ad (ad_app ad_Me ad_Sc)) (fun X C E => ?_)
  show Z X G 2 0 0 _ 0 [(0, .ref mo), (1, .int t)] []
  refine z_aload_n (pc := 0) C 0 dX0_ones_0 rfl ?_
  refine z_iload_n (pc := 1) C 1 dX0_ones_1 rfl ?_
  refine z_iconst (pc := 2) (v := 0) C dX0_ones_2 (by decide) ?_
  refine z_iconst (pc := 3) (v := 0) C dX0_ones_3 (by decide) ?_
  refine z_bipush (pc := 4) (v := 32) C dX0_ones_4 (by decide) ?_
  refine z_bipush (pc := 6) (v := 24) C dX0_ones_6 (by decide) ?_
  refine z_callV (pc := 8) C (c_X0_onesWithin (by exact hOk_24)) [0, 1, 2, 3, 4, 5] z00 mV_X0_onesWithin q_364 dX0_ones_8 rfl rfl rfl 0 rfl rfl rfl rfl (Nat.le_of_ble_eq_true rfl) (by decide) (pI.stay rfl ?_)
  exact z_iret (pc := 11) C E dX0_ones_11 (pI.mk rfl rfl)

def b_X0_unlikeDots_5 (rows : Nat → Int32) (s : Int32) (t : Int32) (i_5 : Nat) (z_5 : Int32) : Int32 := z_5 + (f_J6_bitCount_0f7a4 ((f_X6_rowAt rows s (nI i_5)) ^^^ (f_X6_rowAt rows t (nI i_5))))
def s_X0_unlikeDots_5 (rows : Nat → Int32) (s : Int32) (t : Int32) : Nat → Int32
  | 0 => 0
  | i_5 + 1 => b_X0_unlikeDots_5 rows s t i_5 (s_X0_unlikeDots_5 rows s t i_5)
def f_X0_unlikeDots (rows : Nat → Int32) (s : Int32) (t : Int32) : Int32 := (s_X0_unlikeDots_5 rows s t 24)
set_option maxRecDepth 100000 in
theorem c_X0_unlikeDots {l : Launch} {G : zG} {mo mb so sr sp sq po : Nat} {block : Nat → Int32} {rows : Nat → Int32} {pat : Nat → Int32} {ops : Nat → Int32} {cnt : Int32} {s : Int32} {t : Int32} : Ct l G yX0_unlikeDots cX0_unlikeDots 5 (Option.some FieldType.int) 3 64 [.ref mo, .int s, .int t] (wMe G mo mb so po block ++ wSc G so sr sp sq rows pat ops cnt) (pI (f_X0_unlikeDots rows s t) (wMe G mo mb so po block ++ wSc G so sr sp sq rows pat ops cnt)) := by
  refine Ct.of (plainFor_of_name (by decide)) (Nat.le_of_ble_eq_true rfl) (pI.ad (ad_app ad_Me ad_Sc)) (fun X C E => ?_)
  show Z X G 5 0 0 _ 0 [(0, .ref mo), (1, .int s), (2, .int t)] []
  refine z_iconst (pc := 0) (v := 0) C dX0_unlikeDots_0 (by decide) ?_
  refine z_istore_n (pc := 1) [(3, _), (0, _), (1, _), (2, _)] C dX0_unlikeDots_1 rfl (by decide) rfl ?_
  refine z_iconst (pc := 2) (v := 0) C dX0_unlikeDots_2 (by decide) ?_
  refine z_istore (pc := 3) [(4, _), (3, _), (0, _), (1, _), (2, _)] C dX0_unlikeDots_3 (by decide) rfl ?_
  refine z_lv (lv' := [(0, _), (1, _), (2, _), (3, _), (4, _)]) [2, 3, 4, 1, 0] rfl ?_
  refine z_loop (pc := 5) (e := 24) (fun i_5 => wMe G mo mb so po block ++ wSc G so sr sp sq rows pat ops cnt) (fun i_5 => [(0, .ref mo), (1, .int s), (2, .int t), (3, .int (s_X0_unlikeDots_5 rows s t i_5)), (4, .int (nI i_5))]) [] (fun i_5 hi_5 ih_5 => ?_) ?_ 0 (Nat.zero_le _)
  · show Z X G 5 0 0 (wMe G mo mb so po block ++ wSc G so sr sp sq rows pat ops cnt) 5 [(0, .ref mo), (1, .int s), (2, .int t), (3, .int (s_X0_unlikeDots_5 rows s t i_5)), (4, .int (nI i_5))] []
    generalize hz_5 : s_X0_unlikeDots_5 rows s t i_5 = z_5
    refine z_iload (pc := 5) C 4 dX0_unlikeDots_5 rfl ?_
    refine z_bipush (pc := 7) (v := 24) C dX0_unlikeDots_7 (by decide) ?_
    refine z_icmp_ge (pc := 9) 45 C dX0_unlikeDots_9 (by decide) (fun c_9 => ?_) (fun c_9 => ?_)
    · skip
      exact absurd c_9 (nI_ge (b := 24) (by omega) (by decide))
    · skip
      refine z_iload_n (pc := 12) C 3 dX0_unlikeDots_12 rfl ?_
      refine z_aload_n (pc := 13) C 0 dX0_unlikeDots_13 rfl ?_
      refine z_get (pc := 14) C 0 0 dX0_unlikeDots_14 rfl rfl i_X0 (by decide) q_194 rfl ?_
      refine z_iload_n (pc := 17) C 1 dX0_unlikeDots_17 rfl ?_
      refine z_iload (pc := 18) C 4 dX0_unlikeDots_18 rfl ?_
      refine z_callV (pc := 20) C (c_X6_rowAt) [2, 3, 4, 5] z00 mV_X6_rowAt q_375 dX0_unlikeDots_20 rfl rfl rfl 2 rfl rfl rfl rfl (Nat.le_of_ble_eq_true rfl) (by decide) (pI.stay rfl ?_)
      refine z_aload_n (pc := 23) C 0 dX0_unlikeDots_23 rfl ?_
      refine z_get (pc := 24) C 0 0 dX0_unlikeDots_24 rfl rfl i_X0 (by decide) q_194 rfl ?_
      refine z_iload_n (pc := 27) C 2 dX0_unlikeDots_27 rfl ?_
      refine z_iload (pc := 28) C 4 dX0_unlikeDots_28 rfl ?_
      refine z_callV (pc := 30) C (c_X6_rowAt) [2, 3, 4, 5] z00 mV_X6_rowAt q_375 dX0_unlikeDots_30 rfl rfl rfl 2 rfl rfl rfl rfl (Nat.le_of_ble_eq_true rfl) (by decide) (pI.stay rfl ?_)
      refine z_ixor (pc := 33) C dX0_unlikeDots_33 ?_
      refine z_callS (pc := 34) C (c_J6_bitCount_0f7a4) [] z00 mS_J6_bitCount_0f7a4 q_376 dX0_unlikeDots_34 rfl rfl rfl rfl (Nat.le_of_ble_eq_true rfl) (by decide) (pI.stay rfl ?_)
      refine z_iadd (pc := 37) C dX0_unlikeDots_37 ?_
      refine z_istore_n (pc := 38) [(3, _), (0, _), (1, _), (2, _), (4, _)] C dX0_unlikeDots_38 rfl (by decide) rfl ?_
      refine z_iinc (pc := 39) (v := nI (i_5 + 1)) [(4, _), (3, _), (0, _), (1, _), (2, _)] C 4 dX0_unlikeDots_39 rfl ((nI_succ _).symm) (by decide) rfl ?_
      refine z_goto (pc := 42) 5 C dX0_unlikeDots_42 (by decide) ?_
      refine z_lv (lv' := [(0, _), (1, _), (2, _), (3, _), (4, _)]) [2, 3, 4, 1, 0] rfl ?_
      exact z_eq rfl (by simp only [s_X0_unlikeDots_5, hz_5, b_X0_unlikeDots_5]) rfl ih_5
  · show Z X G 5 0 0 (wMe G mo mb so po block ++ wSc G so sr sp sq rows pat ops cnt) 5 [(0, .ref mo), (1, .int s), (2, .int t), (3, .int (s_X0_unlikeDots_5 rows s t 24)), (4, .int (nI 24))] []
    refine z_iload (pc := 5) C 4 dX0_unlikeDots_5 rfl ?_
    refine z_bipush (pc := 7) (v := 24) C dX0_unlikeDots_7 (by decide) ?_
    refine z_icmp_ge (pc := 9) 45 C dX0_unlikeDots_9 (by decide) (fun c_9 => ?_) (fun c_9 => ?_)
    · skip
      refine z_iload_n (pc := 45) C 3 dX0_unlikeDots_45 rfl ?_
      exact z_iret (pc := 46) C E dX0_unlikeDots_46 (pI.mk rfl rfl)
    · skip
      exact absurd (nI_le (Nat.le_refl 24) (by decide)) c_9

def b_X0_takesBlock_3 (rows : Nat → Int32) (s : Int32) (x : Int32) (y : Int32) (i_3 : Nat) (z_3 : (Nat → Int32)) : (Nat → Int32) := upd z_3 (nI i_3).toNatClampNeg (f_X8_shifted (f_X6_rowAt rows s (y + (nI i_3))) (-x))
def s_X0_takesBlock_3 (block : Nat → Int32) (rows : Nat → Int32) (s : Int32) (x : Int32) (y : Int32) : Nat → (Nat → Int32)
  | 0 => block
  | i_3 + 1 => b_X0_takesBlock_3 rows s x y i_3 (s_X0_takesBlock_3 block rows s x y i_3)
def g_X0_takesBlock_block (block : Nat → Int32) (rows : Nat → Int32) (s : Int32) (x : Int32) (y : Int32) (h : Int32) : Nat → Int32 := (s_X0_takesBlock_3 block rows s x y h.toNatClampNeg)
set_option maxRecDepth 100000 in
theorem c_X0_takesBlock {l : Launch} {G : zG} {mo mb so sr sp sq po : Nat} {block : Nat → Int32} {rows : Nat → Int32} {pat : Nat → Int32} {ops : Nat → Int32} {cnt : Int32} {s : Int32} {x : Int32} {y : Int32} {h : Int32} (hh : kOk h) : Ct l G yX0_takesBlock cX0_takesBlock 6 (Option.none : Option Jvm.ClassFile.FieldType) 3 64 [.ref mo, .int s, .int x, .int y, .int h] (wMe G mo mb so po block ++ wSc G so sr sp sq rows pat ops cnt) (pV (wMe G mo mb so po (g_X0_takesBlock_block block rows s x y h) ++ wSc G so sr sp sq rows pat ops cnt)) := by
  refine Ct.of (plainFor_of_name (by decide)) (Nat.le_of_ble_eq_true rfl) (pV.ad (ad_app ad_Me ad_Sc)) (fun X C E => ?_)
  show Z X G 6 0 0 _ 0 [(0, .ref mo), (1, .int s), (2, .int x), (3, .int y), (4, .int h)] []
  have hk := kOk_nI hh
  refine z_iconst (pc := 0) (v := 0) C dX0_takesBlock_0 (by decide) ?_
  refine z_istore (pc := 1) [(5, _), (0, _), (1, _), (2, _), (3, _), (4, _)] C dX0_takesBlock_1 (by decide) rfl ?_
  refine z_lv (lv' := [(0, _), (1, _), (2, _), (3, _), (4, _), (5, _)]) [1, 2, 3, 4, 5, 0] rfl ?_
  refine z_loop (pc := 3) (e := h.toNatClampNeg) (fun i_3 => wMe G mo mb so po (s_X0_takesBlock_3 block rows s x y i_3) ++ wSc G so sr sp sq rows pat ops cnt) (fun i_3 => [(0, .ref mo), (1, .int s), (2, .int x), (3, .int y), (4, .int h), (5, .int (nI i_3))]) [] (fun i_3 hi_3 ih_3 => ?_) ?_ 0 (Nat.zero_le _)
  · show Z X G 6 0 0 (wMe G mo mb so po (s_X0_takesBlock_3 block rows s x y i_3) ++ wSc G so sr sp sq rows pat ops cnt) 3 [(0, .ref mo), (1, .int s), (2, .int x), (3, .int y), (4, .int h), (5, .int (nI i_3))] []
    generalize hz_3 : s_X0_takesBlock_3 block rows s x y i_3 = z_3
    refine z_iload (pc := 3) C 5 dX0_takesBlock_3 rfl ?_
    refine z_iload (pc := 5) C 4 dX0_takesBlock_5 rfl ?_
    refine z_icmp_ge (pc := 7) 47 C dX0_takesBlock_7 (by decide) (fun c_7 => ?_) (fun c_7 => ?_)
    · skip
      exact absurd c_7 (lps (hk.1) (by omega) (by omega))
    · skip
      refine z_iload (pc := 10) C 5 dX0_takesBlock_10 rfl ?_
      refine z_bipush (pc := 12) (v := 8) C dX0_takesBlock_12 (by decide) ?_
      refine z_icmp_ge (pc := 14) 47 C dX0_takesBlock_14 (by decide) (fun c_14 => ?_) (fun c_14 => ?_)
      · skip
        exact absurd c_14 (nI_ge (b := 8) (by omega) (by decide))
      · skip
        refine z_aload_n (pc := 17) C 0 dX0_takesBlock_17 rfl ?_
        refine z_get (pc := 18) C 0 2 dX0_takesBlock_18 rfl rfl i_X0 (by decide) q_196 rfl ?_
        refine z_iload (pc := 21) C 5 dX0_takesBlock_21 rfl ?_
        refine z_aload_n (pc := 23) C 0 dX0_takesBlock_23 rfl ?_
        refine z_get (pc := 24) C 0 0 dX0_takesBlock_24 rfl rfl i_X0 (by decide) q_194 rfl ?_
        refine z_iload_n (pc := 27) C 1 dX0_takesBlock_27 rfl ?_
        refine z_iload_n (pc := 28) C 3 dX0_takesBlock_28 rfl ?_
        refine z_iload (pc := 29) C 5 dX0_takesBlock_29 rfl ?_
        refine z_iadd (pc := 31) C dX0_takesBlock_31 ?_
        refine z_callV (pc := 32) C (c_X6_rowAt) [2, 3, 4, 5] z00 mV_X6_rowAt q_375 dX0_takesBlock_32 rfl rfl rfl 2 rfl rfl rfl rfl (Nat.le_of_ble_eq_true rfl) (by decide) (pI.stay rfl ?_)
        refine z_iload_n (pc := 35) C 2 dX0_takesBlock_35 rfl ?_
        refine z_ineg (pc := 36) C dX0_takesBlock_36 ?_
        refine z_callSN (pc := 37) C (c_X8_shifted) [] z00 mS_X8_shifted q_723 dX0_takesBlock_37 rfl rfl rfl rfl (Nat.le_of_ble_eq_true rfl) (by decide) (pI.stay rfl ?_)
        refine z_iast (pc := 40) (wMe G mo mb so po _ ++ wSc G so sr sp sq rows pat ops cnt) C 1 dX0_takesBlock_40 rfl (ix_nI (by omega) (by decide)) rfl ?_
        refine z_iinc (pc := 41) (v := nI (i_3 + 1)) [(5, _), (0, _), (1, _), (2, _), (3, _), (4, _)] C 5 dX0_takesBlock_41 rfl ((nI_succ _).symm) (by decide) rfl ?_
        refine z_goto (pc := 44) 3 C dX0_takesBlock_44 (by decide) ?_
        refine z_lv (lv' := [(0, _), (1, _), (2, _), (3, _), (4, _), (5, _)]) [1, 2, 3, 4, 5, 0] rfl ?_
        exact z_eq (by simp only [s_X0_takesBlock_3, hz_3, b_X0_takesBlock_3]) rfl rfl ih_3
  · show Z X G 6 0 0 (wMe G mo mb so po (s_X0_takesBlock_3 block rows s x y h.toNatClampNeg) ++ wSc G so sr sp sq rows pat ops cnt) 3 [(0, .ref mo), (1, .int s), (2, .int x), (3, .int y), (4, .int h), (5, .int (nI h.toNatClampNeg))] []
    refine z_iload (pc := 3) C 5 dX0_takesBlock_3 rfl ?_
    refine z_iload (pc := 5) C 4 dX0_takesBlock_5 rfl ?_
    refine z_icmp_ge (pc := 7) 47 C dX0_takesBlock_7 (by decide) (fun c_7 => ?_) (fun c_7 => ?_)
    · skip
      exact z_vret (pc := 47) C E dX0_takesBlock_47 (pV.mk rfl)
    · skip
      exact absurd (lpx (hk.1)) c_7

def b_X0_alikePlaces_5 (row : Int32) (brow : Int32) (i_5 : Nat) (z_5 : Int32) : Int32 := if 0 ≤ (f_X8_shifted brow (-(nI i_5))) then z_5 &&& (((f_X8_shifted row (-(nI i_5))) ^^^ 0) ^^^ (-1)) else z_5 &&& (((f_X8_shifted row (-(nI i_5))) ^^^ (-1)) ^^^ (-1))
def s_X0_alikePlaces_5 (row : Int32) (brow : Int32) : Nat → Int32
  | 0 => (-1)
  | i_5 + 1 => b_X0_alikePlaces_5 row brow i_5 (s_X0_alikePlaces_5 row brow i_5)
def f_X0_alikePlaces (row : Int32) (brow : Int32) (w : Int32) : Int32 := (s_X0_alikePlaces_5 row brow w.toNatClampNeg)
set_option maxRecDepth 100000 in
theorem c_X0_alikePlaces {l : Launch} {G : zG} {row : Int32} {brow : Int32} {w : Int32} (hw : kOk w) : Ct l G yX0_alikePlaces cX0_alikePlaces 6 (Option.some FieldType.int) 1 21 [.int row, .int brow, .int w] ([]) (pI (f_X0_alikePlaces row brow w) ([])) := by
  refine Ct.of (plainFor_of_name (by decide)) (Nat.le_of_ble_eq_true rfl) (pI.ad rfl) (fun X C E => ?_)
  show Z X G 6 0 0 _ 0 [(0, .int row), (1, .int brow), (2, .int w)] []
  have hk := kOk_nI hw
  refine z_iconst (pc := 0) (v := (-1)) C dX0_alikePlaces_0 (by decide) ?_
  refine z_istore_n (pc := 1) [(3, _), (0, _), (1, _), (2, _)] C dX0_alikePlaces_1 rfl (by decide) rfl ?_
  refine z_iconst (pc := 2) (v := 0) C dX0_alikePlaces_2 (by decide) ?_
  refine z_istore (pc := 3) [(4, _), (3, _), (0, _), (1, _), (2, _)] C dX0_alikePlaces_3 (by decide) rfl ?_
  refine z_lv (lv' := [(0, _), (1, _), (2, _), (3, _), (4, _)]) [2, 3, 4, 1, 0] rfl ?_
  refine z_loop (pc := 5) (e := w.toNatClampNeg) (fun i_5 => []) (fun i_5 => [(0, .int row), (1, .int brow), (2, .int w), (3, .int (s_X0_alikePlaces_5 row brow i_5)), (4, .int (nI i_5))]) [] (fun i_5 hi_5 ih_5 => ?_) ?_ 0 (Nat.zero_le _)
  · show Z X G 6 0 0 ([]) 5 [(0, .int row), (1, .int brow), (2, .int w), (3, .int (s_X0_alikePlaces_5 row brow i_5)), (4, .int (nI i_5))] []
    generalize hz_5 : s_X0_alikePlaces_5 row brow i_5 = z_5
    refine z_iload (pc := 5) C 4 dX0_alikePlaces_5 rfl ?_
    refine z_iload_n (pc := 7) C 2 dX0_alikePlaces_7 rfl ?_
    refine z_icmp_ge (pc := 8) 49 C dX0_alikePlaces_8 (by decide) (fun c_8 => ?_) (fun c_8 => ?_)
    · skip
      exact absurd c_8 (lps (hk.1) (by omega) (by omega))
    · skip
      refine z_iload_n (pc := 11) C 1 dX0_alikePlaces_11 rfl ?_
      refine z_iload (pc := 12) C 4 dX0_alikePlaces_12 rfl ?_
      refine z_ineg (pc := 14) C dX0_alikePlaces_14 ?_
      refine z_callSN (pc := 15) C (c_X8_shifted) [] z00 mS_X8_shifted q_723 dX0_alikePlaces_15 rfl rfl rfl rfl (Nat.le_of_ble_eq_true rfl) (by decide) (pI.stay rfl ?_)
      refine z_if_ge (pc := 18) 25 C dX0_alikePlaces_18 (by decide) (fun c_18 => ?_) (fun c_18 => ?_)
      · skip
        refine z_iconst (pc := 25) (v := 0) C dX0_alikePlaces_25 (by decide) ?_
        refine z_istore (pc := 26) [(5, _), (0, _), (1, _), (2, _), (3, _), (4, _)] C dX0_alikePlaces_26 (by decide) rfl ?_
        refine z_iload_n (pc := 28) C 4 dX0_alikePlaces_28 rfl ?_
        refine z_iload_n (pc := 29) C 1 dX0_alikePlaces_29 rfl ?_
        refine z_iload (pc := 30) C 5 dX0_alikePlaces_30 rfl ?_
        refine z_ineg (pc := 32) C dX0_alikePlaces_32 ?_
        refine z_callSN (pc := 33) C (c_X8_shifted) [] z00 mS_X8_shifted q_723 dX0_alikePlaces_33 rfl rfl rfl rfl (Nat.le_of_ble_eq_true rfl) (by decide) (pI.stay rfl ?_)
        refine z_iload (pc := 36) C 0 dX0_alikePlaces_36 rfl ?_
        refine z_ixor (pc := 38) C dX0_alikePlaces_38 ?_
        refine z_iconst (pc := 39) (v := (-1)) C dX0_alikePlaces_39 (by decide) ?_
        refine z_ixor (pc := 40) C dX0_alikePlaces_40 ?_
        refine z_iand (pc := 41) C dX0_alikePlaces_41 ?_
        refine z_istore_n (pc := 42) [(3, _), (5, _), (0, _), (1, _), (2, _), (4, _)] C dX0_alikePlaces_42 rfl (by decide) rfl ?_
        refine z_iinc (pc := 43) (v := nI (i_5 + 1)) [(4, _), (3, _), (5, _), (0, _), (1, _), (2, _)] C 5 dX0_alikePlaces_43 rfl ((nI_succ _).symm) (by decide) rfl ?_
        refine z_goto (pc := 46) 5 C dX0_alikePlaces_46 (by decide) ?_
        refine z_lv (lv' := [(0, _), (1, _), (2, _), (3, _), (4, _)]) [3, 4, 5, 1, 0] rfl ?_
        exact z_eq rfl (by simp only [s_X0_alikePlaces_5, hz_5, b_X0_alikePlaces_5, if_pos c_18]) rfl ih_5
      · skip
        refine z_iconst (pc := 21) (v := (-1)) C dX0_alikePlaces_21 (by decide) ?_
        refine z_goto (pc := 22) 26 C dX0_alikePlaces_22 (by decide) ?_
        refine z_istore (pc := 26) [(5, _), (0, _), (1, _), (2, _), (3, _), (4, _)] C dX0_alikePlaces_26 (by decide) rfl ?_
        refine z_iload_n (pc := 28) C 4 dX0_alikePlaces_28 rfl ?_
        refine z_iload_n (pc := 29) C 1 dX0_alikePlaces_29 rfl ?_
        refine z_iload (pc := 30) C 5 dX0_alikePlaces_30 rfl ?_
        refine z_ineg (pc := 32) C dX0_alikePlaces_32 ?_
        refine z_callSN (pc := 33) C (c_X8_shifted) [] z00 mS_X8_shifted q_723 dX0_alikePlaces_33 rfl rfl rfl rfl (Nat.le_of_ble_eq_true rfl) (by decide) (pI.stay rfl ?_)
        refine z_iload (pc := 36) C 0 dX0_alikePlaces_36 rfl ?_
        refine z_ixor (pc := 38) C dX0_alikePlaces_38 ?_
        refine z_iconst (pc := 39) (v := (-1)) C dX0_alikePlaces_39 (by decide) ?_
        refine z_ixor (pc := 40) C dX0_alikePlaces_40 ?_
        refine z_iand (pc := 41) C dX0_alikePlaces_41 ?_
        refine z_istore_n (pc := 42) [(3, _), (5, _), (0, _), (1, _), (2, _), (4, _)] C dX0_alikePlaces_42 rfl (by decide) rfl ?_
        refine z_iinc (pc := 43) (v := nI (i_5 + 1)) [(4, _), (3, _), (5, _), (0, _), (1, _), (2, _)] C 5 dX0_alikePlaces_43 rfl ((nI_succ _).symm) (by decide) rfl ?_
        refine z_goto (pc := 46) 5 C dX0_alikePlaces_46 (by decide) ?_
        refine z_lv (lv' := [(0, _), (1, _), (2, _), (3, _), (4, _)]) [3, 4, 5, 1, 0] rfl ?_
        exact z_eq rfl (by simp only [s_X0_alikePlaces_5, hz_5, b_X0_alikePlaces_5, if_neg c_18]) rfl ih_5
  · show Z X G 6 0 0 ([]) 5 [(0, .int row), (1, .int brow), (2, .int w), (3, .int (s_X0_alikePlaces_5 row brow w.toNatClampNeg)), (4, .int (nI w.toNatClampNeg))] []
    refine z_iload (pc := 5) C 4 dX0_alikePlaces_5 rfl ?_
    refine z_iload_n (pc := 7) C 2 dX0_alikePlaces_7 rfl ?_
    refine z_icmp_ge (pc := 8) 49 C dX0_alikePlaces_8 (by decide) (fun c_8 => ?_) (fun c_8 => ?_)
    · skip
      refine z_iload_n (pc := 49) C 3 dX0_alikePlaces_49 rfl ?_
      exact z_iret (pc := 50) C E dX0_alikePlaces_50 (pI.mk rfl rfl)
    · skip
      exact absurd (lpx (hk.1)) c_8

def b_X0_placesOfBlock_30 (block : Nat → Int32) (rows : Nat → Int32) (t : Int32) (w : Int32) (i_6 : Nat) (i_30 : Nat) (z_30 : Int32) : Int32 := z_30 &&& (f_X0_alikePlaces (f_X6_rowAt rows t ((nI i_6) + (nI i_30))) (block (nI i_30).toNatClampNeg) w)
def s_X0_placesOfBlock_30 (block : Nat → Int32) (rows : Nat → Int32) (t : Int32) (w : Int32) (i_6 : Nat) : Nat → Int32
  | 0 => f_X8_spanMask 0 ((32 - w) + 1)
  | i_30 + 1 => b_X0_placesOfBlock_30 block rows t w i_6 i_30 (s_X0_placesOfBlock_30 block rows t w i_6 i_30)
def b_X0_placesOfBlock_6 (block : Nat → Int32) (rows : Nat → Int32) (t : Int32) (w : Int32) (h : Int32) (i_6 : Nat) (z_6 : Int32) : Int32 := z_6 + (f_J6_bitCount_0f7a4 (s_X0_placesOfBlock_30 block rows t w i_6 h.toNatClampNeg))
def s_X0_placesOfBlock_6 (block : Nat → Int32) (rows : Nat → Int32) (t : Int32) (w : Int32) (h : Int32) : Nat → Int32
  | 0 => 0
  | i_6 + 1 => b_X0_placesOfBlock_6 block rows t w h i_6 (s_X0_placesOfBlock_6 block rows t w h i_6)
def f_X0_placesOfBlock (block : Nat → Int32) (rows : Nat → Int32) (t : Int32) (w : Int32) (h : Int32) : Int32 := (s_X0_placesOfBlock_6 block rows t w h (24 - h.toNatClampNeg + 1))
set_option maxRecDepth 100000 in
theorem c_X0_placesOfBlock {l : Launch} {G : zG} {mo mb so sr sp sq po : Nat} {block : Nat → Int32} {rows : Nat → Int32} {pat : Nat → Int32} {ops : Nat → Int32} {cnt : Int32} {t : Int32} {w : Int32} {h : Int32} (hw : kOk w) (hh : kOk h) : Ct l G yX0_placesOfBlock cX0_placesOfBlock 8 (Option.some FieldType.int) 3 64 [.ref mo, .int t, .int w, .int h] (wMe G mo mb so po block ++ wSc G so sr sp sq rows pat ops cnt) (pI (f_X0_placesOfBlock block rows t w h) (wMe G mo mb so po block ++ wSc G so sr sp sq rows pat ops cnt)) := by
  refine Ct.of (plainFor_of_name (by decide)) (Nat.le_of_ble_eq_true rfl) (pI.ad (ad_app ad_Me ad_Sc)) (fun X C E => ?_)
  show Z X G 8 0 0 _ 0 [(0, .ref mo), (1, .int t), (2, .int w), (3, .int h)] []
  have hk := kOk_nI hh
  refine z_iconst (pc := 0) (v := 0) C dX0_placesOfBlock_0 (by decide) ?_
  refine z_istore (pc := 1) [(4, _), (0, _), (1, _), (2, _), (3, _)] C dX0_placesOfBlock_1 (by decide) rfl ?_
  refine z_iconst (pc := 3) (v := 0) C dX0_placesOfBlock_3 (by decide) ?_
  refine z_istore (pc := 4) [(5, _), (4, _), (0, _), (1, _), (2, _), (3, _)] C dX0_placesOfBlock_4 (by decide) rfl ?_
  refine z_lv (lv' := [(0, _), (1, _), (2, _), (3, _), (4, _), (5, _)]) [2, 3, 4, 5, 1, 0] rfl ?_
  refine z_loop (pc := 6) (e := 24 - h.toNatClampNeg + 1) (fun i_6 => wMe G mo mb so po block ++ wSc G so sr sp sq rows pat ops cnt) (fun i_6 => [(0, .ref mo), (1, .int t), (2, .int w), (3, .int h), (4, .int (s_X0_placesOfBlock_6 block rows t w h i_6)), (5, .int (nI i_6))]) [] (fun i_6 hi_6 ih_6 => ?_) ?_ 0 (Nat.zero_le _)
  · show Z X G 8 0 0 (wMe G mo mb so po block ++ wSc G so sr sp sq rows pat ops cnt) 6 [(0, .ref mo), (1, .int t), (2, .int w), (3, .int h), (4, .int (s_X0_placesOfBlock_6 block rows t w h i_6)), (5, .int (nI i_6))] []
    generalize hz_6 : s_X0_placesOfBlock_6 block rows t w h i_6 = z_6
    refine z_iload (pc := 6) C 5 dX0_placesOfBlock_6 rfl ?_
    refine z_bipush (pc := 8) (v := 24) C dX0_placesOfBlock_8 (by decide) ?_
    refine z_iload_n (pc := 10) C 3 dX0_placesOfBlock_10 rfl ?_
    refine z_isub (pc := 11) C dX0_placesOfBlock_11 ?_
    refine z_icmp_gt (pc := 12) 94 C dX0_placesOfBlock_12 (by decide) (fun c_12 => ?_) (fun c_12 => ?_)
    · skip
      exact absurd c_12 (gt_s (kOk_24 hh) hi_6 (by omega))
    · skip
      refine z_iconst (pc := 15) (v := 0) C dX0_placesOfBlock_15 (by decide) ?_
      refine z_bipush (pc := 16) (v := 32) C dX0_placesOfBlock_16 (by decide) ?_
      refine z_iload_n (pc := 18) C 2 dX0_placesOfBlock_18 rfl ?_
      refine z_isub (pc := 19) C dX0_placesOfBlock_19 ?_
      refine z_iconst (pc := 20) (v := 1) C dX0_placesOfBlock_20 (by decide) ?_
      refine z_iadd (pc := 21) C dX0_placesOfBlock_21 ?_
      refine z_callSN (pc := 22) C (c_X8_spanMask) [] z00 mS_X8_spanMask q_368 dX0_placesOfBlock_22 rfl rfl rfl rfl (Nat.le_of_ble_eq_true rfl) (by decide) (pI.stay rfl ?_)
      refine z_istore (pc := 25) [(6, _), (0, _), (1, _), (2, _), (3, _), (4, _), (5, _)] C dX0_placesOfBlock_25 (by decide) rfl ?_
      refine z_iconst (pc := 27) (v := 0) C dX0_placesOfBlock_27 (by decide) ?_
      refine z_istore (pc := 28) [(7, _), (6, _), (0, _), (1, _), (2, _), (3, _), (4, _), (5, _)] C dX0_placesOfBlock_28 (by decide) rfl ?_
      refine z_lv (lv' := [(0, _), (1, _), (2, _), (3, _), (4, _), (5, _), (6, _), (7, _)]) [2, 3, 4, 5, 6, 7, 1, 0] rfl ?_
      refine z_loop (pc := 30) (e := h.toNatClampNeg) (fun i_30 => wMe G mo mb so po block ++ wSc G so sr sp sq rows pat ops cnt) (fun i_30 => [(0, .ref mo), (1, .int t), (2, .int w), (3, .int h), (4, .int z_6), (5, .int (nI i_6)), (6, .int (s_X0_placesOfBlock_30 block rows t w i_6 i_30)), (7, .int (nI i_30))]) [] (fun i_30 hi_30 ih_30 => ?_) ?_ 0 (Nat.zero_le _)
      · show Z X G 8 0 0 (wMe G mo mb so po block ++ wSc G so sr sp sq rows pat ops cnt) 30 [(0, .ref mo), (1, .int t), (2, .int w), (3, .int h), (4, .int z_6), (5, .int (nI i_6)), (6, .int (s_X0_placesOfBlock_30 block rows t w i_6 i_30)), (7, .int (nI i_30))] []
        generalize hz_30 : s_X0_placesOfBlock_30 block rows t w i_6 i_30 = z_30
        refine z_iload (pc := 30) C 7 dX0_placesOfBlock_30 rfl ?_
        refine z_iload_n (pc := 32) C 3 dX0_placesOfBlock_32 rfl ?_
        refine z_icmp_ge (pc := 33) 78 C dX0_placesOfBlock_33 (by decide) (fun c_33 => ?_) (fun c_33 => ?_)
        · skip
          exact absurd c_33 (lps (hk.1) (by omega) (by omega))
        · skip
          refine z_iload (pc := 36) C 7 dX0_placesOfBlock_36 rfl ?_
          refine z_bipush (pc := 38) (v := 8) C dX0_placesOfBlock_38 (by decide) ?_
          refine z_icmp_ge (pc := 40) 78 C dX0_placesOfBlock_40 (by decide) (fun c_40 => ?_) (fun c_40 => ?_)
          · skip
            exact absurd c_40 (nI_ge (b := 8) (by omega) (by decide))
          · skip
            refine z_iload (pc := 43) C 6 dX0_placesOfBlock_43 rfl ?_
            refine z_aload_n (pc := 45) C 0 dX0_placesOfBlock_45 rfl ?_
            refine z_get (pc := 46) C 0 0 dX0_placesOfBlock_46 rfl rfl i_X0 (by decide) q_194 rfl ?_
            refine z_iload_n (pc := 49) C 1 dX0_placesOfBlock_49 rfl ?_
            refine z_iload (pc := 50) C 5 dX0_placesOfBlock_50 rfl ?_
            refine z_iload (pc := 52) C 7 dX0_placesOfBlock_52 rfl ?_
            refine z_iadd (pc := 54) C dX0_placesOfBlock_54 ?_
            refine z_callV (pc := 55) C (c_X6_rowAt) [2, 3, 4, 5] z00 mV_X6_rowAt q_375 dX0_placesOfBlock_55 rfl rfl rfl 2 rfl rfl rfl rfl (Nat.le_of_ble_eq_true rfl) (by decide) (pI.stay rfl ?_)
            refine z_aload_n (pc := 58) C 0 dX0_placesOfBlock_58 rfl ?_
            refine z_get (pc := 59) C 0 2 dX0_placesOfBlock_59 rfl rfl i_X0 (by decide) q_196 rfl ?_
            refine z_iload (pc := 62) C 7 dX0_placesOfBlock_62 rfl ?_
            refine z_iald (pc := 64) C 1 dX0_placesOfBlock_64 rfl (ix_nI (by omega) (by decide)) ?_
            refine z_iload_n (pc := 65) C 2 dX0_placesOfBlock_65 rfl ?_
            refine z_callS (pc := 66) C (c_X0_alikePlaces (by assumption)) [] z00 mS_X0_alikePlaces q_728 dX0_placesOfBlock_66 rfl rfl rfl rfl (Nat.le_of_ble_eq_true rfl) (by decide) (pI.stay rfl ?_)
            refine z_iand (pc := 69) C dX0_placesOfBlock_69 ?_
            refine z_istore (pc := 70) [(6, _), (0, _), (1, _), (2, _), (3, _), (4, _), (5, _), (7, _)] C dX0_placesOfBlock_70 (by decide) rfl ?_
            refine z_iinc (pc := 72) (v := nI (i_30 + 1)) [(7, _), (6, _), (0, _), (1, _), (2, _), (3, _), (4, _), (5, _)] C 7 dX0_placesOfBlock_72 rfl ((nI_succ _).symm) (by decide) rfl ?_
            refine z_goto (pc := 75) 30 C dX0_placesOfBlock_75 (by decide) ?_
            refine z_lv (lv' := [(0, _), (1, _), (2, _), (3, _), (4, _), (5, _), (6, _), (7, _)]) [2, 3, 4, 5, 6, 7, 1, 0] rfl ?_
            exact z_eq rfl (by simp only [s_X0_placesOfBlock_30, hz_30, b_X0_placesOfBlock_30]) rfl ih_30
      · show Z X G 8 0 0 (wMe G mo mb so po block ++ wSc G so sr sp sq rows pat ops cnt) 30 [(0, .ref mo), (1, .int t), (2, .int w), (3, .int h), (4, .int z_6), (5, .int (nI i_6)), (6, .int (s_X0_placesOfBlock_30 block rows t w i_6 h.toNatClampNeg)), (7, .int (nI h.toNatClampNeg))] []
        refine z_iload (pc := 30) C 7 dX0_placesOfBlock_30 rfl ?_
        refine z_iload_n (pc := 32) C 3 dX0_placesOfBlock_32 rfl ?_
        refine z_icmp_ge (pc := 33) 78 C dX0_placesOfBlock_33 (by decide) (fun c_33 => ?_) (fun c_33 => ?_)
        · skip
          refine z_iload (pc := 78) C 4 dX0_placesOfBlock_78 rfl ?_
          refine z_iload (pc := 80) C 6 dX0_placesOfBlock_80 rfl ?_
          refine z_callS (pc := 82) C (c_J6_bitCount_0f7a4) [] z00 mS_J6_bitCount_0f7a4 q_376 dX0_placesOfBlock_82 rfl rfl rfl rfl (Nat.le_of_ble_eq_true rfl) (by decide) (pI.stay rfl ?_)
          refine z_iadd (pc := 85) C dX0_placesOfBlock_85 ?_
          refine z_istore (pc := 86) [(4, _), (0, _), (1, _), (2, _), (3, _), (5, _), (6, _), (7, _)] C dX0_placesOfBlock_86 (by decide) rfl ?_
          refine z_iinc (pc := 88) (v := nI (i_6 + 1)) [(5, _), (4, _), (0, _), (1, _), (2, _), (3, _), (6, _), (7, _)] C 5 dX0_placesOfBlock_88 rfl ((nI_succ _).symm) (by decide) rfl ?_
          refine z_goto (pc := 91) 6 C dX0_placesOfBlock_91 (by decide) ?_
          refine z_lv (lv' := [(0, _), (1, _), (2, _), (3, _), (4, _), (5, _)]) [2, 3, 4, 5, 1, 0] rfl ?_
          exact z_eq rfl (by simp only [s_X0_placesOfBlock_6, hz_6, b_X0_placesOfBlock_6]) rfl ih_6
        · skip
          exact absurd (lpx (hk.1)) c_33
  · show Z X G 8 0 0 (wMe G mo mb so po block ++ wSc G so sr sp sq rows pat ops cnt) 6 [(0, .ref mo), (1, .int t), (2, .int w), (3, .int h), (4, .int (s_X0_placesOfBlock_6 block rows t w h (24 - h.toNatClampNeg + 1))), (5, .int (nI (24 - h.toNatClampNeg + 1)))] []
    refine z_iload (pc := 6) C 5 dX0_placesOfBlock_6 rfl ?_
    refine z_bipush (pc := 8) (v := 24) C dX0_placesOfBlock_8 (by decide) ?_
    refine z_iload_n (pc := 10) C 3 dX0_placesOfBlock_10 rfl ?_
    refine z_isub (pc := 11) C dX0_placesOfBlock_11 ?_
    refine z_icmp_gt (pc := 12) 94 C dX0_placesOfBlock_12 (by decide) (fun c_12 => ?_) (fun c_12 => ?_)
    · skip
      refine z_iload (pc := 94) C 4 dX0_placesOfBlock_94 rfl ?_
      exact z_iret (pc := 96) C E dX0_placesOfBlock_96 (pI.mk rfl rfl)
    · skip
      exact absurd (gt_x (kOk_24 hh) (by omega)) c_12

def b_X0_partsOf_2 (rows : Nat → Int32) (t : Int32) (i_2 : Nat) (z_2 : (Nat → Int32)) : (Nat → Int32) := upd z_2 (nI i_2).toNatClampNeg (f_X6_rowAt rows t (nI i_2))
def s_X0_partsOf_2 (rows : Nat → Int32) (left : Nat → Int32) (t : Int32) : Nat → (Nat → Int32)
  | 0 => left
  | i_2 + 1 => b_X0_partsOf_2 rows t i_2 (s_X0_partsOf_2 rows left t i_2)
def f_X0_partsOf (rows : Nat → Int32) (left : Nat → Int32) (srow : Nat → Int32) (sdot : Nat → Int32) (steps : Int32) (t : Int32) : Int32 := f_X4_numberOfParts (s_X0_partsOf_2 rows left t 24) srow sdot steps
def g_X0_partsOf_left (rows : Nat → Int32) (left : Nat → Int32) (srow : Nat → Int32) (sdot : Nat → Int32) (steps : Int32) (t : Int32) : Nat → Int32 := g_X4_numberOfParts_left (s_X0_partsOf_2 rows left t 24) srow sdot steps
def g_X0_partsOf_srow (rows : Nat → Int32) (left : Nat → Int32) (srow : Nat → Int32) (sdot : Nat → Int32) (steps : Int32) (t : Int32) : Nat → Int32 := g_X4_numberOfParts_srow (s_X0_partsOf_2 rows left t 24) srow sdot steps
def g_X0_partsOf_sdot (rows : Nat → Int32) (left : Nat → Int32) (srow : Nat → Int32) (sdot : Nat → Int32) (steps : Int32) (t : Int32) : Nat → Int32 := g_X4_numberOfParts_sdot (s_X0_partsOf_2 rows left t 24) srow sdot steps
def g_X0_partsOf_steps (rows : Nat → Int32) (left : Nat → Int32) (srow : Nat → Int32) (sdot : Nat → Int32) (steps : Int32) (t : Int32) : Int32 := g_X4_numberOfParts_steps (s_X0_partsOf_2 rows left t 24) srow sdot steps
set_option maxRecDepth 100000 in
theorem c_X0_partsOf {l : Launch} {G : zG} {mo mb so sr sp sq po pl pr pd : Nat} {block : Nat → Int32} {rows : Nat → Int32} {pat : Nat → Int32} {ops : Nat → Int32} {cnt : Int32} {left : Nat → Int32} {srow : Nat → Int32} {sdot : Nat → Int32} {steps : Int32} {t : Int32} : Ct l G yX0_partsOf cX0_partsOf 3 (Option.some FieldType.int) 4 97 [.ref mo, .int t] (wMe G mo mb so po block ++ (wSc G so sr sp sq rows pat ops cnt ++ wPa G po pl pr pd left srow sdot steps)) (pI (f_X0_partsOf rows left srow sdot steps t) (wMe G mo mb so po block ++ (wSc G so sr sp sq rows pat ops cnt ++ wPa G po pl pr pd (g_X0_partsOf_left rows left srow sdot steps t) (g_X0_partsOf_srow rows left srow sdot steps t) (g_X0_partsOf_sdot rows left srow sdot steps t) (g_X0_partsOf_steps rows left srow sdot steps t)))) := by
  refine Ct.of (plainFor_of_name (by decide)) (Nat.le_of_ble_eq_true rfl) (pI.ad (ad_app ad_Me (ad_app ad_Sc ad_Pa))) (fun X C E => ?_)
  show Z X G 3 0 0 _ 0 [(0, .ref mo), (1, .int t)] []
  refine z_iconst (pc := 0) (v := 0) C dX0_partsOf_0 (by decide) ?_
  refine z_istore_n (pc := 1) [(2, _), (0, _), (1, _)] C dX0_partsOf_1 rfl (by decide) rfl ?_
  refine z_lv (lv' := [(0, _), (1, _), (2, _)]) [1, 2, 0] rfl ?_
  refine z_loop (pc := 2) (e := 24) (fun i_2 => wMe G mo mb so po block ++ (wSc G so sr sp sq rows pat ops cnt ++ wPa G po pl pr pd (s_X0_partsOf_2 rows left t i_2) srow sdot steps)) (fun i_2 => [(0, .ref mo), (1, .int t), (2, .int (nI i_2))]) [] (fun i_2 hi_2 ih_2 => ?_) ?_ 0 (Nat.zero_le _)
  · show Z X G 3 0 0 (wMe G mo mb so po block ++ (wSc G so sr sp sq rows pat ops cnt ++ wPa G po pl pr pd (s_X0_partsOf_2 rows left t i_2) srow sdot steps)) 2 [(0, .ref mo), (1, .int t), (2, .int (nI i_2))] []
    generalize hz_2 : s_X0_partsOf_2 rows left t i_2 = z_2
    refine z_iload_n (pc := 2) C 2 dX0_partsOf_2 rfl ?_
    refine z_bipush (pc := 3) (v := 24) C dX0_partsOf_3 (by decide) ?_
    refine z_icmp_ge (pc := 5) 32 C dX0_partsOf_5 (by decide) (fun c_5 => ?_) (fun c_5 => ?_)
    · skip
      exact absurd c_5 (nI_ge (b := 24) (by omega) (by decide))
    · skip
      refine z_aload_n (pc := 8) C 0 dX0_partsOf_8 rfl ?_
      refine z_get (pc := 9) C 0 1 dX0_partsOf_9 rfl rfl i_X0 (by decide) q_195 rfl ?_
      refine z_get (pc := 12) C 6 0 dX0_partsOf_12 rfl rfl i_X4 (by decide) q_123 rfl ?_
      refine z_iload_n (pc := 15) C 2 dX0_partsOf_15 rfl ?_
      refine z_aload_n (pc := 16) C 0 dX0_partsOf_16 rfl ?_
      refine z_get (pc := 17) C 0 0 dX0_partsOf_17 rfl rfl i_X0 (by decide) q_194 rfl ?_
      refine z_iload_n (pc := 20) C 1 dX0_partsOf_20 rfl ?_
      refine z_iload_n (pc := 21) C 2 dX0_partsOf_21 rfl ?_
      refine z_callV (pc := 22) C (c_X6_rowAt) [2, 3, 4, 5] z00 mV_X6_rowAt q_375 dX0_partsOf_22 rfl rfl rfl 2 rfl rfl rfl rfl (Nat.le_of_ble_eq_true rfl) (by decide) (pI.stay rfl ?_)
      refine z_iast (pc := 25) (wMe G mo mb so po block ++ (wSc G so sr sp sq rows pat ops cnt ++ wPa G po pl pr pd _ srow sdot steps)) C 7 dX0_partsOf_25 rfl (ix_nI hi_2 (by decide)) rfl ?_
      refine z_iinc (pc := 26) (v := nI (i_2 + 1)) [(2, _), (0, _), (1, _)] C 2 dX0_partsOf_26 rfl ((nI_succ _).symm) (by decide) rfl ?_
      refine z_goto (pc := 29) 2 C dX0_partsOf_29 (by decide) ?_
      refine z_lv (lv' := [(0, _), (1, _), (2, _)]) [1, 2, 0] rfl ?_
      exact z_eq (by simp only [s_X0_partsOf_2, hz_2, b_X0_partsOf_2]) rfl rfl ih_2
  · show Z X G 3 0 0 (wMe G mo mb so po block ++ (wSc G so sr sp sq rows pat ops cnt ++ wPa G po pl pr pd (s_X0_partsOf_2 rows left t 24) srow sdot steps)) 2 [(0, .ref mo), (1, .int t), (2, .int (nI 24))] []
    refine z_iload_n (pc := 2) C 2 dX0_partsOf_2 rfl ?_
    refine z_bipush (pc := 3) (v := 24) C dX0_partsOf_3 (by decide) ?_
    refine z_icmp_ge (pc := 5) 32 C dX0_partsOf_5 (by decide) (fun c_5 => ?_) (fun c_5 => ?_)
    · skip
      refine z_aload_n (pc := 32) C 0 dX0_partsOf_32 rfl ?_
      refine z_get (pc := 33) C 0 1 dX0_partsOf_33 rfl rfl i_X0 (by decide) q_195 rfl ?_
      refine z_callV (pc := 36) C (c_X4_numberOfParts) [6, 7, 8, 9] z00 mV_X4_numberOfParts q_669 dX0_partsOf_36 rfl rfl rfl 6 rfl rfl rfl rfl (Nat.le_of_ble_eq_true rfl) (by decide) (pI.go (ws' := wMe G mo mb so po block ++ (wSc G so sr sp sq rows pat ops cnt ++ wPa G po pl pr pd _ _ _ _)) rfl ?_)
      exact z_iret (pc := 39) C E dX0_partsOf_39 (pI.mk rfl rfl)
    · skip
      exact absurd (nI_le (Nat.le_refl 24) (by decide)) c_5

def b_X0_columnsOf_4 (rows : Nat → Int32) (t : Int32) (i_4 : Nat) (z_4 : Int32) : Int32 := z_4 ||| (f_X6_rowAt rows t (nI i_4))
def s_X0_columnsOf_4 (rows : Nat → Int32) (t : Int32) : Nat → Int32
  | 0 => 0
  | i_4 + 1 => b_X0_columnsOf_4 rows t i_4 (s_X0_columnsOf_4 rows t i_4)
def f_X0_columnsOf (rows : Nat → Int32) (t : Int32) : Int32 := (s_X0_columnsOf_4 rows t 24)
set_option maxRecDepth 100000 in
theorem c_X0_columnsOf {l : Launch} {G : zG} {mo mb so sr sp sq po : Nat} {block : Nat → Int32} {rows : Nat → Int32} {pat : Nat → Int32} {ops : Nat → Int32} {cnt : Int32} {t : Int32} : Ct l G yX0_columnsOf cX0_columnsOf 4 (Option.some FieldType.int) 3 64 [.ref mo, .int t] (wMe G mo mb so po block ++ wSc G so sr sp sq rows pat ops cnt) (pI (f_X0_columnsOf rows t) (wMe G mo mb so po block ++ wSc G so sr sp sq rows pat ops cnt)) := by
  refine Ct.of (plainFor_of_name (by decide)) (Nat.le_of_ble_eq_true rfl) (pI.ad (ad_app ad_Me ad_Sc)) (fun X C E => ?_)
  show Z X G 4 0 0 _ 0 [(0, .ref mo), (1, .int t)] []
  refine z_iconst (pc := 0) (v := 0) C dX0_columnsOf_0 (by decide) ?_
  refine z_istore_n (pc := 1) [(2, _), (0, _), (1, _)] C dX0_columnsOf_1 rfl (by decide) rfl ?_
  refine z_iconst (pc := 2) (v := 0) C dX0_columnsOf_2 (by decide) ?_
  refine z_istore_n (pc := 3) [(3, _), (2, _), (0, _), (1, _)] C dX0_columnsOf_3 rfl (by decide) rfl ?_
  refine z_lv (lv' := [(0, _), (1, _), (2, _), (3, _)]) [2, 3, 1, 0] rfl ?_
  refine z_loop (pc := 4) (e := 24) (fun i_4 => wMe G mo mb so po block ++ wSc G so sr sp sq rows pat ops cnt) (fun i_4 => [(0, .ref mo), (1, .int t), (2, .int (s_X0_columnsOf_4 rows t i_4)), (3, .int (nI i_4))]) [] (fun i_4 hi_4 ih_4 => ?_) ?_ 0 (Nat.zero_le _)
  · show Z X G 4 0 0 (wMe G mo mb so po block ++ wSc G so sr sp sq rows pat ops cnt) 4 [(0, .ref mo), (1, .int t), (2, .int (s_X0_columnsOf_4 rows t i_4)), (3, .int (nI i_4))] []
    generalize hz_4 : s_X0_columnsOf_4 rows t i_4 = z_4
    refine z_iload_n (pc := 4) C 3 dX0_columnsOf_4 rfl ?_
    refine z_bipush (pc := 5) (v := 24) C dX0_columnsOf_5 (by decide) ?_
    refine z_icmp_ge (pc := 7) 28 C dX0_columnsOf_7 (by decide) (fun c_7 => ?_) (fun c_7 => ?_)
    · skip
      exact absurd c_7 (nI_ge (b := 24) (by omega) (by decide))
    · skip
      refine z_iload_n (pc := 10) C 2 dX0_columnsOf_10 rfl ?_
      refine z_aload_n (pc := 11) C 0 dX0_columnsOf_11 rfl ?_
      refine z_get (pc := 12) C 0 0 dX0_columnsOf_12 rfl rfl i_X0 (by decide) q_194 rfl ?_
      refine z_iload_n (pc := 15) C 1 dX0_columnsOf_15 rfl ?_
      refine z_iload_n (pc := 16) C 3 dX0_columnsOf_16 rfl ?_
      refine z_callV (pc := 17) C (c_X6_rowAt) [2, 3, 4, 5] z00 mV_X6_rowAt q_375 dX0_columnsOf_17 rfl rfl rfl 2 rfl rfl rfl rfl (Nat.le_of_ble_eq_true rfl) (by decide) (pI.stay rfl ?_)
      refine z_ior (pc := 20) C dX0_columnsOf_20 ?_
      refine z_istore_n (pc := 21) [(2, _), (0, _), (1, _), (3, _)] C dX0_columnsOf_21 rfl (by decide) rfl ?_
      refine z_iinc (pc := 22) (v := nI (i_4 + 1)) [(3, _), (2, _), (0, _), (1, _)] C 3 dX0_columnsOf_22 rfl ((nI_succ _).symm) (by decide) rfl ?_
      refine z_goto (pc := 25) 4 C dX0_columnsOf_25 (by decide) ?_
      refine z_lv (lv' := [(0, _), (1, _), (2, _), (3, _)]) [2, 3, 1, 0] rfl ?_
      exact z_eq rfl (by simp only [s_X0_columnsOf_4, hz_4, b_X0_columnsOf_4]) rfl ih_4
  · show Z X G 4 0 0 (wMe G mo mb so po block ++ wSc G so sr sp sq rows pat ops cnt) 4 [(0, .ref mo), (1, .int t), (2, .int (s_X0_columnsOf_4 rows t 24)), (3, .int (nI 24))] []
    refine z_iload_n (pc := 4) C 3 dX0_columnsOf_4 rfl ?_
    refine z_bipush (pc := 5) (v := 24) C dX0_columnsOf_5 (by decide) ?_
    refine z_icmp_ge (pc := 7) 28 C dX0_columnsOf_7 (by decide) (fun c_7 => ?_) (fun c_7 => ?_)
    · skip
      refine z_iload_n (pc := 28) C 2 dX0_columnsOf_28 rfl ?_
      exact z_iret (pc := 29) C E dX0_columnsOf_29 (pI.mk rfl rfl)
    · skip
      exact absurd (nI_le (Nat.le_refl 24) (by decide)) c_7

def r_X0_leastX_8 (rows : Nat → Int32) (t : Int32) : Nat → Nat → (Unit) → Int32
  | 0, i_8, z_8 => (-1)
  | n_8 + 1, i_8, z_8 => if ((f_X0_columnsOf rows t) &&& (f_X8_dotMask (nI i_8))) = 0 then r_X0_leastX_8 rows t n_8 (i_8 + 1) () else nI i_8
def f_X0_leastX (rows : Nat → Int32) (t : Int32) : Int32 := (r_X0_leastX_8 rows t 32 0 ())
set_option maxRecDepth 100000 in
theorem c_X0_leastX {l : Launch} {G : zG} {mo mb so sr sp sq po : Nat} {block : Nat → Int32} {rows : Nat → Int32} {pat : Nat → Int32} {ops : Nat → Int32} {cnt : Int32} {t : Int32} : Ct l G yX0_leastX cX0_leastX 4 (Option.some FieldType.int) 4 87 [.ref mo, .int t] (wMe G mo mb so po block ++ wSc G so sr sp sq rows pat ops cnt) (pI (f_X0_leastX rows t) (wMe G mo mb so po block ++ wSc G so sr sp sq rows pat ops cnt)) := by
  refine Ct.of (plainFor_of_name (by decide)) (Nat.le_of_ble_eq_true rfl) (pI.ad (ad_app ad_Me ad_Sc)) (fun X C E => ?_)
  show Z X G 4 0 0 _ 0 [(0, .ref mo), (1, .int t)] []
  refine z_aload_n (pc := 0) C 0 dX0_leastX_0 rfl ?_
  refine z_iload_n (pc := 1) C 1 dX0_leastX_1 rfl ?_
  refine z_callV (pc := 2) C (c_X0_columnsOf) [0, 1, 2, 3, 4, 5] z00 mV_X0_columnsOf q_678 dX0_leastX_2 rfl rfl rfl 0 rfl rfl rfl rfl (Nat.le_of_ble_eq_true rfl) (by decide) (pI.stay rfl ?_)
  refine z_istore_n (pc := 5) [(2, _), (0, _), (1, _)] C dX0_leastX_5 rfl (by decide) rfl ?_
  refine z_iconst (pc := 6) (v := 0) C dX0_leastX_6 (by decide) ?_
  refine z_istore_n (pc := 7) [(3, _), (2, _), (0, _), (1, _)] C dX0_leastX_7 rfl (by decide) rfl ?_
  refine z_lv (lv' := [(0, _), (1, _), (2, _), (3, _)]) [2, 3, 1, 0] rfl ?_
  have L_8 : ∀ (n_8 i_8 : Nat) (z_8 : Unit), n_8 + i_8 = 32 → r_X0_leastX_8 rows t n_8 i_8 z_8 = r_X0_leastX_8 rows t 32 0 () → Z X G 4 0 0 (wMe G mo mb so po block ++ wSc G so sr sp sq rows pat ops cnt) 8 [(0, .ref mo), (1, .int t), (2, .int (f_X0_columnsOf rows t)), (3, .int (nI i_8))] [] := by
    intro n_8
    induction n_8 with
    | zero =>
      intro i_8 z_8 hn_8 hF_8
      obtain rfl : i_8 = 32 := by omega
      refine z_iload_n (pc := 8) C 3 dX0_leastX_8 rfl ?_
      refine z_bipush (pc := 9) (v := 32) C dX0_leastX_9 (by decide) ?_
      refine z_icmp_ge (pc := 11) 31 C dX0_leastX_11 (by decide) (fun c_11 => ?_) (fun c_11 => ?_)
      · skip
        refine z_iconst (pc := 31) (v := (-1)) C dX0_leastX_31 (by decide) ?_
        exact z_iret (pc := 32) C E dX0_leastX_32 (pI.mk (by simp only [f_X0_leastX]; rw [← hF_8]; simp only [r_X0_leastX_8]) rfl)
      · skip
        exact absurd (nI_le (Nat.le_refl 32) (by decide)) c_11
    | succ n_8 ih_8 =>
      intro i_8 z_8 hn_8 hF_8
      have hi_8 : i_8 < 32 := by omega
      refine z_iload_n (pc := 8) C 3 dX0_leastX_8 rfl ?_
      refine z_bipush (pc := 9) (v := 32) C dX0_leastX_9 (by decide) ?_
      refine z_icmp_ge (pc := 11) 31 C dX0_leastX_11 (by decide) (fun c_11 => ?_) (fun c_11 => ?_)
      · skip
        exact absurd c_11 (nI_ge (b := 32) (by omega) (by decide))
      · skip
        refine z_iload_n (pc := 14) C 2 dX0_leastX_14 rfl ?_
        refine z_iload_n (pc := 15) C 3 dX0_leastX_15 rfl ?_
        refine z_callSN (pc := 16) C (c_X8_dotMask) [] z00 mS_X8_dotMask q_682 dX0_leastX_16 rfl rfl rfl rfl (Nat.le_of_ble_eq_true rfl) (by decide) (pI.stay rfl ?_)
        refine z_iand (pc := 19) C dX0_leastX_19 ?_
        refine z_if_eq (pc := 20) 25 C dX0_leastX_20 (by decide) (fun c_20 => ?_) (fun c_20 => ?_)
        · skip
          refine z_iinc (pc := 25) (v := nI (i_8 + 1)) [(3, _), (0, _), (1, _), (2, _)] C 3 dX0_leastX_25 rfl ((nI_succ _).symm) (by decide) rfl ?_
          refine z_goto (pc := 28) 8 C dX0_leastX_28 (by decide) ?_
          refine z_lv (lv' := [(0, _), (1, _), (2, _), (3, _)]) [1, 2, 3, 0] rfl ?_
          exact ih_8 (i_8 + 1) () (by omega) (by rw [← hF_8]; simp only [r_X0_leastX_8, if_pos c_20])
        · skip
          refine z_iload_n (pc := 23) C 3 dX0_leastX_23 rfl ?_
          exact z_iret (pc := 24) C E dX0_leastX_24 (pI.mk (by simp only [f_X0_leastX]; rw [← hF_8]; simp only [r_X0_leastX_8, if_neg c_20]) rfl)
  exact L_8 32 0 () (by omega) rfl

def r_X0_greatestX_9 (rows : Nat → Int32) (t : Int32) : Nat → Nat → (Unit) → Int32
  | 0, i_9, z_9 => (-1)
  | n_9 + 1, i_9, z_9 => if ((f_X0_columnsOf rows t) &&& (f_X8_dotMask (nI 31 - nI (i_9)))) = 0 then r_X0_greatestX_9 rows t n_9 (i_9 + 1) () else nI 31 - nI (i_9)
def f_X0_greatestX (rows : Nat → Int32) (t : Int32) : Int32 := (r_X0_greatestX_9 rows t 32 0 ())
set_option maxRecDepth 100000 in
theorem c_X0_greatestX {l : Launch} {G : zG} {mo mb so sr sp sq po : Nat} {block : Nat → Int32} {rows : Nat → Int32} {pat : Nat → Int32} {ops : Nat → Int32} {cnt : Int32} {t : Int32} : Ct l G yX0_greatestX cX0_greatestX 4 (Option.some FieldType.int) 4 87 [.ref mo, .int t] (wMe G mo mb so po block ++ wSc G so sr sp sq rows pat ops cnt) (pI (f_X0_greatestX rows t) (wMe G mo mb so po block ++ wSc G so sr sp sq rows pat ops cnt)) := by
  refine Ct.of (plainFor_of_name (by decide)) (Nat.le_of_ble_eq_true rfl) (pI.ad (ad_app ad_Me ad_Sc)) (fun X C E => ?_)
  show Z X G 4 0 0 _ 0 [(0, .ref mo), (1, .int t)] []
  refine z_aload_n (pc := 0) C 0 dX0_greatestX_0 rfl ?_
  refine z_iload_n (pc := 1) C 1 dX0_greatestX_1 rfl ?_
  refine z_callV (pc := 2) C (c_X0_columnsOf) [0, 1, 2, 3, 4, 5] z00 mV_X0_columnsOf q_678 dX0_greatestX_2 rfl rfl rfl 0 rfl rfl rfl rfl (Nat.le_of_ble_eq_true rfl) (by decide) (pI.stay rfl ?_)
  refine z_istore_n (pc := 5) [(2, _), (0, _), (1, _)] C dX0_greatestX_5 rfl (by decide) rfl ?_
  refine z_bipush (pc := 6) (v := 31) C dX0_greatestX_6 (by decide) ?_
  refine z_istore_n (pc := 8) [(3, _), (2, _), (0, _), (1, _)] C dX0_greatestX_8 rfl (by decide) rfl ?_
  refine z_lv (lv' := [(0, _), (1, _), (2, _), (3, _)]) [2, 3, 1, 0] rfl ?_
  have L_9 : ∀ (n_9 i_9 : Nat) (z_9 : Unit), n_9 + i_9 = 32 → r_X0_greatestX_9 rows t n_9 i_9 z_9 = r_X0_greatestX_9 rows t 32 0 () → Z X G 4 0 0 (wMe G mo mb so po block ++ wSc G so sr sp sq rows pat ops cnt) 9 [(0, .ref mo), (1, .int t), (2, .int (f_X0_columnsOf rows t)), (3, .int (nI 31 - nI (i_9)))] [] := by
    intro n_9
    induction n_9 with
    | zero =>
      intro i_9 z_9 hn_9 hF_9
      obtain rfl : i_9 = 32 := by omega
      refine z_iload_n (pc := 9) C 3 dX0_greatestX_9 rfl ?_
      refine z_if_lt (pc := 10) 30 C dX0_greatestX_10 (by decide) (fun c_10 => ?_) (fun c_10 => ?_)
      · skip
        refine z_iconst (pc := 30) (v := (-1)) C dX0_greatestX_30 (by decide) ?_
        exact z_iret (pc := 31) C E dX0_greatestX_31 (pI.mk (by simp only [f_X0_greatestX]; rw [← hF_9]; simp only [r_X0_greatestX_9]) rfl)
      · skip
        exact absurd (dn_lt (a := 31) (by decide)) c_10
    | succ n_9 ih_9 =>
      intro i_9 z_9 hn_9 hF_9
      have hi_9 : i_9 < 32 := by omega
      refine z_iload_n (pc := 9) C 3 dX0_greatestX_9 rfl ?_
      refine z_if_lt (pc := 10) 30 C dX0_greatestX_10 (by decide) (fun c_10 => ?_) (fun c_10 => ?_)
      · skip
        exact absurd c_10 (dn_ge (by decide) (by omega))
      · skip
        refine z_iload_n (pc := 13) C 2 dX0_greatestX_13 rfl ?_
        refine z_iload_n (pc := 14) C 3 dX0_greatestX_14 rfl ?_
        refine z_callSN (pc := 15) C (c_X8_dotMask) [] z00 mS_X8_dotMask q_682 dX0_greatestX_15 rfl rfl rfl rfl (Nat.le_of_ble_eq_true rfl) (by decide) (pI.stay rfl ?_)
        refine z_iand (pc := 18) C dX0_greatestX_18 ?_
        refine z_if_eq (pc := 19) 24 C dX0_greatestX_19 (by decide) (fun c_19 => ?_) (fun c_19 => ?_)
        · skip
          refine z_iinc (pc := 24) (v := nI 31 - nI (i_9 + 1)) [(3, _), (0, _), (1, _), (2, _)] C 3 dX0_greatestX_24 rfl (dn1 _ _) (by decide) rfl ?_
          refine z_goto (pc := 27) 9 C dX0_greatestX_27 (by decide) ?_
          refine z_lv (lv' := [(0, _), (1, _), (2, _), (3, _)]) [1, 2, 3, 0] rfl ?_
          exact ih_9 (i_9 + 1) () (by omega) (by rw [← hF_9]; simp only [r_X0_greatestX_9, if_pos c_19])
        · skip
          refine z_iload_n (pc := 22) C 3 dX0_greatestX_22 rfl ?_
          exact z_iret (pc := 23) C E dX0_greatestX_23 (pI.mk (by simp only [f_X0_greatestX]; rw [← hF_9]; simp only [r_X0_greatestX_9, if_neg c_19]) rfl)
  exact L_9 32 0 () (by omega) rfl

def r_X0_leastY_2 (rows : Nat → Int32) (t : Int32) : Nat → Nat → (Unit) → Int32
  | 0, i_2, z_2 => (-1)
  | n_2 + 1, i_2, z_2 => if (f_X6_rowAt rows t (nI i_2)) = 0 then r_X0_leastY_2 rows t n_2 (i_2 + 1) () else nI i_2
def f_X0_leastY (rows : Nat → Int32) (t : Int32) : Int32 := (r_X0_leastY_2 rows t 24 0 ())
set_option maxRecDepth 100000 in
theorem c_X0_leastY {l : Launch} {G : zG} {mo mb so sr sp sq po : Nat} {block : Nat → Int32} {rows : Nat → Int32} {pat : Nat → Int32} {ops : Nat → Int32} {cnt : Int32} {t : Int32} : Ct l G yX0_leastY cX0_leastY 3 (Option.some FieldType.int) 3 64 [.ref mo, .int t] (wMe G mo mb so po block ++ wSc G so sr sp sq rows pat ops cnt) (pI (f_X0_leastY rows t) (wMe G mo mb so po block ++ wSc G so sr sp sq rows pat ops cnt)) := by
  refine Ct.of (plainFor_of_name (by decide)) (Nat.le_of_ble_eq_true rfl) (pI.ad (ad_app ad_Me ad_Sc)) (fun X C E => ?_)
  show Z X G 3 0 0 _ 0 [(0, .ref mo), (1, .int t)] []
  refine z_iconst (pc := 0) (v := 0) C dX0_leastY_0 (by decide) ?_
  refine z_istore_n (pc := 1) [(2, _), (0, _), (1, _)] C dX0_leastY_1 rfl (by decide) rfl ?_
  refine z_lv (lv' := [(0, _), (1, _), (2, _)]) [1, 2, 0] rfl ?_
  have L_2 : ∀ (n_2 i_2 : Nat) (z_2 : Unit), n_2 + i_2 = 24 → r_X0_leastY_2 rows t n_2 i_2 z_2 = r_X0_leastY_2 rows t 24 0 () → Z X G 3 0 0 (wMe G mo mb so po block ++ wSc G so sr sp sq rows pat ops cnt) 2 [(0, .ref mo), (1, .int t), (2, .int (nI i_2))] [] := by
    intro n_2
    induction n_2 with
    | zero =>
      intro i_2 z_2 hn_2 hF_2
      obtain rfl : i_2 = 24 := by omega
      refine z_iload_n (pc := 2) C 2 dX0_leastY_2 rfl ?_
      refine z_bipush (pc := 3) (v := 24) C dX0_leastY_3 (by decide) ?_
      refine z_icmp_ge (pc := 5) 28 C dX0_leastY_5 (by decide) (fun c_5 => ?_) (fun c_5 => ?_)
      · skip
        refine z_iconst (pc := 28) (v := (-1)) C dX0_leastY_28 (by decide) ?_
        exact z_iret (pc := 29) C E dX0_leastY_29 (pI.mk (by simp only [f_X0_leastY]; rw [← hF_2]; simp only [r_X0_leastY_2]) rfl)
      · skip
        exact absurd (nI_le (Nat.le_refl 24) (by decide)) c_5
    | succ n_2 ih_2 =>
      intro i_2 z_2 hn_2 hF_2
      have hi_2 : i_2 < 24 := by omega
      refine z_iload_n (pc := 2) C 2 dX0_leastY_2 rfl ?_
      refine z_bipush (pc := 3) (v := 24) C dX0_leastY_3 (by decide) ?_
      refine z_icmp_ge (pc := 5) 28 C dX0_leastY_5 (by decide) (fun c_5 => ?_) (fun c_5 => ?_)
      · skip
        exact absurd c_5 (nI_ge (b := 24) (by omega) (by decide))
      · skip
        refine z_aload_n (pc := 8) C 0 dX0_leastY_8 rfl ?_
        refine z_get (pc := 9) C 0 0 dX0_leastY_9 rfl rfl i_X0 (by decide) q_194 rfl ?_
        refine z_iload_n (pc := 12) C 1 dX0_leastY_12 rfl ?_
        refine z_iload_n (pc := 13) C 2 dX0_leastY_13 rfl ?_
        refine z_callV (pc := 14) C (c_X6_rowAt) [2, 3, 4, 5] z00 mV_X6_rowAt q_375 dX0_leastY_14 rfl rfl rfl 2 rfl rfl rfl rfl (Nat.le_of_ble_eq_true rfl) (by decide) (pI.stay rfl ?_)
        refine z_if_eq (pc := 17) 22 C dX0_leastY_17 (by decide) (fun c_17 => ?_) (fun c_17 => ?_)
        · skip
          refine z_iinc (pc := 22) (v := nI (i_2 + 1)) [(2, _), (0, _), (1, _)] C 2 dX0_leastY_22 rfl ((nI_succ _).symm) (by decide) rfl ?_
          refine z_goto (pc := 25) 2 C dX0_leastY_25 (by decide) ?_
          refine z_lv (lv' := [(0, _), (1, _), (2, _)]) [1, 2, 0] rfl ?_
          exact ih_2 (i_2 + 1) () (by omega) (by rw [← hF_2]; simp only [r_X0_leastY_2, if_pos c_17])
        · skip
          refine z_iload_n (pc := 20) C 2 dX0_leastY_20 rfl ?_
          exact z_iret (pc := 21) C E dX0_leastY_21 (pI.mk (by simp only [f_X0_leastY]; rw [← hF_2]; simp only [r_X0_leastY_2, if_neg c_17]) rfl)
  exact L_2 24 0 () (by omega) rfl

def r_X0_greatestY_3 (rows : Nat → Int32) (t : Int32) : Nat → Nat → (Unit) → Int32
  | 0, i_3, z_3 => (-1)
  | n_3 + 1, i_3, z_3 => if (f_X6_rowAt rows t (nI 23 - nI (i_3))) = 0 then r_X0_greatestY_3 rows t n_3 (i_3 + 1) () else nI 23 - nI (i_3)
def f_X0_greatestY (rows : Nat → Int32) (t : Int32) : Int32 := (r_X0_greatestY_3 rows t 24 0 ())
set_option maxRecDepth 100000 in
theorem c_X0_greatestY {l : Launch} {G : zG} {mo mb so sr sp sq po : Nat} {block : Nat → Int32} {rows : Nat → Int32} {pat : Nat → Int32} {ops : Nat → Int32} {cnt : Int32} {t : Int32} : Ct l G yX0_greatestY cX0_greatestY 3 (Option.some FieldType.int) 3 64 [.ref mo, .int t] (wMe G mo mb so po block ++ wSc G so sr sp sq rows pat ops cnt) (pI (f_X0_greatestY rows t) (wMe G mo mb so po block ++ wSc G so sr sp sq rows pat ops cnt)) := by
  refine Ct.of (plainFor_of_name (by decide)) (Nat.le_of_ble_eq_true rfl) (pI.ad (ad_app ad_Me ad_Sc)) (fun X C E => ?_)
  show Z X G 3 0 0 _ 0 [(0, .ref mo), (1, .int t)] []
  refine z_bipush (pc := 0) (v := 23) C dX0_greatestY_0 (by decide) ?_
  refine z_istore_n (pc := 2) [(2, _), (0, _), (1, _)] C dX0_greatestY_2 rfl (by decide) rfl ?_
  refine z_lv (lv' := [(0, _), (1, _), (2, _)]) [1, 2, 0] rfl ?_
  have L_3 : ∀ (n_3 i_3 : Nat) (z_3 : Unit), n_3 + i_3 = 24 → r_X0_greatestY_3 rows t n_3 i_3 z_3 = r_X0_greatestY_3 rows t 24 0 () → Z X G 3 0 0 (wMe G mo mb so po block ++ wSc G so sr sp sq rows pat ops cnt) 3 [(0, .ref mo), (1, .int t), (2, .int (nI 23 - nI (i_3)))] [] := by
    intro n_3
    induction n_3 with
    | zero =>
      intro i_3 z_3 hn_3 hF_3
      obtain rfl : i_3 = 24 := by omega
      refine z_iload_n (pc := 3) C 2 dX0_greatestY_3 rfl ?_
      refine z_if_lt (pc := 4) 27 C dX0_greatestY_4 (by decide) (fun c_4 => ?_) (fun c_4 => ?_)
      · skip
        refine z_iconst (pc := 27) (v := (-1)) C dX0_greatestY_27 (by decide) ?_
        exact z_iret (pc := 28) C E dX0_greatestY_28 (pI.mk (by simp only [f_X0_greatestY]; rw [← hF_3]; simp only [r_X0_greatestY_3]) rfl)
      · skip
        exact absurd (dn_lt (a := 23) (by decide)) c_4
    | succ n_3 ih_3 =>
      intro i_3 z_3 hn_3 hF_3
      have hi_3 : i_3 < 24 := by omega
      refine z_iload_n (pc := 3) C 2 dX0_greatestY_3 rfl ?_
      refine z_if_lt (pc := 4) 27 C dX0_greatestY_4 (by decide) (fun c_4 => ?_) (fun c_4 => ?_)
      · skip
        exact absurd c_4 (dn_ge (by decide) (by omega))
      · skip
        refine z_aload_n (pc := 7) C 0 dX0_greatestY_7 rfl ?_
        refine z_get (pc := 8) C 0 0 dX0_greatestY_8 rfl rfl i_X0 (by decide) q_194 rfl ?_
        refine z_iload_n (pc := 11) C 1 dX0_greatestY_11 rfl ?_
        refine z_iload_n (pc := 12) C 2 dX0_greatestY_12 rfl ?_
        refine z_callV (pc := 13) C (c_X6_rowAt) [2, 3, 4, 5] z00 mV_X6_rowAt q_375 dX0_greatestY_13 rfl rfl rfl 2 rfl rfl rfl rfl (Nat.le_of_ble_eq_true rfl) (by decide) (pI.stay rfl ?_)
        refine z_if_eq (pc := 16) 21 C dX0_greatestY_16 (by decide) (fun c_16 => ?_) (fun c_16 => ?_)
        · skip
          refine z_iinc (pc := 21) (v := nI 23 - nI (i_3 + 1)) [(2, _), (0, _), (1, _)] C 2 dX0_greatestY_21 rfl (dn1 _ _) (by decide) rfl ?_
          refine z_goto (pc := 24) 3 C dX0_greatestY_24 (by decide) ?_
          refine z_lv (lv' := [(0, _), (1, _), (2, _)]) [1, 2, 0] rfl ?_
          exact ih_3 (i_3 + 1) () (by omega) (by rw [← hF_3]; simp only [r_X0_greatestY_3, if_pos c_16])
        · skip
          refine z_iload_n (pc := 19) C 2 dX0_greatestY_19 rfl ?_
          exact z_iret (pc := 20) C E dX0_greatestY_20 (pI.mk (by simp only [f_X0_greatestY]; rw [← hF_3]; simp only [r_X0_greatestY_3, if_neg c_16]) rfl)
  exact L_3 24 0 () (by omega) rfl

def b_X0_openDots_4 (ops : Nat → Int32) (cnt : Int32) (i_4 : Nat) (z_4 : Int32) : Int32 := z_4 + (f_J6_bitCount_0f7a4 (f_X6_openAt ops cnt (nI i_4)))
def s_X0_openDots_4 (ops : Nat → Int32) (cnt : Int32) : Nat → Int32
  | 0 => 0
  | i_4 + 1 => b_X0_openDots_4 ops cnt i_4 (s_X0_openDots_4 ops cnt i_4)
def f_X0_openDots (ops : Nat → Int32) (cnt : Int32) : Int32 := (s_X0_openDots_4 ops cnt 24)
set_option maxRecDepth 100000 in
theorem c_X0_openDots {l : Launch} {G : zG} {mo mb so sr sp sq po : Nat} {block : Nat → Int32} {rows : Nat → Int32} {pat : Nat → Int32} {ops : Nat → Int32} {cnt : Int32} (hc : cOk cnt) : Ct l G yX0_openDots cX0_openDots 3 (Option.some FieldType.int) 3 69 [.ref mo] (wMe G mo mb so po block ++ wSc G so sr sp sq rows pat ops cnt) (pI (f_X0_openDots ops cnt) (wMe G mo mb so po block ++ wSc G so sr sp sq rows pat ops cnt)) := by
  refine Ct.of (plainFor_of_name (by decide)) (Nat.le_of_ble_eq_true rfl) (pI.ad (ad_app ad_Me ad_Sc)) (fun X C E => ?_)
  show Z X G 3 0 0 _ 0 [(0, .ref mo)] []
  refine z_iconst (pc := 0) (v := 0) C dX0_openDots_0 (by decide) ?_
  refine z_istore_n (pc := 1) [(1, _), (0, _)] C dX0_openDots_1 rfl (by decide) rfl ?_
  refine z_iconst (pc := 2) (v := 0) C dX0_openDots_2 (by decide) ?_
  refine z_istore_n (pc := 3) [(2, _), (1, _), (0, _)] C dX0_openDots_3 rfl (by decide) rfl ?_
  refine z_lv (lv' := [(0, _), (1, _), (2, _)]) [2, 1, 0] rfl ?_
  refine z_loop (pc := 4) (e := 24) (fun i_4 => wMe G mo mb so po block ++ wSc G so sr sp sq rows pat ops cnt) (fun i_4 => [(0, .ref mo), (1, .int (s_X0_openDots_4 ops cnt i_4)), (2, .int (nI i_4))]) [] (fun i_4 hi_4 ih_4 => ?_) ?_ 0 (Nat.zero_le _)
  · show Z X G 3 0 0 (wMe G mo mb so po block ++ wSc G so sr sp sq rows pat ops cnt) 4 [(0, .ref mo), (1, .int (s_X0_openDots_4 ops cnt i_4)), (2, .int (nI i_4))] []
    generalize hz_4 : s_X0_openDots_4 ops cnt i_4 = z_4
    refine z_iload_n (pc := 4) C 2 dX0_openDots_4 rfl ?_
    refine z_bipush (pc := 5) (v := 24) C dX0_openDots_5 (by decide) ?_
    refine z_icmp_ge (pc := 7) 30 C dX0_openDots_7 (by decide) (fun c_7 => ?_) (fun c_7 => ?_)
    · skip
      exact absurd c_7 (nI_ge (b := 24) (by omega) (by decide))
    · skip
      refine z_iload_n (pc := 10) C 1 dX0_openDots_10 rfl ?_
      refine z_aload_n (pc := 11) C 0 dX0_openDots_11 rfl ?_
      refine z_get (pc := 12) C 0 0 dX0_openDots_12 rfl rfl i_X0 (by decide) q_194 rfl ?_
      refine z_iload_n (pc := 15) C 2 dX0_openDots_15 rfl ?_
      refine z_callV (pc := 16) C (c_X6_openAt (by assumption)) [2, 3, 4, 5] z00 mV_X6_openAt q_699 dX0_openDots_16 rfl rfl rfl 2 rfl rfl rfl rfl (Nat.le_of_ble_eq_true rfl) (by decide) (pI.stay rfl ?_)
      refine z_callS (pc := 19) C (c_J6_bitCount_0f7a4) [] z00 mS_J6_bitCount_0f7a4 q_376 dX0_openDots_19 rfl rfl rfl rfl (Nat.le_of_ble_eq_true rfl) (by decide) (pI.stay rfl ?_)
      refine z_iadd (pc := 22) C dX0_openDots_22 ?_
      refine z_istore_n (pc := 23) [(1, _), (0, _), (2, _)] C dX0_openDots_23 rfl (by decide) rfl ?_
      refine z_iinc (pc := 24) (v := nI (i_4 + 1)) [(2, _), (1, _), (0, _)] C 2 dX0_openDots_24 rfl ((nI_succ _).symm) (by decide) rfl ?_
      refine z_goto (pc := 27) 4 C dX0_openDots_27 (by decide) ?_
      refine z_lv (lv' := [(0, _), (1, _), (2, _)]) [2, 1, 0] rfl ?_
      exact z_eq rfl (by simp only [s_X0_openDots_4, hz_4, b_X0_openDots_4]) rfl ih_4
  · show Z X G 3 0 0 (wMe G mo mb so po block ++ wSc G so sr sp sq rows pat ops cnt) 4 [(0, .ref mo), (1, .int (s_X0_openDots_4 ops cnt 24)), (2, .int (nI 24))] []
    refine z_iload_n (pc := 4) C 2 dX0_openDots_4 rfl ?_
    refine z_bipush (pc := 5) (v := 24) C dX0_openDots_5 (by decide) ?_
    refine z_icmp_ge (pc := 7) 30 C dX0_openDots_7 (by decide) (fun c_7 => ?_) (fun c_7 => ?_)
    · skip
      refine z_iload_n (pc := 30) C 1 dX0_openDots_30 rfl ?_
      exact z_iret (pc := 31) C E dX0_openDots_31 (pI.mk rfl rfl)
    · skip
      exact absurd (nI_le (Nat.le_refl 24) (by decide)) c_7

def f_X0_measured (rows : Nat → Int32) (ops : Nat → Int32) (cnt : Int32) (left : Nat → Int32) (srow : Nat → Int32) (sdot : Nat → Int32) (steps : Int32) (t : Int32) (what : Int32) : Int32 := if what = 0 then f_X0_ones rows t else if what = 1 then f_X0_partsOf rows left srow sdot steps t else if what = 2 then f_X0_leastX rows t else if what = 3 then f_X0_greatestX rows t else if what = 4 then f_X0_leastY rows t else if what = 5 then f_X0_greatestY rows t else f_X0_openDots ops cnt
def g_X0_measured_left (rows : Nat → Int32) (left : Nat → Int32) (srow : Nat → Int32) (sdot : Nat → Int32) (steps : Int32) (t : Int32) (what : Int32) : Nat → Int32 := if what = 0 then left else if what = 1 then g_X0_partsOf_left rows left srow sdot steps t else left
def g_X0_measured_srow (rows : Nat → Int32) (left : Nat → Int32) (srow : Nat → Int32) (sdot : Nat → Int32) (steps : Int32) (t : Int32) (what : Int32) : Nat → Int32 := if what = 0 then srow else if what = 1 then g_X0_partsOf_srow rows left srow sdot steps t else srow
def g_X0_measured_sdot (rows : Nat → Int32) (left : Nat → Int32) (srow : Nat → Int32) (sdot : Nat → Int32) (steps : Int32) (t : Int32) (what : Int32) : Nat → Int32 := if what = 0 then sdot else if what = 1 then g_X0_partsOf_sdot rows left srow sdot steps t else sdot
def g_X0_measured_steps (rows : Nat → Int32) (left : Nat → Int32) (srow : Nat → Int32) (sdot : Nat → Int32) (steps : Int32) (t : Int32) (what : Int32) : Int32 := if what = 0 then steps else if what = 1 then g_X0_partsOf_steps rows left srow sdot steps t else steps
set_option maxRecDepth 100000 in
theorem c_X0_measured {l : Launch} {G : zG} {mo mb so sr sp sq po pl pr pd : Nat} {block : Nat → Int32} {rows : Nat → Int32} {pat : Nat → Int32} {ops : Nat → Int32} {cnt : Int32} {left : Nat → Int32} {srow : Nat → Int32} {sdot : Nat → Int32} {steps : Int32} {t : Int32} {what : Int32} (hc : cOk cnt) : Ct l G yX0_measured cX0_measured 3 (Option.some FieldType.int) 5 119 [.ref mo, .int t, .int what] (wMe G mo mb so po block ++ (wSc G so sr sp sq rows pat ops cnt ++ wPa G po pl pr pd left srow sdot steps)) (pI (f_X0_measured rows ops cnt left srow sdot steps t what) (wMe G mo mb so po block ++ (wSc G so sr sp sq rows pat ops cnt ++ wPa G po pl pr pd (g_X0_measured_left rows left srow sdot steps t what) (g_X0_measured_srow rows left srow sdot steps t what) (g_X0_measured_sdot rows left srow sdot steps t what) (g_X0_measured_steps rows left srow sdot steps t what)))) := by
  refine Ct.of (plainFor_of_name (by decide)) (Nat.le_of_ble_eq_true rfl) (pI.ad (ad_app ad_Me (ad_app ad_Sc ad_Pa))) (fun X C E => ?_)
  show Z X G 3 0 0 _ 0 [(0, .ref mo), (1, .int t), (2, .int what)] []
  refine z_iload_n (pc := 0) C 2 dX0_measured_0 rfl ?_
  by_cases c_1_0 : what = 0
  · skip
    refine z_tableIn (pc := 1) 40 C dX0_measured_1 (by rw [c_1_0]; decide) (by rw [c_1_0]; decide) (by rw [c_1_0]; rfl) (by decide) ?_
    refine z_aload_n (pc := 40) C 0 dX0_measured_40 rfl ?_
    refine z_iload_n (pc := 41) C 1 dX0_measured_41 rfl ?_
    refine z_callV (pc := 42) C (c_X0_ones) [0, 1, 2, 3, 4, 5] z00 mV_X0_ones q_664 dX0_measured_42 rfl rfl rfl 0 rfl rfl rfl rfl (Nat.le_of_ble_eq_true rfl) (by decide) (pI.stay rfl ?_)
    exact z_iret (pc := 45) C E dX0_measured_45 (pI.mk (by simp only [f_X0_measured, if_pos c_1_0]) (by simp only [g_X0_measured_left, g_X0_measured_srow, g_X0_measured_sdot, g_X0_measured_steps, if_pos c_1_0]))
  by_cases c_1_1 : what = 1
  · skip
    refine z_tableIn (pc := 1) 46 C dX0_measured_1 (by rw [c_1_1]; decide) (by rw [c_1_1]; decide) (by rw [c_1_1]; rfl) (by decide) ?_
    refine z_aload_n (pc := 46) C 0 dX0_measured_46 rfl ?_
    refine z_iload_n (pc := 47) C 1 dX0_measured_47 rfl ?_
    refine z_callV (pc := 48) C (c_X0_partsOf) [0, 1, 2, 3, 4, 5, 6, 7, 8, 9] z00 mV_X0_partsOf q_665 dX0_measured_48 rfl rfl rfl 0 rfl rfl rfl rfl (Nat.le_of_ble_eq_true rfl) (by decide) (pI.go (ws' := wMe G mo mb so po block ++ (wSc G so sr sp sq rows pat ops cnt ++ wPa G po pl pr pd _ _ _ _)) rfl ?_)
    exact z_iret (pc := 51) C E dX0_measured_51 (pI.mk (by simp only [f_X0_measured, if_neg c_1_0, if_pos c_1_1]) (by simp only [g_X0_measured_left, g_X0_measured_srow, g_X0_measured_sdot, g_X0_measured_steps, if_neg c_1_0, if_pos c_1_1]))
  by_cases c_1_2 : what = 2
  · skip
    refine z_tableIn (pc := 1) 52 C dX0_measured_1 (by rw [c_1_2]; decide) (by rw [c_1_2]; decide) (by rw [c_1_2]; rfl) (by decide) ?_
    refine z_aload_n (pc := 52) C 0 dX0_measured_52 rfl ?_
    refine z_iload_n (pc := 53) C 1 dX0_measured_53 rfl ?_
    refine z_callV (pc := 54) C (c_X0_leastX) [0, 1, 2, 3, 4, 5] z00 mV_X0_leastX q_674 dX0_measured_54 rfl rfl rfl 0 rfl rfl rfl rfl (Nat.le_of_ble_eq_true rfl) (by decide) (pI.stay rfl ?_)
    exact z_iret (pc := 57) C E dX0_measured_57 (pI.mk (by simp only [f_X0_measured, if_neg c_1_0, if_neg c_1_1, if_pos c_1_2]) (by simp only [g_X0_measured_left, g_X0_measured_srow, g_X0_measured_sdot, g_X0_measured_steps, if_neg c_1_0, if_neg c_1_1, if_pos c_1_2]))
  by_cases c_1_3 : what = 3
  · skip
    refine z_tableIn (pc := 1) 58 C dX0_measured_1 (by rw [c_1_3]; decide) (by rw [c_1_3]; decide) (by rw [c_1_3]; rfl) (by decide) ?_
    refine z_aload_n (pc := 58) C 0 dX0_measured_58 rfl ?_
    refine z_iload_n (pc := 59) C 1 dX0_measured_59 rfl ?_
    refine z_callV (pc := 60) C (c_X0_greatestX) [0, 1, 2, 3, 4, 5] z00 mV_X0_greatestX q_683 dX0_measured_60 rfl rfl rfl 0 rfl rfl rfl rfl (Nat.le_of_ble_eq_true rfl) (by decide) (pI.stay rfl ?_)
    exact z_iret (pc := 63) C E dX0_measured_63 (pI.mk (by simp only [f_X0_measured, if_neg c_1_0, if_neg c_1_1, if_neg c_1_2, if_pos c_1_3]) (by simp only [g_X0_measured_left, g_X0_measured_srow, g_X0_measured_sdot, g_X0_measured_steps, if_neg c_1_0, if_neg c_1_1, if_neg c_1_2, if_pos c_1_3]))
  by_cases c_1_4 : what = 4
  · skip
    refine z_tableIn (pc := 1) 64 C dX0_measured_1 (by rw [c_1_4]; decide) (by rw [c_1_4]; decide) (by rw [c_1_4]; rfl) (by decide) ?_
    refine z_aload_n (pc := 64) C 0 dX0_measured_64 rfl ?_
    refine z_iload_n (pc := 65) C 1 dX0_measured_65 rfl ?_
    refine z_callV (pc := 66) C (c_X0_leastY) [0, 1, 2, 3, 4, 5] z00 mV_X0_leastY q_687 dX0_measured_66 rfl rfl rfl 0 rfl rfl rfl rfl (Nat.le_of_ble_eq_true rfl) (by decide) (pI.stay rfl ?_)
    exact z_iret (pc := 69) C E dX0_measured_69 (pI.mk (by simp only [f_X0_measured, if_neg c_1_0, if_neg c_1_1, if_neg c_1_2, if_neg c_1_3, if_pos c_1_4]) (by simp only [g_X0_measured_left, g_X0_measured_srow, g_X0_measured_sdot, g_X0_measured_steps, if_neg c_1_0, if_neg c_1_1, if_neg c_1_2, if_neg c_1_3, if_pos c_1_4]))
  by_cases c_1_5 : what = 5
  · skip
    refine z_tableIn (pc := 1) 70 C dX0_measured_1 (by rw [c_1_5]; decide) (by rw [c_1_5]; decide) (by rw [c_1_5]; rfl) (by decide) ?_
    refine z_aload_n (pc := 70) C 0 dX0_measured_70 rfl ?_
    refine z_iload_n (pc := 71) C 1 dX0_measured_71 rfl ?_
    refine z_callV (pc := 72) C (c_X0_greatestY) [0, 1, 2, 3, 4, 5] z00 mV_X0_greatestY q_691 dX0_measured_72 rfl rfl rfl 0 rfl rfl rfl rfl (Nat.le_of_ble_eq_true rfl) (by decide) (pI.stay rfl ?_)
    exact z_iret (pc := 75) C E dX0_measured_75 (pI.mk (by simp only [f_X0_measured, if_neg c_1_0, if_neg c_1_1, if_neg c_1_2, if_neg c_1_3, if_neg c_1_4, if_pos c_1_5]) (by simp only [g_X0_measured_left, g_X0_measured_srow, g_X0_measured_sdot, g_X0_measured_steps, if_neg c_1_0, if_neg c_1_1, if_neg c_1_2, if_neg c_1_3, if_neg c_1_4, if_pos c_1_5]))
  refine z_tableD (pc := 1) 76 C dX0_measured_1 [0, 1, 2, 3, 4, 5] (by decide) (List.forall_mem_cons.mpr ⟨lv_neT c_1_0 rfl, List.forall_mem_cons.mpr ⟨lv_neT c_1_1 rfl, List.forall_mem_cons.mpr ⟨lv_neT c_1_2 rfl, List.forall_mem_cons.mpr ⟨lv_neT c_1_3 rfl, List.forall_mem_cons.mpr ⟨lv_neT c_1_4 rfl, List.forall_mem_cons.mpr ⟨lv_neT c_1_5 rfl, fun _ h => absurd h List.not_mem_nil⟩⟩⟩⟩⟩⟩) (by decide) ?_
  refine z_aload_n (pc := 76) C 0 dX0_measured_76 rfl ?_
  refine z_callV (pc := 77) C (c_X0_openDots (by assumption)) [0, 1, 2, 3, 4, 5] z00 mV_X0_openDots q_695 dX0_measured_77 rfl rfl rfl 0 rfl rfl rfl rfl (Nat.le_of_ble_eq_true rfl) (by decide) (pI.stay rfl ?_)
  exact z_iret (pc := 80) C E dX0_measured_80 (pI.mk (by simp only [f_X0_measured, if_neg c_1_0, if_neg c_1_1, if_neg c_1_2, if_neg c_1_3, if_neg c_1_4, if_neg c_1_5]) (by simp only [g_X0_measured_left, g_X0_measured_srow, g_X0_measured_sdot, g_X0_measured_steps, if_neg c_1_0, if_neg c_1_1, if_neg c_1_2, if_neg c_1_3, if_neg c_1_4, if_neg c_1_5]))
