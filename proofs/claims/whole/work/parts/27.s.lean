theorem dv_y {i : Nat} (h : i < 768) : pY (nI i / 32) := by
  have e : nI i / 32 = nI (i / 32) := pk_div (a := i) (d := 32) (by omega) (by decide) (by decide)
  rw [e]; exact pY_n (by omega)
theorem rm_x {i : Nat} (h : i < 768) : 0 ≤ (nI i - nI i / 32 * 32).toInt ∧ (nI i - nI i / 32 * 32).toInt ≤ 31 := by
  have e : nI i - nI i / 32 * 32 = nI (i % 32) := pk_rem (a := i) (d := 32) (by omega) (by decide) (by decide)
  rw [e, nI_toInt (by omega)]; omega
theorem mf_ne {now : Nat → Int32} {x y : Int32} (h : ¬ f_X9_mayFlood now x y = 0) : (0 ≤ x.toInt ∧ x.toInt ≤ 31) ∧ pY y := by
  refine mI_ne fun q => h ?_
  unfold f_X9_mayFlood
  rw [if_pos q]

def b_X9_floods_28 (now : Nat → Int32) (pile : Nat → Int32) (came : Nat → Int32) (t : Int32) (x : Int32) (y : Int32) (i_28 : Nat) (z_28 : (Nat → Int32)) : (Nat → Int32) := (if ((g_X9_spreads_came now pile (g_X9_noneCame_came came) t x y 1) (nI i_28).toNatClampNeg) = 0 then z_28 else (g_X9_sets_now z_28 t ((nI i_28) - (nI i_28) / 32 * 32) ((nI i_28) / 32) (1 - (f_X9_dotOf now t x y))) : Nat → Int32)
def s_X9_floods_28 (now : Nat → Int32) (pile : Nat → Int32) (came : Nat → Int32) (t : Int32) (x : Int32) (y : Int32) : Nat → (Nat → Int32)
  | 0 => now
  | i_28 + 1 => b_X9_floods_28 now pile came t x y i_28 (s_X9_floods_28 now pile came t x y i_28)
def f_X9_floods (now : Nat → Int32) (pile : Nat → Int32) (came : Nat → Int32) (t : Int32) (x : Int32) (y : Int32) : Int32 := f_X9_spreads now pile (g_X9_noneCame_came came) t x y 1
def g_X9_floods_now (now : Nat → Int32) (pile : Nat → Int32) (came : Nat → Int32) (t : Int32) (x : Int32) (y : Int32) : Nat → Int32 := (s_X9_floods_28 now pile came t x y 768)
def g_X9_floods_pile (now : Nat → Int32) (pile : Nat → Int32) (came : Nat → Int32) (t : Int32) (x : Int32) (y : Int32) : Nat → Int32 := g_X9_spreads_pile now pile (g_X9_noneCame_came came) t x y 1
def g_X9_floods_came (now : Nat → Int32) (pile : Nat → Int32) (came : Nat → Int32) (t : Int32) (x : Int32) (y : Int32) : Nat → Int32 := g_X9_spreads_came now pile (g_X9_noneCame_came came) t x y 1
def g_X9_floods_pileL (now : Nat → Int32) (pile : Nat → Int32) (came : Nat → Int32) (t : Int32) (x : Int32) (y : Int32) : Int32 := g_X9_spreads_pileL now pile (g_X9_noneCame_came came) t x y 1
set_option maxRecDepth 100000 in
theorem c_X9_floods {l : Launch} {G : zG} {da dn dp dr ds dl dc dt dg : Nat} {now : Nat → Int32} {past : Nat → Int32} {states : Int32} {refused : Nat → Int32} {aside : Nat → Int32} {pile : Nat → Int32} {came : Nat → Int32} {pileL : Int32} {text : Nat → Int32} {textL : Int32} {place : Int32} {nargs : Nat → Int32} {t : Int32} {x : Int32} {y : Int32} (hT : pT t) (hm : mOk now) (hX : 0 ≤ x.toInt ∧ x.toInt ≤ 31) (hY : pY y) : Ct l G yX9_floods cX9_floods 8 (Option.some FieldType.int) 4 101 [.ref da, .int t, .int x, .int y] (wMd G da dn dp dr ds dl dc dt dg now past states refused aside pile came pileL text textL place nargs) (pI (f_X9_floods now pile came t x y) (wMd G da dn dp dr ds dl dc dt dg (g_X9_floods_now now pile came t x y) past states refused aside (g_X9_floods_pile now pile came t x y) (g_X9_floods_came now pile came t x y) (g_X9_floods_pileL now pile came t x y) text textL place nargs)) := by
  refine Ct.of (plainFor_of_name (by decide)) (Nat.le_of_ble_eq_true rfl) (pI.ad ad_Md) (fun X C E => ?_)
  show Z X G 8 0 0 _ 0 [(0, .ref da), (1, .int t), (2, .int x), (3, .int y)] []
  refine z_aload_n (pc := 0) C 0 dX9_floods_0 rfl ?_
  refine z_callV (pc := 1) C (c_X9_noneCame) [0, 1, 2, 3, 4, 5, 6, 7, 8] z00 mV_X9_noneCame q_1012 dX9_floods_1 rfl rfl rfl 0 rfl rfl rfl rfl (Nat.le_of_ble_eq_true rfl) (by decide) (pV.go (ws' := wMd G da dn dp dr ds dl dc dt dg now past states refused aside pile _ pileL text textL place nargs) rfl ?_)
  refine z_aload_n (pc := 4) C 0 dX9_floods_4 rfl ?_
  refine z_iload_n (pc := 5) C 1 dX9_floods_5 rfl ?_
  refine z_iload_n (pc := 6) C 2 dX9_floods_6 rfl ?_
  refine z_iload_n (pc := 7) C 3 dX9_floods_7 rfl ?_
  refine z_iconst (pc := 8) (v := 1) C dX9_floods_8 (by decide) ?_
  refine z_callV (pc := 9) C (c_X9_spreads (by exact hT) (by exact hm) (by exact hX) (by exact hY)) [0, 1, 2, 3, 4, 5, 6, 7, 8] z00 mV_X9_spreads q_1016 dX9_floods_9 rfl rfl rfl 0 rfl rfl rfl rfl (Nat.le_of_ble_eq_true rfl) (by decide) (pI.go (ws' := wMd G da dn dp dr ds dl dc dt dg now past states refused aside _ _ _ text textL place nargs) rfl ?_)
  refine z_istore (pc := 12) [(4, _), (0, _), (1, _), (2, _), (3, _)] C dX9_floods_12 (by decide) rfl ?_
  refine z_iconst (pc := 14) (v := 1) C dX9_floods_14 (by decide) ?_
  refine z_aload_n (pc := 15) C 1 dX9_floods_15 rfl ?_
  refine z_iload_n (pc := 16) C 2 dX9_floods_16 rfl ?_
  refine z_iload_n (pc := 17) C 3 dX9_floods_17 rfl ?_
  refine z_iload_n (pc := 18) C 4 dX9_floods_18 rfl ?_
  refine z_callV (pc := 19) C (c_X9_dotOf (by exact hT)) [0, 1, 2, 3, 4, 5, 6, 7, 8] z00 mV_X9_dotOf q_895 dX9_floods_19 rfl rfl rfl 0 rfl rfl rfl rfl (Nat.le_of_ble_eq_true rfl) (by decide) (pI.stay rfl ?_)
  refine z_isub (pc := 22) C dX9_floods_22 ?_
  refine z_istore (pc := 23) [(5, _), (4, _), (0, _), (1, _), (2, _), (3, _)] C dX9_floods_23 (by decide) rfl ?_
  refine z_iconst (pc := 25) (v := 0) C dX9_floods_25 (by decide) ?_
  refine z_istore (pc := 26) [(6, _), (5, _), (4, _), (0, _), (1, _), (2, _), (3, _)] C dX9_floods_26 (by decide) rfl ?_
  refine z_lv (lv' := [(0, _), (1, _), (2, _), (3, _), (4, _), (5, _), (6, _)]) [3, 4, 5, 6, 2, 1, 0] rfl ?_
  refine z_loop (pc := 28) (e := 768) (fun i_28 => wMd G da dn dp dr ds dl dc dt dg (s_X9_floods_28 now pile came t x y i_28) past states refused aside (g_X9_spreads_pile now pile (g_X9_noneCame_came came) t x y 1) (g_X9_spreads_came now pile (g_X9_noneCame_came came) t x y 1) (g_X9_spreads_pileL now pile (g_X9_noneCame_came came) t x y 1) text textL place nargs) (fun i_28 => [(0, .ref da), (1, .int t), (2, .int x), (3, .int y), (4, .int (f_X9_spreads now pile (g_X9_noneCame_came came) t x y 1)), (5, .int (1 - (f_X9_dotOf now t x y))), (6, .int (nI i_28))]) [] (fun i_28 hi_28 ih_28 => ?_) ?_ 0 (Nat.zero_le _)
  · show Z X G 8 0 0 (wMd G da dn dp dr ds dl dc dt dg (s_X9_floods_28 now pile came t x y i_28) past states refused aside (g_X9_spreads_pile now pile (g_X9_noneCame_came came) t x y 1) (g_X9_spreads_came now pile (g_X9_noneCame_came came) t x y 1) (g_X9_spreads_pileL now pile (g_X9_noneCame_came came) t x y 1) text textL place nargs) 28 [(0, .ref da), (1, .int t), (2, .int x), (3, .int y), (4, .int (f_X9_spreads now pile (g_X9_noneCame_came came) t x y 1)), (5, .int (1 - (f_X9_dotOf now t x y))), (6, .int (nI i_28))] []
    generalize hz_28 : s_X9_floods_28 now pile came t x y i_28 = z_28
    refine z_iload (pc := 28) C 6 dX9_floods_28 rfl ?_
    refine z_sipush (pc := 30) (v := 768) C dX9_floods_30 (by decide) ?_
    refine z_icmp_ge (pc := 33) 71 C dX9_floods_33 (by decide) (fun c_33 => ?_) (fun c_33 => ?_)
    · skip
      exact absurd c_33 (nI_ge (b := 768) (by omega) (by decide))
    · skip
      refine z_aload_n (pc := 36) C 0 dX9_floods_36 rfl ?_
      refine z_get (pc := 37) C 0 6 dX9_floods_37 rfl rfl i_X9 (by decide) q_835 rfl ?_
      refine z_iload (pc := 40) C 6 dX9_floods_40 rfl ?_
      refine z_zald (pc := 42) C 6 dX9_floods_42 rfl (ix_nI hi_28 (by decide)) ?_
      have K_65 : Z X G 8 0 0 (wMd G da dn dp dr ds dl dc dt dg (if ((g_X9_spreads_came now pile (g_X9_noneCame_came came) t x y 1) (nI i_28).toNatClampNeg) = 0 then z_28 else (g_X9_sets_now z_28 t ((nI i_28) - (nI i_28) / 32 * 32) ((nI i_28) / 32) (1 - (f_X9_dotOf now t x y))) : Nat → Int32) past states refused aside (g_X9_spreads_pile now pile (g_X9_noneCame_came came) t x y 1) (g_X9_spreads_came now pile (g_X9_noneCame_came came) t x y 1) (g_X9_spreads_pileL now pile (g_X9_noneCame_came came) t x y 1) text textL place nargs) 65 [(0, .ref da), (1, .int t), (2, .int x), (3, .int y), (4, .int (f_X9_spreads now pile (g_X9_noneCame_came came) t x y 1)), (5, .int (1 - (f_X9_dotOf now t x y))), (6, .int (nI i_28))] [] := by
        refine z_iinc (pc := 65) (v := nI (i_28 + 1)) [(6, _), (0, _), (1, _), (2, _), (3, _), (4, _), (5, _)] C 6 dX9_floods_65 rfl ((nI_succ _).symm) (by decide) rfl ?_
        refine z_goto (pc := 68) 28 C dX9_floods_68 (by decide) ?_
        refine z_lv (lv' := [(0, _), (1, _), (2, _), (3, _), (4, _), (5, _), (6, _)]) [1, 2, 3, 4, 5, 6, 0] rfl ?_
        exact z_eq (by simp only [s_X9_floods_28, hz_28, b_X9_floods_28]) rfl rfl ih_28
      refine z_if_eq (pc := 43) 65 C dX9_floods_43 (by decide) (fun c_43 => ?_) (fun c_43 => ?_)
      · skip
        refine z_lv (lv' := [(0, _), (1, _), (2, _), (3, _), (4, _), (5, _), (6, _)]) [0, 1, 2, 3, 4, 5, 6] rfl ?_
        exact z_eq (by simp only [if_pos c_43]) rfl rfl K_65
      · skip
        refine z_aload_n (pc := 46) C 0 dX9_floods_46 rfl ?_
        refine z_iload_n (pc := 47) C 1 dX9_floods_47 rfl ?_
        refine z_iload (pc := 48) C 6 dX9_floods_48 rfl ?_
        refine z_bipush (pc := 50) (v := 32) C dX9_floods_50 (by decide) ?_
        refine z_irem (pc := 52) C dX9_floods_52 (by decide) ?_
        refine z_iload (pc := 53) C 6 dX9_floods_53 rfl ?_
        refine z_bipush (pc := 55) (v := 32) C dX9_floods_55 (by decide) ?_
        refine z_idiv (pc := 57) C dX9_floods_57 (by decide) ?_
        refine z_iload (pc := 58) C 5 dX9_floods_58 rfl ?_
        refine z_callV (pc := 60) C (c_X9_sets (by exact hT) (by exact (dv_y hi_28))) [0, 1, 2, 3, 4, 5, 6, 7, 8] z00 mV_X9_sets q_891 dX9_floods_60 rfl rfl rfl 0 rfl rfl rfl rfl (Nat.le_of_ble_eq_true rfl) (by decide) (pI.go (ws' := wMd G da dn dp dr ds dl dc dt dg _ past states refused aside _ _ _ text textL place nargs) rfl ?_)
        refine z_istore (pc := 63) [(7, _), (0, _), (1, _), (2, _), (3, _), (4, _), (5, _), (6, _)] C dX9_floods_63 (by decide) rfl ?_
        refine z_lv (lv' := [(0, _), (1, _), (2, _), (3, _), (4, _), (5, _), (6, _)]) [1, 2, 3, 4, 5, 6, 7] rfl ?_
        exact z_eq (by simp only [if_neg c_43]) rfl rfl K_65
  · show Z X G 8 0 0 (wMd G da dn dp dr ds dl dc dt dg (s_X9_floods_28 now pile came t x y 768) past states refused aside (g_X9_spreads_pile now pile (g_X9_noneCame_came came) t x y 1) (g_X9_spreads_came now pile (g_X9_noneCame_came came) t x y 1) (g_X9_spreads_pileL now pile (g_X9_noneCame_came came) t x y 1) text textL place nargs) 28 [(0, .ref da), (1, .int t), (2, .int x), (3, .int y), (4, .int (f_X9_spreads now pile (g_X9_noneCame_came came) t x y 1)), (5, .int (1 - (f_X9_dotOf now t x y))), (6, .int (nI 768))] []
    refine z_iload (pc := 28) C 6 dX9_floods_28 rfl ?_
    refine z_sipush (pc := 30) (v := 768) C dX9_floods_30 (by decide) ?_
    refine z_icmp_ge (pc := 33) 71 C dX9_floods_33 (by decide) (fun c_33 => ?_) (fun c_33 => ?_)
    · skip
      refine z_iload (pc := 71) C 4 dX9_floods_71 rfl ?_
      exact z_iret (pc := 73) C E dX9_floods_73 (pI.mk rfl rfl)
    · skip
      exact absurd (nI_le (Nat.le_refl 768) (by decide)) c_33

theorem mOk_fl0 {now pile came : Nat → Int32} {t x y : Int32} (hT : pT t) (h : mOk now) : ∀ i : Nat, i ≤ 768 → mOk (s_X9_floods_28 now pile came t x y i)
  | 0, _ => h
  | i + 1, hi => by
    have ih := mOk_fl0 (pile := pile) (came := came) (x := x) (y := y) hT h i (by omega)
    unfold s_X9_floods_28 b_X9_floods_28
    split
    · exact ih
    · exact mOk_sets hT (dv_y (by omega)) ih
theorem mOk_fl {now pile came : Nat → Int32} {t x y : Int32} (hT : pT t) (h : mOk now) : mOk (g_X9_floods_now now pile came t x y) := mOk_fl0 hT h 768 (Nat.le_refl _)

def b_X9_partsOf_8 (now : Nat → Int32) (t : Int32) (i_8 : Nat) (z_8 : Int32 × (Nat → Int32) × (Nat → Int32) × Int32) : Int32 × (Nat → Int32) × (Nat → Int32) × Int32 := ((if (z_8.2.2.1 (nI i_8).toNatClampNeg) = 0 then (if (f_X9_dotOf now t ((nI i_8) - (nI i_8) / 32 * 32) ((nI i_8) / 32)) = 1 then (z_8.1 + 1) else z_8.1 : Int32) else z_8.1 : Int32), (if (z_8.2.2.1 (nI i_8).toNatClampNeg) = 0 then (if (f_X9_dotOf now t ((nI i_8) - (nI i_8) / 32 * 32) ((nI i_8) / 32)) = 1 then (g_X9_spreads_pile now z_8.2.1 z_8.2.2.1 t ((nI i_8) - (nI i_8) / 32 * 32) ((nI i_8) / 32) 0) else z_8.2.1 : Nat → Int32) else z_8.2.1 : Nat → Int32), (if (z_8.2.2.1 (nI i_8).toNatClampNeg) = 0 then (if (f_X9_dotOf now t ((nI i_8) - (nI i_8) / 32 * 32) ((nI i_8) / 32)) = 1 then (g_X9_spreads_came now z_8.2.1 z_8.2.2.1 t ((nI i_8) - (nI i_8) / 32 * 32) ((nI i_8) / 32) 0) else z_8.2.2.1 : Nat → Int32) else z_8.2.2.1 : Nat → Int32), (if (z_8.2.2.1 (nI i_8).toNatClampNeg) = 0 then (if (f_X9_dotOf now t ((nI i_8) - (nI i_8) / 32 * 32) ((nI i_8) / 32)) = 1 then (g_X9_spreads_pileL now z_8.2.1 z_8.2.2.1 t ((nI i_8) - (nI i_8) / 32 * 32) ((nI i_8) / 32) 0) else z_8.2.2.2 : Int32) else z_8.2.2.2 : Int32))
def s_X9_partsOf_8 (now : Nat → Int32) (pile : Nat → Int32) (came : Nat → Int32) (pileL : Int32) (t : Int32) : Nat → Int32 × (Nat → Int32) × (Nat → Int32) × Int32
  | 0 => (0, pile, g_X9_noneCame_came came, pileL)
  | i_8 + 1 => b_X9_partsOf_8 now t i_8 (s_X9_partsOf_8 now pile came pileL t i_8)
def f_X9_partsOf (now : Nat → Int32) (pile : Nat → Int32) (came : Nat → Int32) (pileL : Int32) (t : Int32) : Int32 := (s_X9_partsOf_8 now pile came pileL t 768).1
def g_X9_partsOf_pile (now : Nat → Int32) (pile : Nat → Int32) (came : Nat → Int32) (pileL : Int32) (t : Int32) : Nat → Int32 := (s_X9_partsOf_8 now pile came pileL t 768).2.1
def g_X9_partsOf_came (now : Nat → Int32) (pile : Nat → Int32) (came : Nat → Int32) (pileL : Int32) (t : Int32) : Nat → Int32 := (s_X9_partsOf_8 now pile came pileL t 768).2.2.1
def g_X9_partsOf_pileL (now : Nat → Int32) (pile : Nat → Int32) (came : Nat → Int32) (pileL : Int32) (t : Int32) : Int32 := (s_X9_partsOf_8 now pile came pileL t 768).2.2.2
set_option maxRecDepth 100000 in
theorem c_X9_partsOf {l : Launch} {G : zG} {da dn dp dr ds dl dc dt dg : Nat} {now : Nat → Int32} {past : Nat → Int32} {states : Int32} {refused : Nat → Int32} {aside : Nat → Int32} {pile : Nat → Int32} {came : Nat → Int32} {pileL : Int32} {text : Nat → Int32} {textL : Int32} {place : Int32} {nargs : Nat → Int32} {t : Int32} (hT : pT t) (hm : mOk now) : Ct l G yX9_partsOf cX9_partsOf 5 (Option.some FieldType.int) 4 101 [.ref da, .int t] (wMd G da dn dp dr ds dl dc dt dg now past states refused aside pile came pileL text textL place nargs) (pI (f_X9_partsOf now pile came pileL t) (wMd G da dn dp dr ds dl dc dt dg now past states refused aside (g_X9_partsOf_pile now pile came pileL t) (g_X9_partsOf_came now pile came pileL t) (g_X9_partsOf_pileL now pile came pileL t) text textL place nargs)) := by
  refine Ct.of (plainFor_of_name (by decide)) (Nat.le_of_ble_eq_true rfl) (pI.ad ad_Md) (fun X C E => ?_)
  show Z X G 5 0 0 _ 0 [(0, .ref da), (1, .int t)] []
  refine z_iconst (pc := 0) (v := 0) C dX9_partsOf_0 (by decide) ?_
  refine z_istore_n (pc := 1) [(2, _), (0, _), (1, _)] C dX9_partsOf_1 rfl (by decide) rfl ?_
  refine z_aload_n (pc := 2) C 1 dX9_partsOf_2 rfl ?_
  refine z_callV (pc := 3) C (c_X9_noneCame) [0, 1, 2, 3, 4, 5, 6, 7, 8] z00 mV_X9_noneCame q_1012 dX9_partsOf_3 rfl rfl rfl 0 rfl rfl rfl rfl (Nat.le_of_ble_eq_true rfl) (by decide) (pV.go (ws' := wMd G da dn dp dr ds dl dc dt dg now past states refused aside pile _ pileL text textL place nargs) rfl ?_)
  refine z_iconst (pc := 6) (v := 0) C dX9_partsOf_6 (by decide) ?_
  refine z_istore_n (pc := 7) [(3, _), (2, _), (0, _), (1, _)] C dX9_partsOf_7 rfl (by decide) rfl ?_
  refine z_lv (lv' := [(0, _), (1, _), (2, _), (3, _)]) [2, 3, 1, 0] rfl ?_
  refine z_loop (pc := 8) (e := 768) (fun i_8 => wMd G da dn dp dr ds dl dc dt dg now past states refused aside ((s_X9_partsOf_8 now pile came pileL t i_8).2.1) ((s_X9_partsOf_8 now pile came pileL t i_8).2.2.1) ((s_X9_partsOf_8 now pile came pileL t i_8).2.2.2) text textL place nargs) (fun i_8 => [(0, .ref da), (1, .int t), (2, .int ((s_X9_partsOf_8 now pile came pileL t i_8).1)), (3, .int (nI i_8))]) [] (fun i_8 hi_8 ih_8 => ?_) ?_ 0 (Nat.zero_le _)
  · show Z X G 5 0 0 (wMd G da dn dp dr ds dl dc dt dg now past states refused aside ((s_X9_partsOf_8 now pile came pileL t i_8).2.1) ((s_X9_partsOf_8 now pile came pileL t i_8).2.2.1) ((s_X9_partsOf_8 now pile came pileL t i_8).2.2.2) text textL place nargs) 8 [(0, .ref da), (1, .int t), (2, .int ((s_X9_partsOf_8 now pile came pileL t i_8).1)), (3, .int (nI i_8))] []
    generalize hz_8 : s_X9_partsOf_8 now pile came pileL t i_8 = z_8
    refine z_iload_n (pc := 8) C 3 dX9_partsOf_8 rfl ?_
    refine z_sipush (pc := 9) (v := 768) C dX9_partsOf_9 (by decide) ?_
    refine z_icmp_ge (pc := 12) 66 C dX9_partsOf_12 (by decide) (fun c_12 => ?_) (fun c_12 => ?_)
    · skip
      exact absurd c_12 (nI_ge (b := 768) (by omega) (by decide))
    · skip
      refine z_aload_n (pc := 15) C 0 dX9_partsOf_15 rfl ?_
      refine z_get (pc := 16) C 0 6 dX9_partsOf_16 rfl rfl i_X9 (by decide) q_835 rfl ?_
      refine z_iload_n (pc := 19) C 3 dX9_partsOf_19 rfl ?_
      refine z_zald (pc := 20) C 6 dX9_partsOf_20 rfl (ix_nI hi_8 (by decide)) ?_
      have K_60 : Z X G 5 0 0 (wMd G da dn dp dr ds dl dc dt dg now past states refused aside (if (z_8.2.2.1 (nI i_8).toNatClampNeg) = 0 then (if (f_X9_dotOf now t ((nI i_8) - (nI i_8) / 32 * 32) ((nI i_8) / 32)) = 1 then (g_X9_spreads_pile now z_8.2.1 z_8.2.2.1 t ((nI i_8) - (nI i_8) / 32 * 32) ((nI i_8) / 32) 0) else z_8.2.1 : Nat → Int32) else z_8.2.1 : Nat → Int32) (if (z_8.2.2.1 (nI i_8).toNatClampNeg) = 0 then (if (f_X9_dotOf now t ((nI i_8) - (nI i_8) / 32 * 32) ((nI i_8) / 32)) = 1 then (g_X9_spreads_came now z_8.2.1 z_8.2.2.1 t ((nI i_8) - (nI i_8) / 32 * 32) ((nI i_8) / 32) 0) else z_8.2.2.1 : Nat → Int32) else z_8.2.2.1 : Nat → Int32) (if (z_8.2.2.1 (nI i_8).toNatClampNeg) = 0 then (if (f_X9_dotOf now t ((nI i_8) - (nI i_8) / 32 * 32) ((nI i_8) / 32)) = 1 then (g_X9_spreads_pileL now z_8.2.1 z_8.2.2.1 t ((nI i_8) - (nI i_8) / 32 * 32) ((nI i_8) / 32) 0) else z_8.2.2.2 : Int32) else z_8.2.2.2 : Int32) text textL place nargs) 60 [(0, .ref da), (1, .int t), (2, .int (if (z_8.2.2.1 (nI i_8).toNatClampNeg) = 0 then (if (f_X9_dotOf now t ((nI i_8) - (nI i_8) / 32 * 32) ((nI i_8) / 32)) = 1 then (z_8.1 + 1) else z_8.1 : Int32) else z_8.1 : Int32)), (3, .int (nI i_8))] [] := by
        refine z_iinc (pc := 60) (v := nI (i_8 + 1)) [(3, _), (0, _), (1, _), (2, _)] C 3 dX9_partsOf_60 rfl ((nI_succ _).symm) (by decide) rfl ?_
        refine z_goto (pc := 63) 8 C dX9_partsOf_63 (by decide) ?_
        refine z_lv (lv' := [(0, _), (1, _), (2, _), (3, _)]) [1, 2, 3, 0] rfl ?_
        exact z_eq (by simp only [s_X9_partsOf_8, hz_8, b_X9_partsOf_8]) (by simp only [s_X9_partsOf_8, hz_8, b_X9_partsOf_8]) rfl ih_8
      refine z_if_ne (pc := 21) 60 C dX9_partsOf_21 (by decide) (fun c_21 => ?_) (fun c_21 => ?_)
      · skip
        refine z_lv (lv' := [(0, _), (1, _), (2, _), (3, _)]) [0, 1, 2, 3] rfl ?_
        exact z_eq (by simp only [if_neg c_21]) (by simp only [if_neg c_21]) rfl K_60
      · skip
        refine z_aload_n (pc := 24) C 0 dX9_partsOf_24 rfl ?_
        refine z_iload_n (pc := 25) C 1 dX9_partsOf_25 rfl ?_
        refine z_iload_n (pc := 26) C 3 dX9_partsOf_26 rfl ?_
        refine z_bipush (pc := 27) (v := 32) C dX9_partsOf_27 (by decide) ?_
        refine z_irem (pc := 29) C dX9_partsOf_29 (by decide) ?_
        refine z_iload_n (pc := 30) C 3 dX9_partsOf_30 rfl ?_
        refine z_bipush (pc := 31) (v := 32) C dX9_partsOf_31 (by decide) ?_
        refine z_idiv (pc := 33) C dX9_partsOf_33 (by decide) ?_
        refine z_callV (pc := 34) C (c_X9_dotOf (by exact hT)) [0, 1, 2, 3, 4, 5, 6, 7, 8] z00 mV_X9_dotOf q_895 dX9_partsOf_34 rfl rfl rfl 0 rfl rfl rfl rfl (Nat.le_of_ble_eq_true rfl) (by decide) (pI.stay rfl ?_)
        refine z_iconst (pc := 37) (v := 1) C dX9_partsOf_37 (by decide) ?_
        have K_60 : Z X G 5 0 0 (wMd G da dn dp dr ds dl dc dt dg now past states refused aside (if (f_X9_dotOf now t ((nI i_8) - (nI i_8) / 32 * 32) ((nI i_8) / 32)) = 1 then (g_X9_spreads_pile now z_8.2.1 z_8.2.2.1 t ((nI i_8) - (nI i_8) / 32 * 32) ((nI i_8) / 32) 0) else z_8.2.1 : Nat → Int32) (if (f_X9_dotOf now t ((nI i_8) - (nI i_8) / 32 * 32) ((nI i_8) / 32)) = 1 then (g_X9_spreads_came now z_8.2.1 z_8.2.2.1 t ((nI i_8) - (nI i_8) / 32 * 32) ((nI i_8) / 32) 0) else z_8.2.2.1 : Nat → Int32) (if (f_X9_dotOf now t ((nI i_8) - (nI i_8) / 32 * 32) ((nI i_8) / 32)) = 1 then (g_X9_spreads_pileL now z_8.2.1 z_8.2.2.1 t ((nI i_8) - (nI i_8) / 32 * 32) ((nI i_8) / 32) 0) else z_8.2.2.2 : Int32) text textL place nargs) 60 [(0, .ref da), (1, .int t), (2, .int (if (f_X9_dotOf now t ((nI i_8) - (nI i_8) / 32 * 32) ((nI i_8) / 32)) = 1 then (z_8.1 + 1) else z_8.1 : Int32)), (3, .int (nI i_8))] [] := by
          refine z_lv (lv' := [(0, _), (1, _), (2, _), (3, _)]) [0, 1, 2, 3] rfl ?_
          exact z_eq (by simp only [if_pos c_21]) (by simp only [if_pos c_21]) rfl K_60
        refine z_icmp_ne (pc := 38) 60 C dX9_partsOf_38 (by decide) (fun c_38 => ?_) (fun c_38 => ?_)
        · skip
          refine z_lv (lv' := [(0, _), (1, _), (2, _), (3, _)]) [0, 1, 2, 3] rfl ?_
          exact z_eq (by simp only [if_neg c_38]) (by simp only [if_neg c_38]) rfl K_60
        · skip
          refine z_aload_n (pc := 41) C 0 dX9_partsOf_41 rfl ?_
          refine z_iload_n (pc := 42) C 1 dX9_partsOf_42 rfl ?_
          refine z_iload_n (pc := 43) C 3 dX9_partsOf_43 rfl ?_
          refine z_bipush (pc := 44) (v := 32) C dX9_partsOf_44 (by decide) ?_
          refine z_irem (pc := 46) C dX9_partsOf_46 (by decide) ?_
          refine z_iload_n (pc := 47) C 3 dX9_partsOf_47 rfl ?_
          refine z_bipush (pc := 48) (v := 32) C dX9_partsOf_48 (by decide) ?_
          refine z_idiv (pc := 50) C dX9_partsOf_50 (by decide) ?_
          refine z_iconst (pc := 51) (v := 0) C dX9_partsOf_51 (by decide) ?_
          refine z_callV (pc := 52) C (c_X9_spreads (by exact hT) (by exact hm) (by exact (rm_x hi_8)) (by exact (dv_y hi_8))) [0, 1, 2, 3, 4, 5, 6, 7, 8] z00 mV_X9_spreads q_1016 dX9_partsOf_52 rfl rfl rfl 0 rfl rfl rfl rfl (Nat.le_of_ble_eq_true rfl) (by decide) (pI.go (ws' := wMd G da dn dp dr ds dl dc dt dg now past states refused aside _ _ _ text textL place nargs) rfl ?_)
          refine z_istore (pc := 55) [(4, _), (0, _), (1, _), (2, _), (3, _)] C dX9_partsOf_55 (by decide) rfl ?_
          refine z_iinc (pc := 57) (v := z_8.1 + 1) [(2, _), (4, _), (0, _), (1, _), (3, _)] C 3 dX9_partsOf_57 rfl rfl (by decide) rfl ?_
          refine z_lv (lv' := [(0, _), (1, _), (2, _), (3, _)]) [2, 3, 0, 4] rfl ?_
          exact z_eq (by simp only [if_pos c_38]) (by simp only [if_pos c_38]) rfl K_60
  · show Z X G 5 0 0 (wMd G da dn dp dr ds dl dc dt dg now past states refused aside ((s_X9_partsOf_8 now pile came pileL t 768).2.1) ((s_X9_partsOf_8 now pile came pileL t 768).2.2.1) ((s_X9_partsOf_8 now pile came pileL t 768).2.2.2) text textL place nargs) 8 [(0, .ref da), (1, .int t), (2, .int ((s_X9_partsOf_8 now pile came pileL t 768).1)), (3, .int (nI 768))] []
    refine z_iload_n (pc := 8) C 3 dX9_partsOf_8 rfl ?_
    refine z_sipush (pc := 9) (v := 768) C dX9_partsOf_9 (by decide) ?_
    refine z_icmp_ge (pc := 12) 66 C dX9_partsOf_12 (by decide) (fun c_12 => ?_) (fun c_12 => ?_)
    · skip
      refine z_iload_n (pc := 66) C 2 dX9_partsOf_66 rfl ?_
      exact z_iret (pc := 67) C E dX9_partsOf_67 (pI.mk rfl rfl)
    · skip
      exact absurd (nI_le (Nat.le_refl 768) (by decide)) c_12

def f_X9_flood (now : Nat → Int32) (pile : Nat → Int32) (came : Nat → Int32) (t : Int32) (x : Int32) (y : Int32) : Int32 := if (f_X9_isPicture t) = 0 then f_X9_bad (-2) else if (f_X9_isPlace x y) = 0 then f_X9_bad (-2) else if (f_X9_mayFlood now x y) = 0 then f_X9_no else f_X9_floods now pile came t x y
def g_X9_flood_now (now : Nat → Int32) (pile : Nat → Int32) (came : Nat → Int32) (t : Int32) (x : Int32) (y : Int32) : Nat → Int32 := if (f_X9_isPicture t) = 0 then now else if (f_X9_isPlace x y) = 0 then now else if (f_X9_mayFlood now x y) = 0 then now else g_X9_floods_now now pile came t x y
def g_X9_flood_past (now : Nat → Int32) (past : Nat → Int32) (states : Int32) (t : Int32) (x : Int32) (y : Int32) : Nat → Int32 := if (f_X9_isPicture t) = 0 then past else if (f_X9_isPlace x y) = 0 then past else if (f_X9_mayFlood now x y) = 0 then past else g_X9_keep_past now past states
def g_X9_flood_states (now : Nat → Int32) (states : Int32) (t : Int32) (x : Int32) (y : Int32) : Int32 := if (f_X9_isPicture t) = 0 then states else if (f_X9_isPlace x y) = 0 then states else if (f_X9_mayFlood now x y) = 0 then states else g_X9_keep_states states
def g_X9_flood_refused (now : Nat → Int32) (refused : Nat → Int32) (t : Int32) (x : Int32) (y : Int32) : Nat → Int32 := if (f_X9_isPicture t) = 0 then g_X9_bad_refused refused else if (f_X9_isPlace x y) = 0 then g_X9_bad_refused refused else if (f_X9_mayFlood now x y) = 0 then g_X9_no_refused refused else refused
def g_X9_flood_pile (now : Nat → Int32) (pile : Nat → Int32) (came : Nat → Int32) (t : Int32) (x : Int32) (y : Int32) : Nat → Int32 := if (f_X9_isPicture t) = 0 then pile else if (f_X9_isPlace x y) = 0 then pile else if (f_X9_mayFlood now x y) = 0 then pile else g_X9_floods_pile now pile came t x y
def g_X9_flood_came (now : Nat → Int32) (pile : Nat → Int32) (came : Nat → Int32) (t : Int32) (x : Int32) (y : Int32) : Nat → Int32 := if (f_X9_isPicture t) = 0 then came else if (f_X9_isPlace x y) = 0 then came else if (f_X9_mayFlood now x y) = 0 then came else g_X9_floods_came now pile came t x y
def g_X9_flood_pileL (now : Nat → Int32) (pile : Nat → Int32) (came : Nat → Int32) (pileL : Int32) (t : Int32) (x : Int32) (y : Int32) : Int32 := if (f_X9_isPicture t) = 0 then pileL else if (f_X9_isPlace x y) = 0 then pileL else if (f_X9_mayFlood now x y) = 0 then pileL else g_X9_floods_pileL now pile came t x y
set_option maxRecDepth 100000 in
theorem c_X9_flood {l : Launch} {G : zG} {da dn dp dr ds dl dc dt dg : Nat} {now : Nat → Int32} {past : Nat → Int32} {states : Int32} {refused : Nat → Int32} {aside : Nat → Int32} {pile : Nat → Int32} {came : Nat → Int32} {pileL : Int32} {text : Nat → Int32} {textL : Int32} {place : Int32} {nargs : Nat → Int32} {t : Int32} {x : Int32} {y : Int32} (hm : mOk now) (hq : qOk states) : Ct l G yX9_flood cX9_flood 4 (Option.some FieldType.int) 5 128 [.ref da, .int t, .int x, .int y] (wMd G da dn dp dr ds dl dc dt dg now past states refused aside pile came pileL text textL place nargs) (pI (f_X9_flood now pile came t x y) (wMd G da dn dp dr ds dl dc dt dg (g_X9_flood_now now pile came t x y) (g_X9_flood_past now past states t x y) (g_X9_flood_states now states t x y) (g_X9_flood_refused now refused t x y) aside (g_X9_flood_pile now pile came t x y) (g_X9_flood_came now pile came t x y) (g_X9_flood_pileL now pile came pileL t x y) text textL place nargs)) := by
  refine Ct.of (plainFor_of_name (by decide)) (Nat.le_of_ble_eq_true rfl) (pI.ad ad_Md) (fun X C E => ?_)
  show Z X G 4 0 0 _ 0 [(0, .ref da), (1, .int t), (2, .int x), (3, .int y)] []
  refine z_iload_n (pc := 0) C 1 dX9_flood_0 rfl ?_
  refine z_callS (pc := 1) C (c_X9_isPicture) [] z00 mS_X9_isPicture q_871 dX9_flood_1 rfl rfl rfl rfl (Nat.le_of_ble_eq_true rfl) (by decide) (pI.stay rfl ?_)
  refine z_if_eq (pc := 4) 15 C dX9_flood_4 (by decide) (fun c_4 => ?_) (fun c_4 => ?_)
  · skip
    refine z_aload_n (pc := 15) C 0 dX9_flood_15 rfl ?_
    refine z_bipush (pc := 16) (v := (-2)) C dX9_flood_16 (by decide) ?_
    refine z_callV (pc := 18) C (c_X9_bad) [0, 1, 2, 3, 4, 5, 6, 7, 8] z00 mV_X9_bad q_883 dX9_flood_18 rfl rfl rfl 0 rfl rfl rfl rfl (Nat.le_of_ble_eq_true rfl) (by decide) (pI.go (ws' := wMd G da dn dp dr ds dl dc dt dg now past states _ aside pile came pileL text textL place nargs) rfl ?_)
    exact z_iret (pc := 21) C E dX9_flood_21 (pI.mk (by simp only [f_X9_flood, if_pos c_4]) (by simp only [g_X9_flood_now, g_X9_flood_past, g_X9_flood_states, g_X9_flood_refused, g_X9_flood_pile, g_X9_flood_came, g_X9_flood_pileL, if_pos c_4]))
  · skip
    refine z_iload_n (pc := 7) C 2 dX9_flood_7 rfl ?_
    refine z_iload_n (pc := 8) C 3 dX9_flood_8 rfl ?_
    refine z_callS (pc := 9) C (c_X9_isPlace) [] z00 mS_X9_isPlace q_926 dX9_flood_9 rfl rfl rfl rfl (Nat.le_of_ble_eq_true rfl) (by decide) (pI.stay rfl ?_)
    refine z_if_ne (pc := 12) 22 C dX9_flood_12 (by decide) (fun c_12 => ?_) (fun c_12 => ?_)
    · skip
      refine z_aload_n (pc := 22) C 0 dX9_flood_22 rfl ?_
      refine z_iload_n (pc := 23) C 2 dX9_flood_23 rfl ?_
      refine z_iload_n (pc := 24) C 3 dX9_flood_24 rfl ?_
      refine z_callV (pc := 25) C (c_X9_mayFlood (by exact hm)) [0, 1, 2, 3, 4, 5, 6, 7, 8] z00 mV_X9_mayFlood q_1000 dX9_flood_25 rfl rfl rfl 0 rfl rfl rfl rfl (Nat.le_of_ble_eq_true rfl) (by decide) (pI.stay rfl ?_)
      refine z_if_ne (pc := 28) 36 C dX9_flood_28 (by decide) (fun c_28 => ?_) (fun c_28 => ?_)
      · skip
        refine z_aload_n (pc := 36) C 0 dX9_flood_36 rfl ?_
        refine z_callV (pc := 37) C (c_X9_keep (by exact hq)) [0, 1, 2, 3, 4, 5, 6, 7, 8] z00 mV_X9_keep q_887 dX9_flood_37 rfl rfl rfl 0 rfl rfl rfl rfl (Nat.le_of_ble_eq_true rfl) (by decide) (pV.go (ws' := wMd G da dn dp dr ds dl dc dt dg now _ _ refused aside pile came pileL text textL place nargs) rfl ?_)
        refine z_aload_n (pc := 40) C 0 dX9_flood_40 rfl ?_
        refine z_iload_n (pc := 41) C 1 dX9_flood_41 rfl ?_
        refine z_iload_n (pc := 42) C 2 dX9_flood_42 rfl ?_
        refine z_iload_n (pc := 43) C 3 dX9_flood_43 rfl ?_
        refine z_callV (pc := 44) C (c_X9_floods (by exact (mP_ne c_4)) (by exact hm) (by exact (mf_ne c_28).1) (by exact (mf_ne c_28).2)) [0, 1, 2, 3, 4, 5, 6, 7, 8] z00 mV_X9_floods q_1008 dX9_flood_44 rfl rfl rfl 0 rfl rfl rfl rfl (Nat.le_of_ble_eq_true rfl) (by decide) (pI.go (ws' := wMd G da dn dp dr ds dl dc dt dg _ _ _ refused aside _ _ _ text textL place nargs) rfl ?_)
        exact z_iret (pc := 47) C E dX9_flood_47 (pI.mk (by simp only [f_X9_flood, if_neg c_4, if_neg c_12, if_neg c_28]) (by simp only [g_X9_flood_now, g_X9_flood_past, g_X9_flood_states, g_X9_flood_refused, g_X9_flood_pile, g_X9_flood_came, g_X9_flood_pileL, if_neg c_4, if_neg c_12, if_neg c_28]))
      · skip
        refine z_aload_n (pc := 31) C 0 dX9_flood_31 rfl ?_
        refine z_callV (pc := 32) C (c_X9_no) [0, 1, 2, 3, 4, 5, 6, 7, 8] z00 mV_X9_no q_1004 dX9_flood_32 rfl rfl rfl 0 rfl rfl rfl rfl (Nat.le_of_ble_eq_true rfl) (by decide) (pI.go (ws' := wMd G da dn dp dr ds dl dc dt dg now past states _ aside pile came pileL text textL place nargs) rfl ?_)
        exact z_iret (pc := 35) C E dX9_flood_35 (pI.mk (by simp only [f_X9_flood, if_neg c_4, if_neg c_12, if_pos c_28]) (by simp only [g_X9_flood_now, g_X9_flood_past, g_X9_flood_states, g_X9_flood_refused, g_X9_flood_pile, g_X9_flood_came, g_X9_flood_pileL, if_neg c_4, if_neg c_12, if_pos c_28]))
    · skip
      refine z_aload_n (pc := 15) C 0 dX9_flood_15 rfl ?_
      refine z_bipush (pc := 16) (v := (-2)) C dX9_flood_16 (by decide) ?_
      refine z_callV (pc := 18) C (c_X9_bad) [0, 1, 2, 3, 4, 5, 6, 7, 8] z00 mV_X9_bad q_883 dX9_flood_18 rfl rfl rfl 0 rfl rfl rfl rfl (Nat.le_of_ble_eq_true rfl) (by decide) (pI.go (ws' := wMd G da dn dp dr ds dl dc dt dg now past states _ aside pile came pileL text textL place nargs) rfl ?_)
      exact z_iret (pc := 21) C E dX9_flood_21 (pI.mk (by simp only [f_X9_flood, if_neg c_4, if_pos c_12]) (by simp only [g_X9_flood_now, g_X9_flood_past, g_X9_flood_states, g_X9_flood_refused, g_X9_flood_pile, g_X9_flood_came, g_X9_flood_pileL, if_neg c_4, if_pos c_12]))

def f_X9_of (now : Nat → Int32) (pile : Nat → Int32) (came : Nat → Int32) (pileL : Int32) (t : Int32) (what : Int32) : Int32 := if (f_X9_isPicture t) = 0 then f_X9_bad (-2) else if (f_X9_in what.toInt64 0 6) = 0 then f_X9_bad (-2) else if what = 0 then f_X9_dots now t else if what = 1 then f_X9_partsOf now pile came pileL t else if what = 6 then f_X9_openDots now else f_X9_edge now t (if 4 ≤ what then 0 else 1 : Int32) (if (what - what / 2 * 2) = 0 then 1 else 0 : Int32)
def g_X9_of_refused (refused : Nat → Int32) (t : Int32) (what : Int32) : Nat → Int32 := if (f_X9_isPicture t) = 0 then g_X9_bad_refused refused else if (f_X9_in what.toInt64 0 6) = 0 then g_X9_bad_refused refused else refused
def g_X9_of_pile (now : Nat → Int32) (pile : Nat → Int32) (came : Nat → Int32) (pileL : Int32) (t : Int32) (what : Int32) : Nat → Int32 := if (f_X9_isPicture t) = 0 then pile else if (f_X9_in what.toInt64 0 6) = 0 then pile else if what = 0 then pile else if what = 1 then g_X9_partsOf_pile now pile came pileL t else pile
def g_X9_of_came (now : Nat → Int32) (pile : Nat → Int32) (came : Nat → Int32) (pileL : Int32) (t : Int32) (what : Int32) : Nat → Int32 := if (f_X9_isPicture t) = 0 then came else if (f_X9_in what.toInt64 0 6) = 0 then came else if what = 0 then came else if what = 1 then g_X9_partsOf_came now pile came pileL t else came
def g_X9_of_pileL (now : Nat → Int32) (pile : Nat → Int32) (came : Nat → Int32) (pileL : Int32) (t : Int32) (what : Int32) : Int32 := if (f_X9_isPicture t) = 0 then pileL else if (f_X9_in what.toInt64 0 6) = 0 then pileL else if what = 0 then pileL else if what = 1 then g_X9_partsOf_pileL now pile came pileL t else pileL
set_option maxRecDepth 100000 in
theorem c_X9_of {l : Launch} {G : zG} {da dn dp dr ds dl dc dt dg : Nat} {now : Nat → Int32} {past : Nat → Int32} {states : Int32} {refused : Nat → Int32} {aside : Nat → Int32} {pile : Nat → Int32} {came : Nat → Int32} {pileL : Int32} {text : Nat → Int32} {textL : Int32} {place : Int32} {nargs : Nat → Int32} {t : Int32} {what : Int32} (hm : mOk now) : Ct l G yX9_of cX9_of 3 (Option.some FieldType.int) 5 125 [.ref da, .int t, .int what] (wMd G da dn dp dr ds dl dc dt dg now past states refused aside pile came pileL text textL place nargs) (pI (f_X9_of now pile came pileL t what) (wMd G da dn dp dr ds dl dc dt dg now past states (g_X9_of_refused refused t what) aside (g_X9_of_pile now pile came pileL t what) (g_X9_of_came now pile came pileL t what) (g_X9_of_pileL now pile came pileL t what) text textL place nargs)) := by
  refine Ct.of (plainFor_of_name (by decide)) (Nat.le_of_ble_eq_true rfl) (pI.ad ad_Md) (fun X C E => ?_)
  show Z X G 3 0 0 _ 0 [(0, .ref da), (1, .int t), (2, .int what)] []
  refine z_iload_n (pc := 0) C 1 dX9_of_0 rfl ?_
  refine z_callS (pc := 1) C (c_X9_isPicture) [] z00 mS_X9_isPicture q_871 dX9_of_1 rfl rfl rfl rfl (Nat.le_of_ble_eq_true rfl) (by decide) (pI.stay rfl ?_)
  refine z_if_eq (pc := 4) 19 C dX9_of_4 (by decide) (fun c_4 => ?_) (fun c_4 => ?_)
  · skip
    refine z_aload_n (pc := 19) C 0 dX9_of_19 rfl ?_
    refine z_bipush (pc := 20) (v := (-2)) C dX9_of_20 (by decide) ?_
    refine z_callV (pc := 22) C (c_X9_bad) [0, 1, 2, 3, 4, 5, 6, 7, 8] z00 mV_X9_bad q_883 dX9_of_22 rfl rfl rfl 0 rfl rfl rfl rfl (Nat.le_of_ble_eq_true rfl) (by decide) (pI.go (ws' := wMd G da dn dp dr ds dl dc dt dg now past states _ aside pile came pileL text textL place nargs) rfl ?_)
    exact z_iret (pc := 25) C E dX9_of_25 (pI.mk (by simp only [f_X9_of, if_pos c_4]) (by simp only [g_X9_of_refused, g_X9_of_pile, g_X9_of_came, g_X9_of_pileL, if_pos c_4]))
  · skip
    refine z_iload_n (pc := 7) C 2 dX9_of_7 rfl ?_
    refine z_i2l (pc := 8) C dX9_of_8 ?_
    refine z_lconst (pc := 9) (v := 0) C dX9_of_9 (by decide) ?_
    refine z_ldc2_w (pc := 10) C q_1075 dX9_of_10 ?_
    refine z_callS (pc := 13) C (c_X9_in) [] z00 mS_X9_in q_875 dX9_of_13 rfl rfl rfl rfl (Nat.le_of_ble_eq_true rfl) (by decide) (pI.stay rfl ?_)
    refine z_if_ne (pc := 16) 26 C dX9_of_16 (by decide) (fun c_16 => ?_) (fun c_16 => ?_)
    · skip
      refine z_iload_n (pc := 26) C 2 dX9_of_26 rfl ?_
      refine z_if_ne (pc := 27) 38 C dX9_of_27 (by decide) (fun c_27 => ?_) (fun c_27 => ?_)
      · skip
        refine z_iload_n (pc := 38) C 2 dX9_of_38 rfl ?_
        refine z_iconst (pc := 39) (v := 1) C dX9_of_39 (by decide) ?_
        refine z_icmp_ne (pc := 40) 51 C dX9_of_40 (by decide) (fun c_40 => ?_) (fun c_40 => ?_)
        · skip
          refine z_iload_n (pc := 51) C 2 dX9_of_51 rfl ?_
          refine z_bipush (pc := 52) (v := 6) C dX9_of_52 (by decide) ?_
          refine z_icmp_ne (pc := 54) 64 C dX9_of_54 (by decide) (fun c_54 => ?_) (fun c_54 => ?_)
          · skip
            refine z_aload_n (pc := 64) C 0 dX9_of_64 rfl ?_
            refine z_iload_n (pc := 65) C 1 dX9_of_65 rfl ?_
            refine z_iload_n (pc := 66) C 2 dX9_of_66 rfl ?_
            refine z_iconst (pc := 67) (v := 4) C dX9_of_67 (by decide) ?_
            have K_76 : Z X G 3 0 0 (wMd G da dn dp dr ds dl dc dt dg now past states refused aside pile came pileL text textL place nargs) 76 [(0, .ref da), (1, .int t), (2, .int what)] [.int (if 4 ≤ what then 0 else 1 : Int32), .int t, .ref da] := by
              refine z_iload_n (pc := 76) C 2 dX9_of_76 rfl ?_
              refine z_iconst (pc := 77) (v := 2) C dX9_of_77 (by decide) ?_
              refine z_irem (pc := 78) C dX9_of_78 (by decide) ?_
              have K_87 : Z X G 3 0 0 (wMd G da dn dp dr ds dl dc dt dg now past states refused aside pile came pileL text textL place nargs) 87 [(0, .ref da), (1, .int t), (2, .int what)] [.int (if (what - what / 2 * 2) = 0 then 1 else 0 : Int32), .int (if 4 ≤ what then 0 else 1 : Int32), .int t, .ref da] := by
                refine z_callV (pc := 87) C (c_X9_edge (by exact (mP_ne c_4))) [0, 1, 2, 3, 4, 5, 6, 7, 8] z00 mV_X9_edge q_1084 dX9_of_87 rfl rfl rfl 0 rfl rfl rfl rfl (Nat.le_of_ble_eq_true rfl) (by decide) (pI.stay rfl ?_)
                exact z_iret (pc := 90) C E dX9_of_90 (pI.mk (by simp only [f_X9_of, if_neg c_4, if_neg c_16, if_neg c_27, if_neg c_40, if_neg c_54]) (by simp only [g_X9_of_refused, g_X9_of_pile, g_X9_of_came, g_X9_of_pileL, if_neg c_4, if_neg c_16, if_neg c_27, if_neg c_40, if_neg c_54]))
              refine z_if_ne (pc := 79) 86 C dX9_of_79 (by decide) (fun c_79 => ?_) (fun c_79 => ?_)
              · skip
                refine z_iconst (pc := 86) (v := 0) C dX9_of_86 (by decide) ?_
                refine z_lv (lv' := [(0, _), (1, _), (2, _)]) [0, 1, 2] rfl ?_
                exact z_eq rfl rfl (by simp only [if_neg c_79]) K_87
              · skip
                refine z_iconst (pc := 82) (v := 1) C dX9_of_82 (by decide) ?_
                refine z_goto (pc := 83) 87 C dX9_of_83 (by decide) ?_
                refine z_lv (lv' := [(0, _), (1, _), (2, _)]) [0, 1, 2] rfl ?_
                exact z_eq rfl rfl (by simp only [if_pos c_79]) K_87
            refine z_icmp_ge (pc := 68) 75 C dX9_of_68 (by decide) (fun c_68 => ?_) (fun c_68 => ?_)
            · skip
              refine z_iconst (pc := 75) (v := 0) C dX9_of_75 (by decide) ?_
              refine z_lv (lv' := [(0, _), (1, _), (2, _)]) [0, 1, 2] rfl ?_
              exact z_eq rfl rfl (by simp only [if_pos c_68]) K_76
            · skip
              refine z_iconst (pc := 71) (v := 1) C dX9_of_71 (by decide) ?_
              refine z_goto (pc := 72) 76 C dX9_of_72 (by decide) ?_
              refine z_lv (lv' := [(0, _), (1, _), (2, _)]) [0, 1, 2] rfl ?_
              exact z_eq rfl rfl (by simp only [if_neg c_68]) K_76
          · skip
            refine z_aload_n (pc := 57) C 0 dX9_of_57 rfl ?_
            refine z_callV (pc := 58) C (c_X9_openDots (by exact hm)) [0, 1, 2, 3, 4, 5, 6, 7, 8] z00 mV_X9_openDots q_1080 dX9_of_58 rfl rfl rfl 0 rfl rfl rfl rfl (Nat.le_of_ble_eq_true rfl) (by decide) (pI.stay rfl ?_)
            refine z_goto (pc := 61) 90 C dX9_of_61 (by decide) ?_
            exact z_iret (pc := 90) C E dX9_of_90 (pI.mk (by simp only [f_X9_of, if_neg c_4, if_neg c_16, if_neg c_27, if_neg c_40, if_pos c_54]) (by simp only [g_X9_of_refused, g_X9_of_pile, g_X9_of_came, g_X9_of_pileL, if_neg c_4, if_neg c_16, if_neg c_27, if_neg c_40, if_pos c_54]))
        · skip
          refine z_aload_n (pc := 43) C 0 dX9_of_43 rfl ?_
          refine z_iload_n (pc := 44) C 1 dX9_of_44 rfl ?_
          refine z_callV (pc := 45) C (c_X9_partsOf (by exact (mP_ne c_4)) (by exact hm)) [0, 1, 2, 3, 4, 5, 6, 7, 8] z00 mV_X9_partsOf q_1076 dX9_of_45 rfl rfl rfl 0 rfl rfl rfl rfl (Nat.le_of_ble_eq_true rfl) (by decide) (pI.go (ws' := wMd G da dn dp dr ds dl dc dt dg now past states refused aside _ _ _ text textL place nargs) rfl ?_)
          refine z_goto (pc := 48) 90 C dX9_of_48 (by decide) ?_
          exact z_iret (pc := 90) C E dX9_of_90 (pI.mk (by simp only [f_X9_of, if_neg c_4, if_neg c_16, if_neg c_27, if_pos c_40]) (by simp only [g_X9_of_refused, g_X9_of_pile, g_X9_of_came, g_X9_of_pileL, if_neg c_4, if_neg c_16, if_neg c_27, if_pos c_40]))
      · skip
        refine z_aload_n (pc := 30) C 0 dX9_of_30 rfl ?_
        refine z_iload_n (pc := 31) C 1 dX9_of_31 rfl ?_
        refine z_callV (pc := 32) C (c_X9_dots (by exact (mP_ne c_4))) [0, 1, 2, 3, 4, 5, 6, 7, 8] z00 mV_X9_dots q_918 dX9_of_32 rfl rfl rfl 0 rfl rfl rfl rfl (Nat.le_of_ble_eq_true rfl) (by decide) (pI.stay rfl ?_)
        refine z_goto (pc := 35) 90 C dX9_of_35 (by decide) ?_
        exact z_iret (pc := 90) C E dX9_of_90 (pI.mk (by simp only [f_X9_of, if_neg c_4, if_neg c_16, if_pos c_27]) (by simp only [g_X9_of_refused, g_X9_of_pile, g_X9_of_came, g_X9_of_pileL, if_neg c_4, if_neg c_16, if_pos c_27]))
    · skip
      refine z_aload_n (pc := 19) C 0 dX9_of_19 rfl ?_
      refine z_bipush (pc := 20) (v := (-2)) C dX9_of_20 (by decide) ?_
      refine z_callV (pc := 22) C (c_X9_bad) [0, 1, 2, 3, 4, 5, 6, 7, 8] z00 mV_X9_bad q_883 dX9_of_22 rfl rfl rfl 0 rfl rfl rfl rfl (Nat.le_of_ble_eq_true rfl) (by decide) (pI.go (ws' := wMd G da dn dp dr ds dl dc dt dg now past states _ aside pile came pileL text textL place nargs) rfl ?_)
      exact z_iret (pc := 25) C E dX9_of_25 (pI.mk (by simp only [f_X9_of, if_neg c_4, if_pos c_16]) (by simp only [g_X9_of_refused, g_X9_of_pile, g_X9_of_came, g_X9_of_pileL, if_neg c_4, if_pos c_16]))
