theorem kind7 (s : Int32) : f_X1_kindsOf s < 7 := by
  unfold f_X1_kindsOf
  (repeat' split) <;> decide
/-- how many numbers an order has -/
def oOk (osz : Int32) : Prop := 0 ≤ osz.toInt ∧ osz.toInt ≤ 9
theorem oOk_0 : oOk 0 := ⟨by decide, by decide⟩
theorem ix_9 {osz : Int32} (h : oOk osz) (h2 : ¬ 9 ≤ osz) : vp_in osz 9 := by
  have h3 : ¬ (9 : Int32).toInt ≤ osz.toInt := fun q => h2 (Int32.le_iff_toInt_le.mpr q)
  have e : (9 : Int32).toInt = 9 := rfl
  have := h.1
  rw [vp_in_iff]; omega
theorem oOk_up {osz : Int32} (h : oOk osz) (h2 : ¬ 9 ≤ osz) : oOk (osz + 1) := by
  have h3 : ¬ (9 : Int32).toInt ≤ osz.toInt := fun q => h2 (Int32.le_iff_toInt_le.mpr q)
  have e : (9 : Int32).toInt = 9 := rfl
  have e1 : (1 : Int32).toInt = 1 := rfl
  obtain ⟨h4, h5⟩ := h
  unfold oOk
  rw [tI_add (by omega) (by omega)]; omega
theorem ix_str {kix : Nat} (hk : kix < 7) {osz : Int32} (h : oOk osz) (h2 : ¬ sLen kix ≤ osz) : vp_in osz (sLn.getD kix 0) := by
  have hn : sLn.getD kix 0 < 10 := by
    have : ∀ i, i < 7 → sLn.getD i 0 < 10 := by decide
    exact this kix hk
  have h3 : ¬ (sLen kix).toInt ≤ osz.toInt := fun q => h2 (Int32.le_iff_toInt_le.mpr q)
  rw [sLen, nI_toInt (by omega)] at h3
  have := h.1
  rw [vp_in_iff]; omega
theorem ix_num {k osz : Int32} (h : oOk osz) (h2 : ¬ f_X8_isWithin k 0 (osz - 1) = 0) : vp_in k 9 := by
  have b := isW_ne h2
  obtain ⟨h4, h5⟩ := h
  have e0 : (0 : Int32).toInt = 0 := rfl
  have e1 : (1 : Int32).toInt = 1 := rfl
  rw [tI_sub (by omega) (by omega)] at b
  rw [vp_in_iff]; omega

def g_X1_begins_sign (newSign : Int32) : Int32 := newSign
def g_X1_begins_kix (newSign : Int32) : Nat := f_X1_kindsOf newSign
def g_X1_begins_osz  : Int32 := 0
def g_X1_begins_aw  : Int32 := 1
set_option maxRecDepth 100000 in
theorem c_X1_begins {l : Launch} {G : zG} {oo on : Nat} {nums : Nat → Int32} {sign : Int32} {kix : Nat} {osz : Int32} {aw : Int32} {newSign : Int32} : Ct l G yX1_begins cX1_begins 2 (Option.none : Option Jvm.ClassFile.FieldType) 1 20 [.ref oo, .int newSign] (wOr G oo on nums sign kix osz aw) (pV (wOr G oo on nums (g_X1_begins_sign newSign) (g_X1_begins_kix newSign) g_X1_begins_osz g_X1_begins_aw)) := by
  refine Ct.of (plainFor_of_name (by decide)) (Nat.le_of_ble_eq_true rfl) (pV.ad ad_Or) (fun X C E => ?_)
  show Z X G 2 0 0 _ 0 [(0, .ref oo), (1, .int newSign)] []
  refine z_aload_n (pc := 0) C 0 dX1_begins_0 rfl ?_
  refine z_iload_n (pc := 1) C 1 dX1_begins_1 rfl ?_
  refine z_put (pc := 2) (wOr G oo on nums _ kix osz aw) C 0 1 dX1_begins_2 rfl rfl i_X1 tyX1_ok nmX1 (by decide) q_213 rfl rfl rfl rfl (Nat.le_of_ble_eq_true rfl) rfl ?_
  refine z_aload_n (pc := 5) C 0 dX1_begins_5 rfl ?_
  refine z_iload_n (pc := 6) C 1 dX1_begins_6 rfl ?_
  refine z_callS (pc := 7) C (c_X1_kindsOf) [] z00 mS_X1_kindsOf q_390 dX1_begins_7 rfl rfl rfl rfl (Nat.le_of_ble_eq_true rfl) (by decide) (pR.stay rfl ?_)
  refine z_put (pc := 10) (wOr G oo on nums _ _ osz aw) C 0 2 dX1_begins_10 rfl rfl i_X1 tyX1_ok nmX1 (by decide) q_215 rfl rfl rfl rfl (Nat.le_of_ble_eq_true rfl) rfl ?_
  refine z_aload_n (pc := 13) C 0 dX1_begins_13 rfl ?_
  refine z_iconst (pc := 14) (v := 0) C dX1_begins_14 (by decide) ?_
  refine z_put (pc := 15) (wOr G oo on nums _ _ _ aw) C 0 3 dX1_begins_15 rfl rfl i_X1 tyX1_ok nmX1 (by decide) q_217 rfl rfl rfl rfl (Nat.le_of_ble_eq_true rfl) rfl ?_
  refine z_aload_n (pc := 18) C 0 dX1_begins_18 rfl ?_
  refine z_iconst (pc := 19) (v := 1) C dX1_begins_19 (by decide) ?_
  refine z_put (pc := 20) (wOr G oo on nums _ _ _ _) C 0 4 dX1_begins_20 rfl rfl i_X1 tyX1_ok nmX1 (by decide) q_218 rfl rfl (by first | rfl | (split <;> rfl)) rfl (Nat.le_of_ble_eq_true rfl) rfl ?_
  exact z_vret (pc := 23) C E dX1_begins_23 (pV.mk rfl)

def g_X1_with_nums (nums : Nat → Int32) (kix : Nat) (osz : Int32) (number : Int32) : Nat → Int32 := if (sLen kix) ≤ osz then nums else if 9 ≤ osz then nums else upd nums osz.toNatClampNeg number
def g_X1_with_osz (kix : Nat) (osz : Int32) : Int32 := if (sLen kix) ≤ osz then osz else if 9 ≤ osz then osz else osz + 1
def g_X1_with_aw (kix : Nat) (osz : Int32) (aw : Int32) (number : Int32) : Int32 := if (sLen kix) ≤ osz then aw else if 9 ≤ osz then aw else if aw = 0 then 0 else if (f_X1_isOfKind number (sBt kix osz)) = 0 then 0 else 1
set_option maxRecDepth 100000 in
theorem c_X1_with {l : Launch} {G : zG} {oo on : Nat} {nums : Nat → Int32} {sign : Int32} {kix : Nat} {osz : Int32} {aw : Int32} {number : Int32} (hk7 : kix < 7) (ho : oOk osz) : Ct l G yX1_with cX1_with 2 (Option.some (FieldType.object "PictureMoves$Order")) 4 85 [.ref oo, .int number] (wOr G oo on nums sign kix osz aw) (pR oo (wOr G oo on (g_X1_with_nums nums kix osz number) sign kix (g_X1_with_osz kix osz) (g_X1_with_aw kix osz aw number))) := by
  refine Ct.of (plainFor_of_name (by decide)) (Nat.le_of_ble_eq_true rfl) (pR.ad ad_Or) (fun X C E => ?_)
  show Z X G 2 0 0 _ 0 [(0, .ref oo), (1, .int number)] []
  refine z_aload_n (pc := 0) C 0 dX1_with_0 rfl ?_
  refine z_get (pc := 1) C 0 3 dX1_with_1 rfl rfl i_X1 (by decide) q_217 rfl ?_
  refine z_aload_n (pc := 4) C 0 dX1_with_4 rfl ?_
  refine z_get (pc := 5) C 0 2 dX1_with_5 rfl rfl i_X1 (by decide) q_215 rfl ?_
  refine z_callStr (pc := 8) (i := kix) C (by first | assumption | exact kind7 _) (c_J0_length_8abf5 (by exact hk7)) z00 mV_J0_length_8abf5 q_403 dX1_with_8 rfl rfl rfl (Nat.le_of_ble_eq_true rfl) (by decide) (pI.stay rfl ?_)
  refine z_icmp_ge (pc := 11) 77 C dX1_with_11 (by decide) (fun c_11 => ?_) (fun c_11 => ?_)
  · skip
    refine z_aload_n (pc := 77) C 0 dX1_with_77 rfl ?_
    exact z_aret (pc := 78) C E dX1_with_78 (Or.inl ⟨_, rfl⟩) (pR.mk rfl (by simp only [g_X1_with_nums, g_X1_with_osz, g_X1_with_aw, if_pos c_11]))
  · skip
    refine z_aload_n (pc := 14) C 0 dX1_with_14 rfl ?_
    refine z_get (pc := 15) C 0 3 dX1_with_15 rfl rfl i_X1 (by decide) q_217 rfl ?_
    refine z_bipush (pc := 18) (v := 9) C dX1_with_18 (by decide) ?_
    refine z_icmp_ge (pc := 20) 77 C dX1_with_20 (by decide) (fun c_20 => ?_) (fun c_20 => ?_)
    · skip
      refine z_aload_n (pc := 77) C 0 dX1_with_77 rfl ?_
      exact z_aret (pc := 78) C E dX1_with_78 (Or.inl ⟨_, rfl⟩) (pR.mk rfl (by simp only [g_X1_with_nums, g_X1_with_osz, g_X1_with_aw, if_neg c_11, if_pos c_20]))
    · skip
      refine z_aload_n (pc := 23) C 0 dX1_with_23 rfl ?_
      refine z_aload_n (pc := 24) C 0 dX1_with_24 rfl ?_
      refine z_get (pc := 25) C 0 4 dX1_with_25 rfl rfl i_X1 (by decide) q_218 rfl ?_
      refine z_if_eq (pc := 28) 53 C dX1_with_28 (by decide) (fun c_28 => ?_) (fun c_28 => ?_)
      · skip
        refine z_iconst (pc := 53) (v := 0) C dX1_with_53 (by decide) ?_
        refine z_put (pc := 54) (wOr G oo on nums sign kix osz _) C 0 4 dX1_with_54 rfl rfl i_X1 tyX1_ok nmX1 (by decide) q_218 rfl rfl (by first | rfl | (split <;> rfl)) rfl (Nat.le_of_ble_eq_true rfl) rfl ?_
        refine z_aload_n (pc := 57) C 0 dX1_with_57 rfl ?_
        refine z_get (pc := 58) C 0 0 dX1_with_58 rfl rfl i_X1 (by decide) q_211 rfl ?_
        refine z_aload_n (pc := 61) C 0 dX1_with_61 rfl ?_
        refine z_get (pc := 62) C 0 3 dX1_with_62 rfl rfl i_X1 (by decide) q_217 rfl ?_
        refine z_iload_n (pc := 65) C 1 dX1_with_65 rfl ?_
        refine z_iast (pc := 66) (wOr G oo on _ sign kix osz _) C 1 dX1_with_66 rfl (ix_9 ho c_20) rfl ?_
        refine z_aload_n (pc := 67) C 0 dX1_with_67 rfl ?_
        refine z_dup (pc := 68) C dX1_with_68 rfl ?_
        refine z_get (pc := 69) C 0 3 dX1_with_69 rfl rfl i_X1 (by decide) q_217 rfl ?_
        refine z_iconst (pc := 72) (v := 1) C dX1_with_72 (by decide) ?_
        refine z_iadd (pc := 73) C dX1_with_73 ?_
        refine z_put (pc := 74) (wOr G oo on _ sign kix _ _) C 0 3 dX1_with_74 rfl rfl i_X1 tyX1_ok nmX1 (by decide) q_217 rfl rfl rfl rfl (Nat.le_of_ble_eq_true rfl) rfl ?_
        refine z_aload_n (pc := 77) C 0 dX1_with_77 rfl ?_
        exact z_aret (pc := 78) C E dX1_with_78 (Or.inl ⟨_, rfl⟩) (pR.mk rfl (by simp only [g_X1_with_nums, g_X1_with_osz, g_X1_with_aw, if_neg c_11, if_neg c_20, if_pos c_28]))
      · skip
        refine z_iload_n (pc := 31) C 1 dX1_with_31 rfl ?_
        refine z_aload_n (pc := 32) C 0 dX1_with_32 rfl ?_
        refine z_get (pc := 33) C 0 2 dX1_with_33 rfl rfl i_X1 (by decide) q_215 rfl ?_
        refine z_aload_n (pc := 36) C 0 dX1_with_36 rfl ?_
        refine z_get (pc := 37) C 0 3 dX1_with_37 rfl rfl i_X1 (by decide) q_217 rfl ?_
        refine z_callStr (pc := 40) (i := kix) C (by first | assumption | exact kind7 _) (c_J0_charAt_5068e (by exact hk7) (by exact (ix_str hk7 ho c_11))) z00 mV_J0_charAt_5068e q_413 dX1_with_40 rfl rfl rfl (Nat.le_of_ble_eq_true rfl) (by decide) (pI.stay rfl ?_)
        refine z_callS (pc := 43) C (c_X1_isOfKind) [] z00 mS_X1_isOfKind q_451 dX1_with_43 rfl rfl rfl rfl (Nat.le_of_ble_eq_true rfl) (by decide) (pI.stay rfl ?_)
        refine z_if_eq (pc := 46) 53 C dX1_with_46 (by decide) (fun c_46 => ?_) (fun c_46 => ?_)
        · skip
          refine z_iconst (pc := 53) (v := 0) C dX1_with_53 (by decide) ?_
          refine z_put (pc := 54) (wOr G oo on nums sign kix osz _) C 0 4 dX1_with_54 rfl rfl i_X1 tyX1_ok nmX1 (by decide) q_218 rfl rfl (by first | rfl | (split <;> rfl)) rfl (Nat.le_of_ble_eq_true rfl) rfl ?_
          refine z_aload_n (pc := 57) C 0 dX1_with_57 rfl ?_
          refine z_get (pc := 58) C 0 0 dX1_with_58 rfl rfl i_X1 (by decide) q_211 rfl ?_
          refine z_aload_n (pc := 61) C 0 dX1_with_61 rfl ?_
          refine z_get (pc := 62) C 0 3 dX1_with_62 rfl rfl i_X1 (by decide) q_217 rfl ?_
          refine z_iload_n (pc := 65) C 1 dX1_with_65 rfl ?_
          refine z_iast (pc := 66) (wOr G oo on _ sign kix osz _) C 1 dX1_with_66 rfl (ix_9 ho c_20) rfl ?_
          refine z_aload_n (pc := 67) C 0 dX1_with_67 rfl ?_
          refine z_dup (pc := 68) C dX1_with_68 rfl ?_
          refine z_get (pc := 69) C 0 3 dX1_with_69 rfl rfl i_X1 (by decide) q_217 rfl ?_
          refine z_iconst (pc := 72) (v := 1) C dX1_with_72 (by decide) ?_
          refine z_iadd (pc := 73) C dX1_with_73 ?_
          refine z_put (pc := 74) (wOr G oo on _ sign kix _ _) C 0 3 dX1_with_74 rfl rfl i_X1 tyX1_ok nmX1 (by decide) q_217 rfl rfl rfl rfl (Nat.le_of_ble_eq_true rfl) rfl ?_
          refine z_aload_n (pc := 77) C 0 dX1_with_77 rfl ?_
          exact z_aret (pc := 78) C E dX1_with_78 (Or.inl ⟨_, rfl⟩) (pR.mk rfl (by simp only [g_X1_with_nums, g_X1_with_osz, g_X1_with_aw, if_neg c_11, if_neg c_20, if_neg c_28, if_pos c_46]))
        · skip
          refine z_iconst (pc := 49) (v := 1) C dX1_with_49 (by decide) ?_
          refine z_goto (pc := 50) 54 C dX1_with_50 (by decide) ?_
          refine z_put (pc := 54) (wOr G oo on nums sign kix osz _) C 0 4 dX1_with_54 rfl rfl i_X1 tyX1_ok nmX1 (by decide) q_218 rfl rfl (by first | rfl | (split <;> rfl)) rfl (Nat.le_of_ble_eq_true rfl) rfl ?_
          refine z_aload_n (pc := 57) C 0 dX1_with_57 rfl ?_
          refine z_get (pc := 58) C 0 0 dX1_with_58 rfl rfl i_X1 (by decide) q_211 rfl ?_
          refine z_aload_n (pc := 61) C 0 dX1_with_61 rfl ?_
          refine z_get (pc := 62) C 0 3 dX1_with_62 rfl rfl i_X1 (by decide) q_217 rfl ?_
          refine z_iload_n (pc := 65) C 1 dX1_with_65 rfl ?_
          refine z_iast (pc := 66) (wOr G oo on _ sign kix osz _) C 1 dX1_with_66 rfl (ix_9 ho c_20) rfl ?_
          refine z_aload_n (pc := 67) C 0 dX1_with_67 rfl ?_
          refine z_dup (pc := 68) C dX1_with_68 rfl ?_
          refine z_get (pc := 69) C 0 3 dX1_with_69 rfl rfl i_X1 (by decide) q_217 rfl ?_
          refine z_iconst (pc := 72) (v := 1) C dX1_with_72 (by decide) ?_
          refine z_iadd (pc := 73) C dX1_with_73 ?_
          refine z_put (pc := 74) (wOr G oo on _ sign kix _ _) C 0 3 dX1_with_74 rfl rfl i_X1 tyX1_ok nmX1 (by decide) q_217 rfl rfl rfl rfl (Nat.le_of_ble_eq_true rfl) rfl ?_
          refine z_aload_n (pc := 77) C 0 dX1_with_77 rfl ?_
          exact z_aret (pc := 78) C E dX1_with_78 (Or.inl ⟨_, rfl⟩) (pR.mk rfl (by simp only [g_X1_with_nums, g_X1_with_osz, g_X1_with_aw, if_neg c_11, if_neg c_20, if_neg c_28, if_neg c_46]))

def f_X1_isAsTold (kix : Nat) (osz : Int32) (aw : Int32) : Int32 := if aw = 0 then 0 else if osz = (sLen kix) then 1 else 0
set_option maxRecDepth 100000 in
theorem c_X1_isAsTold {l : Launch} {G : zG} {oo on : Nat} {nums : Nat → Int32} {sign : Int32} {kix : Nat} {osz : Int32} {aw : Int32} (hk7 : kix < 7) : Ct l G yX1_isAsTold cX1_isAsTold 1 (Option.some FieldType.boolean) 2 40 [.ref oo] (wOr G oo on nums sign kix osz aw) (pI (f_X1_isAsTold kix osz aw) (wOr G oo on nums sign kix osz aw)) := by
  refine Ct.of (plainFor_of_name (by decide)) (Nat.le_of_ble_eq_true rfl) (pI.ad ad_Or) (fun X C E => ?_)
  show Z X G 1 0 0 _ 0 [(0, .ref oo)] []
  refine z_aload_n (pc := 0) C 0 dX1_isAsTold_0 rfl ?_
  refine z_get (pc := 1) C 0 4 dX1_isAsTold_1 rfl rfl i_X1 (by decide) q_218 rfl ?_
  refine z_if_eq (pc := 4) 25 C dX1_isAsTold_4 (by decide) (fun c_4 => ?_) (fun c_4 => ?_)
  · skip
    refine z_iconst (pc := 25) (v := 0) C dX1_isAsTold_25 (by decide) ?_
    exact z_zret (pc := 26) C E dX1_isAsTold_26 (by first | rfl | assumption) (pI.mk (by simp only [f_X1_isAsTold, if_pos c_4]) rfl)
  · skip
    refine z_aload_n (pc := 7) C 0 dX1_isAsTold_7 rfl ?_
    refine z_get (pc := 8) C 0 3 dX1_isAsTold_8 rfl rfl i_X1 (by decide) q_217 rfl ?_
    refine z_aload_n (pc := 11) C 0 dX1_isAsTold_11 rfl ?_
    refine z_get (pc := 12) C 0 2 dX1_isAsTold_12 rfl rfl i_X1 (by decide) q_215 rfl ?_
    refine z_callStr (pc := 15) (i := kix) C (by first | assumption | exact kind7 _) (c_J0_length_8abf5 (by exact hk7)) z00 mV_J0_length_8abf5 q_403 dX1_isAsTold_15 rfl rfl rfl (Nat.le_of_ble_eq_true rfl) (by decide) (pI.stay rfl ?_)
    refine z_icmp_ne (pc := 18) 25 C dX1_isAsTold_18 (by decide) (fun c_18 => ?_) (fun c_18 => ?_)
    · skip
      refine z_iconst (pc := 25) (v := 0) C dX1_isAsTold_25 (by decide) ?_
      exact z_zret (pc := 26) C E dX1_isAsTold_26 (by first | rfl | assumption) (pI.mk (by simp only [f_X1_isAsTold, if_neg c_4, if_neg c_18]) rfl)
    · skip
      refine z_iconst (pc := 21) (v := 1) C dX1_isAsTold_21 (by decide) ?_
      refine z_goto (pc := 22) 26 C dX1_isAsTold_22 (by decide) ?_
      exact z_zret (pc := 26) C E dX1_isAsTold_26 (by first | rfl | assumption) (pI.mk (by simp only [f_X1_isAsTold, if_neg c_4, if_pos c_18]) rfl)
theorem nb_X1_isAsTold {kix : Nat} {osz : Int32} {aw : Int32} : narrow .boolean (.int (f_X1_isAsTold kix osz aw)) = .int (f_X1_isAsTold kix osz aw) := by unfold f_X1_isAsTold; (repeat' split) <;> first | rfl

def f_X1_numberAt (nums : Nat → Int32) (osz : Int32) (k : Int32) : Int32 := if (f_X8_isWithin k 0 (osz - 1)) = 0 then 0 else nums k.toNatClampNeg
set_option maxRecDepth 100000 in
theorem c_X1_numberAt {l : Launch} {G : zG} {oo on : Nat} {nums : Nat → Int32} {sign : Int32} {kix : Nat} {osz : Int32} {aw : Int32} {k : Int32} (ho : oOk osz) : Ct l G yX1_numberAt cX1_numberAt 2 (Option.some FieldType.int) 1 22 [.ref oo, .int k] (wOr G oo on nums sign kix osz aw) (pI (f_X1_numberAt nums osz k) (wOr G oo on nums sign kix osz aw)) := by
  refine Ct.of (plainFor_of_name (by decide)) (Nat.le_of_ble_eq_true rfl) (pI.ad ad_Or) (fun X C E => ?_)
  show Z X G 2 0 0 _ 0 [(0, .ref oo), (1, .int k)] []
  refine z_iload_n (pc := 0) C 1 dX1_numberAt_0 rfl ?_
  refine z_iconst (pc := 1) (v := 0) C dX1_numberAt_1 (by decide) ?_
  refine z_aload_n (pc := 2) C 0 dX1_numberAt_2 rfl ?_
  refine z_get (pc := 3) C 0 3 dX1_numberAt_3 rfl rfl i_X1 (by decide) q_217 rfl ?_
  refine z_iconst (pc := 6) (v := 1) C dX1_numberAt_6 (by decide) ?_
  refine z_isub (pc := 7) C dX1_numberAt_7 ?_
  refine z_callSN (pc := 8) C (c_X8_isWithin) [] z00 mS_X8_isWithin q_461 dX1_numberAt_8 rfl rfl rfl rfl (Nat.le_of_ble_eq_true rfl) (by decide) (pI.stay rfl ?_)
  refine z_if_eq (pc := 11) 23 C dX1_numberAt_11 (by decide) (fun c_11 => ?_) (fun c_11 => ?_)
  · skip
    refine z_iconst (pc := 23) (v := 0) C dX1_numberAt_23 (by decide) ?_
    exact z_iret (pc := 24) C E dX1_numberAt_24 (pI.mk (by simp only [f_X1_numberAt, if_pos c_11]) rfl)
  · skip
    refine z_aload_n (pc := 14) C 0 dX1_numberAt_14 rfl ?_
    refine z_get (pc := 15) C 0 0 dX1_numberAt_15 rfl rfl i_X1 (by decide) q_211 rfl ?_
    refine z_iload_n (pc := 18) C 1 dX1_numberAt_18 rfl ?_
    refine z_iald (pc := 19) C 1 dX1_numberAt_19 rfl (ix_num ho c_11) ?_
    refine z_goto (pc := 20) 24 C dX1_numberAt_20 (by decide) ?_
    exact z_iret (pc := 24) C E dX1_numberAt_24 (pI.mk (by simp only [f_X1_numberAt, if_neg c_11]) rfl)

def f_X1_isSign (sign : Int32) : Int32 := if sign = 107 then 1 else if (f_J0_isEmpty_aae02 (f_X1_kindsOf sign)) = 0 then 1 else 0
set_option maxRecDepth 100000 in
theorem c_X1_isSign {l : Launch} {G : zG} {sign : Int32} : Ct l G yX1_isSign cX1_isSign 1 (Option.some FieldType.boolean) 1 20 [.int sign] ([]) (pI (f_X1_isSign sign) ([])) := by
  refine Ct.of (plainFor_of_name (by decide)) (Nat.le_of_ble_eq_true rfl) (pI.ad rfl) (fun X C E => ?_)
  show Z X G 1 0 0 _ 0 [(0, .int sign)] []
  refine z_iload_n (pc := 0) C 0 dX1_isSign_0 rfl ?_
  refine z_bipush (pc := 1) (v := 107) C dX1_isSign_1 (by decide) ?_
  refine z_icmp_eq (pc := 3) 16 C dX1_isSign_3 (by decide) (fun c_3 => ?_) (fun c_3 => ?_)
  · skip
    refine z_iconst (pc := 16) (v := 1) C dX1_isSign_16 (by decide) ?_
    refine z_goto (pc := 17) 21 C dX1_isSign_17 (by decide) ?_
    exact z_zret (pc := 21) C E dX1_isSign_21 (by first | rfl | assumption) (pI.mk (by simp only [f_X1_isSign, if_pos c_3]) rfl)
  · skip
    refine z_iload_n (pc := 6) C 0 dX1_isSign_6 rfl ?_
    refine z_callS (pc := 7) C (c_X1_kindsOf) [] z00 mS_X1_kindsOf q_390 dX1_isSign_7 rfl rfl rfl rfl (Nat.le_of_ble_eq_true rfl) (by decide) (pR.stay rfl ?_)
    refine z_callStr (pc := 10) (i := f_X1_kindsOf sign) C (by first | assumption | exact kind7 _) (c_J0_isEmpty_aae02 (by exact (kind7 _))) z00 mV_J0_isEmpty_aae02 q_779 dX1_isSign_10 rfl rfl rfl (Nat.le_of_ble_eq_true rfl) (by decide) (pI.stay rfl ?_)
    refine z_if_ne (pc := 13) 20 C dX1_isSign_13 (by decide) (fun c_13 => ?_) (fun c_13 => ?_)
    · skip
      refine z_iconst (pc := 20) (v := 0) C dX1_isSign_20 (by decide) ?_
      exact z_zret (pc := 21) C E dX1_isSign_21 (by first | rfl | assumption) (pI.mk (by simp only [f_X1_isSign, if_neg c_3, if_neg c_13]) rfl)
    · skip
      refine z_iconst (pc := 16) (v := 1) C dX1_isSign_16 (by decide) ?_
      refine z_goto (pc := 17) 21 C dX1_isSign_17 (by decide) ?_
      exact z_zret (pc := 21) C E dX1_isSign_21 (by first | rfl | assumption) (pI.mk (by simp only [f_X1_isSign, if_neg c_3, if_pos c_13]) rfl)
theorem nb_X1_isSign {sign : Int32} : narrow .boolean (.int (f_X1_isSign sign)) = .int (f_X1_isSign sign) := by unfold f_X1_isSign; (repeat' split) <;> first | rfl

theorem oOk_with {kix : Nat} {osz : Int32} (ho : oOk osz) : oOk (g_X1_with_osz kix osz) := by
  unfold g_X1_with_osz
  (repeat' split) <;> first | exact ho | exact oOk_up ho (by assumption)
