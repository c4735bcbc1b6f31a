def sOk (steps : Int32) : Prop := 0 ≤ steps.toInt ∧ steps.toInt ≤ 384
theorem ix_24 {y : Int32} (h : ¬ f_X8_isWithin y 0 23 = 0) : vp_in y 24 := by
  have b := isW_ne h
  have e0 : (0 : Int32).toInt = 0 := rfl
  have e1 : (23 : Int32).toInt = 23 := rfl
  rw [vp_in_iff]; omega
theorem ix_st {steps : Int32} (h : sOk steps) (h2 : steps < 384) : vp_in steps 384 := by
  have h3 := Int32.lt_iff_toInt_lt.mp h2
  have e1 : (384 : Int32).toInt = 384 := rfl
  have h4 := h.1
  rw [vp_in_iff]; omega
theorem sOk_0 : sOk 0 := ⟨by decide, by decide⟩
theorem sOk_up {steps : Int32} (h : sOk steps) (h2 : steps < 384) : sOk (steps + 1) := by
  have h3 := Int32.lt_iff_toInt_lt.mp h2
  have e1 : (384 : Int32).toInt = 384 := rfl
  have e2 : (1 : Int32).toInt = 1 := rfl
  have h4 := h.1
  unfold sOk
  rw [tI_add (by omega) (by omega)]; omega
theorem sOk_dn {steps : Int32} (h : sOk steps) (h2 : ¬ steps ≤ 0) : sOk (steps - 1) ∧ vp_in (steps - 1) 384 := by
  have h3 : ¬ steps.toInt ≤ (0 : Int32).toInt := fun q => h2 (Int32.le_iff_toInt_le.mpr q)
  have e1 : (0 : Int32).toInt = 0 := rfl
  have e2 : (1 : Int32).toInt = 1 := rfl
  obtain ⟨h4, h5⟩ := h
  unfold sOk
  rw [vp_in_iff, tI_sub (by omega) (by omega)]; omega

def g_X4_reaches_left (left : Nat → Int32) (steps : Int32) (y : Int32) (dots : Int32) : Nat → Int32 := if (f_X8_isWithin y 0 23) = 0 then left else if steps < 384 then if (f_X4_runsThrough (left y.toNatClampNeg) ((left y.toNatClampNeg) &&& dots)) = 0 then left else upd left y.toNatClampNeg ((left y.toNatClampNeg) &&& ((f_X4_runsThrough (left y.toNatClampNeg) ((left y.toNatClampNeg) &&& dots)) ^^^ (-1))) else left
def g_X4_reaches_srow (left : Nat → Int32) (srow : Nat → Int32) (steps : Int32) (y : Int32) (dots : Int32) : Nat → Int32 := if (f_X8_isWithin y 0 23) = 0 then srow else if steps < 384 then if (f_X4_runsThrough (left y.toNatClampNeg) ((left y.toNatClampNeg) &&& dots)) = 0 then srow else upd srow steps.toNatClampNeg y else srow
def g_X4_reaches_sdot (left : Nat → Int32) (sdot : Nat → Int32) (steps : Int32) (y : Int32) (dots : Int32) : Nat → Int32 := if (f_X8_isWithin y 0 23) = 0 then sdot else if steps < 384 then if (f_X4_runsThrough (left y.toNatClampNeg) ((left y.toNatClampNeg) &&& dots)) = 0 then sdot else upd sdot steps.toNatClampNeg (f_X4_runsThrough (left y.toNatClampNeg) ((left y.toNatClampNeg) &&& dots)) else sdot
def g_X4_reaches_steps (left : Nat → Int32) (steps : Int32) (y : Int32) (dots : Int32) : Int32 := if (f_X8_isWithin y 0 23) = 0 then steps else if steps < 384 then if (f_X4_runsThrough (left y.toNatClampNeg) ((left y.toNatClampNeg) &&& dots)) = 0 then steps else steps + 1 else steps
set_option maxRecDepth 100000 in
theorem c_X4_reaches {l : Launch} {G : zG} {po pl pr pd : Nat} {left : Nat → Int32} {srow : Nat → Int32} {sdot : Nat → Int32} {steps : Int32} {y : Int32} {dots : Int32} (hs : sOk steps) : Ct l G yX4_reaches cX4_reaches 4 (Option.none : Option Jvm.ClassFile.FieldType) 1 26 [.ref po, .int y, .int dots] (wPa G po pl pr pd left srow sdot steps) (pV (wPa G po pl pr pd (g_X4_reaches_left left steps y dots) (g_X4_reaches_srow left srow steps y dots) (g_X4_reaches_sdot left sdot steps y dots) (g_X4_reaches_steps left steps y dots))) := by
  refine Ct.of (plainFor_of_name (by decide)) (Nat.le_of_ble_eq_true rfl) (pV.ad ad_Pa) (fun X C E => ?_)
  show Z X G 4 0 0 _ 0 [(0, .ref po), (1, .int y), (2, .int dots)] []
  refine z_iload_n (pc := 0) C 1 dX4_reaches_0 rfl ?_
  refine z_iconst (pc := 1) (v := 0) C dX4_reaches_1 (by decide) ?_
  refine z_bipush (pc := 2) (v := 23) C dX4_reaches_2 (by decide) ?_
  refine z_callSN (pc := 4) C (c_X8_isWithin) [] z00 mS_X8_isWithin q_549 dX4_reaches_4 rfl rfl rfl rfl (Nat.le_of_ble_eq_true rfl) (by decide) (pI.stay rfl ?_)
  refine z_if_eq (pc := 7) 20 C dX4_reaches_7 (by decide) (fun c_7 => ?_) (fun c_7 => ?_)
  · skip
    exact z_vret (pc := 20) C E dX4_reaches_20 (pV.mk (by simp only [g_X4_reaches_left, g_X4_reaches_srow, g_X4_reaches_sdot, g_X4_reaches_steps, if_pos c_7]))
  · skip
    refine z_aload_n (pc := 10) C 0 dX4_reaches_10 rfl ?_
    refine z_get (pc := 11) C 0 3 dX4_reaches_11 rfl rfl i_X4 (by decide) q_126 rfl ?_
    refine z_sipush (pc := 14) (v := 384) C dX4_reaches_14 (by decide) ?_
    refine z_icmp_lt (pc := 17) 21 C dX4_reaches_17 (by decide) (fun c_17 => ?_) (fun c_17 => ?_)
    · skip
      refine z_aload_n (pc := 21) C 0 dX4_reaches_21 rfl ?_
      refine z_get (pc := 22) C 0 0 dX4_reaches_22 rfl rfl i_X4 (by decide) q_121 rfl ?_
      refine z_iload_n (pc := 25) C 1 dX4_reaches_25 rfl ?_
      refine z_iald (pc := 26) C 1 dX4_reaches_26 rfl (ix_24 c_7) ?_
      refine z_aload_n (pc := 27) C 0 dX4_reaches_27 rfl ?_
      refine z_get (pc := 28) C 0 0 dX4_reaches_28 rfl rfl i_X4 (by decide) q_121 rfl ?_
      refine z_iload_n (pc := 31) C 1 dX4_reaches_31 rfl ?_
      refine z_iald (pc := 32) C 1 dX4_reaches_32 rfl (ix_24 c_7) ?_
      refine z_iload_n (pc := 33) C 2 dX4_reaches_33 rfl ?_
      refine z_iand (pc := 34) C dX4_reaches_34 ?_
      refine z_callS (pc := 35) C (c_X4_runsThrough) [] z00 mS_X4_runsThrough q_550 dX4_reaches_35 rfl rfl rfl rfl (Nat.le_of_ble_eq_true rfl) (by decide) (pI.stay rfl ?_)
      refine z_istore_n (pc := 38) [(3, _), (0, _), (1, _), (2, _)] C dX4_reaches_38 rfl (by decide) rfl ?_
      refine z_iload_n (pc := 39) C 0 dX4_reaches_39 rfl ?_
      refine z_if_eq (pc := 40) 85 C dX4_reaches_40 (by decide) (fun c_40 => ?_) (fun c_40 => ?_)
      · skip
        exact z_vret (pc := 85) C E dX4_reaches_85 (pV.mk (by simp only [g_X4_reaches_left, g_X4_reaches_srow, g_X4_reaches_sdot, g_X4_reaches_steps, if_neg c_7, if_pos c_17, if_pos c_40]))
      · skip
        refine z_aload_n (pc := 43) C 1 dX4_reaches_43 rfl ?_
        refine z_get (pc := 44) C 0 0 dX4_reaches_44 rfl rfl i_X4 (by decide) q_121 rfl ?_
        refine z_iload_n (pc := 47) C 2 dX4_reaches_47 rfl ?_
        refine z_dup2 (pc := 48) C dX4_reaches_48 rfl rfl ?_
        refine z_iald (pc := 49) C 1 dX4_reaches_49 rfl (ix_24 c_7) ?_
        refine z_iload_n (pc := 50) C 0 dX4_reaches_50 rfl ?_
        refine z_iconst (pc := 51) (v := (-1)) C dX4_reaches_51 (by decide) ?_
        refine z_ixor (pc := 52) C dX4_reaches_52 ?_
        refine z_iand (pc := 53) C dX4_reaches_53 ?_
        refine z_iast (pc := 54) (wPa G po pl pr pd _ srow sdot steps) C 1 dX4_reaches_54 rfl (ix_24 c_7) rfl ?_
        refine z_aload_n (pc := 55) C 1 dX4_reaches_55 rfl ?_
        refine z_get (pc := 56) C 0 1 dX4_reaches_56 rfl rfl i_X4 (by decide) q_124 rfl ?_
        refine z_aload_n (pc := 59) C 1 dX4_reaches_59 rfl ?_
        refine z_get (pc := 60) C 0 3 dX4_reaches_60 rfl rfl i_X4 (by decide) q_126 rfl ?_
        refine z_iload_n (pc := 63) C 2 dX4_reaches_63 rfl ?_
        refine z_iast (pc := 64) (wPa G po pl pr pd _ _ sdot steps) C 2 dX4_reaches_64 rfl (ix_st hs c_17) rfl ?_
        refine z_aload_n (pc := 65) C 1 dX4_reaches_65 rfl ?_
        refine z_get (pc := 66) C 0 2 dX4_reaches_66 rfl rfl i_X4 (by decide) q_125 rfl ?_
        refine z_aload_n (pc := 69) C 1 dX4_reaches_69 rfl ?_
        refine z_get (pc := 70) C 0 3 dX4_reaches_70 rfl rfl i_X4 (by decide) q_126 rfl ?_
        refine z_iload_n (pc := 73) C 0 dX4_reaches_73 rfl ?_
        refine z_iast (pc := 74) (wPa G po pl pr pd _ _ _ steps) C 3 dX4_reaches_74 rfl (ix_st hs c_17) rfl ?_
        refine z_aload_n (pc := 75) C 1 dX4_reaches_75 rfl ?_
        refine z_dup (pc := 76) C dX4_reaches_76 rfl ?_
        refine z_get (pc := 77) C 0 3 dX4_reaches_77 rfl rfl i_X4 (by decide) q_126 rfl ?_
        refine z_iconst (pc := 80) (v := 1) C dX4_reaches_80 (by decide) ?_
        refine z_iadd (pc := 81) C dX4_reaches_81 ?_
        refine z_put (pc := 82) (wPa G po pl pr pd _ _ _ _) C 0 3 dX4_reaches_82 rfl rfl i_X4 tyX4_ok nmX4 (by decide) q_126 rfl rfl rfl rfl (Nat.le_of_ble_eq_true rfl) rfl ?_
        exact z_vret (pc := 85) C E dX4_reaches_85 (pV.mk (by simp only [g_X4_reaches_left, g_X4_reaches_srow, g_X4_reaches_sdot, g_X4_reaches_steps, if_neg c_7, if_pos c_17, if_neg c_40]))
    · skip
      exact z_vret (pc := 20) C E dX4_reaches_20 (pV.mk (by simp only [g_X4_reaches_left, g_X4_reaches_srow, g_X4_reaches_sdot, g_X4_reaches_steps, if_neg c_7, if_neg c_17]))

theorem sOk_re {left : Nat → Int32} {steps y dots : Int32} (h : sOk steps) : sOk (g_X4_reaches_steps left steps y dots) := by
  unfold g_X4_reaches_steps
  split
  · exact h
  · split
    · split
      · exact h
      · exact sOk_up h (by assumption)
    · exact h

def r_X4_takesOut_13  : Nat → Nat → ((Nat → Int32) × (Nat → Int32) × (Nat → Int32) × Int32) → (Nat → Int32) × (Nat → Int32) × (Nat → Int32) × Int32
  | 0, i_13, z_13 => (z_13.1, z_13.2.1, z_13.2.2.1, z_13.2.2.2)
  | n_13 + 1, i_13, z_13 => if z_13.2.2.2 ≤ 0 then (z_13.1, z_13.2.1, z_13.2.2.1, z_13.2.2.2) else r_X4_takesOut_13 n_13 (i_13 + 1) (g_X4_reaches_left (g_X4_reaches_left z_13.1 (z_13.2.2.2 - 1) ((z_13.2.1 (z_13.2.2.2 - 1).toNatClampNeg) - 1) (z_13.2.2.1 (z_13.2.2.2 - 1).toNatClampNeg)) (g_X4_reaches_steps z_13.1 (z_13.2.2.2 - 1) ((z_13.2.1 (z_13.2.2.2 - 1).toNatClampNeg) - 1) (z_13.2.2.1 (z_13.2.2.2 - 1).toNatClampNeg)) ((z_13.2.1 (z_13.2.2.2 - 1).toNatClampNeg) + 1) (z_13.2.2.1 (z_13.2.2.2 - 1).toNatClampNeg), g_X4_reaches_srow (g_X4_reaches_left z_13.1 (z_13.2.2.2 - 1) ((z_13.2.1 (z_13.2.2.2 - 1).toNatClampNeg) - 1) (z_13.2.2.1 (z_13.2.2.2 - 1).toNatClampNeg)) (g_X4_reaches_srow z_13.1 z_13.2.1 (z_13.2.2.2 - 1) ((z_13.2.1 (z_13.2.2.2 - 1).toNatClampNeg) - 1) (z_13.2.2.1 (z_13.2.2.2 - 1).toNatClampNeg)) (g_X4_reaches_steps z_13.1 (z_13.2.2.2 - 1) ((z_13.2.1 (z_13.2.2.2 - 1).toNatClampNeg) - 1) (z_13.2.2.1 (z_13.2.2.2 - 1).toNatClampNeg)) ((z_13.2.1 (z_13.2.2.2 - 1).toNatClampNeg) + 1) (z_13.2.2.1 (z_13.2.2.2 - 1).toNatClampNeg), g_X4_reaches_sdot (g_X4_reaches_left z_13.1 (z_13.2.2.2 - 1) ((z_13.2.1 (z_13.2.2.2 - 1).toNatClampNeg) - 1) (z_13.2.2.1 (z_13.2.2.2 - 1).toNatClampNeg)) (g_X4_reaches_sdot z_13.1 z_13.2.2.1 (z_13.2.2.2 - 1) ((z_13.2.1 (z_13.2.2.2 - 1).toNatClampNeg) - 1) (z_13.2.2.1 (z_13.2.2.2 - 1).toNatClampNeg)) (g_X4_reaches_steps z_13.1 (z_13.2.2.2 - 1) ((z_13.2.1 (z_13.2.2.2 - 1).toNatClampNeg) - 1) (z_13.2.2.1 (z_13.2.2.2 - 1).toNatClampNeg)) ((z_13.2.1 (z_13.2.2.2 - 1).toNatClampNeg) + 1) (z_13.2.2.1 (z_13.2.2.2 - 1).toNatClampNeg), g_X4_reaches_steps (g_X4_reaches_left z_13.1 (z_13.2.2.2 - 1) ((z_13.2.1 (z_13.2.2.2 - 1).toNatClampNeg) - 1) (z_13.2.2.1 (z_13.2.2.2 - 1).toNatClampNeg)) (g_X4_reaches_steps z_13.1 (z_13.2.2.2 - 1) ((z_13.2.1 (z_13.2.2.2 - 1).toNatClampNeg) - 1) (z_13.2.2.1 (z_13.2.2.2 - 1).toNatClampNeg)) ((z_13.2.1 (z_13.2.2.2 - 1).toNatClampNeg) + 1) (z_13.2.2.1 (z_13.2.2.2 - 1).toNatClampNeg))
def g_X4_takesOut_left (left : Nat → Int32) (srow : Nat → Int32) (sdot : Nat → Int32) (y : Int32) (seed : Int32) : Nat → Int32 := (r_X4_takesOut_13 384 0 (g_X4_reaches_left left 0 y seed, g_X4_reaches_srow left srow 0 y seed, g_X4_reaches_sdot left sdot 0 y seed, g_X4_reaches_steps left 0 y seed)).1
def g_X4_takesOut_srow (left : Nat → Int32) (srow : Nat → Int32) (sdot : Nat → Int32) (y : Int32) (seed : Int32) : Nat → Int32 := (r_X4_takesOut_13 384 0 (g_X4_reaches_left left 0 y seed, g_X4_reaches_srow left srow 0 y seed, g_X4_reaches_sdot left sdot 0 y seed, g_X4_reaches_steps left 0 y seed)).2.1
def g_X4_takesOut_sdot (left : Nat → Int32) (srow : Nat → Int32) (sdot : Nat → Int32) (y : Int32) (seed : Int32) : Nat → Int32 := (r_X4_takesOut_13 384 0 (g_X4_reaches_left left 0 y seed, g_X4_reaches_srow left srow 0 y seed, g_X4_reaches_sdot left sdot 0 y seed, g_X4_reaches_steps left 0 y seed)).2.2.1
def g_X4_takesOut_steps (left : Nat → Int32) (srow : Nat → Int32) (sdot : Nat → Int32) (y : Int32) (seed : Int32) : Int32 := (r_X4_takesOut_13 384 0 (g_X4_reaches_left left 0 y seed, g_X4_reaches_srow left srow 0 y seed, g_X4_reaches_sdot left sdot 0 y seed, g_X4_reaches_steps left 0 y seed)).2.2.2
set_option maxRecDepth 100000 in
theorem c_X4_takesOut {l : Launch} {G : zG} {po pl pr pd : Nat} {left : Nat → Int32} {srow : Nat → Int32} {sdot : Nat → Int32} {steps : Int32} {y : Int32} {seed : Int32} : Ct l G yX4_takesOut cX4_takesOut 6 (Option.none : Option Jvm.ClassFile.FieldType) 2 49 [.ref po, .int y, .int seed] (wPa G po pl pr pd left srow sdot steps) (pV (wPa G po pl pr pd (g_X4_takesOut_left left srow sdot y seed) (g_X4_takesOut_srow left srow sdot y seed) (g_X4_takesOut_sdot left srow sdot y seed) (g_X4_takesOut_steps left srow sdot y seed))) := by
  refine Ct.of (plainFor_of_name (by decide)) (Nat.le_of_ble_eq_true rfl) (pV.ad ad_Pa) (fun X C E => ?_)
  show Z X G 6 0 0 _ 0 [(0, .ref po), (1, .int y), (2, .int seed)] []
  refine z_aload_n (pc := 0) C 0 dX4_takesOut_0 rfl ?_
  refine z_iconst (pc := 1) (v := 0) C dX4_takesOut_1 (by decide) ?_
  refine z_put (pc := 2) (wPa G po pl pr pd left srow sdot _) C 0 3 dX4_takesOut_2 rfl rfl i_X4 tyX4_ok nmX4 (by decide) q_126 rfl rfl rfl rfl (Nat.le_of_ble_eq_true rfl) rfl ?_
  refine z_aload_n (pc := 5) C 0 dX4_takesOut_5 rfl ?_
  refine z_iload_n (pc := 6) C 1 dX4_takesOut_6 rfl ?_
  refine z_iload_n (pc := 7) C 2 dX4_takesOut_7 rfl ?_
  refine z_callV (pc := 8) C (c_X4_reaches (by exact sOk_0)) [0, 1, 2, 3] z00 mV_X4_reaches q_545 dX4_takesOut_8 rfl rfl rfl 0 rfl rfl rfl rfl (Nat.le_of_ble_eq_true rfl) (by decide) (pV.go (ws' := wPa G po pl pr pd _ _ _ _) rfl ?_)
  refine z_iconst (pc := 11) (v := 0) C dX4_takesOut_11 (by decide) ?_
  refine z_istore_n (pc := 12) [(3, _), (0, _), (1, _), (2, _)] C dX4_takesOut_12 rfl (by decide) rfl ?_
  refine z_lv (lv' := [(0, _), (1, _), (2, _), (3, _)]) [1, 2, 3, 0] rfl ?_
  have L_13 : ∀ (n_13 i_13 : Nat) (z_13 : (Nat → Int32) × (Nat → Int32) × (Nat → Int32) × Int32), n_13 + i_13 = 384 → sOk z_13.2.2.2 → r_X4_takesOut_13 n_13 i_13 z_13 = r_X4_takesOut_13 384 0 (g_X4_reaches_left left 0 y seed, g_X4_reaches_srow left srow 0 y seed, g_X4_reaches_sdot left sdot 0 y seed, g_X4_reaches_steps left 0 y seed) → Z X G 6 0 0 (wPa G po pl pr pd z_13.1 z_13.2.1 z_13.2.2.1 z_13.2.2.2) 13 [(0, .ref po), (1, .int y), (2, .int seed), (3, .int (nI i_13))] [] := by
    intro n_13
    induction n_13 with
    | zero =>
      intro i_13 z_13 hn_13 hI_13 hF_13
      obtain rfl : i_13 = 384 := by omega
      refine z_iload_n (pc := 13) C 3 dX4_takesOut_13 rfl ?_
      refine z_sipush (pc := 14) (v := 384) C dX4_takesOut_14 (by decide) ?_
      refine z_icmp_ge (pc := 17) 85 C dX4_takesOut_17 (by decide) (fun c_17 => ?_) (fun c_17 => ?_)
      · skip
        exact z_vret (pc := 85) C E dX4_takesOut_85 (pV.mk (by simp only [g_X4_takesOut_left, g_X4_takesOut_srow, g_X4_takesOut_sdot, g_X4_takesOut_steps]; rw [← hF_13]; simp only [r_X4_takesOut_13]))
      · skip
        exact absurd (nI_le (Nat.le_refl 384) (by decide)) c_17
    | succ n_13 ih_13 =>
      intro i_13 z_13 hn_13 hI_13 hF_13
      have hi_13 : i_13 < 384 := by omega
      refine z_iload_n (pc := 13) C 3 dX4_takesOut_13 rfl ?_
      refine z_sipush (pc := 14) (v := 384) C dX4_takesOut_14 (by decide) ?_
      refine z_icmp_ge (pc := 17) 85 C dX4_takesOut_17 (by decide) (fun c_17 => ?_) (fun c_17 => ?_)
      · skip
        exact absurd c_17 (nI_ge (b := 384) (by omega) (by decide))
      · skip
        refine z_aload_n (pc := 20) C 0 dX4_takesOut_20 rfl ?_
        refine z_get (pc := 21) C 0 3 dX4_takesOut_21 rfl rfl i_X4 (by decide) q_126 rfl ?_
        refine z_if_le (pc := 24) 85 C dX4_takesOut_24 (by decide) (fun c_24 => ?_) (fun c_24 => ?_)
        · skip
          exact z_vret (pc := 85) C E dX4_takesOut_85 (pV.mk (by simp only [g_X4_takesOut_left, g_X4_takesOut_srow, g_X4_takesOut_sdot, g_X4_takesOut_steps]; rw [← hF_13]; simp only [r_X4_takesOut_13, if_pos c_24]))
        · skip
          refine z_aload_n (pc := 27) C 0 dX4_takesOut_27 rfl ?_
          refine z_dup (pc := 28) C dX4_takesOut_28 rfl ?_
          refine z_get (pc := 29) C 0 3 dX4_takesOut_29 rfl rfl i_X4 (by decide) q_126 rfl ?_
          refine z_iconst (pc := 32) (v := 1) C dX4_takesOut_32 (by decide) ?_
          refine z_isub (pc := 33) C dX4_takesOut_33 ?_
          refine z_put (pc := 34) (wPa G po pl pr pd _ _ _ _) C 0 3 dX4_takesOut_34 rfl rfl i_X4 tyX4_ok nmX4 (by decide) q_126 rfl rfl rfl rfl (Nat.le_of_ble_eq_true rfl) rfl ?_
          refine z_aload_n (pc := 37) C 0 dX4_takesOut_37 rfl ?_
          refine z_get (pc := 38) C 0 1 dX4_takesOut_38 rfl rfl i_X4 (by decide) q_124 rfl ?_
          refine z_aload_n (pc := 41) C 0 dX4_takesOut_41 rfl ?_
          refine z_get (pc := 42) C 0 3 dX4_takesOut_42 rfl rfl i_X4 (by decide) q_126 rfl ?_
          refine z_iald (pc := 45) C 2 dX4_takesOut_45 rfl ((sOk_dn hI_13 c_24).2) ?_
          refine z_istore (pc := 46) [(4, _), (0, _), (1, _), (2, _), (3, _)] C dX4_takesOut_46 (by decide) rfl ?_
          refine z_aload_n (pc := 48) C 1 dX4_takesOut_48 rfl ?_
          refine z_get (pc := 49) C 0 2 dX4_takesOut_49 rfl rfl i_X4 (by decide) q_125 rfl ?_
          refine z_aload_n (pc := 52) C 1 dX4_takesOut_52 rfl ?_
          refine z_get (pc := 53) C 0 3 dX4_takesOut_53 rfl rfl i_X4 (by decide) q_126 rfl ?_
          refine z_iald (pc := 56) C 3 dX4_takesOut_56 rfl ((sOk_dn hI_13 c_24).2) ?_
          refine z_istore (pc := 57) [(5, _), (4, _), (0, _), (1, _), (2, _), (3, _)] C dX4_takesOut_57 (by decide) rfl ?_
          refine z_aload_n (pc := 59) C 2 dX4_takesOut_59 rfl ?_
          refine z_iload (pc := 60) C 1 dX4_takesOut_60 rfl ?_
          refine z_iconst (pc := 62) (v := 1) C dX4_takesOut_62 (by decide) ?_
          refine z_isub (pc := 63) C dX4_takesOut_63 ?_
          refine z_iload (pc := 64) C 0 dX4_takesOut_64 rfl ?_
          refine z_callV (pc := 66) C (c_X4_reaches (by exact (sOk_dn hI_13 c_24).1)) [0, 1, 2, 3] z00 mV_X4_reaches q_545 dX4_takesOut_66 rfl rfl rfl 0 rfl rfl rfl rfl (Nat.le_of_ble_eq_true rfl) (by decide) (pV.go (ws' := wPa G po pl pr pd _ _ _ _) rfl ?_)
          refine z_aload_n (pc := 69) C 2 dX4_takesOut_69 rfl ?_
          refine z_iload (pc := 70) C 1 dX4_takesOut_70 rfl ?_
          refine z_iconst (pc := 72) (v := 1) C dX4_takesOut_72 (by decide) ?_
          refine z_iadd (pc := 73) C dX4_takesOut_73 ?_
          refine z_iload (pc := 74) C 0 dX4_takesOut_74 rfl ?_
          refine z_callV (pc := 76) C (c_X4_reaches (by exact (sOk_re (sOk_dn hI_13 c_24).1))) [0, 1, 2, 3] z00 mV_X4_reaches q_545 dX4_takesOut_76 rfl rfl rfl 0 rfl rfl rfl rfl (Nat.le_of_ble_eq_true rfl) (by decide) (pV.go (ws' := wPa G po pl pr pd _ _ _ _) rfl ?_)
          refine z_iinc (pc := 79) (v := nI (i_13 + 1)) [(3, _), (5, _), (4, _), (0, _), (1, _), (2, _)] C 5 dX4_takesOut_79 rfl ((nI_succ _).symm) (by decide) rfl ?_
          refine z_goto (pc := 82) 13 C dX4_takesOut_82 (by decide) ?_
          refine z_lv (lv' := [(0, _), (1, _), (2, _), (3, _)]) [3, 4, 5, 0] rfl ?_
          have h9 := ih_13 (i_13 + 1) (g_X4_reaches_left (g_X4_reaches_left z_13.1 (z_13.2.2.2 - 1) ((z_13.2.1 (z_13.2.2.2 - 1).toNatClampNeg) - 1) (z_13.2.2.1 (z_13.2.2.2 - 1).toNatClampNeg)) (g_X4_reaches_steps z_13.1 (z_13.2.2.2 - 1) ((z_13.2.1 (z_13.2.2.2 - 1).toNatClampNeg) - 1) (z_13.2.2.1 (z_13.2.2.2 - 1).toNatClampNeg)) ((z_13.2.1 (z_13.2.2.2 - 1).toNatClampNeg) + 1) (z_13.2.2.1 (z_13.2.2.2 - 1).toNatClampNeg), g_X4_reaches_srow (g_X4_reaches_left z_13.1 (z_13.2.2.2 - 1) ((z_13.2.1 (z_13.2.2.2 - 1).toNatClampNeg) - 1) (z_13.2.2.1 (z_13.2.2.2 - 1).toNatClampNeg)) (g_X4_reaches_srow z_13.1 z_13.2.1 (z_13.2.2.2 - 1) ((z_13.2.1 (z_13.2.2.2 - 1).toNatClampNeg) - 1) (z_13.2.2.1 (z_13.2.2.2 - 1).toNatClampNeg)) (g_X4_reaches_steps z_13.1 (z_13.2.2.2 - 1) ((z_13.2.1 (z_13.2.2.2 - 1).toNatClampNeg) - 1) (z_13.2.2.1 (z_13.2.2.2 - 1).toNatClampNeg)) ((z_13.2.1 (z_13.2.2.2 - 1).toNatClampNeg) + 1) (z_13.2.2.1 (z_13.2.2.2 - 1).toNatClampNeg), g_X4_reaches_sdot (g_X4_reaches_left z_13.1 (z_13.2.2.2 - 1) ((z_13.2.1 (z_13.2.2.2 - 1).toNatClampNeg) - 1) (z_13.2.2.1 (z_13.2.2.2 - 1).toNatClampNeg)) (g_X4_reaches_sdot z_13.1 z_13.2.2.1 (z_13.2.2.2 - 1) ((z_13.2.1 (z_13.2.2.2 - 1).toNatClampNeg) - 1) (z_13.2.2.1 (z_13.2.2.2 - 1).toNatClampNeg)) (g_X4_reaches_steps z_13.1 (z_13.2.2.2 - 1) ((z_13.2.1 (z_13.2.2.2 - 1).toNatClampNeg) - 1) (z_13.2.2.1 (z_13.2.2.2 - 1).toNatClampNeg)) ((z_13.2.1 (z_13.2.2.2 - 1).toNatClampNeg) + 1) (z_13.2.2.1 (z_13.2.2.2 - 1).toNatClampNeg), g_X4_reaches_steps (g_X4_reaches_left z_13.1 (z_13.2.2.2 - 1) ((z_13.2.1 (z_13.2.2.2 - 1).toNatClampNeg) - 1) (z_13.2.2.1 (z_13.2.2.2 - 1).toNatClampNeg)) (g_X4_reaches_steps z_13.1 (z_13.2.2.2 - 1) ((z_13.2.1 (z_13.2.2.2 - 1).toNatClampNeg) - 1) (z_13.2.2.1 (z_13.2.2.2 - 1).toNatClampNeg)) ((z_13.2.1 (z_13.2.2.2 - 1).toNatClampNeg) + 1) (z_13.2.2.1 (z_13.2.2.2 - 1).toNatClampNeg)) (by omega) (by dsimp only; exact sOk_re (sOk_re (sOk_dn hI_13 c_24).1)) (by rw [← hF_13]; simp only [r_X4_takesOut_13, if_neg c_24])
          dsimp only at h9
          exact h9
  have h9 := L_13 384 0 (g_X4_reaches_left left 0 y seed, g_X4_reaches_srow left srow 0 y seed, g_X4_reaches_sdot left sdot 0 y seed, g_X4_reaches_steps left 0 y seed) (by omega) (by dsimp only; exact sOk_re sOk_0) rfl
  dsimp only at h9
  exact h9

def r_X4_numberOfParts_12 (i_4 : Nat) : Nat → Nat → (Int32 × (Nat → Int32) × (Nat → Int32) × (Nat → Int32) × Int32) → Int32 × (Nat → Int32) × (Nat → Int32) × (Nat → Int32) × Int32
  | 0, i_12, z_12 => (z_12.1, z_12.2.1, z_12.2.2.1, z_12.2.2.2.1, z_12.2.2.2.2)
  | n_12 + 1, i_12, z_12 => if (z_12.2.1 (nI i_4).toNatClampNeg) = 0 then (z_12.1, z_12.2.1, z_12.2.2.1, z_12.2.2.2.1, z_12.2.2.2.2) else r_X4_numberOfParts_12 i_4 n_12 (i_12 + 1) (z_12.1 + 1, g_X4_takesOut_left z_12.2.1 z_12.2.2.1 z_12.2.2.2.1 (nI i_4) ((z_12.2.1 (nI i_4).toNatClampNeg) &&& (-(z_12.2.1 (nI i_4).toNatClampNeg))), g_X4_takesOut_srow z_12.2.1 z_12.2.2.1 z_12.2.2.2.1 (nI i_4) ((z_12.2.1 (nI i_4).toNatClampNeg) &&& (-(z_12.2.1 (nI i_4).toNatClampNeg))), g_X4_takesOut_sdot z_12.2.1 z_12.2.2.1 z_12.2.2.2.1 (nI i_4) ((z_12.2.1 (nI i_4).toNatClampNeg) &&& (-(z_12.2.1 (nI i_4).toNatClampNeg))), g_X4_takesOut_steps z_12.2.1 z_12.2.2.1 z_12.2.2.2.1 (nI i_4) ((z_12.2.1 (nI i_4).toNatClampNeg) &&& (-(z_12.2.1 (nI i_4).toNatClampNeg))))
def b_X4_numberOfParts_4  (i_4 : Nat) (z_4 : Int32 × (Nat → Int32) × (Nat → Int32) × (Nat → Int32) × Int32) : Int32 × (Nat → Int32) × (Nat → Int32) × (Nat → Int32) × Int32 := ((r_X4_numberOfParts_12 i_4 32 0 (z_4.1, z_4.2.1, z_4.2.2.1, z_4.2.2.2.1, z_4.2.2.2.2)).1, (r_X4_numberOfParts_12 i_4 32 0 (z_4.1, z_4.2.1, z_4.2.2.1, z_4.2.2.2.1, z_4.2.2.2.2)).2.1, (r_X4_numberOfParts_12 i_4 32 0 (z_4.1, z_4.2.1, z_4.2.2.1, z_4.2.2.2.1, z_4.2.2.2.2)).2.2.1, (r_X4_numberOfParts_12 i_4 32 0 (z_4.1, z_4.2.1, z_4.2.2.1, z_4.2.2.2.1, z_4.2.2.2.2)).2.2.2.1, (r_X4_numberOfParts_12 i_4 32 0 (z_4.1, z_4.2.1, z_4.2.2.1, z_4.2.2.2.1, z_4.2.2.2.2)).2.2.2.2)
def s_X4_numberOfParts_4 (left : Nat → Int32) (srow : Nat → Int32) (sdot : Nat → Int32) (steps : Int32) : Nat → Int32 × (Nat → Int32) × (Nat → Int32) × (Nat → Int32) × Int32
  | 0 => (0, left, srow, sdot, steps)
  | i_4 + 1 => b_X4_numberOfParts_4  i_4 (s_X4_numberOfParts_4 left srow sdot steps i_4)
def f_X4_numberOfParts (left : Nat → Int32) (srow : Nat → Int32) (sdot : Nat → Int32) (steps : Int32) : Int32 := (s_X4_numberOfParts_4 left srow sdot steps 24).1
def g_X4_numberOfParts_left (left : Nat → Int32) (srow : Nat → Int32) (sdot : Nat → Int32) (steps : Int32) : Nat → Int32 := (s_X4_numberOfParts_4 left srow sdot steps 24).2.1
def g_X4_numberOfParts_srow (left : Nat → Int32) (srow : Nat → Int32) (sdot : Nat → Int32) (steps : Int32) : Nat → Int32 := (s_X4_numberOfParts_4 left srow sdot steps 24).2.2.1
def g_X4_numberOfParts_sdot (left : Nat → Int32) (srow : Nat → Int32) (sdot : Nat → Int32) (steps : Int32) : Nat → Int32 := (s_X4_numberOfParts_4 left srow sdot steps 24).2.2.2.1
def g_X4_numberOfParts_steps (left : Nat → Int32) (srow : Nat → Int32) (sdot : Nat → Int32) (steps : Int32) : Int32 := (s_X4_numberOfParts_4 left srow sdot steps 24).2.2.2.2
set_option maxRecDepth 100000 in
theorem c_X4_numberOfParts {l : Launch} {G : zG} {po pl pr pd : Nat} {left : Nat → Int32} {srow : Nat → Int32} {sdot : Nat → Int32} {steps : Int32} : Ct l G yX4_numberOfParts cX4_numberOfParts 4 (Option.some FieldType.int) 3 74 [.ref po] (wPa G po pl pr pd left srow sdot steps) (pI (f_X4_numberOfParts left srow sdot steps) (wPa G po pl pr pd (g_X4_numberOfParts_left left srow sdot steps) (g_X4_numberOfParts_srow left srow sdot steps) (g_X4_numberOfParts_sdot left srow sdot steps) (g_X4_numberOfParts_steps left srow sdot steps))) := by
  refine Ct.of (plainFor_of_name (by decide)) (Nat.le_of_ble_eq_true rfl) (pI.ad ad_Pa) (fun X C E => ?_)
  show Z X G 4 0 0 _ 0 [(0, .ref po)] []
  refine z_iconst (pc := 0) (v := 0) C dX4_numberOfParts_0 (by decide) ?_
  refine z_istore_n (pc := 1) [(1, _), (0, _)] C dX4_numberOfParts_1 rfl (by decide) rfl ?_
  refine z_iconst (pc := 2) (v := 0) C dX4_numberOfParts_2 (by decide) ?_
  refine z_istore_n (pc := 3) [(2, _), (1, _), (0, _)] C dX4_numberOfParts_3 rfl (by decide) rfl ?_
  refine z_lv (lv' := [(0, _), (1, _), (2, _)]) [2, 1, 0] rfl ?_
  refine z_loop (pc := 4) (e := 24) (fun i_4 => wPa G po pl pr pd ((s_X4_numberOfParts_4 left srow sdot steps i_4).2.1) ((s_X4_numberOfParts_4 left srow sdot steps i_4).2.2.1) ((s_X4_numberOfParts_4 left srow sdot steps i_4).2.2.2.1) ((s_X4_numberOfParts_4 left srow sdot steps i_4).2.2.2.2)) (fun i_4 => [(0, .ref po), (1, .int ((s_X4_numberOfParts_4 left srow sdot steps i_4).1)), (2, .int (nI i_4))]) [] (fun i_4 hi_4 ih_4 => ?_) ?_ 0 (Nat.zero_le _)
  · show Z X G 4 0 0 (wPa G po pl pr pd ((s_X4_numberOfParts_4 left srow sdot steps i_4).2.1) ((s_X4_numberOfParts_4 left srow sdot steps i_4).2.2.1) ((s_X4_numberOfParts_4 left srow sdot steps i_4).2.2.2.1) ((s_X4_numberOfParts_4 left srow sdot steps i_4).2.2.2.2)) 4 [(0, .ref po), (1, .int ((s_X4_numberOfParts_4 left srow sdot steps i_4).1)), (2, .int (nI i_4))] []
    generalize hz_4 : s_X4_numberOfParts_4 left srow sdot steps i_4 = z_4
    refine z_iload_n (pc := 4) C 2 dX4_numberOfParts_4 rfl ?_
    refine z_bipush (pc := 5) (v := 24) C dX4_numberOfParts_5 (by decide) ?_
    refine z_icmp_ge (pc := 7) 61 C dX4_numberOfParts_7 (by decide) (fun c_7 => ?_) (fun c_7 => ?_)
    · skip
      exact absurd c_7 (nI_ge (b := 24) (by omega) (by decide))
    · skip
      refine z_iconst (pc := 10) (v := 0) C dX4_numberOfParts_10 (by decide) ?_
      refine z_istore_n (pc := 11) [(3, _), (0, _), (1, _), (2, _)] C dX4_numberOfParts_11 rfl (by decide) rfl ?_
      refine z_lv (lv' := [(0, _), (1, _), (2, _), (3, _)]) [1, 2, 3, 0] rfl ?_
      have L_12 : ∀ (n_12 i_12 : Nat) (z_12 : Int32 × (Nat → Int32) × (Nat → Int32) × (Nat → Int32) × Int32), n_12 + i_12 = 32 → Z X G 4 0 0 (wPa G po pl pr pd ((r_X4_numberOfParts_12 i_4 n_12 i_12 z_12).2.1) ((r_X4_numberOfParts_12 i_4 n_12 i_12 z_12).2.2.1) ((r_X4_numberOfParts_12 i_4 n_12 i_12 z_12).2.2.2.1) ((r_X4_numberOfParts_12 i_4 n_12 i_12 z_12).2.2.2.2)) 55 [(0, .ref po), (1, .int ((r_X4_numberOfParts_12 i_4 n_12 i_12 z_12).1)), (2, .int (nI i_4))] [] → Z X G 4 0 0 (wPa G po pl pr pd z_12.2.1 z_12.2.2.1 z_12.2.2.2.1 z_12.2.2.2.2) 12 [(0, .ref po), (1, .int z_12.1), (2, .int (nI i_4)), (3, .int (nI i_12))] [] := by
        intro n_12
        induction n_12 with
        | zero =>
          intro i_12 z_12 hn_12 hF_12
          obtain rfl : i_12 = 32 := by omega
          refine z_iload_n (pc := 12) C 3 dX4_numberOfParts_12 rfl ?_
          refine z_bipush (pc := 13) (v := 32) C dX4_numberOfParts_13 (by decide) ?_
          refine z_icmp_ge (pc := 15) 55 C dX4_numberOfParts_15 (by decide) (fun c_15 => ?_) (fun c_15 => ?_)
          · skip
            refine z_lv (lv' := [(0, _), (1, _), (2, _)]) [0, 1, 2] rfl ?_
            simp only [r_X4_numberOfParts_12] at hF_12
            exact hF_12
          · skip
            exact absurd (nI_le (Nat.le_refl 32) (by decide)) c_15
        | succ n_12 ih_12 =>
          intro i_12 z_12 hn_12 hF_12
          have hi_12 : i_12 < 32 := by omega
          refine z_iload_n (pc := 12) C 3 dX4_numberOfParts_12 rfl ?_
          refine z_bipush (pc := 13) (v := 32) C dX4_numberOfParts_13 (by decide) ?_
          refine z_icmp_ge (pc := 15) 55 C dX4_numberOfParts_15 (by decide) (fun c_15 => ?_) (fun c_15 => ?_)
          · skip
            exact absurd c_15 (nI_ge (b := 32) (by omega) (by decide))
          · skip
            refine z_aload_n (pc := 18) C 0 dX4_numberOfParts_18 rfl ?_
            refine z_get (pc := 19) C 0 0 dX4_numberOfParts_19 rfl rfl i_X4 (by decide) q_121 rfl ?_
            refine z_iload_n (pc := 22) C 2 dX4_numberOfParts_22 rfl ?_
            refine z_iald (pc := 23) C 1 dX4_numberOfParts_23 rfl (ix_nI hi_4 (by decide)) ?_
            refine z_if_eq (pc := 24) 55 C dX4_numberOfParts_24 (by decide) (fun c_24 => ?_) (fun c_24 => ?_)
            · skip
              refine z_lv (lv' := [(0, _), (1, _), (2, _)]) [0, 1, 2] rfl ?_
              simp only [r_X4_numberOfParts_12, if_pos c_24] at hF_12
              exact hF_12
            · skip
              refine z_aload_n (pc := 27) C 0 dX4_numberOfParts_27 rfl ?_
              refine z_iload_n (pc := 28) C 2 dX4_numberOfParts_28 rfl ?_
              refine z_aload_n (pc := 29) C 0 dX4_numberOfParts_29 rfl ?_
              refine z_get (pc := 30) C 0 0 dX4_numberOfParts_30 rfl rfl i_X4 (by decide) q_121 rfl ?_
              refine z_iload_n (pc := 33) C 2 dX4_numberOfParts_33 rfl ?_
              refine z_iald (pc := 34) C 1 dX4_numberOfParts_34 rfl (ix_nI hi_4 (by decide)) ?_
              refine z_aload_n (pc := 35) C 0 dX4_numberOfParts_35 rfl ?_
              refine z_get (pc := 36) C 0 0 dX4_numberOfParts_36 rfl rfl i_X4 (by decide) q_121 rfl ?_
              refine z_iload_n (pc := 39) C 2 dX4_numberOfParts_39 rfl ?_
              refine z_iald (pc := 40) C 1 dX4_numberOfParts_40 rfl (ix_nI hi_4 (by decide)) ?_
              refine z_ineg (pc := 41) C dX4_numberOfParts_41 ?_
              refine z_iand (pc := 42) C dX4_numberOfParts_42 ?_
              refine z_callV (pc := 43) C (c_X4_takesOut) [0, 1, 2, 3] z00 mV_X4_takesOut q_673 dX4_numberOfParts_43 rfl rfl rfl 0 rfl rfl rfl rfl (Nat.le_of_ble_eq_true rfl) (by decide) (pV.go (ws' := wPa G po pl pr pd _ _ _ _) rfl ?_)
              refine z_iinc (pc := 46) (v := _) [(1, _), (0, _), (2, _), (3, _)] C 1 dX4_numberOfParts_46 rfl rfl (by decide) rfl ?_
              refine z_iinc (pc := 49) (v := nI (i_12 + 1)) [(3, _), (1, _), (0, _), (2, _)] C 3 dX4_numberOfParts_49 rfl ((nI_succ _).symm) (by decide) rfl ?_
              refine z_goto (pc := 52) 12 C dX4_numberOfParts_52 (by decide) ?_
              refine z_lv (lv' := [(0, _), (1, _), (2, _), (3, _)]) [2, 1, 3, 0] rfl ?_
              have h9 := ih_12 (i_12 + 1) (z_12.1 + 1, g_X4_takesOut_left z_12.2.1 z_12.2.2.1 z_12.2.2.2.1 (nI i_4) ((z_12.2.1 (nI i_4).toNatClampNeg) &&& (-(z_12.2.1 (nI i_4).toNatClampNeg))), g_X4_takesOut_srow z_12.2.1 z_12.2.2.1 z_12.2.2.2.1 (nI i_4) ((z_12.2.1 (nI i_4).toNatClampNeg) &&& (-(z_12.2.1 (nI i_4).toNatClampNeg))), g_X4_takesOut_sdot z_12.2.1 z_12.2.2.1 z_12.2.2.2.1 (nI i_4) ((z_12.2.1 (nI i_4).toNatClampNeg) &&& (-(z_12.2.1 (nI i_4).toNatClampNeg))), g_X4_takesOut_steps z_12.2.1 z_12.2.2.1 z_12.2.2.2.1 (nI i_4) ((z_12.2.1 (nI i_4).toNatClampNeg) &&& (-(z_12.2.1 (nI i_4).toNatClampNeg)))) (by omega) (by simp only [r_X4_numberOfParts_12, if_neg c_24] at hF_12; exact hF_12)
              dsimp only at h9
              exact h9
      have h9 := L_12 32 0 (z_4.1, z_4.2.1, z_4.2.2.1, z_4.2.2.2.1, z_4.2.2.2.2) (by omega)
      dsimp only at h9
      refine h9 ?_
      clear h9
      show Z X G 4 0 0 (wPa G po pl pr pd ((r_X4_numberOfParts_12 i_4 32 0 (z_4.1, z_4.2.1, z_4.2.2.1, z_4.2.2.2.1, z_4.2.2.2.2)).2.1) ((r_X4_numberOfParts_12 i_4 32 0 (z_4.1, z_4.2.1, z_4.2.2.1, z_4.2.2.2.1, z_4.2.2.2.2)).2.2.1) ((r_X4_numberOfParts_12 i_4 32 0 (z_4.1, z_4.2.1, z_4.2.2.1, z_4.2.2.2.1, z_4.2.2.2.2)).2.2.2.1) ((r_X4_numberOfParts_12 i_4 32 0 (z_4.1, z_4.2.1, z_4.2.2.1, z_4.2.2.2.1, z_4.2.2.2.2)).2.2.2.2)) 55 [(0, .ref po), (1, .int ((r_X4_numberOfParts_12 i_4 32 0 (z_4.1, z_4.2.1, z_4.2.2.1, z_4.2.2.2.1, z_4.2.2.2.2)).1)), (2, .int (nI i_4))] []
      refine z_iinc (pc := 55) (v := nI (i_4 + 1)) [(2, _), (0, _), (1, _)] C 2 dX4_numberOfParts_55 rfl ((nI_succ _).symm) (by decide) rfl ?_
      refine z_goto (pc := 58) 4 C dX4_numberOfParts_58 (by decide) ?_
      refine z_lv (lv' := [(0, _), (1, _), (2, _)]) [1, 2, 0] rfl ?_
      exact z_eq (by simp only [s_X4_numberOfParts_4, hz_4, b_X4_numberOfParts_4]) (by simp only [s_X4_numberOfParts_4, hz_4, b_X4_numberOfParts_4]) rfl ih_4
  · show Z X G 4 0 0 (wPa G po pl pr pd ((s_X4_numberOfParts_4 left srow sdot steps 24).2.1) ((s_X4_numberOfParts_4 left srow sdot steps 24).2.2.1) ((s_X4_numberOfParts_4 left srow sdot steps 24).2.2.2.1) ((s_X4_numberOfParts_4 left srow sdot steps 24).2.2.2.2)) 4 [(0, .ref po), (1, .int ((s_X4_numberOfParts_4 left srow sdot steps 24).1)), (2, .int (nI 24))] []
    refine z_iload_n (pc := 4) C 2 dX4_numberOfParts_4 rfl ?_
    refine z_bipush (pc := 5) (v := 24) C dX4_numberOfParts_5 (by decide) ?_
    refine z_icmp_ge (pc := 7) 61 C dX4_numberOfParts_7 (by decide) (fun c_7 => ?_) (fun c_7 => ?_)
    · skip
      refine z_iload_n (pc := 61) C 1 dX4_numberOfParts_61 rfl ?_
      exact z_iret (pc := 62) C E dX4_numberOfParts_62 (pI.mk rfl rfl)
    · skip
      exact absurd (nI_le (Nat.le_refl 24) (by decide)) c_7

def f_X7_numberBehind (number : Int64) : Int64 := ((number * 1103515245) + 12345) - ((number * 1103515245) + 12345) / 2147483648 * 2147483648
set_option maxRecDepth 100000 in
theorem c_X7_numberBehind {l : Launch} {G : zG} {number : Int64} : Ct l G yX7_numberBehind cX7_numberBehind 2 (Option.some FieldType.long) 0 0 [.long number] ([]) (pL (f_X7_numberBehind number) ([])) := by
  refine Ct.of (plainFor_of_name (by decide)) (Nat.le_of_ble_eq_true rfl) (pL.ad rfl) (fun X C E => ?_)
  show Z X G 2 0 0 _ 0 [(0, .long number)] []
  refine z_lload_n (pc := 0) C 0 dX7_numberBehind_0 rfl ?_
  refine z_ldc2_w (pc := 1) C q_354 dX7_numberBehind_1 ?_
  refine z_lmul (pc := 4) C dX7_numberBehind_4 ?_
  refine z_ldc2_w (pc := 5) C q_355 dX7_numberBehind_5 ?_
  refine z_ladd (pc := 8) C dX7_numberBehind_8 ?_
  refine z_ldc2_w (pc := 9) C q_356 dX7_numberBehind_9 ?_
  refine z_lrem (pc := 12) C dX7_numberBehind_12 (by decide) ?_
  exact z_lret (pc := 13) C E dX7_numberBehind_13 (pL.mk rfl rfl)

def b_X7_drawn_6 (t : Int32) (i_6 : Nat) (z_6 : Int64 × (Nat → Int32)) : Int64 × (Nat → Int32) := (f_X7_numberBehind (f_X7_numberBehind z_6.1), g_X6_putRow_rows z_6.2 t (nI i_6) ((((((f_X7_numberBehind z_6.1) / 32768) - ((f_X7_numberBehind z_6.1) / 32768) / 65536 * 65536).toInt32) <<< (16 &&& 31)) ||| ((((f_X7_numberBehind (f_X7_numberBehind z_6.1)) / 32768) - ((f_X7_numberBehind (f_X7_numberBehind z_6.1)) / 32768) / 65536 * 65536).toInt32)))
def s_X7_drawn_6 (rows : Nat → Int32) (t : Int32) (seed : Int32) : Nat → Int64 × (Nat → Int32)
  | 0 => (seed.toInt64, rows)
  | i_6 + 1 => b_X7_drawn_6 t i_6 (s_X7_drawn_6 rows t seed i_6)
def g_X7_drawn_rows (rows : Nat → Int32) (t : Int32) (seed : Int32) : Nat → Int32 := (s_X7_drawn_6 rows t seed 24).2
set_option maxRecDepth 100000 in
theorem c_X7_drawn {l : Launch} {G : zG} {ho hm so sr sp sq : Nat} {comes : Nat → Int32} {rows : Nat → Int32} {pat : Nat → Int32} {ops : Nat → Int32} {cnt : Int32} {t : Int32} {seed : Int32} : Ct l G yX7_drawn cX7_drawn 8 (Option.none : Option Jvm.ClassFile.FieldType) 3 65 [.ref ho, .int t, .int seed] (wWh G ho hm so comes ++ wSc G so sr sp sq rows pat ops cnt) (pV (wWh G ho hm so comes ++ wSc G so sr sp sq (g_X7_drawn_rows rows t seed) pat ops cnt)) := by
  refine Ct.of (plainFor_of_name (by decide)) (Nat.le_of_ble_eq_true rfl) (pV.ad (ad_app ad_Wh ad_Sc)) (fun X C E => ?_)
  show Z X G 8 0 0 _ 0 [(0, .ref ho), (1, .int t), (2, .int seed)] []
  refine z_iload_n (pc := 0) C 2 dX7_drawn_0 rfl ?_
  refine z_i2l (pc := 1) C dX7_drawn_1 ?_
  refine z_lstore_n (pc := 2) [(3, _), (0, _), (1, _), (2, _)] C dX7_drawn_2 rfl (by decide) rfl ?_
  refine z_iconst (pc := 3) (v := 0) C dX7_drawn_3 (by decide) ?_
  refine z_istore (pc := 4) [(5, _), (3, _), (0, _), (1, _), (2, _)] C dX7_drawn_4 (by decide) rfl ?_
  refine z_lv (lv' := [(0, _), (1, _), (2, _), (3, _), (5, _)]) [2, 3, 4, 1, 0] rfl ?_
  refine z_loop (pc := 6) (e := 24) (fun i_6 => wWh G ho hm so comes ++ wSc G so sr sp sq ((s_X7_drawn_6 rows t seed i_6).2) pat ops cnt) (fun i_6 => [(0, .ref ho), (1, .int t), (2, .int seed), (3, .long ((s_X7_drawn_6 rows t seed i_6).1)), (5, .int (nI i_6))]) [] (fun i_6 hi_6 ih_6 => ?_) ?_ 0 (Nat.zero_le _)
  · show Z X G 8 0 0 (wWh G ho hm so comes ++ wSc G so sr sp sq ((s_X7_drawn_6 rows t seed i_6).2) pat ops cnt) 6 [(0, .ref ho), (1, .int t), (2, .int seed), (3, .long ((s_X7_drawn_6 rows t seed i_6).1)), (5, .int (nI i_6))] []
    generalize hz_6 : s_X7_drawn_6 rows t seed i_6 = z_6
    refine z_iload (pc := 6) C 4 dX7_drawn_6 rfl ?_
    refine z_bipush (pc := 8) (v := 24) C dX7_drawn_8 (by decide) ?_
    refine z_icmp_ge (pc := 10) 71 C dX7_drawn_10 (by decide) (fun c_10 => ?_) (fun c_10 => ?_)
    · skip
      exact absurd c_10 (nI_ge (b := 24) (by omega) (by decide))
    · skip
      refine z_lload_n (pc := 13) C 3 dX7_drawn_13 rfl ?_
      refine z_callS (pc := 14) C (c_X7_numberBehind) [] z00 mS_X7_numberBehind q_351 dX7_drawn_14 rfl rfl rfl rfl (Nat.le_of_ble_eq_true rfl) (by decide) (pL.stay rfl ?_)
      refine z_lstore_n (pc := 17) [(3, _), (0, _), (1, _), (2, _), (5, _)] C dX7_drawn_17 rfl (by decide) rfl ?_
      refine z_lload_n (pc := 18) C 0 dX7_drawn_18 rfl ?_
      refine z_ldc2_w (pc := 19) C q_357 dX7_drawn_19 ?_
      refine z_ldiv (pc := 22) C dX7_drawn_22 (by decide) ?_
      refine z_ldc2_w (pc := 23) C q_358 dX7_drawn_23 ?_
      refine z_lrem (pc := 26) C dX7_drawn_26 (by decide) ?_
      refine z_l2i (pc := 27) C dX7_drawn_27 ?_
      refine z_istore (pc := 28) [(6, _), (3, _), (0, _), (1, _), (2, _), (5, _)] C dX7_drawn_28 (by decide) rfl ?_
      refine z_lload_n (pc := 30) C 1 dX7_drawn_30 rfl ?_
      refine z_callS (pc := 31) C (c_X7_numberBehind) [] z00 mS_X7_numberBehind q_351 dX7_drawn_31 rfl rfl rfl rfl (Nat.le_of_ble_eq_true rfl) (by decide) (pL.stay rfl ?_)
      refine z_lstore_n (pc := 34) [(3, _), (6, _), (0, _), (1, _), (2, _), (5, _)] C dX7_drawn_34 rfl (by decide) rfl ?_
      refine z_lload_n (pc := 35) C 0 dX7_drawn_35 rfl ?_
      refine z_ldc2_w (pc := 36) C q_357 dX7_drawn_36 ?_
      refine z_ldiv (pc := 39) C dX7_drawn_39 (by decide) ?_
      refine z_ldc2_w (pc := 40) C q_358 dX7_drawn_40 ?_
      refine z_lrem (pc := 43) C dX7_drawn_43 (by decide) ?_
      refine z_l2i (pc := 44) C dX7_drawn_44 ?_
      refine z_istore (pc := 45) [(7, _), (3, _), (6, _), (0, _), (1, _), (2, _), (5, _)] C dX7_drawn_45 (by decide) rfl ?_
      refine z_aload_n (pc := 47) C 3 dX7_drawn_47 rfl ?_
      refine z_get (pc := 48) C 0 0 dX7_drawn_48 rfl rfl i_X7 (by decide) q_181 rfl ?_
      refine z_iload_n (pc := 51) C 4 dX7_drawn_51 rfl ?_
      refine z_iload (pc := 52) C 6 dX7_drawn_52 rfl ?_
      refine z_iload (pc := 54) C 2 dX7_drawn_54 rfl ?_
      refine z_bipush (pc := 56) (v := 16) C dX7_drawn_56 (by decide) ?_
      refine z_ishl (pc := 58) C dX7_drawn_58 ?_
      refine z_iload (pc := 59) C 0 dX7_drawn_59 rfl ?_
      refine z_ior (pc := 61) C dX7_drawn_61 ?_
      refine z_callV (pc := 62) C (c_X6_putRow) [2, 3, 4, 5] z00 mV_X6_putRow q_359 dX7_drawn_62 rfl rfl rfl 2 rfl rfl rfl rfl (Nat.le_of_ble_eq_true rfl) (by decide) (pV.go (ws' := wWh G ho hm so comes ++ wSc G so sr sp sq _ pat ops cnt) rfl ?_)
      refine z_iinc (pc := 65) (v := nI (i_6 + 1)) [(5, _), (7, _), (3, _), (6, _), (0, _), (1, _), (2, _)] C 6 dX7_drawn_65 rfl ((nI_succ _).symm) (by decide) rfl ?_
      refine z_goto (pc := 68) 6 C dX7_drawn_68 (by decide) ?_
      refine z_lv (lv' := [(0, _), (1, _), (2, _), (3, _), (5, _)]) [4, 5, 6, 2, 0] rfl ?_
      exact z_eq (by simp only [s_X7_drawn_6, hz_6, b_X7_drawn_6]) (by simp only [s_X7_drawn_6, hz_6, b_X7_drawn_6]) rfl ih_6
  · show Z X G 8 0 0 (wWh G ho hm so comes ++ wSc G so sr sp sq ((s_X7_drawn_6 rows t seed 24).2) pat ops cnt) 6 [(0, .ref ho), (1, .int t), (2, .int seed), (3, .long ((s_X7_drawn_6 rows t seed 24).1)), (5, .int (nI 24))] []
    refine z_iload (pc := 6) C 4 dX7_drawn_6 rfl ?_
    refine z_bipush (pc := 8) (v := 24) C dX7_drawn_8 (by decide) ?_
    refine z_icmp_ge (pc := 10) 71 C dX7_drawn_10 (by decide) (fun c_10 => ?_) (fun c_10 => ?_)
    · skip
      exact z_vret (pc := 71) C E dX7_drawn_71 (pV.mk rfl)
    · skip
      exact absurd (nI_le (Nat.le_refl 24) (by decide)) c_10

def b_X7_joined_6 (pat : Nat → Int32) (ops : Nat → Int32) (cnt : Int32) (s : Int32) (t : Int32) (join : Int32) (i_6 : Nat) (z_6 : Int32 × (Nat → Int32)) : Int32 × (Nat → Int32) := (z_6.1 + (f_X6_joinsRow z_6.2 pat ops cnt t (nI i_6) (-1) (f_X6_rowAt z_6.2 s (nI i_6)) join), g_X6_joinsRow_rows z_6.2 pat ops cnt t (nI i_6) (-1) (f_X6_rowAt z_6.2 s (nI i_6)) join)
def s_X7_joined_6 (rows : Nat → Int32) (pat : Nat → Int32) (ops : Nat → Int32) (cnt : Int32) (s : Int32) (t : Int32) (join : Int32) : Nat → Int32 × (Nat → Int32)
  | 0 => (0, rows)
  | i_6 + 1 => b_X7_joined_6 pat ops cnt s t join i_6 (s_X7_joined_6 rows pat ops cnt s t join i_6)
def f_X7_joined (rows : Nat → Int32) (pat : Nat → Int32) (ops : Nat → Int32) (cnt : Int32) (s : Int32) (t : Int32) (join : Int32) : Int32 := (s_X7_joined_6 rows pat ops cnt s t join 24).1
def g_X7_joined_rows (rows : Nat → Int32) (pat : Nat → Int32) (ops : Nat → Int32) (cnt : Int32) (s : Int32) (t : Int32) (join : Int32) : Nat → Int32 := (s_X7_joined_6 rows pat ops cnt s t join 24).2
set_option maxRecDepth 100000 in
theorem c_X7_joined {l : Launch} {G : zG} {ho hm so sr sp sq : Nat} {comes : Nat → Int32} {rows : Nat → Int32} {pat : Nat → Int32} {ops : Nat → Int32} {cnt : Int32} {s : Int32} {t : Int32} {join : Int32} (hc : cOk cnt) : Ct l G yX7_joined cX7_joined 6 (Option.some FieldType.int) 4 97 [.ref ho, .int s, .int t, .int join] (wWh G ho hm so comes ++ wSc G so sr sp sq rows pat ops cnt) (pI (f_X7_joined rows pat ops cnt s t join) (wWh G ho hm so comes ++ wSc G so sr sp sq (g_X7_joined_rows rows pat ops cnt s t join) pat ops cnt)) := by
  refine Ct.of (plainFor_of_name (by decide)) (Nat.le_of_ble_eq_true rfl) (pI.ad (ad_app ad_Wh ad_Sc)) (fun X C E => ?_)
  show Z X G 6 0 0 _ 0 [(0, .ref ho), (1, .int s), (2, .int t), (3, .int join)] []
  refine z_iconst (pc := 0) (v := 0) C dX7_joined_0 (by decide) ?_
  refine z_istore (pc := 1) [(4, _), (0, _), (1, _), (2, _), (3, _)] C dX7_joined_1 (by decide) rfl ?_
  refine z_iconst (pc := 3) (v := 0) C dX7_joined_3 (by decide) ?_
  refine z_istore (pc := 4) [(5, _), (4, _), (0, _), (1, _), (2, _), (3, _)] C dX7_joined_4 (by decide) rfl ?_
  refine z_lv (lv' := [(0, _), (1, _), (2, _), (3, _), (4, _), (5, _)]) [2, 3, 4, 5, 1, 0] rfl ?_
  refine z_loop (pc := 6) (e := 24) (fun i_6 => wWh G ho hm so comes ++ wSc G so sr sp sq ((s_X7_joined_6 rows pat ops cnt s t join i_6).2) pat ops cnt) (fun i_6 => [(0, .ref ho), (1, .int s), (2, .int t), (3, .int join), (4, .int ((s_X7_joined_6 rows pat ops cnt s t join i_6).1)), (5, .int (nI i_6))]) [] (fun i_6 hi_6 ih_6 => ?_) ?_ 0 (Nat.zero_le _)
  · show Z X G 6 0 0 (wWh G ho hm so comes ++ wSc G so sr sp sq ((s_X7_joined_6 rows pat ops cnt s t join i_6).2) pat ops cnt) 6 [(0, .ref ho), (1, .int s), (2, .int t), (3, .int join), (4, .int ((s_X7_joined_6 rows pat ops cnt s t join i_6).1)), (5, .int (nI i_6))] []
    generalize hz_6 : s_X7_joined_6 rows pat ops cnt s t join i_6 = z_6
    refine z_iload (pc := 6) C 5 dX7_joined_6 rfl ?_
    refine z_bipush (pc := 8) (v := 24) C dX7_joined_8 (by decide) ?_
    refine z_icmp_ge (pc := 10) 46 C dX7_joined_10 (by decide) (fun c_10 => ?_) (fun c_10 => ?_)
    · skip
      exact absurd c_10 (nI_ge (b := 24) (by omega) (by decide))
    · skip
      refine z_iload (pc := 13) C 4 dX7_joined_13 rfl ?_
      refine z_aload_n (pc := 15) C 0 dX7_joined_15 rfl ?_
      refine z_get (pc := 16) C 0 0 dX7_joined_16 rfl rfl i_X7 (by decide) q_181 rfl ?_
      refine z_iload_n (pc := 19) C 2 dX7_joined_19 rfl ?_
      refine z_iload (pc := 20) C 5 dX7_joined_20 rfl ?_
      refine z_iconst (pc := 22) (v := (-1)) C dX7_joined_22 (by decide) ?_
      refine z_aload_n (pc := 23) C 0 dX7_joined_23 rfl ?_
      refine z_get (pc := 24) C 0 0 dX7_joined_24 rfl rfl i_X7 (by decide) q_181 rfl ?_
      refine z_iload_n (pc := 27) C 1 dX7_joined_27 rfl ?_
      refine z_iload (pc := 28) C 5 dX7_joined_28 rfl ?_
      refine z_callV (pc := 30) C (c_X6_rowAt) [2, 3, 4, 5] z00 mV_X6_rowAt q_606 dX7_joined_30 rfl rfl rfl 2 rfl rfl rfl rfl (Nat.le_of_ble_eq_true rfl) (by decide) (pI.stay rfl ?_)
      refine z_iload_n (pc := 33) C 3 dX7_joined_33 rfl ?_
      refine z_callV (pc := 34) C (c_X6_joinsRow (by assumption)) [2, 3, 4, 5] z00 mV_X6_joinsRow q_607 dX7_joined_34 rfl rfl rfl 2 rfl rfl rfl rfl (Nat.le_of_ble_eq_true rfl) (by decide) (pI.go (ws' := wWh G ho hm so comes ++ wSc G so sr sp sq _ pat ops cnt) rfl ?_)
      refine z_iadd (pc := 37) C dX7_joined_37 ?_
      refine z_istore (pc := 38) [(4, _), (0, _), (1, _), (2, _), (3, _), (5, _)] C dX7_joined_38 (by decide) rfl ?_
      refine z_iinc (pc := 40) (v := nI (i_6 + 1)) [(5, _), (4, _), (0, _), (1, _), (2, _), (3, _)] C 5 dX7_joined_40 rfl ((nI_succ _).symm) (by decide) rfl ?_
      refine z_goto (pc := 43) 6 C dX7_joined_43 (by decide) ?_
      refine z_lv (lv' := [(0, _), (1, _), (2, _), (3, _), (4, _), (5, _)]) [2, 3, 4, 5, 1, 0] rfl ?_
      exact z_eq (by simp only [s_X7_joined_6, hz_6, b_X7_joined_6]) (by simp only [s_X7_joined_6, hz_6, b_X7_joined_6]) rfl ih_6
  · show Z X G 6 0 0 (wWh G ho hm so comes ++ wSc G so sr sp sq ((s_X7_joined_6 rows pat ops cnt s t join 24).2) pat ops cnt) 6 [(0, .ref ho), (1, .int s), (2, .int t), (3, .int join), (4, .int ((s_X7_joined_6 rows pat ops cnt s t join 24).1)), (5, .int (nI 24))] []
    refine z_iload (pc := 6) C 5 dX7_joined_6 rfl ?_
    refine z_bipush (pc := 8) (v := 24) C dX7_joined_8 (by decide) ?_
    refine z_icmp_ge (pc := 10) 46 C dX7_joined_10 (by decide) (fun c_10 => ?_) (fun c_10 => ?_)
    · skip
      refine z_iload (pc := 46) C 4 dX7_joined_46 rfl ?_
      exact z_iret (pc := 48) C E dX7_joined_48 (pI.mk rfl rfl)
    · skip
      exact absurd (nI_le (Nat.le_refl 24) (by decide)) c_10

def b_X7_mirroredRow_4 (row : Int32) (i_4 : Nat) (z_4 : Int32) : Int32 := z_4 ||| (((uShr row (nI i_4)) &&& 1) <<< ((31 - (nI i_4)) &&& 31))
def s_X7_mirroredRow_4 (row : Int32) : Nat → Int32
  | 0 => 0
  | i_4 + 1 => b_X7_mirroredRow_4 row i_4 (s_X7_mirroredRow_4 row i_4)
def f_X7_mirroredRow (row : Int32) : Int32 := (s_X7_mirroredRow_4 row 32)
set_option maxRecDepth 100000 in
theorem c_X7_mirroredRow {l : Launch} {G : zG} {row : Int32} : Ct l G yX7_mirroredRow cX7_mirroredRow 3 (Option.some FieldType.int) 0 0 [.int row] ([]) (pI (f_X7_mirroredRow row) ([])) := by
  refine Ct.of (plainFor_of_name (by decide)) (Nat.le_of_ble_eq_true rfl) (pI.ad rfl) (fun X C E => ?_)
  show Z X G 3 0 0 _ 0 [(0, .int row)] []
  refine z_iconst (pc := 0) (v := 0) C dX7_mirroredRow_0 (by decide) ?_
  refine z_istore_n (pc := 1) [(1, _), (0, _)] C dX7_mirroredRow_1 rfl (by decide) rfl ?_
  refine z_iconst (pc := 2) (v := 0) C dX7_mirroredRow_2 (by decide) ?_
  refine z_istore_n (pc := 3) [(2, _), (1, _), (0, _)] C dX7_mirroredRow_3 rfl (by decide) rfl ?_
  refine z_lv (lv' := [(0, _), (1, _), (2, _)]) [2, 1, 0] rfl ?_
  refine z_loop (pc := 4) (e := 32) (fun i_4 => []) (fun i_4 => [(0, .int row), (1, .int (s_X7_mirroredRow_4 row i_4)), (2, .int (nI i_4))]) [] (fun i_4 hi_4 ih_4 => ?_) ?_ 0 (Nat.zero_le _)
  · show Z X G 3 0 0 ([]) 4 [(0, .int row), (1, .int (s_X7_mirroredRow_4 row i_4)), (2, .int (nI i_4))] []
    generalize hz_4 : s_X7_mirroredRow_4 row i_4 = z_4
    refine z_iload_n (pc := 4) C 2 dX7_mirroredRow_4 rfl ?_
    refine z_bipush (pc := 5) (v := 32) C dX7_mirroredRow_5 (by decide) ?_
    refine z_icmp_ge (pc := 7) 29 C dX7_mirroredRow_7 (by decide) (fun c_7 => ?_) (fun c_7 => ?_)
    · skip
      exact absurd c_7 (nI_ge (b := 32) (by omega) (by decide))
    · skip
      refine z_iload_n (pc := 10) C 1 dX7_mirroredRow_10 rfl ?_
      refine z_iload_n (pc := 11) C 0 dX7_mirroredRow_11 rfl ?_
      refine z_iload_n (pc := 12) C 2 dX7_mirroredRow_12 rfl ?_
      refine z_iushr (pc := 13) C dX7_mirroredRow_13 ?_
      refine z_iconst (pc := 14) (v := 1) C dX7_mirroredRow_14 (by decide) ?_
      refine z_iand (pc := 15) C dX7_mirroredRow_15 ?_
      refine z_bipush (pc := 16) (v := 31) C dX7_mirroredRow_16 (by decide) ?_
      refine z_iload_n (pc := 18) C 2 dX7_mirroredRow_18 rfl ?_
      refine z_isub (pc := 19) C dX7_mirroredRow_19 ?_
      refine z_ishl (pc := 20) C dX7_mirroredRow_20 ?_
      refine z_ior (pc := 21) C dX7_mirroredRow_21 ?_
      refine z_istore_n (pc := 22) [(1, _), (0, _), (2, _)] C dX7_mirroredRow_22 rfl (by decide) rfl ?_
      refine z_iinc (pc := 23) (v := nI (i_4 + 1)) [(2, _), (1, _), (0, _)] C 2 dX7_mirroredRow_23 rfl ((nI_succ _).symm) (by decide) rfl ?_
      refine z_goto (pc := 26) 4 C dX7_mirroredRow_26 (by decide) ?_
      refine z_lv (lv' := [(0, _), (1, _), (2, _)]) [2, 1, 0] rfl ?_
      exact z_eq rfl (by simp only [s_X7_mirroredRow_4, hz_4, b_X7_mirroredRow_4]) rfl ih_4
  · show Z X G 3 0 0 ([]) 4 [(0, .int row), (1, .int (s_X7_mirroredRow_4 row 32)), (2, .int (nI 32))] []
    refine z_iload_n (pc := 4) C 2 dX7_mirroredRow_4 rfl ?_
    refine z_bipush (pc := 5) (v := 32) C dX7_mirroredRow_5 (by decide) ?_
    refine z_icmp_ge (pc := 7) 29 C dX7_mirroredRow_7 (by decide) (fun c_7 => ?_) (fun c_7 => ?_)
    · skip
      refine z_iload_n (pc := 29) C 1 dX7_mirroredRow_29 rfl ?_
      exact z_iret (pc := 30) C E dX7_mirroredRow_30 (pI.mk rfl rfl)
    · skip
      exact absurd (nI_le (Nat.le_refl 32) (by decide)) c_7

def f_X7_grownRow (rows : Nat → Int32) (t : Int32) (y : Int32) : Int32 := ((((f_X6_rowAt rows t y) ||| ((f_X6_rowAt rows t y) <<< (1 &&& 31))) ||| (uShr (f_X6_rowAt rows t y) 1)) ||| (f_X6_rowAt rows t (y - 1))) ||| (f_X6_rowAt rows t (y + 1))
set_option maxRecDepth 100000 in
theorem c_X7_grownRow {l : Launch} {G : zG} {ho hm so sr sp sq : Nat} {comes : Nat → Int32} {rows : Nat → Int32} {pat : Nat → Int32} {ops : Nat → Int32} {cnt : Int32} {t : Int32} {y : Int32} : Ct l G yX7_grownRow cX7_grownRow 4 (Option.some FieldType.int) 3 64 [.ref ho, .int t, .int y] (wWh G ho hm so comes ++ wSc G so sr sp sq rows pat ops cnt) (pI (f_X7_grownRow rows t y) (wWh G ho hm so comes ++ wSc G so sr sp sq rows pat ops cnt)) := by
  refine Ct.of (plainFor_of_name (by decide)) (Nat.le_of_ble_eq_true rfl) (pI.ad (ad_app ad_Wh ad_Sc)) (fun X C E => ?_)
  show Z X G 4 0 0 _ 0 [(0, .ref ho), (1, .int t), (2, .int y)] []
  refine z_aload_n (pc := 0) C 0 dX7_grownRow_0 rfl ?_
  refine z_get (pc := 1) C 0 0 dX7_grownRow_1 rfl rfl i_X7 (by decide) q_181 rfl ?_
  refine z_iload_n (pc := 4) C 1 dX7_grownRow_4 rfl ?_
  refine z_iload_n (pc := 5) C 2 dX7_grownRow_5 rfl ?_
  refine z_callV (pc := 6) C (c_X6_rowAt) [2, 3, 4, 5] z00 mV_X6_rowAt q_606 dX7_grownRow_6 rfl rfl rfl 2 rfl rfl rfl rfl (Nat.le_of_ble_eq_true rfl) (by decide) (pI.stay rfl ?_)
  refine z_istore_n (pc := 9) [(3, _), (0, _), (1, _), (2, _)] C dX7_grownRow_9 rfl (by decide) rfl ?_
  refine z_iload_n (pc := 10) C 0 dX7_grownRow_10 rfl ?_
  refine z_iload_n (pc := 11) C 0 dX7_grownRow_11 rfl ?_
  refine z_iconst (pc := 12) (v := 1) C dX7_grownRow_12 (by decide) ?_
  refine z_ishl (pc := 13) C dX7_grownRow_13 ?_
  refine z_ior (pc := 14) C dX7_grownRow_14 ?_
  refine z_iload_n (pc := 15) C 0 dX7_grownRow_15 rfl ?_
  refine z_iconst (pc := 16) (v := 1) C dX7_grownRow_16 (by decide) ?_
  refine z_iushr (pc := 17) C dX7_grownRow_17 ?_
  refine z_ior (pc := 18) C dX7_grownRow_18 ?_
  refine z_aload_n (pc := 19) C 1 dX7_grownRow_19 rfl ?_
  refine z_get (pc := 20) C 0 0 dX7_grownRow_20 rfl rfl i_X7 (by decide) q_181 rfl ?_
  refine z_iload_n (pc := 23) C 2 dX7_grownRow_23 rfl ?_
  refine z_iload_n (pc := 24) C 3 dX7_grownRow_24 rfl ?_
  refine z_iconst (pc := 25) (v := 1) C dX7_grownRow_25 (by decide) ?_
  refine z_isub (pc := 26) C dX7_grownRow_26 ?_
  refine z_callV (pc := 27) C (c_X6_rowAt) [2, 3, 4, 5] z00 mV_X6_rowAt q_606 dX7_grownRow_27 rfl rfl rfl 2 rfl rfl rfl rfl (Nat.le_of_ble_eq_true rfl) (by decide) (pI.stay rfl ?_)
  refine z_ior (pc := 30) C dX7_grownRow_30 ?_
  refine z_aload_n (pc := 31) C 1 dX7_grownRow_31 rfl ?_
  refine z_get (pc := 32) C 0 0 dX7_grownRow_32 rfl rfl i_X7 (by decide) q_181 rfl ?_
  refine z_iload_n (pc := 35) C 2 dX7_grownRow_35 rfl ?_
  refine z_iload_n (pc := 36) C 3 dX7_grownRow_36 rfl ?_
  refine z_iconst (pc := 37) (v := 1) C dX7_grownRow_37 (by decide) ?_
  refine z_iadd (pc := 38) C dX7_grownRow_38 ?_
  refine z_callV (pc := 39) C (c_X6_rowAt) [2, 3, 4, 5] z00 mV_X6_rowAt q_606 dX7_grownRow_39 rfl rfl rfl 2 rfl rfl rfl rfl (Nat.le_of_ble_eq_true rfl) (by decide) (pI.stay rfl ?_)
  refine z_ior (pc := 42) C dX7_grownRow_42 ?_
  exact z_iret (pc := 43) C E dX7_grownRow_43 (pI.mk rfl rfl)

def f_X7_thinnedRow (rows : Nat → Int32) (t : Int32) (y : Int32) : Int32 := ((((f_X6_rowAt rows t y) &&& ((f_X6_rowAt rows t y) <<< (1 &&& 31))) &&& (uShr (f_X6_rowAt rows t y) 1)) &&& (f_X6_rowAt rows t (y - 1))) &&& (f_X6_rowAt rows t (y + 1))
set_option maxRecDepth 100000 in
theorem c_X7_thinnedRow {l : Launch} {G : zG} {ho hm so sr sp sq : Nat} {comes : Nat → Int32} {rows : Nat → Int32} {pat : Nat → Int32} {ops : Nat → Int32} {cnt : Int32} {t : Int32} {y : Int32} : Ct l G yX7_thinnedRow cX7_thinnedRow 4 (Option.some FieldType.int) 3 64 [.ref ho, .int t, .int y] (wWh G ho hm so comes ++ wSc G so sr sp sq rows pat ops cnt) (pI (f_X7_thinnedRow rows t y) (wWh G ho hm so comes ++ wSc G so sr sp sq rows pat ops cnt)) := by
  refine Ct.of (plainFor_of_name (by decide)) (Nat.le_of_ble_eq_true rfl) (pI.ad (ad_app ad_Wh ad_Sc)) (fun X C E => ?_)
  show Z X G 4 0 0 _ 0 [(0, .ref ho), (1, .int t), (2, .int y)] []
  refine z_aload_n (pc := 0) C 0 dX7_thinnedRow_0 rfl ?_
  refine z_get (pc := 1) C 0 0 dX7_thinnedRow_1 rfl rfl i_X7 (by decide) q_181 rfl ?_
  refine z_iload_n (pc := 4) C 1 dX7_thinnedRow_4 rfl ?_
  refine z_iload_n (pc := 5) C 2 dX7_thinnedRow_5 rfl ?_
  refine z_callV (pc := 6) C (c_X6_rowAt) [2, 3, 4, 5] z00 mV_X6_rowAt q_606 dX7_thinnedRow_6 rfl rfl rfl 2 rfl rfl rfl rfl (Nat.le_of_ble_eq_true rfl) (by decide) (pI.stay rfl ?_)
  refine z_istore_n (pc := 9) [(3, _), (0, _), (1, _), (2, _)] C dX7_thinnedRow_9 rfl (by decide) rfl ?_
  refine z_iload_n (pc := 10) C 0 dX7_thinnedRow_10 rfl ?_
  refine z_iload_n (pc := 11) C 0 dX7_thinnedRow_11 rfl ?_
  refine z_iconst (pc := 12) (v := 1) C dX7_thinnedRow_12 (by decide) ?_
  refine z_ishl (pc := 13) C dX7_thinnedRow_13 ?_
  refine z_iand (pc := 14) C dX7_thinnedRow_14 ?_
  refine z_iload_n (pc := 15) C 0 dX7_thinnedRow_15 rfl ?_
  refine z_iconst (pc := 16) (v := 1) C dX7_thinnedRow_16 (by decide) ?_
  refine z_iushr (pc := 17) C dX7_thinnedRow_17 ?_
  refine z_iand (pc := 18) C dX7_thinnedRow_18 ?_
  refine z_aload_n (pc := 19) C 1 dX7_thinnedRow_19 rfl ?_
  refine z_get (pc := 20) C 0 0 dX7_thinnedRow_20 rfl rfl i_X7 (by decide) q_181 rfl ?_
  refine z_iload_n (pc := 23) C 2 dX7_thinnedRow_23 rfl ?_
  refine z_iload_n (pc := 24) C 3 dX7_thinnedRow_24 rfl ?_
  refine z_iconst (pc := 25) (v := 1) C dX7_thinnedRow_25 (by decide) ?_
  refine z_isub (pc := 26) C dX7_thinnedRow_26 ?_
  refine z_callV (pc := 27) C (c_X6_rowAt) [2, 3, 4, 5] z00 mV_X6_rowAt q_606 dX7_thinnedRow_27 rfl rfl rfl 2 rfl rfl rfl rfl (Nat.le_of_ble_eq_true rfl) (by decide) (pI.stay rfl ?_)
  refine z_iand (pc := 30) C dX7_thinnedRow_30 ?_
  refine z_aload_n (pc := 31) C 1 dX7_thinnedRow_31 rfl ?_
  refine z_get (pc := 32) C 0 0 dX7_thinnedRow_32 rfl rfl i_X7 (by decide) q_181 rfl ?_
  refine z_iload_n (pc := 35) C 2 dX7_thinnedRow_35 rfl ?_
  refine z_iload_n (pc := 36) C 3 dX7_thinnedRow_36 rfl ?_
  refine z_iconst (pc := 37) (v := 1) C dX7_thinnedRow_37 (by decide) ?_
  refine z_iadd (pc := 38) C dX7_thinnedRow_38 ?_
  refine z_callV (pc := 39) C (c_X6_rowAt) [2, 3, 4, 5] z00 mV_X6_rowAt q_606 dX7_thinnedRow_39 rfl rfl rfl 2 rfl rfl rfl rfl (Nat.le_of_ble_eq_true rfl) (by decide) (pI.stay rfl ?_)
  refine z_iand (pc := 42) C dX7_thinnedRow_42 ?_
  exact z_iret (pc := 43) C E dX7_thinnedRow_43 (pI.mk rfl rfl)

def f_X7_changedRow (rows : Nat → Int32) (t : Int32) (y : Int32) (way : Int32) : Int32 := if way = 0 then f_X7_mirroredRow (f_X6_rowAt rows t y) else if way = 1 then f_X6_rowAt rows t (23 - y) else if way = 2 then f_X7_grownRow rows t y else if way = 3 then f_X7_thinnedRow rows t y else (f_X6_rowAt rows t y) &&& ((f_X7_thinnedRow rows t y) ^^^ (-1))
set_option maxRecDepth 100000 in
theorem c_X7_changedRow {l : Launch} {G : zG} {ho hm so sr sp sq : Nat} {comes : Nat → Int32} {rows : Nat → Int32} {pat : Nat → Int32} {ops : Nat → Int32} {cnt : Int32} {t : Int32} {y : Int32} {way : Int32} : Ct l G yX7_changedRow cX7_changedRow 4 (Option.some FieldType.int) 4 87 [.ref ho, .int t, .int y, .int way] (wWh G ho hm so comes ++ wSc G so sr sp sq rows pat ops cnt) (pI (f_X7_changedRow rows t y way) (wWh G ho hm so comes ++ wSc G so sr sp sq rows pat ops cnt)) := by
  refine Ct.of (plainFor_of_name (by decide)) (Nat.le_of_ble_eq_true rfl) (pI.ad (ad_app ad_Wh ad_Sc)) (fun X C E => ?_)
  show Z X G 4 0 0 _ 0 [(0, .ref ho), (1, .int t), (2, .int y), (3, .int way)] []
  refine z_iload_n (pc := 0) C 3 dX7_changedRow_0 rfl ?_
  by_cases c_1_0 : way = 0
  · skip
    refine z_tableIn (pc := 1) 32 C dX7_changedRow_1 (by rw [c_1_0]; decide) (by rw [c_1_0]; decide) (by rw [c_1_0]; rfl) (by decide) ?_
    refine z_aload_n (pc := 32) C 0 dX7_changedRow_32 rfl ?_
    refine z_get (pc := 33) C 0 0 dX7_changedRow_33 rfl rfl i_X7 (by decide) q_181 rfl ?_
    refine z_iload_n (pc := 36) C 1 dX7_changedRow_36 rfl ?_
    refine z_iload_n (pc := 37) C 2 dX7_changedRow_37 rfl ?_
    refine z_callV (pc := 38) C (c_X6_rowAt) [2, 3, 4, 5] z00 mV_X6_rowAt q_606 dX7_changedRow_38 rfl rfl rfl 2 rfl rfl rfl rfl (Nat.le_of_ble_eq_true rfl) (by decide) (pI.stay rfl ?_)
    refine z_callS (pc := 41) C (c_X7_mirroredRow) [] z00 mS_X7_mirroredRow q_620 dX7_changedRow_41 rfl rfl rfl rfl (Nat.le_of_ble_eq_true rfl) (by decide) (pI.stay rfl ?_)
    exact z_iret (pc := 44) C E dX7_changedRow_44 (pI.mk (by simp only [f_X7_changedRow, if_pos c_1_0]) rfl)
  by_cases c_1_1 : way = 1
  · skip
    refine z_tableIn (pc := 1) 45 C dX7_changedRow_1 (by rw [c_1_1]; decide) (by rw [c_1_1]; decide) (by rw [c_1_1]; rfl) (by decide) ?_
    refine z_aload_n (pc := 45) C 0 dX7_changedRow_45 rfl ?_
    refine z_get (pc := 46) C 0 0 dX7_changedRow_46 rfl rfl i_X7 (by decide) q_181 rfl ?_
    refine z_iload_n (pc := 49) C 1 dX7_changedRow_49 rfl ?_
    refine z_bipush (pc := 50) (v := 23) C dX7_changedRow_50 (by decide) ?_
    refine z_iload_n (pc := 52) C 2 dX7_changedRow_52 rfl ?_
    refine z_isub (pc := 53) C dX7_changedRow_53 ?_
    refine z_callV (pc := 54) C (c_X6_rowAt) [2, 3, 4, 5] z00 mV_X6_rowAt q_606 dX7_changedRow_54 rfl rfl rfl 2 rfl rfl rfl rfl (Nat.le_of_ble_eq_true rfl) (by decide) (pI.stay rfl ?_)
    exact z_iret (pc := 57) C E dX7_changedRow_57 (pI.mk (by simp only [f_X7_changedRow, if_neg c_1_0, if_pos c_1_1]) rfl)
  by_cases c_1_2 : way = 2
  · skip
    refine z_tableIn (pc := 1) 58 C dX7_changedRow_1 (by rw [c_1_2]; decide) (by rw [c_1_2]; decide) (by rw [c_1_2]; rfl) (by decide) ?_
    refine z_aload_n (pc := 58) C 0 dX7_changedRow_58 rfl ?_
    refine z_iload_n (pc := 59) C 1 dX7_changedRow_59 rfl ?_
    refine z_iload_n (pc := 60) C 2 dX7_changedRow_60 rfl ?_
    refine z_callV (pc := 61) C (c_X7_grownRow) [0, 1, 2, 3, 4, 5] z00 mV_X7_grownRow q_623 dX7_changedRow_61 rfl rfl rfl 0 rfl rfl rfl rfl (Nat.le_of_ble_eq_true rfl) (by decide) (pI.stay rfl ?_)
    exact z_iret (pc := 64) C E dX7_changedRow_64 (pI.mk (by simp only [f_X7_changedRow, if_neg c_1_0, if_neg c_1_1, if_pos c_1_2]) rfl)
  by_cases c_1_3 : way = 3
  · skip
    refine z_tableIn (pc := 1) 65 C dX7_changedRow_1 (by rw [c_1_3]; decide) (by rw [c_1_3]; decide) (by rw [c_1_3]; rfl) (by decide) ?_
    refine z_aload_n (pc := 65) C 0 dX7_changedRow_65 rfl ?_
    refine z_iload_n (pc := 66) C 1 dX7_changedRow_66 rfl ?_
    refine z_iload_n (pc := 67) C 2 dX7_changedRow_67 rfl ?_
    refine z_callV (pc := 68) C (c_X7_thinnedRow) [0, 1, 2, 3, 4, 5] z00 mV_X7_thinnedRow q_627 dX7_changedRow_68 rfl rfl rfl 0 rfl rfl rfl rfl (Nat.le_of_ble_eq_true rfl) (by decide) (pI.stay rfl ?_)
    exact z_iret (pc := 71) C E dX7_changedRow_71 (pI.mk (by simp only [f_X7_changedRow, if_neg c_1_0, if_neg c_1_1, if_neg c_1_2, if_pos c_1_3]) rfl)
  refine z_tableD (pc := 1) 72 C dX7_changedRow_1 [0, 1, 2, 3] (by decide) (List.forall_mem_cons.mpr ⟨lv_neT c_1_0 rfl, List.forall_mem_cons.mpr ⟨lv_neT c_1_1 rfl, List.forall_mem_cons.mpr ⟨lv_neT c_1_2 rfl, List.forall_mem_cons.mpr ⟨lv_neT c_1_3 rfl, fun _ h => absurd h List.not_mem_nil⟩⟩⟩⟩) (by decide) ?_
  refine z_aload_n (pc := 72) C 0 dX7_changedRow_72 rfl ?_
  refine z_get (pc := 73) C 0 0 dX7_changedRow_73 rfl rfl i_X7 (by decide) q_181 rfl ?_
  refine z_iload_n (pc := 76) C 1 dX7_changedRow_76 rfl ?_
  refine z_iload_n (pc := 77) C 2 dX7_changedRow_77 rfl ?_
  refine z_callV (pc := 78) C (c_X6_rowAt) [2, 3, 4, 5] z00 mV_X6_rowAt q_606 dX7_changedRow_78 rfl rfl rfl 2 rfl rfl rfl rfl (Nat.le_of_ble_eq_true rfl) (by decide) (pI.stay rfl ?_)
  refine z_aload_n (pc := 81) C 0 dX7_changedRow_81 rfl ?_
  refine z_iload_n (pc := 82) C 1 dX7_changedRow_82 rfl ?_
  refine z_iload_n (pc := 83) C 2 dX7_changedRow_83 rfl ?_
  refine z_callV (pc := 84) C (c_X7_thinnedRow) [0, 1, 2, 3, 4, 5] z00 mV_X7_thinnedRow q_627 dX7_changedRow_84 rfl rfl rfl 0 rfl rfl rfl rfl (Nat.le_of_ble_eq_true rfl) (by decide) (pI.stay rfl ?_)
  refine z_iconst (pc := 87) (v := (-1)) C dX7_changedRow_87 (by decide) ?_
  refine z_ixor (pc := 88) C dX7_changedRow_88 ?_
  refine z_iand (pc := 89) C dX7_changedRow_89 ?_
  exact z_iret (pc := 90) C E dX7_changedRow_90 (pI.mk (by simp only [f_X7_changedRow, if_neg c_1_0, if_neg c_1_1, if_neg c_1_2, if_neg c_1_3]) rfl)

def b_X7_becomesWhatComes_4 (comes : Nat → Int32) (t : Int32) (i_4 : Nat) (z_4 : Int32 × (Nat → Int32)) : Int32 × (Nat → Int32) := (z_4.1 + (f_X6_turnsDots t (nI i_4) ((f_X6_rowAt z_4.2 t (nI i_4)) ^^^ (comes (nI i_4).toNatClampNeg))), g_X6_turnsDots_rows z_4.2 t (nI i_4) ((f_X6_rowAt z_4.2 t (nI i_4)) ^^^ (comes (nI i_4).toNatClampNeg)))
def s_X7_becomesWhatComes_4 (comes : Nat → Int32) (rows : Nat → Int32) (t : Int32) : Nat → Int32 × (Nat → Int32)
  | 0 => (0, rows)
  | i_4 + 1 => b_X7_becomesWhatComes_4 comes t i_4 (s_X7_becomesWhatComes_4 comes rows t i_4)
def f_X7_becomesWhatComes (comes : Nat → Int32) (rows : Nat → Int32) (t : Int32) : Int32 := (s_X7_becomesWhatComes_4 comes rows t 24).1
def g_X7_becomesWhatComes_rows (comes : Nat → Int32) (rows : Nat → Int32) (t : Int32) : Nat → Int32 := (s_X7_becomesWhatComes_4 comes rows t 24).2
set_option maxRecDepth 100000 in
theorem c_X7_becomesWhatComes {l : Launch} {G : zG} {ho hm so sr sp sq : Nat} {comes : Nat → Int32} {rows : Nat → Int32} {pat : Nat → Int32} {ops : Nat → Int32} {cnt : Int32} {t : Int32} : Ct l G yX7_becomesWhatComes cX7_becomesWhatComes 4 (Option.some FieldType.int) 3 65 [.ref ho, .int t] (wWh G ho hm so comes ++ wSc G so sr sp sq rows pat ops cnt) (pI (f_X7_becomesWhatComes comes rows t) (wWh G ho hm so comes ++ wSc G so sr sp sq (g_X7_becomesWhatComes_rows comes rows t) pat ops cnt)) := by
  refine Ct.of (plainFor_of_name (by decide)) (Nat.le_of_ble_eq_true rfl) (pI.ad (ad_app ad_Wh ad_Sc)) (fun X C E => ?_)
  show Z X G 4 0 0 _ 0 [(0, .ref ho), (1, .int t)] []
  refine z_iconst (pc := 0) (v := 0) C dX7_becomesWhatComes_0 (by decide) ?_
  refine z_istore_n (pc := 1) [(2, _), (0, _), (1, _)] C dX7_becomesWhatComes_1 rfl (by decide) rfl ?_
  refine z_iconst (pc := 2) (v := 0) C dX7_becomesWhatComes_2 (by decide) ?_
  refine z_istore_n (pc := 3) [(3, _), (2, _), (0, _), (1, _)] C dX7_becomesWhatComes_3 rfl (by decide) rfl ?_
  refine z_lv (lv' := [(0, _), (1, _), (2, _), (3, _)]) [2, 3, 1, 0] rfl ?_
  refine z_loop (pc := 4) (e := 24) (fun i_4 => wWh G ho hm so comes ++ wSc G so sr sp sq ((s_X7_becomesWhatComes_4 comes rows t i_4).2) pat ops cnt) (fun i_4 => [(0, .ref ho), (1, .int t), (2, .int ((s_X7_becomesWhatComes_4 comes rows t i_4).1)), (3, .int (nI i_4))]) [] (fun i_4 hi_4 ih_4 => ?_) ?_ 0 (Nat.zero_le _)
  · show Z X G 4 0 0 (wWh G ho hm so comes ++ wSc G so sr sp sq ((s_X7_becomesWhatComes_4 comes rows t i_4).2) pat ops cnt) 4 [(0, .ref ho), (1, .int t), (2, .int ((s_X7_becomesWhatComes_4 comes rows t i_4).1)), (3, .int (nI i_4))] []
    generalize hz_4 : s_X7_becomesWhatComes_4 comes rows t i_4 = z_4
    refine z_iload_n (pc := 4) C 3 dX7_becomesWhatComes_4 rfl ?_
    refine z_bipush (pc := 5) (v := 24) C dX7_becomesWhatComes_5 (by decide) ?_
    refine z_icmp_ge (pc := 7) 44 C dX7_becomesWhatComes_7 (by decide) (fun c_7 => ?_) (fun c_7 => ?_)
    · skip
      exact absurd c_7 (nI_ge (b := 24) (by omega) (by decide))
    · skip
      refine z_iload_n (pc := 10) C 2 dX7_becomesWhatComes_10 rfl ?_
      refine z_aload_n (pc := 11) C 0 dX7_becomesWhatComes_11 rfl ?_
      refine z_get (pc := 12) C 0 0 dX7_becomesWhatComes_12 rfl rfl i_X7 (by decide) q_181 rfl ?_
      refine z_iload_n (pc := 15) C 1 dX7_becomesWhatComes_15 rfl ?_
      refine z_iload_n (pc := 16) C 3 dX7_becomesWhatComes_16 rfl ?_
      refine z_aload_n (pc := 17) C 0 dX7_becomesWhatComes_17 rfl ?_
      refine z_get (pc := 18) C 0 0 dX7_becomesWhatComes_18 rfl rfl i_X7 (by decide) q_181 rfl ?_
      refine z_iload_n (pc := 21) C 1 dX7_becomesWhatComes_21 rfl ?_
      refine z_iload_n (pc := 22) C 3 dX7_becomesWhatComes_22 rfl ?_
      refine z_callV (pc := 23) C (c_X6_rowAt) [2, 3, 4, 5] z00 mV_X6_rowAt q_606 dX7_becomesWhatComes_23 rfl rfl rfl 2 rfl rfl rfl rfl (Nat.le_of_ble_eq_true rfl) (by decide) (pI.stay rfl ?_)
      refine z_aload_n (pc := 26) C 0 dX7_becomesWhatComes_26 rfl ?_
      refine z_get (pc := 27) C 0 1 dX7_becomesWhatComes_27 rfl rfl i_X7 (by decide) q_182 rfl ?_
      refine z_iload_n (pc := 30) C 3 dX7_becomesWhatComes_30 rfl ?_
      refine z_iald (pc := 31) C 1 dX7_becomesWhatComes_31 rfl (ix_nI hi_4 (by decide)) ?_
      refine z_ixor (pc := 32) C dX7_becomesWhatComes_32 ?_
      refine z_callV (pc := 33) C (c_X6_turnsDots) [2, 3, 4, 5] z00 mV_X6_turnsDots q_635 dX7_becomesWhatComes_33 rfl rfl rfl 2 rfl rfl rfl rfl (Nat.le_of_ble_eq_true rfl) (by decide) (pI.go (ws' := wWh G ho hm so comes ++ wSc G so sr sp sq _ pat ops cnt) rfl ?_)
      refine z_iadd (pc := 36) C dX7_becomesWhatComes_36 ?_
      refine z_istore_n (pc := 37) [(2, _), (0, _), (1, _), (3, _)] C dX7_becomesWhatComes_37 rfl (by decide) rfl ?_
      refine z_iinc (pc := 38) (v := nI (i_4 + 1)) [(3, _), (2, _), (0, _), (1, _)] C 3 dX7_becomesWhatComes_38 rfl ((nI_succ _).symm) (by decide) rfl ?_
      refine z_goto (pc := 41) 4 C dX7_becomesWhatComes_41 (by decide) ?_
      refine z_lv (lv' := [(0, _), (1, _), (2, _), (3, _)]) [2, 3, 1, 0] rfl ?_
      exact z_eq (by simp only [s_X7_becomesWhatComes_4, hz_4, b_X7_becomesWhatComes_4]) (by simp only [s_X7_becomesWhatComes_4, hz_4, b_X7_becomesWhatComes_4]) rfl ih_4
  · show Z X G 4 0 0 (wWh G ho hm so comes ++ wSc G so sr sp sq ((s_X7_becomesWhatComes_4 comes rows t 24).2) pat ops cnt) 4 [(0, .ref ho), (1, .int t), (2, .int ((s_X7_becomesWhatComes_4 comes rows t 24).1)), (3, .int (nI 24))] []
    refine z_iload_n (pc := 4) C 3 dX7_becomesWhatComes_4 rfl ?_
    refine z_bipush (pc := 5) (v := 24) C dX7_becomesWhatComes_5 (by decide) ?_
    refine z_icmp_ge (pc := 7) 44 C dX7_becomesWhatComes_7 (by decide) (fun c_7 => ?_) (fun c_7 => ?_)
    · skip
      refine z_iload_n (pc := 44) C 2 dX7_becomesWhatComes_44 rfl ?_
      exact z_iret (pc := 45) C E dX7_becomesWhatComes_45 (pI.mk rfl rfl)
    · skip
      exact absurd (nI_le (Nat.le_refl 24) (by decide)) c_7

def b_X7_changed_2 (rows : Nat → Int32) (t : Int32) (way : Int32) (i_2 : Nat) (z_2 : (Nat → Int32)) : (Nat → Int32) := upd z_2 (nI i_2).toNatClampNeg (f_X7_changedRow rows t (nI i_2) way)
def s_X7_changed_2 (comes : Nat → Int32) (rows : Nat → Int32) (t : Int32) (way : Int32) : Nat → (Nat → Int32)
  | 0 => comes
  | i_2 + 1 => b_X7_changed_2 rows t way i_2 (s_X7_changed_2 comes rows t way i_2)
def f_X7_changed (comes : Nat → Int32) (rows : Nat → Int32) (t : Int32) (way : Int32) : Int32 := f_X7_becomesWhatComes (s_X7_changed_2 comes rows t way 24) rows t
def g_X7_changed_comes (comes : Nat → Int32) (rows : Nat → Int32) (t : Int32) (way : Int32) : Nat → Int32 := (s_X7_changed_2 comes rows t way 24)
def g_X7_changed_rows (comes : Nat → Int32) (rows : Nat → Int32) (t : Int32) (way : Int32) : Nat → Int32 := g_X7_becomesWhatComes_rows (s_X7_changed_2 comes rows t way 24) rows t
set_option maxRecDepth 100000 in
theorem c_X7_changed {l : Launch} {G : zG} {ho hm so sr sp sq : Nat} {comes : Nat → Int32} {rows : Nat → Int32} {pat : Nat → Int32} {ops : Nat → Int32} {cnt : Int32} {t : Int32} {way : Int32} : Ct l G yX7_changed cX7_changed 4 (Option.some FieldType.int) 5 110 [.ref ho, .int t, .int way] (wWh G ho hm so comes ++ wSc G so sr sp sq rows pat ops cnt) (pI (f_X7_changed comes rows t way) (wWh G ho hm so (g_X7_changed_comes comes rows t way) ++ wSc G so sr sp sq (g_X7_changed_rows comes rows t way) pat ops cnt)) := by
  refine Ct.of (plainFor_of_name (by decide)) (Nat.le_of_ble_eq_true rfl) (pI.ad (ad_app ad_Wh ad_Sc)) (fun X C E => ?_)
  show Z X G 4 0 0 _ 0 [(0, .ref ho), (1, .int t), (2, .int way)] []
  refine z_iconst (pc := 0) (v := 0) C dX7_changed_0 (by decide) ?_
  refine z_istore_n (pc := 1) [(3, _), (0, _), (1, _), (2, _)] C dX7_changed_1 rfl (by decide) rfl ?_
  refine z_lv (lv' := [(0, _), (1, _), (2, _), (3, _)]) [1, 2, 3, 0] rfl ?_
  refine z_loop (pc := 2) (e := 24) (fun i_2 => wWh G ho hm so (s_X7_changed_2 comes rows t way i_2) ++ wSc G so sr sp sq rows pat ops cnt) (fun i_2 => [(0, .ref ho), (1, .int t), (2, .int way), (3, .int (nI i_2))]) [] (fun i_2 hi_2 ih_2 => ?_) ?_ 0 (Nat.zero_le _)
  · show Z X G 4 0 0 (wWh G ho hm so (s_X7_changed_2 comes rows t way i_2) ++ wSc G so sr sp sq rows pat ops cnt) 2 [(0, .ref ho), (1, .int t), (2, .int way), (3, .int (nI i_2))] []
    generalize hz_2 : s_X7_changed_2 comes rows t way i_2 = z_2
    refine z_iload_n (pc := 2) C 3 dX7_changed_2 rfl ?_
    refine z_bipush (pc := 3) (v := 24) C dX7_changed_3 (by decide) ?_
    refine z_icmp_ge (pc := 5) 27 C dX7_changed_5 (by decide) (fun c_5 => ?_) (fun c_5 => ?_)
    · skip
      exact absurd c_5 (nI_ge (b := 24) (by omega) (by decide))
    · skip
      refine z_aload_n (pc := 8) C 0 dX7_changed_8 rfl ?_
      refine z_get (pc := 9) C 0 1 dX7_changed_9 rfl rfl i_X7 (by decide) q_182 rfl ?_
      refine z_iload_n (pc := 12) C 3 dX7_changed_12 rfl ?_
      refine z_aload_n (pc := 13) C 0 dX7_changed_13 rfl ?_
      refine z_iload_n (pc := 14) C 1 dX7_changed_14 rfl ?_
      refine z_iload_n (pc := 15) C 3 dX7_changed_15 rfl ?_
      refine z_iload_n (pc := 16) C 2 dX7_changed_16 rfl ?_
      refine z_callV (pc := 17) C (c_X7_changedRow) [0, 1, 2, 3, 4, 5] z00 mV_X7_changedRow q_616 dX7_changed_17 rfl rfl rfl 0 rfl rfl rfl rfl (Nat.le_of_ble_eq_true rfl) (by decide) (pI.stay rfl ?_)
      refine z_iast (pc := 20) (wWh G ho hm so _ ++ wSc G so sr sp sq rows pat ops cnt) C 1 dX7_changed_20 rfl (ix_nI hi_2 (by decide)) rfl ?_
      refine z_iinc (pc := 21) (v := nI (i_2 + 1)) [(3, _), (0, _), (1, _), (2, _)] C 3 dX7_changed_21 rfl ((nI_succ _).symm) (by decide) rfl ?_
      refine z_goto (pc := 24) 2 C dX7_changed_24 (by decide) ?_
      refine z_lv (lv' := [(0, _), (1, _), (2, _), (3, _)]) [1, 2, 3, 0] rfl ?_
      exact z_eq (by simp only [s_X7_changed_2, hz_2, b_X7_changed_2]) rfl rfl ih_2
  · show Z X G 4 0 0 (wWh G ho hm so (s_X7_changed_2 comes rows t way 24) ++ wSc G so sr sp sq rows pat ops cnt) 2 [(0, .ref ho), (1, .int t), (2, .int way), (3, .int (nI 24))] []
    refine z_iload_n (pc := 2) C 3 dX7_changed_2 rfl ?_
    refine z_bipush (pc := 3) (v := 24) C dX7_changed_3 (by decide) ?_
    refine z_icmp_ge (pc := 5) 27 C dX7_changed_5 (by decide) (fun c_5 => ?_) (fun c_5 => ?_)
    · skip
      refine z_aload_n (pc := 27) C 0 dX7_changed_27 rfl ?_
      refine z_iload_n (pc := 28) C 1 dX7_changed_28 rfl ?_
      refine z_callV (pc := 29) C (c_X7_becomesWhatComes) [0, 1, 2, 3, 4, 5] z00 mV_X7_becomesWhatComes q_631 dX7_changed_29 rfl rfl rfl 0 rfl rfl rfl rfl (Nat.le_of_ble_eq_true rfl) (by decide) (pI.go (ws' := wWh G ho hm so _ ++ wSc G so sr sp sq _ pat ops cnt) rfl ?_)
      exact z_iret (pc := 32) C E dX7_changed_32 (pI.mk rfl rfl)
    · skip
      exact absurd (nI_le (Nat.le_refl 24) (by decide)) c_5

def b_X7_rolled_3 (rows : Nat → Int32) (t : Int32) (x : Int32) (y : Int32) (i_3 : Nat) (z_3 : (Nat → Int32)) : (Nat → Int32) := upd z_3 (nI i_3).toNatClampNeg ((f_X8_shifted (f_X6_rowAt rows t (f_J9_floorMod_7cf53 ((nI i_3) - y) 24)) (f_J9_floorMod_7cf53 x 32)) ||| (f_X8_shifted (f_X6_rowAt rows t (f_J9_floorMod_7cf53 ((nI i_3) - y) 24)) ((f_J9_floorMod_7cf53 x 32) - 32)))
def s_X7_rolled_3 (comes : Nat → Int32) (rows : Nat → Int32) (t : Int32) (x : Int32) (y : Int32) : Nat → (Nat → Int32)
  | 0 => comes
  | i_3 + 1 => b_X7_rolled_3 rows t x y i_3 (s_X7_rolled_3 comes rows t x y i_3)
def f_X7_rolled (comes : Nat → Int32) (rows : Nat → Int32) (t : Int32) (x : Int32) (y : Int32) : Int32 := f_X7_becomesWhatComes (s_X7_rolled_3 comes rows t x y 24) rows t
def g_X7_rolled_comes (comes : Nat → Int32) (rows : Nat → Int32) (t : Int32) (x : Int32) (y : Int32) : Nat → Int32 := (s_X7_rolled_3 comes rows t x y 24)
def g_X7_rolled_rows (comes : Nat → Int32) (rows : Nat → Int32) (t : Int32) (x : Int32) (y : Int32) : Nat → Int32 := g_X7_becomesWhatComes_rows (s_X7_rolled_3 comes rows t x y 24) rows t
set_option maxRecDepth 100000 in
theorem c_X7_rolled {l : Launch} {G : zG} {ho hm so sr sp sq : Nat} {comes : Nat → Int32} {rows : Nat → Int32} {pat : Nat → Int32} {ops : Nat → Int32} {cnt : Int32} {t : Int32} {x : Int32} {y : Int32} : Ct l G yX7_rolled cX7_rolled 7 (Option.some FieldType.int) 4 88 [.ref ho, .int t, .int x, .int y] (wWh G ho hm so comes ++ wSc G so sr sp sq rows pat ops cnt) (pI (f_X7_rolled comes rows t x y) (wWh G ho hm so (g_X7_rolled_comes comes rows t x y) ++ wSc G so sr sp sq (g_X7_rolled_rows comes rows t x y) pat ops cnt)) := by
  refine Ct.of (plainFor_of_name (by decide)) (Nat.le_of_ble_eq_true rfl) (pI.ad (ad_app ad_Wh ad_Sc)) (fun X C E => ?_)
  show Z X G 7 0 0 _ 0 [(0, .ref ho), (1, .int t), (2, .int x), (3, .int y)] []
  refine z_iconst (pc := 0) (v := 0) C dX7_rolled_0 (by decide) ?_
  refine z_istore (pc := 1) [(4, _), (0, _), (1, _), (2, _), (3, _)] C dX7_rolled_1 (by decide) rfl ?_
  refine z_lv (lv' := [(0, _), (1, _), (2, _), (3, _), (4, _)]) [1, 2, 3, 4, 0] rfl ?_
  refine z_loop (pc := 3) (e := 24) (fun i_3 => wWh G ho hm so (s_X7_rolled_3 comes rows t x y i_3) ++ wSc G so sr sp sq rows pat ops cnt) (fun i_3 => [(0, .ref ho), (1, .int t), (2, .int x), (3, .int y), (4, .int (nI i_3))]) [] (fun i_3 hi_3 ih_3 => ?_) ?_ 0 (Nat.zero_le _)
  · show Z X G 7 0 0 (wWh G ho hm so (s_X7_rolled_3 comes rows t x y i_3) ++ wSc G so sr sp sq rows pat ops cnt) 3 [(0, .ref ho), (1, .int t), (2, .int x), (3, .int y), (4, .int (nI i_3))] []
    generalize hz_3 : s_X7_rolled_3 comes rows t x y i_3 = z_3
    refine z_iload (pc := 3) C 4 dX7_rolled_3 rfl ?_
    refine z_bipush (pc := 5) (v := 24) C dX7_rolled_5 (by decide) ?_
    refine z_icmp_ge (pc := 7) 68 C dX7_rolled_7 (by decide) (fun c_7 => ?_) (fun c_7 => ?_)
    · skip
      exact absurd c_7 (nI_ge (b := 24) (by omega) (by decide))
    · skip
      refine z_aload_n (pc := 10) C 0 dX7_rolled_10 rfl ?_
      refine z_get (pc := 11) C 0 0 dX7_rolled_11 rfl rfl i_X7 (by decide) q_181 rfl ?_
      refine z_iload_n (pc := 14) C 1 dX7_rolled_14 rfl ?_
      refine z_iload (pc := 15) C 4 dX7_rolled_15 rfl ?_
      refine z_iload_n (pc := 17) C 3 dX7_rolled_17 rfl ?_
      refine z_isub (pc := 18) C dX7_rolled_18 ?_
      refine z_bipush (pc := 19) (v := 24) C dX7_rolled_19 (by decide) ?_
      refine z_callS (pc := 21) C (c_J9_floorMod_7cf53 (by decide)) [] z00 mS_J9_floorMod_7cf53 q_644 dX7_rolled_21 rfl rfl rfl rfl (Nat.le_of_ble_eq_true rfl) (by decide) (pI.stay rfl ?_)
      refine z_callV (pc := 24) C (c_X6_rowAt) [2, 3, 4, 5] z00 mV_X6_rowAt q_606 dX7_rolled_24 rfl rfl rfl 2 rfl rfl rfl rfl (Nat.le_of_ble_eq_true rfl) (by decide) (pI.stay rfl ?_)
      refine z_istore (pc := 27) [(5, _), (0, _), (1, _), (2, _), (3, _), (4, _)] C dX7_rolled_27 (by decide) rfl ?_
      refine z_iload_n (pc := 29) C 3 dX7_rolled_29 rfl ?_
      refine z_bipush (pc := 30) (v := 32) C dX7_rolled_30 (by decide) ?_
      refine z_callS (pc := 32) C (c_J9_floorMod_7cf53 (by decide)) [] z00 mS_J9_floorMod_7cf53 q_644 dX7_rolled_32 rfl rfl rfl rfl (Nat.le_of_ble_eq_true rfl) (by decide) (pI.stay rfl ?_)
      refine z_istore (pc := 35) [(6, _), (5, _), (0, _), (1, _), (2, _), (3, _), (4, _)] C dX7_rolled_35 (by decide) rfl ?_
      refine z_aload_n (pc := 37) C 2 dX7_rolled_37 rfl ?_
      refine z_get (pc := 38) C 0 1 dX7_rolled_38 rfl rfl i_X7 (by decide) q_182 rfl ?_
      refine z_iload (pc := 41) C 6 dX7_rolled_41 rfl ?_
      refine z_iload (pc := 43) C 1 dX7_rolled_43 rfl ?_
      refine z_iload (pc := 45) C 0 dX7_rolled_45 rfl ?_
      refine z_callSN (pc := 47) C (c_X8_shifted) [] z00 mS_X8_shifted q_647 dX7_rolled_47 rfl rfl rfl rfl (Nat.le_of_ble_eq_true rfl) (by decide) (pI.stay rfl ?_)
      refine z_iload (pc := 50) C 1 dX7_rolled_50 rfl ?_
      refine z_iload (pc := 52) C 0 dX7_rolled_52 rfl ?_
      refine z_bipush (pc := 54) (v := 32) C dX7_rolled_54 (by decide) ?_
      refine z_isub (pc := 56) C dX7_rolled_56 ?_
      refine z_callSN (pc := 57) C (c_X8_shifted) [] z00 mS_X8_shifted q_647 dX7_rolled_57 rfl rfl rfl rfl (Nat.le_of_ble_eq_true rfl) (by decide) (pI.stay rfl ?_)
      refine z_ior (pc := 60) C dX7_rolled_60 ?_
      refine z_iast (pc := 61) (wWh G ho hm so _ ++ wSc G so sr sp sq rows pat ops cnt) C 1 dX7_rolled_61 rfl (ix_nI hi_3 (by decide)) rfl ?_
      refine z_iinc (pc := 62) (v := nI (i_3 + 1)) [(4, _), (6, _), (5, _), (0, _), (1, _), (2, _), (3, _)] C 6 dX7_rolled_62 rfl ((nI_succ _).symm) (by decide) rfl ?_
      refine z_goto (pc := 65) 3 C dX7_rolled_65 (by decide) ?_
      refine z_lv (lv' := [(0, _), (1, _), (2, _), (3, _), (4, _)]) [3, 4, 5, 6, 0] rfl ?_
      exact z_eq (by simp only [s_X7_rolled_3, hz_3, b_X7_rolled_3]) rfl rfl ih_3
  · show Z X G 7 0 0 (wWh G ho hm so (s_X7_rolled_3 comes rows t x y 24) ++ wSc G so sr sp sq rows pat ops cnt) 3 [(0, .ref ho), (1, .int t), (2, .int x), (3, .int y), (4, .int (nI 24))] []
    refine z_iload (pc := 3) C 4 dX7_rolled_3 rfl ?_
    refine z_bipush (pc := 5) (v := 24) C dX7_rolled_5 (by decide) ?_
    refine z_icmp_ge (pc := 7) 68 C dX7_rolled_7 (by decide) (fun c_7 => ?_) (fun c_7 => ?_)
    · skip
      refine z_aload_n (pc := 68) C 0 dX7_rolled_68 rfl ?_
      refine z_iload_n (pc := 69) C 1 dX7_rolled_69 rfl ?_
      refine z_callV (pc := 70) C (c_X7_becomesWhatComes) [0, 1, 2, 3, 4, 5] z00 mV_X7_becomesWhatComes q_631 dX7_rolled_70 rfl rfl rfl 0 rfl rfl rfl rfl (Nat.le_of_ble_eq_true rfl) (by decide) (pI.go (ws' := wWh G ho hm so _ ++ wSc G so sr sp sq _ pat ops cnt) rfl ?_)
      exact z_iret (pc := 73) C E dX7_rolled_73 (pI.mk rfl rfl)
    · skip
      exact absurd (nI_le (Nat.le_refl 24) (by decide)) c_7
