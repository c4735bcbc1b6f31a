theorem tP_rn0 {bytes : Nat → Int32} {len : Int32} : ∀ (n i : Nat) (z : Int32 × Int32 × Int32), tP len z.2.2 → tP len (r_X2_readsNumber_33 bytes len n i z).2.2
  | 0, i, z, h => h
  | n + 1, i, z, h => by
    unfold r_X2_readsNumber_33
    split
    · exact h
    · exact tP_rn0 n (i + 1) _ (tP_up h (bh_dig h (by assumption))).1
theorem tP_rn {bytes : Nat → Int32} {len place : Int32} (h : tP len place) : tP len (g_X2_readsNumber_place bytes len place) := tP_rn0 _ _ _ (tP_neg h)
theorem sign_bh {bytes : Nat → Int32} {len place : Int32} (h : tP len place) (h2 : ¬ f_X1_isSign (f_X2_byteHere bytes len place) = 0) : ¬ len ≤ place := bh_lt h (fun q => h2 (by rw [q]; decide))
theorem sLn_lt {k : Nat} : sLn.getD k 0 < 2 ^ 31 := by
  have : ∀ i, i < 7 → sLn.getD i 0 < 2 ^ 31 := by decide
  by_cases h : k < 7
  · exact this k h
  · have : sLn.getD k 0 = 0 := by
      rw [List.getD_eq_getElem?_getD, List.getElem?_eq_none (by show 7 ≤ k; omega)]; rfl
    omega
theorem tP_end {bytes : Nat → Int32} {len place : Int32} (h : tP len place) : tP len (g_X2_isAtEnd_place bytes len place) := tP_skip h

def f_X2_openingsAfter (sign : Int32) (openings : Int32) : Int32 := if sign = 107 then 0 else if sign = 111 then openings + 1 else openings
set_option maxRecDepth 100000 in
theorem c_X2_openingsAfter {l : Launch} {G : zG} {oo on : Nat} {nums : Nat → Int32} {sign : Int32} {kix : Nat} {osz : Int32} {aw : Int32} {openings : Int32} : Ct l G yX2_openingsAfter cX2_openingsAfter 2 (Option.some FieldType.int) 0 0 [.ref oo, .int openings] (wOr G oo on nums sign kix osz aw) (pI (f_X2_openingsAfter sign openings) (wOr G oo on nums sign kix osz aw)) := by
  refine Ct.of (plainFor_of_name (by decide)) (Nat.le_of_ble_eq_true rfl) (pI.ad ad_Or) (fun X C E => ?_)
  show Z X G 2 0 0 _ 0 [(0, .ref oo), (1, .int openings)] []
  refine z_aload_n (pc := 0) C 0 dX2_openingsAfter_0 rfl ?_
  refine z_get (pc := 1) C 0 1 dX2_openingsAfter_1 rfl rfl i_X1 (by decide) q_214 rfl ?_
  by_cases c_4_107 : sign = 107
  · skip
    refine z_lookup (pc := 4) (off := 32) 36 C dX2_openingsAfter_4 (by decide) (by rw [c_4_107] <;> rfl) (by decide) ?_
    refine z_iconst (pc := 36) (v := 0) C dX2_openingsAfter_36 (by decide) ?_
    exact z_iret (pc := 37) C E dX2_openingsAfter_37 (pI.mk (by simp only [f_X2_openingsAfter, if_pos c_4_107]) rfl)
  by_cases c_4_111 : sign = 111
  · skip
    refine z_lookup (pc := 4) (off := 28) 32 C dX2_openingsAfter_4 (by decide) (by rw [c_4_111] <;> rfl) (by decide) ?_
    refine z_iload_n (pc := 32) C 1 dX2_openingsAfter_32 rfl ?_
    refine z_iconst (pc := 33) (v := 1) C dX2_openingsAfter_33 (by decide) ?_
    refine z_iadd (pc := 34) C dX2_openingsAfter_34 ?_
    exact z_iret (pc := 35) C E dX2_openingsAfter_35 (pI.mk (by simp only [f_X2_openingsAfter, if_neg c_4_107, if_pos c_4_111]) rfl)
  refine z_lookup (pc := 4) (off := 34) 38 C dX2_openingsAfter_4 (by decide) (by refine (lv_osw c_4_107 rfl).trans ?_; refine (lv_osw c_4_111 rfl).trans ?_; rfl) (by decide) ?_
  refine z_iload_n (pc := 38) C 1 dX2_openingsAfter_38 rfl ?_
  exact z_iret (pc := 39) C E dX2_openingsAfter_39 (pI.mk (by simp only [f_X2_openingsAfter, if_neg c_4_107, if_neg c_4_111]) rfl)

def r_X2_reads_38 (bytes : Nat → Int32) (len : Int32) (place : Int32) : Nat → Nat → (Int32 × Int32 × (Nat → Int32) × Int32 × Int32) → Int32 × Int32 × Int32 × (Nat → Int32) × Int32 × Nat × Int32 × Int32
  | 0, i_38, z_38 => if (f_X2_byteHere bytes len (g_X2_skipsBlanks_place bytes len z_38.1)) = 59 then ((-1), (g_X2_skipsBlanks_place bytes len z_38.1) + 1, z_38.2.1, z_38.2.2.1, g_X1_begins_sign (f_X2_byteHere bytes len (g_X2_skipsBlanks_place bytes len place)), g_X1_begins_kix (f_X2_byteHere bytes len (g_X2_skipsBlanks_place bytes len place)), z_38.2.2.2.1, z_38.2.2.2.2) else (g_X2_skipsBlanks_place bytes len z_38.1, g_X2_skipsBlanks_place bytes len z_38.1, z_38.2.1, z_38.2.2.1, g_X1_begins_sign (f_X2_byteHere bytes len (g_X2_skipsBlanks_place bytes len place)), g_X1_begins_kix (f_X2_byteHere bytes len (g_X2_skipsBlanks_place bytes len place)), z_38.2.2.2.1, z_38.2.2.2.2)
  | n_38 + 1, i_38, z_38 => if (f_X2_readsNumber bytes len (g_X2_skipsBlanks_place bytes len z_38.1)) = 0 then (g_X2_skipsBlanks_place bytes len z_38.1, g_X2_readsNumber_place bytes len (g_X2_skipsBlanks_place bytes len z_38.1), g_X2_readsNumber_num bytes len (g_X2_skipsBlanks_place bytes len z_38.1), z_38.2.2.1, g_X1_begins_sign (f_X2_byteHere bytes len (g_X2_skipsBlanks_place bytes len place)), g_X1_begins_kix (f_X2_byteHere bytes len (g_X2_skipsBlanks_place bytes len place)), z_38.2.2.2.1, z_38.2.2.2.2) else if (g_X1_with_aw (g_X1_begins_kix (f_X2_byteHere bytes len (g_X2_skipsBlanks_place bytes len place))) z_38.2.2.2.1 z_38.2.2.2.2 (g_X2_readsNumber_num bytes len (g_X2_skipsBlanks_place bytes len z_38.1))) = 0 then (g_X2_skipsBlanks_place bytes len z_38.1, g_X2_readsNumber_place bytes len (g_X2_skipsBlanks_place bytes len z_38.1), g_X2_readsNumber_num bytes len (g_X2_skipsBlanks_place bytes len z_38.1), g_X1_with_nums z_38.2.2.1 (g_X1_begins_kix (f_X2_byteHere bytes len (g_X2_skipsBlanks_place bytes len place))) z_38.2.2.2.1 (g_X2_readsNumber_num bytes len (g_X2_skipsBlanks_place bytes len z_38.1)), g_X1_begins_sign (f_X2_byteHere bytes len (g_X2_skipsBlanks_place bytes len place)), g_X1_begins_kix (f_X2_byteHere bytes len (g_X2_skipsBlanks_place bytes len place)), g_X1_with_osz (g_X1_begins_kix (f_X2_byteHere bytes len (g_X2_skipsBlanks_place bytes len place))) z_38.2.2.2.1, g_X1_with_aw (g_X1_begins_kix (f_X2_byteHere bytes len (g_X2_skipsBlanks_place bytes len place))) z_38.2.2.2.1 z_38.2.2.2.2 (g_X2_readsNumber_num bytes len (g_X2_skipsBlanks_place bytes len z_38.1))) else r_X2_reads_38 bytes len place n_38 (i_38 + 1) (g_X2_readsNumber_place bytes len (g_X2_skipsBlanks_place bytes len z_38.1), g_X2_readsNumber_num bytes len (g_X2_skipsBlanks_place bytes len z_38.1), g_X1_with_nums z_38.2.2.1 (g_X1_begins_kix (f_X2_byteHere bytes len (g_X2_skipsBlanks_place bytes len place))) z_38.2.2.2.1 (g_X2_readsNumber_num bytes len (g_X2_skipsBlanks_place bytes len z_38.1)), g_X1_with_osz (g_X1_begins_kix (f_X2_byteHere bytes len (g_X2_skipsBlanks_place bytes len place))) z_38.2.2.2.1, g_X1_with_aw (g_X1_begins_kix (f_X2_byteHere bytes len (g_X2_skipsBlanks_place bytes len place))) z_38.2.2.2.1 z_38.2.2.2.2 (g_X2_readsNumber_num bytes len (g_X2_skipsBlanks_place bytes len z_38.1)))
def f_X2_reads (bytes : Nat → Int32) (len : Int32) (place : Int32) (num : Int32) (nums : Nat → Int32) : Int32 := if (f_X1_isSign (f_X2_byteHere bytes len (g_X2_skipsBlanks_place bytes len place))) = 0 then g_X2_skipsBlanks_place bytes len place else (r_X2_reads_38 bytes len place (sLn.getD (g_X1_begins_kix (f_X2_byteHere bytes len (g_X2_skipsBlanks_place bytes len place))) 0) 0 ((g_X2_skipsBlanks_place bytes len place) + 1, num, nums, g_X1_begins_osz, g_X1_begins_aw)).1
def g_X2_reads_place (bytes : Nat → Int32) (len : Int32) (place : Int32) (num : Int32) (nums : Nat → Int32) : Int32 := if (f_X1_isSign (f_X2_byteHere bytes len (g_X2_skipsBlanks_place bytes len place))) = 0 then g_X2_skipsBlanks_place bytes len place else (r_X2_reads_38 bytes len place (sLn.getD (g_X1_begins_kix (f_X2_byteHere bytes len (g_X2_skipsBlanks_place bytes len place))) 0) 0 ((g_X2_skipsBlanks_place bytes len place) + 1, num, nums, g_X1_begins_osz, g_X1_begins_aw)).2.1
def g_X2_reads_num (bytes : Nat → Int32) (len : Int32) (place : Int32) (num : Int32) (nums : Nat → Int32) : Int32 := if (f_X1_isSign (f_X2_byteHere bytes len (g_X2_skipsBlanks_place bytes len place))) = 0 then num else (r_X2_reads_38 bytes len place (sLn.getD (g_X1_begins_kix (f_X2_byteHere bytes len (g_X2_skipsBlanks_place bytes len place))) 0) 0 ((g_X2_skipsBlanks_place bytes len place) + 1, num, nums, g_X1_begins_osz, g_X1_begins_aw)).2.2.1
def g_X2_reads_nums (bytes : Nat → Int32) (len : Int32) (place : Int32) (num : Int32) (nums : Nat → Int32) : Nat → Int32 := if (f_X1_isSign (f_X2_byteHere bytes len (g_X2_skipsBlanks_place bytes len place))) = 0 then nums else (r_X2_reads_38 bytes len place (sLn.getD (g_X1_begins_kix (f_X2_byteHere bytes len (g_X2_skipsBlanks_place bytes len place))) 0) 0 ((g_X2_skipsBlanks_place bytes len place) + 1, num, nums, g_X1_begins_osz, g_X1_begins_aw)).2.2.2.1
def g_X2_reads_sign (bytes : Nat → Int32) (len : Int32) (place : Int32) (num : Int32) (nums : Nat → Int32) (sign : Int32) : Int32 := if (f_X1_isSign (f_X2_byteHere bytes len (g_X2_skipsBlanks_place bytes len place))) = 0 then sign else (r_X2_reads_38 bytes len place (sLn.getD (g_X1_begins_kix (f_X2_byteHere bytes len (g_X2_skipsBlanks_place bytes len place))) 0) 0 ((g_X2_skipsBlanks_place bytes len place) + 1, num, nums, g_X1_begins_osz, g_X1_begins_aw)).2.2.2.2.1
def g_X2_reads_kix (bytes : Nat → Int32) (len : Int32) (place : Int32) (num : Int32) (nums : Nat → Int32) (kix : Nat) : Nat := if (f_X1_isSign (f_X2_byteHere bytes len (g_X2_skipsBlanks_place bytes len place))) = 0 then kix else (r_X2_reads_38 bytes len place (sLn.getD (g_X1_begins_kix (f_X2_byteHere bytes len (g_X2_skipsBlanks_place bytes len place))) 0) 0 ((g_X2_skipsBlanks_place bytes len place) + 1, num, nums, g_X1_begins_osz, g_X1_begins_aw)).2.2.2.2.2.1
def g_X2_reads_osz (bytes : Nat → Int32) (len : Int32) (place : Int32) (num : Int32) (nums : Nat → Int32) (osz : Int32) : Int32 := if (f_X1_isSign (f_X2_byteHere bytes len (g_X2_skipsBlanks_place bytes len place))) = 0 then osz else (r_X2_reads_38 bytes len place (sLn.getD (g_X1_begins_kix (f_X2_byteHere bytes len (g_X2_skipsBlanks_place bytes len place))) 0) 0 ((g_X2_skipsBlanks_place bytes len place) + 1, num, nums, g_X1_begins_osz, g_X1_begins_aw)).2.2.2.2.2.2.1
def g_X2_reads_aw (bytes : Nat → Int32) (len : Int32) (place : Int32) (num : Int32) (nums : Nat → Int32) (aw : Int32) : Int32 := if (f_X1_isSign (f_X2_byteHere bytes len (g_X2_skipsBlanks_place bytes len place))) = 0 then aw else (r_X2_reads_38 bytes len place (sLn.getD (g_X1_begins_kix (f_X2_byteHere bytes len (g_X2_skipsBlanks_place bytes len place))) 0) 0 ((g_X2_skipsBlanks_place bytes len place) + 1, num, nums, g_X1_begins_osz, g_X1_begins_aw)).2.2.2.2.2.2.2
set_option maxRecDepth 100000 in
theorem c_X2_reads {l : Launch} {G : zG} {xo xb oo on : Nat} {bytes : Nat → Int32} {len : Int32} {place : Int32} {num : Int32} {nums : Nat → Int32} {sign : Int32} {kix : Nat} {osz : Int32} {aw : Int32} (hp : tP len place) : Ct l G yX2_reads cX2_reads 5 (Option.some FieldType.int) 5 106 [.ref xo, .ref oo] (wTx G xo xb bytes len place num ++ wOr G oo on nums sign kix osz aw) (pI (f_X2_reads bytes len place num nums) (wTx G xo xb bytes len (g_X2_reads_place bytes len place num nums) (g_X2_reads_num bytes len place num nums) ++ wOr G oo on (g_X2_reads_nums bytes len place num nums) (g_X2_reads_sign bytes len place num nums sign) (g_X2_reads_kix bytes len place num nums kix) (g_X2_reads_osz bytes len place num nums osz) (g_X2_reads_aw bytes len place num nums aw))) := by
  refine Ct.of (plainFor_of_name (by decide)) (Nat.le_of_ble_eq_true rfl) (pI.ad (ad_app ad_Tx ad_Or)) (fun X C E => ?_)
  show Z X G 5 0 0 _ 0 [(0, .ref xo), (1, .ref oo)] []
  refine z_aload_n (pc := 0) C 0 dX2_reads_0 rfl ?_
  refine z_callV (pc := 1) C (c_X2_skipsBlanks (by exact hp)) [0, 1] z00 mV_X2_skipsBlanks q_763 dX2_reads_1 rfl rfl rfl 0 rfl rfl rfl rfl (Nat.le_of_ble_eq_true rfl) (by decide) (pV.go (ws' := wTx G xo xb bytes len _ num ++ wOr G oo on nums sign kix osz aw) rfl ?_)
  refine z_aload_n (pc := 4) C 0 dX2_reads_4 rfl ?_
  refine z_callV (pc := 5) C (c_X2_byteHere (by exact hp.1)) [0, 1] z00 mV_X2_byteHere q_767 dX2_reads_5 rfl rfl rfl 0 rfl rfl rfl rfl (Nat.le_of_ble_eq_true rfl) (by decide) (pI.stay rfl ?_)
  refine z_istore_n (pc := 8) [(2, _), (0, _), (1, _)] C dX2_reads_8 rfl (by decide) rfl ?_
  refine z_iload_n (pc := 9) C 0 dX2_reads_9 rfl ?_
  refine z_callS (pc := 10) C (c_X1_isSign) [] z00 mS_X1_isSign q_776 dX2_reads_10 rfl rfl rfl rfl (Nat.le_of_ble_eq_true rfl) (by decide) (pI.stay rfl ?_)
  refine z_if_ne (pc := 13) 21 C dX2_reads_13 (by decide) (fun c_13 => ?_) (fun c_13 => ?_)
  · skip
    refine z_aload_n (pc := 21) C 2 dX2_reads_21 rfl ?_
    refine z_iload_n (pc := 22) C 0 dX2_reads_22 rfl ?_
    refine z_callV (pc := 23) C (c_X1_begins) [2, 3] z00 mV_X1_begins q_783 dX2_reads_23 rfl rfl rfl 2 rfl rfl rfl rfl (Nat.le_of_ble_eq_true rfl) (by decide) (pV.go (ws' := wTx G xo xb bytes len _ num ++ wOr G oo on nums _ _ _ _) rfl ?_)
    refine z_aload_n (pc := 26) C 1 dX2_reads_26 rfl ?_
    refine z_dup (pc := 27) C dX2_reads_27 rfl ?_
    refine z_get (pc := 28) C 0 2 dX2_reads_28 rfl rfl i_X2 (by decide) q_241 rfl ?_
    refine z_iconst (pc := 31) (v := 1) C dX2_reads_31 (by decide) ?_
    refine z_iadd (pc := 32) C dX2_reads_32 ?_
    refine z_put (pc := 33) (wTx G xo xb bytes len _ num ++ wOr G oo on nums _ _ _ _) C 0 2 dX2_reads_33 rfl rfl i_X2 tyX2_ok nmX2 (by decide) q_241 rfl rfl rfl rfl (Nat.le_of_ble_eq_true rfl) rfl ?_
    refine z_iconst (pc := 36) (v := 0) C dX2_reads_36 (by decide) ?_
    refine z_istore_n (pc := 37) [(3, _), (2, _), (0, _), (1, _)] C dX2_reads_37 rfl (by decide) rfl ?_
    refine z_lv (lv' := [(0, _), (1, _), (2, _), (3, _)]) [2, 3, 1, 0] rfl ?_
    have L_38 : ∀ (n_38 i_38 : Nat) (z_38 : Int32 × Int32 × (Nat → Int32) × Int32 × Int32), n_38 + i_38 = sLn.getD (g_X1_begins_kix (f_X2_byteHere bytes len (g_X2_skipsBlanks_place bytes len place))) 0 → (tP len z_38.1 ∧ oOk z_38.2.2.2.1) → r_X2_reads_38 bytes len place n_38 i_38 z_38 = r_X2_reads_38 bytes len place (sLn.getD (g_X1_begins_kix (f_X2_byteHere bytes len (g_X2_skipsBlanks_place bytes len place))) 0) 0 ((g_X2_skipsBlanks_place bytes len place) + 1, num, nums, g_X1_begins_osz, g_X1_begins_aw) → Z X G 5 0 0 (wTx G xo xb bytes len z_38.1 z_38.2.1 ++ wOr G oo on z_38.2.2.1 (g_X1_begins_sign (f_X2_byteHere bytes len (g_X2_skipsBlanks_place bytes len place))) (g_X1_begins_kix (f_X2_byteHere bytes len (g_X2_skipsBlanks_place bytes len place))) z_38.2.2.2.1 z_38.2.2.2.2) 38 [(0, .ref xo), (1, .ref oo), (2, .int (f_X2_byteHere bytes len (g_X2_skipsBlanks_place bytes len place))), (3, .int (nI i_38))] [] := by
      intro n_38
      induction n_38 with
      | zero =>
        intro i_38 z_38 hn_38 hI_38 hF_38
        obtain rfl : i_38 = sLn.getD (g_X1_begins_kix (f_X2_byteHere bytes len (g_X2_skipsBlanks_place bytes len place))) 0 := by omega
        refine z_iload_n (pc := 38) C 3 dX2_reads_38 rfl ?_
        refine z_aload_n (pc := 39) C 1 dX2_reads_39 rfl ?_
        refine z_get (pc := 40) C 2 2 dX2_reads_40 rfl rfl i_X1 (by decide) q_216 rfl ?_
        refine z_callStr (pc := 43) (i := g_X1_begins_kix (f_X2_byteHere bytes len (g_X2_skipsBlanks_place bytes len place))) C (by first | assumption | exact kind7 _) (c_J0_length_8abf5 (by exact (kind7 _))) z00 mV_J0_length_8abf5 q_784 dX2_reads_43 rfl rfl rfl (Nat.le_of_ble_eq_true rfl) (by decide) (pI.stay rfl ?_)
        refine z_icmp_ge (pc := 46) 89 C dX2_reads_46 (by decide) (fun c_46 => ?_) (fun c_46 => ?_)
        · skip
          refine z_aload_n (pc := 89) C 0 dX2_reads_89 rfl ?_
          refine z_callV (pc := 90) C (c_X2_skipsBlanks (by exact hI_38.1)) [0, 1] z00 mV_X2_skipsBlanks q_763 dX2_reads_90 rfl rfl rfl 0 rfl rfl rfl rfl (Nat.le_of_ble_eq_true rfl) (by decide) (pV.go (ws' := wTx G xo xb bytes len _ _ ++ wOr G oo on _ _ _ _ _) rfl ?_)
          refine z_aload_n (pc := 93) C 0 dX2_reads_93 rfl ?_
          refine z_callV (pc := 94) C (c_X2_byteHere (by exact hI_38.1.1)) [0, 1] z00 mV_X2_byteHere q_767 dX2_reads_94 rfl rfl rfl 0 rfl rfl rfl rfl (Nat.le_of_ble_eq_true rfl) (by decide) (pI.stay rfl ?_)
          refine z_bipush (pc := 97) (v := 59) C dX2_reads_97 (by decide) ?_
          refine z_icmp_eq (pc := 99) 107 C dX2_reads_99 (by decide) (fun c_99 => ?_) (fun c_99 => ?_)
          · skip
            refine z_aload_n (pc := 107) C 0 dX2_reads_107 rfl ?_
            refine z_dup (pc := 108) C dX2_reads_108 rfl ?_
            refine z_get (pc := 109) C 0 2 dX2_reads_109 rfl rfl i_X2 (by decide) q_241 rfl ?_
            refine z_iconst (pc := 112) (v := 1) C dX2_reads_112 (by decide) ?_
            refine z_iadd (pc := 113) C dX2_reads_113 ?_
            refine z_put (pc := 114) (wTx G xo xb bytes len _ _ ++ wOr G oo on _ _ _ _ _) C 0 2 dX2_reads_114 rfl rfl i_X2 tyX2_ok nmX2 (by decide) q_241 rfl rfl rfl rfl (Nat.le_of_ble_eq_true rfl) rfl ?_
            refine z_iconst (pc := 117) (v := (-1)) C dX2_reads_117 (by decide) ?_
            exact z_iret (pc := 118) C E dX2_reads_118 (pI.mk (by simp only [f_X2_reads, if_neg c_13]; rw [← hF_38]; simp only [r_X2_reads_38, if_pos c_99]) (by simp only [g_X2_reads_place, g_X2_reads_num, g_X2_reads_nums, g_X2_reads_sign, g_X2_reads_kix, g_X2_reads_osz, g_X2_reads_aw, if_neg c_13]; rw [← hF_38]; simp only [r_X2_reads_38, if_pos c_99]))
          · skip
            refine z_aload_n (pc := 102) C 0 dX2_reads_102 rfl ?_
            refine z_get (pc := 103) C 0 2 dX2_reads_103 rfl rfl i_X2 (by decide) q_241 rfl ?_
            exact z_iret (pc := 106) C E dX2_reads_106 (pI.mk (by simp only [f_X2_reads, if_neg c_13]; rw [← hF_38]; simp only [r_X2_reads_38, if_neg c_99]) (by simp only [g_X2_reads_place, g_X2_reads_num, g_X2_reads_nums, g_X2_reads_sign, g_X2_reads_kix, g_X2_reads_osz, g_X2_reads_aw, if_neg c_13]; rw [← hF_38]; simp only [r_X2_reads_38, if_neg c_99]))
        · skip
          exact absurd (lpx (rfl)) c_46
      | succ n_38 ih_38 =>
        intro i_38 z_38 hn_38 hI_38 hF_38
        have hi_38 : i_38 < sLn.getD (g_X1_begins_kix (f_X2_byteHere bytes len (g_X2_skipsBlanks_place bytes len place))) 0 := by omega
        refine z_iload_n (pc := 38) C 3 dX2_reads_38 rfl ?_
        refine z_aload_n (pc := 39) C 1 dX2_reads_39 rfl ?_
        refine z_get (pc := 40) C 2 2 dX2_reads_40 rfl rfl i_X1 (by decide) q_216 rfl ?_
        refine z_callStr (pc := 43) (i := g_X1_begins_kix (f_X2_byteHere bytes len (g_X2_skipsBlanks_place bytes len place))) C (by first | assumption | exact kind7 _) (c_J0_length_8abf5 (by exact (kind7 _))) z00 mV_J0_length_8abf5 q_784 dX2_reads_43 rfl rfl rfl (Nat.le_of_ble_eq_true rfl) (by decide) (pI.stay rfl ?_)
        refine z_icmp_ge (pc := 46) 89 C dX2_reads_46 (by decide) (fun c_46 => ?_) (fun c_46 => ?_)
        · skip
          exact absurd c_46 (lps (rfl) (by omega) (sLn_lt))
        · skip
          refine z_aload_n (pc := 49) C 0 dX2_reads_49 rfl ?_
          refine z_callV (pc := 50) C (c_X2_skipsBlanks (by exact hI_38.1)) [0, 1] z00 mV_X2_skipsBlanks q_763 dX2_reads_50 rfl rfl rfl 0 rfl rfl rfl rfl (Nat.le_of_ble_eq_true rfl) (by decide) (pV.go (ws' := wTx G xo xb bytes len _ _ ++ wOr G oo on _ _ _ _ _) rfl ?_)
          refine z_aload_n (pc := 53) C 0 dX2_reads_53 rfl ?_
          refine z_get (pc := 54) C 0 2 dX2_reads_54 rfl rfl i_X2 (by decide) q_241 rfl ?_
          refine z_istore (pc := 57) [(4, _), (0, _), (1, _), (2, _), (3, _)] C dX2_reads_57 (by decide) rfl ?_
          refine z_aload_n (pc := 59) C 1 dX2_reads_59 rfl ?_
          refine z_callV (pc := 60) C (c_X2_readsNumber (by exact (tP_skip hI_38.1))) [0, 1] z00 mV_X2_readsNumber q_785 dX2_reads_60 rfl rfl rfl 0 rfl rfl rfl rfl (Nat.le_of_ble_eq_true rfl) (by decide) (pI.go (ws' := wTx G xo xb bytes len _ _ ++ wOr G oo on _ _ _ _ _) rfl ?_)
          refine z_if_eq (pc := 63) 80 C dX2_reads_63 (by decide) (fun c_63 => ?_) (fun c_63 => ?_)
          · skip
            refine z_iload (pc := 80) C 0 dX2_reads_80 rfl ?_
            exact z_iret (pc := 82) C E dX2_reads_82 (pI.mk (by simp only [f_X2_reads, if_neg c_13]; rw [← hF_38]; simp only [r_X2_reads_38, if_pos c_63]) (by simp only [g_X2_reads_place, g_X2_reads_num, g_X2_reads_nums, g_X2_reads_sign, g_X2_reads_kix, g_X2_reads_osz, g_X2_reads_aw, if_neg c_13]; rw [← hF_38]; simp only [r_X2_reads_38, if_pos c_63]))
          · skip
            refine z_aload_n (pc := 66) C 2 dX2_reads_66 rfl ?_
            refine z_aload_n (pc := 67) C 1 dX2_reads_67 rfl ?_
            refine z_get (pc := 68) C 0 3 dX2_reads_68 rfl rfl i_X2 (by decide) q_242 rfl ?_
            refine z_callV (pc := 71) C (c_X1_with (by exact (kind7 _)) (by exact hI_38.2)) [2, 3] z00 mV_X1_with q_789 dX2_reads_71 rfl rfl rfl 2 rfl rfl rfl rfl (Nat.le_of_ble_eq_true rfl) (by decide) (pR.go (ws' := wTx G xo xb bytes len _ _ ++ wOr G oo on _ _ _ _ _) rfl ?_)
            refine z_get (pc := 74) C 2 4 dX2_reads_74 rfl rfl i_X1 (by decide) q_219 rfl ?_
            refine z_if_ne (pc := 77) 83 C dX2_reads_77 (by decide) (fun c_77 => ?_) (fun c_77 => ?_)
            · skip
              refine z_iinc (pc := 83) (v := nI (i_38 + 1)) [(3, _), (4, _), (0, _), (1, _), (2, _)] C 4 dX2_reads_83 rfl ((nI_succ _).symm) (by decide) rfl ?_
              refine z_goto (pc := 86) 38 C dX2_reads_86 (by decide) ?_
              refine z_lv (lv' := [(0, _), (1, _), (2, _), (3, _)]) [2, 3, 4, 0] rfl ?_
              have h9 := ih_38 (i_38 + 1) (g_X2_readsNumber_place bytes len (g_X2_skipsBlanks_place bytes len z_38.1), g_X2_readsNumber_num bytes len (g_X2_skipsBlanks_place bytes len z_38.1), g_X1_with_nums z_38.2.2.1 (g_X1_begins_kix (f_X2_byteHere bytes len (g_X2_skipsBlanks_place bytes len place))) z_38.2.2.2.1 (g_X2_readsNumber_num bytes len (g_X2_skipsBlanks_place bytes len z_38.1)), g_X1_with_osz (g_X1_begins_kix (f_X2_byteHere bytes len (g_X2_skipsBlanks_place bytes len place))) z_38.2.2.2.1, g_X1_with_aw (g_X1_begins_kix (f_X2_byteHere bytes len (g_X2_skipsBlanks_place bytes len place))) z_38.2.2.2.1 z_38.2.2.2.2 (g_X2_readsNumber_num bytes len (g_X2_skipsBlanks_place bytes len z_38.1))) (by omega) (by dsimp only; exact ⟨tP_rn (tP_skip hI_38.1), oOk_with hI_38.2⟩) (by rw [← hF_38]; simp only [r_X2_reads_38, if_neg c_63, if_neg c_77])
              dsimp only at h9
              exact h9
            · skip
              refine z_iload (pc := 80) C 0 dX2_reads_80 rfl ?_
              exact z_iret (pc := 82) C E dX2_reads_82 (pI.mk (by simp only [f_X2_reads, if_neg c_13]; rw [← hF_38]; simp only [r_X2_reads_38, if_neg c_63, if_pos c_77]) (by simp only [g_X2_reads_place, g_X2_reads_num, g_X2_reads_nums, g_X2_reads_sign, g_X2_reads_kix, g_X2_reads_osz, g_X2_reads_aw, if_neg c_13]; rw [← hF_38]; simp only [r_X2_reads_38, if_neg c_63, if_pos c_77]))
    have h9 := L_38 (sLn.getD (g_X1_begins_kix (f_X2_byteHere bytes len (g_X2_skipsBlanks_place bytes len place))) 0) 0 ((g_X2_skipsBlanks_place bytes len place) + 1, num, nums, g_X1_begins_osz, g_X1_begins_aw) (by omega) (by dsimp only; exact ⟨(tP_up (tP_skip hp) (sign_bh (tP_skip hp) c_13)).1, oOk_0⟩) rfl
    dsimp only at h9
    exact h9
  · skip
    refine z_aload_n (pc := 16) C 1 dX2_reads_16 rfl ?_
    refine z_get (pc := 17) C 0 2 dX2_reads_17 rfl rfl i_X2 (by decide) q_241 rfl ?_
    exact z_iret (pc := 20) C E dX2_reads_20 (pI.mk (by simp only [f_X2_reads, if_pos c_13]) (by simp only [g_X2_reads_place, g_X2_reads_num, g_X2_reads_nums, g_X2_reads_sign, g_X2_reads_kix, g_X2_reads_osz, g_X2_reads_aw, if_pos c_13]))

theorem tP_rd0 {bytes : Nat → Int32} {len place : Int32} : ∀ (n i : Nat) (z : Int32 × Int32 × (Nat → Int32) × Int32 × Int32), tP len z.1 → tP len (r_X2_reads_38 bytes len place n i z).2.1
  | 0, i, z, h => by
    unfold r_X2_reads_38
    split
    · rename_i q; dsimp only; exact (tP_up (tP_skip h) (bh_eq (tP_skip h) q (by decide))).1
    · dsimp only; exact tP_skip h
  | n + 1, i, z, h => by
    unfold r_X2_reads_38
    split
    · dsimp only; exact tP_rn (tP_skip h)
    · split
      · dsimp only; exact tP_rn (tP_skip h)
      · exact tP_rd0 n (i + 1) _ (by dsimp only; exact tP_rn (tP_skip h))
theorem tP_reads {bytes : Nat → Int32} {len place num : Int32} {nums : Nat → Int32} (h : tP len place) : tP len (g_X2_reads_place bytes len place num nums) := by
  unfold g_X2_reads_place
  split
  · exact tP_skip h
  · rename_i q; exact tP_rd0 _ _ _ (tP_up (tP_skip h) (sign_bh (tP_skip h) q)).1

def r_X2_faultIn_21 (bytes : Nat → Int32) (len : Int32) : Nat → Nat → (Int32 × Int32 × Int32 × (Nat → Int32) × Int32 × Nat × Int32 × Int32) → Int32 × Int32 × Int32 × (Nat → Int32) × Int32 × Nat × Int32 × Int32
  | 0, i_21, z_21 => ((-1), z_21.2.1, z_21.2.2.1, z_21.2.2.2.1, z_21.2.2.2.2.1, z_21.2.2.2.2.2.1, z_21.2.2.2.2.2.2.1, z_21.2.2.2.2.2.2.2)
  | n_21 + 1, i_21, z_21 => if (f_X2_isAtEnd bytes len z_21.2.1) = 0 then if (f_X2_byteHere bytes len (g_X2_isAtEnd_place bytes len z_21.2.1)) = 111 then if z_21.1 < 4 then if (f_X2_reads bytes len (g_X2_isAtEnd_place bytes len z_21.2.1) z_21.2.2.1 z_21.2.2.2.1) = (-1) then r_X2_faultIn_21 bytes len n_21 (i_21 + 1) (f_X2_openingsAfter (g_X2_reads_sign bytes len (g_X2_isAtEnd_place bytes len z_21.2.1) z_21.2.2.1 z_21.2.2.2.1 z_21.2.2.2.2.1) z_21.1, g_X2_reads_place bytes len (g_X2_isAtEnd_place bytes len z_21.2.1) z_21.2.2.1 z_21.2.2.2.1, g_X2_reads_num bytes len (g_X2_isAtEnd_place bytes len z_21.2.1) z_21.2.2.1 z_21.2.2.2.1, g_X2_reads_nums bytes len (g_X2_isAtEnd_place bytes len z_21.2.1) z_21.2.2.1 z_21.2.2.2.1, g_X2_reads_sign bytes len (g_X2_isAtEnd_place bytes len z_21.2.1) z_21.2.2.1 z_21.2.2.2.1 z_21.2.2.2.2.1, g_X2_reads_kix bytes len (g_X2_isAtEnd_place bytes len z_21.2.1) z_21.2.2.1 z_21.2.2.2.1 z_21.2.2.2.2.2.1, g_X2_reads_osz bytes len (g_X2_isAtEnd_place bytes len z_21.2.1) z_21.2.2.1 z_21.2.2.2.1 z_21.2.2.2.2.2.2.1, g_X2_reads_aw bytes len (g_X2_isAtEnd_place bytes len z_21.2.1) z_21.2.2.1 z_21.2.2.2.1 z_21.2.2.2.2.2.2.2) else (f_X2_reads bytes len (g_X2_isAtEnd_place bytes len z_21.2.1) z_21.2.2.1 z_21.2.2.2.1, g_X2_reads_place bytes len (g_X2_isAtEnd_place bytes len z_21.2.1) z_21.2.2.1 z_21.2.2.2.1, g_X2_reads_num bytes len (g_X2_isAtEnd_place bytes len z_21.2.1) z_21.2.2.1 z_21.2.2.2.1, g_X2_reads_nums bytes len (g_X2_isAtEnd_place bytes len z_21.2.1) z_21.2.2.1 z_21.2.2.2.1, g_X2_reads_sign bytes len (g_X2_isAtEnd_place bytes len z_21.2.1) z_21.2.2.1 z_21.2.2.2.1 z_21.2.2.2.2.1, g_X2_reads_kix bytes len (g_X2_isAtEnd_place bytes len z_21.2.1) z_21.2.2.1 z_21.2.2.2.1 z_21.2.2.2.2.2.1, g_X2_reads_osz bytes len (g_X2_isAtEnd_place bytes len z_21.2.1) z_21.2.2.1 z_21.2.2.2.1 z_21.2.2.2.2.2.2.1, g_X2_reads_aw bytes len (g_X2_isAtEnd_place bytes len z_21.2.1) z_21.2.2.1 z_21.2.2.2.1 z_21.2.2.2.2.2.2.2) else (g_X2_isAtEnd_place bytes len z_21.2.1, g_X2_isAtEnd_place bytes len z_21.2.1, z_21.2.2.1, z_21.2.2.2.1, z_21.2.2.2.2.1, z_21.2.2.2.2.2.1, z_21.2.2.2.2.2.2.1, z_21.2.2.2.2.2.2.2) else if (f_X2_reads bytes len (g_X2_isAtEnd_place bytes len z_21.2.1) z_21.2.2.1 z_21.2.2.2.1) = (-1) then r_X2_faultIn_21 bytes len n_21 (i_21 + 1) (f_X2_openingsAfter (g_X2_reads_sign bytes len (g_X2_isAtEnd_place bytes len z_21.2.1) z_21.2.2.1 z_21.2.2.2.1 z_21.2.2.2.2.1) z_21.1, g_X2_reads_place bytes len (g_X2_isAtEnd_place bytes len z_21.2.1) z_21.2.2.1 z_21.2.2.2.1, g_X2_reads_num bytes len (g_X2_isAtEnd_place bytes len z_21.2.1) z_21.2.2.1 z_21.2.2.2.1, g_X2_reads_nums bytes len (g_X2_isAtEnd_place bytes len z_21.2.1) z_21.2.2.1 z_21.2.2.2.1, g_X2_reads_sign bytes len (g_X2_isAtEnd_place bytes len z_21.2.1) z_21.2.2.1 z_21.2.2.2.1 z_21.2.2.2.2.1, g_X2_reads_kix bytes len (g_X2_isAtEnd_place bytes len z_21.2.1) z_21.2.2.1 z_21.2.2.2.1 z_21.2.2.2.2.2.1, g_X2_reads_osz bytes len (g_X2_isAtEnd_place bytes len z_21.2.1) z_21.2.2.1 z_21.2.2.2.1 z_21.2.2.2.2.2.2.1, g_X2_reads_aw bytes len (g_X2_isAtEnd_place bytes len z_21.2.1) z_21.2.2.1 z_21.2.2.2.1 z_21.2.2.2.2.2.2.2) else (f_X2_reads bytes len (g_X2_isAtEnd_place bytes len z_21.2.1) z_21.2.2.1 z_21.2.2.2.1, g_X2_reads_place bytes len (g_X2_isAtEnd_place bytes len z_21.2.1) z_21.2.2.1 z_21.2.2.2.1, g_X2_reads_num bytes len (g_X2_isAtEnd_place bytes len z_21.2.1) z_21.2.2.1 z_21.2.2.2.1, g_X2_reads_nums bytes len (g_X2_isAtEnd_place bytes len z_21.2.1) z_21.2.2.1 z_21.2.2.2.1, g_X2_reads_sign bytes len (g_X2_isAtEnd_place bytes len z_21.2.1) z_21.2.2.1 z_21.2.2.2.1 z_21.2.2.2.2.1, g_X2_reads_kix bytes len (g_X2_isAtEnd_place bytes len z_21.2.1) z_21.2.2.1 z_21.2.2.2.1 z_21.2.2.2.2.2.1, g_X2_reads_osz bytes len (g_X2_isAtEnd_place bytes len z_21.2.1) z_21.2.2.1 z_21.2.2.2.1 z_21.2.2.2.2.2.2.1, g_X2_reads_aw bytes len (g_X2_isAtEnd_place bytes len z_21.2.1) z_21.2.2.1 z_21.2.2.2.1 z_21.2.2.2.2.2.2.2) else ((-1), g_X2_isAtEnd_place bytes len z_21.2.1, z_21.2.2.1, z_21.2.2.2.1, z_21.2.2.2.2.1, z_21.2.2.2.2.2.1, z_21.2.2.2.2.2.2.1, z_21.2.2.2.2.2.2.2)
def f_X2_faultIn (bytes : Nat → Int32) (len : Int32) (num : Int32) (nums : Nat → Int32) (sign : Int32) (kix : Nat) (osz : Int32) (aw : Int32) (openingsNow : Int32) : Int32 := if (f_X2_isAtEnd bytes len g_X2_restarts_place) = 0 then (r_X2_faultIn_21 bytes len 120 0 (openingsNow, g_X2_isAtEnd_place bytes len g_X2_restarts_place, num, nums, sign, kix, osz, aw)).1 else len
def g_X2_faultIn_place (bytes : Nat → Int32) (len : Int32) (num : Int32) (nums : Nat → Int32) (sign : Int32) (kix : Nat) (osz : Int32) (aw : Int32) (openingsNow : Int32) : Int32 := if (f_X2_isAtEnd bytes len g_X2_restarts_place) = 0 then (r_X2_faultIn_21 bytes len 120 0 (openingsNow, g_X2_isAtEnd_place bytes len g_X2_restarts_place, num, nums, sign, kix, osz, aw)).2.1 else g_X2_isAtEnd_place bytes len g_X2_restarts_place
def g_X2_faultIn_num (bytes : Nat → Int32) (len : Int32) (num : Int32) (nums : Nat → Int32) (sign : Int32) (kix : Nat) (osz : Int32) (aw : Int32) (openingsNow : Int32) : Int32 := if (f_X2_isAtEnd bytes len g_X2_restarts_place) = 0 then (r_X2_faultIn_21 bytes len 120 0 (openingsNow, g_X2_isAtEnd_place bytes len g_X2_restarts_place, num, nums, sign, kix, osz, aw)).2.2.1 else num
def g_X2_faultIn_nums (bytes : Nat → Int32) (len : Int32) (num : Int32) (nums : Nat → Int32) (sign : Int32) (kix : Nat) (osz : Int32) (aw : Int32) (openingsNow : Int32) : Nat → Int32 := if (f_X2_isAtEnd bytes len g_X2_restarts_place) = 0 then (r_X2_faultIn_21 bytes len 120 0 (openingsNow, g_X2_isAtEnd_place bytes len g_X2_restarts_place, num, nums, sign, kix, osz, aw)).2.2.2.1 else nums
def g_X2_faultIn_sign (bytes : Nat → Int32) (len : Int32) (num : Int32) (nums : Nat → Int32) (sign : Int32) (kix : Nat) (osz : Int32) (aw : Int32) (openingsNow : Int32) : Int32 := if (f_X2_isAtEnd bytes len g_X2_restarts_place) = 0 then (r_X2_faultIn_21 bytes len 120 0 (openingsNow, g_X2_isAtEnd_place bytes len g_X2_restarts_place, num, nums, sign, kix, osz, aw)).2.2.2.2.1 else sign
def g_X2_faultIn_kix (bytes : Nat → Int32) (len : Int32) (num : Int32) (nums : Nat → Int32) (sign : Int32) (kix : Nat) (osz : Int32) (aw : Int32) (openingsNow : Int32) : Nat := if (f_X2_isAtEnd bytes len g_X2_restarts_place) = 0 then (r_X2_faultIn_21 bytes len 120 0 (openingsNow, g_X2_isAtEnd_place bytes len g_X2_restarts_place, num, nums, sign, kix, osz, aw)).2.2.2.2.2.1 else kix
def g_X2_faultIn_osz (bytes : Nat → Int32) (len : Int32) (num : Int32) (nums : Nat → Int32) (sign : Int32) (kix : Nat) (osz : Int32) (aw : Int32) (openingsNow : Int32) : Int32 := if (f_X2_isAtEnd bytes len g_X2_restarts_place) = 0 then (r_X2_faultIn_21 bytes len 120 0 (openingsNow, g_X2_isAtEnd_place bytes len g_X2_restarts_place, num, nums, sign, kix, osz, aw)).2.2.2.2.2.2.1 else osz
def g_X2_faultIn_aw (bytes : Nat → Int32) (len : Int32) (num : Int32) (nums : Nat → Int32) (sign : Int32) (kix : Nat) (osz : Int32) (aw : Int32) (openingsNow : Int32) : Int32 := if (f_X2_isAtEnd bytes len g_X2_restarts_place) = 0 then (r_X2_faultIn_21 bytes len 120 0 (openingsNow, g_X2_isAtEnd_place bytes len g_X2_restarts_place, num, nums, sign, kix, osz, aw)).2.2.2.2.2.2.2 else aw
set_option maxRecDepth 100000 in
theorem c_X2_faultIn {l : Launch} {G : zG} {xo xb oo on : Nat} {bytes : Nat → Int32} {len : Int32} {place : Int32} {num : Int32} {nums : Nat → Int32} {sign : Int32} {kix : Nat} {osz : Int32} {aw : Int32} {openingsNow : Int32} (ht : tL len) : Ct l G yX2_faultIn cX2_faultIn 6 (Option.some FieldType.int) 6 130 [.ref xo, .ref oo, .int openingsNow] (wTx G xo xb bytes len place num ++ wOr G oo on nums sign kix osz aw) (pI (f_X2_faultIn bytes len num nums sign kix osz aw openingsNow) (wTx G xo xb bytes len (g_X2_faultIn_place bytes len num nums sign kix osz aw openingsNow) (g_X2_faultIn_num bytes len num nums sign kix osz aw openingsNow) ++ wOr G oo on (g_X2_faultIn_nums bytes len num nums sign kix osz aw openingsNow) (g_X2_faultIn_sign bytes len num nums sign kix osz aw openingsNow) (g_X2_faultIn_kix bytes len num nums sign kix osz aw openingsNow) (g_X2_faultIn_osz bytes len num nums sign kix osz aw openingsNow) (g_X2_faultIn_aw bytes len num nums sign kix osz aw openingsNow))) := by
  refine Ct.of (plainFor_of_name (by decide)) (Nat.le_of_ble_eq_true rfl) (pI.ad (ad_app ad_Tx ad_Or)) (fun X C E => ?_)
  show Z X G 6 0 0 _ 0 [(0, .ref xo), (1, .ref oo), (2, .int openingsNow)] []
  refine z_aload_n (pc := 0) C 0 dX2_faultIn_0 rfl ?_
  refine z_callV (pc := 1) C (c_X2_restarts) [0, 1] z00 mV_X2_restarts q_755 dX2_faultIn_1 rfl rfl rfl 0 rfl rfl rfl rfl (Nat.le_of_ble_eq_true rfl) (by decide) (pV.go (ws' := wTx G xo xb bytes len _ num ++ wOr G oo on nums sign kix osz aw) rfl ?_)
  refine z_aload_n (pc := 4) C 0 dX2_faultIn_4 rfl ?_
  refine z_callV (pc := 5) C (c_X2_isAtEnd (by exact (tP_0 ht))) [0, 1] z00 mV_X2_isAtEnd q_759 dX2_faultIn_5 rfl rfl rfl 0 rfl rfl rfl rfl (Nat.le_of_ble_eq_true rfl) (by decide) (pI.go (ws' := wTx G xo xb bytes len _ num ++ wOr G oo on nums sign kix osz aw) rfl ?_)
  refine z_if_eq (pc := 8) 16 C dX2_faultIn_8 (by decide) (fun c_8 => ?_) (fun c_8 => ?_)
  · skip
    refine z_iload_n (pc := 16) C 2 dX2_faultIn_16 rfl ?_
    refine z_istore_n (pc := 17) [(3, _), (0, _), (1, _), (2, _)] C dX2_faultIn_17 rfl (by decide) rfl ?_
    refine z_iconst (pc := 18) (v := 0) C dX2_faultIn_18 (by decide) ?_
    refine z_istore (pc := 19) [(4, _), (3, _), (0, _), (1, _), (2, _)] C dX2_faultIn_19 (by decide) rfl ?_
    refine z_lv (lv' := [(0, _), (1, _), (2, _), (3, _), (4, _)]) [2, 3, 4, 1, 0] rfl ?_
    have L_21 : ∀ (n_21 i_21 : Nat) (z_21 : Int32 × Int32 × Int32 × (Nat → Int32) × Int32 × Nat × Int32 × Int32), n_21 + i_21 = 120 → tP len z_21.2.1 → r_X2_faultIn_21 bytes len n_21 i_21 z_21 = r_X2_faultIn_21 bytes len 120 0 (openingsNow, g_X2_isAtEnd_place bytes len g_X2_restarts_place, num, nums, sign, kix, osz, aw) → Z X G 6 0 0 (wTx G xo xb bytes len z_21.2.1 z_21.2.2.1 ++ wOr G oo on z_21.2.2.2.1 z_21.2.2.2.2.1 z_21.2.2.2.2.2.1 z_21.2.2.2.2.2.2.1 z_21.2.2.2.2.2.2.2) 21 [(0, .ref xo), (1, .ref oo), (2, .int openingsNow), (3, .int z_21.1), (4, .int (nI i_21))] [] := by
      intro n_21
      induction n_21 with
      | zero =>
        intro i_21 z_21 hn_21 hI_21 hF_21
        obtain rfl : i_21 = 120 := by omega
        refine z_iload (pc := 21) C 4 dX2_faultIn_21 rfl ?_
        refine z_bipush (pc := 23) (v := 120) C dX2_faultIn_23 (by decide) ?_
        refine z_icmp_ge (pc := 25) 82 C dX2_faultIn_25 (by decide) (fun c_25 => ?_) (fun c_25 => ?_)
        · skip
          refine z_iconst (pc := 82) (v := (-1)) C dX2_faultIn_82 (by decide) ?_
          exact z_iret (pc := 83) C E dX2_faultIn_83 (pI.mk (by simp only [f_X2_faultIn, if_pos c_8]; rw [← hF_21]; simp only [r_X2_faultIn_21]) (by simp only [g_X2_faultIn_place, g_X2_faultIn_num, g_X2_faultIn_nums, g_X2_faultIn_sign, g_X2_faultIn_kix, g_X2_faultIn_osz, g_X2_faultIn_aw, if_pos c_8]; rw [← hF_21]; simp only [r_X2_faultIn_21]))
        · skip
          exact absurd (nI_le (Nat.le_refl 120) (by decide)) c_25
      | succ n_21 ih_21 =>
        intro i_21 z_21 hn_21 hI_21 hF_21
        have hi_21 : i_21 < 120 := by omega
        refine z_iload (pc := 21) C 4 dX2_faultIn_21 rfl ?_
        refine z_bipush (pc := 23) (v := 120) C dX2_faultIn_23 (by decide) ?_
        refine z_icmp_ge (pc := 25) 82 C dX2_faultIn_25 (by decide) (fun c_25 => ?_) (fun c_25 => ?_)
        · skip
          exact absurd c_25 (nI_ge (b := 120) (by omega) (by decide))
        · skip
          refine z_aload_n (pc := 28) C 0 dX2_faultIn_28 rfl ?_
          refine z_callV (pc := 29) C (c_X2_isAtEnd (by exact hI_21)) [0, 1] z00 mV_X2_isAtEnd q_759 dX2_faultIn_29 rfl rfl rfl 0 rfl rfl rfl rfl (Nat.le_of_ble_eq_true rfl) (by decide) (pI.go (ws' := wTx G xo xb bytes len _ _ ++ wOr G oo on _ _ _ _ _) rfl ?_)
          refine z_if_ne (pc := 32) 82 C dX2_faultIn_32 (by decide) (fun c_32 => ?_) (fun c_32 => ?_)
          · skip
            refine z_iconst (pc := 82) (v := (-1)) C dX2_faultIn_82 (by decide) ?_
            exact z_iret (pc := 83) C E dX2_faultIn_83 (pI.mk (by simp only [f_X2_faultIn, if_pos c_8]; rw [← hF_21]; simp only [r_X2_faultIn_21, if_neg c_32]) (by simp only [g_X2_faultIn_place, g_X2_faultIn_num, g_X2_faultIn_nums, g_X2_faultIn_sign, g_X2_faultIn_kix, g_X2_faultIn_osz, g_X2_faultIn_aw, if_pos c_8]; rw [← hF_21]; simp only [r_X2_faultIn_21, if_neg c_32]))
          · skip
            refine z_aload_n (pc := 35) C 0 dX2_faultIn_35 rfl ?_
            refine z_callV (pc := 36) C (c_X2_byteHere (by exact ht)) [0, 1] z00 mV_X2_byteHere q_767 dX2_faultIn_36 rfl rfl rfl 0 rfl rfl rfl rfl (Nat.le_of_ble_eq_true rfl) (by decide) (pI.stay rfl ?_)
            refine z_bipush (pc := 39) (v := 111) C dX2_faultIn_39 (by decide) ?_
            refine z_icmp_ne (pc := 41) 54 C dX2_faultIn_41 (by decide) (fun c_41 => ?_) (fun c_41 => ?_)
            · skip
              refine z_aload_n (pc := 54) C 0 dX2_faultIn_54 rfl ?_
              refine z_aload_n (pc := 55) C 1 dX2_faultIn_55 rfl ?_
              refine z_callV (pc := 56) C (c_X2_reads (by exact (tP_end hI_21))) [0, 1, 2, 3] z00 mV_X2_reads q_772 dX2_faultIn_56 rfl rfl rfl 0 rfl rfl rfl rfl (Nat.le_of_ble_eq_true rfl) (by decide) (pI.go (ws' := wTx G xo xb bytes len _ _ ++ wOr G oo on _ _ _ _ _) rfl ?_)
              refine z_istore (pc := 59) [(5, _), (0, _), (1, _), (2, _), (3, _), (4, _)] C dX2_faultIn_59 (by decide) rfl ?_
              refine z_iload (pc := 61) C 0 dX2_faultIn_61 rfl ?_
              refine z_iconst (pc := 63) (v := (-1)) C dX2_faultIn_63 (by decide) ?_
              refine z_icmp_eq (pc := 64) 70 C dX2_faultIn_64 (by decide) (fun c_64 => ?_) (fun c_64 => ?_)
              · skip
                refine z_aload_n (pc := 70) C 2 dX2_faultIn_70 rfl ?_
                refine z_iload_n (pc := 71) C 4 dX2_faultIn_71 rfl ?_
                refine z_callS (pc := 72) C (c_X2_openingsAfter) [2, 3] z00 mS_X2_openingsAfter q_790 dX2_faultIn_72 rfl rfl rfl rfl (Nat.le_of_ble_eq_true rfl) (by decide) (pI.stay rfl ?_)
                refine z_istore_n (pc := 75) [(3, _), (5, _), (0, _), (1, _), (2, _), (4, _)] C dX2_faultIn_75 rfl (by decide) rfl ?_
                refine z_iinc (pc := 76) (v := nI (i_21 + 1)) [(4, _), (3, _), (5, _), (0, _), (1, _), (2, _)] C 5 dX2_faultIn_76 rfl ((nI_succ _).symm) (by decide) rfl ?_
                refine z_goto (pc := 79) 21 C dX2_faultIn_79 (by decide) ?_
                refine z_lv (lv' := [(0, _), (1, _), (2, _), (3, _), (4, _)]) [3, 4, 5, 1, 0] rfl ?_
                have h9 := ih_21 (i_21 + 1) (f_X2_openingsAfter (g_X2_reads_sign bytes len (g_X2_isAtEnd_place bytes len z_21.2.1) z_21.2.2.1 z_21.2.2.2.1 z_21.2.2.2.2.1) z_21.1, g_X2_reads_place bytes len (g_X2_isAtEnd_place bytes len z_21.2.1) z_21.2.2.1 z_21.2.2.2.1, g_X2_reads_num bytes len (g_X2_isAtEnd_place bytes len z_21.2.1) z_21.2.2.1 z_21.2.2.2.1, g_X2_reads_nums bytes len (g_X2_isAtEnd_place bytes len z_21.2.1) z_21.2.2.1 z_21.2.2.2.1, g_X2_reads_sign bytes len (g_X2_isAtEnd_place bytes len z_21.2.1) z_21.2.2.1 z_21.2.2.2.1 z_21.2.2.2.2.1, g_X2_reads_kix bytes len (g_X2_isAtEnd_place bytes len z_21.2.1) z_21.2.2.1 z_21.2.2.2.1 z_21.2.2.2.2.2.1, g_X2_reads_osz bytes len (g_X2_isAtEnd_place bytes len z_21.2.1) z_21.2.2.1 z_21.2.2.2.1 z_21.2.2.2.2.2.2.1, g_X2_reads_aw bytes len (g_X2_isAtEnd_place bytes len z_21.2.1) z_21.2.2.1 z_21.2.2.2.1 z_21.2.2.2.2.2.2.2) (by omega) (by dsimp only; exact tP_reads (tP_end hI_21)) (by rw [← hF_21]; simp only [r_X2_faultIn_21, if_pos c_32, if_neg c_41, if_pos c_64])
                dsimp only at h9
                exact h9
              · skip
                refine z_iload (pc := 67) C 0 dX2_faultIn_67 rfl ?_
                exact z_iret (pc := 69) C E dX2_faultIn_69 (pI.mk (by simp only [f_X2_faultIn, if_pos c_8]; rw [← hF_21]; simp only [r_X2_faultIn_21, if_pos c_32, if_neg c_41, if_neg c_64]) (by simp only [g_X2_faultIn_place, g_X2_faultIn_num, g_X2_faultIn_nums, g_X2_faultIn_sign, g_X2_faultIn_kix, g_X2_faultIn_osz, g_X2_faultIn_aw, if_pos c_8]; rw [← hF_21]; simp only [r_X2_faultIn_21, if_pos c_32, if_neg c_41, if_neg c_64]))
            · skip
              refine z_iload_n (pc := 44) C 3 dX2_faultIn_44 rfl ?_
              refine z_iconst (pc := 45) (v := 4) C dX2_faultIn_45 (by decide) ?_
              refine z_icmp_lt (pc := 46) 54 C dX2_faultIn_46 (by decide) (fun c_46 => ?_) (fun c_46 => ?_)
              · skip
                refine z_aload_n (pc := 54) C 0 dX2_faultIn_54 rfl ?_
                refine z_aload_n (pc := 55) C 1 dX2_faultIn_55 rfl ?_
                refine z_callV (pc := 56) C (c_X2_reads (by exact (tP_end hI_21))) [0, 1, 2, 3] z00 mV_X2_reads q_772 dX2_faultIn_56 rfl rfl rfl 0 rfl rfl rfl rfl (Nat.le_of_ble_eq_true rfl) (by decide) (pI.go (ws' := wTx G xo xb bytes len _ _ ++ wOr G oo on _ _ _ _ _) rfl ?_)
                refine z_istore (pc := 59) [(5, _), (0, _), (1, _), (2, _), (3, _), (4, _)] C dX2_faultIn_59 (by decide) rfl ?_
                refine z_iload (pc := 61) C 0 dX2_faultIn_61 rfl ?_
                refine z_iconst (pc := 63) (v := (-1)) C dX2_faultIn_63 (by decide) ?_
                refine z_icmp_eq (pc := 64) 70 C dX2_faultIn_64 (by decide) (fun c_64 => ?_) (fun c_64 => ?_)
                · skip
                  refine z_aload_n (pc := 70) C 2 dX2_faultIn_70 rfl ?_
                  refine z_iload_n (pc := 71) C 4 dX2_faultIn_71 rfl ?_
                  refine z_callS (pc := 72) C (c_X2_openingsAfter) [2, 3] z00 mS_X2_openingsAfter q_790 dX2_faultIn_72 rfl rfl rfl rfl (Nat.le_of_ble_eq_true rfl) (by decide) (pI.stay rfl ?_)
                  refine z_istore_n (pc := 75) [(3, _), (5, _), (0, _), (1, _), (2, _), (4, _)] C dX2_faultIn_75 rfl (by decide) rfl ?_
                  refine z_iinc (pc := 76) (v := nI (i_21 + 1)) [(4, _), (3, _), (5, _), (0, _), (1, _), (2, _)] C 5 dX2_faultIn_76 rfl ((nI_succ _).symm) (by decide) rfl ?_
                  refine z_goto (pc := 79) 21 C dX2_faultIn_79 (by decide) ?_
                  refine z_lv (lv' := [(0, _), (1, _), (2, _), (3, _), (4, _)]) [3, 4, 5, 1, 0] rfl ?_
                  have h9 := ih_21 (i_21 + 1) (f_X2_openingsAfter (g_X2_reads_sign bytes len (g_X2_isAtEnd_place bytes len z_21.2.1) z_21.2.2.1 z_21.2.2.2.1 z_21.2.2.2.2.1) z_21.1, g_X2_reads_place bytes len (g_X2_isAtEnd_place bytes len z_21.2.1) z_21.2.2.1 z_21.2.2.2.1, g_X2_reads_num bytes len (g_X2_isAtEnd_place bytes len z_21.2.1) z_21.2.2.1 z_21.2.2.2.1, g_X2_reads_nums bytes len (g_X2_isAtEnd_place bytes len z_21.2.1) z_21.2.2.1 z_21.2.2.2.1, g_X2_reads_sign bytes len (g_X2_isAtEnd_place bytes len z_21.2.1) z_21.2.2.1 z_21.2.2.2.1 z_21.2.2.2.2.1, g_X2_reads_kix bytes len (g_X2_isAtEnd_place bytes len z_21.2.1) z_21.2.2.1 z_21.2.2.2.1 z_21.2.2.2.2.2.1, g_X2_reads_osz bytes len (g_X2_isAtEnd_place bytes len z_21.2.1) z_21.2.2.1 z_21.2.2.2.1 z_21.2.2.2.2.2.2.1, g_X2_reads_aw bytes len (g_X2_isAtEnd_place bytes len z_21.2.1) z_21.2.2.1 z_21.2.2.2.1 z_21.2.2.2.2.2.2.2) (by omega) (by dsimp only; exact tP_reads (tP_end hI_21)) (by rw [← hF_21]; simp only [r_X2_faultIn_21, if_pos c_32, if_pos c_41, if_pos c_46, if_pos c_64])
                  dsimp only at h9
                  exact h9
                · skip
                  refine z_iload (pc := 67) C 0 dX2_faultIn_67 rfl ?_
                  exact z_iret (pc := 69) C E dX2_faultIn_69 (pI.mk (by simp only [f_X2_faultIn, if_pos c_8]; rw [← hF_21]; simp only [r_X2_faultIn_21, if_pos c_32, if_pos c_41, if_pos c_46, if_neg c_64]) (by simp only [g_X2_faultIn_place, g_X2_faultIn_num, g_X2_faultIn_nums, g_X2_faultIn_sign, g_X2_faultIn_kix, g_X2_faultIn_osz, g_X2_faultIn_aw, if_pos c_8]; rw [← hF_21]; simp only [r_X2_faultIn_21, if_pos c_32, if_pos c_41, if_pos c_46, if_neg c_64]))
              · skip
                refine z_aload_n (pc := 49) C 0 dX2_faultIn_49 rfl ?_
                refine z_get (pc := 50) C 0 2 dX2_faultIn_50 rfl rfl i_X2 (by decide) q_241 rfl ?_
                exact z_iret (pc := 53) C E dX2_faultIn_53 (pI.mk (by simp only [f_X2_faultIn, if_pos c_8]; rw [← hF_21]; simp only [r_X2_faultIn_21, if_pos c_32, if_pos c_41, if_neg c_46]) (by simp only [g_X2_faultIn_place, g_X2_faultIn_num, g_X2_faultIn_nums, g_X2_faultIn_sign, g_X2_faultIn_kix, g_X2_faultIn_osz, g_X2_faultIn_aw, if_pos c_8]; rw [← hF_21]; simp only [r_X2_faultIn_21, if_pos c_32, if_pos c_41, if_neg c_46]))
    have h9 := L_21 120 0 (openingsNow, g_X2_isAtEnd_place bytes len g_X2_restarts_place, num, nums, sign, kix, osz, aw) (by omega) (by dsimp only; exact tP_end (tP_0 ht)) rfl
    dsimp only at h9
    exact h9
  · skip
    refine z_aload_n (pc := 11) C 0 dX2_faultIn_11 rfl ?_
    refine z_get (pc := 12) C 0 1 dX2_faultIn_12 rfl rfl i_X2 (by decide) q_239 rfl ?_
    exact z_iret (pc := 15) C E dX2_faultIn_15 (pI.mk (by simp only [f_X2_faultIn, if_neg c_8]) (by simp only [g_X2_faultIn_place, g_X2_faultIn_num, g_X2_faultIn_nums, g_X2_faultIn_sign, g_X2_faultIn_kix, g_X2_faultIn_osz, g_X2_faultIn_aw, if_neg c_8]))
