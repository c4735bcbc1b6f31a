def b_X9_edge_6 (now : Nat → Int32) (t : Int32) (isX : Int32) (isLeast : Int32) (i_6 : Nat) (z_6 : Int32) : Int32 := (if (if z_6 = (-1) then 1 else if isLeast = 0 then if (if isX = 0 then ((nI i_6) / 32) else ((nI i_6) - (nI i_6) / 32 * 32) : Int32) ≤ z_6 then 0 else 1 else if z_6 ≤ (if isX = 0 then ((nI i_6) / 32) else ((nI i_6) - (nI i_6) / 32 * 32) : Int32) then 0 else 1 : Int32) = 0 then z_6 else if (f_X9_dotOf now t ((nI i_6) - (nI i_6) / 32 * 32) ((nI i_6) / 32)) = 1 then (if isX = 0 then ((nI i_6) / 32) else ((nI i_6) - (nI i_6) / 32 * 32) : Int32) else z_6 : Int32)
def s_X9_edge_6 (now : Nat → Int32) (t : Int32) (isX : Int32) (isLeast : Int32) : Nat → Int32
  | 0 => (-1)
  | i_6 + 1 => b_X9_edge_6 now t isX isLeast i_6 (s_X9_edge_6 now t isX isLeast i_6)
def f_X9_edge (now : Nat → Int32) (t : Int32) (isX : Int32) (isLeast : Int32) : Int32 := (s_X9_edge_6 now t isX isLeast 768)
set_option maxRecDepth 100000 in
theorem c_X9_edge {l : Launch} {G : zG} {da dn dp dr ds dl dc dt dg : Nat} {now : Nat → Int32} {past : Nat → Int32} {states : Int32} {refused : Nat → Int32} {aside : Nat → Int32} {pile : Nat → Int32} {came : Nat → Int32} {pileL : Int32} {text : Nat → Int32} {textL : Int32} {place : Int32} {nargs : Nat → Int32} {t : Int32} {isX : Int32} {isLeast : Int32} (hT : pT t) : Ct l G yX9_edge cX9_edge 8 (Option.some FieldType.int) 3 69 [.ref da, .int t, .int isX, .int isLeast] (wMd G da dn dp dr ds dl dc dt dg now past states refused aside pile came pileL text textL place nargs) (pI (f_X9_edge now t isX isLeast) (wMd G da dn dp dr ds dl dc dt dg now past states refused aside pile came pileL text textL place nargs)) := by
  refine Ct.of (plainFor_of_name (by decide)) (Nat.le_of_ble_eq_true rfl) (pI.ad ad_Md) (fun X C E => ?_)
  show Z X G 8 0 0 _ 0 [(0, .ref da), (1, .int t), (2, .int isX), (3, .int isLeast)] []
  refine z_iconst (pc := 0) (v := (-1)) C dX9_edge_0 (by decide) ?_
  refine z_istore (pc := 1) [(4, _), (0, _), (1, _), (2, _), (3, _)] C dX9_edge_1 (by decide) rfl ?_
  refine z_iconst (pc := 3) (v := 0) C dX9_edge_3 (by decide) ?_
  refine z_istore (pc := 4) [(5, _), (4, _), (0, _), (1, _), (2, _), (3, _)] C dX9_edge_4 (by decide) rfl ?_
  refine z_lv (lv' := [(0, _), (1, _), (2, _), (3, _), (4, _), (5, _)]) [2, 3, 4, 5, 1, 0] rfl ?_
  refine z_loop (pc := 6) (e := 768) (fun i_6 => wMd G da dn dp dr ds dl dc dt dg now past states refused aside pile came pileL text textL place nargs) (fun i_6 => [(0, .ref da), (1, .int t), (2, .int isX), (3, .int isLeast), (4, .int (s_X9_edge_6 now t isX isLeast i_6)), (5, .int (nI i_6))]) [] (fun i_6 hi_6 ih_6 => ?_) ?_ 0 (Nat.zero_le _)
  · show Z X G 8 0 0 (wMd G da dn dp dr ds dl dc dt dg now past states refused aside pile came pileL text textL place nargs) 6 [(0, .ref da), (1, .int t), (2, .int isX), (3, .int isLeast), (4, .int (s_X9_edge_6 now t isX isLeast i_6)), (5, .int (nI i_6))] []
    generalize hz_6 : s_X9_edge_6 now t isX isLeast i_6 = z_6
    refine z_iload (pc := 6) C 5 dX9_edge_6 rfl ?_
    refine z_sipush (pc := 8) (v := 768) C dX9_edge_8 (by decide) ?_
    refine z_icmp_ge (pc := 11) 106 C dX9_edge_11 (by decide) (fun c_11 => ?_) (fun c_11 => ?_)
    · skip
      exact absurd c_11 (nI_ge (b := 768) (by omega) (by decide))
    · skip
      refine z_iload_n (pc := 14) C 2 dX9_edge_14 rfl ?_
      have K_31 : Z X G 8 0 0 (wMd G da dn dp dr ds dl dc dt dg now past states refused aside pile came pileL text textL place nargs) 31 [(0, .ref da), (1, .int t), (2, .int isX), (3, .int isLeast), (4, .int z_6), (5, .int (nI i_6))] [.int (if isX = 0 then ((nI i_6) / 32) else ((nI i_6) - (nI i_6) / 32 * 32) : Int32)] := by
        refine z_istore (pc := 31) [(6, _), (0, _), (1, _), (2, _), (3, _), (4, _), (5, _)] C dX9_edge_31 (by decide) rfl ?_
        refine z_iload (pc := 33) C 5 dX9_edge_33 rfl ?_
        refine z_iconst (pc := 35) (v := (-1)) C dX9_edge_35 (by decide) ?_
        have K_65 : Z X G 8 0 0 (wMd G da dn dp dr ds dl dc dt dg now past states refused aside pile came pileL text textL place nargs) 65 [(0, .ref da), (1, .int t), (2, .int isX), (3, .int isLeast), (4, .int z_6), (5, .int (nI i_6)), (6, .int (if isX = 0 then ((nI i_6) / 32) else ((nI i_6) - (nI i_6) / 32 * 32) : Int32))] [.int (if z_6 = (-1) then 1 else if isLeast = 0 then if (if isX = 0 then ((nI i_6) / 32) else ((nI i_6) - (nI i_6) / 32 * 32) : Int32) ≤ z_6 then 0 else 1 else if z_6 ≤ (if isX = 0 then ((nI i_6) / 32) else ((nI i_6) - (nI i_6) / 32 * 32) : Int32) then 0 else 1 : Int32)] := by
          refine z_istore (pc := 65) [(7, _), (0, _), (1, _), (2, _), (3, _), (4, _), (5, _), (6, _)] C dX9_edge_65 (by decide) rfl ?_
          refine z_iload (pc := 67) C 0 dX9_edge_67 rfl ?_
          have K_98 : Z X G 8 0 0 (wMd G da dn dp dr ds dl dc dt dg now past states refused aside pile came pileL text textL place nargs) 98 [(0, .ref da), (1, .int t), (2, .int isX), (3, .int isLeast), (4, .int z_6), (5, .int (nI i_6)), (6, .int (if isX = 0 then ((nI i_6) / 32) else ((nI i_6) - (nI i_6) / 32 * 32) : Int32)), (7, .int (if z_6 = (-1) then 1 else if isLeast = 0 then if (if isX = 0 then ((nI i_6) / 32) else ((nI i_6) - (nI i_6) / 32 * 32) : Int32) ≤ z_6 then 0 else 1 else if z_6 ≤ (if isX = 0 then ((nI i_6) / 32) else ((nI i_6) - (nI i_6) / 32 * 32) : Int32) then 0 else 1 : Int32))] [.int (if (if z_6 = (-1) then 1 else if isLeast = 0 then if (if isX = 0 then ((nI i_6) / 32) else ((nI i_6) - (nI i_6) / 32 * 32) : Int32) ≤ z_6 then 0 else 1 else if z_6 ≤ (if isX = 0 then ((nI i_6) / 32) else ((nI i_6) - (nI i_6) / 32 * 32) : Int32) then 0 else 1 : Int32) = 0 then z_6 else if (f_X9_dotOf now t ((nI i_6) - (nI i_6) / 32 * 32) ((nI i_6) / 32)) = 1 then (if isX = 0 then ((nI i_6) / 32) else ((nI i_6) - (nI i_6) / 32 * 32) : Int32) else z_6 : Int32)] := by
            refine z_istore (pc := 98) [(4, _), (0, _), (1, _), (2, _), (3, _), (5, _), (6, _), (7, _)] C dX9_edge_98 (by decide) rfl ?_
            refine z_iinc (pc := 100) (v := nI (i_6 + 1)) [(5, _), (4, _), (0, _), (1, _), (2, _), (3, _), (6, _), (7, _)] C 5 dX9_edge_100 rfl ((nI_succ _).symm) (by decide) rfl ?_
            refine z_goto (pc := 103) 6 C dX9_edge_103 (by decide) ?_
            refine z_lv (lv' := [(0, _), (1, _), (2, _), (3, _), (4, _), (5, _)]) [2, 3, 4, 5, 1, 0] rfl ?_
            exact z_eq rfl (by simp only [s_X9_edge_6, hz_6, b_X9_edge_6]) rfl ih_6
          refine z_if_eq (pc := 69) 96 C dX9_edge_69 (by decide) (fun c_69 => ?_) (fun c_69 => ?_)
          · skip
            refine z_iload (pc := 96) C 5 dX9_edge_96 rfl ?_
            refine z_lv (lv' := [(0, _), (1, _), (2, _), (3, _), (4, _), (5, _), (6, _), (7, _)]) [1, 2, 3, 4, 5, 6, 7, 0] rfl ?_
            exact z_eq rfl rfl (by simp only [if_pos c_69]) K_98
          · skip
            refine z_aload_n (pc := 72) C 1 dX9_edge_72 rfl ?_
            refine z_iload_n (pc := 73) C 2 dX9_edge_73 rfl ?_
            refine z_iload (pc := 74) C 6 dX9_edge_74 rfl ?_
            refine z_bipush (pc := 76) (v := 32) C dX9_edge_76 (by decide) ?_
            refine z_irem (pc := 78) C dX9_edge_78 (by decide) ?_
            refine z_iload (pc := 79) C 6 dX9_edge_79 rfl ?_
            refine z_bipush (pc := 81) (v := 32) C dX9_edge_81 (by decide) ?_
            refine z_idiv (pc := 83) C dX9_edge_83 (by decide) ?_
            refine z_callV (pc := 84) C (c_X9_dotOf (by exact hT)) [0, 1, 2, 3, 4, 5, 6, 7, 8] z00 mV_X9_dotOf q_895 dX9_edge_84 rfl rfl rfl 0 rfl rfl rfl rfl (Nat.le_of_ble_eq_true rfl) (by decide) (pI.stay rfl ?_)
            refine z_iconst (pc := 87) (v := 1) C dX9_edge_87 (by decide) ?_
            refine z_icmp_ne (pc := 88) 96 C dX9_edge_88 (by decide) (fun c_88 => ?_) (fun c_88 => ?_)
            · skip
              refine z_iload (pc := 96) C 5 dX9_edge_96 rfl ?_
              refine z_lv (lv' := [(0, _), (1, _), (2, _), (3, _), (4, _), (5, _), (6, _), (7, _)]) [1, 2, 3, 4, 5, 6, 7, 0] rfl ?_
              exact z_eq rfl rfl (by simp only [if_neg c_69, if_neg c_88]) K_98
            · skip
              refine z_iload (pc := 91) C 7 dX9_edge_91 rfl ?_
              refine z_goto (pc := 93) 98 C dX9_edge_93 (by decide) ?_
              refine z_lv (lv' := [(0, _), (1, _), (2, _), (3, _), (4, _), (5, _), (6, _), (7, _)]) [1, 2, 3, 4, 5, 6, 7, 0] rfl ?_
              exact z_eq rfl rfl (by simp only [if_neg c_69, if_pos c_88]) K_98
        refine z_icmp_eq (pc := 36) 60 C dX9_edge_36 (by decide) (fun c_36 => ?_) (fun c_36 => ?_)
        · skip
          refine z_iconst (pc := 60) (v := 1) C dX9_edge_60 (by decide) ?_
          refine z_goto (pc := 61) 65 C dX9_edge_61 (by decide) ?_
          refine z_lv (lv' := [(0, _), (1, _), (2, _), (3, _), (4, _), (5, _), (6, _)]) [1, 2, 3, 4, 5, 6, 0] rfl ?_
          exact z_eq rfl rfl (by simp only [if_pos c_36]) K_65
        · skip
          refine z_iload_n (pc := 39) C 4 dX9_edge_39 rfl ?_
          refine z_if_eq (pc := 40) 53 C dX9_edge_40 (by decide) (fun c_40 => ?_) (fun c_40 => ?_)
          · skip
            refine z_iload (pc := 53) C 0 dX9_edge_53 rfl ?_
            refine z_iload (pc := 55) C 5 dX9_edge_55 rfl ?_
            refine z_icmp_le (pc := 57) 64 C dX9_edge_57 (by decide) (fun c_57 => ?_) (fun c_57 => ?_)
            · skip
              refine z_iconst (pc := 64) (v := 0) C dX9_edge_64 (by decide) ?_
              refine z_lv (lv' := [(0, _), (1, _), (2, _), (3, _), (4, _), (5, _), (6, _)]) [1, 2, 3, 4, 5, 6, 0] rfl ?_
              exact z_eq rfl rfl (by simp only [if_neg c_36, if_pos c_40, if_pos c_57]) K_65
            · skip
              refine z_iconst (pc := 60) (v := 1) C dX9_edge_60 (by decide) ?_
              refine z_goto (pc := 61) 65 C dX9_edge_61 (by decide) ?_
              refine z_lv (lv' := [(0, _), (1, _), (2, _), (3, _), (4, _), (5, _), (6, _)]) [1, 2, 3, 4, 5, 6, 0] rfl ?_
              exact z_eq rfl rfl (by simp only [if_neg c_36, if_pos c_40, if_neg c_57]) K_65
          · skip
            refine z_iload (pc := 43) C 0 dX9_edge_43 rfl ?_
            refine z_iload (pc := 45) C 5 dX9_edge_45 rfl ?_
            refine z_icmp_ge (pc := 47) 64 C dX9_edge_47 (by decide) (fun c_47 => ?_) (fun c_47 => ?_)
            · skip
              refine z_iconst (pc := 64) (v := 0) C dX9_edge_64 (by decide) ?_
              refine z_lv (lv' := [(0, _), (1, _), (2, _), (3, _), (4, _), (5, _), (6, _)]) [1, 2, 3, 4, 5, 6, 0] rfl ?_
              exact z_eq rfl rfl (by simp only [if_neg c_36, if_neg c_40, if_pos c_47]) K_65
            · skip
              refine z_goto (pc := 50) 60 C dX9_edge_50 (by decide) ?_
              refine z_iconst (pc := 60) (v := 1) C dX9_edge_60 (by decide) ?_
              refine z_goto (pc := 61) 65 C dX9_edge_61 (by decide) ?_
              refine z_lv (lv' := [(0, _), (1, _), (2, _), (3, _), (4, _), (5, _), (6, _)]) [1, 2, 3, 4, 5, 6, 0] rfl ?_
              exact z_eq rfl rfl (by simp only [if_neg c_36, if_neg c_40, if_neg c_47]) K_65
      refine z_if_eq (pc := 15) 26 C dX9_edge_15 (by decide) (fun c_15 => ?_) (fun c_15 => ?_)
      · skip
        refine z_iload (pc := 26) C 5 dX9_edge_26 rfl ?_
        refine z_bipush (pc := 28) (v := 32) C dX9_edge_28 (by decide) ?_
        refine z_idiv (pc := 30) C dX9_edge_30 (by decide) ?_
        refine z_lv (lv' := [(0, _), (1, _), (2, _), (3, _), (4, _), (5, _)]) [0, 1, 2, 3, 4, 5] rfl ?_
        exact z_eq rfl rfl (by simp only [if_pos c_15]) K_31
      · skip
        refine z_iload (pc := 18) C 5 dX9_edge_18 rfl ?_
        refine z_bipush (pc := 20) (v := 32) C dX9_edge_20 (by decide) ?_
        refine z_irem (pc := 22) C dX9_edge_22 (by decide) ?_
        refine z_goto (pc := 23) 31 C dX9_edge_23 (by decide) ?_
        refine z_lv (lv' := [(0, _), (1, _), (2, _), (3, _), (4, _), (5, _)]) [0, 1, 2, 3, 4, 5] rfl ?_
        exact z_eq rfl rfl (by simp only [if_neg c_15]) K_31
  · show Z X G 8 0 0 (wMd G da dn dp dr ds dl dc dt dg now past states refused aside pile came pileL text textL place nargs) 6 [(0, .ref da), (1, .int t), (2, .int isX), (3, .int isLeast), (4, .int (s_X9_edge_6 now t isX isLeast 768)), (5, .int (nI 768))] []
    refine z_iload (pc := 6) C 5 dX9_edge_6 rfl ?_
    refine z_sipush (pc := 8) (v := 768) C dX9_edge_8 (by decide) ?_
    refine z_icmp_ge (pc := 11) 106 C dX9_edge_11 (by decide) (fun c_11 => ?_) (fun c_11 => ?_)
    · skip
      refine z_iload (pc := 106) C 4 dX9_edge_106 rfl ?_
      exact z_iret (pc := 108) C E dX9_edge_108 (pI.mk rfl rfl)
    · skip
      exact absurd (nI_le (Nat.le_refl 768) (by decide)) c_11

def b_X9_openDots_4 (now : Nat → Int32) (i_4 : Nat) (z_4 : Int32) : Int32 := z_4 + (if (f_X9_isOpen now ((nI i_4) - (nI i_4) / 32 * 32) ((nI i_4) / 32)) = 0 then 0 else 1 : Int32)
def s_X9_openDots_4 (now : Nat → Int32) : Nat → Int32
  | 0 => 0
  | i_4 + 1 => b_X9_openDots_4 now i_4 (s_X9_openDots_4 now i_4)
def f_X9_openDots (now : Nat → Int32) : Int32 := (s_X9_openDots_4 now 768)
set_option maxRecDepth 100000 in
theorem c_X9_openDots {l : Launch} {G : zG} {da dn dp dr ds dl dc dt dg : Nat} {now : Nat → Int32} {past : Nat → Int32} {states : Int32} {refused : Nat → Int32} {aside : Nat → Int32} {pile : Nat → Int32} {came : Nat → Int32} {pileL : Int32} {text : Nat → Int32} {textL : Int32} {place : Int32} {nargs : Nat → Int32} (hm : mOk now) : Ct l G yX9_openDots cX9_openDots 3 (Option.some FieldType.int) 2 50 [.ref da] (wMd G da dn dp dr ds dl dc dt dg now past states refused aside pile came pileL text textL place nargs) (pI (f_X9_openDots now) (wMd G da dn dp dr ds dl dc dt dg now past states refused aside pile came pileL text textL place nargs)) := by
  refine Ct.of (plainFor_of_name (by decide)) (Nat.le_of_ble_eq_true rfl) (pI.ad ad_Md) (fun X C E => ?_)
  show Z X G 3 0 0 _ 0 [(0, .ref da)] []
  refine z_iconst (pc := 0) (v := 0) C dX9_openDots_0 (by decide) ?_
  refine z_istore_n (pc := 1) [(1, _), (0, _)] C dX9_openDots_1 rfl (by decide) rfl ?_
  refine z_iconst (pc := 2) (v := 0) C dX9_openDots_2 (by decide) ?_
  refine z_istore_n (pc := 3) [(2, _), (1, _), (0, _)] C dX9_openDots_3 rfl (by decide) rfl ?_
  refine z_lv (lv' := [(0, _), (1, _), (2, _)]) [2, 1, 0] rfl ?_
  refine z_loop (pc := 4) (e := 768) (fun i_4 => wMd G da dn dp dr ds dl dc dt dg now past states refused aside pile came pileL text textL place nargs) (fun i_4 => [(0, .ref da), (1, .int (s_X9_openDots_4 now i_4)), (2, .int (nI i_4))]) [] (fun i_4 hi_4 ih_4 => ?_) ?_ 0 (Nat.zero_le _)
  · show Z X G 3 0 0 (wMd G da dn dp dr ds dl dc dt dg now past states refused aside pile came pileL text textL place nargs) 4 [(0, .ref da), (1, .int (s_X9_openDots_4 now i_4)), (2, .int (nI i_4))] []
    generalize hz_4 : s_X9_openDots_4 now i_4 = z_4
    refine z_iload_n (pc := 4) C 2 dX9_openDots_4 rfl ?_
    refine z_sipush (pc := 5) (v := 768) C dX9_openDots_5 (by decide) ?_
    refine z_icmp_ge (pc := 8) 40 C dX9_openDots_8 (by decide) (fun c_8 => ?_) (fun c_8 => ?_)
    · skip
      exact absurd c_8 (nI_ge (b := 768) (by omega) (by decide))
    · skip
      refine z_iload_n (pc := 11) C 1 dX9_openDots_11 rfl ?_
      refine z_aload_n (pc := 12) C 0 dX9_openDots_12 rfl ?_
      refine z_iload_n (pc := 13) C 2 dX9_openDots_13 rfl ?_
      refine z_bipush (pc := 14) (v := 32) C dX9_openDots_14 (by decide) ?_
      refine z_irem (pc := 16) C dX9_openDots_16 (by decide) ?_
      refine z_iload_n (pc := 17) C 2 dX9_openDots_17 rfl ?_
      refine z_bipush (pc := 18) (v := 32) C dX9_openDots_18 (by decide) ?_
      refine z_idiv (pc := 20) C dX9_openDots_20 (by decide) ?_
      refine z_callV (pc := 21) C (c_X9_isOpen (by assumption)) [0, 1, 2, 3, 4, 5, 6, 7, 8] z00 mV_X9_isOpen q_974 dX9_openDots_21 rfl rfl rfl 0 rfl rfl rfl rfl (Nat.le_of_ble_eq_true rfl) (by decide) (pI.stay rfl ?_)
      have K_32 : Z X G 3 0 0 (wMd G da dn dp dr ds dl dc dt dg now past states refused aside pile came pileL text textL place nargs) 32 [(0, .ref da), (1, .int z_4), (2, .int (nI i_4))] [.int (if (f_X9_isOpen now ((nI i_4) - (nI i_4) / 32 * 32) ((nI i_4) / 32)) = 0 then 0 else 1 : Int32), .int z_4] := by
        refine z_iadd (pc := 32) C dX9_openDots_32 ?_
        refine z_istore_n (pc := 33) [(1, _), (0, _), (2, _)] C dX9_openDots_33 rfl (by decide) rfl ?_
        refine z_iinc (pc := 34) (v := nI (i_4 + 1)) [(2, _), (1, _), (0, _)] C 2 dX9_openDots_34 rfl ((nI_succ _).symm) (by decide) rfl ?_
        refine z_goto (pc := 37) 4 C dX9_openDots_37 (by decide) ?_
        refine z_lv (lv' := [(0, _), (1, _), (2, _)]) [2, 1, 0] rfl ?_
        exact z_eq rfl (by simp only [s_X9_openDots_4, hz_4, b_X9_openDots_4]) rfl ih_4
      refine z_if_eq (pc := 24) 31 C dX9_openDots_24 (by decide) (fun c_24 => ?_) (fun c_24 => ?_)
      · skip
        refine z_iconst (pc := 31) (v := 0) C dX9_openDots_31 (by decide) ?_
        refine z_lv (lv' := [(0, _), (1, _), (2, _)]) [0, 1, 2] rfl ?_
        exact z_eq rfl rfl (by simp only [if_pos c_24]) K_32
      · skip
        refine z_iconst (pc := 27) (v := 1) C dX9_openDots_27 (by decide) ?_
        refine z_goto (pc := 28) 32 C dX9_openDots_28 (by decide) ?_
        refine z_lv (lv' := [(0, _), (1, _), (2, _)]) [0, 1, 2] rfl ?_
        exact z_eq rfl rfl (by simp only [if_neg c_24]) K_32
  · show Z X G 3 0 0 (wMd G da dn dp dr ds dl dc dt dg now past states refused aside pile came pileL text textL place nargs) 4 [(0, .ref da), (1, .int (s_X9_openDots_4 now 768)), (2, .int (nI 768))] []
    refine z_iload_n (pc := 4) C 2 dX9_openDots_4 rfl ?_
    refine z_sipush (pc := 5) (v := 768) C dX9_openDots_5 (by decide) ?_
    refine z_icmp_ge (pc := 8) 40 C dX9_openDots_8 (by decide) (fun c_8 => ?_) (fun c_8 => ?_)
    · skip
      refine z_iload_n (pc := 40) C 1 dX9_openDots_40 rfl ?_
      exact z_iret (pc := 41) C E dX9_openDots_41 (pI.mk rfl rfl)
    · skip
      exact absurd (nI_le (Nat.le_refl 768) (by decide)) c_8

def b_X9_count_48 (now : Nat → Int32) (t : Int32) (x : Int32) (y : Int32) (i_38 : Nat) (i_48 : Nat) (z_48 : Int32) : Int32 := z_48 + (f_X9_dotOf now t (x + (nI i_48)) (y + (nI i_38)))
def s_X9_count_48 (now : Nat → Int32) (t : Int32) (x : Int32) (y : Int32) (i_38 : Nat) (z_38 : Int32) : Nat → Int32
  | 0 => z_38
  | i_48 + 1 => b_X9_count_48 now t x y i_38 i_48 (s_X9_count_48 now t x y i_38 z_38 i_48)
def b_X9_count_38 (now : Nat → Int32) (t : Int32) (x : Int32) (y : Int32) (w : Int32) (i_38 : Nat) (z_38 : Int32) : Int32 := (s_X9_count_48 now t x y i_38 z_38 w.toNatClampNeg)
def s_X9_count_38 (now : Nat → Int32) (t : Int32) (x : Int32) (y : Int32) (w : Int32) : Nat → Int32
  | 0 => 0
  | i_38 + 1 => b_X9_count_38 now t x y w i_38 (s_X9_count_38 now t x y w i_38)
def f_X9_count (now : Nat → Int32) (t : Int32) (x : Int32) (y : Int32) (w : Int32) (h : Int32) : Int32 := if (f_X9_isPicture t) = 0 then f_X9_bad (-2) else if (f_X9_isPlace x y) = 0 then f_X9_bad (-2) else if (f_X9_isSize w h) = 0 then f_X9_bad (-2) else (s_X9_count_38 now t x y w h.toNatClampNeg)
def g_X9_count_refused (refused : Nat → Int32) (t : Int32) (x : Int32) (y : Int32) (w : Int32) (h : Int32) : Nat → Int32 := if (f_X9_isPicture t) = 0 then g_X9_bad_refused refused else if (f_X9_isPlace x y) = 0 then g_X9_bad_refused refused else if (f_X9_isSize w h) = 0 then g_X9_bad_refused refused else refused
set_option maxRecDepth 100000 in
theorem c_X9_count {l : Launch} {G : zG} {da dn dp dr ds dl dc dt dg : Nat} {now : Nat → Int32} {past : Nat → Int32} {states : Int32} {refused : Nat → Int32} {aside : Nat → Int32} {pile : Nat → Int32} {came : Nat → Int32} {pileL : Int32} {text : Nat → Int32} {textL : Int32} {place : Int32} {nargs : Nat → Int32} {t : Int32} {x : Int32} {y : Int32} {w : Int32} {h : Int32} : Ct l G yX9_count cX9_count 9 (Option.some FieldType.int) 3 69 [.ref da, .int t, .int x, .int y, .int w, .int h] (wMd G da dn dp dr ds dl dc dt dg now past states refused aside pile came pileL text textL place nargs) (pI (f_X9_count now t x y w h) (wMd G da dn dp dr ds dl dc dt dg now past states (g_X9_count_refused refused t x y w h) aside pile came pileL text textL place nargs)) := by
  refine Ct.of (plainFor_of_name (by decide)) (Nat.le_of_ble_eq_true rfl) (pI.ad ad_Md) (fun X C E => ?_)
  show Z X G 9 0 0 _ 0 [(0, .ref da), (1, .int t), (2, .int x), (3, .int y), (4, .int w), (5, .int h)] []
  refine z_iload_n (pc := 0) C 1 dX9_count_0 rfl ?_
  refine z_callS (pc := 1) C (c_X9_isPicture) [] z00 mS_X9_isPicture q_871 dX9_count_1 rfl rfl rfl rfl (Nat.le_of_ble_eq_true rfl) (by decide) (pI.stay rfl ?_)
  refine z_if_eq (pc := 4) 25 C dX9_count_4 (by decide) (fun c_4 => ?_) (fun c_4 => ?_)
  · skip
    refine z_aload_n (pc := 25) C 0 dX9_count_25 rfl ?_
    refine z_bipush (pc := 26) (v := (-2)) C dX9_count_26 (by decide) ?_
    refine z_callV (pc := 28) C (c_X9_bad) [0, 1, 2, 3, 4, 5, 6, 7, 8] z00 mV_X9_bad q_883 dX9_count_28 rfl rfl rfl 0 rfl rfl rfl rfl (Nat.le_of_ble_eq_true rfl) (by decide) (pI.go (ws' := wMd G da dn dp dr ds dl dc dt dg now past states _ aside pile came pileL text textL place nargs) rfl ?_)
    exact z_iret (pc := 31) C E dX9_count_31 (pI.mk (by simp only [f_X9_count, if_pos c_4]) (by simp only [g_X9_count_refused, if_pos c_4]))
  · skip
    refine z_iload_n (pc := 7) C 2 dX9_count_7 rfl ?_
    refine z_iload_n (pc := 8) C 3 dX9_count_8 rfl ?_
    refine z_callS (pc := 9) C (c_X9_isPlace) [] z00 mS_X9_isPlace q_926 dX9_count_9 rfl rfl rfl rfl (Nat.le_of_ble_eq_true rfl) (by decide) (pI.stay rfl ?_)
    refine z_if_eq (pc := 12) 25 C dX9_count_12 (by decide) (fun c_12 => ?_) (fun c_12 => ?_)
    · skip
      refine z_aload_n (pc := 25) C 0 dX9_count_25 rfl ?_
      refine z_bipush (pc := 26) (v := (-2)) C dX9_count_26 (by decide) ?_
      refine z_callV (pc := 28) C (c_X9_bad) [0, 1, 2, 3, 4, 5, 6, 7, 8] z00 mV_X9_bad q_883 dX9_count_28 rfl rfl rfl 0 rfl rfl rfl rfl (Nat.le_of_ble_eq_true rfl) (by decide) (pI.go (ws' := wMd G da dn dp dr ds dl dc dt dg now past states _ aside pile came pileL text textL place nargs) rfl ?_)
      exact z_iret (pc := 31) C E dX9_count_31 (pI.mk (by simp only [f_X9_count, if_neg c_4, if_pos c_12]) (by simp only [g_X9_count_refused, if_neg c_4, if_pos c_12]))
    · skip
      refine z_iload (pc := 15) C 4 dX9_count_15 rfl ?_
      refine z_iload (pc := 17) C 5 dX9_count_17 rfl ?_
      refine z_callS (pc := 19) C (c_X9_isSize) [] z00 mS_X9_isSize q_931 dX9_count_19 rfl rfl rfl rfl (Nat.le_of_ble_eq_true rfl) (by decide) (pI.stay rfl ?_)
      refine z_if_ne (pc := 22) 32 C dX9_count_22 (by decide) (fun c_22 => ?_) (fun c_22 => ?_)
      · skip
        have hkw := hOk_nI (mS_ne c_22).1
        have hkh := hOk_nI (mS_ne c_22).2
        refine z_iconst (pc := 32) (v := 0) C dX9_count_32 (by decide) ?_
        refine z_istore (pc := 33) [(6, _), (0, _), (1, _), (2, _), (3, _), (4, _), (5, _)] C dX9_count_33 (by decide) rfl ?_
        refine z_iconst (pc := 35) (v := 0) C dX9_count_35 (by decide) ?_
        refine z_istore (pc := 36) [(7, _), (6, _), (0, _), (1, _), (2, _), (3, _), (4, _), (5, _)] C dX9_count_36 (by decide) rfl ?_
        refine z_lv (lv' := [(0, _), (1, _), (2, _), (3, _), (4, _), (5, _), (6, _), (7, _)]) [2, 3, 4, 5, 6, 7, 1, 0] rfl ?_
        refine z_loop (pc := 38) (e := h.toNatClampNeg) (fun i_38 => wMd G da dn dp dr ds dl dc dt dg now past states refused aside pile came pileL text textL place nargs) (fun i_38 => [(0, .ref da), (1, .int t), (2, .int x), (3, .int y), (4, .int w), (5, .int h), (6, .int (s_X9_count_38 now t x y w i_38)), (7, .int (nI i_38))]) [] (fun i_38 hi_38 ih_38 => ?_) ?_ 0 (Nat.zero_le _)
        · show Z X G 9 0 0 (wMd G da dn dp dr ds dl dc dt dg now past states refused aside pile came pileL text textL place nargs) 38 [(0, .ref da), (1, .int t), (2, .int x), (3, .int y), (4, .int w), (5, .int h), (6, .int (s_X9_count_38 now t x y w i_38)), (7, .int (nI i_38))] []
          generalize hz_38 : s_X9_count_38 now t x y w i_38 = z_38
          refine z_iload (pc := 38) C 7 dX9_count_38 rfl ?_
          refine z_iload (pc := 40) C 5 dX9_count_40 rfl ?_
          refine z_icmp_ge (pc := 42) 85 C dX9_count_42 (by decide) (fun c_42 => ?_) (fun c_42 => ?_)
          · skip
            exact absurd c_42 (lps (hkh.1) (by omega) (by omega))
          · skip
            refine z_iconst (pc := 45) (v := 0) C dX9_count_45 (by decide) ?_
            refine z_istore (pc := 46) [(8, _), (0, _), (1, _), (2, _), (3, _), (4, _), (5, _), (6, _), (7, _)] C dX9_count_46 (by decide) rfl ?_
            refine z_lv (lv' := [(0, _), (1, _), (2, _), (3, _), (4, _), (5, _), (6, _), (7, _), (8, _)]) [1, 2, 3, 4, 5, 6, 7, 8, 0] rfl ?_
            refine z_loop (pc := 48) (e := w.toNatClampNeg) (fun i_48 => wMd G da dn dp dr ds dl dc dt dg now past states refused aside pile came pileL text textL place nargs) (fun i_48 => [(0, .ref da), (1, .int t), (2, .int x), (3, .int y), (4, .int w), (5, .int h), (6, .int (s_X9_count_48 now t x y i_38 z_38 i_48)), (7, .int (nI i_38)), (8, .int (nI i_48))]) [] (fun i_48 hi_48 ih_48 => ?_) ?_ 0 (Nat.zero_le _)
            · show Z X G 9 0 0 (wMd G da dn dp dr ds dl dc dt dg now past states refused aside pile came pileL text textL place nargs) 48 [(0, .ref da), (1, .int t), (2, .int x), (3, .int y), (4, .int w), (5, .int h), (6, .int (s_X9_count_48 now t x y i_38 z_38 i_48)), (7, .int (nI i_38)), (8, .int (nI i_48))] []
              generalize hz_48 : s_X9_count_48 now t x y i_38 z_38 i_48 = z_48
              refine z_iload (pc := 48) C 8 dX9_count_48 rfl ?_
              refine z_iload (pc := 50) C 4 dX9_count_50 rfl ?_
              refine z_icmp_ge (pc := 52) 79 C dX9_count_52 (by decide) (fun c_52 => ?_) (fun c_52 => ?_)
              · skip
                exact absurd c_52 (lps (hkw.1) (by omega) (by omega))
              · skip
                refine z_iload (pc := 55) C 6 dX9_count_55 rfl ?_
                refine z_aload_n (pc := 57) C 0 dX9_count_57 rfl ?_
                refine z_iload_n (pc := 58) C 1 dX9_count_58 rfl ?_
                refine z_iload_n (pc := 59) C 2 dX9_count_59 rfl ?_
                refine z_iload (pc := 60) C 8 dX9_count_60 rfl ?_
                refine z_iadd (pc := 62) C dX9_count_62 ?_
                refine z_iload_n (pc := 63) C 3 dX9_count_63 rfl ?_
                refine z_iload (pc := 64) C 7 dX9_count_64 rfl ?_
                refine z_iadd (pc := 66) C dX9_count_66 ?_
                refine z_callV (pc := 67) C (c_X9_dotOf (by exact (mP_ne c_4))) [0, 1, 2, 3, 4, 5, 6, 7, 8] z00 mV_X9_dotOf q_895 dX9_count_67 rfl rfl rfl 0 rfl rfl rfl rfl (Nat.le_of_ble_eq_true rfl) (by decide) (pI.stay rfl ?_)
                refine z_iadd (pc := 70) C dX9_count_70 ?_
                refine z_istore (pc := 71) [(6, _), (0, _), (1, _), (2, _), (3, _), (4, _), (5, _), (7, _), (8, _)] C dX9_count_71 (by decide) rfl ?_
                refine z_iinc (pc := 73) (v := nI (i_48 + 1)) [(8, _), (6, _), (0, _), (1, _), (2, _), (3, _), (4, _), (5, _), (7, _)] C 8 dX9_count_73 rfl ((nI_succ _).symm) (by decide) rfl ?_
                refine z_goto (pc := 76) 48 C dX9_count_76 (by decide) ?_
                refine z_lv (lv' := [(0, _), (1, _), (2, _), (3, _), (4, _), (5, _), (6, _), (7, _), (8, _)]) [2, 3, 4, 5, 6, 7, 1, 8, 0] rfl ?_
                exact z_eq rfl (by simp only [s_X9_count_48, hz_48, b_X9_count_48]) rfl ih_48
            · show Z X G 9 0 0 (wMd G da dn dp dr ds dl dc dt dg now past states refused aside pile came pileL text textL place nargs) 48 [(0, .ref da), (1, .int t), (2, .int x), (3, .int y), (4, .int w), (5, .int h), (6, .int (s_X9_count_48 now t x y i_38 z_38 w.toNatClampNeg)), (7, .int (nI i_38)), (8, .int (nI w.toNatClampNeg))] []
              refine z_iload (pc := 48) C 8 dX9_count_48 rfl ?_
              refine z_iload (pc := 50) C 4 dX9_count_50 rfl ?_
              refine z_icmp_ge (pc := 52) 79 C dX9_count_52 (by decide) (fun c_52 => ?_) (fun c_52 => ?_)
              · skip
                refine z_iinc (pc := 79) (v := nI (i_38 + 1)) [(7, _), (0, _), (1, _), (2, _), (3, _), (4, _), (5, _), (6, _), (8, _)] C 7 dX9_count_79 rfl ((nI_succ _).symm) (by decide) rfl ?_
                refine z_goto (pc := 82) 38 C dX9_count_82 (by decide) ?_
                refine z_lv (lv' := [(0, _), (1, _), (2, _), (3, _), (4, _), (5, _), (6, _), (7, _)]) [1, 2, 3, 4, 5, 6, 7, 0] rfl ?_
                exact z_eq rfl (by simp only [s_X9_count_38, hz_38, b_X9_count_38]) rfl ih_38
              · skip
                exact absurd (lpx (hkw.1)) c_52
        · show Z X G 9 0 0 (wMd G da dn dp dr ds dl dc dt dg now past states refused aside pile came pileL text textL place nargs) 38 [(0, .ref da), (1, .int t), (2, .int x), (3, .int y), (4, .int w), (5, .int h), (6, .int (s_X9_count_38 now t x y w h.toNatClampNeg)), (7, .int (nI h.toNatClampNeg))] []
          refine z_iload (pc := 38) C 7 dX9_count_38 rfl ?_
          refine z_iload (pc := 40) C 5 dX9_count_40 rfl ?_
          refine z_icmp_ge (pc := 42) 85 C dX9_count_42 (by decide) (fun c_42 => ?_) (fun c_42 => ?_)
          · skip
            refine z_iload (pc := 85) C 6 dX9_count_85 rfl ?_
            exact z_iret (pc := 87) C E dX9_count_87 (pI.mk (by simp only [f_X9_count, if_neg c_4, if_neg c_12, if_neg c_22]) (by simp only [g_X9_count_refused, if_neg c_4, if_neg c_12, if_neg c_22]))
          · skip
            exact absurd (lpx (hkh.1)) c_42
      · skip
        refine z_aload_n (pc := 25) C 0 dX9_count_25 rfl ?_
        refine z_bipush (pc := 26) (v := (-2)) C dX9_count_26 (by decide) ?_
        refine z_callV (pc := 28) C (c_X9_bad) [0, 1, 2, 3, 4, 5, 6, 7, 8] z00 mV_X9_bad q_883 dX9_count_28 rfl rfl rfl 0 rfl rfl rfl rfl (Nat.le_of_ble_eq_true rfl) (by decide) (pI.go (ws' := wMd G da dn dp dr ds dl dc dt dg now past states _ aside pile came pileL text textL place nargs) rfl ?_)
        exact z_iret (pc := 31) C E dX9_count_31 (pI.mk (by simp only [f_X9_count, if_neg c_4, if_neg c_12, if_pos c_22]) (by simp only [g_X9_count_refused, if_neg c_4, if_neg c_12, if_pos c_22]))

def b_X9_unlike_26 (now : Nat → Int32) (s : Int32) (t : Int32) (i_26 : Nat) (z_26 : Int32) : Int32 := z_26 + (if (f_X9_dotOf now s ((nI i_26) - (nI i_26) / 32 * 32) ((nI i_26) / 32)) = (f_X9_dotOf now t ((nI i_26) - (nI i_26) / 32 * 32) ((nI i_26) / 32)) then 0 else 1 : Int32)
def s_X9_unlike_26 (now : Nat → Int32) (s : Int32) (t : Int32) : Nat → Int32
  | 0 => 0
  | i_26 + 1 => b_X9_unlike_26 now s t i_26 (s_X9_unlike_26 now s t i_26)
def f_X9_unlike (now : Nat → Int32) (s : Int32) (t : Int32) : Int32 := if (f_X9_isPicture s) = 0 then f_X9_bad (-2) else if (f_X9_isPicture t) = 0 then f_X9_bad (-2) else (s_X9_unlike_26 now s t 768)
def g_X9_unlike_refused (refused : Nat → Int32) (s : Int32) (t : Int32) : Nat → Int32 := if (f_X9_isPicture s) = 0 then g_X9_bad_refused refused else if (f_X9_isPicture t) = 0 then g_X9_bad_refused refused else refused
set_option maxRecDepth 100000 in
theorem c_X9_unlike {l : Launch} {G : zG} {da dn dp dr ds dl dc dt dg : Nat} {now : Nat → Int32} {past : Nat → Int32} {states : Int32} {refused : Nat → Int32} {aside : Nat → Int32} {pile : Nat → Int32} {came : Nat → Int32} {pileL : Int32} {text : Nat → Int32} {textL : Int32} {place : Int32} {nargs : Nat → Int32} {s : Int32} {t : Int32} : Ct l G yX9_unlike cX9_unlike 5 (Option.some FieldType.int) 3 69 [.ref da, .int s, .int t] (wMd G da dn dp dr ds dl dc dt dg now past states refused aside pile came pileL text textL place nargs) (pI (f_X9_unlike now s t) (wMd G da dn dp dr ds dl dc dt dg now past states (g_X9_unlike_refused refused s t) aside pile came pileL text textL place nargs)) := by
  refine Ct.of (plainFor_of_name (by decide)) (Nat.le_of_ble_eq_true rfl) (pI.ad ad_Md) (fun X C E => ?_)
  show Z X G 5 0 0 _ 0 [(0, .ref da), (1, .int s), (2, .int t)] []
  refine z_iload_n (pc := 0) C 1 dX9_unlike_0 rfl ?_
  refine z_callS (pc := 1) C (c_X9_isPicture) [] z00 mS_X9_isPicture q_871 dX9_unlike_1 rfl rfl rfl rfl (Nat.le_of_ble_eq_true rfl) (by decide) (pI.stay rfl ?_)
  refine z_if_eq (pc := 4) 14 C dX9_unlike_4 (by decide) (fun c_4 => ?_) (fun c_4 => ?_)
  · skip
    refine z_aload_n (pc := 14) C 0 dX9_unlike_14 rfl ?_
    refine z_bipush (pc := 15) (v := (-2)) C dX9_unlike_15 (by decide) ?_
    refine z_callV (pc := 17) C (c_X9_bad) [0, 1, 2, 3, 4, 5, 6, 7, 8] z00 mV_X9_bad q_883 dX9_unlike_17 rfl rfl rfl 0 rfl rfl rfl rfl (Nat.le_of_ble_eq_true rfl) (by decide) (pI.go (ws' := wMd G da dn dp dr ds dl dc dt dg now past states _ aside pile came pileL text textL place nargs) rfl ?_)
    exact z_iret (pc := 20) C E dX9_unlike_20 (pI.mk (by simp only [f_X9_unlike, if_pos c_4]) (by simp only [g_X9_unlike_refused, if_pos c_4]))
  · skip
    refine z_iload_n (pc := 7) C 2 dX9_unlike_7 rfl ?_
    refine z_callS (pc := 8) C (c_X9_isPicture) [] z00 mS_X9_isPicture q_871 dX9_unlike_8 rfl rfl rfl rfl (Nat.le_of_ble_eq_true rfl) (by decide) (pI.stay rfl ?_)
    refine z_if_ne (pc := 11) 21 C dX9_unlike_11 (by decide) (fun c_11 => ?_) (fun c_11 => ?_)
    · skip
      refine z_iconst (pc := 21) (v := 0) C dX9_unlike_21 (by decide) ?_
      refine z_istore_n (pc := 22) [(3, _), (0, _), (1, _), (2, _)] C dX9_unlike_22 rfl (by decide) rfl ?_
      refine z_iconst (pc := 23) (v := 0) C dX9_unlike_23 (by decide) ?_
      refine z_istore (pc := 24) [(4, _), (3, _), (0, _), (1, _), (2, _)] C dX9_unlike_24 (by decide) rfl ?_
      refine z_lv (lv' := [(0, _), (1, _), (2, _), (3, _), (4, _)]) [2, 3, 4, 1, 0] rfl ?_
      refine z_loop (pc := 26) (e := 768) (fun i_26 => wMd G da dn dp dr ds dl dc dt dg now past states refused aside pile came pileL text textL place nargs) (fun i_26 => [(0, .ref da), (1, .int s), (2, .int t), (3, .int (s_X9_unlike_26 now s t i_26)), (4, .int (nI i_26))]) [] (fun i_26 hi_26 ih_26 => ?_) ?_ 0 (Nat.zero_le _)
      · show Z X G 5 0 0 (wMd G da dn dp dr ds dl dc dt dg now past states refused aside pile came pileL text textL place nargs) 26 [(0, .ref da), (1, .int s), (2, .int t), (3, .int (s_X9_unlike_26 now s t i_26)), (4, .int (nI i_26))] []
        generalize hz_26 : s_X9_unlike_26 now s t i_26 = z_26
        refine z_iload (pc := 26) C 4 dX9_unlike_26 rfl ?_
        refine z_sipush (pc := 28) (v := 768) C dX9_unlike_28 (by decide) ?_
        refine z_icmp_ge (pc := 31) 81 C dX9_unlike_31 (by decide) (fun c_31 => ?_) (fun c_31 => ?_)
        · skip
          exact absurd c_31 (nI_ge (b := 768) (by omega) (by decide))
        · skip
          refine z_iload_n (pc := 34) C 3 dX9_unlike_34 rfl ?_
          refine z_aload_n (pc := 35) C 0 dX9_unlike_35 rfl ?_
          refine z_iload_n (pc := 36) C 1 dX9_unlike_36 rfl ?_
          refine z_iload (pc := 37) C 4 dX9_unlike_37 rfl ?_
          refine z_bipush (pc := 39) (v := 32) C dX9_unlike_39 (by decide) ?_
          refine z_irem (pc := 41) C dX9_unlike_41 (by decide) ?_
          refine z_iload (pc := 42) C 4 dX9_unlike_42 rfl ?_
          refine z_bipush (pc := 44) (v := 32) C dX9_unlike_44 (by decide) ?_
          refine z_idiv (pc := 46) C dX9_unlike_46 (by decide) ?_
          refine z_callV (pc := 47) C (c_X9_dotOf (by exact (mP_ne c_4))) [0, 1, 2, 3, 4, 5, 6, 7, 8] z00 mV_X9_dotOf q_895 dX9_unlike_47 rfl rfl rfl 0 rfl rfl rfl rfl (Nat.le_of_ble_eq_true rfl) (by decide) (pI.stay rfl ?_)
          refine z_aload_n (pc := 50) C 0 dX9_unlike_50 rfl ?_
          refine z_iload_n (pc := 51) C 2 dX9_unlike_51 rfl ?_
          refine z_iload (pc := 52) C 4 dX9_unlike_52 rfl ?_
          refine z_bipush (pc := 54) (v := 32) C dX9_unlike_54 (by decide) ?_
          refine z_irem (pc := 56) C dX9_unlike_56 (by decide) ?_
          refine z_iload (pc := 57) C 4 dX9_unlike_57 rfl ?_
          refine z_bipush (pc := 59) (v := 32) C dX9_unlike_59 (by decide) ?_
          refine z_idiv (pc := 61) C dX9_unlike_61 (by decide) ?_
          refine z_callV (pc := 62) C (c_X9_dotOf (by exact (mP_ne c_11))) [0, 1, 2, 3, 4, 5, 6, 7, 8] z00 mV_X9_dotOf q_895 dX9_unlike_62 rfl rfl rfl 0 rfl rfl rfl rfl (Nat.le_of_ble_eq_true rfl) (by decide) (pI.stay rfl ?_)
          have K_73 : Z X G 5 0 0 (wMd G da dn dp dr ds dl dc dt dg now past states refused aside pile came pileL text textL place nargs) 73 [(0, .ref da), (1, .int s), (2, .int t), (3, .int z_26), (4, .int (nI i_26))] [.int (if (f_X9_dotOf now s ((nI i_26) - (nI i_26) / 32 * 32) ((nI i_26) / 32)) = (f_X9_dotOf now t ((nI i_26) - (nI i_26) / 32 * 32) ((nI i_26) / 32)) then 0 else 1 : Int32), .int z_26] := by
            refine z_iadd (pc := 73) C dX9_unlike_73 ?_
            refine z_istore_n (pc := 74) [(3, _), (0, _), (1, _), (2, _), (4, _)] C dX9_unlike_74 rfl (by decide) rfl ?_
            refine z_iinc (pc := 75) (v := nI (i_26 + 1)) [(4, _), (3, _), (0, _), (1, _), (2, _)] C 4 dX9_unlike_75 rfl ((nI_succ _).symm) (by decide) rfl ?_
            refine z_goto (pc := 78) 26 C dX9_unlike_78 (by decide) ?_
            refine z_lv (lv' := [(0, _), (1, _), (2, _), (3, _), (4, _)]) [2, 3, 4, 1, 0] rfl ?_
            exact z_eq rfl (by simp only [s_X9_unlike_26, hz_26, b_X9_unlike_26]) rfl ih_26
          refine z_icmp_ne (pc := 65) 72 C dX9_unlike_65 (by decide) (fun c_65 => ?_) (fun c_65 => ?_)
          · skip
            refine z_iconst (pc := 72) (v := 1) C dX9_unlike_72 (by decide) ?_
            refine z_lv (lv' := [(0, _), (1, _), (2, _), (3, _), (4, _)]) [0, 1, 2, 3, 4] rfl ?_
            exact z_eq rfl rfl (by simp only [if_neg c_65]) K_73
          · skip
            refine z_iconst (pc := 68) (v := 0) C dX9_unlike_68 (by decide) ?_
            refine z_goto (pc := 69) 73 C dX9_unlike_69 (by decide) ?_
            refine z_lv (lv' := [(0, _), (1, _), (2, _), (3, _), (4, _)]) [0, 1, 2, 3, 4] rfl ?_
            exact z_eq rfl rfl (by simp only [if_pos c_65]) K_73
      · show Z X G 5 0 0 (wMd G da dn dp dr ds dl dc dt dg now past states refused aside pile came pileL text textL place nargs) 26 [(0, .ref da), (1, .int s), (2, .int t), (3, .int (s_X9_unlike_26 now s t 768)), (4, .int (nI 768))] []
        refine z_iload (pc := 26) C 4 dX9_unlike_26 rfl ?_
        refine z_sipush (pc := 28) (v := 768) C dX9_unlike_28 (by decide) ?_
        refine z_icmp_ge (pc := 31) 81 C dX9_unlike_31 (by decide) (fun c_31 => ?_) (fun c_31 => ?_)
        · skip
          refine z_iload_n (pc := 81) C 3 dX9_unlike_81 rfl ?_
          exact z_iret (pc := 82) C E dX9_unlike_82 (pI.mk (by simp only [f_X9_unlike, if_neg c_4, if_neg c_11]) (by simp only [g_X9_unlike_refused, if_neg c_4, if_neg c_11]))
        · skip
          exact absurd (nI_le (Nat.le_refl 768) (by decide)) c_31
    · skip
      refine z_aload_n (pc := 14) C 0 dX9_unlike_14 rfl ?_
      refine z_bipush (pc := 15) (v := (-2)) C dX9_unlike_15 (by decide) ?_
      refine z_callV (pc := 17) C (c_X9_bad) [0, 1, 2, 3, 4, 5, 6, 7, 8] z00 mV_X9_bad q_883 dX9_unlike_17 rfl rfl rfl 0 rfl rfl rfl rfl (Nat.le_of_ble_eq_true rfl) (by decide) (pI.go (ws' := wMd G da dn dp dr ds dl dc dt dg now past states _ aside pile came pileL text textL place nargs) rfl ?_)
      exact z_iret (pc := 20) C E dX9_unlike_20 (pI.mk (by simp only [f_X9_unlike, if_neg c_4, if_pos c_11]) (by simp only [g_X9_unlike_refused, if_neg c_4, if_pos c_11]))

def r_X9_isLike_21 (now : Nat → Int32) (s : Int32) (x : Int32) (y : Int32) (t : Int32) (toX : Int32) (toY : Int32) (i_6 : Nat) : Nat → Nat → (Int32) → Int32
  | 0, i_21, z_21 => z_21
  | n_21 + 1, i_21, z_21 => if z_21 = 0 then z_21 else r_X9_isLike_21 now s x y t toX toY i_6 n_21 (i_21 + 1) (if (f_X9_dotOf now s (x + (nI i_21)) (y + (nI i_6))) = (f_X9_dotOf now t (toX + (nI i_21)) (toY + (nI i_6))) then 1 else 0 : Int32)
def r_X9_isLike_6 (now : Nat → Int32) (s : Int32) (x : Int32) (y : Int32) (w : Int32) (t : Int32) (toX : Int32) (toY : Int32) : Nat → Nat → (Int32) → Int32
  | 0, i_6, z_6 => z_6
  | n_6 + 1, i_6, z_6 => if z_6 = 0 then z_6 else r_X9_isLike_6 now s x y w t toX toY n_6 (i_6 + 1) (r_X9_isLike_21 now s x y t toX toY i_6 w.toNatClampNeg 0 z_6)
def f_X9_isLike (now : Nat → Int32) (s : Int32) (x : Int32) (y : Int32) (w : Int32) (h : Int32) (t : Int32) (toX : Int32) (toY : Int32) : Int32 := (r_X9_isLike_6 now s x y w t toX toY h.toNatClampNeg 0 1)
theorem il_1 {now : Nat → Int32} {s x y t toX toY : Int32} {j : Nat} : ∀ (n i : Nat) (z : Int32), (z = 0 ∨ z = 1) → (r_X9_isLike_21 now s x y t toX toY j n i z = 0 ∨ r_X9_isLike_21 now s x y t toX toY j n i z = 1)
  | 0, i, z, h => h
  | n + 1, i, z, h => by
    unfold r_X9_isLike_21
    split
    · exact h
    · exact il_1 n (i + 1) _ (by split <;> simp)
theorem il_2 {now : Nat → Int32} {s x y w t toX toY : Int32} : ∀ (n i : Nat) (z : Int32), (z = 0 ∨ z = 1) → (r_X9_isLike_6 now s x y w t toX toY n i z = 0 ∨ r_X9_isLike_6 now s x y w t toX toY n i z = 1)
  | 0, i, z, h => h
  | n + 1, i, z, h => by
    unfold r_X9_isLike_6
    split
    · exact h
    · exact il_2 n (i + 1) _ (il_1 _ _ _ h)
theorem nb_X9_isLike {now : Nat → Int32} {s x y w h t toX toY : Int32} : narrow .boolean (.int (f_X9_isLike now s x y w h t toX toY)) = .int (f_X9_isLike now s x y w h t toX toY) := by
  unfold f_X9_isLike
  rcases il_2 (now := now) (s := s) (x := x) (y := y) (w := w) (t := t) (toX := toX) (toY := toY) h.toNatClampNeg 0 1 (Or.inr rfl) with h | h <;> rw [h] <;> rfl
set_option maxRecDepth 100000 in
theorem c_X9_isLike {l : Launch} {G : zG} {da dn dp dr ds dl dc dt dg : Nat} {now : Nat → Int32} {past : Nat → Int32} {states : Int32} {refused : Nat → Int32} {aside : Nat → Int32} {pile : Nat → Int32} {came : Nat → Int32} {pileL : Int32} {text : Nat → Int32} {textL : Int32} {place : Int32} {nargs : Nat → Int32} {s : Int32} {x : Int32} {y : Int32} {w : Int32} {h : Int32} {t : Int32} {toX : Int32} {toY : Int32} (hs : pT s) (hT : pT t) (hw : kOk w) (hh : kOk h) : Ct l G yX9_isLike cX9_isLike 12 (Option.some FieldType.boolean) 3 69 [.ref da, .int s, .int x, .int y, .int w, .int h, .int t, .int toX, .int toY] (wMd G da dn dp dr ds dl dc dt dg now past states refused aside pile came pileL text textL place nargs) (pI (f_X9_isLike now s x y w h t toX toY) (wMd G da dn dp dr ds dl dc dt dg now past states refused aside pile came pileL text textL place nargs)) := by
  refine Ct.of (plainFor_of_name (by decide)) (Nat.le_of_ble_eq_true rfl) (pI.ad ad_Md) (fun X C E => ?_)
  show Z X G 12 0 0 _ 0 [(0, .ref da), (1, .int s), (2, .int x), (3, .int y), (4, .int w), (5, .int h), (6, .int t), (7, .int toX), (8, .int toY)] []
  have hkw := kOk_nI hw
  have hkh := kOk_nI hh
  refine z_iconst (pc := 0) (v := 1) C dX9_isLike_0 (by decide) ?_
  refine z_istore (pc := 1) [(9, _), (0, _), (1, _), (2, _), (3, _), (4, _), (5, _), (6, _), (7, _), (8, _)] C dX9_isLike_1 (by decide) rfl ?_
  refine z_iconst (pc := 3) (v := 0) C dX9_isLike_3 (by decide) ?_
  refine z_istore (pc := 4) [(10, _), (9, _), (0, _), (1, _), (2, _), (3, _), (4, _), (5, _), (6, _), (7, _), (8, _)] C dX9_isLike_4 (by decide) rfl ?_
  refine z_lv (lv' := [(0, _), (1, _), (2, _), (3, _), (4, _), (5, _), (6, _), (7, _), (8, _), (9, _), (10, _)]) [2, 3, 4, 5, 6, 7, 8, 9, 10, 1, 0] rfl ?_
  have L_6 : ∀ (n_6 i_6 : Nat) (z_6 : Int32), n_6 + i_6 = h.toNatClampNeg → Z X G 12 0 0 (wMd G da dn dp dr ds dl dc dt dg now past states refused aside pile came pileL text textL place nargs) 84 [(0, .ref da), (1, .int s), (2, .int x), (3, .int y), (4, .int w), (5, .int h), (6, .int t), (7, .int toX), (8, .int toY), (9, .int (r_X9_isLike_6 now s x y w t toX toY n_6 i_6 z_6))] [] → Z X G 12 0 0 (wMd G da dn dp dr ds dl dc dt dg now past states refused aside pile came pileL text textL place nargs) 6 [(0, .ref da), (1, .int s), (2, .int x), (3, .int y), (4, .int w), (5, .int h), (6, .int t), (7, .int toX), (8, .int toY), (9, .int z_6), (10, .int (nI i_6))] [] := by
    intro n_6
    induction n_6 with
    | zero =>
      intro i_6 z_6 hn_6 hF_6
      obtain rfl : i_6 = h.toNatClampNeg := by omega
      refine z_iload (pc := 6) C 10 dX9_isLike_6 rfl ?_
      refine z_iload (pc := 8) C 5 dX9_isLike_8 rfl ?_
      refine z_icmp_ge (pc := 10) 84 C dX9_isLike_10 (by decide) (fun c_10 => ?_) (fun c_10 => ?_)
      · skip
        refine z_lv (lv' := [(0, _), (1, _), (2, _), (3, _), (4, _), (5, _), (6, _), (7, _), (8, _), (9, _)]) [0, 1, 2, 3, 4, 5, 6, 7, 8, 9] rfl ?_
        simp only [r_X9_isLike_6] at hF_6
        exact hF_6
      · skip
        exact absurd (lpx (hkh.1)) c_10
    | succ n_6 ih_6 =>
      intro i_6 z_6 hn_6 hF_6
      have hi_6 : i_6 < h.toNatClampNeg := by omega
      refine z_iload (pc := 6) C 10 dX9_isLike_6 rfl ?_
      refine z_iload (pc := 8) C 5 dX9_isLike_8 rfl ?_
      refine z_icmp_ge (pc := 10) 84 C dX9_isLike_10 (by decide) (fun c_10 => ?_) (fun c_10 => ?_)
      · skip
        exact absurd c_10 (lps (hkh.1) (by omega) (by omega))
      · skip
        refine z_iload (pc := 13) C 9 dX9_isLike_13 rfl ?_
        refine z_if_eq (pc := 15) 84 C dX9_isLike_15 (by decide) (fun c_15 => ?_) (fun c_15 => ?_)
        · skip
          refine z_lv (lv' := [(0, _), (1, _), (2, _), (3, _), (4, _), (5, _), (6, _), (7, _), (8, _), (9, _)]) [0, 1, 2, 3, 4, 5, 6, 7, 8, 9] rfl ?_
          simp only [r_X9_isLike_6, if_pos c_15] at hF_6
          exact hF_6
        · skip
          refine z_iconst (pc := 18) (v := 0) C dX9_isLike_18 (by decide) ?_
          refine z_istore (pc := 19) [(11, _), (0, _), (1, _), (2, _), (3, _), (4, _), (5, _), (6, _), (7, _), (8, _), (9, _), (10, _)] C dX9_isLike_19 (by decide) rfl ?_
          refine z_lv (lv' := [(0, _), (1, _), (2, _), (3, _), (4, _), (5, _), (6, _), (7, _), (8, _), (9, _), (10, _), (11, _)]) [1, 2, 3, 4, 5, 6, 7, 8, 9, 10, 11, 0] rfl ?_
          have L_21 : ∀ (n_21 i_21 : Nat) (z_21 : Int32), n_21 + i_21 = w.toNatClampNeg → Z X G 12 0 0 (wMd G da dn dp dr ds dl dc dt dg now past states refused aside pile came pileL text textL place nargs) 78 [(0, .ref da), (1, .int s), (2, .int x), (3, .int y), (4, .int w), (5, .int h), (6, .int t), (7, .int toX), (8, .int toY), (9, .int (r_X9_isLike_21 now s x y t toX toY i_6 n_21 i_21 z_21)), (10, .int (nI i_6))] [] → Z X G 12 0 0 (wMd G da dn dp dr ds dl dc dt dg now past states refused aside pile came pileL text textL place nargs) 21 [(0, .ref da), (1, .int s), (2, .int x), (3, .int y), (4, .int w), (5, .int h), (6, .int t), (7, .int toX), (8, .int toY), (9, .int z_21), (10, .int (nI i_6)), (11, .int (nI i_21))] [] := by
            intro n_21
            induction n_21 with
            | zero =>
              intro i_21 z_21 hn_21 hF_21
              obtain rfl : i_21 = w.toNatClampNeg := by omega
              refine z_iload (pc := 21) C 11 dX9_isLike_21 rfl ?_
              refine z_iload (pc := 23) C 4 dX9_isLike_23 rfl ?_
              refine z_icmp_ge (pc := 25) 78 C dX9_isLike_25 (by decide) (fun c_25 => ?_) (fun c_25 => ?_)
              · skip
                refine z_lv (lv' := [(0, _), (1, _), (2, _), (3, _), (4, _), (5, _), (6, _), (7, _), (8, _), (9, _), (10, _)]) [0, 1, 2, 3, 4, 5, 6, 7, 8, 9, 10] rfl ?_
                simp only [r_X9_isLike_21] at hF_21
                exact hF_21
              · skip
                exact absurd (lpx (hkw.1)) c_25
            | succ n_21 ih_21 =>
              intro i_21 z_21 hn_21 hF_21
              have hi_21 : i_21 < w.toNatClampNeg := by omega
              refine z_iload (pc := 21) C 11 dX9_isLike_21 rfl ?_
              refine z_iload (pc := 23) C 4 dX9_isLike_23 rfl ?_
              refine z_icmp_ge (pc := 25) 78 C dX9_isLike_25 (by decide) (fun c_25 => ?_) (fun c_25 => ?_)
              · skip
                exact absurd c_25 (lps (hkw.1) (by omega) (by omega))
              · skip
                refine z_iload (pc := 28) C 9 dX9_isLike_28 rfl ?_
                refine z_if_eq (pc := 30) 78 C dX9_isLike_30 (by decide) (fun c_30 => ?_) (fun c_30 => ?_)
                · skip
                  refine z_lv (lv' := [(0, _), (1, _), (2, _), (3, _), (4, _), (5, _), (6, _), (7, _), (8, _), (9, _), (10, _)]) [0, 1, 2, 3, 4, 5, 6, 7, 8, 9, 10] rfl ?_
                  simp only [r_X9_isLike_21, if_pos c_30] at hF_21
                  exact hF_21
                · skip
                  refine z_aload_n (pc := 33) C 0 dX9_isLike_33 rfl ?_
                  refine z_iload_n (pc := 34) C 1 dX9_isLike_34 rfl ?_
                  refine z_iload_n (pc := 35) C 2 dX9_isLike_35 rfl ?_
                  refine z_iload (pc := 36) C 11 dX9_isLike_36 rfl ?_
                  refine z_iadd (pc := 38) C dX9_isLike_38 ?_
                  refine z_iload_n (pc := 39) C 3 dX9_isLike_39 rfl ?_
                  refine z_iload (pc := 40) C 10 dX9_isLike_40 rfl ?_
                  refine z_iadd (pc := 42) C dX9_isLike_42 ?_
                  refine z_callV (pc := 43) C (c_X9_dotOf (by exact hs)) [0, 1, 2, 3, 4, 5, 6, 7, 8] z00 mV_X9_dotOf q_895 dX9_isLike_43 rfl rfl rfl 0 rfl rfl rfl rfl (Nat.le_of_ble_eq_true rfl) (by decide) (pI.stay rfl ?_)
                  refine z_aload_n (pc := 46) C 0 dX9_isLike_46 rfl ?_
                  refine z_iload (pc := 47) C 6 dX9_isLike_47 rfl ?_
                  refine z_iload (pc := 49) C 7 dX9_isLike_49 rfl ?_
                  refine z_iload (pc := 51) C 11 dX9_isLike_51 rfl ?_
                  refine z_iadd (pc := 53) C dX9_isLike_53 ?_
                  refine z_iload (pc := 54) C 8 dX9_isLike_54 rfl ?_
                  refine z_iload (pc := 56) C 10 dX9_isLike_56 rfl ?_
                  refine z_iadd (pc := 58) C dX9_isLike_58 ?_
                  refine z_callV (pc := 59) C (c_X9_dotOf (by exact hT)) [0, 1, 2, 3, 4, 5, 6, 7, 8] z00 mV_X9_dotOf q_895 dX9_isLike_59 rfl rfl rfl 0 rfl rfl rfl rfl (Nat.le_of_ble_eq_true rfl) (by decide) (pI.stay rfl ?_)
                  have K_70 : Z X G 12 0 0 (wMd G da dn dp dr ds dl dc dt dg now past states refused aside pile came pileL text textL place nargs) 70 [(0, .ref da), (1, .int s), (2, .int x), (3, .int y), (4, .int w), (5, .int h), (6, .int t), (7, .int toX), (8, .int toY), (9, .int z_21), (10, .int (nI i_6)), (11, .int (nI i_21))] [.int (if (f_X9_dotOf now s (x + (nI i_21)) (y + (nI i_6))) = (f_X9_dotOf now t (toX + (nI i_21)) (toY + (nI i_6))) then 1 else 0 : Int32)] := by
                    refine z_istore (pc := 70) [(9, _), (0, _), (1, _), (2, _), (3, _), (4, _), (5, _), (6, _), (7, _), (8, _), (10, _), (11, _)] C dX9_isLike_70 (by decide) rfl ?_
                    refine z_iinc (pc := 72) (v := nI (i_21 + 1)) [(11, _), (9, _), (0, _), (1, _), (2, _), (3, _), (4, _), (5, _), (6, _), (7, _), (8, _), (10, _)] C 11 dX9_isLike_72 rfl ((nI_succ _).symm) (by decide) rfl ?_
                    refine z_goto (pc := 75) 21 C dX9_isLike_75 (by decide) ?_
                    refine z_lv (lv' := [(0, _), (1, _), (2, _), (3, _), (4, _), (5, _), (6, _), (7, _), (8, _), (9, _), (10, _), (11, _)]) [2, 3, 4, 5, 6, 7, 8, 9, 10, 1, 11, 0] rfl ?_
                    exact ih_21 (i_21 + 1) (if (f_X9_dotOf now s (x + (nI i_21)) (y + (nI i_6))) = (f_X9_dotOf now t (toX + (nI i_21)) (toY + (nI i_6))) then 1 else 0 : Int32) (by omega) (by simp only [r_X9_isLike_21, if_neg c_30] at hF_21; exact hF_21)
                  refine z_icmp_ne (pc := 62) 69 C dX9_isLike_62 (by decide) (fun c_62 => ?_) (fun c_62 => ?_)
                  · skip
                    refine z_iconst (pc := 69) (v := 0) C dX9_isLike_69 (by decide) ?_
                    refine z_lv (lv' := [(0, _), (1, _), (2, _), (3, _), (4, _), (5, _), (6, _), (7, _), (8, _), (9, _), (10, _), (11, _)]) [0, 1, 2, 3, 4, 5, 6, 7, 8, 9, 10, 11] rfl ?_
                    exact z_eq rfl rfl (by simp only [if_neg c_62]) K_70
                  · skip
                    refine z_iconst (pc := 65) (v := 1) C dX9_isLike_65 (by decide) ?_
                    refine z_goto (pc := 66) 70 C dX9_isLike_66 (by decide) ?_
                    refine z_lv (lv' := [(0, _), (1, _), (2, _), (3, _), (4, _), (5, _), (6, _), (7, _), (8, _), (9, _), (10, _), (11, _)]) [0, 1, 2, 3, 4, 5, 6, 7, 8, 9, 10, 11] rfl ?_
                    exact z_eq rfl rfl (by simp only [if_pos c_62]) K_70
          refine L_21 w.toNatClampNeg 0 z_6 (by omega) ?_
          show Z X G 12 0 0 (wMd G da dn dp dr ds dl dc dt dg now past states refused aside pile came pileL text textL place nargs) 78 [(0, .ref da), (1, .int s), (2, .int x), (3, .int y), (4, .int w), (5, .int h), (6, .int t), (7, .int toX), (8, .int toY), (9, .int (r_X9_isLike_21 now s x y t toX toY i_6 w.toNatClampNeg 0 z_6)), (10, .int (nI i_6))] []
          refine z_iinc (pc := 78) (v := nI (i_6 + 1)) [(10, _), (0, _), (1, _), (2, _), (3, _), (4, _), (5, _), (6, _), (7, _), (8, _), (9, _)] C 10 dX9_isLike_78 rfl ((nI_succ _).symm) (by decide) rfl ?_
          refine z_goto (pc := 81) 6 C dX9_isLike_81 (by decide) ?_
          refine z_lv (lv' := [(0, _), (1, _), (2, _), (3, _), (4, _), (5, _), (6, _), (7, _), (8, _), (9, _), (10, _)]) [1, 2, 3, 4, 5, 6, 7, 8, 9, 10, 0] rfl ?_
          exact ih_6 (i_6 + 1) (r_X9_isLike_21 now s x y t toX toY i_6 w.toNatClampNeg 0 z_6) (by omega) (by simp only [r_X9_isLike_6, if_neg c_15] at hF_6; exact hF_6)
  refine L_6 h.toNatClampNeg 0 1 (by omega) ?_
  show Z X G 12 0 0 (wMd G da dn dp dr ds dl dc dt dg now past states refused aside pile came pileL text textL place nargs) 84 [(0, .ref da), (1, .int s), (2, .int x), (3, .int y), (4, .int w), (5, .int h), (6, .int t), (7, .int toX), (8, .int toY), (9, .int (r_X9_isLike_6 now s x y w t toX toY h.toNatClampNeg 0 1))] []
  refine z_iload (pc := 84) C 9 dX9_isLike_84 rfl ?_
  exact z_zret (pc := 86) C E dX9_isLike_86 (nb_X9_isLike) (pI.mk rfl rfl)

theorem fd_s {h : Int32} {i n B : Nat} (hh : h = nI n) (hi : i < B - n + 1) (hn : n ≤ B) (hB : B < 1000) : ¬ nI B < nI i + h := by
  rw [hh, nI_add]; exact nI_nlt (by omega) (by omega)
theorem fd_x {h : Int32} {n B : Nat} (hh : h = nI n) (hn : n ≤ B) (hB : B < 1000) : nI B < nI (B - n + 1) + h := by
  rw [hh, nI_add]; exact nI_lt (by omega) (by omega)

def b_X9_finds_97 (now : Nat → Int32) (s : Int32) (x : Int32) (y : Int32) (w : Int32) (h : Int32) (t : Int32) (i_84 : Nat) (i_97 : Nat) (z_97 : Int32) : Int32 := z_97 + (if (f_X9_isLike now s x y w h t (nI i_97) (nI i_84)) = 0 then 0 else 1 : Int32)
def s_X9_finds_97 (now : Nat → Int32) (s : Int32) (x : Int32) (y : Int32) (w : Int32) (h : Int32) (t : Int32) (i_84 : Nat) (z_84 : Int32) : Nat → Int32
  | 0 => z_84
  | i_97 + 1 => b_X9_finds_97 now s x y w h t i_84 i_97 (s_X9_finds_97 now s x y w h t i_84 z_84 i_97)
def b_X9_finds_84 (now : Nat → Int32) (s : Int32) (x : Int32) (y : Int32) (w : Int32) (h : Int32) (t : Int32) (i_84 : Nat) (z_84 : Int32) : Int32 := (s_X9_finds_97 now s x y w h t i_84 z_84 (32 - w.toNatClampNeg + 1))
def s_X9_finds_84 (now : Nat → Int32) (s : Int32) (x : Int32) (y : Int32) (w : Int32) (h : Int32) (t : Int32) : Nat → Int32
  | 0 => 0
  | i_84 + 1 => b_X9_finds_84 now s x y w h t i_84 (s_X9_finds_84 now s x y w h t i_84)
def f_X9_finds (now : Nat → Int32) (s : Int32) (x : Int32) (y : Int32) (w : Int32) (h : Int32) (t : Int32) : Int32 := if (f_X9_isPicture s) = 0 then f_X9_bad (-2) else if (f_X9_in w.toInt64 1 8) = 0 then f_X9_bad (-2) else if (f_X9_in h.toInt64 1 8) = 0 then f_X9_bad (-2) else if (f_X9_in x.toInt64 0 ((32 - w).toInt64)) = 0 then f_X9_bad (-2) else if (f_X9_in y.toInt64 0 ((24 - h).toInt64)) = 0 then f_X9_bad (-2) else if (f_X9_isPicture t) = 0 then f_X9_bad (-2) else (s_X9_finds_84 now s x y w h t (24 - h.toNatClampNeg + 1))
def g_X9_finds_refused (refused : Nat → Int32) (s : Int32) (x : Int32) (y : Int32) (w : Int32) (h : Int32) (t : Int32) : Nat → Int32 := if (f_X9_isPicture s) = 0 then g_X9_bad_refused refused else if (f_X9_in w.toInt64 1 8) = 0 then g_X9_bad_refused refused else if (f_X9_in h.toInt64 1 8) = 0 then g_X9_bad_refused refused else if (f_X9_in x.toInt64 0 ((32 - w).toInt64)) = 0 then g_X9_bad_refused refused else if (f_X9_in y.toInt64 0 ((24 - h).toInt64)) = 0 then g_X9_bad_refused refused else if (f_X9_isPicture t) = 0 then g_X9_bad_refused refused else refused
set_option maxRecDepth 100000 in
theorem c_X9_finds {l : Launch} {G : zG} {da dn dp dr ds dl dc dt dg : Nat} {now : Nat → Int32} {past : Nat → Int32} {states : Int32} {refused : Nat → Int32} {aside : Nat → Int32} {pile : Nat → Int32} {came : Nat → Int32} {pileL : Int32} {text : Nat → Int32} {textL : Int32} {place : Int32} {nargs : Nat → Int32} {s : Int32} {x : Int32} {y : Int32} {w : Int32} {h : Int32} {t : Int32} : Ct l G yX9_finds cX9_finds 10 (Option.some FieldType.int) 4 100 [.ref da, .int s, .int x, .int y, .int w, .int h, .int t] (wMd G da dn dp dr ds dl dc dt dg now past states refused aside pile came pileL text textL place nargs) (pI (f_X9_finds now s x y w h t) (wMd G da dn dp dr ds dl dc dt dg now past states (g_X9_finds_refused refused s x y w h t) aside pile came pileL text textL place nargs)) := by
  refine Ct.of (plainFor_of_name (by decide)) (Nat.le_of_ble_eq_true rfl) (pI.ad ad_Md) (fun X C E => ?_)
  show Z X G 10 0 0 _ 0 [(0, .ref da), (1, .int s), (2, .int x), (3, .int y), (4, .int w), (5, .int h), (6, .int t)] []
  refine z_iload_n (pc := 0) C 1 dX9_finds_0 rfl ?_
  refine z_callS (pc := 1) C (c_X9_isPicture) [] z00 mS_X9_isPicture q_871 dX9_finds_1 rfl rfl rfl rfl (Nat.le_of_ble_eq_true rfl) (by decide) (pI.stay rfl ?_)
  refine z_if_eq (pc := 4) 71 C dX9_finds_4 (by decide) (fun c_4 => ?_) (fun c_4 => ?_)
  · skip
    refine z_aload_n (pc := 71) C 0 dX9_finds_71 rfl ?_
    refine z_bipush (pc := 72) (v := (-2)) C dX9_finds_72 (by decide) ?_
    refine z_callV (pc := 74) C (c_X9_bad) [0, 1, 2, 3, 4, 5, 6, 7, 8] z00 mV_X9_bad q_883 dX9_finds_74 rfl rfl rfl 0 rfl rfl rfl rfl (Nat.le_of_ble_eq_true rfl) (by decide) (pI.go (ws' := wMd G da dn dp dr ds dl dc dt dg now past states _ aside pile came pileL text textL place nargs) rfl ?_)
    exact z_iret (pc := 77) C E dX9_finds_77 (pI.mk (by simp only [f_X9_finds, if_pos c_4]) (by simp only [g_X9_finds_refused, if_pos c_4]))
  · skip
    refine z_iload (pc := 7) C 4 dX9_finds_7 rfl ?_
    refine z_i2l (pc := 9) C dX9_finds_9 ?_
    refine z_lconst (pc := 10) (v := 1) C dX9_finds_10 (by decide) ?_
    refine z_ldc2_w (pc := 11) C q_1100 dX9_finds_11 ?_
    refine z_callS (pc := 14) C (c_X9_in) [] z00 mS_X9_in q_875 dX9_finds_14 rfl rfl rfl rfl (Nat.le_of_ble_eq_true rfl) (by decide) (pI.stay rfl ?_)
    refine z_if_eq (pc := 17) 71 C dX9_finds_17 (by decide) (fun c_17 => ?_) (fun c_17 => ?_)
    · skip
      refine z_aload_n (pc := 71) C 0 dX9_finds_71 rfl ?_
      refine z_bipush (pc := 72) (v := (-2)) C dX9_finds_72 (by decide) ?_
      refine z_callV (pc := 74) C (c_X9_bad) [0, 1, 2, 3, 4, 5, 6, 7, 8] z00 mV_X9_bad q_883 dX9_finds_74 rfl rfl rfl 0 rfl rfl rfl rfl (Nat.le_of_ble_eq_true rfl) (by decide) (pI.go (ws' := wMd G da dn dp dr ds dl dc dt dg now past states _ aside pile came pileL text textL place nargs) rfl ?_)
      exact z_iret (pc := 77) C E dX9_finds_77 (pI.mk (by simp only [f_X9_finds, if_neg c_4, if_pos c_17]) (by simp only [g_X9_finds_refused, if_neg c_4, if_pos c_17]))
    · skip
      refine z_iload (pc := 20) C 5 dX9_finds_20 rfl ?_
      refine z_i2l (pc := 22) C dX9_finds_22 ?_
      refine z_lconst (pc := 23) (v := 1) C dX9_finds_23 (by decide) ?_
      refine z_ldc2_w (pc := 24) C q_1100 dX9_finds_24 ?_
      refine z_callS (pc := 27) C (c_X9_in) [] z00 mS_X9_in q_875 dX9_finds_27 rfl rfl rfl rfl (Nat.le_of_ble_eq_true rfl) (by decide) (pI.stay rfl ?_)
      refine z_if_eq (pc := 30) 71 C dX9_finds_30 (by decide) (fun c_30 => ?_) (fun c_30 => ?_)
      · skip
        refine z_aload_n (pc := 71) C 0 dX9_finds_71 rfl ?_
        refine z_bipush (pc := 72) (v := (-2)) C dX9_finds_72 (by decide) ?_
        refine z_callV (pc := 74) C (c_X9_bad) [0, 1, 2, 3, 4, 5, 6, 7, 8] z00 mV_X9_bad q_883 dX9_finds_74 rfl rfl rfl 0 rfl rfl rfl rfl (Nat.le_of_ble_eq_true rfl) (by decide) (pI.go (ws' := wMd G da dn dp dr ds dl dc dt dg now past states _ aside pile came pileL text textL place nargs) rfl ?_)
        exact z_iret (pc := 77) C E dX9_finds_77 (pI.mk (by simp only [f_X9_finds, if_neg c_4, if_neg c_17, if_pos c_30]) (by simp only [g_X9_finds_refused, if_neg c_4, if_neg c_17, if_pos c_30]))
      · skip
        refine z_iload_n (pc := 33) C 2 dX9_finds_33 rfl ?_
        refine z_i2l (pc := 34) C dX9_finds_34 ?_
        refine z_lconst (pc := 35) (v := 0) C dX9_finds_35 (by decide) ?_
        refine z_bipush (pc := 36) (v := 32) C dX9_finds_36 (by decide) ?_
        refine z_iload (pc := 38) C 4 dX9_finds_38 rfl ?_
        refine z_isub (pc := 40) C dX9_finds_40 ?_
        refine z_i2l (pc := 41) C dX9_finds_41 ?_
        refine z_callS (pc := 42) C (c_X9_in) [] z00 mS_X9_in q_875 dX9_finds_42 rfl rfl rfl rfl (Nat.le_of_ble_eq_true rfl) (by decide) (pI.stay rfl ?_)
        refine z_if_eq (pc := 45) 71 C dX9_finds_45 (by decide) (fun c_45 => ?_) (fun c_45 => ?_)
        · skip
          refine z_aload_n (pc := 71) C 0 dX9_finds_71 rfl ?_
          refine z_bipush (pc := 72) (v := (-2)) C dX9_finds_72 (by decide) ?_
          refine z_callV (pc := 74) C (c_X9_bad) [0, 1, 2, 3, 4, 5, 6, 7, 8] z00 mV_X9_bad q_883 dX9_finds_74 rfl rfl rfl 0 rfl rfl rfl rfl (Nat.le_of_ble_eq_true rfl) (by decide) (pI.go (ws' := wMd G da dn dp dr ds dl dc dt dg now past states _ aside pile came pileL text textL place nargs) rfl ?_)
          exact z_iret (pc := 77) C E dX9_finds_77 (pI.mk (by simp only [f_X9_finds, if_neg c_4, if_neg c_17, if_neg c_30, if_pos c_45]) (by simp only [g_X9_finds_refused, if_neg c_4, if_neg c_17, if_neg c_30, if_pos c_45]))
        · skip
          refine z_iload_n (pc := 48) C 3 dX9_finds_48 rfl ?_
          refine z_i2l (pc := 49) C dX9_finds_49 ?_
          refine z_lconst (pc := 50) (v := 0) C dX9_finds_50 (by decide) ?_
          refine z_bipush (pc := 51) (v := 24) C dX9_finds_51 (by decide) ?_
          refine z_iload (pc := 53) C 5 dX9_finds_53 rfl ?_
          refine z_isub (pc := 55) C dX9_finds_55 ?_
          refine z_i2l (pc := 56) C dX9_finds_56 ?_
          refine z_callS (pc := 57) C (c_X9_in) [] z00 mS_X9_in q_875 dX9_finds_57 rfl rfl rfl rfl (Nat.le_of_ble_eq_true rfl) (by decide) (pI.stay rfl ?_)
          refine z_if_eq (pc := 60) 71 C dX9_finds_60 (by decide) (fun c_60 => ?_) (fun c_60 => ?_)
          · skip
            refine z_aload_n (pc := 71) C 0 dX9_finds_71 rfl ?_
            refine z_bipush (pc := 72) (v := (-2)) C dX9_finds_72 (by decide) ?_
            refine z_callV (pc := 74) C (c_X9_bad) [0, 1, 2, 3, 4, 5, 6, 7, 8] z00 mV_X9_bad q_883 dX9_finds_74 rfl rfl rfl 0 rfl rfl rfl rfl (Nat.le_of_ble_eq_true rfl) (by decide) (pI.go (ws' := wMd G da dn dp dr ds dl dc dt dg now past states _ aside pile came pileL text textL place nargs) rfl ?_)
            exact z_iret (pc := 77) C E dX9_finds_77 (pI.mk (by simp only [f_X9_finds, if_neg c_4, if_neg c_17, if_neg c_30, if_neg c_45, if_pos c_60]) (by simp only [g_X9_finds_refused, if_neg c_4, if_neg c_17, if_neg c_30, if_neg c_45, if_pos c_60]))
          · skip
            refine z_iload (pc := 63) C 6 dX9_finds_63 rfl ?_
            refine z_callS (pc := 65) C (c_X9_isPicture) [] z00 mS_X9_isPicture q_871 dX9_finds_65 rfl rfl rfl rfl (Nat.le_of_ble_eq_true rfl) (by decide) (pI.stay rfl ?_)
            refine z_if_ne (pc := 68) 78 C dX9_finds_68 (by decide) (fun c_68 => ?_) (fun c_68 => ?_)
            · skip
              have hkw := kOk_nI (mK_ne c_17)
              have hkh := kOk_nI (mK_ne c_30)
              refine z_iconst (pc := 78) (v := 0) C dX9_finds_78 (by decide) ?_
              refine z_istore (pc := 79) [(7, _), (0, _), (1, _), (2, _), (3, _), (4, _), (5, _), (6, _)] C dX9_finds_79 (by decide) rfl ?_
              refine z_iconst (pc := 81) (v := 0) C dX9_finds_81 (by decide) ?_
              refine z_istore (pc := 82) [(8, _), (7, _), (0, _), (1, _), (2, _), (3, _), (4, _), (5, _), (6, _)] C dX9_finds_82 (by decide) rfl ?_
              refine z_lv (lv' := [(0, _), (1, _), (2, _), (3, _), (4, _), (5, _), (6, _), (7, _), (8, _)]) [2, 3, 4, 5, 6, 7, 8, 1, 0] rfl ?_
              refine z_loop (pc := 84) (e := 24 - h.toNatClampNeg + 1) (fun i_84 => wMd G da dn dp dr ds dl dc dt dg now past states refused aside pile came pileL text textL place nargs) (fun i_84 => [(0, .ref da), (1, .int s), (2, .int x), (3, .int y), (4, .int w), (5, .int h), (6, .int t), (7, .int (s_X9_finds_84 now s x y w h t i_84)), (8, .int (nI i_84))]) [] (fun i_84 hi_84 ih_84 => ?_) ?_ 0 (Nat.zero_le _)
              · show Z X G 10 0 0 (wMd G da dn dp dr ds dl dc dt dg now past states refused aside pile came pileL text textL place nargs) 84 [(0, .ref da), (1, .int s), (2, .int x), (3, .int y), (4, .int w), (5, .int h), (6, .int t), (7, .int (s_X9_finds_84 now s x y w h t i_84)), (8, .int (nI i_84))] []
                generalize hz_84 : s_X9_finds_84 now s x y w h t i_84 = z_84
                refine z_iload (pc := 84) C 8 dX9_finds_84 rfl ?_
                refine z_iload (pc := 86) C 5 dX9_finds_86 rfl ?_
                refine z_iadd (pc := 88) C dX9_finds_88 ?_
                refine z_bipush (pc := 89) (v := 24) C dX9_finds_89 (by decide) ?_
                refine z_icmp_gt (pc := 91) 149 C dX9_finds_91 (by decide) (fun c_91 => ?_) (fun c_91 => ?_)
                · skip
                  exact absurd c_91 (fd_s (B := 24) hkh.1 hi_84 (by omega) (by decide))
                · skip
                  refine z_iconst (pc := 94) (v := 0) C dX9_finds_94 (by decide) ?_
                  refine z_istore (pc := 95) [(9, _), (0, _), (1, _), (2, _), (3, _), (4, _), (5, _), (6, _), (7, _), (8, _)] C dX9_finds_95 (by decide) rfl ?_
                  refine z_lv (lv' := [(0, _), (1, _), (2, _), (3, _), (4, _), (5, _), (6, _), (7, _), (8, _), (9, _)]) [1, 2, 3, 4, 5, 6, 7, 8, 9, 0] rfl ?_
                  refine z_loop (pc := 97) (e := 32 - w.toNatClampNeg + 1) (fun i_97 => wMd G da dn dp dr ds dl dc dt dg now past states refused aside pile came pileL text textL place nargs) (fun i_97 => [(0, .ref da), (1, .int s), (2, .int x), (3, .int y), (4, .int w), (5, .int h), (6, .int t), (7, .int (s_X9_finds_97 now s x y w h t i_84 z_84 i_97)), (8, .int (nI i_84)), (9, .int (nI i_97))]) [] (fun i_97 hi_97 ih_97 => ?_) ?_ 0 (Nat.zero_le _)
                  · show Z X G 10 0 0 (wMd G da dn dp dr ds dl dc dt dg now past states refused aside pile came pileL text textL place nargs) 97 [(0, .ref da), (1, .int s), (2, .int x), (3, .int y), (4, .int w), (5, .int h), (6, .int t), (7, .int (s_X9_finds_97 now s x y w h t i_84 z_84 i_97)), (8, .int (nI i_84)), (9, .int (nI i_97))] []
                    generalize hz_97 : s_X9_finds_97 now s x y w h t i_84 z_84 i_97 = z_97
                    refine z_iload (pc := 97) C 9 dX9_finds_97 rfl ?_
                    refine z_iload (pc := 99) C 4 dX9_finds_99 rfl ?_
                    refine z_iadd (pc := 101) C dX9_finds_101 ?_
                    refine z_bipush (pc := 102) (v := 32) C dX9_finds_102 (by decide) ?_
                    refine z_icmp_gt (pc := 104) 143 C dX9_finds_104 (by decide) (fun c_104 => ?_) (fun c_104 => ?_)
                    · skip
                      exact absurd c_104 (fd_s (B := 32) hkw.1 hi_97 (by omega) (by decide))
                    · skip
                      refine z_iload (pc := 107) C 7 dX9_finds_107 rfl ?_
                      refine z_aload_n (pc := 109) C 0 dX9_finds_109 rfl ?_
                      refine z_iload_n (pc := 110) C 1 dX9_finds_110 rfl ?_
                      refine z_iload_n (pc := 111) C 2 dX9_finds_111 rfl ?_
                      refine z_iload_n (pc := 112) C 3 dX9_finds_112 rfl ?_
                      refine z_iload (pc := 113) C 4 dX9_finds_113 rfl ?_
                      refine z_iload (pc := 115) C 5 dX9_finds_115 rfl ?_
                      refine z_iload (pc := 117) C 6 dX9_finds_117 rfl ?_
                      refine z_iload (pc := 119) C 9 dX9_finds_119 rfl ?_
                      refine z_iload (pc := 121) C 8 dX9_finds_121 rfl ?_
                      refine z_callV (pc := 123) C (c_X9_isLike (by exact (mP_ne c_4)) (by exact (mP_ne c_68)) (by exact (mK_ne c_17)) (by exact (mK_ne c_30))) [0, 1, 2, 3, 4, 5, 6, 7, 8] z00 mV_X9_isLike q_1101 dX9_finds_123 rfl rfl rfl 0 rfl rfl rfl rfl (Nat.le_of_ble_eq_true rfl) (by decide) (pI.stay rfl ?_)
                      have K_134 : Z X G 10 0 0 (wMd G da dn dp dr ds dl dc dt dg now past states refused aside pile came pileL text textL place nargs) 134 [(0, .ref da), (1, .int s), (2, .int x), (3, .int y), (4, .int w), (5, .int h), (6, .int t), (7, .int z_97), (8, .int (nI i_84)), (9, .int (nI i_97))] [.int (if (f_X9_isLike now s x y w h t (nI i_97) (nI i_84)) = 0 then 0 else 1 : Int32), .int z_97] := by
                        refine z_iadd (pc := 134) C dX9_finds_134 ?_
                        refine z_istore (pc := 135) [(7, _), (0, _), (1, _), (2, _), (3, _), (4, _), (5, _), (6, _), (8, _), (9, _)] C dX9_finds_135 (by decide) rfl ?_
                        refine z_iinc (pc := 137) (v := nI (i_97 + 1)) [(9, _), (7, _), (0, _), (1, _), (2, _), (3, _), (4, _), (5, _), (6, _), (8, _)] C 9 dX9_finds_137 rfl ((nI_succ _).symm) (by decide) rfl ?_
                        refine z_goto (pc := 140) 97 C dX9_finds_140 (by decide) ?_
                        refine z_lv (lv' := [(0, _), (1, _), (2, _), (3, _), (4, _), (5, _), (6, _), (7, _), (8, _), (9, _)]) [2, 3, 4, 5, 6, 7, 8, 1, 9, 0] rfl ?_
                        exact z_eq rfl (by simp only [s_X9_finds_97, hz_97, b_X9_finds_97]) rfl ih_97
                      refine z_if_eq (pc := 126) 133 C dX9_finds_126 (by decide) (fun c_126 => ?_) (fun c_126 => ?_)
                      · skip
                        refine z_iconst (pc := 133) (v := 0) C dX9_finds_133 (by decide) ?_
                        refine z_lv (lv' := [(0, _), (1, _), (2, _), (3, _), (4, _), (5, _), (6, _), (7, _), (8, _), (9, _)]) [0, 1, 2, 3, 4, 5, 6, 7, 8, 9] rfl ?_
                        exact z_eq rfl rfl (by simp only [if_pos c_126]) K_134
                      · skip
                        refine z_iconst (pc := 129) (v := 1) C dX9_finds_129 (by decide) ?_
                        refine z_goto (pc := 130) 134 C dX9_finds_130 (by decide) ?_
                        refine z_lv (lv' := [(0, _), (1, _), (2, _), (3, _), (4, _), (5, _), (6, _), (7, _), (8, _), (9, _)]) [0, 1, 2, 3, 4, 5, 6, 7, 8, 9] rfl ?_
                        exact z_eq rfl rfl (by simp only [if_neg c_126]) K_134
                  · show Z X G 10 0 0 (wMd G da dn dp dr ds dl dc dt dg now past states refused aside pile came pileL text textL place nargs) 97 [(0, .ref da), (1, .int s), (2, .int x), (3, .int y), (4, .int w), (5, .int h), (6, .int t), (7, .int (s_X9_finds_97 now s x y w h t i_84 z_84 (32 - w.toNatClampNeg + 1))), (8, .int (nI i_84)), (9, .int (nI (32 - w.toNatClampNeg + 1)))] []
                    refine z_iload (pc := 97) C 9 dX9_finds_97 rfl ?_
                    refine z_iload (pc := 99) C 4 dX9_finds_99 rfl ?_
                    refine z_iadd (pc := 101) C dX9_finds_101 ?_
                    refine z_bipush (pc := 102) (v := 32) C dX9_finds_102 (by decide) ?_
                    refine z_icmp_gt (pc := 104) 143 C dX9_finds_104 (by decide) (fun c_104 => ?_) (fun c_104 => ?_)
                    · skip
                      refine z_iinc (pc := 143) (v := nI (i_84 + 1)) [(8, _), (0, _), (1, _), (2, _), (3, _), (4, _), (5, _), (6, _), (7, _), (9, _)] C 8 dX9_finds_143 rfl ((nI_succ _).symm) (by decide) rfl ?_
                      refine z_goto (pc := 146) 84 C dX9_finds_146 (by decide) ?_
                      refine z_lv (lv' := [(0, _), (1, _), (2, _), (3, _), (4, _), (5, _), (6, _), (7, _), (8, _)]) [1, 2, 3, 4, 5, 6, 7, 8, 0] rfl ?_
                      exact z_eq rfl (by simp only [s_X9_finds_84, hz_84, b_X9_finds_84]) rfl ih_84
                    · skip
                      exact absurd (fd_x (B := 32) hkw.1 (by omega) (by decide)) c_104
              · show Z X G 10 0 0 (wMd G da dn dp dr ds dl dc dt dg now past states refused aside pile came pileL text textL place nargs) 84 [(0, .ref da), (1, .int s), (2, .int x), (3, .int y), (4, .int w), (5, .int h), (6, .int t), (7, .int (s_X9_finds_84 now s x y w h t (24 - h.toNatClampNeg + 1))), (8, .int (nI (24 - h.toNatClampNeg + 1)))] []
                refine z_iload (pc := 84) C 8 dX9_finds_84 rfl ?_
                refine z_iload (pc := 86) C 5 dX9_finds_86 rfl ?_
                refine z_iadd (pc := 88) C dX9_finds_88 ?_
                refine z_bipush (pc := 89) (v := 24) C dX9_finds_89 (by decide) ?_
                refine z_icmp_gt (pc := 91) 149 C dX9_finds_91 (by decide) (fun c_91 => ?_) (fun c_91 => ?_)
                · skip
                  refine z_iload (pc := 149) C 7 dX9_finds_149 rfl ?_
                  exact z_iret (pc := 151) C E dX9_finds_151 (pI.mk (by simp only [f_X9_finds, if_neg c_4, if_neg c_17, if_neg c_30, if_neg c_45, if_neg c_60, if_neg c_68]) (by simp only [g_X9_finds_refused, if_neg c_4, if_neg c_17, if_neg c_30, if_neg c_45, if_neg c_60, if_neg c_68]))
                · skip
                  exact absurd (fd_x (B := 24) hkh.1 (by omega) (by decide)) c_91
            · skip
              refine z_aload_n (pc := 71) C 0 dX9_finds_71 rfl ?_
              refine z_bipush (pc := 72) (v := (-2)) C dX9_finds_72 (by decide) ?_
              refine z_callV (pc := 74) C (c_X9_bad) [0, 1, 2, 3, 4, 5, 6, 7, 8] z00 mV_X9_bad q_883 dX9_finds_74 rfl rfl rfl 0 rfl rfl rfl rfl (Nat.le_of_ble_eq_true rfl) (by decide) (pI.go (ws' := wMd G da dn dp dr ds dl dc dt dg now past states _ aside pile came pileL text textL place nargs) rfl ?_)
              exact z_iret (pc := 77) C E dX9_finds_77 (pI.mk (by simp only [f_X9_finds, if_neg c_4, if_neg c_17, if_neg c_30, if_neg c_45, if_neg c_60, if_pos c_68]) (by simp only [g_X9_finds_refused, if_neg c_4, if_neg c_17, if_neg c_30, if_neg c_45, if_neg c_60, if_pos c_68]))

def f_X9_open (now : Nat → Int32) (x : Int32) (y : Int32) : Int32 := if (f_X9_isIn x y) = 0 then f_X9_bad (-2) else if (f_X9_isOpen now x y) = 0 then 0 else 1
def g_X9_open_refused (refused : Nat → Int32) (x : Int32) (y : Int32) : Nat → Int32 := if (f_X9_isIn x y) = 0 then g_X9_bad_refused refused else refused
set_option maxRecDepth 100000 in
theorem c_X9_open {l : Launch} {G : zG} {da dn dp dr ds dl dc dt dg : Nat} {now : Nat → Int32} {past : Nat → Int32} {states : Int32} {refused : Nat → Int32} {aside : Nat → Int32} {pile : Nat → Int32} {came : Nat → Int32} {pileL : Int32} {text : Nat → Int32} {textL : Int32} {place : Int32} {nargs : Nat → Int32} {x : Int32} {y : Int32} (hm : mOk now) : Ct l G yX9_open cX9_open 3 (Option.some FieldType.int) 2 50 [.ref da, .int x, .int y] (wMd G da dn dp dr ds dl dc dt dg now past states refused aside pile came pileL text textL place nargs) (pI (f_X9_open now x y) (wMd G da dn dp dr ds dl dc dt dg now past states (g_X9_open_refused refused x y) aside pile came pileL text textL place nargs)) := by
  refine Ct.of (plainFor_of_name (by decide)) (Nat.le_of_ble_eq_true rfl) (pI.ad ad_Md) (fun X C E => ?_)
  show Z X G 3 0 0 _ 0 [(0, .ref da), (1, .int x), (2, .int y)] []
  refine z_iload_n (pc := 0) C 1 dX9_open_0 rfl ?_
  refine z_iload_n (pc := 1) C 2 dX9_open_1 rfl ?_
  refine z_callS (pc := 2) C (c_X9_isIn) [] z00 mS_X9_isIn q_878 dX9_open_2 rfl rfl rfl rfl (Nat.le_of_ble_eq_true rfl) (by decide) (pI.stay rfl ?_)
  refine z_if_ne (pc := 5) 17 C dX9_open_5 (by decide) (fun c_5 => ?_) (fun c_5 => ?_)
  · skip
    refine z_aload_n (pc := 17) C 0 dX9_open_17 rfl ?_
    refine z_iload_n (pc := 18) C 1 dX9_open_18 rfl ?_
    refine z_iload_n (pc := 19) C 2 dX9_open_19 rfl ?_
    refine z_callV (pc := 20) C (c_X9_isOpen (by assumption)) [0, 1, 2, 3, 4, 5, 6, 7, 8] z00 mV_X9_isOpen q_974 dX9_open_20 rfl rfl rfl 0 rfl rfl rfl rfl (Nat.le_of_ble_eq_true rfl) (by decide) (pI.stay rfl ?_)
    refine z_if_eq (pc := 23) 30 C dX9_open_23 (by decide) (fun c_23 => ?_) (fun c_23 => ?_)
    · skip
      refine z_iconst (pc := 30) (v := 0) C dX9_open_30 (by decide) ?_
      exact z_iret (pc := 31) C E dX9_open_31 (pI.mk (by simp only [f_X9_open, if_neg c_5, if_pos c_23]) (by simp only [g_X9_open_refused, if_neg c_5, if_pos c_23]))
    · skip
      refine z_iconst (pc := 26) (v := 1) C dX9_open_26 (by decide) ?_
      refine z_goto (pc := 27) 31 C dX9_open_27 (by decide) ?_
      exact z_iret (pc := 31) C E dX9_open_31 (pI.mk (by simp only [f_X9_open, if_neg c_5, if_neg c_23]) (by simp only [g_X9_open_refused, if_neg c_5, if_neg c_23]))
  · skip
    refine z_aload_n (pc := 8) C 0 dX9_open_8 rfl ?_
    refine z_bipush (pc := 9) (v := (-2)) C dX9_open_9 (by decide) ?_
    refine z_callV (pc := 11) C (c_X9_bad) [0, 1, 2, 3, 4, 5, 6, 7, 8] z00 mV_X9_bad q_883 dX9_open_11 rfl rfl rfl 0 rfl rfl rfl rfl (Nat.le_of_ble_eq_true rfl) (by decide) (pI.go (ws' := wMd G da dn dp dr ds dl dc dt dg now past states _ aside pile came pileL text textL place nargs) rfl ?_)
    refine z_goto (pc := 14) 31 C dX9_open_14 (by decide) ?_
    exact z_iret (pc := 31) C E dX9_open_31 (pI.mk (by simp only [f_X9_open, if_pos c_5]) (by simp only [g_X9_open_refused, if_pos c_5]))

theorem ix_rf {what : Int32} (h0 : 0 ≤ what.toInt) (h : ¬ 3 ≤ what) : vp_in what 3 := by
  have h3 : ¬ (3 : Int32).toInt ≤ what.toInt := fun q => h (Int32.le_iff_toInt_le.mpr q)
  have e : (3 : Int32).toInt = 3 := rfl
  rw [vp_in_iff]; omega
theorem mo_len {now : Nat → Int32} (hm : mOk now) : 80 + 4 * now (96 : Int32).toNatClampNeg = nI (80 + 4 * (now (96 : Int32).toNatClampNeg).toNatClampNeg) := by
  have e := (cOk_nI hm).1
  rw [← nI_add, ← pk_mul, ← e]
  rfl
theorem tx_ix {len : Int32} (h : tL len) (h2 : ¬ len = 120) : vp_in len 120 := by
  have h3 : ¬ len.toInt = 120 := fun q => h2 (by rw [← Int32.toInt_inj, q]; rfl)
  obtain ⟨a, b⟩ := h
  rw [vp_in_iff]; omega
theorem q_dn {states : Int32} (h : qOk states) (h2 : ¬ states = 0) : ∃ c : Nat, c ≤ 5 ∧ states - 1 = nI c := by
  obtain ⟨e, l⟩ := qOk_nI h
  refine ⟨states.toNatClampNeg - 1, by omega, ?_⟩
  have : ¬ states.toNatClampNeg = 0 := fun q => h2 (by rw [e, q]; rfl)
  rw [← pk_sub (by omega), ← e]
  rfl

def f_X9_toldOf (now : Nat → Int32) (states : Int32) (refused : Nat → Int32) (textL : Int32) (what : Int32) : Int32 := if 3 ≤ what then if what = 3 then textL else if what = 4 then now (96 : Int32).toNatClampNeg else states else refused what.toNatClampNeg
set_option maxRecDepth 100000 in
theorem c_X9_toldOf {l : Launch} {G : zG} {da dn dp dr ds dl dc dt dg : Nat} {now : Nat → Int32} {past : Nat → Int32} {states : Int32} {refused : Nat → Int32} {aside : Nat → Int32} {pile : Nat → Int32} {came : Nat → Int32} {pileL : Int32} {text : Nat → Int32} {textL : Int32} {place : Int32} {nargs : Nat → Int32} {what : Int32} (hw : 0 ≤ what.toInt) : Ct l G yX9_toldOf cX9_toldOf 2 (Option.some FieldType.int) 0 0 [.ref da, .int what] (wMd G da dn dp dr ds dl dc dt dg now past states refused aside pile came pileL text textL place nargs) (pI (f_X9_toldOf now states refused textL what) (wMd G da dn dp dr ds dl dc dt dg now past states refused aside pile came pileL text textL place nargs)) := by
  refine Ct.of (plainFor_of_name (by decide)) (Nat.le_of_ble_eq_true rfl) (pI.ad ad_Md) (fun X C E => ?_)
  show Z X G 2 0 0 _ 0 [(0, .ref da), (1, .int what)] []
  refine z_iload_n (pc := 0) C 1 dX9_toldOf_0 rfl ?_
  refine z_iconst (pc := 1) (v := 3) C dX9_toldOf_1 (by decide) ?_
  refine z_icmp_ge (pc := 2) 14 C dX9_toldOf_2 (by decide) (fun c_2 => ?_) (fun c_2 => ?_)
  · skip
    refine z_iload_n (pc := 14) C 1 dX9_toldOf_14 rfl ?_
    refine z_iconst (pc := 15) (v := 3) C dX9_toldOf_15 (by decide) ?_
    refine z_icmp_ne (pc := 16) 26 C dX9_toldOf_16 (by decide) (fun c_16 => ?_) (fun c_16 => ?_)
    · skip
      refine z_iload_n (pc := 26) C 1 dX9_toldOf_26 rfl ?_
      refine z_iconst (pc := 27) (v := 4) C dX9_toldOf_27 (by decide) ?_
      refine z_icmp_ne (pc := 28) 41 C dX9_toldOf_28 (by decide) (fun c_28 => ?_) (fun c_28 => ?_)
      · skip
        refine z_aload_n (pc := 41) C 0 dX9_toldOf_41 rfl ?_
        refine z_get (pc := 42) C 0 2 dX9_toldOf_42 rfl rfl i_X9 (by decide) q_831 rfl ?_
        exact z_iret (pc := 45) C E dX9_toldOf_45 (pI.mk (by simp only [f_X9_toldOf, if_pos c_2, if_neg c_16, if_neg c_28]) rfl)
      · skip
        refine z_aload_n (pc := 31) C 0 dX9_toldOf_31 rfl ?_
        refine z_get (pc := 32) C 0 0 dX9_toldOf_32 rfl rfl i_X9 (by decide) q_829 rfl ?_
        refine z_bipush (pc := 35) (v := 96) C dX9_toldOf_35 (by decide) ?_
        refine z_iald (pc := 37) C 1 dX9_toldOf_37 rfl (ix_c (k := 96) rfl (by decide) (by decide)) ?_
        refine z_goto (pc := 38) 45 C dX9_toldOf_38 (by decide) ?_
        exact z_iret (pc := 45) C E dX9_toldOf_45 (pI.mk (by simp only [f_X9_toldOf, if_pos c_2, if_neg c_16, if_pos c_28]) rfl)
    · skip
      refine z_aload_n (pc := 19) C 0 dX9_toldOf_19 rfl ?_
      refine z_get (pc := 20) C 0 9 dX9_toldOf_20 rfl rfl i_X9 (by decide) q_838 rfl ?_
      refine z_goto (pc := 23) 45 C dX9_toldOf_23 (by decide) ?_
      exact z_iret (pc := 45) C E dX9_toldOf_45 (pI.mk (by simp only [f_X9_toldOf, if_pos c_2, if_pos c_16]) rfl)
  · skip
    refine z_aload_n (pc := 5) C 0 dX9_toldOf_5 rfl ?_
    refine z_get (pc := 6) C 0 3 dX9_toldOf_6 rfl rfl i_X9 (by decide) q_832 rfl ?_
    refine z_iload_n (pc := 9) C 1 dX9_toldOf_9 rfl ?_
    refine z_iald (pc := 10) C 3 dX9_toldOf_10 rfl (ix_rf hw c_2) ?_
    refine z_goto (pc := 11) 45 C dX9_toldOf_11 (by decide) ?_
    exact z_iret (pc := 45) C E dX9_toldOf_45 (pI.mk (by simp only [f_X9_toldOf, if_neg c_2]) rfl)

def f_X9_told (now : Nat → Int32) (states : Int32) (refused : Nat → Int32) (textL : Int32) (what : Int32) : Int32 := if (f_X9_in what.toInt64 0 5) = 0 then f_X9_bad (-2) else f_X9_toldOf now states refused textL what
def g_X9_told_refused (refused : Nat → Int32) (what : Int32) : Nat → Int32 := if (f_X9_in what.toInt64 0 5) = 0 then g_X9_bad_refused refused else refused
theorem td_0 {what : Int32} (h : ¬ f_X9_in what.toInt64 0 5 = 0) : 0 ≤ what.toInt := by
  have a := mIn_ne h
  rw [Int32.toInt_toInt64] at a
  exact a.1
set_option maxRecDepth 100000 in
theorem c_X9_told {l : Launch} {G : zG} {da dn dp dr ds dl dc dt dg : Nat} {now : Nat → Int32} {past : Nat → Int32} {states : Int32} {refused : Nat → Int32} {aside : Nat → Int32} {pile : Nat → Int32} {came : Nat → Int32} {pileL : Int32} {text : Nat → Int32} {textL : Int32} {place : Int32} {nargs : Nat → Int32} {what : Int32} : Ct l G yX9_told cX9_told 2 (Option.some FieldType.int) 1 25 [.ref da, .int what] (wMd G da dn dp dr ds dl dc dt dg now past states refused aside pile came pileL text textL place nargs) (pI (f_X9_told now states refused textL what) (wMd G da dn dp dr ds dl dc dt dg now past states (g_X9_told_refused refused what) aside pile came pileL text textL place nargs)) := by
  refine Ct.of (plainFor_of_name (by decide)) (Nat.le_of_ble_eq_true rfl) (pI.ad ad_Md) (fun X C E => ?_)
  show Z X G 2 0 0 _ 0 [(0, .ref da), (1, .int what)] []
  refine z_iload_n (pc := 0) C 1 dX9_told_0 rfl ?_
  refine z_i2l (pc := 1) C dX9_told_1 ?_
  refine z_lconst (pc := 2) (v := 0) C dX9_told_2 (by decide) ?_
  refine z_ldc2_w (pc := 3) C q_1167 dX9_told_3 ?_
  refine z_callS (pc := 6) C (c_X9_in) [] z00 mS_X9_in q_875 dX9_told_6 rfl rfl rfl rfl (Nat.le_of_ble_eq_true rfl) (by decide) (pI.stay rfl ?_)
  refine z_if_eq (pc := 9) 20 C dX9_told_9 (by decide) (fun c_9 => ?_) (fun c_9 => ?_)
  · skip
    refine z_aload_n (pc := 20) C 0 dX9_told_20 rfl ?_
    refine z_bipush (pc := 21) (v := (-2)) C dX9_told_21 (by decide) ?_
    refine z_callV (pc := 23) C (c_X9_bad) [0, 1, 2, 3, 4, 5, 6, 7, 8] z00 mV_X9_bad q_883 dX9_told_23 rfl rfl rfl 0 rfl rfl rfl rfl (Nat.le_of_ble_eq_true rfl) (by decide) (pI.go (ws' := wMd G da dn dp dr ds dl dc dt dg now past states _ aside pile came pileL text textL place nargs) rfl ?_)
    exact z_iret (pc := 26) C E dX9_told_26 (pI.mk (by simp only [f_X9_told, if_pos c_9]) (by simp only [g_X9_told_refused, if_pos c_9]))
  · skip
    refine z_aload_n (pc := 12) C 0 dX9_told_12 rfl ?_
    refine z_iload_n (pc := 13) C 1 dX9_told_13 rfl ?_
    refine z_callV (pc := 14) C (c_X9_toldOf (by exact (td_0 c_9))) [0, 1, 2, 3, 4, 5, 6, 7, 8] z00 mV_X9_toldOf q_1168 dX9_told_14 rfl rfl rfl 0 rfl rfl rfl rfl (Nat.le_of_ble_eq_true rfl) (by decide) (pI.stay rfl ?_)
    refine z_goto (pc := 17) 26 C dX9_told_17 (by decide) ?_
    exact z_iret (pc := 26) C E dX9_told_26 (pI.mk (by simp only [f_X9_told, if_neg c_9]) (by simp only [g_X9_told_refused, if_neg c_9]))

def b_X9_digest_6 (now : Nat → Int32) (states : Int32) (refused : Nat → Int32) (textL : Int32) (i_6 : Nat) (z_6 : Int64) : Int64 := (31 * z_6) + ((f_X9_toldOf now states refused textL (nI i_6)).toInt64)
def s_X9_digest_6 (now : Nat → Int32) (states : Int32) (refused : Nat → Int32) (textL : Int32) : Nat → Int64
  | 0 => 2083
  | i_6 + 1 => b_X9_digest_6 now states refused textL i_6 (s_X9_digest_6 now states refused textL i_6)
def b_X9_digest_33 (now : Nat → Int32) (i_33 : Nat) (z_33 : Int64) : Int64 := (31 * z_33) + ((now (nI i_33).toNatClampNeg).toInt64)
def s_X9_digest_33 (now : Nat → Int32) (states : Int32) (refused : Nat → Int32) (textL : Int32) : Nat → Int64
  | 0 => (s_X9_digest_6 now states refused textL 6)
  | i_33 + 1 => b_X9_digest_33 now i_33 (s_X9_digest_33 now states refused textL i_33)
def f_X9_digest (now : Nat → Int32) (states : Int32) (refused : Nat → Int32) (textL : Int32) : Int64 := (s_X9_digest_33 now states refused textL (80 + 4 * (now (96 : Int32).toNatClampNeg).toNatClampNeg))
set_option maxRecDepth 100000 in
theorem c_X9_digest {l : Launch} {G : zG} {da dn dp dr ds dl dc dt dg : Nat} {now : Nat → Int32} {past : Nat → Int32} {states : Int32} {refused : Nat → Int32} {aside : Nat → Int32} {pile : Nat → Int32} {came : Nat → Int32} {pileL : Int32} {text : Nat → Int32} {textL : Int32} {place : Int32} {nargs : Nat → Int32} (hm : mOk now) : Ct l G yX9_digest cX9_digest 4 (Option.some FieldType.long) 1 21 [.ref da] (wMd G da dn dp dr ds dl dc dt dg now past states refused aside pile came pileL text textL place nargs) (pL (f_X9_digest now states refused textL) (wMd G da dn dp dr ds dl dc dt dg now past states refused aside pile came pileL text textL place nargs)) := by
  refine Ct.of (plainFor_of_name (by decide)) (Nat.le_of_ble_eq_true rfl) (pL.ad ad_Md) (fun X C E => ?_)
  show Z X G 4 0 0 _ 0 [(0, .ref da)] []
  have hk := cOk_nI hm
  refine z_ldc2_w (pc := 0) C q_1176 dX9_digest_0 ?_
  refine z_lstore_n (pc := 3) [(1, _), (0, _)] C dX9_digest_3 rfl (by decide) rfl ?_
  refine z_iconst (pc := 4) (v := 0) C dX9_digest_4 (by decide) ?_
  refine z_istore_n (pc := 5) [(3, _), (1, _), (0, _)] C dX9_digest_5 rfl (by decide) rfl ?_
  refine z_lv (lv' := [(0, _), (1, _), (3, _)]) [2, 1, 0] rfl ?_
  refine z_loop (pc := 6) (e := 6) (fun i_6 => wMd G da dn dp dr ds dl dc dt dg now past states refused aside pile came pileL text textL place nargs) (fun i_6 => [(0, .ref da), (1, .long (s_X9_digest_6 now states refused textL i_6)), (3, .int (nI i_6))]) [] (fun i_6 hi_6 ih_6 => ?_) ?_ 0 (Nat.zero_le _)
  · show Z X G 4 0 0 (wMd G da dn dp dr ds dl dc dt dg now past states refused aside pile came pileL text textL place nargs) 6 [(0, .ref da), (1, .long (s_X9_digest_6 now states refused textL i_6)), (3, .int (nI i_6))] []
    generalize hz_6 : s_X9_digest_6 now states refused textL i_6 = z_6
    refine z_iload_n (pc := 6) C 2 dX9_digest_6 rfl ?_
    refine z_bipush (pc := 7) (v := 6) C dX9_digest_7 (by decide) ?_
    refine z_icmp_ge (pc := 9) 31 C dX9_digest_9 (by decide) (fun c_9 => ?_) (fun c_9 => ?_)
    · skip
      exact absurd c_9 (nI_ge (b := 6) (by omega) (by decide))
    · skip
      refine z_ldc2_w (pc := 12) C q_881 dX9_digest_12 ?_
      refine z_lload_n (pc := 15) C 1 dX9_digest_15 rfl ?_
      refine z_lmul (pc := 16) C dX9_digest_16 ?_
      refine z_aload_n (pc := 17) C 0 dX9_digest_17 rfl ?_
      refine z_iload_n (pc := 18) C 2 dX9_digest_18 rfl ?_
      refine z_callV (pc := 19) C (c_X9_toldOf (by rw [nI_toInt (by omega)]; omega)) [0, 1, 2, 3, 4, 5, 6, 7, 8] z00 mV_X9_toldOf q_1168 dX9_digest_19 rfl rfl rfl 0 rfl rfl rfl rfl (Nat.le_of_ble_eq_true rfl) (by decide) (pI.stay rfl ?_)
      refine z_i2l (pc := 22) C dX9_digest_22 ?_
      refine z_ladd (pc := 23) C dX9_digest_23 ?_
      refine z_lstore_n (pc := 24) [(1, _), (0, _), (3, _)] C dX9_digest_24 rfl (by decide) rfl ?_
      refine z_iinc (pc := 25) (v := nI (i_6 + 1)) [(3, _), (1, _), (0, _)] C 2 dX9_digest_25 rfl ((nI_succ _).symm) (by decide) rfl ?_
      refine z_goto (pc := 28) 6 C dX9_digest_28 (by decide) ?_
      refine z_lv (lv' := [(0, _), (1, _), (3, _)]) [2, 1, 0] rfl ?_
      exact z_eq rfl (by simp only [s_X9_digest_6, hz_6, b_X9_digest_6]) rfl ih_6
  · show Z X G 4 0 0 (wMd G da dn dp dr ds dl dc dt dg now past states refused aside pile came pileL text textL place nargs) 6 [(0, .ref da), (1, .long (s_X9_digest_6 now states refused textL 6)), (3, .int (nI 6))] []
    refine z_iload_n (pc := 6) C 2 dX9_digest_6 rfl ?_
    refine z_bipush (pc := 7) (v := 6) C dX9_digest_7 (by decide) ?_
    refine z_icmp_ge (pc := 9) 31 C dX9_digest_9 (by decide) (fun c_9 => ?_) (fun c_9 => ?_)
    · skip
      refine z_iconst (pc := 31) (v := 0) C dX9_digest_31 (by decide) ?_
      refine z_istore_n (pc := 32) [(3, _), (0, _), (1, _)] C dX9_digest_32 rfl (by decide) rfl ?_
      refine z_lv (lv' := [(0, _), (1, _), (3, _)]) [1, 2, 0] rfl ?_
      refine z_loop (pc := 33) (e := 80 + 4 * (now (96 : Int32).toNatClampNeg).toNatClampNeg) (fun i_33 => wMd G da dn dp dr ds dl dc dt dg now past states refused aside pile came pileL text textL place nargs) (fun i_33 => [(0, .ref da), (1, .long (s_X9_digest_33 now states refused textL i_33)), (3, .int (nI i_33))]) [] (fun i_33 hi_33 ih_33 => ?_) ?_ 0 (Nat.zero_le _)
      · show Z X G 4 0 0 (wMd G da dn dp dr ds dl dc dt dg now past states refused aside pile came pileL text textL place nargs) 33 [(0, .ref da), (1, .long (s_X9_digest_33 now states refused textL i_33)), (3, .int (nI i_33))] []
        generalize hz_33 : s_X9_digest_33 now states refused textL i_33 = z_33
        refine z_iload_n (pc := 33) C 2 dX9_digest_33 rfl ?_
        refine z_bipush (pc := 34) (v := 80) C dX9_digest_34 (by decide) ?_
        refine z_iconst (pc := 36) (v := 4) C dX9_digest_36 (by decide) ?_
        refine z_aload_n (pc := 37) C 0 dX9_digest_37 rfl ?_
        refine z_get (pc := 38) C 0 0 dX9_digest_38 rfl rfl i_X9 (by decide) q_829 rfl ?_
        refine z_bipush (pc := 41) (v := 96) C dX9_digest_41 (by decide) ?_
        refine z_iald (pc := 43) C 1 dX9_digest_43 rfl (ix_c (k := 96) rfl (by decide) (by decide)) ?_
        refine z_imul (pc := 44) C dX9_digest_44 ?_
        refine z_iadd (pc := 45) C dX9_digest_45 ?_
        refine z_icmp_ge (pc := 46) 69 C dX9_digest_46 (by decide) (fun c_46 => ?_) (fun c_46 => ?_)
        · skip
          exact absurd c_46 (lps (mo_len hm) (by omega) (by omega))
        · skip
          refine z_ldc2_w (pc := 49) C q_881 dX9_digest_49 ?_
          refine z_lload_n (pc := 52) C 1 dX9_digest_52 rfl ?_
          refine z_lmul (pc := 53) C dX9_digest_53 ?_
          refine z_aload_n (pc := 54) C 0 dX9_digest_54 rfl ?_
          refine z_get (pc := 55) C 0 0 dX9_digest_55 rfl rfl i_X9 (by decide) q_829 rfl ?_
          refine z_iload_n (pc := 58) C 2 dX9_digest_58 rfl ?_
          refine z_iald (pc := 59) C 1 dX9_digest_59 rfl (ix_nI (by omega) (by decide)) ?_
          refine z_i2l (pc := 60) C dX9_digest_60 ?_
          refine z_ladd (pc := 61) C dX9_digest_61 ?_
          refine z_lstore_n (pc := 62) [(1, _), (0, _), (3, _)] C dX9_digest_62 rfl (by decide) rfl ?_
          refine z_iinc (pc := 63) (v := nI (i_33 + 1)) [(3, _), (1, _), (0, _)] C 2 dX9_digest_63 rfl ((nI_succ _).symm) (by decide) rfl ?_
          refine z_goto (pc := 66) 33 C dX9_digest_66 (by decide) ?_
          refine z_lv (lv' := [(0, _), (1, _), (3, _)]) [2, 1, 0] rfl ?_
          exact z_eq rfl (by simp only [s_X9_digest_33, hz_33, b_X9_digest_33]) rfl ih_33
      · show Z X G 4 0 0 (wMd G da dn dp dr ds dl dc dt dg now past states refused aside pile came pileL text textL place nargs) 33 [(0, .ref da), (1, .long (s_X9_digest_33 now states refused textL (80 + 4 * (now (96 : Int32).toNatClampNeg).toNatClampNeg))), (3, .int (nI (80 + 4 * (now (96 : Int32).toNatClampNeg).toNatClampNeg)))] []
        refine z_iload_n (pc := 33) C 2 dX9_digest_33 rfl ?_
        refine z_bipush (pc := 34) (v := 80) C dX9_digest_34 (by decide) ?_
        refine z_iconst (pc := 36) (v := 4) C dX9_digest_36 (by decide) ?_
        refine z_aload_n (pc := 37) C 0 dX9_digest_37 rfl ?_
        refine z_get (pc := 38) C 0 0 dX9_digest_38 rfl rfl i_X9 (by decide) q_829 rfl ?_
        refine z_bipush (pc := 41) (v := 96) C dX9_digest_41 (by decide) ?_
        refine z_iald (pc := 43) C 1 dX9_digest_43 rfl (ix_c (k := 96) rfl (by decide) (by decide)) ?_
        refine z_imul (pc := 44) C dX9_digest_44 ?_
        refine z_iadd (pc := 45) C dX9_digest_45 ?_
        refine z_icmp_ge (pc := 46) 69 C dX9_digest_46 (by decide) (fun c_46 => ?_) (fun c_46 => ?_)
        · skip
          refine z_lload_n (pc := 69) C 1 dX9_digest_69 rfl ?_
          exact z_lret (pc := 70) C E dX9_digest_70 (pL.mk rfl rfl)
        · skip
          exact absurd (lpx (mo_len hm)) c_46
    · skip
      exact absurd (nI_le (Nat.le_refl 6) (by decide)) c_9

def f_X9_type (textL : Int32) (c : Int32) : Int32 := if (f_X9_in c.toInt64 0 127) = 0 then f_X9_bad (-2) else if textL = 120 then f_X9_full else textL + 1
def g_X9_type_refused (refused : Nat → Int32) (textL : Int32) (c : Int32) : Nat → Int32 := if (f_X9_in c.toInt64 0 127) = 0 then g_X9_bad_refused refused else if textL = 120 then g_X9_full_refused refused else refused
def g_X9_type_text (text : Nat → Int32) (textL : Int32) (c : Int32) : Nat → Int32 := if (f_X9_in c.toInt64 0 127) = 0 then text else if textL = 120 then text else upd text textL.toNatClampNeg c
def g_X9_type_textL (textL : Int32) (c : Int32) : Int32 := if (f_X9_in c.toInt64 0 127) = 0 then textL else if textL = 120 then textL else textL + 1
set_option maxRecDepth 100000 in
theorem c_X9_type {l : Launch} {G : zG} {da dn dp dr ds dl dc dt dg : Nat} {now : Nat → Int32} {past : Nat → Int32} {states : Int32} {refused : Nat → Int32} {aside : Nat → Int32} {pile : Nat → Int32} {came : Nat → Int32} {pileL : Int32} {text : Nat → Int32} {textL : Int32} {place : Int32} {nargs : Nat → Int32} {c : Int32} (ht : tL textL) : Ct l G yX9_type cX9_type 2 (Option.some FieldType.int) 1 25 [.ref da, .int c] (wMd G da dn dp dr ds dl dc dt dg now past states refused aside pile came pileL text textL place nargs) (pI (f_X9_type textL c) (wMd G da dn dp dr ds dl dc dt dg now past states (g_X9_type_refused refused textL c) aside pile came pileL (g_X9_type_text text textL c) (g_X9_type_textL textL c) place nargs)) := by
  refine Ct.of (plainFor_of_name (by decide)) (Nat.le_of_ble_eq_true rfl) (pI.ad ad_Md) (fun X C E => ?_)
  show Z X G 2 0 0 _ 0 [(0, .ref da), (1, .int c)] []
  refine z_iload_n (pc := 0) C 1 dX9_type_0 rfl ?_
  refine z_i2l (pc := 1) C dX9_type_1 ?_
  refine z_lconst (pc := 2) (v := 0) C dX9_type_2 (by decide) ?_
  refine z_ldc2_w (pc := 3) C q_1113 dX9_type_3 ?_
  refine z_callS (pc := 6) C (c_X9_in) [] z00 mS_X9_in q_875 dX9_type_6 rfl rfl rfl rfl (Nat.le_of_ble_eq_true rfl) (by decide) (pI.stay rfl ?_)
  refine z_if_ne (pc := 9) 19 C dX9_type_9 (by decide) (fun c_9 => ?_) (fun c_9 => ?_)
  · skip
    refine z_aload_n (pc := 19) C 0 dX9_type_19 rfl ?_
    refine z_get (pc := 20) C 0 9 dX9_type_20 rfl rfl i_X9 (by decide) q_838 rfl ?_
    refine z_bipush (pc := 23) (v := 120) C dX9_type_23 (by decide) ?_
    refine z_icmp_ne (pc := 25) 33 C dX9_type_25 (by decide) (fun c_25 => ?_) (fun c_25 => ?_)
    · skip
      refine z_aload_n (pc := 33) C 0 dX9_type_33 rfl ?_
      refine z_get (pc := 34) C 0 8 dX9_type_34 rfl rfl i_X9 (by decide) q_837 rfl ?_
      refine z_aload_n (pc := 37) C 0 dX9_type_37 rfl ?_
      refine z_get (pc := 38) C 0 9 dX9_type_38 rfl rfl i_X9 (by decide) q_838 rfl ?_
      refine z_iload_n (pc := 41) C 1 dX9_type_41 rfl ?_
      refine z_iast (pc := 42) (wMd G da dn dp dr ds dl dc dt dg now past states refused aside pile came pileL _ textL place nargs) C 7 dX9_type_42 rfl (tx_ix ht c_25) rfl ?_
      refine z_aload_n (pc := 43) C 0 dX9_type_43 rfl ?_
      refine z_dup (pc := 44) C dX9_type_44 rfl ?_
      refine z_get (pc := 45) C 0 9 dX9_type_45 rfl rfl i_X9 (by decide) q_838 rfl ?_
      refine z_iconst (pc := 48) (v := 1) C dX9_type_48 (by decide) ?_
      refine z_iadd (pc := 49) C dX9_type_49 ?_
      refine z_put (pc := 50) (wMd G da dn dp dr ds dl dc dt dg now past states refused aside pile came pileL _ _ place nargs) C 0 9 dX9_type_50 rfl rfl i_X9 tyX9_ok nmX9 (by decide) q_838 rfl rfl rfl rfl (Nat.le_of_ble_eq_true rfl) rfl ?_
      refine z_aload_n (pc := 53) C 0 dX9_type_53 rfl ?_
      refine z_get (pc := 54) C 0 9 dX9_type_54 rfl rfl i_X9 (by decide) q_838 rfl ?_
      exact z_iret (pc := 57) C E dX9_type_57 (pI.mk (by simp only [f_X9_type, if_neg c_9, if_neg c_25]) (by simp only [g_X9_type_refused, g_X9_type_text, g_X9_type_textL, if_neg c_9, if_neg c_25]))
    · skip
      refine z_aload_n (pc := 28) C 0 dX9_type_28 rfl ?_
      refine z_callV (pc := 29) C (c_X9_full) [0, 1, 2, 3, 4, 5, 6, 7, 8] z00 mV_X9_full q_935 dX9_type_29 rfl rfl rfl 0 rfl rfl rfl rfl (Nat.le_of_ble_eq_true rfl) (by decide) (pI.go (ws' := wMd G da dn dp dr ds dl dc dt dg now past states _ aside pile came pileL text textL place nargs) rfl ?_)
      exact z_iret (pc := 32) C E dX9_type_32 (pI.mk (by simp only [f_X9_type, if_neg c_9, if_pos c_25]) (by simp only [g_X9_type_refused, g_X9_type_text, g_X9_type_textL, if_neg c_9, if_pos c_25]))
  · skip
    refine z_aload_n (pc := 12) C 0 dX9_type_12 rfl ?_
    refine z_bipush (pc := 13) (v := (-2)) C dX9_type_13 (by decide) ?_
    refine z_callV (pc := 15) C (c_X9_bad) [0, 1, 2, 3, 4, 5, 6, 7, 8] z00 mV_X9_bad q_883 dX9_type_15 rfl rfl rfl 0 rfl rfl rfl rfl (Nat.le_of_ble_eq_true rfl) (by decide) (pI.go (ws' := wMd G da dn dp dr ds dl dc dt dg now past states _ aside pile came pileL text textL place nargs) rfl ?_)
    exact z_iret (pc := 18) C E dX9_type_18 (pI.mk (by simp only [f_X9_type, if_pos c_9]) (by simp only [g_X9_type_refused, g_X9_type_text, g_X9_type_textL, if_pos c_9]))

def f_X9_clear (textL : Int32) : Int32 := textL
def g_X9_clear_textL  : Int32 := 0
set_option maxRecDepth 100000 in
theorem c_X9_clear {l : Launch} {G : zG} {da dn dp dr ds dl dc dt dg : Nat} {now : Nat → Int32} {past : Nat → Int32} {states : Int32} {refused : Nat → Int32} {aside : Nat → Int32} {pile : Nat → Int32} {came : Nat → Int32} {pileL : Int32} {text : Nat → Int32} {textL : Int32} {place : Int32} {nargs : Nat → Int32} : Ct l G yX9_clear cX9_clear 2 (Option.some FieldType.int) 0 0 [.ref da] (wMd G da dn dp dr ds dl dc dt dg now past states refused aside pile came pileL text textL place nargs) (pI (f_X9_clear textL) (wMd G da dn dp dr ds dl dc dt dg now past states refused aside pile came pileL text g_X9_clear_textL place nargs)) := by
  refine Ct.of (plainFor_of_name (by decide)) (Nat.le_of_ble_eq_true rfl) (pI.ad ad_Md) (fun X C E => ?_)
  show Z X G 2 0 0 _ 0 [(0, .ref da)] []
  refine z_aload_n (pc := 0) C 0 dX9_clear_0 rfl ?_
  refine z_get (pc := 1) C 0 9 dX9_clear_1 rfl rfl i_X9 (by decide) q_838 rfl ?_
  refine z_istore_n (pc := 4) [(1, _), (0, _)] C dX9_clear_4 rfl (by decide) rfl ?_
  refine z_aload_n (pc := 5) C 1 dX9_clear_5 rfl ?_
  refine z_iconst (pc := 6) (v := 0) C dX9_clear_6 (by decide) ?_
  refine z_put (pc := 7) (wMd G da dn dp dr ds dl dc dt dg now past states refused aside pile came pileL text _ place nargs) C 0 9 dX9_clear_7 rfl rfl i_X9 tyX9_ok nmX9 (by decide) q_838 rfl rfl rfl rfl (Nat.le_of_ble_eq_true rfl) rfl ?_
  refine z_iload_n (pc := 10) C 0 dX9_clear_10 rfl ?_
  exact z_iret (pc := 11) C E dX9_clear_11 (pI.mk rfl rfl)

def b_X9_back_24 (past : Nat → Int32) (states : Int32) (i_24 : Nat) (z_24 : (Nat → Int32)) : (Nat → Int32) := upd z_24 (nI i_24).toNatClampNeg (past ((97 * (states - 1)) + (nI i_24)).toNatClampNeg)
def s_X9_back_24 (now : Nat → Int32) (past : Nat → Int32) (states : Int32) : Nat → (Nat → Int32)
  | 0 => now
  | i_24 + 1 => b_X9_back_24 past states i_24 (s_X9_back_24 now past states i_24)
def f_X9_back (states : Int32) : Int32 := if states = 0 then f_X9_no else states - 1
def g_X9_back_now (now : Nat → Int32) (past : Nat → Int32) (states : Int32) : Nat → Int32 := if states = 0 then now else (s_X9_back_24 now past states 97)
def g_X9_back_states (states : Int32) : Int32 := if states = 0 then states else states - 1
def g_X9_back_refused (states : Int32) (refused : Nat → Int32) : Nat → Int32 := if states = 0 then g_X9_no_refused refused else refused
set_option maxRecDepth 100000 in
theorem c_X9_back {l : Launch} {G : zG} {da dn dp dr ds dl dc dt dg : Nat} {now : Nat → Int32} {past : Nat → Int32} {states : Int32} {refused : Nat → Int32} {aside : Nat → Int32} {pile : Nat → Int32} {came : Nat → Int32} {pileL : Int32} {text : Nat → Int32} {textL : Int32} {place : Int32} {nargs : Nat → Int32} (hq : qOk states) : Ct l G yX9_back cX9_back 2 (Option.some FieldType.int) 1 20 [.ref da] (wMd G da dn dp dr ds dl dc dt dg now past states refused aside pile came pileL text textL place nargs) (pI (f_X9_back states) (wMd G da dn dp dr ds dl dc dt dg (g_X9_back_now now past states) past (g_X9_back_states states) (g_X9_back_refused states refused) aside pile came pileL text textL place nargs)) := by
  refine Ct.of (plainFor_of_name (by decide)) (Nat.le_of_ble_eq_true rfl) (pI.ad ad_Md) (fun X C E => ?_)
  show Z X G 2 0 0 _ 0 [(0, .ref da)] []
  refine z_aload_n (pc := 0) C 0 dX9_back_0 rfl ?_
  refine z_get (pc := 1) C 0 2 dX9_back_1 rfl rfl i_X9 (by decide) q_831 rfl ?_
  refine z_if_ne (pc := 4) 12 C dX9_back_4 (by decide) (fun c_4 => ?_) (fun c_4 => ?_)
  · skip
    obtain ⟨c, hc5, hcs⟩ := q_dn hq c_4
    refine z_aload_n (pc := 12) C 0 dX9_back_12 rfl ?_
    refine z_dup (pc := 13) C dX9_back_13 rfl ?_
    refine z_get (pc := 14) C 0 2 dX9_back_14 rfl rfl i_X9 (by decide) q_831 rfl ?_
    refine z_iconst (pc := 17) (v := 1) C dX9_back_17 (by decide) ?_
    refine z_isub (pc := 18) C dX9_back_18 ?_
    refine z_put (pc := 19) (wMd G da dn dp dr ds dl dc dt dg now past _ refused aside pile came pileL text textL place nargs) C 0 2 dX9_back_19 rfl rfl i_X9 tyX9_ok nmX9 (by decide) q_831 rfl rfl rfl rfl (Nat.le_of_ble_eq_true rfl) rfl ?_
    refine z_iconst (pc := 22) (v := 0) C dX9_back_22 (by decide) ?_
    refine z_istore_n (pc := 23) [(1, _), (0, _)] C dX9_back_23 rfl (by decide) rfl ?_
    refine z_lv (lv' := [(0, _), (1, _)]) [1, 0] rfl ?_
    refine z_loop (pc := 24) (e := 97) (fun i_24 => wMd G da dn dp dr ds dl dc dt dg (s_X9_back_24 now past states i_24) past (states - 1) refused aside pile came pileL text textL place nargs) (fun i_24 => [(0, .ref da), (1, .int (nI i_24))]) [] (fun i_24 hi_24 ih_24 => ?_) ?_ 0 (Nat.zero_le _)
    · show Z X G 2 0 0 (wMd G da dn dp dr ds dl dc dt dg (s_X9_back_24 now past states i_24) past (states - 1) refused aside pile came pileL text textL place nargs) 24 [(0, .ref da), (1, .int (nI i_24))] []
      generalize hz_24 : s_X9_back_24 now past states i_24 = z_24
      refine z_iload_n (pc := 24) C 1 dX9_back_24 rfl ?_
      refine z_bipush (pc := 25) (v := 97) C dX9_back_25 (by decide) ?_
      refine z_icmp_ge (pc := 27) 56 C dX9_back_27 (by decide) (fun c_27 => ?_) (fun c_27 => ?_)
      · skip
        exact absurd c_27 (nI_ge (b := 97) (by omega) (by decide))
      · skip
        refine z_aload_n (pc := 30) C 0 dX9_back_30 rfl ?_
        refine z_get (pc := 31) C 0 0 dX9_back_31 rfl rfl i_X9 (by decide) q_829 rfl ?_
        refine z_iload_n (pc := 34) C 1 dX9_back_34 rfl ?_
        refine z_aload_n (pc := 35) C 0 dX9_back_35 rfl ?_
        refine z_get (pc := 36) C 0 1 dX9_back_36 rfl rfl i_X9 (by decide) q_830 rfl ?_
        refine z_bipush (pc := 39) (v := 97) C dX9_back_39 (by decide) ?_
        refine z_aload_n (pc := 41) C 0 dX9_back_41 rfl ?_
        refine z_get (pc := 42) C 0 2 dX9_back_42 rfl rfl i_X9 (by decide) q_831 rfl ?_
        refine z_imul (pc := 45) C dX9_back_45 ?_
        refine z_iload_n (pc := 46) C 1 dX9_back_46 rfl ?_
        refine z_iadd (pc := 47) C dX9_back_47 ?_
        refine z_iald (pc := 48) C 2 dX9_back_48 rfl (ix_ps hcs hc5 hi_24) ?_
        refine z_iast (pc := 49) (wMd G da dn dp dr ds dl dc dt dg _ past _ refused aside pile came pileL text textL place nargs) C 1 dX9_back_49 rfl (ix_nI hi_24 (by decide)) rfl ?_
        refine z_iinc (pc := 50) (v := nI (i_24 + 1)) [(1, _), (0, _)] C 1 dX9_back_50 rfl ((nI_succ _).symm) (by decide) rfl ?_
        refine z_goto (pc := 53) 24 C dX9_back_53 (by decide) ?_
        refine z_lv (lv' := [(0, _), (1, _)]) [1, 0] rfl ?_
        exact z_eq (by simp only [s_X9_back_24, hz_24, b_X9_back_24]) rfl rfl ih_24
    · show Z X G 2 0 0 (wMd G da dn dp dr ds dl dc dt dg (s_X9_back_24 now past states 97) past (states - 1) refused aside pile came pileL text textL place nargs) 24 [(0, .ref da), (1, .int (nI 97))] []
      refine z_iload_n (pc := 24) C 1 dX9_back_24 rfl ?_
      refine z_bipush (pc := 25) (v := 97) C dX9_back_25 (by decide) ?_
      refine z_icmp_ge (pc := 27) 56 C dX9_back_27 (by decide) (fun c_27 => ?_) (fun c_27 => ?_)
      · skip
        refine z_aload_n (pc := 56) C 0 dX9_back_56 rfl ?_
        refine z_get (pc := 57) C 0 2 dX9_back_57 rfl rfl i_X9 (by decide) q_831 rfl ?_
        exact z_iret (pc := 60) C E dX9_back_60 (pI.mk (by simp only [f_X9_back, if_neg c_4]) (by simp only [g_X9_back_now, g_X9_back_states, g_X9_back_refused, if_neg c_4]))
      · skip
        exact absurd (nI_le (Nat.le_refl 97) (by decide)) c_27
  · skip
    refine z_aload_n (pc := 7) C 0 dX9_back_7 rfl ?_
    refine z_callV (pc := 8) C (c_X9_no) [0, 1, 2, 3, 4, 5, 6, 7, 8] z00 mV_X9_no q_1004 dX9_back_8 rfl rfl rfl 0 rfl rfl rfl rfl (Nat.le_of_ble_eq_true rfl) (by decide) (pI.go (ws' := wMd G da dn dp dr ds dl dc dt dg now past states _ aside pile came pileL text textL place nargs) rfl ?_)
    exact z_iret (pc := 11) C E dX9_back_11 (pI.mk (by simp only [f_X9_back, if_pos c_4]) (by simp only [g_X9_back_now, g_X9_back_states, g_X9_back_refused, if_pos c_4]))

def f_X9_sortsOf (c : Int32) : Int32 := if c = 99 then 31140 else if c = 102 then 110 else if c = 108 then 311110 else if c = 109 then 311022110 else if c = 111 then 2211 else if c = 114 then 322110 else 0
set_option maxRecDepth 100000 in
theorem c_X9_sortsOf {l : Launch} {G : zG} {c : Int32} : Ct l G yX9_sortsOf cX9_sortsOf 1 (Option.some FieldType.int) 0 0 [.int c] ([]) (pI (f_X9_sortsOf c) ([])) := by
  refine Ct.of (plainFor_of_name (by decide)) (Nat.le_of_ble_eq_true rfl) (pI.ad rfl) (fun X C E => ?_)
  show Z X G 1 0 0 _ 0 [(0, .int c)] []
  refine z_iload_n (pc := 0) C 0 dX9_sortsOf_0 rfl ?_
  by_cases c_1_99 : c = 99
  · skip
    refine z_tableIn (pc := 1) 92 C dX9_sortsOf_1 (by rw [c_1_99]; decide) (by rw [c_1_99]; decide) (by rw [c_1_99]; rfl) (by decide) ?_
    refine z_sipush (pc := 92) (v := 31140) C dX9_sortsOf_92 (by decide) ?_
    exact z_iret (pc := 95) C E dX9_sortsOf_95 (pI.mk (by simp only [f_X9_sortsOf, if_pos c_1_99]) rfl)
  by_cases c_1_102 : c = 102
  · skip
    refine z_tableIn (pc := 1) 86 C dX9_sortsOf_1 (by rw [c_1_102]; decide) (by rw [c_1_102]; decide) (by rw [c_1_102]; rfl) (by decide) ?_
    refine z_bipush (pc := 86) (v := 110) C dX9_sortsOf_86 (by decide) ?_
    exact z_iret (pc := 88) C E dX9_sortsOf_88 (pI.mk (by simp only [f_X9_sortsOf, if_neg c_1_99, if_pos c_1_102]) rfl)
  by_cases c_1_108 : c = 108
  · skip
    refine z_tableIn (pc := 1) 83 C dX9_sortsOf_1 (by rw [c_1_108]; decide) (by rw [c_1_108]; decide) (by rw [c_1_108]; rfl) (by decide) ?_
    refine z_ldc (pc := 83) C q_1141 dX9_sortsOf_83 ?_
    exact z_iret (pc := 85) C E dX9_sortsOf_85 (pI.mk (by simp only [f_X9_sortsOf, if_neg c_1_99, if_neg c_1_102, if_pos c_1_108]) rfl)
  by_cases c_1_109 : c = 109
  · skip
    refine z_tableIn (pc := 1) 80 C dX9_sortsOf_1 (by rw [c_1_109]; decide) (by rw [c_1_109]; decide) (by rw [c_1_109]; rfl) (by decide) ?_
    refine z_ldc (pc := 80) C q_1140 dX9_sortsOf_80 ?_
    exact z_iret (pc := 82) C E dX9_sortsOf_82 (pI.mk (by simp only [f_X9_sortsOf, if_neg c_1_99, if_neg c_1_102, if_neg c_1_108, if_pos c_1_109]) rfl)
  by_cases c_1_111 : c = 111
  · skip
    refine z_tableIn (pc := 1) 96 C dX9_sortsOf_1 (by rw [c_1_111]; decide) (by rw [c_1_111]; decide) (by rw [c_1_111]; rfl) (by decide) ?_
    refine z_sipush (pc := 96) (v := 2211) C dX9_sortsOf_96 (by decide) ?_
    exact z_iret (pc := 99) C E dX9_sortsOf_99 (pI.mk (by simp only [f_X9_sortsOf, if_neg c_1_99, if_neg c_1_102, if_neg c_1_108, if_neg c_1_109, if_pos c_1_111]) rfl)
  by_cases c_1_114 : c = 114
  · skip
    refine z_tableIn (pc := 1) 89 C dX9_sortsOf_1 (by rw [c_1_114]; decide) (by rw [c_1_114]; decide) (by rw [c_1_114]; rfl) (by decide) ?_
    refine z_ldc (pc := 89) C q_1142 dX9_sortsOf_89 ?_
    exact z_iret (pc := 91) C E dX9_sortsOf_91 (pI.mk (by simp only [f_X9_sortsOf, if_neg c_1_99, if_neg c_1_102, if_neg c_1_108, if_neg c_1_109, if_neg c_1_111, if_pos c_1_114]) rfl)
  refine z_tableD (pc := 1) 100 C dX9_sortsOf_1 [99, 102, 108, 109, 111, 114] (by decide) (List.forall_mem_cons.mpr ⟨lv_neT c_1_99 rfl, List.forall_mem_cons.mpr ⟨lv_neT c_1_102 rfl, List.forall_mem_cons.mpr ⟨lv_neT c_1_108 rfl, List.forall_mem_cons.mpr ⟨lv_neT c_1_109 rfl, List.forall_mem_cons.mpr ⟨lv_neT c_1_111 rfl, List.forall_mem_cons.mpr ⟨lv_neT c_1_114 rfl, fun _ h => absurd h List.not_mem_nil⟩⟩⟩⟩⟩⟩) (by decide) ?_
  refine z_iconst (pc := 100) (v := 0) C dX9_sortsOf_100 (by decide) ?_
  exact z_iret (pc := 101) C E dX9_sortsOf_101 (pI.mk (by simp only [f_X9_sortsOf, if_neg c_1_99, if_neg c_1_102, if_neg c_1_108, if_neg c_1_109, if_neg c_1_111, if_neg c_1_114]) rfl)

def f_X9_manyOf (c : Int32) : Int32 := if c = 109 then 9 else if c = 108 then 6 else if c = 114 then 6 else if c = 102 then 3 else if c = 99 then 5 else if c = 111 then 4 else if c = 107 then 0 else (-1)
set_option maxRecDepth 100000 in
theorem c_X9_manyOf {l : Launch} {G : zG} {c : Int32} : Ct l G yX9_manyOf cX9_manyOf 1 (Option.some FieldType.int) 0 0 [.int c] ([]) (pI (f_X9_manyOf c) ([])) := by
  refine Ct.of (plainFor_of_name (by decide)) (Nat.le_of_ble_eq_true rfl) (pI.ad rfl) (fun X C E => ?_)
  show Z X G 1 0 0 _ 0 [(0, .int c)] []
  refine z_iload_n (pc := 0) C 0 dX9_manyOf_0 rfl ?_
  refine z_bipush (pc := 1) (v := 109) C dX9_manyOf_1 (by decide) ?_
  refine z_icmp_ne (pc := 3) 11 C dX9_manyOf_3 (by decide) (fun c_3 => ?_) (fun c_3 => ?_)
  · skip
    refine z_iload_n (pc := 11) C 0 dX9_manyOf_11 rfl ?_
    refine z_bipush (pc := 12) (v := 108) C dX9_manyOf_12 (by decide) ?_
    refine z_icmp_eq (pc := 14) 23 C dX9_manyOf_14 (by decide) (fun c_14 => ?_) (fun c_14 => ?_)
    · skip
      refine z_bipush (pc := 23) (v := 6) C dX9_manyOf_23 (by decide) ?_
      refine z_goto (pc := 25) 69 C dX9_manyOf_25 (by decide) ?_
      exact z_iret (pc := 69) C E dX9_manyOf_69 (pI.mk (by simp only [f_X9_manyOf, if_neg c_3, if_pos c_14]) rfl)
    · skip
      refine z_iload_n (pc := 17) C 0 dX9_manyOf_17 rfl ?_
      refine z_bipush (pc := 18) (v := 114) C dX9_manyOf_18 (by decide) ?_
      refine z_icmp_ne (pc := 20) 28 C dX9_manyOf_20 (by decide) (fun c_20 => ?_) (fun c_20 => ?_)
      · skip
        refine z_iload_n (pc := 28) C 0 dX9_manyOf_28 rfl ?_
        refine z_bipush (pc := 29) (v := 102) C dX9_manyOf_29 (by decide) ?_
        refine z_icmp_ne (pc := 31) 38 C dX9_manyOf_31 (by decide) (fun c_31 => ?_) (fun c_31 => ?_)
        · skip
          refine z_iload_n (pc := 38) C 0 dX9_manyOf_38 rfl ?_
          refine z_bipush (pc := 39) (v := 99) C dX9_manyOf_39 (by decide) ?_
          refine z_icmp_ne (pc := 41) 48 C dX9_manyOf_41 (by decide) (fun c_41 => ?_) (fun c_41 => ?_)
          · skip
            refine z_iload_n (pc := 48) C 0 dX9_manyOf_48 rfl ?_
            refine z_bipush (pc := 49) (v := 111) C dX9_manyOf_49 (by decide) ?_
            refine z_icmp_ne (pc := 51) 58 C dX9_manyOf_51 (by decide) (fun c_51 => ?_) (fun c_51 => ?_)
            · skip
              refine z_iload_n (pc := 58) C 0 dX9_manyOf_58 rfl ?_
              refine z_bipush (pc := 59) (v := 107) C dX9_manyOf_59 (by decide) ?_
              refine z_icmp_ne (pc := 61) 68 C dX9_manyOf_61 (by decide) (fun c_61 => ?_) (fun c_61 => ?_)
              · skip
                refine z_iconst (pc := 68) (v := (-1)) C dX9_manyOf_68 (by decide) ?_
                exact z_iret (pc := 69) C E dX9_manyOf_69 (pI.mk (by simp only [f_X9_manyOf, if_neg c_3, if_neg c_14, if_neg c_20, if_neg c_31, if_neg c_41, if_neg c_51, if_neg c_61]) rfl)
              · skip
                refine z_iconst (pc := 64) (v := 0) C dX9_manyOf_64 (by decide) ?_
                refine z_goto (pc := 65) 69 C dX9_manyOf_65 (by decide) ?_
                exact z_iret (pc := 69) C E dX9_manyOf_69 (pI.mk (by simp only [f_X9_manyOf, if_neg c_3, if_neg c_14, if_neg c_20, if_neg c_31, if_neg c_41, if_neg c_51, if_pos c_61]) rfl)
            · skip
              refine z_iconst (pc := 54) (v := 4) C dX9_manyOf_54 (by decide) ?_
              refine z_goto (pc := 55) 69 C dX9_manyOf_55 (by decide) ?_
              exact z_iret (pc := 69) C E dX9_manyOf_69 (pI.mk (by simp only [f_X9_manyOf, if_neg c_3, if_neg c_14, if_neg c_20, if_neg c_31, if_neg c_41, if_pos c_51]) rfl)
          · skip
            refine z_iconst (pc := 44) (v := 5) C dX9_manyOf_44 (by decide) ?_
            refine z_goto (pc := 45) 69 C dX9_manyOf_45 (by decide) ?_
            exact z_iret (pc := 69) C E dX9_manyOf_69 (pI.mk (by simp only [f_X9_manyOf, if_neg c_3, if_neg c_14, if_neg c_20, if_neg c_31, if_pos c_41]) rfl)
        · skip
          refine z_iconst (pc := 34) (v := 3) C dX9_manyOf_34 (by decide) ?_
          refine z_goto (pc := 35) 69 C dX9_manyOf_35 (by decide) ?_
          exact z_iret (pc := 69) C E dX9_manyOf_69 (pI.mk (by simp only [f_X9_manyOf, if_neg c_3, if_neg c_14, if_neg c_20, if_pos c_31]) rfl)
      · skip
        refine z_bipush (pc := 23) (v := 6) C dX9_manyOf_23 (by decide) ?_
        refine z_goto (pc := 25) 69 C dX9_manyOf_25 (by decide) ?_
        exact z_iret (pc := 69) C E dX9_manyOf_69 (pI.mk (by simp only [f_X9_manyOf, if_neg c_3, if_neg c_14, if_pos c_20]) rfl)
  · skip
    refine z_bipush (pc := 6) (v := 9) C dX9_manyOf_6 (by decide) ?_
    refine z_goto (pc := 8) 69 C dX9_manyOf_8 (by decide) ?_
    exact z_iret (pc := 69) C E dX9_manyOf_69 (pI.mk (by simp only [f_X9_manyOf, if_pos c_3]) rfl)

def f_X9_isAs (sort : Int32) (v : Int32) : Int32 := if sort = 0 then f_X9_in v.toInt64 0 2 else if sort = 1 then f_X9_in v.toInt64 (-64) 63 else if sort = 2 then f_X9_in v.toInt64 1 64 else if sort = 3 then f_X9_in v.toInt64 0 255 else f_X9_in v.toInt64 0 15
set_option maxRecDepth 100000 in
theorem c_X9_isAs {l : Launch} {G : zG} {sort : Int32} {v : Int32} : Ct l G yX9_isAs cX9_isAs 2 (Option.some FieldType.boolean) 1 25 [.int sort, .int v] ([]) (pI (f_X9_isAs sort v) ([])) := by
  refine Ct.of (plainFor_of_name (by decide)) (Nat.le_of_ble_eq_true rfl) (pI.ad rfl) (fun X C E => ?_)
  show Z X G 2 0 0 _ 0 [(0, .int sort), (1, .int v)] []
  refine z_iload_n (pc := 0) C 0 dX9_isAs_0 rfl ?_
  refine z_if_ne (pc := 1) 16 C dX9_isAs_1 (by decide) (fun c_1 => ?_) (fun c_1 => ?_)
  · skip
    refine z_iload_n (pc := 16) C 0 dX9_isAs_16 rfl ?_
    refine z_iconst (pc := 17) (v := 1) C dX9_isAs_17 (by decide) ?_
    refine z_icmp_ne (pc := 18) 35 C dX9_isAs_18 (by decide) (fun c_18 => ?_) (fun c_18 => ?_)
    · skip
      refine z_iload_n (pc := 35) C 0 dX9_isAs_35 rfl ?_
      refine z_iconst (pc := 36) (v := 2) C dX9_isAs_36 (by decide) ?_
      refine z_icmp_ne (pc := 37) 52 C dX9_isAs_37 (by decide) (fun c_37 => ?_) (fun c_37 => ?_)
      · skip
        refine z_iload_n (pc := 52) C 0 dX9_isAs_52 rfl ?_
        refine z_iconst (pc := 53) (v := 3) C dX9_isAs_53 (by decide) ?_
        refine z_icmp_ne (pc := 54) 69 C dX9_isAs_54 (by decide) (fun c_54 => ?_) (fun c_54 => ?_)
        · skip
          refine z_iload_n (pc := 69) C 1 dX9_isAs_69 rfl ?_
          refine z_i2l (pc := 70) C dX9_isAs_70 ?_
          refine z_lconst (pc := 71) (v := 0) C dX9_isAs_71 (by decide) ?_
          refine z_ldc2_w (pc := 72) C q_1036 dX9_isAs_72 ?_
          refine z_callS (pc := 75) C (c_X9_in) [] z00 mS_X9_in q_875 dX9_isAs_75 rfl rfl rfl rfl (Nat.le_of_ble_eq_true rfl) (by decide) (pI.stay rfl ?_)
          exact z_zret (pc := 78) C E dX9_isAs_78 (nb_X9_in) (pI.mk (by simp only [f_X9_isAs, if_neg c_1, if_neg c_18, if_neg c_37, if_neg c_54]) rfl)
        · skip
          refine z_iload_n (pc := 57) C 1 dX9_isAs_57 rfl ?_
          refine z_i2l (pc := 58) C dX9_isAs_58 ?_
          refine z_lconst (pc := 59) (v := 0) C dX9_isAs_59 (by decide) ?_
          refine z_ldc2_w (pc := 60) C q_907 dX9_isAs_60 ?_
          refine z_callS (pc := 63) C (c_X9_in) [] z00 mS_X9_in q_875 dX9_isAs_63 rfl rfl rfl rfl (Nat.le_of_ble_eq_true rfl) (by decide) (pI.stay rfl ?_)
          refine z_goto (pc := 66) 78 C dX9_isAs_66 (by decide) ?_
          exact z_zret (pc := 78) C E dX9_isAs_78 (nb_X9_in) (pI.mk (by simp only [f_X9_isAs, if_neg c_1, if_neg c_18, if_neg c_37, if_pos c_54]) rfl)
      · skip
        refine z_iload_n (pc := 40) C 1 dX9_isAs_40 rfl ?_
        refine z_i2l (pc := 41) C dX9_isAs_41 ?_
        refine z_lconst (pc := 42) (v := 1) C dX9_isAs_42 (by decide) ?_
        refine z_ldc2_w (pc := 43) C q_934 dX9_isAs_43 ?_
        refine z_callS (pc := 46) C (c_X9_in) [] z00 mS_X9_in q_875 dX9_isAs_46 rfl rfl rfl rfl (Nat.le_of_ble_eq_true rfl) (by decide) (pI.stay rfl ?_)
        refine z_goto (pc := 49) 78 C dX9_isAs_49 (by decide) ?_
        exact z_zret (pc := 78) C E dX9_isAs_78 (nb_X9_in) (pI.mk (by simp only [f_X9_isAs, if_neg c_1, if_neg c_18, if_pos c_37]) rfl)
    · skip
      refine z_iload_n (pc := 21) C 1 dX9_isAs_21 rfl ?_
      refine z_i2l (pc := 22) C dX9_isAs_22 ?_
      refine z_ldc2_w (pc := 23) C q_929 dX9_isAs_23 ?_
      refine z_ldc2_w (pc := 26) C q_930 dX9_isAs_26 ?_
      refine z_callS (pc := 29) C (c_X9_in) [] z00 mS_X9_in q_875 dX9_isAs_29 rfl rfl rfl rfl (Nat.le_of_ble_eq_true rfl) (by decide) (pI.stay rfl ?_)
      refine z_goto (pc := 32) 78 C dX9_isAs_32 (by decide) ?_
      exact z_zret (pc := 78) C E dX9_isAs_78 (nb_X9_in) (pI.mk (by simp only [f_X9_isAs, if_neg c_1, if_pos c_18]) rfl)
  · skip
    refine z_iload_n (pc := 4) C 1 dX9_isAs_4 rfl ?_
    refine z_i2l (pc := 5) C dX9_isAs_5 ?_
    refine z_lconst (pc := 6) (v := 0) C dX9_isAs_6 (by decide) ?_
    refine z_ldc2_w (pc := 7) C q_874 dX9_isAs_7 ?_
    refine z_callS (pc := 10) C (c_X9_in) [] z00 mS_X9_in q_875 dX9_isAs_10 rfl rfl rfl rfl (Nat.le_of_ble_eq_true rfl) (by decide) (pI.stay rfl ?_)
    refine z_goto (pc := 13) 78 C dX9_isAs_13 (by decide) ?_
    exact z_zret (pc := 78) C E dX9_isAs_78 (nb_X9_in) (pI.mk (by simp only [f_X9_isAs, if_pos c_1]) rfl)
theorem nb_X9_isAs {sort : Int32} {v : Int32} : narrow .boolean (.int (f_X9_isAs sort v)) = .int (f_X9_isAs sort v) := by unfold f_X9_isAs; (repeat' split) <;> first | exact nb_X9_in | rfl
