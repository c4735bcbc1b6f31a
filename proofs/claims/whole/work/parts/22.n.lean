theorem mOk_upd {now : Nat → Int32} {k v : Int32} (h : mOk now) (hk : vp_in k 72) : mOk (upd now k.toNatClampNeg v) := by
  unfold mOk at h ⊢
  have h2 : k.toNatClampNeg < 72 := Nat.not_le.mp fun q => hk (Or.inr q)
  have h3 : ¬ (96 : Int32).toNatClampNeg = k.toNatClampNeg := by
    have : (96 : Int32).toNatClampNeg = 96 := by decide
    omega
  rw [pk_un h3]
  exact h
theorem mOk_sets {now : Nat → Int32} {t x y v : Int32} (hT : pT t) (hY : pY y) (h : mOk now) : mOk (g_X9_sets_now now t x y v) := mOk_upd h (ix_ty (by decide) hT hY)
theorem mOk_join {now : Nat → Int32} {t x y s join : Int32} (hT : pT t) (h : mOk now) : mOk (g_X9_joinsAt_now now t x y s join) := by
  unfold g_X9_joinsAt_now
  split
  · exact h
  · split
    · exact h
    · rename_i q _; exact mOk_sets hT (mI_ne q).2 h

def b_X9_copies_2 (now : Nat → Int32) (i_2 : Nat) (z_2 : (Nat → Int32)) : (Nat → Int32) := upd z_2 (nI i_2).toNatClampNeg (now (nI i_2).toNatClampNeg)
def s_X9_copies_2 (now : Nat → Int32) (aside : Nat → Int32) : Nat → (Nat → Int32)
  | 0 => aside
  | i_2 + 1 => b_X9_copies_2 now i_2 (s_X9_copies_2 now aside i_2)
def g_X9_copies_aside (now : Nat → Int32) (aside : Nat → Int32) : Nat → Int32 := (s_X9_copies_2 now aside 72)
set_option maxRecDepth 100000 in
theorem c_X9_copies {l : Launch} {G : zG} {da dn dp dr ds dl dc dt dg : Nat} {now : Nat → Int32} {past : Nat → Int32} {states : Int32} {refused : Nat → Int32} {aside : Nat → Int32} {pile : Nat → Int32} {came : Nat → Int32} {pileL : Int32} {text : Nat → Int32} {textL : Int32} {place : Int32} {nargs : Nat → Int32} : Ct l G yX9_copies cX9_copies 3 (Option.none : Option Jvm.ClassFile.FieldType) 0 0 [.ref da, .ref ds] (wMd G da dn dp dr ds dl dc dt dg now past states refused aside pile came pileL text textL place nargs) (pV (wMd G da dn dp dr ds dl dc dt dg now past states refused (g_X9_copies_aside now aside) pile came pileL text textL place nargs)) := by
  refine Ct.of (plainFor_of_name (by decide)) (Nat.le_of_ble_eq_true rfl) (pV.ad ad_Md) (fun X C E => ?_)
  show Z X G 3 0 0 _ 0 [(0, .ref da), (1, .ref ds)] []
  refine z_iconst (pc := 0) (v := 0) C dX9_copies_0 (by decide) ?_
  refine z_istore_n (pc := 1) [(2, _), (0, _), (1, _)] C dX9_copies_1 rfl (by decide) rfl ?_
  refine z_lv (lv' := [(0, _), (1, _), (2, _)]) [1, 2, 0] rfl ?_
  refine z_loop (pc := 2) (e := 72) (fun i_2 => wMd G da dn dp dr ds dl dc dt dg now past states refused (s_X9_copies_2 now aside i_2) pile came pileL text textL place nargs) (fun i_2 => [(0, .ref da), (1, .ref ds), (2, .int (nI i_2))]) [] (fun i_2 hi_2 ih_2 => ?_) ?_ 0 (Nat.zero_le _)
  · show Z X G 3 0 0 (wMd G da dn dp dr ds dl dc dt dg now past states refused (s_X9_copies_2 now aside i_2) pile came pileL text textL place nargs) 2 [(0, .ref da), (1, .ref ds), (2, .int (nI i_2))] []
    generalize hz_2 : s_X9_copies_2 now aside i_2 = z_2
    refine z_iload_n (pc := 2) C 2 dX9_copies_2 rfl ?_
    refine z_bipush (pc := 3) (v := 72) C dX9_copies_3 (by decide) ?_
    refine z_icmp_ge (pc := 5) 23 C dX9_copies_5 (by decide) (fun c_5 => ?_) (fun c_5 => ?_)
    · skip
      exact absurd c_5 (nI_ge (b := 72) (by omega) (by decide))
    · skip
      refine z_aload_n (pc := 8) C 1 dX9_copies_8 rfl ?_
      refine z_iload_n (pc := 9) C 2 dX9_copies_9 rfl ?_
      refine z_aload_n (pc := 10) C 0 dX9_copies_10 rfl ?_
      refine z_get (pc := 11) C 0 0 dX9_copies_11 rfl rfl i_X9 (by decide) q_829 rfl ?_
      refine z_iload_n (pc := 14) C 2 dX9_copies_14 rfl ?_
      refine z_iald (pc := 15) C 1 dX9_copies_15 rfl (ix_nI (by omega) (by decide)) ?_
      refine z_iast (pc := 16) (wMd G da dn dp dr ds dl dc dt dg now past states refused _ pile came pileL text textL place nargs) C 4 dX9_copies_16 rfl (ix_nI hi_2 (by decide)) rfl ?_
      refine z_iinc (pc := 17) (v := nI (i_2 + 1)) [(2, _), (0, _), (1, _)] C 2 dX9_copies_17 rfl ((nI_succ _).symm) (by decide) rfl ?_
      refine z_goto (pc := 20) 2 C dX9_copies_20 (by decide) ?_
      refine z_lv (lv' := [(0, _), (1, _), (2, _)]) [1, 2, 0] rfl ?_
      exact z_eq (by simp only [s_X9_copies_2, hz_2, b_X9_copies_2]) rfl rfl ih_2
  · show Z X G 3 0 0 (wMd G da dn dp dr ds dl dc dt dg now past states refused (s_X9_copies_2 now aside 72) pile came pileL text textL place nargs) 2 [(0, .ref da), (1, .ref ds), (2, .int (nI 72))] []
    refine z_iload_n (pc := 2) C 2 dX9_copies_2 rfl ?_
    refine z_bipush (pc := 3) (v := 72) C dX9_copies_3 (by decide) ?_
    refine z_icmp_ge (pc := 5) 23 C dX9_copies_5 (by decide) (fun c_5 => ?_) (fun c_5 => ?_)
    · skip
      exact z_vret (pc := 23) C E dX9_copies_23 (pV.mk rfl)
    · skip
      exact absurd (nI_le (Nat.le_refl 72) (by decide)) c_5

def f_X9_asideAt (aside : Nat → Int32) (t : Int32) (x : Int32) (y : Int32) : Int32 := if (f_X9_isIn x y) = 0 then 0 else f_X9_bitOf (aside ((24 * t) + y).toNatClampNeg) x
set_option maxRecDepth 100000 in
theorem c_X9_asideAt {l : Launch} {G : zG} {da dn dp dr ds dl dc dt dg : Nat} {now : Nat → Int32} {past : Nat → Int32} {states : Int32} {refused : Nat → Int32} {aside : Nat → Int32} {pile : Nat → Int32} {came : Nat → Int32} {pileL : Int32} {text : Nat → Int32} {textL : Int32} {place : Int32} {nargs : Nat → Int32} {t : Int32} {x : Int32} {y : Int32} (hT : pT t) : Ct l G yX9_asideAt cX9_asideAt 4 (Option.some FieldType.int) 2 46 [.ref da, .int t, .int x, .int y] (wMd G da dn dp dr ds dl dc dt dg now past states refused aside pile came pileL text textL place nargs) (pI (f_X9_asideAt aside t x y) (wMd G da dn dp dr ds dl dc dt dg now past states refused aside pile came pileL text textL place nargs)) := by
  refine Ct.of (plainFor_of_name (by decide)) (Nat.le_of_ble_eq_true rfl) (pI.ad ad_Md) (fun X C E => ?_)
  show Z X G 4 0 0 _ 0 [(0, .ref da), (1, .int t), (2, .int x), (3, .int y)] []
  refine z_iload_n (pc := 0) C 2 dX9_asideAt_0 rfl ?_
  refine z_iload_n (pc := 1) C 3 dX9_asideAt_1 rfl ?_
  refine z_callS (pc := 2) C (c_X9_isIn) [] z00 mS_X9_isIn q_878 dX9_asideAt_2 rfl rfl rfl rfl (Nat.le_of_ble_eq_true rfl) (by decide) (pI.stay rfl ?_)
  refine z_if_eq (pc := 5) 26 C dX9_asideAt_5 (by decide) (fun c_5 => ?_) (fun c_5 => ?_)
  · skip
    refine z_iconst (pc := 26) (v := 0) C dX9_asideAt_26 (by decide) ?_
    exact z_iret (pc := 27) C E dX9_asideAt_27 (pI.mk (by simp only [f_X9_asideAt, if_pos c_5]) rfl)
  · skip
    refine z_aload_n (pc := 8) C 0 dX9_asideAt_8 rfl ?_
    refine z_get (pc := 9) C 0 4 dX9_asideAt_9 rfl rfl i_X9 (by decide) q_833 rfl ?_
    refine z_bipush (pc := 12) (v := 24) C dX9_asideAt_12 (by decide) ?_
    refine z_iload_n (pc := 14) C 1 dX9_asideAt_14 rfl ?_
    refine z_imul (pc := 15) C dX9_asideAt_15 ?_
    refine z_iload_n (pc := 16) C 3 dX9_asideAt_16 rfl ?_
    refine z_iadd (pc := 17) C dX9_asideAt_17 ?_
    refine z_iald (pc := 18) C 4 dX9_asideAt_18 rfl (ix_ty (by decide) hT (mI_ne c_5).2) ?_
    refine z_iload_n (pc := 19) C 2 dX9_asideAt_19 rfl ?_
    refine z_callS (pc := 20) C (c_X9_bitOf) [] z00 mS_X9_bitOf q_899 dX9_asideAt_20 rfl rfl rfl rfl (Nat.le_of_ble_eq_true rfl) (by decide) (pI.stay rfl ?_)
    refine z_goto (pc := 23) 27 C dX9_asideAt_23 (by decide) ?_
    exact z_iret (pc := 27) C E dX9_asideAt_27 (pI.mk (by simp only [f_X9_asideAt, if_neg c_5]) rfl)

def g_X9_opens_now (now : Nat → Int32) (x : Int32) (y : Int32) (w : Int32) (h : Int32) : Nat → Int32 := upd (upd (upd (upd (upd now (80 + (4 * (now (96 : Int32).toNatClampNeg))).toNatClampNeg x) ((80 + (4 * (now (96 : Int32).toNatClampNeg))) + 1).toNatClampNeg y) ((80 + (4 * (now (96 : Int32).toNatClampNeg))) + 2).toNatClampNeg w) ((80 + (4 * (now (96 : Int32).toNatClampNeg))) + 3).toNatClampNeg h) (96 : Int32).toNatClampNeg (((upd (upd (upd (upd now (80 + (4 * (now (96 : Int32).toNatClampNeg))).toNatClampNeg x) ((80 + (4 * (now (96 : Int32).toNatClampNeg))) + 1).toNatClampNeg y) ((80 + (4 * (now (96 : Int32).toNatClampNeg))) + 2).toNatClampNeg w) ((80 + (4 * (now (96 : Int32).toNatClampNeg))) + 3).toNatClampNeg h) (96 : Int32).toNatClampNeg) + 1)
theorem mo_lt {now : Nat → Int32} (hm : mOk now) (h4 : ¬ now (96 : Int32).toNatClampNeg = 4) : ∃ c : Nat, c < 4 ∧ now (96 : Int32).toNatClampNeg = nI c := by
  obtain ⟨e, l⟩ := cOk_nI hm
  refine ⟨_, ?_, e⟩
  by_cases q : (now (96 : Int32).toNatClampNeg).toNatClampNeg = 4
  · rw [q] at e; exact absurd e h4
  · omega
theorem ix_mc {x k : Int32} (h : ∃ c : Nat, c < 4 ∧ x = nI c) (j : Nat) (hk : k = nI j) (hj : j < 4) : vp_in (80 + 4 * x + k) 97 := by
  obtain ⟨c, hc, rfl⟩ := h
  exact ix_mo hc (Nat.le_refl 4) j hk hj
theorem ix_mc0 {x : Int32} (h : ∃ c : Nat, c < 4 ∧ x = nI c) : vp_in (80 + 4 * x) 97 := by
  obtain ⟨c, hc, rfl⟩ := h
  exact ix_mo0 hc (Nat.le_refl 4)
set_option maxRecDepth 100000 in
theorem c_X9_opens {l : Launch} {G : zG} {da dn dp dr ds dl dc dt dg : Nat} {now : Nat → Int32} {past : Nat → Int32} {states : Int32} {refused : Nat → Int32} {aside : Nat → Int32} {pile : Nat → Int32} {came : Nat → Int32} {pileL : Int32} {text : Nat → Int32} {textL : Int32} {place : Int32} {nargs : Nat → Int32} {x : Int32} {y : Int32} {w : Int32} {h : Int32} (hm : mOk now) (h4 : ¬ now (96 : Int32).toNatClampNeg = 4) : Ct l G yX9_opens cX9_opens 6 (Option.none : Option Jvm.ClassFile.FieldType) 0 0 [.ref da, .int x, .int y, .int w, .int h] (wMd G da dn dp dr ds dl dc dt dg now past states refused aside pile came pileL text textL place nargs) (pV (wMd G da dn dp dr ds dl dc dt dg (g_X9_opens_now now x y w h) past states refused aside pile came pileL text textL place nargs)) := by
  refine Ct.of (plainFor_of_name (by decide)) (Nat.le_of_ble_eq_true rfl) (pV.ad ad_Md) (fun X C E => ?_)
  show Z X G 6 0 0 _ 0 [(0, .ref da), (1, .int x), (2, .int y), (3, .int w), (4, .int h)] []
  have hk := cOk_nI hm
  have hlt := mo_lt hm h4
  refine z_bipush (pc := 0) (v := 80) C dX9_opens_0 (by decide) ?_
  refine z_iconst (pc := 2) (v := 4) C dX9_opens_2 (by decide) ?_
  refine z_aload_n (pc := 3) C 0 dX9_opens_3 rfl ?_
  refine z_get (pc := 4) C 0 0 dX9_opens_4 rfl rfl i_X9 (by decide) q_829 rfl ?_
  refine z_bipush (pc := 7) (v := 96) C dX9_opens_7 (by decide) ?_
  refine z_iald (pc := 9) C 1 dX9_opens_9 rfl (ix_c (k := 96) rfl (by decide) (by decide)) ?_
  refine z_imul (pc := 10) C dX9_opens_10 ?_
  refine z_iadd (pc := 11) C dX9_opens_11 ?_
  refine z_istore (pc := 12) [(5, _), (0, _), (1, _), (2, _), (3, _), (4, _)] C dX9_opens_12 (by decide) rfl ?_
  refine z_aload_n (pc := 14) C 1 dX9_opens_14 rfl ?_
  refine z_get (pc := 15) C 0 0 dX9_opens_15 rfl rfl i_X9 (by decide) q_829 rfl ?_
  refine z_iload (pc := 18) C 0 dX9_opens_18 rfl ?_
  refine z_iload_n (pc := 20) C 2 dX9_opens_20 rfl ?_
  refine z_iast (pc := 21) (wMd G da dn dp dr ds dl dc dt dg _ past states refused aside pile came pileL text textL place nargs) C 1 dX9_opens_21 rfl (ix_mc0 hlt) rfl ?_
  refine z_aload_n (pc := 22) C 1 dX9_opens_22 rfl ?_
  refine z_get (pc := 23) C 0 0 dX9_opens_23 rfl rfl i_X9 (by decide) q_829 rfl ?_
  refine z_iload (pc := 26) C 0 dX9_opens_26 rfl ?_
  refine z_iconst (pc := 28) (v := 1) C dX9_opens_28 (by decide) ?_
  refine z_iadd (pc := 29) C dX9_opens_29 ?_
  refine z_iload_n (pc := 30) C 3 dX9_opens_30 rfl ?_
  refine z_iast (pc := 31) (wMd G da dn dp dr ds dl dc dt dg _ past states refused aside pile came pileL text textL place nargs) C 1 dX9_opens_31 rfl (ix_mc hlt 1 rfl (by decide)) rfl ?_
  refine z_aload_n (pc := 32) C 1 dX9_opens_32 rfl ?_
  refine z_get (pc := 33) C 0 0 dX9_opens_33 rfl rfl i_X9 (by decide) q_829 rfl ?_
  refine z_iload (pc := 36) C 0 dX9_opens_36 rfl ?_
  refine z_iconst (pc := 38) (v := 2) C dX9_opens_38 (by decide) ?_
  refine z_iadd (pc := 39) C dX9_opens_39 ?_
  refine z_iload_n (pc := 40) C 4 dX9_opens_40 rfl ?_
  refine z_iast (pc := 41) (wMd G da dn dp dr ds dl dc dt dg _ past states refused aside pile came pileL text textL place nargs) C 1 dX9_opens_41 rfl (ix_mc hlt 2 rfl (by decide)) rfl ?_
  refine z_aload_n (pc := 42) C 1 dX9_opens_42 rfl ?_
  refine z_get (pc := 43) C 0 0 dX9_opens_43 rfl rfl i_X9 (by decide) q_829 rfl ?_
  refine z_iload (pc := 46) C 0 dX9_opens_46 rfl ?_
  refine z_iconst (pc := 48) (v := 3) C dX9_opens_48 (by decide) ?_
  refine z_iadd (pc := 49) C dX9_opens_49 ?_
  refine z_iload (pc := 50) C 5 dX9_opens_50 rfl ?_
  refine z_iast (pc := 52) (wMd G da dn dp dr ds dl dc dt dg _ past states refused aside pile came pileL text textL place nargs) C 1 dX9_opens_52 rfl (ix_mc hlt 3 rfl (by decide)) rfl ?_
  refine z_aload_n (pc := 53) C 1 dX9_opens_53 rfl ?_
  refine z_get (pc := 54) C 0 0 dX9_opens_54 rfl rfl i_X9 (by decide) q_829 rfl ?_
  refine z_bipush (pc := 57) (v := 96) C dX9_opens_57 (by decide) ?_
  refine z_dup2 (pc := 59) C dX9_opens_59 rfl rfl ?_
  refine z_iald (pc := 60) C 1 dX9_opens_60 rfl (ix_c (k := 96) rfl (by decide) (by decide)) ?_
  refine z_iconst (pc := 61) (v := 1) C dX9_opens_61 (by decide) ?_
  refine z_iadd (pc := 62) C dX9_opens_62 ?_
  refine z_iast (pc := 63) (wMd G da dn dp dr ds dl dc dt dg _ past states refused aside pile came pileL text textL place nargs) C 1 dX9_opens_63 rfl (ix_c (k := 96) rfl (by decide) (by decide)) rfl ?_
  exact z_vret (pc := 64) C E dX9_opens_64 (pV.mk rfl)

def f_X9_opening (now : Nat → Int32) (x : Int32) (y : Int32) (w : Int32) (h : Int32) : Int32 := if (f_X9_isPlace x y) = 0 then f_X9_bad (-2) else if (f_X9_isSize w h) = 0 then f_X9_bad (-2) else if (now (96 : Int32).toNatClampNeg) = 4 then f_X9_full else (g_X9_opens_now now x y w h) (96 : Int32).toNatClampNeg
def g_X9_opening_now (now : Nat → Int32) (x : Int32) (y : Int32) (w : Int32) (h : Int32) : Nat → Int32 := if (f_X9_isPlace x y) = 0 then now else if (f_X9_isSize w h) = 0 then now else if (now (96 : Int32).toNatClampNeg) = 4 then now else g_X9_opens_now now x y w h
def g_X9_opening_past (now : Nat → Int32) (past : Nat → Int32) (states : Int32) (x : Int32) (y : Int32) (w : Int32) (h : Int32) : Nat → Int32 := if (f_X9_isPlace x y) = 0 then past else if (f_X9_isSize w h) = 0 then past else if (now (96 : Int32).toNatClampNeg) = 4 then past else g_X9_keep_past now past states
def g_X9_opening_states (now : Nat → Int32) (states : Int32) (x : Int32) (y : Int32) (w : Int32) (h : Int32) : Int32 := if (f_X9_isPlace x y) = 0 then states else if (f_X9_isSize w h) = 0 then states else if (now (96 : Int32).toNatClampNeg) = 4 then states else g_X9_keep_states states
def g_X9_opening_refused (now : Nat → Int32) (refused : Nat → Int32) (x : Int32) (y : Int32) (w : Int32) (h : Int32) : Nat → Int32 := if (f_X9_isPlace x y) = 0 then g_X9_bad_refused refused else if (f_X9_isSize w h) = 0 then g_X9_bad_refused refused else if (now (96 : Int32).toNatClampNeg) = 4 then g_X9_full_refused refused else refused
set_option maxRecDepth 100000 in
theorem c_X9_opening {l : Launch} {G : zG} {da dn dp dr ds dl dc dt dg : Nat} {now : Nat → Int32} {past : Nat → Int32} {states : Int32} {refused : Nat → Int32} {aside : Nat → Int32} {pile : Nat → Int32} {came : Nat → Int32} {pileL : Int32} {text : Nat → Int32} {textL : Int32} {place : Int32} {nargs : Nat → Int32} {x : Int32} {y : Int32} {w : Int32} {h : Int32} (hm : mOk now) (hq : qOk states) : Ct l G yX9_opening cX9_opening 5 (Option.some FieldType.int) 2 46 [.ref da, .int x, .int y, .int w, .int h] (wMd G da dn dp dr ds dl dc dt dg now past states refused aside pile came pileL text textL place nargs) (pI (f_X9_opening now x y w h) (wMd G da dn dp dr ds dl dc dt dg (g_X9_opening_now now x y w h) (g_X9_opening_past now past states x y w h) (g_X9_opening_states now states x y w h) (g_X9_opening_refused now refused x y w h) aside pile came pileL text textL place nargs)) := by
  refine Ct.of (plainFor_of_name (by decide)) (Nat.le_of_ble_eq_true rfl) (pI.ad ad_Md) (fun X C E => ?_)
  show Z X G 5 0 0 _ 0 [(0, .ref da), (1, .int x), (2, .int y), (3, .int w), (4, .int h)] []
  refine z_iload_n (pc := 0) C 1 dX9_opening_0 rfl ?_
  refine z_iload_n (pc := 1) C 2 dX9_opening_1 rfl ?_
  refine z_callS (pc := 2) C (c_X9_isPlace) [] z00 mS_X9_isPlace q_926 dX9_opening_2 rfl rfl rfl rfl (Nat.le_of_ble_eq_true rfl) (by decide) (pI.stay rfl ?_)
  refine z_if_eq (pc := 5) 17 C dX9_opening_5 (by decide) (fun c_5 => ?_) (fun c_5 => ?_)
  · skip
    refine z_aload_n (pc := 17) C 0 dX9_opening_17 rfl ?_
    refine z_bipush (pc := 18) (v := (-2)) C dX9_opening_18 (by decide) ?_
    refine z_callV (pc := 20) C (c_X9_bad) [0, 1, 2, 3, 4, 5, 6, 7, 8] z00 mV_X9_bad q_883 dX9_opening_20 rfl rfl rfl 0 rfl rfl rfl rfl (Nat.le_of_ble_eq_true rfl) (by decide) (pI.go (ws' := wMd G da dn dp dr ds dl dc dt dg now past states _ aside pile came pileL text textL place nargs) rfl ?_)
    exact z_iret (pc := 23) C E dX9_opening_23 (pI.mk (by simp only [f_X9_opening, if_pos c_5]) (by simp only [g_X9_opening_now, g_X9_opening_past, g_X9_opening_states, g_X9_opening_refused, if_pos c_5]))
  · skip
    refine z_iload_n (pc := 8) C 3 dX9_opening_8 rfl ?_
    refine z_iload (pc := 9) C 4 dX9_opening_9 rfl ?_
    refine z_callS (pc := 11) C (c_X9_isSize) [] z00 mS_X9_isSize q_931 dX9_opening_11 rfl rfl rfl rfl (Nat.le_of_ble_eq_true rfl) (by decide) (pI.stay rfl ?_)
    refine z_if_ne (pc := 14) 24 C dX9_opening_14 (by decide) (fun c_14 => ?_) (fun c_14 => ?_)
    · skip
      refine z_aload_n (pc := 24) C 0 dX9_opening_24 rfl ?_
      refine z_get (pc := 25) C 0 0 dX9_opening_25 rfl rfl i_X9 (by decide) q_829 rfl ?_
      refine z_bipush (pc := 28) (v := 96) C dX9_opening_28 (by decide) ?_
      refine z_iald (pc := 30) C 1 dX9_opening_30 rfl (ix_c (k := 96) rfl (by decide) (by decide)) ?_
      refine z_iconst (pc := 31) (v := 4) C dX9_opening_31 (by decide) ?_
      refine z_icmp_ne (pc := 32) 40 C dX9_opening_32 (by decide) (fun c_32 => ?_) (fun c_32 => ?_)
      · skip
        refine z_aload_n (pc := 40) C 0 dX9_opening_40 rfl ?_
        refine z_callV (pc := 41) C (c_X9_keep (by exact hq)) [0, 1, 2, 3, 4, 5, 6, 7, 8] z00 mV_X9_keep q_887 dX9_opening_41 rfl rfl rfl 0 rfl rfl rfl rfl (Nat.le_of_ble_eq_true rfl) (by decide) (pV.go (ws' := wMd G da dn dp dr ds dl dc dt dg now _ _ refused aside pile came pileL text textL place nargs) rfl ?_)
        refine z_aload_n (pc := 44) C 0 dX9_opening_44 rfl ?_
        refine z_iload_n (pc := 45) C 1 dX9_opening_45 rfl ?_
        refine z_iload_n (pc := 46) C 2 dX9_opening_46 rfl ?_
        refine z_iload_n (pc := 47) C 3 dX9_opening_47 rfl ?_
        refine z_iload (pc := 48) C 4 dX9_opening_48 rfl ?_
        refine z_callV (pc := 50) C (c_X9_opens (by exact hm) (by exact c_32)) [0, 1, 2, 3, 4, 5, 6, 7, 8] z00 mV_X9_opens q_939 dX9_opening_50 rfl rfl rfl 0 rfl rfl rfl rfl (Nat.le_of_ble_eq_true rfl) (by decide) (pV.go (ws' := wMd G da dn dp dr ds dl dc dt dg _ _ _ refused aside pile came pileL text textL place nargs) rfl ?_)
        refine z_aload_n (pc := 53) C 0 dX9_opening_53 rfl ?_
        refine z_get (pc := 54) C 0 0 dX9_opening_54 rfl rfl i_X9 (by decide) q_829 rfl ?_
        refine z_bipush (pc := 57) (v := 96) C dX9_opening_57 (by decide) ?_
        refine z_iald (pc := 59) C 1 dX9_opening_59 rfl (ix_c (k := 96) rfl (by decide) (by decide)) ?_
        exact z_iret (pc := 60) C E dX9_opening_60 (pI.mk (by simp only [f_X9_opening, if_neg c_5, if_neg c_14, if_neg c_32]) (by simp only [g_X9_opening_now, g_X9_opening_past, g_X9_opening_states, g_X9_opening_refused, if_neg c_5, if_neg c_14, if_neg c_32]))
      · skip
        refine z_aload_n (pc := 35) C 0 dX9_opening_35 rfl ?_
        refine z_callV (pc := 36) C (c_X9_full) [0, 1, 2, 3, 4, 5, 6, 7, 8] z00 mV_X9_full q_935 dX9_opening_36 rfl rfl rfl 0 rfl rfl rfl rfl (Nat.le_of_ble_eq_true rfl) (by decide) (pI.go (ws' := wMd G da dn dp dr ds dl dc dt dg now past states _ aside pile came pileL text textL place nargs) rfl ?_)
        exact z_iret (pc := 39) C E dX9_opening_39 (pI.mk (by simp only [f_X9_opening, if_neg c_5, if_neg c_14, if_pos c_32]) (by simp only [g_X9_opening_now, g_X9_opening_past, g_X9_opening_states, g_X9_opening_refused, if_neg c_5, if_neg c_14, if_pos c_32]))
    · skip
      refine z_aload_n (pc := 17) C 0 dX9_opening_17 rfl ?_
      refine z_bipush (pc := 18) (v := (-2)) C dX9_opening_18 (by decide) ?_
      refine z_callV (pc := 20) C (c_X9_bad) [0, 1, 2, 3, 4, 5, 6, 7, 8] z00 mV_X9_bad q_883 dX9_opening_20 rfl rfl rfl 0 rfl rfl rfl rfl (Nat.le_of_ble_eq_true rfl) (by decide) (pI.go (ws' := wMd G da dn dp dr ds dl dc dt dg now past states _ aside pile came pileL text textL place nargs) rfl ?_)
      exact z_iret (pc := 23) C E dX9_opening_23 (pI.mk (by simp only [f_X9_opening, if_neg c_5, if_pos c_14]) (by simp only [g_X9_opening_now, g_X9_opening_past, g_X9_opening_states, g_X9_opening_refused, if_neg c_5, if_pos c_14]))

def b_X9_shuts_11  (i_11 : Nat) (z_11 : (Nat → Int32)) : (Nat → Int32) := upd z_11 (nI (80 + i_11)).toNatClampNeg 0
def s_X9_shuts_11 (now : Nat → Int32) : Nat → (Nat → Int32)
  | 0 => now
  | i_11 + 1 => b_X9_shuts_11  i_11 (s_X9_shuts_11 now i_11)
def f_X9_shuts (now : Nat → Int32) : Int32 := now (96 : Int32).toNatClampNeg
def g_X9_shuts_now (now : Nat → Int32) : Nat → Int32 := (s_X9_shuts_11 now 17)
set_option maxRecDepth 100000 in
theorem c_X9_shuts {l : Launch} {G : zG} {da dn dp dr ds dl dc dt dg : Nat} {now : Nat → Int32} {past : Nat → Int32} {states : Int32} {refused : Nat → Int32} {aside : Nat → Int32} {pile : Nat → Int32} {came : Nat → Int32} {pileL : Int32} {text : Nat → Int32} {textL : Int32} {place : Int32} {nargs : Nat → Int32} : Ct l G yX9_shuts cX9_shuts 3 (Option.some FieldType.int) 0 0 [.ref da] (wMd G da dn dp dr ds dl dc dt dg now past states refused aside pile came pileL text textL place nargs) (pI (f_X9_shuts now) (wMd G da dn dp dr ds dl dc dt dg (g_X9_shuts_now now) past states refused aside pile came pileL text textL place nargs)) := by
  refine Ct.of (plainFor_of_name (by decide)) (Nat.le_of_ble_eq_true rfl) (pI.ad ad_Md) (fun X C E => ?_)
  show Z X G 3 0 0 _ 0 [(0, .ref da)] []
  refine z_aload_n (pc := 0) C 0 dX9_shuts_0 rfl ?_
  refine z_get (pc := 1) C 0 0 dX9_shuts_1 rfl rfl i_X9 (by decide) q_829 rfl ?_
  refine z_bipush (pc := 4) (v := 96) C dX9_shuts_4 (by decide) ?_
  refine z_iald (pc := 6) C 1 dX9_shuts_6 rfl (ix_c (k := 96) rfl (by decide) (by decide)) ?_
  refine z_istore_n (pc := 7) [(1, _), (0, _)] C dX9_shuts_7 rfl (by decide) rfl ?_
  refine z_bipush (pc := 8) (v := 80) C dX9_shuts_8 (by decide) ?_
  refine z_istore_n (pc := 10) [(2, _), (1, _), (0, _)] C dX9_shuts_10 rfl (by decide) rfl ?_
  refine z_lv (lv' := [(0, _), (1, _), (2, _)]) [2, 1, 0] rfl ?_
  refine z_loop (pc := 11) (e := 17) (fun i_11 => wMd G da dn dp dr ds dl dc dt dg (s_X9_shuts_11 now i_11) past states refused aside pile came pileL text textL place nargs) (fun i_11 => [(0, .ref da), (1, .int (now (96 : Int32).toNatClampNeg)), (2, .int (nI (80 + i_11)))]) [] (fun i_11 hi_11 ih_11 => ?_) ?_ 0 (Nat.zero_le _)
  · show Z X G 3 0 0 (wMd G da dn dp dr ds dl dc dt dg (s_X9_shuts_11 now i_11) past states refused aside pile came pileL text textL place nargs) 11 [(0, .ref da), (1, .int (now (96 : Int32).toNatClampNeg)), (2, .int (nI (80 + i_11)))] []
    generalize hz_11 : s_X9_shuts_11 now i_11 = z_11
    refine z_iload_n (pc := 11) C 2 dX9_shuts_11 rfl ?_
    refine z_bipush (pc := 12) (v := 97) C dX9_shuts_12 (by decide) ?_
    refine z_icmp_ge (pc := 14) 30 C dX9_shuts_14 (by decide) (fun c_14 => ?_) (fun c_14 => ?_)
    · skip
      exact absurd c_14 (nI_ge (b := 97) (by omega) (by decide))
    · skip
      refine z_aload_n (pc := 17) C 0 dX9_shuts_17 rfl ?_
      refine z_get (pc := 18) C 0 0 dX9_shuts_18 rfl rfl i_X9 (by decide) q_829 rfl ?_
      refine z_iload_n (pc := 21) C 2 dX9_shuts_21 rfl ?_
      refine z_iconst (pc := 22) (v := 0) C dX9_shuts_22 (by decide) ?_
      refine z_iast (pc := 23) (wMd G da dn dp dr ds dl dc dt dg _ past states refused aside pile came pileL text textL place nargs) C 1 dX9_shuts_23 rfl (ix_nI (by omega) (by decide)) rfl ?_
      refine z_iinc (pc := 24) (v := nI (80 + (i_11 + 1))) [(2, _), (0, _), (1, _)] C 2 dX9_shuts_24 rfl ((nI_succ _).symm) (by decide) rfl ?_
      refine z_goto (pc := 27) 11 C dX9_shuts_27 (by decide) ?_
      refine z_lv (lv' := [(0, _), (1, _), (2, _)]) [1, 2, 0] rfl ?_
      exact z_eq (by simp only [s_X9_shuts_11, hz_11, b_X9_shuts_11]) rfl rfl ih_11
  · show Z X G 3 0 0 (wMd G da dn dp dr ds dl dc dt dg (s_X9_shuts_11 now 17) past states refused aside pile came pileL text textL place nargs) 11 [(0, .ref da), (1, .int (now (96 : Int32).toNatClampNeg)), (2, .int (nI (80 + 17)))] []
    refine z_iload_n (pc := 11) C 2 dX9_shuts_11 rfl ?_
    refine z_bipush (pc := 12) (v := 97) C dX9_shuts_12 (by decide) ?_
    refine z_icmp_ge (pc := 14) 30 C dX9_shuts_14 (by decide) (fun c_14 => ?_) (fun c_14 => ?_)
    · skip
      refine z_iload_n (pc := 30) C 1 dX9_shuts_30 rfl ?_
      exact z_iret (pc := 31) C E dX9_shuts_31 (pI.mk rfl rfl)
    · skip
      exact absurd (nI_le (Nat.le_refl 97) (by decide)) c_14

def f_X9_closes (now : Nat → Int32) : Int32 := f_X9_shuts now
def g_X9_closes_now (now : Nat → Int32) : Nat → Int32 := g_X9_shuts_now now
def g_X9_closes_past (now : Nat → Int32) (past : Nat → Int32) (states : Int32) : Nat → Int32 := g_X9_keep_past now past states
def g_X9_closes_states (states : Int32) : Int32 := g_X9_keep_states states
set_option maxRecDepth 100000 in
theorem c_X9_closes {l : Launch} {G : zG} {da dn dp dr ds dl dc dt dg : Nat} {now : Nat → Int32} {past : Nat → Int32} {states : Int32} {refused : Nat → Int32} {aside : Nat → Int32} {pile : Nat → Int32} {came : Nat → Int32} {pileL : Int32} {text : Nat → Int32} {textL : Int32} {place : Int32} {nargs : Nat → Int32} (hq : qOk states) : Ct l G yX9_closes cX9_closes 1 (Option.some FieldType.int) 1 22 [.ref da] (wMd G da dn dp dr ds dl dc dt dg now past states refused aside pile came pileL text textL place nargs) (pI (f_X9_closes now) (wMd G da dn dp dr ds dl dc dt dg (g_X9_closes_now now) (g_X9_closes_past now past states) (g_X9_closes_states states) refused aside pile came pileL text textL place nargs)) := by
  refine Ct.of (plainFor_of_name (by decide)) (Nat.le_of_ble_eq_true rfl) (pI.ad ad_Md) (fun X C E => ?_)
  show Z X G 1 0 0 _ 0 [(0, .ref da)] []
  refine z_aload_n (pc := 0) C 0 dX9_closes_0 rfl ?_
  refine z_callV (pc := 1) C (c_X9_keep (by assumption)) [0, 1, 2, 3, 4, 5, 6, 7, 8] z00 mV_X9_keep q_887 dX9_closes_1 rfl rfl rfl 0 rfl rfl rfl rfl (Nat.le_of_ble_eq_true rfl) (by decide) (pV.go (ws' := wMd G da dn dp dr ds dl dc dt dg now _ _ refused aside pile came pileL text textL place nargs) rfl ?_)
  refine z_aload_n (pc := 4) C 0 dX9_closes_4 rfl ?_
  refine z_callV (pc := 5) C (c_X9_shuts) [0, 1, 2, 3, 4, 5, 6, 7, 8] z00 mV_X9_shuts q_947 dX9_closes_5 rfl rfl rfl 0 rfl rfl rfl rfl (Nat.le_of_ble_eq_true rfl) (by decide) (pI.go (ws' := wMd G da dn dp dr ds dl dc dt dg _ _ _ refused aside pile came pileL text textL place nargs) rfl ?_)
  exact z_iret (pc := 8) C E dX9_closes_8 (pI.mk rfl rfl)

def b_X9_draw_49  (i_49 : Nat) (z_49 : Int64 × Int64) : Int64 × Int64 := (((z_49.1 * 1103515245) + 12345) - ((z_49.1 * 1103515245) + 12345) / 2147483648 * 2147483648, (65536 * z_49.2) + (((((z_49.1 * 1103515245) + 12345) - ((z_49.1 * 1103515245) + 12345) / 2147483648 * 2147483648) / 32768) - ((((z_49.1 * 1103515245) + 12345) - ((z_49.1 * 1103515245) + 12345) / 2147483648 * 2147483648) / 32768) / 65536 * 65536))
def s_X9_draw_49 (z_36 : Int64 × (Nat → Int32)) : Nat → Int64 × Int64
  | 0 => (z_36.1, 0)
  | i_49 + 1 => b_X9_draw_49  i_49 (s_X9_draw_49 z_36 i_49)
def b_X9_draw_36 (t : Int32) (i_36 : Nat) (z_36 : Int64 × (Nat → Int32)) : Int64 × (Nat → Int32) := ((s_X9_draw_49 z_36 2).1, upd z_36.2 ((24 * t) + (nI i_36)).toNatClampNeg (((s_X9_draw_49 z_36 2).2).toInt32))
def s_X9_draw_36 (now : Nat → Int32) (t : Int32) (seed : Int32) : Nat → Int64 × (Nat → Int32)
  | 0 => (seed.toInt64, now)
  | i_36 + 1 => b_X9_draw_36 t i_36 (s_X9_draw_36 now t seed i_36)
def f_X9_draw (now : Nat → Int32) (t : Int32) (seed : Int32) : Int32 := if (f_X9_isPicture t) = 0 then f_X9_bad (-2) else if (f_X9_in seed.toInt64 0 999999) = 0 then f_X9_bad (-2) else f_X9_dots ((s_X9_draw_36 now t seed 24).2) t
def g_X9_draw_now (now : Nat → Int32) (t : Int32) (seed : Int32) : Nat → Int32 := if (f_X9_isPicture t) = 0 then now else if (f_X9_in seed.toInt64 0 999999) = 0 then now else (s_X9_draw_36 now t seed 24).2
def g_X9_draw_past (now : Nat → Int32) (past : Nat → Int32) (states : Int32) (t : Int32) (seed : Int32) : Nat → Int32 := if (f_X9_isPicture t) = 0 then past else if (f_X9_in seed.toInt64 0 999999) = 0 then past else g_X9_keep_past now past states
def g_X9_draw_states (states : Int32) (t : Int32) (seed : Int32) : Int32 := if (f_X9_isPicture t) = 0 then states else if (f_X9_in seed.toInt64 0 999999) = 0 then states else g_X9_keep_states states
def g_X9_draw_refused (refused : Nat → Int32) (t : Int32) (seed : Int32) : Nat → Int32 := if (f_X9_isPicture t) = 0 then g_X9_bad_refused refused else if (f_X9_in seed.toInt64 0 999999) = 0 then g_X9_bad_refused refused else refused
set_option maxRecDepth 100000 in
theorem c_X9_draw {l : Launch} {G : zG} {da dn dp dr ds dl dc dt dg : Nat} {now : Nat → Int32} {past : Nat → Int32} {states : Int32} {refused : Nat → Int32} {aside : Nat → Int32} {pile : Nat → Int32} {came : Nat → Int32} {pileL : Int32} {text : Nat → Int32} {textL : Int32} {place : Int32} {nargs : Nat → Int32} {t : Int32} {seed : Int32} (hq : qOk states) : Ct l G yX9_draw cX9_draw 9 (Option.some FieldType.int) 4 93 [.ref da, .int t, .int seed] (wMd G da dn dp dr ds dl dc dt dg now past states refused aside pile came pileL text textL place nargs) (pI (f_X9_draw now t seed) (wMd G da dn dp dr ds dl dc dt dg (g_X9_draw_now now t seed) (g_X9_draw_past now past states t seed) (g_X9_draw_states states t seed) (g_X9_draw_refused refused t seed) aside pile came pileL text textL place nargs)) := by
  refine Ct.of (plainFor_of_name (by decide)) (Nat.le_of_ble_eq_true rfl) (pI.ad ad_Md) (fun X C E => ?_)
  show Z X G 9 0 0 _ 0 [(0, .ref da), (1, .int t), (2, .int seed)] []
  refine z_iload_n (pc := 0) C 1 dX9_draw_0 rfl ?_
  refine z_callS (pc := 1) C (c_X9_isPicture) [] z00 mS_X9_isPicture q_871 dX9_draw_1 rfl rfl rfl rfl (Nat.le_of_ble_eq_true rfl) (by decide) (pI.stay rfl ?_)
  refine z_if_eq (pc := 4) 19 C dX9_draw_4 (by decide) (fun c_4 => ?_) (fun c_4 => ?_)
  · skip
    refine z_aload_n (pc := 19) C 0 dX9_draw_19 rfl ?_
    refine z_bipush (pc := 20) (v := (-2)) C dX9_draw_20 (by decide) ?_
    refine z_callV (pc := 22) C (c_X9_bad) [0, 1, 2, 3, 4, 5, 6, 7, 8] z00 mV_X9_bad q_883 dX9_draw_22 rfl rfl rfl 0 rfl rfl rfl rfl (Nat.le_of_ble_eq_true rfl) (by decide) (pI.go (ws' := wMd G da dn dp dr ds dl dc dt dg now past states _ aside pile came pileL text textL place nargs) rfl ?_)
    exact z_iret (pc := 25) C E dX9_draw_25 (pI.mk (by simp only [f_X9_draw, if_pos c_4]) (by simp only [g_X9_draw_now, g_X9_draw_past, g_X9_draw_states, g_X9_draw_refused, if_pos c_4]))
  · skip
    refine z_iload_n (pc := 7) C 2 dX9_draw_7 rfl ?_
    refine z_i2l (pc := 8) C dX9_draw_8 ?_
    refine z_lconst (pc := 9) (v := 0) C dX9_draw_9 (by decide) ?_
    refine z_ldc2_w (pc := 10) C q_912 dX9_draw_10 ?_
    refine z_callS (pc := 13) C (c_X9_in) [] z00 mS_X9_in q_875 dX9_draw_13 rfl rfl rfl rfl (Nat.le_of_ble_eq_true rfl) (by decide) (pI.stay rfl ?_)
    refine z_if_ne (pc := 16) 26 C dX9_draw_16 (by decide) (fun c_16 => ?_) (fun c_16 => ?_)
    · skip
      refine z_iload_n (pc := 26) C 2 dX9_draw_26 rfl ?_
      refine z_i2l (pc := 27) C dX9_draw_27 ?_
      refine z_lstore_n (pc := 28) [(3, _), (0, _), (1, _), (2, _)] C dX9_draw_28 rfl (by decide) rfl ?_
      refine z_aload_n (pc := 29) C 1 dX9_draw_29 rfl ?_
      refine z_callV (pc := 30) C (c_X9_keep (by exact hq)) [0, 1, 2, 3, 4, 5, 6, 7, 8] z00 mV_X9_keep q_887 dX9_draw_30 rfl rfl rfl 0 rfl rfl rfl rfl (Nat.le_of_ble_eq_true rfl) (by decide) (pV.go (ws' := wMd G da dn dp dr ds dl dc dt dg now _ _ refused aside pile came pileL text textL place nargs) rfl ?_)
      refine z_iconst (pc := 33) (v := 0) C dX9_draw_33 (by decide) ?_
      refine z_istore (pc := 34) [(5, _), (3, _), (0, _), (1, _), (2, _)] C dX9_draw_34 (by decide) rfl ?_
      refine z_lv (lv' := [(0, _), (1, _), (2, _), (3, _), (5, _)]) [2, 3, 4, 1, 0] rfl ?_
      refine z_loop (pc := 36) (e := 24) (fun i_36 => wMd G da dn dp dr ds dl dc dt dg ((s_X9_draw_36 now t seed i_36).2) (g_X9_keep_past now past states) (g_X9_keep_states states) refused aside pile came pileL text textL place nargs) (fun i_36 => [(0, .ref da), (1, .int t), (2, .int seed), (3, .long ((s_X9_draw_36 now t seed i_36).1)), (5, .int (nI i_36))]) [] (fun i_36 hi_36 ih_36 => ?_) ?_ 0 (Nat.zero_le _)
      · show Z X G 9 0 0 (wMd G da dn dp dr ds dl dc dt dg ((s_X9_draw_36 now t seed i_36).2) (g_X9_keep_past now past states) (g_X9_keep_states states) refused aside pile came pileL text textL place nargs) 36 [(0, .ref da), (1, .int t), (2, .int seed), (3, .long ((s_X9_draw_36 now t seed i_36).1)), (5, .int (nI i_36))] []
        generalize hz_36 : s_X9_draw_36 now t seed i_36 = z_36
        refine z_iload (pc := 36) C 4 dX9_draw_36 rfl ?_
        refine z_bipush (pc := 38) (v := 24) C dX9_draw_38 (by decide) ?_
        refine z_icmp_ge (pc := 40) 114 C dX9_draw_40 (by decide) (fun c_40 => ?_) (fun c_40 => ?_)
        · skip
          exact absurd c_40 (nI_ge (b := 24) (by omega) (by decide))
        · skip
          refine z_lconst (pc := 43) (v := 0) C dX9_draw_43 (by decide) ?_
          refine z_lstore (pc := 44) [(6, _), (0, _), (1, _), (2, _), (3, _), (5, _)] C dX9_draw_44 (by decide) rfl ?_
          refine z_iconst (pc := 46) (v := 0) C dX9_draw_46 (by decide) ?_
          refine z_istore (pc := 47) [(8, _), (6, _), (0, _), (1, _), (2, _), (3, _), (5, _)] C dX9_draw_47 (by decide) rfl ?_
          refine z_lv (lv' := [(0, _), (1, _), (2, _), (3, _), (5, _), (6, _), (8, _)]) [2, 3, 4, 5, 6, 1, 0] rfl ?_
          refine z_loop (pc := 49) (e := 2) (fun i_49 => wMd G da dn dp dr ds dl dc dt dg z_36.2 (g_X9_keep_past now past states) (g_X9_keep_states states) refused aside pile came pileL text textL place nargs) (fun i_49 => [(0, .ref da), (1, .int t), (2, .int seed), (3, .long ((s_X9_draw_49 z_36 i_49).1)), (5, .int (nI i_36)), (6, .long ((s_X9_draw_49 z_36 i_49).2)), (8, .int (nI i_49))]) [] (fun i_49 hi_49 ih_49 => ?_) ?_ 0 (Nat.zero_le _)
          · show Z X G 9 0 0 (wMd G da dn dp dr ds dl dc dt dg z_36.2 (g_X9_keep_past now past states) (g_X9_keep_states states) refused aside pile came pileL text textL place nargs) 49 [(0, .ref da), (1, .int t), (2, .int seed), (3, .long ((s_X9_draw_49 z_36 i_49).1)), (5, .int (nI i_36)), (6, .long ((s_X9_draw_49 z_36 i_49).2)), (8, .int (nI i_49))] []
            generalize hz_49 : s_X9_draw_49 z_36 i_49 = z_49
            refine z_iload (pc := 49) C 6 dX9_draw_49 rfl ?_
            refine z_iconst (pc := 51) (v := 2) C dX9_draw_51 (by decide) ?_
            refine z_icmp_ge (pc := 52) 93 C dX9_draw_52 (by decide) (fun c_52 => ?_) (fun c_52 => ?_)
            · skip
              exact absurd c_52 (nI_ge (b := 2) (by omega) (by decide))
            · skip
              refine z_lload_n (pc := 55) C 3 dX9_draw_55 rfl ?_
              refine z_ldc2_w (pc := 56) C q_913 dX9_draw_56 ?_
              refine z_lmul (pc := 59) C dX9_draw_59 ?_
              refine z_ldc2_w (pc := 60) C q_914 dX9_draw_60 ?_
              refine z_ladd (pc := 63) C dX9_draw_63 ?_
              refine z_ldc2_w (pc := 64) C q_915 dX9_draw_64 ?_
              refine z_lrem (pc := 67) C dX9_draw_67 (by decide) ?_
              refine z_lstore_n (pc := 68) [(3, _), (0, _), (1, _), (2, _), (5, _), (6, _), (8, _)] C dX9_draw_68 rfl (by decide) rfl ?_
              refine z_ldc2_w (pc := 69) C q_916 dX9_draw_69 ?_
              refine z_lload (pc := 72) C 5 dX9_draw_72 rfl ?_
              refine z_lmul (pc := 74) C dX9_draw_74 ?_
              refine z_lload_n (pc := 75) C 0 dX9_draw_75 rfl ?_
              refine z_ldc2_w (pc := 76) C q_917 dX9_draw_76 ?_
              refine z_ldiv (pc := 79) C dX9_draw_79 (by decide) ?_
              refine z_ldc2_w (pc := 80) C q_916 dX9_draw_80 ?_
              refine z_lrem (pc := 83) C dX9_draw_83 (by decide) ?_
              refine z_ladd (pc := 84) C dX9_draw_84 ?_
              refine z_lstore (pc := 85) [(6, _), (3, _), (0, _), (1, _), (2, _), (5, _), (8, _)] C dX9_draw_85 (by decide) rfl ?_
              refine z_iinc (pc := 87) (v := nI (i_49 + 1)) [(8, _), (6, _), (3, _), (0, _), (1, _), (2, _), (5, _)] C 6 dX9_draw_87 rfl ((nI_succ _).symm) (by decide) rfl ?_
              refine z_goto (pc := 90) 49 C dX9_draw_90 (by decide) ?_
              refine z_lv (lv' := [(0, _), (1, _), (2, _), (3, _), (5, _), (6, _), (8, _)]) [3, 4, 5, 2, 6, 1, 0] rfl ?_
              exact z_eq rfl (by simp only [s_X9_draw_49, hz_49, b_X9_draw_49]) rfl ih_49
          · show Z X G 9 0 0 (wMd G da dn dp dr ds dl dc dt dg z_36.2 (g_X9_keep_past now past states) (g_X9_keep_states states) refused aside pile came pileL text textL place nargs) 49 [(0, .ref da), (1, .int t), (2, .int seed), (3, .long ((s_X9_draw_49 z_36 2).1)), (5, .int (nI i_36)), (6, .long ((s_X9_draw_49 z_36 2).2)), (8, .int (nI 2))] []
            refine z_iload (pc := 49) C 6 dX9_draw_49 rfl ?_
            refine z_iconst (pc := 51) (v := 2) C dX9_draw_51 (by decide) ?_
            refine z_icmp_ge (pc := 52) 93 C dX9_draw_52 (by decide) (fun c_52 => ?_) (fun c_52 => ?_)
            · skip
              refine z_aload_n (pc := 93) C 0 dX9_draw_93 rfl ?_
              refine z_get (pc := 94) C 0 0 dX9_draw_94 rfl rfl i_X9 (by decide) q_829 rfl ?_
              refine z_bipush (pc := 97) (v := 24) C dX9_draw_97 (by decide) ?_
              refine z_iload_n (pc := 99) C 1 dX9_draw_99 rfl ?_
              refine z_imul (pc := 100) C dX9_draw_100 ?_
              refine z_iload (pc := 101) C 4 dX9_draw_101 rfl ?_
              refine z_iadd (pc := 103) C dX9_draw_103 ?_
              refine z_lload (pc := 104) C 5 dX9_draw_104 rfl ?_
              refine z_l2i (pc := 106) C dX9_draw_106 ?_
              refine z_iast (pc := 107) (wMd G da dn dp dr ds dl dc dt dg _ _ _ refused aside pile came pileL text textL place nargs) C 1 dX9_draw_107 rfl (ix_ty (by decide) (mP_ne c_4) (pY_n hi_36)) rfl ?_
              refine z_iinc (pc := 108) (v := nI (i_36 + 1)) [(5, _), (0, _), (1, _), (2, _), (3, _), (6, _), (8, _)] C 4 dX9_draw_108 rfl ((nI_succ _).symm) (by decide) rfl ?_
              refine z_goto (pc := 111) 36 C dX9_draw_111 (by decide) ?_
              refine z_lv (lv' := [(0, _), (1, _), (2, _), (3, _), (5, _)]) [1, 2, 3, 4, 0] rfl ?_
              exact z_eq (by simp only [s_X9_draw_36, hz_36, b_X9_draw_36]) (by simp only [s_X9_draw_36, hz_36, b_X9_draw_36]) rfl ih_36
            · skip
              exact absurd (nI_le (Nat.le_refl 2) (by decide)) c_52
      · show Z X G 9 0 0 (wMd G da dn dp dr ds dl dc dt dg ((s_X9_draw_36 now t seed 24).2) (g_X9_keep_past now past states) (g_X9_keep_states states) refused aside pile came pileL text textL place nargs) 36 [(0, .ref da), (1, .int t), (2, .int seed), (3, .long ((s_X9_draw_36 now t seed 24).1)), (5, .int (nI 24))] []
        refine z_iload (pc := 36) C 4 dX9_draw_36 rfl ?_
        refine z_bipush (pc := 38) (v := 24) C dX9_draw_38 (by decide) ?_
        refine z_icmp_ge (pc := 40) 114 C dX9_draw_40 (by decide) (fun c_40 => ?_) (fun c_40 => ?_)
        · skip
          refine z_aload_n (pc := 114) C 0 dX9_draw_114 rfl ?_
          refine z_iload_n (pc := 115) C 1 dX9_draw_115 rfl ?_
          refine z_callV (pc := 116) C (c_X9_dots (by exact (mP_ne c_4))) [0, 1, 2, 3, 4, 5, 6, 7, 8] z00 mV_X9_dots q_918 dX9_draw_116 rfl rfl rfl 0 rfl rfl rfl rfl (Nat.le_of_ble_eq_true rfl) (by decide) (pI.stay rfl ?_)
          exact z_iret (pc := 119) C E dX9_draw_119 (pI.mk (by simp only [f_X9_draw, if_neg c_4, if_neg c_16]) (by simp only [g_X9_draw_now, g_X9_draw_past, g_X9_draw_states, g_X9_draw_refused, if_neg c_4, if_neg c_16]))
        · skip
          exact absurd (nI_le (Nat.le_refl 24) (by decide)) c_40
    · skip
      refine z_aload_n (pc := 19) C 0 dX9_draw_19 rfl ?_
      refine z_bipush (pc := 20) (v := (-2)) C dX9_draw_20 (by decide) ?_
      refine z_callV (pc := 22) C (c_X9_bad) [0, 1, 2, 3, 4, 5, 6, 7, 8] z00 mV_X9_bad q_883 dX9_draw_22 rfl rfl rfl 0 rfl rfl rfl rfl (Nat.le_of_ble_eq_true rfl) (by decide) (pI.go (ws' := wMd G da dn dp dr ds dl dc dt dg now past states _ aside pile came pileL text textL place nargs) rfl ?_)
      exact z_iret (pc := 25) C E dX9_draw_25 (pI.mk (by simp only [f_X9_draw, if_neg c_4, if_pos c_16]) (by simp only [g_X9_draw_now, g_X9_draw_past, g_X9_draw_states, g_X9_draw_refused, if_neg c_4, if_pos c_16]))

def b_X9_moves_24 (now : Nat → Int32) (aside : Nat → Int32) (s : Int32) (x : Int32) (y : Int32) (t : Int32) (toX : Int32) (toY : Int32) (join : Int32) (i_14 : Nat) (i_24 : Nat) (z_24 : Int32 × (Nat → Int32)) : Int32 × (Nat → Int32) := (z_24.1 + (f_X9_joinsAt z_24.2 t (toX + (nI i_24)) (toY + (nI i_14)) (f_X9_asideAt (g_X9_copies_aside now aside) s (x + (nI i_24)) (y + (nI i_14))) join), g_X9_joinsAt_now z_24.2 t (toX + (nI i_24)) (toY + (nI i_14)) (f_X9_asideAt (g_X9_copies_aside now aside) s (x + (nI i_24)) (y + (nI i_14))) join)
def s_X9_moves_24 (now : Nat → Int32) (aside : Nat → Int32) (s : Int32) (x : Int32) (y : Int32) (t : Int32) (toX : Int32) (toY : Int32) (join : Int32) (i_14 : Nat) (z_14 : Int32 × (Nat → Int32)) : Nat → Int32 × (Nat → Int32)
  | 0 => (z_14.1, z_14.2)
  | i_24 + 1 => b_X9_moves_24 now aside s x y t toX toY join i_14 i_24 (s_X9_moves_24 now aside s x y t toX toY join i_14 z_14 i_24)
def b_X9_moves_14 (now : Nat → Int32) (aside : Nat → Int32) (s : Int32) (x : Int32) (y : Int32) (w : Int32) (t : Int32) (toX : Int32) (toY : Int32) (join : Int32) (i_14 : Nat) (z_14 : Int32 × (Nat → Int32)) : Int32 × (Nat → Int32) := ((s_X9_moves_24 now aside s x y t toX toY join i_14 z_14 w.toNatClampNeg).1, (s_X9_moves_24 now aside s x y t toX toY join i_14 z_14 w.toNatClampNeg).2)
def s_X9_moves_14 (now : Nat → Int32) (aside : Nat → Int32) (s : Int32) (x : Int32) (y : Int32) (w : Int32) (t : Int32) (toX : Int32) (toY : Int32) (join : Int32) : Nat → Int32 × (Nat → Int32)
  | 0 => (0, now)
  | i_14 + 1 => b_X9_moves_14 now aside s x y w t toX toY join i_14 (s_X9_moves_14 now aside s x y w t toX toY join i_14)
def f_X9_moves (now : Nat → Int32) (aside : Nat → Int32) (s : Int32) (x : Int32) (y : Int32) (w : Int32) (h : Int32) (t : Int32) (toX : Int32) (toY : Int32) (join : Int32) : Int32 := (s_X9_moves_14 now aside s x y w t toX toY join h.toNatClampNeg).1
def g_X9_moves_now (now : Nat → Int32) (aside : Nat → Int32) (s : Int32) (x : Int32) (y : Int32) (w : Int32) (h : Int32) (t : Int32) (toX : Int32) (toY : Int32) (join : Int32) : Nat → Int32 := (s_X9_moves_14 now aside s x y w t toX toY join h.toNatClampNeg).2
def g_X9_moves_aside (now : Nat → Int32) (aside : Nat → Int32) : Nat → Int32 := g_X9_copies_aside now aside
theorem i_X9_moves_24 {now : Nat → Int32} {aside : Nat → Int32} {s : Int32} {x : Int32} {y : Int32} {t : Int32} {toX : Int32} {toY : Int32} {join : Int32} {i_14 : Nat} {z_14 : Int32 × (Nat → Int32)} (hT : pT t) (h0 : mOk (z_14.1, z_14.2).2) : ∀ i : Nat, mOk (s_X9_moves_24 now aside s x y t toX toY join i_14 z_14 i).2 := by
  intro i
  induction i with
  | zero => exact h0
  | succ i ih => unfold s_X9_moves_24 b_X9_moves_24; dsimp only; exact mOk_join hT ih
theorem i_X9_moves_14 {now : Nat → Int32} {aside : Nat → Int32} {s : Int32} {x : Int32} {y : Int32} {w : Int32} {t : Int32} {toX : Int32} {toY : Int32} {join : Int32} (hT : pT t) (h0 : mOk (0, now).2) : ∀ i : Nat, mOk (s_X9_moves_14 now aside s x y w t toX toY join i).2 := by
  intro i
  induction i with
  | zero => exact h0
  | succ i ih => unfold s_X9_moves_14 b_X9_moves_14; dsimp only; exact i_X9_moves_24 hT (by exact ih) _
set_option maxRecDepth 100000 in
theorem c_X9_moves {l : Launch} {G : zG} {da dn dp dr ds dl dc dt dg : Nat} {now : Nat → Int32} {past : Nat → Int32} {states : Int32} {refused : Nat → Int32} {aside : Nat → Int32} {pile : Nat → Int32} {came : Nat → Int32} {pileL : Int32} {text : Nat → Int32} {textL : Int32} {place : Int32} {nargs : Nat → Int32} {s : Int32} {x : Int32} {y : Int32} {w : Int32} {h : Int32} {t : Int32} {toX : Int32} {toY : Int32} {join : Int32} (hs : pT s) (hT : pT t) (hm : mOk now) (hw : hOk w) (hh : hOk h) : Ct l G yX9_moves cX9_moves 13 (Option.some FieldType.int) 5 120 [.ref da, .int s, .int x, .int y, .int w, .int h, .int t, .int toX, .int toY, .int join] (wMd G da dn dp dr ds dl dc dt dg now past states refused aside pile came pileL text textL place nargs) (pI (f_X9_moves now aside s x y w h t toX toY join) (wMd G da dn dp dr ds dl dc dt dg (g_X9_moves_now now aside s x y w h t toX toY join) past states refused (g_X9_moves_aside now aside) pile came pileL text textL place nargs)) := by
  refine Ct.of (plainFor_of_name (by decide)) (Nat.le_of_ble_eq_true rfl) (pI.ad ad_Md) (fun X C E => ?_)
  show Z X G 13 0 0 _ 0 [(0, .ref da), (1, .int s), (2, .int x), (3, .int y), (4, .int w), (5, .int h), (6, .int t), (7, .int toX), (8, .int toY), (9, .int join)] []
  have hkw := hOk_nI hw
  have hkh := hOk_nI hh
  refine z_iconst (pc := 0) (v := 0) C dX9_moves_0 (by decide) ?_
  refine z_istore (pc := 1) [(10, _), (0, _), (1, _), (2, _), (3, _), (4, _), (5, _), (6, _), (7, _), (8, _), (9, _)] C dX9_moves_1 (by decide) rfl ?_
  refine z_aload_n (pc := 3) C 1 dX9_moves_3 rfl ?_
  refine z_aload_n (pc := 4) C 1 dX9_moves_4 rfl ?_
  refine z_get (pc := 5) C 0 4 dX9_moves_5 rfl rfl i_X9 (by decide) q_833 rfl ?_
  refine z_callV (pc := 8) C (c_X9_copies) [0, 1, 2, 3, 4, 5, 6, 7, 8] z00 mV_X9_copies q_962 dX9_moves_8 rfl rfl rfl 0 rfl rfl rfl rfl (Nat.le_of_ble_eq_true rfl) (by decide) (pV.go (ws' := wMd G da dn dp dr ds dl dc dt dg now past states refused _ pile came pileL text textL place nargs) rfl ?_)
  refine z_iconst (pc := 11) (v := 0) C dX9_moves_11 (by decide) ?_
  refine z_istore (pc := 12) [(11, _), (10, _), (0, _), (1, _), (2, _), (3, _), (4, _), (5, _), (6, _), (7, _), (8, _), (9, _)] C dX9_moves_12 (by decide) rfl ?_
  refine z_lv (lv' := [(0, _), (1, _), (2, _), (3, _), (4, _), (5, _), (6, _), (7, _), (8, _), (9, _), (10, _), (11, _)]) [2, 3, 4, 5, 6, 7, 8, 9, 10, 11, 1, 0] rfl ?_
  refine z_loop (pc := 14) (e := h.toNatClampNeg) (fun i_14 => wMd G da dn dp dr ds dl dc dt dg ((s_X9_moves_14 now aside s x y w t toX toY join i_14).2) past states refused (g_X9_copies_aside now aside) pile came pileL text textL place nargs) (fun i_14 => [(0, .ref da), (1, .int s), (2, .int x), (3, .int y), (4, .int w), (5, .int h), (6, .int t), (7, .int toX), (8, .int toY), (9, .int join), (10, .int ((s_X9_moves_14 now aside s x y w t toX toY join i_14).1)), (11, .int (nI i_14))]) [] (fun i_14 hi_14 ih_14 => ?_) ?_ 0 (Nat.zero_le _)
  · show Z X G 13 0 0 (wMd G da dn dp dr ds dl dc dt dg ((s_X9_moves_14 now aside s x y w t toX toY join i_14).2) past states refused (g_X9_copies_aside now aside) pile came pileL text textL place nargs) 14 [(0, .ref da), (1, .int s), (2, .int x), (3, .int y), (4, .int w), (5, .int h), (6, .int t), (7, .int toX), (8, .int toY), (9, .int join), (10, .int ((s_X9_moves_14 now aside s x y w t toX toY join i_14).1)), (11, .int (nI i_14))] []
    generalize hz_14 : s_X9_moves_14 now aside s x y w t toX toY join i_14 = z_14
    have hI_14 : mOk z_14.2 := by rw [← hz_14]; exact i_X9_moves_14 (by exact hT) (by exact hm) i_14
    refine z_iload (pc := 14) C 11 dX9_moves_14 rfl ?_
    refine z_iload (pc := 16) C 5 dX9_moves_16 rfl ?_
    refine z_icmp_ge (pc := 18) 79 C dX9_moves_18 (by decide) (fun c_18 => ?_) (fun c_18 => ?_)
    · skip
      exact absurd c_18 (lps (hkh.1) (by omega) (by omega))
    · skip
      refine z_iconst (pc := 21) (v := 0) C dX9_moves_21 (by decide) ?_
      refine z_istore (pc := 22) [(12, _), (0, _), (1, _), (2, _), (3, _), (4, _), (5, _), (6, _), (7, _), (8, _), (9, _), (10, _), (11, _)] C dX9_moves_22 (by decide) rfl ?_
      refine z_lv (lv' := [(0, _), (1, _), (2, _), (3, _), (4, _), (5, _), (6, _), (7, _), (8, _), (9, _), (10, _), (11, _), (12, _)]) [1, 2, 3, 4, 5, 6, 7, 8, 9, 10, 11, 12, 0] rfl ?_
      refine z_loop (pc := 24) (e := w.toNatClampNeg) (fun i_24 => wMd G da dn dp dr ds dl dc dt dg ((s_X9_moves_24 now aside s x y t toX toY join i_14 z_14 i_24).2) past states refused (g_X9_copies_aside now aside) pile came pileL text textL place nargs) (fun i_24 => [(0, .ref da), (1, .int s), (2, .int x), (3, .int y), (4, .int w), (5, .int h), (6, .int t), (7, .int toX), (8, .int toY), (9, .int join), (10, .int ((s_X9_moves_24 now aside s x y t toX toY join i_14 z_14 i_24).1)), (11, .int (nI i_14)), (12, .int (nI i_24))]) [] (fun i_24 hi_24 ih_24 => ?_) ?_ 0 (Nat.zero_le _)
      · show Z X G 13 0 0 (wMd G da dn dp dr ds dl dc dt dg ((s_X9_moves_24 now aside s x y t toX toY join i_14 z_14 i_24).2) past states refused (g_X9_copies_aside now aside) pile came pileL text textL place nargs) 24 [(0, .ref da), (1, .int s), (2, .int x), (3, .int y), (4, .int w), (5, .int h), (6, .int t), (7, .int toX), (8, .int toY), (9, .int join), (10, .int ((s_X9_moves_24 now aside s x y t toX toY join i_14 z_14 i_24).1)), (11, .int (nI i_14)), (12, .int (nI i_24))] []
        generalize hz_24 : s_X9_moves_24 now aside s x y t toX toY join i_14 z_14 i_24 = z_24
        have hI_24 : mOk z_24.2 := by rw [← hz_24]; exact i_X9_moves_24 (by exact hT) (by exact hI_14) i_24
        refine z_iload (pc := 24) C 12 dX9_moves_24 rfl ?_
        refine z_iload (pc := 26) C 4 dX9_moves_26 rfl ?_
        refine z_icmp_ge (pc := 28) 73 C dX9_moves_28 (by decide) (fun c_28 => ?_) (fun c_28 => ?_)
        · skip
          exact absurd c_28 (lps (hkw.1) (by omega) (by omega))
        · skip
          refine z_iload (pc := 31) C 10 dX9_moves_31 rfl ?_
          refine z_aload_n (pc := 33) C 0 dX9_moves_33 rfl ?_
          refine z_iload (pc := 34) C 6 dX9_moves_34 rfl ?_
          refine z_iload (pc := 36) C 7 dX9_moves_36 rfl ?_
          refine z_iload (pc := 38) C 12 dX9_moves_38 rfl ?_
          refine z_iadd (pc := 40) C dX9_moves_40 ?_
          refine z_iload (pc := 41) C 8 dX9_moves_41 rfl ?_
          refine z_iload (pc := 43) C 11 dX9_moves_43 rfl ?_
          refine z_iadd (pc := 45) C dX9_moves_45 ?_
          refine z_aload_n (pc := 46) C 0 dX9_moves_46 rfl ?_
          refine z_iload_n (pc := 47) C 1 dX9_moves_47 rfl ?_
          refine z_iload_n (pc := 48) C 2 dX9_moves_48 rfl ?_
          refine z_iload (pc := 49) C 12 dX9_moves_49 rfl ?_
          refine z_iadd (pc := 51) C dX9_moves_51 ?_
          refine z_iload_n (pc := 52) C 3 dX9_moves_52 rfl ?_
          refine z_iload (pc := 53) C 11 dX9_moves_53 rfl ?_
          refine z_iadd (pc := 55) C dX9_moves_55 ?_
          refine z_callV (pc := 56) C (c_X9_asideAt (by exact hs)) [0, 1, 2, 3, 4, 5, 6, 7, 8] z00 mV_X9_asideAt q_966 dX9_moves_56 rfl rfl rfl 0 rfl rfl rfl rfl (Nat.le_of_ble_eq_true rfl) (by decide) (pI.stay rfl ?_)
          refine z_iload (pc := 59) C 9 dX9_moves_59 rfl ?_
          refine z_callV (pc := 61) C (c_X9_joinsAt (by exact hT) (by exact hI_24)) [0, 1, 2, 3, 4, 5, 6, 7, 8] z00 mV_X9_joinsAt q_970 dX9_moves_61 rfl rfl rfl 0 rfl rfl rfl rfl (Nat.le_of_ble_eq_true rfl) (by decide) (pI.go (ws' := wMd G da dn dp dr ds dl dc dt dg _ past states refused _ pile came pileL text textL place nargs) rfl ?_)
          refine z_iadd (pc := 64) C dX9_moves_64 ?_
          refine z_istore (pc := 65) [(10, _), (0, _), (1, _), (2, _), (3, _), (4, _), (5, _), (6, _), (7, _), (8, _), (9, _), (11, _), (12, _)] C dX9_moves_65 (by decide) rfl ?_
          refine z_iinc (pc := 67) (v := nI (i_24 + 1)) [(12, _), (10, _), (0, _), (1, _), (2, _), (3, _), (4, _), (5, _), (6, _), (7, _), (8, _), (9, _), (11, _)] C 12 dX9_moves_67 rfl ((nI_succ _).symm) (by decide) rfl ?_
          refine z_goto (pc := 70) 24 C dX9_moves_70 (by decide) ?_
          refine z_lv (lv' := [(0, _), (1, _), (2, _), (3, _), (4, _), (5, _), (6, _), (7, _), (8, _), (9, _), (10, _), (11, _), (12, _)]) [2, 3, 4, 5, 6, 7, 8, 9, 10, 11, 1, 12, 0] rfl ?_
          exact z_eq (by simp only [s_X9_moves_24, hz_24, b_X9_moves_24]) (by simp only [s_X9_moves_24, hz_24, b_X9_moves_24]) rfl ih_24
      · show Z X G 13 0 0 (wMd G da dn dp dr ds dl dc dt dg ((s_X9_moves_24 now aside s x y t toX toY join i_14 z_14 w.toNatClampNeg).2) past states refused (g_X9_copies_aside now aside) pile came pileL text textL place nargs) 24 [(0, .ref da), (1, .int s), (2, .int x), (3, .int y), (4, .int w), (5, .int h), (6, .int t), (7, .int toX), (8, .int toY), (9, .int join), (10, .int ((s_X9_moves_24 now aside s x y t toX toY join i_14 z_14 w.toNatClampNeg).1)), (11, .int (nI i_14)), (12, .int (nI w.toNatClampNeg))] []
        have hI_24 : mOk (s_X9_moves_24 now aside s x y t toX toY join i_14 z_14 w.toNatClampNeg).2 := i_X9_moves_24 (by exact hT) (by exact hI_14) w.toNatClampNeg
        refine z_iload (pc := 24) C 12 dX9_moves_24 rfl ?_
        refine z_iload (pc := 26) C 4 dX9_moves_26 rfl ?_
        refine z_icmp_ge (pc := 28) 73 C dX9_moves_28 (by decide) (fun c_28 => ?_) (fun c_28 => ?_)
        · skip
          refine z_iinc (pc := 73) (v := nI (i_14 + 1)) [(11, _), (0, _), (1, _), (2, _), (3, _), (4, _), (5, _), (6, _), (7, _), (8, _), (9, _), (10, _), (12, _)] C 11 dX9_moves_73 rfl ((nI_succ _).symm) (by decide) rfl ?_
          refine z_goto (pc := 76) 14 C dX9_moves_76 (by decide) ?_
          refine z_lv (lv' := [(0, _), (1, _), (2, _), (3, _), (4, _), (5, _), (6, _), (7, _), (8, _), (9, _), (10, _), (11, _)]) [1, 2, 3, 4, 5, 6, 7, 8, 9, 10, 11, 0] rfl ?_
          exact z_eq (by simp only [s_X9_moves_14, hz_14, b_X9_moves_14]) (by simp only [s_X9_moves_14, hz_14, b_X9_moves_14]) rfl ih_14
        · skip
          exact absurd (lpx (hkw.1)) c_28
  · show Z X G 13 0 0 (wMd G da dn dp dr ds dl dc dt dg ((s_X9_moves_14 now aside s x y w t toX toY join h.toNatClampNeg).2) past states refused (g_X9_copies_aside now aside) pile came pileL text textL place nargs) 14 [(0, .ref da), (1, .int s), (2, .int x), (3, .int y), (4, .int w), (5, .int h), (6, .int t), (7, .int toX), (8, .int toY), (9, .int join), (10, .int ((s_X9_moves_14 now aside s x y w t toX toY join h.toNatClampNeg).1)), (11, .int (nI h.toNatClampNeg))] []
    have hI_14 : mOk (s_X9_moves_14 now aside s x y w t toX toY join h.toNatClampNeg).2 := i_X9_moves_14 (by exact hT) (by exact hm) h.toNatClampNeg
    refine z_iload (pc := 14) C 11 dX9_moves_14 rfl ?_
    refine z_iload (pc := 16) C 5 dX9_moves_16 rfl ?_
    refine z_icmp_ge (pc := 18) 79 C dX9_moves_18 (by decide) (fun c_18 => ?_) (fun c_18 => ?_)
    · skip
      refine z_iload (pc := 79) C 10 dX9_moves_79 rfl ?_
      exact z_iret (pc := 81) C E dX9_moves_81 (pI.mk rfl rfl)
    · skip
      exact absurd (lpx (hkh.1)) c_18
