theorem ix_tp {len place : Int32} (h : tP len place) (h2 : ¬ len ≤ place) : vp_in place 120 := by
  have h3 : ¬ len.toInt ≤ place.toInt := fun q => h2 (Int32.le_iff_toInt_le.mpr q)
  obtain ⟨⟨h4, h5⟩, h6, h7⟩ := h
  rw [vp_in_iff]; omega
theorem ix_at {len k : Int32} (h : tL len) (h0 : 0 ≤ k.toInt) (h2 : ¬ len ≤ k) : vp_in k 120 := by
  have h3 : ¬ len.toInt ≤ k.toInt := fun q => h2 (Int32.le_iff_toInt_le.mpr q)
  obtain ⟨h4, h5⟩ := h
  rw [vp_in_iff]; omega

def r_X9_skip_0 (text : Nat → Int32) (textL : Int32) : Nat → Nat → (Int32) → Int32
  | 0, i_0, z_0 => z_0
  | n_0 + 1, i_0, z_0 => if textL ≤ z_0 then z_0 else if (text z_0.toNatClampNeg) = 32 then r_X9_skip_0 text textL n_0 (i_0 + 1) (z_0 + 1) else z_0
def g_X9_skip_place (text : Nat → Int32) (textL : Int32) (place : Int32) : Int32 := (r_X9_skip_0 text textL 120 0 place)
set_option maxRecDepth 100000 in
theorem c_X9_skip {l : Launch} {G : zG} {da dn dp dr ds dl dc dt dg : Nat} {now : Nat → Int32} {past : Nat → Int32} {states : Int32} {refused : Nat → Int32} {aside : Nat → Int32} {pile : Nat → Int32} {came : Nat → Int32} {pileL : Int32} {text : Nat → Int32} {textL : Int32} {place : Int32} {nargs : Nat → Int32} (hp : tP textL place) : Ct l G yX9_skip cX9_skip 1 (Option.none : Option Jvm.ClassFile.FieldType) 0 0 [.ref da] (wMd G da dn dp dr ds dl dc dt dg now past states refused aside pile came pileL text textL place nargs) (pV (wMd G da dn dp dr ds dl dc dt dg now past states refused aside pile came pileL text textL (g_X9_skip_place text textL place) nargs)) := by
  refine Ct.of (plainFor_of_name (by decide)) (Nat.le_of_ble_eq_true rfl) (pV.ad ad_Md) (fun X C E => ?_)
  show Z X G 1 0 0 _ 0 [(0, .ref da)] []
  refine z_lv (lv' := [(0, _)]) [0] rfl ?_
  have L_0 : ∀ (n_0 i_0 : Nat) (z_0 : Int32), n_0 + i_0 = 120 → (tP textL z_0 ∧ (i_0 : Int) ≤ z_0.toInt) → r_X9_skip_0 text textL n_0 i_0 z_0 = r_X9_skip_0 text textL 120 0 place → Z X G 1 0 0 (wMd G da dn dp dr ds dl dc dt dg now past states refused aside pile came pileL text textL z_0 nargs) 0 [(0, .ref da)] [] := by
    intro n_0
    induction n_0 with
    | zero =>
      intro i_0 z_0 hn_0 hI_0 hF_0
      obtain rfl : i_0 = 120 := by omega
      refine z_aload_n (pc := 0) C 0 dX9_skip_0 rfl ?_
      refine z_get (pc := 1) C 0 10 dX9_skip_1 rfl rfl i_X9 (by decide) q_839 rfl ?_
      refine z_aload_n (pc := 4) C 0 dX9_skip_4 rfl ?_
      refine z_get (pc := 5) C 0 9 dX9_skip_5 rfl rfl i_X9 (by decide) q_838 rfl ?_
      refine z_icmp_ge (pc := 8) 38 C dX9_skip_8 (by decide) (fun c_8 => ?_) (fun c_8 => ?_)
      · skip
        exact z_vret (pc := 38) C E dX9_skip_38 (pV.mk (by simp only [g_X9_skip_place]; rw [← hF_0]; simp only [r_X9_skip_0]))
      · skip
        exact absurd (sk_x hI_0.1.1 hI_0.2 rfl) c_8
    | succ n_0 ih_0 =>
      intro i_0 z_0 hn_0 hI_0 hF_0
      have hi_0 : i_0 < 120 := by omega
      refine z_aload_n (pc := 0) C 0 dX9_skip_0 rfl ?_
      refine z_get (pc := 1) C 0 10 dX9_skip_1 rfl rfl i_X9 (by decide) q_839 rfl ?_
      refine z_aload_n (pc := 4) C 0 dX9_skip_4 rfl ?_
      refine z_get (pc := 5) C 0 9 dX9_skip_5 rfl rfl i_X9 (by decide) q_838 rfl ?_
      refine z_icmp_ge (pc := 8) 38 C dX9_skip_8 (by decide) (fun c_8 => ?_) (fun c_8 => ?_)
      · skip
        exact z_vret (pc := 38) C E dX9_skip_38 (pV.mk (by simp only [g_X9_skip_place]; rw [← hF_0]; simp only [r_X9_skip_0, if_pos c_8]))
      · skip
        refine z_aload_n (pc := 11) C 0 dX9_skip_11 rfl ?_
        refine z_get (pc := 12) C 0 8 dX9_skip_12 rfl rfl i_X9 (by decide) q_837 rfl ?_
        refine z_aload_n (pc := 15) C 0 dX9_skip_15 rfl ?_
        refine z_get (pc := 16) C 0 10 dX9_skip_16 rfl rfl i_X9 (by decide) q_839 rfl ?_
        refine z_iald (pc := 19) C 7 dX9_skip_19 rfl (ix_tp hI_0.1 c_8) ?_
        refine z_bipush (pc := 20) (v := 32) C dX9_skip_20 (by decide) ?_
        refine z_icmp_ne (pc := 22) 38 C dX9_skip_22 (by decide) (fun c_22 => ?_) (fun c_22 => ?_)
        · skip
          exact z_vret (pc := 38) C E dX9_skip_38 (pV.mk (by simp only [g_X9_skip_place]; rw [← hF_0]; simp only [r_X9_skip_0, if_neg c_8, if_neg c_22]))
        · skip
          refine z_aload_n (pc := 25) C 0 dX9_skip_25 rfl ?_
          refine z_dup (pc := 26) C dX9_skip_26 rfl ?_
          refine z_get (pc := 27) C 0 10 dX9_skip_27 rfl rfl i_X9 (by decide) q_839 rfl ?_
          refine z_iconst (pc := 30) (v := 1) C dX9_skip_30 (by decide) ?_
          refine z_iadd (pc := 31) C dX9_skip_31 ?_
          refine z_put (pc := 32) (wMd G da dn dp dr ds dl dc dt dg now past states refused aside pile came pileL text textL _ nargs) C 0 10 dX9_skip_32 rfl rfl i_X9 tyX9_ok nmX9 (by decide) q_839 rfl rfl rfl rfl (Nat.le_of_ble_eq_true rfl) rfl ?_
          refine z_goto (pc := 35) 0 C dX9_skip_35 (by decide) ?_
          refine z_lv (lv' := [(0, _)]) [0] rfl ?_
          exact ih_0 (i_0 + 1) (z_0 + 1) (by omega) (by exact ⟨(tP_up hI_0.1 c_8).1, by have := (tP_up hI_0.1 c_8).2; have := hI_0.2; omega⟩) (by rw [← hF_0]; simp only [r_X9_skip_0, if_neg c_8, if_pos c_22])
  exact L_0 120 0 place (by omega) (by exact ⟨hp, hp.2.1⟩) rfl

theorem tP_ms0 {text : Nat → Int32} {len : Int32} : ∀ (n i : Nat) (place : Int32), tP len place → tP len (r_X9_skip_0 text len n i place)
  | 0, i, place, h => h
  | n + 1, i, place, h => by
    unfold r_X9_skip_0
    split
    · exact h
    · split
      · exact tP_ms0 n (i + 1) (place + 1) (tP_up h (by assumption)).1
      · exact h
theorem tP_ms {text : Nat → Int32} {len place : Int32} (h : tP len place) : tP len (g_X9_skip_place text len place) := tP_ms0 _ _ _ h

def f_X9_isByte (text : Nat → Int32) (textL : Int32) (k : Int32) (low : Int32) (high : Int32) : Int32 := if textL ≤ k then 0 else if (f_X9_in ((text k.toNatClampNeg).toInt64) low.toInt64 high.toInt64) = 0 then 0 else 1
set_option maxRecDepth 100000 in
theorem c_X9_isByte {l : Launch} {G : zG} {da dn dp dr ds dl dc dt dg : Nat} {now : Nat → Int32} {past : Nat → Int32} {states : Int32} {refused : Nat → Int32} {aside : Nat → Int32} {pile : Nat → Int32} {came : Nat → Int32} {pileL : Int32} {text : Nat → Int32} {textL : Int32} {place : Int32} {nargs : Nat → Int32} {k : Int32} {low : Int32} {high : Int32} (ht : tL textL) (h0 : 0 ≤ k.toInt) : Ct l G yX9_isByte cX9_isByte 4 (Option.some FieldType.boolean) 1 25 [.ref da, .int k, .int low, .int high] (wMd G da dn dp dr ds dl dc dt dg now past states refused aside pile came pileL text textL place nargs) (pI (f_X9_isByte text textL k low high) (wMd G da dn dp dr ds dl dc dt dg now past states refused aside pile came pileL text textL place nargs)) := by
  refine Ct.of (plainFor_of_name (by decide)) (Nat.le_of_ble_eq_true rfl) (pI.ad ad_Md) (fun X C E => ?_)
  show Z X G 4 0 0 _ 0 [(0, .ref da), (1, .int k), (2, .int low), (3, .int high)] []
  refine z_iload_n (pc := 0) C 1 dX9_isByte_0 rfl ?_
  refine z_aload_n (pc := 1) C 0 dX9_isByte_1 rfl ?_
  refine z_get (pc := 2) C 0 9 dX9_isByte_2 rfl rfl i_X9 (by decide) q_838 rfl ?_
  refine z_icmp_ge (pc := 5) 29 C dX9_isByte_5 (by decide) (fun c_5 => ?_) (fun c_5 => ?_)
  · skip
    refine z_iconst (pc := 29) (v := 0) C dX9_isByte_29 (by decide) ?_
    exact z_zret (pc := 30) C E dX9_isByte_30 (by first | rfl | assumption) (pI.mk (by simp only [f_X9_isByte, if_pos c_5]) rfl)
  · skip
    refine z_aload_n (pc := 8) C 0 dX9_isByte_8 rfl ?_
    refine z_get (pc := 9) C 0 8 dX9_isByte_9 rfl rfl i_X9 (by decide) q_837 rfl ?_
    refine z_iload_n (pc := 12) C 1 dX9_isByte_12 rfl ?_
    refine z_iald (pc := 13) C 7 dX9_isByte_13 rfl (ix_at ht h0 c_5) ?_
    refine z_i2l (pc := 14) C dX9_isByte_14 ?_
    refine z_iload_n (pc := 15) C 2 dX9_isByte_15 rfl ?_
    refine z_i2l (pc := 16) C dX9_isByte_16 ?_
    refine z_iload_n (pc := 17) C 3 dX9_isByte_17 rfl ?_
    refine z_i2l (pc := 18) C dX9_isByte_18 ?_
    refine z_callS (pc := 19) C (c_X9_in) [] z00 mS_X9_in q_875 dX9_isByte_19 rfl rfl rfl rfl (Nat.le_of_ble_eq_true rfl) (by decide) (pI.stay rfl ?_)
    refine z_if_eq (pc := 22) 29 C dX9_isByte_22 (by decide) (fun c_22 => ?_) (fun c_22 => ?_)
    · skip
      refine z_iconst (pc := 29) (v := 0) C dX9_isByte_29 (by decide) ?_
      exact z_zret (pc := 30) C E dX9_isByte_30 (by first | rfl | assumption) (pI.mk (by simp only [f_X9_isByte, if_neg c_5, if_pos c_22]) rfl)
    · skip
      refine z_iconst (pc := 25) (v := 1) C dX9_isByte_25 (by decide) ?_
      refine z_goto (pc := 26) 30 C dX9_isByte_26 (by decide) ?_
      exact z_zret (pc := 30) C E dX9_isByte_30 (by first | rfl | assumption) (pI.mk (by simp only [f_X9_isByte, if_neg c_5, if_neg c_22]) rfl)
theorem nb_X9_isByte {text : Nat → Int32} {textL : Int32} {k : Int32} {low : Int32} {high : Int32} : narrow .boolean (.int (f_X9_isByte text textL k low high)) = .int (f_X9_isByte text textL k low high) := by unfold f_X9_isByte; (repeat' split) <;> first | rfl

theorem ib_lt {text : Nat → Int32} {len k lo hi : Int32} (h : ¬ f_X9_isByte text len k lo hi = 0) : ¬ len ≤ k := fun q => h (by unfold f_X9_isByte; rw [if_pos q])
theorem tP_mn {text : Nat → Int32} {len place lo hi : Int32} (h : tP len place) : tP len (if f_X9_isByte text len place lo hi = 0 then place else place + 1) := by
  split
  · exact h
  · rename_i q; exact (tP_up h (ib_lt q)).1

def r_X9_takes_71 (text : Nat → Int32) (textL : Int32) : Nat → Nat → (Int32 × Int32 × Int32) → Int32 × Int32 × Int32
  | 0, i_71, z_71 => (z_71.1, z_71.2.1, z_71.2.2)
  | n_71 + 1, i_71, z_71 => if (f_X9_isByte text textL z_71.2.2 48 57) = 0 then (z_71.1, z_71.2.1, z_71.2.2) else r_X9_takes_71 text textL n_71 (i_71 + 1) ((if 3 ≤ z_71.2.1 then z_71.1 else (((10 * z_71.1) + (text z_71.2.2.toNatClampNeg)) - 48) : Int32), z_71.2.1 + 1, z_71.2.2 + 1)
def f_X9_takes (text : Nat → Int32) (textL : Int32) (place : Int32) (k : Int32) (sort : Int32) : Int32 := (if (if k = 0 then 1 else if place < (g_X9_skip_place text textL place) then 1 else if (f_X9_isByte text textL (g_X9_skip_place text textL place) 45 45) = 0 then 0 else 1 : Int32) = 0 then 0 else if (f_X9_in (((r_X9_takes_71 text textL 120 0 (0, 0, (if (f_X9_isByte text textL (g_X9_skip_place text textL place) 45 45) = 0 then (g_X9_skip_place text textL place) else ((g_X9_skip_place text textL place) + 1) : Int32))).2.1).toInt64) 1 3) = 0 then 0 else if (f_X9_isAs sort (if (f_X9_isByte text textL (g_X9_skip_place text textL place) 45 45) = 0 then ((r_X9_takes_71 text textL 120 0 (0, 0, (if (f_X9_isByte text textL (g_X9_skip_place text textL place) 45 45) = 0 then (g_X9_skip_place text textL place) else ((g_X9_skip_place text textL place) + 1) : Int32))).1) else (-((r_X9_takes_71 text textL 120 0 (0, 0, (if (f_X9_isByte text textL (g_X9_skip_place text textL place) 45 45) = 0 then (g_X9_skip_place text textL place) else ((g_X9_skip_place text textL place) + 1) : Int32))).1)) : Int32)) = 0 then 0 else 1 : Int32)
def g_X9_takes_place (text : Nat → Int32) (textL : Int32) (place : Int32) (k : Int32) (sort : Int32) : Int32 := (if (if (if k = 0 then 1 else if place < (g_X9_skip_place text textL place) then 1 else if (f_X9_isByte text textL (g_X9_skip_place text textL place) 45 45) = 0 then 0 else 1 : Int32) = 0 then 0 else if (f_X9_in (((r_X9_takes_71 text textL 120 0 (0, 0, (if (f_X9_isByte text textL (g_X9_skip_place text textL place) 45 45) = 0 then (g_X9_skip_place text textL place) else ((g_X9_skip_place text textL place) + 1) : Int32))).2.1).toInt64) 1 3) = 0 then 0 else if (f_X9_isAs sort (if (f_X9_isByte text textL (g_X9_skip_place text textL place) 45 45) = 0 then ((r_X9_takes_71 text textL 120 0 (0, 0, (if (f_X9_isByte text textL (g_X9_skip_place text textL place) 45 45) = 0 then (g_X9_skip_place text textL place) else ((g_X9_skip_place text textL place) + 1) : Int32))).1) else (-((r_X9_takes_71 text textL 120 0 (0, 0, (if (f_X9_isByte text textL (g_X9_skip_place text textL place) 45 45) = 0 then (g_X9_skip_place text textL place) else ((g_X9_skip_place text textL place) + 1) : Int32))).1)) : Int32)) = 0 then 0 else 1 : Int32) = 0 then (g_X9_skip_place text textL place) else ((r_X9_takes_71 text textL 120 0 (0, 0, (if (f_X9_isByte text textL (g_X9_skip_place text textL place) 45 45) = 0 then (g_X9_skip_place text textL place) else ((g_X9_skip_place text textL place) + 1) : Int32))).2.2) : Int32)
def g_X9_takes_nargs (text : Nat → Int32) (textL : Int32) (place : Int32) (nargs : Nat → Int32) (k : Int32) : Nat → Int32 := upd nargs k.toNatClampNeg (if (f_X9_isByte text textL (g_X9_skip_place text textL place) 45 45) = 0 then ((r_X9_takes_71 text textL 120 0 (0, 0, (if (f_X9_isByte text textL (g_X9_skip_place text textL place) 45 45) = 0 then (g_X9_skip_place text textL place) else ((g_X9_skip_place text textL place) + 1) : Int32))).1) else (-((r_X9_takes_71 text textL 120 0 (0, 0, (if (f_X9_isByte text textL (g_X9_skip_place text textL place) 45 45) = 0 then (g_X9_skip_place text textL place) else ((g_X9_skip_place text textL place) + 1) : Int32))).1)) : Int32)
set_option maxRecDepth 100000 in
theorem c_X9_takes {l : Launch} {G : zG} {da dn dp dr ds dl dc dt dg : Nat} {now : Nat → Int32} {past : Nat → Int32} {states : Int32} {refused : Nat → Int32} {aside : Nat → Int32} {pile : Nat → Int32} {came : Nat → Int32} {pileL : Int32} {text : Nat → Int32} {textL : Int32} {place : Int32} {nargs : Nat → Int32} {k : Int32} {sort : Int32} (hp : tP textL place) (hk : vp_in k 9) : Ct l G yX9_takes cX9_takes 11 (Option.some FieldType.boolean) 2 48 [.ref da, .int k, .int sort] (wMd G da dn dp dr ds dl dc dt dg now past states refused aside pile came pileL text textL place nargs) (pI (f_X9_takes text textL place k sort) (wMd G da dn dp dr ds dl dc dt dg now past states refused aside pile came pileL text textL (g_X9_takes_place text textL place k sort) (g_X9_takes_nargs text textL place nargs k))) := by
  refine Ct.of (plainFor_of_name (by decide)) (Nat.le_of_ble_eq_true rfl) (pI.ad ad_Md) (fun X C E => ?_)
  show Z X G 11 0 0 _ 0 [(0, .ref da), (1, .int k), (2, .int sort)] []
  refine z_aload_n (pc := 0) C 0 dX9_takes_0 rfl ?_
  refine z_get (pc := 1) C 0 10 dX9_takes_1 rfl rfl i_X9 (by decide) q_839 rfl ?_
  refine z_istore_n (pc := 4) [(3, _), (0, _), (1, _), (2, _)] C dX9_takes_4 rfl (by decide) rfl ?_
  refine z_aload_n (pc := 5) C 1 dX9_takes_5 rfl ?_
  refine z_callV (pc := 6) C (c_X9_skip (by exact hp)) [0, 1, 2, 3, 4, 5, 6, 7, 8] z00 mV_X9_skip q_1130 dX9_takes_6 rfl rfl rfl 0 rfl rfl rfl rfl (Nat.le_of_ble_eq_true rfl) (by decide) (pV.go (ws' := wMd G da dn dp dr ds dl dc dt dg now past states refused aside pile came pileL text textL _ nargs) rfl ?_)
  refine z_aload_n (pc := 9) C 1 dX9_takes_9 rfl ?_
  refine z_get (pc := 10) C 0 10 dX9_takes_10 rfl rfl i_X9 (by decide) q_839 rfl ?_
  refine z_istore (pc := 13) [(4, _), (3, _), (0, _), (1, _), (2, _)] C dX9_takes_13 (by decide) rfl ?_
  refine z_aload_n (pc := 15) C 2 dX9_takes_15 rfl ?_
  refine z_iload (pc := 16) C 0 dX9_takes_16 rfl ?_
  refine z_bipush (pc := 18) (v := 45) C dX9_takes_18 (by decide) ?_
  refine z_bipush (pc := 20) (v := 45) C dX9_takes_20 (by decide) ?_
  refine z_callV (pc := 22) C (c_X9_isByte (by exact hp.1) (by exact (tP_ms hp).2.1)) [0, 1, 2, 3, 4, 5, 6, 7, 8] z00 mV_X9_isByte q_1147 dX9_takes_22 rfl rfl rfl 0 rfl rfl rfl rfl (Nat.le_of_ble_eq_true rfl) (by decide) (pI.stay rfl ?_)
  refine z_istore (pc := 25) [(5, _), (4, _), (3, _), (0, _), (1, _), (2, _)] C dX9_takes_25 (by decide) rfl ?_
  refine z_iload_n (pc := 27) C 4 dX9_takes_27 rfl ?_
  have K_47 : Z X G 11 0 0 (wMd G da dn dp dr ds dl dc dt dg now past states refused aside pile came pileL text textL (g_X9_skip_place text textL place) nargs) 47 [(0, .ref da), (1, .int k), (2, .int sort), (3, .int place), (4, .int (g_X9_skip_place text textL place)), (5, .int (f_X9_isByte text textL (g_X9_skip_place text textL place) 45 45))] [.int (if k = 0 then 1 else if place < (g_X9_skip_place text textL place) then 1 else if (f_X9_isByte text textL (g_X9_skip_place text textL place) 45 45) = 0 then 0 else 1 : Int32)] := by
    refine z_istore (pc := 47) [(6, _), (0, _), (1, _), (2, _), (3, _), (4, _), (5, _)] C dX9_takes_47 (by decide) rfl ?_
    refine z_iload (pc := 49) C 6 dX9_takes_49 rfl ?_
    have K_63 : Z X G 11 0 0 (wMd G da dn dp dr ds dl dc dt dg now past states refused aside pile came pileL text textL (g_X9_skip_place text textL place) nargs) 63 [(0, .ref da), (1, .int k), (2, .int sort), (3, .int place), (4, .int (g_X9_skip_place text textL place)), (5, .int (f_X9_isByte text textL (g_X9_skip_place text textL place) 45 45)), (6, .int (if k = 0 then 1 else if place < (g_X9_skip_place text textL place) then 1 else if (f_X9_isByte text textL (g_X9_skip_place text textL place) 45 45) = 0 then 0 else 1 : Int32))] [.int (if (f_X9_isByte text textL (g_X9_skip_place text textL place) 45 45) = 0 then (g_X9_skip_place text textL place) else ((g_X9_skip_place text textL place) + 1) : Int32)] := by
      refine z_istore (pc := 63) [(7, _), (0, _), (1, _), (2, _), (3, _), (4, _), (5, _), (6, _)] C dX9_takes_63 (by decide) rfl ?_
      refine z_iconst (pc := 65) (v := 0) C dX9_takes_65 (by decide) ?_
      refine z_istore (pc := 66) [(8, _), (7, _), (0, _), (1, _), (2, _), (3, _), (4, _), (5, _), (6, _)] C dX9_takes_66 (by decide) rfl ?_
      refine z_iconst (pc := 68) (v := 0) C dX9_takes_68 (by decide) ?_
      refine z_istore (pc := 69) [(9, _), (8, _), (7, _), (0, _), (1, _), (2, _), (3, _), (4, _), (5, _), (6, _)] C dX9_takes_69 (by decide) rfl ?_
      refine z_lv (lv' := [(0, _), (1, _), (2, _), (3, _), (4, _), (5, _), (6, _), (7, _), (8, _), (9, _)]) [3, 4, 5, 6, 7, 8, 9, 2, 1, 0] rfl ?_
      have L_71 : ∀ (n_71 i_71 : Nat) (z_71 : Int32 × Int32 × Int32), n_71 + i_71 = 120 → (tP textL z_71.2.2 ∧ (i_71 : Int) ≤ z_71.2.2.toInt) → Z X G 11 0 0 (wMd G da dn dp dr ds dl dc dt dg now past states refused aside pile came pileL text textL (g_X9_skip_place text textL place) nargs) 122 [(0, .ref da), (1, .int k), (2, .int sort), (3, .int place), (4, .int (g_X9_skip_place text textL place)), (5, .int (f_X9_isByte text textL (g_X9_skip_place text textL place) 45 45)), (6, .int (if k = 0 then 1 else if place < (g_X9_skip_place text textL place) then 1 else if (f_X9_isByte text textL (g_X9_skip_place text textL place) 45 45) = 0 then 0 else 1 : Int32)), (7, .int ((r_X9_takes_71 text textL n_71 i_71 z_71).2.2)), (8, .int ((r_X9_takes_71 text textL n_71 i_71 z_71).1)), (9, .int ((r_X9_takes_71 text textL n_71 i_71 z_71).2.1))] [] → Z X G 11 0 0 (wMd G da dn dp dr ds dl dc dt dg now past states refused aside pile came pileL text textL (g_X9_skip_place text textL place) nargs) 71 [(0, .ref da), (1, .int k), (2, .int sort), (3, .int place), (4, .int (g_X9_skip_place text textL place)), (5, .int (f_X9_isByte text textL (g_X9_skip_place text textL place) 45 45)), (6, .int (if k = 0 then 1 else if place < (g_X9_skip_place text textL place) then 1 else if (f_X9_isByte text textL (g_X9_skip_place text textL place) 45 45) = 0 then 0 else 1 : Int32)), (7, .int z_71.2.2), (8, .int z_71.1), (9, .int z_71.2.1)] [] := by
        intro n_71
        induction n_71 with
        | zero =>
          intro i_71 z_71 hn_71 hI_71 hF_71
          obtain rfl : i_71 = 120 := by omega
          refine z_aload_n (pc := 71) C 0 dX9_takes_71 rfl ?_
          refine z_iload (pc := 72) C 7 dX9_takes_72 rfl ?_
          refine z_bipush (pc := 74) (v := 48) C dX9_takes_74 (by decide) ?_
          refine z_bipush (pc := 76) (v := 57) C dX9_takes_76 (by decide) ?_
          refine z_callV (pc := 78) C (c_X9_isByte (by exact hp.1) (by exact hI_71.1.2.1)) [0, 1, 2, 3, 4, 5, 6, 7, 8] z00 mV_X9_isByte q_1147 dX9_takes_78 rfl rfl rfl 0 rfl rfl rfl rfl (Nat.le_of_ble_eq_true rfl) (by decide) (pI.stay rfl ?_)
          refine z_if_eq (pc := 81) 122 C dX9_takes_81 (by decide) (fun c_81 => ?_) (fun c_81 => ?_)
          · skip
            refine z_lv (lv' := [(0, _), (1, _), (2, _), (3, _), (4, _), (5, _), (6, _), (7, _), (8, _), (9, _)]) [0, 1, 2, 3, 4, 5, 6, 7, 8, 9] rfl ?_
            simp only [r_X9_takes_71] at hF_71
            exact hF_71
          · skip
            exact absurd (sk_x hI_71.1.1 hI_71.2 rfl) (ib_lt c_81)
        | succ n_71 ih_71 =>
          intro i_71 z_71 hn_71 hI_71 hF_71
          have hi_71 : i_71 < 120 := by omega
          refine z_aload_n (pc := 71) C 0 dX9_takes_71 rfl ?_
          refine z_iload (pc := 72) C 7 dX9_takes_72 rfl ?_
          refine z_bipush (pc := 74) (v := 48) C dX9_takes_74 (by decide) ?_
          refine z_bipush (pc := 76) (v := 57) C dX9_takes_76 (by decide) ?_
          refine z_callV (pc := 78) C (c_X9_isByte (by exact hp.1) (by exact hI_71.1.2.1)) [0, 1, 2, 3, 4, 5, 6, 7, 8] z00 mV_X9_isByte q_1147 dX9_takes_78 rfl rfl rfl 0 rfl rfl rfl rfl (Nat.le_of_ble_eq_true rfl) (by decide) (pI.stay rfl ?_)
          refine z_if_eq (pc := 81) 122 C dX9_takes_81 (by decide) (fun c_81 => ?_) (fun c_81 => ?_)
          · skip
            refine z_lv (lv' := [(0, _), (1, _), (2, _), (3, _), (4, _), (5, _), (6, _), (7, _), (8, _), (9, _)]) [0, 1, 2, 3, 4, 5, 6, 7, 8, 9] rfl ?_
            simp only [r_X9_takes_71, if_pos c_81] at hF_71
            exact hF_71
          · skip
            refine z_iload (pc := 84) C 9 dX9_takes_84 rfl ?_
            refine z_iconst (pc := 86) (v := 3) C dX9_takes_86 (by decide) ?_
            have K_111 : Z X G 11 0 0 (wMd G da dn dp dr ds dl dc dt dg now past states refused aside pile came pileL text textL (g_X9_skip_place text textL place) nargs) 111 [(0, .ref da), (1, .int k), (2, .int sort), (3, .int place), (4, .int (g_X9_skip_place text textL place)), (5, .int (f_X9_isByte text textL (g_X9_skip_place text textL place) 45 45)), (6, .int (if k = 0 then 1 else if place < (g_X9_skip_place text textL place) then 1 else if (f_X9_isByte text textL (g_X9_skip_place text textL place) 45 45) = 0 then 0 else 1 : Int32)), (7, .int z_71.2.2), (8, .int z_71.1), (9, .int z_71.2.1)] [.int (if 3 ≤ z_71.2.1 then z_71.1 else (((10 * z_71.1) + (text z_71.2.2.toNatClampNeg)) - 48) : Int32)] := by
              refine z_istore (pc := 111) [(8, _), (0, _), (1, _), (2, _), (3, _), (4, _), (5, _), (6, _), (7, _), (9, _)] C dX9_takes_111 (by decide) rfl ?_
              refine z_iinc (pc := 113) (v := _) [(9, _), (8, _), (0, _), (1, _), (2, _), (3, _), (4, _), (5, _), (6, _), (7, _)] C 9 dX9_takes_113 rfl rfl (by decide) rfl ?_
              refine z_iinc (pc := 116) (v := _) [(7, _), (9, _), (8, _), (0, _), (1, _), (2, _), (3, _), (4, _), (5, _), (6, _)] C 9 dX9_takes_116 rfl rfl (by decide) rfl ?_
              refine z_goto (pc := 119) 71 C dX9_takes_119 (by decide) ?_
              refine z_lv (lv' := [(0, _), (1, _), (2, _), (3, _), (4, _), (5, _), (6, _), (7, _), (8, _), (9, _)]) [3, 4, 5, 6, 7, 8, 9, 0, 2, 1] rfl ?_
              have h9 := ih_71 (i_71 + 1) ((if 3 ≤ z_71.2.1 then z_71.1 else (((10 * z_71.1) + (text z_71.2.2.toNatClampNeg)) - 48) : Int32), z_71.2.1 + 1, z_71.2.2 + 1) (by omega) (by dsimp only; exact ⟨(tP_up hI_71.1 (ib_lt c_81)).1, by have := (tP_up hI_71.1 (ib_lt c_81)).2; have := hI_71.2; omega⟩) (by simp only [r_X9_takes_71, if_neg c_81] at hF_71; exact hF_71)
              dsimp only at h9
              exact h9
            refine z_icmp_ge (pc := 87) 109 C dX9_takes_87 (by decide) (fun c_87 => ?_) (fun c_87 => ?_)
            · skip
              refine z_iload (pc := 109) C 8 dX9_takes_109 rfl ?_
              refine z_lv (lv' := [(0, _), (1, _), (2, _), (3, _), (4, _), (5, _), (6, _), (7, _), (8, _), (9, _)]) [0, 1, 2, 3, 4, 5, 6, 7, 8, 9] rfl ?_
              exact z_eq rfl rfl (by simp only [if_pos c_87]) K_111
            · skip
              refine z_bipush (pc := 90) (v := 10) C dX9_takes_90 (by decide) ?_
              refine z_iload (pc := 92) C 8 dX9_takes_92 rfl ?_
              refine z_imul (pc := 94) C dX9_takes_94 ?_
              refine z_aload_n (pc := 95) C 0 dX9_takes_95 rfl ?_
              refine z_get (pc := 96) C 0 8 dX9_takes_96 rfl rfl i_X9 (by decide) q_837 rfl ?_
              refine z_iload (pc := 99) C 7 dX9_takes_99 rfl ?_
              refine z_iald (pc := 101) C 7 dX9_takes_101 rfl (ix_tp hI_71.1 (ib_lt c_81)) ?_
              refine z_iadd (pc := 102) C dX9_takes_102 ?_
              refine z_bipush (pc := 103) (v := 48) C dX9_takes_103 (by decide) ?_
              refine z_isub (pc := 105) C dX9_takes_105 ?_
              refine z_goto (pc := 106) 111 C dX9_takes_106 (by decide) ?_
              refine z_lv (lv' := [(0, _), (1, _), (2, _), (3, _), (4, _), (5, _), (6, _), (7, _), (8, _), (9, _)]) [0, 1, 2, 3, 4, 5, 6, 7, 8, 9] rfl ?_
              exact z_eq rfl rfl (by simp only [if_neg c_87]) K_111
      have h9 := L_71 120 0 (0, 0, (if (f_X9_isByte text textL (g_X9_skip_place text textL place) 45 45) = 0 then (g_X9_skip_place text textL place) else ((g_X9_skip_place text textL place) + 1) : Int32)) (by omega) (by dsimp only; exact ⟨tP_mn (tP_ms hp), (tP_mn (tP_ms hp)).2.1⟩)
      dsimp only at h9
      refine h9 ?_
      clear h9
      show Z X G 11 0 0 (wMd G da dn dp dr ds dl dc dt dg now past states refused aside pile came pileL text textL (g_X9_skip_place text textL place) nargs) 122 [(0, .ref da), (1, .int k), (2, .int sort), (3, .int place), (4, .int (g_X9_skip_place text textL place)), (5, .int (f_X9_isByte text textL (g_X9_skip_place text textL place) 45 45)), (6, .int (if k = 0 then 1 else if place < (g_X9_skip_place text textL place) then 1 else if (f_X9_isByte text textL (g_X9_skip_place text textL place) 45 45) = 0 then 0 else 1 : Int32)), (7, .int ((r_X9_takes_71 text textL 120 0 (0, 0, (if (f_X9_isByte text textL (g_X9_skip_place text textL place) 45 45) = 0 then (g_X9_skip_place text textL place) else ((g_X9_skip_place text textL place) + 1) : Int32))).2.2)), (8, .int ((r_X9_takes_71 text textL 120 0 (0, 0, (if (f_X9_isByte text textL (g_X9_skip_place text textL place) 45 45) = 0 then (g_X9_skip_place text textL place) else ((g_X9_skip_place text textL place) + 1) : Int32))).1)), (9, .int ((r_X9_takes_71 text textL 120 0 (0, 0, (if (f_X9_isByte text textL (g_X9_skip_place text textL place) 45 45) = 0 then (g_X9_skip_place text textL place) else ((g_X9_skip_place text textL place) + 1) : Int32))).2.1))] []
      refine z_iload (pc := 122) C 6 dX9_takes_122 rfl ?_
      have K_165 : Z X G 11 0 0 (wMd G da dn dp dr ds dl dc dt dg now past states refused aside pile came pileL text textL (g_X9_skip_place text textL place) nargs) 165 [(0, .ref da), (1, .int k), (2, .int sort), (3, .int place), (4, .int (g_X9_skip_place text textL place)), (5, .int (f_X9_isByte text textL (g_X9_skip_place text textL place) 45 45)), (6, .int (if k = 0 then 1 else if place < (g_X9_skip_place text textL place) then 1 else if (f_X9_isByte text textL (g_X9_skip_place text textL place) 45 45) = 0 then 0 else 1 : Int32)), (7, .int ((r_X9_takes_71 text textL 120 0 (0, 0, (if (f_X9_isByte text textL (g_X9_skip_place text textL place) 45 45) = 0 then (g_X9_skip_place text textL place) else ((g_X9_skip_place text textL place) + 1) : Int32))).2.2)), (8, .int ((r_X9_takes_71 text textL 120 0 (0, 0, (if (f_X9_isByte text textL (g_X9_skip_place text textL place) 45 45) = 0 then (g_X9_skip_place text textL place) else ((g_X9_skip_place text textL place) + 1) : Int32))).1)), (9, .int ((r_X9_takes_71 text textL 120 0 (0, 0, (if (f_X9_isByte text textL (g_X9_skip_place text textL place) 45 45) = 0 then (g_X9_skip_place text textL place) else ((g_X9_skip_place text textL place) + 1) : Int32))).2.1))] [.int (if (if k = 0 then 1 else if place < (g_X9_skip_place text textL place) then 1 else if (f_X9_isByte text textL (g_X9_skip_place text textL place) 45 45) = 0 then 0 else 1 : Int32) = 0 then 0 else if (f_X9_in (((r_X9_takes_71 text textL 120 0 (0, 0, (if (f_X9_isByte text textL (g_X9_skip_place text textL place) 45 45) = 0 then (g_X9_skip_place text textL place) else ((g_X9_skip_place text textL place) + 1) : Int32))).2.1).toInt64) 1 3) = 0 then 0 else if (f_X9_isAs sort (if (f_X9_isByte text textL (g_X9_skip_place text textL place) 45 45) = 0 then ((r_X9_takes_71 text textL 120 0 (0, 0, (if (f_X9_isByte text textL (g_X9_skip_place text textL place) 45 45) = 0 then (g_X9_skip_place text textL place) else ((g_X9_skip_place text textL place) + 1) : Int32))).1) else (-((r_X9_takes_71 text textL 120 0 (0, 0, (if (f_X9_isByte text textL (g_X9_skip_place text textL place) 45 45) = 0 then (g_X9_skip_place text textL place) else ((g_X9_skip_place text textL place) + 1) : Int32))).1)) : Int32)) = 0 then 0 else 1 : Int32)] := by
        refine z_istore (pc := 165) [(10, _), (0, _), (1, _), (2, _), (3, _), (4, _), (5, _), (6, _), (7, _), (8, _), (9, _)] C dX9_takes_165 (by decide) rfl ?_
        refine z_aload_n (pc := 167) C 1 dX9_takes_167 rfl ?_
        refine z_get (pc := 168) C 0 11 dX9_takes_168 rfl rfl i_X9 (by decide) q_840 rfl ?_
        refine z_iload_n (pc := 171) C 2 dX9_takes_171 rfl ?_
        refine z_iload (pc := 172) C 6 dX9_takes_172 rfl ?_
        have K_185 : Z X G 11 0 0 (wMd G da dn dp dr ds dl dc dt dg now past states refused aside pile came pileL text textL (g_X9_skip_place text textL place) nargs) 185 [(0, .ref da), (1, .int k), (2, .int sort), (3, .int place), (4, .int (g_X9_skip_place text textL place)), (5, .int (f_X9_isByte text textL (g_X9_skip_place text textL place) 45 45)), (6, .int (if k = 0 then 1 else if place < (g_X9_skip_place text textL place) then 1 else if (f_X9_isByte text textL (g_X9_skip_place text textL place) 45 45) = 0 then 0 else 1 : Int32)), (7, .int ((r_X9_takes_71 text textL 120 0 (0, 0, (if (f_X9_isByte text textL (g_X9_skip_place text textL place) 45 45) = 0 then (g_X9_skip_place text textL place) else ((g_X9_skip_place text textL place) + 1) : Int32))).2.2)), (8, .int ((r_X9_takes_71 text textL 120 0 (0, 0, (if (f_X9_isByte text textL (g_X9_skip_place text textL place) 45 45) = 0 then (g_X9_skip_place text textL place) else ((g_X9_skip_place text textL place) + 1) : Int32))).1)), (9, .int ((r_X9_takes_71 text textL 120 0 (0, 0, (if (f_X9_isByte text textL (g_X9_skip_place text textL place) 45 45) = 0 then (g_X9_skip_place text textL place) else ((g_X9_skip_place text textL place) + 1) : Int32))).2.1)), (10, .int (if (if k = 0 then 1 else if place < (g_X9_skip_place text textL place) then 1 else if (f_X9_isByte text textL (g_X9_skip_place text textL place) 45 45) = 0 then 0 else 1 : Int32) = 0 then 0 else if (f_X9_in (((r_X9_takes_71 text textL 120 0 (0, 0, (if (f_X9_isByte text textL (g_X9_skip_place text textL place) 45 45) = 0 then (g_X9_skip_place text textL place) else ((g_X9_skip_place text textL place) + 1) : Int32))).2.1).toInt64) 1 3) = 0 then 0 else if (f_X9_isAs sort (if (f_X9_isByte text textL (g_X9_skip_place text textL place) 45 45) = 0 then ((r_X9_takes_71 text textL 120 0 (0, 0, (if (f_X9_isByte text textL (g_X9_skip_place text textL place) 45 45) = 0 then (g_X9_skip_place text textL place) else ((g_X9_skip_place text textL place) + 1) : Int32))).1) else (-((r_X9_takes_71 text textL 120 0 (0, 0, (if (f_X9_isByte text textL (g_X9_skip_place text textL place) 45 45) = 0 then (g_X9_skip_place text textL place) else ((g_X9_skip_place text textL place) + 1) : Int32))).1)) : Int32)) = 0 then 0 else 1 : Int32))] [.int (if (f_X9_isByte text textL (g_X9_skip_place text textL place) 45 45) = 0 then ((r_X9_takes_71 text textL 120 0 (0, 0, (if (f_X9_isByte text textL (g_X9_skip_place text textL place) 45 45) = 0 then (g_X9_skip_place text textL place) else ((g_X9_skip_place text textL place) + 1) : Int32))).1) else (-((r_X9_takes_71 text textL 120 0 (0, 0, (if (f_X9_isByte text textL (g_X9_skip_place text textL place) 45 45) = 0 then (g_X9_skip_place text textL place) else ((g_X9_skip_place text textL place) + 1) : Int32))).1)) : Int32), .int k, .ref dg] := by
          refine z_iast (pc := 185) (wMd G da dn dp dr ds dl dc dt dg now past states refused aside pile came pileL text textL _ _) C 8 dX9_takes_185 rfl (hk) rfl ?_
          refine z_aload_n (pc := 186) C 0 dX9_takes_186 rfl ?_
          refine z_iload (pc := 187) C 10 dX9_takes_187 rfl ?_
          have K_199 : Z X G 11 0 0 (wMd G da dn dp dr ds dl dc dt dg now past states refused aside pile came pileL text textL (g_X9_skip_place text textL place) (upd nargs k.toNatClampNeg (if (f_X9_isByte text textL (g_X9_skip_place text textL place) 45 45) = 0 then ((r_X9_takes_71 text textL 120 0 (0, 0, (if (f_X9_isByte text textL (g_X9_skip_place text textL place) 45 45) = 0 then (g_X9_skip_place text textL place) else ((g_X9_skip_place text textL place) + 1) : Int32))).1) else (-((r_X9_takes_71 text textL 120 0 (0, 0, (if (f_X9_isByte text textL (g_X9_skip_place text textL place) 45 45) = 0 then (g_X9_skip_place text textL place) else ((g_X9_skip_place text textL place) + 1) : Int32))).1)) : Int32))) 199 [(0, .ref da), (1, .int k), (2, .int sort), (3, .int place), (4, .int (g_X9_skip_place text textL place)), (5, .int (f_X9_isByte text textL (g_X9_skip_place text textL place) 45 45)), (6, .int (if k = 0 then 1 else if place < (g_X9_skip_place text textL place) then 1 else if (f_X9_isByte text textL (g_X9_skip_place text textL place) 45 45) = 0 then 0 else 1 : Int32)), (7, .int ((r_X9_takes_71 text textL 120 0 (0, 0, (if (f_X9_isByte text textL (g_X9_skip_place text textL place) 45 45) = 0 then (g_X9_skip_place text textL place) else ((g_X9_skip_place text textL place) + 1) : Int32))).2.2)), (8, .int ((r_X9_takes_71 text textL 120 0 (0, 0, (if (f_X9_isByte text textL (g_X9_skip_place text textL place) 45 45) = 0 then (g_X9_skip_place text textL place) else ((g_X9_skip_place text textL place) + 1) : Int32))).1)), (9, .int ((r_X9_takes_71 text textL 120 0 (0, 0, (if (f_X9_isByte text textL (g_X9_skip_place text textL place) 45 45) = 0 then (g_X9_skip_place text textL place) else ((g_X9_skip_place text textL place) + 1) : Int32))).2.1)), (10, .int (if (if k = 0 then 1 else if place < (g_X9_skip_place text textL place) then 1 else if (f_X9_isByte text textL (g_X9_skip_place text textL place) 45 45) = 0 then 0 else 1 : Int32) = 0 then 0 else if (f_X9_in (((r_X9_takes_71 text textL 120 0 (0, 0, (if (f_X9_isByte text textL (g_X9_skip_place text textL place) 45 45) = 0 then (g_X9_skip_place text textL place) else ((g_X9_skip_place text textL place) + 1) : Int32))).2.1).toInt64) 1 3) = 0 then 0 else if (f_X9_isAs sort (if (f_X9_isByte text textL (g_X9_skip_place text textL place) 45 45) = 0 then ((r_X9_takes_71 text textL 120 0 (0, 0, (if (f_X9_isByte text textL (g_X9_skip_place text textL place) 45 45) = 0 then (g_X9_skip_place text textL place) else ((g_X9_skip_place text textL place) + 1) : Int32))).1) else (-((r_X9_takes_71 text textL 120 0 (0, 0, (if (f_X9_isByte text textL (g_X9_skip_place text textL place) 45 45) = 0 then (g_X9_skip_place text textL place) else ((g_X9_skip_place text textL place) + 1) : Int32))).1)) : Int32)) = 0 then 0 else 1 : Int32))] [.int (if (if (if k = 0 then 1 else if place < (g_X9_skip_place text textL place) then 1 else if (f_X9_isByte text textL (g_X9_skip_place text textL place) 45 45) = 0 then 0 else 1 : Int32) = 0 then 0 else if (f_X9_in (((r_X9_takes_71 text textL 120 0 (0, 0, (if (f_X9_isByte text textL (g_X9_skip_place text textL place) 45 45) = 0 then (g_X9_skip_place text textL place) else ((g_X9_skip_place text textL place) + 1) : Int32))).2.1).toInt64) 1 3) = 0 then 0 else if (f_X9_isAs sort (if (f_X9_isByte text textL (g_X9_skip_place text textL place) 45 45) = 0 then ((r_X9_takes_71 text textL 120 0 (0, 0, (if (f_X9_isByte text textL (g_X9_skip_place text textL place) 45 45) = 0 then (g_X9_skip_place text textL place) else ((g_X9_skip_place text textL place) + 1) : Int32))).1) else (-((r_X9_takes_71 text textL 120 0 (0, 0, (if (f_X9_isByte text textL (g_X9_skip_place text textL place) 45 45) = 0 then (g_X9_skip_place text textL place) else ((g_X9_skip_place text textL place) + 1) : Int32))).1)) : Int32)) = 0 then 0 else 1 : Int32) = 0 then (g_X9_skip_place text textL place) else ((r_X9_takes_71 text textL 120 0 (0, 0, (if (f_X9_isByte text textL (g_X9_skip_place text textL place) 45 45) = 0 then (g_X9_skip_place text textL place) else ((g_X9_skip_place text textL place) + 1) : Int32))).2.2) : Int32), .ref da] := by
            refine z_put (pc := 199) (wMd G da dn dp dr ds dl dc dt dg now past states refused aside pile came pileL text textL _ _) C 0 10 dX9_takes_199 rfl rfl i_X9 tyX9_ok nmX9 (by decide) q_839 rfl rfl rfl rfl (Nat.le_of_ble_eq_true rfl) rfl ?_
            refine z_iload (pc := 202) C 10 dX9_takes_202 rfl ?_
            exact z_zret (pc := 204) C E dX9_takes_204 (by (repeat' split) <;> rfl) (pI.mk rfl rfl)
          refine z_if_eq (pc := 189) 197 C dX9_takes_189 (by decide) (fun c_189 => ?_) (fun c_189 => ?_)
          · skip
            refine z_iload (pc := 197) C 4 dX9_takes_197 rfl ?_
            refine z_lv (lv' := [(0, _), (1, _), (2, _), (3, _), (4, _), (5, _), (6, _), (7, _), (8, _), (9, _), (10, _)]) [0, 1, 2, 3, 4, 5, 6, 7, 8, 9, 10] rfl ?_
            exact z_eq rfl rfl (by simp only [if_pos c_189]) K_199
          · skip
            refine z_iload (pc := 192) C 7 dX9_takes_192 rfl ?_
            refine z_goto (pc := 194) 199 C dX9_takes_194 (by decide) ?_
            refine z_lv (lv' := [(0, _), (1, _), (2, _), (3, _), (4, _), (5, _), (6, _), (7, _), (8, _), (9, _), (10, _)]) [0, 1, 2, 3, 4, 5, 6, 7, 8, 9, 10] rfl ?_
            exact z_eq rfl rfl (by simp only [if_neg c_189]) K_199
        refine z_if_eq (pc := 174) 183 C dX9_takes_174 (by decide) (fun c_174 => ?_) (fun c_174 => ?_)
        · skip
          refine z_iload (pc := 183) C 9 dX9_takes_183 rfl ?_
          refine z_lv (lv' := [(0, _), (1, _), (2, _), (3, _), (4, _), (5, _), (6, _), (7, _), (8, _), (9, _), (10, _)]) [1, 2, 3, 4, 5, 6, 7, 8, 9, 10, 0] rfl ?_
          exact z_eq rfl rfl (by simp only [if_pos c_174]) K_185
        · skip
          refine z_iload (pc := 177) C 9 dX9_takes_177 rfl ?_
          refine z_ineg (pc := 179) C dX9_takes_179 ?_
          refine z_goto (pc := 180) 185 C dX9_takes_180 (by decide) ?_
          refine z_lv (lv' := [(0, _), (1, _), (2, _), (3, _), (4, _), (5, _), (6, _), (7, _), (8, _), (9, _), (10, _)]) [1, 2, 3, 4, 5, 6, 7, 8, 9, 10, 0] rfl ?_
          exact z_eq rfl rfl (by simp only [if_neg c_174]) K_185
      refine z_if_eq (pc := 124) 164 C dX9_takes_124 (by decide) (fun c_124 => ?_) (fun c_124 => ?_)
      · skip
        refine z_iconst (pc := 164) (v := 0) C dX9_takes_164 (by decide) ?_
        refine z_lv (lv' := [(0, _), (1, _), (2, _), (3, _), (4, _), (5, _), (6, _), (7, _), (8, _), (9, _)]) [0, 1, 2, 3, 4, 5, 6, 7, 8, 9] rfl ?_
        exact z_eq rfl rfl (by simp only [if_pos c_124]) K_165
      · skip
        refine z_iload (pc := 127) C 9 dX9_takes_127 rfl ?_
        refine z_i2l (pc := 129) C dX9_takes_129 ?_
        refine z_lconst (pc := 130) (v := 1) C dX9_takes_130 (by decide) ?_
        refine z_ldc2_w (pc := 131) C q_1151 dX9_takes_131 ?_
        refine z_callS (pc := 134) C (c_X9_in) [] z00 mS_X9_in q_875 dX9_takes_134 rfl rfl rfl rfl (Nat.le_of_ble_eq_true rfl) (by decide) (pI.stay rfl ?_)
        refine z_if_eq (pc := 137) 164 C dX9_takes_137 (by decide) (fun c_137 => ?_) (fun c_137 => ?_)
        · skip
          refine z_iconst (pc := 164) (v := 0) C dX9_takes_164 (by decide) ?_
          refine z_lv (lv' := [(0, _), (1, _), (2, _), (3, _), (4, _), (5, _), (6, _), (7, _), (8, _), (9, _)]) [0, 1, 2, 3, 4, 5, 6, 7, 8, 9] rfl ?_
          exact z_eq rfl rfl (by simp only [if_neg c_124, if_pos c_137]) K_165
        · skip
          refine z_iload_n (pc := 140) C 2 dX9_takes_140 rfl ?_
          refine z_iload (pc := 141) C 5 dX9_takes_141 rfl ?_
          have K_154 : Z X G 11 0 0 (wMd G da dn dp dr ds dl dc dt dg now past states refused aside pile came pileL text textL (g_X9_skip_place text textL place) nargs) 154 [(0, .ref da), (1, .int k), (2, .int sort), (3, .int place), (4, .int (g_X9_skip_place text textL place)), (5, .int (f_X9_isByte text textL (g_X9_skip_place text textL place) 45 45)), (6, .int (if k = 0 then 1 else if place < (g_X9_skip_place text textL place) then 1 else if (f_X9_isByte text textL (g_X9_skip_place text textL place) 45 45) = 0 then 0 else 1 : Int32)), (7, .int ((r_X9_takes_71 text textL 120 0 (0, 0, (if (f_X9_isByte text textL (g_X9_skip_place text textL place) 45 45) = 0 then (g_X9_skip_place text textL place) else ((g_X9_skip_place text textL place) + 1) : Int32))).2.2)), (8, .int ((r_X9_takes_71 text textL 120 0 (0, 0, (if (f_X9_isByte text textL (g_X9_skip_place text textL place) 45 45) = 0 then (g_X9_skip_place text textL place) else ((g_X9_skip_place text textL place) + 1) : Int32))).1)), (9, .int ((r_X9_takes_71 text textL 120 0 (0, 0, (if (f_X9_isByte text textL (g_X9_skip_place text textL place) 45 45) = 0 then (g_X9_skip_place text textL place) else ((g_X9_skip_place text textL place) + 1) : Int32))).2.1))] [.int (if (f_X9_isByte text textL (g_X9_skip_place text textL place) 45 45) = 0 then ((r_X9_takes_71 text textL 120 0 (0, 0, (if (f_X9_isByte text textL (g_X9_skip_place text textL place) 45 45) = 0 then (g_X9_skip_place text textL place) else ((g_X9_skip_place text textL place) + 1) : Int32))).1) else (-((r_X9_takes_71 text textL 120 0 (0, 0, (if (f_X9_isByte text textL (g_X9_skip_place text textL place) 45 45) = 0 then (g_X9_skip_place text textL place) else ((g_X9_skip_place text textL place) + 1) : Int32))).1)) : Int32), .int sort] := by
            refine z_callS (pc := 154) C (c_X9_isAs) [] z00 mS_X9_isAs q_1152 dX9_takes_154 rfl rfl rfl rfl (Nat.le_of_ble_eq_true rfl) (by decide) (pI.stay rfl ?_)
            refine z_if_eq (pc := 157) 164 C dX9_takes_157 (by decide) (fun c_157 => ?_) (fun c_157 => ?_)
            · skip
              refine z_iconst (pc := 164) (v := 0) C dX9_takes_164 (by decide) ?_
              refine z_lv (lv' := [(0, _), (1, _), (2, _), (3, _), (4, _), (5, _), (6, _), (7, _), (8, _), (9, _)]) [0, 1, 2, 3, 4, 5, 6, 7, 8, 9] rfl ?_
              exact z_eq rfl rfl (by simp only [if_neg c_124, if_neg c_137, if_pos c_157]) K_165
            · skip
              refine z_iconst (pc := 160) (v := 1) C dX9_takes_160 (by decide) ?_
              refine z_goto (pc := 161) 165 C dX9_takes_161 (by decide) ?_
              refine z_lv (lv' := [(0, _), (1, _), (2, _), (3, _), (4, _), (5, _), (6, _), (7, _), (8, _), (9, _)]) [0, 1, 2, 3, 4, 5, 6, 7, 8, 9] rfl ?_
              exact z_eq rfl rfl (by simp only [if_neg c_124, if_neg c_137, if_neg c_157]) K_165
          refine z_if_eq (pc := 143) 152 C dX9_takes_143 (by decide) (fun c_143 => ?_) (fun c_143 => ?_)
          · skip
            refine z_iload (pc := 152) C 8 dX9_takes_152 rfl ?_
            refine z_lv (lv' := [(0, _), (1, _), (2, _), (3, _), (4, _), (5, _), (6, _), (7, _), (8, _), (9, _)]) [0, 1, 2, 3, 4, 5, 6, 7, 8, 9] rfl ?_
            exact z_eq rfl rfl (by simp only [if_pos c_143]) K_154
          · skip
            refine z_iload (pc := 146) C 8 dX9_takes_146 rfl ?_
            refine z_ineg (pc := 148) C dX9_takes_148 ?_
            refine z_goto (pc := 149) 154 C dX9_takes_149 (by decide) ?_
            refine z_lv (lv' := [(0, _), (1, _), (2, _), (3, _), (4, _), (5, _), (6, _), (7, _), (8, _), (9, _)]) [0, 1, 2, 3, 4, 5, 6, 7, 8, 9] rfl ?_
            exact z_eq rfl rfl (by simp only [if_neg c_143]) K_154
    refine z_if_eq (pc := 51) 61 C dX9_takes_51 (by decide) (fun c_51 => ?_) (fun c_51 => ?_)
    · skip
      refine z_iload (pc := 61) C 5 dX9_takes_61 rfl ?_
      refine z_lv (lv' := [(0, _), (1, _), (2, _), (3, _), (4, _), (5, _), (6, _)]) [1, 2, 3, 4, 5, 6, 0] rfl ?_
      exact z_eq rfl rfl (by simp only [if_pos c_51]) K_63
    · skip
      refine z_iload (pc := 54) C 5 dX9_takes_54 rfl ?_
      refine z_iconst (pc := 56) (v := 1) C dX9_takes_56 (by decide) ?_
      refine z_iadd (pc := 57) C dX9_takes_57 ?_
      refine z_goto (pc := 58) 63 C dX9_takes_58 (by decide) ?_
      refine z_lv (lv' := [(0, _), (1, _), (2, _), (3, _), (4, _), (5, _), (6, _)]) [1, 2, 3, 4, 5, 6, 0] rfl ?_
      exact z_eq rfl rfl (by simp only [if_neg c_51]) K_63
  refine z_if_eq (pc := 28) 42 C dX9_takes_28 (by decide) (fun c_28 => ?_) (fun c_28 => ?_)
  · skip
    refine z_iconst (pc := 42) (v := 1) C dX9_takes_42 (by decide) ?_
    refine z_goto (pc := 43) 47 C dX9_takes_43 (by decide) ?_
    refine z_lv (lv' := [(0, _), (1, _), (2, _), (3, _), (4, _), (5, _)]) [3, 4, 5, 2, 1, 0] rfl ?_
    exact z_eq rfl rfl (by simp only [if_pos c_28]) K_47
  · skip
    refine z_iload (pc := 31) C 1 dX9_takes_31 rfl ?_
    refine z_iload_n (pc := 33) C 2 dX9_takes_33 rfl ?_
    refine z_icmp_gt (pc := 34) 42 C dX9_takes_34 (by decide) (fun c_34 => ?_) (fun c_34 => ?_)
    · skip
      refine z_iconst (pc := 42) (v := 1) C dX9_takes_42 (by decide) ?_
      refine z_goto (pc := 43) 47 C dX9_takes_43 (by decide) ?_
      refine z_lv (lv' := [(0, _), (1, _), (2, _), (3, _), (4, _), (5, _)]) [3, 4, 5, 2, 1, 0] rfl ?_
      exact z_eq rfl rfl (by simp only [if_neg c_28, if_pos c_34]) K_47
    · skip
      refine z_iload (pc := 37) C 0 dX9_takes_37 rfl ?_
      refine z_if_eq (pc := 39) 46 C dX9_takes_39 (by decide) (fun c_39 => ?_) (fun c_39 => ?_)
      · skip
        refine z_iconst (pc := 46) (v := 0) C dX9_takes_46 (by decide) ?_
        refine z_lv (lv' := [(0, _), (1, _), (2, _), (3, _), (4, _), (5, _)]) [3, 4, 5, 2, 1, 0] rfl ?_
        exact z_eq rfl rfl (by simp only [if_neg c_28, if_neg c_34, if_pos c_39]) K_47
      · skip
        refine z_iconst (pc := 42) (v := 1) C dX9_takes_42 (by decide) ?_
        refine z_goto (pc := 43) 47 C dX9_takes_43 (by decide) ?_
        refine z_lv (lv' := [(0, _), (1, _), (2, _), (3, _), (4, _), (5, _)]) [3, 4, 5, 2, 1, 0] rfl ?_
        exact z_eq rfl rfl (by simp only [if_neg c_28, if_neg c_34, if_neg c_39]) K_47
theorem nb_X9_takes {text : Nat → Int32} {textL : Int32} {place : Int32} {k : Int32} {sort : Int32} : narrow .boolean (.int (f_X9_takes text textL place k sort)) = .int (f_X9_takes text textL place k sort) := by unfold f_X9_takes; (repeat' split) <;> first | rfl

theorem tP_tk0 {text : Nat → Int32} {len : Int32} : ∀ (n i : Nat) (z : Int32 × Int32 × Int32), tP len z.2.2 → tP len (r_X9_takes_71 text len n i z).2.2
  | 0, i, z, h => h
  | n + 1, i, z, h => by
    unfold r_X9_takes_71
    split
    · exact h
    · rename_i q; exact tP_tk0 n (i + 1) _ (by dsimp only; exact (tP_up h (ib_lt q)).1)
theorem tP_if {c : Prop} [Decidable c] {len a b : Int32} (ha : tP len a) (hb : tP len b) : tP len (if c then a else b) := by
  split
  · exact ha
  · exact hb
theorem tP_tk {text : Nat → Int32} {len place k sort : Int32} (h : tP len place) : tP len (g_X9_takes_place text len place k sort) := by
  unfold g_X9_takes_place
  exact tP_if (tP_ms h) (tP_tk0 _ _ _ (tP_mn (tP_ms h)))
theorem many_ok {c : Int32} (h : ¬ f_X9_manyOf c = -1) : f_X9_manyOf c = nI (f_X9_manyOf c).toNatClampNeg ∧ (f_X9_manyOf c).toNatClampNeg ≤ 9 := by
  unfold f_X9_manyOf at h ⊢
  (repeat' split) <;> first | (refine ⟨by decide, by decide⟩) | (exfalso; simp_all)
theorem rd_lt {len p v : Int32} (h : ¬ f_X9_manyOf (if len ≤ p then -1 else v) = -1) : ¬ len ≤ p := fun q => h (by rw [if_pos q]; decide)

def r_X9_reads_72 (text : Nat → Int32) (textL : Int32) (place : Int32) : Nat → Nat → (Int32 × Int32 × (Nat → Int32)) → Int32 × Int32 × (Nat → Int32)
  | 0, i_72, z_72 => if (f_X9_isByte text textL (g_X9_skip_place text textL z_72.2.1) 59 59) = 0 then ((-1), g_X9_skip_place text textL z_72.2.1, z_72.2.2) else ((if textL ≤ (g_X9_skip_place text textL place) then (-1) else (text (g_X9_skip_place text textL place).toNatClampNeg) : Int32), (g_X9_skip_place text textL z_72.2.1) + 1, z_72.2.2)
  | n_72 + 1, i_72, z_72 => if (f_X9_takes text textL z_72.2.1 (nI i_72) (z_72.1 - z_72.1 / 10 * 10)) = 0 then ((-1), g_X9_takes_place text textL z_72.2.1 (nI i_72) (z_72.1 - z_72.1 / 10 * 10), g_X9_takes_nargs text textL z_72.2.1 z_72.2.2 (nI i_72)) else r_X9_reads_72 text textL place n_72 (i_72 + 1) (z_72.1 / 10, g_X9_takes_place text textL z_72.2.1 (nI i_72) (z_72.1 - z_72.1 / 10 * 10), g_X9_takes_nargs text textL z_72.2.1 z_72.2.2 (nI i_72))
def f_X9_reads (text : Nat → Int32) (textL : Int32) (place : Int32) (nargs : Nat → Int32) (openingsThen : Int32) : Int32 := if (f_X9_manyOf (if textL ≤ (g_X9_skip_place text textL place) then (-1) else (text (g_X9_skip_place text textL place).toNatClampNeg) : Int32)) = (-1) then (-1) else if (if textL ≤ (g_X9_skip_place text textL place) then (-1) else (text (g_X9_skip_place text textL place).toNatClampNeg) : Int32) = 111 then if openingsThen = 4 then (-1) else (r_X9_reads_72 text textL place ((f_X9_manyOf (if textL ≤ (g_X9_skip_place text textL place) then (-1) else (text (g_X9_skip_place text textL place).toNatClampNeg) : Int32)).toNatClampNeg) 0 (f_X9_sortsOf (if textL ≤ (g_X9_skip_place text textL place) then (-1) else (text (g_X9_skip_place text textL place).toNatClampNeg) : Int32), (g_X9_skip_place text textL place) + 1, nargs)).1 else (r_X9_reads_72 text textL place ((f_X9_manyOf (if textL ≤ (g_X9_skip_place text textL place) then (-1) else (text (g_X9_skip_place text textL place).toNatClampNeg) : Int32)).toNatClampNeg) 0 (f_X9_sortsOf (if textL ≤ (g_X9_skip_place text textL place) then (-1) else (text (g_X9_skip_place text textL place).toNatClampNeg) : Int32), (g_X9_skip_place text textL place) + 1, nargs)).1
def g_X9_reads_place (text : Nat → Int32) (textL : Int32) (place : Int32) (nargs : Nat → Int32) (openingsThen : Int32) : Int32 := if (f_X9_manyOf (if textL ≤ (g_X9_skip_place text textL place) then (-1) else (text (g_X9_skip_place text textL place).toNatClampNeg) : Int32)) = (-1) then g_X9_skip_place text textL place else if (if textL ≤ (g_X9_skip_place text textL place) then (-1) else (text (g_X9_skip_place text textL place).toNatClampNeg) : Int32) = 111 then if openingsThen = 4 then g_X9_skip_place text textL place else (r_X9_reads_72 text textL place ((f_X9_manyOf (if textL ≤ (g_X9_skip_place text textL place) then (-1) else (text (g_X9_skip_place text textL place).toNatClampNeg) : Int32)).toNatClampNeg) 0 (f_X9_sortsOf (if textL ≤ (g_X9_skip_place text textL place) then (-1) else (text (g_X9_skip_place text textL place).toNatClampNeg) : Int32), (g_X9_skip_place text textL place) + 1, nargs)).2.1 else (r_X9_reads_72 text textL place ((f_X9_manyOf (if textL ≤ (g_X9_skip_place text textL place) then (-1) else (text (g_X9_skip_place text textL place).toNatClampNeg) : Int32)).toNatClampNeg) 0 (f_X9_sortsOf (if textL ≤ (g_X9_skip_place text textL place) then (-1) else (text (g_X9_skip_place text textL place).toNatClampNeg) : Int32), (g_X9_skip_place text textL place) + 1, nargs)).2.1
def g_X9_reads_nargs (text : Nat → Int32) (textL : Int32) (place : Int32) (nargs : Nat → Int32) (openingsThen : Int32) : Nat → Int32 := if (f_X9_manyOf (if textL ≤ (g_X9_skip_place text textL place) then (-1) else (text (g_X9_skip_place text textL place).toNatClampNeg) : Int32)) = (-1) then nargs else if (if textL ≤ (g_X9_skip_place text textL place) then (-1) else (text (g_X9_skip_place text textL place).toNatClampNeg) : Int32) = 111 then if openingsThen = 4 then nargs else (r_X9_reads_72 text textL place ((f_X9_manyOf (if textL ≤ (g_X9_skip_place text textL place) then (-1) else (text (g_X9_skip_place text textL place).toNatClampNeg) : Int32)).toNatClampNeg) 0 (f_X9_sortsOf (if textL ≤ (g_X9_skip_place text textL place) then (-1) else (text (g_X9_skip_place text textL place).toNatClampNeg) : Int32), (g_X9_skip_place text textL place) + 1, nargs)).2.2 else (r_X9_reads_72 text textL place ((f_X9_manyOf (if textL ≤ (g_X9_skip_place text textL place) then (-1) else (text (g_X9_skip_place text textL place).toNatClampNeg) : Int32)).toNatClampNeg) 0 (f_X9_sortsOf (if textL ≤ (g_X9_skip_place text textL place) then (-1) else (text (g_X9_skip_place text textL place).toNatClampNeg) : Int32), (g_X9_skip_place text textL place) + 1, nargs)).2.2
set_option maxRecDepth 100000 in
theorem c_X9_reads {l : Launch} {G : zG} {da dn dp dr ds dl dc dt dg : Nat} {now : Nat → Int32} {past : Nat → Int32} {states : Int32} {refused : Nat → Int32} {aside : Nat → Int32} {pile : Nat → Int32} {came : Nat → Int32} {pileL : Int32} {text : Nat → Int32} {textL : Int32} {place : Int32} {nargs : Nat → Int32} {openingsThen : Int32} (hp : tP textL place) : Ct l G yX9_reads cX9_reads 7 (Option.some FieldType.int) 3 78 [.ref da, .int openingsThen] (wMd G da dn dp dr ds dl dc dt dg now past states refused aside pile came pileL text textL place nargs) (pI (f_X9_reads text textL place nargs openingsThen) (wMd G da dn dp dr ds dl dc dt dg now past states refused aside pile came pileL text textL (g_X9_reads_place text textL place nargs openingsThen) (g_X9_reads_nargs text textL place nargs openingsThen))) := by
  refine Ct.of (plainFor_of_name (by decide)) (Nat.le_of_ble_eq_true rfl) (pI.ad ad_Md) (fun X C E => ?_)
  show Z X G 7 0 0 _ 0 [(0, .ref da), (1, .int openingsThen)] []
  refine z_aload_n (pc := 0) C 0 dX9_reads_0 rfl ?_
  refine z_callV (pc := 1) C (c_X9_skip (by exact hp)) [0, 1, 2, 3, 4, 5, 6, 7, 8] z00 mV_X9_skip q_1130 dX9_reads_1 rfl rfl rfl 0 rfl rfl rfl rfl (Nat.le_of_ble_eq_true rfl) (by decide) (pV.go (ws' := wMd G da dn dp dr ds dl dc dt dg now past states refused aside pile came pileL text textL _ nargs) rfl ?_)
  refine z_aload_n (pc := 4) C 0 dX9_reads_4 rfl ?_
  refine z_get (pc := 5) C 0 10 dX9_reads_5 rfl rfl i_X9 (by decide) q_839 rfl ?_
  refine z_istore_n (pc := 8) [(2, _), (0, _), (1, _)] C dX9_reads_8 rfl (by decide) rfl ?_
  refine z_iload_n (pc := 9) C 0 dX9_reads_9 rfl ?_
  refine z_aload_n (pc := 10) C 1 dX9_reads_10 rfl ?_
  refine z_get (pc := 11) C 0 9 dX9_reads_11 rfl rfl i_X9 (by decide) q_838 rfl ?_
  have K_27 : Z X G 7 0 0 (wMd G da dn dp dr ds dl dc dt dg now past states refused aside pile came pileL text textL (g_X9_skip_place text textL place) nargs) 27 [(0, .ref da), (1, .int openingsThen), (2, .int (g_X9_skip_place text textL place))] [.int (if textL ≤ (g_X9_skip_place text textL place) then (-1) else (text (g_X9_skip_place text textL place).toNatClampNeg) : Int32)] := by
    refine z_istore_n (pc := 27) [(3, _), (0, _), (1, _), (2, _)] C dX9_reads_27 rfl (by decide) rfl ?_
    refine z_iload_n (pc := 28) C 0 dX9_reads_28 rfl ?_
    refine z_callS (pc := 29) C (c_X9_manyOf) [] z00 mS_X9_manyOf q_1134 dX9_reads_29 rfl rfl rfl rfl (Nat.le_of_ble_eq_true rfl) (by decide) (pI.stay rfl ?_)
    refine z_istore (pc := 32) [(4, _), (3, _), (0, _), (1, _), (2, _)] C dX9_reads_32 (by decide) rfl ?_
    refine z_iload (pc := 34) C 0 dX9_reads_34 rfl ?_
    refine z_iconst (pc := 36) (v := (-1)) C dX9_reads_36 (by decide) ?_
    refine z_icmp_eq (pc := 37) 51 C dX9_reads_37 (by decide) (fun c_37 => ?_) (fun c_37 => ?_)
    · skip
      refine z_iconst (pc := 51) (v := (-1)) C dX9_reads_51 (by decide) ?_
      exact z_iret (pc := 52) C E dX9_reads_52 (pI.mk (by simp only [f_X9_reads, if_pos c_37]) (by simp only [g_X9_reads_place, g_X9_reads_nargs, if_pos c_37]))
    · skip
      refine z_iload_n (pc := 40) C 1 dX9_reads_40 rfl ?_
      refine z_bipush (pc := 41) (v := 111) C dX9_reads_41 (by decide) ?_
      refine z_icmp_ne (pc := 43) 53 C dX9_reads_43 (by decide) (fun c_43 => ?_) (fun c_43 => ?_)
      · skip
        refine z_aload_n (pc := 53) C 2 dX9_reads_53 rfl ?_
        refine z_dup (pc := 54) C dX9_reads_54 rfl ?_
        refine z_get (pc := 55) C 0 10 dX9_reads_55 rfl rfl i_X9 (by decide) q_839 rfl ?_
        refine z_iconst (pc := 58) (v := 1) C dX9_reads_58 (by decide) ?_
        refine z_iadd (pc := 59) C dX9_reads_59 ?_
        refine z_put (pc := 60) (wMd G da dn dp dr ds dl dc dt dg now past states refused aside pile came pileL text textL _ nargs) C 0 10 dX9_reads_60 rfl rfl i_X9 tyX9_ok nmX9 (by decide) q_839 rfl rfl rfl rfl (Nat.le_of_ble_eq_true rfl) rfl ?_
        refine z_iload_n (pc := 63) C 1 dX9_reads_63 rfl ?_
        refine z_callS (pc := 64) C (c_X9_sortsOf) [] z00 mS_X9_sortsOf q_1137 dX9_reads_64 rfl rfl rfl rfl (Nat.le_of_ble_eq_true rfl) (by decide) (pI.stay rfl ?_)
        refine z_istore (pc := 67) [(5, _), (4, _), (3, _), (0, _), (1, _), (2, _)] C dX9_reads_67 (by decide) rfl ?_
        refine z_iconst (pc := 69) (v := 0) C dX9_reads_69 (by decide) ?_
        refine z_istore (pc := 70) [(6, _), (5, _), (4, _), (3, _), (0, _), (1, _), (2, _)] C dX9_reads_70 (by decide) rfl ?_
        have hMn := many_ok c_37
        refine z_lv (lv' := [(0, _), (1, _), (2, _), (3, _), (4, _), (5, _), (6, _)]) [4, 5, 6, 3, 2, 1, 0] rfl ?_
        have L_72 : ∀ (n_72 i_72 : Nat) (z_72 : Int32 × Int32 × (Nat → Int32)), n_72 + i_72 = (f_X9_manyOf (if textL ≤ (g_X9_skip_place text textL place) then (-1) else (text (g_X9_skip_place text textL place).toNatClampNeg) : Int32)).toNatClampNeg → tP textL z_72.2.1 → r_X9_reads_72 text textL place n_72 i_72 z_72 = r_X9_reads_72 text textL place ((f_X9_manyOf (if textL ≤ (g_X9_skip_place text textL place) then (-1) else (text (g_X9_skip_place text textL place).toNatClampNeg) : Int32)).toNatClampNeg) 0 (f_X9_sortsOf (if textL ≤ (g_X9_skip_place text textL place) then (-1) else (text (g_X9_skip_place text textL place).toNatClampNeg) : Int32), (g_X9_skip_place text textL place) + 1, nargs) → Z X G 7 0 0 (wMd G da dn dp dr ds dl dc dt dg now past states refused aside pile came pileL text textL z_72.2.1 z_72.2.2) 72 [(0, .ref da), (1, .int openingsThen), (2, .int (g_X9_skip_place text textL place)), (3, .int (if textL ≤ (g_X9_skip_place text textL place) then (-1) else (text (g_X9_skip_place text textL place).toNatClampNeg) : Int32)), (4, .int (f_X9_manyOf (if textL ≤ (g_X9_skip_place text textL place) then (-1) else (text (g_X9_skip_place text textL place).toNatClampNeg) : Int32))), (5, .int z_72.1), (6, .int (nI i_72))] [] := by
          intro n_72
          induction n_72 with
          | zero =>
            intro i_72 z_72 hn_72 hI_72 hF_72
            obtain rfl : i_72 = (f_X9_manyOf (if textL ≤ (g_X9_skip_place text textL place) then (-1) else (text (g_X9_skip_place text textL place).toNatClampNeg) : Int32)).toNatClampNeg := by omega
            refine z_iload (pc := 72) C 6 dX9_reads_72 rfl ?_
            refine z_iload (pc := 74) C 4 dX9_reads_74 rfl ?_
            refine z_icmp_ge (pc := 76) 108 C dX9_reads_76 (by decide) (fun c_76 => ?_) (fun c_76 => ?_)
            · skip
              refine z_aload_n (pc := 108) C 0 dX9_reads_108 rfl ?_
              refine z_callV (pc := 109) C (c_X9_skip (by exact hI_72)) [0, 1, 2, 3, 4, 5, 6, 7, 8] z00 mV_X9_skip q_1130 dX9_reads_109 rfl rfl rfl 0 rfl rfl rfl rfl (Nat.le_of_ble_eq_true rfl) (by decide) (pV.go (ws' := wMd G da dn dp dr ds dl dc dt dg now past states refused aside pile came pileL text textL _ _) rfl ?_)
              refine z_aload_n (pc := 112) C 0 dX9_reads_112 rfl ?_
              refine z_aload_n (pc := 113) C 0 dX9_reads_113 rfl ?_
              refine z_get (pc := 114) C 0 10 dX9_reads_114 rfl rfl i_X9 (by decide) q_839 rfl ?_
              refine z_bipush (pc := 117) (v := 59) C dX9_reads_117 (by decide) ?_
              refine z_bipush (pc := 119) (v := 59) C dX9_reads_119 (by decide) ?_
              refine z_callV (pc := 121) C (c_X9_isByte (by exact hp.1) (by exact (tP_ms hI_72).2.1)) [0, 1, 2, 3, 4, 5, 6, 7, 8] z00 mV_X9_isByte q_1147 dX9_reads_121 rfl rfl rfl 0 rfl rfl rfl rfl (Nat.le_of_ble_eq_true rfl) (by decide) (pI.stay rfl ?_)
              refine z_if_ne (pc := 124) 129 C dX9_reads_124 (by decide) (fun c_124 => ?_) (fun c_124 => ?_)
              · skip
                refine z_aload_n (pc := 129) C 0 dX9_reads_129 rfl ?_
                refine z_dup (pc := 130) C dX9_reads_130 rfl ?_
                refine z_get (pc := 131) C 0 10 dX9_reads_131 rfl rfl i_X9 (by decide) q_839 rfl ?_
                refine z_iconst (pc := 134) (v := 1) C dX9_reads_134 (by decide) ?_
                refine z_iadd (pc := 135) C dX9_reads_135 ?_
                refine z_put (pc := 136) (wMd G da dn dp dr ds dl dc dt dg now past states refused aside pile came pileL text textL _ _) C 0 10 dX9_reads_136 rfl rfl i_X9 tyX9_ok nmX9 (by decide) q_839 rfl rfl rfl rfl (Nat.le_of_ble_eq_true rfl) rfl ?_
                refine z_iload_n (pc := 139) C 3 dX9_reads_139 rfl ?_
                exact z_iret (pc := 140) C E dX9_reads_140 (pI.mk (by simp only [f_X9_reads, if_neg c_37, if_neg c_43]; rw [← hF_72]; simp only [r_X9_reads_72, if_neg c_124]) (by simp only [g_X9_reads_place, g_X9_reads_nargs, if_neg c_37, if_neg c_43]; rw [← hF_72]; simp only [r_X9_reads_72, if_neg c_124]))
              · skip
                refine z_iconst (pc := 127) (v := (-1)) C dX9_reads_127 (by decide) ?_
                exact z_iret (pc := 128) C E dX9_reads_128 (pI.mk (by simp only [f_X9_reads, if_neg c_37, if_neg c_43]; rw [← hF_72]; simp only [r_X9_reads_72, if_pos c_124]) (by simp only [g_X9_reads_place, g_X9_reads_nargs, if_neg c_37, if_neg c_43]; rw [← hF_72]; simp only [r_X9_reads_72, if_pos c_124]))
            · skip
              exact absurd (lpx (hMn.1)) c_76
          | succ n_72 ih_72 =>
            intro i_72 z_72 hn_72 hI_72 hF_72
            have hi_72 : i_72 < (f_X9_manyOf (if textL ≤ (g_X9_skip_place text textL place) then (-1) else (text (g_X9_skip_place text textL place).toNatClampNeg) : Int32)).toNatClampNeg := by omega
            refine z_iload (pc := 72) C 6 dX9_reads_72 rfl ?_
            refine z_iload (pc := 74) C 4 dX9_reads_74 rfl ?_
            refine z_icmp_ge (pc := 76) 108 C dX9_reads_76 (by decide) (fun c_76 => ?_) (fun c_76 => ?_)
            · skip
              exact absurd c_76 (lps (hMn.1) (by omega) (by omega))
            · skip
              refine z_aload_n (pc := 79) C 0 dX9_reads_79 rfl ?_
              refine z_iload (pc := 80) C 6 dX9_reads_80 rfl ?_
              refine z_iload (pc := 82) C 5 dX9_reads_82 rfl ?_
              refine z_bipush (pc := 84) (v := 10) C dX9_reads_84 (by decide) ?_
              refine z_irem (pc := 86) C dX9_reads_86 (by decide) ?_
              refine z_callV (pc := 87) C (c_X9_takes (by exact hI_72) (by exact (vp_in_nI (by omega) (by decide)))) [0, 1, 2, 3, 4, 5, 6, 7, 8] z00 mV_X9_takes q_1143 dX9_reads_87 rfl rfl rfl 0 rfl rfl rfl rfl (Nat.le_of_ble_eq_true rfl) (by decide) (pI.go (ws' := wMd G da dn dp dr ds dl dc dt dg now past states refused aside pile came pileL text textL _ _) rfl ?_)
              refine z_if_ne (pc := 90) 95 C dX9_reads_90 (by decide) (fun c_90 => ?_) (fun c_90 => ?_)
              · skip
                refine z_iload (pc := 95) C 5 dX9_reads_95 rfl ?_
                refine z_bipush (pc := 97) (v := 10) C dX9_reads_97 (by decide) ?_
                refine z_idiv (pc := 99) C dX9_reads_99 (by decide) ?_
                refine z_istore (pc := 100) [(5, _), (0, _), (1, _), (2, _), (3, _), (4, _), (6, _)] C dX9_reads_100 (by decide) rfl ?_
                refine z_iinc (pc := 102) (v := nI (i_72 + 1)) [(6, _), (5, _), (0, _), (1, _), (2, _), (3, _), (4, _)] C 6 dX9_reads_102 rfl ((nI_succ _).symm) (by decide) rfl ?_
                refine z_goto (pc := 105) 72 C dX9_reads_105 (by decide) ?_
                refine z_lv (lv' := [(0, _), (1, _), (2, _), (3, _), (4, _), (5, _), (6, _)]) [2, 3, 4, 5, 6, 1, 0] rfl ?_
                have h9 := ih_72 (i_72 + 1) (z_72.1 / 10, g_X9_takes_place text textL z_72.2.1 (nI i_72) (z_72.1 - z_72.1 / 10 * 10), g_X9_takes_nargs text textL z_72.2.1 z_72.2.2 (nI i_72)) (by omega) (by dsimp only; exact tP_tk hI_72) (by rw [← hF_72]; simp only [r_X9_reads_72, if_neg c_90])
                dsimp only at h9
                exact h9
              · skip
                refine z_iconst (pc := 93) (v := (-1)) C dX9_reads_93 (by decide) ?_
                exact z_iret (pc := 94) C E dX9_reads_94 (pI.mk (by simp only [f_X9_reads, if_neg c_37, if_neg c_43]; rw [← hF_72]; simp only [r_X9_reads_72, if_pos c_90]) (by simp only [g_X9_reads_place, g_X9_reads_nargs, if_neg c_37, if_neg c_43]; rw [← hF_72]; simp only [r_X9_reads_72, if_pos c_90]))
        have h9 := L_72 ((f_X9_manyOf (if textL ≤ (g_X9_skip_place text textL place) then (-1) else (text (g_X9_skip_place text textL place).toNatClampNeg) : Int32)).toNatClampNeg) 0 (f_X9_sortsOf (if textL ≤ (g_X9_skip_place text textL place) then (-1) else (text (g_X9_skip_place text textL place).toNatClampNeg) : Int32), (g_X9_skip_place text textL place) + 1, nargs) (by omega) (by dsimp only; exact (tP_up (tP_ms hp) (rd_lt c_37)).1) rfl
        dsimp only at h9
        exact h9
      · skip
        refine z_iload_n (pc := 46) C 3 dX9_reads_46 rfl ?_
        refine z_iconst (pc := 47) (v := 4) C dX9_reads_47 (by decide) ?_
        refine z_icmp_ne (pc := 48) 53 C dX9_reads_48 (by decide) (fun c_48 => ?_) (fun c_48 => ?_)
        · skip
          refine z_aload_n (pc := 53) C 2 dX9_reads_53 rfl ?_
          refine z_dup (pc := 54) C dX9_reads_54 rfl ?_
          refine z_get (pc := 55) C 0 10 dX9_reads_55 rfl rfl i_X9 (by decide) q_839 rfl ?_
          refine z_iconst (pc := 58) (v := 1) C dX9_reads_58 (by decide) ?_
          refine z_iadd (pc := 59) C dX9_reads_59 ?_
          refine z_put (pc := 60) (wMd G da dn dp dr ds dl dc dt dg now past states refused aside pile came pileL text textL _ nargs) C 0 10 dX9_reads_60 rfl rfl i_X9 tyX9_ok nmX9 (by decide) q_839 rfl rfl rfl rfl (Nat.le_of_ble_eq_true rfl) rfl ?_
          refine z_iload_n (pc := 63) C 1 dX9_reads_63 rfl ?_
          refine z_callS (pc := 64) C (c_X9_sortsOf) [] z00 mS_X9_sortsOf q_1137 dX9_reads_64 rfl rfl rfl rfl (Nat.le_of_ble_eq_true rfl) (by decide) (pI.stay rfl ?_)
          refine z_istore (pc := 67) [(5, _), (4, _), (3, _), (0, _), (1, _), (2, _)] C dX9_reads_67 (by decide) rfl ?_
          refine z_iconst (pc := 69) (v := 0) C dX9_reads_69 (by decide) ?_
          refine z_istore (pc := 70) [(6, _), (5, _), (4, _), (3, _), (0, _), (1, _), (2, _)] C dX9_reads_70 (by decide) rfl ?_
          have hMn := many_ok c_37
          refine z_lv (lv' := [(0, _), (1, _), (2, _), (3, _), (4, _), (5, _), (6, _)]) [4, 5, 6, 3, 2, 1, 0] rfl ?_
          have L_72 : ∀ (n_72 i_72 : Nat) (z_72 : Int32 × Int32 × (Nat → Int32)), n_72 + i_72 = (f_X9_manyOf (if textL ≤ (g_X9_skip_place text textL place) then (-1) else (text (g_X9_skip_place text textL place).toNatClampNeg) : Int32)).toNatClampNeg → tP textL z_72.2.1 → r_X9_reads_72 text textL place n_72 i_72 z_72 = r_X9_reads_72 text textL place ((f_X9_manyOf (if textL ≤ (g_X9_skip_place text textL place) then (-1) else (text (g_X9_skip_place text textL place).toNatClampNeg) : Int32)).toNatClampNeg) 0 (f_X9_sortsOf (if textL ≤ (g_X9_skip_place text textL place) then (-1) else (text (g_X9_skip_place text textL place).toNatClampNeg) : Int32), (g_X9_skip_place text textL place) + 1, nargs) → Z X G 7 0 0 (wMd G da dn dp dr ds dl dc dt dg now past states refused aside pile came pileL text textL z_72.2.1 z_72.2.2) 72 [(0, .ref da), (1, .int openingsThen), (2, .int (g_X9_skip_place text textL place)), (3, .int (if textL ≤ (g_X9_skip_place text textL place) then (-1) else (text (g_X9_skip_place text textL place).toNatClampNeg) : Int32)), (4, .int (f_X9_manyOf (if textL ≤ (g_X9_skip_place text textL place) then (-1) else (text (g_X9_skip_place text textL place).toNatClampNeg) : Int32))), (5, .int z_72.1), (6, .int (nI i_72))] [] := by
            intro n_72
            induction n_72 with
            | zero =>
              intro i_72 z_72 hn_72 hI_72 hF_72
              obtain rfl : i_72 = (f_X9_manyOf (if textL ≤ (g_X9_skip_place text textL place) then (-1) else (text (g_X9_skip_place text textL place).toNatClampNeg) : Int32)).toNatClampNeg := by omega
              refine z_iload (pc := 72) C 6 dX9_reads_72 rfl ?_
              refine z_iload (pc := 74) C 4 dX9_reads_74 rfl ?_
              refine z_icmp_ge (pc := 76) 108 C dX9_reads_76 (by decide) (fun c_76 => ?_) (fun c_76 => ?_)
              · skip
                refine z_aload_n (pc := 108) C 0 dX9_reads_108 rfl ?_
                refine z_callV (pc := 109) C (c_X9_skip (by exact hI_72)) [0, 1, 2, 3, 4, 5, 6, 7, 8] z00 mV_X9_skip q_1130 dX9_reads_109 rfl rfl rfl 0 rfl rfl rfl rfl (Nat.le_of_ble_eq_true rfl) (by decide) (pV.go (ws' := wMd G da dn dp dr ds dl dc dt dg now past states refused aside pile came pileL text textL _ _) rfl ?_)
                refine z_aload_n (pc := 112) C 0 dX9_reads_112 rfl ?_
                refine z_aload_n (pc := 113) C 0 dX9_reads_113 rfl ?_
                refine z_get (pc := 114) C 0 10 dX9_reads_114 rfl rfl i_X9 (by decide) q_839 rfl ?_
                refine z_bipush (pc := 117) (v := 59) C dX9_reads_117 (by decide) ?_
                refine z_bipush (pc := 119) (v := 59) C dX9_reads_119 (by decide) ?_
                refine z_callV (pc := 121) C (c_X9_isByte (by exact hp.1) (by exact (tP_ms hI_72).2.1)) [0, 1, 2, 3, 4, 5, 6, 7, 8] z00 mV_X9_isByte q_1147 dX9_reads_121 rfl rfl rfl 0 rfl rfl rfl rfl (Nat.le_of_ble_eq_true rfl) (by decide) (pI.stay rfl ?_)
                refine z_if_ne (pc := 124) 129 C dX9_reads_124 (by decide) (fun c_124 => ?_) (fun c_124 => ?_)
                · skip
                  refine z_aload_n (pc := 129) C 0 dX9_reads_129 rfl ?_
                  refine z_dup (pc := 130) C dX9_reads_130 rfl ?_
                  refine z_get (pc := 131) C 0 10 dX9_reads_131 rfl rfl i_X9 (by decide) q_839 rfl ?_
                  refine z_iconst (pc := 134) (v := 1) C dX9_reads_134 (by decide) ?_
                  refine z_iadd (pc := 135) C dX9_reads_135 ?_
                  refine z_put (pc := 136) (wMd G da dn dp dr ds dl dc dt dg now past states refused aside pile came pileL text textL _ _) C 0 10 dX9_reads_136 rfl rfl i_X9 tyX9_ok nmX9 (by decide) q_839 rfl rfl rfl rfl (Nat.le_of_ble_eq_true rfl) rfl ?_
                  refine z_iload_n (pc := 139) C 3 dX9_reads_139 rfl ?_
                  exact z_iret (pc := 140) C E dX9_reads_140 (pI.mk (by simp only [f_X9_reads, if_neg c_37, if_pos c_43, if_neg c_48]; rw [← hF_72]; simp only [r_X9_reads_72, if_neg c_124]) (by simp only [g_X9_reads_place, g_X9_reads_nargs, if_neg c_37, if_pos c_43, if_neg c_48]; rw [← hF_72]; simp only [r_X9_reads_72, if_neg c_124]))
                · skip
                  refine z_iconst (pc := 127) (v := (-1)) C dX9_reads_127 (by decide) ?_
                  exact z_iret (pc := 128) C E dX9_reads_128 (pI.mk (by simp only [f_X9_reads, if_neg c_37, if_pos c_43, if_neg c_48]; rw [← hF_72]; simp only [r_X9_reads_72, if_pos c_124]) (by simp only [g_X9_reads_place, g_X9_reads_nargs, if_neg c_37, if_pos c_43, if_neg c_48]; rw [← hF_72]; simp only [r_X9_reads_72, if_pos c_124]))
              · skip
                exact absurd (lpx (hMn.1)) c_76
            | succ n_72 ih_72 =>
              intro i_72 z_72 hn_72 hI_72 hF_72
              have hi_72 : i_72 < (f_X9_manyOf (if textL ≤ (g_X9_skip_place text textL place) then (-1) else (text (g_X9_skip_place text textL place).toNatClampNeg) : Int32)).toNatClampNeg := by omega
              refine z_iload (pc := 72) C 6 dX9_reads_72 rfl ?_
              refine z_iload (pc := 74) C 4 dX9_reads_74 rfl ?_
              refine z_icmp_ge (pc := 76) 108 C dX9_reads_76 (by decide) (fun c_76 => ?_) (fun c_76 => ?_)
              · skip
                exact absurd c_76 (lps (hMn.1) (by omega) (by omega))
              · skip
                refine z_aload_n (pc := 79) C 0 dX9_reads_79 rfl ?_
                refine z_iload (pc := 80) C 6 dX9_reads_80 rfl ?_
                refine z_iload (pc := 82) C 5 dX9_reads_82 rfl ?_
                refine z_bipush (pc := 84) (v := 10) C dX9_reads_84 (by decide) ?_
                refine z_irem (pc := 86) C dX9_reads_86 (by decide) ?_
                refine z_callV (pc := 87) C (c_X9_takes (by exact hI_72) (by exact (vp_in_nI (by omega) (by decide)))) [0, 1, 2, 3, 4, 5, 6, 7, 8] z00 mV_X9_takes q_1143 dX9_reads_87 rfl rfl rfl 0 rfl rfl rfl rfl (Nat.le_of_ble_eq_true rfl) (by decide) (pI.go (ws' := wMd G da dn dp dr ds dl dc dt dg now past states refused aside pile came pileL text textL _ _) rfl ?_)
                refine z_if_ne (pc := 90) 95 C dX9_reads_90 (by decide) (fun c_90 => ?_) (fun c_90 => ?_)
                · skip
                  refine z_iload (pc := 95) C 5 dX9_reads_95 rfl ?_
                  refine z_bipush (pc := 97) (v := 10) C dX9_reads_97 (by decide) ?_
                  refine z_idiv (pc := 99) C dX9_reads_99 (by decide) ?_
                  refine z_istore (pc := 100) [(5, _), (0, _), (1, _), (2, _), (3, _), (4, _), (6, _)] C dX9_reads_100 (by decide) rfl ?_
                  refine z_iinc (pc := 102) (v := nI (i_72 + 1)) [(6, _), (5, _), (0, _), (1, _), (2, _), (3, _), (4, _)] C 6 dX9_reads_102 rfl ((nI_succ _).symm) (by decide) rfl ?_
                  refine z_goto (pc := 105) 72 C dX9_reads_105 (by decide) ?_
                  refine z_lv (lv' := [(0, _), (1, _), (2, _), (3, _), (4, _), (5, _), (6, _)]) [2, 3, 4, 5, 6, 1, 0] rfl ?_
                  have h9 := ih_72 (i_72 + 1) (z_72.1 / 10, g_X9_takes_place text textL z_72.2.1 (nI i_72) (z_72.1 - z_72.1 / 10 * 10), g_X9_takes_nargs text textL z_72.2.1 z_72.2.2 (nI i_72)) (by omega) (by dsimp only; exact tP_tk hI_72) (by rw [← hF_72]; simp only [r_X9_reads_72, if_neg c_90])
                  dsimp only at h9
                  exact h9
                · skip
                  refine z_iconst (pc := 93) (v := (-1)) C dX9_reads_93 (by decide) ?_
                  exact z_iret (pc := 94) C E dX9_reads_94 (pI.mk (by simp only [f_X9_reads, if_neg c_37, if_pos c_43, if_neg c_48]; rw [← hF_72]; simp only [r_X9_reads_72, if_pos c_90]) (by simp only [g_X9_reads_place, g_X9_reads_nargs, if_neg c_37, if_pos c_43, if_neg c_48]; rw [← hF_72]; simp only [r_X9_reads_72, if_pos c_90]))
          have h9 := L_72 ((f_X9_manyOf (if textL ≤ (g_X9_skip_place text textL place) then (-1) else (text (g_X9_skip_place text textL place).toNatClampNeg) : Int32)).toNatClampNeg) 0 (f_X9_sortsOf (if textL ≤ (g_X9_skip_place text textL place) then (-1) else (text (g_X9_skip_place text textL place).toNatClampNeg) : Int32), (g_X9_skip_place text textL place) + 1, nargs) (by omega) (by dsimp only; exact (tP_up (tP_ms hp) (rd_lt c_37)).1) rfl
          dsimp only at h9
          exact h9
        · skip
          refine z_iconst (pc := 51) (v := (-1)) C dX9_reads_51 (by decide) ?_
          exact z_iret (pc := 52) C E dX9_reads_52 (pI.mk (by simp only [f_X9_reads, if_neg c_37, if_pos c_43, if_pos c_48]) (by simp only [g_X9_reads_place, g_X9_reads_nargs, if_neg c_37, if_pos c_43, if_pos c_48]))
  refine z_icmp_ge (pc := 14) 26 C dX9_reads_14 (by decide) (fun c_14 => ?_) (fun c_14 => ?_)
  · skip
    refine z_iconst (pc := 26) (v := (-1)) C dX9_reads_26 (by decide) ?_
    refine z_lv (lv' := [(0, _), (1, _), (2, _)]) [1, 2, 0] rfl ?_
    exact z_eq rfl rfl (by simp only [if_pos c_14]) K_27
  · skip
    refine z_aload_n (pc := 17) C 1 dX9_reads_17 rfl ?_
    refine z_get (pc := 18) C 0 8 dX9_reads_18 rfl rfl i_X9 (by decide) q_837 rfl ?_
    refine z_iload_n (pc := 21) C 0 dX9_reads_21 rfl ?_
    refine z_iald (pc := 22) C 7 dX9_reads_22 rfl (ix_tp (tP_ms hp) c_14) ?_
    refine z_goto (pc := 23) 27 C dX9_reads_23 (by decide) ?_
    refine z_lv (lv' := [(0, _), (1, _), (2, _)]) [1, 2, 0] rfl ?_
    exact z_eq rfl rfl (by simp only [if_neg c_14]) K_27
