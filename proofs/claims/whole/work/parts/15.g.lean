/-- the text's length; a place in it -/
def tL (len : Int32) : Prop := 0 ≤ len.toInt ∧ len.toInt ≤ 120
def tP (len place : Int32) : Prop := tL len ∧ 0 ≤ place.toInt ∧ place.toInt ≤ len.toInt
theorem tP_0 {len : Int32} (h : tL len) : tP len 0 := ⟨h, by decide, by have e : (0 : Int32).toInt = 0 := rfl; have := h.1; omega⟩
theorem ix_120 {len : Int32} (h : tL len) (h2 : ¬ 120 ≤ len) : vp_in len 120 := by
  have h3 : ¬ (120 : Int32).toInt ≤ len.toInt := fun q => h2 (Int32.le_iff_toInt_le.mpr q)
  have e : (120 : Int32).toInt = 120 := rfl
  have := h.1
  rw [vp_in_iff]; omega
theorem ix_pl {len place : Int32} (h : tL len) (h2 : ¬ f_X8_isWithin place 0 (len - 1) = 0) : vp_in place 120 := by
  have b := isW_ne h2
  obtain ⟨h4, h5⟩ := h
  have e0 : (0 : Int32).toInt = 0 := rfl
  have e1 : (1 : Int32).toInt = 1 := rfl
  rw [tI_sub (by omega) (by omega)] at b
  rw [vp_in_iff]; omega
theorem tP_up {len place : Int32} (h : tP len place) (h2 : ¬ len ≤ place) : tP len (place + 1) ∧ (place + 1).toInt = place.toInt + 1 := by
  have h3 : ¬ len.toInt ≤ place.toInt := fun q => h2 (Int32.le_iff_toInt_le.mpr q)
  obtain ⟨⟨h4, h5⟩, h6, h7⟩ := h
  have e1 : (1 : Int32).toInt = 1 := rfl
  have e2 : (place + 1).toInt = place.toInt + 1 := tI_add (by omega) (by omega)
  exact ⟨⟨⟨h4, h5⟩, by omega, by omega⟩, e2⟩

def g_X2_takes_bytes (bytes : Nat → Int32) (len : Int32) (c : Int32) : Nat → Int32 := if 120 ≤ len then bytes else upd bytes len.toNatClampNeg (vp_nar .byte c.toInt8.toInt32)
def g_X2_takes_len (len : Int32) : Int32 := if 120 ≤ len then len else len + 1
set_option maxRecDepth 100000 in
theorem c_X2_takes {l : Launch} {G : zG} {xo xb : Nat} {bytes : Nat → Int32} {len : Int32} {place : Int32} {num : Int32} {c : Int32} (ht : tL len) : Ct l G yX2_takes cX2_takes 2 (Option.none : Option Jvm.ClassFile.FieldType) 0 0 [.ref xo, .int c] (wTx G xo xb bytes len place num) (pV (wTx G xo xb (g_X2_takes_bytes bytes len c) (g_X2_takes_len len) place num)) := by
  refine Ct.of (plainFor_of_name (by decide)) (Nat.le_of_ble_eq_true rfl) (pV.ad ad_Tx) (fun X C E => ?_)
  show Z X G 2 0 0 _ 0 [(0, .ref xo), (1, .int c)] []
  refine z_aload_n (pc := 0) C 0 dX2_takes_0 rfl ?_
  refine z_get (pc := 1) C 0 1 dX2_takes_1 rfl rfl i_X2 (by decide) q_239 rfl ?_
  refine z_bipush (pc := 4) (v := 120) C dX2_takes_4 (by decide) ?_
  refine z_icmp_ge (pc := 6) 30 C dX2_takes_6 (by decide) (fun c_6 => ?_) (fun c_6 => ?_)
  · skip
    exact z_vret (pc := 30) C E dX2_takes_30 (pV.mk (by simp only [g_X2_takes_bytes, g_X2_takes_len, if_pos c_6]))
  · skip
    refine z_aload_n (pc := 9) C 0 dX2_takes_9 rfl ?_
    refine z_get (pc := 10) C 0 0 dX2_takes_10 rfl rfl i_X2 (by decide) q_238 rfl ?_
    refine z_aload_n (pc := 13) C 0 dX2_takes_13 rfl ?_
    refine z_get (pc := 14) C 0 1 dX2_takes_14 rfl rfl i_X2 (by decide) q_239 rfl ?_
    refine z_iload_n (pc := 17) C 1 dX2_takes_17 rfl ?_
    refine z_i2b (pc := 18) C dX2_takes_18 ?_
    refine z_bast (pc := 19) (wTx G xo xb _ len place num) C 1 dX2_takes_19 rfl (ix_120 ht c_6) rfl ?_
    refine z_aload_n (pc := 20) C 0 dX2_takes_20 rfl ?_
    refine z_dup (pc := 21) C dX2_takes_21 rfl ?_
    refine z_get (pc := 22) C 0 1 dX2_takes_22 rfl rfl i_X2 (by decide) q_239 rfl ?_
    refine z_iconst (pc := 25) (v := 1) C dX2_takes_25 (by decide) ?_
    refine z_iadd (pc := 26) C dX2_takes_26 ?_
    refine z_put (pc := 27) (wTx G xo xb _ _ place num) C 0 1 dX2_takes_27 rfl rfl i_X2 tyX2_ok nmX2 (by decide) q_239 rfl rfl rfl rfl (Nat.le_of_ble_eq_true rfl) rfl ?_
    exact z_vret (pc := 30) C E dX2_takes_30 (pV.mk (by simp only [g_X2_takes_bytes, g_X2_takes_len, if_neg c_6]))

def g_X2_restarts_place  : Int32 := 0
set_option maxRecDepth 100000 in
theorem c_X2_restarts {l : Launch} {G : zG} {xo xb : Nat} {bytes : Nat → Int32} {len : Int32} {place : Int32} {num : Int32} : Ct l G yX2_restarts cX2_restarts 1 (Option.none : Option Jvm.ClassFile.FieldType) 0 0 [.ref xo] (wTx G xo xb bytes len place num) (pV (wTx G xo xb bytes len g_X2_restarts_place num)) := by
  refine Ct.of (plainFor_of_name (by decide)) (Nat.le_of_ble_eq_true rfl) (pV.ad ad_Tx) (fun X C E => ?_)
  show Z X G 1 0 0 _ 0 [(0, .ref xo)] []
  refine z_aload_n (pc := 0) C 0 dX2_restarts_0 rfl ?_
  refine z_iconst (pc := 1) (v := 0) C dX2_restarts_1 (by decide) ?_
  refine z_put (pc := 2) (wTx G xo xb bytes len _ num) C 0 2 dX2_restarts_2 rfl rfl i_X2 tyX2_ok nmX2 (by decide) q_241 rfl rfl rfl rfl (Nat.le_of_ble_eq_true rfl) rfl ?_
  exact z_vret (pc := 5) C E dX2_restarts_5 (pV.mk rfl)

def f_X2_byteHere (bytes : Nat → Int32) (len : Int32) (place : Int32) : Int32 := if (f_X8_isWithin place 0 (len - 1)) = 0 then (-1) else bytes place.toNatClampNeg
set_option maxRecDepth 100000 in
theorem c_X2_byteHere {l : Launch} {G : zG} {xo xb : Nat} {bytes : Nat → Int32} {len : Int32} {place : Int32} {num : Int32} (ht : tL len) : Ct l G yX2_byteHere cX2_byteHere 1 (Option.some FieldType.int) 1 22 [.ref xo] (wTx G xo xb bytes len place num) (pI (f_X2_byteHere bytes len place) (wTx G xo xb bytes len place num)) := by
  refine Ct.of (plainFor_of_name (by decide)) (Nat.le_of_ble_eq_true rfl) (pI.ad ad_Tx) (fun X C E => ?_)
  show Z X G 1 0 0 _ 0 [(0, .ref xo)] []
  refine z_aload_n (pc := 0) C 0 dX2_byteHere_0 rfl ?_
  refine z_get (pc := 1) C 0 2 dX2_byteHere_1 rfl rfl i_X2 (by decide) q_241 rfl ?_
  refine z_iconst (pc := 4) (v := 0) C dX2_byteHere_4 (by decide) ?_
  refine z_aload_n (pc := 5) C 0 dX2_byteHere_5 rfl ?_
  refine z_get (pc := 6) C 0 1 dX2_byteHere_6 rfl rfl i_X2 (by decide) q_239 rfl ?_
  refine z_iconst (pc := 9) (v := 1) C dX2_byteHere_9 (by decide) ?_
  refine z_isub (pc := 10) C dX2_byteHere_10 ?_
  refine z_callSN (pc := 11) C (c_X8_isWithin) [] z00 mS_X8_isWithin q_771 dX2_byteHere_11 rfl rfl rfl rfl (Nat.le_of_ble_eq_true rfl) (by decide) (pI.stay rfl ?_)
  refine z_if_eq (pc := 14) 29 C dX2_byteHere_14 (by decide) (fun c_14 => ?_) (fun c_14 => ?_)
  · skip
    refine z_iconst (pc := 29) (v := (-1)) C dX2_byteHere_29 (by decide) ?_
    exact z_iret (pc := 30) C E dX2_byteHere_30 (pI.mk (by simp only [f_X2_byteHere, if_pos c_14]) rfl)
  · skip
    refine z_aload_n (pc := 17) C 0 dX2_byteHere_17 rfl ?_
    refine z_get (pc := 18) C 0 0 dX2_byteHere_18 rfl rfl i_X2 (by decide) q_238 rfl ?_
    refine z_aload_n (pc := 21) C 0 dX2_byteHere_21 rfl ?_
    refine z_get (pc := 22) C 0 2 dX2_byteHere_22 rfl rfl i_X2 (by decide) q_241 rfl ?_
    refine z_bald (pc := 25) C 1 dX2_byteHere_25 rfl (ix_pl ht c_14) ?_
    refine z_goto (pc := 26) 30 C dX2_byteHere_26 (by decide) ?_
    exact z_iret (pc := 30) C E dX2_byteHere_30 (pI.mk (by simp only [f_X2_byteHere, if_neg c_14]) rfl)

theorem bh_lt {bytes : Nat → Int32} {len place : Int32} (h : tP len place) (h2 : ¬ f_X2_byteHere bytes len place = -1) : ¬ len ≤ place := by
  unfold f_X2_byteHere at h2
  split at h2
  · exact absurd rfl h2
  · rename_i h3
    have b := isW_ne h3
    obtain ⟨⟨h4, h5⟩, h6, h7⟩ := h
    have e1 : (1 : Int32).toInt = 1 := rfl
    rw [tI_sub (by omega) (by omega)] at b
    intro q
    have := Int32.le_iff_toInt_le.mp q
    omega
theorem bh_eq {bytes : Nat → Int32} {len place k : Int32} (h : tP len place) (h2 : f_X2_byteHere bytes len place = k) (hk : ¬ k = -1) : ¬ len ≤ place := bh_lt h (by rw [h2]; exact hk)
theorem bh_dig {bytes : Nat → Int32} {len place : Int32} (h : tP len place) (h2 : ¬ f_X8_isWithin (f_X2_byteHere bytes len place) 48 57 = 0) : ¬ len ≤ place := bh_lt h (fun q => by rw [q] at h2; exact h2 (by decide))
theorem tP_neg {bytes : Nat → Int32} {len place : Int32} (h : tP len place) : tP len (if (if f_X2_byteHere bytes len place = 45 then (1 : Int32) else 0) = 0 then place else place + 1) := by
  by_cases h3 : f_X2_byteHere bytes len place = 45
  · rw [if_pos h3, if_neg (by decide)]; exact (tP_up h (bh_eq h h3 (by decide))).1
  · rw [if_neg h3, if_pos rfl]; exact h
theorem sk_x {len place : Int32} {e : Nat} (hl : tL len) (h : (e : Int) ≤ place.toInt) (he : e = 120) : len ≤ place := by
  rw [Int32.le_iff_toInt_le]; have := hl.2; omega

def r_X2_skipsBlanks_0 (bytes : Nat → Int32) (len : Int32) : Nat → Nat → (Int32) → Int32
  | 0, i_0, z_0 => z_0
  | n_0 + 1, i_0, z_0 => if len ≤ z_0 then z_0 else if (f_X2_byteHere bytes len z_0) = 32 then r_X2_skipsBlanks_0 bytes len n_0 (i_0 + 1) (z_0 + 1) else z_0
def g_X2_skipsBlanks_place (bytes : Nat → Int32) (len : Int32) (place : Int32) : Int32 := (r_X2_skipsBlanks_0 bytes len 120 0 place)
set_option maxRecDepth 100000 in
theorem c_X2_skipsBlanks {l : Launch} {G : zG} {xo xb : Nat} {bytes : Nat → Int32} {len : Int32} {place : Int32} {num : Int32} (hp : tP len place) : Ct l G yX2_skipsBlanks cX2_skipsBlanks 1 (Option.none : Option Jvm.ClassFile.FieldType) 2 42 [.ref xo] (wTx G xo xb bytes len place num) (pV (wTx G xo xb bytes len (g_X2_skipsBlanks_place bytes len place) num)) := by
  refine Ct.of (plainFor_of_name (by decide)) (Nat.le_of_ble_eq_true rfl) (pV.ad ad_Tx) (fun X C E => ?_)
  show Z X G 1 0 0 _ 0 [(0, .ref xo)] []
  refine z_lv (lv' := [(0, _)]) [0] rfl ?_
  have L_0 : ∀ (n_0 i_0 : Nat) (z_0 : Int32), n_0 + i_0 = 120 → (tP len z_0 ∧ (i_0 : Int) ≤ z_0.toInt) → r_X2_skipsBlanks_0 bytes len n_0 i_0 z_0 = r_X2_skipsBlanks_0 bytes len 120 0 place → Z X G 1 0 0 (wTx G xo xb bytes len z_0 num) 0 [(0, .ref xo)] [] := by
    intro n_0
    induction n_0 with
    | zero =>
      intro i_0 z_0 hn_0 hI_0 hF_0
      obtain rfl : i_0 = 120 := by omega
      refine z_aload_n (pc := 0) C 0 dX2_skipsBlanks_0 rfl ?_
      refine z_get (pc := 1) C 0 2 dX2_skipsBlanks_1 rfl rfl i_X2 (by decide) q_241 rfl ?_
      refine z_aload_n (pc := 4) C 0 dX2_skipsBlanks_4 rfl ?_
      refine z_get (pc := 5) C 0 1 dX2_skipsBlanks_5 rfl rfl i_X2 (by decide) q_239 rfl ?_
      refine z_icmp_ge (pc := 8) 33 C dX2_skipsBlanks_8 (by decide) (fun c_8 => ?_) (fun c_8 => ?_)
      · skip
        exact z_vret (pc := 33) C E dX2_skipsBlanks_33 (pV.mk (by simp only [g_X2_skipsBlanks_place]; rw [← hF_0]; simp only [r_X2_skipsBlanks_0]))
      · skip
        exact absurd (sk_x hI_0.1.1 hI_0.2 rfl) c_8
    | succ n_0 ih_0 =>
      intro i_0 z_0 hn_0 hI_0 hF_0
      have hi_0 : i_0 < 120 := by omega
      refine z_aload_n (pc := 0) C 0 dX2_skipsBlanks_0 rfl ?_
      refine z_get (pc := 1) C 0 2 dX2_skipsBlanks_1 rfl rfl i_X2 (by decide) q_241 rfl ?_
      refine z_aload_n (pc := 4) C 0 dX2_skipsBlanks_4 rfl ?_
      refine z_get (pc := 5) C 0 1 dX2_skipsBlanks_5 rfl rfl i_X2 (by decide) q_239 rfl ?_
      refine z_icmp_ge (pc := 8) 33 C dX2_skipsBlanks_8 (by decide) (fun c_8 => ?_) (fun c_8 => ?_)
      · skip
        exact z_vret (pc := 33) C E dX2_skipsBlanks_33 (pV.mk (by simp only [g_X2_skipsBlanks_place]; rw [← hF_0]; simp only [r_X2_skipsBlanks_0, if_pos c_8]))
      · skip
        refine z_aload_n (pc := 11) C 0 dX2_skipsBlanks_11 rfl ?_
        refine z_callV (pc := 12) C (c_X2_byteHere (by exact hI_0.1.1)) [0, 1] z00 mV_X2_byteHere q_767 dX2_skipsBlanks_12 rfl rfl rfl 0 rfl rfl rfl rfl (Nat.le_of_ble_eq_true rfl) (by decide) (pI.stay rfl ?_)
        refine z_bipush (pc := 15) (v := 32) C dX2_skipsBlanks_15 (by decide) ?_
        refine z_icmp_ne (pc := 17) 33 C dX2_skipsBlanks_17 (by decide) (fun c_17 => ?_) (fun c_17 => ?_)
        · skip
          exact z_vret (pc := 33) C E dX2_skipsBlanks_33 (pV.mk (by simp only [g_X2_skipsBlanks_place]; rw [← hF_0]; simp only [r_X2_skipsBlanks_0, if_neg c_8, if_neg c_17]))
        · skip
          refine z_aload_n (pc := 20) C 0 dX2_skipsBlanks_20 rfl ?_
          refine z_dup (pc := 21) C dX2_skipsBlanks_21 rfl ?_
          refine z_get (pc := 22) C 0 2 dX2_skipsBlanks_22 rfl rfl i_X2 (by decide) q_241 rfl ?_
          refine z_iconst (pc := 25) (v := 1) C dX2_skipsBlanks_25 (by decide) ?_
          refine z_iadd (pc := 26) C dX2_skipsBlanks_26 ?_
          refine z_put (pc := 27) (wTx G xo xb bytes len _ num) C 0 2 dX2_skipsBlanks_27 rfl rfl i_X2 tyX2_ok nmX2 (by decide) q_241 rfl rfl rfl rfl (Nat.le_of_ble_eq_true rfl) rfl ?_
          refine z_goto (pc := 30) 0 C dX2_skipsBlanks_30 (by decide) ?_
          refine z_lv (lv' := [(0, _)]) [0] rfl ?_
          exact ih_0 (i_0 + 1) (z_0 + 1) (by omega) (by exact ⟨(tP_up hI_0.1 c_8).1, by have := (tP_up hI_0.1 c_8).2; have := hI_0.2; omega⟩) (by rw [← hF_0]; simp only [r_X2_skipsBlanks_0, if_neg c_8, if_pos c_17])
  exact L_0 120 0 place (by omega) (by exact ⟨hp, hp.2.1⟩) rfl

theorem tP_sk {bytes : Nat → Int32} {len : Int32} : ∀ (n i : Nat) (place : Int32), tP len place → tP len (r_X2_skipsBlanks_0 bytes len n i place)
  | 0, i, place, h => h
  | n + 1, i, place, h => by
    unfold r_X2_skipsBlanks_0
    split
    · exact h
    · split
      · exact tP_sk n (i + 1) (place + 1) (tP_up h (by assumption)).1
      · exact h
theorem tP_skip {bytes : Nat → Int32} {len place : Int32} (h : tP len place) : tP len (g_X2_skipsBlanks_place bytes len place) := tP_sk _ _ _ h

def f_X2_isAtEnd (bytes : Nat → Int32) (len : Int32) (place : Int32) : Int32 := if (g_X2_skipsBlanks_place bytes len place) < len then 0 else 1
def g_X2_isAtEnd_place (bytes : Nat → Int32) (len : Int32) (place : Int32) : Int32 := g_X2_skipsBlanks_place bytes len place
set_option maxRecDepth 100000 in
theorem c_X2_isAtEnd {l : Launch} {G : zG} {xo xb : Nat} {bytes : Nat → Int32} {len : Int32} {place : Int32} {num : Int32} (hp : tP len place) : Ct l G yX2_isAtEnd cX2_isAtEnd 1 (Option.some FieldType.boolean) 3 62 [.ref xo] (wTx G xo xb bytes len place num) (pI (f_X2_isAtEnd bytes len place) (wTx G xo xb bytes len (g_X2_isAtEnd_place bytes len place) num)) := by
  refine Ct.of (plainFor_of_name (by decide)) (Nat.le_of_ble_eq_true rfl) (pI.ad ad_Tx) (fun X C E => ?_)
  show Z X G 1 0 0 _ 0 [(0, .ref xo)] []
  refine z_aload_n (pc := 0) C 0 dX2_isAtEnd_0 rfl ?_
  refine z_callV (pc := 1) C (c_X2_skipsBlanks (by assumption)) [0, 1] z00 mV_X2_skipsBlanks q_763 dX2_isAtEnd_1 rfl rfl rfl 0 rfl rfl rfl rfl (Nat.le_of_ble_eq_true rfl) (by decide) (pV.go (ws' := wTx G xo xb bytes len _ num) rfl ?_)
  refine z_aload_n (pc := 4) C 0 dX2_isAtEnd_4 rfl ?_
  refine z_get (pc := 5) C 0 2 dX2_isAtEnd_5 rfl rfl i_X2 (by decide) q_241 rfl ?_
  refine z_aload_n (pc := 8) C 0 dX2_isAtEnd_8 rfl ?_
  refine z_get (pc := 9) C 0 1 dX2_isAtEnd_9 rfl rfl i_X2 (by decide) q_239 rfl ?_
  refine z_icmp_lt (pc := 12) 19 C dX2_isAtEnd_12 (by decide) (fun c_12 => ?_) (fun c_12 => ?_)
  · skip
    refine z_iconst (pc := 19) (v := 0) C dX2_isAtEnd_19 (by decide) ?_
    exact z_zret (pc := 20) C E dX2_isAtEnd_20 (by first | rfl | assumption) (pI.mk (by simp only [f_X2_isAtEnd, if_pos c_12]) (by simp only [g_X2_isAtEnd_place, if_pos c_12]))
  · skip
    refine z_iconst (pc := 15) (v := 1) C dX2_isAtEnd_15 (by decide) ?_
    refine z_goto (pc := 16) 20 C dX2_isAtEnd_16 (by decide) ?_
    exact z_zret (pc := 20) C E dX2_isAtEnd_20 (by first | rfl | assumption) (pI.mk (by simp only [f_X2_isAtEnd, if_neg c_12]) (by simp only [g_X2_isAtEnd_place, if_neg c_12]))
theorem nb_X2_isAtEnd {bytes : Nat → Int32} {len : Int32} {place : Int32} : narrow .boolean (.int (f_X2_isAtEnd bytes len place)) = .int (f_X2_isAtEnd bytes len place) := by unfold f_X2_isAtEnd; (repeat' split) <;> first | rfl

def r_X2_readsNumber_33 (bytes : Nat → Int32) (len : Int32) : Nat → Nat → (Int32 × Int32 × Int32) → Int32 × Int32 × Int32
  | 0, i_33, z_33 => (z_33.1, z_33.2.1, z_33.2.2)
  | n_33 + 1, i_33, z_33 => if (f_X8_isWithin (f_X2_byteHere bytes len z_33.2.2) 48 57) = 0 then (z_33.1, z_33.2.1, z_33.2.2) else r_X2_readsNumber_33 bytes len n_33 (i_33 + 1) (((10 * z_33.1) + (f_X2_byteHere bytes len z_33.2.2)) - 48, z_33.2.1 + 1, z_33.2.2 + 1)
def f_X2_readsNumber (bytes : Nat → Int32) (len : Int32) (place : Int32) : Int32 := f_X8_isWithin ((r_X2_readsNumber_33 bytes len 4 0 (0, 0, (if (if (f_X2_byteHere bytes len place) = 45 then 1 else 0 : Int32) = 0 then place else (place + 1) : Int32))).2.1) 1 3
def g_X2_readsNumber_place (bytes : Nat → Int32) (len : Int32) (place : Int32) : Int32 := (r_X2_readsNumber_33 bytes len 4 0 (0, 0, (if (if (f_X2_byteHere bytes len place) = 45 then 1 else 0 : Int32) = 0 then place else (place + 1) : Int32))).2.2
def g_X2_readsNumber_num (bytes : Nat → Int32) (len : Int32) (place : Int32) : Int32 := (if (if (f_X2_byteHere bytes len place) = 45 then 1 else 0 : Int32) = 0 then ((r_X2_readsNumber_33 bytes len 4 0 (0, 0, (if (if (f_X2_byteHere bytes len place) = 45 then 1 else 0 : Int32) = 0 then place else (place + 1) : Int32))).1) else (-((r_X2_readsNumber_33 bytes len 4 0 (0, 0, (if (if (f_X2_byteHere bytes len place) = 45 then 1 else 0 : Int32) = 0 then place else (place + 1) : Int32))).1)) : Int32)
set_option maxRecDepth 100000 in
theorem c_X2_readsNumber {l : Launch} {G : zG} {xo xb : Nat} {bytes : Nat → Int32} {len : Int32} {place : Int32} {num : Int32} (hp : tP len place) : Ct l G yX2_readsNumber cX2_readsNumber 4 (Option.some FieldType.boolean) 2 42 [.ref xo] (wTx G xo xb bytes len place num) (pI (f_X2_readsNumber bytes len place) (wTx G xo xb bytes len (g_X2_readsNumber_place bytes len place) (g_X2_readsNumber_num bytes len place))) := by
  refine Ct.of (plainFor_of_name (by decide)) (Nat.le_of_ble_eq_true rfl) (pI.ad ad_Tx) (fun X C E => ?_)
  show Z X G 4 0 0 _ 0 [(0, .ref xo)] []
  refine z_aload_n (pc := 0) C 0 dX2_readsNumber_0 rfl ?_
  refine z_callV (pc := 1) C (c_X2_byteHere (by exact hp.1)) [0, 1] z00 mV_X2_byteHere q_767 dX2_readsNumber_1 rfl rfl rfl 0 rfl rfl rfl rfl (Nat.le_of_ble_eq_true rfl) (by decide) (pI.stay rfl ?_)
  refine z_bipush (pc := 4) (v := 45) C dX2_readsNumber_4 (by decide) ?_
  have K_14 : Z X G 4 0 0 (wTx G xo xb bytes len place num) 14 [(0, .ref xo)] [.int (if (f_X2_byteHere bytes len place) = 45 then 1 else 0 : Int32)] := by
    refine z_istore_n (pc := 14) [(1, _), (0, _)] C dX2_readsNumber_14 rfl (by decide) rfl ?_
    refine z_iload_n (pc := 15) C 0 dX2_readsNumber_15 rfl ?_
    have K_29 : Z X G 4 0 0 (wTx G xo xb bytes len (if (if (f_X2_byteHere bytes len place) = 45 then 1 else 0 : Int32) = 0 then place else (place + 1) : Int32) num) 29 [(0, .ref xo), (1, .int (if (f_X2_byteHere bytes len place) = 45 then 1 else 0 : Int32))] [] := by
      refine z_iconst (pc := 29) (v := 0) C dX2_readsNumber_29 (by decide) ?_
      refine z_istore_n (pc := 30) [(2, _), (0, _), (1, _)] C dX2_readsNumber_30 rfl (by decide) rfl ?_
      refine z_iconst (pc := 31) (v := 0) C dX2_readsNumber_31 (by decide) ?_
      refine z_istore_n (pc := 32) [(3, _), (2, _), (0, _), (1, _)] C dX2_readsNumber_32 rfl (by decide) rfl ?_
      refine z_lv (lv' := [(0, _), (1, _), (2, _), (3, _)]) [2, 3, 1, 0] rfl ?_
      have L_33 : ∀ (n_33 i_33 : Nat) (z_33 : Int32 × Int32 × Int32), n_33 + i_33 = 4 → (z_33.2.1 = nI i_33 ∧ tP len z_33.2.2) → Z X G 4 0 0 (wTx G xo xb bytes len ((r_X2_readsNumber_33 bytes len n_33 i_33 z_33).2.2) num) 81 [(0, .ref xo), (1, .int (if (f_X2_byteHere bytes len place) = 45 then 1 else 0 : Int32)), (2, .int ((r_X2_readsNumber_33 bytes len n_33 i_33 z_33).1)), (3, .int ((r_X2_readsNumber_33 bytes len n_33 i_33 z_33).2.1))] [] → Z X G 4 0 0 (wTx G xo xb bytes len z_33.2.2 num) 33 [(0, .ref xo), (1, .int (if (f_X2_byteHere bytes len place) = 45 then 1 else 0 : Int32)), (2, .int z_33.1), (3, .int z_33.2.1)] [] := by
        intro n_33
        induction n_33 with
        | zero =>
          intro i_33 z_33 hn_33 hI_33 hF_33
          obtain rfl : i_33 = 4 := by omega
          refine z_iload_n (pc := 33) C 3 dX2_readsNumber_33 rfl ?_
          refine z_iconst (pc := 34) (v := 3) C dX2_readsNumber_34 (by decide) ?_
          refine z_icmp_gt (pc := 35) 81 C dX2_readsNumber_35 (by decide) (fun c_35 => ?_) (fun c_35 => ?_)
          · skip
            refine z_lv (lv' := [(0, _), (1, _), (2, _), (3, _)]) [0, 1, 2, 3] rfl ?_
            simp only [r_X2_readsNumber_33] at hF_33
            exact hF_33
          · skip
            exact absurd (by rw [hI_33.1]; exact gt_x (n := 3) rfl (by decide)) c_35
        | succ n_33 ih_33 =>
          intro i_33 z_33 hn_33 hI_33 hF_33
          have hi_33 : i_33 < 4 := by omega
          refine z_iload_n (pc := 33) C 3 dX2_readsNumber_33 rfl ?_
          refine z_iconst (pc := 34) (v := 3) C dX2_readsNumber_34 (by decide) ?_
          refine z_icmp_gt (pc := 35) 81 C dX2_readsNumber_35 (by decide) (fun c_35 => ?_) (fun c_35 => ?_)
          · skip
            exact absurd c_35 (by rw [hI_33.1]; exact gt_s (n := 3) rfl (by omega) (by decide))
          · skip
            refine z_aload_n (pc := 38) C 0 dX2_readsNumber_38 rfl ?_
            refine z_callV (pc := 39) C (c_X2_byteHere (by exact hI_33.2.1)) [0, 1] z00 mV_X2_byteHere q_767 dX2_readsNumber_39 rfl rfl rfl 0 rfl rfl rfl rfl (Nat.le_of_ble_eq_true rfl) (by decide) (pI.stay rfl ?_)
            refine z_bipush (pc := 42) (v := 48) C dX2_readsNumber_42 (by decide) ?_
            refine z_bipush (pc := 44) (v := 57) C dX2_readsNumber_44 (by decide) ?_
            refine z_callSN (pc := 46) C (c_X8_isWithin) [] z00 mS_X8_isWithin q_771 dX2_readsNumber_46 rfl rfl rfl rfl (Nat.le_of_ble_eq_true rfl) (by decide) (pI.stay rfl ?_)
            refine z_if_eq (pc := 49) 81 C dX2_readsNumber_49 (by decide) (fun c_49 => ?_) (fun c_49 => ?_)
            · skip
              refine z_lv (lv' := [(0, _), (1, _), (2, _), (3, _)]) [0, 1, 2, 3] rfl ?_
              simp only [r_X2_readsNumber_33, if_pos c_49] at hF_33
              exact hF_33
            · skip
              refine z_bipush (pc := 52) (v := 10) C dX2_readsNumber_52 (by decide) ?_
              refine z_iload_n (pc := 54) C 2 dX2_readsNumber_54 rfl ?_
              refine z_imul (pc := 55) C dX2_readsNumber_55 ?_
              refine z_aload_n (pc := 56) C 0 dX2_readsNumber_56 rfl ?_
              refine z_callV (pc := 57) C (c_X2_byteHere (by exact hI_33.2.1)) [0, 1] z00 mV_X2_byteHere q_767 dX2_readsNumber_57 rfl rfl rfl 0 rfl rfl rfl rfl (Nat.le_of_ble_eq_true rfl) (by decide) (pI.stay rfl ?_)
              refine z_iadd (pc := 60) C dX2_readsNumber_60 ?_
              refine z_bipush (pc := 61) (v := 48) C dX2_readsNumber_61 (by decide) ?_
              refine z_isub (pc := 63) C dX2_readsNumber_63 ?_
              refine z_istore_n (pc := 64) [(2, _), (0, _), (1, _), (3, _)] C dX2_readsNumber_64 rfl (by decide) rfl ?_
              refine z_iinc (pc := 65) (v := _) [(3, _), (2, _), (0, _), (1, _)] C 3 dX2_readsNumber_65 rfl rfl (by decide) rfl ?_
              refine z_aload_n (pc := 68) C 2 dX2_readsNumber_68 rfl ?_
              refine z_dup (pc := 69) C dX2_readsNumber_69 rfl ?_
              refine z_get (pc := 70) C 0 2 dX2_readsNumber_70 rfl rfl i_X2 (by decide) q_241 rfl ?_
              refine z_iconst (pc := 73) (v := 1) C dX2_readsNumber_73 (by decide) ?_
              refine z_iadd (pc := 74) C dX2_readsNumber_74 ?_
              refine z_put (pc := 75) (wTx G xo xb bytes len _ num) C 0 2 dX2_readsNumber_75 rfl rfl i_X2 tyX2_ok nmX2 (by decide) q_241 rfl rfl rfl rfl (Nat.le_of_ble_eq_true rfl) rfl ?_
              refine z_goto (pc := 78) 33 C dX2_readsNumber_78 (by decide) ?_
              refine z_lv (lv' := [(0, _), (1, _), (2, _), (3, _)]) [2, 3, 1, 0] rfl ?_
              have h9 := ih_33 (i_33 + 1) (((10 * z_33.1) + (f_X2_byteHere bytes len z_33.2.2)) - 48, z_33.2.1 + 1, z_33.2.2 + 1) (by omega) (by dsimp only; exact ⟨by rw [hI_33.1]; exact (nI_succ _).symm, (tP_up hI_33.2 (bh_dig hI_33.2 c_49)).1⟩) (by simp only [r_X2_readsNumber_33, if_neg c_49] at hF_33; exact hF_33)
              dsimp only at h9
              exact h9
      have h9 := L_33 4 0 (0, 0, (if (if (f_X2_byteHere bytes len place) = 45 then 1 else 0 : Int32) = 0 then place else (place + 1) : Int32)) (by omega) (by dsimp only; exact ⟨rfl, tP_neg hp⟩)
      dsimp only at h9
      refine h9 ?_
      clear h9
      show Z X G 4 0 0 (wTx G xo xb bytes len ((r_X2_readsNumber_33 bytes len 4 0 (0, 0, (if (if (f_X2_byteHere bytes len place) = 45 then 1 else 0 : Int32) = 0 then place else (place + 1) : Int32))).2.2) num) 81 [(0, .ref xo), (1, .int (if (f_X2_byteHere bytes len place) = 45 then 1 else 0 : Int32)), (2, .int ((r_X2_readsNumber_33 bytes len 4 0 (0, 0, (if (if (f_X2_byteHere bytes len place) = 45 then 1 else 0 : Int32) = 0 then place else (place + 1) : Int32))).1)), (3, .int ((r_X2_readsNumber_33 bytes len 4 0 (0, 0, (if (if (f_X2_byteHere bytes len place) = 45 then 1 else 0 : Int32) = 0 then place else (place + 1) : Int32))).2.1))] []
      refine z_aload_n (pc := 81) C 0 dX2_readsNumber_81 rfl ?_
      refine z_iload_n (pc := 82) C 1 dX2_readsNumber_82 rfl ?_
      have K_92 : Z X G 4 0 0 (wTx G xo xb bytes len ((r_X2_readsNumber_33 bytes len 4 0 (0, 0, (if (if (f_X2_byteHere bytes len place) = 45 then 1 else 0 : Int32) = 0 then place else (place + 1) : Int32))).2.2) num) 92 [(0, .ref xo), (1, .int (if (f_X2_byteHere bytes len place) = 45 then 1 else 0 : Int32)), (2, .int ((r_X2_readsNumber_33 bytes len 4 0 (0, 0, (if (if (f_X2_byteHere bytes len place) = 45 then 1 else 0 : Int32) = 0 then place else (place + 1) : Int32))).1)), (3, .int ((r_X2_readsNumber_33 bytes len 4 0 (0, 0, (if (if (f_X2_byteHere bytes len place) = 45 then 1 else 0 : Int32) = 0 then place else (place + 1) : Int32))).2.1))] [.int (if (if (f_X2_byteHere bytes len place) = 45 then 1 else 0 : Int32) = 0 then ((r_X2_readsNumber_33 bytes len 4 0 (0, 0, (if (if (f_X2_byteHere bytes len place) = 45 then 1 else 0 : Int32) = 0 then place else (place + 1) : Int32))).1) else (-((r_X2_readsNumber_33 bytes len 4 0 (0, 0, (if (if (f_X2_byteHere bytes len place) = 45 then 1 else 0 : Int32) = 0 then place else (place + 1) : Int32))).1)) : Int32), .ref xo] := by
        refine z_put (pc := 92) (wTx G xo xb bytes len _ _) C 0 3 dX2_readsNumber_92 rfl rfl i_X2 tyX2_ok nmX2 (by decide) q_242 rfl rfl rfl rfl (Nat.le_of_ble_eq_true rfl) rfl ?_
        refine z_iload_n (pc := 95) C 3 dX2_readsNumber_95 rfl ?_
        refine z_iconst (pc := 96) (v := 1) C dX2_readsNumber_96 (by decide) ?_
        refine z_iconst (pc := 97) (v := 3) C dX2_readsNumber_97 (by decide) ?_
        refine z_callSN (pc := 98) C (c_X8_isWithin) [] z00 mS_X8_isWithin q_771 dX2_readsNumber_98 rfl rfl rfl rfl (Nat.le_of_ble_eq_true rfl) (by decide) (pI.stay rfl ?_)
        exact z_zret (pc := 101) C E dX2_readsNumber_101 (nb_X8_isWithin) (pI.mk rfl rfl)
      refine z_if_eq (pc := 83) 91 C dX2_readsNumber_83 (by decide) (fun c_83 => ?_) (fun c_83 => ?_)
      · skip
        refine z_iload_n (pc := 91) C 2 dX2_readsNumber_91 rfl ?_
        refine z_lv (lv' := [(0, _), (1, _), (2, _), (3, _)]) [0, 1, 2, 3] rfl ?_
        exact z_eq rfl rfl (by simp only [if_pos c_83]) K_92
      · skip
        refine z_iload_n (pc := 86) C 2 dX2_readsNumber_86 rfl ?_
        refine z_ineg (pc := 87) C dX2_readsNumber_87 ?_
        refine z_goto (pc := 88) 92 C dX2_readsNumber_88 (by decide) ?_
        refine z_lv (lv' := [(0, _), (1, _), (2, _), (3, _)]) [0, 1, 2, 3] rfl ?_
        exact z_eq rfl rfl (by simp only [if_neg c_83]) K_92
    refine z_if_eq (pc := 16) 29 C dX2_readsNumber_16 (by decide) (fun c_16 => ?_) (fun c_16 => ?_)
    · skip
      refine z_lv (lv' := [(0, _), (1, _)]) [1, 0] rfl ?_
      exact z_eq (by simp only [if_pos c_16]) rfl rfl K_29
    · skip
      refine z_aload_n (pc := 19) C 1 dX2_readsNumber_19 rfl ?_
      refine z_dup (pc := 20) C dX2_readsNumber_20 rfl ?_
      refine z_get (pc := 21) C 0 2 dX2_readsNumber_21 rfl rfl i_X2 (by decide) q_241 rfl ?_
      refine z_iconst (pc := 24) (v := 1) C dX2_readsNumber_24 (by decide) ?_
      refine z_iadd (pc := 25) C dX2_readsNumber_25 ?_
      refine z_put (pc := 26) (wTx G xo xb bytes len _ num) C 0 2 dX2_readsNumber_26 rfl rfl i_X2 tyX2_ok nmX2 (by decide) q_241 rfl rfl rfl rfl (Nat.le_of_ble_eq_true rfl) rfl ?_
      refine z_lv (lv' := [(0, _), (1, _)]) [1, 0] rfl ?_
      exact z_eq (by simp only [if_neg c_16]) rfl rfl K_29
  refine z_icmp_ne (pc := 6) 13 C dX2_readsNumber_6 (by decide) (fun c_6 => ?_) (fun c_6 => ?_)
  · skip
    refine z_iconst (pc := 13) (v := 0) C dX2_readsNumber_13 (by decide) ?_
    refine z_lv (lv' := [(0, _)]) [0] rfl ?_
    exact z_eq rfl rfl (by simp only [if_neg c_6]) K_14
  · skip
    refine z_iconst (pc := 9) (v := 1) C dX2_readsNumber_9 (by decide) ?_
    refine z_goto (pc := 10) 14 C dX2_readsNumber_10 (by decide) ?_
    refine z_lv (lv' := [(0, _)]) [0] rfl ?_
    exact z_eq rfl rfl (by simp only [if_pos c_6]) K_14
theorem nb_X2_readsNumber {bytes : Nat → Int32} {len : Int32} {place : Int32} : narrow .boolean (.int (f_X2_readsNumber bytes len place)) = .int (f_X2_readsNumber bytes len place) := by unfold f_X2_readsNumber; (repeat' split) <;> first | exact nb_X8_isWithin | rfl
