/-- how many of the first n came -/
def cn (came : Nat → Int32) : Nat → Nat
  | 0 => 0
  | n + 1 => cn came n + (if came n = 0 then 0 else 1)
theorem cn_le (came : Nat → Int32) : ∀ n, cn came n ≤ n
  | 0 => Nat.le_refl 0
  | n + 1 => by
    have := cn_le came n
    unfold cn
    split <;> omega
theorem cn_out {came : Nat → Int32} {k : Nat} {v : Int32} : ∀ n, n ≤ k → cn (upd came k v) n = cn came n
  | 0, _ => rfl
  | n + 1, h => by
    unfold cn
    rw [cn_out n (by omega), pk_un (by omega)]
theorem cn_in {came : Nat → Int32} {k : Nat} {v : Int32} (hk : came k = 0) (hv : ¬ v = 0) : ∀ n, k < n → cn (upd came k v) n = cn came n + 1
  | 0, h => absurd h (Nat.not_lt_zero _)
  | n + 1, h => by
    unfold cn
    by_cases e : k = n
    · subst e
      rw [cn_out k (Nat.le_refl k), pk_us, if_neg hv, if_pos hk]
    · rw [cn_in hk hv n (by omega), pk_un (fun q => e q.symm)]
      split <;> omega
theorem cn_pos {came : Nat → Int32} {k : Nat} {v : Int32} (hv : ¬ v = 0) : ∀ n, k < n → 1 ≤ cn (upd came k v) n
  | 0, h => absurd h (Nat.not_lt_zero _)
  | n + 1, h => by
    unfold cn
    by_cases e : k = n
    · subst e
      rw [pk_us, if_neg hv]; omega
    · have := cn_pos (came := came) (k := k) hv n (by omega)
      omega
/-- the pile: what lies on it are dots; with those taken off it holds no more than came -/
def spO (pile came : Nat → Int32) (pileL : Int32) (i : Nat) : Prop := 0 ≤ pileL.toInt ∧ pileL.toInt + i ≤ cn came 768 ∧ ∀ j : Nat, (j : Int) < pileL.toInt → 0 ≤ (pile j).toInt ∧ (pile j).toInt < 768
theorem spO_lt {pile came : Nat → Int32} {pileL : Int32} {i : Nat} (h : spO pile came pileL (i + 1)) : 0 ≤ pileL.toInt ∧ pileL.toInt < 768 := by
  have := cn_le came 768
  obtain ⟨a, b, -⟩ := h
  omega
theorem spO_x {pile came : Nat → Int32} {pileL : Int32} {i : Nat} (h : spO pile came pileL i) (hi : i = 768) : pileL ≤ 0 := by
  have := cn_le came 768
  obtain ⟨a, b, -⟩ := h
  rw [Int32.le_iff_toInt_le]
  have e0 : (0 : Int32).toInt = 0 := rfl
  omega
theorem spO_pop {pile came : Nat → Int32} {pileL : Int32} {i : Nat} (h : spO pile came pileL i) (h2 : ¬ pileL ≤ 0) : spO pile came (pileL - 1) (i + 1) ∧ vp_in (pileL - 1) 768 := by
  have := cn_le came 768
  obtain ⟨a, b, c⟩ := h
  have h3 : ¬ pileL.toInt ≤ (0 : Int32).toInt := fun q => h2 (Int32.le_iff_toInt_le.mpr q)
  have e0 : (0 : Int32).toInt = 0 := rfl
  have e1 : (1 : Int32).toInt = 1 := rfl
  have e : (pileL - 1).toInt = pileL.toInt - 1 := tI_sub (by omega) (by omega)
  refine ⟨⟨by omega, by omega, fun j hj => c j (by omega)⟩, ?_⟩
  rw [vp_in_iff]; omega
theorem ix_xy {x y : Int32} (hX : 0 ≤ x.toInt ∧ x.toInt ≤ 31) (hY : pY y) : vp_in (32 * y + x) 768 := by
  obtain ⟨b1, b2⟩ := hY
  have e2 : (32 * y).toInt = 32 * y.toInt := tI_mul rfl (by have : (32 : Int32).toInt = 32 := rfl; omega) (by have : (32 : Int32).toInt = 32 := rfl; omega)
  rw [vp_in_iff, tI_add (by omega) (by omega), e2]
  omega
theorem may_ne {a b c d : Int32} (h : ¬ (if a = 0 then 0 else if b = 0 then if c = d then 1 else 0 else 0 : Int32) = 0) : ¬ a = 0 ∧ b = 0 ∧ c = d := by
  by_cases h1 : a = 0
  · rw [if_pos h1] at h; exact absurd rfl h
  · rw [if_neg h1] at h
    by_cases h2 : b = 0
    · rw [if_pos h2] at h
      by_cases h3 : c = d
      · exact ⟨h1, h2, h3⟩
      · rw [if_neg h3] at h; exact absurd rfl h
    · rw [if_neg h2] at h; exact absurd rfl h
theorem sp_if {c1 c2 c3 : Prop} [Decidable c1] [Decidable c2] [Decidable c3] {a a' b b' : Nat → Int32} {p p' : Int32} {k : Nat} (h : spO a b p k) (h' : ¬ c1 → spO a' b' p' k) : spO (if c1 then a else if c2 then a' else if c3 then a else a') (if c1 then b else if c2 then b' else if c3 then b else b') (if c1 then p else if c2 then p' else if c3 then p else p') k := by
  by_cases h1 : c1
  · rw [if_pos h1, if_pos h1, if_pos h1]; exact h
  · rw [if_neg h1, if_neg h1, if_neg h1]
    by_cases h2 : c2
    · rw [if_pos h2, if_pos h2, if_pos h2]; exact h' h1
    · rw [if_neg h2, if_neg h2, if_neg h2]
      by_cases h3 : c3
      · rw [if_pos h3, if_pos h3, if_pos h3]; exact h
      · rw [if_neg h3, if_neg h3, if_neg h3]; exact h' h1

def g_X9_comes_pile (pile : Nat → Int32) (pileL : Int32) (x : Int32) (y : Int32) : Nat → Int32 := upd pile pileL.toNatClampNeg ((32 * y) + x)
def g_X9_comes_came (came : Nat → Int32) (x : Int32) (y : Int32) : Nat → Int32 := upd came ((32 * y) + x).toNatClampNeg (vp_nar .boolean 1)
def g_X9_comes_pileL (pileL : Int32) : Int32 := pileL + 1
set_option maxRecDepth 100000 in
theorem c_X9_comes {l : Launch} {G : zG} {da dn dp dr ds dl dc dt dg : Nat} {now : Nat → Int32} {past : Nat → Int32} {states : Int32} {refused : Nat → Int32} {aside : Nat → Int32} {pile : Nat → Int32} {came : Nat → Int32} {pileL : Int32} {text : Nat → Int32} {textL : Int32} {place : Int32} {nargs : Nat → Int32} {x : Int32} {y : Int32} (hX : 0 ≤ x.toInt ∧ x.toInt ≤ 31) (hY : pY y) (hl : 0 ≤ pileL.toInt ∧ pileL.toInt < 768) : Ct l G yX9_comes cX9_comes 3 (Option.none : Option Jvm.ClassFile.FieldType) 0 0 [.ref da, .int x, .int y] (wMd G da dn dp dr ds dl dc dt dg now past states refused aside pile came pileL text textL place nargs) (pV (wMd G da dn dp dr ds dl dc dt dg now past states refused aside (g_X9_comes_pile pile pileL x y) (g_X9_comes_came came x y) (g_X9_comes_pileL pileL) text textL place nargs)) := by
  refine Ct.of (plainFor_of_name (by decide)) (Nat.le_of_ble_eq_true rfl) (pV.ad ad_Md) (fun X C E => ?_)
  show Z X G 3 0 0 _ 0 [(0, .ref da), (1, .int x), (2, .int y)] []
  refine z_aload_n (pc := 0) C 0 dX9_comes_0 rfl ?_
  refine z_get (pc := 1) C 0 6 dX9_comes_1 rfl rfl i_X9 (by decide) q_835 rfl ?_
  refine z_bipush (pc := 4) (v := 32) C dX9_comes_4 (by decide) ?_
  refine z_iload_n (pc := 6) C 2 dX9_comes_6 rfl ?_
  refine z_imul (pc := 7) C dX9_comes_7 ?_
  refine z_iload_n (pc := 8) C 1 dX9_comes_8 rfl ?_
  refine z_iadd (pc := 9) C dX9_comes_9 ?_
  refine z_iconst (pc := 10) (v := 1) C dX9_comes_10 (by decide) ?_
  refine z_zast (pc := 11) (wMd G da dn dp dr ds dl dc dt dg now past states refused aside pile _ pileL text textL place nargs) C 6 dX9_comes_11 rfl (ix_xy hX hY) rfl ?_
  refine z_aload_n (pc := 12) C 0 dX9_comes_12 rfl ?_
  refine z_get (pc := 13) C 0 5 dX9_comes_13 rfl rfl i_X9 (by decide) q_834 rfl ?_
  refine z_aload_n (pc := 16) C 0 dX9_comes_16 rfl ?_
  refine z_get (pc := 17) C 0 7 dX9_comes_17 rfl rfl i_X9 (by decide) q_836 rfl ?_
  refine z_bipush (pc := 20) (v := 32) C dX9_comes_20 (by decide) ?_
  refine z_iload_n (pc := 22) C 2 dX9_comes_22 rfl ?_
  refine z_imul (pc := 23) C dX9_comes_23 ?_
  refine z_iload_n (pc := 24) C 1 dX9_comes_24 rfl ?_
  refine z_iadd (pc := 25) C dX9_comes_25 ?_
  refine z_iast (pc := 26) (wMd G da dn dp dr ds dl dc dt dg now past states refused aside _ _ pileL text textL place nargs) C 5 dX9_comes_26 rfl (vp_in_iff.mpr hl) rfl ?_
  refine z_aload_n (pc := 27) C 0 dX9_comes_27 rfl ?_
  refine z_dup (pc := 28) C dX9_comes_28 rfl ?_
  refine z_get (pc := 29) C 0 7 dX9_comes_29 rfl rfl i_X9 (by decide) q_836 rfl ?_
  refine z_iconst (pc := 32) (v := 1) C dX9_comes_32 (by decide) ?_
  refine z_iadd (pc := 33) C dX9_comes_33 ?_
  refine z_put (pc := 34) (wMd G da dn dp dr ds dl dc dt dg now past states refused aside _ _ _ text textL place nargs) C 0 7 dX9_comes_34 rfl rfl i_X9 tyX9_ok nmX9 (by decide) q_836 rfl rfl rfl rfl (Nat.le_of_ble_eq_true rfl) rfl ?_
  exact z_vret (pc := 37) C E dX9_comes_37 (pV.mk rfl)

theorem spO_comes {pile came : Nat → Int32} {pileL x y : Int32} {i : Nat} (hX : 0 ≤ x.toInt ∧ x.toInt ≤ 31) (hY : pY y) (hl : 0 ≤ pileL.toInt ∧ pileL.toInt < 768) (hp : ∀ j : Nat, (j : Int) < pileL.toInt → 0 ≤ (pile j).toInt ∧ (pile j).toInt < 768) (hc : pileL.toInt + 1 + i ≤ cn (g_X9_comes_came came x y) 768) : spO (g_X9_comes_pile pile pileL x y) (g_X9_comes_came came x y) (g_X9_comes_pileL pileL) i := by
  have e1 : (1 : Int32).toInt = 1 := rfl
  have e : (pileL + 1).toInt = pileL.toInt + 1 := tI_add (by omega) (by omega)
  have hi := vp_in_iff.mp (ix_xy hX hY)
  have ek : (pileL.toNatClampNeg : Int) = pileL.toInt := Int.toNat_of_nonneg hl.1
  unfold g_X9_comes_pile g_X9_comes_pileL
  refine ⟨by omega, by omega, fun j hj => ?_⟩
  by_cases hq : j = pileL.toNatClampNeg
  · subst hq; rw [pk_us]; exact hi
  · rw [pk_un hq]; exact hp j (by omega)
theorem spO_push {pile came : Nat → Int32} {pileL x y : Int32} {i : Nat} (hX : 0 ≤ x.toInt ∧ x.toInt ≤ 31) (hY : pY y) (h : spO pile came pileL (i + 1)) (hc : came (32 * y + x).toNatClampNeg = 0) : spO (g_X9_comes_pile pile pileL x y) (g_X9_comes_came came x y) (g_X9_comes_pileL pileL) (i + 1) := by
  have hl := spO_lt h
  obtain ⟨a, b, c⟩ := h
  have hk : (32 * y + x).toNatClampNeg < 768 := Nat.not_le.mp fun q => ix_xy hX hY (Or.inr q)
  have hn : cn (g_X9_comes_came came x y) 768 = cn came 768 + 1 := cn_in hc (by decide) 768 hk
  exact spO_comes hX hY hl c (by rw [hn]; omega)
theorem spO_first {pile came : Nat → Int32} {x y : Int32} (hX : 0 ≤ x.toInt ∧ x.toInt ≤ 31) (hY : pY y) : spO (g_X9_comes_pile pile 0 x y) (g_X9_comes_came came x y) (g_X9_comes_pileL 0) 0 := by
  have hk : (32 * y + x).toNatClampNeg < 768 := Nat.not_le.mp fun q => ix_xy hX hY (Or.inr q)
  have h1 : 1 ≤ cn (g_X9_comes_came came x y) 768 := cn_pos (by decide) 768 hk
  have e0 : (0 : Int32).toInt = 0 := rfl
  exact spO_comes hX hY ⟨by decide, by decide⟩ (fun j hj => by omega) (by omega)

def b_X9_noneCame_2  (i_2 : Nat) (z_2 : (Nat → Int32)) : (Nat → Int32) := upd z_2 (nI i_2).toNatClampNeg (vp_nar .boolean 0)
def s_X9_noneCame_2 (came : Nat → Int32) : Nat → (Nat → Int32)
  | 0 => came
  | i_2 + 1 => b_X9_noneCame_2  i_2 (s_X9_noneCame_2 came i_2)
def g_X9_noneCame_came (came : Nat → Int32) : Nat → Int32 := (s_X9_noneCame_2 came 768)
set_option maxRecDepth 100000 in
theorem c_X9_noneCame {l : Launch} {G : zG} {da dn dp dr ds dl dc dt dg : Nat} {now : Nat → Int32} {past : Nat → Int32} {states : Int32} {refused : Nat → Int32} {aside : Nat → Int32} {pile : Nat → Int32} {came : Nat → Int32} {pileL : Int32} {text : Nat → Int32} {textL : Int32} {place : Int32} {nargs : Nat → Int32} : Ct l G yX9_noneCame cX9_noneCame 2 (Option.none : Option Jvm.ClassFile.FieldType) 0 0 [.ref da] (wMd G da dn dp dr ds dl dc dt dg now past states refused aside pile came pileL text textL place nargs) (pV (wMd G da dn dp dr ds dl dc dt dg now past states refused aside pile (g_X9_noneCame_came came) pileL text textL place nargs)) := by
  refine Ct.of (plainFor_of_name (by decide)) (Nat.le_of_ble_eq_true rfl) (pV.ad ad_Md) (fun X C E => ?_)
  show Z X G 2 0 0 _ 0 [(0, .ref da)] []
  refine z_iconst (pc := 0) (v := 0) C dX9_noneCame_0 (by decide) ?_
  refine z_istore_n (pc := 1) [(1, _), (0, _)] C dX9_noneCame_1 rfl (by decide) rfl ?_
  refine z_lv (lv' := [(0, _), (1, _)]) [1, 0] rfl ?_
  refine z_loop (pc := 2) (e := 768) (fun i_2 => wMd G da dn dp dr ds dl dc dt dg now past states refused aside pile (s_X9_noneCame_2 came i_2) pileL text textL place nargs) (fun i_2 => [(0, .ref da), (1, .int (nI i_2))]) [] (fun i_2 hi_2 ih_2 => ?_) ?_ 0 (Nat.zero_le _)
  · show Z X G 2 0 0 (wMd G da dn dp dr ds dl dc dt dg now past states refused aside pile (s_X9_noneCame_2 came i_2) pileL text textL place nargs) 2 [(0, .ref da), (1, .int (nI i_2))] []
    generalize hz_2 : s_X9_noneCame_2 came i_2 = z_2
    refine z_iload_n (pc := 2) C 1 dX9_noneCame_2 rfl ?_
    refine z_sipush (pc := 3) (v := 768) C dX9_noneCame_3 (by decide) ?_
    refine z_icmp_ge (pc := 6) 22 C dX9_noneCame_6 (by decide) (fun c_6 => ?_) (fun c_6 => ?_)
    · skip
      exact absurd c_6 (nI_ge (b := 768) (by omega) (by decide))
    · skip
      refine z_aload_n (pc := 9) C 0 dX9_noneCame_9 rfl ?_
      refine z_get (pc := 10) C 0 6 dX9_noneCame_10 rfl rfl i_X9 (by decide) q_835 rfl ?_
      refine z_iload_n (pc := 13) C 1 dX9_noneCame_13 rfl ?_
      refine z_iconst (pc := 14) (v := 0) C dX9_noneCame_14 (by decide) ?_
      refine z_zast (pc := 15) (wMd G da dn dp dr ds dl dc dt dg now past states refused aside pile _ pileL text textL place nargs) C 6 dX9_noneCame_15 rfl (ix_nI hi_2 (by decide)) rfl ?_
      refine z_iinc (pc := 16) (v := nI (i_2 + 1)) [(1, _), (0, _)] C 1 dX9_noneCame_16 rfl ((nI_succ _).symm) (by decide) rfl ?_
      refine z_goto (pc := 19) 2 C dX9_noneCame_19 (by decide) ?_
      refine z_lv (lv' := [(0, _), (1, _)]) [1, 0] rfl ?_
      exact z_eq (by simp only [s_X9_noneCame_2, hz_2, b_X9_noneCame_2]) rfl rfl ih_2
  · show Z X G 2 0 0 (wMd G da dn dp dr ds dl dc dt dg now past states refused aside pile (s_X9_noneCame_2 came 768) pileL text textL place nargs) 2 [(0, .ref da), (1, .int (nI 768))] []
    refine z_iload_n (pc := 2) C 1 dX9_noneCame_2 rfl ?_
    refine z_sipush (pc := 3) (v := 768) C dX9_noneCame_3 (by decide) ?_
    refine z_icmp_ge (pc := 6) 22 C dX9_noneCame_6 (by decide) (fun c_6 => ?_) (fun c_6 => ?_)
    · skip
      exact z_vret (pc := 22) C E dX9_noneCame_22 (pV.mk rfl)
    · skip
      exact absurd (nI_le (Nat.le_refl 768) (by decide)) c_6

def f_X9_mayFlood (now : Nat → Int32) (x : Int32) (y : Int32) : Int32 := if (f_X9_isIn x y) = 0 then 0 else if (f_X9_isOpen now x y) = 0 then 0 else 1
set_option maxRecDepth 100000 in
theorem c_X9_mayFlood {l : Launch} {G : zG} {da dn dp dr ds dl dc dt dg : Nat} {now : Nat → Int32} {past : Nat → Int32} {states : Int32} {refused : Nat → Int32} {aside : Nat → Int32} {pile : Nat → Int32} {came : Nat → Int32} {pileL : Int32} {text : Nat → Int32} {textL : Int32} {place : Int32} {nargs : Nat → Int32} {x : Int32} {y : Int32} (hm : mOk now) : Ct l G yX9_mayFlood cX9_mayFlood 3 (Option.some FieldType.boolean) 2 50 [.ref da, .int x, .int y] (wMd G da dn dp dr ds dl dc dt dg now past states refused aside pile came pileL text textL place nargs) (pI (f_X9_mayFlood now x y) (wMd G da dn dp dr ds dl dc dt dg now past states refused aside pile came pileL text textL place nargs)) := by
  refine Ct.of (plainFor_of_name (by decide)) (Nat.le_of_ble_eq_true rfl) (pI.ad ad_Md) (fun X C E => ?_)
  show Z X G 3 0 0 _ 0 [(0, .ref da), (1, .int x), (2, .int y)] []
  refine z_iload_n (pc := 0) C 1 dX9_mayFlood_0 rfl ?_
  refine z_iload_n (pc := 1) C 2 dX9_mayFlood_1 rfl ?_
  refine z_callS (pc := 2) C (c_X9_isIn) [] z00 mS_X9_isIn q_878 dX9_mayFlood_2 rfl rfl rfl rfl (Nat.le_of_ble_eq_true rfl) (by decide) (pI.stay rfl ?_)
  refine z_if_eq (pc := 5) 21 C dX9_mayFlood_5 (by decide) (fun c_5 => ?_) (fun c_5 => ?_)
  · skip
    refine z_iconst (pc := 21) (v := 0) C dX9_mayFlood_21 (by decide) ?_
    exact z_zret (pc := 22) C E dX9_mayFlood_22 (by first | rfl | assumption) (pI.mk (by simp only [f_X9_mayFlood, if_pos c_5]) rfl)
  · skip
    refine z_aload_n (pc := 8) C 0 dX9_mayFlood_8 rfl ?_
    refine z_iload_n (pc := 9) C 1 dX9_mayFlood_9 rfl ?_
    refine z_iload_n (pc := 10) C 2 dX9_mayFlood_10 rfl ?_
    refine z_callV (pc := 11) C (c_X9_isOpen (by assumption)) [0, 1, 2, 3, 4, 5, 6, 7, 8] z00 mV_X9_isOpen q_974 dX9_mayFlood_11 rfl rfl rfl 0 rfl rfl rfl rfl (Nat.le_of_ble_eq_true rfl) (by decide) (pI.stay rfl ?_)
    refine z_if_eq (pc := 14) 21 C dX9_mayFlood_14 (by decide) (fun c_14 => ?_) (fun c_14 => ?_)
    · skip
      refine z_iconst (pc := 21) (v := 0) C dX9_mayFlood_21 (by decide) ?_
      exact z_zret (pc := 22) C E dX9_mayFlood_22 (by first | rfl | assumption) (pI.mk (by simp only [f_X9_mayFlood, if_neg c_5, if_pos c_14]) rfl)
    · skip
      refine z_iconst (pc := 17) (v := 1) C dX9_mayFlood_17 (by decide) ?_
      refine z_goto (pc := 18) 22 C dX9_mayFlood_18 (by decide) ?_
      exact z_zret (pc := 22) C E dX9_mayFlood_22 (by first | rfl | assumption) (pI.mk (by simp only [f_X9_mayFlood, if_neg c_5, if_neg c_14]) rfl)
theorem nb_X9_mayFlood {now : Nat → Int32} {x : Int32} {y : Int32} : narrow .boolean (.int (f_X9_mayFlood now x y)) = .int (f_X9_mayFlood now x y) := by unfold f_X9_mayFlood; (repeat' split) <;> first | rfl

def b_X9_spreads_74 (now : Nat → Int32) (t : Int32) (x0 : Int32) (y0 : Int32) (areOpen : Int32) (z_23 : Int32 × (Nat → Int32) × (Nat → Int32) × Int32) (i_74 : Nat) (z_74 : (Nat → Int32) × (Nat → Int32) × Int32) : (Nat → Int32) × (Nat → Int32) × Int32 := ((if (if (f_X9_isIn (((z_23.2.1 (z_23.2.2.2 - 1).toNatClampNeg) - (z_23.2.1 (z_23.2.2.2 - 1).toNatClampNeg) / 32 * 32) + (if (nI i_74) = 0 then 1 else if (nI i_74) = 1 then (-1) else 0 : Int32)) (((z_23.2.1 (z_23.2.2.2 - 1).toNatClampNeg) / 32) + (if (nI i_74) = 2 then 1 else if (nI i_74) = 3 then (-1) else 0 : Int32))) = 0 then 0 else if (z_74.2.1 ((32 * (((z_23.2.1 (z_23.2.2.2 - 1).toNatClampNeg) / 32) + (if (nI i_74) = 2 then 1 else if (nI i_74) = 3 then (-1) else 0 : Int32))) + (((z_23.2.1 (z_23.2.2.2 - 1).toNatClampNeg) - (z_23.2.1 (z_23.2.2.2 - 1).toNatClampNeg) / 32 * 32) + (if (nI i_74) = 0 then 1 else if (nI i_74) = 1 then (-1) else 0 : Int32))).toNatClampNeg) = 0 then if (f_X9_dotOf now t (((z_23.2.1 (z_23.2.2.2 - 1).toNatClampNeg) - (z_23.2.1 (z_23.2.2.2 - 1).toNatClampNeg) / 32 * 32) + (if (nI i_74) = 0 then 1 else if (nI i_74) = 1 then (-1) else 0 : Int32)) (((z_23.2.1 (z_23.2.2.2 - 1).toNatClampNeg) / 32) + (if (nI i_74) = 2 then 1 else if (nI i_74) = 3 then (-1) else 0 : Int32))) = (f_X9_dotOf now t x0 y0) then 1 else 0 else 0 : Int32) = 0 then z_74.1 else if areOpen = 0 then (g_X9_comes_pile z_74.1 z_74.2.2 (((z_23.2.1 (z_23.2.2.2 - 1).toNatClampNeg) - (z_23.2.1 (z_23.2.2.2 - 1).toNatClampNeg) / 32 * 32) + (if (nI i_74) = 0 then 1 else if (nI i_74) = 1 then (-1) else 0 : Int32)) (((z_23.2.1 (z_23.2.2.2 - 1).toNatClampNeg) / 32) + (if (nI i_74) = 2 then 1 else if (nI i_74) = 3 then (-1) else 0 : Int32))) else if (f_X9_isOpen now (((z_23.2.1 (z_23.2.2.2 - 1).toNatClampNeg) - (z_23.2.1 (z_23.2.2.2 - 1).toNatClampNeg) / 32 * 32) + (if (nI i_74) = 0 then 1 else if (nI i_74) = 1 then (-1) else 0 : Int32)) (((z_23.2.1 (z_23.2.2.2 - 1).toNatClampNeg) / 32) + (if (nI i_74) = 2 then 1 else if (nI i_74) = 3 then (-1) else 0 : Int32))) = 0 then z_74.1 else (g_X9_comes_pile z_74.1 z_74.2.2 (((z_23.2.1 (z_23.2.2.2 - 1).toNatClampNeg) - (z_23.2.1 (z_23.2.2.2 - 1).toNatClampNeg) / 32 * 32) + (if (nI i_74) = 0 then 1 else if (nI i_74) = 1 then (-1) else 0 : Int32)) (((z_23.2.1 (z_23.2.2.2 - 1).toNatClampNeg) / 32) + (if (nI i_74) = 2 then 1 else if (nI i_74) = 3 then (-1) else 0 : Int32))) : Nat → Int32), (if (if (f_X9_isIn (((z_23.2.1 (z_23.2.2.2 - 1).toNatClampNeg) - (z_23.2.1 (z_23.2.2.2 - 1).toNatClampNeg) / 32 * 32) + (if (nI i_74) = 0 then 1 else if (nI i_74) = 1 then (-1) else 0 : Int32)) (((z_23.2.1 (z_23.2.2.2 - 1).toNatClampNeg) / 32) + (if (nI i_74) = 2 then 1 else if (nI i_74) = 3 then (-1) else 0 : Int32))) = 0 then 0 else if (z_74.2.1 ((32 * (((z_23.2.1 (z_23.2.2.2 - 1).toNatClampNeg) / 32) + (if (nI i_74) = 2 then 1 else if (nI i_74) = 3 then (-1) else 0 : Int32))) + (((z_23.2.1 (z_23.2.2.2 - 1).toNatClampNeg) - (z_23.2.1 (z_23.2.2.2 - 1).toNatClampNeg) / 32 * 32) + (if (nI i_74) = 0 then 1 else if (nI i_74) = 1 then (-1) else 0 : Int32))).toNatClampNeg) = 0 then if (f_X9_dotOf now t (((z_23.2.1 (z_23.2.2.2 - 1).toNatClampNeg) - (z_23.2.1 (z_23.2.2.2 - 1).toNatClampNeg) / 32 * 32) + (if (nI i_74) = 0 then 1 else if (nI i_74) = 1 then (-1) else 0 : Int32)) (((z_23.2.1 (z_23.2.2.2 - 1).toNatClampNeg) / 32) + (if (nI i_74) = 2 then 1 else if (nI i_74) = 3 then (-1) else 0 : Int32))) = (f_X9_dotOf now t x0 y0) then 1 else 0 else 0 : Int32) = 0 then z_74.2.1 else if areOpen = 0 then (g_X9_comes_came z_74.2.1 (((z_23.2.1 (z_23.2.2.2 - 1).toNatClampNeg) - (z_23.2.1 (z_23.2.2.2 - 1).toNatClampNeg) / 32 * 32) + (if (nI i_74) = 0 then 1 else if (nI i_74) = 1 then (-1) else 0 : Int32)) (((z_23.2.1 (z_23.2.2.2 - 1).toNatClampNeg) / 32) + (if (nI i_74) = 2 then 1 else if (nI i_74) = 3 then (-1) else 0 : Int32))) else if (f_X9_isOpen now (((z_23.2.1 (z_23.2.2.2 - 1).toNatClampNeg) - (z_23.2.1 (z_23.2.2.2 - 1).toNatClampNeg) / 32 * 32) + (if (nI i_74) = 0 then 1 else if (nI i_74) = 1 then (-1) else 0 : Int32)) (((z_23.2.1 (z_23.2.2.2 - 1).toNatClampNeg) / 32) + (if (nI i_74) = 2 then 1 else if (nI i_74) = 3 then (-1) else 0 : Int32))) = 0 then z_74.2.1 else (g_X9_comes_came z_74.2.1 (((z_23.2.1 (z_23.2.2.2 - 1).toNatClampNeg) - (z_23.2.1 (z_23.2.2.2 - 1).toNatClampNeg) / 32 * 32) + (if (nI i_74) = 0 then 1 else if (nI i_74) = 1 then (-1) else 0 : Int32)) (((z_23.2.1 (z_23.2.2.2 - 1).toNatClampNeg) / 32) + (if (nI i_74) = 2 then 1 else if (nI i_74) = 3 then (-1) else 0 : Int32))) : Nat → Int32), (if (if (f_X9_isIn (((z_23.2.1 (z_23.2.2.2 - 1).toNatClampNeg) - (z_23.2.1 (z_23.2.2.2 - 1).toNatClampNeg) / 32 * 32) + (if (nI i_74) = 0 then 1 else if (nI i_74) = 1 then (-1) else 0 : Int32)) (((z_23.2.1 (z_23.2.2.2 - 1).toNatClampNeg) / 32) + (if (nI i_74) = 2 then 1 else if (nI i_74) = 3 then (-1) else 0 : Int32))) = 0 then 0 else if (z_74.2.1 ((32 * (((z_23.2.1 (z_23.2.2.2 - 1).toNatClampNeg) / 32) + (if (nI i_74) = 2 then 1 else if (nI i_74) = 3 then (-1) else 0 : Int32))) + (((z_23.2.1 (z_23.2.2.2 - 1).toNatClampNeg) - (z_23.2.1 (z_23.2.2.2 - 1).toNatClampNeg) / 32 * 32) + (if (nI i_74) = 0 then 1 else if (nI i_74) = 1 then (-1) else 0 : Int32))).toNatClampNeg) = 0 then if (f_X9_dotOf now t (((z_23.2.1 (z_23.2.2.2 - 1).toNatClampNeg) - (z_23.2.1 (z_23.2.2.2 - 1).toNatClampNeg) / 32 * 32) + (if (nI i_74) = 0 then 1 else if (nI i_74) = 1 then (-1) else 0 : Int32)) (((z_23.2.1 (z_23.2.2.2 - 1).toNatClampNeg) / 32) + (if (nI i_74) = 2 then 1 else if (nI i_74) = 3 then (-1) else 0 : Int32))) = (f_X9_dotOf now t x0 y0) then 1 else 0 else 0 : Int32) = 0 then z_74.2.2 else if areOpen = 0 then (g_X9_comes_pileL z_74.2.2) else if (f_X9_isOpen now (((z_23.2.1 (z_23.2.2.2 - 1).toNatClampNeg) - (z_23.2.1 (z_23.2.2.2 - 1).toNatClampNeg) / 32 * 32) + (if (nI i_74) = 0 then 1 else if (nI i_74) = 1 then (-1) else 0 : Int32)) (((z_23.2.1 (z_23.2.2.2 - 1).toNatClampNeg) / 32) + (if (nI i_74) = 2 then 1 else if (nI i_74) = 3 then (-1) else 0 : Int32))) = 0 then z_74.2.2 else (g_X9_comes_pileL z_74.2.2) : Int32))
def s_X9_spreads_74 (now : Nat → Int32) (t : Int32) (x0 : Int32) (y0 : Int32) (areOpen : Int32) (z_23 : Int32 × (Nat → Int32) × (Nat → Int32) × Int32) : Nat → (Nat → Int32) × (Nat → Int32) × Int32
  | 0 => (z_23.2.1, z_23.2.2.1, z_23.2.2.2 - 1)
  | i_74 + 1 => b_X9_spreads_74 now t x0 y0 areOpen z_23 i_74 (s_X9_spreads_74 now t x0 y0 areOpen z_23 i_74)
def r_X9_spreads_23 (now : Nat → Int32) (t : Int32) (x0 : Int32) (y0 : Int32) (areOpen : Int32) : Nat → Nat → (Int32 × (Nat → Int32) × (Nat → Int32) × Int32) → Int32 × (Nat → Int32) × (Nat → Int32) × Int32
  | 0, i_23, z_23 => (z_23.1, z_23.2.1, z_23.2.2.1, z_23.2.2.2)
  | n_23 + 1, i_23, z_23 => if z_23.2.2.2 ≤ 0 then (z_23.1, z_23.2.1, z_23.2.2.1, z_23.2.2.2) else r_X9_spreads_23 now t x0 y0 areOpen n_23 (i_23 + 1) (z_23.1 + 1, (s_X9_spreads_74 now t x0 y0 areOpen z_23 4).1, (s_X9_spreads_74 now t x0 y0 areOpen z_23 4).2.1, (s_X9_spreads_74 now t x0 y0 areOpen z_23 4).2.2)
def f_X9_spreads (now : Nat → Int32) (pile : Nat → Int32) (came : Nat → Int32) (t : Int32) (x0 : Int32) (y0 : Int32) (areOpen : Int32) : Int32 := (r_X9_spreads_23 now t x0 y0 areOpen 768 0 (0, g_X9_comes_pile pile 0 x0 y0, g_X9_comes_came came x0 y0, g_X9_comes_pileL 0)).1
def g_X9_spreads_pile (now : Nat → Int32) (pile : Nat → Int32) (came : Nat → Int32) (t : Int32) (x0 : Int32) (y0 : Int32) (areOpen : Int32) : Nat → Int32 := (r_X9_spreads_23 now t x0 y0 areOpen 768 0 (0, g_X9_comes_pile pile 0 x0 y0, g_X9_comes_came came x0 y0, g_X9_comes_pileL 0)).2.1
def g_X9_spreads_came (now : Nat → Int32) (pile : Nat → Int32) (came : Nat → Int32) (t : Int32) (x0 : Int32) (y0 : Int32) (areOpen : Int32) : Nat → Int32 := (r_X9_spreads_23 now t x0 y0 areOpen 768 0 (0, g_X9_comes_pile pile 0 x0 y0, g_X9_comes_came came x0 y0, g_X9_comes_pileL 0)).2.2.1
def g_X9_spreads_pileL (now : Nat → Int32) (pile : Nat → Int32) (came : Nat → Int32) (t : Int32) (x0 : Int32) (y0 : Int32) (areOpen : Int32) : Int32 := (r_X9_spreads_23 now t x0 y0 areOpen 768 0 (0, g_X9_comes_pile pile 0 x0 y0, g_X9_comes_came came x0 y0, g_X9_comes_pileL 0)).2.2.2
theorem i_X9_spreads_74 {now : Nat → Int32} {t : Int32} {x0 : Int32} {y0 : Int32} {areOpen : Int32} {z_23 : Int32 × (Nat → Int32) × (Nat → Int32) × Int32} (k : Nat) (h0 : spO (z_23.2.1, z_23.2.2.1, z_23.2.2.2 - 1).1 (z_23.2.1, z_23.2.2.1, z_23.2.2.2 - 1).2.1 (z_23.2.1, z_23.2.2.1, z_23.2.2.2 - 1).2.2 (k + 1)) : ∀ i : Nat, spO (s_X9_spreads_74 now t x0 y0 areOpen z_23 i).1 (s_X9_spreads_74 now t x0 y0 areOpen z_23 i).2.1 (s_X9_spreads_74 now t x0 y0 areOpen z_23 i).2.2 (k + 1) := by
  intro i
  induction i with
  | zero => exact h0
  | succ i ih => unfold s_X9_spreads_74 b_X9_spreads_74; dsimp only; exact sp_if ih (fun q => spO_push (mI_ne (may_ne q).1).1 (mI_ne (may_ne q).1).2 ih (may_ne q).2.1)
set_option maxRecDepth 100000 in
theorem c_X9_spreads {l : Launch} {G : zG} {da dn dp dr ds dl dc dt dg : Nat} {now : Nat → Int32} {past : Nat → Int32} {states : Int32} {refused : Nat → Int32} {aside : Nat → Int32} {pile : Nat → Int32} {came : Nat → Int32} {pileL : Int32} {text : Nat → Int32} {textL : Int32} {place : Int32} {nargs : Nat → Int32} {t : Int32} {x0 : Int32} {y0 : Int32} {areOpen : Int32} (hT : pT t) (hm : mOk now) (hX : 0 ≤ x0.toInt ∧ x0.toInt ≤ 31) (hY : pY y0) : Ct l G yX9_spreads cX9_spreads 13 (Option.some FieldType.int) 3 69 [.ref da, .int t, .int x0, .int y0, .int areOpen] (wMd G da dn dp dr ds dl dc dt dg now past states refused aside pile came pileL text textL place nargs) (pI (f_X9_spreads now pile came t x0 y0 areOpen) (wMd G da dn dp dr ds dl dc dt dg now past states refused aside (g_X9_spreads_pile now pile came t x0 y0 areOpen) (g_X9_spreads_came now pile came t x0 y0 areOpen) (g_X9_spreads_pileL now pile came t x0 y0 areOpen) text textL place nargs)) := by
  refine Ct.of (plainFor_of_name (by decide)) (Nat.le_of_ble_eq_true rfl) (pI.ad ad_Md) (fun X C E => ?_)
  show Z X G 13 0 0 _ 0 [(0, .ref da), (1, .int t), (2, .int x0), (3, .int y0), (4, .int areOpen)] []
  refine z_aload_n (pc := 0) C 0 dX9_spreads_0 rfl ?_
  refine z_iload_n (pc := 1) C 1 dX9_spreads_1 rfl ?_
  refine z_iload_n (pc := 2) C 2 dX9_spreads_2 rfl ?_
  refine z_iload_n (pc := 3) C 3 dX9_spreads_3 rfl ?_
  refine z_callV (pc := 4) C (c_X9_dotOf (by exact hT)) [0, 1, 2, 3, 4, 5, 6, 7, 8] z00 mV_X9_dotOf q_895 dX9_spreads_4 rfl rfl rfl 0 rfl rfl rfl rfl (Nat.le_of_ble_eq_true rfl) (by decide) (pI.stay rfl ?_)
  refine z_istore (pc := 7) [(5, _), (0, _), (1, _), (2, _), (3, _), (4, _)] C dX9_spreads_7 (by decide) rfl ?_
  refine z_iconst (pc := 9) (v := 0) C dX9_spreads_9 (by decide) ?_
  refine z_istore (pc := 10) [(6, _), (5, _), (0, _), (1, _), (2, _), (3, _), (4, _)] C dX9_spreads_10 (by decide) rfl ?_
  refine z_aload_n (pc := 12) C 2 dX9_spreads_12 rfl ?_
  refine z_iconst (pc := 13) (v := 0) C dX9_spreads_13 (by decide) ?_
  refine z_put (pc := 14) (wMd G da dn dp dr ds dl dc dt dg now past states refused aside pile came _ text textL place nargs) C 0 7 dX9_spreads_14 rfl rfl i_X9 tyX9_ok nmX9 (by decide) q_836 rfl rfl rfl rfl (Nat.le_of_ble_eq_true rfl) rfl ?_
  refine z_aload_n (pc := 17) C 2 dX9_spreads_17 rfl ?_
  refine z_iload_n (pc := 18) C 4 dX9_spreads_18 rfl ?_
  refine z_iload_n (pc := 19) C 5 dX9_spreads_19 rfl ?_
  refine z_callV (pc := 20) C (c_X9_comes (by exact hX) (by exact hY) (by exact ⟨by decide, by decide⟩)) [0, 1, 2, 3, 4, 5, 6, 7, 8] z00 mV_X9_comes q_1020 dX9_spreads_20 rfl rfl rfl 0 rfl rfl rfl rfl (Nat.le_of_ble_eq_true rfl) (by decide) (pV.go (ws' := wMd G da dn dp dr ds dl dc dt dg now past states refused aside _ _ _ text textL place nargs) rfl ?_)
  refine z_lv (lv' := [(0, _), (1, _), (2, _), (3, _), (4, _), (5, _), (6, _)]) [2, 3, 4, 5, 6, 1, 0] rfl ?_
  have L_23 : ∀ (n_23 i_23 : Nat) (z_23 : Int32 × (Nat → Int32) × (Nat → Int32) × Int32), n_23 + i_23 = 768 → spO z_23.2.1 z_23.2.2.1 z_23.2.2.2 i_23 → r_X9_spreads_23 now t x0 y0 areOpen n_23 i_23 z_23 = r_X9_spreads_23 now t x0 y0 areOpen 768 0 (0, g_X9_comes_pile pile 0 x0 y0, g_X9_comes_came came x0 y0, g_X9_comes_pileL 0) → Z X G 13 0 0 (wMd G da dn dp dr ds dl dc dt dg now past states refused aside z_23.2.1 z_23.2.2.1 z_23.2.2.2 text textL place nargs) 23 [(0, .ref da), (1, .int t), (2, .int x0), (3, .int y0), (4, .int areOpen), (5, .int (f_X9_dotOf now t x0 y0)), (6, .int z_23.1)] [] := by
    intro n_23
    induction n_23 with
    | zero =>
      intro i_23 z_23 hn_23 hI_23 hF_23
      obtain rfl : i_23 = 768 := by omega
      refine z_aload_n (pc := 23) C 0 dX9_spreads_23 rfl ?_
      refine z_get (pc := 24) C 0 7 dX9_spreads_24 rfl rfl i_X9 (by decide) q_836 rfl ?_
      refine z_if_le (pc := 27) 216 C dX9_spreads_27 (by decide) (fun c_27 => ?_) (fun c_27 => ?_)
      · skip
        refine z_iload (pc := 216) C 6 dX9_spreads_216 rfl ?_
        exact z_iret (pc := 218) C E dX9_spreads_218 (pI.mk (by simp only [f_X9_spreads]; rw [← hF_23]; simp only [r_X9_spreads_23]) (by simp only [g_X9_spreads_pile, g_X9_spreads_came, g_X9_spreads_pileL]; rw [← hF_23]; simp only [r_X9_spreads_23]))
      · skip
        exact absurd (spO_x hI_23 rfl) c_27
    | succ n_23 ih_23 =>
      intro i_23 z_23 hn_23 hI_23 hF_23
      have hi_23 : i_23 < 768 := by omega
      refine z_aload_n (pc := 23) C 0 dX9_spreads_23 rfl ?_
      refine z_get (pc := 24) C 0 7 dX9_spreads_24 rfl rfl i_X9 (by decide) q_836 rfl ?_
      refine z_if_le (pc := 27) 216 C dX9_spreads_27 (by decide) (fun c_27 => ?_) (fun c_27 => ?_)
      · skip
        refine z_iload (pc := 216) C 6 dX9_spreads_216 rfl ?_
        exact z_iret (pc := 218) C E dX9_spreads_218 (pI.mk (by simp only [f_X9_spreads]; rw [← hF_23]; simp only [r_X9_spreads_23, if_pos c_27]) (by simp only [g_X9_spreads_pile, g_X9_spreads_came, g_X9_spreads_pileL]; rw [← hF_23]; simp only [r_X9_spreads_23, if_pos c_27]))
      · skip
        refine z_aload_n (pc := 30) C 0 dX9_spreads_30 rfl ?_
        refine z_dup (pc := 31) C dX9_spreads_31 rfl ?_
        refine z_get (pc := 32) C 0 7 dX9_spreads_32 rfl rfl i_X9 (by decide) q_836 rfl ?_
        refine z_iconst (pc := 35) (v := 1) C dX9_spreads_35 (by decide) ?_
        refine z_isub (pc := 36) C dX9_spreads_36 ?_
        refine z_put (pc := 37) (wMd G da dn dp dr ds dl dc dt dg now past states refused aside _ _ _ text textL place nargs) C 0 7 dX9_spreads_37 rfl rfl i_X9 tyX9_ok nmX9 (by decide) q_836 rfl rfl rfl rfl (Nat.le_of_ble_eq_true rfl) rfl ?_
        refine z_aload_n (pc := 40) C 0 dX9_spreads_40 rfl ?_
        refine z_get (pc := 41) C 0 5 dX9_spreads_41 rfl rfl i_X9 (by decide) q_834 rfl ?_
        refine z_aload_n (pc := 44) C 0 dX9_spreads_44 rfl ?_
        refine z_get (pc := 45) C 0 7 dX9_spreads_45 rfl rfl i_X9 (by decide) q_836 rfl ?_
        refine z_iald (pc := 48) C 5 dX9_spreads_48 rfl ((spO_pop hI_23 c_27).2) ?_
        refine z_bipush (pc := 49) (v := 32) C dX9_spreads_49 (by decide) ?_
        refine z_irem (pc := 51) C dX9_spreads_51 (by decide) ?_
        refine z_istore (pc := 52) [(7, _), (0, _), (1, _), (2, _), (3, _), (4, _), (5, _), (6, _)] C dX9_spreads_52 (by decide) rfl ?_
        refine z_aload_n (pc := 54) C 1 dX9_spreads_54 rfl ?_
        refine z_get (pc := 55) C 0 5 dX9_spreads_55 rfl rfl i_X9 (by decide) q_834 rfl ?_
        refine z_aload_n (pc := 58) C 1 dX9_spreads_58 rfl ?_
        refine z_get (pc := 59) C 0 7 dX9_spreads_59 rfl rfl i_X9 (by decide) q_836 rfl ?_
        refine z_iald (pc := 62) C 5 dX9_spreads_62 rfl ((spO_pop hI_23 c_27).2) ?_
        refine z_bipush (pc := 63) (v := 32) C dX9_spreads_63 (by decide) ?_
        refine z_idiv (pc := 65) C dX9_spreads_65 (by decide) ?_
        refine z_istore (pc := 66) [(8, _), (7, _), (0, _), (1, _), (2, _), (3, _), (4, _), (5, _), (6, _)] C dX9_spreads_66 (by decide) rfl ?_
        refine z_iinc (pc := 68) (v := _) [(6, _), (8, _), (7, _), (0, _), (1, _), (2, _), (3, _), (4, _), (5, _)] C 8 dX9_spreads_68 rfl rfl (by decide) rfl ?_
        refine z_iconst (pc := 71) (v := 0) C dX9_spreads_71 (by decide) ?_
        refine z_istore (pc := 72) [(9, _), (6, _), (8, _), (7, _), (0, _), (1, _), (2, _), (3, _), (4, _), (5, _)] C dX9_spreads_72 (by decide) rfl ?_
        refine z_lv (lv' := [(0, _), (1, _), (2, _), (3, _), (4, _), (5, _), (6, _), (7, _), (8, _), (9, _)]) [4, 5, 6, 7, 8, 9, 1, 3, 2, 0] rfl ?_
        refine z_loop (pc := 74) (e := 4) (fun i_74 => wMd G da dn dp dr ds dl dc dt dg now past states refused aside ((s_X9_spreads_74 now t x0 y0 areOpen z_23 i_74).1) ((s_X9_spreads_74 now t x0 y0 areOpen z_23 i_74).2.1) ((s_X9_spreads_74 now t x0 y0 areOpen z_23 i_74).2.2) text textL place nargs) (fun i_74 => [(0, .ref da), (1, .int t), (2, .int x0), (3, .int y0), (4, .int areOpen), (5, .int (f_X9_dotOf now t x0 y0)), (6, .int (z_23.1 + 1)), (7, .int ((z_23.2.1 (z_23.2.2.2 - 1).toNatClampNeg) - (z_23.2.1 (z_23.2.2.2 - 1).toNatClampNeg) / 32 * 32)), (8, .int ((z_23.2.1 (z_23.2.2.2 - 1).toNatClampNeg) / 32)), (9, .int (nI i_74))]) [] (fun i_74 hi_74 ih_74 => ?_) ?_ 0 (Nat.zero_le _)
        · show Z X G 13 0 0 (wMd G da dn dp dr ds dl dc dt dg now past states refused aside ((s_X9_spreads_74 now t x0 y0 areOpen z_23 i_74).1) ((s_X9_spreads_74 now t x0 y0 areOpen z_23 i_74).2.1) ((s_X9_spreads_74 now t x0 y0 areOpen z_23 i_74).2.2) text textL place nargs) 74 [(0, .ref da), (1, .int t), (2, .int x0), (3, .int y0), (4, .int areOpen), (5, .int (f_X9_dotOf now t x0 y0)), (6, .int (z_23.1 + 1)), (7, .int ((z_23.2.1 (z_23.2.2.2 - 1).toNatClampNeg) - (z_23.2.1 (z_23.2.2.2 - 1).toNatClampNeg) / 32 * 32)), (8, .int ((z_23.2.1 (z_23.2.2.2 - 1).toNatClampNeg) / 32)), (9, .int (nI i_74))] []
          generalize hz_74 : s_X9_spreads_74 now t x0 y0 areOpen z_23 i_74 = z_74
          have hI_74 : spO z_74.1 z_74.2.1 z_74.2.2 (i_23 + 1) := by rw [← hz_74]; exact i_X9_spreads_74 (by exact i_23) (by exact (spO_pop hI_23 c_27).1) i_74
          refine z_iload (pc := 74) C 9 dX9_spreads_74 rfl ?_
          refine z_iconst (pc := 76) (v := 4) C dX9_spreads_76 (by decide) ?_
          refine z_icmp_ge (pc := 77) 213 C dX9_spreads_77 (by decide) (fun c_77 => ?_) (fun c_77 => ?_)
          · skip
            exact absurd c_77 (nI_ge (b := 4) (by omega) (by decide))
          · skip
            refine z_iload (pc := 80) C 7 dX9_spreads_80 rfl ?_
            refine z_iload (pc := 82) C 9 dX9_spreads_82 rfl ?_
            have K_102 : Z X G 13 0 0 (wMd G da dn dp dr ds dl dc dt dg now past states refused aside z_74.1 z_74.2.1 z_74.2.2 text textL place nargs) 102 [(0, .ref da), (1, .int t), (2, .int x0), (3, .int y0), (4, .int areOpen), (5, .int (f_X9_dotOf now t x0 y0)), (6, .int (z_23.1 + 1)), (7, .int ((z_23.2.1 (z_23.2.2.2 - 1).toNatClampNeg) - (z_23.2.1 (z_23.2.2.2 - 1).toNatClampNeg) / 32 * 32)), (8, .int ((z_23.2.1 (z_23.2.2.2 - 1).toNatClampNeg) / 32)), (9, .int (nI i_74))] [.int (if (nI i_74) = 0 then 1 else if (nI i_74) = 1 then (-1) else 0 : Int32), .int ((z_23.2.1 (z_23.2.2.2 - 1).toNatClampNeg) - (z_23.2.1 (z_23.2.2.2 - 1).toNatClampNeg) / 32 * 32)] := by
              refine z_iadd (pc := 102) C dX9_spreads_102 ?_
              refine z_istore (pc := 103) [(10, _), (0, _), (1, _), (2, _), (3, _), (4, _), (5, _), (6, _), (7, _), (8, _), (9, _)] C dX9_spreads_103 (by decide) rfl ?_
              refine z_iload (pc := 105) C 9 dX9_spreads_105 rfl ?_
              refine z_iload (pc := 107) C 10 dX9_spreads_107 rfl ?_
              refine z_iconst (pc := 109) (v := 2) C dX9_spreads_109 (by decide) ?_
              have K_128 : Z X G 13 0 0 (wMd G da dn dp dr ds dl dc dt dg now past states refused aside z_74.1 z_74.2.1 z_74.2.2 text textL place nargs) 128 [(0, .ref da), (1, .int t), (2, .int x0), (3, .int y0), (4, .int areOpen), (5, .int (f_X9_dotOf now t x0 y0)), (6, .int (z_23.1 + 1)), (7, .int ((z_23.2.1 (z_23.2.2.2 - 1).toNatClampNeg) - (z_23.2.1 (z_23.2.2.2 - 1).toNatClampNeg) / 32 * 32)), (8, .int ((z_23.2.1 (z_23.2.2.2 - 1).toNatClampNeg) / 32)), (9, .int (nI i_74)), (10, .int (((z_23.2.1 (z_23.2.2.2 - 1).toNatClampNeg) - (z_23.2.1 (z_23.2.2.2 - 1).toNatClampNeg) / 32 * 32) + (if (nI i_74) = 0 then 1 else if (nI i_74) = 1 then (-1) else 0 : Int32)))] [.int (if (nI i_74) = 2 then 1 else if (nI i_74) = 3 then (-1) else 0 : Int32), .int ((z_23.2.1 (z_23.2.2.2 - 1).toNatClampNeg) / 32)] := by
                refine z_iadd (pc := 128) C dX9_spreads_128 ?_
                refine z_istore (pc := 129) [(11, _), (0, _), (1, _), (2, _), (3, _), (4, _), (5, _), (6, _), (7, _), (8, _), (9, _), (10, _)] C dX9_spreads_129 (by decide) rfl ?_
                refine z_iload (pc := 131) C 11 dX9_spreads_131 rfl ?_
                refine z_iload (pc := 133) C 0 dX9_spreads_133 rfl ?_
                refine z_callS (pc := 135) C (c_X9_isIn) [] z00 mS_X9_isIn q_878 dX9_spreads_135 rfl rfl rfl rfl (Nat.le_of_ble_eq_true rfl) (by decide) (pI.stay rfl ?_)
                have K_176 : Z X G 13 0 0 (wMd G da dn dp dr ds dl dc dt dg now past states refused aside z_74.1 z_74.2.1 z_74.2.2 text textL place nargs) 176 [(0, .ref da), (1, .int t), (2, .int x0), (3, .int y0), (4, .int areOpen), (5, .int (f_X9_dotOf now t x0 y0)), (6, .int (z_23.1 + 1)), (7, .int ((z_23.2.1 (z_23.2.2.2 - 1).toNatClampNeg) - (z_23.2.1 (z_23.2.2.2 - 1).toNatClampNeg) / 32 * 32)), (8, .int ((z_23.2.1 (z_23.2.2.2 - 1).toNatClampNeg) / 32)), (9, .int (nI i_74)), (10, .int (((z_23.2.1 (z_23.2.2.2 - 1).toNatClampNeg) - (z_23.2.1 (z_23.2.2.2 - 1).toNatClampNeg) / 32 * 32) + (if (nI i_74) = 0 then 1 else if (nI i_74) = 1 then (-1) else 0 : Int32))), (11, .int (((z_23.2.1 (z_23.2.2.2 - 1).toNatClampNeg) / 32) + (if (nI i_74) = 2 then 1 else if (nI i_74) = 3 then (-1) else 0 : Int32)))] [.int (if (f_X9_isIn (((z_23.2.1 (z_23.2.2.2 - 1).toNatClampNeg) - (z_23.2.1 (z_23.2.2.2 - 1).toNatClampNeg) / 32 * 32) + (if (nI i_74) = 0 then 1 else if (nI i_74) = 1 then (-1) else 0 : Int32)) (((z_23.2.1 (z_23.2.2.2 - 1).toNatClampNeg) / 32) + (if (nI i_74) = 2 then 1 else if (nI i_74) = 3 then (-1) else 0 : Int32))) = 0 then 0 else if (z_74.2.1 ((32 * (((z_23.2.1 (z_23.2.2.2 - 1).toNatClampNeg) / 32) + (if (nI i_74) = 2 then 1 else if (nI i_74) = 3 then (-1) else 0 : Int32))) + (((z_23.2.1 (z_23.2.2.2 - 1).toNatClampNeg) - (z_23.2.1 (z_23.2.2.2 - 1).toNatClampNeg) / 32 * 32) + (if (nI i_74) = 0 then 1 else if (nI i_74) = 1 then (-1) else 0 : Int32))).toNatClampNeg) = 0 then if (f_X9_dotOf now t (((z_23.2.1 (z_23.2.2.2 - 1).toNatClampNeg) - (z_23.2.1 (z_23.2.2.2 - 1).toNatClampNeg) / 32 * 32) + (if (nI i_74) = 0 then 1 else if (nI i_74) = 1 then (-1) else 0 : Int32)) (((z_23.2.1 (z_23.2.2.2 - 1).toNatClampNeg) / 32) + (if (nI i_74) = 2 then 1 else if (nI i_74) = 3 then (-1) else 0 : Int32))) = (f_X9_dotOf now t x0 y0) then 1 else 0 else 0 : Int32)] := by
                  refine z_istore (pc := 176) [(12, _), (0, _), (1, _), (2, _), (3, _), (4, _), (5, _), (6, _), (7, _), (8, _), (9, _), (10, _), (11, _)] C dX9_spreads_176 (by decide) rfl ?_
                  refine z_iload (pc := 178) C 0 dX9_spreads_178 rfl ?_
                  have K_207 : Z X G 13 0 0 (wMd G da dn dp dr ds dl dc dt dg now past states refused aside (if (if (f_X9_isIn (((z_23.2.1 (z_23.2.2.2 - 1).toNatClampNeg) - (z_23.2.1 (z_23.2.2.2 - 1).toNatClampNeg) / 32 * 32) + (if (nI i_74) = 0 then 1 else if (nI i_74) = 1 then (-1) else 0 : Int32)) (((z_23.2.1 (z_23.2.2.2 - 1).toNatClampNeg) / 32) + (if (nI i_74) = 2 then 1 else if (nI i_74) = 3 then (-1) else 0 : Int32))) = 0 then 0 else if (z_74.2.1 ((32 * (((z_23.2.1 (z_23.2.2.2 - 1).toNatClampNeg) / 32) + (if (nI i_74) = 2 then 1 else if (nI i_74) = 3 then (-1) else 0 : Int32))) + (((z_23.2.1 (z_23.2.2.2 - 1).toNatClampNeg) - (z_23.2.1 (z_23.2.2.2 - 1).toNatClampNeg) / 32 * 32) + (if (nI i_74) = 0 then 1 else if (nI i_74) = 1 then (-1) else 0 : Int32))).toNatClampNeg) = 0 then if (f_X9_dotOf now t (((z_23.2.1 (z_23.2.2.2 - 1).toNatClampNeg) - (z_23.2.1 (z_23.2.2.2 - 1).toNatClampNeg) / 32 * 32) + (if (nI i_74) = 0 then 1 else if (nI i_74) = 1 then (-1) else 0 : Int32)) (((z_23.2.1 (z_23.2.2.2 - 1).toNatClampNeg) / 32) + (if (nI i_74) = 2 then 1 else if (nI i_74) = 3 then (-1) else 0 : Int32))) = (f_X9_dotOf now t x0 y0) then 1 else 0 else 0 : Int32) = 0 then z_74.1 else if areOpen = 0 then (g_X9_comes_pile z_74.1 z_74.2.2 (((z_23.2.1 (z_23.2.2.2 - 1).toNatClampNeg) - (z_23.2.1 (z_23.2.2.2 - 1).toNatClampNeg) / 32 * 32) + (if (nI i_74) = 0 then 1 else if (nI i_74) = 1 then (-1) else 0 : Int32)) (((z_23.2.1 (z_23.2.2.2 - 1).toNatClampNeg) / 32) + (if (nI i_74) = 2 then 1 else if (nI i_74) = 3 then (-1) else 0 : Int32))) else if (f_X9_isOpen now (((z_23.2.1 (z_23.2.2.2 - 1).toNatClampNeg) - (z_23.2.1 (z_23.2.2.2 - 1).toNatClampNeg) / 32 * 32) + (if (nI i_74) = 0 then 1 else if (nI i_74) = 1 then (-1) else 0 : Int32)) (((z_23.2.1 (z_23.2.2.2 - 1).toNatClampNeg) / 32) + (if (nI i_74) = 2 then 1 else if (nI i_74) = 3 then (-1) else 0 : Int32))) = 0 then z_74.1 else (g_X9_comes_pile z_74.1 z_74.2.2 (((z_23.2.1 (z_23.2.2.2 - 1).toNatClampNeg) - (z_23.2.1 (z_23.2.2.2 - 1).toNatClampNeg) / 32 * 32) + (if (nI i_74) = 0 then 1 else if (nI i_74) = 1 then (-1) else 0 : Int32)) (((z_23.2.1 (z_23.2.2.2 - 1).toNatClampNeg) / 32) + (if (nI i_74) = 2 then 1 else if (nI i_74) = 3 then (-1) else 0 : Int32))) : Nat → Int32) (if (if (f_X9_isIn (((z_23.2.1 (z_23.2.2.2 - 1).toNatClampNeg) - (z_23.2.1 (z_23.2.2.2 - 1).toNatClampNeg) / 32 * 32) + (if (nI i_74) = 0 then 1 else if (nI i_74) = 1 then (-1) else 0 : Int32)) (((z_23.2.1 (z_23.2.2.2 - 1).toNatClampNeg) / 32) + (if (nI i_74) = 2 then 1 else if (nI i_74) = 3 then (-1) else 0 : Int32))) = 0 then 0 else if (z_74.2.1 ((32 * (((z_23.2.1 (z_23.2.2.2 - 1).toNatClampNeg) / 32) + (if (nI i_74) = 2 then 1 else if (nI i_74) = 3 then (-1) else 0 : Int32))) + (((z_23.2.1 (z_23.2.2.2 - 1).toNatClampNeg) - (z_23.2.1 (z_23.2.2.2 - 1).toNatClampNeg) / 32 * 32) + (if (nI i_74) = 0 then 1 else if (nI i_74) = 1 then (-1) else 0 : Int32))).toNatClampNeg) = 0 then if (f_X9_dotOf now t (((z_23.2.1 (z_23.2.2.2 - 1).toNatClampNeg) - (z_23.2.1 (z_23.2.2.2 - 1).toNatClampNeg) / 32 * 32) + (if (nI i_74) = 0 then 1 else if (nI i_74) = 1 then (-1) else 0 : Int32)) (((z_23.2.1 (z_23.2.2.2 - 1).toNatClampNeg) / 32) + (if (nI i_74) = 2 then 1 else if (nI i_74) = 3 then (-1) else 0 : Int32))) = (f_X9_dotOf now t x0 y0) then 1 else 0 else 0 : Int32) = 0 then z_74.2.1 else if areOpen = 0 then (g_X9_comes_came z_74.2.1 (((z_23.2.1 (z_23.2.2.2 - 1).toNatClampNeg) - (z_23.2.1 (z_23.2.2.2 - 1).toNatClampNeg) / 32 * 32) + (if (nI i_74) = 0 then 1 else if (nI i_74) = 1 then (-1) else 0 : Int32)) (((z_23.2.1 (z_23.2.2.2 - 1).toNatClampNeg) / 32) + (if (nI i_74) = 2 then 1 else if (nI i_74) = 3 then (-1) else 0 : Int32))) else if (f_X9_isOpen now (((z_23.2.1 (z_23.2.2.2 - 1).toNatClampNeg) - (z_23.2.1 (z_23.2.2.2 - 1).toNatClampNeg) / 32 * 32) + (if (nI i_74) = 0 then 1 else if (nI i_74) = 1 then (-1) else 0 : Int32)) (((z_23.2.1 (z_23.2.2.2 - 1).toNatClampNeg) / 32) + (if (nI i_74) = 2 then 1 else if (nI i_74) = 3 then (-1) else 0 : Int32))) = 0 then z_74.2.1 else (g_X9_comes_came z_74.2.1 (((z_23.2.1 (z_23.2.2.2 - 1).toNatClampNeg) - (z_23.2.1 (z_23.2.2.2 - 1).toNatClampNeg) / 32 * 32) + (if (nI i_74) = 0 then 1 else if (nI i_74) = 1 then (-1) else 0 : Int32)) (((z_23.2.1 (z_23.2.2.2 - 1).toNatClampNeg) / 32) + (if (nI i_74) = 2 then 1 else if (nI i_74) = 3 then (-1) else 0 : Int32))) : Nat → Int32) (if (if (f_X9_isIn (((z_23.2.1 (z_23.2.2.2 - 1).toNatClampNeg) - (z_23.2.1 (z_23.2.2.2 - 1).toNatClampNeg) / 32 * 32) + (if (nI i_74) = 0 then 1 else if (nI i_74) = 1 then (-1) else 0 : Int32)) (((z_23.2.1 (z_23.2.2.2 - 1).toNatClampNeg) / 32) + (if (nI i_74) = 2 then 1 else if (nI i_74) = 3 then (-1) else 0 : Int32))) = 0 then 0 else if (z_74.2.1 ((32 * (((z_23.2.1 (z_23.2.2.2 - 1).toNatClampNeg) / 32) + (if (nI i_74) = 2 then 1 else if (nI i_74) = 3 then (-1) else 0 : Int32))) + (((z_23.2.1 (z_23.2.2.2 - 1).toNatClampNeg) - (z_23.2.1 (z_23.2.2.2 - 1).toNatClampNeg) / 32 * 32) + (if (nI i_74) = 0 then 1 else if (nI i_74) = 1 then (-1) else 0 : Int32))).toNatClampNeg) = 0 then if (f_X9_dotOf now t (((z_23.2.1 (z_23.2.2.2 - 1).toNatClampNeg) - (z_23.2.1 (z_23.2.2.2 - 1).toNatClampNeg) / 32 * 32) + (if (nI i_74) = 0 then 1 else if (nI i_74) = 1 then (-1) else 0 : Int32)) (((z_23.2.1 (z_23.2.2.2 - 1).toNatClampNeg) / 32) + (if (nI i_74) = 2 then 1 else if (nI i_74) = 3 then (-1) else 0 : Int32))) = (f_X9_dotOf now t x0 y0) then 1 else 0 else 0 : Int32) = 0 then z_74.2.2 else if areOpen = 0 then (g_X9_comes_pileL z_74.2.2) else if (f_X9_isOpen now (((z_23.2.1 (z_23.2.2.2 - 1).toNatClampNeg) - (z_23.2.1 (z_23.2.2.2 - 1).toNatClampNeg) / 32 * 32) + (if (nI i_74) = 0 then 1 else if (nI i_74) = 1 then (-1) else 0 : Int32)) (((z_23.2.1 (z_23.2.2.2 - 1).toNatClampNeg) / 32) + (if (nI i_74) = 2 then 1 else if (nI i_74) = 3 then (-1) else 0 : Int32))) = 0 then z_74.2.2 else (g_X9_comes_pileL z_74.2.2) : Int32) text textL place nargs) 207 [(0, .ref da), (1, .int t), (2, .int x0), (3, .int y0), (4, .int areOpen), (5, .int (f_X9_dotOf now t x0 y0)), (6, .int (z_23.1 + 1)), (7, .int ((z_23.2.1 (z_23.2.2.2 - 1).toNatClampNeg) - (z_23.2.1 (z_23.2.2.2 - 1).toNatClampNeg) / 32 * 32)), (8, .int ((z_23.2.1 (z_23.2.2.2 - 1).toNatClampNeg) / 32)), (9, .int (nI i_74)), (10, .int (((z_23.2.1 (z_23.2.2.2 - 1).toNatClampNeg) - (z_23.2.1 (z_23.2.2.2 - 1).toNatClampNeg) / 32 * 32) + (if (nI i_74) = 0 then 1 else if (nI i_74) = 1 then (-1) else 0 : Int32))), (11, .int (((z_23.2.1 (z_23.2.2.2 - 1).toNatClampNeg) / 32) + (if (nI i_74) = 2 then 1 else if (nI i_74) = 3 then (-1) else 0 : Int32))), (12, .int (if (f_X9_isIn (((z_23.2.1 (z_23.2.2.2 - 1).toNatClampNeg) - (z_23.2.1 (z_23.2.2.2 - 1).toNatClampNeg) / 32 * 32) + (if (nI i_74) = 0 then 1 else if (nI i_74) = 1 then (-1) else 0 : Int32)) (((z_23.2.1 (z_23.2.2.2 - 1).toNatClampNeg) / 32) + (if (nI i_74) = 2 then 1 else if (nI i_74) = 3 then (-1) else 0 : Int32))) = 0 then 0 else if (z_74.2.1 ((32 * (((z_23.2.1 (z_23.2.2.2 - 1).toNatClampNeg) / 32) + (if (nI i_74) = 2 then 1 else if (nI i_74) = 3 then (-1) else 0 : Int32))) + (((z_23.2.1 (z_23.2.2.2 - 1).toNatClampNeg) - (z_23.2.1 (z_23.2.2.2 - 1).toNatClampNeg) / 32 * 32) + (if (nI i_74) = 0 then 1 else if (nI i_74) = 1 then (-1) else 0 : Int32))).toNatClampNeg) = 0 then if (f_X9_dotOf now t (((z_23.2.1 (z_23.2.2.2 - 1).toNatClampNeg) - (z_23.2.1 (z_23.2.2.2 - 1).toNatClampNeg) / 32 * 32) + (if (nI i_74) = 0 then 1 else if (nI i_74) = 1 then (-1) else 0 : Int32)) (((z_23.2.1 (z_23.2.2.2 - 1).toNatClampNeg) / 32) + (if (nI i_74) = 2 then 1 else if (nI i_74) = 3 then (-1) else 0 : Int32))) = (f_X9_dotOf now t x0 y0) then 1 else 0 else 0 : Int32))] [] := by
                    refine z_iinc (pc := 207) (v := nI (i_74 + 1)) [(9, _), (0, _), (1, _), (2, _), (3, _), (4, _), (5, _), (6, _), (7, _), (8, _), (10, _), (11, _), (12, _)] C 9 dX9_spreads_207 rfl ((nI_succ _).symm) (by decide) rfl ?_
                    refine z_goto (pc := 210) 74 C dX9_spreads_210 (by decide) ?_
                    refine z_lv (lv' := [(0, _), (1, _), (2, _), (3, _), (4, _), (5, _), (6, _), (7, _), (8, _), (9, _)]) [1, 2, 3, 4, 5, 6, 7, 8, 9, 0] rfl ?_
                    exact z_eq (by simp only [s_X9_spreads_74, hz_74, b_X9_spreads_74]) rfl rfl ih_74
                  refine z_if_eq (pc := 180) 207 C dX9_spreads_180 (by decide) (fun c_180 => ?_) (fun c_180 => ?_)
                  · skip
                    refine z_lv (lv' := [(0, _), (1, _), (2, _), (3, _), (4, _), (5, _), (6, _), (7, _), (8, _), (9, _), (10, _), (11, _), (12, _)]) [1, 2, 3, 4, 5, 6, 7, 8, 9, 10, 11, 12, 0] rfl ?_
                    exact z_eq (by simp only [if_pos c_180]) rfl rfl K_207
                  · skip
                    refine z_iload (pc := 183) C 5 dX9_spreads_183 rfl ?_
                    refine z_if_eq (pc := 185) 199 C dX9_spreads_185 (by decide) (fun c_185 => ?_) (fun c_185 => ?_)
                    · skip
                      refine z_aload_n (pc := 199) C 1 dX9_spreads_199 rfl ?_
                      refine z_iload (pc := 200) C 11 dX9_spreads_200 rfl ?_
                      refine z_iload (pc := 202) C 12 dX9_spreads_202 rfl ?_
                      refine z_callV (pc := 204) C (c_X9_comes (by exact (mI_ne (may_ne c_180).1).1) (by exact (mI_ne (may_ne c_180).1).2) (by exact (spO_lt hI_74))) [0, 1, 2, 3, 4, 5, 6, 7, 8] z00 mV_X9_comes q_1020 dX9_spreads_204 rfl rfl rfl 0 rfl rfl rfl rfl (Nat.le_of_ble_eq_true rfl) (by decide) (pV.go (ws' := wMd G da dn dp dr ds dl dc dt dg now past states refused aside _ _ _ text textL place nargs) rfl ?_)
                      refine z_lv (lv' := [(0, _), (1, _), (2, _), (3, _), (4, _), (5, _), (6, _), (7, _), (8, _), (9, _), (10, _), (11, _), (12, _)]) [1, 2, 3, 4, 5, 6, 7, 8, 9, 10, 11, 12, 0] rfl ?_
                      exact z_eq (by simp only [if_neg c_180, if_pos c_185]) rfl rfl K_207
                    · skip
                      refine z_aload_n (pc := 188) C 1 dX9_spreads_188 rfl ?_
                      refine z_iload (pc := 189) C 11 dX9_spreads_189 rfl ?_
                      refine z_iload (pc := 191) C 12 dX9_spreads_191 rfl ?_
                      refine z_callV (pc := 193) C (c_X9_isOpen (by exact hm)) [0, 1, 2, 3, 4, 5, 6, 7, 8] z00 mV_X9_isOpen q_974 dX9_spreads_193 rfl rfl rfl 0 rfl rfl rfl rfl (Nat.le_of_ble_eq_true rfl) (by decide) (pI.stay rfl ?_)
                      refine z_if_eq (pc := 196) 207 C dX9_spreads_196 (by decide) (fun c_196 => ?_) (fun c_196 => ?_)
                      · skip
                        refine z_lv (lv' := [(0, _), (1, _), (2, _), (3, _), (4, _), (5, _), (6, _), (7, _), (8, _), (9, _), (10, _), (11, _), (12, _)]) [1, 2, 3, 4, 5, 6, 7, 8, 9, 10, 11, 12, 0] rfl ?_
                        exact z_eq (by simp only [if_neg c_180, if_neg c_185, if_pos c_196]) rfl rfl K_207
                      · skip
                        refine z_aload_n (pc := 199) C 1 dX9_spreads_199 rfl ?_
                        refine z_iload (pc := 200) C 11 dX9_spreads_200 rfl ?_
                        refine z_iload (pc := 202) C 12 dX9_spreads_202 rfl ?_
                        refine z_callV (pc := 204) C (c_X9_comes (by exact (mI_ne (may_ne c_180).1).1) (by exact (mI_ne (may_ne c_180).1).2) (by exact (spO_lt hI_74))) [0, 1, 2, 3, 4, 5, 6, 7, 8] z00 mV_X9_comes q_1020 dX9_spreads_204 rfl rfl rfl 0 rfl rfl rfl rfl (Nat.le_of_ble_eq_true rfl) (by decide) (pV.go (ws' := wMd G da dn dp dr ds dl dc dt dg now past states refused aside _ _ _ text textL place nargs) rfl ?_)
                        refine z_lv (lv' := [(0, _), (1, _), (2, _), (3, _), (4, _), (5, _), (6, _), (7, _), (8, _), (9, _), (10, _), (11, _), (12, _)]) [1, 2, 3, 4, 5, 6, 7, 8, 9, 10, 11, 12, 0] rfl ?_
                        exact z_eq (by simp only [if_neg c_180, if_neg c_185, if_neg c_196]) rfl rfl K_207
                refine z_if_eq (pc := 138) 175 C dX9_spreads_138 (by decide) (fun c_138 => ?_) (fun c_138 => ?_)
                · skip
                  refine z_iconst (pc := 175) (v := 0) C dX9_spreads_175 (by decide) ?_
                  refine z_lv (lv' := [(0, _), (1, _), (2, _), (3, _), (4, _), (5, _), (6, _), (7, _), (8, _), (9, _), (10, _), (11, _)]) [1, 2, 3, 4, 5, 6, 7, 8, 9, 10, 11, 0] rfl ?_
                  exact z_eq rfl rfl (by simp only [if_pos c_138]) K_176
                · skip
                  refine z_aload_n (pc := 141) C 1 dX9_spreads_141 rfl ?_
                  refine z_get (pc := 142) C 0 6 dX9_spreads_142 rfl rfl i_X9 (by decide) q_835 rfl ?_
                  refine z_bipush (pc := 145) (v := 32) C dX9_spreads_145 (by decide) ?_
                  refine z_iload (pc := 147) C 0 dX9_spreads_147 rfl ?_
                  refine z_imul (pc := 149) C dX9_spreads_149 ?_
                  refine z_iload (pc := 150) C 11 dX9_spreads_150 rfl ?_
                  refine z_iadd (pc := 152) C dX9_spreads_152 ?_
                  refine z_zald (pc := 153) C 6 dX9_spreads_153 rfl (ix_xy (mI_ne c_138).1 (mI_ne c_138).2) ?_
                  refine z_if_ne (pc := 154) 175 C dX9_spreads_154 (by decide) (fun c_154 => ?_) (fun c_154 => ?_)
                  · skip
                    refine z_iconst (pc := 175) (v := 0) C dX9_spreads_175 (by decide) ?_
                    refine z_lv (lv' := [(0, _), (1, _), (2, _), (3, _), (4, _), (5, _), (6, _), (7, _), (8, _), (9, _), (10, _), (11, _)]) [1, 2, 3, 4, 5, 6, 7, 8, 9, 10, 11, 0] rfl ?_
                    exact z_eq rfl rfl (by simp only [if_neg c_138, if_neg c_154]) K_176
                  · skip
                    refine z_aload_n (pc := 157) C 1 dX9_spreads_157 rfl ?_
                    refine z_iload_n (pc := 158) C 2 dX9_spreads_158 rfl ?_
                    refine z_iload (pc := 159) C 11 dX9_spreads_159 rfl ?_
                    refine z_iload (pc := 161) C 0 dX9_spreads_161 rfl ?_
                    refine z_callV (pc := 163) C (c_X9_dotOf (by exact hT)) [0, 1, 2, 3, 4, 5, 6, 7, 8] z00 mV_X9_dotOf q_895 dX9_spreads_163 rfl rfl rfl 0 rfl rfl rfl rfl (Nat.le_of_ble_eq_true rfl) (by decide) (pI.stay rfl ?_)
                    refine z_iload (pc := 166) C 6 dX9_spreads_166 rfl ?_
                    refine z_icmp_ne (pc := 168) 175 C dX9_spreads_168 (by decide) (fun c_168 => ?_) (fun c_168 => ?_)
                    · skip
                      refine z_iconst (pc := 175) (v := 0) C dX9_spreads_175 (by decide) ?_
                      refine z_lv (lv' := [(0, _), (1, _), (2, _), (3, _), (4, _), (5, _), (6, _), (7, _), (8, _), (9, _), (10, _), (11, _)]) [1, 2, 3, 4, 5, 6, 7, 8, 9, 10, 11, 0] rfl ?_
                      exact z_eq rfl rfl (by simp only [if_neg c_138, if_pos c_154, if_neg c_168]) K_176
                    · skip
                      refine z_iconst (pc := 171) (v := 1) C dX9_spreads_171 (by decide) ?_
                      refine z_goto (pc := 172) 176 C dX9_spreads_172 (by decide) ?_
                      refine z_lv (lv' := [(0, _), (1, _), (2, _), (3, _), (4, _), (5, _), (6, _), (7, _), (8, _), (9, _), (10, _), (11, _)]) [1, 2, 3, 4, 5, 6, 7, 8, 9, 10, 11, 0] rfl ?_
                      exact z_eq rfl rfl (by simp only [if_neg c_138, if_pos c_154, if_pos c_168]) K_176
              refine z_icmp_ne (pc := 110) 117 C dX9_spreads_110 (by decide) (fun c_110 => ?_) (fun c_110 => ?_)
              · skip
                refine z_iload (pc := 117) C 10 dX9_spreads_117 rfl ?_
                refine z_iconst (pc := 119) (v := 3) C dX9_spreads_119 (by decide) ?_
                refine z_icmp_ne (pc := 120) 127 C dX9_spreads_120 (by decide) (fun c_120 => ?_) (fun c_120 => ?_)
                · skip
                  refine z_iconst (pc := 127) (v := 0) C dX9_spreads_127 (by decide) ?_
                  refine z_lv (lv' := [(0, _), (1, _), (2, _), (3, _), (4, _), (5, _), (6, _), (7, _), (8, _), (9, _), (10, _)]) [1, 2, 3, 4, 5, 6, 7, 8, 9, 10, 0] rfl ?_
                  exact z_eq rfl rfl (by simp only [if_neg c_110, if_neg c_120]) K_128
                · skip
                  refine z_iconst (pc := 123) (v := (-1)) C dX9_spreads_123 (by decide) ?_
                  refine z_goto (pc := 124) 128 C dX9_spreads_124 (by decide) ?_
                  refine z_lv (lv' := [(0, _), (1, _), (2, _), (3, _), (4, _), (5, _), (6, _), (7, _), (8, _), (9, _), (10, _)]) [1, 2, 3, 4, 5, 6, 7, 8, 9, 10, 0] rfl ?_
                  exact z_eq rfl rfl (by simp only [if_neg c_110, if_pos c_120]) K_128
              · skip
                refine z_iconst (pc := 113) (v := 1) C dX9_spreads_113 (by decide) ?_
                refine z_goto (pc := 114) 128 C dX9_spreads_114 (by decide) ?_
                refine z_lv (lv' := [(0, _), (1, _), (2, _), (3, _), (4, _), (5, _), (6, _), (7, _), (8, _), (9, _), (10, _)]) [1, 2, 3, 4, 5, 6, 7, 8, 9, 10, 0] rfl ?_
                exact z_eq rfl rfl (by simp only [if_pos c_110]) K_128
            refine z_if_ne (pc := 84) 91 C dX9_spreads_84 (by decide) (fun c_84 => ?_) (fun c_84 => ?_)
            · skip
              refine z_iload (pc := 91) C 9 dX9_spreads_91 rfl ?_
              refine z_iconst (pc := 93) (v := 1) C dX9_spreads_93 (by decide) ?_
              refine z_icmp_ne (pc := 94) 101 C dX9_spreads_94 (by decide) (fun c_94 => ?_) (fun c_94 => ?_)
              · skip
                refine z_iconst (pc := 101) (v := 0) C dX9_spreads_101 (by decide) ?_
                refine z_lv (lv' := [(0, _), (1, _), (2, _), (3, _), (4, _), (5, _), (6, _), (7, _), (8, _), (9, _)]) [0, 1, 2, 3, 4, 5, 6, 7, 8, 9] rfl ?_
                exact z_eq rfl rfl (by simp only [if_neg c_84, if_neg c_94]) K_102
              · skip
                refine z_iconst (pc := 97) (v := (-1)) C dX9_spreads_97 (by decide) ?_
                refine z_goto (pc := 98) 102 C dX9_spreads_98 (by decide) ?_
                refine z_lv (lv' := [(0, _), (1, _), (2, _), (3, _), (4, _), (5, _), (6, _), (7, _), (8, _), (9, _)]) [0, 1, 2, 3, 4, 5, 6, 7, 8, 9] rfl ?_
                exact z_eq rfl rfl (by simp only [if_neg c_84, if_pos c_94]) K_102
            · skip
              refine z_iconst (pc := 87) (v := 1) C dX9_spreads_87 (by decide) ?_
              refine z_goto (pc := 88) 102 C dX9_spreads_88 (by decide) ?_
              refine z_lv (lv' := [(0, _), (1, _), (2, _), (3, _), (4, _), (5, _), (6, _), (7, _), (8, _), (9, _)]) [0, 1, 2, 3, 4, 5, 6, 7, 8, 9] rfl ?_
              exact z_eq rfl rfl (by simp only [if_pos c_84]) K_102
        · show Z X G 13 0 0 (wMd G da dn dp dr ds dl dc dt dg now past states refused aside ((s_X9_spreads_74 now t x0 y0 areOpen z_23 4).1) ((s_X9_spreads_74 now t x0 y0 areOpen z_23 4).2.1) ((s_X9_spreads_74 now t x0 y0 areOpen z_23 4).2.2) text textL place nargs) 74 [(0, .ref da), (1, .int t), (2, .int x0), (3, .int y0), (4, .int areOpen), (5, .int (f_X9_dotOf now t x0 y0)), (6, .int (z_23.1 + 1)), (7, .int ((z_23.2.1 (z_23.2.2.2 - 1).toNatClampNeg) - (z_23.2.1 (z_23.2.2.2 - 1).toNatClampNeg) / 32 * 32)), (8, .int ((z_23.2.1 (z_23.2.2.2 - 1).toNatClampNeg) / 32)), (9, .int (nI 4))] []
          have hA_74 : ∀ e_ : Nat, spO (s_X9_spreads_74 now t x0 y0 areOpen z_23 e_).1 (s_X9_spreads_74 now t x0 y0 areOpen z_23 e_).2.1 (s_X9_spreads_74 now t x0 y0 areOpen z_23 e_).2.2 (i_23 + 1) := fun e_ => i_X9_spreads_74 (by exact i_23) (by exact (spO_pop hI_23 c_27).1) e_
          have hI_74 := hA_74 4
          refine z_iload (pc := 74) C 9 dX9_spreads_74 rfl ?_
          refine z_iconst (pc := 76) (v := 4) C dX9_spreads_76 (by decide) ?_
          refine z_icmp_ge (pc := 77) 213 C dX9_spreads_77 (by decide) (fun c_77 => ?_) (fun c_77 => ?_)
          · skip
            refine z_goto (pc := 213) 23 C dX9_spreads_213 (by decide) ?_
            refine z_lv (lv' := [(0, _), (1, _), (2, _), (3, _), (4, _), (5, _), (6, _)]) [0, 1, 2, 3, 4, 5, 6] rfl ?_
            have h9 := ih_23 (i_23 + 1) (z_23.1 + 1, (s_X9_spreads_74 now t x0 y0 areOpen z_23 4).1, (s_X9_spreads_74 now t x0 y0 areOpen z_23 4).2.1, (s_X9_spreads_74 now t x0 y0 areOpen z_23 4).2.2) (by omega) (by dsimp only; exact hI_74) (by rw [← hF_23]; simp only [r_X9_spreads_23, if_neg c_27])
            dsimp only at h9
            exact h9
          · skip
            exact absurd (nI_le (Nat.le_refl 4) (by decide)) c_77
  have h9 := L_23 768 0 (0, g_X9_comes_pile pile 0 x0 y0, g_X9_comes_came came x0 y0, g_X9_comes_pileL 0) (by omega) (by dsimp only; exact spO_first hX hY) rfl
  dsimp only at h9
  exact h9
