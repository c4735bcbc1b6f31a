/-- a place that may lie beyond -/
def pX (x : Int32) : Prop := -64 ≤ x.toInt ∧ x.toInt ≤ 63
theorem mPl_ne {x y : Int32} (h : ¬ f_X9_isPlace x y = 0) : pX x ∧ pX y := by
  unfold f_X9_isPlace at h
  by_cases h1 : f_X9_in x.toInt64 (-64) 63 = 0
  · rw [if_pos h1] at h; exact absurd rfl h
  · rw [if_neg h1] at h
    by_cases h2 : f_X9_in y.toInt64 (-64) 63 = 0
    · rw [if_pos h2] at h; exact absurd rfl h
    · have a := mIn_ne h1
      have b := mIn_ne h2
      rw [Int32.toInt_toInt64] at a b
      exact ⟨a, b⟩
theorem mS_ne {x y : Int32} (h : ¬ f_X9_isSize x y = 0) : hOk x ∧ hOk y := by
  unfold f_X9_isSize at h
  by_cases h1 : f_X9_in x.toInt64 1 64 = 0
  · rw [if_pos h1] at h; exact absurd rfl h
  · rw [if_neg h1] at h
    by_cases h2 : f_X9_in y.toInt64 1 64 = 0
    · rw [if_pos h2] at h; exact absurd rfl h
    · have a := mIn_ne h1
      have b := mIn_ne h2
      rw [Int32.toInt_toInt64] at a b
      have e1 : (1 : Int64).toInt = 1 := rfl
      have e64 : (64 : Int64).toInt = 64 := rfl
      unfold hOk
      omega
theorem mK_ne {w : Int32} (h : ¬ f_X9_in w.toInt64 1 8 = 0) : kOk w := by
  have a := mIn_ne h
  rw [Int32.toInt_toInt64] at a
  exact a
def lOk (n : Int32) : Prop := 0 ≤ n.toInt ∧ n.toInt ≤ 127
theorem size_ok {a b : Int32} (ha : pX a) (hb : pX b) : lOk (f_X9_size (b - a)) := by
  obtain ⟨a1, a2⟩ := ha
  obtain ⟨b1, b2⟩ := hb
  have e : (b - a).toInt = b.toInt - a.toInt := tI_sub (by omega) (by omega)
  have e0 : (0 : Int32).toInt = 0 := rfl
  unfold f_X9_size lOk
  split
  · rename_i h; have h2 := Int32.le_iff_toInt_le.mp h; omega
  · rename_i h
    have h2 : ¬ (0 : Int32).toInt ≤ (b - a).toInt := fun q => h (Int32.le_iff_toInt_le.mpr q)
    have e3 : (-(b - a)) = 0 - (b - a) := by rw [Int32.zero_sub]
    rw [e3, tI_sub (by omega) (by omega)]
    omega
theorem lOk_nI {n : Int32} (h : lOk n) : n = nI n.toNatClampNeg ∧ n.toNatClampNeg ≤ 127 := by
  have e : (n.toNatClampNeg : Int) = n.toInt := Int.toNat_of_nonneg h.1
  refine ⟨?_, by have := h.2; omega⟩
  rw [← Int32.toInt_inj, nI_toInt (by have := h.2; omega)]
  exact e.symm
theorem lOk_if {c : Prop} [Decidable c] {a b : Int32} (ha : lOk a) (hb : lOk b) : lOk (if c then a else b) := by
  split
  · exact ha
  · exact hb
theorem two_nz {n : Int32} (h : ¬ n = 0) (hn : lOk n) : ¬ 2 * n = 0 := by
  apply two_ne
  rw [Int32.lt_iff_toInt_lt]
  have e0 : (0 : Int32).toInt = 0 := rfl
  have h2 : ¬ n.toInt = 0 := fun q => h (by rw [← Int32.toInt_inj, q]; rfl)
  have := hn.1
  omega

def f_X9_by (a : Int32) (b : Int32) : Int32 := if 0 ≤ (a - a / b * b) then a / b else (a / b) - 1
set_option maxRecDepth 100000 in
theorem c_X9_by {l : Launch} {G : zG} {a : Int32} {b : Int32} (hb : ¬ b = 0) : Ct l G yX9_by cX9_by 3 (Option.some FieldType.int) 0 0 [.int a, .int b] ([]) (pI (f_X9_by a b) ([])) := by
  refine Ct.of (plainFor_of_name (by decide)) (Nat.le_of_ble_eq_true rfl) (pI.ad rfl) (fun X C E => ?_)
  show Z X G 3 0 0 _ 0 [(0, .int a), (1, .int b)] []
  refine z_iload_n (pc := 0) C 0 dX9_by_0 rfl ?_
  refine z_iload_n (pc := 1) C 1 dX9_by_1 rfl ?_
  refine z_idiv (pc := 2) C dX9_by_2 (hb) ?_
  refine z_istore_n (pc := 3) [(2, _), (0, _), (1, _)] C dX9_by_3 rfl (by decide) rfl ?_
  refine z_iload_n (pc := 4) C 1 dX9_by_4 rfl ?_
  refine z_iload_n (pc := 5) C 2 dX9_by_5 rfl ?_
  refine z_irem (pc := 6) C dX9_by_6 (hb) ?_
  refine z_if_ge (pc := 7) 16 C dX9_by_7 (by decide) (fun c_7 => ?_) (fun c_7 => ?_)
  · skip
    refine z_iload_n (pc := 16) C 0 dX9_by_16 rfl ?_
    exact z_iret (pc := 17) C E dX9_by_17 (pI.mk (by simp only [f_X9_by, if_pos c_7]) rfl)
  · skip
    refine z_iload_n (pc := 10) C 0 dX9_by_10 rfl ?_
    refine z_iconst (pc := 11) (v := 1) C dX9_by_11 (by decide) ?_
    refine z_isub (pc := 12) C dX9_by_12 ?_
    refine z_goto (pc := 13) 17 C dX9_by_13 (by decide) ?_
    exact z_iret (pc := 17) C E dX9_by_17 (pI.mk (by simp only [f_X9_by, if_neg c_7]) rfl)

def b_X9_lines_58 (t : Int32) (x0 : Int32) (y0 : Int32) (x1 : Int32) (y1 : Int32) (join : Int32) (i_58 : Nat) (z_58 : Int32 × (Nat → Int32)) : Int32 × (Nat → Int32) := (z_58.1 + (f_X9_joinsAt z_58.2 t (x0 + (if (if (f_X9_size (x1 - x0)) < (f_X9_size (y1 - y0)) then 0 else 1 : Int32) = 0 then (if (if (if (f_X9_size (x1 - x0)) < (f_X9_size (y1 - y0)) then 0 else 1 : Int32) = 0 then (f_X9_size (y1 - y0)) else (f_X9_size (x1 - x0)) : Int32) = 0 then 0 else (f_X9_by ((((if (if (f_X9_size (x1 - x0)) < (f_X9_size (y1 - y0)) then 0 else 1 : Int32) = 0 then (x1 - x0) else (y1 - y0) : Int32) * 2) * (nI i_58)) + (if (if (f_X9_size (x1 - x0)) < (f_X9_size (y1 - y0)) then 0 else 1 : Int32) = 0 then (f_X9_size (y1 - y0)) else (f_X9_size (x1 - x0)) : Int32)) (2 * (if (if (f_X9_size (x1 - x0)) < (f_X9_size (y1 - y0)) then 0 else 1 : Int32) = 0 then (f_X9_size (y1 - y0)) else (f_X9_size (x1 - x0)) : Int32))) : Int32) else (if (if (f_X9_size (x1 - x0)) < (f_X9_size (y1 - y0)) then 0 else 1 : Int32) = 0 then if 0 ≤ (y1 - y0) then (nI i_58) else (-(nI i_58)) else if 0 ≤ (x1 - x0) then (nI i_58) else (-(nI i_58)) : Int32) : Int32)) (y0 + (if (if (f_X9_size (x1 - x0)) < (f_X9_size (y1 - y0)) then 0 else 1 : Int32) = 0 then (if (if (f_X9_size (x1 - x0)) < (f_X9_size (y1 - y0)) then 0 else 1 : Int32) = 0 then if 0 ≤ (y1 - y0) then (nI i_58) else (-(nI i_58)) else if 0 ≤ (x1 - x0) then (nI i_58) else (-(nI i_58)) : Int32) else (if (if (if (f_X9_size (x1 - x0)) < (f_X9_size (y1 - y0)) then 0 else 1 : Int32) = 0 then (f_X9_size (y1 - y0)) else (f_X9_size (x1 - x0)) : Int32) = 0 then 0 else (f_X9_by ((((if (if (f_X9_size (x1 - x0)) < (f_X9_size (y1 - y0)) then 0 else 1 : Int32) = 0 then (x1 - x0) else (y1 - y0) : Int32) * 2) * (nI i_58)) + (if (if (f_X9_size (x1 - x0)) < (f_X9_size (y1 - y0)) then 0 else 1 : Int32) = 0 then (f_X9_size (y1 - y0)) else (f_X9_size (x1 - x0)) : Int32)) (2 * (if (if (f_X9_size (x1 - x0)) < (f_X9_size (y1 - y0)) then 0 else 1 : Int32) = 0 then (f_X9_size (y1 - y0)) else (f_X9_size (x1 - x0)) : Int32))) : Int32) : Int32)) 1 join), g_X9_joinsAt_now z_58.2 t (x0 + (if (if (f_X9_size (x1 - x0)) < (f_X9_size (y1 - y0)) then 0 else 1 : Int32) = 0 then (if (if (if (f_X9_size (x1 - x0)) < (f_X9_size (y1 - y0)) then 0 else 1 : Int32) = 0 then (f_X9_size (y1 - y0)) else (f_X9_size (x1 - x0)) : Int32) = 0 then 0 else (f_X9_by ((((if (if (f_X9_size (x1 - x0)) < (f_X9_size (y1 - y0)) then 0 else 1 : Int32) = 0 then (x1 - x0) else (y1 - y0) : Int32) * 2) * (nI i_58)) + (if (if (f_X9_size (x1 - x0)) < (f_X9_size (y1 - y0)) then 0 else 1 : Int32) = 0 then (f_X9_size (y1 - y0)) else (f_X9_size (x1 - x0)) : Int32)) (2 * (if (if (f_X9_size (x1 - x0)) < (f_X9_size (y1 - y0)) then 0 else 1 : Int32) = 0 then (f_X9_size (y1 - y0)) else (f_X9_size (x1 - x0)) : Int32))) : Int32) else (if (if (f_X9_size (x1 - x0)) < (f_X9_size (y1 - y0)) then 0 else 1 : Int32) = 0 then if 0 ≤ (y1 - y0) then (nI i_58) else (-(nI i_58)) else if 0 ≤ (x1 - x0) then (nI i_58) else (-(nI i_58)) : Int32) : Int32)) (y0 + (if (if (f_X9_size (x1 - x0)) < (f_X9_size (y1 - y0)) then 0 else 1 : Int32) = 0 then (if (if (f_X9_size (x1 - x0)) < (f_X9_size (y1 - y0)) then 0 else 1 : Int32) = 0 then if 0 ≤ (y1 - y0) then (nI i_58) else (-(nI i_58)) else if 0 ≤ (x1 - x0) then (nI i_58) else (-(nI i_58)) : Int32) else (if (if (if (f_X9_size (x1 - x0)) < (f_X9_size (y1 - y0)) then 0 else 1 : Int32) = 0 then (f_X9_size (y1 - y0)) else (f_X9_size (x1 - x0)) : Int32) = 0 then 0 else (f_X9_by ((((if (if (f_X9_size (x1 - x0)) < (f_X9_size (y1 - y0)) then 0 else 1 : Int32) = 0 then (x1 - x0) else (y1 - y0) : Int32) * 2) * (nI i_58)) + (if (if (f_X9_size (x1 - x0)) < (f_X9_size (y1 - y0)) then 0 else 1 : Int32) = 0 then (f_X9_size (y1 - y0)) else (f_X9_size (x1 - x0)) : Int32)) (2 * (if (if (f_X9_size (x1 - x0)) < (f_X9_size (y1 - y0)) then 0 else 1 : Int32) = 0 then (f_X9_size (y1 - y0)) else (f_X9_size (x1 - x0)) : Int32))) : Int32) : Int32)) 1 join)
def s_X9_lines_58 (now : Nat → Int32) (t : Int32) (x0 : Int32) (y0 : Int32) (x1 : Int32) (y1 : Int32) (join : Int32) : Nat → Int32 × (Nat → Int32)
  | 0 => (0, now)
  | i_58 + 1 => b_X9_lines_58 t x0 y0 x1 y1 join i_58 (s_X9_lines_58 now t x0 y0 x1 y1 join i_58)
def f_X9_lines (now : Nat → Int32) (t : Int32) (x0 : Int32) (y0 : Int32) (x1 : Int32) (y1 : Int32) (join : Int32) : Int32 := (s_X9_lines_58 now t x0 y0 x1 y1 join ((if (if (f_X9_size (x1 - x0)) < (f_X9_size (y1 - y0)) then 0 else 1 : Int32) = 0 then (f_X9_size (y1 - y0)) else (f_X9_size (x1 - x0)) : Int32).toNatClampNeg + 1)).1
def g_X9_lines_now (now : Nat → Int32) (t : Int32) (x0 : Int32) (y0 : Int32) (x1 : Int32) (y1 : Int32) (join : Int32) : Nat → Int32 := (s_X9_lines_58 now t x0 y0 x1 y1 join ((if (if (f_X9_size (x1 - x0)) < (f_X9_size (y1 - y0)) then 0 else 1 : Int32) = 0 then (f_X9_size (y1 - y0)) else (f_X9_size (x1 - x0)) : Int32).toNatClampNeg + 1)).2
theorem i_X9_lines_58 {now : Nat → Int32} {t : Int32} {x0 : Int32} {y0 : Int32} {x1 : Int32} {y1 : Int32} {join : Int32} (hT : pT t) (h0 : mOk (0, now).2) : ∀ i : Nat, mOk (s_X9_lines_58 now t x0 y0 x1 y1 join i).2 := by
  intro i
  induction i with
  | zero => exact h0
  | succ i ih => unfold s_X9_lines_58 b_X9_lines_58; dsimp only; exact mOk_join hT ih
set_option maxRecDepth 100000 in
theorem c_X9_lines {l : Launch} {G : zG} {da dn dp dr ds dl dc dt dg : Nat} {now : Nat → Int32} {past : Nat → Int32} {states : Int32} {refused : Nat → Int32} {aside : Nat → Int32} {pile : Nat → Int32} {came : Nat → Int32} {pileL : Int32} {text : Nat → Int32} {textL : Int32} {place : Int32} {nargs : Nat → Int32} {t : Int32} {x0 : Int32} {y0 : Int32} {x1 : Int32} {y1 : Int32} {join : Int32} (hT : pT t) (hm : mOk now) (hx0 : pX x0) (hy0 : pX y0) (hx1 : pX x1) (hy1 : pX y1) : Ct l G yX9_lines cX9_lines 15 (Option.some FieldType.int) 5 120 [.ref da, .int t, .int x0, .int y0, .int x1, .int y1, .int join] (wMd G da dn dp dr ds dl dc dt dg now past states refused aside pile came pileL text textL place nargs) (pI (f_X9_lines now t x0 y0 x1 y1 join) (wMd G da dn dp dr ds dl dc dt dg (g_X9_lines_now now t x0 y0 x1 y1 join) past states refused aside pile came pileL text textL place nargs)) := by
  refine Ct.of (plainFor_of_name (by decide)) (Nat.le_of_ble_eq_true rfl) (pI.ad ad_Md) (fun X C E => ?_)
  show Z X G 15 0 0 _ 0 [(0, .ref da), (1, .int t), (2, .int x0), (3, .int y0), (4, .int x1), (5, .int y1), (6, .int join)] []
  refine z_iload (pc := 0) C 4 dX9_lines_0 rfl ?_
  refine z_iload_n (pc := 2) C 2 dX9_lines_2 rfl ?_
  refine z_isub (pc := 3) C dX9_lines_3 ?_
  refine z_istore (pc := 4) [(7, _), (0, _), (1, _), (2, _), (3, _), (4, _), (5, _), (6, _)] C dX9_lines_4 (by decide) rfl ?_
  refine z_iload (pc := 6) C 6 dX9_lines_6 rfl ?_
  refine z_iload_n (pc := 8) C 4 dX9_lines_8 rfl ?_
  refine z_isub (pc := 9) C dX9_lines_9 ?_
  refine z_istore (pc := 10) [(8, _), (7, _), (0, _), (1, _), (2, _), (3, _), (4, _), (5, _), (6, _)] C dX9_lines_10 (by decide) rfl ?_
  refine z_iload (pc := 12) C 1 dX9_lines_12 rfl ?_
  refine z_callS (pc := 14) C (c_X9_size) [] z00 mS_X9_size q_990 dX9_lines_14 rfl rfl rfl rfl (Nat.le_of_ble_eq_true rfl) (by decide) (pI.stay rfl ?_)
  refine z_iload (pc := 17) C 0 dX9_lines_17 rfl ?_
  refine z_callS (pc := 19) C (c_X9_size) [] z00 mS_X9_size q_990 dX9_lines_19 rfl rfl rfl rfl (Nat.le_of_ble_eq_true rfl) (by decide) (pI.stay rfl ?_)
  have K_30 : Z X G 15 0 0 (wMd G da dn dp dr ds dl dc dt dg now past states refused aside pile came pileL text textL place nargs) 30 [(0, .ref da), (1, .int t), (2, .int x0), (3, .int y0), (4, .int x1), (5, .int y1), (6, .int join), (7, .int (x1 - x0)), (8, .int (y1 - y0))] [.int (if (f_X9_size (x1 - x0)) < (f_X9_size (y1 - y0)) then 0 else 1 : Int32)] := by
    refine z_istore (pc := 30) [(9, _), (0, _), (1, _), (2, _), (3, _), (4, _), (5, _), (6, _), (7, _), (8, _)] C dX9_lines_30 (by decide) rfl ?_
    refine z_iload (pc := 32) C 0 dX9_lines_32 rfl ?_
    have K_50 : Z X G 15 0 0 (wMd G da dn dp dr ds dl dc dt dg now past states refused aside pile came pileL text textL place nargs) 50 [(0, .ref da), (1, .int t), (2, .int x0), (3, .int y0), (4, .int x1), (5, .int y1), (6, .int join), (7, .int (x1 - x0)), (8, .int (y1 - y0)), (9, .int (if (f_X9_size (x1 - x0)) < (f_X9_size (y1 - y0)) then 0 else 1 : Int32))] [.int (if (if (f_X9_size (x1 - x0)) < (f_X9_size (y1 - y0)) then 0 else 1 : Int32) = 0 then (f_X9_size (y1 - y0)) else (f_X9_size (x1 - x0)) : Int32)] := by
      refine z_istore (pc := 50) [(10, _), (0, _), (1, _), (2, _), (3, _), (4, _), (5, _), (6, _), (7, _), (8, _), (9, _)] C dX9_lines_50 (by decide) rfl ?_
      refine z_iconst (pc := 52) (v := 0) C dX9_lines_52 (by decide) ?_
      refine z_istore (pc := 53) [(11, _), (10, _), (0, _), (1, _), (2, _), (3, _), (4, _), (5, _), (6, _), (7, _), (8, _), (9, _)] C dX9_lines_53 (by decide) rfl ?_
      refine z_iconst (pc := 55) (v := 0) C dX9_lines_55 (by decide) ?_
      refine z_istore (pc := 56) [(12, _), (11, _), (10, _), (0, _), (1, _), (2, _), (3, _), (4, _), (5, _), (6, _), (7, _), (8, _), (9, _)] C dX9_lines_56 (by decide) rfl ?_
      have hN : lOk (if (if (f_X9_size (x1 - x0)) < (f_X9_size (y1 - y0)) then 0 else 1 : Int32) = 0 then (f_X9_size (y1 - y0)) else (f_X9_size (x1 - x0)) : Int32) := lOk_if (size_ok hy0 hy1) (size_ok hx0 hx1)
      have hNn := lOk_nI hN
      refine z_lv (lv' := [(0, _), (1, _), (2, _), (3, _), (4, _), (5, _), (6, _), (7, _), (8, _), (9, _), (10, _), (11, _), (12, _)]) [3, 4, 5, 6, 7, 8, 9, 10, 11, 12, 2, 1, 0] rfl ?_
      refine z_loop (pc := 58) (e := (if (if (f_X9_size (x1 - x0)) < (f_X9_size (y1 - y0)) then 0 else 1 : Int32) = 0 then (f_X9_size (y1 - y0)) else (f_X9_size (x1 - x0)) : Int32).toNatClampNeg + 1) (fun i_58 => wMd G da dn dp dr ds dl dc dt dg ((s_X9_lines_58 now t x0 y0 x1 y1 join i_58).2) past states refused aside pile came pileL text textL place nargs) (fun i_58 => [(0, .ref da), (1, .int t), (2, .int x0), (3, .int y0), (4, .int x1), (5, .int y1), (6, .int join), (7, .int (x1 - x0)), (8, .int (y1 - y0)), (9, .int (if (f_X9_size (x1 - x0)) < (f_X9_size (y1 - y0)) then 0 else 1 : Int32)), (10, .int (if (if (f_X9_size (x1 - x0)) < (f_X9_size (y1 - y0)) then 0 else 1 : Int32) = 0 then (f_X9_size (y1 - y0)) else (f_X9_size (x1 - x0)) : Int32)), (11, .int ((s_X9_lines_58 now t x0 y0 x1 y1 join i_58).1)), (12, .int (nI i_58))]) [] (fun i_58 hi_58 ih_58 => ?_) ?_ 0 (Nat.zero_le _)
      · show Z X G 15 0 0 (wMd G da dn dp dr ds dl dc dt dg ((s_X9_lines_58 now t x0 y0 x1 y1 join i_58).2) past states refused aside pile came pileL text textL place nargs) 58 [(0, .ref da), (1, .int t), (2, .int x0), (3, .int y0), (4, .int x1), (5, .int y1), (6, .int join), (7, .int (x1 - x0)), (8, .int (y1 - y0)), (9, .int (if (f_X9_size (x1 - x0)) < (f_X9_size (y1 - y0)) then 0 else 1 : Int32)), (10, .int (if (if (f_X9_size (x1 - x0)) < (f_X9_size (y1 - y0)) then 0 else 1 : Int32) = 0 then (f_X9_size (y1 - y0)) else (f_X9_size (x1 - x0)) : Int32)), (11, .int ((s_X9_lines_58 now t x0 y0 x1 y1 join i_58).1)), (12, .int (nI i_58))] []
        generalize hz_58 : s_X9_lines_58 now t x0 y0 x1 y1 join i_58 = z_58
        have hI_58 : mOk z_58.2 := by rw [← hz_58]; exact i_X9_lines_58 (by exact hT) (by exact hm) i_58
        refine z_iload (pc := 58) C 12 dX9_lines_58 rfl ?_
        refine z_iload (pc := 60) C 10 dX9_lines_60 rfl ?_
        refine z_icmp_gt (pc := 62) 186 C dX9_lines_62 (by decide) (fun c_62 => ?_) (fun c_62 => ?_)
        · skip
          exact absurd c_62 (gt_s hNn.1 hi_58 (by omega))
        · skip
          refine z_iload (pc := 65) C 9 dX9_lines_65 rfl ?_
          have K_99 : Z X G 15 0 0 (wMd G da dn dp dr ds dl dc dt dg z_58.2 past states refused aside pile came pileL text textL place nargs) 99 [(0, .ref da), (1, .int t), (2, .int x0), (3, .int y0), (4, .int x1), (5, .int y1), (6, .int join), (7, .int (x1 - x0)), (8, .int (y1 - y0)), (9, .int (if (f_X9_size (x1 - x0)) < (f_X9_size (y1 - y0)) then 0 else 1 : Int32)), (10, .int (if (if (f_X9_size (x1 - x0)) < (f_X9_size (y1 - y0)) then 0 else 1 : Int32) = 0 then (f_X9_size (y1 - y0)) else (f_X9_size (x1 - x0)) : Int32)), (11, .int z_58.1), (12, .int (nI i_58))] [.int (if (if (f_X9_size (x1 - x0)) < (f_X9_size (y1 - y0)) then 0 else 1 : Int32) = 0 then if 0 ≤ (y1 - y0) then (nI i_58) else (-(nI i_58)) else if 0 ≤ (x1 - x0) then (nI i_58) else (-(nI i_58)) : Int32)] := by
            refine z_istore (pc := 99) [(13, _), (0, _), (1, _), (2, _), (3, _), (4, _), (5, _), (6, _), (7, _), (8, _), (9, _), (10, _), (11, _), (12, _)] C dX9_lines_99 (by decide) rfl ?_
            refine z_iload (pc := 101) C 11 dX9_lines_101 rfl ?_
            have K_137 : Z X G 15 0 0 (wMd G da dn dp dr ds dl dc dt dg z_58.2 past states refused aside pile came pileL text textL place nargs) 137 [(0, .ref da), (1, .int t), (2, .int x0), (3, .int y0), (4, .int x1), (5, .int y1), (6, .int join), (7, .int (x1 - x0)), (8, .int (y1 - y0)), (9, .int (if (f_X9_size (x1 - x0)) < (f_X9_size (y1 - y0)) then 0 else 1 : Int32)), (10, .int (if (if (f_X9_size (x1 - x0)) < (f_X9_size (y1 - y0)) then 0 else 1 : Int32) = 0 then (f_X9_size (y1 - y0)) else (f_X9_size (x1 - x0)) : Int32)), (11, .int z_58.1), (12, .int (nI i_58)), (13, .int (if (if (f_X9_size (x1 - x0)) < (f_X9_size (y1 - y0)) then 0 else 1 : Int32) = 0 then if 0 ≤ (y1 - y0) then (nI i_58) else (-(nI i_58)) else if 0 ≤ (x1 - x0) then (nI i_58) else (-(nI i_58)) : Int32))] [.int (if (if (if (f_X9_size (x1 - x0)) < (f_X9_size (y1 - y0)) then 0 else 1 : Int32) = 0 then (f_X9_size (y1 - y0)) else (f_X9_size (x1 - x0)) : Int32) = 0 then 0 else (f_X9_by ((((if (if (f_X9_size (x1 - x0)) < (f_X9_size (y1 - y0)) then 0 else 1 : Int32) = 0 then (x1 - x0) else (y1 - y0) : Int32) * 2) * (nI i_58)) + (if (if (f_X9_size (x1 - x0)) < (f_X9_size (y1 - y0)) then 0 else 1 : Int32) = 0 then (f_X9_size (y1 - y0)) else (f_X9_size (x1 - x0)) : Int32)) (2 * (if (if (f_X9_size (x1 - x0)) < (f_X9_size (y1 - y0)) then 0 else 1 : Int32) = 0 then (f_X9_size (y1 - y0)) else (f_X9_size (x1 - x0)) : Int32))) : Int32)] := by
              refine z_istore (pc := 137) [(14, _), (0, _), (1, _), (2, _), (3, _), (4, _), (5, _), (6, _), (7, _), (8, _), (9, _), (10, _), (11, _), (12, _), (13, _)] C dX9_lines_137 (by decide) rfl ?_
              refine z_iload (pc := 139) C 12 dX9_lines_139 rfl ?_
              refine z_aload_n (pc := 141) C 1 dX9_lines_141 rfl ?_
              refine z_iload_n (pc := 142) C 2 dX9_lines_142 rfl ?_
              refine z_iload_n (pc := 143) C 3 dX9_lines_143 rfl ?_
              refine z_iload (pc := 144) C 10 dX9_lines_144 rfl ?_
              have K_156 : Z X G 15 0 0 (wMd G da dn dp dr ds dl dc dt dg z_58.2 past states refused aside pile came pileL text textL place nargs) 156 [(0, .ref da), (1, .int t), (2, .int x0), (3, .int y0), (4, .int x1), (5, .int y1), (6, .int join), (7, .int (x1 - x0)), (8, .int (y1 - y0)), (9, .int (if (f_X9_size (x1 - x0)) < (f_X9_size (y1 - y0)) then 0 else 1 : Int32)), (10, .int (if (if (f_X9_size (x1 - x0)) < (f_X9_size (y1 - y0)) then 0 else 1 : Int32) = 0 then (f_X9_size (y1 - y0)) else (f_X9_size (x1 - x0)) : Int32)), (11, .int z_58.1), (12, .int (nI i_58)), (13, .int (if (if (f_X9_size (x1 - x0)) < (f_X9_size (y1 - y0)) then 0 else 1 : Int32) = 0 then if 0 ≤ (y1 - y0) then (nI i_58) else (-(nI i_58)) else if 0 ≤ (x1 - x0) then (nI i_58) else (-(nI i_58)) : Int32)), (14, .int (if (if (if (f_X9_size (x1 - x0)) < (f_X9_size (y1 - y0)) then 0 else 1 : Int32) = 0 then (f_X9_size (y1 - y0)) else (f_X9_size (x1 - x0)) : Int32) = 0 then 0 else (f_X9_by ((((if (if (f_X9_size (x1 - x0)) < (f_X9_size (y1 - y0)) then 0 else 1 : Int32) = 0 then (x1 - x0) else (y1 - y0) : Int32) * 2) * (nI i_58)) + (if (if (f_X9_size (x1 - x0)) < (f_X9_size (y1 - y0)) then 0 else 1 : Int32) = 0 then (f_X9_size (y1 - y0)) else (f_X9_size (x1 - x0)) : Int32)) (2 * (if (if (f_X9_size (x1 - x0)) < (f_X9_size (y1 - y0)) then 0 else 1 : Int32) = 0 then (f_X9_size (y1 - y0)) else (f_X9_size (x1 - x0)) : Int32))) : Int32))] [.int (if (if (f_X9_size (x1 - x0)) < (f_X9_size (y1 - y0)) then 0 else 1 : Int32) = 0 then (if (if (if (f_X9_size (x1 - x0)) < (f_X9_size (y1 - y0)) then 0 else 1 : Int32) = 0 then (f_X9_size (y1 - y0)) else (f_X9_size (x1 - x0)) : Int32) = 0 then 0 else (f_X9_by ((((if (if (f_X9_size (x1 - x0)) < (f_X9_size (y1 - y0)) then 0 else 1 : Int32) = 0 then (x1 - x0) else (y1 - y0) : Int32) * 2) * (nI i_58)) + (if (if (f_X9_size (x1 - x0)) < (f_X9_size (y1 - y0)) then 0 else 1 : Int32) = 0 then (f_X9_size (y1 - y0)) else (f_X9_size (x1 - x0)) : Int32)) (2 * (if (if (f_X9_size (x1 - x0)) < (f_X9_size (y1 - y0)) then 0 else 1 : Int32) = 0 then (f_X9_size (y1 - y0)) else (f_X9_size (x1 - x0)) : Int32))) : Int32) else (if (if (f_X9_size (x1 - x0)) < (f_X9_size (y1 - y0)) then 0 else 1 : Int32) = 0 then if 0 ≤ (y1 - y0) then (nI i_58) else (-(nI i_58)) else if 0 ≤ (x1 - x0) then (nI i_58) else (-(nI i_58)) : Int32) : Int32), .int x0, .int t, .ref da, .int z_58.1] := by
                refine z_iadd (pc := 156) C dX9_lines_156 ?_
                refine z_iload_n (pc := 157) C 3 dX9_lines_157 rfl ?_
                refine z_iload (pc := 158) C 9 dX9_lines_158 rfl ?_
                have K_170 : Z X G 15 0 0 (wMd G da dn dp dr ds dl dc dt dg z_58.2 past states refused aside pile came pileL text textL place nargs) 170 [(0, .ref da), (1, .int t), (2, .int x0), (3, .int y0), (4, .int x1), (5, .int y1), (6, .int join), (7, .int (x1 - x0)), (8, .int (y1 - y0)), (9, .int (if (f_X9_size (x1 - x0)) < (f_X9_size (y1 - y0)) then 0 else 1 : Int32)), (10, .int (if (if (f_X9_size (x1 - x0)) < (f_X9_size (y1 - y0)) then 0 else 1 : Int32) = 0 then (f_X9_size (y1 - y0)) else (f_X9_size (x1 - x0)) : Int32)), (11, .int z_58.1), (12, .int (nI i_58)), (13, .int (if (if (f_X9_size (x1 - x0)) < (f_X9_size (y1 - y0)) then 0 else 1 : Int32) = 0 then if 0 ≤ (y1 - y0) then (nI i_58) else (-(nI i_58)) else if 0 ≤ (x1 - x0) then (nI i_58) else (-(nI i_58)) : Int32)), (14, .int (if (if (if (f_X9_size (x1 - x0)) < (f_X9_size (y1 - y0)) then 0 else 1 : Int32) = 0 then (f_X9_size (y1 - y0)) else (f_X9_size (x1 - x0)) : Int32) = 0 then 0 else (f_X9_by ((((if (if (f_X9_size (x1 - x0)) < (f_X9_size (y1 - y0)) then 0 else 1 : Int32) = 0 then (x1 - x0) else (y1 - y0) : Int32) * 2) * (nI i_58)) + (if (if (f_X9_size (x1 - x0)) < (f_X9_size (y1 - y0)) then 0 else 1 : Int32) = 0 then (f_X9_size (y1 - y0)) else (f_X9_size (x1 - x0)) : Int32)) (2 * (if (if (f_X9_size (x1 - x0)) < (f_X9_size (y1 - y0)) then 0 else 1 : Int32) = 0 then (f_X9_size (y1 - y0)) else (f_X9_size (x1 - x0)) : Int32))) : Int32))] [.int (if (if (f_X9_size (x1 - x0)) < (f_X9_size (y1 - y0)) then 0 else 1 : Int32) = 0 then (if (if (f_X9_size (x1 - x0)) < (f_X9_size (y1 - y0)) then 0 else 1 : Int32) = 0 then if 0 ≤ (y1 - y0) then (nI i_58) else (-(nI i_58)) else if 0 ≤ (x1 - x0) then (nI i_58) else (-(nI i_58)) : Int32) else (if (if (if (f_X9_size (x1 - x0)) < (f_X9_size (y1 - y0)) then 0 else 1 : Int32) = 0 then (f_X9_size (y1 - y0)) else (f_X9_size (x1 - x0)) : Int32) = 0 then 0 else (f_X9_by ((((if (if (f_X9_size (x1 - x0)) < (f_X9_size (y1 - y0)) then 0 else 1 : Int32) = 0 then (x1 - x0) else (y1 - y0) : Int32) * 2) * (nI i_58)) + (if (if (f_X9_size (x1 - x0)) < (f_X9_size (y1 - y0)) then 0 else 1 : Int32) = 0 then (f_X9_size (y1 - y0)) else (f_X9_size (x1 - x0)) : Int32)) (2 * (if (if (f_X9_size (x1 - x0)) < (f_X9_size (y1 - y0)) then 0 else 1 : Int32) = 0 then (f_X9_size (y1 - y0)) else (f_X9_size (x1 - x0)) : Int32))) : Int32) : Int32), .int y0, .int (x0 + (if (if (f_X9_size (x1 - x0)) < (f_X9_size (y1 - y0)) then 0 else 1 : Int32) = 0 then (if (if (if (f_X9_size (x1 - x0)) < (f_X9_size (y1 - y0)) then 0 else 1 : Int32) = 0 then (f_X9_size (y1 - y0)) else (f_X9_size (x1 - x0)) : Int32) = 0 then 0 else (f_X9_by ((((if (if (f_X9_size (x1 - x0)) < (f_X9_size (y1 - y0)) then 0 else 1 : Int32) = 0 then (x1 - x0) else (y1 - y0) : Int32) * 2) * (nI i_58)) + (if (if (f_X9_size (x1 - x0)) < (f_X9_size (y1 - y0)) then 0 else 1 : Int32) = 0 then (f_X9_size (y1 - y0)) else (f_X9_size (x1 - x0)) : Int32)) (2 * (if (if (f_X9_size (x1 - x0)) < (f_X9_size (y1 - y0)) then 0 else 1 : Int32) = 0 then (f_X9_size (y1 - y0)) else (f_X9_size (x1 - x0)) : Int32))) : Int32) else (if (if (f_X9_size (x1 - x0)) < (f_X9_size (y1 - y0)) then 0 else 1 : Int32) = 0 then if 0 ≤ (y1 - y0) then (nI i_58) else (-(nI i_58)) else if 0 ≤ (x1 - x0) then (nI i_58) else (-(nI i_58)) : Int32) : Int32)), .int t, .ref da, .int z_58.1] := by
                  refine z_iadd (pc := 170) C dX9_lines_170 ?_
                  refine z_iconst (pc := 171) (v := 1) C dX9_lines_171 (by decide) ?_
                  refine z_iload (pc := 172) C 6 dX9_lines_172 rfl ?_
                  refine z_callV (pc := 174) C (c_X9_joinsAt (by exact hT) (by exact hI_58)) [0, 1, 2, 3, 4, 5, 6, 7, 8] z00 mV_X9_joinsAt q_970 dX9_lines_174 rfl rfl rfl 0 rfl rfl rfl rfl (Nat.le_of_ble_eq_true rfl) (by decide) (pI.go (ws' := wMd G da dn dp dr ds dl dc dt dg _ past states refused aside pile came pileL text textL place nargs) rfl ?_)
                  refine z_iadd (pc := 177) C dX9_lines_177 ?_
                  refine z_istore (pc := 178) [(11, _), (0, _), (1, _), (2, _), (3, _), (4, _), (5, _), (6, _), (7, _), (8, _), (9, _), (10, _), (12, _), (13, _), (14, _)] C dX9_lines_178 (by decide) rfl ?_
                  refine z_iinc (pc := 180) (v := nI (i_58 + 1)) [(12, _), (11, _), (0, _), (1, _), (2, _), (3, _), (4, _), (5, _), (6, _), (7, _), (8, _), (9, _), (10, _), (13, _), (14, _)] C 12 dX9_lines_180 rfl ((nI_succ _).symm) (by decide) rfl ?_
                  refine z_goto (pc := 183) 58 C dX9_lines_183 (by decide) ?_
                  refine z_lv (lv' := [(0, _), (1, _), (2, _), (3, _), (4, _), (5, _), (6, _), (7, _), (8, _), (9, _), (10, _), (11, _), (12, _)]) [2, 3, 4, 5, 6, 7, 8, 9, 10, 11, 12, 1, 0] rfl ?_
                  exact z_eq (by simp only [s_X9_lines_58, hz_58, b_X9_lines_58]) (by simp only [s_X9_lines_58, hz_58, b_X9_lines_58]) rfl ih_58
                refine z_if_eq (pc := 160) 168 C dX9_lines_160 (by decide) (fun c_160 => ?_) (fun c_160 => ?_)
                · skip
                  refine z_iload (pc := 168) C 13 dX9_lines_168 rfl ?_
                  refine z_lv (lv' := [(0, _), (1, _), (2, _), (3, _), (4, _), (5, _), (6, _), (7, _), (8, _), (9, _), (10, _), (11, _), (12, _), (13, _), (14, _)]) [0, 1, 2, 3, 4, 5, 6, 7, 8, 9, 10, 11, 12, 13, 14] rfl ?_
                  exact z_eq rfl rfl (by simp only [if_pos c_160]) K_170
                · skip
                  refine z_iload (pc := 163) C 14 dX9_lines_163 rfl ?_
                  refine z_goto (pc := 165) 170 C dX9_lines_165 (by decide) ?_
                  refine z_lv (lv' := [(0, _), (1, _), (2, _), (3, _), (4, _), (5, _), (6, _), (7, _), (8, _), (9, _), (10, _), (11, _), (12, _), (13, _), (14, _)]) [0, 1, 2, 3, 4, 5, 6, 7, 8, 9, 10, 11, 12, 13, 14] rfl ?_
                  exact z_eq rfl rfl (by simp only [if_neg c_160]) K_170
              refine z_if_eq (pc := 146) 154 C dX9_lines_146 (by decide) (fun c_146 => ?_) (fun c_146 => ?_)
              · skip
                refine z_iload (pc := 154) C 0 dX9_lines_154 rfl ?_
                refine z_lv (lv' := [(0, _), (1, _), (2, _), (3, _), (4, _), (5, _), (6, _), (7, _), (8, _), (9, _), (10, _), (11, _), (12, _), (13, _), (14, _)]) [1, 2, 3, 4, 5, 6, 7, 8, 9, 10, 11, 12, 13, 14, 0] rfl ?_
                exact z_eq rfl rfl (by simp only [if_pos c_146]) K_156
              · skip
                refine z_iload (pc := 149) C 14 dX9_lines_149 rfl ?_
                refine z_goto (pc := 151) 156 C dX9_lines_151 (by decide) ?_
                refine z_lv (lv' := [(0, _), (1, _), (2, _), (3, _), (4, _), (5, _), (6, _), (7, _), (8, _), (9, _), (10, _), (11, _), (12, _), (13, _), (14, _)]) [1, 2, 3, 4, 5, 6, 7, 8, 9, 10, 11, 12, 13, 14, 0] rfl ?_
                exact z_eq rfl rfl (by simp only [if_neg c_146]) K_156
            refine z_if_ne (pc := 103) 110 C dX9_lines_103 (by decide) (fun c_103 => ?_) (fun c_103 => ?_)
            · skip
              refine z_iload (pc := 110) C 10 dX9_lines_110 rfl ?_
              have K_122 : Z X G 15 0 0 (wMd G da dn dp dr ds dl dc dt dg z_58.2 past states refused aside pile came pileL text textL place nargs) 122 [(0, .ref da), (1, .int t), (2, .int x0), (3, .int y0), (4, .int x1), (5, .int y1), (6, .int join), (7, .int (x1 - x0)), (8, .int (y1 - y0)), (9, .int (if (f_X9_size (x1 - x0)) < (f_X9_size (y1 - y0)) then 0 else 1 : Int32)), (10, .int (if (if (f_X9_size (x1 - x0)) < (f_X9_size (y1 - y0)) then 0 else 1 : Int32) = 0 then (f_X9_size (y1 - y0)) else (f_X9_size (x1 - x0)) : Int32)), (11, .int z_58.1), (12, .int (nI i_58)), (13, .int (if (if (f_X9_size (x1 - x0)) < (f_X9_size (y1 - y0)) then 0 else 1 : Int32) = 0 then if 0 ≤ (y1 - y0) then (nI i_58) else (-(nI i_58)) else if 0 ≤ (x1 - x0) then (nI i_58) else (-(nI i_58)) : Int32))] [.int (if (if (f_X9_size (x1 - x0)) < (f_X9_size (y1 - y0)) then 0 else 1 : Int32) = 0 then (x1 - x0) else (y1 - y0) : Int32)] := by
                refine z_iconst (pc := 122) (v := 2) C dX9_lines_122 (by decide) ?_
                refine z_imul (pc := 123) C dX9_lines_123 ?_
                refine z_iload (pc := 124) C 12 dX9_lines_124 rfl ?_
                refine z_imul (pc := 126) C dX9_lines_126 ?_
                refine z_iload (pc := 127) C 10 dX9_lines_127 rfl ?_
                refine z_iadd (pc := 129) C dX9_lines_129 ?_
                refine z_iconst (pc := 130) (v := 2) C dX9_lines_130 (by decide) ?_
                refine z_iload (pc := 131) C 10 dX9_lines_131 rfl ?_
                refine z_imul (pc := 133) C dX9_lines_133 ?_
                refine z_callS (pc := 134) C (c_X9_by (by exact (two_nz c_103 hN))) [] z00 mS_X9_by q_993 dX9_lines_134 rfl rfl rfl rfl (Nat.le_of_ble_eq_true rfl) (by decide) (pI.stay rfl ?_)
                refine z_lv (lv' := [(0, _), (1, _), (2, _), (3, _), (4, _), (5, _), (6, _), (7, _), (8, _), (9, _), (10, _), (11, _), (12, _), (13, _)]) [0, 1, 2, 3, 4, 5, 6, 7, 8, 9, 10, 11, 12, 13] rfl ?_
                exact z_eq rfl rfl (by simp only [if_neg c_103]) K_137
              refine z_if_eq (pc := 112) 120 C dX9_lines_112 (by decide) (fun c_112 => ?_) (fun c_112 => ?_)
              · skip
                refine z_iload (pc := 120) C 8 dX9_lines_120 rfl ?_
                refine z_lv (lv' := [(0, _), (1, _), (2, _), (3, _), (4, _), (5, _), (6, _), (7, _), (8, _), (9, _), (10, _), (11, _), (12, _), (13, _)]) [1, 2, 3, 4, 5, 6, 7, 8, 9, 10, 11, 12, 13, 0] rfl ?_
                exact z_eq rfl rfl (by simp only [if_pos c_112]) K_122
              · skip
                refine z_iload (pc := 115) C 9 dX9_lines_115 rfl ?_
                refine z_goto (pc := 117) 122 C dX9_lines_117 (by decide) ?_
                refine z_lv (lv' := [(0, _), (1, _), (2, _), (3, _), (4, _), (5, _), (6, _), (7, _), (8, _), (9, _), (10, _), (11, _), (12, _), (13, _)]) [1, 2, 3, 4, 5, 6, 7, 8, 9, 10, 11, 12, 13, 0] rfl ?_
                exact z_eq rfl rfl (by simp only [if_neg c_112]) K_122
            · skip
              refine z_iconst (pc := 106) (v := 0) C dX9_lines_106 (by decide) ?_
              refine z_goto (pc := 107) 137 C dX9_lines_107 (by decide) ?_
              refine z_lv (lv' := [(0, _), (1, _), (2, _), (3, _), (4, _), (5, _), (6, _), (7, _), (8, _), (9, _), (10, _), (11, _), (12, _), (13, _)]) [1, 2, 3, 4, 5, 6, 7, 8, 9, 10, 11, 12, 13, 0] rfl ?_
              exact z_eq rfl rfl (by simp only [if_pos c_103]) K_137
          refine z_if_eq (pc := 67) 86 C dX9_lines_67 (by decide) (fun c_67 => ?_) (fun c_67 => ?_)
          · skip
            refine z_iload (pc := 86) C 8 dX9_lines_86 rfl ?_
            refine z_if_ge (pc := 88) 97 C dX9_lines_88 (by decide) (fun c_88 => ?_) (fun c_88 => ?_)
            · skip
              refine z_iload (pc := 97) C 12 dX9_lines_97 rfl ?_
              refine z_lv (lv' := [(0, _), (1, _), (2, _), (3, _), (4, _), (5, _), (6, _), (7, _), (8, _), (9, _), (10, _), (11, _), (12, _)]) [0, 1, 2, 3, 4, 5, 6, 7, 8, 9, 10, 11, 12] rfl ?_
              exact z_eq rfl rfl (by simp only [if_pos c_67, if_pos c_88]) K_99
            · skip
              refine z_iload (pc := 91) C 12 dX9_lines_91 rfl ?_
              refine z_ineg (pc := 93) C dX9_lines_93 ?_
              refine z_goto (pc := 94) 99 C dX9_lines_94 (by decide) ?_
              refine z_lv (lv' := [(0, _), (1, _), (2, _), (3, _), (4, _), (5, _), (6, _), (7, _), (8, _), (9, _), (10, _), (11, _), (12, _)]) [0, 1, 2, 3, 4, 5, 6, 7, 8, 9, 10, 11, 12] rfl ?_
              exact z_eq rfl rfl (by simp only [if_pos c_67, if_neg c_88]) K_99
          · skip
            refine z_iload (pc := 70) C 7 dX9_lines_70 rfl ?_
            refine z_if_ge (pc := 72) 81 C dX9_lines_72 (by decide) (fun c_72 => ?_) (fun c_72 => ?_)
            · skip
              refine z_iload (pc := 81) C 12 dX9_lines_81 rfl ?_
              refine z_goto (pc := 83) 99 C dX9_lines_83 (by decide) ?_
              refine z_lv (lv' := [(0, _), (1, _), (2, _), (3, _), (4, _), (5, _), (6, _), (7, _), (8, _), (9, _), (10, _), (11, _), (12, _)]) [0, 1, 2, 3, 4, 5, 6, 7, 8, 9, 10, 11, 12] rfl ?_
              exact z_eq rfl rfl (by simp only [if_neg c_67, if_pos c_72]) K_99
            · skip
              refine z_iload (pc := 75) C 12 dX9_lines_75 rfl ?_
              refine z_ineg (pc := 77) C dX9_lines_77 ?_
              refine z_goto (pc := 78) 99 C dX9_lines_78 (by decide) ?_
              refine z_lv (lv' := [(0, _), (1, _), (2, _), (3, _), (4, _), (5, _), (6, _), (7, _), (8, _), (9, _), (10, _), (11, _), (12, _)]) [0, 1, 2, 3, 4, 5, 6, 7, 8, 9, 10, 11, 12] rfl ?_
              exact z_eq rfl rfl (by simp only [if_neg c_67, if_neg c_72]) K_99
      · show Z X G 15 0 0 (wMd G da dn dp dr ds dl dc dt dg ((s_X9_lines_58 now t x0 y0 x1 y1 join ((if (if (f_X9_size (x1 - x0)) < (f_X9_size (y1 - y0)) then 0 else 1 : Int32) = 0 then (f_X9_size (y1 - y0)) else (f_X9_size (x1 - x0)) : Int32).toNatClampNeg + 1)).2) past states refused aside pile came pileL text textL place nargs) 58 [(0, .ref da), (1, .int t), (2, .int x0), (3, .int y0), (4, .int x1), (5, .int y1), (6, .int join), (7, .int (x1 - x0)), (8, .int (y1 - y0)), (9, .int (if (f_X9_size (x1 - x0)) < (f_X9_size (y1 - y0)) then 0 else 1 : Int32)), (10, .int (if (if (f_X9_size (x1 - x0)) < (f_X9_size (y1 - y0)) then 0 else 1 : Int32) = 0 then (f_X9_size (y1 - y0)) else (f_X9_size (x1 - x0)) : Int32)), (11, .int ((s_X9_lines_58 now t x0 y0 x1 y1 join ((if (if (f_X9_size (x1 - x0)) < (f_X9_size (y1 - y0)) then 0 else 1 : Int32) = 0 then (f_X9_size (y1 - y0)) else (f_X9_size (x1 - x0)) : Int32).toNatClampNeg + 1)).1)), (12, .int (nI ((if (if (f_X9_size (x1 - x0)) < (f_X9_size (y1 - y0)) then 0 else 1 : Int32) = 0 then (f_X9_size (y1 - y0)) else (f_X9_size (x1 - x0)) : Int32).toNatClampNeg + 1)))] []
        have hI_58 : mOk (s_X9_lines_58 now t x0 y0 x1 y1 join ((if (if (f_X9_size (x1 - x0)) < (f_X9_size (y1 - y0)) then 0 else 1 : Int32) = 0 then (f_X9_size (y1 - y0)) else (f_X9_size (x1 - x0)) : Int32).toNatClampNeg + 1)).2 := i_X9_lines_58 (by exact hT) (by exact hm) ((if (if (f_X9_size (x1 - x0)) < (f_X9_size (y1 - y0)) then 0 else 1 : Int32) = 0 then (f_X9_size (y1 - y0)) else (f_X9_size (x1 - x0)) : Int32).toNatClampNeg + 1)
        refine z_iload (pc := 58) C 12 dX9_lines_58 rfl ?_
        refine z_iload (pc := 60) C 10 dX9_lines_60 rfl ?_
        refine z_icmp_gt (pc := 62) 186 C dX9_lines_62 (by decide) (fun c_62 => ?_) (fun c_62 => ?_)
        · skip
          refine z_iload (pc := 186) C 11 dX9_lines_186 rfl ?_
          exact z_iret (pc := 188) C E dX9_lines_188 (pI.mk rfl rfl)
        · skip
          exact absurd (gt_x hNn.1 (by omega)) c_62
    refine z_if_eq (pc := 34) 45 C dX9_lines_34 (by decide) (fun c_34 => ?_) (fun c_34 => ?_)
    · skip
      refine z_iload (pc := 45) C 9 dX9_lines_45 rfl ?_
      refine z_callS (pc := 47) C (c_X9_size) [] z00 mS_X9_size q_990 dX9_lines_47 rfl rfl rfl rfl (Nat.le_of_ble_eq_true rfl) (by decide) (pI.stay rfl ?_)
      refine z_lv (lv' := [(0, _), (1, _), (2, _), (3, _), (4, _), (5, _), (6, _), (7, _), (8, _), (9, _)]) [1, 2, 3, 4, 5, 6, 7, 8, 9, 0] rfl ?_
      exact z_eq rfl rfl (by simp only [if_pos c_34]) K_50
    · skip
      refine z_iload (pc := 37) C 8 dX9_lines_37 rfl ?_
      refine z_callS (pc := 39) C (c_X9_size) [] z00 mS_X9_size q_990 dX9_lines_39 rfl rfl rfl rfl (Nat.le_of_ble_eq_true rfl) (by decide) (pI.stay rfl ?_)
      refine z_goto (pc := 42) 50 C dX9_lines_42 (by decide) ?_
      refine z_lv (lv' := [(0, _), (1, _), (2, _), (3, _), (4, _), (5, _), (6, _), (7, _), (8, _), (9, _)]) [1, 2, 3, 4, 5, 6, 7, 8, 9, 0] rfl ?_
      exact z_eq rfl rfl (by simp only [if_neg c_34]) K_50
  refine z_icmp_lt (pc := 22) 29 C dX9_lines_22 (by decide) (fun c_22 => ?_) (fun c_22 => ?_)
  · skip
    refine z_iconst (pc := 29) (v := 0) C dX9_lines_29 (by decide) ?_
    refine z_lv (lv' := [(0, _), (1, _), (2, _), (3, _), (4, _), (5, _), (6, _), (7, _), (8, _)]) [2, 3, 4, 5, 6, 7, 8, 1, 0] rfl ?_
    exact z_eq rfl rfl (by simp only [if_pos c_22]) K_30
  · skip
    refine z_iconst (pc := 25) (v := 1) C dX9_lines_25 (by decide) ?_
    refine z_goto (pc := 26) 30 C dX9_lines_26 (by decide) ?_
    refine z_lv (lv' := [(0, _), (1, _), (2, _), (3, _), (4, _), (5, _), (6, _), (7, _), (8, _)]) [2, 3, 4, 5, 6, 7, 8, 1, 0] rfl ?_
    exact z_eq rfl rfl (by simp only [if_neg c_22]) K_30

def b_X9_rectangles_16 (t : Int32) (x : Int32) (y : Int32) (join : Int32) (i_6 : Nat) (i_16 : Nat) (z_16 : Int32 × (Nat → Int32)) : Int32 × (Nat → Int32) := (z_16.1 + (f_X9_joinsAt z_16.2 t (x + (nI i_16)) (y + (nI i_6)) 1 join), g_X9_joinsAt_now z_16.2 t (x + (nI i_16)) (y + (nI i_6)) 1 join)
def s_X9_rectangles_16 (t : Int32) (x : Int32) (y : Int32) (join : Int32) (i_6 : Nat) (z_6 : Int32 × (Nat → Int32)) : Nat → Int32 × (Nat → Int32)
  | 0 => (z_6.1, z_6.2)
  | i_16 + 1 => b_X9_rectangles_16 t x y join i_6 i_16 (s_X9_rectangles_16 t x y join i_6 z_6 i_16)
def b_X9_rectangles_6 (t : Int32) (x : Int32) (y : Int32) (w : Int32) (join : Int32) (i_6 : Nat) (z_6 : Int32 × (Nat → Int32)) : Int32 × (Nat → Int32) := ((s_X9_rectangles_16 t x y join i_6 z_6 w.toNatClampNeg).1, (s_X9_rectangles_16 t x y join i_6 z_6 w.toNatClampNeg).2)
def s_X9_rectangles_6 (now : Nat → Int32) (t : Int32) (x : Int32) (y : Int32) (w : Int32) (join : Int32) : Nat → Int32 × (Nat → Int32)
  | 0 => (0, now)
  | i_6 + 1 => b_X9_rectangles_6 t x y w join i_6 (s_X9_rectangles_6 now t x y w join i_6)
def f_X9_rectangles (now : Nat → Int32) (t : Int32) (x : Int32) (y : Int32) (w : Int32) (h : Int32) (join : Int32) : Int32 := (s_X9_rectangles_6 now t x y w join h.toNatClampNeg).1
def g_X9_rectangles_now (now : Nat → Int32) (t : Int32) (x : Int32) (y : Int32) (w : Int32) (h : Int32) (join : Int32) : Nat → Int32 := (s_X9_rectangles_6 now t x y w join h.toNatClampNeg).2
theorem i_X9_rectangles_16 {t : Int32} {x : Int32} {y : Int32} {join : Int32} {i_6 : Nat} {z_6 : Int32 × (Nat → Int32)} (hT : pT t) (h0 : mOk (z_6.1, z_6.2).2) : ∀ i : Nat, mOk (s_X9_rectangles_16 t x y join i_6 z_6 i).2 := by
  intro i
  induction i with
  | zero => exact h0
  | succ i ih => unfold s_X9_rectangles_16 b_X9_rectangles_16; dsimp only; exact mOk_join hT ih
theorem i_X9_rectangles_6 {now : Nat → Int32} {t : Int32} {x : Int32} {y : Int32} {w : Int32} {join : Int32} (hT : pT t) (h0 : mOk (0, now).2) : ∀ i : Nat, mOk (s_X9_rectangles_6 now t x y w join i).2 := by
  intro i
  induction i with
  | zero => exact h0
  | succ i ih => unfold s_X9_rectangles_6 b_X9_rectangles_6; dsimp only; exact i_X9_rectangles_16 hT (by exact ih) _
set_option maxRecDepth 100000 in
theorem c_X9_rectangles {l : Launch} {G : zG} {da dn dp dr ds dl dc dt dg : Nat} {now : Nat → Int32} {past : Nat → Int32} {states : Int32} {refused : Nat → Int32} {aside : Nat → Int32} {pile : Nat → Int32} {came : Nat → Int32} {pileL : Int32} {text : Nat → Int32} {textL : Int32} {place : Int32} {nargs : Nat → Int32} {t : Int32} {x : Int32} {y : Int32} {w : Int32} {h : Int32} {join : Int32} (hT : pT t) (hm : mOk now) (hw : hOk w) (hh : hOk h) : Ct l G yX9_rectangles cX9_rectangles 10 (Option.some FieldType.int) 5 120 [.ref da, .int t, .int x, .int y, .int w, .int h, .int join] (wMd G da dn dp dr ds dl dc dt dg now past states refused aside pile came pileL text textL place nargs) (pI (f_X9_rectangles now t x y w h join) (wMd G da dn dp dr ds dl dc dt dg (g_X9_rectangles_now now t x y w h join) past states refused aside pile came pileL text textL place nargs)) := by
  refine Ct.of (plainFor_of_name (by decide)) (Nat.le_of_ble_eq_true rfl) (pI.ad ad_Md) (fun X C E => ?_)
  show Z X G 10 0 0 _ 0 [(0, .ref da), (1, .int t), (2, .int x), (3, .int y), (4, .int w), (5, .int h), (6, .int join)] []
  have hkw := hOk_nI hw
  have hkh := hOk_nI hh
  refine z_iconst (pc := 0) (v := 0) C dX9_rectangles_0 (by decide) ?_
  refine z_istore (pc := 1) [(7, _), (0, _), (1, _), (2, _), (3, _), (4, _), (5, _), (6, _)] C dX9_rectangles_1 (by decide) rfl ?_
  refine z_iconst (pc := 3) (v := 0) C dX9_rectangles_3 (by decide) ?_
  refine z_istore (pc := 4) [(8, _), (7, _), (0, _), (1, _), (2, _), (3, _), (4, _), (5, _), (6, _)] C dX9_rectangles_4 (by decide) rfl ?_
  refine z_lv (lv' := [(0, _), (1, _), (2, _), (3, _), (4, _), (5, _), (6, _), (7, _), (8, _)]) [2, 3, 4, 5, 6, 7, 8, 1, 0] rfl ?_
  refine z_loop (pc := 6) (e := h.toNatClampNeg) (fun i_6 => wMd G da dn dp dr ds dl dc dt dg ((s_X9_rectangles_6 now t x y w join i_6).2) past states refused aside pile came pileL text textL place nargs) (fun i_6 => [(0, .ref da), (1, .int t), (2, .int x), (3, .int y), (4, .int w), (5, .int h), (6, .int join), (7, .int ((s_X9_rectangles_6 now t x y w join i_6).1)), (8, .int (nI i_6))]) [] (fun i_6 hi_6 ih_6 => ?_) ?_ 0 (Nat.zero_le _)
  · show Z X G 10 0 0 (wMd G da dn dp dr ds dl dc dt dg ((s_X9_rectangles_6 now t x y w join i_6).2) past states refused aside pile came pileL text textL place nargs) 6 [(0, .ref da), (1, .int t), (2, .int x), (3, .int y), (4, .int w), (5, .int h), (6, .int join), (7, .int ((s_X9_rectangles_6 now t x y w join i_6).1)), (8, .int (nI i_6))] []
    generalize hz_6 : s_X9_rectangles_6 now t x y w join i_6 = z_6
    have hI_6 : mOk z_6.2 := by rw [← hz_6]; exact i_X9_rectangles_6 (by exact hT) (by exact hm) i_6
    refine z_iload (pc := 6) C 8 dX9_rectangles_6 rfl ?_
    refine z_iload (pc := 8) C 5 dX9_rectangles_8 rfl ?_
    refine z_icmp_ge (pc := 10) 56 C dX9_rectangles_10 (by decide) (fun c_10 => ?_) (fun c_10 => ?_)
    · skip
      exact absurd c_10 (lps (hkh.1) (by omega) (by omega))
    · skip
      refine z_iconst (pc := 13) (v := 0) C dX9_rectangles_13 (by decide) ?_
      refine z_istore (pc := 14) [(9, _), (0, _), (1, _), (2, _), (3, _), (4, _), (5, _), (6, _), (7, _), (8, _)] C dX9_rectangles_14 (by decide) rfl ?_
      refine z_lv (lv' := [(0, _), (1, _), (2, _), (3, _), (4, _), (5, _), (6, _), (7, _), (8, _), (9, _)]) [1, 2, 3, 4, 5, 6, 7, 8, 9, 0] rfl ?_
      refine z_loop (pc := 16) (e := w.toNatClampNeg) (fun i_16 => wMd G da dn dp dr ds dl dc dt dg ((s_X9_rectangles_16 t x y join i_6 z_6 i_16).2) past states refused aside pile came pileL text textL place nargs) (fun i_16 => [(0, .ref da), (1, .int t), (2, .int x), (3, .int y), (4, .int w), (5, .int h), (6, .int join), (7, .int ((s_X9_rectangles_16 t x y join i_6 z_6 i_16).1)), (8, .int (nI i_6)), (9, .int (nI i_16))]) [] (fun i_16 hi_16 ih_16 => ?_) ?_ 0 (Nat.zero_le _)
      · show Z X G 10 0 0 (wMd G da dn dp dr ds dl dc dt dg ((s_X9_rectangles_16 t x y join i_6 z_6 i_16).2) past states refused aside pile came pileL text textL place nargs) 16 [(0, .ref da), (1, .int t), (2, .int x), (3, .int y), (4, .int w), (5, .int h), (6, .int join), (7, .int ((s_X9_rectangles_16 t x y join i_6 z_6 i_16).1)), (8, .int (nI i_6)), (9, .int (nI i_16))] []
        generalize hz_16 : s_X9_rectangles_16 t x y join i_6 z_6 i_16 = z_16
        have hI_16 : mOk z_16.2 := by rw [← hz_16]; exact i_X9_rectangles_16 (by exact hT) (by exact hI_6) i_16
        refine z_iload (pc := 16) C 9 dX9_rectangles_16 rfl ?_
        refine z_iload (pc := 18) C 4 dX9_rectangles_18 rfl ?_
        refine z_icmp_ge (pc := 20) 50 C dX9_rectangles_20 (by decide) (fun c_20 => ?_) (fun c_20 => ?_)
        · skip
          exact absurd c_20 (lps (hkw.1) (by omega) (by omega))
        · skip
          refine z_iload (pc := 23) C 7 dX9_rectangles_23 rfl ?_
          refine z_aload_n (pc := 25) C 0 dX9_rectangles_25 rfl ?_
          refine z_iload_n (pc := 26) C 1 dX9_rectangles_26 rfl ?_
          refine z_iload_n (pc := 27) C 2 dX9_rectangles_27 rfl ?_
          refine z_iload (pc := 28) C 9 dX9_rectangles_28 rfl ?_
          refine z_iadd (pc := 30) C dX9_rectangles_30 ?_
          refine z_iload_n (pc := 31) C 3 dX9_rectangles_31 rfl ?_
          refine z_iload (pc := 32) C 8 dX9_rectangles_32 rfl ?_
          refine z_iadd (pc := 34) C dX9_rectangles_34 ?_
          refine z_iconst (pc := 35) (v := 1) C dX9_rectangles_35 (by decide) ?_
          refine z_iload (pc := 36) C 6 dX9_rectangles_36 rfl ?_
          refine z_callV (pc := 38) C (c_X9_joinsAt (by exact hT) (by exact hI_16)) [0, 1, 2, 3, 4, 5, 6, 7, 8] z00 mV_X9_joinsAt q_970 dX9_rectangles_38 rfl rfl rfl 0 rfl rfl rfl rfl (Nat.le_of_ble_eq_true rfl) (by decide) (pI.go (ws' := wMd G da dn dp dr ds dl dc dt dg _ past states refused aside pile came pileL text textL place nargs) rfl ?_)
          refine z_iadd (pc := 41) C dX9_rectangles_41 ?_
          refine z_istore (pc := 42) [(7, _), (0, _), (1, _), (2, _), (3, _), (4, _), (5, _), (6, _), (8, _), (9, _)] C dX9_rectangles_42 (by decide) rfl ?_
          refine z_iinc (pc := 44) (v := nI (i_16 + 1)) [(9, _), (7, _), (0, _), (1, _), (2, _), (3, _), (4, _), (5, _), (6, _), (8, _)] C 9 dX9_rectangles_44 rfl ((nI_succ _).symm) (by decide) rfl ?_
          refine z_goto (pc := 47) 16 C dX9_rectangles_47 (by decide) ?_
          refine z_lv (lv' := [(0, _), (1, _), (2, _), (3, _), (4, _), (5, _), (6, _), (7, _), (8, _), (9, _)]) [2, 3, 4, 5, 6, 7, 8, 1, 9, 0] rfl ?_
          exact z_eq (by simp only [s_X9_rectangles_16, hz_16, b_X9_rectangles_16]) (by simp only [s_X9_rectangles_16, hz_16, b_X9_rectangles_16]) rfl ih_16
      · show Z X G 10 0 0 (wMd G da dn dp dr ds dl dc dt dg ((s_X9_rectangles_16 t x y join i_6 z_6 w.toNatClampNeg).2) past states refused aside pile came pileL text textL place nargs) 16 [(0, .ref da), (1, .int t), (2, .int x), (3, .int y), (4, .int w), (5, .int h), (6, .int join), (7, .int ((s_X9_rectangles_16 t x y join i_6 z_6 w.toNatClampNeg).1)), (8, .int (nI i_6)), (9, .int (nI w.toNatClampNeg))] []
        have hI_16 : mOk (s_X9_rectangles_16 t x y join i_6 z_6 w.toNatClampNeg).2 := i_X9_rectangles_16 (by exact hT) (by exact hI_6) w.toNatClampNeg
        refine z_iload (pc := 16) C 9 dX9_rectangles_16 rfl ?_
        refine z_iload (pc := 18) C 4 dX9_rectangles_18 rfl ?_
        refine z_icmp_ge (pc := 20) 50 C dX9_rectangles_20 (by decide) (fun c_20 => ?_) (fun c_20 => ?_)
        · skip
          refine z_iinc (pc := 50) (v := nI (i_6 + 1)) [(8, _), (0, _), (1, _), (2, _), (3, _), (4, _), (5, _), (6, _), (7, _), (9, _)] C 8 dX9_rectangles_50 rfl ((nI_succ _).symm) (by decide) rfl ?_
          refine z_goto (pc := 53) 6 C dX9_rectangles_53 (by decide) ?_
          refine z_lv (lv' := [(0, _), (1, _), (2, _), (3, _), (4, _), (5, _), (6, _), (7, _), (8, _)]) [1, 2, 3, 4, 5, 6, 7, 8, 0] rfl ?_
          exact z_eq (by simp only [s_X9_rectangles_6, hz_6, b_X9_rectangles_6]) (by simp only [s_X9_rectangles_6, hz_6, b_X9_rectangles_6]) rfl ih_6
        · skip
          exact absurd (lpx (hkw.1)) c_20
  · show Z X G 10 0 0 (wMd G da dn dp dr ds dl dc dt dg ((s_X9_rectangles_6 now t x y w join h.toNatClampNeg).2) past states refused aside pile came pileL text textL place nargs) 6 [(0, .ref da), (1, .int t), (2, .int x), (3, .int y), (4, .int w), (5, .int h), (6, .int join), (7, .int ((s_X9_rectangles_6 now t x y w join h.toNatClampNeg).1)), (8, .int (nI h.toNatClampNeg))] []
    have hI_6 : mOk (s_X9_rectangles_6 now t x y w join h.toNatClampNeg).2 := i_X9_rectangles_6 (by exact hT) (by exact hm) h.toNatClampNeg
    refine z_iload (pc := 6) C 8 dX9_rectangles_6 rfl ?_
    refine z_iload (pc := 8) C 5 dX9_rectangles_8 rfl ?_
    refine z_icmp_ge (pc := 10) 56 C dX9_rectangles_10 (by decide) (fun c_10 => ?_) (fun c_10 => ?_)
    · skip
      refine z_iload (pc := 56) C 7 dX9_rectangles_56 rfl ?_
      exact z_iret (pc := 58) C E dX9_rectangles_58 (pI.mk rfl rfl)
    · skip
      exact absurd (lpx (hkh.1)) c_10

def b_X9_letters_32 (t : Int32) (n : Int32) (x : Int32) (y : Int32) (join : Int32) (i_6 : Nat) (i_32 : Nat) (z_32 : Int32 × (Nat → Int32)) : Int32 × (Nat → Int32) := (z_32.1 + (f_X9_joinsAt z_32.2 t (x + (nI i_32)) (y + (nI i_6)) ((((((5 * n) + (3 * (nI i_6))) + (n / 3)) - (((5 * n) + (3 * (nI i_6))) + (n / 3)) / 16 * 16) >>> ((3 - (nI i_32)) &&& 31)) &&& 1) join), g_X9_joinsAt_now z_32.2 t (x + (nI i_32)) (y + (nI i_6)) ((((((5 * n) + (3 * (nI i_6))) + (n / 3)) - (((5 * n) + (3 * (nI i_6))) + (n / 3)) / 16 * 16) >>> ((3 - (nI i_32)) &&& 31)) &&& 1) join)
def s_X9_letters_32 (t : Int32) (n : Int32) (x : Int32) (y : Int32) (join : Int32) (i_6 : Nat) (z_6 : Int32 × (Nat → Int32)) : Nat → Int32 × (Nat → Int32)
  | 0 => (z_6.1, z_6.2)
  | i_32 + 1 => b_X9_letters_32 t n x y join i_6 i_32 (s_X9_letters_32 t n x y join i_6 z_6 i_32)
def b_X9_letters_6 (t : Int32) (n : Int32) (x : Int32) (y : Int32) (join : Int32) (i_6 : Nat) (z_6 : Int32 × (Nat → Int32)) : Int32 × (Nat → Int32) := ((s_X9_letters_32 t n x y join i_6 z_6 4).1, (s_X9_letters_32 t n x y join i_6 z_6 4).2)
def s_X9_letters_6 (now : Nat → Int32) (t : Int32) (n : Int32) (x : Int32) (y : Int32) (join : Int32) : Nat → Int32 × (Nat → Int32)
  | 0 => (0, now)
  | i_6 + 1 => b_X9_letters_6 t n x y join i_6 (s_X9_letters_6 now t n x y join i_6)
def f_X9_letters (now : Nat → Int32) (t : Int32) (n : Int32) (x : Int32) (y : Int32) (join : Int32) : Int32 := (s_X9_letters_6 now t n x y join 4).1
def g_X9_letters_now (now : Nat → Int32) (t : Int32) (n : Int32) (x : Int32) (y : Int32) (join : Int32) : Nat → Int32 := (s_X9_letters_6 now t n x y join 4).2
theorem i_X9_letters_32 {t : Int32} {n : Int32} {x : Int32} {y : Int32} {join : Int32} {i_6 : Nat} {z_6 : Int32 × (Nat → Int32)} (hT : pT t) (h0 : mOk (z_6.1, z_6.2).2) : ∀ i : Nat, mOk (s_X9_letters_32 t n x y join i_6 z_6 i).2 := by
  intro i
  induction i with
  | zero => exact h0
  | succ i ih => unfold s_X9_letters_32 b_X9_letters_32; dsimp only; exact mOk_join hT ih
theorem i_X9_letters_6 {now : Nat → Int32} {t : Int32} {n : Int32} {x : Int32} {y : Int32} {join : Int32} (hT : pT t) (h0 : mOk (0, now).2) : ∀ i : Nat, mOk (s_X9_letters_6 now t n x y join i).2 := by
  intro i
  induction i with
  | zero => exact h0
  | succ i ih => unfold s_X9_letters_6 b_X9_letters_6; dsimp only; exact i_X9_letters_32 hT (by exact ih) _
set_option maxRecDepth 100000 in
theorem c_X9_letters {l : Launch} {G : zG} {da dn dp dr ds dl dc dt dg : Nat} {now : Nat → Int32} {past : Nat → Int32} {states : Int32} {refused : Nat → Int32} {aside : Nat → Int32} {pile : Nat → Int32} {came : Nat → Int32} {pileL : Int32} {text : Nat → Int32} {textL : Int32} {place : Int32} {nargs : Nat → Int32} {t : Int32} {n : Int32} {x : Int32} {y : Int32} {join : Int32} (hT : pT t) (hm : mOk now) : Ct l G yX9_letters cX9_letters 10 (Option.some FieldType.int) 5 120 [.ref da, .int t, .int n, .int x, .int y, .int join] (wMd G da dn dp dr ds dl dc dt dg now past states refused aside pile came pileL text textL place nargs) (pI (f_X9_letters now t n x y join) (wMd G da dn dp dr ds dl dc dt dg (g_X9_letters_now now t n x y join) past states refused aside pile came pileL text textL place nargs)) := by
  refine Ct.of (plainFor_of_name (by decide)) (Nat.le_of_ble_eq_true rfl) (pI.ad ad_Md) (fun X C E => ?_)
  show Z X G 10 0 0 _ 0 [(0, .ref da), (1, .int t), (2, .int n), (3, .int x), (4, .int y), (5, .int join)] []
  refine z_iconst (pc := 0) (v := 0) C dX9_letters_0 (by decide) ?_
  refine z_istore (pc := 1) [(6, _), (0, _), (1, _), (2, _), (3, _), (4, _), (5, _)] C dX9_letters_1 (by decide) rfl ?_
  refine z_iconst (pc := 3) (v := 0) C dX9_letters_3 (by decide) ?_
  refine z_istore (pc := 4) [(7, _), (6, _), (0, _), (1, _), (2, _), (3, _), (4, _), (5, _)] C dX9_letters_4 (by decide) rfl ?_
  refine z_lv (lv' := [(0, _), (1, _), (2, _), (3, _), (4, _), (5, _), (6, _), (7, _)]) [2, 3, 4, 5, 6, 7, 1, 0] rfl ?_
  refine z_loop (pc := 6) (e := 4) (fun i_6 => wMd G da dn dp dr ds dl dc dt dg ((s_X9_letters_6 now t n x y join i_6).2) past states refused aside pile came pileL text textL place nargs) (fun i_6 => [(0, .ref da), (1, .int t), (2, .int n), (3, .int x), (4, .int y), (5, .int join), (6, .int ((s_X9_letters_6 now t n x y join i_6).1)), (7, .int (nI i_6))]) [] (fun i_6 hi_6 ih_6 => ?_) ?_ 0 (Nat.zero_le _)
  · show Z X G 10 0 0 (wMd G da dn dp dr ds dl dc dt dg ((s_X9_letters_6 now t n x y join i_6).2) past states refused aside pile came pileL text textL place nargs) 6 [(0, .ref da), (1, .int t), (2, .int n), (3, .int x), (4, .int y), (5, .int join), (6, .int ((s_X9_letters_6 now t n x y join i_6).1)), (7, .int (nI i_6))] []
    generalize hz_6 : s_X9_letters_6 now t n x y join i_6 = z_6
    have hI_6 : mOk z_6.2 := by rw [← hz_6]; exact i_X9_letters_6 (by exact hT) (by exact hm) i_6
    refine z_iload (pc := 6) C 7 dX9_letters_6 rfl ?_
    refine z_iconst (pc := 8) (v := 4) C dX9_letters_8 (by decide) ?_
    refine z_icmp_ge (pc := 9) 80 C dX9_letters_9 (by decide) (fun c_9 => ?_) (fun c_9 => ?_)
    · skip
      exact absurd c_9 (nI_ge (b := 4) (by omega) (by decide))
    · skip
      refine z_iconst (pc := 12) (v := 5) C dX9_letters_12 (by decide) ?_
      refine z_iload_n (pc := 13) C 2 dX9_letters_13 rfl ?_
      refine z_imul (pc := 14) C dX9_letters_14 ?_
      refine z_iconst (pc := 15) (v := 3) C dX9_letters_15 (by decide) ?_
      refine z_iload (pc := 16) C 7 dX9_letters_16 rfl ?_
      refine z_imul (pc := 18) C dX9_letters_18 ?_
      refine z_iadd (pc := 19) C dX9_letters_19 ?_
      refine z_iload_n (pc := 20) C 2 dX9_letters_20 rfl ?_
      refine z_iconst (pc := 21) (v := 3) C dX9_letters_21 (by decide) ?_
      refine z_idiv (pc := 22) C dX9_letters_22 (by decide) ?_
      refine z_iadd (pc := 23) C dX9_letters_23 ?_
      refine z_bipush (pc := 24) (v := 16) C dX9_letters_24 (by decide) ?_
      refine z_irem (pc := 26) C dX9_letters_26 (by decide) ?_
      refine z_istore (pc := 27) [(8, _), (0, _), (1, _), (2, _), (3, _), (4, _), (5, _), (6, _), (7, _)] C dX9_letters_27 (by decide) rfl ?_
      refine z_iconst (pc := 29) (v := 0) C dX9_letters_29 (by decide) ?_
      refine z_istore (pc := 30) [(9, _), (8, _), (0, _), (1, _), (2, _), (3, _), (4, _), (5, _), (6, _), (7, _)] C dX9_letters_30 (by decide) rfl ?_
      refine z_lv (lv' := [(0, _), (1, _), (2, _), (3, _), (4, _), (5, _), (6, _), (7, _), (8, _), (9, _)]) [2, 3, 4, 5, 6, 7, 8, 9, 1, 0] rfl ?_
      refine z_loop (pc := 32) (e := 4) (fun i_32 => wMd G da dn dp dr ds dl dc dt dg ((s_X9_letters_32 t n x y join i_6 z_6 i_32).2) past states refused aside pile came pileL text textL place nargs) (fun i_32 => [(0, .ref da), (1, .int t), (2, .int n), (3, .int x), (4, .int y), (5, .int join), (6, .int ((s_X9_letters_32 t n x y join i_6 z_6 i_32).1)), (7, .int (nI i_6)), (8, .int ((((5 * n) + (3 * (nI i_6))) + (n / 3)) - (((5 * n) + (3 * (nI i_6))) + (n / 3)) / 16 * 16)), (9, .int (nI i_32))]) [] (fun i_32 hi_32 ih_32 => ?_) ?_ 0 (Nat.zero_le _)
      · show Z X G 10 0 0 (wMd G da dn dp dr ds dl dc dt dg ((s_X9_letters_32 t n x y join i_6 z_6 i_32).2) past states refused aside pile came pileL text textL place nargs) 32 [(0, .ref da), (1, .int t), (2, .int n), (3, .int x), (4, .int y), (5, .int join), (6, .int ((s_X9_letters_32 t n x y join i_6 z_6 i_32).1)), (7, .int (nI i_6)), (8, .int ((((5 * n) + (3 * (nI i_6))) + (n / 3)) - (((5 * n) + (3 * (nI i_6))) + (n / 3)) / 16 * 16)), (9, .int (nI i_32))] []
        generalize hz_32 : s_X9_letters_32 t n x y join i_6 z_6 i_32 = z_32
        have hI_32 : mOk z_32.2 := by rw [← hz_32]; exact i_X9_letters_32 (by exact hT) (by exact hI_6) i_32
        refine z_iload (pc := 32) C 9 dX9_letters_32 rfl ?_
        refine z_iconst (pc := 34) (v := 4) C dX9_letters_34 (by decide) ?_
        refine z_icmp_ge (pc := 35) 74 C dX9_letters_35 (by decide) (fun c_35 => ?_) (fun c_35 => ?_)
        · skip
          exact absurd c_35 (nI_ge (b := 4) (by omega) (by decide))
        · skip
          refine z_iload (pc := 38) C 6 dX9_letters_38 rfl ?_
          refine z_aload_n (pc := 40) C 0 dX9_letters_40 rfl ?_
          refine z_iload_n (pc := 41) C 1 dX9_letters_41 rfl ?_
          refine z_iload_n (pc := 42) C 3 dX9_letters_42 rfl ?_
          refine z_iload (pc := 43) C 9 dX9_letters_43 rfl ?_
          refine z_iadd (pc := 45) C dX9_letters_45 ?_
          refine z_iload (pc := 46) C 4 dX9_letters_46 rfl ?_
          refine z_iload (pc := 48) C 7 dX9_letters_48 rfl ?_
          refine z_iadd (pc := 50) C dX9_letters_50 ?_
          refine z_iload (pc := 51) C 8 dX9_letters_51 rfl ?_
          refine z_iconst (pc := 53) (v := 3) C dX9_letters_53 (by decide) ?_
          refine z_iload (pc := 54) C 9 dX9_letters_54 rfl ?_
          refine z_isub (pc := 56) C dX9_letters_56 ?_
          refine z_ishr (pc := 57) C dX9_letters_57 ?_
          refine z_iconst (pc := 58) (v := 1) C dX9_letters_58 (by decide) ?_
          refine z_iand (pc := 59) C dX9_letters_59 ?_
          refine z_iload (pc := 60) C 5 dX9_letters_60 rfl ?_
          refine z_callV (pc := 62) C (c_X9_joinsAt (by exact hT) (by exact hI_32)) [0, 1, 2, 3, 4, 5, 6, 7, 8] z00 mV_X9_joinsAt q_970 dX9_letters_62 rfl rfl rfl 0 rfl rfl rfl rfl (Nat.le_of_ble_eq_true rfl) (by decide) (pI.go (ws' := wMd G da dn dp dr ds dl dc dt dg _ past states refused aside pile came pileL text textL place nargs) rfl ?_)
          refine z_iadd (pc := 65) C dX9_letters_65 ?_
          refine z_istore (pc := 66) [(6, _), (0, _), (1, _), (2, _), (3, _), (4, _), (5, _), (7, _), (8, _), (9, _)] C dX9_letters_66 (by decide) rfl ?_
          refine z_iinc (pc := 68) (v := nI (i_32 + 1)) [(9, _), (6, _), (0, _), (1, _), (2, _), (3, _), (4, _), (5, _), (7, _), (8, _)] C 9 dX9_letters_68 rfl ((nI_succ _).symm) (by decide) rfl ?_
          refine z_goto (pc := 71) 32 C dX9_letters_71 (by decide) ?_
          refine z_lv (lv' := [(0, _), (1, _), (2, _), (3, _), (4, _), (5, _), (6, _), (7, _), (8, _), (9, _)]) [2, 3, 4, 5, 6, 7, 1, 8, 9, 0] rfl ?_
          exact z_eq (by simp only [s_X9_letters_32, hz_32, b_X9_letters_32]) (by simp only [s_X9_letters_32, hz_32, b_X9_letters_32]) rfl ih_32
      · show Z X G 10 0 0 (wMd G da dn dp dr ds dl dc dt dg ((s_X9_letters_32 t n x y join i_6 z_6 4).2) past states refused aside pile came pileL text textL place nargs) 32 [(0, .ref da), (1, .int t), (2, .int n), (3, .int x), (4, .int y), (5, .int join), (6, .int ((s_X9_letters_32 t n x y join i_6 z_6 4).1)), (7, .int (nI i_6)), (8, .int ((((5 * n) + (3 * (nI i_6))) + (n / 3)) - (((5 * n) + (3 * (nI i_6))) + (n / 3)) / 16 * 16)), (9, .int (nI 4))] []
        have hI_32 : mOk (s_X9_letters_32 t n x y join i_6 z_6 4).2 := i_X9_letters_32 (by exact hT) (by exact hI_6) 4
        refine z_iload (pc := 32) C 9 dX9_letters_32 rfl ?_
        refine z_iconst (pc := 34) (v := 4) C dX9_letters_34 (by decide) ?_
        refine z_icmp_ge (pc := 35) 74 C dX9_letters_35 (by decide) (fun c_35 => ?_) (fun c_35 => ?_)
        · skip
          refine z_iinc (pc := 74) (v := nI (i_6 + 1)) [(7, _), (0, _), (1, _), (2, _), (3, _), (4, _), (5, _), (6, _), (8, _), (9, _)] C 7 dX9_letters_74 rfl ((nI_succ _).symm) (by decide) rfl ?_
          refine z_goto (pc := 77) 6 C dX9_letters_77 (by decide) ?_
          refine z_lv (lv' := [(0, _), (1, _), (2, _), (3, _), (4, _), (5, _), (6, _), (7, _)]) [1, 2, 3, 4, 5, 6, 7, 0] rfl ?_
          exact z_eq (by simp only [s_X9_letters_6, hz_6, b_X9_letters_6]) (by simp only [s_X9_letters_6, hz_6, b_X9_letters_6]) rfl ih_6
        · skip
          exact absurd (nI_le (Nat.le_refl 4) (by decide)) c_35
  · show Z X G 10 0 0 (wMd G da dn dp dr ds dl dc dt dg ((s_X9_letters_6 now t n x y join 4).2) past states refused aside pile came pileL text textL place nargs) 6 [(0, .ref da), (1, .int t), (2, .int n), (3, .int x), (4, .int y), (5, .int join), (6, .int ((s_X9_letters_6 now t n x y join 4).1)), (7, .int (nI 4))] []
    have hI_6 : mOk (s_X9_letters_6 now t n x y join 4).2 := i_X9_letters_6 (by exact hT) (by exact hm) 4
    refine z_iload (pc := 6) C 7 dX9_letters_6 rfl ?_
    refine z_iconst (pc := 8) (v := 4) C dX9_letters_8 (by decide) ?_
    refine z_icmp_ge (pc := 9) 80 C dX9_letters_9 (by decide) (fun c_9 => ?_) (fun c_9 => ?_)
    · skip
      refine z_iload (pc := 80) C 6 dX9_letters_80 rfl ?_
      exact z_iret (pc := 82) C E dX9_letters_82 (pI.mk rfl rfl)
    · skip
      exact absurd (nI_le (Nat.le_refl 4) (by decide)) c_9

def f_X9_move (now : Nat → Int32) (aside : Nat → Int32) (s : Int32) (x : Int32) (y : Int32) (w : Int32) (h : Int32) (t : Int32) (toX : Int32) (toY : Int32) (join : Int32) : Int32 := if (f_X9_isPicture s) = 0 then f_X9_bad (-2) else if (f_X9_isPlace x y) = 0 then f_X9_bad (-2) else if (f_X9_isSize w h) = 0 then f_X9_bad (-2) else if (f_X9_isPicture t) = 0 then f_X9_bad (-2) else if (f_X9_isPlace toX toY) = 0 then f_X9_bad (-2) else if (f_X9_isJoin join) = 0 then f_X9_bad (-2) else f_X9_moves now aside s x y w h t toX toY join
def g_X9_move_now (now : Nat → Int32) (aside : Nat → Int32) (s : Int32) (x : Int32) (y : Int32) (w : Int32) (h : Int32) (t : Int32) (toX : Int32) (toY : Int32) (join : Int32) : Nat → Int32 := if (f_X9_isPicture s) = 0 then now else if (f_X9_isPlace x y) = 0 then now else if (f_X9_isSize w h) = 0 then now else if (f_X9_isPicture t) = 0 then now else if (f_X9_isPlace toX toY) = 0 then now else if (f_X9_isJoin join) = 0 then now else g_X9_moves_now now aside s x y w h t toX toY join
def g_X9_move_past (now : Nat → Int32) (past : Nat → Int32) (states : Int32) (s : Int32) (x : Int32) (y : Int32) (w : Int32) (h : Int32) (t : Int32) (toX : Int32) (toY : Int32) (join : Int32) : Nat → Int32 := if (f_X9_isPicture s) = 0 then past else if (f_X9_isPlace x y) = 0 then past else if (f_X9_isSize w h) = 0 then past else if (f_X9_isPicture t) = 0 then past else if (f_X9_isPlace toX toY) = 0 then past else if (f_X9_isJoin join) = 0 then past else g_X9_keep_past now past states
def g_X9_move_states (states : Int32) (s : Int32) (x : Int32) (y : Int32) (w : Int32) (h : Int32) (t : Int32) (toX : Int32) (toY : Int32) (join : Int32) : Int32 := if (f_X9_isPicture s) = 0 then states else if (f_X9_isPlace x y) = 0 then states else if (f_X9_isSize w h) = 0 then states else if (f_X9_isPicture t) = 0 then states else if (f_X9_isPlace toX toY) = 0 then states else if (f_X9_isJoin join) = 0 then states else g_X9_keep_states states
def g_X9_move_refused (refused : Nat → Int32) (s : Int32) (x : Int32) (y : Int32) (w : Int32) (h : Int32) (t : Int32) (toX : Int32) (toY : Int32) (join : Int32) : Nat → Int32 := if (f_X9_isPicture s) = 0 then g_X9_bad_refused refused else if (f_X9_isPlace x y) = 0 then g_X9_bad_refused refused else if (f_X9_isSize w h) = 0 then g_X9_bad_refused refused else if (f_X9_isPicture t) = 0 then g_X9_bad_refused refused else if (f_X9_isPlace toX toY) = 0 then g_X9_bad_refused refused else if (f_X9_isJoin join) = 0 then g_X9_bad_refused refused else refused
def g_X9_move_aside (now : Nat → Int32) (aside : Nat → Int32) (s : Int32) (x : Int32) (y : Int32) (w : Int32) (h : Int32) (t : Int32) (toX : Int32) (toY : Int32) (join : Int32) : Nat → Int32 := if (f_X9_isPicture s) = 0 then aside else if (f_X9_isPlace x y) = 0 then aside else if (f_X9_isSize w h) = 0 then aside else if (f_X9_isPicture t) = 0 then aside else if (f_X9_isPlace toX toY) = 0 then aside else if (f_X9_isJoin join) = 0 then aside else g_X9_moves_aside now aside
set_option maxRecDepth 100000 in
theorem c_X9_move {l : Launch} {G : zG} {da dn dp dr ds dl dc dt dg : Nat} {now : Nat → Int32} {past : Nat → Int32} {states : Int32} {refused : Nat → Int32} {aside : Nat → Int32} {pile : Nat → Int32} {came : Nat → Int32} {pileL : Int32} {text : Nat → Int32} {textL : Int32} {place : Int32} {nargs : Nat → Int32} {s : Int32} {x : Int32} {y : Int32} {w : Int32} {h : Int32} {t : Int32} {toX : Int32} {toY : Int32} {join : Int32} (hm : mOk now) (hq : qOk states) : Ct l G yX9_move cX9_move 10 (Option.some FieldType.int) 6 152 [.ref da, .int s, .int x, .int y, .int w, .int h, .int t, .int toX, .int toY, .int join] (wMd G da dn dp dr ds dl dc dt dg now past states refused aside pile came pileL text textL place nargs) (pI (f_X9_move now aside s x y w h t toX toY join) (wMd G da dn dp dr ds dl dc dt dg (g_X9_move_now now aside s x y w h t toX toY join) (g_X9_move_past now past states s x y w h t toX toY join) (g_X9_move_states states s x y w h t toX toY join) (g_X9_move_refused refused s x y w h t toX toY join) (g_X9_move_aside now aside s x y w h t toX toY join) pile came pileL text textL place nargs)) := by
  refine Ct.of (plainFor_of_name (by decide)) (Nat.le_of_ble_eq_true rfl) (pI.ad ad_Md) (fun X C E => ?_)
  show Z X G 10 0 0 _ 0 [(0, .ref da), (1, .int s), (2, .int x), (3, .int y), (4, .int w), (5, .int h), (6, .int t), (7, .int toX), (8, .int toY), (9, .int join)] []
  refine z_iload_n (pc := 0) C 1 dX9_move_0 rfl ?_
  refine z_callS (pc := 1) C (c_X9_isPicture) [] z00 mS_X9_isPicture q_871 dX9_move_1 rfl rfl rfl rfl (Nat.le_of_ble_eq_true rfl) (by decide) (pI.stay rfl ?_)
  refine z_if_eq (pc := 4) 51 C dX9_move_4 (by decide) (fun c_4 => ?_) (fun c_4 => ?_)
  · skip
    refine z_aload_n (pc := 51) C 0 dX9_move_51 rfl ?_
    refine z_bipush (pc := 52) (v := (-2)) C dX9_move_52 (by decide) ?_
    refine z_callV (pc := 54) C (c_X9_bad) [0, 1, 2, 3, 4, 5, 6, 7, 8] z00 mV_X9_bad q_883 dX9_move_54 rfl rfl rfl 0 rfl rfl rfl rfl (Nat.le_of_ble_eq_true rfl) (by decide) (pI.go (ws' := wMd G da dn dp dr ds dl dc dt dg now past states _ aside pile came pileL text textL place nargs) rfl ?_)
    exact z_iret (pc := 57) C E dX9_move_57 (pI.mk (by simp only [f_X9_move, if_pos c_4]) (by simp only [g_X9_move_now, g_X9_move_past, g_X9_move_states, g_X9_move_refused, g_X9_move_aside, if_pos c_4]))
  · skip
    refine z_iload_n (pc := 7) C 2 dX9_move_7 rfl ?_
    refine z_iload_n (pc := 8) C 3 dX9_move_8 rfl ?_
    refine z_callS (pc := 9) C (c_X9_isPlace) [] z00 mS_X9_isPlace q_926 dX9_move_9 rfl rfl rfl rfl (Nat.le_of_ble_eq_true rfl) (by decide) (pI.stay rfl ?_)
    refine z_if_eq (pc := 12) 51 C dX9_move_12 (by decide) (fun c_12 => ?_) (fun c_12 => ?_)
    · skip
      refine z_aload_n (pc := 51) C 0 dX9_move_51 rfl ?_
      refine z_bipush (pc := 52) (v := (-2)) C dX9_move_52 (by decide) ?_
      refine z_callV (pc := 54) C (c_X9_bad) [0, 1, 2, 3, 4, 5, 6, 7, 8] z00 mV_X9_bad q_883 dX9_move_54 rfl rfl rfl 0 rfl rfl rfl rfl (Nat.le_of_ble_eq_true rfl) (by decide) (pI.go (ws' := wMd G da dn dp dr ds dl dc dt dg now past states _ aside pile came pileL text textL place nargs) rfl ?_)
      exact z_iret (pc := 57) C E dX9_move_57 (pI.mk (by simp only [f_X9_move, if_neg c_4, if_pos c_12]) (by simp only [g_X9_move_now, g_X9_move_past, g_X9_move_states, g_X9_move_refused, g_X9_move_aside, if_neg c_4, if_pos c_12]))
    · skip
      refine z_iload (pc := 15) C 4 dX9_move_15 rfl ?_
      refine z_iload (pc := 17) C 5 dX9_move_17 rfl ?_
      refine z_callS (pc := 19) C (c_X9_isSize) [] z00 mS_X9_isSize q_931 dX9_move_19 rfl rfl rfl rfl (Nat.le_of_ble_eq_true rfl) (by decide) (pI.stay rfl ?_)
      refine z_if_eq (pc := 22) 51 C dX9_move_22 (by decide) (fun c_22 => ?_) (fun c_22 => ?_)
      · skip
        refine z_aload_n (pc := 51) C 0 dX9_move_51 rfl ?_
        refine z_bipush (pc := 52) (v := (-2)) C dX9_move_52 (by decide) ?_
        refine z_callV (pc := 54) C (c_X9_bad) [0, 1, 2, 3, 4, 5, 6, 7, 8] z00 mV_X9_bad q_883 dX9_move_54 rfl rfl rfl 0 rfl rfl rfl rfl (Nat.le_of_ble_eq_true rfl) (by decide) (pI.go (ws' := wMd G da dn dp dr ds dl dc dt dg now past states _ aside pile came pileL text textL place nargs) rfl ?_)
        exact z_iret (pc := 57) C E dX9_move_57 (pI.mk (by simp only [f_X9_move, if_neg c_4, if_neg c_12, if_pos c_22]) (by simp only [g_X9_move_now, g_X9_move_past, g_X9_move_states, g_X9_move_refused, g_X9_move_aside, if_neg c_4, if_neg c_12, if_pos c_22]))
      · skip
        refine z_iload (pc := 25) C 6 dX9_move_25 rfl ?_
        refine z_callS (pc := 27) C (c_X9_isPicture) [] z00 mS_X9_isPicture q_871 dX9_move_27 rfl rfl rfl rfl (Nat.le_of_ble_eq_true rfl) (by decide) (pI.stay rfl ?_)
        refine z_if_eq (pc := 30) 51 C dX9_move_30 (by decide) (fun c_30 => ?_) (fun c_30 => ?_)
        · skip
          refine z_aload_n (pc := 51) C 0 dX9_move_51 rfl ?_
          refine z_bipush (pc := 52) (v := (-2)) C dX9_move_52 (by decide) ?_
          refine z_callV (pc := 54) C (c_X9_bad) [0, 1, 2, 3, 4, 5, 6, 7, 8] z00 mV_X9_bad q_883 dX9_move_54 rfl rfl rfl 0 rfl rfl rfl rfl (Nat.le_of_ble_eq_true rfl) (by decide) (pI.go (ws' := wMd G da dn dp dr ds dl dc dt dg now past states _ aside pile came pileL text textL place nargs) rfl ?_)
          exact z_iret (pc := 57) C E dX9_move_57 (pI.mk (by simp only [f_X9_move, if_neg c_4, if_neg c_12, if_neg c_22, if_pos c_30]) (by simp only [g_X9_move_now, g_X9_move_past, g_X9_move_states, g_X9_move_refused, g_X9_move_aside, if_neg c_4, if_neg c_12, if_neg c_22, if_pos c_30]))
        · skip
          refine z_iload (pc := 33) C 7 dX9_move_33 rfl ?_
          refine z_iload (pc := 35) C 8 dX9_move_35 rfl ?_
          refine z_callS (pc := 37) C (c_X9_isPlace) [] z00 mS_X9_isPlace q_926 dX9_move_37 rfl rfl rfl rfl (Nat.le_of_ble_eq_true rfl) (by decide) (pI.stay rfl ?_)
          refine z_if_eq (pc := 40) 51 C dX9_move_40 (by decide) (fun c_40 => ?_) (fun c_40 => ?_)
          · skip
            refine z_aload_n (pc := 51) C 0 dX9_move_51 rfl ?_
            refine z_bipush (pc := 52) (v := (-2)) C dX9_move_52 (by decide) ?_
            refine z_callV (pc := 54) C (c_X9_bad) [0, 1, 2, 3, 4, 5, 6, 7, 8] z00 mV_X9_bad q_883 dX9_move_54 rfl rfl rfl 0 rfl rfl rfl rfl (Nat.le_of_ble_eq_true rfl) (by decide) (pI.go (ws' := wMd G da dn dp dr ds dl dc dt dg now past states _ aside pile came pileL text textL place nargs) rfl ?_)
            exact z_iret (pc := 57) C E dX9_move_57 (pI.mk (by simp only [f_X9_move, if_neg c_4, if_neg c_12, if_neg c_22, if_neg c_30, if_pos c_40]) (by simp only [g_X9_move_now, g_X9_move_past, g_X9_move_states, g_X9_move_refused, g_X9_move_aside, if_neg c_4, if_neg c_12, if_neg c_22, if_neg c_30, if_pos c_40]))
          · skip
            refine z_iload (pc := 43) C 9 dX9_move_43 rfl ?_
            refine z_callS (pc := 45) C (c_X9_isJoin) [] z00 mS_X9_isJoin q_955 dX9_move_45 rfl rfl rfl rfl (Nat.le_of_ble_eq_true rfl) (by decide) (pI.stay rfl ?_)
            refine z_if_ne (pc := 48) 58 C dX9_move_48 (by decide) (fun c_48 => ?_) (fun c_48 => ?_)
            · skip
              refine z_aload_n (pc := 58) C 0 dX9_move_58 rfl ?_
              refine z_callV (pc := 59) C (c_X9_keep (by exact hq)) [0, 1, 2, 3, 4, 5, 6, 7, 8] z00 mV_X9_keep q_887 dX9_move_59 rfl rfl rfl 0 rfl rfl rfl rfl (Nat.le_of_ble_eq_true rfl) (by decide) (pV.go (ws' := wMd G da dn dp dr ds dl dc dt dg now _ _ refused aside pile came pileL text textL place nargs) rfl ?_)
              refine z_aload_n (pc := 62) C 0 dX9_move_62 rfl ?_
              refine z_iload_n (pc := 63) C 1 dX9_move_63 rfl ?_
              refine z_iload_n (pc := 64) C 2 dX9_move_64 rfl ?_
              refine z_iload_n (pc := 65) C 3 dX9_move_65 rfl ?_
              refine z_iload (pc := 66) C 4 dX9_move_66 rfl ?_
              refine z_iload (pc := 68) C 5 dX9_move_68 rfl ?_
              refine z_iload (pc := 70) C 6 dX9_move_70 rfl ?_
              refine z_iload (pc := 72) C 7 dX9_move_72 rfl ?_
              refine z_iload (pc := 74) C 8 dX9_move_74 rfl ?_
              refine z_iload (pc := 76) C 9 dX9_move_76 rfl ?_
              refine z_callV (pc := 78) C (c_X9_moves (by exact (mP_ne c_4)) (by exact (mP_ne c_30)) (by exact hm) (by exact (mS_ne c_22).1) (by exact (mS_ne c_22).2)) [0, 1, 2, 3, 4, 5, 6, 7, 8] z00 mV_X9_moves q_958 dX9_move_78 rfl rfl rfl 0 rfl rfl rfl rfl (Nat.le_of_ble_eq_true rfl) (by decide) (pI.go (ws' := wMd G da dn dp dr ds dl dc dt dg _ _ _ refused _ pile came pileL text textL place nargs) rfl ?_)
              exact z_iret (pc := 81) C E dX9_move_81 (pI.mk (by simp only [f_X9_move, if_neg c_4, if_neg c_12, if_neg c_22, if_neg c_30, if_neg c_40, if_neg c_48]) (by simp only [g_X9_move_now, g_X9_move_past, g_X9_move_states, g_X9_move_refused, g_X9_move_aside, if_neg c_4, if_neg c_12, if_neg c_22, if_neg c_30, if_neg c_40, if_neg c_48]))
            · skip
              refine z_aload_n (pc := 51) C 0 dX9_move_51 rfl ?_
              refine z_bipush (pc := 52) (v := (-2)) C dX9_move_52 (by decide) ?_
              refine z_callV (pc := 54) C (c_X9_bad) [0, 1, 2, 3, 4, 5, 6, 7, 8] z00 mV_X9_bad q_883 dX9_move_54 rfl rfl rfl 0 rfl rfl rfl rfl (Nat.le_of_ble_eq_true rfl) (by decide) (pI.go (ws' := wMd G da dn dp dr ds dl dc dt dg now past states _ aside pile came pileL text textL place nargs) rfl ?_)
              exact z_iret (pc := 57) C E dX9_move_57 (pI.mk (by simp only [f_X9_move, if_neg c_4, if_neg c_12, if_neg c_22, if_neg c_30, if_neg c_40, if_pos c_48]) (by simp only [g_X9_move_now, g_X9_move_past, g_X9_move_states, g_X9_move_refused, g_X9_move_aside, if_neg c_4, if_neg c_12, if_neg c_22, if_neg c_30, if_neg c_40, if_pos c_48]))

def f_X9_line (now : Nat → Int32) (t : Int32) (x0 : Int32) (y0 : Int32) (x1 : Int32) (y1 : Int32) (join : Int32) : Int32 := if (f_X9_isPicture t) = 0 then f_X9_bad (-2) else if (f_X9_isPlace x0 y0) = 0 then f_X9_bad (-2) else if (f_X9_isPlace x1 y1) = 0 then f_X9_bad (-2) else if (f_X9_isJoin join) = 0 then f_X9_bad (-2) else f_X9_lines now t x0 y0 x1 y1 join
def g_X9_line_now (now : Nat → Int32) (t : Int32) (x0 : Int32) (y0 : Int32) (x1 : Int32) (y1 : Int32) (join : Int32) : Nat → Int32 := if (f_X9_isPicture t) = 0 then now else if (f_X9_isPlace x0 y0) = 0 then now else if (f_X9_isPlace x1 y1) = 0 then now else if (f_X9_isJoin join) = 0 then now else g_X9_lines_now now t x0 y0 x1 y1 join
def g_X9_line_past (now : Nat → Int32) (past : Nat → Int32) (states : Int32) (t : Int32) (x0 : Int32) (y0 : Int32) (x1 : Int32) (y1 : Int32) (join : Int32) : Nat → Int32 := if (f_X9_isPicture t) = 0 then past else if (f_X9_isPlace x0 y0) = 0 then past else if (f_X9_isPlace x1 y1) = 0 then past else if (f_X9_isJoin join) = 0 then past else g_X9_keep_past now past states
def g_X9_line_states (states : Int32) (t : Int32) (x0 : Int32) (y0 : Int32) (x1 : Int32) (y1 : Int32) (join : Int32) : Int32 := if (f_X9_isPicture t) = 0 then states else if (f_X9_isPlace x0 y0) = 0 then states else if (f_X9_isPlace x1 y1) = 0 then states else if (f_X9_isJoin join) = 0 then states else g_X9_keep_states states
def g_X9_line_refused (refused : Nat → Int32) (t : Int32) (x0 : Int32) (y0 : Int32) (x1 : Int32) (y1 : Int32) (join : Int32) : Nat → Int32 := if (f_X9_isPicture t) = 0 then g_X9_bad_refused refused else if (f_X9_isPlace x0 y0) = 0 then g_X9_bad_refused refused else if (f_X9_isPlace x1 y1) = 0 then g_X9_bad_refused refused else if (f_X9_isJoin join) = 0 then g_X9_bad_refused refused else refused
set_option maxRecDepth 100000 in
theorem c_X9_line {l : Launch} {G : zG} {da dn dp dr ds dl dc dt dg : Nat} {now : Nat → Int32} {past : Nat → Int32} {states : Int32} {refused : Nat → Int32} {aside : Nat → Int32} {pile : Nat → Int32} {came : Nat → Int32} {pileL : Int32} {text : Nat → Int32} {textL : Int32} {place : Int32} {nargs : Nat → Int32} {t : Int32} {x0 : Int32} {y0 : Int32} {x1 : Int32} {y1 : Int32} {join : Int32} (hm : mOk now) (hq : qOk states) : Ct l G yX9_line cX9_line 7 (Option.some FieldType.int) 6 154 [.ref da, .int t, .int x0, .int y0, .int x1, .int y1, .int join] (wMd G da dn dp dr ds dl dc dt dg now past states refused aside pile came pileL text textL place nargs) (pI (f_X9_line now t x0 y0 x1 y1 join) (wMd G da dn dp dr ds dl dc dt dg (g_X9_line_now now t x0 y0 x1 y1 join) (g_X9_line_past now past states t x0 y0 x1 y1 join) (g_X9_line_states states t x0 y0 x1 y1 join) (g_X9_line_refused refused t x0 y0 x1 y1 join) aside pile came pileL text textL place nargs)) := by
  refine Ct.of (plainFor_of_name (by decide)) (Nat.le_of_ble_eq_true rfl) (pI.ad ad_Md) (fun X C E => ?_)
  show Z X G 7 0 0 _ 0 [(0, .ref da), (1, .int t), (2, .int x0), (3, .int y0), (4, .int x1), (5, .int y1), (6, .int join)] []
  refine z_iload_n (pc := 0) C 1 dX9_line_0 rfl ?_
  refine z_callS (pc := 1) C (c_X9_isPicture) [] z00 mS_X9_isPicture q_871 dX9_line_1 rfl rfl rfl rfl (Nat.le_of_ble_eq_true rfl) (by decide) (pI.stay rfl ?_)
  refine z_if_eq (pc := 4) 33 C dX9_line_4 (by decide) (fun c_4 => ?_) (fun c_4 => ?_)
  · skip
    refine z_aload_n (pc := 33) C 0 dX9_line_33 rfl ?_
    refine z_bipush (pc := 34) (v := (-2)) C dX9_line_34 (by decide) ?_
    refine z_callV (pc := 36) C (c_X9_bad) [0, 1, 2, 3, 4, 5, 6, 7, 8] z00 mV_X9_bad q_883 dX9_line_36 rfl rfl rfl 0 rfl rfl rfl rfl (Nat.le_of_ble_eq_true rfl) (by decide) (pI.go (ws' := wMd G da dn dp dr ds dl dc dt dg now past states _ aside pile came pileL text textL place nargs) rfl ?_)
    exact z_iret (pc := 39) C E dX9_line_39 (pI.mk (by simp only [f_X9_line, if_pos c_4]) (by simp only [g_X9_line_now, g_X9_line_past, g_X9_line_states, g_X9_line_refused, if_pos c_4]))
  · skip
    refine z_iload_n (pc := 7) C 2 dX9_line_7 rfl ?_
    refine z_iload_n (pc := 8) C 3 dX9_line_8 rfl ?_
    refine z_callS (pc := 9) C (c_X9_isPlace) [] z00 mS_X9_isPlace q_926 dX9_line_9 rfl rfl rfl rfl (Nat.le_of_ble_eq_true rfl) (by decide) (pI.stay rfl ?_)
    refine z_if_eq (pc := 12) 33 C dX9_line_12 (by decide) (fun c_12 => ?_) (fun c_12 => ?_)
    · skip
      refine z_aload_n (pc := 33) C 0 dX9_line_33 rfl ?_
      refine z_bipush (pc := 34) (v := (-2)) C dX9_line_34 (by decide) ?_
      refine z_callV (pc := 36) C (c_X9_bad) [0, 1, 2, 3, 4, 5, 6, 7, 8] z00 mV_X9_bad q_883 dX9_line_36 rfl rfl rfl 0 rfl rfl rfl rfl (Nat.le_of_ble_eq_true rfl) (by decide) (pI.go (ws' := wMd G da dn dp dr ds dl dc dt dg now past states _ aside pile came pileL text textL place nargs) rfl ?_)
      exact z_iret (pc := 39) C E dX9_line_39 (pI.mk (by simp only [f_X9_line, if_neg c_4, if_pos c_12]) (by simp only [g_X9_line_now, g_X9_line_past, g_X9_line_states, g_X9_line_refused, if_neg c_4, if_pos c_12]))
    · skip
      refine z_iload (pc := 15) C 4 dX9_line_15 rfl ?_
      refine z_iload (pc := 17) C 5 dX9_line_17 rfl ?_
      refine z_callS (pc := 19) C (c_X9_isPlace) [] z00 mS_X9_isPlace q_926 dX9_line_19 rfl rfl rfl rfl (Nat.le_of_ble_eq_true rfl) (by decide) (pI.stay rfl ?_)
      refine z_if_eq (pc := 22) 33 C dX9_line_22 (by decide) (fun c_22 => ?_) (fun c_22 => ?_)
      · skip
        refine z_aload_n (pc := 33) C 0 dX9_line_33 rfl ?_
        refine z_bipush (pc := 34) (v := (-2)) C dX9_line_34 (by decide) ?_
        refine z_callV (pc := 36) C (c_X9_bad) [0, 1, 2, 3, 4, 5, 6, 7, 8] z00 mV_X9_bad q_883 dX9_line_36 rfl rfl rfl 0 rfl rfl rfl rfl (Nat.le_of_ble_eq_true rfl) (by decide) (pI.go (ws' := wMd G da dn dp dr ds dl dc dt dg now past states _ aside pile came pileL text textL place nargs) rfl ?_)
        exact z_iret (pc := 39) C E dX9_line_39 (pI.mk (by simp only [f_X9_line, if_neg c_4, if_neg c_12, if_pos c_22]) (by simp only [g_X9_line_now, g_X9_line_past, g_X9_line_states, g_X9_line_refused, if_neg c_4, if_neg c_12, if_pos c_22]))
      · skip
        refine z_iload (pc := 25) C 6 dX9_line_25 rfl ?_
        refine z_callS (pc := 27) C (c_X9_isJoin) [] z00 mS_X9_isJoin q_955 dX9_line_27 rfl rfl rfl rfl (Nat.le_of_ble_eq_true rfl) (by decide) (pI.stay rfl ?_)
        refine z_if_ne (pc := 30) 40 C dX9_line_30 (by decide) (fun c_30 => ?_) (fun c_30 => ?_)
        · skip
          refine z_aload_n (pc := 40) C 0 dX9_line_40 rfl ?_
          refine z_callV (pc := 41) C (c_X9_keep (by exact hq)) [0, 1, 2, 3, 4, 5, 6, 7, 8] z00 mV_X9_keep q_887 dX9_line_41 rfl rfl rfl 0 rfl rfl rfl rfl (Nat.le_of_ble_eq_true rfl) (by decide) (pV.go (ws' := wMd G da dn dp dr ds dl dc dt dg now _ _ refused aside pile came pileL text textL place nargs) rfl ?_)
          refine z_aload_n (pc := 44) C 0 dX9_line_44 rfl ?_
          refine z_iload_n (pc := 45) C 1 dX9_line_45 rfl ?_
          refine z_iload_n (pc := 46) C 2 dX9_line_46 rfl ?_
          refine z_iload_n (pc := 47) C 3 dX9_line_47 rfl ?_
          refine z_iload (pc := 48) C 4 dX9_line_48 rfl ?_
          refine z_iload (pc := 50) C 5 dX9_line_50 rfl ?_
          refine z_iload (pc := 52) C 6 dX9_line_52 rfl ?_
          refine z_callV (pc := 54) C (c_X9_lines (by exact (mP_ne c_4)) (by exact hm) (by exact (mPl_ne c_12).1) (by exact (mPl_ne c_12).2) (by exact (mPl_ne c_22).1) (by exact (mPl_ne c_22).2)) [0, 1, 2, 3, 4, 5, 6, 7, 8] z00 mV_X9_lines q_986 dX9_line_54 rfl rfl rfl 0 rfl rfl rfl rfl (Nat.le_of_ble_eq_true rfl) (by decide) (pI.go (ws' := wMd G da dn dp dr ds dl dc dt dg _ _ _ refused aside pile came pileL text textL place nargs) rfl ?_)
          exact z_iret (pc := 57) C E dX9_line_57 (pI.mk (by simp only [f_X9_line, if_neg c_4, if_neg c_12, if_neg c_22, if_neg c_30]) (by simp only [g_X9_line_now, g_X9_line_past, g_X9_line_states, g_X9_line_refused, if_neg c_4, if_neg c_12, if_neg c_22, if_neg c_30]))
        · skip
          refine z_aload_n (pc := 33) C 0 dX9_line_33 rfl ?_
          refine z_bipush (pc := 34) (v := (-2)) C dX9_line_34 (by decide) ?_
          refine z_callV (pc := 36) C (c_X9_bad) [0, 1, 2, 3, 4, 5, 6, 7, 8] z00 mV_X9_bad q_883 dX9_line_36 rfl rfl rfl 0 rfl rfl rfl rfl (Nat.le_of_ble_eq_true rfl) (by decide) (pI.go (ws' := wMd G da dn dp dr ds dl dc dt dg now past states _ aside pile came pileL text textL place nargs) rfl ?_)
          exact z_iret (pc := 39) C E dX9_line_39 (pI.mk (by simp only [f_X9_line, if_neg c_4, if_neg c_12, if_neg c_22, if_pos c_30]) (by simp only [g_X9_line_now, g_X9_line_past, g_X9_line_states, g_X9_line_refused, if_neg c_4, if_neg c_12, if_neg c_22, if_pos c_30]))

def f_X9_rectangle (now : Nat → Int32) (t : Int32) (x : Int32) (y : Int32) (w : Int32) (h : Int32) (join : Int32) : Int32 := if (f_X9_isPicture t) = 0 then f_X9_bad (-2) else if (f_X9_isPlace x y) = 0 then f_X9_bad (-2) else if (f_X9_isSize w h) = 0 then f_X9_bad (-2) else if (f_X9_isJoin join) = 0 then f_X9_bad (-2) else f_X9_rectangles now t x y w h join
def g_X9_rectangle_now (now : Nat → Int32) (t : Int32) (x : Int32) (y : Int32) (w : Int32) (h : Int32) (join : Int32) : Nat → Int32 := if (f_X9_isPicture t) = 0 then now else if (f_X9_isPlace x y) = 0 then now else if (f_X9_isSize w h) = 0 then now else if (f_X9_isJoin join) = 0 then now else g_X9_rectangles_now now t x y w h join
def g_X9_rectangle_past (now : Nat → Int32) (past : Nat → Int32) (states : Int32) (t : Int32) (x : Int32) (y : Int32) (w : Int32) (h : Int32) (join : Int32) : Nat → Int32 := if (f_X9_isPicture t) = 0 then past else if (f_X9_isPlace x y) = 0 then past else if (f_X9_isSize w h) = 0 then past else if (f_X9_isJoin join) = 0 then past else g_X9_keep_past now past states
def g_X9_rectangle_states (states : Int32) (t : Int32) (x : Int32) (y : Int32) (w : Int32) (h : Int32) (join : Int32) : Int32 := if (f_X9_isPicture t) = 0 then states else if (f_X9_isPlace x y) = 0 then states else if (f_X9_isSize w h) = 0 then states else if (f_X9_isJoin join) = 0 then states else g_X9_keep_states states
def g_X9_rectangle_refused (refused : Nat → Int32) (t : Int32) (x : Int32) (y : Int32) (w : Int32) (h : Int32) (join : Int32) : Nat → Int32 := if (f_X9_isPicture t) = 0 then g_X9_bad_refused refused else if (f_X9_isPlace x y) = 0 then g_X9_bad_refused refused else if (f_X9_isSize w h) = 0 then g_X9_bad_refused refused else if (f_X9_isJoin join) = 0 then g_X9_bad_refused refused else refused
set_option maxRecDepth 100000 in
theorem c_X9_rectangle {l : Launch} {G : zG} {da dn dp dr ds dl dc dt dg : Nat} {now : Nat → Int32} {past : Nat → Int32} {states : Int32} {refused : Nat → Int32} {aside : Nat → Int32} {pile : Nat → Int32} {came : Nat → Int32} {pileL : Int32} {text : Nat → Int32} {textL : Int32} {place : Int32} {nargs : Nat → Int32} {t : Int32} {x : Int32} {y : Int32} {w : Int32} {h : Int32} {join : Int32} (hm : mOk now) (hq : qOk states) : Ct l G yX9_rectangle cX9_rectangle 7 (Option.some FieldType.int) 6 149 [.ref da, .int t, .int x, .int y, .int w, .int h, .int join] (wMd G da dn dp dr ds dl dc dt dg now past states refused aside pile came pileL text textL place nargs) (pI (f_X9_rectangle now t x y w h join) (wMd G da dn dp dr ds dl dc dt dg (g_X9_rectangle_now now t x y w h join) (g_X9_rectangle_past now past states t x y w h join) (g_X9_rectangle_states states t x y w h join) (g_X9_rectangle_refused refused t x y w h join) aside pile came pileL text textL place nargs)) := by
  refine Ct.of (plainFor_of_name (by decide)) (Nat.le_of_ble_eq_true rfl) (pI.ad ad_Md) (fun X C E => ?_)
  show Z X G 7 0 0 _ 0 [(0, .ref da), (1, .int t), (2, .int x), (3, .int y), (4, .int w), (5, .int h), (6, .int join)] []
  refine z_iload_n (pc := 0) C 1 dX9_rectangle_0 rfl ?_
  refine z_callS (pc := 1) C (c_X9_isPicture) [] z00 mS_X9_isPicture q_871 dX9_rectangle_1 rfl rfl rfl rfl (Nat.le_of_ble_eq_true rfl) (by decide) (pI.stay rfl ?_)
  refine z_if_eq (pc := 4) 33 C dX9_rectangle_4 (by decide) (fun c_4 => ?_) (fun c_4 => ?_)
  · skip
    refine z_aload_n (pc := 33) C 0 dX9_rectangle_33 rfl ?_
    refine z_bipush (pc := 34) (v := (-2)) C dX9_rectangle_34 (by decide) ?_
    refine z_callV (pc := 36) C (c_X9_bad) [0, 1, 2, 3, 4, 5, 6, 7, 8] z00 mV_X9_bad q_883 dX9_rectangle_36 rfl rfl rfl 0 rfl rfl rfl rfl (Nat.le_of_ble_eq_true rfl) (by decide) (pI.go (ws' := wMd G da dn dp dr ds dl dc dt dg now past states _ aside pile came pileL text textL place nargs) rfl ?_)
    exact z_iret (pc := 39) C E dX9_rectangle_39 (pI.mk (by simp only [f_X9_rectangle, if_pos c_4]) (by simp only [g_X9_rectangle_now, g_X9_rectangle_past, g_X9_rectangle_states, g_X9_rectangle_refused, if_pos c_4]))
  · skip
    refine z_iload_n (pc := 7) C 2 dX9_rectangle_7 rfl ?_
    refine z_iload_n (pc := 8) C 3 dX9_rectangle_8 rfl ?_
    refine z_callS (pc := 9) C (c_X9_isPlace) [] z00 mS_X9_isPlace q_926 dX9_rectangle_9 rfl rfl rfl rfl (Nat.le_of_ble_eq_true rfl) (by decide) (pI.stay rfl ?_)
    refine z_if_eq (pc := 12) 33 C dX9_rectangle_12 (by decide) (fun c_12 => ?_) (fun c_12 => ?_)
    · skip
      refine z_aload_n (pc := 33) C 0 dX9_rectangle_33 rfl ?_
      refine z_bipush (pc := 34) (v := (-2)) C dX9_rectangle_34 (by decide) ?_
      refine z_callV (pc := 36) C (c_X9_bad) [0, 1, 2, 3, 4, 5, 6, 7, 8] z00 mV_X9_bad q_883 dX9_rectangle_36 rfl rfl rfl 0 rfl rfl rfl rfl (Nat.le_of_ble_eq_true rfl) (by decide) (pI.go (ws' := wMd G da dn dp dr ds dl dc dt dg now past states _ aside pile came pileL text textL place nargs) rfl ?_)
      exact z_iret (pc := 39) C E dX9_rectangle_39 (pI.mk (by simp only [f_X9_rectangle, if_neg c_4, if_pos c_12]) (by simp only [g_X9_rectangle_now, g_X9_rectangle_past, g_X9_rectangle_states, g_X9_rectangle_refused, if_neg c_4, if_pos c_12]))
    · skip
      refine z_iload (pc := 15) C 4 dX9_rectangle_15 rfl ?_
      refine z_iload (pc := 17) C 5 dX9_rectangle_17 rfl ?_
      refine z_callS (pc := 19) C (c_X9_isSize) [] z00 mS_X9_isSize q_931 dX9_rectangle_19 rfl rfl rfl rfl (Nat.le_of_ble_eq_true rfl) (by decide) (pI.stay rfl ?_)
      refine z_if_eq (pc := 22) 33 C dX9_rectangle_22 (by decide) (fun c_22 => ?_) (fun c_22 => ?_)
      · skip
        refine z_aload_n (pc := 33) C 0 dX9_rectangle_33 rfl ?_
        refine z_bipush (pc := 34) (v := (-2)) C dX9_rectangle_34 (by decide) ?_
        refine z_callV (pc := 36) C (c_X9_bad) [0, 1, 2, 3, 4, 5, 6, 7, 8] z00 mV_X9_bad q_883 dX9_rectangle_36 rfl rfl rfl 0 rfl rfl rfl rfl (Nat.le_of_ble_eq_true rfl) (by decide) (pI.go (ws' := wMd G da dn dp dr ds dl dc dt dg now past states _ aside pile came pileL text textL place nargs) rfl ?_)
        exact z_iret (pc := 39) C E dX9_rectangle_39 (pI.mk (by simp only [f_X9_rectangle, if_neg c_4, if_neg c_12, if_pos c_22]) (by simp only [g_X9_rectangle_now, g_X9_rectangle_past, g_X9_rectangle_states, g_X9_rectangle_refused, if_neg c_4, if_neg c_12, if_pos c_22]))
      · skip
        refine z_iload (pc := 25) C 6 dX9_rectangle_25 rfl ?_
        refine z_callS (pc := 27) C (c_X9_isJoin) [] z00 mS_X9_isJoin q_955 dX9_rectangle_27 rfl rfl rfl rfl (Nat.le_of_ble_eq_true rfl) (by decide) (pI.stay rfl ?_)
        refine z_if_ne (pc := 30) 40 C dX9_rectangle_30 (by decide) (fun c_30 => ?_) (fun c_30 => ?_)
        · skip
          refine z_aload_n (pc := 40) C 0 dX9_rectangle_40 rfl ?_
          refine z_callV (pc := 41) C (c_X9_keep (by exact hq)) [0, 1, 2, 3, 4, 5, 6, 7, 8] z00 mV_X9_keep q_887 dX9_rectangle_41 rfl rfl rfl 0 rfl rfl rfl rfl (Nat.le_of_ble_eq_true rfl) (by decide) (pV.go (ws' := wMd G da dn dp dr ds dl dc dt dg now _ _ refused aside pile came pileL text textL place nargs) rfl ?_)
          refine z_aload_n (pc := 44) C 0 dX9_rectangle_44 rfl ?_
          refine z_iload_n (pc := 45) C 1 dX9_rectangle_45 rfl ?_
          refine z_iload_n (pc := 46) C 2 dX9_rectangle_46 rfl ?_
          refine z_iload_n (pc := 47) C 3 dX9_rectangle_47 rfl ?_
          refine z_iload (pc := 48) C 4 dX9_rectangle_48 rfl ?_
          refine z_iload (pc := 50) C 5 dX9_rectangle_50 rfl ?_
          refine z_iload (pc := 52) C 6 dX9_rectangle_52 rfl ?_
          refine z_callV (pc := 54) C (c_X9_rectangles (by exact (mP_ne c_4)) (by exact hm) (by exact (mS_ne c_22).1) (by exact (mS_ne c_22).2)) [0, 1, 2, 3, 4, 5, 6, 7, 8] z00 mV_X9_rectangles q_1028 dX9_rectangle_54 rfl rfl rfl 0 rfl rfl rfl rfl (Nat.le_of_ble_eq_true rfl) (by decide) (pI.go (ws' := wMd G da dn dp dr ds dl dc dt dg _ _ _ refused aside pile came pileL text textL place nargs) rfl ?_)
          exact z_iret (pc := 57) C E dX9_rectangle_57 (pI.mk (by simp only [f_X9_rectangle, if_neg c_4, if_neg c_12, if_neg c_22, if_neg c_30]) (by simp only [g_X9_rectangle_now, g_X9_rectangle_past, g_X9_rectangle_states, g_X9_rectangle_refused, if_neg c_4, if_neg c_12, if_neg c_22, if_neg c_30]))
        · skip
          refine z_aload_n (pc := 33) C 0 dX9_rectangle_33 rfl ?_
          refine z_bipush (pc := 34) (v := (-2)) C dX9_rectangle_34 (by decide) ?_
          refine z_callV (pc := 36) C (c_X9_bad) [0, 1, 2, 3, 4, 5, 6, 7, 8] z00 mV_X9_bad q_883 dX9_rectangle_36 rfl rfl rfl 0 rfl rfl rfl rfl (Nat.le_of_ble_eq_true rfl) (by decide) (pI.go (ws' := wMd G da dn dp dr ds dl dc dt dg now past states _ aside pile came pileL text textL place nargs) rfl ?_)
          exact z_iret (pc := 39) C E dX9_rectangle_39 (pI.mk (by simp only [f_X9_rectangle, if_neg c_4, if_neg c_12, if_neg c_22, if_pos c_30]) (by simp only [g_X9_rectangle_now, g_X9_rectangle_past, g_X9_rectangle_states, g_X9_rectangle_refused, if_neg c_4, if_neg c_12, if_neg c_22, if_pos c_30]))

def f_X9_letter (now : Nat → Int32) (t : Int32) (n : Int32) (x : Int32) (y : Int32) (join : Int32) : Int32 := if (f_X9_isPicture t) = 0 then f_X9_bad (-2) else if (f_X9_in n.toInt64 0 15) = 0 then f_X9_bad (-2) else if (f_X9_isPlace x y) = 0 then f_X9_bad (-2) else if (f_X9_isJoin join) = 0 then f_X9_bad (-2) else f_X9_letters now t n x y join
def g_X9_letter_now (now : Nat → Int32) (t : Int32) (n : Int32) (x : Int32) (y : Int32) (join : Int32) : Nat → Int32 := if (f_X9_isPicture t) = 0 then now else if (f_X9_in n.toInt64 0 15) = 0 then now else if (f_X9_isPlace x y) = 0 then now else if (f_X9_isJoin join) = 0 then now else g_X9_letters_now now t n x y join
def g_X9_letter_past (now : Nat → Int32) (past : Nat → Int32) (states : Int32) (t : Int32) (n : Int32) (x : Int32) (y : Int32) (join : Int32) : Nat → Int32 := if (f_X9_isPicture t) = 0 then past else if (f_X9_in n.toInt64 0 15) = 0 then past else if (f_X9_isPlace x y) = 0 then past else if (f_X9_isJoin join) = 0 then past else g_X9_keep_past now past states
def g_X9_letter_states (states : Int32) (t : Int32) (n : Int32) (x : Int32) (y : Int32) (join : Int32) : Int32 := if (f_X9_isPicture t) = 0 then states else if (f_X9_in n.toInt64 0 15) = 0 then states else if (f_X9_isPlace x y) = 0 then states else if (f_X9_isJoin join) = 0 then states else g_X9_keep_states states
def g_X9_letter_refused (refused : Nat → Int32) (t : Int32) (n : Int32) (x : Int32) (y : Int32) (join : Int32) : Nat → Int32 := if (f_X9_isPicture t) = 0 then g_X9_bad_refused refused else if (f_X9_in n.toInt64 0 15) = 0 then g_X9_bad_refused refused else if (f_X9_isPlace x y) = 0 then g_X9_bad_refused refused else if (f_X9_isJoin join) = 0 then g_X9_bad_refused refused else refused
set_option maxRecDepth 100000 in
theorem c_X9_letter {l : Launch} {G : zG} {da dn dp dr ds dl dc dt dg : Nat} {now : Nat → Int32} {past : Nat → Int32} {states : Int32} {refused : Nat → Int32} {aside : Nat → Int32} {pile : Nat → Int32} {came : Nat → Int32} {pileL : Int32} {text : Nat → Int32} {textL : Int32} {place : Int32} {nargs : Nat → Int32} {t : Int32} {n : Int32} {x : Int32} {y : Int32} {join : Int32} (hm : mOk now) (hq : qOk states) : Ct l G yX9_letter cX9_letter 6 (Option.some FieldType.int) 6 149 [.ref da, .int t, .int n, .int x, .int y, .int join] (wMd G da dn dp dr ds dl dc dt dg now past states refused aside pile came pileL text textL place nargs) (pI (f_X9_letter now t n x y join) (wMd G da dn dp dr ds dl dc dt dg (g_X9_letter_now now t n x y join) (g_X9_letter_past now past states t n x y join) (g_X9_letter_states states t n x y join) (g_X9_letter_refused refused t n x y join) aside pile came pileL text textL place nargs)) := by
  refine Ct.of (plainFor_of_name (by decide)) (Nat.le_of_ble_eq_true rfl) (pI.ad ad_Md) (fun X C E => ?_)
  show Z X G 6 0 0 _ 0 [(0, .ref da), (1, .int t), (2, .int n), (3, .int x), (4, .int y), (5, .int join)] []
  refine z_iload_n (pc := 0) C 1 dX9_letter_0 rfl ?_
  refine z_callS (pc := 1) C (c_X9_isPicture) [] z00 mS_X9_isPicture q_871 dX9_letter_1 rfl rfl rfl rfl (Nat.le_of_ble_eq_true rfl) (by decide) (pI.stay rfl ?_)
  refine z_if_eq (pc := 4) 36 C dX9_letter_4 (by decide) (fun c_4 => ?_) (fun c_4 => ?_)
  · skip
    refine z_aload_n (pc := 36) C 0 dX9_letter_36 rfl ?_
    refine z_bipush (pc := 37) (v := (-2)) C dX9_letter_37 (by decide) ?_
    refine z_callV (pc := 39) C (c_X9_bad) [0, 1, 2, 3, 4, 5, 6, 7, 8] z00 mV_X9_bad q_883 dX9_letter_39 rfl rfl rfl 0 rfl rfl rfl rfl (Nat.le_of_ble_eq_true rfl) (by decide) (pI.go (ws' := wMd G da dn dp dr ds dl dc dt dg now past states _ aside pile came pileL text textL place nargs) rfl ?_)
    exact z_iret (pc := 42) C E dX9_letter_42 (pI.mk (by simp only [f_X9_letter, if_pos c_4]) (by simp only [g_X9_letter_now, g_X9_letter_past, g_X9_letter_states, g_X9_letter_refused, if_pos c_4]))
  · skip
    refine z_iload_n (pc := 7) C 2 dX9_letter_7 rfl ?_
    refine z_i2l (pc := 8) C dX9_letter_8 ?_
    refine z_lconst (pc := 9) (v := 0) C dX9_letter_9 (by decide) ?_
    refine z_ldc2_w (pc := 10) C q_1036 dX9_letter_10 ?_
    refine z_callS (pc := 13) C (c_X9_in) [] z00 mS_X9_in q_875 dX9_letter_13 rfl rfl rfl rfl (Nat.le_of_ble_eq_true rfl) (by decide) (pI.stay rfl ?_)
    refine z_if_eq (pc := 16) 36 C dX9_letter_16 (by decide) (fun c_16 => ?_) (fun c_16 => ?_)
    · skip
      refine z_aload_n (pc := 36) C 0 dX9_letter_36 rfl ?_
      refine z_bipush (pc := 37) (v := (-2)) C dX9_letter_37 (by decide) ?_
      refine z_callV (pc := 39) C (c_X9_bad) [0, 1, 2, 3, 4, 5, 6, 7, 8] z00 mV_X9_bad q_883 dX9_letter_39 rfl rfl rfl 0 rfl rfl rfl rfl (Nat.le_of_ble_eq_true rfl) (by decide) (pI.go (ws' := wMd G da dn dp dr ds dl dc dt dg now past states _ aside pile came pileL text textL place nargs) rfl ?_)
      exact z_iret (pc := 42) C E dX9_letter_42 (pI.mk (by simp only [f_X9_letter, if_neg c_4, if_pos c_16]) (by simp only [g_X9_letter_now, g_X9_letter_past, g_X9_letter_states, g_X9_letter_refused, if_neg c_4, if_pos c_16]))
    · skip
      refine z_iload_n (pc := 19) C 3 dX9_letter_19 rfl ?_
      refine z_iload (pc := 20) C 4 dX9_letter_20 rfl ?_
      refine z_callS (pc := 22) C (c_X9_isPlace) [] z00 mS_X9_isPlace q_926 dX9_letter_22 rfl rfl rfl rfl (Nat.le_of_ble_eq_true rfl) (by decide) (pI.stay rfl ?_)
      refine z_if_eq (pc := 25) 36 C dX9_letter_25 (by decide) (fun c_25 => ?_) (fun c_25 => ?_)
      · skip
        refine z_aload_n (pc := 36) C 0 dX9_letter_36 rfl ?_
        refine z_bipush (pc := 37) (v := (-2)) C dX9_letter_37 (by decide) ?_
        refine z_callV (pc := 39) C (c_X9_bad) [0, 1, 2, 3, 4, 5, 6, 7, 8] z00 mV_X9_bad q_883 dX9_letter_39 rfl rfl rfl 0 rfl rfl rfl rfl (Nat.le_of_ble_eq_true rfl) (by decide) (pI.go (ws' := wMd G da dn dp dr ds dl dc dt dg now past states _ aside pile came pileL text textL place nargs) rfl ?_)
        exact z_iret (pc := 42) C E dX9_letter_42 (pI.mk (by simp only [f_X9_letter, if_neg c_4, if_neg c_16, if_pos c_25]) (by simp only [g_X9_letter_now, g_X9_letter_past, g_X9_letter_states, g_X9_letter_refused, if_neg c_4, if_neg c_16, if_pos c_25]))
      · skip
        refine z_iload (pc := 28) C 5 dX9_letter_28 rfl ?_
        refine z_callS (pc := 30) C (c_X9_isJoin) [] z00 mS_X9_isJoin q_955 dX9_letter_30 rfl rfl rfl rfl (Nat.le_of_ble_eq_true rfl) (by decide) (pI.stay rfl ?_)
        refine z_if_ne (pc := 33) 43 C dX9_letter_33 (by decide) (fun c_33 => ?_) (fun c_33 => ?_)
        · skip
          refine z_aload_n (pc := 43) C 0 dX9_letter_43 rfl ?_
          refine z_callV (pc := 44) C (c_X9_keep (by exact hq)) [0, 1, 2, 3, 4, 5, 6, 7, 8] z00 mV_X9_keep q_887 dX9_letter_44 rfl rfl rfl 0 rfl rfl rfl rfl (Nat.le_of_ble_eq_true rfl) (by decide) (pV.go (ws' := wMd G da dn dp dr ds dl dc dt dg now _ _ refused aside pile came pileL text textL place nargs) rfl ?_)
          refine z_aload_n (pc := 47) C 0 dX9_letter_47 rfl ?_
          refine z_iload_n (pc := 48) C 1 dX9_letter_48 rfl ?_
          refine z_iload_n (pc := 49) C 2 dX9_letter_49 rfl ?_
          refine z_iload_n (pc := 50) C 3 dX9_letter_50 rfl ?_
          refine z_iload (pc := 51) C 4 dX9_letter_51 rfl ?_
          refine z_iload (pc := 53) C 5 dX9_letter_53 rfl ?_
          refine z_callV (pc := 55) C (c_X9_letters (by exact (mP_ne c_4)) (by exact hm)) [0, 1, 2, 3, 4, 5, 6, 7, 8] z00 mV_X9_letters q_1037 dX9_letter_55 rfl rfl rfl 0 rfl rfl rfl rfl (Nat.le_of_ble_eq_true rfl) (by decide) (pI.go (ws' := wMd G da dn dp dr ds dl dc dt dg _ _ _ refused aside pile came pileL text textL place nargs) rfl ?_)
          exact z_iret (pc := 58) C E dX9_letter_58 (pI.mk (by simp only [f_X9_letter, if_neg c_4, if_neg c_16, if_neg c_25, if_neg c_33]) (by simp only [g_X9_letter_now, g_X9_letter_past, g_X9_letter_states, g_X9_letter_refused, if_neg c_4, if_neg c_16, if_neg c_25, if_neg c_33]))
        · skip
          refine z_aload_n (pc := 36) C 0 dX9_letter_36 rfl ?_
          refine z_bipush (pc := 37) (v := (-2)) C dX9_letter_37 (by decide) ?_
          refine z_callV (pc := 39) C (c_X9_bad) [0, 1, 2, 3, 4, 5, 6, 7, 8] z00 mV_X9_bad q_883 dX9_letter_39 rfl rfl rfl 0 rfl rfl rfl rfl (Nat.le_of_ble_eq_true rfl) (by decide) (pI.go (ws' := wMd G da dn dp dr ds dl dc dt dg now past states _ aside pile came pileL text textL place nargs) rfl ?_)
          exact z_iret (pc := 42) C E dX9_letter_42 (pI.mk (by simp only [f_X9_letter, if_neg c_4, if_neg c_16, if_neg c_25, if_pos c_33]) (by simp only [g_X9_letter_now, g_X9_letter_past, g_X9_letter_states, g_X9_letter_refused, if_neg c_4, if_neg c_16, if_neg c_25, if_pos c_33]))

def f_X9_joins (now : Nat → Int32) (aside : Nat → Int32) (s : Int32) (t : Int32) (join : Int32) : Int32 := if (f_X9_isPicture s) = 0 then f_X9_bad (-2) else if (f_X9_isPicture t) = 0 then f_X9_bad (-2) else if (f_X9_isJoin join) = 0 then f_X9_bad (-2) else f_X9_moves now aside s 0 0 32 24 t 0 0 join
def g_X9_joins_now (now : Nat → Int32) (aside : Nat → Int32) (s : Int32) (t : Int32) (join : Int32) : Nat → Int32 := if (f_X9_isPicture s) = 0 then now else if (f_X9_isPicture t) = 0 then now else if (f_X9_isJoin join) = 0 then now else g_X9_moves_now now aside s 0 0 32 24 t 0 0 join
def g_X9_joins_past (now : Nat → Int32) (past : Nat → Int32) (states : Int32) (s : Int32) (t : Int32) (join : Int32) : Nat → Int32 := if (f_X9_isPicture s) = 0 then past else if (f_X9_isPicture t) = 0 then past else if (f_X9_isJoin join) = 0 then past else g_X9_keep_past now past states
def g_X9_joins_states (states : Int32) (s : Int32) (t : Int32) (join : Int32) : Int32 := if (f_X9_isPicture s) = 0 then states else if (f_X9_isPicture t) = 0 then states else if (f_X9_isJoin join) = 0 then states else g_X9_keep_states states
def g_X9_joins_refused (refused : Nat → Int32) (s : Int32) (t : Int32) (join : Int32) : Nat → Int32 := if (f_X9_isPicture s) = 0 then g_X9_bad_refused refused else if (f_X9_isPicture t) = 0 then g_X9_bad_refused refused else if (f_X9_isJoin join) = 0 then g_X9_bad_refused refused else refused
def g_X9_joins_aside (now : Nat → Int32) (aside : Nat → Int32) (s : Int32) (t : Int32) (join : Int32) : Nat → Int32 := if (f_X9_isPicture s) = 0 then aside else if (f_X9_isPicture t) = 0 then aside else if (f_X9_isJoin join) = 0 then aside else g_X9_moves_aside now aside
set_option maxRecDepth 100000 in
theorem c_X9_joins {l : Launch} {G : zG} {da dn dp dr ds dl dc dt dg : Nat} {now : Nat → Int32} {past : Nat → Int32} {states : Int32} {refused : Nat → Int32} {aside : Nat → Int32} {pile : Nat → Int32} {came : Nat → Int32} {pileL : Int32} {text : Nat → Int32} {textL : Int32} {place : Int32} {nargs : Nat → Int32} {s : Int32} {t : Int32} {join : Int32} (hm : mOk now) (hq : qOk states) : Ct l G yX9_joins cX9_joins 4 (Option.some FieldType.int) 6 152 [.ref da, .int s, .int t, .int join] (wMd G da dn dp dr ds dl dc dt dg now past states refused aside pile came pileL text textL place nargs) (pI (f_X9_joins now aside s t join) (wMd G da dn dp dr ds dl dc dt dg (g_X9_joins_now now aside s t join) (g_X9_joins_past now past states s t join) (g_X9_joins_states states s t join) (g_X9_joins_refused refused s t join) (g_X9_joins_aside now aside s t join) pile came pileL text textL place nargs)) := by
  refine Ct.of (plainFor_of_name (by decide)) (Nat.le_of_ble_eq_true rfl) (pI.ad ad_Md) (fun X C E => ?_)
  show Z X G 4 0 0 _ 0 [(0, .ref da), (1, .int s), (2, .int t), (3, .int join)] []
  refine z_iload_n (pc := 0) C 1 dX9_joins_0 rfl ?_
  refine z_callS (pc := 1) C (c_X9_isPicture) [] z00 mS_X9_isPicture q_871 dX9_joins_1 rfl rfl rfl rfl (Nat.le_of_ble_eq_true rfl) (by decide) (pI.stay rfl ?_)
  refine z_if_eq (pc := 4) 21 C dX9_joins_4 (by decide) (fun c_4 => ?_) (fun c_4 => ?_)
  · skip
    refine z_aload_n (pc := 21) C 0 dX9_joins_21 rfl ?_
    refine z_bipush (pc := 22) (v := (-2)) C dX9_joins_22 (by decide) ?_
    refine z_callV (pc := 24) C (c_X9_bad) [0, 1, 2, 3, 4, 5, 6, 7, 8] z00 mV_X9_bad q_883 dX9_joins_24 rfl rfl rfl 0 rfl rfl rfl rfl (Nat.le_of_ble_eq_true rfl) (by decide) (pI.go (ws' := wMd G da dn dp dr ds dl dc dt dg now past states _ aside pile came pileL text textL place nargs) rfl ?_)
    exact z_iret (pc := 27) C E dX9_joins_27 (pI.mk (by simp only [f_X9_joins, if_pos c_4]) (by simp only [g_X9_joins_now, g_X9_joins_past, g_X9_joins_states, g_X9_joins_refused, g_X9_joins_aside, if_pos c_4]))
  · skip
    refine z_iload_n (pc := 7) C 2 dX9_joins_7 rfl ?_
    refine z_callS (pc := 8) C (c_X9_isPicture) [] z00 mS_X9_isPicture q_871 dX9_joins_8 rfl rfl rfl rfl (Nat.le_of_ble_eq_true rfl) (by decide) (pI.stay rfl ?_)
    refine z_if_eq (pc := 11) 21 C dX9_joins_11 (by decide) (fun c_11 => ?_) (fun c_11 => ?_)
    · skip
      refine z_aload_n (pc := 21) C 0 dX9_joins_21 rfl ?_
      refine z_bipush (pc := 22) (v := (-2)) C dX9_joins_22 (by decide) ?_
      refine z_callV (pc := 24) C (c_X9_bad) [0, 1, 2, 3, 4, 5, 6, 7, 8] z00 mV_X9_bad q_883 dX9_joins_24 rfl rfl rfl 0 rfl rfl rfl rfl (Nat.le_of_ble_eq_true rfl) (by decide) (pI.go (ws' := wMd G da dn dp dr ds dl dc dt dg now past states _ aside pile came pileL text textL place nargs) rfl ?_)
      exact z_iret (pc := 27) C E dX9_joins_27 (pI.mk (by simp only [f_X9_joins, if_neg c_4, if_pos c_11]) (by simp only [g_X9_joins_now, g_X9_joins_past, g_X9_joins_states, g_X9_joins_refused, g_X9_joins_aside, if_neg c_4, if_pos c_11]))
    · skip
      refine z_iload_n (pc := 14) C 3 dX9_joins_14 rfl ?_
      refine z_callS (pc := 15) C (c_X9_isJoin) [] z00 mS_X9_isJoin q_955 dX9_joins_15 rfl rfl rfl rfl (Nat.le_of_ble_eq_true rfl) (by decide) (pI.stay rfl ?_)
      refine z_if_ne (pc := 18) 28 C dX9_joins_18 (by decide) (fun c_18 => ?_) (fun c_18 => ?_)
      · skip
        refine z_aload_n (pc := 28) C 0 dX9_joins_28 rfl ?_
        refine z_callV (pc := 29) C (c_X9_keep (by exact hq)) [0, 1, 2, 3, 4, 5, 6, 7, 8] z00 mV_X9_keep q_887 dX9_joins_29 rfl rfl rfl 0 rfl rfl rfl rfl (Nat.le_of_ble_eq_true rfl) (by decide) (pV.go (ws' := wMd G da dn dp dr ds dl dc dt dg now _ _ refused aside pile came pileL text textL place nargs) rfl ?_)
        refine z_aload_n (pc := 32) C 0 dX9_joins_32 rfl ?_
        refine z_iload_n (pc := 33) C 1 dX9_joins_33 rfl ?_
        refine z_iconst (pc := 34) (v := 0) C dX9_joins_34 (by decide) ?_
        refine z_iconst (pc := 35) (v := 0) C dX9_joins_35 (by decide) ?_
        refine z_bipush (pc := 36) (v := 32) C dX9_joins_36 (by decide) ?_
        refine z_bipush (pc := 38) (v := 24) C dX9_joins_38 (by decide) ?_
        refine z_iload_n (pc := 40) C 2 dX9_joins_40 rfl ?_
        refine z_iconst (pc := 41) (v := 0) C dX9_joins_41 (by decide) ?_
        refine z_iconst (pc := 42) (v := 0) C dX9_joins_42 (by decide) ?_
        refine z_iload_n (pc := 43) C 3 dX9_joins_43 rfl ?_
        refine z_callV (pc := 44) C (c_X9_moves (by exact (mP_ne c_4)) (by exact (mP_ne c_11)) (by exact hm) (by exact hOk_32) (by exact hOk_24)) [0, 1, 2, 3, 4, 5, 6, 7, 8] z00 mV_X9_moves q_958 dX9_joins_44 rfl rfl rfl 0 rfl rfl rfl rfl (Nat.le_of_ble_eq_true rfl) (by decide) (pI.go (ws' := wMd G da dn dp dr ds dl dc dt dg _ _ _ refused _ pile came pileL text textL place nargs) rfl ?_)
        exact z_iret (pc := 47) C E dX9_joins_47 (pI.mk (by simp only [f_X9_joins, if_neg c_4, if_neg c_11, if_neg c_18]) (by simp only [g_X9_joins_now, g_X9_joins_past, g_X9_joins_states, g_X9_joins_refused, g_X9_joins_aside, if_neg c_4, if_neg c_11, if_neg c_18]))
      · skip
        refine z_aload_n (pc := 21) C 0 dX9_joins_21 rfl ?_
        refine z_bipush (pc := 22) (v := (-2)) C dX9_joins_22 (by decide) ?_
        refine z_callV (pc := 24) C (c_X9_bad) [0, 1, 2, 3, 4, 5, 6, 7, 8] z00 mV_X9_bad q_883 dX9_joins_24 rfl rfl rfl 0 rfl rfl rfl rfl (Nat.le_of_ble_eq_true rfl) (by decide) (pI.go (ws' := wMd G da dn dp dr ds dl dc dt dg now past states _ aside pile came pileL text textL place nargs) rfl ?_)
        exact z_iret (pc := 27) C E dX9_joins_27 (pI.mk (by simp only [f_X9_joins, if_neg c_4, if_neg c_11, if_pos c_18]) (by simp only [g_X9_joins_now, g_X9_joins_past, g_X9_joins_states, g_X9_joins_refused, g_X9_joins_aside, if_neg c_4, if_neg c_11, if_pos c_18]))

def f_X9_sides (aside : Nat → Int32) (t : Int32) (x : Int32) (y : Int32) : Int32 := (((f_X9_asideAt aside t (x + 1) y) + (f_X9_asideAt aside t (x - 1) y)) + (f_X9_asideAt aside t x (y + 1))) + (f_X9_asideAt aside t x (y - 1))
set_option maxRecDepth 100000 in
theorem c_X9_sides {l : Launch} {G : zG} {da dn dp dr ds dl dc dt dg : Nat} {now : Nat → Int32} {past : Nat → Int32} {states : Int32} {refused : Nat → Int32} {aside : Nat → Int32} {pile : Nat → Int32} {came : Nat → Int32} {pileL : Int32} {text : Nat → Int32} {textL : Int32} {place : Int32} {nargs : Nat → Int32} {t : Int32} {x : Int32} {y : Int32} (hT : pT t) : Ct l G yX9_sides cX9_sides 4 (Option.some FieldType.int) 3 69 [.ref da, .int t, .int x, .int y] (wMd G da dn dp dr ds dl dc dt dg now past states refused aside pile came pileL text textL place nargs) (pI (f_X9_sides aside t x y) (wMd G da dn dp dr ds dl dc dt dg now past states refused aside pile came pileL text textL place nargs)) := by
  refine Ct.of (plainFor_of_name (by decide)) (Nat.le_of_ble_eq_true rfl) (pI.ad ad_Md) (fun X C E => ?_)
  show Z X G 4 0 0 _ 0 [(0, .ref da), (1, .int t), (2, .int x), (3, .int y)] []
  refine z_aload_n (pc := 0) C 0 dX9_sides_0 rfl ?_
  refine z_iload_n (pc := 1) C 1 dX9_sides_1 rfl ?_
  refine z_iload_n (pc := 2) C 2 dX9_sides_2 rfl ?_
  refine z_iconst (pc := 3) (v := 1) C dX9_sides_3 (by decide) ?_
  refine z_iadd (pc := 4) C dX9_sides_4 ?_
  refine z_iload_n (pc := 5) C 3 dX9_sides_5 rfl ?_
  refine z_callV (pc := 6) C (c_X9_asideAt (by assumption)) [0, 1, 2, 3, 4, 5, 6, 7, 8] z00 mV_X9_asideAt q_966 dX9_sides_6 rfl rfl rfl 0 rfl rfl rfl rfl (Nat.le_of_ble_eq_true rfl) (by decide) (pI.stay rfl ?_)
  refine z_aload_n (pc := 9) C 0 dX9_sides_9 rfl ?_
  refine z_iload_n (pc := 10) C 1 dX9_sides_10 rfl ?_
  refine z_iload_n (pc := 11) C 2 dX9_sides_11 rfl ?_
  refine z_iconst (pc := 12) (v := 1) C dX9_sides_12 (by decide) ?_
  refine z_isub (pc := 13) C dX9_sides_13 ?_
  refine z_iload_n (pc := 14) C 3 dX9_sides_14 rfl ?_
  refine z_callV (pc := 15) C (c_X9_asideAt (by assumption)) [0, 1, 2, 3, 4, 5, 6, 7, 8] z00 mV_X9_asideAt q_966 dX9_sides_15 rfl rfl rfl 0 rfl rfl rfl rfl (Nat.le_of_ble_eq_true rfl) (by decide) (pI.stay rfl ?_)
  refine z_iadd (pc := 18) C dX9_sides_18 ?_
  refine z_aload_n (pc := 19) C 0 dX9_sides_19 rfl ?_
  refine z_iload_n (pc := 20) C 1 dX9_sides_20 rfl ?_
  refine z_iload_n (pc := 21) C 2 dX9_sides_21 rfl ?_
  refine z_iload_n (pc := 22) C 3 dX9_sides_22 rfl ?_
  refine z_iconst (pc := 23) (v := 1) C dX9_sides_23 (by decide) ?_
  refine z_iadd (pc := 24) C dX9_sides_24 ?_
  refine z_callV (pc := 25) C (c_X9_asideAt (by assumption)) [0, 1, 2, 3, 4, 5, 6, 7, 8] z00 mV_X9_asideAt q_966 dX9_sides_25 rfl rfl rfl 0 rfl rfl rfl rfl (Nat.le_of_ble_eq_true rfl) (by decide) (pI.stay rfl ?_)
  refine z_iadd (pc := 28) C dX9_sides_28 ?_
  refine z_aload_n (pc := 29) C 0 dX9_sides_29 rfl ?_
  refine z_iload_n (pc := 30) C 1 dX9_sides_30 rfl ?_
  refine z_iload_n (pc := 31) C 2 dX9_sides_31 rfl ?_
  refine z_iload_n (pc := 32) C 3 dX9_sides_32 rfl ?_
  refine z_iconst (pc := 33) (v := 1) C dX9_sides_33 (by decide) ?_
  refine z_isub (pc := 34) C dX9_sides_34 ?_
  refine z_callV (pc := 35) C (c_X9_asideAt (by assumption)) [0, 1, 2, 3, 4, 5, 6, 7, 8] z00 mV_X9_asideAt q_966 dX9_sides_35 rfl rfl rfl 0 rfl rfl rfl rfl (Nat.le_of_ble_eq_true rfl) (by decide) (pI.stay rfl ?_)
  refine z_iadd (pc := 38) C dX9_sides_38 ?_
  exact z_iret (pc := 39) C E dX9_sides_39 (pI.mk rfl rfl)

def f_X9_changed (aside : Nat → Int32) (t : Int32) (way : Int32) (x : Int32) (y : Int32) : Int32 := if way = 0 then f_X9_asideAt aside t (31 - x) y else if way = 1 then f_X9_asideAt aside t x (23 - y) else if way = 2 then if ((f_X9_asideAt aside t x y) + (f_X9_sides aside t x y)) ≤ 0 then 0 else 1 else if way = 3 then if (f_X9_asideAt aside t x y) = 1 then if (f_X9_sides aside t x y) = 4 then 1 else 0 else 0 else if (f_X9_asideAt aside t x y) = 1 then if 4 ≤ (f_X9_sides aside t x y) then 0 else 1 else 0
set_option maxRecDepth 100000 in
theorem c_X9_changed {l : Launch} {G : zG} {da dn dp dr ds dl dc dt dg : Nat} {now : Nat → Int32} {past : Nat → Int32} {states : Int32} {refused : Nat → Int32} {aside : Nat → Int32} {pile : Nat → Int32} {came : Nat → Int32} {pileL : Int32} {text : Nat → Int32} {textL : Int32} {place : Int32} {nargs : Nat → Int32} {t : Int32} {way : Int32} {x : Int32} {y : Int32} (hT : pT t) : Ct l G yX9_changed cX9_changed 7 (Option.some FieldType.int) 4 92 [.ref da, .int t, .int way, .int x, .int y] (wMd G da dn dp dr ds dl dc dt dg now past states refused aside pile came pileL text textL place nargs) (pI (f_X9_changed aside t way x y) (wMd G da dn dp dr ds dl dc dt dg now past states refused aside pile came pileL text textL place nargs)) := by
  refine Ct.of (plainFor_of_name (by decide)) (Nat.le_of_ble_eq_true rfl) (pI.ad ad_Md) (fun X C E => ?_)
  show Z X G 7 0 0 _ 0 [(0, .ref da), (1, .int t), (2, .int way), (3, .int x), (4, .int y)] []
  refine z_aload_n (pc := 0) C 0 dX9_changed_0 rfl ?_
  refine z_iload_n (pc := 1) C 1 dX9_changed_1 rfl ?_
  refine z_iload_n (pc := 2) C 3 dX9_changed_2 rfl ?_
  refine z_iload (pc := 3) C 4 dX9_changed_3 rfl ?_
  refine z_callV (pc := 5) C (c_X9_asideAt (by assumption)) [0, 1, 2, 3, 4, 5, 6, 7, 8] z00 mV_X9_asideAt q_966 dX9_changed_5 rfl rfl rfl 0 rfl rfl rfl rfl (Nat.le_of_ble_eq_true rfl) (by decide) (pI.stay rfl ?_)
  refine z_istore (pc := 8) [(5, _), (0, _), (1, _), (2, _), (3, _), (4, _)] C dX9_changed_8 (by decide) rfl ?_
  refine z_aload_n (pc := 10) C 1 dX9_changed_10 rfl ?_
  refine z_iload_n (pc := 11) C 2 dX9_changed_11 rfl ?_
  refine z_iload_n (pc := 12) C 4 dX9_changed_12 rfl ?_
  refine z_iload (pc := 13) C 5 dX9_changed_13 rfl ?_
  refine z_callV (pc := 15) C (c_X9_sides (by assumption)) [0, 1, 2, 3, 4, 5, 6, 7, 8] z00 mV_X9_sides q_1054 dX9_changed_15 rfl rfl rfl 0 rfl rfl rfl rfl (Nat.le_of_ble_eq_true rfl) (by decide) (pI.stay rfl ?_)
  refine z_istore (pc := 18) [(6, _), (5, _), (0, _), (1, _), (2, _), (3, _), (4, _)] C dX9_changed_18 (by decide) rfl ?_
  refine z_iload_n (pc := 20) C 4 dX9_changed_20 rfl ?_
  by_cases c_21_0 : way = 0
  · skip
    refine z_tableIn (pc := 21) 52 C dX9_changed_21 (by rw [c_21_0]; decide) (by rw [c_21_0]; decide) (by rw [c_21_0]; rfl) (by decide) ?_
    refine z_aload_n (pc := 52) C 2 dX9_changed_52 rfl ?_
    refine z_iload_n (pc := 53) C 3 dX9_changed_53 rfl ?_
    refine z_bipush (pc := 54) (v := 31) C dX9_changed_54 (by decide) ?_
    refine z_iload_n (pc := 56) C 5 dX9_changed_56 rfl ?_
    refine z_isub (pc := 57) C dX9_changed_57 ?_
    refine z_iload (pc := 58) C 6 dX9_changed_58 rfl ?_
    refine z_callV (pc := 60) C (c_X9_asideAt (by assumption)) [0, 1, 2, 3, 4, 5, 6, 7, 8] z00 mV_X9_asideAt q_966 dX9_changed_60 rfl rfl rfl 0 rfl rfl rfl rfl (Nat.le_of_ble_eq_true rfl) (by decide) (pI.stay rfl ?_)
    exact z_iret (pc := 63) C E dX9_changed_63 (pI.mk (by simp only [f_X9_changed, if_pos c_21_0]) rfl)
  by_cases c_21_1 : way = 1
  · skip
    refine z_tableIn (pc := 21) 64 C dX9_changed_21 (by rw [c_21_1]; decide) (by rw [c_21_1]; decide) (by rw [c_21_1]; rfl) (by decide) ?_
    refine z_aload_n (pc := 64) C 2 dX9_changed_64 rfl ?_
    refine z_iload_n (pc := 65) C 3 dX9_changed_65 rfl ?_
    refine z_iload_n (pc := 66) C 5 dX9_changed_66 rfl ?_
    refine z_bipush (pc := 67) (v := 23) C dX9_changed_67 (by decide) ?_
    refine z_iload (pc := 69) C 6 dX9_changed_69 rfl ?_
    refine z_isub (pc := 71) C dX9_changed_71 ?_
    refine z_callV (pc := 72) C (c_X9_asideAt (by assumption)) [0, 1, 2, 3, 4, 5, 6, 7, 8] z00 mV_X9_asideAt q_966 dX9_changed_72 rfl rfl rfl 0 rfl rfl rfl rfl (Nat.le_of_ble_eq_true rfl) (by decide) (pI.stay rfl ?_)
    exact z_iret (pc := 75) C E dX9_changed_75 (pI.mk (by simp only [f_X9_changed, if_neg c_21_0, if_pos c_21_1]) rfl)
  by_cases c_21_2 : way = 2
  · skip
    refine z_tableIn (pc := 21) 76 C dX9_changed_21 (by rw [c_21_2]; decide) (by rw [c_21_2]; decide) (by rw [c_21_2]; rfl) (by decide) ?_
    refine z_iload (pc := 76) C 1 dX9_changed_76 rfl ?_
    refine z_iload (pc := 78) C 0 dX9_changed_78 rfl ?_
    refine z_iadd (pc := 80) C dX9_changed_80 ?_
    refine z_if_le (pc := 81) 88 C dX9_changed_81 (by decide) (fun c_81 => ?_) (fun c_81 => ?_)
    · skip
      refine z_iconst (pc := 88) (v := 0) C dX9_changed_88 (by decide) ?_
      exact z_iret (pc := 89) C E dX9_changed_89 (pI.mk (by simp only [f_X9_changed, if_neg c_21_0, if_neg c_21_1, if_pos c_21_2, if_pos c_81]) rfl)
    · skip
      refine z_iconst (pc := 84) (v := 1) C dX9_changed_84 (by decide) ?_
      refine z_goto (pc := 85) 89 C dX9_changed_85 (by decide) ?_
      exact z_iret (pc := 89) C E dX9_changed_89 (pI.mk (by simp only [f_X9_changed, if_neg c_21_0, if_neg c_21_1, if_pos c_21_2, if_neg c_81]) rfl)
  by_cases c_21_3 : way = 3
  · skip
    refine z_tableIn (pc := 21) 90 C dX9_changed_21 (by rw [c_21_3]; decide) (by rw [c_21_3]; decide) (by rw [c_21_3]; rfl) (by decide) ?_
    refine z_iload (pc := 90) C 1 dX9_changed_90 rfl ?_
    refine z_iconst (pc := 92) (v := 1) C dX9_changed_92 (by decide) ?_
    refine z_icmp_ne (pc := 93) 106 C dX9_changed_93 (by decide) (fun c_93 => ?_) (fun c_93 => ?_)
    · skip
      refine z_iconst (pc := 106) (v := 0) C dX9_changed_106 (by decide) ?_
      exact z_iret (pc := 107) C E dX9_changed_107 (pI.mk (by simp only [f_X9_changed, if_neg c_21_0, if_neg c_21_1, if_neg c_21_2, if_pos c_21_3, if_neg c_93]) rfl)
    · skip
      refine z_iload (pc := 96) C 0 dX9_changed_96 rfl ?_
      refine z_iconst (pc := 98) (v := 4) C dX9_changed_98 (by decide) ?_
      refine z_icmp_ne (pc := 99) 106 C dX9_changed_99 (by decide) (fun c_99 => ?_) (fun c_99 => ?_)
      · skip
        refine z_iconst (pc := 106) (v := 0) C dX9_changed_106 (by decide) ?_
        exact z_iret (pc := 107) C E dX9_changed_107 (pI.mk (by simp only [f_X9_changed, if_neg c_21_0, if_neg c_21_1, if_neg c_21_2, if_pos c_21_3, if_pos c_93, if_neg c_99]) rfl)
      · skip
        refine z_iconst (pc := 102) (v := 1) C dX9_changed_102 (by decide) ?_
        refine z_goto (pc := 103) 107 C dX9_changed_103 (by decide) ?_
        exact z_iret (pc := 107) C E dX9_changed_107 (pI.mk (by simp only [f_X9_changed, if_neg c_21_0, if_neg c_21_1, if_neg c_21_2, if_pos c_21_3, if_pos c_93, if_pos c_99]) rfl)
  refine z_tableD (pc := 21) 108 C dX9_changed_21 [0, 1, 2, 3] (by decide) (List.forall_mem_cons.mpr ⟨lv_neT c_21_0 rfl, List.forall_mem_cons.mpr ⟨lv_neT c_21_1 rfl, List.forall_mem_cons.mpr ⟨lv_neT c_21_2 rfl, List.forall_mem_cons.mpr ⟨lv_neT c_21_3 rfl, fun _ h => absurd h List.not_mem_nil⟩⟩⟩⟩) (by decide) ?_
  refine z_iload (pc := 108) C 1 dX9_changed_108 rfl ?_
  refine z_iconst (pc := 110) (v := 1) C dX9_changed_110 (by decide) ?_
  refine z_icmp_ne (pc := 111) 124 C dX9_changed_111 (by decide) (fun c_111 => ?_) (fun c_111 => ?_)
  · skip
    refine z_iconst (pc := 124) (v := 0) C dX9_changed_124 (by decide) ?_
    exact z_iret (pc := 125) C E dX9_changed_125 (pI.mk (by simp only [f_X9_changed, if_neg c_21_0, if_neg c_21_1, if_neg c_21_2, if_neg c_21_3, if_neg c_111]) rfl)
  · skip
    refine z_iload (pc := 114) C 0 dX9_changed_114 rfl ?_
    refine z_iconst (pc := 116) (v := 4) C dX9_changed_116 (by decide) ?_
    refine z_icmp_ge (pc := 117) 124 C dX9_changed_117 (by decide) (fun c_117 => ?_) (fun c_117 => ?_)
    · skip
      refine z_iconst (pc := 124) (v := 0) C dX9_changed_124 (by decide) ?_
      exact z_iret (pc := 125) C E dX9_changed_125 (pI.mk (by simp only [f_X9_changed, if_neg c_21_0, if_neg c_21_1, if_neg c_21_2, if_neg c_21_3, if_pos c_111, if_pos c_117]) rfl)
    · skip
      refine z_iconst (pc := 120) (v := 1) C dX9_changed_120 (by decide) ?_
      refine z_goto (pc := 121) 125 C dX9_changed_121 (by decide) ?_
      exact z_iret (pc := 125) C E dX9_changed_125 (pI.mk (by simp only [f_X9_changed, if_neg c_21_0, if_neg c_21_1, if_neg c_21_2, if_neg c_21_3, if_pos c_111, if_neg c_117]) rfl)

def b_X9_changes_53 (now : Nat → Int32) (aside : Nat → Int32) (t : Int32) (way : Int32) (i_43 : Nat) (i_53 : Nat) (z_53 : Int32 × (Nat → Int32)) : Int32 × (Nat → Int32) := (z_53.1 + (f_X9_sets z_53.2 t (nI i_53) (nI i_43) (f_X9_changed (g_X9_copies_aside now aside) t way (nI i_53) (nI i_43))), g_X9_sets_now z_53.2 t (nI i_53) (nI i_43) (f_X9_changed (g_X9_copies_aside now aside) t way (nI i_53) (nI i_43)))
def s_X9_changes_53 (now : Nat → Int32) (aside : Nat → Int32) (t : Int32) (way : Int32) (i_43 : Nat) (z_43 : Int32 × (Nat → Int32)) : Nat → Int32 × (Nat → Int32)
  | 0 => (z_43.1, z_43.2)
  | i_53 + 1 => b_X9_changes_53 now aside t way i_43 i_53 (s_X9_changes_53 now aside t way i_43 z_43 i_53)
def b_X9_changes_43 (now : Nat → Int32) (aside : Nat → Int32) (t : Int32) (way : Int32) (i_43 : Nat) (z_43 : Int32 × (Nat → Int32)) : Int32 × (Nat → Int32) := ((s_X9_changes_53 now aside t way i_43 z_43 32).1, (s_X9_changes_53 now aside t way i_43 z_43 32).2)
def s_X9_changes_43 (now : Nat → Int32) (aside : Nat → Int32) (t : Int32) (way : Int32) : Nat → Int32 × (Nat → Int32)
  | 0 => (0, now)
  | i_43 + 1 => b_X9_changes_43 now aside t way i_43 (s_X9_changes_43 now aside t way i_43)
def f_X9_changes (now : Nat → Int32) (aside : Nat → Int32) (t : Int32) (way : Int32) : Int32 := if (f_X9_isPicture t) = 0 then f_X9_bad (-2) else if (f_X9_in way.toInt64 0 4) = 0 then f_X9_bad (-2) else (s_X9_changes_43 now aside t way 24).1
def g_X9_changes_now (now : Nat → Int32) (aside : Nat → Int32) (t : Int32) (way : Int32) : Nat → Int32 := if (f_X9_isPicture t) = 0 then now else if (f_X9_in way.toInt64 0 4) = 0 then now else (s_X9_changes_43 now aside t way 24).2
def g_X9_changes_past (now : Nat → Int32) (past : Nat → Int32) (states : Int32) (t : Int32) (way : Int32) : Nat → Int32 := if (f_X9_isPicture t) = 0 then past else if (f_X9_in way.toInt64 0 4) = 0 then past else g_X9_keep_past now past states
def g_X9_changes_states (states : Int32) (t : Int32) (way : Int32) : Int32 := if (f_X9_isPicture t) = 0 then states else if (f_X9_in way.toInt64 0 4) = 0 then states else g_X9_keep_states states
def g_X9_changes_refused (refused : Nat → Int32) (t : Int32) (way : Int32) : Nat → Int32 := if (f_X9_isPicture t) = 0 then g_X9_bad_refused refused else if (f_X9_in way.toInt64 0 4) = 0 then g_X9_bad_refused refused else refused
def g_X9_changes_aside (now : Nat → Int32) (aside : Nat → Int32) (t : Int32) (way : Int32) : Nat → Int32 := if (f_X9_isPicture t) = 0 then aside else if (f_X9_in way.toInt64 0 4) = 0 then aside else g_X9_copies_aside now aside
set_option maxRecDepth 100000 in
theorem c_X9_changes {l : Launch} {G : zG} {da dn dp dr ds dl dc dt dg : Nat} {now : Nat → Int32} {past : Nat → Int32} {states : Int32} {refused : Nat → Int32} {aside : Nat → Int32} {pile : Nat → Int32} {came : Nat → Int32} {pileL : Int32} {text : Nat → Int32} {textL : Int32} {place : Int32} {nargs : Nat → Int32} {t : Int32} {way : Int32} (hq : qOk states) : Ct l G yX9_changes cX9_changes 6 (Option.some FieldType.int) 5 118 [.ref da, .int t, .int way] (wMd G da dn dp dr ds dl dc dt dg now past states refused aside pile came pileL text textL place nargs) (pI (f_X9_changes now aside t way) (wMd G da dn dp dr ds dl dc dt dg (g_X9_changes_now now aside t way) (g_X9_changes_past now past states t way) (g_X9_changes_states states t way) (g_X9_changes_refused refused t way) (g_X9_changes_aside now aside t way) pile came pileL text textL place nargs)) := by
  refine Ct.of (plainFor_of_name (by decide)) (Nat.le_of_ble_eq_true rfl) (pI.ad ad_Md) (fun X C E => ?_)
  show Z X G 6 0 0 _ 0 [(0, .ref da), (1, .int t), (2, .int way)] []
  refine z_iload_n (pc := 0) C 1 dX9_changes_0 rfl ?_
  refine z_callS (pc := 1) C (c_X9_isPicture) [] z00 mS_X9_isPicture q_871 dX9_changes_1 rfl rfl rfl rfl (Nat.le_of_ble_eq_true rfl) (by decide) (pI.stay rfl ?_)
  refine z_if_eq (pc := 4) 19 C dX9_changes_4 (by decide) (fun c_4 => ?_) (fun c_4 => ?_)
  · skip
    refine z_aload_n (pc := 19) C 0 dX9_changes_19 rfl ?_
    refine z_bipush (pc := 20) (v := (-2)) C dX9_changes_20 (by decide) ?_
    refine z_callV (pc := 22) C (c_X9_bad) [0, 1, 2, 3, 4, 5, 6, 7, 8] z00 mV_X9_bad q_883 dX9_changes_22 rfl rfl rfl 0 rfl rfl rfl rfl (Nat.le_of_ble_eq_true rfl) (by decide) (pI.go (ws' := wMd G da dn dp dr ds dl dc dt dg now past states _ aside pile came pileL text textL place nargs) rfl ?_)
    exact z_iret (pc := 25) C E dX9_changes_25 (pI.mk (by simp only [f_X9_changes, if_pos c_4]) (by simp only [g_X9_changes_now, g_X9_changes_past, g_X9_changes_states, g_X9_changes_refused, g_X9_changes_aside, if_pos c_4]))
  · skip
    refine z_iload_n (pc := 7) C 2 dX9_changes_7 rfl ?_
    refine z_i2l (pc := 8) C dX9_changes_8 ?_
    refine z_lconst (pc := 9) (v := 0) C dX9_changes_9 (by decide) ?_
    refine z_ldc2_w (pc := 10) C q_1049 dX9_changes_10 ?_
    refine z_callS (pc := 13) C (c_X9_in) [] z00 mS_X9_in q_875 dX9_changes_13 rfl rfl rfl rfl (Nat.le_of_ble_eq_true rfl) (by decide) (pI.stay rfl ?_)
    refine z_if_ne (pc := 16) 26 C dX9_changes_16 (by decide) (fun c_16 => ?_) (fun c_16 => ?_)
    · skip
      refine z_iconst (pc := 26) (v := 0) C dX9_changes_26 (by decide) ?_
      refine z_istore_n (pc := 27) [(3, _), (0, _), (1, _), (2, _)] C dX9_changes_27 rfl (by decide) rfl ?_
      refine z_aload_n (pc := 28) C 1 dX9_changes_28 rfl ?_
      refine z_callV (pc := 29) C (c_X9_keep (by exact hq)) [0, 1, 2, 3, 4, 5, 6, 7, 8] z00 mV_X9_keep q_887 dX9_changes_29 rfl rfl rfl 0 rfl rfl rfl rfl (Nat.le_of_ble_eq_true rfl) (by decide) (pV.go (ws' := wMd G da dn dp dr ds dl dc dt dg now _ _ refused aside pile came pileL text textL place nargs) rfl ?_)
      refine z_aload_n (pc := 32) C 1 dX9_changes_32 rfl ?_
      refine z_aload_n (pc := 33) C 1 dX9_changes_33 rfl ?_
      refine z_get (pc := 34) C 0 4 dX9_changes_34 rfl rfl i_X9 (by decide) q_833 rfl ?_
      refine z_callV (pc := 37) C (c_X9_copies) [0, 1, 2, 3, 4, 5, 6, 7, 8] z00 mV_X9_copies q_962 dX9_changes_37 rfl rfl rfl 0 rfl rfl rfl rfl (Nat.le_of_ble_eq_true rfl) (by decide) (pV.go (ws' := wMd G da dn dp dr ds dl dc dt dg now _ _ refused _ pile came pileL text textL place nargs) rfl ?_)
      refine z_iconst (pc := 40) (v := 0) C dX9_changes_40 (by decide) ?_
      refine z_istore (pc := 41) [(4, _), (3, _), (0, _), (1, _), (2, _)] C dX9_changes_41 (by decide) rfl ?_
      refine z_lv (lv' := [(0, _), (1, _), (2, _), (3, _), (4, _)]) [2, 3, 4, 1, 0] rfl ?_
      refine z_loop (pc := 43) (e := 24) (fun i_43 => wMd G da dn dp dr ds dl dc dt dg ((s_X9_changes_43 now aside t way i_43).2) (g_X9_keep_past now past states) (g_X9_keep_states states) refused (g_X9_copies_aside now aside) pile came pileL text textL place nargs) (fun i_43 => [(0, .ref da), (1, .int t), (2, .int way), (3, .int ((s_X9_changes_43 now aside t way i_43).1)), (4, .int (nI i_43))]) [] (fun i_43 hi_43 ih_43 => ?_) ?_ 0 (Nat.zero_le _)
      · show Z X G 6 0 0 (wMd G da dn dp dr ds dl dc dt dg ((s_X9_changes_43 now aside t way i_43).2) (g_X9_keep_past now past states) (g_X9_keep_states states) refused (g_X9_copies_aside now aside) pile came pileL text textL place nargs) 43 [(0, .ref da), (1, .int t), (2, .int way), (3, .int ((s_X9_changes_43 now aside t way i_43).1)), (4, .int (nI i_43))] []
        generalize hz_43 : s_X9_changes_43 now aside t way i_43 = z_43
        refine z_iload (pc := 43) C 4 dX9_changes_43 rfl ?_
        refine z_bipush (pc := 45) (v := 24) C dX9_changes_45 (by decide) ?_
        refine z_icmp_ge (pc := 47) 94 C dX9_changes_47 (by decide) (fun c_47 => ?_) (fun c_47 => ?_)
        · skip
          exact absurd c_47 (nI_ge (b := 24) (by omega) (by decide))
        · skip
          refine z_iconst (pc := 50) (v := 0) C dX9_changes_50 (by decide) ?_
          refine z_istore (pc := 51) [(5, _), (0, _), (1, _), (2, _), (3, _), (4, _)] C dX9_changes_51 (by decide) rfl ?_
          refine z_lv (lv' := [(0, _), (1, _), (2, _), (3, _), (4, _), (5, _)]) [1, 2, 3, 4, 5, 0] rfl ?_
          refine z_loop (pc := 53) (e := 32) (fun i_53 => wMd G da dn dp dr ds dl dc dt dg ((s_X9_changes_53 now aside t way i_43 z_43 i_53).2) (g_X9_keep_past now past states) (g_X9_keep_states states) refused (g_X9_copies_aside now aside) pile came pileL text textL place nargs) (fun i_53 => [(0, .ref da), (1, .int t), (2, .int way), (3, .int ((s_X9_changes_53 now aside t way i_43 z_43 i_53).1)), (4, .int (nI i_43)), (5, .int (nI i_53))]) [] (fun i_53 hi_53 ih_53 => ?_) ?_ 0 (Nat.zero_le _)
          · show Z X G 6 0 0 (wMd G da dn dp dr ds dl dc dt dg ((s_X9_changes_53 now aside t way i_43 z_43 i_53).2) (g_X9_keep_past now past states) (g_X9_keep_states states) refused (g_X9_copies_aside now aside) pile came pileL text textL place nargs) 53 [(0, .ref da), (1, .int t), (2, .int way), (3, .int ((s_X9_changes_53 now aside t way i_43 z_43 i_53).1)), (4, .int (nI i_43)), (5, .int (nI i_53))] []
            generalize hz_53 : s_X9_changes_53 now aside t way i_43 z_43 i_53 = z_53
            refine z_iload (pc := 53) C 5 dX9_changes_53 rfl ?_
            refine z_bipush (pc := 55) (v := 32) C dX9_changes_55 (by decide) ?_
            refine z_icmp_ge (pc := 57) 88 C dX9_changes_57 (by decide) (fun c_57 => ?_) (fun c_57 => ?_)
            · skip
              exact absurd c_57 (nI_ge (b := 32) (by omega) (by decide))
            · skip
              refine z_iload_n (pc := 60) C 3 dX9_changes_60 rfl ?_
              refine z_aload_n (pc := 61) C 0 dX9_changes_61 rfl ?_
              refine z_iload_n (pc := 62) C 1 dX9_changes_62 rfl ?_
              refine z_iload (pc := 63) C 5 dX9_changes_63 rfl ?_
              refine z_iload (pc := 65) C 4 dX9_changes_65 rfl ?_
              refine z_aload_n (pc := 67) C 0 dX9_changes_67 rfl ?_
              refine z_iload_n (pc := 68) C 1 dX9_changes_68 rfl ?_
              refine z_iload_n (pc := 69) C 2 dX9_changes_69 rfl ?_
              refine z_iload (pc := 70) C 5 dX9_changes_70 rfl ?_
              refine z_iload (pc := 72) C 4 dX9_changes_72 rfl ?_
              refine z_callV (pc := 74) C (c_X9_changed (by exact (mP_ne c_4))) [0, 1, 2, 3, 4, 5, 6, 7, 8] z00 mV_X9_changed q_1050 dX9_changes_74 rfl rfl rfl 0 rfl rfl rfl rfl (Nat.le_of_ble_eq_true rfl) (by decide) (pI.stay rfl ?_)
              refine z_callV (pc := 77) C (c_X9_sets (by exact (mP_ne c_4)) (by exact (pY_n hi_43))) [0, 1, 2, 3, 4, 5, 6, 7, 8] z00 mV_X9_sets q_891 dX9_changes_77 rfl rfl rfl 0 rfl rfl rfl rfl (Nat.le_of_ble_eq_true rfl) (by decide) (pI.go (ws' := wMd G da dn dp dr ds dl dc dt dg _ _ _ refused _ pile came pileL text textL place nargs) rfl ?_)
              refine z_iadd (pc := 80) C dX9_changes_80 ?_
              refine z_istore_n (pc := 81) [(3, _), (0, _), (1, _), (2, _), (4, _), (5, _)] C dX9_changes_81 rfl (by decide) rfl ?_
              refine z_iinc (pc := 82) (v := nI (i_53 + 1)) [(5, _), (3, _), (0, _), (1, _), (2, _), (4, _)] C 5 dX9_changes_82 rfl ((nI_succ _).symm) (by decide) rfl ?_
              refine z_goto (pc := 85) 53 C dX9_changes_85 (by decide) ?_
              refine z_lv (lv' := [(0, _), (1, _), (2, _), (3, _), (4, _), (5, _)]) [2, 3, 4, 1, 5, 0] rfl ?_
              exact z_eq (by simp only [s_X9_changes_53, hz_53, b_X9_changes_53]) (by simp only [s_X9_changes_53, hz_53, b_X9_changes_53]) rfl ih_53
          · show Z X G 6 0 0 (wMd G da dn dp dr ds dl dc dt dg ((s_X9_changes_53 now aside t way i_43 z_43 32).2) (g_X9_keep_past now past states) (g_X9_keep_states states) refused (g_X9_copies_aside now aside) pile came pileL text textL place nargs) 53 [(0, .ref da), (1, .int t), (2, .int way), (3, .int ((s_X9_changes_53 now aside t way i_43 z_43 32).1)), (4, .int (nI i_43)), (5, .int (nI 32))] []
            refine z_iload (pc := 53) C 5 dX9_changes_53 rfl ?_
            refine z_bipush (pc := 55) (v := 32) C dX9_changes_55 (by decide) ?_
            refine z_icmp_ge (pc := 57) 88 C dX9_changes_57 (by decide) (fun c_57 => ?_) (fun c_57 => ?_)
            · skip
              refine z_iinc (pc := 88) (v := nI (i_43 + 1)) [(4, _), (0, _), (1, _), (2, _), (3, _), (5, _)] C 4 dX9_changes_88 rfl ((nI_succ _).symm) (by decide) rfl ?_
              refine z_goto (pc := 91) 43 C dX9_changes_91 (by decide) ?_
              refine z_lv (lv' := [(0, _), (1, _), (2, _), (3, _), (4, _)]) [1, 2, 3, 4, 0] rfl ?_
              exact z_eq (by simp only [s_X9_changes_43, hz_43, b_X9_changes_43]) (by simp only [s_X9_changes_43, hz_43, b_X9_changes_43]) rfl ih_43
            · skip
              exact absurd (nI_le (Nat.le_refl 32) (by decide)) c_57
      · show Z X G 6 0 0 (wMd G da dn dp dr ds dl dc dt dg ((s_X9_changes_43 now aside t way 24).2) (g_X9_keep_past now past states) (g_X9_keep_states states) refused (g_X9_copies_aside now aside) pile came pileL text textL place nargs) 43 [(0, .ref da), (1, .int t), (2, .int way), (3, .int ((s_X9_changes_43 now aside t way 24).1)), (4, .int (nI 24))] []
        refine z_iload (pc := 43) C 4 dX9_changes_43 rfl ?_
        refine z_bipush (pc := 45) (v := 24) C dX9_changes_45 (by decide) ?_
        refine z_icmp_ge (pc := 47) 94 C dX9_changes_47 (by decide) (fun c_47 => ?_) (fun c_47 => ?_)
        · skip
          refine z_iload_n (pc := 94) C 3 dX9_changes_94 rfl ?_
          exact z_iret (pc := 95) C E dX9_changes_95 (pI.mk (by simp only [f_X9_changes, if_neg c_4, if_neg c_16]) (by simp only [g_X9_changes_now, g_X9_changes_past, g_X9_changes_states, g_X9_changes_refused, g_X9_changes_aside, if_neg c_4, if_neg c_16]))
        · skip
          exact absurd (nI_le (Nat.le_refl 24) (by decide)) c_47
    · skip
      refine z_aload_n (pc := 19) C 0 dX9_changes_19 rfl ?_
      refine z_bipush (pc := 20) (v := (-2)) C dX9_changes_20 (by decide) ?_
      refine z_callV (pc := 22) C (c_X9_bad) [0, 1, 2, 3, 4, 5, 6, 7, 8] z00 mV_X9_bad q_883 dX9_changes_22 rfl rfl rfl 0 rfl rfl rfl rfl (Nat.le_of_ble_eq_true rfl) (by decide) (pI.go (ws' := wMd G da dn dp dr ds dl dc dt dg now past states _ aside pile came pileL text textL place nargs) rfl ?_)
      exact z_iret (pc := 25) C E dX9_changes_25 (pI.mk (by simp only [f_X9_changes, if_neg c_4, if_pos c_16]) (by simp only [g_X9_changes_now, g_X9_changes_past, g_X9_changes_states, g_X9_changes_refused, g_X9_changes_aside, if_neg c_4, if_pos c_16]))

def b_X9_rolls_70 (now : Nat → Int32) (aside : Nat → Int32) (t : Int32) (x : Int32) (y : Int32) (i_60 : Nat) (i_70 : Nat) (z_70 : Int32 × (Nat → Int32)) : Int32 × (Nat → Int32) := (z_70.1 + (f_X9_sets z_70.2 t (nI i_70) (nI i_60) (f_X9_asideAt (g_X9_copies_aside now aside) t ((((nI i_70) - x) + 64) - (((nI i_70) - x) + 64) / 32 * 32) ((((nI i_60) - y) + 48) - (((nI i_60) - y) + 48) / 24 * 24))), g_X9_sets_now z_70.2 t (nI i_70) (nI i_60) (f_X9_asideAt (g_X9_copies_aside now aside) t ((((nI i_70) - x) + 64) - (((nI i_70) - x) + 64) / 32 * 32) ((((nI i_60) - y) + 48) - (((nI i_60) - y) + 48) / 24 * 24)))
def s_X9_rolls_70 (now : Nat → Int32) (aside : Nat → Int32) (t : Int32) (x : Int32) (y : Int32) (i_60 : Nat) (z_60 : Int32 × (Nat → Int32)) : Nat → Int32 × (Nat → Int32)
  | 0 => (z_60.1, z_60.2)
  | i_70 + 1 => b_X9_rolls_70 now aside t x y i_60 i_70 (s_X9_rolls_70 now aside t x y i_60 z_60 i_70)
def b_X9_rolls_60 (now : Nat → Int32) (aside : Nat → Int32) (t : Int32) (x : Int32) (y : Int32) (i_60 : Nat) (z_60 : Int32 × (Nat → Int32)) : Int32 × (Nat → Int32) := ((s_X9_rolls_70 now aside t x y i_60 z_60 32).1, (s_X9_rolls_70 now aside t x y i_60 z_60 32).2)
def s_X9_rolls_60 (now : Nat → Int32) (aside : Nat → Int32) (t : Int32) (x : Int32) (y : Int32) : Nat → Int32 × (Nat → Int32)
  | 0 => (0, now)
  | i_60 + 1 => b_X9_rolls_60 now aside t x y i_60 (s_X9_rolls_60 now aside t x y i_60)
def f_X9_rolls (now : Nat → Int32) (aside : Nat → Int32) (t : Int32) (x : Int32) (y : Int32) : Int32 := if (f_X9_isPicture t) = 0 then f_X9_bad (-2) else if (f_X9_in x.toInt64 (-31) 31) = 0 then f_X9_bad (-2) else if (f_X9_in y.toInt64 (-31) 31) = 0 then f_X9_bad (-2) else (s_X9_rolls_60 now aside t x y 24).1
def g_X9_rolls_now (now : Nat → Int32) (aside : Nat → Int32) (t : Int32) (x : Int32) (y : Int32) : Nat → Int32 := if (f_X9_isPicture t) = 0 then now else if (f_X9_in x.toInt64 (-31) 31) = 0 then now else if (f_X9_in y.toInt64 (-31) 31) = 0 then now else (s_X9_rolls_60 now aside t x y 24).2
def g_X9_rolls_past (now : Nat → Int32) (past : Nat → Int32) (states : Int32) (t : Int32) (x : Int32) (y : Int32) : Nat → Int32 := if (f_X9_isPicture t) = 0 then past else if (f_X9_in x.toInt64 (-31) 31) = 0 then past else if (f_X9_in y.toInt64 (-31) 31) = 0 then past else g_X9_keep_past now past states
def g_X9_rolls_states (states : Int32) (t : Int32) (x : Int32) (y : Int32) : Int32 := if (f_X9_isPicture t) = 0 then states else if (f_X9_in x.toInt64 (-31) 31) = 0 then states else if (f_X9_in y.toInt64 (-31) 31) = 0 then states else g_X9_keep_states states
def g_X9_rolls_refused (refused : Nat → Int32) (t : Int32) (x : Int32) (y : Int32) : Nat → Int32 := if (f_X9_isPicture t) = 0 then g_X9_bad_refused refused else if (f_X9_in x.toInt64 (-31) 31) = 0 then g_X9_bad_refused refused else if (f_X9_in y.toInt64 (-31) 31) = 0 then g_X9_bad_refused refused else refused
def g_X9_rolls_aside (now : Nat → Int32) (aside : Nat → Int32) (t : Int32) (x : Int32) (y : Int32) : Nat → Int32 := if (f_X9_isPicture t) = 0 then aside else if (f_X9_in x.toInt64 (-31) 31) = 0 then aside else if (f_X9_in y.toInt64 (-31) 31) = 0 then aside else g_X9_copies_aside now aside
set_option maxRecDepth 100000 in
theorem c_X9_rolls {l : Launch} {G : zG} {da dn dp dr ds dl dc dt dg : Nat} {now : Nat → Int32} {past : Nat → Int32} {states : Int32} {refused : Nat → Int32} {aside : Nat → Int32} {pile : Nat → Int32} {came : Nat → Int32} {pileL : Int32} {text : Nat → Int32} {textL : Int32} {place : Int32} {nargs : Nat → Int32} {t : Int32} {x : Int32} {y : Int32} (hq : qOk states) : Ct l G yX9_rolls cX9_rolls 7 (Option.some FieldType.int) 4 94 [.ref da, .int t, .int x, .int y] (wMd G da dn dp dr ds dl dc dt dg now past states refused aside pile came pileL text textL place nargs) (pI (f_X9_rolls now aside t x y) (wMd G da dn dp dr ds dl dc dt dg (g_X9_rolls_now now aside t x y) (g_X9_rolls_past now past states t x y) (g_X9_rolls_states states t x y) (g_X9_rolls_refused refused t x y) (g_X9_rolls_aside now aside t x y) pile came pileL text textL place nargs)) := by
  refine Ct.of (plainFor_of_name (by decide)) (Nat.le_of_ble_eq_true rfl) (pI.ad ad_Md) (fun X C E => ?_)
  show Z X G 7 0 0 _ 0 [(0, .ref da), (1, .int t), (2, .int x), (3, .int y)] []
  refine z_iload_n (pc := 0) C 1 dX9_rolls_0 rfl ?_
  refine z_callS (pc := 1) C (c_X9_isPicture) [] z00 mS_X9_isPicture q_871 dX9_rolls_1 rfl rfl rfl rfl (Nat.le_of_ble_eq_true rfl) (by decide) (pI.stay rfl ?_)
  refine z_if_eq (pc := 4) 35 C dX9_rolls_4 (by decide) (fun c_4 => ?_) (fun c_4 => ?_)
  · skip
    refine z_aload_n (pc := 35) C 0 dX9_rolls_35 rfl ?_
    refine z_bipush (pc := 36) (v := (-2)) C dX9_rolls_36 (by decide) ?_
    refine z_callV (pc := 38) C (c_X9_bad) [0, 1, 2, 3, 4, 5, 6, 7, 8] z00 mV_X9_bad q_883 dX9_rolls_38 rfl rfl rfl 0 rfl rfl rfl rfl (Nat.le_of_ble_eq_true rfl) (by decide) (pI.go (ws' := wMd G da dn dp dr ds dl dc dt dg now past states _ aside pile came pileL text textL place nargs) rfl ?_)
    exact z_iret (pc := 41) C E dX9_rolls_41 (pI.mk (by simp only [f_X9_rolls, if_pos c_4]) (by simp only [g_X9_rolls_now, g_X9_rolls_past, g_X9_rolls_states, g_X9_rolls_refused, g_X9_rolls_aside, if_pos c_4]))
  · skip
    refine z_iload_n (pc := 7) C 2 dX9_rolls_7 rfl ?_
    refine z_i2l (pc := 8) C dX9_rolls_8 ?_
    refine z_ldc2_w (pc := 9) C q_1062 dX9_rolls_9 ?_
    refine z_ldc2_w (pc := 12) C q_881 dX9_rolls_12 ?_
    refine z_callS (pc := 15) C (c_X9_in) [] z00 mS_X9_in q_875 dX9_rolls_15 rfl rfl rfl rfl (Nat.le_of_ble_eq_true rfl) (by decide) (pI.stay rfl ?_)
    refine z_if_eq (pc := 18) 35 C dX9_rolls_18 (by decide) (fun c_18 => ?_) (fun c_18 => ?_)
    · skip
      refine z_aload_n (pc := 35) C 0 dX9_rolls_35 rfl ?_
      refine z_bipush (pc := 36) (v := (-2)) C dX9_rolls_36 (by decide) ?_
      refine z_callV (pc := 38) C (c_X9_bad) [0, 1, 2, 3, 4, 5, 6, 7, 8] z00 mV_X9_bad q_883 dX9_rolls_38 rfl rfl rfl 0 rfl rfl rfl rfl (Nat.le_of_ble_eq_true rfl) (by decide) (pI.go (ws' := wMd G da dn dp dr ds dl dc dt dg now past states _ aside pile came pileL text textL place nargs) rfl ?_)
      exact z_iret (pc := 41) C E dX9_rolls_41 (pI.mk (by simp only [f_X9_rolls, if_neg c_4, if_pos c_18]) (by simp only [g_X9_rolls_now, g_X9_rolls_past, g_X9_rolls_states, g_X9_rolls_refused, g_X9_rolls_aside, if_neg c_4, if_pos c_18]))
    · skip
      refine z_iload_n (pc := 21) C 3 dX9_rolls_21 rfl ?_
      refine z_i2l (pc := 22) C dX9_rolls_22 ?_
      refine z_ldc2_w (pc := 23) C q_1062 dX9_rolls_23 ?_
      refine z_ldc2_w (pc := 26) C q_881 dX9_rolls_26 ?_
      refine z_callS (pc := 29) C (c_X9_in) [] z00 mS_X9_in q_875 dX9_rolls_29 rfl rfl rfl rfl (Nat.le_of_ble_eq_true rfl) (by decide) (pI.stay rfl ?_)
      refine z_if_ne (pc := 32) 42 C dX9_rolls_32 (by decide) (fun c_32 => ?_) (fun c_32 => ?_)
      · skip
        refine z_iconst (pc := 42) (v := 0) C dX9_rolls_42 (by decide) ?_
        refine z_istore (pc := 43) [(4, _), (0, _), (1, _), (2, _), (3, _)] C dX9_rolls_43 (by decide) rfl ?_
        refine z_aload_n (pc := 45) C 1 dX9_rolls_45 rfl ?_
        refine z_callV (pc := 46) C (c_X9_keep (by exact hq)) [0, 1, 2, 3, 4, 5, 6, 7, 8] z00 mV_X9_keep q_887 dX9_rolls_46 rfl rfl rfl 0 rfl rfl rfl rfl (Nat.le_of_ble_eq_true rfl) (by decide) (pV.go (ws' := wMd G da dn dp dr ds dl dc dt dg now _ _ refused aside pile came pileL text textL place nargs) rfl ?_)
        refine z_aload_n (pc := 49) C 1 dX9_rolls_49 rfl ?_
        refine z_aload_n (pc := 50) C 1 dX9_rolls_50 rfl ?_
        refine z_get (pc := 51) C 0 4 dX9_rolls_51 rfl rfl i_X9 (by decide) q_833 rfl ?_
        refine z_callV (pc := 54) C (c_X9_copies) [0, 1, 2, 3, 4, 5, 6, 7, 8] z00 mV_X9_copies q_962 dX9_rolls_54 rfl rfl rfl 0 rfl rfl rfl rfl (Nat.le_of_ble_eq_true rfl) (by decide) (pV.go (ws' := wMd G da dn dp dr ds dl dc dt dg now _ _ refused _ pile came pileL text textL place nargs) rfl ?_)
        refine z_iconst (pc := 57) (v := 0) C dX9_rolls_57 (by decide) ?_
        refine z_istore (pc := 58) [(5, _), (4, _), (0, _), (1, _), (2, _), (3, _)] C dX9_rolls_58 (by decide) rfl ?_
        refine z_lv (lv' := [(0, _), (1, _), (2, _), (3, _), (4, _), (5, _)]) [2, 3, 4, 5, 1, 0] rfl ?_
        refine z_loop (pc := 60) (e := 24) (fun i_60 => wMd G da dn dp dr ds dl dc dt dg ((s_X9_rolls_60 now aside t x y i_60).2) (g_X9_keep_past now past states) (g_X9_keep_states states) refused (g_X9_copies_aside now aside) pile came pileL text textL place nargs) (fun i_60 => [(0, .ref da), (1, .int t), (2, .int x), (3, .int y), (4, .int ((s_X9_rolls_60 now aside t x y i_60).1)), (5, .int (nI i_60))]) [] (fun i_60 hi_60 ih_60 => ?_) ?_ 0 (Nat.zero_le _)
        · show Z X G 7 0 0 (wMd G da dn dp dr ds dl dc dt dg ((s_X9_rolls_60 now aside t x y i_60).2) (g_X9_keep_past now past states) (g_X9_keep_states states) refused (g_X9_copies_aside now aside) pile came pileL text textL place nargs) 60 [(0, .ref da), (1, .int t), (2, .int x), (3, .int y), (4, .int ((s_X9_rolls_60 now aside t x y i_60).1)), (5, .int (nI i_60))] []
          generalize hz_60 : s_X9_rolls_60 now aside t x y i_60 = z_60
          refine z_iload (pc := 60) C 5 dX9_rolls_60 rfl ?_
          refine z_bipush (pc := 62) (v := 24) C dX9_rolls_62 (by decide) ?_
          refine z_icmp_ge (pc := 64) 128 C dX9_rolls_64 (by decide) (fun c_64 => ?_) (fun c_64 => ?_)
          · skip
            exact absurd c_64 (nI_ge (b := 24) (by omega) (by decide))
          · skip
            refine z_iconst (pc := 67) (v := 0) C dX9_rolls_67 (by decide) ?_
            refine z_istore (pc := 68) [(6, _), (0, _), (1, _), (2, _), (3, _), (4, _), (5, _)] C dX9_rolls_68 (by decide) rfl ?_
            refine z_lv (lv' := [(0, _), (1, _), (2, _), (3, _), (4, _), (5, _), (6, _)]) [1, 2, 3, 4, 5, 6, 0] rfl ?_
            refine z_loop (pc := 70) (e := 32) (fun i_70 => wMd G da dn dp dr ds dl dc dt dg ((s_X9_rolls_70 now aside t x y i_60 z_60 i_70).2) (g_X9_keep_past now past states) (g_X9_keep_states states) refused (g_X9_copies_aside now aside) pile came pileL text textL place nargs) (fun i_70 => [(0, .ref da), (1, .int t), (2, .int x), (3, .int y), (4, .int ((s_X9_rolls_70 now aside t x y i_60 z_60 i_70).1)), (5, .int (nI i_60)), (6, .int (nI i_70))]) [] (fun i_70 hi_70 ih_70 => ?_) ?_ 0 (Nat.zero_le _)
            · show Z X G 7 0 0 (wMd G da dn dp dr ds dl dc dt dg ((s_X9_rolls_70 now aside t x y i_60 z_60 i_70).2) (g_X9_keep_past now past states) (g_X9_keep_states states) refused (g_X9_copies_aside now aside) pile came pileL text textL place nargs) 70 [(0, .ref da), (1, .int t), (2, .int x), (3, .int y), (4, .int ((s_X9_rolls_70 now aside t x y i_60 z_60 i_70).1)), (5, .int (nI i_60)), (6, .int (nI i_70))] []
              generalize hz_70 : s_X9_rolls_70 now aside t x y i_60 z_60 i_70 = z_70
              refine z_iload (pc := 70) C 6 dX9_rolls_70 rfl ?_
              refine z_bipush (pc := 72) (v := 32) C dX9_rolls_72 (by decide) ?_
              refine z_icmp_ge (pc := 74) 122 C dX9_rolls_74 (by decide) (fun c_74 => ?_) (fun c_74 => ?_)
              · skip
                exact absurd c_74 (nI_ge (b := 32) (by omega) (by decide))
              · skip
                refine z_iload (pc := 77) C 4 dX9_rolls_77 rfl ?_
                refine z_aload_n (pc := 79) C 0 dX9_rolls_79 rfl ?_
                refine z_iload_n (pc := 80) C 1 dX9_rolls_80 rfl ?_
                refine z_iload (pc := 81) C 6 dX9_rolls_81 rfl ?_
                refine z_iload (pc := 83) C 5 dX9_rolls_83 rfl ?_
                refine z_aload_n (pc := 85) C 0 dX9_rolls_85 rfl ?_
                refine z_iload_n (pc := 86) C 1 dX9_rolls_86 rfl ?_
                refine z_iload (pc := 87) C 6 dX9_rolls_87 rfl ?_
                refine z_iload_n (pc := 89) C 2 dX9_rolls_89 rfl ?_
                refine z_isub (pc := 90) C dX9_rolls_90 ?_
                refine z_bipush (pc := 91) (v := 64) C dX9_rolls_91 (by decide) ?_
                refine z_iadd (pc := 93) C dX9_rolls_93 ?_
                refine z_bipush (pc := 94) (v := 32) C dX9_rolls_94 (by decide) ?_
                refine z_irem (pc := 96) C dX9_rolls_96 (by decide) ?_
                refine z_iload (pc := 97) C 5 dX9_rolls_97 rfl ?_
                refine z_iload_n (pc := 99) C 3 dX9_rolls_99 rfl ?_
                refine z_isub (pc := 100) C dX9_rolls_100 ?_
                refine z_bipush (pc := 101) (v := 48) C dX9_rolls_101 (by decide) ?_
                refine z_iadd (pc := 103) C dX9_rolls_103 ?_
                refine z_bipush (pc := 104) (v := 24) C dX9_rolls_104 (by decide) ?_
                refine z_irem (pc := 106) C dX9_rolls_106 (by decide) ?_
                refine z_callV (pc := 107) C (c_X9_asideAt (by exact (mP_ne c_4))) [0, 1, 2, 3, 4, 5, 6, 7, 8] z00 mV_X9_asideAt q_966 dX9_rolls_107 rfl rfl rfl 0 rfl rfl rfl rfl (Nat.le_of_ble_eq_true rfl) (by decide) (pI.stay rfl ?_)
                refine z_callV (pc := 110) C (c_X9_sets (by exact (mP_ne c_4)) (by exact (pY_n hi_60))) [0, 1, 2, 3, 4, 5, 6, 7, 8] z00 mV_X9_sets q_891 dX9_rolls_110 rfl rfl rfl 0 rfl rfl rfl rfl (Nat.le_of_ble_eq_true rfl) (by decide) (pI.go (ws' := wMd G da dn dp dr ds dl dc dt dg _ _ _ refused _ pile came pileL text textL place nargs) rfl ?_)
                refine z_iadd (pc := 113) C dX9_rolls_113 ?_
                refine z_istore (pc := 114) [(4, _), (0, _), (1, _), (2, _), (3, _), (5, _), (6, _)] C dX9_rolls_114 (by decide) rfl ?_
                refine z_iinc (pc := 116) (v := nI (i_70 + 1)) [(6, _), (4, _), (0, _), (1, _), (2, _), (3, _), (5, _)] C 6 dX9_rolls_116 rfl ((nI_succ _).symm) (by decide) rfl ?_
                refine z_goto (pc := 119) 70 C dX9_rolls_119 (by decide) ?_
                refine z_lv (lv' := [(0, _), (1, _), (2, _), (3, _), (4, _), (5, _), (6, _)]) [2, 3, 4, 5, 1, 6, 0] rfl ?_
                exact z_eq (by simp only [s_X9_rolls_70, hz_70, b_X9_rolls_70]) (by simp only [s_X9_rolls_70, hz_70, b_X9_rolls_70]) rfl ih_70
            · show Z X G 7 0 0 (wMd G da dn dp dr ds dl dc dt dg ((s_X9_rolls_70 now aside t x y i_60 z_60 32).2) (g_X9_keep_past now past states) (g_X9_keep_states states) refused (g_X9_copies_aside now aside) pile came pileL text textL place nargs) 70 [(0, .ref da), (1, .int t), (2, .int x), (3, .int y), (4, .int ((s_X9_rolls_70 now aside t x y i_60 z_60 32).1)), (5, .int (nI i_60)), (6, .int (nI 32))] []
              refine z_iload (pc := 70) C 6 dX9_rolls_70 rfl ?_
              refine z_bipush (pc := 72) (v := 32) C dX9_rolls_72 (by decide) ?_
              refine z_icmp_ge (pc := 74) 122 C dX9_rolls_74 (by decide) (fun c_74 => ?_) (fun c_74 => ?_)
              · skip
                refine z_iinc (pc := 122) (v := nI (i_60 + 1)) [(5, _), (0, _), (1, _), (2, _), (3, _), (4, _), (6, _)] C 5 dX9_rolls_122 rfl ((nI_succ _).symm) (by decide) rfl ?_
                refine z_goto (pc := 125) 60 C dX9_rolls_125 (by decide) ?_
                refine z_lv (lv' := [(0, _), (1, _), (2, _), (3, _), (4, _), (5, _)]) [1, 2, 3, 4, 5, 0] rfl ?_
                exact z_eq (by simp only [s_X9_rolls_60, hz_60, b_X9_rolls_60]) (by simp only [s_X9_rolls_60, hz_60, b_X9_rolls_60]) rfl ih_60
              · skip
                exact absurd (nI_le (Nat.le_refl 32) (by decide)) c_74
        · show Z X G 7 0 0 (wMd G da dn dp dr ds dl dc dt dg ((s_X9_rolls_60 now aside t x y 24).2) (g_X9_keep_past now past states) (g_X9_keep_states states) refused (g_X9_copies_aside now aside) pile came pileL text textL place nargs) 60 [(0, .ref da), (1, .int t), (2, .int x), (3, .int y), (4, .int ((s_X9_rolls_60 now aside t x y 24).1)), (5, .int (nI 24))] []
          refine z_iload (pc := 60) C 5 dX9_rolls_60 rfl ?_
          refine z_bipush (pc := 62) (v := 24) C dX9_rolls_62 (by decide) ?_
          refine z_icmp_ge (pc := 64) 128 C dX9_rolls_64 (by decide) (fun c_64 => ?_) (fun c_64 => ?_)
          · skip
            refine z_iload (pc := 128) C 4 dX9_rolls_128 rfl ?_
            exact z_iret (pc := 130) C E dX9_rolls_130 (pI.mk (by simp only [f_X9_rolls, if_neg c_4, if_neg c_18, if_neg c_32]) (by simp only [g_X9_rolls_now, g_X9_rolls_past, g_X9_rolls_states, g_X9_rolls_refused, g_X9_rolls_aside, if_neg c_4, if_neg c_18, if_neg c_32]))
          · skip
            exact absurd (nI_le (Nat.le_refl 24) (by decide)) c_64
      · skip
        refine z_aload_n (pc := 35) C 0 dX9_rolls_35 rfl ?_
        refine z_bipush (pc := 36) (v := (-2)) C dX9_rolls_36 (by decide) ?_
        refine z_callV (pc := 38) C (c_X9_bad) [0, 1, 2, 3, 4, 5, 6, 7, 8] z00 mV_X9_bad q_883 dX9_rolls_38 rfl rfl rfl 0 rfl rfl rfl rfl (Nat.le_of_ble_eq_true rfl) (by decide) (pI.go (ws' := wMd G da dn dp dr ds dl dc dt dg now past states _ aside pile came pileL text textL place nargs) rfl ?_)
        exact z_iret (pc := 41) C E dX9_rolls_41 (pI.mk (by simp only [f_X9_rolls, if_neg c_4, if_neg c_18, if_pos c_32]) (by simp only [g_X9_rolls_now, g_X9_rolls_past, g_X9_rolls_states, g_X9_rolls_refused, g_X9_rolls_aside, if_neg c_4, if_neg c_18, if_pos c_32]))

def f_X9_at (now : Nat → Int32) (t : Int32) (x : Int32) (y : Int32) : Int32 := if (f_X9_isPicture t) = 0 then f_X9_bad (-2) else f_X9_dotOf now t x y
def g_X9_at_refused (refused : Nat → Int32) (t : Int32) : Nat → Int32 := if (f_X9_isPicture t) = 0 then g_X9_bad_refused refused else refused
set_option maxRecDepth 100000 in
theorem c_X9_at {l : Launch} {G : zG} {da dn dp dr ds dl dc dt dg : Nat} {now : Nat → Int32} {past : Nat → Int32} {states : Int32} {refused : Nat → Int32} {aside : Nat → Int32} {pile : Nat → Int32} {came : Nat → Int32} {pileL : Int32} {text : Nat → Int32} {textL : Int32} {place : Int32} {nargs : Nat → Int32} {t : Int32} {x : Int32} {y : Int32} : Ct l G yX9_at cX9_at 4 (Option.some FieldType.int) 3 69 [.ref da, .int t, .int x, .int y] (wMd G da dn dp dr ds dl dc dt dg now past states refused aside pile came pileL text textL place nargs) (pI (f_X9_at now t x y) (wMd G da dn dp dr ds dl dc dt dg now past states (g_X9_at_refused refused t) aside pile came pileL text textL place nargs)) := by
  refine Ct.of (plainFor_of_name (by decide)) (Nat.le_of_ble_eq_true rfl) (pI.ad ad_Md) (fun X C E => ?_)
  show Z X G 4 0 0 _ 0 [(0, .ref da), (1, .int t), (2, .int x), (3, .int y)] []
  refine z_iload_n (pc := 0) C 1 dX9_at_0 rfl ?_
  refine z_callS (pc := 1) C (c_X9_isPicture) [] z00 mS_X9_isPicture q_871 dX9_at_1 rfl rfl rfl rfl (Nat.le_of_ble_eq_true rfl) (by decide) (pI.stay rfl ?_)
  refine z_if_eq (pc := 4) 17 C dX9_at_4 (by decide) (fun c_4 => ?_) (fun c_4 => ?_)
  · skip
    refine z_aload_n (pc := 17) C 0 dX9_at_17 rfl ?_
    refine z_bipush (pc := 18) (v := (-2)) C dX9_at_18 (by decide) ?_
    refine z_callV (pc := 20) C (c_X9_bad) [0, 1, 2, 3, 4, 5, 6, 7, 8] z00 mV_X9_bad q_883 dX9_at_20 rfl rfl rfl 0 rfl rfl rfl rfl (Nat.le_of_ble_eq_true rfl) (by decide) (pI.go (ws' := wMd G da dn dp dr ds dl dc dt dg now past states _ aside pile came pileL text textL place nargs) rfl ?_)
    exact z_iret (pc := 23) C E dX9_at_23 (pI.mk (by simp only [f_X9_at, if_pos c_4]) (by simp only [g_X9_at_refused, if_pos c_4]))
  · skip
    refine z_aload_n (pc := 7) C 0 dX9_at_7 rfl ?_
    refine z_iload_n (pc := 8) C 1 dX9_at_8 rfl ?_
    refine z_iload_n (pc := 9) C 2 dX9_at_9 rfl ?_
    refine z_iload_n (pc := 10) C 3 dX9_at_10 rfl ?_
    refine z_callV (pc := 11) C (c_X9_dotOf (by exact (mP_ne c_4))) [0, 1, 2, 3, 4, 5, 6, 7, 8] z00 mV_X9_dotOf q_895 dX9_at_11 rfl rfl rfl 0 rfl rfl rfl rfl (Nat.le_of_ble_eq_true rfl) (by decide) (pI.stay rfl ?_)
    refine z_goto (pc := 14) 23 C dX9_at_14 (by decide) ?_
    exact z_iret (pc := 23) C E dX9_at_23 (pI.mk (by simp only [f_X9_at, if_neg c_4]) (by simp only [g_X9_at_refused, if_neg c_4]))

def f_X9_row (now : Nat → Int32) (t : Int32) (y : Int32) : Int32 := if (f_X9_isPicture t) = 0 then f_X9_bad 0 else if (f_X9_in y.toInt64 0 23) = 0 then f_X9_bad 0 else now ((24 * t) + y).toNatClampNeg
def g_X9_row_refused (refused : Nat → Int32) (t : Int32) (y : Int32) : Nat → Int32 := if (f_X9_isPicture t) = 0 then g_X9_bad_refused refused else if (f_X9_in y.toInt64 0 23) = 0 then g_X9_bad_refused refused else refused
theorem mY_ne {y : Int32} (h : ¬ f_X9_in y.toInt64 0 23 = 0) : pY y := by
  have a := mIn_ne h
  rw [Int32.toInt_toInt64] at a
  exact a
set_option maxRecDepth 100000 in
theorem c_X9_row {l : Launch} {G : zG} {da dn dp dr ds dl dc dt dg : Nat} {now : Nat → Int32} {past : Nat → Int32} {states : Int32} {refused : Nat → Int32} {aside : Nat → Int32} {pile : Nat → Int32} {came : Nat → Int32} {pileL : Int32} {text : Nat → Int32} {textL : Int32} {place : Int32} {nargs : Nat → Int32} {t : Int32} {y : Int32} : Ct l G yX9_row cX9_row 3 (Option.some FieldType.int) 2 45 [.ref da, .int t, .int y] (wMd G da dn dp dr ds dl dc dt dg now past states refused aside pile came pileL text textL place nargs) (pI (f_X9_row now t y) (wMd G da dn dp dr ds dl dc dt dg now past states (g_X9_row_refused refused t y) aside pile came pileL text textL place nargs)) := by
  refine Ct.of (plainFor_of_name (by decide)) (Nat.le_of_ble_eq_true rfl) (pI.ad ad_Md) (fun X C E => ?_)
  show Z X G 3 0 0 _ 0 [(0, .ref da), (1, .int t), (2, .int y)] []
  refine z_iload_n (pc := 0) C 1 dX9_row_0 rfl ?_
  refine z_callS (pc := 1) C (c_X9_isPicture) [] z00 mS_X9_isPicture q_871 dX9_row_1 rfl rfl rfl rfl (Nat.le_of_ble_eq_true rfl) (by decide) (pI.stay rfl ?_)
  refine z_if_eq (pc := 4) 33 C dX9_row_4 (by decide) (fun c_4 => ?_) (fun c_4 => ?_)
  · skip
    refine z_aload_n (pc := 33) C 0 dX9_row_33 rfl ?_
    refine z_iconst (pc := 34) (v := 0) C dX9_row_34 (by decide) ?_
    refine z_callV (pc := 35) C (c_X9_bad) [0, 1, 2, 3, 4, 5, 6, 7, 8] z00 mV_X9_bad q_883 dX9_row_35 rfl rfl rfl 0 rfl rfl rfl rfl (Nat.le_of_ble_eq_true rfl) (by decide) (pI.go (ws' := wMd G da dn dp dr ds dl dc dt dg now past states _ aside pile came pileL text textL place nargs) rfl ?_)
    exact z_iret (pc := 38) C E dX9_row_38 (pI.mk (by simp only [f_X9_row, if_pos c_4]) (by simp only [g_X9_row_refused, if_pos c_4]))
  · skip
    refine z_iload_n (pc := 7) C 2 dX9_row_7 rfl ?_
    refine z_i2l (pc := 8) C dX9_row_8 ?_
    refine z_lconst (pc := 9) (v := 0) C dX9_row_9 (by decide) ?_
    refine z_ldc2_w (pc := 10) C q_882 dX9_row_10 ?_
    refine z_callS (pc := 13) C (c_X9_in) [] z00 mS_X9_in q_875 dX9_row_13 rfl rfl rfl rfl (Nat.le_of_ble_eq_true rfl) (by decide) (pI.stay rfl ?_)
    refine z_if_eq (pc := 16) 33 C dX9_row_16 (by decide) (fun c_16 => ?_) (fun c_16 => ?_)
    · skip
      refine z_aload_n (pc := 33) C 0 dX9_row_33 rfl ?_
      refine z_iconst (pc := 34) (v := 0) C dX9_row_34 (by decide) ?_
      refine z_callV (pc := 35) C (c_X9_bad) [0, 1, 2, 3, 4, 5, 6, 7, 8] z00 mV_X9_bad q_883 dX9_row_35 rfl rfl rfl 0 rfl rfl rfl rfl (Nat.le_of_ble_eq_true rfl) (by decide) (pI.go (ws' := wMd G da dn dp dr ds dl dc dt dg now past states _ aside pile came pileL text textL place nargs) rfl ?_)
      exact z_iret (pc := 38) C E dX9_row_38 (pI.mk (by simp only [f_X9_row, if_neg c_4, if_pos c_16]) (by simp only [g_X9_row_refused, if_neg c_4, if_pos c_16]))
    · skip
      refine z_aload_n (pc := 19) C 0 dX9_row_19 rfl ?_
      refine z_get (pc := 20) C 0 0 dX9_row_20 rfl rfl i_X9 (by decide) q_829 rfl ?_
      refine z_bipush (pc := 23) (v := 24) C dX9_row_23 (by decide) ?_
      refine z_iload_n (pc := 25) C 1 dX9_row_25 rfl ?_
      refine z_imul (pc := 26) C dX9_row_26 ?_
      refine z_iload_n (pc := 27) C 2 dX9_row_27 rfl ?_
      refine z_iadd (pc := 28) C dX9_row_28 ?_
      refine z_iald (pc := 29) C 1 dX9_row_29 rfl (ix_ty (by decide) (mP_ne c_4) (mY_ne c_16)) ?_
      refine z_goto (pc := 30) 38 C dX9_row_30 (by decide) ?_
      exact z_iret (pc := 38) C E dX9_row_38 (pI.mk (by simp only [f_X9_row, if_neg c_4, if_neg c_16]) (by simp only [g_X9_row_refused, if_neg c_4, if_neg c_16]))
