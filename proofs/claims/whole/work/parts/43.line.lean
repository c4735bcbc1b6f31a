theorem ediv_u {a b q r : Int} (h : a = b * q + r) (h0 : 0 ≤ r) (h1 : r < b) : a / b = q := by
  rw [h, Int.add_comm, Int.add_mul_ediv_left _ _ (by omega), Int.ediv_eq_zero_of_lt h0 h1, Int.zero_add]
theorem dv_t {a b : Int32} (hb : 0 < b.toInt) : (a / b).toInt = a.toInt.tdiv b.toInt := Int32.toInt_div_of_ne_right a b (fun e => by rw [e] at hb; revert hb; decide)
theorem tdm {a b : Int} (hb : 0 < b) : a = b * a.tdiv b + a.tmod b ∧ a.tmod b < b ∧ -b < a.tmod b ∧ (0 ≤ a → 0 ≤ a.tmod b) ∧ (a ≤ 0 → a.tmod b ≤ 0) := by
  refine ⟨(Int.mul_tdiv_add_tmod a b).symm, Int.tmod_lt_of_pos a hb, ?_, fun h => Int.tmod_nonneg b h, fun h => ?_⟩
  · have h1 : (-a).tmod b < b := Int.tmod_lt_of_pos (-a) hb
    rw [Int.neg_tmod] at h1
    omega
  · have h1 : 0 ≤ (-a).tmod b := Int.tmod_nonneg b (by omega)
    rw [Int.neg_tmod] at h1
    omega
theorem rem_t {a b : Int32} (hb : 0 < b.toInt) : ((a / b) * b).toInt = a.toInt - a.toInt.tmod b.toInt ∧ (a - a / b * b).toInt = a.toInt.tmod b.toInt := by
  have h := tdm (a := a.toInt) hb
  have h1 := Int32.toInt_lt a
  have h2 := Int32.le_toInt a
  have e : a.toInt.tdiv b.toInt * b.toInt = a.toInt - a.toInt.tmod b.toInt := by
    have := h.1
    rw [Int.mul_comm] at this
    omega
  have b1 : -2147483648 ≤ a.toInt - a.toInt.tmod b.toInt ∧ a.toInt - a.toInt.tmod b.toInt < 2147483648 := by
    rcases Int.le_total 0 a.toInt with z | z
    · have := h.2.2.2.1 z
      have h3 : 0 ≤ b.toInt * a.toInt.tdiv b.toInt := Int.mul_nonneg (by omega) (Int.tdiv_nonneg z (by omega))
      have h4 := h.1
      omega
    · have := h.2.2.2.2 z
      have h3 : 0 ≤ b.toInt * (-a.toInt).tdiv b.toInt := Int.mul_nonneg (by omega) (Int.tdiv_nonneg (by omega) (by omega))
      rw [Int.neg_tdiv, Int.mul_neg] at h3
      have h4 := h.1
      omega
  have e1 : ((a / b) * b).toInt = a.toInt - a.toInt.tmod b.toInt := tI_mul (by rw [dv_t hb]; exact e) b1.1 b1.2
  refine ⟨e1, ?_⟩
  have h6 := Int32.toInt_lt b
  rw [tI_sub (by rw [e1]; omega) (by rw [e1]; omega), e1]
  omega
theorem by_t {a b : Int32} (hb : 0 < b.toInt) (ha : -1000000 ≤ a.toInt ∧ a.toInt ≤ 1000000) : (f_X9_by a b).toInt = a.toInt / b.toInt := by
  obtain ⟨h1, h2, h3, h4, h5⟩ := tdm (a := a.toInt) hb
  have e0 : (0 : Int32).toInt = 0 := rfl
  have er := (rem_t (a := a) hb).2
  unfold f_X9_by
  by_cases q : ¬ 0 ≤ a - a / b * b
  · have q' : a.toInt.tmod b.toInt < 0 := by
      have : ¬ 0 ≤ a.toInt.tmod b.toInt := fun z => q (Int32.le_iff_toInt_le.mpr (by rw [er, e0]; exact z))
      omega
    rw [if_neg q]
    have i1 : (1 : Int32).toInt = 1 := rfl
    have hq : -1000000 ≤ a.toInt.tdiv b.toInt ∧ a.toInt.tdiv b.toInt ≤ 0 := by
      have hn : a.toInt ≤ 0 := by
        rcases Int.le_total 0 a.toInt with z | z
        · have := h4 z; omega
        · exact z
      have d1 : 0 ≤ (-a.toInt).tdiv b.toInt := Int.tdiv_nonneg (by omega) (by omega)
      have d2 : (-a.toInt).tdiv b.toInt ≤ -a.toInt := Int.tdiv_le_self _ (by omega)
      rw [Int.neg_tdiv] at d1 d2
      omega
    rw [tI_sub (by rw [dv_t hb]; omega) (by rw [dv_t hb]; omega), dv_t hb, i1]
    symm
    refine ediv_u (r := a.toInt.tmod b.toInt + b.toInt) ?_ (by omega) (by omega)
    rw [Int.mul_sub, Int.mul_one]
    omega
  · have q1 : 0 ≤ a - a / b * b := Decidable.not_not.mp q
    have q' := Int32.le_iff_toInt_le.mp q1
    rw [er, e0] at q'
    rw [if_pos q1, dv_t hb]
    symm
    exact ediv_u h1 (by omega) h2
theorem ge_bt (z : Int32) : 0 ≤ z.toInt ↔ bt z 31 = false := by
  show 0 ≤ z.toBitVec.toInt ↔ z.toBitVec.getLsbD 31 = false
  have h : z.toBitVec.msb = decide (z.toBitVec.toInt < 0) := BitVec.msb_eq_toInt
  rw [BitVec.msb_eq_getLsbD_last] at h
  rw [show (31 : Nat) = 32 - 1 from rfl, h, decide_eq_false_iff_not]
  omega
theorem xor_ge {a b : Int32} (hb : 0 < b.toInt) : 0 ≤ (a ^^^ b) ↔ 0 ≤ a.toInt := by
  have e0 : (0 : Int32).toInt = 0 := rfl
  have hb' : bt b 31 = false := (ge_bt b).mp (by omega)
  rw [Int32.le_iff_toInt_le, e0, ge_bt, ge_bt, b_xor, hb', Bool.xor_false]
theorem fd_t {a b : Int32} (hb : 0 < b.toInt) (ha : -1000000 ≤ a.toInt ∧ a.toInt ≤ 1000000) : (f_J9_floorDiv_7cf53 a b).toInt = a.toInt / b.toInt := by
  obtain ⟨h1, h2, h3, h4, h5⟩ := tdm (a := a.toInt) hb
  have er := (rem_t (a := a) hb).1
  unfold f_J9_floorDiv_7cf53
  by_cases q : 0 ≤ a ^^^ b
  · rw [if_pos q, dv_t hb]
    symm
    exact ediv_u h1 (h4 ((xor_ge hb).mp q)) h2
  · rw [if_neg q]
    have q' : ¬ 0 ≤ a.toInt := fun z => q ((xor_ge hb).mpr z)
    by_cases q2 : a / b * b = a
    · rw [if_pos q2, dv_t hb]
      rw [q2] at er
      symm
      exact ediv_u h1 (by omega) h2
    · rw [if_neg q2]
      have hne : ¬ a.toInt.tmod b.toInt = 0 := fun z => q2 (by rw [← Int32.toInt_inj, er, z]; omega)
      have i1 : (1 : Int32).toInt = 1 := rfl
      have hq : -1000000 ≤ a.toInt.tdiv b.toInt ∧ a.toInt.tdiv b.toInt ≤ 0 := by
        have d1 : 0 ≤ (-a.toInt).tdiv b.toInt := Int.tdiv_nonneg (by omega) (by omega)
        have d2 : (-a.toInt).tdiv b.toInt ≤ -a.toInt := Int.tdiv_le_self _ (by omega)
        rw [Int.neg_tdiv] at d1 d2
        omega
      rw [tI_sub (by rw [dv_t hb]; omega) (by rw [dv_t hb]; omega), dv_t hb, i1]
      symm
      have h6 := h5 (by omega)
      refine ediv_u (r := a.toInt.tmod b.toInt + b.toInt) ?_ (by omega) (by omega)
      rw [Int.mul_sub, Int.mul_one]
      omega

theorem sz_t {v : Int32} (h : -1000 ≤ v.toInt ∧ v.toInt ≤ 1000) : (f_X9_size v).toInt = if 0 ≤ v.toInt then v.toInt else -v.toInt := by
  have e0 : (0 : Int32).toInt = 0 := rfl
  unfold f_X9_size
  by_cases q : 0 ≤ v
  · have q' := Int32.le_iff_toInt_le.mp q
    rw [if_pos q, if_pos (by omega)]
  · have q' : ¬ 0 ≤ v.toInt := fun z => q (Int32.le_iff_toInt_le.mpr (by rw [e0]; exact z))
    rw [if_neg q, if_neg q', show (-v) = 0 - v by rw [Int32.zero_sub], tI_sub (by omega) (by omega)]
    omega
theorem neg_t {v : Int32} (h : -1000 ≤ v.toInt ∧ v.toInt ≤ 1000) : (-v).toInt = -v.toInt := by
  have e0 : (0 : Int32).toInt = 0 := rfl
  rw [show (-v) = 0 - v by rw [Int32.zero_sub], tI_sub (by omega) (by omega)]
  omega
/-- how long a line is -/
def lnN (x0 y0 x1 y1 : Int32) : Int32 := f_J9_max_7cf53 (f_J9_abs_0f7a4 (x1 - x0)) (f_J9_abs_0f7a4 (y1 - y0))
theorem ln_num {d N : Int32} {i : Nat} (hd : -127 ≤ d.toInt ∧ d.toInt ≤ 127) (hN : 0 < N.toInt ∧ N.toInt ≤ 127) (hi : (i : Int) ≤ N.toInt) : (((d * 2) * nI i) + N).toInt = d.toInt * 2 * i + N.toInt ∧ (2 * N).toInt = 2 * N.toInt ∧ -1000000 ≤ d.toInt * 2 * i + N.toInt ∧ d.toInt * 2 * i + N.toInt ≤ 1000000 := by
  have i2 : (2 : Int32).toInt = 2 := rfl
  have ei : (nI i).toInt = i := nI_toInt (by omega)
  have b1 : d.toInt * 2 * i ≤ 127 * 2 * 127 := by
    rcases Int.le_total 0 d.toInt with z | z
    · exact Int.mul_le_mul (by omega) (by omega) (by omega) (by omega)
    · have : d.toInt * 2 * i ≤ 0 := Int.mul_nonpos_of_nonpos_of_nonneg (by omega) (by omega)
      omega
  have b2 : -(127 * 2 * 127) ≤ d.toInt * 2 * i := by
    rcases Int.le_total 0 d.toInt with z | z
    · have : 0 ≤ d.toInt * 2 * i := Int.mul_nonneg (by omega) (by omega)
      omega
    · have : (-d.toInt) * 2 * i ≤ 127 * 2 * 127 := Int.mul_le_mul (by omega) (by omega) (by omega) (by omega)
      rw [Int.neg_mul, Int.neg_mul] at this
      omega
  have e1 : (d * 2).toInt = d.toInt * 2 := tI_mul (by rw [i2]) (by omega) (by omega)
  have e2 : ((d * 2) * nI i).toInt = d.toInt * 2 * i := tI_mul (by rw [e1, ei]) (by omega) (by omega)
  refine ⟨?_, tI_mul (by rw [i2]) (by omega) (by omega), by omega, by omega⟩
  rw [tI_add (by rw [e2]; omega) (by rw [e2]; omega), e2]
theorem bw_t {v0 v1 N : Int32} {i : Nat} (h0 : pX v0) (h1 : pX v1) (hN : 0 < N.toInt ∧ N.toInt ≤ 127) (hi : (i : Int) ≤ N.toInt) : f_X3_between v0 v1 (nI i) N = v0 + f_X9_by ((((v1 - v0) * 2) * nI i) + N) (2 * N) := by
  obtain ⟨a1, a2⟩ := h0
  obtain ⟨b1, b2⟩ := h1
  have ed : (v1 - v0).toInt = v1.toInt - v0.toInt := tI_sub (by omega) (by omega)
  obtain ⟨n1, n2, n3, n4⟩ := ln_num (d := v1 - v0) (N := N) (i := i) (by omega) hN hi
  unfold f_X3_between
  rw [if_pos (Int32.lt_iff_toInt_lt.mpr (by show (0 : Int) < N.toInt; exact hN.1))]
  congr 1
  rw [← Int32.toInt_inj, fd_t (by omega) (by omega), by_t (by omega) (by omega)]
theorem far_t {v0 v1 N : Int32} {i : Nat} (h0 : pX v0) (h1 : pX v1) (hN : 0 < N.toInt ∧ N.toInt ≤ 127) (hi : (i : Int) ≤ N.toInt) (hd : (v1 - v0).toInt = N.toInt ∨ (v1 - v0).toInt = -N.toInt) : f_X9_by ((((v1 - v0) * 2) * nI i) + N) (2 * N) = (if 0 ≤ (v1 - v0) then (nI i) else (-(nI i))) := by
  have e0 : (0 : Int32).toInt = 0 := rfl
  have ei : (nI i).toInt = i := nI_toInt (by omega)
  obtain ⟨n1, n2, n3, n4⟩ := ln_num (d := v1 - v0) (N := N) (i := i) (by omega) hN hi
  rw [← Int32.toInt_inj, by_t (by omega) (by omega), n1, n2]
  rcases hd with hd | hd
  · rw [if_pos (Int32.le_iff_toInt_le.mpr (by rw [e0]; omega)), ei, hd]
    refine ediv_u (r := N.toInt) ?_ (by omega) (by omega)
    rw [Int.mul_comm N.toInt 2]
  · rw [if_neg (fun z => by have := Int32.le_iff_toInt_le.mp z; omega), neg_t (by omega), ei, hd]
    refine ediv_u (r := N.toInt) ?_ (by omega) (by omega)
    rw [Int.neg_mul, Int.neg_mul, Int.mul_comm N.toInt 2, Int.mul_neg]
theorem lnN_t {x0 y0 x1 y1 : Int32} (hx0 : pX x0) (hy0 : pX y0) (hx1 : pX x1) (hy1 : pX y1) : (lnN x0 y0 x1 y1).toInt = max (f_X9_size (x1 - x0)).toInt (f_X9_size (y1 - y0)).toInt ∧ 0 ≤ (lnN x0 y0 x1 y1).toInt ∧ (lnN x0 y0 x1 y1).toInt ≤ 127 := by
  have a := size_ok hx0 hx1
  have b := size_ok hy0 hy1
  have e : (lnN x0 y0 x1 y1).toInt = max (f_X9_size (x1 - x0)).toInt (f_X9_size (y1 - y0)).toInt := mx_t _ _
  have := a.1
  have := a.2
  have := b.1
  have := b.2
  omega

theorem ln_xy {x0 y0 x1 y1 : Int32} {i : Nat} (hx0 : pX x0) (hy0 : pX y0) (hx1 : pX x1) (hy1 : pX y1) (hi : (i : Int) ≤ (lnN x0 y0 x1 y1).toInt) :
    (x0 + (if (if (f_X9_size (x1 - x0)) < (f_X9_size (y1 - y0)) then 0 else 1 : Int32) = 0 then (if (if (if (f_X9_size (x1 - x0)) < (f_X9_size (y1 - y0)) then 0 else 1 : Int32) = 0 then (f_X9_size (y1 - y0)) else (f_X9_size (x1 - x0)) : Int32) = 0 then 0 else (f_X9_by ((((if (if (f_X9_size (x1 - x0)) < (f_X9_size (y1 - y0)) then 0 else 1 : Int32) = 0 then (x1 - x0) else (y1 - y0) : Int32) * 2) * (nI i)) + (if (if (f_X9_size (x1 - x0)) < (f_X9_size (y1 - y0)) then 0 else 1 : Int32) = 0 then (f_X9_size (y1 - y0)) else (f_X9_size (x1 - x0)) : Int32)) (2 * (if (if (f_X9_size (x1 - x0)) < (f_X9_size (y1 - y0)) then 0 else 1 : Int32) = 0 then (f_X9_size (y1 - y0)) else (f_X9_size (x1 - x0)) : Int32))) : Int32) else (if (if (f_X9_size (x1 - x0)) < (f_X9_size (y1 - y0)) then 0 else 1 : Int32) = 0 then if 0 ≤ (y1 - y0) then (nI i) else (-(nI i)) else if 0 ≤ (x1 - x0) then (nI i) else (-(nI i)) : Int32) : Int32)) = f_X3_between x0 x1 (nI i) (lnN x0 y0 x1 y1) ∧ (y0 + (if (if (f_X9_size (x1 - x0)) < (f_X9_size (y1 - y0)) then 0 else 1 : Int32) = 0 then (if (if (f_X9_size (x1 - x0)) < (f_X9_size (y1 - y0)) then 0 else 1 : Int32) = 0 then if 0 ≤ (y1 - y0) then (nI i) else (-(nI i)) else if 0 ≤ (x1 - x0) then (nI i) else (-(nI i)) : Int32) else (if (if (if (f_X9_size (x1 - x0)) < (f_X9_size (y1 - y0)) then 0 else 1 : Int32) = 0 then (f_X9_size (y1 - y0)) else (f_X9_size (x1 - x0)) : Int32) = 0 then 0 else (f_X9_by ((((if (if (f_X9_size (x1 - x0)) < (f_X9_size (y1 - y0)) then 0 else 1 : Int32) = 0 then (x1 - x0) else (y1 - y0) : Int32) * 2) * (nI i)) + (if (if (f_X9_size (x1 - x0)) < (f_X9_size (y1 - y0)) then 0 else 1 : Int32) = 0 then (f_X9_size (y1 - y0)) else (f_X9_size (x1 - x0)) : Int32)) (2 * (if (if (f_X9_size (x1 - x0)) < (f_X9_size (y1 - y0)) then 0 else 1 : Int32) = 0 then (f_X9_size (y1 - y0)) else (f_X9_size (x1 - x0)) : Int32))) : Int32) : Int32)) = f_X3_between y0 y1 (nI i) (lnN x0 y0 x1 y1) := by
  obtain ⟨m1, m2, m3⟩ := lnN_t hx0 hy0 hx1 hy1
  have bx := hx0
  have by0 := hy0
  have bx1 := hx1
  have by1 := hy1
  obtain ⟨a1, a2⟩ := bx
  obtain ⟨a3, a4⟩ := by0
  obtain ⟨a5, a6⟩ := bx1
  obtain ⟨a7, a8⟩ := by1
  have e0 : (0 : Int32).toInt = 0 := rfl
  have edx : (x1 - x0).toInt = x1.toInt - x0.toInt := tI_sub (by omega) (by omega)
  have edy : (y1 - y0).toInt = y1.toInt - y0.toInt := tI_sub (by omega) (by omega)
  have sx := sz_t (v := x1 - x0) (by omega)
  have sy := sz_t (v := y1 - y0) (by omega)
  generalize hN : lnN x0 y0 x1 y1 = N at m1 m2 m3 hi ⊢
  by_cases q : f_X9_size (x1 - x0) < f_X9_size (y1 - y0)
  · have q' := Int32.lt_iff_toInt_lt.mp q
    have eN : f_X9_size (y1 - y0) = N := Int32.toInt_inj.mp (by omega)
    simp only [if_pos q, if_true]
    simp only [eN]
    have hNp : 0 < N.toInt := by
      have : 0 ≤ (f_X9_size (x1 - x0)).toInt := by rw [sx]; split <;> omega
      omega
    have hN0 : ¬ N = 0 := fun z => by rw [z] at hNp; omega
    rw [if_neg hN0, bw_t hx0 hx1 ⟨hNp, m3⟩ hi, bw_t hy0 hy1 ⟨hNp, m3⟩ hi, far_t hy0 hy1 ⟨hNp, m3⟩ hi (by rw [← eN, sy]; split <;> omega)]
    exact ⟨rfl, rfl⟩
  · have q' : ¬ (f_X9_size (x1 - x0)).toInt < (f_X9_size (y1 - y0)).toInt := fun z => q (Int32.lt_iff_toInt_lt.mpr z)
    have eN : f_X9_size (x1 - x0) = N := Int32.toInt_inj.mp (by omega)
    simp only [if_neg q, i10]
    simp only [eN]
    by_cases hN0 : N = 0
    · have hz : N.toInt = 0 := by rw [hN0]; rfl
      have i0 : i = 0 := by omega
      subst i0
      have nl : ¬ 0 < N := fun z => by have := Int32.lt_iff_toInt_lt.mp z; omega
      unfold f_X3_between
      rw [if_pos hN0, if_neg nl, if_neg nl, Int32.add_zero]
      refine ⟨?_, rfl⟩
      have : (if 0 ≤ x1 - x0 then nI 0 else -nI 0 : Int32) = 0 := by split <;> decide
      rw [this, Int32.add_zero]
    · have hNp : 0 < N.toInt := by
        have : ¬ N.toInt = 0 := fun z => hN0 (Int32.toInt_inj.mp z)
        omega
      rw [if_neg hN0, bw_t hx0 hx1 ⟨hNp, m3⟩ hi, bw_t hy0 hy1 ⟨hNp, m3⟩ hi, far_t hx0 hx1 ⟨hNp, m3⟩ hi (by rw [← eN, sx]; split <;> omega)]
      exact ⟨rfl, rfl⟩

theorem ln_cnt {x0 y0 x1 y1 : Int32} (hx0 : pX x0) (hy0 : pX y0) (hx1 : pX x1) (hy1 : pX y1) : (if (if (f_X9_size (x1 - x0)) < (f_X9_size (y1 - y0)) then 0 else 1 : Int32) = 0 then (f_X9_size (y1 - y0)) else (f_X9_size (x1 - x0)) : Int32) = lnN x0 y0 x1 y1 := by
  obtain ⟨m1, m2, m3⟩ := lnN_t hx0 hy0 hx1 hy1
  by_cases q : f_X9_size (x1 - x0) < f_X9_size (y1 - y0)
  · have q' := Int32.lt_iff_toInt_lt.mp q
    rw [if_pos q, i00]
    exact Int32.toInt_inj.mp (by omega)
  · have q' : ¬ (f_X9_size (x1 - x0)).toInt < (f_X9_size (y1 - y0)).toInt := fun z => q (Int32.lt_iff_toInt_lt.mpr z)
    rw [if_neg q, i10]
    exact Int32.toInt_inj.mp (by omega)
theorem bw_b {v0 v1 N : Int32} {i : Nat} (h0 : pX v0) (h1 : pX v1) (hN : 0 ≤ N.toInt ∧ N.toInt ≤ 127) (hi : (i : Int) ≤ N.toInt) : -1000 ≤ (f_X3_between v0 v1 (nI i) N).toInt ∧ (f_X3_between v0 v1 (nI i) N).toInt ≤ 900 := by
  obtain ⟨a1, a2⟩ := h0
  obtain ⟨b1, b2⟩ := h1
  have e0 : (0 : Int32).toInt = 0 := rfl
  by_cases q : 0 < N.toInt
  · have ed : (v1 - v0).toInt = v1.toInt - v0.toInt := tI_sub (by omega) (by omega)
    obtain ⟨n1, n2, n3, n4⟩ := ln_num (d := v1 - v0) (N := N) (i := i) (by omega) ⟨q, hN.2⟩ hi
    have hb := by_t (a := (((v1 - v0) * 2) * nI i) + N) (b := 2 * N) (by omega) (by omega)
    rw [n1, n2] at hb
    have k1 : ((v1 - v0).toInt * 2 * i + N.toInt) / (2 * N.toInt) ≤ 128 := by
      have : ((v1 - v0).toInt * 2 * i + N.toInt) / (2 * N.toInt) < 129 := by
        refine Int.ediv_lt_of_lt_mul (by omega) ?_
        have : (v1 - v0).toInt * 2 * i ≤ 127 * 2 * N.toInt := by
          rcases Int.le_total 0 (v1 - v0).toInt with z | z
          · exact Int.mul_le_mul (by omega) (by omega) (by omega) (by omega)
          · have : (v1 - v0).toInt * 2 * i ≤ 0 := Int.mul_nonpos_of_nonpos_of_nonneg (by omega) (by omega)
            omega
        omega
      omega
    have k2 : -128 ≤ ((v1 - v0).toInt * 2 * i + N.toInt) / (2 * N.toInt) := by
      refine Int.le_ediv_of_mul_le (by omega) ?_
      have : (-(v1 - v0).toInt) * 2 * i ≤ 127 * 2 * N.toInt := by
        rcases Int.le_total 0 (v1 - v0).toInt with z | z
        · have : (-(v1 - v0).toInt) * 2 * i ≤ 0 := Int.mul_nonpos_of_nonpos_of_nonneg (by omega) (by omega)
          omega
        · exact Int.mul_le_mul (by omega) (by omega) (by omega) (by omega)
      rw [Int.neg_mul, Int.neg_mul] at this
      omega
    rw [bw_t ⟨a1, a2⟩ ⟨b1, b2⟩ ⟨q, hN.2⟩ hi, tI_add (by omega) (by omega)]
    omega
  · unfold f_X3_between
    rw [if_neg (fun z => by have := Int32.lt_iff_toInt_lt.mp z; omega)]
    omega
theorem li_core {rows pat ops nums now : Nat → Int32} {cnt osz a0 a1 a2 a3 a4 a5 : Int32} (h : Rs rows pat ops cnt now) (e0 : f_X1_numberAt nums osz 0 = a0) (e1 : f_X1_numberAt nums osz 1 = a1) (e2 : f_X1_numberAt nums osz 2 = a2) (e3 : f_X1_numberAt nums osz 3 = a3) (e4 : f_X1_numberAt nums osz 4 = a4) (e5 : f_X1_numberAt nums osz 5 = a5)
    (h0 : pT a0) (h1 : pX a1) (h2 : pX a2) (h3 : pX a3) (h4 : pX a4) :
    f_X3_drawsLine rows pat ops cnt nums osz = f_X9_lines now a0 a1 a2 a3 a4 a5 ∧ Rs (g_X3_drawsLine_rows rows pat ops cnt nums osz) pat ops cnt (g_X9_lines_now now a0 a1 a2 a3 a4 a5) := by
  obtain ⟨m1, m2, m3⟩ := lnN_t h1 h2 h3 h4
  have w4 : ((lnN a1 a2 a3 a4).toNatClampNeg : Int) = (lnN a1 a2 a3 a4).toInt := Int.toNat_of_nonneg m2
  have eN : f_J9_max_7cf53 (f_J9_abs_0f7a4 (a3 - a1)) (f_J9_abs_0f7a4 (a4 - a2)) = lnN a1 a2 a3 a4 := rfl
  have eC := ln_cnt h1 h2 h3 h4
  have key : ∀ (n i : Nat) (z : Int32 × (Nat → Int32)), n + i = 128 → i ≤ (lnN a1 a2 a3 a4).toNatClampNeg + 1 → z.1 = (s_X9_lines_58 now a0 a1 a2 a3 a4 a5 i).1 → Rs z.2 pat ops cnt (s_X9_lines_58 now a0 a1 a2 a3 a4 a5 i).2 →
      (r_X3_drawsLine_51 pat ops cnt nums osz n i z).1 = (s_X9_lines_58 now a0 a1 a2 a3 a4 a5 ((lnN a1 a2 a3 a4).toNatClampNeg + 1)).1 ∧ Rs (r_X3_drawsLine_51 pat ops cnt nums osz n i z).2 pat ops cnt (s_X9_lines_58 now a0 a1 a2 a3 a4 a5 ((lnN a1 a2 a3 a4).toNatClampNeg + 1)).2 := by
    intro n
    induction n with
    | zero =>
      intro i z hn hi hz1 hz2
      have : i = (lnN a1 a2 a3 a4).toNatClampNeg + 1 := by omega
      subst this
      exact ⟨hz1, hz2⟩
    | succ n ih =>
      intro i z hn hi hz1 hz2
      unfold r_X3_drawsLine_51
      simp only [e0, e1, e2, e3, e4, e5, eN]
      by_cases q : lnN a1 a2 a3 a4 < nI i
      · rw [if_pos q]
        have q' := Int32.lt_iff_toInt_lt.mp q
        rw [nI_toInt (by omega)] at q'
        have : i = (lnN a1 a2 a3 a4).toNatClampNeg + 1 := by omega
        subst this
        exact ⟨hz1, hz2⟩
      · rw [if_neg q]
        have q' : ¬ (lnN a1 a2 a3 a4).toInt < i := fun k => q (Int32.lt_iff_toInt_lt.mpr (by rw [nI_toInt (by omega)]; exact k))
        have hxy := ln_xy (i := i) h1 h2 h3 h4 (by omega)
        have bX := bw_b (i := i) h1 h3 ⟨m2, m3⟩ (by omega)
        have eb : s_X9_lines_58 now a0 a1 a2 a3 a4 a5 (i + 1) = ((s_X9_lines_58 now a0 a1 a2 a3 a4 a5 i).1 + f_X9_joinsAt (s_X9_lines_58 now a0 a1 a2 a3 a4 a5 i).2 a0 (f_X3_between a1 a3 (nI i) (lnN a1 a2 a3 a4)) (f_X3_between a2 a4 (nI i) (lnN a1 a2 a3 a4)) 1 a5, g_X9_joinsAt_now (s_X9_lines_58 now a0 a1 a2 a3 a4 a5 i).2 a0 (f_X3_between a1 a3 (nI i) (lnN a1 a2 a3 a4)) (f_X3_between a2 a4 (nI i) (lnN a1 a2 a3 a4)) 1 a5) := by
          rw [← hxy.1, ← hxy.2]
          rfl
        generalize f_X3_between a1 a3 (nI i) (lnN a1 a2 a3 a4) = PX at eb bX ⊢
        generalize f_X3_between a2 a4 (nI i) (lnN a1 a2 a3 a4) = PY at eb ⊢
        generalize hS : s_X9_lines_58 now a0 a1 a2 a3 a4 a5 i = S at eb hz1 hz2
        have hj := jr (f := fun j => match j with | 0 => (S.1, S.2) | _ => (S.1 + f_X9_joinsAt S.2 a0 PX PY 1 a5, g_X9_joinsAt_now S.2 a0 PX PY 1 a5)) (c0 := S.1) (w := 1) (X := PX) (y := PY) (t := a0) (join := a5)
          (source := -1) (mask := f_X8_spanMask PX 1) (sv := fun j => 1)
          hz2 h0 bX (by omega) (fun x hx0 hx1 => by rw [D_span (by omega) (by decide) hx0 hx1]; rfl) rfl (fun j hj => by
            have : j = 0 := by omega
            subst this
            rw [nI_0, Int32.add_zero]
            rfl) (fun j hj hx0 hx1 => by
            rw [D_m1 hx0 hx1]
            rfl)
        refine ih (i + 1) _ (by omega) (by omega) ?_ ?_
        · dsimp only
          rw [eb, hz1]
          exact hj.1.symm
        · dsimp only
          rw [eb]
          exact hj.2
  unfold f_X3_drawsLine g_X3_drawsLine_rows f_X9_lines g_X9_lines_now
  rw [eC]
  exact key 128 0 (0, rows) (by omega) (by omega) rfl h
