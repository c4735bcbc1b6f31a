theorem ixo {i j : Nat} (hi : i < 4) (hj : j < 4) {k : Int32} (hk : k = nI j) : ((nI i) * 4 + k).toNatClampNeg = 4 * i + j := by
  rw [hk, show (4 : Int32) = nI 4 from rfl, pk_mul, nI_add, nI_clamp (by omega)]
  omega
theorem ixo0 {i : Nat} (hi : i < 4) : ((nI i) * 4).toNatClampNeg = 4 * i := by
  rw [show (4 : Int32) = nI 4 from rfl, pk_mul, nI_clamp (by omega)]
  omega
theorem ixn {i j : Nat} (hi : i < 4) (hj : j < 4) {k : Int32} (hk : k = nI j) : (80 + (4 * nI i) + k).toNatClampNeg = 80 + (4 * i + j) := by
  rw [hk, show (4 : Int32) = nI 4 from rfl, show (80 : Int32) = nI 80 from rfl, pk_mul, nI_add, nI_add, nI_clamp (by omega)]
  omega
theorem ixn0 {i : Nat} (hi : i < 4) : (80 + (4 * nI i)).toNatClampNeg = 80 + 4 * i := by
  rw [show (4 : Int32) = nI 4 from rfl, show (80 : Int32) = nI 80 from rfl, pk_mul, nI_add, nI_clamp (by omega)]
theorem c96 : (96 : Int32).toNatClampNeg = 96 := by decide
/-- whether a dot is in opening k -/
def op1 (ops : Nat → Int32) (k : Nat) (x y : Int) : Bool := decide ((ops (4 * k)).toInt ≤ x ∧ x < (ops (4 * k)).toInt + (ops (4 * k + 2)).toInt) && decide ((ops (4 * k + 1)).toInt ≤ y ∧ y < (ops (4 * k + 1)).toInt + (ops (4 * k + 3)).toInt)
/-- the bounds of an opening -/
def opB (ops : Nat → Int32) (k : Nat) : Prop := pX (ops (4 * k)) ∧ pX (ops (4 * k + 1)) ∧ (1 ≤ (ops (4 * k + 2)).toInt ∧ (ops (4 * k + 2)).toInt ≤ 64) ∧ (1 ≤ (ops (4 * k + 3)).toInt ∧ (ops (4 * k + 3)).toInt ≤ 64)
theorem op_cl {ops : Nat → Int32} {n : Nat} {y z : Int32} {x : Int} (hn : n < 4) (hb : opB ops n) (h0 : 0 ≤ x) (h1 : x < 32) : Dx (b_X6_openAt_13 ops y n z) x = (Dx z x || op1 ops n x y.toInt) := by
  unfold b_X6_openAt_13
  rw [ixo0 hn, ixo hn (by decide) (show (1 : Int32) = nI 1 from rfl), ixo hn (by decide) (show (2 : Int32) = nI 2 from rfl), ixo hn (by decide) (show (3 : Int32) = nI 3 from rfl)]
  obtain ⟨⟨a1, a2⟩, ⟨b1, b2⟩, ⟨c1, c2⟩, ⟨d1, d2⟩⟩ := hb
  have e : (ops (4 * n + 1) + ops (4 * n + 3)).toInt = (ops (4 * n + 1)).toInt + (ops (4 * n + 3)).toInt := tI_add (by omega) (by omega)
  unfold op1
  by_cases q1 : y < ops (4 * n + 1)
  · rw [if_pos q1]
    have := Int32.lt_iff_toInt_lt.mp q1
    rw [decide_eq_false (p := (ops (4 * n + 1)).toInt ≤ y.toInt ∧ y.toInt < (ops (4 * n + 1)).toInt + (ops (4 * n + 3)).toInt) (by omega), Bool.and_false, Bool.or_false]
  · rw [if_neg q1]
    have q1' : ¬ y.toInt < (ops (4 * n + 1)).toInt := fun z => q1 (Int32.lt_iff_toInt_lt.mpr z)
    by_cases q2 : ops (4 * n + 1) + ops (4 * n + 3) ≤ y
    · rw [if_pos q2]
      have := Int32.le_iff_toInt_le.mp q2
      rw [decide_eq_false (p := (ops (4 * n + 1)).toInt ≤ y.toInt ∧ y.toInt < (ops (4 * n + 1)).toInt + (ops (4 * n + 3)).toInt) (by omega), Bool.and_false, Bool.or_false]
    · rw [if_neg q2]
      have q2' : ¬ (ops (4 * n + 1) + ops (4 * n + 3)).toInt ≤ y.toInt := fun z => q2 (Int32.le_iff_toInt_le.mpr z)
      rw [decide_eq_true (p := (ops (4 * n + 1)).toInt ≤ y.toInt ∧ y.toInt < (ops (4 * n + 1)).toInt + (ops (4 * n + 3)).toInt) (by omega), Bool.and_true, D_or, D_span (by omega) (by omega) h0 h1]
theorem in_ne {v a b : Int64} (h : a.toInt ≤ v.toInt ∧ v.toInt ≤ b.toInt) : ¬ f_X9_in v a b = 0 := by
  rw [in_e, if_pos h]
  decide
theorem in_z {v a b : Int64} (h : ¬ (a.toInt ≤ v.toInt ∧ v.toInt ≤ b.toInt)) : f_X9_in v a b = 0 := by rw [in_e, if_neg h]
theorem op_rf {ops now : Nat → Int32} {n : Nat} {x y : Int32} {B : Bool} (hn : n < 4) (hb : opB ops n) (he : ∀ j : Nat, j < 4 → ops (4 * n + j) = now (80 + (4 * n + j))) (hx : -1000 ≤ x.toInt ∧ x.toInt ≤ 1000) (hy : -1000 ≤ y.toInt ∧ y.toInt ≤ 1000) : b_X9_isOpen_19 now x y n (if B then 1 else 0) = if (B || op1 ops n x.toInt y.toInt) then 1 else 0 := by
  unfold b_X9_isOpen_19
  rw [ixn0 hn, ixn hn (by decide) (show (1 : Int32) = nI 1 from rfl), ixn hn (by decide) (show (2 : Int32) = nI 2 from rfl), ixn hn (by decide) (show (3 : Int32) = nI 3 from rfl), ← he 1 (by decide), ← he 2 (by decide), ← he 3 (by decide)]
  have e0 := he 0 (by decide)
  rw [Nat.add_zero] at e0
  rw [← e0]
  obtain ⟨⟨a1, a2⟩, ⟨b1, b2⟩, ⟨c1, c2⟩, ⟨d1, d2⟩⟩ := hb
  cases B
  · rw [if_pos (by rfl), Bool.false_or]
    have i1 : (1 : Int32).toInt = 1 := rfl
    have z0 : (0 : Int64).toInt = 0 := rfl
    have e1 : (x - ops (4 * n)).toInt = x.toInt - (ops (4 * n)).toInt := tI_sub (by omega) (by omega)
    have e2 : (ops (4 * n + 2) - 1).toInt = (ops (4 * n + 2)).toInt - 1 := tI_sub (by omega) (by omega)
    have e3 : (y - ops (4 * n + 1)).toInt = y.toInt - (ops (4 * n + 1)).toInt := tI_sub (by omega) (by omega)
    have e4 : (ops (4 * n + 3) - 1).toInt = (ops (4 * n + 3)).toInt - 1 := tI_sub (by omega) (by omega)
    unfold op1
    by_cases q1 : (ops (4 * n)).toInt ≤ x.toInt ∧ x.toInt < (ops (4 * n)).toInt + (ops (4 * n + 2)).toInt
    · rw [decide_eq_true q1, Bool.true_and, if_neg (in_ne (by rw [Int32.toInt_toInt64, Int32.toInt_toInt64, e1, e2, z0]; omega))]
      by_cases q2 : (ops (4 * n + 1)).toInt ≤ y.toInt ∧ y.toInt < (ops (4 * n + 1)).toInt + (ops (4 * n + 3)).toInt
      · rw [decide_eq_true q2, if_neg (in_ne (by rw [Int32.toInt_toInt64, Int32.toInt_toInt64, e3, e4, z0]; omega))]
        rfl
      · rw [decide_eq_false q2, if_pos (in_z (by rw [Int32.toInt_toInt64, Int32.toInt_toInt64, e3, e4, z0]; omega))]
        rfl
    · rw [decide_eq_false q1, Bool.false_and, if_pos (in_z (by rw [Int32.toInt_toInt64, Int32.toInt_toInt64, e1, e2, z0]; omega))]
      rfl
  · rw [if_neg (by decide), Bool.true_or, if_pos rfl]
theorem Rs.opB {rows pat ops now : Nat → Int32} {cnt : Int32} (h : Rs rows pat ops cnt now) {k : Nat} (hk : (k : Int) < cnt.toInt) : opB ops k ∧ ∀ j : Nat, j < 4 → ops (4 * k + j) = now (80 + (4 * k + j)) := by
  obtain ⟨-, -, -, -, h5⟩ := h
  exact ⟨(h5 k hk).2, (h5 k hk).1⟩
theorem op_n {rows pat ops now : Nat → Int32} {cnt x y : Int32} (h : Rs rows pat ops cnt now) (hc : ¬ cnt = 0) (hx : 0 ≤ x.toInt ∧ x.toInt ≤ 31) (hy : -1000 ≤ y.toInt ∧ y.toInt ≤ 1000) : ∀ n : Nat, (n : Int) ≤ cnt.toInt → s_X9_isOpen_19 now x y n = if Dx (s_X6_openAt_13 ops y n) x.toInt then 1 else 0
  | 0, _ => by
    unfold s_X9_isOpen_19 s_X6_openAt_13
    rw [c96, ← h.2.2.1, if_neg hc, D_0]
    rfl
  | n + 1, hn => by
    have hc4 := h.2.2.2.1.2
    have hB := h.opB (k := n) (by omega)
    unfold s_X9_isOpen_19 s_X6_openAt_13
    rw [op_n h hc hx hy n (by omega), op_rf (by omega) hB.1 hB.2 (by omega) hy, op_cl (by omega) hB.1 (by omega) (by omega)]
/-- the class's open dots are the reference's -/
theorem open_eq {rows pat ops now : Nat → Int32} {cnt x y : Int32} (h : Rs rows pat ops cnt now) (hx : 0 ≤ x.toInt ∧ x.toInt ≤ 31) (hy : -1000 ≤ y.toInt ∧ y.toInt ≤ 1000) : f_X9_isOpen now x y = if Dx (f_X6_openAt ops cnt y) x.toInt then 1 else 0 := by
  unfold f_X9_isOpen f_X6_openAt
  rw [c96, ← h.2.2.1]
  by_cases hc : cnt = 0
  · have e := h.2.2.1
    rw [if_pos hc, D_m1 (by omega) (by omega), hc]
    show s_X9_isOpen_19 now x y 0 = _
    unfold s_X9_isOpen_19
    rw [c96, ← e, if_pos hc]
    rfl
  · rw [if_neg hc]
    exact op_n h hc hx hy _ (by
      have := h.2.2.2.1.1
      have e : (cnt.toNatClampNeg : Int) = cnt.toInt := Int.toNat_of_nonneg this
      omega)

def jb (join : Int32) (s p d : Bool) : Bool := bt join ((if s then 4 else 0) + (if p then 2 else 0) + (if d then 1 else 0))
theorem ne1 {B : Bool} : ((if B then 1 else 0 : Int32) = 1) = (B = true) := by cases B <;> decide
theorem js0 {s p d join z : Int32} {x : Int} (h0 : 0 ≤ x) (h1 : x < 32) : Dx (b_X8_joinedRow_6 s p d join 0 z) x = (Dx z x || (bt join 0 && (((!Dx s x) && (!Dx p x)) && (!Dx d x)))) := by
  unfold b_X8_joinedRow_6
  rw [sh_and1 (n := 0) rfl (by decide), if_pos (show ((nI 0 &&& 4 : Int32) = 0) by decide), if_pos (show ((nI 0 &&& 2 : Int32) = 0) by decide), if_pos (show ((nI 0 &&& 1 : Int32) = 0) by decide)]
  cases hb : bt join 0
  · rw [if_neg (by decide), Bool.false_and, Bool.or_false]
  · rw [if_pos (by decide), Bool.true_and]
    simp only [D_or, D_and, D_not h0 h1]
theorem js1 {s p d join z : Int32} {x : Int} (h0 : 0 ≤ x) (h1 : x < 32) : Dx (b_X8_joinedRow_6 s p d join 1 z) x = (Dx z x || (bt join 1 && (((!Dx s x) && (!Dx p x)) && (Dx d x)))) := by
  unfold b_X8_joinedRow_6
  rw [sh_and1 (n := 1) rfl (by decide), if_pos (show ((nI 1 &&& 4 : Int32) = 0) by decide), if_pos (show ((nI 1 &&& 2 : Int32) = 0) by decide), if_neg (show ¬ ((nI 1 &&& 1 : Int32) = 0) by decide)]
  cases hb : bt join 1
  · rw [if_neg (by decide), Bool.false_and, Bool.or_false]
  · rw [if_pos (by decide), Bool.true_and]
    simp only [D_or, D_and, D_not h0 h1]
theorem js2 {s p d join z : Int32} {x : Int} (h0 : 0 ≤ x) (h1 : x < 32) : Dx (b_X8_joinedRow_6 s p d join 2 z) x = (Dx z x || (bt join 2 && (((!Dx s x) && (Dx p x)) && (!Dx d x)))) := by
  unfold b_X8_joinedRow_6
  rw [sh_and1 (n := 2) rfl (by decide), if_pos (show ((nI 2 &&& 4 : Int32) = 0) by decide), if_neg (show ¬ ((nI 2 &&& 2 : Int32) = 0) by decide), if_pos (show ((nI 2 &&& 1 : Int32) = 0) by decide)]
  cases hb : bt join 2
  · rw [if_neg (by decide), Bool.false_and, Bool.or_false]
  · rw [if_pos (by decide), Bool.true_and]
    simp only [D_or, D_and, D_not h0 h1]
theorem js3 {s p d join z : Int32} {x : Int} (h0 : 0 ≤ x) (h1 : x < 32) : Dx (b_X8_joinedRow_6 s p d join 3 z) x = (Dx z x || (bt join 3 && (((!Dx s x) && (Dx p x)) && (Dx d x)))) := by
  unfold b_X8_joinedRow_6
  rw [sh_and1 (n := 3) rfl (by decide), if_pos (show ((nI 3 &&& 4 : Int32) = 0) by decide), if_neg (show ¬ ((nI 3 &&& 2 : Int32) = 0) by decide), if_neg (show ¬ ((nI 3 &&& 1 : Int32) = 0) by decide)]
  cases hb : bt join 3
  · rw [if_neg (by decide), Bool.false_and, Bool.or_false]
  · rw [if_pos (by decide), Bool.true_and]
    simp only [D_or, D_and, D_not h0 h1]
theorem js4 {s p d join z : Int32} {x : Int} (h0 : 0 ≤ x) (h1 : x < 32) : Dx (b_X8_joinedRow_6 s p d join 4 z) x = (Dx z x || (bt join 4 && (((Dx s x) && (!Dx p x)) && (!Dx d x)))) := by
  unfold b_X8_joinedRow_6
  rw [sh_and1 (n := 4) rfl (by decide), if_neg (show ¬ ((nI 4 &&& 4 : Int32) = 0) by decide), if_pos (show ((nI 4 &&& 2 : Int32) = 0) by decide), if_pos (show ((nI 4 &&& 1 : Int32) = 0) by decide)]
  cases hb : bt join 4
  · rw [if_neg (by decide), Bool.false_and, Bool.or_false]
  · rw [if_pos (by decide), Bool.true_and]
    simp only [D_or, D_and, D_not h0 h1]
theorem js5 {s p d join z : Int32} {x : Int} (h0 : 0 ≤ x) (h1 : x < 32) : Dx (b_X8_joinedRow_6 s p d join 5 z) x = (Dx z x || (bt join 5 && (((Dx s x) && (!Dx p x)) && (Dx d x)))) := by
  unfold b_X8_joinedRow_6
  rw [sh_and1 (n := 5) rfl (by decide), if_neg (show ¬ ((nI 5 &&& 4 : Int32) = 0) by decide), if_pos (show ((nI 5 &&& 2 : Int32) = 0) by decide), if_neg (show ¬ ((nI 5 &&& 1 : Int32) = 0) by decide)]
  cases hb : bt join 5
  · rw [if_neg (by decide), Bool.false_and, Bool.or_false]
  · rw [if_pos (by decide), Bool.true_and]
    simp only [D_or, D_and, D_not h0 h1]
theorem js6 {s p d join z : Int32} {x : Int} (h0 : 0 ≤ x) (h1 : x < 32) : Dx (b_X8_joinedRow_6 s p d join 6 z) x = (Dx z x || (bt join 6 && (((Dx s x) && (Dx p x)) && (!Dx d x)))) := by
  unfold b_X8_joinedRow_6
  rw [sh_and1 (n := 6) rfl (by decide), if_neg (show ¬ ((nI 6 &&& 4 : Int32) = 0) by decide), if_neg (show ¬ ((nI 6 &&& 2 : Int32) = 0) by decide), if_pos (show ((nI 6 &&& 1 : Int32) = 0) by decide)]
  cases hb : bt join 6
  · rw [if_neg (by decide), Bool.false_and, Bool.or_false]
  · rw [if_pos (by decide), Bool.true_and]
    simp only [D_or, D_and, D_not h0 h1]
theorem js7 {s p d join z : Int32} {x : Int} (h0 : 0 ≤ x) (h1 : x < 32) : Dx (b_X8_joinedRow_6 s p d join 7 z) x = (Dx z x || (bt join 7 && (((Dx s x) && (Dx p x)) && (Dx d x)))) := by
  unfold b_X8_joinedRow_6
  rw [sh_and1 (n := 7) rfl (by decide), if_neg (show ¬ ((nI 7 &&& 4 : Int32) = 0) by decide), if_neg (show ¬ ((nI 7 &&& 2 : Int32) = 0) by decide), if_neg (show ¬ ((nI 7 &&& 1 : Int32) = 0) by decide)]
  cases hb : bt join 7
  · rw [if_neg (by decide), Bool.false_and, Bool.or_false]
  · rw [if_pos (by decide), Bool.true_and]
    simp only [D_or, D_and, D_not h0 h1]
theorem D_joined {s p d join : Int32} {x : Int} (h0 : 0 ≤ x) (h1 : x < 32) : Dx (f_X8_joinedRow s p d join) x = jb join (Dx s x) (Dx p x) (Dx d x) := by
  show Dx (b_X8_joinedRow_6 s p d join 7 (b_X8_joinedRow_6 s p d join 6 (b_X8_joinedRow_6 s p d join 5 (b_X8_joinedRow_6 s p d join 4 (b_X8_joinedRow_6 s p d join 3 (b_X8_joinedRow_6 s p d join 2 (b_X8_joinedRow_6 s p d join 1 (b_X8_joinedRow_6 s p d join 0 0)))))))) x = _
  rw [js7 h0 h1, js6 h0 h1, js5 h0 h1, js4 h0 h1, js3 h0 h1, js2 h0 h1, js1 h0 h1, js0 h0 h1, D_0]
  unfold jb
  cases Dx s x <;> cases Dx p x <;> cases Dx d x <;> simp
theorem pat_bits : ∀ P, P < 256 → ∀ x, x < 32 → bt (nI P * 16843009) (31 - x) = bt (nI P) (7 - x % 8) := by decide +kernel
theorem D_pat {rows pat ops now : Nat → Int32} {cnt x y : Int32} (h : Rs rows pat ops cnt now) (hx : 0 ≤ x.toInt ∧ x.toInt ≤ 31) (hy : pY y) : f_X9_patternAt now x y = if Dx (f_X6_patternAt pat y) x.toInt then 1 else 0 := by
  obtain ⟨ey, ly⟩ := pY_nI hy
  generalize y.toNatClampNeg = Y at ey ly
  have ex : x = nI x.toInt.toNat := Dn_of (by omega) (by omega)
  generalize hX : x.toInt.toNat = X at ex
  have e8 : (y &&& 7).toNatClampNeg = Y % 8 := by
    rw [ey, pk_andN (by omega) 3 (by decide), nI_clamp (by omega)]
  have e9 : (72 + (y - y / 8 * 8)).toNatClampNeg = 72 + Y % 8 := by
    rw [ey, show (8 : Int32) = nI 8 from rfl, pk_rem (by omega) (by decide) (by decide), show (72 : Int32) = nI 72 from rfl, nI_add, nI_clamp (by omega)]
  have e7 : 7 - (x - x / 8 * 8) = nI (7 - X % 8) := by
    rw [ex, show (8 : Int32) = nI 8 from rfl, pk_rem (by omega) (by decide) (by decide), show (7 : Int32) = nI 7 from rfl, pk_sub (by omega)]
  unfold f_X9_patternAt f_X6_patternAt
  rw [e8, e9, sh_and1 e7 (by omega)]
  obtain ⟨hp1, hp2, hp3⟩ := h.2.1 (Y % 8) (by omega)
  rw [← hp1]
  have eP : pat (Y % 8) = nI (pat (Y % 8)).toInt.toNat := Dn_of (by omega) (by omega)
  have hP : (pat (Y % 8)).toInt.toNat < 256 := by omega
  generalize (pat (Y % 8)).toInt.toNat = P at eP hP
  rw [D_in hx.1 (by omega), show (31 - x.toInt).toNat = 31 - X by omega, eP, pat_bits P hP X (by omega)]
