theorem as2' {s v : Int32} (h : ¬ f_X9_isAs s v = 0) (e : s = 2) : 1 ≤ v.toInt ∧ v.toInt ≤ 64 := by
  subst e
  have a := mIn_ne (show ¬ f_X9_in v.toInt64 1 64 = 0 from h)
  rw [Int32.toInt_toInt64] at a
  have e1 : (1 : Int64).toInt = 1 := rfl
  have e64 : (64 : Int64).toInt = 64 := rfl
  omega
theorem as4 {s v : Int32} (h : ¬ f_X9_isAs s v = 0) (e : s = 4) : 0 ≤ v.toInt ∧ v.toInt ≤ 15 := by
  subst e
  have a := mIn_ne (show ¬ f_X9_in v.toInt64 0 15 = 0 from h)
  rw [Int32.toInt_toInt64] at a
  have e1 : (0 : Int64).toInt = 0 := rfl
  have e64 : (15 : Int64).toInt = 15 := rfl
  omega
theorem nA {nums nargs : Nat → Int32} {m j : Nat} {o k : Int32} (ho : o = nI m) (hk : k = nI j) (hj : j < m) (hm : m ≤ 9) (e : nums j = nargs j) : f_X1_numberAt nums o k = nargs j := by
  subst ho
  subst hk
  unfold f_X1_numberAt
  have e0 : (0 : Int32).toInt = 0 := rfl
  rw [isW_e, show nI m - 1 = nI (m - 1) from pk_sub (a := m) (b := 1) (by omega), nI_toInt (by omega), nI_toInt (by omega), e0, if_pos (c := (0 : Int) ≤ (j : Int) ∧ (j : Int) ≤ ((m - 1 : Nat) : Int)) (by omega), i10, nI_clamp (by omega)]
  exact e
theorem Rs.shuts {rows pat ops now : Nat → Int32} {cnt : Int32} (h : Rs rows pat ops cnt now) : Rs rows pat ops 0 (g_X9_shuts_now now) := by
  obtain ⟨h1, h2, h3, h4, h5⟩ := h
  have key : ∀ (n : Nat), n ≤ 17 → ∀ k : Nat, s_X9_shuts_11 now n k = if 80 ≤ k ∧ k < 80 + n then 0 else now k := by
    intro n
    induction n with
    | zero => intro _ k; rw [if_neg (by omega)]; rfl
    | succ n ih =>
      intro hn k
      unfold s_X9_shuts_11 b_X9_shuts_11
      rw [nI_clamp (by omega)]
      by_cases q : k = 80 + n
      · rw [q, pk_us, if_pos (by omega)]
      · rw [pk_un q, ih (by omega)]
        by_cases z : 80 ≤ k ∧ k < 80 + n
        · rw [if_pos z, if_pos (by omega)]
        · rw [if_neg z, if_neg (c := 80 ≤ k ∧ k < 80 + (n + 1)) (by omega)]
  unfold g_X9_shuts_now
  refine ⟨fun k hk => ?_, fun k hk => ?_, ?_, ⟨by decide, by decide⟩, fun k hk => ?_⟩
  · rw [key 17 (Nat.le_refl _), if_neg (by omega)]; exact h1 k hk
  · rw [key 17 (Nat.le_refl _), if_neg (by omega)]; exact h2 k hk
  · rw [key 17 (Nat.le_refl _), if_pos (by omega)]
  · exact absurd hk (by have : (0 : Int32).toInt = 0 := rfl; omega)
theorem pf_m {source like rows pat ops now left srow sdot aside pile came nums nargs : Nat → Int32} {cnt : Int32} (h : Rs rows pat ops cnt now) (hn : ∀ j, j < 9 → nums j = nargs j) (hb : ∀ j : Nat, j < 9 → ¬ f_X9_isAs (sAt (f_X9_sortsOf 109) j - sAt (f_X9_sortsOf 109) j / 10 * 10) (nargs j) = 0) : f_X3_performs source like rows pat ops cnt left srow sdot nums 109 9 = f_X9_doesOne now aside pile came nargs 109 ∧ Rs (g_X3_performs_rows source like rows pat ops cnt left srow sdot nums 109 9) pat (g_X3_performs_ops ops cnt nums 109 9) (g_X3_performs_cnt cnt 109) (g_X9_doesOne_now now aside pile came nargs 109) := by
  have p1 : f_X3_performs source like rows pat ops cnt left srow sdot nums 109 9 = f_X3_movesBlock source rows pat ops cnt nums 9 := rfl
  have p2 : g_X3_performs_rows source like rows pat ops cnt left srow sdot nums 109 9 = g_X3_movesBlock_rows source rows pat ops cnt nums 9 := rfl
  have p3 : g_X3_performs_ops ops cnt nums 109 9 = ops := rfl
  have p4 : g_X3_performs_cnt cnt 109 = cnt := rfl
  have p5 : f_X9_doesOne now aside pile came nargs 109 = f_X9_moves now aside (nargs 0) (nargs 1) (nargs 2) (nargs 3) (nargs 4) (nargs 5) (nargs 6) (nargs 7) (nargs 8) := rfl
  have p6 : g_X9_doesOne_now now aside pile came nargs 109 = g_X9_moves_now now aside (nargs 0) (nargs 1) (nargs 2) (nargs 3) (nargs 4) (nargs 5) (nargs 6) (nargs 7) (nargs 8) := rfl
  rw [p1, p2, p3, p4, p5, p6]
  exact mv_core (source := source) (aside := aside) h (nums := nums) (osz := 9) (nA (m := 9) (j := 0) rfl rfl (by decide) (by decide) (hn 0 (by decide))) (nA (m := 9) (j := 1) rfl rfl (by decide) (by decide) (hn 1 (by decide))) (nA (m := 9) (j := 2) rfl rfl (by decide) (by decide) (hn 2 (by decide))) (nA (m := 9) (j := 3) rfl rfl (by decide) (by decide) (hn 3 (by decide))) (nA (m := 9) (j := 4) rfl rfl (by decide) (by decide) (hn 4 (by decide))) (nA (m := 9) (j := 5) rfl rfl (by decide) (by decide) (hn 5 (by decide))) (nA (m := 9) (j := 6) rfl rfl (by decide) (by decide) (hn 6 (by decide))) (nA (m := 9) (j := 7) rfl rfl (by decide) (by decide) (hn 7 (by decide))) (nA (m := 9) (j := 8) rfl rfl (by decide) (by decide) (hn 8 (by decide))) (as0 (hb 0 (by decide)) (by decide)) (as1 (hb 1 (by decide)) (by decide)) (as1 (hb 2 (by decide)) (by decide)) (as2' (hb 3 (by decide)) (by decide)) (as2' (hb 4 (by decide)) (by decide)) (as0 (hb 5 (by decide)) (by decide)) (as1 (hb 6 (by decide)) (by decide)) (as1 (hb 7 (by decide)) (by decide))
theorem pf_l {source like rows pat ops now left srow sdot aside pile came nums nargs : Nat → Int32} {cnt : Int32} (h : Rs rows pat ops cnt now) (hn : ∀ j, j < 6 → nums j = nargs j) (hb : ∀ j : Nat, j < 6 → ¬ f_X9_isAs (sAt (f_X9_sortsOf 108) j - sAt (f_X9_sortsOf 108) j / 10 * 10) (nargs j) = 0) : f_X3_performs source like rows pat ops cnt left srow sdot nums 108 6 = f_X9_doesOne now aside pile came nargs 108 ∧ Rs (g_X3_performs_rows source like rows pat ops cnt left srow sdot nums 108 6) pat (g_X3_performs_ops ops cnt nums 108 6) (g_X3_performs_cnt cnt 108) (g_X9_doesOne_now now aside pile came nargs 108) := by
  have p1 : f_X3_performs source like rows pat ops cnt left srow sdot nums 108 6 = f_X3_drawsLine rows pat ops cnt nums 6 := rfl
  have p2 : g_X3_performs_rows source like rows pat ops cnt left srow sdot nums 108 6 = g_X3_drawsLine_rows rows pat ops cnt nums 6 := rfl
  have p3 : g_X3_performs_ops ops cnt nums 108 6 = ops := rfl
  have p4 : g_X3_performs_cnt cnt 108 = cnt := rfl
  have p5 : f_X9_doesOne now aside pile came nargs 108 = f_X9_lines now (nargs 0) (nargs 1) (nargs 2) (nargs 3) (nargs 4) (nargs 5) := rfl
  have p6 : g_X9_doesOne_now now aside pile came nargs 108 = g_X9_lines_now now (nargs 0) (nargs 1) (nargs 2) (nargs 3) (nargs 4) (nargs 5) := rfl
  rw [p1, p2, p3, p4, p5, p6]
  exact li_core h (nums := nums) (osz := 6) (nA (m := 6) (j := 0) rfl rfl (by decide) (by decide) (hn 0 (by decide))) (nA (m := 6) (j := 1) rfl rfl (by decide) (by decide) (hn 1 (by decide))) (nA (m := 6) (j := 2) rfl rfl (by decide) (by decide) (hn 2 (by decide))) (nA (m := 6) (j := 3) rfl rfl (by decide) (by decide) (hn 3 (by decide))) (nA (m := 6) (j := 4) rfl rfl (by decide) (by decide) (hn 4 (by decide))) (nA (m := 6) (j := 5) rfl rfl (by decide) (by decide) (hn 5 (by decide))) (as0 (hb 0 (by decide)) (by decide)) (as1 (hb 1 (by decide)) (by decide)) (as1 (hb 2 (by decide)) (by decide)) (as1 (hb 3 (by decide)) (by decide)) (as1 (hb 4 (by decide)) (by decide))
theorem pf_r {source like rows pat ops now left srow sdot aside pile came nums nargs : Nat → Int32} {cnt : Int32} (h : Rs rows pat ops cnt now) (hn : ∀ j, j < 6 → nums j = nargs j) (hb : ∀ j : Nat, j < 6 → ¬ f_X9_isAs (sAt (f_X9_sortsOf 114) j - sAt (f_X9_sortsOf 114) j / 10 * 10) (nargs j) = 0) : f_X3_performs source like rows pat ops cnt left srow sdot nums 114 6 = f_X9_doesOne now aside pile came nargs 114 ∧ Rs (g_X3_performs_rows source like rows pat ops cnt left srow sdot nums 114 6) pat (g_X3_performs_ops ops cnt nums 114 6) (g_X3_performs_cnt cnt 114) (g_X9_doesOne_now now aside pile came nargs 114) := by
  have p1 : f_X3_performs source like rows pat ops cnt left srow sdot nums 114 6 = f_X3_fillsRectangle rows pat ops cnt nums 6 := rfl
  have p2 : g_X3_performs_rows source like rows pat ops cnt left srow sdot nums 114 6 = g_X3_fillsRectangle_rows rows pat ops cnt nums 6 := rfl
  have p3 : g_X3_performs_ops ops cnt nums 114 6 = ops := rfl
  have p4 : g_X3_performs_cnt cnt 114 = cnt := rfl
  have p5 : f_X9_doesOne now aside pile came nargs 114 = f_X9_rectangles now (nargs 0) (nargs 1) (nargs 2) (nargs 3) (nargs 4) (nargs 5) := rfl
  have p6 : g_X9_doesOne_now now aside pile came nargs 114 = g_X9_rectangles_now now (nargs 0) (nargs 1) (nargs 2) (nargs 3) (nargs 4) (nargs 5) := rfl
  rw [p1, p2, p3, p4, p5, p6]
  exact re_core h (nums := nums) (osz := 6) (nA (m := 6) (j := 0) rfl rfl (by decide) (by decide) (hn 0 (by decide))) (nA (m := 6) (j := 1) rfl rfl (by decide) (by decide) (hn 1 (by decide))) (nA (m := 6) (j := 2) rfl rfl (by decide) (by decide) (hn 2 (by decide))) (nA (m := 6) (j := 3) rfl rfl (by decide) (by decide) (hn 3 (by decide))) (nA (m := 6) (j := 4) rfl rfl (by decide) (by decide) (hn 4 (by decide))) (nA (m := 6) (j := 5) rfl rfl (by decide) (by decide) (hn 5 (by decide))) (as0 (hb 0 (by decide)) (by decide)) (as1 (hb 1 (by decide)) (by decide)) (as1 (hb 2 (by decide)) (by decide)) (as2' (hb 3 (by decide)) (by decide)) (as2' (hb 4 (by decide)) (by decide))
theorem pf_c {source like rows pat ops now left srow sdot aside pile came nums nargs : Nat → Int32} {cnt : Int32} (h : Rs rows pat ops cnt now) (hn : ∀ j, j < 5 → nums j = nargs j) (hb : ∀ j : Nat, j < 5 → ¬ f_X9_isAs (sAt (f_X9_sortsOf 99) j - sAt (f_X9_sortsOf 99) j / 10 * 10) (nargs j) = 0) : f_X3_performs source like rows pat ops cnt left srow sdot nums 99 5 = f_X9_doesOne now aside pile came nargs 99 ∧ Rs (g_X3_performs_rows source like rows pat ops cnt left srow sdot nums 99 5) pat (g_X3_performs_ops ops cnt nums 99 5) (g_X3_performs_cnt cnt 99) (g_X9_doesOne_now now aside pile came nargs 99) := by
  have p1 : f_X3_performs source like rows pat ops cnt left srow sdot nums 99 5 = f_X3_writesLetter rows pat ops cnt nums 5 := rfl
  have p2 : g_X3_performs_rows source like rows pat ops cnt left srow sdot nums 99 5 = g_X3_writesLetter_rows rows pat ops cnt nums 5 := rfl
  have p3 : g_X3_performs_ops ops cnt nums 99 5 = ops := rfl
  have p4 : g_X3_performs_cnt cnt 99 = cnt := rfl
  have p5 : f_X9_doesOne now aside pile came nargs 99 = f_X9_letters now (nargs 0) (nargs 1) (nargs 2) (nargs 3) (nargs 4) := rfl
  have p6 : g_X9_doesOne_now now aside pile came nargs 99 = g_X9_letters_now now (nargs 0) (nargs 1) (nargs 2) (nargs 3) (nargs 4) := rfl
  rw [p1, p2, p3, p4, p5, p6]
  exact le_core h (nums := nums) (osz := 5) (nA (m := 5) (j := 0) rfl rfl (by decide) (by decide) (hn 0 (by decide))) (nA (m := 5) (j := 1) rfl rfl (by decide) (by decide) (hn 1 (by decide))) (nA (m := 5) (j := 2) rfl rfl (by decide) (by decide) (hn 2 (by decide))) (nA (m := 5) (j := 3) rfl rfl (by decide) (by decide) (hn 3 (by decide))) (nA (m := 5) (j := 4) rfl rfl (by decide) (by decide) (hn 4 (by decide))) (as0 (hb 0 (by decide)) (by decide)) (as4 (hb 1 (by decide)) (by decide)) (as1 (hb 2 (by decide)) (by decide)) (as1 (hb 3 (by decide)) (by decide))
theorem pf_f {source like rows pat ops now left srow sdot aside pile came nums nargs : Nat → Int32} {cnt : Int32} (h : Rs rows pat ops cnt now) (hn : ∀ j, j < 3 → nums j = nargs j) (hb : ∀ j : Nat, j < 3 → ¬ f_X9_isAs (sAt (f_X9_sortsOf 102) j - sAt (f_X9_sortsOf 102) j / 10 * 10) (nargs j) = 0) : f_X3_performs source like rows pat ops cnt left srow sdot nums 102 3 = f_X9_doesOne now aside pile came nargs 102 ∧ Rs (g_X3_performs_rows source like rows pat ops cnt left srow sdot nums 102 3) pat (g_X3_performs_ops ops cnt nums 102 3) (g_X3_performs_cnt cnt 102) (g_X9_doesOne_now now aside pile came nargs 102) := by
  have p1 : f_X3_performs source like rows pat ops cnt left srow sdot nums 102 3 = f_X3_floods like rows ops cnt left srow sdot (f_X1_numberAt nums 3 0) (f_X1_numberAt nums 3 1) (f_X1_numberAt nums 3 2) := rfl
  have p2 : g_X3_performs_rows source like rows pat ops cnt left srow sdot nums 102 3 = g_X3_floods_rows like rows ops cnt left srow sdot (f_X1_numberAt nums 3 0) (f_X1_numberAt nums 3 1) (f_X1_numberAt nums 3 2) := rfl
  have p3 : g_X3_performs_ops ops cnt nums 102 3 = ops := rfl
  have p4 : g_X3_performs_cnt cnt 102 = cnt := rfl
  have p5 : f_X9_doesOne now aside pile came nargs 102 = if f_X9_mayFlood now (nargs (1 : Int32).toNatClampNeg) (nargs (2 : Int32).toNatClampNeg) = 0 then 0 else f_X9_floods now pile came (nargs (0 : Int32).toNatClampNeg) (nargs (1 : Int32).toNatClampNeg) (nargs (2 : Int32).toNatClampNeg) := by
    unfold f_X9_doesOne
    rw [if_neg (show ¬ (102 : Int32) = 99 by decide), if_pos (show (102 : Int32) = 102 from rfl)]
  have p6 : g_X9_doesOne_now now aside pile came nargs 102 = if f_X9_mayFlood now (nargs (1 : Int32).toNatClampNeg) (nargs (2 : Int32).toNatClampNeg) = 0 then now else g_X9_floods_now now pile came (nargs (0 : Int32).toNatClampNeg) (nargs (1 : Int32).toNatClampNeg) (nargs (2 : Int32).toNatClampNeg) := by
    unfold g_X9_doesOne_now
    rw [if_neg (show ¬ (102 : Int32) = 99 by decide), if_pos (show (102 : Int32) = 102 from rfl)]
  rw [show (0 : Int32).toNatClampNeg = 0 by decide, show (1 : Int32).toNatClampNeg = 1 by decide, show (2 : Int32).toNatClampNeg = 2 by decide] at p5 p6
  rw [nA (nargs := nargs) (o := 3) (k := 0) (m := 3) (j := 0) rfl rfl (by decide) (by decide) (hn 0 (by decide)), nA (nargs := nargs) (o := 3) (k := 1) (m := 3) (j := 1) rfl rfl (by decide) (by decide) (hn 1 (by decide)), nA (nargs := nargs) (o := 3) (k := 2) (m := 3) (j := 2) rfl rfl (by decide) (by decide) (hn 2 (by decide))] at p1 p2
  rw [p1, p2, p3, p4, p5, p6, ← may_e (x := nargs 1) (y := nargs 2) h]
  by_cases ho : f_X6_isOpen ops cnt (nargs 1) (nargs 2) = 0
  · rw [if_pos ho, if_pos ho]
    unfold f_X3_floods g_X3_floods_rows
    rw [if_pos ho, if_pos ho]
    exact ⟨rfl, h⟩
  · rw [if_neg ho, if_neg ho]
    exact fl_core h (as0 (hb 0 (by decide)) (by decide)) ho
theorem pf_o {source like rows pat ops now left srow sdot aside pile came nums nargs : Nat → Int32} {cnt : Int32} (h : Rs rows pat ops cnt now) (hc : cnt.toInt < 4) (hn : ∀ j, j < 4 → nums j = nargs j) (hb : ∀ j : Nat, j < 4 → ¬ f_X9_isAs (sAt (f_X9_sortsOf 111) j - sAt (f_X9_sortsOf 111) j / 10 * 10) (nargs j) = 0) : f_X3_performs source like rows pat ops cnt left srow sdot nums 111 4 = f_X9_doesOne now aside pile came nargs 111 ∧ Rs (g_X3_performs_rows source like rows pat ops cnt left srow sdot nums 111 4) pat (g_X3_performs_ops ops cnt nums 111 4) (g_X3_performs_cnt cnt 111) (g_X9_doesOne_now now aside pile came nargs 111) := by
  have p1 : f_X3_performs source like rows pat ops cnt left srow sdot nums 111 4 = 0 := rfl
  have p2 : g_X3_performs_rows source like rows pat ops cnt left srow sdot nums 111 4 = rows := rfl
  have p3 : g_X3_performs_ops ops cnt nums 111 4 = g_X6_opens_ops ops cnt (f_X1_numberAt nums 4 0) (f_X1_numberAt nums 4 1) (f_X1_numberAt nums 4 2) (f_X1_numberAt nums 4 3) := rfl
  have p4 : g_X3_performs_cnt cnt 111 = g_X6_opens_cnt cnt := rfl
  have p5 : f_X9_doesOne now aside pile came nargs 111 = 0 := rfl
  have p6 : g_X9_doesOne_now now aside pile came nargs 111 = g_X9_opens_now now (nargs 0) (nargs 1) (nargs 2) (nargs 3) := rfl
  rw [nA (nargs := nargs) (o := 4) (k := 0) (m := 4) (j := 0) rfl rfl (by decide) (by decide) (hn 0 (by decide)), nA (nargs := nargs) (o := 4) (k := 1) (m := 4) (j := 1) rfl rfl (by decide) (by decide) (hn 1 (by decide)), nA (nargs := nargs) (o := 4) (k := 2) (m := 4) (j := 2) rfl rfl (by decide) (by decide) (hn 2 (by decide)), nA (nargs := nargs) (o := 4) (k := 3) (m := 4) (j := 3) rfl rfl (by decide) (by decide) (hn 3 (by decide))] at p3
  rw [p1, p2, p3, p4, p5, p6]
  exact ⟨rfl, (op_core h hc (as1 (hb 0 (by decide)) (by decide)) (as1 (hb 1 (by decide)) (by decide)) (as2' (hb 2 (by decide)) (by decide)) (as2' (hb 3 (by decide)) (by decide))).1⟩
theorem pf_k {source like rows pat ops now left srow sdot aside pile came nums nargs : Nat → Int32} {cnt : Int32} (h : Rs rows pat ops cnt now) : f_X3_performs source like rows pat ops cnt left srow sdot nums 107 0 = f_X9_doesOne now aside pile came nargs 107 ∧ Rs (g_X3_performs_rows source like rows pat ops cnt left srow sdot nums 107 0) pat (g_X3_performs_ops ops cnt nums 107 0) (g_X3_performs_cnt cnt 107) (g_X9_doesOne_now now aside pile came nargs 107) := by
  have p1 : f_X3_performs source like rows pat ops cnt left srow sdot nums 107 0 = 0 := rfl
  have p2 : g_X3_performs_rows source like rows pat ops cnt left srow sdot nums 107 0 = rows := rfl
  have p3 : g_X3_performs_ops ops cnt nums 107 0 = ops := rfl
  have p4 : g_X3_performs_cnt cnt 107 = 0 := rfl
  have p5 : f_X9_doesOne now aside pile came nargs 107 = 0 * f_X9_shuts now := rfl
  have p6 : g_X9_doesOne_now now aside pile came nargs 107 = g_X9_shuts_now now := rfl
  rw [p1, p2, p3, p4, p5, p6, Int32.zero_mul]
  exact ⟨rfl, h.shuts⟩
theorem pf {source like rows pat ops now left srow sdot aside pile came nums nargs : Nat → Int32} {cnt c : Int32} (h : Rs rows pat ops cnt now) (hm : ¬ f_X9_manyOf c = -1) (h4 : c = 111 → ¬ cnt = 4) (hn : ∀ j, j < (f_X9_manyOf c).toNatClampNeg → nums j = nargs j) (hb : ∀ j : Nat, j < (f_X9_manyOf c).toNatClampNeg → ¬ f_X9_isAs (sAt (f_X9_sortsOf c) j - sAt (f_X9_sortsOf c) j / 10 * 10) (nargs j) = 0) : f_X3_performs source like rows pat ops cnt left srow sdot nums c (f_X9_manyOf c) = f_X9_doesOne now aside pile came nargs c ∧ Rs (g_X3_performs_rows source like rows pat ops cnt left srow sdot nums c (f_X9_manyOf c)) pat (g_X3_performs_ops ops cnt nums c (f_X9_manyOf c)) (g_X3_performs_cnt cnt c) (g_X9_doesOne_now now aside pile came nargs c) := by
  rcases many_c hm with e | e | e | e | e | e | e
  · subst e
    rw [show (f_X9_manyOf 109).toNatClampNeg = 9 by decide] at hn hb
    rw [show f_X9_manyOf 109 = 9 by decide]
    exact pf_m h hn hb
  · subst e
    rw [show (f_X9_manyOf 108).toNatClampNeg = 6 by decide] at hn hb
    rw [show f_X9_manyOf 108 = 6 by decide]
    exact pf_l h hn hb
  · subst e
    rw [show (f_X9_manyOf 114).toNatClampNeg = 6 by decide] at hn hb
    rw [show f_X9_manyOf 114 = 6 by decide]
    exact pf_r h hn hb
  · subst e
    rw [show (f_X9_manyOf 102).toNatClampNeg = 3 by decide] at hn hb
    rw [show f_X9_manyOf 102 = 3 by decide]
    exact pf_f h hn hb
  · subst e
    rw [show (f_X9_manyOf 99).toNatClampNeg = 5 by decide] at hn hb
    rw [show f_X9_manyOf 99 = 5 by decide]
    exact pf_c h hn hb
  · subst e
    rw [show (f_X9_manyOf 111).toNatClampNeg = 4 by decide] at hn hb
    rw [show f_X9_manyOf 111 = 4 by decide]
    exact pf_o h (by
      have hc := h.2.2.2.1.2
      have n4 := h4 rfl
      have : ¬ cnt.toInt = 4 := fun z => n4 (Int32.toInt_inj.mp z)
      omega) hn hb
  · subst e
    rw [show f_X9_manyOf 107 = 0 by decide]
    exact pf_k h