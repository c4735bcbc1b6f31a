theorem fill_e {s : Nat → Nat → Int32} {F base : Nat → Int32} {N : Nat} (hN : N < 2 ^ 31) (h0 : s 0 = base) (hs : ∀ n, n < N → s (n + 1) = upd (s n) (nI n).toNatClampNeg (F n)) : ∀ n, n ≤ N → ∀ k, s n k = if k < n then F k else base k := by
  intro n
  induction n with
  | zero => intro _ k; rw [if_neg (by omega), h0]
  | succ n ih =>
    intro hn k
    rw [hs n (by omega), nI_clamp (by omega)]
    by_cases z : k = n
    · rw [z, pk_us, if_pos (by omega)]
    · rw [pk_un z, ih (by omega)]
      by_cases z2 : k < n
      · rw [if_pos z2, if_pos (by omega)]
      · rw [if_neg z2, if_neg (by omega)]
theorem copies_e {now aside : Nat → Int32} {k : Nat} (hk : k < 72) : g_X9_copies_aside now aside k = now k := by
  have h := fill_e (s := s_X9_copies_2 now aside) (F := fun n => now n) (base := aside) (N := 72) (by decide) rfl (fun n hn => by
    show b_X9_copies_2 now n (s_X9_copies_2 now aside n) = _
    unfold b_X9_copies_2
    rw [nI_clamp (by omega)]) 72 (Nat.le_refl _) k
  rw [if_pos hk] at h
  exact h
theorem src_e {source rows : Nat → Int32} {s y : Int32} : f_X3_sourceAt (g_X3_keepsSource_source source rows s) y = f_X6_rowAt rows s y := by
  unfold f_X3_sourceAt
  by_cases hY : pY y
  · rw [isY_i hY, i10]
    obtain ⟨ey, ly⟩ := pY_nI hY
    have h := fill_e (s := s_X3_keepsSource_2 source rows s) (F := fun n => f_X6_rowAt rows s (nI n)) (base := source) (N := 24) (by decide) rfl (fun n hn => rfl) 24 (Nat.le_refl _) y.toNatClampNeg
    rw [if_pos (by omega), ← ey] at h
    exact h
  · rw [isY_z hY, i00, rowAt_z hY]
/-- the reference's dot, by the class's row -/
theorem dot_row {rows now : Nat → Int32} {s x y : Int32} (h : ∀ k : Nat, k < 72 → rows k = now k) (hS : pT s) : f_X9_dotOf now s x y = if Dx (f_X6_rowAt rows s y) x.toInt then 1 else 0 := by
  by_cases q : (0 ≤ x.toInt ∧ x.toInt ≤ 31) ∧ pY y
  · rw [dotOf_e hS q.1 q.2, rowAt_e hS q.2, h _ (rN_lt hS q.2)]
  · rw [dotOf_z q]
    by_cases hY : pY y
    · rw [D_out (by intro z; exact q ⟨by omega, hY⟩)]
      rfl
    · rw [rowAt_z hY, D_0]
      rfl
theorem dot_cg {now now' : Nat → Int32} {s x y : Int32} (hS : pT s) (h : ∀ k : Nat, k < 72 → now' k = now k) : f_X9_dotOf now' s x y = f_X9_dotOf now s x y := by
  by_cases q : (0 ≤ x.toInt ∧ x.toInt ≤ 31) ∧ pY y
  · rw [dotOf_e hS q.1 q.2, dotOf_e hS q.1 q.2, h _ (rN_lt hS q.2)]
  · rw [dotOf_z q, dotOf_z q]
theorem aside_dot {now aside : Nat → Int32} {s x y : Int32} (hS : pT s) : f_X9_asideAt (g_X9_copies_aside now aside) s x y = f_X9_dotOf now s x y :=
  (show f_X9_asideAt (g_X9_copies_aside now aside) s x y = f_X9_dotOf (g_X9_copies_aside now aside) s x y from rfl).trans (dot_cg hS fun k hk => copies_e hk)
theorem add_nI {x : Int32} {i : Nat} (hx : -1000 ≤ x.toInt ∧ x.toInt ≤ 1000) (hi : i ≤ 1000) : (x + nI i).toInt = x.toInt + i := by
  rw [tI_add (by rw [nI_toInt (by omega)]; omega) (by rw [nI_toInt (by omega)]; omega), nI_toInt (by omega)]
theorem le_nI {a : Int32} {i : Nat} (hi : i ≤ 1000) (h : 0 ≤ a.toInt) : a ≤ nI i ↔ a.toNatClampNeg ≤ i := by
  have e : (a.toNatClampNeg : Int) = a.toInt := Int.toNat_of_nonneg h
  rw [Int32.le_iff_toInt_le, nI_toInt (by omega)]
  omega
theorem mv_core {source rows pat ops nums now aside : Nat → Int32} {cnt osz a0 a1 a2 a3 a4 a5 a6 a7 a8 : Int32} (h : Rs rows pat ops cnt now) (e0 : f_X1_numberAt nums osz 0 = a0) (e1 : f_X1_numberAt nums osz 1 = a1) (e2 : f_X1_numberAt nums osz 2 = a2) (e3 : f_X1_numberAt nums osz 3 = a3) (e4 : f_X1_numberAt nums osz 4 = a4) (e5 : f_X1_numberAt nums osz 5 = a5) (e6 : f_X1_numberAt nums osz 6 = a6) (e7 : f_X1_numberAt nums osz 7 = a7) (e8 : f_X1_numberAt nums osz 8 = a8)
    (h0 : pT a0) (h1 : pX a1) (h2 : pX a2) (h3 : 1 ≤ a3.toInt ∧ a3.toInt ≤ 64) (h4 : 1 ≤ a4.toInt ∧ a4.toInt ≤ 64) (h5 : pT a5) (h6 : pX a6) (h7 : pX a7) :
    f_X3_movesBlock source rows pat ops cnt nums osz = f_X9_moves now aside a0 a1 a2 a3 a4 a5 a6 a7 a8 ∧ Rs (g_X3_movesBlock_rows source rows pat ops cnt nums osz) pat ops cnt (g_X9_moves_now now aside a0 a1 a2 a3 a4 a5 a6 a7 a8) := by
  obtain ⟨b1, b1'⟩ := h1
  obtain ⟨b2, b2'⟩ := h2
  obtain ⟨b6, b6'⟩ := h6
  obtain ⟨b7, b7'⟩ := h7
  have w3 : (a3.toNatClampNeg : Int) = a3.toInt := Int.toNat_of_nonneg (by omega)
  have w4 : (a4.toNatClampNeg : Int) = a4.toInt := Int.toNat_of_nonneg (by omega)
  have key : ∀ (n i : Nat) (z : Int32 × (Nat → Int32)), n + i = 64 → i ≤ a4.toNatClampNeg → z.1 = (s_X9_moves_14 now aside a0 a1 a2 a3 a5 a6 a7 a8 i).1 → Rs z.2 pat ops cnt (s_X9_moves_14 now aside a0 a1 a2 a3 a5 a6 a7 a8 i).2 →
      (r_X3_movesBlock_69 source rows pat ops cnt nums osz n i z).1 = (s_X9_moves_14 now aside a0 a1 a2 a3 a5 a6 a7 a8 a4.toNatClampNeg).1 ∧ Rs (r_X3_movesBlock_69 source rows pat ops cnt nums osz n i z).2 pat ops cnt (s_X9_moves_14 now aside a0 a1 a2 a3 a5 a6 a7 a8 a4.toNatClampNeg).2 := by
    intro n
    induction n with
    | zero =>
      intro i z hn hi hz1 hz2
      have : i = a4.toNatClampNeg := by omega
      subst this
      exact ⟨hz1, hz2⟩
    | succ n ih =>
      intro i z hn hi hz1 hz2
      unfold r_X3_movesBlock_69
      simp only [e0, e1, e2, e3, e4, e5, e6, e7, e8]
      by_cases q : a4 ≤ nI i
      · rw [if_pos q]
        have := (le_nI (by omega) (by omega)).mp q
        have : i = a4.toNatClampNeg := by omega
        subst this
        exact ⟨hz1, hz2⟩
      · rw [if_neg q]
        have q' : ¬ a4.toNatClampNeg ≤ i := fun k => q ((le_nI (by omega) (by omega)).mpr k)
        have hj := jr (f := fun j => s_X9_moves_24 now aside a0 a1 a2 a5 a6 a7 a8 i (s_X9_moves_14 now aside a0 a1 a2 a3 a5 a6 a7 a8 i) j) (c0 := (s_X9_moves_14 now aside a0 a1 a2 a3 a5 a6 a7 a8 i).1) (w := a3.toNatClampNeg) (X := a6) (y := a7 + nI i) (t := a5) (join := a8)
          (source := f_X8_shifted (f_X3_sourceAt (g_X3_keepsSource_source source rows a0) (a2 + nI i)) (a6 - a1)) (mask := f_X8_spanMask a6 a3) (sv := fun j => f_X9_asideAt (g_X9_copies_aside now aside) a0 (a1 + nI j) (a2 + nI i))
          hz2 h5 (by omega) (by omega) (fun x hx0 hx1 => by rw [D_span (by omega) (by omega) hx0 hx1, w3]) rfl (fun j hj => rfl) (fun j hj hx0 hx1 => by
            have ed : (a6 - a1).toInt = a6.toInt - a1.toInt := tI_sub (by omega) (by omega)
            rw [aside_dot h0, dot_row h.1 h0, D_shifted _ _ hx0 hx1, src_e, ed, add_nI (by omega) (by omega)]
            congr 3
            omega)
        refine ih (i + 1) _ (by omega) (by omega) ?_ ?_
        · dsimp only
          rw [hz1]
          exact hj.1.symm
        · dsimp only
          exact hj.2
  have hk := key 64 0 (0, rows) (by omega) (by omega) rfl h
  exact hk
theorem re_core {rows pat ops nums now : Nat → Int32} {cnt osz a0 a1 a2 a3 a4 a5 : Int32} (h : Rs rows pat ops cnt now) (e0 : f_X1_numberAt nums osz 0 = a0) (e1 : f_X1_numberAt nums osz 1 = a1) (e2 : f_X1_numberAt nums osz 2 = a2) (e3 : f_X1_numberAt nums osz 3 = a3) (e4 : f_X1_numberAt nums osz 4 = a4) (e5 : f_X1_numberAt nums osz 5 = a5)
    (h0 : pT a0) (h1 : pX a1) (h2 : pX a2) (h3 : 1 ≤ a3.toInt ∧ a3.toInt ≤ 64) (h4 : 1 ≤ a4.toInt ∧ a4.toInt ≤ 64) :
    f_X3_fillsRectangle rows pat ops cnt nums osz = f_X9_rectangles now a0 a1 a2 a3 a4 a5 ∧ Rs (g_X3_fillsRectangle_rows rows pat ops cnt nums osz) pat ops cnt (g_X9_rectangles_now now a0 a1 a2 a3 a4 a5) := by
  obtain ⟨b1, b1'⟩ := h1
  obtain ⟨b2, b2'⟩ := h2
  have w3 : (a3.toNatClampNeg : Int) = a3.toInt := Int.toNat_of_nonneg (by omega)
  have w4 : (a4.toNatClampNeg : Int) = a4.toInt := Int.toNat_of_nonneg (by omega)
  have key : ∀ (n i : Nat) (z : Int32 × (Nat → Int32)), n + i = 64 → i ≤ a4.toNatClampNeg → z.1 = (s_X9_rectangles_6 now a0 a1 a2 a3 a5 i).1 → Rs z.2 pat ops cnt (s_X9_rectangles_6 now a0 a1 a2 a3 a5 i).2 →
      (r_X3_fillsRectangle_40 pat ops cnt nums osz n i z).1 = (s_X9_rectangles_6 now a0 a1 a2 a3 a5 a4.toNatClampNeg).1 ∧ Rs (r_X3_fillsRectangle_40 pat ops cnt nums osz n i z).2 pat ops cnt (s_X9_rectangles_6 now a0 a1 a2 a3 a5 a4.toNatClampNeg).2 := by
    intro n
    induction n with
    | zero =>
      intro i z hn hi hz1 hz2
      have : i = a4.toNatClampNeg := by omega
      subst this
      exact ⟨hz1, hz2⟩
    | succ n ih =>
      intro i z hn hi hz1 hz2
      unfold r_X3_fillsRectangle_40
      simp only [e0, e1, e2, e3, e4, e5]
      by_cases q : a4 ≤ nI i
      · rw [if_pos q]
        have := (le_nI (by omega) (by omega)).mp q
        have : i = a4.toNatClampNeg := by omega
        subst this
        exact ⟨hz1, hz2⟩
      · rw [if_neg q]
        have q' : ¬ a4.toNatClampNeg ≤ i := fun k => q ((le_nI (by omega) (by omega)).mpr k)
        have hj := jr (f := fun j => s_X9_rectangles_16 a0 a1 a2 a5 i (s_X9_rectangles_6 now a0 a1 a2 a3 a5 i) j) (c0 := (s_X9_rectangles_6 now a0 a1 a2 a3 a5 i).1) (w := a3.toNatClampNeg) (X := a1) (y := a2 + nI i) (t := a0) (join := a5)
          (source := -1) (mask := f_X8_spanMask a1 a3) (sv := fun j => 1)
          hz2 h0 (by omega) (by omega) (fun x hx0 hx1 => by rw [D_span (by omega) (by omega) hx0 hx1, w3]) rfl (fun j hj => rfl) (fun j hj hx0 hx1 => by
            rw [D_m1 hx0 hx1]
            rfl)
        refine ih (i + 1) _ (by omega) (by omega) ?_ ?_
        · dsimp only
          rw [hz1]
          exact hj.1.symm
        · dsimp only
          exact hj.2
  exact key 64 0 (0, rows) (by omega) (by omega) rfl h
theorem le_row {n : Int32} {k : Nat} (hn : 0 ≤ n.toInt ∧ n.toInt ≤ 15) (hk : k < 4) : ∃ V : Nat, V < 16 ∧ ((((n * 5) + (3 * nI k)) + (n / 3)) - (((n * 5) + (3 * nI k)) + (n / 3)) / 16 * 16) = nI V ∧ ((((5 * n) + (3 * nI k)) + (n / 3)) - (((5 * n) + (3 * nI k)) + (n / 3)) / 16 * 16) = nI V := by
  have en : n = nI n.toInt.toNat := Dn_of (by omega) (by omega)
  have ln : n.toInt.toNat ≤ 15 := by omega
  generalize n.toInt.toNat = N at en ln
  have e : ((n * 5) + (3 * nI k)) + (n / 3) = nI (N * 5 + 3 * k + N / 3) := by
    rw [en, show (5 : Int32) = nI 5 from rfl, show (3 : Int32) = nI 3 from rfl, pk_mul, pk_mul, pk_div (by omega) (by decide) (by decide), nI_add, nI_add]
  have e2 : (5 * n) = n * 5 := Int32.mul_comm _ _
  refine ⟨(N * 5 + 3 * k + N / 3) % 16, by omega, ?_, ?_⟩
  · rw [e, show (16 : Int32) = nI 16 from rfl, pk_rem (by omega) (by decide) (by decide)]
  · rw [e2, e, show (16 : Int32) = nI 16 from rfl, pk_rem (by omega) (by decide) (by decide)]
theorem le_core {rows pat ops nums now : Nat → Int32} {cnt osz a0 a1 a2 a3 a4 : Int32} (h : Rs rows pat ops cnt now) (e0 : f_X1_numberAt nums osz 0 = a0) (e1 : f_X1_numberAt nums osz 1 = a1) (e2 : f_X1_numberAt nums osz 2 = a2) (e3 : f_X1_numberAt nums osz 3 = a3) (e4 : f_X1_numberAt nums osz 4 = a4)
    (h0 : pT a0) (h1 : 0 ≤ a1.toInt ∧ a1.toInt ≤ 15) (h2 : pX a2) (h3 : pX a3) :
    f_X3_writesLetter rows pat ops cnt nums osz = f_X9_letters now a0 a1 a2 a3 a4 ∧ Rs (g_X3_writesLetter_rows rows pat ops cnt nums osz) pat ops cnt (g_X9_letters_now now a0 a1 a2 a3 a4) := by
  obtain ⟨b2, b2'⟩ := h2
  obtain ⟨b3, b3'⟩ := h3
  have key : ∀ i : Nat, i ≤ 4 → (s_X3_writesLetter_32 rows pat ops cnt nums osz i).1 = (s_X9_letters_6 now a0 a1 a2 a3 a4 i).1 ∧ Rs (s_X3_writesLetter_32 rows pat ops cnt nums osz i).2 pat ops cnt (s_X9_letters_6 now a0 a1 a2 a3 a4 i).2 := by
    intro i
    induction i with
    | zero => intro _; exact ⟨rfl, h⟩
    | succ i ih =>
      intro hi
      obtain ⟨hz1, hz2⟩ := ih (by omega)
      obtain ⟨V, hV, v1, v2⟩ := le_row (n := a1) (k := i) h1 (by omega)
      unfold s_X3_writesLetter_32 b_X3_writesLetter_32
      simp only [e0, e1, e2, e3, e4]
      have hj := jr (f := s_X9_letters_32 a0 a1 a2 a3 a4 i (s_X9_letters_6 now a0 a1 a2 a3 a4 i)) (c0 := (s_X9_letters_6 now a0 a1 a2 a3 a4 i).1) (w := 4) (X := a2) (y := a3 + nI i) (t := a0) (join := a4)
          (source := f_X8_shifted (f_X3_letterRow a1 (nI i)) a2) (mask := f_X8_spanMask a2 4) (sv := fun j => (((((5 * a1) + (3 * (nI i))) + (a1 / 3)) - (((5 * a1) + (3 * (nI i))) + (a1 / 3)) / 16 * 16) >>> ((3 - (nI j)) &&& 31)) &&& 1)
          hz2 h0 (by omega) (by omega) (fun x hx0 hx1 => by rw [D_span (by omega) (by decide) hx0 hx1]; rfl) rfl (fun j hj => rfl) (fun j hj hx0 hx1 => by
            rw [v2, D_shifted _ _ hx0 hx1, show a2.toInt + (j : Int) - a2.toInt = (j : Int) by omega]
            unfold f_X3_letterRow
            rw [v1, show (28 : Int32) = nI 28 from rfl, D_shl (by decide) _ (by omega) (by omega), sh_and1 (n := 3 - j) (by rw [show (3 : Int32) = nI 3 from rfl, pk_sub (by omega)]) (by omega), D_in (by omega) (by omega)]
            congr 3
            omega)
      have eb : s_X9_letters_6 now a0 a1 a2 a3 a4 (i + 1) = ((s_X9_letters_32 a0 a1 a2 a3 a4 i (s_X9_letters_6 now a0 a1 a2 a3 a4 i) 4).1, (s_X9_letters_32 a0 a1 a2 a3 a4 i (s_X9_letters_6 now a0 a1 a2 a3 a4 i) 4).2) := rfl
      rw [eb]
      generalize s_X9_letters_32 a0 a1 a2 a3 a4 i (s_X9_letters_6 now a0 a1 a2 a3 a4 i) 4 = G at hj ⊢
      refine ⟨?_, ?_⟩
      · rw [hz1]
        exact hj.1.symm
      · exact hj.2
  exact key 4 (Nat.le_refl _)
