/-- the least or the greatest of Q, or -1 -/
def isE (le : Bool) (Q : Nat → Prop) (r : Int32) : Prop := (r = -1 ∧ ∀ v, ¬ Q v) ∨ ∃ v, Q v ∧ r = nI v ∧ ∀ w, Q w → (if le then v ≤ w else w ≤ v)
theorem isE.uniq {le : Bool} {Q : Nat → Prop} {r r' : Int32} (h : isE le Q r) (h' : isE le Q r') : r = r' := by
  rcases h with ⟨a, b⟩ | ⟨v, a, b, c⟩ <;> rcases h' with ⟨a', b'⟩ | ⟨v', a', b', c'⟩
  · rw [a, a']
  · exact absurd a' (b v')
  · exact absurd a (b' v)
  · have k := c v' a'
    have k' := c' v a
    have e : v = v' := by
      cases le
      · rw [bft] at k k'; omega
      · rw [if_pos rfl] at k k'; omega
    rw [b, b', e]
theorem nI_le_iff {a b : Nat} (ha : a < 1000) (hb : b < 1000) : nI a ≤ nI b ↔ a ≤ b := by
  rw [Int32.le_iff_toInt_le, nI_toInt (by omega), nI_toInt (by omega)]
  omega
theorem nI_m1 {a : Nat} (ha : a < 1000) : ¬ nI a = -1 := fun h => by
  have := congrArg Int32.toInt h
  rw [nI_toInt (by omega)] at this
  have k : (-1 : Int32).toInt = -1 := by decide
  omega
def co (isX : Int32) (k : Nat) : Nat := if isX = 0 then k / 32 else k % 32
theorem co_lt {isX : Int32} {k : Nat} (h : k < 768) : co isX k < 32 := by
  unfold co
  by_cases z : isX = 0
  · rw [if_pos z]; omega
  · rw [if_neg z]; omega
theorem edge_n {now : Nat → Int32} {t isX il : Int32} (hT : pT t) : ∀ n, n ≤ 768 → (s_X9_edge_6 now t isX il n = -1 ∧ ∀ k, k < n → ¬ dk now t k) ∨ ∃ k0, k0 < n ∧ dk now t k0 ∧ s_X9_edge_6 now t isX il n = nI (co isX k0) ∧ ∀ k, k < n → dk now t k → (if il = 0 then co isX k ≤ co isX k0 else co isX k0 ≤ co isX k)
  | 0, _ => Or.inl ⟨rfl, fun k hk => absurd hk (Nat.not_lt_zero k)⟩
  | n + 1, hn => by
    have ih := edge_n (now := now) (isX := isX) (il := il) hT n (by omega)
    have e : s_X9_edge_6 now t isX il (n + 1) = b_X9_edge_6 now t isX il n (s_X9_edge_6 now t isX il n) := rfl
    rw [e]
    generalize s_X9_edge_6 now t isX il n = z at *
    unfold b_X9_edge_6
    rw [rm32 (by omega), dv32 (by omega)]
    have ec : (if isX = 0 then nI (n / 32) else nI (n % 32) : Int32) = nI (co isX n) := by
      unfold co
      by_cases w : isX = 0
      · rw [if_pos w, if_pos w]
      · rw [if_neg w, if_neg w]
    rw [ec]
    have cl := co_lt (isX := isX) (k := n) (by omega)
    have hd := dk_e (now := now) (t := t) (k := n) hT (by omega)
    have sp : ∀ k, k < n + 1 → k = n ∨ k < n := fun k hk => by omega
    rcases ih with ⟨a, b⟩ | ⟨k0, a, b, c, d⟩
    · rw [if_pos a, if_neg (c := (1 : Int32) = 0) (by decide)]
      by_cases w : f_X9_dotOf now t (nI (n % 32)) (nI (n / 32)) = 1
      · rw [if_pos w]
        refine Or.inr ⟨n, by omega, hd.mp w, rfl, fun k hk hk2 => ?_⟩
        rcases sp k hk with q | q
        · rw [q]; by_cases u : il = 0
          · rw [if_pos u]; exact Nat.le_refl _
          · rw [if_neg u]; exact Nat.le_refl _
        · exact absurd hk2 (b k q)
      · rw [if_neg w]
        refine Or.inl ⟨a, fun k hk hk2 => ?_⟩
        rcases sp k hk with q | q
        · rw [q] at hk2; exact w (hd.mpr hk2)
        · exact b k q hk2
    · have cl0 := co_lt (isX := isX) (k := k0) (by omega)
      rw [c, if_neg (nI_m1 (by omega))]
      have l1 := nI_le_iff (a := co isX n) (b := co isX k0) (by omega) (by omega)
      have l2 := nI_le_iff (a := co isX k0) (b := co isX n) (by omega) (by omega)
      have stay : (dk now t n → (if il = 0 then co isX n ≤ co isX k0 else co isX k0 ≤ co isX n)) → ((nI (co isX k0) = -1 ∧ ∀ k, k < n + 1 → ¬ dk now t k) ∨ ∃ k1, k1 < n + 1 ∧ dk now t k1 ∧ nI (co isX k0) = nI (co isX k1) ∧ ∀ k, k < n + 1 → dk now t k → (if il = 0 then co isX k ≤ co isX k1 else co isX k1 ≤ co isX k)) := fun hs => by
        refine Or.inr ⟨k0, by omega, b, rfl, fun k hk hk2 => ?_⟩
        rcases sp k hk with q | q
        · rw [q] at hk2 ⊢; exact hs hk2
        · exact d k q hk2
      have go : (if il = 0 then co isX k0 ≤ co isX n else co isX n ≤ co isX k0) → ((if f_X9_dotOf now t (nI (n % 32)) (nI (n / 32)) = 1 then nI (co isX n) else nI (co isX k0)) = -1 ∧ ∀ k, k < n + 1 → ¬ dk now t k) ∨ ∃ k1, k1 < n + 1 ∧ dk now t k1 ∧ (if f_X9_dotOf now t (nI (n % 32)) (nI (n / 32)) = 1 then nI (co isX n) else nI (co isX k0)) = nI (co isX k1) ∧ ∀ k, k < n + 1 → dk now t k → (if il = 0 then co isX k ≤ co isX k1 else co isX k1 ≤ co isX k) := fun hs => by
        by_cases w : f_X9_dotOf now t (nI (n % 32)) (nI (n / 32)) = 1
        · rw [if_pos w]
          refine Or.inr ⟨n, by omega, hd.mp w, rfl, fun k hk hk2 => ?_⟩
          rcases sp k hk with q | q
          · rw [q]; by_cases u : il = 0
            · rw [if_pos u]; exact Nat.le_refl _
            · rw [if_neg u]; exact Nat.le_refl _
          · have k3 := d k q hk2
            by_cases u : il = 0
            · rw [if_pos u] at hs k3 ⊢; omega
            · rw [if_neg u] at hs k3 ⊢; omega
        · rw [if_neg w]
          exact stay fun hk => absurd (hd.mpr hk) w
      by_cases u : il = 0
      · rw [if_pos u]
        by_cases q : nI (co isX n) ≤ nI (co isX k0)
        · rw [if_pos q, i00]
          exact stay fun _ => by rw [if_pos u]; exact l1.mp q
        · rw [if_neg q, i10]
          have q2 : ¬ co isX n ≤ co isX k0 := fun z => q (l1.mpr z)
          exact go (by rw [if_pos u]; omega)
      · rw [if_neg u]
        by_cases q : nI (co isX k0) ≤ nI (co isX n)
        · rw [if_pos q, i00]
          exact stay fun _ => by rw [if_neg u]; exact l2.mp q
        · rw [if_neg q, i10]
          have q2 : ¬ co isX k0 ≤ co isX n := fun z => q (l2.mpr z)
          exact go (by rw [if_neg u]; omega)
def qX (now : Nat → Int32) (t : Int32) (v : Nat) : Prop := v < 32 ∧ ∃ y, y < 24 ∧ Dx (now (24 * t.toInt.toNat + y)) (v : Int) = true
def qY (now : Nat → Int32) (t : Int32) (v : Nat) : Prop := v < 24 ∧ ∃ x : Nat, x < 32 ∧ Dx (now (24 * t.toInt.toNat + v)) (x : Int) = true
theorem edge_i {now : Nat → Int32} {t isX il : Int32} (hT : pT t) : isE (decide (¬ il = 0)) (fun v => ∃ k, k < 768 ∧ dk now t k ∧ co isX k = v) (f_X9_edge now t isX il) := by
  unfold f_X9_edge
  rcases edge_n (now := now) (isX := isX) (il := il) hT 768 (Nat.le_refl _) with ⟨a, b⟩ | ⟨k0, a, b, c, d⟩
  · exact Or.inl ⟨a, fun v ⟨k, k1, k2, _⟩ => b k k1 k2⟩
  · refine Or.inr ⟨co isX k0, ⟨k0, a, b, rfl⟩, c, fun w ⟨k, k1, k2, k3⟩ => ?_⟩
    have k4 := d k k1 k2
    rw [k3] at k4
    by_cases u : il = 0
    · rw [if_pos u] at k4
      rw [decide_eq_false (fun z => z u), bft]; exact k4
    · rw [if_neg u] at k4
      rw [decide_eq_true u, if_pos rfl]; exact k4
theorem edge_X {now : Nat → Int32} {t il : Int32} (hT : pT t) : isE (decide (¬ il = 0)) (qX now t) (f_X9_edge now t 1 il) := by
  have k := edge_i (now := now) (isX := 1) (il := il) hT
  have e : (fun v => ∃ k, k < 768 ∧ dk now t k ∧ co 1 k = v) = qX now t := funext fun v => propext ⟨fun ⟨k, k1, k2, k3⟩ => by
    have e : co 1 k = k % 32 := if_neg (by decide)
    rw [e] at k3
    refine ⟨by omega, k / 32, by omega, ?_⟩
    unfold dk at k2
    rw [k3] at k2; exact k2, fun ⟨h1, y, hy, hd⟩ => by
    have e : co 1 (32 * y + v) = (32 * y + v) % 32 := if_neg (by decide)
    refine ⟨32 * y + v, by omega, ?_, by rw [e]; omega⟩
    unfold dk
    rw [show (32 * y + v) % 32 = v by omega, show (32 * y + v) / 32 = y by omega]; exact hd⟩
  rw [e] at k; exact k
theorem edge_Y {now : Nat → Int32} {t il : Int32} (hT : pT t) : isE (decide (¬ il = 0)) (qY now t) (f_X9_edge now t 0 il) := by
  have k := edge_i (now := now) (isX := 0) (il := il) hT
  have e : (fun v => ∃ k, k < 768 ∧ dk now t k ∧ co 0 k = v) = qY now t := funext fun v => propext ⟨fun ⟨k, k1, k2, k3⟩ => by
    have e : co 0 k = k / 32 := if_pos rfl
    rw [e] at k3
    refine ⟨by omega, k % 32, by omega, ?_⟩
    unfold dk at k2
    rw [k3] at k2; exact k2, fun ⟨h1, x, hx, hd⟩ => by
    have e : co 0 (32 * v + x) = (32 * v + x) / 32 := if_pos rfl
    refine ⟨32 * v + x, by omega, ?_, by rw [e]; omega⟩
    unfold dk
    rw [show (32 * v + x) % 32 = x by omega, show (32 * v + x) / 32 = v by omega]; exact hd⟩
  rw [e] at k; exact k
theorem cols_e {rows pat ops now : Nat → Int32} {cnt t : Int32} (h : Rs rows pat ops cnt now) (hT : pT t) (x : Nat) : Dx (f_X0_columnsOf rows t) (x : Int) = true ↔ qX now t x := by
  have key : ∀ n, n ≤ 24 → (Dx (s_X0_columnsOf_4 rows t n) (x : Int) = true ↔ ∃ y, y < n ∧ Dx (now (24 * t.toInt.toNat + y)) (x : Int) = true) := by
    intro n
    induction n with
    | zero =>
      intro _
      show Dx 0 (x : Int) = true ↔ _
      rw [D_0]
      exact ⟨fun w => (by cases w), fun ⟨y, hy, _⟩ => absurd hy (Nat.not_lt_zero y)⟩
    | succ n ih =>
      intro hn
      show Dx (s_X0_columnsOf_4 rows t n ||| f_X6_rowAt rows t (nI n)) (x : Int) = true ↔ _
      rw [D_or, Bool.or_eq_true, ih (by omega), rowAt_e hT (pY_n (by omega)), h.1 _ (rN_lt hT (pY_n (by omega))), rN_e (by omega)]
      constructor
      · rintro (⟨y, hy, hd⟩ | hd)
        · exact ⟨y, by omega, hd⟩
        · exact ⟨n, by omega, hd⟩
      · rintro ⟨y, hy, hd⟩
        by_cases q : y = n
        · rw [q] at hd; exact Or.inr hd
        · exact Or.inl ⟨y, by omega, hd⟩
  unfold f_X0_columnsOf
  rw [key 24 (Nat.le_refl _)]
  exact ⟨fun w => ⟨by obtain ⟨y, -, hd⟩ := w; have := (D_t hd).2; omega, w⟩, fun w => w.2⟩
theorem row_q {rows pat ops now : Nat → Int32} {cnt t : Int32} (h : Rs rows pat ops cnt now) (hT : pT t) {y : Nat} (hy : y < 24) : ¬ f_X6_rowAt rows t (nI y) = 0 ↔ qY now t y := by
  rw [rowAt_e hT (pY_n hy), h.1 _ (rN_lt hT (pY_n hy)), rN_e hy]
  constructor
  · intro w; exact ⟨hy, D_ne w⟩
  · rintro ⟨-, x, hx, hd⟩ e
    rw [e, D_0] at hd; cases hd
theorem col_q {rows pat ops now : Nat → Int32} {cnt t : Int32} (h : Rs rows pat ops cnt now) (hT : pT t) {x : Nat} (hx : x < 32) : ¬ (f_X0_columnsOf rows t &&& f_X8_dotMask (nI x)) = 0 ↔ qX now t x := by
  rw [and_mask (xN hx).1, (xN hx).2, ← cols_e h hT x]
  cases Dx (f_X0_columnsOf rows t) (x : Int) <;> simp
theorem lX_e {rows pat ops now : Nat → Int32} {cnt t : Int32} (h : Rs rows pat ops cnt now) (hT : pT t) : ∀ n i, n + i = 32 → (∀ v, v < i → ¬ qX now t v) → isE true (qX now t) (r_X0_leastX_8 rows t n i ())
  | 0, i, hn, hv => Or.inl ⟨rfl, fun v w => hv v (by have := w.1; omega) w⟩
  | n + 1, i, hn, hv => by
    unfold r_X0_leastX_8
    have c := col_q h hT (x := i) (by omega)
    by_cases q : (f_X0_columnsOf rows t &&& f_X8_dotMask (nI i)) = 0
    · rw [if_pos q]
      refine lX_e h hT n (i + 1) (by omega) (fun v hv2 w => ?_)
      by_cases e : v = i
      · rw [e] at w; exact (c.mpr w) q
      · exact hv v (by omega) w
    · rw [if_neg q]
      refine Or.inr ⟨i, c.mp q, rfl, fun w hw => ?_⟩
      rw [if_pos rfl]
      exact Nat.not_lt.mp fun z => hv w z hw
theorem gX_e {rows pat ops now : Nat → Int32} {cnt t : Int32} (h : Rs rows pat ops cnt now) (hT : pT t) : ∀ n i, n + i = 32 → (∀ v, 32 ≤ v + i → ¬ qX now t v) → isE false (qX now t) (r_X0_greatestX_9 rows t n i ())
  | 0, i, hn, hv => Or.inl ⟨rfl, fun v w => hv v (by omega) w⟩
  | n + 1, i, hn, hv => by
    unfold r_X0_greatestX_9
    rw [pk_sub (by omega)]
    have c := col_q h hT (x := 31 - i) (by omega)
    by_cases q : (f_X0_columnsOf rows t &&& f_X8_dotMask (nI (31 - i))) = 0
    · rw [if_pos q]
      refine gX_e h hT n (i + 1) (by omega) (fun v hv2 w => ?_)
      by_cases e : v = 31 - i
      · rw [e] at w; exact (c.mpr w) q
      · exact hv v (by omega) w
    · rw [if_neg q]
      refine Or.inr ⟨31 - i, c.mp q, rfl, fun w hw => ?_⟩
      rw [bft]
      exact Nat.not_lt.mp fun z => hv w (by omega) hw
theorem lY_e {rows pat ops now : Nat → Int32} {cnt t : Int32} (h : Rs rows pat ops cnt now) (hT : pT t) : ∀ n i, n + i = 24 → (∀ v, v < i → ¬ qY now t v) → isE true (qY now t) (r_X0_leastY_2 rows t n i ())
  | 0, i, hn, hv => Or.inl ⟨rfl, fun v w => hv v (by have := w.1; omega) w⟩
  | n + 1, i, hn, hv => by
    unfold r_X0_leastY_2
    have c := row_q h hT (y := i) (by omega)
    by_cases q : f_X6_rowAt rows t (nI i) = 0
    · rw [if_pos q]
      refine lY_e h hT n (i + 1) (by omega) (fun v hv2 w => ?_)
      by_cases e : v = i
      · rw [e] at w; exact (c.mpr w) q
      · exact hv v (by omega) w
    · rw [if_neg q]
      refine Or.inr ⟨i, c.mp q, rfl, fun w hw => ?_⟩
      rw [if_pos rfl]
      exact Nat.not_lt.mp fun z => hv w z hw
theorem gY_e {rows pat ops now : Nat → Int32} {cnt t : Int32} (h : Rs rows pat ops cnt now) (hT : pT t) : ∀ n i, n + i = 24 → (∀ v, 24 ≤ v + i → ¬ qY now t v) → isE false (qY now t) (r_X0_greatestY_3 rows t n i ())
  | 0, i, hn, hv => Or.inl ⟨rfl, fun v w => hv v (by omega) w⟩
  | n + 1, i, hn, hv => by
    unfold r_X0_greatestY_3
    rw [pk_sub (by omega)]
    have c := row_q h hT (y := 23 - i) (by omega)
    by_cases q : f_X6_rowAt rows t (nI (23 - i)) = 0
    · rw [if_pos q]
      refine gY_e h hT n (i + 1) (by omega) (fun v hv2 w => ?_)
      by_cases e : v = 23 - i
      · rw [e] at w; exact (c.mpr w) q
      · exact hv v (by omega) w
    · rw [if_neg q]
      refine Or.inr ⟨23 - i, c.mp q, rfl, fun w hw => ?_⟩
      rw [bft]
      exact Nat.not_lt.mp fun z => hv w (by omega) hw
theorem od_e {rows pat ops now : Nat → Int32} {cnt : Int32} (h : Rs rows pat ops cnt now) : f_X0_openDots ops cnt = f_X9_openDots now := by
  symm
  refine grid_sum (f := fun k => s_X9_openDots_4 now k) (g := fun k => s_X0_openDots_4 ops cnt k) (P := fun x y => Dx (f_X6_openAt ops cnt (nI y)) (x : Int)) rfl (fun k hk => ?_) rfl (fun y hy => ?_)
  · show s_X9_openDots_4 now k + _ = _
    rw [rm32 (by omega), dv32 (by omega), open_eq h (xN (by omega)).1 (by rw [nI_toInt (by omega)]; omega), (xN (x := k % 32) (by omega)).2]
    cases Dx (f_X6_openAt ops cnt (nI (k / 32))) ((k % 32 : Nat) : Int) <;> rfl
  · show s_X0_openDots_4 ops cnt y + f_J6_bitCount_0f7a4 (f_X6_openAt ops cnt (nI y)) = _
    rw [bitCount_pc, pcn_D]
