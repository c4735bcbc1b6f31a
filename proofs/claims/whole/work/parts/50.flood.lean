theorem rN_e {t : Int32} {y : Nat} (hy : y < 24) : rN t (nI y) = 24 * t.toInt.toNat + y := by
  unfold rN
  rw [nI_toInt (by omega), Int.toNat_natCast]
theorem turn_1 {rows : Nat → Int32} {t : Int32} {y : Nat} {m : Int32} (hT : pT t) (hy : y < 24) : f_X6_turnsDots t (nI y) m = nI (pcn m) ∧ g_X6_turnsDots_rows rows t (nI y) m = upd rows (24 * t.toInt.toNat + y) (rows (24 * t.toInt.toNat + y) ^^^ m) := by
  unfold f_X6_turnsDots g_X6_turnsDots_rows
  rw [pic_eq, isP_i hT, isY_i (pY_n hy), i10, i10, i10, i10, bitCount_pc, (ix_row hT (pY_n hy)).2.1, nI_toInt (by omega), Int.toNat_natCast]
  exact ⟨rfl, rfl⟩
theorem turn_e {s : Nat → Int32 × (Nat → Int32)} {T rows : Nat → Int32} {t : Int32} (hT : pT t) (h0 : s 0 = (0, rows)) (hs : ∀ n, n < 24 → s (n + 1) = ((s n).1 + f_X6_turnsDots t (nI n) (T n), g_X6_turnsDots_rows (s n).2 t (nI n) (T n))) : ∀ n, n ≤ 24 → (∀ k, (s n).2 k = if 24 * t.toInt.toNat ≤ k ∧ k < 24 * t.toInt.toNat + n then rows k ^^^ T (k - 24 * t.toInt.toNat) else rows k)
  | 0, _ => fun k => by rw [h0, if_neg (by omega)]
  | n + 1, hn => fun k => by
    rw [hs n (by omega), (turn_1 hT (by omega)).2]
    dsimp only
    have ih := turn_e hT h0 hs n (by omega)
    by_cases z : k = 24 * t.toInt.toNat + n
    · rw [z, pk_us, ih, if_neg (by omega), if_pos (by omega), show 24 * t.toInt.toNat + n - 24 * t.toInt.toNat = n by omega]
    · rw [pk_un z, ih]
      by_cases q : 24 * t.toInt.toNat ≤ k ∧ k < 24 * t.toInt.toNat + n
      · rw [if_pos q, if_pos (by omega)]
      · rw [if_neg q, if_neg (by omega)]
theorem may_e {rows pat ops now : Nat → Int32} {cnt x y : Int32} (h : Rs rows pat ops cnt now) : f_X6_isOpen ops cnt x y = f_X9_mayFlood now x y := by
  unfold f_X9_mayFlood
  by_cases q : (0 ≤ x.toInt ∧ x.toInt ≤ 31) ∧ pY y
  · rw [isIn_i q.1 q.2, i10, isOpen_e h q.1 q.2, open_eq h q.1 (by obtain ⟨a, b⟩ := q.2; omega)]
    cases Dx (f_X6_openAt ops cnt y) x.toInt <;> rfl
  · rw [isIn_z q, i00]
    unfold f_X6_isOpen
    rw [inP_eq, isIn_z q, i00]
theorem fl_now {now pile came : Nat → Int32} {t x y : Int32} {lb : Bool} (hT : pT t) (hl : f_X9_dotOf now t x y = if lb then 1 else 0) : ∀ n, n ≤ 768 → (∀ m, ¬ (24 * t.toInt.toNat ≤ m ∧ m < 24 * t.toInt.toNat + 24) → s_X9_floods_28 now pile came t x y n m = now m) ∧ ∀ Y X : Nat, Y < 24 → X < 32 → Dx (s_X9_floods_28 now pile came t x y n (24 * t.toInt.toNat + Y)) (X : Int) = if 32 * Y + X < n ∧ ¬ g_X9_spreads_came now pile (g_X9_noneCame_came came) t x y 1 (32 * Y + X) = 0 then !lb else Dx (now (24 * t.toInt.toNat + Y)) (X : Int)
  | 0, _ => ⟨fun _ _ => rfl, fun Y X _ _ => by rw [if_neg (fun w => absurd w.1 (Nat.not_lt_zero _))]; rfl⟩
  | n + 1, hn => by
    obtain ⟨i1, i2⟩ := fl_now hT hl n (by omega)
    have e : s_X9_floods_28 now pile came t x y (n + 1) = b_X9_floods_28 now pile came t x y n (s_X9_floods_28 now pile came t x y n) := rfl
    rw [e]
    unfold b_X9_floods_28
    rw [nI_clamp (by omega), rm32 (by omega), dv32 (by omega), hl]
    generalize g_X9_spreads_came now pile (g_X9_noneCame_came came) t x y 1 = cm at *
    generalize s_X9_floods_28 now pile came t x y n = N at *
    by_cases hc : cm n = 0
    · rw [if_pos hc]
      refine ⟨i1, fun Y X hY hX => ?_⟩
      rw [i2 Y X hY hX]
      by_cases q : 32 * Y + X = n
      · rw [q, if_neg (fun w => w.2 hc), if_neg (fun w => w.2 hc)]
      · by_cases q2 : 32 * Y + X < n ∧ ¬ cm (32 * Y + X) = 0
        · rw [if_pos q2, if_pos ⟨by omega, q2.2⟩]
        · rw [if_neg q2, if_neg (fun w => q2 ⟨by omega, w.2⟩)]
    · rw [if_neg hc]
      obtain ⟨r, e1, e2, -⟩ := sets_e (now := N) (t := t) (x := nI (n % 32)) (y := nI (n / 32)) (v := 1 - (if lb then 1 else 0)) (b := !lb) hT (xN (by omega)).1 (pY_n (by omega)) (by cases lb <;> rfl)
      rw [e1, rN_e (by omega)]
      rw [rN_e (by omega), (xN (x := n % 32) (by omega)).2] at e2
      refine ⟨fun m hm => ?_, fun Y X hY hX => ?_⟩
      · rw [pk_un (by omega)]; exact i1 m hm
      · by_cases q : Y = n / 32
        · rw [← q] at e2 ⊢
          rw [pk_us, e2 X (by omega) (by omega)]
          by_cases q3 : X = n % 32
          · have q4 : 32 * Y + X = n := by omega
            rw [if_pos (by omega), q4, if_pos ⟨by omega, hc⟩]
          · rw [if_neg (by omega), i2 Y X hY hX]
            by_cases q2 : 32 * Y + X < n ∧ ¬ cm (32 * Y + X) = 0
            · rw [if_pos q2, if_pos ⟨by omega, q2.2⟩]
            · rw [if_neg q2, if_neg (fun w => q2 ⟨by omega, w.2⟩)]
        · rw [pk_un (by omega), i2 Y X hY hX]
          by_cases q2 : 32 * Y + X < n ∧ ¬ cm (32 * Y + X) = 0
          · rw [if_pos q2, if_pos ⟨by omega, q2.2⟩]
          · rw [if_neg q2, if_neg (fun w => q2 ⟨by omega, w.2⟩)]
theorem fl_like {like rows ops left : Nat → Int32} {cnt t x y : Int32} : (∀ n, n ≤ 24 → ∀ k, (s_X3_floods_38 like rows ops cnt left t x y n).1 k = if k < n then ((f_X6_rowAt rows t (nI k)) ^^^ (if (f_X6_dotAt rows t x y) = 1 then 0 else (-1) : Int32)) &&& (f_X6_openAt ops cnt (nI k)) else like k) ∧ ∀ n, n ≤ 24 → ∀ k, (s_X3_floods_38 like rows ops cnt left t x y n).2 k = if k < n then ((f_X6_rowAt rows t (nI k)) ^^^ (if (f_X6_dotAt rows t x y) = 1 then 0 else (-1) : Int32)) &&& (f_X6_openAt ops cnt (nI k)) else left k :=
  ⟨fill_e (s := fun n => (s_X3_floods_38 like rows ops cnt left t x y n).1) (F := fun k => ((f_X6_rowAt rows t (nI k)) ^^^ (if (f_X6_dotAt rows t x y) = 1 then 0 else (-1) : Int32)) &&& (f_X6_openAt ops cnt (nI k))) (base := like) (N := 24) (by decide) rfl (fun n hn => rfl),
   fill_e (s := fun n => (s_X3_floods_38 like rows ops cnt left t x y n).2) (F := fun k => ((f_X6_rowAt rows t (nI k)) ^^^ (if (f_X6_dotAt rows t x y) = 1 then 0 else (-1) : Int32)) &&& (f_X6_openAt ops cnt (nI k))) (base := left) (N := 24) (by decide) rfl (fun n hn => by
    show upd (s_X3_floods_38 like rows ops cnt left t x y n).2 (nI n).toNatClampNeg (upd (s_X3_floods_38 like rows ops cnt left t x y n).1 (nI n).toNatClampNeg _ (nI n).toNatClampNeg) = _
    rw [pk_us])⟩
theorem D_turn {lb : Bool} {z : Int} (h0 : 0 ≤ z) (h1 : z < 32) : Dx (if (if lb then 1 else 0 : Int32) = 1 then 0 else (-1) : Int32) z = !lb := by
  cases lb
  · rw [if_neg (by decide)]; exact D_m1 h0 h1
  · rw [if_pos (by decide)]; exact D_0 z
theorem fl_core {like rows pat ops now left srow sdot pile came : Nat → Int32} {cnt t x y : Int32} (h : Rs rows pat ops cnt now) (hT : pT t) (ho : ¬ f_X6_isOpen ops cnt x y = 0) : f_X3_floods like rows ops cnt left srow sdot t x y = f_X9_floods now pile came t x y ∧ Rs (g_X3_floods_rows like rows ops cnt left srow sdot t x y) pat ops cnt (g_X9_floods_now now pile came t x y) := by
  have hin : (0 ≤ x.toInt ∧ x.toInt ≤ 31) ∧ pY y := by
    refine Classical.byContradiction fun w => ho ?_
    unfold f_X6_isOpen
    rw [inP_eq, isIn_z w, i00]
  have hoe := isOpen_e h hin.1 hin.2
  unfold f_X3_floods g_X3_floods_rows f_X9_floods g_X9_floods_now
  rw [if_neg ho, if_neg ho]
  rw [hoe] at ho
  obtain ⟨y0, hy0, eY⟩ : ∃ y' : Nat, y' < 24 ∧ y = nI y' := ⟨y.toInt.toNat, by have := hin.2.1; have := hin.2.2; omega, Dn_of (by have := hin.2.1; omega) (by have := hin.2.2; omega)⟩
  obtain ⟨x0, hx0, eX⟩ : ∃ x' : Nat, x' < 32 ∧ x = nI x' := ⟨x.toInt.toNat, by omega, Dn_of (by omega) (by omega)⟩
  obtain ⟨lb, hlb⟩ : ∃ lb : Bool, f_X9_dotOf now t x y = if lb then 1 else 0 := ⟨_, dotOf_e hT hin.1 hin.2⟩
  have hda : f_X6_dotAt rows t x y = if lb then 1 else 0 := (dotAt_e h hT).trans hlb
  have flk := @fl_like like rows ops left cnt t x y
  rw [hda] at flk
  have eb : ∀ n, b_X3_floods_116 like rows ops cnt left srow sdot t x y n = fun z => (z.1 + f_X6_turnsDots t (nI n) (((s_X3_floods_38 like rows ops cnt left t x y 24).1 (nI n).toNatClampNeg) &&& ((g_X4_takesOut_left (s_X3_floods_38 like rows ops cnt left t x y 24).2 srow sdot y (f_X8_dotMask x) (nI n).toNatClampNeg) ^^^ (-1))), g_X6_turnsDots_rows z.2 t (nI n) (((s_X3_floods_38 like rows ops cnt left t x y 24).1 (nI n).toNatClampNeg) &&& ((g_X4_takesOut_left (s_X3_floods_38 like rows ops cnt left t x y 24).2 srow sdot y (f_X8_dotMask x) (nI n).toNatClampNeg) ^^^ (-1)))) := fun n => rfl
  have l1 := flk.1 24 (Nat.le_refl _)
  have l2 := flk.2 24 (Nat.le_refl _)
  generalize hs : s_X3_floods_38 like rows ops cnt left t x y 24 = S at eb l1 l2
  have dL : ∀ X Y : Nat, X < 32 → Y < 24 → Dx (((f_X6_rowAt rows t (nI Y)) ^^^ (if (if lb then 1 else 0 : Int32) = 1 then 0 else (-1) : Int32)) &&& (f_X6_openAt ops cnt (nI Y))) (X : Int) = ((Dx (now (24 * t.toInt.toNat + Y)) (X : Int) ^^ !lb) && Dx (f_X6_openAt ops cnt (nI Y)) (X : Int)) := fun X Y hX hY => by
    rw [D_and, D_xor, D_turn (by omega) (by omega), rowAt_e hT (pY_n hY), h.1 _ (rN_lt hT (pY_n hY)), rN_e hY]
  have gG : ∀ X Y, Gl S.2 X Y ↔ Gs now t (f_X9_dotOf now t x y) 1 X Y := fun X Y => by
    unfold Gl Gs
    by_cases q : X < 32 ∧ Y < 24
    · rw [l2 Y, if_pos q.2, dL X Y q.1 q.2, hlb, dotOf_e hT (xN q.1).1 (pY_n q.2), (xN q.1).2, rN_e q.2, open_eq h (xN q.1).1 (by rw [nI_toInt (by omega)]; omega), (xN q.1).2]
      have q1 := q.1
      have q2 := q.2
      cases Dx (now (24 * t.toInt.toNat + Y)) (X : Int) <;> cases lb <;> cases Dx (f_X6_openAt ops cnt (nI Y)) (X : Int) <;> simp [q1, q2]
    · constructor
      · intro g
        exact absurd ⟨by have := (D_t g.2).2; omega, g.1⟩ q
      · intro g
        exact absurd ⟨g.1, g.2.1⟩ q
  have hg0 : Gs now t (f_X9_dotOf now t x y) 1 x0 y0 := ⟨hx0, hy0, by rw [eX, eY], Or.inr (by rw [← eX, ← eY]; exact ho)⟩
  have tk := fun X Y => takes_e (L0 := S.2) (srow := srow) (sdot := sdot) (seed := f_X8_dotMask x) (x0 := x0) (y0 := y0) hy0 (fun z hz => by
    rw [D_mask (by omega) (by omega), decide_eq_true_iff, eX, (xN hx0).2]
    omega) X Y
  rw [← eY] at tk
  have sp := spreads_e (now := now) (pile := pile) (came0 := g_X9_noneCame_came came) (t := t) (ao := 1) hx0 hy0 (by rw [← eX, ← eY]; exact hg0) none_c
  rw [← eX, ← eY] at sp
  obtain ⟨sp1, sp2⟩ := sp
  have cz : cn (g_X9_noneCame_came came) 768 = 0 := cn_0 768 fun k hk => none_e hk
  rw [cz, Nat.sub_zero] at sp2
  have fn := fl_now (pile := pile) (came := came) hT hlb 768 (Nat.le_refl _)
  have cmE : ∀ X Y, Cm (g_X9_spreads_came now pile (g_X9_noneCame_came came) t x y 1) X Y ↔ Cmp (Gl S.2) x0 y0 X Y := fun X Y => by
    rw [sp1 X Y]
    have c2 := Cmp.cg (G := fun x' y' => Gs now t (f_X9_dotOf now t x y) 1 x' y' ∧ ¬ Cm (g_X9_noneCame_came came) x' y') (G' := Gl S.2) (fun a b => ⟨fun w => (gG a b).mpr w.1, fun w => ⟨(gG a b).mp w, none_c⟩⟩) (x0 := x0) (y0 := y0) (x := X) (y := Y)
    rw [c2]
    exact ⟨fun w => w.resolve_left none_c, Or.inr⟩
  rw [sp2]
  generalize g_X9_spreads_came now pile (g_X9_noneCame_came came) t x y 1 = cm at cmE fn ⊢
  generalize g_X4_takesOut_left S.2 srow sdot y (f_X8_dotMask x) = W at tk eb
  have gl0 : Gl S.2 x0 y0 := (gG x0 y0).mpr hg0
  have dT : ∀ X Y : Nat, X < 32 → Y < 24 → Dx (S.1 Y &&& (W Y ^^^ (-1))) (X : Int) = decide (¬ cm (32 * Y + X) = 0) := fun X Y hX hY => by
    have e12 : S.1 Y = S.2 Y := by rw [l1, l2, if_pos hY, if_pos hY]
    rw [D_and, D_not (by omega) (by omega), e12]
    have k1 := tk X Y
    have k2 := cmE X Y
    have k3 : Cm cm X Y ↔ ¬ cm (32 * Y + X) = 0 := ⟨fun w => w.2.2, fun w => ⟨hX, hY, w⟩⟩
    have k4 : Cmp (Gl S.2) x0 y0 X Y → Gl S.2 X Y := fun w => Cmp.inG w gl0
    have k5 : Gl S.2 X Y ↔ Dx (S.2 Y) (X : Int) = true := ⟨fun w => w.2, fun w => ⟨hY, w⟩⟩
    have k6 : Gl W X Y ↔ Dx (W Y) (X : Int) = true := ⟨fun w => w.2, fun w => ⟨hY, w⟩⟩
    by_cases c : Cmp (Gl S.2) x0 y0 X Y
    · have d1 := k5.mp (k4 c)
      have d2 : Dx (W Y) (X : Int) = false := by
        cases e : Dx (W Y) (X : Int) with
        | false => rfl
        | true => exact absurd ⟨gl0, c⟩ (k1.mp (k6.mpr e)).2
      rw [d1, d2, decide_eq_true (k3.mp (k2.mpr c))]
      rfl
    · rw [decide_eq_false (p := ¬ cm (32 * Y + X) = 0) (fun w => c (k2.mp (k3.mpr w)))]
      cases e : Dx (S.2 Y) (X : Int) with
      | false => rfl
      | true =>
        rw [k6.mp (k1.mpr ⟨k5.mpr e, fun w => c w.2⟩)]
        rfl
  have st : ∀ n, s_X3_floods_116 like rows ops cnt left srow sdot t x y (n + 1) = ((s_X3_floods_116 like rows ops cnt left srow sdot t x y n).1 + f_X6_turnsDots t (nI n) (S.1 (nI n).toNatClampNeg &&& (W (nI n).toNatClampNeg ^^^ (-1))), g_X6_turnsDots_rows (s_X3_floods_116 like rows ops cnt left srow sdot t x y n).2 t (nI n) (S.1 (nI n).toNatClampNeg &&& (W (nI n).toNatClampNeg ^^^ (-1)))) := fun n => by
    have q : s_X3_floods_116 like rows ops cnt left srow sdot t x y (n + 1) = b_X3_floods_116 like rows ops cnt left srow sdot t x y n (s_X3_floods_116 like rows ops cnt left srow sdot t x y n) := rfl
    rw [q, eb n]
  have st' : ∀ n, n < 24 → s_X3_floods_116 like rows ops cnt left srow sdot t x y (n + 1) = ((s_X3_floods_116 like rows ops cnt left srow sdot t x y n).1 + f_X6_turnsDots t (nI n) (S.1 n &&& (W n ^^^ (-1))), g_X6_turnsDots_rows (s_X3_floods_116 like rows ops cnt left srow sdot t x y n).2 t (nI n) (S.1 n &&& (W n ^^^ (-1)))) := fun n hn => by
    rw [st n, nI_clamp (by omega)]
  have s0 : s_X3_floods_116 like rows ops cnt left srow sdot t x y 0 = (0, rows) := rfl
  have tr := turn_e (T := fun n => S.1 n &&& (W n ^^^ (-1))) hT s0 st' 24 (Nat.le_refl _)
  constructor
  · symm
    refine grid_sum (f := fun k => nI (cn cm k)) (g := fun k => (s_X3_floods_116 like rows ops cnt left srow sdot t x y k).1) (P := fun X Y => decide (¬ cm (32 * Y + X) = 0)) rfl (fun k hk => ?_) (by rw [s0]) (fun Y hY => ?_)
    · have e : 32 * (k / 32) + k % 32 = k := by omega
      rw [e, nI_bool]
      show nI (cn cm k + (if cm k = 0 then 0 else 1)) = _
      by_cases q : cm k = 0
      · rw [if_pos q, decide_eq_false (p := ¬ cm k = 0) (fun w => w q), bft]
      · rw [if_neg q, decide_eq_true (p := ¬ cm k = 0) q, if_pos rfl]
    · show (s_X3_floods_116 like rows ops cnt left srow sdot t x y (Y + 1)).1 = _
      rw [st' Y hY, (turn_1 (rows := rows) hT hY).1, pcn_D]
      show _ = (s_X3_floods_116 like rows ops cnt left srow sdot t x y Y).1 + _
      rw [fb_ct_cong (fun X hX => dT X Y hX hY)]
  · have r0 := h.1
    have key : ∀ k, k < 72 → (s_X3_floods_116 like rows ops cnt left srow sdot t x y 24).2 k = s_X9_floods_28 now pile came t x y 768 k := fun k hk => by
      rw [tr k]
      by_cases q : 24 * t.toInt.toNat ≤ k ∧ k < 24 * t.toInt.toNat + 24
      · rw [if_pos q]
        obtain ⟨Y, hY, rfl⟩ : ∃ Y, Y < 24 ∧ k = 24 * t.toInt.toNat + Y := ⟨k - 24 * t.toInt.toNat, by omega, by omega⟩
        rw [show 24 * t.toInt.toNat + Y - 24 * t.toInt.toNat = Y by omega, r0 _ hk]
        refine D_ext fun z z0 z1 => ?_
        obtain ⟨X, rfl⟩ : ∃ X : Nat, z = (X : Int) := ⟨z.toNat, (Int.toNat_of_nonneg z0).symm⟩
        have hX : X < 32 := by omega
        rw [D_xor, dT X Y hX hY, fn.2 Y X hY hX]
        by_cases c : ¬ cm (32 * Y + X) = 0
        · rw [decide_eq_true c, if_pos ⟨by omega, c⟩]
          have k1 : Gs now t (f_X9_dotOf now t x y) 1 X Y := (gG X Y).mp (Cmp.inG ((cmE X Y).mp ⟨hX, hY, c⟩) gl0)
          have k2 := k1.2.2.1
          rw [hlb, dotOf_e hT (xN hX).1 (pY_n hY), (xN hX).2, rN_e hY, b01] at k2
          rw [k2, Bool.xor_true]
        · rw [decide_eq_false c, if_neg (fun w => c w.2), Bool.xor_false]
      · rw [if_neg q, fn.1 k q]; exact r0 k hk
    have o : ∀ k, 72 ≤ k → s_X9_floods_28 now pile came t x y 768 k = now k := fun k hk => fn.1 k (by have := hT.2; omega)
    obtain ⟨a1, a2, a3, a4, a5⟩ := h
    refine ⟨key, fun k hk => ?_, ?_, a4, fun k hk => ?_⟩
    · rw [o _ (by omega)]; exact a2 k hk
    · rw [o _ (by omega)]; exact a3
    · refine ⟨fun j hj => ?_, (a5 k hk).2⟩
      rw [o _ (by omega)]; exact (a5 k hk).1 j hj
