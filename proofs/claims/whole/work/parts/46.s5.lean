theorem dots_e {rows pat ops now : Nat → Int32} {cnt t : Int32} (h : Rs rows pat ops cnt now) (hT : pT t) : f_X0_ones rows t = f_X9_dots now t := by
  have inner : ∀ (k : Nat) (z : Int32) (i : Nat), s_X9_count_48 now t 0 0 k z i = s_X9_dots_13 now t k z i := by
    intro k z i
    induction i with
    | zero => rfl
    | succ i ih =>
      unfold s_X9_count_48 s_X9_dots_13 b_X9_count_48 b_X9_dots_13
      rw [ih, Int32.zero_add, Int32.zero_add]
  have outer : ∀ n, s_X9_count_38 now t 0 0 32 n = s_X9_dots_4 now t n := by
    intro n
    induction n with
    | zero => rfl
    | succ n ih =>
      unfold s_X9_count_38 s_X9_dots_4 b_X9_count_38 b_X9_dots_4
      rw [ih, inner, show (32 : Int32).toNatClampNeg = 32 from by decide]
  unfold f_X0_ones f_X9_dots
  rw [count_e h hT (by decide) (by decide) (by decide) (by decide), outer, show (24 : Int32).toNatClampNeg = 24 from by decide]
theorem nb_e {N : Nat} (hN : N < 2147483648) : f_X7_numberBehind (lN N) = lN ((N * 1103515245 + 12345) % 2147483648) := by
  unfold f_X7_numberBehind
  rw [show (1103515245 : Int64) = lN 1103515245 from rfl, show (12345 : Int64) = lN 12345 from rfl, show (2147483648 : Int64) = lN 2147483648 from rfl, lN_mul, lN_add, pk_lRem (by omega) (by decide) (by decide)]
theorem hi_e {N : Nat} (hN : N < 2147483648) : lN N / 32768 - lN N / 32768 / 65536 * 65536 = lN (N / 32768 % 65536) := by
  rw [show (32768 : Int64) = lN 32768 from rfl, show (65536 : Int64) = lN 65536 from rfl, pk_lDiv (by omega) (by decide) (by decide), pk_lRem (by omega) (by decide) (by decide)]
theorem dr_row {l r : Nat} (hl : l < 65536) (hr : r < 65536) : (((lN l).toInt32) <<< (16 &&& 31)) ||| (lN r).toInt32 = (65536 * (65536 * 0 + lN l) + lN r).toInt32 := by
  rw [lN_i, lN_i, pk_shlN (16 &&& 31) 16 (by decide) (by omega), Nat.mul_comm, fa_or_sum l (by omega), Int64.mul_zero, Int64.zero_add, show (65536 : Int64) = lN 65536 from rfl, lN_mul, lN_add, lN_i]
theorem dr_core {rows pat ops now : Nat → Int32} {cnt t seed : Int32} (h : Rs rows pat ops cnt now) (hT : pT t) (hs : 0 ≤ seed.toInt ∧ seed.toInt ≤ 999999) : Rs (g_X7_drawn_rows rows t seed) pat ops cnt (s_X9_draw_36 now t seed 24).2 := by
  have key : ∀ n, n ≤ 24 → (∃ N, N < 2147483648 ∧ (s_X7_drawn_6 rows t seed n).1 = lN N ∧ (s_X9_draw_36 now t seed n).1 = lN N) ∧ Rs (s_X7_drawn_6 rows t seed n).2 pat ops cnt (s_X9_draw_36 now t seed n).2 := by
    intro n
    induction n with
    | zero =>
      intro _
      have es : seed = nI seed.toInt.toNat := Dn_of (by omega) (by omega)
      refine ⟨⟨seed.toInt.toNat, by omega, ?_, ?_⟩, h⟩
      · show seed.toInt64 = _
        rw [es, nI_l (by omega), nI_toInt (by omega)]
        rfl
      · show seed.toInt64 = _
        rw [es, nI_l (by omega), nI_toInt (by omega)]
        rfl
    | succ n ih =>
      intro hn
      obtain ⟨⟨N, hN, e1, e2⟩, hR⟩ := ih (by omega)
      have hY : pY (nI n) := pY_n (by omega)
      have ea : s_X7_drawn_6 rows t seed (n + 1) = b_X7_drawn_6 t n (s_X7_drawn_6 rows t seed n) := rfl
      have eb : s_X9_draw_36 now t seed (n + 1) = b_X9_draw_36 t n (s_X9_draw_36 now t seed n) := rfl
      have ec : ∀ z : Int64 × (Nat → Int32), s_X9_draw_49 z 2 = (f_X7_numberBehind (f_X7_numberBehind z.1), 65536 * (65536 * 0 + (f_X7_numberBehind z.1 / 32768 - f_X7_numberBehind z.1 / 32768 / 65536 * 65536)) + (f_X7_numberBehind (f_X7_numberBehind z.1) / 32768 - f_X7_numberBehind (f_X7_numberBehind z.1) / 32768 / 65536 * 65536)) := fun z => rfl
      rw [ea, eb]
      unfold b_X7_drawn_6 b_X9_draw_36
      rw [ec]
      dsimp only
      have l1 : (N * 1103515245 + 12345) % 2147483648 < 2147483648 := Nat.mod_lt _ (by decide)
      generalize hN1 : (N * 1103515245 + 12345) % 2147483648 = N1 at l1
      have l2 : (N1 * 1103515245 + 12345) % 2147483648 < 2147483648 := Nat.mod_lt _ (by decide)
      rw [e1, e2, nb_e hN, hN1, nb_e l1]
      generalize (N1 * 1103515245 + 12345) % 2147483648 = N2 at l2
      rw [hi_e l1, hi_e l2]
      refine ⟨⟨N2, l2, rfl, rfl⟩, ?_⟩
      unfold g_X6_putRow_rows
      rw [pic_eq, isP_i hT, i10, isY_i hY, i10, (ix_row hT hY).2.1, (ix_row hT hY).1, dr_row (by omega) (by omega)]
      exact hR.upd (rN_lt hT hY) _
  exact (key 24 (Nat.le_refl _)).2

theorem sim_draw {rows : Nat → Int32} {pat : Nat → Int32} {ops : Nat → Int32} {cnt : Int32} {krows : Nat → Nat → Int32} {kpat : Nat → Nat → Int32} {kops : Nat → Nat → Int32} {kcnt : Nat → Int32} {next : Int32} {size : Int32} {bytes : Nat → Int32} {len : Int32} {bads : Int32} {noes : Int32} {fulls : Int32} {osz : Int32} {now : Nat → Int32} {past : Nat → Int32} {states : Int32} {refused : Nat → Int32} {text : Nat → Int32} {textL : Int32}  (h : Rel rows pat ops cnt krows kpat kops kcnt next size bytes len bads noes fulls osz now past states refused text textL) (A1 : Int32) (A2 : Int32) : f_X8_draw rows A1 A2 = f_X9_draw now A1 A2 ∧ Rel (g_X8_draw_rows rows A1 A2) pat ops cnt (g_X8_draw_krows rows krows next A1 A2) (g_X8_draw_kpat pat kpat next A1 A2) (g_X8_draw_kops ops kops next A1 A2) (g_X8_draw_kcnt cnt kcnt next A1 A2) (g_X8_draw_next next A1 A2) (g_X8_draw_size size A1 A2) bytes len (g_X8_draw_bads bads A1 A2) noes fulls osz (g_X9_draw_now now A1 A2) (g_X9_draw_past now past states A1 A2) (g_X9_draw_states states A1 A2) (g_X9_draw_refused refused A1 A2) text textL := by
  unfold f_X8_draw f_X9_draw g_X8_draw_bads g_X8_draw_rows g_X8_draw_krows g_X8_draw_kpat g_X8_draw_kops g_X8_draw_kcnt g_X8_draw_next g_X8_draw_size g_X9_draw_now g_X9_draw_past g_X9_draw_states g_X9_draw_refused
  rw [pic_eq, W_in (a' := 0) (b' := 999999) rfl rfl]
  by_cases q : f_X9_isPicture A1 = 0
  · simp only [if_pos q]
    exact ⟨rfl, h.bad⟩
  by_cases q2 : f_X9_in A2.toInt64 0 999999 = 0
  · simp only [if_neg q, if_pos q2]
    exact ⟨rfl, h.bad⟩
  simp only [if_neg q, if_neg q2]
  have b2 := mIn_ne q2
  rw [Int32.toInt_toInt64] at b2
  have hd := dr_core h.1 (mP_ne q) b2
  exact ⟨dots_e hd (mP_ne q), h.kept hd⟩

/-- whether w dots of a row are those of another -/
def rowL (a b : Int32) (x i : Int) : Nat → Bool
  | 0 => true
  | m + 1 => rowL a b x i m && (Dx a (x + m) == Dx b (i + m))
def blockL (a b : Nat → Int32) (x i : Int) (w : Nat) : Nat → Bool
  | 0 => true
  | k + 1 => blockL a b x i w k && rowL (a k) (b k) x i w
theorem bnot_beq (a b : Bool) : (if b = false then !a else a) = (a == b) := by cases a <;> cases b <;> rfl
theorem alike_e {row brow rs : Int32} {x : Int} (hb : ∀ m : Nat, m < 8 → Dx brow m = Dx rs (x + m)) {p : Int} (h0 : 0 ≤ p) (h1 : p < 32) : ∀ n : Nat, n ≤ 8 → Dx (s_X0_alikePlaces_5 row brow n) p = rowL rs row x p n
  | 0, _ => D_m1 h0 h1
  | n + 1, hn => by
    have ih := alike_e (row := row) hb h0 h1 n (by omega)
    have en : (-(nI n)).toInt = -(n : Int) := by rw [neg_t (by rw [nI_toInt (by omega)]; omega), nI_toInt (by omega)]
    have hsg : 0 ≤ f_X8_shifted brow (-(nI n)) ↔ Dx rs (x + n) = false := by
      have e0 : (0 : Int32).toInt = 0 := rfl
      rw [Int32.le_iff_toInt_le, e0, ge_bt, D_bt (by decide), show (31 : Int) - ((31 : Nat) : Int) = 0 by decide, D_shifted _ _ (by decide) (by decide), en, show (0 : Int) - -(n : Int) = n by omega, hb n (by omega)]
    unfold s_X0_alikePlaces_5 b_X0_alikePlaces_5 rowL
    by_cases q : 0 ≤ f_X8_shifted brow (-(nI n))
    · rw [if_pos q, D_and, ih, D_not h0 h1, i32_xor0, D_shifted _ _ h0 h1, en, hsg.mp q, show p - -(n : Int) = p + n by omega]
      cases Dx row (p + n) <;> rfl
    · rw [if_neg q, D_and, ih, D_not h0 h1, D_not h0 h1, D_shifted _ _ h0 h1, en, show p - -(n : Int) = p + n by omega]
      have q' : Dx rs (x + n) = true := by
        cases hh : Dx rs (x + n)
        · exact absurd (hsg.mpr hh) q
        · rfl
      rw [q']
      cases Dx row (p + n) <;> rfl
theorem ct_lim {L : Nat → Bool} {W : Nat} (hW : W ≤ 32) : fb_ct (fun p => decide (p < W) && L p) 32 = fb_ct L W := by
  have h := fb_ct_split (fun p => decide (p < W) && L p) W (32 - W)
  rw [show W + (32 - W) = 32 by omega] at h
  have h2 : fb_ct (fun k => decide (W + k < W) && L (W + k)) (32 - W) = 0 := fb_ct_zero.mpr fun k hk => by rw [decide_eq_false (by omega), Bool.false_and]
  have h3 : fb_ct (fun p => decide (p < W) && L p) W = fb_ct L W := fb_ct_cong fun k hk => by rw [decide_eq_true hk, Bool.true_and]
  omega
theorem like21 {now : Nat → Int32} {s x y t tx ty : Int32} {i6 w : Nat} {Pb : Bool} {ra rb : Int32} (hd : ∀ m : Nat, m < w → f_X9_dotOf now s (x + nI m) (y + nI i6) = (if Dx ra (x.toInt + m) then 1 else 0) ∧ f_X9_dotOf now t (tx + nI m) (ty + nI i6) = (if Dx rb (tx.toInt + m) then 1 else 0)) : ∀ (n i : Nat), i + n = w → r_X9_isLike_21 now s x y t tx ty i6 n i (if (Pb && rowL ra rb x.toInt tx.toInt i) then 1 else 0) = if (Pb && rowL ra rb x.toInt tx.toInt w) then 1 else 0
  | 0, i, e => by
    have : i = w := by omega
    rw [this]
    rfl
  | n + 1, i, e => by
    unfold r_X9_isLike_21
    have hr : rowL ra rb x.toInt tx.toInt (i + 1) = (rowL ra rb x.toInt tx.toInt i && (Dx ra (x.toInt + i) == Dx rb (tx.toInt + i))) := rfl
    have hw : ∀ k, rowL ra rb x.toInt tx.toInt i = false → rowL ra rb x.toInt tx.toInt (i + k) = false := by
      intro k hk
      induction k with
      | zero => exact hk
      | succ k ih =>
        show (rowL ra rb x.toInt tx.toInt (i + k) && _) = false
        rw [ih, Bool.false_and]
    have ih := like21 (Pb := Pb) hd n (i + 1) (by omega)
    rw [(hd i (by omega)).1, (hd i (by omega)).2]
    cases hP : Pb
    · rw [Bool.false_and, Bool.false_and, bft, i00]
    · cases hL : rowL ra rb x.toInt tx.toInt i
      · have h2 := hw (n + 1) hL
        rw [e] at h2
        rw [h2, Bool.and_false, bft, i00]
      · rw [hP, hr, hL] at ih
        rw [Bool.true_and, if_pos rfl, i10, b01i, ← ih]
        congr 1
        rw [Bool.true_and, Bool.true_and]
        cases Dx ra (x.toInt + i) <;> cases Dx rb (tx.toInt + i) <;> rfl
theorem like6 {now : Nat → Int32} {s x y t tx ty w : Int32} {h : Nat} {ra rb : Nat → Int32} (hd : ∀ k : Nat, k < h → ∀ m : Nat, m < w.toNatClampNeg → f_X9_dotOf now s (x + nI m) (y + nI k) = (if Dx (ra k) (x.toInt + m) then 1 else 0) ∧ f_X9_dotOf now t (tx + nI m) (ty + nI k) = (if Dx (rb k) (tx.toInt + m) then 1 else 0)) : ∀ (n i : Nat), i + n = h → r_X9_isLike_6 now s x y w t tx ty n i (if blockL ra rb x.toInt tx.toInt w.toNatClampNeg i then 1 else 0) = if blockL ra rb x.toInt tx.toInt w.toNatClampNeg h then 1 else 0
  | 0, i, e => by
    have : i = h := by omega
    rw [this]
    rfl
  | n + 1, i, e => by
    unfold r_X9_isLike_6
    have hw : ∀ k, blockL ra rb x.toInt tx.toInt w.toNatClampNeg i = false → blockL ra rb x.toInt tx.toInt w.toNatClampNeg (i + k) = false := by
      intro k hk
      induction k with
      | zero => exact hk
      | succ k ih =>
        show (blockL ra rb x.toInt tx.toInt w.toNatClampNeg (i + k) && _) = false
        rw [ih, Bool.false_and]
    have ih := like6 hd n (i + 1) (by omega)
    cases hL : blockL ra rb x.toInt tx.toInt w.toNatClampNeg i
    · have h2 := hw (n + 1) hL
      rw [e] at h2
      rw [h2, bft, i00]
    · rw [if_pos rfl, i10, ← ih]
      congr 1
      have h21 := like21 (Pb := true) (ra := ra i) (rb := rb i) (hd i (by omega)) w.toNatClampNeg 0 (by omega)
      rw [show rowL (ra i) (rb i) x.toInt tx.toInt 0 = true from rfl] at h21
      rw [show ((true && true) = true) from rfl] at h21
      rw [if_pos rfl] at h21
      rw [h21]
      show _ = if (blockL ra rb x.toInt tx.toInt w.toNatClampNeg i && rowL (ra i) (rb i) x.toInt tx.toInt w.toNatClampNeg) then 1 else 0
      rw [hL]
theorem fi_core {rows pat ops now block : Nat → Int32} {cnt s x y w hh t : Int32} (h : Rs rows pat ops cnt now) (hS : pT s) (hT : pT t) (hw : 1 ≤ w.toInt ∧ w.toInt ≤ 8) (hh8 : 1 ≤ hh.toInt ∧ hh.toInt ≤ 8) (hx : 0 ≤ x.toInt ∧ x.toInt ≤ 32 - w.toInt) (hy : 0 ≤ y.toInt ∧ y.toInt ≤ 24 - hh.toInt) :
    f_X0_placesOfBlock (g_X0_takesBlock_block block rows s x y hh) rows t w hh = s_X9_finds_84 now s x y w hh t (24 - hh.toNatClampNeg + 1) := by
  have ew : (w.toNatClampNeg : Int) = w.toInt := Int.toNat_of_nonneg (by omega)
  have eh : (hh.toNatClampNeg : Int) = hh.toInt := Int.toNat_of_nonneg (by omega)
  have i1 : (1 : Int32).toInt = 1 := rfl
  have i32' : (32 : Int32).toInt = 32 := rfl
  have ebl : ∀ k, k < hh.toNatClampNeg → g_X0_takesBlock_block block rows s x y hh k = f_X8_shifted (f_X6_rowAt rows s (y + nI k)) (-x) := fun k hk => by
    have hf := fill_e (s := s_X0_takesBlock_3 block rows s x y) (F := fun n => f_X8_shifted (f_X6_rowAt rows s (y + nI n)) (-x)) (base := block) (N := hh.toNatClampNeg) (by omega) rfl (fun n hn => rfl) hh.toNatClampNeg (Nat.le_refl _) k
    rw [if_pos hk] at hf
    exact hf
  have key : ∀ n, n ≤ 24 - hh.toNatClampNeg + 1 → s_X0_placesOfBlock_6 (g_X0_takesBlock_block block rows s x y hh) rows t w hh n = s_X9_finds_84 now s x y w hh t n := by
    intro n
    induction n with
    | zero => intro _; rfl
    | succ n ih =>
      intro hn
      have ea : s_X0_placesOfBlock_6 (g_X0_takesBlock_block block rows s x y hh) rows t w hh (n + 1) = s_X0_placesOfBlock_6 (g_X0_takesBlock_block block rows s x y hh) rows t w hh n + f_J6_bitCount_0f7a4 (s_X0_placesOfBlock_30 (g_X0_takesBlock_block block rows s x y hh) rows t w n hh.toNatClampNeg) := rfl
      have eb : s_X9_finds_84 now s x y w hh t (n + 1) = s_X9_finds_97 now s x y w hh t n (s_X9_finds_84 now s x y w hh t n) (32 - w.toNatClampNeg + 1) := rfl
      rw [ea, eb, ih (by omega)]
      have hP : ∀ p : Nat, p < 32 → ∀ k, k ≤ hh.toNatClampNeg → Dx (s_X0_placesOfBlock_30 (g_X0_takesBlock_block block rows s x y hh) rows t w n k) p = (decide (p < 32 - w.toNatClampNeg + 1) && blockL (fun k => f_X6_rowAt rows s (y + nI k)) (fun k => f_X6_rowAt rows t (nI n + nI k)) x.toInt p w.toNatClampNeg k) := by
        intro p hp k
        induction k with
        | zero =>
          intro _
          have e1 : (32 - w).toInt = 32 - w.toInt := by rw [tI_sub (by omega) (by omega), i32']
          have e2 : ((32 - w) + 1).toInt = 33 - w.toInt := by rw [tI_add (by omega) (by omega), e1, i1]; omega
          show Dx (f_X8_spanMask 0 ((32 - w) + 1)) p = _
          rw [D_span (by decide) (by omega) (by omega) (by omega), e2]
          show _ = (decide (p < 32 - w.toNatClampNeg + 1) && true)
          rw [Bool.and_true]
          congr 1
          rw [eq_iff_iff]
          have : (0 : Int32).toInt = 0 := rfl
          omega
        | succ k ihk =>
          intro hk
          have ec : s_X0_placesOfBlock_30 (g_X0_takesBlock_block block rows s x y hh) rows t w n (k + 1) = s_X0_placesOfBlock_30 (g_X0_takesBlock_block block rows s x y hh) rows t w n k &&& f_X0_alikePlaces (f_X6_rowAt rows t (nI n + nI k)) (g_X0_takesBlock_block block rows s x y hh (nI k).toNatClampNeg) w := rfl
          rw [ec, D_and, ihk (by omega), nI_clamp (by omega), ebl k (by omega)]
          have hal : Dx (f_X0_alikePlaces (f_X6_rowAt rows t (nI n + nI k)) (f_X8_shifted (f_X6_rowAt rows s (y + nI k)) (-x)) w) p = rowL (f_X6_rowAt rows s (y + nI k)) (f_X6_rowAt rows t (nI n + nI k)) x.toInt p w.toNatClampNeg := alike_e (fun m hm => by
            rw [D_shifted _ _ (by omega) (by omega), neg_t (by omega)]
            congr 1
            omega) (by omega) (by omega) w.toNatClampNeg (by omega)
          rw [hal]
          show _ = (decide (p < 32 - w.toNatClampNeg + 1) && (blockL _ _ x.toInt p w.toNatClampNeg k && rowL _ _ x.toInt p w.toNatClampNeg))
          rw [Bool.and_assoc]
      have hR : ∀ i, i < 32 - w.toNatClampNeg + 1 → s_X9_finds_97 now s x y w hh t n (s_X9_finds_84 now s x y w hh t n) (i + 1) = s_X9_finds_97 now s x y w hh t n (s_X9_finds_84 now s x y w hh t n) i + (if blockL (fun k => f_X6_rowAt rows s (y + nI k)) (fun k => f_X6_rowAt rows t (nI n + nI k)) x.toInt i w.toNatClampNeg hh.toNatClampNeg then 1 else 0 : Int32) := fun i hi => by
        show b_X9_finds_97 now s x y w hh t n i (s_X9_finds_97 now s x y w hh t n (s_X9_finds_84 now s x y w hh t n) i) = _
        unfold b_X9_finds_97
        have hl : f_X9_isLike now s x y w hh t (nI i) (nI n) = if blockL (fun k => f_X6_rowAt rows s (y + nI k)) (fun k => f_X6_rowAt rows t (nI n + nI k)) x.toInt i w.toNatClampNeg hh.toNatClampNeg then 1 else 0 := by
          have h6 := like6 (now := now) (s := s) (x := x) (y := y) (t := t) (tx := nI i) (ty := nI n) (w := w) (h := hh.toNatClampNeg) (ra := fun k => f_X6_rowAt rows s (y + nI k)) (rb := fun k => f_X6_rowAt rows t (nI n + nI k)) (fun k hk m hm => by
            rw [dot_row h.1 hS, dot_row h.1 hT, add_nI (by omega) (by omega), add_nI (by rw [nI_toInt (by omega)]; omega) (by omega)]
            exact ⟨rfl, rfl⟩) hh.toNatClampNeg 0 (by omega)
          rw [show blockL (fun k => f_X6_rowAt rows s (y + nI k)) (fun k => f_X6_rowAt rows t (nI n + nI k)) x.toInt (nI i).toInt w.toNatClampNeg 0 = true from rfl, if_pos rfl, nI_toInt (by omega)] at h6
          exact h6
        rw [hl]
        cases blockL (fun k => f_X6_rowAt rows s (y + nI k)) (fun k => f_X6_rowAt rows t (nI n + nI k)) x.toInt i w.toNatClampNeg hh.toNatClampNeg <;> rfl
      rw [row_sum rfl hR, bitCount_pc, pcn_D]
      congr 2
      rw [← ct_lim (W := 32 - w.toNatClampNeg + 1) (by omega)]
      exact fb_ct_cong fun p hp => hP p hp _ (Nat.le_refl _)
  exact key _ (Nat.le_refl _)

theorem sim_finds {rows : Nat → Int32} {pat : Nat → Int32} {ops : Nat → Int32} {cnt : Int32} {krows : Nat → Nat → Int32} {kpat : Nat → Nat → Int32} {kops : Nat → Nat → Int32} {kcnt : Nat → Int32} {next : Int32} {size : Int32} {bytes : Nat → Int32} {len : Int32} {bads : Int32} {noes : Int32} {fulls : Int32} {osz : Int32} {now : Nat → Int32} {past : Nat → Int32} {states : Int32} {refused : Nat → Int32} {text : Nat → Int32} {textL : Int32} {block : Nat → Int32} (h : Rel rows pat ops cnt krows kpat kops kcnt next size bytes len bads noes fulls osz now past states refused text textL) (A1 : Int32) (A2 : Int32) (A3 : Int32) (A4 : Int32) (A5 : Int32) (A6 : Int32) : f_X8_finds rows block A1 A2 A3 A4 A5 A6 = f_X9_finds now A1 A2 A3 A4 A5 A6 ∧ Rel rows pat ops cnt krows kpat kops kcnt next size bytes len (g_X8_finds_bads bads A1 A2 A3 A4 A5 A6) noes fulls osz now past states (g_X9_finds_refused refused A1 A2 A3 A4 A5 A6) text textL := by
  unfold f_X8_finds f_X9_finds g_X8_finds_bads g_X9_finds_refused
  rw [pic_eq, pic_eq, W_in (v := A4) (a' := 1) (b' := 8) rfl rfl, W_in (v := A5) (a' := 1) (b' := 8) rfl rfl, W_in (v := A2) (a' := 0) (b' := (32 - A4).toInt64) rfl (Int32.toInt_toInt64 _), W_in (v := A3) (a' := 0) (b' := (24 - A5).toInt64) rfl (Int32.toInt_toInt64 _)]
  by_cases q1 : f_X9_isPicture A1 = 0
  · simp only [if_pos q1]
    exact ⟨rfl, h.bad⟩
  by_cases q6 : f_X9_isPicture A6 = 0
  · simp only [if_neg q1, if_pos q6, ite_self]
    exact ⟨rfl, h.bad⟩
  by_cases q4 : f_X9_in A4.toInt64 1 8 = 0
  · simp only [if_neg q1, if_neg q6, if_pos q4]
    exact ⟨rfl, h.bad⟩
  by_cases q5 : f_X9_in A5.toInt64 1 8 = 0
  · simp only [if_neg q1, if_neg q6, if_neg q4, if_pos q5]
    exact ⟨rfl, h.bad⟩
  by_cases q2 : f_X9_in A2.toInt64 0 ((32 - A4).toInt64) = 0
  · simp only [if_neg q1, if_neg q6, if_neg q4, if_neg q5, if_pos q2]
    exact ⟨rfl, h.bad⟩
  by_cases q3 : f_X9_in A3.toInt64 0 ((24 - A5).toInt64) = 0
  · simp only [if_neg q1, if_neg q6, if_neg q4, if_neg q5, if_neg q2, if_pos q3]
    exact ⟨rfl, h.bad⟩
  simp only [if_neg q1, if_neg q6, if_neg q4, if_neg q5, if_neg q2, if_neg q3]
  refine ⟨?_, h⟩
  have b2 := mIn_ne q2
  have b3 := mIn_ne q3
  have b4 := mIn_ne q4
  have b5 := mIn_ne q5
  rw [Int32.toInt_toInt64] at b4 b5
  rw [Int32.toInt_toInt64, Int32.toInt_toInt64] at b2 b3
  have l0 : (0 : Int64).toInt = 0 := rfl
  have l1 : (1 : Int64).toInt = 1 := rfl
  have l8 : (8 : Int64).toInt = 8 := rfl
  have i32' : (32 : Int32).toInt = 32 := rfl
  have i24 : (24 : Int32).toInt = 24 := rfl
  rw [tI_sub (by omega) (by omega)] at b2 b3
  exact fi_core h.1 (mP_ne q1) (mP_ne q6) (by omega) (by omega) (by omega) (by omega)
