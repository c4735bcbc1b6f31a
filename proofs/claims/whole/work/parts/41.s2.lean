theorem row_sum {f : Nat → Int32} {c : Int32} {P : Nat → Bool} : ∀ {n : Nat}, f 0 = c → (∀ i, i < n → f (i + 1) = f i + (if P i then 1 else 0 : Int32)) → f n = c + nI (fb_ct P n)
  | 0, h0, _ => by rw [h0]; exact (Int32.add_zero c).symm
  | n + 1, h0, hs => by rw [hs n (by omega), row_sum (n := n) h0 (fun i hi => hs i (by omega)), Int32.add_assoc, nI_bool, fb_ct_succ]
theorem grid_sum {f g : Nat → Int32} {P : Nat → Nat → Bool} (h0 : f 0 = 0) (hs : ∀ k, k < 768 → f (k + 1) = f k + (if P (k % 32) (k / 32) then 1 else 0 : Int32)) (g0 : g 0 = 0) (gs : ∀ y, y < 24 → g (y + 1) = g y + nI (fb_ct (fun x => P x y) 32)) : f 768 = g 24 := by
  have key : ∀ y, y ≤ 24 → f (32 * y) = g y := by
    intro y
    induction y with
    | zero => intro _; rw [g0]; exact h0
    | succ y ih =>
      intro hy
      rw [gs y (by omega), ← ih (by omega)]
      refine row_sum (f := fun i => f (32 * y + i)) (n := 32) (P := fun x => P x y) rfl (fun i hi => ?_)
      show f (32 * y + (i + 1)) = _
      rw [← Nat.add_assoc, hs _ (by omega), show (32 * y + i) % 32 = i by omega, show (32 * y + i) / 32 = y by omega]
  exact key 24 (Nat.le_refl _)
theorem dv32 {k : Nat} (h : k < 768) : nI k / 32 = nI (k / 32) := by rw [show (32 : Int32) = nI 32 from rfl, pk_div (by omega) (by decide) (by decide)]
theorem rm32 {k : Nat} (h : k < 768) : nI k - nI k / 32 * 32 = nI (k % 32) := by rw [show (32 : Int32) = nI 32 from rfl, pk_rem (by omega) (by decide) (by decide)]
theorem rN_n {t : Int32} {y : Nat} (hT : pT t) (hy : y < 24) : pY (nI y) := pY_n hy
theorem xN {x : Nat} (hx : x < 32) : (0 ≤ (nI x).toInt ∧ (nI x).toInt ≤ 31) ∧ (nI x).toInt = x := by
  rw [nI_toInt (by omega)]
  omega
theorem neq01 {a b : Bool} : (if (if a then 1 else 0 : Int32) = (if b then 1 else 0 : Int32) then 0 else 1 : Int32) = if (a ^^ b) then 1 else 0 := by cases a <;> cases b <;> rfl

theorem sim_dot {rows : Nat → Int32} {pat : Nat → Int32} {ops : Nat → Int32} {cnt : Int32} {krows : Nat → Nat → Int32} {kpat : Nat → Nat → Int32} {kops : Nat → Nat → Int32} {kcnt : Nat → Int32} {next : Int32} {size : Int32} {bytes : Nat → Int32} {len : Int32} {bads : Int32} {noes : Int32} {fulls : Int32} {osz : Int32} {now : Nat → Int32} {past : Nat → Int32} {states : Int32} {refused : Nat → Int32} {text : Nat → Int32} {textL : Int32}  (h : Rel rows pat ops cnt krows kpat kops kcnt next size bytes len bads noes fulls osz now past states refused text textL) (A1 : Int32) (A2 : Int32) (A3 : Int32) (A4 : Int32) : f_X8_dot rows A1 A2 A3 A4 = f_X9_dot now A1 A2 A3 A4 ∧ Rel (g_X8_dot_rows rows A1 A2 A3 A4) pat ops cnt (g_X8_dot_krows rows krows next A1 A2 A3 A4) (g_X8_dot_kpat pat kpat next A1 A2 A3 A4) (g_X8_dot_kops ops kops next A1 A2 A3 A4) (g_X8_dot_kcnt cnt kcnt next A1 A2 A3 A4) (g_X8_dot_next next A1 A2 A3 A4) (g_X8_dot_size size A1 A2 A3 A4) bytes len (g_X8_dot_bads bads A1 A2 A3 A4) noes fulls osz (g_X9_dot_now now A1 A2 A3 A4) (g_X9_dot_past now past states A1 A2 A3 A4) (g_X9_dot_states states A1 A2 A3 A4) (g_X9_dot_refused refused A1 A2 A3 A4) text textL := by
  unfold f_X8_dot f_X9_dot g_X8_dot_bads g_X8_dot_rows g_X8_dot_krows g_X8_dot_kpat g_X8_dot_kops g_X8_dot_kcnt g_X8_dot_next g_X8_dot_size g_X9_dot_now g_X9_dot_past g_X9_dot_states g_X9_dot_refused
  rw [pic_eq, inP_eq, W_in (a' := 0) (b' := 1) rfl rfl]
  by_cases q : f_X9_isPicture A1 = 0
  · simp only [if_pos q]
    exact ⟨rfl, h.bad⟩
  by_cases q2 : f_X9_isIn A2 A3 = 0
  · simp only [if_neg q, if_pos q2]
    exact ⟨rfl, h.bad⟩
  by_cases q3 : f_X9_in A4.toInt64 0 1 = 0
  · simp only [if_neg q, if_neg q2, if_pos q3]
    exact ⟨rfl, h.bad⟩
  simp only [if_neg q, if_neg q2, if_neg q3]
  have hT := mP_ne q
  have hx := (mI_ne q2).1
  have hY := (mI_ne q2).2
  have hb := mIn_ne q3
  rw [Int32.toInt_toInt64] at hb
  have l0 : (0 : Int64).toInt = 0 := rfl
  have l1 : (1 : Int64).toInt = 1 := rfl
  obtain ⟨b, hv⟩ : ∃ b : Bool, A4 = if b then 1 else 0 := by
    by_cases z : A4.toInt = 0
    · exact ⟨false, Int32.toInt_inj.mp z⟩
    · exact ⟨true, Int32.toInt_inj.mp (by have : (1 : Int32).toInt = 1 := rfl; show A4.toInt = (1 : Int32).toInt; omega)⟩
  obtain ⟨r, e1, e2, e3⟩ := sets_e (now := now) hT hx hY hv
  have hR := rN_lt hT hY
  have eR : rows (rN A1 A3) = now (rN A1 A3) := h.1.1 _ hR
  rw [dotAt_e h.1 hT, dotOf_e hT hx hY, e3, e1]
  refine ⟨?_, h.kept ?_⟩
  · rw [hv]
    cases Dx (now (rN A1 A3)) A2.toInt <;> cases b <;> decide
  · rw [hv, b01i]
    by_cases z : Dx (now (rN A1 A3)) A2.toInt = b
    · rw [if_pos z]
      have er : r = now (rN A1 A3) := D_ext fun i h0 h1 => by
        rw [e2 i h0 h1]
        by_cases zi : i = A2.toInt
        · rw [if_pos zi, zi, z]
        · rw [if_neg zi]
      rw [er, upd_id rfl]
      exact h.1
    · rw [if_neg z]
      unfold g_X6_putRow_rows
      rw [pic_eq, isP_i hT, i10, isY_i hY, i10, (ix_row hT hY).2.1, rowAt_e hT hY, eR]
      have er : r = now (rN A1 A3) ^^^ f_X8_dotMask A2 := D_ext fun i h0 h1 => by
        rw [e2 i h0 h1, D_xor, D_mask h0 h1]
        by_cases zi : i = A2.toInt
        · rw [if_pos zi, decide_eq_true zi, zi]
          cases hd : Dx (now (rN A1 A3)) A2.toInt <;> cases b <;> first | rfl | exact absurd hd z
        · rw [if_neg zi, decide_eq_false zi, Bool.xor_false]
      rw [er]
      exact h.1.upd hR _

theorem sim_pattern {rows : Nat → Int32} {pat : Nat → Int32} {ops : Nat → Int32} {cnt : Int32} {krows : Nat → Nat → Int32} {kpat : Nat → Nat → Int32} {kops : Nat → Nat → Int32} {kcnt : Nat → Int32} {next : Int32} {size : Int32} {bytes : Nat → Int32} {len : Int32} {bads : Int32} {noes : Int32} {fulls : Int32} {osz : Int32} {now : Nat → Int32} {past : Nat → Int32} {states : Int32} {refused : Nat → Int32} {text : Nat → Int32} {textL : Int32}  (h : Rel rows pat ops cnt krows kpat kops kcnt next size bytes len bads noes fulls osz now past states refused text textL) (A1 : Int32) (A2 : Int32) : f_X8_pattern pat A1 A2 = f_X9_pattern now A1 A2 ∧ Rel rows (g_X8_pattern_pat pat A1 A2) ops cnt (g_X8_pattern_krows rows krows next A1 A2) (g_X8_pattern_kpat pat kpat next A1 A2) (g_X8_pattern_kops ops kops next A1 A2) (g_X8_pattern_kcnt cnt kcnt next A1 A2) (g_X8_pattern_next next A1 A2) (g_X8_pattern_size size A1 A2) bytes len (g_X8_pattern_bads bads A1 A2) noes fulls osz (g_X9_pattern_now now A1 A2) (g_X9_pattern_past now past states A1 A2) (g_X9_pattern_states states A1 A2) (g_X9_pattern_refused refused A1 A2) text textL := by
  unfold f_X8_pattern f_X9_pattern g_X8_pattern_bads g_X8_pattern_pat g_X8_pattern_krows g_X8_pattern_kpat g_X8_pattern_kops g_X8_pattern_kcnt g_X8_pattern_next g_X8_pattern_size g_X9_pattern_now g_X9_pattern_past g_X9_pattern_states g_X9_pattern_refused
  rw [W_in (a' := 0) (b' := 7) rfl rfl, W_in (a' := 0) (b' := 255) rfl rfl]
  by_cases q : f_X9_in A1.toInt64 0 7 = 0
  · simp only [if_pos q]
    exact ⟨rfl, h.bad⟩
  by_cases q2 : f_X9_in A2.toInt64 0 255 = 0
  · simp only [if_neg q, if_pos q2]
    exact ⟨rfl, h.bad⟩
  simp only [if_neg q, if_neg q2]
  have a := mIn_ne q
  have b := mIn_ne q2
  rw [Int32.toInt_toInt64] at a b
  have l0 : (0 : Int64).toInt = 0 := rfl
  have l7 : (7 : Int64).toInt = 7 := rfl
  have l255 : (255 : Int64).toInt = 255 := rfl
  have ey : A1 = nI A1.toInt.toNat := Dn_of (by omega) (by omega)
  have lY : A1.toInt.toNat < 8 := by omega
  generalize A1.toInt.toNat = Y at ey lY
  have e1 : A1.toNatClampNeg = Y := by rw [ey, nI_clamp (by omega)]
  have e2 : (72 + A1).toNatClampNeg = 72 + Y := by rw [ey, show (72 : Int32) = nI 72 from rfl, nI_add, nI_clamp (by omega)]
  rw [e1, e2]
  obtain ⟨h1, h2, h3, h4, h5⟩ := h.1
  refine ⟨(h2 Y lY).1, h.kept ⟨fun k hk => ?_, fun k hk => ?_, ?_, h4, fun k hk => ?_⟩⟩
  · rw [pk_un (by omega)]; exact h1 k hk
  · by_cases z : k = Y
    · rw [z, pk_us, pk_us]; exact ⟨rfl, by omega, by omega⟩
    · rw [pk_un z, pk_un (by omega)]; exact h2 k hk
  · rw [pk_un (by omega)]; exact h3
  · refine ⟨fun j hj => ?_, (h5 k hk).2⟩
    rw [pk_un (by omega)]; exact (h5 k hk).1 j hj

theorem tally_e {rows pat ops bytes now past refused text : Nat → Int32} {cnt next size len bads noes fulls osz states textL : Int32} {krows kpat kops : Nat → Nat → Int32} {kcnt : Nat → Int32} (h : Rel rows pat ops cnt krows kpat kops kcnt next size bytes len bads noes fulls osz now past states refused text textL) {w : Nat} (hw : w < 6) : f_X8_tally bads noes fulls cnt size len (nI w) = f_X9_toldOf now states refused textL (nI w) := by
  obtain ⟨h1, h2, h3, ⟨a, b, c⟩, h5⟩ := h
  unfold f_X8_tally f_X9_toldOf
  rw [c96, ← h1.2.2.1, ← h2.2.1, ← h3.1]
  match w, hw with
  | 0, _ => exact a
  | 1, _ => exact b
  | 2, _ => exact c
  | 3, _ => rfl
  | 4, _ => rfl
  | 5, _ => rfl

theorem sim_told {rows : Nat → Int32} {pat : Nat → Int32} {ops : Nat → Int32} {cnt : Int32} {krows : Nat → Nat → Int32} {kpat : Nat → Nat → Int32} {kops : Nat → Nat → Int32} {kcnt : Nat → Int32} {next : Int32} {size : Int32} {bytes : Nat → Int32} {len : Int32} {bads : Int32} {noes : Int32} {fulls : Int32} {osz : Int32} {now : Nat → Int32} {past : Nat → Int32} {states : Int32} {refused : Nat → Int32} {text : Nat → Int32} {textL : Int32}  (h : Rel rows pat ops cnt krows kpat kops kcnt next size bytes len bads noes fulls osz now past states refused text textL) (A1 : Int32) : f_X8_told bads noes fulls cnt size len A1 = f_X9_told now states refused textL A1 ∧ Rel rows pat ops cnt krows kpat kops kcnt next size bytes len (g_X8_told_bads bads A1) noes fulls osz now past states (g_X9_told_refused refused A1) text textL := by
  unfold f_X8_told f_X9_told g_X8_told_bads g_X9_told_refused
  rw [W_in (a' := 0) (b' := 5) rfl rfl]
  by_cases q : f_X9_in A1.toInt64 0 5 = 0
  · simp only [if_pos q]
    exact ⟨rfl, h.bad⟩
  · simp only [if_neg q]
    have a := mIn_ne q
    rw [Int32.toInt_toInt64] at a
    have l0 : (0 : Int64).toInt = 0 := rfl
    have l5 : (5 : Int64).toInt = 5 := rfl
    have ey : A1 = nI A1.toInt.toNat := Dn_of (by omega) (by omega)
    rw [ey]
    exact ⟨tally_e h (by omega), h⟩

theorem sim_back {rows : Nat → Int32} {pat : Nat → Int32} {ops : Nat → Int32} {cnt : Int32} {krows : Nat → Nat → Int32} {kpat : Nat → Nat → Int32} {kops : Nat → Nat → Int32} {kcnt : Nat → Int32} {next : Int32} {size : Int32} {bytes : Nat → Int32} {len : Int32} {bads : Int32} {noes : Int32} {fulls : Int32} {osz : Int32} {now : Nat → Int32} {past : Nat → Int32} {states : Int32} {refused : Nat → Int32} {text : Nat → Int32} {textL : Int32}  (h : Rel rows pat ops cnt krows kpat kops kcnt next size bytes len bads noes fulls osz now past states refused text textL)  : f_X8_back size = f_X9_back states ∧ Rel (g_X8_back_rows rows krows next size) (g_X8_back_pat pat kpat next size) (g_X8_back_ops ops kops next size) (g_X8_back_cnt cnt kcnt next size) krows kpat kops kcnt (g_X8_back_next next size) (g_X8_back_size size) bytes len bads (g_X8_back_noes noes size) fulls osz (g_X9_back_now now past states) past (g_X9_back_states states) (g_X9_back_refused states refused) text textL := by
  unfold f_X8_back f_X9_back g_X8_back_noes g_X8_back_rows g_X8_back_pat g_X8_back_ops g_X8_back_cnt g_X8_back_next g_X8_back_size g_X9_back_now g_X9_back_states g_X9_back_refused
  obtain ⟨hn, hs, hq, hr⟩ := h.2.1
  subst hs
  by_cases q : size = 0
  · simp only [if_pos q]
    exact ⟨rfl, h.no⟩
  · simp only [if_neg q]
    obtain ⟨N, hN, rfl⟩ := nOk_n hn
    obtain ⟨S, hS, rfl⟩ := qOk_n hq
    have hS0 : 0 < S := by
      rcases Nat.eq_zero_or_pos S with z | z
      · rw [z] at q; exact absurd rfl q
      · exact z
    obtain ⟨T, rfl⟩ : ∃ T, S = T + 1 := ⟨S - 1, by omega⟩
    have e1 : nI (T + 1) - 1 = nI T := nI_pred T
    have eN : gbN (nI N) = nI ((N + 5) % 6) := by
      unfold gbN
      rw [show (6 : Int32) = nI 6 from rfl, nI_add, show N + 6 = (N + 5) + 1 from rfl, nI_pred, pk_rem (by omega) (by decide) (by decide)]
    rw [e1]
    have key : ∀ (n : Nat), n ≤ 97 → ∀ k : Nat, s_X9_back_24 now past (nI (T + 1)) n k = if k < n then past (97 * T + k) else now k := by
      intro n
      induction n with
      | zero => intro _ k; rw [if_neg (by omega)]; rfl
      | succ n ih =>
        intro hn9 k
        have e2 : ((97 * (nI T)) + (nI n)).toNatClampNeg = 97 * T + n := by rw [show (97 : Int32) = nI 97 from rfl, pk_mul, nI_add, nI_clamp (by omega)]
        unfold s_X9_back_24 b_X9_back_24
        rw [e1, e2, nI_clamp (by omega)]
        by_cases z : k = n
        · rw [z, pk_us, if_pos (by omega)]
        · rw [pk_un z, ih (by omega)]
          by_cases z2 : k < n
          · rw [if_pos z2, if_pos (by omega)]
          · rw [if_neg z2, if_neg (by omega)]
    have hl := hr T (by rw [nI_toInt (by omega)]; omega)
    rw [ri_e hN hS, show (N + 6 - (T + 1) + T) % 6 = (N + 5) % 6 by omega] at hl
    refine ⟨trivial, ?_, ⟨?_, rfl, ?_, fun j hj => ?_⟩, h.2.2⟩
    · unfold gbR gbP gbO gbC
      rw [eN, nI_clamp (by omega)]
      refine hl.cg (fun k hk => ?_) (fun k hk => ?_) (fun k hk => ?_) (fun k hk => ?_)
      · exact cpy0 (by decide) hk
      · exact cpy0 (by decide) hk
      · exact cpy0 (by decide) hk
      · rw [key 97 (Nat.le_refl _), if_pos hk]
    · rw [eN]
      unfold nOk
      rw [nI_toInt (by omega)]
      omega
    · unfold qOk
      rw [nI_toInt (by omega)]
      omega
    · rw [nI_toInt (by omega)] at hj
      have h6 := hr j (by rw [nI_toInt (by omega)]; omega)
      rw [ri_e hN hS] at h6
      rw [eN, ri_e (by omega) (by omega), show ((N + 5) % 6 + 6 - T + j) % 6 = (N + 6 - (T + 1) + j) % 6 by omega]
      exact h6

theorem sim_digest {rows : Nat → Int32} {pat : Nat → Int32} {ops : Nat → Int32} {cnt : Int32} {krows : Nat → Nat → Int32} {kpat : Nat → Nat → Int32} {kops : Nat → Nat → Int32} {kcnt : Nat → Int32} {next : Int32} {size : Int32} {bytes : Nat → Int32} {len : Int32} {bads : Int32} {noes : Int32} {fulls : Int32} {osz : Int32} {now : Nat → Int32} {past : Nat → Int32} {states : Int32} {refused : Nat → Int32} {text : Nat → Int32} {textL : Int32}  (h : Rel rows pat ops cnt krows kpat kops kcnt next size bytes len bads noes fulls osz now past states refused text textL)  : f_X8_digest bads noes fulls rows pat ops cnt size len = f_X9_digest now states refused textL ∧ Rel rows pat ops cnt krows kpat kops kcnt next size bytes len bads noes fulls osz now past states refused text textL := by
  refine ⟨?_, h⟩
  unfold f_X8_digest f_X9_digest f_X6_mixedInto
  obtain ⟨h1, h2, h3, h4, h5⟩ := h.1
  have e6 : ∀ n, n ≤ 6 → s_X8_digest_6 bads noes fulls cnt size len n = s_X9_digest_6 now states refused textL n := by
    intro n
    induction n with
    | zero => intro _; rfl
    | succ n ih =>
      intro hn
      unfold s_X8_digest_6 s_X9_digest_6 b_X8_digest_6 b_X9_digest_6
      rw [ih (by omega), tally_e h (by omega)]
  rw [e6 6 (Nat.le_refl _)]
  generalize hst : s_X9_digest_6 now states refused textL 6 = st
  have a : ∀ n, n ≤ 72 → s_X6_mixedInto_5 rows st n = s_X9_digest_33 now states refused textL n := by
    intro n
    induction n with
    | zero => intro _; exact hst.symm
    | succ n ih =>
      intro hn
      unfold s_X6_mixedInto_5 s_X9_digest_33 b_X6_mixedInto_5 b_X9_digest_33
      rw [ih (by omega), nI_clamp (by omega), h1 n (by omega)]
  have b : ∀ n, n ≤ 8 → s_X6_mixedInto_39 rows pat st n = s_X9_digest_33 now states refused textL (72 + n) := by
    intro n
    induction n with
    | zero => intro _; exact a 72 (Nat.le_refl _)
    | succ n ih =>
      intro hn
      rw [← Nat.add_assoc]
      unfold s_X6_mixedInto_39 s_X9_digest_33 b_X6_mixedInto_39 b_X9_digest_33
      rw [ih (by omega), nI_clamp (by omega), nI_clamp (by omega), (h2 n (by omega)).1]
  obtain ⟨ec, lc⟩ := cOk_nI h4
  have c : ∀ n, n ≤ 4 * cnt.toNatClampNeg → s_X6_mixedInto_70 rows pat ops st n = s_X9_digest_33 now states refused textL (80 + n) := by
    intro n
    induction n with
    | zero => intro _; exact b 8 (Nat.le_refl _)
    | succ n ih =>
      intro hn
      rw [← Nat.add_assoc]
      unfold s_X6_mixedInto_70 s_X9_digest_33 b_X6_mixedInto_70 b_X9_digest_33
      rw [ih (by omega), nI_clamp (by omega), nI_clamp (by omega)]
      have hk := (h5 (n / 4) (by rw [ec, nI_toInt (by omega)]; omega)).1 (n % 4) (by omega)
      rw [show 4 * (n / 4) + n % 4 = n by omega] at hk
      rw [hk]
  rw [c96, ← h3, Nat.mul_comm, c _ (Nat.le_refl _)]

theorem count_row {rows pat ops now : Nat → Int32} {cnt t x y w z : Int32} {k : Nat} (h : Rs rows pat ops cnt now) (hT : pT t) (hx : -64 ≤ x.toInt ∧ x.toInt ≤ 63) (hy : -64 ≤ y.toInt ∧ y.toInt ≤ 63) (hw : 1 ≤ w.toInt ∧ w.toInt ≤ 64) (hk : k < 64) : s_X9_count_48 now t x y k z w.toNatClampNeg = z + f_J6_bitCount_0f7a4 ((f_X6_rowAt rows t (y + nI k)) &&& (f_X8_spanMask x w)) := by
  have ew : (w.toNatClampNeg : Int) = w.toInt := Int.toNat_of_nonneg (by omega)
  have ey : (y + nI k).toInt = y.toInt + k := by rw [tI_add (by rw [nI_toInt (by omega)]; omega) (by rw [nI_toInt (by omega)]; omega), nI_toInt (by omega)]
  obtain ⟨q, hq⟩ : ∃ q : Int → Bool, q = fun i => Dx (f_X6_rowAt rows t (y + nI k)) i := ⟨_, rfl⟩
  have hq0 : ∀ i, ¬ (0 ≤ i ∧ i < 32) → q i = false := fun i hi => by rw [hq]; exact D_out hi
  have inv : ∀ i : Nat, i ≤ 64 → s_X9_count_48 now t x y k z i = z + nI (fb_ct (fun j => decide (x.toInt ≤ (j : Int) ∧ (j : Int) < x.toInt + i) && q j) 32) := by
    intro i
    induction i with
    | zero =>
      intro _
      have e : fb_ct (fun j => decide (x.toInt ≤ (j : Int) ∧ (j : Int) < x.toInt + ((0 : Nat) : Int)) && q j) 32 = 0 := fb_ct_zero.mpr fun j hj => by rw [decide_eq_false (by omega), Bool.false_and]
      rw [e, nI_0, Int32.add_zero]
      rfl
    | succ i ih =>
      intro hi
      have ex : (x + nI i).toInt = x.toInt + i := by rw [tI_add (by rw [nI_toInt (by omega)]; omega) (by rw [nI_toInt (by omega)]; omega), nI_toInt (by omega)]
      rw [cs_step hq0]
      unfold s_X9_count_48 b_X9_count_48
      rw [ih (by omega)]
      have e : f_X9_dotOf now t (x + nI i) (y + nI k) = if q (x.toInt + i) then 1 else 0 := by
        by_cases z1 : (0 ≤ (x + nI i).toInt ∧ (x + nI i).toInt ≤ 31) ∧ pY (y + nI k)
        · rw [dotOf_e hT z1.1 z1.2, hq, rowAt_e hT z1.2, h.1 _ (rN_lt hT z1.2), ex]
        · rw [dotOf_z z1]
          have e2 : q (x.toInt + i) = false := by
            by_cases z2 : pY (y + nI k)
            · exact hq0 _ (fun z3 => z1 ⟨by omega, z2⟩)
            · rw [hq]
              show Dx (f_X6_rowAt rows t (y + nI k)) (x.toInt + i) = false
              rw [rowAt_z z2, D_0]
          rw [e2]
          rfl
      rw [e, Int32.add_assoc, nI_bool]
  rw [inv _ (by omega), bitCount_pc, pcn_D]
  congr 2
  exact fb_ct_cong fun j hj => by
    rw [D_and, D_span (by omega) (by omega) (by omega) (by omega), ew, hq, Bool.and_comm]
theorem count_e {rows pat ops now : Nat → Int32} {cnt t x y w hh : Int32} (h : Rs rows pat ops cnt now) (hT : pT t) (hx : -64 ≤ x.toInt ∧ x.toInt ≤ 63) (hy : -64 ≤ y.toInt ∧ y.toInt ≤ 63) (hw : 1 ≤ w.toInt ∧ w.toInt ≤ 64) (hh64 : 1 ≤ hh.toInt ∧ hh.toInt ≤ 64) : f_X0_onesWithin rows t x y w hh = s_X9_count_38 now t x y w hh.toNatClampNeg := by
  have eh : (hh.toNatClampNeg : Int) = hh.toInt := Int.toNat_of_nonneg (by omega)
  have key : ∀ n, n ≤ 64 → s_X0_onesWithin_14 rows t x y w n = s_X9_count_38 now t x y w n := by
    intro n
    induction n with
    | zero => intro _; rfl
    | succ n ih =>
      intro hn
      unfold s_X0_onesWithin_14 s_X9_count_38 b_X0_onesWithin_14 b_X9_count_38
      rw [ih (by omega), count_row h hT hx hy hw (by omega)]
  exact key _ (by omega)

theorem sim_count {rows : Nat → Int32} {pat : Nat → Int32} {ops : Nat → Int32} {cnt : Int32} {krows : Nat → Nat → Int32} {kpat : Nat → Nat → Int32} {kops : Nat → Nat → Int32} {kcnt : Nat → Int32} {next : Int32} {size : Int32} {bytes : Nat → Int32} {len : Int32} {bads : Int32} {noes : Int32} {fulls : Int32} {osz : Int32} {now : Nat → Int32} {past : Nat → Int32} {states : Int32} {refused : Nat → Int32} {text : Nat → Int32} {textL : Int32}  (h : Rel rows pat ops cnt krows kpat kops kcnt next size bytes len bads noes fulls osz now past states refused text textL) (A1 : Int32) (A2 : Int32) (A3 : Int32) (A4 : Int32) (A5 : Int32) : f_X8_count rows A1 A2 A3 A4 A5 = f_X9_count now A1 A2 A3 A4 A5 ∧ Rel rows pat ops cnt krows kpat kops kcnt next size bytes len (g_X8_count_bads bads A1 A2 A3 A4 A5) noes fulls osz now past states (g_X9_count_refused refused A1 A2 A3 A4 A5) text textL := by
  unfold f_X8_count f_X9_count g_X8_count_bads g_X9_count_refused f_X8_isPlace f_X8_isSize f_X9_isPlace f_X9_isSize
  rw [pic_eq, W_in (v := A2) (a' := -64) (b' := 63) rfl rfl, W_in (v := A3) (a' := -64) (b' := 63) rfl rfl, W_in (v := A4) (a' := 1) (b' := 64) rfl rfl, W_in (v := A5) (a' := 1) (b' := 64) rfl rfl]
  by_cases q : f_X9_isPicture A1 = 0
  · simp only [if_pos q]
    exact ⟨rfl, h.bad⟩
  by_cases q2 : f_X9_in A2.toInt64 (-64) 63 = 0
  · simp only [if_neg q, if_pos q2, i00]
    exact ⟨rfl, h.bad⟩
  by_cases q3 : f_X9_in A3.toInt64 (-64) 63 = 0
  · simp only [if_neg q, if_neg q2, if_pos q3, i00]
    exact ⟨rfl, h.bad⟩
  by_cases q4 : f_X9_in A4.toInt64 1 64 = 0
  · simp only [if_neg q, if_neg q2, if_neg q3, if_pos q4, i00, i10]
    exact ⟨rfl, h.bad⟩
  by_cases q5 : f_X9_in A5.toInt64 1 64 = 0
  · simp only [if_neg q, if_neg q2, if_neg q3, if_neg q4, if_pos q5, i00, i10]
    exact ⟨rfl, h.bad⟩
  simp only [if_neg q, if_neg q2, if_neg q3, if_neg q4, if_neg q5, i00, i10]
  refine ⟨?_, h⟩
  have b2 := mIn_ne q2
  have b3 := mIn_ne q3
  have b4 := mIn_ne q4
  have b5 := mIn_ne q5
  rw [Int32.toInt_toInt64] at b2 b3 b4 b5
  have l0 : (-64 : Int64).toInt = -64 := by decide
  have l1 : (63 : Int64).toInt = 63 := rfl
  have l2 : (1 : Int64).toInt = 1 := rfl
  have l3 : (64 : Int64).toInt = 64 := rfl
  exact count_e h.1 (mP_ne q) (by omega) (by omega) (by omega) (by omega)

theorem sim_unlike {rows : Nat → Int32} {pat : Nat → Int32} {ops : Nat → Int32} {cnt : Int32} {krows : Nat → Nat → Int32} {kpat : Nat → Nat → Int32} {kops : Nat → Nat → Int32} {kcnt : Nat → Int32} {next : Int32} {size : Int32} {bytes : Nat → Int32} {len : Int32} {bads : Int32} {noes : Int32} {fulls : Int32} {osz : Int32} {now : Nat → Int32} {past : Nat → Int32} {states : Int32} {refused : Nat → Int32} {text : Nat → Int32} {textL : Int32}  (h : Rel rows pat ops cnt krows kpat kops kcnt next size bytes len bads noes fulls osz now past states refused text textL) (A1 : Int32) (A2 : Int32) : f_X8_unlike rows A1 A2 = f_X9_unlike now A1 A2 ∧ Rel rows pat ops cnt krows kpat kops kcnt next size bytes len (g_X8_unlike_bads bads A1 A2) noes fulls osz now past states (g_X9_unlike_refused refused A1 A2) text textL := by
  unfold f_X8_unlike f_X9_unlike g_X8_unlike_bads g_X9_unlike_refused
  rw [pic_eq, pic_eq]
  by_cases q : f_X9_isPicture A1 = 0
  · simp only [if_pos q]
    exact ⟨rfl, h.bad⟩
  by_cases q2 : f_X9_isPicture A2 = 0
  · simp only [if_neg q, if_pos q2]
    exact ⟨rfl, h.bad⟩
  simp only [if_neg q, if_neg q2]
  have hS := mP_ne q
  have hT := mP_ne q2
  refine ⟨?_, h⟩
  symm
  refine grid_sum (f := s_X9_unlike_26 now A1 A2) (g := s_X0_unlikeDots_5 rows A1 A2) (P := fun x y => Dx (now (rN A1 (nI y))) x ^^ Dx (now (rN A2 (nI y))) x) rfl (fun k hk => ?_) rfl (fun y hy => ?_)
  · show b_X9_unlike_26 now A1 A2 k (s_X9_unlike_26 now A1 A2 k) = _
    unfold b_X9_unlike_26
    have hx := xN (x := k % 32) (by omega)
    have hY : pY (nI (k / 32)) := pY_n (by omega)
    rw [rm32 hk, dv32 hk, dotOf_e hS hx.1 hY, dotOf_e hT hx.1 hY, neq01, hx.2]
  · show b_X0_unlikeDots_5 rows A1 A2 y (s_X0_unlikeDots_5 rows A1 A2 y) = _
    unfold b_X0_unlikeDots_5
    rw [rowAt_e hS (pY_n hy), rowAt_e hT (pY_n hy), h.1.1 _ (rN_lt hS (pY_n hy)), h.1.1 _ (rN_lt hT (pY_n hy)), bitCount_pc, pcn_D]
    congr 2
    exact fb_ct_cong fun j hj => D_xor _ _ _
