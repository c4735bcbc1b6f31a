theorem fa_and (a b : Nat) : nI a &&& nI b = nI (a &&& b) := by
  apply Int32.toBitVec_inj.1
  show BitVec.ofNat 32 a &&& BitVec.ofNat 32 b = BitVec.ofNat 32 (a &&& b)
  apply BitVec.eq_of_getLsbD_eq
  intro i hi
  simp [hi]
theorem fa_or (a b : Nat) : nI a ||| nI b = nI (a ||| b) := by
  apply Int32.toBitVec_inj.1
  show BitVec.ofNat 32 a ||| BitVec.ofNat 32 b = BitVec.ofNat 32 (a ||| b)
  apply BitVec.eq_of_getLsbD_eq
  intro i hi
  simp [hi]
/-- a remainder by a power of two, as a mask -/
theorem fa_mask (n k : Nat) : nI n &&& nI (2 ^ k - 1) = nI (n % 2 ^ k) := by rw [fa_and, Nat.and_two_pow_sub_one_eq_mod]
/-- 'or' of a high part and a low one that don't meet is their sum -/
theorem fa_or_sum {a k : Nat} (b : Nat) (h : a < 2 ^ k) : nI (2 ^ k * b) ||| nI a = nI (2 ^ k * b + a) := by rw [fa_or, Nat.two_pow_add_eq_or_of_lt h]
/-- one bit, by 'and' with a power of two -/

theorem st_row {now : Nat → Int32} {t y c0 C : Int32} {v : Nat → Int32} {f : Nat → Int32 × (Nat → Int32)} (hT : pT t) (hY : pY y) (h0 : f 0 = (c0, now)) (hs : ∀ i, i < 32 → f (i + 1) = ((f i).1 + f_X9_sets (f i).2 t (nI i) y (v i), g_X9_sets_now (f i).2 t (nI i) y (v i))) (hv : ∀ i : Nat, i < 32 → v i = if Dx C i then 1 else 0) :
    f 32 = (c0 + nI (pcn (now (rN t y) ^^^ C)), upd now (rN t y) C) := by
  have inv : ∀ i : Nat, i ≤ 32 → ∃ r : Int32, (f i).2 = upd now (rN t y) r ∧ (∀ x : Int, 0 ≤ x → x < 32 → Dx r x = if x < i then Dx C x else Dx (now (rN t y)) x) ∧ (f i).1 = c0 + nI (fb_ct (fun x => Dx (now (rN t y)) x ^^ Dx C x) i) := by
    intro i
    induction i with
    | zero =>
      intro _
      refine ⟨now (rN t y), by rw [h0, upd_id rfl], fun x hx _ => by rw [if_neg (by omega)], ?_⟩
      rw [h0]
      exact (Int32.add_zero c0).symm
    | succ i ih =>
      intro hi
      obtain ⟨r, e1, e2, e3⟩ := ih (by omega)
      have hx := xN (x := i) (by omega)
      obtain ⟨r', g1, g2, g3⟩ := sets_e (now := (f i).2) hT hx.1 hY (hv i (by omega))
      have er : (f i).2 (rN t y) = r := by rw [e1, pk_us]
      rw [er, hx.2] at g2 g3
      have ed : Dx r (i : Int) = Dx (now (rN t y)) i := by rw [e2 _ (by omega) (by omega), if_neg (by omega)]
      rw [ed] at g3
      rw [hs i (by omega)]
      refine ⟨r', by dsimp only; rw [g1, e1, upd_upd], fun x hx0 hx1 => ?_, ?_⟩
      · rw [g2 x hx0 hx1, e2 x hx0 hx1]
        by_cases z : x = i
        · rw [if_pos z, if_pos (by omega), z]
        · rw [if_neg z]
          by_cases z2 : x < i
          · rw [if_pos z2, if_pos (by omega)]
          · rw [if_neg z2, if_neg (by omega)]
      · dsimp only
        rw [e3, g3, Int32.add_assoc, nI_bool, fb_ct_succ]
  obtain ⟨r, e1, e2, e3⟩ := inv 32 (Nat.le_refl _)
  have er : r = C := D_ext fun x hx0 hx1 => by rw [e2 x hx0 hx1, if_pos (by omega)]
  have ec : fb_ct (fun x => Dx (now (rN t y)) x ^^ Dx C x) 32 = pcn (now (rN t y) ^^^ C) := by
    rw [pcn_D]
    exact fb_ct_cong fun k hk => (D_xor _ _ _).symm
  rw [ec] at e3
  rw [er] at e1
  exact Prod.ext e3 e1
theorem xor_self3 (a b : Int32) : a ^^^ (a ^^^ b) = b := b_ext fun i _ => by
  rw [b_xor, b_xor]
  cases bt a i <;> cases bt b i <;> rfl
theorem turns_e {rows : Nat → Int32} {t y m : Int32} (hT : pT t) (hY : pY y) : f_X6_turnsDots t y m = nI (pcn m) ∧ g_X6_turnsDots_rows rows t y m = upd rows (rN t y) (rows (rN t y) ^^^ m) := by
  unfold f_X6_turnsDots g_X6_turnsDots_rows
  rw [pic_eq, isP_i hT, i10, i10, isY_i hY, i10, i10, (ix_row hT hY).2.1, bitCount_pc]
  exact ⟨rfl, rfl⟩
theorem bw_core {comes rows pat ops now : Nat → Int32} {cnt t : Int32} {G : Nat → Int32 × (Nat → Int32)} (h : Rs rows pat ops cnt now) (hT : pT t) (g0 : G 0 = (0, now)) (gs : ∀ y, y < 24 → G (y + 1) = ((G y).1 + nI (pcn ((G y).2 (rN t (nI y)) ^^^ comes y)), upd (G y).2 (rN t (nI y)) (comes y))) :
    f_X7_becomesWhatComes comes rows t = (G 24).1 ∧ Rs (g_X7_becomesWhatComes_rows comes rows t) pat ops cnt (G 24).2 := by
  have key : ∀ n, n ≤ 24 → (s_X7_becomesWhatComes_4 comes rows t n).1 = (G n).1 ∧ Rs (s_X7_becomesWhatComes_4 comes rows t n).2 pat ops cnt (G n).2 := by
    intro n
    induction n with
    | zero => intro _; rw [g0]; exact ⟨rfl, h⟩
    | succ n ih =>
      intro hn
      obtain ⟨h1, h2⟩ := ih (by omega)
      have hY : pY (nI n) := pY_n (by omega)
      have hR := rN_lt hT hY
      unfold s_X7_becomesWhatComes_4 b_X7_becomesWhatComes_4
      dsimp only
      rw [rowAt_e hT hY, nI_clamp (by omega), (turns_e (rows := fun _ => 0) hT hY).1, (turns_e hT hY).2, xor_self3, gs n (by omega), h1, h2.1 _ hR]
      exact ⟨rfl, h2.upd hR _⟩
  exact key 24 (Nat.le_refl _)
theorem mir_e {row : Int32} {x : Int} (h0 : 0 ≤ x) (h1 : x < 32) : Dx (f_X7_mirroredRow row) x = Dx row (31 - x) := by
  have key : ∀ n : Nat, n ≤ 32 → ∀ i : Int, 0 ≤ i → i < 32 → Dx (s_X7_mirroredRow_4 row n) i = (decide (i < n) && bt row i.toNat) := by
    intro n
    induction n with
    | zero =>
      intro _ i hi0 hi1
      rw [decide_eq_false (by omega), Bool.false_and]
      exact D_0 i
    | succ n ih =>
      intro hn i hi0 hi1
      unfold s_X7_mirroredRow_4 b_X7_mirroredRow_4
      have e1 : (uShr row (nI n)) &&& 1 = if bt row n then 1 else 0 := by
        rw [and1]
        unfold uShr
        rw [b_ushr n (by omega) row, Nat.add_zero]
      have e2 : (31 - nI n) = nI (31 - n) := by rw [show (31 : Int32) = nI 31 from rfl, pk_sub (by omega)]
      rw [D_or, ih (by omega) i hi0 hi1, e1, e2]
      cases hb : bt row n
      · rw [bft, D_shl (by omega) _ hi0 hi1, D_0, Bool.or_false]
        by_cases z : i < n
        · rw [decide_eq_true z, decide_eq_true (show i < (n + 1 : Nat) by omega)]
        · by_cases z2 : i = n
          · rw [decide_eq_false z, Bool.false_and, z2, Int.toNat_natCast, hb, Bool.and_false]
          · rw [decide_eq_false z, decide_eq_false (show ¬ i < (n + 1 : Nat) by omega)]
      · rw [if_pos rfl, D_shl (by omega) _ hi0 hi1, D_one]
        by_cases z : i < n
        · rw [decide_eq_true z, decide_eq_true (show i < (n + 1 : Nat) by omega), decide_eq_false (by omega), Bool.or_false]
        · by_cases z2 : i = n
          · rw [decide_eq_true (show i + ((31 - n : Nat) : Int) = 31 by omega), Bool.or_true, decide_eq_true (show i < (n + 1 : Nat) by omega), z2, Int.toNat_natCast, hb]
            rfl
          · rw [decide_eq_false z, decide_eq_false (show ¬ i < (n + 1 : Nat) by omega), decide_eq_false (show ¬ i + ((31 - n : Nat) : Int) = 31 by omega)]
            rfl
  have h := key 32 (Nat.le_refl _) x h0 h1
  unfold f_X7_mirroredRow
  rw [h, decide_eq_true (by omega), Bool.true_and, D_in (by omega) (by omega)]
  congr 1
  omega
theorem sum4 {a b c d e : Bool} :
    ((if ((if a then 1 else 0 : Int32) + ((((if b then 1 else 0 : Int32) + (if c then 1 else 0 : Int32)) + (if d then 1 else 0 : Int32)) + (if e then 1 else 0 : Int32))) ≤ 0 then 0 else 1 : Int32) = if (a || b || c || e || d) then 1 else 0) ∧
    ((if (if a then 1 else 0 : Int32) = 1 then if ((((if b then 1 else 0 : Int32) + (if c then 1 else 0 : Int32)) + (if d then 1 else 0 : Int32)) + (if e then 1 else 0 : Int32)) = 4 then 1 else 0 else 0 : Int32) = if (a && b && c && e && d) then 1 else 0) ∧
    ((if (if a then 1 else 0 : Int32) = 1 then if 4 ≤ ((((if b then 1 else 0 : Int32) + (if c then 1 else 0 : Int32)) + (if d then 1 else 0 : Int32)) + (if e then 1 else 0 : Int32)) then 0 else 1 else 0 : Int32) = if (a && !(a && b && c && e && d)) then 1 else 0) := by
  cases a <;> cases b <;> cases c <;> cases d <;> cases e <;> decide
theorem ch_e {rows now aside : Nat → Int32} {t way : Int32} {x y : Nat} (h : ∀ k : Nat, k < 72 → rows k = now k) (hT : pT t) (hx : x < 32) (hy : y < 24) : f_X9_changed (g_X9_copies_aside now aside) t way (nI x) (nI y) = if Dx (f_X7_changedRow rows t (nI y) way) x then 1 else 0 := by
  have i1 : (1 : Int32).toInt = 1 := rfl
  have i31 : (31 : Int32).toInt = 31 := rfl
  have ex : (nI x).toInt = x := nI_toInt (by omega)
  have xp : (nI x + 1).toInt = x + 1 := by rw [tI_add (by omega) (by omega), ex, i1]
  have xm : (nI x - 1).toInt = x - 1 := by rw [tI_sub (by omega) (by omega), ex, i1]
  have xr : (31 - nI x).toInt = 31 - x := by rw [tI_sub (by omega) (by omega), ex, i31]
  have hx0 : (0 : Int) ≤ x := by omega
  have hx1 : (x : Int) < 32 := by omega
  unfold f_X9_changed f_X9_sides f_X7_changedRow
  simp only [aside_dot hT, dot_row h hT, ex, xp, xm, xr]
  have dl : Dx (f_X6_rowAt rows t (nI y) <<< (1 &&& 31)) x = Dx (f_X6_rowAt rows t (nI y)) (x + 1) := D_shl (n := 1) (by decide) _ hx0 hx1
  have du : Dx (uShr (f_X6_rowAt rows t (nI y)) 1) x = Dx (f_X6_rowAt rows t (nI y)) (x - 1) := D_ushr (n := 1) (by decide) _ hx0 hx1
  have dt : Dx (f_X7_thinnedRow rows t (nI y)) x = (Dx (f_X6_rowAt rows t (nI y)) x && Dx (f_X6_rowAt rows t (nI y)) (x + 1) && Dx (f_X6_rowAt rows t (nI y)) (x - 1) && Dx (f_X6_rowAt rows t (nI y - 1)) x && Dx (f_X6_rowAt rows t (nI y + 1)) x) := by
    unfold f_X7_thinnedRow
    rw [D_and, D_and, D_and, D_and, dl, du]
  by_cases q0 : way = 0
  · rw [if_pos q0, if_pos q0, mir_e hx0 hx1]
  · rw [if_neg q0, if_neg q0]
    by_cases q1 : way = 1
    · rw [if_pos q1, if_pos q1]
    · rw [if_neg q1, if_neg q1]
      by_cases q2 : way = 2
      · rw [if_pos q2, if_pos q2, sum4.1]
        unfold f_X7_grownRow
        rw [D_or, D_or, D_or, D_or, dl, du]
      · rw [if_neg q2, if_neg q2]
        by_cases q3 : way = 3
        · rw [if_pos q3, if_pos q3, sum4.2.1, dt]
        · rw [if_neg q3, if_neg q3, sum4.2.2, D_and, D_not hx0 hx1, dt]

theorem sim_changes {rows : Nat → Int32} {pat : Nat → Int32} {ops : Nat → Int32} {cnt : Int32} {krows : Nat → Nat → Int32} {kpat : Nat → Nat → Int32} {kops : Nat → Nat → Int32} {kcnt : Nat → Int32} {next : Int32} {size : Int32} {bytes : Nat → Int32} {len : Int32} {bads : Int32} {noes : Int32} {fulls : Int32} {osz : Int32} {now : Nat → Int32} {past : Nat → Int32} {states : Int32} {refused : Nat → Int32} {text : Nat → Int32} {textL : Int32} {comes : Nat → Int32} {asidem : Nat → Int32} (h : Rel rows pat ops cnt krows kpat kops kcnt next size bytes len bads noes fulls osz now past states refused text textL) (A1 : Int32) (A2 : Int32) : f_X8_changes rows comes A1 A2 = f_X9_changes now asidem A1 A2 ∧ Rel (g_X8_changes_rows rows comes A1 A2) pat ops cnt (g_X8_changes_krows rows krows next A1 A2) (g_X8_changes_kpat pat kpat next A1 A2) (g_X8_changes_kops ops kops next A1 A2) (g_X8_changes_kcnt cnt kcnt next A1 A2) (g_X8_changes_next next A1 A2) (g_X8_changes_size size A1 A2) bytes len (g_X8_changes_bads bads A1 A2) noes fulls osz (g_X9_changes_now now asidem A1 A2) (g_X9_changes_past now past states A1 A2) (g_X9_changes_states states A1 A2) (g_X9_changes_refused refused A1 A2) text textL := by
  unfold f_X8_changes f_X9_changes g_X8_changes_bads g_X8_changes_rows g_X8_changes_krows g_X8_changes_kpat g_X8_changes_kops g_X8_changes_kcnt g_X8_changes_next g_X8_changes_size g_X9_changes_now g_X9_changes_past g_X9_changes_states g_X9_changes_refused
  rw [pic_eq, W_in (a' := 0) (b' := 4) rfl rfl]
  by_cases q : f_X9_isPicture A1 = 0
  · simp only [if_pos q]
    exact ⟨rfl, h.bad⟩
  by_cases q2 : f_X9_in A2.toInt64 0 4 = 0
  · simp only [if_neg q, if_pos q2]
    exact ⟨rfl, h.bad⟩
  simp only [if_neg q, if_neg q2]
  have hT := mP_ne q
  have hc : ∀ y, y < 24 → s_X7_changed_2 comes rows A1 A2 24 y = f_X7_changedRow rows A1 (nI y) A2 := fun y hy => by
    have hf := fill_e (s := s_X7_changed_2 comes rows A1 A2) (F := fun n => f_X7_changedRow rows A1 (nI n) A2) (base := comes) (N := 24) (by decide) rfl (fun n hn => rfl) 24 (Nat.le_refl _) y
    rw [if_pos hy] at hf
    exact hf
  have hb := bw_core (comes := s_X7_changed_2 comes rows A1 A2 24) (G := s_X9_changes_43 now asidem A1 A2) h.1 hT rfl (fun y hy => by
    have eb : s_X9_changes_43 now asidem A1 A2 (y + 1) = ((s_X9_changes_53 now asidem A1 A2 y (s_X9_changes_43 now asidem A1 A2 y) 32).1, (s_X9_changes_53 now asidem A1 A2 y (s_X9_changes_43 now asidem A1 A2 y) 32).2) := rfl
    rw [eb, st_row (f := s_X9_changes_53 now asidem A1 A2 y (s_X9_changes_43 now asidem A1 A2 y)) (c0 := (s_X9_changes_43 now asidem A1 A2 y).1) (now := (s_X9_changes_43 now asidem A1 A2 y).2) (v := fun i => f_X9_changed (g_X9_copies_aside now asidem) A1 A2 (nI i) (nI y)) (C := s_X7_changed_2 comes rows A1 A2 24 y) hT (pY_n hy) rfl (fun i hi => rfl) (fun i hi => by
      rw [hc y hy]
      exact ch_e h.1.1 hT hi hy)])
  exact ⟨hb.1, h.kept hb.2⟩

theorem fm_t {a b : Int32} (hb : 0 < b.toInt) (ha : -1000000 ≤ a.toInt ∧ a.toInt ≤ 1000000) (hb2 : b.toInt ≤ 1000) : (f_J9_floorMod_7cf53 a b).toInt = a.toInt % b.toInt := by
  obtain ⟨h1, h2, h3, h4, h5⟩ := tdm (a := a.toInt) hb
  have er := (rem_t (a := a) hb).2
  have e0 : (0 : Int32).toInt = 0 := rfl
  have eu : ∀ {q r : Int}, a.toInt = b.toInt * q + r → 0 ≤ r → r < b.toInt → a.toInt % b.toInt = r := fun {q r} e r0 r1 => by
    rw [e, Int.add_comm, Int.add_mul_emod_self_left, Int.emod_eq_of_lt r0 r1]
  unfold f_J9_floorMod_7cf53
  by_cases q : 0 ≤ a ^^^ b
  · rw [if_pos q, er]
    exact (eu h1 (h4 ((xor_ge hb).mp q)) h2).symm
  · rw [if_neg q]
    have q' : ¬ 0 ≤ a.toInt := fun z => q ((xor_ge hb).mpr z)
    by_cases q2 : a - a / b * b = 0
    · rw [if_pos q2, er]
      have hz : a.toInt.tmod b.toInt = 0 := by rw [← er, q2]; rfl
      exact (eu h1 (by omega) h2).symm
    · rw [if_neg q2]
      have hne : ¬ a.toInt.tmod b.toInt = 0 := fun z => q2 (Int32.toInt_inj.mp (by rw [er, z]; rfl))
      have h6 := h5 (by omega)
      rw [tI_add (by omega) (by omega), er]
      refine (eu (q := a.toInt.tdiv b.toInt - 1) ?_ (by omega) (by omega)).symm
      rw [Int.mul_sub, Int.mul_one]
      omega
theorem rm_t {a b : Int32} {A B : Int} (ea : a.toInt = A) (eb : b.toInt = B) (h0 : 0 ≤ A) (hB : 0 < B) : (a - a / b * b).toInt = A % B := by
  have er := (rem_t (a := a) (b := b) (by omega)).2
  rw [er, ea, eb, Int.tmod_eq_emod_of_nonneg h0]
theorem ro_e {rows now aside : Nat → Int32} {t A2 A3 : Int32} {x y : Nat} (h : ∀ k : Nat, k < 72 → rows k = now k) (hT : pT t) (hx : x < 32) (hy : y < 24) (h2 : -31 ≤ A2.toInt ∧ A2.toInt ≤ 31) (h3 : -31 ≤ A3.toInt ∧ A3.toInt ≤ 31) :
    f_X9_asideAt (g_X9_copies_aside now aside) t ((((nI x) - A2) + 64) - (((nI x) - A2) + 64) / 32 * 32) ((((nI y) - A3) + 48) - (((nI y) - A3) + 48) / 24 * 24) = if Dx ((f_X8_shifted (f_X6_rowAt rows t (f_J9_floorMod_7cf53 ((nI y) - A3) 24)) (f_J9_floorMod_7cf53 A2 32)) ||| (f_X8_shifted (f_X6_rowAt rows t (f_J9_floorMod_7cf53 ((nI y) - A3) 24)) ((f_J9_floorMod_7cf53 A2 32) - 32))) x then 1 else 0 := by
  have ex : (nI x).toInt = x := nI_toInt (by omega)
  have ey : (nI y).toInt = y := nI_toInt (by omega)
  have i64 : (64 : Int32).toInt = 64 := rfl
  have i48 : (48 : Int32).toInt = 48 := rfl
  have i32' : (32 : Int32).toInt = 32 := rfl
  have i24 : (24 : Int32).toInt = 24 := rfl
  have d1 : ((nI x) - A2).toInt = x - A2.toInt := by rw [tI_sub (by omega) (by omega), ex]
  have d2 : (((nI x) - A2) + 64).toInt = x - A2.toInt + 64 := by rw [tI_add (by omega) (by omega), d1, i64]
  have d3 : ((nI y) - A3).toInt = y - A3.toInt := by rw [tI_sub (by omega) (by omega), ey]
  have d4 : (((nI y) - A3) + 48).toInt = y - A3.toInt + 48 := by rw [tI_add (by omega) (by omega), d3, i48]
  have m1 : ((((nI x) - A2) + 64) - (((nI x) - A2) + 64) / 32 * 32).toInt = (x - A2.toInt + 64) % 32 := rm_t d2 i32' (by omega) (by omega)
  have m2 : ((((nI y) - A3) + 48) - (((nI y) - A3) + 48) / 24 * 24).toInt = (y - A3.toInt + 48) % 24 := rm_t d4 i24 (by omega) (by omega)
  have f1 : (f_J9_floorMod_7cf53 A2 32).toInt = A2.toInt % 32 := by
    rw [fm_t (by omega) (by omega) (by omega), i32']
  have f2 : (f_J9_floorMod_7cf53 ((nI y) - A3) 24).toInt = (y - A3.toInt) % 24 := by
    rw [fm_t (by omega) (by omega) (by omega), i24, d3]
  have f3 : ((f_J9_floorMod_7cf53 A2 32) - 32).toInt = A2.toInt % 32 - 32 := by rw [tI_sub (by omega) (by omega), f1, i32']
  have ey2 : ((((nI y) - A3) + 48) - (((nI y) - A3) + 48) / 24 * 24) = f_J9_floorMod_7cf53 ((nI y) - A3) 24 := Int32.toInt_inj.mp (by rw [m2, f2]; omega)
  rw [aside_dot hT, dot_row h hT, ey2, m1, D_or, D_shifted _ _ (by omega) (by omega), D_shifted _ _ (by omega) (by omega), f1, f3]
  generalize f_X6_rowAt rows t (f_J9_floorMod_7cf53 (nI y - A3) 24) = R
  by_cases z : 0 ≤ (x : Int) - A2.toInt % 32
  · rw [D_out (x := (x : Int) - (A2.toInt % 32 - 32)) (by omega), Bool.or_false]
    congr 3
    omega
  · rw [D_out (x := (x : Int) - A2.toInt % 32) (by omega), Bool.false_or]
    congr 3
    omega

theorem sim_rolls {rows : Nat → Int32} {pat : Nat → Int32} {ops : Nat → Int32} {cnt : Int32} {krows : Nat → Nat → Int32} {kpat : Nat → Nat → Int32} {kops : Nat → Nat → Int32} {kcnt : Nat → Int32} {next : Int32} {size : Int32} {bytes : Nat → Int32} {len : Int32} {bads : Int32} {noes : Int32} {fulls : Int32} {osz : Int32} {now : Nat → Int32} {past : Nat → Int32} {states : Int32} {refused : Nat → Int32} {text : Nat → Int32} {textL : Int32} {comes : Nat → Int32} {asidem : Nat → Int32} (h : Rel rows pat ops cnt krows kpat kops kcnt next size bytes len bads noes fulls osz now past states refused text textL) (A1 : Int32) (A2 : Int32) (A3 : Int32) : f_X8_rolls rows comes A1 A2 A3 = f_X9_rolls now asidem A1 A2 A3 ∧ Rel (g_X8_rolls_rows rows comes A1 A2 A3) pat ops cnt (g_X8_rolls_krows rows krows next A1 A2 A3) (g_X8_rolls_kpat pat kpat next A1 A2 A3) (g_X8_rolls_kops ops kops next A1 A2 A3) (g_X8_rolls_kcnt cnt kcnt next A1 A2 A3) (g_X8_rolls_next next A1 A2 A3) (g_X8_rolls_size size A1 A2 A3) bytes len (g_X8_rolls_bads bads A1 A2 A3) noes fulls osz (g_X9_rolls_now now asidem A1 A2 A3) (g_X9_rolls_past now past states A1 A2 A3) (g_X9_rolls_states states A1 A2 A3) (g_X9_rolls_refused refused A1 A2 A3) text textL := by
  unfold f_X8_rolls f_X9_rolls g_X8_rolls_bads g_X8_rolls_rows g_X8_rolls_krows g_X8_rolls_kpat g_X8_rolls_kops g_X8_rolls_kcnt g_X8_rolls_next g_X8_rolls_size g_X9_rolls_now g_X9_rolls_past g_X9_rolls_states g_X9_rolls_refused
  rw [pic_eq, W_in (v := A2) (a' := -31) (b' := 31) rfl rfl, W_in (v := A3) (a' := -31) (b' := 31) rfl rfl]
  by_cases q : f_X9_isPicture A1 = 0
  · simp only [if_pos q]
    exact ⟨rfl, h.bad⟩
  by_cases q2 : f_X9_in A2.toInt64 (-31) 31 = 0
  · simp only [if_neg q, if_pos q2]
    exact ⟨rfl, h.bad⟩
  by_cases q3 : f_X9_in A3.toInt64 (-31) 31 = 0
  · simp only [if_neg q, if_neg q2, if_pos q3]
    exact ⟨rfl, h.bad⟩
  simp only [if_neg q, if_neg q2, if_neg q3]
  have hT := mP_ne q
  have b2 := mIn_ne q2
  have b3 := mIn_ne q3
  rw [Int32.toInt_toInt64] at b2 b3
  have l0 : (-31 : Int64).toInt = -31 := by decide
  have l1 : (31 : Int64).toInt = 31 := rfl
  rw [l0, l1] at b2 b3
  have hc : ∀ y, y < 24 → s_X7_rolled_3 comes rows A1 A2 A3 24 y = ((f_X8_shifted (f_X6_rowAt rows A1 (f_J9_floorMod_7cf53 ((nI y) - A3) 24)) (f_J9_floorMod_7cf53 A2 32)) ||| (f_X8_shifted (f_X6_rowAt rows A1 (f_J9_floorMod_7cf53 ((nI y) - A3) 24)) ((f_J9_floorMod_7cf53 A2 32) - 32))) := fun y hy => by
    have hf := fill_e (s := s_X7_rolled_3 comes rows A1 A2 A3) (F := fun n => ((f_X8_shifted (f_X6_rowAt rows A1 (f_J9_floorMod_7cf53 ((nI n) - A3) 24)) (f_J9_floorMod_7cf53 A2 32)) ||| (f_X8_shifted (f_X6_rowAt rows A1 (f_J9_floorMod_7cf53 ((nI n) - A3) 24)) ((f_J9_floorMod_7cf53 A2 32) - 32)))) (base := comes) (N := 24) (by decide) rfl (fun n hn => rfl) 24 (Nat.le_refl _) y
    rw [if_pos hy] at hf
    exact hf
  have hb := bw_core (comes := s_X7_rolled_3 comes rows A1 A2 A3 24) (G := s_X9_rolls_60 now asidem A1 A2 A3) h.1 hT rfl (fun y hy => by
    have eb : s_X9_rolls_60 now asidem A1 A2 A3 (y + 1) = ((s_X9_rolls_70 now asidem A1 A2 A3 y (s_X9_rolls_60 now asidem A1 A2 A3 y) 32).1, (s_X9_rolls_70 now asidem A1 A2 A3 y (s_X9_rolls_60 now asidem A1 A2 A3 y) 32).2) := rfl
    rw [eb, st_row (f := s_X9_rolls_70 now asidem A1 A2 A3 y (s_X9_rolls_60 now asidem A1 A2 A3 y)) (c0 := (s_X9_rolls_60 now asidem A1 A2 A3 y).1) (now := (s_X9_rolls_60 now asidem A1 A2 A3 y).2) (v := fun i => f_X9_asideAt (g_X9_copies_aside now asidem) A1 ((((nI i) - A2) + 64) - (((nI i) - A2) + 64) / 32 * 32) ((((nI y) - A3) + 48) - (((nI y) - A3) + 48) / 24 * 24)) (C := s_X7_rolled_3 comes rows A1 A2 A3 24 y) hT (pY_n hy) rfl (fun i hi => rfl) (fun i hi => by
      rw [hc y hy]
      exact ro_e h.1.1 hT hi hy b2 b3)])
  exact ⟨hb.1, h.kept hb.2⟩

theorem sim_joins {rows : Nat → Int32} {pat : Nat → Int32} {ops : Nat → Int32} {cnt : Int32} {krows : Nat → Nat → Int32} {kpat : Nat → Nat → Int32} {kops : Nat → Nat → Int32} {kcnt : Nat → Int32} {next : Int32} {size : Int32} {bytes : Nat → Int32} {len : Int32} {bads : Int32} {noes : Int32} {fulls : Int32} {osz : Int32} {now : Nat → Int32} {past : Nat → Int32} {states : Int32} {refused : Nat → Int32} {text : Nat → Int32} {textL : Int32} {asidem : Nat → Int32} (h : Rel rows pat ops cnt krows kpat kops kcnt next size bytes len bads noes fulls osz now past states refused text textL) (A1 : Int32) (A2 : Int32) (A3 : Int32) : f_X8_joins rows pat ops cnt A1 A2 A3 = f_X9_joins now asidem A1 A2 A3 ∧ Rel (g_X8_joins_rows rows pat ops cnt A1 A2 A3) pat ops cnt (g_X8_joins_krows rows krows next A1 A2 A3) (g_X8_joins_kpat pat kpat next A1 A2 A3) (g_X8_joins_kops ops kops next A1 A2 A3) (g_X8_joins_kcnt cnt kcnt next A1 A2 A3) (g_X8_joins_next next A1 A2 A3) (g_X8_joins_size size A1 A2 A3) bytes len (g_X8_joins_bads bads A1 A2 A3) noes fulls osz (g_X9_joins_now now asidem A1 A2 A3) (g_X9_joins_past now past states A1 A2 A3) (g_X9_joins_states states A1 A2 A3) (g_X9_joins_refused refused A1 A2 A3) text textL := by
  unfold f_X8_joins f_X9_joins g_X8_joins_bads g_X8_joins_rows g_X8_joins_krows g_X8_joins_kpat g_X8_joins_kops g_X8_joins_kcnt g_X8_joins_next g_X8_joins_size g_X9_joins_now g_X9_joins_past g_X9_joins_states g_X9_joins_refused f_X9_isJoin
  rw [pic_eq, pic_eq, W_in (a' := 0) (b' := 255) rfl rfl]
  by_cases q : f_X9_isPicture A1 = 0
  · simp only [if_pos q]
    exact ⟨rfl, h.bad⟩
  by_cases q2 : f_X9_isPicture A2 = 0
  · simp only [if_neg q, if_pos q2]
    exact ⟨rfl, h.bad⟩
  by_cases q3 : f_X9_in A3.toInt64 0 255 = 0
  · simp only [if_neg q, if_neg q2, if_pos q3]
    exact ⟨rfl, h.bad⟩
  simp only [if_neg q, if_neg q2, if_neg q3]
  have hS := mP_ne q
  have hT := mP_ne q2
  have key : ∀ n, n ≤ 24 → (s_X7_joined_6 rows pat ops cnt A1 A2 A3 n).1 = (s_X9_moves_14 now asidem A1 0 0 32 A2 0 0 A3 n).1 ∧ Rs (s_X7_joined_6 rows pat ops cnt A1 A2 A3 n).2 pat ops cnt (s_X9_moves_14 now asidem A1 0 0 32 A2 0 0 A3 n).2 ∧ ∀ y, n ≤ y → y < 24 → (s_X7_joined_6 rows pat ops cnt A1 A2 A3 n).2 (rN A1 (nI y)) = rows (rN A1 (nI y)) := by
    intro n
    induction n with
    | zero => intro _; exact ⟨rfl, h.1, fun _ _ _ => rfl⟩
    | succ n ih =>
      intro hn
      obtain ⟨h1, h2, h3⟩ := ih (by omega)
      have hY : pY (nI n) := pY_n (by omega)
      have eb : s_X9_moves_14 now asidem A1 0 0 32 A2 0 0 A3 (n + 1) = ((s_X9_moves_24 now asidem A1 0 0 A2 0 0 A3 n (s_X9_moves_14 now asidem A1 0 0 32 A2 0 0 A3 n) 32).1, (s_X9_moves_24 now asidem A1 0 0 A2 0 0 A3 n (s_X9_moves_14 now asidem A1 0 0 32 A2 0 0 A3 n) 32).2) := rfl
      have ec : s_X7_joined_6 rows pat ops cnt A1 A2 A3 (n + 1) = ((s_X7_joined_6 rows pat ops cnt A1 A2 A3 n).1 + (f_X6_joinsRow (s_X7_joined_6 rows pat ops cnt A1 A2 A3 n).2 pat ops cnt A2 (nI n) (-1) (f_X6_rowAt (s_X7_joined_6 rows pat ops cnt A1 A2 A3 n).2 A1 (nI n)) A3), g_X6_joinsRow_rows (s_X7_joined_6 rows pat ops cnt A1 A2 A3 n).2 pat ops cnt A2 (nI n) (-1) (f_X6_rowAt (s_X7_joined_6 rows pat ops cnt A1 A2 A3 n).2 A1 (nI n)) A3) := rfl
      have er : f_X6_rowAt (s_X7_joined_6 rows pat ops cnt A1 A2 A3 n).2 A1 (nI n) = f_X6_rowAt rows A1 (nI n) := by
        rw [rowAt_e hS hY, rowAt_e hS hY]
        exact h3 n (Nat.le_refl _) (by omega)
      rw [er] at ec
      have e0 : (0 : Int32).toInt = 0 := rfl
      have hj := jr (f := s_X9_moves_24 now asidem A1 0 0 A2 0 0 A3 n (s_X9_moves_14 now asidem A1 0 0 32 A2 0 0 A3 n)) (c0 := (s_X9_moves_14 now asidem A1 0 0 32 A2 0 0 A3 n).1) (w := 32) (X := 0) (y := 0 + nI n) (t := A2) (join := A3)
          (source := f_X6_rowAt rows A1 (nI n)) (mask := -1) (sv := fun j => f_X9_asideAt (g_X9_copies_aside now asidem) A1 (0 + nI j) (0 + nI n))
          h2 hT (by decide) (by omega) (fun x hx0 hx1 => by rw [D_m1 hx0 hx1, e0, decide_eq_true (by omega)]) rfl (fun j hj => rfl) (fun j hj hx0 hx1 => by
            rw [aside_dot hS, dot_row h.1.1 hS, Int32.zero_add, Int32.zero_add, nI_toInt (by omega), e0, Int.zero_add])
      rw [Int32.zero_add] at hj
      generalize s_X9_moves_24 now asidem A1 0 0 A2 0 0 A3 n (s_X9_moves_14 now asidem A1 0 0 32 A2 0 0 A3 n) 32 = G at eb hj
      rw [eb, ec]
      refine ⟨?_, hj.2, fun y hy hy2 => ?_⟩
      · dsimp only
        rw [h1]
        exact hj.1.symm
      · dsimp only
        rw [← h3 y (by omega) hy2, (joinsRow_e hT hY rfl).2, pk_un]
        unfold rN
        rw [nI_toInt (by omega), nI_toInt (by omega)]
        omega
  have hk := key 24 (Nat.le_refl _)
  exact ⟨hk.1, h.kept hk.2.1⟩
