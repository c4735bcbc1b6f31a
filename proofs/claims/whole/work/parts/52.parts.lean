theorem low_b {l : Int32} (h : ¬ l = 0) : ∃ i, i < 32 ∧ bt l i = true ∧ ∀ j, j < 32 → (bt (l &&& (-l)) j = true ↔ j = i) := by
  have ex : ∃ i, i < 32 ∧ bt l i = true := Classical.byContradiction fun z => h (b_ext fun i hi => by
    rw [b_0]
    cases e : bt l i with
    | false => rfl
    | true => exact absurd ⟨i, hi, e⟩ z)
  obtain ⟨i, ⟨hi, hb⟩, hm⟩ := least_n (q := fun i => i < 32 ∧ bt l i = true) ex
  have ng : ∀ j, j < 32 → bt (-l) j = (bt l j ^^ decide (∃ k, k < j ∧ bt l k = true)) := fun j hj => by
    unfold bt
    rw [Int32.toBitVec_neg, BitVec.getLsbD_neg, decide_eq_true hj, Bool.true_and]
  refine ⟨i, hi, hb, fun j hj => ?_⟩
  rw [b_and, ng j hj]
  rcases Nat.lt_trichotomy j i with q | q | q
  · cases e : bt l j with
    | false => rw [Bool.false_and]; exact ⟨fun w => (by cases w), fun w => by omega⟩
    | true => exact absurd ⟨hj, e⟩ (hm j q)
  · subst q
    rw [hb, decide_eq_false (fun w => by obtain ⟨k, hk, hk2⟩ := w; exact hm k hk ⟨by omega, hk2⟩)]
    exact ⟨fun _ => rfl, fun _ => rfl⟩
  · rw [decide_eq_true (p := ∃ k, k < j ∧ bt l k = true) ⟨i, q, hb⟩]
    cases bt l j
    · exact ⟨fun w => (by cases w), fun w => by omega⟩
    · exact ⟨fun w => (by cases w), fun w => by omega⟩
theorem low_d {l : Int32} (h : ¬ l = 0) : ∃ x0 : Nat, x0 < 32 ∧ Dx l (x0 : Int) = true ∧ ∀ x : Nat, x < 32 → (Dx (l &&& (-l)) (x : Int) = true ↔ x = x0) := by
  obtain ⟨i, hi, hb, hj⟩ := low_b h
  refine ⟨31 - i, by omega, ?_, fun x hx => ?_⟩
  · rw [D_in (by omega) (by omega), show ((31 : Int) - ((31 - i : Nat) : Int)).toNat = i by omega]; exact hb
  · rw [D_in (by omega) (by omega), hj _ (by omega)]; omega
theorem pcn_dec {a b : Int32} {x0 : Nat} (hs : ∀ x : Nat, x < 32 → Dx a (x : Int) = true → Dx b (x : Int) = true) (hx : x0 < 32) (hb : Dx b (x0 : Int) = true) (ha : Dx a (x0 : Int) = false) : pcn a < pcn b := by
  rw [pcn_D, pcn_D]
  have k := fb_ct_upd (fun i => Dx b (i : Int)) false (i := x0) (n := 32) hx
  have k2 : fb_ct (fun i => Dx a (i : Int)) 32 ≤ fb_ct (fun k => if k = x0 then false else Dx b (k : Int)) 32 := fb_ct_sub fun i hi hq => by
    by_cases e : i = x0
    · rw [e, ha] at hq; cases hq
    · rw [if_neg e]; exact hs i hi hq
  rw [hb, if_pos rfl, bft] at k
  omega
theorem pcn_z {a : Int32} (h : pcn a = 0) : a = 0 := by
  rw [pcn_D] at h
  have k := fb_ct_zero.mp h
  refine D_ext fun x h0 h1 => ?_
  have := k x.toNat (by omega)
  rw [Int.toNat_of_nonneg h0] at this
  rw [this, D_0]
theorem np_in {L0 : Nat → Int32} {y : Nat} (hy : y < 24) : ∀ (n i : Nat) (z : Int32 × (Nat → Int32) × (Nat → Int32) × (Nat → Int32) × Int32) (m : Nat), z.1 = nI m → Sys (Gl L0) (Gl z.2.1) m → pcn (z.2.1 y) ≤ n → ∃ m', (r_X4_numberOfParts_12 y n i z).1 = nI m' ∧ Sys (Gl L0) (Gl (r_X4_numberOfParts_12 y n i z).2.1) m' ∧ (r_X4_numberOfParts_12 y n i z).2.1 y = 0 ∧ ∀ X Y, Gl (r_X4_numberOfParts_12 y n i z).2.1 X Y → Gl z.2.1 X Y
  | 0, i, z, m, h1, hs, hp => by
    unfold r_X4_numberOfParts_12
    exact ⟨m, h1, hs, pcn_z (Nat.le_zero.mp hp), fun _ _ g => g⟩
  | n + 1, i, z, m, h1, hs, hp => by
    unfold r_X4_numberOfParts_12
    rw [nI_clamp (n := y) (by omega)]
    by_cases hz : z.2.1 y = 0
    · rw [if_pos hz]
      exact ⟨m, h1, hs, hz, fun _ _ g => g⟩
    · rw [if_neg hz]
      obtain ⟨x0, hx0, hd, hl⟩ := low_d hz
      have tk := fun X Y => takes_e (L0 := z.2.1) (srow := z.2.2.1) (sdot := z.2.2.2.1) hy hl X Y
      have g0 : Gl z.2.1 x0 y := ⟨hy, hd⟩
      have hs2 := hs.step g0 (left' := Gl (g_X4_takesOut_left z.2.1 z.2.2.1 z.2.2.2.1 (nI y) (z.2.1 y &&& (-(z.2.1 y))))) (fun X Y => by
        rw [tk X Y]
        exact ⟨fun w => ⟨w.1, fun c => w.2 ⟨g0, c⟩⟩, fun w => ⟨w.1, fun c => w.2 c.2⟩⟩)
      have hlt : pcn (g_X4_takesOut_left z.2.1 z.2.2.1 z.2.2.2.1 (nI y) (z.2.1 y &&& (-(z.2.1 y))) y) < pcn (z.2.1 y) := pcn_dec (fun X hX hq => (((tk X y).mp ⟨hy, hq⟩).1).2) hx0 hd (by
        cases e : Dx (g_X4_takesOut_left z.2.1 z.2.2.1 z.2.2.2.1 (nI y) (z.2.1 y &&& (-(z.2.1 y))) y) (x0 : Int) with
        | false => rfl
        | true => exact absurd ⟨g0, Cmp.start⟩ ((tk x0 y).mp ⟨hy, e⟩).2)
      obtain ⟨m', e1, e2, e3, e4⟩ := np_in hy n (i + 1) (z.1 + 1, g_X4_takesOut_left z.2.1 z.2.2.1 z.2.2.2.1 (nI y) (z.2.1 y &&& (-(z.2.1 y))), g_X4_takesOut_srow z.2.1 z.2.2.1 z.2.2.2.1 (nI y) (z.2.1 y &&& (-(z.2.1 y))), g_X4_takesOut_sdot z.2.1 z.2.2.1 z.2.2.2.1 (nI y) (z.2.1 y &&& (-(z.2.1 y))), g_X4_takesOut_steps z.2.1 z.2.2.1 z.2.2.2.1 (nI y) (z.2.1 y &&& (-(z.2.1 y)))) (m + 1) (by rw [h1]; exact up1 m) hs2 (by dsimp only; omega)
      exact ⟨m', e1, e2, e3, fun X Y g => ((tk X Y).mp (e4 X Y g)).1⟩
theorem np_out {L0 srow sdot : Nat → Int32} {steps : Int32} : ∀ n, n ≤ 24 → ∃ m, (s_X4_numberOfParts_4 L0 srow sdot steps n).1 = nI m ∧ Sys (Gl L0) (Gl (s_X4_numberOfParts_4 L0 srow sdot steps n).2.1) m ∧ ∀ y, y < n → (s_X4_numberOfParts_4 L0 srow sdot steps n).2.1 y = 0
  | 0, _ => ⟨0, rfl, Sys.zero, fun y hy => absurd hy (Nat.not_lt_zero y)⟩
  | n + 1, hn => by
    obtain ⟨m, e1, e2, e3⟩ := np_out (L0 := L0) (srow := srow) (sdot := sdot) (steps := steps) n (by omega)
    have e : s_X4_numberOfParts_4 L0 srow sdot steps (n + 1) = b_X4_numberOfParts_4 n (s_X4_numberOfParts_4 L0 srow sdot steps n) := rfl
    rw [e]
    generalize s_X4_numberOfParts_4 L0 srow sdot steps n = z at *
    unfold b_X4_numberOfParts_4
    obtain ⟨N, hN⟩ : ∃ N : Nat, N = 32 := ⟨_, rfl⟩
    rw [← hN]
    obtain ⟨m', a1, a2, a3, a4⟩ := np_in (L0 := L0) (y := n) (by omega) N 0 (z.1, z.2.1, z.2.2.1, z.2.2.2.1, z.2.2.2.2) m e1 e2 (by rw [hN]; exact pcn_le _)
    generalize r_X4_numberOfParts_12 n N 0 (z.1, z.2.1, z.2.2.1, z.2.2.2.1, z.2.2.2.2) = W at *
    refine ⟨m', a1, a2, fun y hy => ?_⟩
    by_cases q : y = n
    · rw [q]; exact a3
    · refine Classical.byContradiction fun w => ?_
      obtain ⟨x, hx, hd⟩ := D_ne w
      have := (a4 x y ⟨by omega, hd⟩).2
      have z0 := e3 y (by omega)
      dsimp only at this
      rw [z0, D_0] at this
      cases this
def dk (now : Nat → Int32) (t : Int32) (k : Nat) : Prop := Dx (now (24 * t.toInt.toNat + k / 32)) ((k % 32 : Nat) : Int) = true
theorem dk_e {now : Nat → Int32} {t : Int32} {k : Nat} (hT : pT t) (hk : k < 768) : f_X9_dotOf now t (nI (k % 32)) (nI (k / 32)) = 1 ↔ dk now t k := by
  unfold dk
  rw [dotOf_e hT (xN (by omega)).1 (pY_n (by omega)), (xN (x := k % 32) (by omega)).2, rN_e (by omega)]
  cases Dx (now (24 * t.toInt.toNat + k / 32)) ((k % 32 : Nat) : Int) <;> simp
theorem pr_out {now pile came : Nat → Int32} {pileL t : Int32} (hT : pT t) : ∀ n, n ≤ 768 → ∃ m, (s_X9_partsOf_8 now pile came pileL t n).1 = nI m ∧ Sys (Gs now t 1 0) (fun x y => Gs now t 1 0 x y ∧ ¬ Cm (s_X9_partsOf_8 now pile came pileL t n).2.2.1 x y) m ∧ ∀ k, k < n → dk now t k → Cm (s_X9_partsOf_8 now pile came pileL t n).2.2.1 (k % 32) (k / 32)
  | 0, _ => ⟨0, rfl, Sys.zero.cg (fun x y => ⟨fun w => w.1, fun w => ⟨w, none_c⟩⟩), fun k hk => absurd hk (Nat.not_lt_zero k)⟩
  | n + 1, hn => by
    obtain ⟨m, e1, e2, e3⟩ := pr_out (now := now) (pile := pile) (came := came) (pileL := pileL) hT n (by omega)
    have e : s_X9_partsOf_8 now pile came pileL t (n + 1) = b_X9_partsOf_8 now t n (s_X9_partsOf_8 now pile came pileL t n) := rfl
    rw [e]
    generalize s_X9_partsOf_8 now pile came pileL t n = z at *
    unfold b_X9_partsOf_8
    rw [nI_clamp (by omega), rm32 (by omega), dv32 (by omega)]
    have hx : n % 32 < 32 := by omega
    have hy : n / 32 < 24 := by omega
    have hq : 32 * (n / 32) + n % 32 = n := by omega
    by_cases hc : z.2.2.1 n = 0
    · rw [if_pos hc, if_pos hc, if_pos hc, if_pos hc]
      have nc : ¬ Cm z.2.2.1 (n % 32) (n / 32) := fun w => by have := w.2.2; rw [hq] at this; exact this hc
      by_cases hd : f_X9_dotOf now t (nI (n % 32)) (nI (n / 32)) = 1
      · rw [if_pos hd, if_pos hd, if_pos hd, if_pos hd]
        have hg : Gs now t 1 0 (n % 32) (n / 32) := ⟨hx, hy, hd, Or.inl rfl⟩
        have sp := (spreads_e (now := now) (pile := z.2.1) (came0 := z.2.2.1) (t := t) (ao := 0) hx hy (by rw [hd]; exact hg) nc).1
        rw [hd] at sp
        refine ⟨m + 1, by rw [e1]; exact up1 m, e2.step (x0 := n % 32) (y0 := n / 32) ⟨hg, nc⟩ (fun x y => ?_), fun k hk hdk => ?_⟩
        · dsimp only
          rw [sp x y]
          exact ⟨fun w => ⟨⟨w.1, fun c => w.2 (Or.inl c)⟩, fun c => w.2 (Or.inr c)⟩, fun w => ⟨w.1.1, fun c => c.elim w.1.2 w.2⟩⟩
        · dsimp only
          rw [sp]
          by_cases q : k = n
          · rw [q]; exact Or.inr Cmp.start
          · exact Or.inl (e3 k (by omega) hdk)
      · rw [if_neg hd, if_neg hd, if_neg hd, if_neg hd]
        refine ⟨m, e1, e2, fun k hk hdk => ?_⟩
        by_cases q : k = n
        · rw [q] at hdk; exact absurd ((dk_e hT (by omega)).mpr hdk) hd
        · exact e3 k (by omega) hdk
    · rw [if_neg hc, if_neg hc, if_neg hc, if_neg hc]
      refine ⟨m, e1, e2, fun k hk hdk => ?_⟩
      by_cases q : k = n
      · rw [q]; exact ⟨hx, hy, by rw [hq]; exact hc⟩
      · exact e3 k (by omega) hdk
theorem parts_e {rows pat ops now left srow sdot pile came : Nat → Int32} {cnt steps t pileL : Int32} (h : Rs rows pat ops cnt now) (hT : pT t) : f_X0_partsOf rows left srow sdot steps t = f_X9_partsOf now pile came pileL t := by
  have l0 := fill_e (s := s_X0_partsOf_2 rows left t) (F := fun n => f_X6_rowAt rows t (nI n)) (base := left) (N := 24) (by decide) rfl (fun n hn => rfl) 24 (Nat.le_refl _)
  unfold f_X0_partsOf f_X4_numberOfParts f_X9_partsOf
  generalize s_X0_partsOf_2 rows left t 24 = L0 at l0 ⊢
  obtain ⟨m, a1, a2, a3⟩ := np_out (L0 := L0) (srow := srow) (sdot := sdot) (steps := steps) 24 (Nat.le_refl _)
  obtain ⟨m', b1, b2, b3⟩ := pr_out (now := now) (pile := pile) (came := came) (pileL := pileL) hT 768 (Nat.le_refl _)
  rw [a1, b1]
  generalize s_X4_numberOfParts_4 L0 srow sdot steps 24 = S at *
  generalize s_X9_partsOf_8 now pile came pileL t 768 = S' at *
  have gG : ∀ x y, Gl L0 x y ↔ Gs now t 1 0 x y := fun x y => by
    by_cases q : x < 32 ∧ y < 24
    · have k := dk_e (now := now) (t := t) (k := 32 * y + x) hT (by omega)
      unfold dk at k
      rw [show (32 * y + x) % 32 = x by omega, show (32 * y + x) / 32 = y by omega] at k
      unfold Gl Gs
      rw [l0 y, if_pos q.2, rowAt_e hT (pY_n q.2), h.1 _ (rN_lt hT (pY_n q.2)), rN_e q.2, k]
      exact ⟨fun w => ⟨q.1, q.2, w.2, Or.inl rfl⟩, fun w => ⟨q.2, w.2.2.1⟩⟩
    · exact ⟨fun g => absurd ⟨Gl_x g, g.1⟩ q, fun g => absurd ⟨g.1, g.2.1⟩ q⟩
  have eG : Gl L0 = Gs now t 1 0 := funext fun x => funext fun y => propext (gG x y)
  rw [eG] at a2
  refine congrArg nI (a2.uniq (fun x y g => ?_) b2 (fun x y g => ?_))
  · have k := g.2
    rw [a3 y g.1, D_0] at k
    cases k
  · have gx := g.1.1
    have gy := g.1.2.1
    have k := b3 (32 * y + x) (by omega) ((dk_e hT (by omega)).mp (by rw [show (32 * y + x) % 32 = x by omega, show (32 * y + x) / 32 = y by omega]; exact g.1.2.2.1))
    rw [show (32 * y + x) % 32 = x by omega, show (32 * y + x) / 32 = y by omega] at k
    exact g.2 k
