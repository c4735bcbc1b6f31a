/-- the place of a row -/
theorem ix_row {t y : Int32} (hT : pT t) (hY : pY y) : (24 * t + y).toNatClampNeg = 24 * t.toInt.toNat + y.toInt.toNat ∧ (t * 24 + y).toNatClampNeg = 24 * t.toInt.toNat + y.toInt.toNat ∧ 24 * t.toInt.toNat + y.toInt.toNat < 72 := by
  obtain ⟨a1, a2⟩ := hT
  obtain ⟨b1, b2⟩ := hY
  have et : t = nI t.toInt.toNat := Dn_of (by omega) (by omega)
  have ey : y = nI y.toInt.toNat := Dn_of (by omega) (by omega)
  have e1 : 24 * t + y = nI (24 * t.toInt.toNat + y.toInt.toNat) := by
    rw [show (24 : Int32) = nI 24 from rfl]
    conv => lhs; rw [et, ey]
    rw [pk_mul, nI_add]
  have e2 : t * 24 + y = nI (24 * t.toInt.toNat + y.toInt.toNat) := by
    rw [← e1, Int32.mul_comm]
  refine ⟨?_, ?_, by omega⟩
  · rw [e1, nI_clamp (by omega)]
  · rw [e2, nI_clamp (by omega)]
theorem isP_i {t : Int32} (h : pT t) : f_X9_isPicture t = 1 := by
  show f_X9_in t.toInt64 0 2 = 1
  rw [in_e, if_pos]
  rw [Int32.toInt_toInt64]
  exact h
theorem isY_i {y : Int32} (h : pY y) : f_X8_isWithin y 0 23 = 1 := by
  rw [isW_e, if_pos]
  exact h
theorem isY_z {y : Int32} (h : ¬ pY y) : f_X8_isWithin y 0 23 = 0 := by
  rw [isW_e, if_neg]
  exact h
theorem isIn_i {x y : Int32} (hx : 0 ≤ x.toInt ∧ x.toInt ≤ 31) (hy : pY y) : f_X9_isIn x y = 1 := by
  unfold f_X9_isIn
  rw [if_neg (in_ne (by rw [Int32.toInt_toInt64]; exact hx)), if_neg (in_ne (by rw [Int32.toInt_toInt64]; exact hy))]
theorem isIn_z {x y : Int32} (h : ¬ ((0 ≤ x.toInt ∧ x.toInt ≤ 31) ∧ pY y)) : f_X9_isIn x y = 0 := by
  unfold f_X9_isIn
  by_cases q : 0 ≤ x.toInt ∧ x.toInt ≤ 31
  · rw [if_neg (in_ne (by rw [Int32.toInt_toInt64]; exact q)), if_pos (in_z (by rw [Int32.toInt_toInt64]; exact fun z => h ⟨q, z⟩))]
  · rw [if_pos (in_z (by rw [Int32.toInt_toInt64]; exact q))]
/-- the number of a row -/
def rN (t y : Int32) : Nat := 24 * t.toInt.toNat + y.toInt.toNat
theorem rN_lt {t y : Int32} (hT : pT t) (hY : pY y) : rN t y < 72 := (ix_row hT hY).2.2
theorem rowAt_e {rows : Nat → Int32} {t y : Int32} (hT : pT t) (hY : pY y) : f_X6_rowAt rows t y = rows (rN t y) := by
  unfold f_X6_rowAt
  rw [pic_eq, isP_i hT, if_neg (by decide), isY_i hY, if_neg (by decide), (ix_row hT hY).2.1]
  rfl
theorem rowAt_z {rows : Nat → Int32} {t y : Int32} (hY : ¬ pY y) : f_X6_rowAt rows t y = 0 := by
  unfold f_X6_rowAt
  rw [isY_z hY]
  split <;> rfl
theorem dotOf_e {now : Nat → Int32} {t x y : Int32} (hT : pT t) (hx : 0 ≤ x.toInt ∧ x.toInt ≤ 31) (hY : pY y) : f_X9_dotOf now t x y = if Dx (now (rN t y)) x.toInt then 1 else 0 := by
  unfold f_X9_dotOf
  rw [isIn_i hx hY, if_neg (by decide), (ix_row hT hY).1, D_bitOf hx]
  rfl
theorem dotOf_z {now : Nat → Int32} {t x y : Int32} (h : ¬ ((0 ≤ x.toInt ∧ x.toInt ≤ 31) ∧ pY y)) : f_X9_dotOf now t x y = 0 := by
  unfold f_X9_dotOf
  rw [isIn_z h, if_pos rfl]
theorem i10 {α : Type} {a b : α} : (if (1 : Int32) = 0 then a else b) = b := if_neg (by decide)
theorem i00 {α : Type} {a b : α} : (if (0 : Int32) = 0 then a else b) = a := if_pos rfl
theorem bft {α : Type} {a b : α} : (if false = true then a else b) = b := if_neg (by decide)
theorem b01i {α : Type} {a b : Bool} {p q : α} : (if (if a then 1 else 0 : Int32) = (if b then 1 else 0 : Int32) then p else q) = (if a = b then p else q) := by cases a <;> cases b <;> rfl
theorem b01 {a b : Bool} : ((if a then 1 else 0 : Int32) = if b then 1 else 0) = (a = b) := by cases a <;> cases b <;> decide
theorem upd_id {f : Nat → Int32} {k : Nat} {v : Int32} (h : f k = v) : upd f k v = f := by
  funext j
  by_cases e : j = k
  · rw [e, pk_us, h]
  · rw [pk_un e]
theorem upd_upd {f : Nat → Int32} {k : Nat} {v w : Int32} : upd (upd f k v) k w = upd f k w := by
  funext j
  by_cases e : j = k
  · rw [e, pk_us, pk_us]
  · rw [pk_un e, pk_un e, pk_un e]
theorem D_one (z : Int) : Dx 1 z = decide (z = 31) := by
  have h1 : ∀ i, i < 32 → bt 1 i = decide (i = 0) := by decide +kernel
  by_cases h : 0 ≤ z ∧ z < 32
  · rw [D_in h.1 h.2, h1 _ (by omega)]
    congr 1
    rw [eq_iff_iff]
    omega
  · rw [D_out h]
    symm
    apply decide_eq_false
    omega
theorem D_bit {x : Int32} (hx : 0 ≤ x.toInt ∧ x.toInt ≤ 31) {i : Int} (h0 : 0 ≤ i) (h1 : i < 32) : Dx (1 <<< ((31 - x) &&& 31)) i = decide (i = x.toInt) := by
  have e31 : (31 : Int32).toInt = 31 := rfl
  have e : (31 - x) = nI (31 - x.toInt).toNat := Dn_of (by rw [tI_sub (by omega) (by omega)]; omega) (by omega)
  rw [e, D_shl (by omega) 1 h0 h1, D_one]
  congr 1
  rw [eq_iff_iff]
  omega
/-- what sets does -/
theorem sets_e {now : Nat → Int32} {t x y v : Int32} {b : Bool} (hT : pT t) (hx : 0 ≤ x.toInt ∧ x.toInt ≤ 31) (hY : pY y) (hv : v = if b then 1 else 0) :
    ∃ r : Int32, g_X9_sets_now now t x y v = upd now (rN t y) r ∧ (∀ i : Int, 0 ≤ i → i < 32 → Dx r i = if i = x.toInt then b else Dx (now (rN t y)) i) ∧ f_X9_sets now t x y v = if (Dx (now (rN t y)) x.toInt ^^ b) then 1 else 0 := by
  refine ⟨now (rN t y) ^^^ (if f_X9_dotOf now t x y = v then 0 else (1 <<< ((31 - x) &&& 31)) : Int32), ?_, fun i h0 h1 => ?_, ?_⟩
  · unfold g_X9_sets_now
    rw [(ix_row hT hY).1]
    rfl
  · rw [D_xor, dotOf_e hT hx hY, hv, b01i]
    by_cases e : Dx (now (rN t y)) x.toInt = b
    · rw [if_pos e, D_0, Bool.xor_false]
      by_cases q : i = x.toInt
      · rw [if_pos q, q, e]
      · rw [if_neg q]
    · rw [if_neg e, D_bit hx h0 h1]
      by_cases q : i = x.toInt
      · rw [if_pos q, decide_eq_true q, q]
        cases hd : Dx (now (rN t y)) x.toInt <;> cases b <;> first | rfl | exact absurd hd e
      · rw [if_neg q, decide_eq_false q, Bool.xor_false]
  · unfold f_X9_sets
    rw [dotOf_e hT hx hY, hv, b01i]
    cases Dx (now (rN t y)) x.toInt <;> cases b <;> rfl
theorem Rs.upd {rows pat ops now : Nat → Int32} {cnt : Int32} (h : Rs rows pat ops cnt now) {R : Nat} (hR : R < 72) (r : Int32) : Rs (upd rows R r) pat ops cnt (upd now R r) := by
  obtain ⟨h1, h2, h3, h4, h5⟩ := h
  refine ⟨fun k hk => ?_, fun k hk => ?_, ?_, h4, fun k hk => ?_⟩
  · by_cases e : k = R
    · rw [e, pk_us, pk_us]
    · rw [pk_un e, pk_un e]; exact h1 k hk
  · rw [pk_un (by omega)]; exact h2 k hk
  · rw [pk_un (by omega)]; exact h3
  · refine ⟨fun j hj => ?_, (h5 k hk).2⟩
    rw [pk_un (by omega)]; exact (h5 k hk).1 j hj
theorem ix8 {s p d : Bool} : (4 * (if s then 1 else 0 : Int32) + 2 * (if p then 1 else 0 : Int32)) + (if d then 1 else 0 : Int32) = nI ((if s then 4 else 0) + (if p then 2 else 0) + (if d then 1 else 0)) := by cases s <;> cases p <;> cases d <;> decide
theorem ix8_lt {s p d : Bool} : (if s then 4 else 0) + (if p then 2 else 0) + (if d then 1 else 0) < 32 := by cases s <;> cases p <;> cases d <;> decide
/-- one dot of the reference -/
theorem join1 {rows pat ops now : Nat → Int32} {cnt t x y s join : Int32} {sb : Bool} (h : Rs rows pat ops cnt now) (hT : pT t) (hx : 0 ≤ x.toInt ∧ x.toInt ≤ 31) (hY : pY y) (hs : s = if sb then 1 else 0) :
    ∃ r : Int32, g_X9_joinsAt_now now t x y s join = upd now (rN t y) r ∧
      (∀ i : Int, 0 ≤ i → i < 32 → Dx r i = if i = x.toInt ∧ Dx (f_X6_openAt ops cnt y) x.toInt = true then jb join sb (Dx (f_X6_patternAt pat y) x.toInt) (Dx (now (rN t y)) x.toInt) else Dx (now (rN t y)) i) ∧
      f_X9_joinsAt now t x y s join = if (Dx (f_X6_openAt ops cnt y) x.toInt && (jb join sb (Dx (f_X6_patternAt pat y) x.toInt) (Dx (now (rN t y)) x.toInt) ^^ Dx (now (rN t y)) x.toInt)) then 1 else 0 := by
  obtain ⟨y1, y2⟩ := hY
  have ho := open_eq (x := x) (y := y) h hx (by omega)
  unfold g_X9_joinsAt_now f_X9_joinsAt
  rw [isIn_i hx ⟨y1, y2⟩, i10, i10, ho]
  cases hO : Dx (f_X6_openAt ops cnt y) x.toInt
  · rw [bft, i00, i00]
    refine ⟨now (rN t y), (upd_id rfl).symm, fun i h0 h1 => ?_, ?_⟩
    · rw [if_neg]
      intro q; cases q.2
    · rw [Bool.false_and, bft]
  · rw [if_pos rfl, i10, i10]
    have e : ((join >>> ((((4 * s) + (2 * (f_X9_patternAt now x y))) + (f_X9_dotOf now t x y)) &&& 31)) &&& 1) = if jb join sb (Dx (f_X6_patternAt pat y) x.toInt) (Dx (now (rN t y)) x.toInt) then 1 else 0 := by
      rw [hs, D_pat h hx ⟨y1, y2⟩, dotOf_e hT hx ⟨y1, y2⟩]
      exact sh_and1 ix8 ix8_lt
    obtain ⟨r, e1, e2, e3⟩ := sets_e (now := now) hT hx ⟨y1, y2⟩ e
    refine ⟨r, e1, fun i h0 h1 => ?_, ?_⟩
    · rw [e2 i h0 h1]
      by_cases q : i = x.toInt
      · rw [if_pos q, if_pos ⟨q, rfl⟩]
      · rw [if_neg q, if_neg (fun z => q z.1)]
    · rw [e3, Bool.true_and, Bool.xor_comm]
theorem nI_bool {n : Nat} {B : Bool} : nI n + (if B then 1 else 0 : Int32) = nI (n + (if B then 1 else 0)) := by
  cases B
  · exact Int32.add_zero _
  · exact nI_1 n
theorem pcn_0 : pcn 0 = 0 := by decide +kernel
theorem i32_xor0 (a : Int32) : a ^^^ 0 = a := b_ext fun i _ => by rw [b_xor, b_0, Bool.xor_false]
theorem i32_and0 (a : Int32) : a &&& 0 = 0 := b_ext fun i _ => by rw [b_and, b_0, Bool.and_false]
/-- one row of the class -/
theorem joinsRow_e {rows pat ops : Nat → Int32} {cnt t y mask source join : Int32} (hT : pT t) (hY : pY y) {E : Int32} (hE : E = ((f_X8_joinedRow source (f_X6_patternAt pat y) (rows (rN t y)) join) ^^^ (rows (rN t y))) &&& (mask &&& (f_X6_openAt ops cnt y))) :
    f_X6_joinsRow rows pat ops cnt t y mask source join = nI (pcn E) ∧ g_X6_joinsRow_rows rows pat ops cnt t y mask source join = upd rows (rN t y) (rows (rN t y) ^^^ E) := by
  unfold f_X6_joinsRow g_X6_joinsRow_rows
  by_cases q : mask &&& f_X6_openAt ops cnt y = 0
  · rw [if_pos q, if_pos q]
    rw [q, i32_and0] at hE
    rw [hE, pcn_0, i32_xor0, upd_id rfl]
    exact ⟨rfl, rfl⟩
  · rw [if_neg q, if_neg q, rowAt_e hT hY, ← hE]
    unfold f_X6_turnsDots g_X6_turnsDots_rows
    rw [pic_eq, isP_i hT, i10, i10, isY_i hY, i10, i10, (ix_row hT hY).2.1, bitCount_pc]
    exact ⟨rfl, rfl⟩
theorem joinsRow_z {rows pat ops : Nat → Int32} {cnt t y mask source join : Int32} (hY : ¬ pY y) : f_X6_joinsRow rows pat ops cnt t y mask source join = 0 ∧ g_X6_joinsRow_rows rows pat ops cnt t y mask source join = rows := by
  unfold f_X6_joinsRow g_X6_joinsRow_rows f_X6_turnsDots g_X6_turnsDots_rows
  rw [isY_z hY, i00, i00]
  constructor <;> (repeat' split) <;> rfl
/-- a row of the reference's dots is a row of the class -/
theorem jr {rows pat ops now : Nat → Int32} {cnt t y X join source mask c0 : Int32} {w : Nat} {sv : Nat → Int32} {f : Nat → Int32 × (Nat → Int32)} (h : Rs rows pat ops cnt now) (hT : pT t) (hX : -1000 ≤ X.toInt ∧ X.toInt ≤ 900) (hw : w ≤ 64)
    (hm : ∀ x : Int, 0 ≤ x → x < 32 → Dx mask x = decide (X.toInt ≤ x ∧ x < X.toInt + w)) (h0 : f 0 = (c0, now))
    (hs : ∀ i : Nat, i < w → f (i + 1) = ((f i).1 + f_X9_joinsAt (f i).2 t (X + nI i) y (sv i) join, g_X9_joinsAt_now (f i).2 t (X + nI i) y (sv i) join))
    (hv : ∀ i : Nat, i < w → 0 ≤ X.toInt + i → X.toInt + i < 32 → sv i = if Dx source (X.toInt + i) then 1 else 0) :
    (f w).1 = c0 + f_X6_joinsRow rows pat ops cnt t y mask source join ∧ Rs (g_X6_joinsRow_rows rows pat ops cnt t y mask source join) pat ops cnt (f w).2 := by
  by_cases hY : pY y
  · obtain ⟨r0, hr0⟩ : ∃ r0, r0 = now (rN t y) := ⟨_, rfl⟩
    have hR := rN_lt hT hY
    have hr1 : rows (rN t y) = r0 := by rw [hr0]; exact h.1 _ hR
    obtain ⟨O, hO⟩ : ∃ O : Int → Bool, O = fun x => Dx (f_X6_openAt ops cnt y) x := ⟨_, rfl⟩
    obtain ⟨J, hJ⟩ : ∃ J : Int → Bool, J = fun x => jb join (Dx source x) (Dx (f_X6_patternAt pat y) x) (Dx r0 x) := ⟨_, rfl⟩
    obtain ⟨q, hq⟩ : ∃ q : Int → Bool, q = fun x => O x && (J x ^^ Dx r0 x) := ⟨_, rfl⟩
    have hq0 : ∀ x, ¬ (0 ≤ x ∧ x < 32) → q x = false := fun x hx => by rw [hq, hO]; dsimp only; rw [D_out hx, Bool.false_and]
    have inv : ∀ i : Nat, i ≤ w → ∃ r : Int32, (f i).2 = upd now (rN t y) r ∧ (∀ x : Int, 0 ≤ x → x < 32 → Dx r x = if (X.toInt ≤ x ∧ x < X.toInt + i) ∧ O x = true then J x else Dx r0 x) ∧ (f i).1 = c0 + nI (fb_ct (fun x => decide (X.toInt ≤ (x : Int) ∧ (x : Int) < X.toInt + i) && q x) 32) := by
      intro i
      induction i with
      | zero =>
        intro _
        refine ⟨r0, by rw [h0, hr0, upd_id rfl], fun x _ _ => ?_, ?_⟩
        · rw [if_neg]; omega
        · rw [h0]
          have e : fb_ct (fun x => decide (X.toInt ≤ (x : Int) ∧ (x : Int) < X.toInt + ((0 : Nat) : Int)) && q x) 32 = 0 := fb_ct_zero.mpr fun k hk => by
            rw [decide_eq_false (by omega), Bool.false_and]
          rw [e, nI_0, Int32.add_zero]
      | succ i ih =>
        intro hi
        obtain ⟨r, e1, e2, e3⟩ := ih (by omega)
        have ex : (X + nI i).toInt = X.toInt + i := by
          rw [tI_add (by rw [nI_toInt (by omega)]; omega) (by rw [nI_toInt (by omega)]; omega), nI_toInt (by omega)]
        rw [hs i (by omega), cs_step hq0]
        by_cases hin : 0 ≤ X.toInt + i ∧ X.toInt + i < 32
        · have hRs : Rs (upd rows (rN t y) r) pat ops cnt (f i).2 := by rw [e1]; exact h.upd hR r
          obtain ⟨r', g1, g2, g3⟩ := join1 (join := join) hRs hT (x := X + nI i) (by omega) hY (hv i (by omega) hin.1 hin.2)
          have er : (f i).2 (rN t y) = r := by rw [e1, pk_us]
          rw [er, ex] at g2 g3
          have exx : Dx r (X.toInt + i) = Dx r0 (X.toInt + i) := by rw [e2 _ hin.1 hin.2, if_neg (by omega)]
          rw [exx] at g2 g3
          refine ⟨r', by dsimp only; rw [g1, e1, upd_upd], fun x hx0 hx1 => ?_, ?_⟩
          · rw [g2 x hx0 hx1, e2 x hx0 hx1]
            by_cases z : x = X.toInt + i
            · subst z
              by_cases zo : Dx (f_X6_openAt ops cnt y) (X.toInt + i) = true
              · rw [if_pos ⟨rfl, zo⟩, if_pos ⟨by omega, by rw [hO]; exact zo⟩, hJ]
              · rw [if_neg (fun k => zo k.2), if_neg (by omega), if_neg (fun k => zo (by have := k.2; rw [hO] at this; exact this))]
            · rw [if_neg (fun k => z k.1)]
              by_cases zc : (X.toInt ≤ x ∧ x < X.toInt + i) ∧ O x = true
              · rw [if_pos zc, if_pos ⟨by omega, zc.2⟩]
              · rw [if_neg zc, if_neg (fun k => zc ⟨by omega, k.2⟩)]
          · dsimp only
            have e4 : q (X.toInt + i) = (Dx (f_X6_openAt ops cnt y) (X.toInt + i) && (jb join (Dx source (X.toInt + i)) (Dx (f_X6_patternAt pat y) (X.toInt + i)) (Dx r0 (X.toInt + i)) ^^ Dx r0 (X.toInt + i))) := by rw [hq, hO, hJ]
            rw [e3, g3, ← e4, Int32.add_assoc, nI_bool]
        · have ez : f_X9_isIn (X + nI i) y = 0 := isIn_z (by rw [ex]; omega)
          have z1 : f_X9_joinsAt (f i).2 t (X + nI i) y (sv i) join = 0 := by unfold f_X9_joinsAt; rw [if_pos ez]
          have z2 : g_X9_joinsAt_now (f i).2 t (X + nI i) y (sv i) join = (f i).2 := by unfold g_X9_joinsAt_now; rw [if_pos ez]
          rw [z1, z2, hq0 _ hin]
          refine ⟨r, e1, fun x hx0 hx1 => ?_, ?_⟩
          · rw [e2 x hx0 hx1]
            by_cases zc : (X.toInt ≤ x ∧ x < X.toInt + i) ∧ O x = true
            · rw [if_pos zc, if_pos ⟨by omega, zc.2⟩]
            · rw [if_neg zc, if_neg (fun k => zc ⟨by omega, k.2⟩)]
          · dsimp only
            rw [e3, Int32.add_zero, bft, Nat.add_zero]
    obtain ⟨r, e1, e2, e3⟩ := inv w (Nat.le_refl w)
    obtain ⟨E, hE⟩ : ∃ E, E = ((f_X8_joinedRow source (f_X6_patternAt pat y) (rows (rN t y)) join) ^^^ (rows (rN t y))) &&& (mask &&& (f_X6_openAt ops cnt y)) := ⟨_, rfl⟩
    obtain ⟨k1, k2⟩ := joinsRow_e hT hY hE
    have hD : ∀ x : Int, 0 ≤ x → x < 32 → Dx E x = (decide (X.toInt ≤ x ∧ x < X.toInt + w) && q x) := fun x hx0 hx1 => by
      rw [hE, D_and, D_xor, D_and, D_joined hx0 hx1, hm x hx0 hx1, hr1, hq, hO, hJ]
      dsimp only
      cases decide (X.toInt ≤ x ∧ x < X.toInt + w) <;> cases Dx (f_X6_openAt ops cnt y) x <;> simp
    have e5 : pcn E = fb_ct (fun x => decide (X.toInt ≤ (x : Int) ∧ (x : Int) < X.toInt + w) && q x) 32 := by
      rw [pcn_D]
      exact fb_ct_cong fun k hk => hD k (by omega) (by omega)
    rw [k1, k2, e1, e3, e5]
    constructor
    · rfl
    · have er : r = rows (rN t y) ^^^ E := D_ext fun x hx0 hx1 => by
        rw [e2 x hx0 hx1, D_xor, hD x hx0 hx1, hr1, hq]
        dsimp only
        by_cases zc : (X.toInt ≤ x ∧ x < X.toInt + w) ∧ O x = true
        · rw [if_pos zc, decide_eq_true zc.1, zc.2]
          cases J x <;> cases Dx r0 x <;> rfl
        · rw [if_neg zc]
          by_cases z1 : X.toInt ≤ x ∧ x < X.toInt + w
          · have z2 : O x = false := by
              cases hh : O x
              · rfl
              · exact absurd ⟨z1, hh⟩ zc
            rw [z2, Bool.false_and, Bool.and_false, Bool.xor_false]
          · rw [decide_eq_false z1, Bool.false_and, Bool.xor_false]
      rw [er]
      exact h.upd hR _
  · obtain ⟨k1, k2⟩ := joinsRow_z (rows := rows) (pat := pat) (ops := ops) (cnt := cnt) (t := t) (mask := mask) (source := source) (join := join) hY
    rw [k1, k2]
    have inv : ∀ i : Nat, i ≤ w → f i = (c0, now) := by
      intro i
      induction i with
      | zero => intro _; exact h0
      | succ i ih =>
        intro hi
        have ez : f_X9_isIn (X + nI i) y = 0 := isIn_z (fun z => hY z.2)
        rw [hs i (by omega), ih (by omega)]
        dsimp only
        unfold f_X9_joinsAt g_X9_joinsAt_now
        rw [if_pos ez, if_pos ez, Int32.add_zero]
    rw [inv w (Nat.le_refl w)]
    exact ⟨(Int32.add_zero _).symm, h⟩
