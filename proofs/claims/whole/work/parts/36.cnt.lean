def tn (x : Int32) : Nat := x.toBitVec.toNat
theorem tn_lt (x : Int32) : tn x < 4294967296 := x.toBitVec.isLt
theorem tn_nI (x : Int32) : x = nI (tn x) := by
  apply Int32.toBitVec_inj.mp
  show x.toBitVec = BitVec.ofNat 32 x.toBitVec.toNat
  rw [BitVec.ofNat_toNat, BitVec.setWidth_eq]
theorem tn_and (x y : Int32) : tn (x &&& y) = tn x &&& tn y := by
  unfold tn
  rw [Int32.toBitVec_and, BitVec.toNat_and]
theorem tn_add (x y : Int32) (h : tn x + tn y < 4294967296) : tn (x + y) = tn x + tn y := by
  unfold tn at *
  rw [Int32.toBitVec_add, BitVec.toNat_add]
  exact Nat.mod_eq_of_lt h
theorem tn_sub (x y : Int32) (h : tn y ≤ tn x) : tn (x - y) = tn x - tn y := by
  have h1 := tn_lt x
  unfold tn at *
  rw [Int32.toBitVec_sub, BitVec.toNat_sub]
  omega
theorem tn_sh (x s : Int32) (k : Nat) (hs : ((s.toUInt32 &&& Int32.toUInt32 31).toBitVec % 32).toNat = k) : tn (uShr x s) = tn x / 2 ^ k := pk_ushr x s k hs
theorem and_split {a c : Nat} (ha : a < 256) (hc : c < 256) (u v : Nat) : (256 * u + a) &&& (256 * v + c) = 256 * (u &&& v) + (a &&& c) := by
  have hac : a &&& c < 2 ^ 8 := Nat.and_lt_two_pow a hc
  apply Nat.eq_of_testBit_eq
  intro j
  rw [Nat.testBit_and, show 256 = 2 ^ 8 from rfl, Nat.testBit_two_pow_mul_add _ ha, Nat.testBit_two_pow_mul_add _ hc, Nat.testBit_two_pow_mul_add _ hac]
  split <;> rw [Nat.testBit_and]
def bc1 (b : Nat) : Nat := (b / 2) &&& 85
def bc2 (c : Nat) : Nat := (c &&& 51) + ((c / 4) &&& 51)
def bc3 (d : Nat) : Nat := (d + d / 16) % 16
theorem bc_all : ∀ b, b < 256 → bc1 b ≤ b ∧ bc2 (b - bc1 b) < 256 ∧ bc2 (b - bc1 b) % 16 ≤ 4 ∧ bc2 (b - bc1 b) / 16 ≤ 4 ∧ bc3 (bc2 (b - bc1 b)) = fb_ct (fun i => b.testBit i) 8 ∧ fb_ct (fun i => b.testBit i) 8 ≤ 8 := by decide +kernel
theorem bc_s1 : ∀ b, b < 256 → ∀ c, c < 2 → (128 * c + b / 2) &&& 85 = (b / 2) &&& 85 := by decide +kernel
theorem bc_s2 : ∀ b, b < 256 → ∀ c, c < 4 → (64 * c + b / 4) &&& 51 = (b / 4) &&& 51 := by decide +kernel
theorem st1 {b U M : Nat} (hb : b < 256) : ((256 * U + b) / 2) &&& (256 * M + 85) = 256 * ((U / 2) &&& M) + bc1 b := by
  have e : (256 * U + b) / 2 = 256 * (U / 2) + (128 * (U % 2) + b / 2) := by omega
  rw [e, and_split (by omega) (by decide), bc_s1 b hb _ (by omega)]
  rfl
theorem st2 {b U M : Nat} (hb : b < 256) : ((256 * U + b) / 4) &&& (256 * M + 51) = 256 * ((U / 4) &&& M) + ((b / 4) &&& 51) := by
  have e : (256 * U + b) / 4 = 256 * (U / 4) + (64 * (U % 4) + b / 4) := by omega
  rw [e, and_split (by omega) (by decide), bc_s2 b hb _ (by omega)]
theorem st1a {b0 b1 b2 b3 : Nat} (h0 : b0 < 256) (h1 : b1 < 256) (h2 : b2 < 256) (h3 : b3 < 256) : ((256 * (256 * (256 * b3 + b2) + b1) + b0) / 2) &&& 1431655765 = 256 * (256 * (256 * bc1 b3 + bc1 b2) + bc1 b1) + bc1 b0 := by
  rw [show 1431655765 = 256 * (256 * (256 * 85 + 85) + 85) + 85 from rfl, st1 h0, st1 h1, st1 h2]
  rfl
theorem and3 (c : Nat) : c &&& 51 < 256 := Nat.lt_of_le_of_lt Nat.and_le_right (by decide)
theorem st2a {b0 b1 b2 b3 : Nat} (h0 : b0 < 256) (h1 : b1 < 256) (h2 : b2 < 256) (h3 : b3 < 256) : ((256 * (256 * (256 * b3 + b2) + b1) + b0) &&& 858993459) + (((256 * (256 * (256 * b3 + b2) + b1) + b0) / 4) &&& 858993459) = 256 * (256 * (256 * bc2 b3 + bc2 b2) + bc2 b1) + bc2 b0 := by
  rw [show 858993459 = 256 * (256 * (256 * 51 + 51) + 51) + 51 from rfl, st2 h0, st2 h1, st2 h2, and_split h0 (by decide), and_split h1 (by decide), and_split h2 (by decide)]
  unfold bc2
  omega
theorem and15 (e : Nat) : e &&& 15 = e % 16 := Nat.and_two_pow_sub_one_eq_mod e 4
theorem st3a {d0 d1 d2 d3 : Nat} (h0 : d0 % 16 ≤ 4 ∧ d0 / 16 ≤ 4) (h1 : d1 % 16 ≤ 4 ∧ d1 / 16 ≤ 4) (h2 : d2 % 16 ≤ 4 ∧ d2 / 16 ≤ 4) (h3 : d3 % 16 ≤ 4 ∧ d3 / 16 ≤ 4) : ((256 * (256 * (256 * d3 + d2) + d1) + d0) + (256 * (256 * (256 * d3 + d2) + d1) + d0) / 16) &&& 252645135 = 256 * (256 * (256 * bc3 d3 + bc3 d2) + bc3 d1) + bc3 d0 := by
  have e : (256 * (256 * (256 * d3 + d2) + d1) + d0) + (256 * (256 * (256 * d3 + d2) + d1) + d0) / 16 = 256 * (256 * (256 * (d3 + d3 / 16) + (d2 + d2 / 16 + 16 * (d3 % 16))) + (d1 + d1 / 16 + 16 * (d2 % 16))) + (d0 + d0 / 16 + 16 * (d1 % 16)) := by omega
  rw [e, show 252645135 = 256 * (256 * (256 * 15 + 15) + 15) + 15 from rfl, and_split (by omega) (by decide), and_split (by omega) (by decide), and_split (by omega) (by decide), and15, and15, and15, and15, Nat.add_mul_mod_self_left, Nat.add_mul_mod_self_left, Nat.add_mul_mod_self_left]
  rfl
theorem st5b {p0 p1 p2 p3 : Nat} (h0 : p0 ≤ 8) (h1 : p1 ≤ 8) (h2 : p2 ≤ 8) (h3 : p3 ≤ 8) : ((256 * (256 * (256 * p3 + p2) + p1) + p0) + (256 * (256 * p3 + p2) + p1)) + ((256 * (256 * (256 * p3 + p2) + p1) + p0) + (256 * (256 * p3 + p2) + p1)) / 65536 < 4294967296 := by omega
theorem st5 {p0 p1 p2 p3 : Nat} (h0 : p0 ≤ 8) (h1 : p1 ≤ 8) (h2 : p2 ≤ 8) (h3 : p3 ≤ 8) : (((256 * (256 * (256 * p3 + p2) + p1) + p0) + (256 * (256 * p3 + p2) + p1)) + ((256 * (256 * (256 * p3 + p2) + p1) + p0) + (256 * (256 * p3 + p2) + p1)) / 65536) % 64 = p0 + p1 + p2 + p3 := by
  have e : ((256 * (256 * (256 * p3 + p2) + p1) + p0) + (256 * (256 * p3 + p2) + p1)) / 65536 = p2 + p3 + 256 * p3 := by omega
  rw [e]
  omega
def j1_ (i : Int32) : Int32 := i - ((uShr i 1) &&& 1431655765)
def j2_ (i : Int32) : Int32 := (i &&& 858993459) + ((uShr i 2) &&& 858993459)
def j3_ (i : Int32) : Int32 := (i + uShr i 4) &&& 252645135
def j4_ (i : Int32) : Int32 := i + uShr i 8
def j5_ (i : Int32) : Int32 := i + uShr i 16
theorem bc_def (i : Int32) : f_J6_bitCount_0f7a4 i = j5_ (j4_ (j3_ (j2_ (j1_ i)))) &&& 63 := rfl
theorem bt_tn (x : Int32) (i : Nat) : bt x i = (tn x).testBit i := rfl
/-- how many of a row's dots are 1 -/
def pcn (x : Int32) : Nat := fb_ct (fun i => bt x i) 32
theorem bitCount_pc (x : Int32) : f_J6_bitCount_0f7a4 x = nI (pcn x) := by
  obtain ⟨b0, hb0⟩ : ∃ b, b = tn x % 256 := ⟨_, rfl⟩
  obtain ⟨b1, hb1⟩ : ∃ b, b = tn x / 256 % 256 := ⟨_, rfl⟩
  obtain ⟨b2, hb2⟩ : ∃ b, b = tn x / 65536 % 256 := ⟨_, rfl⟩
  obtain ⟨b3, hb3⟩ : ∃ b, b = tn x / 16777216 % 256 := ⟨_, rfl⟩
  have hx := tn_lt x
  have e0 : tn x = 256 * (256 * (256 * b3 + b2) + b1) + b0 := by omega
  have l0 : b0 < 256 := by omega
  have l1 : b1 < 256 := by omega
  have l2 : b2 < 256 := by omega
  have l3 : b3 < 256 := by omega
  obtain ⟨a0, c0, d0, f0, g0, k0⟩ := bc_all b0 l0
  obtain ⟨a1, c1, d1, f1, g1, k1⟩ := bc_all b1 l1
  obtain ⟨a2, c2, d2, f2, g2, k2⟩ := bc_all b2 l2
  obtain ⟨a3, c3, d3, f3, g3, k3⟩ := bc_all b3 l3
  have hcnt : pcn x = fb_ct (fun i => b0.testBit i) 8 + fb_ct (fun i => b1.testBit i) 8 + fb_ct (fun i => b2.testBit i) 8 + fb_ct (fun i => b3.testBit i) 8 := by
    have tb : ∀ (q k : Nat), 2 ^ k = q → ∀ i, i < 8 → (tn x / q % 256).testBit i = bt x (k + i) := by
      intro q k hq i hi
      rw [bt_tn, show 256 = 2 ^ 8 from rfl, Nat.testBit_mod_two_pow, decide_eq_true hi, Bool.true_and, ← hq, Nat.testBit_div_two_pow, Nat.add_comm]
    have t0 : fb_ct (fun i => b0.testBit i) 8 = fb_ct (fun i => bt x i) 8 := fb_ct_cong fun i hi => by
      have h := tb 1 0 rfl i hi
      rw [Nat.div_one, Nat.zero_add] at h
      rw [hb0]; exact h
    have t1 : fb_ct (fun i => b1.testBit i) 8 = fb_ct (fun i => bt x (8 + i)) 8 := fb_ct_cong fun i hi => by rw [hb1]; exact tb 256 8 rfl i hi
    have t2 : fb_ct (fun i => b2.testBit i) 8 = fb_ct (fun i => bt x (8 + (8 + i))) 8 := fb_ct_cong fun i hi => by
      have h := tb 65536 16 rfl i hi
      rw [hb2, h]
      congr 1
      omega
    have t3 : fb_ct (fun i => b3.testBit i) 8 = fb_ct (fun i => bt x (8 + (8 + (8 + i)))) 8 := fb_ct_cong fun i hi => by
      have h := tb 16777216 24 rfl i hi
      rw [hb3, h]
      congr 1
      omega
    unfold pcn
    rw [t0, t1, t2, t3]
    have s1 := fb_ct_split (fun i => bt x i) 8 24
    have s2 := fb_ct_split (fun i => bt x (8 + i)) 8 16
    have s3 := fb_ct_split (fun i => bt x (8 + (8 + i))) 8 8
    rw [show 8 + 24 = 32 from rfl] at s1
    rw [show 8 + 16 = 24 from rfl] at s2
    rw [show 8 + 8 = 16 from rfl] at s3
    omega
  have q1 : tn (j1_ x) = 256 * (256 * (256 * (b3 - bc1 b3) + (b2 - bc1 b2)) + (b1 - bc1 b1)) + (b0 - bc1 b0) := by
    have h : tn ((uShr x 1) &&& 1431655765) = 256 * (256 * (256 * bc1 b3 + bc1 b2) + bc1 b1) + bc1 b0 := by
      rw [tn_and, tn_sh x 1 1 (by decide), e0]
      exact st1a l0 l1 l2 l3
    unfold j1_
    rw [tn_sub _ _ (by rw [h, e0]; omega), h, e0]
    omega
  obtain ⟨m0, hm0⟩ : ∃ m, m = bc2 (b0 - bc1 b0) := ⟨_, rfl⟩
  obtain ⟨m1, hm1⟩ : ∃ m, m = bc2 (b1 - bc1 b1) := ⟨_, rfl⟩
  obtain ⟨m2, hm2⟩ : ∃ m, m = bc2 (b2 - bc1 b2) := ⟨_, rfl⟩
  obtain ⟨m3, hm3⟩ : ∃ m, m = bc2 (b3 - bc1 b3) := ⟨_, rfl⟩
  rw [← hm0] at c0 d0 f0 g0
  rw [← hm1] at c1 d1 f1 g1
  rw [← hm2] at c2 d2 f2 g2
  rw [← hm3] at c3 d3 f3 g3
  have q2 : tn (j2_ (j1_ x)) = 256 * (256 * (256 * m3 + m2) + m1) + m0 := by
    have h := st2a (b0 := b0 - bc1 b0) (b1 := b1 - bc1 b1) (b2 := b2 - bc1 b2) (b3 := b3 - bc1 b3) (by omega) (by omega) (by omega) (by omega)
    rw [← hm0, ← hm1, ← hm2, ← hm3, ← q1] at h
    have e1 : tn ((j1_ x) &&& 858993459) = tn (j1_ x) &&& 858993459 := tn_and _ _
    have e2 : tn ((uShr (j1_ x) 2) &&& 858993459) = (tn (j1_ x) / 4) &&& 858993459 := by
      rw [tn_and, tn_sh _ 2 2 (by decide)]
      rfl
    unfold j2_
    rw [tn_add _ _ (by rw [e1, e2, h]; omega), e1, e2, h]
  have q3 : tn (j3_ (j2_ (j1_ x))) = 256 * (256 * (256 * bc3 m3 + bc3 m2) + bc3 m1) + bc3 m0 := by
    have h := st3a (d0 := m0) (d1 := m1) (d2 := m2) (d3 := m3) ⟨d0, f0⟩ ⟨d1, f1⟩ ⟨d2, f2⟩ ⟨d3, f3⟩
    rw [← q2] at h
    have e2 : tn (uShr (j2_ (j1_ x)) 4) = tn (j2_ (j1_ x)) / 16 := tn_sh _ 4 4 (by decide)
    unfold j3_
    rw [tn_and, tn_add _ _ (by rw [e2, q2]; omega), e2]
    exact h
  rw [g0, g1, g2, g3] at q3
  generalize fb_ct (fun i => b0.testBit i) 8 = p0 at *
  generalize fb_ct (fun i => b1.testBit i) 8 = p1 at *
  generalize fb_ct (fun i => b2.testBit i) 8 = p2 at *
  generalize fb_ct (fun i => b3.testBit i) 8 = p3 at *
  have e4 : tn (uShr (j3_ (j2_ (j1_ x))) 8) = tn (j3_ (j2_ (j1_ x))) / 256 := tn_sh _ 8 8 (by decide)
  have q4 : tn (j4_ (j3_ (j2_ (j1_ x)))) = (256 * (256 * (256 * p3 + p2) + p1) + p0) + (256 * (256 * p3 + p2) + p1) := by
    unfold j4_
    rw [tn_add _ _ (by rw [e4, q3]; omega), e4, q3]
    omega
  have e5 : tn (uShr (j4_ (j3_ (j2_ (j1_ x)))) 16) = tn (j4_ (j3_ (j2_ (j1_ x)))) / 65536 := tn_sh _ 16 16 (by decide)
  have q5 : tn (j5_ (j4_ (j3_ (j2_ (j1_ x))))) % 64 = p0 + p1 + p2 + p3 := by
    unfold j5_
    rw [tn_add _ _ (by rw [e5, q4]; exact st5b k0 k1 k2 k3), e5, q4]
    exact st5 k0 k1 k2 k3
  have q6 : tn (f_J6_bitCount_0f7a4 x) = pcn x := by
    rw [bc_def, tn_and, show tn 63 = 2 ^ 6 - 1 from rfl, Nat.and_two_pow_sub_one_eq_mod, hcnt]
    exact q5
  rw [tn_nI (f_J6_bitCount_0f7a4 x), q6]
theorem pcn_le (x : Int32) : pcn x ≤ 32 := fb_ct_le _ _
theorem fb_ct_rev : ∀ (n : Nat) (p : Nat → Bool), fb_ct (fun i => p (n - 1 - i)) n = fb_ct p n
  | 0, _ => rfl
  | n + 1, p => by
    have h := fb_ct_split (fun i => p (n + 1 - 1 - i)) 1 n
    rw [Nat.add_comm 1 n] at h
    have h2 : fb_ct (fun k => p (n + 1 - 1 - (1 + k))) n = fb_ct (fun k => p (n - 1 - k)) n := fb_ct_cong fun k hk => by
      congr 1
      omega
    have h3 : fb_ct (fun i => p (n + 1 - 1 - i)) 1 = if p n then 1 else 0 := by
      rw [fb_ct_succ]
      simp [fb_ct]
    rw [h, h2, fb_ct_rev n p, h3, fb_ct_succ p n, Nat.add_comm]
/-- the same, from the left -/
theorem pcn_D (x : Int32) : pcn x = fb_ct (fun i => Dx x i) 32 := by
  unfold pcn
  rw [← fb_ct_rev 32 (fun i => bt x i)]
  exact fb_ct_cong fun i hi => by
    rw [D_in (by omega) (by omega)]
    congr 1
    omega
/-- one dot more of a span -/
theorem cs_step {q : Int → Bool} (hq : ∀ x, ¬ (0 ≤ x ∧ x < 32) → q x = false) (X : Int) (i : Nat) :
    fb_ct (fun x => decide (X ≤ (x : Int) ∧ (x : Int) < X + (i + 1 : Nat)) && q x) 32 = fb_ct (fun x => decide (X ≤ (x : Int) ∧ (x : Int) < X + i) && q x) 32 + (if q (X + i) then 1 else 0) := by
  by_cases h : 0 ≤ X + i ∧ X + i < 32
  · have e := fb_ct_upd (fun x => decide (X ≤ (x : Int) ∧ (x : Int) < X + i) && q x) (q (X + i)) (i := (X + i).toNat) (n := 32) (by omega)
    have e2 : fb_ct (fun x => decide (X ≤ (x : Int) ∧ (x : Int) < X + (i + 1 : Nat)) && q x) 32 = fb_ct (fun k => if k = (X + i).toNat then q (X + i) else (decide (X ≤ (k : Int) ∧ (k : Int) < X + i) && q k)) 32 := fb_ct_cong fun k hk => by
      by_cases ek : k = (X + i).toNat
      · rw [if_pos ek, decide_eq_true (by omega), Bool.true_and]
        congr 1
        omega
      · rw [if_neg ek]
        congr 2
        rw [eq_iff_iff]
        omega
    have e3 : (decide (X ≤ (((X + i).toNat : Nat) : Int) ∧ (((X + i).toNat : Nat) : Int) < X + i) && q (((X + i).toNat : Nat) : Int)) = false := by
      rw [decide_eq_false (by omega), Bool.false_and]
    rw [e3] at e
    rw [e2]
    simpa using e
  · rw [hq _ h]
    have e2 : fb_ct (fun x => decide (X ≤ (x : Int) ∧ (x : Int) < X + (i + 1 : Nat)) && q x) 32 = fb_ct (fun x => decide (X ≤ (x : Int) ∧ (x : Int) < X + i) && q x) 32 := fb_ct_cong fun k hk => by
      congr 2
      rw [eq_iff_iff]
      omega
    rw [e2]
    rfl
