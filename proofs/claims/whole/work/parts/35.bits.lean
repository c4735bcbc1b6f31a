def bt (x : Int32) (i : Nat) : Bool := x.toBitVec.getLsbD i
theorem b_ext {x y : Int32} (h : ∀ i, i < 32 → bt x i = bt y i) : x = y := Int32.toBitVec_inj.mp (BitVec.eq_of_getLsbD_eq (fun i hi => h i hi))
theorem b_or (x y : Int32) (i : Nat) : bt (x ||| y) i = (bt x i || bt y i) := by unfold bt; rw [Int32.toBitVec_or, BitVec.getLsbD_or]
theorem b_and (x y : Int32) (i : Nat) : bt (x &&& y) i = (bt x i && bt y i) := by unfold bt; rw [Int32.toBitVec_and, BitVec.getLsbD_and]
theorem b_xor (x y : Int32) (i : Nat) : bt (x ^^^ y) i = (bt x i ^^ bt y i) := by unfold bt; rw [Int32.toBitVec_xor, BitVec.getLsbD_xor]
theorem b_big {x : Int32} {i : Nat} (h : 32 ≤ i) : bt x i = false := BitVec.getLsbD_of_ge _ _ h
theorem b_255 (i : Nat) : bt 255 i = decide (i < 8) := by
  rcases Nat.lt_or_ge i 32 with h | h
  · exact (by decide +kernel : ∀ i, i < 32 → bt 255 i = decide (i < 8)) i h
  · rw [b_big h, decide_eq_false (by omega)]
theorem b_65535 (i : Nat) : bt 65535 i = decide (i < 16) := by
  rcases Nat.lt_or_ge i 32 with h | h
  · exact (by decide +kernel : ∀ i, i < 32 → bt 65535 i = decide (i < 16)) i h
  · rw [b_big h, decide_eq_false (by omega)]
theorem b_m1 : ∀ i, i < 32 → bt (-1) i = true := by decide +kernel
theorem b_0 (i : Nat) : bt 0 i = false := BitVec.getLsbD_zero
theorem s_l : ∀ n, n < 32 → ((nI n &&& 31).toBitVec.smod 32).toNat = n := by decide +kernel
theorem s_u : ∀ n, n < 32 → (((nI n).toUInt32 &&& Int32.toUInt32 31).toBitVec % 32).toNat = n := by decide +kernel
theorem b_shl (n : Nat) (hn : n < 32) (x : Int32) {i : Nat} (hi : i < 32) : bt (x <<< (nI n &&& 31)) i = (decide (n ≤ i) && bt x (i - n)) := by
  unfold bt
  rw [Int32.toBitVec_shiftLeft]
  show (x.toBitVec <<< ((nI n &&& 31).toBitVec.smod 32).toNat).getLsbD i = _
  rw [s_l n hn, BitVec.getLsbD_shiftLeft]
  rcases Nat.lt_or_ge i n with h | h
  · simp [h, Nat.not_le.mpr h]
  · simp [hi, h, Nat.not_lt.mpr h]
theorem b_ushr (n : Nat) (hn : n < 32) (x : Int32) (i : Nat) : bt ((x.toUInt32 >>> ((nI n).toUInt32 &&& Int32.toUInt32 31)).toInt32) i = bt x (n + i) := by
  show (x.toUInt32 >>> ((nI n).toUInt32 &&& Int32.toUInt32 31)).toBitVec.getLsbD i = x.toUInt32.toBitVec.getLsbD (n + i)
  rw [UInt32.toBitVec_shiftRight]
  show (x.toUInt32.toBitVec >>> (((nI n).toUInt32 &&& Int32.toUInt32 31).toBitVec % 32).toNat).getLsbD i = _
  rw [s_u n hn, BitVec.getLsbD_ushiftRight]
theorem b_sshr (n : Nat) (hn : n < 32) (x : Int32) {i : Nat} (hi : i < 32) : bt (x >>> (nI n &&& 31)) i = if n + i < 32 then bt x (n + i) else bt x 31 := by
  unfold bt
  rw [Int32.toBitVec_shiftRight]
  show (x.toBitVec.sshiftRight ((nI n &&& 31).toBitVec.smod 32).toNat).getLsbD i = _
  rw [s_l n hn, BitVec.getLsbD_sshiftRight, BitVec.msb_eq_getLsbD_last]
  simp [hi]

def fb_ct (p : Nat → Bool) : Nat → Nat
  | 0 => 0
  | n + 1 => fb_ct p n + (if p n then 1 else 0)
theorem fb_ct_succ (p : Nat → Bool) (n : Nat) : fb_ct p (n + 1) = fb_ct p n + (if p n then 1 else 0) := rfl
theorem fb_ct_le (p : Nat → Bool) : ∀ n, fb_ct p n ≤ n
  | 0 => Nat.le_refl _
  | n + 1 => by
    have h := fb_ct_le p n
    rw [fb_ct_succ]
    split <;> omega
theorem fb_ct_step (p : Nat → Bool) (m : Nat) : ∀ n, fb_ct p m ≤ fb_ct p (m + n)
  | 0 => Nat.le_refl _
  | n + 1 => by
    have h := fb_ct_step p m n
    show fb_ct p m ≤ fb_ct p (m + n + 1)
    rw [fb_ct_succ]
    omega
theorem fb_ct_mono (p : Nat → Bool) {m n : Nat} (h : m ≤ n) : fb_ct p m ≤ fb_ct p n := by
  have := fb_ct_step p m (n - m)
  rwa [Nat.add_sub_cancel' h] at this
theorem fb_ct_cong {p q : Nat → Bool} : ∀ {n : Nat}, (∀ k, k < n → p k = q k) → fb_ct p n = fb_ct q n
  | 0, _ => rfl
  | n + 1, h => by
    rw [fb_ct_succ, fb_ct_succ, fb_ct_cong (fun k hk => h k (by omega)), h n (by omega)]
/-- one place changed -/
theorem fb_ct_out (p : Nat → Bool) (b : Bool) {i n : Nat} (h : n ≤ i) : fb_ct (fun k => if k = i then b else p k) n = fb_ct p n :=
  fb_ct_cong fun k hk => if_neg (by omega)
theorem fb_ct_upd (p : Nat → Bool) (b : Bool) {i : Nat} : ∀ {n : Nat}, i < n → fb_ct (fun k => if k = i then b else p k) n + (if p i then 1 else 0) = fb_ct p n + (if b then 1 else 0)
  | 0, h => absurd h (Nat.not_lt_zero i)
  | n + 1, h => by
    rw [fb_ct_succ, fb_ct_succ]
    rcases Nat.lt_or_ge i n with q | q
    · have := fb_ct_upd p b q
      have e : (if n = i then b else p n) = p n := if_neg (by omega)
      rw [e]
      omega
    · have e : i = n := by omega
      subst e
      rw [fb_ct_out p b (Nat.le_refl _)]
      simp only [if_true]
      omega
theorem fb_ct_sub {p q : Nat → Bool} : ∀ {n : Nat}, (∀ k, k < n → p k = true → q k = true) → fb_ct p n ≤ fb_ct q n
  | 0, _ => Nat.le_refl _
  | n + 1, h => by
    have h1 := fb_ct_sub (n := n) (p := p) (q := q) (fun k hk => h k (by omega))
    have h2 := h n (by omega)
    rw [fb_ct_succ, fb_ct_succ]
    cases hp : p n <;> cases hq : q n <;> simp_all <;> omega
theorem fb_ct_or {p q : Nat → Bool} : ∀ {n : Nat}, (∀ k, k < n → ¬ (p k = true ∧ q k = true)) → fb_ct (fun k => p k || q k) n = fb_ct p n + fb_ct q n
  | 0, _ => rfl
  | n + 1, h => by
    have h1 := fb_ct_or (n := n) (p := p) (q := q) (fun k hk => h k (by omega))
    have h2 := h n (by omega)
    rw [fb_ct_succ, fb_ct_succ, fb_ct_succ, h1]
    cases hp : p n <;> cases hq : q n <;> simp_all <;> omega
theorem fb_ct_not (p : Nat → Bool) : ∀ n, fb_ct p n + fb_ct (fun k => !p k) n = n
  | 0 => rfl
  | n + 1 => by
    have h := fb_ct_not p n
    rw [fb_ct_succ, fb_ct_succ]
    cases p n <;> simp <;> omega
theorem fb_ct_split (p : Nat → Bool) (m : Nat) : ∀ n, fb_ct p (m + n) = fb_ct p m + fb_ct (fun k => p (m + k)) n
  | 0 => rfl
  | n + 1 => by
    have h := fb_ct_split p m n
    show fb_ct p (m + n + 1) = _
    rw [fb_ct_succ, fb_ct_succ, h, Nat.add_assoc]
theorem fb_ct_zero {p : Nat → Bool} : ∀ {n : Nat}, fb_ct p n = 0 ↔ ∀ k, k < n → p k = false
  | 0 => ⟨fun _ k hk => absurd hk (Nat.not_lt_zero k), fun _ => rfl⟩
  | n + 1 => by
    have h := fb_ct_zero (p := p) (n := n)
    rw [fb_ct_succ]
    constructor
    · intro e k hk
      have e1 : fb_ct p n = 0 := by omega
      rcases Nat.lt_or_ge k n with q | q
      · exact h.mp e1 k q
      · have ek : k = n := by omega
        subst ek
        cases hp : p k
        · rfl
        · simp [hp] at e
    · intro a
      rw [h.mpr (fun k hk => a k (by omega)), a n (by omega)]
      rfl
theorem fb_ct_pos {p : Nat → Bool} {n : Nat} : 0 < fb_ct p n ↔ ∃ k, k < n ∧ p k = true := by
  constructor
  · intro h
    refine Classical.byContradiction fun hx => ?_
    have := fb_ct_zero.mpr (fun k hk => by
      cases hp : p k
      · rfl
      · exact absurd ⟨k, hk, hp⟩ hx : ∀ k, k < n → p k = false)
    omega
  · rintro ⟨k, hk, hp⟩
    rcases Nat.eq_zero_or_pos (fb_ct p n) with e | e
    · have := fb_ct_zero.mp e k hk
      rw [this] at hp
      cases hp
    · exact e
theorem fb_ct_all {p : Nat → Bool} {n : Nat} : fb_ct p n = n ↔ ∀ k, k < n → p k = true := by
  have h := fb_ct_not p n
  constructor
  · intro e k hk
    have z : fb_ct (fun k => !p k) n = 0 := by omega
    have := fb_ct_zero.mp z k hk
    cases hp : p k
    · simp [hp] at this
    · rfl
  · intro a
    have z : fb_ct (fun k => !p k) n = 0 := fb_ct_zero.mpr (fun k hk => by simp [a k hk])
    omega
/-- the k-th place with the property -/
theorem fb_ct_kth {p : Nat → Bool} {k : Nat} : ∀ {n : Nat}, k < fb_ct p n → ∃ i, i < n ∧ p i = true ∧ fb_ct p i = k
  | 0, h => absurd h (Nat.not_lt_zero k)
  | n + 1, h => by
    rcases Nat.lt_or_ge k (fb_ct p n) with q | q
    · obtain ⟨i, h1, h2⟩ := fb_ct_kth q
      exact ⟨i, by omega, h2⟩
    · rw [fb_ct_succ] at h
      cases hp : p n
      · simp [hp] at h; omega
      · simp [hp] at h
        exact ⟨n, by omega, hp, by omega⟩
theorem fb_ct_kth_one {p : Nat → Bool} {i j : Nat} (hi : p i = true) (hj : p j = true) (e : fb_ct p i = fb_ct p j) : i = j := by
  have key : ∀ a b : Nat, a < b → p a = true → fb_ct p a < fb_ct p b := by
    intro a b hab ha
    have h := fb_ct_mono p (show a + 1 ≤ b from hab)
    rw [fb_ct_succ, ha] at h
    simp at h
    omega
  rcases Nat.lt_trichotomy i j with q | q | q
  · have := key i j q hi; omega
  · exact q
  · have := key j i q hj; omega
/-! ===== sums over a range: one place changed, parts, bounds ===== -/
def fb_sm (f : Nat → Nat) : Nat → Nat
  | 0 => 0
  | n + 1 => fb_sm f n + f n
theorem fb_sm_succ (f : Nat → Nat) (n : Nat) : fb_sm f (n + 1) = fb_sm f n + f n := rfl
theorem fb_sm_cong {f g : Nat → Nat} : ∀ {n : Nat}, (∀ k, k < n → f k = g k) → fb_sm f n = fb_sm g n
  | 0, _ => rfl
  | n + 1, h => by rw [fb_sm_succ, fb_sm_succ, fb_sm_cong (fun k hk => h k (by omega)), h n (by omega)]
theorem fb_sm_out (f : Nat → Nat) (v : Nat) {i n : Nat} (h : n ≤ i) : fb_sm (fun k => if k = i then v else f k) n = fb_sm f n :=
  fb_sm_cong fun k hk => if_neg (by omega)
theorem fb_sm_upd (f : Nat → Nat) (v : Nat) {i : Nat} : ∀ {n : Nat}, i < n → fb_sm (fun k => if k = i then v else f k) n + f i = fb_sm f n + v
  | 0, h => absurd h (Nat.not_lt_zero i)
  | n + 1, h => by
    rw [fb_sm_succ, fb_sm_succ]
    rcases Nat.lt_or_ge i n with q | q
    · have := fb_sm_upd f v q
      have e : (if n = i then v else f n) = f n := if_neg (by omega)
      rw [e]
      omega
    · have e : i = n := by omega
      subst e
      rw [fb_sm_out f v (Nat.le_refl _)]
      simp only [if_true]
      omega
theorem fb_sm_add (f g : Nat → Nat) : ∀ n, fb_sm (fun k => f k + g k) n = fb_sm f n + fb_sm g n
  | 0 => rfl
  | n + 1 => by
    have h := fb_sm_add f g n
    rw [fb_sm_succ, fb_sm_succ, fb_sm_succ, h]
    omega
theorem fb_sm_le {f g : Nat → Nat} : ∀ {n : Nat}, (∀ k, k < n → f k ≤ g k) → fb_sm f n ≤ fb_sm g n
  | 0, _ => Nat.le_refl _
  | n + 1, h => by
    have h1 := fb_sm_le (n := n) (f := f) (g := g) (fun k hk => h k (by omega))
    have h2 := h n (by omega)
    rw [fb_sm_succ, fb_sm_succ]
    omega
theorem fb_sm_const (c : Nat) : ∀ n, fb_sm (fun _ => c) n = n * c
  | 0 => by rw [Nat.zero_mul]; rfl
  | n + 1 => by rw [fb_sm_succ, fb_sm_const c n, Nat.succ_mul]
theorem fb_sm_bound {f : Nat → Nat} {c n : Nat} (h : ∀ k, k < n → f k ≤ c) : fb_sm f n ≤ n * c := by
  rw [← fb_sm_const c n]
  exact fb_sm_le h
theorem fb_sm_mono (f : Nat → Nat) (m : Nat) : ∀ n, fb_sm f m ≤ fb_sm f (m + n)
  | 0 => Nat.le_refl _
  | n + 1 => by
    have h := fb_sm_mono f m n
    show fb_sm f m ≤ fb_sm f (m + n + 1)
    rw [fb_sm_succ]
    omega
theorem fb_sm_part (f : Nat → Nat) {i n : Nat} (h : i < n) : fb_sm f i + f i ≤ fb_sm f n := by
  have := fb_sm_mono f (i + 1) (n - (i + 1))
  rw [fb_sm_succ, show i + 1 + (n - (i + 1)) = n by omega] at this
  exact this
theorem fb_sm_split (f : Nat → Nat) (m : Nat) : ∀ n, fb_sm f (m + n) = fb_sm f m + fb_sm (fun k => f (m + k)) n
  | 0 => rfl
  | n + 1 => by
    have h := fb_sm_split f m n
    show fb_sm f (m + n + 1) = _
    rw [fb_sm_succ, fb_sm_succ, h, Nat.add_assoc]
theorem fb_sm_zero {f : Nat → Nat} {n : Nat} (h : fb_sm f n = 0) : ∀ k, k < n → f k = 0 := fun k hk => by
  have := fb_sm_part f hk
  omega
/-- the same over whole numbers -/

def Dx (r : Int32) (x : Int) : Bool := decide (0 ≤ x ∧ x < 32) && bt r (31 - x).toNat
theorem D_out {r : Int32} {x : Int} (h : ¬ (0 ≤ x ∧ x < 32)) : Dx r x = false := by unfold Dx; rw [decide_eq_false h]; rfl
theorem D_in {r : Int32} {x : Int} (h0 : 0 ≤ x) (h1 : x < 32) : Dx r x = bt r (31 - x).toNat := by unfold Dx; rw [decide_eq_true ⟨h0, h1⟩]; rfl
theorem D_bt {r : Int32} {i : Nat} (h : i < 32) : bt r i = Dx r (31 - i) := by
  rw [D_in (by omega) (by omega)]
  congr 1
  omega
theorem D_ext {a b : Int32} (h : ∀ x : Int, 0 ≤ x → x < 32 → Dx a x = Dx b x) : a = b := b_ext fun i hi => by
  rw [D_bt hi, D_bt hi]
  exact h _ (by omega) (by omega)
theorem D_or (a b : Int32) (x : Int) : Dx (a ||| b) x = (Dx a x || Dx b x) := by
  unfold Dx
  rw [b_or]
  cases decide (0 ≤ x ∧ x < 32) <;> rfl
theorem D_and (a b : Int32) (x : Int) : Dx (a &&& b) x = (Dx a x && Dx b x) := by
  unfold Dx
  rw [b_and]
  cases decide (0 ≤ x ∧ x < 32) <;> rfl
theorem D_xor (a b : Int32) (x : Int) : Dx (a ^^^ b) x = (Dx a x ^^ Dx b x) := by
  unfold Dx
  rw [b_xor]
  cases decide (0 ≤ x ∧ x < 32) <;> rfl
theorem D_0 (x : Int) : Dx 0 x = false := by unfold Dx; rw [b_0, Bool.and_false]
theorem D_m1 {x : Int} (h0 : 0 ≤ x) (h1 : x < 32) : Dx (-1) x = true := by
  rw [D_in h0 h1]
  exact b_m1 _ (by omega)
theorem D_m1' (x : Int) : Dx (-1) x = decide (0 ≤ x ∧ x < 32) := by
  by_cases h : 0 ≤ x ∧ x < 32
  · rw [D_m1 h.1 h.2, decide_eq_true h]
  · rw [D_out h, decide_eq_false h]
theorem D_not {r : Int32} {x : Int} (h0 : 0 ≤ x) (h1 : x < 32) : Dx (r ^^^ (-1)) x = !Dx r x := by
  rw [D_xor, D_m1 h0 h1]
  cases Dx r x <;> rfl
theorem D_shl {n : Nat} (hn : n < 32) (r : Int32) {x : Int} (h0 : 0 ≤ x) (h1 : x < 32) : Dx (r <<< (nI n &&& 31)) x = Dx r (x + n) := by
  rw [D_in h0 h1, b_shl n hn r (by omega)]
  by_cases h : x + n < 32
  · rw [D_in (by omega) h, decide_eq_true (by omega), Bool.true_and]
    congr 1
    omega
  · rw [D_out (by omega), decide_eq_false (by omega), Bool.false_and]
theorem D_ushr {n : Nat} (hn : n < 32) (r : Int32) {x : Int} (h0 : 0 ≤ x) (h1 : x < 32) : Dx (uShr r (nI n)) x = Dx r (x - n) := by
  rw [D_in h0 h1]
  unfold uShr
  rw [b_ushr n hn r]
  by_cases h : 0 ≤ x - n
  · rw [D_in h (by omega)]
    congr 1
    omega
  · rw [D_out (by omega), b_big (by omega)]
theorem Dn_of {x : Int32} {n : Nat} (h : x.toInt = n) (hn : n < 2 ^ 31) : x = nI n := by
  rw [← Int32.toInt_inj, nI_toInt hn]
  exact h
theorem neg_nI {x : Int32} {n : Nat} (h : x.toInt = -(n : Int)) (hn : n < 2 ^ 31) : -x = nI n := by
  refine Dn_of ?_ hn
  have e3 : (-x) = 0 - x := by rw [Int32.zero_sub]
  have e0 : (0 : Int32).toInt = 0 := rfl
  rw [e3, tI_sub (by omega) (by omega)]
  omega
theorem D_shifted (r d : Int32) {x : Int} (h0 : 0 ≤ x) (h1 : x < 32) : Dx (f_X8_shifted r d) x = Dx r (x - d.toInt) := by
  have em : (-32 : Int32).toInt = -32 := by decide
  have ep : (32 : Int32).toInt = 32 := rfl
  have e0 : (0 : Int32).toInt = 0 := rfl
  unfold f_X8_shifted
  by_cases q1 : d ≤ -32
  · rw [if_pos q1, D_0, D_out]
    have := Int32.le_iff_toInt_le.mp q1
    omega
  · rw [if_neg q1]
    have q1' : ¬ d.toInt ≤ -32 := fun q => q1 (Int32.le_iff_toInt_le.mpr (by rw [em]; exact q))
    by_cases q2 : d < 32
    · rw [if_pos q2]
      have q2' := Int32.lt_iff_toInt_lt.mp q2
      by_cases q3 : d < 0
      · rw [if_pos q3]
        have q3' := Int32.lt_iff_toInt_lt.mp q3
        have e : -d = nI (-d.toInt).toNat := neg_nI (by omega) (by omega)
        rw [e, D_shl (by omega) r h0 h1]
        congr 1
        omega
      · rw [if_neg q3]
        have q3' : ¬ d.toInt < 0 := fun q => q3 (Int32.lt_iff_toInt_lt.mpr (by rw [e0]; exact q))
        have e : d = nI d.toInt.toNat := Dn_of (by omega) (by omega)
        rw [e, D_ushr (by omega) r h0 h1, ← e]
        congr 1
        omega
    · rw [if_neg q2, D_0, D_out]
      have q2' : ¬ d.toInt < 32 := fun q => q2 (Int32.lt_iff_toInt_lt.mpr (by rw [ep]; exact q))
      omega
theorem mx_t (a b : Int32) : (f_J9_max_7cf53 a b).toInt = max a.toInt b.toInt := by
  unfold f_J9_max_7cf53
  split
  · rename_i h; have := Int32.lt_iff_toInt_lt.mp h; omega
  · rename_i h; have : ¬ a.toInt < b.toInt := fun q => h (Int32.lt_iff_toInt_lt.mpr q); omega
theorem mn_t (a b : Int32) : (f_J9_min_7cf53 a b).toInt = min a.toInt b.toInt := by
  unfold f_J9_min_7cf53
  split
  · rename_i h; have := Int32.lt_iff_toInt_lt.mp h; omega
  · rename_i h; have : ¬ b.toInt < a.toInt := fun q => h (Int32.lt_iff_toInt_lt.mpr q); omega
theorem D_span {x w : Int32} (hx : -1000 ≤ x.toInt ∧ x.toInt ≤ 1000) (hw : 0 ≤ w.toInt ∧ w.toInt ≤ 1000) {i : Int} (h0 : 0 ≤ i) (h1 : i < 32) : Dx (f_X8_spanMask x w) i = decide (x.toInt ≤ i ∧ i < x.toInt + w.toInt) := by
  have e : (x + w).toInt = x.toInt + w.toInt := tI_add (by omega) (by omega)
  have ep : (32 : Int32).toInt = 32 := rfl
  have e0 : (0 : Int32).toInt = 0 := rfl
  have a := mx_t x 0
  have b := mn_t (x + w) 32
  unfold f_X8_spanMask
  by_cases q : f_J9_min_7cf53 (x + w) 32 ≤ f_J9_max_7cf53 x 0
  · rw [if_pos q, D_0]
    have q' := Int32.le_iff_toInt_le.mp q
    symm
    apply decide_eq_false
    omega
  · rw [if_neg q, D_and, D_not h0 h1, D_shifted _ _ h0 h1, D_shifted _ _ h0 h1, D_m1', D_m1', a, b, e, ep, e0]
    have q' : ¬ (f_J9_min_7cf53 (x + w) 32).toInt ≤ (f_J9_max_7cf53 x 0).toInt := fun z => q (Int32.le_iff_toInt_le.mpr z)
    rw [a, b, e, ep, e0] at q'
    rw [Bool.eq_iff_iff]
    simp only [Bool.and_eq_true, Bool.not_eq_true', decide_eq_true_eq, decide_eq_false_iff_not]
    omega
theorem bt_min : ∀ i, i < 32 → bt (-2147483648) i = decide (i = 31) := by decide +kernel
theorem D_min (z : Int) : Dx (-2147483648) z = decide (z = 0) := by
  by_cases h : 0 ≤ z ∧ z < 32
  · rw [D_in h.1 h.2, bt_min _ (by omega)]
    congr 1
    rw [eq_iff_iff]
    omega
  · rw [D_out h]
    symm
    apply decide_eq_false
    omega
theorem D_mask {x : Int32} {i : Int} (h0 : 0 ≤ i) (h1 : i < 32) : Dx (f_X8_dotMask x) i = decide (i = x.toInt) := by
  unfold f_X8_dotMask
  rw [D_shifted _ _ h0 h1, D_min]
  congr 1
  rw [eq_iff_iff]
  omega
theorem and_mask {r x : Int32} (hx : 0 ≤ x.toInt ∧ x.toInt ≤ 31) : (r &&& f_X8_dotMask x) = 0 ↔ Dx r x.toInt = false := by
  constructor
  · intro h
    have h2 : Dx (r &&& f_X8_dotMask x) x.toInt = false := by rw [h, D_0]
    rw [D_and, D_mask (by omega) (by omega), decide_eq_true rfl, Bool.and_true] at h2
    exact h2
  · intro h
    refine D_ext fun i h0 h1 => ?_
    rw [D_and, D_mask h0 h1, D_0]
    by_cases e : i = x.toInt
    · rw [e, h]; rfl
    · rw [decide_eq_false e, Bool.and_false]
theorem and1 (z : Int32) : z &&& 1 = if bt z 0 then 1 else 0 := by
  refine b_ext fun i hi => ?_
  rw [b_and]
  have h1 : ∀ i, i < 32 → bt 1 i = decide (i = 0) := by decide +kernel
  rw [h1 i hi]
  by_cases e : i = 0
  · subst e
    cases bt z 0
    · rw [Bool.false_and, if_neg (by decide), b_0]
    · rw [if_pos rfl, h1 0 (by decide)]; rfl
  · rw [decide_eq_false e, Bool.and_false]
    split
    · rw [h1 i hi, decide_eq_false e]
    · rw [b_0]
theorem sh_and1 {z s : Int32} {n : Nat} (hs : s = nI n) (hn : n < 32) : (z >>> (s &&& 31)) &&& 1 = if bt z n then 1 else 0 := by
  have h := b_sshr n hn z (i := 0) (by omega)
  rw [Nat.add_zero, if_pos hn] at h
  rw [and1, hs, h]
theorem D_bitOf {r x : Int32} (hx : 0 ≤ x.toInt ∧ x.toInt ≤ 31) : f_X9_bitOf r x = if Dx r x.toInt then 1 else 0 := by
  unfold f_X9_bitOf
  have e31 : (31 : Int32).toInt = 31 := rfl
  have e : (31 - x) = nI (31 - x.toInt).toNat := Dn_of (by rw [tI_sub (by omega) (by omega)]; omega) (by omega)
  rw [sh_and1 e (by omega), D_in hx.1 (by omega)]
theorem in_e {v a b : Int64} : f_X9_in v a b = if a.toInt ≤ v.toInt ∧ v.toInt ≤ b.toInt then 1 else 0 := by
  by_cases h : f_X9_in v a b = 0
  · rw [h]
    symm
    apply if_neg
    intro q
    unfold f_X9_in lg_cmp at h
    have q1 : ¬ v < a := fun z => by have := Int64.lt_iff_toInt_lt.mp z; omega
    have q2 : ¬ v > b := fun z => by have := Int64.lt_iff_toInt_lt.mp z; omega
    rw [if_neg q2] at h
    by_cases e1 : v > a
    · rw [if_pos e1] at h
      by_cases e2 : v = b
      · rw [if_pos e2] at h; revert h; decide
      · rw [if_neg e2] at h; revert h; decide
    · rw [if_neg e1] at h
      have e3 : v = a := by
        rw [← Int64.toInt_inj]
        have : ¬ a.toInt < v.toInt := fun z => e1 (Int64.lt_iff_toInt_lt.mpr z)
        omega
      rw [if_pos e3] at h
      by_cases e2 : v = b
      · rw [if_pos e2] at h; revert h; decide
      · rw [if_neg e2] at h; revert h; decide
  · have q := mIn_ne h
    rw [if_pos q]
    unfold f_X9_in at h ⊢
    split
    · rename_i z; rw [if_pos z] at h; exact absurd rfl h
    · rename_i z
      rw [if_neg z] at h
      split
      · rename_i z2; rw [if_pos z2] at h; exact absurd rfl h
      · rfl
theorem isW_e {n a b : Int32} : f_X8_isWithin n a b = if a.toInt ≤ n.toInt ∧ n.toInt ≤ b.toInt then 1 else 0 := by
  unfold f_X8_isWithin
  by_cases h1 : n < a
  · rw [if_pos h1, if_neg]
    have := Int32.lt_iff_toInt_lt.mp h1
    omega
  · rw [if_neg h1]
    have h1' : ¬ n.toInt < a.toInt := fun z => h1 (Int32.lt_iff_toInt_lt.mpr z)
    by_cases h2 : b < n
    · rw [if_pos h2, if_neg]
      have := Int32.lt_iff_toInt_lt.mp h2
      omega
    · have h2' : ¬ b.toInt < n.toInt := fun z => h2 (Int32.lt_iff_toInt_lt.mpr z)
      rw [if_neg h2, if_pos]
      omega
theorem W_in {v a b : Int32} {a' b' : Int64} (ha : a'.toInt = a.toInt) (hb : b'.toInt = b.toInt) : f_X8_isWithin v a b = f_X9_in v.toInt64 a' b' := by
  rw [isW_e, in_e, Int32.toInt_toInt64, ha, hb]
theorem pic_eq (t : Int32) : f_X8_isPicture t = f_X9_isPicture t := W_in rfl rfl
theorem inP_eq (x y : Int32) : f_X8_isInPicture x y = f_X9_isIn x y := by
  unfold f_X8_isInPicture f_X9_isIn
  rw [W_in (a' := 0) (b' := 31) rfl rfl, W_in (a' := 0) (b' := 23) rfl rfl]
