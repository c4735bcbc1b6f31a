def TX (bytes text : Nat → Int32) (len : Int32) : Prop := tL len ∧ ∀ k : Nat, (k : Int) < len.toInt → bytes k = text k ∧ 0 ≤ (text k).toInt ∧ (text k).toInt ≤ 127
theorem bh_e {bytes text : Nat → Int32} {len p : Int32} (hx : TX bytes text len) (hp : tP len p) : f_X2_byteHere bytes len p = if len ≤ p then -1 else text p.toNatClampNeg := by
  obtain ⟨⟨l0, l1⟩, p0, p1⟩ := hp
  unfold f_X2_byteHere
  have e1 : (1 : Int32).toInt = 1 := rfl
  have e0 : (0 : Int32).toInt = 0 := rfl
  have el : (len - 1).toInt = len.toInt - 1 := tI_sub (by omega) (by omega)
  rw [isW_e, e0, el]
  by_cases q : len ≤ p
  · have q2 := Int32.le_iff_toInt_le.mp q
    rw [if_pos q, if_neg (c := (0 : Int) ≤ p.toInt ∧ p.toInt ≤ len.toInt - 1) (by omega), i00]
  · have q2 : ¬ len.toInt ≤ p.toInt := fun z => q (Int32.le_iff_toInt_le.mpr z)
    rw [if_neg q, if_pos (c := (0 : Int) ≤ p.toInt ∧ p.toInt ≤ len.toInt - 1) (by omega), i10]
    have ek : (p.toNatClampNeg : Int) = p.toInt := Int.toNat_of_nonneg p0
    exact (hx.2 _ (by omega)).1
theorem sk_e0 {bytes text : Nat → Int32} {len : Int32} (hx : TX bytes text len) : ∀ (n i : Nat) (p : Int32), tP len p → r_X2_skipsBlanks_0 bytes len n i p = r_X9_skip_0 text len n i p
  | 0, i, p, hp => rfl
  | n + 1, i, p, hp => by
    unfold r_X2_skipsBlanks_0 r_X9_skip_0
    by_cases q : len ≤ p
    · rw [if_pos q, if_pos q]
    · rw [if_neg q, if_neg q, bh_e hx hp, if_neg q]
      by_cases w : text p.toNatClampNeg = 32
      · rw [if_pos w, if_pos w]
        exact sk_e0 hx n (i + 1) (p + 1) (tP_up hp q).1
      · rw [if_neg w, if_neg w]
theorem sk_e {bytes text : Nat → Int32} {len p : Int32} (hx : TX bytes text len) (hp : tP len p) : g_X2_skipsBlanks_place bytes len p = g_X9_skip_place text len p := sk_e0 hx _ _ _ hp
theorem sk_st0 {text : Nat → Int32} {len : Int32} : ∀ (n i : Nat) (p : Int32), n + i = 120 → (i : Int) ≤ p.toInt → tP len p → ¬ len ≤ r_X9_skip_0 text len n i p → ¬ text (r_X9_skip_0 text len n i p).toNatClampNeg = 32
  | 0, i, p, hn, hi, hp, h => absurd (show len ≤ p from Int32.le_iff_toInt_le.mpr (by obtain ⟨⟨-, l1⟩, -, -⟩ := hp; omega)) h
  | n + 1, i, p, hn, hi, hp, h => by
    unfold r_X9_skip_0 at h ⊢
    by_cases q : len ≤ p
    · rw [if_pos q] at h; exact absurd q h
    · rw [if_neg q] at h ⊢
      by_cases w : text p.toNatClampNeg = 32
      · rw [if_pos w] at h ⊢
        have u := tP_up hp q
        exact sk_st0 n (i + 1) (p + 1) (by omega) (by omega) u.1 h
      · rw [if_neg w] at h ⊢
        exact w
theorem sk_st {text : Nat → Int32} {len p : Int32} (hp : tP len p) (h : ¬ len ≤ g_X9_skip_place text len p) : ¬ text (g_X9_skip_place text len p).toNatClampNeg = 32 := by
  unfold g_X9_skip_place at *
  obtain ⟨N, hN⟩ : ∃ N : Nat, N = 120 := ⟨_, rfl⟩
  rw [← hN] at h ⊢
  exact sk_st0 N 0 p hN hp.2.1 hp h
theorem sk_id1 {text : Nat → Int32} {len p : Int32} (h : ¬ len ≤ p → ¬ text p.toNatClampNeg = 32) : g_X9_skip_place text len p = p := by
  unfold g_X9_skip_place
  obtain ⟨N, hN⟩ : ∃ N : Nat, 120 = N + 1 := ⟨_, rfl⟩
  rw [hN]
  unfold r_X9_skip_0
  by_cases q : len ≤ p
  · rw [if_pos q]
  · rw [if_neg q, if_neg (h q)]
theorem sk_id {text : Nat → Int32} {len p : Int32} (hp : tP len p) : g_X9_skip_place text len (g_X9_skip_place text len p) = g_X9_skip_place text len p := sk_id1 fun q => sk_st hp q
theorem dig_e {bytes text : Nat → Int32} {len p : Int32} (hx : TX bytes text len) (hp : tP len p) : f_X8_isWithin (f_X2_byteHere bytes len p) 48 57 = f_X9_isByte text len p 48 57 := by
  rw [bh_e hx hp]
  unfold f_X9_isByte
  by_cases q : len ≤ p
  · rw [if_pos q, if_pos q]; decide
  · rw [if_neg q, if_neg q, W_in (v := text p.toNatClampNeg) (a := 48) (b := 57) (a' := (48 : Int32).toInt64) (b' := (57 : Int32).toInt64) rfl rfl, in_e]
    by_cases w : ((48 : Int32).toInt64.toInt ≤ (text p.toNatClampNeg).toInt64.toInt ∧ (text p.toNatClampNeg).toInt64.toInt ≤ (57 : Int32).toInt64.toInt)
    · rw [if_pos w, i10]
    · rw [if_neg w, i00]
theorem eqb_e {bytes text : Nat → Int32} {len p k : Int32} (hx : TX bytes text len) (hp : tP len p) (hk : ¬ k = -1) : f_X9_isByte text len p k k = 0 ↔ ¬ f_X2_byteHere bytes len p = k := by
  rw [bh_e hx hp]
  unfold f_X9_isByte
  by_cases q : len ≤ p
  · rw [if_pos q, if_pos q]
    exact ⟨fun _ z => hk z.symm, fun _ => rfl⟩
  · rw [if_neg q, if_neg q, in_e, Int32.toInt_toInt64, Int32.toInt_toInt64]
    by_cases w : text p.toNatClampNeg = k
    · rw [if_pos (c := k.toInt ≤ (text p.toNatClampNeg).toInt ∧ (text p.toNatClampNeg).toInt ≤ k.toInt) (by rw [w]; omega), i10]
      exact ⟨fun z => absurd z (by decide), fun z => absurd w z⟩
    · have w2 : ¬ (text p.toNatClampNeg).toInt = k.toInt := fun z => w (Int32.toInt_inj.mp z)
      rw [if_neg (c := k.toInt ≤ (text p.toNatClampNeg).toInt ∧ (text p.toNatClampNeg).toInt ≤ k.toInt) (by omega), i00]
      exact ⟨fun _ => w, fun _ => rfl⟩
theorem tk_mono {text : Nat → Int32} {len : Int32} : ∀ (n i : Nat) (z : Int32 × Int32 × Int32) (f : Nat), z.2.1 = nI f → ∃ f', f ≤ f' ∧ f' ≤ f + n ∧ (r_X9_takes_71 text len n i z).2.1 = nI f'
  | 0, i, z, f, h => ⟨f, Nat.le_refl _, Nat.le_refl _, h⟩
  | n + 1, i, z, f, h => by
    unfold r_X9_takes_71
    by_cases q : f_X9_isByte text len z.2.2 48 57 = 0
    · rw [if_pos q]; exact ⟨f, by omega, by omega, h⟩
    · rw [if_neg q]
      obtain ⟨f', a, b, c⟩ := tk_mono (text := text) (len := len) n (i + 1) ((if 3 ≤ z.2.1 then z.1 else (((10 * z.1) + (text z.2.2.toNatClampNeg)) - 48) : Int32), z.2.1 + 1, z.2.2 + 1) (f + 1) (by rw [h]; exact up1 f)
      exact ⟨f', by omega, by omega, c⟩
theorem num_l {bytes text : Nat → Int32} {len : Int32} (hx : TX bytes text len) : ∀ (m i j N k : Nat) (v p : Int32), m + k = 4 → m ≤ N → N ≤ 120 → tP len p → (r_X2_readsNumber_33 bytes len m i (v, nI k, p) = r_X9_takes_71 text len N j (v, nI k, p) ∧ (∃ f, f ≤ 3 ∧ (r_X9_takes_71 text len N j (v, nI k, p)).2.1 = nI f) ∧ tP len (r_X9_takes_71 text len N j (v, nI k, p)).2.2 ∧ f_X9_isByte text len (r_X9_takes_71 text len N j (v, nI k, p)).2.2 48 57 = 0) ∨ ((r_X2_readsNumber_33 bytes len m i (v, nI k, p)).2.1 = nI 4 ∧ ∃ f, 4 ≤ f ∧ f ≤ 1000 ∧ (r_X9_takes_71 text len N j (v, nI k, p)).2.1 = nI f)
  | 0, i, j, N, k, v, p, hm, hN, hN2, hp => by
    have : k = 4 := by omega
    subst this
    obtain ⟨f, a, b, c⟩ := tk_mono (text := text) (len := len) N j (v, nI 4, p) 4 rfl
    exact Or.inr ⟨rfl, f, a, by omega, c⟩
  | m + 1, i, j, 0, k, v, p, hm, hN, hN2, hp => by omega
  | m + 1, i, j, N + 1, k, v, p, hm, hN, hN2, hp => by
    unfold r_X2_readsNumber_33 r_X9_takes_71
    dsimp only
    rw [dig_e hx hp]
    by_cases q : f_X9_isByte text len p 48 57 = 0
    · rw [if_pos q, if_pos q]
      exact Or.inl ⟨rfl, ⟨k, by omega, rfl⟩, hp, q⟩
    · rw [if_neg q, if_neg q]
      have hl := ib_lt q
      have hp2 := (tP_up hp hl).1
      rw [bh_e hx hp, if_neg hl, up1]
      by_cases w : k = 3
      · subst w
        have m0 : m = 0 := by omega
        subst m0
        obtain ⟨f, a, b, c⟩ := tk_mono (text := text) (len := len) N (j + 1) ((if 3 ≤ nI 3 then v else (((10 * v) + (text p.toNatClampNeg)) - 48) : Int32), nI (3 + 1), p + 1) 4 rfl
        exact Or.inr ⟨rfl, f, a, by omega, c⟩
      · rw [if_neg (show ¬ (3 : Int32) ≤ nI k from nI_ge (b := 3) (by omega) (by decide))]
        exact num_l hx m (i + 1) (j + 1) N (k + 1) _ (p + 1) (by omega) (by omega) (by omega) hp2
