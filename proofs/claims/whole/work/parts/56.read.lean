theorem pl_e {bytes text : Nat → Int32} {len q : Int32} (hx : TX bytes text len) (hq : tP len q) : (if (if (f_X2_byteHere bytes len q) = 45 then 1 else 0 : Int32) = 0 then q else (q + 1) : Int32) = (if (f_X9_isByte text len q 45 45) = 0 then q else (q + 1) : Int32) := by
  have e := eqb_e hx hq (k := 45) (by decide)
  by_cases w : f_X2_byteHere bytes len q = 45
  · rw [if_pos w, i10, if_neg (fun z => (e.mp z) w)]
  · rw [if_neg w, i00, if_pos (e.mpr w)]
theorem ng_e {bytes text : Nat → Int32} {len q a b : Int32} (hx : TX bytes text len) (hq : tP len q) : (if (if (f_X2_byteHere bytes len q) = 45 then 1 else 0 : Int32) = 0 then a else b : Int32) = (if (f_X9_isByte text len q 45 45) = 0 then a else b : Int32) := by
  have e := eqb_e hx hq (k := 45) (by decide)
  by_cases w : f_X2_byteHere bytes len q = 45
  · rw [if_pos w, i10, if_neg (fun z => (e.mp z) w)]
  · rw [if_neg w, i00, if_pos (e.mpr w)]
theorem tk_0 {text : Nat → Int32} {len : Int32} {N j : Nat} {v f p : Int32} (h : f_X9_isByte text len p 48 57 = 0) : r_X9_takes_71 text len N j (v, f, p) = (v, f, p) := by
  cases N with
  | zero => rfl
  | succ N => unfold r_X9_takes_71; dsimp only; rw [if_pos h]
/-- one number, as both read it -/
theorem takes_tie {bytes text : Nat → Int32} {len p k sort : Int32} (hx : TX bytes text len) (hp : tP len p) (hk : k = 0 ∨ f_X9_isByte text len p 48 57 = 0) :
    (f_X2_readsNumber bytes len (g_X9_skip_place text len p) = 0 → f_X9_takes text len p k sort = 0 ∧ g_X9_takes_place text len p k sort = g_X9_skip_place text len p) ∧
    (¬ f_X2_readsNumber bytes len (g_X9_skip_place text len p) = 0 → (∀ nargs, g_X9_takes_nargs text len p nargs k = upd nargs k.toNatClampNeg (g_X2_readsNumber_num bytes len (g_X9_skip_place text len p))) ∧
      (f_X9_isAs sort (g_X2_readsNumber_num bytes len (g_X9_skip_place text len p)) = 0 → f_X9_takes text len p k sort = 0 ∧ g_X9_takes_place text len p k sort = g_X9_skip_place text len p) ∧
      (¬ f_X9_isAs sort (g_X2_readsNumber_num bytes len (g_X9_skip_place text len p)) = 0 → ¬ f_X9_takes text len p k sort = 0 ∧ g_X9_takes_place text len p k sort = g_X2_readsNumber_place bytes len (g_X9_skip_place text len p) ∧ tP len (g_X2_readsNumber_place bytes len (g_X9_skip_place text len p)) ∧ f_X9_isByte text len (g_X2_readsNumber_place bytes len (g_X9_skip_place text len p)) 48 57 = 0)) := by
  have hq := tP_ms (text := text) hp
  have hge := sk_ge (text := text) hp
  unfold f_X2_readsNumber g_X2_readsNumber_place g_X2_readsNumber_num f_X9_takes g_X9_takes_place g_X9_takes_nargs
  rw [pl_e hx hq, ng_e hx hq]
  have hP : tP len (if (f_X9_isByte text len (g_X9_skip_place text len p) 45 45) = 0 then (g_X9_skip_place text len p) else ((g_X9_skip_place text len p) + 1) : Int32) := tP_mn hq
  obtain ⟨N, hN⟩ : ∃ N : Nat, N = 120 := ⟨_, rfl⟩
  rw [← hN]
  have nl := num_l hx 4 0 0 N 0 0 (if (f_X9_isByte text len (g_X9_skip_place text len p) 45 45) = 0 then (g_X9_skip_place text len p) else ((g_X9_skip_place text len p) + 1) : Int32) rfl (by omega) (by omega) hP
  have z0 : nI 0 = 0 := rfl
  rw [z0] at nl
  have ap : ∀ f : Nat, 1 ≤ f → f ≤ 3 → (r_X9_takes_71 text len N 0 (0, 0, (if (f_X9_isByte text len (g_X9_skip_place text len p) 45 45) = 0 then (g_X9_skip_place text len p) else ((g_X9_skip_place text len p) + 1) : Int32))).2.1 = nI f → ¬ (if k = 0 then 1 else if p < g_X9_skip_place text len p then 1 else if f_X9_isByte text len (g_X9_skip_place text len p) 45 45 = 0 then 0 else 1 : Int32) = 0 := fun f hf hf3 he => by
    by_cases k0 : k = 0
    · rw [if_pos k0]; decide
    · rw [if_neg k0]
      by_cases pl : p < g_X9_skip_place text len p
      · rw [if_pos pl]; decide
      · rw [if_neg pl]
        by_cases b45 : f_X9_isByte text len (g_X9_skip_place text len p) 45 45 = 0
        · exfalso
          have pl2 : ¬ p.toInt < (g_X9_skip_place text len p).toInt := fun z => pl (Int32.lt_iff_toInt_lt.mpr z)
          have ep : g_X9_skip_place text len p = p := Int32.toInt_inj.mp (by omega)
          have nd := hk.resolve_left k0
          rw [if_pos b45, ep, tk_0 nd] at he
          have := (nI_eq (a := 0) (b := f) (by omega) (by omega)).mp he
          omega
        · rw [if_neg b45]; decide
  generalize r_X9_takes_71 text len N 0 (0, 0, (if (f_X9_isByte text len (g_X9_skip_place text len p) 45 45) = 0 then (g_X9_skip_place text len p) else ((g_X9_skip_place text len p) + 1) : Int32)) = R at *
  generalize r_X2_readsNumber_33 bytes len 4 0 (0, 0, (if (f_X9_isByte text len (g_X9_skip_place text len p) 45 45) = 0 then (g_X9_skip_place text len p) else ((g_X9_skip_place text len p) + 1) : Int32)) = C at *
  rcases nl with ⟨e, ⟨f, hf, hfe⟩, hT, hD⟩ | ⟨hc, f, hf, hf2, hfe⟩
  · subst e
    rw [W_in (v := C.2.1) (a := 1) (b := 3) (a' := 1) (b' := 3) rfl rfl]
    refine ⟨fun h0 => ?_, fun h0 => ⟨fun _ => rfl, fun h1 => ?_, fun h1 => ?_⟩⟩
    · rw [h0]
      simp only [i00, if_true, ite_self, and_self]
    · simp only [if_neg h0, if_pos h1, if_true, ite_self, i00, and_self]
    · have hb := mIn_ne h0
      rw [Int32.toInt_toInt64, hfe, nI_toInt (by omega)] at hb
      have z1 : (1 : Int64).toInt = 1 := rfl
      have ha := ap f (by omega) hf hfe
      simp only [if_neg h0, if_neg h1, if_neg ha, i10, if_true]
      exact ⟨by decide, trivial, hT, hD⟩
  · rw [hc, show f_X8_isWithin (nI 4) 1 3 = 0 by decide]
    have hin : f_X9_in R.2.1.toInt64 1 3 = 0 := in_z (by
      rw [Int32.toInt_toInt64, hfe, nI_toInt (by omega)]
      have z3 : (3 : Int64).toInt = 3 := rfl
      omega)
    refine ⟨fun _ => ?_, fun h => absurd rfl h⟩
    rw [hin]
    simp only [i00, if_true, ite_self, and_self]
theorem sAt_up : ∀ (i : Nat) (s : Int32), sAt s (i + 1) = sAt s i / 10
  | 0, s => rfl
  | i + 1, s => by
    unfold sAt
    exact sAt_up i (s / 10)
theorem kk_m {i : Nat} (hi : i < 9) : (∀ v, g_X1_with_aw (g_X1_begins_kix 109) (nI i) 1 v = if f_X9_isAs (sAt (f_X9_sortsOf 109) i - sAt (f_X9_sortsOf 109) i / 10 * 10) v = 0 then 0 else 1) ∧ g_X1_with_osz (g_X1_begins_kix 109) (nI i) = nI (i + 1) ∧ ∀ nums v, g_X1_with_nums nums (g_X1_begins_kix 109) (nI i) v = upd nums i v := by
  match i, hi with
  | 0, _ => exact ⟨fun v => by rw [show nI 0 = 0 from rfl, ka_m0, i10, show (sAt (f_X9_sortsOf 109) 0 - sAt (f_X9_sortsOf 109) 0 / 10 * 10) = 0 by decide]; rfl, ko_m0, fun nums v => kn_m0 nums v⟩
  | 1, _ => exact ⟨fun v => by rw [show nI 1 = 1 from rfl, ka_m1, i10, show (sAt (f_X9_sortsOf 109) 1 - sAt (f_X9_sortsOf 109) 1 / 10 * 10) = 1 by decide]; rfl, ko_m1, fun nums v => kn_m1 nums v⟩
  | 2, _ => exact ⟨fun v => by rw [show nI 2 = 2 from rfl, ka_m2, i10, show (sAt (f_X9_sortsOf 109) 2 - sAt (f_X9_sortsOf 109) 2 / 10 * 10) = 1 by decide]; rfl, ko_m2, fun nums v => kn_m2 nums v⟩
  | 3, _ => exact ⟨fun v => by rw [show nI 3 = 3 from rfl, ka_m3, i10, show (sAt (f_X9_sortsOf 109) 3 - sAt (f_X9_sortsOf 109) 3 / 10 * 10) = 2 by decide]; rfl, ko_m3, fun nums v => kn_m3 nums v⟩
  | 4, _ => exact ⟨fun v => by rw [show nI 4 = 4 from rfl, ka_m4, i10, show (sAt (f_X9_sortsOf 109) 4 - sAt (f_X9_sortsOf 109) 4 / 10 * 10) = 2 by decide]; rfl, ko_m4, fun nums v => kn_m4 nums v⟩
  | 5, _ => exact ⟨fun v => by rw [show nI 5 = 5 from rfl, ka_m5, i10, show (sAt (f_X9_sortsOf 109) 5 - sAt (f_X9_sortsOf 109) 5 / 10 * 10) = 0 by decide]; rfl, ko_m5, fun nums v => kn_m5 nums v⟩
  | 6, _ => exact ⟨fun v => by rw [show nI 6 = 6 from rfl, ka_m6, i10, show (sAt (f_X9_sortsOf 109) 6 - sAt (f_X9_sortsOf 109) 6 / 10 * 10) = 1 by decide]; rfl, ko_m6, fun nums v => kn_m6 nums v⟩
  | 7, _ => exact ⟨fun v => by rw [show nI 7 = 7 from rfl, ka_m7, i10, show (sAt (f_X9_sortsOf 109) 7 - sAt (f_X9_sortsOf 109) 7 / 10 * 10) = 1 by decide]; rfl, ko_m7, fun nums v => kn_m7 nums v⟩
  | 8, _ => exact ⟨fun v => by rw [show nI 8 = 8 from rfl, ka_m8, i10, show (sAt (f_X9_sortsOf 109) 8 - sAt (f_X9_sortsOf 109) 8 / 10 * 10) = 3 by decide]; rfl, ko_m8, fun nums v => kn_m8 nums v⟩
theorem kk_l {i : Nat} (hi : i < 6) : (∀ v, g_X1_with_aw (g_X1_begins_kix 108) (nI i) 1 v = if f_X9_isAs (sAt (f_X9_sortsOf 108) i - sAt (f_X9_sortsOf 108) i / 10 * 10) v = 0 then 0 else 1) ∧ g_X1_with_osz (g_X1_begins_kix 108) (nI i) = nI (i + 1) ∧ ∀ nums v, g_X1_with_nums nums (g_X1_begins_kix 108) (nI i) v = upd nums i v := by
  match i, hi with
  | 0, _ => exact ⟨fun v => by rw [show nI 0 = 0 from rfl, ka_l0, i10, show (sAt (f_X9_sortsOf 108) 0 - sAt (f_X9_sortsOf 108) 0 / 10 * 10) = 0 by decide]; rfl, ko_l0, fun nums v => kn_l0 nums v⟩
  | 1, _ => exact ⟨fun v => by rw [show nI 1 = 1 from rfl, ka_l1, i10, show (sAt (f_X9_sortsOf 108) 1 - sAt (f_X9_sortsOf 108) 1 / 10 * 10) = 1 by decide]; rfl, ko_l1, fun nums v => kn_l1 nums v⟩
  | 2, _ => exact ⟨fun v => by rw [show nI 2 = 2 from rfl, ka_l2, i10, show (sAt (f_X9_sortsOf 108) 2 - sAt (f_X9_sortsOf 108) 2 / 10 * 10) = 1 by decide]; rfl, ko_l2, fun nums v => kn_l2 nums v⟩
  | 3, _ => exact ⟨fun v => by rw [show nI 3 = 3 from rfl, ka_l3, i10, show (sAt (f_X9_sortsOf 108) 3 - sAt (f_X9_sortsOf 108) 3 / 10 * 10) = 1 by decide]; rfl, ko_l3, fun nums v => kn_l3 nums v⟩
  | 4, _ => exact ⟨fun v => by rw [show nI 4 = 4 from rfl, ka_l4, i10, show (sAt (f_X9_sortsOf 108) 4 - sAt (f_X9_sortsOf 108) 4 / 10 * 10) = 1 by decide]; rfl, ko_l4, fun nums v => kn_l4 nums v⟩
  | 5, _ => exact ⟨fun v => by rw [show nI 5 = 5 from rfl, ka_l5, i10, show (sAt (f_X9_sortsOf 108) 5 - sAt (f_X9_sortsOf 108) 5 / 10 * 10) = 3 by decide]; rfl, ko_l5, fun nums v => kn_l5 nums v⟩
theorem kk_f {i : Nat} (hi : i < 3) : (∀ v, g_X1_with_aw (g_X1_begins_kix 102) (nI i) 1 v = if f_X9_isAs (sAt (f_X9_sortsOf 102) i - sAt (f_X9_sortsOf 102) i / 10 * 10) v = 0 then 0 else 1) ∧ g_X1_with_osz (g_X1_begins_kix 102) (nI i) = nI (i + 1) ∧ ∀ nums v, g_X1_with_nums nums (g_X1_begins_kix 102) (nI i) v = upd nums i v := by
  match i, hi with
  | 0, _ => exact ⟨fun v => by rw [show nI 0 = 0 from rfl, ka_f0, i10, show (sAt (f_X9_sortsOf 102) 0 - sAt (f_X9_sortsOf 102) 0 / 10 * 10) = 0 by decide]; rfl, ko_f0, fun nums v => kn_f0 nums v⟩
  | 1, _ => exact ⟨fun v => by rw [show nI 1 = 1 from rfl, ka_f1, i10, show (sAt (f_X9_sortsOf 102) 1 - sAt (f_X9_sortsOf 102) 1 / 10 * 10) = 1 by decide]; rfl, ko_f1, fun nums v => kn_f1 nums v⟩
  | 2, _ => exact ⟨fun v => by rw [show nI 2 = 2 from rfl, ka_f2, i10, show (sAt (f_X9_sortsOf 102) 2 - sAt (f_X9_sortsOf 102) 2 / 10 * 10) = 1 by decide]; rfl, ko_f2, fun nums v => kn_f2 nums v⟩
theorem kk_r {i : Nat} (hi : i < 6) : (∀ v, g_X1_with_aw (g_X1_begins_kix 114) (nI i) 1 v = if f_X9_isAs (sAt (f_X9_sortsOf 114) i - sAt (f_X9_sortsOf 114) i / 10 * 10) v = 0 then 0 else 1) ∧ g_X1_with_osz (g_X1_begins_kix 114) (nI i) = nI (i + 1) ∧ ∀ nums v, g_X1_with_nums nums (g_X1_begins_kix 114) (nI i) v = upd nums i v := by
  match i, hi with
  | 0, _ => exact ⟨fun v => by rw [show nI 0 = 0 from rfl, ka_r0, i10, show (sAt (f_X9_sortsOf 114) 0 - sAt (f_X9_sortsOf 114) 0 / 10 * 10) = 0 by decide]; rfl, ko_r0, fun nums v => kn_r0 nums v⟩
  | 1, _ => exact ⟨fun v => by rw [show nI 1 = 1 from rfl, ka_r1, i10, show (sAt (f_X9_sortsOf 114) 1 - sAt (f_X9_sortsOf 114) 1 / 10 * 10) = 1 by decide]; rfl, ko_r1, fun nums v => kn_r1 nums v⟩
  | 2, _ => exact ⟨fun v => by rw [show nI 2 = 2 from rfl, ka_r2, i10, show (sAt (f_X9_sortsOf 114) 2 - sAt (f_X9_sortsOf 114) 2 / 10 * 10) = 1 by decide]; rfl, ko_r2, fun nums v => kn_r2 nums v⟩
  | 3, _ => exact ⟨fun v => by rw [show nI 3 = 3 from rfl, ka_r3, i10, show (sAt (f_X9_sortsOf 114) 3 - sAt (f_X9_sortsOf 114) 3 / 10 * 10) = 2 by decide]; rfl, ko_r3, fun nums v => kn_r3 nums v⟩
  | 4, _ => exact ⟨fun v => by rw [show nI 4 = 4 from rfl, ka_r4, i10, show (sAt (f_X9_sortsOf 114) 4 - sAt (f_X9_sortsOf 114) 4 / 10 * 10) = 2 by decide]; rfl, ko_r4, fun nums v => kn_r4 nums v⟩
  | 5, _ => exact ⟨fun v => by rw [show nI 5 = 5 from rfl, ka_r5, i10, show (sAt (f_X9_sortsOf 114) 5 - sAt (f_X9_sortsOf 114) 5 / 10 * 10) = 3 by decide]; rfl, ko_r5, fun nums v => kn_r5 nums v⟩
theorem kk_c {i : Nat} (hi : i < 5) : (∀ v, g_X1_with_aw (g_X1_begins_kix 99) (nI i) 1 v = if f_X9_isAs (sAt (f_X9_sortsOf 99) i - sAt (f_X9_sortsOf 99) i / 10 * 10) v = 0 then 0 else 1) ∧ g_X1_with_osz (g_X1_begins_kix 99) (nI i) = nI (i + 1) ∧ ∀ nums v, g_X1_with_nums nums (g_X1_begins_kix 99) (nI i) v = upd nums i v := by
  match i, hi with
  | 0, _ => exact ⟨fun v => by rw [show nI 0 = 0 from rfl, ka_c0, i10, show (sAt (f_X9_sortsOf 99) 0 - sAt (f_X9_sortsOf 99) 0 / 10 * 10) = 0 by decide]; rfl, ko_c0, fun nums v => kn_c0 nums v⟩
  | 1, _ => exact ⟨fun v => by rw [show nI 1 = 1 from rfl, ka_c1, i10, show (sAt (f_X9_sortsOf 99) 1 - sAt (f_X9_sortsOf 99) 1 / 10 * 10) = 4 by decide]; rfl, ko_c1, fun nums v => kn_c1 nums v⟩
  | 2, _ => exact ⟨fun v => by rw [show nI 2 = 2 from rfl, ka_c2, i10, show (sAt (f_X9_sortsOf 99) 2 - sAt (f_X9_sortsOf 99) 2 / 10 * 10) = 1 by decide]; rfl, ko_c2, fun nums v => kn_c2 nums v⟩
  | 3, _ => exact ⟨fun v => by rw [show nI 3 = 3 from rfl, ka_c3, i10, show (sAt (f_X9_sortsOf 99) 3 - sAt (f_X9_sortsOf 99) 3 / 10 * 10) = 1 by decide]; rfl, ko_c3, fun nums v => kn_c3 nums v⟩
  | 4, _ => exact ⟨fun v => by rw [show nI 4 = 4 from rfl, ka_c4, i10, show (sAt (f_X9_sortsOf 99) 4 - sAt (f_X9_sortsOf 99) 4 / 10 * 10) = 3 by decide]; rfl, ko_c4, fun nums v => kn_c4 nums v⟩
theorem kk_o {i : Nat} (hi : i < 4) : (∀ v, g_X1_with_aw (g_X1_begins_kix 111) (nI i) 1 v = if f_X9_isAs (sAt (f_X9_sortsOf 111) i - sAt (f_X9_sortsOf 111) i / 10 * 10) v = 0 then 0 else 1) ∧ g_X1_with_osz (g_X1_begins_kix 111) (nI i) = nI (i + 1) ∧ ∀ nums v, g_X1_with_nums nums (g_X1_begins_kix 111) (nI i) v = upd nums i v := by
  match i, hi with
  | 0, _ => exact ⟨fun v => by rw [show nI 0 = 0 from rfl, ka_o0, i10, show (sAt (f_X9_sortsOf 111) 0 - sAt (f_X9_sortsOf 111) 0 / 10 * 10) = 1 by decide]; rfl, ko_o0, fun nums v => kn_o0 nums v⟩
  | 1, _ => exact ⟨fun v => by rw [show nI 1 = 1 from rfl, ka_o1, i10, show (sAt (f_X9_sortsOf 111) 1 - sAt (f_X9_sortsOf 111) 1 / 10 * 10) = 1 by decide]; rfl, ko_o1, fun nums v => kn_o1 nums v⟩
  | 2, _ => exact ⟨fun v => by rw [show nI 2 = 2 from rfl, ka_o2, i10, show (sAt (f_X9_sortsOf 111) 2 - sAt (f_X9_sortsOf 111) 2 / 10 * 10) = 2 by decide]; rfl, ko_o2, fun nums v => kn_o2 nums v⟩
  | 3, _ => exact ⟨fun v => by rw [show nI 3 = 3 from rfl, ka_o3, i10, show (sAt (f_X9_sortsOf 111) 3 - sAt (f_X9_sortsOf 111) 3 / 10 * 10) = 2 by decide]; rfl, ko_o3, fun nums v => kn_o3 nums v⟩
theorem kk {c : Int32} (hm : ¬ f_X9_manyOf c = -1) {i : Nat} (hi : i < (f_X9_manyOf c).toNatClampNeg) : (∀ v, g_X1_with_aw (g_X1_begins_kix c) (nI i) 1 v = if f_X9_isAs (sAt (f_X9_sortsOf c) i - sAt (f_X9_sortsOf c) i / 10 * 10) v = 0 then 0 else 1) ∧ g_X1_with_osz (g_X1_begins_kix c) (nI i) = nI (i + 1) ∧ ∀ nums v, g_X1_with_nums nums (g_X1_begins_kix c) (nI i) v = upd nums i v := by
  rcases many_c hm with e | e | e | e | e | e | e
  · subst e
    exact kk_m (by rw [show (f_X9_manyOf 109).toNatClampNeg = 9 by decide] at hi; exact hi)
  · subst e
    exact kk_l (by rw [show (f_X9_manyOf 108).toNatClampNeg = 6 by decide] at hi; exact hi)
  · subst e
    exact kk_r (by rw [show (f_X9_manyOf 114).toNatClampNeg = 6 by decide] at hi; exact hi)
  · subst e
    exact kk_f (by rw [show (f_X9_manyOf 102).toNatClampNeg = 3 by decide] at hi; exact hi)
  · subst e
    exact kk_c (by rw [show (f_X9_manyOf 99).toNatClampNeg = 5 by decide] at hi; exact hi)
  · subst e
    exact kk_o (by rw [show (f_X9_manyOf 111).toNatClampNeg = 4 by decide] at hi; exact hi)
  · subst e
    rw [show (f_X9_manyOf 107).toNatClampNeg = 0 by decide] at hi
    exact absurd hi (Nat.not_lt_zero i)
theorem sg_e (c : Int32) : f_X1_isSign c = 0 ↔ f_X9_manyOf c = -1 := by
  by_cases h : f_X9_manyOf c = -1
  · refine ⟨fun _ => h, fun _ => ?_⟩
    have n : ∀ d : Int32, ¬ f_X9_manyOf d = -1 → ¬ c = d := fun d hd e => hd (by rw [← e]; exact h)
    unfold f_X1_isSign f_X1_kindsOf
    rw [if_neg (n 107 (by decide)), if_neg (n 99 (by decide)), if_neg (n 102 (by decide)), if_neg (n 108 (by decide)), if_neg (n 109 (by decide)), if_neg (n 111 (by decide)), if_neg (n 114 (by decide))]
    decide
  · refine ⟨fun z => ?_, fun z => absurd z h⟩
    rcases many_c h with e | e | e | e | e | e | e <;> (subst e; exact absurd z (by decide))
theorem ln_e {c : Int32} (hm : ¬ f_X9_manyOf c = -1) : sLn.getD (g_X1_begins_kix c) 0 = (f_X9_manyOf c).toNatClampNeg := by
  rcases many_c hm with e | e | e | e | e | e | e <;> (subst e; decide)
theorem tP_m1 {len p : Int32} (h : tP len p) : ¬ p = -1 := fun e => by
  have := h.2.1
  rw [e] at this
  exact absurd this (by decide)
/-- the numbers of an order, as both read them -/
theorem rd_l {bytes text : Nat → Int32} {len place place' c : Int32} (hx : TX bytes text len) (hm : ¬ f_X9_manyOf c = -1) (hcc : f_X2_byteHere bytes len (g_X2_skipsBlanks_place bytes len place) = c) (hcr : (if len ≤ (g_X9_skip_place text len place') then (-1) else (text (g_X9_skip_place text len place').toNatClampNeg) : Int32) = c) : ∀ (n i : Nat) (p num : Int32) (nums nargs : Nat → Int32), n + i = (f_X9_manyOf c).toNatClampNeg → tP len p → (i = 0 ∨ f_X9_isByte text len p 48 57 = 0) → (∀ j, j < i → nums j = nargs j) →
    ((r_X9_reads_72 text len place' n i (sAt (f_X9_sortsOf c) i, p, nargs)).1 = -1 → (r_X2_reads_38 bytes len place n i (p, num, nums, nI i, 1)).1 = (r_X9_reads_72 text len place' n i (sAt (f_X9_sortsOf c) i, p, nargs)).2.1 ∧ ¬ (r_X2_reads_38 bytes len place n i (p, num, nums, nI i, 1)).1 = -1) ∧
    (¬ (r_X9_reads_72 text len place' n i (sAt (f_X9_sortsOf c) i, p, nargs)).1 = -1 → (r_X2_reads_38 bytes len place n i (p, num, nums, nI i, 1)).1 = -1 ∧ (r_X2_reads_38 bytes len place n i (p, num, nums, nI i, 1)).2.1 = (r_X9_reads_72 text len place' n i (sAt (f_X9_sortsOf c) i, p, nargs)).2.1 ∧ (∀ j, j < (f_X9_manyOf c).toNatClampNeg → (r_X2_reads_38 bytes len place n i (p, num, nums, nI i, 1)).2.2.2.1 j = (r_X9_reads_72 text len place' n i (sAt (f_X9_sortsOf c) i, p, nargs)).2.2 j) ∧ (r_X2_reads_38 bytes len place n i (p, num, nums, nI i, 1)).2.2.2.2.1 = c ∧ (r_X2_reads_38 bytes len place n i (p, num, nums, nI i, 1)).2.2.2.2.2.2.1 = f_X9_manyOf c)
  | 0, i, p, num, nums, nargs, hn, hp, hi, hj => by
    have hq := tP_ms (text := text) hp
    have mo := (many_ok hm).1
    have ei : i = (f_X9_manyOf c).toNatClampNeg := by omega
    unfold r_X2_reads_38 r_X9_reads_72
    dsimp only
    rw [hcc, hcr, sk_e hx hp]
    have e := eqb_e hx hq (k := 59) (by decide)
    have cm : ¬ c = -1 := fun z => hm (by rw [z]; decide)
    by_cases w : f_X2_byteHere bytes len (g_X9_skip_place text len p) = 59
    · rw [if_pos w, if_neg (fun z => (e.mp z) w)]
      refine ⟨fun z => absurd z cm, fun _ => ⟨rfl, rfl, fun j hj2 => hj j (by omega), rfl, ?_⟩⟩
      rw [ei]; exact mo.symm
    · rw [if_neg w, if_pos (e.mpr w)]
      exact ⟨fun _ => ⟨rfl, tP_m1 hq⟩, fun z => absurd rfl z⟩
  | n + 1, i, p, num, nums, nargs, hn, hp, hi, hj => by
    have hq := tP_ms (text := text) hp
    have m9 := (many_ok hm).2
    obtain ⟨k1, k2, k3⟩ := kk hm (i := i) (by omega)
    have tt := takes_tie (k := nI i) (sort := sAt (f_X9_sortsOf c) i - sAt (f_X9_sortsOf c) i / 10 * 10) hx hp (by
      rcases hi with z | z
      · rw [z]; exact Or.inl rfl
      · exact Or.inr z)
    rw [nI_clamp (by omega)] at tt
    unfold r_X2_reads_38 r_X9_reads_72
    dsimp only
    rw [hcc, sk_e hx hp, k1, k2, k3]
    by_cases h0 : f_X2_readsNumber bytes len (g_X9_skip_place text len p) = 0
    · obtain ⟨a, b⟩ := tt.1 h0
      rw [if_pos h0, if_pos a]
      exact ⟨fun _ => ⟨b.symm, tP_m1 hq⟩, fun z => absurd rfl z⟩
    · obtain ⟨a, b, d⟩ := tt.2 h0
      rw [if_neg h0]
      by_cases h1 : f_X9_isAs (sAt (f_X9_sortsOf c) i - sAt (f_X9_sortsOf c) i / 10 * 10) (g_X2_readsNumber_num bytes len (g_X9_skip_place text len p)) = 0
      · obtain ⟨b1, b2⟩ := b h1
        rw [if_pos h1, i00, if_pos b1]
        exact ⟨fun _ => ⟨b2.symm, tP_m1 hq⟩, fun z => absurd rfl z⟩
      · obtain ⟨d1, d2, d3, d4⟩ := d h1
        rw [if_neg h1, i10, if_neg d1, d2, a nargs, ← sAt_up]
        exact rd_l hx hm hcc hcr n (i + 1) _ _ _ _ (by omega) d3 (Or.inr d4) (fun j hj2 => by
          by_cases z : j = i
          · rw [z, pk_us, pk_us]
          · rw [pk_un z, pk_un z]; exact hj j (by omega))