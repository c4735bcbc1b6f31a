theorem as0 {s v : Int32} (h : ¬ f_X9_isAs s v = 0) (e : s = 0) : pT v := by
  subst e
  exact mP_ne (t := v) h
theorem as1 {s v : Int32} (h : ¬ f_X9_isAs s v = 0) (e : s = 1) : pX v := by
  subst e
  have a := mIn_ne (show ¬ f_X9_in v.toInt64 (-64) 63 = 0 from h)
  rw [Int32.toInt_toInt64] at a
  exact a
theorem as2 {s v : Int32} (h : ¬ f_X9_isAs s v = 0) (e : s = 2) : hOk v := by
  subst e
  have a := mIn_ne (show ¬ f_X9_in v.toInt64 1 64 = 0 from h)
  rw [Int32.toInt_toInt64] at a
  have e1 : (1 : Int64).toInt = 1 := rfl
  have e64 : (64 : Int64).toInt = 64 := rfl
  unfold hOk
  omega
theorem many_c {c : Int32} (h : ¬ f_X9_manyOf c = -1) : c = 109 ∨ c = 108 ∨ c = 114 ∨ c = 102 ∨ c = 99 ∨ c = 111 ∨ c = 107 := by
  unfold f_X9_manyOf at h
  by_cases h1 : c = 109
  · exact Or.inl h1
  by_cases h2 : c = 108
  · exact Or.inr (Or.inl h2)
  by_cases h3 : c = 114
  · exact Or.inr (Or.inr (Or.inl h3))
  by_cases h4 : c = 102
  · exact Or.inr (Or.inr (Or.inr (Or.inl h4)))
  by_cases h5 : c = 99
  · exact Or.inr (Or.inr (Or.inr (Or.inr (Or.inl h5))))
  by_cases h6 : c = 111
  · exact Or.inr (Or.inr (Or.inr (Or.inr (Or.inr (Or.inl h6)))))
  by_cases h7 : c = 107
  · exact Or.inr (Or.inr (Or.inr (Or.inr (Or.inr (Or.inr h7)))))
  rw [if_neg h1, if_neg h2, if_neg h3, if_neg h4, if_neg h5, if_neg h6, if_neg h7] at h
  exact absurd rfl h
theorem sk_ge0 {text : Nat → Int32} {len : Int32} : ∀ (n i : Nat) (place : Int32), tP len place → place.toInt ≤ (r_X9_skip_0 text len n i place).toInt
  | 0, i, place, h => Int.le_refl _
  | n + 1, i, place, h => by
    unfold r_X9_skip_0
    split
    · exact Int.le_refl _
    · split
      · have h1 := tP_up h (by assumption)
        have h2 := sk_ge0 (text := text) n (i + 1) (place + 1) h1.1
        have h3 := h1.2
        omega
      · exact Int.le_refl _
theorem sk_ge {text : Nat → Int32} {len place : Int32} (h : tP len place) : place.toInt ≤ (g_X9_skip_place text len place).toInt := sk_ge0 _ _ _ h
theorem tk_ge0 {text : Nat → Int32} {len : Int32} : ∀ (n i : Nat) (z : Int32 × Int32 × Int32), tP len z.2.2 → z.2.2.toInt ≤ (r_X9_takes_71 text len n i z).2.2.toInt
  | 0, i, z, h => Int.le_refl _
  | n + 1, i, z, h => by
    unfold r_X9_takes_71
    split
    · exact Int.le_refl _
    · rename_i q
      have h1 := tP_up h (ib_lt q)
      have h2 := tk_ge0 (text := text) n (i + 1) ((if 3 ≤ z.2.1 then z.1 else (((10 * z.1) + (text z.2.2.toNatClampNeg)) - 48) : Int32), z.2.1 + 1, z.2.2 + 1) h1.1
      have h3 := h1.2
      dsimp only at h2
      omega
theorem if_ge {c : Prop} [Decidable c] {p a b : Int32} (ha : p.toInt ≤ a.toInt) (hb : p.toInt ≤ b.toInt) : p.toInt ≤ (if c then a else b).toInt := by
  split
  · exact ha
  · exact hb
theorem mn_ge {text : Nat → Int32} {len place lo hi : Int32} (h : tP len place) : place.toInt ≤ (if f_X9_isByte text len place lo hi = 0 then place else place + 1).toInt := by
  split
  · exact Int.le_refl _
  · rename_i q; have := (tP_up h (ib_lt q)).2; omega
theorem tk_ge {text : Nat → Int32} {len place k sort : Int32} (h : tP len place) : place.toInt ≤ (g_X9_takes_place text len place k sort).toInt := by
  unfold g_X9_takes_place
  have h0 : tP len (if f_X9_isByte text len (g_X9_skip_place text len place) 45 45 = 0 then (g_X9_skip_place text len place) else ((g_X9_skip_place text len place) + 1) : Int32) := tP_mn (tP_ms h)
  have h1 := tk_ge0 (text := text) 120 0 (0, 0, (if f_X9_isByte text len (g_X9_skip_place text len place) 45 45 = 0 then (g_X9_skip_place text len place) else ((g_X9_skip_place text len place) + 1) : Int32)) h0
  have h2 := mn_ge (text := text) (lo := 45) (hi := 45) (tP_ms (text := text) h)
  have h3 := sk_ge (text := text) h
  dsimp only at h1
  exact if_ge h3 (Int.le_trans h3 (Int.le_trans h2 h1))
theorem rd_gr {text : Nat → Int32} {len place : Int32} : ∀ (n i : Nat) (z : Int32 × Int32 × (Nat → Int32)), tP len z.2.1 → ¬ (r_X9_reads_72 text len place n i z).1 = -1 → tP len (r_X9_reads_72 text len place n i z).2.1 ∧ z.2.1.toInt < (r_X9_reads_72 text len place n i z).2.1.toInt
  | 0, i, z, hp, h => by
    unfold r_X9_reads_72 at h ⊢
    by_cases q : f_X9_isByte text len (g_X9_skip_place text len z.2.1) 59 59 = 0
    · rw [if_pos q] at h; exact absurd rfl h
    · rw [if_neg q]
      dsimp only
      have h1 := tP_up (tP_ms (text := text) hp) (ib_lt q)
      have h2 := sk_ge (text := text) hp
      refine ⟨h1.1, ?_⟩
      have h3 := h1.2
      omega
  | n + 1, i, z, hp, h => by
    unfold r_X9_reads_72 at h ⊢
    by_cases q : f_X9_takes text len z.2.1 (nI i) (z.1 - z.1 / 10 * 10) = 0
    · rw [if_pos q] at h; exact absurd rfl h
    · rw [if_neg q] at h ⊢
      have h1 := rd_gr n (i + 1) _ (by dsimp only; exact tP_tk hp) h
      have h2 := tk_ge (text := text) (k := nI i) (sort := z.1 - z.1 / 10 * 10) hp
      refine ⟨h1.1, ?_⟩
      have h3 := h1.2
      dsimp only at h3 ⊢
      omega
theorem rd_f {text : Nat → Int32} {len place : Int32} : ∀ (n i : Nat) (z : Int32 × Int32 × (Nat → Int32)), ¬ (r_X9_reads_72 text len place n i z).1 = -1 → (r_X9_reads_72 text len place n i z).1 = (if len ≤ (g_X9_skip_place text len place) then (-1) else (text (g_X9_skip_place text len place).toNatClampNeg) : Int32)
  | 0, i, z, h => by
    unfold r_X9_reads_72 at h ⊢
    by_cases q : f_X9_isByte text len (g_X9_skip_place text len z.2.1) 59 59 = 0
    · rw [if_pos q] at h; exact absurd rfl h
    · rw [if_neg q]
  | n + 1, i, z, h => by
    unfold r_X9_reads_72 at h ⊢
    by_cases q : f_X9_takes text len z.2.1 (nI i) (z.1 - z.1 / 10 * 10) = 0
    · rw [if_pos q] at h; exact absurd rfl h
    · rw [if_neg q] at h ⊢
      exact rd_f n (i + 1) _ h
/-- a successful reads: its letter, and that its numbers are as they must be -/
theorem rd_c {text nargs : Nat → Int32} {len place op : Int32} (hp : tP len place) (h : ¬ f_X9_reads text len place nargs op = -1) :
    ∃ c : Int32, f_X9_reads text len place nargs op = c ∧ ¬ f_X9_manyOf c = -1 ∧ (c = 111 → ¬ op = 4) ∧ (∀ j : Nat, j < (f_X9_manyOf c).toNatClampNeg → ¬ f_X9_isAs (sAt (f_X9_sortsOf c) j - sAt (f_X9_sortsOf c) j / 10 * 10) (g_X9_reads_nargs text len place nargs op j) = 0) ∧ tP len (g_X9_reads_place text len place nargs op) ∧ place.toInt < (g_X9_reads_place text len place nargs op).toInt := by
  have hF := rd_f (text := text) (len := len) (place := place)
  have hG := rd_gr (text := text) (len := len) (place := place)
  have hR := rd_r (text := text) (len := len) (place := place)
  have hS := sk_ge (text := text) hp
  have hT := tP_ms (text := text) hp
  have hL := rd_lt (len := len) (p := g_X9_skip_place text len place) (v := text (g_X9_skip_place text len place).toNatClampNeg)
  unfold f_X9_reads at h ⊢
  unfold g_X9_reads_nargs g_X9_reads_place
  generalize hc : (if len ≤ (g_X9_skip_place text len place) then (-1) else (text (g_X9_skip_place text len place).toNatClampNeg) : Int32) = c at h hF hL ⊢
  by_cases h1 : f_X9_manyOf c = -1
  · rw [if_pos h1] at h; exact absurd rfl h
  have hU := tP_up hT (hL h1)
  have hU2 := hU.2
  have key : ∀ n : Nat, n ≤ 9 → ¬ (r_X9_reads_72 text len place n 0 (f_X9_sortsOf c, (g_X9_skip_place text len place) + 1, nargs)).1 = -1 →
      (r_X9_reads_72 text len place n 0 (f_X9_sortsOf c, (g_X9_skip_place text len place) + 1, nargs)).1 = c ∧ (∀ j : Nat, j < n → ¬ f_X9_isAs (sAt (f_X9_sortsOf c) j - sAt (f_X9_sortsOf c) j / 10 * 10) ((r_X9_reads_72 text len place n 0 (f_X9_sortsOf c, (g_X9_skip_place text len place) + 1, nargs)).2.2 j) = 0) ∧ tP len (r_X9_reads_72 text len place n 0 (f_X9_sortsOf c, (g_X9_skip_place text len place) + 1, nargs)).2.1 ∧ place.toInt < (r_X9_reads_72 text len place n 0 (f_X9_sortsOf c, (g_X9_skip_place text len place) + 1, nargs)).2.1.toInt := by
    intro n hn q
    have a := hF n 0 _ q
    have b := (hR n 0 _ (by omega) q).2
    have d := hG n 0 _ (by dsimp only; exact hU.1) q
    dsimp only at d b
    refine ⟨a, fun j hj => ?_, d.1, ?_⟩
    · have b2 := b j hj
      rw [Nat.zero_add] at b2
      exact b2
    · have := d.2; omega
  have hm := (many_ok h1).2
  rw [if_neg h1] at h ⊢
  rw [if_neg h1, if_neg h1]
  by_cases h2 : c = 111
  · rw [if_pos h2] at h ⊢
    rw [if_pos h2, if_pos h2]
    by_cases h3 : op = 4
    · rw [if_pos h3] at h; exact absurd rfl h
    · rw [if_neg h3] at h ⊢
      rw [if_neg h3, if_neg h3]
      have k := key _ hm h
      exact ⟨c, k.1, h1, fun _ => h3, k.2.1, k.2.2.1, k.2.2.2⟩
  · rw [if_neg h2] at h ⊢
    rw [if_neg h2, if_neg h2]
    have k := key _ hm h
    exact ⟨c, k.1, h1, fun q => absurd q h2, k.2.1, k.2.2.1, k.2.2.2⟩
theorem dOk_of {c op : Int32} {a now : Nat → Int32} (h1 : ¬ f_X9_manyOf c = -1) (h2 : c = 111 → ¬ op = 4) (h3 : ∀ j : Nat, j < (f_X9_manyOf c).toNatClampNeg → ¬ f_X9_isAs (sAt (f_X9_sortsOf c) j - sAt (f_X9_sortsOf c) j / 10 * 10) (a j) = 0) (h4 : op = now (96 : Int32).toNatClampNeg) : dOk c a now := by
  refine ⟨fun e => ?_, fun e => ?_, fun e => ?_, fun e => ?_, fun e => ?_, fun e => ?_⟩
  · subst e
    exact ⟨as0 (h3 0 (by decide)) (by decide), as2 (h3 3 (by decide)) (by decide), as2 (h3 4 (by decide)) (by decide), as0 (h3 5 (by decide)) (by decide)⟩
  · subst e
    exact ⟨as0 (h3 0 (by decide)) (by decide), as1 (h3 1 (by decide)) (by decide), as1 (h3 2 (by decide)) (by decide), as1 (h3 3 (by decide)) (by decide), as1 (h3 4 (by decide)) (by decide)⟩
  · subst e
    exact as0 (h3 0 (by decide)) (by decide)
  · subst e
    exact ⟨as0 (h3 0 (by decide)) (by decide), as2 (h3 3 (by decide)) (by decide), as2 (h3 4 (by decide)) (by decide)⟩
  · subst e
    exact as0 (h3 0 (by decide)) (by decide)
  · rw [← h4]; exact h2 e
/-- at the head of goesThrough's loop -/
def gI (len ad op more : Int32) (now : Nat → Int32) (place : Int32) (i : Nat) : Prop := tP len place ∧ mOk now ∧ (¬ ad = 0 → op = now (96 : Int32).toNatClampNeg) ∧ (i : Int) ≤ place.toInt ∧ (¬ more = 0 → i = 0 ∨ place.toInt < len.toInt)
theorem gI_x {len ad op more : Int32} {now : Nat → Int32} {place : Int32} {i : Nat} (h : gI len ad op more now place i) (hi : i = 120) : more = 0 := by
  obtain ⟨⟨⟨-, h1⟩, -, h2⟩, -, -, h3, h4⟩ := h
  by_cases q : more = 0
  · exact q
  · rcases h4 q with h5 | h5 <;> omega
theorem gI_p {text nargs : Nat → Int32} {len ad op more : Int32} {now : Nat → Int32} {place : Int32} {i : Nat} (h : gI len ad op more now place i) (hr : ¬ f_X9_reads text len place nargs op = -1) : tP len (g_X9_reads_place text len place nargs op) := by
  obtain ⟨c, -, -, -, -, h5, -⟩ := rd_c h.1 hr
  exact h5
theorem gI_d {text nargs : Nat → Int32} {len ad op more : Int32} {now : Nat → Int32} {place : Int32} {i : Nat} (h : gI len ad op more now place i) (hr : ¬ f_X9_reads text len place nargs op = -1) (ha : ¬ ad = 0) : dOk (f_X9_reads text len place nargs op) (g_X9_reads_nargs text len place nargs op) now := by
  obtain ⟨c, h1, h2, h3, h4, -, -⟩ := rd_c h.1 hr
  rw [h1]
  exact dOk_of h2 h3 h4 (h.2.2.1 ha)
theorem sh_96 {now : Nat → Int32} : g_X9_shuts_now now (96 : Int32).toNatClampNeg = 0 := by
  show s_X9_shuts_11 now 17 96 = 0
  unfold s_X9_shuts_11 b_X9_shuts_11
  exact pk_us
theorem op_96 {now : Nat → Int32} {x y w h : Int32} (hm : mOk now) (h4 : ¬ now (96 : Int32).toNatClampNeg = 4) : g_X9_opens_now now x y w h (96 : Int32).toNatClampNeg = now (96 : Int32).toNatClampNeg + 1 := by
  obtain ⟨c, hc, e⟩ := mo_lt hm h4
  unfold g_X9_opens_now
  rw [pk_us]
  have e96 : (96 : Int32).toNatClampNeg = 96 := by decide
  have i0 : (80 + 4 * nI c).toNatClampNeg < 96 := by
    rw [show (4 : Int32) = nI 4 from rfl, show (80 : Int32) = nI 80 from rfl, pk_mul, nI_add, nI_clamp (by omega)]; omega
  have ij : ∀ j : Nat, j < 4 → (80 + 4 * nI c + nI j).toNatClampNeg < 96 := fun j hj => by
    rw [show (4 : Int32) = nI 4 from rfl, show (80 : Int32) = nI 80 from rfl, pk_mul, nI_add, nI_add, nI_clamp (by omega)]; omega
  have i1 := ij 1 (by decide)
  have i2 := ij 2 (by decide)
  have i3 := ij 3 (by decide)
  rw [show nI 1 = (1 : Int32) from rfl] at i1
  rw [show nI 2 = (2 : Int32) from rfl] at i2
  rw [show nI 3 = (3 : Int32) from rfl] at i3
  rw [e]
  rw [pk_un (by omega), pk_un (by omega), pk_un (by omega), pk_un (by omega), e]
/-- how doesOne changes the number of openings -/
theorem do_96 {now aside pile came a : Nat → Int32} {c : Int32} (hm : mOk now) (hd : dOk c a now) (hc : ¬ f_X9_manyOf c = -1) : g_X9_doesOne_now now aside pile came a c (96 : Int32).toNatClampNeg = (if c = 107 then 0 else if c = 111 then now (96 : Int32).toNatClampNeg + 1 else now (96 : Int32).toNatClampNeg) := by
  obtain ⟨d1, d2, d3, d4, d5, d6⟩ := hd
  unfold g_X9_doesOne_now
  have k9 : ∀ b : Nat → Int32, kp b now → b (96 : Int32).toNatClampNeg = now (96 : Int32).toNatClampNeg := fun b hb => hb _ (by decide)
  rcases many_c hc with e | e | e | e | e | e | e
  · rw [if_neg (by rw [e]; decide), if_neg (by rw [e]; decide), if_neg (by rw [e]; decide), if_pos e, if_neg (by rw [e]; decide), if_neg (by rw [e]; decide)]
    exact k9 _ (kp_mv (d1 e).2.2.2)
  · rw [if_neg (by rw [e]; decide), if_neg (by rw [e]; decide), if_pos e, if_neg (by rw [e]; decide), if_neg (by rw [e]; decide)]
    exact k9 _ (kp_li (d2 e).1)
  · rw [if_neg (by rw [e]; decide), if_neg (by rw [e]; decide), if_neg (by rw [e]; decide), if_neg (by rw [e]; decide), if_neg (by rw [e]; decide), if_pos e, if_neg (by rw [e]; decide), if_neg (by rw [e]; decide)]
    exact k9 _ (kp_re (d4 e).1)
  · rw [if_neg (by rw [e]; decide), if_pos e, if_neg (c := c = 107) (by rw [e]; decide), if_neg (c := c = 111) (by rw [e]; decide)]
    split
    · rfl
    · exact k9 _ (kp_fl (d3 e))
  · rw [if_pos e, if_neg (by rw [e]; decide), if_neg (by rw [e]; decide)]
    exact k9 _ (kp_le (d5 e))
  · rw [if_neg (by rw [e]; decide), if_neg (by rw [e]; decide), if_neg (by rw [e]; decide), if_neg (by rw [e]; decide), if_pos e, if_neg (by rw [e]; decide), if_pos e]
    exact op_96 hm (d6 e)
  · rw [if_neg (by rw [e]; decide), if_neg (by rw [e]; decide), if_neg (by rw [e]; decide), if_neg (by rw [e]; decide), if_neg (by rw [e]; decide), if_neg (by rw [e]; decide), if_pos e]
    exact sh_96
theorem do_ok {now aside pile came a : Nat → Int32} {c : Int32} (hm : mOk now) (hd : dOk c a now) (hc : ¬ f_X9_manyOf c = -1) : mOk (g_X9_doesOne_now now aside pile came a c) := by
  have h := do_96 (aside := aside) (pile := pile) (came := came) hm hd hc
  unfold mOk
  rw [h]
  split
  · exact ⟨by decide, by decide⟩
  · split
    · rename_i e
      obtain ⟨k, hk, ek⟩ := mo_lt hm (hd.2.2.2.2.2 e)
      rw [ek, nI_1]
      unfold cOk
      rw [nI_toInt (by omega)]
      omega
    · exact hm
theorem gI_step {text nargs now aside pile came : Nat → Int32} {len ad op more place : Int32} {i : Nat} (h : gI len ad op more now place i) (hr : ¬ f_X9_reads text len place nargs op = -1) :
    gI len ad (if f_X9_reads text len place nargs op = 107 then 0 else if f_X9_reads text len place nargs op = 111 then op + 1 else op) (if len ≤ g_X9_skip_place text len (g_X9_reads_place text len place nargs op) then 0 else 1) (if ad = 0 then now else g_X9_doesOne_now now aside pile came (g_X9_reads_nargs text len place nargs op) (f_X9_reads text len place nargs op)) (g_X9_skip_place text len (g_X9_reads_place text len place nargs op)) (i + 1) := by
  have hp := gI_p h hr
  have hd := gI_d h hr
  obtain ⟨c, h1, h2, h3, h4, h5, h6⟩ := rd_c h.1 hr
  rw [h1] at hd ⊢
  have hg := sk_ge (text := text) hp
  obtain ⟨g1, g2, g3, g4, g5⟩ := h
  refine ⟨tP_ms hp, ?_, fun ha => ?_, by omega, fun q => Or.inr ?_⟩
  · by_cases ha : ad = 0
    · rw [if_pos ha]; exact g2
    · rw [if_neg ha]; exact do_ok g2 (hd ha) h2
  · rw [if_neg ha, do_96 g2 (hd ha) h2, g3 ha]
  · have q2 : ¬ len ≤ g_X9_skip_place text len (g_X9_reads_place text len place nargs op) := fun z => q (by rw [if_pos z])
    have q3 : ¬ len.toInt ≤ (g_X9_skip_place text len (g_X9_reads_place text len place nargs op)).toInt := fun z => q2 (Int32.le_iff_toInt_le.mpr z)
    omega
theorem gI_0 {len ad : Int32} {now : Nat → Int32} (hl : tL len) (hm : mOk now) : gI len ad (now (96 : Int32).toNatClampNeg) 1 now 0 0 := ⟨⟨hl, by decide, hl.1⟩, hm, fun _ => rfl, by decide, fun _ => Or.inl rfl⟩

def r_X9_goesThrough_18 (text : Nat → Int32) (textL : Int32) (areDone : Int32) : Nat → Nat → (Int32 × Int32 × Int32 × (Nat → Int32) × (Nat → Int32) × (Nat → Int32) × (Nat → Int32) × Int32 × Int32 × (Nat → Int32)) → Int32 × (Nat → Int32) × (Nat → Int32) × (Nat → Int32) × (Nat → Int32) × Int32 × Int32 × (Nat → Int32)
  | 0, i_18, z_18 => (z_18.2.1, z_18.2.2.2.1, z_18.2.2.2.2.1, z_18.2.2.2.2.2.1, z_18.2.2.2.2.2.2.1, z_18.2.2.2.2.2.2.2.1, z_18.2.2.2.2.2.2.2.2.1, z_18.2.2.2.2.2.2.2.2.2)
  | n_18 + 1, i_18, z_18 => if z_18.2.2.1 = 0 then (z_18.2.1, z_18.2.2.2.1, z_18.2.2.2.2.1, z_18.2.2.2.2.2.1, z_18.2.2.2.2.2.2.1, z_18.2.2.2.2.2.2.2.1, z_18.2.2.2.2.2.2.2.2.1, z_18.2.2.2.2.2.2.2.2.2) else if (f_X9_reads text textL z_18.2.2.2.2.2.2.2.2.1 z_18.2.2.2.2.2.2.2.2.2 z_18.1) = (-1) then ((-1), z_18.2.2.2.1, z_18.2.2.2.2.1, z_18.2.2.2.2.2.1, z_18.2.2.2.2.2.2.1, z_18.2.2.2.2.2.2.2.1, g_X9_reads_place text textL z_18.2.2.2.2.2.2.2.2.1 z_18.2.2.2.2.2.2.2.2.2 z_18.1, g_X9_reads_nargs text textL z_18.2.2.2.2.2.2.2.2.1 z_18.2.2.2.2.2.2.2.2.2 z_18.1) else r_X9_goesThrough_18 text textL areDone n_18 (i_18 + 1) ((if (f_X9_reads text textL z_18.2.2.2.2.2.2.2.2.1 z_18.2.2.2.2.2.2.2.2.2 z_18.1) = 107 then 0 else (if (f_X9_reads text textL z_18.2.2.2.2.2.2.2.2.1 z_18.2.2.2.2.2.2.2.2.2 z_18.1) = 111 then (z_18.1 + 1) else z_18.1 : Int32) : Int32), z_18.2.1 + (if areDone = 0 then 0 else (f_X9_doesOne z_18.2.2.2.1 z_18.2.2.2.2.1 z_18.2.2.2.2.2.1 z_18.2.2.2.2.2.2.1 (g_X9_reads_nargs text textL z_18.2.2.2.2.2.2.2.2.1 z_18.2.2.2.2.2.2.2.2.2 z_18.1) (f_X9_reads text textL z_18.2.2.2.2.2.2.2.2.1 z_18.2.2.2.2.2.2.2.2.2 z_18.1)) : Int32), (if textL ≤ (g_X9_skip_place text textL (g_X9_reads_place text textL z_18.2.2.2.2.2.2.2.2.1 z_18.2.2.2.2.2.2.2.2.2 z_18.1)) then 0 else 1 : Int32), (if areDone = 0 then z_18.2.2.2.1 else (g_X9_doesOne_now z_18.2.2.2.1 z_18.2.2.2.2.1 z_18.2.2.2.2.2.1 z_18.2.2.2.2.2.2.1 (g_X9_reads_nargs text textL z_18.2.2.2.2.2.2.2.2.1 z_18.2.2.2.2.2.2.2.2.2 z_18.1) (f_X9_reads text textL z_18.2.2.2.2.2.2.2.2.1 z_18.2.2.2.2.2.2.2.2.2 z_18.1)) : Nat → Int32), (if areDone = 0 then z_18.2.2.2.2.1 else (g_X9_doesOne_aside z_18.2.2.2.1 z_18.2.2.2.2.1 (f_X9_reads text textL z_18.2.2.2.2.2.2.2.2.1 z_18.2.2.2.2.2.2.2.2.2 z_18.1)) : Nat → Int32), (if areDone = 0 then z_18.2.2.2.2.2.1 else (g_X9_doesOne_pile z_18.2.2.2.1 z_18.2.2.2.2.2.1 z_18.2.2.2.2.2.2.1 (g_X9_reads_nargs text textL z_18.2.2.2.2.2.2.2.2.1 z_18.2.2.2.2.2.2.2.2.2 z_18.1) (f_X9_reads text textL z_18.2.2.2.2.2.2.2.2.1 z_18.2.2.2.2.2.2.2.2.2 z_18.1)) : Nat → Int32), (if areDone = 0 then z_18.2.2.2.2.2.2.1 else (g_X9_doesOne_came z_18.2.2.2.1 z_18.2.2.2.2.2.1 z_18.2.2.2.2.2.2.1 (g_X9_reads_nargs text textL z_18.2.2.2.2.2.2.2.2.1 z_18.2.2.2.2.2.2.2.2.2 z_18.1) (f_X9_reads text textL z_18.2.2.2.2.2.2.2.2.1 z_18.2.2.2.2.2.2.2.2.2 z_18.1)) : Nat → Int32), (if areDone = 0 then z_18.2.2.2.2.2.2.2.1 else (g_X9_doesOne_pileL z_18.2.2.2.1 z_18.2.2.2.2.2.1 z_18.2.2.2.2.2.2.1 z_18.2.2.2.2.2.2.2.1 (g_X9_reads_nargs text textL z_18.2.2.2.2.2.2.2.2.1 z_18.2.2.2.2.2.2.2.2.2 z_18.1) (f_X9_reads text textL z_18.2.2.2.2.2.2.2.2.1 z_18.2.2.2.2.2.2.2.2.2 z_18.1)) : Int32), g_X9_skip_place text textL (g_X9_reads_place text textL z_18.2.2.2.2.2.2.2.2.1 z_18.2.2.2.2.2.2.2.2.2 z_18.1), g_X9_reads_nargs text textL z_18.2.2.2.2.2.2.2.2.1 z_18.2.2.2.2.2.2.2.2.2 z_18.1)
def f_X9_goesThrough (now : Nat → Int32) (aside : Nat → Int32) (pile : Nat → Int32) (came : Nat → Int32) (pileL : Int32) (text : Nat → Int32) (textL : Int32) (nargs : Nat → Int32) (areDone : Int32) : Int32 := (r_X9_goesThrough_18 text textL areDone 120 0 (now (96 : Int32).toNatClampNeg, 0, 1, now, aside, pile, came, pileL, 0, nargs)).1
def g_X9_goesThrough_now (now : Nat → Int32) (aside : Nat → Int32) (pile : Nat → Int32) (came : Nat → Int32) (pileL : Int32) (text : Nat → Int32) (textL : Int32) (nargs : Nat → Int32) (areDone : Int32) : Nat → Int32 := (r_X9_goesThrough_18 text textL areDone 120 0 (now (96 : Int32).toNatClampNeg, 0, 1, now, aside, pile, came, pileL, 0, nargs)).2.1
def g_X9_goesThrough_aside (now : Nat → Int32) (aside : Nat → Int32) (pile : Nat → Int32) (came : Nat → Int32) (pileL : Int32) (text : Nat → Int32) (textL : Int32) (nargs : Nat → Int32) (areDone : Int32) : Nat → Int32 := (r_X9_goesThrough_18 text textL areDone 120 0 (now (96 : Int32).toNatClampNeg, 0, 1, now, aside, pile, came, pileL, 0, nargs)).2.2.1
def g_X9_goesThrough_pile (now : Nat → Int32) (aside : Nat → Int32) (pile : Nat → Int32) (came : Nat → Int32) (pileL : Int32) (text : Nat → Int32) (textL : Int32) (nargs : Nat → Int32) (areDone : Int32) : Nat → Int32 := (r_X9_goesThrough_18 text textL areDone 120 0 (now (96 : Int32).toNatClampNeg, 0, 1, now, aside, pile, came, pileL, 0, nargs)).2.2.2.1
def g_X9_goesThrough_came (now : Nat → Int32) (aside : Nat → Int32) (pile : Nat → Int32) (came : Nat → Int32) (pileL : Int32) (text : Nat → Int32) (textL : Int32) (nargs : Nat → Int32) (areDone : Int32) : Nat → Int32 := (r_X9_goesThrough_18 text textL areDone 120 0 (now (96 : Int32).toNatClampNeg, 0, 1, now, aside, pile, came, pileL, 0, nargs)).2.2.2.2.1
def g_X9_goesThrough_pileL (now : Nat → Int32) (aside : Nat → Int32) (pile : Nat → Int32) (came : Nat → Int32) (pileL : Int32) (text : Nat → Int32) (textL : Int32) (nargs : Nat → Int32) (areDone : Int32) : Int32 := (r_X9_goesThrough_18 text textL areDone 120 0 (now (96 : Int32).toNatClampNeg, 0, 1, now, aside, pile, came, pileL, 0, nargs)).2.2.2.2.2.1
def g_X9_goesThrough_place (now : Nat → Int32) (aside : Nat → Int32) (pile : Nat → Int32) (came : Nat → Int32) (pileL : Int32) (text : Nat → Int32) (textL : Int32) (nargs : Nat → Int32) (areDone : Int32) : Int32 := (r_X9_goesThrough_18 text textL areDone 120 0 (now (96 : Int32).toNatClampNeg, 0, 1, now, aside, pile, came, pileL, 0, nargs)).2.2.2.2.2.2.1
def g_X9_goesThrough_nargs (now : Nat → Int32) (aside : Nat → Int32) (pile : Nat → Int32) (came : Nat → Int32) (pileL : Int32) (text : Nat → Int32) (textL : Int32) (nargs : Nat → Int32) (areDone : Int32) : Nat → Int32 := (r_X9_goesThrough_18 text textL areDone 120 0 (now (96 : Int32).toNatClampNeg, 0, 1, now, aside, pile, came, pileL, 0, nargs)).2.2.2.2.2.2.2
set_option maxRecDepth 100000 in
theorem c_X9_goesThrough {l : Launch} {G : zG} {da dn dp dr ds dl dc dt dg : Nat} {now : Nat → Int32} {past : Nat → Int32} {states : Int32} {refused : Nat → Int32} {aside : Nat → Int32} {pile : Nat → Int32} {came : Nat → Int32} {pileL : Int32} {text : Nat → Int32} {textL : Int32} {place : Int32} {nargs : Nat → Int32} {areDone : Int32} (hm : mOk now) (hl : tL textL) : Ct l G yX9_goesThrough cX9_goesThrough 6 (Option.some FieldType.int) 7 176 [.ref da, .int areDone] (wMd G da dn dp dr ds dl dc dt dg now past states refused aside pile came pileL text textL place nargs) (pI (f_X9_goesThrough now aside pile came pileL text textL nargs areDone) (wMd G da dn dp dr ds dl dc dt dg (g_X9_goesThrough_now now aside pile came pileL text textL nargs areDone) past states refused (g_X9_goesThrough_aside now aside pile came pileL text textL nargs areDone) (g_X9_goesThrough_pile now aside pile came pileL text textL nargs areDone) (g_X9_goesThrough_came now aside pile came pileL text textL nargs areDone) (g_X9_goesThrough_pileL now aside pile came pileL text textL nargs areDone) text textL (g_X9_goesThrough_place now aside pile came pileL text textL nargs areDone) (g_X9_goesThrough_nargs now aside pile came pileL text textL nargs areDone))) := by
  refine Ct.of (plainFor_of_name (by decide)) (Nat.le_of_ble_eq_true rfl) (pI.ad ad_Md) (fun X C E => ?_)
  show Z X G 6 0 0 _ 0 [(0, .ref da), (1, .int areDone)] []
  refine z_iconst (pc := 0) (v := 0) C dX9_goesThrough_0 (by decide) ?_
  refine z_istore_n (pc := 1) [(2, _), (0, _), (1, _)] C dX9_goesThrough_1 rfl (by decide) rfl ?_
  refine z_aload_n (pc := 2) C 1 dX9_goesThrough_2 rfl ?_
  refine z_get (pc := 3) C 0 0 dX9_goesThrough_3 rfl rfl i_X9 (by decide) q_829 rfl ?_
  refine z_bipush (pc := 6) (v := 96) C dX9_goesThrough_6 (by decide) ?_
  refine z_iald (pc := 8) C 1 dX9_goesThrough_8 rfl (ix_c (k := 96) rfl (by decide) (by decide)) ?_
  refine z_istore_n (pc := 9) [(3, _), (2, _), (0, _), (1, _)] C dX9_goesThrough_9 rfl (by decide) rfl ?_
  refine z_iconst (pc := 10) (v := 1) C dX9_goesThrough_10 (by decide) ?_
  refine z_istore (pc := 11) [(4, _), (3, _), (2, _), (0, _), (1, _)] C dX9_goesThrough_11 (by decide) rfl ?_
  refine z_aload_n (pc := 13) C 3 dX9_goesThrough_13 rfl ?_
  refine z_iconst (pc := 14) (v := 0) C dX9_goesThrough_14 (by decide) ?_
  refine z_put (pc := 15) (wMd G da dn dp dr ds dl dc dt dg now past states refused aside pile came pileL text textL _ nargs) C 0 10 dX9_goesThrough_15 rfl rfl i_X9 tyX9_ok nmX9 (by decide) q_839 rfl rfl rfl rfl (Nat.le_of_ble_eq_true rfl) rfl ?_
  refine z_lv (lv' := [(0, _), (1, _), (2, _), (3, _), (4, _)]) [3, 4, 2, 1, 0] rfl ?_
  have L_18 : ∀ (n_18 i_18 : Nat) (z_18 : Int32 × Int32 × Int32 × (Nat → Int32) × (Nat → Int32) × (Nat → Int32) × (Nat → Int32) × Int32 × Int32 × (Nat → Int32)), n_18 + i_18 = 120 → gI textL areDone z_18.1 z_18.2.2.1 z_18.2.2.2.1 z_18.2.2.2.2.2.2.2.2.1 i_18 → r_X9_goesThrough_18 text textL areDone n_18 i_18 z_18 = r_X9_goesThrough_18 text textL areDone 120 0 (now (96 : Int32).toNatClampNeg, 0, 1, now, aside, pile, came, pileL, 0, nargs) → Z X G 6 0 0 (wMd G da dn dp dr ds dl dc dt dg z_18.2.2.2.1 past states refused z_18.2.2.2.2.1 z_18.2.2.2.2.2.1 z_18.2.2.2.2.2.2.1 z_18.2.2.2.2.2.2.2.1 text textL z_18.2.2.2.2.2.2.2.2.1 z_18.2.2.2.2.2.2.2.2.2) 18 [(0, .ref da), (1, .int areDone), (2, .int z_18.2.1), (3, .int z_18.1), (4, .int z_18.2.2.1)] [] := by
    intro n_18
    induction n_18 with
    | zero =>
      intro i_18 z_18 hn_18 hI_18 hF_18
      obtain rfl : i_18 = 120 := by omega
      refine z_iload (pc := 18) C 4 dX9_goesThrough_18 rfl ?_
      refine z_if_eq (pc := 20) 106 C dX9_goesThrough_20 (by decide) (fun c_20 => ?_) (fun c_20 => ?_)
      · skip
        refine z_iload_n (pc := 106) C 2 dX9_goesThrough_106 rfl ?_
        exact z_iret (pc := 107) C E dX9_goesThrough_107 (pI.mk (by simp only [f_X9_goesThrough]; rw [← hF_18]; simp only [r_X9_goesThrough_18]) (by simp only [g_X9_goesThrough_now, g_X9_goesThrough_aside, g_X9_goesThrough_pile, g_X9_goesThrough_came, g_X9_goesThrough_pileL, g_X9_goesThrough_place, g_X9_goesThrough_nargs]; rw [← hF_18]; simp only [r_X9_goesThrough_18]))
      · skip
        exact absurd (gI_x hI_18 rfl) c_20
    | succ n_18 ih_18 =>
      intro i_18 z_18 hn_18 hI_18 hF_18
      have hi_18 : i_18 < 120 := by omega
      refine z_iload (pc := 18) C 4 dX9_goesThrough_18 rfl ?_
      refine z_if_eq (pc := 20) 106 C dX9_goesThrough_20 (by decide) (fun c_20 => ?_) (fun c_20 => ?_)
      · skip
        refine z_iload_n (pc := 106) C 2 dX9_goesThrough_106 rfl ?_
        exact z_iret (pc := 107) C E dX9_goesThrough_107 (pI.mk (by simp only [f_X9_goesThrough]; rw [← hF_18]; simp only [r_X9_goesThrough_18, if_pos c_20]) (by simp only [g_X9_goesThrough_now, g_X9_goesThrough_aside, g_X9_goesThrough_pile, g_X9_goesThrough_came, g_X9_goesThrough_pileL, g_X9_goesThrough_place, g_X9_goesThrough_nargs]; rw [← hF_18]; simp only [r_X9_goesThrough_18, if_pos c_20]))
      · skip
        refine z_aload_n (pc := 23) C 0 dX9_goesThrough_23 rfl ?_
        refine z_iload_n (pc := 24) C 3 dX9_goesThrough_24 rfl ?_
        refine z_callV (pc := 25) C (c_X9_reads (by exact hI_18.1)) [0, 1, 2, 3, 4, 5, 6, 7, 8] z00 mV_X9_reads q_1126 dX9_goesThrough_25 rfl rfl rfl 0 rfl rfl rfl rfl (Nat.le_of_ble_eq_true rfl) (by decide) (pI.go (ws' := wMd G da dn dp dr ds dl dc dt dg _ past states refused _ _ _ _ text textL _ _) rfl ?_)
        refine z_istore (pc := 28) [(5, _), (0, _), (1, _), (2, _), (3, _), (4, _)] C dX9_goesThrough_28 (by decide) rfl ?_
        refine z_iload (pc := 30) C 0 dX9_goesThrough_30 rfl ?_
        refine z_iconst (pc := 32) (v := (-1)) C dX9_goesThrough_32 (by decide) ?_
        refine z_icmp_ne (pc := 33) 38 C dX9_goesThrough_33 (by decide) (fun c_33 => ?_) (fun c_33 => ?_)
        · skip
          refine z_iload (pc := 38) C 0 dX9_goesThrough_38 rfl ?_
          refine z_bipush (pc := 40) (v := 107) C dX9_goesThrough_40 (by decide) ?_
          have K_63 : Z X G 6 0 0 (wMd G da dn dp dr ds dl dc dt dg z_18.2.2.2.1 past states refused z_18.2.2.2.2.1 z_18.2.2.2.2.2.1 z_18.2.2.2.2.2.2.1 z_18.2.2.2.2.2.2.2.1 text textL (g_X9_reads_place text textL z_18.2.2.2.2.2.2.2.2.1 z_18.2.2.2.2.2.2.2.2.2 z_18.1) (g_X9_reads_nargs text textL z_18.2.2.2.2.2.2.2.2.1 z_18.2.2.2.2.2.2.2.2.2 z_18.1)) 63 [(0, .ref da), (1, .int areDone), (2, .int z_18.2.1), (3, .int z_18.1), (4, .int z_18.2.2.1), (5, .int (f_X9_reads text textL z_18.2.2.2.2.2.2.2.2.1 z_18.2.2.2.2.2.2.2.2.2 z_18.1))] [.int (if (f_X9_reads text textL z_18.2.2.2.2.2.2.2.2.1 z_18.2.2.2.2.2.2.2.2.2 z_18.1) = 107 then 0 else (if (f_X9_reads text textL z_18.2.2.2.2.2.2.2.2.1 z_18.2.2.2.2.2.2.2.2.2 z_18.1) = 111 then (z_18.1 + 1) else z_18.1 : Int32) : Int32)] := by
            refine z_istore_n (pc := 63) [(3, _), (0, _), (1, _), (2, _), (4, _), (5, _)] C dX9_goesThrough_63 rfl (by decide) rfl ?_
            refine z_iload_n (pc := 64) C 3 dX9_goesThrough_64 rfl ?_
            refine z_iload_n (pc := 65) C 2 dX9_goesThrough_65 rfl ?_
            have K_79 : Z X G 6 0 0 (wMd G da dn dp dr ds dl dc dt dg (if areDone = 0 then z_18.2.2.2.1 else (g_X9_doesOne_now z_18.2.2.2.1 z_18.2.2.2.2.1 z_18.2.2.2.2.2.1 z_18.2.2.2.2.2.2.1 (g_X9_reads_nargs text textL z_18.2.2.2.2.2.2.2.2.1 z_18.2.2.2.2.2.2.2.2.2 z_18.1) (f_X9_reads text textL z_18.2.2.2.2.2.2.2.2.1 z_18.2.2.2.2.2.2.2.2.2 z_18.1)) : Nat → Int32) past states refused (if areDone = 0 then z_18.2.2.2.2.1 else (g_X9_doesOne_aside z_18.2.2.2.1 z_18.2.2.2.2.1 (f_X9_reads text textL z_18.2.2.2.2.2.2.2.2.1 z_18.2.2.2.2.2.2.2.2.2 z_18.1)) : Nat → Int32) (if areDone = 0 then z_18.2.2.2.2.2.1 else (g_X9_doesOne_pile z_18.2.2.2.1 z_18.2.2.2.2.2.1 z_18.2.2.2.2.2.2.1 (g_X9_reads_nargs text textL z_18.2.2.2.2.2.2.2.2.1 z_18.2.2.2.2.2.2.2.2.2 z_18.1) (f_X9_reads text textL z_18.2.2.2.2.2.2.2.2.1 z_18.2.2.2.2.2.2.2.2.2 z_18.1)) : Nat → Int32) (if areDone = 0 then z_18.2.2.2.2.2.2.1 else (g_X9_doesOne_came z_18.2.2.2.1 z_18.2.2.2.2.2.1 z_18.2.2.2.2.2.2.1 (g_X9_reads_nargs text textL z_18.2.2.2.2.2.2.2.2.1 z_18.2.2.2.2.2.2.2.2.2 z_18.1) (f_X9_reads text textL z_18.2.2.2.2.2.2.2.2.1 z_18.2.2.2.2.2.2.2.2.2 z_18.1)) : Nat → Int32) (if areDone = 0 then z_18.2.2.2.2.2.2.2.1 else (g_X9_doesOne_pileL z_18.2.2.2.1 z_18.2.2.2.2.2.1 z_18.2.2.2.2.2.2.1 z_18.2.2.2.2.2.2.2.1 (g_X9_reads_nargs text textL z_18.2.2.2.2.2.2.2.2.1 z_18.2.2.2.2.2.2.2.2.2 z_18.1) (f_X9_reads text textL z_18.2.2.2.2.2.2.2.2.1 z_18.2.2.2.2.2.2.2.2.2 z_18.1)) : Int32) text textL (g_X9_reads_place text textL z_18.2.2.2.2.2.2.2.2.1 z_18.2.2.2.2.2.2.2.2.2 z_18.1) (g_X9_reads_nargs text textL z_18.2.2.2.2.2.2.2.2.1 z_18.2.2.2.2.2.2.2.2.2 z_18.1)) 79 [(0, .ref da), (1, .int areDone), (2, .int z_18.2.1), (3, .int (if (f_X9_reads text textL z_18.2.2.2.2.2.2.2.2.1 z_18.2.2.2.2.2.2.2.2.2 z_18.1) = 107 then 0 else (if (f_X9_reads text textL z_18.2.2.2.2.2.2.2.2.1 z_18.2.2.2.2.2.2.2.2.2 z_18.1) = 111 then (z_18.1 + 1) else z_18.1 : Int32) : Int32)), (4, .int z_18.2.2.1), (5, .int (f_X9_reads text textL z_18.2.2.2.2.2.2.2.2.1 z_18.2.2.2.2.2.2.2.2.2 z_18.1))] [.int (if areDone = 0 then 0 else (f_X9_doesOne z_18.2.2.2.1 z_18.2.2.2.2.1 z_18.2.2.2.2.2.1 z_18.2.2.2.2.2.2.1 (g_X9_reads_nargs text textL z_18.2.2.2.2.2.2.2.2.1 z_18.2.2.2.2.2.2.2.2.2 z_18.1) (f_X9_reads text textL z_18.2.2.2.2.2.2.2.2.1 z_18.2.2.2.2.2.2.2.2.2 z_18.1)) : Int32), .int z_18.2.1] := by
              refine z_iadd (pc := 79) C dX9_goesThrough_79 ?_
              refine z_istore_n (pc := 80) [(2, _), (0, _), (1, _), (3, _), (4, _), (5, _)] C dX9_goesThrough_80 rfl (by decide) rfl ?_
              refine z_aload_n (pc := 81) C 1 dX9_goesThrough_81 rfl ?_
              refine z_callV (pc := 82) C (c_X9_skip (by exact (gI_p hI_18 c_33))) [0, 1, 2, 3, 4, 5, 6, 7, 8] z00 mV_X9_skip q_1130 dX9_goesThrough_82 rfl rfl rfl 0 rfl rfl rfl rfl (Nat.le_of_ble_eq_true rfl) (by decide) (pV.go (ws' := wMd G da dn dp dr ds dl dc dt dg _ past states refused _ _ _ _ text textL _ _) rfl ?_)
              refine z_aload_n (pc := 85) C 1 dX9_goesThrough_85 rfl ?_
              refine z_get (pc := 86) C 0 10 dX9_goesThrough_86 rfl rfl i_X9 (by decide) q_839 rfl ?_
              refine z_aload_n (pc := 89) C 1 dX9_goesThrough_89 rfl ?_
              refine z_get (pc := 90) C 0 9 dX9_goesThrough_90 rfl rfl i_X9 (by decide) q_838 rfl ?_
              have K_101 : Z X G 6 0 0 (wMd G da dn dp dr ds dl dc dt dg (if areDone = 0 then z_18.2.2.2.1 else (g_X9_doesOne_now z_18.2.2.2.1 z_18.2.2.2.2.1 z_18.2.2.2.2.2.1 z_18.2.2.2.2.2.2.1 (g_X9_reads_nargs text textL z_18.2.2.2.2.2.2.2.2.1 z_18.2.2.2.2.2.2.2.2.2 z_18.1) (f_X9_reads text textL z_18.2.2.2.2.2.2.2.2.1 z_18.2.2.2.2.2.2.2.2.2 z_18.1)) : Nat → Int32) past states refused (if areDone = 0 then z_18.2.2.2.2.1 else (g_X9_doesOne_aside z_18.2.2.2.1 z_18.2.2.2.2.1 (f_X9_reads text textL z_18.2.2.2.2.2.2.2.2.1 z_18.2.2.2.2.2.2.2.2.2 z_18.1)) : Nat → Int32) (if areDone = 0 then z_18.2.2.2.2.2.1 else (g_X9_doesOne_pile z_18.2.2.2.1 z_18.2.2.2.2.2.1 z_18.2.2.2.2.2.2.1 (g_X9_reads_nargs text textL z_18.2.2.2.2.2.2.2.2.1 z_18.2.2.2.2.2.2.2.2.2 z_18.1) (f_X9_reads text textL z_18.2.2.2.2.2.2.2.2.1 z_18.2.2.2.2.2.2.2.2.2 z_18.1)) : Nat → Int32) (if areDone = 0 then z_18.2.2.2.2.2.2.1 else (g_X9_doesOne_came z_18.2.2.2.1 z_18.2.2.2.2.2.1 z_18.2.2.2.2.2.2.1 (g_X9_reads_nargs text textL z_18.2.2.2.2.2.2.2.2.1 z_18.2.2.2.2.2.2.2.2.2 z_18.1) (f_X9_reads text textL z_18.2.2.2.2.2.2.2.2.1 z_18.2.2.2.2.2.2.2.2.2 z_18.1)) : Nat → Int32) (if areDone = 0 then z_18.2.2.2.2.2.2.2.1 else (g_X9_doesOne_pileL z_18.2.2.2.1 z_18.2.2.2.2.2.1 z_18.2.2.2.2.2.2.1 z_18.2.2.2.2.2.2.2.1 (g_X9_reads_nargs text textL z_18.2.2.2.2.2.2.2.2.1 z_18.2.2.2.2.2.2.2.2.2 z_18.1) (f_X9_reads text textL z_18.2.2.2.2.2.2.2.2.1 z_18.2.2.2.2.2.2.2.2.2 z_18.1)) : Int32) text textL (g_X9_skip_place text textL (g_X9_reads_place text textL z_18.2.2.2.2.2.2.2.2.1 z_18.2.2.2.2.2.2.2.2.2 z_18.1)) (g_X9_reads_nargs text textL z_18.2.2.2.2.2.2.2.2.1 z_18.2.2.2.2.2.2.2.2.2 z_18.1)) 101 [(0, .ref da), (1, .int areDone), (2, .int (z_18.2.1 + (if areDone = 0 then 0 else (f_X9_doesOne z_18.2.2.2.1 z_18.2.2.2.2.1 z_18.2.2.2.2.2.1 z_18.2.2.2.2.2.2.1 (g_X9_reads_nargs text textL z_18.2.2.2.2.2.2.2.2.1 z_18.2.2.2.2.2.2.2.2.2 z_18.1) (f_X9_reads text textL z_18.2.2.2.2.2.2.2.2.1 z_18.2.2.2.2.2.2.2.2.2 z_18.1)) : Int32))), (3, .int (if (f_X9_reads text textL z_18.2.2.2.2.2.2.2.2.1 z_18.2.2.2.2.2.2.2.2.2 z_18.1) = 107 then 0 else (if (f_X9_reads text textL z_18.2.2.2.2.2.2.2.2.1 z_18.2.2.2.2.2.2.2.2.2 z_18.1) = 111 then (z_18.1 + 1) else z_18.1 : Int32) : Int32)), (4, .int z_18.2.2.1), (5, .int (f_X9_reads text textL z_18.2.2.2.2.2.2.2.2.1 z_18.2.2.2.2.2.2.2.2.2 z_18.1))] [.int (if textL ≤ (g_X9_skip_place text textL (g_X9_reads_place text textL z_18.2.2.2.2.2.2.2.2.1 z_18.2.2.2.2.2.2.2.2.2 z_18.1)) then 0 else 1 : Int32)] := by
                refine z_istore (pc := 101) [(4, _), (0, _), (1, _), (2, _), (3, _), (5, _)] C dX9_goesThrough_101 (by decide) rfl ?_
                refine z_goto (pc := 103) 18 C dX9_goesThrough_103 (by decide) ?_
                refine z_lv (lv' := [(0, _), (1, _), (2, _), (3, _), (4, _)]) [1, 2, 3, 4, 0] rfl ?_
                have h9 := ih_18 (i_18 + 1) ((if (f_X9_reads text textL z_18.2.2.2.2.2.2.2.2.1 z_18.2.2.2.2.2.2.2.2.2 z_18.1) = 107 then 0 else (if (f_X9_reads text textL z_18.2.2.2.2.2.2.2.2.1 z_18.2.2.2.2.2.2.2.2.2 z_18.1) = 111 then (z_18.1 + 1) else z_18.1 : Int32) : Int32), z_18.2.1 + (if areDone = 0 then 0 else (f_X9_doesOne z_18.2.2.2.1 z_18.2.2.2.2.1 z_18.2.2.2.2.2.1 z_18.2.2.2.2.2.2.1 (g_X9_reads_nargs text textL z_18.2.2.2.2.2.2.2.2.1 z_18.2.2.2.2.2.2.2.2.2 z_18.1) (f_X9_reads text textL z_18.2.2.2.2.2.2.2.2.1 z_18.2.2.2.2.2.2.2.2.2 z_18.1)) : Int32), (if textL ≤ (g_X9_skip_place text textL (g_X9_reads_place text textL z_18.2.2.2.2.2.2.2.2.1 z_18.2.2.2.2.2.2.2.2.2 z_18.1)) then 0 else 1 : Int32), (if areDone = 0 then z_18.2.2.2.1 else (g_X9_doesOne_now z_18.2.2.2.1 z_18.2.2.2.2.1 z_18.2.2.2.2.2.1 z_18.2.2.2.2.2.2.1 (g_X9_reads_nargs text textL z_18.2.2.2.2.2.2.2.2.1 z_18.2.2.2.2.2.2.2.2.2 z_18.1) (f_X9_reads text textL z_18.2.2.2.2.2.2.2.2.1 z_18.2.2.2.2.2.2.2.2.2 z_18.1)) : Nat → Int32), (if areDone = 0 then z_18.2.2.2.2.1 else (g_X9_doesOne_aside z_18.2.2.2.1 z_18.2.2.2.2.1 (f_X9_reads text textL z_18.2.2.2.2.2.2.2.2.1 z_18.2.2.2.2.2.2.2.2.2 z_18.1)) : Nat → Int32), (if areDone = 0 then z_18.2.2.2.2.2.1 else (g_X9_doesOne_pile z_18.2.2.2.1 z_18.2.2.2.2.2.1 z_18.2.2.2.2.2.2.1 (g_X9_reads_nargs text textL z_18.2.2.2.2.2.2.2.2.1 z_18.2.2.2.2.2.2.2.2.2 z_18.1) (f_X9_reads text textL z_18.2.2.2.2.2.2.2.2.1 z_18.2.2.2.2.2.2.2.2.2 z_18.1)) : Nat → Int32), (if areDone = 0 then z_18.2.2.2.2.2.2.1 else (g_X9_doesOne_came z_18.2.2.2.1 z_18.2.2.2.2.2.1 z_18.2.2.2.2.2.2.1 (g_X9_reads_nargs text textL z_18.2.2.2.2.2.2.2.2.1 z_18.2.2.2.2.2.2.2.2.2 z_18.1) (f_X9_reads text textL z_18.2.2.2.2.2.2.2.2.1 z_18.2.2.2.2.2.2.2.2.2 z_18.1)) : Nat → Int32), (if areDone = 0 then z_18.2.2.2.2.2.2.2.1 else (g_X9_doesOne_pileL z_18.2.2.2.1 z_18.2.2.2.2.2.1 z_18.2.2.2.2.2.2.1 z_18.2.2.2.2.2.2.2.1 (g_X9_reads_nargs text textL z_18.2.2.2.2.2.2.2.2.1 z_18.2.2.2.2.2.2.2.2.2 z_18.1) (f_X9_reads text textL z_18.2.2.2.2.2.2.2.2.1 z_18.2.2.2.2.2.2.2.2.2 z_18.1)) : Int32), g_X9_skip_place text textL (g_X9_reads_place text textL z_18.2.2.2.2.2.2.2.2.1 z_18.2.2.2.2.2.2.2.2.2 z_18.1), g_X9_reads_nargs text textL z_18.2.2.2.2.2.2.2.2.1 z_18.2.2.2.2.2.2.2.2.2 z_18.1) (by omega) (by dsimp only; exact gI_step hI_18 c_33) (by rw [← hF_18]; simp only [r_X9_goesThrough_18, if_neg c_20, if_neg c_33])
                dsimp only at h9
                exact h9
              refine z_icmp_ge (pc := 93) 100 C dX9_goesThrough_93 (by decide) (fun c_93 => ?_) (fun c_93 => ?_)
              · skip
                refine z_iconst (pc := 100) (v := 0) C dX9_goesThrough_100 (by decide) ?_
                refine z_lv (lv' := [(0, _), (1, _), (2, _), (3, _), (4, _), (5, _)]) [1, 2, 0, 3, 4, 5] rfl ?_
                exact z_eq rfl rfl (by simp only [if_pos c_93]) K_101
              · skip
                refine z_iconst (pc := 96) (v := 1) C dX9_goesThrough_96 (by decide) ?_
                refine z_goto (pc := 97) 101 C dX9_goesThrough_97 (by decide) ?_
                refine z_lv (lv' := [(0, _), (1, _), (2, _), (3, _), (4, _), (5, _)]) [1, 2, 0, 3, 4, 5] rfl ?_
                exact z_eq rfl rfl (by simp only [if_neg c_93]) K_101
            refine z_if_eq (pc := 66) 78 C dX9_goesThrough_66 (by decide) (fun c_66 => ?_) (fun c_66 => ?_)
            · skip
              refine z_iconst (pc := 78) (v := 0) C dX9_goesThrough_78 (by decide) ?_
              refine z_lv (lv' := [(0, _), (1, _), (2, _), (3, _), (4, _), (5, _)]) [1, 2, 3, 0, 4, 5] rfl ?_
              exact z_eq (by simp only [if_pos c_66]) rfl (by simp only [if_pos c_66]) K_79
            · skip
              refine z_aload_n (pc := 69) C 1 dX9_goesThrough_69 rfl ?_
              refine z_iload (pc := 70) C 5 dX9_goesThrough_70 rfl ?_
              refine z_callV (pc := 72) C (c_X9_doesOne (by exact hI_18.2.1) (by exact (gI_d hI_18 c_33 c_66))) [0, 1, 2, 3, 4, 5, 6, 7, 8] z00 mV_X9_doesOne q_1155 dX9_goesThrough_72 rfl rfl rfl 0 rfl rfl rfl rfl (Nat.le_of_ble_eq_true rfl) (by decide) (pI.go (ws' := wMd G da dn dp dr ds dl dc dt dg _ past states refused _ _ _ _ text textL _ _) rfl ?_)
              refine z_goto (pc := 75) 79 C dX9_goesThrough_75 (by decide) ?_
              refine z_lv (lv' := [(0, _), (1, _), (2, _), (3, _), (4, _), (5, _)]) [1, 2, 3, 0, 4, 5] rfl ?_
              exact z_eq (by simp only [if_neg c_66]) rfl (by simp only [if_neg c_66]) K_79
          refine z_icmp_ne (pc := 42) 49 C dX9_goesThrough_42 (by decide) (fun c_42 => ?_) (fun c_42 => ?_)
          · skip
            refine z_iload (pc := 49) C 0 dX9_goesThrough_49 rfl ?_
            refine z_bipush (pc := 51) (v := 111) C dX9_goesThrough_51 (by decide) ?_
            have K_63 : Z X G 6 0 0 (wMd G da dn dp dr ds dl dc dt dg z_18.2.2.2.1 past states refused z_18.2.2.2.2.1 z_18.2.2.2.2.2.1 z_18.2.2.2.2.2.2.1 z_18.2.2.2.2.2.2.2.1 text textL (g_X9_reads_place text textL z_18.2.2.2.2.2.2.2.2.1 z_18.2.2.2.2.2.2.2.2.2 z_18.1) (g_X9_reads_nargs text textL z_18.2.2.2.2.2.2.2.2.1 z_18.2.2.2.2.2.2.2.2.2 z_18.1)) 63 [(0, .ref da), (1, .int areDone), (2, .int z_18.2.1), (3, .int z_18.1), (4, .int z_18.2.2.1), (5, .int (f_X9_reads text textL z_18.2.2.2.2.2.2.2.2.1 z_18.2.2.2.2.2.2.2.2.2 z_18.1))] [.int (if (f_X9_reads text textL z_18.2.2.2.2.2.2.2.2.1 z_18.2.2.2.2.2.2.2.2.2 z_18.1) = 111 then (z_18.1 + 1) else z_18.1 : Int32)] := by
              refine z_lv (lv' := [(0, _), (1, _), (2, _), (3, _), (4, _), (5, _)]) [0, 1, 2, 3, 4, 5] rfl ?_
              exact z_eq rfl rfl (by simp only [if_neg c_42]) K_63
            refine z_icmp_ne (pc := 53) 62 C dX9_goesThrough_53 (by decide) (fun c_53 => ?_) (fun c_53 => ?_)
            · skip
              refine z_iload_n (pc := 62) C 4 dX9_goesThrough_62 rfl ?_
              refine z_lv (lv' := [(0, _), (1, _), (2, _), (3, _), (4, _), (5, _)]) [1, 2, 3, 4, 5, 0] rfl ?_
              exact z_eq rfl rfl (by simp only [if_neg c_53]) K_63
            · skip
              refine z_iload_n (pc := 56) C 4 dX9_goesThrough_56 rfl ?_
              refine z_iconst (pc := 57) (v := 1) C dX9_goesThrough_57 (by decide) ?_
              refine z_iadd (pc := 58) C dX9_goesThrough_58 ?_
              refine z_goto (pc := 59) 63 C dX9_goesThrough_59 (by decide) ?_
              refine z_lv (lv' := [(0, _), (1, _), (2, _), (3, _), (4, _), (5, _)]) [1, 2, 3, 4, 5, 0] rfl ?_
              exact z_eq rfl rfl (by simp only [if_pos c_53]) K_63
          · skip
            refine z_iconst (pc := 45) (v := 0) C dX9_goesThrough_45 (by decide) ?_
            refine z_goto (pc := 46) 63 C dX9_goesThrough_46 (by decide) ?_
            refine z_lv (lv' := [(0, _), (1, _), (2, _), (3, _), (4, _), (5, _)]) [1, 2, 3, 4, 5, 0] rfl ?_
            exact z_eq rfl rfl (by simp only [if_pos c_42]) K_63
        · skip
          refine z_iconst (pc := 36) (v := (-1)) C dX9_goesThrough_36 (by decide) ?_
          exact z_iret (pc := 37) C E dX9_goesThrough_37 (pI.mk (by simp only [f_X9_goesThrough]; rw [← hF_18]; simp only [r_X9_goesThrough_18, if_neg c_20, if_pos c_33]) (by simp only [g_X9_goesThrough_now, g_X9_goesThrough_aside, g_X9_goesThrough_pile, g_X9_goesThrough_came, g_X9_goesThrough_pileL, g_X9_goesThrough_place, g_X9_goesThrough_nargs]; rw [← hF_18]; simp only [r_X9_goesThrough_18, if_neg c_20, if_pos c_33]))
  have h9 := L_18 120 0 (now (96 : Int32).toNatClampNeg, 0, 1, now, aside, pile, came, pileL, 0, nargs) (by omega) (by dsimp only; exact gI_0 hl hm) rfl
  dsimp only at h9
  exact h9

theorem gt_now0 {text : Nat → Int32} {len : Int32} : ∀ (n i : Nat) (z : Int32 × Int32 × Int32 × (Nat → Int32) × (Nat → Int32) × (Nat → Int32) × (Nat → Int32) × Int32 × Int32 × (Nat → Int32)), (r_X9_goesThrough_18 text len 0 n i z).2.1 = z.2.2.2.1
  | 0, i, z => rfl
  | n + 1, i, z => by
    unfold r_X9_goesThrough_18
    split
    · rfl
    · split
      · rfl
      · refine (gt_now0 n (i + 1) _).trans ?_
        dsimp only
        exact if_pos rfl
theorem gt_now {text now aside pile came nargs : Nat → Int32} {len pileL : Int32} : g_X9_goesThrough_now now aside pile came pileL text len nargs 0 = now := gt_now0 120 0 _
theorem gt_ok {text now aside pile came nargs : Nat → Int32} {len pileL : Int32} (h : mOk now) : mOk (g_X9_goesThrough_now now aside pile came pileL text len nargs 0) := by rw [gt_now]; exact h

def f_X9_does (now : Nat → Int32) (aside : Nat → Int32) (pile : Nat → Int32) (came : Nat → Int32) (pileL : Int32) (text : Nat → Int32) (textL : Int32) (nargs : Nat → Int32) : Int32 := if (f_X9_goesThrough now aside pile came pileL text textL nargs 0) = (-1) then (-10) - (g_X9_goesThrough_place now aside pile came pileL text textL nargs 0) else f_X9_goesThrough (g_X9_goesThrough_now now aside pile came pileL text textL nargs 0) (g_X9_goesThrough_aside now aside pile came pileL text textL nargs 0) (g_X9_goesThrough_pile now aside pile came pileL text textL nargs 0) (g_X9_goesThrough_came now aside pile came pileL text textL nargs 0) (g_X9_goesThrough_pileL now aside pile came pileL text textL nargs 0) text textL (g_X9_goesThrough_nargs now aside pile came pileL text textL nargs 0) 1
def g_X9_does_now (now : Nat → Int32) (aside : Nat → Int32) (pile : Nat → Int32) (came : Nat → Int32) (pileL : Int32) (text : Nat → Int32) (textL : Int32) (nargs : Nat → Int32) : Nat → Int32 := if (f_X9_goesThrough now aside pile came pileL text textL nargs 0) = (-1) then g_X9_goesThrough_now now aside pile came pileL text textL nargs 0 else g_X9_goesThrough_now (g_X9_goesThrough_now now aside pile came pileL text textL nargs 0) (g_X9_goesThrough_aside now aside pile came pileL text textL nargs 0) (g_X9_goesThrough_pile now aside pile came pileL text textL nargs 0) (g_X9_goesThrough_came now aside pile came pileL text textL nargs 0) (g_X9_goesThrough_pileL now aside pile came pileL text textL nargs 0) text textL (g_X9_goesThrough_nargs now aside pile came pileL text textL nargs 0) 1
def g_X9_does_past (now : Nat → Int32) (past : Nat → Int32) (states : Int32) (aside : Nat → Int32) (pile : Nat → Int32) (came : Nat → Int32) (pileL : Int32) (text : Nat → Int32) (textL : Int32) (nargs : Nat → Int32) : Nat → Int32 := if (f_X9_goesThrough now aside pile came pileL text textL nargs 0) = (-1) then past else g_X9_keep_past (g_X9_goesThrough_now now aside pile came pileL text textL nargs 0) past states
def g_X9_does_states (now : Nat → Int32) (states : Int32) (aside : Nat → Int32) (pile : Nat → Int32) (came : Nat → Int32) (pileL : Int32) (text : Nat → Int32) (textL : Int32) (nargs : Nat → Int32) : Int32 := if (f_X9_goesThrough now aside pile came pileL text textL nargs 0) = (-1) then states else g_X9_keep_states states
def g_X9_does_aside (now : Nat → Int32) (aside : Nat → Int32) (pile : Nat → Int32) (came : Nat → Int32) (pileL : Int32) (text : Nat → Int32) (textL : Int32) (nargs : Nat → Int32) : Nat → Int32 := if (f_X9_goesThrough now aside pile came pileL text textL nargs 0) = (-1) then g_X9_goesThrough_aside now aside pile came pileL text textL nargs 0 else g_X9_goesThrough_aside (g_X9_goesThrough_now now aside pile came pileL text textL nargs 0) (g_X9_goesThrough_aside now aside pile came pileL text textL nargs 0) (g_X9_goesThrough_pile now aside pile came pileL text textL nargs 0) (g_X9_goesThrough_came now aside pile came pileL text textL nargs 0) (g_X9_goesThrough_pileL now aside pile came pileL text textL nargs 0) text textL (g_X9_goesThrough_nargs now aside pile came pileL text textL nargs 0) 1
def g_X9_does_pile (now : Nat → Int32) (aside : Nat → Int32) (pile : Nat → Int32) (came : Nat → Int32) (pileL : Int32) (text : Nat → Int32) (textL : Int32) (nargs : Nat → Int32) : Nat → Int32 := if (f_X9_goesThrough now aside pile came pileL text textL nargs 0) = (-1) then g_X9_goesThrough_pile now aside pile came pileL text textL nargs 0 else g_X9_goesThrough_pile (g_X9_goesThrough_now now aside pile came pileL text textL nargs 0) (g_X9_goesThrough_aside now aside pile came pileL text textL nargs 0) (g_X9_goesThrough_pile now aside pile came pileL text textL nargs 0) (g_X9_goesThrough_came now aside pile came pileL text textL nargs 0) (g_X9_goesThrough_pileL now aside pile came pileL text textL nargs 0) text textL (g_X9_goesThrough_nargs now aside pile came pileL text textL nargs 0) 1
def g_X9_does_came (now : Nat → Int32) (aside : Nat → Int32) (pile : Nat → Int32) (came : Nat → Int32) (pileL : Int32) (text : Nat → Int32) (textL : Int32) (nargs : Nat → Int32) : Nat → Int32 := if (f_X9_goesThrough now aside pile came pileL text textL nargs 0) = (-1) then g_X9_goesThrough_came now aside pile came pileL text textL nargs 0 else g_X9_goesThrough_came (g_X9_goesThrough_now now aside pile came pileL text textL nargs 0) (g_X9_goesThrough_aside now aside pile came pileL text textL nargs 0) (g_X9_goesThrough_pile now aside pile came pileL text textL nargs 0) (g_X9_goesThrough_came now aside pile came pileL text textL nargs 0) (g_X9_goesThrough_pileL now aside pile came pileL text textL nargs 0) text textL (g_X9_goesThrough_nargs now aside pile came pileL text textL nargs 0) 1
def g_X9_does_pileL (now : Nat → Int32) (aside : Nat → Int32) (pile : Nat → Int32) (came : Nat → Int32) (pileL : Int32) (text : Nat → Int32) (textL : Int32) (nargs : Nat → Int32) : Int32 := if (f_X9_goesThrough now aside pile came pileL text textL nargs 0) = (-1) then g_X9_goesThrough_pileL now aside pile came pileL text textL nargs 0 else g_X9_goesThrough_pileL (g_X9_goesThrough_now now aside pile came pileL text textL nargs 0) (g_X9_goesThrough_aside now aside pile came pileL text textL nargs 0) (g_X9_goesThrough_pile now aside pile came pileL text textL nargs 0) (g_X9_goesThrough_came now aside pile came pileL text textL nargs 0) (g_X9_goesThrough_pileL now aside pile came pileL text textL nargs 0) text textL (g_X9_goesThrough_nargs now aside pile came pileL text textL nargs 0) 1
def g_X9_does_place (now : Nat → Int32) (aside : Nat → Int32) (pile : Nat → Int32) (came : Nat → Int32) (pileL : Int32) (text : Nat → Int32) (textL : Int32) (nargs : Nat → Int32) : Int32 := if (f_X9_goesThrough now aside pile came pileL text textL nargs 0) = (-1) then g_X9_goesThrough_place now aside pile came pileL text textL nargs 0 else g_X9_goesThrough_place (g_X9_goesThrough_now now aside pile came pileL text textL nargs 0) (g_X9_goesThrough_aside now aside pile came pileL text textL nargs 0) (g_X9_goesThrough_pile now aside pile came pileL text textL nargs 0) (g_X9_goesThrough_came now aside pile came pileL text textL nargs 0) (g_X9_goesThrough_pileL now aside pile came pileL text textL nargs 0) text textL (g_X9_goesThrough_nargs now aside pile came pileL text textL nargs 0) 1
def g_X9_does_nargs (now : Nat → Int32) (aside : Nat → Int32) (pile : Nat → Int32) (came : Nat → Int32) (pileL : Int32) (text : Nat → Int32) (textL : Int32) (nargs : Nat → Int32) : Nat → Int32 := if (f_X9_goesThrough now aside pile came pileL text textL nargs 0) = (-1) then g_X9_goesThrough_nargs now aside pile came pileL text textL nargs 0 else g_X9_goesThrough_nargs (g_X9_goesThrough_now now aside pile came pileL text textL nargs 0) (g_X9_goesThrough_aside now aside pile came pileL text textL nargs 0) (g_X9_goesThrough_pile now aside pile came pileL text textL nargs 0) (g_X9_goesThrough_came now aside pile came pileL text textL nargs 0) (g_X9_goesThrough_pileL now aside pile came pileL text textL nargs 0) text textL (g_X9_goesThrough_nargs now aside pile came pileL text textL nargs 0) 1
set_option maxRecDepth 100000 in
theorem c_X9_does {l : Launch} {G : zG} {da dn dp dr ds dl dc dt dg : Nat} {now : Nat → Int32} {past : Nat → Int32} {states : Int32} {refused : Nat → Int32} {aside : Nat → Int32} {pile : Nat → Int32} {came : Nat → Int32} {pileL : Int32} {text : Nat → Int32} {textL : Int32} {place : Int32} {nargs : Nat → Int32} (hm : mOk now) (hq : qOk states) (hl : tL textL) : Ct l G yX9_does cX9_does 1 (Option.some FieldType.int) 8 201 [.ref da] (wMd G da dn dp dr ds dl dc dt dg now past states refused aside pile came pileL text textL place nargs) (pI (f_X9_does now aside pile came pileL text textL nargs) (wMd G da dn dp dr ds dl dc dt dg (g_X9_does_now now aside pile came pileL text textL nargs) (g_X9_does_past now past states aside pile came pileL text textL nargs) (g_X9_does_states now states aside pile came pileL text textL nargs) refused (g_X9_does_aside now aside pile came pileL text textL nargs) (g_X9_does_pile now aside pile came pileL text textL nargs) (g_X9_does_came now aside pile came pileL text textL nargs) (g_X9_does_pileL now aside pile came pileL text textL nargs) text textL (g_X9_does_place now aside pile came pileL text textL nargs) (g_X9_does_nargs now aside pile came pileL text textL nargs))) := by
  refine Ct.of (plainFor_of_name (by decide)) (Nat.le_of_ble_eq_true rfl) (pI.ad ad_Md) (fun X C E => ?_)
  show Z X G 1 0 0 _ 0 [(0, .ref da)] []
  refine z_aload_n (pc := 0) C 0 dX9_does_0 rfl ?_
  refine z_iconst (pc := 1) (v := 0) C dX9_does_1 (by decide) ?_
  refine z_callV (pc := 2) C (c_X9_goesThrough (by exact hm) (by exact hl)) [0, 1, 2, 3, 4, 5, 6, 7, 8] z00 mV_X9_goesThrough q_1122 dX9_does_2 rfl rfl rfl 0 rfl rfl rfl rfl (Nat.le_of_ble_eq_true rfl) (by decide) (pI.go (ws' := wMd G da dn dp dr ds dl dc dt dg _ past states refused _ _ _ _ text textL _ _) rfl ?_)
  refine z_iconst (pc := 5) (v := (-1)) C dX9_does_5 (by decide) ?_
  refine z_icmp_ne (pc := 6) 17 C dX9_does_6 (by decide) (fun c_6 => ?_) (fun c_6 => ?_)
  · skip
    refine z_aload_n (pc := 17) C 0 dX9_does_17 rfl ?_
    refine z_callV (pc := 18) C (c_X9_keep (by exact hq)) [0, 1, 2, 3, 4, 5, 6, 7, 8] z00 mV_X9_keep q_887 dX9_does_18 rfl rfl rfl 0 rfl rfl rfl rfl (Nat.le_of_ble_eq_true rfl) (by decide) (pV.go (ws' := wMd G da dn dp dr ds dl dc dt dg _ _ _ refused _ _ _ _ text textL _ _) rfl ?_)
    refine z_aload_n (pc := 21) C 0 dX9_does_21 rfl ?_
    refine z_iconst (pc := 22) (v := 1) C dX9_does_22 (by decide) ?_
    refine z_callV (pc := 23) C (c_X9_goesThrough (by exact (gt_ok hm)) (by exact hl)) [0, 1, 2, 3, 4, 5, 6, 7, 8] z00 mV_X9_goesThrough q_1122 dX9_does_23 rfl rfl rfl 0 rfl rfl rfl rfl (Nat.le_of_ble_eq_true rfl) (by decide) (pI.go (ws' := wMd G da dn dp dr ds dl dc dt dg _ _ _ refused _ _ _ _ text textL _ _) rfl ?_)
    exact z_iret (pc := 26) C E dX9_does_26 (pI.mk (by simp only [f_X9_does, if_neg c_6]) (by simp only [g_X9_does_now, g_X9_does_past, g_X9_does_states, g_X9_does_aside, g_X9_does_pile, g_X9_does_came, g_X9_does_pileL, g_X9_does_place, g_X9_does_nargs, if_neg c_6]))
  · skip
    refine z_bipush (pc := 9) (v := (-10)) C dX9_does_9 (by decide) ?_
    refine z_aload_n (pc := 11) C 0 dX9_does_11 rfl ?_
    refine z_get (pc := 12) C 0 10 dX9_does_12 rfl rfl i_X9 (by decide) q_839 rfl ?_
    refine z_isub (pc := 15) C dX9_does_15 ?_
    exact z_iret (pc := 16) C E dX9_does_16 (pI.mk (by simp only [f_X9_does, if_pos c_6]) (by simp only [g_X9_does_now, g_X9_does_past, g_X9_does_states, g_X9_does_aside, g_X9_does_pile, g_X9_does_came, g_X9_does_pileL, g_X9_does_place, g_X9_does_nargs, if_pos c_6]))
