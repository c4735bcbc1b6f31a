def Cm (came : Nat → Int32) : Cel := fun x y => x < 32 ∧ y < 24 ∧ ¬ came (32 * y + x) = 0
/-- a dot like it, in the picture, and in an opening where that is asked -/
def Gs (now : Nat → Int32) (t like areOpen : Int32) : Cel := fun x y => x < 32 ∧ y < 24 ∧ f_X9_dotOf now t (nI x) (nI y) = like ∧ (areOpen = 0 ∨ ¬ f_X9_isOpen now (nI x) (nI y) = 0)
def SI (A C : Cel) (came0 pile came : Nat → Int32) (k i : Nat) (P : Nat → Nat → Nat → Nat → Prop) : Prop :=
  (∀ x y, Cm came0 x y → Cm came x y) ∧
  (∀ x y, Cm came x y → Cm came0 x y ∨ C x y) ∧
  (∀ x y x' y', C x y → Cm came x y → A x' y' → adj x y x' y' → Cm came x' y' ∨ (∃ j, j < k ∧ pile j = nI (32 * y + x)) ∨ P x y x' y') ∧
  (∀ j, j < k → ∃ X Y, X < 32 ∧ Y < 24 ∧ pile j = nI (32 * Y + X) ∧ C X Y ∧ Cm came X Y) ∧
  k + i + cn came0 768 = cn came 768
theorem SI.we {A C : Cel} {came0 pile came : Nat → Int32} {k i : Nat} {P P' : Nat → Nat → Nat → Nat → Prop} (h : SI A C came0 pile came k i P) (hp : ∀ x y x' y', A x' y' → adj x y x' y' → P x y x' y' → Cm came x' y' ∨ P' x y x' y') : SI A C came0 pile came k i P' := by
  obtain ⟨a, b, c, d, e⟩ := h
  refine ⟨a, b, fun x y x' y' q g g' o => ?_, d, e⟩
  rcases c x y x' y' q g g' o with w | w | w
  · exact Or.inl w
  · exact Or.inr (Or.inl w)
  · rcases hp x y x' y' g' o w with r | r
    · exact Or.inl r
    · exact Or.inr (Or.inr r)
theorem SI.pop {A C : Cel} {came0 pile came : Nat → Int32} {k i X Y : Nat} (h : SI A C came0 pile came (k + 1) i (fun _ _ _ _ => False)) (hX : X < 32) (hY : Y < 24) (hp : pile k = nI (32 * Y + X)) : SI A C came0 pile came k (i + 1) (fun x y _ _ => x = X ∧ y = Y) := by
  obtain ⟨a, b, c, d, e⟩ := h
  refine ⟨a, b, fun x y x' y' q g g' o => ?_, fun j hj => d j (by omega), by omega⟩
  rcases c x y x' y' q g g' o with w | ⟨j, hj, w⟩ | w
  · exact Or.inl w
  · by_cases z : j = k
    · subst z
      rw [hp] at w
      have gx := g.1
      have gy := g.2.1
      have := (nI_eq (by omega) (by omega)).mp w
      exact Or.inr (Or.inr ⟨by omega, by omega⟩)
    · exact Or.inr (Or.inl ⟨j, by omega, w⟩)
  · exact absurd w id
theorem ixc {X Y : Nat} (hX : X < 32) (hY : Y < 24) : 32 * nI Y + nI X = nI (32 * Y + X) := by
  rw [show (32 : Int32) = nI 32 from rfl, pk_mul, nI_add]
theorem comes_e {came : Nat → Int32} {X Y : Nat} (hX : X < 32) (hY : Y < 24) (x y : Nat) : Cm (g_X9_comes_came came (nI X) (nI Y)) x y ↔ Cm came x y ∨ (x = X ∧ y = Y) := by
  unfold Cm g_X9_comes_came
  rw [ixc hX hY, nI_clamp (by omega)]
  by_cases z : x < 32 ∧ y < 24
  · by_cases q : 32 * y + x = 32 * Y + X
    · have e1 : x = X := by omega
      have e2 : y = Y := by omega
      subst e1
      subst e2
      rw [pk_us]
      exact ⟨fun _ => Or.inr ⟨rfl, rfl⟩, fun _ => ⟨z.1, z.2, by decide⟩⟩
    · rw [pk_un q]
      constructor
      · exact fun g => Or.inl g
      · rintro (g | g)
        · exact g
        · omega
  · constructor
    · exact fun g => absurd ⟨g.1, g.2.1⟩ z
    · rintro (g | g)
      · exact absurd ⟨g.1, g.2.1⟩ z
      · omega
theorem SI.push {A C : Cel} {came0 pile came : Nat → Int32} {k i X Y : Nat} {P : Nat → Nat → Nat → Nat → Prop} (h : SI A C came0 pile came k i P) (hX : X < 32) (hY : Y < 24) (hc : came (32 * Y + X) = 0) (hC : C X Y) : SI A C came0 (g_X9_comes_pile pile (nI k) (nI X) (nI Y)) (g_X9_comes_came came (nI X) (nI Y)) (k + 1) i P := by
  obtain ⟨a, b, c, d, e⟩ := h
  have hk : k < 2 ^ 31 := by have := cn_le came 768; omega
  have ce := fun x y => comes_e (came := came) hX hY x y
  have hp : g_X9_comes_pile pile (nI k) (nI X) (nI Y) = upd pile k (nI (32 * Y + X)) := by
    unfold g_X9_comes_pile
    rw [ixc hX hY, nI_clamp hk]
  have hn : cn (g_X9_comes_came came (nI X) (nI Y)) 768 = cn came 768 + 1 := by
    unfold g_X9_comes_came
    rw [ixc hX hY, nI_clamp (by omega)]
    exact cn_in hc (by decide) 768 (by omega)
  rw [hp]
  refine ⟨fun x y g => (ce x y).mpr (Or.inl (a x y g)), fun x y g => ?_, fun x y x' y' q g g' o => ?_, fun j hj => ?_, by omega⟩
  · rcases (ce x y).mp g with w | ⟨w1, w2⟩
    · exact b x y w
    · rw [w1, w2]; exact Or.inr hC
  · rcases (ce x y).mp g with w | ⟨w1, w2⟩
    · rcases c x y x' y' q w g' o with u | ⟨j, hj, u⟩ | u
      · exact Or.inl ((ce x' y').mpr (Or.inl u))
      · exact Or.inr (Or.inl ⟨j, by omega, by rw [pk_un (by omega)]; exact u⟩)
      · exact Or.inr (Or.inr u)
    · exact Or.inr (Or.inl ⟨k, by omega, by rw [pk_us, w1, w2]⟩)
  · by_cases z : j = k
    · subst z
      exact ⟨X, Y, hX, hY, pk_us, hC, (ce X Y).mpr (Or.inr ⟨rfl, rfl⟩)⟩
    · obtain ⟨X', Y', w1, w2, w3, w4, w5⟩ := d j (by omega)
      exact ⟨X', Y', w1, w2, by rw [pk_un z]; exact w3, w4, (ce X' Y').mpr (Or.inl w5)⟩
def sd (now : Nat → Int32) (t like areOpen X Y : Int32) (z : (Nat → Int32) × (Nat → Int32) × Int32) : (Nat → Int32) × (Nat → Int32) × Int32 :=
  ((if (if (f_X9_isIn X Y) = 0 then 0 else if (z.2.1 ((32 * Y) + X).toNatClampNeg) = 0 then if (f_X9_dotOf now t X Y) = like then 1 else 0 else 0 : Int32) = 0 then z.1 else if areOpen = 0 then (g_X9_comes_pile z.1 z.2.2 X Y) else if (f_X9_isOpen now X Y) = 0 then z.1 else (g_X9_comes_pile z.1 z.2.2 X Y) : Nat → Int32),
   (if (if (f_X9_isIn X Y) = 0 then 0 else if (z.2.1 ((32 * Y) + X).toNatClampNeg) = 0 then if (f_X9_dotOf now t X Y) = like then 1 else 0 else 0 : Int32) = 0 then z.2.1 else if areOpen = 0 then (g_X9_comes_came z.2.1 X Y) else if (f_X9_isOpen now X Y) = 0 then z.2.1 else (g_X9_comes_came z.2.1 X Y) : Nat → Int32),
   (if (if (f_X9_isIn X Y) = 0 then 0 else if (z.2.1 ((32 * Y) + X).toNatClampNeg) = 0 then if (f_X9_dotOf now t X Y) = like then 1 else 0 else 0 : Int32) = 0 then z.2.2 else if areOpen = 0 then (g_X9_comes_pileL z.2.2) else if (f_X9_isOpen now X Y) = 0 then z.2.2 else (g_X9_comes_pileL z.2.2) : Int32))
theorem sd_b (now : Nat → Int32) (t x0 y0 areOpen : Int32) (w : Int32 × (Nat → Int32) × (Nat → Int32) × Int32) (i : Nat) (z : (Nat → Int32) × (Nat → Int32) × Int32) : b_X9_spreads_74 now t x0 y0 areOpen w i z = sd now t (f_X9_dotOf now t x0 y0) areOpen ((w.2.1 (w.2.2.2 - 1).toNatClampNeg - w.2.1 (w.2.2.2 - 1).toNatClampNeg / 32 * 32) + (if (nI i) = 0 then 1 else if (nI i) = 1 then (-1) else 0 : Int32)) ((w.2.1 (w.2.2.2 - 1).toNatClampNeg / 32) + (if (nI i) = 2 then 1 else if (nI i) = 3 then (-1) else 0 : Int32)) z := rfl
theorem side {now came0 : Nat → Int32} {t like areOpen X Y : Int32} {C : Cel} {k i : Nat} {P : Nat → Nat → Nat → Nat → Prop} {z : (Nat → Int32) × (Nat → Int32) × Int32} (h : SI (fun x y => Gs now t like areOpen x y ∧ ¬ Cm came0 x y) C came0 z.1 z.2.1 k i P) (hk : z.2.2 = nI k) (hC : ∀ x' y' : Nat, X = nI x' → Y = nI y' → x' < 32 → y' < 24 → Gs now t like areOpen x' y' → ¬ Cm came0 x' y' → C x' y') : ∃ k', (sd now t like areOpen X Y z).2.2 = nI k' ∧ SI (fun x y => Gs now t like areOpen x y ∧ ¬ Cm came0 x y) C came0 (sd now t like areOpen X Y z).1 (sd now t like areOpen X Y z).2.1 k' i P ∧ (∀ x' y' : Nat, X = nI x' → Y = nI y' → x' < 32 → y' < 24 → Gs now t like areOpen x' y' → Cm (sd now t like areOpen X Y z).2.1 x' y') ∧ ∀ x y, Cm z.2.1 x y → Cm (sd now t like areOpen X Y z).2.1 x y := by
  unfold sd
  by_cases hin : (0 ≤ X.toInt ∧ X.toInt ≤ 31) ∧ pY Y
  · rw [isIn_i hin.1 hin.2, i10]
    obtain ⟨eY, hY⟩ := pY_nI hin.2
    obtain ⟨x', hx', eX⟩ : ∃ x' : Nat, x' < 32 ∧ X = nI x' := ⟨X.toInt.toNat, by omega, Dn_of (by omega) (by omega)⟩
    generalize Y.toNatClampNeg = y' at eY hY
    subst eX
    subst eY
    rw [ixc hx' (by omega), nI_clamp (by omega)]
    have un : ∀ a b : Nat, nI x' = nI a → nI y' = nI b → a < 32 → b < 24 → a = x' ∧ b = y' := fun a b p q r s => ⟨((nI_eq (by omega) (by omega)).mp p).symm, ((nI_eq (by omega) (by omega)).mp q).symm⟩
    by_cases hc : z.2.1 (32 * y' + x') = 0
    · rw [if_pos hc]
      by_cases hd : f_X9_dotOf now t (nI x') (nI y') = like
      · rw [if_pos hd, i10, i10, i10]
        by_cases ho : areOpen = 0 ∨ ¬ f_X9_isOpen now (nI x') (nI y') = 0
        · have push : (if areOpen = 0 then g_X9_comes_pile z.1 z.2.2 (nI x') (nI y') else if f_X9_isOpen now (nI x') (nI y') = 0 then z.1 else g_X9_comes_pile z.1 z.2.2 (nI x') (nI y')) = g_X9_comes_pile z.1 z.2.2 (nI x') (nI y') ∧ (if areOpen = 0 then g_X9_comes_came z.2.1 (nI x') (nI y') else if f_X9_isOpen now (nI x') (nI y') = 0 then z.2.1 else g_X9_comes_came z.2.1 (nI x') (nI y')) = g_X9_comes_came z.2.1 (nI x') (nI y') ∧ (if areOpen = 0 then g_X9_comes_pileL z.2.2 else if f_X9_isOpen now (nI x') (nI y') = 0 then z.2.2 else g_X9_comes_pileL z.2.2) = g_X9_comes_pileL z.2.2 := by
            rcases ho with o | o
            · rw [if_pos o, if_pos o, if_pos o]; exact ⟨rfl, rfl, rfl⟩
            · rw [if_neg o, if_neg o, if_neg o, ite_self, ite_self, ite_self]; exact ⟨rfl, rfl, rfl⟩
          rw [push.1, push.2.1, push.2.2, hk]
          have hy' : y' < 24 := by omega
          have nc : ¬ Cm came0 x' y' := fun w => (h.1 x' y' w).2.2 hc
          refine ⟨k + 1, nI_add k 1, h.push hx' hy' hc (hC x' y' rfl rfl hx' hy' ⟨hx', hy', hd, ho⟩ nc), fun a b p q r s _ => ?_, fun x y g => (comes_e hx' hy' x y).mpr (Or.inl g)⟩
          obtain ⟨e1, e2⟩ := un a b p q r s
          exact (comes_e hx' hy' a b).mpr (Or.inr ⟨e1, e2⟩)
        · have o1 : ¬ areOpen = 0 := fun w => ho (Or.inl w)
          have o2 : f_X9_isOpen now (nI x') (nI y') = 0 := Classical.byContradiction fun w => ho (Or.inr w)
          rw [if_neg o1, if_neg o1, if_neg o1, if_pos o2, if_pos o2, if_pos o2]
          refine ⟨k, hk, h, fun a b p q r s g => ?_, fun _ _ g => g⟩
          obtain ⟨e1, e2⟩ := un a b p q r s
          rw [e1, e2] at g
          exact absurd g.2.2.2 ho
      · rw [if_neg hd, i00, i00, i00]
        refine ⟨k, hk, h, fun a b p q r s g => ?_, fun _ _ g => g⟩
        obtain ⟨e1, e2⟩ := un a b p q r s
        rw [e1, e2] at g
        exact absurd g.2.2.1 hd
    · rw [if_neg hc, i00, i00, i00]
      refine ⟨k, hk, h, fun a b p q r s g => ?_, fun _ _ g => g⟩
      obtain ⟨e1, e2⟩ := un a b p q r s
      rw [e1, e2]
      exact ⟨hx', by omega, hc⟩
  · rw [isIn_z hin, i00, i00, i00, i00]
    refine ⟨k, hk, h, fun a b p q r s g => ?_, fun _ _ g => g⟩
    refine absurd ⟨?_, ?_⟩ hin
    · rw [p]; exact (xN r).1
    · rw [q]; exact pY_n s

theorem up1 (a : Nat) : nI a + 1 = nI (a + 1) := nI_add a 1
theorem dn1' (a : Nat) : nI (a + 1) + (-1) = nI a := by
  rw [← nI_add, Int32.add_assoc]
  exact Int32.add_zero _
theorem dn1_of {a b : Nat} (ha : a < 1000) (hb : b < 1000) (h : nI a + (-1) = nI b) : a = b + 1 := by
  rw [← dn1' b] at h
  have k : nI a + (-1) + 1 = nI (b + 1) + (-1) + 1 := by rw [h]
  rw [Int32.add_assoc, Int32.add_assoc, show (-1 : Int32) + 1 = 0 by decide, Int32.add_zero, Int32.add_zero] at k
  exact (nI_eq (by omega) (by omega)).mp k
theorem pl0 (a : Int32) : a + 0 = a := Int32.add_zero a
theorem spread_loop {now came0 : Nat → Int32} {t x0 y0 ao like : Int32} (hl : f_X9_dotOf now t x0 y0 = like) {C : Cel} (hS : ∀ x y x' y', C x y → Gs now t like ao x' y' → ¬ Cm came0 x' y' → adj x y x' y' → C x' y') : ∀ (n i : Nat) (z : Int32 × (Nat → Int32) × (Nat → Int32) × Int32) (k : Nat), n + i = 768 → z.1 = nI i → z.2.2.2 = nI k → SI (fun x y => Gs now t like ao x y ∧ ¬ Cm came0 x y) C came0 z.2.1 z.2.2.1 k i (fun _ _ _ _ => False) → ∃ p i', (r_X9_spreads_23 now t x0 y0 ao n i z).1 = nI i' ∧ SI (fun x y => Gs now t like ao x y ∧ ¬ Cm came0 x y) C came0 p (r_X9_spreads_23 now t x0 y0 ao n i z).2.2.1 0 i' (fun _ _ _ _ => False) ∧ ∀ x y, Cm z.2.2.1 x y → Cm (r_X9_spreads_23 now t x0 y0 ao n i z).2.2.1 x y
  | 0, i, z, k, hn, h1, hk, h => by
    have : k = 0 := by have := h.2.2.2.2; have := cn_le z.2.2.1 768; omega
    subst this
    unfold r_X9_spreads_23
    exact ⟨_, _, h1, h, fun _ _ g => g⟩
  | n + 1, i, z, k, hn, h1, hk, h => by
    unfold r_X9_spreads_23
    rcases Nat.eq_zero_or_pos k with q | q
    · subst q
      rw [if_pos (show z.2.2.2 ≤ 0 by rw [hk]; decide)]
      exact ⟨_, _, h1, h, fun _ _ g => g⟩
    · obtain ⟨m, rfl⟩ : ∃ m, k = m + 1 := ⟨k - 1, by omega⟩
      have hm : m + 1 ≤ 768 := by have := h.2.2.2.2; have := cn_le z.2.2.1 768; omega
      rw [if_neg (show ¬ z.2.2.2 ≤ 0 by rw [hk]; exact nI_ge (a := 0) q (by omega))]
      obtain ⟨X, Y, hX, hY, hp, hXC, hXc⟩ := h.2.2.2.1 m (by omega)
      have e0 : z.2.2.2 - 1 = nI m := by rw [hk]; exact pk_sub (a := m + 1) (b := 1) (by omega)
      have et : z.2.1 (z.2.2.2 - 1).toNatClampNeg = nI (32 * Y + X) := by rw [e0, nI_clamp (by omega)]; exact hp
      have ey : z.2.1 (z.2.2.2 - 1).toNatClampNeg / 32 = nI Y := by rw [et, dv32 (by omega)]; congr 1; omega
      have ex : z.2.1 (z.2.2.2 - 1).toNatClampNeg - z.2.1 (z.2.2.2 - 1).toNatClampNeg / 32 * 32 = nI X := by rw [et, rm32 (by omega)]; congr 1; omega
      have c0 : (if (nI 0) = 0 then 1 else if (nI 0) = 1 then (-1) else 0 : Int32) = 1 ∧ (if (nI 1) = 0 then 1 else if (nI 1) = 1 then (-1) else 0 : Int32) = -1 ∧ (if (nI 2) = 0 then 1 else if (nI 2) = 1 then (-1) else 0 : Int32) = 0 ∧ (if (nI 3) = 0 then 1 else if (nI 3) = 1 then (-1) else 0 : Int32) = 0 := by decide
      have c2 : (if (nI 0) = 2 then 1 else if (nI 0) = 3 then (-1) else 0 : Int32) = 0 ∧ (if (nI 1) = 2 then 1 else if (nI 1) = 3 then (-1) else 0 : Int32) = 0 ∧ (if (nI 2) = 2 then 1 else if (nI 2) = 3 then (-1) else 0 : Int32) = 1 ∧ (if (nI 3) = 2 then 1 else if (nI 3) = 3 then (-1) else 0 : Int32) = -1 := by decide
      have e4 : s_X9_spreads_74 now t x0 y0 ao z 4 = sd now t like ao (nI X) (nI Y + (-1)) (sd now t like ao (nI X) (nI Y + 1) (sd now t like ao (nI X + (-1)) (nI Y) (sd now t like ao (nI X + 1) (nI Y) (z.2.1, z.2.2.1, nI m)))) := by
        have q : s_X9_spreads_74 now t x0 y0 ao z 4 = b_X9_spreads_74 now t x0 y0 ao z 3 (b_X9_spreads_74 now t x0 y0 ao z 2 (b_X9_spreads_74 now t x0 y0 ao z 1 (b_X9_spreads_74 now t x0 y0 ao z 0 (z.2.1, z.2.2.1, z.2.2.2 - 1)))) := rfl
        rw [q, sd_b, sd_b, sd_b, sd_b, ex, ey, hl, c0.1, c0.2.1, c0.2.2.1, c0.2.2.2, c2.1, c2.2.1, c2.2.2.1, c2.2.2.2, pl0, pl0, e0]
      have hpop := h.pop hX hY hp
      obtain ⟨k1, f1, t1, o1, m1⟩ := side (z := (z.2.1, z.2.2.1, nI m)) (X := nI X + 1) (Y := nI Y) hpop rfl (fun x' y' p q r s g g' => hS X Y x' y' hXC g g' (Or.inr ⟨(nI_eq (by omega) (by omega)).mp q, by
        rw [up1] at p
        have := (nI_eq (by omega) (by omega)).mp p
        omega⟩))
      generalize sd now t like ao (nI X + 1) (nI Y) (z.2.1, z.2.2.1, nI m) = w1 at *
      obtain ⟨k2, f2, t2, o2, m2⟩ := side (z := w1) (X := nI X + (-1)) (Y := nI Y) t1 f1 (fun x' y' p q r s g g' => hS X Y x' y' hXC g g' (Or.inr ⟨(nI_eq (by omega) (by omega)).mp q, by
        have := dn1_of (by omega) (by omega) p
        omega⟩))
      generalize sd now t like ao (nI X + (-1)) (nI Y) w1 = w2 at *
      obtain ⟨k3, f3, t3, o3, m3⟩ := side (z := w2) (X := nI X) (Y := nI Y + 1) t2 f2 (fun x' y' p q r s g g' => hS X Y x' y' hXC g g' (Or.inl ⟨(nI_eq (by omega) (by omega)).mp p, by
        rw [up1] at q
        have := (nI_eq (by omega) (by omega)).mp q
        omega⟩))
      generalize sd now t like ao (nI X) (nI Y + 1) w2 = w3 at *
      obtain ⟨k4, f4, t4, o4, m4⟩ := side (z := w3) (X := nI X) (Y := nI Y + (-1)) t3 f3 (fun x' y' p q r s g g' => hS X Y x' y' hXC g g' (Or.inl ⟨(nI_eq (by omega) (by omega)).mp p, by
        have := dn1_of (by omega) (by omega) q
        omega⟩))
      generalize sd now t like ao (nI X) (nI Y + (-1)) w3 = w4 at *
      have t5 := t4.we (P' := fun _ _ _ _ => False) (fun x y x' y' g o p => by
        obtain ⟨p1, p2⟩ := p
        have gx := g.1.1
        have gy := g.1.2.1
        subst p1
        subst p2
        rcases o with ⟨u, v | v⟩ | ⟨u, v | v⟩
        · exact Or.inl (m4 _ _ (o3 x' y' (by rw [u]) (by rw [up1, v]) gx gy g.1))
        · exact Or.inl (o4 x' y' (by rw [u]) (by rw [← v]; exact dn1' y') gx gy g.1)
        · exact Or.inl (m4 _ _ (m3 _ _ (m2 _ _ (o1 x' y' (by rw [up1, v]) (by rw [u]) gx gy g.1))))
        · exact Or.inl (m4 _ _ (m3 _ _ (o2 x' y' (by rw [← v]; exact dn1' x') (by rw [u]) gx gy g.1))))
      rw [e4]
      obtain ⟨p, i', u0, u1, u2⟩ := spread_loop hl hS n (i + 1) (z.1 + 1, w4.1, w4.2.1, w4.2.2) k4 (by omega) (by rw [h1]; exact up1 i) f4 t5
      exact ⟨p, i', u0, u1, fun x y g => u2 x y (m4 _ _ (m3 _ _ (m2 _ _ (m1 _ _ g))))⟩
theorem spreads_e {now pile came0 : Nat → Int32} {t ao : Int32} {x0 y0 : Nat} (hx : x0 < 32) (hy : y0 < 24) (hg : Gs now t (f_X9_dotOf now t (nI x0) (nI y0)) ao x0 y0) (hc : ¬ Cm came0 x0 y0) : (∀ x y, Cm (g_X9_spreads_came now pile came0 t (nI x0) (nI y0) ao) x y ↔ Cm came0 x y ∨ Cmp (fun x y => Gs now t (f_X9_dotOf now t (nI x0) (nI y0)) ao x y ∧ ¬ Cm came0 x y) x0 y0 x y) ∧ f_X9_spreads now pile came0 t (nI x0) (nI y0) ao = nI (cn (g_X9_spreads_came now pile came0 t (nI x0) (nI y0) ao) 768 - cn came0 768) := by
  unfold g_X9_spreads_came f_X9_spreads
  obtain ⟨N, hN⟩ : ∃ N : Nat, N = 768 := ⟨_, rfl⟩
  have hcz : came0 (32 * y0 + x0) = 0 := Classical.byContradiction fun w => hc ⟨hx, hy, w⟩
  generalize hA : (fun x y => Gs now t (f_X9_dotOf now t (nI x0) (nI y0)) ao x y ∧ ¬ Cm came0 x y) = A
  have hA0 : A x0 y0 := by rw [← hA]; exact ⟨hg, hc⟩
  have h0 : SI A (Cmp A x0 y0) came0 pile came0 0 0 (fun _ _ _ _ => False) := ⟨fun _ _ g => g, fun _ _ g => Or.inl g, fun x y x' y' c g _ _ => by
    have k := Cmp.inG c hA0
    rw [← hA] at k
    exact absurd g k.2, fun j hj => absurd hj (Nat.not_lt_zero j), by omega⟩
  have h1 := h0.push hx hy hcz Cmp.start
  rw [← hA] at h1
  have z0 : nI 0 = 0 := rfl
  rw [z0] at h1
  obtain ⟨p, i', u0, u1, u2⟩ := spread_loop (now := now) (came0 := came0) (t := t) (ao := ao) rfl (C := Cmp (fun x y => Gs now t (f_X9_dotOf now t (nI x0) (nI y0)) ao x y ∧ ¬ Cm came0 x y) x0 y0) (fun x y x' y' c g g' o => c.step ⟨g, g'⟩ o) N 0 (0, g_X9_comes_pile pile 0 (nI x0) (nI y0), g_X9_comes_came came0 (nI x0) (nI y0), g_X9_comes_pileL 0) (0 + 1) hN rfl (show g_X9_comes_pileL 0 = nI (0 + 1) by decide) h1
  rw [hA] at u1
  have hs : r_X9_spreads_23 now t (nI x0) (nI y0) ao 768 0 (0, g_X9_comes_pile pile 0 (nI x0) (nI y0), g_X9_comes_came came0 (nI x0) (nI y0), g_X9_comes_pileL 0) = r_X9_spreads_23 now t (nI x0) (nI y0) ao N 0 (0, g_X9_comes_pile pile 0 (nI x0) (nI y0), g_X9_comes_came came0 (nI x0) (nI y0), g_X9_comes_pileL 0) := by rw [hN]
  rw [hs]
  generalize r_X9_spreads_23 now t (nI x0) (nI y0) ao N 0 (0, g_X9_comes_pile pile 0 (nI x0) (nI y0), g_X9_comes_came came0 (nI x0) (nI y0), g_X9_comes_pileL 0) = W at u0 u1 u2 ⊢
  obtain ⟨a, b, c, d, e⟩ := u1
  refine ⟨fun x y => ⟨b x y, ?_⟩, u0.trans (congrArg nI (by omega))⟩
  rintro (g | g)
  · exact a x y g
  · have k := g (fun x y => Cmp A x0 y0 x y ∧ Cm W.2.2.1 x y) ⟨Cmp.start, u2 _ _ ((comes_e hx hy x0 y0).mpr (Or.inr ⟨rfl, rfl⟩))⟩ (fun x y x' y' q g' o => by
      refine ⟨q.1.step g' o, ?_⟩
      rcases c x y x' y' q.1 q.2 g' o with w | ⟨j, hj, -⟩ | w
      · exact w
      · exact absurd hj (Nat.not_lt_zero j)
      · exact absurd w id)
    exact k.2
theorem none_e {came : Nat → Int32} {k : Nat} (hk : k < 768) : g_X9_noneCame_came came k = 0 := by
  obtain ⟨N, hN⟩ : ∃ N : Nat, N = 768 := ⟨_, rfl⟩
  unfold g_X9_noneCame_came
  rw [← hN]
  have h := fill_e (s := s_X9_noneCame_2 came) (F := fun _ => vp_nar .boolean 0) (base := came) (N := N) (by omega) rfl (fun n hn => rfl) N (Nat.le_refl _) k
  rw [if_pos (by omega)] at h
  rw [h]; decide
theorem none_c {came : Nat → Int32} {x y : Nat} : ¬ Cm (g_X9_noneCame_came came) x y := fun g => g.2.2 (none_e (by have := g.1; have := g.2.1; omega))
theorem cn_0 {came : Nat → Int32} : ∀ n, (∀ k, k < n → came k = 0) → cn came n = 0
  | 0, _ => rfl
  | n + 1, h => by unfold cn; rw [cn_0 n (fun k hk => h k (by omega)), h n (by omega)]; rfl
