def Gl (left : Nat → Int32) : Cel := fun x y => y < 24 ∧ Dx (left y) (x : Int) = true
theorem Gl_x {left : Nat → Int32} {x y : Nat} (h : Gl left x y) : x < 32 := by
  have := (D_t h.2).2
  omega
def rst (r : Int32) (x : Nat) : Bool := Dx r (x : Int) && !Dx r ((x : Int) - 1)
def rns (r : Int32) : Nat := fb_ct (rst r) 32
theorem ct_half {p : Nat → Bool} (h : ∀ i, p i = true → p (i + 1) = false) : ∀ n, fb_ct p (n + n) ≤ n
  | 0 => Nat.le_refl _
  | n + 1 => by
    have ih := ct_half h n
    rw [show n + 1 + (n + 1) = n + n + 1 + 1 by omega, fb_ct_succ, fb_ct_succ]
    cases e : p (n + n) with
    | false => rw [bft]; cases p (n + n + 1) <;> simp only [if_true, bft] <;> omega
    | true => rw [h _ e, bft, if_pos rfl]; omega
theorem rns_le (r : Int32) : rns r ≤ 16 := ct_half (fun i h => by
  unfold rst at *
  rw [Bool.and_eq_true] at h
  rw [show ((i + 1 : Nat) : Int) - 1 = i by omega, h.1, Bool.not_true, Bool.and_false]) 16
theorem least_n {q : Nat → Prop} (h : ∃ n, q n) : ∃ n, q n ∧ ∀ m, m < n → ¬ q m := by
  obtain ⟨n, hn⟩ := h
  induction n using Nat.strongRecOn with
  | _ n ih =>
    by_cases e : ∃ m, m < n ∧ q m
    · obtain ⟨m, hm, hq⟩ := e
      exact ih m hm hq
    · exact ⟨n, hn, fun m hm hq => e ⟨m, hm, hq⟩⟩
theorem D_ne {r : Int32} (h : ¬ r = 0) : ∃ x : Nat, x < 32 ∧ Dx r (x : Int) = true := by
  refine Classical.byContradiction fun z => h (D_ext fun x h0 h1 => ?_)
  rw [D_0]
  cases e : Dx r x with
  | false => rfl
  | true =>
    refine absurd ⟨x.toNat, by omega, ?_⟩ z
    rw [Int.toNat_of_nonneg h0]; exact e
theorem rns_z {r : Int32} (h : rns r = 0) : r = 0 := by
  refine Classical.byContradiction fun z => ?_
  obtain ⟨x, ⟨hx, hd⟩, hm⟩ := least_n (q := fun x => x < 32 ∧ Dx r (x : Int) = true) (D_ne z)
  have k := (fb_ct_zero (p := rst r) (n := 32)).mp h x hx
  unfold rst at k
  rw [hd, Bool.true_and] at k
  cases e : Dx r ((x : Int) - 1) with
  | false => rw [e] at k; cases k
  | true =>
    have := D_t e
    refine hm (x - 1) (by omega) ⟨by omega, ?_⟩
    rw [show ((x - 1 : Nat) : Int) = (x : Int) - 1 by omega]; exact e
theorem rns_lt {r R : Int32} (hs : ∀ x, Dx R x = true → Dx r x = true) (hr : ∀ x, Dx R x = true → Dx r (x + 1) = true → Dx R (x + 1) = true) (hl : ∀ x, Dx R x = true → Dx r (x - 1) = true → Dx R (x - 1) = true) (hn : ¬ R = 0) : rns (r &&& (R ^^^ (-1))) < rns r := by
  obtain ⟨x, ⟨hx, hd⟩, hm⟩ := least_n (q := fun x => x < 32 ∧ Dx R (x : Int) = true) (D_ne hn)
  have d' : ∀ z : Int, Dx (r &&& (R ^^^ (-1))) z = (Dx r z && !Dx R z) := fun z => by
    rw [D_and]
    by_cases q : 0 ≤ z ∧ z < 32
    · rw [D_not q.1 q.2]
    · rw [D_out q, Bool.false_and, Bool.false_and]
  have st : rst r x = true := by
    unfold rst
    rw [hs _ hd, Bool.true_and]
    cases e : Dx r ((x : Int) - 1) with
    | false => rfl
    | true =>
      have := D_t e
      have k := hl _ hd e
      refine absurd ⟨by omega, ?_⟩ (hm (x - 1) (by omega))
      rw [show ((x - 1 : Nat) : Int) = (x : Int) - 1 by omega]; exact k
  have a := fb_ct_upd (rst r) false (i := x) (n := 32) hx
  have b : rns (r &&& (R ^^^ (-1))) ≤ fb_ct (fun k => if k = x then false else rst r k) 32 := fb_ct_sub fun k hk h => by
    unfold rst at h
    rw [d', d', Bool.and_eq_true, Bool.and_eq_true] at h
    obtain ⟨⟨h1, h2⟩, h3⟩ := h
    by_cases e : k = x
    · rw [e, hd] at h2; cases h2
    · rw [if_neg e]
      unfold rst
      rw [h1, Bool.true_and]
      cases e2 : Dx r ((k : Int) - 1) with
      | false => rfl
      | true =>
        rw [e2, Bool.true_and] at h3
        cases e3 : Dx R ((k : Int) - 1) with
        | false => rw [e3] at h3; cases h3
        | true =>
          have k4 := hr _ e3 (by rw [show (k : Int) - 1 + 1 = k by omega]; exact h1)
          rw [show (k : Int) - 1 + 1 = k by omega] at k4
          rw [k4] at h2; cases h2
  rw [st, bft, if_pos rfl] at a
  have c : rns r = fb_ct (rst r) 32 := rfl
  omega
def MM (left : Nat → Int32) : Nat := fb_sm (fun y => rns (left y)) 24
theorem MM_le (left : Nat → Int32) : MM left ≤ 384 := fb_sm_bound (c := 16) fun k _ => rns_le _
theorem MM_upd {left : Nat → Int32} {y : Nat} {r : Int32} (hy : y < 24) (h : rns r < rns (left y)) : MM (upd left y r) < MM left := by
  have a := fb_sm_upd (fun y => rns (left y)) (rns r) (i := y) (n := 24) hy
  have b : MM (upd left y r) = fb_sm (fun k => if k = y then rns r else rns (left k)) 24 := fb_sm_cong fun k _ => by
    by_cases e : k = y
    · rw [if_pos e, e, pk_us]
    · rw [if_neg e, pk_un e]
  have c : MM left = fb_sm (fun y => rns (left y)) 24 := rfl
  omega
theorem MM_z {left : Nat → Int32} (h : MM left = 0) {x y : Nat} : ¬ Gl left x y := fun g => by
  have k := fb_sm_zero h y g.1
  have k2 := g.2
  rw [rns_z k, D_0] at k2
  cases k2
/-- how a part is taken out: what is out is of the part, whole runs of rows, and what is above and below it is out too, or waits -/
def TI (L0 : Nat → Int32) (C : Cel) (left srow sdot : Nat → Int32) (k i : Nat) (P : Nat → Nat → Nat → Prop) : Prop :=
  (∀ x y, Gl left x y → Gl L0 x y) ∧
  (∀ x y, Gl L0 x y → ¬ Gl left x y → C x y) ∧
  (∀ x y x', Gl L0 x y → ¬ Gl left x y → Gl L0 x' y → (x + 1 = x' ∨ x' + 1 = x) → ¬ Gl left x' y) ∧
  (∀ x y y', Gl L0 x y → ¬ Gl left x y → Gl L0 x y' → (y + 1 = y' ∨ y' + 1 = y) → ¬ Gl left x y' ∨ (∃ j, j < k ∧ srow j = nI y ∧ Dx (sdot j) (x : Int) = true) ∨ P x y y') ∧
  (∀ j, j < k → ∃ Y, Y < 24 ∧ srow j = nI Y ∧ ∀ x : Nat, Dx (sdot j) (x : Int) = true → Gl L0 x Y ∧ ¬ Gl left x Y) ∧
  MM left + k + i ≤ 384
theorem TI.first {L0 srow sdot : Nat → Int32} {C : Cel} : TI L0 C L0 srow sdot 0 0 (fun _ _ _ => False) :=
  ⟨fun _ _ h => h, fun _ _ h n => absurd h n, fun _ _ _ h n => absurd h n, fun _ _ _ h n => absurd h n, fun j h => absurd h (Nat.not_lt_zero j), by have := MM_le L0; omega⟩
theorem TI.we {L0 left srow sdot : Nat → Int32} {C : Cel} {k i : Nat} {P P' : Nat → Nat → Nat → Prop} (h : TI L0 C left srow sdot k i P) (hp : ∀ x y y', Gl L0 x y → Gl L0 x y' → (y + 1 = y' ∨ y' + 1 = y) → P x y y' → ¬ Gl left x y' ∨ P' x y y') : TI L0 C left srow sdot k i P' := by
  obtain ⟨a, b, c, d, e, f⟩ := h
  refine ⟨a, b, c, fun x y y' g n g' o => ?_, e, f⟩
  rcases d x y y' g n g' o with q | q | q
  · exact Or.inl q
  · exact Or.inr (Or.inl q)
  · rcases hp x y y' g g' o q with r | r
    · exact Or.inl r
    · exact Or.inr (Or.inr r)
theorem TI.pop {L0 left srow sdot : Nat → Int32} {C : Cel} {k i Y : Nat} (h : TI L0 C left srow sdot (k + 1) i (fun _ _ _ => False)) (hY : srow k = nI Y) (hy : Y < 24) : TI L0 C left srow sdot k (i + 1) (fun x y _ => y = Y ∧ Dx (sdot k) (x : Int) = true) := by
  obtain ⟨a, b, c, d, e, f⟩ := h
  refine ⟨a, b, c, fun x y y' g n g' o => ?_, fun j hj => e j (by omega), by omega⟩
  rcases d x y y' g n g' o with q | ⟨j, hj, q1, q2⟩ | q
  · exact Or.inl q
  · by_cases z : j = k
    · subst z
      rw [hY] at q1
      have := (nI_eq (by omega) (by have := g.1; omega)).mp q1
      exact Or.inr (Or.inr ⟨this.symm, q2⟩)
    · exact Or.inr (Or.inl ⟨j, by omega, q1, q2⟩)
  · exact absurd q id
theorem TI.push {L0 left srow sdot : Nat → Int32} {C : Cel} {k i Y : Nat} {P : Nat → Nat → Nat → Prop} {dots : Int32} (h : TI L0 C left srow sdot k i P) (hy : Y < 24) (hC : ∀ x : Nat, Dx dots (x : Int) = true → Gl L0 x Y → C x Y) (hS : ∀ x y x', C x y → Gl L0 x' y → (x + 1 = x' ∨ x' + 1 = x) → C x' y) {R : Int32} (hR : R = f_X4_runsThrough (left Y) (left Y &&& dots)) (hne : ¬ R = 0) : TI L0 C (upd left Y (left Y &&& (R ^^^ (-1)))) (upd srow k (nI Y)) (upd sdot k R) (k + 1) i P ∧ (∀ x : Nat, Dx dots (x : Int) = true → ¬ Gl (upd left Y (left Y &&& (R ^^^ (-1)))) x Y) ∧ ∀ x y, Gl (upd left Y (left Y &&& (R ^^^ (-1)))) x y → Gl left x y := by
  obtain ⟨a, b, c, d, e, f⟩ := h
  have hs : ∀ x, Dx R x = true → Dx (left Y) x = true := fun x hx => by
    rw [hR] at hx
    exact runs_sub (fun z hz => by rw [D_and, Bool.and_eq_true] at hz; exact hz.1) hx
  have hr : ∀ x, Dx R x = true → Dx (left Y) (x + 1) = true → Dx R (x + 1) = true := fun x hx hq => by
    rw [hR] at hx ⊢; exact runs_r hx hq
  have hl : ∀ x, Dx R x = true → Dx (left Y) (x - 1) = true → Dx R (x - 1) = true := fun x hx hq => by
    rw [hR] at hx ⊢; exact runs_l hx hq
  have hRC : ∀ x : Nat, Dx R (x : Int) = true → C x Y := fun x hx => by
    have k := runs_min (row := left Y) (seeds := left Y &&& dots) (T := fun z => 0 ≤ z ∧ C z.toNat Y) (fun z hz => by
      rw [D_and, Bool.and_eq_true] at hz
      have q := D_t hz.1
      have e : ((z.toNat : Nat) : Int) = z := Int.toNat_of_nonneg q.1
      exact ⟨q.1, hC z.toNat (by rw [e]; exact hz.2) (a _ _ ⟨hy, by rw [e]; exact hz.1⟩)⟩) (fun z hz hq => ⟨by omega, hS z.toNat Y (z + 1).toNat hz.2 (a _ _ ⟨hy, by rw [Int.toNat_of_nonneg (by omega)]; exact hq⟩) (by omega)⟩) (fun z hz hq => by
      have q := D_t hq
      exact ⟨q.1, hS z.toNat Y (z - 1).toNat hz.2 (a _ _ ⟨hy, by rw [Int.toNat_of_nonneg q.1]; exact hq⟩) (by omega)⟩) (x := (x : Int)) (by rw [← hR]; exact hx)
    rw [Int.toNat_natCast] at k
    exact k.2
  have key : ∀ x y, Gl (upd left Y (left Y &&& (R ^^^ (-1)))) x y ↔ Gl left x y ∧ ¬ (y = Y ∧ Dx R (x : Int) = true) := fun x y => by
    unfold Gl
    by_cases z : y = Y
    · rw [z, pk_us, D_and]
      by_cases q : 0 ≤ (x : Int) ∧ (x : Int) < 32
      · rw [D_not q.1 q.2]
        cases Dx (left Y) (x : Int) <;> cases Dx R (x : Int) <;> simp
      · rw [D_out q, D_out q, Bool.false_and]; simp
    · rw [pk_un z]
      exact ⟨fun g => ⟨g, fun w => z w.1⟩, fun g => g.1⟩
  have out : ∀ {x y}, Gl L0 x y → ¬ Gl (upd left Y (left Y &&& (R ^^^ (-1)))) x y → ¬ Gl left x y ∨ (y = Y ∧ Dx R (x : Int) = true) := fun {x y} g n => by
    by_cases z : Gl left x y
    · refine Or.inr (Classical.byContradiction fun w => n ((key x y).mpr ⟨z, w⟩))
    · exact Or.inl z
  have mono : ∀ x y, Gl (upd left Y (left Y &&& (R ^^^ (-1)))) x y → Gl left x y := fun x y g => ((key x y).mp g).1
  refine ⟨⟨fun x y g => a x y (mono x y g), fun x y g n => ?_, fun x y x' g n g' o g2 => ?_, fun x y y' g n g' o => ?_, fun j hj => ?_, ?_⟩, fun x hx g => ?_, mono⟩
  · rcases out g n with q | ⟨q1, q2⟩
    · exact b x y g q
    · rw [q1]; exact hRC x q2
  · have g3 := (key x' y).mp g2
    rcases out g n with q | ⟨q1, q2⟩
    · exact c x y x' g q g' o g3.1
    · refine g3.2 ⟨q1, ?_⟩
      have g4 := g3.1.2
      rw [q1] at g4
      rcases o with o | o
      · rw [show (x' : Int) = (x : Int) + 1 by omega] at g4 ⊢
        exact hr _ q2 g4
      · rw [show (x' : Int) = (x : Int) - 1 by omega] at g4 ⊢
        exact hl _ q2 g4
  · rcases out g n with q | ⟨q1, q2⟩
    · rcases d x y y' g q g' o with w | ⟨j, hj, w1, w2⟩ | w
      · exact Or.inl fun z => w (mono _ _ z)
      · refine Or.inr (Or.inl ⟨j, by omega, ?_, ?_⟩)
        · rw [pk_un (by omega)]; exact w1
        · rw [pk_un (by omega)]; exact w2
      · exact Or.inr (Or.inr w)
    · refine Or.inr (Or.inl ⟨k, by omega, ?_, ?_⟩)
      · rw [pk_us, q1]
      · rw [pk_us]; exact q2
  · by_cases z : j = k
    · subst z
      refine ⟨Y, hy, pk_us, fun x hx => ?_⟩
      rw [pk_us] at hx
      exact ⟨a _ _ ⟨hy, hs _ hx⟩, fun g => ((key x Y).mp g).2 ⟨rfl, hx⟩⟩
    · obtain ⟨Y', w1, w2, w3⟩ := e j (by omega)
      refine ⟨Y', w1, by rw [pk_un z]; exact w2, fun x hx => ?_⟩
      rw [pk_un z] at hx
      exact ⟨(w3 x hx).1, fun g => (w3 x hx).2 (mono _ _ g)⟩
  · have := MM_upd hy (rns_lt hs hr hl hne)
    omega
  · have g3 := (key x Y).mp g
    refine g3.2 ⟨rfl, ?_⟩
    rw [hR]
    exact runs_in (by rw [D_and, Bool.and_eq_true]; exact ⟨g3.1.2, hx⟩)
theorem rt_0 {r d : Int32} {x : Int} (h : f_X4_runsThrough r (r &&& d) = 0) (hd : Dx d x = true) : Dx r x = false := by
  cases e : Dx r x with
  | false => rfl
  | true =>
    have k := runs_in (row := r) (seeds := r &&& d) (x := x) (by rw [D_and, e, hd]; rfl)
    rw [h, D_0] at k
    cases k
theorem reach {L0 left srow sdot : Nat → Int32} {C : Cel} {k i : Nat} {P : Nat → Nat → Nat → Prop} {dots y : Int32} (h : TI L0 C left srow sdot k i P) (hS : ∀ x y x', C x y → Gl L0 x' y → (x + 1 = x' ∨ x' + 1 = x) → C x' y) (hC : ∀ Y x : Nat, y = nI Y → Y < 24 → Dx dots (x : Int) = true → Gl L0 x Y → C x Y) : ∃ k', g_X4_reaches_steps left (nI k) y dots = nI k' ∧ TI L0 C (g_X4_reaches_left left (nI k) y dots) (g_X4_reaches_srow left srow (nI k) y dots) (g_X4_reaches_sdot left sdot (nI k) y dots) k' i P ∧ (∀ Y x : Nat, y = nI Y → Y < 24 → Dx dots (x : Int) = true → ¬ Gl (g_X4_reaches_left left (nI k) y dots) x Y) ∧ ∀ x Y, Gl (g_X4_reaches_left left (nI k) y dots) x Y → Gl left x Y := by
  have hk : k ≤ 384 := by have := h.2.2.2.2.2; omega
  unfold g_X4_reaches_steps g_X4_reaches_left g_X4_reaches_srow g_X4_reaches_sdot
  by_cases hy : pY y
  · obtain ⟨e1, e2⟩ := pY_nI hy
    rw [isY_i hy, i10, i10, i10, i10]
    by_cases h4 : k < 384
    · have lt : nI k < 384 := nI_lt (b := 384) h4 (by decide)
      rw [if_pos lt, if_pos lt, if_pos lt, if_pos lt]
      by_cases hz : f_X4_runsThrough (left y.toNatClampNeg) ((left y.toNatClampNeg) &&& dots) = 0
      · rw [if_pos hz, if_pos hz, if_pos hz, if_pos hz]
        refine ⟨k, rfl, h, fun Y x hY hY2 hd g => ?_, fun _ _ g => g⟩
        have eY : y.toNatClampNeg = Y := by rw [hY]; exact nI_clamp (by omega)
        rw [eY] at hz
        have := rt_0 hz hd
        have g2 := g.2
        rw [this] at g2; cases g2
      · rw [if_neg hz, if_neg hz, if_neg hz, if_neg hz]
        have p := TI.push h (Y := y.toNatClampNeg) (dots := dots) (by omega) (fun x hd g => hC _ x e1 (by omega) hd g) hS rfl hz
        rw [nI_clamp (n := k) (by omega)]
        refine ⟨k + 1, nI_add k 1, ?_, fun Y x hY hY2 hd g => ?_, p.2.2⟩
        · have p1 := p.1
          rw [← e1] at p1
          exact p1
        · have eY : y.toNatClampNeg = Y := by rw [hY]; exact nI_clamp (by omega)
          rw [← eY] at g
          exact p.2.1 x hd g
    · have ge : ¬ nI k < 384 := nI_nlt (b := 384) (by omega) (by omega)
      rw [if_neg ge, if_neg ge, if_neg ge, if_neg ge]
      exact ⟨k, rfl, h, fun Y x _ _ _ g => MM_z (by have := h.2.2.2.2.2; omega) g, fun _ _ g => g⟩
  · rw [isY_z hy, i00, i00, i00, i00]
    exact ⟨k, rfl, h, fun Y x hY hY2 _ => absurd (by rw [hY]; exact pY_n hY2) hy, fun _ _ g => g⟩
theorem take_loop {L0 : Nat → Int32} {C : Cel} (hS : ∀ x y x' y', C x y → Gl L0 x' y' → adj x y x' y' → C x' y') : ∀ (n i : Nat) (z : (Nat → Int32) × (Nat → Int32) × (Nat → Int32) × Int32) (k : Nat), n + i = 384 → z.2.2.2 = nI k → TI L0 C z.1 z.2.1 z.2.2.1 k i (fun _ _ _ => False) → ∃ sr sd i', TI L0 C (r_X4_takesOut_13 n i z).1 sr sd 0 i' (fun _ _ _ => False) ∧ ∀ x y, Gl (r_X4_takesOut_13 n i z).1 x y → Gl z.1 x y
  | 0, i, z, k, hn, hk, h => by
    have : k = 0 := by have := h.2.2.2.2.2; omega
    subst this
    unfold r_X4_takesOut_13
    exact ⟨_, _, _, h, fun _ _ g => g⟩
  | n + 1, i, z, k, hn, hk, h => by
    unfold r_X4_takesOut_13
    rw [hk]
    rcases Nat.eq_zero_or_pos k with q | q
    · subst q
      rw [if_pos (show nI 0 ≤ 0 by decide)]
      exact ⟨_, _, _, h, fun _ _ g => g⟩
    · obtain ⟨m, rfl⟩ : ∃ m, k = m + 1 := ⟨k - 1, by omega⟩
      have hm : m + 1 ≤ 384 := by have := h.2.2.2.2.2; omega
      rw [if_neg (show ¬ nI (m + 1) ≤ 0 from nI_ge (a := 0) q (by omega)), show nI (m + 1) - 1 = nI m from pk_sub (a := m + 1) (b := 1) (by omega), nI_clamp (n := m) (by omega)]
      obtain ⟨Y, hY, hr, hd⟩ := h.2.2.2.2.1 m (by omega)
      have hp := h.pop hr hY
      have inC : ∀ x : Nat, Dx (z.2.2.1 m) (x : Int) = true → C x Y := fun x hx => h.2.1 x Y (hd x hx).1 (hd x hx).2
      rw [hr]
      have hS' : ∀ x y x', C x y → Gl L0 x' y → (x + 1 = x' ∨ x' + 1 = x) → C x' y := fun x y x' c g o => hS x y x' y c g (Or.inr ⟨rfl, o⟩)
      obtain ⟨k1, e1, t1, o1, m1⟩ := reach (y := nI Y - 1) (dots := z.2.2.1 m) hp hS' (fun Y' x hy hY' hx g => hS x Y x Y' (inC x hx) g (Or.inl ⟨rfl, by
        rcases Nat.eq_zero_or_pos Y with w | w
        · subst w
          have := congrArg Int32.toInt hy
          rw [nI_toInt (by omega)] at this
          have k : (nI 0 - 1).toInt = -1 := by decide
          omega
        · rw [show nI Y - 1 = nI (Y - 1) from pk_sub (a := Y) (b := 1) (by omega)] at hy
          have := (nI_eq (by omega) (by omega)).mp hy
          omega⟩))
      rw [e1]
      have t1' := t1.we (P' := fun x y y' => y = Y ∧ y' = Y + 1 ∧ Dx (z.2.2.1 m) (x : Int) = true) (fun x y y' _ g' o p => by
        obtain ⟨p1, p2⟩ := p
        rcases o with o | o
        · exact Or.inr ⟨p1, by omega, p2⟩
        · refine Or.inl (o1 y' x ?_ g'.1 p2)
          rw [show nI Y - 1 = nI (Y - 1) from pk_sub (a := Y) (b := 1) (by omega)]
          congr 1
          omega)
      obtain ⟨k2, e2, t2, o2, m2⟩ := reach (y := nI Y + 1) (dots := z.2.2.1 m) t1' hS' (fun Y' x hy hY' hx g => hS x Y x Y' (inC x hx) g (Or.inl ⟨rfl, by
        rw [show nI Y + 1 = nI (Y + 1) from nI_add Y 1] at hy
        have := (nI_eq (by omega) (by omega)).mp hy
        omega⟩))
      have t2' := t2.we (P' := fun _ _ _ => False) (fun x y y' _ g' o p => by
        obtain ⟨p1, p2, p3⟩ := p
        refine Or.inl (o2 y' x ?_ g'.1 p3)
        rw [p2]; exact nI_add Y 1)
      obtain ⟨sr, sd, i', u1, u2⟩ := take_loop hS n (i + 1) (g_X4_reaches_left (g_X4_reaches_left z.1 (nI m) (nI Y - 1) (z.2.2.1 m)) (nI k1) (nI Y + 1) (z.2.2.1 m), g_X4_reaches_srow (g_X4_reaches_left z.1 (nI m) (nI Y - 1) (z.2.2.1 m)) (g_X4_reaches_srow z.1 z.2.1 (nI m) (nI Y - 1) (z.2.2.1 m)) (nI k1) (nI Y + 1) (z.2.2.1 m), g_X4_reaches_sdot (g_X4_reaches_left z.1 (nI m) (nI Y - 1) (z.2.2.1 m)) (g_X4_reaches_sdot z.1 z.2.2.1 (nI m) (nI Y - 1) (z.2.2.1 m)) (nI k1) (nI Y + 1) (z.2.2.1 m), g_X4_reaches_steps (g_X4_reaches_left z.1 (nI m) (nI Y - 1) (z.2.2.1 m)) (nI k1) (nI Y + 1) (z.2.2.1 m)) k2 (by omega) e2 t2'
      exact ⟨sr, sd, i', u1, fun x y g => m1 _ _ (m2 _ _ (u2 x y g))⟩
theorem takes_e {L0 srow sdot : Nat → Int32} {seed : Int32} {x0 y0 : Nat} (hy : y0 < 24) (hs : ∀ x : Nat, x < 32 → (Dx seed (x : Int) = true ↔ x = x0)) (x y : Nat) : Gl (g_X4_takesOut_left L0 srow sdot (nI y0) seed) x y ↔ Gl L0 x y ∧ ¬ (Gl L0 x0 y0 ∧ Cmp (Gl L0) x0 y0 x y) := by
  unfold g_X4_takesOut_left
  obtain ⟨N, hN⟩ : ∃ N : Nat, N = 384 := ⟨_, rfl⟩
  rw [← hN]
  have z0 : nI 0 = 0 := rfl
  by_cases h0 : Gl L0 x0 y0
  · have hS : ∀ x y x' y', Cmp (Gl L0) x0 y0 x y → Gl L0 x' y' → adj x y x' y' → Cmp (Gl L0) x0 y0 x' y' := fun x y x' y' c g o => c.step g o
    obtain ⟨k1, e1, t1, o1, m1⟩ := reach (L0 := L0) (C := Cmp (Gl L0) x0 y0) (y := nI y0) (dots := seed) (TI.first (srow := srow) (sdot := sdot)) (fun x y x' c g o => hS x y x' y c g (Or.inr ⟨rfl, o⟩)) (fun Y x hY hY2 hd g => by
      have e := (nI_eq (by omega) (by omega)).mp hY
      have e2 := (hs x (Gl_x g)).mp hd
      rw [e2, ← e]; exact Cmp.start)
    rw [z0] at e1 t1 o1 m1
    obtain ⟨sr, sd, i', u1, u2⟩ := take_loop hS N 0 (g_X4_reaches_left L0 0 (nI y0) seed, g_X4_reaches_srow L0 srow 0 (nI y0) seed, g_X4_reaches_sdot L0 sdot 0 (nI y0) seed, g_X4_reaches_steps L0 0 (nI y0) seed) k1 hN e1 t1
    generalize r_X4_takesOut_13 N 0 (g_X4_reaches_left L0 0 (nI y0) seed, g_X4_reaches_srow L0 srow 0 (nI y0) seed, g_X4_reaches_sdot L0 sdot 0 (nI y0) seed, g_X4_reaches_steps L0 0 (nI y0) seed) = W at u1 u2 ⊢
    obtain ⟨a, b, c, d, -, -⟩ := u1
    constructor
    · intro g
      refine ⟨a x y g, fun w => ?_⟩
      have k := w.2 (fun x y => Gl L0 x y ∧ ¬ Gl W.1 x y) ⟨h0, fun z => o1 y0 x0 rfl hy ((hs x0 (Gl_x h0)).mpr rfl) (u2 _ _ z)⟩ (fun x y x' y' q g' o => by
        refine ⟨g', ?_⟩
        rcases o with ⟨o1, o2⟩ | ⟨o1, o2⟩
        · subst o1
          rcases d x y y' q.1 q.2 g' o2 with w | ⟨j, hj, -⟩ | w
          · exact w
          · exact absurd hj (Nat.not_lt_zero j)
          · exact absurd w id
        · subst o1
          exact c x y x' q.1 q.2 g' o2)
      exact k.2 g
    · intro g
      exact Classical.byContradiction fun z => g.2 ⟨h0, b x y g.1 z⟩
  · have hz : ∀ x : Int, Dx (L0 y0 &&& seed) x = false := fun x => by
      cases e : Dx (L0 y0 &&& seed) x with
      | false => rfl
      | true =>
        rw [D_and, Bool.and_eq_true] at e
        have q := D_t e.1
        have e3 : ((x.toNat : Nat) : Int) = x := Int.toNat_of_nonneg q.1
        have e2 := (hs x.toNat (by omega)).mp (by rw [e3]; exact e.2)
        refine absurd ⟨hy, ?_⟩ h0
        rw [← e2, e3]; exact e.1
    have hr : f_X4_runsThrough (L0 y0) (L0 y0 &&& seed) = 0 := D_ext fun x _ _ => by
      rw [D_0]
      cases e : Dx (f_X4_runsThrough (L0 y0) (L0 y0 &&& seed)) x with
      | false => rfl
      | true =>
        rcases (runs_e _ _ _).mp e with ⟨d, -, -, w, -⟩ | ⟨d, -, -, w, -⟩ <;> (rw [hz] at w; cases w)
    have el : g_X4_reaches_left L0 0 (nI y0) seed = L0 := by
      unfold g_X4_reaches_left
      rw [isY_i (pY_n hy), i10, nI_clamp (by omega), hr, if_pos (show (0 : Int32) < 384 by decide), i00]
    have es : g_X4_reaches_steps L0 0 (nI y0) seed = 0 := by
      unfold g_X4_reaches_steps
      rw [isY_i (pY_n hy), i10, nI_clamp (by omega), hr, if_pos (show (0 : Int32) < 384 by decide), i00]
    obtain ⟨sr, sd, i', u1, u2⟩ := take_loop (L0 := L0) (C := fun _ _ => False) (fun _ _ _ _ c _ _ => c) N 0 (g_X4_reaches_left L0 0 (nI y0) seed, g_X4_reaches_srow L0 srow 0 (nI y0) seed, g_X4_reaches_sdot L0 sdot 0 (nI y0) seed, g_X4_reaches_steps L0 0 (nI y0) seed) 0 hN es (by
      dsimp only
      rw [el]; exact TI.first)
    constructor
    · intro g
      exact ⟨u1.1 x y g, fun w => h0 w.1⟩
    · intro g
      exact Classical.byContradiction fun z => u1.2.1 x y g.1 z
