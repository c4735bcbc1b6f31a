theorem fb_holes : ∀ (m n : Nat) (f : Nat → Nat), (∀ i, i < n → f i < m) → (∀ i j, i < j → j < n → f i ≠ f j) → n ≤ m := by
  intro m
  induction m with
  | zero =>
    intro n f h1 _
    rcases Nat.eq_zero_or_pos n with h | h
    · omega
    · exact absurd (h1 0 h) (Nat.not_lt_zero _)
  | succ m ih =>
    intro n f h1 h2
    by_cases hx : ∃ i, i < n ∧ f i = m
    · obtain ⟨a, ha, hfa⟩ := hx
      have hg := ih (n - 1) (fun i => if i < a then f i else f (i + 1)) (by
        intro i hi
        by_cases q : i < a
        · simp only [if_pos q]
          have b1 := h1 i (by omega)
          have b2 := h2 i a q ha
          omega
        · simp only [if_neg q]
          have b1 := h1 (i + 1) (by omega)
          have b2 := h2 a (i + 1) (by omega) (by omega)
          omega) (by
        intro i j hij hj
        by_cases q : i < a
        · by_cases r : j < a
          · simp only [if_pos q, if_pos r]
            exact h2 i j hij (by omega)
          · simp only [if_pos q, if_neg r]
            exact h2 i (j + 1) (by omega) (by omega)
        · have r : ¬ j < a := by omega
          simp only [if_neg q, if_neg r]
          exact h2 (i + 1) (j + 1) (by omega) (by omega))
      omega
    · have hg := ih n f (fun i hi => by
        have b1 := h1 i hi
        have b2 : f i ≠ m := fun e => hx ⟨i, hi, e⟩
        omega) h2
      omega

abbrev Cel : Type := Nat → Nat → Prop
/-- beside one another over a side -/
def adj (x y x' y' : Nat) : Prop := (x = x' ∧ (y + 1 = y' ∨ y' + 1 = y)) ∨ (y = y' ∧ (x + 1 = x' ∨ x' + 1 = x))
theorem adj_s {x y x' y' : Nat} (h : adj x y x' y') : adj x' y' x y := by
  unfold adj at *
  omega
/-- a set that holds, with a cell, all of G that is beside it -/
def clo (G S : Cel) : Prop := ∀ x y x' y', S x y → G x' y' → adj x y x' y' → S x' y'
/-- what hangs together with a cell by cells of G -/
def Cmp (G : Cel) (x0 y0 : Nat) : Cel := fun x y => ∀ S : Cel, S x0 y0 → clo G S → S x y
theorem Cmp.start {G : Cel} {x0 y0 : Nat} : Cmp G x0 y0 x0 y0 := fun _ h _ => h
theorem Cmp.step {G : Cel} {x0 y0 x y x' y' : Nat} (h : Cmp G x0 y0 x y) (g : G x' y') (a : adj x y x' y') : Cmp G x0 y0 x' y' := fun S h0 hc => hc x y x' y' (h S h0 hc) g a
theorem Cmp.inG {G : Cel} {x0 y0 x y : Nat} (h : Cmp G x0 y0 x y) (g : G x0 y0) : G x y := h G g (fun _ _ _ _ _ g' _ => g')
theorem Cmp.tr {G : Cel} {x0 y0 x1 y1 x y : Nat} (h : Cmp G x0 y0 x1 y1) (h2 : Cmp G x1 y1 x y) : Cmp G x0 y0 x y := fun S h0 hc => h2 S (h S h0 hc) hc
theorem Cmp.sy {G : Cel} {x0 y0 x y : Nat} (g : G x0 y0) (h : Cmp G x0 y0 x y) : Cmp G x y x0 y0 := by
  have k := h (fun a b => G a b ∧ Cmp G a b x0 y0) ⟨g, Cmp.start⟩ (fun a b a' b' hs g' ha => ⟨g', (Cmp.step Cmp.start hs.1 (adj_s ha)).tr hs.2⟩)
  exact k.2
theorem Cmp.mono {G G' : Cel} (hg : ∀ x y, G x y → G' x y) {x0 y0 x y : Nat} (h : Cmp G x0 y0 x y) : Cmp G' x0 y0 x y := fun S h0 hc => h S h0 (fun a b a' b' hs g ha => hc a b a' b' hs (hg _ _ g) ha)
theorem Cmp.cg {G G' : Cel} (hg : ∀ x y, G x y ↔ G' x y) {x0 y0 x y : Nat} : Cmp G x0 y0 x y ↔ Cmp G' x0 y0 x y := ⟨Cmp.mono fun a b => (hg a b).mp, Cmp.mono fun a b => (hg a b).mpr⟩
/-- left is G without the parts of m cells, no two of one part -/
def Sys (G left : Cel) (m : Nat) : Prop := ∃ f g : Nat → Nat, (∀ i, i < m → G (f i) (g i)) ∧ (∀ i j, i < j → j < m → ¬ Cmp G (f i) (g i) (f j) (g j)) ∧ ∀ x y, left x y ↔ G x y ∧ ∀ i, i < m → ¬ Cmp G (f i) (g i) x y
theorem Sys.zero {G : Cel} : Sys G G 0 := ⟨fun _ => 0, fun _ => 0, fun i h => absurd h (Nat.not_lt_zero i), fun i j _ h => absurd h (Nat.not_lt_zero j), fun x y => ⟨fun h => ⟨h, fun i h => absurd h (Nat.not_lt_zero i)⟩, fun h => h.1⟩⟩
theorem Sys.cg {G left left' : Cel} {m : Nat} (h : Sys G left m) (hl : ∀ x y, left' x y ↔ left x y) : Sys G left' m := by
  obtain ⟨f, g, h1, h2, h3⟩ := h
  exact ⟨f, g, h1, h2, fun x y => (hl x y).trans (h3 x y)⟩
theorem Sys.comp {G left : Cel} {m x0 y0 : Nat} (h : Sys G left m) (hs : left x0 y0) {x y : Nat} : Cmp left x0 y0 x y ↔ Cmp G x0 y0 x y := by
  obtain ⟨f, g, h1, h2, h3⟩ := h
  constructor
  · exact Cmp.mono fun a b z => ((h3 a b).mp z).1
  · intro hc S s0 sc
    have k := hc (fun a b => S a b ∧ left a b) ⟨s0, hs⟩ (fun a b a' b' hab g' ha => by
      have hl : left a' b' := (h3 a' b').mpr ⟨g', fun i hi z => ((h3 a b).mp hab.2).2 i hi (z.step ((h3 a b).mp hab.2).1 (adj_s ha))⟩
      exact ⟨sc a b a' b' hab.1 hl ha, hl⟩)
    exact k.1
theorem Sys.step {G left left' : Cel} {m x0 y0 : Nat} (h : Sys G left m) (hs : left x0 y0) (hl : ∀ x y, left' x y ↔ left x y ∧ ¬ Cmp left x0 y0 x y) : Sys G left' (m + 1) := by
  have hc := fun x y => h.comp hs (x := x) (y := y)
  obtain ⟨f, g, h1, h2, h3⟩ := h
  have hs3 := (h3 x0 y0).mp hs
  refine ⟨fun i => if i = m then x0 else f i, fun i => if i = m then y0 else g i, fun i hi => ?_, fun i j hij hj => ?_, fun x y => ?_⟩
  · by_cases e : i = m
    · simp only [if_pos e]; exact hs3.1
    · simp only [if_neg e]; exact h1 i (by omega)
  · have ei : i ≠ m := by omega
    simp only [if_neg ei]
    by_cases e : j = m
    · simp only [if_pos e]; exact hs3.2 i (by omega)
    · simp only [if_neg e]; exact h2 i j hij (by omega)
  · rw [hl, h3, hc]
    constructor
    · rintro ⟨⟨a, b⟩, c⟩
      refine ⟨a, fun i hi => ?_⟩
      by_cases e : i = m
      · simp only [if_pos e]; exact c
      · simp only [if_neg e]; exact b i (by omega)
    · rintro ⟨a, b⟩
      refine ⟨⟨a, fun i hi => ?_⟩, ?_⟩
      · have e : i ≠ m := by omega
        have k := b i (by omega)
        simp only [if_neg e] at k
        exact k
      · have k := b m (by omega)
        simp only [if_true] at k
        exact k
theorem Sys.le {G left left' : Cel} {m n : Nat} (h : Sys G left m) (h' : Sys G left' n) (he : ∀ x y, ¬ left' x y) : m ≤ n := by
  obtain ⟨f, g, h1, h2, -⟩ := h
  obtain ⟨f', g', k1, k2, k3⟩ := h'
  have ex : ∀ i, ∃ j, i < m → j < n ∧ Cmp G (f' j) (g' j) (f i) (g i) := fun i => by
    by_cases hi : i < m
    · have hn : ¬ (∀ j, j < n → ¬ Cmp G (f' j) (g' j) (f i) (g i)) := fun z => he _ _ ((k3 (f i) (g i)).mpr ⟨h1 i hi, z⟩)
      obtain ⟨j, hj⟩ := Classical.not_forall.mp hn
      obtain ⟨hj1, hj2⟩ := Classical.not_imp.mp hj
      exact ⟨j, fun _ => ⟨hj1, Classical.not_not.mp hj2⟩⟩
    · exact ⟨0, fun z => absurd z hi⟩
  obtain ⟨φ, hφ⟩ := Classical.axiomOfChoice ex
  refine fb_holes n m φ (fun i hi => (hφ i hi).1) (fun i j hij hj e => ?_)
  have a := (hφ i (by omega)).2
  have b := (hφ j hj).2
  rw [e] at a
  exact h2 i j hij hj ((Cmp.sy (k1 _ (hφ j hj).1) a).tr b)
theorem Sys.uniq {G left left' : Cel} {m n : Nat} (h : Sys G left m) (he : ∀ x y, ¬ left x y) (h' : Sys G left' n) (he' : ∀ x y, ¬ left' x y) : m = n := Nat.le_antisymm (h.le h' he') (h'.le h he)
def stL (f : Int32) (p : Int32 × Int32) : Int32 × Int32 := (p.1 ||| (p.2 &&& (p.1 <<< (f &&& 31))), p.2 &&& (p.2 <<< (f &&& 31)))
def stR (f : Int32) (p : Int32 × Int32) : Int32 × Int32 := (p.1 ||| (p.2 &&& (uShr p.1 f)), p.2 &&& (uShr p.2 f))
theorem rt_def (row seeds : Int32) : f_X4_runsThrough row seeds = (stL ((((1 * 2) * 2) * 2) * 2) (stL (((1 * 2) * 2) * 2) (stL ((1 * 2) * 2) (stL (1 * 2) (stL 1 (seeds, row)))))).1 ||| (stR ((((1 * 2) * 2) * 2) * 2) (stR (((1 * 2) * 2) * 2) (stR ((1 * 2) * 2) (stR (1 * 2) (stR 1 (seeds, row)))))).1 := rfl
def TL (row seeds : Int32) (s : Nat) (p : Int32 × Int32) : Prop := (∀ x : Int, 0 ≤ x → (Dx p.1 x = true ↔ ∃ d : Nat, d < s ∧ Dx seeds (x + d) = true ∧ ∀ j : Nat, j < d → Dx row (x + j) = true)) ∧ ∀ x : Int, 0 ≤ x → (Dx p.2 x = true ↔ ∀ j : Nat, j < s → Dx row (x + j) = true)
def TR (row seeds : Int32) (s : Nat) (p : Int32 × Int32) : Prop := (∀ x : Int, x < 32 → (Dx p.1 x = true ↔ ∃ d : Nat, d < s ∧ Dx seeds (x - d) = true ∧ ∀ j : Nat, j < d → Dx row (x - j) = true)) ∧ ∀ x : Int, x < 32 → (Dx p.2 x = true ↔ ∀ j : Nat, j < s → Dx row (x - j) = true)
theorem D_t {r : Int32} {x : Int} (h : Dx r x = true) : 0 ≤ x ∧ x < 32 := by
  by_cases q : 0 ≤ x ∧ x < 32
  · exact q
  · rw [D_out q] at h; cases h
theorem TL.zero {row seeds : Int32} : TL row seeds 1 (seeds, row) := by
  refine ⟨fun x hx => ⟨fun h => ⟨0, by decide, by rw [Int.natCast_zero, Int.add_zero]; exact h, fun j hj => absurd hj (Nat.not_lt_zero j)⟩, ?_⟩, fun x hx => ⟨fun h j hj => ?_, fun h => ?_⟩⟩
  · rintro ⟨d, hd, h, -⟩
    have : d = 0 := by omega
    subst this
    rw [Int.natCast_zero, Int.add_zero] at h
    exact h
  · have : j = 0 := by omega
    subst this
    rw [Int.natCast_zero, Int.add_zero]
    exact h
  · have k := h 0 (by decide)
    rw [Int.natCast_zero, Int.add_zero] at k
    exact k
theorem TL.step {row seeds : Int32} {s : Nat} {f : Int32} {p : Int32 × Int32} (h : TL row seeds s p) (hf : f = nI s) (hs : 0 < s ∧ s < 32) : TL row seeds (s + s) (stL f p) := by
  obtain ⟨h1, h2⟩ := h
  have sh : ∀ (r : Int32) (x : Int), 0 ≤ x → x < 32 → Dx (r <<< (f &&& 31)) x = Dx r (x + s) := fun r x a b => by rw [hf]; exact D_shl hs.2 r a b
  refine ⟨fun x hx => ?_, fun x hx => ?_⟩
  · unfold stL
    dsimp only
    rw [D_or, D_and, Bool.or_eq_true, Bool.and_eq_true]
    constructor
    · rintro (k | ⟨k1, k2⟩)
      · obtain ⟨d, hd, a, b⟩ := (h1 x hx).mp k
        exact ⟨d, by omega, a, b⟩
      · have hx2 := (D_t k1).2
        rw [sh _ _ hx hx2] at k2
        obtain ⟨d, hd, a, b⟩ := (h1 (x + s) (by omega)).mp k2
        have c := (h2 x hx).mp k1
        refine ⟨s + d, by omega, ?_, fun j hj => ?_⟩
        · rw [show x + ((s + d : Nat) : Int) = x + s + d by omega]; exact a
        · by_cases z : j < s
          · exact c j z
          · have k := b (j - s) (by omega)
            rw [show x + (s : Int) + ((j - s : Nat) : Int) = x + j by omega] at k
            exact k
    · rintro ⟨d, hd, a, b⟩
      by_cases z : d < s
      · exact Or.inl ((h1 x hx).mpr ⟨d, z, a, b⟩)
      · right
        have k1 : Dx p.2 x = true := (h2 x hx).mpr fun j hj => b j (by omega)
        have hx2 := (D_t k1).2
        refine ⟨k1, ?_⟩
        rw [sh _ _ hx hx2]
        refine (h1 (x + s) (by omega)).mpr ⟨d - s, by omega, ?_, fun j hj => ?_⟩
        · rw [show x + (s : Int) + ((d - s : Nat) : Int) = x + d by omega]; exact a
        · have k := b (s + j) (by omega)
          rw [show x + ((s + j : Nat) : Int) = x + s + j by omega] at k
          exact k
  · unfold stL
    dsimp only
    rw [D_and, Bool.and_eq_true]
    constructor
    · rintro ⟨k1, k2⟩ j hj
      have hx2 := (D_t k1).2
      rw [sh _ _ hx hx2] at k2
      by_cases z : j < s
      · exact (h2 x hx).mp k1 j z
      · have k := (h2 (x + s) (by omega)).mp k2 (j - s) (by omega)
        rw [show x + (s : Int) + ((j - s : Nat) : Int) = x + j by omega] at k
        exact k
    · intro k
      have k1 : Dx p.2 x = true := (h2 x hx).mpr fun j hj => k j (by omega)
      have hx2 := (D_t k1).2
      refine ⟨k1, ?_⟩
      rw [sh _ _ hx hx2]
      refine (h2 (x + s) (by omega)).mpr fun j hj => ?_
      have k3 := k (s + j) (by omega)
      rw [show x + ((s + j : Nat) : Int) = x + s + j by omega] at k3
      exact k3
theorem TR.zero {row seeds : Int32} : TR row seeds 1 (seeds, row) := by
  refine ⟨fun x hx => ⟨fun h => ⟨0, by decide, by rw [Int.natCast_zero, Int.sub_zero]; exact h, fun j hj => absurd hj (Nat.not_lt_zero j)⟩, ?_⟩, fun x hx => ⟨fun h j hj => ?_, fun h => ?_⟩⟩
  · rintro ⟨d, hd, h, -⟩
    have : d = 0 := by omega
    subst this
    rw [Int.natCast_zero, Int.sub_zero] at h
    exact h
  · have : j = 0 := by omega
    subst this
    rw [Int.natCast_zero, Int.sub_zero]
    exact h
  · have k := h 0 (by decide)
    rw [Int.natCast_zero, Int.sub_zero] at k
    exact k
theorem TR.step {row seeds : Int32} {s : Nat} {f : Int32} {p : Int32 × Int32} (h : TR row seeds s p) (hf : f = nI s) (hs : 0 < s ∧ s < 32) : TR row seeds (s + s) (stR f p) := by
  obtain ⟨h1, h2⟩ := h
  have sh : ∀ (r : Int32) (x : Int), 0 ≤ x → x < 32 → Dx (uShr r f) x = Dx r (x - s) := fun r x a b => by rw [hf]; exact D_ushr hs.2 r a b
  refine ⟨fun x hx => ?_, fun x hx => ?_⟩
  · unfold stR
    dsimp only
    rw [D_or, D_and, Bool.or_eq_true, Bool.and_eq_true]
    constructor
    · rintro (k | ⟨k1, k2⟩)
      · obtain ⟨d, hd, a, b⟩ := (h1 x hx).mp k
        exact ⟨d, by omega, a, b⟩
      · have hx2 := (D_t k1).1
        rw [sh _ _ hx2 hx] at k2
        obtain ⟨d, hd, a, b⟩ := (h1 (x - s) (by omega)).mp k2
        have c := (h2 x hx).mp k1
        refine ⟨s + d, by omega, ?_, fun j hj => ?_⟩
        · rw [show x - ((s + d : Nat) : Int) = x - s - d by omega]; exact a
        · by_cases z : j < s
          · exact c j z
          · have k := b (j - s) (by omega)
            rw [show x - (s : Int) - ((j - s : Nat) : Int) = x - j by omega] at k
            exact k
    · rintro ⟨d, hd, a, b⟩
      by_cases z : d < s
      · exact Or.inl ((h1 x hx).mpr ⟨d, z, a, b⟩)
      · right
        have k1 : Dx p.2 x = true := (h2 x hx).mpr fun j hj => b j (by omega)
        have hx2 := (D_t k1).1
        refine ⟨k1, ?_⟩
        rw [sh _ _ hx2 hx]
        refine (h1 (x - s) (by omega)).mpr ⟨d - s, by omega, ?_, fun j hj => ?_⟩
        · rw [show x - (s : Int) - ((d - s : Nat) : Int) = x - d by omega]; exact a
        · have k := b (s + j) (by omega)
          rw [show x - ((s + j : Nat) : Int) = x - s - j by omega] at k
          exact k
  · unfold stR
    dsimp only
    rw [D_and, Bool.and_eq_true]
    constructor
    · rintro ⟨k1, k2⟩ j hj
      have hx2 := (D_t k1).1
      rw [sh _ _ hx2 hx] at k2
      by_cases z : j < s
      · exact (h2 x hx).mp k1 j z
      · have k := (h2 (x - s) (by omega)).mp k2 (j - s) (by omega)
        rw [show x - (s : Int) - ((j - s : Nat) : Int) = x - j by omega] at k
        exact k
    · intro k
      have k1 : Dx p.2 x = true := (h2 x hx).mpr fun j hj => k j (by omega)
      have hx2 := (D_t k1).1
      refine ⟨k1, ?_⟩
      rw [sh _ _ hx2 hx]
      refine (h2 (x - s) (by omega)).mpr fun j hj => ?_
      have k3 := k (s + j) (by omega)
      rw [show x - ((s + j : Nat) : Int) = x - s - j by omega] at k3
      exact k3
/-- the runs of a row through seeds -/
theorem runs_e (row seeds : Int32) (x : Int) : Dx (f_X4_runsThrough row seeds) x = true ↔ (∃ d : Nat, d < 32 ∧ 0 ≤ x ∧ Dx seeds (x + d) = true ∧ ∀ j : Nat, j < d → Dx row (x + j) = true) ∨ (∃ d : Nat, d < 32 ∧ x < 32 ∧ Dx seeds (x - d) = true ∧ ∀ j : Nat, j < d → Dx row (x - j) = true) := by
  have hL := TL.step (f := (((1 * 2) * 2) * 2) * 2) (TL.step (f := ((1 * 2) * 2) * 2) (TL.step (f := (1 * 2) * 2) (TL.step (f := 1 * 2) (TL.step (f := 1) (TL.zero (row := row) (seeds := seeds)) rfl (by decide)) (by decide) (by decide)) (by decide) (by decide)) (by decide) (by decide)) (by decide) (by decide)
  have hR := TR.step (f := (((1 * 2) * 2) * 2) * 2) (TR.step (f := ((1 * 2) * 2) * 2) (TR.step (f := (1 * 2) * 2) (TR.step (f := 1 * 2) (TR.step (f := 1) (TR.zero (row := row) (seeds := seeds)) rfl (by decide)) (by decide) (by decide)) (by decide) (by decide)) (by decide) (by decide)) (by decide) (by decide)
  rw [rt_def, D_or, Bool.or_eq_true]
  constructor
  · rintro (k | k)
    · obtain ⟨d, hd, a, b⟩ := (hL.1 x (D_t k).1).mp k
      exact Or.inl ⟨d, hd, (D_t k).1, a, b⟩
    · obtain ⟨d, hd, a, b⟩ := (hR.1 x (D_t k).2).mp k
      exact Or.inr ⟨d, hd, (D_t k).2, a, b⟩
  · rintro (⟨d, hd, h0, a, b⟩ | ⟨d, hd, h0, a, b⟩)
    · exact Or.inl ((hL.1 x h0).mpr ⟨d, hd, a, b⟩)
    · exact Or.inr ((hR.1 x h0).mpr ⟨d, hd, a, b⟩)
theorem runs_sub {row seeds : Int32} (hs : ∀ x, Dx seeds x = true → Dx row x = true) {x : Int} (h : Dx (f_X4_runsThrough row seeds) x = true) : Dx row x = true := by
  rcases (runs_e row seeds x).mp h with ⟨d, hd, h0, a, b⟩ | ⟨d, hd, h0, a, b⟩
  · rcases Nat.eq_zero_or_pos d with z | z
    · subst z
      rw [Int.natCast_zero, Int.add_zero] at a
      exact hs x a
    · have k := b 0 z
      rw [Int.natCast_zero, Int.add_zero] at k
      exact k
  · rcases Nat.eq_zero_or_pos d with z | z
    · subst z
      rw [Int.natCast_zero, Int.sub_zero] at a
      exact hs x a
    · have k := b 0 z
      rw [Int.natCast_zero, Int.sub_zero] at k
      exact k
theorem runs_in {row seeds : Int32} {x : Int} (h : Dx seeds x = true) : Dx (f_X4_runsThrough row seeds) x = true :=
  (runs_e row seeds x).mpr (Or.inl ⟨0, by decide, (D_t h).1, by rw [Int.natCast_zero, Int.add_zero]; exact h, fun j hj => absurd hj (Nat.not_lt_zero j)⟩)
theorem runs_r {row seeds : Int32} {x : Int} (h : Dx (f_X4_runsThrough row seeds) x = true) (hr : Dx row (x + 1) = true) : Dx (f_X4_runsThrough row seeds) (x + 1) = true := by
  have hx := (D_t hr).2
  rcases (runs_e row seeds x).mp h with ⟨d, hd, h0, a, b⟩ | ⟨d, hd, h0, a, b⟩
  · rcases Nat.eq_zero_or_pos d with z | z
    · subst z
      rw [Int.natCast_zero, Int.add_zero] at a
      refine (runs_e row seeds (x + 1)).mpr (Or.inr ⟨1, by decide, hx, ?_, fun j hj => ?_⟩)
      · rw [show x + 1 - ((1 : Nat) : Int) = x by omega]; exact a
      · have : j = 0 := by omega
        subst this
        rw [Int.natCast_zero, Int.sub_zero]
        exact hr
    · refine (runs_e row seeds (x + 1)).mpr (Or.inl ⟨d - 1, by omega, by omega, ?_, fun j hj => ?_⟩)
      · rw [show x + 1 + ((d - 1 : Nat) : Int) = x + d by omega]; exact a
      · have k := b (j + 1) (by omega)
        rw [show x + ((j + 1 : Nat) : Int) = x + 1 + j by omega] at k
        exact k
  · have ha := D_t a
    refine (runs_e row seeds (x + 1)).mpr (Or.inr ⟨d + 1, by omega, hx, ?_, fun j hj => ?_⟩)
    · rw [show x + 1 - ((d + 1 : Nat) : Int) = x - d by omega]; exact a
    · rcases Nat.eq_zero_or_pos j with z | z
      · subst z
        rw [Int.natCast_zero, Int.sub_zero]
        exact hr
      · have k := b (j - 1) (by omega)
        rw [show x - ((j - 1 : Nat) : Int) = x + 1 - j by omega] at k
        exact k
theorem runs_l {row seeds : Int32} {x : Int} (h : Dx (f_X4_runsThrough row seeds) x = true) (hr : Dx row (x - 1) = true) : Dx (f_X4_runsThrough row seeds) (x - 1) = true := by
  have hx := (D_t hr).1
  rcases (runs_e row seeds x).mp h with ⟨d, hd, h0, a, b⟩ | ⟨d, hd, h0, a, b⟩
  · have ha := D_t a
    refine (runs_e row seeds (x - 1)).mpr (Or.inl ⟨d + 1, by omega, hx, ?_, fun j hj => ?_⟩)
    · rw [show x - 1 + ((d + 1 : Nat) : Int) = x + d by omega]; exact a
    · rcases Nat.eq_zero_or_pos j with z | z
      · subst z
        rw [Int.natCast_zero, Int.add_zero]
        exact hr
      · have k := b (j - 1) (by omega)
        rw [show x + ((j - 1 : Nat) : Int) = x - 1 + j by omega] at k
        exact k
  · rcases Nat.eq_zero_or_pos d with z | z
    · subst z
      rw [Int.natCast_zero, Int.sub_zero] at a
      refine (runs_e row seeds (x - 1)).mpr (Or.inl ⟨1, by decide, hx, ?_, fun j hj => ?_⟩)
      · rw [show x - 1 + ((1 : Nat) : Int) = x by omega]; exact a
      · have : j = 0 := by omega
        subst this
        rw [Int.natCast_zero, Int.add_zero]
        exact hr
    · refine (runs_e row seeds (x - 1)).mpr (Or.inr ⟨d - 1, by omega, by omega, ?_, fun j hj => ?_⟩)
      · rw [show x - 1 - ((d - 1 : Nat) : Int) = x - d by omega]; exact a
      · have k := b (j + 1) (by omega)
        rw [show x - ((j + 1 : Nat) : Int) = x - 1 - j by omega] at k
        exact k
theorem runs_min {row seeds : Int32} {T : Int → Prop} (hs : ∀ x, Dx seeds x = true → T x) (hr : ∀ x, T x → Dx row (x + 1) = true → T (x + 1)) (hl : ∀ x, T x → Dx row (x - 1) = true → T (x - 1)) {x : Int} (h : Dx (f_X4_runsThrough row seeds) x = true) : T x := by
  rcases (runs_e row seeds x).mp h with ⟨d, hd, h0, a, b⟩ | ⟨d, hd, h0, a, b⟩
  · have key : ∀ k, k ≤ d → T (x + ((d - k : Nat) : Int)) := by
      intro k
      induction k with
      | zero => intro _; exact hs _ a
      | succ k ih =>
        intro hk
        have k1 := hl _ (ih (by omega)) (by
          have k2 := b (d - (k + 1)) (by omega)
          rw [show x + ((d - k : Nat) : Int) - 1 = x + ((d - (k + 1) : Nat) : Int) by omega]
          exact k2)
        rw [show x + ((d - k : Nat) : Int) - 1 = x + ((d - (k + 1) : Nat) : Int) by omega] at k1
        exact k1
    have k := key d (Nat.le_refl _)
    rw [Nat.sub_self, Int.natCast_zero, Int.add_zero] at k
    exact k
  · have key : ∀ k, k ≤ d → T (x - ((d - k : Nat) : Int)) := by
      intro k
      induction k with
      | zero => intro _; exact hs _ a
      | succ k ih =>
        intro hk
        have k1 := hr _ (ih (by omega)) (by
          have k2 := b (d - (k + 1)) (by omega)
          rw [show x - ((d - k : Nat) : Int) + 1 = x - ((d - (k + 1) : Nat) : Int) by omega]
          exact k2)
        rw [show x - ((d - k : Nat) : Int) + 1 = x - ((d - (k + 1) : Nat) : Int) by omega] at k1
        exact k1
    have k := key d (Nat.le_refl _)
    rw [Nat.sub_self, Int.natCast_zero, Int.sub_zero] at k
    exact k
