/-- one picture state: the class's rows, pattern, openings against the reference's one row -/
def Rs (rows pat ops : Nat → Int32) (cnt : Int32) (now : Nat → Int32) : Prop :=
  (∀ k : Nat, k < 72 → rows k = now k) ∧ (∀ k : Nat, k < 8 → pat k = now (72 + k) ∧ 0 ≤ (pat k).toInt ∧ (pat k).toInt ≤ 255) ∧ cnt = now 96 ∧ cOk cnt ∧
  ∀ k : Nat, (k : Int) < cnt.toInt → (∀ j : Nat, j < 4 → ops (4 * k + j) = now (80 + (4 * k + j))) ∧ pX (ops (4 * k)) ∧ pX (ops (4 * k + 1)) ∧ (1 ≤ (ops (4 * k + 2)).toInt ∧ (ops (4 * k + 2)).toInt ≤ 64) ∧ (1 ≤ (ops (4 * k + 3)).toInt ∧ (ops (4 * k + 3)).toInt ≤ 64)
/-- the place in the ring of the j-th state that can come back -/
def ri (next size : Int32) (j : Nat) : Nat := (next.toNatClampNeg + 6 - size.toNatClampNeg + j) % 6
def Rp (krows kpat kops : Nat → Nat → Int32) (kcnt : Nat → Int32) (next size : Int32) (past : Nat → Int32) (states : Int32) : Prop :=
  nOk next ∧ size = states ∧ qOk size ∧ ∀ j : Nat, (j : Int) < size.toInt → Rs (krows (ri next size j)) (kpat (ri next size j)) (kops (ri next size j)) (kcnt (ri next size j)) (fun k => past (97 * j + k))
def Rt (bytes : Nat → Int32) (len : Int32) (text : Nat → Int32) (textL : Int32) : Prop :=
  len = textL ∧ tL len ∧ ∀ k : Nat, (k : Int) < len.toInt → bytes k = text k ∧ 0 ≤ (text k).toInt ∧ (text k).toInt ≤ 127
/-- the class's state against the reference's -/
def Rel (rows pat ops : Nat → Int32) (cnt : Int32) (krows kpat kops : Nat → Nat → Int32) (kcnt : Nat → Int32) (next size : Int32) (bytes : Nat → Int32) (len bads noes fulls osz : Int32) (now past : Nat → Int32) (states : Int32) (refused text : Nat → Int32) (textL : Int32) : Prop :=
  Rs rows pat ops cnt now ∧ Rp krows kpat kops kcnt next size past states ∧ Rt bytes len text textL ∧ (bads = refused 0 ∧ noes = refused 1 ∧ fulls = refused 2) ∧ oOk osz

theorem Rel.facts {rows : Nat → Int32} {pat : Nat → Int32} {ops : Nat → Int32} {cnt : Int32} {krows : Nat → Nat → Int32} {kpat : Nat → Nat → Int32} {kops : Nat → Nat → Int32} {kcnt : Nat → Int32} {next : Int32} {size : Int32} {bytes : Nat → Int32} {len : Int32} {bads : Int32} {noes : Int32} {fulls : Int32} {osz : Int32} {now : Nat → Int32} {past : Nat → Int32} {states : Int32} {refused : Nat → Int32} {text : Nat → Int32} {textL : Int32} (h : Rel rows pat ops cnt krows kpat kops kcnt next size bytes len bads noes fulls osz now past states refused text textL) : nOk next ∧ cOk cnt ∧ oOk osz ∧ tL len ∧ qOk states ∧ mOk now ∧ tL textL := by
  obtain ⟨⟨-, -, e, hc, -⟩, ⟨hn, e2, hq, -⟩, ⟨e3, ht, -⟩, -, ho⟩ := h
  refine ⟨hn, hc, ho, ht, e2 ▸ hq, ?_, e3 ▸ ht⟩
  unfold mOk
  rw [show (96 : Int32).toNatClampNeg = 96 by decide, ← e]
  exact hc
