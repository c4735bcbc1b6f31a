/-- the sorts that are left at the j-th number -/
def sAt (s : Int32) : Nat → Int32
  | 0 => s
  | j + 1 => sAt (s / 10) j
theorem if3_ne {a b c : Prop} [Decidable a] [Decidable b] [Decidable c] (h : ¬ (if a then 0 else if b then 0 else if c then 0 else 1 : Int32) = 0) : ¬ c := fun hc => by
  by_cases ha : a
  · rw [if_pos ha] at h; exact h rfl
  · rw [if_neg ha] at h
    by_cases hb : b
    · rw [if_pos hb] at h; exact h rfl
    · rw [if_neg hb, if_pos hc] at h; exact h rfl
theorem tk_as {text nargs : Nat → Int32} {len place k sort : Int32} (h : ¬ f_X9_takes text len place k sort = 0) : ¬ f_X9_isAs sort (g_X9_takes_nargs text len place nargs k k.toNatClampNeg) = 0 := by
  unfold g_X9_takes_nargs
  rw [pk_us]
  unfold f_X9_takes at h
  exact if3_ne h
theorem rd_r {text : Nat → Int32} {len place : Int32} : ∀ (n i : Nat) (z : Int32 × Int32 × (Nat → Int32)), i + n ≤ 9 → ¬ (r_X9_reads_72 text len place n i z).1 = -1 → (∀ j : Nat, j < i → (r_X9_reads_72 text len place n i z).2.2 j = z.2.2 j) ∧ (∀ j : Nat, j < n → ¬ f_X9_isAs (sAt z.1 j - sAt z.1 j / 10 * 10) ((r_X9_reads_72 text len place n i z).2.2 (i + j)) = 0)
  | 0, i, z, hi, h => ⟨fun j hj => by unfold r_X9_reads_72; split <;> rfl, fun j hj => absurd hj (Nat.not_lt_zero _)⟩
  | n + 1, i, z, hi, h => by
    unfold r_X9_reads_72 at h ⊢
    by_cases q : f_X9_takes text len z.2.1 (nI i) (z.1 - z.1 / 10 * 10) = 0
    · rw [if_pos q] at h; exact absurd rfl h
    · rw [if_neg q] at h ⊢
      obtain ⟨a, b⟩ := rd_r n (i + 1) _ (by omega) h
      have ei : (nI i).toNatClampNeg = i := pk_cl i
      refine ⟨fun j hj => ?_, fun j hj => ?_⟩
      · rw [a j (by omega)]
        dsimp only
        unfold g_X9_takes_nargs
        exact pk_un (by omega)
      · cases j with
        | zero =>
          have h2 := tk_as (nargs := z.2.2) q
          rw [ei] at h2
          have h3 : (r_X9_reads_72 text len place n (i + 1) (z.1 / 10, g_X9_takes_place text len z.2.1 (nI i) (z.1 - z.1 / 10 * 10), g_X9_takes_nargs text len z.2.1 z.2.2 (nI i))).2.2 (i + 0) = g_X9_takes_nargs text len z.2.1 z.2.2 (nI i) i := a i (by omega)
          rw [h3]
          exact h2
        | succ j =>
          have h2 := b j (by omega)
          rw [show i + (j + 1) = i + 1 + j by omega]
          exact h2
