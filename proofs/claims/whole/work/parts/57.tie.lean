/-- an order, as both read it -/
theorem rd_tie {bytes text nums nargs : Nat → Int32} {len p p' num op : Int32} (hx : TX bytes text len) (hp : tP len p) (hp' : tP len p') (hs : g_X9_skip_place text len p = g_X9_skip_place text len p') :
    (f_X9_reads text len p' nargs op = -1 → (f_X2_byteHere bytes len (g_X9_skip_place text len p) = 111 ∧ op = 4 ∧ g_X9_reads_place text len p' nargs op = g_X9_skip_place text len p) ∨ (¬ (f_X2_byteHere bytes len (g_X9_skip_place text len p) = 111 ∧ op = 4) ∧ f_X2_reads bytes len p num nums = g_X9_reads_place text len p' nargs op ∧ ¬ f_X2_reads bytes len p num nums = -1)) ∧
    (¬ f_X9_reads text len p' nargs op = -1 → ¬ (f_X2_byteHere bytes len (g_X9_skip_place text len p) = 111 ∧ op = 4) ∧ f_X2_reads bytes len p num nums = -1 ∧ g_X2_reads_place bytes len p num nums = g_X9_reads_place text len p' nargs op ∧ (∀ j, j < (f_X9_manyOf (f_X9_reads text len p' nargs op)).toNatClampNeg → g_X2_reads_nums bytes len p num nums j = g_X9_reads_nargs text len p' nargs op j) ∧ (∀ s, g_X2_reads_sign bytes len p num nums s = f_X9_reads text len p' nargs op) ∧ ∀ s, g_X2_reads_osz bytes len p num nums s = f_X9_manyOf (f_X9_reads text len p' nargs op)) := by
  have hq := tP_ms (text := text) hp
  have rf := rd_f (text := text) (len := len) (place := p')
  have eb : f_X2_byteHere bytes len (g_X9_skip_place text len p) = (if len ≤ (g_X9_skip_place text len p') then (-1) else (text (g_X9_skip_place text len p').toNatClampNeg) : Int32) := by rw [bh_e hx hq, hs]
  unfold f_X9_reads g_X9_reads_place g_X9_reads_nargs f_X2_reads g_X2_reads_place g_X2_reads_nums g_X2_reads_sign g_X2_reads_osz
  rw [sk_e hx hp, ← hs]
  rw [← hs] at eb rf
  obtain ⟨c, hc⟩ : ∃ c, f_X2_byteHere bytes len (g_X9_skip_place text len p) = c := ⟨_, rfl⟩
  have L := fun (hm : ¬ f_X9_manyOf c = -1) (hu : tP len (g_X9_skip_place text len p + 1)) => rd_l (place := p) (place' := p') (c := c) hx hm (by rw [sk_e hx hp]; exact hc) (by rw [← hs, ← eb]; exact hc) (f_X9_manyOf c).toNatClampNeg 0 (g_X9_skip_place text len p + 1) num nums nargs (Nat.add_zero _) hu (Or.inl rfl) (fun j hj => absurd hj (Nat.not_lt_zero j))
  rw [← eb] at rf ⊢
  rw [hc] at rf ⊢
  by_cases hm : f_X9_manyOf c = -1
  · have sg := (sg_e c).mpr hm
    rw [if_pos hm, if_pos hm, if_pos sg]
    refine ⟨fun _ => Or.inr ⟨fun z => ?_, rfl, tP_m1 hq⟩, fun z => absurd rfl z⟩
    rw [z.1] at hm
    exact absurd hm (by decide)
  · have sg : ¬ f_X1_isSign c = 0 := fun z => hm ((sg_e c).mp z)
    have L := L hm (tP_up hq (fun z => hm (by rw [← hc, bh_e hx hq, if_pos z]; decide))).1
    rw [show sAt (f_X9_sortsOf c) 0 = f_X9_sortsOf c from rfl, show nI 0 = 0 from rfl] at L
    rw [if_neg hm, if_neg hm, if_neg hm, if_neg sg, if_neg sg, if_neg sg, ln_e hm, show g_X1_begins_osz = 0 from rfl, show g_X1_begins_aw = 1 from rfl]
    simp only [if_neg sg]
    have rf0 := rf (f_X9_manyOf c).toNatClampNeg 0 (f_X9_sortsOf c, g_X9_skip_place text len p + 1, nargs)
    generalize r_X9_reads_72 text len p' (f_X9_manyOf c).toNatClampNeg 0 (f_X9_sortsOf c, g_X9_skip_place text len p + 1, nargs) = R at *
    generalize r_X2_reads_38 bytes len p (f_X9_manyOf c).toNatClampNeg 0 (g_X9_skip_place text len p + 1, num, nums, 0, 1) = C at *
    by_cases hf : c = 111 ∧ op = 4
    · rw [if_pos hf.1, if_pos hf.1, if_pos hf.1, if_pos hf.2, if_pos hf.2, if_pos hf.2]
      exact ⟨fun _ => Or.inl ⟨hf.1, hf.2, rfl⟩, fun z => absurd rfl z⟩
    · have e1 : ∀ (α : Type) (a b : α), (if c = 111 then if op = 4 then a else b else b) = b := fun α a b => by
        by_cases w : c = 111
        · rw [if_pos w, if_neg (fun z => hf ⟨w, z⟩)]
        · rw [if_neg w]
      rw [e1, e1, e1]
      refine ⟨fun h => Or.inr ⟨hf, L.1 h⟩, fun h => ?_⟩
      obtain ⟨a, b, d, e, f⟩ := L.2 h
      rw [rf0 h]
      exact ⟨hf, a, b, d, fun _ => e, fun _ => f⟩