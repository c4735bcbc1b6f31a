/-- an order, as both read it -/
theorem rd_tie {bytes text nums nargs : Nat → Int32} {len p p' num op : Int32} (hx : TX bytes text len) (hp : tP len p) (hp' : tP len p') (hs : g_X9_skip_place text len p = g_X9_skip_place text len p') :
    (f_X9_reads text len p' nargs op = -1 → (f_X2_byteHere bytes len (g_X9_skip_place text len p) = 111 ∧ op = 4 ∧ g_X9_reads_place text len p' nargs op = g_X9_skip_place text len p) ∨ (¬ (f_X2_byteHere bytes len (g_X9_skip_place text len p) = 111 ∧ op = 4) ∧ f_X2_reads bytes len p num nums = g_X9_reads_place text len p' nargs op ∧ ¬ f_X2_reads bytes len p num nums = -1)) ∧
    (¬ f_X9_reads text len p' nargs op = -1 → ¬ (f_X2_byteHere bytes len (g_X9_skip_place text len p) = 111 ∧ op = 4) ∧ f_X2_reads bytes len p num nums = -1 ∧ g_X2_reads_place bytes len p num nums = g_X9_reads_place text len p' nargs op ∧ (∀ j, j < (f_X9_manyOf (f_X9_reads text len p' nargs op)).toNatClampNeg → g_X2_reads_nums bytes len p num nums j = g_X9_reads_nargs text len p' nargs op j) ∧ (∀ s, g_X2_reads_sign bytes len p num nums s = f_X9_reads text len p' nargs op) ∧ ∀ s, g_X2_reads_osz bytes len p num nums s = f_X9_manyOf (f_X9_reads text len p' nargs op)) := by
  have hq := tP_ms (text := text) hp
  have rf := rd_f (text := text) (len := len) (place := p')
  have eb : f_X2_byteHere bytes len (g_X9_skip_place text len p) = (if len ≤ (g_X9_skip_place text len p') then (-1) else (text (g_X9_skip_place text len p').toNatClampNeg) : Int32) := by rw [bh_e hx hq, hs]
  unfold f_X9_reads g_X9_reads_place g_X9_reads_nargs f_X2_reads g_X2_reads_place g_X2_reads_nums g_X2_reads_sign g_X2_reads_osz
  rw [sk_e hx hp, ← hs]
  rw [← hs] at eb rf
  sorry
