theorem ae_e {bytes text : Nat → Int32} {len p : Int32} (hx : TX bytes text len) (hp : tP len p) : f_X2_isAtEnd bytes len p = (if len ≤ g_X9_skip_place text len p then 1 else 0) ∧ g_X2_isAtEnd_place bytes len p = g_X9_skip_place text len p := by
  unfold f_X2_isAtEnd g_X2_isAtEnd_place
  rw [sk_e hx hp]
  refine ⟨?_, rfl⟩
  by_cases q : len ≤ g_X9_skip_place text len p
  · rw [if_pos q, if_neg (fun z => by have := Int32.lt_iff_toInt_lt.mp z; have := Int32.le_iff_toInt_le.mp q; omega)]
  · rw [if_neg q, if_pos (Int32.lt_iff_toInt_lt.mpr (by have : ¬ len.toInt ≤ (g_X9_skip_place text len p).toInt := fun z => q (Int32.le_iff_toInt_le.mpr z); omega))]
theorem cl_e {b op : Int32} (hb : 0 ≤ op.toInt ∧ op.toInt ≤ 4) (h : ¬ (b = 111 ∧ op = 4)) : ∀ (α : Type) (x y : α), (if b = 111 then if op < 4 then x else y else x) = x := fun α x y => by
  by_cases w : b = 111
  · have n4 : ¬ op.toInt = 4 := fun z => h ⟨w, Int32.toInt_inj.mp z⟩
    have e4 : (4 : Int32).toInt = 4 := rfl
    rw [if_pos w, if_pos (Int32.lt_iff_toInt_lt.mpr (by omega))]
  · rw [if_neg w]
theorem op_b {op c : Int32} (hb : 0 ≤ op.toInt ∧ op.toInt ≤ 4) (h : c = 111 → ¬ op = 4) : 0 ≤ (if c = 107 then 0 else if c = 111 then op + 1 else op : Int32).toInt ∧ (if c = 107 then 0 else if c = 111 then op + 1 else op : Int32).toInt ≤ 4 := by
  by_cases w : c = 107
  · rw [if_pos w]; decide
  · rw [if_neg w]
    by_cases u : c = 111
    · have n4 : ¬ op.toInt = 4 := fun z => h u (Int32.toInt_inj.mp z)
      have e1 : (1 : Int32).toInt = 1 := rfl
      rw [if_pos u, tI_add (by omega) (by omega)]
      omega
    · rw [if_neg u]; exact hb
def gN (text : Nat → Int32) (len ad : Int32) (zr : Int32 × Int32 × Int32 × (Nat → Int32) × (Nat → Int32) × (Nat → Int32) × (Nat → Int32) × Int32 × Int32 × (Nat → Int32)) : Int32 × Int32 × Int32 × (Nat → Int32) × (Nat → Int32) × (Nat → Int32) × (Nat → Int32) × Int32 × Int32 × (Nat → Int32) := ((if (f_X9_reads text len zr.2.2.2.2.2.2.2.2.1 zr.2.2.2.2.2.2.2.2.2 zr.1) = 107 then 0 else (if (f_X9_reads text len zr.2.2.2.2.2.2.2.2.1 zr.2.2.2.2.2.2.2.2.2 zr.1) = 111 then (zr.1 + 1) else zr.1 : Int32) : Int32), zr.2.1 + (if ad = 0 then 0 else (f_X9_doesOne zr.2.2.2.1 zr.2.2.2.2.1 zr.2.2.2.2.2.1 zr.2.2.2.2.2.2.1 (g_X9_reads_nargs text len zr.2.2.2.2.2.2.2.2.1 zr.2.2.2.2.2.2.2.2.2 zr.1) (f_X9_reads text len zr.2.2.2.2.2.2.2.2.1 zr.2.2.2.2.2.2.2.2.2 zr.1)) : Int32), (if len ≤ (g_X9_skip_place text len (g_X9_reads_place text len zr.2.2.2.2.2.2.2.2.1 zr.2.2.2.2.2.2.2.2.2 zr.1)) then 0 else 1 : Int32), (if ad = 0 then zr.2.2.2.1 else (g_X9_doesOne_now zr.2.2.2.1 zr.2.2.2.2.1 zr.2.2.2.2.2.1 zr.2.2.2.2.2.2.1 (g_X9_reads_nargs text len zr.2.2.2.2.2.2.2.2.1 zr.2.2.2.2.2.2.2.2.2 zr.1) (f_X9_reads text len zr.2.2.2.2.2.2.2.2.1 zr.2.2.2.2.2.2.2.2.2 zr.1)) : Nat → Int32), (if ad = 0 then zr.2.2.2.2.1 else (g_X9_doesOne_aside zr.2.2.2.1 zr.2.2.2.2.1 (f_X9_reads text len zr.2.2.2.2.2.2.2.2.1 zr.2.2.2.2.2.2.2.2.2 zr.1)) : Nat → Int32), (if ad = 0 then zr.2.2.2.2.2.1 else (g_X9_doesOne_pile zr.2.2.2.1 zr.2.2.2.2.2.1 zr.2.2.2.2.2.2.1 (g_X9_reads_nargs text len zr.2.2.2.2.2.2.2.2.1 zr.2.2.2.2.2.2.2.2.2 zr.1) (f_X9_reads text len zr.2.2.2.2.2.2.2.2.1 zr.2.2.2.2.2.2.2.2.2 zr.1)) : Nat → Int32), (if ad = 0 then zr.2.2.2.2.2.2.1 else (g_X9_doesOne_came zr.2.2.2.1 zr.2.2.2.2.2.1 zr.2.2.2.2.2.2.1 (g_X9_reads_nargs text len zr.2.2.2.2.2.2.2.2.1 zr.2.2.2.2.2.2.2.2.2 zr.1) (f_X9_reads text len zr.2.2.2.2.2.2.2.2.1 zr.2.2.2.2.2.2.2.2.2 zr.1)) : Nat → Int32), (if ad = 0 then zr.2.2.2.2.2.2.2.1 else (g_X9_doesOne_pileL zr.2.2.2.1 zr.2.2.2.2.2.1 zr.2.2.2.2.2.2.1 zr.2.2.2.2.2.2.2.1 (g_X9_reads_nargs text len zr.2.2.2.2.2.2.2.2.1 zr.2.2.2.2.2.2.2.2.2 zr.1) (f_X9_reads text len zr.2.2.2.2.2.2.2.2.1 zr.2.2.2.2.2.2.2.2.2 zr.1)) : Int32), g_X9_skip_place text len (g_X9_reads_place text len zr.2.2.2.2.2.2.2.2.1 zr.2.2.2.2.2.2.2.2.2 zr.1), g_X9_reads_nargs text len zr.2.2.2.2.2.2.2.2.1 zr.2.2.2.2.2.2.2.2.2 zr.1)
theorem g_end {text : Nat → Int32} {len ad : Int32} {n i : Nat} {zr : Int32 × Int32 × Int32 × (Nat → Int32) × (Nat → Int32) × (Nat → Int32) × (Nat → Int32) × Int32 × Int32 × (Nat → Int32)} (h : zr.2.2.1 = 0) : (r_X9_goesThrough_18 text len ad (n + 1) i zr).1 = zr.2.1 ∧ (r_X9_goesThrough_18 text len ad (n + 1) i zr).2.1 = zr.2.2.2.1 := by
  have e : r_X9_goesThrough_18 text len ad (n + 1) i zr = r_X9_goesThrough_18 text len ad 0 i zr := by
    unfold r_X9_goesThrough_18
    rw [if_pos h]
  rw [e]
  exact ⟨rfl, rfl⟩
theorem g_bad {text : Nat → Int32} {len ad : Int32} {n i : Nat} {zr : Int32 × Int32 × Int32 × (Nat → Int32) × (Nat → Int32) × (Nat → Int32) × (Nat → Int32) × Int32 × Int32 × (Nat → Int32)} (h : ¬ zr.2.2.1 = 0) (hr : f_X9_reads text len (zr.2.2.2.2.2.2.2.2.1) (zr.2.2.2.2.2.2.2.2.2) zr.1 = -1) : (r_X9_goesThrough_18 text len ad (n + 1) i zr).1 = -1 ∧ (r_X9_goesThrough_18 text len ad (n + 1) i zr).2.2.2.2.2.2.1 = g_X9_reads_place text len (zr.2.2.2.2.2.2.2.2.1) (zr.2.2.2.2.2.2.2.2.2) zr.1 := by
  have e : r_X9_goesThrough_18 text len ad (n + 1) i zr = (-1, zr.2.2.2.1, zr.2.2.2.2.1, zr.2.2.2.2.2.1, zr.2.2.2.2.2.2.1, zr.2.2.2.2.2.2.2.1, g_X9_reads_place text len (zr.2.2.2.2.2.2.2.2.1) (zr.2.2.2.2.2.2.2.2.2) zr.1, g_X9_reads_nargs text len (zr.2.2.2.2.2.2.2.2.1) (zr.2.2.2.2.2.2.2.2.2) zr.1) := by
    unfold r_X9_goesThrough_18
    rw [if_neg h, if_pos hr]
  rw [e]
  exact ⟨rfl, rfl⟩
theorem g_go {text : Nat → Int32} {len ad : Int32} {n i : Nat} {zr : Int32 × Int32 × Int32 × (Nat → Int32) × (Nat → Int32) × (Nat → Int32) × (Nat → Int32) × Int32 × Int32 × (Nat → Int32)} (h : ¬ zr.2.2.1 = 0) (hr : ¬ f_X9_reads text len (zr.2.2.2.2.2.2.2.2.1) (zr.2.2.2.2.2.2.2.2.2) zr.1 = -1) : r_X9_goesThrough_18 text len ad (n + 1) i zr = r_X9_goesThrough_18 text len ad n (i + 1) (gN text len ad zr) := by
  unfold gN
  conv => lhs; unfold r_X9_goesThrough_18
  rw [if_neg h, if_neg hr]
def fN (bytes : Nat → Int32) (len : Int32) (zf : Int32 × Int32 × Int32 × (Nat → Int32) × Int32 × Nat × Int32 × Int32) : Int32 × Int32 × Int32 × (Nat → Int32) × Int32 × Nat × Int32 × Int32 := (f_X2_openingsAfter (g_X2_reads_sign bytes len (g_X2_isAtEnd_place bytes len zf.2.1) zf.2.2.1 zf.2.2.2.1 zf.2.2.2.2.1) zf.1, g_X2_reads_place bytes len (g_X2_isAtEnd_place bytes len zf.2.1) zf.2.2.1 zf.2.2.2.1, g_X2_reads_num bytes len (g_X2_isAtEnd_place bytes len zf.2.1) zf.2.2.1 zf.2.2.2.1, g_X2_reads_nums bytes len (g_X2_isAtEnd_place bytes len zf.2.1) zf.2.2.1 zf.2.2.2.1, g_X2_reads_sign bytes len (g_X2_isAtEnd_place bytes len zf.2.1) zf.2.2.1 zf.2.2.2.1 zf.2.2.2.2.1, g_X2_reads_kix bytes len (g_X2_isAtEnd_place bytes len zf.2.1) zf.2.2.1 zf.2.2.2.1 zf.2.2.2.2.2.1, g_X2_reads_osz bytes len (g_X2_isAtEnd_place bytes len zf.2.1) zf.2.2.1 zf.2.2.2.1 zf.2.2.2.2.2.2.1, g_X2_reads_aw bytes len (g_X2_isAtEnd_place bytes len zf.2.1) zf.2.2.1 zf.2.2.2.1 zf.2.2.2.2.2.2.2)
theorem f_end {bytes : Nat → Int32} {len : Int32} {n i : Nat} {zf : Int32 × Int32 × Int32 × (Nat → Int32) × Int32 × Nat × Int32 × Int32} (h : ¬ f_X2_isAtEnd bytes len zf.2.1 = 0) : (r_X2_faultIn_21 bytes len (n + 1) i zf).1 = -1 := by
  unfold r_X2_faultIn_21
  rw [if_neg h]
theorem f_full {bytes : Nat → Int32} {len : Int32} {n i : Nat} {zf : Int32 × Int32 × Int32 × (Nat → Int32) × Int32 × Nat × Int32 × Int32} (h : f_X2_isAtEnd bytes len zf.2.1 = 0) (hb : f_X2_byteHere bytes len (g_X2_isAtEnd_place bytes len zf.2.1) = 111) (h4 : ¬ zf.1 < 4) : (r_X2_faultIn_21 bytes len (n + 1) i zf).1 = g_X2_isAtEnd_place bytes len zf.2.1 := by
  unfold r_X2_faultIn_21
  rw [if_pos h, if_pos hb, if_neg h4]
theorem f_bad {bytes : Nat → Int32} {len : Int32} {n i : Nat} {zf : Int32 × Int32 × Int32 × (Nat → Int32) × Int32 × Nat × Int32 × Int32} (h : f_X2_isAtEnd bytes len zf.2.1 = 0) (hb : 0 ≤ zf.1.toInt ∧ zf.1.toInt ≤ 4) (h4 : ¬ (f_X2_byteHere bytes len (g_X2_isAtEnd_place bytes len zf.2.1) = 111 ∧ zf.1 = 4)) (hr : ¬ f_X2_reads bytes len (g_X2_isAtEnd_place bytes len zf.2.1) zf.2.2.1 zf.2.2.2.1 = -1) : (r_X2_faultIn_21 bytes len (n + 1) i zf).1 = f_X2_reads bytes len (g_X2_isAtEnd_place bytes len zf.2.1) zf.2.2.1 zf.2.2.2.1 := by
  unfold r_X2_faultIn_21
  rw [if_pos h, cl_e hb h4, if_neg hr]
theorem f_go {bytes : Nat → Int32} {len : Int32} {n i : Nat} {zf : Int32 × Int32 × Int32 × (Nat → Int32) × Int32 × Nat × Int32 × Int32} (h : f_X2_isAtEnd bytes len zf.2.1 = 0) (hb : 0 ≤ zf.1.toInt ∧ zf.1.toInt ≤ 4) (h4 : ¬ (f_X2_byteHere bytes len (g_X2_isAtEnd_place bytes len zf.2.1) = 111 ∧ zf.1 = 4)) (hr : f_X2_reads bytes len (g_X2_isAtEnd_place bytes len zf.2.1) zf.2.2.1 zf.2.2.2.1 = -1) : r_X2_faultIn_21 bytes len (n + 1) i zf = r_X2_faultIn_21 bytes len n (i + 1) (fN bytes len zf) := by
  unfold fN
  conv => lhs; unfold r_X2_faultIn_21
  rw [if_pos h, cl_e hb h4, if_pos hr]
theorem fN_p {bytes : Nat → Int32} {len : Int32} {zf : Int32 × Int32 × Int32 × (Nat → Int32) × Int32 × Nat × Int32 × Int32} : (fN bytes len zf).2.1 = g_X2_reads_place bytes len (g_X2_isAtEnd_place bytes len zf.2.1) zf.2.2.1 zf.2.2.2.1 := by unfold fN; dsimp only
theorem fN_o {bytes : Nat → Int32} {len : Int32} {zf : Int32 × Int32 × Int32 × (Nat → Int32) × Int32 × Nat × Int32 × Int32} : (fN bytes len zf).1 = f_X2_openingsAfter (g_X2_reads_sign bytes len (g_X2_isAtEnd_place bytes len zf.2.1) zf.2.2.1 zf.2.2.2.1 zf.2.2.2.2.1) zf.1 := by unfold fN; dsimp only
theorem gN_p {text : Nat → Int32} {len ad : Int32} {zr : Int32 × Int32 × Int32 × (Nat → Int32) × (Nat → Int32) × (Nat → Int32) × (Nat → Int32) × Int32 × Int32 × (Nat → Int32)} : (gN text len ad zr).2.2.2.2.2.2.2.2.1 = g_X9_skip_place text len (g_X9_reads_place text len (zr.2.2.2.2.2.2.2.2.1) (zr.2.2.2.2.2.2.2.2.2) zr.1) := by unfold gN; dsimp only
theorem gN_o {text : Nat → Int32} {len ad : Int32} {zr : Int32 × Int32 × Int32 × (Nat → Int32) × (Nat → Int32) × (Nat → Int32) × (Nat → Int32) × Int32 × Int32 × (Nat → Int32)} : (gN text len ad zr).1 = (if f_X9_reads text len (zr.2.2.2.2.2.2.2.2.1) (zr.2.2.2.2.2.2.2.2.2) zr.1 = 107 then 0 else (if f_X9_reads text len (zr.2.2.2.2.2.2.2.2.1) (zr.2.2.2.2.2.2.2.2.2) zr.1 = 111 then zr.1 + 1 else zr.1 : Int32) : Int32) := by unfold gN; dsimp only
theorem gN_c {text : Nat → Int32} {len : Int32} {zr : Int32 × Int32 × Int32 × (Nat → Int32) × (Nat → Int32) × (Nat → Int32) × (Nat → Int32) × Int32 × Int32 × (Nat → Int32)} : (gN text len 0 zr).2.1 = zr.2.1 + 0 := by unfold gN; dsimp only; rw [i00]
theorem gN_m {text : Nat → Int32} {len ad : Int32} {zr : Int32 × Int32 × Int32 × (Nat → Int32) × (Nat → Int32) × (Nat → Int32) × (Nat → Int32) × Int32 × Int32 × (Nat → Int32)} : (gN text len ad zr).2.2.1 = (if len ≤ g_X9_skip_place text len (g_X9_reads_place text len (zr.2.2.2.2.2.2.2.2.1) (zr.2.2.2.2.2.2.2.2.2) zr.1) then 0 else 1 : Int32) := by unfold gN; dsimp only
/-- both seek the fault -/
theorem p1 {bytes text : Nat → Int32} {len : Int32} (hx : TX bytes text len) : ∀ (n i : Nat) (zc : Int32 × Int32 × Int32 × (Nat → Int32) × Int32 × Nat × Int32 × Int32) (zr : Int32 × Int32 × Int32 × (Nat → Int32) × (Nat → Int32) × (Nat → Int32) × (Nat → Int32) × Int32 × Int32 × (Nat → Int32)), tP len zc.2.1 → tP len (zr.2.2.2.2.2.2.2.2.1) → g_X9_skip_place text len zc.2.1 = g_X9_skip_place text len (zr.2.2.2.2.2.2.2.2.1) → zr.2.2.1 = (if len ≤ g_X9_skip_place text len zc.2.1 then 0 else 1 : Int32) → zc.1 = zr.1 → (0 ≤ zc.1.toInt ∧ zc.1.toInt ≤ 4) → zr.2.1 = 0 →
    ((r_X9_goesThrough_18 text len 0 n i zr).1 = -1 → (r_X2_faultIn_21 bytes len n i zc).1 = (r_X9_goesThrough_18 text len 0 n i zr).2.2.2.2.2.2.1 ∧ ¬ (r_X2_faultIn_21 bytes len n i zc).1 = -1) ∧ (¬ (r_X9_goesThrough_18 text len 0 n i zr).1 = -1 → (r_X2_faultIn_21 bytes len n i zc).1 = -1)
  | 0, i, zc, zr, hp, hp', hs, hm, ho, hb, hz => by
    have e1 : (r_X9_goesThrough_18 text len 0 0 i zr).1 = zr.2.1 := rfl
    have e2 : (r_X2_faultIn_21 bytes len 0 i zc).1 = -1 := rfl
    rw [e1, hz]
    exact ⟨fun z => absurd z (by decide), fun _ => e2⟩
  | n + 1, i, zc, zr, hp, hp', hs, hm, ho, hb, hz => by
    have hq := tP_ms (text := text) hp
    obtain ⟨ef, ea⟩ := ae_e hx hp
    by_cases q : len ≤ g_X9_skip_place text len zc.2.1
    · rw [if_pos q] at hm ef
      rw [(g_end hm).1, hz]
      exact ⟨fun z => absurd z (by decide), fun _ => f_end (by rw [ef]; decide)⟩
    · rw [if_neg q] at hm ef
      have hm0 : ¬ zr.2.2.1 = 0 := by rw [hm]; decide
      have rt := rd_tie (num := zc.2.2.1) (nums := zc.2.2.2.1) (nargs := (zr.2.2.2.2.2.2.2.2.2)) (op := zr.1) hx hq hp' (by rw [sk_id hp]; exact hs)
      rw [sk_id hp, ← ea] at rt
      rw [← ea] at hq
      by_cases hr : f_X9_reads text len (zr.2.2.2.2.2.2.2.2.1) (zr.2.2.2.2.2.2.2.2.2) zr.1 = -1
      · obtain ⟨b1, b2⟩ := g_bad (ad := 0) (n := n) (i := i) hm0 hr
        rw [b1, b2]
        rcases rt.1 hr with ⟨b, o4, e⟩ | ⟨nb, e, ne⟩
        · have c1 := f_full (n := n) (i := i) ef b (show ¬ zc.1 < 4 by rw [ho, o4]; decide)
          rw [c1]
          exact ⟨fun _ => ⟨e.symm, tP_m1 hq⟩, fun z => absurd rfl z⟩
        · have c1 := f_bad (n := n) (i := i) ef hb (by rw [ho]; exact nb) ne
          rw [c1]
          exact ⟨fun _ => ⟨e, ne⟩, fun z => absurd rfl z⟩
      · obtain ⟨nb, cr, cp, cn, cs, co⟩ := rt.2 hr
        obtain ⟨c, h1, h2, h3, h4, h5, h6⟩ := rd_c hp' hr
        have a1 : (fN bytes len zc).2.1 = g_X2_reads_place bytes len (g_X2_isAtEnd_place bytes len zc.2.1) zc.2.2.1 zc.2.2.2.1 := fN_p
        rw [cp] at a1
        have a2 : (gN text len 0 zr).2.2.2.2.2.2.2.2.1 = g_X9_skip_place text len (g_X9_reads_place text len (zr.2.2.2.2.2.2.2.2.1) (zr.2.2.2.2.2.2.2.2.2) zr.1) := gN_p
        have a3 : (fN bytes len zc).1 = f_X2_openingsAfter (g_X2_reads_sign bytes len (g_X2_isAtEnd_place bytes len zc.2.1) zc.2.2.1 zc.2.2.2.1 zc.2.2.2.2.1) zc.1 := fN_o
        have a4 : (gN text len 0 zr).1 = (if f_X9_reads text len (zr.2.2.2.2.2.2.2.2.1) (zr.2.2.2.2.2.2.2.2.2) zr.1 = 107 then 0 else (if f_X9_reads text len (zr.2.2.2.2.2.2.2.2.1) (zr.2.2.2.2.2.2.2.2.2) zr.1 = 111 then zr.1 + 1 else zr.1 : Int32) : Int32) := gN_o
        have a5 : (gN text len 0 zr).2.1 = zr.2.1 + 0 := gN_c
        have a6 : (gN text len 0 zr).2.2.1 = (if len ≤ g_X9_skip_place text len (g_X9_reads_place text len (zr.2.2.2.2.2.2.2.2.1) (zr.2.2.2.2.2.2.2.2.2) zr.1) then 0 else 1 : Int32) := gN_m
        rw [g_go hm0 hr, f_go ef hb (by rw [ho]; exact nb) cr]
        generalize gN text len 0 zr = zr2 at a2 a4 a5 a6 ⊢
        generalize fN bytes len zc = zc2 at a1 a3 ⊢
        unfold f_X2_openingsAfter at a3
        rw [cs] at a3
        refine p1 hx n (i + 1) zc2 zr2 ?_ ?_ ?_ ?_ ?_ ?_ ?_
        · rw [a1]; exact h5
        · rw [a2]; exact tP_ms h5
        · rw [a1, a2, sk_id h5]
        · rw [a1, a6]
        · rw [a3, a4, ho]
        · rw [a3, h1]; exact op_b hb (by rw [ho]; exact h3)
        · rw [a5, hz]; decide