/-- both do the orders -/
theorem p2 {text : Nat → Int32} {bytes rows pat ops : Nat → Int32} {len cnt : Int32} {krows kpat kops : Nat → Nat → Int32} {kcnt : Nat → Int32} {next size : Int32} (hx : TX bytes text len) : ∀ (n i : Nat) (zf : Int32 × Int32 × Int32 × (Nat → Int32) × Int32 × Nat × Int32 × Int32) (zc : Int32 × (Nat → Int32) × (Nat → Int32) × Int32 × (Nat → Int32) × (Nat → Int32) × (Nat → Int32) × (Nat → Int32) × (Nat → Int32) × Int32 × (Nat → Int32) × Int32 × Nat × Int32 × Int32 × Int32 × Int32) (zr : Int32 × Int32 × Int32 × (Nat → Int32) × (Nat → Int32) × (Nat → Int32) × (Nat → Int32) × Int32 × Int32 × (Nat → Int32)), IV text pat len zf zc zr → (r_X2_faultIn_21 bytes len n i zf).1 = -1 → DQ rows pat ops cnt krows kpat kops kcnt next size (r_X8_does_51 rows pat ops cnt krows kpat kops kcnt next size bytes len n i zc) (r_X9_goesThrough_18 text len 1 n i zr)
  | 0, i, zf, zc, zr, h, hF => d_0 h.2.2.2.2.2.2.2.2.1 h.2.2.2.2.2.2.2.2.2.1 h.2.2.2.2.2.2.2.2.2.2
  | n + 1, i, zf, zc, zr, h, hF => by
    have H := h
    obtain ⟨h1, h2, h3, h4, h5, h6, h7, h8, h9, hR, hO⟩ := h
    have ef := (ae_e hx h2).1
    rw [h5] at ef
    by_cases q : len ≤ g_X9_skip_place text len (zr.2.2.2.2.2.2.2.2.1)
    · rw [if_pos q] at h6 ef
      have ge := g_end (text := text) (len := len) (ad := 1) (n := n) (i := i) h6
      have ne : ¬ f_X2_isAtEnd bytes len (zc.2.2.2.2.2.2.2.2.2.2.2.2.2.2.2.1) = 0 := by rw [ef]; decide
      exact d_end ne (h9.trans ge.1.symm) (by rw [ge.2]; exact hR) hO
    · rw [if_neg q] at h6 ef
      have hc4 := hR.2.2.2.1
      obtain ⟨hr, hF'⟩ := st_no (nargs := (zr.2.2.2.2.2.2.2.2.2)) hx h1 h3 h4 h7 (by rw [h8]; exact hc4) q hF
      have hm0 : ¬ zr.2.2.1 = 0 := by rw [h6]; decide
      rw [g_go hm0 hr, d_go ef]
      exact p2 hx n (i + 1) _ _ _ (iv_go hx H hr) hF'