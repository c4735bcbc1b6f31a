/-- one order, as both do it -/
theorem st {bytes text numsF numsC nargs rows pat ops now source like left srow sdot aside pile came : Nat → Int32} {len pF pC pR numF numC oF oR cnt aC aR sgF sgC ozC : Int32} (hx : TX bytes text len) (hpF : tP len pF) (hpC : tP len pC) (hpR : tP len pR) (hsF : g_X9_skip_place text len pF = g_X9_skip_place text len pR) (hsC : g_X9_skip_place text len pC = g_X9_skip_place text len pR) (ho : oF = oR) (hc : oR = cnt) (ha : aC = aR) (hR : Rs rows pat ops cnt now) (hr : ¬ (f_X9_reads text len pR nargs oR) = -1) :
    tP len (g_X2_reads_place bytes len (g_X2_isAtEnd_place bytes len pF) numF numsF) ∧ tP len (g_X2_reads_place bytes len (g_X2_isAtEnd_place bytes len pC) numC numsC) ∧ tP len (g_X9_skip_place text len (g_X9_reads_place text len pR nargs oR)) ∧ g_X9_skip_place text len (g_X2_reads_place bytes len (g_X2_isAtEnd_place bytes len pF) numF numsF) = g_X9_skip_place text len (g_X9_skip_place text len (g_X9_reads_place text len pR nargs oR)) ∧ g_X9_skip_place text len (g_X2_reads_place bytes len (g_X2_isAtEnd_place bytes len pC) numC numsC) = g_X9_skip_place text len (g_X9_skip_place text len (g_X9_reads_place text len pR nargs oR)) ∧ (if len ≤ g_X9_skip_place text len (g_X9_reads_place text len pR nargs oR) then 0 else 1 : Int32) = (if len ≤ g_X9_skip_place text len (g_X9_skip_place text len (g_X9_reads_place text len pR nargs oR)) then 0 else 1 : Int32) ∧
    f_X2_openingsAfter (g_X2_reads_sign bytes len (g_X2_isAtEnd_place bytes len pF) numF numsF sgF) oF = (if (f_X9_reads text len pR nargs oR) = 107 then 0 else (if (f_X9_reads text len pR nargs oR) = 111 then oR + 1 else oR : Int32) : Int32) ∧ (if (f_X9_reads text len pR nargs oR) = 107 then 0 else (if (f_X9_reads text len pR nargs oR) = 111 then oR + 1 else oR : Int32) : Int32) = g_X3_performs_cnt cnt (g_X2_reads_sign bytes len (g_X2_isAtEnd_place bytes len pC) numC numsC sgC) ∧
    aC + f_X3_performs source like rows pat ops cnt left srow sdot (g_X2_reads_nums bytes len (g_X2_isAtEnd_place bytes len pC) numC numsC) (g_X2_reads_sign bytes len (g_X2_isAtEnd_place bytes len pC) numC numsC sgC) (g_X2_reads_osz bytes len (g_X2_isAtEnd_place bytes len pC) numC numsC ozC) = aR + f_X9_doesOne now aside pile came (g_X9_reads_nargs text len pR nargs oR) (f_X9_reads text len pR nargs oR) ∧
    Rs (g_X3_performs_rows source like rows pat ops cnt left srow sdot (g_X2_reads_nums bytes len (g_X2_isAtEnd_place bytes len pC) numC numsC) (g_X2_reads_sign bytes len (g_X2_isAtEnd_place bytes len pC) numC numsC sgC) (g_X2_reads_osz bytes len (g_X2_isAtEnd_place bytes len pC) numC numsC ozC)) pat (g_X3_performs_ops ops cnt (g_X2_reads_nums bytes len (g_X2_isAtEnd_place bytes len pC) numC numsC) (g_X2_reads_sign bytes len (g_X2_isAtEnd_place bytes len pC) numC numsC sgC) (g_X2_reads_osz bytes len (g_X2_isAtEnd_place bytes len pC) numC numsC ozC)) (g_X3_performs_cnt cnt (g_X2_reads_sign bytes len (g_X2_isAtEnd_place bytes len pC) numC numsC sgC)) (g_X9_doesOne_now now aside pile came (g_X9_reads_nargs text len pR nargs oR) (f_X9_reads text len pR nargs oR)) ∧ oOk (g_X2_reads_osz bytes len (g_X2_isAtEnd_place bytes len pC) numC numsC ozC) := by
  have hq := tP_ms (text := text) hpR
  have ea := (ae_e hx hpF).2
  have ea' := (ae_e hx hpC).2
  rw [hsF] at ea
  rw [hsC] at ea'
  obtain ⟨-, -, cp, -, cs, -⟩ := (rd_tie (num := numF) (nums := numsF) (nargs := nargs) (op := oR) hx hq hpR (sk_id hpR)).2 hr
  obtain ⟨-, -, cp', cn', cs', co'⟩ := (rd_tie (num := numC) (nums := numsC) (nargs := nargs) (op := oR) hx hq hpR (sk_id hpR)).2 hr
  obtain ⟨c, h1, h2, h3, h4, h5, h6⟩ := rd_c hpR hr
  rw [h1] at cs cn' cs' co'
  rw [ea, ea', cp, cp', h1, cs, cs', co']
  have hc4 := hR.2.2.2.1
  have P := pf (source := source) (like := like) (left := left) (srow := srow) (sdot := sdot) (aside := aside) (pile := pile) (came := came) hR h2 (fun e z => h3 e (by rw [hc]; exact z)) cn' h4
  have k := do_96 (now := now) (aside := aside) (pile := pile) (came := came) (a := (g_X9_reads_nargs text len pR nargs oR)) (c := c) (by unfold mOk; rw [c96, ← hR.2.2.1]; exact hc4) (dOk_of h2 h3 h4 (by rw [c96, hc]; exact hR.2.2.1)) h2
  rw [c96, ← hR.2.2.1, ← hc] at k
  obtain ⟨P1, P2⟩ := P
  refine ⟨h5, h5, tP_ms h5, (sk_id h5).symm, (sk_id h5).symm, by rw [sk_id h5], ?_, ?_, ?_, P2, ?_⟩
  · unfold f_X2_openingsAfter
    rw [ho]
  · rw [P2.2.2.1, k]
  · rw [ha, P1]
  · rw [(many_ok h2).1]
    unfold oOk
    have := (many_ok h2).2
    rw [nI_toInt (by omega)]
    omega
/-- where the fault's loop finds none, the next order can be read -/
theorem st_no {bytes text nargs : Nat → Int32} {len pR oR : Int32} {n i : Nat} {zf : Int32 × Int32 × Int32 × (Nat → Int32) × Int32 × Nat × Int32 × Int32} (hx : TX bytes text len) (hpF : tP len zf.2.1) (hpR : tP len pR) (hsF : g_X9_skip_place text len zf.2.1 = g_X9_skip_place text len pR) (ho : zf.1 = oR) (hb : 0 ≤ oR.toInt ∧ oR.toInt ≤ 4) (q : ¬ len ≤ g_X9_skip_place text len pR) (hF : (r_X2_faultIn_21 bytes len (n + 1) i zf).1 = -1) : ¬ (f_X9_reads text len pR nargs oR) = -1 ∧ (r_X2_faultIn_21 bytes len n (i + 1) (fN bytes len zf)).1 = -1 := by
  have hq := tP_ms (text := text) hpR
  obtain ⟨ef, ea⟩ := ae_e hx hpF
  rw [hsF] at ef ea
  rw [if_neg q] at ef
  have rf := rd_tie (num := zf.2.2.1) (nums := zf.2.2.2.1) (nargs := nargs) (op := oR) hx hq hpR (sk_id hpR)
  rw [sk_id hpR, ← ea] at rf
  by_cases hr : (f_X9_reads text len pR nargs oR) = -1
  · exfalso
    rcases rf.1 hr with ⟨b, o4, e⟩ | ⟨nb, e, ne⟩
    · rw [f_full ef b (show ¬ zf.1 < 4 by rw [ho, o4]; decide), ea] at hF
      exact tP_m1 hq hF
    · rw [f_bad ef (by rw [ho]; exact hb) (by rw [ho]; exact nb) ne] at hF
      exact ne hF
  · obtain ⟨nb, cr, -⟩ := rf.2 hr
    rw [f_go ef (by rw [ho]; exact hb) (by rw [ho]; exact nb) cr] at hF
    exact ⟨hr, hF⟩