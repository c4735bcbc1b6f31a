theorem eLX {rows pat ops now : Nat → Int32} {cnt t : Int32} (h : Rs rows pat ops cnt now) (hT : pT t) : f_X0_leastX rows t = f_X9_edge now t 1 1 := by
  have k2 := edge_X (now := now) (t := t) (il := 1) hT
  rw [show decide (¬ (1 : Int32) = 0) = true by decide] at k2
  unfold f_X0_leastX
  obtain ⟨N, hN⟩ : ∃ N : Nat, N = 32 := ⟨_, rfl⟩
  rw [← hN]
  exact (lX_e h hT N 0 hN (fun v hv => absurd hv (Nat.not_lt_zero v))).uniq k2
theorem eGX {rows pat ops now : Nat → Int32} {cnt t : Int32} (h : Rs rows pat ops cnt now) (hT : pT t) : f_X0_greatestX rows t = f_X9_edge now t 1 0 := by
  have k2 := edge_X (now := now) (t := t) (il := 0) hT
  rw [show decide (¬ (0 : Int32) = 0) = false by decide] at k2
  unfold f_X0_greatestX
  obtain ⟨N, hN⟩ : ∃ N : Nat, N = 32 := ⟨_, rfl⟩
  rw [← hN]
  exact (gX_e h hT N 0 hN (fun v hv w => by have := w.1; omega)).uniq k2
theorem eLY {rows pat ops now : Nat → Int32} {cnt t : Int32} (h : Rs rows pat ops cnt now) (hT : pT t) : f_X0_leastY rows t = f_X9_edge now t 0 1 := by
  have k2 := edge_Y (now := now) (t := t) (il := 1) hT
  rw [show decide (¬ (1 : Int32) = 0) = true by decide] at k2
  unfold f_X0_leastY
  obtain ⟨N, hN⟩ : ∃ N : Nat, N = 24 := ⟨_, rfl⟩
  rw [← hN]
  exact (lY_e h hT N 0 hN (fun v hv => absurd hv (Nat.not_lt_zero v))).uniq k2
theorem eGY {rows pat ops now : Nat → Int32} {cnt t : Int32} (h : Rs rows pat ops cnt now) (hT : pT t) : f_X0_greatestY rows t = f_X9_edge now t 0 0 := by
  have k2 := edge_Y (now := now) (t := t) (il := 0) hT
  rw [show decide (¬ (0 : Int32) = 0) = false by decide] at k2
  unfold f_X0_greatestY
  obtain ⟨N, hN⟩ : ∃ N : Nat, N = 24 := ⟨_, rfl⟩
  rw [← hN]
  exact (gY_e h hT N 0 hN (fun v hv w => by have := w.1; omega)).uniq k2
theorem sim_of {rows : Nat → Int32} {pat : Nat → Int32} {ops : Nat → Int32} {cnt : Int32} {krows : Nat → Nat → Int32} {kpat : Nat → Nat → Int32} {kops : Nat → Nat → Int32} {kcnt : Nat → Int32} {next : Int32} {size : Int32} {bytes : Nat → Int32} {len : Int32} {bads : Int32} {noes : Int32} {fulls : Int32} {osz : Int32} {now : Nat → Int32} {past : Nat → Int32} {states : Int32} {refused : Nat → Int32} {text : Nat → Int32} {textL : Int32} {left : Nat → Int32} {srow : Nat → Int32} {sdot : Nat → Int32} {steps : Int32} {pilem : Nat → Int32} {camem : Nat → Int32} {pileLm : Int32} (h : Rel rows pat ops cnt krows kpat kops kcnt next size bytes len bads noes fulls osz now past states refused text textL) (A1 : Int32) (A2 : Int32) : f_X8_of rows ops cnt left srow sdot steps A1 A2 = f_X9_of now pilem camem pileLm A1 A2 ∧ Rel rows pat ops cnt krows kpat kops kcnt next size bytes len (g_X8_of_bads bads A1 A2) noes fulls osz now past states (g_X9_of_refused refused A1 A2) text textL := by
  unfold f_X8_of f_X9_of g_X8_of_bads g_X9_of_refused
  rw [pic_eq, W_in (v := A2) (a' := 0) (b' := 6) rfl rfl]
  by_cases q0 : f_X9_isPicture A1 = 0
  · simp only [if_pos q0]
    exact ⟨rfl, h.bad⟩
  by_cases q1 : f_X9_in A2.toInt64 0 6 = 0
  · simp only [if_neg q0, if_pos q1]
    exact ⟨rfl, h.bad⟩
  simp only [if_neg q0, if_neg q1]
  refine ⟨?_, h⟩
  have hT := mP_ne q0
  have b := mIn_ne q1
  rw [Int32.toInt_toInt64] at b
  have z0 : (0 : Int64).toInt = 0 := rfl
  have z6 : (6 : Int64).toInt = 6 := rfl
  obtain ⟨w, hw, e⟩ : ∃ w : Nat, w ≤ 6 ∧ A2 = nI w := ⟨A2.toInt.toNat, by omega, Dn_of (by omega) (by omega)⟩
  subst e
  unfold f_X0_measured
  match w, hw with
  | 0, _ => exact dots_e h.1 hT
  | 1, _ => exact parts_e h.1 hT
  | 2, _ =>
    simp only [if_neg (show ¬ nI 2 = 0 by decide), if_neg (show ¬ nI 2 = 1 by decide), if_neg (show ¬ nI 2 = 6 by decide), if_pos (show nI 2 = 2 by decide), if_neg (show ¬ 4 ≤ nI 2 by decide), if_pos (show (nI 2 - nI 2 / 2 * 2) = 0 by decide)]
    exact eLX h.1 hT
  | 3, _ =>
    simp only [if_neg (show ¬ nI 3 = 0 by decide), if_neg (show ¬ nI 3 = 1 by decide), if_neg (show ¬ nI 3 = 2 by decide), if_neg (show ¬ nI 3 = 6 by decide), if_pos (show nI 3 = 3 by decide), if_neg (show ¬ 4 ≤ nI 3 by decide), if_neg (show ¬ (nI 3 - nI 3 / 2 * 2) = 0 by decide)]
    exact eGX h.1 hT
  | 4, _ =>
    simp only [if_neg (show ¬ nI 4 = 0 by decide), if_neg (show ¬ nI 4 = 1 by decide), if_neg (show ¬ nI 4 = 2 by decide), if_neg (show ¬ nI 4 = 3 by decide), if_neg (show ¬ nI 4 = 6 by decide), if_pos (show nI 4 = 4 by decide), if_pos (show 4 ≤ nI 4 by decide), if_pos (show (nI 4 - nI 4 / 2 * 2) = 0 by decide)]
    exact eLY h.1 hT
  | 5, _ =>
    simp only [if_neg (show ¬ nI 5 = 0 by decide), if_neg (show ¬ nI 5 = 1 by decide), if_neg (show ¬ nI 5 = 2 by decide), if_neg (show ¬ nI 5 = 3 by decide), if_neg (show ¬ nI 5 = 4 by decide), if_neg (show ¬ nI 5 = 6 by decide), if_pos (show nI 5 = 5 by decide), if_pos (show 4 ≤ nI 5 by decide), if_neg (show ¬ (nI 5 - nI 5 / 2 * 2) = 0 by decide)]
    exact eGY h.1 hT
  | 6, _ => exact od_e h.1
