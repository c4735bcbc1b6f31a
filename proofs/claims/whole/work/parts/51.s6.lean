theorem sim_flood {rows : Nat → Int32} {pat : Nat → Int32} {ops : Nat → Int32} {cnt : Int32} {krows : Nat → Nat → Int32} {kpat : Nat → Nat → Int32} {kops : Nat → Nat → Int32} {kcnt : Nat → Int32} {next : Int32} {size : Int32} {bytes : Nat → Int32} {len : Int32} {bads : Int32} {noes : Int32} {fulls : Int32} {osz : Int32} {now : Nat → Int32} {past : Nat → Int32} {states : Int32} {refused : Nat → Int32} {text : Nat → Int32} {textL : Int32} {left : Nat → Int32} {srow : Nat → Int32} {sdot : Nat → Int32} {source : Nat → Int32} {like : Nat → Int32} {nums : Nat → Int32} {pilem : Nat → Int32} {camem : Nat → Int32} (h : Rel rows pat ops cnt krows kpat kops kcnt next size bytes len bads noes fulls osz now past states refused text textL) (A1 : Int32) (A2 : Int32) (A3 : Int32) : f_X8_flood rows pat ops cnt source like left srow sdot nums A1 A2 A3 = f_X9_flood now pilem camem A1 A2 A3 ∧ Rel (g_X8_flood_rows rows pat ops cnt source like left srow sdot nums A1 A2 A3) pat (g_X8_flood_ops ops cnt nums A1 A2 A3) (g_X8_flood_cnt ops cnt A1 A2 A3) (g_X8_flood_krows rows ops cnt krows next A1 A2 A3) (g_X8_flood_kpat pat ops cnt kpat next A1 A2 A3) (g_X8_flood_kops ops cnt kops next A1 A2 A3) (g_X8_flood_kcnt ops cnt kcnt next A1 A2 A3) (g_X8_flood_next ops cnt next A1 A2 A3) (g_X8_flood_size ops cnt size A1 A2 A3) bytes len (g_X8_flood_bads bads A1 A2 A3) (g_X8_flood_noes noes ops cnt A1 A2 A3) fulls g_X8_flood_osz (g_X9_flood_now now pilem camem A1 A2 A3) (g_X9_flood_past now past states A1 A2 A3) (g_X9_flood_states now states A1 A2 A3) (g_X9_flood_refused now refused A1 A2 A3) text textL := by
  unfold f_X8_flood f_X9_flood g_X8_flood_bads g_X8_flood_noes g_X8_flood_rows g_X8_flood_ops g_X8_flood_cnt g_X8_flood_krows g_X8_flood_kpat g_X8_flood_kops g_X8_flood_kcnt g_X8_flood_next g_X8_flood_size g_X8_flood_osz g_X9_flood_now g_X9_flood_past g_X9_flood_states g_X9_flood_refused f_X9_isPlace
  simp only [g_X1_begins_osz, g_X1_begins_aw, ko_f0, ko_f1, ko_f2, ka_f0, ka_f1, ka_f2, kn_f0, kn_f1, kn_f2, kt_f]
  by_cases q0 : f_X9_isPicture A1 = 0
  · simp only [i00, if_pos q0, if_true, i00, i10]
    exact ⟨rfl, (h.setO (o := 3) ⟨by decide, by decide⟩).bad⟩
  by_cases q1 : f_X9_in A2.toInt64 (-64) 63 = 0
  · simp only [if_neg q0, if_pos q1, if_true, i00, i10]
    exact ⟨rfl, (h.setO (o := 3) ⟨by decide, by decide⟩).bad⟩
  by_cases q2 : f_X9_in A3.toInt64 (-64) 63 = 0
  · simp only [if_neg q0, if_neg q1, if_pos q2, if_true, i00, i10]
    exact ⟨rfl, (h.setO (o := 3) ⟨by decide, by decide⟩).bad⟩
  simp only [if_neg q0, if_neg q1, if_neg q2, if_true, i00, i10]
  have b0 := mP_ne q0
  have b1 := mIn_ne q1
  rw [Int32.toInt_toInt64] at b1
  have b2 := mIn_ne q2
  rw [Int32.toInt_toInt64] at b2
  rw [← may_e (x := A2) (y := A3) h.1]
  by_cases ho : f_X6_isOpen ops cnt A2 A3 = 0
  · simp only [if_pos ho]
    exact ⟨rfl, (h.setO (o := 3) ⟨by decide, by decide⟩).no⟩
  · simp only [if_neg ho]
    have hc := fl_core (like := like) (left := left) (srow := srow) (sdot := sdot) (pile := pilem) (came := camem) h.1 b0 ho
    have n0 : f_X1_numberAt (upd (upd (upd nums 0 A1) 1 A2) 2 A3) 3 0 = A1 := rfl
    have n1 : f_X1_numberAt (upd (upd (upd nums 0 A1) 1 A2) 2 A3) 3 1 = A2 := rfl
    have n2 : f_X1_numberAt (upd (upd (upd nums 0 A1) 1 A2) 2 A3) 3 2 = A3 := rfl
    have p1 : f_X3_performs source like rows pat ops cnt left srow sdot (upd (upd (upd nums 0 A1) 1 A2) 2 A3) (g_X1_begins_sign 102) 3 = f_X3_floods like rows ops cnt left srow sdot (f_X1_numberAt (upd (upd (upd nums 0 A1) 1 A2) 2 A3) 3 0) (f_X1_numberAt (upd (upd (upd nums 0 A1) 1 A2) 2 A3) 3 1) (f_X1_numberAt (upd (upd (upd nums 0 A1) 1 A2) 2 A3) 3 2) := rfl
    have p2 : g_X3_performs_rows source like rows pat ops cnt left srow sdot (upd (upd (upd nums 0 A1) 1 A2) 2 A3) (g_X1_begins_sign 102) 3 = g_X3_floods_rows like rows ops cnt left srow sdot (f_X1_numberAt (upd (upd (upd nums 0 A1) 1 A2) 2 A3) 3 0) (f_X1_numberAt (upd (upd (upd nums 0 A1) 1 A2) 2 A3) 3 1) (f_X1_numberAt (upd (upd (upd nums 0 A1) 1 A2) 2 A3) 3 2) := rfl
    rw [n0, n1, n2] at p1 p2
    rw [p1, p2]
    exact ⟨hc.1, (h.setO (o := 3) ⟨by decide, by decide⟩).kept hc.2⟩
