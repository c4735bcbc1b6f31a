theorem zp_app {ws w1 w2 : va_W} : ∀ {is1 is2 : List Nat}, is1.length = w1.length → zput ws (is1 ++ is2) (w1 ++ w2) = zput (zput ws is1 w1) is2 w2 := by
  intro is1
  induction is1 generalizing ws w1 with
  | nil => intro is2 h; cases w1 with
    | nil => rfl
    | cons a t => simp at h
  | cons i is ih => intro is2 h; cases w1 with
    | nil => simp at h
    | cons a t => exact ih (ws := ws.set i a) (by simpa using h)
theorem zp_set {a r : va_W} {n i : Nat} {q : Nat × va_E} (hn : a.length = n) : (a ++ r).set (n + i) q = a ++ r.set i q := by
  subst hn
  induction a with
  | nil => simp
  | cons x t ih => simp only [List.cons_append, List.length_cons]; rw [show t.length + 1 + i = (t.length + i) + 1 by omega, List.set_cons_succ, ih]
theorem zp_skip {a : va_W} {n : Nat} (hn : a.length = n) : ∀ {is : List Nat} {r w : va_W}, zput (a ++ r) (is.map (n + ·)) w = a ++ zput r is w := by
  intro is
  induction is with
  | nil => intro r w; cases w <;> rfl
  | cons i is ih => intro r w; cases w with
    | nil => rfl
    | cons q t => show zput ((a ++ r).set (n + i) q) (is.map (n + ·)) t = _; rw [zp_set hn, ih]; rfl
theorem zp_range {a a' r : va_W} (h : a'.length = a.length) : zput (a ++ r) (List.range a.length) a' = a' ++ r := by
  induction a generalizing a' with
  | nil => cases a' with
    | nil => rfl
    | cons x t => simp at h
  | cons x t ih => cases a' with
    | nil => simp at h
    | cons y u =>
      rw [List.length_cons, List.range_succ_eq_map]
      show zput (y :: (t ++ r)) ((List.range t.length).map Nat.succ) u = y :: (u ++ r)
      have e : (List.range t.length).map Nat.succ = (List.range t.length).map (1 + ·) := List.map_congr_left fun k _ => (Nat.succ_eq_add_one k).trans (Nat.add_comm k 1)
      rw [e]
      exact (zp_skip (a := [y]) (n := 1) rfl).trans (congrArg (y :: ·) (ih (by simpa using h)))
theorem zp_head {a a' r : va_W} {n : Nat} (hn : a.length = n) (hn' : a'.length = n) : zput (a ++ r) (List.range n) a' = a' ++ r := by subst hn; exact zp_range hn'
theorem zp_last {a a' : va_W} {n : Nat} (hn : a.length = n) (hn' : a'.length = n) : zput a (List.range n) a' = a' := by
  have h := zp_head (r := []) hn hn'
  simpa using h
theorem zg_skip {a r : va_W} {n : Nat} {is : List Nat} (hn : a.length = n) : (is.map (n + ·)).map (fun i => (a ++ r)[i]?) = is.map (fun i => r[i]?) := by
  subst hn
  rw [List.map_map]
  exact List.map_congr_left fun i _ => by simp [List.getElem?_append_right]
theorem zg_head {a r : va_W} {n : Nat} (hn : a.length = n) : (List.range n).map (fun i => (a ++ r)[i]?) = a.map some := by
  subst hn
  apply List.ext_getElem?
  intro i
  simp only [List.getElem?_map]
  by_cases h : i < a.length
  · rw [List.getElem?_range h]; simp [List.getElem?_append_left h, h]
  · rw [List.getElem?_eq_none (by simp; omega), List.getElem?_eq_none (by omega)]; rfl
theorem zg_last {a : va_W} {n : Nat} (hn : a.length = n) : (List.range n).map (fun i => a[i]?) = a.map some := by
  have h := zg_head (r := []) hn
  simpa using h
theorem zg_app {ws a b : va_W} {is1 is2 : List Nat} (h1 : is1.map (fun i => ws[i]?) = a.map some) (h2 : is2.map (fun i => ws[i]?) = b.map some) : (is1 ++ is2).map (fun i => ws[i]?) = (a ++ b).map some := by rw [List.map_append, List.map_append, h1, h2]
theorem zp_sk {a r w y : va_W} {n : Nat} {is : List Nat} (hn : a.length = n) (h : zput r is w = y) : zput (a ++ r) (is.map (n + ·)) w = a ++ y := by rw [zp_skip hn, h]
theorem zp_two {ws w1 w2 m y : va_W} {is1 is2 : List Nat} (hl : is1.length = w1.length) (h1 : zput ws is1 w1 = m) (h2 : zput m is2 w2 = y) : zput ws (is1 ++ is2) (w1 ++ w2) = y := by rw [zp_app hl, h1, h2]
theorem zg_sk {a r : va_W} {n : Nat} {is : List Nat} {y : List (Option (Nat × va_E))} (hn : a.length = n) (h : is.map (fun i => r[i]?) = y) : (is.map (n + ·)).map (fun i => (a ++ r)[i]?) = y := by rw [zg_skip hn, h]
theorem ix_8 {y : Int32} (h : ¬ f_X8_isWithin y 0 7 = 0) : vp_in y 8 := by
  have b := isW_ne h
  have e0 : (0 : Int32).toInt = 0 := rfl
  have e1 : (7 : Int32).toInt = 7 := rfl
  rw [vp_in_iff]; omega
theorem hOk_sz {h : Int32} (q : ¬ f_X8_isSize h = 0) : hOk h := by
  have b := isW_ne (show ¬ f_X8_isWithin h 1 64 = 0 from q)
  have e0 : (1 : Int32).toInt = 1 := rfl
  have e1 : (64 : Int32).toInt = 64 := rfl
  unfold hOk; omega
theorem kOk_w {h : Int32} (q : ¬ f_X8_isWithin h 1 8 = 0) : kOk h := by
  have b := isW_ne q
  have e0 : (1 : Int32).toInt = 1 := rfl
  have e1 : (8 : Int32).toInt = 8 := rfl
  unfold kOk; omega

def f_X8_refusedBad  : Int32 := (-2)
def g_X8_refusedBad_bads (bads : Int32) : Int32 := bads + 1
set_option maxRecDepth 100000 in
theorem c_X8_refusedBad {l : Launch} {G : zG} {ao so eo to ho mo oo xo : Nat} {bads : Int32} {noes : Int32} {fulls : Int32} : Ct l G yX8_refusedBad cX8_refusedBad 1 (Option.some FieldType.int) 0 0 [.ref ao] (wPM G ao so eo to ho mo oo xo bads noes fulls) (pI (f_X8_refusedBad) (wPM G ao so eo to ho mo oo xo (g_X8_refusedBad_bads bads) noes fulls)) := by
  refine Ct.of (plainFor_of_name (by decide)) (Nat.le_of_ble_eq_true rfl) (pI.ad ad_PM) (fun X C E => ?_)
  show Z X G 1 0 0 _ 0 [(0, .ref ao)] []
  refine z_aload_n (pc := 0) C 0 dX8_refusedBad_0 rfl ?_
  refine z_dup (pc := 1) C dX8_refusedBad_1 rfl ?_
  refine z_get (pc := 2) C 0 7 dX8_refusedBad_2 rfl rfl i_X8 (by decide) q_259 rfl ?_
  refine z_iconst (pc := 5) (v := 1) C dX8_refusedBad_5 (by decide) ?_
  refine z_iadd (pc := 6) C dX8_refusedBad_6 ?_
  refine z_put (pc := 7) (wPM G ao so eo to ho mo oo xo _ noes fulls) C 0 7 dX8_refusedBad_7 rfl rfl i_X8 tyX8_ok nmX8 (by decide) q_259 rfl rfl rfl rfl (Nat.le_of_ble_eq_true rfl) rfl ?_
  refine z_bipush (pc := 10) (v := (-2)) C dX8_refusedBad_10 (by decide) ?_
  exact z_iret (pc := 12) C E dX8_refusedBad_12 (pI.mk rfl rfl)

def f_X8_refusedNo  : Int32 := (-3)
def g_X8_refusedNo_noes (noes : Int32) : Int32 := noes + 1
set_option maxRecDepth 100000 in
theorem c_X8_refusedNo {l : Launch} {G : zG} {ao so eo to ho mo oo xo : Nat} {bads : Int32} {noes : Int32} {fulls : Int32} : Ct l G yX8_refusedNo cX8_refusedNo 1 (Option.some FieldType.int) 0 0 [.ref ao] (wPM G ao so eo to ho mo oo xo bads noes fulls) (pI (f_X8_refusedNo) (wPM G ao so eo to ho mo oo xo bads (g_X8_refusedNo_noes noes) fulls)) := by
  refine Ct.of (plainFor_of_name (by decide)) (Nat.le_of_ble_eq_true rfl) (pI.ad ad_PM) (fun X C E => ?_)
  show Z X G 1 0 0 _ 0 [(0, .ref ao)] []
  refine z_aload_n (pc := 0) C 0 dX8_refusedNo_0 rfl ?_
  refine z_dup (pc := 1) C dX8_refusedNo_1 rfl ?_
  refine z_get (pc := 2) C 0 8 dX8_refusedNo_2 rfl rfl i_X8 (by decide) q_260 rfl ?_
  refine z_iconst (pc := 5) (v := 1) C dX8_refusedNo_5 (by decide) ?_
  refine z_iadd (pc := 6) C dX8_refusedNo_6 ?_
  refine z_put (pc := 7) (wPM G ao so eo to ho mo oo xo bads _ fulls) C 0 8 dX8_refusedNo_7 rfl rfl i_X8 tyX8_ok nmX8 (by decide) q_260 rfl rfl rfl rfl (Nat.le_of_ble_eq_true rfl) rfl ?_
  refine z_bipush (pc := 10) (v := (-3)) C dX8_refusedNo_10 (by decide) ?_
  exact z_iret (pc := 12) C E dX8_refusedNo_12 (pI.mk rfl rfl)

def f_X8_refusedFull  : Int32 := (-4)
def g_X8_refusedFull_fulls (fulls : Int32) : Int32 := fulls + 1
set_option maxRecDepth 100000 in
theorem c_X8_refusedFull {l : Launch} {G : zG} {ao so eo to ho mo oo xo : Nat} {bads : Int32} {noes : Int32} {fulls : Int32} : Ct l G yX8_refusedFull cX8_refusedFull 1 (Option.some FieldType.int) 0 0 [.ref ao] (wPM G ao so eo to ho mo oo xo bads noes fulls) (pI (f_X8_refusedFull) (wPM G ao so eo to ho mo oo xo bads noes (g_X8_refusedFull_fulls fulls))) := by
  refine Ct.of (plainFor_of_name (by decide)) (Nat.le_of_ble_eq_true rfl) (pI.ad ad_PM) (fun X C E => ?_)
  show Z X G 1 0 0 _ 0 [(0, .ref ao)] []
  refine z_aload_n (pc := 0) C 0 dX8_refusedFull_0 rfl ?_
  refine z_dup (pc := 1) C dX8_refusedFull_1 rfl ?_
  refine z_get (pc := 2) C 0 9 dX8_refusedFull_2 rfl rfl i_X8 (by decide) q_261 rfl ?_
  refine z_iconst (pc := 5) (v := 1) C dX8_refusedFull_5 (by decide) ?_
  refine z_iadd (pc := 6) C dX8_refusedFull_6 ?_
  refine z_put (pc := 7) (wPM G ao so eo to ho mo oo xo bads noes _) C 0 9 dX8_refusedFull_7 rfl rfl i_X8 tyX8_ok nmX8 (by decide) q_261 rfl rfl rfl rfl (Nat.le_of_ble_eq_true rfl) rfl ?_
  refine z_bipush (pc := 10) (v := (-4)) C dX8_refusedFull_10 (by decide) ?_
  exact z_iret (pc := 12) C E dX8_refusedFull_12 (pI.mk rfl rfl)

def f_X8_tally (bads : Int32) (noes : Int32) (fulls : Int32) (cnt : Int32) (size : Int32) (len : Int32) (what : Int32) : Int32 := if what = 0 then bads else if what = 1 then noes else if what = 2 then fulls else if what = 3 then len else if what = 4 then cnt else size
set_option maxRecDepth 100000 in
theorem c_X8_tally {l : Launch} {G : zG} {ao so sr sp sq eo ek xo xb to ho mo oo : Nat} {ka kb kc kd : Nat → Nat} {bads : Int32} {noes : Int32} {fulls : Int32} {rows : Nat → Int32} {pat : Nat → Int32} {ops : Nat → Int32} {cnt : Int32} {krows : Nat → Nat → Int32} {kpat : Nat → Nat → Int32} {kops : Nat → Nat → Int32} {kcnt : Nat → Int32} {next : Int32} {size : Int32} {bytes : Nat → Int32} {len : Int32} {place : Int32} {num : Int32} {what : Int32} : Ct l G yX8_tally cX8_tally 2 (Option.some FieldType.int) 0 0 [.ref ao, .int what] (wPM G ao so eo to ho mo oo xo bads noes fulls ++ (wSc G so sr sp sq rows pat ops cnt ++ (wPs G eo ek ka kb kc kd krows kpat kops kcnt next size ++ wTx G xo xb bytes len place num))) (pI (f_X8_tally bads noes fulls cnt size len what) (wPM G ao so eo to ho mo oo xo bads noes fulls ++ (wSc G so sr sp sq rows pat ops cnt ++ (wPs G eo ek ka kb kc kd krows kpat kops kcnt next size ++ wTx G xo xb bytes len place num)))) := by
  refine Ct.of (plainFor_of_name (by decide)) (Nat.le_of_ble_eq_true rfl) (pI.ad (ad_app ad_PM (ad_app ad_Sc (ad_app ad_Ps ad_Tx)))) (fun X C E => ?_)
  show Z X G 2 0 0 _ 0 [(0, .ref ao), (1, .int what)] []
  refine z_iload_n (pc := 0) C 1 dX8_tally_0 rfl ?_
  by_cases c_1_0 : what = 0
  · skip
    refine z_tableIn (pc := 1) 36 C dX8_tally_1 (by rw [c_1_0]; decide) (by rw [c_1_0]; decide) (by rw [c_1_0]; rfl) (by decide) ?_
    refine z_aload_n (pc := 36) C 0 dX8_tally_36 rfl ?_
    refine z_get (pc := 37) C 0 7 dX8_tally_37 rfl rfl i_X8 (by decide) q_259 rfl ?_
    exact z_iret (pc := 40) C E dX8_tally_40 (pI.mk (by simp only [f_X8_tally, if_pos c_1_0]) rfl)
  by_cases c_1_1 : what = 1
  · skip
    refine z_tableIn (pc := 1) 41 C dX8_tally_1 (by rw [c_1_1]; decide) (by rw [c_1_1]; decide) (by rw [c_1_1]; rfl) (by decide) ?_
    refine z_aload_n (pc := 41) C 0 dX8_tally_41 rfl ?_
    refine z_get (pc := 42) C 0 8 dX8_tally_42 rfl rfl i_X8 (by decide) q_260 rfl ?_
    exact z_iret (pc := 45) C E dX8_tally_45 (pI.mk (by simp only [f_X8_tally, if_neg c_1_0, if_pos c_1_1]) rfl)
  by_cases c_1_2 : what = 2
  · skip
    refine z_tableIn (pc := 1) 46 C dX8_tally_1 (by rw [c_1_2]; decide) (by rw [c_1_2]; decide) (by rw [c_1_2]; rfl) (by decide) ?_
    refine z_aload_n (pc := 46) C 0 dX8_tally_46 rfl ?_
    refine z_get (pc := 47) C 0 9 dX8_tally_47 rfl rfl i_X8 (by decide) q_261 rfl ?_
    exact z_iret (pc := 50) C E dX8_tally_50 (pI.mk (by simp only [f_X8_tally, if_neg c_1_0, if_neg c_1_1, if_pos c_1_2]) rfl)
  by_cases c_1_3 : what = 3
  · skip
    refine z_tableIn (pc := 1) 51 C dX8_tally_1 (by rw [c_1_3]; decide) (by rw [c_1_3]; decide) (by rw [c_1_3]; rfl) (by decide) ?_
    refine z_aload_n (pc := 51) C 0 dX8_tally_51 rfl ?_
    refine z_get (pc := 52) C 0 6 dX8_tally_52 rfl rfl i_X8 (by decide) q_258 rfl ?_
    refine z_get (pc := 55) C 31 1 dX8_tally_55 rfl rfl i_X2 (by decide) q_240 rfl ?_
    exact z_iret (pc := 58) C E dX8_tally_58 (pI.mk (by simp only [f_X8_tally, if_neg c_1_0, if_neg c_1_1, if_neg c_1_2, if_pos c_1_3]) rfl)
  by_cases c_1_4 : what = 4
  · skip
    refine z_tableIn (pc := 1) 59 C dX8_tally_1 (by rw [c_1_4]; decide) (by rw [c_1_4]; decide) (by rw [c_1_4]; rfl) (by decide) ?_
    refine z_aload_n (pc := 59) C 0 dX8_tally_59 rfl ?_
    refine z_get (pc := 60) C 0 0 dX8_tally_60 rfl rfl i_X8 (by decide) q_252 rfl ?_
    refine z_get (pc := 63) C 1 3 dX8_tally_63 rfl rfl i_X6 (by decide) q_104 rfl ?_
    exact z_iret (pc := 66) C E dX8_tally_66 (pI.mk (by simp only [f_X8_tally, if_neg c_1_0, if_neg c_1_1, if_neg c_1_2, if_neg c_1_3, if_pos c_1_4]) rfl)
  refine z_tableD (pc := 1) 67 C dX8_tally_1 [0, 1, 2, 3, 4] (by decide) (List.forall_mem_cons.mpr ⟨lv_neT c_1_0 rfl, List.forall_mem_cons.mpr ⟨lv_neT c_1_1 rfl, List.forall_mem_cons.mpr ⟨lv_neT c_1_2 rfl, List.forall_mem_cons.mpr ⟨lv_neT c_1_3 rfl, List.forall_mem_cons.mpr ⟨lv_neT c_1_4 rfl, fun _ h => absurd h List.not_mem_nil⟩⟩⟩⟩⟩) (by decide) ?_
  refine z_aload_n (pc := 67) C 0 dX8_tally_67 rfl ?_
  refine z_get (pc := 68) C 0 1 dX8_tally_68 rfl rfl i_X8 (by decide) q_253 rfl ?_
  refine z_get (pc := 71) C 5 2 dX8_tally_71 rfl rfl i_X5 (by decide) q_148 rfl ?_
  exact z_iret (pc := 74) C E dX8_tally_74 (pI.mk (by simp only [f_X8_tally, if_neg c_1_0, if_neg c_1_1, if_neg c_1_2, if_neg c_1_3, if_neg c_1_4]) rfl)

def f_X8_dot (rows : Nat → Int32) (t : Int32) (x : Int32) (y : Int32) (v : Int32) : Int32 := if (f_X8_isPicture t) = 0 then f_X8_refusedBad else if (f_X8_isInPicture x y) = 0 then f_X8_refusedBad else if (f_X8_isWithin v 0 1) = 0 then f_X8_refusedBad else f_X6_dotAt rows t x y
def g_X8_dot_bads (bads : Int32) (t : Int32) (x : Int32) (y : Int32) (v : Int32) : Int32 := if (f_X8_isPicture t) = 0 then g_X8_refusedBad_bads bads else if (f_X8_isInPicture x y) = 0 then g_X8_refusedBad_bads bads else if (f_X8_isWithin v 0 1) = 0 then g_X8_refusedBad_bads bads else bads
def g_X8_dot_rows (rows : Nat → Int32) (t : Int32) (x : Int32) (y : Int32) (v : Int32) : Nat → Int32 := if (f_X8_isPicture t) = 0 then rows else if (f_X8_isInPicture x y) = 0 then rows else if (f_X8_isWithin v 0 1) = 0 then rows else if (f_X6_dotAt rows t x y) = v then rows else g_X6_putRow_rows rows t y ((f_X6_rowAt rows t y) ^^^ (f_X8_dotMask x))
def g_X8_dot_krows (rows : Nat → Int32) (krows : Nat → Nat → Int32) (next : Int32) (t : Int32) (x : Int32) (y : Int32) (v : Int32) : Nat → Nat → Int32 := if (f_X8_isPicture t) = 0 then krows else if (f_X8_isInPicture x y) = 0 then krows else if (f_X8_isWithin v 0 1) = 0 then krows else kpR krows next rows
def g_X8_dot_kpat (pat : Nat → Int32) (kpat : Nat → Nat → Int32) (next : Int32) (t : Int32) (x : Int32) (y : Int32) (v : Int32) : Nat → Nat → Int32 := if (f_X8_isPicture t) = 0 then kpat else if (f_X8_isInPicture x y) = 0 then kpat else if (f_X8_isWithin v 0 1) = 0 then kpat else kpP kpat next pat
def g_X8_dot_kops (ops : Nat → Int32) (kops : Nat → Nat → Int32) (next : Int32) (t : Int32) (x : Int32) (y : Int32) (v : Int32) : Nat → Nat → Int32 := if (f_X8_isPicture t) = 0 then kops else if (f_X8_isInPicture x y) = 0 then kops else if (f_X8_isWithin v 0 1) = 0 then kops else kpO kops next ops
def g_X8_dot_kcnt (cnt : Int32) (kcnt : Nat → Int32) (next : Int32) (t : Int32) (x : Int32) (y : Int32) (v : Int32) : Nat → Int32 := if (f_X8_isPicture t) = 0 then kcnt else if (f_X8_isInPicture x y) = 0 then kcnt else if (f_X8_isWithin v 0 1) = 0 then kcnt else kpC kcnt next cnt
def g_X8_dot_next (next : Int32) (t : Int32) (x : Int32) (y : Int32) (v : Int32) : Int32 := if (f_X8_isPicture t) = 0 then next else if (f_X8_isInPicture x y) = 0 then next else if (f_X8_isWithin v 0 1) = 0 then next else kpN next
def g_X8_dot_size (size : Int32) (t : Int32) (x : Int32) (y : Int32) (v : Int32) : Int32 := if (f_X8_isPicture t) = 0 then size else if (f_X8_isInPicture x y) = 0 then size else if (f_X8_isWithin v 0 1) = 0 then size else kpS size
set_option maxRecDepth 100000 in
theorem c_X8_dot {l : Launch} {G : zG} {ao so sr sp sq eo ek to ho mo oo xo : Nat} {ka kb kc kd : Nat → Nat} {bads : Int32} {noes : Int32} {fulls : Int32} {rows : Nat → Int32} {pat : Nat → Int32} {ops : Nat → Int32} {cnt : Int32} {krows : Nat → Nat → Int32} {kpat : Nat → Nat → Int32} {kops : Nat → Nat → Int32} {kcnt : Nat → Int32} {next : Int32} {size : Int32} {t : Int32} {x : Int32} {y : Int32} {v : Int32} (hn : nOk next) : Ct l G yX8_dot cX8_dot 6 (Option.some FieldType.int) 4 87 [.ref ao, .int t, .int x, .int y, .int v] (wPM G ao so eo to ho mo oo xo bads noes fulls ++ (wSc G so sr sp sq rows pat ops cnt ++ wPs G eo ek ka kb kc kd krows kpat kops kcnt next size)) (pI (f_X8_dot rows t x y v) (wPM G ao so eo to ho mo oo xo (g_X8_dot_bads bads t x y v) noes fulls ++ (wSc G so sr sp sq (g_X8_dot_rows rows t x y v) pat ops cnt ++ wPs G eo ek ka kb kc kd (g_X8_dot_krows rows krows next t x y v) (g_X8_dot_kpat pat kpat next t x y v) (g_X8_dot_kops ops kops next t x y v) (g_X8_dot_kcnt cnt kcnt next t x y v) (g_X8_dot_next next t x y v) (g_X8_dot_size size t x y v)))) := by
  refine Ct.of (plainFor_of_name (by decide)) (Nat.le_of_ble_eq_true rfl) (pI.ad (ad_app ad_PM (ad_app ad_Sc ad_Ps))) (fun X C E => ?_)
  show Z X G 6 0 0 _ 0 [(0, .ref ao), (1, .int t), (2, .int x), (3, .int y), (4, .int v)] []
  refine z_iload_n (pc := 0) C 1 dX8_dot_0 rfl ?_
  refine z_callS (pc := 1) C (c_X8_isPicture) [] z00 mS_X8_isPicture q_287 dX8_dot_1 rfl rfl rfl rfl (Nat.le_of_ble_eq_true rfl) (by decide) (pI.stay rfl ?_)
  refine z_if_eq (pc := 4) 25 C dX8_dot_4 (by decide) (fun c_4 => ?_) (fun c_4 => ?_)
  · skip
    refine z_aload_n (pc := 25) C 0 dX8_dot_25 rfl ?_
    refine z_callV (pc := 26) C (c_X8_refusedBad) (List.range 1) z00 mV_X8_refusedBad q_296 dX8_dot_26 rfl rfl (zg_head (by rfl)) 0 rfl rfl rfl rfl (Nat.le_of_ble_eq_true rfl) (by decide) (pI.go (ws' := wPM G ao so eo to ho mo oo xo _ noes fulls ++ (wSc G so sr sp sq rows pat ops cnt ++ wPs G eo ek ka kb kc kd krows kpat kops kcnt next size)) (zp_head (by rfl) (by rfl)) ?_)
    exact z_iret (pc := 29) C E dX8_dot_29 (pI.mk (by simp only [f_X8_dot, if_pos c_4]) (by simp only [g_X8_dot_bads, g_X8_dot_rows, g_X8_dot_krows, g_X8_dot_kpat, g_X8_dot_kops, g_X8_dot_kcnt, g_X8_dot_next, g_X8_dot_size, if_pos c_4]))
  · skip
    refine z_iload_n (pc := 7) C 2 dX8_dot_7 rfl ?_
    refine z_iload_n (pc := 8) C 3 dX8_dot_8 rfl ?_
    refine z_callS (pc := 9) C (c_X8_isInPicture) [] z00 mS_X8_isInPicture q_293 dX8_dot_9 rfl rfl rfl rfl (Nat.le_of_ble_eq_true rfl) (by decide) (pI.stay rfl ?_)
    refine z_if_eq (pc := 12) 25 C dX8_dot_12 (by decide) (fun c_12 => ?_) (fun c_12 => ?_)
    · skip
      refine z_aload_n (pc := 25) C 0 dX8_dot_25 rfl ?_
      refine z_callV (pc := 26) C (c_X8_refusedBad) (List.range 1) z00 mV_X8_refusedBad q_296 dX8_dot_26 rfl rfl (zg_head (by rfl)) 0 rfl rfl rfl rfl (Nat.le_of_ble_eq_true rfl) (by decide) (pI.go (ws' := wPM G ao so eo to ho mo oo xo _ noes fulls ++ (wSc G so sr sp sq rows pat ops cnt ++ wPs G eo ek ka kb kc kd krows kpat kops kcnt next size)) (zp_head (by rfl) (by rfl)) ?_)
      exact z_iret (pc := 29) C E dX8_dot_29 (pI.mk (by simp only [f_X8_dot, if_neg c_4, if_pos c_12]) (by simp only [g_X8_dot_bads, g_X8_dot_rows, g_X8_dot_krows, g_X8_dot_kpat, g_X8_dot_kops, g_X8_dot_kcnt, g_X8_dot_next, g_X8_dot_size, if_neg c_4, if_pos c_12]))
    · skip
      refine z_iload (pc := 15) C 4 dX8_dot_15 rfl ?_
      refine z_iconst (pc := 17) (v := 0) C dX8_dot_17 (by decide) ?_
      refine z_iconst (pc := 18) (v := 1) C dX8_dot_18 (by decide) ?_
      refine z_callS (pc := 19) C (c_X8_isWithin) [] z00 mS_X8_isWithin q_290 dX8_dot_19 rfl rfl rfl rfl (Nat.le_of_ble_eq_true rfl) (by decide) (pI.stay rfl ?_)
      refine z_if_ne (pc := 22) 30 C dX8_dot_22 (by decide) (fun c_22 => ?_) (fun c_22 => ?_)
      · skip
        refine z_aload_n (pc := 30) C 0 dX8_dot_30 rfl ?_
        refine z_get (pc := 31) C 0 1 dX8_dot_31 rfl rfl i_X8 (by decide) q_253 rfl ?_
        refine z_aload_n (pc := 34) C 0 dX8_dot_34 rfl ?_
        refine z_get (pc := 35) C 0 0 dX8_dot_35 rfl rfl i_X8 (by decide) q_252 rfl ?_
        refine z_callV (pc := 38) C (c_X5_keeps (ka := ka) (kb := kb) (kc := kc) (kd := kd) (krows := krows) (kpat := kpat) (kops := kops) (kcnt := kcnt) (by assumption)) ((((List.range 26).map (4 + ·)).map (1 + ·)) ++ ((List.range 4).map (1 + ·))) z00 mV_X5_keeps q_300 dX8_dot_38 rfl rfl (zg_app (zg_sk (by rfl) (zg_sk (by rfl) (zg_last (by rfl)))) (zg_sk (by rfl) (zg_head (by rfl)))) 5 rfl rfl rfl rfl (Nat.le_of_ble_eq_true rfl) (by decide) (pV.go (ws' := wPM G ao so eo to ho mo oo xo bads noes fulls ++ (wSc G so sr sp sq rows pat ops cnt ++ wPs G eo ek ka kb kc kd (kpR krows next rows) (kpP kpat next pat) (kpO kops next ops) (kpC kcnt next cnt) (kpN next) (kpS size))) (zp_two (by rfl) (zp_sk (by rfl) (zp_sk (by rfl) (zp_last (by rfl) (by rfl)))) (zp_sk (by rfl) (zp_head (by rfl) (by rfl)))) ?_)
        refine z_aload_n (pc := 41) C 0 dX8_dot_41 rfl ?_
        refine z_get (pc := 42) C 0 0 dX8_dot_42 rfl rfl i_X8 (by decide) q_252 rfl ?_
        refine z_iload_n (pc := 45) C 1 dX8_dot_45 rfl ?_
        refine z_iload_n (pc := 46) C 2 dX8_dot_46 rfl ?_
        refine z_iload_n (pc := 47) C 3 dX8_dot_47 rfl ?_
        refine z_callV (pc := 48) C (c_X6_dotAt) ((List.range 4).map (1 + ·)) z00 mV_X6_dotAt q_314 dX8_dot_48 rfl rfl (zg_sk (by rfl) (zg_head (by rfl))) 1 rfl rfl rfl rfl (Nat.le_of_ble_eq_true rfl) (by decide) (pI.stay (zg_sk (by rfl) (zg_head (by rfl))) ?_)
        refine z_istore (pc := 51) [(5, _), (0, _), (1, _), (2, _), (3, _), (4, _)] C dX8_dot_51 (by decide) rfl ?_
        refine z_iload (pc := 53) C 0 dX8_dot_53 rfl ?_
        refine z_iload (pc := 55) C 5 dX8_dot_55 rfl ?_
        refine z_icmp_eq (pc := 57) 83 C dX8_dot_57 (by decide) (fun c_57 => ?_) (fun c_57 => ?_)
        · skip
          refine z_iload (pc := 83) C 0 dX8_dot_83 rfl ?_
          exact z_iret (pc := 85) C E dX8_dot_85 (pI.mk (by simp only [f_X8_dot, if_neg c_4, if_neg c_12, if_neg c_22, if_pos c_57]) (by simp only [g_X8_dot_bads, g_X8_dot_rows, g_X8_dot_krows, g_X8_dot_kpat, g_X8_dot_kops, g_X8_dot_kcnt, g_X8_dot_next, g_X8_dot_size, if_neg c_4, if_neg c_12, if_neg c_22, if_pos c_57]))
        · skip
          refine z_aload_n (pc := 60) C 1 dX8_dot_60 rfl ?_
          refine z_get (pc := 61) C 0 0 dX8_dot_61 rfl rfl i_X8 (by decide) q_252 rfl ?_
          refine z_iload_n (pc := 64) C 2 dX8_dot_64 rfl ?_
          refine z_iload_n (pc := 65) C 4 dX8_dot_65 rfl ?_
          refine z_aload_n (pc := 66) C 1 dX8_dot_66 rfl ?_
          refine z_get (pc := 67) C 0 0 dX8_dot_67 rfl rfl i_X8 (by decide) q_252 rfl ?_
          refine z_iload_n (pc := 70) C 2 dX8_dot_70 rfl ?_
          refine z_iload_n (pc := 71) C 4 dX8_dot_71 rfl ?_
          refine z_callV (pc := 72) C (c_X6_rowAt) ((List.range 4).map (1 + ·)) z00 mV_X6_rowAt q_332 dX8_dot_72 rfl rfl (zg_sk (by rfl) (zg_head (by rfl))) 1 rfl rfl rfl rfl (Nat.le_of_ble_eq_true rfl) (by decide) (pI.stay (zg_sk (by rfl) (zg_head (by rfl))) ?_)
          refine z_iload_n (pc := 75) C 3 dX8_dot_75 rfl ?_
          refine z_callS (pc := 76) C (c_X8_dotMask) [] z00 mS_X8_dotMask q_333 dX8_dot_76 rfl rfl rfl rfl (Nat.le_of_ble_eq_true rfl) (by decide) (pI.stay rfl ?_)
          refine z_ixor (pc := 79) C dX8_dot_79 ?_
          refine z_callV (pc := 80) C (c_X6_putRow) ((List.range 4).map (1 + ·)) z00 mV_X6_putRow q_334 dX8_dot_80 rfl rfl (zg_sk (by rfl) (zg_head (by rfl))) 1 rfl rfl rfl rfl (Nat.le_of_ble_eq_true rfl) (by decide) (pV.go (ws' := wPM G ao so eo to ho mo oo xo bads noes fulls ++ (wSc G so sr sp sq _ pat ops cnt ++ wPs G eo ek ka kb kc kd (kpR krows next rows) (kpP kpat next pat) (kpO kops next ops) (kpC kcnt next cnt) (kpN next) (kpS size))) (zp_sk (by rfl) (zp_head (by rfl) (by rfl))) ?_)
          refine z_iload (pc := 83) C 0 dX8_dot_83 rfl ?_
          exact z_iret (pc := 85) C E dX8_dot_85 (pI.mk (by simp only [f_X8_dot, if_neg c_4, if_neg c_12, if_neg c_22, if_neg c_57]) (by simp only [g_X8_dot_bads, g_X8_dot_rows, g_X8_dot_krows, g_X8_dot_kpat, g_X8_dot_kops, g_X8_dot_kcnt, g_X8_dot_next, g_X8_dot_size, if_neg c_4, if_neg c_12, if_neg c_22, if_neg c_57]))
      · skip
        refine z_aload_n (pc := 25) C 0 dX8_dot_25 rfl ?_
        refine z_callV (pc := 26) C (c_X8_refusedBad) (List.range 1) z00 mV_X8_refusedBad q_296 dX8_dot_26 rfl rfl (zg_head (by rfl)) 0 rfl rfl rfl rfl (Nat.le_of_ble_eq_true rfl) (by decide) (pI.go (ws' := wPM G ao so eo to ho mo oo xo _ noes fulls ++ (wSc G so sr sp sq rows pat ops cnt ++ wPs G eo ek ka kb kc kd krows kpat kops kcnt next size)) (zp_head (by rfl) (by rfl)) ?_)
        exact z_iret (pc := 29) C E dX8_dot_29 (pI.mk (by simp only [f_X8_dot, if_neg c_4, if_neg c_12, if_pos c_22]) (by simp only [g_X8_dot_bads, g_X8_dot_rows, g_X8_dot_krows, g_X8_dot_kpat, g_X8_dot_kops, g_X8_dot_kcnt, g_X8_dot_next, g_X8_dot_size, if_neg c_4, if_neg c_12, if_pos c_22]))
