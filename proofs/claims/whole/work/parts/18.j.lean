def wPs (G : zG) (eo ek : Nat) (ka kb kc kd : Nat → Nat) (krows kpat kops : Nat → Nat → Int32) (kcnt : Nat → Int32) (next size : Int32) : va_W := [(eo, .inr (5, [.ref ek, .int next, .int size])), (ek, .inl (cS G, 6, .inr (.inr (.inr (.inr (fun i => some (ka i))))))),
  (ka 0, .inr (6, [.ref (kb 0), .ref (kc 0), .ref (kd 0), .int (kcnt 0)])), (kb 0, .inl (cI G, 72, .inl (krows 0))), (kc 0, .inl (cI G, 8, .inl (kpat 0))), (kd 0, .inl (cI G, 16, .inl (kops 0))),
  (ka 1, .inr (6, [.ref (kb 1), .ref (kc 1), .ref (kd 1), .int (kcnt 1)])), (kb 1, .inl (cI G, 72, .inl (krows 1))), (kc 1, .inl (cI G, 8, .inl (kpat 1))), (kd 1, .inl (cI G, 16, .inl (kops 1))),
  (ka 2, .inr (6, [.ref (kb 2), .ref (kc 2), .ref (kd 2), .int (kcnt 2)])), (kb 2, .inl (cI G, 72, .inl (krows 2))), (kc 2, .inl (cI G, 8, .inl (kpat 2))), (kd 2, .inl (cI G, 16, .inl (kops 2))),
  (ka 3, .inr (6, [.ref (kb 3), .ref (kc 3), .ref (kd 3), .int (kcnt 3)])), (kb 3, .inl (cI G, 72, .inl (krows 3))), (kc 3, .inl (cI G, 8, .inl (kpat 3))), (kd 3, .inl (cI G, 16, .inl (kops 3))),
  (ka 4, .inr (6, [.ref (kb 4), .ref (kc 4), .ref (kd 4), .int (kcnt 4)])), (kb 4, .inl (cI G, 72, .inl (krows 4))), (kc 4, .inl (cI G, 8, .inl (kpat 4))), (kd 4, .inl (cI G, 16, .inl (kops 4))),
  (ka 5, .inr (6, [.ref (kb 5), .ref (kc 5), .ref (kd 5), .int (kcnt 5)])), (kb 5, .inl (cI G, 72, .inl (krows 5))), (kc 5, .inl (cI G, 8, .inl (kpat 5))), (kd 5, .inl (cI G, 16, .inl (kops 5)))]
def wPM (G : zG) (ao so eo to ho mo oo xo : Nat) (bads noes fulls : Int32) : va_W := [(ao, .inr (8, [.ref so, .ref eo, .ref to, .ref ho, .ref mo, .ref oo, .ref xo, .int bads, .int noes, .int fulls]))]
theorem ad_Ps {G : zG} {eo ek : Nat} {ka kb kc kd : Nat → Nat} {krows kpat kops krows' kpat' kops' : Nat → Nat → Int32} {kcnt kcnt' : Nat → Int32} {next size next' size' : Int32} : (wPs G eo ek ka kb kc kd krows kpat kops kcnt next size).map (fun q => some q.1) = (wPs G eo ek ka kb kc kd krows' kpat' kops' kcnt' next' size').map (fun q => some q.1) := rfl
theorem ad_PM {G : zG} {ao so eo to ho mo oo xo : Nat} {bads noes fulls bads' noes' fulls' : Int32} : (wPM G ao so eo to ho mo oo xo bads noes fulls).map (fun q => some q.1) = (wPM G ao so eo to ho mo oo xo bads' noes' fulls').map (fun q => some q.1) := rfl

/-- the ring's next place -/
def nOk (next : Int32) : Prop := 0 ≤ next.toInt ∧ next.toInt < 6
theorem nOk_of {next : Int32} (h : nOk next) : next = nI 0 ∨ next = nI 1 ∨ next = nI 2 ∨ next = nI 3 ∨ next = nI 4 ∨ next = nI 5 := by
  obtain ⟨h1, h2⟩ := h
  have e : ∀ k : Nat, k < 6 → next.toInt = k → next = nI k := fun k hk hq => by rw [← Int32.toInt_inj, nI_toInt (by omega)]; exact hq
  rcases (show next.toInt = 0 ∨ next.toInt = 1 ∨ next.toInt = 2 ∨ next.toInt = 3 ∨ next.toInt = 4 ∨ next.toInt = 5 by omega) with q | q | q | q | q | q
  · exact Or.inl (e 0 (by decide) q)
  · exact Or.inr (Or.inl (e 1 (by decide) q))
  · exact Or.inr (Or.inr (Or.inl (e 2 (by decide) q)))
  · exact Or.inr (Or.inr (Or.inr (Or.inl (e 3 (by decide) q))))
  · exact Or.inr (Or.inr (Or.inr (Or.inr (Or.inl (e 4 (by decide) q)))))
  · exact Or.inr (Or.inr (Or.inr (Or.inr (Or.inr (e 5 (by decide) q)))))
def kpR (krows : Nat → Nat → Int32) (next : Int32) (rows : Nat → Int32) : Nat → Nat → Int32 := va_up krows next.toNatClampNeg (g_X6_becomes_rows (krows next.toNatClampNeg) rows)
def kpP (kpat : Nat → Nat → Int32) (next : Int32) (pat : Nat → Int32) : Nat → Nat → Int32 := va_up kpat next.toNatClampNeg (g_X6_becomes_pat (kpat next.toNatClampNeg) pat)
def kpO (kops : Nat → Nat → Int32) (next : Int32) (ops : Nat → Int32) : Nat → Nat → Int32 := va_up kops next.toNatClampNeg (g_X6_becomes_ops (kops next.toNatClampNeg) ops)
def kpC (kcnt : Nat → Int32) (next : Int32) (cnt : Int32) : Nat → Int32 := va_up kcnt next.toNatClampNeg (g_X6_becomes_cnt cnt)
def kpN (next : Int32) : Int32 := (next + 1) - (next + 1) / 6 * 6
def kpS (size : Int32) : Int32 := f_J9_min_7cf53 (size + 1) 6

set_option maxRecDepth 100000 in
theorem c_X5_keeps {l : Launch} {G : zG} {eo ek so sr sp sq : Nat} {ka kb kc kd : Nat → Nat} {krows kpat kops : Nat → Nat → Int32} {kcnt : Nat → Int32} {next size : Int32} {rows pat ops : Nat → Int32} {cnt : Int32} (hn : nOk next) : Ct l G yX5_keeps cX5_keeps 2 none 2 61 [.ref eo, .ref so] (wPs G eo ek ka kb kc kd krows kpat kops kcnt next size ++ wSc G so sr sp sq rows pat ops cnt) (pV (wPs G eo ek ka kb kc kd (kpR krows next rows) (kpP kpat next pat) (kpO kops next ops) (kpC kcnt next cnt) (kpN next) (kpS size) ++ wSc G so sr sp sq rows pat ops cnt)) := by
  refine Ct.of (plainFor_of_name (by decide)) (Nat.le_of_ble_eq_true rfl) (pV.ad (ad_app ad_Ps ad_Sc)) (fun X C E => ?_)
  show Z X G 2 0 0 _ 0 [(0, .ref eo), (1, .ref so)] []
  rcases nOk_of hn with rfl | rfl | rfl | rfl | rfl | rfl
  · refine z_aload_n (pc := 0) C 0 dX5_keeps_0 rfl ?_
    refine z_get (pc := 1) C 0 0 dX5_keeps_1 rfl rfl i_X5 (by decide) q_145 rfl ?_
    refine z_aload_n (pc := 4) C 0 dX5_keeps_4 rfl ?_
    refine z_get (pc := 5) C 0 1 dX5_keeps_5 rfl rfl i_X5 (by decide) q_146 rfl ?_
    refine z_aald (pc := 8) C 1 dX5_keeps_8 rfl (vp_in_nI (by decide) (by decide)) ?_
    rw [nI_clamp (show 0 < 2 ^ 31 by decide)]
    refine z_eq (st' := [.ref (ka 0)]) rfl rfl rfl ?_
    refine z_aload_n (pc := 9) C 1 dX5_keeps_9 rfl ?_
    refine z_callV (pc := 10) C (c_X6_becomes (rows := krows 0) (pat := kpat 0) (ops := kops 0) (cnt := kcnt 0)) [2, 3, 4, 5, 26, 27, 28, 29] z00 mV_X6_becomes q_304 dX5_keeps_10 rfl rfl rfl 2 rfl rfl rfl rfl (Nat.le_of_ble_eq_true rfl) (by decide) (pV.go (ws' := wPs G eo ek ka kb kc kd (va_up krows 0 (g_X6_becomes_rows (krows 0) rows)) (va_up kpat 0 (g_X6_becomes_pat (kpat 0) pat)) (va_up kops 0 (g_X6_becomes_ops (kops 0) ops)) (va_up kcnt 0 (g_X6_becomes_cnt cnt)) (nI 0) size ++ wSc G so sr sp sq rows pat ops cnt) rfl ?_)
    refine z_aload_n (pc := 13) C 0 dX5_keeps_13 rfl ?_
    refine z_aload_n (pc := 14) C 0 dX5_keeps_14 rfl ?_
    refine z_get (pc := 15) C 0 1 dX5_keeps_15 rfl rfl i_X5 (by decide) q_146 rfl ?_
    refine z_iconst (pc := 18) (v := 1) C dX5_keeps_18 (by decide) ?_
    refine z_iadd (pc := 19) C dX5_keeps_19 ?_
    refine z_bipush (pc := 20) (v := 6) C dX5_keeps_20 (by decide) ?_
    refine z_irem (pc := 22) C dX5_keeps_22 (by decide) ?_
    refine z_put (pc := 23) (wPs G eo ek ka kb kc kd (va_up krows 0 (g_X6_becomes_rows (krows 0) rows)) (va_up kpat 0 (g_X6_becomes_pat (kpat 0) pat)) (va_up kops 0 (g_X6_becomes_ops (kops 0) ops)) (va_up kcnt 0 (g_X6_becomes_cnt cnt)) (kpN (nI 0)) size ++ wSc G so sr sp sq rows pat ops cnt) C 0 1 dX5_keeps_23 rfl rfl i_X5 tyX5_ok nmX5 (by decide) q_146 rfl rfl rfl rfl (Nat.le_of_ble_eq_true rfl) rfl ?_
    refine z_aload_n (pc := 26) C 0 dX5_keeps_26 rfl ?_
    refine z_aload_n (pc := 27) C 0 dX5_keeps_27 rfl ?_
    refine z_get (pc := 28) C 0 2 dX5_keeps_28 rfl rfl i_X5 (by decide) q_147 rfl ?_
    refine z_iconst (pc := 31) (v := 1) C dX5_keeps_31 (by decide) ?_
    refine z_iadd (pc := 32) C dX5_keeps_32 ?_
    refine z_bipush (pc := 33) (v := 6) C dX5_keeps_33 (by decide) ?_
    refine z_callS (pc := 35) C (c_J9_min_7cf53) [] z00 mS_J9_min_7cf53 q_311 dX5_keeps_35 rfl rfl rfl rfl (Nat.le_of_ble_eq_true rfl) (by decide) (pI.stay rfl ?_)
    refine z_put (pc := 38) (wPs G eo ek ka kb kc kd (va_up krows 0 (g_X6_becomes_rows (krows 0) rows)) (va_up kpat 0 (g_X6_becomes_pat (kpat 0) pat)) (va_up kops 0 (g_X6_becomes_ops (kops 0) ops)) (va_up kcnt 0 (g_X6_becomes_cnt cnt)) (kpN (nI 0)) (kpS size) ++ wSc G so sr sp sq rows pat ops cnt) C 0 2 dX5_keeps_38 rfl rfl i_X5 tyX5_ok nmX5 (by decide) q_147 rfl rfl rfl rfl (Nat.le_of_ble_eq_true rfl) rfl ?_
    exact z_vret (pc := 41) C E dX5_keeps_41 (pV.mk (by simp only [kpR, kpP, kpO, kpC, nI_clamp (show 0 < 2 ^ 31 by decide)]))
  · refine z_aload_n (pc := 0) C 0 dX5_keeps_0 rfl ?_
    refine z_get (pc := 1) C 0 0 dX5_keeps_1 rfl rfl i_X5 (by decide) q_145 rfl ?_
    refine z_aload_n (pc := 4) C 0 dX5_keeps_4 rfl ?_
    refine z_get (pc := 5) C 0 1 dX5_keeps_5 rfl rfl i_X5 (by decide) q_146 rfl ?_
    refine z_aald (pc := 8) C 1 dX5_keeps_8 rfl (vp_in_nI (by decide) (by decide)) ?_
    rw [nI_clamp (show 1 < 2 ^ 31 by decide)]
    refine z_eq (st' := [.ref (ka 1)]) rfl rfl rfl ?_
    refine z_aload_n (pc := 9) C 1 dX5_keeps_9 rfl ?_
    refine z_callV (pc := 10) C (c_X6_becomes (rows := krows 1) (pat := kpat 1) (ops := kops 1) (cnt := kcnt 1)) [6, 7, 8, 9, 26, 27, 28, 29] z00 mV_X6_becomes q_304 dX5_keeps_10 rfl rfl rfl 6 rfl rfl rfl rfl (Nat.le_of_ble_eq_true rfl) (by decide) (pV.go (ws' := wPs G eo ek ka kb kc kd (va_up krows 1 (g_X6_becomes_rows (krows 1) rows)) (va_up kpat 1 (g_X6_becomes_pat (kpat 1) pat)) (va_up kops 1 (g_X6_becomes_ops (kops 1) ops)) (va_up kcnt 1 (g_X6_becomes_cnt cnt)) (nI 1) size ++ wSc G so sr sp sq rows pat ops cnt) rfl ?_)
    refine z_aload_n (pc := 13) C 0 dX5_keeps_13 rfl ?_
    refine z_aload_n (pc := 14) C 0 dX5_keeps_14 rfl ?_
    refine z_get (pc := 15) C 0 1 dX5_keeps_15 rfl rfl i_X5 (by decide) q_146 rfl ?_
    refine z_iconst (pc := 18) (v := 1) C dX5_keeps_18 (by decide) ?_
    refine z_iadd (pc := 19) C dX5_keeps_19 ?_
    refine z_bipush (pc := 20) (v := 6) C dX5_keeps_20 (by decide) ?_
    refine z_irem (pc := 22) C dX5_keeps_22 (by decide) ?_
    refine z_put (pc := 23) (wPs G eo ek ka kb kc kd (va_up krows 1 (g_X6_becomes_rows (krows 1) rows)) (va_up kpat 1 (g_X6_becomes_pat (kpat 1) pat)) (va_up kops 1 (g_X6_becomes_ops (kops 1) ops)) (va_up kcnt 1 (g_X6_becomes_cnt cnt)) (kpN (nI 1)) size ++ wSc G so sr sp sq rows pat ops cnt) C 0 1 dX5_keeps_23 rfl rfl i_X5 tyX5_ok nmX5 (by decide) q_146 rfl rfl rfl rfl (Nat.le_of_ble_eq_true rfl) rfl ?_
    refine z_aload_n (pc := 26) C 0 dX5_keeps_26 rfl ?_
    refine z_aload_n (pc := 27) C 0 dX5_keeps_27 rfl ?_
    refine z_get (pc := 28) C 0 2 dX5_keeps_28 rfl rfl i_X5 (by decide) q_147 rfl ?_
    refine z_iconst (pc := 31) (v := 1) C dX5_keeps_31 (by decide) ?_
    refine z_iadd (pc := 32) C dX5_keeps_32 ?_
    refine z_bipush (pc := 33) (v := 6) C dX5_keeps_33 (by decide) ?_
    refine z_callS (pc := 35) C (c_J9_min_7cf53) [] z00 mS_J9_min_7cf53 q_311 dX5_keeps_35 rfl rfl rfl rfl (Nat.le_of_ble_eq_true rfl) (by decide) (pI.stay rfl ?_)
    refine z_put (pc := 38) (wPs G eo ek ka kb kc kd (va_up krows 1 (g_X6_becomes_rows (krows 1) rows)) (va_up kpat 1 (g_X6_becomes_pat (kpat 1) pat)) (va_up kops 1 (g_X6_becomes_ops (kops 1) ops)) (va_up kcnt 1 (g_X6_becomes_cnt cnt)) (kpN (nI 1)) (kpS size) ++ wSc G so sr sp sq rows pat ops cnt) C 0 2 dX5_keeps_38 rfl rfl i_X5 tyX5_ok nmX5 (by decide) q_147 rfl rfl rfl rfl (Nat.le_of_ble_eq_true rfl) rfl ?_
    exact z_vret (pc := 41) C E dX5_keeps_41 (pV.mk (by simp only [kpR, kpP, kpO, kpC, nI_clamp (show 1 < 2 ^ 31 by decide)]))
  · refine z_aload_n (pc := 0) C 0 dX5_keeps_0 rfl ?_
    refine z_get (pc := 1) C 0 0 dX5_keeps_1 rfl rfl i_X5 (by decide) q_145 rfl ?_
    refine z_aload_n (pc := 4) C 0 dX5_keeps_4 rfl ?_
    refine z_get (pc := 5) C 0 1 dX5_keeps_5 rfl rfl i_X5 (by decide) q_146 rfl ?_
    refine z_aald (pc := 8) C 1 dX5_keeps_8 rfl (vp_in_nI (by decide) (by decide)) ?_
    rw [nI_clamp (show 2 < 2 ^ 31 by decide)]
    refine z_eq (st' := [.ref (ka 2)]) rfl rfl rfl ?_
    refine z_aload_n (pc := 9) C 1 dX5_keeps_9 rfl ?_
    refine z_callV (pc := 10) C (c_X6_becomes (rows := krows 2) (pat := kpat 2) (ops := kops 2) (cnt := kcnt 2)) [10, 11, 12, 13, 26, 27, 28, 29] z00 mV_X6_becomes q_304 dX5_keeps_10 rfl rfl rfl 10 rfl rfl rfl rfl (Nat.le_of_ble_eq_true rfl) (by decide) (pV.go (ws' := wPs G eo ek ka kb kc kd (va_up krows 2 (g_X6_becomes_rows (krows 2) rows)) (va_up kpat 2 (g_X6_becomes_pat (kpat 2) pat)) (va_up kops 2 (g_X6_becomes_ops (kops 2) ops)) (va_up kcnt 2 (g_X6_becomes_cnt cnt)) (nI 2) size ++ wSc G so sr sp sq rows pat ops cnt) rfl ?_)
    refine z_aload_n (pc := 13) C 0 dX5_keeps_13 rfl ?_
    refine z_aload_n (pc := 14) C 0 dX5_keeps_14 rfl ?_
    refine z_get (pc := 15) C 0 1 dX5_keeps_15 rfl rfl i_X5 (by decide) q_146 rfl ?_
    refine z_iconst (pc := 18) (v := 1) C dX5_keeps_18 (by decide) ?_
    refine z_iadd (pc := 19) C dX5_keeps_19 ?_
    refine z_bipush (pc := 20) (v := 6) C dX5_keeps_20 (by decide) ?_
    refine z_irem (pc := 22) C dX5_keeps_22 (by decide) ?_
    refine z_put (pc := 23) (wPs G eo ek ka kb kc kd (va_up krows 2 (g_X6_becomes_rows (krows 2) rows)) (va_up kpat 2 (g_X6_becomes_pat (kpat 2) pat)) (va_up kops 2 (g_X6_becomes_ops (kops 2) ops)) (va_up kcnt 2 (g_X6_becomes_cnt cnt)) (kpN (nI 2)) size ++ wSc G so sr sp sq rows pat ops cnt) C 0 1 dX5_keeps_23 rfl rfl i_X5 tyX5_ok nmX5 (by decide) q_146 rfl rfl rfl rfl (Nat.le_of_ble_eq_true rfl) rfl ?_
    refine z_aload_n (pc := 26) C 0 dX5_keeps_26 rfl ?_
    refine z_aload_n (pc := 27) C 0 dX5_keeps_27 rfl ?_
    refine z_get (pc := 28) C 0 2 dX5_keeps_28 rfl rfl i_X5 (by decide) q_147 rfl ?_
    refine z_iconst (pc := 31) (v := 1) C dX5_keeps_31 (by decide) ?_
    refine z_iadd (pc := 32) C dX5_keeps_32 ?_
    refine z_bipush (pc := 33) (v := 6) C dX5_keeps_33 (by decide) ?_
    refine z_callS (pc := 35) C (c_J9_min_7cf53) [] z00 mS_J9_min_7cf53 q_311 dX5_keeps_35 rfl rfl rfl rfl (Nat.le_of_ble_eq_true rfl) (by decide) (pI.stay rfl ?_)
    refine z_put (pc := 38) (wPs G eo ek ka kb kc kd (va_up krows 2 (g_X6_becomes_rows (krows 2) rows)) (va_up kpat 2 (g_X6_becomes_pat (kpat 2) pat)) (va_up kops 2 (g_X6_becomes_ops (kops 2) ops)) (va_up kcnt 2 (g_X6_becomes_cnt cnt)) (kpN (nI 2)) (kpS size) ++ wSc G so sr sp sq rows pat ops cnt) C 0 2 dX5_keeps_38 rfl rfl i_X5 tyX5_ok nmX5 (by decide) q_147 rfl rfl rfl rfl (Nat.le_of_ble_eq_true rfl) rfl ?_
    exact z_vret (pc := 41) C E dX5_keeps_41 (pV.mk (by simp only [kpR, kpP, kpO, kpC, nI_clamp (show 2 < 2 ^ 31 by decide)]))
  · refine z_aload_n (pc := 0) C 0 dX5_keeps_0 rfl ?_
    refine z_get (pc := 1) C 0 0 dX5_keeps_1 rfl rfl i_X5 (by decide) q_145 rfl ?_
    refine z_aload_n (pc := 4) C 0 dX5_keeps_4 rfl ?_
    refine z_get (pc := 5) C 0 1 dX5_keeps_5 rfl rfl i_X5 (by decide) q_146 rfl ?_
    refine z_aald (pc := 8) C 1 dX5_keeps_8 rfl (vp_in_nI (by decide) (by decide)) ?_
    rw [nI_clamp (show 3 < 2 ^ 31 by decide)]
    refine z_eq (st' := [.ref (ka 3)]) rfl rfl rfl ?_
    refine z_aload_n (pc := 9) C 1 dX5_keeps_9 rfl ?_
    refine z_callV (pc := 10) C (c_X6_becomes (rows := krows 3) (pat := kpat 3) (ops := kops 3) (cnt := kcnt 3)) [14, 15, 16, 17, 26, 27, 28, 29] z00 mV_X6_becomes q_304 dX5_keeps_10 rfl rfl rfl 14 rfl rfl rfl rfl (Nat.le_of_ble_eq_true rfl) (by decide) (pV.go (ws' := wPs G eo ek ka kb kc kd (va_up krows 3 (g_X6_becomes_rows (krows 3) rows)) (va_up kpat 3 (g_X6_becomes_pat (kpat 3) pat)) (va_up kops 3 (g_X6_becomes_ops (kops 3) ops)) (va_up kcnt 3 (g_X6_becomes_cnt cnt)) (nI 3) size ++ wSc G so sr sp sq rows pat ops cnt) rfl ?_)
    refine z_aload_n (pc := 13) C 0 dX5_keeps_13 rfl ?_
    refine z_aload_n (pc := 14) C 0 dX5_keeps_14 rfl ?_
    refine z_get (pc := 15) C 0 1 dX5_keeps_15 rfl rfl i_X5 (by decide) q_146 rfl ?_
    refine z_iconst (pc := 18) (v := 1) C dX5_keeps_18 (by decide) ?_
    refine z_iadd (pc := 19) C dX5_keeps_19 ?_
    refine z_bipush (pc := 20) (v := 6) C dX5_keeps_20 (by decide) ?_
    refine z_irem (pc := 22) C dX5_keeps_22 (by decide) ?_
    refine z_put (pc := 23) (wPs G eo ek ka kb kc kd (va_up krows 3 (g_X6_becomes_rows (krows 3) rows)) (va_up kpat 3 (g_X6_becomes_pat (kpat 3) pat)) (va_up kops 3 (g_X6_becomes_ops (kops 3) ops)) (va_up kcnt 3 (g_X6_becomes_cnt cnt)) (kpN (nI 3)) size ++ wSc G so sr sp sq rows pat ops cnt) C 0 1 dX5_keeps_23 rfl rfl i_X5 tyX5_ok nmX5 (by decide) q_146 rfl rfl rfl rfl (Nat.le_of_ble_eq_true rfl) rfl ?_
    refine z_aload_n (pc := 26) C 0 dX5_keeps_26 rfl ?_
    refine z_aload_n (pc := 27) C 0 dX5_keeps_27 rfl ?_
    refine z_get (pc := 28) C 0 2 dX5_keeps_28 rfl rfl i_X5 (by decide) q_147 rfl ?_
    refine z_iconst (pc := 31) (v := 1) C dX5_keeps_31 (by decide) ?_
    refine z_iadd (pc := 32) C dX5_keeps_32 ?_
    refine z_bipush (pc := 33) (v := 6) C dX5_keeps_33 (by decide) ?_
    refine z_callS (pc := 35) C (c_J9_min_7cf53) [] z00 mS_J9_min_7cf53 q_311 dX5_keeps_35 rfl rfl rfl rfl (Nat.le_of_ble_eq_true rfl) (by decide) (pI.stay rfl ?_)
    refine z_put (pc := 38) (wPs G eo ek ka kb kc kd (va_up krows 3 (g_X6_becomes_rows (krows 3) rows)) (va_up kpat 3 (g_X6_becomes_pat (kpat 3) pat)) (va_up kops 3 (g_X6_becomes_ops (kops 3) ops)) (va_up kcnt 3 (g_X6_becomes_cnt cnt)) (kpN (nI 3)) (kpS size) ++ wSc G so sr sp sq rows pat ops cnt) C 0 2 dX5_keeps_38 rfl rfl i_X5 tyX5_ok nmX5 (by decide) q_147 rfl rfl rfl rfl (Nat.le_of_ble_eq_true rfl) rfl ?_
    exact z_vret (pc := 41) C E dX5_keeps_41 (pV.mk (by simp only [kpR, kpP, kpO, kpC, nI_clamp (show 3 < 2 ^ 31 by decide)]))
  · refine z_aload_n (pc := 0) C 0 dX5_keeps_0 rfl ?_
    refine z_get (pc := 1) C 0 0 dX5_keeps_1 rfl rfl i_X5 (by decide) q_145 rfl ?_
    refine z_aload_n (pc := 4) C 0 dX5_keeps_4 rfl ?_
    refine z_get (pc := 5) C 0 1 dX5_keeps_5 rfl rfl i_X5 (by decide) q_146 rfl ?_
    refine z_aald (pc := 8) C 1 dX5_keeps_8 rfl (vp_in_nI (by decide) (by decide)) ?_
    rw [nI_clamp (show 4 < 2 ^ 31 by decide)]
    refine z_eq (st' := [.ref (ka 4)]) rfl rfl rfl ?_
    refine z_aload_n (pc := 9) C 1 dX5_keeps_9 rfl ?_
    refine z_callV (pc := 10) C (c_X6_becomes (rows := krows 4) (pat := kpat 4) (ops := kops 4) (cnt := kcnt 4)) [18, 19, 20, 21, 26, 27, 28, 29] z00 mV_X6_becomes q_304 dX5_keeps_10 rfl rfl rfl 18 rfl rfl rfl rfl (Nat.le_of_ble_eq_true rfl) (by decide) (pV.go (ws' := wPs G eo ek ka kb kc kd (va_up krows 4 (g_X6_becomes_rows (krows 4) rows)) (va_up kpat 4 (g_X6_becomes_pat (kpat 4) pat)) (va_up kops 4 (g_X6_becomes_ops (kops 4) ops)) (va_up kcnt 4 (g_X6_becomes_cnt cnt)) (nI 4) size ++ wSc G so sr sp sq rows pat ops cnt) rfl ?_)
    refine z_aload_n (pc := 13) C 0 dX5_keeps_13 rfl ?_
    refine z_aload_n (pc := 14) C 0 dX5_keeps_14 rfl ?_
    refine z_get (pc := 15) C 0 1 dX5_keeps_15 rfl rfl i_X5 (by decide) q_146 rfl ?_
    refine z_iconst (pc := 18) (v := 1) C dX5_keeps_18 (by decide) ?_
    refine z_iadd (pc := 19) C dX5_keeps_19 ?_
    refine z_bipush (pc := 20) (v := 6) C dX5_keeps_20 (by decide) ?_
    refine z_irem (pc := 22) C dX5_keeps_22 (by decide) ?_
    refine z_put (pc := 23) (wPs G eo ek ka kb kc kd (va_up krows 4 (g_X6_becomes_rows (krows 4) rows)) (va_up kpat 4 (g_X6_becomes_pat (kpat 4) pat)) (va_up kops 4 (g_X6_becomes_ops (kops 4) ops)) (va_up kcnt 4 (g_X6_becomes_cnt cnt)) (kpN (nI 4)) size ++ wSc G so sr sp sq rows pat ops cnt) C 0 1 dX5_keeps_23 rfl rfl i_X5 tyX5_ok nmX5 (by decide) q_146 rfl rfl rfl rfl (Nat.le_of_ble_eq_true rfl) rfl ?_
    refine z_aload_n (pc := 26) C 0 dX5_keeps_26 rfl ?_
    refine z_aload_n (pc := 27) C 0 dX5_keeps_27 rfl ?_
    refine z_get (pc := 28) C 0 2 dX5_keeps_28 rfl rfl i_X5 (by decide) q_147 rfl ?_
    refine z_iconst (pc := 31) (v := 1) C dX5_keeps_31 (by decide) ?_
    refine z_iadd (pc := 32) C dX5_keeps_32 ?_
    refine z_bipush (pc := 33) (v := 6) C dX5_keeps_33 (by decide) ?_
    refine z_callS (pc := 35) C (c_J9_min_7cf53) [] z00 mS_J9_min_7cf53 q_311 dX5_keeps_35 rfl rfl rfl rfl (Nat.le_of_ble_eq_true rfl) (by decide) (pI.stay rfl ?_)
    refine z_put (pc := 38) (wPs G eo ek ka kb kc kd (va_up krows 4 (g_X6_becomes_rows (krows 4) rows)) (va_up kpat 4 (g_X6_becomes_pat (kpat 4) pat)) (va_up kops 4 (g_X6_becomes_ops (kops 4) ops)) (va_up kcnt 4 (g_X6_becomes_cnt cnt)) (kpN (nI 4)) (kpS size) ++ wSc G so sr sp sq rows pat ops cnt) C 0 2 dX5_keeps_38 rfl rfl i_X5 tyX5_ok nmX5 (by decide) q_147 rfl rfl rfl rfl (Nat.le_of_ble_eq_true rfl) rfl ?_
    exact z_vret (pc := 41) C E dX5_keeps_41 (pV.mk (by simp only [kpR, kpP, kpO, kpC, nI_clamp (show 4 < 2 ^ 31 by decide)]))
  · refine z_aload_n (pc := 0) C 0 dX5_keeps_0 rfl ?_
    refine z_get (pc := 1) C 0 0 dX5_keeps_1 rfl rfl i_X5 (by decide) q_145 rfl ?_
    refine z_aload_n (pc := 4) C 0 dX5_keeps_4 rfl ?_
    refine z_get (pc := 5) C 0 1 dX5_keeps_5 rfl rfl i_X5 (by decide) q_146 rfl ?_
    refine z_aald (pc := 8) C 1 dX5_keeps_8 rfl (vp_in_nI (by decide) (by decide)) ?_
    rw [nI_clamp (show 5 < 2 ^ 31 by decide)]
    refine z_eq (st' := [.ref (ka 5)]) rfl rfl rfl ?_
    refine z_aload_n (pc := 9) C 1 dX5_keeps_9 rfl ?_
    refine z_callV (pc := 10) C (c_X6_becomes (rows := krows 5) (pat := kpat 5) (ops := kops 5) (cnt := kcnt 5)) [22, 23, 24, 25, 26, 27, 28, 29] z00 mV_X6_becomes q_304 dX5_keeps_10 rfl rfl rfl 22 rfl rfl rfl rfl (Nat.le_of_ble_eq_true rfl) (by decide) (pV.go (ws' := wPs G eo ek ka kb kc kd (va_up krows 5 (g_X6_becomes_rows (krows 5) rows)) (va_up kpat 5 (g_X6_becomes_pat (kpat 5) pat)) (va_up kops 5 (g_X6_becomes_ops (kops 5) ops)) (va_up kcnt 5 (g_X6_becomes_cnt cnt)) (nI 5) size ++ wSc G so sr sp sq rows pat ops cnt) rfl ?_)
    refine z_aload_n (pc := 13) C 0 dX5_keeps_13 rfl ?_
    refine z_aload_n (pc := 14) C 0 dX5_keeps_14 rfl ?_
    refine z_get (pc := 15) C 0 1 dX5_keeps_15 rfl rfl i_X5 (by decide) q_146 rfl ?_
    refine z_iconst (pc := 18) (v := 1) C dX5_keeps_18 (by decide) ?_
    refine z_iadd (pc := 19) C dX5_keeps_19 ?_
    refine z_bipush (pc := 20) (v := 6) C dX5_keeps_20 (by decide) ?_
    refine z_irem (pc := 22) C dX5_keeps_22 (by decide) ?_
    refine z_put (pc := 23) (wPs G eo ek ka kb kc kd (va_up krows 5 (g_X6_becomes_rows (krows 5) rows)) (va_up kpat 5 (g_X6_becomes_pat (kpat 5) pat)) (va_up kops 5 (g_X6_becomes_ops (kops 5) ops)) (va_up kcnt 5 (g_X6_becomes_cnt cnt)) (kpN (nI 5)) size ++ wSc G so sr sp sq rows pat ops cnt) C 0 1 dX5_keeps_23 rfl rfl i_X5 tyX5_ok nmX5 (by decide) q_146 rfl rfl rfl rfl (Nat.le_of_ble_eq_true rfl) rfl ?_
    refine z_aload_n (pc := 26) C 0 dX5_keeps_26 rfl ?_
    refine z_aload_n (pc := 27) C 0 dX5_keeps_27 rfl ?_
    refine z_get (pc := 28) C 0 2 dX5_keeps_28 rfl rfl i_X5 (by decide) q_147 rfl ?_
    refine z_iconst (pc := 31) (v := 1) C dX5_keeps_31 (by decide) ?_
    refine z_iadd (pc := 32) C dX5_keeps_32 ?_
    refine z_bipush (pc := 33) (v := 6) C dX5_keeps_33 (by decide) ?_
    refine z_callS (pc := 35) C (c_J9_min_7cf53) [] z00 mS_J9_min_7cf53 q_311 dX5_keeps_35 rfl rfl rfl rfl (Nat.le_of_ble_eq_true rfl) (by decide) (pI.stay rfl ?_)
    refine z_put (pc := 38) (wPs G eo ek ka kb kc kd (va_up krows 5 (g_X6_becomes_rows (krows 5) rows)) (va_up kpat 5 (g_X6_becomes_pat (kpat 5) pat)) (va_up kops 5 (g_X6_becomes_ops (kops 5) ops)) (va_up kcnt 5 (g_X6_becomes_cnt cnt)) (kpN (nI 5)) (kpS size) ++ wSc G so sr sp sq rows pat ops cnt) C 0 2 dX5_keeps_38 rfl rfl i_X5 tyX5_ok nmX5 (by decide) q_147 rfl rfl rfl rfl (Nat.le_of_ble_eq_true rfl) rfl ?_
    exact z_vret (pc := 41) C E dX5_keeps_41 (pV.mk (by simp only [kpR, kpP, kpO, kpC, nI_clamp (show 5 < 2 ^ 31 by decide)]))
def gbN (next : Int32) : Int32 := ((next + 6) - 1) - ((next + 6) - 1) / 6 * 6
def gbR (krows : Nat → Nat → Int32) (next : Int32) (rows : Nat → Int32) : Nat → Int32 := g_X6_becomes_rows rows (krows (gbN next).toNatClampNeg)
def gbP (kpat : Nat → Nat → Int32) (next : Int32) (pat : Nat → Int32) : Nat → Int32 := g_X6_becomes_pat pat (kpat (gbN next).toNatClampNeg)
def gbO (kops : Nat → Nat → Int32) (next : Int32) (ops : Nat → Int32) : Nat → Int32 := g_X6_becomes_ops ops (kops (gbN next).toNatClampNeg)
def gbC (kcnt : Nat → Int32) (next : Int32) : Int32 := g_X6_becomes_cnt (kcnt (gbN next).toNatClampNeg)
theorem gbN_at : ∀ j : Nat, j < 6 → gbN (nI j) = nI ((j + 5) % 6) := by decide +kernel

set_option maxRecDepth 100000 in
theorem c_X5_givesBack {l : Launch} {G : zG} {eo ek so sr sp sq : Nat} {ka kb kc kd : Nat → Nat} {krows kpat kops : Nat → Nat → Int32} {kcnt : Nat → Int32} {next size : Int32} {rows pat ops : Nat → Int32} {cnt : Int32} (hn : nOk next) (hs : ¬ size = 0) : Ct l G yX5_givesBack cX5_givesBack 2 none 2 61 [.ref eo, .ref so] (wPs G eo ek ka kb kc kd krows kpat kops kcnt next size ++ wSc G so sr sp sq rows pat ops cnt) (pV (wPs G eo ek ka kb kc kd krows kpat kops kcnt (gbN next) (size - 1) ++ wSc G so sr sp sq (gbR krows next rows) (gbP kpat next pat) (gbO kops next ops) (gbC kcnt next))) := by
  refine Ct.of (plainFor_of_name (by decide)) (Nat.le_of_ble_eq_true rfl) (pV.ad (ad_app ad_Ps ad_Sc)) (fun X C E => ?_)
  show Z X G 2 0 0 _ 0 [(0, .ref eo), (1, .ref so)] []
  rcases nOk_of hn with rfl | rfl | rfl | rfl | rfl | rfl
  · have hg : gbN (nI 0) = nI 5 := gbN_at 0 (by decide)
    refine z_aload_n (pc := 0) C 0 dX5_givesBack_0 rfl ?_
    refine z_get (pc := 1) C 0 2 dX5_givesBack_1 rfl rfl i_X5 (by decide) q_147 rfl ?_
    refine z_if_ne (pc := 4) 8 C dX5_givesBack_4 (by decide) (fun c_4 => ?_) (fun c_4 => absurd c_4 hs)
    refine z_aload_n (pc := 8) C 0 dX5_givesBack_8 rfl ?_
    refine z_aload_n (pc := 9) C 0 dX5_givesBack_9 rfl ?_
    refine z_get (pc := 10) C 0 1 dX5_givesBack_10 rfl rfl i_X5 (by decide) q_146 rfl ?_
    refine z_bipush (pc := 13) (v := 6) C dX5_givesBack_13 (by decide) ?_
    refine z_iadd (pc := 15) C dX5_givesBack_15 ?_
    refine z_iconst (pc := 16) (v := 1) C dX5_givesBack_16 (by decide) ?_
    refine z_isub (pc := 17) C dX5_givesBack_17 ?_
    refine z_bipush (pc := 18) (v := 6) C dX5_givesBack_18 (by decide) ?_
    refine z_irem (pc := 20) C dX5_givesBack_20 (by decide) ?_
    refine z_eq (st' := [.int (nI 5), .ref eo]) rfl rfl (congrArg (fun v => [Value.int v, Value.ref eo]) hg) ?_
    refine z_put (pc := 21) (wPs G eo ek ka kb kc kd krows kpat kops kcnt (nI 5) size ++ wSc G so sr sp sq rows pat ops cnt) C 0 1 dX5_givesBack_21 rfl rfl i_X5 tyX5_ok nmX5 (by decide) q_146 rfl rfl rfl rfl (Nat.le_of_ble_eq_true rfl) rfl ?_
    refine z_aload_n (pc := 24) C 0 dX5_givesBack_24 rfl ?_
    refine z_dup (pc := 25) C dX5_givesBack_25 rfl ?_
    refine z_get (pc := 26) C 0 2 dX5_givesBack_26 rfl rfl i_X5 (by decide) q_147 rfl ?_
    refine z_iconst (pc := 29) (v := 1) C dX5_givesBack_29 (by decide) ?_
    refine z_isub (pc := 30) C dX5_givesBack_30 ?_
    refine z_put (pc := 31) (wPs G eo ek ka kb kc kd krows kpat kops kcnt (nI 5) (size - 1) ++ wSc G so sr sp sq rows pat ops cnt) C 0 2 dX5_givesBack_31 rfl rfl i_X5 tyX5_ok nmX5 (by decide) q_147 rfl rfl rfl rfl (Nat.le_of_ble_eq_true rfl) rfl ?_
    refine z_aload_n (pc := 34) C 1 dX5_givesBack_34 rfl ?_
    refine z_aload_n (pc := 35) C 0 dX5_givesBack_35 rfl ?_
    refine z_get (pc := 36) C 0 0 dX5_givesBack_36 rfl rfl i_X5 (by decide) q_145 rfl ?_
    refine z_aload_n (pc := 39) C 0 dX5_givesBack_39 rfl ?_
    refine z_get (pc := 40) C 0 1 dX5_givesBack_40 rfl rfl i_X5 (by decide) q_146 rfl ?_
    refine z_aald (pc := 43) C 1 dX5_givesBack_43 rfl (vp_in_nI (by decide) (by decide)) ?_
    rw [nI_clamp (show 5 < 2 ^ 31 by decide)]
    refine z_eq (st' := [.ref (ka 5), .ref so]) rfl rfl rfl ?_
    refine z_callV (pc := 44) C (c_X6_becomes (rows2 := krows 5) (pat2 := kpat 5) (ops2 := kops 5) (cnt2 := kcnt 5)) [26, 27, 28, 29, 22, 23, 24, 25] z00 mV_X6_becomes q_304 dX5_givesBack_44 rfl rfl rfl 26 rfl rfl rfl rfl (Nat.le_of_ble_eq_true rfl) (by decide) (pV.go (ws' := wPs G eo ek ka kb kc kd krows kpat kops kcnt (nI 5) (size - 1) ++ wSc G so sr sp sq (g_X6_becomes_rows rows (krows 5)) (g_X6_becomes_pat pat (kpat 5)) (g_X6_becomes_ops ops (kops 5)) (g_X6_becomes_cnt (kcnt 5))) rfl ?_)
    exact z_vret (pc := 47) C E dX5_givesBack_47 (pV.mk (by simp only [gbR, gbP, gbO, gbC, hg, nI_clamp (show 5 < 2 ^ 31 by decide)]))
  · have hg : gbN (nI 1) = nI 0 := gbN_at 1 (by decide)
    refine z_aload_n (pc := 0) C 0 dX5_givesBack_0 rfl ?_
    refine z_get (pc := 1) C 0 2 dX5_givesBack_1 rfl rfl i_X5 (by decide) q_147 rfl ?_
    refine z_if_ne (pc := 4) 8 C dX5_givesBack_4 (by decide) (fun c_4 => ?_) (fun c_4 => absurd c_4 hs)
    refine z_aload_n (pc := 8) C 0 dX5_givesBack_8 rfl ?_
    refine z_aload_n (pc := 9) C 0 dX5_givesBack_9 rfl ?_
    refine z_get (pc := 10) C 0 1 dX5_givesBack_10 rfl rfl i_X5 (by decide) q_146 rfl ?_
    refine z_bipush (pc := 13) (v := 6) C dX5_givesBack_13 (by decide) ?_
    refine z_iadd (pc := 15) C dX5_givesBack_15 ?_
    refine z_iconst (pc := 16) (v := 1) C dX5_givesBack_16 (by decide) ?_
    refine z_isub (pc := 17) C dX5_givesBack_17 ?_
    refine z_bipush (pc := 18) (v := 6) C dX5_givesBack_18 (by decide) ?_
    refine z_irem (pc := 20) C dX5_givesBack_20 (by decide) ?_
    refine z_eq (st' := [.int (nI 0), .ref eo]) rfl rfl (congrArg (fun v => [Value.int v, Value.ref eo]) hg) ?_
    refine z_put (pc := 21) (wPs G eo ek ka kb kc kd krows kpat kops kcnt (nI 0) size ++ wSc G so sr sp sq rows pat ops cnt) C 0 1 dX5_givesBack_21 rfl rfl i_X5 tyX5_ok nmX5 (by decide) q_146 rfl rfl rfl rfl (Nat.le_of_ble_eq_true rfl) rfl ?_
    refine z_aload_n (pc := 24) C 0 dX5_givesBack_24 rfl ?_
    refine z_dup (pc := 25) C dX5_givesBack_25 rfl ?_
    refine z_get (pc := 26) C 0 2 dX5_givesBack_26 rfl rfl i_X5 (by decide) q_147 rfl ?_
    refine z_iconst (pc := 29) (v := 1) C dX5_givesBack_29 (by decide) ?_
    refine z_isub (pc := 30) C dX5_givesBack_30 ?_
    refine z_put (pc := 31) (wPs G eo ek ka kb kc kd krows kpat kops kcnt (nI 0) (size - 1) ++ wSc G so sr sp sq rows pat ops cnt) C 0 2 dX5_givesBack_31 rfl rfl i_X5 tyX5_ok nmX5 (by decide) q_147 rfl rfl rfl rfl (Nat.le_of_ble_eq_true rfl) rfl ?_
    refine z_aload_n (pc := 34) C 1 dX5_givesBack_34 rfl ?_
    refine z_aload_n (pc := 35) C 0 dX5_givesBack_35 rfl ?_
    refine z_get (pc := 36) C 0 0 dX5_givesBack_36 rfl rfl i_X5 (by decide) q_145 rfl ?_
    refine z_aload_n (pc := 39) C 0 dX5_givesBack_39 rfl ?_
    refine z_get (pc := 40) C 0 1 dX5_givesBack_40 rfl rfl i_X5 (by decide) q_146 rfl ?_
    refine z_aald (pc := 43) C 1 dX5_givesBack_43 rfl (vp_in_nI (by decide) (by decide)) ?_
    rw [nI_clamp (show 0 < 2 ^ 31 by decide)]
    refine z_eq (st' := [.ref (ka 0), .ref so]) rfl rfl rfl ?_
    refine z_callV (pc := 44) C (c_X6_becomes (rows2 := krows 0) (pat2 := kpat 0) (ops2 := kops 0) (cnt2 := kcnt 0)) [26, 27, 28, 29, 2, 3, 4, 5] z00 mV_X6_becomes q_304 dX5_givesBack_44 rfl rfl rfl 26 rfl rfl rfl rfl (Nat.le_of_ble_eq_true rfl) (by decide) (pV.go (ws' := wPs G eo ek ka kb kc kd krows kpat kops kcnt (nI 0) (size - 1) ++ wSc G so sr sp sq (g_X6_becomes_rows rows (krows 0)) (g_X6_becomes_pat pat (kpat 0)) (g_X6_becomes_ops ops (kops 0)) (g_X6_becomes_cnt (kcnt 0))) rfl ?_)
    exact z_vret (pc := 47) C E dX5_givesBack_47 (pV.mk (by simp only [gbR, gbP, gbO, gbC, hg, nI_clamp (show 0 < 2 ^ 31 by decide)]))
  · have hg : gbN (nI 2) = nI 1 := gbN_at 2 (by decide)
    refine z_aload_n (pc := 0) C 0 dX5_givesBack_0 rfl ?_
    refine z_get (pc := 1) C 0 2 dX5_givesBack_1 rfl rfl i_X5 (by decide) q_147 rfl ?_
    refine z_if_ne (pc := 4) 8 C dX5_givesBack_4 (by decide) (fun c_4 => ?_) (fun c_4 => absurd c_4 hs)
    refine z_aload_n (pc := 8) C 0 dX5_givesBack_8 rfl ?_
    refine z_aload_n (pc := 9) C 0 dX5_givesBack_9 rfl ?_
    refine z_get (pc := 10) C 0 1 dX5_givesBack_10 rfl rfl i_X5 (by decide) q_146 rfl ?_
    refine z_bipush (pc := 13) (v := 6) C dX5_givesBack_13 (by decide) ?_
    refine z_iadd (pc := 15) C dX5_givesBack_15 ?_
    refine z_iconst (pc := 16) (v := 1) C dX5_givesBack_16 (by decide) ?_
    refine z_isub (pc := 17) C dX5_givesBack_17 ?_
    refine z_bipush (pc := 18) (v := 6) C dX5_givesBack_18 (by decide) ?_
    refine z_irem (pc := 20) C dX5_givesBack_20 (by decide) ?_
    refine z_eq (st' := [.int (nI 1), .ref eo]) rfl rfl (congrArg (fun v => [Value.int v, Value.ref eo]) hg) ?_
    refine z_put (pc := 21) (wPs G eo ek ka kb kc kd krows kpat kops kcnt (nI 1) size ++ wSc G so sr sp sq rows pat ops cnt) C 0 1 dX5_givesBack_21 rfl rfl i_X5 tyX5_ok nmX5 (by decide) q_146 rfl rfl rfl rfl (Nat.le_of_ble_eq_true rfl) rfl ?_
    refine z_aload_n (pc := 24) C 0 dX5_givesBack_24 rfl ?_
    refine z_dup (pc := 25) C dX5_givesBack_25 rfl ?_
    refine z_get (pc := 26) C 0 2 dX5_givesBack_26 rfl rfl i_X5 (by decide) q_147 rfl ?_
    refine z_iconst (pc := 29) (v := 1) C dX5_givesBack_29 (by decide) ?_
    refine z_isub (pc := 30) C dX5_givesBack_30 ?_
    refine z_put (pc := 31) (wPs G eo ek ka kb kc kd krows kpat kops kcnt (nI 1) (size - 1) ++ wSc G so sr sp sq rows pat ops cnt) C 0 2 dX5_givesBack_31 rfl rfl i_X5 tyX5_ok nmX5 (by decide) q_147 rfl rfl rfl rfl (Nat.le_of_ble_eq_true rfl) rfl ?_
    refine z_aload_n (pc := 34) C 1 dX5_givesBack_34 rfl ?_
    refine z_aload_n (pc := 35) C 0 dX5_givesBack_35 rfl ?_
    refine z_get (pc := 36) C 0 0 dX5_givesBack_36 rfl rfl i_X5 (by decide) q_145 rfl ?_
    refine z_aload_n (pc := 39) C 0 dX5_givesBack_39 rfl ?_
    refine z_get (pc := 40) C 0 1 dX5_givesBack_40 rfl rfl i_X5 (by decide) q_146 rfl ?_
    refine z_aald (pc := 43) C 1 dX5_givesBack_43 rfl (vp_in_nI (by decide) (by decide)) ?_
    rw [nI_clamp (show 1 < 2 ^ 31 by decide)]
    refine z_eq (st' := [.ref (ka 1), .ref so]) rfl rfl rfl ?_
    refine z_callV (pc := 44) C (c_X6_becomes (rows2 := krows 1) (pat2 := kpat 1) (ops2 := kops 1) (cnt2 := kcnt 1)) [26, 27, 28, 29, 6, 7, 8, 9] z00 mV_X6_becomes q_304 dX5_givesBack_44 rfl rfl rfl 26 rfl rfl rfl rfl (Nat.le_of_ble_eq_true rfl) (by decide) (pV.go (ws' := wPs G eo ek ka kb kc kd krows kpat kops kcnt (nI 1) (size - 1) ++ wSc G so sr sp sq (g_X6_becomes_rows rows (krows 1)) (g_X6_becomes_pat pat (kpat 1)) (g_X6_becomes_ops ops (kops 1)) (g_X6_becomes_cnt (kcnt 1))) rfl ?_)
    exact z_vret (pc := 47) C E dX5_givesBack_47 (pV.mk (by simp only [gbR, gbP, gbO, gbC, hg, nI_clamp (show 1 < 2 ^ 31 by decide)]))
  · have hg : gbN (nI 3) = nI 2 := gbN_at 3 (by decide)
    refine z_aload_n (pc := 0) C 0 dX5_givesBack_0 rfl ?_
    refine z_get (pc := 1) C 0 2 dX5_givesBack_1 rfl rfl i_X5 (by decide) q_147 rfl ?_
    refine z_if_ne (pc := 4) 8 C dX5_givesBack_4 (by decide) (fun c_4 => ?_) (fun c_4 => absurd c_4 hs)
    refine z_aload_n (pc := 8) C 0 dX5_givesBack_8 rfl ?_
    refine z_aload_n (pc := 9) C 0 dX5_givesBack_9 rfl ?_
    refine z_get (pc := 10) C 0 1 dX5_givesBack_10 rfl rfl i_X5 (by decide) q_146 rfl ?_
    refine z_bipush (pc := 13) (v := 6) C dX5_givesBack_13 (by decide) ?_
    refine z_iadd (pc := 15) C dX5_givesBack_15 ?_
    refine z_iconst (pc := 16) (v := 1) C dX5_givesBack_16 (by decide) ?_
    refine z_isub (pc := 17) C dX5_givesBack_17 ?_
    refine z_bipush (pc := 18) (v := 6) C dX5_givesBack_18 (by decide) ?_
    refine z_irem (pc := 20) C dX5_givesBack_20 (by decide) ?_
    refine z_eq (st' := [.int (nI 2), .ref eo]) rfl rfl (congrArg (fun v => [Value.int v, Value.ref eo]) hg) ?_
    refine z_put (pc := 21) (wPs G eo ek ka kb kc kd krows kpat kops kcnt (nI 2) size ++ wSc G so sr sp sq rows pat ops cnt) C 0 1 dX5_givesBack_21 rfl rfl i_X5 tyX5_ok nmX5 (by decide) q_146 rfl rfl rfl rfl (Nat.le_of_ble_eq_true rfl) rfl ?_
    refine z_aload_n (pc := 24) C 0 dX5_givesBack_24 rfl ?_
    refine z_dup (pc := 25) C dX5_givesBack_25 rfl ?_
    refine z_get (pc := 26) C 0 2 dX5_givesBack_26 rfl rfl i_X5 (by decide) q_147 rfl ?_
    refine z_iconst (pc := 29) (v := 1) C dX5_givesBack_29 (by decide) ?_
    refine z_isub (pc := 30) C dX5_givesBack_30 ?_
    refine z_put (pc := 31) (wPs G eo ek ka kb kc kd krows kpat kops kcnt (nI 2) (size - 1) ++ wSc G so sr sp sq rows pat ops cnt) C 0 2 dX5_givesBack_31 rfl rfl i_X5 tyX5_ok nmX5 (by decide) q_147 rfl rfl rfl rfl (Nat.le_of_ble_eq_true rfl) rfl ?_
    refine z_aload_n (pc := 34) C 1 dX5_givesBack_34 rfl ?_
    refine z_aload_n (pc := 35) C 0 dX5_givesBack_35 rfl ?_
    refine z_get (pc := 36) C 0 0 dX5_givesBack_36 rfl rfl i_X5 (by decide) q_145 rfl ?_
    refine z_aload_n (pc := 39) C 0 dX5_givesBack_39 rfl ?_
    refine z_get (pc := 40) C 0 1 dX5_givesBack_40 rfl rfl i_X5 (by decide) q_146 rfl ?_
    refine z_aald (pc := 43) C 1 dX5_givesBack_43 rfl (vp_in_nI (by decide) (by decide)) ?_
    rw [nI_clamp (show 2 < 2 ^ 31 by decide)]
    refine z_eq (st' := [.ref (ka 2), .ref so]) rfl rfl rfl ?_
    refine z_callV (pc := 44) C (c_X6_becomes (rows2 := krows 2) (pat2 := kpat 2) (ops2 := kops 2) (cnt2 := kcnt 2)) [26, 27, 28, 29, 10, 11, 12, 13] z00 mV_X6_becomes q_304 dX5_givesBack_44 rfl rfl rfl 26 rfl rfl rfl rfl (Nat.le_of_ble_eq_true rfl) (by decide) (pV.go (ws' := wPs G eo ek ka kb kc kd krows kpat kops kcnt (nI 2) (size - 1) ++ wSc G so sr sp sq (g_X6_becomes_rows rows (krows 2)) (g_X6_becomes_pat pat (kpat 2)) (g_X6_becomes_ops ops (kops 2)) (g_X6_becomes_cnt (kcnt 2))) rfl ?_)
    exact z_vret (pc := 47) C E dX5_givesBack_47 (pV.mk (by simp only [gbR, gbP, gbO, gbC, hg, nI_clamp (show 2 < 2 ^ 31 by decide)]))
  · have hg : gbN (nI 4) = nI 3 := gbN_at 4 (by decide)
    refine z_aload_n (pc := 0) C 0 dX5_givesBack_0 rfl ?_
    refine z_get (pc := 1) C 0 2 dX5_givesBack_1 rfl rfl i_X5 (by decide) q_147 rfl ?_
    refine z_if_ne (pc := 4) 8 C dX5_givesBack_4 (by decide) (fun c_4 => ?_) (fun c_4 => absurd c_4 hs)
    refine z_aload_n (pc := 8) C 0 dX5_givesBack_8 rfl ?_
    refine z_aload_n (pc := 9) C 0 dX5_givesBack_9 rfl ?_
    refine z_get (pc := 10) C 0 1 dX5_givesBack_10 rfl rfl i_X5 (by decide) q_146 rfl ?_
    refine z_bipush (pc := 13) (v := 6) C dX5_givesBack_13 (by decide) ?_
    refine z_iadd (pc := 15) C dX5_givesBack_15 ?_
    refine z_iconst (pc := 16) (v := 1) C dX5_givesBack_16 (by decide) ?_
    refine z_isub (pc := 17) C dX5_givesBack_17 ?_
    refine z_bipush (pc := 18) (v := 6) C dX5_givesBack_18 (by decide) ?_
    refine z_irem (pc := 20) C dX5_givesBack_20 (by decide) ?_
    refine z_eq (st' := [.int (nI 3), .ref eo]) rfl rfl (congrArg (fun v => [Value.int v, Value.ref eo]) hg) ?_
    refine z_put (pc := 21) (wPs G eo ek ka kb kc kd krows kpat kops kcnt (nI 3) size ++ wSc G so sr sp sq rows pat ops cnt) C 0 1 dX5_givesBack_21 rfl rfl i_X5 tyX5_ok nmX5 (by decide) q_146 rfl rfl rfl rfl (Nat.le_of_ble_eq_true rfl) rfl ?_
    refine z_aload_n (pc := 24) C 0 dX5_givesBack_24 rfl ?_
    refine z_dup (pc := 25) C dX5_givesBack_25 rfl ?_
    refine z_get (pc := 26) C 0 2 dX5_givesBack_26 rfl rfl i_X5 (by decide) q_147 rfl ?_
    refine z_iconst (pc := 29) (v := 1) C dX5_givesBack_29 (by decide) ?_
    refine z_isub (pc := 30) C dX5_givesBack_30 ?_
    refine z_put (pc := 31) (wPs G eo ek ka kb kc kd krows kpat kops kcnt (nI 3) (size - 1) ++ wSc G so sr sp sq rows pat ops cnt) C 0 2 dX5_givesBack_31 rfl rfl i_X5 tyX5_ok nmX5 (by decide) q_147 rfl rfl rfl rfl (Nat.le_of_ble_eq_true rfl) rfl ?_
    refine z_aload_n (pc := 34) C 1 dX5_givesBack_34 rfl ?_
    refine z_aload_n (pc := 35) C 0 dX5_givesBack_35 rfl ?_
    refine z_get (pc := 36) C 0 0 dX5_givesBack_36 rfl rfl i_X5 (by decide) q_145 rfl ?_
    refine z_aload_n (pc := 39) C 0 dX5_givesBack_39 rfl ?_
    refine z_get (pc := 40) C 0 1 dX5_givesBack_40 rfl rfl i_X5 (by decide) q_146 rfl ?_
    refine z_aald (pc := 43) C 1 dX5_givesBack_43 rfl (vp_in_nI (by decide) (by decide)) ?_
    rw [nI_clamp (show 3 < 2 ^ 31 by decide)]
    refine z_eq (st' := [.ref (ka 3), .ref so]) rfl rfl rfl ?_
    refine z_callV (pc := 44) C (c_X6_becomes (rows2 := krows 3) (pat2 := kpat 3) (ops2 := kops 3) (cnt2 := kcnt 3)) [26, 27, 28, 29, 14, 15, 16, 17] z00 mV_X6_becomes q_304 dX5_givesBack_44 rfl rfl rfl 26 rfl rfl rfl rfl (Nat.le_of_ble_eq_true rfl) (by decide) (pV.go (ws' := wPs G eo ek ka kb kc kd krows kpat kops kcnt (nI 3) (size - 1) ++ wSc G so sr sp sq (g_X6_becomes_rows rows (krows 3)) (g_X6_becomes_pat pat (kpat 3)) (g_X6_becomes_ops ops (kops 3)) (g_X6_becomes_cnt (kcnt 3))) rfl ?_)
    exact z_vret (pc := 47) C E dX5_givesBack_47 (pV.mk (by simp only [gbR, gbP, gbO, gbC, hg, nI_clamp (show 3 < 2 ^ 31 by decide)]))
  · have hg : gbN (nI 5) = nI 4 := gbN_at 5 (by decide)
    refine z_aload_n (pc := 0) C 0 dX5_givesBack_0 rfl ?_
    refine z_get (pc := 1) C 0 2 dX5_givesBack_1 rfl rfl i_X5 (by decide) q_147 rfl ?_
    refine z_if_ne (pc := 4) 8 C dX5_givesBack_4 (by decide) (fun c_4 => ?_) (fun c_4 => absurd c_4 hs)
    refine z_aload_n (pc := 8) C 0 dX5_givesBack_8 rfl ?_
    refine z_aload_n (pc := 9) C 0 dX5_givesBack_9 rfl ?_
    refine z_get (pc := 10) C 0 1 dX5_givesBack_10 rfl rfl i_X5 (by decide) q_146 rfl ?_
    refine z_bipush (pc := 13) (v := 6) C dX5_givesBack_13 (by decide) ?_
    refine z_iadd (pc := 15) C dX5_givesBack_15 ?_
    refine z_iconst (pc := 16) (v := 1) C dX5_givesBack_16 (by decide) ?_
    refine z_isub (pc := 17) C dX5_givesBack_17 ?_
    refine z_bipush (pc := 18) (v := 6) C dX5_givesBack_18 (by decide) ?_
    refine z_irem (pc := 20) C dX5_givesBack_20 (by decide) ?_
    refine z_eq (st' := [.int (nI 4), .ref eo]) rfl rfl (congrArg (fun v => [Value.int v, Value.ref eo]) hg) ?_
    refine z_put (pc := 21) (wPs G eo ek ka kb kc kd krows kpat kops kcnt (nI 4) size ++ wSc G so sr sp sq rows pat ops cnt) C 0 1 dX5_givesBack_21 rfl rfl i_X5 tyX5_ok nmX5 (by decide) q_146 rfl rfl rfl rfl (Nat.le_of_ble_eq_true rfl) rfl ?_
    refine z_aload_n (pc := 24) C 0 dX5_givesBack_24 rfl ?_
    refine z_dup (pc := 25) C dX5_givesBack_25 rfl ?_
    refine z_get (pc := 26) C 0 2 dX5_givesBack_26 rfl rfl i_X5 (by decide) q_147 rfl ?_
    refine z_iconst (pc := 29) (v := 1) C dX5_givesBack_29 (by decide) ?_
    refine z_isub (pc := 30) C dX5_givesBack_30 ?_
    refine z_put (pc := 31) (wPs G eo ek ka kb kc kd krows kpat kops kcnt (nI 4) (size - 1) ++ wSc G so sr sp sq rows pat ops cnt) C 0 2 dX5_givesBack_31 rfl rfl i_X5 tyX5_ok nmX5 (by decide) q_147 rfl rfl rfl rfl (Nat.le_of_ble_eq_true rfl) rfl ?_
    refine z_aload_n (pc := 34) C 1 dX5_givesBack_34 rfl ?_
    refine z_aload_n (pc := 35) C 0 dX5_givesBack_35 rfl ?_
    refine z_get (pc := 36) C 0 0 dX5_givesBack_36 rfl rfl i_X5 (by decide) q_145 rfl ?_
    refine z_aload_n (pc := 39) C 0 dX5_givesBack_39 rfl ?_
    refine z_get (pc := 40) C 0 1 dX5_givesBack_40 rfl rfl i_X5 (by decide) q_146 rfl ?_
    refine z_aald (pc := 43) C 1 dX5_givesBack_43 rfl (vp_in_nI (by decide) (by decide)) ?_
    rw [nI_clamp (show 4 < 2 ^ 31 by decide)]
    refine z_eq (st' := [.ref (ka 4), .ref so]) rfl rfl rfl ?_
    refine z_callV (pc := 44) C (c_X6_becomes (rows2 := krows 4) (pat2 := kpat 4) (ops2 := kops 4) (cnt2 := kcnt 4)) [26, 27, 28, 29, 18, 19, 20, 21] z00 mV_X6_becomes q_304 dX5_givesBack_44 rfl rfl rfl 26 rfl rfl rfl rfl (Nat.le_of_ble_eq_true rfl) (by decide) (pV.go (ws' := wPs G eo ek ka kb kc kd krows kpat kops kcnt (nI 4) (size - 1) ++ wSc G so sr sp sq (g_X6_becomes_rows rows (krows 4)) (g_X6_becomes_pat pat (kpat 4)) (g_X6_becomes_ops ops (kops 4)) (g_X6_becomes_cnt (kcnt 4))) rfl ?_)
    exact z_vret (pc := 47) C E dX5_givesBack_47 (pV.mk (by simp only [gbR, gbP, gbO, gbC, hg, nI_clamp (show 4 < 2 ^ 31 by decide)]))