def flS : List Cond := flatC (Jvm.Cond.and given_1 narrow_1)
theorem fl_ex : ∀ i : Nat, i < 7 → Cond.exactly (.string "PictureMoves$Order" (sIx i)) "java/lang/String" ∈ flS := by decide +kernel
theorem fl_co : ∀ i : Nat, i < 7 → Cond.eq (.field (.string "PictureMoves$Order" (sIx i)) "java/lang/String" "coder" "B") (.int 0) ∈ flS := by decide +kernel
theorem fl_ar : ∀ i : Nat, i < 7 → Cond.arrayOf (.field (.string "PictureMoves$Order" (sIx i)) "java/lang/String" "value" "[B") .byte ∈ flS := by decide +kernel
theorem fl_le : ∀ i : Nat, i < 7 → Cond.eq (.length (.field (.string "PictureMoves$Order" (sIx i)) "java/lang/String" "value" "[B")) (.int (Int32.ofNat (sLn.getD i 0))) ∈ flS := by decide +kernel
theorem fl_el : ∀ i : Nat, i < 7 → ∀ j : Nat, j < sLn.getD i 0 → Cond.eq (.elem (.field (.string "PictureMoves$Order" (sIx i)) "java/lang/String" "value" "[B") (.int (Int32.ofNat j))) (.int ((sBy.getD i []).getD j 0)) ∈ flS := by decide +kernel
theorem fl_ne : ∀ i : Nat, i < 7 → ∀ j : Nat, j < 7 → i ≠ j → Cond.not (Cond.eq (.string "PictureMoves$Order" (sIx i)) (.string "PictureMoves$Order" (sIx j))) ∈ flS ∨ Cond.not (Cond.eq (.string "PictureMoves$Order" (sIx j)) (.string "PictureMoves$Order" (sIx i))) ∈ flS := by decide +kernel
theorem fl_cs : Cond.eq (.static "java/lang/String" "COMPACT_STRINGS" "Z") (.int 1) ∈ flS := by decide +kernel
theorem fl_fm : Cond.isRef (.static "jdk/internal/util/Preconditions" "SIOOBE_FORMATTER" "Ljava/util/function/BiFunction;") ∈ flS := by decide +kernel
theorem tb_at (n : Nat) {w : Cond} (h : lw_tbl[n]? = some w) : w ∈ lw_tbl := List.mem_of_getElem? h
theorem tb_ao : Cond.arrayOver (.object "PictureMoves$Scene") ∈ lw_tbl := tb_at 143 (by decide +kernel)
theorem tb_cs : Cond.laysStatic "java/lang/String" "COMPACT_STRINGS" "Z" ∈ lw_tbl := tb_at 412 (by decide +kernel)
theorem tb_fm : Cond.laysStatic "jdk/internal/util/Preconditions" "SIOOBE_FORMATTER" "Ljava/util/function/BiFunction;" ∈ lw_tbl := tb_at 428 (by decide +kernel)
theorem tb_s0 : Cond.stringRef RX1 (sIx 0) (sTx 0) ∈ lw_tbl := tb_at 210 (by decide +kernel)
theorem tb_s1 : Cond.stringRef RX1 (sIx 1) (sTx 1) ∈ lw_tbl := tb_at 393 (by decide +kernel)
theorem tb_s2 : Cond.stringRef RX1 (sIx 2) (sTx 2) ∈ lw_tbl := tb_at 394 (by decide +kernel)
theorem tb_s3 : Cond.stringRef RX1 (sIx 3) (sTx 3) ∈ lw_tbl := tb_at 395 (by decide +kernel)
theorem tb_s4 : Cond.stringRef RX1 (sIx 4) (sTx 4) ∈ lw_tbl := tb_at 396 (by decide +kernel)
theorem tb_s5 : Cond.stringRef RX1 (sIx 5) (sTx 5) ∈ lw_tbl := tb_at 397 (by decide +kernel)
theorem tb_s6 : Cond.stringRef RX1 (sIx 6) (sTx 6) ∈ lw_tbl := tb_at 398 (by decide +kernel)
theorem zE_start {p : Program} {s : State} {m : MethodId} {meth : Method} {c : Code} {b L : Nat} {xs : Nat → Int32} (C0 : lw_At p s m meth c b L xs) : ∃ G : zG, zE G (fun q : Nat => s.heap.size ≤ q) s s.heap ∧ va_AO "PictureMoves$Scene" s := by
  obtain ⟨hx, hb, hr, hml, hown, hts, hX, hbl, hlocks, hgv⟩ := C0
  have hg : ∀ w ∈ gW, w.before #[Value.ref b] s = true := fun w hw => hts w (gW_tbl hw)
  have hs : ∀ w ∈ flS, w.before #[Value.ref b] s = true := flat_of_before _ hgv
  have hA : ∀ a : Nat, a < s.heap.size → ¬ (fun q : Nat => s.heap.size ≤ q) a := fun a h => Nat.not_le.mpr h
  obtain ⟨c0, i0, K0⟩ := u_known (C := RX0) (T := TX0) (N := 3) (n := 3) hg i_X0 (hg _ q_189)
  obtain ⟨c1, i1, K1⟩ := u_known (C := RX1) (T := TX1) (N := 5) (n := 5) hg i_X1 (hg _ q_205)
  obtain ⟨c2, i2, K2⟩ := u_known (C := RX2) (T := TX2) (N := 4) (n := 4) hg i_X2 (hg _ q_233)
  obtain ⟨c3, i3, K3⟩ := u_known (C := RX3) (T := TX3) (N := 4) (n := 4) hg i_X3 (hg _ q_157)
  obtain ⟨c4, i4, K4⟩ := u_known (C := RX4) (T := TX4) (N := 4) (n := 4) hg i_X4 (hg _ q_116)
  obtain ⟨c5, i5, K5⟩ := u_known (C := RX5) (T := TX5) (N := 3) (n := 3) hg i_X5 (hg _ q_137)
  obtain ⟨c6, i6, K6⟩ := u_known (C := RX6) (T := TX6) (N := 4) (n := 4) hg i_X6 (hg _ q_90)
  obtain ⟨c7, i7, K7⟩ := u_known (C := RX7) (T := TX7) (N := 2) (n := 2) hg i_X7 (hg _ q_176)
  obtain ⟨c8, i8, K8⟩ := u_known (C := RX8) (T := TX8) (N := 10) (n := 10) hg i_X8 (hg _ q_82)
  obtain ⟨c9, i9, K9⟩ := u_known (C := RX9) (T := TX9) (N := 12) (n := 12) hg i_X9 (hg _ q_824)
  obtain ⟨aI, kI, mI, fI, gI, hI⟩ := Cond.arrayClass_spec (hg _ q_114)
  obtain ⟨aB, kB, mB, fB, gB, hB⟩ := Cond.arrayClass_spec (hg _ q_231)
  obtain ⟨aZ, kZ, mZ, fZ, gZ, hZ⟩ := Cond.arrayClass_spec (hg _ q_866)
  have hO : va_AO "PictureMoves$Scene" s := va_AO.of (hts _ tb_ao)
  obtain ⟨mS, aS, kS, o1, o2, o3, o4, o5⟩ := Cond.arrayOver_spec (hts _ tb_ao)
  obtain ⟨adK, adV, hSt, hEv⟩ := vk_Sof (args := #[Value.ref b]) (s := s) (N := 7) (tm := fun i => .string "PictureMoves$Order" (sIx i)) (len := sLn) (byt := sBy) (A := fun q : Nat => s.heap.size ≤ q) (by decide) (fun i hi => hs _ (fl_ex i hi)) (fun i hi => hs _ (fl_co i hi)) (fun i hi => hs _ (fl_ar i hi)) (fun i hi => hs _ (fl_le i hi)) (fun i hi j hj => hs _ (fl_el i hi j hj)) (fun i j hi hj hij => (fl_ne i hi j hj hij).imp (hs _) (hs _)) hA
  refine ⟨((fun k => match k with | 0 => c0 | 1 => c1 | 2 => c2 | 3 => c3 | 4 => c4 | 5 => c5 | 6 => c6 | 7 => c7 | 8 => c8 | _ => c9, fun k => match k with | 0 => i0 | 1 => i1 | 2 => i2 | 3 => i3 | 4 => i4 | 5 => i5 | 6 => i6 | 7 => i7 | 8 => i8 | _ => i9), (aI, aB, aZ, aS), adK, adV), ⟨⟨?_, ?_⟩, ?_, hSt, ?_, ?_, ?_⟩, hO⟩
  · intro k q hq
    match k, hq with
    | 0, hq => cases hq; exact K0
    | 1, hq => cases hq; exact K1
    | 2, hq => cases hq; exact K2
    | 3, hq => cases hq; exact K3
    | 4, hq => cases hq; exact K4
    | 5, hq => cases hq; exact K5
    | 6, hq => cases hq; exact K6
    | 7, hq => cases hq; exact K7
    | 8, hq => cases hq; exact K8
    | 9, hq => cases hq; exact K9
    | k + 10, hq => simp [vwCl] at hq
  · intro k q hq
    match k, hq with
    | 0, hq => cases hq; exact ⟨fun n z => ⟨fun k h => (by cases h), kI, gI, mI, hI⟩, fI⟩
    | 1, hq => cases hq; exact ⟨fun n z => ⟨fun k h => (by cases h), kB, gB, mB, hB⟩, fB⟩
    | 2, hq => cases hq; exact ⟨fun n z => ⟨fun k h => (by cases h), kZ, gZ, mZ, hZ⟩, fZ⟩
    | 3, hq => cases hq; exact ⟨fun n z => ⟨fun k h => (by cases h), kS, o3, mS, o4⟩, kS, mS, o3, o4, o1, o5⟩
    | k + 4, hq => simp [zT] at hq
  · intro w hw
    exact va_Nw.of (nW_on hw) (hts w (List.mem_filter.mp hw).1)
  · intro i hi
    have h1 : (Cond.stringRef RX1 (sIx i) (sTx i)).before #[Value.ref b] s = true := by
      match i, hi with
      | 0, _ => exact hts _ tb_s0
      | 1, _ => exact hts _ tb_s1
      | 2, _ => exact hts _ tb_s2
      | 3, _ => exact hts _ tb_s3
      | 4, _ => exact hts _ tb_s4
      | 5, _ => exact hts _ tb_s5
      | 6, _ => exact hts _ tb_s6
      | i + 7, hi => omega
    exact vk_R.of (A := #[Value.ref b]) h1 (hEv i hi)
  · exact va_Zof (hts _ tb_cs) (hg _ q_77) (va_eqt (hs _ fl_cs)) hA
  · exact va_Zqof (hts _ tb_fm) (hg _ q_79) (hs _ fl_fm) hA

set_option maxRecDepth 100000 in
theorem law_body {X : zX} {G : zG} {b L : Nat} {xs : Nat → Int32} (C : zC X G 4 cL_law RL ret 11 458) (N : zN X 55 4173) (S : lwS X b L xs) (hret : ∀ (ws : va_W) (lv : List (Nat × Value)), Z X G 4 55 4173 ws 1242 lv [.int 1]) : Z X G 4 0 0 [] 0 [(0, .ref b)] [] := by
  refine z_new (pc := 0) (ci := 8) (fs := [.null, .null, .null, .null, .null, .null, .null, .int 0, .int 0, .int 0]) C q_81 q_82 q_63 dL_law_0 rfl i_X8 tyX8_ok (by decide +kernel) ⟨Nat.le_trans (Nat.le_of_ble_eq_true rfl : 1 ≤ 55) N.2.1, Nat.le_trans (Nat.le_of_ble_eq_true rfl : 10 ≤ 4173) N.2.2⟩ (fun ao => ?_)
  show Z X G 4 1 10 [(ao, .inr (8, [.null, .null, .null, .null, .null, .null, .null, .int 0, .int 0, .int 0]))] 3 [(0, .ref b)] [.ref ao]
  refine z_dup (pc := 3) C dL_law_3 rfl ?_
  refine z_callI (pc := 4) (wr := []) C N.1 c_X8_init [0] [] ⟨Nat.le_trans (Nat.le_of_ble_eq_true rfl : 46 ≤ 55) N.2.1, Nat.le_trans (Nat.le_of_ble_eq_true rfl : 1742 ≤ 4173) N.2.2⟩ mI_X8 rfl q_83 dL_law_4 rfl rfl rfl rfl (by decide) (by decide) rfl (Nat.le_of_ble_eq_true rfl) ⟨by decide, by decide⟩ ?_
  rintro _ _ ⟨rfl, so, sr, sp, sq, po, pl, pr, pd, eo, ek, ka, kb, kc, kd, to, ts, tl, ho, hm, mo, mb, oo, on, xo, xb, rfl⟩
  show Z X G 4 46 1742 (wPM G ao so eo to ho mo oo xo 0 0 0 ++ (wSc G so sr sp sq (fun _ => 0) (g_J7_fill_53178_arr (fun _ => 0) 255) (fun _ => 0) 0 ++ (wPa G po pl pr pd (fun _ => 0) (fun _ => 0) (fun _ => 0) 0 ++ (wPs G eo ek ka kb kc kd (fun _ _ => 0) (fun _ => (g_J7_fill_53178_arr (fun _ => 0) 255)) (fun _ _ => 0) (fun _ => 0) 0 0 ++ (wPt G to ts tl so po (fun _ => 0) (fun _ => 0) ++ (wWh G ho hm so (fun _ => 0) ++ (wMe G mo mb so po (fun _ => 0) ++ (wOr G oo on (fun _ => 0) 0 0 0 0 ++ wTx G xo xb (fun _ => 0) 0 0 0)))))))) 7 [(0, .ref b)] [.ref ao]
  refine z_astore_n (pc := 7) [(1, _), (0, _)] C dL_law_7 rfl (by decide) rfl ?_
  refine z_new (pc := 8) (ci := 9) (fs := [.null, .null, .int 0, .null, .null, .null, .null, .int 0, .null, .int 0, .int 0, .null]) C q_823 q_824 q_73 dL_law_8 rfl i_X9 tyX9_ok (by decide +kernel) ⟨Nat.le_trans (Nat.le_of_ble_eq_true rfl : 47 ≤ 55) N.2.1, Nat.le_trans (Nat.le_of_ble_eq_true rfl : 1754 ≤ 4173) N.2.2⟩ (fun dam => ?_)
  show Z X G 4 47 1754 ((wPM G ao so eo to ho mo oo xo 0 0 0 ++ (wSc G so sr sp sq (fun _ => 0) (g_J7_fill_53178_arr (fun _ => 0) 255) (fun _ => 0) 0 ++ (wPa G po pl pr pd (fun _ => 0) (fun _ => 0) (fun _ => 0) 0 ++ (wPs G eo ek ka kb kc kd (fun _ _ => 0) (fun _ => (g_J7_fill_53178_arr (fun _ => 0) 255)) (fun _ _ => 0) (fun _ => 0) 0 0 ++ (wPt G to ts tl so po (fun _ => 0) (fun _ => 0) ++ (wWh G ho hm so (fun _ => 0) ++ (wMe G mo mb so po (fun _ => 0) ++ (wOr G oo on (fun _ => 0) 0 0 0 0 ++ wTx G xo xb (fun _ => 0) 0 0 0)))))))) ++ [(dam, .inr (9, [.null, .null, .int 0, .null, .null, .null, .null, .int 0, .null, .int 0, .int 0, .null]))]) 11 [(1, .ref ao), (0, .ref b)] [.ref dam]
  refine z_dup (pc := 11) C dL_law_11 rfl ?_
  refine z_callI (pc := 12) (wr := wPM G ao so eo to ho mo oo xo 0 0 0 ++ (wSc G so sr sp sq (fun _ => 0) (g_J7_fill_53178_arr (fun _ => 0) 255) (fun _ => 0) 0 ++ (wPa G po pl pr pd (fun _ => 0) (fun _ => 0) (fun _ => 0) 0 ++ (wPs G eo ek ka kb kc kd (fun _ _ => 0) (fun _ => (g_J7_fill_53178_arr (fun _ => 0) 255)) (fun _ _ => 0) (fun _ => 0) 0 0 ++ (wPt G to ts tl so po (fun _ => 0) (fun _ => 0) ++ (wWh G ho hm so (fun _ => 0) ++ (wMe G mo mb so po (fun _ => 0) ++ (wOr G oo on (fun _ => 0) 0 0 0 0 ++ wTx G xo xb (fun _ => 0) 0 0 0)))))))) C N.1 c_X9_init [46] (List.range 46) ⟨Nat.le_trans (Nat.le_of_ble_eq_true rfl : 55 ≤ 55) N.2.1, Nat.le_trans (Nat.le_of_ble_eq_true rfl : 4173 ≤ 4173) N.2.2⟩ mI_X9 rfl q_825 dL_law_12 rfl rfl rfl rfl (by decide) (by decide) rfl (Nat.le_of_ble_eq_true rfl) ⟨by decide, by decide⟩ ?_
  rintro _ _ ⟨rfl, dnm, dpm, drm, dsm, dlm, dcm, dtm, dgm, rfl⟩
  show Z X G 4 55 4173 (wPM G ao so eo to ho mo oo xo 0 0 0 ++ (wSc G so sr sp sq (fun _ => 0) (g_J7_fill_53178_arr (fun _ => 0) 255) (fun _ => 0) 0 ++ (wPa G po pl pr pd (fun _ => 0) (fun _ => 0) (fun _ => 0) 0 ++ (wPs G eo ek ka kb kc kd (fun _ _ => 0) (fun _ => (g_J7_fill_53178_arr (fun _ => 0) 255)) (fun _ _ => 0) (fun _ => 0) 0 0 ++ (wPt G to ts tl so po (fun _ => 0) (fun _ => 0) ++ (wWh G ho hm so (fun _ => 0) ++ (wMe G mo mb so po (fun _ => 0) ++ (wOr G oo on (fun _ => 0) 0 0 0 0 ++ (wTx G xo xb (fun _ => 0) 0 0 0 ++ wMd G dam dnm dpm drm dsm dlm dcm dtm dgm (mN 8) (fun _ => 0) 0 (fun _ => 0) (fun _ => 0) (fun _ => 0) (fun _ => 0) 0 (fun _ => 0) 0 0 (fun _ => 0)))))))))) 15 [(1, .ref ao), (0, .ref b)] [.ref dam]
  refine z_astore_n (pc := 15) [(2, _), (1, _), (0, _)] C dL_law_15 rfl (by decide) rfl ?_
  refine z_iconst (pc := 16) (v := 0) C dL_law_16 (by decide) ?_
  refine z_istore_n (pc := 17) [(3, _), (2, _), (1, _), (0, _)] C dL_law_17 rfl (by decide) rfl ?_
  refine z_lv (lv' := [(0, _), (1, _), (2, _), (3, _)]) [3, 2, 1, 0] rfl ?_
  exact law_loop C ⟨N.2.1, N.2.2⟩ S hret (L + 1) 0 (by omega) (by omega) 0 0 0 (fun _ => 0) (g_J7_fill_53178_arr (fun _ => 0) 255) (fun _ => 0) 0 (fun _ => 0) (fun _ => 0) (fun _ => 0) 0 (fun _ _ => 0) (fun _ => (g_J7_fill_53178_arr (fun _ => 0) 255)) (fun _ _ => 0) (fun _ => 0) 0 0 (fun _ => 0) (fun _ => 0) (fun _ => 0) (fun _ => 0) (fun _ => 0) 0 0 0 0 (fun _ => 0) 0 0 0 (mN 8) (fun _ => 0) 0 (fun _ => 0) (fun _ => 0) (fun _ => 0) (fun _ => 0) 0 (fun _ => 0) 0 0 (fun _ => 0) Rel_0

theorem whole_start {p : Program} {e : Env} {s : State} {m : MethodId} {below : List Frame} {meth : Method} {c : Code} (l : Launch) (hflags : l.flags = flags0) {b L : Nat} {xs : Nat → Int32} (hL : L ≤ 5120) (C0 : lw_At p s m meth c b L xs) : W p l e room_1 s m #[Value.ref b] below meth c s.heap [] 0 0 (lw_Z below #[Value.ref b] s) (entryFrame m ([Value.ref b] : List Value).toArray 4) := by
  obtain ⟨hx, hb, hr, hml, hown, hts, hX, hbl, hlocks, hgv⟩ := id C0
  obtain ⟨G, hE, hO⟩ := zE_start C0
  have C : zC (p, l, e, room_1, s, m, #[Value.ref b], below, meth, c, lw_Z below #[Value.ref b] s, fun q : Nat => s.heap.size ≤ q) G 4 cL_law RL ret 11 458 := ⟨hx, hb, hml, hown, fun w hw => hts w (gW_tbl hw), fun q h => h, hE, hr, hlocks, Nat.le_of_ble_eq_true rfl, Nat.le_of_ble_eq_true rfl⟩
  have N : zN (p, l, e, room_1, s, m, #[Value.ref b], below, meth, c, lw_Z below #[Value.ref b] s, fun q : Nat => s.heap.size ≤ q) 55 4173 := ⟨hO, Nat.le_of_ble_eq_true rfl, Nat.le_of_ble_eq_true rfl⟩
  have S : lwS (p, l, e, room_1, s, m, #[Value.ref b], below, meth, c, lw_Z below #[Value.ref b] s, fun q : Nat => s.heap.size ≤ q) b L xs := ⟨hX, hbl, Nat.not_le.mpr hbl, hL⟩
  have hret : ∀ (ws : va_W) (lv : List (Nat × Value)), Z (p, l, e, room_1, s, m, #[Value.ref b], below, meth, c, lw_Z below #[Value.ref b] s, fun q : Nat => s.heap.size ≤ q) G 4 55 4173 ws 1242 lv [.int 1] := fun ws lv H locs ls hP hD hS hl => va_forget hS.2.2 (W.widen (Nat.le_of_ble_eq_true rfl) (Nat.le_of_ble_eq_true rfl) (lw_ret hx hb hr hlocks dL_law_1242))
  have hZ := law_body C N S hret
  rw [lg_entry_eq]
  exact hZ s.heap [] _ (fun k q h => by simp at h) ⟨fun i j p q h => by simp at h, fun k q h => by simp at h⟩ va_S.rf (lv_entry [.ref b] (Nat.le_of_ble_eq_true rfl))

set_option maxHeartbeats 4000000 in
theorem lw_walk (l : Launch) (hflags : l.flags = flags0) (b : Addr) (xs : List Int32) : MetFree l x (headSpec (Jvm.Cond.code x code maxLocals ret :: tables_1) room_1) (lw_P b xs) (fun _ _ _ _ _ => True) lw_Q := by
  refine MetFree.of_bodyS (code := code) (maxLocals := maxLocals) (ret := ret) (by decide) ?_ ?_
  · intro args s m h hn
    obtain ⟨meth, c, h1, h2, h3, h4, h5, h6, -, -⟩ := Cond.code_spec hn (atoms_spec (ws := Jvm.Cond.code x code maxLocals ret :: tables_1) h _ List.mem_cons_self)
    exact ⟨meth, c, h1, h2, h3, h4, h5, h6⟩
  · intro p e s m args below meth c s₁ B hml0 hP _
    obtain ⟨rfl, hx, hbd, hgv⟩ := hP
    obtain ⟨scr, harrAt, hlist, hof, hsmall⟩ := hx
    obtain ⟨hcb, hkn, -, -⟩ := State.arrayAt?_spec harrAt
    have hown : s.vm.findClass R_law = some m.cls := findClass_of_methodNamed B.named
    have hts0 : ∀ c ∈ (Jvm.Cond.code x code maxLocals ret :: tables_1), c.before #[Value.ref b] s = true := atoms_spec (ws := Jvm.Cond.code x code maxLocals ret :: tables_1) B.pre
    have hts : ∀ w ∈ lw_tbl, w.before #[Value.ref b] s = true := k2_hts_sels lw_privs (fun w hw => hts0 w (List.mem_cons_of_mem _ hw)) lw_privs_ok
    have hml : c.maxLocals = 4 := B.maxLocals_eq (hts0 _ List.mem_cons_self)
    have X₀ : Stand p l e room_1 s m #[Value.ref b] below meth c s₁ [] 0 0 := Stand.of_body B
    have hh0 : s₁.heap = s.heap := by rw [B.state]; rfl
    have hsz : scr.slots.size = xs.length := by rw [← Array.length_toList, hlist, List.length_map]
    have hval : ∀ j : Nat, j < xs.length → scr.slots[j]? = some (.int (xs.getD j 0)) := fun j hj => by
      rw [← Array.getElem?_toList, hlist]
      simp [hj]
    have hbl : b < s.heap.size := (Array.getElem?_eq_some_iff.mp hcb).1
    have hX : va_X b xs.length (fun j => xs.getD j 0) s s.heap := ⟨scr, hcb, hof, hkn, hsz, hval⟩
    have K : W p l e room_1 s m #[Value.ref b] below meth c s₁.heap [] 0 0 (lw_Z below #[Value.ref b] s) (entryFrame m ([Value.ref b] : List Value).toArray 4) := by
      rw [hh0]
      exact whole_start l hflags hbd ⟨B.exec, B.bytes, B.returns, hml, hown, hts, hX, hbl, B.notSynchronized, hgv⟩
    obtain ⟨t, a1, o, b1, b2, b3⟩ := K s₁ rfl X₀
    exact ⟨t, o, a1, b1, b2, b3⟩
theorem lw_pre_spec {args : Array Value} {s : State} (h : (Jvm.Cond.and given_1 narrow_1).before args s = true) (hr : rest_1_c.before args s = true) : ∃ (b : Addr) (xs : List Int32), lw_P b xs args s := by
  have hs := flat_of_before _ h
  have hq := flat_of_before _ hr
  have hc : (Cond.count 1).before args s = true := hs _ (by decide +kernel)
  have harr : (Cond.arrayOf (.arg 0) .int).before args s = true := hs _ (by decide +kernel)
  have hle : (Cond.le (.length (.arg 0)) (.int 5120)).before args s = true := hs _ (by decide +kernel)
  have hlen : (Cond.isInt (.length (.arg 0))).before args s = true := hq _ (by decide +kernel)
  have hall : (Cond.all (.arg 0) (.isInt (.elem (.arg 0) (.index 0)))).before args s = true := hq _ (by decide +kernel)
  obtain ⟨b, xs, hb, hx⟩ := State.ints_of_pre rfl harr hlen hall
  have hsm : xs.length < 2 ^ 31 := hx.choose_spec.2.2.2
  have hev : (Term.length (.arg 0)).eval args s none [] s = some (.int xs.length.toInt32) := hx.length_eval hb
  have hv := Cond.le_ints hev (show (Term.int 5120).eval args s none [] s = some (.int 5120) from rfl)
  have hd : xs.length.toInt32 ≤ 5120 := by
    simpa [Cond.before, Cond.holds, hv] using hle
  have hN : xs.length ≤ 5120 := (Int32.ofNat_le_ofNat hsm (by decide)).mp (show Int32.ofNat xs.length ≤ Int32.ofNat 5120 from hd)
  exact ⟨b, xs, Cond.one_arg hc (show args[0]? = some (.ref b) from hb), hx, hN, h⟩
theorem lw_comes (l : Launch) (hflags : l.flags = flags0) : Comes l x (Jvm.Cond.code x code maxLocals ret :: tables_1) room_1 (fun tb e args s => Calls_1 tb e args s ∧ rest_1 tb e args s ∧ Pre_1 tb e args s)
    (fun _ _ args s o t => lw_Q args s o t) := by
  intro p e ha hc hk s m args below hf hfit hheap happ hpre
  obtain ⟨b, xs, hP⟩ := lw_pre_spec hpre.2.2 hpre.2.1
  obtain ⟨k, o, h1, h2, h3, hQ⟩ := lw_walk l hflags b xs p e ha hc hk s m args below hf ((Spec.applies_iff_loose hf).mp happ).1 hP trivial
  exact ⟨k, o, h1, h2, h3, hQ⟩
theorem lw_frame {s t : State} {o : Outcome} {args : Array Value} (h : Framed s o t [] 600000 7302250) :
    Framed s o t (fieldLocs frame_1_writes args s ++ arrayLocs frame_1_arrays args s ++ staticLocs frame_1_statics s) 600000 7302250 := h
theorem lw_limb (L : Cond) (hL : ∀ (args : Array Value) (s t : State), L.after args s (.returned (some (.int 1))) t = true) :
    ArmFor flags0 classFile x code maxLocals ret World_1 tables_1 room_1 Calls_1 rest_1 Pre_1
      (fun tb e a s o t => postC L tb e a s o t ∧ Framed s o t (fieldLocs frame_1_writes a s ++ arrayLocs frame_1_arrays a s ++ staticLocs frame_1_statics s) 600000 7302250) := by
  intro l hflags _ _ p e ha hc hk s m args below hf hfit hheap happ hpre
  obtain ⟨k, o, h1, h2, h3, rfl, hF⟩ := lw_comes l hflags p e ha hc hk s m args below hf hfit hheap happ hpre
  exact ⟨k, _, h1, h2, h3, hL args s _, lw_frame hF⟩
theorem i_vc : Claimed_1_1 ∧ Claimed_1_2 := ⟨lw_limb limb_1_1 (fun args s t => by simp [limb_1_1, Cond.after, Cond.holds, Cond.value]), lw_limb limb_1_2 (fun args s t => Cond.after_iff.mpr (by
  first | (rw [show limb_1_2 = Cond.eq .result (.int 1) from rfl, Cond.eq_ints (x := 1) (y := 1) rfl rfl]; simp; done) | (simp [limb_1_2, Cond.value, Term.eval]; done)))⟩
