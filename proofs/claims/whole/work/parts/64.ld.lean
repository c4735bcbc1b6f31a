/-! THE CLAIM OUT OF ONE WALK OF THE LAW'S BODY. Your part is whole_start (and what it stands on); all else here is the same for every law, but numbers. -/
def R_law : String := "PictureMovesLaw"
def lw_P (b : Addr) (xs : List Int32) (args : Array Value) (s : State) : Prop := args = #[.ref b] ∧ s.IntsAt b xs ∧ xs.length ≤ 5120 ∧ (Jvm.Cond.and given_1 narrow_1).before args s = true
def lw_Q (_ : Array Value) (s : State) (o : Outcome) (t : State) : Prop := o = .returned (some (.int 1)) ∧ Framed s o t [] 600000 7302250
def lw_Z (below : List Frame) (a : Array Value) (s : State) : State → Prop := fun t => ∃ o, t.status = .running ∧ Ended t below o ∧ lw_Q a s o t
/-- the law's own end, with 1 on the stack, nothing written that was there before, its room as the claim has it -/
theorem lw_ret {p : Program} {l : Launch} {e : Env} {s : State} {m : MethodId} {below : List Frame} {meth : Method} {c : Code} {b : Nat} (hx : p.tables.exec = Jvm.exec) (hb : c.code = code) (hr : meth.sig.returnType = ret) (hlocks : meth.locks = false) {pc : Nat} {H : Heap} {ls : Array Slot} (hdg : decode code pc = .ok (.ireturn, 1)) : W p l e room_1 s m #[Value.ref b] below meth c H [] 600000 7302250 (lw_Z below #[Value.ref b] s) (F0 m pc ls [.int 1]) := by
  intro T hT X
  obtain ⟨fs, hret, hrun, hended, hW, hframe⟩ := X.leave (v := some (.int 1)) (hlocks := hlocks) (fun h => by rw [hr] at h; cases h)
  have hmeth' : T.vm.method? m = some meth := X.method'
  refine ⟨T.setFrames fs, ?_, .returned (some (.int 1)), hrun, hended, rfl, ⟨_, rfl⟩, hW, hframe⟩
  jvm_step X.here [X.here.top, hx, hb, hdg, hmeth', hr, ret, narrow_b1]
  (try refine ⟨rfl, ?_⟩); (try refine ⟨rfl, ?_⟩)
  first | (intro acts; rw [hret _ acts rfl rfl rfl]) | rw [hret _ _ rfl rfl rfl]
  exact Steps.refl _
/-- what holds at the law's entry: the machine, the code, the tables' words (any of lw_tbl by 'hts w (by decide +kernel)'), the script of L ints xs at the cell b, what the Statement gives of the start (any of its parts by flat_of_before) -/
def lw_At (p : Program) (s : State) (m : MethodId) (meth : Method) (c : Code) (b L : Nat) (xs : Nat → Int32) : Prop :=
  p.tables.exec = Jvm.exec ∧ c.code = code ∧ meth.sig.returnType = ret ∧ c.maxLocals = 4 ∧ s.vm.findClass R_law = some m.cls ∧ (∀ w ∈ lw_tbl, w.before #[Value.ref b] s = true) ∧ va_X b L xs s s.heap ∧ b < s.heap.size ∧ meth.locks = false ∧ (Jvm.Cond.and given_1 narrow_1).before #[Value.ref b] s = true
theorem mN_lo {k : Nat} (h : k < 72) : ∀ n : Nat, n ≤ 8 → mN n k = 0
  | 0, _ => rfl
  | n + 1, hn => by
    have e : ((72 : Int32) + nI n).toNatClampNeg = 72 + n := by
      rw [show (72 : Int32) = nI 72 from rfl, nI_add]
      exact nI_clamp (by omega)
    show upd (mN n) ((72 : Int32) + nI n).toNatClampNeg 255 k = 0
    rw [e, pk_un (by omega)]
    exact mN_lo h n (by omega)
theorem mN_pat : ∀ k : Nat, k < 8 → g_J7_fill_53178_arr (fun _ => 0) 255 k = mN 8 (72 + k) ∧ 0 ≤ (g_J7_fill_53178_arr (fun _ => 0) 255 k).toInt ∧ (g_J7_fill_53178_arr (fun _ => 0) 255 k).toInt ≤ 255 := by decide +kernel
theorem Rel_0 : Rel (fun _ => 0) (g_J7_fill_53178_arr (fun _ => 0) 255) (fun _ => 0) 0 (fun _ _ => 0) (fun _ => g_J7_fill_53178_arr (fun _ => 0) 255) (fun _ _ => 0) (fun _ => 0) 0 0 (fun _ => 0) 0 0 0 0 0 (mN 8) (fun _ => 0) 0 (fun _ => 0) (fun _ => 0) 0 := by
  refine ⟨⟨fun k hk => (mN_lo hk 8 (Nat.le_refl 8)).symm, mN_pat, by decide +kernel, ⟨by decide, by decide⟩, fun k hk => ?_⟩, ⟨⟨by decide, by decide⟩, rfl, ⟨by decide, by decide⟩, fun j hj => ?_⟩, ⟨rfl, ⟨by decide, by decide⟩, fun k hk => ?_⟩, ⟨rfl, rfl, rfl⟩, ⟨by decide, by decide⟩⟩
  · exact absurd hk (by have : (0 : Int32).toInt = 0 := rfl; omega)
  · exact absurd hj (by have : (0 : Int32).toInt = 0 := rfl; omega)
  · exact absurd hk (by have : (0 : Int32).toInt = 0 := rfl; omega)

theorem lw_ge {I L : Nat} (hI : I ≤ 5120) (hL : L ≤ 5120) (q : ¬ nI L - 10 < nI I) : I + 10 ≤ L := by
  rw [Int32.lt_iff_toInt_lt, show (10 : Int32) = nI 10 from rfl, pk_sub_toInt (by omega) (by omega), nI_toInt (by omega)] at q
  omega

set_option maxRecDepth 100000 in
theorem law_loop {X : zX} {G : zG} {b L : Nat} {xs : Nat → Int32} {ao so sr sp sq po pl pr pd eo ek to ts tl ho hm mo mb oo on xo xb dam dnm dpm drm dsm dlm dcm dtm dgm : Nat} {ka kb kc kd : Nat → Nat} (C : zC X G 4 cL_law RL ret 11 458) (hkn : 55 ≤ (xR X).cells ∧ 4173 ≤ (xR X).slots) (S : lwS X b L xs) (hret : ∀ (ws : va_W) (lv : List (Nat × Value)), Z X G 4 55 4173 ws 1242 lv [.int 1]) : ∀ (n I : Nat), L < I + n → I ≤ 5120 → ∀ (bads : Int32) (noes : Int32) (fulls : Int32) (rows : Nat → Int32) (pat : Nat → Int32) (ops : Nat → Int32) (cnt : Int32) (left : Nat → Int32) (srow : Nat → Int32) (sdot : Nat → Int32) (steps : Int32) (krows : Nat → Nat → Int32) (kpat : Nat → Nat → Int32) (kops : Nat → Nat → Int32) (kcnt : Nat → Int32) (next : Int32) (size : Int32) (source : Nat → Int32) (like : Nat → Int32) (comes : Nat → Int32) (block : Nat → Int32) (nums : Nat → Int32) (sign : Int32) (kix : Nat) (osz : Int32) (aw : Int32) (bytes : Nat → Int32) (len : Int32) (place : Int32) (num : Int32) (nowm : Nat → Int32) (pastm : Nat → Int32) (statesm : Int32) (refusedm : Nat → Int32) (asidem : Nat → Int32) (pilem : Nat → Int32) (camem : Nat → Int32) (pileLm : Int32) (textm : Nat → Int32) (textLm : Int32) (placem : Int32) (nargsm : Nat → Int32), Rel rows pat ops cnt krows kpat kops kcnt next size bytes len bads noes fulls osz nowm pastm statesm refusedm textm textLm → Z X G 4 55 4173 (wPM G ao so eo to ho mo oo xo bads noes fulls ++ (wSc G so sr sp sq rows pat ops cnt ++ (wPa G po pl pr pd left srow sdot steps ++ (wPs G eo ek ka kb kc kd krows kpat kops kcnt next size ++ (wPt G to ts tl so po source like ++ (wWh G ho hm so comes ++ (wMe G mo mb so po block ++ (wOr G oo on nums sign kix osz aw ++ (wTx G xo xb bytes len place num ++ wMd G dam dnm dpm drm dsm dlm dcm dtm dgm nowm pastm statesm refusedm asidem pilem camem pileLm textm textLm placem nargsm))))))))) 18 [(0, .ref b), (1, .ref ao), (2, .ref dam), (3, .int (nI I))] [] := by
  have hL := S.2.2.2
  intro n
  induction n with
  | zero =>
    intro I hLn hI0 bads noes fulls rows pat ops cnt left srow sdot steps krows kpat kops kcnt next size source like comes block nums sign kix osz aw bytes len place num nowm pastm statesm refusedm asidem pilem camem pileLm textm textLm placem nargsm h
    refine z_iload_n (pc := 18) C 3 dL_law_18 rfl ?_
    refine z_aload_n (pc := 19) C 0 dL_law_19 rfl ?_
    refine z_slen (pc := 20) C S dL_law_20 ?_
    refine z_bipush (pc := 21) (v := 10) C dL_law_21 (by decide) ?_
    refine z_isub (pc := 23) C dL_law_23 ?_
    refine z_icmp_gt (pc := 24) 1241 C dL_law_24 (by decide) (fun _ => z_iconst (pc := 1241) (v := 1) C dL_law_1241 (by decide) (hret _ _)) (fun q => ?_)
    have hI : I + 10 ≤ L := lw_ge (by omega) (by omega) q
    exact absurd hLn (by omega)
  | succ n ih =>
    intro I hLn hI0 bads noes fulls rows pat ops cnt left srow sdot steps krows kpat kops kcnt next size source like comes block nums sign kix osz aw bytes len place num nowm pastm statesm refusedm asidem pilem camem pileLm textm textLm placem nargsm h
    refine z_iload_n (pc := 18) C 3 dL_law_18 rfl ?_
    refine z_aload_n (pc := 19) C 0 dL_law_19 rfl ?_
    refine z_slen (pc := 20) C S dL_law_20 ?_
    refine z_bipush (pc := 21) (v := 10) C dL_law_21 (by decide) ?_
    refine z_isub (pc := 23) C dL_law_23 ?_
    refine z_icmp_gt (pc := 24) 1241 C dL_law_24 (by decide) (fun _ => z_iconst (pc := 1241) (v := 1) C dL_law_1241 (by decide) (hret _ _)) (fun q => ?_)
    have hI : I + 10 ≤ L := lw_ge (by omega) (by omega) q
    have kk : ∀ (bads : Int32) (noes : Int32) (fulls : Int32) (rows : Nat → Int32) (pat : Nat → Int32) (ops : Nat → Int32) (cnt : Int32) (left : Nat → Int32) (srow : Nat → Int32) (sdot : Nat → Int32) (steps : Int32) (krows : Nat → Nat → Int32) (kpat : Nat → Nat → Int32) (kops : Nat → Nat → Int32) (kcnt : Nat → Int32) (next : Int32) (size : Int32) (source : Nat → Int32) (like : Nat → Int32) (comes : Nat → Int32) (block : Nat → Int32) (nums : Nat → Int32) (sign : Int32) (kix : Nat) (osz : Int32) (aw : Int32) (bytes : Nat → Int32) (len : Int32) (place : Int32) (num : Int32) (nowm : Nat → Int32) (pastm : Nat → Int32) (statesm : Int32) (refusedm : Nat → Int32) (asidem : Nat → Int32) (pilem : Nat → Int32) (camem : Nat → Int32) (pileLm : Int32) (textm : Nat → Int32) (textLm : Int32) (placem : Int32) (nargsm : Nat → Int32), Rel rows pat ops cnt krows kpat kops kcnt next size bytes len bads noes fulls osz nowm pastm statesm refusedm textm textLm → Z X G 4 55 4173 (wPM G ao so eo to ho mo oo xo bads noes fulls ++ (wSc G so sr sp sq rows pat ops cnt ++ (wPa G po pl pr pd left srow sdot steps ++ (wPs G eo ek ka kb kc kd krows kpat kops kcnt next size ++ (wPt G to ts tl so po source like ++ (wWh G ho hm so comes ++ (wMe G mo mb so po block ++ (wOr G oo on nums sign kix osz aw ++ (wTx G xo xb bytes len place num ++ wMd G dam dnm dpm drm dsm dlm dcm dtm dgm nowm pastm statesm refusedm asidem pilem camem pileLm textm textLm placem nargsm))))))))) 1235 [(0, .ref b), (1, .ref ao), (2, .ref dam), (3, .int (nI I))] [] := by
      intro bads noes fulls rows pat ops cnt left srow sdot steps krows kpat kops kcnt next size source like comes block nums sign kix osz aw bytes len place num nowm pastm statesm refusedm asidem pilem camem pileLm textm textLm placem nargsm h
      refine z_iinc (pc := 1235) (v := nI (I + 10)) [(3, _), (0, _), (1, _), (2, _)] C 3 dL_law_1235 rfl (nI_add I 10) (by decide) rfl ?_
      refine z_goto (pc := 1238) 18 C dL_law_1238 (by decide) ?_
      refine z_lv (lv' := [(0, _), (1, _), (2, _), (3, _)]) [1, 2, 3, 0] rfl ?_
      exact ih (I + 10) (by omega) (by omega) bads noes fulls rows pat ops cnt left srow sdot steps krows kpat kops kcnt next size source like comes block nums sign kix osz aw bytes len place num nowm pastm statesm refusedm asidem pilem camem pileLm textm textLm placem nargsm h
    refine z_aload_n (pc := 27) C 0 dL_law_27 rfl ?_
    refine z_iload_n (pc := 28) C 3 dL_law_28 rfl ?_
    obtain ⟨V, hV⟩ : ∃ z, xs (nI I).toNatClampNeg = z := ⟨_, rfl⟩
    refine z_sld (pc := 29) C S dL_law_29 (vp_in_nI (by omega) (by omega)) hV ?_
    refine z_bipush (pc := 30) (v := 31) C dL_law_30 (by decide) ?_
    refine z_iand (pc := 32) C dL_law_32 ?_
    generalize V &&& 31 = U
    by_cases u0 : U = 0
    · refine z_tableIn (pc := 33) 152 C dL_law_33 (by rw [u0]; decide) (by rw [u0]; decide) (by rw [u0]; rfl) (by decide) ?_
      exact lw_dot C hkn S hI h kk
    by_cases u1 : U = 1
    · refine z_tableIn (pc := 33) 205 C dL_law_33 (by rw [u1]; decide) (by rw [u1]; decide) (by rw [u1]; rfl) (by decide) ?_
      exact lw_pattern C hkn S hI h kk
    by_cases u2 : U = 2
    · refine z_tableIn (pc := 33) 238 C dL_law_33 (by rw [u2]; decide) (by rw [u2]; decide) (by rw [u2]; rfl) (by decide) ?_
      exact lw_draw C hkn S hI h kk
    by_cases u3 : U = 3
    · refine z_tableIn (pc := 33) 271 C dL_law_33 (by rw [u3]; decide) (by rw [u3]; decide) (by rw [u3]; rfl) (by decide) ?_
      exact lw_opening C hkn S hI h kk
    by_cases u4 : U = 4
    · refine z_tableIn (pc := 33) 324 C dL_law_33 (by rw [u4]; decide) (by rw [u4]; decide) (by rw [u4]; rfl) (by decide) ?_
      exact lw_closes C hkn S hI h kk
    by_cases u5 : U = 5
    · refine z_tableIn (pc := 33) 337 C dL_law_33 (by rw [u5]; decide) (by rw [u5]; decide) (by rw [u5]; rfl) (by decide) ?_
      exact lw_move C hkn S hI h kk
    by_cases u6 : U = 6
    · refine z_tableIn (pc := 33) 448 C dL_law_33 (by rw [u6]; decide) (by rw [u6]; decide) (by rw [u6]; rfl) (by decide) ?_
      exact lw_line C hkn S hI h kk
    by_cases u7 : U = 7
    · refine z_tableIn (pc := 33) 523 C dL_law_33 (by rw [u7]; decide) (by rw [u7]; decide) (by rw [u7]; rfl) (by decide) ?_
      exact lw_flood C hkn S hI h kk
    by_cases u8 : U = 8
    · refine z_tableIn (pc := 33) 566 C dL_law_33 (by rw [u8]; decide) (by rw [u8]; decide) (by rw [u8]; rfl) (by decide) ?_
      exact lw_rectangle C hkn S hI h kk
    by_cases u9 : U = 9
    · refine z_tableIn (pc := 33) 641 C dL_law_33 (by rw [u9]; decide) (by rw [u9]; decide) (by rw [u9]; rfl) (by decide) ?_
      exact lw_letter C hkn S hI h kk
    by_cases u10 : U = 10
    · refine z_tableIn (pc := 33) 704 C dL_law_33 (by rw [u10]; decide) (by rw [u10]; decide) (by rw [u10]; rfl) (by decide) ?_
      exact lw_joins C hkn S hI h kk
    by_cases u11 : U = 11
    · refine z_tableIn (pc := 33) 747 C dL_law_33 (by rw [u11]; decide) (by rw [u11]; decide) (by rw [u11]; rfl) (by decide) ?_
      exact lw_changes C hkn S hI h kk
    by_cases u12 : U = 12
    · refine z_tableIn (pc := 33) 780 C dL_law_33 (by rw [u12]; decide) (by rw [u12]; decide) (by rw [u12]; rfl) (by decide) ?_
      exact lw_rolls C hkn S hI h kk
    by_cases u13 : U = 13
    · refine z_tableIn (pc := 33) 823 C dL_law_33 (by rw [u13]; decide) (by rw [u13]; decide) (by rw [u13]; rfl) (by decide) ?_
      exact lw_at C hkn S hI h kk
    by_cases u14 : U = 14
    · refine z_tableIn (pc := 33) 866 C dL_law_33 (by rw [u14]; decide) (by rw [u14]; decide) (by rw [u14]; rfl) (by decide) ?_
      exact lw_row C hkn S hI h kk
    by_cases u15 : U = 15
    · refine z_tableIn (pc := 33) 899 C dL_law_33 (by rw [u15]; decide) (by rw [u15]; decide) (by rw [u15]; rfl) (by decide) ?_
      exact lw_of C hkn S hI h kk
    by_cases u16 : U = 16
    · refine z_tableIn (pc := 33) 932 C dL_law_33 (by rw [u16]; decide) (by rw [u16]; decide) (by rw [u16]; rfl) (by decide) ?_
      exact lw_count C hkn S hI h kk
    by_cases u17 : U = 17
    · refine z_tableIn (pc := 33) 995 C dL_law_33 (by rw [u17]; decide) (by rw [u17]; decide) (by rw [u17]; rfl) (by decide) ?_
      exact lw_unlike C hkn S hI h kk
    by_cases u18 : U = 18
    · refine z_tableIn (pc := 33) 1028 C dL_law_33 (by rw [u18]; decide) (by rw [u18]; decide) (by rw [u18]; rfl) (by decide) ?_
      exact lw_finds C hkn S hI h kk
    by_cases u19 : U = 19
    · refine z_tableIn (pc := 33) 1103 C dL_law_33 (by rw [u19]; decide) (by rw [u19]; decide) (by rw [u19]; rfl) (by decide) ?_
      exact lw_open C hkn S hI h kk
    by_cases u20 : U = 20
    · refine z_tableIn (pc := 33) 1136 C dL_law_33 (by rw [u20]; decide) (by rw [u20]; decide) (by rw [u20]; rfl) (by decide) ?_
      exact lw_type C hkn S hI h kk
    by_cases u21 : U = 21
    · refine z_tableIn (pc := 33) 1159 C dL_law_33 (by rw [u21]; decide) (by rw [u21]; decide) (by rw [u21]; rfl) (by decide) ?_
      exact lw_clear C hkn S hI h kk
    by_cases u22 : U = 22
    · refine z_tableIn (pc := 33) 1172 C dL_law_33 (by rw [u22]; decide) (by rw [u22]; decide) (by rw [u22]; rfl) (by decide) ?_
      exact lw_does C hkn S hI h kk
    by_cases u23 : U = 23
    · refine z_tableIn (pc := 33) 1185 C dL_law_33 (by rw [u23]; decide) (by rw [u23]; decide) (by rw [u23]; rfl) (by decide) ?_
      exact lw_back C hkn S hI h kk
    by_cases u24 : U = 24
    · refine z_tableIn (pc := 33) 1198 C dL_law_33 (by rw [u24]; decide) (by rw [u24]; decide) (by rw [u24]; rfl) (by decide) ?_
      exact lw_told C hkn S hI h kk
    by_cases u25 : U = 25
    · refine z_tableIn (pc := 33) 1221 C dL_law_33 (by rw [u25]; decide) (by rw [u25]; decide) (by rw [u25]; rfl) (by decide) ?_
      exact lw_digest C hkn S hI h kk
    refine z_tableD (pc := 33) 1235 C dL_law_33 [0, 1, 2, 3, 4, 5, 6, 7, 8, 9, 10, 11, 12, 13, 14, 15, 16, 17, 18, 19, 20, 21, 22, 23, 24, 25] (by decide) (List.forall_mem_cons.mpr ⟨lv_neT u0 rfl, List.forall_mem_cons.mpr ⟨lv_neT u1 rfl, List.forall_mem_cons.mpr ⟨lv_neT u2 rfl, List.forall_mem_cons.mpr ⟨lv_neT u3 rfl, List.forall_mem_cons.mpr ⟨lv_neT u4 rfl, List.forall_mem_cons.mpr ⟨lv_neT u5 rfl, List.forall_mem_cons.mpr ⟨lv_neT u6 rfl, List.forall_mem_cons.mpr ⟨lv_neT u7 rfl, List.forall_mem_cons.mpr ⟨lv_neT u8 rfl, List.forall_mem_cons.mpr ⟨lv_neT u9 rfl, List.forall_mem_cons.mpr ⟨lv_neT u10 rfl, List.forall_mem_cons.mpr ⟨lv_neT u11 rfl, List.forall_mem_cons.mpr ⟨lv_neT u12 rfl, List.forall_mem_cons.mpr ⟨lv_neT u13 rfl, List.forall_mem_cons.mpr ⟨lv_neT u14 rfl, List.forall_mem_cons.mpr ⟨lv_neT u15 rfl, List.forall_mem_cons.mpr ⟨lv_neT u16 rfl, List.forall_mem_cons.mpr ⟨lv_neT u17 rfl, List.forall_mem_cons.mpr ⟨lv_neT u18 rfl, List.forall_mem_cons.mpr ⟨lv_neT u19 rfl, List.forall_mem_cons.mpr ⟨lv_neT u20 rfl, List.forall_mem_cons.mpr ⟨lv_neT u21 rfl, List.forall_mem_cons.mpr ⟨lv_neT u22 rfl, List.forall_mem_cons.mpr ⟨lv_neT u23 rfl, List.forall_mem_cons.mpr ⟨lv_neT u24 rfl, List.forall_mem_cons.mpr ⟨lv_neT u25 rfl, fun _ h => absurd h List.not_mem_nil⟩⟩⟩⟩⟩⟩⟩⟩⟩⟩⟩⟩⟩⟩⟩⟩⟩⟩⟩⟩⟩⟩⟩⟩⟩⟩) (by decide) ?_
    exact kk bads noes fulls rows pat ops cnt left srow sdot steps krows kpat kops kcnt next size source like comes block nums sign kix osz aw bytes len place num nowm pastm statesm refusedm asidem pilem camem pileLm textm textLm placem nargsm h
