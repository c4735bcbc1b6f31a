/-- beyond the pictures nothing has changed -/
def kp (a b : Nat → Int32) : Prop := ∀ j : Nat, 72 ≤ j → a j = b j
theorem kp_rf {a : Nat → Int32} : kp a a := fun _ _ => rfl
theorem kp_tr {a b c : Nat → Int32} (h : kp a b) (g : kp b c) : kp a c := fun j hj => (h j hj).trans (g j hj)
theorem kp_upd {now : Nat → Int32} {k v : Int32} (hk : vp_in k 72) : kp (upd now k.toNatClampNeg v) now := fun j hj => by
  have h2 : k.toNatClampNeg < 72 := Nat.not_le.mp fun q => hk (Or.inr q)
  exact pk_un (by omega)
theorem kp_sets {now : Nat → Int32} {t x y v : Int32} (hT : pT t) (hY : pY y) : kp (g_X9_sets_now now t x y v) now := kp_upd (ix_ty (by decide) hT hY)
theorem kp_join {now : Nat → Int32} {t x y s join : Int32} (hT : pT t) : kp (g_X9_joinsAt_now now t x y s join) now := by
  unfold g_X9_joinsAt_now
  split
  · exact kp_rf
  · split
    · exact kp_rf
    · rename_i q _; exact kp_sets hT (mI_ne q).2
theorem kp_mv24 {now aside : Nat → Int32} {s x y t toX toY join : Int32} {k : Nat} {z : Int32 × (Nat → Int32)} (hT : pT t) : ∀ i : Nat, kp (s_X9_moves_24 now aside s x y t toX toY join k z i).2 z.2
  | 0 => kp_rf
  | i + 1 => by
    have ih := kp_mv24 (now := now) (aside := aside) (s := s) (x := x) (y := y) (toX := toX) (toY := toY) (join := join) (k := k) (z := z) hT i
    unfold s_X9_moves_24 b_X9_moves_24
    exact kp_tr (kp_join hT) ih
theorem kp_mv14 {now aside : Nat → Int32} {s x y w t toX toY join : Int32} (hT : pT t) : ∀ i : Nat, kp (s_X9_moves_14 now aside s x y w t toX toY join i).2 now
  | 0 => kp_rf
  | i + 1 => by
    have ih := kp_mv14 (now := now) (aside := aside) (s := s) (x := x) (y := y) (w := w) (toX := toX) (toY := toY) (join := join) hT i
    unfold s_X9_moves_14 b_X9_moves_14
    exact kp_tr (kp_mv24 hT _) ih
theorem kp_mv {now aside : Nat → Int32} {s x y w h t toX toY join : Int32} (hT : pT t) : kp (g_X9_moves_now now aside s x y w h t toX toY join) now := kp_mv14 hT _
theorem kp_li58 {now : Nat → Int32} {t x0 y0 x1 y1 join : Int32} (hT : pT t) : ∀ i : Nat, kp (s_X9_lines_58 now t x0 y0 x1 y1 join i).2 now := by
  intro i
  induction i with
  | zero => exact kp_rf
  | succ i ih => unfold s_X9_lines_58 b_X9_lines_58; dsimp only; exact kp_tr (kp_join hT) ih
theorem kp_li {now : Nat → Int32} {t x0 y0 x1 y1 join : Int32} (hT : pT t) : kp (g_X9_lines_now now t x0 y0 x1 y1 join) now := kp_li58 hT _
theorem kp_re16 {t x y join : Int32} {k : Nat} {z : Int32 × (Nat → Int32)} (hT : pT t) : ∀ i : Nat, kp (s_X9_rectangles_16 t x y join k z i).2 z.2
  | 0 => kp_rf
  | i + 1 => by
    have ih := kp_re16 (x := x) (y := y) (join := join) (k := k) (z := z) hT i
    unfold s_X9_rectangles_16 b_X9_rectangles_16
    exact kp_tr (kp_join hT) ih
theorem kp_re6 {now : Nat → Int32} {t x y w join : Int32} (hT : pT t) : ∀ i : Nat, kp (s_X9_rectangles_6 now t x y w join i).2 now
  | 0 => kp_rf
  | i + 1 => by
    have ih := kp_re6 (now := now) (x := x) (y := y) (w := w) (join := join) hT i
    unfold s_X9_rectangles_6 b_X9_rectangles_6
    exact kp_tr (kp_re16 hT _) ih
theorem kp_re {now : Nat → Int32} {t x y w h join : Int32} (hT : pT t) : kp (g_X9_rectangles_now now t x y w h join) now := kp_re6 hT _
theorem kp_le32 {t n x y join : Int32} {k : Nat} {z : Int32 × (Nat → Int32)} (hT : pT t) : ∀ i : Nat, kp (s_X9_letters_32 t n x y join k z i).2 z.2
  | 0 => kp_rf
  | i + 1 => by
    have ih := kp_le32 (n := n) (x := x) (y := y) (join := join) (k := k) (z := z) hT i
    unfold s_X9_letters_32 b_X9_letters_32
    exact kp_tr (kp_join hT) ih
theorem kp_le6 {now : Nat → Int32} {t n x y join : Int32} (hT : pT t) : ∀ i : Nat, kp (s_X9_letters_6 now t n x y join i).2 now
  | 0 => kp_rf
  | i + 1 => by
    have ih := kp_le6 (now := now) (n := n) (x := x) (y := y) (join := join) hT i
    unfold s_X9_letters_6 b_X9_letters_6
    exact kp_tr (kp_le32 hT _) ih
theorem kp_le {now : Nat → Int32} {t n x y join : Int32} (hT : pT t) : kp (g_X9_letters_now now t n x y join) now := kp_le6 hT _
theorem kp_fl28 {now pile came : Nat → Int32} {t x y : Int32} (hT : pT t) : ∀ i : Nat, i ≤ 768 → kp (s_X9_floods_28 now pile came t x y i) now
  | 0, _ => kp_rf
  | i + 1, hi => by
    have ih := kp_fl28 (now := now) (pile := pile) (came := came) (x := x) (y := y) hT i (by omega)
    unfold s_X9_floods_28 b_X9_floods_28
    split
    · exact ih
    · exact kp_tr (kp_sets hT (dv_y (by omega))) ih
theorem kp_fl {now pile came : Nat → Int32} {t x y : Int32} (hT : pT t) : kp (g_X9_floods_now now pile came t x y) now := kp_fl28 hT 768 (Nat.le_refl _)
theorem mOk_kp {a b : Nat → Int32} (h : kp a b) (hb : mOk b) : mOk a := by
  unfold mOk at hb ⊢
  rw [h _ (by decide)]
  exact hb
/-- what doesOne asks of its order -/
def dOk (c : Int32) (a now : Nat → Int32) : Prop :=
  (c = 109 → pT (a (0 : Int32).toNatClampNeg) ∧ hOk (a (3 : Int32).toNatClampNeg) ∧ hOk (a (4 : Int32).toNatClampNeg) ∧ pT (a (5 : Int32).toNatClampNeg)) ∧
  (c = 108 → pT (a (0 : Int32).toNatClampNeg) ∧ pX (a (1 : Int32).toNatClampNeg) ∧ pX (a (2 : Int32).toNatClampNeg) ∧ pX (a (3 : Int32).toNatClampNeg) ∧ pX (a (4 : Int32).toNatClampNeg)) ∧
  (c = 102 → pT (a (0 : Int32).toNatClampNeg)) ∧
  (c = 114 → pT (a (0 : Int32).toNatClampNeg) ∧ hOk (a (3 : Int32).toNatClampNeg) ∧ hOk (a (4 : Int32).toNatClampNeg)) ∧
  (c = 99 → pT (a (0 : Int32).toNatClampNeg)) ∧
  (c = 111 → ¬ now (96 : Int32).toNatClampNeg = 4)

def f_X9_doesOne (now : Nat → Int32) (aside : Nat → Int32) (pile : Nat → Int32) (came : Nat → Int32) (nargs : Nat → Int32) (c : Int32) : Int32 := if c = 99 then f_X9_letters now (nargs (0 : Int32).toNatClampNeg) (nargs (1 : Int32).toNatClampNeg) (nargs (2 : Int32).toNatClampNeg) (nargs (3 : Int32).toNatClampNeg) (nargs (4 : Int32).toNatClampNeg) else if c = 102 then if (f_X9_mayFlood now (nargs (1 : Int32).toNatClampNeg) (nargs (2 : Int32).toNatClampNeg)) = 0 then 0 else f_X9_floods now pile came (nargs (0 : Int32).toNatClampNeg) (nargs (1 : Int32).toNatClampNeg) (nargs (2 : Int32).toNatClampNeg) else if c = 108 then f_X9_lines now (nargs (0 : Int32).toNatClampNeg) (nargs (1 : Int32).toNatClampNeg) (nargs (2 : Int32).toNatClampNeg) (nargs (3 : Int32).toNatClampNeg) (nargs (4 : Int32).toNatClampNeg) (nargs (5 : Int32).toNatClampNeg) else if c = 109 then f_X9_moves now aside (nargs (0 : Int32).toNatClampNeg) (nargs (1 : Int32).toNatClampNeg) (nargs (2 : Int32).toNatClampNeg) (nargs (3 : Int32).toNatClampNeg) (nargs (4 : Int32).toNatClampNeg) (nargs (5 : Int32).toNatClampNeg) (nargs (6 : Int32).toNatClampNeg) (nargs (7 : Int32).toNatClampNeg) (nargs (8 : Int32).toNatClampNeg) else if c = 111 then 0 else if c = 114 then f_X9_rectangles now (nargs (0 : Int32).toNatClampNeg) (nargs (1 : Int32).toNatClampNeg) (nargs (2 : Int32).toNatClampNeg) (nargs (3 : Int32).toNatClampNeg) (nargs (4 : Int32).toNatClampNeg) (nargs (5 : Int32).toNatClampNeg) else 0 * (f_X9_shuts now)
def g_X9_doesOne_now (now : Nat → Int32) (aside : Nat → Int32) (pile : Nat → Int32) (came : Nat → Int32) (nargs : Nat → Int32) (c : Int32) : Nat → Int32 := if c = 99 then g_X9_letters_now now (nargs (0 : Int32).toNatClampNeg) (nargs (1 : Int32).toNatClampNeg) (nargs (2 : Int32).toNatClampNeg) (nargs (3 : Int32).toNatClampNeg) (nargs (4 : Int32).toNatClampNeg) else if c = 102 then if (f_X9_mayFlood now (nargs (1 : Int32).toNatClampNeg) (nargs (2 : Int32).toNatClampNeg)) = 0 then now else g_X9_floods_now now pile came (nargs (0 : Int32).toNatClampNeg) (nargs (1 : Int32).toNatClampNeg) (nargs (2 : Int32).toNatClampNeg) else if c = 108 then g_X9_lines_now now (nargs (0 : Int32).toNatClampNeg) (nargs (1 : Int32).toNatClampNeg) (nargs (2 : Int32).toNatClampNeg) (nargs (3 : Int32).toNatClampNeg) (nargs (4 : Int32).toNatClampNeg) (nargs (5 : Int32).toNatClampNeg) else if c = 109 then g_X9_moves_now now aside (nargs (0 : Int32).toNatClampNeg) (nargs (1 : Int32).toNatClampNeg) (nargs (2 : Int32).toNatClampNeg) (nargs (3 : Int32).toNatClampNeg) (nargs (4 : Int32).toNatClampNeg) (nargs (5 : Int32).toNatClampNeg) (nargs (6 : Int32).toNatClampNeg) (nargs (7 : Int32).toNatClampNeg) (nargs (8 : Int32).toNatClampNeg) else if c = 111 then g_X9_opens_now now (nargs (0 : Int32).toNatClampNeg) (nargs (1 : Int32).toNatClampNeg) (nargs (2 : Int32).toNatClampNeg) (nargs (3 : Int32).toNatClampNeg) else if c = 114 then g_X9_rectangles_now now (nargs (0 : Int32).toNatClampNeg) (nargs (1 : Int32).toNatClampNeg) (nargs (2 : Int32).toNatClampNeg) (nargs (3 : Int32).toNatClampNeg) (nargs (4 : Int32).toNatClampNeg) (nargs (5 : Int32).toNatClampNeg) else g_X9_shuts_now now
def g_X9_doesOne_aside (now : Nat → Int32) (aside : Nat → Int32) (c : Int32) : Nat → Int32 := if c = 99 then aside else if c = 102 then aside else if c = 108 then aside else if c = 109 then g_X9_moves_aside now aside else aside
def g_X9_doesOne_pile (now : Nat → Int32) (pile : Nat → Int32) (came : Nat → Int32) (nargs : Nat → Int32) (c : Int32) : Nat → Int32 := if c = 99 then pile else if c = 102 then if (f_X9_mayFlood now (nargs (1 : Int32).toNatClampNeg) (nargs (2 : Int32).toNatClampNeg)) = 0 then pile else g_X9_floods_pile now pile came (nargs (0 : Int32).toNatClampNeg) (nargs (1 : Int32).toNatClampNeg) (nargs (2 : Int32).toNatClampNeg) else pile
def g_X9_doesOne_came (now : Nat → Int32) (pile : Nat → Int32) (came : Nat → Int32) (nargs : Nat → Int32) (c : Int32) : Nat → Int32 := if c = 99 then came else if c = 102 then if (f_X9_mayFlood now (nargs (1 : Int32).toNatClampNeg) (nargs (2 : Int32).toNatClampNeg)) = 0 then came else g_X9_floods_came now pile came (nargs (0 : Int32).toNatClampNeg) (nargs (1 : Int32).toNatClampNeg) (nargs (2 : Int32).toNatClampNeg) else came
def g_X9_doesOne_pileL (now : Nat → Int32) (pile : Nat → Int32) (came : Nat → Int32) (pileL : Int32) (nargs : Nat → Int32) (c : Int32) : Int32 := if c = 99 then pileL else if c = 102 then if (f_X9_mayFlood now (nargs (1 : Int32).toNatClampNeg) (nargs (2 : Int32).toNatClampNeg)) = 0 then pileL else g_X9_floods_pileL now pile came (nargs (0 : Int32).toNatClampNeg) (nargs (1 : Int32).toNatClampNeg) (nargs (2 : Int32).toNatClampNeg) else pileL
set_option maxRecDepth 100000 in
theorem c_X9_doesOne {l : Launch} {G : zG} {da dn dp dr ds dl dc dt dg : Nat} {now : Nat → Int32} {past : Nat → Int32} {states : Int32} {refused : Nat → Int32} {aside : Nat → Int32} {pile : Nat → Int32} {came : Nat → Int32} {pileL : Int32} {text : Nat → Int32} {textL : Int32} {place : Int32} {nargs : Nat → Int32} {c : Int32} (hm : mOk now) (hd : dOk c nargs now) : Ct l G yX9_doesOne cX9_doesOne 3 (Option.some FieldType.int) 6 154 [.ref da, .int c] (wMd G da dn dp dr ds dl dc dt dg now past states refused aside pile came pileL text textL place nargs) (pI (f_X9_doesOne now aside pile came nargs c) (wMd G da dn dp dr ds dl dc dt dg (g_X9_doesOne_now now aside pile came nargs c) past states refused (g_X9_doesOne_aside now aside c) (g_X9_doesOne_pile now pile came nargs c) (g_X9_doesOne_came now pile came nargs c) (g_X9_doesOne_pileL now pile came pileL nargs c) text textL place nargs)) := by
  refine Ct.of (plainFor_of_name (by decide)) (Nat.le_of_ble_eq_true rfl) (pI.ad ad_Md) (fun X C E => ?_)
  show Z X G 3 0 0 _ 0 [(0, .ref da), (1, .int c)] []
  refine z_aload_n (pc := 0) C 0 dX9_doesOne_0 rfl ?_
  refine z_get (pc := 1) C 0 11 dX9_doesOne_1 rfl rfl i_X9 (by decide) q_840 rfl ?_
  refine z_iconst (pc := 4) (v := 0) C dX9_doesOne_4 (by decide) ?_
  refine z_iald (pc := 5) C 8 dX9_doesOne_5 rfl (ix_c (k := 0) rfl (by decide) (by decide)) ?_
  refine z_istore_n (pc := 6) [(2, _), (0, _), (1, _)] C dX9_doesOne_6 rfl (by decide) rfl ?_
  refine z_iload_n (pc := 7) C 2 dX9_doesOne_7 rfl ?_
  by_cases c_8_99 : c = 99
  · skip
    refine z_tableIn (pc := 8) 258 C dX9_doesOne_8 (by rw [c_8_99]; decide) (by rw [c_8_99]; decide) (by rw [c_8_99]; rfl) (by decide) ?_
    refine z_aload_n (pc := 258) C 1 dX9_doesOne_258 rfl ?_
    refine z_iload_n (pc := 259) C 0 dX9_doesOne_259 rfl ?_
    refine z_aload_n (pc := 260) C 1 dX9_doesOne_260 rfl ?_
    refine z_get (pc := 261) C 0 11 dX9_doesOne_261 rfl rfl i_X9 (by decide) q_840 rfl ?_
    refine z_iconst (pc := 264) (v := 1) C dX9_doesOne_264 (by decide) ?_
    refine z_iald (pc := 265) C 8 dX9_doesOne_265 rfl (ix_c (k := 1) rfl (by decide) (by decide)) ?_
    refine z_aload_n (pc := 266) C 1 dX9_doesOne_266 rfl ?_
    refine z_get (pc := 267) C 0 11 dX9_doesOne_267 rfl rfl i_X9 (by decide) q_840 rfl ?_
    refine z_iconst (pc := 270) (v := 2) C dX9_doesOne_270 (by decide) ?_
    refine z_iald (pc := 271) C 8 dX9_doesOne_271 rfl (ix_c (k := 2) rfl (by decide) (by decide)) ?_
    refine z_aload_n (pc := 272) C 1 dX9_doesOne_272 rfl ?_
    refine z_get (pc := 273) C 0 11 dX9_doesOne_273 rfl rfl i_X9 (by decide) q_840 rfl ?_
    refine z_iconst (pc := 276) (v := 3) C dX9_doesOne_276 (by decide) ?_
    refine z_iald (pc := 277) C 8 dX9_doesOne_277 rfl (ix_c (k := 3) rfl (by decide) (by decide)) ?_
    refine z_aload_n (pc := 278) C 1 dX9_doesOne_278 rfl ?_
    refine z_get (pc := 279) C 0 11 dX9_doesOne_279 rfl rfl i_X9 (by decide) q_840 rfl ?_
    refine z_iconst (pc := 282) (v := 4) C dX9_doesOne_282 (by decide) ?_
    refine z_iald (pc := 283) C 8 dX9_doesOne_283 rfl (ix_c (k := 4) rfl (by decide) (by decide)) ?_
    refine z_callV (pc := 284) C (c_X9_letters (by exact (hd.2.2.2.2.1 c_8_99)) (by exact hm)) [0, 1, 2, 3, 4, 5, 6, 7, 8] z00 mV_X9_letters q_1037 dX9_doesOne_284 rfl rfl rfl 0 rfl rfl rfl rfl (Nat.le_of_ble_eq_true rfl) (by decide) (pI.go (ws' := wMd G da dn dp dr ds dl dc dt dg _ past states refused aside pile came pileL text textL place nargs) rfl ?_)
    exact z_iret (pc := 287) C E dX9_doesOne_287 (pI.mk (by simp only [f_X9_doesOne, if_pos c_8_99]) (by simp only [g_X9_doesOne_now, g_X9_doesOne_aside, g_X9_doesOne_pile, g_X9_doesOne_came, g_X9_doesOne_pileL, if_pos c_8_99]))
  by_cases c_8_102 : c = 102
  · skip
    refine z_tableIn (pc := 8) 181 C dX9_doesOne_8 (by rw [c_8_102]; decide) (by rw [c_8_102]; decide) (by rw [c_8_102]; rfl) (by decide) ?_
    refine z_aload_n (pc := 181) C 1 dX9_doesOne_181 rfl ?_
    refine z_aload_n (pc := 182) C 1 dX9_doesOne_182 rfl ?_
    refine z_get (pc := 183) C 0 11 dX9_doesOne_183 rfl rfl i_X9 (by decide) q_840 rfl ?_
    refine z_iconst (pc := 186) (v := 1) C dX9_doesOne_186 (by decide) ?_
    refine z_iald (pc := 187) C 8 dX9_doesOne_187 rfl (ix_c (k := 1) rfl (by decide) (by decide)) ?_
    refine z_aload_n (pc := 188) C 1 dX9_doesOne_188 rfl ?_
    refine z_get (pc := 189) C 0 11 dX9_doesOne_189 rfl rfl i_X9 (by decide) q_840 rfl ?_
    refine z_iconst (pc := 192) (v := 2) C dX9_doesOne_192 (by decide) ?_
    refine z_iald (pc := 193) C 8 dX9_doesOne_193 rfl (ix_c (k := 2) rfl (by decide) (by decide)) ?_
    refine z_callV (pc := 194) C (c_X9_mayFlood (by exact hm)) [0, 1, 2, 3, 4, 5, 6, 7, 8] z00 mV_X9_mayFlood q_1000 dX9_doesOne_194 rfl rfl rfl 0 rfl rfl rfl rfl (Nat.le_of_ble_eq_true rfl) (by decide) (pI.stay rfl ?_)
    refine z_if_eq (pc := 197) 220 C dX9_doesOne_197 (by decide) (fun c_197 => ?_) (fun c_197 => ?_)
    · skip
      refine z_iconst (pc := 220) (v := 0) C dX9_doesOne_220 (by decide) ?_
      exact z_iret (pc := 221) C E dX9_doesOne_221 (pI.mk (by simp only [f_X9_doesOne, if_neg c_8_99, if_pos c_8_102, if_pos c_197]) (by simp only [g_X9_doesOne_now, g_X9_doesOne_aside, g_X9_doesOne_pile, g_X9_doesOne_came, g_X9_doesOne_pileL, if_neg c_8_99, if_pos c_8_102, if_pos c_197]))
    · skip
      refine z_aload_n (pc := 200) C 1 dX9_doesOne_200 rfl ?_
      refine z_iload_n (pc := 201) C 0 dX9_doesOne_201 rfl ?_
      refine z_aload_n (pc := 202) C 1 dX9_doesOne_202 rfl ?_
      refine z_get (pc := 203) C 0 11 dX9_doesOne_203 rfl rfl i_X9 (by decide) q_840 rfl ?_
      refine z_iconst (pc := 206) (v := 1) C dX9_doesOne_206 (by decide) ?_
      refine z_iald (pc := 207) C 8 dX9_doesOne_207 rfl (ix_c (k := 1) rfl (by decide) (by decide)) ?_
      refine z_aload_n (pc := 208) C 1 dX9_doesOne_208 rfl ?_
      refine z_get (pc := 209) C 0 11 dX9_doesOne_209 rfl rfl i_X9 (by decide) q_840 rfl ?_
      refine z_iconst (pc := 212) (v := 2) C dX9_doesOne_212 (by decide) ?_
      refine z_iald (pc := 213) C 8 dX9_doesOne_213 rfl (ix_c (k := 2) rfl (by decide) (by decide)) ?_
      refine z_callV (pc := 214) C (c_X9_floods (by exact (hd.2.2.1 c_8_102)) (by exact hm) (by exact (mf_ne c_197).1) (by exact (mf_ne c_197).2)) [0, 1, 2, 3, 4, 5, 6, 7, 8] z00 mV_X9_floods q_1008 dX9_doesOne_214 rfl rfl rfl 0 rfl rfl rfl rfl (Nat.le_of_ble_eq_true rfl) (by decide) (pI.go (ws' := wMd G da dn dp dr ds dl dc dt dg _ past states refused aside _ _ _ text textL place nargs) rfl ?_)
      refine z_goto (pc := 217) 221 C dX9_doesOne_217 (by decide) ?_
      exact z_iret (pc := 221) C E dX9_doesOne_221 (pI.mk (by simp only [f_X9_doesOne, if_neg c_8_99, if_pos c_8_102, if_neg c_197]) (by simp only [g_X9_doesOne_now, g_X9_doesOne_aside, g_X9_doesOne_pile, g_X9_doesOne_came, g_X9_doesOne_pileL, if_neg c_8_99, if_pos c_8_102, if_neg c_197]))
  by_cases c_8_108 : c = 108
  · skip
    refine z_tableIn (pc := 8) 145 C dX9_doesOne_8 (by rw [c_8_108]; decide) (by rw [c_8_108]; decide) (by rw [c_8_108]; rfl) (by decide) ?_
    refine z_aload_n (pc := 145) C 1 dX9_doesOne_145 rfl ?_
    refine z_iload_n (pc := 146) C 0 dX9_doesOne_146 rfl ?_
    refine z_aload_n (pc := 147) C 1 dX9_doesOne_147 rfl ?_
    refine z_get (pc := 148) C 0 11 dX9_doesOne_148 rfl rfl i_X9 (by decide) q_840 rfl ?_
    refine z_iconst (pc := 151) (v := 1) C dX9_doesOne_151 (by decide) ?_
    refine z_iald (pc := 152) C 8 dX9_doesOne_152 rfl (ix_c (k := 1) rfl (by decide) (by decide)) ?_
    refine z_aload_n (pc := 153) C 1 dX9_doesOne_153 rfl ?_
    refine z_get (pc := 154) C 0 11 dX9_doesOne_154 rfl rfl i_X9 (by decide) q_840 rfl ?_
    refine z_iconst (pc := 157) (v := 2) C dX9_doesOne_157 (by decide) ?_
    refine z_iald (pc := 158) C 8 dX9_doesOne_158 rfl (ix_c (k := 2) rfl (by decide) (by decide)) ?_
    refine z_aload_n (pc := 159) C 1 dX9_doesOne_159 rfl ?_
    refine z_get (pc := 160) C 0 11 dX9_doesOne_160 rfl rfl i_X9 (by decide) q_840 rfl ?_
    refine z_iconst (pc := 163) (v := 3) C dX9_doesOne_163 (by decide) ?_
    refine z_iald (pc := 164) C 8 dX9_doesOne_164 rfl (ix_c (k := 3) rfl (by decide) (by decide)) ?_
    refine z_aload_n (pc := 165) C 1 dX9_doesOne_165 rfl ?_
    refine z_get (pc := 166) C 0 11 dX9_doesOne_166 rfl rfl i_X9 (by decide) q_840 rfl ?_
    refine z_iconst (pc := 169) (v := 4) C dX9_doesOne_169 (by decide) ?_
    refine z_iald (pc := 170) C 8 dX9_doesOne_170 rfl (ix_c (k := 4) rfl (by decide) (by decide)) ?_
    refine z_aload_n (pc := 171) C 1 dX9_doesOne_171 rfl ?_
    refine z_get (pc := 172) C 0 11 dX9_doesOne_172 rfl rfl i_X9 (by decide) q_840 rfl ?_
    refine z_iconst (pc := 175) (v := 5) C dX9_doesOne_175 (by decide) ?_
    refine z_iald (pc := 176) C 8 dX9_doesOne_176 rfl (ix_c (k := 5) rfl (by decide) (by decide)) ?_
    refine z_callV (pc := 177) C (c_X9_lines (by exact (hd.2.1 c_8_108).1) (by exact hm) (by exact (hd.2.1 c_8_108).2.1) (by exact (hd.2.1 c_8_108).2.2.1) (by exact (hd.2.1 c_8_108).2.2.2.1) (by exact (hd.2.1 c_8_108).2.2.2.2)) [0, 1, 2, 3, 4, 5, 6, 7, 8] z00 mV_X9_lines q_986 dX9_doesOne_177 rfl rfl rfl 0 rfl rfl rfl rfl (Nat.le_of_ble_eq_true rfl) (by decide) (pI.go (ws' := wMd G da dn dp dr ds dl dc dt dg _ past states refused aside pile came pileL text textL place nargs) rfl ?_)
    exact z_iret (pc := 180) C E dX9_doesOne_180 (pI.mk (by simp only [f_X9_doesOne, if_neg c_8_99, if_neg c_8_102, if_pos c_8_108]) (by simp only [g_X9_doesOne_now, g_X9_doesOne_aside, g_X9_doesOne_pile, g_X9_doesOne_came, g_X9_doesOne_pileL, if_neg c_8_99, if_neg c_8_102, if_pos c_8_108]))
  by_cases c_8_109 : c = 109
  · skip
    refine z_tableIn (pc := 8) 88 C dX9_doesOne_8 (by rw [c_8_109]; decide) (by rw [c_8_109]; decide) (by rw [c_8_109]; rfl) (by decide) ?_
    refine z_aload_n (pc := 88) C 1 dX9_doesOne_88 rfl ?_
    refine z_iload_n (pc := 89) C 0 dX9_doesOne_89 rfl ?_
    refine z_aload_n (pc := 90) C 1 dX9_doesOne_90 rfl ?_
    refine z_get (pc := 91) C 0 11 dX9_doesOne_91 rfl rfl i_X9 (by decide) q_840 rfl ?_
    refine z_iconst (pc := 94) (v := 1) C dX9_doesOne_94 (by decide) ?_
    refine z_iald (pc := 95) C 8 dX9_doesOne_95 rfl (ix_c (k := 1) rfl (by decide) (by decide)) ?_
    refine z_aload_n (pc := 96) C 1 dX9_doesOne_96 rfl ?_
    refine z_get (pc := 97) C 0 11 dX9_doesOne_97 rfl rfl i_X9 (by decide) q_840 rfl ?_
    refine z_iconst (pc := 100) (v := 2) C dX9_doesOne_100 (by decide) ?_
    refine z_iald (pc := 101) C 8 dX9_doesOne_101 rfl (ix_c (k := 2) rfl (by decide) (by decide)) ?_
    refine z_aload_n (pc := 102) C 1 dX9_doesOne_102 rfl ?_
    refine z_get (pc := 103) C 0 11 dX9_doesOne_103 rfl rfl i_X9 (by decide) q_840 rfl ?_
    refine z_iconst (pc := 106) (v := 3) C dX9_doesOne_106 (by decide) ?_
    refine z_iald (pc := 107) C 8 dX9_doesOne_107 rfl (ix_c (k := 3) rfl (by decide) (by decide)) ?_
    refine z_aload_n (pc := 108) C 1 dX9_doesOne_108 rfl ?_
    refine z_get (pc := 109) C 0 11 dX9_doesOne_109 rfl rfl i_X9 (by decide) q_840 rfl ?_
    refine z_iconst (pc := 112) (v := 4) C dX9_doesOne_112 (by decide) ?_
    refine z_iald (pc := 113) C 8 dX9_doesOne_113 rfl (ix_c (k := 4) rfl (by decide) (by decide)) ?_
    refine z_aload_n (pc := 114) C 1 dX9_doesOne_114 rfl ?_
    refine z_get (pc := 115) C 0 11 dX9_doesOne_115 rfl rfl i_X9 (by decide) q_840 rfl ?_
    refine z_iconst (pc := 118) (v := 5) C dX9_doesOne_118 (by decide) ?_
    refine z_iald (pc := 119) C 8 dX9_doesOne_119 rfl (ix_c (k := 5) rfl (by decide) (by decide)) ?_
    refine z_aload_n (pc := 120) C 1 dX9_doesOne_120 rfl ?_
    refine z_get (pc := 121) C 0 11 dX9_doesOne_121 rfl rfl i_X9 (by decide) q_840 rfl ?_
    refine z_bipush (pc := 124) (v := 6) C dX9_doesOne_124 (by decide) ?_
    refine z_iald (pc := 126) C 8 dX9_doesOne_126 rfl (ix_c (k := 6) rfl (by decide) (by decide)) ?_
    refine z_aload_n (pc := 127) C 1 dX9_doesOne_127 rfl ?_
    refine z_get (pc := 128) C 0 11 dX9_doesOne_128 rfl rfl i_X9 (by decide) q_840 rfl ?_
    refine z_bipush (pc := 131) (v := 7) C dX9_doesOne_131 (by decide) ?_
    refine z_iald (pc := 133) C 8 dX9_doesOne_133 rfl (ix_c (k := 7) rfl (by decide) (by decide)) ?_
    refine z_aload_n (pc := 134) C 1 dX9_doesOne_134 rfl ?_
    refine z_get (pc := 135) C 0 11 dX9_doesOne_135 rfl rfl i_X9 (by decide) q_840 rfl ?_
    refine z_bipush (pc := 138) (v := 8) C dX9_doesOne_138 (by decide) ?_
    refine z_iald (pc := 140) C 8 dX9_doesOne_140 rfl (ix_c (k := 8) rfl (by decide) (by decide)) ?_
    refine z_callV (pc := 141) C (c_X9_moves (by exact (hd.1 c_8_109).1) (by exact (hd.1 c_8_109).2.2.2) (by exact hm) (by exact (hd.1 c_8_109).2.1) (by exact (hd.1 c_8_109).2.2.1)) [0, 1, 2, 3, 4, 5, 6, 7, 8] z00 mV_X9_moves q_958 dX9_doesOne_141 rfl rfl rfl 0 rfl rfl rfl rfl (Nat.le_of_ble_eq_true rfl) (by decide) (pI.go (ws' := wMd G da dn dp dr ds dl dc dt dg _ past states refused _ pile came pileL text textL place nargs) rfl ?_)
    exact z_iret (pc := 144) C E dX9_doesOne_144 (pI.mk (by simp only [f_X9_doesOne, if_neg c_8_99, if_neg c_8_102, if_neg c_8_108, if_pos c_8_109]) (by simp only [g_X9_doesOne_now, g_X9_doesOne_aside, g_X9_doesOne_pile, g_X9_doesOne_came, g_X9_doesOne_pileL, if_neg c_8_99, if_neg c_8_102, if_neg c_8_108, if_pos c_8_109]))
  by_cases c_8_111 : c = 111
  · skip
    refine z_tableIn (pc := 8) 288 C dX9_doesOne_8 (by rw [c_8_111]; decide) (by rw [c_8_111]; decide) (by rw [c_8_111]; rfl) (by decide) ?_
    refine z_aload_n (pc := 288) C 1 dX9_doesOne_288 rfl ?_
    refine z_iload_n (pc := 289) C 0 dX9_doesOne_289 rfl ?_
    refine z_aload_n (pc := 290) C 1 dX9_doesOne_290 rfl ?_
    refine z_get (pc := 291) C 0 11 dX9_doesOne_291 rfl rfl i_X9 (by decide) q_840 rfl ?_
    refine z_iconst (pc := 294) (v := 1) C dX9_doesOne_294 (by decide) ?_
    refine z_iald (pc := 295) C 8 dX9_doesOne_295 rfl (ix_c (k := 1) rfl (by decide) (by decide)) ?_
    refine z_aload_n (pc := 296) C 1 dX9_doesOne_296 rfl ?_
    refine z_get (pc := 297) C 0 11 dX9_doesOne_297 rfl rfl i_X9 (by decide) q_840 rfl ?_
    refine z_iconst (pc := 300) (v := 2) C dX9_doesOne_300 (by decide) ?_
    refine z_iald (pc := 301) C 8 dX9_doesOne_301 rfl (ix_c (k := 2) rfl (by decide) (by decide)) ?_
    refine z_aload_n (pc := 302) C 1 dX9_doesOne_302 rfl ?_
    refine z_get (pc := 303) C 0 11 dX9_doesOne_303 rfl rfl i_X9 (by decide) q_840 rfl ?_
    refine z_iconst (pc := 306) (v := 3) C dX9_doesOne_306 (by decide) ?_
    refine z_iald (pc := 307) C 8 dX9_doesOne_307 rfl (ix_c (k := 3) rfl (by decide) (by decide)) ?_
    refine z_callV (pc := 308) C (c_X9_opens (by exact hm) (by exact (hd.2.2.2.2.2 c_8_111))) [0, 1, 2, 3, 4, 5, 6, 7, 8] z00 mV_X9_opens q_939 dX9_doesOne_308 rfl rfl rfl 0 rfl rfl rfl rfl (Nat.le_of_ble_eq_true rfl) (by decide) (pV.go (ws' := wMd G da dn dp dr ds dl dc dt dg _ past states refused aside pile came pileL text textL place nargs) rfl ?_)
    refine z_iconst (pc := 311) (v := 0) C dX9_doesOne_311 (by decide) ?_
    exact z_iret (pc := 312) C E dX9_doesOne_312 (pI.mk (by simp only [f_X9_doesOne, if_neg c_8_99, if_neg c_8_102, if_neg c_8_108, if_neg c_8_109, if_pos c_8_111]) (by simp only [g_X9_doesOne_now, g_X9_doesOne_aside, g_X9_doesOne_pile, g_X9_doesOne_came, g_X9_doesOne_pileL, if_neg c_8_99, if_neg c_8_102, if_neg c_8_108, if_neg c_8_109, if_pos c_8_111]))
  by_cases c_8_114 : c = 114
  · skip
    refine z_tableIn (pc := 8) 222 C dX9_doesOne_8 (by rw [c_8_114]; decide) (by rw [c_8_114]; decide) (by rw [c_8_114]; rfl) (by decide) ?_
    refine z_aload_n (pc := 222) C 1 dX9_doesOne_222 rfl ?_
    refine z_iload_n (pc := 223) C 0 dX9_doesOne_223 rfl ?_
    refine z_aload_n (pc := 224) C 1 dX9_doesOne_224 rfl ?_
    refine z_get (pc := 225) C 0 11 dX9_doesOne_225 rfl rfl i_X9 (by decide) q_840 rfl ?_
    refine z_iconst (pc := 228) (v := 1) C dX9_doesOne_228 (by decide) ?_
    refine z_iald (pc := 229) C 8 dX9_doesOne_229 rfl (ix_c (k := 1) rfl (by decide) (by decide)) ?_
    refine z_aload_n (pc := 230) C 1 dX9_doesOne_230 rfl ?_
    refine z_get (pc := 231) C 0 11 dX9_doesOne_231 rfl rfl i_X9 (by decide) q_840 rfl ?_
    refine z_iconst (pc := 234) (v := 2) C dX9_doesOne_234 (by decide) ?_
    refine z_iald (pc := 235) C 8 dX9_doesOne_235 rfl (ix_c (k := 2) rfl (by decide) (by decide)) ?_
    refine z_aload_n (pc := 236) C 1 dX9_doesOne_236 rfl ?_
    refine z_get (pc := 237) C 0 11 dX9_doesOne_237 rfl rfl i_X9 (by decide) q_840 rfl ?_
    refine z_iconst (pc := 240) (v := 3) C dX9_doesOne_240 (by decide) ?_
    refine z_iald (pc := 241) C 8 dX9_doesOne_241 rfl (ix_c (k := 3) rfl (by decide) (by decide)) ?_
    refine z_aload_n (pc := 242) C 1 dX9_doesOne_242 rfl ?_
    refine z_get (pc := 243) C 0 11 dX9_doesOne_243 rfl rfl i_X9 (by decide) q_840 rfl ?_
    refine z_iconst (pc := 246) (v := 4) C dX9_doesOne_246 (by decide) ?_
    refine z_iald (pc := 247) C 8 dX9_doesOne_247 rfl (ix_c (k := 4) rfl (by decide) (by decide)) ?_
    refine z_aload_n (pc := 248) C 1 dX9_doesOne_248 rfl ?_
    refine z_get (pc := 249) C 0 11 dX9_doesOne_249 rfl rfl i_X9 (by decide) q_840 rfl ?_
    refine z_iconst (pc := 252) (v := 5) C dX9_doesOne_252 (by decide) ?_
    refine z_iald (pc := 253) C 8 dX9_doesOne_253 rfl (ix_c (k := 5) rfl (by decide) (by decide)) ?_
    refine z_callV (pc := 254) C (c_X9_rectangles (by exact (hd.2.2.2.1 c_8_114).1) (by exact hm) (by exact (hd.2.2.2.1 c_8_114).2.1) (by exact (hd.2.2.2.1 c_8_114).2.2)) [0, 1, 2, 3, 4, 5, 6, 7, 8] z00 mV_X9_rectangles q_1028 dX9_doesOne_254 rfl rfl rfl 0 rfl rfl rfl rfl (Nat.le_of_ble_eq_true rfl) (by decide) (pI.go (ws' := wMd G da dn dp dr ds dl dc dt dg _ past states refused aside pile came pileL text textL place nargs) rfl ?_)
    exact z_iret (pc := 257) C E dX9_doesOne_257 (pI.mk (by simp only [f_X9_doesOne, if_neg c_8_99, if_neg c_8_102, if_neg c_8_108, if_neg c_8_109, if_neg c_8_111, if_pos c_8_114]) (by simp only [g_X9_doesOne_now, g_X9_doesOne_aside, g_X9_doesOne_pile, g_X9_doesOne_came, g_X9_doesOne_pileL, if_neg c_8_99, if_neg c_8_102, if_neg c_8_108, if_neg c_8_109, if_neg c_8_111, if_pos c_8_114]))
  refine z_tableD (pc := 8) 313 C dX9_doesOne_8 [99, 102, 108, 109, 111, 114] (by decide) (List.forall_mem_cons.mpr ⟨lv_neT c_8_99 rfl, List.forall_mem_cons.mpr ⟨lv_neT c_8_102 rfl, List.forall_mem_cons.mpr ⟨lv_neT c_8_108 rfl, List.forall_mem_cons.mpr ⟨lv_neT c_8_109 rfl, List.forall_mem_cons.mpr ⟨lv_neT c_8_111 rfl, List.forall_mem_cons.mpr ⟨lv_neT c_8_114 rfl, fun _ h => absurd h List.not_mem_nil⟩⟩⟩⟩⟩⟩) (by decide) ?_
  refine z_iconst (pc := 313) (v := 0) C dX9_doesOne_313 (by decide) ?_
  refine z_aload_n (pc := 314) C 1 dX9_doesOne_314 rfl ?_
  refine z_callV (pc := 315) C (c_X9_shuts) [0, 1, 2, 3, 4, 5, 6, 7, 8] z00 mV_X9_shuts q_947 dX9_doesOne_315 rfl rfl rfl 0 rfl rfl rfl rfl (Nat.le_of_ble_eq_true rfl) (by decide) (pI.go (ws' := wMd G da dn dp dr ds dl dc dt dg _ past states refused aside pile came pileL text textL place nargs) rfl ?_)
  refine z_imul (pc := 318) C dX9_doesOne_318 ?_
  exact z_iret (pc := 319) C E dX9_doesOne_319 (pI.mk (by simp only [f_X9_doesOne, if_neg c_8_99, if_neg c_8_102, if_neg c_8_108, if_neg c_8_109, if_neg c_8_111, if_neg c_8_114]) (by simp only [g_X9_doesOne_now, g_X9_doesOne_aside, g_X9_doesOne_pile, g_X9_doesOne_came, g_X9_doesOne_pileL, if_neg c_8_99, if_neg c_8_102, if_neg c_8_108, if_neg c_8_109, if_neg c_8_111, if_neg c_8_114]))
