def sLen (i : Nat) : Int32 := nI (sLn.getD i 0)
def sBt (i : Nat) (k : Int32) : Int32 := (sBy.getD i []).getD k.toNatClampNeg 0
section ZS
variable {X : zX} {G : zG} {nL k n fr lo : Nat} {cc : ByteArray} {own : String} {ret : Option FieldType} {ws : va_W} {pc : Nat} {lv : List (Nat × Value)} {rest st : List Value} {Po : Option Value → va_W → Prop}
theorem z_ldcS {i : Nat} (C : zC X G nL cc RX1 ret fr lo) (hi : i < 7) (hd : decode cc pc = .ok (.ldc (sIx i), 2)) (kk : Z X G nL k n ws (pc + 2) lv (.ref (aK G i) :: rest)) : Z X G nL k n ws pc lv rest := fun H locs ls hP hD hS hl => va_ldcS C.1 C.2.1 C.2.2.2.1 (C.2.2.2.2.2.2.1.2.2.2.1 i hi) hd (kk H locs ls hP hD hS hl)
theorem z_strV {i idx : Nat} (C : zC X G nL cc own ret fr lo) (hi : i < 7) (q : Cond.fieldLink own idx "java/lang/String" "value" "[B" ∈ gW) (hd : decode cc pc = .ok (.getfield idx, 3)) (kk : Z X G nL k n ws (pc + 3) lv (.ref (aV G i) :: rest)) : Z X G nL k n ws pc lv (.ref (aK G i) :: rest) := fun H locs ls hP hD hS hl => vk_getf C.1 C.2.1 (C.2.2.2.2.2.2.1.2.2.1.1 i hi).2.2.1 hS C.2.2.2.1 (C.2.2.2.2.1 _ q) (fun _ h => h) hd (kk H locs ls hP hD hS hl)
theorem z_strC {i idx : Nat} (C : zC X G nL cc own ret fr lo) (hi : i < 7) (q : Cond.fieldLink own idx "java/lang/String" "coder" "B" ∈ gW) (hd : decode cc pc = .ok (.getfield idx, 3)) (kk : Z X G nL k n ws (pc + 3) lv (.int 0 :: rest)) : Z X G nL k n ws pc lv (.ref (aK G i) :: rest) := fun H locs ls hP hD hS hl => vk_getf C.1 C.2.1 (C.2.2.2.2.2.2.1.2.2.1.1 i hi).2.1 hS C.2.2.2.1 (C.2.2.2.2.1 _ q) (fun _ h => h) hd (kk H locs ls hP hD hS hl)
theorem z_strL {i : Nat} (C : zC X G nL cc own ret fr lo) (hi : i < 7) (hd : decode cc pc = .ok (.arraylength, 1)) (kk : Z X G nL k n ws (pc + 1) lv (.int (sLen i) :: rest)) : Z X G nL k n ws pc lv (.ref (aV G i) :: rest) := fun H locs ls hP hD hS hl => va_tlen C.1 C.2.1 (C.2.2.2.2.2.2.1.2.2.1.1 i hi).2.2.2 hS rfl hd (kk H locs ls hP hD hS hl)
theorem z_strB {i : Nat} {j : Int32} (C : zC X G nL cc own ret fr lo) (hi : i < 7) (hd : decode cc pc = .ok (.baload, 1)) (hin : vp_in j (sLn.getD i 0)) (kk : Z X G nL k n ws (pc + 1) lv (.int (sBt i j) :: rest)) : Z X G nL k n ws pc lv (.int j :: .ref (aV G i) :: rest) := fun H locs ls hP hD hS hl => va_tb C.1 C.2.1 (C.2.2.2.2.2.2.1.2.2.1.1 i hi).2.2.2 hS hin rfl hd (kk H locs ls hP hD hS hl)
theorem z_gsC {idx : Nat} (C : zC X G nL cc own ret fr lo) (q : Cond.fieldLink own idx "java/lang/String" "COMPACT_STRINGS" "Z" ∈ gW) (hd : decode cc pc = .ok (.getstatic idx, 3)) (kk : Z X G nL k n ws (pc + 3) lv (.int 1 :: rest)) : Z X G nL k n ws pc lv rest := fun H locs ls hP hD hS hl => va_gets C.1 C.2.1 C.2.2.2.2.2.2.1.2.2.2.2.1 hS C.2.2.2.1 (C.2.2.2.2.1 _ q) (fun _ h => h) hd (kk H locs ls hP hD hS hl)
theorem z_gsF {idx : Nat} (C : zC X G nL cc own ret fr lo) (q : Cond.fieldLink own idx "jdk/internal/util/Preconditions" "SIOOBE_FORMATTER" "Ljava/util/function/BiFunction;" ∈ gW) (hd : decode cc pc = .ok (.getstatic idx, 3)) (kk : ∀ v : Value, v.category = 1 → Z X G nL k n ws (pc + 3) lv (v :: rest)) : Z X G nL k n ws pc lv rest := fun H locs ls hP hD hS hl => by
  rcases C.2.2.2.2.2.2.1.2.2.2.2.2 with h | ⟨t, h⟩
  · exact va_gets C.1 C.2.1 h hS C.2.2.2.1 (C.2.2.2.2.1 _ q) (fun _ h => h) hd (kk _ rfl H locs ls hP hD hS hl)
  · exact va_gets C.1 C.2.1 h hS C.2.2.2.1 (C.2.2.2.2.1 _ q) (fun _ h => h) hd (kk _ rfl H locs ls hP hD hS hl)
/-- a method of a text constant -/
theorem z_callStr {y : MethodName} {cy : ByteArray} {ny fy ly idx m i : Nat} {ry : Option FieldType} {As : List Value} (C : zC X G nL cc own ret fr lo) (hi : i < 7) (hM : Ct (xL X) G y cy ny ry fy ly (.ref (aK G i) :: As) [] Po) (hf : k ≤ (xR X).cells ∧ n ≤ (xR X).slots) (hm : Cond.code y cy ny ry ∈ gW ∧ Cond.instanceMethod y ∈ gW ∧ Cond.selects y.cls y y ∈ gW ∧ Cond.initialized y.cls ∈ gW ∧ zOk y m) (ql : Cond.methodLink own idx y ∈ gW) (hd : decode cc pc = .ok (.invokevirtual idx, 3)) (hst : st = As.reverse ++ .ref (aK G i) :: rest) (hcn : "java/lang/String" = y.cls) (hlen : As.length = m) (hrs : (rest.map fun v => v.category).sum ≤ 8) (hR : fy + 1 ≤ fr ∧ 8 + (ny + 11) + ly ≤ lo)
    (kk : ∀ v w, Po v w → Z X G nL k n (zput ws [] w) (pc + 3) lv (zpush v rest)) : Z X G nL k n ws pc lv st := fun H locs ls hP hD hS hl =>
  z_after (wc := []) (va_runV (As := As) (rest := rest) (C := y.cls) ⟨C.1, C.2.1, C.2.2.1, C.2.2.2.1, C.2.2.2.2.1⟩ (hM.2 H.size) ⟨callB_of m C.2.2.2.2.1 (gW_in hm.1) rfl rfl rfl (C.2.2.2.2.1 _ hm.2.2.2.1) (C.2.2.2.2.1 _ ql) hm.2.2.2.2 ⟨Nat.le_trans hR.1 C.2.2.2.2.2.2.2.2.2.1, Nat.le_trans hR.2 C.2.2.2.2.2.2.2.2.2.2⟩, C.2.2.2.2.1 _ hm.2.1, C.2.2.2.2.1 _ hm.2.2.1⟩ ⟨z_blind, by rw [← hcn]; exact vk_recv C.2.2.2.2.2.2.1.2.2.1 hi hS, fun U hU hW => z_pre C hP hD hS [] rfl rfl U hU hW⟩ rfl hlen hl.1 hst (zroom hrs) hd hf) C.2.2.2.2.2.1 hM.1 hP hD hS hl [] rfl kk
end ZS
theorem lg_3 {a b : Int32} {v : Value} (h : v.category = 1) : (lg_sl [.int a, .int b, v]).length ≤ 3 := by
  cases v <;> simp [lg_sl, Value.category] at h ⊢
set_option maxRecDepth 100000 in
theorem c_J3_checkIndex_8e157 {l : Launch} {G : zG} {a b : Int32} {v : Value} (hv : v.category = 1) (h0 : ¬ a < 0) (h1 : a < b) : Ct l G yJ3_checkIndex_8e157 cJ3_checkIndex_8e157 3 (some .int) 0 0 [.int a, .int b, v] [] (pI a []) := by
  refine Ct.of (plainFor_of_name (by decide)) (lg_3 hv) (pI.ad rfl) (fun X C E => ?_)
  show Z X G 3 0 0 _ 0 [(0, .int a), (1, .int b), (2, v)] []
  refine z_iload_n (pc := 0) C 0 dJ3_checkIndex_8e157_0 rfl ?_
  refine z_if_lt (pc := 1) 9 C dJ3_checkIndex_8e157_1 (by decide) (fun c => absurd c h0) (fun c => ?_)
  refine z_iload_n (pc := 4) C 0 dJ3_checkIndex_8e157_4 rfl ?_
  refine z_iload_n (pc := 5) C 1 dJ3_checkIndex_8e157_5 rfl ?_
  refine z_icmp_lt (pc := 6) 16 C dJ3_checkIndex_8e157_6 (by decide) (fun c => ?_) (fun c => absurd h1 c)
  refine z_iload_n (pc := 16) C 0 dJ3_checkIndex_8e157_16 rfl ?_
  exact z_iret (pc := 17) C E dJ3_checkIndex_8e157_17 (pI.mk rfl rfl)
set_option maxRecDepth 100000 in
theorem c_J0_checkIndex_df160 {l : Launch} {G : zG} {a b : Int32} (h0 : ¬ a < 0) (h1 : a < b) : Ct l G yJ0_checkIndex_df160 cJ0_checkIndex_df160 2 none 1 22 [.int a, .int b] [] (pV []) := by
  refine Ct.of (plainFor_of_name (by decide)) (Nat.le_of_ble_eq_true rfl) (pV.ad rfl) (fun X C E => ?_)
  show Z X G 2 0 0 _ 0 [(0, .int a), (1, .int b)] []
  refine z_iload_n (pc := 0) C 0 dJ0_checkIndex_df160_0 rfl ?_
  refine z_iload_n (pc := 1) C 1 dJ0_checkIndex_df160_1 rfl ?_
  refine z_gsF (pc := 2) C q_427 dJ0_checkIndex_df160_2 (fun v hv => ?_)
  refine z_callS (pc := 5) C (c_J3_checkIndex_8e157 hv h0 h1) [] z00 mS_J3_checkIndex_8e157 q_429 dJ0_checkIndex_df160_5 rfl rfl rfl rfl (Nat.le_of_ble_eq_true rfl) (by decide) (pI.stay rfl ?_)
  refine z_pop (pc := 8) C dJ0_checkIndex_df160_8 rfl ?_
  exact z_vret (pc := 9) C E dJ0_checkIndex_df160_9 (pV.mk rfl)
theorem s_in {i : Nat} {j : Int32} (h : vp_in j (sLn.getD i 0)) : ¬ j < 0 := fun q => h (Or.inl q)
theorem s_lt {i : Nat} (hi : i < 7) {j : Int32} (h : vp_in j (sLn.getD i 0)) : j < sLen i := by
  have hn : sLn.getD i 0 < 10 := by
    have : ∀ i, i < 7 → sLn.getD i 0 < 10 := by decide
    exact this i hi
  obtain ⟨a, b⟩ := vp_in_iff.mp h
  rw [Int32.lt_iff_toInt_lt, sLen, nI_toInt (by omega)]
  exact b
theorem s_chr {i : Nat} (hi : i < 7) {j : Int32} (h : vp_in j (sLn.getD i 0)) : ((sBt i j &&& 255).toUInt32 % 65536).toInt32 = sBt i j := by
  rw [sc_c2]
  have hn : sLn.getD i 0 < 10 := by
    have : ∀ i, i < 7 → sLn.getD i 0 < 10 := by decide
    exact this i hi
  obtain ⟨k, hk, rfl⟩ := vp_in_of h (by omega)
  unfold sBt
  rw [nI_clamp (by omega)]
  have : ∀ i, i < 7 → ∀ k, k < 10 → ((sBy.getD i []).getD k 0) &&& 255 = (sBy.getD i []).getD k 0 := by decide +kernel
  exact this i hi k (by omega)
theorem s_nch {i : Nat} (hi : i < 7) {j : Int32} (h : vp_in j (sLn.getD i 0)) : narrow .char (.int (sBt i j)) = .int (sBt i j) := by
  rw [← s_chr hi h]; exact pk_nc _
theorem s_len0 (i : Nat) : sLen i >>> ((0 : Int32) &&& 31) = sLen i := sb_shr0 _

set_option maxRecDepth 100000 in
theorem c_J0_coder_7d493 {l : Launch} {G : zG} {i : Nat} (hi : i < 7) : Ct l G yJ0_coder_7d493 cJ0_coder_7d493 1 (Option.some FieldType.byte) 0 0 [.ref (aK G i)] ([]) (pI (0) ([])) := by
  refine Ct.of (plainFor_of_name (by decide)) (Nat.le_of_ble_eq_true rfl) (pI.ad rfl) (fun X C E => ?_)
  show Z X G 1 0 0 _ 0 [(0, .ref (aK G i))] []
  refine z_gsC (pc := 0) C q_411 dJ0_coder_7d493_0 ?_
  refine z_if_eq (pc := 3) 13 C dJ0_coder_7d493_3 (by decide) (fun c_3 => ?_) (fun c_3 => ?_)
  · skip
    exact absurd c_3 (by decide)
  · skip
    refine z_aload_n (pc := 6) C 0 dJ0_coder_7d493_6 rfl ?_
    refine z_strC (pc := 7) (i := i) C (by first | assumption | exact kind7 _) q_1178 dJ0_coder_7d493_7 ?_
    refine z_goto (pc := 10) 14 C dJ0_coder_7d493_10 (by decide) ?_
    exact z_zret (pc := 14) C E dJ0_coder_7d493_14 (rfl) (pI.mk rfl rfl)

set_option maxRecDepth 100000 in
theorem c_J0_isLatin1_aae02 {l : Launch} {G : zG} {i : Nat} (hi : i < 7) : Ct l G yJ0_isLatin1_aae02 cJ0_isLatin1_aae02 1 (Option.some FieldType.boolean) 0 0 [.ref (aK G i)] ([]) (pI (1) ([])) := by
  refine Ct.of (plainFor_of_name (by decide)) (Nat.le_of_ble_eq_true rfl) (pI.ad rfl) (fun X C E => ?_)
  show Z X G 1 0 0 _ 0 [(0, .ref (aK G i))] []
  refine z_gsC (pc := 0) C q_411 dJ0_isLatin1_aae02_0 ?_
  refine z_if_eq (pc := 3) 17 C dJ0_isLatin1_aae02_3 (by decide) (fun c_3 => ?_) (fun c_3 => ?_)
  · skip
    exact absurd c_3 (by decide)
  · skip
    refine z_aload_n (pc := 6) C 0 dJ0_isLatin1_aae02_6 rfl ?_
    refine z_strC (pc := 7) (i := i) C (by first | assumption | exact kind7 _) q_1178 dJ0_isLatin1_aae02_7 ?_
    refine z_if_ne (pc := 10) 17 C dJ0_isLatin1_aae02_10 (by decide) (fun c_10 => ?_) (fun c_10 => ?_)
    · skip
      exact absurd (by decide) c_10
    · skip
      refine z_iconst (pc := 13) (v := 1) C dJ0_isLatin1_aae02_13 (by decide) ?_
      refine z_goto (pc := 14) 18 C dJ0_isLatin1_aae02_14 (by decide) ?_
      exact z_zret (pc := 18) C E dJ0_isLatin1_aae02_18 (rfl) (pI.mk rfl rfl)

set_option maxRecDepth 100000 in
theorem c_J0_length_8abf5 {l : Launch} {G : zG} {i : Nat} (hi : i < 7) : Ct l G yJ0_length_8abf5 cJ0_length_8abf5 1 (Option.some FieldType.int) 1 20 [.ref (aK G i)] ([]) (pI (sLen i) ([])) := by
  refine Ct.of (plainFor_of_name (by decide)) (Nat.le_of_ble_eq_true rfl) (pI.ad rfl) (fun X C E => ?_)
  show Z X G 1 0 0 _ 0 [(0, .ref (aK G i))] []
  refine z_aload_n (pc := 0) C 0 dJ0_length_8abf5_0 rfl ?_
  refine z_strV (pc := 1) (i := i) C (by first | assumption | exact kind7 _) q_1177 dJ0_length_8abf5_1 ?_
  refine z_strL (pc := 4) (i := i) C (by first | assumption | exact kind7 _) dJ0_length_8abf5_4 ?_
  refine z_aload_n (pc := 5) C 0 dJ0_length_8abf5_5 rfl ?_
  refine z_callStr (pc := 6) (i := i) C (by first | assumption | exact kind7 _) (c_J0_coder_7d493 (by assumption)) z00 mV_J0_coder_7d493 q_407 dJ0_length_8abf5_6 rfl rfl rfl (Nat.le_of_ble_eq_true rfl) (by decide) (pI.stay rfl ?_)
  refine z_ishr (pc := 9) C dJ0_length_8abf5_9 ?_
  exact z_iret (pc := 10) C E dJ0_length_8abf5_10 (pI.mk (s_len0 _) rfl)

def f_J0_isEmpty_aae02 (i : Nat) : Int32 := if (sLen i) = 0 then 1 else 0
set_option maxRecDepth 100000 in
theorem c_J0_isEmpty_aae02 {l : Launch} {G : zG} {i : Nat} (hi : i < 7) : Ct l G yJ0_isEmpty_aae02 cJ0_isEmpty_aae02 1 (Option.some FieldType.boolean) 0 0 [.ref (aK G i)] ([]) (pI (f_J0_isEmpty_aae02 i) ([])) := by
  refine Ct.of (plainFor_of_name (by decide)) (Nat.le_of_ble_eq_true rfl) (pI.ad rfl) (fun X C E => ?_)
  show Z X G 1 0 0 _ 0 [(0, .ref (aK G i))] []
  refine z_aload_n (pc := 0) C 0 dJ0_isEmpty_aae02_0 rfl ?_
  refine z_strV (pc := 1) (i := i) C (by first | assumption | exact kind7 _) q_1177 dJ0_isEmpty_aae02_1 ?_
  refine z_strL (pc := 4) (i := i) C (by first | assumption | exact kind7 _) dJ0_isEmpty_aae02_4 ?_
  refine z_if_ne (pc := 5) 12 C dJ0_isEmpty_aae02_5 (by decide) (fun c_5 => ?_) (fun c_5 => ?_)
  · skip
    refine z_iconst (pc := 12) (v := 0) C dJ0_isEmpty_aae02_12 (by decide) ?_
    exact z_zret (pc := 13) C E dJ0_isEmpty_aae02_13 (by first | rfl | assumption) (pI.mk (by simp only [f_J0_isEmpty_aae02, if_neg c_5]) rfl)
  · skip
    refine z_iconst (pc := 8) (v := 1) C dJ0_isEmpty_aae02_8 (by decide) ?_
    refine z_goto (pc := 9) 13 C dJ0_isEmpty_aae02_9 (by decide) ?_
    exact z_zret (pc := 13) C E dJ0_isEmpty_aae02_13 (by first | rfl | assumption) (pI.mk (by simp only [f_J0_isEmpty_aae02, if_pos c_5]) rfl)
theorem nb_J0_isEmpty_aae02 {i : Nat} : narrow .boolean (.int (f_J0_isEmpty_aae02 i)) = .int (f_J0_isEmpty_aae02 i) := by unfold f_J0_isEmpty_aae02; (repeat' split) <;> first | rfl

set_option maxRecDepth 100000 in
theorem c_J1_charAt_3b067 {l : Launch} {G : zG} {k : Int32} {i : Nat} (hi : i < 7) (hk : vp_in k (sLn.getD i 0)) : Ct l G yJ1_charAt_3b067 cJ1_charAt_3b067 2 (Option.some FieldType.char) 2 43 [.ref (aV G i), .int k] ([]) (pI (sBt i k) ([])) := by
  refine Ct.of (plainFor_of_name (by decide)) (Nat.le_of_ble_eq_true rfl) (pI.ad rfl) (fun X C E => ?_)
  show Z X G 2 0 0 _ 0 [(0, .ref (aV G i)), (1, .int k)] []
  refine z_iload_n (pc := 0) C 1 dJ1_charAt_3b067_0 rfl ?_
  refine z_aload_n (pc := 1) C 0 dJ1_charAt_3b067_1 rfl ?_
  refine z_strL (pc := 2) (i := i) C (by first | assumption | exact kind7 _) dJ1_charAt_3b067_2 ?_
  refine z_callS (pc := 3) C (c_J0_checkIndex_df160 (by exact (s_in hk)) (by exact (s_lt hi hk))) [] z00 mS_J0_checkIndex_df160 q_424 dJ1_charAt_3b067_3 rfl rfl rfl rfl (Nat.le_of_ble_eq_true rfl) (by decide) (pV.stay rfl ?_)
  refine z_aload_n (pc := 6) C 0 dJ1_charAt_3b067_6 rfl ?_
  refine z_iload_n (pc := 7) C 1 dJ1_charAt_3b067_7 rfl ?_
  refine z_strB (pc := 8) (i := i) C (by first | assumption | exact kind7 _) dJ1_charAt_3b067_8 (hk) ?_
  refine z_sipush (pc := 9) (v := 255) C dJ1_charAt_3b067_9 (by decide) ?_
  refine z_iand (pc := 12) C dJ1_charAt_3b067_12 ?_
  refine z_i2c (pc := 13) C dJ1_charAt_3b067_13 ?_
  exact z_zret (pc := 14) C E dJ1_charAt_3b067_14 (by rw [s_chr hi hk]; exact s_nch hi hk) (pI.mk (s_chr hi hk) rfl)

set_option maxRecDepth 100000 in
theorem c_J0_charAt_5068e {l : Launch} {G : zG} {k : Int32} {i : Nat} (hi : i < 7) (hk : vp_in k (sLn.getD i 0)) : Ct l G yJ0_charAt_5068e cJ0_charAt_5068e 2 (Option.some FieldType.char) 3 64 [.ref (aK G i), .int k] ([]) (pI (sBt i k) ([])) := by
  refine Ct.of (plainFor_of_name (by decide)) (Nat.le_of_ble_eq_true rfl) (pI.ad rfl) (fun X C E => ?_)
  show Z X G 2 0 0 _ 0 [(0, .ref (aK G i)), (1, .int k)] []
  refine z_aload_n (pc := 0) C 0 dJ0_charAt_5068e_0 rfl ?_
  refine z_callStr (pc := 1) (i := i) C (by first | assumption | exact kind7 _) (c_J0_isLatin1_aae02 (by assumption)) z00 mV_J0_isLatin1_aae02 q_417 dJ0_charAt_5068e_1 rfl rfl rfl (Nat.le_of_ble_eq_true rfl) (by decide) (pI.stay rfl ?_)
  refine z_if_eq (pc := 4) 16 C dJ0_charAt_5068e_4 (by decide) (fun c_4 => ?_) (fun c_4 => ?_)
  · skip
    exact absurd c_4 (by decide)
  · skip
    refine z_aload_n (pc := 7) C 0 dJ0_charAt_5068e_7 rfl ?_
    refine z_strV (pc := 8) (i := i) C (by first | assumption | exact kind7 _) q_1177 dJ0_charAt_5068e_8 ?_
    refine z_iload_n (pc := 11) C 1 dJ0_charAt_5068e_11 rfl ?_
    refine z_callS (pc := 12) C (c_J1_charAt_3b067 (by assumption) (by assumption)) [] z00 mS_J1_charAt_3b067 q_421 dJ0_charAt_5068e_12 rfl rfl rfl rfl (Nat.le_of_ble_eq_true rfl) (by decide) (pI.stay rfl ?_)
    exact z_zret (pc := 15) C E dJ0_charAt_5068e_15 (s_nch hi hk) (pI.mk rfl rfl)

def f_X1_kindsOf (sign : Int32) : Nat := if sign = 99 then 5 else if sign = 102 then 3 else if sign = 108 then 2 else if sign = 109 then 1 else if sign = 111 then 6 else if sign = 114 then 4 else 0
set_option maxRecDepth 100000 in
theorem c_X1_kindsOf {l : Launch} {G : zG} {sign : Int32} : Ct l G yX1_kindsOf cX1_kindsOf 1 (Option.some (FieldType.object "java/lang/String")) 0 0 [.int sign] ([]) (pR (aK G (f_X1_kindsOf sign)) ([])) := by
  refine Ct.of (plainFor_of_name (by decide)) (Nat.le_of_ble_eq_true rfl) (pR.ad rfl) (fun X C E => ?_)
  show Z X G 1 0 0 _ 0 [(0, .int sign)] []
  refine z_iload_n (pc := 0) C 0 dX1_kindsOf_0 rfl ?_
  by_cases c_1_99 : sign = 99
  · skip
    refine z_tableIn (pc := 1) 92 C dX1_kindsOf_1 (by rw [c_1_99]; decide) (by rw [c_1_99]; decide) (by rw [c_1_99]; rfl) (by decide) ?_
    refine z_ldcS (pc := 92) (i := 5) C (by decide) dX1_kindsOf_92 ?_
    exact z_aret (pc := 94) C E dX1_kindsOf_94 (Or.inl ⟨_, rfl⟩) (pR.mk (congrArg (aK G) (by simp only [f_X1_kindsOf, if_pos c_1_99])) rfl)
  by_cases c_1_102 : sign = 102
  · skip
    refine z_tableIn (pc := 1) 86 C dX1_kindsOf_1 (by rw [c_1_102]; decide) (by rw [c_1_102]; decide) (by rw [c_1_102]; rfl) (by decide) ?_
    refine z_ldcS (pc := 86) (i := 3) C (by decide) dX1_kindsOf_86 ?_
    exact z_aret (pc := 88) C E dX1_kindsOf_88 (Or.inl ⟨_, rfl⟩) (pR.mk (congrArg (aK G) (by simp only [f_X1_kindsOf, if_neg c_1_99, if_pos c_1_102])) rfl)
  by_cases c_1_108 : sign = 108
  · skip
    refine z_tableIn (pc := 1) 83 C dX1_kindsOf_1 (by rw [c_1_108]; decide) (by rw [c_1_108]; decide) (by rw [c_1_108]; rfl) (by decide) ?_
    refine z_ldcS (pc := 83) (i := 2) C (by decide) dX1_kindsOf_83 ?_
    exact z_aret (pc := 85) C E dX1_kindsOf_85 (Or.inl ⟨_, rfl⟩) (pR.mk (congrArg (aK G) (by simp only [f_X1_kindsOf, if_neg c_1_99, if_neg c_1_102, if_pos c_1_108])) rfl)
  by_cases c_1_109 : sign = 109
  · skip
    refine z_tableIn (pc := 1) 80 C dX1_kindsOf_1 (by rw [c_1_109]; decide) (by rw [c_1_109]; decide) (by rw [c_1_109]; rfl) (by decide) ?_
    refine z_ldcS (pc := 80) (i := 1) C (by decide) dX1_kindsOf_80 ?_
    exact z_aret (pc := 82) C E dX1_kindsOf_82 (Or.inl ⟨_, rfl⟩) (pR.mk (congrArg (aK G) (by simp only [f_X1_kindsOf, if_neg c_1_99, if_neg c_1_102, if_neg c_1_108, if_pos c_1_109])) rfl)
  by_cases c_1_111 : sign = 111
  · skip
    refine z_tableIn (pc := 1) 95 C dX1_kindsOf_1 (by rw [c_1_111]; decide) (by rw [c_1_111]; decide) (by rw [c_1_111]; rfl) (by decide) ?_
    refine z_ldcS (pc := 95) (i := 6) C (by decide) dX1_kindsOf_95 ?_
    exact z_aret (pc := 97) C E dX1_kindsOf_97 (Or.inl ⟨_, rfl⟩) (pR.mk (congrArg (aK G) (by simp only [f_X1_kindsOf, if_neg c_1_99, if_neg c_1_102, if_neg c_1_108, if_neg c_1_109, if_pos c_1_111])) rfl)
  by_cases c_1_114 : sign = 114
  · skip
    refine z_tableIn (pc := 1) 89 C dX1_kindsOf_1 (by rw [c_1_114]; decide) (by rw [c_1_114]; decide) (by rw [c_1_114]; rfl) (by decide) ?_
    refine z_ldcS (pc := 89) (i := 4) C (by decide) dX1_kindsOf_89 ?_
    exact z_aret (pc := 91) C E dX1_kindsOf_91 (Or.inl ⟨_, rfl⟩) (pR.mk (congrArg (aK G) (by simp only [f_X1_kindsOf, if_neg c_1_99, if_neg c_1_102, if_neg c_1_108, if_neg c_1_109, if_neg c_1_111, if_pos c_1_114])) rfl)
  refine z_tableD (pc := 1) 98 C dX1_kindsOf_1 [99, 102, 108, 109, 111, 114] (by decide) (List.forall_mem_cons.mpr ⟨lv_neT c_1_99 rfl, List.forall_mem_cons.mpr ⟨lv_neT c_1_102 rfl, List.forall_mem_cons.mpr ⟨lv_neT c_1_108 rfl, List.forall_mem_cons.mpr ⟨lv_neT c_1_109 rfl, List.forall_mem_cons.mpr ⟨lv_neT c_1_111 rfl, List.forall_mem_cons.mpr ⟨lv_neT c_1_114 rfl, fun _ h => absurd h List.not_mem_nil⟩⟩⟩⟩⟩⟩) (by decide) ?_
  refine z_ldcS (pc := 98) (i := 0) C (by decide) dX1_kindsOf_98 ?_
  exact z_aret (pc := 100) C E dX1_kindsOf_100 (Or.inl ⟨_, rfl⟩) (pR.mk (congrArg (aK G) (by simp only [f_X1_kindsOf, if_neg c_1_99, if_neg c_1_102, if_neg c_1_108, if_neg c_1_109, if_neg c_1_111, if_neg c_1_114])) rfl)

def f_X1_isOfKind (number : Int32) (kind : Int32) : Int32 := if kind = 110 then f_X8_isWithin number 0 15 else if kind = 112 then f_X8_isPicture number else if kind = 119 then f_X8_isSize number else if kind = 120 then f_X8_isPlace number else f_X8_isWithin number 0 255
set_option maxRecDepth 100000 in
theorem c_X1_isOfKind {l : Launch} {G : zG} {number : Int32} {kind : Int32} : Ct l G yX1_isOfKind cX1_isOfKind 2 (Option.some FieldType.boolean) 2 42 [.int number, .int kind] ([]) (pI (f_X1_isOfKind number kind) ([])) := by
  refine Ct.of (plainFor_of_name (by decide)) (Nat.le_of_ble_eq_true rfl) (pI.ad rfl) (fun X C E => ?_)
  show Z X G 2 0 0 _ 0 [(0, .int number), (1, .int kind)] []
  refine z_iload_n (pc := 0) C 1 dX1_isOfKind_0 rfl ?_
  by_cases c_1_110 : kind = 110
  · skip
    refine z_lookup (pc := 1) (off := 58) 59 C dX1_isOfKind_1 (by decide) (by rw [c_1_110] <;> rfl) (by decide) ?_
    refine z_iload_n (pc := 59) C 0 dX1_isOfKind_59 rfl ?_
    refine z_iconst (pc := 60) (v := 0) C dX1_isOfKind_60 (by decide) ?_
    refine z_bipush (pc := 61) (v := 15) C dX1_isOfKind_61 (by decide) ?_
    refine z_callSN (pc := 63) C (c_X8_isWithin) [] z00 mS_X8_isWithin q_461 dX1_isOfKind_63 rfl rfl rfl rfl (Nat.le_of_ble_eq_true rfl) (by decide) (pI.stay rfl ?_)
    exact z_zret (pc := 66) C E dX1_isOfKind_66 (nb_X8_isWithin) (pI.mk (by simp only [f_X1_isOfKind, if_pos c_1_110]) rfl)
  by_cases c_1_112 : kind = 112
  · skip
    refine z_lookup (pc := 1) (off := 43) 44 C dX1_isOfKind_1 (by decide) (by rw [c_1_112] <;> rfl) (by decide) ?_
    refine z_iload_n (pc := 44) C 0 dX1_isOfKind_44 rfl ?_
    refine z_callSN (pc := 45) C (c_X8_isPicture) [] z00 mS_X8_isPicture q_454 dX1_isOfKind_45 rfl rfl rfl rfl (Nat.le_of_ble_eq_true rfl) (by decide) (pI.stay rfl ?_)
    exact z_zret (pc := 48) C E dX1_isOfKind_48 (nb_X8_isPicture) (pI.mk (by simp only [f_X1_isOfKind, if_neg c_1_110, if_pos c_1_112]) rfl)
  by_cases c_1_119 : kind = 119
  · skip
    refine z_lookup (pc := 1) (off := 53) 54 C dX1_isOfKind_1 (by decide) (by rw [c_1_119] <;> rfl) (by decide) ?_
    refine z_iload_n (pc := 54) C 0 dX1_isOfKind_54 rfl ?_
    refine z_callSN (pc := 55) C (c_X8_isSize) [] z00 mS_X8_isSize q_458 dX1_isOfKind_55 rfl rfl rfl rfl (Nat.le_of_ble_eq_true rfl) (by decide) (pI.stay rfl ?_)
    exact z_zret (pc := 58) C E dX1_isOfKind_58 (nb_X8_isSize) (pI.mk (by simp only [f_X1_isOfKind, if_neg c_1_110, if_neg c_1_112, if_pos c_1_119]) rfl)
  by_cases c_1_120 : kind = 120
  · skip
    refine z_lookup (pc := 1) (off := 48) 49 C dX1_isOfKind_1 (by decide) (by rw [c_1_120] <;> rfl) (by decide) ?_
    refine z_iload_n (pc := 49) C 0 dX1_isOfKind_49 rfl ?_
    refine z_callSN (pc := 50) C (c_X8_isPlace) [] z00 mS_X8_isPlace q_455 dX1_isOfKind_50 rfl rfl rfl rfl (Nat.le_of_ble_eq_true rfl) (by decide) (pI.stay rfl ?_)
    exact z_zret (pc := 53) C E dX1_isOfKind_53 (nb_X8_isPlace) (pI.mk (by simp only [f_X1_isOfKind, if_neg c_1_110, if_neg c_1_112, if_neg c_1_119, if_pos c_1_120]) rfl)
  refine z_lookup (pc := 1) (off := 66) 67 C dX1_isOfKind_1 (by decide) (by refine (lv_osw c_1_110 rfl).trans ?_; refine (lv_osw c_1_112 rfl).trans ?_; refine (lv_osw c_1_119 rfl).trans ?_; refine (lv_osw c_1_120 rfl).trans ?_; rfl) (by decide) ?_
  refine z_iload_n (pc := 67) C 0 dX1_isOfKind_67 rfl ?_
  refine z_iconst (pc := 68) (v := 0) C dX1_isOfKind_68 (by decide) ?_
  refine z_sipush (pc := 69) (v := 255) C dX1_isOfKind_69 (by decide) ?_
  refine z_callSN (pc := 72) C (c_X8_isWithin) [] z00 mS_X8_isWithin q_461 dX1_isOfKind_72 rfl rfl rfl rfl (Nat.le_of_ble_eq_true rfl) (by decide) (pI.stay rfl ?_)
  exact z_zret (pc := 75) C E dX1_isOfKind_75 (nb_X8_isWithin) (pI.mk (by simp only [f_X1_isOfKind, if_neg c_1_110, if_neg c_1_112, if_neg c_1_119, if_neg c_1_120]) rfl)
theorem nb_X1_isOfKind {number : Int32} {kind : Int32} : narrow .boolean (.int (f_X1_isOfKind number kind)) = .int (f_X1_isOfKind number kind) := by unfold f_X1_isOfKind; (repeat' split) <;> first | exact nb_X8_isWithin | exact nb_X8_isPicture | exact nb_X8_isSize | exact nb_X8_isPlace | rfl
