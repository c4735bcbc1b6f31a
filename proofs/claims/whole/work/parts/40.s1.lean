theorem dotAt_e {rows pat ops now : Nat → Int32} {cnt t x y : Int32} (h : Rs rows pat ops cnt now) (hT : pT t) : f_X6_dotAt rows t x y = f_X9_dotOf now t x y := by
  unfold f_X6_dotAt
  rw [inP_eq]
  by_cases q : (0 ≤ x.toInt ∧ x.toInt ≤ 31) ∧ pY y
  · rw [isIn_i q.1 q.2, i10, dotOf_e hT q.1 q.2, rowAt_e hT q.2, h.1 _ (rN_lt hT q.2)]
    cases hd : Dx (now (rN t y)) x.toInt
    · rw [if_pos ((and_mask q.1).mpr hd)]; rfl
    · rw [if_neg (fun z => by rw [(and_mask q.1).mp z] at hd; cases hd)]; rfl
  · rw [isIn_z q, i00, dotOf_z q]
theorem isOpen_e {rows pat ops now : Nat → Int32} {cnt x y : Int32} (h : Rs rows pat ops cnt now) (hx : 0 ≤ x.toInt ∧ x.toInt ≤ 31) (hy : pY y) : f_X6_isOpen ops cnt x y = f_X9_isOpen now x y := by
  obtain ⟨y1, y2⟩ := hy
  unfold f_X6_isOpen
  rw [inP_eq, isIn_i hx ⟨y1, y2⟩, i10, open_eq h hx (by omega)]
  cases hd : Dx (f_X6_openAt ops cnt y) x.toInt
  · rw [if_pos ((and_mask hx).mpr hd)]; rfl
  · rw [if_neg (fun z => by rw [(and_mask hx).mp z] at hd; cases hd)]; rfl
theorem dotOf01 {now : Nat → Int32} {t x y : Int32} (hT : pT t) : ∃ b : Bool, f_X9_dotOf now t x y = if b then 1 else 0 := by
  by_cases q : (0 ≤ x.toInt ∧ x.toInt ≤ 31) ∧ pY y
  · exact ⟨_, dotOf_e hT q.1 q.2⟩
  · exact ⟨false, dotOf_z q⟩

theorem byte_all : ∀ n, n < 128 → (nI n).toInt8.toInt32 = nI n := by decide +kernel
theorem byte_id {c : Int32} (h0 : 0 ≤ c.toInt) (h1 : c.toInt ≤ 127) : c.toInt8.toInt32 = c := by
  have e : c = nI c.toInt.toNat := Dn_of (by omega) (by omega)
  rw [e]
  exact byte_all _ (by omega)

theorem sim_at {rows : Nat → Int32} {pat : Nat → Int32} {ops : Nat → Int32} {cnt : Int32} {krows : Nat → Nat → Int32} {kpat : Nat → Nat → Int32} {kops : Nat → Nat → Int32} {kcnt : Nat → Int32} {next : Int32} {size : Int32} {bytes : Nat → Int32} {len : Int32} {bads : Int32} {noes : Int32} {fulls : Int32} {osz : Int32} {now : Nat → Int32} {past : Nat → Int32} {states : Int32} {refused : Nat → Int32} {text : Nat → Int32} {textL : Int32}  (h : Rel rows pat ops cnt krows kpat kops kcnt next size bytes len bads noes fulls osz now past states refused text textL) (A1 : Int32) (A2 : Int32) (A3 : Int32) : f_X8_at rows A1 A2 A3 = f_X9_at now A1 A2 A3 ∧ Rel rows pat ops cnt krows kpat kops kcnt next size bytes len (g_X8_at_bads bads A1) noes fulls osz now past states (g_X9_at_refused refused A1) text textL := by
  unfold f_X8_at f_X9_at g_X8_at_bads g_X9_at_refused
  rw [pic_eq]
  by_cases q : f_X9_isPicture A1 = 0
  · simp only [if_pos q]
    exact ⟨rfl, h.bad⟩
  · simp only [if_neg q]
    exact ⟨dotAt_e h.1 (mP_ne q), h⟩

theorem sim_row {rows : Nat → Int32} {pat : Nat → Int32} {ops : Nat → Int32} {cnt : Int32} {krows : Nat → Nat → Int32} {kpat : Nat → Nat → Int32} {kops : Nat → Nat → Int32} {kcnt : Nat → Int32} {next : Int32} {size : Int32} {bytes : Nat → Int32} {len : Int32} {bads : Int32} {noes : Int32} {fulls : Int32} {osz : Int32} {now : Nat → Int32} {past : Nat → Int32} {states : Int32} {refused : Nat → Int32} {text : Nat → Int32} {textL : Int32}  (h : Rel rows pat ops cnt krows kpat kops kcnt next size bytes len bads noes fulls osz now past states refused text textL) (A1 : Int32) (A2 : Int32) : f_X8_row rows A1 A2 = f_X9_row now A1 A2 ∧ Rel rows pat ops cnt krows kpat kops kcnt next size bytes len (g_X8_row_bads bads A1 A2) noes fulls osz now past states (g_X9_row_refused refused A1 A2) text textL := by
  unfold f_X8_row f_X9_row g_X8_row_bads g_X9_row_refused
  rw [pic_eq, W_in (a' := 0) (b' := 23) rfl rfl]
  by_cases q : f_X9_isPicture A1 = 0
  · simp only [if_pos q]
    exact ⟨rfl, h.bad⟩
  · by_cases q2 : f_X9_in A2.toInt64 0 23 = 0
    · simp only [if_neg q, if_pos q2]
      exact ⟨rfl, h.bad⟩
    · simp only [if_neg q, if_neg q2]
      refine ⟨?_, h⟩
      rw [rowAt_e (mP_ne q) (mY_ne q2), (ix_row (mP_ne q) (mY_ne q2)).1]
      exact h.1.1 _ (rN_lt (mP_ne q) (mY_ne q2))

theorem sim_open {rows : Nat → Int32} {pat : Nat → Int32} {ops : Nat → Int32} {cnt : Int32} {krows : Nat → Nat → Int32} {kpat : Nat → Nat → Int32} {kops : Nat → Nat → Int32} {kcnt : Nat → Int32} {next : Int32} {size : Int32} {bytes : Nat → Int32} {len : Int32} {bads : Int32} {noes : Int32} {fulls : Int32} {osz : Int32} {now : Nat → Int32} {past : Nat → Int32} {states : Int32} {refused : Nat → Int32} {text : Nat → Int32} {textL : Int32}  (h : Rel rows pat ops cnt krows kpat kops kcnt next size bytes len bads noes fulls osz now past states refused text textL) (A1 : Int32) (A2 : Int32) : f_X8_open ops cnt A1 A2 = f_X9_open now A1 A2 ∧ Rel rows pat ops cnt krows kpat kops kcnt next size bytes len (g_X8_open_bads bads A1 A2) noes fulls osz now past states (g_X9_open_refused refused A1 A2) text textL := by
  unfold f_X8_open f_X9_open g_X8_open_bads g_X9_open_refused
  rw [inP_eq]
  by_cases q : f_X9_isIn A1 A2 = 0
  · simp only [if_pos q]
    exact ⟨rfl, h.bad⟩
  · simp only [if_neg q]
    rw [isOpen_e h.1 (mI_ne q).1 (mI_ne q).2]
    exact ⟨rfl, h⟩

theorem sim_clear {rows : Nat → Int32} {pat : Nat → Int32} {ops : Nat → Int32} {cnt : Int32} {krows : Nat → Nat → Int32} {kpat : Nat → Nat → Int32} {kops : Nat → Nat → Int32} {kcnt : Nat → Int32} {next : Int32} {size : Int32} {bytes : Nat → Int32} {len : Int32} {bads : Int32} {noes : Int32} {fulls : Int32} {osz : Int32} {now : Nat → Int32} {past : Nat → Int32} {states : Int32} {refused : Nat → Int32} {text : Nat → Int32} {textL : Int32}  (h : Rel rows pat ops cnt krows kpat kops kcnt next size bytes len bads noes fulls osz now past states refused text textL)  : f_X8_clear len = f_X9_clear textL ∧ Rel rows pat ops cnt krows kpat kops kcnt next size bytes g_X8_clear_len bads noes fulls osz now past states refused text g_X9_clear_textL := by
  unfold f_X8_clear f_X9_clear g_X8_clear_len g_X9_clear_textL
  obtain ⟨h1, h2, ⟨e, h3, h4⟩, h5⟩ := h
  refine ⟨e, h1, h2, ⟨rfl, ⟨by decide, by decide⟩, fun k hk => ?_⟩, h5⟩
  exact absurd hk (by have : (0 : Int32).toInt = 0 := rfl; omega)

theorem sim_closes {rows : Nat → Int32} {pat : Nat → Int32} {ops : Nat → Int32} {cnt : Int32} {krows : Nat → Nat → Int32} {kpat : Nat → Nat → Int32} {kops : Nat → Nat → Int32} {kcnt : Nat → Int32} {next : Int32} {size : Int32} {bytes : Nat → Int32} {len : Int32} {bads : Int32} {noes : Int32} {fulls : Int32} {osz : Int32} {now : Nat → Int32} {past : Nat → Int32} {states : Int32} {refused : Nat → Int32} {text : Nat → Int32} {textL : Int32}  (h : Rel rows pat ops cnt krows kpat kops kcnt next size bytes len bads noes fulls osz now past states refused text textL)  : f_X8_closes cnt = f_X9_closes now ∧ Rel rows pat ops g_X8_closes_cnt (g_X8_closes_krows rows krows next) (g_X8_closes_kpat pat kpat next) (g_X8_closes_kops ops kops next) (g_X8_closes_kcnt cnt kcnt next) (g_X8_closes_next next) (g_X8_closes_size size) bytes len bads noes fulls osz (g_X9_closes_now now) (g_X9_closes_past now past states) (g_X9_closes_states states) refused text textL := by
  unfold f_X8_closes f_X9_closes g_X8_closes_cnt g_X8_closes_krows g_X8_closes_kpat g_X8_closes_kops g_X8_closes_kcnt g_X8_closes_next g_X8_closes_size g_X9_closes_now g_X9_closes_past g_X9_closes_states
  refine ⟨?_, h.kept ?_⟩
  · unfold f_X9_shuts
    rw [c96]
    exact h.1.2.2.1
  · obtain ⟨h1, h2, h3, h4, h5⟩ := h.1
    have key : ∀ (n : Nat), n ≤ 17 → ∀ k : Nat, s_X9_shuts_11 now n k = if 80 ≤ k ∧ k < 80 + n then 0 else now k := by
      intro n
      induction n with
      | zero => intro _ k; rw [if_neg (by omega)]; rfl
      | succ n ih =>
        intro hn k
        unfold s_X9_shuts_11 b_X9_shuts_11
        rw [nI_clamp (by omega)]
        by_cases q : k = 80 + n
        · rw [q, pk_us, if_pos (by omega)]
        · rw [pk_un q, ih (by omega)]
          by_cases z : 80 ≤ k ∧ k < 80 + n
          · rw [if_pos z, if_pos (by omega)]
          · rw [if_neg z, if_neg (c := 80 ≤ k ∧ k < 80 + (n + 1)) (by omega)]
    unfold g_X9_shuts_now
    refine ⟨fun k hk => ?_, fun k hk => ?_, ?_, ⟨by decide, by decide⟩, fun k hk => ?_⟩
    · rw [key 17 (Nat.le_refl _), if_neg (by omega)]; exact h1 k hk
    · rw [key 17 (Nat.le_refl _), if_neg (by omega)]; exact h2 k hk
    · rw [key 17 (Nat.le_refl _), if_pos (by omega)]
    · exact absurd hk (by have : (0 : Int32).toInt = 0 := rfl; omega)

theorem sim_type {rows : Nat → Int32} {pat : Nat → Int32} {ops : Nat → Int32} {cnt : Int32} {krows : Nat → Nat → Int32} {kpat : Nat → Nat → Int32} {kops : Nat → Nat → Int32} {kcnt : Nat → Int32} {next : Int32} {size : Int32} {bytes : Nat → Int32} {len : Int32} {bads : Int32} {noes : Int32} {fulls : Int32} {osz : Int32} {now : Nat → Int32} {past : Nat → Int32} {states : Int32} {refused : Nat → Int32} {text : Nat → Int32} {textL : Int32}  (h : Rel rows pat ops cnt krows kpat kops kcnt next size bytes len bads noes fulls osz now past states refused text textL) (A1 : Int32) : f_X8_type len A1 = f_X9_type textL A1 ∧ Rel rows pat ops cnt krows kpat kops kcnt next size (g_X8_type_bytes bytes len A1) (g_X8_type_len len A1) (g_X8_type_bads bads A1) noes (g_X8_type_fulls fulls len A1) osz now past states (g_X9_type_refused refused textL A1) (g_X9_type_text text textL A1) (g_X9_type_textL textL A1) := by
  unfold f_X8_type f_X9_type g_X8_type_bads g_X8_type_fulls g_X8_type_bytes g_X8_type_len g_X9_type_refused g_X9_type_text g_X9_type_textL
  rw [W_in (a' := 0) (b' := 127) rfl rfl]
  by_cases q : f_X9_in A1.toInt64 0 127 = 0
  · simp only [if_pos q]
    exact ⟨rfl, h.bad⟩
  · simp only [if_neg q]
    obtain ⟨e, ⟨t1, t2⟩, h4⟩ := h.2.2.1
    have qa := mIn_ne q
    rw [Int32.toInt_toInt64] at qa
    have l0 : (0 : Int64).toInt = 0 := rfl
    have l127 : (127 : Int64).toInt = 127 := rfl
    have l120 : (120 : Int32).toInt = 120 := rfl
    subst e
    by_cases q2 : len = 120
    · have q3 : ¬ len < 120 := fun z => by have := Int32.lt_iff_toInt_lt.mp z; rw [q2] at this; omega
      have q4 : 120 ≤ len := Int32.le_iff_toInt_le.mpr (by rw [q2]; exact Int.le_refl _)
      simp only [if_pos q2, if_neg q3, if_pos q4]
      exact ⟨rfl, h.full⟩
    · have q5 : len.toInt < 120 := by
        have : ¬ len.toInt = 120 := fun z => q2 (by rw [← Int32.toInt_inj]; exact z)
        omega
      have q3 : len < 120 := Int32.lt_iff_toInt_lt.mpr q5
      have q4 : ¬ 120 ≤ len := fun z => by have := Int32.le_iff_toInt_le.mp z; omega
      unfold g_X2_takes_len g_X2_takes_bytes
      simp only [if_neg q2, if_pos q3, if_neg q4]
      have i1 : (1 : Int32).toInt = 1 := rfl
      have el : (len + 1).toInt = len.toInt + 1 := tI_add (by omega) (by omega)
      have ec : (len.toNatClampNeg : Int) = len.toInt := Int.toNat_of_nonneg t1
      refine ⟨trivial, h.1, h.2.1, ⟨rfl, ⟨by omega, by omega⟩, fun k hk => ?_⟩, h.2.2.2⟩
      by_cases z : k = len.toNatClampNeg
      · rw [z, pk_us, pk_us, pk_vb, byte_id (by omega) (by omega)]
        exact ⟨rfl, by omega, by omega⟩
      · rw [pk_un z, pk_un z]
        exact h4 k (by omega)
