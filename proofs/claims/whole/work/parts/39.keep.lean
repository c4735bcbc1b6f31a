theorem Rs.cg {rows pat ops now rows' pat' ops' now' : Nat → Int32} {cnt : Int32} (h : Rs rows pat ops cnt now) (h1 : ∀ k : Nat, k < 72 → rows' k = rows k) (h2 : ∀ k : Nat, k < 8 → pat' k = pat k) (h3 : ∀ k : Nat, k < 16 → ops' k = ops k) (h4 : ∀ k : Nat, k < 97 → now' k = now k) : Rs rows' pat' ops' cnt now' := by
  obtain ⟨a1, a2, a3, a4, a5⟩ := h
  have hc := a4.2
  refine ⟨fun k hk => ?_, fun k hk => ?_, ?_, a4, fun k hk => ?_⟩
  · rw [h1 k hk, h4 k (by omega)]; exact a1 k hk
  · rw [h2 k hk, h4 (72 + k) (by omega)]; exact a2 k hk
  · rw [h4 96 (by omega)]; exact a3
  · have hk4 : k < 4 := by omega
    obtain ⟨b1, b2⟩ := a5 k hk
    refine ⟨fun j hj => ?_, ?_⟩
    · rw [h3 (4 * k + j) (by omega), h4 (80 + (4 * k + j)) (by omega)]; exact b1 j hj
    · rw [h3 (4 * k) (by omega), h3 (4 * k + 1) (by omega), h3 (4 * k + 2) (by omega), h3 (4 * k + 3) (by omega)]; exact b2
theorem cpy0 {f g : Nat → Int32} {n k : Nat} {N : Int32} (hN : N.toNatClampNeg = n) (h : k < n) : va_cpy f g (0 : Int32).toNatClampNeg (0 : Int32).toNatClampNeg N.toNatClampNeg k = f k := by
  rw [hN, show (0 : Int32).toNatClampNeg = 0 from by decide, pk_cpy_in (by omega) (by omega)]
  congr 1
  omega
theorem va_up_s {α : Type} {f : Nat → α} {k : Nat} {v : α} : va_up f k v k = v := by unfold va_up; exact if_pos rfl
theorem va_up_n {α : Type} {f : Nat → α} {k j : Nat} {v : α} (h : j ≠ k) : va_up f k v j = f j := by unfold va_up; exact if_neg h
theorem k11_e {past : Nat → Int32} : ∀ (n : Nat), n ≤ 485 → ∀ k : Nat, s_X9_keep_11 past n k = if k < n then past (k + 97) else past k
  | 0, _, k => by rw [if_neg (by omega)]; rfl
  | n + 1, hn, k => by
    have e1 : (nI n).toNatClampNeg = n := nI_clamp (by omega)
    have e2 : (nI n + 97).toNatClampNeg = n + 97 := by rw [show (97 : Int32) = nI 97 from rfl, nI_add, nI_clamp (by omega)]
    unfold s_X9_keep_11 b_X9_keep_11
    rw [e1, e2]
    by_cases q : k = n
    · rw [q, pk_us, k11_e n (by omega), if_neg (by omega), if_pos (by omega)]
    · rw [pk_un q, k11_e n (by omega)]
      by_cases z : k < n
      · rw [if_pos z, if_pos (by omega)]
      · rw [if_neg z, if_neg (by omega)]
theorem k51_e {now past : Nat → Int32} {states : Int32} {S : Nat} (hS : (if states = 6 then (states - 1) else states : Int32) = nI S) (hS5 : S ≤ 5) : ∀ (n : Nat), n ≤ 97 → ∀ k : Nat, s_X9_keep_51 now past states n k = if 97 * S ≤ k ∧ k < 97 * S + n then now (k - 97 * S) else (if states = 6 then (s_X9_keep_11 past 485) else past : Nat → Int32) k
  | 0, _, k => by
    rw [if_neg (c := 97 * S ≤ k ∧ k < 97 * S + 0) (by omega)]
    rfl
  | n + 1, hn, k => by
    have e1 : (nI n).toNatClampNeg = n := nI_clamp (by omega)
    have e2 : ((97 * nI S) + (nI n)).toNatClampNeg = 97 * S + n := by rw [show (97 : Int32) = nI 97 from rfl, pk_mul, nI_add, nI_clamp (by omega)]
    unfold s_X9_keep_51 b_X9_keep_51
    rw [hS, e1, e2]
    by_cases q : k = 97 * S + n
    · rw [q, pk_us, if_pos (by omega)]
      congr 1
      omega
    · rw [pk_un q, k51_e hS hS5 n (by omega)]
      by_cases z : 97 * S ≤ k ∧ k < 97 * S + n
      · rw [if_pos z, if_pos (c := 97 * S ≤ k ∧ k < 97 * S + (n + 1)) (by omega)]
      · rw [if_neg z, if_neg (c := 97 * S ≤ k ∧ k < 97 * S + (n + 1)) (by omega)]
theorem qOk_n {s : Int32} (h : qOk s) : ∃ S : Nat, S ≤ 6 ∧ s = nI S := ⟨s.toInt.toNat, by have := h.2; omega, Dn_of (by have := h.1; omega) (by have := h.2; omega)⟩
theorem nOk_n {s : Int32} (h : nOk s) : ∃ S : Nat, S < 6 ∧ s = nI S := ⟨s.toInt.toNat, by have := h.2; have := h.1; omega, Dn_of (by have := h.1; omega) (by have := h.2; omega)⟩
theorem ri_e {N S j : Nat} (hN : N < 6) (hS : S ≤ 6) : ri (nI N) (nI S) j = (N + 6 - S + j) % 6 := by
  unfold ri
  rw [nI_clamp (by omega), nI_clamp (by omega)]
theorem kpN_e {N : Nat} (h : N < 6) : kpN (nI N) = nI ((N + 1) % 6) := by
  unfold kpN
  rw [nI_1, show (6 : Int32) = nI 6 from rfl, pk_rem (by omega) (by decide) (by decide)]
theorem kpS_e {S : Nat} (h : S ≤ 6) : kpS (nI S) = nI (min (S + 1) 6) := by
  refine Dn_of ?_ (by omega)
  unfold kpS
  rw [mn_t, nI_1, nI_toInt (by omega)]
  have : (6 : Int32).toInt = 6 := rfl
  omega
theorem nI_ne6 {S : Nat} (h : S < 6) : ¬ nI S = 6 := by
  rw [show (6 : Int32) = nI 6 from rfl, nI_eq (by omega) (by omega)]
  omega
theorem Rp.keep {rows pat ops now past : Nat → Int32} {cnt next size states : Int32} {krows kpat kops : Nat → Nat → Int32} {kcnt : Nat → Int32} (h : Rs rows pat ops cnt now) (hp : Rp krows kpat kops kcnt next size past states) :
    Rp (kpR krows next rows) (kpP kpat next pat) (kpO kops next ops) (kpC kcnt next cnt) (kpN next) (kpS size) (g_X9_keep_past now past states) (g_X9_keep_states states) := by
  obtain ⟨hn, hs, hq, hr⟩ := hp
  obtain ⟨N, hN, rfl⟩ := nOk_n hn
  obtain ⟨S, hS, rfl⟩ := qOk_n hq
  subst hs
  rw [kpN_e hN, kpS_e hS]
  have eT : (if nI S = 6 then (nI S - 1) else nI S : Int32) = nI (min S 5) := by
    by_cases e : S = 6
    · subst e
      rw [if_pos (show nI 6 = 6 from rfl)]
      rfl
    · rw [if_neg (nI_ne6 (by omega))]
      congr 1
      omega
  have eC : (nI N).toNatClampNeg = N := nI_clamp (by omega)
  refine ⟨?_, ?_, ?_, fun j hj => ?_⟩
  · unfold nOk
    rw [nI_toInt (by omega)]
    omega
  · unfold g_X9_keep_states
    rw [eT, nI_1]
    congr 1
    omega
  · unfold qOk
    rw [nI_toInt (by omega)]
    omega
  · rw [nI_toInt (by omega)] at hj
    rw [ri_e (by omega) (by omega)]
    have key : ∀ k : Nat, k < 97 → g_X9_keep_past now past (nI S) (97 * j + k) = if j = min S 5 then now k else if S = 6 then past (97 * (j + 1) + k) else past (97 * j + k) := fun k hk => by
      unfold g_X9_keep_past
      rw [k51_e eT (by omega) 97 (Nat.le_refl 97)]
      by_cases z : j = min S 5
      · rw [if_pos (by omega), if_pos z]
        congr 1
        omega
      · rw [if_neg (by omega), if_neg z]
        by_cases e : S = 6
        · subst e
          rw [if_pos rfl, if_pos (show nI 6 = 6 from rfl), k11_e 485 (Nat.le_refl _), if_pos (by omega)]
          congr 1
          omega
        · rw [if_neg e, if_neg (nI_ne6 (by omega))]
    by_cases z : j = min S 5
    · have e : ((N + 1) % 6 + 6 - min (S + 1) 6 + j) % 6 = N := by omega
      rw [e]
      unfold kpR kpP kpO kpC
      rw [eC, va_up_s, va_up_s, va_up_s, va_up_s]
      refine h.cg (fun k hk => ?_) (fun k hk => ?_) (fun k hk => ?_) (fun k hk => ?_)
      · exact cpy0 (by decide) hk
      · exact cpy0 (by decide) hk
      · exact cpy0 (by decide) hk
      · rw [key k hk, if_pos z]
    · have e : ((N + 1) % 6 + 6 - min (S + 1) 6 + j) % 6 ≠ N := by omega
      unfold kpR kpP kpO kpC
      rw [eC, va_up_n e, va_up_n e, va_up_n e, va_up_n e]
      by_cases e6 : S = 6
      · subst e6
        have h6 := hr (j + 1) (by rw [nI_toInt (by omega)]; omega)
        rw [ri_e hN hS] at h6
        have ei : ((N + 1) % 6 + 6 - min (6 + 1) 6 + j) % 6 = (N + 6 - 6 + (j + 1)) % 6 := by omega
        rw [ei]
        exact h6.cg (fun _ _ => rfl) (fun _ _ => rfl) (fun _ _ => rfl) (fun k hk => by rw [key k hk, if_neg z, if_pos rfl])
      · have h6 := hr j (by rw [nI_toInt (by omega)]; omega)
        rw [ri_e hN hS] at h6
        have ei : ((N + 1) % 6 + 6 - min (S + 1) 6 + j) % 6 = (N + 6 - S + j) % 6 := by omega
        rw [ei]
        exact h6.cg (fun _ _ => rfl) (fun _ _ => rfl) (fun _ _ => rfl) (fun k hk => by rw [key k hk, if_neg z, if_neg e6])
section RELS
variable {rows pat ops bytes now past refused text : Nat → Int32} {cnt next size len bads noes fulls osz states textL : Int32} {krows kpat kops : Nat → Nat → Int32} {kcnt : Nat → Int32}
theorem Rel.bad (h : Rel rows pat ops cnt krows kpat kops kcnt next size bytes len bads noes fulls osz now past states refused text textL) : Rel rows pat ops cnt krows kpat kops kcnt next size bytes len (g_X8_refusedBad_bads bads) noes fulls osz now past states (g_X9_bad_refused refused) text textL := by
  obtain ⟨h1, h2, h3, ⟨a, b, c⟩, h5⟩ := h
  refine ⟨h1, h2, h3, ⟨?_, ?_, ?_⟩, h5⟩
  · unfold g_X8_refusedBad_bads g_X9_bad_refused
    rw [show (0 : Int32).toNatClampNeg = 0 from by decide, pk_us, a]
  · unfold g_X9_bad_refused
    rw [show (0 : Int32).toNatClampNeg = 0 from by decide, pk_un (by decide), b]
  · unfold g_X9_bad_refused
    rw [show (0 : Int32).toNatClampNeg = 0 from by decide, pk_un (by decide), c]
theorem Rel.no (h : Rel rows pat ops cnt krows kpat kops kcnt next size bytes len bads noes fulls osz now past states refused text textL) : Rel rows pat ops cnt krows kpat kops kcnt next size bytes len bads (g_X8_refusedNo_noes noes) fulls osz now past states (g_X9_no_refused refused) text textL := by
  obtain ⟨h1, h2, h3, ⟨a, b, c⟩, h5⟩ := h
  refine ⟨h1, h2, h3, ⟨?_, ?_, ?_⟩, h5⟩
  · unfold g_X9_no_refused
    rw [show (1 : Int32).toNatClampNeg = 1 from by decide, pk_un (by decide), a]
  · unfold g_X8_refusedNo_noes g_X9_no_refused
    rw [show (1 : Int32).toNatClampNeg = 1 from by decide, pk_us, b]
  · unfold g_X9_no_refused
    rw [show (1 : Int32).toNatClampNeg = 1 from by decide, pk_un (by decide), c]
theorem Rel.full (h : Rel rows pat ops cnt krows kpat kops kcnt next size bytes len bads noes fulls osz now past states refused text textL) : Rel rows pat ops cnt krows kpat kops kcnt next size bytes len bads noes (g_X8_refusedFull_fulls fulls) osz now past states (g_X9_full_refused refused) text textL := by
  obtain ⟨h1, h2, h3, ⟨a, b, c⟩, h5⟩ := h
  refine ⟨h1, h2, h3, ⟨?_, ?_, ?_⟩, h5⟩
  · unfold g_X9_full_refused
    rw [show (2 : Int32).toNatClampNeg = 2 from by decide, pk_un (by decide), a]
  · unfold g_X9_full_refused
    rw [show (2 : Int32).toNatClampNeg = 2 from by decide, pk_un (by decide), b]
  · unfold g_X8_refusedFull_fulls g_X9_full_refused
    rw [show (2 : Int32).toNatClampNeg = 2 from by decide, pk_us, c]
/-- a state is kept, then the pictures change -/
theorem Rel.kept (h : Rel rows pat ops cnt krows kpat kops kcnt next size bytes len bads noes fulls osz now past states refused text textL) {rows' pat' ops' now' : Nat → Int32} {cnt' : Int32} (h' : Rs rows' pat' ops' cnt' now') : Rel rows' pat' ops' cnt' (kpR krows next rows) (kpP kpat next pat) (kpO kops next ops) (kpC kcnt next cnt) (kpN next) (kpS size) bytes len bads noes fulls osz now' (g_X9_keep_past now past states) (g_X9_keep_states states) refused text textL :=
  ⟨h', h.2.1.keep h.1, h.2.2⟩
theorem Rel.setO (h : Rel rows pat ops cnt krows kpat kops kcnt next size bytes len bads noes fulls osz now past states refused text textL) {o : Int32} (ho : oOk o) : Rel rows pat ops cnt krows kpat kops kcnt next size bytes len bads noes fulls o now past states refused text textL :=
  ⟨h.1, h.2.1, h.2.2.1, h.2.2.2.1, ho⟩
end RELS
