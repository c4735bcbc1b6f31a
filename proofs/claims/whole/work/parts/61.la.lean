/-- the law's script -/
def lwS (X : zX) (b L : Nat) (xs : Nat → Int32) : Prop := va_X b L xs (xS X) (xS X).heap ∧ b < (xS X).heap.size ∧ ¬ xF X b ∧ L ≤ 5120
section ZL
variable {X : zX} {G : zG} {nL k n fr lo : Nat} {cc : ByteArray} {own : String} {ret : Option FieldType} {ws : va_W} {pc : Nat} {lv : List (Nat × Value)} {rest : List Value} {b L : Nat} {xs : Nat → Int32}
theorem z_sld {i v : Int32} (C : zC X G nL cc own ret fr lo) (S : lwS X b L xs) (hd : decode cc pc = .ok (.iaload, 1)) (hin : vp_in i L) (hv : xs i.toNatClampNeg = v) (kk : Z X G nL k n ws (pc + 1) lv (.int v :: rest)) : Z X G nL k n ws pc lv (.int i :: .ref b :: rest) := fun H locs ls hP hD hS hl => by
  subst hv
  exact va_sld C.1 C.2.1 S.1 S.2.1 S.2.2.1 hS hin hd (kk H locs ls hP hD hS hl)
theorem z_slen (C : zC X G nL cc own ret fr lo) (S : lwS X b L xs) (hd : decode cc pc = .ok (.arraylength, 1)) (kk : Z X G nL k n ws (pc + 1) lv (.int (nI L) :: rest)) : Z X G nL k n ws pc lv (.ref b :: rest) := fun H locs ls hP hD hS hl =>
  va_slen C.1 C.2.1 S.1 S.2.1 S.2.2.1 hS hd (kk H locs ls hP hD hS hl)
end ZL
theorem ix_s {I L j : Nat} {k : Int32} (h : I + 10 ≤ L) (hL : L ≤ 5120) (hk : k = nI j) (hj : j < 10) : vp_in (nI I + k) L := by
  rw [hk, nI_add]
  exact vp_in_nI (by omega) (by omega)
theorem zC.law {X : zX} {G : zG} {nL : Nat} {cc : ByteArray} {own : String} {ret : Option FieldType} {fr lo : Nat} (C : zC X G nL cc own ret fr lo) : zC X G nL cc own ret fr lo := C

theorem lcmp_eq {x y : Int64} (h : x = y) : lg_cmp x y = 0 := by
  subst h
  simp [lg_cmp]

set_option maxRecDepth 100000 in
theorem lw_dot {X : zX} {G : zG} {b L I : Nat} {xs : Nat → Int32} {ao so sr sp sq po pl pr pd eo ek to ts tl ho hm mo mb oo on xo xb dam dnm dpm drm dsm dlm dcm dtm dgm : Nat} {ka kb kc kd : Nat → Nat} {bads : Int32} {noes : Int32} {fulls : Int32} {rows : Nat → Int32} {pat : Nat → Int32} {ops : Nat → Int32} {cnt : Int32} {left : Nat → Int32} {srow : Nat → Int32} {sdot : Nat → Int32} {steps : Int32} {krows : Nat → Nat → Int32} {kpat : Nat → Nat → Int32} {kops : Nat → Nat → Int32} {kcnt : Nat → Int32} {next : Int32} {size : Int32} {source : Nat → Int32} {like : Nat → Int32} {comes : Nat → Int32} {block : Nat → Int32} {nums : Nat → Int32} {sign : Int32} {kix : Nat} {osz : Int32} {aw : Int32} {bytes : Nat → Int32} {len : Int32} {place : Int32} {num : Int32} {nowm : Nat → Int32} {pastm : Nat → Int32} {statesm : Int32} {refusedm : Nat → Int32} {asidem : Nat → Int32} {pilem : Nat → Int32} {camem : Nat → Int32} {pileLm : Int32} {textm : Nat → Int32} {textLm : Int32} {placem : Int32} {nargsm : Nat → Int32} (C : zC X G 4 cL_law RL ret 11 458) (hkn : 55 ≤ (xR X).cells ∧ 4173 ≤ (xR X).slots) (S : lwS X b L xs) (hI : I + 10 ≤ L) (h : Rel rows pat ops cnt krows kpat kops kcnt next size bytes len bads noes fulls osz nowm pastm statesm refusedm textm textLm) (kk : ∀ (bads : Int32) (noes : Int32) (fulls : Int32) (rows : Nat → Int32) (pat : Nat → Int32) (ops : Nat → Int32) (cnt : Int32) (left : Nat → Int32) (srow : Nat → Int32) (sdot : Nat → Int32) (steps : Int32) (krows : Nat → Nat → Int32) (kpat : Nat → Nat → Int32) (kops : Nat → Nat → Int32) (kcnt : Nat → Int32) (next : Int32) (size : Int32) (source : Nat → Int32) (like : Nat → Int32) (comes : Nat → Int32) (block : Nat → Int32) (nums : Nat → Int32) (sign : Int32) (kix : Nat) (osz : Int32) (aw : Int32) (bytes : Nat → Int32) (len : Int32) (place : Int32) (num : Int32) (nowm : Nat → Int32) (pastm : Nat → Int32) (statesm : Int32) (refusedm : Nat → Int32) (asidem : Nat → Int32) (pilem : Nat → Int32) (camem : Nat → Int32) (pileLm : Int32) (textm : Nat → Int32) (textLm : Int32) (placem : Int32) (nargsm : Nat → Int32), Rel rows pat ops cnt krows kpat kops kcnt next size bytes len bads noes fulls osz nowm pastm statesm refusedm textm textLm → Z X G 4 55 4173 (wPM G ao so eo to ho mo oo xo bads noes fulls ++ (wSc G so sr sp sq rows pat ops cnt ++ (wPa G po pl pr pd left srow sdot steps ++ (wPs G eo ek ka kb kc kd krows kpat kops kcnt next size ++ (wPt G to ts tl so po source like ++ (wWh G ho hm so comes ++ (wMe G mo mb so po block ++ (wOr G oo on nums sign kix osz aw ++ (wTx G xo xb bytes len place num ++ wMd G dam dnm dpm drm dsm dlm dcm dtm dgm nowm pastm statesm refusedm asidem pilem camem pileLm textm textLm placem nargsm))))))))) 1235 [(0, .ref b), (1, .ref ao), (2, .ref dam), (3, .int (nI I))] []) : Z X G 4 55 4173 (wPM G ao so eo to ho mo oo xo bads noes fulls ++ (wSc G so sr sp sq rows pat ops cnt ++ (wPa G po pl pr pd left srow sdot steps ++ (wPs G eo ek ka kb kc kd krows kpat kops kcnt next size ++ (wPt G to ts tl so po source like ++ (wWh G ho hm so comes ++ (wMe G mo mb so po block ++ (wOr G oo on nums sign kix osz aw ++ (wTx G xo xb bytes len place num ++ wMd G dam dnm dpm drm dsm dlm dcm dtm dgm nowm pastm statesm refusedm asidem pilem camem pileLm textm textLm placem nargsm))))))))) 152 [(0, .ref b), (1, .ref ao), (2, .ref dam), (3, .int (nI I))] [] := by
  obtain ⟨A1, hA1⟩ : ∃ z, xs (nI I + 1).toNatClampNeg = z := ⟨_, rfl⟩
  obtain ⟨A2, hA2⟩ : ∃ z, xs (nI I + 2).toNatClampNeg = z := ⟨_, rfl⟩
  obtain ⟨A3, hA3⟩ : ∃ z, xs (nI I + 3).toNatClampNeg = z := ⟨_, rfl⟩
  obtain ⟨A4, hA4⟩ : ∃ z, xs (nI I + 4).toNatClampNeg = z := ⟨_, rfl⟩
  obtain ⟨f1_, f2_, f3_, f4_, f5_, f6_, f7_⟩ := h.facts
  have hs := sim_dot  h A1 A2 A3 A4
  refine z_aload_n (pc := 152) C 1 dL_law_152 rfl ?_
  refine z_aload_n (pc := 153) C 0 dL_law_153 rfl ?_
  refine z_iload_n (pc := 154) C 3 dL_law_154 rfl ?_
  refine z_iconst (pc := 155) (v := 1) C dL_law_155 (by decide) ?_
  refine z_iadd (pc := 156) C dL_law_156 ?_
  refine z_sld (pc := 157) C S dL_law_157 (ix_s (j := 1) hI S.2.2.2 rfl (by decide)) hA1 ?_
  refine z_aload_n (pc := 158) C 0 dL_law_158 rfl ?_
  refine z_iload_n (pc := 159) C 3 dL_law_159 rfl ?_
  refine z_iconst (pc := 160) (v := 2) C dL_law_160 (by decide) ?_
  refine z_iadd (pc := 161) C dL_law_161 ?_
  refine z_sld (pc := 162) C S dL_law_162 (ix_s (j := 2) hI S.2.2.2 rfl (by decide)) hA2 ?_
  refine z_aload_n (pc := 163) C 0 dL_law_163 rfl ?_
  refine z_iload_n (pc := 164) C 3 dL_law_164 rfl ?_
  refine z_iconst (pc := 165) (v := 3) C dL_law_165 (by decide) ?_
  refine z_iadd (pc := 166) C dL_law_166 ?_
  refine z_sld (pc := 167) C S dL_law_167 (ix_s (j := 3) hI S.2.2.2 rfl (by decide)) hA3 ?_
  refine z_aload_n (pc := 168) C 0 dL_law_168 rfl ?_
  refine z_iload_n (pc := 169) C 3 dL_law_169 rfl ?_
  refine z_iconst (pc := 170) (v := 4) C dL_law_170 (by decide) ?_
  refine z_iadd (pc := 171) C dL_law_171 ?_
  refine z_sld (pc := 172) C S dL_law_172 (ix_s (j := 4) hI S.2.2.2 rfl (by decide)) hA4 ?_
  refine z_callV (pc := 173) C (c_X8_dot (ka := ka) (kb := kb) (kc := kc) (kd := kd) (krows := krows) (kpat := kpat) (kops := kops) (kcnt := kcnt) (by assumption)) ((List.range 1) ++ (((List.range 4).map (1 + ·)) ++ ((((List.range 26).map (4 + ·)).map (4 + ·)).map (1 + ·)))) hkn mV_X8_dot q_283 dL_law_173 rfl rfl (zg_app (zg_head (by rfl)) (zg_app (zg_sk (by rfl) (zg_head (by rfl))) (zg_sk (by rfl) (zg_sk (by rfl) (zg_sk (by rfl) (zg_head (by rfl))))))) 0 rfl rfl rfl rfl (Nat.le_of_ble_eq_true rfl) (by decide) (pI.go (ws' := wPM G ao so eo to ho mo oo xo _ noes fulls ++ (wSc G so sr sp sq _ pat ops cnt ++ (wPa G po pl pr pd left srow sdot steps ++ (wPs G eo ek ka kb kc kd (g_X8_dot_krows rows krows next A1 A2 A3 A4) (g_X8_dot_kpat pat kpat next A1 A2 A3 A4) (g_X8_dot_kops ops kops next A1 A2 A3 A4) (g_X8_dot_kcnt cnt kcnt next A1 A2 A3 A4) (g_X8_dot_next next A1 A2 A3 A4) (g_X8_dot_size size A1 A2 A3 A4) ++ (wPt G to ts tl so po source like ++ (wWh G ho hm so comes ++ (wMe G mo mb so po block ++ (wOr G oo on nums sign kix osz aw ++ (wTx G xo xb bytes len place num ++ wMd G dam dnm dpm drm dsm dlm dcm dtm dgm nowm pastm statesm refusedm asidem pilem camem pileLm textm textLm placem nargsm))))))))) (zp_two (by rfl) (zp_head (by rfl) (by rfl)) (zp_two (by rfl) (zp_sk (by rfl) (zp_head (by rfl) (by rfl))) (zp_sk (by rfl) (zp_sk (by rfl) (zp_sk (by rfl) (zp_head (by rfl) (by rfl))))))) ?_)
  refine z_aload_n (pc := 176) C 2 dL_law_176 rfl ?_
  refine z_aload_n (pc := 177) C 0 dL_law_177 rfl ?_
  refine z_iload_n (pc := 178) C 3 dL_law_178 rfl ?_
  refine z_iconst (pc := 179) (v := 1) C dL_law_179 (by decide) ?_
  refine z_iadd (pc := 180) C dL_law_180 ?_
  refine z_sld (pc := 181) C S dL_law_181 (ix_s (j := 1) hI S.2.2.2 rfl (by decide)) hA1 ?_
  refine z_aload_n (pc := 182) C 0 dL_law_182 rfl ?_
  refine z_iload_n (pc := 183) C 3 dL_law_183 rfl ?_
  refine z_iconst (pc := 184) (v := 2) C dL_law_184 (by decide) ?_
  refine z_iadd (pc := 185) C dL_law_185 ?_
  refine z_sld (pc := 186) C S dL_law_186 (ix_s (j := 2) hI S.2.2.2 rfl (by decide)) hA2 ?_
  refine z_aload_n (pc := 187) C 0 dL_law_187 rfl ?_
  refine z_iload_n (pc := 188) C 3 dL_law_188 rfl ?_
  refine z_iconst (pc := 189) (v := 3) C dL_law_189 (by decide) ?_
  refine z_iadd (pc := 190) C dL_law_190 ?_
  refine z_sld (pc := 191) C S dL_law_191 (ix_s (j := 3) hI S.2.2.2 rfl (by decide)) hA3 ?_
  refine z_aload_n (pc := 192) C 0 dL_law_192 rfl ?_
  refine z_iload_n (pc := 193) C 3 dL_law_193 rfl ?_
  refine z_iconst (pc := 194) (v := 4) C dL_law_194 (by decide) ?_
  refine z_iadd (pc := 195) C dL_law_195 ?_
  refine z_sld (pc := 196) C S dL_law_196 (ix_s (j := 4) hI S.2.2.2 rfl (by decide)) hA4 ?_
  refine z_callV (pc := 197) C (c_X9_dot (by assumption)) ((((((((((List.range 9).map (2 + ·)).map (2 + ·)).map (2 + ·)).map (2 + ·)).map (3 + ·)).map (26 + ·)).map (4 + ·)).map (4 + ·)).map (1 + ·)) hkn mV_X9_dot q_867 dL_law_197 rfl rfl (zg_sk (by rfl) (zg_sk (by rfl) (zg_sk (by rfl) (zg_sk (by rfl) (zg_sk (by rfl) (zg_sk (by rfl) (zg_sk (by rfl) (zg_sk (by rfl) (zg_sk (by rfl) (zg_last (by rfl))))))))))) 46 rfl rfl rfl rfl (Nat.le_of_ble_eq_true rfl) (by decide) (pI.go (ws' := wPM G ao so eo to ho mo oo xo _ noes fulls ++ (wSc G so sr sp sq _ pat ops cnt ++ (wPa G po pl pr pd left srow sdot steps ++ (wPs G eo ek ka kb kc kd (g_X8_dot_krows rows krows next A1 A2 A3 A4) (g_X8_dot_kpat pat kpat next A1 A2 A3 A4) (g_X8_dot_kops ops kops next A1 A2 A3 A4) (g_X8_dot_kcnt cnt kcnt next A1 A2 A3 A4) (g_X8_dot_next next A1 A2 A3 A4) (g_X8_dot_size size A1 A2 A3 A4) ++ (wPt G to ts tl so po source like ++ (wWh G ho hm so comes ++ (wMe G mo mb so po block ++ (wOr G oo on nums sign kix osz aw ++ (wTx G xo xb bytes len place num ++ wMd G dam dnm dpm drm dsm dlm dcm dtm dgm _ _ _ _ asidem pilem camem pileLm textm textLm placem nargsm))))))))) (zp_sk (by rfl) (zp_sk (by rfl) (zp_sk (by rfl) (zp_sk (by rfl) (zp_sk (by rfl) (zp_sk (by rfl) (zp_sk (by rfl) (zp_sk (by rfl) (zp_sk (by rfl) (zp_last (by rfl) (by rfl))))))))))) ?_)
  refine z_icmp_eq (pc := 200) 1235 C dL_law_200 (by decide) (fun _ => ?_) (fun q => absurd hs.1 q)
  exact kk (g_X8_dot_bads bads A1 A2 A3 A4) noes fulls (g_X8_dot_rows rows A1 A2 A3 A4) pat ops cnt left srow sdot steps (g_X8_dot_krows rows krows next A1 A2 A3 A4) (g_X8_dot_kpat pat kpat next A1 A2 A3 A4) (g_X8_dot_kops ops kops next A1 A2 A3 A4) (g_X8_dot_kcnt cnt kcnt next A1 A2 A3 A4) (g_X8_dot_next next A1 A2 A3 A4) (g_X8_dot_size size A1 A2 A3 A4) source like comes block nums sign kix osz aw bytes len place num (g_X9_dot_now nowm A1 A2 A3 A4) (g_X9_dot_past nowm pastm statesm A1 A2 A3 A4) (g_X9_dot_states statesm A1 A2 A3 A4) (g_X9_dot_refused refusedm A1 A2 A3 A4) asidem pilem camem pileLm textm textLm placem nargsm hs.2

set_option maxRecDepth 100000 in
theorem lw_pattern {X : zX} {G : zG} {b L I : Nat} {xs : Nat → Int32} {ao so sr sp sq po pl pr pd eo ek to ts tl ho hm mo mb oo on xo xb dam dnm dpm drm dsm dlm dcm dtm dgm : Nat} {ka kb kc kd : Nat → Nat} {bads : Int32} {noes : Int32} {fulls : Int32} {rows : Nat → Int32} {pat : Nat → Int32} {ops : Nat → Int32} {cnt : Int32} {left : Nat → Int32} {srow : Nat → Int32} {sdot : Nat → Int32} {steps : Int32} {krows : Nat → Nat → Int32} {kpat : Nat → Nat → Int32} {kops : Nat → Nat → Int32} {kcnt : Nat → Int32} {next : Int32} {size : Int32} {source : Nat → Int32} {like : Nat → Int32} {comes : Nat → Int32} {block : Nat → Int32} {nums : Nat → Int32} {sign : Int32} {kix : Nat} {osz : Int32} {aw : Int32} {bytes : Nat → Int32} {len : Int32} {place : Int32} {num : Int32} {nowm : Nat → Int32} {pastm : Nat → Int32} {statesm : Int32} {refusedm : Nat → Int32} {asidem : Nat → Int32} {pilem : Nat → Int32} {camem : Nat → Int32} {pileLm : Int32} {textm : Nat → Int32} {textLm : Int32} {placem : Int32} {nargsm : Nat → Int32} (C : zC X G 4 cL_law RL ret 11 458) (hkn : 55 ≤ (xR X).cells ∧ 4173 ≤ (xR X).slots) (S : lwS X b L xs) (hI : I + 10 ≤ L) (h : Rel rows pat ops cnt krows kpat kops kcnt next size bytes len bads noes fulls osz nowm pastm statesm refusedm textm textLm) (kk : ∀ (bads : Int32) (noes : Int32) (fulls : Int32) (rows : Nat → Int32) (pat : Nat → Int32) (ops : Nat → Int32) (cnt : Int32) (left : Nat → Int32) (srow : Nat → Int32) (sdot : Nat → Int32) (steps : Int32) (krows : Nat → Nat → Int32) (kpat : Nat → Nat → Int32) (kops : Nat → Nat → Int32) (kcnt : Nat → Int32) (next : Int32) (size : Int32) (source : Nat → Int32) (like : Nat → Int32) (comes : Nat → Int32) (block : Nat → Int32) (nums : Nat → Int32) (sign : Int32) (kix : Nat) (osz : Int32) (aw : Int32) (bytes : Nat → Int32) (len : Int32) (place : Int32) (num : Int32) (nowm : Nat → Int32) (pastm : Nat → Int32) (statesm : Int32) (refusedm : Nat → Int32) (asidem : Nat → Int32) (pilem : Nat → Int32) (camem : Nat → Int32) (pileLm : Int32) (textm : Nat → Int32) (textLm : Int32) (placem : Int32) (nargsm : Nat → Int32), Rel rows pat ops cnt krows kpat kops kcnt next size bytes len bads noes fulls osz nowm pastm statesm refusedm textm textLm → Z X G 4 55 4173 (wPM G ao so eo to ho mo oo xo bads noes fulls ++ (wSc G so sr sp sq rows pat ops cnt ++ (wPa G po pl pr pd left srow sdot steps ++ (wPs G eo ek ka kb kc kd krows kpat kops kcnt next size ++ (wPt G to ts tl so po source like ++ (wWh G ho hm so comes ++ (wMe G mo mb so po block ++ (wOr G oo on nums sign kix osz aw ++ (wTx G xo xb bytes len place num ++ wMd G dam dnm dpm drm dsm dlm dcm dtm dgm nowm pastm statesm refusedm asidem pilem camem pileLm textm textLm placem nargsm))))))))) 1235 [(0, .ref b), (1, .ref ao), (2, .ref dam), (3, .int (nI I))] []) : Z X G 4 55 4173 (wPM G ao so eo to ho mo oo xo bads noes fulls ++ (wSc G so sr sp sq rows pat ops cnt ++ (wPa G po pl pr pd left srow sdot steps ++ (wPs G eo ek ka kb kc kd krows kpat kops kcnt next size ++ (wPt G to ts tl so po source like ++ (wWh G ho hm so comes ++ (wMe G mo mb so po block ++ (wOr G oo on nums sign kix osz aw ++ (wTx G xo xb bytes len place num ++ wMd G dam dnm dpm drm dsm dlm dcm dtm dgm nowm pastm statesm refusedm asidem pilem camem pileLm textm textLm placem nargsm))))))))) 205 [(0, .ref b), (1, .ref ao), (2, .ref dam), (3, .int (nI I))] [] := by
  obtain ⟨A1, hA1⟩ : ∃ z, xs (nI I + 1).toNatClampNeg = z := ⟨_, rfl⟩
  obtain ⟨A2, hA2⟩ : ∃ z, xs (nI I + 2).toNatClampNeg = z := ⟨_, rfl⟩
  obtain ⟨f1_, f2_, f3_, f4_, f5_, f6_, f7_⟩ := h.facts
  have hs := sim_pattern  h A1 A2
  refine z_aload_n (pc := 205) C 1 dL_law_205 rfl ?_
  refine z_aload_n (pc := 206) C 0 dL_law_206 rfl ?_
  refine z_iload_n (pc := 207) C 3 dL_law_207 rfl ?_
  refine z_iconst (pc := 208) (v := 1) C dL_law_208 (by decide) ?_
  refine z_iadd (pc := 209) C dL_law_209 ?_
  refine z_sld (pc := 210) C S dL_law_210 (ix_s (j := 1) hI S.2.2.2 rfl (by decide)) hA1 ?_
  refine z_aload_n (pc := 211) C 0 dL_law_211 rfl ?_
  refine z_iload_n (pc := 212) C 3 dL_law_212 rfl ?_
  refine z_iconst (pc := 213) (v := 2) C dL_law_213 (by decide) ?_
  refine z_iadd (pc := 214) C dL_law_214 ?_
  refine z_sld (pc := 215) C S dL_law_215 (ix_s (j := 2) hI S.2.2.2 rfl (by decide)) hA2 ?_
  refine z_callV (pc := 216) C (c_X8_pattern (ka := ka) (kb := kb) (kc := kc) (kd := kd) (krows := krows) (kpat := kpat) (kops := kops) (kcnt := kcnt) (by assumption)) ((List.range 1) ++ (((List.range 4).map (1 + ·)) ++ ((((List.range 26).map (4 + ·)).map (4 + ·)).map (1 + ·)))) hkn mV_X8_pattern q_338 dL_law_216 rfl rfl (zg_app (zg_head (by rfl)) (zg_app (zg_sk (by rfl) (zg_head (by rfl))) (zg_sk (by rfl) (zg_sk (by rfl) (zg_sk (by rfl) (zg_head (by rfl))))))) 0 rfl rfl rfl rfl (Nat.le_of_ble_eq_true rfl) (by decide) (pI.go (ws' := wPM G ao so eo to ho mo oo xo _ noes fulls ++ (wSc G so sr sp sq rows _ ops cnt ++ (wPa G po pl pr pd left srow sdot steps ++ (wPs G eo ek ka kb kc kd (g_X8_pattern_krows rows krows next A1 A2) (g_X8_pattern_kpat pat kpat next A1 A2) (g_X8_pattern_kops ops kops next A1 A2) (g_X8_pattern_kcnt cnt kcnt next A1 A2) (g_X8_pattern_next next A1 A2) (g_X8_pattern_size size A1 A2) ++ (wPt G to ts tl so po source like ++ (wWh G ho hm so comes ++ (wMe G mo mb so po block ++ (wOr G oo on nums sign kix osz aw ++ (wTx G xo xb bytes len place num ++ wMd G dam dnm dpm drm dsm dlm dcm dtm dgm nowm pastm statesm refusedm asidem pilem camem pileLm textm textLm placem nargsm))))))))) (zp_two (by rfl) (zp_head (by rfl) (by rfl)) (zp_two (by rfl) (zp_sk (by rfl) (zp_head (by rfl) (by rfl))) (zp_sk (by rfl) (zp_sk (by rfl) (zp_sk (by rfl) (zp_head (by rfl) (by rfl))))))) ?_)
  refine z_aload_n (pc := 219) C 2 dL_law_219 rfl ?_
  refine z_aload_n (pc := 220) C 0 dL_law_220 rfl ?_
  refine z_iload_n (pc := 221) C 3 dL_law_221 rfl ?_
  refine z_iconst (pc := 222) (v := 1) C dL_law_222 (by decide) ?_
  refine z_iadd (pc := 223) C dL_law_223 ?_
  refine z_sld (pc := 224) C S dL_law_224 (ix_s (j := 1) hI S.2.2.2 rfl (by decide)) hA1 ?_
  refine z_aload_n (pc := 225) C 0 dL_law_225 rfl ?_
  refine z_iload_n (pc := 226) C 3 dL_law_226 rfl ?_
  refine z_iconst (pc := 227) (v := 2) C dL_law_227 (by decide) ?_
  refine z_iadd (pc := 228) C dL_law_228 ?_
  refine z_sld (pc := 229) C S dL_law_229 (ix_s (j := 2) hI S.2.2.2 rfl (by decide)) hA2 ?_
  refine z_callV (pc := 230) C (c_X9_pattern (by assumption)) ((((((((((List.range 9).map (2 + ·)).map (2 + ·)).map (2 + ·)).map (2 + ·)).map (3 + ·)).map (26 + ·)).map (4 + ·)).map (4 + ·)).map (1 + ·)) hkn mV_X9_pattern q_902 dL_law_230 rfl rfl (zg_sk (by rfl) (zg_sk (by rfl) (zg_sk (by rfl) (zg_sk (by rfl) (zg_sk (by rfl) (zg_sk (by rfl) (zg_sk (by rfl) (zg_sk (by rfl) (zg_sk (by rfl) (zg_last (by rfl))))))))))) 46 rfl rfl rfl rfl (Nat.le_of_ble_eq_true rfl) (by decide) (pI.go (ws' := wPM G ao so eo to ho mo oo xo _ noes fulls ++ (wSc G so sr sp sq rows _ ops cnt ++ (wPa G po pl pr pd left srow sdot steps ++ (wPs G eo ek ka kb kc kd (g_X8_pattern_krows rows krows next A1 A2) (g_X8_pattern_kpat pat kpat next A1 A2) (g_X8_pattern_kops ops kops next A1 A2) (g_X8_pattern_kcnt cnt kcnt next A1 A2) (g_X8_pattern_next next A1 A2) (g_X8_pattern_size size A1 A2) ++ (wPt G to ts tl so po source like ++ (wWh G ho hm so comes ++ (wMe G mo mb so po block ++ (wOr G oo on nums sign kix osz aw ++ (wTx G xo xb bytes len place num ++ wMd G dam dnm dpm drm dsm dlm dcm dtm dgm _ _ _ _ asidem pilem camem pileLm textm textLm placem nargsm))))))))) (zp_sk (by rfl) (zp_sk (by rfl) (zp_sk (by rfl) (zp_sk (by rfl) (zp_sk (by rfl) (zp_sk (by rfl) (zp_sk (by rfl) (zp_sk (by rfl) (zp_sk (by rfl) (zp_last (by rfl) (by rfl))))))))))) ?_)
  refine z_icmp_eq (pc := 233) 1235 C dL_law_233 (by decide) (fun _ => ?_) (fun q => absurd hs.1 q)
  exact kk (g_X8_pattern_bads bads A1 A2) noes fulls rows (g_X8_pattern_pat pat A1 A2) ops cnt left srow sdot steps (g_X8_pattern_krows rows krows next A1 A2) (g_X8_pattern_kpat pat kpat next A1 A2) (g_X8_pattern_kops ops kops next A1 A2) (g_X8_pattern_kcnt cnt kcnt next A1 A2) (g_X8_pattern_next next A1 A2) (g_X8_pattern_size size A1 A2) source like comes block nums sign kix osz aw bytes len place num (g_X9_pattern_now nowm A1 A2) (g_X9_pattern_past nowm pastm statesm A1 A2) (g_X9_pattern_states statesm A1 A2) (g_X9_pattern_refused refusedm A1 A2) asidem pilem camem pileLm textm textLm placem nargsm hs.2

set_option maxRecDepth 100000 in
theorem lw_draw {X : zX} {G : zG} {b L I : Nat} {xs : Nat → Int32} {ao so sr sp sq po pl pr pd eo ek to ts tl ho hm mo mb oo on xo xb dam dnm dpm drm dsm dlm dcm dtm dgm : Nat} {ka kb kc kd : Nat → Nat} {bads : Int32} {noes : Int32} {fulls : Int32} {rows : Nat → Int32} {pat : Nat → Int32} {ops : Nat → Int32} {cnt : Int32} {left : Nat → Int32} {srow : Nat → Int32} {sdot : Nat → Int32} {steps : Int32} {krows : Nat → Nat → Int32} {kpat : Nat → Nat → Int32} {kops : Nat → Nat → Int32} {kcnt : Nat → Int32} {next : Int32} {size : Int32} {source : Nat → Int32} {like : Nat → Int32} {comes : Nat → Int32} {block : Nat → Int32} {nums : Nat → Int32} {sign : Int32} {kix : Nat} {osz : Int32} {aw : Int32} {bytes : Nat → Int32} {len : Int32} {place : Int32} {num : Int32} {nowm : Nat → Int32} {pastm : Nat → Int32} {statesm : Int32} {refusedm : Nat → Int32} {asidem : Nat → Int32} {pilem : Nat → Int32} {camem : Nat → Int32} {pileLm : Int32} {textm : Nat → Int32} {textLm : Int32} {placem : Int32} {nargsm : Nat → Int32} (C : zC X G 4 cL_law RL ret 11 458) (hkn : 55 ≤ (xR X).cells ∧ 4173 ≤ (xR X).slots) (S : lwS X b L xs) (hI : I + 10 ≤ L) (h : Rel rows pat ops cnt krows kpat kops kcnt next size bytes len bads noes fulls osz nowm pastm statesm refusedm textm textLm) (kk : ∀ (bads : Int32) (noes : Int32) (fulls : Int32) (rows : Nat → Int32) (pat : Nat → Int32) (ops : Nat → Int32) (cnt : Int32) (left : Nat → Int32) (srow : Nat → Int32) (sdot : Nat → Int32) (steps : Int32) (krows : Nat → Nat → Int32) (kpat : Nat → Nat → Int32) (kops : Nat → Nat → Int32) (kcnt : Nat → Int32) (next : Int32) (size : Int32) (source : Nat → Int32) (like : Nat → Int32) (comes : Nat → Int32) (block : Nat → Int32) (nums : Nat → Int32) (sign : Int32) (kix : Nat) (osz : Int32) (aw : Int32) (bytes : Nat → Int32) (len : Int32) (place : Int32) (num : Int32) (nowm : Nat → Int32) (pastm : Nat → Int32) (statesm : Int32) (refusedm : Nat → Int32) (asidem : Nat → Int32) (pilem : Nat → Int32) (camem : Nat → Int32) (pileLm : Int32) (textm : Nat → Int32) (textLm : Int32) (placem : Int32) (nargsm : Nat → Int32), Rel rows pat ops cnt krows kpat kops kcnt next size bytes len bads noes fulls osz nowm pastm statesm refusedm textm textLm → Z X G 4 55 4173 (wPM G ao so eo to ho mo oo xo bads noes fulls ++ (wSc G so sr sp sq rows pat ops cnt ++ (wPa G po pl pr pd left srow sdot steps ++ (wPs G eo ek ka kb kc kd krows kpat kops kcnt next size ++ (wPt G to ts tl so po source like ++ (wWh G ho hm so comes ++ (wMe G mo mb so po block ++ (wOr G oo on nums sign kix osz aw ++ (wTx G xo xb bytes len place num ++ wMd G dam dnm dpm drm dsm dlm dcm dtm dgm nowm pastm statesm refusedm asidem pilem camem pileLm textm textLm placem nargsm))))))))) 1235 [(0, .ref b), (1, .ref ao), (2, .ref dam), (3, .int (nI I))] []) : Z X G 4 55 4173 (wPM G ao so eo to ho mo oo xo bads noes fulls ++ (wSc G so sr sp sq rows pat ops cnt ++ (wPa G po pl pr pd left srow sdot steps ++ (wPs G eo ek ka kb kc kd krows kpat kops kcnt next size ++ (wPt G to ts tl so po source like ++ (wWh G ho hm so comes ++ (wMe G mo mb so po block ++ (wOr G oo on nums sign kix osz aw ++ (wTx G xo xb bytes len place num ++ wMd G dam dnm dpm drm dsm dlm dcm dtm dgm nowm pastm statesm refusedm asidem pilem camem pileLm textm textLm placem nargsm))))))))) 238 [(0, .ref b), (1, .ref ao), (2, .ref dam), (3, .int (nI I))] [] := by
  obtain ⟨A1, hA1⟩ : ∃ z, xs (nI I + 1).toNatClampNeg = z := ⟨_, rfl⟩
  obtain ⟨A2, hA2⟩ : ∃ z, xs (nI I + 2).toNatClampNeg = z := ⟨_, rfl⟩
  obtain ⟨f1_, f2_, f3_, f4_, f5_, f6_, f7_⟩ := h.facts
  have hs := sim_draw  h A1 A2
  refine z_aload_n (pc := 238) C 1 dL_law_238 rfl ?_
  refine z_aload_n (pc := 239) C 0 dL_law_239 rfl ?_
  refine z_iload_n (pc := 240) C 3 dL_law_240 rfl ?_
  refine z_iconst (pc := 241) (v := 1) C dL_law_241 (by decide) ?_
  refine z_iadd (pc := 242) C dL_law_242 ?_
  refine z_sld (pc := 243) C S dL_law_243 (ix_s (j := 1) hI S.2.2.2 rfl (by decide)) hA1 ?_
  refine z_aload_n (pc := 244) C 0 dL_law_244 rfl ?_
  refine z_iload_n (pc := 245) C 3 dL_law_245 rfl ?_
  refine z_iconst (pc := 246) (v := 2) C dL_law_246 (by decide) ?_
  refine z_iadd (pc := 247) C dL_law_247 ?_
  refine z_sld (pc := 248) C S dL_law_248 (ix_s (j := 2) hI S.2.2.2 rfl (by decide)) hA2 ?_
  refine z_callV (pc := 249) C (c_X8_draw (ka := ka) (kb := kb) (kc := kc) (kd := kd) (krows := krows) (kpat := kpat) (kops := kops) (kcnt := kcnt) (by assumption)) ((List.range 1) ++ (((List.range 4).map (1 + ·)) ++ (((((List.range 26).map (4 + ·)).map (4 + ·)).map (1 + ·)) ++ (((((((List.range 2).map (3 + ·)).map (26 + ·)).map (4 + ·)).map (4 + ·)).map (1 + ·)) ++ (((((((List.range 2).map (2 + ·)).map (3 + ·)).map (26 + ·)).map (4 + ·)).map (4 + ·)).map (1 + ·)))))) hkn mV_X8_draw q_342 dL_law_249 rfl rfl (zg_app (zg_head (by rfl)) (zg_app (zg_sk (by rfl) (zg_head (by rfl))) (zg_app (zg_sk (by rfl) (zg_sk (by rfl) (zg_sk (by rfl) (zg_head (by rfl))))) (zg_app (zg_sk (by rfl) (zg_sk (by rfl) (zg_sk (by rfl) (zg_sk (by rfl) (zg_sk (by rfl) (zg_head (by rfl))))))) (zg_sk (by rfl) (zg_sk (by rfl) (zg_sk (by rfl) (zg_sk (by rfl) (zg_sk (by rfl) (zg_sk (by rfl) (zg_head (by rfl)))))))))))) 0 rfl rfl rfl rfl (Nat.le_of_ble_eq_true rfl) (by decide) (pI.go (ws' := wPM G ao so eo to ho mo oo xo _ noes fulls ++ (wSc G so sr sp sq _ pat ops cnt ++ (wPa G po pl pr pd left srow sdot steps ++ (wPs G eo ek ka kb kc kd (g_X8_draw_krows rows krows next A1 A2) (g_X8_draw_kpat pat kpat next A1 A2) (g_X8_draw_kops ops kops next A1 A2) (g_X8_draw_kcnt cnt kcnt next A1 A2) (g_X8_draw_next next A1 A2) (g_X8_draw_size size A1 A2) ++ (wPt G to ts tl so po source like ++ (wWh G ho hm so comes ++ (wMe G mo mb so po block ++ (wOr G oo on nums sign kix osz aw ++ (wTx G xo xb bytes len place num ++ wMd G dam dnm dpm drm dsm dlm dcm dtm dgm nowm pastm statesm refusedm asidem pilem camem pileLm textm textLm placem nargsm))))))))) (zp_two (by rfl) (zp_head (by rfl) (by rfl)) (zp_two (by rfl) (zp_sk (by rfl) (zp_head (by rfl) (by rfl))) (zp_two (by rfl) (zp_sk (by rfl) (zp_sk (by rfl) (zp_sk (by rfl) (zp_head (by rfl) (by rfl))))) (zp_two (by rfl) (zp_sk (by rfl) (zp_sk (by rfl) (zp_sk (by rfl) (zp_sk (by rfl) (zp_sk (by rfl) (zp_head (by rfl) (by rfl))))))) (zp_sk (by rfl) (zp_sk (by rfl) (zp_sk (by rfl) (zp_sk (by rfl) (zp_sk (by rfl) (zp_sk (by rfl) (zp_head (by rfl) (by rfl)))))))))))) ?_)
  refine z_aload_n (pc := 252) C 2 dL_law_252 rfl ?_
  refine z_aload_n (pc := 253) C 0 dL_law_253 rfl ?_
  refine z_iload_n (pc := 254) C 3 dL_law_254 rfl ?_
  refine z_iconst (pc := 255) (v := 1) C dL_law_255 (by decide) ?_
  refine z_iadd (pc := 256) C dL_law_256 ?_
  refine z_sld (pc := 257) C S dL_law_257 (ix_s (j := 1) hI S.2.2.2 rfl (by decide)) hA1 ?_
  refine z_aload_n (pc := 258) C 0 dL_law_258 rfl ?_
  refine z_iload_n (pc := 259) C 3 dL_law_259 rfl ?_
  refine z_iconst (pc := 260) (v := 2) C dL_law_260 (by decide) ?_
  refine z_iadd (pc := 261) C dL_law_261 ?_
  refine z_sld (pc := 262) C S dL_law_262 (ix_s (j := 2) hI S.2.2.2 rfl (by decide)) hA2 ?_
  refine z_callV (pc := 263) C (c_X9_draw (by assumption)) ((((((((((List.range 9).map (2 + ·)).map (2 + ·)).map (2 + ·)).map (2 + ·)).map (3 + ·)).map (26 + ·)).map (4 + ·)).map (4 + ·)).map (1 + ·)) hkn mV_X9_draw q_908 dL_law_263 rfl rfl (zg_sk (by rfl) (zg_sk (by rfl) (zg_sk (by rfl) (zg_sk (by rfl) (zg_sk (by rfl) (zg_sk (by rfl) (zg_sk (by rfl) (zg_sk (by rfl) (zg_sk (by rfl) (zg_last (by rfl))))))))))) 46 rfl rfl rfl rfl (Nat.le_of_ble_eq_true rfl) (by decide) (pI.go (ws' := wPM G ao so eo to ho mo oo xo _ noes fulls ++ (wSc G so sr sp sq _ pat ops cnt ++ (wPa G po pl pr pd left srow sdot steps ++ (wPs G eo ek ka kb kc kd (g_X8_draw_krows rows krows next A1 A2) (g_X8_draw_kpat pat kpat next A1 A2) (g_X8_draw_kops ops kops next A1 A2) (g_X8_draw_kcnt cnt kcnt next A1 A2) (g_X8_draw_next next A1 A2) (g_X8_draw_size size A1 A2) ++ (wPt G to ts tl so po source like ++ (wWh G ho hm so comes ++ (wMe G mo mb so po block ++ (wOr G oo on nums sign kix osz aw ++ (wTx G xo xb bytes len place num ++ wMd G dam dnm dpm drm dsm dlm dcm dtm dgm _ _ _ _ asidem pilem camem pileLm textm textLm placem nargsm))))))))) (zp_sk (by rfl) (zp_sk (by rfl) (zp_sk (by rfl) (zp_sk (by rfl) (zp_sk (by rfl) (zp_sk (by rfl) (zp_sk (by rfl) (zp_sk (by rfl) (zp_sk (by rfl) (zp_last (by rfl) (by rfl))))))))))) ?_)
  refine z_icmp_eq (pc := 266) 1235 C dL_law_266 (by decide) (fun _ => ?_) (fun q => absurd hs.1 q)
  exact kk (g_X8_draw_bads bads A1 A2) noes fulls (g_X8_draw_rows rows A1 A2) pat ops cnt left srow sdot steps (g_X8_draw_krows rows krows next A1 A2) (g_X8_draw_kpat pat kpat next A1 A2) (g_X8_draw_kops ops kops next A1 A2) (g_X8_draw_kcnt cnt kcnt next A1 A2) (g_X8_draw_next next A1 A2) (g_X8_draw_size size A1 A2) source like comes block nums sign kix osz aw bytes len place num (g_X9_draw_now nowm A1 A2) (g_X9_draw_past nowm pastm statesm A1 A2) (g_X9_draw_states statesm A1 A2) (g_X9_draw_refused refusedm A1 A2) asidem pilem camem pileLm textm textLm placem nargsm hs.2

set_option maxRecDepth 100000 in
theorem lw_opening {X : zX} {G : zG} {b L I : Nat} {xs : Nat → Int32} {ao so sr sp sq po pl pr pd eo ek to ts tl ho hm mo mb oo on xo xb dam dnm dpm drm dsm dlm dcm dtm dgm : Nat} {ka kb kc kd : Nat → Nat} {bads : Int32} {noes : Int32} {fulls : Int32} {rows : Nat → Int32} {pat : Nat → Int32} {ops : Nat → Int32} {cnt : Int32} {left : Nat → Int32} {srow : Nat → Int32} {sdot : Nat → Int32} {steps : Int32} {krows : Nat → Nat → Int32} {kpat : Nat → Nat → Int32} {kops : Nat → Nat → Int32} {kcnt : Nat → Int32} {next : Int32} {size : Int32} {source : Nat → Int32} {like : Nat → Int32} {comes : Nat → Int32} {block : Nat → Int32} {nums : Nat → Int32} {sign : Int32} {kix : Nat} {osz : Int32} {aw : Int32} {bytes : Nat → Int32} {len : Int32} {place : Int32} {num : Int32} {nowm : Nat → Int32} {pastm : Nat → Int32} {statesm : Int32} {refusedm : Nat → Int32} {asidem : Nat → Int32} {pilem : Nat → Int32} {camem : Nat → Int32} {pileLm : Int32} {textm : Nat → Int32} {textLm : Int32} {placem : Int32} {nargsm : Nat → Int32} (C : zC X G 4 cL_law RL ret 11 458) (hkn : 55 ≤ (xR X).cells ∧ 4173 ≤ (xR X).slots) (S : lwS X b L xs) (hI : I + 10 ≤ L) (h : Rel rows pat ops cnt krows kpat kops kcnt next size bytes len bads noes fulls osz nowm pastm statesm refusedm textm textLm) (kk : ∀ (bads : Int32) (noes : Int32) (fulls : Int32) (rows : Nat → Int32) (pat : Nat → Int32) (ops : Nat → Int32) (cnt : Int32) (left : Nat → Int32) (srow : Nat → Int32) (sdot : Nat → Int32) (steps : Int32) (krows : Nat → Nat → Int32) (kpat : Nat → Nat → Int32) (kops : Nat → Nat → Int32) (kcnt : Nat → Int32) (next : Int32) (size : Int32) (source : Nat → Int32) (like : Nat → Int32) (comes : Nat → Int32) (block : Nat → Int32) (nums : Nat → Int32) (sign : Int32) (kix : Nat) (osz : Int32) (aw : Int32) (bytes : Nat → Int32) (len : Int32) (place : Int32) (num : Int32) (nowm : Nat → Int32) (pastm : Nat → Int32) (statesm : Int32) (refusedm : Nat → Int32) (asidem : Nat → Int32) (pilem : Nat → Int32) (camem : Nat → Int32) (pileLm : Int32) (textm : Nat → Int32) (textLm : Int32) (placem : Int32) (nargsm : Nat → Int32), Rel rows pat ops cnt krows kpat kops kcnt next size bytes len bads noes fulls osz nowm pastm statesm refusedm textm textLm → Z X G 4 55 4173 (wPM G ao so eo to ho mo oo xo bads noes fulls ++ (wSc G so sr sp sq rows pat ops cnt ++ (wPa G po pl pr pd left srow sdot steps ++ (wPs G eo ek ka kb kc kd krows kpat kops kcnt next size ++ (wPt G to ts tl so po source like ++ (wWh G ho hm so comes ++ (wMe G mo mb so po block ++ (wOr G oo on nums sign kix osz aw ++ (wTx G xo xb bytes len place num ++ wMd G dam dnm dpm drm dsm dlm dcm dtm dgm nowm pastm statesm refusedm asidem pilem camem pileLm textm textLm placem nargsm))))))))) 1235 [(0, .ref b), (1, .ref ao), (2, .ref dam), (3, .int (nI I))] []) : Z X G 4 55 4173 (wPM G ao so eo to ho mo oo xo bads noes fulls ++ (wSc G so sr sp sq rows pat ops cnt ++ (wPa G po pl pr pd left srow sdot steps ++ (wPs G eo ek ka kb kc kd krows kpat kops kcnt next size ++ (wPt G to ts tl so po source like ++ (wWh G ho hm so comes ++ (wMe G mo mb so po block ++ (wOr G oo on nums sign kix osz aw ++ (wTx G xo xb bytes len place num ++ wMd G dam dnm dpm drm dsm dlm dcm dtm dgm nowm pastm statesm refusedm asidem pilem camem pileLm textm textLm placem nargsm))))))))) 271 [(0, .ref b), (1, .ref ao), (2, .ref dam), (3, .int (nI I))] [] := by
  obtain ⟨A1, hA1⟩ : ∃ z, xs (nI I + 1).toNatClampNeg = z := ⟨_, rfl⟩
  obtain ⟨A2, hA2⟩ : ∃ z, xs (nI I + 2).toNatClampNeg = z := ⟨_, rfl⟩
  obtain ⟨A3, hA3⟩ : ∃ z, xs (nI I + 3).toNatClampNeg = z := ⟨_, rfl⟩
  obtain ⟨A4, hA4⟩ : ∃ z, xs (nI I + 4).toNatClampNeg = z := ⟨_, rfl⟩
  obtain ⟨f1_, f2_, f3_, f4_, f5_, f6_, f7_⟩ := h.facts
  have hs := sim_opening (left := left) (srow := srow) (sdot := sdot) (source := source) (like := like) (nums := nums) h A1 A2 A3 A4
  refine z_aload_n (pc := 271) C 1 dL_law_271 rfl ?_
  refine z_aload_n (pc := 272) C 0 dL_law_272 rfl ?_
  refine z_iload_n (pc := 273) C 3 dL_law_273 rfl ?_
  refine z_iconst (pc := 274) (v := 1) C dL_law_274 (by decide) ?_
  refine z_iadd (pc := 275) C dL_law_275 ?_
  refine z_sld (pc := 276) C S dL_law_276 (ix_s (j := 1) hI S.2.2.2 rfl (by decide)) hA1 ?_
  refine z_aload_n (pc := 277) C 0 dL_law_277 rfl ?_
  refine z_iload_n (pc := 278) C 3 dL_law_278 rfl ?_
  refine z_iconst (pc := 279) (v := 2) C dL_law_279 (by decide) ?_
  refine z_iadd (pc := 280) C dL_law_280 ?_
  refine z_sld (pc := 281) C S dL_law_281 (ix_s (j := 2) hI S.2.2.2 rfl (by decide)) hA2 ?_
  refine z_aload_n (pc := 282) C 0 dL_law_282 rfl ?_
  refine z_iload_n (pc := 283) C 3 dL_law_283 rfl ?_
  refine z_iconst (pc := 284) (v := 3) C dL_law_284 (by decide) ?_
  refine z_iadd (pc := 285) C dL_law_285 ?_
  refine z_sld (pc := 286) C S dL_law_286 (ix_s (j := 3) hI S.2.2.2 rfl (by decide)) hA3 ?_
  refine z_aload_n (pc := 287) C 0 dL_law_287 rfl ?_
  refine z_iload_n (pc := 288) C 3 dL_law_288 rfl ?_
  refine z_iconst (pc := 289) (v := 4) C dL_law_289 (by decide) ?_
  refine z_iadd (pc := 290) C dL_law_290 ?_
  refine z_sld (pc := 291) C S dL_law_291 (ix_s (j := 4) hI S.2.2.2 rfl (by decide)) hA4 ?_
  refine z_callV (pc := 292) C (c_X8_opening (ka := ka) (kb := kb) (kc := kc) (kd := kd) (krows := krows) (kpat := kpat) (kops := kops) (kcnt := kcnt) (by assumption) (by assumption)) ((List.range 1) ++ (((List.range 4).map (1 + ·)) ++ (((((List.range 26).map (4 + ·)).map (4 + ·)).map (1 + ·)) ++ ((((((List.range 3).map (26 + ·)).map (4 + ·)).map (4 + ·)).map (1 + ·)) ++ ((((List.range 4).map (4 + ·)).map (1 + ·)) ++ ((((((((List.range 2).map (2 + ·)).map (2 + ·)).map (3 + ·)).map (26 + ·)).map (4 + ·)).map (4 + ·)).map (1 + ·))))))) hkn mV_X8_opening q_382 dL_law_292 rfl rfl (zg_app (zg_head (by rfl)) (zg_app (zg_sk (by rfl) (zg_head (by rfl))) (zg_app (zg_sk (by rfl) (zg_sk (by rfl) (zg_sk (by rfl) (zg_head (by rfl))))) (zg_app (zg_sk (by rfl) (zg_sk (by rfl) (zg_sk (by rfl) (zg_sk (by rfl) (zg_head (by rfl)))))) (zg_app (zg_sk (by rfl) (zg_sk (by rfl) (zg_head (by rfl)))) (zg_sk (by rfl) (zg_sk (by rfl) (zg_sk (by rfl) (zg_sk (by rfl) (zg_sk (by rfl) (zg_sk (by rfl) (zg_sk (by rfl) (zg_head (by rfl)))))))))))))) 0 rfl rfl rfl rfl (Nat.le_of_ble_eq_true rfl) (by decide) (pI.go (ws' := wPM G ao so eo to ho mo oo xo _ noes _ ++ (wSc G so sr sp sq _ pat _ _ ++ (wPa G po pl pr pd _ _ _ _ ++ (wPs G eo ek ka kb kc kd (g_X8_opening_krows rows cnt krows next A1 A2 A3 A4) (g_X8_opening_kpat pat cnt kpat next A1 A2 A3 A4) (g_X8_opening_kops ops cnt kops next A1 A2 A3 A4) (g_X8_opening_kcnt cnt kcnt next A1 A2 A3 A4) (g_X8_opening_next cnt next A1 A2 A3 A4) (g_X8_opening_size cnt size A1 A2 A3 A4) ++ (wPt G to ts tl so po _ _ ++ (wWh G ho hm so comes ++ (wMe G mo mb so po block ++ (wOr G oo on _ _ _ _ _ ++ (wTx G xo xb bytes len place num ++ wMd G dam dnm dpm drm dsm dlm dcm dtm dgm nowm pastm statesm refusedm asidem pilem camem pileLm textm textLm placem nargsm))))))))) (zp_two (by rfl) (zp_head (by rfl) (by rfl)) (zp_two (by rfl) (zp_sk (by rfl) (zp_head (by rfl) (by rfl))) (zp_two (by rfl) (zp_sk (by rfl) (zp_sk (by rfl) (zp_sk (by rfl) (zp_head (by rfl) (by rfl))))) (zp_two (by rfl) (zp_sk (by rfl) (zp_sk (by rfl) (zp_sk (by rfl) (zp_sk (by rfl) (zp_head (by rfl) (by rfl)))))) (zp_two (by rfl) (zp_sk (by rfl) (zp_sk (by rfl) (zp_head (by rfl) (by rfl)))) (zp_sk (by rfl) (zp_sk (by rfl) (zp_sk (by rfl) (zp_sk (by rfl) (zp_sk (by rfl) (zp_sk (by rfl) (zp_sk (by rfl) (zp_head (by rfl) (by rfl)))))))))))))) ?_)
  refine z_aload_n (pc := 295) C 2 dL_law_295 rfl ?_
  refine z_aload_n (pc := 296) C 0 dL_law_296 rfl ?_
  refine z_iload_n (pc := 297) C 3 dL_law_297 rfl ?_
  refine z_iconst (pc := 298) (v := 1) C dL_law_298 (by decide) ?_
  refine z_iadd (pc := 299) C dL_law_299 ?_
  refine z_sld (pc := 300) C S dL_law_300 (ix_s (j := 1) hI S.2.2.2 rfl (by decide)) hA1 ?_
  refine z_aload_n (pc := 301) C 0 dL_law_301 rfl ?_
  refine z_iload_n (pc := 302) C 3 dL_law_302 rfl ?_
  refine z_iconst (pc := 303) (v := 2) C dL_law_303 (by decide) ?_
  refine z_iadd (pc := 304) C dL_law_304 ?_
  refine z_sld (pc := 305) C S dL_law_305 (ix_s (j := 2) hI S.2.2.2 rfl (by decide)) hA2 ?_
  refine z_aload_n (pc := 306) C 0 dL_law_306 rfl ?_
  refine z_iload_n (pc := 307) C 3 dL_law_307 rfl ?_
  refine z_iconst (pc := 308) (v := 3) C dL_law_308 (by decide) ?_
  refine z_iadd (pc := 309) C dL_law_309 ?_
  refine z_sld (pc := 310) C S dL_law_310 (ix_s (j := 3) hI S.2.2.2 rfl (by decide)) hA3 ?_
  refine z_aload_n (pc := 311) C 0 dL_law_311 rfl ?_
  refine z_iload_n (pc := 312) C 3 dL_law_312 rfl ?_
  refine z_iconst (pc := 313) (v := 4) C dL_law_313 (by decide) ?_
  refine z_iadd (pc := 314) C dL_law_314 ?_
  refine z_sld (pc := 315) C S dL_law_315 (ix_s (j := 4) hI S.2.2.2 rfl (by decide)) hA4 ?_
  refine z_callV (pc := 316) C (c_X9_opening (by assumption) (by assumption)) ((((((((((List.range 9).map (2 + ·)).map (2 + ·)).map (2 + ·)).map (2 + ·)).map (3 + ·)).map (26 + ·)).map (4 + ·)).map (4 + ·)).map (1 + ·)) hkn mV_X9_opening q_922 dL_law_316 rfl rfl (zg_sk (by rfl) (zg_sk (by rfl) (zg_sk (by rfl) (zg_sk (by rfl) (zg_sk (by rfl) (zg_sk (by rfl) (zg_sk (by rfl) (zg_sk (by rfl) (zg_sk (by rfl) (zg_last (by rfl))))))))))) 46 rfl rfl rfl rfl (Nat.le_of_ble_eq_true rfl) (by decide) (pI.go (ws' := wPM G ao so eo to ho mo oo xo _ noes _ ++ (wSc G so sr sp sq _ pat _ _ ++ (wPa G po pl pr pd _ _ _ _ ++ (wPs G eo ek ka kb kc kd (g_X8_opening_krows rows cnt krows next A1 A2 A3 A4) (g_X8_opening_kpat pat cnt kpat next A1 A2 A3 A4) (g_X8_opening_kops ops cnt kops next A1 A2 A3 A4) (g_X8_opening_kcnt cnt kcnt next A1 A2 A3 A4) (g_X8_opening_next cnt next A1 A2 A3 A4) (g_X8_opening_size cnt size A1 A2 A3 A4) ++ (wPt G to ts tl so po _ _ ++ (wWh G ho hm so comes ++ (wMe G mo mb so po block ++ (wOr G oo on _ _ _ _ _ ++ (wTx G xo xb bytes len place num ++ wMd G dam dnm dpm drm dsm dlm dcm dtm dgm _ _ _ _ asidem pilem camem pileLm textm textLm placem nargsm))))))))) (zp_sk (by rfl) (zp_sk (by rfl) (zp_sk (by rfl) (zp_sk (by rfl) (zp_sk (by rfl) (zp_sk (by rfl) (zp_sk (by rfl) (zp_sk (by rfl) (zp_sk (by rfl) (zp_last (by rfl) (by rfl))))))))))) ?_)
  refine z_icmp_eq (pc := 319) 1235 C dL_law_319 (by decide) (fun _ => ?_) (fun q => absurd hs.1 q)
  exact kk (g_X8_opening_bads bads A1 A2 A3 A4) noes (g_X8_opening_fulls fulls cnt A1 A2 A3 A4) (g_X8_opening_rows rows pat ops cnt source like left srow sdot nums A1 A2 A3 A4) pat (g_X8_opening_ops ops cnt nums A1 A2 A3 A4) (g_X8_opening_cnt cnt A1 A2 A3 A4) (g_X8_opening_left rows ops cnt like left srow sdot nums A1 A2 A3 A4) (g_X8_opening_srow rows ops cnt like left srow sdot nums A1 A2 A3 A4) (g_X8_opening_sdot rows ops cnt like left srow sdot nums A1 A2 A3 A4) (g_X8_opening_steps rows ops cnt like left srow sdot steps nums A1 A2 A3 A4) (g_X8_opening_krows rows cnt krows next A1 A2 A3 A4) (g_X8_opening_kpat pat cnt kpat next A1 A2 A3 A4) (g_X8_opening_kops ops cnt kops next A1 A2 A3 A4) (g_X8_opening_kcnt cnt kcnt next A1 A2 A3 A4) (g_X8_opening_next cnt next A1 A2 A3 A4) (g_X8_opening_size cnt size A1 A2 A3 A4) (g_X8_opening_source rows cnt source nums A1 A2 A3 A4) (g_X8_opening_like rows ops cnt like left nums A1 A2 A3 A4) comes block (g_X8_opening_nums nums A1 A2 A3 A4) g_X8_opening_sign g_X8_opening_kix g_X8_opening_osz (g_X8_opening_aw A1 A2 A3 A4) bytes len place num (g_X9_opening_now nowm A1 A2 A3 A4) (g_X9_opening_past nowm pastm statesm A1 A2 A3 A4) (g_X9_opening_states nowm statesm A1 A2 A3 A4) (g_X9_opening_refused nowm refusedm A1 A2 A3 A4) asidem pilem camem pileLm textm textLm placem nargsm hs.2

set_option maxRecDepth 100000 in
theorem lw_closes {X : zX} {G : zG} {b L I : Nat} {xs : Nat → Int32} {ao so sr sp sq po pl pr pd eo ek to ts tl ho hm mo mb oo on xo xb dam dnm dpm drm dsm dlm dcm dtm dgm : Nat} {ka kb kc kd : Nat → Nat} {bads : Int32} {noes : Int32} {fulls : Int32} {rows : Nat → Int32} {pat : Nat → Int32} {ops : Nat → Int32} {cnt : Int32} {left : Nat → Int32} {srow : Nat → Int32} {sdot : Nat → Int32} {steps : Int32} {krows : Nat → Nat → Int32} {kpat : Nat → Nat → Int32} {kops : Nat → Nat → Int32} {kcnt : Nat → Int32} {next : Int32} {size : Int32} {source : Nat → Int32} {like : Nat → Int32} {comes : Nat → Int32} {block : Nat → Int32} {nums : Nat → Int32} {sign : Int32} {kix : Nat} {osz : Int32} {aw : Int32} {bytes : Nat → Int32} {len : Int32} {place : Int32} {num : Int32} {nowm : Nat → Int32} {pastm : Nat → Int32} {statesm : Int32} {refusedm : Nat → Int32} {asidem : Nat → Int32} {pilem : Nat → Int32} {camem : Nat → Int32} {pileLm : Int32} {textm : Nat → Int32} {textLm : Int32} {placem : Int32} {nargsm : Nat → Int32} (C : zC X G 4 cL_law RL ret 11 458) (hkn : 55 ≤ (xR X).cells ∧ 4173 ≤ (xR X).slots) (S : lwS X b L xs) (hI : I + 10 ≤ L) (h : Rel rows pat ops cnt krows kpat kops kcnt next size bytes len bads noes fulls osz nowm pastm statesm refusedm textm textLm) (kk : ∀ (bads : Int32) (noes : Int32) (fulls : Int32) (rows : Nat → Int32) (pat : Nat → Int32) (ops : Nat → Int32) (cnt : Int32) (left : Nat → Int32) (srow : Nat → Int32) (sdot : Nat → Int32) (steps : Int32) (krows : Nat → Nat → Int32) (kpat : Nat → Nat → Int32) (kops : Nat → Nat → Int32) (kcnt : Nat → Int32) (next : Int32) (size : Int32) (source : Nat → Int32) (like : Nat → Int32) (comes : Nat → Int32) (block : Nat → Int32) (nums : Nat → Int32) (sign : Int32) (kix : Nat) (osz : Int32) (aw : Int32) (bytes : Nat → Int32) (len : Int32) (place : Int32) (num : Int32) (nowm : Nat → Int32) (pastm : Nat → Int32) (statesm : Int32) (refusedm : Nat → Int32) (asidem : Nat → Int32) (pilem : Nat → Int32) (camem : Nat → Int32) (pileLm : Int32) (textm : Nat → Int32) (textLm : Int32) (placem : Int32) (nargsm : Nat → Int32), Rel rows pat ops cnt krows kpat kops kcnt next size bytes len bads noes fulls osz nowm pastm statesm refusedm textm textLm → Z X G 4 55 4173 (wPM G ao so eo to ho mo oo xo bads noes fulls ++ (wSc G so sr sp sq rows pat ops cnt ++ (wPa G po pl pr pd left srow sdot steps ++ (wPs G eo ek ka kb kc kd krows kpat kops kcnt next size ++ (wPt G to ts tl so po source like ++ (wWh G ho hm so comes ++ (wMe G mo mb so po block ++ (wOr G oo on nums sign kix osz aw ++ (wTx G xo xb bytes len place num ++ wMd G dam dnm dpm drm dsm dlm dcm dtm dgm nowm pastm statesm refusedm asidem pilem camem pileLm textm textLm placem nargsm))))))))) 1235 [(0, .ref b), (1, .ref ao), (2, .ref dam), (3, .int (nI I))] []) : Z X G 4 55 4173 (wPM G ao so eo to ho mo oo xo bads noes fulls ++ (wSc G so sr sp sq rows pat ops cnt ++ (wPa G po pl pr pd left srow sdot steps ++ (wPs G eo ek ka kb kc kd krows kpat kops kcnt next size ++ (wPt G to ts tl so po source like ++ (wWh G ho hm so comes ++ (wMe G mo mb so po block ++ (wOr G oo on nums sign kix osz aw ++ (wTx G xo xb bytes len place num ++ wMd G dam dnm dpm drm dsm dlm dcm dtm dgm nowm pastm statesm refusedm asidem pilem camem pileLm textm textLm placem nargsm))))))))) 324 [(0, .ref b), (1, .ref ao), (2, .ref dam), (3, .int (nI I))] [] := by
  obtain ⟨f1_, f2_, f3_, f4_, f5_, f6_, f7_⟩ := h.facts
  have hs := sim_closes  h 
  refine z_aload_n (pc := 324) C 1 dL_law_324 rfl ?_
  refine z_callV (pc := 325) C (c_X8_closes (ka := ka) (kb := kb) (kc := kc) (kd := kd) (krows := krows) (kpat := kpat) (kops := kops) (kcnt := kcnt) (by assumption)) ((List.range 1) ++ (((List.range 4).map (1 + ·)) ++ ((((List.range 26).map (4 + ·)).map (4 + ·)).map (1 + ·)))) hkn mV_X8_closes q_569 dL_law_325 rfl rfl (zg_app (zg_head (by rfl)) (zg_app (zg_sk (by rfl) (zg_head (by rfl))) (zg_sk (by rfl) (zg_sk (by rfl) (zg_sk (by rfl) (zg_head (by rfl))))))) 0 rfl rfl rfl rfl (Nat.le_of_ble_eq_true rfl) (by decide) (pI.go (ws' := wPM G ao so eo to ho mo oo xo bads noes fulls ++ (wSc G so sr sp sq rows pat ops _ ++ (wPa G po pl pr pd left srow sdot steps ++ (wPs G eo ek ka kb kc kd (g_X8_closes_krows rows krows next) (g_X8_closes_kpat pat kpat next) (g_X8_closes_kops ops kops next) (g_X8_closes_kcnt cnt kcnt next) (g_X8_closes_next next) (g_X8_closes_size size) ++ (wPt G to ts tl so po source like ++ (wWh G ho hm so comes ++ (wMe G mo mb so po block ++ (wOr G oo on nums sign kix osz aw ++ (wTx G xo xb bytes len place num ++ wMd G dam dnm dpm drm dsm dlm dcm dtm dgm nowm pastm statesm refusedm asidem pilem camem pileLm textm textLm placem nargsm))))))))) (zp_two (by rfl) (zp_head (by rfl) (by rfl)) (zp_two (by rfl) (zp_sk (by rfl) (zp_head (by rfl) (by rfl))) (zp_sk (by rfl) (zp_sk (by rfl) (zp_sk (by rfl) (zp_head (by rfl) (by rfl))))))) ?_)
  refine z_aload_n (pc := 328) C 2 dL_law_328 rfl ?_
  refine z_callV (pc := 329) C (c_X9_closes (by assumption)) ((((((((((List.range 9).map (2 + ·)).map (2 + ·)).map (2 + ·)).map (2 + ·)).map (3 + ·)).map (26 + ·)).map (4 + ·)).map (4 + ·)).map (1 + ·)) hkn mV_X9_closes q_943 dL_law_329 rfl rfl (zg_sk (by rfl) (zg_sk (by rfl) (zg_sk (by rfl) (zg_sk (by rfl) (zg_sk (by rfl) (zg_sk (by rfl) (zg_sk (by rfl) (zg_sk (by rfl) (zg_sk (by rfl) (zg_last (by rfl))))))))))) 46 rfl rfl rfl rfl (Nat.le_of_ble_eq_true rfl) (by decide) (pI.go (ws' := wPM G ao so eo to ho mo oo xo bads noes fulls ++ (wSc G so sr sp sq rows pat ops _ ++ (wPa G po pl pr pd left srow sdot steps ++ (wPs G eo ek ka kb kc kd (g_X8_closes_krows rows krows next) (g_X8_closes_kpat pat kpat next) (g_X8_closes_kops ops kops next) (g_X8_closes_kcnt cnt kcnt next) (g_X8_closes_next next) (g_X8_closes_size size) ++ (wPt G to ts tl so po source like ++ (wWh G ho hm so comes ++ (wMe G mo mb so po block ++ (wOr G oo on nums sign kix osz aw ++ (wTx G xo xb bytes len place num ++ wMd G dam dnm dpm drm dsm dlm dcm dtm dgm _ _ _ refusedm asidem pilem camem pileLm textm textLm placem nargsm))))))))) (zp_sk (by rfl) (zp_sk (by rfl) (zp_sk (by rfl) (zp_sk (by rfl) (zp_sk (by rfl) (zp_sk (by rfl) (zp_sk (by rfl) (zp_sk (by rfl) (zp_sk (by rfl) (zp_last (by rfl) (by rfl))))))))))) ?_)
  refine z_icmp_eq (pc := 332) 1235 C dL_law_332 (by decide) (fun _ => ?_) (fun q => absurd hs.1 q)
  exact kk bads noes fulls rows pat ops g_X8_closes_cnt left srow sdot steps (g_X8_closes_krows rows krows next) (g_X8_closes_kpat pat kpat next) (g_X8_closes_kops ops kops next) (g_X8_closes_kcnt cnt kcnt next) (g_X8_closes_next next) (g_X8_closes_size size) source like comes block nums sign kix osz aw bytes len place num (g_X9_closes_now nowm) (g_X9_closes_past nowm pastm statesm) (g_X9_closes_states statesm) refusedm asidem pilem camem pileLm textm textLm placem nargsm hs.2

set_option maxRecDepth 100000 in
theorem lw_move {X : zX} {G : zG} {b L I : Nat} {xs : Nat → Int32} {ao so sr sp sq po pl pr pd eo ek to ts tl ho hm mo mb oo on xo xb dam dnm dpm drm dsm dlm dcm dtm dgm : Nat} {ka kb kc kd : Nat → Nat} {bads : Int32} {noes : Int32} {fulls : Int32} {rows : Nat → Int32} {pat : Nat → Int32} {ops : Nat → Int32} {cnt : Int32} {left : Nat → Int32} {srow : Nat → Int32} {sdot : Nat → Int32} {steps : Int32} {krows : Nat → Nat → Int32} {kpat : Nat → Nat → Int32} {kops : Nat → Nat → Int32} {kcnt : Nat → Int32} {next : Int32} {size : Int32} {source : Nat → Int32} {like : Nat → Int32} {comes : Nat → Int32} {block : Nat → Int32} {nums : Nat → Int32} {sign : Int32} {kix : Nat} {osz : Int32} {aw : Int32} {bytes : Nat → Int32} {len : Int32} {place : Int32} {num : Int32} {nowm : Nat → Int32} {pastm : Nat → Int32} {statesm : Int32} {refusedm : Nat → Int32} {asidem : Nat → Int32} {pilem : Nat → Int32} {camem : Nat → Int32} {pileLm : Int32} {textm : Nat → Int32} {textLm : Int32} {placem : Int32} {nargsm : Nat → Int32} (C : zC X G 4 cL_law RL ret 11 458) (hkn : 55 ≤ (xR X).cells ∧ 4173 ≤ (xR X).slots) (S : lwS X b L xs) (hI : I + 10 ≤ L) (h : Rel rows pat ops cnt krows kpat kops kcnt next size bytes len bads noes fulls osz nowm pastm statesm refusedm textm textLm) (kk : ∀ (bads : Int32) (noes : Int32) (fulls : Int32) (rows : Nat → Int32) (pat : Nat → Int32) (ops : Nat → Int32) (cnt : Int32) (left : Nat → Int32) (srow : Nat → Int32) (sdot : Nat → Int32) (steps : Int32) (krows : Nat → Nat → Int32) (kpat : Nat → Nat → Int32) (kops : Nat → Nat → Int32) (kcnt : Nat → Int32) (next : Int32) (size : Int32) (source : Nat → Int32) (like : Nat → Int32) (comes : Nat → Int32) (block : Nat → Int32) (nums : Nat → Int32) (sign : Int32) (kix : Nat) (osz : Int32) (aw : Int32) (bytes : Nat → Int32) (len : Int32) (place : Int32) (num : Int32) (nowm : Nat → Int32) (pastm : Nat → Int32) (statesm : Int32) (refusedm : Nat → Int32) (asidem : Nat → Int32) (pilem : Nat → Int32) (camem : Nat → Int32) (pileLm : Int32) (textm : Nat → Int32) (textLm : Int32) (placem : Int32) (nargsm : Nat → Int32), Rel rows pat ops cnt krows kpat kops kcnt next size bytes len bads noes fulls osz nowm pastm statesm refusedm textm textLm → Z X G 4 55 4173 (wPM G ao so eo to ho mo oo xo bads noes fulls ++ (wSc G so sr sp sq rows pat ops cnt ++ (wPa G po pl pr pd left srow sdot steps ++ (wPs G eo ek ka kb kc kd krows kpat kops kcnt next size ++ (wPt G to ts tl so po source like ++ (wWh G ho hm so comes ++ (wMe G mo mb so po block ++ (wOr G oo on nums sign kix osz aw ++ (wTx G xo xb bytes len place num ++ wMd G dam dnm dpm drm dsm dlm dcm dtm dgm nowm pastm statesm refusedm asidem pilem camem pileLm textm textLm placem nargsm))))))))) 1235 [(0, .ref b), (1, .ref ao), (2, .ref dam), (3, .int (nI I))] []) : Z X G 4 55 4173 (wPM G ao so eo to ho mo oo xo bads noes fulls ++ (wSc G so sr sp sq rows pat ops cnt ++ (wPa G po pl pr pd left srow sdot steps ++ (wPs G eo ek ka kb kc kd krows kpat kops kcnt next size ++ (wPt G to ts tl so po source like ++ (wWh G ho hm so comes ++ (wMe G mo mb so po block ++ (wOr G oo on nums sign kix osz aw ++ (wTx G xo xb bytes len place num ++ wMd G dam dnm dpm drm dsm dlm dcm dtm dgm nowm pastm statesm refusedm asidem pilem camem pileLm textm textLm placem nargsm))))))))) 337 [(0, .ref b), (1, .ref ao), (2, .ref dam), (3, .int (nI I))] [] := by
  obtain ⟨A1, hA1⟩ : ∃ z, xs (nI I + 1).toNatClampNeg = z := ⟨_, rfl⟩
  obtain ⟨A2, hA2⟩ : ∃ z, xs (nI I + 2).toNatClampNeg = z := ⟨_, rfl⟩
  obtain ⟨A3, hA3⟩ : ∃ z, xs (nI I + 3).toNatClampNeg = z := ⟨_, rfl⟩
  obtain ⟨A4, hA4⟩ : ∃ z, xs (nI I + 4).toNatClampNeg = z := ⟨_, rfl⟩
  obtain ⟨A5, hA5⟩ : ∃ z, xs (nI I + 5).toNatClampNeg = z := ⟨_, rfl⟩
  obtain ⟨A6, hA6⟩ : ∃ z, xs (nI I + 6).toNatClampNeg = z := ⟨_, rfl⟩
  obtain ⟨A7, hA7⟩ : ∃ z, xs (nI I + 7).toNatClampNeg = z := ⟨_, rfl⟩
  obtain ⟨A8, hA8⟩ : ∃ z, xs (nI I + 8).toNatClampNeg = z := ⟨_, rfl⟩
  obtain ⟨A9, hA9⟩ : ∃ z, xs (nI I + 9).toNatClampNeg = z := ⟨_, rfl⟩
  obtain ⟨f1_, f2_, f3_, f4_, f5_, f6_, f7_⟩ := h.facts
  have hs := sim_move (left := left) (srow := srow) (sdot := sdot) (source := source) (like := like) (nums := nums) (asidem := asidem) h A1 A2 A3 A4 A5 A6 A7 A8 A9
  refine z_aload_n (pc := 337) C 1 dL_law_337 rfl ?_
  refine z_aload_n (pc := 338) C 0 dL_law_338 rfl ?_
  refine z_iload_n (pc := 339) C 3 dL_law_339 rfl ?_
  refine z_iconst (pc := 340) (v := 1) C dL_law_340 (by decide) ?_
  refine z_iadd (pc := 341) C dL_law_341 ?_
  refine z_sld (pc := 342) C S dL_law_342 (ix_s (j := 1) hI S.2.2.2 rfl (by decide)) hA1 ?_
  refine z_aload_n (pc := 343) C 0 dL_law_343 rfl ?_
  refine z_iload_n (pc := 344) C 3 dL_law_344 rfl ?_
  refine z_iconst (pc := 345) (v := 2) C dL_law_345 (by decide) ?_
  refine z_iadd (pc := 346) C dL_law_346 ?_
  refine z_sld (pc := 347) C S dL_law_347 (ix_s (j := 2) hI S.2.2.2 rfl (by decide)) hA2 ?_
  refine z_aload_n (pc := 348) C 0 dL_law_348 rfl ?_
  refine z_iload_n (pc := 349) C 3 dL_law_349 rfl ?_
  refine z_iconst (pc := 350) (v := 3) C dL_law_350 (by decide) ?_
  refine z_iadd (pc := 351) C dL_law_351 ?_
  refine z_sld (pc := 352) C S dL_law_352 (ix_s (j := 3) hI S.2.2.2 rfl (by decide)) hA3 ?_
  refine z_aload_n (pc := 353) C 0 dL_law_353 rfl ?_
  refine z_iload_n (pc := 354) C 3 dL_law_354 rfl ?_
  refine z_iconst (pc := 355) (v := 4) C dL_law_355 (by decide) ?_
  refine z_iadd (pc := 356) C dL_law_356 ?_
  refine z_sld (pc := 357) C S dL_law_357 (ix_s (j := 4) hI S.2.2.2 rfl (by decide)) hA4 ?_
  refine z_aload_n (pc := 358) C 0 dL_law_358 rfl ?_
  refine z_iload_n (pc := 359) C 3 dL_law_359 rfl ?_
  refine z_iconst (pc := 360) (v := 5) C dL_law_360 (by decide) ?_
  refine z_iadd (pc := 361) C dL_law_361 ?_
  refine z_sld (pc := 362) C S dL_law_362 (ix_s (j := 5) hI S.2.2.2 rfl (by decide)) hA5 ?_
  refine z_aload_n (pc := 363) C 0 dL_law_363 rfl ?_
  refine z_iload_n (pc := 364) C 3 dL_law_364 rfl ?_
  refine z_bipush (pc := 365) (v := 6) C dL_law_365 (by decide) ?_
  refine z_iadd (pc := 367) C dL_law_367 ?_
  refine z_sld (pc := 368) C S dL_law_368 (ix_s (j := 6) hI S.2.2.2 rfl (by decide)) hA6 ?_
  refine z_aload_n (pc := 369) C 0 dL_law_369 rfl ?_
  refine z_iload_n (pc := 370) C 3 dL_law_370 rfl ?_
  refine z_bipush (pc := 371) (v := 7) C dL_law_371 (by decide) ?_
  refine z_iadd (pc := 373) C dL_law_373 ?_
  refine z_sld (pc := 374) C S dL_law_374 (ix_s (j := 7) hI S.2.2.2 rfl (by decide)) hA7 ?_
  refine z_aload_n (pc := 375) C 0 dL_law_375 rfl ?_
  refine z_iload_n (pc := 376) C 3 dL_law_376 rfl ?_
  refine z_bipush (pc := 377) (v := 8) C dL_law_377 (by decide) ?_
  refine z_iadd (pc := 379) C dL_law_379 ?_
  refine z_sld (pc := 380) C S dL_law_380 (ix_s (j := 8) hI S.2.2.2 rfl (by decide)) hA8 ?_
  refine z_aload_n (pc := 381) C 0 dL_law_381 rfl ?_
  refine z_iload_n (pc := 382) C 3 dL_law_382 rfl ?_
  refine z_bipush (pc := 383) (v := 9) C dL_law_383 (by decide) ?_
  refine z_iadd (pc := 385) C dL_law_385 ?_
  refine z_sld (pc := 386) C S dL_law_386 (ix_s (j := 9) hI S.2.2.2 rfl (by decide)) hA9 ?_
  refine z_callV (pc := 387) C (c_X8_move (ka := ka) (kb := kb) (kc := kc) (kd := kd) (krows := krows) (kpat := kpat) (kops := kops) (kcnt := kcnt) (by assumption) (by assumption)) ((List.range 1) ++ (((List.range 4).map (1 + ·)) ++ (((((List.range 26).map (4 + ·)).map (4 + ·)).map (1 + ·)) ++ ((((((List.range 3).map (26 + ·)).map (4 + ·)).map (4 + ·)).map (1 + ·)) ++ ((((List.range 4).map (4 + ·)).map (1 + ·)) ++ ((((((((List.range 2).map (2 + ·)).map (2 + ·)).map (3 + ·)).map (26 + ·)).map (4 + ·)).map (4 + ·)).map (1 + ·))))))) hkn mV_X8_move q_573 dL_law_387 rfl rfl (zg_app (zg_head (by rfl)) (zg_app (zg_sk (by rfl) (zg_head (by rfl))) (zg_app (zg_sk (by rfl) (zg_sk (by rfl) (zg_sk (by rfl) (zg_head (by rfl))))) (zg_app (zg_sk (by rfl) (zg_sk (by rfl) (zg_sk (by rfl) (zg_sk (by rfl) (zg_head (by rfl)))))) (zg_app (zg_sk (by rfl) (zg_sk (by rfl) (zg_head (by rfl)))) (zg_sk (by rfl) (zg_sk (by rfl) (zg_sk (by rfl) (zg_sk (by rfl) (zg_sk (by rfl) (zg_sk (by rfl) (zg_sk (by rfl) (zg_head (by rfl)))))))))))))) 0 rfl rfl rfl rfl (Nat.le_of_ble_eq_true rfl) (by decide) (pI.go (ws' := wPM G ao so eo to ho mo oo xo _ noes fulls ++ (wSc G so sr sp sq _ pat _ _ ++ (wPa G po pl pr pd _ _ _ _ ++ (wPs G eo ek ka kb kc kd (g_X8_move_krows rows krows next A1 A2 A3 A4 A5 A6 A7 A8 A9) (g_X8_move_kpat pat kpat next A1 A2 A3 A4 A5 A6 A7 A8 A9) (g_X8_move_kops ops kops next A1 A2 A3 A4 A5 A6 A7 A8 A9) (g_X8_move_kcnt cnt kcnt next A1 A2 A3 A4 A5 A6 A7 A8 A9) (g_X8_move_next next A1 A2 A3 A4 A5 A6 A7 A8 A9) (g_X8_move_size size A1 A2 A3 A4 A5 A6 A7 A8 A9) ++ (wPt G to ts tl so po _ _ ++ (wWh G ho hm so comes ++ (wMe G mo mb so po block ++ (wOr G oo on _ _ _ _ _ ++ (wTx G xo xb bytes len place num ++ wMd G dam dnm dpm drm dsm dlm dcm dtm dgm nowm pastm statesm refusedm asidem pilem camem pileLm textm textLm placem nargsm))))))))) (zp_two (by rfl) (zp_head (by rfl) (by rfl)) (zp_two (by rfl) (zp_sk (by rfl) (zp_head (by rfl) (by rfl))) (zp_two (by rfl) (zp_sk (by rfl) (zp_sk (by rfl) (zp_sk (by rfl) (zp_head (by rfl) (by rfl))))) (zp_two (by rfl) (zp_sk (by rfl) (zp_sk (by rfl) (zp_sk (by rfl) (zp_sk (by rfl) (zp_head (by rfl) (by rfl)))))) (zp_two (by rfl) (zp_sk (by rfl) (zp_sk (by rfl) (zp_head (by rfl) (by rfl)))) (zp_sk (by rfl) (zp_sk (by rfl) (zp_sk (by rfl) (zp_sk (by rfl) (zp_sk (by rfl) (zp_sk (by rfl) (zp_sk (by rfl) (zp_head (by rfl) (by rfl)))))))))))))) ?_)
  refine z_aload_n (pc := 390) C 2 dL_law_390 rfl ?_
  refine z_aload_n (pc := 391) C 0 dL_law_391 rfl ?_
  refine z_iload_n (pc := 392) C 3 dL_law_392 rfl ?_
  refine z_iconst (pc := 393) (v := 1) C dL_law_393 (by decide) ?_
  refine z_iadd (pc := 394) C dL_law_394 ?_
  refine z_sld (pc := 395) C S dL_law_395 (ix_s (j := 1) hI S.2.2.2 rfl (by decide)) hA1 ?_
  refine z_aload_n (pc := 396) C 0 dL_law_396 rfl ?_
  refine z_iload_n (pc := 397) C 3 dL_law_397 rfl ?_
  refine z_iconst (pc := 398) (v := 2) C dL_law_398 (by decide) ?_
  refine z_iadd (pc := 399) C dL_law_399 ?_
  refine z_sld (pc := 400) C S dL_law_400 (ix_s (j := 2) hI S.2.2.2 rfl (by decide)) hA2 ?_
  refine z_aload_n (pc := 401) C 0 dL_law_401 rfl ?_
  refine z_iload_n (pc := 402) C 3 dL_law_402 rfl ?_
  refine z_iconst (pc := 403) (v := 3) C dL_law_403 (by decide) ?_
  refine z_iadd (pc := 404) C dL_law_404 ?_
  refine z_sld (pc := 405) C S dL_law_405 (ix_s (j := 3) hI S.2.2.2 rfl (by decide)) hA3 ?_
  refine z_aload_n (pc := 406) C 0 dL_law_406 rfl ?_
  refine z_iload_n (pc := 407) C 3 dL_law_407 rfl ?_
  refine z_iconst (pc := 408) (v := 4) C dL_law_408 (by decide) ?_
  refine z_iadd (pc := 409) C dL_law_409 ?_
  refine z_sld (pc := 410) C S dL_law_410 (ix_s (j := 4) hI S.2.2.2 rfl (by decide)) hA4 ?_
  refine z_aload_n (pc := 411) C 0 dL_law_411 rfl ?_
  refine z_iload_n (pc := 412) C 3 dL_law_412 rfl ?_
  refine z_iconst (pc := 413) (v := 5) C dL_law_413 (by decide) ?_
  refine z_iadd (pc := 414) C dL_law_414 ?_
  refine z_sld (pc := 415) C S dL_law_415 (ix_s (j := 5) hI S.2.2.2 rfl (by decide)) hA5 ?_
  refine z_aload_n (pc := 416) C 0 dL_law_416 rfl ?_
  refine z_iload_n (pc := 417) C 3 dL_law_417 rfl ?_
  refine z_bipush (pc := 418) (v := 6) C dL_law_418 (by decide) ?_
  refine z_iadd (pc := 420) C dL_law_420 ?_
  refine z_sld (pc := 421) C S dL_law_421 (ix_s (j := 6) hI S.2.2.2 rfl (by decide)) hA6 ?_
  refine z_aload_n (pc := 422) C 0 dL_law_422 rfl ?_
  refine z_iload_n (pc := 423) C 3 dL_law_423 rfl ?_
  refine z_bipush (pc := 424) (v := 7) C dL_law_424 (by decide) ?_
  refine z_iadd (pc := 426) C dL_law_426 ?_
  refine z_sld (pc := 427) C S dL_law_427 (ix_s (j := 7) hI S.2.2.2 rfl (by decide)) hA7 ?_
  refine z_aload_n (pc := 428) C 0 dL_law_428 rfl ?_
  refine z_iload_n (pc := 429) C 3 dL_law_429 rfl ?_
  refine z_bipush (pc := 430) (v := 8) C dL_law_430 (by decide) ?_
  refine z_iadd (pc := 432) C dL_law_432 ?_
  refine z_sld (pc := 433) C S dL_law_433 (ix_s (j := 8) hI S.2.2.2 rfl (by decide)) hA8 ?_
  refine z_aload_n (pc := 434) C 0 dL_law_434 rfl ?_
  refine z_iload_n (pc := 435) C 3 dL_law_435 rfl ?_
  refine z_bipush (pc := 436) (v := 9) C dL_law_436 (by decide) ?_
  refine z_iadd (pc := 438) C dL_law_438 ?_
  refine z_sld (pc := 439) C S dL_law_439 (ix_s (j := 9) hI S.2.2.2 rfl (by decide)) hA9 ?_
  refine z_callV (pc := 440) C (c_X9_move (by assumption) (by assumption)) ((((((((((List.range 9).map (2 + ·)).map (2 + ·)).map (2 + ·)).map (2 + ·)).map (3 + ·)).map (26 + ·)).map (4 + ·)).map (4 + ·)).map (1 + ·)) hkn mV_X9_move q_951 dL_law_440 rfl rfl (zg_sk (by rfl) (zg_sk (by rfl) (zg_sk (by rfl) (zg_sk (by rfl) (zg_sk (by rfl) (zg_sk (by rfl) (zg_sk (by rfl) (zg_sk (by rfl) (zg_sk (by rfl) (zg_last (by rfl))))))))))) 46 rfl rfl rfl rfl (Nat.le_of_ble_eq_true rfl) (by decide) (pI.go (ws' := wPM G ao so eo to ho mo oo xo _ noes fulls ++ (wSc G so sr sp sq _ pat _ _ ++ (wPa G po pl pr pd _ _ _ _ ++ (wPs G eo ek ka kb kc kd (g_X8_move_krows rows krows next A1 A2 A3 A4 A5 A6 A7 A8 A9) (g_X8_move_kpat pat kpat next A1 A2 A3 A4 A5 A6 A7 A8 A9) (g_X8_move_kops ops kops next A1 A2 A3 A4 A5 A6 A7 A8 A9) (g_X8_move_kcnt cnt kcnt next A1 A2 A3 A4 A5 A6 A7 A8 A9) (g_X8_move_next next A1 A2 A3 A4 A5 A6 A7 A8 A9) (g_X8_move_size size A1 A2 A3 A4 A5 A6 A7 A8 A9) ++ (wPt G to ts tl so po _ _ ++ (wWh G ho hm so comes ++ (wMe G mo mb so po block ++ (wOr G oo on _ _ _ _ _ ++ (wTx G xo xb bytes len place num ++ wMd G dam dnm dpm drm dsm dlm dcm dtm dgm _ _ _ _ _ pilem camem pileLm textm textLm placem nargsm))))))))) (zp_sk (by rfl) (zp_sk (by rfl) (zp_sk (by rfl) (zp_sk (by rfl) (zp_sk (by rfl) (zp_sk (by rfl) (zp_sk (by rfl) (zp_sk (by rfl) (zp_sk (by rfl) (zp_last (by rfl) (by rfl))))))))))) ?_)
  refine z_icmp_eq (pc := 443) 1235 C dL_law_443 (by decide) (fun _ => ?_) (fun q => absurd hs.1 q)
  exact kk (g_X8_move_bads bads A1 A2 A3 A4 A5 A6 A7 A8 A9) noes fulls (g_X8_move_rows rows pat ops cnt source like left srow sdot nums A1 A2 A3 A4 A5 A6 A7 A8 A9) pat (g_X8_move_ops ops cnt nums A1 A2 A3 A4 A5 A6 A7 A8 A9) (g_X8_move_cnt cnt A1 A2 A3 A4 A5 A6 A7 A8 A9) (g_X8_move_left rows ops cnt like left srow sdot nums A1 A2 A3 A4 A5 A6 A7 A8 A9) (g_X8_move_srow rows ops cnt like left srow sdot nums A1 A2 A3 A4 A5 A6 A7 A8 A9) (g_X8_move_sdot rows ops cnt like left srow sdot nums A1 A2 A3 A4 A5 A6 A7 A8 A9) (g_X8_move_steps rows ops cnt like left srow sdot steps nums A1 A2 A3 A4 A5 A6 A7 A8 A9) (g_X8_move_krows rows krows next A1 A2 A3 A4 A5 A6 A7 A8 A9) (g_X8_move_kpat pat kpat next A1 A2 A3 A4 A5 A6 A7 A8 A9) (g_X8_move_kops ops kops next A1 A2 A3 A4 A5 A6 A7 A8 A9) (g_X8_move_kcnt cnt kcnt next A1 A2 A3 A4 A5 A6 A7 A8 A9) (g_X8_move_next next A1 A2 A3 A4 A5 A6 A7 A8 A9) (g_X8_move_size size A1 A2 A3 A4 A5 A6 A7 A8 A9) (g_X8_move_source rows source nums A1 A2 A3 A4 A5 A6 A7 A8 A9) (g_X8_move_like rows ops cnt like left nums A1 A2 A3 A4 A5 A6 A7 A8 A9) comes block (g_X8_move_nums nums A1 A2 A3 A4 A5 A6 A7 A8 A9) g_X8_move_sign g_X8_move_kix g_X8_move_osz (g_X8_move_aw A1 A2 A3 A4 A5 A6 A7 A8 A9) bytes len place num (g_X9_move_now nowm asidem A1 A2 A3 A4 A5 A6 A7 A8 A9) (g_X9_move_past nowm pastm statesm A1 A2 A3 A4 A5 A6 A7 A8 A9) (g_X9_move_states statesm A1 A2 A3 A4 A5 A6 A7 A8 A9) (g_X9_move_refused refusedm A1 A2 A3 A4 A5 A6 A7 A8 A9) (g_X9_move_aside nowm asidem A1 A2 A3 A4 A5 A6 A7 A8 A9) pilem camem pileLm textm textLm placem nargsm hs.2

set_option maxRecDepth 100000 in
theorem lw_line {X : zX} {G : zG} {b L I : Nat} {xs : Nat → Int32} {ao so sr sp sq po pl pr pd eo ek to ts tl ho hm mo mb oo on xo xb dam dnm dpm drm dsm dlm dcm dtm dgm : Nat} {ka kb kc kd : Nat → Nat} {bads : Int32} {noes : Int32} {fulls : Int32} {rows : Nat → Int32} {pat : Nat → Int32} {ops : Nat → Int32} {cnt : Int32} {left : Nat → Int32} {srow : Nat → Int32} {sdot : Nat → Int32} {steps : Int32} {krows : Nat → Nat → Int32} {kpat : Nat → Nat → Int32} {kops : Nat → Nat → Int32} {kcnt : Nat → Int32} {next : Int32} {size : Int32} {source : Nat → Int32} {like : Nat → Int32} {comes : Nat → Int32} {block : Nat → Int32} {nums : Nat → Int32} {sign : Int32} {kix : Nat} {osz : Int32} {aw : Int32} {bytes : Nat → Int32} {len : Int32} {place : Int32} {num : Int32} {nowm : Nat → Int32} {pastm : Nat → Int32} {statesm : Int32} {refusedm : Nat → Int32} {asidem : Nat → Int32} {pilem : Nat → Int32} {camem : Nat → Int32} {pileLm : Int32} {textm : Nat → Int32} {textLm : Int32} {placem : Int32} {nargsm : Nat → Int32} (C : zC X G 4 cL_law RL ret 11 458) (hkn : 55 ≤ (xR X).cells ∧ 4173 ≤ (xR X).slots) (S : lwS X b L xs) (hI : I + 10 ≤ L) (h : Rel rows pat ops cnt krows kpat kops kcnt next size bytes len bads noes fulls osz nowm pastm statesm refusedm textm textLm) (kk : ∀ (bads : Int32) (noes : Int32) (fulls : Int32) (rows : Nat → Int32) (pat : Nat → Int32) (ops : Nat → Int32) (cnt : Int32) (left : Nat → Int32) (srow : Nat → Int32) (sdot : Nat → Int32) (steps : Int32) (krows : Nat → Nat → Int32) (kpat : Nat → Nat → Int32) (kops : Nat → Nat → Int32) (kcnt : Nat → Int32) (next : Int32) (size : Int32) (source : Nat → Int32) (like : Nat → Int32) (comes : Nat → Int32) (block : Nat → Int32) (nums : Nat → Int32) (sign : Int32) (kix : Nat) (osz : Int32) (aw : Int32) (bytes : Nat → Int32) (len : Int32) (place : Int32) (num : Int32) (nowm : Nat → Int32) (pastm : Nat → Int32) (statesm : Int32) (refusedm : Nat → Int32) (asidem : Nat → Int32) (pilem : Nat → Int32) (camem : Nat → Int32) (pileLm : Int32) (textm : Nat → Int32) (textLm : Int32) (placem : Int32) (nargsm : Nat → Int32), Rel rows pat ops cnt krows kpat kops kcnt next size bytes len bads noes fulls osz nowm pastm statesm refusedm textm textLm → Z X G 4 55 4173 (wPM G ao so eo to ho mo oo xo bads noes fulls ++ (wSc G so sr sp sq rows pat ops cnt ++ (wPa G po pl pr pd left srow sdot steps ++ (wPs G eo ek ka kb kc kd krows kpat kops kcnt next size ++ (wPt G to ts tl so po source like ++ (wWh G ho hm so comes ++ (wMe G mo mb so po block ++ (wOr G oo on nums sign kix osz aw ++ (wTx G xo xb bytes len place num ++ wMd G dam dnm dpm drm dsm dlm dcm dtm dgm nowm pastm statesm refusedm asidem pilem camem pileLm textm textLm placem nargsm))))))))) 1235 [(0, .ref b), (1, .ref ao), (2, .ref dam), (3, .int (nI I))] []) : Z X G 4 55 4173 (wPM G ao so eo to ho mo oo xo bads noes fulls ++ (wSc G so sr sp sq rows pat ops cnt ++ (wPa G po pl pr pd left srow sdot steps ++ (wPs G eo ek ka kb kc kd krows kpat kops kcnt next size ++ (wPt G to ts tl so po source like ++ (wWh G ho hm so comes ++ (wMe G mo mb so po block ++ (wOr G oo on nums sign kix osz aw ++ (wTx G xo xb bytes len place num ++ wMd G dam dnm dpm drm dsm dlm dcm dtm dgm nowm pastm statesm refusedm asidem pilem camem pileLm textm textLm placem nargsm))))))))) 448 [(0, .ref b), (1, .ref ao), (2, .ref dam), (3, .int (nI I))] [] := by
  obtain ⟨A1, hA1⟩ : ∃ z, xs (nI I + 1).toNatClampNeg = z := ⟨_, rfl⟩
  obtain ⟨A2, hA2⟩ : ∃ z, xs (nI I + 2).toNatClampNeg = z := ⟨_, rfl⟩
  obtain ⟨A3, hA3⟩ : ∃ z, xs (nI I + 3).toNatClampNeg = z := ⟨_, rfl⟩
  obtain ⟨A4, hA4⟩ : ∃ z, xs (nI I + 4).toNatClampNeg = z := ⟨_, rfl⟩
  obtain ⟨A5, hA5⟩ : ∃ z, xs (nI I + 5).toNatClampNeg = z := ⟨_, rfl⟩
  obtain ⟨A6, hA6⟩ : ∃ z, xs (nI I + 6).toNatClampNeg = z := ⟨_, rfl⟩
  obtain ⟨f1_, f2_, f3_, f4_, f5_, f6_, f7_⟩ := h.facts
  have hs := sim_line (left := left) (srow := srow) (sdot := sdot) (source := source) (like := like) (nums := nums) h A1 A2 A3 A4 A5 A6
  refine z_aload_n (pc := 448) C 1 dL_law_448 rfl ?_
  refine z_aload_n (pc := 449) C 0 dL_law_449 rfl ?_
  refine z_iload_n (pc := 450) C 3 dL_law_450 rfl ?_
  refine z_iconst (pc := 451) (v := 1) C dL_law_451 (by decide) ?_
  refine z_iadd (pc := 452) C dL_law_452 ?_
  refine z_sld (pc := 453) C S dL_law_453 (ix_s (j := 1) hI S.2.2.2 rfl (by decide)) hA1 ?_
  refine z_aload_n (pc := 454) C 0 dL_law_454 rfl ?_
  refine z_iload_n (pc := 455) C 3 dL_law_455 rfl ?_
  refine z_iconst (pc := 456) (v := 2) C dL_law_456 (by decide) ?_
  refine z_iadd (pc := 457) C dL_law_457 ?_
  refine z_sld (pc := 458) C S dL_law_458 (ix_s (j := 2) hI S.2.2.2 rfl (by decide)) hA2 ?_
  refine z_aload_n (pc := 459) C 0 dL_law_459 rfl ?_
  refine z_iload_n (pc := 460) C 3 dL_law_460 rfl ?_
  refine z_iconst (pc := 461) (v := 3) C dL_law_461 (by decide) ?_
  refine z_iadd (pc := 462) C dL_law_462 ?_
  refine z_sld (pc := 463) C S dL_law_463 (ix_s (j := 3) hI S.2.2.2 rfl (by decide)) hA3 ?_
  refine z_aload_n (pc := 464) C 0 dL_law_464 rfl ?_
  refine z_iload_n (pc := 465) C 3 dL_law_465 rfl ?_
  refine z_iconst (pc := 466) (v := 4) C dL_law_466 (by decide) ?_
  refine z_iadd (pc := 467) C dL_law_467 ?_
  refine z_sld (pc := 468) C S dL_law_468 (ix_s (j := 4) hI S.2.2.2 rfl (by decide)) hA4 ?_
  refine z_aload_n (pc := 469) C 0 dL_law_469 rfl ?_
  refine z_iload_n (pc := 470) C 3 dL_law_470 rfl ?_
  refine z_iconst (pc := 471) (v := 5) C dL_law_471 (by decide) ?_
  refine z_iadd (pc := 472) C dL_law_472 ?_
  refine z_sld (pc := 473) C S dL_law_473 (ix_s (j := 5) hI S.2.2.2 rfl (by decide)) hA5 ?_
  refine z_aload_n (pc := 474) C 0 dL_law_474 rfl ?_
  refine z_iload_n (pc := 475) C 3 dL_law_475 rfl ?_
  refine z_bipush (pc := 476) (v := 6) C dL_law_476 (by decide) ?_
  refine z_iadd (pc := 478) C dL_law_478 ?_
  refine z_sld (pc := 479) C S dL_law_479 (ix_s (j := 6) hI S.2.2.2 rfl (by decide)) hA6 ?_
  refine z_callV (pc := 480) C (c_X8_line (ka := ka) (kb := kb) (kc := kc) (kd := kd) (krows := krows) (kpat := kpat) (kops := kops) (kcnt := kcnt) (by assumption) (by assumption)) ((List.range 1) ++ (((List.range 4).map (1 + ·)) ++ (((((List.range 26).map (4 + ·)).map (4 + ·)).map (1 + ·)) ++ ((((((List.range 3).map (26 + ·)).map (4 + ·)).map (4 + ·)).map (1 + ·)) ++ ((((List.range 4).map (4 + ·)).map (1 + ·)) ++ ((((((((List.range 2).map (2 + ·)).map (2 + ·)).map (3 + ·)).map (26 + ·)).map (4 + ·)).map (4 + ·)).map (1 + ·))))))) hkn mV_X8_line q_577 dL_law_480 rfl rfl (zg_app (zg_head (by rfl)) (zg_app (zg_sk (by rfl) (zg_head (by rfl))) (zg_app (zg_sk (by rfl) (zg_sk (by rfl) (zg_sk (by rfl) (zg_head (by rfl))))) (zg_app (zg_sk (by rfl) (zg_sk (by rfl) (zg_sk (by rfl) (zg_sk (by rfl) (zg_head (by rfl)))))) (zg_app (zg_sk (by rfl) (zg_sk (by rfl) (zg_head (by rfl)))) (zg_sk (by rfl) (zg_sk (by rfl) (zg_sk (by rfl) (zg_sk (by rfl) (zg_sk (by rfl) (zg_sk (by rfl) (zg_sk (by rfl) (zg_head (by rfl)))))))))))))) 0 rfl rfl rfl rfl (Nat.le_of_ble_eq_true rfl) (by decide) (pI.go (ws' := wPM G ao so eo to ho mo oo xo _ noes fulls ++ (wSc G so sr sp sq _ pat _ _ ++ (wPa G po pl pr pd _ _ _ _ ++ (wPs G eo ek ka kb kc kd (g_X8_line_krows rows krows next A1 A2 A3 A4 A5 A6) (g_X8_line_kpat pat kpat next A1 A2 A3 A4 A5 A6) (g_X8_line_kops ops kops next A1 A2 A3 A4 A5 A6) (g_X8_line_kcnt cnt kcnt next A1 A2 A3 A4 A5 A6) (g_X8_line_next next A1 A2 A3 A4 A5 A6) (g_X8_line_size size A1 A2 A3 A4 A5 A6) ++ (wPt G to ts tl so po _ _ ++ (wWh G ho hm so comes ++ (wMe G mo mb so po block ++ (wOr G oo on _ _ _ _ _ ++ (wTx G xo xb bytes len place num ++ wMd G dam dnm dpm drm dsm dlm dcm dtm dgm nowm pastm statesm refusedm asidem pilem camem pileLm textm textLm placem nargsm))))))))) (zp_two (by rfl) (zp_head (by rfl) (by rfl)) (zp_two (by rfl) (zp_sk (by rfl) (zp_head (by rfl) (by rfl))) (zp_two (by rfl) (zp_sk (by rfl) (zp_sk (by rfl) (zp_sk (by rfl) (zp_head (by rfl) (by rfl))))) (zp_two (by rfl) (zp_sk (by rfl) (zp_sk (by rfl) (zp_sk (by rfl) (zp_sk (by rfl) (zp_head (by rfl) (by rfl)))))) (zp_two (by rfl) (zp_sk (by rfl) (zp_sk (by rfl) (zp_head (by rfl) (by rfl)))) (zp_sk (by rfl) (zp_sk (by rfl) (zp_sk (by rfl) (zp_sk (by rfl) (zp_sk (by rfl) (zp_sk (by rfl) (zp_sk (by rfl) (zp_head (by rfl) (by rfl)))))))))))))) ?_)
  refine z_aload_n (pc := 483) C 2 dL_law_483 rfl ?_
  refine z_aload_n (pc := 484) C 0 dL_law_484 rfl ?_
  refine z_iload_n (pc := 485) C 3 dL_law_485 rfl ?_
  refine z_iconst (pc := 486) (v := 1) C dL_law_486 (by decide) ?_
  refine z_iadd (pc := 487) C dL_law_487 ?_
  refine z_sld (pc := 488) C S dL_law_488 (ix_s (j := 1) hI S.2.2.2 rfl (by decide)) hA1 ?_
  refine z_aload_n (pc := 489) C 0 dL_law_489 rfl ?_
  refine z_iload_n (pc := 490) C 3 dL_law_490 rfl ?_
  refine z_iconst (pc := 491) (v := 2) C dL_law_491 (by decide) ?_
  refine z_iadd (pc := 492) C dL_law_492 ?_
  refine z_sld (pc := 493) C S dL_law_493 (ix_s (j := 2) hI S.2.2.2 rfl (by decide)) hA2 ?_
  refine z_aload_n (pc := 494) C 0 dL_law_494 rfl ?_
  refine z_iload_n (pc := 495) C 3 dL_law_495 rfl ?_
  refine z_iconst (pc := 496) (v := 3) C dL_law_496 (by decide) ?_
  refine z_iadd (pc := 497) C dL_law_497 ?_
  refine z_sld (pc := 498) C S dL_law_498 (ix_s (j := 3) hI S.2.2.2 rfl (by decide)) hA3 ?_
  refine z_aload_n (pc := 499) C 0 dL_law_499 rfl ?_
  refine z_iload_n (pc := 500) C 3 dL_law_500 rfl ?_
  refine z_iconst (pc := 501) (v := 4) C dL_law_501 (by decide) ?_
  refine z_iadd (pc := 502) C dL_law_502 ?_
  refine z_sld (pc := 503) C S dL_law_503 (ix_s (j := 4) hI S.2.2.2 rfl (by decide)) hA4 ?_
  refine z_aload_n (pc := 504) C 0 dL_law_504 rfl ?_
  refine z_iload_n (pc := 505) C 3 dL_law_505 rfl ?_
  refine z_iconst (pc := 506) (v := 5) C dL_law_506 (by decide) ?_
  refine z_iadd (pc := 507) C dL_law_507 ?_
  refine z_sld (pc := 508) C S dL_law_508 (ix_s (j := 5) hI S.2.2.2 rfl (by decide)) hA5 ?_
  refine z_aload_n (pc := 509) C 0 dL_law_509 rfl ?_
  refine z_iload_n (pc := 510) C 3 dL_law_510 rfl ?_
  refine z_bipush (pc := 511) (v := 6) C dL_law_511 (by decide) ?_
  refine z_iadd (pc := 513) C dL_law_513 ?_
  refine z_sld (pc := 514) C S dL_law_514 (ix_s (j := 6) hI S.2.2.2 rfl (by decide)) hA6 ?_
  refine z_callV (pc := 515) C (c_X9_line (by assumption) (by assumption)) ((((((((((List.range 9).map (2 + ·)).map (2 + ·)).map (2 + ·)).map (2 + ·)).map (3 + ·)).map (26 + ·)).map (4 + ·)).map (4 + ·)).map (1 + ·)) hkn mV_X9_line q_982 dL_law_515 rfl rfl (zg_sk (by rfl) (zg_sk (by rfl) (zg_sk (by rfl) (zg_sk (by rfl) (zg_sk (by rfl) (zg_sk (by rfl) (zg_sk (by rfl) (zg_sk (by rfl) (zg_sk (by rfl) (zg_last (by rfl))))))))))) 46 rfl rfl rfl rfl (Nat.le_of_ble_eq_true rfl) (by decide) (pI.go (ws' := wPM G ao so eo to ho mo oo xo _ noes fulls ++ (wSc G so sr sp sq _ pat _ _ ++ (wPa G po pl pr pd _ _ _ _ ++ (wPs G eo ek ka kb kc kd (g_X8_line_krows rows krows next A1 A2 A3 A4 A5 A6) (g_X8_line_kpat pat kpat next A1 A2 A3 A4 A5 A6) (g_X8_line_kops ops kops next A1 A2 A3 A4 A5 A6) (g_X8_line_kcnt cnt kcnt next A1 A2 A3 A4 A5 A6) (g_X8_line_next next A1 A2 A3 A4 A5 A6) (g_X8_line_size size A1 A2 A3 A4 A5 A6) ++ (wPt G to ts tl so po _ _ ++ (wWh G ho hm so comes ++ (wMe G mo mb so po block ++ (wOr G oo on _ _ _ _ _ ++ (wTx G xo xb bytes len place num ++ wMd G dam dnm dpm drm dsm dlm dcm dtm dgm _ _ _ _ asidem pilem camem pileLm textm textLm placem nargsm))))))))) (zp_sk (by rfl) (zp_sk (by rfl) (zp_sk (by rfl) (zp_sk (by rfl) (zp_sk (by rfl) (zp_sk (by rfl) (zp_sk (by rfl) (zp_sk (by rfl) (zp_sk (by rfl) (zp_last (by rfl) (by rfl))))))))))) ?_)
  refine z_icmp_eq (pc := 518) 1235 C dL_law_518 (by decide) (fun _ => ?_) (fun q => absurd hs.1 q)
  exact kk (g_X8_line_bads bads A1 A2 A3 A4 A5 A6) noes fulls (g_X8_line_rows rows pat ops cnt source like left srow sdot nums A1 A2 A3 A4 A5 A6) pat (g_X8_line_ops ops cnt nums A1 A2 A3 A4 A5 A6) (g_X8_line_cnt cnt A1 A2 A3 A4 A5 A6) (g_X8_line_left rows ops cnt like left srow sdot nums A1 A2 A3 A4 A5 A6) (g_X8_line_srow rows ops cnt like left srow sdot nums A1 A2 A3 A4 A5 A6) (g_X8_line_sdot rows ops cnt like left srow sdot nums A1 A2 A3 A4 A5 A6) (g_X8_line_steps rows ops cnt like left srow sdot steps nums A1 A2 A3 A4 A5 A6) (g_X8_line_krows rows krows next A1 A2 A3 A4 A5 A6) (g_X8_line_kpat pat kpat next A1 A2 A3 A4 A5 A6) (g_X8_line_kops ops kops next A1 A2 A3 A4 A5 A6) (g_X8_line_kcnt cnt kcnt next A1 A2 A3 A4 A5 A6) (g_X8_line_next next A1 A2 A3 A4 A5 A6) (g_X8_line_size size A1 A2 A3 A4 A5 A6) (g_X8_line_source rows source nums A1 A2 A3 A4 A5 A6) (g_X8_line_like rows ops cnt like left nums A1 A2 A3 A4 A5 A6) comes block (g_X8_line_nums nums A1 A2 A3 A4 A5 A6) g_X8_line_sign g_X8_line_kix g_X8_line_osz (g_X8_line_aw A1 A2 A3 A4 A5 A6) bytes len place num (g_X9_line_now nowm A1 A2 A3 A4 A5 A6) (g_X9_line_past nowm pastm statesm A1 A2 A3 A4 A5 A6) (g_X9_line_states statesm A1 A2 A3 A4 A5 A6) (g_X9_line_refused refusedm A1 A2 A3 A4 A5 A6) asidem pilem camem pileLm textm textLm placem nargsm hs.2

set_option maxRecDepth 100000 in
theorem lw_flood {X : zX} {G : zG} {b L I : Nat} {xs : Nat → Int32} {ao so sr sp sq po pl pr pd eo ek to ts tl ho hm mo mb oo on xo xb dam dnm dpm drm dsm dlm dcm dtm dgm : Nat} {ka kb kc kd : Nat → Nat} {bads : Int32} {noes : Int32} {fulls : Int32} {rows : Nat → Int32} {pat : Nat → Int32} {ops : Nat → Int32} {cnt : Int32} {left : Nat → Int32} {srow : Nat → Int32} {sdot : Nat → Int32} {steps : Int32} {krows : Nat → Nat → Int32} {kpat : Nat → Nat → Int32} {kops : Nat → Nat → Int32} {kcnt : Nat → Int32} {next : Int32} {size : Int32} {source : Nat → Int32} {like : Nat → Int32} {comes : Nat → Int32} {block : Nat → Int32} {nums : Nat → Int32} {sign : Int32} {kix : Nat} {osz : Int32} {aw : Int32} {bytes : Nat → Int32} {len : Int32} {place : Int32} {num : Int32} {nowm : Nat → Int32} {pastm : Nat → Int32} {statesm : Int32} {refusedm : Nat → Int32} {asidem : Nat → Int32} {pilem : Nat → Int32} {camem : Nat → Int32} {pileLm : Int32} {textm : Nat → Int32} {textLm : Int32} {placem : Int32} {nargsm : Nat → Int32} (C : zC X G 4 cL_law RL ret 11 458) (hkn : 55 ≤ (xR X).cells ∧ 4173 ≤ (xR X).slots) (S : lwS X b L xs) (hI : I + 10 ≤ L) (h : Rel rows pat ops cnt krows kpat kops kcnt next size bytes len bads noes fulls osz nowm pastm statesm refusedm textm textLm) (kk : ∀ (bads : Int32) (noes : Int32) (fulls : Int32) (rows : Nat → Int32) (pat : Nat → Int32) (ops : Nat → Int32) (cnt : Int32) (left : Nat → Int32) (srow : Nat → Int32) (sdot : Nat → Int32) (steps : Int32) (krows : Nat → Nat → Int32) (kpat : Nat → Nat → Int32) (kops : Nat → Nat → Int32) (kcnt : Nat → Int32) (next : Int32) (size : Int32) (source : Nat → Int32) (like : Nat → Int32) (comes : Nat → Int32) (block : Nat → Int32) (nums : Nat → Int32) (sign : Int32) (kix : Nat) (osz : Int32) (aw : Int32) (bytes : Nat → Int32) (len : Int32) (place : Int32) (num : Int32) (nowm : Nat → Int32) (pastm : Nat → Int32) (statesm : Int32) (refusedm : Nat → Int32) (asidem : Nat → Int32) (pilem : Nat → Int32) (camem : Nat → Int32) (pileLm : Int32) (textm : Nat → Int32) (textLm : Int32) (placem : Int32) (nargsm : Nat → Int32), Rel rows pat ops cnt krows kpat kops kcnt next size bytes len bads noes fulls osz nowm pastm statesm refusedm textm textLm → Z X G 4 55 4173 (wPM G ao so eo to ho mo oo xo bads noes fulls ++ (wSc G so sr sp sq rows pat ops cnt ++ (wPa G po pl pr pd left srow sdot steps ++ (wPs G eo ek ka kb kc kd krows kpat kops kcnt next size ++ (wPt G to ts tl so po source like ++ (wWh G ho hm so comes ++ (wMe G mo mb so po block ++ (wOr G oo on nums sign kix osz aw ++ (wTx G xo xb bytes len place num ++ wMd G dam dnm dpm drm dsm dlm dcm dtm dgm nowm pastm statesm refusedm asidem pilem camem pileLm textm textLm placem nargsm))))))))) 1235 [(0, .ref b), (1, .ref ao), (2, .ref dam), (3, .int (nI I))] []) : Z X G 4 55 4173 (wPM G ao so eo to ho mo oo xo bads noes fulls ++ (wSc G so sr sp sq rows pat ops cnt ++ (wPa G po pl pr pd left srow sdot steps ++ (wPs G eo ek ka kb kc kd krows kpat kops kcnt next size ++ (wPt G to ts tl so po source like ++ (wWh G ho hm so comes ++ (wMe G mo mb so po block ++ (wOr G oo on nums sign kix osz aw ++ (wTx G xo xb bytes len place num ++ wMd G dam dnm dpm drm dsm dlm dcm dtm dgm nowm pastm statesm refusedm asidem pilem camem pileLm textm textLm placem nargsm))))))))) 523 [(0, .ref b), (1, .ref ao), (2, .ref dam), (3, .int (nI I))] [] := by
  obtain ⟨A1, hA1⟩ : ∃ z, xs (nI I + 1).toNatClampNeg = z := ⟨_, rfl⟩
  obtain ⟨A2, hA2⟩ : ∃ z, xs (nI I + 2).toNatClampNeg = z := ⟨_, rfl⟩
  obtain ⟨A3, hA3⟩ : ∃ z, xs (nI I + 3).toNatClampNeg = z := ⟨_, rfl⟩
  obtain ⟨f1_, f2_, f3_, f4_, f5_, f6_, f7_⟩ := h.facts
  have hs := sim_flood (left := left) (srow := srow) (sdot := sdot) (source := source) (like := like) (nums := nums) (pilem := pilem) (camem := camem) h A1 A2 A3
  refine z_aload_n (pc := 523) C 1 dL_law_523 rfl ?_
  refine z_aload_n (pc := 524) C 0 dL_law_524 rfl ?_
  refine z_iload_n (pc := 525) C 3 dL_law_525 rfl ?_
  refine z_iconst (pc := 526) (v := 1) C dL_law_526 (by decide) ?_
  refine z_iadd (pc := 527) C dL_law_527 ?_
  refine z_sld (pc := 528) C S dL_law_528 (ix_s (j := 1) hI S.2.2.2 rfl (by decide)) hA1 ?_
  refine z_aload_n (pc := 529) C 0 dL_law_529 rfl ?_
  refine z_iload_n (pc := 530) C 3 dL_law_530 rfl ?_
  refine z_iconst (pc := 531) (v := 2) C dL_law_531 (by decide) ?_
  refine z_iadd (pc := 532) C dL_law_532 ?_
  refine z_sld (pc := 533) C S dL_law_533 (ix_s (j := 2) hI S.2.2.2 rfl (by decide)) hA2 ?_
  refine z_aload_n (pc := 534) C 0 dL_law_534 rfl ?_
  refine z_iload_n (pc := 535) C 3 dL_law_535 rfl ?_
  refine z_iconst (pc := 536) (v := 3) C dL_law_536 (by decide) ?_
  refine z_iadd (pc := 537) C dL_law_537 ?_
  refine z_sld (pc := 538) C S dL_law_538 (ix_s (j := 3) hI S.2.2.2 rfl (by decide)) hA3 ?_
  refine z_callV (pc := 539) C (c_X8_flood (ka := ka) (kb := kb) (kc := kc) (kd := kd) (krows := krows) (kpat := kpat) (kops := kops) (kcnt := kcnt) (by assumption) (by assumption)) ((List.range 1) ++ (((List.range 4).map (1 + ·)) ++ (((((List.range 26).map (4 + ·)).map (4 + ·)).map (1 + ·)) ++ ((((((List.range 3).map (26 + ·)).map (4 + ·)).map (4 + ·)).map (1 + ·)) ++ ((((List.range 4).map (4 + ·)).map (1 + ·)) ++ ((((((((List.range 2).map (2 + ·)).map (2 + ·)).map (3 + ·)).map (26 + ·)).map (4 + ·)).map (4 + ·)).map (1 + ·))))))) hkn mV_X8_flood q_581 dL_law_539 rfl rfl (zg_app (zg_head (by rfl)) (zg_app (zg_sk (by rfl) (zg_head (by rfl))) (zg_app (zg_sk (by rfl) (zg_sk (by rfl) (zg_sk (by rfl) (zg_head (by rfl))))) (zg_app (zg_sk (by rfl) (zg_sk (by rfl) (zg_sk (by rfl) (zg_sk (by rfl) (zg_head (by rfl)))))) (zg_app (zg_sk (by rfl) (zg_sk (by rfl) (zg_head (by rfl)))) (zg_sk (by rfl) (zg_sk (by rfl) (zg_sk (by rfl) (zg_sk (by rfl) (zg_sk (by rfl) (zg_sk (by rfl) (zg_sk (by rfl) (zg_head (by rfl)))))))))))))) 0 rfl rfl rfl rfl (Nat.le_of_ble_eq_true rfl) (by decide) (pI.go (ws' := wPM G ao so eo to ho mo oo xo _ _ fulls ++ (wSc G so sr sp sq _ pat _ _ ++ (wPa G po pl pr pd _ _ _ _ ++ (wPs G eo ek ka kb kc kd (g_X8_flood_krows rows ops cnt krows next A1 A2 A3) (g_X8_flood_kpat pat ops cnt kpat next A1 A2 A3) (g_X8_flood_kops ops cnt kops next A1 A2 A3) (g_X8_flood_kcnt ops cnt kcnt next A1 A2 A3) (g_X8_flood_next ops cnt next A1 A2 A3) (g_X8_flood_size ops cnt size A1 A2 A3) ++ (wPt G to ts tl so po _ _ ++ (wWh G ho hm so comes ++ (wMe G mo mb so po block ++ (wOr G oo on _ _ _ _ _ ++ (wTx G xo xb bytes len place num ++ wMd G dam dnm dpm drm dsm dlm dcm dtm dgm nowm pastm statesm refusedm asidem pilem camem pileLm textm textLm placem nargsm))))))))) (zp_two (by rfl) (zp_head (by rfl) (by rfl)) (zp_two (by rfl) (zp_sk (by rfl) (zp_head (by rfl) (by rfl))) (zp_two (by rfl) (zp_sk (by rfl) (zp_sk (by rfl) (zp_sk (by rfl) (zp_head (by rfl) (by rfl))))) (zp_two (by rfl) (zp_sk (by rfl) (zp_sk (by rfl) (zp_sk (by rfl) (zp_sk (by rfl) (zp_head (by rfl) (by rfl)))))) (zp_two (by rfl) (zp_sk (by rfl) (zp_sk (by rfl) (zp_head (by rfl) (by rfl)))) (zp_sk (by rfl) (zp_sk (by rfl) (zp_sk (by rfl) (zp_sk (by rfl) (zp_sk (by rfl) (zp_sk (by rfl) (zp_sk (by rfl) (zp_head (by rfl) (by rfl)))))))))))))) ?_)
  refine z_aload_n (pc := 542) C 2 dL_law_542 rfl ?_
  refine z_aload_n (pc := 543) C 0 dL_law_543 rfl ?_
  refine z_iload_n (pc := 544) C 3 dL_law_544 rfl ?_
  refine z_iconst (pc := 545) (v := 1) C dL_law_545 (by decide) ?_
  refine z_iadd (pc := 546) C dL_law_546 ?_
  refine z_sld (pc := 547) C S dL_law_547 (ix_s (j := 1) hI S.2.2.2 rfl (by decide)) hA1 ?_
  refine z_aload_n (pc := 548) C 0 dL_law_548 rfl ?_
  refine z_iload_n (pc := 549) C 3 dL_law_549 rfl ?_
  refine z_iconst (pc := 550) (v := 2) C dL_law_550 (by decide) ?_
  refine z_iadd (pc := 551) C dL_law_551 ?_
  refine z_sld (pc := 552) C S dL_law_552 (ix_s (j := 2) hI S.2.2.2 rfl (by decide)) hA2 ?_
  refine z_aload_n (pc := 553) C 0 dL_law_553 rfl ?_
  refine z_iload_n (pc := 554) C 3 dL_law_554 rfl ?_
  refine z_iconst (pc := 555) (v := 3) C dL_law_555 (by decide) ?_
  refine z_iadd (pc := 556) C dL_law_556 ?_
  refine z_sld (pc := 557) C S dL_law_557 (ix_s (j := 3) hI S.2.2.2 rfl (by decide)) hA3 ?_
  refine z_callV (pc := 558) C (c_X9_flood (by assumption) (by assumption)) ((((((((((List.range 9).map (2 + ·)).map (2 + ·)).map (2 + ·)).map (2 + ·)).map (3 + ·)).map (26 + ·)).map (4 + ·)).map (4 + ·)).map (1 + ·)) hkn mV_X9_flood q_996 dL_law_558 rfl rfl (zg_sk (by rfl) (zg_sk (by rfl) (zg_sk (by rfl) (zg_sk (by rfl) (zg_sk (by rfl) (zg_sk (by rfl) (zg_sk (by rfl) (zg_sk (by rfl) (zg_sk (by rfl) (zg_last (by rfl))))))))))) 46 rfl rfl rfl rfl (Nat.le_of_ble_eq_true rfl) (by decide) (pI.go (ws' := wPM G ao so eo to ho mo oo xo _ _ fulls ++ (wSc G so sr sp sq _ pat _ _ ++ (wPa G po pl pr pd _ _ _ _ ++ (wPs G eo ek ka kb kc kd (g_X8_flood_krows rows ops cnt krows next A1 A2 A3) (g_X8_flood_kpat pat ops cnt kpat next A1 A2 A3) (g_X8_flood_kops ops cnt kops next A1 A2 A3) (g_X8_flood_kcnt ops cnt kcnt next A1 A2 A3) (g_X8_flood_next ops cnt next A1 A2 A3) (g_X8_flood_size ops cnt size A1 A2 A3) ++ (wPt G to ts tl so po _ _ ++ (wWh G ho hm so comes ++ (wMe G mo mb so po block ++ (wOr G oo on _ _ _ _ _ ++ (wTx G xo xb bytes len place num ++ wMd G dam dnm dpm drm dsm dlm dcm dtm dgm _ _ _ _ asidem _ _ _ textm textLm placem nargsm))))))))) (zp_sk (by rfl) (zp_sk (by rfl) (zp_sk (by rfl) (zp_sk (by rfl) (zp_sk (by rfl) (zp_sk (by rfl) (zp_sk (by rfl) (zp_sk (by rfl) (zp_sk (by rfl) (zp_last (by rfl) (by rfl))))))))))) ?_)
  refine z_icmp_eq (pc := 561) 1235 C dL_law_561 (by decide) (fun _ => ?_) (fun q => absurd hs.1 q)
  exact kk (g_X8_flood_bads bads A1 A2 A3) (g_X8_flood_noes noes ops cnt A1 A2 A3) fulls (g_X8_flood_rows rows pat ops cnt source like left srow sdot nums A1 A2 A3) pat (g_X8_flood_ops ops cnt nums A1 A2 A3) (g_X8_flood_cnt ops cnt A1 A2 A3) (g_X8_flood_left rows ops cnt like left srow sdot nums A1 A2 A3) (g_X8_flood_srow rows ops cnt like left srow sdot nums A1 A2 A3) (g_X8_flood_sdot rows ops cnt like left srow sdot nums A1 A2 A3) (g_X8_flood_steps rows ops cnt like left srow sdot steps nums A1 A2 A3) (g_X8_flood_krows rows ops cnt krows next A1 A2 A3) (g_X8_flood_kpat pat ops cnt kpat next A1 A2 A3) (g_X8_flood_kops ops cnt kops next A1 A2 A3) (g_X8_flood_kcnt ops cnt kcnt next A1 A2 A3) (g_X8_flood_next ops cnt next A1 A2 A3) (g_X8_flood_size ops cnt size A1 A2 A3) (g_X8_flood_source rows ops cnt source nums A1 A2 A3) (g_X8_flood_like rows ops cnt like left nums A1 A2 A3) comes block (g_X8_flood_nums nums A1 A2 A3) g_X8_flood_sign g_X8_flood_kix g_X8_flood_osz (g_X8_flood_aw A1 A2 A3) bytes len place num (g_X9_flood_now nowm pilem camem A1 A2 A3) (g_X9_flood_past nowm pastm statesm A1 A2 A3) (g_X9_flood_states nowm statesm A1 A2 A3) (g_X9_flood_refused nowm refusedm A1 A2 A3) asidem (g_X9_flood_pile nowm pilem camem A1 A2 A3) (g_X9_flood_came nowm pilem camem A1 A2 A3) (g_X9_flood_pileL nowm pilem camem pileLm A1 A2 A3) textm textLm placem nargsm hs.2

set_option maxRecDepth 100000 in
theorem lw_rectangle {X : zX} {G : zG} {b L I : Nat} {xs : Nat → Int32} {ao so sr sp sq po pl pr pd eo ek to ts tl ho hm mo mb oo on xo xb dam dnm dpm drm dsm dlm dcm dtm dgm : Nat} {ka kb kc kd : Nat → Nat} {bads : Int32} {noes : Int32} {fulls : Int32} {rows : Nat → Int32} {pat : Nat → Int32} {ops : Nat → Int32} {cnt : Int32} {left : Nat → Int32} {srow : Nat → Int32} {sdot : Nat → Int32} {steps : Int32} {krows : Nat → Nat → Int32} {kpat : Nat → Nat → Int32} {kops : Nat → Nat → Int32} {kcnt : Nat → Int32} {next : Int32} {size : Int32} {source : Nat → Int32} {like : Nat → Int32} {comes : Nat → Int32} {block : Nat → Int32} {nums : Nat → Int32} {sign : Int32} {kix : Nat} {osz : Int32} {aw : Int32} {bytes : Nat → Int32} {len : Int32} {place : Int32} {num : Int32} {nowm : Nat → Int32} {pastm : Nat → Int32} {statesm : Int32} {refusedm : Nat → Int32} {asidem : Nat → Int32} {pilem : Nat → Int32} {camem : Nat → Int32} {pileLm : Int32} {textm : Nat → Int32} {textLm : Int32} {placem : Int32} {nargsm : Nat → Int32} (C : zC X G 4 cL_law RL ret 11 458) (hkn : 55 ≤ (xR X).cells ∧ 4173 ≤ (xR X).slots) (S : lwS X b L xs) (hI : I + 10 ≤ L) (h : Rel rows pat ops cnt krows kpat kops kcnt next size bytes len bads noes fulls osz nowm pastm statesm refusedm textm textLm) (kk : ∀ (bads : Int32) (noes : Int32) (fulls : Int32) (rows : Nat → Int32) (pat : Nat → Int32) (ops : Nat → Int32) (cnt : Int32) (left : Nat → Int32) (srow : Nat → Int32) (sdot : Nat → Int32) (steps : Int32) (krows : Nat → Nat → Int32) (kpat : Nat → Nat → Int32) (kops : Nat → Nat → Int32) (kcnt : Nat → Int32) (next : Int32) (size : Int32) (source : Nat → Int32) (like : Nat → Int32) (comes : Nat → Int32) (block : Nat → Int32) (nums : Nat → Int32) (sign : Int32) (kix : Nat) (osz : Int32) (aw : Int32) (bytes : Nat → Int32) (len : Int32) (place : Int32) (num : Int32) (nowm : Nat → Int32) (pastm : Nat → Int32) (statesm : Int32) (refusedm : Nat → Int32) (asidem : Nat → Int32) (pilem : Nat → Int32) (camem : Nat → Int32) (pileLm : Int32) (textm : Nat → Int32) (textLm : Int32) (placem : Int32) (nargsm : Nat → Int32), Rel rows pat ops cnt krows kpat kops kcnt next size bytes len bads noes fulls osz nowm pastm statesm refusedm textm textLm → Z X G 4 55 4173 (wPM G ao so eo to ho mo oo xo bads noes fulls ++ (wSc G so sr sp sq rows pat ops cnt ++ (wPa G po pl pr pd left srow sdot steps ++ (wPs G eo ek ka kb kc kd krows kpat kops kcnt next size ++ (wPt G to ts tl so po source like ++ (wWh G ho hm so comes ++ (wMe G mo mb so po block ++ (wOr G oo on nums sign kix osz aw ++ (wTx G xo xb bytes len place num ++ wMd G dam dnm dpm drm dsm dlm dcm dtm dgm nowm pastm statesm refusedm asidem pilem camem pileLm textm textLm placem nargsm))))))))) 1235 [(0, .ref b), (1, .ref ao), (2, .ref dam), (3, .int (nI I))] []) : Z X G 4 55 4173 (wPM G ao so eo to ho mo oo xo bads noes fulls ++ (wSc G so sr sp sq rows pat ops cnt ++ (wPa G po pl pr pd left srow sdot steps ++ (wPs G eo ek ka kb kc kd krows kpat kops kcnt next size ++ (wPt G to ts tl so po source like ++ (wWh G ho hm so comes ++ (wMe G mo mb so po block ++ (wOr G oo on nums sign kix osz aw ++ (wTx G xo xb bytes len place num ++ wMd G dam dnm dpm drm dsm dlm dcm dtm dgm nowm pastm statesm refusedm asidem pilem camem pileLm textm textLm placem nargsm))))))))) 566 [(0, .ref b), (1, .ref ao), (2, .ref dam), (3, .int (nI I))] [] := by
  obtain ⟨A1, hA1⟩ : ∃ z, xs (nI I + 1).toNatClampNeg = z := ⟨_, rfl⟩
  obtain ⟨A2, hA2⟩ : ∃ z, xs (nI I + 2).toNatClampNeg = z := ⟨_, rfl⟩
  obtain ⟨A3, hA3⟩ : ∃ z, xs (nI I + 3).toNatClampNeg = z := ⟨_, rfl⟩
  obtain ⟨A4, hA4⟩ : ∃ z, xs (nI I + 4).toNatClampNeg = z := ⟨_, rfl⟩
  obtain ⟨A5, hA5⟩ : ∃ z, xs (nI I + 5).toNatClampNeg = z := ⟨_, rfl⟩
  obtain ⟨A6, hA6⟩ : ∃ z, xs (nI I + 6).toNatClampNeg = z := ⟨_, rfl⟩
  obtain ⟨f1_, f2_, f3_, f4_, f5_, f6_, f7_⟩ := h.facts
  have hs := sim_rectangle (left := left) (srow := srow) (sdot := sdot) (source := source) (like := like) (nums := nums) h A1 A2 A3 A4 A5 A6
  refine z_aload_n (pc := 566) C 1 dL_law_566 rfl ?_
  refine z_aload_n (pc := 567) C 0 dL_law_567 rfl ?_
  refine z_iload_n (pc := 568) C 3 dL_law_568 rfl ?_
  refine z_iconst (pc := 569) (v := 1) C dL_law_569 (by decide) ?_
  refine z_iadd (pc := 570) C dL_law_570 ?_
  refine z_sld (pc := 571) C S dL_law_571 (ix_s (j := 1) hI S.2.2.2 rfl (by decide)) hA1 ?_
  refine z_aload_n (pc := 572) C 0 dL_law_572 rfl ?_
  refine z_iload_n (pc := 573) C 3 dL_law_573 rfl ?_
  refine z_iconst (pc := 574) (v := 2) C dL_law_574 (by decide) ?_
  refine z_iadd (pc := 575) C dL_law_575 ?_
  refine z_sld (pc := 576) C S dL_law_576 (ix_s (j := 2) hI S.2.2.2 rfl (by decide)) hA2 ?_
  refine z_aload_n (pc := 577) C 0 dL_law_577 rfl ?_
  refine z_iload_n (pc := 578) C 3 dL_law_578 rfl ?_
  refine z_iconst (pc := 579) (v := 3) C dL_law_579 (by decide) ?_
  refine z_iadd (pc := 580) C dL_law_580 ?_
  refine z_sld (pc := 581) C S dL_law_581 (ix_s (j := 3) hI S.2.2.2 rfl (by decide)) hA3 ?_
  refine z_aload_n (pc := 582) C 0 dL_law_582 rfl ?_
  refine z_iload_n (pc := 583) C 3 dL_law_583 rfl ?_
  refine z_iconst (pc := 584) (v := 4) C dL_law_584 (by decide) ?_
  refine z_iadd (pc := 585) C dL_law_585 ?_
  refine z_sld (pc := 586) C S dL_law_586 (ix_s (j := 4) hI S.2.2.2 rfl (by decide)) hA4 ?_
  refine z_aload_n (pc := 587) C 0 dL_law_587 rfl ?_
  refine z_iload_n (pc := 588) C 3 dL_law_588 rfl ?_
  refine z_iconst (pc := 589) (v := 5) C dL_law_589 (by decide) ?_
  refine z_iadd (pc := 590) C dL_law_590 ?_
  refine z_sld (pc := 591) C S dL_law_591 (ix_s (j := 5) hI S.2.2.2 rfl (by decide)) hA5 ?_
  refine z_aload_n (pc := 592) C 0 dL_law_592 rfl ?_
  refine z_iload_n (pc := 593) C 3 dL_law_593 rfl ?_
  refine z_bipush (pc := 594) (v := 6) C dL_law_594 (by decide) ?_
  refine z_iadd (pc := 596) C dL_law_596 ?_
  refine z_sld (pc := 597) C S dL_law_597 (ix_s (j := 6) hI S.2.2.2 rfl (by decide)) hA6 ?_
  refine z_callV (pc := 598) C (c_X8_rectangle (ka := ka) (kb := kb) (kc := kc) (kd := kd) (krows := krows) (kpat := kpat) (kops := kops) (kcnt := kcnt) (by assumption) (by assumption)) ((List.range 1) ++ (((List.range 4).map (1 + ·)) ++ (((((List.range 26).map (4 + ·)).map (4 + ·)).map (1 + ·)) ++ ((((((List.range 3).map (26 + ·)).map (4 + ·)).map (4 + ·)).map (1 + ·)) ++ ((((List.range 4).map (4 + ·)).map (1 + ·)) ++ ((((((((List.range 2).map (2 + ·)).map (2 + ·)).map (3 + ·)).map (26 + ·)).map (4 + ·)).map (4 + ·)).map (1 + ·))))))) hkn mV_X8_rectangle q_590 dL_law_598 rfl rfl (zg_app (zg_head (by rfl)) (zg_app (zg_sk (by rfl) (zg_head (by rfl))) (zg_app (zg_sk (by rfl) (zg_sk (by rfl) (zg_sk (by rfl) (zg_head (by rfl))))) (zg_app (zg_sk (by rfl) (zg_sk (by rfl) (zg_sk (by rfl) (zg_sk (by rfl) (zg_head (by rfl)))))) (zg_app (zg_sk (by rfl) (zg_sk (by rfl) (zg_head (by rfl)))) (zg_sk (by rfl) (zg_sk (by rfl) (zg_sk (by rfl) (zg_sk (by rfl) (zg_sk (by rfl) (zg_sk (by rfl) (zg_sk (by rfl) (zg_head (by rfl)))))))))))))) 0 rfl rfl rfl rfl (Nat.le_of_ble_eq_true rfl) (by decide) (pI.go (ws' := wPM G ao so eo to ho mo oo xo _ noes fulls ++ (wSc G so sr sp sq _ pat _ _ ++ (wPa G po pl pr pd _ _ _ _ ++ (wPs G eo ek ka kb kc kd (g_X8_rectangle_krows rows krows next A1 A2 A3 A4 A5 A6) (g_X8_rectangle_kpat pat kpat next A1 A2 A3 A4 A5 A6) (g_X8_rectangle_kops ops kops next A1 A2 A3 A4 A5 A6) (g_X8_rectangle_kcnt cnt kcnt next A1 A2 A3 A4 A5 A6) (g_X8_rectangle_next next A1 A2 A3 A4 A5 A6) (g_X8_rectangle_size size A1 A2 A3 A4 A5 A6) ++ (wPt G to ts tl so po _ _ ++ (wWh G ho hm so comes ++ (wMe G mo mb so po block ++ (wOr G oo on _ _ _ _ _ ++ (wTx G xo xb bytes len place num ++ wMd G dam dnm dpm drm dsm dlm dcm dtm dgm nowm pastm statesm refusedm asidem pilem camem pileLm textm textLm placem nargsm))))))))) (zp_two (by rfl) (zp_head (by rfl) (by rfl)) (zp_two (by rfl) (zp_sk (by rfl) (zp_head (by rfl) (by rfl))) (zp_two (by rfl) (zp_sk (by rfl) (zp_sk (by rfl) (zp_sk (by rfl) (zp_head (by rfl) (by rfl))))) (zp_two (by rfl) (zp_sk (by rfl) (zp_sk (by rfl) (zp_sk (by rfl) (zp_sk (by rfl) (zp_head (by rfl) (by rfl)))))) (zp_two (by rfl) (zp_sk (by rfl) (zp_sk (by rfl) (zp_head (by rfl) (by rfl)))) (zp_sk (by rfl) (zp_sk (by rfl) (zp_sk (by rfl) (zp_sk (by rfl) (zp_sk (by rfl) (zp_sk (by rfl) (zp_sk (by rfl) (zp_head (by rfl) (by rfl)))))))))))))) ?_)
  refine z_aload_n (pc := 601) C 2 dL_law_601 rfl ?_
  refine z_aload_n (pc := 602) C 0 dL_law_602 rfl ?_
  refine z_iload_n (pc := 603) C 3 dL_law_603 rfl ?_
  refine z_iconst (pc := 604) (v := 1) C dL_law_604 (by decide) ?_
  refine z_iadd (pc := 605) C dL_law_605 ?_
  refine z_sld (pc := 606) C S dL_law_606 (ix_s (j := 1) hI S.2.2.2 rfl (by decide)) hA1 ?_
  refine z_aload_n (pc := 607) C 0 dL_law_607 rfl ?_
  refine z_iload_n (pc := 608) C 3 dL_law_608 rfl ?_
  refine z_iconst (pc := 609) (v := 2) C dL_law_609 (by decide) ?_
  refine z_iadd (pc := 610) C dL_law_610 ?_
  refine z_sld (pc := 611) C S dL_law_611 (ix_s (j := 2) hI S.2.2.2 rfl (by decide)) hA2 ?_
  refine z_aload_n (pc := 612) C 0 dL_law_612 rfl ?_
  refine z_iload_n (pc := 613) C 3 dL_law_613 rfl ?_
  refine z_iconst (pc := 614) (v := 3) C dL_law_614 (by decide) ?_
  refine z_iadd (pc := 615) C dL_law_615 ?_
  refine z_sld (pc := 616) C S dL_law_616 (ix_s (j := 3) hI S.2.2.2 rfl (by decide)) hA3 ?_
  refine z_aload_n (pc := 617) C 0 dL_law_617 rfl ?_
  refine z_iload_n (pc := 618) C 3 dL_law_618 rfl ?_
  refine z_iconst (pc := 619) (v := 4) C dL_law_619 (by decide) ?_
  refine z_iadd (pc := 620) C dL_law_620 ?_
  refine z_sld (pc := 621) C S dL_law_621 (ix_s (j := 4) hI S.2.2.2 rfl (by decide)) hA4 ?_
  refine z_aload_n (pc := 622) C 0 dL_law_622 rfl ?_
  refine z_iload_n (pc := 623) C 3 dL_law_623 rfl ?_
  refine z_iconst (pc := 624) (v := 5) C dL_law_624 (by decide) ?_
  refine z_iadd (pc := 625) C dL_law_625 ?_
  refine z_sld (pc := 626) C S dL_law_626 (ix_s (j := 5) hI S.2.2.2 rfl (by decide)) hA5 ?_
  refine z_aload_n (pc := 627) C 0 dL_law_627 rfl ?_
  refine z_iload_n (pc := 628) C 3 dL_law_628 rfl ?_
  refine z_bipush (pc := 629) (v := 6) C dL_law_629 (by decide) ?_
  refine z_iadd (pc := 631) C dL_law_631 ?_
  refine z_sld (pc := 632) C S dL_law_632 (ix_s (j := 6) hI S.2.2.2 rfl (by decide)) hA6 ?_
  refine z_callV (pc := 633) C (c_X9_rectangle (by assumption) (by assumption)) ((((((((((List.range 9).map (2 + ·)).map (2 + ·)).map (2 + ·)).map (2 + ·)).map (3 + ·)).map (26 + ·)).map (4 + ·)).map (4 + ·)).map (1 + ·)) hkn mV_X9_rectangle q_1024 dL_law_633 rfl rfl (zg_sk (by rfl) (zg_sk (by rfl) (zg_sk (by rfl) (zg_sk (by rfl) (zg_sk (by rfl) (zg_sk (by rfl) (zg_sk (by rfl) (zg_sk (by rfl) (zg_sk (by rfl) (zg_last (by rfl))))))))))) 46 rfl rfl rfl rfl (Nat.le_of_ble_eq_true rfl) (by decide) (pI.go (ws' := wPM G ao so eo to ho mo oo xo _ noes fulls ++ (wSc G so sr sp sq _ pat _ _ ++ (wPa G po pl pr pd _ _ _ _ ++ (wPs G eo ek ka kb kc kd (g_X8_rectangle_krows rows krows next A1 A2 A3 A4 A5 A6) (g_X8_rectangle_kpat pat kpat next A1 A2 A3 A4 A5 A6) (g_X8_rectangle_kops ops kops next A1 A2 A3 A4 A5 A6) (g_X8_rectangle_kcnt cnt kcnt next A1 A2 A3 A4 A5 A6) (g_X8_rectangle_next next A1 A2 A3 A4 A5 A6) (g_X8_rectangle_size size A1 A2 A3 A4 A5 A6) ++ (wPt G to ts tl so po _ _ ++ (wWh G ho hm so comes ++ (wMe G mo mb so po block ++ (wOr G oo on _ _ _ _ _ ++ (wTx G xo xb bytes len place num ++ wMd G dam dnm dpm drm dsm dlm dcm dtm dgm _ _ _ _ asidem pilem camem pileLm textm textLm placem nargsm))))))))) (zp_sk (by rfl) (zp_sk (by rfl) (zp_sk (by rfl) (zp_sk (by rfl) (zp_sk (by rfl) (zp_sk (by rfl) (zp_sk (by rfl) (zp_sk (by rfl) (zp_sk (by rfl) (zp_last (by rfl) (by rfl))))))))))) ?_)
  refine z_icmp_eq (pc := 636) 1235 C dL_law_636 (by decide) (fun _ => ?_) (fun q => absurd hs.1 q)
  exact kk (g_X8_rectangle_bads bads A1 A2 A3 A4 A5 A6) noes fulls (g_X8_rectangle_rows rows pat ops cnt source like left srow sdot nums A1 A2 A3 A4 A5 A6) pat (g_X8_rectangle_ops ops cnt nums A1 A2 A3 A4 A5 A6) (g_X8_rectangle_cnt cnt A1 A2 A3 A4 A5 A6) (g_X8_rectangle_left rows ops cnt like left srow sdot nums A1 A2 A3 A4 A5 A6) (g_X8_rectangle_srow rows ops cnt like left srow sdot nums A1 A2 A3 A4 A5 A6) (g_X8_rectangle_sdot rows ops cnt like left srow sdot nums A1 A2 A3 A4 A5 A6) (g_X8_rectangle_steps rows ops cnt like left srow sdot steps nums A1 A2 A3 A4 A5 A6) (g_X8_rectangle_krows rows krows next A1 A2 A3 A4 A5 A6) (g_X8_rectangle_kpat pat kpat next A1 A2 A3 A4 A5 A6) (g_X8_rectangle_kops ops kops next A1 A2 A3 A4 A5 A6) (g_X8_rectangle_kcnt cnt kcnt next A1 A2 A3 A4 A5 A6) (g_X8_rectangle_next next A1 A2 A3 A4 A5 A6) (g_X8_rectangle_size size A1 A2 A3 A4 A5 A6) (g_X8_rectangle_source rows source nums A1 A2 A3 A4 A5 A6) (g_X8_rectangle_like rows ops cnt like left nums A1 A2 A3 A4 A5 A6) comes block (g_X8_rectangle_nums nums A1 A2 A3 A4 A5 A6) g_X8_rectangle_sign g_X8_rectangle_kix g_X8_rectangle_osz (g_X8_rectangle_aw A1 A2 A3 A4 A5 A6) bytes len place num (g_X9_rectangle_now nowm A1 A2 A3 A4 A5 A6) (g_X9_rectangle_past nowm pastm statesm A1 A2 A3 A4 A5 A6) (g_X9_rectangle_states statesm A1 A2 A3 A4 A5 A6) (g_X9_rectangle_refused refusedm A1 A2 A3 A4 A5 A6) asidem pilem camem pileLm textm textLm placem nargsm hs.2
