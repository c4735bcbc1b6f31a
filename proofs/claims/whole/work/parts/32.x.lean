theorem mI_X6 : (Cond.code yX6_init cX6_init 1 none ∈ gW ∧ Cond.instanceMethod yX6_init ∈ gW ∧ Cond.initialized yX6_init.cls ∈ gW ∧ zOk yX6_init 0) := ⟨q_93, q_92, q_64, by unfold zOk; decide +kernel⟩
set_option maxRecDepth 100000 in
theorem c_X6_init {l : Launch} {G : zG} {so : Nat} : Cn l G yX6_init cX6_init 1 1 23 3 96 [.ref so] [(so, .inr (6, [.null, .null, .null, .int 0]))] (fun v w => v = none ∧ ∃ sr sp sq : Nat, w = wSc G so sr sp sq (fun _ => 0) (g_J7_fill_53178_arr (fun _ => 0) 255) (fun _ => 0) 0) := by
  refine Cn.of (plainFor_of_name (by decide)) rfl (Nat.le_of_ble_eq_true rfl) (fun X C N I E => ?_)
  show Z X G 1 0 0 _ 0 [(0, .ref so)] []
  refine z_aload_n (pc := 0) C 0 dX6_init_0 rfl ?_
  refine z_obj (pc := 1) C q_94 q_87 q_88 dX6_init_1 (by decide) (by decide) (by decide) ?_
  refine z_aload_n (pc := 4) C 0 dX6_init_4 rfl ?_
  refine z_bipush (pc := 5) (v := 72) C dX6_init_5 (by decide) ?_
  refine z_newI (pc := 7) (N := 72) C q_114 dX6_init_7 (by decide) (by decide) (Nat.le_of_ble_eq_true rfl) ⟨Nat.le_trans (Nat.le_of_ble_eq_true rfl : 1 ≤ 3) N.2.1, Nat.le_trans (Nat.le_of_ble_eq_true rfl : 72 ≤ 96) N.2.2⟩ (fun sr => ?_)
  show Z X G 1 1 72 ([(so, .inr (6, [.null, .null, .null, .int 0]))] ++ [(sr, .inl (cI G, 72, .inl (fun _ => 0)))]) 9 [(0, .ref so)] [.ref sr, .ref so]
  refine z_putF (pc := 9) ([(so, .inr (6, [.ref sr, .null, .null, .int 0]))] ++ [(sr, .inl (cI G, 72, .inl (fun _ => 0)))]) C I 0 0 dX6_init_9 rfl rfl i_X6 tyX6_ok nmX6 (by decide) q_98 rfl rfl rfl rfl rfl (Nat.le_of_ble_eq_true rfl) rfl ?_
  refine z_aload_n (pc := 12) C 0 dX6_init_12 rfl ?_
  refine z_bipush (pc := 13) (v := 8) C dX6_init_13 (by decide) ?_
  refine z_newI (pc := 15) (N := 8) C q_114 dX6_init_15 (by decide) (by decide) (Nat.le_of_ble_eq_true rfl) ⟨Nat.le_trans (Nat.le_of_ble_eq_true rfl : 2 ≤ 3) N.2.1, Nat.le_trans (Nat.le_of_ble_eq_true rfl : 80 ≤ 96) N.2.2⟩ (fun sp => ?_)
  show Z X G 1 2 80 ([(so, .inr (6, [.ref sr, .null, .null, .int 0]))] ++ ([(sr, .inl (cI G, 72, .inl (fun _ => 0)))] ++ [(sp, .inl (cI G, 8, .inl (fun _ => 0)))])) 17 [(0, .ref so)] [.ref sp, .ref so]
  refine z_putF (pc := 17) ([(so, .inr (6, [.ref sr, .ref sp, .null, .int 0]))] ++ ([(sr, .inl (cI G, 72, .inl (fun _ => 0)))] ++ [(sp, .inl (cI G, 8, .inl (fun _ => 0)))])) C I 0 1 dX6_init_17 rfl rfl i_X6 tyX6_ok nmX6 (by decide) q_99 rfl rfl rfl rfl rfl (Nat.le_of_ble_eq_true rfl) rfl ?_
  refine z_aload_n (pc := 20) C 0 dX6_init_20 rfl ?_
  refine z_bipush (pc := 21) (v := 16) C dX6_init_21 (by decide) ?_
  refine z_newI (pc := 23) (N := 16) C q_114 dX6_init_23 (by decide) (by decide) (Nat.le_of_ble_eq_true rfl) ⟨Nat.le_trans (Nat.le_of_ble_eq_true rfl : 3 ≤ 3) N.2.1, Nat.le_trans (Nat.le_of_ble_eq_true rfl : 96 ≤ 96) N.2.2⟩ (fun sq => ?_)
  show Z X G 1 3 96 ([(so, .inr (6, [.ref sr, .ref sp, .null, .int 0]))] ++ ([(sr, .inl (cI G, 72, .inl (fun _ => 0)))] ++ ([(sp, .inl (cI G, 8, .inl (fun _ => 0)))] ++ [(sq, .inl (cI G, 16, .inl (fun _ => 0)))]))) 25 [(0, .ref so)] [.ref sq, .ref so]
  refine z_putF (pc := 25) ([(so, .inr (6, [.ref sr, .ref sp, .ref sq, .int 0]))] ++ ([(sr, .inl (cI G, 72, .inl (fun _ => 0)))] ++ ([(sp, .inl (cI G, 8, .inl (fun _ => 0)))] ++ [(sq, .inl (cI G, 16, .inl (fun _ => 0)))]))) C I 0 2 dX6_init_25 rfl rfl i_X6 tyX6_ok nmX6 (by decide) q_101 rfl rfl rfl rfl rfl (Nat.le_of_ble_eq_true rfl) rfl ?_
  refine z_aload_n (pc := 28) C 0 dX6_init_28 rfl ?_
  refine z_get (pc := 29) C 0 1 dX6_init_29 rfl rfl i_X6 (by decide) q_99 rfl ?_
  refine z_sipush (pc := 32) (v := 255) C dX6_init_32 (by decide) ?_
  refine z_callS (pc := 35) C c_J7_fill_53178 [2] ⟨Nat.le_trans (Nat.le_of_ble_eq_true rfl : 3 ≤ 3) N.2.1, Nat.le_trans (Nat.le_of_ble_eq_true rfl : 96 ≤ 96) N.2.2⟩ mS_J7_fill_53178 q_95 dX6_init_35 rfl rfl rfl rfl (by decide) ⟨by decide, by decide⟩ (pV.go (ws' := [(so, .inr (6, [.ref sr, .ref sp, .ref sq, .int 0]))] ++ ([(sr, .inl (cI G, 72, .inl (fun _ => 0)))] ++ ([(sp, .inl (cI G, 8, .inl (g_J7_fill_53178_arr (fun _ => 0) 255)))] ++ [(sq, .inl (cI G, 16, .inl (fun _ => 0)))]))) rfl ?_)
  exact z_vretn (pc := 38) C E dX6_init_38 ⟨rfl, sr, sp, sq, rfl⟩

theorem mI_X4 : (Cond.code yX4_init cX4_init 1 none ∈ gW ∧ Cond.instanceMethod yX4_init ∈ gW ∧ Cond.initialized yX4_init.cls ∈ gW ∧ zOk yX4_init 0) := ⟨q_119, q_118, q_66, by unfold zOk; decide +kernel⟩
set_option maxRecDepth 100000 in
theorem c_X4_init {l : Launch} {G : zG} {po : Nat} : Cn l G yX4_init cX4_init 1 1 20 3 792 [.ref po] [(po, .inr (4, [.null, .null, .null, .int 0]))] (fun v w => v = none ∧ ∃ pl pr pd : Nat, w = wPa G po pl pr pd (fun _ => 0) (fun _ => 0) (fun _ => 0) 0) := by
  refine Cn.of (plainFor_of_name (by decide)) rfl (Nat.le_of_ble_eq_true rfl) (fun X C N I E => ?_)
  show Z X G 1 0 0 _ 0 [(0, .ref po)] []
  refine z_aload_n (pc := 0) C 0 dX4_init_0 rfl ?_
  refine z_obj (pc := 1) C q_120 q_87 q_88 dX4_init_1 (by decide) (by decide) (by decide) ?_
  refine z_aload_n (pc := 4) C 0 dX4_init_4 rfl ?_
  refine z_bipush (pc := 5) (v := 24) C dX4_init_5 (by decide) ?_
  refine z_newI (pc := 7) (N := 24) C q_114 dX4_init_7 (by decide) (by decide) (Nat.le_of_ble_eq_true rfl) ⟨Nat.le_trans (Nat.le_of_ble_eq_true rfl : 1 ≤ 3) N.2.1, Nat.le_trans (Nat.le_of_ble_eq_true rfl : 24 ≤ 792) N.2.2⟩ (fun pl => ?_)
  show Z X G 1 1 24 ([(po, .inr (4, [.null, .null, .null, .int 0]))] ++ [(pl, .inl (cI G, 24, .inl (fun _ => 0)))]) 9 [(0, .ref po)] [.ref pl, .ref po]
  refine z_putF (pc := 9) ([(po, .inr (4, [.ref pl, .null, .null, .int 0]))] ++ [(pl, .inl (cI G, 24, .inl (fun _ => 0)))]) C I 0 0 dX4_init_9 rfl rfl i_X4 tyX4_ok nmX4 (by decide) q_121 rfl rfl rfl rfl rfl (Nat.le_of_ble_eq_true rfl) rfl ?_
  refine z_aload_n (pc := 12) C 0 dX4_init_12 rfl ?_
  refine z_sipush (pc := 13) (v := 384) C dX4_init_13 (by decide) ?_
  refine z_newI (pc := 16) (N := 384) C q_114 dX4_init_16 (by decide) (by decide) (Nat.le_of_ble_eq_true rfl) ⟨Nat.le_trans (Nat.le_of_ble_eq_true rfl : 2 ≤ 3) N.2.1, Nat.le_trans (Nat.le_of_ble_eq_true rfl : 408 ≤ 792) N.2.2⟩ (fun pr => ?_)
  show Z X G 1 2 408 ([(po, .inr (4, [.ref pl, .null, .null, .int 0]))] ++ ([(pl, .inl (cI G, 24, .inl (fun _ => 0)))] ++ [(pr, .inl (cI G, 384, .inl (fun _ => 0)))])) 18 [(0, .ref po)] [.ref pr, .ref po]
  refine z_putF (pc := 18) ([(po, .inr (4, [.ref pl, .ref pr, .null, .int 0]))] ++ ([(pl, .inl (cI G, 24, .inl (fun _ => 0)))] ++ [(pr, .inl (cI G, 384, .inl (fun _ => 0)))])) C I 0 1 dX4_init_18 rfl rfl i_X4 tyX4_ok nmX4 (by decide) q_124 rfl rfl rfl rfl rfl (Nat.le_of_ble_eq_true rfl) rfl ?_
  refine z_aload_n (pc := 21) C 0 dX4_init_21 rfl ?_
  refine z_sipush (pc := 22) (v := 384) C dX4_init_22 (by decide) ?_
  refine z_newI (pc := 25) (N := 384) C q_114 dX4_init_25 (by decide) (by decide) (Nat.le_of_ble_eq_true rfl) ⟨Nat.le_trans (Nat.le_of_ble_eq_true rfl : 3 ≤ 3) N.2.1, Nat.le_trans (Nat.le_of_ble_eq_true rfl : 792 ≤ 792) N.2.2⟩ (fun pd => ?_)
  show Z X G 1 3 792 ([(po, .inr (4, [.ref pl, .ref pr, .null, .int 0]))] ++ ([(pl, .inl (cI G, 24, .inl (fun _ => 0)))] ++ ([(pr, .inl (cI G, 384, .inl (fun _ => 0)))] ++ [(pd, .inl (cI G, 384, .inl (fun _ => 0)))]))) 27 [(0, .ref po)] [.ref pd, .ref po]
  refine z_putF (pc := 27) ([(po, .inr (4, [.ref pl, .ref pr, .ref pd, .int 0]))] ++ ([(pl, .inl (cI G, 24, .inl (fun _ => 0)))] ++ ([(pr, .inl (cI G, 384, .inl (fun _ => 0)))] ++ [(pd, .inl (cI G, 384, .inl (fun _ => 0)))]))) C I 0 2 dX4_init_27 rfl rfl i_X4 tyX4_ok nmX4 (by decide) q_125 rfl rfl rfl rfl rfl (Nat.le_of_ble_eq_true rfl) rfl ?_
  exact z_vretn (pc := 30) C E dX4_init_30 ⟨rfl, pl, pr, pd, rfl⟩

theorem mI_X3 : (Cond.code yX3_init cX3_init 3 none ∈ gW ∧ Cond.instanceMethod yX3_init ∈ gW ∧ Cond.initialized yX3_init.cls ∈ gW ∧ zOk yX3_init 2) := ⟨q_160, q_159, q_68, by unfold zOk; decide +kernel⟩
set_option maxRecDepth 100000 in
theorem c_X3_init {l : Launch} {G : zG} {to so po : Nat} : Cn l G yX3_init cX3_init 3 1 20 2 48 [.ref to, .ref so, .ref po] [(to, .inr (3, [.null, .null, .null, .null]))] (fun v w => v = none ∧ ∃ ts tl : Nat, w = wPt G to ts tl so po (fun _ => 0) (fun _ => 0)) := by
  refine Cn.of (plainFor_of_name (by decide)) rfl (Nat.le_of_ble_eq_true rfl) (fun X C N I E => ?_)
  show Z X G 3 0 0 _ 0 [(0, .ref to), (1, .ref so), (2, .ref po)] []
  refine z_aload_n (pc := 0) C 0 dX3_init_0 rfl ?_
  refine z_obj (pc := 1) C q_161 q_87 q_88 dX3_init_1 (by decide) (by decide) (by decide) ?_
  refine z_aload_n (pc := 4) C 0 dX3_init_4 rfl ?_
  refine z_bipush (pc := 5) (v := 24) C dX3_init_5 (by decide) ?_
  refine z_newI (pc := 7) (N := 24) C q_114 dX3_init_7 (by decide) (by decide) (Nat.le_of_ble_eq_true rfl) ⟨Nat.le_trans (Nat.le_of_ble_eq_true rfl : 1 ≤ 2) N.2.1, Nat.le_trans (Nat.le_of_ble_eq_true rfl : 24 ≤ 48) N.2.2⟩ (fun ts => ?_)
  show Z X G 3 1 24 ([(to, .inr (3, [.null, .null, .null, .null]))] ++ [(ts, .inl (cI G, 24, .inl (fun _ => 0)))]) 9 [(0, .ref to), (1, .ref so), (2, .ref po)] [.ref ts, .ref to]
  refine z_putF (pc := 9) ([(to, .inr (3, [.null, .null, .ref ts, .null]))] ++ [(ts, .inl (cI G, 24, .inl (fun _ => 0)))]) C I 0 2 dX3_init_9 rfl rfl i_X3 tyX3_ok nmX3 (by decide) q_164 rfl rfl rfl rfl rfl (Nat.le_of_ble_eq_true rfl) rfl ?_
  refine z_aload_n (pc := 12) C 0 dX3_init_12 rfl ?_
  refine z_bipush (pc := 13) (v := 24) C dX3_init_13 (by decide) ?_
  refine z_newI (pc := 15) (N := 24) C q_114 dX3_init_15 (by decide) (by decide) (Nat.le_of_ble_eq_true rfl) ⟨Nat.le_trans (Nat.le_of_ble_eq_true rfl : 2 ≤ 2) N.2.1, Nat.le_trans (Nat.le_of_ble_eq_true rfl : 48 ≤ 48) N.2.2⟩ (fun tl => ?_)
  show Z X G 3 2 48 ([(to, .inr (3, [.null, .null, .ref ts, .null]))] ++ ([(ts, .inl (cI G, 24, .inl (fun _ => 0)))] ++ [(tl, .inl (cI G, 24, .inl (fun _ => 0)))])) 17 [(0, .ref to), (1, .ref so), (2, .ref po)] [.ref tl, .ref to]
  refine z_putF (pc := 17) ([(to, .inr (3, [.null, .null, .ref ts, .ref tl]))] ++ ([(ts, .inl (cI G, 24, .inl (fun _ => 0)))] ++ [(tl, .inl (cI G, 24, .inl (fun _ => 0)))])) C I 0 3 dX3_init_17 rfl rfl i_X3 tyX3_ok nmX3 (by decide) q_165 rfl rfl rfl rfl rfl (Nat.le_of_ble_eq_true rfl) rfl ?_
  refine z_aload_n (pc := 20) C 0 dX3_init_20 rfl ?_
  refine z_aload_n (pc := 21) C 1 dX3_init_21 rfl ?_
  refine z_putF (pc := 22) ([(to, .inr (3, [.ref so, .null, .ref ts, .ref tl]))] ++ ([(ts, .inl (cI G, 24, .inl (fun _ => 0)))] ++ [(tl, .inl (cI G, 24, .inl (fun _ => 0)))])) C I 0 0 dX3_init_22 rfl rfl i_X3 tyX3_ok nmX3 (by decide) q_162 rfl rfl rfl rfl rfl (Nat.le_of_ble_eq_true rfl) rfl ?_
  refine z_aload_n (pc := 25) C 0 dX3_init_25 rfl ?_
  refine z_aload_n (pc := 26) C 2 dX3_init_26 rfl ?_
  refine z_putF (pc := 27) ([(to, .inr (3, [.ref so, .ref po, .ref ts, .ref tl]))] ++ ([(ts, .inl (cI G, 24, .inl (fun _ => 0)))] ++ [(tl, .inl (cI G, 24, .inl (fun _ => 0)))])) C I 0 1 dX3_init_27 rfl rfl i_X3 tyX3_ok nmX3 (by decide) q_163 rfl rfl rfl rfl rfl (Nat.le_of_ble_eq_true rfl) rfl ?_
  exact z_vretn (pc := 30) C E dX3_init_30 ⟨rfl, ts, tl, rfl⟩

theorem mI_X7 : (Cond.code yX7_init cX7_init 2 none ∈ gW ∧ Cond.instanceMethod yX7_init ∈ gW ∧ Cond.initialized yX7_init.cls ∈ gW ∧ zOk yX7_init 1) := ⟨q_179, q_178, q_69, by unfold zOk; decide +kernel⟩
set_option maxRecDepth 100000 in
theorem c_X7_init {l : Launch} {G : zG} {ho so : Nat} : Cn l G yX7_init cX7_init 2 1 20 1 24 [.ref ho, .ref so] [(ho, .inr (7, [.null, .null]))] (fun v w => v = none ∧ ∃ hm : Nat, w = wWh G ho hm so (fun _ => 0)) := by
  refine Cn.of (plainFor_of_name (by decide)) rfl (Nat.le_of_ble_eq_true rfl) (fun X C N I E => ?_)
  show Z X G 2 0 0 _ 0 [(0, .ref ho), (1, .ref so)] []
  refine z_aload_n (pc := 0) C 0 dX7_init_0 rfl ?_
  refine z_obj (pc := 1) C q_180 q_87 q_88 dX7_init_1 (by decide) (by decide) (by decide) ?_
  refine z_aload_n (pc := 4) C 0 dX7_init_4 rfl ?_
  refine z_bipush (pc := 5) (v := 24) C dX7_init_5 (by decide) ?_
  refine z_newI (pc := 7) (N := 24) C q_114 dX7_init_7 (by decide) (by decide) (Nat.le_of_ble_eq_true rfl) ⟨Nat.le_trans (Nat.le_of_ble_eq_true rfl : 1 ≤ 1) N.2.1, Nat.le_trans (Nat.le_of_ble_eq_true rfl : 24 ≤ 24) N.2.2⟩ (fun hm => ?_)
  show Z X G 2 1 24 ([(ho, .inr (7, [.null, .null]))] ++ [(hm, .inl (cI G, 24, .inl (fun _ => 0)))]) 9 [(0, .ref ho), (1, .ref so)] [.ref hm, .ref ho]
  refine z_putF (pc := 9) ([(ho, .inr (7, [.null, .ref hm]))] ++ [(hm, .inl (cI G, 24, .inl (fun _ => 0)))]) C I 0 1 dX7_init_9 rfl rfl i_X7 tyX7_ok nmX7 (by decide) q_182 rfl rfl rfl rfl rfl (Nat.le_of_ble_eq_true rfl) rfl ?_
  refine z_aload_n (pc := 12) C 0 dX7_init_12 rfl ?_
  refine z_aload_n (pc := 13) C 1 dX7_init_13 rfl ?_
  refine z_putF (pc := 14) ([(ho, .inr (7, [.ref so, .ref hm]))] ++ [(hm, .inl (cI G, 24, .inl (fun _ => 0)))]) C I 0 0 dX7_init_14 rfl rfl i_X7 tyX7_ok nmX7 (by decide) q_181 rfl rfl rfl rfl rfl (Nat.le_of_ble_eq_true rfl) rfl ?_
  exact z_vretn (pc := 17) C E dX7_init_17 ⟨rfl, hm, rfl⟩

theorem mI_X0 : (Cond.code yX0_init cX0_init 3 none ∈ gW ∧ Cond.instanceMethod yX0_init ∈ gW ∧ Cond.initialized yX0_init.cls ∈ gW ∧ zOk yX0_init 2) := ⟨q_192, q_191, q_70, by unfold zOk; decide +kernel⟩
set_option maxRecDepth 100000 in
theorem c_X0_init {l : Launch} {G : zG} {mo so po : Nat} : Cn l G yX0_init cX0_init 3 1 20 1 8 [.ref mo, .ref so, .ref po] [(mo, .inr (0, [.null, .null, .null]))] (fun v w => v = none ∧ ∃ mb : Nat, w = wMe G mo mb so po (fun _ => 0)) := by
  refine Cn.of (plainFor_of_name (by decide)) rfl (Nat.le_of_ble_eq_true rfl) (fun X C N I E => ?_)
  show Z X G 3 0 0 _ 0 [(0, .ref mo), (1, .ref so), (2, .ref po)] []
  refine z_aload_n (pc := 0) C 0 dX0_init_0 rfl ?_
  refine z_obj (pc := 1) C q_193 q_87 q_88 dX0_init_1 (by decide) (by decide) (by decide) ?_
  refine z_aload_n (pc := 4) C 0 dX0_init_4 rfl ?_
  refine z_bipush (pc := 5) (v := 8) C dX0_init_5 (by decide) ?_
  refine z_newI (pc := 7) (N := 8) C q_114 dX0_init_7 (by decide) (by decide) (Nat.le_of_ble_eq_true rfl) ⟨Nat.le_trans (Nat.le_of_ble_eq_true rfl : 1 ≤ 1) N.2.1, Nat.le_trans (Nat.le_of_ble_eq_true rfl : 8 ≤ 8) N.2.2⟩ (fun mb => ?_)
  show Z X G 3 1 8 ([(mo, .inr (0, [.null, .null, .null]))] ++ [(mb, .inl (cI G, 8, .inl (fun _ => 0)))]) 9 [(0, .ref mo), (1, .ref so), (2, .ref po)] [.ref mb, .ref mo]
  refine z_putF (pc := 9) ([(mo, .inr (0, [.null, .null, .ref mb]))] ++ [(mb, .inl (cI G, 8, .inl (fun _ => 0)))]) C I 0 2 dX0_init_9 rfl rfl i_X0 tyX0_ok nmX0 (by decide) q_196 rfl rfl rfl rfl rfl (Nat.le_of_ble_eq_true rfl) rfl ?_
  refine z_aload_n (pc := 12) C 0 dX0_init_12 rfl ?_
  refine z_aload_n (pc := 13) C 1 dX0_init_13 rfl ?_
  refine z_putF (pc := 14) ([(mo, .inr (0, [.ref so, .null, .ref mb]))] ++ [(mb, .inl (cI G, 8, .inl (fun _ => 0)))]) C I 0 0 dX0_init_14 rfl rfl i_X0 tyX0_ok nmX0 (by decide) q_194 rfl rfl rfl rfl rfl (Nat.le_of_ble_eq_true rfl) rfl ?_
  refine z_aload_n (pc := 17) C 0 dX0_init_17 rfl ?_
  refine z_aload_n (pc := 18) C 2 dX0_init_18 rfl ?_
  refine z_putF (pc := 19) ([(mo, .inr (0, [.ref so, .ref po, .ref mb]))] ++ [(mb, .inl (cI G, 8, .inl (fun _ => 0)))]) C I 0 1 dX0_init_19 rfl rfl i_X0 tyX0_ok nmX0 (by decide) q_195 rfl rfl rfl rfl rfl (Nat.le_of_ble_eq_true rfl) rfl ?_
  exact z_vretn (pc := 22) C E dX0_init_22 ⟨rfl, mb, rfl⟩

theorem mI_X1 : (Cond.code yX1_init cX1_init 1 none ∈ gW ∧ Cond.instanceMethod yX1_init ∈ gW ∧ Cond.initialized yX1_init.cls ∈ gW ∧ zOk yX1_init 0) := ⟨q_208, q_207, q_71, by unfold zOk; decide +kernel⟩
set_option maxRecDepth 100000 in
theorem c_X1_init {l : Launch} {G : zG} {oo : Nat} : Cn l G yX1_init cX1_init 1 1 20 1 9 [.ref oo] [(oo, .inr (1, [.null, .int 0, .null, .int 0, .int 0]))] (fun v w => v = none ∧ ∃ on : Nat, w = wOr G oo on (fun _ => 0) 0 0 0 0) := by
  refine Cn.of (plainFor_of_name (by decide)) rfl (Nat.le_of_ble_eq_true rfl) (fun X C N I E => ?_)
  show Z X G 1 0 0 _ 0 [(0, .ref oo)] []
  refine z_aload_n (pc := 0) C 0 dX1_init_0 rfl ?_
  refine z_obj (pc := 1) C q_209 q_87 q_88 dX1_init_1 (by decide) (by decide) (by decide) ?_
  refine z_aload_n (pc := 4) C 0 dX1_init_4 rfl ?_
  refine z_bipush (pc := 5) (v := 9) C dX1_init_5 (by decide) ?_
  refine z_newI (pc := 7) (N := 9) C q_114 dX1_init_7 (by decide) (by decide) (Nat.le_of_ble_eq_true rfl) ⟨Nat.le_trans (Nat.le_of_ble_eq_true rfl : 1 ≤ 1) N.2.1, Nat.le_trans (Nat.le_of_ble_eq_true rfl : 9 ≤ 9) N.2.2⟩ (fun on => ?_)
  show Z X G 1 1 9 ([(oo, .inr (1, [.null, .int 0, .null, .int 0, .int 0]))] ++ [(on, .inl (cI G, 9, .inl (fun _ => 0)))]) 9 [(0, .ref oo)] [.ref on, .ref oo]
  refine z_putF (pc := 9) ([(oo, .inr (1, [.ref on, .int 0, .null, .int 0, .int 0]))] ++ [(on, .inl (cI G, 9, .inl (fun _ => 0)))]) C I 0 0 dX1_init_9 rfl rfl i_X1 tyX1_ok nmX1 (by decide) q_211 rfl rfl rfl rfl rfl (Nat.le_of_ble_eq_true rfl) rfl ?_
  refine z_aload_n (pc := 12) C 0 dX1_init_12 rfl ?_
  refine z_ldcS (pc := 13) (i := 0) C (by decide) dX1_init_13 ?_
  refine z_put (pc := 15) ([(oo, .inr (1, [.ref on, .int 0, .ref (aK G 0), .int 0, .int 0]))] ++ [(on, .inl (cI G, 9, .inl (fun _ => 0)))]) C 0 2 dX1_init_15 rfl rfl i_X1 tyX1_ok nmX1 (by decide) q_215 rfl rfl rfl rfl (Nat.le_of_ble_eq_true rfl) rfl ?_
  exact z_vretn (pc := 18) C E dX1_init_18 ⟨rfl, on, rfl⟩

theorem mI_X2 : (Cond.code yX2_init cX2_init 1 none ∈ gW ∧ Cond.instanceMethod yX2_init ∈ gW ∧ Cond.initialized yX2_init.cls ∈ gW ∧ zOk yX2_init 0) := ⟨q_236, q_235, q_72, by unfold zOk; decide +kernel⟩
set_option maxRecDepth 100000 in
theorem c_X2_init {l : Launch} {G : zG} {xo : Nat} : Cn l G yX2_init cX2_init 1 1 20 1 120 [.ref xo] [(xo, .inr (2, [.null, .int 0, .int 0, .int 0]))] (fun v w => v = none ∧ ∃ xb : Nat, w = wTx G xo xb (fun _ => 0) 0 0 0) := by
  refine Cn.of (plainFor_of_name (by decide)) rfl (Nat.le_of_ble_eq_true rfl) (fun X C N I E => ?_)
  show Z X G 1 0 0 _ 0 [(0, .ref xo)] []
  refine z_aload_n (pc := 0) C 0 dX2_init_0 rfl ?_
  refine z_obj (pc := 1) C q_237 q_87 q_88 dX2_init_1 (by decide) (by decide) (by decide) ?_
  refine z_aload_n (pc := 4) C 0 dX2_init_4 rfl ?_
  refine z_bipush (pc := 5) (v := 120) C dX2_init_5 (by decide) ?_
  refine z_newB (pc := 7) (N := 120) C q_231 dX2_init_7 (by decide) (by decide) (Nat.le_of_ble_eq_true rfl) ⟨Nat.le_trans (Nat.le_of_ble_eq_true rfl : 1 ≤ 1) N.2.1, Nat.le_trans (Nat.le_of_ble_eq_true rfl : 120 ≤ 120) N.2.2⟩ (fun xb => ?_)
  show Z X G 1 1 120 ([(xo, .inr (2, [.null, .int 0, .int 0, .int 0]))] ++ [(xb, .inl (cB G, 120, .inl (fun _ => 0)))]) 9 [(0, .ref xo)] [.ref xb, .ref xo]
  refine z_putF (pc := 9) ([(xo, .inr (2, [.ref xb, .int 0, .int 0, .int 0]))] ++ [(xb, .inl (cB G, 120, .inl (fun _ => 0)))]) C I 0 0 dX2_init_9 rfl rfl i_X2 tyX2_ok nmX2 (by decide) q_238 rfl rfl rfl rfl rfl (Nat.le_of_ble_eq_true rfl) rfl ?_
  exact z_vretn (pc := 12) C E dX2_init_12 ⟨rfl, xb, rfl⟩
