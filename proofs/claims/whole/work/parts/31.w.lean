/-- a body that makes cells: the room that it has -/
def zN (X : zX) (mc ms : Nat) : Prop := va_AO "PictureMoves$Scene" (xS X) ∧ mc ≤ (xR X).cells ∧ ms ≤ (xR X).slots
def zPn (X : zX) (G : zG) (mc ms : Nat) (Po : Option Value → va_W → Prop) : Prop := ∃ Qc : Array Value → State → Outcome → State → Prop, xQ X = MQ (xB X) Qc (xA X) (xS X) mc ms (xF X) ∧ ∀ (v : Option Value) (w : va_W) (H : Heap) (locs : List Loc), Po v w → va_P G.1 vwCl w H → va_D (xF X) w → va_S (xF X) (xS X).heap H locs → ∀ t : State, t.heap = H → (xS X).WarmedH t.vm → Qc (xA X) (xS X) (.returned v) t
def zQn (G : zG) (ws : va_W) (Po : Option Value → va_W → Prop) (sz : Nat) : Array Value → State → Outcome → State → Prop := fun _ st oc t => (∃ (v : Option Value) (w : va_W), oc = .returned v ∧ Po v w ∧ va_P G.1 vwCl w t.heap ∧ va_D (va_A ws sz) w) ∧ va_F (va_A ws sz) st t
def zP0 (G : zG) (av : List Value) (ws : va_W) (sz : Nat) : Array Value → State → Prop := va_Pc av (fun U => U.heap.size = sz ∧ va_P G.1 vwCl ws U.heap ∧ va_D (fun _ => True) ws ∧ zE G (va_A ws sz) U U.heap ∧ va_AO "PictureMoves$Scene" U)
/-- a constructor's contract: cells may come -/
def Cn (l : Launch) (G : zG) (y : MethodName) (cc : ByteArray) (nL fr lo mc ms : Nat) (av : List Value) (ws : va_W) (Po : Option Value → va_W → Prop) : Prop :=
  ∀ sz : Nat, Met l y (Cond.code y cc nL none :: gW) { frames := fr, cells := mc, slots := ms, locals := lo } (zP0 G av ws sz) (zQn G ws Po sz) mc ms (va_A ws sz)
theorem Cn.of {l : Launch} {G : zG} {y : MethodName} {cc : ByteArray} {nL fr lo mc ms : Nat} {av : List Value} {ws : va_W} {Po : Option Value → va_W → Prop} (hy : plainFor y = true) (hi : y.name = "<init>") (hn : (lg_sl av).length ≤ nL)
    (body : ∀ X : zX, zC X G nL cc y.cls none fr lo → zN X mc ms → (xT X).name = "<init>" → zPn X G mc ms Po → Z X G nL 0 0 ws 0 (lv_args 0 av) []) : Cn l G y cc nL fr lo mc ms av ws Po := by
  refine fun sz => metOfWF (cc := cc) (maxL := nL) (ret := none) hy rfl ?_
  intro p e s m args below meth c s₁ B hml hv
  obtain ⟨rfl, hsz, hP, hD0, hE, hO⟩ := hv
  subst hsz
  have hts := atoms_spec (ws := Cond.code y cc nL none :: gW) B.pre
  have hown : s.vm.findClass y.cls = some m.cls := findClass_of_methodNamed B.named
  have hin : meth.name = "<init>" := (name_of_methodNamed B.named B.method).1.trans hi
  have h := body (p, l, e, { frames := fr, cells := mc, slots := ms, locals := lo }, s, m, av.toArray, below, meth, c, MQ below (zQn G ws Po s.heap.size) av.toArray s mc ms (va_A ws s.heap.size), va_A ws s.heap.size)
    ⟨B.exec, B.bytes, hml, hown, fun w hw => hts w (List.mem_cons_of_mem _ hw), fun q hq => Or.inr hq, hE, B.returns, B.notSynchronized, Nat.le_refl _, Nat.le_refl _⟩
    ⟨hO, Nat.le_refl _, Nat.le_refl _⟩ hin
    ⟨zQn G ws Po s.heap.size, rfl, fun v w H locs hp hP1 hD1 hS t ht hW => ⟨⟨v, w, rfl, hp, by rw [ht]; exact hP1, hD1⟩, hS.F ht⟩⟩
  rw [lg_entry_eq]
  exact h s.heap [] _ hP hD0.self va_S.rf (lv_entry av hn)
section ZN
variable {X : zX} {G : zG} {nL k n fr lo : Nat} {cc : ByteArray} {own : String} {ret : Option FieldType} {ws : va_W} {pc : Nat} {lv : List (Nat × Value)} {rest : List Value} {Po : Option Value → va_W → Prop}
theorem z_vretn (C : zC X G nL cc own none fr lo) (E : zPn X G k n Po) (hd : decode cc pc = .ok (.return_, 1)) (h : Po none ws) : Z X G nL k n ws pc lv [] := fun H locs ls hP hD hS hl => by
  obtain ⟨Qc, hq, hf⟩ := E
  rw [hq]
  exact W.vret C.1 C.2.1 C.2.2.2.2.2.2.2.1 (fun t ht hW => hf _ _ H locs h hP hD hS t ht hW) hS.2.2 hd C.2.2.2.2.2.2.2.2.1
theorem z_obj {a idx : Nat} (C : zC X G nL cc own ret fr lo) (q : Cond.methodLink own idx Lib.objectInit ∈ gW) (qi : Cond.instanceMethod Lib.objectInit ∈ gW) (qc : Cond.code Lib.objectInit ⟨#[0xb1]⟩ 1 none ∈ gW) (hd : decode cc pc = .ok (.invokespecial idx, 3)) (hfr : 1 ≤ fr) (hlo : 20 ≤ lo) (hrs : (rest.map fun v => v.category).sum ≤ 8) (kk : Z X G nL k n ws (pc + 3) lv rest) : Z X G nL k n ws pc lv (.ref a :: rest) := fun H locs ls hP hD hS hl =>
  W.objInit C.1 C.2.1 C.2.2.2.1 (C.2.2.2.2.1 _ q) (C.2.2.2.2.1 _ qi) (C.2.2.2.2.1 _ qc) rfl (hl.1.trans C.2.2.1.symm) rfl hd (Nat.le_trans hfr C.2.2.2.2.2.2.2.2.2.1) (by
    have h1 : 2 * (F0 (xM X) pc ls (.ref a :: rest)).monitorRoom + (rest.map fun v => v.category).sum ≤ 8 := zroom hrs
    have h2 := Nat.le_trans hlo C.2.2.2.2.2.2.2.2.2.2
    omega) (kk H locs ls hP hD hS hl)
theorem z_new {Cn : String} {T : u_T} {N ci idx : Nat} {ty : Nat → FieldType} {fs : List Value} (C : zC X G nL cc own ret fr lo) (ql : Cond.classLink own idx Cn ∈ gW) (qi : Cond.instantiable Cn N ∈ gW) (qn : Cond.initialized Cn ∈ gW) (hd : decode cc pc = .ok (.new idx, 3)) (hc : vwCl[ci]? = some (Cn, T, N)) (hin : ∀ w ∈ u_ws Cn T N, w ∈ gW) (hty : ∀ k, k < N → parseFieldDescriptor (T k).2.2.1 = some (ty k)) (hfs : ∀ j, j < N → defaultValue (ty j) = vp_V fs j) (hr : k + 1 ≤ (xR X).cells ∧ n + N ≤ (xR X).slots)
    (kk : ∀ q : Nat, Z X G nL (k + 1) (n + N) (ws ++ [(q, .inr (ci, fs))]) (pc + 3) lv (.ref q :: rest)) : Z X G nL k n ws pc lv rest := fun H locs ls hP hD hS hl =>
  va_new C.1 C.2.1 C.2.2.2.2.1 hin ty hty C.2.2.2.1 (C.2.2.2.2.1 _ ql) (C.2.2.2.2.1 _ qi) (C.2.2.2.2.1 _ qn) C.2.2.2.2.2.2.1.1 hP hD hS C.2.2.2.2.2.1 hc hfs hr.1 hr.2 hd (fun q H1 p1 d1 s1 => kk q H1 locs ls p1 d1 s1 hl)
theorem z_newI {nn : Int32} {N : Nat} (C : zC X G nL cc own ret fr lo) (qa : Cond.arrayClass .int ∈ gW) (hd : decode cc pc = .ok (.newarray .int, 2)) (hn : ¬ nn < 0) (hN : nn.toNatClampNeg = N) (hb : N * 4 ≤ 536870912) (hr : k + 1 ≤ (xR X).cells ∧ n + N ≤ (xR X).slots)
    (kk : ∀ q : Nat, Z X G nL (k + 1) (n + N) (ws ++ [(q, .inl (cI G, N, .inl (fun _ => 0)))]) (pc + 2) lv (.ref q :: rest)) : Z X G nL k n ws pc lv (.int nn :: rest) := fun H locs ls hP hD hS hl =>
  va_newa (atype := .int) (ty := .int) (a0 := (N, .inl (fun _ => 0))) C.1 C.2.1 (C.2.2.2.2.1 _ qa) rfl C.2.2.2.2.2.2.1.1 hP hD hS C.2.2.2.2.2.1 (fun _ => rfl) hn hN hb hr.1 hr.2 hd (fun q cA H1 hK p1 d1 s1 => by
    have e1 : (xS X).vm.findClass ("[" ++ FieldType.int.toString) = some (cI G) := (C.2.2.2.2.2.2.1.1.2 0 (cI G, .int) rfl).2
    have e2 : (xS X).vm.findClass ("[" ++ FieldType.int.toString) = some cA := (hK.2 4 (cA, .int) rfl).2
    have e : cA = cI G := Option.some.inj (e2.symm.trans e1)
    subst e
    exact kk q H1 locs ls p1 d1 s1 hl)
theorem z_newB {nn : Int32} {N : Nat} (C : zC X G nL cc own ret fr lo) (qa : Cond.arrayClass .byte ∈ gW) (hd : decode cc pc = .ok (.newarray .byte, 2)) (hn : ¬ nn < 0) (hN : nn.toNatClampNeg = N) (hb : N * 1 ≤ 536870912) (hr : k + 1 ≤ (xR X).cells ∧ n + N ≤ (xR X).slots)
    (kk : ∀ q : Nat, Z X G nL (k + 1) (n + N) (ws ++ [(q, .inl (cB G, N, .inl (fun _ => 0)))]) (pc + 2) lv (.ref q :: rest)) : Z X G nL k n ws pc lv (.int nn :: rest) := fun H locs ls hP hD hS hl =>
  va_newa (atype := .byte) (ty := .byte) (a0 := (N, .inl (fun _ => 0))) C.1 C.2.1 (C.2.2.2.2.1 _ qa) rfl C.2.2.2.2.2.2.1.1 hP hD hS C.2.2.2.2.2.1 (fun _ => rfl) hn hN hb hr.1 hr.2 hd (fun q cA H1 hK p1 d1 s1 => by
    have e1 : (xS X).vm.findClass ("[" ++ FieldType.byte.toString) = some (cB G) := (C.2.2.2.2.2.2.1.1.2 1 (cB G, .byte) rfl).2
    have e2 : (xS X).vm.findClass ("[" ++ FieldType.byte.toString) = some cA := (hK.2 4 (cA, .byte) rfl).2
    have e : cA = cB G := Option.some.inj (e2.symm.trans e1)
    subst e
    exact kk q H1 locs ls p1 d1 s1 hl)
theorem z_newZ {nn : Int32} {N : Nat} (C : zC X G nL cc own ret fr lo) (qa : Cond.arrayClass .boolean ∈ gW) (hd : decode cc pc = .ok (.newarray .boolean, 2)) (hn : ¬ nn < 0) (hN : nn.toNatClampNeg = N) (hb : N * 1 ≤ 536870912) (hr : k + 1 ≤ (xR X).cells ∧ n + N ≤ (xR X).slots)
    (kk : ∀ q : Nat, Z X G nL (k + 1) (n + N) (ws ++ [(q, .inl (cZ G, N, .inl (fun _ => 0)))]) (pc + 2) lv (.ref q :: rest)) : Z X G nL k n ws pc lv (.int nn :: rest) := fun H locs ls hP hD hS hl =>
  va_newa (atype := .boolean) (ty := .boolean) (a0 := (N, .inl (fun _ => 0))) C.1 C.2.1 (C.2.2.2.2.1 _ qa) rfl C.2.2.2.2.2.2.1.1 hP hD hS C.2.2.2.2.2.1 (fun _ => rfl) hn hN hb hr.1 hr.2 hd (fun q cA H1 hK p1 d1 s1 => by
    have e1 : (xS X).vm.findClass ("[" ++ FieldType.boolean.toString) = some (cZ G) := (C.2.2.2.2.2.2.1.1.2 2 (cZ G, .boolean) rfl).2
    have e2 : (xS X).vm.findClass ("[" ++ FieldType.boolean.toString) = some cA := (hK.2 4 (cA, .boolean) rfl).2
    have e : cA = cZ G := Option.some.inj (e2.symm.trans e1)
    subst e
    exact kk q H1 locs ls p1 d1 s1 hl)
theorem z_newS {nn : Int32} {N idx : Nat} (C : zC X G nL cc own ret fr lo) (hO : va_AO "PictureMoves$Scene" (xS X)) (ql : Cond.classLink own idx "PictureMoves$Scene" ∈ gW) (hd : decode cc pc = .ok (.anewarray idx, 3)) (hn : ¬ nn < 0) (hN : nn.toNatClampNeg = N) (hb : N * 4 ≤ 536870912) (hr : k + 1 ≤ (xR X).cells ∧ n + N ≤ (xR X).slots)
    (kk : ∀ q : Nat, Z X G nL (k + 1) (n + N) (ws ++ [(q, .inl (cS G, N, .inr (.inr (.inr (.inr (fun _ => none))))))]) (pc + 3) lv (.ref q :: rest)) : Z X G nL k n ws pc lv (.int nn :: rest) := fun H locs ls hP hD hS hl =>
  va_newq C.1 C.2.1 C.2.2.2.1 (C.2.2.2.2.1 _ ql) hO C.2.2.2.2.2.2.1.1 hP hD hS C.2.2.2.2.2.1 hn hN hb hr.1 hr.2 hd (fun q cA H1 hK p1 d1 s1 => by
    obtain ⟨kA1, comp1, -, -, -, e1⟩ := (C.2.2.2.2.2.2.1.1.2 3 (cS G, .object "PictureMoves$Scene") rfl).2
    obtain ⟨kA2, comp2, -, -, -, e2⟩ := (hK.2 4 (cA, .object "PictureMoves$Scene") rfl).2
    have e : cA = cS G := Option.some.inj (e2.symm.trans e1)
    subst e
    exact kk q H1 locs ls p1 d1 s1 hl)
theorem z_putF {Cn : String} {T : u_T} {N ci idx a : Nat} {fs : List Value} {v : Value} {ty : FieldType} {ty0 : Nat → FieldType} (ws' : va_W) (C : zC X G nL cc own ret fr lo) (hI : (xT X).name = "<init>") (q0 f : Nat) (hd : decode cc pc = .ok (.putfield idx, 3)) (he : ws[q0]? = some (a, .inr (ci, fs))) (hc : vwCl[ci]? = some (Cn, T, N)) (hin : ∀ w ∈ u_ws Cn T N, w ∈ gW) (hty : ∀ k, k < N → parseFieldDescriptor (T k).2.2.1 = some (ty0 k)) (hnm : ∀ a, a < N → ∀ b, b < N → a ≠ b → (T a).2.1 ≠ (T b).2.1) (hf : f < N) (q : Cond.fieldLink own idx (T f).1 (T f).2.1 (T f).2.2.1 ∈ gW) (hfin : (T f).2.2.2 = true) (hdecl : (T f).1 = own) (hty1 : ty0 f = ty) (hn : narrow ty v = v) (hfit : fits ty v = true) (hl9 : f < fs.length) (hw : ws.set q0 (a, .inr (ci, fs.set f v)) = ws') (kk : Z X G nL k n ws' (pc + 3) lv rest) : Z X G nL k n ws pc lv (v :: .ref a :: rest) := fun H locs ls hP hD hS hl =>
  va_putF C.1 C.2.1 C.2.2.2.2.1 hin ty0 hty hnm C.2.2.2.1 C.2.2.2.2.2.2.1.1 hP hD hS q0 he hc f hf (C.2.2.2.2.1 _ q) (fun _ h => h) hfin hI hdecl (by rw [hty f hf, hty1]) hn hfit hl9 hd (fun H1 l1 p1 d1 s1 => kk H1 l1 ls (hw ▸ p1) (hw ▸ d1) s1 hl)
theorem z_astS {a v N : Nat} {vs : List Value} {f : Nat → Option Nat} {i : Int32} (ws' : va_W) (C : zC X G nL cc own ret fr lo) (q0 qk : Nat) (hd : decode cc pc = .ok (.aastore, 1)) (ha : ws[q0]? = some (a, .inl (cS G, N, .inr (.inr (.inr (.inr f)))))) (hv : ws[qk]? = some (v, .inr (6, vs))) (hin : vp_in i N) (hw : ws.set q0 (a, .inl (cS G, N, .inr (.inr (.inr (.inr (va_up f i.toNatClampNeg (some v))))))) = ws') (kk : Z X G nL k n ws' (pc + 1) lv rest) : Z X G nL k n ws pc lv (.ref v :: .int i :: .ref a :: rest) := fun H locs ls hP hD hS hl =>
  va_astq (r := (RX6, TX6, 4)) C.1 C.2.1 C.2.2.2.2.2.2.1.1 hP hD hS q0 3 qk 6 ha rfl hv rfl hin hd (fun H1 l1 p1 d1 s1 => kk H1 l1 ls (hw ▸ p1) (hw ▸ d1) s1 hl)
/-- a row's content beyond its end doesn't matter -/
theorem z_cell {a : Nat} {cA : ClassId} {x x' : vp_A} (ws' : va_W) {st : List Value} (q0 : Nat) (ha : ws[q0]? = some (a, .inl (cA, x))) (hx : vp_cell cA x = vp_cell cA x') (hw : ws.set q0 (a, .inl (cA, x')) = ws') (kk : Z X G nL k n ws' pc lv st) : Z X G nL k n ws pc lv st := fun H locs ls hP hD hS hl => by
  refine kk H locs ls ?_ ?_ hS hl
  · rw [← hw]
    intro i q hq
    rw [List.getElem?_set] at hq
    split at hq
    · rename_i e
      subst e
      split at hq
      · cases hq
        have h := hP q0 _ ha
        show H[a]? = some (vp_cell cA x')
        rw [← hx]
        exact h
      · cases hq
    · exact hP i q hq
  · rw [← hw]
    exact hD.set ha
end ZN
section ZNK
variable {X : zX} {G : zG} {nL k n fr lo : Nat} {cc : ByteArray} {own : String} {ret : Option FieldType} {ws : va_W} {pc : Nat} {lv : List (Nat × Value)} {rest st : List Value} {Po : Option Value → va_W → Prop}
variable {y : MethodName} {cy : ByteArray} {ny fy ly mc ms idx b m : Nat} {av As : List Value} {wc wr : va_W} {H : Heap} {locs : List Loc} {ls : Array Slot}
theorem z_afterN {a : Array Value} (hr : va_Run (xP X) (xL X) (xE X) (xR X) (xS X) (xM X) (xA X) (xB X) (xT X) (xC X) H locs k n mc ms (F0 (xM X) pc ls st) rest (zQn G wc Po H.size a) (va_A wc H.size)) (hA : ∀ q, (xS X).heap.size ≤ q → xF X q)
    (hP : va_P G.1 vwCl ws H) (hD : va_D (xF X) ws) (hS : va_S (xF X) (xS X).heap H locs) (hl : lv_has ls nL lv) (is ir : List Nat) (hC : is.map (fun i => ws[i]?) = wc.map some) (hR : ir.map (fun i => ws[i]?) = wr.map some) (hnr : va_nd ir = true) (hdis : ∀ i ∈ ir, i ∉ is) (kk : ∀ v w, Po v w → Z X G nL (k + mc) (n + ms) (wr ++ w) (pc + 3) lv (zpush v rest)) :
    W (xP X) (xL X) (xE X) (xR X) (xS X) (xM X) (xA X) (xB X) (xT X) (xC X) H locs k n (xQ X) (F0 (xM X) pc ls st) := by
  intro T hT Xs
  obtain ⟨v, st₀, t, T', L, h0, X', hL, e1, e2, ⟨⟨v', w, hv, hp, hb, hd1⟩, hz, hk⟩, stp⟩ := hr T hT Xs
  cases hv
  rw [h0] at hz hk
  have hF := va_free (wc := wc) hD hS hA is hC
  obtain ⟨hPn, hDn⟩ := va_join (H1 := T'.heap) hP hD is ir hC hR hnr hdis (fun q h1 h2 => by rw [e1]; exact hk q h1 h2) hF (by rw [e1]; exact hb) hd1
  obtain ⟨t2, a1, b1⟩ := kk v w hp T'.heap (locs ++ L) ls hPn hDn ⟨Nat.le_trans hS.1 (by rw [e1]; exact hz), fun q h1 h2 => by rw [e1, hk q (Nat.lt_of_lt_of_le h1 hS.1) (fun z => h2 (hF q z))]; exact hS.2.1 q h1 h2, fun q hq => by
      rcases List.mem_append.mp hq with h | h
      · exact hS.2.2 q h
      · exact hF _ (hL q h)⟩ hl T' rfl X'
  rw [zpush_eq] at a1
  exact ⟨t2, stp t2 a1, b1⟩
theorem z_blindN {sz : Nat} : FrameBlind (zP0 G av wc sz) := fun a U g mk q => ⟨q.1, q.2.1, q.2.2.1, q.2.2.2.1, zE.same (u := U) (U := U.calling g mk a) rfl q.2.2.2.2.1, va_AO.moved (u := U) (U := U.calling g mk a) (Vm.Alike.refl _) q.2.2.2.2.2⟩
theorem z_preN (C : zC X G nL cc own ret fr lo) (hO : va_AO "PictureMoves$Scene" (xS X)) (hP : va_P G.1 vwCl ws H) (hD : va_D (xF X) ws) (hS : va_S (xF X) (xS X).heap H locs) (is : List Nat) (hnd : va_nd is = true) (hC : is.map (fun i => ws[i]?) = wc.map some) (U : State) (hU : U.heap = H) (hW : (xS X).WarmedH U.vm) : zP0 G av wc H.size av.toArray U := by
  have h := z_pre (av := av) C hP hD hS is hnd hC U hU hW
  exact ⟨h.1, h.2.1, h.2.2.1, h.2.2.2.1, h.2.2.2.2, va_AO.moved hW.alike hO⟩
/-- a constructor of another class, by an ordinary link -/
theorem z_callI (C : zC X G nL cc own ret fr lo) (hO : va_AO "PictureMoves$Scene" (xS X)) (hM : Cn (xL X) G y cy ny fy ly mc ms (.ref b :: As) wc Po) (is ir : List Nat) (hf : k + mc ≤ (xR X).cells ∧ n + ms ≤ (xR X).slots) (hm : Cond.code y cy ny none ∈ gW ∧ Cond.instanceMethod y ∈ gW ∧ Cond.initialized y.cls ∈ gW ∧ zOk y m) (hi : y.name = "<init>") (ql : Cond.methodLink own idx y ∈ gW) (hd : decode cc pc = .ok (.invokespecial idx, 3)) (hst : st = As.reverse ++ .ref b :: rest) (hnd : va_nd is = true) (hC : is.map (fun i => ws[i]?) = wc.map some) (hR9 : ir.map (fun i => ws[i]?) = wr.map some) (hnr : va_nd ir = true) (hdis : ∀ i ∈ ir, i ∉ is) (hlen : As.length = m) (hrs : (rest.map fun v => v.category).sum ≤ 8) (hR : fy + 1 ≤ fr ∧ 8 + (ny + 11) + ly ≤ lo)
    (kk : ∀ v w, Po v w → Z X G nL (k + mc) (n + ms) (wr ++ w) (pc + 3) lv (zpush v rest)) : Z X G nL k n ws pc lv st := fun H locs ls hP hD hS hl =>
  z_afterN (va_runI (As := As) (rest := rest) ⟨C.1, C.2.1, C.2.2.1, C.2.2.2.1, C.2.2.2.2.1⟩ (hM H.size) ⟨callB_of m C.2.2.2.2.1 (gW_in hm.1) rfl rfl rfl (C.2.2.2.2.1 _ hm.2.2.1) (C.2.2.2.2.1 _ ql) hm.2.2.2 ⟨Nat.le_trans hR.1 C.2.2.2.2.2.2.2.2.2.1, Nat.le_trans hR.2 C.2.2.2.2.2.2.2.2.2.2⟩, hi, C.2.2.2.2.1 _ hm.2.1⟩ ⟨z_blindN, fun U hU hW => z_preN C hO hP hD hS is hnd hC U hU hW⟩ rfl hlen hl.1 hst (zroom hrs) hd hf) C.2.2.2.2.2.1 hP hD hS hl is ir hC hR9 hnr hdis kk
/-- a constructor of a nest mate -/
theorem z_callIN {host : String} (C : zC X G nL cc own ret fr lo) (hO : va_AO "PictureMoves$Scene" (xS X)) (hM : Cn (xL X) G y cy ny fy ly mc ms (.ref b :: As) wc Po) (is ir : List Nat) (hf : k + mc ≤ (xR X).cells ∧ n + ms ≤ (xR X).slots) (hm : Cond.code y cy ny none ∈ gW ∧ Cond.instanceMethod y ∈ gW ∧ Cond.initialized y.cls ∈ gW ∧ zOk y m) (hi : y.name = "<init>") (ql : Cond.methodLinkNest own idx y host ∈ nW) (hd : decode cc pc = .ok (.invokespecial idx, 3)) (hst : st = As.reverse ++ .ref b :: rest) (hnd : va_nd is = true) (hC : is.map (fun i => ws[i]?) = wc.map some) (hR9 : ir.map (fun i => ws[i]?) = wr.map some) (hnr : va_nd ir = true) (hdis : ∀ i ∈ ir, i ∉ is) (hlen : As.length = m) (hrs : (rest.map fun v => v.category).sum ≤ 8) (hR : fy + 1 ≤ fr ∧ 8 + (ny + 11) + ly ≤ lo)
    (kk : ∀ v w, Po v w → Z X G nL (k + mc) (n + ms) (wr ++ w) (pc + 3) lv (zpush v rest)) : Z X G nL k n ws pc lv st := fun H locs ls hP hD hS hl =>
  z_afterN (va_runIN (As := As) (rest := rest) ⟨C.1, C.2.1, C.2.2.1, C.2.2.2.1, C.2.2.2.2.1⟩ (hM H.size) ⟨va_cnB m C.2.2.2.2.1 (gW_in hm.1) rfl rfl rfl (C.2.2.2.2.2.2.1.2.1 _ ql) (C.2.2.2.2.1 _ hm.2.2.1) hm.2.2.2 ⟨Nat.le_trans hR.1 C.2.2.2.2.2.2.2.2.2.1, Nat.le_trans hR.2 C.2.2.2.2.2.2.2.2.2.2⟩, hi, C.2.2.2.2.1 _ hm.2.1⟩ ⟨z_blindN, fun U hU hW => z_preN C hO hP hD hS is hnd hC U hU hW⟩ rfl hlen hl.1 hst (zroom hrs) hd hf) C.2.2.2.2.2.1 hP hD hS hl is ir hC hR9 hnr hdis kk
end ZNK
/-- a row of eight ints alone -/
def wA8 (G : zG) (ax : Nat) (arr : Nat → Int32) : va_W := [(ax, .inl (cI G, 8, .inl arr))]
theorem ad_A8 {G : zG} {ax : Nat} {arr arr' : Nat → Int32} : (wA8 G ax arr).map (fun q => some q.1) = (wA8 G ax arr').map (fun q => some q.1) := rfl

def b_J7_fill_53178_5 (val : Int32) (i_5 : Nat) (z_5 : (Nat → Int32)) : (Nat → Int32) := upd z_5 (nI i_5).toNatClampNeg val
def s_J7_fill_53178_5 (arr : Nat → Int32) (val : Int32) : Nat → (Nat → Int32)
  | 0 => arr
  | i_5 + 1 => b_J7_fill_53178_5 val i_5 (s_J7_fill_53178_5 arr val i_5)
def g_J7_fill_53178_arr (arr : Nat → Int32) (val : Int32) : Nat → Int32 := (s_J7_fill_53178_5 arr val 8)
set_option maxRecDepth 100000 in
theorem c_J7_fill_53178 {l : Launch} {G : zG} {ax : Nat} {arr : Nat → Int32} {val : Int32} : Ct l G yJ7_fill_53178 cJ7_fill_53178 4 (Option.none : Option Jvm.ClassFile.FieldType) 0 0 [.ref ax, .int val] (wA8 G ax arr) (pV (wA8 G ax (g_J7_fill_53178_arr arr val))) := by
  refine Ct.of (plainFor_of_name (by decide)) (Nat.le_of_ble_eq_true rfl) (pV.ad ad_A8) (fun X C E => ?_)
  show Z X G 4 0 0 _ 0 [(0, .ref ax), (1, .int val)] []
  refine z_iconst (pc := 0) (v := 0) C dJ7_fill_53178_0 (by decide) ?_
  refine z_istore_n (pc := 1) [(2, _), (0, _), (1, _)] C dJ7_fill_53178_1 rfl (by decide) rfl ?_
  refine z_aload_n (pc := 2) C 1 dJ7_fill_53178_2 rfl ?_
  refine z_alen_cI (pc := 3) (v := 8) C 0 dJ7_fill_53178_3 rfl rfl ?_
  refine z_istore_n (pc := 4) [(3, _), (2, _), (0, _), (1, _)] C dJ7_fill_53178_4 rfl (by decide) rfl ?_
  refine z_lv (lv' := [(0, _), (1, _), (2, _), (3, _)]) [2, 3, 1, 0] rfl ?_
  refine z_loop (pc := 5) (e := 8) (fun i_5 => wA8 G ax (s_J7_fill_53178_5 arr val i_5)) (fun i_5 => [(0, .ref ax), (1, .int val), (2, .int (nI i_5)), (3, .int 8)]) [] (fun i_5 hi_5 ih_5 => ?_) ?_ 0 (Nat.zero_le _)
  · show Z X G 4 0 0 (wA8 G ax (s_J7_fill_53178_5 arr val i_5)) 5 [(0, .ref ax), (1, .int val), (2, .int (nI i_5)), (3, .int 8)] []
    generalize hz_5 : s_J7_fill_53178_5 arr val i_5 = z_5
    refine z_iload_n (pc := 5) C 2 dJ7_fill_53178_5 rfl ?_
    refine z_iload_n (pc := 6) C 3 dJ7_fill_53178_6 rfl ?_
    refine z_icmp_ge (pc := 7) 20 C dJ7_fill_53178_7 (by decide) (fun c_7 => ?_) (fun c_7 => ?_)
    · skip
      exact absurd c_7 (nI_ge (b := 8) (by omega) (by decide))
    · skip
      refine z_aload_n (pc := 10) C 0 dJ7_fill_53178_10 rfl ?_
      refine z_iload_n (pc := 11) C 2 dJ7_fill_53178_11 rfl ?_
      refine z_iload_n (pc := 12) C 1 dJ7_fill_53178_12 rfl ?_
      refine z_iast (pc := 13) (wA8 G ax _) C 0 dJ7_fill_53178_13 rfl (ix_nI hi_5 (by decide)) rfl ?_
      refine z_iinc (pc := 14) (v := nI (i_5 + 1)) [(2, _), (0, _), (1, _), (3, _)] C 2 dJ7_fill_53178_14 rfl ((nI_succ _).symm) (by decide) rfl ?_
      refine z_goto (pc := 17) 5 C dJ7_fill_53178_17 (by decide) ?_
      refine z_lv (lv' := [(0, _), (1, _), (2, _), (3, _)]) [1, 2, 0, 3] rfl ?_
      exact z_eq (by simp only [s_J7_fill_53178_5, hz_5, b_J7_fill_53178_5]) rfl rfl ih_5
  · show Z X G 4 0 0 (wA8 G ax (s_J7_fill_53178_5 arr val 8)) 5 [(0, .ref ax), (1, .int val), (2, .int (nI 8)), (3, .int 8)] []
    refine z_iload_n (pc := 5) C 2 dJ7_fill_53178_5 rfl ?_
    refine z_iload_n (pc := 6) C 3 dJ7_fill_53178_6 rfl ?_
    refine z_icmp_ge (pc := 7) 20 C dJ7_fill_53178_7 (by decide) (fun c_7 => ?_) (fun c_7 => ?_)
    · skip
      exact z_vret (pc := 20) C E dJ7_fill_53178_20 (pV.mk rfl)
    · skip
      exact absurd (nI_le (Nat.le_refl 8) (by decide)) c_7
