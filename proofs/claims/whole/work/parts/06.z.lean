
abbrev zG : Type := va_G × (ClassId × ClassId × ClassId × ClassId) × (Nat → Nat) × (Nat → Nat)
abbrev cI (G : zG) : ClassId := G.2.1.1
abbrev cB (G : zG) : ClassId := G.2.1.2.1
abbrev cZ (G : zG) : ClassId := G.2.1.2.2.1
abbrev cS (G : zG) : ClassId := G.2.1.2.2.2
abbrev aK (G : zG) : Nat → Nat := G.2.2.1
abbrev aV (G : zG) : Nat → Nat := G.2.2.2
abbrev zT (G : zG) : List (ClassId × FieldType) := [(cI G, .int), (cB G, .byte), (cZ G, .boolean), (cS G, .object "PictureMoves$Scene")]
/-- the text constants of Order: pool places, texts, their bytes -/
def sIx : Nat → Nat := fun i => [15, 58, 60, 62, 64, 66, 68].getD i 0
def sTx : Nat → String := fun i => ["", "pxxwwpxxj", "pxxxxj", "pxx", "pxxwwj", "pnxxj", "xxww"].getD i ""
def sLn : List Nat := [0, 9, 6, 3, 6, 5, 4]
def sBy : List (List Int32) := [[], [112, 120, 120, 119, 119, 112, 120, 120, 106], [112, 120, 120, 120, 120, 106], [112, 120, 120], [112, 120, 120, 119, 119, 106], [112, 110, 120, 120, 106], [120, 120, 119, 119]]
/-- what the tables say that no list of words can carry, and what nobody writes -/
def zE (G : zG) (A : Nat → Prop) (U : State) (H : Heap) : Prop :=
  va_K G.1 vwCl (zT G) U ∧ (∀ w ∈ nW, va_Nw w U) ∧ vk_S 7 sLn sBy (aK G) (aV G) A U H ∧ (∀ i, i < 7 → vk_R RX1 (sIx i) (sTx i) (aK G i) U) ∧ va_Z "java/lang/String" "COMPACT_STRINGS" "Z" (.int 1) A U H ∧ va_Zq "jdk/internal/util/Preconditions" "SIOOBE_FORMATTER" "Ljava/util/function/BiFunction;" A U H
theorem zE.same {G : zG} {A : Nat → Prop} {u U : State} {H : Heap} (hv : u.vm = U.vm) (h : zE G A u H) : zE G A U H := by
  obtain ⟨h1, h2, h3, h4, h5, h6⟩ := h
  have ha : u.vm.Alike U.vm := by rw [hv]; exact Vm.Alike.refl _
  exact ⟨va_K.moved ha h1, fun w hw => va_Nw.same (nW_on hw) hv (h2 w hw), vk_S.moved ha h3, fun i hi => vk_R.same hv.symm (h4 i hi), va_Z.moved ha h5, va_Zq.moved ha h6⟩
theorem zE.to {G : zG} {A B : Nat → Prop} {s U : State} {H : Heap} {locs : List Loc} (h : zE G A s s.heap) (hW : s.WarmedH U.vm) (hS : va_S A s.heap H locs) (hAB : ∀ q, B q → A q) : zE G B U H := by
  obtain ⟨h1, h2, h3, h4, h5, h6⟩ := h
  have ha := hW.alike
  exact ⟨va_K.moved ha h1, fun w hw => nW_warm hW hw (h2 w hw), ((vk_S.moved ha h3).kept hS.2.1).narrow hAB, fun i hi => vk_R.warm hW (h4 i hi), ((va_Z.moved ha h5).kept hS.2.1).narrow hAB, ((va_Zq.moved ha h6).kept hS.2.1).narrow hAB⟩
/-- a body under way: machine, launch, room, start, method, what is to be reached, what may change -/
abbrev zX : Type := Program × Launch × Env × Room × State × MethodId × Array Value × List Frame × Method × Code × (State → Prop) × (Nat → Prop)
abbrev xP (X : zX) : Program := X.1
abbrev xL (X : zX) : Launch := X.2.1
abbrev xE (X : zX) : Env := X.2.2.1
abbrev xR (X : zX) : Room := X.2.2.2.1
abbrev xS (X : zX) : State := X.2.2.2.2.1
abbrev xM (X : zX) : MethodId := X.2.2.2.2.2.1
abbrev xA (X : zX) : Array Value := X.2.2.2.2.2.2.1
abbrev xB (X : zX) : List Frame := X.2.2.2.2.2.2.2.1
abbrev xT (X : zX) : Method := X.2.2.2.2.2.2.2.2.1
abbrev xC (X : zX) : Code := X.2.2.2.2.2.2.2.2.2.1
abbrev xQ (X : zX) : State → Prop := X.2.2.2.2.2.2.2.2.2.2.1
abbrev xF (X : zX) : Nat → Prop := X.2.2.2.2.2.2.2.2.2.2.2
/-- the machine at pc, with these locals, this stack, this world, comes to what is to be reached -/
def Z (X : zX) (G : zG) (nL k n : Nat) (ws : va_W) (pc : Nat) (lv : List (Nat × Value)) (st : List Value) : Prop :=
  ∀ (H : Heap) (locs : List Loc) (ls : Array Slot), va_P G.1 vwCl ws H → va_D (xF X) ws → va_S (xF X) (xS X).heap H locs → lv_has ls nL lv → W (xP X) (xL X) (xE X) (xR X) (xS X) (xM X) (xA X) (xB X) (xT X) (xC X) H locs k n (xQ X) (F0 (xM X) pc ls st)
def zC (X : zX) (G : zG) (nL : Nat) (cc : ByteArray) (own : String) (ret : Option FieldType) (fr lo : Nat) : Prop :=
  (xP X).tables.exec = Jvm.exec ∧ (xC X).code = cc ∧ (xC X).maxLocals = nL ∧ (xS X).vm.findClass own = some (xM X).cls ∧ (∀ w ∈ gW, w.before (xA X) (xS X) = true) ∧ (∀ q, (xS X).heap.size ≤ q → xF X q) ∧ zE G (xF X) (xS X) (xS X).heap ∧ (xT X).sig.returnType = ret ∧ (xT X).locks = false ∧ fr ≤ (xR X).frames ∧ lo ≤ (xR X).locals
def zP (X : zX) (G : zG) (k n : Nat) (Po : Option Value → va_W → Prop) : Prop := ∃ Qc : Array Value → State → Outcome → State → Prop, xQ X = MQ (xB X) Qc (xA X) (xS X) k n (xF X) ∧ ∀ (v : Option Value) (w : va_W) (H : Heap) (locs : List Loc), Po v w → va_P G.1 vwCl w H → va_S (xF X) (xS X).heap H locs → ∀ t : State, t.heap = H → (xS X).WarmedH t.vm → Qc (xA X) (xS X) (.returned v) t
section ZR
variable {X : zX} {G : zG} {nL k n fr lo : Nat} {cc : ByteArray} {own : String} {ret : Option FieldType} {ws : va_W} {pc : Nat} {lv : List (Nat × Value)} {rest : List Value} {Po : Option Value → va_W → Prop}
theorem z_lv {lv' : List (Nat × Value)} {st : List Value} (ks : List Nat) (hl : lv_pick lv ks = lv') (kk : Z X G nL k n ws pc lv' st) : Z X G nL k n ws pc lv st := fun H locs ls hP hD hS h => kk H locs ls hP hD hS (lv_sub h ks hl)
theorem z_topi {x : Int32} (kk : ∀ y : Int32, y = x → Z X G nL k n ws pc lv (.int y :: rest)) : Z X G nL k n ws pc lv (.int x :: rest) := kk x rfl
theorem z_topl {x : Int64} (kk : ∀ y : Int64, y = x → Z X G nL k n ws pc lv (.long y :: rest)) : Z X G nL k n ws pc lv (.long x :: rest) := kk x rfl
/-- the same state, said otherwise -/
theorem z_eq {ws' : va_W} {lv' : List (Nat × Value)} {st st' : List Value} (hw : ws = ws') (hl : lv = lv') (hs : st = st') (kk : Z X G nL k n ws' pc lv' st') : Z X G nL k n ws pc lv st := by subst hw hl hs; exact kk

theorem z_iconst {i : Int} {v : Int32} (C : zC X G nL cc own ret fr lo)  (hd : decode cc pc = .ok (.iconst i, 1)) (hv : Int32.ofInt i = v) (kk : Z X G nL k n ws (pc + 1) lv (.int v :: rest)) : Z X G nL k n ws pc lv rest := fun H locs ls hP hD hS hl => lv_iconst C.1 C.2.1 hd hv (kk H locs ls hP hD hS hl)
theorem z_bipush {i : Int} {v : Int32} (C : zC X G nL cc own ret fr lo)  (hd : decode cc pc = .ok (.bipush i, 2)) (hv : (Int8.ofInt i).toInt32 = v) (kk : Z X G nL k n ws (pc + 2) lv (.int v :: rest)) : Z X G nL k n ws pc lv rest := fun H locs ls hP hD hS hl => lv_bipush C.1 C.2.1 hd hv (kk H locs ls hP hD hS hl)
theorem z_sipush {i : Int} {v : Int32} (C : zC X G nL cc own ret fr lo)  (hd : decode cc pc = .ok (.sipush i, 3)) (hv : (Int16.ofInt i).toInt32 = v) (kk : Z X G nL k n ws (pc + 3) lv (.int v :: rest)) : Z X G nL k n ws pc lv rest := fun H locs ls hP hD hS hl => lv_sipush C.1 C.2.1 hd hv (kk H locs ls hP hD hS hl)
theorem z_lconst {i : Fin 2} {v : Int64} (C : zC X G nL cc own ret fr lo)  (hd : decode cc pc = .ok (.lconst i, 1)) (hv : Int64.ofNat (i : Nat) = v) (kk : Z X G nL k n ws (pc + 1) lv (.long v :: rest)) : Z X G nL k n ws pc lv rest := fun H locs ls hP hD hS hl => lv_lconst C.1 C.2.1 hd hv (kk H locs ls hP hD hS hl)
theorem z_ldc {i : Nat} {v : Int32} (C : zC X G nL cc own ret fr lo) (q : Cond.constant own i v ∈ gW) (hd : decode cc pc = .ok (.ldc i, 2))  (kk : Z X G nL k n ws (pc + 2) lv (.int v :: rest)) : Z X G nL k n ws pc lv rest := fun H locs ls hP hD hS hl => lv_ldc C.1 C.2.1 C.2.2.2.1 (C.2.2.2.2.1 _ q) hd (kk H locs ls hP hD hS hl)
theorem z_ldc_w {i : Nat} {v : Int32} (C : zC X G nL cc own ret fr lo) (q : Cond.constant own i v ∈ gW) (hd : decode cc pc = .ok (.ldc_w i, 3))  (kk : Z X G nL k n ws (pc + 3) lv (.int v :: rest)) : Z X G nL k n ws pc lv rest := fun H locs ls hP hD hS hl => lv_ldcw C.1 C.2.1 C.2.2.2.1 (C.2.2.2.2.1 _ q) hd (kk H locs ls hP hD hS hl)
theorem z_ldc2_w {i : Nat} {v : Int64} (C : zC X G nL cc own ret fr lo) (q : Cond.constantLong own i v ∈ gW) (hd : decode cc pc = .ok (.ldc2_w i, 3))  (kk : Z X G nL k n ws (pc + 3) lv (.long v :: rest)) : Z X G nL k n ws pc lv rest := fun H locs ls hP hD hS hl => lv_ldc2 C.1 C.2.1 C.2.2.2.1 (C.2.2.2.2.1 _ q) hd (kk H locs ls hP hD hS hl)
theorem z_iload_n {f : Fin 4} {x : Int32} (C : zC X G nL cc own ret fr lo) (j : Nat) (hd : decode cc pc = .ok (.iload_n f, 1)) (hj : lv[j]? = some ((f : Nat), .int x)) (kk : Z X G nL k n ws (pc + 1) lv (.int x :: rest)) : Z X G nL k n ws pc lv rest := fun H locs ls hP hD hS hl => lv_iload_n C.1 C.2.1 hd rfl (lv_at hl j hj) (kk H locs ls hP hD hS hl)
theorem z_iload {f : Nat} {x : Int32} (C : zC X G nL cc own ret fr lo) (j : Nat) (hd : decode cc pc = .ok (.iload f, 2)) (hj : lv[j]? = some (f, .int x)) (kk : Z X G nL k n ws (pc + 2) lv (.int x :: rest)) : Z X G nL k n ws pc lv rest := fun H locs ls hP hD hS hl => lv_iload C.1 C.2.1 hd (lv_at hl j hj) (kk H locs ls hP hD hS hl)
theorem z_lload_n {f : Fin 4} {x : Int64} (C : zC X G nL cc own ret fr lo) (j : Nat) (hd : decode cc pc = .ok (.lload_n f, 1)) (hj : lv[j]? = some ((f : Nat), .long x)) (kk : Z X G nL k n ws (pc + 1) lv (.long x :: rest)) : Z X G nL k n ws pc lv rest := fun H locs ls hP hD hS hl => lv_lload_n C.1 C.2.1 hd rfl (lv_at hl j hj) (kk H locs ls hP hD hS hl)
theorem z_lload {f : Nat} {x : Int64} (C : zC X G nL cc own ret fr lo) (j : Nat) (hd : decode cc pc = .ok (.lload f, 2)) (hj : lv[j]? = some (f, .long x)) (kk : Z X G nL k n ws (pc + 2) lv (.long x :: rest)) : Z X G nL k n ws pc lv rest := fun H locs ls hP hD hS hl => lv_lload C.1 C.2.1 hd (lv_at hl j hj) (kk H locs ls hP hD hS hl)
theorem z_aload_n {f : Fin 4} {x : Nat} (C : zC X G nL cc own ret fr lo) (j : Nat) (hd : decode cc pc = .ok (.aload_n f, 1)) (hj : lv[j]? = some ((f : Nat), .ref x)) (kk : Z X G nL k n ws (pc + 1) lv (.ref x :: rest)) : Z X G nL k n ws pc lv rest := fun H locs ls hP hD hS hl => lv_aload_n C.1 C.2.1 hd rfl (lv_at hl j hj) (kk H locs ls hP hD hS hl)
theorem z_aload {f : Nat} {x : Nat} (C : zC X G nL cc own ret fr lo) (j : Nat) (hd : decode cc pc = .ok (.aload f, 2)) (hj : lv[j]? = some (f, .ref x)) (kk : Z X G nL k n ws (pc + 2) lv (.ref x :: rest)) : Z X G nL k n ws pc lv rest := fun H locs ls hP hD hS hl => lv_aload C.1 C.2.1 hd (lv_at hl j hj) (kk H locs ls hP hD hS hl)
theorem z_istore_n {f : Fin 4} {i : Nat} {x : Int32} (lv' : List (Nat × Value)) (C : zC X G nL cc own ret fr lo) (hd : decode cc pc = .ok (.istore_n f, 1)) (hi : (f : Nat) = i) (hn : i < nL) (hl : (i, Value.int x) :: lv.filter (fun q => !(q.1 == i) && !(q.1 + 1 == i && q.2.category == 2)) = lv') (kk : Z X G nL k n ws (pc + 1) lv' rest) : Z X G nL k n ws pc lv (.int x :: rest) := fun H locs ls hP hD hS h => lv_istore_n C.1 C.2.1 hd hi h hn hl (fun ls h => kk H locs ls hP hD hS h)
theorem z_istore {i : Nat} {x : Int32} (lv' : List (Nat × Value)) (C : zC X G nL cc own ret fr lo) (hd : decode cc pc = .ok (.istore i, 2)) (hn : i < nL) (hl : (i, Value.int x) :: lv.filter (fun q => !(q.1 == i) && !(q.1 + 1 == i && q.2.category == 2)) = lv') (kk : Z X G nL k n ws (pc + 2) lv' rest) : Z X G nL k n ws pc lv (.int x :: rest) := fun H locs ls hP hD hS h => lv_istore C.1 C.2.1 hd h hn hl (fun ls h => kk H locs ls hP hD hS h)
theorem z_lstore_n {f : Fin 4} {i : Nat} {x : Int64} (lv' : List (Nat × Value)) (C : zC X G nL cc own ret fr lo) (hd : decode cc pc = .ok (.lstore_n f, 1)) (hi : (f : Nat) = i) (hn : i + 1 < nL) (hl : (i, Value.long x) :: lv.filter (fun q => !(q.1 == i) && (!(q.1 == i + 1) && !(q.1 + 1 == i && q.2.category == 2))) = lv') (kk : Z X G nL k n ws (pc + 1) lv' rest) : Z X G nL k n ws pc lv (.long x :: rest) := fun H locs ls hP hD hS h => lv_lstore_n C.1 C.2.1 hd hi h hn hl (fun ls h => kk H locs ls hP hD hS h)
theorem z_lstore {i : Nat} {x : Int64} (lv' : List (Nat × Value)) (C : zC X G nL cc own ret fr lo) (hd : decode cc pc = .ok (.lstore i, 2)) (hn : i + 1 < nL) (hl : (i, Value.long x) :: lv.filter (fun q => !(q.1 == i) && (!(q.1 == i + 1) && !(q.1 + 1 == i && q.2.category == 2))) = lv') (kk : Z X G nL k n ws (pc + 2) lv' rest) : Z X G nL k n ws pc lv (.long x :: rest) := fun H locs ls hP hD hS h => lv_lstore C.1 C.2.1 hd h hn hl (fun ls h => kk H locs ls hP hD hS h)
theorem z_astore_n {f : Fin 4} {i : Nat} {x : Nat} (lv' : List (Nat × Value)) (C : zC X G nL cc own ret fr lo) (hd : decode cc pc = .ok (.astore_n f, 1)) (hi : (f : Nat) = i) (hn : i < nL) (hl : (i, Value.ref x) :: lv.filter (fun q => !(q.1 == i) && !(q.1 + 1 == i && q.2.category == 2)) = lv') (kk : Z X G nL k n ws (pc + 1) lv' rest) : Z X G nL k n ws pc lv (.ref x :: rest) := fun H locs ls hP hD hS h => lv_astore_n C.1 C.2.1 hd hi h hn hl (fun ls h => kk H locs ls hP hD hS h)
theorem z_astore {i : Nat} {x : Nat} (lv' : List (Nat × Value)) (C : zC X G nL cc own ret fr lo) (hd : decode cc pc = .ok (.astore i, 2)) (hn : i < nL) (hl : (i, Value.ref x) :: lv.filter (fun q => !(q.1 == i) && !(q.1 + 1 == i && q.2.category == 2)) = lv') (kk : Z X G nL k n ws (pc + 2) lv' rest) : Z X G nL k n ws pc lv (.ref x :: rest) := fun H locs ls hP hD hS h => lv_astore C.1 C.2.1 hd h hn hl (fun ls h => kk H locs ls hP hD hS h)
theorem z_iinc {i : Nat} {a : Int} {x v : Int32} (lv' : List (Nat × Value)) (C : zC X G nL cc own ret fr lo) (j : Nat) (hd : decode cc pc = .ok (.iinc i a, 3)) (hj : lv[j]? = some (i, .int x)) (hv : x + Int32.ofInt a = v) (hn : i < nL) (hl : (i, Value.int v) :: lv.filter (fun q => !(q.1 == i) && !(q.1 + 1 == i && q.2.category == 2)) = lv') (kk : Z X G nL k n ws (pc + 3) lv' rest) : Z X G nL k n ws pc lv rest := fun H locs ls hP hD hS h => lv_iinc C.1 C.2.1 hd h hj hv hn hl (fun ls h => kk H locs ls hP hD hS h)
theorem z_iadd {x y : Int32} (C : zC X G nL cc own ret fr lo)  (hd : decode cc pc = .ok (.iadd, 1))  (kk : Z X G nL k n ws (pc + 1) lv (.int (x + y) :: rest)) : Z X G nL k n ws pc lv (.int y :: .int x :: rest) := fun H locs ls hP hD hS hl => lv_iadd C.1 C.2.1 hd (kk H locs ls hP hD hS hl)
theorem z_isub {x y : Int32} (C : zC X G nL cc own ret fr lo)  (hd : decode cc pc = .ok (.isub, 1))  (kk : Z X G nL k n ws (pc + 1) lv (.int (x - y) :: rest)) : Z X G nL k n ws pc lv (.int y :: .int x :: rest) := fun H locs ls hP hD hS hl => lv_isub C.1 C.2.1 hd (kk H locs ls hP hD hS hl)
theorem z_imul {x y : Int32} (C : zC X G nL cc own ret fr lo)  (hd : decode cc pc = .ok (.imul, 1))  (kk : Z X G nL k n ws (pc + 1) lv (.int (x * y) :: rest)) : Z X G nL k n ws pc lv (.int y :: .int x :: rest) := fun H locs ls hP hD hS hl => lv_imul C.1 C.2.1 hd (kk H locs ls hP hD hS hl)
theorem z_iand {x y : Int32} (C : zC X G nL cc own ret fr lo)  (hd : decode cc pc = .ok (.iand, 1))  (kk : Z X G nL k n ws (pc + 1) lv (.int (x &&& y) :: rest)) : Z X G nL k n ws pc lv (.int y :: .int x :: rest) := fun H locs ls hP hD hS hl => lv_iand C.1 C.2.1 hd (kk H locs ls hP hD hS hl)
theorem z_ior {x y : Int32} (C : zC X G nL cc own ret fr lo)  (hd : decode cc pc = .ok (.ior, 1))  (kk : Z X G nL k n ws (pc + 1) lv (.int (x ||| y) :: rest)) : Z X G nL k n ws pc lv (.int y :: .int x :: rest) := fun H locs ls hP hD hS hl => lv_ior C.1 C.2.1 hd (kk H locs ls hP hD hS hl)
theorem z_ixor {x y : Int32} (C : zC X G nL cc own ret fr lo)  (hd : decode cc pc = .ok (.ixor, 1))  (kk : Z X G nL k n ws (pc + 1) lv (.int (x ^^^ y) :: rest)) : Z X G nL k n ws pc lv (.int y :: .int x :: rest) := fun H locs ls hP hD hS hl => lv_ixor C.1 C.2.1 hd (kk H locs ls hP hD hS hl)
theorem z_ishl {x y : Int32} (C : zC X G nL cc own ret fr lo)  (hd : decode cc pc = .ok (.ishl, 1))  (kk : Z X G nL k n ws (pc + 1) lv (.int (x <<< (y &&& 31)) :: rest)) : Z X G nL k n ws pc lv (.int y :: .int x :: rest) := fun H locs ls hP hD hS hl => lv_ishl C.1 C.2.1 hd (kk H locs ls hP hD hS hl)
theorem z_ishr {x y : Int32} (C : zC X G nL cc own ret fr lo)  (hd : decode cc pc = .ok (.ishr, 1))  (kk : Z X G nL k n ws (pc + 1) lv (.int (x >>> (y &&& 31)) :: rest)) : Z X G nL k n ws pc lv (.int y :: .int x :: rest) := fun H locs ls hP hD hS hl => lv_ishr C.1 C.2.1 hd (kk H locs ls hP hD hS hl)
def uShr (x y : Int32) : Int32 := (x.toUInt32 >>> (y.toUInt32 &&& Int32.toUInt32 31)).toInt32
theorem z_iushr {x y : Int32} (C : zC X G nL cc own ret fr lo)  (hd : decode cc pc = .ok (.iushr, 1))  (kk : Z X G nL k n ws (pc + 1) lv (.int (uShr x y) :: rest)) : Z X G nL k n ws pc lv (.int y :: .int x :: rest) := fun H locs ls hP hD hS hl => lv_iushr C.1 C.2.1 hd rfl (kk H locs ls hP hD hS hl)
theorem z_idiv {x y : Int32} (C : zC X G nL cc own ret fr lo)  (hd : decode cc pc = .ok (.idiv, 1)) (hne : ¬ y = 0) (kk : Z X G nL k n ws (pc + 1) lv (.int (x / y) :: rest)) : Z X G nL k n ws pc lv (.int y :: .int x :: rest) := fun H locs ls hP hD hS hl => lv_idiv C.1 C.2.1 hd hne (kk H locs ls hP hD hS hl)
theorem z_irem {x y : Int32} (C : zC X G nL cc own ret fr lo)  (hd : decode cc pc = .ok (.irem, 1)) (hne : ¬ y = 0) (kk : Z X G nL k n ws (pc + 1) lv (.int (x - x / y * y) :: rest)) : Z X G nL k n ws pc lv (.int y :: .int x :: rest) := fun H locs ls hP hD hS hl => lv_irem C.1 C.2.1 hd hne (kk H locs ls hP hD hS hl)
theorem z_ineg {x : Int32} (C : zC X G nL cc own ret fr lo)  (hd : decode cc pc = .ok (.ineg, 1))  (kk : Z X G nL k n ws (pc + 1) lv (.int (-x) :: rest)) : Z X G nL k n ws pc lv (.int x :: rest) := fun H locs ls hP hD hS hl => lv_ineg C.1 C.2.1 hd (kk H locs ls hP hD hS hl)
theorem z_ladd {x y : Int64} (C : zC X G nL cc own ret fr lo)  (hd : decode cc pc = .ok (.ladd, 1))  (kk : Z X G nL k n ws (pc + 1) lv (.long (x + y) :: rest)) : Z X G nL k n ws pc lv (.long y :: .long x :: rest) := fun H locs ls hP hD hS hl => lv_ladd C.1 C.2.1 hd (kk H locs ls hP hD hS hl)
theorem z_lmul {x y : Int64} (C : zC X G nL cc own ret fr lo)  (hd : decode cc pc = .ok (.lmul, 1))  (kk : Z X G nL k n ws (pc + 1) lv (.long (x * y) :: rest)) : Z X G nL k n ws pc lv (.long y :: .long x :: rest) := fun H locs ls hP hD hS hl => lv_lmul C.1 C.2.1 hd (kk H locs ls hP hD hS hl)
theorem z_ldiv {x y : Int64} (C : zC X G nL cc own ret fr lo)  (hd : decode cc pc = .ok (.ldiv, 1)) (hne : ¬ y = 0) (kk : Z X G nL k n ws (pc + 1) lv (.long (x / y) :: rest)) : Z X G nL k n ws pc lv (.long y :: .long x :: rest) := fun H locs ls hP hD hS hl => lv_ldiv C.1 C.2.1 hd hne (kk H locs ls hP hD hS hl)
theorem z_lrem {x y : Int64} (C : zC X G nL cc own ret fr lo)  (hd : decode cc pc = .ok (.lrem, 1)) (hne : ¬ y = 0) (kk : Z X G nL k n ws (pc + 1) lv (.long (x - x / y * y) :: rest)) : Z X G nL k n ws pc lv (.long y :: .long x :: rest) := fun H locs ls hP hD hS hl => lv_lrem C.1 C.2.1 hd hne (kk H locs ls hP hD hS hl)
theorem z_i2l {x : Int32} (C : zC X G nL cc own ret fr lo)  (hd : decode cc pc = .ok (.i2l, 1))  (kk : Z X G nL k n ws (pc + 1) lv (.long x.toInt64 :: rest)) : Z X G nL k n ws pc lv (.int x :: rest) := fun H locs ls hP hD hS hl => lv_i2l C.1 C.2.1 hd rfl (kk H locs ls hP hD hS hl)
theorem z_l2i {x : Int64} (C : zC X G nL cc own ret fr lo)  (hd : decode cc pc = .ok (.l2i, 1))  (kk : Z X G nL k n ws (pc + 1) lv (.int x.toInt32 :: rest)) : Z X G nL k n ws pc lv (.long x :: rest) := fun H locs ls hP hD hS hl => lv_l2i C.1 C.2.1 hd rfl (kk H locs ls hP hD hS hl)
theorem z_i2b {x : Int32} (C : zC X G nL cc own ret fr lo)  (hd : decode cc pc = .ok (.i2b, 1))  (kk : Z X G nL k n ws (pc + 1) lv (.int x.toInt8.toInt32 :: rest)) : Z X G nL k n ws pc lv (.int x :: rest) := fun H locs ls hP hD hS hl => lv_i2b C.1 C.2.1 hd rfl (kk H locs ls hP hD hS hl)
theorem z_i2c {x : Int32} (C : zC X G nL cc own ret fr lo)  (hd : decode cc pc = .ok (.i2c, 1))  (kk : Z X G nL k n ws (pc + 1) lv (.int (x.toUInt32 % 65536).toInt32 :: rest)) : Z X G nL k n ws pc lv (.int x :: rest) := fun H locs ls hP hD hS hl => lv_i2c C.1 C.2.1 hd rfl (kk H locs ls hP hD hS hl)
theorem z_lcmp {x y : Int64} (C : zC X G nL cc own ret fr lo)  (hd : decode cc pc = .ok (.lcmp, 1))  (kk : Z X G nL k n ws (pc + 1) lv (.int (lg_cmp x y) :: rest)) : Z X G nL k n ws pc lv (.long y :: .long x :: rest) := fun H locs ls hP hD hS hl => W.lcmp C.1 C.2.1 hd (kk H locs ls hP hD hS hl)
theorem z_dup {v : Value} (C : zC X G nL cc own ret fr lo)  (hd : decode cc pc = .ok (.dup, 1)) (hv : v.category = 1) (kk : Z X G nL k n ws (pc + 1) lv (v :: v :: rest)) : Z X G nL k n ws pc lv (v :: rest) := fun H locs ls hP hD hS hl => lv_dup C.1 C.2.1 hd hv (kk H locs ls hP hD hS hl)
theorem z_pop {v : Value} (C : zC X G nL cc own ret fr lo)  (hd : decode cc pc = .ok (.pop, 1)) (hv : v.category = 1) (kk : Z X G nL k n ws (pc + 1) lv rest) : Z X G nL k n ws pc lv (v :: rest) := fun H locs ls hP hD hS hl => lv_pop C.1 C.2.1 hd hv (kk H locs ls hP hD hS hl)
theorem z_dup2 {v u : Value} (C : zC X G nL cc own ret fr lo)  (hd : decode cc pc = .ok (.dup2, 1)) (hv : v.category = 1) (hu : u.category = 1) (kk : Z X G nL k n ws (pc + 1) lv (v :: u :: v :: u :: rest)) : Z X G nL k n ws pc lv (v :: u :: rest) := fun H locs ls hP hD hS hl => lv_dup2_11 C.1 C.2.1 hd hv hu (kk H locs ls hP hD hS hl)
theorem z_if_eq {x : Int32} {off : Int} (tgt : Nat) (C : zC X G nL cc own ret fr lo) (hd : decode cc pc = .ok (.ifCond .eq off, 3)) (ht : (pc : Int) + off = (tgt : Int)) (kt : x = 0 → Z X G nL k n ws tgt lv rest) (kf : ¬ x = 0 → Z X G nL k n ws (pc + 3) lv rest) : Z X G nL k n ws pc lv (.int x :: rest) := fun H locs ls hP hD hS hl => lv_if_eq C.1 C.2.1 hd ht (fun h => kt h H locs ls hP hD hS hl) (fun h => kf h H locs ls hP hD hS hl)
theorem z_if_ne {x : Int32} {off : Int} (tgt : Nat) (C : zC X G nL cc own ret fr lo) (hd : decode cc pc = .ok (.ifCond .ne off, 3)) (ht : (pc : Int) + off = (tgt : Int)) (kt : ¬ x = 0 → Z X G nL k n ws tgt lv rest) (kf : x = 0 → Z X G nL k n ws (pc + 3) lv rest) : Z X G nL k n ws pc lv (.int x :: rest) := fun H locs ls hP hD hS hl => lv_if_ne C.1 C.2.1 hd ht (fun h => kt h H locs ls hP hD hS hl) (fun h => kf h H locs ls hP hD hS hl)
theorem z_if_lt {x : Int32} {off : Int} (tgt : Nat) (C : zC X G nL cc own ret fr lo) (hd : decode cc pc = .ok (.ifCond .lt off, 3)) (ht : (pc : Int) + off = (tgt : Int)) (kt : x < 0 → Z X G nL k n ws tgt lv rest) (kf : ¬ x < 0 → Z X G nL k n ws (pc + 3) lv rest) : Z X G nL k n ws pc lv (.int x :: rest) := fun H locs ls hP hD hS hl => lv_if_lt C.1 C.2.1 hd ht (fun h => kt h H locs ls hP hD hS hl) (fun h => kf h H locs ls hP hD hS hl)
theorem z_if_ge {x : Int32} {off : Int} (tgt : Nat) (C : zC X G nL cc own ret fr lo) (hd : decode cc pc = .ok (.ifCond .ge off, 3)) (ht : (pc : Int) + off = (tgt : Int)) (kt : 0 ≤ x → Z X G nL k n ws tgt lv rest) (kf : ¬ 0 ≤ x → Z X G nL k n ws (pc + 3) lv rest) : Z X G nL k n ws pc lv (.int x :: rest) := fun H locs ls hP hD hS hl => lv_if_ge C.1 C.2.1 hd ht (fun h => kt h H locs ls hP hD hS hl) (fun h => kf h H locs ls hP hD hS hl)
theorem z_if_gt {x : Int32} {off : Int} (tgt : Nat) (C : zC X G nL cc own ret fr lo) (hd : decode cc pc = .ok (.ifCond .gt off, 3)) (ht : (pc : Int) + off = (tgt : Int)) (kt : 0 < x → Z X G nL k n ws tgt lv rest) (kf : ¬ 0 < x → Z X G nL k n ws (pc + 3) lv rest) : Z X G nL k n ws pc lv (.int x :: rest) := fun H locs ls hP hD hS hl => lv_if_gt C.1 C.2.1 hd ht (fun h => kt h H locs ls hP hD hS hl) (fun h => kf h H locs ls hP hD hS hl)
theorem z_if_le {x : Int32} {off : Int} (tgt : Nat) (C : zC X G nL cc own ret fr lo) (hd : decode cc pc = .ok (.ifCond .le off, 3)) (ht : (pc : Int) + off = (tgt : Int)) (kt : x ≤ 0 → Z X G nL k n ws tgt lv rest) (kf : ¬ x ≤ 0 → Z X G nL k n ws (pc + 3) lv rest) : Z X G nL k n ws pc lv (.int x :: rest) := fun H locs ls hP hD hS hl => lv_if_le C.1 C.2.1 hd ht (fun h => kt h H locs ls hP hD hS hl) (fun h => kf h H locs ls hP hD hS hl)
theorem z_icmp_eq {x y : Int32} {off : Int} (tgt : Nat) (C : zC X G nL cc own ret fr lo) (hd : decode cc pc = .ok (.if_icmp .eq off, 3)) (ht : (pc : Int) + off = (tgt : Int)) (kt : x = y → Z X G nL k n ws tgt lv rest) (kf : ¬ x = y → Z X G nL k n ws (pc + 3) lv rest) : Z X G nL k n ws pc lv (.int y :: .int x :: rest) := fun H locs ls hP hD hS hl => lv_icmp_eq C.1 C.2.1 hd ht (fun h => kt h H locs ls hP hD hS hl) (fun h => kf h H locs ls hP hD hS hl)
theorem z_icmp_ne {x y : Int32} {off : Int} (tgt : Nat) (C : zC X G nL cc own ret fr lo) (hd : decode cc pc = .ok (.if_icmp .ne off, 3)) (ht : (pc : Int) + off = (tgt : Int)) (kt : ¬ x = y → Z X G nL k n ws tgt lv rest) (kf : x = y → Z X G nL k n ws (pc + 3) lv rest) : Z X G nL k n ws pc lv (.int y :: .int x :: rest) := fun H locs ls hP hD hS hl => lv_icmp_ne C.1 C.2.1 hd ht (fun h => kt h H locs ls hP hD hS hl) (fun h => kf h H locs ls hP hD hS hl)
theorem z_icmp_lt {x y : Int32} {off : Int} (tgt : Nat) (C : zC X G nL cc own ret fr lo) (hd : decode cc pc = .ok (.if_icmp .lt off, 3)) (ht : (pc : Int) + off = (tgt : Int)) (kt : x < y → Z X G nL k n ws tgt lv rest) (kf : ¬ x < y → Z X G nL k n ws (pc + 3) lv rest) : Z X G nL k n ws pc lv (.int y :: .int x :: rest) := fun H locs ls hP hD hS hl => lv_icmp_lt C.1 C.2.1 hd ht (fun h => kt h H locs ls hP hD hS hl) (fun h => kf h H locs ls hP hD hS hl)
theorem z_icmp_ge {x y : Int32} {off : Int} (tgt : Nat) (C : zC X G nL cc own ret fr lo) (hd : decode cc pc = .ok (.if_icmp .ge off, 3)) (ht : (pc : Int) + off = (tgt : Int)) (kt : y ≤ x → Z X G nL k n ws tgt lv rest) (kf : ¬ y ≤ x → Z X G nL k n ws (pc + 3) lv rest) : Z X G nL k n ws pc lv (.int y :: .int x :: rest) := fun H locs ls hP hD hS hl => lv_icmp_ge C.1 C.2.1 hd ht (fun h => kt h H locs ls hP hD hS hl) (fun h => kf h H locs ls hP hD hS hl)
theorem z_icmp_gt {x y : Int32} {off : Int} (tgt : Nat) (C : zC X G nL cc own ret fr lo) (hd : decode cc pc = .ok (.if_icmp .gt off, 3)) (ht : (pc : Int) + off = (tgt : Int)) (kt : y < x → Z X G nL k n ws tgt lv rest) (kf : ¬ y < x → Z X G nL k n ws (pc + 3) lv rest) : Z X G nL k n ws pc lv (.int y :: .int x :: rest) := fun H locs ls hP hD hS hl => lv_icmp_gt C.1 C.2.1 hd ht (fun h => kt h H locs ls hP hD hS hl) (fun h => kf h H locs ls hP hD hS hl)
theorem z_icmp_le {x y : Int32} {off : Int} (tgt : Nat) (C : zC X G nL cc own ret fr lo) (hd : decode cc pc = .ok (.if_icmp .le off, 3)) (ht : (pc : Int) + off = (tgt : Int)) (kt : x ≤ y → Z X G nL k n ws tgt lv rest) (kf : ¬ x ≤ y → Z X G nL k n ws (pc + 3) lv rest) : Z X G nL k n ws pc lv (.int y :: .int x :: rest) := fun H locs ls hP hD hS hl => lv_icmp_le C.1 C.2.1 hd ht (fun h => kt h H locs ls hP hD hS hl) (fun h => kf h H locs ls hP hD hS hl)
theorem z_goto {off : Int} (tgt : Nat) (C : zC X G nL cc own ret fr lo) (hd : decode cc pc = .ok (.goto off, 3)) (ht : (pc : Int) + off = (tgt : Int)) (kk : Z X G nL k n ws tgt lv rest) : Z X G nL k n ws pc lv rest := fun H locs ls hP hD hS hl => lv_goto C.1 C.2.1 hd ht (kk H locs ls hP hD hS hl)
theorem z_lookup {dflt : Int} {ps : Array (Int × Int)} {len : Nat} {x : Int32} {off : Int} (tgt : Nat) (C : zC X G nL cc own ret fr lo) (hd : decode cc pc = .ok (.lookupswitch dflt ps, len)) (hp : (ps.toList.zip (ps.toList.drop 1)).all (fun (a, next) => a.1 < next.1) = true) (ho : Op.lookupswitch.offset ps.toList dflt x.toInt = off) (ht : (pc : Int) + off = (tgt : Int)) (kk : Z X G nL k n ws tgt lv rest) : Z X G nL k n ws pc lv (.int x :: rest) := fun H locs ls hP hD hS hl => lv_lookup C.1 C.2.1 hd hp ho ht (kk H locs ls hP hD hS hl)
theorem z_tableOut {dflt lw hi : Int} {offs : Array Int} {len : Nat} {x : Int32} (tgt : Nat) (C : zC X G nL cc own ret fr lo) (hd : decode cc pc = .ok (.tableswitch dflt lw hi offs, len)) (h : x.toInt < lw ∨ hi < x.toInt) (ht : (pc : Int) + dflt = (tgt : Int)) (kk : Z X G nL k n ws tgt lv rest) : Z X G nL k n ws pc lv (.int x :: rest) := fun H locs ls hP hD hS hl => lv_tableOut C.1 C.2.1 hd h ht (kk H locs ls hP hD hS hl)
theorem z_tableIn {dflt lw hi : Int} {offs : Array Int} {len : Nat} {x : Int32} {off : Int} (tgt : Nat) (C : zC X G nL cc own ret fr lo) (hd : decode cc pc = .ok (.tableswitch dflt lw hi offs, len)) (h1 : ¬ x.toInt < lw) (h2 : ¬ hi < x.toInt) (ho : offs[(x.toInt - lw).toNat]? = some off) (ht : (pc : Int) + off = (tgt : Int)) (kk : Z X G nL k n ws tgt lv rest) : Z X G nL k n ws pc lv (.int x :: rest) := fun H locs ls hP hD hS hl => lv_tableIn C.1 C.2.1 hd h1 h2 ho ht (kk H locs ls hP hD hS hl)
theorem z_tableD {dflt lw hi : Int} {offs : Array Int} {len : Nat} {x : Int32} (tgt : Nat) (C : zC X G nL cc own ret fr lo) (hd : decode cc pc = .ok (.tableswitch dflt lw hi offs, len)) (ks : List Int) (ha : ((hi - lw + 1).toNat = offs.size) ∧ (List.range offs.size).all (fun j => offs[j]? == some dflt || ks.contains (lw + j)) = true) (hk : ∀ q ∈ ks, ¬ x.toInt = q) (ht : (pc : Int) + dflt = (tgt : Int)) (kk : Z X G nL k n ws tgt lv rest) : Z X G nL k n ws pc lv (.int x :: rest) := by
  by_cases h1 : x.toInt < lw
  · exact z_tableOut tgt C hd (Or.inl h1) ht kk
  by_cases h2 : hi < x.toInt
  · exact z_tableOut tgt C hd (Or.inr h2) ht kk
  have hj : (x.toInt - lw).toNat < offs.size := by have := ha.1; omega
  have h3 := List.all_eq_true.mp ha.2 _ (List.mem_range.mpr hj)
  simp only [Bool.or_eq_true, beq_iff_eq, List.contains_iff_mem] at h3
  rcases h3 with h3 | h3
  · exact z_tableIn tgt C hd h1 h2 h3 ht kk
  · exact absurd (by omega) (hk _ h3)
theorem z_get {Cn : String} {T : u_T} {N ci idx a : Nat} {fs : List Value} {v : Value} (C : zC X G nL cc own ret fr lo) (q0 f : Nat) (hd : decode cc pc = .ok (.getfield idx, 3)) (he : ws[q0]? = some (a, .inr (ci, fs))) (hc : vwCl[ci]? = some (Cn, T, N)) (hin : ∀ w ∈ u_ws Cn T N, w ∈ gW) (hf : f < N) (q : Cond.fieldLink own idx (T f).1 (T f).2.1 (T f).2.2.1 ∈ gW) (hv : fs[f]? = some v) (kk : Z X G nL k n ws (pc + 3) lv (v :: rest)) : Z X G nL k n ws pc lv (.ref a :: rest) := fun H locs ls hP hD hS hl => va_get C.1 C.2.1 C.2.2.2.2.1 hin C.2.2.2.1 C.2.2.2.2.2.2.1.1 hP q0 he hc f hf (C.2.2.2.2.1 _ q) (fun _ h => h) hv hd (kk H locs ls hP hD hS hl)
theorem z_put {Cn : String} {T : u_T} {N ci idx a : Nat} {fs : List Value} {v : Value} {ty : FieldType} {ty0 : Nat → FieldType} (ws' : va_W) (C : zC X G nL cc own ret fr lo) (q0 f : Nat) (hd : decode cc pc = .ok (.putfield idx, 3)) (he : ws[q0]? = some (a, .inr (ci, fs))) (hc : vwCl[ci]? = some (Cn, T, N)) (hin : ∀ w ∈ u_ws Cn T N, w ∈ gW) (hty : ∀ k, k < N → parseFieldDescriptor (T k).2.2.1 = some (ty0 k)) (hnm : ∀ a, a < N → ∀ b, b < N → a ≠ b → (T a).2.1 ≠ (T b).2.1) (hf : f < N) (q : Cond.fieldLink own idx (T f).1 (T f).2.1 (T f).2.2.1 ∈ gW) (hfin : (T f).2.2.2 = false) (hty1 : ty0 f = ty) (hn : narrow ty v = v) (hfit : fits ty v = true) (hl9 : f < fs.length) (hw : ws.set q0 (a, .inr (ci, fs.set f v)) = ws') (kk : Z X G nL k n ws' (pc + 3) lv rest) : Z X G nL k n ws pc lv (v :: .ref a :: rest) := fun H locs ls hP hD hS hl => va_put C.1 C.2.1 C.2.2.2.2.1 hin ty0 hty hnm C.2.2.2.1 C.2.2.2.2.2.2.1.1 hP hD hS q0 he hc f hf (C.2.2.2.2.1 _ q) (fun _ h => h) hfin (by rw [hty f hf, hty1]) hn hfit hl9 hd (fun H1 l1 p1 d1 s1 => kk H1 l1 ls (hw ▸ p1) (hw ▸ d1) s1 hl)
theorem z_iald {a z : Nat} {f : Nat → Int32} {i : Int32} (C : zC X G nL cc own ret fr lo) (q0 : Nat) (hd : decode cc pc = .ok (.iaload, 1)) (ha : ws[q0]? = some (a, .inl (cI G, z, .inl f))) (hin : vp_in i z) (kk : Z X G nL k n ws (pc + 1) lv (.int (f i.toNatClampNeg) :: rest)) : Z X G nL k n ws pc lv (.int i :: .ref a :: rest) := fun H locs ls hP hD hS hl => va_iald C.1 C.2.1 C.2.2.2.2.2.2.1.1 hP q0 0 ha rfl hin hd (kk H locs ls hP hD hS hl)
theorem z_bald {a z : Nat} {f : Nat → Int32} {i : Int32} (C : zC X G nL cc own ret fr lo) (q0 : Nat) (hd : decode cc pc = .ok (.baload, 1)) (ha : ws[q0]? = some (a, .inl (cB G, z, .inl f))) (hin : vp_in i z) (kk : Z X G nL k n ws (pc + 1) lv (.int (f i.toNatClampNeg) :: rest)) : Z X G nL k n ws pc lv (.int i :: .ref a :: rest) := fun H locs ls hP hD hS hl => va_bald C.1 C.2.1 C.2.2.2.2.2.2.1.1 hP q0 1 ha rfl hin hd (kk H locs ls hP hD hS hl)
theorem z_zald {a z : Nat} {f : Nat → Int32} {i : Int32} (C : zC X G nL cc own ret fr lo) (q0 : Nat) (hd : decode cc pc = .ok (.baload, 1)) (ha : ws[q0]? = some (a, .inl (cZ G, z, .inl f))) (hin : vp_in i z) (kk : Z X G nL k n ws (pc + 1) lv (.int (f i.toNatClampNeg) :: rest)) : Z X G nL k n ws pc lv (.int i :: .ref a :: rest) := fun H locs ls hP hD hS hl => va_zald C.1 C.2.1 C.2.2.2.2.2.2.1.1 hP q0 2 ha rfl hin hd (kk H locs ls hP hD hS hl)
theorem z_iast {a z : Nat} {f : Nat → Int32} {i x : Int32} (ws' : va_W) (C : zC X G nL cc own ret fr lo) (q0 : Nat) (hd : decode cc pc = .ok (.iastore, 1)) (ha : ws[q0]? = some (a, .inl (cI G, z, .inl f))) (hin : vp_in i z) (hw : ws.set q0 (a, .inl (cI G, z, .inl (upd f i.toNatClampNeg (x)))) = ws') (kk : Z X G nL k n ws' (pc + 1) lv rest) : Z X G nL k n ws pc lv (.int x :: .int i :: .ref a :: rest) := fun H locs ls hP hD hS hl => va_iast C.1 C.2.1 C.2.2.2.2.2.2.1.1 hP hD hS q0 0 ha rfl hin hd (fun H1 l1 p1 d1 s1 => kk H1 l1 ls (hw ▸ p1) (hw ▸ d1) s1 hl)
theorem z_bast {a z : Nat} {f : Nat → Int32} {i x : Int32} (ws' : va_W) (C : zC X G nL cc own ret fr lo) (q0 : Nat) (hd : decode cc pc = .ok (.bastore, 1)) (ha : ws[q0]? = some (a, .inl (cB G, z, .inl f))) (hin : vp_in i z) (hw : ws.set q0 (a, .inl (cB G, z, .inl (upd f i.toNatClampNeg (vp_nar .byte x)))) = ws') (kk : Z X G nL k n ws' (pc + 1) lv rest) : Z X G nL k n ws pc lv (.int x :: .int i :: .ref a :: rest) := fun H locs ls hP hD hS hl => va_bast C.1 C.2.1 C.2.2.2.2.2.2.1.1 hP hD hS q0 1 ha rfl hin hd (fun H1 l1 p1 d1 s1 => kk H1 l1 ls (hw ▸ p1) (hw ▸ d1) s1 hl)
theorem z_zast {a z : Nat} {f : Nat → Int32} {i x : Int32} (ws' : va_W) (C : zC X G nL cc own ret fr lo) (q0 : Nat) (hd : decode cc pc = .ok (.bastore, 1)) (ha : ws[q0]? = some (a, .inl (cZ G, z, .inl f))) (hin : vp_in i z) (hw : ws.set q0 (a, .inl (cZ G, z, .inl (upd f i.toNatClampNeg (vp_nar .boolean x)))) = ws') (kk : Z X G nL k n ws' (pc + 1) lv rest) : Z X G nL k n ws pc lv (.int x :: .int i :: .ref a :: rest) := fun H locs ls hP hD hS hl => va_zast C.1 C.2.1 C.2.2.2.2.2.2.1.1 hP hD hS q0 2 ha rfl hin hd (fun H1 l1 p1 d1 s1 => kk H1 l1 ls (hw ▸ p1) (hw ▸ d1) s1 hl)
theorem z_aald {a z : Nat} {f : Nat → Option Nat} {i : Int32} (C : zC X G nL cc own ret fr lo) (q0 : Nat) (hd : decode cc pc = .ok (.aaload, 1)) (ha : ws[q0]? = some (a, .inl (cS G, z, .inr (.inr (.inr (.inr f)))))) (hin : vp_in i z) (kk : Z X G nL k n ws (pc + 1) lv (va_rf (f i.toNatClampNeg) :: rest)) : Z X G nL k n ws pc lv (.int i :: .ref a :: rest) := fun H locs ls hP hD hS hl => va_aldq C.1 C.2.1 C.2.2.2.2.2.2.1.1 hP q0 3 ha rfl hin hd (kk H locs ls hP hD hS hl)
theorem z_alen_cI {a : Nat} {x : vp_A} {v : Int32} (C : zC X G nL cc own ret fr lo) (q0 : Nat) (hd : decode cc pc = .ok (.arraylength, 1)) (ha : ws[q0]? = some (a, .inl (cI G, x))) (hv : Int32.ofNat x.1 = v) (kk : Z X G nL k n ws (pc + 1) lv (.int v :: rest)) : Z X G nL k n ws pc lv (.ref a :: rest) := fun H locs ls hP hD hS hl => va_alen C.1 C.2.1 C.2.2.2.2.2.2.1.1 hP q0 0 ha (ty := .int) rfl hv hd (kk H locs ls hP hD hS hl)
theorem z_alen_cB {a : Nat} {x : vp_A} {v : Int32} (C : zC X G nL cc own ret fr lo) (q0 : Nat) (hd : decode cc pc = .ok (.arraylength, 1)) (ha : ws[q0]? = some (a, .inl (cB G, x))) (hv : Int32.ofNat x.1 = v) (kk : Z X G nL k n ws (pc + 1) lv (.int v :: rest)) : Z X G nL k n ws pc lv (.ref a :: rest) := fun H locs ls hP hD hS hl => va_alen C.1 C.2.1 C.2.2.2.2.2.2.1.1 hP q0 1 ha (ty := .byte) rfl hv hd (kk H locs ls hP hD hS hl)
theorem z_alen_cZ {a : Nat} {x : vp_A} {v : Int32} (C : zC X G nL cc own ret fr lo) (q0 : Nat) (hd : decode cc pc = .ok (.arraylength, 1)) (ha : ws[q0]? = some (a, .inl (cZ G, x))) (hv : Int32.ofNat x.1 = v) (kk : Z X G nL k n ws (pc + 1) lv (.int v :: rest)) : Z X G nL k n ws pc lv (.ref a :: rest) := fun H locs ls hP hD hS hl => va_alen C.1 C.2.1 C.2.2.2.2.2.2.1.1 hP q0 2 ha (ty := .boolean) rfl hv hd (kk H locs ls hP hD hS hl)
theorem z_copyi {a a0 n0 n1 : Nat} {f g : Nat → Int32} {sp dp m : Int32} {idx : Nat} (ws' : va_W) (C : zC X G nL cc own ret fr lo) (q0 q1 : Nat) (ql : Cond.methodLink own idx arraycopyName ∈ gW) (qn : Cond.native arraycopyName ∈ gW) (qs : Cond.static arraycopyName ∈ gW) (qi : Cond.initialized "java/lang/System" ∈ gW) (hd : decode cc pc = .ok (.invokestatic idx, 3)) (ha0 : ws[q0]? = some (a0, .inl (cI G, n0, .inl f))) (ha1 : ws[q1]? = some (a, .inl (cI G, n1, .inl g))) (h1 : ¬ sp < 0) (h2 : ¬ dp < 0) (h3 : ¬ m < 0) (h4 : sp.toNatClampNeg + m.toNatClampNeg ≤ n0) (h5 : dp.toNatClampNeg + m.toNatClampNeg ≤ n1) (hfr : 1 ≤ fr) (hlo : (rest.map fun v => v.category).sum + (nativeFrameWords "java/lang/System" "arraycopy" 5 + 11) ≤ lo) (hw : ws.set q1 (a, .inl (cI G, n1, .inl (va_cpy f g sp.toNatClampNeg dp.toNatClampNeg m.toNatClampNeg))) = ws') (kk : Z X G nL k n ws' (pc + 3) lv rest) : Z X G nL k n ws pc lv (.int m :: .int dp :: .ref a :: .int sp :: .ref a0 :: rest) := fun H locs ls hP hD hS hl => va_copyi C.1 C.2.1 (C.2.2.1.trans hl.1.symm) C.2.2.2.1 (C.2.2.2.2.1 _ ql) (C.2.2.2.2.1 _ qn) (C.2.2.2.2.1 _ qs) (C.2.2.2.2.1 _ qi) C.2.2.2.2.2.2.1.1 hP hD hS q0 q1 0 0 (ty := .int) ha0 ha1 rfl rfl rfl h1 h2 h3 h4 h5 (fun _ _ => rfl) (Nat.le_trans hfr C.2.2.2.2.2.2.2.2.2.1) (Nat.le_trans hlo C.2.2.2.2.2.2.2.2.2.2) hd (fun H1 l1 p1 d1 s1 => kk H1 l1 ls (hw ▸ p1) (hw ▸ d1) s1 hl)

theorem z_iret {r : Int32} (C : zC X G nL cc own (some .int) fr lo) (E : zP X G k n Po) (hd : decode cc pc = .ok (.ireturn, 1)) (h : Po (some (.int r)) ws) : Z X G nL k n ws pc lv [.int r] := fun H locs ls hP hD hS hl => by
  obtain ⟨Qc, hq, hf⟩ := E
  rw [hq]
  exact W.iret C.1 C.2.1 C.2.2.2.2.2.2.2.1 (fun t ht hW => hf _ _ H locs h hP hS t ht hW) hS.2.2 hd C.2.2.2.2.2.2.2.2.1
theorem z_zret {r : Int32} {ty : FieldType} (C : zC X G nL cc own (some ty) fr lo) (E : zP X G k n Po) (hd : decode cc pc = .ok (.ireturn, 1)) (hn : narrow ty (.int r) = .int r) (h : Po (some (.int r)) ws) : Z X G nL k n ws pc lv [.int r] := fun H locs ls hP hD hS hl => by
  obtain ⟨Qc, hq, hf⟩ := E
  rw [hq]
  exact W.zret C.1 C.2.1 C.2.2.2.2.2.2.2.1 hn (fun t ht hW => hf _ _ H locs h hP hS t ht hW) hS.2.2 hd C.2.2.2.2.2.2.2.2.1
theorem z_lret {r : Int64} (C : zC X G nL cc own (some .long) fr lo) (E : zP X G k n Po) (hd : decode cc pc = .ok (.lreturn, 1)) (h : Po (some (.long r)) ws) : Z X G nL k n ws pc lv [.long r] := fun H locs ls hP hD hS hl => by
  obtain ⟨Qc, hq, hf⟩ := E
  rw [hq]
  exact W.lret C.1 C.2.1 C.2.2.2.2.2.2.2.1 (fun t ht hW => hf _ _ H locs h hP hS t ht hW) hS.2.2 hd C.2.2.2.2.2.2.2.2.1
theorem z_vret (C : zC X G nL cc own none fr lo) (E : zP X G k n Po) (hd : decode cc pc = .ok (.return_, 1)) (h : Po none ws) : Z X G nL k n ws pc lv [] := fun H locs ls hP hD hS hl => by
  obtain ⟨Qc, hq, hf⟩ := E
  rw [hq]
  exact W.vret C.1 C.2.1 C.2.2.2.2.2.2.2.1 (fun t ht hW => hf _ _ H locs h hP hS t ht hW) hS.2.2 hd C.2.2.2.2.2.2.2.2.1
theorem z_aret {r : Nat} {rt : FieldType} (C : zC X G nL cc own (some rt) fr lo) (E : zP X G k n Po) (hd : decode cc pc = .ok (.areturn, 1)) (hrt : (∃ n, rt = .object n) ∨ ∃ t, rt = .array t) (h : Po (some (.ref r)) ws) : Z X G nL k n ws pc lv [.ref r] := fun H locs ls hP hD hS hl => by
  obtain ⟨Qc, hq, hf⟩ := E
  rw [hq]
  exact W.aret C.1 C.2.1 C.2.2.2.2.2.2.2.1 hrt (Or.inr ⟨_, rfl⟩) (fun t ht hW => hf _ _ H locs h hP hS t ht hW) hS.2.2 hd C.2.2.2.2.2.2.2.2.1
/-- a counted loop: from its head at i to its head at e -/
theorem z_loop {e : Nat} (ws : Nat → va_W) (lv : Nat → List (Nat × Value)) (st : List Value) (hs : ∀ i, i < e → Z X G nL k n (ws (i + 1)) pc (lv (i + 1)) st → Z X G nL k n (ws i) pc (lv i) st) (hx : Z X G nL k n (ws e) pc (lv e) st) : ∀ i, i ≤ e → Z X G nL k n (ws i) pc (lv i) st := by
  intro i hi
  obtain ⟨d, rfl⟩ : ∃ d, e = i + d := ⟨e - i, by omega⟩
  induction d generalizing i with
  | zero => exact hx
  | succ d ih => exact hs i (by omega) (ih (i + 1) (fun j hj => by rw [show i + 1 + d = i + (d + 1) by omega] at hj; exact hs j hj) (by rw [show i + 1 + d = i + (d + 1) by omega]; exact hx) (by omega))
/-- a loop with a measure -/
theorem z_while {σ : Type} (I : σ → Prop) (μ : σ → Nat) (ws : σ → va_W) (lv : σ → List (Nat × Value)) (st : List Value) (hs : ∀ x, I x → (∀ y, I y → μ y < μ x → Z X G nL k n (ws y) pc (lv y) st) → Z X G nL k n (ws x) pc (lv x) st) : ∀ x, I x → Z X G nL k n (ws x) pc (lv x) st := by
  have h : ∀ d x, μ x < d → I x → Z X G nL k n (ws x) pc (lv x) st := by
    intro d
    induction d with
    | zero => intro x h; exact absurd h (Nat.not_lt_zero _)
    | succ d ih => intro x h hi; exact hs x hi fun y hy hl => ih y (by omega) hy
  exact fun x hi => h _ x (Nat.lt_succ_self _) hi
end ZR
/-- the cells of a part put back in their places -/
def zput : va_W → List Nat → va_W → va_W
  | ws, i :: is, q :: w => zput (ws.set i q) is w
  | ws, _, _ => ws
def zpush : Option Value → List Value → List Value
  | none, st => st
  | some v, st => v :: st
theorem zpush_eq (v : Option Value) (st : List Value) : zpush v st = v.toList ++ st := by cases v <;> rfl
theorem zput_get : ∀ (is : List Nat) (ws w : va_W) (_ : is.length = w.length) (i : Nat) (q : Nat × va_E), (zput ws is w)[i]? = some q → (∃ j : Nat, w[j]? = some q) ∨ (ws[i]? = some q ∧ i ∉ is)
  | [], ws, [], _, i, q, h => Or.inr ⟨h, List.not_mem_nil⟩
  | [], ws, _ :: _, hl, i, q, h => by simp at hl
  | _ :: _, ws, [], hl, i, q, h => by simp at hl
  | i0 :: is, ws, q0 :: w, hl, i, q, h => by
    rcases zput_get is (ws.set i0 q0) w (by simpa using hl) i q h with ⟨j, hj⟩ | ⟨h1, h2⟩
    · exact Or.inl ⟨j + 1, by simpa using hj⟩
    · by_cases e : i0 = i
      · subst e
        rw [List.getElem?_set] at h1
        by_cases hlt : i0 < ws.length
        · simp [hlt] at h1
          exact Or.inl ⟨0, by simp [h1]⟩
        · simp [hlt] at h1
      · rw [List.getElem?_set_ne e] at h1
        exact Or.inr ⟨h1, fun hm => by
          rcases List.mem_cons.mp hm with z | z
          · exact e z.symm
          · exact h2 z⟩
theorem zset_adr {ws : va_W} {i : Nat} {q : Nat × va_E} (h : (ws[i]?).map (·.1) = some q.1) (j : Nat) : ((ws.set i q)[j]?).map (·.1) = (ws[j]?).map (·.1) := by
  by_cases e : i = j
  · subst e
    rw [h, List.getElem?_set]
    have hlt : i < ws.length := by
      rcases Nat.lt_or_ge i ws.length with z | z
      · exact z
      · rw [List.getElem?_eq_none z] at h; cases h
    simp [hlt]
  · rw [List.getElem?_set_ne e]
theorem zput_adr : ∀ (is : List Nat) (ws w : va_W) (_ : is.map (fun i => (ws[i]?).map (·.1)) = w.map (fun q => some q.1)) (j : Nat), ((zput ws is w)[j]?).map (·.1) = (ws[j]?).map (·.1)
  | [], ws, w, _, j => by cases w <;> rfl
  | _ :: _, ws, [], h, j => by simp at h
  | i :: is, ws, q :: w, h, j => by
    simp only [List.map_cons, List.cons.injEq] at h
    show ((zput (ws.set i q) is w)[j]?).map (·.1) = _
    rw [zput_adr is (ws.set i q) w (by rw [← h.2]; exact List.map_congr_left fun x _ => zset_adr h.1 x) j, zset_adr h.1 j]
theorem va_D_adr {A : Nat → Prop} {ws ws' : va_W} (hD : va_D A ws) (h : ∀ j : Nat, (ws'[j]?).map (·.1) = (ws[j]?).map (·.1)) : va_D A ws' := by
  have key : ∀ (i : Nat) (p : Nat × va_E), ws'[i]? = some p → ∃ e, ws[i]? = some (p.1, e) := by
    intro i p hp
    have h1 := h i
    rw [hp] at h1
    cases hw : ws[i]? with
    | none => rw [hw] at h1; cases h1
    | some q => rw [hw] at h1; obtain ⟨a, e⟩ := q; exact ⟨e, by have : p.1 = a := Option.some.inj h1; rw [this]⟩
  refine ⟨fun i j p q hp hq e => ?_, fun i p hp => ?_⟩
  · obtain ⟨e1, h1⟩ := key i p hp
    obtain ⟨e2, h2⟩ := key j q hq
    exact hD.1 i j _ _ h1 h2 e
  · obtain ⟨e1, h1⟩ := key i p hp
    exact hD.2 i (p.1, e1) h1
/-- a contract: with these arguments, over this world, the method returns, with what Po says -/
def zQc (G : zG) (ws : va_W) (Po : Option Value → va_W → Prop) (sz : Nat) : Array Value → State → Outcome → State → Prop := fun _ st oc t => (∃ (v : Option Value) (w : va_W), oc = .returned v ∧ Po v w ∧ va_P G.1 vwCl w t.heap) ∧ va_F (va_A ws sz) st t
def zPc (G : zG) (av : List Value) (ws : va_W) (sz : Nat) : Array Value → State → Prop := va_Pc av (fun U => U.heap.size = sz ∧ va_P G.1 vwCl ws U.heap ∧ va_D (fun _ => True) ws ∧ zE G (va_A ws sz) U U.heap)
def Ct (l : Launch) (G : zG) (y : MethodName) (cc : ByteArray) (nL : Nat) (ret : Option FieldType) (fr lo : Nat) (av : List Value) (ws : va_W) (Po : Option Value → va_W → Prop) : Prop :=
  (∀ v w, Po v w → w.map (fun q => some q.1) = ws.map (fun q => some q.1)) ∧ ∀ sz : Nat, Met l y (Cond.code y cc nL ret :: gW) { frames := fr, cells := 0, slots := 0, locals := lo } (zPc G av ws sz) (zQc G ws Po sz) 0 0 (va_A ws sz)
theorem metOfWF {l : Launch} {y : MethodName} {ws ws' : List Cond} {rm : Room} {Pc : Array Value → State → Prop} {Qc : Array Value → State → Outcome → State → Prop} {mc ms : Nat} {free : Addr → Prop} {cc : ByteArray} {maxL : Nat} {ret : Option FieldType}
    (hy : plainFor y = true) (hw : ws = Cond.code y cc maxL ret :: ws')
    (body : ∀ p e s m args below meth c s₁, BodyLoose p l y (headSpec ws rm) cc maxL ret e s m args below meth c s₁ → c.maxLocals = maxL → Pc args s →
      W p l e (headSpec ws rm).room s m args below meth c s.heap [] 0 0 (MQ below Qc args s mc ms free) (entryFrame m args maxL)) : Met l y ws rm Pc Qc mc ms free := by
  refine MetFree.of_bodySF (code := cc) (maxLocals := maxL) (ret := ret) hy ?_ ?_
  · intro args s m h hn
    obtain ⟨meth, c, h1, h2, h3, h4, h5, h6, -, -⟩ := Cond.code_spec hn (atoms_spec (ws := ws) h _ (by rw [hw]; exact List.mem_cons_self))
    exact ⟨meth, c, h1, h2, h3, h4, h5, h6⟩
  · intro p e s m args below meth c s₁ B hml hP _
    have hh0 : s₁.heap = s.heap := by rw [B.state]; rfl
    obtain ⟨t, a1, o, b1, b2, b3⟩ := body p e s m args below meth c s₁ B hml hP s₁ hh0 (Stand.of_body B)
    exact ⟨t, o, a1, b1, b2, ⟨b3.1, b3.2⟩⟩
theorem Ct.of {l : Launch} {G : zG} {y : MethodName} {cc : ByteArray} {nL : Nat} {ret : Option FieldType} {fr lo : Nat} {av : List Value} {ws : va_W} {Po : Option Value → va_W → Prop} (hy : plainFor y = true) (hn : (lg_sl av).length ≤ nL) (had : ∀ v w, Po v w → w.map (fun q => some q.1) = ws.map (fun q => some q.1))
    (body : ∀ X : zX, zC X G nL cc y.cls ret fr lo → zP X G 0 0 Po → Z X G nL 0 0 ws 0 (lv_args 0 av) []) : Ct l G y cc nL ret fr lo av ws Po := by
  refine ⟨had, fun sz => metOfWF (cc := cc) (maxL := nL) (ret := ret) hy rfl ?_⟩
  intro p e s m args below meth c s₁ B hml hv
  obtain ⟨rfl, hsz, hP, hD0, hE⟩ := hv
  subst hsz
  have hts := atoms_spec (ws := Cond.code y cc nL ret :: gW) B.pre
  have hown : s.vm.findClass y.cls = some m.cls := findClass_of_methodNamed B.named
  have h := body (p, l, e, { frames := fr, cells := 0, slots := 0, locals := lo }, s, m, av.toArray, below, meth, c, MQ below (zQc G ws Po s.heap.size) av.toArray s 0 0 (va_A ws s.heap.size), va_A ws s.heap.size)
    ⟨B.exec, B.bytes, hml, hown, fun w hw => hts w (List.mem_cons_of_mem _ hw), fun q hq => Or.inr hq, hE, B.returns, B.notSynchronized, Nat.le_refl _, Nat.le_refl _⟩
    ⟨zQc G ws Po s.heap.size, rfl, fun v w H locs hp hP1 hS t ht hW => ⟨⟨v, w, rfl, hp, by rw [ht]; exact hP1⟩, hS.F ht⟩⟩
  rw [lg_entry_eq]
  exact h s.heap [] _ hP hD0.self va_S.rf (lv_entry av hn)
/-- what a method's name must be, with so many parameters -/
def zOk (y : MethodName) (n : Nat) : Prop := y.cls ≠ "java/lang/invoke/MethodHandle" ∧ y.cls ≠ "java/lang/invoke/VarHandle" ∧ (parseMethodDescriptor y.desc).map (fun d => d.parameters.length) = some n
section ZK
variable {X : zX} {G : zG} {nL k n fr lo : Nat} {cc : ByteArray} {own : String} {ret : Option FieldType} {ws : va_W} {pc : Nat} {lv : List (Nat × Value)} {rest st : List Value} {Po : Option Value → va_W → Prop}
variable {y : MethodName} {cy : ByteArray} {ny fy ly idx b ci m : Nat} {ry : Option FieldType} {av As : List Value} {wc : va_W} {H : Heap} {locs : List Loc} {ls : Array Slot}
theorem z_after {a : Array Value} (hr : va_Run (xP X) (xL X) (xE X) (xR X) (xS X) (xM X) (xA X) (xB X) (xT X) (xC X) H locs k n 0 0 (F0 (xM X) pc ls st) rest (zQc G wc Po H.size a) (va_A wc H.size)) (hA : ∀ q, (xS X).heap.size ≤ q → xF X q) (had : ∀ v w, Po v w → w.map (fun q => some q.1) = wc.map (fun q => some q.1))
    (hP : va_P G.1 vwCl ws H) (hD : va_D (xF X) ws) (hS : va_S (xF X) (xS X).heap H locs) (hl : lv_has ls nL lv) (is : List Nat) (hC : is.map (fun i => ws[i]?) = wc.map some) (kk : ∀ v w, Po v w → Z X G nL k n (zput ws is w) (pc + 3) lv (zpush v rest)) :
    W (xP X) (xL X) (xE X) (xR X) (xS X) (xM X) (xA X) (xB X) (xT X) (xC X) H locs k n (xQ X) (F0 (xM X) pc ls st) := by
  intro T hT Xs
  obtain ⟨v, st₀, t, T', L, h0, X', hL, e1, e2, ⟨⟨v', w, hv, hp, hb⟩, hz, hk⟩, stp⟩ := hr T hT Xs
  cases hv
  rw [h0] at hz hk
  have hF := va_free (wc := wc) hD hS hA is hC
  have hw := had v w hp
  have hadr : is.map (fun i => (ws[i]?).map (·.1)) = w.map (fun q => some q.1) := by
    rw [hw]
    have h1 := congrArg (List.map (Option.map (fun q : Nat × va_E => q.1))) hC
    simpa [List.map_map, Function.comp_def] using h1
  have hlen : is.length = w.length := by simpa using congrArg List.length hadr
  have at' : ∀ (j : Nat) (q : Nat × va_E), wc[j]? = some q → ∃ i, is[j]? = some i ∧ ws[i]? = some q := by
    intro j q hq
    have h1 : (is.map (fun i => ws[i]?))[j]? = some (some q) := by rw [hC, List.getElem?_map, hq]; rfl
    rw [List.getElem?_map] at h1
    cases hi : is[j]? with
    | none => rw [hi] at h1; cases h1
    | some i => rw [hi] at h1; exact ⟨i, rfl, Option.some.inj h1⟩
  have hPn : va_P G.1 vwCl (zput ws is w) T'.heap := by
    intro i q hq
    rcases zput_get is ws w hlen i q hq with ⟨j, hj⟩ | ⟨h1, h2⟩
    · rw [e1]; exact hb j q hj
    · have hlt := (hP i q h1).lt
      refine (hP i q h1).kept ?_
      rw [e1]
      refine hk q.1 hlt fun hz2 => ?_
      rcases hz2 with ⟨j, e, hj⟩ | hj
      · obtain ⟨i2, g1, g2⟩ := at' j (q.1, e) hj
        have := hD.1 i i2 q (q.1, e) h1 g2 rfl
        subst this
        exact h2 (List.mem_of_getElem? g1)
      · omega
  have hDn : va_D (xF X) (zput ws is w) := va_D_adr hD (zput_adr is ws w hadr)
  obtain ⟨t2, a1, b1⟩ := kk v w hp T'.heap (locs ++ L) ls hPn hDn ⟨Nat.le_trans hS.1 (by rw [e1]; exact hz), fun q h1 h2 => by rw [e1, hk q (Nat.lt_of_lt_of_le h1 hS.1) (fun z => h2 (hF q z))]; exact hS.2.1 q h1 h2, fun q hq => by
      rcases List.mem_append.mp hq with h | h
      · exact hS.2.2 q h
      · exact hF _ (hL q h)⟩ hl T' rfl X'
  rw [zpush_eq] at a1
  exact ⟨t2, stp t2 a1, b1⟩
theorem z_blind {sz : Nat} : FrameBlind (zPc G av wc sz) := fun a U g mk q => ⟨q.1, q.2.1, q.2.2.1, q.2.2.2.1, zE.same (u := U) (U := U.calling g mk a) rfl q.2.2.2.2⟩
theorem z_pre (C : zC X G nL cc own ret fr lo) (hP : va_P G.1 vwCl ws H) (hD : va_D (xF X) ws) (hS : va_S (xF X) (xS X).heap H locs) (is : List Nat) (hnd : va_nd is = true) (hC : is.map (fun i => ws[i]?) = wc.map some) (U : State) (hU : U.heap = H) (hW : (xS X).WarmedH U.vm) : zPc G av wc H.size av.toArray U := by
  refine ⟨rfl, by rw [hU], ?_, (hD.sub is hnd hC).weaken (fun _ _ _ _ => trivial), ?_⟩
  · rw [hU]
    refine hP.sub is ?_
    have h1 := congrArg (List.filterMap id) hC
    simpa [List.filterMap_map, Function.comp_def] using h1
  · rw [hU]
    exact zE.to C.2.2.2.2.2.2.1 hW hS (va_free (wc := wc) hD hS C.2.2.2.2.2.1 is hC)
theorem zroom (h : (rest.map fun v => v.category).sum ≤ 8) : 2 * (F0 (xM X) pc ls st).monitorRoom + (rest.map fun v => v.category).sum ≤ 8 := lv_room h
/-- a static method of the own class, or of another by an ordinary link -/
theorem z_callS (C : zC X G nL cc own ret fr lo) (hM : Ct (xL X) G y cy ny ry fy ly av wc Po) (is : List Nat) (hf : k ≤ (xR X).cells ∧ n ≤ (xR X).slots) (hm : Cond.code y cy ny ry ∈ gW ∧ Cond.static y ∈ gW ∧ Cond.initialized y.cls ∈ gW ∧ zOk y m) (ql : Cond.methodLink own idx y ∈ gW) (hd : decode cc pc = .ok (.invokestatic idx, 3)) (hst : st = av.reverse ++ rest) (hnd : va_nd is = true) (hC : is.map (fun i => ws[i]?) = wc.map some) (hlen : av.length = m) (hrs : (rest.map fun v => v.category).sum ≤ 8) (hR : fy + 1 ≤ fr ∧ 8 + (ny + 11) + ly ≤ lo)
    (kk : ∀ v w, Po v w → Z X G nL k n (zput ws is w) (pc + 3) lv (zpush v rest)) : Z X G nL k n ws pc lv st := fun H locs ls hP hD hS hl =>
  z_after (va_runS (As := av) (rest := rest) ⟨C.1, C.2.1, C.2.2.1, C.2.2.2.1, C.2.2.2.2.1⟩ (hM.2 H.size) ⟨callB_of m C.2.2.2.2.1 (gW_in hm.1) rfl rfl rfl (C.2.2.2.2.1 _ hm.2.2.1) (C.2.2.2.2.1 _ ql) hm.2.2.2 ⟨Nat.le_trans hR.1 C.2.2.2.2.2.2.2.2.2.1, Nat.le_trans hR.2 C.2.2.2.2.2.2.2.2.2.2⟩, C.2.2.2.2.1 _ hm.2.1⟩ ⟨z_blind, fun U hU hW => z_pre C hP hD hS is hnd hC U hU hW⟩ rfl hlen hl.1 hst (zroom hrs) hd hf) C.2.2.2.2.2.1 hM.1 hP hD hS hl is hC kk
/-- a private static method of a nest mate -/
theorem z_callSN {host : String} (C : zC X G nL cc own ret fr lo) (hM : Ct (xL X) G y cy ny ry fy ly av wc Po) (is : List Nat) (hf : k ≤ (xR X).cells ∧ n ≤ (xR X).slots) (hm : Cond.code y cy ny ry ∈ gW ∧ Cond.static y ∈ gW ∧ Cond.initialized y.cls ∈ gW ∧ zOk y m) (ql : Cond.methodLinkNest own idx y host ∈ nW) (hd : decode cc pc = .ok (.invokestatic idx, 3)) (hst : st = av.reverse ++ rest) (hnd : va_nd is = true) (hC : is.map (fun i => ws[i]?) = wc.map some) (hlen : av.length = m) (hrs : (rest.map fun v => v.category).sum ≤ 8) (hR : fy + 1 ≤ fr ∧ 8 + (ny + 11) + ly ≤ lo)
    (kk : ∀ v w, Po v w → Z X G nL k n (zput ws is w) (pc + 3) lv (zpush v rest)) : Z X G nL k n ws pc lv st := fun H locs ls hP hD hS hl =>
  z_after (va_runSN (As := av) (rest := rest) ⟨C.1, C.2.1, C.2.2.1, C.2.2.2.1, C.2.2.2.2.1⟩ (hM.2 H.size) ⟨va_cnB m C.2.2.2.2.1 (gW_in hm.1) rfl rfl rfl (C.2.2.2.2.2.2.1.2.1 _ ql) (C.2.2.2.2.1 _ hm.2.2.1) hm.2.2.2 ⟨Nat.le_trans hR.1 C.2.2.2.2.2.2.2.2.2.1, Nat.le_trans hR.2 C.2.2.2.2.2.2.2.2.2.2⟩, C.2.2.2.2.1 _ hm.2.1, trivial⟩ ⟨z_blind, fun U hU hW => z_pre C hP hD hS is hnd hC U hU hW⟩ rfl hlen hl.1 hst (zroom hrs) hd hf) C.2.2.2.2.2.1 hM.1 hP hD hS hl is hC kk
/-- a method of an object of ours, which stands at place qr of the world -/
theorem z_callV {Cn : String} {T : u_T} {N : Nat} {fs : List Value} (C : zC X G nL cc own ret fr lo) (hM : Ct (xL X) G y cy ny ry fy ly (.ref b :: As) wc Po) (is : List Nat) (hf : k ≤ (xR X).cells ∧ n ≤ (xR X).slots) (hm : Cond.code y cy ny ry ∈ gW ∧ Cond.instanceMethod y ∈ gW ∧ Cond.selects y.cls y y ∈ gW ∧ Cond.initialized y.cls ∈ gW ∧ zOk y m) (ql : Cond.methodLink own idx y ∈ gW) (hd : decode cc pc = .ok (.invokevirtual idx, 3)) (hst : st = As.reverse ++ .ref b :: rest) (hnd : va_nd is = true) (hC : is.map (fun i => ws[i]?) = wc.map some) (qr : Nat) (hre : ws[qr]? = some (b, .inr (ci, fs))) (hrc : vwCl[ci]? = some (Cn, T, N)) (hcn : Cn = y.cls) (hlen : As.length = m) (hrs : (rest.map fun v => v.category).sum ≤ 8) (hR : fy + 1 ≤ fr ∧ 8 + (ny + 11) + ly ≤ lo)
    (kk : ∀ v w, Po v w → Z X G nL k n (zput ws is w) (pc + 3) lv (zpush v rest)) : Z X G nL k n ws pc lv st := fun H locs ls hP hD hS hl =>
  z_after (va_runV (As := As) (rest := rest) (C := y.cls) ⟨C.1, C.2.1, C.2.2.1, C.2.2.2.1, C.2.2.2.2.1⟩ (hM.2 H.size) ⟨callB_of m C.2.2.2.2.1 (gW_in hm.1) rfl rfl rfl (C.2.2.2.2.1 _ hm.2.2.2.1) (C.2.2.2.2.1 _ ql) hm.2.2.2.2 ⟨Nat.le_trans hR.1 C.2.2.2.2.2.2.2.2.2.1, Nat.le_trans hR.2 C.2.2.2.2.2.2.2.2.2.2⟩, C.2.2.2.2.1 _ hm.2.1, C.2.2.2.2.1 _ hm.2.2.1⟩ ⟨z_blind, by subst hcn; exact va_recv C.2.2.2.2.2.2.1.1 hP hrc hre, fun U hU hW => z_pre C hP hD hS is hnd hC U hU hW⟩ rfl hlen hl.1 hst (zroom hrs) hd hf) C.2.2.2.2.2.1 hM.1 hP hD hS hl is hC kk
end ZK
/-- ends of contracts: an int, a long, nothing, a reference; and the world -/
def pI (r : Int32) (w0 : va_W) : Option Value → va_W → Prop := fun v w => v = some (.int r) ∧ w = w0
def pL (r : Int64) (w0 : va_W) : Option Value → va_W → Prop := fun v w => v = some (.long r) ∧ w = w0
def pV (w0 : va_W) : Option Value → va_W → Prop := fun v w => v = none ∧ w = w0
def pR (r : Nat) (w0 : va_W) : Option Value → va_W → Prop := fun v w => v = some (.ref r) ∧ w = w0
theorem pI.ad {r : Int32} {w0 ws : va_W} (h : w0.map (fun q => some q.1) = ws.map (fun q => some q.1)) : ∀ v w, pI r w0 v w → w.map (fun q => some q.1) = ws.map (fun q => some q.1) := fun _ _ q => by rw [q.2]; exact h
theorem pL.ad {r : Int64} {w0 ws : va_W} (h : w0.map (fun q => some q.1) = ws.map (fun q => some q.1)) : ∀ v w, pL r w0 v w → w.map (fun q => some q.1) = ws.map (fun q => some q.1) := fun _ _ q => by rw [q.2]; exact h
theorem pV.ad {w0 ws : va_W} (h : w0.map (fun q => some q.1) = ws.map (fun q => some q.1)) : ∀ v w, pV w0 v w → w.map (fun q => some q.1) = ws.map (fun q => some q.1) := fun _ _ q => by rw [q.2]; exact h
theorem pR.ad {r : Nat} {w0 ws : va_W} (h : w0.map (fun q => some q.1) = ws.map (fun q => some q.1)) : ∀ v w, pR r w0 v w → w.map (fun q => some q.1) = ws.map (fun q => some q.1) := fun _ _ q => by rw [q.2]; exact h
/-- what goes on behind a call whose end is one of those -/
theorem pI.go {r : Int32} {w0 : va_W} {X : zX} {G : zG} {nL k n pc : Nat} {ws ws' : va_W} {is : List Nat} {lv : List (Nat × Value)} {rest : List Value} (hw : zput ws is w0 = ws') (kk : Z X G nL k n ws' pc lv (.int r :: rest)) : ∀ v w, pI r w0 v w → Z X G nL k n (zput ws is w) pc lv (zpush v rest) := by
  rintro _ _ ⟨rfl, rfl⟩
  subst hw
  exact kk
theorem pL.go {r : Int64} {w0 : va_W} {X : zX} {G : zG} {nL k n pc : Nat} {ws ws' : va_W} {is : List Nat} {lv : List (Nat × Value)} {rest : List Value} (hw : zput ws is w0 = ws') (kk : Z X G nL k n ws' pc lv (.long r :: rest)) : ∀ v w, pL r w0 v w → Z X G nL k n (zput ws is w) pc lv (zpush v rest) := by
  rintro _ _ ⟨rfl, rfl⟩
  subst hw
  exact kk
theorem pV.go {w0 : va_W} {X : zX} {G : zG} {nL k n pc : Nat} {ws ws' : va_W} {is : List Nat} {lv : List (Nat × Value)} {rest : List Value} (hw : zput ws is w0 = ws') (kk : Z X G nL k n ws' pc lv rest) : ∀ v w, pV w0 v w → Z X G nL k n (zput ws is w) pc lv (zpush v rest) := by
  rintro _ _ ⟨rfl, rfl⟩
  subst hw
  exact kk
theorem pR.go {r : Nat} {w0 : va_W} {X : zX} {G : zG} {nL k n pc : Nat} {ws ws' : va_W} {is : List Nat} {lv : List (Nat × Value)} {rest : List Value} (hw : zput ws is w0 = ws') (kk : Z X G nL k n ws' pc lv (.ref r :: rest)) : ∀ v w, pR r w0 v w → Z X G nL k n (zput ws is w) pc lv (zpush v rest) := by
  rintro _ _ ⟨rfl, rfl⟩
  subst hw
  exact kk

