/-! ===== the law's level: contracts over an environment K ===== -/
/-- what the law's methods share: literals and statics of the class, the script, the law's own literals, the JDK's rows of digits -/
abbrev LEv : Type := (Nat → Nat) × (Nat → Nat) × Nat × (Nat × Nat × (Nat → Int32)) × (Nat → Nat) × (Nat → Nat) × (Nat × Nat × Nat × Nat)
abbrev LEv.ak (e : LEv) : Nat → Nat := e.1
abbrev LEv.av (e : LEv) : Nat → Nat := e.2.1
abbrev LEv.aS (e : LEv) : Nat := e.2.2.1
abbrev LEv.b (e : LEv) : Nat := e.2.2.2.1.1
abbrev LEv.L (e : LEv) : Nat := e.2.2.2.1.2.1
abbrev LEv.xs (e : LEv) : Nat → Int32 := e.2.2.2.1.2.2
abbrev LEv.tk (e : LEv) : Nat → Nat := e.2.2.2.2.1
abbrev LEv.tv (e : LEv) : Nat → Nat := e.2.2.2.2.2.1
abbrev LEv.aT (e : LEv) : Nat := e.2.2.2.2.2.2.1
abbrev LEv.aO (e : LEv) : Nat := e.2.2.2.2.2.2.2.1
abbrev LEv.qE (e : LEv) : Nat := e.2.2.2.2.2.2.2.2.1
abbrev LEv.vE (e : LEv) : Nat := e.2.2.2.2.2.2.2.2.2
def tIdx : Nat → Nat := fun i => match i with
  | 0 => 284
  | 1 => 289
  | 2 => 291
  | 3 => 297
  | 4 => 299
  | 5 => 301
  | 6 => 335
  | 7 => 337
  | _ => 339
def tTx : Nat → String := fun i => match i with
  | 0 => "@"
  | 1 => " "
  | 2 => "-"
  | 3 => ""
  | 4 => "z"
  | 5 => "!!!!!!!!!"
  | 6 => "w9;r0:3+1;b"
  | 7 => ";t0="
  | _ => ";p"
def tLen : List Nat := [1, 1, 1, 0, 1, 9, 11, 4, 2]
def tByt : List (List Int32) := [[64], [32], [45], [], [122], [33, 33, 33, 33, 33, 33, 33, 33, 33], [119, 57, 59, 114, 48, 58, 51, 43, 49, 59, 98], [59, 116, 48, 61], [59, 112]]
/-- the byte of the tens, of the ones, of a number below 100 -/
def dTens : Nat → Value := fun j => .int (Int32.ofNat (48 + j / 10))
def dOnes : Nat → Value := fun j => .int (Int32.ofNat (48 + j % 10))
/-- what the tables say of the private members of a text in the making -/
def pvL : List MethodName := [yJ5_ensureCapacityInternal_d00df, yJ5_newCapacity_0f7a4, yJ5_putStringAt_47b60, yJ5_inflateIfNeededFor_a7421]
def PV (U : State) : Prop := ∀ y ∈ pvL, va_Nw (.privateMethod y) U
theorem named_vm {U V : State} (h : U.vm = V.vm) : U.methodNamed? = V.methodNamed? := by
  funext y
  simp only [State.methodNamed?, h]
theorem PV.warm {s U : State} (hW : s.WarmedH U.vm) (h : PV s) : PV U := by
  intro y hy
  have h := h y hy
  have hal := hW.alike
  have e1 : U.methodNamed? y = s.methodNamed? y := by rw [named_vm (show U.vm = (s.setVm U.vm).vm from rfl), State.methodNamed?_setVm hal]
  have e2 : U.vm.method? = s.vm.method? := funext hal.method?
  unfold va_Nw at h ⊢
  simp only [Cond.before, Cond.holds, Cond.value] at h ⊢
  rw [e1, e2]
  exact h
theorem PV.same {u U : State} (hv : U.vm = u.vm) (h : PV u) : PV U := fun y hy => va_Nw.same rfl hv.symm (h y hy)
def KC (e : LEv) (A : Nat → Prop) (U : State) (H : Heap) : Prop :=
  (vk_S 9 tLen tByt e.tk e.tv A U H ∧ ∀ i, i < 9 → vk_R RL (tIdx i) (tTx i) (e.tk i) U) ∧
  ((va_Z "java/lang/Integer" "DigitTens" "[B" (.ref e.aT) A U H ∧ va_T .byte e.aT 100 dTens A U H) ∧ (va_Z "java/lang/Integer" "DigitOnes" "[B" (.ref e.aO) A U H ∧ va_T .byte e.aO 100 dOnes A U H)) ∧
  (vk_S 1 [0] [[]] (fun _ => e.qE) (fun _ => e.vE) A U H ∧ vk_R "java/lang/StringLatin1" 151 "" e.qE U ∧ PV U)
def KF (e : LEv) (A : Nat → Prop) (U : State) (H : Heap) : Prop :=
  EV e.ak e.av e.aS A U H ∧ (va_X e.b e.L e.xs U H ∧ ¬ A e.b) ∧ va_AO "BellObservatory$Town" U ∧ KC e A U H
/-- an environment: it outlives what doesn't touch it, fewer cells that may change, a warmer machine -/
def OKK (K : (Nat → Prop) → State → Heap → Prop) : Prop :=
  (∀ A U H H1, K A U H → (∀ a : Nat, a < H.size → ¬ A a → H1[a]? = H[a]?) → K A U H1) ∧ (∀ A B U H, K A U H → (∀ q, B q → A q) → K B U H) ∧
  (∀ A (s U : State) H, s.WarmedH U.vm → K A s H → K A U H) ∧ (∀ A (u U : State) H, u.vm = U.vm → K A u H → K A U H)
theorem va_X.lt {b L : Nat} {xs : Nat → Int32} {U : State} {H : Heap} (h : va_X b L xs U H) : b < H.size := by
  obtain ⟨scr, h1, -⟩ := h
  exact (Array.getElem?_eq_some_iff.mp h1).1
theorem KF_ok (e : LEv) : OKK (KF e) := by
  refine ⟨fun A U H H1 h hq => ?_, fun A B U H h hAB => ?_, fun A s U H hW h => ?_, fun A u U H hv h => ?_⟩
  · obtain ⟨h1, ⟨h2, h3⟩, h4, ⟨h5, h6⟩, ⟨⟨h7, h8⟩, h9, h10⟩, h11, h12⟩ := h
    exact ⟨h1.kept hq, ⟨h2.kept (hq _ h2.lt h3), h3⟩, h4, ⟨h5.kept hq, h6⟩, ⟨⟨h7.kept hq, h8.kept hq⟩, h9.kept hq, h10.kept hq⟩, h11.kept hq, h12⟩
  · obtain ⟨h1, ⟨h2, h3⟩, h4, ⟨h5, h6⟩, ⟨⟨h7, h8⟩, h9, h10⟩, h11, h12⟩ := h
    exact ⟨h1.narrow hAB, ⟨h2, fun q => h3 (hAB _ q)⟩, h4, ⟨h5.narrow hAB, h6⟩, ⟨⟨h7.narrow hAB, h8.narrow hAB⟩, h9.narrow hAB, h10.narrow hAB⟩, h11.narrow hAB, h12⟩
  · obtain ⟨h1, ⟨h2, h3⟩, h4, ⟨h5, h6⟩, ⟨⟨h7, h8⟩, h9, h10⟩, h11, h12⟩ := h
    have ha := hW.alike
    exact ⟨h1.warm hW, ⟨h2.moved ha, h3⟩, h4.moved ha, ⟨vk_S.moved ha h5, fun i hi => (h6 i hi).warm hW⟩, ⟨⟨va_Z.moved ha h7, va_T.moved ha h8⟩, va_Z.moved ha h9, va_T.moved ha h10⟩, vk_S.moved ha h11, h12.1.warm hW, h12.2.warm hW⟩
  · obtain ⟨h1, ⟨h2, h3⟩, h4, ⟨h5, h6⟩, ⟨⟨h7, h8⟩, h9, h10⟩, h11, h12⟩ := h
    have ha : u.vm.Alike U.vm := by rw [hv]; exact Vm.Alike.refl _
    exact ⟨h1.same hv, ⟨h2.moved ha, h3⟩, h4.moved ha, ⟨vk_S.moved ha h5, fun i hi => vk_R.same hv.symm (h6 i hi)⟩, ⟨⟨va_Z.moved ha h7, va_T.moved ha h8⟩, va_Z.moved ha h9, va_T.moved ha h10⟩, vk_S.moved ha h11, vk_R.same hv.symm h12.1, PV.same hv.symm h12.2⟩
/-- a text: a String at q, its bytes at v, n of them, f's; none of it may change -/
def TX (q v n : Nat) (f : Nat → Int32) (A : Nat → Prop) (U : State) (H : Heap) : Prop :=
  va_O "java/lang/String" q A U H ∧ va_OF "java/lang/String" "coder" "B" (.int 0) q A U H ∧ va_OF "java/lang/String" "value" "[B" (.ref v) q A U H ∧ va_T .byte v n (fun j => .int (f j)) A U H
theorem TX_ok (q v n : Nat) (f : Nat → Int32) : OKK (TX q v n f) := by
  refine ⟨fun A U H H1 h hq => ?_, fun A B U H h hAB => ?_, fun A s U H hW h => ?_, fun A u U H hv h => ?_⟩
  · exact ⟨h.1.kept hq, h.2.1.kept hq, h.2.2.1.kept hq, h.2.2.2.kept hq⟩
  · exact ⟨h.1.narrow hAB, h.2.1.narrow hAB, h.2.2.1.narrow hAB, h.2.2.2.narrow hAB⟩
  · exact ⟨va_O.moved hW.alike h.1, va_OF.moved hW.alike h.2.1, va_OF.moved hW.alike h.2.2.1, va_T.moved hW.alike h.2.2.2⟩
  · have ha : u.vm.Alike U.vm := by rw [hv]; exact Vm.Alike.refl _
    exact ⟨va_O.moved ha h.1, va_OF.moved ha h.2.1, va_OF.moved ha h.2.2.1, va_T.moved ha h.2.2.2⟩
theorem OKK.and {K J : (Nat → Prop) → State → Heap → Prop} (h : OKK K) (h' : OKK J) : OKK (fun A U H => K A U H ∧ J A U H) :=
  ⟨fun A U H H1 q hq => ⟨h.1 A U H H1 q.1 hq, h'.1 A U H H1 q.2 hq⟩, fun A B U H q hAB => ⟨h.2.1 A B U H q.1 hAB, h'.2.1 A B U H q.2 hAB⟩, fun A s U H hW q => ⟨h.2.2.1 A s U H hW q.1, h'.2.2.1 A s U H hW q.2⟩, fun A u U H hv q => ⟨h.2.2.2 A u U H hv q.1, h'.2.2.2 A u U H hv q.2⟩⟩
/-- the environment of a method that is handed a text -/
def KT (e : LEv) (q v n : Nat) (f : Nat → Int32) (A : Nat → Prop) (U : State) (H : Heap) : Prop := KF e A U H ∧ TX q v n f A U H
theorem KT_ok (e : LEv) (q v n : Nat) (f : Nat → Int32) : OKK (KT e q v n f) := (KF_ok e).and (TX_ok q v n f)
def gP (K : (Nat → Prop) → State → Heap → Prop) (D : va_G) (g : Nat → ClassId) (as : List Value) (ws : va_W) (sz : Nat) : Array Value → State → Prop := va_Pc as (fun U => U.heap.size = sz ∧ va_P D vwCl ws U.heap ∧ KK D g U ∧ va_D (fun _ => True) ws ∧ K (va_A ws sz) U U.heap)
/-- the contract of a method of the law's level: it returns v, the world ws becomes ws' -/
abbrev MG (l : Launch) (y : MethodName) (cd : Cond) (rm : Room) (K : (Nat → Prop) → State → Heap → Prop) (D : va_G) (g : Nat → ClassId) (as : List Value) (ws : va_W) (v : Option Value) (ws' : va_W) (mc ms : Nat) : Prop := ∀ sz : Nat, Met l y (wA cd) rm (gP K D g as ws sz) (exQ D v ws' (va_A ws sz) 0) mc ms (va_A ws sz)
theorem gP_blind {K : (Nat → Prop) → State → Heap → Prop} (hOK : OKK K) {D : va_G} {g : Nat → ClassId} {as : List Value} {ws : va_W} {sz : Nat} : FrameBlind (gP K D g as ws sz) := fun a U f mk q => ⟨q.1, q.2.1, q.2.2.1, KK.same (s := U) (U := U.calling f mk a) rfl q.2.2.2.1, q.2.2.2.2.1, hOK.2.2.2 _ U (U.calling f mk a) _ rfl q.2.2.2.2.2⟩
theorem Met.ofWH {l : Launch} {y : MethodName} {ws ws' : List Cond} {rm : Room} {Pc : Array Value → State → Prop} {Qc : Array Value → State → Outcome → State → Prop} {mc ms : Nat} {free : Addr → Prop} {cc : ByteArray} {maxL : Nat} {ret : Option FieldType} {hh : List (Nat × Nat × Nat × Nat)}
    (hy : plainName y.cls = true) (hw : ws = Cond.codeWith y cc maxL ret hh :: ws')
    (body : ∀ p e s m args below meth c s₁, BodyLoose p l y (headSpec ws rm) cc maxL ret e s m args below meth c s₁ → c.maxLocals = maxL → c.exceptionTable.toList = tableOf hh → Pc args s →
      W p l e (headSpec ws rm).room s m args below meth c s.heap [] 0 0 (MQ below Qc args s mc ms free) (entryFrame m args maxL)) : Met l y ws rm Pc Qc mc ms free := by
  refine MetFree.of_bodyS (code := cc) (maxLocals := maxL) (ret := ret) hy ?_ ?_
  · intro args s m h hn
    obtain ⟨m9, meth, c, hn9, h1, h2, h3, h4, -, h5, h6, -⟩ := Cond.codeWith_spec (atoms_spec (ws := ws) h _ (by rw [hw]; exact List.mem_cons_self))
    cases Option.some.inj (hn9.symm.trans hn)
    exact ⟨meth, c, h1, h2, h3, h4, h5, h6⟩
  · intro p e s m args below meth c s₁ B hml hP _
    have hh0 : s₁.heap = s.heap := by rw [B.state]; rfl
    have ht := vx_table (x := y) B (atoms_spec (ws := ws) B.pre _ (by rw [hw]; exact List.mem_cons_self))
    obtain ⟨t, a1, o, b1, b2, b3⟩ := body p e s m args below meth c s₁ B hml ht hP s₁ hh0 (Stand.of_body B)
    exact ⟨t, o, a1, b1, b2, ⟨b3.1, b3.2⟩⟩
section ZL
variable {p : Program} {l : Launch} {e : Env} {R : Room} {s : State} {m : MethodId} {args : Array Value} {below : List Frame} {meth : Method} {c : Code} {Q : State → Prop} {nL cells slots mc ms : Nat} {I : Heap → List Loc → Prop} {pc : Nat} {lv lv' : List (Nat × Value)} {st rest : List Value} {cc : ByteArray} {own : String} {D : va_G} {g : Nat → ClassId} {ws ws' : va_W} {A : Nat → Prop} {ak av : Nat → Nat} {aS : Nat} {v : Option Value}
theorem z_lret {v : Int32} (X : CX p s m args meth c cc nL own D g) (hQ : Q = MQ below (exQ D (some (.int v)) ws A 0) args s mc ms A) (hc : cells ≤ mc) (hs : slots ≤ ms) (hr : meth.sig.returnType = some .int) (d : decode cc pc = .ok (.ireturn, 1)) : Z p l e R s m args below meth c Q nL cells slots (IW D A s ws) pc lv [.int v] := by
  subst hQ
  intro H locs ls hI hl
  refine W.widen hc hs ?_
  exact W.iret X.1.1 X.1.2.1 hr (fun t ht hW => ⟨rfl, rfl, by rw [ht]; exact hI.1, hI.2.2.F ht⟩) hI.2.2.2.2 d X.2.1
theorem z_catch {name E : String} (X : CX p s m args meth c cc nL own D g) (pre : List ExceptionTableEntry) (x : ExceptionTableEntry) (suf : List ExceptionTableEntry) (hsplit : c.exceptionTable.toList = pre ++ x :: suf) (hpass : ∀ z ∈ pre, z.catchType ≠ 0 ∧ ∃ nm : String, Cond.classLink own z.catchType nm ∈ lw_all ∧ va_Nc E nm s) (hx : covers x pc = true) (h0 : x.catchType ≠ 0) (hlink : Cond.classLink own x.catchType name ∈ lw_all) (hcast : Cond.castable E name ∈ lw_nst) (kk : ∀ q : Nat, Z p l e R s m args below meth c Q nL cells slots I x.handlerPc lv [.ref q]) : ZT p l e R s m args below meth c Q nL cells slots I pc lv st E := fun H locs ls q ce hI hl h1 h2 h3 =>
  vx_catch X.1.2.2.2.1 pre x suf hsplit (fun z hz => Or.inr ⟨(hpass z hz).1, (hpass z hz).2.choose, X.1.2.2.2.2 _ (hpass z hz).2.choose_spec.1, (hpass z hz).2.choose_spec.2⟩) hx h0 (X.1.2.2.2.2 _ hlink) (va_Nw.use rfl (X.2.2.2 _ hcast)) h1 h2 h3 (kk q H locs ls hI hl)
theorem z_i2l {x : Int32} (X : CX p s m args meth c cc nL own D g) (d : decode cc pc = .ok (.i2l, 1)) (kk : Z p l e R s m args below meth c Q nL cells slots I (pc + 1) lv (.long x.toInt64 :: st)) : Z p l e R s m args below meth c Q nL cells slots I pc lv (.int x :: st) := fun H locs ls hI hl => lv_i2l X.1.1 X.1.2.1 d rfl (kk H locs ls hI hl)
theorem z_lconst {n : Fin 2} (v : Int64) (X : CX p s m args meth c cc nL own D g) (d : decode cc pc = .ok (.lconst n, 1)) (hv : Int64.ofNat (n : Nat) = v) (kk : Z p l e R s m args below meth c Q nL cells slots I (pc + 1) lv (.long v :: st)) : Z p l e R s m args below meth c Q nL cells slots I pc lv st := fun H locs ls hI hl => lv_lconst X.1.1 X.1.2.1 d hv (kk H locs ls hI hl)
theorem lb_callS {T : State} {H : Heap} {locs : List Loc} (X : Stand p l e R s m args below meth c T locs cells slots) (hexec : p.tables.exec = Jvm.exec) {own : String} {index : Nat} {y : MethodName} {bytes : ByteArray} {maxL : Nat} {ret : Option FieldType} {hh : List (Nat × Nat × Nat × Nat)}
    (hown : s.vm.findClass own = some m.cls) (hlink : (Cond.methodLink own index y).before args s = true) (hstat : (Cond.static y).before args s = true) (hinit : (Cond.initialized y.cls).before args s = true)
    (hcode : (Cond.codeWith y bytes maxL ret hh).before args s = true) (hy : y.cls ≠ "java/lang/invoke/MethodHandle" ∧ y.cls ≠ "java/lang/invoke/VarHandle")
    {W : Nat} {Pre : Pt → Array Value → Prop} {Post : Pt → Array Value → Option Value → Pt → Prop} (hK : Back l R p e below s args y 3 W Pre Post)
    {gf : JFrame} (hg : gf.method = m) (hsize : gf.locals.size = c.maxLocals) {argsL rest : List Value} (hlen : ∀ sig, parseMethodDescriptor y.desc = some sig → argsL.length = sig.parameters.length)
    (hstack : gf.stack = argsL.reverse ++ rest) (hW : 2 * gf.monitorRoom + (rest.map fun v => v.category).sum ≤ W) (hdg : decode c.code gf.pc = .ok (.invokestatic index, 3))
    (hpre : ∀ vm₁, s.WarmedH vm₁ → Pre ⟨T.setVm vm₁, locs, cells, slots⟩ argsL.toArray) :
    ∃ (v : Option Value) (vm₁ : Vm) (B : Pt), s.WarmedH vm₁ ∧ Stand p l e R s m args below meth c B.U B.locs B.cells B.slots ∧ Post ⟨T.setVm vm₁, locs, cells, slots⟩ argsL.toArray v B ∧
      ∀ target, Steps p.tables e below (B.U.setTop { gf with pc := gf.pc + 3, stack := v.toList ++ rest }) target → Steps p.tables e below (T.setTop gf) target := by
  obtain ⟨mk, methM, cM, hnamed, hmethM, -, -, -, -, -, -, hsigM⟩ := Cond.codeWith_spec hcode
  have hstatic : methM.isStatic = true := Cond.static_spec hnamed hmethM hstat
  obtain ⟨kP, hkP, -⟩ := className_of_methodNamed hnamed
  have hinitP : kP.init = .initialized := Cond.initialized_spec (findClass_of_methodNamed hnamed) hkP hinit
  obtain ⟨vm₁, X₁, hstep₁⟩ := X.invokestatic hexec hown hlink hnamed hmethM hstatic hkP hinitP hy (g := gf) hg (argsL := argsL) (rest := rest) (hlen _ hsigM) hstack hdg
  obtain ⟨v, B, X', hpost, hsteps⟩ := hK m meth c ⟨T.setVm vm₁, locs, cells, slots⟩ { gf with stack := rest } (.invokestatic index) mk argsL.toArray X₁ hg hsize hdg hW (X₁.named hnamed) (hpre vm₁ X₁.warmed)
  exact ⟨v, vm₁, B, X₁.warmed, X', hpost, fun target h => hstep₁ _ fun acts => by rw [doInvoke_state]; exact hsteps.trans h⟩
theorem lb_runS {H : Heap} {locs : List Loc} {y : MethodName} {bytes : ByteArray} {maxL n index : Nat} {ret : Option FieldType} {hh : List (Nat × Nat × Nat × Nat)} {wds : List Cond} {rm : Room} {Pc : Array Value → State → Prop} {Qc : Array Value → State → Outcome → State → Prop} {free : Addr → Prop} {Ts : List Cond} {As : List Value} {gf : JFrame}
    (S : CallFix p m c cc nL s args Ts own) (hM : Met l y wds rm Pc Qc mc ms free) (hR : rm.cells = mc ∧ rm.slots = ms ∧ rm.frames + 1 ≤ R.frames ∧ 8 + (maxL + 11) + rm.locals ≤ R.locals)
    (hws : ∀ w ∈ wds, ∀ (a' : Array Value) (U : State), s.WarmedH U.vm → w.before a' U = true) (hcw : Cond.codeWith y bytes maxL ret hh ∈ wds) (hcode : (Cond.codeWith y bytes maxL ret hh).before args s = true) (hini : (Cond.initialized y.cls).before args s = true)
    (hy : y.cls ≠ "java/lang/invoke/MethodHandle" ∧ y.cls ≠ "java/lang/invoke/VarHandle") (hlen : (parseMethodDescriptor y.desc).map (fun d => d.parameters.length) = some n) (hl : (Cond.methodLink own index y).before args s = true) (hstt : (Cond.static y).before args s = true) (hp : PreS s H Pc As)
    (hg : gf.method = m) (hn : As.length = n) (hsize : gf.locals.size = nL) (hstack : gf.stack = As.reverse ++ rest) (hW : 2 * gf.monitorRoom + (rest.map fun v => v.category).sum ≤ 8) (hdg : decode cc gf.pc = .ok (.invokestatic index, 3)) (hf : cells + mc ≤ R.cells ∧ slots + ms ≤ R.slots) :
    va_Run p l e R s m args below meth c H locs cells slots mc ms gf rest (Qc As.toArray) (free) := by
  have hK : Back l R p e below s args y 3 8 (PreOf R mc ms Pc) (PostOf Qc mc ms free) := va_backW (hh := hh) (bytes := bytes) (maxL := maxL) (ret := ret) hM hp.1 hR.1 hR.2.1 hR.2.2.1 hR.2.2.2 hws hcw (fun a' U hW => word_at hW (Or.inl (by first | rfl | simp [Cond.onTables, Cond.keeps, Cond.steady])) hini)
  obtain ⟨hx, hb, hml, ho, -⟩ := S
  intro T hT X
  obtain ⟨v, vm₁, ⟨U', l2, c2, s2⟩, hW₁, X', ⟨g', mk, t, L, e1, e2, hq, h1, hL, h2, h3⟩, st⟩ := lb_callS (H := H) X hx (hh := hh) (bytes := bytes) (maxL := maxL) (ret := ret) ho hl hstt hini hcode hy hK hg (hsize.trans hml.symm) (argsL := As) (rest := rest) (fun sig h => by rw [h] at hlen; exact hn.trans (Option.some.inj hlen).symm) hstack hW (by rw [hb]; exact hdg)
    (fun vm₁ hW₁ => ⟨hf.1, hf.2, hp.2 (T.setVm vm₁) hT hW₁⟩)
  dsimp only [Pt.U, Pt.locs, Pt.cells, Pt.slots] at X' e1 e2 h1 h2 h3 st
  subst h1; subst h2; subst h3
  exact ⟨v, (T.setVm vm₁).calling g' mk As.toArray, t, U', L, hT, X', hL, e1, e2, hq, st⟩
theorem ml_run {pc : Nat} {ls : Array Slot} {H : Heap} {locs : List Loc} {st0 : List Value} {a : Array Value} {wc wc' : va_W} {mc1 ms1 : Nat} (h1 : bkc ws wc) (h2 : bk ws ws' wc wc') (hA : ∀ q, s.heap.size ≤ q → A q) (hI : IW D A s ws H locs) (hr : va_Run p l e R s m args below meth c H locs cells slots mc1 ms1 (F0 m pc ls st0) rest (exQ D v wc' (va_A wc H.size) 0 a) (va_A wc H.size))
    (kk : ∀ H1 locs1, IW D A s ws' H1 locs1 → W p l e R s m args below meth c H1 locs1 (cells + mc1) (slots + ms1) Q (F0 m (pc + 3) ls (v.toList ++ rest))) : W p l e R s m args below meth c H locs cells slots Q (F0 m pc ls st0) := by
  intro T hT X
  have hAin : ∀ q, va_A wc H.size q → A q := by
    intro q h
    rcases h with ⟨k, e, h⟩ | h
    · exact (h1 D A H hI.1 hI.2.1).2.2 k _ h
    · exact hA q (Nat.le_trans hI.2.2.1 h)
  obtain ⟨v2, st₀, t, T', L, h0, X', hL, e1, e2, ⟨hx, hv, hP, hF⟩, st⟩ := hr T hT X
  have hv2 : v2 = v := by cases hv; rfl
  subst hv2
  obtain ⟨k1, k2, k3⟩ := vx_keep h0 e1 hI.2.2 (fun q _ h => hAin q h) hAin hL hF
  obtain ⟨g1, g2⟩ := h2 D A H T'.heap hI.1 hI.2.1 (fun q hq hn => k2 q hq (fun z => by
    rcases z with z | z
    · exact hn z
    · omega)) (by rw [e1]; exact hP)
  obtain ⟨t2, a1, b1⟩ := kk T'.heap (locs ++ L) ⟨g1, g2, k3⟩ T' rfl X'
  exact ⟨t2, st t2 a1, b1⟩
theorem z_rgV {y : MethodName} {bytes : ByteArray} {maxL index n b q0 ci : Nat} {ret : Option FieldType} {rm : Room} {As : List Value} {wc : va_W} {C : vw_C} {fs : List Value} (X : CX p s m args meth c cc nL own D g) (K : cardV y (Cond.code y bytes maxL ret) n) (hM : MR l y (Cond.code y bytes maxL ret) rm D g (.ref b :: As) wc v) (hq : Cond.methodLink own index y ∈ lw_all) (d : decode cc pc = .ok (.invokevirtual index, 3)) (h1 : bkc ws wc) (hc : vwCl[ci]? = some C) (hC : C.1 = y.cls) (he : ws[q0]? = some (b, .inr (ci, fs))) (hst : st = As.reverse ++ .ref b :: rest) (hn : As.length = n) (hR : fitsIn rm R maxL 0 0 cells slots) (hW : (rest.map fun v => v.category).sum ≤ 8) (kk : Z p l e R s m args below meth c Q nL cells slots (IW D A s ws) (pc + 3) lv (v.toList ++ rest)) : Z p l e R s m args below meth c Q nL cells slots (IW D A s ws) pc lv st := fun H locs ls hI hl =>
  rd_run (va_runV X.1 hM (cwV_of X K hq hR) ⟨rdP_blind, (by rw [← hC]; exact va_recv X.2.2.1 hI.1 hc he), (rdPS X.2.2 (h1 D A H hI.1 hI.2.1).1).2⟩ rfl hn hl.1 hst (lv_room hW) d ⟨hR.2.2.2.2.1, hR.2.2.2.2.2⟩) (kk H locs ls hI hl)
end ZL
section ZG
variable {p : Program} {l : Launch} {e : Env} {R : Room} {s : State} {m : MethodId} {args : Array Value} {below : List Frame} {meth : Method} {c : Code} {Q : State → Prop} {nL cells slots mc ms : Nat} {I : Heap → List Loc → Prop} {pc : Nat} {lv lv' : List (Nat × Value)} {st rest : List Value} {cc : ByteArray} {own : String} {D : va_G} {g : Nat → ClassId} {ws ws' : va_W} {A : Nat → Prop} {v : Option Value} {K K0 : (Nat → Prop) → State → Heap → Prop}
theorem z_g_start {y : MethodName} {cc : ByteArray} {maxL : Nat} {ret : Option FieldType} {rm : Room} {as : List Value} (hy : plainName y.cls = true) (hlen : (lg_sl as).length ≤ maxL)
    (body : ∀ (p : Program) (e : Env) (s : State) (m : MethodId) (args : Array Value) (below : List Frame) (meth : Method) (c : Code) (Q : State → Prop) (A : Nat → Prop), CX p s m args meth c cc maxL y.cls D g → meth.sig.returnType = ret → K A s s.heap → (∀ q, s.heap.size ≤ q → A q) → Q = MQ below (exQ D v ws' A 0) args s mc ms A → Z p l e rm s m args below meth c Q maxL 0 0 (IW D A s ws) 0 (lv_args 0 as) []) : MG l y (Cond.code y cc maxL ret) rm K D g as ws v ws' mc ms := by
  intro sz
  refine Met.ofW (cc := cc) (maxL := maxL) (ret := ret) hy rfl ?_
  intro p e s m args below meth c s₁ B hml hv
  obtain ⟨rfl, hsz, hP, hK, hD, hE⟩ := hv
  have hts := atoms_spec (ws := wA (Cond.code y cc maxL ret)) B.pre
  have hts : ∀ w ∈ lw_all, w.before as.toArray s = true := fun w h => hts w (List.mem_cons_of_mem _ h)
  have hl := lv_entry as (n := maxL) hlen
  rw [lg_entry_eq]
  exact body p e s m _ below meth c _ _ ⟨⟨B.exec, B.bytes, hml, findClass_of_methodNamed B.named, hts⟩, B.notSynchronized, hK⟩ B.returns hE (fun q h => Or.inr (by rw [← hsz]; exact h)) rfl s.heap [] _ ⟨hP, hD.self, va_S.rf⟩ hl
theorem z_gh_start {y : MethodName} {cc : ByteArray} {maxL : Nat} {ret : Option FieldType} {rm : Room} {as : List Value} {hh : List (Nat × Nat × Nat × Nat)} (hy : plainName y.cls = true) (hlen : (lg_sl as).length ≤ maxL)
    (body : ∀ (p : Program) (e : Env) (s : State) (m : MethodId) (args : Array Value) (below : List Frame) (meth : Method) (c : Code) (Q : State → Prop) (A : Nat → Prop), CX p s m args meth c cc maxL y.cls D g → meth.sig.returnType = ret → K A s s.heap → (∀ q, s.heap.size ≤ q → A q) → c.exceptionTable.toList = tableOf hh → Q = MQ below (exQ D v ws' A 0) args s mc ms A → Z p l e rm s m args below meth c Q maxL 0 0 (IW D A s ws) 0 (lv_args 0 as) []) : MG l y (Cond.codeWith y cc maxL ret hh) rm K D g as ws v ws' mc ms := by
  intro sz
  refine Met.ofWH (cc := cc) (maxL := maxL) (ret := ret) hy rfl ?_
  intro p e s m args below meth c s₁ B hml hno hv
  obtain ⟨rfl, hsz, hP, hK, hD, hE⟩ := hv
  have hts := atoms_spec (ws := wA (Cond.codeWith y cc maxL ret hh)) B.pre
  have hts : ∀ w ∈ lw_all, w.before as.toArray s = true := fun w h => hts w (List.mem_cons_of_mem _ h)
  have hl := lv_entry as (n := maxL) hlen
  rw [lg_entry_eq]
  exact body p e s m _ below meth c _ _ ⟨⟨B.exec, B.bytes, hml, findClass_of_methodNamed B.named, hts⟩, B.notSynchronized, hK⟩ B.returns hE (fun q h => Or.inr (by rw [← hsz]; exact h)) hno rfl s.heap [] _ ⟨hP, hD.self, va_S.rf⟩ hl
/-- an environment, where a callee that works on wc begins -/
theorem kc_of {wc : va_W} (hOK : OKK K0) (himp : ∀ A U H, K0 A U H → K A U H) (hK0 : K0 A s s.heap) (hA : ∀ q, s.heap.size ≤ q → A q) (h1 : bkc ws wc) : ∀ H locs, IW D A s ws H locs → K (va_A wc H.size) s H := fun H locs hI => himp _ _ _ (hOK.2.1 _ _ _ _ (hOK.1 _ _ _ _ hK0 hI.2.2.2.1) (fun q h => by
  obtain ⟨g1, g2⟩ := h1 D A H hI.1 hI.2.1
  rcases h with ⟨k, e, h⟩ | h
  · exact g2.2 k _ h
  · exact hA q (Nat.le_trans hI.2.2.1 h)))
theorem gPS {as : List Value} {wc : va_W} {H : Heap} {locs : List Loc} (hOK : OKK K) (hK : KK D g s) (hE : K (va_A wc H.size) s H) (h1 : bkc ws wc) (hI : IW D A s ws H locs) : PreS s H (gP K D g as wc H.size) as := by
  refine ⟨gP_blind hOK, fun U hU hW => ?_⟩
  obtain ⟨g1, g2⟩ := h1 D A H hI.1 hI.2.1
  refine ⟨rfl, by rw [hU], by rw [hU]; exact g1, hK.warm hW, g2.weaken (fun _ _ _ _ => trivial), ?_⟩
  rw [hU]
  exact hOK.2.2.1 _ s U _ hW hE
theorem z_gS {y : MethodName} {bytes : ByteArray} {maxL index n : Nat} {ret : Option FieldType} {rm : Room} {As : List Value} {wc wc' : va_W} {mc1 ms1 : Nat} (X : CX p s m args meth c cc nL own D g) (hOK : OKK K) (hKc : ∀ H locs, IW D A s ws H locs → K (va_A wc H.size) s H) (hA : ∀ q, s.heap.size ≤ q → A q) (C : cardS y (Cond.code y bytes maxL ret) n) (hM : MG l y (Cond.code y bytes maxL ret) rm K D g As wc v wc' mc1 ms1) (hq : Cond.methodLink own index y ∈ lw_all) (d : decode cc pc = .ok (.invokestatic index, 3)) (h1 : bkc ws wc) (h2 : bk ws ws' wc wc') (hst : st = As.reverse ++ rest) (hn : As.length = n) (hR : fitsIn rm R maxL mc1 ms1 cells slots) (hW : (rest.map fun v => v.category).sum ≤ 8) (kk : Z p l e R s m args below meth c Q nL (cells + mc1) (slots + ms1) (IW D A s ws') (pc + 3) lv (v.toList ++ rest)) : Z p l e R s m args below meth c Q nL cells slots (IW D A s ws) pc lv st := fun H locs ls hI hl =>
  ml_run h1 h2 hA hI (va_runS X.1 (hM H.size) (cwS_of X C hq hR) (gPS hOK X.2.2 (hKc H locs hI) h1 hI) rfl hn hl.1 hst (lv_room hW) d ⟨hR.2.2.2.2.1, hR.2.2.2.2.2⟩) (fun H1 locs1 hI1 => kk H1 locs1 ls hI1 hl)
theorem z_gSH {y : MethodName} {bytes : ByteArray} {maxL index n : Nat} {ret : Option FieldType} {rm : Room} {hh : List (Nat × Nat × Nat × Nat)} {As : List Value} {wc wc' : va_W} {mc1 ms1 : Nat} (X : CX p s m args meth c cc nL own D g) (hOK : OKK K) (hKc : ∀ H locs, IW D A s ws H locs → K (va_A wc H.size) s H) (hA : ∀ q, s.heap.size ≤ q → A q) (C : cardS y (Cond.codeWith y bytes maxL ret hh) n) (hM : MG l y (Cond.codeWith y bytes maxL ret hh) rm K D g As wc v wc' mc1 ms1) (hq : Cond.methodLink own index y ∈ lw_all) (d : decode cc pc = .ok (.invokestatic index, 3)) (h1 : bkc ws wc) (h2 : bk ws ws' wc wc') (hst : st = As.reverse ++ rest) (hn : As.length = n) (hR : fitsIn rm R maxL mc1 ms1 cells slots) (hW : (rest.map fun v => v.category).sum ≤ 8) (kk : Z p l e R s m args below meth c Q nL (cells + mc1) (slots + ms1) (IW D A s ws') (pc + 3) lv (v.toList ++ rest)) : Z p l e R s m args below meth c Q nL cells slots (IW D A s ws) pc lv st := fun H locs ls hI hl =>
  ml_run h1 h2 hA hI (lb_runS (hh := hh) (bytes := bytes) (maxL := maxL) (ret := ret) X.1 (hM H.size) ⟨hR.2.2.1, hR.2.2.2.1, hR.1, hR.2.1⟩ (pay_in X.1.2.2.2.2 (wA_G C.2.1)) List.mem_cons_self (X.1.2.2.2.2 _ C.2.1) (X.1.2.2.2.2 _ C.2.2.1) ⟨C.2.2.2.1, C.2.2.2.2.1⟩ C.2.2.2.2.2 (X.1.2.2.2.2 _ hq) (X.1.2.2.2.2 _ C.1) (gPS hOK X.2.2 (hKc H locs hI) h1 hI) rfl hn hl.1 hst (lv_room hW) d ⟨hR.2.2.2.2.1, hR.2.2.2.2.2⟩) (fun H1 locs1 hI1 => kk H1 locs1 ls hI1 hl)
theorem z_lzret {v : Int32} {ty : FieldType} (X : CX p s m args meth c cc nL own D g) (hQ : Q = MQ below (exQ D (some (.int v)) ws A 0) args s mc ms A) (hc : cells ≤ mc) (hs : slots ≤ ms) (hr : meth.sig.returnType = some ty) (d : decode cc pc = .ok (.ireturn, 1)) (hn : narrow ty (.int v) = .int v) : Z p l e R s m args below meth c Q nL cells slots (IW D A s ws) pc lv [.int v] := by
  subst hQ
  intro H locs ls hI hl
  refine W.widen hc hs ?_
  exact W.zret X.1.1 X.1.2.1 hr hn (fun t ht hW => ⟨rfl, rfl, by rw [ht]; exact hI.1, hI.2.2.F ht⟩) hI.2.2.2.2 d X.2.1
theorem z_llret {v : Int64} (X : CX p s m args meth c cc nL own D g) (hQ : Q = MQ below (exQ D (some (.long v)) ws A 0) args s mc ms A) (hc : cells ≤ mc) (hs : slots ≤ ms) (hr : meth.sig.returnType = some .long) (d : decode cc pc = .ok (.lreturn, 1)) : Z p l e R s m args below meth c Q nL cells slots (IW D A s ws) pc lv [.long v] := by
  subst hQ
  intro H locs ls hI hl
  refine W.widen hc hs ?_
  exact W.lret X.1.1 X.1.2.1 hr (fun t ht hW => ⟨rfl, rfl, by rw [ht]; exact hI.1, hI.2.2.F ht⟩) hI.2.2.2.2 d X.2.1
/-- the shift of Java's '>>>' -/
def ushr (x y : Int32) : Int32 := (x.toUInt32 >>> (y.toUInt32 &&& Int32.toUInt32 31)).toInt32
theorem z_iushr {x y : Int32} (X : CX p s m args meth c cc nL own D g) (d : decode cc pc = .ok (.iushr, 1)) (kk : Z p l e R s m args below meth c Q nL cells slots I (pc + 1) lv (.int (ushr x y) :: st)) : Z p l e R s m args below meth c Q nL cells slots I pc lv (.int y :: .int x :: st) := fun H locs ls hI hl => lv_iushr X.1.1 X.1.2.1 d rfl (kk H locs ls hI hl)
theorem z_ldcI {index : Nat} (v : Int32) (X : CX p s m args meth c cc nL own D g) (hq : Cond.constant own index v ∈ lw_all) (d : decode cc pc = .ok (.ldc index, 2)) (kk : Z p l e R s m args below meth c Q nL cells slots I (pc + 2) lv (.int v :: st)) : Z p l e R s m args below meth c Q nL cells slots I pc lv st := fun H locs ls hI hl => lv_ldc X.1.1 X.1.2.1 X.1.2.2.2.1 (X.1.2.2.2.2 _ hq) d (kk H locs ls hI hl)
theorem z_ldcJ {index : Nat} (v : Int64) (X : CX p s m args meth c cc nL own D g) (hq : Cond.constantLong own index v ∈ lw_all) (d : decode cc pc = .ok (.ldc2_w index, 3)) (kk : Z p l e R s m args below meth c Q nL cells slots I (pc + 3) lv (.long v :: st)) : Z p l e R s m args below meth c Q nL cells slots I pc lv st := fun H locs ls hI hl => lv_ldc2 X.1.1 X.1.2.1 X.1.2.2.2.1 (X.1.2.2.2.2 _ hq) d (kk H locs ls hI hl)
theorem z_ldcT {e9 : LEv} {si index : Nat} (X : CX p s m args meth c cc nL RL D g) (hK : KF e9 A s s.heap) (hi : si < 9) (hx : tIdx si = index) (dd : decode cc pc = .ok (.ldc_w index, 3)) (kk : Z p l e R s m args below meth c Q nL cells slots I (pc + 3) lv (.ref (e9.tk si) :: st)) : Z p l e R s m args below meth c Q nL cells slots I pc lv st := fun H locs ls hI hl => by
  have h := hK.2.2.2.1.2 si hi
  rw [hx] at h
  intro T hT X9
  obtain ⟨t, a1, b1⟩ := kk H locs ls hI hl T hT X9
  exact ⟨t, X9.ldcStringW X.1.1 X.1.2.2.2.1 (text := tTx si) (a := e9.tk si) h.1 h.2 (g := F0 m pc ls st) rfl (by rw [X.1.2.1]; exact dd) t a1, b1⟩
theorem z_zald {α : Type} {q0 : Nat} {n : Nat} {f : Nat → Int32} {a : Nat} {i : Int32} {F : Option α} {o : α} (X : CX p s m args meth c cc nL own D g) (hI0 : HasP D ws I) (d : decode cc pc = .ok (.baload, 1)) (ha : ws[q0]? = some (a, .inl (g 3, n, .inl f))) (h : grd (inb i n) F = some o) (kk : F = some o → Z p l e R s m args below meth c Q nL cells slots I (pc + 1) lv (.int (f i.toNatClampNeg) :: st)) : Z p l e R s m args below meth c Q nL cells slots I pc lv (.int i :: .ref a :: st) := fun H locs ls hI hl =>
  va_zald X.1.1 X.1.2.1 X.2.2.1 (hI0 H locs hI) q0 3 ha rfl (vp_of_inb (grd_p h).1) d (kk (grd_p h).2 H locs ls hI hl)
theorem z_zast {α : Type} {q0 : Nat} {n : Nat} {f : Nat → Int32} {a : Nat} {i x : Int32} {F : Option α} {o : α} (X : CX p s m args meth c cc nL own D g) (d : decode cc pc = .ok (.bastore, 1)) (ha : ws[q0]? = some (a, .inl (g 3, n, .inl f))) (h : grd (inb i n) F = some o) (hw : ws.set q0 (a, .inl (g 3, n, .inl (upd f i.toNatClampNeg (vp_nar .boolean x)))) = ws') (kk : F = some o → Z p l e R s m args below meth c Q nL cells slots (IW D A s ws') (pc + 1) lv st) : Z p l e R s m args below meth c Q nL cells slots (IW D A s ws) pc lv (.int x :: .int i :: .ref a :: st) := fun H locs ls hI hl =>
  va_zast X.1.1 X.1.2.1 X.2.2.1 hI.1 hI.2.1 hI.2.2 q0 3 ha rfl (vp_of_inb (grd_p h).1) d (fun H1 locs1 hP hD hS => kk (grd_p h).2 H1 locs1 ls (by rw [← hw]; exact ⟨hP, hD, hS⟩) hl)
theorem z_lastG {α : Type} {q0 n a : Nat} {f : Nat → Int64} {i : Int32} {x : Int64} {F : Option α} {o : α} (X : CX p s m args meth c cc nL own D g) (d : decode cc pc = .ok (.lastore, 1)) (ha : ws[q0]? = some (a, .inl (g 2, n, .inr (.inl f)))) (h : grd (inb i n) F = some o) (hw : ws.set q0 (a, .inl (g 2, n, .inr (.inl (vp_updL f i.toNatClampNeg x)))) = ws') (kk : F = some o → Z p l e R s m args below meth c Q nL cells slots (IW D A s ws') (pc + 1) lv st) : Z p l e R s m args below meth c Q nL cells slots (IW D A s ws) pc lv (.long x :: .int i :: .ref a :: st) := fun H locs ls hI hl =>
  va_last X.1.1 X.1.2.1 X.2.2.1 hI.1 hI.2.1 hI.2.2 q0 2 ha rfl (vp_of_inb (grd_p h).1) d (fun H1 locs1 hP hD hS => kk (grd_p h).2 H1 locs1 ls (by rw [← hw]; exact ⟨hP, hD, hS⟩) hl)
theorem z_laldG {α : Type} {q0 n a : Nat} {f : Nat → Int64} {i : Int32} {F : Option α} {o : α} (X : CX p s m args meth c cc nL own D g) (hI0 : HasP D ws I) (d : decode cc pc = .ok (.laload, 1)) (ha : ws[q0]? = some (a, .inl (g 2, n, .inr (.inl f)))) (h : grd (inb i n) F = some o) (kk : F = some o → Z p l e R s m args below meth c Q nL cells slots I (pc + 1) lv (.long (f i.toNatClampNeg) :: st)) : Z p l e R s m args below meth c Q nL cells slots I pc lv (.int i :: .ref a :: st) := fun H locs ls hI hl =>
  va_lald X.1.1 X.1.2.1 X.2.2.1 (hI0 H locs hI) q0 2 ha rfl (vp_of_inb (grd_p h).1) d (kk (grd_p h).2 H locs ls hI hl)
theorem z_sldG {α : Type} {b L : Nat} {xs : Nat → Int32} {i : Int32} {F : Option α} {o : α} (X : CX p s m args meth c cc nL own D g) (hX : va_X b L xs s s.heap ∧ ¬ A b) (d : decode cc pc = .ok (.iaload, 1)) (h : grd (inb i L) F = some o) (kk : F = some o → Z p l e R s m args below meth c Q nL cells slots (IW D A s ws) (pc + 1) lv (.int (xs i.toNatClampNeg) :: st)) : Z p l e R s m args below meth c Q nL cells slots (IW D A s ws) pc lv (.int i :: .ref b :: st) := fun H locs ls hI hl =>
  va_sld X.1.1 X.1.2.1 hX.1 hX.1.lt hX.2 hI.2.2 (vp_of_inb (grd_p h).1) d (kk (grd_p h).2 H locs ls hI hl)
theorem z_slenG {b L : Nat} {xs : Nat → Int32} (X : CX p s m args meth c cc nL own D g) (hX : va_X b L xs s s.heap ∧ ¬ A b) (d : decode cc pc = .ok (.arraylength, 1)) (kk : Z p l e R s m args below meth c Q nL cells slots (IW D A s ws) (pc + 1) lv (.int (Int32.ofNat L) :: st)) : Z p l e R s m args below meth c Q nL cells slots (IW D A s ws) pc lv (.ref b :: st) := fun H locs ls hI hl =>
  va_slen X.1.1 X.1.2.1 hX.1 hX.1.lt hX.2 hI.2.2 d (kk H locs ls hI hl)
theorem z_lload_n {k : Fin 4} {i : Nat} {x : Int64} (X : CX p s m args meth c cc nL own D g) (j : Nat) (d : decode cc pc = .ok (.lload_n k, 1)) (hi : (k : Nat) = i) (hj : lv[j]? = some (i, .long x)) (kk : Z p l e R s m args below meth c Q nL cells slots I (pc + 1) lv (.long x :: st)) : Z p l e R s m args below meth c Q nL cells slots I pc lv st := fun H locs ls hI hl => lv_lload_n X.1.1 X.1.2.1 d hi (lv_at hl j hj) (kk H locs ls hI hl)
theorem z_lstore_n {k : Fin 4} {i : Nat} {x : Int64} (X : CX p s m args meth c cc nL own D g) (lv2 : List (Nat × Value)) (d : decode cc pc = .ok (.lstore_n k, 1)) (hi : (k : Nat) = i) (hn : i + 1 < nL) (hv : (i, Value.long x) :: lv.filter (fun q => !(q.1 == i) && (!(q.1 == i + 1) && !(q.1 + 1 == i && q.2.category == 2))) = lv2) (kk : Z p l e R s m args below meth c Q nL cells slots I (pc + 1) lv2 st) : Z p l e R s m args below meth c Q nL cells slots I pc lv (.long x :: st) := fun H locs ls hI hl => lv_lstore_n X.1.1 X.1.2.1 d hi hl hn hv (fun ls2 hl2 => kk H locs ls2 hI hl2)
theorem z_ladd {x y : Int64} (X : CX p s m args meth c cc nL own D g) (d : decode cc pc = .ok (.ladd, 1)) (kk : Z p l e R s m args below meth c Q nL cells slots I (pc + 1) lv (.long (x + y) :: st)) : Z p l e R s m args below meth c Q nL cells slots I pc lv (.long y :: .long x :: st) := fun H locs ls hI hl => lv_ladd X.1.1 X.1.2.1 d (kk H locs ls hI hl)
theorem z_lmul {x y : Int64} (X : CX p s m args meth c cc nL own D g) (d : decode cc pc = .ok (.lmul, 1)) (kk : Z p l e R s m args below meth c Q nL cells slots I (pc + 1) lv (.long (x * y) :: st)) : Z p l e R s m args below meth c Q nL cells slots I pc lv (.long y :: .long x :: st) := fun H locs ls hI hl => lv_lmul X.1.1 X.1.2.1 d (kk H locs ls hI hl)
theorem z_lcmp {x y : Int64} (X : CX p s m args meth c cc nL own D g) (d : decode cc pc = .ok (.lcmp, 1)) (kk : Z p l e R s m args below meth c Q nL cells slots I (pc + 1) lv (.int (lg_cmp x y) :: st)) : Z p l e R s m args below meth c Q nL cells slots I pc lv (.long y :: .long x :: st) := fun H locs ls hI hl => W.lcmp X.1.1 X.1.2.1 d (kk H locs ls hI hl)
theorem z_dcmp {x y : UInt64} {op : CmpOp} (X : CX p s m args meth c cc nL own D g) (d : decode cc pc = .ok (.dcmp op, 1)) (kk : Z p l e R s m args below meth c Q nL cells slots I (pc + 1) lv (.int (Op.cmpValue (FP.dcmp x y) op) :: st)) : Z p l e R s m args below meth c Q nL cells slots I pc lv (.double y :: .double x :: st) := fun H locs ls hI hl => lv_dcmp X.1.1 X.1.2.1 d (kk H locs ls hI hl)
theorem z_fcmp {x y : UInt32} {op : CmpOp} (X : CX p s m args meth c cc nL own D g) (d : decode cc pc = .ok (.fcmp op, 1)) (kk : Z p l e R s m args below meth c Q nL cells slots I (pc + 1) lv (.int (Op.cmpValue (FP.fcmp x y) op) :: st)) : Z p l e R s m args below meth c Q nL cells slots I pc lv (.float y :: .float x :: st) := fun H locs ls hI hl => lv_fcmp X.1.1 X.1.2.1 d (kk H locs ls hI hl)
theorem z_iremG {α : Type} {F : Option α} {o : α} {x y : Int32} (X : CX p s m args meth c cc nL own D g) (d : decode cc pc = .ok (.irem, 1)) (h : grd (¬ y = 0) F = some o) (kk : F = some o → Z p l e R s m args below meth c Q nL cells slots I (pc + 1) lv (.int (x - x / y * y) :: st)) : Z p l e R s m args below meth c Q nL cells slots I pc lv (.int y :: .int x :: st) := fun H locs ls hI hl => lv_irem X.1.1 X.1.2.1 d (grd_p h).1 (kk (grd_p h).2 H locs ls hI hl)
end ZG
