/-! ===== the law's own body: rows ===== -/
section ZB
variable {p : Program} {l : Launch} {e : Env} {R : Room} {s : State} {m : MethodId} {args : Array Value} {below : List Frame} {meth : Method} {c : Code} {Q : State → Prop} {nL cells slots mc ms : Nat} {I : Heap → List Loc → Prop} {pc : Nat} {lv lv' : List (Nat × Value)} {st rest : List Value} {cc : ByteArray} {own : String} {D : va_G} {g : Nat → ClassId} {ws ws' : va_W} {A : Nat → Prop} {ak av : Nat → Nat} {aS : Nat} {v : Option Value}
theorem z_lald {q0 n a : Nat} {f : Nat → Int64} {i : Int32} (X : CX p s m args meth c cc nL own D g) (hI0 : HasP D ws I) (d : decode cc pc = .ok (.laload, 1)) (ha : ws[q0]? = some (a, .inl (g 2, n, .inr (.inl f)))) (hi : vp_in i n) (kk : Z p l e R s m args below meth c Q nL cells slots I (pc + 1) lv (.long (f i.toNatClampNeg) :: st)) : Z p l e R s m args below meth c Q nL cells slots I pc lv (.int i :: .ref a :: st) := fun H locs ls hI hl =>
  va_lald X.1.1 X.1.2.1 X.2.2.1 (hI0 H locs hI) q0 2 ha rfl hi d (kk H locs ls hI hl)
theorem z_dald {q0 n a : Nat} {f : Nat → UInt64} {i : Int32} (X : CX p s m args meth c cc nL own D g) (hI0 : HasP D ws I) (d : decode cc pc = .ok (.daload, 1)) (ha : ws[q0]? = some (a, .inl (g 3, n, .inr (.inr (.inr (.inl f)))))) (hi : vp_in i n) (kk : Z p l e R s m args below meth c Q nL cells slots I (pc + 1) lv (.double (f i.toNatClampNeg) :: st)) : Z p l e R s m args below meth c Q nL cells slots I pc lv (.int i :: .ref a :: st) := fun H locs ls hI hl =>
  va_dald X.1.1 X.1.2.1 X.2.2.1 (hI0 H locs hI) q0 3 ha rfl hi d (kk H locs ls hI hl)
theorem z_lcmpE {x y : Int64} (X : CX p s m args meth c cc nL own D g) (d : decode cc pc = .ok (.lcmp, 1)) (hx : x = y) (kk : Z p l e R s m args below meth c Q nL cells slots I (pc + 1) lv (.int 0 :: st)) : Z p l e R s m args below meth c Q nL cells slots I pc lv (.long y :: .long x :: st) := fun H locs ls hI hl => by
  subst hx
  refine W.lcmp X.1.1 X.1.2.1 d ?_
  have e1 : lg_cmp x x = 0 := by simp [lg_cmp]
  rw [e1]
  exact kk H locs ls hI hl
theorem z_dcmpE {x y : UInt64} {op : CmpOp} (X : CX p s m args meth c cc nL own D g) (d : decode cc pc = .ok (.dcmp op, 1)) (hx : FP.dcmp x y = some .eq) (kk : Z p l e R s m args below meth c Q nL cells slots I (pc + 1) lv (.int 0 :: st)) : Z p l e R s m args below meth c Q nL cells slots I pc lv (.double y :: .double x :: st) := fun H locs ls hI hl => by
  refine lv_dcmp X.1.1 X.1.2.1 d ?_
  rw [hx]
  exact kk H locs ls hI hl
theorem z_dload {i : Nat} {x : UInt64} (X : CX p s m args meth c cc nL own D g) (j : Nat) (d : decode cc pc = .ok (.dload i, 2)) (hj : lv[j]? = some (i, .double x)) (kk : Z p l e R s m args below meth c Q nL cells slots I (pc + 2) lv (.double x :: st)) : Z p l e R s m args below meth c Q nL cells slots I pc lv st := fun H locs ls hI hl => lv_dload X.1.1 X.1.2.1 d (lv_at hl j hj) (kk H locs ls hI hl)
theorem z_fload {i : Nat} {x : UInt32} (X : CX p s m args meth c cc nL own D g) (j : Nat) (d : decode cc pc = .ok (.fload i, 2)) (hj : lv[j]? = some (i, .float x)) (kk : Z p l e R s m args below meth c Q nL cells slots I (pc + 2) lv (.float x :: st)) : Z p l e R s m args below meth c Q nL cells slots I pc lv st := fun H locs ls hI hl => lv_fload X.1.1 X.1.2.1 d (lv_at hl j hj) (kk H locs ls hI hl)
theorem z_dstore {i : Nat} {x : UInt64} (lv2 : List (Nat × Value)) (X : CX p s m args meth c cc nL own D g) (d : decode cc pc = .ok (.dstore i, 2)) (hn : i + 1 < nL) (hv : (i, Value.double x) :: lv.filter (fun q => !(q.1 == i) && (!(q.1 == i + 1) && !(q.1 + 1 == i && q.2.category == 2))) = lv2) (kk : Z p l e R s m args below meth c Q nL cells slots I (pc + 2) lv2 st) : Z p l e R s m args below meth c Q nL cells slots I pc lv (.double x :: st) := fun H locs ls hI hl => lv_dstore X.1.1 X.1.2.1 d hl hn hv (fun ls2 hl2 => kk H locs ls2 hI hl2)
theorem z_fstore {i : Nat} {x : UInt32} (lv2 : List (Nat × Value)) (X : CX p s m args meth c cc nL own D g) (d : decode cc pc = .ok (.fstore i, 2)) (hn : i < nL) (hv : (i, Value.float x) :: lv.filter (fun q => !(q.1 == i) && !(q.1 + 1 == i && q.2.category == 2)) = lv2) (kk : Z p l e R s m args below meth c Q nL cells slots I (pc + 2) lv2 st) : Z p l e R s m args below meth c Q nL cells slots I pc lv (.float x :: st) := fun H locs ls hI hl => lv_fstore X.1.1 X.1.2.1 d hl hn hv (fun ls2 hl2 => kk H locs ls2 hI hl2)
theorem z_sld {b L : Nat} {xs : Nat → Int32} {i : Int32} (X : CX p s m args meth c cc nL own D g) (hX : va_X b L xs s s.heap) (hb : b < s.heap.size) (hbA : ¬ A b) (d : decode cc pc = .ok (.iaload, 1)) (hin : vp_in i L) (kk : Z p l e R s m args below meth c Q nL cells slots (IW D A s ws) (pc + 1) lv (.int (xs i.toNatClampNeg) :: st)) : Z p l e R s m args below meth c Q nL cells slots (IW D A s ws) pc lv (.int i :: .ref b :: st) := fun H locs ls hI hl =>
  va_sld X.1.1 X.1.2.1 hX hb hbA hI.2.2 hin d (kk H locs ls hI hl)
theorem z_slen {b L : Nat} {xs : Nat → Int32} (X : CX p s m args meth c cc nL own D g) (hX : va_X b L xs s s.heap) (hb : b < s.heap.size) (hbA : ¬ A b) (d : decode cc pc = .ok (.arraylength, 1)) (kk : Z p l e R s m args below meth c Q nL cells slots (IW D A s ws) (pc + 1) lv (.int (Int32.ofNat L) :: st)) : Z p l e R s m args below meth c Q nL cells slots (IW D A s ws) pc lv (.ref b :: st) := fun H locs ls hI hl =>
  va_slen X.1.1 X.1.2.1 hX hb hbA hI.2.2 d (kk H locs ls hI hl)
theorem z_eqT {x : Int32} {off : Int} (X : CX p s m args meth c cc nL own D g) (tgt : Nat) (d : decode cc pc = .ok (.ifCond .eq off, 3)) (ht : (pc : Int) + off = (tgt : Int)) (hx : x = 0) (kk : Z p l e R s m args below meth c Q nL cells slots I tgt lv st) : Z p l e R s m args below meth c Q nL cells slots I pc lv (.int x :: st) := fun H locs ls hI hl => lv_if_eq X.1.1 X.1.2.1 d ht (fun _ => kk H locs ls hI hl) (fun q => absurd hx q)
theorem z_eqF {x : Int32} {off : Int} (X : CX p s m args meth c cc nL own D g) (tgt : Nat) (d : decode cc pc = .ok (.ifCond .eq off, 3)) (ht : (pc : Int) + off = (tgt : Int)) (hx : ¬ x = 0) (kk : Z p l e R s m args below meth c Q nL cells slots I (pc + 3) lv st) : Z p l e R s m args below meth c Q nL cells slots I pc lv (.int x :: st) := fun H locs ls hI hl => lv_if_eq X.1.1 X.1.2.1 d ht (fun q => absurd q hx) (fun _ => kk H locs ls hI hl)
theorem z_neT {x : Int32} {off : Int} (X : CX p s m args meth c cc nL own D g) (tgt : Nat) (d : decode cc pc = .ok (.ifCond .ne off, 3)) (ht : (pc : Int) + off = (tgt : Int)) (hx : ¬ x = 0) (kk : Z p l e R s m args below meth c Q nL cells slots I tgt lv st) : Z p l e R s m args below meth c Q nL cells slots I pc lv (.int x :: st) := fun H locs ls hI hl => lv_if_ne X.1.1 X.1.2.1 d ht (fun _ => kk H locs ls hI hl) (fun q => absurd q hx)
theorem z_neF {x : Int32} {off : Int} (X : CX p s m args meth c cc nL own D g) (tgt : Nat) (d : decode cc pc = .ok (.ifCond .ne off, 3)) (ht : (pc : Int) + off = (tgt : Int)) (hx : x = 0) (kk : Z p l e R s m args below meth c Q nL cells slots I (pc + 3) lv st) : Z p l e R s m args below meth c Q nL cells slots I pc lv (.int x :: st) := fun H locs ls hI hl => lv_if_ne X.1.1 X.1.2.1 d ht (fun q => absurd hx q) (fun _ => kk H locs ls hI hl)
theorem z_ceT {x y : Int32} {off : Int} (X : CX p s m args meth c cc nL own D g) (tgt : Nat) (d : decode cc pc = .ok (.if_icmp .eq off, 3)) (ht : (pc : Int) + off = (tgt : Int)) (hx : x = y) (kk : Z p l e R s m args below meth c Q nL cells slots I tgt lv st) : Z p l e R s m args below meth c Q nL cells slots I pc lv (.int y :: .int x :: st) := fun H locs ls hI hl => lv_icmp_eq X.1.1 X.1.2.1 d ht (fun _ => kk H locs ls hI hl) (fun q => absurd hx q)
theorem z_gt {x y : Int32} {off : Int} (X : CX p s m args meth c cc nL own D g) (tgt : Nat) (d : decode cc pc = .ok (.if_icmp .gt off, 3)) (ht : (pc : Int) + off = (tgt : Int)) (kt : y < x → Z p l e R s m args below meth c Q nL cells slots I tgt lv st) (kf : ¬ y < x → Z p l e R s m args below meth c Q nL cells slots I (pc + 3) lv st) : Z p l e R s m args below meth c Q nL cells slots I pc lv (.int y :: .int x :: st) := fun H locs ls hI hl => lv_icmp_gt X.1.1 X.1.2.1 d ht (fun q => kt q H locs ls hI hl) (fun q => kf q H locs ls hI hl)
/-- a static method with handlers is called -/
theorem lb_callS {T : State} {H : Heap} {locs : List Loc} (X : Stand p l e R s m args below meth c T locs cells slots) (hexec : p.tables.exec = Jvm.exec) {own : String} {index : Nat} {y : MethodName} {bytes : ByteArray} {maxL : Nat} {ret : Option FieldType} {hh : List (Nat × Nat × Nat × Nat)}
    (hown : s.vm.findClass own = some m.cls) (hlink : (Cond.methodLink own index y).before args s = true) (hstat : (Cond.static y).before args s = true) (hinit : (Cond.initialized y.cls).before args s = true)
    (hcode : (Cond.codeWith y bytes maxL ret hh).before args s = true) (hy : y.cls ≠ "java/lang/invoke/MethodHandle" ∧ y.cls ≠ "java/lang/invoke/VarHandle")
    {W : Nat} {Pre : Pt → Array Value → Prop} {Post : Pt → Array Value → Option Value → Pt → Prop} (hK : Back l R p e below s args y 3 W Pre Post)
    {gf : JFrame} (hg : gf.method = m) (hsize : gf.locals.size = c.maxLocals) {argsL rest : List Value} (hlen : ∀ sig, parseMethodDescriptor y.desc = some sig → argsL.length = sig.parameters.length)
    (hstack : gf.stack = argsL.reverse ++ rest) (hW : 2 * gf.monitorRoom + (rest.map fun v => v.category).sum ≤ W) (hdg : decode c.code gf.pc = .ok (.invokestatic index, 3))
    (hpre : ∀ vm₁, s.WarmedH vm₁ → Pre ⟨T.setVm vm₁, locs, cells, slots⟩ argsL.toArray) :
    ∃ (v : Option Value) (vm₁ : Vm) (B : Pt), s.WarmedH vm₁ ∧ Stand p l e R s m args below meth c B.U B.locs B.cells B.slots ∧ Post ⟨T.setVm vm₁, locs, cells, slots⟩ argsL.toArray v B ∧
      ∀ target, Steps p.tables e below (B.U.setTop { gf with pc := gf.pc + 3, stack := v.toList ++ rest }) target → Steps p.tables e below (T.setTop gf) target := by
  obtain ⟨mk, methM, cM, hnamed, hmethM, -, -, -, -, -, -, hsigM⟩ := Cond.codeWith_spec hcode
  have hstatic : methM.isStatic = true := Cond.static_spec hnamed hmethM hstat
  obtain ⟨kP, hkP, -⟩ := className_of_methodNamed hnamed
  have hinitP : kP.init = .initialized := Cond.initialized_spec (findClass_of_methodNamed hnamed) hkP hinit
  obtain ⟨vm₁, X₁, hstep₁⟩ := X.invokestatic hexec hown hlink hnamed hmethM hstatic hkP hinitP hy (g := gf) hg (argsL := argsL) (rest := rest) (hlen _ hsigM) hstack hdg
  obtain ⟨v, B, X', hpost, hsteps⟩ := hK m meth c ⟨T.setVm vm₁, locs, cells, slots⟩ { gf with stack := rest } (.invokestatic index) mk argsL.toArray X₁ hg hsize hdg hW (X₁.named hnamed) (hpre vm₁ X₁.warmed)
  exact ⟨v, vm₁, B, X₁.warmed, X', hpost, fun target h => hstep₁ _ fun acts => by rw [doInvoke_state]; exact hsteps.trans h⟩
theorem lb_runS {H : Heap} {locs : List Loc} {y : MethodName} {bytes : ByteArray} {maxL n index : Nat} {ret : Option FieldType} {hh : List (Nat × Nat × Nat × Nat)} {wds : List Cond} {rm : Room} {Pc : Array Value → State → Prop} {Qc : Array Value → State → Outcome → State → Prop} {free : Addr → Prop} {Ts : List Cond} {As : List Value} {gf : JFrame}
    (S : CallFix p m c cc nL s args Ts own) (hM : Met l y wds rm Pc Qc mc ms free) (hR : rm.cells = mc ∧ rm.slots = ms ∧ rm.frames + 1 ≤ R.frames ∧ 8 + (maxL + 11) + rm.locals ≤ R.locals)
    (hws : ∀ w ∈ wds, ∀ (a' : Array Value) (U : State), s.WarmedH U.vm → w.before a' U = true) (hcw : Cond.codeWith y bytes maxL ret hh ∈ wds) (hcode : (Cond.codeWith y bytes maxL ret hh).before args s = true) (hini : (Cond.initialized y.cls).before args s = true)
    (hy : y.cls ≠ "java/lang/invoke/MethodHandle" ∧ y.cls ≠ "java/lang/invoke/VarHandle") (hlen : (parseMethodDescriptor y.desc).map (fun d => d.parameters.length) = some n) (hl : (Cond.methodLink own index y).before args s = true) (hstt : (Cond.static y).before args s = true) (hp : PreS s H Pc As)
    (hg : gf.method = m) (hn : As.length = n) (hsize : gf.locals.size = nL) (hstack : gf.stack = As.reverse ++ rest) (hW : 2 * gf.monitorRoom + (rest.map fun v => v.category).sum ≤ 8) (hdg : decode cc gf.pc = .ok (.invokestatic index, 3)) (hf : cells + mc ≤ R.cells ∧ slots + ms ≤ R.slots) :
    va_Run p l e R s m args below meth c H locs cells slots mc ms gf rest (Qc As.toArray) (free) := by
  have hK : Back l R p e below s args y 3 8 (PreOf R mc ms Pc) (PostOf Qc mc ms free) := va_backW (hh := hh) (bytes := bytes) (maxL := maxL) (ret := ret) hM hp.1 hR.1 hR.2.1 hR.2.2.1 hR.2.2.2 hws hcw (fun a' U hW => word_at hW (Or.inl (by first | rfl | simp [Cond.onTables, Cond.keeps, Cond.steady])) hini)
  obtain ⟨hx, hb, hml, ho, -⟩ := S
  intro T hT X
  obtain ⟨v, vm₁, ⟨U', l2, c2, s2⟩, hW₁, X', ⟨g', mk, t, L, e1, e2, hq, h1, hL, h2, h3⟩, st⟩ := lb_callS (H := H) X hx (hh := hh) (bytes := bytes) (maxL := maxL) (ret := ret) ho hl hstt hini hcode hy hK hg (hsize.trans hml.symm) (argsL := As) (rest := rest) (fun sig h => by rw [h] at hlen; exact hn.trans (Option.some.inj hlen).symm) hstack hW (by rw [hb]; exact hdg)
    (fun vm₁ hW₁ => ⟨hf.1, hf.2, hp.2 (T.setVm vm₁) hT hW₁⟩)
  dsimp only [Pt.U, Pt.locs, Pt.cells, Pt.slots] at X' e1 e2 h1 h2 h3 st
  subst h1; subst h2; subst h3
  exact ⟨v, (T.setVm vm₁).calling g' mk As.toArray, t, U', L, hT, X', hL, e1, e2, hq, st⟩
theorem ml_run {pc : Nat} {ls : Array Slot} {H : Heap} {locs : List Loc} {st0 : List Value} {a : Array Value} {wc wc' : va_W} {mc1 ms1 : Nat} (h1 : bkc ws wc) (h2 : bk ws ws' wc wc') (hA : ∀ q, s.heap.size ≤ q → A q) (hI : IW D A s ws H locs) (hr : va_Run p l e R s m args below meth c H locs cells slots mc1 ms1 (F0 m pc ls st0) rest (exQ D v wc' (va_A wc H.size) 0 a) (va_A wc H.size))
    (kk : ∀ H1 locs1, IW D A s ws' H1 locs1 → W p l e R s m args below meth c H1 locs1 (cells + mc1) (slots + ms1) Q (F0 m (pc + 3) ls (v.toList ++ rest))) : W p l e R s m args below meth c H locs cells slots Q (F0 m pc ls st0) := by
  intro T hT X
  have hAin : ∀ q, va_A wc H.size q → A q := by
    intro q h
    rcases h with ⟨k, e, h⟩ | h
    · exact (h1 D A H hI.1 hI.2.1).2.2 k _ h
    · exact hA q (Nat.le_trans hI.2.2.1 h)
  obtain ⟨v2, st₀, t, T', L, h0, X', hL, e1, e2, ⟨hx, hv, hP, hF⟩, st⟩ := hr T hT X
  have hv2 : v2 = v := by cases hv; rfl
  subst hv2
  obtain ⟨k1, k2, k3⟩ := vx_keep h0 e1 hI.2.2 (fun q _ h => hAin q h) hAin hL hF
  obtain ⟨g1, g2⟩ := h2 D A H T'.heap hI.1 hI.2.1 (fun q hq hn => k2 q hq (fun z => by
    rcases z with z | z
    · exact hn z
    · omega)) (by rw [e1]; exact hP)
  obtain ⟨t2, a1, b1⟩ := kk T'.heap (locs ++ L) ⟨g1, g2, k3⟩ T' rfl X'
  exact ⟨t2, st t2 a1, b1⟩
/-- the law calls a helper -/
theorem z_mlS {y : MethodName} {bytes : ByteArray} {maxL index n : Nat} {ret : Option FieldType} {rm : Room} {hh : List (Nat × Nat × Nat × Nat)} {As : List Value} {wc wc' : va_W} {mc1 ms1 : Nat} (X : CX p s m args meth c cc nL own D g) (hE : EV ak av aS A s s.heap) (hA : ∀ q, s.heap.size ≤ q → A q) (K : cardS y (Cond.codeWith y bytes maxL ret hh) n) (hM : ML l y (Cond.codeWith y bytes maxL ret hh) rm ak av aS D g As wc v wc' mc1 ms1) (hq : Cond.methodLink own index y ∈ lw_all) (d : decode cc pc = .ok (.invokestatic index, 3)) (h1 : bkc ws wc) (h2 : bk ws ws' wc wc') (hst : st = As.reverse ++ rest) (hn : As.length = n) (hR : fitsIn rm R maxL mc1 ms1 cells slots) (hW : (rest.map fun v => v.category).sum ≤ 8) (kk : Z p l e R s m args below meth c Q nL (cells + mc1) (slots + ms1) (IW D A s ws') (pc + 3) lv (v.toList ++ rest)) : Z p l e R s m args below meth c Q nL cells slots (IW D A s ws) pc lv st := fun H locs ls hI hl =>
  ml_run h1 h2 hA hI (lb_runS (hh := hh) (bytes := bytes) (maxL := maxL) (ret := ret) X.1 (hM H.size) ⟨hR.2.2.1, hR.2.2.2.1, hR.1, hR.2.1⟩ (pay_in X.1.2.2.2.2 (wA_G K.2.1)) List.mem_cons_self (X.1.2.2.2.2 _ K.2.1) (X.1.2.2.2.2 _ K.2.2.1) ⟨K.2.2.2.1, K.2.2.2.2.1⟩ K.2.2.2.2.2 (X.1.2.2.2.2 _ hq) (X.1.2.2.2.2 _ K.1) (exPS X.2.2 hE hA h1 hI) rfl hn hl.1 hst (lv_room hW) d ⟨hR.2.2.2.2.1, hR.2.2.2.2.2⟩) (fun H1 locs1 hI1 => kk H1 locs1 ls hI1 hl)
/-- a call that reads a part of the world -/
theorem z_rgV {y : MethodName} {bytes : ByteArray} {maxL index n b q0 ci : Nat} {ret : Option FieldType} {rm : Room} {As : List Value} {wc : va_W} {C : vw_C} {fs : List Value} (X : CX p s m args meth c cc nL own D g) (K : cardV y (Cond.code y bytes maxL ret) n) (hM : MR l y (Cond.code y bytes maxL ret) rm D g (.ref b :: As) wc v) (hq : Cond.methodLink own index y ∈ lw_all) (d : decode cc pc = .ok (.invokevirtual index, 3)) (h1 : bkc ws wc) (hc : vwCl[ci]? = some C) (hC : C.1 = y.cls) (he : ws[q0]? = some (b, .inr (ci, fs))) (hst : st = As.reverse ++ .ref b :: rest) (hn : As.length = n) (hR : fitsIn rm R maxL 0 0 cells slots) (hW : (rest.map fun v => v.category).sum ≤ 8) (kk : Z p l e R s m args below meth c Q nL cells slots (IW D A s ws) (pc + 3) lv (v.toList ++ rest)) : Z p l e R s m args below meth c Q nL cells slots (IW D A s ws) pc lv st := fun H locs ls hI hl =>
  rd_run (va_runV X.1 hM (cwV_of X K hq hR) ⟨rdP_blind, (by rw [← hC]; exact va_recv X.2.2.1 hI.1 hc he), (rdPS X.2.2 (h1 D A H hI.1 hI.2.1).1).2⟩ rfl hn hl.1 hst (lv_room hW) d ⟨hR.2.2.2.2.1, hR.2.2.2.2.2⟩) (kk H locs ls hI hl)
end ZB
/-! ===== the law's world ===== -/
abbrev eL (g : Nat → ClassId) (qo : Nat) (out : Nat → Int64) : Nat × va_E := (qo, .inl (g 2, 1, .inr (.inl out)))
abbrev eD (g : Nat → ClassId) (qd : Nat) (od : Nat → UInt64) : Nat × va_E := (qd, .inl (g 3, 1, .inr (.inr (.inr (.inl od)))))
/-- the class's cells, the row for a long, the past's towns, the row for a double -/
def LF (g : Nat → ClassId) (ax : Nat → Nat) (ad : Nat → Nat → Nat) (qo qd : Nat) (x : XVal) (out : Nat → Int64) (od : Nat → UInt64) : va_W := XW g ax ad x ++ [eL g qo out] ++ poolW g ad x.2.2 ++ [eD g qd od]
def LW (g : Nat → ClassId) (ax : Nat → Nat) (ad : Nat → Nat → Nat) (ay : Nat → Nat) (qo qd : Nat) (x : XVal) (out : Nat → Int64) (od : Nat → UInt64) (y : MVal) : va_W := LF g ax ad qo qd x out od ++ YW g ay y
abbrev lv0 (b : Nat) (ax ay : Nat → Nat) (qo qd : Nat) (i : Int32) : List (Nat × Value) := [(0, .ref b), (1, .ref (ax 0)), (2, .ref (ay 0)), (3, .ref qo), (4, .ref qd), (5, .int i)]
section LWS
variable {g : Nat → ClassId} {ax ay : Nat → Nat} {ad : Nat → Nat → Nat} {qo qd : Nat} {x x' : XVal} {out out' : Nat → Int64} {od od' : Nat → UInt64} {y y' : MVal}
theorem XW_fst : (XW g ax ad x).map Prod.fst = (XW g ax ad x').map Prod.fst := rfl
theorem LW_x0 : (LW g ax ad ay qo qd x out od y)[0]? = some (ax 0, .inr (11, [.ref (ax 1), .ref (ax 2), .ref (ax 3), .int (x.1 0), .ref (ax 4), .ref (ax 5), .ref (ax 6), .ref (ax 7), .ref (ax 8)])) := rfl
theorem LW_y0 : (LW g ax ad ay qo qd x out od y)[(LF g ax ad qo qd x out od).length]? = some (ay 0, .inr (12, [.ref (ay 1), .ref (ay 2), .ref (ay 3), .int (y.1 0), .ref (ay 4), .int (y.1 1), .int (y.1 2), .int (y.1 3), .int (y.1 4), .int (y.1 5), .ref (ay 5), .ref (ay 6), .int (y.1 6), .int (y.1 7), .ref (ay 7), .int (y.1 8), .ref (ay 8), .int (y.1 9), .int (y.1 10), .int (y.1 11), .int (y.1 12), .ref (ay 9), .int (y.1 13)])) := by
  unfold LW
  rw [List.getElem?_append_right (Nat.le_refl _), Nat.sub_self]
  rfl
theorem LW_o : (LW g ax ad ay qo qd x out od y)[63]? = some (eL g qo out) := by
  have h : LW g ax ad ay qo qd x out od y = XW g ax ad x ++ [eL g qo out] ++ (poolW g ad x.2.2 ++ [eD g qd od] ++ YW g ay y) := by
    unfold LW LF
    simp only [List.append_assoc]
  rw [h]
  exact get_mid XW_len
theorem LW_d : (LW g ax ad ay qo qd x out od y)[(XW g ax ad x ++ [eL g qo out] ++ poolW g ad x.2.2).length]? = some (eD g qd od) := by
  unfold LW LF
  exact get_mid rfl
/-- what a helper works on -/
theorem bk_L : bkc (LW g ax ad ay qo qd x out od y) (XW g ax ad x ++ [eL g qo out] ++ poolW g ad x.2.2) ∧ bk (LW g ax ad ay qo qd x out od y) (LW g ax ad ay qo qd x' out' od y) (XW g ax ad x ++ [eL g qo out] ++ poolW g ad x.2.2) (XW g ax ad x' ++ [eL g qo out'] ++ poolW g ad x'.2.2) := by
  refine bk_perm (wr := [eD g qd od] ++ YW g ay y) ?_ ?_ ?_
  · unfold LW LF
    rw [List.append_assoc]
  · unfold LW LF
    rw [List.append_assoc]
  · rw [List.map_append, List.map_append, List.map_append, List.map_append, XW_fst (x' := x'), poolW_fst (pv' := x'.2.2)]
    rfl
/-- what a helper with a double works on -/
theorem bk_D : bkc (LW g ax ad ay qo qd x out od y) (XW g ax ad x ++ [eD g qd od] ++ poolW g ad x.2.2) ∧ bk (LW g ax ad ay qo qd x out od y) (LW g ax ad ay qo qd x' out od' y) (XW g ax ad x ++ [eD g qd od] ++ poolW g ad x.2.2) (XW g ax ad x' ++ [eD g qd od'] ++ poolW g ad x'.2.2) := by
  have hp : ∀ (E P : va_W) (a b : Nat × va_E) (Y : va_W), (E ++ [a] ++ P ++ [b] ++ Y).Perm (E ++ [b] ++ P ++ ([a] ++ Y)) := by
    intro E P a b Y
    rw [← List.append_assoc (E ++ [b] ++ P) [a] Y]
    refine List.Perm.append_right Y ?_
    rw [List.append_assoc, List.append_assoc, List.append_assoc, List.append_assoc]
    refine List.Perm.append_left E ?_
    have h1 : ([a] ++ (P ++ [b])).Perm ((P ++ [b]) ++ [a]) := List.perm_append_comm
    have h2 : ((P ++ [b]) ++ [a]).Perm (([b] ++ P) ++ [a]) := List.Perm.append_right [a] List.perm_append_comm
    rw [← List.append_assoc [b] P [a]]
    exact h1.trans h2
  refine bk_perm (wr := [eL g qo out] ++ YW g ay y) (hp _ _ _ _ _) (hp _ _ _ _ _) ?_
  rw [List.map_append, List.map_append, List.map_append, List.map_append, XW_fst (x' := x'), poolW_fst (pv' := x'.2.2)]
  rfl
/-- what the reference works on -/
theorem bk_Y {wc wc' wr : va_W} (h1 : (YW g ay y).Perm (wc ++ wr)) (h2 : (YW g ay y').Perm (wc' ++ wr)) (h3 : wc.map Prod.fst = wc'.map Prod.fst) : bkc (LW g ax ad ay qo qd x out od y) wc ∧ bk (LW g ax ad ay qo qd x out od y) (LW g ax ad ay qo qd x out od y') wc wc' := by
  refine bk_perm (wr := wr ++ LF g ax ad qo qd x out od) ?_ ?_ h3
  · rw [← List.append_assoc]
    exact (List.perm_append_comm).trans (List.Perm.append_right _ h1)
  · rw [← List.append_assoc]
    exact (List.perm_append_comm).trans (List.Perm.append_right _ h2)
/-- what the class works on, asked with no helper -/
theorem bk_X {wc wc' wr : va_W} (h1 : (XW g ax ad x).Perm (wc ++ wr)) (h2 : (XW g ax ad x').Perm (wc' ++ wr)) (h3 : wc.map Prod.fst = wc'.map Prod.fst) (h4 : x'.2.2 = x.2.2) : bkc (LW g ax ad ay qo qd x out od y) wc ∧ bk (LW g ax ad ay qo qd x out od y) (LW g ax ad ay qo qd x' out od y) wc wc' := by
  refine bk_perm (wr := wr ++ ([eL g qo out] ++ (poolW g ad x.2.2 ++ ([eD g qd od] ++ YW g ay y)))) ?_ ?_ h3
  · unfold LW LF
    rw [← List.append_assoc wc, List.append_assoc, List.append_assoc, List.append_assoc]
    exact List.Perm.append_right _ h1
  · unfold LW LF
    rw [h4, ← List.append_assoc wc', List.append_assoc, List.append_assoc, List.append_assoc]
    exact List.Perm.append_right _ h2
end LWS
/-- the law's walk: what stays -/
def LB (p : Program) (l : Launch) (s : State) (m : MethodId) (args : Array Value) (meth : Method) (c : Code) (D : va_G) (g : Nat → ClassId) (ak av : Nat → Nat) (aS : Nat) (A : Nat → Prop) (b L : Nat) (xs : Nat → Int32) : Prop :=
  CX p s m args meth c cL_law 9 RL D g ∧ EV ak av aS A s s.heap ∧ (∀ q, s.heap.size ≤ q → A q) ∧ va_X b L xs s s.heap ∧ b < s.heap.size ∧ ¬ A b ∧ l.stackTraces = false
def RM (R : Room) (cells slots : Nat) : Prop := 20 ≤ R.frames ∧ 400 ≤ R.locals ∧ cells + 8 ≤ R.cells ∧ slots + 48 ≤ R.slots
theorem RM.fit {R rm : Room} {cells slots maxL mc ms dc ds : Nat} (h : RM R cells slots) (h1 : rm.frames + 1 ≤ 20) (h2 : 8 + (maxL + 11) + rm.locals ≤ 400) (h3 : rm.cells = mc) (h4 : rm.slots = ms) (h5 : dc + mc ≤ 8) (h6 : ds + ms ≤ 48) : fitsIn rm R maxL mc ms (cells + dc) (slots + ds) :=
  ⟨Nat.le_trans h1 h.1, Nat.le_trans h2 h.2.1, h3, h4, by have := h.2.2.1; omega, by have := h.2.2.2; omega⟩
def II (i : Int32) (L : Nat) : Prop := vp_in i L ∧ vp_in (i + 1) L ∧ vp_in (i + 2) L ∧ vp_in (i + 3) L ∧ vp_in (i + 4) L
/-- what a helper leaves, beside the reference -/
def FLK (b : Int) (F : Option (Int32 × XVal × (Nat → Int64))) (H : Option (Int32 × MVal)) (val : Int32 → Int64) : Prop := ∃ a x' out' v2 y', F = some (a, x', out') ∧ H = some (v2, y') ∧ y'.1 2 = a ∧ (a = 0 → out' 0 = val v2) ∧ Rel (b + 300) x' y'
