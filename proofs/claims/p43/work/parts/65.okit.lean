/-! ===== methods that make things: what they answer and leave is one of a family ===== -/
def oQ {α : Type} (D : va_G) (φ : α → Prop) (rf : α → Option Value) (WW : α → va_W) (A : Nat → Prop) : Array Value → State → Outcome → State → Prop := fun _ st o t => ∃ a : α, φ a ∧ o = .returned (rf a) ∧ va_P D vwCl (WW a) t.heap ∧ va_D A (WW a) ∧ va_F A st t
/-- the contract: for some a with φ a it returns rf a, and the world ws has become WW a -/
abbrev MO {α : Type} (l : Launch) (y : MethodName) (cd : Cond) (rm : Room) (K : (Nat → Prop) → State → Heap → Prop) (D : va_G) (g : Nat → ClassId) (as : List Value) (ws : va_W) (φ : α → Prop) (rf : α → Option Value) (WW : α → va_W) (mc ms : Nat) : Prop := ∀ sz : Nat, Met l y (wA cd) rm (gP K D g as ws sz) (oQ D φ rf WW (va_A ws sz)) mc ms (va_A ws sz)
theorem pm_bkc {ws wc wr : va_W} (hp : ws.Perm (wc ++ wr)) : bkc ws wc := (bk_perm (wc' := wc) hp hp rfl).1
/-- the virtual machine selects a private method for itself, whatever the receiver's class -/
theorem sel_priv {C : String} {y : MethodName} {s : State} {args : Array Value} {c : ClassId} (hy : y.cls ≠ "java/lang/invoke/MethodHandle" ∧ y.cls ≠ "java/lang/invoke/VarHandle") (hC : s.vm.findClass C = some c)
    (hpriv : (Cond.privateMethod y).before args s = true) (hinst : (Cond.instanceMethod y).before args s = true) (hsame : (Cond.sameMethod y.cls y.cls y.name y.desc).before args s = true) : (Cond.selects C y y).before args s = true := by
  obtain ⟨mk, methM, hnamed, hmethM, -, -⟩ := Cond.instanceMethod_spec hinst
  have hfound : s.methodFound? y.cls y.name y.desc = some mk := State.methodFound?_of_named hnamed hy
  obtain ⟨cn, ck, r1, hcn, hck, hni, hf, hn1⟩ := Cond.sameMethod_found hsame
  have hcls : mk.cls = cn := Option.some.inj ((findClass_of_methodNamed hnamed).symm.trans hcn)
  have hsel : selectMethod {} s.vm c mk = .method mk := selectMethod_private hmethM (Cond.privateMethod_at hpriv mk methM hnamed hmethM)
  simp only [Cond.before, Cond.holds, Cond.value, hC, hfound, hnamed, hsel, hcls, hck]
  simp
  exact hni
section ZO
variable {p : Program} {l : Launch} {e : Env} {R : Room} {s : State} {m : MethodId} {args : Array Value} {below : List Frame} {meth : Method} {c : Code} {Q : State → Prop} {nL cells slots mc ms : Nat} {I : Heap → List Loc → Prop} {pc : Nat} {lv lv' : List (Nat × Value)} {st rest : List Value} {cc : ByteArray} {own : String} {D : va_G} {g : Nat → ClassId} {ws ws' : va_W} {A : Nat → Prop} {K : (Nat → Prop) → State → Heap → Prop} {α : Type} {φ : α → Prop} {rf : α → Option Value} {WW : α → va_W}
theorem z_o_start {y : MethodName} {cc : ByteArray} {maxL : Nat} {ret : Option FieldType} {rm : Room} {as : List Value} (hy : plainName y.cls = true) (hlen : (lg_sl as).length ≤ maxL)
    (body : ∀ (p : Program) (e : Env) (s : State) (m : MethodId) (args : Array Value) (below : List Frame) (meth : Method) (c : Code) (Q : State → Prop) (A : Nat → Prop), CX p s m args meth c cc maxL y.cls D g → meth.sig.returnType = ret → meth.name = y.name → K A s s.heap → (∀ q, s.heap.size ≤ q → A q) → Q = MQ below (oQ D φ rf WW A) args s mc ms A → Z p l e rm s m args below meth c Q maxL 0 0 (IW D A s ws) 0 (lv_args 0 as) []) : MO l y (Cond.code y cc maxL ret) rm K D g as ws φ rf WW mc ms := by
  intro sz
  refine Met.ofW (cc := cc) (maxL := maxL) (ret := ret) hy rfl ?_
  intro p e s m args below meth c s₁ B hml hv
  obtain ⟨rfl, hsz, hP, hK, hD, hE⟩ := hv
  have hts := atoms_spec (ws := wA (Cond.code y cc maxL ret)) B.pre
  have hts : ∀ w ∈ lw_all, w.before as.toArray s = true := fun w h => hts w (List.mem_cons_of_mem _ h)
  have hl := lv_entry as (n := maxL) hlen
  rw [lg_entry_eq]
  exact body p e s m _ below meth c _ _ ⟨⟨B.exec, B.bytes, hml, findClass_of_methodNamed B.named, hts⟩, B.notSynchronized, hK⟩ B.returns (name_of_methodNamed B.named B.method).1 hE (fun q h => Or.inr (by rw [← hsz]; exact h)) rfl s.heap [] _ ⟨hP, hD.self, va_S.rf⟩ hl
theorem z_oaret {v : Nat} {rt : FieldType} (X : CX p s m args meth c cc nL own D g) (hQ : Q = MQ below (oQ D φ rf WW A) args s mc ms A) (hc : cells ≤ mc) (hs : slots ≤ ms) (hr : meth.sig.returnType = some rt) (hrt : (∃ n, rt = .object n) ∨ ∃ t, rt = .array t) (d : decode cc pc = .ok (.areturn, 1)) (a : α) (hφ : φ a) (hv : rf a = some (.ref v)) (hw : ws.Perm (WW a)) : Z p l e R s m args below meth c Q nL cells slots (IW D A s ws) pc lv [.ref v] := by
  subst hQ
  intro H locs ls hI hl
  have hI := IW_perm hw hI
  refine W.widen hc hs ?_
  exact W.aret X.1.1 X.1.2.1 hr hrt (Or.inr ⟨_, rfl⟩) (fun t ht hW => ⟨a, hφ, by rw [hv], by rw [ht]; exact hI.1, hI.2.1, hI.2.2.F ht⟩) hI.2.2.2.2 d X.2.1
theorem z_ovret (X : CX p s m args meth c cc nL own D g) (hQ : Q = MQ below (oQ D φ rf WW A) args s mc ms A) (hc : cells ≤ mc) (hs : slots ≤ ms) (hr : meth.sig.returnType = none) (d : decode cc pc = .ok (.return_, 1)) (a : α) (hφ : φ a) (hv : rf a = none) (hw : ws.Perm (WW a)) : Z p l e R s m args below meth c Q nL cells slots (IW D A s ws) pc lv [] := by
  subst hQ
  intro H locs ls hI hl
  have hI := IW_perm hw hI
  refine W.widen hc hs ?_
  exact W.vret X.1.1 X.1.2.1 hr (fun t ht hW => ⟨a, hφ, by rw [hv], by rw [ht]; exact hI.1, hI.2.1, hI.2.2.F ht⟩) hI.2.2.2.2 d X.2.1
theorem z_oiret {v : Int32} (X : CX p s m args meth c cc nL own D g) (hQ : Q = MQ below (oQ D φ rf WW A) args s mc ms A) (hc : cells ≤ mc) (hs : slots ≤ ms) (hr : meth.sig.returnType = some .int) (d : decode cc pc = .ok (.ireturn, 1)) (a : α) (hφ : φ a) (hv : rf a = some (.int v)) (hw : ws.Perm (WW a)) : Z p l e R s m args below meth c Q nL cells slots (IW D A s ws) pc lv [.int v] := by
  subst hQ
  intro H locs ls hI hl
  have hI := IW_perm hw hI
  refine W.widen hc hs ?_
  exact W.iret X.1.1 X.1.2.1 hr (fun t ht hW => ⟨a, hφ, by rw [hv], by rw [ht]; exact hI.1, hI.2.1, hI.2.2.F ht⟩) hI.2.2.2.2 d X.2.1
theorem o_run {pc : Nat} {ls : Array Slot} {H : Heap} {locs : List Loc} {st0 : List Value} {aa : Array Value} {wc wr : va_W} {mc1 ms1 : Nat} (hp : ws.Perm (wc ++ wr)) (hA : ∀ q, s.heap.size ≤ q → A q) (hI : IW D A s ws H locs) (hr : va_Run p l e R s m args below meth c H locs cells slots mc1 ms1 (F0 m pc ls st0) rest (oQ D φ rf WW (va_A wc H.size) aa) (va_A wc H.size))
    (kk : ∀ a : α, φ a → ∀ H1 locs1, IW D A s (wr ++ WW a) H1 locs1 → W p l e R s m args below meth c H1 locs1 (cells + mc1) (slots + ms1) Q (F0 m (pc + 3) ls ((rf a).toList ++ rest))) : W p l e R s m args below meth c H locs cells slots Q (F0 m pc ls st0) := by
  intro T hT X
  obtain ⟨v2, st₀, t, T', L, h0, X', hL, e1, e2, ⟨a1, ha0, hv, hP1, hD1, hF⟩, st⟩ := hr T hT X
  have hv2 : v2 = rf a1 := Outcome.returned.inj hv
  subst hv2
  have h1 := pm_bkc hp
  have hfree : ∀ q, va_A wc H.size q → A q := by
    intro q h
    rcases h with ⟨k, e, h⟩ | h
    · exact (h1 D A H hI.1 hI.2.1).2.2 k _ h
    · exact hA q (Nat.le_trans hI.2.2.1 h)
  obtain ⟨k1, k2, k3⟩ := vx_keep h0 e1 hI.2.2 (fun q _ h => hfree q h) hfree hL hF
  obtain ⟨g1, g2⟩ := join_perm hp hI.1 hI.2.1 k2 hfree (by rw [e1]; exact hP1) hD1
  obtain ⟨t2, b1, b2⟩ := kk a1 ha0 T'.heap (locs ++ L) ⟨g1, g2, k3⟩ T' rfl X'
  exact ⟨t2, st t2 b1, b2⟩
/-- a static method -/
theorem z_oS {y : MethodName} {bytes : ByteArray} {maxL index n : Nat} {ret : Option FieldType} {rm : Room} {As : List Value} {wc wr : va_W} {mc1 ms1 : Nat} (X : CX p s m args meth c cc nL own D g) (hOK : OKK K) (hKc : ∀ H locs, IW D A s ws H locs → K (va_A wc H.size) s H) (hA : ∀ q, s.heap.size ≤ q → A q) (C : cardS y (Cond.code y bytes maxL ret) n) (hM : MO l y (Cond.code y bytes maxL ret) rm K D g As wc φ rf WW mc1 ms1) (hq : Cond.methodLink own index y ∈ lw_all) (d : decode cc pc = .ok (.invokestatic index, 3)) (hp : ws.Perm (wc ++ wr)) (hst : st = As.reverse ++ rest) (hn : As.length = n) (hR : fitsIn rm R maxL mc1 ms1 cells slots) (hW : (rest.map fun v => v.category).sum ≤ 8) (kk : ∀ a : α, φ a → Z p l e R s m args below meth c Q nL (cells + mc1) (slots + ms1) (IW D A s (wr ++ WW a)) (pc + 3) lv ((rf a).toList ++ rest)) : Z p l e R s m args below meth c Q nL cells slots (IW D A s ws) pc lv st := fun H locs ls hI hl =>
  o_run hp hA hI (va_runS X.1 (hM H.size) (cwS_of X C hq hR) (gPS hOK X.2.2 (hKc H locs hI) (pm_bkc hp) hI) rfl hn hl.1 hst (lv_room hW) d ⟨hR.2.2.2.2.1, hR.2.2.2.2.2⟩) (fun a ha H1 locs1 hI1 => kk a ha H1 locs1 ls hI1 hl)
/-- a virtual method of the receiver's own class; the receiver stands in the world, or is handed as a fact -/
theorem z_oV {y : MethodName} {bytes : ByteArray} {maxL index n b : Nat} {ret : Option FieldType} {rm : Room} {As : List Value} {wc wr : va_W} {mc1 ms1 : Nat} (X : CX p s m args meth c cc nL own D g) (hOK : OKK K) (hKc : ∀ H locs, IW D A s ws H locs → K (va_A wc H.size) s H) (hA : ∀ q, s.heap.size ≤ q → A q) (C : cardV y (Cond.code y bytes maxL ret) n) (hM : MO l y (Cond.code y bytes maxL ret) rm K D g (.ref b :: As) wc φ rf WW mc1 ms1) (hq : Cond.methodLink own index y ∈ lw_all) (d : decode cc pc = .ok (.invokevirtual index, 3)) (hp : ws.Perm (wc ++ wr)) (hrc : ∀ H locs, IW D A s ws H locs → ∃ cell : Cell, H[b]? = some cell ∧ cell.vm.isStatics = false ∧ s.vm.findClass y.cls = some cell.cls) (hst : st = As.reverse ++ .ref b :: rest) (hn : As.length = n) (hR : fitsIn rm R maxL mc1 ms1 cells slots) (hW : (rest.map fun v => v.category).sum ≤ 8) (kk : ∀ a : α, φ a → Z p l e R s m args below meth c Q nL (cells + mc1) (slots + ms1) (IW D A s (wr ++ WW a)) (pc + 3) lv ((rf a).toList ++ rest)) : Z p l e R s m args below meth c Q nL cells slots (IW D A s ws) pc lv st := fun H locs ls hI hl =>
  o_run hp hA hI (va_runV X.1 (hM H.size) (cwV_of X C hq hR) ⟨gP_blind hOK, hrc H locs hI, (gPS hOK X.2.2 (hKc H locs hI) (pm_bkc hp) hI).2⟩ rfl hn hl.1 hst (lv_room hW) d ⟨hR.2.2.2.2.1, hR.2.2.2.2.2⟩) (fun a ha H1 locs1 hI1 => kk a ha H1 locs1 ls hI1 hl)
/-- a virtual method of a superclass of the receiver's class C -/
theorem z_oU {x y : MethodName} {owner C : String} {bytes : ByteArray} {maxL index n b : Nat} {ret : Option FieldType} {rm : Room} {As : List Value} {wc wr : va_W} {mc1 ms1 : Nat} (X : CX p s m args meth c cc nL own D g) (hOK : OKK K) (hKc : ∀ H locs, IW D A s ws H locs → K (va_A wc H.size) s H) (hA : ∀ q, s.heap.size ≤ q → A q) (hM : MO l y (Cond.code y bytes maxL ret) rm K D g (.ref b :: As) wc φ rf WW mc1 ms1)
    (hcode : Cond.code y bytes maxL ret ∈ lw_all) (hini : Cond.initialized y.cls ∈ lw_all) (hno : owner ≠ "java/lang/invoke/MethodHandle" ∧ owner ≠ "java/lang/invoke/VarHandle") (hlen : (parseMethodDescriptor x.desc).map (fun d => d.parameters.length) = some n) (hq : Cond.methodLink own index x ∈ lw_all) (hsame : Cond.sameMethod x.cls owner x.name x.desc ∈ lw_all) (hdecl : va_Decl s ⟨owner, x.name, x.desc⟩) (hsel : (Cond.selects C x y).before args s = true) (hinst : Cond.instanceMethod y ∈ lw_all)
    (d : decode cc pc = .ok (.invokevirtual index, 3)) (hp : ws.Perm (wc ++ wr)) (hrc : ∀ H locs, IW D A s ws H locs → ∃ cell : Cell, H[b]? = some cell ∧ cell.vm.isStatics = false ∧ s.vm.findClass C = some cell.cls) (hst : st = As.reverse ++ .ref b :: rest) (hn : As.length = n) (hR : fitsIn rm R maxL mc1 ms1 cells slots) (hW : (rest.map fun v => v.category).sum ≤ 8) (kk : ∀ a : α, φ a → Z p l e R s m args below meth c Q nL (cells + mc1) (slots + ms1) (IW D A s (wr ++ WW a)) (pc + 3) lv ((rf a).toList ++ rest)) : Z p l e R s m args below meth c Q nL cells slots (IW D A s ws) pc lv st := fun H locs ls hI hl =>
  o_run hp hA hI (va_runU (owner := owner) (C := C) (x := x) X.1 (hM H.size) ⟨⟨hR.2.2.1, hR.2.2.2.1, hR.1, hR.2.1, pay_in X.1.2.2.2.2 (wA_G hcode), List.mem_cons_self⟩, X.1.2.2.2.2 _ hcode, X.1.2.2.2.2 _ hini, hno, fun sig h => by rw [h] at hlen; exact (Option.some.inj hlen).symm, X.1.2.2.2.2 _ hq, X.1.2.2.2.2 _ hsame, hdecl, hsel, X.1.2.2.2.2 _ hinst⟩ ⟨gP_blind hOK, hrc H locs hI, (gPS hOK X.2.2 (hKc H locs hI) (pm_bkc hp) hI).2⟩ rfl hn hl.1 hst (lv_room hW) d ⟨hR.2.2.2.2.1, hR.2.2.2.2.2⟩) (fun a ha H1 locs1 hI1 => kk a ha H1 locs1 ls hI1 hl)
/-- super.m(..) -/
theorem z_oSU {y : MethodName} {C : String} {cC : ClassId} {bytes : ByteArray} {maxL index n b : Nat} {ret : Option FieldType} {rm : Room} {As : List Value} {wc wr : va_W} {mc1 ms1 : Nat} (X : CX p s m args meth c cc nL own D g) (hat : ClassAt s C cC) (hOK : OKK K) (hKc : ∀ H locs, IW D A s ws H locs → K (va_A wc H.size) s H) (hA : ∀ q, s.heap.size ≤ q → A q) (hM : MO l y (Cond.code y bytes maxL ret) rm K D g (.ref b :: As) wc φ rf WW mc1 ms1)
    (hcode : Cond.code y bytes maxL ret ∈ lw_all) (hini : Cond.initialized y.cls ∈ lw_all) (hno : y.name ≠ "<init>") (hlen : (parseMethodDescriptor y.desc).map (fun d => d.parameters.length) = some n) (hq : Cond.methodLink own index y ∈ lw_all) (hsame : Cond.sameMethod y.cls y.cls y.name y.desc ∈ lw_all) (hsup : Cond.superclass own y.cls ∈ lw_all) (hinst : Cond.instanceMethod y ∈ lw_all)
    (d : decode cc pc = .ok (.invokespecial index, 3)) (hp : ws.Perm (wc ++ wr)) (hrc : ∀ H locs, IW D A s ws H locs → ∃ cell : Cell, H[b]? = some cell ∧ cell.vm.isStatics = false ∧ s.vm.findClass C = some cell.cls) (hst : st = As.reverse ++ .ref b :: rest) (hn : As.length = n) (hR : fitsIn rm R maxL mc1 ms1 cells slots) (hW : (rest.map fun v => v.category).sum ≤ 8) (kk : ∀ a : α, φ a → Z p l e R s m args below meth c Q nL (cells + mc1) (slots + ms1) (IW D A s (wr ++ WW a)) (pc + 3) lv ((rf a).toList ++ rest)) : Z p l e R s m args below meth c Q nL cells slots (IW D A s ws) pc lv st := fun H locs ls hI hl =>
  o_run hp hA hI (va_runSU hat X.1 (hM H.size) ⟨⟨hR.2.2.1, hR.2.2.2.1, hR.1, hR.2.1, pay_in X.1.2.2.2.2 (wA_G hcode), List.mem_cons_self⟩, X.1.2.2.2.2 _ hq, X.1.2.2.2.2 _ hsame, X.1.2.2.2.2 _ hsup, X.1.2.2.2.2 _ hinst, X.1.2.2.2.2 _ hini, X.1.2.2.2.2 _ hcode, hno, fun sig h => by rw [h] at hlen; exact (Option.some.inj hlen).symm⟩ ⟨gP_blind hOK, hrc H locs hI, (gPS hOK X.2.2 (hKc H locs hI) (pm_bkc hp) hI).2⟩ rfl hn hl.1 hst (lv_room hW) d ⟨hR.2.2.2.2.1, hR.2.2.2.2.2⟩) (fun a ha H1 locs1 hI1 => kk a ha H1 locs1 ls hI1 hl)
/-- a constructor -/
theorem z_oI {y : MethodName} {bytes : ByteArray} {maxL index n b : Nat} {rm : Room} {As : List Value} {wc wr : va_W} {mc1 ms1 : Nat} (X : CX p s m args meth c cc nL own D g) (hOK : OKK K) (hKc : ∀ H locs, IW D A s ws H locs → K (va_A wc H.size) s H) (hA : ∀ q, s.heap.size ≤ q → A q) (hM : MO l y (Cond.code y bytes maxL none) rm K D g (.ref b :: As) wc φ rf WW mc1 ms1)
    (hcode : Cond.code y bytes maxL none ∈ lw_all) (hini : Cond.initialized y.cls ∈ lw_all) (hnm : y.name = "<init>") (hno : y.cls ≠ "java/lang/invoke/MethodHandle" ∧ y.cls ≠ "java/lang/invoke/VarHandle") (hlen : (parseMethodDescriptor y.desc).map (fun d => d.parameters.length) = some n) (hq : Cond.methodLink own index y ∈ lw_all) (hinst : Cond.instanceMethod y ∈ lw_all)
    (d : decode cc pc = .ok (.invokespecial index, 3)) (hp : ws.Perm (wc ++ wr)) (hst : st = As.reverse ++ .ref b :: rest) (hn : As.length = n) (hR : fitsIn rm R maxL mc1 ms1 cells slots) (hW : (rest.map fun v => v.category).sum ≤ 8) (kk : ∀ a : α, φ a → Z p l e R s m args below meth c Q nL (cells + mc1) (slots + ms1) (IW D A s (wr ++ WW a)) (pc + 3) lv ((rf a).toList ++ rest)) : Z p l e R s m args below meth c Q nL cells slots (IW D A s ws) pc lv st := fun H locs ls hI hl =>
  o_run hp hA hI (va_runI X.1 (hM H.size) (cwI n X.1.2.2.2.2 (wA_G hcode) rfl hR.2.2.1 hR.2.2.2.1 (X.1.2.2.2.2 _ hini) (X.1.2.2.2.2 _ hq) (X.1.2.2.2.2 _ hinst) hnm ⟨hno.1, hno.2, hlen⟩ ⟨hR.1, hR.2.1⟩) (gPS hOK X.2.2 (hKc H locs hI) (pm_bkc hp) hI) rfl hn hl.1 hst (lv_room hW) d ⟨hR.2.2.2.2.1, hR.2.2.2.2.2⟩) (fun a ha H1 locs1 hI1 => kk a ha H1 locs1 ls hI1 hl)
/-- the receiver stands in the world -/
theorem rc_of {b q0 ci : Nat} {C : vw_C} {fs : List Value} (X : CX p s m args meth c cc nL own D g) (hc : vwCl[ci]? = some C) (he : ws[q0]? = some (b, .inr (ci, fs))) : ∀ H locs, IW D A s ws H locs → ∃ cell : Cell, H[b]? = some cell ∧ cell.vm.isStatics = false ∧ s.vm.findClass C.1 = some cell.cls := fun H locs hI => va_recv X.2.2.1 hI.1 hc he
end ZO
theorem pm_cut {E wc r X : va_W} (h : E.Perm (wc ++ r)) : (E ++ X).Perm (wc ++ (r ++ X)) := by
  rw [← List.append_assoc]
  exact h.append_right X
theorem pm_back {E wc r X N : va_W} (h : E.Perm (wc ++ r)) : ((r ++ X) ++ (N ++ wc)).Perm ((N ++ E) ++ X) := by
  refine List.perm_append_comm.trans ?_
  rw [List.append_assoc, List.append_assoc]
  refine List.Perm.append_left N ?_
  rw [← List.append_assoc]
  exact (h.symm).append_right X
