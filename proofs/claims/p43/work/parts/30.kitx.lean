def sOwn : Nat → String := fun i => match i with
  | 0 => RX11
  | 1 => RX11
  | 2 => RX11
  | 3 => RX11
  | 4 => RX11
  | 5 => RX11
  | 6 => RX3
  | 7 => RX3
  | 8 => RX3
  | 9 => RX3
  | 10 => RX3
  | 11 => RL
  | _ => ""
def sIdx : Nat → Nat := fun i => match i with
  | 0 => 367
  | 1 => 372
  | 2 => 360
  | 3 => 377
  | 4 => 382
  | 5 => 387
  | 6 => 72
  | 7 => 74
  | 8 => 76
  | 9 => 78
  | 10 => 80
  | 11 => 284
  | _ => 0
def sTx : Nat → String := fun i => match i with
  | 0 => "there is none of this number"
  | 1 => "this cannot be"
  | 2 => "this is refused"
  | 3 => "there is none"
  | 4 => "this cannot be now"
  | 5 => "there are none to divide by"
  | 6 => "2/2-2"
  | 7 => "1:1-1"
  | 8 => "1:1+1"
  | 9 => "1=2"
  | 10 => "2"
  | 11 => "@"
  | _ => ""
def sLen : List Nat := [28, 14, 15, 13, 18, 27, 5, 5, 5, 3, 1, 1]
def sByt : List (List Int32) := [[116, 104, 101, 114, 101, 32, 105, 115, 32, 110, 111, 110, 101, 32, 111, 102, 32, 116, 104, 105, 115, 32, 110, 117, 109, 98, 101, 114], [116, 104, 105, 115, 32, 99, 97, 110, 110, 111, 116, 32, 98, 101], [116, 104, 105, 115, 32, 105, 115, 32, 114, 101, 102, 117, 115, 101, 100], [116, 104, 101, 114, 101, 32, 105, 115, 32, 110, 111, 110, 101], [116, 104, 105, 115, 32, 99, 97, 110, 110, 111, 116, 32, 98, 101, 32, 110, 111, 119], [116, 104, 101, 114, 101, 32, 97, 114, 101, 32, 110, 111, 110, 101, 32, 116, 111, 32, 100, 105, 118, 105, 100, 101, 32, 98, 121], [50, 47, 50, 45, 50], [49, 58, 49, 45, 49], [49, 58, 49, 43, 49], [49, 61, 50], [50], [64]]
def sSt : Nat → Value := fun j => .int (([104, 98, 101, 114, 112, 116, 119] : List Int32).getD j 0)
/-- the exceptions by number -/
def exN : Nat → String := fun i => match i with
  | 1 => "java/lang/IndexOutOfBoundsException"
  | 2 => "java/lang/IllegalArgumentException"
  | 3 => "java/lang/UnsupportedOperationException"
  | 4 => "java/util/NoSuchElementException"
  | 5 => "java/lang/IllegalStateException"
  | 6 => "java/lang/ArithmeticException"
  | _ => ""
/-- pairs of classes of which the first isn't the second's -/
def lw_nc : List (String × String) := [("java/lang/UnsupportedOperationException", "java/lang/IllegalArgumentException"), ("java/lang/IllegalArgumentException", "java/lang/IndexOutOfBoundsException"), ("java/util/NoSuchElementException", "java/lang/IndexOutOfBoundsException"), ("java/util/NoSuchElementException", "java/lang/IllegalArgumentException"), ("java/lang/UnsupportedOperationException", "java/lang/IndexOutOfBoundsException")]
/-- what a method needs of the launch: statics, literals; A: the cells that may change -/
def EV (ak av : Nat → Nat) (aS : Nat) (A : Nat → Prop) (U : State) (H : Heap) : Prop :=
  ((vx_Zq Bundle.tN "UNASSIGNED_STACK" Bundle.steD A U H ∧ vx_Zq Bundle.tN "SUPPRESSED_SENTINEL" Bundle.listD A U H) ∧ (vk_S 12 sLen sByt ak av A U H ∧ ∀ i, i < 12 → vk_R (sOwn i) (sIdx i) (sTx i) (ak i) U)) ∧ ((va_Z "BellObservatory$Orders" "STARTS" "[C" (.ref aS) A U H ∧ va_T .char aS 7 sSt A U H) ∧ va_Z "java/lang/String" "COMPACT_STRINGS" "Z" (.int 1) A U H) ∧ (∀ q ∈ lw_nc, va_Nc q.1 q.2 U) ∧ vx_Zq "jdk/internal/util/Preconditions" "SIOOBE_FORMATTER" "Ljava/util/function/BiFunction;" A U H
theorem EV.kept {ak av : Nat → Nat} {aS : Nat} {A : Nat → Prop} {U : State} {H H1 : Heap} (h : EV ak av aS A U H) (hq : ∀ a : Nat, a < H.size → ¬ A a → H1[a]? = H[a]?) : EV ak av aS A U H1 :=
  ⟨⟨⟨h.1.1.1.kept hq, h.1.1.2.kept hq⟩, h.1.2.1.kept hq, h.1.2.2⟩, ⟨⟨h.2.1.1.1.kept hq, h.2.1.1.2.kept hq⟩, h.2.1.2.kept hq⟩, h.2.2.1, h.2.2.2.kept hq⟩
theorem EV.narrow {ak av : Nat → Nat} {aS : Nat} {A B : Nat → Prop} {U : State} {H : Heap} (h : EV ak av aS A U H) (hAB : ∀ q, B q → A q) : EV ak av aS B U H :=
  ⟨⟨⟨h.1.1.1.narrow hAB, h.1.1.2.narrow hAB⟩, h.1.2.1.narrow hAB, h.1.2.2⟩, ⟨⟨h.2.1.1.1.narrow hAB, h.2.1.1.2.narrow hAB⟩, h.2.1.2.narrow hAB⟩, h.2.2.1, h.2.2.2.narrow hAB⟩
theorem EV.warm {ak av : Nat → Nat} {aS : Nat} {A : Nat → Prop} {s U : State} {H : Heap} (hW : s.WarmedH U.vm) (h : EV ak av aS A s H) : EV ak av aS A U H :=
  ⟨⟨⟨vx_Zq.moved hW.alike h.1.1.1, vx_Zq.moved hW.alike h.1.1.2⟩, vk_S.moved hW.alike h.1.2.1, fun i hi => (h.1.2.2 i hi).warm hW⟩, ⟨⟨va_Z.moved hW.alike h.2.1.1.1, va_T.moved hW.alike h.2.1.1.2⟩, va_Z.moved hW.alike h.2.1.2⟩, fun q hq => va_Nc.moved hW.alike (h.2.2.1 q hq), vx_Zq.moved hW.alike h.2.2.2⟩
theorem EV.same {ak av : Nat → Nat} {aS : Nat} {A : Nat → Prop} {u U : State} {H : Heap} (hv : u.vm = U.vm) (h : EV ak av aS A u H) : EV ak av aS A U H := by
  have ha : u.vm.Alike U.vm := by rw [hv]; exact Vm.Alike.refl _
  exact ⟨⟨⟨vx_Zq.moved ha h.1.1.1, vx_Zq.moved ha h.1.1.2⟩, vk_S.moved ha h.1.2.1, fun i hi => vk_R.same hv.symm (h.1.2.2 i hi)⟩, ⟨⟨va_Z.moved ha h.2.1.1.1, va_T.moved ha h.2.1.1.2⟩, va_Z.moved ha h.2.1.2⟩, fun q hq => va_Nc.moved ha (h.2.2.1 q hq), vx_Zq.moved ha h.2.2.2⟩
/-! ===== a part of a world, and what comes back of it ===== -/
def bkc (ws wc : va_W) : Prop := ∀ (D : va_G) (A : Nat → Prop) (H : Heap), va_P D vwCl ws H → va_D A ws → va_P D vwCl wc H ∧ va_D A wc
def bk (ws ws' wc wc' : va_W) : Prop := ∀ (D : va_G) (A : Nat → Prop) (H H1 : Heap), va_P D vwCl ws H → va_D A ws → (∀ q : Nat, q < H.size → ¬ inW wc q → H1[q]? = H[q]?) → va_P D vwCl wc' H1 → va_P D vwCl ws' H1 ∧ va_D A ws'
theorem bkc_of {ws ws' wc wc' wr : va_W} {as is js : List Nat} (hf : fitsW ws ws' wc wc' wr as is js) : bkc ws wc := fun D A H hP hD => ⟨fun k q hq => by
  obtain ⟨i, -, hi⟩ := map_at hf.1 hq
  exact hP i q hi, hD.sub is hf.2.2.2.2.2.2.2 hf.1⟩
theorem bk_of {ws ws' wc wc' wr : va_W} {as is js : List Nat} (hf : fitsW ws ws' wc wc' wr as is js) : bk ws ws' wc wc' := fun D A H H1 hP hD hk hP1 => wr_back hf hP hD hk hP1
def exP (ak av : Nat → Nat) (aS : Nat) (D : va_G) (g : Nat → ClassId) (as : List Value) (ws : va_W) (sz : Nat) : Array Value → State → Prop := va_Pc as (fun U => U.heap.size = sz ∧ va_P D vwCl ws U.heap ∧ KK D g U ∧ va_D (fun _ => True) ws ∧ EV ak av aS (va_A ws sz) U U.heap)
def exQ (D : va_G) (v : Option Value) (ws' : va_W) (A : Nat → Prop) (x : Nat) : Array Value → State → Outcome → State → Prop := fun _ st o t => x = 0 ∧ o = .returned v ∧ va_P D vwCl ws' t.heap ∧ va_F A st t
def exX (D : va_G) (ws' : va_W) (A : Nat → Prop) (x : Nat) : String → State → State → Prop := fun E st t => x ≠ 0 ∧ E = exN x ∧ va_P D vwCl ws' t.heap ∧ va_F A st t
/-- the contract of a method that may throw: x is 0 if it returns -/
abbrev MX (l : Launch) (y : MethodName) (cd : Cond) (rm : Room) (ak av : Nat → Nat) (aS : Nat) (D : va_G) (g : Nat → ClassId) (as : List Value) (ws : va_W) (x : Nat) (v : Option Value) (ws' : va_W) (mc ms : Nat) : Prop := ∀ sz : Nat, vx_Met l y (wA cd) rm (exP ak av aS D g as ws sz) (exQ D v ws' (va_A ws sz) x) (exX D ws' (va_A ws sz) x) mc ms (va_A ws sz)
theorem exP_blind {ak av : Nat → Nat} {aS : Nat} {D : va_G} {g : Nat → ClassId} {as : List Value} {ws : va_W} {sz : Nat} : FrameBlind (exP ak av aS D g as ws sz) := fun a U f mk q => ⟨q.1, q.2.1, q.2.2.1, KK.same (s := U) (U := U.calling f mk a) rfl q.2.2.2.1, q.2.2.2.2.1, EV.same (u := U) (U := U.calling f mk a) rfl q.2.2.2.2.2⟩
section ZX
variable {p : Program} {l : Launch} {e : Env} {R : Room} {s : State} {m : MethodId} {args : Array Value} {below : List Frame} {meth : Method} {c : Code} {Q : State → Prop} {nL cells slots mc ms : Nat} {I : Heap → List Loc → Prop} {pc : Nat} {lv lv' : List (Nat × Value)} {st rest : List Value} {cc : ByteArray} {own : String} {D : va_G} {g : Nat → ClassId} {ws ws' ws0 : va_W} {A : Nat → Prop} {ak av : Nat → Nat} {aS : Nat} {x : Nat} {v : Option Value}
/-- the exception of class E is thrown over the frame at pc -/
def ZT (p : Program) (l : Launch) (e : Env) (R : Room) (s : State) (m : MethodId) (args : Array Value) (below : List Frame) (meth : Method) (c : Code) (Q : State → Prop) (nL cells slots : Nat) (I : Heap → List Loc → Prop) (pc : Nat) (lv : List (Nat × Value)) (st : List Value) (E : String) : Prop :=
  ∀ (H : Heap) (locs : List Loc) (ls : Array Slot) (q : Addr) (ce : Cell), I H locs → lv_has ls nL lv → H[q]? = some ce → ce.vm = .none → s.vm.findClass E = some ce.cls → vx_W p l e R s m args below meth c H locs cells slots Q (F0 m pc ls st) q
theorem z_ex_start {y : MethodName} {cc : ByteArray} {maxL : Nat} {ret : Option FieldType} {rm : Room} {as : List Value} (hy : plainName y.cls = true) (hlen : (lg_sl as).length ≤ maxL)
    (body : ∀ (p : Program) (e : Env) (s : State) (m : MethodId) (args : Array Value) (below : List Frame) (meth : Method) (c : Code) (Q : State → Prop) (A : Nat → Prop), CX p s m args meth c cc maxL y.cls D g → meth.sig.returnType = ret → EV ak av aS A s s.heap → (∀ q, s.heap.size ≤ q → A q) → (∀ x ∈ c.exceptionTable.toList, False) → Q = vx_MQ below (exQ D v ws' A x) (exX D ws' A x) args s mc ms A → Z p l e rm s m args below meth c Q maxL 0 0 (IW D A s ws) 0 (lv_args 0 as) []) : MX l y (Cond.code y cc maxL ret) rm ak av aS D g as ws x v ws' mc ms := by
  intro sz
  refine vx_ofW (cc := cc) (maxL := maxL) (ret := ret) hy rfl ?_
  intro p e s m args below meth c s₁ B hml hno hv
  obtain ⟨rfl, hsz, hP, hK, hD, hE⟩ := hv
  have hts := atoms_spec (ws := wA (Cond.code y cc maxL ret)) B.pre
  have hts : ∀ w ∈ lw_all, w.before as.toArray s = true := fun w h => hts w (List.mem_cons_of_mem _ h)
  have hl := lv_entry as (n := maxL) hlen
  rw [lg_entry_eq]
  exact body p e s m _ below meth c _ _ ⟨⟨B.exec, B.bytes, hml, findClass_of_methodNamed B.named, hts⟩, B.notSynchronized, hK⟩ B.returns hE (fun q h => Or.inr (by rw [← hsz]; exact h)) hno rfl s.heap [] _ ⟨hP, hD.self, va_S.rf⟩ hl
theorem z_iretX {v : Int32} (X : CX p s m args meth c cc nL own D g) (hQ : Q = vx_MQ below (exQ D (some (.int v)) ws A 0) (exX D ws A 0) args s mc ms A) (hc : cells ≤ mc) (hs : slots ≤ ms) (hr : meth.sig.returnType = some .int) (d : decode cc pc = .ok (.ireturn, 1)) : Z p l e R s m args below meth c Q nL cells slots (IW D A s ws) pc lv [.int v] := by
  subst hQ
  intro H locs ls hI hl
  refine W.widen hc hs (vx_ret ?_)
  exact W.iret X.1.1 X.1.2.1 hr (fun t ht hW => ⟨rfl, rfl, by rw [ht]; exact hI.1, hI.2.2.F ht⟩) hI.2.2.2.2 d X.2.1
theorem z_zretX {v : Int32} {ty : FieldType} (X : CX p s m args meth c cc nL own D g) (hQ : Q = vx_MQ below (exQ D (some (.int v)) ws A 0) (exX D ws A 0) args s mc ms A) (hc : cells ≤ mc) (hs : slots ≤ ms) (hr : meth.sig.returnType = some ty) (d : decode cc pc = .ok (.ireturn, 1)) (hn : narrow ty (.int v) = .int v) : Z p l e R s m args below meth c Q nL cells slots (IW D A s ws) pc lv [.int v] := by
  subst hQ
  intro H locs ls hI hl
  refine W.widen hc hs (vx_ret ?_)
  exact W.zret X.1.1 X.1.2.1 hr hn (fun t ht hW => ⟨rfl, rfl, by rw [ht]; exact hI.1, hI.2.2.F ht⟩) hI.2.2.2.2 d X.2.1
theorem z_vretX (X : CX p s m args meth c cc nL own D g) (hQ : Q = vx_MQ below (exQ D none ws A 0) (exX D ws A 0) args s mc ms A) (hc : cells ≤ mc) (hs : slots ≤ ms) (hr : meth.sig.returnType = none) (d : decode cc pc = .ok (.return_, 1)) : Z p l e R s m args below meth c Q nL cells slots (IW D A s ws) pc lv [] := by
  subst hQ
  intro H locs ls hI hl
  refine W.widen hc hs (vx_ret ?_)
  exact W.vret X.1.1 X.1.2.1 hr (fun t ht hW => ⟨rfl, rfl, by rw [ht]; exact hI.1, hI.2.2.F ht⟩) hI.2.2.2.2 d X.2.1
/-- it leaves the method -/
theorem zt_out {Qc : Array Value → State → Outcome → State → Prop} (X : CX p s m args meth c cc nL own D g) (hno : ∀ x ∈ c.exceptionTable.toList, False) (hQ : Q = vx_MQ below Qc (exX D ws A x) args s mc ms A) (hx : x ≠ 0) (hc : cells ≤ mc) (hs : slots ≤ ms) : ZT p l e R s m args below meth c Q nL cells slots (IW D A s ws) pc lv st (exN x) := by
  subst hQ
  intro H locs ls q ce hI hl h1 h2 h3
  exact vx_out (fun x h => (hno x h).elim) X.2.1 h1 h2 h3 (fun t ht hvm => ⟨hx, rfl, by rw [ht]; exact hI.1, hI.2.2.F ht⟩) hI.2.2.2.2 hc hs
theorem ex_run {pc : Nat} {ls : Array Slot} {H : Heap} {locs : List Loc} {st0 : List Value} {a : Array Value} {wc wc' : va_W} {mc1 ms1 x1 : Nat} (h1 : bkc ws wc) (h2 : bk ws ws' wc wc') (hA : ∀ q, s.heap.size ≤ q → A q) (hI : IW D A s ws H locs) (hr : vx_Run p l e R s m args below meth c H locs cells slots mc1 ms1 (F0 m pc ls st0) rest (exQ D v wc' (va_A wc H.size) x1 a) (exX D wc' (va_A wc H.size) x1) (va_A wc H.size))
    (kk : x1 = 0 → ∀ H1 locs1, IW D A s ws' H1 locs1 → W p l e R s m args below meth c H1 locs1 (cells + mc1) (slots + ms1) Q (F0 m (pc + 3) ls (v.toList ++ rest)))
    (kx : x1 ≠ 0 → ∀ H1 locs1 (q : Addr) (ce : Cell), IW D A s ws' H1 locs1 → H1[q]? = some ce → ce.vm = .none → s.vm.findClass (exN x1) = some ce.cls → vx_W p l e R s m args below meth c H1 locs1 (cells + mc1) (slots + ms1) Q (F0 m pc ls rest) q) : W p l e R s m args below meth c H locs cells slots Q (F0 m pc ls st0) := by
  intro T hT X
  have hAin : ∀ q, va_A wc H.size q → A q := by
    intro q h
    rcases h with ⟨k, e, h⟩ | h
    · exact (h1 D A H hI.1 hI.2.1).2.2 k _ h
    · exact hA q (Nat.le_trans hI.2.2.1 h)
  have next : ∀ (st₀ t T' : State) (L : List Loc), st₀.heap = H → T'.heap = t.heap → (∀ q ∈ L, va_A wc H.size q.base) → va_P D vwCl wc' t.heap → va_F (va_A wc H.size) st₀ t → IW D A s ws' T'.heap (locs ++ L) := by
    intro st₀ t T' L h0 e1 hL hP hF
    obtain ⟨k1, k2, k3⟩ := vx_keep h0 e1 hI.2.2 (fun q _ h => hAin q h) hAin hL hF
    obtain ⟨g1, g2⟩ := h2 D A H T'.heap hI.1 hI.2.1 (fun q hq hn => k2 q hq (fun z => by
      rcases z with z | z
      · exact hn z
      · omega)) (by rw [e1]; exact hP)
    exact ⟨g1, g2, k3⟩
  rcases hr T hT X with ⟨v2, st₀, t, T', L, h0, X', hL, e1, e2, ⟨hx, hv, hP, hF⟩, st⟩ | ⟨q, st₀, t, T', L, E, ce, h0, X', hL, e1, e2, ⟨hx, rfl, hP, hF⟩, hce, hcv, hcl, st⟩
  · have hv2 : v2 = v := by cases hv; rfl
    subst hv2
    obtain ⟨t2, a1, b1⟩ := kk hx T'.heap (locs ++ L) (next st₀ t T' L h0 e1 hL hP hF) T' rfl X'
    exact ⟨t2, st t2 a1, b1⟩
  · obtain ⟨t2, a1, b1⟩ := kx hx T'.heap (locs ++ L) q ce (next st₀ t T' L h0 e1 hL hP hF) (by rw [e1]; exact hce) hcv hcl T' rfl X'
    exact ⟨t2, st.trans a1, b1⟩
theorem exPS {as : List Value} {wc : va_W} {H : Heap} {locs : List Loc} (hK : KK D g s) (hE : EV ak av aS A s s.heap) (hA : ∀ q, s.heap.size ≤ q → A q) (h1 : bkc ws wc) (hI : IW D A s ws H locs) : PreS s H (exP ak av aS D g as wc H.size) as := by
  refine ⟨exP_blind, fun U hU hW => ?_⟩
  obtain ⟨g1, g2⟩ := h1 D A H hI.1 hI.2.1
  refine ⟨rfl, by rw [hU], by rw [hU]; exact g1, hK.warm hW, g2.weaken (fun _ _ _ _ => trivial), ?_⟩
  rw [hU]
  refine ((hE.kept hI.2.2.2.1).narrow (fun q h => ?_)).warm hW
  rcases h with ⟨k, e, h⟩ | h
  · exact g2.2 k _ h
  · exact hA q (Nat.le_trans hI.2.2.1 h)

theorem z_exS {y : MethodName} {bytes : ByteArray} {maxL index n : Nat} {ret : Option FieldType} {rm : Room} {As : List Value} {wc wc' : va_W} {mc1 ms1 x1 : Nat} (X : CX p s m args meth c cc nL own D g) (hE : EV ak av aS A s s.heap) (hA : ∀ q, s.heap.size ≤ q → A q) (K : cardS y (Cond.code y bytes maxL ret) n) (hM : MX l y (Cond.code y bytes maxL ret) rm ak av aS D g As wc x1 v wc' mc1 ms1) (hq : Cond.methodLink own index y ∈ lw_all) (d : decode cc pc = .ok (.invokestatic index, 3)) (h1 : bkc ws wc) (h2 : bk ws ws' wc wc') (hst : st = As.reverse ++ rest) (hn : As.length = n) (hR : fitsIn rm R maxL mc1 ms1 cells slots) (hW : (rest.map fun v => v.category).sum ≤ 8) (kk : x1 = 0 → Z p l e R s m args below meth c Q nL (cells + mc1) (slots + ms1) (IW D A s ws') (pc + 3) lv (v.toList ++ rest)) (kx : x1 ≠ 0 → ZT p l e R s m args below meth c Q nL (cells + mc1) (slots + ms1) (IW D A s ws') pc lv rest (exN x1)) : Z p l e R s m args below meth c Q nL cells slots (IW D A s ws) pc lv st := fun H locs ls hI hl =>
  ex_run h1 h2 hA hI (vx_runS X.1 (hM H.size) (cwS_of X K hq hR) (exPS X.2.2 hE hA h1 hI) rfl hn hl.1 hst (lv_room hW) d ⟨hR.2.2.2.2.1, hR.2.2.2.2.2⟩) (fun hx H1 locs1 hI1 => kk hx H1 locs1 ls hI1 hl) (fun hx H1 locs1 q ce hI1 a1 a2 a3 => kx hx H1 locs1 ls q ce hI1 hl a1 a2 a3)
theorem z_exV {y : MethodName} {bytes : ByteArray} {maxL index n b q0 ci : Nat} {ret : Option FieldType} {rm : Room} {As : List Value} {wc wc' : va_W} {mc1 ms1 x1 : Nat} {C : vw_C} {fs : List Value} (X : CX p s m args meth c cc nL own D g) (hE : EV ak av aS A s s.heap) (hA : ∀ q, s.heap.size ≤ q → A q) (K : cardV y (Cond.code y bytes maxL ret) n) (hM : MX l y (Cond.code y bytes maxL ret) rm ak av aS D g (.ref b :: As) wc x1 v wc' mc1 ms1) (hq : Cond.methodLink own index y ∈ lw_all) (d : decode cc pc = .ok (.invokevirtual index, 3)) (h1 : bkc ws wc) (h2 : bk ws ws' wc wc') (hc : vwCl[ci]? = some C) (hC : C.1 = y.cls) (he : ws[q0]? = some (b, .inr (ci, fs))) (hst : st = As.reverse ++ .ref b :: rest) (hn : As.length = n) (hR : fitsIn rm R maxL mc1 ms1 cells slots) (hW : (rest.map fun v => v.category).sum ≤ 8) (kk : x1 = 0 → Z p l e R s m args below meth c Q nL (cells + mc1) (slots + ms1) (IW D A s ws') (pc + 3) lv (v.toList ++ rest)) (kx : x1 ≠ 0 → ZT p l e R s m args below meth c Q nL (cells + mc1) (slots + ms1) (IW D A s ws') pc lv rest (exN x1)) : Z p l e R s m args below meth c Q nL cells slots (IW D A s ws) pc lv st := fun H locs ls hI hl =>
  ex_run h1 h2 hA hI (vx_runV X.1 (hM H.size) (cwV_of X K hq hR) ⟨exP_blind, (by rw [← hC]; exact va_recv X.2.2.1 hI.1 hc he), (exPS X.2.2 hE hA h1 hI).2⟩ rfl hn hl.1 hst (lv_room hW) d ⟨hR.2.2.2.2.1, hR.2.2.2.2.2⟩) (fun hx H1 locs1 hI1 => kk hx H1 locs1 ls hI1 hl) (fun hx H1 locs1 q ce hI1 a1 a2 a3 => kx hx H1 locs1 ls q ce hI1 hl a1 a2 a3)
theorem wgPS {As : List Value} {wc : va_W} {H : Heap} {locs : List Loc} (hK : KK D g s) (h1 : bkc ws wc) (hI : IW D A s ws H locs) : PreS s H (wrP D g As wc) As := by
  refine ⟨wrP_blind, fun U hU hW => ?_⟩
  obtain ⟨g1, g2⟩ := h1 D A H hI.1 hI.2.1
  exact ⟨rfl, by rw [hU]; exact g1, hK.warm hW, g2.weaken (fun _ _ _ _ => trivial)⟩
theorem wg_run {pc : Nat} {ls : Array Slot} {H : Heap} {locs : List Loc} {st0 : List Value} {a : Array Value} {wc wc' : va_W} (h1 : bkc ws wc) (h2 : bk ws ws' wc wc') (hI : IW D A s ws H locs) (hr : va_Run p l e R s m args below meth c H locs cells slots 0 0 (F0 m pc ls st0) rest (wrQ D v wc wc' a) (inW wc)) (kk : ∀ H1 locs1, IW D A s ws' H1 locs1 → W p l e R s m args below meth c H1 locs1 cells slots Q (F0 m (pc + 3) ls (v.toList ++ rest))) : W p l e R s m args below meth c H locs cells slots Q (F0 m pc ls st0) := by
  intro T hT X
  obtain ⟨v2, st₀, t, T', L, h0, X', hL, e1, e2, ⟨hv, hP1, hz, hk⟩, st⟩ := hr T hT X
  have hv2 : v2 = v := by cases hv; rfl
  subst hv2
  rw [h0] at hz hk
  have hA : ∀ q, inW wc q → A q := fun q ⟨k, e, h⟩ => (h1 D A H hI.1 hI.2.1).2.2 k _ h
  obtain ⟨hP2, hD2⟩ := h2 D A H T'.heap hI.1 hI.2.1 (fun q h1 h2 => by rw [e1]; exact hk q h1 h2) (by rw [e1]; exact hP1)
  obtain ⟨t2, a1, b1⟩ := kk T'.heap (locs ++ L) ⟨hP2, hD2, Nat.le_trans hI.2.2.1 (by rw [e1]; exact hz), fun q h1 h2 => by rw [e1, hk q (Nat.lt_of_lt_of_le h1 hI.2.2.1) (fun z => h2 (hA q z))]; exact hI.2.2.2.1 q h1 h2, fun q hq => by
    rcases List.mem_append.mp hq with h | h
    · exact hI.2.2.2.2 q h
    · exact hA _ (hL q h)⟩ T' rfl X'
  exact ⟨t2, st t2 a1, b1⟩
theorem z_wgV {y : MethodName} {bytes : ByteArray} {maxL index n b q0 ci : Nat} {ret : Option FieldType} {rm : Room} {As : List Value} {wc wc' : va_W} {C : vw_C} {fs : List Value} (X : CX p s m args meth c cc nL own D g) (K : cardV y (Cond.code y bytes maxL ret) n) (hM : MW l y (Cond.code y bytes maxL ret) rm D g (.ref b :: As) wc v wc') (hq : Cond.methodLink own index y ∈ lw_all) (d : decode cc pc = .ok (.invokevirtual index, 3)) (h1 : bkc ws wc) (h2 : bk ws ws' wc wc') (hc : vwCl[ci]? = some C) (hC : C.1 = y.cls) (he : ws[q0]? = some (b, .inr (ci, fs))) (hst : st = As.reverse ++ .ref b :: rest) (hn : As.length = n) (hR : fitsIn rm R maxL 0 0 cells slots) (hW : (rest.map fun v => v.category).sum ≤ 8) (kk : Z p l e R s m args below meth c Q nL cells slots (IW D A s ws') (pc + 3) lv (v.toList ++ rest)) : Z p l e R s m args below meth c Q nL cells slots (IW D A s ws) pc lv st := fun H locs ls hI hl =>
  wg_run h1 h2 hI (va_runV X.1 hM (cwV_of X K hq hR) ⟨wrP_blind, (by rw [← hC]; exact va_recv X.2.2.1 hI.1 hc he), (wgPS X.2.2 h1 hI).2⟩ rfl hn hl.1 hst (lv_room hW) d ⟨hR.2.2.2.2.1, hR.2.2.2.2.2⟩) (fun H1 locs1 hI1 => kk H1 locs1 ls hI1 hl)
/-- 'throw new E("text")' -/
theorem z_throw {Qc : Array Value → State → Outcome → State → Prop} {cls : String} {names : List String} {ik is ic si : Nat} (X : CX p s m args meth c cc nL own D g) (hE : EV ak av aS A s s.heap) (hno : ∀ x ∈ c.exceptionTable.toList, False) (hfl : l.stackTraces = false) (hQ : Q = vx_MQ below Qc (exX D ws A x) args s mc ms A) (hx : x ≠ 0) (hcls : Bundle.fit cls = true) (hnames : ∀ n ∈ names, Bundle.fit n = true) (hcx : cls = exN x)
    (hk : Cond.classLink own ik cls ∈ lw_all) (hini : Cond.initialized cls ∈ lw_all) (hsi : si < 12) (hso : sOwn si = own) (hsx : sIdx si = is) (hat : ∀ w ∈ vx_atS own ic cls names, w ∈ lw_all ∨ w ∈ lw_nst) (hgood : ∀ w ∈ Cond.classLink own ik cls :: Cond.initialized cls :: vx_atS own ic cls names, vx_ot w = true)
    (d0 : decode cc pc = .ok (.new ik, 3)) (d3 : decode cc (pc + 3) = .ok (.dup, 1)) (d4 : decode cc (pc + 4) = .ok (.ldc_w is, 3)) (d7 : decode cc (pc + 7) = .ok (.invokespecial ic, 3)) (d10 : decode cc (pc + 10) = .ok (.athrow, 1))
    (hRframes : names.length + 3 < R.frames) (hRlocals : (st.map fun v => v.category).sum + (13 * (names.length + 1) + 43) ≤ R.locals) (hRcells : cells + 1 ≤ R.cells) (hRslots : slots + 6 ≤ R.slots) (hc : cells + 1 ≤ mc) (hs : slots + 6 ≤ ms) : Z p l e R s m args below meth c Q nL cells slots (IW D A s ws) pc lv st := by
  subst hQ
  intro H locs ls hI hl
  have hstr := hE.1.2.2 si hsi
  rw [hso, hsx] at hstr
  refine vx_throwSW X.1.1 X.1.2.1 hfl X.1.2.2.2.1 hcls hnames (X.1.2.2.2.2 _ hk) (X.1.2.2.2.2 _ hini) hstr (fun w hw => ?_) hgood hE.1.1.1 hE.1.1.2 hI.2.2 (hl.1.trans X.1.2.2.1.symm) d0 d3 d4 d7 d10 (fun x h => (hno x h).elim) hRframes hRlocals hRcells hRslots X.2.1 (fun t hvm hz hk => ?_) hI.2.2.2.2 hc hs
  · rcases hat w hw with h | h
    · exact X.1.2.2.2.2 _ h
    · refine va_Nw.use ?_ (X.2.2.2 w h)
      rcases nst_keeps w h with (⟨a, i, b, n, d, z, rfl⟩ | ⟨a, i, x, z, rfl⟩) | ⟨x, rfl⟩ | ⟨a, b, rfl⟩ <;> rfl
  · refine ⟨hx, hcx, hI.1.kept (fun k q hq => hk q.1 (hI.1 k q hq).lt), Nat.le_trans hI.2.2.1 hz, fun q h1 h2 => ?_⟩
    rw [hk q (Nat.lt_of_lt_of_le h1 hI.2.2.1)]
    exact hI.2.2.2.1 q h1 h2
end ZX
theorem bkc_nil {ws : va_W} : bkc ws [] := fun D A H hP hD => ⟨fun k q h => by simp at h, ⟨fun i j p q h => by simp at h, fun k q h => by simp at h⟩⟩
theorem bk_nil {ws : va_W} : bk ws ws [] [] := fun D A H H1 hP hD hk hP1 => ⟨hP.kept (fun k q hq => hk q.1 (hP k q hq).lt (fun ⟨k2, e2, h2⟩ => by simp at h2)), hD⟩
theorem z_widen {p : Program} {l : Launch} {e : Env} {R : Room} {s : State} {m : MethodId} {args : Array Value} {below : List Frame} {meth : Method} {c : Code} {Q : State → Prop} {nL cells slots : Nat} {I : Heap → List Loc → Prop} {pc : Nat} {lv : List (Nat × Value)} {st : List Value} {k n : Nat} (h1 : cells ≤ k) (h2 : slots ≤ n) (kk : Z p l e R s m args below meth c Q nL k n I pc lv st) : Z p l e R s m args below meth c Q nL cells slots I pc lv st := fun H locs ls hI hl => W.widen h1 h2 (kk H locs ls hI hl)

theorem xt_3 : ∀ w ∈ vx_atS RX11 362 "java/lang/UnsupportedOperationException" ["java/lang/RuntimeException", "java/lang/Exception"], w ∈ lw_all ∨ w ∈ lw_nst := by decide +kernel
theorem xg_3 : ∀ w ∈ Cond.classLink RX11 358 "java/lang/UnsupportedOperationException" :: Cond.initialized "java/lang/UnsupportedOperationException" :: vx_atS RX11 362 "java/lang/UnsupportedOperationException" ["java/lang/RuntimeException", "java/lang/Exception"], vx_ot w = true := by decide +kernel
theorem xt_1 : ∀ w ∈ vx_atS RX11 369 "java/lang/IndexOutOfBoundsException" ["java/lang/RuntimeException", "java/lang/Exception"], w ∈ lw_all ∨ w ∈ lw_nst := by decide +kernel
theorem xg_1 : ∀ w ∈ Cond.classLink RX11 365 "java/lang/IndexOutOfBoundsException" :: Cond.initialized "java/lang/IndexOutOfBoundsException" :: vx_atS RX11 369 "java/lang/IndexOutOfBoundsException" ["java/lang/RuntimeException", "java/lang/Exception"], vx_ot w = true := by decide +kernel
theorem xt_2 : ∀ w ∈ vx_atS RX11 374 "java/lang/IllegalArgumentException" ["java/lang/RuntimeException", "java/lang/Exception"], w ∈ lw_all ∨ w ∈ lw_nst := by decide +kernel
theorem xg_2 : ∀ w ∈ Cond.classLink RX11 370 "java/lang/IllegalArgumentException" :: Cond.initialized "java/lang/IllegalArgumentException" :: vx_atS RX11 374 "java/lang/IllegalArgumentException" ["java/lang/RuntimeException", "java/lang/Exception"], vx_ot w = true := by decide +kernel
theorem xt_5 : ∀ w ∈ vx_atS RX11 384 "java/lang/IllegalStateException" ["java/lang/RuntimeException", "java/lang/Exception"], w ∈ lw_all ∨ w ∈ lw_nst := by decide +kernel
theorem xg_5 : ∀ w ∈ Cond.classLink RX11 380 "java/lang/IllegalStateException" :: Cond.initialized "java/lang/IllegalStateException" :: vx_atS RX11 384 "java/lang/IllegalStateException" ["java/lang/RuntimeException", "java/lang/Exception"], vx_ot w = true := by decide +kernel
theorem xt_6 : ∀ w ∈ vx_atS RX11 389 "java/lang/ArithmeticException" ["java/lang/RuntimeException", "java/lang/Exception"], w ∈ lw_all ∨ w ∈ lw_nst := by decide +kernel
theorem xg_6 : ∀ w ∈ Cond.classLink RX11 385 "java/lang/ArithmeticException" :: Cond.initialized "java/lang/ArithmeticException" :: vx_atS RX11 389 "java/lang/ArithmeticException" ["java/lang/RuntimeException", "java/lang/Exception"], vx_ot w = true := by decide +kernel
