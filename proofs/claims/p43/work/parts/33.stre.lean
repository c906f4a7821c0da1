/-! ===== methods over literals and statics alone ===== -/
def edP (ak av : Nat → Nat) (aS : Nat) (D : va_G) (g : Nat → ClassId) (as : List Value) : Array Value → State → Prop := va_Pc as (fun U => KK D g U ∧ EV ak av aS noA U U.heap)
/-- the contract of a method that reads literals -/
abbrev ME (l : Launch) (y : MethodName) (cd : Cond) (rm : Room) (ak av : Nat → Nat) (aS : Nat) (D : va_G) (g : Nat → ClassId) (as : List Value) (v : Option Value) : Prop := Met l y (wA cd) rm (edP ak av aS D g as) (rdQ v) 0 0 noA
theorem edP_blind {ak av : Nat → Nat} {aS : Nat} {D : va_G} {g : Nat → ClassId} {as : List Value} : FrameBlind (edP ak av aS D g as) := fun a U f mk q => ⟨q.1, KK.same (s := U) (U := U.calling f mk a) rfl q.2.1, EV.same (u := U) (U := U.calling f mk a) rfl q.2.2⟩
/-- what has moved since s.heap lies in A -/
abbrev HasS (A : Nat → Prop) (s : State) (I : Heap → List Loc → Prop) : Prop := ∀ H locs, I H locs → va_S A s.heap H locs
theorem IR_S {A : Nat → Prop} {D : va_G} {ws : va_W} {s : State} : HasS A s (IR D ws s) := fun H locs h => by
  obtain ⟨rfl, rfl, -⟩ := h
  exact va_S.rf
theorem IW_S {A : Nat → Prop} {D : va_G} {ws : va_W} {s : State} : HasS A s (IW D A s ws) := fun H locs h => h.2.2
theorem edPS {D : va_G} {g : Nat → ClassId} {s : State} {As : List Value} {A : Nat → Prop} {H : Heap} {locs : List Loc} {ak av : Nat → Nat} {aS : Nat} (hK : KK D g s) (hE : EV ak av aS A s s.heap) (hS : va_S A s.heap H locs) : PreS s H (edP ak av aS D g As) As :=
  ⟨edP_blind, fun U hU hW => ⟨rfl, hK.warm hW, by rw [hU]; exact ((hE.kept hS.2.1).narrow (fun _ h => h.elim)).warm hW⟩⟩
section ZE
variable {p : Program} {l : Launch} {e : Env} {R : Room} {s : State} {m : MethodId} {args : Array Value} {below : List Frame} {meth : Method} {c : Code} {Q : State → Prop} {nL cells slots : Nat} {I : Heap → List Loc → Prop} {pc : Nat} {lv lv' : List (Nat × Value)} {st rest : List Value} {cc : ByteArray} {own : String} {D : va_G} {g : Nat → ClassId} {ws : va_W} {A : Nat → Prop} {ak av : Nat → Nat} {aS : Nat}
theorem z_ed_start {y : MethodName} {cc : ByteArray} {maxL : Nat} {ret : Option FieldType} {rm : Room} {as : List Value} {v : Option Value} (hy : plainName y.cls = true) (hlen : (lg_sl as).length ≤ maxL)
    (body : ∀ (p : Program) (e : Env) (s : State) (m : MethodId) (args : Array Value) (below : List Frame) (meth : Method) (c : Code) (Q : State → Prop), CX p s m args meth c cc maxL y.cls D g → meth.sig.returnType = ret → EV ak av aS noA s s.heap → Q = MQ below (rdQ v) args s 0 0 noA → Z p l e rm s m args below meth c Q maxL 0 0 (IR D [] s) 0 (lv_args 0 as) []) : ME l y (Cond.code y cc maxL ret) rm ak av aS D g as v := by
  refine Met.ofW (cc := cc) (maxL := maxL) (ret := ret) hy rfl ?_
  intro p e s m args below meth c s₁ B hml hv
  obtain ⟨rfl, hK, hE⟩ := hv
  have hts := atoms_spec (ws := wA (Cond.code y cc maxL ret)) B.pre
  have hts : ∀ w ∈ lw_all, w.before as.toArray s = true := fun w h => hts w (List.mem_cons_of_mem _ h)
  have hl := lv_entry as (n := maxL) hlen
  rw [lg_entry_eq]
  exact body p e s m _ below meth c _ ⟨⟨B.exec, B.bytes, hml, findClass_of_methodNamed B.named, hts⟩, B.notSynchronized, hK⟩ B.returns hE rfl s.heap [] _ ⟨rfl, rfl, fun k q h => by simp at h⟩ hl
theorem z_edS {y : MethodName} {bytes : ByteArray} {maxL index n : Nat} {ret : Option FieldType} {rm : Room} {As : List Value} {v : Option Value} (X : CX p s m args meth c cc nL own D g) (hS : HasS A s I) (hE : EV ak av aS A s s.heap) (K : cardS y (Cond.code y bytes maxL ret) n) (hM : ME l y (Cond.code y bytes maxL ret) rm ak av aS D g As v) (hq : Cond.methodLink own index y ∈ lw_all) (d : decode cc pc = .ok (.invokestatic index, 3)) (hst : st = As.reverse ++ rest) (hn : As.length = n) (hR : fitsIn rm R maxL 0 0 cells slots) (hW : (rest.map fun v => v.category).sum ≤ 8) (kk : Z p l e R s m args below meth c Q nL cells slots I (pc + 3) lv (v.toList ++ rest)) : Z p l e R s m args below meth c Q nL cells slots I pc lv st := fun H locs ls hI hl =>
  rd_run (va_runS X.1 hM (cwS_of X K hq hR) (edPS X.2.2 hE (hS H locs hI)) rfl hn hl.1 hst (lv_room hW) d ⟨hR.2.2.2.2.1, hR.2.2.2.2.2⟩) (kk H locs ls hI hl)
theorem z_edV {y : MethodName} {bytes : ByteArray} {maxL index n i : Nat} {ret : Option FieldType} {rm : Room} {As : List Value} {v : Option Value} (X : CX p s m args meth c cc nL own D g) (hS : HasS A s I) (hE : EV ak av aS A s s.heap) (K : cardV y (Cond.code y bytes maxL ret) n) (hM : ME l y (Cond.code y bytes maxL ret) rm ak av aS D g (.ref (ak i) :: As) v) (hq : Cond.methodLink own index y ∈ lw_all) (d : decode cc pc = .ok (.invokevirtual index, 3)) (hi : i < 12) (hC : "java/lang/String" = y.cls) (hst : st = As.reverse ++ .ref (ak i) :: rest) (hn : As.length = n) (hR : fitsIn rm R maxL 0 0 cells slots) (hW : (rest.map fun v => v.category).sum ≤ 8) (kk : Z p l e R s m args below meth c Q nL cells slots I (pc + 3) lv (v.toList ++ rest)) : Z p l e R s m args below meth c Q nL cells slots I pc lv st := fun H locs ls hI hl =>
  rd_run (va_runV X.1 hM (cwV_of X K hq hR) ⟨edP_blind, (by rw [← hC]; exact vk_recv hE.1.2.1 hi (hS H locs hI)), (edPS X.2.2 hE (hS H locs hI)).2⟩ rfl hn hl.1 hst (lv_room hW) d ⟨hR.2.2.2.2.1, hR.2.2.2.2.2⟩) (kk H locs ls hI hl)
theorem z_gets {C n d : String} {v : Value} {index : Nat} (X : CX p s m args meth c cc nL own D g) (hS : HasS A s I) (hZ : va_Z C n d v A s s.heap) (hq : Cond.fieldLink own index C n d ∈ lw_all) (dd : decode cc pc = .ok (.getstatic index, 3)) (kk : Z p l e R s m args below meth c Q nL cells slots I (pc + 3) lv (v :: st)) : Z p l e R s m args below meth c Q nL cells slots I pc lv st := fun H locs ls hI hl =>
  va_gets X.1.1 X.1.2.1 hZ (hS H locs hI) X.1.2.2.2.1 (X.1.2.2.2.2 _ hq) (fun _ h => h) dd (kk H locs ls hI hl)
theorem z_ldcS {si index : Nat} (X : CX p s m args meth c cc nL own D g) (hE : EV ak av aS A s s.heap) (hi : si < 12) (ho : sOwn si = own) (hx : sIdx si = index) (dd : decode cc pc = .ok (.ldc index, 2)) (kk : Z p l e R s m args below meth c Q nL cells slots I (pc + 2) lv (.ref (ak si) :: st)) : Z p l e R s m args below meth c Q nL cells slots I pc lv st := fun H locs ls hI hl => by
  have h := hE.1.2.2 si hi
  rw [ho, hx] at h
  exact va_ldcS X.1.1 X.1.2.1 X.1.2.2.2.1 h dd (kk H locs ls hI hl)
theorem z_getc {o n d : String} {index q : Nat} {v : Value} (X : CX p s m args meth c cc nL own D g) (hS : HasS A s I) (hO : va_OF o n d v q A s s.heap) (hq : Cond.fieldLink own index o n d ∈ lw_all) (dd : decode cc pc = .ok (.getfield index, 3)) (kk : Z p l e R s m args below meth c Q nL cells slots I (pc + 3) lv (v :: st)) : Z p l e R s m args below meth c Q nL cells slots I pc lv (.ref q :: st) := fun H locs ls hI hl =>
  vk_getf X.1.1 X.1.2.1 hO (hS H locs hI) X.1.2.2.2.1 (X.1.2.2.2.2 _ hq) (fun _ h => h) dd (kk H locs ls hI hl)
theorem z_tlen {ty : FieldType} {t N : Nat} {f : Nat → Value} {v : Int32} (X : CX p s m args meth c cc nL own D g) (hS : HasS A s I) (hT : va_T ty t N f A s s.heap) (hv : Int32.ofNat N = v) (dd : decode cc pc = .ok (.arraylength, 1)) (kk : Z p l e R s m args below meth c Q nL cells slots I (pc + 1) lv (.int v :: st)) : Z p l e R s m args below meth c Q nL cells slots I pc lv (.ref t :: st) := fun H locs ls hI hl =>
  va_tlen X.1.1 X.1.2.1 hT (hS H locs hI) hv dd (kk H locs ls hI hl)
theorem z_tb {α : Type} {F : Option α} {o : α} {t N : Nat} {f : Nat → Value} {i : Int32} {v : Value} (X : CX p s m args meth c cc nL own D g) (hS : HasS A s I) (hT : va_T .byte t N f A s s.heap) (h : grd (inb i N) F = some o) (hv : f i.toNatClampNeg = v) (dd : decode cc pc = .ok (.baload, 1)) (kk : F = some o → Z p l e R s m args below meth c Q nL cells slots I (pc + 1) lv (v :: st)) : Z p l e R s m args below meth c Q nL cells slots I pc lv (.int i :: .ref t :: st) := fun H locs ls hI hl =>
  va_tb X.1.1 X.1.2.1 hT (hS H locs hI) (vp_of_inb (grd_p h).1) hv dd (kk (grd_p h).2 H locs ls hI hl)
theorem z_tc {α : Type} {F : Option α} {o : α} {t N : Nat} {f : Nat → Value} {i : Int32} {v : Value} (X : CX p s m args meth c cc nL own D g) (hS : HasS A s I) (hT : va_T .char t N f A s s.heap) (h : grd (inb i N) F = some o) (hv : f i.toNatClampNeg = v) (dd : decode cc pc = .ok (.caload, 1)) (kk : F = some o → Z p l e R s m args below meth c Q nL cells slots I (pc + 1) lv (v :: st)) : Z p l e R s m args below meth c Q nL cells slots I pc lv (.int i :: .ref t :: st) := fun H locs ls hI hl =>
  va_tc X.1.1 X.1.2.1 hT (hS H locs hI) (vp_of_inb (grd_p h).1) hv dd (kk (grd_p h).2 H locs ls hI hl)
theorem z_i2b {x : Int32} (X : CX p s m args meth c cc nL own D g) (d : decode cc pc = .ok (.i2b, 1)) (kk : Z p l e R s m args below meth c Q nL cells slots I (pc + 1) lv (.int x.toInt8.toInt32 :: st)) : Z p l e R s m args below meth c Q nL cells slots I pc lv (.int x :: st) := fun H locs ls hI hl => lv_i2b X.1.1 X.1.2.1 d rfl (kk H locs ls hI hl)
theorem z_vretR (X : CX p s m args meth c cc nL own D g) (hQ : Q = MQ below (rdQ none) args s 0 0 noA) (hr : meth.sig.returnType = none) (d : decode cc pc = .ok (.return_, 1)) : Z p l e R s m args below meth c Q nL 0 0 (IR D ws s) pc lv [] := by
  subst hQ
  intro H locs ls hI hl
  obtain ⟨rfl, rfl, hP⟩ := hI
  exact W.vret X.1.1 X.1.2.1 hr (fun t ht hW => ⟨rfl, ht⟩) (fun q h => absurd h List.not_mem_nil) d X.2.1
variable {mc ms x : Nat} {ws0 : va_W}
theorem z_i2d {x : Int32} (X : CX p s m args meth c cc nL own D g) (d : decode cc pc = .ok (.i2d, 1)) (kk : Z p l e R s m args below meth c Q nL cells slots I (pc + 1) lv (.double (FP.i2d x) :: st)) : Z p l e R s m args below meth c Q nL cells slots I pc lv (.int x :: st) := fun H locs ls hI hl => lv_i2d X.1.1 X.1.2.1 d (kk H locs ls hI hl)
theorem z_i2f {x : Int32} (X : CX p s m args meth c cc nL own D g) (d : decode cc pc = .ok (.i2f, 1)) (kk : Z p l e R s m args below meth c Q nL cells slots I (pc + 1) lv (.float (FP.i2f x) :: st)) : Z p l e R s m args below meth c Q nL cells slots I pc lv (.int x :: st) := fun H locs ls hI hl => lv_i2f X.1.1 X.1.2.1 d (kk H locs ls hI hl)
theorem z_ddiv {x y : UInt64} (X : CX p s m args meth c cc nL own D g) (hn : FP.ddiv x y &&& 0x7fffffffffffffff ≤ 0x7ff0000000000000) (d : decode cc pc = .ok (.ddiv, 1)) (kk : Z p l e R s m args below meth c Q nL cells slots I (pc + 1) lv (.double (FP.ddiv x y) :: st)) : Z p l e R s m args below meth c Q nL cells slots I pc lv (.double y :: .double x :: st) := fun H locs ls hI hl => lv_ddiv X.1.1 X.1.2.1 d hn (kk H locs ls hI hl)
theorem z_fdiv {x y : UInt32} (X : CX p s m args meth c cc nL own D g) (hn : FP.fdiv x y &&& 0x7fffffff ≤ 0x7f800000) (d : decode cc pc = .ok (.fdiv, 1)) (kk : Z p l e R s m args below meth c Q nL cells slots I (pc + 1) lv (.float (FP.fdiv x y) :: st)) : Z p l e R s m args below meth c Q nL cells slots I pc lv (.float y :: .float x :: st) := fun H locs ls hI hl => lv_fdiv X.1.1 X.1.2.1 d hn (kk H locs ls hI hl)
theorem z_dconst0 (X : CX p s m args meth c cc nL own D g) (d : decode cc pc = .ok (.dconst 0, 1)) (kk : Z p l e R s m args below meth c Q nL cells slots I (pc + 1) lv (.double FP.dconst0 :: st)) : Z p l e R s m args below meth c Q nL cells slots I pc lv st := fun H locs ls hI hl => lv_dconst0 X.1.1 X.1.2.1 d (kk H locs ls hI hl)
theorem z_fconst0 (X : CX p s m args meth c cc nL own D g) (d : decode cc pc = .ok (.fconst 0, 1)) (kk : Z p l e R s m args below meth c Q nL cells slots I (pc + 1) lv (.float FP.fconst0 :: st)) : Z p l e R s m args below meth c Q nL cells slots I pc lv st := fun H locs ls hI hl => lv_fconst0 X.1.1 X.1.2.1 d (kk H locs ls hI hl)
theorem z_dretX {v : UInt64} (X : CX p s m args meth c cc nL own D g) (hQ : Q = vx_MQ below (exQ D (some (.double v)) ws A 0) (exX D ws A 0) args s mc ms A) (hc : cells ≤ mc) (hs : slots ≤ ms) (hr : meth.sig.returnType = some .double) (d : decode cc pc = .ok (.dreturn, 1)) : Z p l e R s m args below meth c Q nL cells slots (IW D A s ws) pc lv [.double v] := by
  subst hQ
  intro H locs ls hI hl
  refine W.widen hc hs (vx_ret ?_)
  exact W.dret X.1.1 X.1.2.1 hr (fun t ht hW => ⟨rfl, rfl, by rw [ht]; exact hI.1, hI.2.2.F ht⟩) hI.2.2.2.2 d X.2.1
theorem z_fretX {v : UInt32} (X : CX p s m args meth c cc nL own D g) (hQ : Q = vx_MQ below (exQ D (some (.float v)) ws A 0) (exX D ws A 0) args s mc ms A) (hc : cells ≤ mc) (hs : slots ≤ ms) (hr : meth.sig.returnType = some .float) (d : decode cc pc = .ok (.freturn, 1)) : Z p l e R s m args below meth c Q nL cells slots (IW D A s ws) pc lv [.float v] := by
  subst hQ
  intro H locs ls hI hl
  refine W.widen hc hs (vx_ret ?_)
  exact W.fret X.1.1 X.1.2.1 hr (fun t ht hW => ⟨rfl, rfl, by rw [ht]; exact hI.1, hI.2.2.F ht⟩) hI.2.2.2.2 d X.2.1
theorem z_dretW {v : UInt64} (X : CX p s m args meth c cc nL own D g) (hQ : Q = MQ below (wrQ D (some (.double v)) ws0 ws) args s 0 0 (inW ws0)) (hA : A = inW ws0) (hr : meth.sig.returnType = some .double) (d : decode cc pc = .ok (.dreturn, 1)) : Z p l e R s m args below meth c Q nL 0 0 (IW D A s ws) pc lv [.double v] := by
  subst hQ hA
  intro H locs ls hI hl
  exact W.dret X.1.1 X.1.2.1 hr (fun t ht hW => ⟨rfl, by rw [ht]; exact hI.1, hI.2.2.F ht⟩) hI.2.2.2.2 d X.2.1
theorem z_fretW {v : UInt32} (X : CX p s m args meth c cc nL own D g) (hQ : Q = MQ below (wrQ D (some (.float v)) ws0 ws) args s 0 0 (inW ws0)) (hA : A = inW ws0) (hr : meth.sig.returnType = some .float) (d : decode cc pc = .ok (.freturn, 1)) : Z p l e R s m args below meth c Q nL 0 0 (IW D A s ws) pc lv [.float v] := by
  subst hQ hA
  intro H locs ls hI hl
  exact W.fret X.1.1 X.1.2.1 hr (fun t ht hW => ⟨rfl, by rw [ht]; exact hI.1, hI.2.2.F ht⟩) hI.2.2.2.2 d X.2.1
end ZE
/-- the char at j of the orders' starts -/
def sStI (j : Nat) : Int32 := ([104, 98, 101, 114, 112, 116, 119] : List Int32).getD j 0

theorem dJ3_checkIndex_8e157_0 : decode cJ3_checkIndex_8e157 0 = .ok (.iload_n 0, 1) := by decide +kernel
theorem dJ3_checkIndex_8e157_1 : decode cJ3_checkIndex_8e157 1 = .ok (.ifCond .lt 8, 3) := by decide +kernel
theorem dJ3_checkIndex_8e157_4 : decode cJ3_checkIndex_8e157 4 = .ok (.iload_n 0, 1) := by decide +kernel
theorem dJ3_checkIndex_8e157_5 : decode cJ3_checkIndex_8e157 5 = .ok (.iload_n 1, 1) := by decide +kernel
theorem dJ3_checkIndex_8e157_6 : decode cJ3_checkIndex_8e157 6 = .ok (.if_icmp .lt 10, 3) := by decide +kernel
theorem dJ3_checkIndex_8e157_9 : decode cJ3_checkIndex_8e157 9 = .ok (.aload_n 2, 1) := by decide +kernel
theorem dJ3_checkIndex_8e157_10 : decode cJ3_checkIndex_8e157 10 = .ok (.iload_n 0, 1) := by decide +kernel
theorem dJ3_checkIndex_8e157_11 : decode cJ3_checkIndex_8e157 11 = .ok (.iload_n 1, 1) := by decide +kernel
theorem dJ3_checkIndex_8e157_12 : decode cJ3_checkIndex_8e157 12 = .ok (.invokestatic 95, 3) := by decide +kernel
theorem dJ3_checkIndex_8e157_15 : decode cJ3_checkIndex_8e157 15 = .ok (.athrow, 1) := by decide +kernel
theorem dJ3_checkIndex_8e157_16 : decode cJ3_checkIndex_8e157 16 = .ok (.iload_n 0, 1) := by decide +kernel
theorem dJ3_checkIndex_8e157_17 : decode cJ3_checkIndex_8e157 17 = .ok (.ireturn, 1) := by decide +kernel
theorem k_J3_checkIndex_8e157 : cardS yJ3_checkIndex_8e157 (Cond.code yJ3_checkIndex_8e157 cJ3_checkIndex_8e157 3 (some .int)) 3 := ⟨qs_J3_checkIndex_8e157, qc_J3_checkIndex_8e157, qn_J3, by decide +kernel, by decide +kernel, by decide +kernel⟩
theorem dJ0_checkIndex_df160_0 : decode cJ0_checkIndex_df160 0 = .ok (.iload_n 0, 1) := by decide +kernel
theorem dJ0_checkIndex_df160_1 : decode cJ0_checkIndex_df160 1 = .ok (.iload_n 1, 1) := by decide +kernel
theorem dJ0_checkIndex_df160_2 : decode cJ0_checkIndex_df160 2 = .ok (.getstatic 1053, 3) := by decide +kernel
theorem dJ0_checkIndex_df160_5 : decode cJ0_checkIndex_df160 5 = .ok (.invokestatic 1059, 3) := by decide +kernel
theorem dJ0_checkIndex_df160_8 : decode cJ0_checkIndex_df160 8 = .ok (.pop, 1) := by decide +kernel
theorem dJ0_checkIndex_df160_9 : decode cJ0_checkIndex_df160 9 = .ok (.return_, 1) := by decide +kernel
theorem k_J0_checkIndex_df160 : cardS yJ0_checkIndex_df160 (Cond.code yJ0_checkIndex_df160 cJ0_checkIndex_df160 2 none) 2 := ⟨qs_J0_checkIndex_df160, qc_J0_checkIndex_df160, qn_J0, by decide +kernel, by decide +kernel, by decide +kernel⟩
theorem c_J3_checkIndex_8e157 (l : Launch) (ak av : Nat → Nat) (aS : Nat) (D : va_G) (g : Nat → ClassId) (p0 p1 : Int32) (w : Value) (hw : w = .null ∨ ∃ t, w = .ref t) (h0 : ¬ p0 < 0) (h1 : p0 < p1) : ME l yJ3_checkIndex_8e157 (Cond.code yJ3_checkIndex_8e157 cJ3_checkIndex_8e157 3 (some .int)) { frames := 0, cells := 0, slots := 0, locals := 0 } ak av aS D g [.int p0, .int p1, w] (some (.int p0)) := by
  rcases hw with rfl | ⟨t, rfl⟩
  all_goals
    refine z_ed_start (by decide) (Nat.le_of_ble_eq_true rfl) ?_
    intro p e s m args below meth c Q X hr hE hQ
    refine z_lv (lv' := [(0, .int p0), (1, .int p1), (2, _)]) rfl ?_
    refine z_iload_n X 0 dJ3_checkIndex_8e157_0 rfl rfl ?_
    refine z_if_lt (F1 := some ()) (F2 := some ()) (o := ()) X 9 dJ3_checkIndex_8e157_1 (by decide) (by unfold brn; split <;> rfl) (fun q _ => absurd q h0) (fun _ _ => ?_)
    refine z_iload_n X 0 dJ3_checkIndex_8e157_4 rfl rfl ?_
    refine z_iload_n X 1 dJ3_checkIndex_8e157_5 rfl rfl ?_
    refine z_icmp_lt (F1 := some ()) (F2 := some ()) (o := ()) X 16 dJ3_checkIndex_8e157_6 (by decide) (by unfold brn; split <;> rfl) (fun _ _ => ?_) (fun q _ => absurd h1 q)
    refine z_iload_n X 0 dJ3_checkIndex_8e157_16 rfl rfl ?_
    exact z_iretR X hQ hr dJ3_checkIndex_8e157_17 rfl
def F_J0_checkIndex_df160 (p0 p1 : Int32) : Option Unit := grd (¬ p0 < 0) (grd (p0 < p1) (some ()))
theorem c_J0_checkIndex_df160 (l : Launch) (ak av : Nat → Nat) (aS : Nat) (D : va_G) (g : Nat → ClassId) (p0 p1 : Int32) (o : Unit) (h : F_J0_checkIndex_df160 p0 p1 = some o) : ME l yJ0_checkIndex_df160 (Cond.code yJ0_checkIndex_df160 cJ0_checkIndex_df160 2 none) { frames := 1, cells := 0, slots := 0, locals := 22 } ak av aS D g [.int p0, .int p1] none := by
  obtain ⟨h0, h⟩ := grd_p h
  obtain ⟨h1, h⟩ := grd_p h
  refine z_ed_start (by decide) (Nat.le_of_ble_eq_true rfl) ?_
  intro p e s m args below meth c Q X hr hE hQ
  refine z_lv (lv' := [(0, .int p0), (1, .int p1)]) rfl ?_
  refine z_iload_n X 0 dJ0_checkIndex_df160_0 rfl rfl ?_
  refine z_iload_n X 1 dJ0_checkIndex_df160_1 rfl rfl ?_
  rcases hE.2.2.2 with hZ | ⟨t, hZ⟩
  all_goals
    refine z_gets X IR_S hZ qf_J0_J3_SIOOBE_FORMATTER dJ0_checkIndex_df160_2 ?_
    refine z_edS (rest := []) X IR_S hE k_J3_checkIndex_8e157 (c_J3_checkIndex_8e157 l ak av aS D g p0 p1 _ (by first | exact Or.inl rfl | exact Or.inr ⟨_, rfl⟩) h0 h1) ql_J0_J3_checkIndex_8e157 dJ0_checkIndex_df160_5 rfl rfl ⟨Nat.le_of_ble_eq_true rfl, Nat.le_of_ble_eq_true rfl, rfl, rfl, Nat.le_of_ble_eq_true rfl, Nat.le_of_ble_eq_true rfl⟩ (Nat.le_of_ble_eq_true rfl) ?_
    refine z_pop X dJ0_checkIndex_df160_8 rfl ?_
    exact z_vretR X hQ hr dJ0_checkIndex_df160_9

def F_J0_coder_7d493 (pthis : Nat) : Option (Int32) :=
  brn ((1 : Int32) = 0) (none) (grd (pthis < 12) (some ((0 : Int32))))

theorem dJ0_coder_7d493_0 : decode cJ0_coder_7d493 0 = .ok (.getstatic 38, 3) := by decide +kernel
theorem dJ0_coder_7d493_3 : decode cJ0_coder_7d493 3 = .ok (.ifCond .eq 10, 3) := by decide +kernel
theorem dJ0_coder_7d493_6 : decode cJ0_coder_7d493 6 = .ok (.aload_n 0, 1) := by decide +kernel
theorem dJ0_coder_7d493_7 : decode cJ0_coder_7d493 7 = .ok (.getfield 15, 3) := by decide +kernel
theorem dJ0_coder_7d493_10 : decode cJ0_coder_7d493 10 = .ok (.goto 4, 3) := by decide +kernel
theorem dJ0_coder_7d493_13 : decode cJ0_coder_7d493 13 = .ok (.iconst 1, 1) := by decide +kernel
theorem dJ0_coder_7d493_14 : decode cJ0_coder_7d493 14 = .ok (.ireturn, 1) := by decide +kernel
theorem k_J0_coder_7d493 : cardV yJ0_coder_7d493 (Cond.code yJ0_coder_7d493 cJ0_coder_7d493 1 (some .byte)) 0 := ⟨⟨qi_J0_coder_7d493, qv_J0_coder_7d493⟩, qc_J0_coder_7d493, qn_J0, by decide +kernel, by decide +kernel, by decide +kernel⟩
set_option maxHeartbeats 4000000 in
set_option maxRecDepth 100000 in
theorem c_J0_coder_7d493 (l : Launch) (ak av : Nat → Nat) (aS : Nat) (D : va_G) (g : Nat → ClassId) (pthis : Nat) (o : Int32) (h : F_J0_coder_7d493 pthis = some o) : ME l yJ0_coder_7d493 (Cond.code yJ0_coder_7d493 cJ0_coder_7d493 1 (some .byte)) { frames := 0, cells := 0, slots := 0, locals := 0 } ak av aS D g [.ref (ak pthis)] (some (.int o)) := by
  refine z_ed_start (by decide) (Nat.le_of_ble_eq_true rfl) ?_
  intro p e s m args below meth c Q X hr hE hQ
  refine z_lv (lv' := [(0, .ref (ak pthis))]) rfl ?_
  refine z_gets X IR_S hE.2.1.2 qf_J0_J0_COMPACT_STRINGS dJ0_coder_7d493_0 ?_
  refine z_if_eq X 13 dJ0_coder_7d493_3 (by decide) h (fun _ h => ?_) (fun _ h => ?_)
  · cases h
  · refine z_aload_n X 0 dJ0_coder_7d493_6 rfl rfl ?_
    obtain ⟨e1, h⟩ := grd_p h
    refine z_getc X IR_S (hE.1.2.1.1 _ e1).2.1 qf_J0_J0_coder dJ0_coder_7d493_7 ?_
    refine z_goto X 14 dJ0_coder_7d493_10 (by decide) ?_
    exact z_zretR X hQ hr dJ0_coder_7d493_14 rfl h

def F_J0_isLatin1_aae02 (pthis : Nat) : Option (Int32) :=
  brn ((1 : Int32) = 0) (none) (grd (pthis < 12) (brn ((0 : Int32) = 0) (some ((1 : Int32))) (none)))

theorem dJ0_isLatin1_aae02_0 : decode cJ0_isLatin1_aae02 0 = .ok (.getstatic 38, 3) := by decide +kernel
theorem dJ0_isLatin1_aae02_3 : decode cJ0_isLatin1_aae02 3 = .ok (.ifCond .eq 14, 3) := by decide +kernel
theorem dJ0_isLatin1_aae02_6 : decode cJ0_isLatin1_aae02 6 = .ok (.aload_n 0, 1) := by decide +kernel
theorem dJ0_isLatin1_aae02_7 : decode cJ0_isLatin1_aae02 7 = .ok (.getfield 15, 3) := by decide +kernel
theorem dJ0_isLatin1_aae02_10 : decode cJ0_isLatin1_aae02 10 = .ok (.ifCond .ne 7, 3) := by decide +kernel
theorem dJ0_isLatin1_aae02_13 : decode cJ0_isLatin1_aae02 13 = .ok (.iconst 1, 1) := by decide +kernel
theorem dJ0_isLatin1_aae02_14 : decode cJ0_isLatin1_aae02 14 = .ok (.goto 4, 3) := by decide +kernel
theorem dJ0_isLatin1_aae02_17 : decode cJ0_isLatin1_aae02 17 = .ok (.iconst 0, 1) := by decide +kernel
theorem dJ0_isLatin1_aae02_18 : decode cJ0_isLatin1_aae02 18 = .ok (.ireturn, 1) := by decide +kernel
theorem k_J0_isLatin1_aae02 : cardV yJ0_isLatin1_aae02 (Cond.code yJ0_isLatin1_aae02 cJ0_isLatin1_aae02 1 (some .boolean)) 0 := ⟨⟨qi_J0_isLatin1_aae02, qv_J0_isLatin1_aae02⟩, qc_J0_isLatin1_aae02, qn_J0, by decide +kernel, by decide +kernel, by decide +kernel⟩
set_option maxHeartbeats 4000000 in
set_option maxRecDepth 100000 in
theorem c_J0_isLatin1_aae02 (l : Launch) (ak av : Nat → Nat) (aS : Nat) (D : va_G) (g : Nat → ClassId) (pthis : Nat) (o : Int32) (h : F_J0_isLatin1_aae02 pthis = some o) : ME l yJ0_isLatin1_aae02 (Cond.code yJ0_isLatin1_aae02 cJ0_isLatin1_aae02 1 (some .boolean)) { frames := 0, cells := 0, slots := 0, locals := 0 } ak av aS D g [.ref (ak pthis)] (some (.int o)) := by
  refine z_ed_start (by decide) (Nat.le_of_ble_eq_true rfl) ?_
  intro p e s m args below meth c Q X hr hE hQ
  refine z_lv (lv' := [(0, .ref (ak pthis))]) rfl ?_
  refine z_gets X IR_S hE.2.1.2 qf_J0_J0_COMPACT_STRINGS dJ0_isLatin1_aae02_0 ?_
  refine z_if_eq X 17 dJ0_isLatin1_aae02_3 (by decide) h (fun _ h => ?_) (fun _ h => ?_)
  · cases h
  · refine z_aload_n X 0 dJ0_isLatin1_aae02_6 rfl rfl ?_
    obtain ⟨e1, h⟩ := grd_p h
    refine z_getc X IR_S (hE.1.2.1.1 _ e1).2.1 qf_J0_J0_coder dJ0_isLatin1_aae02_7 ?_
    refine z_if_ne X 17 dJ0_isLatin1_aae02_10 (by decide) h (fun _ h => ?_) (fun _ h => ?_)
    · refine z_iconst X (1 : Int32) dJ0_isLatin1_aae02_13 (by decide) ?_
      refine z_goto X 18 dJ0_isLatin1_aae02_14 (by decide) ?_
      exact z_zretR X hQ hr dJ0_isLatin1_aae02_18 rfl h
    · cases h

def F_J0_length_8abf5 (pthis : Nat) : Option (Int32) :=
  grd (pthis < 12) (grd (pthis < 12) (grd (pthis < 12) (bnd (F_J0_coder_7d493 pthis) (fun o3 => some ((Int32.ofNat (sLen.getD pthis 0)) >>> (o3 &&& 31))))))

theorem dJ0_length_8abf5_0 : decode cJ0_length_8abf5 0 = .ok (.aload_n 0, 1) := by decide +kernel
theorem dJ0_length_8abf5_1 : decode cJ0_length_8abf5 1 = .ok (.getfield 9, 3) := by decide +kernel
theorem dJ0_length_8abf5_4 : decode cJ0_length_8abf5 4 = .ok (.arraylength, 1) := by decide +kernel
theorem dJ0_length_8abf5_5 : decode cJ0_length_8abf5 5 = .ok (.aload_n 0, 1) := by decide +kernel
theorem dJ0_length_8abf5_6 : decode cJ0_length_8abf5 6 = .ok (.invokevirtual 335, 3) := by decide +kernel
theorem dJ0_length_8abf5_9 : decode cJ0_length_8abf5 9 = .ok (.ishr, 1) := by decide +kernel
theorem dJ0_length_8abf5_10 : decode cJ0_length_8abf5 10 = .ok (.ireturn, 1) := by decide +kernel
theorem k_J0_length_8abf5 : cardV yJ0_length_8abf5 (Cond.code yJ0_length_8abf5 cJ0_length_8abf5 1 (some .int)) 0 := ⟨⟨qi_J0_length_8abf5, qv_J0_length_8abf5⟩, qc_J0_length_8abf5, qn_J0, by decide +kernel, by decide +kernel, by decide +kernel⟩
set_option maxHeartbeats 4000000 in
set_option maxRecDepth 100000 in
theorem c_J0_length_8abf5 (l : Launch) (ak av : Nat → Nat) (aS : Nat) (D : va_G) (g : Nat → ClassId) (pthis : Nat) (o : Int32) (h : F_J0_length_8abf5 pthis = some o) : ME l yJ0_length_8abf5 (Cond.code yJ0_length_8abf5 cJ0_length_8abf5 1 (some .int)) { frames := 1, cells := 0, slots := 0, locals := 20 } ak av aS D g [.ref (ak pthis)] (some (.int o)) := by
  refine z_ed_start (by decide) (Nat.le_of_ble_eq_true rfl) ?_
  intro p e s m args below meth c Q X hr hE hQ
  refine z_lv (lv' := [(0, .ref (ak pthis))]) rfl ?_
  refine z_aload_n X 0 dJ0_length_8abf5_0 rfl rfl ?_
  obtain ⟨e1, h⟩ := grd_p h
  refine z_getc X IR_S (hE.1.2.1.1 _ e1).2.2.1 qf_J0_J0_value dJ0_length_8abf5_1 ?_
  obtain ⟨e2, h⟩ := grd_p h
  refine z_tlen (v := Int32.ofNat (sLen.getD pthis 0)) X IR_S (hE.1.2.1.1 _ e2).2.2.2 rfl dJ0_length_8abf5_4 ?_
  refine z_aload_n X 0 dJ0_length_8abf5_5 rfl rfl ?_
  obtain ⟨e5, h⟩ := grd_p h
  obtain ⟨o3, e4, h⟩ := bnd_p h
  refine z_edV (rest := [.int (Int32.ofNat (sLen.getD pthis 0))]) X IR_S hE k_J0_coder_7d493 (c_J0_coder_7d493 l ak av aS D g pthis o3 e4) ql_J0_J0_coder_7d493 dJ0_length_8abf5_6 e5 rfl rfl rfl ⟨Nat.le_of_ble_eq_true rfl, Nat.le_of_ble_eq_true rfl, rfl, rfl, Nat.le_of_ble_eq_true rfl, Nat.le_of_ble_eq_true rfl⟩ (Nat.le_of_ble_eq_true rfl) ?_
  refine z_ishr X dJ0_length_8abf5_9 ?_
  exact z_iretR X hQ hr dJ0_length_8abf5_10 h

def F_J1_charAt_3b067 (p0 : Nat) (p1 : Int32) : Option (Int32) :=
  grd (p0 < 12) (bnd (F_J0_checkIndex_df160 p1 (Int32.ofNat (sLen.getD p0 0))) (fun o2 => grd (p0 < 12) (grd (inb p1 (sLen.getD p0 0)) (grd (vp_nar .char (((((sByt.getD p0 []).getD p1.toNatClampNeg 0) &&& (255 : Int32)).toUInt32 % 65536).toInt32) = (((((sByt.getD p0 []).getD p1.toNatClampNeg 0) &&& (255 : Int32)).toUInt32 % 65536).toInt32)) (some (((((sByt.getD p0 []).getD p1.toNatClampNeg 0) &&& (255 : Int32)).toUInt32 % 65536).toInt32))))))

theorem dJ1_charAt_3b067_0 : decode cJ1_charAt_3b067 0 = .ok (.iload_n 1, 1) := by decide +kernel
theorem dJ1_charAt_3b067_1 : decode cJ1_charAt_3b067 1 = .ok (.aload_n 0, 1) := by decide +kernel
theorem dJ1_charAt_3b067_2 : decode cJ1_charAt_3b067 2 = .ok (.arraylength, 1) := by decide +kernel
theorem dJ1_charAt_3b067_3 : decode cJ1_charAt_3b067 3 = .ok (.invokestatic 9, 3) := by decide +kernel
theorem dJ1_charAt_3b067_6 : decode cJ1_charAt_3b067 6 = .ok (.aload_n 0, 1) := by decide +kernel
theorem dJ1_charAt_3b067_7 : decode cJ1_charAt_3b067 7 = .ok (.iload_n 1, 1) := by decide +kernel
theorem dJ1_charAt_3b067_8 : decode cJ1_charAt_3b067 8 = .ok (.baload, 1) := by decide +kernel
theorem dJ1_charAt_3b067_9 : decode cJ1_charAt_3b067 9 = .ok (.sipush 255, 3) := by decide +kernel
theorem dJ1_charAt_3b067_12 : decode cJ1_charAt_3b067 12 = .ok (.iand, 1) := by decide +kernel
theorem dJ1_charAt_3b067_13 : decode cJ1_charAt_3b067 13 = .ok (.i2c, 1) := by decide +kernel
theorem dJ1_charAt_3b067_14 : decode cJ1_charAt_3b067 14 = .ok (.ireturn, 1) := by decide +kernel
theorem k_J1_charAt_3b067 : cardS yJ1_charAt_3b067 (Cond.code yJ1_charAt_3b067 cJ1_charAt_3b067 2 (some .char)) 2 := ⟨qs_J1_charAt_3b067, qc_J1_charAt_3b067, qn_J1, by decide +kernel, by decide +kernel, by decide +kernel⟩
set_option maxHeartbeats 4000000 in
set_option maxRecDepth 100000 in
theorem c_J1_charAt_3b067 (l : Launch) (ak av : Nat → Nat) (aS : Nat) (D : va_G) (g : Nat → ClassId) (p0 : Nat) (p1 : Int32) (o : Int32) (h : F_J1_charAt_3b067 p0 p1 = some o) : ME l yJ1_charAt_3b067 (Cond.code yJ1_charAt_3b067 cJ1_charAt_3b067 2 (some .char)) { frames := 2, cells := 0, slots := 0, locals := 43 } ak av aS D g [.ref (av p0), .int p1] (some (.int o)) := by
  refine z_ed_start (by decide) (Nat.le_of_ble_eq_true rfl) ?_
  intro p e s m args below meth c Q X hr hE hQ
  refine z_lv (lv' := [(0, .ref (av p0)), (1, .int p1)]) rfl ?_
  refine z_iload_n X 1 dJ1_charAt_3b067_0 rfl rfl ?_
  refine z_aload_n X 0 dJ1_charAt_3b067_1 rfl rfl ?_
  obtain ⟨e1, h⟩ := grd_p h
  refine z_tlen (v := Int32.ofNat (sLen.getD p0 0)) X IR_S (hE.1.2.1.1 _ e1).2.2.2 rfl dJ1_charAt_3b067_2 ?_
  obtain ⟨o2, e3, h⟩ := bnd_p h
  refine z_edS (rest := []) X IR_S hE k_J0_checkIndex_df160 (c_J0_checkIndex_df160 l ak av aS D g p1 (Int32.ofNat (sLen.getD p0 0)) o2 e3) ql_J1_J0_checkIndex_df160 dJ1_charAt_3b067_3 rfl rfl ⟨Nat.le_of_ble_eq_true rfl, Nat.le_of_ble_eq_true rfl, rfl, rfl, Nat.le_of_ble_eq_true rfl, Nat.le_of_ble_eq_true rfl⟩ (Nat.le_of_ble_eq_true rfl) ?_
  refine z_aload_n X 0 dJ1_charAt_3b067_6 rfl rfl ?_
  refine z_iload_n X 1 dJ1_charAt_3b067_7 rfl rfl ?_
  obtain ⟨e4, h⟩ := grd_p h
  refine z_tb (v := .int ((sByt.getD p0 []).getD p1.toNatClampNeg 0)) X IR_S (hE.1.2.1.1 _ e4).2.2.2 h rfl dJ1_charAt_3b067_8 (fun h => ?_)
  refine z_sipush X (255 : Int32) dJ1_charAt_3b067_9 (by decide) ?_
  refine z_iand X dJ1_charAt_3b067_12 ?_
  refine z_i2c X dJ1_charAt_3b067_13 ?_
  obtain ⟨e5, h⟩ := grd_p h
  exact z_zretR X hQ hr dJ1_charAt_3b067_14 (nar_char e5) h

def F_J0_charAt_5068e (pthis : Nat) (p1 : Int32) : Option (Int32) :=
  grd (pthis < 12) (bnd (F_J0_isLatin1_aae02 pthis) (fun o1 => brn (o1 = 0) (none) (grd (pthis < 12) (bnd (F_J1_charAt_3b067 pthis p1) (fun o5 => grd (vp_nar .char o5 = o5) (some (o5)))))))

theorem dJ0_charAt_5068e_0 : decode cJ0_charAt_5068e 0 = .ok (.aload_n 0, 1) := by decide +kernel
theorem dJ0_charAt_5068e_1 : decode cJ0_charAt_5068e 1 = .ok (.invokevirtual 492, 3) := by decide +kernel
theorem dJ0_charAt_5068e_4 : decode cJ0_charAt_5068e 4 = .ok (.ifCond .eq 12, 3) := by decide +kernel
theorem dJ0_charAt_5068e_7 : decode cJ0_charAt_5068e 7 = .ok (.aload_n 0, 1) := by decide +kernel
theorem dJ0_charAt_5068e_8 : decode cJ0_charAt_5068e 8 = .ok (.getfield 9, 3) := by decide +kernel
theorem dJ0_charAt_5068e_11 : decode cJ0_charAt_5068e 11 = .ok (.iload_n 1, 1) := by decide +kernel
theorem dJ0_charAt_5068e_12 : decode cJ0_charAt_5068e 12 = .ok (.invokestatic 495, 3) := by decide +kernel
theorem dJ0_charAt_5068e_15 : decode cJ0_charAt_5068e 15 = .ok (.ireturn, 1) := by decide +kernel
theorem dJ0_charAt_5068e_16 : decode cJ0_charAt_5068e 16 = .ok (.aload_n 0, 1) := by decide +kernel
theorem dJ0_charAt_5068e_17 : decode cJ0_charAt_5068e 17 = .ok (.getfield 9, 3) := by decide +kernel
theorem dJ0_charAt_5068e_20 : decode cJ0_charAt_5068e 20 = .ok (.iload_n 1, 1) := by decide +kernel
theorem dJ0_charAt_5068e_21 : decode cJ0_charAt_5068e 21 = .ok (.invokestatic 498, 3) := by decide +kernel
theorem dJ0_charAt_5068e_24 : decode cJ0_charAt_5068e 24 = .ok (.ireturn, 1) := by decide +kernel
theorem k_J0_charAt_5068e : cardV yJ0_charAt_5068e (Cond.code yJ0_charAt_5068e cJ0_charAt_5068e 2 (some .char)) 1 := ⟨⟨qi_J0_charAt_5068e, qv_J0_charAt_5068e⟩, qc_J0_charAt_5068e, qn_J0, by decide +kernel, by decide +kernel, by decide +kernel⟩
set_option maxHeartbeats 4000000 in
set_option maxRecDepth 100000 in
theorem c_J0_charAt_5068e (l : Launch) (ak av : Nat → Nat) (aS : Nat) (D : va_G) (g : Nat → ClassId) (pthis : Nat) (p1 : Int32) (o : Int32) (h : F_J0_charAt_5068e pthis p1 = some o) : ME l yJ0_charAt_5068e (Cond.code yJ0_charAt_5068e cJ0_charAt_5068e 2 (some .char)) { frames := 3, cells := 0, slots := 0, locals := 64 } ak av aS D g [.ref (ak pthis), .int p1] (some (.int o)) := by
  refine z_ed_start (by decide) (Nat.le_of_ble_eq_true rfl) ?_
  intro p e s m args below meth c Q X hr hE hQ
  refine z_lv (lv' := [(0, .ref (ak pthis)), (1, .int p1)]) rfl ?_
  refine z_aload_n X 0 dJ0_charAt_5068e_0 rfl rfl ?_
  obtain ⟨e3, h⟩ := grd_p h
  obtain ⟨o1, e2, h⟩ := bnd_p h
  refine z_edV (rest := []) X IR_S hE k_J0_isLatin1_aae02 (c_J0_isLatin1_aae02 l ak av aS D g pthis o1 e2) ql_J0_J0_isLatin1_aae02 dJ0_charAt_5068e_1 e3 rfl rfl rfl ⟨Nat.le_of_ble_eq_true rfl, Nat.le_of_ble_eq_true rfl, rfl, rfl, Nat.le_of_ble_eq_true rfl, Nat.le_of_ble_eq_true rfl⟩ (Nat.le_of_ble_eq_true rfl) ?_
  refine z_if_eq X 16 dJ0_charAt_5068e_4 (by decide) h (fun _ h => ?_) (fun _ h => ?_)
  · cases h
  · refine z_aload_n X 0 dJ0_charAt_5068e_7 rfl rfl ?_
    obtain ⟨e4, h⟩ := grd_p h
    refine z_getc X IR_S (hE.1.2.1.1 _ e4).2.2.1 qf_J0_J0_value dJ0_charAt_5068e_8 ?_
    refine z_iload_n X 1 dJ0_charAt_5068e_11 rfl rfl ?_
    obtain ⟨o5, e6, h⟩ := bnd_p h
    refine z_edS (rest := []) X IR_S hE k_J1_charAt_3b067 (c_J1_charAt_3b067 l ak av aS D g pthis p1 o5 e6) ql_J0_J1_charAt_3b067 dJ0_charAt_5068e_12 rfl rfl ⟨Nat.le_of_ble_eq_true rfl, Nat.le_of_ble_eq_true rfl, rfl, rfl, Nat.le_of_ble_eq_true rfl, Nat.le_of_ble_eq_true rfl⟩ (Nat.le_of_ble_eq_true rfl) ?_
    obtain ⟨e7, h⟩ := grd_p h
    exact z_zretR X hQ hr dJ0_charAt_5068e_15 (nar_char e7) h

