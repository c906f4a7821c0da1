/-! ===== texts: what reads them ===== -/
def kP (K : (Nat → Prop) → State → Heap → Prop) (D : va_G) (g : Nat → ClassId) (as : List Value) : Array Value → State → Prop := va_Pc as (fun U => KK D g U ∧ K noA U U.heap)
/-- the contract of a method that reads its environment alone -/
abbrev MK (l : Launch) (y : MethodName) (cd : Cond) (rm : Room) (K : (Nat → Prop) → State → Heap → Prop) (D : va_G) (g : Nat → ClassId) (as : List Value) (v : Option Value) : Prop := Met l y (wA cd) rm (kP K D g as) (rdQ v) 0 0 noA
theorem kP_blind {K : (Nat → Prop) → State → Heap → Prop} (hOK : OKK K) {D : va_G} {g : Nat → ClassId} {as : List Value} : FrameBlind (kP K D g as) := fun a U f mk q => ⟨q.1, KK.same (s := U) (U := U.calling f mk a) rfl q.2.1, hOK.2.2.2 _ U (U.calling f mk a) _ rfl q.2.2⟩
theorem kPS {K : (Nat → Prop) → State → Heap → Prop} (hOK : OKK K) {D : va_G} {g : Nat → ClassId} {s : State} {As : List Value} {A : Nat → Prop} {H : Heap} {locs : List Loc} (hK : KK D g s) (hE : K A s s.heap) (hS : va_S A s.heap H locs) : PreS s H (kP K D g As) As :=
  ⟨kP_blind hOK, fun U hU hW => ⟨rfl, hK.warm hW, by rw [hU]; exact hOK.2.2.1 _ s U _ hW (hOK.2.1 _ _ _ _ (hOK.1 _ _ _ _ hE hS.2.1) (fun _ h => h.elim))⟩⟩
section ZK2
variable {p : Program} {l : Launch} {e : Env} {R : Room} {s : State} {m : MethodId} {args : Array Value} {below : List Frame} {meth : Method} {c : Code} {Q : State → Prop} {nL cells slots : Nat} {I : Heap → List Loc → Prop} {pc : Nat} {lv lv' : List (Nat × Value)} {st rest : List Value} {cc : ByteArray} {own : String} {D : va_G} {g : Nat → ClassId} {ws : va_W} {A : Nat → Prop} {K : (Nat → Prop) → State → Heap → Prop}
theorem z_k_start {y : MethodName} {cc : ByteArray} {maxL : Nat} {ret : Option FieldType} {rm : Room} {as : List Value} {v : Option Value} (hy : plainName y.cls = true) (hlen : (lg_sl as).length ≤ maxL)
    (body : ∀ (p : Program) (e : Env) (s : State) (m : MethodId) (args : Array Value) (below : List Frame) (meth : Method) (c : Code) (Q : State → Prop), CX p s m args meth c cc maxL y.cls D g → meth.sig.returnType = ret → K noA s s.heap → Q = MQ below (rdQ v) args s 0 0 noA → Z p l e rm s m args below meth c Q maxL 0 0 (IR D [] s) 0 (lv_args 0 as) []) : MK l y (Cond.code y cc maxL ret) rm K D g as v := by
  refine Met.ofW (cc := cc) (maxL := maxL) (ret := ret) hy rfl ?_
  intro p e s m args below meth c s₁ B hml hv
  obtain ⟨rfl, hK, hE⟩ := hv
  have hts := atoms_spec (ws := wA (Cond.code y cc maxL ret)) B.pre
  have hts : ∀ w ∈ lw_all, w.before as.toArray s = true := fun w h => hts w (List.mem_cons_of_mem _ h)
  have hl := lv_entry as (n := maxL) hlen
  rw [lg_entry_eq]
  exact body p e s m _ below meth c _ ⟨⟨B.exec, B.bytes, hml, findClass_of_methodNamed B.named, hts⟩, B.notSynchronized, hK⟩ B.returns hE rfl s.heap [] _ ⟨rfl, rfl, fun k q h => by simp at h⟩ hl
theorem z_kS {y : MethodName} {bytes : ByteArray} {maxL index n : Nat} {ret : Option FieldType} {rm : Room} {As : List Value} {v : Option Value} (X : CX p s m args meth c cc nL own D g) (hOK : OKK K) (hS : HasS A s I) (hE : K A s s.heap) (C : cardS y (Cond.code y bytes maxL ret) n) (hM : MK l y (Cond.code y bytes maxL ret) rm K D g As v) (hq : Cond.methodLink own index y ∈ lw_all) (d : decode cc pc = .ok (.invokestatic index, 3)) (hst : st = As.reverse ++ rest) (hn : As.length = n) (hR : fitsIn rm R maxL 0 0 cells slots) (hW : (rest.map fun v => v.category).sum ≤ 8) (kk : Z p l e R s m args below meth c Q nL cells slots I (pc + 3) lv (v.toList ++ rest)) : Z p l e R s m args below meth c Q nL cells slots I pc lv st := fun H locs ls hI hl =>
  rd_run (va_runS X.1 hM (cwS_of X C hq hR) (kPS hOK X.2.2 hE (hS H locs hI)) rfl hn hl.1 hst (lv_room hW) d ⟨hR.2.2.2.2.1, hR.2.2.2.2.2⟩) (kk H locs ls hI hl)
theorem z_kV {y : MethodName} {bytes : ByteArray} {maxL index n b : Nat} {ret : Option FieldType} {rm : Room} {As : List Value} {v : Option Value} (X : CX p s m args meth c cc nL own D g) (hOK : OKK K) (hS : HasS A s I) (hE : K A s s.heap) (C : cardV y (Cond.code y bytes maxL ret) n) (hM : MK l y (Cond.code y bytes maxL ret) rm K D g (.ref b :: As) v) (hq : Cond.methodLink own index y ∈ lw_all) (d : decode cc pc = .ok (.invokevirtual index, 3)) (hO : va_O "java/lang/String" b A s s.heap) (hC : "java/lang/String" = y.cls) (hst : st = As.reverse ++ .ref b :: rest) (hn : As.length = n) (hR : fitsIn rm R maxL 0 0 cells slots) (hW : (rest.map fun v => v.category).sum ≤ 8) (kk : Z p l e R s m args below meth c Q nL cells slots I (pc + 3) lv (v.toList ++ rest)) : Z p l e R s m args below meth c Q nL cells slots I pc lv st := fun H locs ls hI hl =>
  rd_run (va_runV X.1 hM (cwV_of X C hq hR) ⟨kP_blind hOK, (by obtain ⟨cell, h1, h2, h3, -⟩ := hO.kept (hS H locs hI).2.1; exact ⟨cell, h1, h2, by rw [← hC]; exact h3⟩), (kPS hOK X.2.2 hE (hS H locs hI)).2⟩ rfl hn hl.1 hst (lv_room hW) d ⟨hR.2.2.2.2.1, hR.2.2.2.2.2⟩) (kk H locs ls hI hl)
end ZK2
theorem ishr0 (x : Int32) : x >>> (0 : Int32) = x := by simp
set_option maxHeartbeats 4000000 in
set_option maxRecDepth 100000 in
theorem t_coder (l : Launch) (ev : LEv) (D : va_G) (g : Nat → ClassId) (q v n : Nat) (f : Nat → Int32) : MK l yJ0_coder_7d493 (Cond.code yJ0_coder_7d493 cJ0_coder_7d493 1 (some .byte)) { frames := 0, cells := 0, slots := 0, locals := 0 } (KT ev q v n f) D g [.ref q] (some (.int 0)) := by
  refine z_k_start (by decide) (Nat.le_of_ble_eq_true rfl) ?_
  intro p e s m args below meth c Q X hr hK hQ
  refine z_lv (lv' := [(0, .ref q)]) rfl ?_
  refine z_gets X IR_S hK.1.1.2.1.2 qf_J0_J0_COMPACT_STRINGS dJ0_coder_7d493_0 ?_
  refine z_if_eq (F1 := some ()) (F2 := some ()) (o := ()) X 13 dJ0_coder_7d493_3 (by decide) (by unfold brn; split <;> rfl) (fun h _ => absurd h (by decide)) (fun _ _ => ?_)
  refine z_aload_n X 0 dJ0_coder_7d493_6 rfl rfl ?_
  refine z_getc X IR_S hK.2.2.1 qf_J0_J0_coder dJ0_coder_7d493_7 ?_
  refine z_goto X 14 dJ0_coder_7d493_10 (by decide) ?_
  exact z_zretR X hQ hr dJ0_coder_7d493_14 rfl rfl
set_option maxHeartbeats 4000000 in
set_option maxRecDepth 100000 in
theorem t_isLatin1 (l : Launch) (ev : LEv) (D : va_G) (g : Nat → ClassId) (q v n : Nat) (f : Nat → Int32) : MK l yJ0_isLatin1_aae02 (Cond.code yJ0_isLatin1_aae02 cJ0_isLatin1_aae02 1 (some .boolean)) { frames := 0, cells := 0, slots := 0, locals := 0 } (KT ev q v n f) D g [.ref q] (some (.int 1)) := by
  refine z_k_start (by decide) (Nat.le_of_ble_eq_true rfl) ?_
  intro p e s m args below meth c Q X hr hK hQ
  refine z_lv (lv' := [(0, .ref q)]) rfl ?_
  refine z_gets X IR_S hK.1.1.2.1.2 qf_J0_J0_COMPACT_STRINGS dJ0_isLatin1_aae02_0 ?_
  refine z_if_eq (F1 := some ()) (F2 := some ()) (o := ()) X 17 dJ0_isLatin1_aae02_3 (by decide) (by unfold brn; split <;> rfl) (fun h _ => absurd h (by decide)) (fun _ _ => ?_)
  refine z_aload_n X 0 dJ0_isLatin1_aae02_6 rfl rfl ?_
  refine z_getc X IR_S hK.2.2.1 qf_J0_J0_coder dJ0_isLatin1_aae02_7 ?_
  refine z_if_ne (F1 := some ()) (F2 := some ()) (o := ()) X 17 dJ0_isLatin1_aae02_10 (by decide) (by unfold brn; split <;> rfl) (fun _ _ => ?_) (fun h _ => absurd rfl h)
  refine z_iconst X (1 : Int32) dJ0_isLatin1_aae02_13 (by decide) ?_
  refine z_goto X 18 dJ0_isLatin1_aae02_14 (by decide) ?_
  exact z_zretR X hQ hr dJ0_isLatin1_aae02_18 rfl rfl
set_option maxHeartbeats 4000000 in
set_option maxRecDepth 100000 in
theorem t_length (l : Launch) (ev : LEv) (D : va_G) (g : Nat → ClassId) (q v n : Nat) (f : Nat → Int32) : MK l yJ0_length_8abf5 (Cond.code yJ0_length_8abf5 cJ0_length_8abf5 1 (some .int)) { frames := 1, cells := 0, slots := 0, locals := 20 } (KT ev q v n f) D g [.ref q] (some (.int (Int32.ofNat n))) := by
  refine z_k_start (by decide) (Nat.le_of_ble_eq_true rfl) ?_
  intro p e s m args below meth c Q X hr hK hQ
  refine z_lv (lv' := [(0, .ref q)]) rfl ?_
  refine z_aload_n X 0 dJ0_length_8abf5_0 rfl rfl ?_
  refine z_getc X IR_S hK.2.2.2.1 qf_J0_J0_value dJ0_length_8abf5_1 ?_
  refine z_tlen (v := Int32.ofNat n) X IR_S hK.2.2.2.2 rfl dJ0_length_8abf5_4 ?_
  refine z_aload_n X 0 dJ0_length_8abf5_5 rfl rfl ?_
  refine z_kV (rest := [.int (Int32.ofNat n)]) X (KT_ok ev q v n f) IR_S hK k_J0_coder_7d493 (t_coder l ev D g q v n f) ql_J0_J0_coder_7d493 dJ0_length_8abf5_6 hK.2.1 rfl rfl rfl ⟨Nat.le_of_ble_eq_true rfl, Nat.le_of_ble_eq_true rfl, rfl, rfl, Nat.le_of_ble_eq_true rfl, Nat.le_of_ble_eq_true rfl⟩ (Nat.le_of_ble_eq_true rfl) ?_
  refine z_ishr X dJ0_length_8abf5_9 ?_
  have e0 : (Int32.ofNat n) >>> ((0 : Int32) &&& 31) = Int32.ofNat n := by
    rw [show ((0 : Int32) &&& 31) = 0 from rfl]
    exact ishr0 _
  rw [e0]
  exact z_iretR X hQ hr dJ0_length_8abf5_10 rfl
set_option maxHeartbeats 4000000 in
set_option maxRecDepth 100000 in
theorem t_charL (l : Launch) (ev : LEv) (D : va_G) (g : Nat → ClassId) (q v n : Nat) (f : Nat → Int32) (p1 : Int32) (h1 : ¬ p1 < 0) (h2 : p1 < Int32.ofNat n) (h3 : inb p1 n) (h4 : vp_nar .char ((((f p1.toNatClampNeg) &&& (255 : Int32)).toUInt32 % 65536).toInt32) = ((((f p1.toNatClampNeg) &&& (255 : Int32)).toUInt32 % 65536).toInt32)) : MK l yJ1_charAt_3b067 (Cond.code yJ1_charAt_3b067 cJ1_charAt_3b067 2 (some .char)) { frames := 2, cells := 0, slots := 0, locals := 43 } (KT ev q v n f) D g [.ref v, .int p1] (some (.int ((((f p1.toNatClampNeg) &&& (255 : Int32)).toUInt32 % 65536).toInt32))) := by
  refine z_k_start (by decide) (Nat.le_of_ble_eq_true rfl) ?_
  intro p e s m args below meth c Q X hr hK hQ
  refine z_lv (lv' := [(0, .ref v), (1, .int p1)]) rfl ?_
  refine z_iload_n X 1 dJ1_charAt_3b067_0 rfl rfl ?_
  refine z_aload_n X 0 dJ1_charAt_3b067_1 rfl rfl ?_
  refine z_tlen (v := Int32.ofNat n) X IR_S hK.2.2.2.2 rfl dJ1_charAt_3b067_2 ?_
  refine z_edS (rest := []) X IR_S hK.1.1 k_J0_checkIndex_df160 (c_J0_checkIndex_df160 l ev.ak ev.av ev.aS D g p1 (Int32.ofNat n) () (by unfold F_J0_checkIndex_df160 grd; rw [if_pos h1, if_pos h2])) ql_J1_J0_checkIndex_df160 dJ1_charAt_3b067_3 rfl rfl ⟨Nat.le_of_ble_eq_true rfl, Nat.le_of_ble_eq_true rfl, rfl, rfl, Nat.le_of_ble_eq_true rfl, Nat.le_of_ble_eq_true rfl⟩ (Nat.le_of_ble_eq_true rfl) ?_
  refine z_aload_n X 0 dJ1_charAt_3b067_6 rfl rfl ?_
  refine z_iload_n X 1 dJ1_charAt_3b067_7 rfl rfl ?_
  refine z_tb (F := some ()) (o := ()) (v := .int (f p1.toNatClampNeg)) X IR_S hK.2.2.2.2 (by unfold grd; rw [if_pos h3]) rfl dJ1_charAt_3b067_8 (fun _ => ?_)
  refine z_sipush X (255 : Int32) dJ1_charAt_3b067_9 (by decide) ?_
  refine z_iand X dJ1_charAt_3b067_12 ?_
  refine z_i2c X dJ1_charAt_3b067_13 ?_
  exact z_zretR X hQ hr dJ1_charAt_3b067_14 (nar_char h4) rfl
set_option maxHeartbeats 4000000 in
set_option maxRecDepth 100000 in
theorem t_charAt (l : Launch) (ev : LEv) (D : va_G) (g : Nat → ClassId) (q v n : Nat) (f : Nat → Int32) (p1 : Int32) (h1 : ¬ p1 < 0) (h2 : p1 < Int32.ofNat n) (h3 : inb p1 n) (h4 : vp_nar .char ((((f p1.toNatClampNeg) &&& (255 : Int32)).toUInt32 % 65536).toInt32) = ((((f p1.toNatClampNeg) &&& (255 : Int32)).toUInt32 % 65536).toInt32)) : MK l yJ0_charAt_5068e (Cond.code yJ0_charAt_5068e cJ0_charAt_5068e 2 (some .char)) { frames := 3, cells := 0, slots := 0, locals := 64 } (KT ev q v n f) D g [.ref q, .int p1] (some (.int ((((f p1.toNatClampNeg) &&& (255 : Int32)).toUInt32 % 65536).toInt32))) := by
  refine z_k_start (by decide) (Nat.le_of_ble_eq_true rfl) ?_
  intro p e s m args below meth c Q X hr hK hQ
  refine z_lv (lv' := [(0, .ref q), (1, .int p1)]) rfl ?_
  refine z_aload_n X 0 dJ0_charAt_5068e_0 rfl rfl ?_
  refine z_kV (rest := []) X (KT_ok ev q v n f) IR_S hK k_J0_isLatin1_aae02 (t_isLatin1 l ev D g q v n f) ql_J0_J0_isLatin1_aae02 dJ0_charAt_5068e_1 hK.2.1 rfl rfl rfl ⟨Nat.le_of_ble_eq_true rfl, Nat.le_of_ble_eq_true rfl, rfl, rfl, Nat.le_of_ble_eq_true rfl, Nat.le_of_ble_eq_true rfl⟩ (Nat.le_of_ble_eq_true rfl) ?_
  refine z_if_eq (F1 := some ()) (F2 := some ()) (o := ()) X 16 dJ0_charAt_5068e_4 (by decide) (by unfold brn; split <;> rfl) (fun h _ => absurd h (by decide)) (fun _ _ => ?_)
  refine z_aload_n X 0 dJ0_charAt_5068e_7 rfl rfl ?_
  refine z_getc X IR_S hK.2.2.2.1 qf_J0_J0_value dJ0_charAt_5068e_8 ?_
  refine z_iload_n X 1 dJ0_charAt_5068e_11 rfl rfl ?_
  refine z_kS (rest := []) X (KT_ok ev q v n f) IR_S hK k_J1_charAt_3b067 (t_charL l ev D g q v n f p1 h1 h2 h3 h4) ql_J0_J1_charAt_3b067 dJ0_charAt_5068e_12 rfl rfl ⟨Nat.le_of_ble_eq_true rfl, Nat.le_of_ble_eq_true rfl, rfl, rfl, Nat.le_of_ble_eq_true rfl, Nat.le_of_ble_eq_true rfl⟩ (Nat.le_of_ble_eq_true rfl) ?_
  exact z_zretR X hQ hr dJ0_charAt_5068e_15 (nar_char h4) rfl
