/-! ===== partial functions: what a method answers, or nothing ===== -/
def brn {α : Type} (c : Prop) [Decidable c] (a b : Option α) : Option α := if c then a else b
def grd {α : Type} (c : Prop) [Decidable c] (a : Option α) : Option α := if c then a else none
def bnd {α β : Type} (x : Option α) (f : α → Option β) : Option β := x.bind f
theorem brn_t {α : Type} {c : Prop} [Decidable c] {a b : Option α} {o : α} (h : brn c a b = some o) (hc : c) : a = some o := by
  unfold brn at h
  rwa [if_pos hc] at h
theorem brn_f {α : Type} {c : Prop} [Decidable c] {a b : Option α} {o : α} (h : brn c a b = some o) (hc : ¬ c) : b = some o := by
  unfold brn at h
  rwa [if_neg hc] at h
theorem grd_p {α : Type} {c : Prop} [Decidable c] {a : Option α} {o : α} (h : grd c a = some o) : c ∧ a = some o := by
  unfold grd at h
  by_cases hc : c
  · rw [if_pos hc] at h
    exact ⟨hc, h⟩
  · rw [if_neg hc] at h
    cases h
theorem bnd_p {α β : Type} {x : Option α} {f : α → Option β} {o : β} (h : bnd x f = some o) : ∃ a, x = some a ∧ f a = some o := by
  unfold bnd at h
  cases x with
  | none => cases h
  | some a => exact ⟨a, rfl, h⟩
abbrev inb (i : Int32) (n : Nat) : Prop := 0 ≤ i ∧ i.toNatClampNeg < n
theorem vp_of_inb {i : Int32} {n : Nat} (h : inb i n) : vp_in i n := by
  intro q
  rcases q with q | q
  · exact absurd h.1 (Int32.not_le.mpr q)
  · exact absurd h.2 (Nat.not_lt.mpr q)
/-! ===== words ===== -/
theorem wA_G {c : Cond} (h : c ∈ lw_all) : GoodIn lw_all (wA c) := by
  intro w hw
  rcases List.mem_cons.mp hw with rfl | hw
  · exact ⟨h, good_of_word (lw_good _ h)⟩
  · exact ⟨hw, good_of_word (lw_good _ hw)⟩
theorem wA_V {c : Cond} {own C : String} {idx : Nat} {y : MethodName} (h1 : Cond.methodLink own idx y ∈ lw_all) (h2 : Cond.instanceMethod y ∈ lw_all) (h3 : Cond.selects C y y ∈ lw_all) (h4 : Cond.initialized C ∈ lw_all) (h : c ∈ lw_all) : GoodIn lw_all (wsV own idx C y (wA c)) := by
  intro w hw
  rcases List.mem_append.mp hw with hw | hw
  · have hm : w ∈ lw_all := by
      rcases List.mem_cons.mp hw with rfl | hw
      · exact h1
      rcases List.mem_cons.mp hw with rfl | hw
      · exact h2
      rcases List.mem_cons.mp hw with rfl | hw
      · exact h3
      rcases List.mem_cons.mp hw with rfl | hw
      · exact h4
      · cases hw
    exact ⟨hm, good_of_word (lw_good _ hm)⟩
  · exact wA_G h w hw
theorem wA_S {c : Cond} {own : String} {idx : Nat} {y : MethodName} (h1 : Cond.methodLink own idx y ∈ lw_all) (h2 : Cond.static y ∈ lw_all) (h4 : Cond.initialized y.cls ∈ lw_all) (h : c ∈ lw_all) : GoodIn lw_all (va_wsS own idx y (wA c)) := by
  intro w hw
  rcases List.mem_append.mp hw with hw | hw
  · have hm : w ∈ lw_all := by
      rcases List.mem_cons.mp hw with rfl | hw
      · exact h1
      rcases List.mem_cons.mp hw with rfl | hw
      · exact h2
      rcases List.mem_cons.mp hw with rfl | hw
      · exact h4
      · cases hw
    exact ⟨hm, good_of_word (lw_good _ hm)⟩
  · exact wA_G h w hw
def NW (U : State) : Prop := ∀ w ∈ lw_nst, va_Nw w U
theorem nst_keeps : ∀ w ∈ lw_nst, ((∃ a i b n d h, w = Cond.fieldLinkNest a i b n d h) ∨ ∃ a i x h, w = Cond.methodLinkNest a i x h) ∨ (∃ x, w = Cond.declares x) ∨ ∃ a b, w = Cond.castable a b := by
  unfold lw_nst
  repeat' first | exact fun _ h => absurd h List.not_mem_nil | refine List.forall_mem_cons.mpr ⟨?_, ?_⟩ | exact Or.inl (Or.inl ⟨_, _, _, _, _, _, rfl⟩) | exact Or.inl (Or.inr ⟨_, _, _, _, rfl⟩) | exact Or.inr (Or.inl ⟨_, rfl⟩) | exact Or.inr (Or.inr ⟨_, _, rfl⟩)
theorem NW.warm {s U : State} (hW : s.WarmedH U.vm) (h : NW s) : NW U := by
  intro w hw
  rcases nst_keeps w hw with (⟨a, i, b, n, d, z, rfl⟩ | ⟨a, i, x, z, rfl⟩) | ⟨x, rfl⟩ | ⟨a, b, rfl⟩
  · exact va_Nw.warmF hW (h _ hw)
  · exact va_Nw.warmM hW (h _ hw)
  · exact va_Nw.warmD hW (h _ hw)
  · exact va_Nw.warmC hW (h _ hw)
theorem NW.same {u U : State} (hvm : u.vm = U.vm) (h : NW u) : NW U := by
  intro w hw
  rcases nst_keeps w hw with (⟨a, i, b, n, d, z, rfl⟩ | ⟨a, i, x, z, rfl⟩) | ⟨x, rfl⟩ | ⟨a, b, rfl⟩
  · exact (h _ hw).same rfl hvm
  · exact (h _ hw).same rfl hvm
  · exact (h _ hw).same rfl hvm
  · exact (h _ hw).same rfl hvm
/-- the array classes: int, char, long, boolean, Town, byte -/
abbrev TY (g : Nat → ClassId) : List (ClassId × FieldType) := [(g 0, .int), (g 1, .char), (g 2, .long), (g 3, .boolean), (g 4, .object "BellObservatory$Town"), (g 5, .byte)]
def KK (D : va_G) (g : Nat → ClassId) (U : State) : Prop := va_K D vwCl (TY g) U ∧ NW U
theorem KK.warm {D : va_G} {g : Nat → ClassId} {s U : State} (hW : s.WarmedH U.vm) (h : KK D g s) : KK D g U := ⟨va_K.moved hW.alike h.1, h.2.warm hW⟩
theorem KK.same {D : va_G} {g : Nat → ClassId} {s U : State} (hvm : s.vm = U.vm) (h : KK D g s) : KK D g U := ⟨va_K.moved (by rw [hvm]; exact Vm.Alike.refl _) h.1, h.2.same hvm⟩
/-! ===== the judgement: over worlds of a kind, from this place with these locals and this stack ===== -/
def IR (D : va_G) (ws : va_W) (s : State) (H : Heap) (locs : List Loc) : Prop := H = s.heap ∧ locs = [] ∧ va_P D vwCl ws H
def IW (D : va_G) (A : Nat → Prop) (s : State) (ws : va_W) (H : Heap) (locs : List Loc) : Prop := va_P D vwCl ws H ∧ va_D A ws ∧ va_S A s.heap H locs
abbrev HasP (D : va_G) (ws : va_W) (I : Heap → List Loc → Prop) : Prop := ∀ H locs, I H locs → va_P D vwCl ws H
theorem IR_P {D : va_G} {ws : va_W} {s : State} : HasP D ws (IR D ws s) := fun _ _ h => h.2.2
theorem IW_P {D : va_G} {A : Nat → Prop} {s : State} {ws : va_W} : HasP D ws (IW D A s ws) := fun _ _ h => h.1
/-- what stays fixed over a method's walk -/
def CX (p : Program) (s : State) (m : MethodId) (args : Array Value) (meth : Method) (c : Code) (cc : ByteArray) (nL : Nat) (own : String) (D : va_G) (g : Nat → ClassId) : Prop := CallFix p m c cc nL s args lw_all own ∧ meth.locks = false ∧ KK D g s
section ZK
variable {p : Program} {l : Launch} {e : Env} {R : Room} {s : State} {m : MethodId} {args : Array Value} {below : List Frame} {meth : Method} {c : Code} {Q : State → Prop} {nL cells slots : Nat} {I : Heap → List Loc → Prop} {pc : Nat} {lv lv' : List (Nat × Value)} {st rest : List Value} {cc : ByteArray} {own : String} {D : va_G} {g : Nat → ClassId} {ws ws' : va_W}
def Z (p : Program) (l : Launch) (e : Env) (R : Room) (s : State) (m : MethodId) (args : Array Value) (below : List Frame) (meth : Method) (c : Code) (Q : State → Prop) (nL cells slots : Nat) (I : Heap → List Loc → Prop) (pc : Nat) (lv : List (Nat × Value)) (st : List Value) : Prop :=
  ∀ (H : Heap) (locs : List Loc) (ls : Array Slot), I H locs → lv_has ls nL lv → W p l e R s m args below meth c H locs cells slots Q (F0 m pc ls st)

theorem z_iconst (X : CX p s m args meth c cc nL own D g) {n : Int} (v : Int32) (d : decode cc pc = .ok (.iconst n, 1)) (hv : Int32.ofInt n = v) (kk : Z p l e R s m args below meth c Q nL cells slots I (pc + 1) lv (.int v :: st)) : Z p l e R s m args below meth c Q nL cells slots I pc lv st := fun H locs ls hI hl => lv_iconst X.1.1 X.1.2.1 d hv (kk H locs ls hI hl)
theorem z_bipush (X : CX p s m args meth c cc nL own D g) {n : Int} (v : Int32) (d : decode cc pc = .ok (.bipush n, 2)) (hv : (Int8.ofInt n).toInt32 = v) (kk : Z p l e R s m args below meth c Q nL cells slots I (pc + 2) lv (.int v :: st)) : Z p l e R s m args below meth c Q nL cells slots I pc lv st := fun H locs ls hI hl => lv_bipush X.1.1 X.1.2.1 d hv (kk H locs ls hI hl)
theorem z_sipush (X : CX p s m args meth c cc nL own D g) {n : Int} (v : Int32) (d : decode cc pc = .ok (.sipush n, 3)) (hv : (Int16.ofInt n).toInt32 = v) (kk : Z p l e R s m args below meth c Q nL cells slots I (pc + 3) lv (.int v :: st)) : Z p l e R s m args below meth c Q nL cells slots I pc lv st := fun H locs ls hI hl => lv_sipush X.1.1 X.1.2.1 d hv (kk H locs ls hI hl)
theorem z_iload_n (X : CX p s m args meth c cc nL own D g) {k : Fin 4} {i : Nat} {x : Int32} (j : Nat) (d : decode cc pc = .ok (.iload_n k, 1)) (hi : (k : Nat) = i) (hj : lv[j]? = some (i, .int x)) (kk : Z p l e R s m args below meth c Q nL cells slots I (pc + 1) lv (.int x :: st)) : Z p l e R s m args below meth c Q nL cells slots I pc lv st := fun H locs ls hI hl => lv_iload_n X.1.1 X.1.2.1 d hi (lv_at hl j hj) (kk H locs ls hI hl)
theorem z_iload (X : CX p s m args meth c cc nL own D g) {i : Nat} {x : Int32} (j : Nat) (d : decode cc pc = .ok (.iload i, 2)) (hj : lv[j]? = some (i, .int x)) (kk : Z p l e R s m args below meth c Q nL cells slots I (pc + 2) lv (.int x :: st)) : Z p l e R s m args below meth c Q nL cells slots I pc lv st := fun H locs ls hI hl => lv_iload X.1.1 X.1.2.1 d (lv_at hl j hj) (kk H locs ls hI hl)
theorem z_aload_n (X : CX p s m args meth c cc nL own D g) {k : Fin 4} {i : Nat} {x : Nat} (j : Nat) (d : decode cc pc = .ok (.aload_n k, 1)) (hi : (k : Nat) = i) (hj : lv[j]? = some (i, .ref x)) (kk : Z p l e R s m args below meth c Q nL cells slots I (pc + 1) lv (.ref x :: st)) : Z p l e R s m args below meth c Q nL cells slots I pc lv st := fun H locs ls hI hl => lv_aload_n X.1.1 X.1.2.1 d hi (lv_at hl j hj) (kk H locs ls hI hl)
theorem z_aload (X : CX p s m args meth c cc nL own D g) {i : Nat} {x : Nat} (j : Nat) (d : decode cc pc = .ok (.aload i, 2)) (hj : lv[j]? = some (i, .ref x)) (kk : Z p l e R s m args below meth c Q nL cells slots I (pc + 2) lv (.ref x :: st)) : Z p l e R s m args below meth c Q nL cells slots I pc lv st := fun H locs ls hI hl => lv_aload X.1.1 X.1.2.1 d (lv_at hl j hj) (kk H locs ls hI hl)
theorem z_istore_n (X : CX p s m args meth c cc nL own D g) {k : Fin 4} {i : Nat} {x : Int32} (lv2 : List (Nat × Value)) (d : decode cc pc = .ok (.istore_n k, 1)) (hi : (k : Nat) = i) (hn : i < nL) (hv : (i, Value.int x) :: lv.filter (fun q => !(q.1 == i) && !(q.1 + 1 == i && q.2.category == 2)) = lv2) (kk : Z p l e R s m args below meth c Q nL cells slots I (pc + 1) lv2 st) : Z p l e R s m args below meth c Q nL cells slots I pc lv (.int x :: st) := fun H locs ls hI hl => lv_istore_n X.1.1 X.1.2.1 d hi hl hn hv (fun ls2 hl2 => kk H locs ls2 hI hl2)
theorem z_istore (X : CX p s m args meth c cc nL own D g) {i : Nat} {x : Int32} (lv2 : List (Nat × Value)) (d : decode cc pc = .ok (.istore i, 2)) (hn : i < nL) (hv : (i, Value.int x) :: lv.filter (fun q => !(q.1 == i) && !(q.1 + 1 == i && q.2.category == 2)) = lv2) (kk : Z p l e R s m args below meth c Q nL cells slots I (pc + 2) lv2 st) : Z p l e R s m args below meth c Q nL cells slots I pc lv (.int x :: st) := fun H locs ls hI hl => lv_istore X.1.1 X.1.2.1 d hl hn hv (fun ls2 hl2 => kk H locs ls2 hI hl2)
theorem z_astore_n (X : CX p s m args meth c cc nL own D g) {k : Fin 4} {i : Nat} {x : Nat} (lv2 : List (Nat × Value)) (d : decode cc pc = .ok (.astore_n k, 1)) (hi : (k : Nat) = i) (hn : i < nL) (hv : (i, Value.ref x) :: lv.filter (fun q => !(q.1 == i) && !(q.1 + 1 == i && q.2.category == 2)) = lv2) (kk : Z p l e R s m args below meth c Q nL cells slots I (pc + 1) lv2 st) : Z p l e R s m args below meth c Q nL cells slots I pc lv (.ref x :: st) := fun H locs ls hI hl => lv_astore_n X.1.1 X.1.2.1 d hi hl hn hv (fun ls2 hl2 => kk H locs ls2 hI hl2)
theorem z_astore (X : CX p s m args meth c cc nL own D g) {i : Nat} {x : Nat} (lv2 : List (Nat × Value)) (d : decode cc pc = .ok (.astore i, 2)) (hn : i < nL) (hv : (i, Value.ref x) :: lv.filter (fun q => !(q.1 == i) && !(q.1 + 1 == i && q.2.category == 2)) = lv2) (kk : Z p l e R s m args below meth c Q nL cells slots I (pc + 2) lv2 st) : Z p l e R s m args below meth c Q nL cells slots I pc lv (.ref x :: st) := fun H locs ls hI hl => lv_astore X.1.1 X.1.2.1 d hl hn hv (fun ls2 hl2 => kk H locs ls2 hI hl2)
theorem z_iinc (X : CX p s m args meth c cc nL own D g) {i : Nat} {n : Int} {x v : Int32} (j : Nat) (lv2 : List (Nat × Value)) (d : decode cc pc = .ok (.iinc i n, 3)) (hj : lv[j]? = some (i, .int x)) (hx : x + Int32.ofInt n = v) (hn : i < nL) (hv : (i, Value.int v) :: lv.filter (fun q => !(q.1 == i) && !(q.1 + 1 == i && q.2.category == 2)) = lv2) (kk : Z p l e R s m args below meth c Q nL cells slots I (pc + 3) lv2 st) : Z p l e R s m args below meth c Q nL cells slots I pc lv st := fun H locs ls hI hl => lv_iinc X.1.1 X.1.2.1 d hl hj hx hn hv (fun ls2 hl2 => kk H locs ls2 hI hl2)
theorem z_iadd (X : CX p s m args meth c cc nL own D g) {x y : Int32} (d : decode cc pc = .ok (.iadd, 1)) (kk : Z p l e R s m args below meth c Q nL cells slots I (pc + 1) lv (.int (x + y) :: st)) : Z p l e R s m args below meth c Q nL cells slots I pc lv (.int y :: .int x :: st) := fun H locs ls hI hl => lv_iadd X.1.1 X.1.2.1 d (kk H locs ls hI hl)
theorem z_isub (X : CX p s m args meth c cc nL own D g) {x y : Int32} (d : decode cc pc = .ok (.isub, 1)) (kk : Z p l e R s m args below meth c Q nL cells slots I (pc + 1) lv (.int (x - y) :: st)) : Z p l e R s m args below meth c Q nL cells slots I pc lv (.int y :: .int x :: st) := fun H locs ls hI hl => lv_isub X.1.1 X.1.2.1 d (kk H locs ls hI hl)
theorem z_imul (X : CX p s m args meth c cc nL own D g) {x y : Int32} (d : decode cc pc = .ok (.imul, 1)) (kk : Z p l e R s m args below meth c Q nL cells slots I (pc + 1) lv (.int (x * y) :: st)) : Z p l e R s m args below meth c Q nL cells slots I pc lv (.int y :: .int x :: st) := fun H locs ls hI hl => lv_imul X.1.1 X.1.2.1 d (kk H locs ls hI hl)
theorem z_iand (X : CX p s m args meth c cc nL own D g) {x y : Int32} (d : decode cc pc = .ok (.iand, 1)) (kk : Z p l e R s m args below meth c Q nL cells slots I (pc + 1) lv (.int (x &&& y) :: st)) : Z p l e R s m args below meth c Q nL cells slots I pc lv (.int y :: .int x :: st) := fun H locs ls hI hl => lv_iand X.1.1 X.1.2.1 d (kk H locs ls hI hl)
theorem z_ior (X : CX p s m args meth c cc nL own D g) {x y : Int32} (d : decode cc pc = .ok (.ior, 1)) (kk : Z p l e R s m args below meth c Q nL cells slots I (pc + 1) lv (.int (x ||| y) :: st)) : Z p l e R s m args below meth c Q nL cells slots I pc lv (.int y :: .int x :: st) := fun H locs ls hI hl => lv_ior X.1.1 X.1.2.1 d (kk H locs ls hI hl)
theorem z_ixor (X : CX p s m args meth c cc nL own D g) {x y : Int32} (d : decode cc pc = .ok (.ixor, 1)) (kk : Z p l e R s m args below meth c Q nL cells slots I (pc + 1) lv (.int (x ^^^ y) :: st)) : Z p l e R s m args below meth c Q nL cells slots I pc lv (.int y :: .int x :: st) := fun H locs ls hI hl => lv_ixor X.1.1 X.1.2.1 d (kk H locs ls hI hl)
theorem z_ishl (X : CX p s m args meth c cc nL own D g) {x y : Int32} (d : decode cc pc = .ok (.ishl, 1)) (kk : Z p l e R s m args below meth c Q nL cells slots I (pc + 1) lv (.int (x <<< (y &&& 31)) :: st)) : Z p l e R s m args below meth c Q nL cells slots I pc lv (.int y :: .int x :: st) := fun H locs ls hI hl => lv_ishl X.1.1 X.1.2.1 d (kk H locs ls hI hl)
theorem z_ishr (X : CX p s m args meth c cc nL own D g) {x y : Int32} (d : decode cc pc = .ok (.ishr, 1)) (kk : Z p l e R s m args below meth c Q nL cells slots I (pc + 1) lv (.int (x >>> (y &&& 31)) :: st)) : Z p l e R s m args below meth c Q nL cells slots I pc lv (.int y :: .int x :: st) := fun H locs ls hI hl => lv_ishr X.1.1 X.1.2.1 d (kk H locs ls hI hl)
theorem z_idiv (X : CX p s m args meth c cc nL own D g) {x y : Int32} (d : decode cc pc = .ok (.idiv, 1)) (hne : ¬ y = 0) (kk : Z p l e R s m args below meth c Q nL cells slots I (pc + 1) lv (.int (x / y) :: st)) : Z p l e R s m args below meth c Q nL cells slots I pc lv (.int y :: .int x :: st) := fun H locs ls hI hl => lv_idiv X.1.1 X.1.2.1 d hne (kk H locs ls hI hl)
theorem z_irem (X : CX p s m args meth c cc nL own D g) {x y : Int32} (d : decode cc pc = .ok (.irem, 1)) (hne : ¬ y = 0) (kk : Z p l e R s m args below meth c Q nL cells slots I (pc + 1) lv (.int (x - x / y * y) :: st)) : Z p l e R s m args below meth c Q nL cells slots I pc lv (.int y :: .int x :: st) := fun H locs ls hI hl => lv_irem X.1.1 X.1.2.1 d hne (kk H locs ls hI hl)
theorem z_ineg (X : CX p s m args meth c cc nL own D g) {x : Int32} (d : decode cc pc = .ok (.ineg, 1)) (kk : Z p l e R s m args below meth c Q nL cells slots I (pc + 1) lv (.int (-x) :: st)) : Z p l e R s m args below meth c Q nL cells slots I pc lv (.int x :: st) := fun H locs ls hI hl => lv_ineg X.1.1 X.1.2.1 d (kk H locs ls hI hl)
theorem z_i2c (X : CX p s m args meth c cc nL own D g) {x : Int32} (d : decode cc pc = .ok (.i2c, 1)) (kk : Z p l e R s m args below meth c Q nL cells slots I (pc + 1) lv (.int ((x.toUInt32 % 65536).toInt32) :: st)) : Z p l e R s m args below meth c Q nL cells slots I pc lv (.int x :: st) := fun H locs ls hI hl => lv_i2c X.1.1 X.1.2.1 d rfl (kk H locs ls hI hl)
theorem z_dup (X : CX p s m args meth c cc nL own D g) {va : Value} (d : decode cc pc = .ok (.dup, 1)) (h1 : va.category = 1) (kk : Z p l e R s m args below meth c Q nL cells slots I (pc + 1) lv (va :: va :: st)) : Z p l e R s m args below meth c Q nL cells slots I pc lv (va :: st) := fun H locs ls hI hl => lv_dup X.1.1 X.1.2.1 d h1 (kk H locs ls hI hl)
theorem z_pop (X : CX p s m args meth c cc nL own D g) {va : Value} (d : decode cc pc = .ok (.pop, 1)) (h1 : va.category = 1) (kk : Z p l e R s m args below meth c Q nL cells slots I (pc + 1) lv st) : Z p l e R s m args below meth c Q nL cells slots I pc lv (va :: st) := fun H locs ls hI hl => lv_pop X.1.1 X.1.2.1 d h1 (kk H locs ls hI hl)
theorem z_dup_x1 (X : CX p s m args meth c cc nL own D g) {va vb : Value} (d : decode cc pc = .ok (.dup_x1, 1)) (h1 : va.category = 1) (h2 : vb.category = 1) (kk : Z p l e R s m args below meth c Q nL cells slots I (pc + 1) lv (va :: vb :: va :: st)) : Z p l e R s m args below meth c Q nL cells slots I pc lv (va :: vb :: st) := fun H locs ls hI hl => lv_dup_x1 X.1.1 X.1.2.1 d h1 h2 (kk H locs ls hI hl)
theorem z_dup_x2 (X : CX p s m args meth c cc nL own D g) {va vb vd : Value} (d : decode cc pc = .ok (.dup_x2, 1)) (h1 : va.category = 1) (h2 : vb.category = 1) (h3 : vd.category = 1) (kk : Z p l e R s m args below meth c Q nL cells slots I (pc + 1) lv (va :: vb :: vd :: va :: st)) : Z p l e R s m args below meth c Q nL cells slots I pc lv (va :: vb :: vd :: st) := fun H locs ls hI hl => lv_dup_x2 X.1.1 X.1.2.1 d h1 h2 h3 (kk H locs ls hI hl)
theorem z_dup2 (X : CX p s m args meth c cc nL own D g) {va vb : Value} (d : decode cc pc = .ok (.dup2, 1)) (h1 : va.category = 1) (h2 : vb.category = 1) (kk : Z p l e R s m args below meth c Q nL cells slots I (pc + 1) lv (va :: vb :: va :: vb :: st)) : Z p l e R s m args below meth c Q nL cells slots I pc lv (va :: vb :: st) := fun H locs ls hI hl => lv_dup2_11 X.1.1 X.1.2.1 d h1 h2 (kk H locs ls hI hl)
theorem z_goto (X : CX p s m args meth c cc nL own D g) {off : Int} (tgt : Nat) (d : decode cc pc = .ok (.goto off, 3)) (ht : (pc : Int) + off = (tgt : Int)) (kk : Z p l e R s m args below meth c Q nL cells slots I tgt lv st) : Z p l e R s m args below meth c Q nL cells slots I pc lv st := fun H locs ls hI hl => lv_goto X.1.1 X.1.2.1 d ht (kk H locs ls hI hl)
theorem z_if_eq {α : Type} (X : CX p s m args meth c cc nL own D g) {x : Int32} {off : Int} (tgt : Nat) [Decidable (x = 0)] {F1 F2 : Option α} {o : α} (d : decode cc pc = .ok (.ifCond .eq off, 3)) (ht : (pc : Int) + off = (tgt : Int)) (h : brn (x = 0) F1 F2 = some o) (kt : x = 0 → F1 = some o → Z p l e R s m args below meth c Q nL cells slots I tgt lv st) (kf : ¬ (x = 0) → F2 = some o → Z p l e R s m args below meth c Q nL cells slots I (pc + 3) lv st) : Z p l e R s m args below meth c Q nL cells slots I pc lv (.int x :: st) := fun H locs ls hI hl => lv_if_eq X.1.1 X.1.2.1 d ht (fun q => kt q (brn_t h q) H locs ls hI hl) (fun q => kf q (brn_f h q) H locs ls hI hl)
theorem z_icmp_eq {α : Type} (X : CX p s m args meth c cc nL own D g) {x y : Int32} {off : Int} (tgt : Nat) [Decidable (x = y)] {F1 F2 : Option α} {o : α} (d : decode cc pc = .ok (.if_icmp .eq off, 3)) (ht : (pc : Int) + off = (tgt : Int)) (h : brn (x = y) F1 F2 = some o) (kt : x = y → F1 = some o → Z p l e R s m args below meth c Q nL cells slots I tgt lv st) (kf : ¬ (x = y) → F2 = some o → Z p l e R s m args below meth c Q nL cells slots I (pc + 3) lv st) : Z p l e R s m args below meth c Q nL cells slots I pc lv (.int y :: .int x :: st) := fun H locs ls hI hl => lv_icmp_eq X.1.1 X.1.2.1 d ht (fun q => kt q (brn_t h q) H locs ls hI hl) (fun q => kf q (brn_f h q) H locs ls hI hl)
theorem z_if_ne {α : Type} (X : CX p s m args meth c cc nL own D g) {x : Int32} {off : Int} (tgt : Nat) [Decidable (x = 0)] {F1 F2 : Option α} {o : α} (d : decode cc pc = .ok (.ifCond .ne off, 3)) (ht : (pc : Int) + off = (tgt : Int)) (h : brn (x = 0) F1 F2 = some o) (kt : x = 0 → F1 = some o → Z p l e R s m args below meth c Q nL cells slots I (pc + 3) lv st) (kf : ¬ (x = 0) → F2 = some o → Z p l e R s m args below meth c Q nL cells slots I tgt lv st) : Z p l e R s m args below meth c Q nL cells slots I pc lv (.int x :: st) := fun H locs ls hI hl => lv_if_ne X.1.1 X.1.2.1 d ht (fun q => kf q (brn_f h q) H locs ls hI hl) (fun q => kt q (brn_t h q) H locs ls hI hl)
theorem z_icmp_ne {α : Type} (X : CX p s m args meth c cc nL own D g) {x y : Int32} {off : Int} (tgt : Nat) [Decidable (x = y)] {F1 F2 : Option α} {o : α} (d : decode cc pc = .ok (.if_icmp .ne off, 3)) (ht : (pc : Int) + off = (tgt : Int)) (h : brn (x = y) F1 F2 = some o) (kt : x = y → F1 = some o → Z p l e R s m args below meth c Q nL cells slots I (pc + 3) lv st) (kf : ¬ (x = y) → F2 = some o → Z p l e R s m args below meth c Q nL cells slots I tgt lv st) : Z p l e R s m args below meth c Q nL cells slots I pc lv (.int y :: .int x :: st) := fun H locs ls hI hl => lv_icmp_ne X.1.1 X.1.2.1 d ht (fun q => kf q (brn_f h q) H locs ls hI hl) (fun q => kt q (brn_t h q) H locs ls hI hl)
theorem z_if_lt {α : Type} (X : CX p s m args meth c cc nL own D g) {x : Int32} {off : Int} (tgt : Nat) [Decidable (x < 0)] {F1 F2 : Option α} {o : α} (d : decode cc pc = .ok (.ifCond .lt off, 3)) (ht : (pc : Int) + off = (tgt : Int)) (h : brn (x < 0) F1 F2 = some o) (kt : x < 0 → F1 = some o → Z p l e R s m args below meth c Q nL cells slots I tgt lv st) (kf : ¬ (x < 0) → F2 = some o → Z p l e R s m args below meth c Q nL cells slots I (pc + 3) lv st) : Z p l e R s m args below meth c Q nL cells slots I pc lv (.int x :: st) := fun H locs ls hI hl => lv_if_lt X.1.1 X.1.2.1 d ht (fun q => kt q (brn_t h q) H locs ls hI hl) (fun q => kf q (brn_f h q) H locs ls hI hl)
theorem z_icmp_lt {α : Type} (X : CX p s m args meth c cc nL own D g) {x y : Int32} {off : Int} (tgt : Nat) [Decidable (x < y)] {F1 F2 : Option α} {o : α} (d : decode cc pc = .ok (.if_icmp .lt off, 3)) (ht : (pc : Int) + off = (tgt : Int)) (h : brn (x < y) F1 F2 = some o) (kt : x < y → F1 = some o → Z p l e R s m args below meth c Q nL cells slots I tgt lv st) (kf : ¬ (x < y) → F2 = some o → Z p l e R s m args below meth c Q nL cells slots I (pc + 3) lv st) : Z p l e R s m args below meth c Q nL cells slots I pc lv (.int y :: .int x :: st) := fun H locs ls hI hl => lv_icmp_lt X.1.1 X.1.2.1 d ht (fun q => kt q (brn_t h q) H locs ls hI hl) (fun q => kf q (brn_f h q) H locs ls hI hl)
theorem z_if_ge {α : Type} (X : CX p s m args meth c cc nL own D g) {x : Int32} {off : Int} (tgt : Nat) [Decidable (0 ≤ x)] {F1 F2 : Option α} {o : α} (d : decode cc pc = .ok (.ifCond .ge off, 3)) (ht : (pc : Int) + off = (tgt : Int)) (h : brn (0 ≤ x) F1 F2 = some o) (kt : 0 ≤ x → F1 = some o → Z p l e R s m args below meth c Q nL cells slots I tgt lv st) (kf : ¬ (0 ≤ x) → F2 = some o → Z p l e R s m args below meth c Q nL cells slots I (pc + 3) lv st) : Z p l e R s m args below meth c Q nL cells slots I pc lv (.int x :: st) := fun H locs ls hI hl => lv_if_ge X.1.1 X.1.2.1 d ht (fun q => kt q (brn_t h q) H locs ls hI hl) (fun q => kf q (brn_f h q) H locs ls hI hl)
theorem z_icmp_ge {α : Type} (X : CX p s m args meth c cc nL own D g) {x y : Int32} {off : Int} (tgt : Nat) [Decidable (y ≤ x)] {F1 F2 : Option α} {o : α} (d : decode cc pc = .ok (.if_icmp .ge off, 3)) (ht : (pc : Int) + off = (tgt : Int)) (h : brn (y ≤ x) F1 F2 = some o) (kt : y ≤ x → F1 = some o → Z p l e R s m args below meth c Q nL cells slots I tgt lv st) (kf : ¬ (y ≤ x) → F2 = some o → Z p l e R s m args below meth c Q nL cells slots I (pc + 3) lv st) : Z p l e R s m args below meth c Q nL cells slots I pc lv (.int y :: .int x :: st) := fun H locs ls hI hl => lv_icmp_ge X.1.1 X.1.2.1 d ht (fun q => kt q (brn_t h q) H locs ls hI hl) (fun q => kf q (brn_f h q) H locs ls hI hl)
theorem z_if_gt {α : Type} (X : CX p s m args meth c cc nL own D g) {x : Int32} {off : Int} (tgt : Nat) [Decidable (0 < x)] {F1 F2 : Option α} {o : α} (d : decode cc pc = .ok (.ifCond .gt off, 3)) (ht : (pc : Int) + off = (tgt : Int)) (h : brn (0 < x) F1 F2 = some o) (kt : 0 < x → F1 = some o → Z p l e R s m args below meth c Q nL cells slots I tgt lv st) (kf : ¬ (0 < x) → F2 = some o → Z p l e R s m args below meth c Q nL cells slots I (pc + 3) lv st) : Z p l e R s m args below meth c Q nL cells slots I pc lv (.int x :: st) := fun H locs ls hI hl => lv_if_gt X.1.1 X.1.2.1 d ht (fun q => kt q (brn_t h q) H locs ls hI hl) (fun q => kf q (brn_f h q) H locs ls hI hl)
theorem z_icmp_gt {α : Type} (X : CX p s m args meth c cc nL own D g) {x y : Int32} {off : Int} (tgt : Nat) [Decidable (y < x)] {F1 F2 : Option α} {o : α} (d : decode cc pc = .ok (.if_icmp .gt off, 3)) (ht : (pc : Int) + off = (tgt : Int)) (h : brn (y < x) F1 F2 = some o) (kt : y < x → F1 = some o → Z p l e R s m args below meth c Q nL cells slots I tgt lv st) (kf : ¬ (y < x) → F2 = some o → Z p l e R s m args below meth c Q nL cells slots I (pc + 3) lv st) : Z p l e R s m args below meth c Q nL cells slots I pc lv (.int y :: .int x :: st) := fun H locs ls hI hl => lv_icmp_gt X.1.1 X.1.2.1 d ht (fun q => kt q (brn_t h q) H locs ls hI hl) (fun q => kf q (brn_f h q) H locs ls hI hl)
theorem z_if_le {α : Type} (X : CX p s m args meth c cc nL own D g) {x : Int32} {off : Int} (tgt : Nat) [Decidable (x ≤ 0)] {F1 F2 : Option α} {o : α} (d : decode cc pc = .ok (.ifCond .le off, 3)) (ht : (pc : Int) + off = (tgt : Int)) (h : brn (x ≤ 0) F1 F2 = some o) (kt : x ≤ 0 → F1 = some o → Z p l e R s m args below meth c Q nL cells slots I tgt lv st) (kf : ¬ (x ≤ 0) → F2 = some o → Z p l e R s m args below meth c Q nL cells slots I (pc + 3) lv st) : Z p l e R s m args below meth c Q nL cells slots I pc lv (.int x :: st) := fun H locs ls hI hl => lv_if_le X.1.1 X.1.2.1 d ht (fun q => kt q (brn_t h q) H locs ls hI hl) (fun q => kf q (brn_f h q) H locs ls hI hl)
theorem z_icmp_le {α : Type} (X : CX p s m args meth c cc nL own D g) {x y : Int32} {off : Int} (tgt : Nat) [Decidable (x ≤ y)] {F1 F2 : Option α} {o : α} (d : decode cc pc = .ok (.if_icmp .le off, 3)) (ht : (pc : Int) + off = (tgt : Int)) (h : brn (x ≤ y) F1 F2 = some o) (kt : x ≤ y → F1 = some o → Z p l e R s m args below meth c Q nL cells slots I tgt lv st) (kf : ¬ (x ≤ y) → F2 = some o → Z p l e R s m args below meth c Q nL cells slots I (pc + 3) lv st) : Z p l e R s m args below meth c Q nL cells slots I pc lv (.int y :: .int x :: st) := fun H locs ls hI hl => lv_icmp_le X.1.1 X.1.2.1 d ht (fun q => kt q (brn_t h q) H locs ls hI hl) (fun q => kf q (brn_f h q) H locs ls hI hl)
theorem z_get {C : String} {T : u_T} {N ci index q0 k : Nat} {a : Nat} {fs : List Value} {v : Value} (X : CX p s m args meth c cc nL own D g) (hI0 : HasP D ws I) (hin : ∀ w ∈ u_ws C T N, w ∈ lw_all) (hc : vwCl[ci]? = some (C, T, N)) (hq : Cond.fieldLink own index (T k).1 (T k).2.1 (T k).2.2.1 ∈ lw_all) (hk : k < N) (d : decode cc pc = .ok (.getfield index, 3)) (he : ws[q0]? = some (a, .inr (ci, fs))) (hv : fs[k]? = some v) (kk : Z p l e R s m args below meth c Q nL cells slots I (pc + 3) lv (v :: st)) : Z p l e R s m args below meth c Q nL cells slots I pc lv (.ref a :: st) := fun H locs ls hI hl =>
  va_get X.1.1 X.1.2.1 X.1.2.2.2.2 hin X.1.2.2.2.1 X.2.2.1 (hI0 H locs hI) q0 he hc k hk (X.1.2.2.2.2 _ hq) (fun _ h9 => h9) hv d (kk H locs ls hI hl)
theorem z_getN {C host : String} {T : u_T} {N ci index q0 k : Nat} {a : Nat} {fs : List Value} {v : Value} (X : CX p s m args meth c cc nL own D g) (hI0 : HasP D ws I) (hin : ∀ w ∈ u_ws C T N, w ∈ lw_all) (hc : vwCl[ci]? = some (C, T, N)) (hq : Cond.fieldLinkNest own index (T k).1 (T k).2.1 (T k).2.2.1 host ∈ lw_nst) (hk : k < N) (d : decode cc pc = .ok (.getfield index, 3)) (he : ws[q0]? = some (a, .inr (ci, fs))) (hv : fs[k]? = some v) (kk : Z p l e R s m args below meth c Q nL cells slots I (pc + 3) lv (v :: st)) : Z p l e R s m args below meth c Q nL cells slots I pc lv (.ref a :: st) := fun H locs ls hI hl =>
  va_getN X.1.1 X.1.2.1 X.1.2.2.2.2 hin X.1.2.2.2.1 X.2.2.1 (hI0 H locs hI) q0 he hc k hk (va_Nw.use rfl (X.2.2.2 _ hq)) (fun _ h9 => h9) hv d (kk H locs ls hI hl)
theorem z_iald {α : Type} {q0 : Nat} {n : Nat} {f : Nat → Int32} {a : Nat} {i : Int32} {F : Option α} {o : α} (X : CX p s m args meth c cc nL own D g) (hI0 : HasP D ws I) (d : decode cc pc = .ok (.iaload, 1)) (ha : ws[q0]? = some (a, .inl (g 0, n, .inl f))) (h : grd (inb i n) F = some o) (kk : F = some o → Z p l e R s m args below meth c Q nL cells slots I (pc + 1) lv (.int (f i.toNatClampNeg) :: st)) : Z p l e R s m args below meth c Q nL cells slots I pc lv (.int i :: .ref a :: st) := fun H locs ls hI hl =>
  va_iald X.1.1 X.1.2.1 X.2.2.1 (hI0 H locs hI) q0 0 ha rfl (vp_of_inb (grd_p h).1) d (kk (grd_p h).2 H locs ls hI hl)
theorem z_cald {α : Type} {q0 : Nat} {n : Nat} {f : Nat → Int32} {a : Nat} {i : Int32} {F : Option α} {o : α} (X : CX p s m args meth c cc nL own D g) (hI0 : HasP D ws I) (d : decode cc pc = .ok (.caload, 1)) (ha : ws[q0]? = some (a, .inl (g 1, n, .inl f))) (h : grd (inb i n) F = some o) (kk : F = some o → Z p l e R s m args below meth c Q nL cells slots I (pc + 1) lv (.int (f i.toNatClampNeg) :: st)) : Z p l e R s m args below meth c Q nL cells slots I pc lv (.int i :: .ref a :: st) := fun H locs ls hI hl =>
  va_cald X.1.1 X.1.2.1 X.2.2.1 (hI0 H locs hI) q0 1 ha rfl (vp_of_inb (grd_p h).1) d (kk (grd_p h).2 H locs ls hI hl)
theorem z_alen {q0 : Nat} {a : Nat} {cA : ClassId} {x : vp_A} {ty : FieldType} {v : Int32} (X : CX p s m args meth c cc nL own D g) (hI0 : HasP D ws I) (t0 : Nat) (d : decode cc pc = .ok (.arraylength, 1)) (ha : ws[q0]? = some (a, .inl (cA, x))) (ht : (TY g)[t0]? = some (cA, ty)) (hv : Int32.ofNat x.1 = v) (kk : Z p l e R s m args below meth c Q nL cells slots I (pc + 1) lv (.int v :: st)) : Z p l e R s m args below meth c Q nL cells slots I pc lv (.ref a :: st) := fun H locs ls hI hl =>
  va_alen X.1.1 X.1.2.1 X.2.2.1 (hI0 H locs hI) q0 t0 ha ht hv d (kk H locs ls hI hl)
theorem z_put {A : Nat → Prop} {C : String} {T : u_T} {ty0 : Nat → FieldType} {N ci index q0 k : Nat} {a : Nat} {fs : List Value} {ty : FieldType} {v : Value} (X : CX p s m args meth c cc nL own D g) (hin : ∀ w ∈ u_ws C T N, w ∈ lw_all) (hty : ∀ k, k < N → parseFieldDescriptor (T k).2.2.1 = some (ty0 k)) (hnm : ∀ a, a < N → ∀ b, b < N → a ≠ b → (T a).2.1 ≠ (T b).2.1) (hc : vwCl[ci]? = some (C, T, N)) (hq : Cond.fieldLink own index (T k).1 (T k).2.1 (T k).2.2.1 ∈ lw_all) (hk : k < N) (hfin : (T k).2.2.2 = false) (hd : ty0 k = ty) (d : decode cc pc = .ok (.putfield index, 3)) (he : ws[q0]? = some (a, .inr (ci, fs))) (hn : narrow ty v = v) (hfit : fits ty v = true) (hl2 : k < fs.length) (hw : ws.set q0 (a, .inr (ci, fs.set k v)) = ws') (kk : Z p l e R s m args below meth c Q nL cells slots (IW D A s ws') (pc + 3) lv st) : Z p l e R s m args below meth c Q nL cells slots (IW D A s ws) pc lv (v :: .ref a :: st) := fun H locs ls hI hl =>
  va_put X.1.1 X.1.2.1 X.1.2.2.2.2 hin ty0 hty hnm X.1.2.2.2.1 X.2.2.1 hI.1 hI.2.1 hI.2.2 q0 he hc k hk (X.1.2.2.2.2 _ hq) (fun _ h9 => h9) hfin ((hty k hk).trans (congrArg some hd)) hn hfit hl2 d (fun H1 locs1 hP hD hS => kk H1 locs1 ls (by rw [← hw]; exact ⟨hP, hD, hS⟩) hl)
theorem z_iast {α : Type} {A : Nat → Prop} {q0 : Nat} {n : Nat} {f : Nat → Int32} {a : Nat} {i x : Int32} {F : Option α} {o : α} (X : CX p s m args meth c cc nL own D g) (d : decode cc pc = .ok (.iastore, 1)) (ha : ws[q0]? = some (a, .inl (g 0, n, .inl f))) (h : grd (inb i n) F = some o) (hw : ws.set q0 (a, .inl (g 0, n, .inl (upd f i.toNatClampNeg x))) = ws') (kk : F = some o → Z p l e R s m args below meth c Q nL cells slots (IW D A s ws') (pc + 1) lv st) : Z p l e R s m args below meth c Q nL cells slots (IW D A s ws) pc lv (.int x :: .int i :: .ref a :: st) := fun H locs ls hI hl =>
  va_iast X.1.1 X.1.2.1 X.2.2.1 hI.1 hI.2.1 hI.2.2 q0 0 ha rfl (vp_of_inb (grd_p h).1) d (fun H1 locs1 hP hD hS => kk (grd_p h).2 H1 locs1 ls (by rw [← hw]; exact ⟨hP, hD, hS⟩) hl)
theorem z_cast {α : Type} {A : Nat → Prop} {q0 : Nat} {n : Nat} {f : Nat → Int32} {a : Nat} {i x : Int32} {F : Option α} {o : α} (X : CX p s m args meth c cc nL own D g) (d : decode cc pc = .ok (.castore, 1)) (ha : ws[q0]? = some (a, .inl (g 1, n, .inl f))) (h : grd (inb i n) F = some o) (hw : ws.set q0 (a, .inl (g 1, n, .inl (upd f i.toNatClampNeg (vp_nar .char x)))) = ws') (kk : F = some o → Z p l e R s m args below meth c Q nL cells slots (IW D A s ws') (pc + 1) lv st) : Z p l e R s m args below meth c Q nL cells slots (IW D A s ws) pc lv (.int x :: .int i :: .ref a :: st) := fun H locs ls hI hl =>
  va_cast X.1.1 X.1.2.1 X.2.2.1 hI.1 hI.2.1 hI.2.2 q0 1 ha rfl (vp_of_inb (grd_p h).1) d (fun H1 locs1 hP hD hS => kk (grd_p h).2 H1 locs1 ls (by rw [← hw]; exact ⟨hP, hD, hS⟩) hl)
abbrev cpyok (sp dp n : Int32) (n0 n1 : Nat) : Prop := ¬ sp < 0 ∧ ¬ dp < 0 ∧ ¬ n < 0 ∧ sp.toNatClampNeg + n.toNatClampNeg ≤ n0 ∧ dp.toNatClampNeg + n.toNatClampNeg ≤ n1
theorem z_copyi {α : Type} {A : Nat → Prop} {q0 q1 n0 n1 a0 a index : Nat} {f f2 : Nat → Int32} {sp dp n : Int32} {F : Option α} {o : α} (X : CX p s m args meth c cc nL own D g) (hlink : Cond.methodLink own index arraycopyName ∈ lw_all) (d : decode cc pc = .ok (.invokestatic index, 3)) (ha0 : ws[q0]? = some (a0, .inl (g 0, n0, .inl f))) (ha1 : ws[q1]? = some (a, .inl (g 0, n1, .inl f2))) (h : grd (cpyok sp dp n n0 n1) F = some o) (hw : ws.set q1 (a, .inl (g 0, n1, .inl (va_cpy f f2 sp.toNatClampNeg dp.toNatClampNeg n.toNatClampNeg))) = ws') (hframes : 1 ≤ R.frames) (hlocals : (st.map fun v => v.category).sum + (nativeFrameWords "java/lang/System" "arraycopy" 5 + 11) ≤ R.locals) (kk : F = some o → Z p l e R s m args below meth c Q nL cells slots (IW D A s ws') (pc + 3) lv st) : Z p l e R s m args below meth c Q nL cells slots (IW D A s ws) pc lv (.int n :: .int dp :: .ref a :: .int sp :: .ref a0 :: st) := fun H locs ls hI hl =>
  va_copyi X.1.1 X.1.2.1 (X.1.2.2.1.trans hl.1.symm) X.1.2.2.2.1 (X.1.2.2.2.2 _ hlink) (X.1.2.2.2.2 _ qnat_ac) (X.1.2.2.2.2 _ qs_ac) (X.1.2.2.2.2 _ qn_J10) X.2.2.1 hI.1 hI.2.1 hI.2.2 q0 q1 0 0 ha0 ha1 rfl rfl rfl (grd_p h).1.1 (grd_p h).1.2.1 (grd_p h).1.2.2.1 (grd_p h).1.2.2.2.1 (grd_p h).1.2.2.2.2 (fun _ _ => rfl) hframes hlocals d (fun H1 locs1 hP hD hS => kk (grd_p h).2 H1 locs1 ls (by rw [← hw]; exact ⟨hP, hD, hS⟩) hl)
theorem z_mmax {index : Nat} {x y : Int32} (X : CX p s m args meth c cc nL own D g) (hlink : Cond.methodLink own index Lib.Math.max.name ∈ lw_all) (d : decode cc pc = .ok (.invokestatic index, 3)) (hframes : 1 ≤ R.frames) (hlocals : (st.map fun v => v.category).sum + 13 ≤ R.locals) (hc : cells ≤ R.cells) (hs : slots ≤ R.slots) (kk : Z p l e R s m args below meth c Q nL cells slots I (pc + 3) lv (.int (if x < y then y else x) :: st)) : Z p l e R s m args below meth c Q nL cells slots I pc lv (.int y :: .int x :: st) := fun H locs ls hI hl =>
  va_mmax X.1.1 X.1.2.1 (X.1.2.2.1.trans hl.1.symm) X.1.2.2.2.1 (X.1.2.2.2.2 _ hlink) (X.1.2.2.2.2 _ qs_mmax) (X.1.2.2.2.2 _ qn_J9) (X.1.2.2.2.2 _ qc_mmax) hframes hlocals hc hs d (kk H locs ls hI hl)
theorem z_mmin {index : Nat} {x y : Int32} (X : CX p s m args meth c cc nL own D g) (hlink : Cond.methodLink own index Lib.Math.min.name ∈ lw_all) (d : decode cc pc = .ok (.invokestatic index, 3)) (hframes : 1 ≤ R.frames) (hlocals : (st.map fun v => v.category).sum + 13 ≤ R.locals) (hc : cells ≤ R.cells) (hs : slots ≤ R.slots) (kk : Z p l e R s m args below meth c Q nL cells slots I (pc + 3) lv (.int (if y < x then y else x) :: st)) : Z p l e R s m args below meth c Q nL cells slots I pc lv (.int y :: .int x :: st) := fun H locs ls hI hl =>
  va_mmin X.1.1 X.1.2.1 (X.1.2.2.1.trans hl.1.symm) X.1.2.2.2.1 (X.1.2.2.2.2 _ hlink) (X.1.2.2.2.2 _ qs_mmin) (X.1.2.2.2.2 _ qn_J9) (X.1.2.2.2.2 _ qc_mmin) hframes hlocals hc hs d (kk H locs ls hI hl)
theorem z_mabs {index : Nat} {x : Int32} (X : CX p s m args meth c cc nL own D g) (hlink : Cond.methodLink own index Lib.Math.abs.name ∈ lw_all) (d : decode cc pc = .ok (.invokestatic index, 3)) (hframes : 1 ≤ R.frames) (hlocals : (st.map fun v => v.category).sum + 13 ≤ R.locals) (hc : cells ≤ R.cells) (hs : slots ≤ R.slots) (kk : Z p l e R s m args below meth c Q nL cells slots I (pc + 3) lv (.int (if 0 ≤ x then x else 0 - x) :: st)) : Z p l e R s m args below meth c Q nL cells slots I pc lv (.int x :: st) := fun H locs ls hI hl =>
  va_mabs X.1.1 X.1.2.1 (X.1.2.2.1.trans hl.1.symm) X.1.2.2.2.1 (X.1.2.2.2.2 _ hlink) (X.1.2.2.2.2 _ qs_mabs) (X.1.2.2.2.2 _ qn_J9) (X.1.2.2.2.2 _ qc_mabs) hframes hlocals hc hs d (kk H locs ls hI hl)
/-! ===== methods that read: the heap stays ===== -/
def rdQ (v : Option Value) : Array Value → State → Outcome → State → Prop := fun _ st o t => o = .returned v ∧ t.heap = st.heap
def rdP (D : va_G) (g : Nat → ClassId) (av : List Value) (ws : va_W) : Array Value → State → Prop := va_Pc av (fun U => va_P D vwCl ws U.heap ∧ KK D g U)
abbrev noA : Addr → Prop := fun _ => False
/-- the contract of a method that reads -/
abbrev MR (l : Launch) (y : MethodName) (cd : Cond) (rm : Room) (D : va_G) (g : Nat → ClassId) (av : List Value) (ws : va_W) (v : Option Value) : Prop := Met l y (wA cd) rm (rdP D g av ws) (rdQ v) 0 0 noA
theorem z_rd_start {y : MethodName} {cc : ByteArray} {maxL : Nat} {ret : Option FieldType} {rm : Room} {av : List Value} {v : Option Value} (hy : plainName y.cls = true) (hlen : (lg_sl av).length ≤ maxL)
    (body : ∀ (p : Program) (e : Env) (s : State) (m : MethodId) (args : Array Value) (below : List Frame) (meth : Method) (c : Code) (Q : State → Prop), CX p s m args meth c cc maxL y.cls D g → meth.sig.returnType = ret → Q = MQ below (rdQ v) args s 0 0 noA → Z p l e rm s m args below meth c Q maxL 0 0 (IR D ws s) 0 (lv_args 0 av) []) : MR l y (Cond.code y cc maxL ret) rm D g av ws v := by
  refine Met.ofW (cc := cc) (maxL := maxL) (ret := ret) hy rfl ?_
  intro p e s m args below meth c s₁ B hml hv
  obtain ⟨rfl, hP, hK⟩ := hv
  have hts := atoms_spec (ws := wA (Cond.code y cc maxL ret)) B.pre
  have hts : ∀ w ∈ lw_all, w.before av.toArray s = true := fun w h => hts w (List.mem_cons_of_mem _ h)
  have hl := lv_entry av (n := maxL) hlen
  rw [lg_entry_eq]
  exact body p e s m _ below meth c _ ⟨⟨B.exec, B.bytes, hml, findClass_of_methodNamed B.named, hts⟩, B.notSynchronized, hK⟩ B.returns rfl s.heap [] _ ⟨rfl, rfl, hP⟩ hl
theorem rdP_blind {av : List Value} : FrameBlind (rdP D g av ws) := fun a U f mk q => ⟨q.1, q.2.1, KK.same (s := U) (U := U.calling f mk a) rfl q.2.2⟩
theorem z_iretR {v o : Int32} (X : CX p s m args meth c cc nL own D g) (hQ : Q = MQ below (rdQ (some (.int o))) args s 0 0 noA) (hr : meth.sig.returnType = some .int) (d : decode cc pc = .ok (.ireturn, 1)) (h : some v = some o) : Z p l e R s m args below meth c Q nL 0 0 (IR D ws s) pc lv [.int v] := by
  subst hQ
  cases h
  intro H locs ls hI hl
  obtain ⟨rfl, rfl, hP⟩ := hI
  exact W.iret X.1.1 X.1.2.1 hr (fun t ht hW => ⟨rfl, ht⟩) (fun q h => absurd h List.not_mem_nil) d X.2.1
theorem z_zretR {v o : Int32} {ty : FieldType} (X : CX p s m args meth c cc nL own D g) (hQ : Q = MQ below (rdQ (some (.int o))) args s 0 0 noA) (hr : meth.sig.returnType = some ty) (d : decode cc pc = .ok (.ireturn, 1)) (hn : narrow ty (.int v) = .int v) (h : some v = some o) : Z p l e R s m args below meth c Q nL 0 0 (IR D ws s) pc lv [.int v] := by
  subst hQ
  cases h
  intro H locs ls hI hl
  obtain ⟨rfl, rfl, hP⟩ := hI
  exact W.zret X.1.1 X.1.2.1 hr hn (fun t ht hW => ⟨rfl, ht⟩) (fun q h => absurd h List.not_mem_nil) d X.2.1
theorem rd_run {pc : Nat} {ls : Array Slot} {H : Heap} {locs : List Loc} {st0 : List Value} {v : Option Value} {a : Array Value} (hr : va_Run p l e R s m args below meth c H locs cells slots 0 0 (F0 m pc ls st0) rest (rdQ v a) noA) (kk : W p l e R s m args below meth c H locs cells slots Q (F0 m (pc + 3) ls (v.toList ++ rest))) : W p l e R s m args below meth c H locs cells slots Q (F0 m pc ls st0) := by
  intro T hT X
  obtain ⟨v2, st₀, t, T', L, h0, X', hL, e1, e2, ⟨hv, hh⟩, st⟩ := hr T hT X
  have hv2 : v2 = v := by cases hv; rfl
  subst hv2
  have hL0 : L = [] := by
    cases L with
    | nil => rfl
    | cons x L => exact (hL x List.mem_cons_self).elim
  subst hL0
  rw [List.append_nil] at X'
  obtain ⟨t2, a1, b1⟩ := kk T' (e1.trans (hh.trans h0)) X'
  exact ⟨t2, st t2 a1, b1⟩
/-- what the tables say of a callee, whoever calls -/
def card (y : MethodName) (cd : Cond) (n : Nat) : Prop := cd ∈ lw_all ∧ Cond.initialized y.cls ∈ lw_all ∧ y.cls ≠ "java/lang/invoke/MethodHandle" ∧ y.cls ≠ "java/lang/invoke/VarHandle" ∧ (parseMethodDescriptor y.desc).map (fun d => d.parameters.length) = some n
def cardS (y : MethodName) (cd : Cond) (n : Nat) : Prop := Cond.static y ∈ lw_all ∧ card y cd n
def cardV (y : MethodName) (cd : Cond) (n : Nat) : Prop := (Cond.instanceMethod y ∈ lw_all ∧ Cond.selects y.cls y y ∈ lw_all) ∧ card y cd n
abbrev fitsIn (rm R : Room) (maxL mc ms cells slots : Nat) : Prop := rm.frames + 1 ≤ R.frames ∧ 8 + (maxL + 11) + rm.locals ≤ R.locals ∧ rm.cells = mc ∧ rm.slots = ms ∧ cells + mc ≤ R.cells ∧ slots + ms ≤ R.slots
theorem cwS_of {y : MethodName} {bytes : ByteArray} {maxL index n mc ms : Nat} {ret : Option FieldType} {rm : Room} (X : CX p s m args meth c cc nL own D g) (K : cardS y (Cond.code y bytes maxL ret) n) (hq : Cond.methodLink own index y ∈ lw_all) (hR : fitsIn rm R maxL mc ms cells slots) : CallB R s args own index y bytes maxL ret (wA (Cond.code y bytes maxL ret)) rm mc ms n ∧ (Cond.static y).before args s = true :=
  va_cwS n X.1.2.2.2.2 (wA_S hq K.1 K.2.2.1 K.2.1) rfl hR.2.2.1 hR.2.2.2.1 ⟨K.2.2.2.1, K.2.2.2.2.1, K.2.2.2.2.2⟩ ⟨hR.1, hR.2.1⟩
theorem cwV_of {y : MethodName} {bytes : ByteArray} {maxL index n mc ms : Nat} {ret : Option FieldType} {rm : Room} (X : CX p s m args meth c cc nL own D g) (K : cardV y (Cond.code y bytes maxL ret) n) (hq : Cond.methodLink own index y ∈ lw_all) (hR : fitsIn rm R maxL mc ms cells slots) : CallW R s args own y.cls index y bytes maxL ret (wA (Cond.code y bytes maxL ret)) rm mc ms n :=
  cwV n X.1.2.2.2.2 (wA_V hq K.1.1 K.1.2 K.2.2.1 K.2.1) rfl hR.2.2.1 hR.2.2.2.1 ⟨rfl, K.2.2.2.1, K.2.2.2.2.1, K.2.2.2.2.2⟩ ⟨hR.1, hR.2.1⟩
theorem cnB_of {y : MethodName} {bytes : ByteArray} {maxL index n mc ms : Nat} {ret : Option FieldType} {rm : Room} {host : String} (X : CX p s m args meth c cc nL own D g) (K : card y (Cond.code y bytes maxL ret) n) (hq : Cond.methodLinkNest own index y host ∈ lw_nst) (hR : fitsIn rm R maxL mc ms cells slots) : va_CN R s args own index y host bytes maxL ret (wA (Cond.code y bytes maxL ret)) rm mc ms n :=
  va_cnB n X.1.2.2.2.2 (wA_G K.1) rfl hR.2.2.1 hR.2.2.2.1 (X.2.2.2 _ hq) (X.1.2.2.2.2 _ K.2.1) ⟨K.2.2.1, K.2.2.2.1, K.2.2.2.2⟩ ⟨hR.1, hR.2.1⟩
theorem rdPS {As : List Value} {wc : va_W} {H : Heap} (hK : KK D g s) (hP : va_P D vwCl wc H) : PreS s H (rdP D g As wc) As := ⟨rdP_blind, fun U hU hW => ⟨rfl, by rw [hU]; exact hP, hK.warm hW⟩⟩

theorem z_rdS {y : MethodName} {bytes : ByteArray} {maxL index n : Nat} {ret : Option FieldType} {rm : Room} {As : List Value} {wc : va_W} {v : Option Value} (X : CX p s m args meth c cc nL own D g) (hI0 : HasP D ws I) (K : cardS y (Cond.code y bytes maxL ret) n) (hM : MR l y (Cond.code y bytes maxL ret) rm D g As wc v) (hq : Cond.methodLink own index y ∈ lw_all) (d : decode cc pc = .ok (.invokestatic index, 3)) (is : List Nat) (hs : is.filterMap (fun i => ws[i]?) = wc) (hst : st = As.reverse ++ rest) (hn : As.length = n) (hR : fitsIn rm R maxL 0 0 cells slots) (hW : (rest.map fun v => v.category).sum ≤ 8) (kk : Z p l e R s m args below meth c Q nL cells slots I (pc + 3) lv (v.toList ++ rest)) : Z p l e R s m args below meth c Q nL cells slots I pc lv st := fun H locs ls hI hl =>
  rd_run (va_runS X.1 hM (cwS_of X K hq hR) (rdPS X.2.2 ((hI0 H locs hI).sub is hs)) rfl hn hl.1 hst (lv_room hW) d ⟨hR.2.2.2.2.1, hR.2.2.2.2.2⟩) (kk H locs ls hI hl)
theorem z_rdV {y : MethodName} {bytes : ByteArray} {maxL index n b q0 ci : Nat} {ret : Option FieldType} {rm : Room} {As : List Value} {wc : va_W} {v : Option Value} {C : vw_C} {fs : List Value} (X : CX p s m args meth c cc nL own D g) (hI0 : HasP D ws I) (K : cardV y (Cond.code y bytes maxL ret) n) (hM : MR l y (Cond.code y bytes maxL ret) rm D g (.ref b :: As) wc v) (hq : Cond.methodLink own index y ∈ lw_all) (d : decode cc pc = .ok (.invokevirtual index, 3)) (is : List Nat) (hs : is.filterMap (fun i => ws[i]?) = wc) (hc : vwCl[ci]? = some C) (hC : C.1 = y.cls) (he : ws[q0]? = some (b, .inr (ci, fs))) (hst : st = As.reverse ++ .ref b :: rest) (hn : As.length = n) (hR : fitsIn rm R maxL 0 0 cells slots) (hW : (rest.map fun v => v.category).sum ≤ 8) (kk : Z p l e R s m args below meth c Q nL cells slots I (pc + 3) lv (v.toList ++ rest)) : Z p l e R s m args below meth c Q nL cells slots I pc lv st := fun H locs ls hI hl =>
  rd_run (va_runV X.1 hM (cwV_of X K hq hR) ⟨rdP_blind, (by rw [← hC]; exact va_recv X.2.2.1 (hI0 H locs hI) hc he), (rdPS X.2.2 ((hI0 H locs hI).sub is hs)).2⟩ rfl hn hl.1 hst (lv_room hW) d ⟨hR.2.2.2.2.1, hR.2.2.2.2.2⟩) (kk H locs ls hI hl)
theorem z_rdSN {y : MethodName} {bytes : ByteArray} {maxL index n : Nat} {ret : Option FieldType} {rm : Room} {As : List Value} {wc : va_W} {v : Option Value} {host : String} (X : CX p s m args meth c cc nL own D g) (hI0 : HasP D ws I) (K : cardS y (Cond.code y bytes maxL ret) n) (hM : MR l y (Cond.code y bytes maxL ret) rm D g As wc v) (hq : Cond.methodLinkNest own index y host ∈ lw_nst) (d : decode cc pc = .ok (.invokestatic index, 3)) (is : List Nat) (hs : is.filterMap (fun i => ws[i]?) = wc) (hst : st = As.reverse ++ rest) (hn : As.length = n) (hR : fitsIn rm R maxL 0 0 cells slots) (hW : (rest.map fun v => v.category).sum ≤ 8) (kk : Z p l e R s m args below meth c Q nL cells slots I (pc + 3) lv (v.toList ++ rest)) : Z p l e R s m args below meth c Q nL cells slots I pc lv st := fun H locs ls hI hl =>
  rd_run (va_runSN X.1 hM ⟨cnB_of X K.2 hq hR, X.1.2.2.2.2 _ K.1, trivial⟩ (rdPS X.2.2 ((hI0 H locs hI).sub is hs)) rfl hn hl.1 hst (lv_room hW) d ⟨hR.2.2.2.2.1, hR.2.2.2.2.2⟩) (kk H locs ls hI hl)
theorem z_rdVN {y : MethodName} {bytes : ByteArray} {maxL index n b q0 ci : Nat} {ret : Option FieldType} {rm : Room} {As : List Value} {wc : va_W} {v : Option Value} {C : vw_C} {fs : List Value} {host : String} (X : CX p s m args meth c cc nL own D g) (hI0 : HasP D ws I) (K : cardV y (Cond.code y bytes maxL ret) n) (hM : MR l y (Cond.code y bytes maxL ret) rm D g (.ref b :: As) wc v) (hq : Cond.methodLinkNest own index y host ∈ lw_nst) (d : decode cc pc = .ok (.invokevirtual index, 3)) (is : List Nat) (hs : is.filterMap (fun i => ws[i]?) = wc) (hc : vwCl[ci]? = some C) (hC : C.1 = y.cls) (he : ws[q0]? = some (b, .inr (ci, fs))) (hst : st = As.reverse ++ .ref b :: rest) (hn : As.length = n) (hR : fitsIn rm R maxL 0 0 cells slots) (hW : (rest.map fun v => v.category).sum ≤ 8) (kk : Z p l e R s m args below meth c Q nL cells slots I (pc + 3) lv (v.toList ++ rest)) : Z p l e R s m args below meth c Q nL cells slots I pc lv st := fun H locs ls hI hl =>
  rd_run (va_runVN X.1 hM ⟨cnB_of X K.2 hq hR, X.1.2.2.2.2 _ K.1.1, X.1.2.2.2.2 _ K.1.2⟩ ⟨rdP_blind, (by rw [← hC]; exact va_recv X.2.2.1 (hI0 H locs hI) hc he), (rdPS X.2.2 ((hI0 H locs hI).sub is hs)).2⟩ rfl hn hl.1 hst (lv_room hW) d ⟨hR.2.2.2.2.1, hR.2.2.2.2.2⟩) (kk H locs ls hI hl)
end ZK
/-! ===== methods that write their world's cells, and make none ===== -/
section ZV
variable {p : Program} {l : Launch} {e : Env} {R : Room} {s : State} {m : MethodId} {args : Array Value} {below : List Frame} {meth : Method} {c : Code} {Q : State → Prop} {nL cells slots : Nat} {I : Heap → List Loc → Prop} {pc : Nat} {lv lv' : List (Nat × Value)} {st rest : List Value} {cc : ByteArray} {own : String} {D : va_G} {g : Nat → ClassId} {ws ws' ws0 : va_W} {A : Nat → Prop}
theorem z_lv (h : lv = lv') (kk : Z p l e R s m args below meth c Q nL cells slots I pc lv' st) : Z p l e R s m args below meth c Q nL cells slots I pc lv st := by rw [h]; exact kk
theorem z_sub (ks : List Nat) (h : lv_pick lv ks = lv') (kk : Z p l e R s m args below meth c Q nL cells slots I pc lv' st) : Z p l e R s m args below meth c Q nL cells slots I pc lv st := fun H locs ls hI hl => kk H locs ls hI (lv_sub hl ks h)
def inW (ws : va_W) : Nat → Prop := fun q => ∃ (k : Nat) (e : va_E), ws[k]? = some (q, e)
def wrP (D : va_G) (g : Nat → ClassId) (av : List Value) (ws : va_W) : Array Value → State → Prop := va_Pc av (fun U => va_P D vwCl ws U.heap ∧ KK D g U ∧ va_D (fun _ => True) ws)
def wrQ (D : va_G) (v : Option Value) (ws ws' : va_W) : Array Value → State → Outcome → State → Prop := fun _ st o t => o = .returned v ∧ va_P D vwCl ws' t.heap ∧ va_F (inW ws) st t
/-- the contract of a method that writes -/
abbrev MW (l : Launch) (y : MethodName) (cd : Cond) (rm : Room) (D : va_G) (g : Nat → ClassId) (av : List Value) (ws : va_W) (v : Option Value) (ws' : va_W) : Prop := Met l y (wA cd) rm (wrP D g av ws) (wrQ D v ws ws') 0 0 (inW ws)
theorem wrP_blind {av : List Value} : FrameBlind (wrP D g av ws) := fun a U f mk q => ⟨q.1, q.2.1, KK.same (s := U) (U := U.calling f mk a) rfl q.2.2.1, q.2.2.2⟩
theorem inW_D (h : va_D (fun _ => True) ws) : va_D (inW ws) ws := ⟨h.1, fun k q hk => ⟨k, q.2, hk⟩⟩
theorem z_wr_start {y : MethodName} {cc : ByteArray} {maxL : Nat} {ret : Option FieldType} {rm : Room} {av : List Value} {v : Option Value} (hy : plainName y.cls = true) (hlen : (lg_sl av).length ≤ maxL)
    (body : ∀ (p : Program) (e : Env) (s : State) (m : MethodId) (args : Array Value) (below : List Frame) (meth : Method) (c : Code) (Q : State → Prop) (A : Nat → Prop), CX p s m args meth c cc maxL y.cls D g → meth.sig.returnType = ret → Q = MQ below (wrQ D v ws ws') args s 0 0 (inW ws) → A = inW ws → Z p l e rm s m args below meth c Q maxL 0 0 (IW D A s ws) 0 (lv_args 0 av) []) : MW l y (Cond.code y cc maxL ret) rm D g av ws v ws' := by
  refine Met.ofW (cc := cc) (maxL := maxL) (ret := ret) hy rfl ?_
  intro p e s m args below meth c s₁ B hml hv
  obtain ⟨rfl, hP, hK, hD⟩ := hv
  have hts := atoms_spec (ws := wA (Cond.code y cc maxL ret)) B.pre
  have hts : ∀ w ∈ lw_all, w.before av.toArray s = true := fun w h => hts w (List.mem_cons_of_mem _ h)
  have hl := lv_entry av (n := maxL) hlen
  rw [lg_entry_eq]
  exact body p e s m _ below meth c _ _ ⟨⟨B.exec, B.bytes, hml, findClass_of_methodNamed B.named, hts⟩, B.notSynchronized, hK⟩ B.returns rfl rfl s.heap [] _ ⟨hP, inW_D hD, va_S.rf⟩ hl
theorem z_iretW {v : Int32} (X : CX p s m args meth c cc nL own D g) (hQ : Q = MQ below (wrQ D (some (.int v)) ws0 ws) args s 0 0 (inW ws0)) (hA : A = inW ws0) (hr : meth.sig.returnType = some .int) (d : decode cc pc = .ok (.ireturn, 1)) : Z p l e R s m args below meth c Q nL 0 0 (IW D A s ws) pc lv [.int v] := by
  subst hQ hA
  intro H locs ls hI hl
  exact W.iret X.1.1 X.1.2.1 hr (fun t ht hW => ⟨rfl, by rw [ht]; exact hI.1, hI.2.2.F ht⟩) hI.2.2.2.2 d X.2.1
theorem z_zretW {v : Int32} {ty : FieldType} (X : CX p s m args meth c cc nL own D g) (hQ : Q = MQ below (wrQ D (some (.int v)) ws0 ws) args s 0 0 (inW ws0)) (hA : A = inW ws0) (hr : meth.sig.returnType = some ty) (d : decode cc pc = .ok (.ireturn, 1)) (hn : narrow ty (.int v) = .int v) : Z p l e R s m args below meth c Q nL 0 0 (IW D A s ws) pc lv [.int v] := by
  subst hQ hA
  intro H locs ls hI hl
  exact W.zret X.1.1 X.1.2.1 hr hn (fun t ht hW => ⟨rfl, by rw [ht]; exact hI.1, hI.2.2.F ht⟩) hI.2.2.2.2 d X.2.1
theorem z_vretW (X : CX p s m args meth c cc nL own D g) (hQ : Q = MQ below (wrQ D none ws0 ws) args s 0 0 (inW ws0)) (hA : A = inW ws0) (hr : meth.sig.returnType = none) (d : decode cc pc = .ok (.return_, 1)) : Z p l e R s m args below meth c Q nL 0 0 (IW D A s ws) pc lv [] := by
  subst hQ hA
  intro H locs ls hI hl
  exact W.vret X.1.1 X.1.2.1 hr (fun t ht hW => ⟨rfl, by rw [ht]; exact hI.1, hI.2.2.F ht⟩) hI.2.2.2.2 d X.2.1
/-- places of a part of a world, and of the rest -/
abbrev fitsW (ws ws' wc wc' wr : va_W) (as : List Nat) (is js : List Nat) : Prop := is.map (fun i => ws[i]?) = wc.map some ∧ is.map (fun i => ws'[i]?) = wc'.map some ∧ ws.map Prod.fst = as ∧ ws'.map Prod.fst = as ∧ js.map (fun i => ws'[i]?) = wr.map some ∧ js.map (fun i => ws[i]?) = wr.map some ∧ (List.range ws.length).all (fun i => is.contains i || js.contains i) = true ∧ va_nd is = true
theorem map_at {α : Type} {is : List Nat} {f : Nat → Option α} {w : List α} (h : is.map f = w.map some) {k : Nat} {q : α} (hq : w[k]? = some q) : ∃ i, is[k]? = some i ∧ f i = some q := by
  have h1 : (is.map f)[k]? = some (some q) := by rw [h, List.getElem?_map, hq]; rfl
  rw [List.getElem?_map] at h1
  cases hi : is[k]? with
  | none => rw [hi] at h1; cases h1
  | some i => rw [hi] at h1; exact ⟨i, rfl, Option.some.inj h1⟩
theorem wr_back {wc wc' : va_W} {wr : va_W} {as : List Nat} {is js : List Nat} {H H1 : Heap} (hf : fitsW ws ws' wc wc' wr as is js) (hP : va_P D vwCl ws H) (hD : va_D A ws) (hk : ∀ q : Nat, q < H.size → ¬ inW wc q → H1[q]? = H[q]?) (hP1 : va_P D vwCl wc' H1) : va_P D vwCl ws' H1 ∧ va_D A ws' := by
  obtain ⟨h1, h2, h3, h3', h4, h4', h5, h6⟩ := hf
  replace h3 := h3.trans h3'.symm
  replace h4 := h4.trans h4'.symm
  have fst_at : ∀ (k : Nat) (q : Nat × va_E), ws'[k]? = some q → ∃ e, ws[k]? = some (q.1, e) := by
    intro k q hq
    have e1 : (ws.map Prod.fst)[k]? = some q.1 := by rw [h3, List.getElem?_map, hq]; rfl
    rw [List.getElem?_map] at e1
    cases hw : ws[k]? with
    | none => rw [hw] at e1; cases e1
    | some x =>
      rw [hw] at e1
      have e2 : x.1 = q.1 := Option.some.inj e1
      exact ⟨x.2, by rw [← e2]⟩
  refine ⟨fun k q hq => ?_, fun i j a b ha hb hab => ?_, fun k q hq => ?_⟩
  · obtain ⟨e0, he0⟩ := fst_at k q hq
    have hlt : k < ws.length := (List.getElem?_eq_some_iff.mp he0).1
    have hc := List.all_eq_true.mp h5 k (List.mem_range.mpr hlt)
    rcases Bool.or_eq_true _ _ |>.mp hc with hc | hc
    · have hm : k ∈ is := List.contains_iff_mem.mp hc
      obtain ⟨j, hj⟩ := List.getElem?_of_mem hm
      have e2 : (is.map (fun i => ws'[i]?))[j]? = some (some q) := by rw [List.getElem?_map, hj]; exact congrArg some hq
      rw [h2, List.getElem?_map] at e2
      cases hw : wc'[j]? with
      | none => rw [hw] at e2; cases e2
      | some x => rw [hw] at e2; cases e2; exact hP1 j q hw
    · have hm : k ∈ js := List.contains_iff_mem.mp hc
      obtain ⟨j, hj⟩ := List.getElem?_of_mem hm
      have e2 : (js.map (fun i => ws'[i]?))[j]? = some (some q) := by rw [List.getElem?_map, hj]; exact congrArg some hq
      rw [h4, List.getElem?_map, hj] at e2
      have hq0 : ws[k]? = some q := Option.some.inj e2
      by_cases hin : inW wc q.1
      · obtain ⟨k2, e9, hk2⟩ := hin
        obtain ⟨i2, hi2, hw2⟩ := map_at h1 hk2
        have hik := hD.1 k i2 q (q.1, e9) hq0 hw2 rfl
        subst hik
        have e3 : (is.map (fun i => ws'[i]?))[k2]? = some (some q) := by rw [List.getElem?_map, hi2]; exact congrArg some hq
        rw [h2, List.getElem?_map] at e3
        cases hw : wc'[k2]? with
        | none => rw [hw] at e3; cases e3
        | some x => rw [hw] at e3; cases e3; exact hP1 k2 q hw
      · exact (hP k q hq0).kept (hk q.1 (hP k q hq0).lt hin)
  · obtain ⟨e1, he1⟩ := fst_at i a ha
    obtain ⟨e2, he2⟩ := fst_at j b hb
    exact hD.1 i j _ _ he1 he2 hab
  · obtain ⟨e1, he1⟩ := fst_at k q hq
    exact hD.2 k (q.1, e1) he1
theorem inW_A {wc : va_W} {is : List Nat} (h1 : is.map (fun i => ws[i]?) = wc.map some) (hD : va_D A ws) : ∀ q, inW wc q → A q := by
  intro q ⟨k, e, hk⟩
  obtain ⟨i, -, hi⟩ := map_at h1 hk
  exact hD.2 i _ hi
theorem wr_run {pc : Nat} {ls : Array Slot} {H : Heap} {locs : List Loc} {st0 : List Value} {v : Option Value} {a : Array Value} {wc wc' wr : va_W} {as : List Nat} {is js : List Nat} (hf : fitsW ws ws' wc wc' wr as is js) (hI : IW D A s ws H locs) (hr : va_Run p l e R s m args below meth c H locs cells slots 0 0 (F0 m pc ls st0) rest (wrQ D v wc wc' a) (inW wc)) (kk : ∀ H1 locs1, IW D A s ws' H1 locs1 → W p l e R s m args below meth c H1 locs1 cells slots Q (F0 m (pc + 3) ls (v.toList ++ rest))) : W p l e R s m args below meth c H locs cells slots Q (F0 m pc ls st0) := by
  intro T hT X
  obtain ⟨v2, st₀, t, T', L, h0, X', hL, e1, e2, ⟨hv, hP1, hz, hk⟩, st⟩ := hr T hT X
  have hv2 : v2 = v := by cases hv; rfl
  subst hv2
  rw [h0] at hz hk
  have hA := inW_A hf.1 hI.2.1
  obtain ⟨hP2, hD2⟩ := wr_back hf hI.1 hI.2.1 (H1 := T'.heap) (fun q h1 h2 => by rw [e1]; exact hk q h1 h2) (by rw [e1]; exact hP1)
  obtain ⟨t2, a1, b1⟩ := kk T'.heap (locs ++ L) ⟨hP2, hD2, Nat.le_trans hI.2.2.1 (by rw [e1]; exact hz), fun q h1 h2 => by rw [e1, hk q (Nat.lt_of_lt_of_le h1 hI.2.2.1) (fun z => h2 (hA q z))]; exact hI.2.2.2.1 q h1 h2, fun q hq => by
    rcases List.mem_append.mp hq with h | h
    · exact hI.2.2.2.2 q h
    · exact hA _ (hL q h)⟩ T' rfl X'
  exact ⟨t2, st t2 a1, b1⟩
theorem wrPS {As : List Value} {wc : va_W} {is : List Nat} {H : Heap} (hK : KK D g s) (hP : va_P D vwCl ws H) (hD : va_D A ws) (h1 : is.map (fun i => ws[i]?) = wc.map some) (hn : va_nd is = true) : PreS s H (wrP D g As wc) As := by
  refine ⟨wrP_blind, fun U hU hW => ⟨rfl, ?_, hK.warm hW, (hD.sub is hn h1).weaken (fun _ _ _ _ => trivial)⟩⟩
  rw [hU]
  intro k q hq
  obtain ⟨i, -, hi⟩ := map_at h1 hq
  exact hP i q hi

theorem z_wrS {y : MethodName} {bytes : ByteArray} {maxL index n : Nat} {ret : Option FieldType} {rm : Room} {As : List Value} {wc wc' wr : va_W} {as : List Nat} {v : Option Value} (X : CX p s m args meth c cc nL own D g) (K : cardS y (Cond.code y bytes maxL ret) n) (hM : MW l y (Cond.code y bytes maxL ret) rm D g As wc v wc') (hq : Cond.methodLink own index y ∈ lw_all) (d : decode cc pc = .ok (.invokestatic index, 3)) (is js : List Nat) (hf : fitsW ws ws' wc wc' wr as is js) (hst : st = As.reverse ++ rest) (hn : As.length = n) (hR : fitsIn rm R maxL 0 0 cells slots) (hW : (rest.map fun v => v.category).sum ≤ 8) (kk : Z p l e R s m args below meth c Q nL cells slots (IW D A s ws') (pc + 3) lv (v.toList ++ rest)) : Z p l e R s m args below meth c Q nL cells slots (IW D A s ws) pc lv st := fun H locs ls hI hl =>
  wr_run hf hI (va_runS X.1 hM (cwS_of X K hq hR) (wrPS X.2.2 hI.1 hI.2.1 hf.1 hf.2.2.2.2.2.2.2) rfl hn hl.1 hst (lv_room hW) d ⟨hR.2.2.2.2.1, hR.2.2.2.2.2⟩) (fun H1 locs1 hI1 => kk H1 locs1 ls hI1 hl)
theorem z_wrV {y : MethodName} {bytes : ByteArray} {maxL index n b q0 ci : Nat} {ret : Option FieldType} {rm : Room} {As : List Value} {wc wc' wr : va_W} {as : List Nat} {v : Option Value} {C : vw_C} {fs : List Value} (X : CX p s m args meth c cc nL own D g) (K : cardV y (Cond.code y bytes maxL ret) n) (hM : MW l y (Cond.code y bytes maxL ret) rm D g (.ref b :: As) wc v wc') (hq : Cond.methodLink own index y ∈ lw_all) (d : decode cc pc = .ok (.invokevirtual index, 3)) (is js : List Nat) (hf : fitsW ws ws' wc wc' wr as is js) (hc : vwCl[ci]? = some C) (hC : C.1 = y.cls) (he : ws[q0]? = some (b, .inr (ci, fs))) (hst : st = As.reverse ++ .ref b :: rest) (hn : As.length = n) (hR : fitsIn rm R maxL 0 0 cells slots) (hW : (rest.map fun v => v.category).sum ≤ 8) (kk : Z p l e R s m args below meth c Q nL cells slots (IW D A s ws') (pc + 3) lv (v.toList ++ rest)) : Z p l e R s m args below meth c Q nL cells slots (IW D A s ws) pc lv st := fun H locs ls hI hl =>
  wr_run hf hI (va_runV X.1 hM (cwV_of X K hq hR) ⟨wrP_blind, (by rw [← hC]; exact va_recv X.2.2.1 hI.1 hc he), (wrPS X.2.2 hI.1 hI.2.1 hf.1 hf.2.2.2.2.2.2.2).2⟩ rfl hn hl.1 hst (lv_room hW) d ⟨hR.2.2.2.2.1, hR.2.2.2.2.2⟩) (fun H1 locs1 hI1 => kk H1 locs1 ls hI1 hl)
theorem z_wrSN {y : MethodName} {bytes : ByteArray} {maxL index n : Nat} {ret : Option FieldType} {rm : Room} {As : List Value} {wc wc' wr : va_W} {as : List Nat} {v : Option Value} {host : String} (X : CX p s m args meth c cc nL own D g) (K : cardS y (Cond.code y bytes maxL ret) n) (hM : MW l y (Cond.code y bytes maxL ret) rm D g As wc v wc') (hq : Cond.methodLinkNest own index y host ∈ lw_nst) (d : decode cc pc = .ok (.invokestatic index, 3)) (is js : List Nat) (hf : fitsW ws ws' wc wc' wr as is js) (hst : st = As.reverse ++ rest) (hn : As.length = n) (hR : fitsIn rm R maxL 0 0 cells slots) (hW : (rest.map fun v => v.category).sum ≤ 8) (kk : Z p l e R s m args below meth c Q nL cells slots (IW D A s ws') (pc + 3) lv (v.toList ++ rest)) : Z p l e R s m args below meth c Q nL cells slots (IW D A s ws) pc lv st := fun H locs ls hI hl =>
  wr_run hf hI (va_runSN X.1 hM ⟨cnB_of X K.2 hq hR, X.1.2.2.2.2 _ K.1, trivial⟩ (wrPS X.2.2 hI.1 hI.2.1 hf.1 hf.2.2.2.2.2.2.2) rfl hn hl.1 hst (lv_room hW) d ⟨hR.2.2.2.2.1, hR.2.2.2.2.2⟩) (fun H1 locs1 hI1 => kk H1 locs1 ls hI1 hl)
theorem z_wrVN {y : MethodName} {bytes : ByteArray} {maxL index n b q0 ci : Nat} {ret : Option FieldType} {rm : Room} {As : List Value} {wc wc' wr : va_W} {as : List Nat} {v : Option Value} {C : vw_C} {fs : List Value} {host : String} (X : CX p s m args meth c cc nL own D g) (K : cardV y (Cond.code y bytes maxL ret) n) (hM : MW l y (Cond.code y bytes maxL ret) rm D g (.ref b :: As) wc v wc') (hq : Cond.methodLinkNest own index y host ∈ lw_nst) (d : decode cc pc = .ok (.invokevirtual index, 3)) (is js : List Nat) (hf : fitsW ws ws' wc wc' wr as is js) (hc : vwCl[ci]? = some C) (hC : C.1 = y.cls) (he : ws[q0]? = some (b, .inr (ci, fs))) (hst : st = As.reverse ++ .ref b :: rest) (hn : As.length = n) (hR : fitsIn rm R maxL 0 0 cells slots) (hW : (rest.map fun v => v.category).sum ≤ 8) (kk : Z p l e R s m args below meth c Q nL cells slots (IW D A s ws') (pc + 3) lv (v.toList ++ rest)) : Z p l e R s m args below meth c Q nL cells slots (IW D A s ws) pc lv st := fun H locs ls hI hl =>
  wr_run hf hI (va_runVN X.1 hM ⟨cnB_of X K.2 hq hR, X.1.2.2.2.2 _ K.1.1, X.1.2.2.2.2 _ K.1.2⟩ ⟨wrP_blind, (by rw [← hC]; exact va_recv X.2.2.1 hI.1 hc he), (wrPS X.2.2 hI.1 hI.2.1 hf.1 hf.2.2.2.2.2.2.2).2⟩ rfl hn hl.1 hst (lv_room hW) d ⟨hR.2.2.2.2.1, hR.2.2.2.2.2⟩) (fun H1 locs1 hI1 => kk H1 locs1 ls hI1 hl)
end ZV
theorem nar_bool {v : Int32} (h : v = 0 ∨ v = 1) : narrow .boolean (.int v) = .int v := by
  rcases h with rfl | rfl <;> rfl
theorem fits_bool {v : Int32} (h : v = 0 ∨ v = 1) : fits .boolean (.int v) = true := by
  rcases h with rfl | rfl <;> rfl
theorem nar_char {v : Int32} (h : vp_nar .char v = v) : narrow .char (.int v) = .int v := congrArg Value.int h
section ZS
variable {p : Program} {l : Launch} {e : Env} {R : Room} {s : State} {m : MethodId} {args : Array Value} {below : List Frame} {meth : Method} {c : Code} {Q : State → Prop} {nL cells slots : Nat} {I : Heap → List Loc → Prop} {pc : Nat} {lv lv' : List (Nat × Value)} {st rest : List Value} {cc : ByteArray} {own : String} {D : va_G} {g : Nat → ClassId} {ws ws' ws0 : va_W} {A : Nat → Prop}
theorem sw_eq {x y : Int32} {k : Int} (h : x = y) (hy : y.toInt = k) : x.toInt = k := by rw [h]; exact hy
theorem sw_ne {x y : Int32} {k : Int} (h : ¬ x = y) (hy : y.toInt = k) : ¬ x.toInt = k := fun q => h (Int32.toInt_inj.mp (q.trans hy.symm))
theorem z_tin {dflt lo hi : Int} {offs : Array Int} {len : Nat} {x : Int32} {off : Int} (tgt : Nat) {v : Int} (X : CX p s m args meth c cc nL own D g) (d : decode cc pc = .ok (.tableswitch dflt lo hi offs, len)) (hx : x.toInt = v) (h1 : ¬ v < lo) (h2 : ¬ hi < v) (ho : offs[(v - lo).toNat]? = some off) (ht : (pc : Int) + off = (tgt : Int)) (kk : Z p l e R s m args below meth c Q nL cells slots I tgt lv st) : Z p l e R s m args below meth c Q nL cells slots I pc lv (.int x :: st) := fun H locs ls hI hl =>
  lv_tableIn X.1.1 X.1.2.1 d (by rw [hx]; exact h1) (by rw [hx]; exact h2) (by rw [hx]; exact ho) ht (kk H locs ls hI hl)
theorem z_tdef {dflt lo hi : Int} {offs : Array Int} {len : Nat} {x : Int32} (tgt : Nat) (keys : List Int) (X : CX p s m args meth c cc nL own D g) (d : decode cc pc = .ok (.tableswitch dflt lo hi offs, len)) (hk : (List.range offs.size).all (fun j => offs[j]? == some dflt || keys.contains (lo + (j : Int))) = true) (hn : hi - lo < (offs.size : Int)) (hx : ∀ k ∈ keys, ¬ x.toInt = k) (ht : (pc : Int) + dflt = (tgt : Int)) (kk : Z p l e R s m args below meth c Q nL cells slots I tgt lv st) : Z p l e R s m args below meth c Q nL cells slots I pc lv (.int x :: st) := by
  intro H locs ls hI hl
  by_cases h1 : x.toInt < lo
  · exact lv_tableOut X.1.1 X.1.2.1 d (Or.inl h1) ht (kk H locs ls hI hl)
  by_cases h2 : hi < x.toInt
  · exact lv_tableOut X.1.1 X.1.2.1 d (Or.inr h2) ht (kk H locs ls hI hl)
  have hj : (x.toInt - lo).toNat < offs.size := by omega
  have h3 := List.all_eq_true.mp hk _ (List.mem_range.mpr hj)
  rcases Bool.or_eq_true _ _ |>.mp h3 with h3 | h3
  · exact lv_tableIn X.1.1 X.1.2.1 d h1 h2 (eq_of_beq h3) ht (kk H locs ls hI hl)
  · have h4 : lo + (((x.toInt - lo).toNat : Nat) : Int) ∈ keys := List.contains_iff_mem.mp h3
    exact absurd (by omega) (hx _ h4)
theorem z_lin {dflt : Int} {ps : Array (Int × Int)} {len : Nat} {x : Int32} {off : Int} (tgt : Nat) {v : Int} (X : CX p s m args meth c cc nL own D g) (d : decode cc pc = .ok (.lookupswitch dflt ps, len)) (hp : (ps.toList.zip (ps.toList.drop 1)).all (fun (a, next) => a.1 < next.1) = true) (hx : x.toInt = v) (ho : Op.lookupswitch.offset ps.toList dflt v = off) (ht : (pc : Int) + off = (tgt : Int)) (kk : Z p l e R s m args below meth c Q nL cells slots I tgt lv st) : Z p l e R s m args below meth c Q nL cells slots I pc lv (.int x :: st) := fun H locs ls hI hl =>
  lv_lookup X.1.1 X.1.2.1 d hp (by rw [hx]; exact ho) ht (kk H locs ls hI hl)
theorem lk_def {ps : List (Int × Int)} {dflt v : Int} (h : ∀ k ∈ ps.map Prod.fst, ¬ v = k) : Op.lookupswitch.offset ps dflt v = dflt := by
  induction ps with
  | nil => rfl
  | cons a l ih =>
    have h1 : ¬ a.1 = v := fun q => h a.1 (by simp) q.symm
    have h2 := ih (fun k hk => h k (List.mem_cons_of_mem _ hk))
    simp only [Op.lookupswitch.offset, List.find?_cons] at h2 ⊢
    simp [h1] at h2 ⊢
    exact h2
theorem z_ldef {dflt : Int} {ps : Array (Int × Int)} {len : Nat} {x : Int32} (tgt : Nat) (X : CX p s m args meth c cc nL own D g) (d : decode cc pc = .ok (.lookupswitch dflt ps, len)) (hp : (ps.toList.zip (ps.toList.drop 1)).all (fun (a, next) => a.1 < next.1) = true) (hx : ∀ k ∈ ps.toList.map Prod.fst, ¬ x.toInt = k) (ht : (pc : Int) + dflt = (tgt : Int)) (kk : Z p l e R s m args below meth c Q nL cells slots I tgt lv st) : Z p l e R s m args below meth c Q nL cells slots I pc lv (.int x :: st) := fun H locs ls hI hl =>
  lv_lookup X.1.1 X.1.2.1 d hp (lk_def hx) ht (kk H locs ls hI hl)
end ZS
