/-- a town's values: its numbers, its rows -/
abbrev TVal : Type := (Nat → Int32) × (Nat → Nat → Int32)
def tvMk (i0 i1 i2 i3 i4 i5 i6 i7 i8 : Int32) (r0 r1 r2 r3 r4 r5 r6 r7 r8 r9 r10 r11 : Nat → Int32) : TVal := (fun k => match k with
  | 0 => i0
  | 1 => i1
  | 2 => i2
  | 3 => i3
  | 4 => i4
  | 5 => i5
  | 6 => i6
  | 7 => i7
  | 8 => i8
  | _ => 0, fun k => match k with
  | 0 => r0
  | 1 => r1
  | 2 => r2
  | 3 => r3
  | 4 => r4
  | 5 => r5
  | 6 => r6
  | 7 => r7
  | 8 => r8
  | 9 => r9
  | 10 => r10
  | 11 => r11
  | _ => fun _ => 0)
/-- a town's cells, at these addresses -/
def townW (g : Nat → ClassId) (a : Nat → Nat) (v : TVal) : va_W := [((a 0), .inr (9, [.ref (a 1), .ref (a 2), .ref (a 3), .ref (a 4), .ref (a 5), .int (v.1 0), .int (v.1 1), .int (v.1 2), .int (v.1 3), .int (v.1 4), .int (v.1 5)])), ((a 1), .inr (3, [.int (v.1 6), .ref (a 6), .ref (a 7), .ref (a 8), .ref (a 9), .ref (a 10)])), ((a 6), .inl (g 0, 10, .inl (v.2 0))), ((a 7), .inl (g 0, 10, .inl (v.2 1))), ((a 8), .inl (g 0, 10, .inl (v.2 2))), ((a 9), .inl (g 0, 10, .inl (v.2 3))), ((a 10), .inl (g 0, 10, .inl (v.2 4))), ((a 2), .inr (2, [.int (v.1 7), .ref (a 11), .ref (a 12), .ref (a 13)])), ((a 11), .inl (g 0, 4, .inl (v.2 5))), ((a 12), .inl (g 0, 4, .inl (v.2 6))), ((a 13), .inl (g 0, 4, .inl (v.2 7))), ((a 3), .inr (6, [.int (v.1 8), .ref (a 14), .ref (a 15)])), ((a 14), .inl (g 0, 4, .inl (v.2 8))), ((a 15), .inl (g 0, 4, .inl (v.2 9))), ((a 4), .inl (g 0, 64, .inl (v.2 10))), ((a 5), .inl (g 0, 4, .inl (v.2 11)))]
/-- the past's towns -/
def poolW (g : Nat → ClassId) (ad : Nat → Nat → Nat) (pv : Nat → TVal) : va_W := (List.range 8).flatMap (fun j => townW g (ad j) (pv j))
def updP (pv : Nat → TVal) (k : Nat) (v : TVal) : Nat → TVal := fun j => if j = k then v else pv j
theorem vP_mem {D : va_G} {ws : va_W} {H : Heap} : va_P D vwCl ws H ↔ ∀ q ∈ ws, va_at D vwCl q H := by
  constructor
  · intro h q hq
    obtain ⟨i, hi⟩ := List.getElem?_of_mem hq
    exact h i q hi
  · intro h k q hk
    exact h q (List.mem_of_getElem? hk)
theorem vD_nd {A : Nat → Prop} {ws : va_W} : va_D A ws ↔ (ws.map Prod.fst).Nodup ∧ ∀ q ∈ ws, A q.1 := by
  constructor
  · intro h
    refine ⟨?_, fun q hq => ?_⟩
    · rw [List.nodup_iff_getElem?_ne_getElem?]
      intro i j hij hj he
      have hj1 : j < ws.length := by simpa using hj
      have hi1 : i < ws.length := by omega
      rw [List.getElem?_map, List.getElem?_map, List.getElem?_eq_getElem hi1, List.getElem?_eq_getElem hj1] at he
      have := h.1 i j ws[i] ws[j] (List.getElem?_eq_getElem hi1) (List.getElem?_eq_getElem hj1) (Option.some.inj he)
      omega
    · obtain ⟨i, hi⟩ := List.getElem?_of_mem hq
      exact h.2 i q hi
  · intro h
    refine ⟨fun i j p q hi hj he => ?_, fun k q hk => h.2 q (List.mem_of_getElem? hk)⟩
    have hn := List.nodup_iff_getElem?_ne_getElem?.mp h.1
    have hi1 := (List.getElem?_eq_some_iff.mp hi).1
    have hj1 := (List.getElem?_eq_some_iff.mp hj).1
    have e1 : (ws.map Prod.fst)[i]? = some p.1 := by rw [List.getElem?_map, hi]; rfl
    have e2 : (ws.map Prod.fst)[j]? = some p.1 := by rw [List.getElem?_map, hj, he]; rfl
    rcases Nat.lt_trichotomy i j with l | l | l
    · exact absurd (e1.trans e2.symm) (hn i j l (by simpa using hj1))
    · exact l
    · exact absurd (e2.trans e1.symm) (hn j i l (by simpa using hi1))
theorem bk_perm {ws ws' wc wc' wr : va_W} (h1 : ws.Perm (wc ++ wr)) (h2 : ws'.Perm (wc' ++ wr)) (h3 : wc.map Prod.fst = wc'.map Prod.fst) : bkc ws wc ∧ bk ws ws' wc wc' := by
  refine ⟨fun D A H hP hD => ?_, fun D A H H1 hP hD hk hP1 => ?_⟩
  · rw [vP_mem] at hP
    rw [vD_nd] at hD
    have hn := (h1.map Prod.fst).nodup_iff.mp hD.1
    rw [List.map_append] at hn
    exact ⟨vP_mem.mpr fun q hq => hP q (h1.mem_iff.mpr (List.mem_append_left _ hq)), vD_nd.mpr ⟨(List.nodup_append.mp hn).1, fun q hq => hD.2 q (h1.mem_iff.mpr (List.mem_append_left _ hq))⟩⟩
  · rw [vP_mem] at hP hP1
    rw [vD_nd] at hD
    have hn := (h1.map Prod.fst).nodup_iff.mp hD.1
    rw [List.map_append] at hn
    have hdis := (List.nodup_append.mp hn).2.2
    refine ⟨vP_mem.mpr fun q hq => ?_, vD_nd.mpr ⟨?_, fun q hq => ?_⟩⟩
    · rcases List.mem_append.mp (h2.mem_iff.mp hq) with hq | hq
      · exact hP1 q hq
      · have hq0 := hP q (h1.mem_iff.mpr (List.mem_append_right _ hq))
        refine hq0.kept (hk q.1 hq0.lt (fun ⟨k, e, he⟩ => ?_))
        exact hdis _ (List.mem_map.mpr ⟨_, List.mem_of_getElem? he, rfl⟩) _ (List.mem_map.mpr ⟨_, hq, rfl⟩) rfl
    · refine (h2.map Prod.fst).nodup_iff.mpr ?_
      rw [List.map_append, ← h3]
      exact hn
    · rcases List.mem_append.mp (h2.mem_iff.mp hq) with hq | hq
      · have : q.1 ∈ wc.map Prod.fst := by rw [h3]; exact List.mem_map.mpr ⟨_, hq, rfl⟩
        obtain ⟨x, hx, he⟩ := List.mem_map.mp this
        rw [← he]
        exact hD.2 x (h1.mem_iff.mpr (List.mem_append_left _ hx))
      · exact hD.2 q (h1.mem_iff.mpr (List.mem_append_right _ hq))
theorem perm_of {E wc wr : va_W} (is js : List Nat) {n : Nat} (h1 : is.map (fun i => E[i]?) = wc.map some) (h2 : js.map (fun i => E[i]?) = wr.map some) (hn : E.length = n) (h3 : (is ++ js).isPerm (List.range n) = true) : E.Perm (wc ++ wr) := by
  have hp : (is ++ js).Perm (List.range E.length) := by rw [hn]; exact List.isPerm_iff.mp h3
  have h4 := hp.map (fun i => E[i]?)
  rw [List.map_append, h1, h2, ← List.map_append] at h4
  have h5 : (List.range E.length).map (fun i => E[i]?) = E.map some := by
    apply List.ext_getElem?
    intro i
    by_cases hi : i < E.length
    · simp [hi]
    · simp [hi]
  rw [h5] at h4
  have h6 := h4.filterMap id
  simpa using h6.symm
theorem bk_app {E E' wc wc' wr X : va_W} (h1 : E.Perm (wc ++ wr)) (h2 : E'.Perm (wc' ++ wr)) (h3 : wc.map Prod.fst = wc'.map Prod.fst) : bkc (E ++ X) wc ∧ bk (E ++ X) (E' ++ X) wc wc' :=
  bk_perm (wr := wr ++ X) (by rw [← List.append_assoc]; exact h1.append_right X) (by rw [← List.append_assoc]; exact h2.append_right X) h3
theorem pool_at (g : Nat → ClassId) (ad : Nat → Nat → Nat) (pv : Nat → TVal) {j : Nat} (hj : j < 8) : ∃ X : va_W, (poolW g ad pv).Perm (townW g (ad j) (pv j) ++ X) ∧ ∀ v, (poolW g ad (updP pv j v)).Perm (townW g (ad j) v ++ X) := by
  refine ⟨((List.range 8).erase j).flatMap (fun i => townW g (ad i) (pv i)), ?_, fun v => ?_⟩
  · have h := (List.perm_cons_erase (List.mem_range.mpr hj)).flatMap_right (fun i => townW g (ad i) (pv i))
    simpa [poolW] using h
  · have h := (List.perm_cons_erase (List.mem_range.mpr hj)).flatMap_right (fun i => townW g (ad i) (updP pv j v i))
    rw [List.flatMap_cons] at h
    have e1 : updP pv j v j = v := if_pos rfl
    rw [e1] at h
    have e2 : ((List.range 8).erase j).flatMap (fun i => townW g (ad i) (updP pv j v i)) = ((List.range 8).erase j).flatMap (fun i => townW g (ad i) (pv i)) := by
      rw [List.flatMap_def, List.flatMap_def]
      congr 1
      apply List.map_congr_left
      intro i hi
      have hne : i ≠ j := fun q => by
        subst q
        exact (List.Nodup.mem_erase_iff List.nodup_range).mp hi |>.1 rfl
      show townW g (ad i) (updP pv j v i) = _
      rw [show updP pv j v i = pv i from if_neg hne]
    rw [e2] at h
    exact h
theorem bk_pool {g : Nat → ClassId} {E E' wc wc' wr : va_W} {ad : Nat → Nat → Nat} {pv : Nat → TVal} {j : Nat} {v' : TVal} (hj : j < 8) (h1 : E.Perm (wc ++ wr)) (h2 : E'.Perm (wc' ++ wr)) (h3 : wc.map Prod.fst = wc'.map Prod.fst) : bkc (E ++ poolW g ad pv) (wc ++ townW g (ad j) (pv j)) ∧ bk (E ++ poolW g ad pv) (E' ++ poolW g ad (updP pv j v')) (wc ++ townW g (ad j) (pv j)) (wc' ++ townW g (ad j) v') := by
  obtain ⟨X, p1, p2⟩ := pool_at g ad pv hj
  refine bk_perm (wr := wr ++ X) ?_ ?_ ?_
  · refine (h1.append p1).trans ?_
    simp only [List.append_assoc]
    refine List.Perm.append_left wc ?_
    rw [← List.append_assoc, ← List.append_assoc]
    exact List.Perm.append_right X List.perm_append_comm
  · refine (h2.append (p2 v')).trans ?_
    simp only [List.append_assoc]
    refine List.Perm.append_left wc' ?_
    rw [← List.append_assoc, ← List.append_assoc]
    exact List.Perm.append_right X List.perm_append_comm
  · rw [List.map_append, List.map_append, h3]
    rfl
theorem bk_pool0 {g : Nat → ClassId} {E E' wc wc' wr : va_W} {ad : Nat → Nat → Nat} {pv : Nat → TVal} {j : Nat} (hj : j < 8) (h1 : E.Perm (wc ++ wr)) (h2 : E'.Perm (wc' ++ wr)) (h3 : wc.map Prod.fst = wc'.map Prod.fst) : bkc (E ++ poolW g ad pv) (wc ++ townW g (ad j) (pv j)) ∧ bk (E ++ poolW g ad pv) (E' ++ poolW g ad pv) (wc ++ townW g (ad j) (pv j)) (wc' ++ townW g (ad j) (pv j)) := by
  have h := bk_pool (g := g) (ad := ad) (pv := pv) (v' := pv j) hj h1 h2 h3
  have e : updP pv j (pv j) = pv := by
    funext i
    by_cases hi : i = j
    · subst hi; exact if_pos rfl
    · exact if_neg hi
  rw [e] at h
  exact h
section ZP
variable {p : Program} {l : Launch} {e : Env} {R : Room} {s : State} {m : MethodId} {args : Array Value} {below : List Frame} {meth : Method} {c : Code} {Q : State → Prop} {nL cells slots : Nat} {I : Heap → List Loc → Prop} {pc : Nat} {lv : List (Nat × Value)} {st : List Value} {cc : ByteArray} {own : String} {D : va_G} {g : Nat → ClassId} {ws : va_W}
theorem z_ifnull {x : Nat} {off : Int} (X : CX p s m args meth c cc nL own D g) (d : decode cc pc = .ok (.ifnull off, 3)) (kk : Z p l e R s m args below meth c Q nL cells slots I (pc + 3) lv st) : Z p l e R s m args below meth c Q nL cells slots I pc lv (.ref x :: st) := fun H locs ls hI hl => lv_ifnull X.1.1 X.1.2.1 d (kk H locs ls hI hl)
theorem z_aald {q0 n : Nat} {f : Nat → Option Nat} {a b : Nat} {i : Int32} (X : CX p s m args meth c cc nL own D g) (hI0 : HasP D ws I) (d : decode cc pc = .ok (.aaload, 1)) (ha : ws[q0]? = some (a, .inl (g 4, n, .inr (.inr (.inr (.inr f)))))) (hi : inb i n) (hf : f i.toNatClampNeg = some b) (kk : Z p l e R s m args below meth c Q nL cells slots I (pc + 1) lv (.ref b :: st)) : Z p l e R s m args below meth c Q nL cells slots I pc lv (.int i :: .ref a :: st) := fun H locs ls hI hl =>
  va_aldq X.1.1 X.1.2.1 X.2.2.1 (hI0 H locs hI) q0 4 ha rfl (vp_of_inb hi) d (by rw [hf]; exact kk H locs ls hI hl)
theorem z_aretR {v : Nat} {rt : FieldType} (X : CX p s m args meth c cc nL own D g) (hQ : Q = MQ below (rdQ (some (.ref v))) args s 0 0 noA) (hr : meth.sig.returnType = some rt) (hrt : ∃ n, rt = .object n) (d : decode cc pc = .ok (.areturn, 1)) : Z p l e R s m args below meth c Q nL 0 0 (IR D ws s) pc lv [.ref v] := by
  subst hQ
  intro H locs ls hI hl
  obtain ⟨rfl, rfl, hP⟩ := hI
  exact W.aret X.1.1 X.1.2.1 hr (Or.inl hrt) (Or.inr ⟨_, rfl⟩) (fun t ht hW => ⟨rfl, ht⟩) (fun q h => absurd h List.not_mem_nil) d X.2.1
end ZP
theorem dX4_slotAt_0 : decode cX4_slotAt 0 = .ok (.iload_n 1, 1) := by decide +kernel
theorem dX4_slotAt_1 : decode cX4_slotAt 1 = .ok (.ifCond .lt 21, 3) := by decide +kernel
theorem dX4_slotAt_4 : decode cX4_slotAt 4 = .ok (.iload_n 1, 1) := by decide +kernel
theorem dX4_slotAt_5 : decode cX4_slotAt 5 = .ok (.aload_n 0, 1) := by decide +kernel
theorem dX4_slotAt_6 : decode cX4_slotAt 6 = .ok (.getfield 11, 3) := by decide +kernel
theorem dX4_slotAt_9 : decode cX4_slotAt 9 = .ok (.arraylength, 1) := by decide +kernel
theorem dX4_slotAt_10 : decode cX4_slotAt 10 = .ok (.if_icmp .ge 12, 3) := by decide +kernel
theorem dX4_slotAt_13 : decode cX4_slotAt 13 = .ok (.aload_n 0, 1) := by decide +kernel
theorem dX4_slotAt_14 : decode cX4_slotAt 14 = .ok (.getfield 11, 3) := by decide +kernel
theorem dX4_slotAt_17 : decode cX4_slotAt 17 = .ok (.iload_n 1, 1) := by decide +kernel
theorem dX4_slotAt_18 : decode cX4_slotAt 18 = .ok (.aaload, 1) := by decide +kernel
theorem dX4_slotAt_19 : decode cX4_slotAt 19 = .ok (.goto 4, 3) := by decide +kernel
theorem dX4_slotAt_22 : decode cX4_slotAt 22 = .ok (.aconst_null, 1) := by decide +kernel
theorem dX4_slotAt_23 : decode cX4_slotAt 23 = .ok (.areturn, 1) := by decide +kernel
theorem k_X4_slotAt : cardV yX4_slotAt (Cond.code yX4_slotAt cX4_slotAt 2 (some (.object "BellObservatory$Town"))) 1 := ⟨⟨qi_X4_slotAt, qv_X4_slotAt⟩, qc_X4_slotAt, qn_X4, by decide +kernel, by decide +kernel, by decide +kernel⟩
set_option maxHeartbeats 4000000 in
set_option maxRecDepth 100000 in
theorem c_X4_slotAt (l : Launch) (D : va_G) (g : Nat → ClassId) (q_this q_towns : Nat) (p1 : Int32) (f_size f_next : Int32) (a_towns : Nat → Option Nat) (b : Nat) (hp : inb p1 8) (hf : a_towns p1.toNatClampNeg = some b) : MR l yX4_slotAt (Cond.code yX4_slotAt cX4_slotAt 2 (some (.object "BellObservatory$Town"))) { frames := 0, cells := 0, slots := 0, locals := 0 } D g [.ref q_this, .int p1] [(q_this, .inr (5, [.ref q_towns, .int f_size, .int f_next])), (q_towns, .inl (g 4, 8, .inr (.inr (.inr (.inr a_towns)))))] (some (.ref b)) := by
  have n1 : ¬ p1 < 0 := Int32.not_lt.mpr hp.1
  have n2 : ¬ (8 : Int32) ≤ p1 := by
    intro q
    have h1 := Int32.le_iff_toInt_le.mp hp.1
    have h2 := Int32.le_iff_toInt_le.mp q
    have h3 : p1.toInt.toNat < 8 := hp.2
    have e8 : (8 : Int32).toInt = 8 := by decide
    have e0 : (0 : Int32).toInt = 0 := by decide
    omega
  refine z_rd_start (by decide) (Nat.le_of_ble_eq_true rfl) ?_
  intro p e s m args below meth c Q X hr hQ
  refine z_lv (lv' := [(0, .ref q_this), (1, .int p1)]) rfl ?_
  refine z_iload_n X 1 dX4_slotAt_0 rfl rfl ?_
  refine z_if_lt (F1 := some ()) (F2 := some ()) (o := ()) X 22 dX4_slotAt_1 (by decide) (by unfold brn; split <;> rfl) (fun q _ => absurd q n1) (fun _ _ => ?_)
  refine z_iload_n X 1 dX4_slotAt_4 rfl rfl ?_
  refine z_aload_n X 0 dX4_slotAt_5 rfl rfl ?_
  refine z_get (q0 := 0) (k := 0) (ci := 5) X IR_P iw_X4 rfl qf_X4_X4_towns (by decide) dX4_slotAt_6 rfl rfl ?_
  refine z_alen (q0 := 1) (v := (8 : Int32)) X IR_P 4 dX4_slotAt_9 rfl rfl rfl ?_
  refine z_icmp_ge (F1 := some ()) (F2 := some ()) (o := ()) X 22 dX4_slotAt_10 (by decide) (by unfold brn; split <;> rfl) (fun q _ => absurd q n2) (fun _ _ => ?_)
  refine z_aload_n X 0 dX4_slotAt_13 rfl rfl ?_
  refine z_get (q0 := 0) (k := 0) (ci := 5) X IR_P iw_X4 rfl qf_X4_X4_towns (by decide) dX4_slotAt_14 rfl rfl ?_
  refine z_iload_n X 1 dX4_slotAt_17 rfl rfl ?_
  refine z_aald (q0 := 1) X IR_P dX4_slotAt_18 rfl hp hf ?_
  refine z_goto X 23 dX4_slotAt_19 (by decide) ?_
  exact z_aretR X hQ hr ⟨_, rfl⟩ dX4_slotAt_23
