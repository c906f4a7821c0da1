/-! ===== the law's texts: rows over worlds O ++ Y (O: the object's) ===== -/
theorem pm_swap {B O Y : va_W} : (B ++ (O ++ Y)).Perm (O ++ (B ++ Y)) := by
  rw [← List.append_assoc, ← List.append_assoc]
  exact List.perm_append_comm.append_right Y
theorem pm_four {B S O Y : va_W} : (O ++ (S ++ (B ++ Y))).Perm (B ++ (S ++ (O ++ Y))) := by
  refine (List.Perm.append_left O pm_swap).trans (pm_swap.trans (List.Perm.append_left B pm_swap))
/-- r's text is at hand, beside whatever is handed over; its cells, if the world holds them, are sc -/
def HTX (ev : LEv) (D : va_G) (A : Nat → Prop) (s : State) (r v n : Nat) (f : Nat → Int32) (sc : va_W) : Prop := ∀ ws wc wr : va_W, ws.Perm (wc ++ (sc ++ wr)) → ∀ H locs, IW D A s ws H locs → KT ev r v n f (va_A wc H.size) s H
section ZSEG
variable {p : Program} {l : Launch} {e : Env} {R : Room} {s : State} {m : MethodId} {args : Array Value} {below : List Frame} {meth : Method} {c : Code} {Q : State → Prop} {nL cells slots : Nat} {pc : Nat} {lv : List (Nat × Value)} {st rest : List Value} {cc : ByteArray} {D : va_G} {g : Nat → ClassId} {O Y sc : va_W} {A : Nat → Prop} {ev : LEv}
theorem HTX.fact {r v n : Nat} {f : Nat → Int32} (hK : KF ev A s s.heap) (hA : ∀ q, s.heap.size ≤ q → A q) (hT : TX r v n f A s s.heap) : HTX ev D A s r v n f [] := fun ws wc wr hp => kt_fact hK hT hA (pm_bkc (wr := [] ++ wr) hp)
theorem HTX.cell {own : String} {r v n : Nat} {f : Nat → Int32} (X : CX p s m args meth c cc nL own D g) (hK : KF ev A s s.heap) (hA : ∀ q, s.heap.size ≤ q → A q) : HTX ev D A s r v n f (STW g r v n f) := fun ws wc wr hp => kt_cell X hK hA hp
theorem HTX.sub {own : String} {q v n : Nat} {f : Nat → Int32} {tl : List Int32} {a : TxR} (X : CX p s m args meth c cc nL own D g) (hK : KF ev A s s.heap) (hA : ∀ q, s.heap.size ≤ q → A q) (hT : TX q v n f A s s.heap) (h : SubR ev g q v n f tl a) : HTX ev D A s a.1 a.2.1 a.2.2.1 a.2.2.2.1 a.2.2.2.2 := by
  obtain ⟨-, h | h | h⟩ := h
  · subst h
    exact HTX.fact hK hA hT
  · subst h
    exact HTX.fact hK hA (emp_TX hK)
  · rw [h]
    exact HTX.cell X hK hA
/-- a new text in the making -/
theorem z_sbn (hfl : l.stackTraces = false) (X : CX p s m args meth c cc nL RL D g) (hK : KF ev A s s.heap) (hA : ∀ q, s.heap.size ≤ q → A q) (d1 : decode cc pc = .ok (.new 278, 3)) (d2 : decode cc (pc + 3) = .ok (.dup, 1)) (d3 : decode cc (pc + 3 + 1) = .ok (.invokespecial 280, 3)) (hf : 6 ≤ R.frames) (hl0 : 300 ≤ R.locals) (hc : cells + 2 ≤ R.cells) (hs : slots + 20 ≤ R.slots) (hW : ∀ q : Nat, ((Value.ref q :: st).map fun v => v.category).sum ≤ 8) (kk : ∀ (q : Nat) (a : SBt), SBok 0 [] a → Z p l e R s m args below meth c Q nL (cells + 2) (slots + 20) (IW D A s (O ++ (SBW g q 0 a ++ Y))) (pc + 3 + 1 + 3) lv (.ref q :: st)) : Z p l e R s m args below meth c Q nL cells slots (IW D A s (O ++ Y)) pc lv st := by
  refine z_new (ci := 12) [.null, .int 0, .int 0, .int 0] X hA iw_J4 tyJ4_ok qk_L_J4 qt_J4 qn_J4 rfl (fun j hj => by rcases (show j = 0 ∨ j = 1 ∨ j = 2 ∨ j = 3 by omega) with rfl | rfl | rfl | rfl <;> rfl) (by omega) (by omega) d1 (fun q => ?_)
  refine z_dup X d2 rfl ?_
  refine z_oI (n := 0) (rest := .ref q :: st) (wr := O ++ Y) X (KF_ok ev) (kc_of (KF_ok ev) (fun _ _ _ q => q) hK hA (pm_bkc (wr := O ++ Y) List.perm_append_comm)) hA (c_sb_new l hfl ev D g q) qc_J4_init_da8c8 qn_J4 rfl ⟨by decide, by decide⟩ (by decide +kernel) ql_L_J4_init_da8c8 qi_J4_init_da8c8 d3 List.perm_append_comm rfl rfl ⟨Nat.le_trans (m := 6) (Nat.le_of_ble_eq_true rfl) hf, Nat.le_trans (m := 300) (Nat.le_of_ble_eq_true rfl) hl0, rfl, rfl, by omega, by omega⟩ (hW q) (fun a ha => ?_)
  refine z_perm (List.perm_append_comm.trans pm_swap) ?_
  exact z_widen (by omega) (by omega) (kk q a ha)
theorem z_sbI {qb vb mb nb kb : Nat} {fb : Nat → Int32} {tl : List Int32} {v : Int32} (hfl : l.stackTraces = false) (X : CX p s m args meth c cc nL RL D g) (hK : KF ev A s s.heap) (hA : ∀ q, s.heap.size ≤ q → A q) (hok : SBok nb tl (vb, mb, fb)) (hk : kb < 100) (hn : nb + 2 ≤ 34) (hv : v = nI kb) (d : decode cc pc = .ok (.invokevirtual 281, 3)) (hf : 6 ≤ R.frames) (hl0 : 300 ≤ R.locals) (hc : cells + 2 ≤ R.cells) (hs : slots + 38 ≤ R.slots) (hW : (st.map fun v => v.category).sum ≤ 8) (kk : ∀ a : SBt, SBok (nb + dn kb) (tl ++ dgl kb) a → Z p l e R s m args below meth c Q nL (cells + 2) (slots + 38) (IW D A s (O ++ (SBW g qb (nb + dn kb) a ++ Y))) (pc + 3) lv (.ref qb :: st)) : Z p l e R s m args below meth c Q nL cells slots (IW D A s (O ++ (SBW g qb nb (vb, mb, fb) ++ Y))) pc lv (.int v :: .ref qb :: st) := by
  subst hv
  refine z_oV (rest := st) (wr := O ++ Y) X (KF_ok ev) (kc_of (KF_ok ev) (fun _ _ _ q => q) hK hA (pm_bkc (wr := O ++ Y) pm_swap)) hA k_J4_append_bf812 (c_sb_appI l hfl ev D g qb vb mb nb kb fb tl hok hk hn) ql_L_J4_append_bf812 d pm_swap (fun H locs hI => rc_of (ws := SBW g qb nb (vb, mb, fb) ++ (O ++ Y)) (q0 := 0) (ci := 12) X rfl rfl H locs (IW_perm pm_swap hI)) rfl rfl ⟨Nat.le_trans (m := 6) (Nat.le_of_ble_eq_true rfl) hf, Nat.le_trans (m := 300) (Nat.le_of_ble_eq_true rfl) hl0, rfl, rfl, by omega, by omega⟩ hW (fun a ha => ?_)
  refine z_perm (List.perm_append_comm.trans pm_swap) ?_
  exact z_widen (by omega) (by omega) (kk a ha)
theorem z_sbS {qb vb mb nb r v n : Nat} {fb f : Nat → Int32} {tl tm : List Int32} (hfl : l.stackTraces = false) (X : CX p s m args meth c cc nL RL D g) (hA : ∀ q, s.heap.size ≤ q → A q) (hT : HTX ev D A s r v n f sc) (htx : TQ n f tm) (hok : SBok nb tl (vb, mb, fb)) (hn : nb + n ≤ 34) (d : decode cc pc = .ok (.invokevirtual 286, 3)) (hf : 8 ≤ R.frames) (hl0 : 300 ≤ R.locals) (hc : cells + 2 ≤ R.cells) (hs : slots + 38 ≤ R.slots) (hW : (st.map fun v => v.category).sum ≤ 8) (kk : ∀ a : SBt, SBok (nb + n) (tl ++ tm) a → Z p l e R s m args below meth c Q nL (cells + 2) (slots + 38) (IW D A s (O ++ (SBW g qb (nb + n) a ++ Y))) (pc + 3) lv (.ref qb :: st)) : Z p l e R s m args below meth c Q nL cells slots (IW D A s (O ++ (sc ++ (SBW g qb nb (vb, mb, fb) ++ Y)))) pc lv (.ref r :: .ref qb :: st) := by
  refine z_oV (rest := st) (wr := sc ++ (O ++ Y)) X (KT_ok ev r v n f) (hT _ _ (O ++ Y) pm_four) hA k_J4_append_15ec4 (c_sb_appS l hfl ev D g r v n f qb vb mb nb fb tl tm hok htx hn) ql_L_J4_append_15ec4 d pm_four (fun H locs hI => rc_of (ws := SBW g qb nb (vb, mb, fb) ++ (sc ++ (O ++ Y))) (q0 := 0) (ci := 12) X rfl rfl H locs (IW_perm pm_four hI)) rfl rfl ⟨Nat.le_trans (m := 8) (Nat.le_of_ble_eq_true rfl) hf, Nat.le_trans (m := 300) (Nat.le_of_ble_eq_true rfl) hl0, rfl, rfl, by omega, by omega⟩ hW (fun a ha => ?_)
  refine z_drop (ws' := SBW g qb (nb + n) a ++ (O ++ Y)) (wr := sc) ?_ ?_
  · refine List.perm_append_comm.trans ?_
    rw [List.append_assoc]
    exact List.Perm.append_left _ List.perm_append_comm
  · refine z_perm pm_swap ?_
    exact z_widen (by omega) (by omega) (kk a ha)
theorem z_sbT {qb vb mb nb : Nat} {fb : Nat → Int32} {tl : List Int32} (hfl : l.stackTraces = false) (X : CX p s m args meth c cc nL RL D g) (hK : KF ev A s s.heap) (hA : ∀ q, s.heap.size ≤ q → A q) (hok : SBok nb tl (vb, mb, fb)) (d : decode cc pc = .ok (.invokevirtual 293, 3)) (hf : 8 ≤ R.frames) (hl0 : 300 ≤ R.locals) (hc : cells + 2 ≤ R.cells) (hs : slots + 38 ≤ R.slots) (hW : (st.map fun v => v.category).sum ≤ 8) (kk : ∀ (r v : Nat) (f : Nat → Int32), TQ nb f tl → HTX ev D A s r v nb f (STW g r v nb f) → Z p l e R s m args below meth c Q nL (cells + 2) (slots + 38) (IW D A s (O ++ (STW g r v nb f ++ Y))) (pc + 3) lv (.ref r :: st)) : Z p l e R s m args below meth c Q nL cells slots (IW D A s (O ++ (SBW g qb nb (vb, mb, fb) ++ Y))) pc lv (.ref qb :: st) := by
  refine z_oV (rest := st) (wr := O ++ Y) X (KF_ok ev) (kc_of (KF_ok ev) (fun _ _ _ q => q) hK hA (pm_bkc (wr := O ++ Y) pm_swap)) hA k_J4_toString_0e30d (c_sb_str l hfl ev D g qb vb mb nb fb tl hok) ql_L_J4_toString_0e30d d pm_swap (fun H locs hI => rc_of (ws := SBW g qb nb (vb, mb, fb) ++ (O ++ Y)) (q0 := 0) (ci := 12) X rfl rfl H locs (IW_perm pm_swap hI)) rfl rfl ⟨Nat.le_trans (m := 8) (Nat.le_of_ble_eq_true rfl) hf, Nat.le_trans (m := 300) (Nat.le_of_ble_eq_true rfl) hl0, rfl, rfl, by omega, by omega⟩ hW (fun a ha => ?_)
  obtain ⟨r, v, f⟩ := a
  refine z_drop (ws' := STW g r v nb f ++ (O ++ Y)) (wr := SBW g qb nb (vb, mb, fb)) ?_ ?_
  · refine List.perm_append_comm.trans ?_
    rw [List.append_assoc, List.append_assoc]
    exact List.Perm.append_left _ List.perm_append_comm
  · refine z_perm pm_swap ?_
    exact z_widen (by omega) (by omega) (kk r v f ha (HTX.cell X hK hA))
/-- a literal's end -/
theorem z_sbE {i kb : Nat} {v : Int32} (hfl : l.stackTraces = false) (X : CX p s m args meth c cc nL RL D g) (hK : KF ev A s s.heap) (hA : ∀ q, s.heap.size ≤ q → A q) (hi : i < 9) (hk : kb ≤ tLen.getD i 0) (hv : v = nI kb) (d : decode cc pc = .ok (.invokevirtual 303, 3)) (hf : 8 ≤ R.frames) (hl0 : 300 ≤ R.locals) (hc : cells + 2 ≤ R.cells) (hs : slots + 38 ≤ R.slots) (hW : (st.map fun v => v.category).sum ≤ 8) (kk : ∀ (r v n : Nat) (f : Nat → Int32) (sc : va_W), TQ n f ((tByt.getD i []).drop kb) → HTX ev D A s r v n f sc → Z p l e R s m args below meth c Q nL (cells + 2) (slots + 38) (IW D A s (O ++ (sc ++ Y))) (pc + 3) lv (.ref r :: st)) : Z p l e R s m args below meth c Q nL cells slots (IW D A s (O ++ Y)) pc lv (.int v :: .ref (ev.tk i) :: st) := by
  subst hv
  have hT := lit_TX hK hi
  have h34 : tLen.getD i 0 ≤ 34 := by
    have : ∀ i, i < 9 → tLen.getD i 0 ≤ 34 := by decide +kernel
    exact this i hi
  refine z_oV (rest := st) (wr := O ++ Y) X (KT_ok ev (ev.tk i) (ev.tv i) (tLen.getD i 0) (fun j => (tByt.getD i []).getD j 0)) (kt_fact hK hT hA (pm_bkc (wr := O ++ Y) (List.Perm.refl _))) hA k_J0_substring_b52d3 (c_st_end l hfl ev D g (ev.tk i) (ev.tv i) _ _ kb (tByt.getD i []) (lit_TQ hi) hk h34) ql_L_J0_substring_b52d3 d (List.Perm.refl _) (fun H locs hI => by obtain ⟨cell, h1, h2, h3, -⟩ := hT.1.kept (IW_S H locs hI).2.1; exact ⟨cell, h1, h2, h3⟩) rfl rfl ⟨Nat.le_trans (m := 8) (Nat.le_of_ble_eq_true rfl) hf, Nat.le_trans (m := 300) (Nat.le_of_ble_eq_true rfl) hl0, rfl, rfl, by omega, by omega⟩ hW (fun a ha => ?_)
  refine z_perm (ws' := O ++ (a.2.2.2.2 ++ Y)) ?_ ?_
  · rw [List.append_assoc]
    exact List.Perm.append_left _ List.perm_append_comm
  · exact kk a.1 a.2.1 a.2.2.1 a.2.2.2.1 a.2.2.2.2 ha.1 (HTX.sub X hK hA hT ha)
end ZSEG
