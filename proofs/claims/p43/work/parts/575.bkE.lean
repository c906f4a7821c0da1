/-! ===== the law's rows beside the object's world ===== -/
theorem bk_E {E X X' wc wc' : va_W} (h1 : bkc X wc) (h2 : bk X X' wc wc') : bkc (E ++ X) wc ∧ bk (E ++ X) (E ++ X') wc wc' := by
  have part : ∀ (D : va_G) (A : Nat → Prop) (H : Heap), va_P D vwCl (E ++ X) H → va_D A (E ++ X) → va_P D vwCl X H ∧ va_D A X ∧ (∀ q ∈ E, va_at D vwCl q H) ∧ (E.map Prod.fst).Nodup ∧ (X.map Prod.fst).Nodup ∧ (∀ x ∈ E.map Prod.fst, ∀ y ∈ X.map Prod.fst, x ≠ y) := by
    intro D A H hP hD
    rw [vP_mem] at hP
    rw [vD_nd] at hD
    have hn := hD.1
    rw [List.map_append] at hn
    obtain ⟨n1, n2, n3⟩ := List.nodup_append.mp hn
    exact ⟨vP_mem.mpr fun q hq => hP q (List.mem_append_right _ hq), vD_nd.mpr ⟨n2, fun q hq => hD.2 q (List.mem_append_right _ hq)⟩, fun q hq => hP q (List.mem_append_left _ hq), n1, n2, n3⟩
  refine ⟨fun D A H hP hD => h1 D A H (part D A H hP hD).1 (part D A H hP hD).2.1, fun D A H H1 hP hD hk hP1 => ?_⟩
  obtain ⟨p1, p2, p3, p4, p5, p6⟩ := part D A H hP hD
  obtain ⟨g1, g2⟩ := h2 D A H H1 p1 p2 hk hP1
  have dX : va_D (fun q => q ∈ X.map Prod.fst) X := vD_nd.mpr ⟨p5, fun q hq => List.mem_map.mpr ⟨q, hq, rfl⟩⟩
  have w1 := (h1 D _ H p1 dX).2
  have w2 := (h2 D _ H H1 p1 dX hk hP1).2
  rw [vD_nd] at w1 w2 g2
  rw [vP_mem] at g1
  rw [vD_nd] at hD
  refine ⟨vP_mem.mpr fun q hq => ?_, vD_nd.mpr ⟨?_, fun q hq => ?_⟩⟩
  · rcases List.mem_append.mp hq with hq | hq
    · have h0 := p3 q hq
      refine h0.kept (hk q.1 h0.lt (fun ⟨k, e, he⟩ => ?_))
      exact p6 q.1 (List.mem_map.mpr ⟨q, hq, rfl⟩) q.1 (w1.2 (q.1, e) (List.mem_of_getElem? he)) rfl
    · exact g1 q hq
  · rw [List.map_append]
    refine List.nodup_append.mpr ⟨p4, g2.1, fun x hx y hy => ?_⟩
    obtain ⟨q, hq, rfl⟩ := List.mem_map.mp hy
    exact p6 x hx q.1 (w2.2 q hq)
  · rcases List.mem_append.mp hq with hq | hq
    · exact hD.2 q (List.mem_append_left _ hq)
    · exact g2.2 q hq
theorem pm_drop {E E2 Er X : va_W} (h : E.Perm (E2 ++ Er)) : (E ++ X).Perm ((E2 ++ X) ++ Er) := by
  refine (h.append_right X).trans ?_
  rw [List.append_assoc, List.append_assoc]
  exact List.Perm.append_left E2 List.perm_append_comm
/-- cells that no longer matter are left -/
theorem z_drop {p : Program} {l : Launch} {e : Env} {R : Room} {s : State} {m : MethodId} {args : Array Value} {below : List Frame} {meth : Method} {c : Code} {Q : State → Prop} {nL cells slots : Nat} {pc : Nat} {lv : List (Nat × Value)} {st : List Value} {D : va_G} {A : Nat → Prop} {ws ws' wr : va_W} (hp : ws.Perm (ws' ++ wr)) (kk : Z p l e R s m args below meth c Q nL cells slots (IW D A s ws') pc lv st) : Z p l e R s m args below meth c Q nL cells slots (IW D A s ws) pc lv st := fun H locs ls hI hl => by
  obtain ⟨h1, h2, h3⟩ := hI
  have hb := (bk_perm (wc' := ws') hp hp rfl).1 D A H h1 h2
  exact kk H locs ls ⟨hb.1, hb.2, h3⟩ hl
