/-! ===== the law: its loop ===== -/
section LL
variable {p : Program} {l : Launch} {e : Env} {R : Room} {s : State} {m : MethodId} {args : Array Value} {below : List Frame} {meth : Method} {c : Code} {Q : State → Prop} {cells slots : Nat} {D : va_G} {g : Nat → ClassId} {A : Nat → Prop} {ak av : Nat → Nat} {aS b L : Nat} {xs : Nat → Int32} {ax ay : Nat → Nat} {ad : Nat → Nat → Nat} {qo qd : Nat} {x : XVal} {y : MVal} {out : Nat → Int64} {od : Nat → UInt64} {t : Int}
set_option maxHeartbeats 4000000 in
set_option maxRecDepth 100000 in
theorem lb_switch (B : LB p l s m args meth c D g ak av aS A b L xs) (hRm : RM R cells slots) (hR : Rel t x y) (h0 : 0 ≤ t) (h1 : t < 800000) {i v : Int32} (hi : II i L) (kk : ∀ x' out' od' y', Rel (t + 300) x' y' → Z p l e R s m args below meth c Q 9 (cells + 4) (slots + 24) (IW D A s (LW g ax ad ay qo qd x' out' od' y')) 2579 (lv0 b ax ay qo qd i) []) : Z p l e R s m args below meth c Q 9 cells slots (IW D A s (LW g ax ad ay qo qd x out od y)) 44 (lv0 b ax ay qo qd i) [.int v] := by
  have X := B.1
  by_cases c0 : v.toInt = 0
  · exact z_tin 220 X dL_law_44 c0 (by decide) (by decide) rfl (by decide) (lb_house B hRm hR h0 h1 hi kk)
  by_cases c1 : v.toInt = 1
  · exact z_tin 300 X dL_law_44 c1 (by decide) (by decide) rfl (by decide) (lb_goAway B hRm hR h0 h1 hi kk)
  by_cases c2 : v.toInt = 2
  · exact z_tin 356 X dL_law_44 c2 (by decide) (by decide) rfl (by decide) (lb_block B hRm hR h0 h1 hi kk)
  by_cases c3 : v.toInt = 3
  · exact z_tin 419 X dL_law_44 c3 (by decide) (by decide) rfl (by decide) (lb_hall B hRm hR h0 h1 hi kk)
  by_cases c4 : v.toInt = 4
  · exact z_tin 499 X dL_law_44 c4 (by decide) (by decide) rfl (by decide) (lb_dropHall B hRm hR h0 h1 hi kk)
  by_cases c5 : v.toInt = 5
  · exact z_tin 555 X dL_law_44 c5 (by decide) (by decide) rfl (by decide) (lb_pass B hRm hR h0 h1 hi kk)
  by_cases c6 : v.toInt = 6
  · exact z_tin 611 X dL_law_44 c6 (by decide) (by decide) rfl (by decide) (lb_houseOf B hRm hR h0 h1 hi kk)
  by_cases c7 : v.toInt = 7
  · exact z_tin 679 X dL_law_44 c7 (by decide) (by decide) rfl (by decide) (lb_asleep B hRm hR h0 h1 hi kk)
  by_cases c8 : v.toInt = 8
  · exact z_tin 763 X dL_law_44 c8 (by decide) (by decide) rfl (by decide) (lb_deepest B hRm hR h0 h1 hi kk)
  by_cases c9 : v.toInt = 9
  · exact z_tin 807 X dL_law_44 c9 (by decide) (by decide) rfl (by decide) (lb_ring B hRm hR h0 h1 hi kk)
  by_cases c10 : v.toInt = 10
  · exact z_tin 887 X dL_law_44 c10 (by decide) (by decide) rfl (by decide) (lb_classOf B hRm hR h0 h1 hi kk)
  by_cases c11 : v.toInt = 11
  · exact z_tin 979 X dL_law_44 c11 (by decide) (by decide) rfl (by decide) (lb_echo B hRm hR h0 h1 hi kk)
  by_cases c12 : v.toInt = 12
  · exact z_tin 1059 X dL_law_44 c12 (by decide) (by decide) rfl (by decide) (lb_heard B hRm hR h0 h1 hi kk)
  by_cases c13 : v.toInt = 13
  · exact z_tin 1139 X dL_law_44 c13 (by decide) (by decide) rfl (by decide) (lb_rings B hRm hR h0 h1 hi kk)
  by_cases c14 : v.toInt = 14
  · exact z_tin 1195 X dL_law_44 c14 (by decide) (by decide) rfl (by decide) (lb_post B hRm hR h0 h1 hi kk)
  by_cases c15 : v.toInt = 15
  · exact z_tin 1251 X dL_law_44 c15 (by decide) (by decide) rfl (by decide) (lb_dropPost B hRm hR h0 h1 hi kk)
  by_cases c16 : v.toInt = 16
  · exact z_tin 1307 X dL_law_44 c16 (by decide) (by decide) rfl (by decide) (lb_tell B hRm hR h0 h1 hi kk)
  by_cases c17 : v.toInt = 17
  · exact z_tin 1375 X dL_law_44 c17 (by decide) (by decide) rfl (by decide) (lb_postOf B hRm hR h0 h1 hi kk)
  by_cases c18 : v.toInt = 18
  · exact z_tin 1443 X dL_law_44 c18 (by decide) (by decide) rfl (by decide) (lb_fits B hRm hR h0 h1 hi kk)
  by_cases c19 : v.toInt = 19
  · exact z_tin 1506 X dL_law_44 c19 (by decide) (by decide) rfl (by decide) (lb_fitting B hRm hR h0 h1 hi kk)
  by_cases c20 : v.toInt = 20
  · exact z_tin 1578 X dL_law_44 c20 (by decide) (by decide) rfl (by decide) (lb_fix B hRm hR h0 h1 hi kk)
  by_cases c21 : v.toInt = 21
  · exact z_tin 1634 X dL_law_44 c21 (by decide) (by decide) rfl (by decide) (lb_apart B hRm hR h0 h1 hi kk)
  by_cases c22 : v.toInt = 22
  · exact z_tin 1702 X dL_law_44 c22 (by decide) (by decide) rfl (by decide) (lb_way B hRm hR h0 h1 hi kk)
  by_cases c23 : v.toInt = 23
  · exact z_tin 1798 X dL_law_44 c23 (by decide) (by decide) rfl (by decide) (lb_round B hRm hR h0 h1 hi kk)
  by_cases c24 : v.toInt = 24
  · exact z_tin 1854 X dL_law_44 c24 (by decide) (by decide) rfl (by decide) (lb_steps B hRm hR h0 h1 hi kk)
  by_cases c25 : v.toInt = 25
  · exact z_tin 1867 X dL_law_44 c25 (by decide) (by decide) rfl (by decide) (lb_ranked B hRm hR h0 h1 hi kk)
  by_cases c26 : v.toInt = 26
  · exact z_tin 1923 X dL_law_44 c26 (by decide) (by decide) rfl (by decide) (lb_line B hRm hR h0 h1 hi kk)
  by_cases c27 : v.toInt = 27
  · exact z_tin 1979 X dL_law_44 c27 (by decide) (by decide) rfl (by decide) (lb_houseLine B hRm hR h0 h1 hi kk)
  by_cases c28 : v.toInt = 28
  · exact z_tin 2035 X dL_law_44 c28 (by decide) (by decide) rfl (by decide) (lb_character B hRm hR h0 h1 hi kk)
  by_cases c29 : v.toInt = 29
  · exact z_tin 2091 X dL_law_44 c29 (by decide) (by decide) rfl (by decide) (lb_append B hRm hR h0 h1 hi kk)
  by_cases c30 : v.toInt = 30
  · exact z_tin 2149 X dL_law_44 c30 (by decide) (by decide) rfl (by decide) (lb_run B hRm hR h0 h1 hi kk)
  by_cases c31 : v.toInt = 31
  · exact z_tin 2193 X dL_law_44 c31 (by decide) (by decide) rfl (by decide) (lb_errorPosition B hRm hR h0 h1 hi kk)
  by_cases c32 : v.toInt = 32
  · exact z_tin 2206 X dL_law_44 c32 (by decide) (by decide) rfl (by decide) (lb_refusal B hRm hR h0 h1 hi kk)
  by_cases c33 : v.toInt = 33
  · exact z_tin 2278 X dL_law_44 c33 (by decide) (by decide) rfl (by decide) (lb_account B hRm hR h0 h1 hi kk)
  by_cases c34 : v.toInt = 34
  · exact z_tin 2334 X dL_law_44 c34 (by decide) (by decide) rfl (by decide) (lb_isWell B hRm hR h0 h1 hi kk)
  by_cases c35 : v.toInt = 35
  · exact z_tin 2347 X dL_law_44 c35 (by decide) (by decide) rfl (by decide) (lb_meanSleep B hRm hR h0 h1 hi kk)
  by_cases c36 : v.toInt = 36
  · exact z_tin 2412 X dL_law_44 c36 (by decide) (by decide) rfl (by decide) (lb_prankShare B hRm hR h0 h1 hi kk)
  by_cases c37 : v.toInt = 37
  · exact z_tin 2478 X dL_law_44 c37 (by decide) (by decide) rfl (by decide) (lb_undo B hRm hR h0 h1 hi kk)
  by_cases c38 : v.toInt = 38
  · exact z_tin 2522 X dL_law_44 c38 (by decide) (by decide) rfl (by decide) (lb_save B hRm hR h0 h1 hi kk)
  by_cases c39 : v.toInt = 39
  · exact z_tin 2535 X dL_law_44 c39 (by decide) (by decide) rfl (by decide) (lb_restore B hRm hR h0 h1 hi kk)
  refine z_tdef 2579 [0, 1, 2, 3, 4, 5, 6, 7, 8, 9, 10, 11, 12, 13, 14, 15, 16, 17, 18, 19, 20, 21, 22, 23, 24, 25, 26, 27, 28, 29, 30, 31, 32, 33, 34, 35, 36, 37, 38, 39] X dL_law_44 (by decide +kernel) (by decide) (List.forall_mem_cons.mpr ⟨c0, List.forall_mem_cons.mpr ⟨c1, List.forall_mem_cons.mpr ⟨c2, List.forall_mem_cons.mpr ⟨c3, List.forall_mem_cons.mpr ⟨c4, List.forall_mem_cons.mpr ⟨c5, List.forall_mem_cons.mpr ⟨c6, List.forall_mem_cons.mpr ⟨c7, List.forall_mem_cons.mpr ⟨c8, List.forall_mem_cons.mpr ⟨c9, List.forall_mem_cons.mpr ⟨c10, List.forall_mem_cons.mpr ⟨c11, List.forall_mem_cons.mpr ⟨c12, List.forall_mem_cons.mpr ⟨c13, List.forall_mem_cons.mpr ⟨c14, List.forall_mem_cons.mpr ⟨c15, List.forall_mem_cons.mpr ⟨c16, List.forall_mem_cons.mpr ⟨c17, List.forall_mem_cons.mpr ⟨c18, List.forall_mem_cons.mpr ⟨c19, List.forall_mem_cons.mpr ⟨c20, List.forall_mem_cons.mpr ⟨c21, List.forall_mem_cons.mpr ⟨c22, List.forall_mem_cons.mpr ⟨c23, List.forall_mem_cons.mpr ⟨c24, List.forall_mem_cons.mpr ⟨c25, List.forall_mem_cons.mpr ⟨c26, List.forall_mem_cons.mpr ⟨c27, List.forall_mem_cons.mpr ⟨c28, List.forall_mem_cons.mpr ⟨c29, List.forall_mem_cons.mpr ⟨c30, List.forall_mem_cons.mpr ⟨c31, List.forall_mem_cons.mpr ⟨c32, List.forall_mem_cons.mpr ⟨c33, List.forall_mem_cons.mpr ⟨c34, List.forall_mem_cons.mpr ⟨c35, List.forall_mem_cons.mpr ⟨c36, List.forall_mem_cons.mpr ⟨c37, List.forall_mem_cons.mpr ⟨c38, List.forall_mem_cons.mpr ⟨c39, fun _ h => absurd h List.not_mem_nil⟩⟩⟩⟩⟩⟩⟩⟩⟩⟩⟩⟩⟩⟩⟩⟩⟩⟩⟩⟩⟩⟩⟩⟩⟩⟩⟩⟩⟩⟩⟩⟩⟩⟩⟩⟩⟩⟩⟩⟩) (by decide) ?_
  refine z_widen (k := cells + 4) (n := slots + 24) (Nat.le_add_right _ _) (Nat.le_add_right _ _) ?_
  exact kk x out od y (hR.mono (by omega))
theorem II_of {k : Nat} (hL : L ≤ 2560) (hk : 5 * k + 5 ≤ L) : II (I ((5 * k : Nat) : Int)) L := by
  have h : ∀ j : Nat, 5 * k + j < L → vp_in (I (((5 * k + j : Nat)) : Int)) L := fun j hj => vp_of_inb (by
    show inb (I (((5 * k + j : Nat)) : Int)) L
    rw [I_inb (by omega) (by omega)]
    omega)
  refine ⟨h 0 (by omega), ?_, ?_, ?_, ?_⟩
  · rw [lit_1, I_add]; exact h 1 (by omega)
  · rw [lit_2, I_add]; exact h 2 (by omega)
  · rw [lit_3, I_add]; exact h 3 (by omega)
  · rw [lit_4, I_add]; exact h 4 (by omega)
set_option maxHeartbeats 4000000 in
set_option maxRecDepth 100000 in
theorem lb_head (B : LB p l s m args meth c D g ak av aS A b L xs) (hRm : RM R cells slots) (hR : Rel t x y) (h0 : 0 ≤ t) (h1 : t < 800000) {k : Nat} (hL : L ≤ 2560) (hk : k ≤ 512)
    (kend : Z p l e R s m args below meth c Q 9 cells slots (IW D A s (LW g ax ad ay qo qd x out od y)) 2585 (lv0 b ax ay qo qd (I ((5 * k : Nat) : Int))) [])
    (knext : 5 * k + 5 ≤ L → ∀ x' out' od' y', Rel (t + 300) x' y' → Z p l e R s m args below meth c Q 9 (cells + 4) (slots + 24) (IW D A s (LW g ax ad ay qo qd x' out' od' y')) 28 (lv0 b ax ay qo qd (I ((5 * (k + 1) : Nat) : Int))) []) :
    Z p l e R s m args below meth c Q 9 cells slots (IW D A s (LW g ax ad ay qo qd x out od y)) 28 (lv0 b ax ay qo qd (I ((5 * k : Nat) : Int))) [] := by
  obtain ⟨X, hE, hA, hX, hb, hbA, hfl⟩ := id B
  refine z_iload X 5 dL_law_28 rfl ?_
  refine z_aload_n X 0 dL_law_30 rfl rfl ?_
  refine z_slen X hX hb hbA dL_law_31 ?_
  refine z_iconst X (5 : Int32) dL_law_32 (by decide) ?_
  refine z_isub X dL_law_33 ?_
  refine z_gt X 2585 dL_law_34 (by decide) (fun _ => kend) (fun h => ?_)
  rw [oN, lit_5, I_sub, I_lt (by omega) (by omega) (by omega) (by omega)] at h
  have hk5 : 5 * k + 5 ≤ L := by omega
  have hi := II_of (L := L) (k := k) hL hk5
  refine z_aload_n X 0 dL_law_37 rfl rfl ?_
  refine z_iload X 5 dL_law_38 rfl ?_
  refine z_sld X hX hb hbA dL_law_40 hi.1 ?_
  refine z_bipush X (63 : Int32) dL_law_41 (by decide) ?_
  refine z_iand X dL_law_43 ?_
  refine lb_switch B hRm hR h0 h1 hi (fun x' out' od' y' hR' => ?_)
  refine z_iinc (v := I ((5 * (k + 1) : Nat) : Int)) X 5 [(5, .int (I ((5 * (k + 1) : Nat) : Int))), (0, .ref b), (1, .ref (ax 0)), (2, .ref (ay 0)), (3, .ref qo), (4, .ref qd)] dL_law_2579 rfl (by show I _ + I 5 = I _; rw [I_add]; congr 1) (by decide) rfl ?_
  refine z_goto X 28 dL_law_2582 (by decide) ?_
  refine z_sub (lv' := lv0 b ax ay qo qd (I ((5 * (k + 1) : Nat) : Int))) [1, 2, 3, 4, 5, 0] rfl ?_
  exact knext hk5 x' out' od' y' hR'
theorem lb_loop (B : LB p l s m args meth c D g ak av aS A b L xs) (hL : L ≤ 2560) {c0 s0 : Nat} (hF : 20 ≤ R.frames ∧ 400 ≤ R.locals ∧ c0 + 2080 ≤ R.cells ∧ s0 + 12400 ≤ R.slots)
    (kend : ∀ (ws : va_W) (i : Int32), Z p l e R s m args below meth c Q 9 (c0 + 2048) (s0 + 12288) (IW D A s ws) 2585 (lv0 b ax ay qo qd i) []) :
    ∀ (n k : Nat), n + k = 512 → ∀ (x : XVal) (out : Nat → Int64) (od : Nat → UInt64) (y : MVal), Rel ((300 * k : Nat) : Int) x y → Z p l e R s m args below meth c Q 9 (c0 + 4 * k) (s0 + 24 * k) (IW D A s (LW g ax ad ay qo qd x out od y)) 28 (lv0 b ax ay qo qd (I ((5 * k : Nat) : Int))) [] := by
  intro n
  induction n with
  | zero =>
    intro k hk x out od y hR
    refine lb_head B ⟨hF.1, hF.2.1, by omega, by omega⟩ hR (by omega) (by omega) hL (by omega) (z_widen (by omega) (by omega) (kend _ _)) (fun h => absurd h (by omega))
  | succ n ih =>
    intro k hk x out od y hR
    refine lb_head B ⟨hF.1, hF.2.1, by omega, by omega⟩ hR (by omega) (by omega) hL (by omega) (z_widen (by omega) (by omega) (kend _ _)) (fun h x' out' od' y' hR' => ?_)
    have e : ((300 * k : Nat) : Int) + 300 = ((300 * (k + 1) : Nat) : Int) := by omega
    rw [e] at hR'
    exact ih (k + 1) (by omega) x' out' od' y' hR'
end LL
