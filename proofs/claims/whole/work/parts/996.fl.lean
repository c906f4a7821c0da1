/-! ===== what the helpers leave, beside the reference ===== -/
def FLKd (b : Int) (F : Option (Int32 × XVal × (Nat → UInt64))) (H : Option (UInt64 × MVal)) : Prop := ∃ a x' out' v2 y', F = some (a, x', out') ∧ H = some (v2, y') ∧ y'.1 2 = a ∧ (a = 0 → out' 0 = v2 ∧ nnD v2) ∧ Rel (b + 300) x' y'
def FLKf (b : Int) (F : Option (Int32 × XVal × (Nat → UInt64))) (H : Option (UInt32 × MVal)) : Prop := ∃ a x' out' v2 y', F = some (a, x', out') ∧ H = some (v2, y') ∧ y'.1 2 = a ∧ (a = 0 → out' 0 = FP.f2d v2 ∧ nnF v2) ∧ Rel (b + 300) x' y'
theorem fl_house {b : Int} {x : XVal} {y : MVal} (hR : Rel b x y) (h0 : 0 ≤ b) (h1 : b < 800000) (p1 : Int32) (p2 : Int32) (p3 : Int32) (out : Nat → Int64) : FLK b (F_L_house p1 p2 p3 x out) (H_house p1 p2 p3 y) (fun v => v.toInt64) := by
  obtain ⟨k, v, x', v2, y', t, hm, hG, hH, ht, hv, hR'⟩ := op_house hR (by omega) p1 p2 p3
  simp only [List.mem_cons, Prod.mk.injEq, List.not_mem_nil, or_false] at hm
  rcases hm with ⟨rfl, rfl⟩ | ⟨rfl, rfl⟩ | ⟨rfl, rfl⟩
  · obtain rfl := hv rfl
    refine ⟨0, x', vp_updL out 0 v.toInt64, v, y', ?_, hH, ht.trans lit_0.symm, fun _ => rfl, hR'⟩
    unfold F_L_house
    rw [hG]
    rfl
  · refine ⟨1, x', out, v2, y', ?_, hH, ht.trans lit_1.symm, fun h => absurd h (by decide), hR'⟩
    unfold F_L_house
    rw [hG]
    rfl
  · refine ⟨2, x', out, v2, y', ?_, hH, ht.trans lit_2.symm, fun h => absurd h (by decide), hR'⟩
    unfold F_L_house
    rw [hG]
    rfl
theorem fl_goAway {b : Int} {x : XVal} {y : MVal} (hR : Rel b x y) (h0 : 0 ≤ b) (h1 : b < 800000) (p1 : Int32) (out : Nat → Int64) : FLK b (F_L_goAway p1 x out) (H_goAway p1 y) (fun v => v.toInt64) := by
  obtain ⟨k, v, x', v2, y', t, hm, hG, hH, ht, hv, hR'⟩ := op_goAway hR (by omega) p1
  simp only [List.mem_cons, Prod.mk.injEq, List.not_mem_nil, or_false] at hm
  rcases hm with ⟨rfl, rfl⟩ | ⟨rfl, rfl⟩
  · obtain rfl := hv rfl
    refine ⟨0, x', vp_updL out 0 v.toInt64, v, y', ?_, hH, ht.trans lit_0.symm, fun _ => rfl, hR'⟩
    unfold F_L_goAway
    rw [hG]
    rfl
  · refine ⟨1, x', out, v2, y', ?_, hH, ht.trans lit_1.symm, fun h => absurd h (by decide), hR'⟩
    unfold F_L_goAway
    rw [hG]
    rfl
theorem fl_block {b : Int} {x : XVal} {y : MVal} (hR : Rel b x y) (h0 : 0 ≤ b) (h1 : b < 800000) (p1 : Int32) (out : Nat → Int64) : FLK b (F_L_block p1 x out) (H_block p1 y) (fun v => if v = 0 then 0 else 1) := by
  obtain ⟨k, v, x', v2, y', t, hm, hG, hH, ht, hv, hR'⟩ := op_block hR (by omega) p1
  simp only [List.mem_cons, Prod.mk.injEq, List.not_mem_nil, or_false] at hm
  rcases hm with ⟨rfl, rfl⟩ | ⟨rfl, rfl⟩ | ⟨rfl, rfl⟩
  · obtain rfl := hv rfl
    by_cases hz : v = 0
    · refine ⟨0, x', vp_updL out 0 0, v, y', ?_, hH, ht.trans lit_0.symm, fun _ => ?_, hR'⟩
      · unfold F_L_block
        rw [hG, bnd_some, brn_pos _ _ rfl, brn_pos _ _ hz]
      · show vp_updL out 0 0 0 = if v = 0 then 0 else 1
        rw [if_pos hz]
        rfl
    · refine ⟨0, x', vp_updL out 0 1, v, y', ?_, hH, ht.trans lit_0.symm, fun _ => ?_, hR'⟩
      · unfold F_L_block
        rw [hG, bnd_some, brn_pos _ _ rfl, brn_neg _ _ hz]
      · show vp_updL out 0 1 0 = if v = 0 then 0 else 1
        rw [if_neg hz]
        rfl
  · refine ⟨1, x', out, v2, y', ?_, hH, ht.trans lit_1.symm, fun h => absurd h (by decide), hR'⟩
    unfold F_L_block
    rw [hG]
    rfl
  · refine ⟨2, x', out, v2, y', ?_, hH, ht.trans lit_2.symm, fun h => absurd h (by decide), hR'⟩
    unfold F_L_block
    rw [hG]
    rfl
theorem fl_hall {b : Int} {x : XVal} {y : MVal} (hR : Rel b x y) (h0 : 0 ≤ b) (h1 : b < 800000) (p1 : Int32) (p2 : Int32) (p3 : Int32) (out : Nat → Int64) : FLK b (F_L_hall p1 p2 p3 x out) (H_hall p1 p2 p3 y) (fun v => v.toInt64) := by
  obtain ⟨k, v, x', v2, y', t, hm, hG, hH, ht, hv, hR'⟩ := op_hall hR (by omega) p1 p2 p3
  simp only [List.mem_cons, Prod.mk.injEq, List.not_mem_nil, or_false] at hm
  rcases hm with ⟨rfl, rfl⟩ | ⟨rfl, rfl⟩ | ⟨rfl, rfl⟩
  · obtain rfl := hv rfl
    refine ⟨0, x', vp_updL out 0 v.toInt64, v, y', ?_, hH, ht.trans lit_0.symm, fun _ => rfl, hR'⟩
    unfold F_L_hall
    rw [hG]
    rfl
  · refine ⟨1, x', out, v2, y', ?_, hH, ht.trans lit_1.symm, fun h => absurd h (by decide), hR'⟩
    unfold F_L_hall
    rw [hG]
    rfl
  · refine ⟨2, x', out, v2, y', ?_, hH, ht.trans lit_2.symm, fun h => absurd h (by decide), hR'⟩
    unfold F_L_hall
    rw [hG]
    rfl
theorem fl_dropHall {b : Int} {x : XVal} {y : MVal} (hR : Rel b x y) (h0 : 0 ≤ b) (h1 : b < 800000) (p1 : Int32) (out : Nat → Int64) : FLK b (F_L_dropHall p1 x out) (H_dropHall p1 y) (fun v => v.toInt64) := by
  obtain ⟨k, v, x', v2, y', t, hm, hG, hH, ht, hv, hR'⟩ := op_dropHall hR (by omega) p1
  simp only [List.mem_cons, Prod.mk.injEq, List.not_mem_nil, or_false] at hm
  rcases hm with ⟨rfl, rfl⟩ | ⟨rfl, rfl⟩
  · obtain rfl := hv rfl
    refine ⟨0, x', vp_updL out 0 v.toInt64, v, y', ?_, hH, ht.trans lit_0.symm, fun _ => rfl, hR'⟩
    unfold F_L_dropHall
    rw [hG]
    rfl
  · refine ⟨1, x', out, v2, y', ?_, hH, ht.trans lit_1.symm, fun h => absurd h (by decide), hR'⟩
    unfold F_L_dropHall
    rw [hG]
    rfl
theorem fl_pass {b : Int} {x : XVal} {y : MVal} (hR : Rel b x y) (h0 : 0 ≤ b) (h1 : b < 800000) (p1 : Int32) (out : Nat → Int64) : FLK b (F_L_pass p1 x out) (H_pass p1 y) (fun v => v.toInt64) := by
  obtain ⟨k, v, x', v2, y', t, hm, hG, hH, ht, hv, hR'⟩ := op_pass hR (by omega) (by omega) p1
  simp only [List.mem_cons, Prod.mk.injEq, List.not_mem_nil, or_false] at hm
  rcases hm with ⟨rfl, rfl⟩ | ⟨rfl, rfl⟩
  · obtain rfl := hv rfl
    refine ⟨0, x', vp_updL out 0 v.toInt64, v, y', ?_, hH, ht.trans lit_0.symm, fun _ => rfl, hR'⟩
    unfold F_L_pass
    rw [hG]
    rfl
  · refine ⟨1, x', out, v2, y', ?_, hH, ht.trans lit_1.symm, fun h => absurd h (by decide), hR'⟩
    unfold F_L_pass
    rw [hG]
    rfl
theorem fl_houseOf {b : Int} {x : XVal} {y : MVal} (hR : Rel b x y) (h0 : 0 ≤ b) (h1 : b < 800000) (p1 : Int32) (p2 : Int32) (out : Nat → Int64) : FLK b (F_L_houseOf p1 p2 x out) (H_houseOf p1 p2 y) (fun v => v.toInt64) := by
  obtain ⟨k, v, x', v2, y', t, hm, hG, hH, ht, hv, hR'⟩ := op_houseOf hR p1 p2
  simp only [List.mem_cons, Prod.mk.injEq, List.not_mem_nil, or_false] at hm
  rcases hm with ⟨rfl, rfl⟩ | ⟨rfl, rfl⟩ | ⟨rfl, rfl⟩
  · obtain rfl := hv rfl
    refine ⟨0, x', vp_updL out 0 v.toInt64, v, y', ?_, hH, ht.trans lit_0.symm, fun _ => rfl, hR'⟩
    unfold F_L_houseOf
    rw [hG]
    rfl
  · refine ⟨1, x', out, v2, y', ?_, hH, ht.trans lit_1.symm, fun h => absurd h (by decide), hR'⟩
    unfold F_L_houseOf
    rw [hG]
    rfl
  · refine ⟨2, x', out, v2, y', ?_, hH, ht.trans lit_2.symm, fun h => absurd h (by decide), hR'⟩
    unfold F_L_houseOf
    rw [hG]
    rfl
theorem fl_asleep {b : Int} {x : XVal} {y : MVal} (hR : Rel b x y) (h0 : 0 ≤ b) (h1 : b < 800000) (p1 : Int32) (p2 : Int32) (out : Nat → Int64) : FLK b (F_L_asleep p1 p2 x out) (H_asleep p1 p2 y) (fun v => v.toInt64) := by
  obtain ⟨k, v, x', v2, y', t, hm, hG, hH, ht, hv, hR'⟩ := op_asleep hR p1 p2
  simp only [List.mem_cons, Prod.mk.injEq, List.not_mem_nil, or_false] at hm
  rcases hm with ⟨rfl, rfl⟩ | ⟨rfl, rfl⟩
  · obtain rfl := hv rfl
    refine ⟨0, x', vp_updL out 0 v.toInt64, v, y', ?_, hH, ht.trans lit_0.symm, fun _ => rfl, hR'⟩
    unfold F_L_asleep
    rw [hG]
    rfl
  · refine ⟨1, x', out, v2, y', ?_, hH, ht.trans lit_1.symm, fun h => absurd h (by decide), hR'⟩
    unfold F_L_asleep
    rw [hG]
    rfl
theorem fl_deepest {b : Int} {x : XVal} {y : MVal} (hR : Rel b x y) (h0 : 0 ≤ b) (h1 : b < 800000) (out : Nat → Int64) : FLK b (F_L_deepest x out) (H_deepest y) (fun v => v.toInt64) := by
  obtain ⟨k, v, x', v2, y', t, hm, hG, hH, ht, hv, hR'⟩ := op_deepest hR
  simp only [List.mem_cons, Prod.mk.injEq, List.not_mem_nil, or_false] at hm
  rcases hm with ⟨rfl, rfl⟩ | ⟨rfl, rfl⟩
  · obtain rfl := hv rfl
    refine ⟨0, x', vp_updL out 0 v.toInt64, v, y', ?_, hH, ht.trans lit_0.symm, fun _ => rfl, hR'⟩
    unfold F_L_deepest
    rw [hG]
    rfl
  · refine ⟨1, x', out, v2, y', ?_, hH, ht.trans lit_1.symm, fun h => absurd h (by decide), hR'⟩
    unfold F_L_deepest
    rw [hG]
    rfl
theorem fl_ring {b : Int} {x : XVal} {y : MVal} (hR : Rel b x y) (h0 : 0 ≤ b) (h1 : b < 800000) (p1 : Int32) (p2 : Int32) (p3 : Int32) (out : Nat → Int64) : FLK b (F_L_ring p1 p2 p3 x out) (H_ring p1 p2 p3 y) (fun v => v.toInt64) := by
  obtain ⟨k, v, x', v2, y', t, hm, hG, hH, ht, hv, hR'⟩ := op_ring hR (by omega) (by omega) p1 p2 p3
  simp only [List.mem_cons, Prod.mk.injEq, List.not_mem_nil, or_false] at hm
  rcases hm with ⟨rfl, rfl⟩ | ⟨rfl, rfl⟩ | ⟨rfl, rfl⟩
  · obtain rfl := hv rfl
    refine ⟨0, x', vp_updL out 0 v.toInt64, v, y', ?_, hH, ht.trans lit_0.symm, fun _ => rfl, hR'⟩
    unfold F_L_ring
    rw [hG]
    rfl
  · refine ⟨1, x', out, v2, y', ?_, hH, ht.trans lit_1.symm, fun h => absurd h (by decide), hR'⟩
    unfold F_L_ring
    rw [hG]
    rfl
  · refine ⟨2, x', out, v2, y', ?_, hH, ht.trans lit_2.symm, fun h => absurd h (by decide), hR'⟩
    unfold F_L_ring
    rw [hG]
    rfl
theorem fl_classOf {b : Int} {x : XVal} {y : MVal} (hR : Rel b x y) (h0 : 0 ≤ b) (h1 : b < 800000) (p1 : Int32) (p2 : Int32) (p3 : Int32) (p4 : Int32) (out : Nat → Int64) : FLK b (F_L_classOf p1 p2 p3 p4 x out) (H_classOf p1 p2 p3 p4 y) (fun v => v.toInt64) := by
  obtain ⟨k, v, x', v2, y', t, hm, hG, hH, ht, hv, hR'⟩ := op_classOf hR p1 p2 p3 p4
  simp only [List.mem_cons, Prod.mk.injEq, List.not_mem_nil, or_false] at hm
  rcases hm with ⟨rfl, rfl⟩ | ⟨rfl, rfl⟩ | ⟨rfl, rfl⟩
  · obtain rfl := hv rfl
    refine ⟨0, x', vp_updL out 0 v.toInt64, v, y', ?_, hH, ht.trans lit_0.symm, fun _ => rfl, hR'⟩
    unfold F_L_classOf
    rw [hG]
    rfl
  · refine ⟨1, x', out, v2, y', ?_, hH, ht.trans lit_1.symm, fun h => absurd h (by decide), hR'⟩
    unfold F_L_classOf
    rw [hG]
    rfl
  · refine ⟨2, x', out, v2, y', ?_, hH, ht.trans lit_2.symm, fun h => absurd h (by decide), hR'⟩
    unfold F_L_classOf
    rw [hG]
    rfl
theorem fl_echo {b : Int} {x : XVal} {y : MVal} (hR : Rel b x y) (h0 : 0 ≤ b) (h1 : b < 800000) (p1 : Int32) (p2 : Int32) (p3 : Int32) (out : Nat → Int64) : FLK b (F_L_echo p1 p2 p3 x out) (H_echo p1 p2 p3 y) (fun v => v.toInt64) := by
  obtain ⟨k, v, x', v2, y', t, hm, hG, hH, ht, hv, hR'⟩ := op_echo hR p1 p2 p3
  simp only [List.mem_cons, Prod.mk.injEq, List.not_mem_nil, or_false] at hm
  rcases hm with ⟨rfl, rfl⟩ | ⟨rfl, rfl⟩ | ⟨rfl, rfl⟩ | ⟨rfl, rfl⟩
  · obtain rfl := hv rfl
    refine ⟨0, x', vp_updL out 0 v.toInt64, v, y', ?_, hH, ht.trans lit_0.symm, fun _ => rfl, hR'⟩
    unfold F_L_echo
    rw [hG]
    rfl
  · refine ⟨1, x', out, v2, y', ?_, hH, ht.trans lit_1.symm, fun h => absurd h (by decide), hR'⟩
    unfold F_L_echo
    rw [hG]
    rfl
  · refine ⟨2, x', out, v2, y', ?_, hH, ht.trans lit_2.symm, fun h => absurd h (by decide), hR'⟩
    unfold F_L_echo
    rw [hG]
    rfl
  · refine ⟨3, x', out, v2, y', ?_, hH, ht.trans lit_3.symm, fun h => absurd h (by decide), hR'⟩
    unfold F_L_echo
    rw [hG]
    rfl
theorem fl_heard {b : Int} {x : XVal} {y : MVal} (hR : Rel b x y) (h0 : 0 ≤ b) (h1 : b < 800000) (p1 : Int32) (p2 : Int32) (p3 : Int32) (out : Nat → Int64) : FLK b (F_L_heard p1 p2 p3 x out) (H_heard p1 p2 p3 y) (fun v => v.toInt64) := by
  obtain ⟨k, v, x', v2, y', t, hm, hG, hH, ht, hv, hR'⟩ := op_heard hR p1 p2 p3
  simp only [List.mem_cons, Prod.mk.injEq, List.not_mem_nil, or_false] at hm
  rcases hm with ⟨rfl, rfl⟩ | ⟨rfl, rfl⟩ | ⟨rfl, rfl⟩
  · obtain rfl := hv rfl
    refine ⟨0, x', vp_updL out 0 v.toInt64, v, y', ?_, hH, ht.trans lit_0.symm, fun _ => rfl, hR'⟩
    unfold F_L_heard
    rw [hG]
    rfl
  · refine ⟨1, x', out, v2, y', ?_, hH, ht.trans lit_1.symm, fun h => absurd h (by decide), hR'⟩
    unfold F_L_heard
    rw [hG]
    rfl
  · refine ⟨2, x', out, v2, y', ?_, hH, ht.trans lit_2.symm, fun h => absurd h (by decide), hR'⟩
    unfold F_L_heard
    rw [hG]
    rfl
theorem fl_rings {b : Int} {x : XVal} {y : MVal} (hR : Rel b x y) (h0 : 0 ≤ b) (h1 : b < 800000) (p1 : Int32) (out : Nat → Int64) : FLK b (F_L_rings p1 x out) (H_rings p1 y) (fun v => v.toInt64) := by
  obtain ⟨k, v, x', v2, y', t, hm, hG, hH, ht, hv, hR'⟩ := op_rings hR p1
  simp only [List.mem_cons, Prod.mk.injEq, List.not_mem_nil, or_false] at hm
  rcases hm with ⟨rfl, rfl⟩ | ⟨rfl, rfl⟩
  · obtain rfl := hv rfl
    refine ⟨0, x', vp_updL out 0 v.toInt64, v, y', ?_, hH, ht.trans lit_0.symm, fun _ => rfl, hR'⟩
    unfold F_L_rings
    rw [hG]
    rfl
  · refine ⟨1, x', out, v2, y', ?_, hH, ht.trans lit_1.symm, fun h => absurd h (by decide), hR'⟩
    unfold F_L_rings
    rw [hG]
    rfl
theorem fl_post {b : Int} {x : XVal} {y : MVal} (hR : Rel b x y) (h0 : 0 ≤ b) (h1 : b < 800000) (p1 : Int32) (out : Nat → Int64) : FLK b (F_L_post p1 x out) (H_post p1 y) (fun v => v.toInt64) := by
  obtain ⟨k, v, x', v2, y', t, hm, hG, hH, ht, hv, hR'⟩ := op_post hR (by omega) p1
  simp only [List.mem_cons, Prod.mk.injEq, List.not_mem_nil, or_false] at hm
  rcases hm with ⟨rfl, rfl⟩ | ⟨rfl, rfl⟩ | ⟨rfl, rfl⟩
  · obtain rfl := hv rfl
    refine ⟨0, x', vp_updL out 0 v.toInt64, v, y', ?_, hH, ht.trans lit_0.symm, fun _ => rfl, hR'⟩
    unfold F_L_post
    rw [hG]
    rfl
  · refine ⟨1, x', out, v2, y', ?_, hH, ht.trans lit_1.symm, fun h => absurd h (by decide), hR'⟩
    unfold F_L_post
    rw [hG]
    rfl
  · refine ⟨2, x', out, v2, y', ?_, hH, ht.trans lit_2.symm, fun h => absurd h (by decide), hR'⟩
    unfold F_L_post
    rw [hG]
    rfl
theorem fl_dropPost {b : Int} {x : XVal} {y : MVal} (hR : Rel b x y) (h0 : 0 ≤ b) (h1 : b < 800000) (p1 : Int32) (out : Nat → Int64) : FLK b (F_L_dropPost p1 x out) (H_dropPost p1 y) (fun v => v.toInt64) := by
  obtain ⟨k, v, x', v2, y', t, hm, hG, hH, ht, hv, hR'⟩ := op_dropPost hR (by omega) p1
  simp only [List.mem_cons, Prod.mk.injEq, List.not_mem_nil, or_false] at hm
  rcases hm with ⟨rfl, rfl⟩ | ⟨rfl, rfl⟩
  · obtain rfl := hv rfl
    refine ⟨0, x', vp_updL out 0 v.toInt64, v, y', ?_, hH, ht.trans lit_0.symm, fun _ => rfl, hR'⟩
    unfold F_L_dropPost
    rw [hG]
    rfl
  · refine ⟨1, x', out, v2, y', ?_, hH, ht.trans lit_1.symm, fun h => absurd h (by decide), hR'⟩
    unfold F_L_dropPost
    rw [hG]
    rfl
theorem fl_tell {b : Int} {x : XVal} {y : MVal} (hR : Rel b x y) (h0 : 0 ≤ b) (h1 : b < 800000) (p1 : Int32) (p2 : Int32) (out : Nat → Int64) : FLK b (F_L_tell p1 p2 x out) (H_tell p1 p2 y) (fun v => v.toInt64) := by
  obtain ⟨k, v, x', v2, y', t, hm, hG, hH, ht, hv, hR'⟩ := op_tell hR (by omega) p1 p2
  simp only [List.mem_cons, Prod.mk.injEq, List.not_mem_nil, or_false] at hm
  rcases hm with ⟨rfl, rfl⟩ | ⟨rfl, rfl⟩ | ⟨rfl, rfl⟩ | ⟨rfl, rfl⟩
  · obtain rfl := hv rfl
    refine ⟨0, x', vp_updL out 0 v.toInt64, v, y', ?_, hH, ht.trans lit_0.symm, fun _ => rfl, hR'⟩
    unfold F_L_tell
    rw [hG]
    rfl
  · refine ⟨1, x', out, v2, y', ?_, hH, ht.trans lit_1.symm, fun h => absurd h (by decide), hR'⟩
    unfold F_L_tell
    rw [hG]
    rfl
  · refine ⟨2, x', out, v2, y', ?_, hH, ht.trans lit_2.symm, fun h => absurd h (by decide), hR'⟩
    unfold F_L_tell
    rw [hG]
    rfl
  · refine ⟨3, x', out, v2, y', ?_, hH, ht.trans lit_3.symm, fun h => absurd h (by decide), hR'⟩
    unfold F_L_tell
    rw [hG]
    rfl
theorem fl_postOf {b : Int} {x : XVal} {y : MVal} (hR : Rel b x y) (h0 : 0 ≤ b) (h1 : b < 800000) (p1 : Int32) (p2 : Int32) (out : Nat → Int64) : FLK b (F_L_postOf p1 p2 x out) (H_postOf p1 p2 y) (fun v => v.toInt64) := by
  obtain ⟨k, v, x', v2, y', t, hm, hG, hH, ht, hv, hR'⟩ := op_postOf hR p1 p2
  simp only [List.mem_cons, Prod.mk.injEq, List.not_mem_nil, or_false] at hm
  rcases hm with ⟨rfl, rfl⟩ | ⟨rfl, rfl⟩ | ⟨rfl, rfl⟩ | ⟨rfl, rfl⟩
  · obtain rfl := hv rfl
    refine ⟨0, x', vp_updL out 0 v.toInt64, v, y', ?_, hH, ht.trans lit_0.symm, fun _ => rfl, hR'⟩
    unfold F_L_postOf
    rw [hG]
    rfl
  · refine ⟨1, x', out, v2, y', ?_, hH, ht.trans lit_1.symm, fun h => absurd h (by decide), hR'⟩
    unfold F_L_postOf
    rw [hG]
    rfl
  · refine ⟨2, x', out, v2, y', ?_, hH, ht.trans lit_2.symm, fun h => absurd h (by decide), hR'⟩
    unfold F_L_postOf
    rw [hG]
    rfl
  · refine ⟨3, x', out, v2, y', ?_, hH, ht.trans lit_3.symm, fun h => absurd h (by decide), hR'⟩
    unfold F_L_postOf
    rw [hG]
    rfl
theorem fl_fits {b : Int} {x : XVal} {y : MVal} (hR : Rel b x y) (h0 : 0 ≤ b) (h1 : b < 800000) (p1 : Int32) (out : Nat → Int64) : FLK b (F_L_fits p1 x out) (H_fits p1 y) (fun v => if v = 0 then 0 else 1) := by
  obtain ⟨k, v, x', v2, y', t, hm, hG, hH, ht, hv, hR'⟩ := op_fits hR p1
  simp only [List.mem_cons, Prod.mk.injEq, List.not_mem_nil, or_false] at hm
  rcases hm with ⟨rfl, rfl⟩ | ⟨rfl, rfl⟩ | ⟨rfl, rfl⟩
  · obtain rfl := hv rfl
    by_cases hz : v = 0
    · refine ⟨0, x', vp_updL out 0 0, v, y', ?_, hH, ht.trans lit_0.symm, fun _ => ?_, hR'⟩
      · unfold F_L_fits
        rw [hG, bnd_some, brn_pos _ _ rfl, brn_pos _ _ hz]
      · show vp_updL out 0 0 0 = if v = 0 then 0 else 1
        rw [if_pos hz]
        rfl
    · refine ⟨0, x', vp_updL out 0 1, v, y', ?_, hH, ht.trans lit_0.symm, fun _ => ?_, hR'⟩
      · unfold F_L_fits
        rw [hG, bnd_some, brn_pos _ _ rfl, brn_neg _ _ hz]
      · show vp_updL out 0 1 0 = if v = 0 then 0 else 1
        rw [if_neg hz]
        rfl
  · refine ⟨1, x', out, v2, y', ?_, hH, ht.trans lit_1.symm, fun h => absurd h (by decide), hR'⟩
    unfold F_L_fits
    rw [hG]
    rfl
  · refine ⟨2, x', out, v2, y', ?_, hH, ht.trans lit_2.symm, fun h => absurd h (by decide), hR'⟩
    unfold F_L_fits
    rw [hG]
    rfl
theorem fl_fitting {b : Int} {x : XVal} {y : MVal} (hR : Rel b x y) (h0 : 0 ≤ b) (h1 : b < 800000) (p1 : Int32) (out : Nat → Int64) : FLK b (F_L_fitting p1 x out) (H_fitting p1 y) (fun v => v.toInt64) := by
  obtain ⟨k, v, x', v2, y', t, hm, hG, hH, ht, hv, hR'⟩ := op_fitting hR p1
  simp only [List.mem_cons, Prod.mk.injEq, List.not_mem_nil, or_false] at hm
  rcases hm with ⟨rfl, rfl⟩ | ⟨rfl, rfl⟩
  · obtain rfl := hv rfl
    refine ⟨0, x', vp_updL out 0 v.toInt64, v, y', ?_, hH, ht.trans lit_0.symm, fun _ => rfl, hR'⟩
    unfold F_L_fitting
    rw [hG]
    rfl
  · refine ⟨1, x', out, v2, y', ?_, hH, ht.trans lit_1.symm, fun h => absurd h (by decide), hR'⟩
    unfold F_L_fitting
    rw [hG]
    rfl
theorem fl_fix {b : Int} {x : XVal} {y : MVal} (hR : Rel b x y) (h0 : 0 ≤ b) (h1 : b < 800000) (p1 : Int32) (out : Nat → Int64) : FLK b (F_L_fix p1 x out) (H_fix p1 y) (fun v => v.toInt64) := by
  obtain ⟨k, v, x', v2, y', t, hm, hG, hH, ht, hv, hR'⟩ := op_fix hR p1
  simp only [List.mem_cons, Prod.mk.injEq, List.not_mem_nil, or_false] at hm
  rcases hm with ⟨rfl, rfl⟩ | ⟨rfl, rfl⟩
  · obtain rfl := hv rfl
    refine ⟨0, x', vp_updL out 0 v.toInt64, v, y', ?_, hH, ht.trans lit_0.symm, fun _ => rfl, hR'⟩
    unfold F_L_fix
    rw [hG]
    rfl
  · refine ⟨1, x', out, v2, y', ?_, hH, ht.trans lit_1.symm, fun h => absurd h (by decide), hR'⟩
    unfold F_L_fix
    rw [hG]
    rfl
theorem fl_apart {b : Int} {x : XVal} {y : MVal} (hR : Rel b x y) (h0 : 0 ≤ b) (h1 : b < 800000) (p1 : Int32) (p2 : Int32) (out : Nat → Int64) : FLK b (F_L_apart p1 p2 x out) (H_apart p1 p2 y) (fun v => v.toInt64) := by
  obtain ⟨k, v, x', v2, y', t, hm, hG, hH, ht, hv, hR'⟩ := op_apart hR p1 p2
  simp only [List.mem_cons, Prod.mk.injEq, List.not_mem_nil, or_false] at hm
  rcases hm with ⟨rfl, rfl⟩ | ⟨rfl, rfl⟩
  · obtain rfl := hv rfl
    refine ⟨0, x', vp_updL out 0 v.toInt64, v, y', ?_, hH, ht.trans lit_0.symm, fun _ => rfl, hR'⟩
    unfold F_L_apart
    rw [hG]
    rfl
  · refine ⟨1, x', out, v2, y', ?_, hH, ht.trans lit_1.symm, fun h => absurd h (by decide), hR'⟩
    unfold F_L_apart
    rw [hG]
    rfl
theorem fl_way {b : Int} {x : XVal} {y : MVal} (hR : Rel b x y) (h0 : 0 ≤ b) (h1 : b < 800000) (p1 : Int32) (p2 : Int32) (p3 : Int32) (out : Nat → Int64) : FLK b (F_L_way p1 p2 p3 x out) (H_way p1 p2 p3 y) (fun v => v.toInt64) := by
  obtain ⟨k, v, x', v2, y', t, hm, hG, hH, ht, hv, hR'⟩ := op_way hR p1 p2 p3
  simp only [List.mem_cons, Prod.mk.injEq, List.not_mem_nil, or_false] at hm
  rcases hm with ⟨rfl, rfl⟩ | ⟨rfl, rfl⟩ | ⟨rfl, rfl⟩
  · obtain rfl := hv rfl
    refine ⟨0, x', vp_updL out 0 v.toInt64, v, y', ?_, hH, ht.trans lit_0.symm, fun _ => rfl, hR'⟩
    unfold F_L_way
    rw [hG]
    rfl
  · refine ⟨1, x', out, v2, y', ?_, hH, ht.trans lit_1.symm, fun h => absurd h (by decide), hR'⟩
    unfold F_L_way
    rw [hG]
    rfl
  · refine ⟨2, x', out, v2, y', ?_, hH, ht.trans lit_2.symm, fun h => absurd h (by decide), hR'⟩
    unfold F_L_way
    rw [hG]
    rfl
theorem fl_round {b : Int} {x : XVal} {y : MVal} (hR : Rel b x y) (h0 : 0 ≤ b) (h1 : b < 800000) (p1 : Int32) (out : Nat → Int64) : FLK b (F_L_round p1 x out) (H_round p1 y) (fun v => v.toInt64) := by
  obtain ⟨k, v, x', v2, y', t, hm, hG, hH, ht, hv, hR'⟩ := op_round hR p1
  simp only [List.mem_cons, Prod.mk.injEq, List.not_mem_nil, or_false] at hm
  rcases hm with ⟨rfl, rfl⟩ | ⟨rfl, rfl⟩
  · obtain rfl := hv rfl
    refine ⟨0, x', vp_updL out 0 v.toInt64, v, y', ?_, hH, ht.trans lit_0.symm, fun _ => rfl, hR'⟩
    unfold F_L_round
    rw [hG]
    rfl
  · refine ⟨1, x', out, v2, y', ?_, hH, ht.trans lit_1.symm, fun h => absurd h (by decide), hR'⟩
    unfold F_L_round
    rw [hG]
    rfl
theorem fl_ranked {b : Int} {x : XVal} {y : MVal} (hR : Rel b x y) (h0 : 0 ≤ b) (h1 : b < 800000) (p1 : Int32) (out : Nat → Int64) : FLK b (F_L_ranked p1 x out) (H_ranked p1 y) (fun v => v.toInt64) := by
  obtain ⟨k, v, x', v2, y', t, hm, hG, hH, ht, hv, hR'⟩ := op_ranked hR (by omega) p1
  simp only [List.mem_cons, Prod.mk.injEq, List.not_mem_nil, or_false] at hm
  rcases hm with ⟨rfl, rfl⟩ | ⟨rfl, rfl⟩
  · obtain rfl := hv rfl
    refine ⟨0, x', vp_updL out 0 v.toInt64, v, y', ?_, hH, ht.trans lit_0.symm, fun _ => rfl, hR'⟩
    unfold F_L_ranked
    rw [hG]
    rfl
  · refine ⟨1, x', out, v2, y', ?_, hH, ht.trans lit_1.symm, fun h => absurd h (by decide), hR'⟩
    unfold F_L_ranked
    rw [hG]
    rfl
theorem fl_line {b : Int} {x : XVal} {y : MVal} (hR : Rel b x y) (h0 : 0 ≤ b) (h1 : b < 800000) (p1 : Int32) (out : Nat → Int64) : FLK b (F_L_line p1 x out) (H_line p1 y) (fun v => v.toInt64) := by
  obtain ⟨k, v, x', v2, y', t, hm, hG, hH, ht, hv, hR'⟩ := op_line hR p1
  simp only [List.mem_cons, Prod.mk.injEq, List.not_mem_nil, or_false] at hm
  rcases hm with ⟨rfl, rfl⟩ | ⟨rfl, rfl⟩
  · obtain rfl := hv rfl
    refine ⟨0, x', vp_updL out 0 v.toInt64, v, y', ?_, hH, ht.trans lit_0.symm, fun _ => rfl, hR'⟩
    unfold F_L_line
    rw [hG]
    rfl
  · refine ⟨1, x', out, v2, y', ?_, hH, ht.trans lit_1.symm, fun h => absurd h (by decide), hR'⟩
    unfold F_L_line
    rw [hG]
    rfl
theorem fl_houseLine {b : Int} {x : XVal} {y : MVal} (hR : Rel b x y) (h0 : 0 ≤ b) (h1 : b < 800000) (p1 : Int32) (out : Nat → Int64) : FLK b (F_L_houseLine p1 x out) (H_houseLine p1 y) (fun v => v.toInt64) := by
  obtain ⟨k, v, x', v2, y', t, hm, hG, hH, ht, hv, hR'⟩ := op_houseLine hR p1
  simp only [List.mem_cons, Prod.mk.injEq, List.not_mem_nil, or_false] at hm
  rcases hm with ⟨rfl, rfl⟩ | ⟨rfl, rfl⟩
  · obtain rfl := hv rfl
    refine ⟨0, x', vp_updL out 0 v.toInt64, v, y', ?_, hH, ht.trans lit_0.symm, fun _ => rfl, hR'⟩
    unfold F_L_houseLine
    rw [hG]
    rfl
  · refine ⟨1, x', out, v2, y', ?_, hH, ht.trans lit_1.symm, fun h => absurd h (by decide), hR'⟩
    unfold F_L_houseLine
    rw [hG]
    rfl
theorem fl_character {b : Int} {x : XVal} {y : MVal} (hR : Rel b x y) (h0 : 0 ≤ b) (h1 : b < 800000) (p1 : Int32) (out : Nat → Int64) : FLK b (F_L_character p1 x out) (H_character p1 y) (fun v => v.toInt64) := by
  obtain ⟨k, v, x', v2, y', t, hm, hG, hH, ht, hv, hR'⟩ := op_character hR p1
  simp only [List.mem_cons, Prod.mk.injEq, List.not_mem_nil, or_false] at hm
  rcases hm with ⟨rfl, rfl⟩ | ⟨rfl, rfl⟩
  · obtain rfl := hv rfl
    refine ⟨0, x', vp_updL out 0 v.toInt64, v, y', ?_, hH, ht.trans lit_0.symm, fun _ => rfl, hR'⟩
    unfold F_L_character
    rw [hG]
    rfl
  · refine ⟨1, x', out, v2, y', ?_, hH, ht.trans lit_1.symm, fun h => absurd h (by decide), hR'⟩
    unfold F_L_character
    rw [hG]
    rfl
theorem fl_append {b : Int} {x : XVal} {y : MVal} (hR : Rel b x y) (h0 : 0 ≤ b) (h1 : b < 800000) (p1 : Int32) (out : Nat → Int64) : FLK b (F_L_append p1 x out) (H_append p1 y) (fun v => v.toInt64) := by
  obtain ⟨k, v, x', v2, y', t, hm, hG, hH, ht, hv, hR'⟩ := op_append hR p1
  simp only [List.mem_cons, Prod.mk.injEq, List.not_mem_nil, or_false] at hm
  rcases hm with ⟨rfl, rfl⟩ | ⟨rfl, rfl⟩
  · obtain rfl := hv rfl
    refine ⟨0, x', vp_updL out 0 v.toInt64, v, y', ?_, hH, ht.trans lit_0.symm, fun _ => rfl, hR'⟩
    unfold F_L_append
    rw [hG]
    rfl
  · refine ⟨1, x', out, v2, y', ?_, hH, ht.trans lit_1.symm, fun h => absurd h (by decide), hR'⟩
    unfold F_L_append
    rw [hG]
    rfl
theorem fl_run {b : Int} {x : XVal} {y : MVal} (hR : Rel b x y) (h0 : 0 ≤ b) (h1 : b < 800000) (out : Nat → Int64) : FLK b (F_L_run x out) (H_run y) (fun v => v.toInt64) := by
  obtain ⟨k, v, x', v2, y', t, hm, hG, hH, ht, hv, hR'⟩ := op_run hR (by omega) (by omega)
  simp only [List.mem_cons, Prod.mk.injEq, List.not_mem_nil, or_false] at hm
  rcases hm with ⟨rfl, rfl⟩ | ⟨rfl, rfl⟩ | ⟨rfl, rfl⟩
  · obtain rfl := hv rfl
    refine ⟨0, x', vp_updL out 0 v.toInt64, v, y', ?_, hH, ht.trans lit_0.symm, fun _ => rfl, hR'⟩
    unfold F_L_run
    rw [hG]
    rfl
  · refine ⟨1, x', out, v2, y', ?_, hH, ht.trans lit_1.symm, fun h => absurd h (by decide), hR'⟩
    unfold F_L_run
    rw [hG]
    rfl
  · refine ⟨2, x', out, v2, y', ?_, hH, ht.trans lit_2.symm, fun h => absurd h (by decide), hR'⟩
    unfold F_L_run
    rw [hG]
    rfl
theorem fl_refusal {b : Int} {x : XVal} {y : MVal} (hR : Rel b x y) (h0 : 0 ≤ b) (h1 : b < 800000) (p1 : Int32) (out : Nat → Int64) : FLK b (F_L_refusal p1 x out) (H_refusal p1 y) (fun v => v.toInt64) := by
  obtain ⟨k, v, x', v2, y', t, hm, hG, hH, ht, hv, hR'⟩ := op_refusal hR p1
  simp only [List.mem_cons, Prod.mk.injEq, List.not_mem_nil, or_false] at hm
  rcases hm with ⟨rfl, rfl⟩ | ⟨rfl, rfl⟩
  · obtain rfl := hv rfl
    refine ⟨0, x', vp_updL out 0 v.toInt64, v, y', ?_, hH, ht.trans lit_0.symm, fun _ => rfl, hR'⟩
    unfold F_L_refusal
    rw [hG]
    rfl
  · refine ⟨1, x', out, v2, y', ?_, hH, ht.trans lit_1.symm, fun h => absurd h (by decide), hR'⟩
    unfold F_L_refusal
    rw [hG]
    rfl
theorem fl_account {b : Int} {x : XVal} {y : MVal} (hR : Rel b x y) (h0 : 0 ≤ b) (h1 : b < 800000) (p1 : Int32) (out : Nat → Int64) : FLK b (F_L_account p1 x out) (H_account p1 y) (fun v => v.toInt64) := by
  obtain ⟨k, v, x', v2, y', t, hm, hG, hH, ht, hv, hR'⟩ := op_account hR p1
  simp only [List.mem_cons, Prod.mk.injEq, List.not_mem_nil, or_false] at hm
  rcases hm with ⟨rfl, rfl⟩ | ⟨rfl, rfl⟩
  · obtain rfl := hv rfl
    refine ⟨0, x', vp_updL out 0 v.toInt64, v, y', ?_, hH, ht.trans lit_0.symm, fun _ => rfl, hR'⟩
    unfold F_L_account
    rw [hG]
    rfl
  · refine ⟨1, x', out, v2, y', ?_, hH, ht.trans lit_1.symm, fun h => absurd h (by decide), hR'⟩
    unfold F_L_account
    rw [hG]
    rfl
theorem fl_meanSleep {b : Int} {x : XVal} {y : MVal} (hR : Rel b x y) (h0 : 0 ≤ b) (h1 : b < 800000) (out : Nat → UInt64) : FLKd b (F_L_meanSleep x out) (H_meanSleep y) := by
  obtain ⟨k, v, x', v2, y', t, hm, hG, hH, ht, hv, hR'⟩ := op_meanSleep hR
  simp only [List.mem_cons, Prod.mk.injEq, List.not_mem_nil, or_false] at hm
  rcases hm with ⟨rfl, rfl⟩ | ⟨rfl, rfl⟩
  · obtain ⟨rfl, hn⟩ := hv rfl
    refine ⟨0, x', vf_upd out 0 v, v, y', ?_, hH, ht.trans lit_0.symm, fun _ => ⟨rfl, hn⟩, hR'⟩
    unfold F_L_meanSleep
    rw [hG]
    rfl
  · refine ⟨1, x', out, v2, y', ?_, hH, ht.trans lit_1.symm, fun h => absurd h (by decide), hR'⟩
    unfold F_L_meanSleep
    rw [hG]
    rfl
theorem fl_prankShare {b : Int} {x : XVal} {y : MVal} (hR : Rel b x y) (h0 : 0 ≤ b) (h1 : b < 800000) (out : Nat → UInt64) : FLKf b (F_L_prankShare x out) (H_prankShare y) := by
  obtain ⟨k, v, x', v2, y', t, hm, hG, hH, ht, hv, hR'⟩ := op_prankShare hR (by omega)
  simp only [List.mem_cons, Prod.mk.injEq, List.not_mem_nil, or_false] at hm
  rcases hm with ⟨rfl, rfl⟩ | ⟨rfl, rfl⟩
  · obtain ⟨rfl, hn⟩ := hv rfl
    refine ⟨0, x', vf_upd out 0 (FP.f2d v), v, y', ?_, hH, ht.trans lit_0.symm, fun _ => ⟨rfl, hn⟩, hR'⟩
    unfold F_L_prankShare
    rw [hG, bnd_some, brn_pos _ _ rfl, grd_pos _ (f2d_ok hn)]
  · refine ⟨1, x', out, v2, y', ?_, hH, ht.trans lit_1.symm, fun h => absurd h (by decide), hR'⟩
    unfold F_L_prankShare
    rw [hG]
    rfl
theorem fl_undo {b : Int} {x : XVal} {y : MVal} (hR : Rel b x y) (h0 : 0 ≤ b) (h1 : b < 800000) (out : Nat → Int64) : FLK b (F_L_undo x out) (H_undo y) (fun v => v.toInt64) := by
  obtain ⟨k, v, x', v2, y', t, hm, hG, hH, ht, hv, hR'⟩ := op_undo hR
  simp only [List.mem_cons, Prod.mk.injEq, List.not_mem_nil, or_false] at hm
  rcases hm with ⟨rfl, rfl⟩ | ⟨rfl, rfl⟩
  · obtain rfl := hv rfl
    refine ⟨0, x', vp_updL out 0 v.toInt64, v, y', ?_, hH, ht.trans lit_0.symm, fun _ => rfl, hR'⟩
    unfold F_L_undo
    rw [hG]
    rfl
  · refine ⟨1, x', out, v2, y', ?_, hH, ht.trans lit_1.symm, fun h => absurd h (by decide), hR'⟩
    unfold F_L_undo
    rw [hG]
    rfl
theorem fl_restore {b : Int} {x : XVal} {y : MVal} (hR : Rel b x y) (h0 : 0 ≤ b) (h1 : b < 800000) (out : Nat → Int64) : FLK b (F_L_restore x out) (H_restore y) (fun v => v.toInt64) := by
  obtain ⟨k, v, x', v2, y', t, hm, hG, hH, ht, hv, hR'⟩ := op_restore hR
  simp only [List.mem_cons, Prod.mk.injEq, List.not_mem_nil, or_false] at hm
  rcases hm with ⟨rfl, rfl⟩ | ⟨rfl, rfl⟩
  · obtain rfl := hv rfl
    refine ⟨0, x', vp_updL out 0 v.toInt64, v, y', ?_, hH, ht.trans lit_0.symm, fun _ => rfl, hR'⟩
    unfold F_L_restore
    rw [hG]
    rfl
  · refine ⟨1, x', out, v2, y', ?_, hH, ht.trans lit_1.symm, fun h => absurd h (by decide), hR'⟩
    unfold F_L_restore
    rw [hG]
    rfl
