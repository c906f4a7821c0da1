/-! ===== what holds when both are new ===== -/
def x0 : XVal := ((fun k => if k = 3 then -1 else if k = 12 then -1 else if k = 21 then -1 else if k = 30 then -1 else if k = 31 then -1 else if k = 35 then -1 else 0), (fun _ _ => 0), (fun _ => tv0))
def y0 : MVal := ((fun k => if k = 12 then -1 else 0), (fun _ _ => 0))
theorem nW_X11_x0 (g : Nat → ClassId) (a : Nat → Nat) (ad : Nat → Nat → Nat) : nW_X11 g a ad = XW g a ad x0 ++ poolW g ad x0.2.2 := rfl
theorem J_zero : (fun _ => 0 : Nat → Int32) = J (fun _ => 0) := funext fun _ => lit_0
theorem WF_zero {σ : Nat → Int} (h : ∀ k, σ k = 0) : WF 0 σ := by
  unfold WF
  simp only [h]
  refine ⟨fun _ => ⟨by omega, by omega⟩, ⟨by omega, by omega⟩, ⟨by omega, by omega⟩, ⟨by omega, by omega⟩, ⟨by omega, by omega⟩, ⟨by omega, by omega⟩, ⟨⟨by omega, by omega⟩, ⟨by omega, by omega⟩, ⟨by omega, by omega⟩, ⟨by omega, by omega⟩, fun _ _ => ⟨by omega, by omega⟩, by omega⟩, fun _ _ => Or.inl trivial, ⟨fun i hi => ?_, fun i j hi => ?_⟩, ⟨fun i hi => ?_, fun i j hi => ?_⟩, ⟨fun i hi => ?_, fun i j hi => ?_⟩⟩ <;> exact absurd hi (by omega)
theorem TR_zero {σ : Nat → Int} (h : ∀ k, σ k = 0) : TR σ (xT x0) := by
  unfold TR
  simp only [h]
  refine ⟨⟨lit_0, lit_0, m1, lit_0, lit_0, lit_0, lit_0, lit_0, lit_0⟩, fun i hi => absurd hi (by omega), fun i hi => absurd hi (by omega), fun i hi => absurd hi (by omega), fun _ _ => lit_0, fun _ _ => lit_0⟩
def s0 : Nat → Int := fun _ => 0
theorem s0_z (k : Nat) : s0 k = 0 := rfl
theorem Rel_start : Rel 0 x0 y0 := by
  refine ⟨s0, s0, 0, 0, ⟨WF_zero s0_z, J_zero, TR_zero s0_z⟩, ⟨rfl, Or.inl rfl⟩, ⟨lit_0, lit_0, lit_0, J_zero, by omega, by omega, fun k => ⟨by rw [s0_z]; omega, by rw [s0_z]; omega⟩, fun j hj => absurd hj (by omega)⟩, Or.inl ⟨rfl, rfl⟩, ⟨rfl, 0, by omega, lit_0, lit_0, fun i hi => absurd hi (by omega)⟩, ⟨0, by omega, lit_0, lit_0, fun i hi => absurd hi (by omega)⟩⟩
