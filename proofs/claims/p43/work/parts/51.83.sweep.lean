/-! ===== lowering, against the fewest steps ===== -/
/-- what holds of a row that is being lowered; D: the fewest steps -/
def LI (s : Nat) (D E : Nat → Int) : Prop := E s = 0 ∧ ∀ c : Nat, c < 64 → -1 ≤ E c ∧ (0 ≤ E c → 0 ≤ D c ∧ D c ≤ E c)
/-- a row sunk from another -/
def SK (E F : Nat → Int) : Prop := ∀ c : Nat, c < 64 → 0 ≤ E c → 0 ≤ F c ∧ F c ≤ E c
section SWP
variable {σ D E F G : Nat → Int} {s : Nat}
theorem SK.rf : SK E E := fun c _ h => ⟨h, Int.le_refl _⟩
theorem SK.tr (h1 : SK E F) (h2 : SK F G) : SK E G := fun c hc h => by
  have a := h1 c hc h
  have b := h2 c hc a.1
  omega
theorem low_SK (hE : ∀ c : Nat, c < 64 → -1 ≤ E c) {d c : Nat} (hd : d < 64) : SK E (lowS σ E d c) := by
  intro k hk h
  have h2 := hE d hd
  unfold lowS
  split
  · next q =>
    unfold U
    split
    · next e => subst e; omega
    · omega
  · omega
theorem low_LI (hW : WY (fun c => blkB σ c) s D) (h : LI s D E) {d c : Nat} (hd : d < 64) (hc : c < 64) (hf : far d c = 1) : LI s D (lowS σ E d c) := by
  have h1 := h.2 d hd
  unfold lowS
  split
  · next q =>
    have b := hW.2.2.2.2 d hd (h1.2 q.1).1 c hc hf q.2.1
    refine ⟨?_, fun k hk => ?_⟩
    · unfold U
      split
      · next e =>
        subst e
        have := h.1
        omega
      · exact h.1
    · unfold U
      split
      · next e => subst e; have := h1.2 q.1; omega
      · exact h.2 k hk
  · exact h
theorem low_got (hE : ∀ c : Nat, c < 64 → -1 ≤ E c) {d c : Nat} (hc : c < 64) (h1 : 0 ≤ E d) (h2 : blkB σ c = false) : 0 ≤ lowS σ E d c c ∧ lowS σ E d c c ≤ E d + 1 := by
  have := hE c hc
  unfold lowS
  split
  · rw [U_same]; omega
  · next q =>
    have : ¬ (E c = -1 ∨ E d + 1 < E c) := fun r => q ⟨h1, h2, r⟩
    omega
/-- a sweep: every cell with the one below and the one beside it -/
def alS (σ E : Nat → Int) (d k : Nat) : Nat → Int := if nx d k = -1 then E else lowS σ (lowS σ E d (nx d k).toNat) (nx d k).toNat d
theorem al_ok (hW : WY (fun c => blkB σ c) s D) (h : LI s D E) {d k : Nat} (hd : d < 64) (hk : k < 4) : LI s D (alS σ E d k) ∧ SK E (alS σ E d k) := by
  unfold alS
  split
  · exact ⟨h, SK.rf⟩
  · next q =>
    have hn := nx_in (d : Int) k
    have en : (((nx d k).toNat : Nat) : Int) = nx d k := by omega
    have hf : far d (nx d k) = 1 := (nx_far (by omega) (by omega) (by omega) hn.2).mpr ⟨k, hk, rfl⟩
    have hf1 : far d ((nx d k).toNat : Nat) = 1 := by rw [en]; exact hf
    have hf2 : far ((nx d k).toNat : Nat) d = 1 := by rw [far_sym]; exact hf1
    have a := low_LI hW h hd (show (nx d k).toNat < 64 by omega) hf1
    have b := low_LI hW a (show (nx d k).toNat < 64 by omega) hd hf2
    exact ⟨b, (low_SK (fun c hc => (h.2 c hc).1) hd).tr (low_SK (fun c hc => (a.2 c hc).1) (by omega))⟩
end SWP
