section SW2
variable {σ D E F G : Nat → Int} {s : Nat}
theorem al_got (hW : WY (fun c => blkB σ c) s D) (h : LI s D E) {d k : Nat} (hd : d < 64) (hk : k < 4) {c : Nat} (hc : c < 64) (hn : nx d k = c) :
    (0 ≤ E d → blkB σ c = false → 0 ≤ alS σ E d k c ∧ alS σ E d k c ≤ E d + 1) ∧ (0 ≤ E c → blkB σ d = false → 0 ≤ alS σ E d k d ∧ alS σ E d k d ≤ E c + 1) := by
  have hf1 : far d c = 1 := (nx_far (by omega) (by omega) (by omega) (by omega)).mpr ⟨k, hk, hn⟩
  have a := low_LI hW h hd hc hf1
  have s1 := low_SK (σ := σ) (c := c) (fun c hc => (h.2 c hc).1) hd
  have s2 := low_SK (σ := σ) (c := d) (fun c hc => (a.2 c hc).1) hc
  unfold alS
  rw [if_neg (by omega), hn, Int.toNat_natCast]
  constructor
  · intro q1 q2
    have g := low_got (fun c hc => (h.2 c hc).1) hc q1 q2
    have := s2 c hc g.1
    omega
  · intro q1 q2
    have t := s1 c hc q1
    have g := low_got (fun c hc => (a.2 c hc).1) hd t.1 q2
    omega
def swS (σ : Nat → Int) : Nat → Nat → (Nat → Int) → Nat → Int
  | 0, _, E => E
  | r + 1, k, E => swS σ r (k + 1) (alS σ (alS σ E k 1) k 3)
theorem sw_ok (hW : WY (fun c => blkB σ c) s D) : ∀ (r k : Nat) (E : Nat → Int), k + r ≤ 64 → LI s D E → LI s D (swS σ r k E) ∧ SK E (swS σ r k E) := by
  intro r
  induction r with
  | zero => intro k E hk h; exact ⟨h, SK.rf⟩
  | succ r ih =>
    intro k E hk h
    have a := al_ok hW h (d := k) (k := 1) (by omega) (by omega)
    have c := al_ok hW a.1 (d := k) (k := 3) (by omega) (by omega)
    have e := ih (k + 1) _ (by omega) c.1
    rw [swS]
    exact ⟨e.1, (a.2.tr c.2).tr e.2⟩
theorem sw_pair (hW : WY (fun c => blkB σ c) s D) : ∀ (r k : Nat) (E : Nat → Int), k + r ≤ 64 → LI s D E → ∀ x : Nat, k ≤ x → x < k + r → ∀ m : Nat, (m = 1 ∨ m = 3) → ∀ c : Nat, c < 64 → nx x m = c →
    (0 ≤ E x → blkB σ c = false → 0 ≤ swS σ r k E c ∧ swS σ r k E c ≤ E x + 1) ∧ (0 ≤ E c → blkB σ x = false → 0 ≤ swS σ r k E x ∧ swS σ r k E x ≤ E c + 1) := by
  intro r
  induction r with
  | zero => intro k E hk h x h1 h2; omega
  | succ r ih =>
    intro k E hk h x h1 h2 m hm c hc hn
    have a := al_ok hW h (d := k) (k := 1) (by omega) (by omega)
    have g := al_ok hW a.1 (d := k) (k := 3) (by omega) (by omega)
    have e := sw_ok hW r (k + 1) _ (by omega) g.1
    rw [swS]
    by_cases q : x = k
    · subst q
      rcases hm with rfl | rfl
      · have t := al_got hW h (by omega) (by omega) hc hn
        have u := g.2.tr e.2
        constructor
        · intro q1 q2
          have t1 := t.1 q1 q2
          have := u c hc t1.1
          omega
        · intro q1 q2
          have t1 := t.2 q1 q2
          have := u x (by omega) t1.1
          omega
      · have t := al_got hW a.1 (by omega) (by omega) hc hn
        constructor
        · intro q1 q2
          have z := a.2 x (by omega) q1
          have t1 := t.1 z.1 q2
          have := e.2 c hc t1.1
          omega
        · intro q1 q2
          have z := a.2 c hc q1
          have t1 := t.2 z.1 q2
          have := e.2 x (by omega) t1.1
          omega
    · have t := ih (k + 1) _ (by omega) g.1 x (by omega) (by omega) m hm c hc hn
      have u := a.2.tr g.2
      constructor
      · intro q1 q2
        have z := u x (by omega) q1
        have t1 := t.1 z.1 q2
        omega
      · intro q1 q2
        have z := u c hc q1
        have t1 := t.2 z.1 q2
        omega
theorem nx_back {d c : Nat} (hd : d < 64) (hc : c < 64) : (nx d 0 = c → nx c 1 = d) ∧ (nx d 2 = c → nx c 3 = d) := by
  have m1 := md_in (z := (d : Int)) (d := 8) (by omega)
  have m2 := md_in (z := (c : Int)) (d := 8) (by omega)
  unfold nx nxc md
  constructor
  · intro h
    simp at h ⊢
    split at h
    · rw [if_pos (by omega)]; omega
    · omega
  · intro h
    simp at h ⊢
    split at h
    · rw [if_pos (by omega)]; omega
    · omega
/-- one whole sweep: no neighbour of a reached cell lies more than a step beyond -/
theorem sw_step (hW : WY (fun c => blkB σ c) s D) (h : LI s D E) {d c : Nat} (hd : d < 64) (hc : c < 64) (hf : far d c = 1) (h1 : 0 ≤ E d) (h2 : blkB σ c = false) : 0 ≤ swS σ 64 0 E c ∧ swS σ 64 0 E c ≤ E d + 1 := by
  obtain ⟨k, hk, hn⟩ := (nx_far (d := (d : Int)) (c := (c : Int)) (by omega) (by omega) (by omega) (by omega)).mp hf
  have hb := nx_back hd hc
  have hk4 : k = 0 ∨ k = 1 ∨ k = 2 ∨ k = 3 := by omega
  rcases hk4 with rfl | rfl | rfl | rfl
  · exact (sw_pair hW 64 0 E (by omega) h c (by omega) (by omega) 1 (Or.inl rfl) d hd (hb.1 hn)).2 h1 h2
  · exact (sw_pair hW 64 0 E (by omega) h d (by omega) (by omega) 1 (Or.inl rfl) c hc hn).1 h1 h2
  · exact (sw_pair hW 64 0 E (by omega) h c (by omega) (by omega) 3 (Or.inr rfl) d hd (hb.2 hn)).2 h1 h2
  · exact (sw_pair hW 64 0 E (by omega) h d (by omega) (by omega) 3 (Or.inr rfl) c hc hn).1 h1 h2
end SW2
