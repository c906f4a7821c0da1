/-! ===== gone: the law's own search tells the fewest steps ===== -/
def lsF (E : Nat → Int) (k : Nat) : Nat → Nat → Int → Int
  | 0, _, m => m
  | r + 1, o, m => lsF E k r (o + 1) (if far k o = 1 ∧ E o + 1 < m then E o + 1 else m)
theorem ls_sp {E : Nat → Int} {k : Nat} : ∀ (r o : Nat) (m : Int), lsF E k r o m ≤ m ∧ (∀ d : Nat, o ≤ d → d < o + r → far k d = 1 → lsF E k r o m ≤ E d + 1) ∧ (lsF E k r o m = m ∨ ∃ d : Nat, d < o + r ∧ far k d = 1 ∧ lsF E k r o m = E d + 1) := by
  intro r
  induction r with
  | zero => intro o m; exact ⟨Int.le_refl _, fun d h1 h2 => by omega, Or.inl rfl⟩
  | succ r ih =>
    intro o m
    obtain ⟨M, hM⟩ : ∃ M, M = (if far k o = 1 ∧ E o + 1 < m then E o + 1 else m) := ⟨_, rfl⟩
    obtain ⟨h1, h2, h3⟩ := ih (o + 1) M
    have m1 : M ≤ m ∧ (far k o = 1 → M ≤ E o + 1) ∧ (M = m ∨ far k o = 1 ∧ M = E o + 1) := by
      rw [hM]
      by_cases q : far k o = 1 ∧ E o + 1 < m
      · rw [if_pos q]
        exact ⟨by omega, fun _ => Int.le_refl _, Or.inr ⟨q.1, rfl⟩⟩
      · rw [if_neg q]
        exact ⟨Int.le_refl _, fun e => by omega, Or.inl rfl⟩
    rw [lsF, ← hM]
    refine ⟨by omega, fun d g1 g2 g3 => ?_, ?_⟩
    · by_cases e : d = o
      · subst e
        have := m1.2.1 g3
        omega
      · exact h2 d (by omega) (by omega) g3
    · rcases h3 with h | ⟨d, g1, g2, g3⟩
      · rcases m1.2.2 with q | ⟨q1, q2⟩
        · exact Or.inl (by omega)
        · exact Or.inr ⟨o, by omega, q1, by omega⟩
      · exact Or.inr ⟨d, by omega, g2, g3⟩
/-- one cell told anew -/
def tS (blk : Nat → Bool) (E : Nat → Int) (k : Nat) : Nat → Int := if blk k = false ∧ lsF E k 64 0 1000 < E k then U E k (lsF E k 64 0 1000) else E
def tZ (blk : Nat → Bool) (E : Nat → Int) (k : Nat) : Bool := decide (blk k = false ∧ lsF E k 64 0 1000 < E k)
def sS (blk : Nat → Bool) : Nat → Nat → (Nat → Int) → Nat → Int
  | 0, _, E => E
  | r + 1, k, E => sS blk r (k + 1) (tS blk E k)
def sC (blk : Nat → Bool) : Nat → Nat → (Nat → Int) → Bool
  | 0, _, _ => false
  | r + 1, k, E => tZ blk E k || sC blk r (k + 1) (tS blk E k)
def LQ (D E : Nat → Int) : Prop := ∀ c : Nat, c < 64 → RW D c ≤ E c ∧ E c ≤ 1000
section ST36
variable {blk : Nat → Bool} {s : Nat} {D E : Nat → Int}
theorem rw_in (hs : s < 64) (hW : WY blk s D) {c : Nat} (hc : c < 64) : 0 ≤ RW D c ∧ RW D c ≤ 1000 := by
  have h1 := hW.2.1 c hc
  have h2 := WY_63 hs hW hc
  unfold RW
  split <;> omega
theorem rw_nb (hs : s < 64) (hW : WY blk s D) {c d : Nat} (hc : c < 64) (hd : d < 64) (hf : far c d = 1) (hb : blk c = false) : RW D c ≤ RW D d + 1 := by
  have i1 := rw_in hs hW hc
  have i2 := rw_in hs hW hd
  have h1 := hW.2.1 d hd
  have h2 := WY_63 hs hW hd
  unfold RW at i1 i2 ⊢
  by_cases e : D d = -1
  · rw [if_pos e]; omega
  · have g := hW.2.2.2.2 d hd (by omega) c hc (by rw [far_sym]; exact hf) hb
    rw [if_neg e, if_neg (by omega)]
    exact g.2
theorem ls_low (hs : s < 64) (hW : WY blk s D) (h : LQ D E) {k : Nat} (hk : k < 64) (hb : blk k = false) : RW D k ≤ lsF E k 64 0 1000 := by
  have i1 := rw_in hs hW hk
  rcases (ls_sp (E := E) (k := k) 64 0 1000).2.2 with e | ⟨d, h1, h2, h3⟩
  · omega
  · have g := rw_nb hs hW hk (show d < 64 by omega) h2 hb
    have g2 := h d (by omega)
    omega
theorem t_ok (hs : s < 64) (hW : WY blk s D) (h : LQ D E) {k : Nat} (hk : k < 64) : LQ D (tS blk E k) ∧ ∀ c, tS blk E k c ≤ E c := by
  have l1 := (ls_sp (E := E) (k := k) 64 0 1000).1
  unfold tS
  by_cases q : blk k = false ∧ lsF E k 64 0 1000 < E k
  · rw [if_pos q]
    have g := ls_low hs hW h hk q.1
    refine ⟨fun c hc => ?_, fun c => ?_⟩
    · by_cases e : c = k
      · subst e; rw [U_same]; omega
      · rw [U_ne _ _ e]; exact h c hc
    · by_cases e : c = k
      · subst e; rw [U_same]; omega
      · rw [U_ne _ _ e]; omega
  · rw [if_neg q]
    exact ⟨h, fun c => Int.le_refl _⟩
theorem t_got {k : Nat} (hb : blk k = false) {d : Nat} (hd : d < 64) (hf : far k d = 1) : tS blk E k k ≤ E d + 1 := by
  have l1 := (ls_sp (E := E) (k := k) 64 0 1000).2.1 d (by omega) (by omega) hf
  unfold tS
  by_cases q : blk k = false ∧ lsF E k 64 0 1000 < E k
  · rw [if_pos q, U_same]; exact l1
  · rw [if_neg q]
    have : ¬ lsF E k 64 0 1000 < E k := fun g => q ⟨hb, g⟩
    omega
theorem s_ok (hs : s < 64) (hW : WY blk s D) : ∀ (r k : Nat) (E : Nat → Int), k + r ≤ 64 → LQ D E → LQ D (sS blk r k E) ∧ ∀ c, sS blk r k E c ≤ E c := by
  intro r
  induction r with
  | zero => intro k E hk h; exact ⟨h, fun c => Int.le_refl _⟩
  | succ r ih =>
    intro k E hk h
    have a := t_ok hs hW h (k := k) (by omega)
    have g := ih (k + 1) _ (by omega) a.1
    rw [sS]
    exact ⟨g.1, fun c => Int.le_trans (g.2 c) (a.2 c)⟩
theorem s_got (hs : s < 64) (hW : WY blk s D) : ∀ (r k : Nat) (E : Nat → Int), k + r ≤ 64 → LQ D E → ∀ x : Nat, k ≤ x → x < k + r → blk x = false → ∀ d : Nat, d < 64 → far x d = 1 → sS blk r k E x ≤ E d + 1 := by
  intro r
  induction r with
  | zero => intro k E hk h x h1 h2; omega
  | succ r ih =>
    intro k E hk h x h1 h2 hb d hd hf
    have a := t_ok hs hW h (k := k) (by omega)
    have g := s_ok hs hW r (k + 1) _ (by omega) a.1
    rw [sS]
    by_cases e : x = k
    · subst e
      have t := t_got (E := E) hb hd hf
      have := g.2 x
      omega
    · have t := ih (k + 1) _ (by omega) a.1 x (by omega) (by omega) hb d hd hf
      have := a.2 d
      omega
theorem s_no : ∀ (r k : Nat) (E : Nat → Int), sC blk r k E = false → sS blk r k E = E := by
  intro r
  induction r with
  | zero => intro k E h; rfl
  | succ r ih =>
    intro k E h
    rw [sC, Bool.or_eq_false_iff] at h
    have e : tS blk E k = E := if_neg (of_decide_eq_false h.1)
    rw [sS, ih _ _ h.2, e]
theorem s_fix (hs : s < 64) (hW : WY blk s D) : ∀ (r k : Nat) (E : Nat → Int), k + r ≤ 64 → (∀ c : Nat, c < 64 → E c = RW D c) → sC blk r k E = false := by
  intro r
  induction r with
  | zero => intro k E hk h; rfl
  | succ r ih =>
    intro k E hk h
    have hL : LQ D E := fun c hc => by have := rw_in hs hW hc; rw [h c hc]; omega
    have q : ¬ (blk k = false ∧ lsF E k 64 0 1000 < E k) := by
      intro q
      have := ls_low hs hW hL (k := k) (by omega) q.1
      have := h k (by omega)
      omega
    have e : tS blk E k = E := if_neg q
    rw [sC, Bool.or_eq_false_iff, e]
    exact ⟨decide_eq_false q, ih (k + 1) E (by omega) h⟩
theorem x_s60 {bl : Nat → Int32} (p0 : Int32) (r36 : Int32 → (Nat → Int32) → Option (Nat → Int32)) (r45 : Int32 → Int32 → (Nat → Int32) → Option (Nat → Int32)) (x3 : Int32) {a : Nat → Int32} (ha : AR a E 64) (hE : ∀ c : Nat, c < 64 → 0 ≤ E c ∧ E c ≤ 1000) {k : Nat} (hk : k < 64) : ∀ (r o f : Nat) (m : Int), o + r = 64 → r < f → 0 ≤ m → m ≤ 1000 →
    L_L_steps_60 p0 bl r36 r45 f x3 (I k) (I m) (I o) a = L_L_steps_60 p0 bl r36 r45 1 x3 (I k) (I (lsF E k r o m)) (I 64) a := by
  intro r
  induction r with
  | zero =>
    intro o f m ho hf m0 m1
    obtain ⟨f, rfl⟩ : ∃ g, f = g + 1 := ⟨f - 1, by omega⟩
    have ho : o = 64 := by omega
    subst ho
    show L_L_steps_60 p0 bl r36 r45 (f + 1) x3 (I k) (I m) (I 64) a = L_L_steps_60 p0 bl r36 r45 1 x3 (I k) (I m) (I 64) a
    rw [L_L_steps_60, L_L_steps_60, brn_pos _ _ (show (64 : Int32) ≤ I 64 by decide), brn_pos _ _ (show (64 : Int32) ≤ I 64 by decide)]
  | succ r ih =>
    intro o f m ho hf m0 m1
    obtain ⟨f, rfl⟩ : ∃ g, f = g + 1 := ⟨f - 1, by omega⟩
    have hEo := hE o (by omega)
    have st : L_L_steps_60 p0 bl r36 r45 (f + 1) x3 (I k) (I m) (I o) a = L_L_steps_60 p0 bl r36 r45 f x3 (I k) (I (if far k o = 1 ∧ E o + 1 < m then E o + 1 else m)) (I ((o + 1 : Nat) : Int)) a := by
      have fa : 0 ≤ far (k : Int) (o : Int) ∧ far (k : Int) (o : Int) ≤ 14 := far_in (by omega) (by omega) (by omega) (by omega)
      rw [L_L_steps_60, brn_neg _ _ (by rw [lit_64, I_le (by omega) (by omega) (by omega) (by omega)]; omega), l_far (by omega) (by omega) (by omega) (by omega), bnd_some]
      unfold J_L_steps_94
      rw [kk_I]
      by_cases e1 : far (k : Int) (o : Int) = 1
      · have ecl : (I (o : Int)).toNatClampNeg = o := by rw [I_cl (by omega) (by omega)]; omega
        have e2 : I (E o) + 1 = I (E o + 1) := by rw [lit_1, I_add]
        rw [brn_pos _ _ (by rw [e1]; rfl), grd_pos _ (by rw [I_inb (by omega) (by omega)]; omega), ecl, ha o (by omega), e2]
        by_cases q : E o + 1 < m
        · rw [if_pos (by rw [I_lt (by omega) (by omega) (by omega) (by omega)]; exact q), if_pos ⟨e1, q⟩]
        · rw [if_neg (by rw [I_lt (by omega) (by omega) (by omega) (by omega)]; exact q), if_neg (fun g => q g.2)]
      · rw [brn_neg _ _ (by rw [lit_1, I_eq (by omega) (by omega) (by omega) (by omega)]; exact e1), if_neg (fun g => e1 g.1)]
    rw [st, lsF]
    refine ih (o + 1) f _ (by omega) (by omega) ?_ ?_
    · split <;> omega
    · split <;> omega
theorem x_s45 {bl : Nat → Int32} (hs : s < 64) (hW : WY blk s D) (hbl : ∀ c : Nat, c < 64 → bl c = bI (blk c)) (p0 : Int32) (r36 : Int32 → (Nat → Int32) → Option (Nat → Int32)) : ∀ (r k f : Nat) (E : Nat → Int) (a : Nat → Int32) (fl : Bool), k + r = 64 → r < f → AR a E 64 → LQ D E →
    ∃ a', L_L_steps_45 p0 bl r36 f (bI fl) (I k) a = r36 (bI (fl || sC blk r k E)) a' ∧ AR a' (sS blk r k E) 64 := by
  intro r
  induction r with
  | zero =>
    intro k f E a fl hk hf ha hL
    obtain ⟨f, rfl⟩ : ∃ g, f = g + 1 := ⟨f - 1, by omega⟩
    refine ⟨a, ?_, ha⟩
    rw [L_L_steps_45, brn_pos _ _ (by rw [lit_64, I_le (by omega) (by omega) (by omega) (by omega)]; omega), sC, Bool.or_false]
  | succ r ih =>
    intro k f E a fl hk hf ha hL
    obtain ⟨f, rfl⟩ : ∃ g, f = g + 1 := ⟨f - 1, by omega⟩
    have hE : ∀ c : Nat, c < 64 → 0 ≤ E c ∧ E c ≤ 1000 := fun c hc => by
      have := rw_in hs hW hc
      have := hL c hc
      omega
    have hEk := hE k (by omega)
    have ecl : (I (k : Int)).toNatClampNeg = k := by rw [I_cl (by omega) (by omega)]; omega
    have iN : inb (I (k : Int)) 64 := by rw [I_inb (by omega) (by omega)]; omega
    obtain ⟨ls, hls⟩ : ∃ ls, ls = lsF E k 64 0 1000 := ⟨_, rfl⟩
    have l1 : ls ≤ 1000 := by rw [hls]; exact (ls_sp (E := E) (k := k) 64 0 1000).1
    have l0 : 0 ≤ ls := by
      rw [hls]
      rcases (ls_sp (E := E) (k := k) 64 0 1000).2.2 with e | ⟨d, g1, g2, g3⟩
      · omega
      · have := hE d (by omega)
        omega
    have tok := t_ok hs hW hL (k := k) (by omega)
    have hstep : L_L_steps_45 p0 bl r36 (f + 1) (bI fl) (I k) a = L_L_steps_60 p0 bl r36 (L_L_steps_45 p0 bl r36 f) 1 (bI fl) (I k) (I ls) (I 64) a := by
      rw [L_L_steps_45, brn_neg _ _ (by rw [lit_64, I_le (by omega) (by omega) (by omega) (by omega)]; omega), hls]
      exact x_s60 p0 r36 _ (bI fl) ha hE (by omega) 64 0 65 1000 (by omega) (by omega) (by omega) (by omega)
    rw [hstep, L_L_steps_60, brn_pos _ _ (show (64 : Int32) ≤ I 64 by decide), grd_pos _ iN, grd_pos _ iN, grd_pos _ iN, ecl, hbl k (by omega), ha k (by omega), kk_I, sS, sC]
    cases hb : blk k with
    | true =>
      have q : ¬ (blk k = false ∧ lsF E k 64 0 1000 < E k) := fun q => by rw [hb] at q; cases q.1
      have e1 : tS blk E k = E := if_neg q
      have e2 : tZ blk E k = false := decide_eq_false q
      rw [brn_neg _ _ (show ¬ bI true = 0 by decide), e1, e2, Bool.false_or]
      exact ih (k + 1) f E a fl (by omega) (by omega) ha hL
    | false =>
      rw [brn_pos _ _ (show bI false = 0 from rfl)]
      by_cases q1 : ls < E k
      · have q : blk k = false ∧ lsF E k 64 0 1000 < E k := ⟨hb, by rw [← hls]; exact q1⟩
        have e1 : tS blk E k = U E k ls := by rw [hls]; exact if_pos q
        have e2 : tZ blk E k = true := decide_eq_true q
        rw [brn_neg _ _ (by rw [I_le (by omega) (by omega) (by omega) (by omega)]; omega), e1, e2]
        rw [e1] at tok
        obtain ⟨a', g1, g2⟩ := ih (k + 1) f (U E k ls) (upd a k (I ls)) true (by omega) (by omega) (AR_upd ha k ls) tok.1
        refine ⟨a', ?_, g2⟩
        rw [Bool.true_or, Bool.or_true]
        rw [Bool.true_or] at g1
        exact g1
      · have q : ¬ (blk k = false ∧ lsF E k 64 0 1000 < E k) := fun q => q1 (by rw [hls]; exact q.2)
        have e1 : tS blk E k = E := if_neg q
        have e2 : tZ blk E k = false := decide_eq_false q
        rw [brn_pos _ _ (by rw [I_le (by omega) (by omega) (by omega) (by omega)]; omega), e1, e2, Bool.false_or]
        exact ih (k + 1) f E a fl (by omega) (by omega) ha hL
theorem x_s36 {bl : Nat → Int32} (hs : s < 64) (hW : WY blk s D) (hbl : ∀ c : Nat, c < 64 → bl c = bI (blk c)) (p0 : Int32) : ∀ (r n f : Nat) (E : Nat → Int) (a : Nat → Int32), n + r = 64 → r + 1 < f → AR a E 64 → LQ D E → (∀ c : Nat, c < 64 → 0 ≤ D c → D c ≤ n → E c = D c) →
    ∃ a', L_L_steps_36 p0 bl f 1 a = some a' ∧ AR a' (RW D) 64 := by
  intro r
  induction r with
  | zero =>
    intro n f E a hn hf ha hL hG
    obtain ⟨f, rfl⟩ : ∃ g, f = g + 2 := ⟨f - 2, by omega⟩
    have hE : ∀ c : Nat, c < 64 → E c = RW D c := fun c hc => by
      have h1 := hW.2.1 c hc
      have h2 := WY_63 hs hW hc
      have h3 := hL c hc
      unfold RW at h3 ⊢
      by_cases e : D c = -1
      · rw [if_pos e] at h3 ⊢; omega
      · rw [if_neg e]; exact hG c hc (by omega) (by omega)
    obtain ⟨a1, u1, u2⟩ := x_s45 hs hW hbl p0 (L_L_steps_36 p0 bl (f + 1)) 64 0 65 E a false (by omega) (by omega) ha hL
    have hc := s_fix hs hW 64 0 E (by omega) hE
    rw [hc] at u1
    refine ⟨a1, ?_, fun i hi => by rw [u2 i hi, s_no 64 0 E hc, hE i (by omega)]⟩
    rw [L_L_steps_36, brn_neg _ _ (by decide)]
    refine Eq.trans u1 ?_
    rw [L_L_steps_36, brn_pos _ _ (show bI (false || false) = 0 from rfl)]
  | succ r ih =>
    intro n f E a hn hf ha hL hG
    obtain ⟨f, rfl⟩ : ∃ g, f = g + 2 := ⟨f - 2, by omega⟩
    obtain ⟨a1, u1, u2⟩ := x_s45 hs hW hbl p0 (L_L_steps_36 p0 bl (f + 1)) 64 0 65 E a false (by omega) (by omega) ha hL
    have ok := s_ok hs hW 64 0 E (by omega) hL
    have got := s_got hs hW 64 0 E (by omega) hL
    rw [L_L_steps_36, brn_neg _ _ (by decide)]
    cases hc : sC blk 64 0 E with
    | false =>
      rw [hc] at u1
      have e := s_no 64 0 E hc
      rw [e] at got u2
      have down : ∀ (k : Nat) (c : Nat), c < 64 → D c = k → E c ≤ k := by
        intro k
        induction k with
        | zero =>
          intro c hc2 h
          rw [hG c hc2 (by omega) (by omega)]
          omega
        | succ k ihk =>
          intro c hc2 h
          obtain ⟨h1, d, h2, h3, h4⟩ := hW.2.2.2.1 c hc2 (by omega)
          have a1 := ihk d h2 (by omega)
          have a2 := got c (by omega) (by omega) h1 d h2 (by rw [far_sym]; exact h3)
          omega
      refine ⟨a1, ?_, fun i hi => ?_⟩
      · refine Eq.trans u1 ?_
        rw [L_L_steps_36, brn_pos _ _ (show bI (false || false) = 0 from rfl)]
      · rw [u2 i hi]
        have h1 := hW.2.1 i (by omega)
        have h3 := hL i (by omega)
        refine congrArg I ?_
        unfold RW at h3 ⊢
        by_cases z : D i = -1
        · rw [if_pos z] at h3 ⊢; omega
        · rw [if_neg z] at h3 ⊢
          have := down (D i).toNat i (by omega) (by omega)
          omega
    | true =>
      rw [hc] at u1
      obtain ⟨a2, w1, w2⟩ := ih (n + 1) (f + 1) (sS blk 64 0 E) a1 (by omega) (by omega) u2 ok.1 (fun c hc2 q1 q2 => by
        have low := (ok.1 c hc2).1
        rw [show RW D c = D c from if_neg (by omega)] at low
        by_cases e : D c ≤ n
        · have g := hG c hc2 q1 e
          have := ok.2 c
          omega
        · obtain ⟨h1, d, h2, h3, h4⟩ := hW.2.2.2.1 c hc2 (by omega)
          have g := hG d h2 (by omega) (by omega)
          have := got c (by omega) (by omega) h1 d h2 (by rw [far_sym]; exact h3)
          omega)
      exact ⟨a2, Eq.trans u1 w1, w2⟩
theorem st_ok {bl : Nat → Int32} (hs : s < 64) (hW : WY blk s D) (hbl : ∀ c : Nat, c < 64 → bl c = bI (blk c)) : ∃ a, F_L_steps (I s) bl = some a ∧ AR a (RW D) 64 := by
  obtain ⟨a, e1, e2⟩ := st_7 bl hs
  have ha : AR a (fun c => if c = s then 0 else 1000) 64 := fun i hi => e2 i (by omega)
  obtain ⟨a', w1, w2⟩ := x_s36 hs hW hbl (I s) 64 0 66 (fun c => if c = s then 0 else 1000) a (by omega) (by omega) ha (fun c hc => by
    have g := rw_in hs hW hc
    show RW D c ≤ (if c = s then 0 else 1000) ∧ (if c = s then (0 : Int) else 1000) ≤ 1000
    by_cases e : c = s
    · rw [if_pos e]
      have : RW D c = 0 := by
        rw [e]
        unfold RW
        rw [hW.1]
        rfl
      omega
    · rw [if_neg e]
      omega) (fun c hc q1 q2 => by
    have e : c = s := hW.2.2.1 c hc (by omega)
    show (if c = s then (0 : Int) else 1000) = D c
    rw [if_pos e, e, hW.1])
  exact ⟨a', by rw [e1]; exact w1, w2⟩
end ST36
