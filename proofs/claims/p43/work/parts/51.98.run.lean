/-! ===== a whole text, carried out by both ===== -/
abbrev RunT : Type := Option (Nat × Int32 × Int32 × Int32 × Int32 × Int32 × Int32 × Int32 × Int32 × (Nat → Int32) × (Nat → Int32) × (Nat → Int32) × (Nat → Int32) × (Nat → Int32) × Int32 × (Nat → Int32) × (Nat → Int32) × (Nat → Int32) × Int32 × (Nat → Int32) × (Nat → Int32) × (Nat → Int32) × (Nat → Int32) × Int32 × Int32 × Int32 × Int32 × Int32 × Int32 × Int32 × (Nat → Int32) × (Nat → Int32) × (Nat → Int32) × (Nat → Int32) × (Nat → Int32) × Int32 × (Nat → Int32) × (Nat → Int32) × (Nat → Int32) × Int32 × (Nat → Int32) × (Nat → Int32) × (Nat → Int32) × (Nat → Int32) × Int32 × Int32 × (Nat → TVal) × Int32 × Int32 × Int32 × Int32 × Int32 × Int32 × (Nat → Int32) × (Nat → Int32))
def cpT (v w : TVal) : TVal := tvMk (v.1 0) (v.1 1) (v.1 2) (v.1 3) (v.1 4) (v.1 5) (v.1 6) (v.1 7) (v.1 8) (va_cpy (v.2 0) (w.2 0) 0 0 10) (va_cpy (v.2 1) (w.2 1) 0 0 10) (va_cpy (v.2 2) (w.2 2) 0 0 10) (va_cpy (v.2 3) (w.2 3) 0 0 10) (va_cpy (v.2 4) (w.2 4) 0 0 10) (va_cpy (v.2 5) (w.2 5) 0 0 4) (va_cpy (v.2 6) (w.2 6) 0 0 4) (va_cpy (v.2 7) (w.2 7) 0 0 4) (va_cpy (v.2 8) (w.2 8) 0 0 4) (va_cpy (v.2 9) (w.2 9) 0 0 4) (va_cpy (v.2 10) (w.2 10) 0 0 64) (va_cpy (v.2 11) (w.2 11) 0 0 4)
def LR (X : Nat → Int32) (f : Nat) (x1 x2 : Int32) (v w : TVal) (ps pn : Int32) (pool : Nat → TVal) (rn rd sz ct pl er : Int32) (K N : Nat → Int32) : RunT := L_X11_run_36 X f x1 x2 (v.1 0) (v.1 1) (v.1 2) (v.1 3) (v.1 4) (v.1 5) (v.1 6) (v.2 0) (v.2 1) (v.2 2) (v.2 3) (v.2 4) (v.1 7) (v.2 5) (v.2 6) (v.2 7) (v.1 8) (v.2 8) (v.2 9) (v.2 10) (v.2 11) (w.1 0) (w.1 1) (w.1 2) (w.1 3) (w.1 4) (w.1 5) (w.1 6) (w.2 0) (w.2 1) (w.2 2) (w.2 3) (w.2 4) (w.1 7) (w.2 5) (w.2 6) (w.2 7) (w.1 8) (w.2 8) (w.2 9) (w.2 10) (w.2 11) ps pn pool rn rd sz ct pl er K N
def JR (X : Nat → Int32) (x1 : Int32) (v w : TVal) (ps pn : Int32) (pool : Nat → TVal) (rn rd sz ct pl er : Int32) (K N : Nat → Int32) : RunT := J_X11_run_128 X x1 (v.1 0) (v.1 1) (v.1 2) (v.1 3) (v.1 4) (v.1 5) (v.1 6) (v.2 0) (v.2 1) (v.2 2) (v.2 3) (v.2 4) (v.1 7) (v.2 5) (v.2 6) (v.2 7) (v.1 8) (v.2 8) (v.2 9) (v.2 10) (v.2 11) (w.1 0) (w.1 1) (w.1 2) (w.1 3) (w.1 4) (w.1 5) (w.1 6) (w.2 0) (w.2 1) (w.2 2) (w.2 3) (w.2 4) (w.1 7) (w.2 5) (w.2 6) (w.2 7) (w.1 8) (w.2 8) (w.2 9) (w.2 10) (w.2 11) ps pn pool rn rd sz ct pl er K N
def JS (X : Nat → Int32) (x1 : Int32) (v w : TVal) (ps pn : Int32) (pool : Nat → TVal) (rn rd sz ct pl er : Int32) (K N : Nat → Int32) : RunT := J_X11_run_143 X x1 (v.1 0) (v.1 1) (v.1 2) (v.1 3) (v.1 4) (v.1 5) (v.1 6) (v.2 0) (v.2 1) (v.2 2) (v.2 3) (v.2 4) (v.1 7) (v.2 5) (v.2 6) (v.2 7) (v.1 8) (v.2 8) (v.2 9) (v.2 10) (v.2 11) (w.1 0) (w.1 1) (w.1 2) (w.1 3) (w.1 4) (w.1 5) (w.1 6) (w.2 0) (w.2 1) (w.2 2) (w.2 3) (w.2 4) (w.1 7) (w.2 5) (w.2 6) (w.2 7) (w.1 8) (w.2 8) (w.2 9) (w.2 10) (w.2 11) ps pn pool rn rd sz ct pl er K N
def RU (k : Nat) (a : Int32) (v w : TVal) (ps pn : Int32) (pool : Nat → TVal) (rn rd sz ct pl er : Int32) (K N : Nat → Int32) : RunT := some (k, a, (v.1 0), (v.1 1), (v.1 2), (v.1 3), (v.1 4), (v.1 5), (v.1 6), (v.2 0), (v.2 1), (v.2 2), (v.2 3), (v.2 4), (v.1 7), (v.2 5), (v.2 6), (v.2 7), (v.1 8), (v.2 8), (v.2 9), (v.2 10), (v.2 11), (w.1 0), (w.1 1), (w.1 2), (w.1 3), (w.1 4), (w.1 5), (w.1 6), (w.2 0), (w.2 1), (w.2 2), (w.2 3), (w.2 4), (w.1 7), (w.2 5), (w.2 6), (w.2 7), (w.1 8), (w.2 8), (w.2 9), (w.2 10), (w.2 11), ps, pn, pool, rn, rd, sz, ct, pl, er, K, N)
abbrev MunT : Type := Option (Nat × Int32 × Int32 × Int32 × Int32 × Int32 × Int32 × Int32 × Int32 × Int32 × Int32 × Int32 × (Nat → Int32) × (Nat → Int32) × (Nat → Int32) × (Nat → Int32))
def RE (pm th rs dt rf at_ er om : Int32) (s bf past O : Nat → Int32) : MunT := bnd (F_X12_ends om th bf pm s past) (fun o10 => some (0, o10.1, o10.2.1, th, rs, dt, rf, 0, at_, 0, er, om, o10.2.2.1, bf, o10.2.2.2, O))
section RUN
variable {X Y K N O : Nat → Int32} {v w : TVal} {ps pn sz ct pl er rn rd : Int32} {pool : Nat → TVal}
theorem num_at {j m : Nat} (hj : j < 60) (hm : m < 3) : F_X3_numberAt (I j) (I m) N = some (N (3 * j + m)) := by
  unfold F_X3_numberAt
  have ei : 3 * I (j : Int) + I (m : Int) = I ((3 * j + m : Nat) : Int) := by
    rw [lit_3, I_mul, I_add]
    congr 1
  rw [ei, x_at0 (N := 180) (by decide) (by omega), bnd_some]
theorem kind_of {j : Nat} (hj : j < 60) : F_X3_kindAt (I j) K = some (K j) := by
  unfold F_X3_kindAt
  rw [x_at0 (N := 60) (by decide) hj, bnd_some]
theorem LR_off {f : Nat} {x1 x2 : Int32} (h : ct ≤ x2 ∨ ¬ x1 = 0) : LR X (f + 1) x1 x2 v w ps pn pool rn rd sz ct pl er K N = JR X x1 v w ps pn pool rn rd sz ct pl er K N := by
  unfold LR JR
  rw [L_X11_run_36]
  unfold F_X3_count
  rw [bnd_some]
  by_cases e : ct ≤ x2
  · rw [brn_pos _ _ e]
  · rw [brn_neg _ _ e]
    rcases h with h | h
    · exact absurd h e
    · rw [brn_neg _ _ h]
theorem LR_no {f j : Nat} {c rn2 rd2 : Int32} (hj : j < 60) (hl : ¬ ct ≤ I j) (hc : ¬ c = 0) (h : JOv (K j) (N (3 * j)) (N (3 * j + 1)) (N (3 * j + 2)) v rn rd = some (c, rn2, rd2)) : LR X (f + 1) 0 (I j) v w ps pn pool rn rd sz ct pl er K N = LR X f c (I j + 1) v w ps pn pool rn2 rd2 sz ct pl er K N := by
  unfold LR
  unfold JOv at h
  rw [L_X11_run_36]
  unfold F_X3_count
  rw [bnd_some, brn_neg _ _ hl, brn_pos _ _ (show (0 : Int32) = 0 from rfl), show F_X3_numberAt (I j) 0 N = _ from num_at (m := 0) hj (by omega), bnd_some, show F_X3_numberAt (I j) 1 N = _ from num_at (m := 1) hj (by omega), bnd_some, show F_X3_numberAt (I j) 2 N = _ from num_at (m := 2) hj (by omega), bnd_some, kind_of hj, bnd_some, Nat.add_zero, h, bnd_some]
  dsimp only
  rw [brn_neg _ _ hc]
theorem LR_go {f j : Nat} {rn2 rd2 : Int32} {v2 : TVal} (hj : j < 60) (hl : ¬ ct ≤ I j) (h : JOv (K j) (N (3 * j)) (N (3 * j + 1)) (N (3 * j + 2)) v rn rd = some (0, rn2, rd2)) (hd : DOv (K j) (N (3 * j)) (N (3 * j + 1)) (N (3 * j + 2)) v = some (tupT v2)) : LR X (f + 1) 0 (I j) v w ps pn pool rn rd sz ct pl er K N = LR X f 0 (I j + 1) v2 w ps pn pool rn2 rd2 sz ct pl er K N := by
  unfold LR
  unfold JOv at h
  unfold DOv at hd
  rw [L_X11_run_36]
  unfold F_X3_count
  rw [bnd_some, brn_neg _ _ hl, brn_pos _ _ (show (0 : Int32) = 0 from rfl), show F_X3_numberAt (I j) 0 N = _ from num_at (m := 0) hj (by omega), bnd_some, show F_X3_numberAt (I j) 1 N = _ from num_at (m := 1) hj (by omega), bnd_some, show F_X3_numberAt (I j) 2 N = _ from num_at (m := 2) hj (by omega), bnd_some, kind_of hj, bnd_some, Nat.add_zero, h, bnd_some]
  dsimp only
  rw [brn_pos _ _ (show (0 : Int32) = 0 from rfl), bnd_some, hd, bnd_some]
  rfl
theorem run_loop {c2 : Nat} (hc2 : c2 ≤ 20) (ok : ∀ j, j < c2 → OKo K N O j) (pm at_ er2 : Int32) (bf past : Nat → Int32) : ∀ (r j f f2 : Nat) (b : Int) (τ : Nat → Int) (v : TVal) (rn rd mr md mi : Int32), j + r = c2 → r + 1 < f → r < f2 → WF b τ → 0 ≤ b → b + 12 * r < 900000 → TR τ v → RQ rn rd mr md →
    ∃ (cc t : Int) (rn2 rd2 mr2 md2 mi2 : Int32) (τ2 : Nat → Int) (v2 : TVal), RQ rn2 rd2 mr2 md2 ∧ LR X f 0 (I j) v w ps pn pool rn rd sz (I c2) pl er K N = JR X (I cc) v2 w ps pn pool rn2 rd2 sz (I c2) pl er K N ∧
      ((cc = 0 ∧ WF (b + 12 * r) τ2 ∧ TR τ2 v2 ∧ L_X12_run_117 Y f2 (I j) pm 0 mr md mi 0 at_ 0 er2 (I c2) (J τ) bf past O = RE pm 0 mr2 md2 mi2 at_ er2 (I c2) (J τ2) bf past O) ∨
       (1 ≤ cc ∧ cc ≤ 3 ∧ 0 < t ∧ t < 100 ∧ L_X12_run_117 Y f2 (I j) pm 0 mr md mi 0 at_ 0 er2 (I c2) (J τ) bf past O = J_X12_run_155 Y (if cc = 3 then 2 else 1) pm (I t) mr2 md2 mi2 0 at_ 0 er2 (I c2) (J τ2) bf past O)) := by
  intro r
  induction r with
  | zero =>
    intro j f f2 b τ v rn rd mr md mi h1 h2 h3 hw h4 h5 T hq
    obtain ⟨f, rfl⟩ : ∃ g, f = g + 1 := ⟨f - 1, by omega⟩
    obtain ⟨f2, rfl⟩ : ∃ g, f2 = g + 1 := ⟨f2 - 1, by omega⟩
    obtain rfl : j = c2 := by omega
    have le : I (j : Int) ≤ I (j : Int) := by rw [I_le (by omega) (by omega) (by omega) (by omega)]; omega
    refine ⟨0, 0, rn, rd, mr, md, mi, τ, v, hq, LR_off (Or.inl le), Or.inl ⟨rfl, hw.mono (by omega), T, ?_⟩⟩
    rw [L_X12_run_117, brn_pos _ _ le]
    rfl
  | succ r ih =>
    intro j f f2 b τ v rn rd mr md mi h1 h2 h3 hw h4 h5 T hq
    obtain ⟨f, rfl⟩ : ∃ g, f = g + 1 := ⟨f - 1, by omega⟩
    obtain ⟨f2, rfl⟩ : ∃ g, f2 = g + 1 := ⟨f2 - 1, by omega⟩
    have hl : ¬ I (c2 : Int) ≤ I (j : Int) := by rw [I_le (by omega) (by omega) (by omega) (by omega)]; omega
    have kj : I (j : Int) + 1 = I ((j + 1 : Nat) : Int) := by rw [lit_1, I_add]; congr 1
    obtain ⟨cc, t, rn1, rd1, mr1, md1, mi1, s, g1, g2, g3, g4⟩ := os_all hw h4 (by omega) T hq (show j < 60 by omega) (ok j (by omega))
    rcases g4 with ⟨rfl, rfl, v1, d1, w1, t1⟩ | ⟨c1, c3, t1, t3, rfl, g5⟩
    · obtain ⟨cc2, t2, rn2, rd2, mr2, md2, mi2, τ2, v2, z1, z2, z3⟩ := ih (j + 1) f f2 (b + 12) s v1 rn1 rd1 mr1 md1 mi1 (by omega) (by omega) (by omega) w1 (by omega) (by omega) t1 g3
      have m1' : L_X12_run_117 Y (f2 + 1) (I j) pm 0 mr md mi 0 at_ 0 er2 (I c2) (J τ) bf past O = L_X12_run_117 Y f2 (I ((j + 1 : Nat) : Int)) pm 0 mr1 md1 mi1 0 at_ 0 er2 (I c2) (J s) bf past O := by
        rw [L_X12_run_117, brn_neg _ _ hl, g2, bnd_some]
        dsimp only
        rw [brn_pos _ _ (show I 0 ≤ (0 : Int32) by decide), kj]
        rfl
      refine ⟨cc2, t2, rn2, rd2, mr2, md2, mi2, τ2, v2, z1, ?_, ?_⟩
      · rw [LR_go (by omega) hl g1 d1, kj]
        exact z2
      · rw [m1']
        rcases z3 with ⟨y1, y2, y3, y4⟩ | ⟨y1, y2, y3, y4, y5⟩
        · exact Or.inl ⟨y1, y2.mono (by omega), y3, y4⟩
        · exact Or.inr ⟨y1, y2, y3, y4, y5⟩
    · have nc : ¬ I cc = 0 := by rw [lit_0, I_eq (by omega) (by omega) (by omega) (by omega)]; omega
      obtain ⟨f, rfl⟩ : ∃ g, f = g + 1 := ⟨f - 1, by omega⟩
      refine ⟨cc, t, rn1, rd1, mr1, md1, mi1, s, v, g3, ?_, Or.inr ⟨c1, c3, t1, t3, ?_⟩⟩
      · rw [LR_no (by omega) hl nc g1]
        exact LR_off (Or.inr nc)
      · rw [L_X12_run_117, brn_neg _ _ hl, g2, bnd_some]
        dsimp only
        rw [brn_neg _ _ (show ¬ I t ≤ (0 : Int32) by rw [lit_0, I_le (by omega) (by omega) (by omega) (by omega)]; omega)]
        rcases g5 with ⟨e, rfl⟩ | ⟨e, rfl⟩
        · rw [brn_neg _ _ (show ¬ (1 : Int32) = 0 by decide), if_pos e]
        · rw [brn_pos _ _ (show (0 : Int32) = 0 from rfl), if_neg e]
theorem JS_0 {σ : Nat → Int} {b : Int} {n e : Nat} {π : Nat → Int} (hw : WF b σ) (T : TR σ w) (hP : Pst b n e pool π) : ∃ pool2, JR X (I 0) v w (I n) (I e) pool rn rd sz ct pl er K N = RU 0 ct v w (I (if n = 8 then 8 else n + 1 : Nat)) (I ((e + 1) % 8 : Nat)) pool2 rn rd sz ct pl er K N ∧ Pst b (if n = 8 then 8 else n + 1) ((e + 1) % 8) pool2 (pushP n σ π) := by
  obtain ⟨pool2, q1, q2⟩ := x_push (show TR σ (tvMk (w.1 0) (w.1 1) (w.1 2) (w.1 3) (w.1 4) (w.1 5) (w.1 6) (w.1 7) (w.1 8) (w.2 0) (w.2 1) (w.2 2) (w.2 3) (w.2 4) (w.2 5) (w.2 6) (w.2 7) (w.2 8) (w.2 9) (w.2 10) (w.2 11)) from T) hw hP
  refine ⟨pool2, ?_, q2⟩
  unfold JR RU J_X11_run_128 J_X11_run_143 J_X11_run_153 F_X3_count
  rw [brn_pos _ _ (show I 0 = (0 : Int32) from rfl), brn_neg _ _ (show ¬ I 0 = (1 : Int32) by decide), show F_X11_demandProper 1 = some 0 from x_dPt, bnd_some, brn_pos _ _ (show (0 : Nat) = 0 from rfl), x_dFi0, bnd_some, brn_pos _ _ (show (0 : Nat) = 0 from rfl), q1, bnd_some, bnd_some]
theorem JS_n {cc : Int} (h1 : 1 ≤ cc) (h2 : cc ≤ 3) : JR X (I cc) v w ps pn pool rn rd sz ct pl er K N = RU (if cc = 3 then 3 else 2) 0 (cpT w v) w ps pn pool rn rd sz ct pl er K N := by
  have nc : ¬ I cc = 0 := by rw [lit_0, I_eq (by omega) (by omega) (by omega) (by omega)]; omega
  unfold JR RU J_X11_run_128
  rw [brn_neg _ _ nc, x_take9, bnd_some]
  unfold J_X11_run_143 J_X11_run_153
  rcases (show cc = 1 ∨ cc = 2 ∨ cc = 3 by omega) with rfl | rfl | rfl
  · rw [brn_pos _ _ (show I 1 = (1 : Int32) by decide), show F_X11_demandProper 0 = some 2 from x_dPf, bnd_some, brn_neg _ _ (show ¬ (2 : Nat) = 0 by decide), if_neg (by decide)]
    rfl
  · rw [brn_neg _ _ (show ¬ I 2 = (1 : Int32) by decide), show F_X11_demandProper 1 = some 0 from x_dPt, bnd_some, brn_pos _ _ (show (0 : Nat) = 0 from rfl), x_dFi2, bnd_some, brn_neg _ _ (show ¬ (2 : Nat) = 0 by decide), if_neg (by decide)]
    rfl
  · rw [brn_neg _ _ (show ¬ I 3 = (1 : Int32) by decide), show F_X11_demandProper 1 = some 0 from x_dPt, bnd_some, brn_pos _ _ (show (0 : Nat) = 0 from rfl), x_dFi3, bnd_some, brn_neg _ _ (show ¬ (3 : Nat) = 0 by decide), if_pos rfl]
    rfl
end RUN
