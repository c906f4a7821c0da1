/-! ===== one order, done by both ===== -/
abbrev Tup : Type := Int32 × Int32 × Int32 × Int32 × Int32 × Int32 × Int32 × (Nat → Int32) × (Nat → Int32) × (Nat → Int32) × (Nat → Int32) × (Nat → Int32) × Int32 × (Nat → Int32) × (Nat → Int32) × (Nat → Int32) × Int32 × (Nat → Int32) × (Nat → Int32) × (Nat → Int32) × (Nat → Int32)
def tupT (v : TVal) : Tup := (v.1 0, v.1 1, v.1 2, v.1 3, v.1 4, v.1 5, v.1 6, v.2 0, v.2 1, v.2 2, v.2 3, v.2 4, v.1 7, v.2 5, v.2 6, v.2 7, v.1 8, v.2 8, v.2 9, v.2 10, v.2 11)
def JOv (k a b c : Int32) (v : TVal) (rn rd : Int32) : Option (Int32 × Int32 × Int32) := F_X11_judgeOrder k a b c (v.1 2) (v.1 6) (v.2 0) (v.1 7) (v.2 5) (v.2 6) (v.2 7) (v.1 8) (v.2 8) (v.2 9) (v.2 10) (v.2 11) rn rd
def DOv (k a b c : Int32) (v : TVal) : Option Tup := F_X11_doOrder k a b c (v.1 0) (v.1 1) (v.1 2) (v.1 3) (v.1 4) (v.1 5) (v.1 6) (v.2 0) (v.2 1) (v.2 2) (v.2 3) (v.2 4) (v.1 7) (v.2 5) (v.2 6) (v.2 7) (v.1 8) (v.2 8) (v.2 9) (v.2 10) (v.2 11)
/-- done by both, or refused by both -/
def OS (b : Int) (τ : Nat → Int) (jo : Option (Int32 × Int32 × Int32)) (dd : Option Tup) (ref : Option (Int32 × Int32 × Int32 × Int32 × (Nat → Int32))) : Prop :=
  ∃ (cc t : Int) (rn rd mr md mi : Int32) (s : Nat → Int), jo = some (I cc, rn, rd) ∧ ref = some (I t, mr, md, mi, J s) ∧ RQ rn rd mr md ∧ ((cc = 0 ∧ t = 0 ∧ ∃ v, dd = some (tupT v) ∧ WF (b + 12) s ∧ TR s v) ∨ (1 ≤ cc ∧ cc ≤ 3 ∧ 0 < t ∧ t < 100 ∧ s = τ ∧ (cc = 3 ∧ mi = 1 ∨ cc ≠ 3 ∧ mi = 0)))
section DOE
variable {b : Int} {τ : Nat → Int} {v : TVal} {rn rd mr md : Int32}
theorem OS_j {cs : List (Int × Int)} {jo : Option (Int32 × Int32 × Int32)} {dd : Option Tup} {r : Option (Int32 × Int32 × Int32 × Int32 × Int32 × (Nat → Int32))} (hc : ∀ c t, (c, t) ∈ cs → 1 ≤ c ∧ c ≤ 3 ∧ 0 < t ∧ t < 100) (h : JB cs 0 τ jo r) : OS b τ (bnd jo (fun o2 => some (o2.1, o2.2.1, o2.2.2))) dd (bnd r (fun o8 => some (o8.2.1, o8.2.2.1, o8.2.2.2.1, o8.2.2.2.2.1, o8.2.2.2.2.2))) := by
  obtain ⟨c, t, rn, rd, mr, md, mi, h1, rfl, rfl, h2, h3⟩ := h
  have := hc c t h1
  exact ⟨c, t, rn, rd, mr, md, mi, τ, rfl, rfl, h2, Or.inr ⟨this.1, this.2.1, this.2.2.1, this.2.2.2, rfl, h3⟩⟩
theorem cs_2 : ∀ c t : Int, (c, t) ∈ [((2 : Int), (1 : Int)), (3, 2)] → 1 ≤ c ∧ c ≤ 3 ∧ 0 < t ∧ t < 100 := by
  intro c t h
  have : (c = 2 ∧ t = 1) ∨ (c = 3 ∧ t = 2) := by simpa using h
  omega
theorem cs_3 : ∀ c t : Int, (c, t) ∈ [((1 : Int), (1 : Int)), (2, 2), (3, 3)] → 1 ≤ c ∧ c ≤ 3 ∧ 0 < t ∧ t < 100 := by
  intro c t h
  have : (c = 1 ∧ t = 1) ∨ (c = 2 ∧ t = 2) ∨ (c = 3 ∧ t = 3) := by simpa using h
  omega
theorem os_h (h : WF b τ) (hb0 : 0 ≤ b) (T : TR τ v) (hq : RQ rn rd mr md) (a f g : Int32) : OS b τ (JOv 0 a f g v rn rd) (DOv 0 a f g v) (bnd (F_X12_doHouse a f g 0 mr md 0 (J τ)) (fun o8 => some (o8.2.1, o8.2.2.1, o8.2.2.2.1, o8.2.2.2.2.1, o8.2.2.2.2.2))) := by
  obtain ⟨a, ha, rfl⟩ := I_ex a
  obtain ⟨f, hf, rfl⟩ := I_ex f
  obtain ⟨g, hg, rfl⟩ := I_ex g
  have h6 : v.1 6 = I (τ 2) := T.1.2.2.2.2.2.2.1
  unfold JOv DOv F_X11_judgeOrder F_X11_doOrder
  rw [brn_pos _ _ (show (0 : Int32) = 0 from rfl), brn_pos _ _ (show (0 : Int32) = 0 from rfl), h6]
  rcases j_house h T ha hf hg hq 0 with hj | ⟨e1, g1, g2, g3, g4, g5, g6⟩
  · exact OS_j cs_2 hj
  · obtain ⟨w1, w2⟩ := d_house_w h hb0 T g1 g2 g3 g5 g6
    rw [e1, d_house_m h g1 g2 g3 g4 g5 g6, d_house_x h _ _ _ _ _ g6, bnd_some, bnd_some, bnd_some]
    refine ⟨0, 0, rn, rd, mr, md, 0, _, rfl, rfl, hq, Or.inl ⟨rfl, rfl, _, ?_, w1.mono (by omega), w2⟩⟩
    rfl
theorem os_b (h : WF b τ) (T : TR τ v) (hq : RQ rn rd mr md) (a f g : Int32) : OS b τ (JOv 1 a f g v rn rd) (DOv 1 a f g v) (bnd (F_X12_doBlock a 0 mr md 0 (J τ)) (fun o8 => some (o8.2.1, o8.2.2.1, o8.2.2.2.1, o8.2.2.2.2.1, o8.2.2.2.2.2))) := by
  obtain ⟨a, ha, rfl⟩ := I_ex a
  have h6 : v.1 6 = I (τ 2) := T.1.2.2.2.2.2.2.1
  have n0 : ¬ (1 : Int32) = 0 := by decide
  unfold JOv DOv F_X11_judgeOrder F_X11_doOrder
  rw [brn_neg _ _ n0, brn_pos _ _ (show (1 : Int32) = 1 from rfl), brn_neg _ _ n0, brn_pos _ _ (show (1 : Int32) = 1 from rfl)]
  rcases j_block h T ha hq 0 with hj | ⟨e1, g1, g5⟩
  · rw [h6]
    exact OS_j cs_2 hj
  · obtain ⟨w1, w2⟩ := d_block_w h T g1
    rw [show F_X9_judgeBlock (I a) (v.1 6) (v.2 0) rn rd = some (I 0, rn, rd) by rw [h6]; exact e1, d_block_m h g1 g5, d_block_x h T g1, bnd_some, bnd_some, bnd_some]
    refine ⟨0, 0, rn, rd, mr, md, 0, _, rfl, rfl, hq, Or.inl ⟨rfl, rfl, _, ?_, w1.mono (by omega), w2⟩⟩
    rfl
theorem os_e (h : WF b τ) (T : TR τ v) (hq : RQ rn rd mr md) (a f g : Int32) : OS b τ (JOv 2 a f g v rn rd) (DOv 2 a f g v) (bnd (F_X12_doHall a f g 0 mr md 0 (J τ)) (fun o8 => some (o8.2.1, o8.2.2.1, o8.2.2.2.1, o8.2.2.2.2.1, o8.2.2.2.2.2))) := by
  obtain ⟨a, ha, rfl⟩ := I_ex a
  obtain ⟨f, hf, rfl⟩ := I_ex f
  obtain ⟨g, hg, rfl⟩ := I_ex g
  have h7 : v.1 7 = I (τ 3) := T.1.2.2.2.2.2.2.2.1
  unfold JOv DOv F_X11_judgeOrder F_X11_doOrder
  rw [brn_neg _ _ (show ¬ (2 : Int32) = 0 by decide), brn_neg _ _ (show ¬ (2 : Int32) = 1 by decide), brn_pos _ _ (show (2 : Int32) = 2 from rfl), brn_neg _ _ (show ¬ (2 : Int32) = 0 by decide), brn_neg _ _ (show ¬ (2 : Int32) = 1 by decide), brn_pos _ _ (show (2 : Int32) = 2 from rfl), h7]
  rcases j_hall h T ha hf hg hq 0 with hj | ⟨e1, em, g1, g2, g5, g6⟩
  · exact OS_j cs_2 hj
  · obtain ⟨w1, w2⟩ := d_hall_w h T g1 g2 g5 g6
    rw [e1, em, d_hall_x h _ _ _ g6, bnd_some, bnd_some, bnd_some]
    refine ⟨0, 0, rn, rd, mr, md, 0, _, rfl, rfl, hq, Or.inl ⟨rfl, rfl, _, ?_, w1.mono (by omega), w2⟩⟩
    rfl
theorem os_p (h : WF b τ) (T : TR τ v) (hq : RQ rn rd mr md) (a f g : Int32) : OS b τ (JOv 4 a f g v rn rd) (DOv 4 a f g v) (bnd (F_X12_doPost a 0 mr md 0 (J τ)) (fun o8 => some (o8.2.1, o8.2.2.1, o8.2.2.2.1, o8.2.2.2.2.1, o8.2.2.2.2.2))) := by
  obtain ⟨a, ha, rfl⟩ := I_ex a
  have h8 : v.1 8 = I (τ 4) := T.1.2.2.2.2.2.2.2.2
  unfold JOv DOv F_X11_judgeOrder F_X11_doOrder
  rw [brn_neg _ _ (show ¬ (4 : Int32) = 0 by decide), brn_neg _ _ (show ¬ (4 : Int32) = 1 by decide), brn_neg _ _ (show ¬ (4 : Int32) = 2 by decide), brn_neg _ _ (show ¬ (4 : Int32) = 3 by decide), brn_pos _ _ (show (4 : Int32) = 4 from rfl), brn_neg _ _ (show ¬ (4 : Int32) = 0 by decide), brn_neg _ _ (show ¬ (4 : Int32) = 1 by decide), brn_neg _ _ (show ¬ (4 : Int32) = 2 by decide), brn_neg _ _ (show ¬ (4 : Int32) = 3 by decide), brn_pos _ _ (show (4 : Int32) = 4 from rfl), h8]
  rcases j_post h T ha hq 0 with hj | ⟨e1, g1, g4, g5, g6⟩
  · exact OS_j cs_2 hj
  · obtain ⟨w1, w2⟩ := d_post_w h T g1 g5 g6
    rw [e1, d_post_m h g1 g4 g5 g6, d_post_x h _ _ g6, bnd_some, bnd_some, bnd_some]
    refine ⟨0, 0, rn, rd, mr, md, 0, _, rfl, rfl, hq, Or.inl ⟨rfl, rfl, _, ?_, w1.mono (by omega), w2⟩⟩
    rfl
theorem os_t (h : WF b τ) (T : TR τ v) (hq : RQ rn rd mr md) (a f g : Int32) : OS b τ (JOv 5 a f g v rn rd) (DOv 5 a f g v) (bnd (F_X12_doTell a f 0 mr md 0 (J τ)) (fun o8 => some (o8.2.1, o8.2.2.1, o8.2.2.2.1, o8.2.2.2.2.1, o8.2.2.2.2.2))) := by
  obtain ⟨a, ha, rfl⟩ := I_ex a
  obtain ⟨f, hf, rfl⟩ := I_ex f
  have h2 : v.1 2 = I (τ 8 - 1) := T.1.2.2.1
  have h8 : v.1 8 = I (τ 4) := T.1.2.2.2.2.2.2.2.2
  have hq4 := h.q
  unfold JOv DOv F_X11_judgeOrder F_X11_doOrder
  rw [brn_neg _ _ (show ¬ (5 : Int32) = 0 by decide), brn_neg _ _ (show ¬ (5 : Int32) = 1 by decide), brn_neg _ _ (show ¬ (5 : Int32) = 2 by decide), brn_neg _ _ (show ¬ (5 : Int32) = 3 by decide), brn_neg _ _ (show ¬ (5 : Int32) = 4 by decide), brn_pos _ _ (show (5 : Int32) = 5 from rfl), brn_neg _ _ (show ¬ (5 : Int32) = 0 by decide), brn_neg _ _ (show ¬ (5 : Int32) = 1 by decide), brn_neg _ _ (show ¬ (5 : Int32) = 2 by decide), brn_neg _ _ (show ¬ (5 : Int32) = 3 by decide), brn_neg _ _ (show ¬ (5 : Int32) = 4 by decide), brn_pos _ _ (show (5 : Int32) = 5 from rfl)]
  rcases j_tell h T ha hf hq 0 with hj | ⟨e1, g1, g2, em⟩
  · rw [h2, h8]
    exact OS_j cs_3 hj
  · obtain ⟨p, rfl⟩ := Int.eq_ofNat_of_zero_le g1.1
    obtain ⟨w1, w2⟩ := d_tell_w h T g1.2 g2
    rw [show F_X9_judgeTell (I p) (I f) (v.1 2) (v.1 8) (v.2 9) (v.2 11) rn rd = some (I 0, rn, rd) by rw [h2, h8]; exact e1, em, d_tell_x g1.2 hq4.2, bnd_some, bnd_some, bnd_some]
    refine ⟨0, 0, rn, rd, mr, md, 0, _, rfl, rfl, hq, Or.inl ⟨rfl, rfl, _, ?_, w1.mono (by omega), w2⟩⟩
    rfl
theorem os_r (h : WF b τ) (hb0 : 0 ≤ b) (hb : b < 900000) (T : TR τ v) (hq : RQ rn rd mr md) (a f g : Int32) : OS b τ (JOv 3 a f g v rn rd) (DOv 3 a f g v) (bnd (F_X12_doRing a f g 0 (J τ)) (fun o14 => some (o14.2.1, mr, md, 0, o14.2.2))) := by
  obtain ⟨a, ha, rfl⟩ := I_ex a
  obtain ⟨s, hs1, rfl⟩ := I_ex f
  obtain ⟨l, hl, rfl⟩ := I_ex g
  have hn := h.n
  have h6 : v.1 6 = I (τ 2) := T.1.2.2.2.2.2.2.1
  unfold JOv DOv F_X11_judgeOrder F_X11_doOrder
  rw [brn_neg _ _ (show ¬ (3 : Int32) = 0 by decide), brn_neg _ _ (show ¬ (3 : Int32) = 1 by decide), brn_neg _ _ (show ¬ (3 : Int32) = 2 by decide), brn_pos _ _ (show (3 : Int32) = 3 from rfl), brn_neg _ _ (show ¬ (3 : Int32) = 0 by decide), brn_neg _ _ (show ¬ (3 : Int32) = 1 by decide), brn_neg _ _ (show ¬ (3 : Int32) = 2 by decide), brn_pos _ _ (show (3 : Int32) = 3 from rfl)]
  by_cases e1 : 0 ≤ a ∧ a < τ 2
  · by_cases e2 : (0 ≤ s ∧ s ≤ 9) ∧ (0 ≤ l ∧ l ≤ 9) ∧ 0 < s + l
    · obtain ⟨i, rfl⟩ := Int.eq_ofNat_of_zero_le e1.1
      obtain ⟨τ2, z, j2, j3, j4, j5, u3, u4, u9, u11, r1, r2, w1, w2⟩ := d_ring h T e1.2 e2.1.1 e2.1.2 e2.2.1.1 e2.2.1.2 e2.2.2 hb0 hb
      rw [show F_X9_judgeRing (I i) (I s) (I l) (v.1 6) = some (I 0) by rw [h6]; exact x_judge_0 ha (by omega) hs1 hl e1 e2, r1, r2, bnd_some, bnd_some, bnd_some]
      refine ⟨0, 0, rn, rd, mr, md, 0, _, rfl, rfl, hq, Or.inl ⟨rfl, rfl, _, ?_, w1, w2⟩⟩
      rfl
    · have q3 : F_X12_doRing (I a) (I s) (I l) 0 (J τ) = some (0, I 2, J τ) := by
        unfold F_X12_doRing J_X12_doRing_16 J_X12_doRing_30
        rw [m_isHouse_p h ha e1, bnd_some, brn_neg _ _ (by decide), m_tone_n hs1 hl e2, bnd_some, brn_pos _ _ (by decide), bnd_some, brn_neg _ _ (by decide)]
        rfl
      rw [show F_X9_judgeRing (I a) (I s) (I l) (v.1 6) = some (I 2) by rw [h6]; exact x_judge_2 ha (by omega) hs1 hl e1 e2, q3, bnd_some, bnd_some]
      exact ⟨2, 2, rn, rd, mr, md, 0, τ, rfl, rfl, hq, Or.inr ⟨by omega, by omega, by omega, by omega, rfl, Or.inr ⟨by omega, rfl⟩⟩⟩
  · have q3 : F_X12_doRing (I a) (I s) (I l) 0 (J τ) = some (0, I 1, J τ) := by
      unfold F_X12_doRing J_X12_doRing_16 J_X12_doRing_30
      rw [m_isHouse_n h ha e1, bnd_some, brn_pos _ _ (by decide), bnd_some, brn_pos _ _ (by decide)]
      rfl
    rw [show F_X9_judgeRing (I a) (I s) (I l) (v.1 6) = some (I 1) by rw [h6]; exact x_judge_1 (x := 0) (y := 0) ha (by omega) e1 _ _, q3, bnd_some, bnd_some]
    exact ⟨1, 1, rn, rd, mr, md, 0, τ, rfl, rfl, hq, Or.inr ⟨by omega, by omega, by omega, by omega, rfl, Or.inr ⟨by omega, rfl⟩⟩⟩
theorem os_w (h : WF b τ) (hb0 : 0 ≤ b) (hb : b < 900000) (T : TR τ v) (hq : RQ rn rd mr md) (a f g : Int32) : OS b τ (JOv 6 a f g v rn rd) (DOv 6 a f g v) (bnd (F_X12_doPass a 0 (J τ)) (fun o14 => some (o14.2.1, mr, md, 0, o14.2.2))) := by
  obtain ⟨a, ha, rfl⟩ := I_ex a
  have h0 : v.1 0 = I (τ 0) := T.1.1
  have h1 : v.1 1 = I (τ 1) := T.1.2.1
  unfold JOv DOv F_X11_judgeOrder F_X11_doOrder F_X9_judgeHours
  rw [brn_neg _ _ (show ¬ (6 : Int32) = 0 by decide), brn_neg _ _ (show ¬ (6 : Int32) = 1 by decide), brn_neg _ _ (show ¬ (6 : Int32) = 2 by decide), brn_neg _ _ (show ¬ (6 : Int32) = 3 by decide), brn_neg _ _ (show ¬ (6 : Int32) = 4 by decide), brn_neg _ _ (show ¬ (6 : Int32) = 5 by decide), brn_neg _ _ (show ¬ (6 : Int32) = 0 by decide), brn_neg _ _ (show ¬ (6 : Int32) = 1 by decide), brn_neg _ _ (show ¬ (6 : Int32) = 2 by decide), brn_neg _ _ (show ¬ (6 : Int32) = 3 by decide), brn_neg _ _ (show ¬ (6 : Int32) = 4 by decide), brn_neg _ _ (show ¬ (6 : Int32) = 5 by decide)]
  by_cases e1 : 1 ≤ a ∧ a ≤ 99
  · have k1 : F_X11_isWithin (I a) 1 99 = some (I 1) := by
      rw [lit_1, lit_99]
      exact I_in ha (by omega) (by omega) e1
    obtain ⟨w1, w2⟩ := d_pass_w h hb0 (by omega) T e1
    rw [k1, bnd_some, brn_neg _ _ (show ¬ I 1 = 0 by decide), bnd_some, show F_X9_letPass (I a) (v.1 0) (v.1 1) = some (I ((τ 0 + a) % 24), I ((τ 0 + a) % 24), I (τ 1 + (τ 0 + a) / 24)) by rw [h0, h1]; exact d_pass_x h (by omega) e1, d_pass_m h (by omega) e1, bnd_some, bnd_some]
    refine ⟨0, 0, rn, rd, mr, md, 0, _, rfl, rfl, hq, Or.inl ⟨rfl, rfl, _, ?_, w1.mono (by omega), w2⟩⟩
    rfl
  · have k1 : F_X11_isWithin (I a) 1 99 = some (I 0) := by
      rw [lit_1, lit_99]
      exact I_out ha (by omega) (by omega) e1
    have q3 : F_X12_doPass (I a) 0 (J τ) = some (0, I 1, J τ) := by
      have k2 : F_X12_in (I a) 1 99 = some (I 0) := by
        rw [lit_1, lit_99]
        exact I_mout ha (by omega) (by omega) e1
      unfold F_X12_doPass
      rw [k2, bnd_some, brn_pos _ _ (by decide)]
      rfl
    rw [k1, bnd_some, brn_pos _ _ (show I 0 = (0 : Int32) from rfl), bnd_some, q3, bnd_some]
    exact ⟨2, 1, rn, rd, mr, md, 0, τ, rfl, rfl, hq, Or.inr ⟨by omega, by omega, by omega, by omega, rfl, Or.inr ⟨by omega, rfl⟩⟩⟩
/-- order j, whatever it is -/
theorem os_all (h : WF b τ) (hb0 : 0 ≤ b) (hb : b < 900000) (T : TR τ v) (hq : RQ rn rd mr md) {K N O : Nat → Int32} {j : Nat} (hj : j < 60) (ok : OKo K N O j) : OS b τ (JOv (K j) (N (3 * j)) (N (3 * j + 1)) (N (3 * j + 2)) v rn rd) (DOv (K j) (N (3 * j)) (N (3 * j + 1)) (N (3 * j + 2)) v) (F_X12_does (I j) O 0 mr md 0 (J τ)) := by
  obtain ⟨⟨i0, i1, i2, i3⟩, e0, e1, e2, e3⟩ := ord_ix hj
  obtain ⟨k, k1, k2, k3, k4⟩ := ok
  have nu0 : 0 < arK k → O (4 * j + 1) = N (3 * j) := fun q => (k4 0 q).symm
  have nu1 : 1 < arK k → O (4 * j + 2) = N (3 * j + 1) := fun q => (k4 1 q).symm
  have nu2 : 2 < arK k → O (4 * j + 3) = N (3 * j + 2) := fun q => (k4 2 q).symm
  rw [k2]
  unfold F_X12_does
  rw [grd_pos _ i1, grd_pos _ i2, grd_pos _ i3, grd_pos _ i0]
  have L : ∀ z : Int32, I (ltK k) = z → O ((4 : Int32) * I (j : Int)).toNatClampNeg = z := fun z hz => by rw [e0, k3, hz]
  have ne : ∀ (z w : Int32), I (ltK k) = z → ¬ z = w → ¬ O ((4 : Int32) * I (j : Int)).toNatClampNeg = w := fun z w hz hw => by rw [L z hz]; exact hw
  rcases (show k = 0 ∨ k = 1 ∨ k = 2 ∨ k = 3 ∨ k = 4 ∨ k = 5 ∨ k = 6 by omega) with rfl | rfl | rfl | rfl | rfl | rfl | rfl
  · rw [brn_neg _ _ (ne 104 98 (by decide) (by decide)), brn_neg _ _ (ne 104 101 (by decide) (by decide)), brn_pos _ _ (L 104 (by decide)), e1, e2, e3, nu0 (by decide), nu1 (by decide), nu2 (by decide)]
    exact os_h h hb0 T hq _ _ _
  · rw [brn_pos _ _ (L 98 (by decide)), e1, nu0 (by decide)]
    exact os_b h T hq _ _ _
  · rw [brn_neg _ _ (ne 101 98 (by decide) (by decide)), brn_pos _ _ (L 101 (by decide)), e1, e2, e3, nu0 (by decide), nu1 (by decide), nu2 (by decide)]
    exact os_e h T hq _ _ _
  · rw [brn_neg _ _ (ne 114 98 (by decide) (by decide)), brn_neg _ _ (ne 114 101 (by decide) (by decide)), brn_neg _ _ (ne 114 104 (by decide) (by decide)), brn_neg _ _ (ne 114 112 (by decide) (by decide)), brn_pos _ _ (L 114 (by decide)), e1, e2, e3, nu0 (by decide), nu1 (by decide), nu2 (by decide)]
    exact os_r h hb0 hb T hq _ _ _
  · rw [brn_neg _ _ (ne 112 98 (by decide) (by decide)), brn_neg _ _ (ne 112 101 (by decide) (by decide)), brn_neg _ _ (ne 112 104 (by decide) (by decide)), brn_pos _ _ (L 112 (by decide)), e1, nu0 (by decide)]
    exact os_p h T hq _ _ _
  · rw [brn_neg _ _ (ne 116 98 (by decide) (by decide)), brn_neg _ _ (ne 116 101 (by decide) (by decide)), brn_neg _ _ (ne 116 104 (by decide) (by decide)), brn_neg _ _ (ne 116 112 (by decide) (by decide)), brn_neg _ _ (ne 116 114 (by decide) (by decide)), brn_pos _ _ (L 116 (by decide)), e1, e2, nu0 (by decide), nu1 (by decide)]
    exact os_t h T hq _ _ _
  · rw [brn_neg _ _ (ne 119 98 (by decide) (by decide)), brn_neg _ _ (ne 119 101 (by decide) (by decide)), brn_neg _ _ (ne 119 104 (by decide) (by decide)), brn_neg _ _ (ne 119 112 (by decide) (by decide)), brn_neg _ _ (ne 119 114 (by decide) (by decide)), brn_neg _ _ (ne 119 116 (by decide) (by decide)), e1, nu0 (by decide)]
    exact os_w h hb0 hb T hq _ _ _
end DOE
