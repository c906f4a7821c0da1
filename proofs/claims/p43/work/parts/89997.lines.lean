/-! ===== lines ===== -/
theorem dg_I {z : Int} (h1 : 0 ≤ z) (h2 : z ≤ 99) : isDg (I z) := by
  have e : (I z).toNatClampNeg = z.toNat := I_cl (by omega) (by omega)
  refine ⟨?_, by rw [e]; omega⟩
  rw [e, ← nI_I]
  congr 1
  omega
section SPL
variable {b : Int} {σ π : Nat → Int} {n e : Nat} {x : XVal} {y : MVal}
theorem spl_ok {l : List Int32} (hl : l.length ≤ 20) (hA : ∀ z ∈ l, asc z) (h38 : x.1 38 = I (l.length : Int)) (h43 : ∀ i : Nat, i < l.length → x.2.1 43 i = l.getD i 0) : F_L_spells l.length (tFn l) (I (l.length : Int)) x = some (1 : Int32) := by
  have go : ∀ r k f : Nat, k + r = l.length → r < f → L_L_spells_17 l.length (tFn l) (I (l.length : Int)) x f (1 : Int32) (I k) = some (1 : Int32) := by
    intro r
    induction r with
    | zero =>
      intro k f hk hf
      obtain ⟨f, rfl⟩ : ∃ g, f = g + 1 := ⟨f - 1, by omega⟩
      rw [L_L_spells_17, oN, brn_pos _ _ (by rw [I_le (by omega) (by omega) (by omega) (by omega)]; omega)]
      unfold J_L_spells_57
      rw [brn_neg _ _ (by decide), l_charE hl h38, bnd_some, brn_pos _ _ rfl]
    | succ r ih =>
      intro k f hk hf
      obtain ⟨f, rfl⟩ : ∃ g, f = g + 1 := ⟨f - 1, by omega⟩
      have ecl : (I (k : Int)).toNatClampNeg = k := by rw [I_cl (by omega) (by omega)]; omega
      have em : l.getD k 0 ∈ l := by
        rw [List.getD_eq_getElem?_getD, List.getElem?_eq_getElem (by omega)]
        exact List.getElem_mem _
      have az := hA _ em
      have h43k := h43 k (by omega)
      have ch := l_charP (x := x) hl (k := k) (by omega) h38 (by rw [h43k]; exact asc_nar az)
      have et : tFn l (I (k : Int)).toNatClampNeg = l.getD k 0 := by rw [ecl]; rfl
      rw [L_L_spells_17, oN, brn_neg _ _ (by rw [I_le (by omega) (by omega) (by omega) (by omega)]; omega), brn_neg _ _ (by decide), ch, bnd_some, grd_pos _ (by rw [lit_0, I_lt (by omega) (by omega) (by omega) (by omega)]; omega), grd_pos _ (by rw [I_lt (by omega) (by omega) (by omega) (by omega)]; omega), grd_pos _ (by rw [I_inb (by omega) (by omega)]; omega), et, asc_byte az, grd_pos _ (asc_nar az), brn_pos _ _ h43k]
      unfold J_L_spells_50
      rw [kk_I]
      exact ih (k + 1) f (by omega) (by omega)
  unfold F_L_spells J_L_spells_13
  rw [brn_pos _ _ (by rw [oN])]
  exact go l.length 0 22 (by omega) (by omega)
theorem os_hline (hR : St b σ π n e x y) {i : Nat} (hi : (i : Int) < σ 2) : ∃ x2 y2, F_L_houseLine (I i) x = some (I ((hlL σ i).length : Int), x2) ∧ St b σ π n e x2 y2 ∧ F_L_spells (hlL σ i).length (tFn (hlL σ i)) (I ((hlL σ i).length : Int)) x2 = some (1 : Int32) := by
  obtain ⟨⟨hw, hs, T⟩, hK, hPP, hQ, hO, hS⟩ := hR
  have hn := hw.n
  have h1 : x.1 1 = I (σ 0) := T.1.1
  have h7 : x.1 7 = I (σ 2) := T.1.2.2.2.2.2.2.1
  obtain ⟨a2, u1, ⟨u2, u3⟩, u4⟩ := v_wh (v := xT x) hw T hi (x.1 38) (x.2.1 43)
  have nar : ∀ k : Nat, k < (hlL σ i).length → vp_nar .char (a2 k) = a2 k := fun k hk => by
    have em : (hlL σ i).getD k 0 ∈ hlL σ i := by
      rw [List.getD_eq_getElem?_getD, List.getElem?_eq_getElem hk]
      exact List.getElem_mem _
    rw [u3 k hk]
    exact asc_nar (u2 _ em)
  have hG : F_X11_houseLine (I (i : Int)) (I (σ 0)) (I (σ 2)) (x.2.1 0) (x.2.1 1) (x.2.1 2) (x.2.1 4) (x.1 38) (x.2.1 43) = some (0, I ((hlL σ i).length : Int), I ((hlL σ i).length : Int), a2) := by
    unfold F_X11_houseLine
    rw [x_has_p (by omega) (by omega) ⟨by omega, hi⟩, bnd_some, show F_X11_demandListed (I 1) = some 0 from x_dLt, bnd_some, brn_pos _ _ rfl, show F_X8_writeHouse (I (i : Int)) (I (σ 0)) (x.2.1 0) (x.2.1 1) (x.2.1 2) (x.2.1 4) (x.1 38) (x.2.1 43) = _ from u1, bnd_some]
  unfold F_L_houseLine G_houseLine
  rw [h1, h7, hG, bnd_some, bnd_some]
  refine ⟨_, ((fun k => if k = 8 then I ((hlL σ i).length : Int) else y.1 k), (fun k => if k = 6 then a2 else y.2 k)), rfl, ⟨⟨hw, hs, T⟩, hK, hPP, hQ, hO, ⟨(hlL σ i).length, u4, rfl, rfl, fun k hk => ⟨rfl, nar k hk⟩⟩⟩, ?_⟩
  exact spl_ok u4 u2 rfl (fun k hk => u3 k hk)
theorem sg_ok (hR : St b σ π n e x y) (hb : b < 1000000) {i : Nat} (hi : (i : Int) < σ 2) : ∃ x2 y2, F_sg_lines (I i) x = some ((1 : Int32), x2) ∧ St b σ π n e x2 y2 := by
  have hw := hR.1.1
  have T := hR.1.2.2
  have hn := hw.n
  have hc := hw.house hi
  have hs := slN_in σ i
  have hh := hw.hour
  obtain ⟨x2, y2, z2, R2, sp⟩ := os_hline hR hi
  refine ⟨x2, y2, ?_, R2⟩
  have em : F_sg_mid (I i) x (I (slN σ i)) = some (mdL σ i) := by
    unfold F_sg_mid mdL
    by_cases q : slN σ i ≤ 0
    · rw [brn_pos _ _ (by rw [lit_0, I_le (by omega) (by omega) (by omega) (by omega)]; exact q), if_pos q]
    · rw [brn_neg _ _ (by rw [lit_0, I_le (by omega) (by omega) (by omega) (by omega)]; exact q), if_neg q, l_of1 hw T hi, bnd_some, l_of2 hw T hi, bnd_some, grd_pos _ ⟨dg_I hc.2.1.1 (by omega), dg_I hc.2.2.1.1 (by omega)⟩]
  have e4 : (I (σ (81 + 5 * i))).toNatClampNeg = (σ (81 + 5 * i)).toNat := I_cl (by omega) (by omega)
  have el : lnA (I i) (I (σ (77 + 5 * i))) ++ mdL σ i ++ tB (zI (I (if slB σ i (σ 0) = true then 1 else 0))) ++ (tB 5).drop (9 - (I (σ (81 + 5 * i))).toNatClampNeg) = hlL σ i := by
    rw [e4]
    rfl
  unfold F_sg_lines
  rw [l_of0 hw T hi, bnd_some, l_of7 hw T hi, bnd_some, grd_pos _ ⟨dg_I (by omega) (by omega), dg_I hc.1.1 (by omega)⟩, em, bnd_some, l_acc0 hw T, bnd_some, grd_pos _ rfl]
  dsimp only
  rw [l_sleeps hw T hi hh.1 hh.2, bnd_some, l_of4 hw T hi, bnd_some, grd_pos _ ⟨by rw [e4, ← nI_I]; congr 1; omega, by rw [e4]; omega⟩, z2, bnd_some, el]
  dsimp only
  rw [sp, bnd_some]
end SPL
section LNS
variable {b : Int} {σ π : Nat → Int} {n e : Nat} {bl : Nat → Int32}
theorem lr_291 (h3 : H3 σ) (hb : b < 1000000) : ∀ (r k f : Nat) (x : XVal) (y : MVal), (k : Int) + r = σ 2 → r < f → St b σ π n e x y → ∃ x2 y2, L_L_lines_291 bl f (I (σ 2)) (I k) x = some ((1 : Int32), x2) ∧ St b σ π n e x2 y2 := by
  intro r
  induction r with
  | zero =>
    intro k f x y hk hf hR
    obtain ⟨f, rfl⟩ : ∃ g, f = g + 1 := ⟨f - 1, by omega⟩
    have hn := hR.1.1.n
    obtain ⟨x1, y1, z1, R1⟩ := os_lineN hR (a := 8) (by omega) (by omega)
    obtain ⟨x2, y2, z2, R2⟩ := os_lineN R1 (a := -1) (by omega) (by omega)
    obtain ⟨x3, y3, z3, R3⟩ := os_hlN R2
    refine ⟨x3, y3, ?_, R3⟩
    rw [L_L_lines_291, brn_pos _ _ (by rw [I_le (by omega) (by omega) (by omega) (by omega)]; omega), lit_8, z1, bnd_some, brn_pos _ _ rfl, m1]
    dsimp only
    rw [z2, bnd_some, brn_pos _ _ rfl]
    dsimp only
    rw [z3, bnd_some, brn_pos _ _ rfl]
    dsimp only
    rw [l_acc3 R3.1.1 R3.1.2.2, bnd_some, grd_pos _ rfl, brn_pos _ _ (by show I (σ 3) = 3; rw [h3.1]; rfl)]
  | succ r ih =>
    intro k f x y hk hf hR
    obtain ⟨f, rfl⟩ : ∃ g, f = g + 1 := ⟨f - 1, by omega⟩
    have hn := hR.1.1.n
    obtain ⟨x1, y1, z1, R1⟩ := sg_ok hR hb (i := k) (by omega)
    obtain ⟨x2, y2, z2, R2⟩ := ih (k + 1) f x1 y1 (by omega) (by omega) R1
    refine ⟨x2, y2, ?_, R2⟩
    rw [L_L_lines_291, brn_neg _ _ (by rw [I_le (by omega) (by omega) (by omega) (by omega)]; omega), z1, bnd_some, brn_neg _ _ (show ¬ ((1 : Int32) = 0) by decide), kk_I]
    exact z2
theorem lines_ok {x : XVal} {y : MVal} (hR : St b σ π n e x y) (hb : b < 1000000) (h3 : H3 σ) (hbl : ∀ c, c < 64 → bl c = I (σ (13 + c))) : ∃ x2 y2, F_L_lines bl x = some ((1 : Int32), x2) ∧ St b σ π n e x2 y2 := by
  have hn := hR.1.1.n
  obtain ⟨x1, y1, z1, R1⟩ := lr_8 h3 hbl 8 0 9 x y (by omega) (by omega) hR
  obtain ⟨x2, y2, z2, R2⟩ := lr_291 (bl := bl) h3 hb (σ 2).toNat 0 11 x1 y1 (by omega) (by omega) R1
  refine ⟨x2, y2, ?_, R2⟩
  unfold F_L_lines
  rw [l_acc2 hR.1.1 hR.1.2.2, bnd_some, grd_pos _ rfl]
  exact Eq.trans z1 z2
end LNS
