/-! ===== the reference as functions (no bytecode of it rides here): what the pure parts hold the class against ===== -/
def rLen : List Nat := [26, 14, 15, 13, 18, 27, 5, 5, 5, 3, 1, 7]
def rByt : List (List Int32) := [[], [], [], [], [], [], [], [], [], [], [], [104, 98, 101, 114, 112, 116, 119]]
def F_R_length (pthis : Nat) : Option (Int32) :=
  grd (pthis < 12) (grd (pthis < 12) (grd (pthis < 12) (bnd (F_J0_coder_7d493 pthis) (fun o3 => some ((Int32.ofNat (rLen.getD pthis 0)) >>> (o3 &&& 31))))))
def F_J1_canEncode_9a6ad (p0 : Int32) : Option (Int32) :=
  brn (p0 < 0) (some ((0 : Int32))) (brn ((255 : Int32) < p0) (some ((0 : Int32))) (some ((1 : Int32))))
def L_J1_indexOfChar_4cfef_7 (p0 : Nat) (p1 : Int32) (p2 : Int32) (p3 : Int32) : Nat → Int32 → Int32 → Option (Int32)
  | 0, _, _ => none
  | _n + 1, x4, x5 =>
    brn (p3 ≤ x5) (some (((-1) : Int32))) (grd (p0 < 12) (grd (inb x5 (rLen.getD p0 0)) (brn (((rByt.getD p0 []).getD x5.toNatClampNeg 0) = x4) (some (x5)) (L_J1_indexOfChar_4cfef_7 p0 p1 p2 p3 _n x4 (x5 + 1)))))
def F_J1_indexOfChar_4cfef (p0 : Nat) (p1 : Int32) (p2 : Int32) (p3 : Int32) : Option (Int32) :=
  L_J1_indexOfChar_4cfef_7 p0 p1 p2 p3 100 p1.toInt8.toInt32 p2
def F_J1_indexOf_4cfef (p0 : Nat) (p1 : Int32) (p2 : Int32) (p3 : Int32) : Option (Int32) :=
  bnd (F_J1_canEncode_9a6ad p1) (fun o1 => brn (o1 = 0) (some (((-1) : Int32))) (grd (p0 < 12) (brn ((if p2 < (0 : Int32) then (0 : Int32) else p2) < (if (Int32.ofNat (rLen.getD p0 0)) < p3 then (Int32.ofNat (rLen.getD p0 0)) else p3)) (bnd (F_J1_indexOfChar_4cfef p0 p1 (if p2 < (0 : Int32) then (0 : Int32) else p2) (if (Int32.ofNat (rLen.getD p0 0)) < p3 then (Int32.ofNat (rLen.getD p0 0)) else p3)) (fun o4 => some (o4))) (some (((-1) : Int32))))))
def F_J0_indexOf_7cf53 (pthis : Nat) (p1 : Int32) (p2 : Int32) : Option (Int32) :=
  grd (pthis < 12) (bnd (F_J0_isLatin1_aae02 pthis) (fun o1 => brn (o1 = 0) (none) (grd (pthis < 12) (grd (pthis < 12) (bnd (F_R_length pthis) (fun o5 => bnd (F_J1_indexOf_4cfef pthis p1 p2 o5) (fun o8 => some (o8))))))))
def F_J0_indexOf_0f7a4 (pthis : Nat) (p1 : Int32) : Option (Int32) :=
  grd (pthis < 12) (bnd (F_J0_indexOf_7cf53 pthis p1 (0 : Int32)) (fun o1 => some (o1)))
def F_X12_thrown (f_thrown : Int32) : Option (Int32) :=
  some (f_thrown)
def F_X12_in (p0 : Int32) (p1 : Int32) (p2 : Int32) : Option (Int32) :=
  brn (p0 < p1) (some ((0 : Int32))) (brn (p2 < p0) (some ((0 : Int32))) (some ((1 : Int32))))
def F_X12_keep (a_s : Nat → Int32) (f_thrown : Int32) (a_before : Nat → Int32) : Option (Int32 × (Nat → Int32)) :=
  grd (cpyok (0 : Int32) (0 : Int32) (147 : Int32) 147 147) (some ((0 : Int32), (va_cpy a_s a_before (0 : Int32).toNatClampNeg (0 : Int32).toNatClampNeg (147 : Int32).toNatClampNeg)))
def J_X12_ends_62 (p1 : Int32) (f_thrown : Int32) (a_before : Nat → Int32) (f_pastMany : Int32) (a_s : Nat → Int32) (a_past : Nat → Int32) : Option (Int32 × Int32 × (Nat → Int32) × (Nat → Int32)) :=
  grd (cpyok (0 : Int32) ((147 : Int32) * f_pastMany) (147 : Int32) 147 1176) (some (p1, (f_pastMany + (1 : Int32)), a_s, (va_cpy a_before a_past (0 : Int32).toNatClampNeg ((147 : Int32) * f_pastMany).toNatClampNeg (147 : Int32).toNatClampNeg)))
def F_X12_ends (p1 : Int32) (f_thrown : Int32) (a_before : Nat → Int32) (f_pastMany : Int32) (a_s : Nat → Int32) (a_past : Nat → Int32) : Option (Int32 × Int32 × (Nat → Int32) × (Nat → Int32)) :=
  brn (f_thrown ≤ 0) (brn (f_pastMany = (8 : Int32)) (grd (cpyok (147 : Int32) (0 : Int32) (1029 : Int32) 1176 1176) (J_X12_ends_62 p1 f_thrown a_before (f_pastMany - (1 : Int32)) a_s (va_cpy a_past a_past (147 : Int32).toNatClampNeg (0 : Int32).toNatClampNeg (1029 : Int32).toNatClampNeg))) (J_X12_ends_62 p1 f_thrown a_before f_pastMany a_s a_past)) (grd (cpyok (0 : Int32) (0 : Int32) (147 : Int32) 147 147) (some ((0 : Int32), f_pastMany, (va_cpy a_before a_s (0 : Int32).toNatClampNeg (0 : Int32).toNatClampNeg (147 : Int32).toNatClampNeg), a_past)))
def F_X12_fails (p1 : Int32) (f_thrown : Int32) : Option (Int32 × Int32) :=
  some ((0 : Int32), p1)
def F_X12_refuse (p1 : Int32) (p2 : Int32) (p3 : Int32) (f_thrown : Int32) (f_reason : Int32) (f_detail : Int32) (f_isRefused : Int32) : Option (Int32 × Int32 × Int32 × Int32 × Int32) :=
  some ((0 : Int32), p1, p2, p3, (1 : Int32))
def J_X12_refusal_13 (p1 : Int32) (f_reason : Int32) (f_detail : Int32) (t0 : Int32) (f_thrown : Int32) : Option (Int32 × Int32) :=
  brn (t0 ≤ 0) (brn (p1 = 0) (some (f_reason, t0)) (some (f_detail, t0))) (some ((0 : Int32), t0))
def F_X12_refusal (p1 : Int32) (f_reason : Int32) (f_detail : Int32) (f_thrown : Int32) : Option (Int32 × Int32) :=
  brn (f_reason = 0) (J_X12_refusal_13 p1 f_reason f_detail (1 : Int32) f_thrown) (J_X12_refusal_13 p1 f_reason f_detail (0 : Int32) f_thrown)
def F_X12_isCell (p0 : Int32) : Option (Int32) :=
  bnd (F_X12_in p0 (0 : Int32) (63 : Int32)) (fun o1 => grd (o1 = 0 ∨ o1 = 1) (some (o1)))
def F_X12_isHour (p0 : Int32) : Option (Int32) :=
  bnd (F_X12_in p0 (0 : Int32) (23 : Int32)) (fun o1 => grd (o1 = 0 ∨ o1 = 1) (some (o1)))
def F_X12_isHouse (p1 : Int32) (a_s : Nat → Int32) : Option (Int32) :=
  grd (inb (2 : Int32) 147) (bnd (F_X12_in p1 (0 : Int32) ((a_s (2 : Int32).toNatClampNeg) - (1 : Int32))) (fun o1 => grd (o1 = 0 ∨ o1 = 1) (some (o1))))
def F_X12_isPost (p1 : Int32) (a_s : Nat → Int32) : Option (Int32) :=
  grd (inb (4 : Int32) 147) (bnd (F_X12_in p1 (0 : Int32) ((a_s (4 : Int32).toNatClampNeg) - (1 : Int32))) (fun o1 => grd (o1 = 0 ∨ o1 = 1) (some (o1))))
def F_X12_isBlocked (p1 : Int32) (a_s : Nat → Int32) : Option (Int32) :=
  grd (inb ((13 : Int32) + p1) 147) (brn ((a_s ((13 : Int32) + p1).toNatClampNeg) = (1 : Int32)) (some ((1 : Int32))) (some ((0 : Int32))))
def F_X12_at (p0 : Int32) (p1 : Int32) : Option (Int32) :=
  some (((77 : Int32) + ((5 : Int32) * p0)) + p1)
def F_X12_cellOf (p1 : Int32) (a_s : Nat → Int32) : Option (Int32) :=
  bnd (F_X12_at p1 (0 : Int32)) (fun o1 => grd (inb o1 147) (some (a_s o1.toNatClampNeg)))
def J_X12_houseOn_28 (p1 : Int32) (a_s : Nat → Int32) (r4 : Int32 → Int32 → Option (Int32)) (t0 : Int32) (x3 : Int32) : Option (Int32) :=
  r4 t0 (x3 + 1)
def L_X12_houseOn_4 (p1 : Int32) (a_s : Nat → Int32) : Nat → Int32 → Int32 → Option (Int32)
  | 0, _, _ => none
  | _n + 1, x2, x3 =>
    grd (inb (2 : Int32) 147) (brn ((a_s (2 : Int32).toNatClampNeg) ≤ x3) (some (x2)) (bnd (F_X12_cellOf x3 a_s) (fun o1 => brn (o1 = p1) (J_X12_houseOn_28 p1 a_s (L_X12_houseOn_4 p1 a_s _n) x3 x3) (J_X12_houseOn_28 p1 a_s (L_X12_houseOn_4 p1 a_s _n) x2 x3))))
def F_X12_houseOn (p1 : Int32) (a_s : Nat → Int32) : Option (Int32) :=
  L_X12_houseOn_4 p1 a_s 100 ((-1) : Int32) (0 : Int32)
def J_X12_postOn_35 (p1 : Int32) (a_s : Nat → Int32) (r4 : Int32 → Int32 → Option (Int32)) (t0 : Int32) (x3 : Int32) : Option (Int32) :=
  r4 t0 (x3 + 1)
def L_X12_postOn_4 (p1 : Int32) (a_s : Nat → Int32) : Nat → Int32 → Int32 → Option (Int32)
  | 0, _, _ => none
  | _n + 1, x2, x3 =>
    grd (inb (4 : Int32) 147) (brn ((a_s (4 : Int32).toNatClampNeg) ≤ x3) (some (x2)) (grd (inb ((139 : Int32) + ((2 : Int32) * x3)) 147) (brn ((a_s ((139 : Int32) + ((2 : Int32) * x3)).toNatClampNeg) = p1) (J_X12_postOn_35 p1 a_s (L_X12_postOn_4 p1 a_s _n) x3 x3) (J_X12_postOn_35 p1 a_s (L_X12_postOn_4 p1 a_s _n) x2 x3))))
def F_X12_postOn (p1 : Int32) (a_s : Nat → Int32) : Option (Int32) :=
  L_X12_postOn_4 p1 a_s 100 ((-1) : Int32) (0 : Int32)
def J_X12_hallOn_69 (p1 : Int32) (a_s : Nat → Int32) (r4 : Int32 → Int32 → Option (Int32)) (t0 : Int32) (x3 : Int32) : Option (Int32) :=
  r4 t0 (x3 + 1)
def J_X12_hallOn_68 (p1 : Int32) (a_s : Nat → Int32) (r4 : Int32 → Int32 → Option (Int32)) (x2 : Int32) (x3 : Int32) : Option (Int32) :=
  J_X12_hallOn_69 p1 a_s (r4) x2 x3
def L_X12_hallOn_4 (p1 : Int32) (a_s : Nat → Int32) : Nat → Int32 → Int32 → Option (Int32)
  | 0, _, _ => none
  | _n + 1, x2, x3 =>
    grd (inb (3 : Int32) 147) (brn ((a_s (3 : Int32).toNatClampNeg) ≤ x3) (some (x2)) (grd (inb ((127 : Int32) + ((3 : Int32) * x3)) 147) (brn ((p1 / (8 : Int32)) = (a_s ((127 : Int32) + ((3 : Int32) * x3)).toNatClampNeg)) (grd (inb (((127 : Int32) + ((3 : Int32) * x3)) + (1 : Int32)) 147) (grd (inb (((127 : Int32) + ((3 : Int32) * x3)) + (2 : Int32)) 147) (bnd (F_X12_in (p1 - p1 / (8 : Int32) * (8 : Int32)) (a_s (((127 : Int32) + ((3 : Int32) * x3)) + (1 : Int32)).toNatClampNeg) (a_s (((127 : Int32) + ((3 : Int32) * x3)) + (2 : Int32)).toNatClampNeg)) (fun o1 => brn (o1 = 0) (J_X12_hallOn_68 p1 a_s (L_X12_hallOn_4 p1 a_s _n) x2 x3) (J_X12_hallOn_69 p1 a_s (L_X12_hallOn_4 p1 a_s _n) x3 x3))))) (J_X12_hallOn_68 p1 a_s (L_X12_hallOn_4 p1 a_s _n) x2 x3))))
def F_X12_hallOn (p1 : Int32) (a_s : Nat → Int32) : Option (Int32) :=
  L_X12_hallOn_4 p1 a_s 100 ((-1) : Int32) (0 : Int32)
def F_X12_far (p0 : Int32) (p1 : Int32) : Option (Int32) :=
  some ((if 0 ≤ ((p0 / (8 : Int32)) - (p1 / (8 : Int32))) then ((p0 / (8 : Int32)) - (p1 / (8 : Int32))) else 0 - ((p0 / (8 : Int32)) - (p1 / (8 : Int32)))) + (if 0 ≤ ((p0 - p0 / (8 : Int32) * (8 : Int32)) - (p1 - p1 / (8 : Int32) * (8 : Int32))) then ((p0 - p0 / (8 : Int32) * (8 : Int32)) - (p1 - p1 / (8 : Int32) * (8 : Int32))) else 0 - ((p0 - p0 / (8 : Int32) * (8 : Int32)) - (p1 - p1 / (8 : Int32) * (8 : Int32)))))
def J_X12_doHouse_29 (p1 : Int32) (p2 : Int32) (p3 : Int32) (f_thrown : Int32) (f_reason : Int32) (f_detail : Int32) (f_isRefused : Int32) (a_s : Nat → Int32) : Option (Int32 × Int32 × Int32 × Int32 × Int32 × (Nat → Int32)) :=
  bnd (F_X12_fails (1 : Int32) f_thrown) (fun o3 => some (o3.1, o3.2, f_reason, f_detail, f_isRefused, a_s))
def F_X12_doHouse (p1 : Int32) (p2 : Int32) (p3 : Int32) (f_thrown : Int32) (f_reason : Int32) (f_detail : Int32) (f_isRefused : Int32) (a_s : Nat → Int32) : Option (Int32 × Int32 × Int32 × Int32 × Int32 × (Nat → Int32)) :=
  grd (inb (2 : Int32) 147) (bnd (F_X12_isCell p1) (fun o1 => brn (o1 = 0) (J_X12_doHouse_29 p1 p2 p3 f_thrown f_reason f_detail f_isRefused a_s) (bnd (F_X12_isHour p2) (fun o5 => brn (o5 = 0) (J_X12_doHouse_29 p1 p2 p3 f_thrown f_reason f_detail f_isRefused a_s) (bnd (F_X12_isHour p3) (fun o7 => brn (o7 = 0) (J_X12_doHouse_29 p1 p2 p3 f_thrown f_reason f_detail f_isRefused a_s) (bnd (F_X12_isBlocked p1 a_s) (fun o9 => brn (o9 = 0) (bnd (F_X12_houseOn p1 a_s) (fun o11 => brn (o11 < 0) (brn ((a_s (2 : Int32).toNatClampNeg) = (10 : Int32)) (bnd (F_X12_refuse (2 : Int32) (1 : Int32) (10 : Int32) f_thrown f_reason f_detail f_isRefused) (fun o13 => some (o13.1, o13.2.1, o13.2.2.1, o13.2.2.2.1, o13.2.2.2.2, a_s))) (bnd (F_X12_at (a_s (2 : Int32).toNatClampNeg) (0 : Int32)) (fun o15 => grd (inb o15 147) (bnd (F_X12_at (a_s (2 : Int32).toNatClampNeg) (1 : Int32)) (fun o17 => grd (inb o17 147) (bnd (F_X12_at (a_s (2 : Int32).toNatClampNeg) (2 : Int32)) (fun o19 => grd (inb o19 147) (bnd (F_X12_at (a_s (2 : Int32).toNatClampNeg) (3 : Int32)) (fun o21 => grd (inb o21 147) (bnd (F_X12_at (a_s (2 : Int32).toNatClampNeg) (4 : Int32)) (fun o23 => grd (inb o23 147) (grd (inb (2 : Int32) 147) (grd (inb (2 : Int32) 147) (some (a_s (2 : Int32).toNatClampNeg, f_thrown, f_reason, f_detail, f_isRefused, (upd (upd (upd (upd (upd (upd a_s o15.toNatClampNeg p1) o17.toNatClampNeg p2) o19.toNatClampNeg p3) o21.toNatClampNeg (0 : Int32)) o23.toNatClampNeg (0 : Int32)) (2 : Int32).toNatClampNeg (((upd (upd (upd (upd (upd a_s o15.toNatClampNeg p1) o17.toNatClampNeg p2) o19.toNatClampNeg p3) o21.toNatClampNeg (0 : Int32)) o23.toNatClampNeg (0 : Int32)) (2 : Int32).toNatClampNeg) + (1 : Int32)))))))))))))))))) (bnd (F_X12_houseOn p1 a_s) (fun o25 => bnd (F_X12_refuse (2 : Int32) (3 : Int32) o25 f_thrown f_reason f_detail f_isRefused) (fun o27 => some (o27.1, o27.2.1, o27.2.2.1, o27.2.2.2.1, o27.2.2.2.2, a_s)))))) (bnd (F_X12_refuse (2 : Int32) (2 : Int32) p1 f_thrown f_reason f_detail f_isRefused) (fun o29 => some (o29.1, o29.2.1, o29.2.2.1, o29.2.2.2.1, o29.2.2.2.2, a_s)))))))))))
def F_X12_house (p1 : Int32) (p2 : Int32) (p3 : Int32) (f_pastMany : Int32) (f_thrown : Int32) (f_reason : Int32) (f_detail : Int32) (f_isRefused : Int32) (a_s : Nat → Int32) (a_before : Nat → Int32) (a_past : Nat → Int32) : Option (Int32 × Int32 × Int32 × Int32 × Int32 × Int32 × (Nat → Int32) × (Nat → Int32) × (Nat → Int32)) :=
  bnd (F_X12_keep a_s f_thrown a_before) (fun o1 => bnd (F_X12_doHouse p1 p2 p3 o1.1 f_reason f_detail f_isRefused a_s) (fun o3 => bnd (F_X12_ends o3.1 o3.2.1 o1.2 f_pastMany o3.2.2.2.2.2 a_past) (fun o5 => some (o5.1, o5.2.1, o3.2.1, o3.2.2.1, o3.2.2.2.1, o3.2.2.2.2.1, o5.2.2.1, o1.2, o5.2.2.2))))
def F_X12_doGoAway (p1 : Int32) (f_thrown : Int32) (a_s : Nat → Int32) : Option (Int32 × Int32 × (Nat → Int32)) :=
  bnd (F_X12_isHouse p1 a_s) (fun o1 => brn (o1 = 0) (bnd (F_X12_fails (1 : Int32) f_thrown) (fun o3 => some (o3.1, o3.2, a_s))) (grd (inb (2 : Int32) 147) (bnd (F_X12_at (p1 + (1 : Int32)) (0 : Int32)) (fun o5 => bnd (F_X12_at p1 (0 : Int32)) (fun o7 => grd (cpyok o5 o7 ((5 : Int32) * (((a_s (2 : Int32).toNatClampNeg) - (1 : Int32)) - p1)) 147 147) (grd (inb (2 : Int32) 147) (some ((a_s (2 : Int32).toNatClampNeg) - (1 : Int32), f_thrown, (upd (va_cpy a_s a_s o5.toNatClampNeg o7.toNatClampNeg ((5 : Int32) * (((a_s (2 : Int32).toNatClampNeg) - (1 : Int32)) - p1)).toNatClampNeg) (2 : Int32).toNatClampNeg ((a_s (2 : Int32).toNatClampNeg) - (1 : Int32)))))))))))
def F_X12_goAway (p1 : Int32) (f_pastMany : Int32) (f_thrown : Int32) (a_s : Nat → Int32) (a_before : Nat → Int32) (a_past : Nat → Int32) : Option (Int32 × Int32 × Int32 × (Nat → Int32) × (Nat → Int32) × (Nat → Int32)) :=
  bnd (F_X12_keep a_s f_thrown a_before) (fun o1 => bnd (F_X12_doGoAway p1 o1.1 a_s) (fun o3 => bnd (F_X12_ends o3.1 o3.2.1 o1.2 f_pastMany o3.2.2 a_past) (fun o5 => some (o5.1, o5.2.1, o3.2.1, o5.2.2.1, o1.2, o5.2.2.2))))
def F_X12_doBlock (p1 : Int32) (f_thrown : Int32) (f_reason : Int32) (f_detail : Int32) (f_isRefused : Int32) (a_s : Nat → Int32) : Option (Int32 × Int32 × Int32 × Int32 × Int32 × (Nat → Int32)) :=
  bnd (F_X12_isCell p1) (fun o1 => brn (o1 = 0) (bnd (F_X12_fails (1 : Int32) f_thrown) (fun o3 => some (o3.1, o3.2, f_reason, f_detail, f_isRefused, a_s))) (bnd (F_X12_houseOn p1 a_s) (fun o5 => brn (o5 < 0) (grd (inb ((13 : Int32) + p1) 147) (grd (inb ((13 : Int32) + p1) 147) (grd (inb ((13 : Int32) + p1) 147) (some ((upd a_s ((13 : Int32) + p1).toNatClampNeg ((1 : Int32) - (a_s ((13 : Int32) + p1).toNatClampNeg))) ((13 : Int32) + p1).toNatClampNeg, f_thrown, f_reason, f_detail, f_isRefused, (upd a_s ((13 : Int32) + p1).toNatClampNeg ((1 : Int32) - (a_s ((13 : Int32) + p1).toNatClampNeg)))))))) (bnd (F_X12_houseOn p1 a_s) (fun o7 => bnd (F_X12_refuse (2 : Int32) (3 : Int32) o7 f_thrown f_reason f_detail f_isRefused) (fun o9 => some (o9.1, o9.2.1, o9.2.2.1, o9.2.2.2.1, o9.2.2.2.2, a_s)))))))
def F_X12_block (p1 : Int32) (f_pastMany : Int32) (f_thrown : Int32) (f_reason : Int32) (f_detail : Int32) (f_isRefused : Int32) (a_s : Nat → Int32) (a_before : Nat → Int32) (a_past : Nat → Int32) : Option (Int32 × Int32 × Int32 × Int32 × Int32 × Int32 × (Nat → Int32) × (Nat → Int32) × (Nat → Int32)) :=
  bnd (F_X12_keep a_s f_thrown a_before) (fun o1 => bnd (F_X12_doBlock p1 o1.1 f_reason f_detail f_isRefused a_s) (fun o3 => bnd (F_X12_ends o3.1 o3.2.1 o1.2 f_pastMany o3.2.2.2.2.2 a_past) (fun o5 => brn (o5.1 = (1 : Int32)) (some ((1 : Int32), o5.2.1, o3.2.1, o3.2.2.1, o3.2.2.2.1, o3.2.2.2.2.1, o5.2.2.1, o1.2, o5.2.2.2)) (some ((0 : Int32), o5.2.1, o3.2.1, o3.2.2.1, o3.2.2.2.1, o3.2.2.2.2.1, o5.2.2.1, o1.2, o5.2.2.2)))))
def J_X12_doHall_33 (p1 : Int32) (p2 : Int32) (p3 : Int32) (f_thrown : Int32) (f_reason : Int32) (f_detail : Int32) (f_isRefused : Int32) (a_s : Nat → Int32) : Option (Int32 × Int32 × Int32 × Int32 × Int32 × (Nat → Int32)) :=
  bnd (F_X12_fails (1 : Int32) f_thrown) (fun o3 => some (o3.1, o3.2, f_reason, f_detail, f_isRefused, a_s))
def L_X12_doHall_42 (p1 : Int32) (p2 : Int32) (p3 : Int32) : Nat → Int32 → Int32 → (Int32) → (Int32) → (Int32) → (Int32) → (Nat → Int32) → Option (Int32 × Int32 × Int32 × Int32 × Int32 × (Nat → Int32))
  | 0, _, _, _, _, _, _, _ => none
  | _n + 1, x4, x5, f_thrown, f_reason, f_detail, f_isRefused, a_s =>
    brn (p3 < x5) (brn (x4 = (4 : Int32)) (bnd (F_X12_refuse (2 : Int32) (1 : Int32) (4 : Int32) f_thrown f_reason f_detail f_isRefused) (fun o7 => some (o7.1, o7.2.1, o7.2.2.1, o7.2.2.2.1, o7.2.2.2.2, a_s))) (grd (inb ((127 : Int32) + ((3 : Int32) * x4)) 147) (grd (inb (((127 : Int32) + ((3 : Int32) * x4)) + (1 : Int32)) 147) (grd (inb (((127 : Int32) + ((3 : Int32) * x4)) + (2 : Int32)) 147) (grd (inb (3 : Int32) 147) (grd (inb (3 : Int32) 147) (some (x4, f_thrown, f_reason, f_detail, f_isRefused, (upd (upd (upd (upd a_s ((127 : Int32) + ((3 : Int32) * x4)).toNatClampNeg p1) (((127 : Int32) + ((3 : Int32) * x4)) + (1 : Int32)).toNatClampNeg p2) (((127 : Int32) + ((3 : Int32) * x4)) + (2 : Int32)).toNatClampNeg p3) (3 : Int32).toNatClampNeg (((upd (upd (upd a_s ((127 : Int32) + ((3 : Int32) * x4)).toNatClampNeg p1) (((127 : Int32) + ((3 : Int32) * x4)) + (1 : Int32)).toNatClampNeg p2) (((127 : Int32) + ((3 : Int32) * x4)) + (2 : Int32)).toNatClampNeg p3) (3 : Int32).toNatClampNeg) + (1 : Int32))))))))))) (bnd (F_X12_hallOn (((8 : Int32) * p1) + x5) a_s) (fun o9 => brn (o9 < 0) (L_X12_doHall_42 p1 p2 p3 _n x4 (x5 + 1) f_thrown f_reason f_detail f_isRefused a_s) (bnd (F_X12_refuse (2 : Int32) (4 : Int32) (((8 : Int32) * p1) + x5) f_thrown f_reason f_detail f_isRefused) (fun o11 => some (o11.1, o11.2.1, o11.2.2.1, o11.2.2.2.1, o11.2.2.2.2, a_s)))))
def F_X12_doHall (p1 : Int32) (p2 : Int32) (p3 : Int32) (f_thrown : Int32) (f_reason : Int32) (f_detail : Int32) (f_isRefused : Int32) (a_s : Nat → Int32) : Option (Int32 × Int32 × Int32 × Int32 × Int32 × (Nat → Int32)) :=
  grd (inb (3 : Int32) 147) (bnd (F_X12_in p1 (0 : Int32) (7 : Int32)) (fun o1 => brn (o1 = 0) (J_X12_doHall_33 p1 p2 p3 f_thrown f_reason f_detail f_isRefused a_s) (bnd (F_X12_in p2 (0 : Int32) p3) (fun o5 => brn (o5 = 0) (J_X12_doHall_33 p1 p2 p3 f_thrown f_reason f_detail f_isRefused a_s) (brn (p3 < (8 : Int32)) (L_X12_doHall_42 p1 p2 p3 100 (a_s (3 : Int32).toNatClampNeg) p2 f_thrown f_reason f_detail f_isRefused a_s) (J_X12_doHall_33 p1 p2 p3 f_thrown f_reason f_detail f_isRefused a_s))))))
def F_X12_hall (p1 : Int32) (p2 : Int32) (p3 : Int32) (f_pastMany : Int32) (f_thrown : Int32) (f_reason : Int32) (f_detail : Int32) (f_isRefused : Int32) (a_s : Nat → Int32) (a_before : Nat → Int32) (a_past : Nat → Int32) : Option (Int32 × Int32 × Int32 × Int32 × Int32 × Int32 × (Nat → Int32) × (Nat → Int32) × (Nat → Int32)) :=
  bnd (F_X12_keep a_s f_thrown a_before) (fun o1 => bnd (F_X12_doHall p1 p2 p3 o1.1 f_reason f_detail f_isRefused a_s) (fun o3 => bnd (F_X12_ends o3.1 o3.2.1 o1.2 f_pastMany o3.2.2.2.2.2 a_past) (fun o5 => some (o5.1, o5.2.1, o3.2.1, o3.2.2.1, o3.2.2.2.1, o3.2.2.2.2.1, o5.2.2.1, o1.2, o5.2.2.2))))
def F_X12_doDropHall (p1 : Int32) (f_thrown : Int32) (a_s : Nat → Int32) : Option (Int32 × Int32 × (Nat → Int32)) :=
  grd (inb (3 : Int32) 147) (bnd (F_X12_in p1 (0 : Int32) ((a_s (3 : Int32).toNatClampNeg) - (1 : Int32))) (fun o1 => brn (o1 = 0) (bnd (F_X12_fails (1 : Int32) f_thrown) (fun o3 => some (o3.1, o3.2, a_s))) (grd (cpyok ((127 : Int32) + ((3 : Int32) * (p1 + (1 : Int32)))) ((127 : Int32) + ((3 : Int32) * p1)) ((3 : Int32) * (((a_s (3 : Int32).toNatClampNeg) - (1 : Int32)) - p1)) 147 147) (grd (inb (3 : Int32) 147) (some ((a_s (3 : Int32).toNatClampNeg) - (1 : Int32), f_thrown, (upd (va_cpy a_s a_s ((127 : Int32) + ((3 : Int32) * (p1 + (1 : Int32)))).toNatClampNeg ((127 : Int32) + ((3 : Int32) * p1)).toNatClampNeg ((3 : Int32) * (((a_s (3 : Int32).toNatClampNeg) - (1 : Int32)) - p1)).toNatClampNeg) (3 : Int32).toNatClampNeg ((a_s (3 : Int32).toNatClampNeg) - (1 : Int32)))))))))
def F_X12_dropHall (p1 : Int32) (f_pastMany : Int32) (f_thrown : Int32) (a_s : Nat → Int32) (a_before : Nat → Int32) (a_past : Nat → Int32) : Option (Int32 × Int32 × Int32 × (Nat → Int32) × (Nat → Int32) × (Nat → Int32)) :=
  bnd (F_X12_keep a_s f_thrown a_before) (fun o1 => bnd (F_X12_doDropHall p1 o1.1 a_s) (fun o3 => bnd (F_X12_ends o3.1 o3.2.1 o1.2 f_pastMany o3.2.2 a_past) (fun o5 => some (o5.1, o5.2.1, o3.2.1, o5.2.2.1, o1.2, o5.2.2.2))))
def F_X12_doPass (p1 : Int32) (f_thrown : Int32) (a_s : Nat → Int32) : Option (Int32 × Int32 × (Nat → Int32)) :=
  bnd (F_X12_in p1 (1 : Int32) (99 : Int32)) (fun o1 => brn (o1 = 0) (bnd (F_X12_fails (1 : Int32) f_thrown) (fun o3 => some (o3.1, o3.2, a_s))) (grd (inb (1 : Int32) 147) (grd (inb (0 : Int32) 147) (grd (inb (1 : Int32) 147) (grd (inb (0 : Int32) 147) (grd (inb (0 : Int32) 147) (grd (inb (0 : Int32) 147) (some ((upd (upd a_s (1 : Int32).toNatClampNeg ((a_s (1 : Int32).toNatClampNeg) + (((a_s (0 : Int32).toNatClampNeg) + p1) / (24 : Int32)))) (0 : Int32).toNatClampNeg ((((upd a_s (1 : Int32).toNatClampNeg ((a_s (1 : Int32).toNatClampNeg) + (((a_s (0 : Int32).toNatClampNeg) + p1) / (24 : Int32)))) (0 : Int32).toNatClampNeg) + p1) - (((upd a_s (1 : Int32).toNatClampNeg ((a_s (1 : Int32).toNatClampNeg) + (((a_s (0 : Int32).toNatClampNeg) + p1) / (24 : Int32)))) (0 : Int32).toNatClampNeg) + p1) / (24 : Int32) * (24 : Int32))) (0 : Int32).toNatClampNeg, f_thrown, (upd (upd a_s (1 : Int32).toNatClampNeg ((a_s (1 : Int32).toNatClampNeg) + (((a_s (0 : Int32).toNatClampNeg) + p1) / (24 : Int32)))) (0 : Int32).toNatClampNeg ((((upd a_s (1 : Int32).toNatClampNeg ((a_s (1 : Int32).toNatClampNeg) + (((a_s (0 : Int32).toNatClampNeg) + p1) / (24 : Int32)))) (0 : Int32).toNatClampNeg) + p1) - (((upd a_s (1 : Int32).toNatClampNeg ((a_s (1 : Int32).toNatClampNeg) + (((a_s (0 : Int32).toNatClampNeg) + p1) / (24 : Int32)))) (0 : Int32).toNatClampNeg) + p1) / (24 : Int32) * (24 : Int32))))))))))))
def F_X12_pass (p1 : Int32) (f_pastMany : Int32) (f_thrown : Int32) (a_s : Nat → Int32) (a_before : Nat → Int32) (a_past : Nat → Int32) : Option (Int32 × Int32 × Int32 × (Nat → Int32) × (Nat → Int32) × (Nat → Int32)) :=
  bnd (F_X12_keep a_s f_thrown a_before) (fun o1 => bnd (F_X12_doPass p1 o1.1 a_s) (fun o3 => bnd (F_X12_ends o3.1 o3.2.1 o1.2 f_pastMany o3.2.2 a_past) (fun o5 => some (o5.1, o5.2.1, o3.2.1, o5.2.2.1, o1.2, o5.2.2.2))))
def F_X12_sleep (p1 : Int32) (a_s : Nat → Int32) : Option (Int32) :=
  bnd (F_X12_at p1 (2 : Int32)) (fun o1 => grd (inb o1 147) (bnd (F_X12_at p1 (1 : Int32)) (fun o3 => grd (inb o3 147) (some ((((a_s o1.toNatClampNeg) - (a_s o3.toNatClampNeg)) + (24 : Int32)) - (((a_s o1.toNatClampNeg) - (a_s o3.toNatClampNeg)) + (24 : Int32)) / (24 : Int32) * (24 : Int32))))))
def F_X12_sleeps (p1 : Int32) (p2 : Int32) (a_s : Nat → Int32) : Option (Int32) :=
  bnd (F_X12_at p1 (1 : Int32)) (fun o1 => grd (inb o1 147) (bnd (F_X12_sleep p1 a_s) (fun o3 => brn (o3 ≤ (((p2 - (a_s o1.toNatClampNeg)) + (24 : Int32)) - ((p2 - (a_s o1.toNatClampNeg)) + (24 : Int32)) / (24 : Int32) * (24 : Int32))) (some ((0 : Int32))) (some ((1 : Int32))))))
def J_X12_houseOf_28 (p1 : Int32) (p2 : Int32) (a_s : Nat → Int32) (t0 : Int32) (f_thrown : Int32) : Option (Int32 × Int32) :=
  brn (t0 ≤ 0) (brn (p2 = (5 : Int32)) (bnd (F_X12_cellOf p1 a_s) (fun o4 => bnd (F_X12_hallOn o4 a_s) (fun o6 => some (o6, t0)))) (brn (p2 = (6 : Int32)) (grd (inb (0 : Int32) 147) (bnd (F_X12_sleeps p1 (a_s (0 : Int32).toNatClampNeg) a_s) (fun o9 => brn (o9 = 0) (some ((0 : Int32), t0)) (some ((1 : Int32), t0))))) (brn (p2 = (7 : Int32)) (bnd (F_X12_sleep p1 a_s) (fun o12 => some (o12, t0))) (bnd (F_X12_at p1 p2) (fun o14 => grd (inb o14 147) (some (a_s o14.toNatClampNeg, t0))))))) (some ((0 : Int32), t0))
def F_X12_houseOf (p1 : Int32) (p2 : Int32) (a_s : Nat → Int32) (f_thrown : Int32) : Option (Int32 × Int32) :=
  bnd (F_X12_isHouse p1 a_s) (fun o1 => brn (o1 = 0) (J_X12_houseOf_28 p1 p2 a_s (1 : Int32) f_thrown) (bnd (F_X12_in p2 (0 : Int32) (7 : Int32)) (fun o16 => brn (o16 = 0) (J_X12_houseOf_28 p1 p2 a_s (2 : Int32) f_thrown) (J_X12_houseOf_28 p1 p2 a_s (0 : Int32) f_thrown))))
def J_X12_sleepers_29 (p1 : Int32) (a_s : Nat → Int32) (r4 : Int32 → Int32 → Option (Int32)) (t0 : Int32) (t1 : Int32) (x3 : Int32) : Option (Int32) :=
  r4 (t1 + t0) (x3 + 1)
def L_X12_sleepers_4 (p1 : Int32) (a_s : Nat → Int32) : Nat → Int32 → Int32 → Option (Int32)
  | 0, _, _ => none
  | _n + 1, x2, x3 =>
    grd (inb (2 : Int32) 147) (brn ((a_s (2 : Int32).toNatClampNeg) ≤ x3) (some (x2)) (bnd (F_X12_sleeps x3 p1 a_s) (fun o1 => brn (o1 = 0) (J_X12_sleepers_29 p1 a_s (L_X12_sleepers_4 p1 a_s _n) (0 : Int32) x2 x3) (J_X12_sleepers_29 p1 a_s (L_X12_sleepers_4 p1 a_s _n) (1 : Int32) x2 x3))))
def F_X12_sleepers (p1 : Int32) (a_s : Nat → Int32) : Option (Int32) :=
  L_X12_sleepers_4 p1 a_s 100 (0 : Int32) (0 : Int32)
def J_X12_asleep_13 (p1 : Int32) (p2 : Int32) (a_s : Nat → Int32) (t0 : Int32) (f_thrown : Int32) : Option (Int32 × Int32) :=
  brn (t0 ≤ 0) (bnd (F_X12_sleepers p1 a_s) (fun o3 => some (o3, t0))) (some ((0 : Int32), t0))
def F_X12_asleep (p1 : Int32) (p2 : Int32) (a_s : Nat → Int32) (f_thrown : Int32) : Option (Int32 × Int32) :=
  bnd (F_X12_isHour p1) (fun o1 => brn (o1 = 0) (J_X12_asleep_13 p1 p2 a_s (1 : Int32) f_thrown) (J_X12_asleep_13 p1 p2 a_s (0 : Int32) f_thrown))
def J_X12_deepest_49 (a_s : Nat → Int32) (t0 : Int32) (x1 : Int32) (f_thrown : Int32) : Option (Int32 × Int32) :=
  brn (t0 ≤ 0) (some (x1, t0)) (some ((0 : Int32), t0))
def J_X12_deepest_28 (a_s : Nat → Int32) (r4 : Int32 → Int32 → (Int32) → Option (Int32 × Int32)) (t0 : Int32) (x2 : Int32) (f_thrown : Int32) : Option (Int32 × Int32) :=
  r4 t0 (x2 + 1) f_thrown
def L_X12_deepest_4 (a_s : Nat → Int32) : Nat → Int32 → Int32 → (Int32) → Option (Int32 × Int32)
  | 0, _, _, _ => none
  | _n + 1, x1, x2, f_thrown =>
    brn ((24 : Int32) ≤ x2) (bnd (F_X12_sleepers x1 a_s) (fun o1 => brn (o1 = 0) (J_X12_deepest_49 a_s (1 : Int32) x1 f_thrown) (J_X12_deepest_49 a_s (0 : Int32) x1 f_thrown))) (bnd (F_X12_sleepers x2 a_s) (fun o3 => bnd (F_X12_sleepers x1 a_s) (fun o5 => brn (o3 ≤ o5) (J_X12_deepest_28 a_s (L_X12_deepest_4 a_s _n) x1 x2 f_thrown) (J_X12_deepest_28 a_s (L_X12_deepest_4 a_s _n) x2 x2 f_thrown))))
def F_X12_deepest (a_s : Nat → Int32) (f_thrown : Int32) : Option (Int32 × Int32) :=
  L_X12_deepest_4 a_s 100 (0 : Int32) (1 : Int32) f_thrown
def F_X12_areTones (p0 : Int32) (p1 : Int32) : Option (Int32) :=
  bnd (F_X12_in p0 (0 : Int32) (9 : Int32)) (fun o1 => brn (o1 = 0) (some ((0 : Int32))) (bnd (F_X12_in p1 (0 : Int32) (9 : Int32)) (fun o3 => brn (o3 = 0) (some ((0 : Int32))) (brn ((p0 + p1) ≤ 0) (some ((0 : Int32))) (some ((1 : Int32)))))))
def J_X12_kind_27 (p1 : Int32) (p2 : Int32) (p3 : Int32) (p4 : Int32) (a_s : Nat → Int32) : Option (Int32) :=
  brn (p3 = 0) (brn (p4 ≤ (2 : Int32)) (some ((3 : Int32))) (some ((2 : Int32)))) (some ((3 : Int32)))
def F_X12_kind (p1 : Int32) (p2 : Int32) (p3 : Int32) (p4 : Int32) (a_s : Nat → Int32) : Option (Int32) :=
  brn (p4 = 0) (brn ((3 : Int32) ≤ p3) (J_X12_kind_27 p1 p2 p3 p4 a_s) (bnd (F_X12_sleeps p1 p2 a_s) (fun o1 => brn (o1 = 0) (some (p3 - (1 : Int32))) (some ((3 : Int32)))))) (J_X12_kind_27 p1 p2 p3 p4 a_s)
def J_X12_hears_65 (p1 : Int32) (p2 : Int32) (p3 : Int32) (t0 : Int32) (t1 : Int32) (t2 : Int32) (x4 : Int32) (a_s : Nat → Int32) : Option (Int32 × (Nat → Int32)) :=
  grd (inb t2 147) (some (x4, (upd a_s t2.toNatClampNeg (t1 + t0))))
def F_X12_hears (p1 : Int32) (p2 : Int32) (p3 : Int32) (a_s : Nat → Int32) : Option (Int32 × (Nat → Int32)) :=
  grd (inb (0 : Int32) 147) (bnd (F_X12_kind p1 (a_s (0 : Int32).toNatClampNeg) p2 p3 a_s) (fun o1 => grd (inb ((9 : Int32) + o1) 147) (grd (inb ((9 : Int32) + o1) 147) (bnd (F_X12_at p1 (3 : Int32)) (fun o3 => grd (inb o3 147) (grd (inb o3 147) (bnd (F_X12_at p1 (4 : Int32)) (fun o5 => grd (inb o5 147) (brn (o1 = (3 : Int32)) (J_X12_hears_65 p1 p2 p3 (1 : Int32) ((upd (upd a_s ((9 : Int32) + o1).toNatClampNeg ((a_s ((9 : Int32) + o1).toNatClampNeg) + (1 : Int32))) o3.toNatClampNeg (((upd a_s ((9 : Int32) + o1).toNatClampNeg ((a_s ((9 : Int32) + o1).toNatClampNeg) + (1 : Int32))) o3.toNatClampNeg) + (1 : Int32))) o5.toNatClampNeg) o5 o1 (upd (upd a_s ((9 : Int32) + o1).toNatClampNeg ((a_s ((9 : Int32) + o1).toNatClampNeg) + (1 : Int32))) o3.toNatClampNeg (((upd a_s ((9 : Int32) + o1).toNatClampNeg ((a_s ((9 : Int32) + o1).toNatClampNeg) + (1 : Int32))) o3.toNatClampNeg) + (1 : Int32)))) (J_X12_hears_65 p1 p2 p3 (0 : Int32) ((upd (upd a_s ((9 : Int32) + o1).toNatClampNeg ((a_s ((9 : Int32) + o1).toNatClampNeg) + (1 : Int32))) o3.toNatClampNeg (((upd a_s ((9 : Int32) + o1).toNatClampNeg ((a_s ((9 : Int32) + o1).toNatClampNeg) + (1 : Int32))) o3.toNatClampNeg) + (1 : Int32))) o5.toNatClampNeg) o5 o1 (upd (upd a_s ((9 : Int32) + o1).toNatClampNeg ((a_s ((9 : Int32) + o1).toNatClampNeg) + (1 : Int32))) o3.toNatClampNeg (((upd a_s ((9 : Int32) + o1).toNatClampNeg ((a_s ((9 : Int32) + o1).toNatClampNeg) + (1 : Int32))) o3.toNatClampNeg) + (1 : Int32)))))))))))))
def F_X12_areInHall (p1 : Int32) (p2 : Int32) (a_s : Nat → Int32) : Option (Int32) :=
  bnd (F_X12_cellOf p1 a_s) (fun o1 => bnd (F_X12_hallOn o1 a_s) (fun o3 => brn (p1 = p2) (some ((0 : Int32))) (brn (o3 < 0) (some ((0 : Int32))) (bnd (F_X12_cellOf p2 a_s) (fun o5 => bnd (F_X12_hallOn o5 a_s) (fun o7 => brn (o7 = o3) (some ((1 : Int32))) (some ((0 : Int32)))))))))
def F_X12_shortsAt (p1 : Int32) (p2 : Int32) (p3 : Int32) (a_s : Nat → Int32) : Option (Int32) :=
  bnd (F_X12_cellOf p1 a_s) (fun o1 => bnd (F_X12_cellOf p2 a_s) (fun o3 => bnd (F_X12_far o1 o3) (fun o5 => some (if (0 : Int32) < (p3 - o5) then (p3 - o5) else (0 : Int32)))))
def F_X12_echoes (p1 : Int32) (p2 : Int32) (p3 : Int32) (p4 : Int32) (a_s : Nat → Int32) : Option (Int32) :=
  bnd (F_X12_areInHall p1 p2 a_s) (fun o1 => brn (o1 = 0) (some ((0 : Int32))) (bnd (F_X12_shortsAt p1 p2 p3 a_s) (fun o3 => brn ((o3 + p4) ≤ 0) (some ((0 : Int32))) (some ((1 : Int32))))))
def J_X12_doRing_30 (p1 : Int32) (p2 : Int32) (p3 : Int32) (t0 : Int32) (f_thrown : Int32) (a_s : Nat → Int32) : Option (Int32 × Int32 × (Nat → Int32)) :=
  bnd (F_X12_fails t0 f_thrown) (fun o5 => some (o5.1, o5.2, a_s))
def J_X12_doRing_16 (p1 : Int32) (p2 : Int32) (p3 : Int32) (f_thrown : Int32) (a_s : Nat → Int32) : Option (Int32 × Int32 × (Nat → Int32)) :=
  bnd (F_X12_isHouse p1 a_s) (fun o3 => brn (o3 = 0) (J_X12_doRing_30 p1 p2 p3 (1 : Int32) f_thrown a_s) (J_X12_doRing_30 p1 p2 p3 (2 : Int32) f_thrown a_s))
def L_X12_doRing_119 (p1 : Int32) (p2 : Int32) (p3 : Int32) : Nat → Int32 → Int32 → (Int32) → (Nat → Int32) → Option (Int32 × Int32 × (Nat → Int32))
  | 0, _, _, _, _ => none
  | _n + 1, x4, x5, f_thrown, a_s =>
    grd (inb (2 : Int32) 147) (brn ((a_s (2 : Int32).toNatClampNeg) ≤ x5) (some (x4, f_thrown, a_s)) (bnd (F_X12_echoes p1 x5 p2 p3 a_s) (fun o11 => brn (o11 = 0) (L_X12_doRing_119 p1 p2 p3 _n x4 (x5 + 1) f_thrown a_s) (bnd (F_X12_shortsAt p1 x5 p2 a_s) (fun o13 => bnd (F_X12_hears x5 o13 p3 a_s) (fun o15 => grd (inb (6 : Int32) 147) (grd (inb (6 : Int32) 147) (L_X12_doRing_119 p1 p2 p3 _n x4 (x5 + 1) f_thrown (upd o15.2 (6 : Int32).toNatClampNeg ((o15.2 (6 : Int32).toNatClampNeg) + (1 : Int32)))))))))))
def J_X12_doRing_116 (p1 : Int32) (p2 : Int32) (p3 : Int32) (x4 : Int32) (f_thrown : Int32) (a_s : Nat → Int32) : Option (Int32 × Int32 × (Nat → Int32)) :=
  L_X12_doRing_119 p1 p2 p3 100 x4 (0 : Int32) f_thrown a_s
def L_X12_doRing_83 (p1 : Int32) (p2 : Int32) (p3 : Int32) : Nat → Int32 → Int32 → (Int32) → (Nat → Int32) → Option (Int32 × Int32 × (Nat → Int32))
  | 0, _, _, _, _ => none
  | _n + 1, x4, x5, f_thrown, a_s =>
    grd (inb (4 : Int32) 147) (brn ((a_s (4 : Int32).toNatClampNeg) ≤ x5) (J_X12_doRing_116 p1 p2 p3 x4 f_thrown a_s) (grd (inb (((139 : Int32) + ((2 : Int32) * x5)) + (1 : Int32)) 147) (L_X12_doRing_83 p1 p2 p3 _n x4 (x5 + 1) f_thrown (upd a_s (((139 : Int32) + ((2 : Int32) * x5)) + (1 : Int32)).toNatClampNeg ((-1) : Int32)))))
def F_X12_doRing (p1 : Int32) (p2 : Int32) (p3 : Int32) (f_thrown : Int32) (a_s : Nat → Int32) : Option (Int32 × Int32 × (Nat → Int32)) :=
  bnd (F_X12_isHouse p1 a_s) (fun o1 => brn (o1 = 0) (J_X12_doRing_16 p1 p2 p3 f_thrown a_s) (bnd (F_X12_areTones p2 p3) (fun o7 => brn (o7 = 0) (J_X12_doRing_16 p1 p2 p3 f_thrown a_s) (bnd (F_X12_hears p1 p2 p3 a_s) (fun o9 => grd (inb (5 : Int32) 147) (grd (inb (5 : Int32) 147) (brn (o9.1 = (3 : Int32)) (grd (inb (7 : Int32) 147) (grd (inb (7 : Int32) 147) (grd (inb (8 : Int32) 147) (L_X12_doRing_83 p1 p2 p3 100 o9.1 (0 : Int32) f_thrown (upd (upd (upd o9.2 (5 : Int32).toNatClampNeg ((o9.2 (5 : Int32).toNatClampNeg) + (1 : Int32))) (7 : Int32).toNatClampNeg (((upd o9.2 (5 : Int32).toNatClampNeg ((o9.2 (5 : Int32).toNatClampNeg) + (1 : Int32))) (7 : Int32).toNatClampNeg) + (1 : Int32))) (8 : Int32).toNatClampNeg (p1 + (1 : Int32))))))) (J_X12_doRing_116 p1 p2 p3 o9.1 f_thrown (upd o9.2 (5 : Int32).toNatClampNeg ((o9.2 (5 : Int32).toNatClampNeg) + (1 : Int32)))))))))))
def F_X12_ring (p1 : Int32) (p2 : Int32) (p3 : Int32) (f_pastMany : Int32) (f_thrown : Int32) (a_s : Nat → Int32) (a_before : Nat → Int32) (a_past : Nat → Int32) : Option (Int32 × Int32 × Int32 × (Nat → Int32) × (Nat → Int32) × (Nat → Int32)) :=
  bnd (F_X12_keep a_s f_thrown a_before) (fun o1 => bnd (F_X12_doRing p1 p2 p3 o1.1 a_s) (fun o3 => bnd (F_X12_ends o3.1 o3.2.1 o1.2 f_pastMany o3.2.2 a_past) (fun o5 => some (o5.1, o5.2.1, o3.2.1, o5.2.2.1, o1.2, o5.2.2.2))))
def J_X12_classOf_34 (p1 : Int32) (p2 : Int32) (p3 : Int32) (p4 : Int32) (a_s : Nat → Int32) (t0 : Int32) (f_thrown : Int32) : Option (Int32 × Int32) :=
  brn (t0 ≤ 0) (bnd (F_X12_kind p1 p2 p3 p4 a_s) (fun o3 => some (o3, t0))) (some ((0 : Int32), t0))
def J_X12_classOf_29 (p1 : Int32) (p2 : Int32) (p3 : Int32) (p4 : Int32) (a_s : Nat → Int32) (f_thrown : Int32) : Option (Int32 × Int32) :=
  J_X12_classOf_34 p1 p2 p3 p4 a_s (2 : Int32) f_thrown
def F_X12_classOf (p1 : Int32) (p2 : Int32) (p3 : Int32) (p4 : Int32) (a_s : Nat → Int32) (f_thrown : Int32) : Option (Int32 × Int32) :=
  bnd (F_X12_isHouse p1 a_s) (fun o1 => brn (o1 = 0) (J_X12_classOf_34 p1 p2 p3 p4 a_s (1 : Int32) f_thrown) (bnd (F_X12_isHour p2) (fun o5 => brn (o5 = 0) (J_X12_classOf_29 p1 p2 p3 p4 a_s f_thrown) (bnd (F_X12_areTones p3 p4) (fun o7 => brn (o7 = 0) (J_X12_classOf_29 p1 p2 p3 p4 a_s f_thrown) (J_X12_classOf_34 p1 p2 p3 p4 a_s (0 : Int32) f_thrown))))))
def J_X12_echo_49 (p1 : Int32) (p2 : Int32) (p3 : Int32) (a_s : Nat → Int32) (t0 : Int32) (f_thrown : Int32) : Option (Int32 × Int32) :=
  brn (t0 ≤ 0) (bnd (F_X12_shortsAt p1 p2 p3 a_s) (fun o3 => some (o3, t0))) (some ((0 : Int32), t0))
def J_X12_echo_17 (p1 : Int32) (p2 : Int32) (p3 : Int32) (a_s : Nat → Int32) (f_thrown : Int32) : Option (Int32 × Int32) :=
  J_X12_echo_49 p1 p2 p3 a_s (1 : Int32) f_thrown
def F_X12_echo (p1 : Int32) (p2 : Int32) (p3 : Int32) (a_s : Nat → Int32) (f_thrown : Int32) : Option (Int32 × Int32) :=
  bnd (F_X12_isHouse p1 a_s) (fun o1 => brn (o1 = 0) (J_X12_echo_17 p1 p2 p3 a_s f_thrown) (bnd (F_X12_isHouse p2 a_s) (fun o5 => brn (o5 = 0) (J_X12_echo_17 p1 p2 p3 a_s f_thrown) (bnd (F_X12_in p3 (0 : Int32) (9 : Int32)) (fun o7 => brn (o7 = 0) (J_X12_echo_49 p1 p2 p3 a_s (2 : Int32) f_thrown) (bnd (F_X12_areInHall p1 p2 a_s) (fun o9 => brn (o9 = 0) (J_X12_echo_49 p1 p2 p3 a_s (3 : Int32) f_thrown) (J_X12_echo_49 p1 p2 p3 a_s (0 : Int32) f_thrown))))))))
def J_X12_heard_81 (p1 : Int32) (p2 : Int32) (p3 : Int32) (a_s : Nat → Int32) (x4 : Int32) (f_thrown : Int32) : Option (Int32 × Int32) :=
  brn (f_thrown ≤ 0) (some (x4, f_thrown)) (some ((0 : Int32), f_thrown))
def J_X12_heard_72 (p1 : Int32) (p2 : Int32) (p3 : Int32) (a_s : Nat → Int32) (r35 : Int32 → Int32 → (Int32) → Option (Int32 × Int32)) (t0 : Int32) (t1 : Int32) (x5 : Int32) (f_thrown : Int32) : Option (Int32 × Int32) :=
  r35 (t1 + t0) (x5 + 1) f_thrown
def L_X12_heard_35 (p1 : Int32) (p2 : Int32) (p3 : Int32) (a_s : Nat → Int32) : Nat → Int32 → Int32 → (Int32) → Option (Int32 × Int32)
  | 0, _, _, _ => none
  | _n + 1, x4, x5, f_thrown =>
    grd (inb (2 : Int32) 147) (brn ((a_s (2 : Int32).toNatClampNeg) ≤ x5) (J_X12_heard_81 p1 p2 p3 a_s x4 f_thrown) (brn (f_thrown = 0) (bnd (F_X12_echoes p1 x5 p2 p3 a_s) (fun o3 => brn (o3 = 0) (J_X12_heard_72 p1 p2 p3 a_s (L_X12_heard_35 p1 p2 p3 a_s _n) (0 : Int32) x4 x5 f_thrown) (J_X12_heard_72 p1 p2 p3 a_s (L_X12_heard_35 p1 p2 p3 a_s _n) (1 : Int32) x4 x5 f_thrown))) (J_X12_heard_81 p1 p2 p3 a_s x4 f_thrown)))
def J_X12_heard_26 (p1 : Int32) (p2 : Int32) (p3 : Int32) (a_s : Nat → Int32) (t0 : Int32) (f_thrown : Int32) : Option (Int32 × Int32) :=
  L_X12_heard_35 p1 p2 p3 a_s 100 (1 : Int32) (0 : Int32) t0
def F_X12_heard (p1 : Int32) (p2 : Int32) (p3 : Int32) (a_s : Nat → Int32) (f_thrown : Int32) : Option (Int32 × Int32) :=
  bnd (F_X12_isHouse p1 a_s) (fun o1 => brn (o1 = 0) (J_X12_heard_26 p1 p2 p3 a_s (1 : Int32) f_thrown) (bnd (F_X12_areTones p2 p3) (fun o5 => brn (o5 = 0) (J_X12_heard_26 p1 p2 p3 a_s (2 : Int32) f_thrown) (J_X12_heard_26 p1 p2 p3 a_s (0 : Int32) f_thrown))))
def J_X12_rings_15 (p1 : Int32) (a_s : Nat → Int32) (t0 : Int32) (f_thrown : Int32) : Option (Int32 × Int32) :=
  brn (t0 ≤ 0) (grd (inb ((9 : Int32) + p1) 147) (some (a_s ((9 : Int32) + p1).toNatClampNeg, t0))) (some ((0 : Int32), t0))
def F_X12_rings (p1 : Int32) (a_s : Nat → Int32) (f_thrown : Int32) : Option (Int32 × Int32) :=
  bnd (F_X12_in p1 (0 : Int32) (3 : Int32)) (fun o1 => brn (o1 = 0) (J_X12_rings_15 p1 a_s (1 : Int32) f_thrown) (J_X12_rings_15 p1 a_s (0 : Int32) f_thrown))
def F_X12_doPost (p1 : Int32) (f_thrown : Int32) (f_reason : Int32) (f_detail : Int32) (f_isRefused : Int32) (a_s : Nat → Int32) : Option (Int32 × Int32 × Int32 × Int32 × Int32 × (Nat → Int32)) :=
  grd (inb (4 : Int32) 147) (bnd (F_X12_isCell p1) (fun o1 => brn (o1 = 0) (bnd (F_X12_fails (1 : Int32) f_thrown) (fun o3 => some (o3.1, o3.2, f_reason, f_detail, f_isRefused, a_s))) (bnd (F_X12_isBlocked p1 a_s) (fun o5 => brn (o5 = 0) (bnd (F_X12_postOn p1 a_s) (fun o7 => brn (o7 < 0) (brn ((a_s (4 : Int32).toNatClampNeg) = (4 : Int32)) (bnd (F_X12_refuse (2 : Int32) (1 : Int32) (4 : Int32) f_thrown f_reason f_detail f_isRefused) (fun o9 => some (o9.1, o9.2.1, o9.2.2.1, o9.2.2.2.1, o9.2.2.2.2, a_s))) (grd (inb ((139 : Int32) + ((2 : Int32) * (a_s (4 : Int32).toNatClampNeg))) 147) (grd (inb (((139 : Int32) + ((2 : Int32) * (a_s (4 : Int32).toNatClampNeg))) + (1 : Int32)) 147) (grd (inb (4 : Int32) 147) (grd (inb (4 : Int32) 147) (some (a_s (4 : Int32).toNatClampNeg, f_thrown, f_reason, f_detail, f_isRefused, (upd (upd (upd a_s ((139 : Int32) + ((2 : Int32) * (a_s (4 : Int32).toNatClampNeg))).toNatClampNeg p1) (((139 : Int32) + ((2 : Int32) * (a_s (4 : Int32).toNatClampNeg))) + (1 : Int32)).toNatClampNeg ((-1) : Int32)) (4 : Int32).toNatClampNeg (((upd (upd a_s ((139 : Int32) + ((2 : Int32) * (a_s (4 : Int32).toNatClampNeg))).toNatClampNeg p1) (((139 : Int32) + ((2 : Int32) * (a_s (4 : Int32).toNatClampNeg))) + (1 : Int32)).toNatClampNeg ((-1) : Int32)) (4 : Int32).toNatClampNeg) + (1 : Int32)))))))))) (bnd (F_X12_postOn p1 a_s) (fun o11 => bnd (F_X12_refuse (2 : Int32) (7 : Int32) o11 f_thrown f_reason f_detail f_isRefused) (fun o13 => some (o13.1, o13.2.1, o13.2.2.1, o13.2.2.2.1, o13.2.2.2.2, a_s)))))) (bnd (F_X12_refuse (2 : Int32) (2 : Int32) p1 f_thrown f_reason f_detail f_isRefused) (fun o15 => some (o15.1, o15.2.1, o15.2.2.1, o15.2.2.2.1, o15.2.2.2.2, a_s)))))))
def F_X12_post (p1 : Int32) (f_pastMany : Int32) (f_thrown : Int32) (f_reason : Int32) (f_detail : Int32) (f_isRefused : Int32) (a_s : Nat → Int32) (a_before : Nat → Int32) (a_past : Nat → Int32) : Option (Int32 × Int32 × Int32 × Int32 × Int32 × Int32 × (Nat → Int32) × (Nat → Int32) × (Nat → Int32)) :=
  bnd (F_X12_keep a_s f_thrown a_before) (fun o1 => bnd (F_X12_doPost p1 o1.1 f_reason f_detail f_isRefused a_s) (fun o3 => bnd (F_X12_ends o3.1 o3.2.1 o1.2 f_pastMany o3.2.2.2.2.2 a_past) (fun o5 => some (o5.1, o5.2.1, o3.2.1, o3.2.2.1, o3.2.2.2.1, o3.2.2.2.2.1, o5.2.2.1, o1.2, o5.2.2.2))))
def F_X12_doDropPost (p1 : Int32) (f_thrown : Int32) (a_s : Nat → Int32) : Option (Int32 × Int32 × (Nat → Int32)) :=
  bnd (F_X12_isPost p1 a_s) (fun o1 => brn (o1 = 0) (bnd (F_X12_fails (1 : Int32) f_thrown) (fun o3 => some (o3.1, o3.2, a_s))) (grd (inb (4 : Int32) 147) (grd (cpyok ((139 : Int32) + ((2 : Int32) * (p1 + (1 : Int32)))) ((139 : Int32) + ((2 : Int32) * p1)) ((2 : Int32) * (((a_s (4 : Int32).toNatClampNeg) - (1 : Int32)) - p1)) 147 147) (grd (inb (4 : Int32) 147) (some ((a_s (4 : Int32).toNatClampNeg) - (1 : Int32), f_thrown, (upd (va_cpy a_s a_s ((139 : Int32) + ((2 : Int32) * (p1 + (1 : Int32)))).toNatClampNeg ((139 : Int32) + ((2 : Int32) * p1)).toNatClampNeg ((2 : Int32) * (((a_s (4 : Int32).toNatClampNeg) - (1 : Int32)) - p1)).toNatClampNeg) (4 : Int32).toNatClampNeg ((a_s (4 : Int32).toNatClampNeg) - (1 : Int32)))))))))
def F_X12_dropPost (p1 : Int32) (f_pastMany : Int32) (f_thrown : Int32) (a_s : Nat → Int32) (a_before : Nat → Int32) (a_past : Nat → Int32) : Option (Int32 × Int32 × Int32 × (Nat → Int32) × (Nat → Int32) × (Nat → Int32)) :=
  bnd (F_X12_keep a_s f_thrown a_before) (fun o1 => bnd (F_X12_doDropPost p1 o1.1 a_s) (fun o3 => bnd (F_X12_ends o3.1 o3.2.1 o1.2 f_pastMany o3.2.2 a_past) (fun o5 => some (o5.1, o5.2.1, o3.2.1, o5.2.2.1, o1.2, o5.2.2.2))))
def J_X12_canBe_77 (p1 : Int32) (a_s : Nat → Int32) (r16 : Int32 → Int32 → Option (Int32)) (t0 : Int32) (x3 : Int32) : Option (Int32) :=
  r16 t0 (x3 + 1)
def J_X12_canBe_76 (p1 : Int32) (a_s : Nat → Int32) (r16 : Int32 → Int32 → Option (Int32)) (x3 : Int32) : Option (Int32) :=
  J_X12_canBe_77 p1 a_s (r16) (0 : Int32) x3
def J_X12_canBe_72 (p1 : Int32) (a_s : Nat → Int32) (r16 : Int32 → Int32 → Option (Int32)) (x3 : Int32) : Option (Int32) :=
  J_X12_canBe_77 p1 a_s (r16) (1 : Int32) x3
def L_X12_canBe_16 (p1 : Int32) (a_s : Nat → Int32) : Nat → Int32 → Int32 → Option (Int32)
  | 0, _, _ => none
  | _n + 1, x2, x3 =>
    grd (inb (4 : Int32) 147) (brn ((a_s (4 : Int32).toNatClampNeg) ≤ x3) (grd (x2 = 0 ∨ x2 = 1) (some (x2))) (grd (inb (((139 : Int32) + ((2 : Int32) * x3)) + (1 : Int32)) 147) (brn (x2 = 0) (J_X12_canBe_76 p1 a_s (L_X12_canBe_16 p1 a_s _n) x3) (brn ((a_s (((139 : Int32) + ((2 : Int32) * x3)) + (1 : Int32)).toNatClampNeg) < 0) (J_X12_canBe_72 p1 a_s (L_X12_canBe_16 p1 a_s _n) x3) (grd (inb ((139 : Int32) + ((2 : Int32) * x3)) 147) (bnd (F_X12_far p1 (a_s ((139 : Int32) + ((2 : Int32) * x3)).toNatClampNeg)) (fun o4 => brn (o4 = (a_s (((139 : Int32) + ((2 : Int32) * x3)) + (1 : Int32)).toNatClampNeg)) (J_X12_canBe_72 p1 a_s (L_X12_canBe_16 p1 a_s _n) x3) (J_X12_canBe_76 p1 a_s (L_X12_canBe_16 p1 a_s _n) x3))))))))
def J_X12_canBe_13 (p1 : Int32) (a_s : Nat → Int32) (t0 : Int32) : Option (Int32) :=
  L_X12_canBe_16 p1 a_s 100 t0 (0 : Int32)
def F_X12_canBe (p1 : Int32) (a_s : Nat → Int32) : Option (Int32) :=
  bnd (F_X12_isBlocked p1 a_s) (fun o1 => brn (o1 = 0) (J_X12_canBe_13 p1 a_s (1 : Int32)) (J_X12_canBe_13 p1 a_s (0 : Int32)))
def J_X12_canBeMany_24 (a_s : Nat → Int32) (r4 : Int32 → Int32 → Option (Int32)) (t0 : Int32) (t1 : Int32) (x2 : Int32) : Option (Int32) :=
  r4 (t1 + t0) (x2 + 1)
def L_X12_canBeMany_4 (a_s : Nat → Int32) : Nat → Int32 → Int32 → Option (Int32)
  | 0, _, _ => none
  | _n + 1, x1, x2 =>
    brn ((64 : Int32) ≤ x2) (some (x1)) (bnd (F_X12_canBe x2 a_s) (fun o1 => brn (o1 = 0) (J_X12_canBeMany_24 a_s (L_X12_canBeMany_4 a_s _n) (0 : Int32) x1 x2) (J_X12_canBeMany_24 a_s (L_X12_canBeMany_4 a_s _n) (1 : Int32) x1 x2)))
def F_X12_canBeMany (a_s : Nat → Int32) : Option (Int32) :=
  L_X12_canBeMany_4 a_s 100 (0 : Int32) (0 : Int32)
def J_X12_doTell_32 (p1 : Int32) (p2 : Int32) (t0 : Int32) (f_thrown : Int32) (f_reason : Int32) (f_detail : Int32) (f_isRefused : Int32) (a_s : Nat → Int32) : Option (Int32 × Int32 × Int32 × Int32 × Int32 × (Nat → Int32)) :=
  bnd (F_X12_fails t0 f_thrown) (fun o5 => some (o5.1, o5.2, f_reason, f_detail, f_isRefused, a_s))
def J_X12_doTell_18 (p1 : Int32) (p2 : Int32) (f_thrown : Int32) (f_reason : Int32) (f_detail : Int32) (f_isRefused : Int32) (a_s : Nat → Int32) : Option (Int32 × Int32 × Int32 × Int32 × Int32 × (Nat → Int32)) :=
  bnd (F_X12_isPost p1 a_s) (fun o3 => brn (o3 = 0) (J_X12_doTell_32 p1 p2 (1 : Int32) f_thrown f_reason f_detail f_isRefused a_s) (J_X12_doTell_32 p1 p2 (2 : Int32) f_thrown f_reason f_detail f_isRefused a_s))
def F_X12_doTell (p1 : Int32) (p2 : Int32) (f_thrown : Int32) (f_reason : Int32) (f_detail : Int32) (f_isRefused : Int32) (a_s : Nat → Int32) : Option (Int32 × Int32 × Int32 × Int32 × Int32 × (Nat → Int32)) :=
  bnd (F_X12_isPost p1 a_s) (fun o1 => brn (o1 = 0) (J_X12_doTell_18 p1 p2 f_thrown f_reason f_detail f_isRefused a_s) (bnd (F_X12_in p2 (0 : Int32) (14 : Int32)) (fun o7 => brn (o7 = 0) (J_X12_doTell_18 p1 p2 f_thrown f_reason f_detail f_isRefused a_s) (grd (inb (8 : Int32) 147) (brn ((a_s (8 : Int32).toNatClampNeg) = 0) (grd (inb (12 : Int32) 147) (bnd (F_X12_refuse (3 : Int32) (5 : Int32) (a_s (12 : Int32).toNatClampNeg) f_thrown f_reason f_detail f_isRefused) (fun o9 => some (o9.1, o9.2.1, o9.2.2.1, o9.2.2.2.1, o9.2.2.2.2, a_s)))) (grd (inb (((139 : Int32) + ((2 : Int32) * p1)) + (1 : Int32)) 147) (brn ((a_s (((139 : Int32) + ((2 : Int32) * p1)) + (1 : Int32)).toNatClampNeg) = p2) (bnd (F_X12_refuse (3 : Int32) (6 : Int32) p2 f_thrown f_reason f_detail f_isRefused) (fun o11 => some (o11.1, o11.2.1, o11.2.2.1, o11.2.2.2.1, o11.2.2.2.2, a_s))) (grd (inb (((139 : Int32) + ((2 : Int32) * p1)) + (1 : Int32)) 147) (bnd (F_X12_canBeMany (upd a_s (((139 : Int32) + ((2 : Int32) * p1)) + (1 : Int32)).toNatClampNeg p2)) (fun o13 => some (o13, f_thrown, f_reason, f_detail, f_isRefused, (upd a_s (((139 : Int32) + ((2 : Int32) * p1)) + (1 : Int32)).toNatClampNeg p2))))))))))))
def F_X12_tell (p1 : Int32) (p2 : Int32) (f_pastMany : Int32) (f_thrown : Int32) (f_reason : Int32) (f_detail : Int32) (f_isRefused : Int32) (a_s : Nat → Int32) (a_before : Nat → Int32) (a_past : Nat → Int32) : Option (Int32 × Int32 × Int32 × Int32 × Int32 × Int32 × (Nat → Int32) × (Nat → Int32) × (Nat → Int32)) :=
  bnd (F_X12_keep a_s f_thrown a_before) (fun o1 => bnd (F_X12_doTell p1 p2 o1.1 f_reason f_detail f_isRefused a_s) (fun o3 => bnd (F_X12_ends o3.1 o3.2.1 o1.2 f_pastMany o3.2.2.2.2.2 a_past) (fun o5 => some (o5.1, o5.2.1, o3.2.1, o3.2.2.1, o3.2.2.2.1, o3.2.2.2.2.1, o5.2.2.1, o1.2, o5.2.2.2))))
def J_X12_postOf_76 (p1 : Int32) (p2 : Int32) (a_s : Nat → Int32) (t0 : Int32) (x3 : Int32) (f_thrown : Int32) : Option (Int32 × Int32) :=
  brn (t0 ≤ 0) (some (x3, t0)) (some ((0 : Int32), t0))
def J_X12_postOf_72 (p1 : Int32) (p2 : Int32) (a_s : Nat → Int32) (x3 : Int32) (f_thrown : Int32) : Option (Int32 × Int32) :=
  J_X12_postOf_76 p1 p2 a_s f_thrown x3 f_thrown
def J_X12_postOf_55 (p1 : Int32) (p2 : Int32) (a_s : Nat → Int32) (t0 : Int32) (f_thrown : Int32) : Option (Int32 × Int32) :=
  brn (f_thrown = 0) (brn (0 ≤ t0) (J_X12_postOf_72 p1 p2 a_s t0 f_thrown) (J_X12_postOf_76 p1 p2 a_s (3 : Int32) t0 f_thrown)) (J_X12_postOf_72 p1 p2 a_s t0 f_thrown)
def J_X12_postOf_27 (p1 : Int32) (p2 : Int32) (a_s : Nat → Int32) (t0 : Int32) (f_thrown : Int32) : Option (Int32 × Int32) :=
  brn (t0 ≤ 0) (grd (inb (((139 : Int32) + ((2 : Int32) * p1)) + p2) 147) (J_X12_postOf_55 p1 p2 a_s (a_s (((139 : Int32) + ((2 : Int32) * p1)) + p2).toNatClampNeg) t0)) (J_X12_postOf_55 p1 p2 a_s (0 : Int32) t0)
def F_X12_postOf (p1 : Int32) (p2 : Int32) (a_s : Nat → Int32) (f_thrown : Int32) : Option (Int32 × Int32) :=
  bnd (F_X12_isPost p1 a_s) (fun o1 => brn (o1 = 0) (J_X12_postOf_27 p1 p2 a_s (1 : Int32) f_thrown) (bnd (F_X12_in p2 (0 : Int32) (1 : Int32)) (fun o3 => brn (o3 = 0) (J_X12_postOf_27 p1 p2 a_s (2 : Int32) f_thrown) (J_X12_postOf_27 p1 p2 a_s (0 : Int32) f_thrown))))
def J_X12_fits_27 (p1 : Int32) (a_s : Nat → Int32) (t0 : Int32) (f_thrown : Int32) : Option (Int32 × Int32) :=
  brn (t0 = 0) (bnd (F_X12_canBe p1 a_s) (fun o3 => brn (o3 = 0) (some ((0 : Int32), t0)) (some ((1 : Int32), t0)))) (some ((0 : Int32), t0))
def F_X12_fits (p1 : Int32) (a_s : Nat → Int32) (f_thrown : Int32) : Option (Int32 × Int32) :=
  bnd (F_X12_isCell p1) (fun o1 => brn (o1 = 0) (J_X12_fits_27 p1 a_s (1 : Int32) f_thrown) (grd (inb (8 : Int32) 147) (brn ((a_s (8 : Int32).toNatClampNeg) = 0) (J_X12_fits_27 p1 a_s (2 : Int32) f_thrown) (J_X12_fits_27 p1 a_s (0 : Int32) f_thrown))))
def J_X12_fitting_16 (p1 : Int32) (a_s : Nat → Int32) (t0 : Int32) (f_thrown : Int32) : Option (Int32 × Int32) :=
  brn (t0 ≤ 0) (bnd (F_X12_canBeMany a_s) (fun o1 => some (o1, t0))) (some ((0 : Int32), t0))
def F_X12_fitting (p1 : Int32) (a_s : Nat → Int32) (f_thrown : Int32) : Option (Int32 × Int32) :=
  grd (inb (8 : Int32) 147) (brn ((a_s (8 : Int32).toNatClampNeg) = 0) (J_X12_fitting_16 p1 a_s (1 : Int32) f_thrown) (J_X12_fitting_16 p1 a_s (0 : Int32) f_thrown))
def J_X12_fix_52 (p1 : Int32) (a_s : Nat → Int32) (f_thrown : Int32) : Option (Int32 × Int32) :=
  bnd (F_X12_fails (1 : Int32) f_thrown) (fun o1 => some (o1.1, o1.2))
def L_X12_fix_4 (p1 : Int32) (a_s : Nat → Int32) : Nat → Int32 → Int32 → (Int32) → Option (Int32 × Int32)
  | 0, _, _, _ => none
  | _n + 1, x2, x3, f_thrown =>
    brn ((64 : Int32) ≤ x3) (J_X12_fix_52 p1 a_s f_thrown) (grd (inb (8 : Int32) 147) (brn ((a_s (8 : Int32).toNatClampNeg) ≤ 0) (J_X12_fix_52 p1 a_s f_thrown) (brn (p1 < 0) (J_X12_fix_52 p1 a_s f_thrown) (bnd (F_X12_canBe x3 a_s) (fun o3 => brn (o3 = 0) (L_X12_fix_4 p1 a_s _n x2 (x3 + 1) f_thrown) (brn (x2 = 0) (some (x3, (0 : Int32))) (L_X12_fix_4 p1 a_s _n (x2 + (-1)) (x3 + 1) f_thrown)))))))
def F_X12_fix (p1 : Int32) (a_s : Nat → Int32) (f_thrown : Int32) : Option (Int32 × Int32) :=
  L_X12_fix_4 p1 a_s 100 p1 (0 : Int32) f_thrown
def J_X12_tellsWays_131 (p1 : Int32) (a_s : Nat → Int32) (r34 : Int32 → (Nat → Int32) → Option ((Nat → Int32))) (r42 : Int32 → Int32 → (Nat → Int32) → Option ((Nat → Int32))) (r51 : Int32 → Int32 → Int32 → (Nat → Int32) → Option ((Nat → Int32))) (t0 : Int32) (t1 : Int32) (x2 : Int32) (x3 : Int32) (x4 : Int32) (a_steps : Nat → Int32) : Option ((Nat → Int32)) :=
  grd (inb t1 64) (r51 x2 x3 (x4 + 1) (upd a_steps t1.toNatClampNeg t0))
def J_X12_tellsWays_105 (p1 : Int32) (a_s : Nat → Int32) (r34 : Int32 → (Nat → Int32) → Option ((Nat → Int32))) (r42 : Int32 → Int32 → (Nat → Int32) → Option ((Nat → Int32))) (r51 : Int32 → Int32 → Int32 → (Nat → Int32) → Option ((Nat → Int32))) (t0 : Int32) (x2 : Int32) (x3 : Int32) (x4 : Int32) (a_steps : Nat → Int32) : Option ((Nat → Int32)) :=
  brn (t0 = 0) (grd (inb x4 64) (J_X12_tellsWays_131 p1 a_s (r34) (r42) (r51) (a_steps x4.toNatClampNeg) x4 x2 x3 x4 a_steps)) (J_X12_tellsWays_131 p1 a_s (r34) (r42) (r51) (x2 + (1 : Int32)) x4 x2 x3 x4 a_steps)
def J_X12_tellsWays_104 (p1 : Int32) (a_s : Nat → Int32) (r34 : Int32 → (Nat → Int32) → Option ((Nat → Int32))) (r42 : Int32 → Int32 → (Nat → Int32) → Option ((Nat → Int32))) (r51 : Int32 → Int32 → Int32 → (Nat → Int32) → Option ((Nat → Int32))) (x2 : Int32) (x3 : Int32) (x4 : Int32) (a_steps : Nat → Int32) : Option ((Nat → Int32)) :=
  J_X12_tellsWays_105 p1 a_s (r34) (r42) (r51) (0 : Int32) x2 x3 x4 a_steps
def L_X12_tellsWays_51 (p1 : Int32) (a_s : Nat → Int32) (r34 : Int32 → (Nat → Int32) → Option ((Nat → Int32))) (r42 : Int32 → Int32 → (Nat → Int32) → Option ((Nat → Int32))) : Nat → Int32 → Int32 → Int32 → (Nat → Int32) → Option ((Nat → Int32))
  | 0, _, _, _, _ => none
  | _n + 1, x2, x3, x4, a_steps =>
    brn ((64 : Int32) ≤ x4) (r42 x2 (x3 + 1) a_steps) (grd (inb x3 64) (brn ((a_steps x3.toNatClampNeg) = x2) (bnd (F_X12_far x3 x4) (fun o1 => brn (o1 = (1 : Int32)) (bnd (F_X12_isBlocked x4 a_s) (fun o3 => brn (o3 = 0) (grd (inb x4 64) (brn ((a_steps x4.toNatClampNeg) = (1000 : Int32)) (J_X12_tellsWays_105 p1 a_s (r34) (r42) (L_X12_tellsWays_51 p1 a_s r34 r42 _n) (1 : Int32) x2 x3 x4 a_steps) (J_X12_tellsWays_104 p1 a_s (r34) (r42) (L_X12_tellsWays_51 p1 a_s r34 r42 _n) x2 x3 x4 a_steps))) (J_X12_tellsWays_104 p1 a_s (r34) (r42) (L_X12_tellsWays_51 p1 a_s r34 r42 _n) x2 x3 x4 a_steps))) (J_X12_tellsWays_104 p1 a_s (r34) (r42) (L_X12_tellsWays_51 p1 a_s r34 r42 _n) x2 x3 x4 a_steps))) (r42 x2 (x3 + 1) a_steps)))
def L_X12_tellsWays_42 (p1 : Int32) (a_s : Nat → Int32) (r34 : Int32 → (Nat → Int32) → Option ((Nat → Int32))) : Nat → Int32 → Int32 → (Nat → Int32) → Option ((Nat → Int32))
  | 0, _, _, _ => none
  | _n + 1, x2, x3, a_steps =>
    brn ((64 : Int32) ≤ x3) (r34 (x2 + 1) a_steps) (L_X12_tellsWays_51 p1 a_s (r34) (L_X12_tellsWays_42 p1 a_s r34 _n) 100 x2 x3 (0 : Int32) a_steps)
def L_X12_tellsWays_34 (p1 : Int32) (a_s : Nat → Int32) : Nat → Int32 → (Nat → Int32) → Option ((Nat → Int32))
  | 0, _, _ => none
  | _n + 1, x2, a_steps =>
    brn ((64 : Int32) ≤ x2) (some (a_steps)) (L_X12_tellsWays_42 p1 a_s (L_X12_tellsWays_34 p1 a_s _n) 100 x2 (0 : Int32) a_steps)
def J_X12_tellsWays_25 (p1 : Int32) (a_s : Nat → Int32) (r2 : Int32 → (Nat → Int32) → Option ((Nat → Int32))) (t0 : Int32) (t1 : Int32) (x2 : Int32) (a_steps : Nat → Int32) : Option ((Nat → Int32)) :=
  grd (inb t1 64) (r2 (x2 + 1) (upd a_steps t1.toNatClampNeg t0))
def L_X12_tellsWays_2 (p1 : Int32) (a_s : Nat → Int32) : Nat → Int32 → (Nat → Int32) → Option ((Nat → Int32))
  | 0, _, _ => none
  | _n + 1, x2, a_steps =>
    brn ((64 : Int32) ≤ x2) (L_X12_tellsWays_34 p1 a_s 100 (0 : Int32) a_steps) (brn (x2 = p1) (J_X12_tellsWays_25 p1 a_s (L_X12_tellsWays_2 p1 a_s _n) (0 : Int32) x2 x2 a_steps) (J_X12_tellsWays_25 p1 a_s (L_X12_tellsWays_2 p1 a_s _n) (1000 : Int32) x2 x2 a_steps))
def F_X12_tellsWays (p1 : Int32) (a_s : Nat → Int32) (a_steps : Nat → Int32) : Option ((Nat → Int32)) :=
  L_X12_tellsWays_2 p1 a_s 100 (0 : Int32) a_steps
def J_X12_apart_20 (p1 : Int32) (p2 : Int32) (t0 : Int32) (f_thrown : Int32) : Option (Int32 × Int32) :=
  brn (t0 ≤ 0) (bnd (F_X12_far p1 p2) (fun o3 => some (o3, t0))) (some ((0 : Int32), t0))
def J_X12_apart_19 (p1 : Int32) (p2 : Int32) (f_thrown : Int32) : Option (Int32 × Int32) :=
  J_X12_apart_20 p1 p2 (1 : Int32) f_thrown
def F_X12_apart (p1 : Int32) (p2 : Int32) (f_thrown : Int32) : Option (Int32 × Int32) :=
  bnd (F_X12_isCell p1) (fun o1 => brn (o1 = 0) (J_X12_apart_19 p1 p2 f_thrown) (bnd (F_X12_isCell p2) (fun o5 => brn (o5 = 0) (J_X12_apart_19 p1 p2 f_thrown) (J_X12_apart_20 p1 p2 (0 : Int32) f_thrown))))
def J_X12_way_14 (p1 : Int32) (p2 : Int32) (p3 : Int32) (a_s : Nat → Int32) (f_thrown : Int32) (a_steps : Nat → Int32) : Option (Int32 × Int32 × (Nat → Int32)) :=
  bnd (F_X12_fails (1 : Int32) f_thrown) (fun o3 => some (o3.1, o3.2, a_steps))
def J_X12_way_43 (p1 : Int32) (p2 : Int32) (p3 : Int32) (a_s : Nat → Int32) (t0 : Int32) (f_thrown : Int32) (a_steps : Nat → Int32) : Option (Int32 × Int32 × (Nat → Int32)) :=
  brn (t0 ≤ 0) (grd (inb p2 64) (some (a_steps p2.toNatClampNeg, t0, a_steps))) (some ((0 : Int32), t0, a_steps))
def F_X12_way (p1 : Int32) (p2 : Int32) (p3 : Int32) (a_s : Nat → Int32) (f_thrown : Int32) (a_steps : Nat → Int32) : Option (Int32 × Int32 × (Nat → Int32)) :=
  bnd (F_X12_isCell p1) (fun o1 => brn (o1 = 0) (J_X12_way_14 p1 p2 p3 a_s f_thrown a_steps) (bnd (F_X12_isCell p2) (fun o5 => brn (o5 = 0) (J_X12_way_14 p1 p2 p3 a_s f_thrown a_steps) (bnd (F_X12_tellsWays p1 a_s a_steps) (fun o7 => grd (inb p2 64) (brn ((o7 p2.toNatClampNeg) = (1000 : Int32)) (J_X12_way_43 p1 p2 p3 a_s (2 : Int32) f_thrown o7) (J_X12_way_43 p1 p2 p3 a_s (0 : Int32) f_thrown o7)))))))
def J_X12_tellsRound_178 (a_s : Nat → Int32) (r27 : Int32 → Int32 → (Int32) → (Int32) → (Nat → Int32) → (Nat → Int32) → Option (Int32 × Int32 × (Nat → Int32) × (Nat → Int32))) (t0 : Int32) (t1 : Int32) (x1 : Int32) (x2 : Int32) (f_goesMany : Int32) (f_roundSteps : Int32) (a_steps : Nat → Int32) (a_goes : Nat → Int32) : Option (Int32 × Int32 × (Nat → Int32) × (Nat → Int32)) :=
  r27 x1 x2 f_goesMany (t1 + t0) a_steps a_goes
def J_X12_tellsRound_148 (a_s : Nat → Int32) (r27 : Int32 → Int32 → (Int32) → (Int32) → (Nat → Int32) → (Nat → Int32) → Option (Int32 × Int32 × (Nat → Int32) × (Nat → Int32))) (r70 : Int32 → Int32 → Int32 → (Int32) → (Int32) → (Nat → Int32) → (Nat → Int32) → Option (Int32 × Int32 × (Nat → Int32) × (Nat → Int32))) (t0 : Int32) (x2 : Int32) (x3 : Int32) (f_goesMany : Int32) (f_roundSteps : Int32) (a_steps : Nat → Int32) (a_goes : Nat → Int32) : Option (Int32 × Int32 × (Nat → Int32) × (Nat → Int32)) :=
  r70 t0 x2 (x3 + 1) f_goesMany f_roundSteps a_steps a_goes
def J_X12_tellsRound_147 (a_s : Nat → Int32) (r27 : Int32 → Int32 → (Int32) → (Int32) → (Nat → Int32) → (Nat → Int32) → Option (Int32 × Int32 × (Nat → Int32) × (Nat → Int32))) (r70 : Int32 → Int32 → Int32 → (Int32) → (Int32) → (Nat → Int32) → (Nat → Int32) → Option (Int32 × Int32 × (Nat → Int32) × (Nat → Int32))) (x1 : Int32) (x2 : Int32) (x3 : Int32) (f_goesMany : Int32) (f_roundSteps : Int32) (a_steps : Nat → Int32) (a_goes : Nat → Int32) : Option (Int32 × Int32 × (Nat → Int32) × (Nat → Int32)) :=
  J_X12_tellsRound_148 a_s (r27) (r70) x1 x2 x3 f_goesMany f_roundSteps a_steps a_goes
def J_X12_tellsRound_143 (a_s : Nat → Int32) (r27 : Int32 → Int32 → (Int32) → (Int32) → (Nat → Int32) → (Nat → Int32) → Option (Int32 × Int32 × (Nat → Int32) × (Nat → Int32))) (r70 : Int32 → Int32 → Int32 → (Int32) → (Int32) → (Nat → Int32) → (Nat → Int32) → Option (Int32 × Int32 × (Nat → Int32) × (Nat → Int32))) (x2 : Int32) (x3 : Int32) (f_goesMany : Int32) (f_roundSteps : Int32) (a_steps : Nat → Int32) (a_goes : Nat → Int32) : Option (Int32 × Int32 × (Nat → Int32) × (Nat → Int32)) :=
  J_X12_tellsRound_148 a_s (r27) (r70) x3 x2 x3 f_goesMany f_roundSteps a_steps a_goes
def J_X12_tellsRound_109 (a_s : Nat → Int32) (r27 : Int32 → Int32 → (Int32) → (Int32) → (Nat → Int32) → (Nat → Int32) → Option (Int32 × Int32 × (Nat → Int32) × (Nat → Int32))) (r70 : Int32 → Int32 → Int32 → (Int32) → (Int32) → (Nat → Int32) → (Nat → Int32) → Option (Int32 × Int32 × (Nat → Int32) × (Nat → Int32))) (t0 : Int32) (x1 : Int32) (x2 : Int32) (x3 : Int32) (f_goesMany : Int32) (f_roundSteps : Int32) (a_steps : Nat → Int32) (a_goes : Nat → Int32) : Option (Int32 × Int32 × (Nat → Int32) × (Nat → Int32)) :=
  brn (t0 = 0) (J_X12_tellsRound_147 a_s (r27) (r70) x1 x2 x3 f_goesMany f_roundSteps a_steps a_goes) (brn (x1 < 0) (J_X12_tellsRound_143 a_s (r27) (r70) x2 x3 f_goesMany f_roundSteps a_steps a_goes) (bnd (F_X12_cellOf x3 a_s) (fun o9 => grd (inb o9 64) (bnd (F_X12_cellOf x1 a_s) (fun o11 => grd (inb o11 64) (brn ((a_steps o11.toNatClampNeg) ≤ (a_steps o9.toNatClampNeg)) (J_X12_tellsRound_147 a_s (r27) (r70) x1 x2 x3 f_goesMany f_roundSteps a_steps a_goes) (J_X12_tellsRound_143 a_s (r27) (r70) x2 x3 f_goesMany f_roundSteps a_steps a_goes)))))))
def J_X12_tellsRound_108 (a_s : Nat → Int32) (r27 : Int32 → Int32 → (Int32) → (Int32) → (Nat → Int32) → (Nat → Int32) → Option (Int32 × Int32 × (Nat → Int32) × (Nat → Int32))) (r70 : Int32 → Int32 → Int32 → (Int32) → (Int32) → (Nat → Int32) → (Nat → Int32) → Option (Int32 × Int32 × (Nat → Int32) × (Nat → Int32))) (x1 : Int32) (x2 : Int32) (x3 : Int32) (f_goesMany : Int32) (f_roundSteps : Int32) (a_steps : Nat → Int32) (a_goes : Nat → Int32) : Option (Int32 × Int32 × (Nat → Int32) × (Nat → Int32)) :=
  J_X12_tellsRound_109 a_s (r27) (r70) (0 : Int32) x1 x2 x3 f_goesMany f_roundSteps a_steps a_goes
def L_X12_tellsRound_70 (a_s : Nat → Int32) (r27 : Int32 → Int32 → (Int32) → (Int32) → (Nat → Int32) → (Nat → Int32) → Option (Int32 × Int32 × (Nat → Int32) × (Nat → Int32))) : Nat → Int32 → Int32 → Int32 → (Int32) → (Int32) → (Nat → Int32) → (Nat → Int32) → Option (Int32 × Int32 × (Nat → Int32) × (Nat → Int32))
  | 0, _, _, _, _, _, _, _ => none
  | _n + 1, x1, x2, x3, f_goesMany, f_roundSteps, a_steps, a_goes =>
    grd (inb (2 : Int32) 147) (brn ((a_s (2 : Int32).toNatClampNeg) ≤ x3) (brn (0 ≤ x1) (bnd (F_X12_cellOf x1 a_s) (fun o5 => grd (inb o5 64) (J_X12_tellsRound_178 a_s (r27) (a_steps o5.toNatClampNeg) f_roundSteps x1 x2 f_goesMany f_roundSteps a_steps a_goes))) (J_X12_tellsRound_178 a_s (r27) (0 : Int32) f_roundSteps x1 x2 f_goesMany f_roundSteps a_steps a_goes)) (brn (((x2 >>> (x3 &&& 31)) &&& (1 : Int32)) = 0) (bnd (F_X12_cellOf x3 a_s) (fun o7 => grd (inb o7 64) (brn ((1000 : Int32) ≤ (a_steps o7.toNatClampNeg)) (J_X12_tellsRound_108 a_s (r27) (L_X12_tellsRound_70 a_s r27 _n) x1 x2 x3 f_goesMany f_roundSteps a_steps a_goes) (J_X12_tellsRound_109 a_s (r27) (L_X12_tellsRound_70 a_s r27 _n) (1 : Int32) x1 x2 x3 f_goesMany f_roundSteps a_steps a_goes)))) (J_X12_tellsRound_108 a_s (r27) (L_X12_tellsRound_70 a_s r27 _n) x1 x2 x3 f_goesMany f_roundSteps a_steps a_goes)))
def L_X12_tellsRound_27 (a_s : Nat → Int32) : Nat → Int32 → Int32 → (Int32) → (Int32) → (Nat → Int32) → (Nat → Int32) → Option (Int32 × Int32 × (Nat → Int32) × (Nat → Int32))
  | 0, _, _, _, _, _, _ => none
  | _n + 1, x1, x2, f_goesMany, f_roundSteps, a_steps, a_goes =>
    brn (x1 < 0) (some (f_goesMany, f_roundSteps, a_steps, a_goes)) (grd (inb f_goesMany 10) (bnd (F_X12_cellOf x1 a_s) (fun o1 => bnd (F_X12_tellsWays o1 a_s a_steps) (fun o3 => L_X12_tellsRound_70 a_s (L_X12_tellsRound_27 a_s _n) 100 ((-1) : Int32) (x2 ||| ((1 : Int32) <<< (x1 &&& 31))) (0 : Int32) (f_goesMany + (1 : Int32)) f_roundSteps o3 (upd a_goes f_goesMany.toNatClampNeg x1)))))
def J_X12_tellsRound_24 (a_s : Nat → Int32) (t0 : Int32) (f_goesMany : Int32) (f_roundSteps : Int32) (a_steps : Nat → Int32) (a_goes : Nat → Int32) : Option (Int32 × Int32 × (Nat → Int32) × (Nat → Int32)) :=
  L_X12_tellsRound_27 a_s 100 t0 (0 : Int32) f_goesMany f_roundSteps a_steps a_goes
def F_X12_tellsRound (a_s : Nat → Int32) (f_goesMany : Int32) (f_roundSteps : Int32) (a_steps : Nat → Int32) (a_goes : Nat → Int32) : Option (Int32 × Int32 × (Nat → Int32) × (Nat → Int32)) :=
  grd (inb (2 : Int32) 147) (brn ((a_s (2 : Int32).toNatClampNeg) ≤ 0) (J_X12_tellsRound_24 a_s ((-1) : Int32) (0 : Int32) (0 : Int32) a_steps a_goes) (J_X12_tellsRound_24 a_s (0 : Int32) (0 : Int32) (0 : Int32) a_steps a_goes))
def J_X12_round_24 (p1 : Int32) (a_s : Nat → Int32) (t0 : Int32) (f_thrown : Int32) (f_goesMany : Int32) (f_roundSteps : Int32) (a_steps : Nat → Int32) (a_goes : Nat → Int32) : Option (Int32 × Int32 × Int32 × Int32 × (Nat → Int32) × (Nat → Int32)) :=
  brn (t0 ≤ 0) (grd (inb p1 10) (some (a_goes p1.toNatClampNeg, t0, f_goesMany, f_roundSteps, a_steps, a_goes))) (some ((0 : Int32), t0, f_goesMany, f_roundSteps, a_steps, a_goes))
def F_X12_round (p1 : Int32) (a_s : Nat → Int32) (f_thrown : Int32) (f_goesMany : Int32) (f_roundSteps : Int32) (a_steps : Nat → Int32) (a_goes : Nat → Int32) : Option (Int32 × Int32 × Int32 × Int32 × (Nat → Int32) × (Nat → Int32)) :=
  bnd (F_X12_tellsRound a_s f_goesMany f_roundSteps a_steps a_goes) (fun o1 => bnd (F_X12_in p1 (0 : Int32) (o1.1 - (1 : Int32))) (fun o3 => brn (o3 = 0) (J_X12_round_24 p1 a_s (1 : Int32) f_thrown o1.1 o1.2.1 o1.2.2.1 o1.2.2.2) (J_X12_round_24 p1 a_s (0 : Int32) f_thrown o1.1 o1.2.1 o1.2.2.1 o1.2.2.2)))
def F_X12_steps (a_s : Nat → Int32) (f_thrown : Int32) (f_goesMany : Int32) (f_roundSteps : Int32) (a_steps : Nat → Int32) (a_goes : Nat → Int32) : Option (Int32 × Int32 × Int32 × Int32 × (Nat → Int32) × (Nat → Int32)) :=
  bnd (F_X12_tellsRound a_s f_goesMany f_roundSteps a_steps a_goes) (fun o1 => some (o1.2.1, (0 : Int32), o1.1, o1.2.1, o1.2.2.1, o1.2.2.2))
def J_X12_isAhead_51 (p1 : Int32) (p2 : Int32) (a_s : Nat → Int32) (t0 : Int32) : Option (Int32) :=
  brn (0 < t0) (some ((1 : Int32))) (brn (t0 = 0) (brn (p2 ≤ p1) (some ((0 : Int32))) (some ((1 : Int32)))) (some ((0 : Int32))))
def F_X12_isAhead (p1 : Int32) (p2 : Int32) (a_s : Nat → Int32) : Option (Int32) :=
  bnd (F_X12_at p1 (4 : Int32)) (fun o1 => grd (inb o1 147) (bnd (F_X12_at p2 (4 : Int32)) (fun o3 => grd (inb o3 147) (brn (((a_s o1.toNatClampNeg) - (a_s o3.toNatClampNeg)) = 0) (bnd (F_X12_at p1 (3 : Int32)) (fun o5 => grd (inb o5 147) (bnd (F_X12_at p2 (3 : Int32)) (fun o7 => grd (inb o7 147) (J_X12_isAhead_51 p1 p2 a_s ((a_s o5.toNatClampNeg) - (a_s o7.toNatClampNeg))))))) (J_X12_isAhead_51 p1 p2 a_s ((a_s o1.toNatClampNeg) - (a_s o3.toNatClampNeg)))))))
def J_X12_ranked_92 (p1 : Int32) (a_s : Nat → Int32) (r21 : Int32 → Int32 → (Int32) → Option (Int32 × Int32)) (t0 : Int32) (x3 : Int32) (f_thrown : Int32) : Option (Int32 × Int32) :=
  r21 t0 (x3 + 1) f_thrown
def J_X12_ranked_72 (p1 : Int32) (a_s : Nat → Int32) (r21 : Int32 → Int32 → (Int32) → Option (Int32 × Int32)) (r44 : Int32 → Int32 → Int32 → Int32 → (Int32) → Option (Int32 × Int32)) (t0 : Int32) (t1 : Int32) (x2 : Int32) (x3 : Int32) (x5 : Int32) (f_thrown : Int32) : Option (Int32 × Int32) :=
  r44 x2 x3 (t1 + t0) (x5 + 1) f_thrown
def L_X12_ranked_44 (p1 : Int32) (a_s : Nat → Int32) (r21 : Int32 → Int32 → (Int32) → Option (Int32 × Int32)) : Nat → Int32 → Int32 → Int32 → Int32 → (Int32) → Option (Int32 × Int32)
  | 0, _, _, _, _, _ => none
  | _n + 1, x2, x3, x4, x5, f_thrown =>
    grd (inb (2 : Int32) 147) (brn ((a_s (2 : Int32).toNatClampNeg) ≤ x5) (brn (x4 = p1) (J_X12_ranked_92 p1 a_s (r21) x3 x3 f_thrown) (J_X12_ranked_92 p1 a_s (r21) x2 x3 f_thrown)) (bnd (F_X12_isAhead x5 x3 a_s) (fun o3 => brn (o3 = 0) (J_X12_ranked_72 p1 a_s (r21) (L_X12_ranked_44 p1 a_s r21 _n) (0 : Int32) x4 x2 x3 x5 f_thrown) (J_X12_ranked_72 p1 a_s (r21) (L_X12_ranked_44 p1 a_s r21 _n) (1 : Int32) x4 x2 x3 x5 f_thrown))))
def L_X12_ranked_21 (p1 : Int32) (a_s : Nat → Int32) : Nat → Int32 → Int32 → (Int32) → Option (Int32 × Int32)
  | 0, _, _, _ => none
  | _n + 1, x2, x3, f_thrown =>
    grd (inb (2 : Int32) 147) (brn ((a_s (2 : Int32).toNatClampNeg) ≤ x3) (some (x2, f_thrown)) (brn (f_thrown = 0) (L_X12_ranked_44 p1 a_s (L_X12_ranked_21 p1 a_s _n) 100 x2 x3 (0 : Int32) (0 : Int32) f_thrown) (some (x2, f_thrown))))
def J_X12_ranked_14 (p1 : Int32) (a_s : Nat → Int32) (t0 : Int32) (f_thrown : Int32) : Option (Int32 × Int32) :=
  L_X12_ranked_21 p1 a_s 100 (0 : Int32) (0 : Int32) t0
def F_X12_ranked (p1 : Int32) (a_s : Nat → Int32) (f_thrown : Int32) : Option (Int32 × Int32) :=
  bnd (F_X12_isHouse p1 a_s) (fun o1 => brn (o1 = 0) (J_X12_ranked_14 p1 a_s (1 : Int32) f_thrown) (J_X12_ranked_14 p1 a_s (0 : Int32) f_thrown))
def F_X12_says (p1 : Int32) (f_lineMany : Int32) (a_line : Nat → Int32) : Option (Int32 × (Nat → Int32)) :=
  grd (inb f_lineMany 40) (some ((f_lineMany + (1 : Int32)), (upd a_line f_lineMany.toNatClampNeg (vp_nar .char p1))))
def F_X12_signOf (p1 : Int32) (a_s : Nat → Int32) : Option (Int32) :=
  bnd (F_X12_houseOn p1 a_s) (fun o1 => brn (o1 < 0) (bnd (F_X12_isBlocked p1 a_s) (fun o3 => brn (o3 = 0) (bnd (F_X12_postOn p1 a_s) (fun o5 => brn (o5 < 0) (bnd (F_X12_hallOn p1 a_s) (fun o7 => brn (o7 < 0) (grd (vp_nar .char (46 : Int32) = (46 : Int32)) (some ((46 : Int32)))) (grd (vp_nar .char (95 : Int32) = (95 : Int32)) (some ((95 : Int32)))))) (grd (vp_nar .char (111 : Int32) = (111 : Int32)) (some ((111 : Int32)))))) (grd (vp_nar .char (35 : Int32) = (35 : Int32)) (some ((35 : Int32)))))) (bnd (F_X12_houseOn p1 a_s) (fun o13 => grd (vp_nar .char ((((48 : Int32) + o13).toUInt32 % 65536).toInt32) = ((((48 : Int32) + o13).toUInt32 % 65536).toInt32)) (some ((((48 : Int32) + o13).toUInt32 % 65536).toInt32)))))
def L_X12_line_35 (p1 : Int32) (a_s : Nat → Int32) : Nat → Int32 → (Int32) → (Int32) → (Nat → Int32) → Option (Int32 × Int32 × Int32 × (Nat → Int32))
  | 0, _, _, _, _ => none
  | _n + 1, x2, f_thrown, f_lineMany, a_line =>
    brn ((8 : Int32) ≤ x2) (some (f_lineMany, f_thrown, f_lineMany, a_line)) (bnd (F_X12_signOf (((8 : Int32) * p1) + x2) a_s) (fun o3 => bnd (F_X12_says o3 f_lineMany a_line) (fun o5 => L_X12_line_35 p1 a_s _n (x2 + 1) f_thrown o5.1 o5.2)))
def J_X12_line_16 (p1 : Int32) (a_s : Nat → Int32) (t0 : Int32) (f_thrown : Int32) (f_lineMany : Int32) (a_line : Nat → Int32) : Option (Int32 × Int32 × Int32 × (Nat → Int32)) :=
  brn (t0 ≤ 0) (L_X12_line_35 p1 a_s 100 (0 : Int32) t0 (0 : Int32) a_line) (some ((0 : Int32), t0, f_lineMany, a_line))
def F_X12_line (p1 : Int32) (a_s : Nat → Int32) (f_thrown : Int32) (f_lineMany : Int32) (a_line : Nat → Int32) : Option (Int32 × Int32 × Int32 × (Nat → Int32)) :=
  bnd (F_X12_in p1 (0 : Int32) (7 : Int32)) (fun o1 => brn (o1 = 0) (J_X12_line_16 p1 a_s (1 : Int32) f_thrown f_lineMany a_line) (J_X12_line_16 p1 a_s (0 : Int32) f_thrown f_lineMany a_line))
def J_X12_character_20 (p1 : Int32) (f_lineMany : Int32) (a_line : Nat → Int32) (t0 : Int32) (f_thrown : Int32) : Option (Int32 × Int32) :=
  brn (t0 ≤ 0) (grd (inb p1 40) (grd (vp_nar .char (a_line p1.toNatClampNeg) = (a_line p1.toNatClampNeg)) (some (a_line p1.toNatClampNeg, t0)))) (grd (vp_nar .char (32 : Int32) = (32 : Int32)) (some ((32 : Int32), t0)))
def F_X12_character (p1 : Int32) (f_lineMany : Int32) (a_line : Nat → Int32) (f_thrown : Int32) : Option (Int32 × Int32) :=
  bnd (F_X12_in p1 (0 : Int32) (f_lineMany - (1 : Int32))) (fun o1 => brn (o1 = 0) (J_X12_character_20 p1 f_lineMany a_line (1 : Int32) f_thrown) (J_X12_character_20 p1 f_lineMany a_line (0 : Int32) f_thrown))
def J_X12_append_15 (p1 : Int32) (t0 : Int32) (f_thrown : Int32) (f_length : Int32) (a_text : Nat → Int32) : Option (Int32 × Int32 × Int32 × (Nat → Int32)) :=
  brn (t0 ≤ 0) (grd (inb f_length 60) (some ((f_length + (1 : Int32)), t0, (f_length + (1 : Int32)), (upd a_text f_length.toNatClampNeg (vp_nar .char p1))))) (some ((0 : Int32), t0, f_length, a_text))
def F_X12_append (p1 : Int32) (f_thrown : Int32) (f_length : Int32) (a_text : Nat → Int32) : Option (Int32 × Int32 × Int32 × (Nat → Int32)) :=
  brn (f_length = (60 : Int32)) (J_X12_append_15 p1 (1 : Int32) f_thrown f_length a_text) (J_X12_append_15 p1 (0 : Int32) f_thrown f_length a_text)
def F_X12_isHere (p1 : Int32) (p2 : Int32) (f_length : Int32) (f_at : Int32) (f_isWrong : Int32) (a_text : Nat → Int32) : Option (Int32) :=
  brn (f_isWrong = 0) (brn (f_length ≤ f_at) (some ((0 : Int32))) (grd (inb f_at 60) (bnd (F_X12_in (a_text f_at.toNatClampNeg) p1 p2) (fun o1 => brn (o1 = 0) (some ((0 : Int32))) (some ((1 : Int32))))))) (some ((0 : Int32)))
def J_X12_sign_22 (p1 : Int32) (p2 : Int32) (f_length : Int32) (a_text : Nat → Int32) (t0 : Int32) (f_at : Int32) (f_isWrong : Int32) : Option (Int32 × Int32 × Int32) :=
  grd (t0 = 0 ∨ t0 = 1) (brn (t0 = 0) (grd (inb ((f_at + (1 : Int32)) - (1 : Int32)) 60) (some ((a_text ((f_at + (1 : Int32)) - (1 : Int32)).toNatClampNeg) - p1, (f_at + (1 : Int32)), t0))) (some ((0 : Int32), f_at, t0)))
def J_X12_sign_17 (p1 : Int32) (p2 : Int32) (f_length : Int32) (a_text : Nat → Int32) (f_at : Int32) (f_isWrong : Int32) : Option (Int32 × Int32 × Int32) :=
  J_X12_sign_22 p1 p2 f_length a_text (1 : Int32) f_at f_isWrong
def F_X12_sign (p1 : Int32) (p2 : Int32) (f_length : Int32) (a_text : Nat → Int32) (f_at : Int32) (f_isWrong : Int32) : Option (Int32 × Int32 × Int32) :=
  brn (f_isWrong = 0) (bnd (F_X12_isHere p1 p2 f_length f_at f_isWrong a_text) (fun o1 => brn (o1 = 0) (J_X12_sign_17 p1 p2 f_length a_text f_at f_isWrong) (J_X12_sign_22 p1 p2 f_length a_text (0 : Int32) f_at f_isWrong))) (J_X12_sign_17 p1 p2 f_length a_text f_at f_isWrong)
def F_X12_digit (f_length : Int32) (a_text : Nat → Int32) (f_at : Int32) (f_isWrong : Int32) : Option (Int32 × Int32 × Int32) :=
  bnd (F_X12_sign (48 : Int32) (57 : Int32) f_length a_text f_at f_isWrong) (fun o1 => some (o1.1, o1.2.1, o1.2.2))
def F_X12_number (f_length : Int32) (a_text : Nat → Int32) (f_at : Int32) (f_isWrong : Int32) : Option (Int32 × Int32 × Int32) :=
  bnd (F_X12_digit f_length a_text f_at f_isWrong) (fun o1 => bnd (F_X12_isHere (48 : Int32) (57 : Int32) f_length o1.2.1 o1.2.2 a_text) (fun o3 => brn (o3 = 0) (some (o1.1, o1.2.1, o1.2.2)) (bnd (F_X12_digit f_length a_text o1.2.1 o1.2.2) (fun o5 => some (((10 : Int32) * o1.1) + o5.1, o5.2.1, o5.2.2)))))
def F_X12_does (p1 : Int32) (a_orders : Nat → Int32) (f_thrown : Int32) (f_reason : Int32) (f_detail : Int32) (f_isRefused : Int32) (a_s : Nat → Int32) : Option (Int32 × Int32 × Int32 × Int32 × (Nat → Int32)) :=
  grd (inb (((4 : Int32) * p1) + (1 : Int32)) 240) (grd (inb (((4 : Int32) * p1) + (2 : Int32)) 240) (grd (inb (((4 : Int32) * p1) + (3 : Int32)) 240) (grd (inb ((4 : Int32) * p1) 240) (brn ((a_orders ((4 : Int32) * p1).toNatClampNeg) = (98 : Int32)) (bnd (F_X12_doBlock (a_orders (((4 : Int32) * p1) + (1 : Int32)).toNatClampNeg) f_thrown f_reason f_detail f_isRefused a_s) (fun o2 => some (o2.2.1, o2.2.2.1, o2.2.2.2.1, o2.2.2.2.2.1, o2.2.2.2.2.2))) (brn ((a_orders ((4 : Int32) * p1).toNatClampNeg) = (101 : Int32)) (bnd (F_X12_doHall (a_orders (((4 : Int32) * p1) + (1 : Int32)).toNatClampNeg) (a_orders (((4 : Int32) * p1) + (2 : Int32)).toNatClampNeg) (a_orders (((4 : Int32) * p1) + (3 : Int32)).toNatClampNeg) f_thrown f_reason f_detail f_isRefused a_s) (fun o5 => some (o5.2.1, o5.2.2.1, o5.2.2.2.1, o5.2.2.2.2.1, o5.2.2.2.2.2))) (brn ((a_orders ((4 : Int32) * p1).toNatClampNeg) = (104 : Int32)) (bnd (F_X12_doHouse (a_orders (((4 : Int32) * p1) + (1 : Int32)).toNatClampNeg) (a_orders (((4 : Int32) * p1) + (2 : Int32)).toNatClampNeg) (a_orders (((4 : Int32) * p1) + (3 : Int32)).toNatClampNeg) f_thrown f_reason f_detail f_isRefused a_s) (fun o8 => some (o8.2.1, o8.2.2.1, o8.2.2.2.1, o8.2.2.2.2.1, o8.2.2.2.2.2))) (brn ((a_orders ((4 : Int32) * p1).toNatClampNeg) = (112 : Int32)) (bnd (F_X12_doPost (a_orders (((4 : Int32) * p1) + (1 : Int32)).toNatClampNeg) f_thrown f_reason f_detail f_isRefused a_s) (fun o11 => some (o11.2.1, o11.2.2.1, o11.2.2.2.1, o11.2.2.2.2.1, o11.2.2.2.2.2))) (brn ((a_orders ((4 : Int32) * p1).toNatClampNeg) = (114 : Int32)) (bnd (F_X12_doRing (a_orders (((4 : Int32) * p1) + (1 : Int32)).toNatClampNeg) (a_orders (((4 : Int32) * p1) + (2 : Int32)).toNatClampNeg) (a_orders (((4 : Int32) * p1) + (3 : Int32)).toNatClampNeg) f_thrown a_s) (fun o14 => some (o14.2.1, f_reason, f_detail, f_isRefused, o14.2.2))) (brn ((a_orders ((4 : Int32) * p1).toNatClampNeg) = (116 : Int32)) (bnd (F_X12_doTell (a_orders (((4 : Int32) * p1) + (1 : Int32)).toNatClampNeg) (a_orders (((4 : Int32) * p1) + (2 : Int32)).toNatClampNeg) f_thrown f_reason f_detail f_isRefused a_s) (fun o17 => some (o17.2.1, o17.2.2.1, o17.2.2.2.1, o17.2.2.2.2.1, o17.2.2.2.2.2))) (bnd (F_X12_doPass (a_orders (((4 : Int32) * p1) + (1 : Int32)).toNatClampNeg) f_thrown a_s) (fun o19 => some (o19.2.1, f_reason, f_detail, f_isRefused, o19.2.2))))))))))))
def F_X12_errorPosition (f_errorAt : Int32) (f_thrown : Int32) : Option (Int32 × Int32) :=
  some (f_errorAt, (0 : Int32))
def J_X12_telling_37 (a_s : Nat → Int32) (r4 : Int32 → Int32 → Option (Int32)) (t0 : Int32) (t1 : Int32) (x2 : Int32) : Option (Int32) :=
  r4 (t1 + t0) (x2 + 1)
def L_X12_telling_4 (a_s : Nat → Int32) : Nat → Int32 → Int32 → Option (Int32)
  | 0, _, _ => none
  | _n + 1, x1, x2 =>
    grd (inb (4 : Int32) 147) (brn ((a_s (4 : Int32).toNatClampNeg) ≤ x2) (some (x1)) (grd (inb (((139 : Int32) + ((2 : Int32) * x2)) + (1 : Int32)) 147) (brn ((a_s (((139 : Int32) + ((2 : Int32) * x2)) + (1 : Int32)).toNatClampNeg) < 0) (J_X12_telling_37 a_s (L_X12_telling_4 a_s _n) (0 : Int32) x1 x2) (J_X12_telling_37 a_s (L_X12_telling_4 a_s _n) (1 : Int32) x1 x2))))
def F_X12_telling (a_s : Nat → Int32) : Option (Int32) :=
  L_X12_telling_4 a_s 100 (0 : Int32) (0 : Int32)
def L_X12_blocks_4 (a_s : Nat → Int32) : Nat → Int32 → Int32 → Option (Int32)
  | 0, _, _ => none
  | _n + 1, x1, x2 =>
    brn ((64 : Int32) ≤ x2) (some (x1)) (grd (inb ((13 : Int32) + x2) 147) (L_X12_blocks_4 a_s _n (x1 + (a_s ((13 : Int32) + x2).toNatClampNeg)) (x2 + 1)))
def F_X12_blocks (a_s : Nat → Int32) : Option (Int32) :=
  L_X12_blocks_4 a_s 100 (0 : Int32) (0 : Int32)
def J_X12_account_16 (p1 : Int32) (f_pastMany : Int32) (f_length : Int32) (a_s : Nat → Int32) (t0 : Int32) (f_thrown : Int32) : Option (Int32 × Int32) :=
  brn (t0 ≤ 0) (brn (p1 = (5 : Int32)) (bnd (F_X12_telling a_s) (fun o4 => some (o4, t0))) (brn (p1 = (6 : Int32)) (bnd (F_X12_blocks a_s) (fun o7 => some (o7, t0))) (brn (p1 = (7 : Int32)) (grd (inb (5 : Int32) 147) (some (a_s (5 : Int32).toNatClampNeg, t0))) (brn (p1 = (8 : Int32)) (grd (inb (6 : Int32) 147) (some (a_s (6 : Int32).toNatClampNeg, t0))) (brn (p1 = (9 : Int32)) (grd (inb (7 : Int32) 147) (some (a_s (7 : Int32).toNatClampNeg, t0))) (brn (p1 = (10 : Int32)) (grd (inb (8 : Int32) 147) (some ((a_s (8 : Int32).toNatClampNeg) - (1 : Int32), t0))) (brn (p1 = (11 : Int32)) (some (f_length, t0)) (brn (p1 = (12 : Int32)) (some (f_pastMany, t0)) (grd (inb p1 147) (some (a_s p1.toNatClampNeg, t0))))))))))) (some ((0 : Int32), t0))
def F_X12_account (p1 : Int32) (f_pastMany : Int32) (f_length : Int32) (a_s : Nat → Int32) (f_thrown : Int32) : Option (Int32 × Int32) :=
  bnd (F_X12_in p1 (0 : Int32) (12 : Int32)) (fun o1 => brn (o1 = 0) (J_X12_account_16 p1 f_pastMany f_length a_s (1 : Int32) f_thrown) (J_X12_account_16 p1 f_pastMany f_length a_s (0 : Int32) f_thrown))
def F_X12_isWell (f_thrown : Int32) : Option (Int32 × Int32) :=
  some ((1 : Int32), (0 : Int32))
def J_X12_undo_13 (a_past : Nat → Int32) (t0 : Int32) (f_pastMany : Int32) (f_thrown : Int32) (a_s : Nat → Int32) : Option (Int32 × Int32 × Int32 × (Nat → Int32)) :=
  brn (t0 ≤ 0) (grd (cpyok ((147 : Int32) * (f_pastMany - (1 : Int32))) (0 : Int32) (147 : Int32) 1176 147) (some ((f_pastMany - (1 : Int32)), (f_pastMany - (1 : Int32)), t0, (va_cpy a_past a_s ((147 : Int32) * (f_pastMany - (1 : Int32))).toNatClampNeg (0 : Int32).toNatClampNeg (147 : Int32).toNatClampNeg)))) (some ((0 : Int32), f_pastMany, t0, a_s))
def F_X12_undo (a_past : Nat → Int32) (f_pastMany : Int32) (f_thrown : Int32) (a_s : Nat → Int32) : Option (Int32 × Int32 × Int32 × (Nat → Int32)) :=
  brn (f_pastMany = 0) (J_X12_undo_13 a_past (1 : Int32) f_pastMany f_thrown a_s) (J_X12_undo_13 a_past (0 : Int32) f_pastMany f_thrown a_s)
def F_X12_save (a_s : Nat → Int32) (f_isSaved : Int32) (f_thrown : Int32) (a_saved : Nat → Int32) : Option (Int32 × Int32 × Int32 × (Nat → Int32)) :=
  grd (cpyok (0 : Int32) (0 : Int32) (147 : Int32) 147 147) (grd (inb (2 : Int32) 147) (some (a_s (2 : Int32).toNatClampNeg, (1 : Int32), (0 : Int32), (va_cpy a_s a_saved (0 : Int32).toNatClampNeg (0 : Int32).toNatClampNeg (147 : Int32).toNatClampNeg))))
def J_X12_restore_13 (f_isSaved : Int32) (a_saved : Nat → Int32) (t0 : Int32) (f_pastMany : Int32) (f_thrown : Int32) (a_s : Nat → Int32) : Option (Int32 × Int32 × Int32 × (Nat → Int32)) :=
  brn (t0 ≤ 0) (grd (cpyok (0 : Int32) (0 : Int32) (147 : Int32) 147 147) (grd (inb (2 : Int32) 147) (some ((va_cpy a_saved a_s (0 : Int32).toNatClampNeg (0 : Int32).toNatClampNeg (147 : Int32).toNatClampNeg) (2 : Int32).toNatClampNeg, (0 : Int32), t0, (va_cpy a_saved a_s (0 : Int32).toNatClampNeg (0 : Int32).toNatClampNeg (147 : Int32).toNatClampNeg))))) (some ((0 : Int32), f_pastMany, t0, a_s))
def F_X12_restore (f_isSaved : Int32) (a_saved : Nat → Int32) (f_pastMany : Int32) (f_thrown : Int32) (a_s : Nat → Int32) : Option (Int32 × Int32 × Int32 × (Nat → Int32)) :=
  brn (f_isSaved = 0) (J_X12_restore_13 f_isSaved a_saved (1 : Int32) f_pastMany f_thrown a_s) (J_X12_restore_13 f_isSaved a_saved (0 : Int32) f_pastMany f_thrown a_s)
def J_X12_saysNumber0_14 (p1 : Int32) (f_lineMany : Int32) (a_line : Nat → Int32) : Option (Int32 × (Nat → Int32)) :=
  bnd (F_X12_says ((((48 : Int32) + (p1 - p1 / (10 : Int32) * (10 : Int32))).toUInt32 % 65536).toInt32) f_lineMany a_line) (fun o1 => some (o1.1, o1.2))
def F_X12_saysNumber0 (p1 : Int32) (f_lineMany : Int32) (a_line : Nat → Int32) : Option (Int32 × (Nat → Int32)) :=
  brn (p1 ≤ (9 : Int32)) (J_X12_saysNumber0_14 p1 f_lineMany a_line) (none)
def J_X12_saysNumber_14 (p1 : Int32) (f_lineMany : Int32) (a_line : Nat → Int32) : Option (Int32 × (Nat → Int32)) :=
  bnd (F_X12_says ((((48 : Int32) + (p1 - p1 / (10 : Int32) * (10 : Int32))).toUInt32 % 65536).toInt32) f_lineMany a_line) (fun o1 => some (o1.1, o1.2))
def F_X12_saysNumber (p1 : Int32) (f_lineMany : Int32) (a_line : Nat → Int32) : Option (Int32 × (Nat → Int32)) :=
  brn (p1 ≤ (9 : Int32)) (J_X12_saysNumber_14 p1 f_lineMany a_line) (bnd (F_X12_saysNumber0 (p1 / (10 : Int32)) f_lineMany a_line) (fun o3 => J_X12_saysNumber_14 p1 o3.1 o3.2))
def L_X12_houseLine_135 (p1 : Int32) (a_s : Nat → Int32) : Nat → Int32 → (Int32) → (Int32) → (Nat → Int32) → Option (Int32 × Int32 × Int32 × (Nat → Int32))
  | 0, _, _, _, _ => none
  | _n + 1, x2, f_thrown, f_lineMany, a_line =>
    brn (x2 ≤ 0) (some (f_lineMany, f_thrown, f_lineMany, a_line)) (bnd (F_X12_says (33 : Int32) f_lineMany a_line) (fun o17 => L_X12_houseLine_135 p1 a_s _n (x2 + (-1)) f_thrown o17.1 o17.2))
def J_X12_houseLine_119 (p1 : Int32) (a_s : Nat → Int32) (f_thrown : Int32) (f_lineMany : Int32) (a_line : Nat → Int32) : Option (Int32 × Int32 × Int32 × (Nat → Int32)) :=
  bnd (F_X12_at p1 (4 : Int32)) (fun o15 => grd (inb o15 147) (L_X12_houseLine_135 p1 a_s 100 (if (a_s o15.toNatClampNeg) < (9 : Int32) then (a_s o15.toNatClampNeg) else (9 : Int32)) f_thrown f_lineMany a_line))
def J_X12_houseLine_99 (p1 : Int32) (a_s : Nat → Int32) (f_thrown : Int32) (f_lineMany : Int32) (a_line : Nat → Int32) : Option (Int32 × Int32 × Int32 × (Nat → Int32)) :=
  grd (inb (0 : Int32) 147) (bnd (F_X12_sleeps p1 (a_s (0 : Int32).toNatClampNeg) a_s) (fun o13 => brn (o13 = 0) (J_X12_houseLine_119 p1 a_s f_thrown f_lineMany a_line) (bnd (F_X12_says (122 : Int32) f_lineMany a_line) (fun o19 => J_X12_houseLine_119 p1 a_s f_thrown o19.1 o19.2))))
def J_X12_houseLine_14 (p1 : Int32) (a_s : Nat → Int32) (t0 : Int32) (f_thrown : Int32) (f_lineMany : Int32) (a_line : Nat → Int32) : Option (Int32 × Int32 × Int32 × (Nat → Int32)) :=
  brn (t0 ≤ 0) (bnd (F_X12_saysNumber p1 (0 : Int32) a_line) (fun o3 => bnd (F_X12_says (64 : Int32) o3.1 o3.2) (fun o5 => bnd (F_X12_cellOf p1 a_s) (fun o7 => bnd (F_X12_saysNumber o7 o5.1 o5.2) (fun o9 => bnd (F_X12_sleep p1 a_s) (fun o11 => brn (o11 ≤ 0) (J_X12_houseLine_99 p1 a_s t0 o9.1 o9.2) (bnd (F_X12_says (32 : Int32) o9.1 o9.2) (fun o21 => bnd (F_X12_at p1 (1 : Int32)) (fun o23 => grd (inb o23 147) (bnd (F_X12_saysNumber (a_s o23.toNatClampNeg) o21.1 o21.2) (fun o25 => bnd (F_X12_says (45 : Int32) o25.1 o25.2) (fun o27 => bnd (F_X12_at p1 (2 : Int32)) (fun o29 => grd (inb o29 147) (bnd (F_X12_saysNumber (a_s o29.toNatClampNeg) o27.1 o27.2) (fun o31 => J_X12_houseLine_99 p1 a_s t0 o31.1 o31.2))))))))))))))) (some ((0 : Int32), t0, f_lineMany, a_line))
def F_X12_houseLine (p1 : Int32) (a_s : Nat → Int32) (f_thrown : Int32) (f_lineMany : Int32) (a_line : Nat → Int32) : Option (Int32 × Int32 × Int32 × (Nat → Int32)) :=
  bnd (F_X12_isHouse p1 a_s) (fun o1 => brn (o1 = 0) (J_X12_houseLine_14 p1 a_s (1 : Int32) f_thrown f_lineMany a_line) (J_X12_houseLine_14 p1 a_s (0 : Int32) f_thrown f_lineMany a_line))
def J_X12_meanSleep_59 (a_s : Nat → Int32) (t0 : UInt64) (f_thrown : Int32) : Option (UInt64 × Int32) :=
  some (t0, f_thrown)
def L_X12_meanSleep_24 (a_s : Nat → Int32) : Nat → Int32 → Int32 → Int32 → (Int32) → Option (UInt64 × Int32)
  | 0, _, _, _, _ => none
  | _n + 1, x1, x2, x3, f_thrown =>
    brn (x1 ≤ x3) (brn (f_thrown ≤ 0) (grd (FP.ddiv (FP.i2d x2) (FP.i2d x1) &&& 0x7fffffffffffffff ≤ 0x7ff0000000000000) (J_X12_meanSleep_59 a_s (FP.ddiv (FP.i2d x2) (FP.i2d x1)) f_thrown)) (J_X12_meanSleep_59 a_s FP.dconst0 f_thrown)) (bnd (F_X12_sleep x3 a_s) (fun o2 => L_X12_meanSleep_24 a_s _n x1 (x2 + o2) (x3 + 1) f_thrown))
def J_X12_meanSleep_17 (a_s : Nat → Int32) (t0 : Int32) (x1 : Int32) (f_thrown : Int32) : Option (UInt64 × Int32) :=
  L_X12_meanSleep_24 a_s 100 x1 (0 : Int32) (0 : Int32) t0
def F_X12_meanSleep (a_s : Nat → Int32) (f_thrown : Int32) : Option (UInt64 × Int32) :=
  grd (inb (2 : Int32) 147) (brn ((a_s (2 : Int32).toNatClampNeg) = 0) (J_X12_meanSleep_17 a_s (1 : Int32) (a_s (2 : Int32).toNatClampNeg) f_thrown) (J_X12_meanSleep_17 a_s (0 : Int32) (a_s (2 : Int32).toNatClampNeg) f_thrown))
def J_X12_prankShare_50 (a_s : Nat → Int32) (t0 : UInt32) (f_thrown : Int32) : Option (UInt32 × Int32) :=
  some (t0, f_thrown)
def J_X12_prankShare_25 (a_s : Nat → Int32) (t0 : Int32) (x1 : Int32) (f_thrown : Int32) : Option (UInt32 × Int32) :=
  brn (t0 ≤ 0) (grd (inb (12 : Int32) 147) (grd (FP.fdiv (FP.i2f (a_s (12 : Int32).toNatClampNeg)) (FP.i2f x1) &&& 0x7fffffff ≤ 0x7f800000) (J_X12_prankShare_50 a_s (FP.fdiv (FP.i2f (a_s (12 : Int32).toNatClampNeg)) (FP.i2f x1)) t0))) (J_X12_prankShare_50 a_s FP.fconst0 t0)
def F_X12_prankShare (a_s : Nat → Int32) (f_thrown : Int32) : Option (UInt32 × Int32) :=
  grd (inb (5 : Int32) 147) (grd (inb (6 : Int32) 147) (brn (((a_s (5 : Int32).toNatClampNeg) + (a_s (6 : Int32).toNatClampNeg)) = 0) (J_X12_prankShare_25 a_s (1 : Int32) ((a_s (5 : Int32).toNatClampNeg) + (a_s (6 : Int32).toNatClampNeg)) f_thrown) (J_X12_prankShare_25 a_s (0 : Int32) ((a_s (5 : Int32).toNatClampNeg) + (a_s (6 : Int32).toNatClampNeg)) f_thrown)))
def J_X12_readOrder_239 (f_length : Int32) (a_text : Nat → Int32) (t0 : Int32) (x2 : Int32) (f_at : Int32) (f_isWrong : Int32) (f_orderMany : Int32) (a_orders : Nat → Int32) : Option (Nat × Int32 × Int32 × Int32 × (Nat → Int32)) :=
  bnd (F_X12_digit f_length a_text f_at f_isWrong) (fun o13 => grd (inb (x2 + (3 : Int32)) 240) (some (0, o13.2.1, o13.2.2, f_orderMany, (upd a_orders (x2 + (3 : Int32)).toNatClampNeg o13.1))))
def J_X12_readOrder_32 (f_length : Int32) (a_text : Nat → Int32) (t0 : Int32) (f_at : Int32) (f_isWrong : Int32) (f_orderMany : Int32) (a_orders : Nat → Int32) : Option (Nat × Int32 × Int32 × Int32 × (Nat → Int32)) :=
  grd (11 < 12) (bnd (F_J0_indexOf_0f7a4 11 t0) (fun o1 => brn (0 ≤ o1) (grd (inb ((4 : Int32) * f_orderMany) 240) (brn (t0 = (101 : Int32)) (bnd (F_X12_digit f_length a_text (f_at + (1 : Int32)) f_isWrong) (fun o5 => grd (inb (((4 : Int32) * f_orderMany) + (1 : Int32)) 240) (bnd (F_X12_sign (58 : Int32) (58 : Int32) f_length a_text o5.2.1 o5.2.2) (fun o7 => bnd (F_X12_digit f_length a_text o7.2.1 o7.2.2) (fun o9 => grd (inb (((4 : Int32) * f_orderMany) + (2 : Int32)) 240) (brn (t0 = (101 : Int32)) (bnd (F_X12_sign (45 : Int32) (45 : Int32) f_length a_text o9.2.1 o9.2.2) (fun o11 => J_X12_readOrder_239 f_length a_text o11.1 ((4 : Int32) * f_orderMany) o11.2.1 o11.2.2 (f_orderMany + (1 : Int32)) (upd (upd (upd a_orders ((4 : Int32) * f_orderMany).toNatClampNeg t0) (((4 : Int32) * f_orderMany) + (1 : Int32)).toNatClampNeg o5.1) (((4 : Int32) * f_orderMany) + (2 : Int32)).toNatClampNeg o9.1))) (bnd (F_X12_sign (43 : Int32) (43 : Int32) f_length a_text o9.2.1 o9.2.2) (fun o15 => J_X12_readOrder_239 f_length a_text o15.1 ((4 : Int32) * f_orderMany) o15.2.1 o15.2.2 (f_orderMany + (1 : Int32)) (upd (upd (upd a_orders ((4 : Int32) * f_orderMany).toNatClampNeg t0) (((4 : Int32) * f_orderMany) + (1 : Int32)).toNatClampNeg o5.1) (((4 : Int32) * f_orderMany) + (2 : Int32)).toNatClampNeg o9.1))))))))) (brn (t0 = (104 : Int32)) (bnd (F_X12_number f_length a_text (f_at + (1 : Int32)) f_isWrong) (fun o18 => grd (inb (((4 : Int32) * f_orderMany) + (1 : Int32)) 240) (bnd (F_X12_sign (47 : Int32) (47 : Int32) f_length a_text o18.2.1 o18.2.2) (fun o20 => bnd (F_X12_number f_length a_text o20.2.1 o20.2.2) (fun o22 => grd (inb (((4 : Int32) * f_orderMany) + (2 : Int32)) 240) (bnd (F_X12_sign (45 : Int32) (45 : Int32) f_length a_text o22.2.1 o22.2.2) (fun o24 => bnd (F_X12_number f_length a_text o24.2.1 o24.2.2) (fun o26 => grd (inb (((4 : Int32) * f_orderMany) + (3 : Int32)) 240) (some (0, o26.2.1, o26.2.2, (f_orderMany + (1 : Int32)), (upd (upd (upd (upd a_orders ((4 : Int32) * f_orderMany).toNatClampNeg t0) (((4 : Int32) * f_orderMany) + (1 : Int32)).toNatClampNeg o18.1) (((4 : Int32) * f_orderMany) + (2 : Int32)).toNatClampNeg o22.1) (((4 : Int32) * f_orderMany) + (3 : Int32)).toNatClampNeg o26.1))))))))))) (brn (t0 = (114 : Int32)) (bnd (F_X12_digit f_length a_text (f_at + (1 : Int32)) f_isWrong) (fun o29 => grd (inb (((4 : Int32) * f_orderMany) + (1 : Int32)) 240) (bnd (F_X12_sign (58 : Int32) (58 : Int32) f_length a_text o29.2.1 o29.2.2) (fun o31 => bnd (F_X12_digit f_length a_text o31.2.1 o31.2.2) (fun o33 => grd (inb (((4 : Int32) * f_orderMany) + (2 : Int32)) 240) (brn (t0 = (101 : Int32)) (bnd (F_X12_sign (45 : Int32) (45 : Int32) f_length a_text o33.2.1 o33.2.2) (fun o35 => J_X12_readOrder_239 f_length a_text o35.1 ((4 : Int32) * f_orderMany) o35.2.1 o35.2.2 (f_orderMany + (1 : Int32)) (upd (upd (upd a_orders ((4 : Int32) * f_orderMany).toNatClampNeg t0) (((4 : Int32) * f_orderMany) + (1 : Int32)).toNatClampNeg o29.1) (((4 : Int32) * f_orderMany) + (2 : Int32)).toNatClampNeg o33.1))) (bnd (F_X12_sign (43 : Int32) (43 : Int32) f_length a_text o33.2.1 o33.2.2) (fun o37 => J_X12_readOrder_239 f_length a_text o37.1 ((4 : Int32) * f_orderMany) o37.2.1 o37.2.2 (f_orderMany + (1 : Int32)) (upd (upd (upd a_orders ((4 : Int32) * f_orderMany).toNatClampNeg t0) (((4 : Int32) * f_orderMany) + (1 : Int32)).toNatClampNeg o29.1) (((4 : Int32) * f_orderMany) + (2 : Int32)).toNatClampNeg o33.1))))))))) (brn (t0 = (116 : Int32)) (bnd (F_X12_digit f_length a_text (f_at + (1 : Int32)) f_isWrong) (fun o40 => grd (inb (((4 : Int32) * f_orderMany) + (1 : Int32)) 240) (bnd (F_X12_sign (61 : Int32) (61 : Int32) f_length a_text o40.2.1 o40.2.2) (fun o42 => bnd (F_X12_number f_length a_text o42.2.1 o42.2.2) (fun o44 => grd (inb (((4 : Int32) * f_orderMany) + (2 : Int32)) 240) (some (0, o44.2.1, o44.2.2, (f_orderMany + (1 : Int32)), (upd (upd (upd a_orders ((4 : Int32) * f_orderMany).toNatClampNeg t0) (((4 : Int32) * f_orderMany) + (1 : Int32)).toNatClampNeg o40.1) (((4 : Int32) * f_orderMany) + (2 : Int32)).toNatClampNeg o44.1)))))))) (bnd (F_X12_number f_length a_text (f_at + (1 : Int32)) f_isWrong) (fun o46 => grd (inb (((4 : Int32) * f_orderMany) + (1 : Int32)) 240) (some (0, o46.2.1, o46.2.2, (f_orderMany + (1 : Int32)), (upd (upd a_orders ((4 : Int32) * f_orderMany).toNatClampNeg t0) (((4 : Int32) * f_orderMany) + (1 : Int32)).toNatClampNeg o46.1)))))))))) (some (0, f_at, (1 : Int32), f_orderMany, a_orders))))
def F_X12_readOrder (f_length : Int32) (a_text : Nat → Int32) (f_at : Int32) (f_isWrong : Int32) (f_orderMany : Int32) (a_orders : Nat → Int32) : Option (Nat × Int32 × Int32 × Int32 × (Nat → Int32)) :=
  brn (f_isWrong = 0) (brn (f_length ≤ f_at) (J_X12_readOrder_32 f_length a_text (0 : Int32) f_at f_isWrong f_orderMany a_orders) (grd (inb f_at 60) (J_X12_readOrder_32 f_length a_text (a_text f_at.toNatClampNeg) f_at f_isWrong f_orderMany a_orders))) (some (0, f_at, f_isWrong, f_orderMany, a_orders))
def J_X12_run_155 (a_text : Nat → Int32) (t0 : Int32) (f_pastMany : Int32) (f_thrown : Int32) (f_reason : Int32) (f_detail : Int32) (f_isRefused : Int32) (f_length : Int32) (f_at : Int32) (f_isWrong : Int32) (f_errorAt : Int32) (f_orderMany : Int32) (a_s : Nat → Int32) (a_before : Nat → Int32) (a_past : Nat → Int32) (a_orders : Nat → Int32) : Option (Nat × Int32 × Int32 × Int32 × Int32 × Int32 × Int32 × Int32 × Int32 × Int32 × Int32 × Int32 × (Nat → Int32) × (Nat → Int32) × (Nat → Int32) × (Nat → Int32)) :=
  bnd (F_X12_ends (0 : Int32) t0 a_before f_pastMany a_s a_past) (fun o14 => some (0, o14.1, o14.2.1, t0, f_reason, f_detail, f_isRefused, f_length, f_at, f_isWrong, f_errorAt, f_orderMany, o14.2.2.1, a_before, o14.2.2.2, a_orders))
def L_X12_run_117 (a_text : Nat → Int32) : Nat → Int32 → (Int32) → (Int32) → (Int32) → (Int32) → (Int32) → (Int32) → (Int32) → (Int32) → (Int32) → (Int32) → (Nat → Int32) → (Nat → Int32) → (Nat → Int32) → (Nat → Int32) → Option (Nat × Int32 × Int32 × Int32 × Int32 × Int32 × Int32 × Int32 × Int32 × Int32 × Int32 × Int32 × (Nat → Int32) × (Nat → Int32) × (Nat → Int32) × (Nat → Int32))
  | 0, _, _, _, _, _, _, _, _, _, _, _, _, _, _, _ => none
  | _n + 1, x1, f_pastMany, f_thrown, f_reason, f_detail, f_isRefused, f_length, f_at, f_isWrong, f_errorAt, f_orderMany, a_s, a_before, a_past, a_orders =>
    brn (f_orderMany ≤ x1) (bnd (F_X12_ends f_orderMany f_thrown a_before f_pastMany a_s a_past) (fun o10 => some (0, o10.1, o10.2.1, f_thrown, f_reason, f_detail, f_isRefused, f_length, f_at, f_isWrong, f_errorAt, f_orderMany, o10.2.2.1, a_before, o10.2.2.2, a_orders))) (bnd (F_X12_does x1 a_orders f_thrown f_reason f_detail (0 : Int32) a_s) (fun o12 => brn (o12.1 ≤ 0) (L_X12_run_117 a_text _n (x1 + 1) f_pastMany o12.1 o12.2.1 o12.2.2.1 o12.2.2.2.1 f_length f_at f_isWrong f_errorAt f_orderMany o12.2.2.2.2 a_before a_past a_orders) (brn (o12.2.2.2.1 = 0) (J_X12_run_155 a_text (1 : Int32) f_pastMany o12.1 o12.2.1 o12.2.2.1 o12.2.2.2.1 f_length f_at f_isWrong f_errorAt f_orderMany o12.2.2.2.2 a_before a_past a_orders) (J_X12_run_155 a_text (2 : Int32) f_pastMany o12.1 o12.2.1 o12.2.2.1 o12.2.2.2.1 f_length f_at f_isWrong f_errorAt f_orderMany o12.2.2.2.2 a_before a_past a_orders))))
def J_X12_run_90 (a_text : Nat → Int32) (t0 : Int32) (f_pastMany : Int32) (f_thrown : Int32) (f_reason : Int32) (f_detail : Int32) (f_isRefused : Int32) (f_length : Int32) (f_at : Int32) (f_isWrong : Int32) (f_errorAt : Int32) (f_orderMany : Int32) (a_s : Nat → Int32) (a_before : Nat → Int32) (a_past : Nat → Int32) (a_orders : Nat → Int32) : Option (Nat × Int32 × Int32 × Int32 × Int32 × Int32 × Int32 × Int32 × Int32 × Int32 × Int32 × Int32 × (Nat → Int32) × (Nat → Int32) × (Nat → Int32) × (Nat → Int32)) :=
  brn (f_isWrong = 0) (bnd (F_X12_keep a_s f_thrown a_before) (fun o8 => L_X12_run_117 a_text 100 (0 : Int32) f_pastMany o8.1 f_reason f_detail f_isRefused (0 : Int32) f_at f_isWrong t0 f_orderMany a_s o8.2 a_past a_orders)) (bnd (F_X12_fails (1 : Int32) f_thrown) (fun o16 => some (0, o16.1, f_pastMany, o16.2, f_reason, f_detail, f_isRefused, (0 : Int32), f_at, f_isWrong, t0, f_orderMany, a_s, a_before, a_past, a_orders)))
def J_X12_run_71 (a_text : Nat → Int32) (t0 : Int32) (f_pastMany : Int32) (f_thrown : Int32) (f_reason : Int32) (f_detail : Int32) (f_isRefused : Int32) (f_length : Int32) (f_at : Int32) (f_isWrong : Int32) (f_errorAt : Int32) (f_orderMany : Int32) (a_s : Nat → Int32) (a_before : Nat → Int32) (a_past : Nat → Int32) (a_orders : Nat → Int32) : Option (Nat × Int32 × Int32 × Int32 × Int32 × Int32 × Int32 × Int32 × Int32 × Int32 × Int32 × Int32 × (Nat → Int32) × (Nat → Int32) × (Nat → Int32) × (Nat → Int32)) :=
  grd (t0 = 0 ∨ t0 = 1) (brn (t0 = 0) (J_X12_run_90 a_text ((-1) : Int32) f_pastMany f_thrown f_reason f_detail f_isRefused f_length f_at t0 f_errorAt f_orderMany a_s a_before a_past a_orders) (J_X12_run_90 a_text f_at f_pastMany f_thrown f_reason f_detail f_isRefused f_length f_at t0 f_errorAt f_orderMany a_s a_before a_past a_orders))
def J_X12_run_66 (a_text : Nat → Int32) (f_pastMany : Int32) (f_thrown : Int32) (f_reason : Int32) (f_detail : Int32) (f_isRefused : Int32) (f_length : Int32) (f_at : Int32) (f_isWrong : Int32) (f_errorAt : Int32) (f_orderMany : Int32) (a_s : Nat → Int32) (a_before : Nat → Int32) (a_past : Nat → Int32) (a_orders : Nat → Int32) : Option (Nat × Int32 × Int32 × Int32 × Int32 × Int32 × Int32 × Int32 × Int32 × Int32 × Int32 × Int32 × (Nat → Int32) × (Nat → Int32) × (Nat → Int32) × (Nat → Int32)) :=
  J_X12_run_71 a_text (1 : Int32) f_pastMany f_thrown f_reason f_detail f_isRefused f_length f_at f_isWrong f_errorAt f_orderMany a_s a_before a_past a_orders
def L_X12_run_19 (a_text : Nat → Int32) : Nat → (Int32) → (Int32) → (Int32) → (Int32) → (Int32) → (Int32) → (Int32) → (Int32) → (Int32) → (Int32) → (Nat → Int32) → (Nat → Int32) → (Nat → Int32) → (Nat → Int32) → Option (Nat × Int32 × Int32 × Int32 × Int32 × Int32 × Int32 × Int32 × Int32 × Int32 × Int32 × Int32 × (Nat → Int32) × (Nat → Int32) × (Nat → Int32) × (Nat → Int32))
  | 0, _, _, _, _, _, _, _, _, _, _, _, _, _, _ => none
  | _n + 1, f_pastMany, f_thrown, f_reason, f_detail, f_isRefused, f_length, f_at, f_isWrong, f_errorAt, f_orderMany, a_s, a_before, a_past, a_orders =>
    bnd (F_X12_isHere (59 : Int32) (59 : Int32) f_length f_at f_isWrong a_text) (fun o5 => brn (o5 = 0) (brn (f_isWrong = 0) (brn (f_length ≤ f_at) (J_X12_run_71 a_text (0 : Int32) f_pastMany f_thrown f_reason f_detail f_isRefused f_length f_at f_isWrong f_errorAt f_orderMany a_s a_before a_past a_orders) (J_X12_run_66 a_text f_pastMany f_thrown f_reason f_detail f_isRefused f_length f_at f_isWrong f_errorAt f_orderMany a_s a_before a_past a_orders)) (J_X12_run_66 a_text f_pastMany f_thrown f_reason f_detail f_isRefused f_length f_at f_isWrong f_errorAt f_orderMany a_s a_before a_past a_orders)) (bnd (F_X12_readOrder f_length a_text (f_at + (1 : Int32)) f_isWrong f_orderMany a_orders) (fun o18 => brn (o18.1 = 0) (L_X12_run_19 a_text _n f_pastMany f_thrown f_reason f_detail f_isRefused f_length o18.2.1 o18.2.2.1 f_errorAt o18.2.2.2.1 a_s a_before a_past o18.2.2.2.2) (some (o18.1, (0 : Int32), f_pastMany, f_thrown, f_reason, f_detail, f_isRefused, f_length, o18.2.1, o18.2.2.1, f_errorAt, o18.2.2.2.1, a_s, a_before, a_past, o18.2.2.2.2)))))
def F_X12_run (a_text : Nat → Int32) (f_pastMany : Int32) (f_thrown : Int32) (f_reason : Int32) (f_detail : Int32) (f_isRefused : Int32) (f_length : Int32) (f_at : Int32) (f_isWrong : Int32) (f_errorAt : Int32) (f_orderMany : Int32) (a_s : Nat → Int32) (a_before : Nat → Int32) (a_past : Nat → Int32) (a_orders : Nat → Int32) : Option (Nat × Int32 × Int32 × Int32 × Int32 × Int32 × Int32 × Int32 × Int32 × Int32 × Int32 × Int32 × (Nat → Int32) × (Nat → Int32) × (Nat → Int32) × (Nat → Int32)) :=
  bnd (F_X12_readOrder f_length a_text (0 : Int32) (0 : Int32) (0 : Int32) a_orders) (fun o1 => brn (o1.1 = 0) (L_X12_run_19 a_text 100 f_pastMany f_thrown f_reason f_detail f_isRefused f_length o1.2.1 o1.2.2.1 f_errorAt o1.2.2.2.1 a_s a_before a_past o1.2.2.2.2) (some (o1.1, (0 : Int32), f_pastMany, f_thrown, f_reason, f_detail, f_isRefused, f_length, o1.2.1, o1.2.2.1, f_errorAt, o1.2.2.2.1, a_s, a_before, a_past, o1.2.2.2.2)))
abbrev MVal : Type := (Nat → Int32) × (Nat → Nat → Int32)
def H_house (p1 : Int32) (p2 : Int32) (p3 : Int32) (y : MVal) : Option (Int32 × MVal) :=
  bnd (F_X12_house p1 p2 p3 (y.1 1) (y.1 2) (y.1 3) (y.1 4) (y.1 5) (y.2 0) (y.2 1) (y.2 3)) (fun o => some (o.1, ((fun k => if k = 1 then o.2.1 else if k = 2 then o.2.2.1 else if k = 3 then o.2.2.2.1 else if k = 4 then o.2.2.2.2.1 else if k = 5 then o.2.2.2.2.2.1 else y.1 k), (fun k => if k = 0 then o.2.2.2.2.2.2.1 else if k = 1 then o.2.2.2.2.2.2.2.1 else if k = 3 then o.2.2.2.2.2.2.2.2 else y.2 k))))
def H_goAway (p1 : Int32) (y : MVal) : Option (Int32 × MVal) :=
  bnd (F_X12_goAway p1 (y.1 1) (y.1 2) (y.2 0) (y.2 1) (y.2 3)) (fun o => some (o.1, ((fun k => if k = 1 then o.2.1 else if k = 2 then o.2.2.1 else y.1 k), (fun k => if k = 0 then o.2.2.2.1 else if k = 1 then o.2.2.2.2.1 else if k = 3 then o.2.2.2.2.2 else y.2 k))))
def H_block (p1 : Int32) (y : MVal) : Option (Int32 × MVal) :=
  bnd (F_X12_block p1 (y.1 1) (y.1 2) (y.1 3) (y.1 4) (y.1 5) (y.2 0) (y.2 1) (y.2 3)) (fun o => some (o.1, ((fun k => if k = 1 then o.2.1 else if k = 2 then o.2.2.1 else if k = 3 then o.2.2.2.1 else if k = 4 then o.2.2.2.2.1 else if k = 5 then o.2.2.2.2.2.1 else y.1 k), (fun k => if k = 0 then o.2.2.2.2.2.2.1 else if k = 1 then o.2.2.2.2.2.2.2.1 else if k = 3 then o.2.2.2.2.2.2.2.2 else y.2 k))))
def H_hall (p1 : Int32) (p2 : Int32) (p3 : Int32) (y : MVal) : Option (Int32 × MVal) :=
  bnd (F_X12_hall p1 p2 p3 (y.1 1) (y.1 2) (y.1 3) (y.1 4) (y.1 5) (y.2 0) (y.2 1) (y.2 3)) (fun o => some (o.1, ((fun k => if k = 1 then o.2.1 else if k = 2 then o.2.2.1 else if k = 3 then o.2.2.2.1 else if k = 4 then o.2.2.2.2.1 else if k = 5 then o.2.2.2.2.2.1 else y.1 k), (fun k => if k = 0 then o.2.2.2.2.2.2.1 else if k = 1 then o.2.2.2.2.2.2.2.1 else if k = 3 then o.2.2.2.2.2.2.2.2 else y.2 k))))
def H_dropHall (p1 : Int32) (y : MVal) : Option (Int32 × MVal) :=
  bnd (F_X12_dropHall p1 (y.1 1) (y.1 2) (y.2 0) (y.2 1) (y.2 3)) (fun o => some (o.1, ((fun k => if k = 1 then o.2.1 else if k = 2 then o.2.2.1 else y.1 k), (fun k => if k = 0 then o.2.2.2.1 else if k = 1 then o.2.2.2.2.1 else if k = 3 then o.2.2.2.2.2 else y.2 k))))
def H_pass (p1 : Int32) (y : MVal) : Option (Int32 × MVal) :=
  bnd (F_X12_pass p1 (y.1 1) (y.1 2) (y.2 0) (y.2 1) (y.2 3)) (fun o => some (o.1, ((fun k => if k = 1 then o.2.1 else if k = 2 then o.2.2.1 else y.1 k), (fun k => if k = 0 then o.2.2.2.1 else if k = 1 then o.2.2.2.2.1 else if k = 3 then o.2.2.2.2.2 else y.2 k))))
def H_houseOf (p1 : Int32) (p2 : Int32) (y : MVal) : Option (Int32 × MVal) :=
  bnd (F_X12_houseOf p1 p2 (y.2 0) (y.1 2)) (fun o => some (o.1, ((fun k => if k = 2 then o.2 else y.1 k), y.2)))
def H_asleep (p1 : Int32) (p2 : Int32) (y : MVal) : Option (Int32 × MVal) :=
  bnd (F_X12_asleep p1 p2 (y.2 0) (y.1 2)) (fun o => some (o.1, ((fun k => if k = 2 then o.2 else y.1 k), y.2)))
def H_deepest (y : MVal) : Option (Int32 × MVal) :=
  bnd (F_X12_deepest (y.2 0) (y.1 2)) (fun o => some (o.1, ((fun k => if k = 2 then o.2 else y.1 k), y.2)))
def H_ring (p1 : Int32) (p2 : Int32) (p3 : Int32) (y : MVal) : Option (Int32 × MVal) :=
  bnd (F_X12_ring p1 p2 p3 (y.1 1) (y.1 2) (y.2 0) (y.2 1) (y.2 3)) (fun o => some (o.1, ((fun k => if k = 1 then o.2.1 else if k = 2 then o.2.2.1 else y.1 k), (fun k => if k = 0 then o.2.2.2.1 else if k = 1 then o.2.2.2.2.1 else if k = 3 then o.2.2.2.2.2 else y.2 k))))
def H_classOf (p1 : Int32) (p2 : Int32) (p3 : Int32) (p4 : Int32) (y : MVal) : Option (Int32 × MVal) :=
  bnd (F_X12_classOf p1 p2 p3 p4 (y.2 0) (y.1 2)) (fun o => some (o.1, ((fun k => if k = 2 then o.2 else y.1 k), y.2)))
def H_echo (p1 : Int32) (p2 : Int32) (p3 : Int32) (y : MVal) : Option (Int32 × MVal) :=
  bnd (F_X12_echo p1 p2 p3 (y.2 0) (y.1 2)) (fun o => some (o.1, ((fun k => if k = 2 then o.2 else y.1 k), y.2)))
def H_heard (p1 : Int32) (p2 : Int32) (p3 : Int32) (y : MVal) : Option (Int32 × MVal) :=
  bnd (F_X12_heard p1 p2 p3 (y.2 0) (y.1 2)) (fun o => some (o.1, ((fun k => if k = 2 then o.2 else y.1 k), y.2)))
def H_rings (p1 : Int32) (y : MVal) : Option (Int32 × MVal) :=
  bnd (F_X12_rings p1 (y.2 0) (y.1 2)) (fun o => some (o.1, ((fun k => if k = 2 then o.2 else y.1 k), y.2)))
def H_post (p1 : Int32) (y : MVal) : Option (Int32 × MVal) :=
  bnd (F_X12_post p1 (y.1 1) (y.1 2) (y.1 3) (y.1 4) (y.1 5) (y.2 0) (y.2 1) (y.2 3)) (fun o => some (o.1, ((fun k => if k = 1 then o.2.1 else if k = 2 then o.2.2.1 else if k = 3 then o.2.2.2.1 else if k = 4 then o.2.2.2.2.1 else if k = 5 then o.2.2.2.2.2.1 else y.1 k), (fun k => if k = 0 then o.2.2.2.2.2.2.1 else if k = 1 then o.2.2.2.2.2.2.2.1 else if k = 3 then o.2.2.2.2.2.2.2.2 else y.2 k))))
def H_dropPost (p1 : Int32) (y : MVal) : Option (Int32 × MVal) :=
  bnd (F_X12_dropPost p1 (y.1 1) (y.1 2) (y.2 0) (y.2 1) (y.2 3)) (fun o => some (o.1, ((fun k => if k = 1 then o.2.1 else if k = 2 then o.2.2.1 else y.1 k), (fun k => if k = 0 then o.2.2.2.1 else if k = 1 then o.2.2.2.2.1 else if k = 3 then o.2.2.2.2.2 else y.2 k))))
def H_tell (p1 : Int32) (p2 : Int32) (y : MVal) : Option (Int32 × MVal) :=
  bnd (F_X12_tell p1 p2 (y.1 1) (y.1 2) (y.1 3) (y.1 4) (y.1 5) (y.2 0) (y.2 1) (y.2 3)) (fun o => some (o.1, ((fun k => if k = 1 then o.2.1 else if k = 2 then o.2.2.1 else if k = 3 then o.2.2.2.1 else if k = 4 then o.2.2.2.2.1 else if k = 5 then o.2.2.2.2.2.1 else y.1 k), (fun k => if k = 0 then o.2.2.2.2.2.2.1 else if k = 1 then o.2.2.2.2.2.2.2.1 else if k = 3 then o.2.2.2.2.2.2.2.2 else y.2 k))))
def H_postOf (p1 : Int32) (p2 : Int32) (y : MVal) : Option (Int32 × MVal) :=
  bnd (F_X12_postOf p1 p2 (y.2 0) (y.1 2)) (fun o => some (o.1, ((fun k => if k = 2 then o.2 else y.1 k), y.2)))
def H_fits (p1 : Int32) (y : MVal) : Option (Int32 × MVal) :=
  bnd (F_X12_fits p1 (y.2 0) (y.1 2)) (fun o => some (o.1, ((fun k => if k = 2 then o.2 else y.1 k), y.2)))
def H_fitting (p1 : Int32) (y : MVal) : Option (Int32 × MVal) :=
  bnd (F_X12_fitting p1 (y.2 0) (y.1 2)) (fun o => some (o.1, ((fun k => if k = 2 then o.2 else y.1 k), y.2)))
def H_fix (p1 : Int32) (y : MVal) : Option (Int32 × MVal) :=
  bnd (F_X12_fix p1 (y.2 0) (y.1 2)) (fun o => some (o.1, ((fun k => if k = 2 then o.2 else y.1 k), y.2)))
def H_apart (p1 : Int32) (p2 : Int32) (y : MVal) : Option (Int32 × MVal) :=
  bnd (F_X12_apart p1 p2 (y.1 2)) (fun o => some (o.1, ((fun k => if k = 2 then o.2 else y.1 k), y.2)))
def H_way (p1 : Int32) (p2 : Int32) (p3 : Int32) (y : MVal) : Option (Int32 × MVal) :=
  bnd (F_X12_way p1 p2 p3 (y.2 0) (y.1 2) (y.2 4)) (fun o => some (o.1, ((fun k => if k = 2 then o.2.1 else y.1 k), (fun k => if k = 4 then o.2.2 else y.2 k))))
def H_round (p1 : Int32) (y : MVal) : Option (Int32 × MVal) :=
  bnd (F_X12_round p1 (y.2 0) (y.1 2) (y.1 6) (y.1 7) (y.2 4) (y.2 5)) (fun o => some (o.1, ((fun k => if k = 2 then o.2.1 else if k = 6 then o.2.2.1 else if k = 7 then o.2.2.2.1 else y.1 k), (fun k => if k = 4 then o.2.2.2.2.1 else if k = 5 then o.2.2.2.2.2 else y.2 k))))
def H_ranked (p1 : Int32) (y : MVal) : Option (Int32 × MVal) :=
  bnd (F_X12_ranked p1 (y.2 0) (y.1 2)) (fun o => some (o.1, ((fun k => if k = 2 then o.2 else y.1 k), y.2)))
def H_line (p1 : Int32) (y : MVal) : Option (Int32 × MVal) :=
  bnd (F_X12_line p1 (y.2 0) (y.1 2) (y.1 8) (y.2 6)) (fun o => some (o.1, ((fun k => if k = 2 then o.2.1 else if k = 8 then o.2.2.1 else y.1 k), (fun k => if k = 6 then o.2.2.2 else y.2 k))))
def H_houseLine (p1 : Int32) (y : MVal) : Option (Int32 × MVal) :=
  bnd (F_X12_houseLine p1 (y.2 0) (y.1 2) (y.1 8) (y.2 6)) (fun o => some (o.1, ((fun k => if k = 2 then o.2.1 else if k = 8 then o.2.2.1 else y.1 k), (fun k => if k = 6 then o.2.2.2 else y.2 k))))
def H_character (p1 : Int32) (y : MVal) : Option (Int32 × MVal) :=
  bnd (F_X12_character p1 (y.1 8) (y.2 6) (y.1 2)) (fun o => some (o.1, ((fun k => if k = 2 then o.2 else y.1 k), y.2)))
def H_append (p1 : Int32) (y : MVal) : Option (Int32 × MVal) :=
  bnd (F_X12_append p1 (y.1 2) (y.1 9) (y.2 7)) (fun o => some (o.1, ((fun k => if k = 2 then o.2.1 else if k = 9 then o.2.2.1 else y.1 k), (fun k => if k = 7 then o.2.2.2 else y.2 k))))
def H_run (y : MVal) : Option (Int32 × MVal) :=
  bnd (F_X12_run (y.2 7) (y.1 1) (y.1 2) (y.1 3) (y.1 4) (y.1 5) (y.1 9) (y.1 10) (y.1 11) (y.1 12) (y.1 13) (y.2 0) (y.2 1) (y.2 3) (y.2 8)) (fun o => grd (o.1 = 0) (some (o.2.1, ((fun k => if k = 1 then o.2.2.1 else if k = 2 then o.2.2.2.1 else if k = 3 then o.2.2.2.2.1 else if k = 4 then o.2.2.2.2.2.1 else if k = 5 then o.2.2.2.2.2.2.1 else if k = 9 then o.2.2.2.2.2.2.2.1 else if k = 10 then o.2.2.2.2.2.2.2.2.1 else if k = 11 then o.2.2.2.2.2.2.2.2.2.1 else if k = 12 then o.2.2.2.2.2.2.2.2.2.2.1 else if k = 13 then o.2.2.2.2.2.2.2.2.2.2.2.1 else y.1 k), (fun k => if k = 0 then o.2.2.2.2.2.2.2.2.2.2.2.2.1 else if k = 1 then o.2.2.2.2.2.2.2.2.2.2.2.2.2.1 else if k = 3 then o.2.2.2.2.2.2.2.2.2.2.2.2.2.2.1 else if k = 8 then o.2.2.2.2.2.2.2.2.2.2.2.2.2.2.2 else y.2 k)))))
def H_refusal (p1 : Int32) (y : MVal) : Option (Int32 × MVal) :=
  bnd (F_X12_refusal p1 (y.1 3) (y.1 4) (y.1 2)) (fun o => some (o.1, ((fun k => if k = 2 then o.2 else y.1 k), y.2)))
def H_account (p1 : Int32) (y : MVal) : Option (Int32 × MVal) :=
  bnd (F_X12_account p1 (y.1 1) (y.1 9) (y.2 0) (y.1 2)) (fun o => some (o.1, ((fun k => if k = 2 then o.2 else y.1 k), y.2)))
def H_meanSleep (y : MVal) : Option (UInt64 × MVal) :=
  bnd (F_X12_meanSleep (y.2 0) (y.1 2)) (fun o => some (o.1, ((fun k => if k = 2 then o.2 else y.1 k), y.2)))
def H_prankShare (y : MVal) : Option (UInt32 × MVal) :=
  bnd (F_X12_prankShare (y.2 0) (y.1 2)) (fun o => some (o.1, ((fun k => if k = 2 then o.2 else y.1 k), y.2)))
def H_undo (y : MVal) : Option (Int32 × MVal) :=
  bnd (F_X12_undo (y.2 3) (y.1 1) (y.1 2) (y.2 0)) (fun o => some (o.1, ((fun k => if k = 1 then o.2.1 else if k = 2 then o.2.2.1 else y.1 k), (fun k => if k = 0 then o.2.2.2 else y.2 k))))
def H_restore (y : MVal) : Option (Int32 × MVal) :=
  bnd (F_X12_restore (y.1 0) (y.2 2) (y.1 1) (y.1 2) (y.2 0)) (fun o => some (o.1, ((fun k => if k = 1 then o.2.1 else if k = 2 then o.2.2.1 else y.1 k), (fun k => if k = 0 then o.2.2.2 else y.2 k))))
def H_steps (y : MVal) : Option (Int32 × MVal) :=
  bnd (F_X12_steps (y.2 0) (y.1 2) (y.1 6) (y.1 7) (y.2 4) (y.2 5)) (fun o => some (o.1, ((fun k => if k = 2 then o.2.1 else if k = 6 then o.2.2.1 else if k = 7 then o.2.2.2.1 else y.1 k), (fun k => if k = 4 then o.2.2.2.2.1 else if k = 5 then o.2.2.2.2.2 else y.2 k))))
def H_errorPosition (y : MVal) : Option (Int32 × MVal) :=
  bnd (F_X12_errorPosition (y.1 12) (y.1 2)) (fun o => some (o.1, ((fun k => if k = 2 then o.2 else y.1 k), y.2)))
def H_isWell (y : MVal) : Option (Int32 × MVal) :=
  bnd (F_X12_isWell (y.1 2)) (fun o => some (o.1, ((fun k => if k = 2 then o.2 else y.1 k), y.2)))
def H_save (y : MVal) : Option (Int32 × MVal) :=
  bnd (F_X12_save (y.2 0) (y.1 0) (y.1 2) (y.2 2)) (fun o => some (o.1, ((fun k => if k = 0 then o.2.1 else if k = 2 then o.2.2.1 else y.1 k), (fun k => if k = 2 then o.2.2.2 else y.2 k))))
