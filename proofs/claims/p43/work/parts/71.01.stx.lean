/-! ===== texts in the making: what they hold ===== -/
/-- n bytes, f's, are those of l -/
def TQ (n : Nat) (f : Nat → Int32) (l : List Int32) : Prop := l.length = n ∧ ∀ i, i < n → f i = l.getD i 0 ∧ fits .byte (.int (f i)) = true
abbrev SBt : Type := Nat × Nat × (Nat → Int32)
abbrev SBW (g : Nat → ClassId) (q n : Nat) (a : SBt) : va_W := [(q, .inr (12, [.ref a.1, .int 0, .int 0, .int (nI n)])), (a.1, .inl (g 5, a.2.1, .inl a.2.2))]
abbrev STW (g : Nat → ClassId) (r v n : Nat) (f : Nat → Int32) : va_W := [(r, .inr (0, [.ref v, .int 0, .int 0, .int 0])), (v, .inl (g 5, n, .inl f))]
def SBok (n : Nat) (l : List Int32) (a : SBt) : Prop := (a.2.1 = 16 ∨ a.2.1 = 34) ∧ n ≤ a.2.1 ∧ sb_Fit a.2.2 ∧ TQ n a.2.2 l
/-- the letters of a number below 100 -/
def dgl (k : Nat) : List Int32 := if k < 10 then [nI (48 + k)] else [nI (48 + k / 10), nI (48 + k % 10)]
def dn (k : Nat) : Nat := if k < 10 then 1 else 2
theorem dgl_len (k : Nat) : (dgl k).length = dn k := by unfold dgl dn; split <;> rfl
theorem dn_in (k : Nat) : 1 ≤ dn k ∧ dn k ≤ 2 := by unfold dn; split <;> omega
theorem fit_nI {c : Nat} (h : c < 128) : fits .byte (.int (nI c)) = true := by
  have : ∀ c, c < 128 → fits .byte (.int (nI c)) = true := by decide +kernel
  exact this c h
theorem nar_nI {c : Nat} (h : c < 128) : vp_nar .byte (nI c) = nI c := by
  have : ∀ c, c < 128 → vp_nar .byte (nI c) = nI c := by decide +kernel
  exact this c h
theorem TQ.app {n k : Nat} {f f' h : Nat → Int32} {l m : List Int32} (h1 : TQ n f l) (h2 : TQ k h m) (h3 : ∀ i, i < n → f' i = f i) (h4 : ∀ i, i < k → f' (n + i) = h i) : TQ (n + k) f' (l ++ m) := by
  refine ⟨by rw [List.length_append, h1.1, h2.1], fun i hi => ?_⟩
  by_cases e : i < n
  · have eg : (l ++ m).getD i 0 = l.getD i 0 := by
      rw [List.getD_eq_getElem?_getD, List.getD_eq_getElem?_getD, List.getElem?_append_left (by rw [h1.1]; exact e)]
    rw [eg, h3 i e]
    exact h1.2 i e
  · have e2 : i - n < k := by omega
    have eg : (l ++ m).getD i 0 = m.getD (i - n) 0 := by
      rw [List.getD_eq_getElem?_getD, List.getD_eq_getElem?_getD, List.getElem?_append_right (by rw [h1.1]; omega), h1.1]
    have h5 := h4 (i - n) e2
    rw [show n + (i - n) = i by omega] at h5
    rw [eg, h5]
    exact h2.2 (i - n) e2
theorem TQ.nil (f : Nat → Int32) : TQ 0 f [] := ⟨rfl, fun i hi => by omega⟩
theorem sb_le0 {k n : Nat} (h : k ≤ n) (hn : n ≤ 65536) : nI k - nI n ≤ 0 := by
  rw [Int32.le_iff_toInt_le, show (nI k - nI n).toInt = (k : Int) - n from pk_sub_toInt (by omega) (by omega), Int32.toInt_zero]
  omega
theorem sb_nle0 {k n : Nat} (h : n < k) (hn : k ≤ 65536) : ¬ nI k - nI n ≤ 0 := by
  rw [Int32.le_iff_toInt_le, show (nI k - nI n).toInt = (k : Int) - n from pk_sub_toInt (by omega) (by omega), Int32.toInt_zero]
  omega
theorem sz_neg10 : ∀ k, k < 100 → ((-(nI k) ≤ (-10 : Int32)) ↔ 10 ≤ k) := by decide +kernel
theorem sz_neg100 : ∀ k, k < 100 → ¬ (-(nI k) ≤ (-100 : Int32)) := by decide +kernel
theorem sz_gt100 : ∀ k, k < 100 → ((-100 : Int32) < -(nI k)) := by decide +kernel
theorem sz_ge9 : ∀ k, k < 100 → ((-9 : Int32) ≤ -(nI k) ↔ k < 10) := by decide +kernel
theorem nI_m1 {p : Nat} (h : 0 < p) : nI p + (-1) = nI (p - 1) := by
  rw [show p = (p - 1) + 1 by omega, ← nI_1, Nat.add_sub_cancel]
  rw [Int32.add_assoc, show (1 : Int32) + -1 = 0 from rfl, Int32.add_zero]
theorem inb_nI {k n : Nat} (h : k < n) (hn : n ≤ 65536) : inb (nI k) n := by
  have h1 := nI_in (N := n) h (by omega)
  have h2 : ¬ nI k < 0 := nI_pos (by omega)
  unfold inb
  first
    | exact h1
    | exact ⟨h2, by rw [nI_clamp (by omega)]; exact h⟩
    | exact ⟨Int32.not_lt.mp h2, by rw [nI_clamp (by omega)]; exact h⟩
/-- a number's letters, put behind the others -/
def gC (f : Nat → Int32) (p k : Nat) : Nat → Int32 := if k < 10 then upd f (p - 1) (nI (48 + k)) else upd (upd f (p - 1) (nI (48 + k % 10))) (p - 2) (nI (48 + k / 10))
theorem dgl_TQ {k : Nat} (hk : k < 100) : TQ (dn k) (fun i => (dgl k).getD i 0) (dgl k) := by
  refine ⟨dgl_len k, fun i hi => ⟨rfl, ?_⟩⟩
  have : ∀ k, k < 100 → ∀ i, i < 2 → fits .byte (.int ((dgl k).getD i 0)) = true := by decide +kernel
  exact this k hk i (by have := dn_in k; omega)
theorem SBok.int {n k v c : Nat} {f : Nat → Int32} {l : List Int32} (h : SBok n l (v, c, f)) (hk : k < 100) (hc : n + dn k ≤ c) : SBok (n + dn k) (l ++ dgl k) (v, c, gC f (n + dn k) k) := by
  obtain ⟨h1, h2, h3, h4⟩ := h
  refine ⟨h1, hc, ?_, h4.app (dgl_TQ hk) (fun i hi => ?_) (fun i hi => ?_)⟩
  · show sb_Fit (gC f (n + dn k) k)
    unfold gC
    split
    · exact sb_fitU h3 (fit_nI (by omega))
    · exact sb_fitU (sb_fitU h3 (fit_nI (by omega))) (fit_nI (by omega))
  · show gC f (n + dn k) k i = f i
    unfold gC dn
    split
    · unfold upd; rw [if_neg (by omega)]
    · unfold upd; rw [if_neg (by omega), if_neg (by omega)]
  · show gC f (n + dn k) k (n + i) = (dgl k).getD i 0
    unfold dn at hi
    unfold gC dgl dn
    split
    · rename_i e
      rw [if_pos e] at hi
      obtain rfl : i = 0 := by omega
      unfold upd
      rw [if_pos (by omega)]
      rfl
    · rename_i e
      rw [if_neg e] at hi
      unfold upd
      rcases (show i = 0 ∨ i = 1 by omega) with rfl | rfl
      · rw [if_pos (by omega)]
        rfl
      · rw [if_neg (by omega), if_pos (by omega)]
        rfl
theorem SBok.str {n k v c : Nat} {f h : Nat → Int32} {l m : List Int32} (h0 : SBok n l (v, c, f)) (hm : TQ k h m) (hc : n + k ≤ c) : SBok (n + k) (l ++ m) (v, c, va_cpy h f 0 n k) := by
  obtain ⟨h1, h2, h3, h4⟩ := h0
  refine ⟨h1, hc, fun j => ?_, h4.app hm (fun i hi => ?_) (fun i hi => ?_)⟩
  · show fits .byte (.int (va_cpy h f 0 n k j)) = true
    unfold va_cpy
    split
    · exact (hm.2 _ (by omega)).2
    · exact h3 j
  · show va_cpy h f 0 n k i = f i
    unfold va_cpy
    rw [if_neg (by omega)]
  · show va_cpy h f 0 n k (n + i) = h i
    unfold va_cpy
    rw [if_pos (by omega)]
    congr 1
    omega
theorem SBok.grow {n v w : Nat} {f : Nat → Int32} {l : List Int32} (h : SBok n l (v, 16, f)) : SBok n l (w, 34, va_cpy f (fun _ => 0) 0 0 16) := by
  obtain ⟨h1, h2, h3, h4⟩ := h
  have h2 : n ≤ 16 := h2
  refine ⟨Or.inr rfl, by show n ≤ 34; omega, sb_fitC h3 sb_fit0, h4.1, fun i hi => ?_⟩
  have e : va_cpy f (fun _ => 0) 0 0 16 i = f i := sb_cpy0 (by omega)
  show va_cpy f (fun _ => 0) 0 0 16 i = _ ∧ fits .byte (.int (va_cpy f (fun _ => 0) 0 0 16 i)) = true
  rw [e]
  exact h4.2 i hi
section TXC
variable {p : Program} {s : State} {m : MethodId} {args : Array Value} {meth : Method} {c : Code} {nL : Nat} {cc : ByteArray} {own : String} {D : va_G} {g : Nat → ClassId} {ws wc wr : va_W} {A : Nat → Prop}
/-- a text that stands in the world -/
theorem tx_of (X : CX p s m args meth c cc nL own D g) {B : Nat → Prop} {q0 q1 r v n : Nat} {f : Nat → Int32} {H : Heap} {locs : List Loc} (hI : IW D A s ws H locs) (h0 : ws[q0]? = some (r, .inr (0, [.ref v, .int 0, .int 0, .int 0]))) (h1 : ws[q1]? = some (v, .inl (g 5, n, .inl f))) (n0 : ¬ B r) (n1 : ¬ B v) : TX r v n f B s H := by
  obtain ⟨rc, e0, cell, g1, g2, g3, g4⟩ := hI.1 q0 _ h0
  cases e0
  obtain ⟨hS, hfc, kC, hkC, hkind⟩ := X.2.2.1.1 0 _ rfl
  have hv : H[v]? = some (arrV (g 5) n (fun j => .int (f j))) := hI.1 q1 _ h1
  have fl : ∀ k, k < 4 → ∀ x, [Value.ref v, .int 0, .int 0, .int 0][k]? = some x → va_OF (TJ0 k).1 (TJ0 k).2.1 (TJ0 k).2.2.1 x r B s H := by
    intro k hk x hx
    obtain ⟨cf, kf, fi, fd, hi, hsl⟩ := hS k hk
    refine ⟨cf, kf, fi, fd, cell, hi, (u_facts hfc hkC (u_lays X.1.2.2.2.2 iw_J0 hk) hi).1, g1, (by rw [g3]; exact fun h => (by cases h)), ?_, n0⟩
    rw [hsl, g4 k hk]
    simp [vp_V, hx]
  exact ⟨⟨cell, g1, by rw [g3]; rfl, by rw [g2]; exact hfc, n0⟩, fl 1 (by decide) _ rfl, fl 0 (by decide) _ rfl, ⟨_, hv, (X.2.2.1.2 5 (g 5, .byte) rfl).1 n _, fun q => (by cases q), Nat.le_of_eq (arrV_size _ _ _).symm, by rw [arrV_size], fun j hj => arrV_read _ _ hj, n1⟩⟩
theorem va_at_lt {q : Nat × va_E} {H : Heap} (h : va_at D vwCl q H) : q.1 < H.size := h.lt
/-- the environment of a text that stands in the world, beside what is handed over -/
theorem kt_cell {ev : LEv} {r v n : Nat} {f : Nat → Int32} (X : CX p s m args meth c cc nL own D g) (hK : KF ev A s s.heap) (hA : ∀ q, s.heap.size ≤ q → A q) (hp : ws.Perm (wc ++ (STW g r v n f ++ wr))) : ∀ H locs, IW D A s ws H locs → KT ev r v n f (va_A wc H.size) s H := fun H locs hI => by
  have hI2 := IW_perm hp hI
  have hd := vD_nd.mp hI2.2.1
  have hn := hd.1
  rw [List.map_append] at hn
  obtain ⟨n1, n2, n3⟩ := List.nodup_append.mp hn
  have hq : ∀ x ∈ (STW g r v n f ++ wr).map Prod.fst, x < H.size → ¬ va_A wc H.size x := by
    intro x hx hl h
    rcases h with ⟨k, e9, h⟩ | h
    · exact n3 x (List.mem_map.mpr ⟨_, List.mem_of_getElem? h, rfl⟩) x hx rfl
    · omega
  have m0 : (r, (.inr (0, [.ref v, .int 0, .int 0, .int 0]) : va_E)) ∈ STW g r v n f ++ wr := List.mem_cons_self
  have m1 : (v, (.inl (g 5, n, .inl f) : va_E)) ∈ STW g r v n f ++ wr := List.mem_cons_of_mem _ List.mem_cons_self
  have hP := vP_mem.mp hI2.1
  have l0 : r < H.size := (hP _ (List.mem_append_right _ m0)).lt
  have l1 : v < H.size := (hP _ (List.mem_append_right _ m1)).lt
  refine ⟨kc_of (KF_ok ev) (fun _ _ _ q => q) hK hA (pm_bkc hp) H locs hI, ?_⟩
  refine tx_of (ws := STW g r v n f ++ (wr ++ wc)) (q0 := 0) (q1 := 1) X (IW_perm ?_ hI2) rfl rfl (hq r (List.mem_map.mpr ⟨_, m0, rfl⟩) l0) (hq v (List.mem_map.mpr ⟨_, m1, rfl⟩) l1)
  exact List.perm_append_comm.trans (by rw [List.append_assoc])
/-- the environment of a text that is a fact -/
theorem kt_fact {ev : LEv} {r v n : Nat} {f : Nat → Int32} (hK : KF ev A s s.heap) (hT : TX r v n f A s s.heap) (hA : ∀ q, s.heap.size ≤ q → A q) (hb : bkc ws wc) : ∀ H locs, IW D A s ws H locs → KT ev r v n f (va_A wc H.size) s H := kc_of (KT_ok ev r v n f) (fun _ _ _ q => q) ⟨hK, hT⟩ hA hb
end TXC
theorem TQ.copy {n : Nat} {f f2 : Nat → Int32} {l : List Int32} (h : TQ n f l) (h2 : ∀ i, i < n → f2 i = f i) : TQ n f2 l := ⟨h.1, fun i hi => by rw [h2 i hi]; exact h.2 i hi⟩
