section RN2
variable {b : Int} {x : XVal} {y : MVal}
def xA (x : XVal) : TVal := (fun k => x.1 (k + 10), fun k => x.2.1 (k + 12))
theorem FRUN {X : Nat → Int32} {v w : TVal} {ps pn sz ct pl er rn rd : Int32} {pool : Nat → TVal} {K N : Nat → Int32} {fl : Bool} {ct2 pl2 er2 : Int32} {K2 N2 : Nat → Int32} (h : F_X3_read sz X ct pl er K N = some (0, bI fl, ct2, pl2, er2, K2, N2)) : F_X11_run X (v.1 0) (v.1 1) (v.1 2) (v.1 3) (v.1 4) (v.1 5) (v.1 6) (v.2 0) (v.2 1) (v.2 2) (v.2 3) (v.2 4) (v.1 7) (v.2 5) (v.2 6) (v.2 7) (v.1 8) (v.2 8) (v.2 9) (v.2 10) (v.2 11) (w.1 0) (w.1 1) (w.1 2) (w.1 3) (w.1 4) (w.1 5) (w.1 6) (w.2 0) (w.2 1) (w.2 2) (w.2 3) (w.2 4) (w.1 7) (w.2 5) (w.2 6) (w.2 7) (w.1 8) (w.2 8) (w.2 9) (w.2 10) (w.2 11) ps pn pool rn rd sz ct pl er K N = LR X 100 (if fl = true then 0 else 2) 0 v (cpT v w) ps pn pool rn rd 0 ct2 pl2 er2 K2 N2 := by
  unfold F_X11_run J_X11_run_15 F_X3_clear LR
  rw [h, bnd_some]
  dsimp only
  rw [brn_pos _ _ (show (0 : Nat) = 0 from rfl)]
  cases fl with
  | true =>
    rw [brn_neg _ _ (show ¬ bI true = 0 by decide), bnd_some, x_take9, bnd_some]
    rfl
  | false =>
    rw [brn_pos _ _ (show bI false = 0 from rfl), bnd_some, x_take9, bnd_some]
    rfl
set_option maxHeartbeats 4000000 in
theorem OPK_run {cs : List (Nat × Int)} {k : Nat} {a v2 ps pn rn rd ct pl er pm th rs dt rf at_ wr om : Int32} {V W : TVal} {pool : Nat → TVal} {K N s bf past O : Nat → Int32} {t : Int} {ρ π : Nat → Int} {n e : Nat}
    (hF : F_X11_run (x.2.1 36) (x.1 1) (x.1 2) (x.1 3) (x.1 4) (x.1 5) (x.1 6) (x.1 7) (x.2.1 0) (x.2.1 1) (x.2.1 2) (x.2.1 3) (x.2.1 4) (x.1 8) (x.2.1 5) (x.2.1 6) (x.2.1 7) (x.1 9) (x.2.1 8) (x.2.1 9) (x.2.1 10) (x.2.1 11) (x.1 10) (x.1 11) (x.1 12) (x.1 13) (x.1 14) (x.1 15) (x.1 16) (x.2.1 12) (x.2.1 13) (x.2.1 14) (x.2.1 15) (x.2.1 16) (x.1 17) (x.2.1 17) (x.2.1 18) (x.2.1 19) (x.1 18) (x.2.1 20) (x.2.1 21) (x.2.1 22) (x.2.1 23) (x.1 28) (x.1 29) x.2.2 (x.1 30) (x.1 31) (x.1 32) (x.1 33) (x.1 34) (x.1 35) (x.2.1 37) (x.2.1 38) = RU k a V W ps pn pool rn rd 0 ct pl er K N) (hH : F_X12_run (y.2 7) (y.1 1) (y.1 2) (y.1 3) (y.1 4) (y.1 5) (y.1 9) (y.1 10) (y.1 11) (y.1 12) (y.1 13) (y.2 0) (y.2 1) (y.2 3) (y.2 8) = some (0, v2, pm, th, rs, dt, rf, 0, at_, wr, er, om, s, bf, past, O))
    (hm : (k, t) ∈ cs) (ht : th = I t) (ha : k = 0 → a = v2) (w1 : WF (b + 300) ρ) (w2 : s = J ρ) (w3 : TR ρ V) (hK : RK b x y) (p1 : ps = I n) (p2 : pn = I e) (p3 : pm = I n) (p4 : past = J π) (p5 : Pst (b + 300) n e pool π) (hq : RQ rn rd rs dt) (hS : RS x y) : OPK cs b (G_run x) (H_run y) := by
  unfold G_run H_run
  rw [hF, hH]
  unfold RU
  rw [bnd_some, bnd_some, grd_pos _ (show (0 : Nat) = 0 from rfl)]
  exact ⟨k, a, _, v2, _, t, hm, rfl, rfl, ht, ha, ⟨ρ, π, n, e, ⟨w1, w2, w3⟩, hK.mono (by omega), ⟨p1, p2, p3, p4, p5⟩, hq, ⟨rfl, 0, by omega, rfl, rfl, fun i hi => by omega⟩, hS⟩⟩
set_option maxHeartbeats 4000000 in
theorem op_run (hR : Rel b x y) (hb : 0 ≤ b) (hb2 : b < 800000) : OPK [(0, 0), (2, 1), (3, 2)] b (G_run x) (H_run y) := by
  obtain ⟨σ, π, n, e, ⟨hw, hs, T⟩, hK, ⟨h28, h29, hm, hp, hP⟩, hQ, ⟨hE, m, m60, h32, h9, hr⟩, hS⟩ := hR
  obtain ⟨β, hβr, hβ⟩ := J_ex (y.2 1)
  obtain ⟨q2, fl, ct, om, K2, N2, O2, r1, r2, r3, r4⟩ := rd_all (X := x.2.1 36) (Y := y.2 7) m60 hr (x.1 33) (x.1 34) (x.1 35) (y.1 12) (y.1 1) (y.1 2) (y.1 3) (y.1 4) (y.1 5) (y.1 10) (y.1 11) (y.1 13) (y.2 0) (y.2 1) (y.2 3) (x.2.1 37) (x.2.1 38) (y.2 8)
  rw [← h32] at r2
  rw [← h9] at r3
  have hF : F_X11_run (x.2.1 36) (x.1 1) (x.1 2) (x.1 3) (x.1 4) (x.1 5) (x.1 6) (x.1 7) (x.2.1 0) (x.2.1 1) (x.2.1 2) (x.2.1 3) (x.2.1 4) (x.1 8) (x.2.1 5) (x.2.1 6) (x.2.1 7) (x.1 9) (x.2.1 8) (x.2.1 9) (x.2.1 10) (x.2.1 11) (x.1 10) (x.1 11) (x.1 12) (x.1 13) (x.1 14) (x.1 15) (x.1 16) (x.2.1 12) (x.2.1 13) (x.2.1 14) (x.2.1 15) (x.2.1 16) (x.1 17) (x.2.1 17) (x.2.1 18) (x.2.1 19) (x.1 18) (x.2.1 20) (x.2.1 21) (x.2.1 22) (x.2.1 23) (x.1 28) (x.1 29) x.2.2 (x.1 30) (x.1 31) (x.1 32) (x.1 33) (x.1 34) (x.1 35) (x.2.1 37) (x.2.1 38) = _ := FRUN (v := xT x) (w := xA x) r2
  have TA : TR σ (cpT (xT x) (xA x)) := TR_take hw T (xA x)
  have back : ∀ V : TVal, TR σ (cpT (cpT (xT x) (xA x)) V) := fun V => TR_take hw TA V
  cases fl with
  | false =>
    have e1 : LR (x.2.1 36) 100 2 0 (xT x) (cpT (xT x) (xA x)) (x.1 28) (x.1 29) x.2.2 (x.1 30) (x.1 31) 0 ct (I q2) (eP false q2) K2 N2 = RU 2 0 (cpT (cpT (xT x) (xA x)) (xT x)) (cpT (xT x) (xA x)) (x.1 28) (x.1 29) x.2.2 (x.1 30) (x.1 31) 0 ct (I q2) (eP false q2) K2 N2 :=
      (LR_off (f := 99) (Or.inr (by decide))).trans (JS_n (cc := 2) (by omega) (by omega))
    rw [if_neg (by decide), e1] at hF
    have e2 : J_X12_run_90 (y.2 7) (eP false q2) (y.1 1) (y.1 2) (y.1 3) (y.1 4) (y.1 5) (y.1 9) (I q2) (bI (!false)) (y.1 12) om (y.2 0) (y.2 1) (y.2 3) O2 = some (0, 0, y.1 1, 1, y.1 3, y.1 4, y.1 5, 0, I q2, 1, eP false q2, om, y.2 0, y.2 1, y.2 3, O2) := by
      unfold J_X12_run_90 F_X12_fails
      rw [brn_neg _ _ (show ¬ bI (!false) = 0 by decide), bnd_some]
      rfl
    rw [e2] at r3
    exact OPK_run hF r3 (t := 1) (by decide) rfl (fun g => absurd g (by decide)) (hw.mono (by omega)) hs (back (xT x)) hK h28 h29 hm hp (hP.mono (by omega)) hQ hS
  | true =>
    obtain ⟨c2, c20, rfl, rfl, ok⟩ := r4 rfl
    rw [if_pos rfl] at hF
    have e2 : J_X12_run_90 (y.2 7) (eP true q2) (y.1 1) (y.1 2) (y.1 3) (y.1 4) (y.1 5) (y.1 9) (I q2) (bI (!true)) (y.1 12) (I c2) (y.2 0) (y.2 1) (y.2 3) O2 = L_X12_run_117 (y.2 7) 100 0 (y.1 1) 0 (y.1 3) (y.1 4) (y.1 5) 0 (I q2) 0 (eP true q2) (I c2) (J σ) (J (CP σ β 0 0 147)) (y.2 3) O2 := by
      unfold J_X12_run_90
      rw [brn_pos _ _ (show bI (!true) = 0 from rfl), hs, hβ, m_keep, bnd_some]
      rfl
    rw [e2] at r3
    obtain ⟨cc, t, rn2, rd2, mr2, md2, mi2, τ2, v2, z1, z2, z3⟩ := run_loop (X := x.2.1 36) (Y := y.2 7) (K := K2) (N := N2) (O := O2) (w := cpT (xT x) (xA x)) (ps := x.1 28) (pn := x.1 29) (sz := 0) (pl := I q2) (er := eP true q2) (pool := x.2.2) c20 ok (y.1 1) (I q2) (eP true q2) (J (CP σ β 0 0 147)) (y.2 3) c2 0 100 100 b σ (xT x) (x.1 30) (x.1 31) (y.1 3) (y.1 4) (y.1 5) (by omega) (by omega) (by omega) hw hb (by omega) T hQ
    rw [show LR (x.2.1 36) 100 0 0 (xT x) (cpT (xT x) (xA x)) (x.1 28) (x.1 29) x.2.2 (x.1 30) (x.1 31) 0 (I c2) (I q2) (eP true q2) K2 N2 = _ from z2] at hF
    rcases z3 with ⟨rfl, y2, y3, y4⟩ | ⟨y1, y2, y3, y4, y5⟩
    · obtain ⟨pool2, j1, j2⟩ := JS_0 (X := x.2.1 36) (K := K2) (N := N2) (v := v2) (w := cpT (xT x) (xA x)) (sz := 0) (ct := I c2) (pl := I q2) (er := eP true q2) (rn := rn2) (rd := rd2) hw TA hP
      rw [← h28, ← h29] at j1
      rw [j1] at hF
      have e3 : L_X12_run_117 (y.2 7) 100 0 (y.1 1) 0 (y.1 3) (y.1 4) (y.1 5) 0 (I q2) 0 (eP true q2) (I c2) (J σ) (J (CP σ β 0 0 147)) (y.2 3) O2 = some (0, I c2, I (if n = 8 then 8 else n + 1 : Nat), 0, mr2, md2, mi2, 0, I q2, 0, eP true q2, I c2, J τ2, J (CP σ β 0 0 147), J (pushP n σ π), O2) := by
        refine Eq.trans y4 ?_
        unfold RE
        rw [hm, hp, m_ends hP.1, bnd_some]
      rw [e3] at r3
      exact OPK_run hF r3 (t := 0) (by decide) rfl (fun _ => rfl) (y2.mono (by omega)) rfl y3 hK rfl rfl rfl rfl (j2.mono (by omega)) z1 hS
    · rw [JS_n y1 y2] at hF
      obtain ⟨ζ, hζ, eζ⟩ := J_ex (J τ2)
      have ec : ∀ k : Nat, k < 147 → CP σ ζ 0 0 147 k = σ k := by
        intro k hk
        unfold CP
        rw [if_pos (by omega)]
        exact congrArg σ (by omega)
      have w1 : WF b (CP σ ζ 0 0 147) := WF_cong hw (CP_r hw.r hζ) ec
      have w2 := TR_cong hw (back v2) ec
      have e3 : ∀ u : Int, u = 1 ∨ u = 2 → J_X12_run_155 (y.2 7) (I u) (y.1 1) (I t) mr2 md2 mi2 0 (I q2) 0 (eP true q2) (I c2) (J τ2) (J (CP σ β 0 0 147)) (y.2 3) O2 = some (0, 0, y.1 1, I u, mr2, md2, mi2, 0, I q2, 0, eP true q2, I c2, J (CP σ ζ 0 0 147), J (CP σ β 0 0 147), y.2 3, O2) := by
        intro u hu
        unfold J_X12_run_155
        rw [eζ, m_endsF (t := u) (by omega) (by omega), bnd_some]
      rw [show L_X12_run_117 (y.2 7) 100 0 (y.1 1) 0 (y.1 3) (y.1 4) (y.1 5) 0 (I q2) 0 (eP true q2) (I c2) (J σ) (J (CP σ β 0 0 147)) (y.2 3) O2 = _ from y5] at r3
      by_cases c3 : cc = 3
      · rw [if_pos c3] at hF r3
        rw [show J_X12_run_155 (y.2 7) 2 (y.1 1) (I t) mr2 md2 mi2 0 (I q2) 0 (eP true q2) (I c2) (J τ2) (J (CP σ β 0 0 147)) (y.2 3) O2 = _ from e3 2 (Or.inr rfl)] at r3
        exact OPK_run hF r3 (t := 2) (by decide) rfl (fun g => absurd g (by decide)) (w1.mono (by omega)) rfl w2 hK h28 h29 hm hp (hP.mono (by omega)) z1 hS
      · rw [if_neg c3] at hF r3
        rw [show J_X12_run_155 (y.2 7) 1 (y.1 1) (I t) mr2 md2 mi2 0 (I q2) 0 (eP true q2) (I c2) (J τ2) (J (CP σ β 0 0 147)) (y.2 3) O2 = _ from e3 1 (Or.inl rfl)] at r3
        exact OPK_run hF r3 (t := 1) (by decide) rfl (fun g => absurd g (by decide)) (w1.mono (by omega)) rfl w2 hK h28 h29 hm hp (hP.mono (by omega)) z1 hS
end RN2
