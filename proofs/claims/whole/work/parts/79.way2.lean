-- 79: call: way, the reference; both
section WAY
variable {S : SC} {A : AS} {X : XS}
/-- what the reference keeps while it reads -/
theorem RfR.wy {H H' : AH} {L L' : List Cla} {n : Nat} (s : RfR H L X) (f : Fr (fun o i => (o = 67 ∧ (10 ≤ i ∧ i ≤ 14 ∨ i = 23 ∨ i = 24 ∨ i = 25)) ∨ (74 ≤ o ∧ o ≤ 80)) H H') (h10 : aI H' 67 10 = nI n) (h12 : aI H' 67 12 = 0) (hk : ∃ k o, aI H' 67 24 = nI k ∧ aI H' 67 25 = nI o) (hs : ∃ Z : Nat → List Cla, (∀ f, f < n → SlM H' f (Z f)) ∧ Cur Z (aI H' 67 11) L' n ∧ (X.hI = 1 → Cur Z (aI H' 67 46) X.I.L n)) : RfR H' L' (X.wy n) :=
  ⟨(f.I _ _ (by omega)).trans s.hi, fun z => (s.im z).fr f (fun o i z => by omega), h10, hs, h12, fun i hi => absurd hi (Nat.not_lt_zero i), hk, (f.I _ _ (by omega)).trans s.rn, fun i hi h2 => (f.I _ _ (by omega)).trans (s.rb i hi h2), fun j hj => (f.I _ _ (by omega)).trans (s.ts j hj), fun j hj => (f.I _ _ (by omega)).trans (s.tl j hj), fun j hj i hi => (f.Jq _ _ (by omega)).trans (s.ti j hj i hi), fun i hi => (f.I _ _ (by omega)).trans (s.le i hi)⟩
theorem n_way {d : Nat} {H : AH} (g : MoA H A) (s : RfR H A.L X) (wx : WfX X) (hn : X.nw < 6) {q : Nat} {r : Option (List Cla)} (hW : WyP (X.tn, X.tx) 10 0 q r) :
    (∀ L, r = some L → (∀ c ∈ L, ClW c) → L.length ≤ 10 → ∃ H1, MoA H1 (A.uL L) ∧ RfR H1 L (X.wy (X.nw + 1)) ∧ Fr (fun o _ => 67 ≤ o ∧ o < 110) H H1 ∧ ∀ Q, Wp S (d + 40) 153 0 [.ref 67, hole] [] H Q = Q (some (.int (nI X.nw))) H1)
    ∧ (r = none → ∃ H1, MoA H1 A ∧ RfR H1 A.L (X.wy X.nw) ∧ Fr (fun o _ => 67 ≤ o ∧ o < 110) H H1 ∧ ∀ Q, Wp S (d + 40) 153 0 [.ref 67, hole] [] H Q = Q (some (.int (-10 - nI q))) H1) := by
  obtain ⟨k, o, k1, k2⟩ := s.ko
  obtain ⟨Z, z1, z2, z3⟩ := s.sl
  have tn := wx.tn
  have rl : ReL H (X.tn, X.tx) := ⟨g.lay, s.tn, s.tx, s.le, tn⟩
  have hg := m_goes (S := S) (d := d + 33) hn rl k1 k2 hW
  have n6 : ¬ nI X.nw = 6 := fun z => by have := (nI_eq (a := X.nw) (b := 6) (by omega) (by decide)).mp z; omega
  refine ⟨fun L hL hw hl => ?_, fun hL => ?_⟩
  · obtain ⟨hq, s', e1, e2, e3, e4, e5, e6⟩ := hg.1 L hL
    have hq : q = X.tn := hq
    have f1 : Fr (fun o i => (o = 67 ∧ (10 ≤ i ∧ i ≤ 14 ∨ i = 23 ∨ i = 24 ∨ i = 25)) ∨ (74 ≤ o ∧ o ≤ 80)) H (pS H s') := (Fr.pS H s').mono fun o i z => by omega
    have g1 := g.lay.fr f1
    have kp : ∀ f, f < X.nw → SlM (pS H s') f (Z f) := fun f hf => (z1 f hf).keep hf e3
    have nw : SlM (pS H s') X.nw L := SlM.new hw hl e2 e4 e5 (by omega)
    have x10 : aI (pS H s') 67 10 = nI X.nw := s.nw
    have x24 : aI (pS H s') 67 24 = nI s'.k := rfl
    have x25 : aI (pS H s') 67 25 = nI s'.o := rfl
    have x46 : aI (pS H s') 67 46 = aI H 67 46 := f1.I _ _ (by omega)
    obtain ⟨H1, hH1⟩ : ∃ G, pS H s' = G := ⟨_, rfl⟩
    rw [hH1] at f1 g1 kp nw x10 x24 x25 x46
    have f2 : Fr (fun o i => o = 67 ∧ 10 ≤ i ∧ i ≤ 12) H1 (sI (sI (sI H1 67 12 0) 67 11 (nI X.nw)) 67 10 (nI (X.nw + 1))) := ((Fr.wI _ (by decide)).trans (Fr.wI _ (by decide))).trans (Fr.wI _ (by decide))
    have y10 : aI (sI (sI (sI H1 67 12 0) 67 11 (nI X.nw)) 67 10 (nI (X.nw + 1))) 67 10 = nI (X.nw + 1) := rfl
    have y11 : aI (sI (sI (sI H1 67 12 0) 67 11 (nI X.nw)) 67 10 (nI (X.nw + 1))) 67 11 = nI X.nw := rfl
    have y12 : aI (sI (sI (sI H1 67 12 0) 67 11 (nI X.nw)) 67 10 (nI (X.nw + 1))) 67 12 = 0 := rfl
    have u10 : aI (sI H1 67 12 0) 67 10 = nI X.nw := x10
    have u10b : aI (sI (sI H1 67 12 0) 67 11 (nI X.nw)) 67 10 = nI X.nw := x10
    obtain ⟨H2, hH2⟩ : ∃ G, sI (sI (sI H1 67 12 0) 67 11 (nI X.nw)) 67 10 (nI (X.nw + 1)) = G := ⟨_, rfl⟩
    rw [hH2] at f2 y10 y11 y12
    have fA : Fr (fun o i => (o = 67 ∧ (10 ≤ i ∧ i ≤ 14 ∨ i = 23 ∨ i = 24 ∨ i = 25)) ∨ (74 ≤ o ∧ o ≤ 80)) H H2 := f1.trans (f2.mono fun o i z => by omega)
    have zz : ∀ f, f < X.nw + 1 → SlM H2 f (if f = X.nw then L else Z f) := fun f hf => by
      by_cases e : f = X.nw
      · rw [if_pos e, e]; exact nw.fr f2 (fun o i z => by omega)
      · rw [if_neg e]; exact (kp f (by omega)).fr f2 (fun o i z => by omega)
    have cc : Cur (fun f => if f = X.nw then L else Z f) (aI H2 67 11) L (X.nw + 1) := Or.inr ⟨X.nw, by omega, y11, (if_pos rfl).symm⟩
    have ci : X.hI = 1 → Cur (fun f => if f = X.nw then L else Z f) (aI H2 67 46) X.I.L (X.nw + 1) := fun z => by
      rw [show aI H2 67 46 = aI H 67 46 from (f2.I _ _ (by omega)).trans x46]
      rcases z3 z with a | ⟨f, f1, f2, f3⟩
      · exact Or.inl a
      · exact Or.inr ⟨f, by omega, f2, f3.trans (if_neg (by omega)).symm⟩
    refine ⟨H2, g.cL fA (fun o i z h1 h2 => by omega) (cur_way (n := X.nw + 1) (by omega) zz cc), s.wy fA y10 y12 ⟨s'.k, s'.o, (f2.I _ _ (by omega)).trans x24, (f2.I _ _ (by omega)).trans x25⟩ ⟨_, zz, cc, ci⟩, fA.mono (fun o i z => by omega), fun Q => ?_⟩
    simp only [sX8_way_0, sX8_way_1, sX8_way_4, sX8_way_6, sX8_way_9, sX8_way_12, sX8_way_11 (st := []), sX8_way_13, sX8_way_14, sX8_way_17 (st := []), sX8_way_20, sX8_way_21, sX8_way_22, sX8_way_23, sX8_way_26, sX8_way_27, sX8_way_30, sX8_way_38, sX8_way_32, sX8_way_39, sX8_way_33, sX8_way_40, sX8_way_36, sX8_way_43, sX8_way_37 (st := []), sX8_way_46, sX8_way_47, sX8_way_48, sX8_way_51, sX8_way_52, sX8_way_53, sX8_way_56, sX8_way_57, sX8_way_60 (st := []), inb, nz_3, nz_4, nz_6, nz_8, nz_10, nz_100, nz_300, pushr_s, pushr_n, rv_s, rv_n, kd_sI, kd_sR, kd_sJ, sz_sI, sz_sR, sz_sJ, aR_sI, aJ_sI, aI_sR, aI_sJ, not_false_eq_true, true_and, and_true, true_or, or_true, or_false, false_or, eq_self, ite_true, ite_false, if_true, if_false, L_0_0, L_0_1, L_0_2, L_0_3, L_0_4, L_0_5, L_0_6, L_0_7, L_1_0, L_1_1, L_1_2, L_1_3, L_1_4, L_1_5, L_1_6, L_1_7, L_2_0, L_2_1, L_2_2, L_2_3, L_2_4, L_2_5, L_2_6, L_2_7, L_3_0, L_3_1, L_3_2, L_3_3, L_3_4, L_3_5, L_3_6, L_3_7, L_4_0, L_4_1, L_4_2, L_4_3, L_4_4, L_4_5, L_4_6, L_4_7, L_5_0, L_5_1, L_5_2, L_5_3, L_5_4, L_5_5, L_5_6, L_5_7, L_6_0, L_6_1, L_6_2, L_6_3, L_6_4, L_6_5, L_6_6, L_6_7, L_7_0, L_7_1, L_7_2, L_7_3, L_7_4, L_7_5, L_7_6, L_7_7, I_0, I_1, I_2, I_3, I_4, I_5, I_6, I_7, mk_67 g.lay, mk_67 g1, s.nw, n6, e6, hH1, u10, u10b, nI_1, hH2, y11, mk_67 (g.lay.fr fA)]
  · obtain ⟨s', e1, e3, e6⟩ := hg.2 hL
    have f1 : Fr (fun o i => (o = 67 ∧ (10 ≤ i ∧ i ≤ 14 ∨ i = 23 ∨ i = 24 ∨ i = 25)) ∨ (74 ≤ o ∧ o ≤ 80)) H (pS H s') := (Fr.pS H s').mono fun o i z => by omega
    have g1 := g.lay.fr f1
    have kp : ∀ f, f < X.nw → SlM (pS H s') f (Z f) := fun f hf => (z1 f hf).keep hf e3
    have x13 : aI (pS H s') 67 13 = nI q := by rw [← e1]; rfl
    have x10 : aI (pS H s') 67 10 = nI X.nw := s.nw
    have x11 : aI (pS H s') 67 11 = aI H 67 11 := rfl
    have x24 : aI (pS H s') 67 24 = nI s'.k := rfl
    have x25 : aI (pS H s') 67 25 = nI s'.o := rfl
    have x46 : aI (pS H s') 67 46 = aI H 67 46 := f1.I _ _ (by omega)
    obtain ⟨H1, hH1⟩ : ∃ G, pS H s' = G := ⟨_, rfl⟩
    rw [hH1] at f1 g1 kp x10 x11 x13 x24 x25 x46
    have f2 : Fr (fun o i => o = 67 ∧ i = 12) H1 (sI H1 67 12 0) := Fr.wI _ (by decide)
    have y13 : aI (sI H1 67 12 0) 67 13 = nI q := x13
    have y12 : aI (sI H1 67 12 0) 67 12 = 0 := rfl
    obtain ⟨H2, hH2⟩ : ∃ G, sI H1 67 12 0 = G := ⟨_, rfl⟩
    rw [hH2] at f2 y12 y13
    have fA : Fr (fun o i => (o = 67 ∧ (10 ≤ i ∧ i ≤ 14 ∨ i = 23 ∨ i = 24 ∨ i = 25)) ∨ (74 ≤ o ∧ o ≤ 80)) H H2 := f1.trans (f2.mono fun o i z => by omega)
    have zz : ∀ f, f < X.nw → SlM H2 f (Z f) := fun f hf => (kp f hf).fr f2 (fun o i z => by omega)
    have y11 : aI H2 67 11 = aI H 67 11 := (f2.I _ _ (by omega)).trans x11
    have cc : Cur Z (aI H2 67 11) A.L X.nw := by rw [y11]; exact z2
    have ci : X.hI = 1 → Cur Z (aI H2 67 46) X.I.L X.nw := fun z => by
      rw [show aI H2 67 46 = aI H 67 46 from (f2.I _ _ (by omega)).trans x46]
      exact z3 z
    have mm : MoA H2 (A.uL A.L) := g.cL fA (fun o i z h1 h2 => by omega) (cur_way (n := X.nw) (by omega) zz cc)
    refine ⟨H2, mm, s.wy fA ((f2.I _ _ (by omega)).trans x10) y12 ⟨s'.k, s'.o, (f2.I _ _ (by omega)).trans x24, (f2.I _ _ (by omega)).trans x25⟩ ⟨Z, zz, cc, ci⟩, fA.mono (fun o i z => by omega), fun Q => ?_⟩
    simp only [sX8_way_0, sX8_way_1, sX8_way_4, sX8_way_6, sX8_way_9, sX8_way_12, sX8_way_11 (st := []), sX8_way_13, sX8_way_14, sX8_way_17 (st := []), sX8_way_20, sX8_way_21, sX8_way_22, sX8_way_23, sX8_way_26, sX8_way_27, sX8_way_30, sX8_way_38, sX8_way_32, sX8_way_39, sX8_way_33, sX8_way_40, sX8_way_36, sX8_way_43, sX8_way_37 (st := []), sX8_way_46, sX8_way_47, sX8_way_48, sX8_way_51, sX8_way_52, sX8_way_53, sX8_way_56, sX8_way_57, sX8_way_60 (st := []), inb, nz_3, nz_4, nz_6, nz_8, nz_10, nz_100, nz_300, pushr_s, pushr_n, rv_s, rv_n, kd_sI, kd_sR, kd_sJ, sz_sI, sz_sR, sz_sJ, aR_sI, aJ_sI, aI_sR, aI_sJ, not_false_eq_true, true_and, and_true, true_or, or_true, or_false, false_or, eq_self, ite_true, ite_false, if_true, if_false, L_0_0, L_0_1, L_0_2, L_0_3, L_0_4, L_0_5, L_0_6, L_0_7, L_1_0, L_1_1, L_1_2, L_1_3, L_1_4, L_1_5, L_1_6, L_1_7, L_2_0, L_2_1, L_2_2, L_2_3, L_2_4, L_2_5, L_2_6, L_2_7, L_3_0, L_3_1, L_3_2, L_3_3, L_3_4, L_3_5, L_3_6, L_3_7, L_4_0, L_4_1, L_4_2, L_4_3, L_4_4, L_4_5, L_4_6, L_4_7, L_5_0, L_5_1, L_5_2, L_5_3, L_5_4, L_5_5, L_5_6, L_5_7, L_6_0, L_6_1, L_6_2, L_6_3, L_6_4, L_6_5, L_6_6, L_6_7, L_7_0, L_7_1, L_7_2, L_7_3, L_7_4, L_7_5, L_7_6, L_7_7, I_0, I_1, I_2, I_3, I_4, I_5, I_6, I_7, mk_67 g.lay, mk_67 g1, s.nw, n6, e6, hH1, hH2, mk_67 (g.lay.fr fA), y13]
theorem Wf.uL {A : AS} (w : Wf A) (L : List Cla) (hL : ∀ q ∈ L, ClW q) : Wf (A.uL L) := ⟨w.hN, w.hP, w.hD, w.hO, w.hB, w.hK, w.hV, w.hR, w.hR0, w.hM, w.hW, w.hW0, w.hs, w.hs1, w.hp, w.hp1, w.hb, w.hb1, hL⟩
theorem k_way : Call S 81 153 [.ref 0, hole] [.ref 67, hole] := by
  intro H A X d W
  have nw := W.x.nw
  by_cases q : X.nw < 6
  · rcases c_way (S := S) (d := d) W.c W.l W.r W.x q with ⟨L, w1, w2, w3, H1, a1, a2, a3, a4, a5, a6⟩ | ⟨e, w1, H1, a1, a2, a3, a4, a5, a6⟩
    · obtain ⟨H2, b1, b2, b3, b4⟩ := (n_way (S := S) (d := d) (a4 _ W.m) (a5 _ _ W.s) W.x q w1).1 L rfl w2 w3
      exact ⟨.int (nI X.nw), H1, H2, A.uL L, X.wy (X.nw + 1), a6, b4, mk_67 (a4 _ W.m).lay, ⟨a1.fr b3 (fun o i z => ⟨fun _ _ => by omega, by omega⟩), a2.fr b3, a3.fr b3 (fun o i z => Or.inr z), b1, b2, W.w.uL L w2, W.d, W.x.way (by omega)⟩⟩
    · obtain ⟨H2, b1, b2, b3, b4⟩ := (n_way (S := S) (d := d) (a4 _ W.m) (a5 _ _ W.s) W.x q w1).2 rfl
      exact ⟨.int (-10 - nI e), H1, H2, A, X.wy X.nw, a6, b4, mk_67 (a4 _ W.m).lay, ⟨a1.fr b3 (fun o i z => ⟨fun _ _ => by omega, by omega⟩), a2.fr b3, a3.fr b3 (fun o i z => Or.inr z), b1, b2, W.w, W.d, W.x.way (by omega)⟩⟩
  · have e6 : X.nw = 6 := by omega
    have c5 : aI H 0 5 = 6 := W.r.nw.trans (congrArg nI e6)
    have c10 : aI H 67 10 = 6 := W.s.nw.trans (congrArg nI e6)
    have n66 : ¬ ((6 : Int32) < 6) := by decide +kernel
    have g := W.m.lay
    refine ⟨.int (-4), H, H, A, X, fun Q => ?_, fun Q => ?_, mk_67 W.m.lay, W⟩
    · simp only [sX7_way_0, sX7_way_1, sX7_way_4, sX7_way_6, sX7_way_9, sX7_way_12, sX7_way_11 (st := []), sX7_way_13, sX7_way_16 (st := []), sX7_way_19, sX7_way_20, sX7_way_21, sX7_way_24, sX7_way_25, sX7_way_28, sX7_way_29, sX7_way_32, sX7_way_43, sX7_way_34, sX7_way_44, sX7_way_35, sX7_way_47, sX7_way_38, sX7_way_48, sX7_way_41, sX7_way_51 (st := []), sX7_way_42 (st := []), sX7_way_54r, sX7_way_54n, sX7_way_57, sX7_way_58, sX7_way_59, sX7_way_62, sX7_way_63, sX7_way_64, sX7_way_67, sX7_way_68, sX7_way_71, sX7_way_72, sX7_way_73 (st := []), inb, nz_3, nz_4, nz_6, nz_8, nz_10, nz_100, nz_300, pushr_s, pushr_n, rv_s, rv_n, kd_sI, kd_sR, kd_sJ, sz_sI, sz_sR, sz_sJ, aR_sI, aJ_sI, aI_sR, aI_sJ, not_false_eq_true, true_and, and_true, true_or, or_true, or_false, false_or, eq_self, ite_true, ite_false, if_true, if_false, W.l.k0, c5, n66]
    · simp only [sX8_way_0, sX8_way_1, sX8_way_4, sX8_way_6, sX8_way_9, sX8_way_12, sX8_way_11 (st := []), sX8_way_13, sX8_way_14, sX8_way_17 (st := []), sX8_way_20, sX8_way_21, sX8_way_22, sX8_way_23, sX8_way_26, sX8_way_27, sX8_way_30, sX8_way_38, sX8_way_32, sX8_way_39, sX8_way_33, sX8_way_40, sX8_way_36, sX8_way_43, sX8_way_37 (st := []), sX8_way_46, sX8_way_47, sX8_way_48, sX8_way_51, sX8_way_52, sX8_way_53, sX8_way_56, sX8_way_57, sX8_way_60 (st := []), inb, nz_3, nz_4, nz_6, nz_8, nz_10, nz_100, nz_300, pushr_s, pushr_n, rv_s, rv_n, kd_sI, kd_sR, kd_sJ, sz_sI, sz_sR, sz_sJ, aR_sI, aJ_sI, aI_sR, aI_sJ, not_false_eq_true, true_and, and_true, true_or, or_true, or_false, false_or, eq_self, ite_true, ite_false, if_true, if_false, L_0_0, L_0_1, L_0_2, L_0_3, L_0_4, L_0_5, L_0_6, L_0_7, L_1_0, L_1_1, L_1_2, L_1_3, L_1_4, L_1_5, L_1_6, L_1_7, L_2_0, L_2_1, L_2_2, L_2_3, L_2_4, L_2_5, L_2_6, L_2_7, L_3_0, L_3_1, L_3_2, L_3_3, L_3_4, L_3_5, L_3_6, L_3_7, L_4_0, L_4_1, L_4_2, L_4_3, L_4_4, L_4_5, L_4_6, L_4_7, L_5_0, L_5_1, L_5_2, L_5_3, L_5_4, L_5_5, L_5_6, L_5_7, L_6_0, L_6_1, L_6_2, L_6_3, L_6_4, L_6_5, L_6_6, L_6_7, L_7_0, L_7_1, L_7_2, L_7_3, L_7_4, L_7_5, L_7_6, L_7_7, I_0, I_1, I_2, I_3, I_4, I_5, I_6, I_7, mk_67 g, c10]
end WAY
