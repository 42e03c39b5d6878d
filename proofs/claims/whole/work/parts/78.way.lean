-- 78: call: way
theorem Fr.pS (H : AH) (s : MS) : Fr (fun o i => (o = 67 ∧ (i = 13 ∨ i = 14 ∨ i = 23 ∨ i = 24 ∨ i = 25)) ∨ (74 ≤ o ∧ o ≤ 80)) H (pS H s) :=
  ⟨rfl, fun o i h => by
    have h : ¬ ((o = 67 ∧ (i = 13 ∨ i = 14 ∨ i = 23 ∨ i = 24 ∨ i = 25)) ∨ (74 ≤ o ∧ o ≤ 80)) := h
    rw [aI_pS]
    by_cases q : o = 67
    · rw [if_pos q, if_neg (by omega), if_neg (by omega), if_neg (by omega), if_neg (by omega), if_neg (by omega), q]
    · rw [if_neg q, if_neg (by omega), if_neg (by omega), if_neg (by omega), if_neg (by omega), if_neg (by omega), if_neg (by omega), if_neg (by omega)], fun _ _ _ => rfl, fun _ _ _ => rfl⟩
theorem Fr.rS (H : AH) (s : RD) : Fr (fun o _ => o = 46 ∨ o = 48) H (rS H s) :=
  ⟨rfl, fun o i h => by
    have h : ¬ (o = 46 ∨ o = 48) := h
    rw [aI_rS, if_neg (by omega), if_neg (by omega)], fun _ _ _ => rfl, fun _ _ _ => rfl⟩
theorem SlM.keep {H : AH} {f g k o : Nat} {L : List Cla} {s : MS} (h : SlM H g L) (hg : g < f) (a : AgS (ms0 H f k o) s f 0) : SlM (pS H s) g L := by
  obtain ⟨z1, z2, z3, z4⟩ := h
  refine ⟨z1, z2, (a.cl g (by omega)).trans z3, fun j hj => ?_⟩
  obtain ⟨y1, y2, y3⟩ := z4 j hj
  refine ⟨(a.wd _ (Or.inl (by omega))).trans y1, (a.nu _ (Or.inl (by omega))).trans y2, fun q => ?_⟩
  obtain ⟨b, b1, b2, b3, b4, b5⟩ := y3 q
  exact ⟨b, b1, b2, (a.fr _ (Or.inl (by omega))).trans b3, (a.to _ (Or.inl (by omega))).trans b4, fun j hj => (a.f _ (by show b + j < 100 * f; omega)).trans (b5 j hj)⟩
theorem cls_at {s : MS} : ∀ (L : List Cla) (c b : Nat), ClsS s c b L → ∀ j, j < L.length → ∃ b', b ≤ b' ∧ b' + lnC (L.getD j (2, 0, [])) ≤ s.n ∧ ClS s (c + j) b' (L.getD j (2, 0, []))
  | [], _, _, _, j, hj => absurd hj (Nat.not_lt_zero j)
  | k :: L, c, b, h, 0, _ => h.1
  | k :: L, c, b, h, j + 1, hj => by
    obtain ⟨b', e1, e2, e3⟩ := cls_at L (c + 1) b h.2 j (Nat.lt_of_succ_lt_succ hj)
    refine ⟨b', e1, e2, ?_⟩
    rw [show c + (j + 1) = c + 1 + j by omega]
    exact e3
theorem SlM.new {H : AH} {f q : Nat} {L : List Cla} {s : MS} (hw : ∀ c ∈ L, ClW c) (hl : L.length ≤ 10) (h1 : s.cl f = nI L.length) (h2 : ClsS s (10 * f) (100 * f) L) (h3 : s.n ≤ 100 * f + q) (hq : q ≤ 100) : SlM (pS H s) f L := by
  refine ⟨hw, hl, h1, fun j hj => ?_⟩
  obtain ⟨b, e1, e2, e3⟩ := cls_at L _ _ h2 j hj
  refine ⟨e3.1, e3.2.1, fun z => ?_⟩
  obtain ⟨y1, y2, y3⟩ := e3.2.2 z
  have ln : lnC (L.getD j (2, 0, [])) = (L.getD j (2, 0, [])).2.2.length := if_neg (by omega)
  rw [ln] at e2
  exact ⟨b, e1, by omega, y1, y2, y3⟩
def XS.wy (X : XS) (n : Nat) : XS := (X.hI, X.I, n, 0, X.tx, X.rn, X.rb, X.ts, X.tl, X.ti)
theorem WfX.way {X : XS} (w : WfX X) {n : Nat} (h : n ≤ 6) : WfX (X.wy n) := ⟨w.hI, w.I, h, Nat.zero_le _, fun i hi => absurd hi (Nat.not_lt_zero i), w.rn, w.ts⟩
section WAY
variable {S : SC} {A : AS} {X : XS}
theorem c_way {d : Nat} {H : AH} (h : StA H 1 A) (l : CoL H) (r : CoR H X) (wx : WfX X) (hn : X.nw < 6) :
    (∃ L, WyP (X.tn, X.tx) 10 0 X.tn (some L) ∧ (∀ c ∈ L, ClW c) ∧ L.length ≤ 10 ∧ ∃ H1, StA H1 1 (A.uL L) ∧ CoL H1 ∧ CoR H1 (X.wy (X.nw + 1)) ∧ (∀ B, MoA H B → MoA H1 B) ∧ (∀ L' Y, RfR H L' Y → RfR H1 L' Y) ∧ ∀ Q, Wp S (d + 40) 81 0 [.ref 0, hole] [] H Q = Q (some (.int (nI X.nw))) H1)
    ∨ ∃ q, WyP (X.tn, X.tx) 10 0 q none ∧ ∃ H1, StA H1 1 A ∧ CoL H1 ∧ CoR H1 (X.wy X.nw) ∧ (∀ B, MoA H B → MoA H1 B) ∧ (∀ L' Y, RfR H L' Y → RfR H1 L' Y) ∧ ∀ Q, Wp S (d + 40) 81 0 [.ref 0, hole] [] H Q = Q (some (.int (-10 - nI q))) H1 := by
  have tn := wx.tn
  have rd : RdL H (X.tn, X.tx) := ⟨l.k46, l.k47, l.k48, l.z47, l.z48, l.r46a, l.r46b, r.tn, r.tx, tn⟩
  have ra := fun Q => w_all (S := S) (d := d + 12) (Q := Q) rd
  have pre : Pre (X.tn, X.tx) (rd0 H) := ⟨rfl, Nat.le_refl _, Nat.zero_le _, tn⟩
  have n6 : nI X.nw < 6 := nI_lt (b := 6) hn (by decide)
  rcases way_o 9 pre with ⟨L, o1, o2, o3, o4, o5⟩ | ⟨q, o1, o2, o3⟩
  · refine Or.inl ⟨L, o1, o3, o4, ?_⟩
    rw [o2] at ra
    obtain ⟨n, hnl⟩ : ∃ n, (codL L).length = n := ⟨_, rfl⟩
    have o5 : 0 + (codL L).length ≤ X.tn := o5
    have ab : allB (X.tn, X.tx) (advW (rd0 H) X.tn L) = 1 := by
      unfold allB
      rw [if_neg (by show ¬ false = true; decide), if_pos (by show X.tn = X.tn; rfl)]
    have ra : ∀ Q, Wp S (d + 39) 56 0 [.ref 46, hole] [] H Q = Q (some (.int 1)) (rS H (advW (rd0 H) X.tn L)) := fun Q => by rw [← ab]; exact ra Q
    have f1 : Fr (fun o _ => o = 46 ∨ o = 48) H (sI (rS H (advW (rd0 H) X.tn L)) 46 0 0) := (Fr.rS H _).trans (Fr.wI _ (Or.inl rfl))
    have x6 : aI (sI (rS H (advW (rd0 H) X.tn L)) 46 0 0) 46 6 = nI n := (gIn (by decide)).trans (by rw [rS_6, ← hnl]; exact congrArg nI (Nat.zero_add _))
    have x0 : aI (sI (rS H (advW (rd0 H) X.tn L)) 46 0 0) 46 0 = 0 := gIs
    have x4 : aI (sI (rS H (advW (rd0 H) X.tn L)) 46 0 0) 46 4 = maC L 9 := gIn (by decide)
    have x48 : ∀ j, j < n → aI (sI (rS H (advW (rd0 H) X.tn L)) 46 0 0) 48 j = nI ((codL L).getD j 0) := fun j hj => (gIn (by omega)).trans (by
      have := appF_at (codL L) (aI H 48) 0 j (by omega)
      rw [Nat.zero_add] at this
      exact this)
    obtain ⟨H1, hH1⟩ : ∃ G, sI (rS H (advW (rd0 H) X.tn L)) 46 0 0 = G := ⟨_, rfl⟩
    rw [hH1] at f1 x6 x0 x4 x48
    have l1 := l.fr f1
    have st1 : StA H1 1 A := h.fr f1 (fun o i z => ⟨fun _ _ => by omega, by omega⟩)
    have n1 : aN H1 = 110 + 2 * X.nw := f1.anq.trans r.an
    obtain ⟨N, hN⟩ : ∃ N, 110 + 2 * X.nw = N := ⟨_, rfl⟩
    rw [hN] at n1
    obtain ⟨H2, e, e1, e2, e3, e4, e5, e6, e7, e8⟩ := w_newWay (S := S) (d := d + 38) l1 x6 (by omega) n1 (by omega) (by omega)
    have l2 := l1.ne e
    have f3 : Fr (fun o i => (o = 1 ∧ i = 13) ∨ (o = 0 ∧ i = 5)) H2 (sI (sR H2 1 13 (some (N + 1))) 0 5 (nI (X.nw + 1))) := (Fr.wR _ (Or.inl ⟨rfl, rfl⟩) (by decide)).trans (Fr.wI _ (Or.inr ⟨rfl, rfl⟩))
    have y5 : aI H2 0 5 = nI X.nw := (e.I _ _ (by omega)).trans ((f1.I _ _ (by omega)).trans r.nw)
    have y6 : aI (sR H2 1 13 (some (N + 1))) 0 5 = nI X.nw := y5
    have y7 : aI (sI (sR H2 1 13 (some (N + 1))) 0 5 (nI (X.nw + 1))) 0 5 = nI (X.nw + 1) := gIs
    have y13 : aR (sI (sR H2 1 13 (some (N + 1))) 0 5 (nI (X.nw + 1))) 1 13 = some (N + 1) := (show aR (sR H2 1 13 (some (N + 1))) 1 13 = some (N + 1) from (gR H2 1 13 (some (N + 1)) 1 13).trans (if_pos ⟨rfl, rfl⟩))
    have ym : nI (X.nw + 1) - 1 = nI X.nw := by rw [← nI_1]; exact Int32.add_sub_cancel _ _
    obtain ⟨H3, hH3⟩ : ∃ G, sI (sR H2 1 13 (some (N + 1))) 0 5 (nI (X.nw + 1)) = G := ⟨_, rfl⟩
    rw [hH3] at f3 y7 y13
    have I : ∀ o i, o < 110 → ¬ (o = 46 ∨ o = 48) → ¬ ((o = 1 ∧ i = 13) ∨ (o = 0 ∧ i = 5)) → aI H3 o i = aI H o i := fun o i a b c => (f3.I o i c).trans ((e.I o i (by omega)).trans (f1.I o i b))
    refine ⟨H3, ?_, l2.fr f3, ⟨(I _ _ (by omega) (by omega) (by omega)).trans r.hi, fun z => (((r.im z).fr f1 (fun o i z => ⟨fun _ _ => by omega, by omega⟩)).ne e (by omega)).fr f3 (fun o i z => ⟨fun _ _ => by omega, by omega⟩), y7, (f3.I _ _ (by omega)).trans ((e.I _ _ (by omega)).trans x0), fun i hi => absurd hi (Nat.not_lt_zero i), (I _ _ (by omega) (by omega) (by omega)).trans r.rn, fun i hi h2 => (I _ _ (by omega) (by omega) (by omega)).trans (r.rb i hi h2), fun j hj => (I _ _ (by omega) (by omega) (by omega)).trans (r.ts j hj), fun j hj => (I _ _ (by omega) (by omega) (by omega)).trans (r.tl j hj), fun j hj i hi => (f3.Jq _ _ (by omega)).trans ((e.Jq _ _ (by omega)).trans ((f1.Jq _ _ (by omega)).trans (r.ti j hj i hi))), f3.anq.trans (by rw [e1, ← hN]; show 110 + 2 * X.nw + 2 = 110 + 2 * (X.nw + 1); omega)⟩, fun B m => ((m.fr f1 (fun o i z h1 h2 => by omega)).ne e).fr f3 (fun o i z h1 h2 => by omega), fun L' Y s => ((s.fr f1 (fun o i z => Or.inr (by omega))).ne e).fr f3 (fun o i z => Or.inr (by omega)), fun Q => ?_⟩
    · refine (st1.ne e (by omega)).cL f3 (fun o i z => ⟨fun _ _ => by omega, by omega⟩) ⟨o3, Or.inr ⟨N + 1, N, y13, (f3.kdq _).trans e5, (f3.R _ _ (by omega)).trans e6, (f3.kdq _).trans e2, (f3.szq _).trans (e3.trans hnl.symm), by omega, fun j hj => ?_, (f3.I _ _ (by omega)).trans (e7.trans x4), by omega, by omega⟩⟩
      exact (f3.I _ _ (by omega)).trans ((e4 j (by omega)).trans (x48 j (by omega)))
    · simp only [sX7_way_0, sX7_way_1, sX7_way_4, sX7_way_6, sX7_way_9, sX7_way_12, sX7_way_11 (st := []), sX7_way_13, sX7_way_16 (st := []), sX7_way_19, sX7_way_20, sX7_way_21, sX7_way_24, sX7_way_25, sX7_way_28, sX7_way_29, sX7_way_32, sX7_way_43, sX7_way_34, sX7_way_44, sX7_way_35, sX7_way_47, sX7_way_38, sX7_way_48, sX7_way_41, sX7_way_51 (st := []), sX7_way_42 (st := []), sX7_way_54r, sX7_way_54n, sX7_way_57, sX7_way_58, sX7_way_59, sX7_way_62, sX7_way_63, sX7_way_64, sX7_way_67, sX7_way_68, sX7_way_71, sX7_way_72, sX7_way_73 (st := []), inb, nz_3, nz_4, nz_6, nz_8, nz_10, nz_100, nz_300, pushr_s, pushr_n, rv_s, rv_n, kd_sI, kd_sR, kd_sJ, sz_sI, sz_sR, sz_sJ, aR_sI, aJ_sI, aI_sR, aI_sJ, not_false_eq_true, true_and, and_true, true_or, or_true, or_false, false_or, eq_self, ite_true, ite_false, if_true, if_false, L_0_0, L_0_1, L_0_2, L_0_3, L_0_4, L_0_5, L_0_6, L_0_7, L_1_0, L_1_1, L_1_2, L_1_3, L_1_4, L_1_5, L_1_6, L_1_7, L_2_0, L_2_1, L_2_2, L_2_3, L_2_4, L_2_5, L_2_6, L_2_7, L_3_0, L_3_1, L_3_2, L_3_3, L_3_4, L_3_5, L_3_6, L_3_7, L_4_0, L_4_1, L_4_2, L_4_3, L_4_4, L_4_5, L_4_6, L_4_7, L_5_0, L_5_1, L_5_2, L_5_3, L_5_4, L_5_5, L_5_6, L_5_7, L_6_0, L_6_1, L_6_2, L_6_3, L_6_4, L_6_5, L_6_6, L_6_7, L_7_0, L_7_1, L_7_2, L_7_3, L_7_4, L_7_5, L_7_6, L_7_7, I_0, I_1, I_2, I_3, I_4, I_5, I_6, I_7, l.k0, r.nw, n6, l.r4, l.k46, ra, kd_rS, aR_rS, hH1, l1.k0, l1.r0, l1.r4, l1.k46, e8, l2.s1.1, l2.k0, y6, nI_1, hH3, y7, ym, (l2.fr f3).k0]
  · refine Or.inr ⟨q, o1, ?_⟩
    obtain ⟨R, hR⟩ : ∃ R, wayL (X.tn, X.tx) 9 (clauseR (X.tn, X.tx) (rd0 H)) = R := ⟨_, rfl⟩
    rw [hR] at ra o2 o3
    have ab : allB (X.tn, X.tx) R = 0 := by
      unfold allB
      rcases o3 with e | ⟨e1, e2, e3⟩
      · rw [if_pos e]
      · rw [e1, if_neg (by decide), if_neg (by rw [o2]; exact e2)]
    rw [ab] at ra
    have f1 : Fr (fun o _ => o = 46 ∨ o = 48) H (sI (rS H R) 46 0 0) := (Fr.rS H R).trans (Fr.wI _ (Or.inl rfl))
    have ep : aI (sI (rS H R) 46 0 0) 46 1 = nI q := (gIn (by decide)).trans (congrArg nI o2)
    have l1 := l.fr f1
    refine ⟨sI (rS H R) 46 0 0, h.fr f1 (fun o i z => ⟨fun _ _ => by omega, by omega⟩), l1, ⟨(f1.I _ _ (by omega)).trans r.hi, fun z => (r.im z).fr f1 (fun o i z => ⟨fun _ _ => by omega, by omega⟩), (f1.I _ _ (by omega)).trans r.nw, gIs, fun i hi => absurd hi (Nat.not_lt_zero i), (f1.I _ _ (by omega)).trans r.rn, fun i hi h2 => (f1.I _ _ (by omega)).trans (r.rb i hi h2), fun j hj => (f1.I _ _ (by omega)).trans (r.ts j hj), fun j hj => (f1.I _ _ (by omega)).trans (r.tl j hj), fun j hj i hi => (f1.Jq _ _ (by omega)).trans (r.ti j hj i hi), f1.anq.trans r.an⟩, fun B m => m.fr f1 (fun o i z h1 h2 => by omega), fun L' Y s => s.fr f1 (fun o i z => Or.inr (by omega)), fun Q => ?_⟩
    simp only [sX7_way_0, sX7_way_1, sX7_way_4, sX7_way_6, sX7_way_9, sX7_way_12, sX7_way_11 (st := []), sX7_way_13, sX7_way_16 (st := []), sX7_way_19, sX7_way_20, sX7_way_21, sX7_way_24, sX7_way_25, sX7_way_28, sX7_way_29, sX7_way_32, sX7_way_43, sX7_way_34, sX7_way_44, sX7_way_35, sX7_way_47, sX7_way_38, sX7_way_48, sX7_way_41, sX7_way_51 (st := []), sX7_way_42 (st := []), sX7_way_54r, sX7_way_54n, sX7_way_57, sX7_way_58, sX7_way_59, sX7_way_62, sX7_way_63, sX7_way_64, sX7_way_67, sX7_way_68, sX7_way_71, sX7_way_72, sX7_way_73 (st := []), inb, nz_3, nz_4, nz_6, nz_8, nz_10, nz_100, nz_300, pushr_s, pushr_n, rv_s, rv_n, kd_sI, kd_sR, kd_sJ, sz_sI, sz_sR, sz_sJ, aR_sI, aJ_sI, aI_sR, aI_sJ, not_false_eq_true, true_and, and_true, true_or, or_true, or_false, false_or, eq_self, ite_true, ite_false, if_true, if_false, l.k0, r.nw, n6, l.r4, l.k46, ra, kd_rS, aR_rS, l1.k46, ep]
end WAY
