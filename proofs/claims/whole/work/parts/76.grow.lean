-- 76: a heap that only grows
def Ne (H : AH) (H' : AH) : Prop :=
  (110 ≤ aN H) ∧
  (∀ o, o < aN H → kd H' o = kd H o) ∧
  (∀ o, o < aN H → sz H' o = sz H o) ∧
  (∀ o i, o < aN H → aI H' o i = aI H o i) ∧
  (∀ o i, o < aN H → aR H' o i = aR H o i) ∧
  (∀ o i, o < aN H → aJ H' o i = aJ H o i)
theorem Ne.n {H : AH} {H' : AH} (h : Ne H H') : 110 ≤ aN H := h.1
theorem Ne.kq {H : AH} {H' : AH} (h : Ne H H') : ∀ o, o < aN H → kd H' o = kd H o := h.2.1
theorem Ne.zq {H : AH} {H' : AH} (h : Ne H H') : ∀ o, o < aN H → sz H' o = sz H o := h.2.2.1
theorem Ne.I {H : AH} {H' : AH} (h : Ne H H') : ∀ o i, o < aN H → aI H' o i = aI H o i := h.2.2.2.1
theorem Ne.R {H : AH} {H' : AH} (h : Ne H H') : ∀ o i, o < aN H → aR H' o i = aR H o i := h.2.2.2.2.1
theorem Ne.Jq {H : AH} {H' : AH} (h : Ne H H') : ∀ o i, o < aN H → aJ H' o i = aJ H o i := h.2.2.2.2.2
theorem aN_gr (H : AH) (k n : Nat) : aN (gr H k n) = aN H + 1 := by
  show (H.1 ++ [(k, n)]).length = H.1.length + 1
  rw [List.length_append]; rfl
theorem kd_l9 {H : AH} {o : Nat} (h : ¬ kd H o = 99) : o < aN H := Decidable.byContradiction fun z => h (by
  unfold kd
  rw [List.getD_eq_getElem?_getD, List.getElem?_eq_none (Nat.le_of_not_lt z)]
  rfl)
theorem kd_gr {H : AH} {k n o : Nat} : kd (gr H k n) o = if o = aN H then k else kd H o := by
  show ((H.1 ++ [(k, n)]).getD o (99, 0)).1 = if o = H.1.length then k else (H.1.getD o (99, 0)).1
  rw [List.getD_eq_getElem?_getD, List.getD_eq_getElem?_getD]
  by_cases q : o = H.1.length
  · rw [if_pos q, q, List.getElem?_append_right (Nat.le_refl _), Nat.sub_self]; rfl
  · rw [if_neg q]
    by_cases q2 : o < H.1.length
    · rw [List.getElem?_append_left q2]
    · rw [List.getElem?_append_right (by omega), List.getElem?_eq_none (l := H.1) (by omega), List.getElem?_eq_none (by show 1 ≤ o - H.1.length; omega)]
theorem sz_gr {H : AH} {k n o : Nat} : sz (gr H k n) o = if o = aN H then n else sz H o := by
  show ((H.1 ++ [(k, n)]).getD o (99, 0)).2 = if o = H.1.length then n else (H.1.getD o (99, 0)).2
  rw [List.getD_eq_getElem?_getD, List.getD_eq_getElem?_getD]
  by_cases q : o = H.1.length
  · rw [if_pos q, q, List.getElem?_append_right (Nat.le_refl _), Nat.sub_self]; rfl
  · rw [if_neg q]
    by_cases q2 : o < H.1.length
    · rw [List.getElem?_append_left q2]
    · rw [List.getElem?_append_right (by omega), List.getElem?_eq_none (l := H.1) (by omega), List.getElem?_eq_none (by show 1 ≤ o - H.1.length; omega)]
theorem aI_gr (H : AH) (k n o i : Nat) : aI (gr H k n) o i = if o = aN H then 0 else aI H o i := rfl
theorem aJ_gr (H : AH) (k n o i : Nat) : aJ (gr H k n) o i = if o = aN H then 0 else aJ H o i := rfl
theorem aR_gr (H : AH) (k n o i : Nat) : aR (gr H k n) o i = if o = aN H then none else aR H o i := rfl
theorem Ne.gr {H : AH} (h : 110 ≤ aN H) (k n : Nat) : Ne H (gr H k n) :=
  ⟨h, fun o ho => kd_gr.trans (if_neg (by omega)), fun o ho => sz_gr.trans (if_neg (by omega)), fun o i ho => (aI_gr H k n o i).trans (if_neg (by omega)), fun o i ho => (aR_gr H k n o i).trans (if_neg (by omega)), fun o i ho => (aJ_gr H k n o i).trans (if_neg (by omega))⟩
theorem Ne.trans {H H1 H2 : AH} (a : Ne H H1) (b : Ne H1 H2) (n : aN H ≤ aN H1) : Ne H H2 :=
  ⟨a.n, fun o ho => (b.kq o (by omega)).trans (a.kq o ho), fun o ho => (b.zq o (by omega)).trans (a.zq o ho), fun o i ho => (b.I o i (by omega)).trans (a.I o i ho), fun o i ho => (b.R o i (by omega)).trans (a.R o i ho), fun o i ho => (b.Jq o i (by omega)).trans (a.Jq o i ho)⟩
theorem Ne.wI {H H1 : AH} (a : Ne H H1) {k i : Nat} (v : Int32) (hk : aN H ≤ k) : Ne H (sI H1 k i v) :=
  ⟨a.n, a.kq, a.zq, fun o j ho => (gIn (by omega)).trans (a.I o j ho), a.R, a.Jq⟩
theorem Ne.wC {H H1 : AH} (a : Ne H H1) {s sp e dp n : Nat} (hk : aN H ≤ e) : Ne H (cI H1 s sp e dp n) :=
  ⟨a.n, a.kq, a.zq, fun o j ho => ((gcI H1 s sp e dp n o j).trans (if_neg (by omega))).trans (a.I o j ho), a.R, a.Jq⟩
theorem Ne.wR {H H1 : AH} (a : Ne H H1) {k i : Nat} (v : Option Nat) (hk : aN H ≤ k) : Ne H (sR H1 k i v) :=
  ⟨a.n, a.kq, a.zq, a.I, fun o j ho => ((gR H1 k i v o j).trans (if_neg (by omega))).trans (a.R o j ho), a.Jq⟩
theorem StL.ne {H H' : AH} {k : Nat} (h : StL H k) (e : Ne H H') (hk : k < 90) : StL H' k := by
  have n := e.n
  have k0 := e.kq k (by omega)
  have k1 := e.kq (k + 1) (by omega)
  have k2 := e.kq (k + 2) (by omega)
  have k3 := e.kq (k + 3) (by omega)
  have k4 := e.kq (k + 4) (by omega)
  have k5 := e.kq (k + 5) (by omega)
  have k6 := e.kq (k + 6) (by omega)
  have k7 := e.kq (k + 7) (by omega)
  have k8 := e.kq (k + 8) (by omega)
  have k9 := e.kq (k + 9) (by omega)
  have k10 := e.kq (k + 10) (by omega)
  have k11 := e.kq (k + 11) (by omega)
  have k12 := e.kq (k + 12) (by omega)
  have k13 := e.kq (k + 13) (by omega)
  have k14 := e.kq (k + 14) (by omega)
  have z0 := e.zq k (by omega)
  have z1 := e.zq (k + 1) (by omega)
  have z2 := e.zq (k + 2) (by omega)
  have z3 := e.zq (k + 3) (by omega)
  have z4 := e.zq (k + 4) (by omega)
  have z5 := e.zq (k + 5) (by omega)
  have z6 := e.zq (k + 6) (by omega)
  have z7 := e.zq (k + 7) (by omega)
  have z8 := e.zq (k + 8) (by omega)
  have z9 := e.zq (k + 9) (by omega)
  have z10 := e.zq (k + 10) (by omega)
  have z11 := e.zq (k + 11) (by omega)
  have z12 := e.zq (k + 12) (by omega)
  have z13 := e.zq (k + 13) (by omega)
  have z14 := e.zq (k + 14) (by omega)
  have r0 := e.R k 2 (by omega)
  have r1 := e.R k 3 (by omega)
  have r2 := e.R k 5 (by omega)
  have r3 := e.R k 7 (by omega)
  have r4 := e.R k 8 (by omega)
  have r5 := e.R k 10 (by omega)
  have r6 := e.R k 11 (by omega)
  have r7 := e.R k 12 (by omega)
  have r8 := e.R (k + 6) 1 (by omega)
  have r9 := e.R (k + 6) 2 (by omega)
  have r10 := e.R (k + 9) 1 (by omega)
  have r11 := e.R (k + 9) 2 (by omega)
  have r12 := e.R (k + 12) 1 (by omega)
  have r13 := e.R (k + 12) 2 (by omega)
  unfold StL
  simp only [k0, k1, k2, k3, k4, k5, k6, k7, k8, k9, k10, k11, k12, k13, k14, z1, z2, z3, z4, z5, z6, z7, z8, z9, z10, z11, z12, z13, z14, r0, r1, r2, r3, r4, r5, r6, r7, r8, r9, r10, r11, r12, r13]
  exact h
theorem MoL.ne {H H' : AH} (h : MoL H) (e : Ne H H') : MoL H' := by
  have n := e.n
  refine ⟨fun i hi => ?_, fun q hq => ?_⟩
  · rw [e.kq _ (by omega), e.zq _ (by omega)]; exact h.1 i hi
  · rw [e.R 67 q.1 (by omega)]; exact h.2 q hq
theorem CoL.ne {H H' : AH} (h : CoL H) (e : Ne H H') : CoL H' := by
  have n := e.n
  refine ⟨(e.kq _ (by omega)).trans h.k0, (e.R _ _ (by omega)).trans h.r0, (e.R _ _ (by omega)).trans h.r1, (e.R _ _ (by omega)).trans h.r2, (e.R _ _ (by omega)).trans h.r4, (e.R _ _ (by omega)).trans h.r6, (e.R _ _ (by omega)).trans h.r7, (e.R _ _ (by omega)).trans h.r8, h.s1.ne e (by omega), h.s16.ne e (by omega), h.s31.ne e (by omega), (e.kq _ (by omega)).trans h.k46, (e.kq _ (by omega)).trans h.k47, (e.kq _ (by omega)).trans h.k48, (e.zq _ (by omega)).trans h.z47, (e.zq _ (by omega)).trans h.z48, (e.R _ _ (by omega)).trans h.r46a, (e.R _ _ (by omega)).trans h.r46b, (e.kq _ (by omega)).trans h.k49, (e.kq _ (by omega)).trans h.k50, (e.kq _ (by omega)).trans h.k51, (e.zq _ (by omega)).trans h.z50, (e.zq _ (by omega)).trans h.z51, (e.R _ _ (by omega)).trans h.r49a, (e.R _ _ (by omega)).trans h.r49b, (e.kq _ (by omega)).trans h.k52, (e.kq _ (by omega)).trans h.k53, (e.zq _ (by omega)).trans h.z53, (e.R _ _ (by omega)).trans h.r52, (e.kq _ (by omega)).trans h.k54, (e.zq _ (by omega)).trans h.z54, fun j hj => ?_⟩
  obtain ⟨a, b, c, d, g⟩ := h.tp j hj
  exact ⟨(e.R _ _ (by omega)).trans a, (e.kq _ (by omega)).trans b, (e.R _ _ (by omega)).trans c, (e.kq _ (by omega)).trans d, (e.zq _ (by omega)).trans g⟩
theorem WayC.ne {H H' : AH} {w : Option Nat} {L : List Cla} (h : WayC H w L) (e : Ne H H') : WayC H' w L := by
  refine ⟨h.1, ?_⟩
  rcases h.2 with q | ⟨o, t, q0, q1, q2, q3, q4, q5, q6, q7, q8, q9⟩
  · exact Or.inl q
  · have ho : o < aN H := kd_l9 (by rw [q1]; decide)
    have ht : t < aN H := kd_l9 (by rw [q3]; decide)
    exact Or.inr ⟨o, t, q0, (e.kq o ho).trans q1, (e.R o 1 ho).trans q2, (e.kq t ht).trans q3, (e.zq t ht).trans q4, q5, fun j hj => (e.I t j ht).trans (q6 j hj), (e.I o 0 ho).trans q7, q8, q9⟩
theorem StA.ne {H H' : AH} {k : Nat} {A : AS} (h : StA H k A) (e : Ne H H') (hk : k < 90) : StA H' k A := by
  have n := e.n
  have g := fun i => e.I k i (by omega)
  refine ⟨h.lay.ne e hk, (g _).trans h.nD, (g _).trans h.nN, (g _).trans h.nO, (g _).trans h.nP, (g _).trans h.nB, fun i hi => (e.I _ _ (by omega)).trans (h.eK i hi), fun i hi => (e.I _ _ (by omega)).trans (h.eV i hi), fun i hi => (e.I _ _ (by omega)).trans (h.eR i hi), fun i hi => (e.I _ _ (by omega)).trans (h.eM i hi), fun i hi => (e.I _ _ (by omega)).trans (h.eW i hi), ?_, ⟨(e.I _ _ (by omega)).trans h.es.1, fun i hi => ⟨(e.I _ _ (by omega)).trans (h.es.2 i hi).1, (e.I _ _ (by omega)).trans (h.es.2 i hi).2⟩⟩, ⟨(e.I _ _ (by omega)).trans h.ep.1, fun i hi => ⟨(e.I _ _ (by omega)).trans (h.ep.2 i hi).1, (h.ep.2 i hi).2.imp_right fun z => (e.I _ _ (by omega)).trans z⟩⟩, ⟨(e.I _ _ (by omega)).trans h.eb.1, fun i hi => ⟨(e.I _ _ (by omega)).trans (h.eb.2 i hi).1, (e.I _ _ (by omega)).trans (h.eb.2 i hi).2⟩⟩⟩
  rw [e.R k 13 (by omega)]
  exact h.eL.ne e
theorem WayM.ne {H H' : AH} {b : Nat} {L : List Cla} (h : WayM H L b) (e : Ne H H') : WayM H' L b := by
  have n := e.n
  have g := fun o i (z : 67 ≤ o ∧ o ≤ 79) => e.I o i (by omega)
  refine ⟨h.1, ?_⟩
  rcases h.2 with ⟨e1, e2⟩ | ⟨s, s6, e1, e2, e3, e4, e5⟩
  · exact Or.inl ⟨(g 67 11 (by omega)).trans e1, e2⟩
  · refine Or.inr ⟨s, s6, (g 67 11 (by omega)).trans e1, (g 74 s (by omega)).trans e2, e3, e4, fun j hj => ?_⟩
    obtain ⟨a1, a2, a3⟩ := e5 j hj
    refine ⟨(g 75 _ (by omega)).trans a1, (g 76 _ (by omega)).trans a2, fun q => ?_⟩
    obtain ⟨c, c1, c2, c3, c4⟩ := a3 q
    exact ⟨c, (g 77 _ (by omega)).trans c1, (g 78 _ (by omega)).trans c2, c3, fun j hj => (g 79 _ (by omega)).trans (c4 j hj)⟩
theorem MoA.ne {H H' : AH} {A : AS} (h : MoA H A) (e : Ne H H') : MoA H' A := by
  have n := e.n
  have g := fun o i (z : 67 ≤ o ∧ o ≤ 109) => e.I o i (by omega)
  obtain ⟨b, hb⟩ := h.eL
  exact ⟨h.lay.ne e, (g _ _ (by omega)).trans h.nD, (g _ _ (by omega)).trans h.nN, (g _ _ (by omega)).trans h.nO, (g _ _ (by omega)).trans h.nP, (g _ _ (by omega)).trans h.nB, fun i hi => (g _ _ (by omega)).trans (h.eK i hi), fun i hi => (g _ _ (by omega)).trans (h.eV i hi), fun i hi => (g _ _ (by omega)).trans (h.eR i hi), fun i hi => (g _ _ (by omega)).trans (h.eM i hi), fun i hi => (g _ _ (by omega)).trans (h.eW i hi), ⟨b, hb.ne e⟩, (g _ _ (by omega)).trans h.ns, fun i hi => ⟨(g _ _ (by omega)).trans (h.es i hi).1, (g _ _ (by omega)).trans (h.es i hi).2⟩, (g _ _ (by omega)).trans h.np, fun i hi => ⟨(g _ _ (by omega)).trans (h.ep i hi).1, (h.ep i hi).2.imp_right fun z => (g _ _ (by omega)).trans z⟩, (g _ _ (by omega)).trans h.nb, fun i hi => ⟨(g _ _ (by omega)).trans (h.eb i hi).1, (g _ _ (by omega)).trans (h.eb i hi).2⟩⟩
theorem SlM.ne {H H' : AH} {f : Nat} {L : List Cla} (h : SlM H f L) (e : Ne H H') : SlM H' f L := by
  have n := e.n
  have g : ∀ o i, (74 ≤ o ∧ o ≤ 79) → aI H' o i = aI H o i := fun o i z => e.I o i (by omega)
  refine ⟨h.1, h.2.1, (g _ _ (by omega)).trans h.2.2.1, fun j hj => ?_⟩
  obtain ⟨a1, a2, a3⟩ := h.2.2.2 j hj
  refine ⟨(g _ _ (by omega)).trans a1, (g _ _ (by omega)).trans a2, fun q => ?_⟩
  obtain ⟨b, b1, b2, b3, b4, b5⟩ := a3 q
  exact ⟨b, b1, b2, (g _ _ (by omega)).trans b3, (g _ _ (by omega)).trans b4, fun j hj => (g _ _ (by omega)).trans (b5 j hj)⟩
theorem ImA.ne {H H' : AH} {A : AS} (h : ImA H A) (e : Ne H H') : ImA H' A := by
  have n := e.n
  have g : ∀ o i, (67 ≤ o ∧ o ≤ 109) → aI H' o i = aI H o i := fun o i z => e.I o i (by omega)
  exact ⟨(g _ _ (by omega)).trans h.nN, (g _ _ (by omega)).trans h.nO, (g _ _ (by omega)).trans h.nP, (g _ _ (by omega)).trans h.nB, (g _ _ (by omega)).trans h.nD, (g _ _ (by omega)).trans h.ns, (g _ _ (by omega)).trans h.np, (g _ _ (by omega)).trans h.nb, fun i hi => (g _ _ (by omega)).trans (h.eK i hi), fun i hi => (g _ _ (by omega)).trans (h.eV i hi), fun i hi => (g _ _ (by omega)).trans (h.eR i hi), fun i hi => (g _ _ (by omega)).trans (h.eM i hi), fun i hi => (g _ _ (by omega)).trans (h.eW i hi), fun i hi => ⟨(g _ _ (by omega)).trans (h.es i hi).1, (g _ _ (by omega)).trans (h.es i hi).2⟩, fun i hi => ⟨(g _ _ (by omega)).trans (h.ep i hi).1, (h.ep i hi).2.imp_right (fun e => (g _ _ (by omega)).trans e)⟩, fun i hi => ⟨(g _ _ (by omega)).trans (h.eb i hi).1, (g _ _ (by omega)).trans (h.eb i hi).2⟩⟩
theorem RfR.ne {H H' : AH} {L : List Cla} {X : XS} (h : RfR H L X) (e : Ne H H') : RfR H' L X := by
  have n := e.n
  have g : ∀ o i, (67 ≤ o ∧ o ≤ 109) → aI H' o i = aI H o i := fun o i z => e.I o i (by omega)
  obtain ⟨Z, z1, z2, z3⟩ := h.sl
  obtain ⟨k0, o0, k1, k2⟩ := h.ko
  exact ⟨(g _ _ (by omega)).trans h.hi, fun z => (h.im z).ne e, (g _ _ (by omega)).trans h.nw, ⟨Z, fun q hq => (z1 q hq).ne e, by rw [g 67 11 (by omega)]; exact z2, fun z => by rw [g 67 46 (by omega)]; exact z3 z⟩, (g _ _ (by omega)).trans h.tn, fun i hi => (g _ _ (by omega)).trans (h.tx i hi), ⟨k0, o0, (g _ _ (by omega)).trans k1, (g _ _ (by omega)).trans k2⟩, (g _ _ (by omega)).trans h.rn, fun i hi h2 => (g _ _ (by omega)).trans (h.rb i hi h2), fun j hj => (g _ _ (by omega)).trans (h.ts j hj), fun j hj => (g _ _ (by omega)).trans (h.tl j hj), fun j hj i hi => (e.Jq _ _ (by omega)).trans (h.ti j hj i hi), fun i hi => (g _ _ (by omega)).trans (h.le i hi)⟩
