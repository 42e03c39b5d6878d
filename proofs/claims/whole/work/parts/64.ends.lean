-- 64: call: ends
def plS (C : AS) (x y : Int32) : AS := if x = 0 then dayA C else if x = 1 then wO C (lmp C.O (ix y) true) else if x = 2 then wO C (lmp C.O (ix y) false) else C.u5 C.D C.O (clr C.B (ix y)) C.M C.W
def plL (A : AS) : Nat → Nat → AS → AS
  | 0, _, C => C
  | c + 1, i, C => plL A c (i + 1) (plS C (A.p1 i) (A.p2 i))
theorem U5.pls {A C : AS} (h : U5 A C) (x y : Int32) : U5 A (plS C x y) := by
  unfold plS
  split
  · exact h.day
  · split
    · exact h.u _ _ _ _ _
    · split
      · exact h.u _ _ _ _ _
      · exact h.u _ _ _ _ _
theorem plS_D (C : AS) (x y : Int32) : (plS C x y).D ≤ C.D + 1 := by
  unfold plS
  split
  · exact Nat.le_of_eq (dayA_eq C).2.2.1
  · split
    · exact Nat.le_succ _
    · split
      · exact Nat.le_succ _
      · exact Nat.le_succ _
theorem bBk {A : AS} (w : Wf A) (p : Nat) : Wf (A.u5 A.D A.O (clr A.B p) A.M A.W) := w.u5 w.hD w.hO (clr_lt w.hB) w.hM w.hW w.hW0
theorem Wf.pls {C : AS} (w : Wf C) {x y : Int32} (h : isPl C.N C.P x y) (hD : C.D + 1 < 20000) : Wf (plS C x y) := by
  have hN := w.hN
  unfold plS
  rcases h with rfl | ⟨rfl | rfl, l, hl, rfl⟩ | ⟨rfl, p, hp, rfl⟩
  · rw [if_pos rfl]; exact w.day hD
  · rw [if_neg (by decide +kernel), if_pos rfl, ix_nI (by omega)]
    exact bO2 w (lmp_lt w.hO hl)
  · rw [if_neg (by decide +kernel), if_neg (by decide +kernel), if_pos rfl, ix_nI (by omega)]
    exact bO2 w (lmp_lt w.hO hl)
  · rw [if_neg (by decide +kernel), if_neg (by decide +kernel), if_neg (by decide +kernel)]
    exact bBk w _
section ENDS
variable {S : SC} {A : AS}
theorem k10 : ((1 : Int32) = 0) = False := eq_false (by decide +kernel)
theorem k20 : ((2 : Int32) = 0) = False := eq_false (by decide +kernel)
theorem k21 : ((2 : Int32) = 1) = False := eq_false (by decide +kernel)
theorem k30 : ((3 : Int32) = 0) = False := eq_false (by decide +kernel)
theorem k31 : ((3 : Int32) = 1) = False := eq_false (by decide +kernel)
theorem k32 : ((3 : Int32) = 2) = False := eq_false (by decide +kernel)
theorem k03 : ((0 : Int32) = 3) = False := eq_false (by decide +kernel)
theorem k13 : ((1 : Int32) = 3) = False := eq_false (by decide +kernel)
theorem k23 : ((2 : Int32) = 3) = False := eq_false (by decide +kernel)
theorem lp_follow {d : Nat} : ∀ (c i : Nat) (C : AS) (H : AH), StA H 31 C → Wf C → U5 A C → i + c = A.pn → A.pn ≤ 10 → C.D + c < 20000 → ∃ H', StA H' 31 (plL A c i C) ∧ Wf (plL A c i C) ∧ Fr (jGo 31) H H' ∧ ∀ Q, Wp S (d + 6) 38 2 [.ref 31, .int (nI i)] [] H Q = Q none H'
  | 0, i, C, H, h, w, u, hc, h10, hD => by
    obtain ⟨D', O', B', M', W', hC⟩ := u
    have hp : aI H 40 0 = nI A.pn := h.ep.1.trans (by rw [hC]; rfl)
    have hl := h.lay
    have e : nI A.pn ≤ nI i := nI_le (by omega) (by omega)
    refine ⟨H, h, w, Fr.refl _ _, fun Q => ?_⟩
    rw [sX3_followPlan_2]
    simp only [sX3_followPlan_0, sX3_followPlan_1, sX3_followPlan_3, sX3_followPlan_4, sX3_followPlan_7, sX3_followPlan_10, sX3_followPlan_13, sX3_followPlan_109 (st := []), sX3_followPlan_14, sX3_followPlan_17, sX3_followPlan_20, sX3_followPlan_21, sX3_followPlan_22, sX3_followPlan_90, sX3_followPlan_48, sX3_followPlan_56, sX3_followPlan_73, sX3_followPlan_91, sX3_followPlan_49, sX3_followPlan_57, sX3_followPlan_74, sX3_followPlan_92, sX3_followPlan_50 (st := []), sX3_followPlan_58, sX3_followPlan_75, sX3_followPlan_95, sX3_followPlan_53, sX3_followPlan_61, sX3_followPlan_78, sX3_followPlan_98, sX3_followPlan_103, sX3_followPlan_64, sX3_followPlan_81, sX3_followPlan_99, sX3_followPlan_106, sX3_followPlan_65, sX3_followPlan_82, sX3_followPlan_100 (st := []), sX3_followPlan_66, sX3_followPlan_83, sX3_followPlan_67 (st := []), sX3_followPlan_84 (st := []), sX3_followPlan_70, sX3_followPlan_87, inb, nz_3, nz_4, nz_6, nz_8, nz_10, nz_100, nz_300, pushr_s, pushr_n, rv_s, rv_n, kd_sI, kd_sR, kd_sJ, sz_sI, sz_sR, sz_sJ, aR_sI, aJ_sI, aI_sR, aI_sJ, not_false_eq_true, true_and, and_true, true_or, or_true, or_false, false_or, eq_self, ite_true, ite_false, if_true, if_false, hl.1, hl.2.1, hl.2.2.1, hl.2.2.2.1, hl.2.2.2.2.1, hl.2.2.2.2.2.1, hl.2.2.2.2.2.2.1, hl.2.2.2.2.2.2.2.1, hl.2.2.2.2.2.2.2.2.1, hl.2.2.2.2.2.2.2.2.2.1, hl.2.2.2.2.2.2.2.2.2.2.1, hl.2.2.2.2.2.2.2.2.2.2.2.1, hl.2.2.2.2.2.2.2.2.2.2.2.2.1, hl.2.2.2.2.2.2.2.2.2.2.2.2.2.1, hl.2.2.2.2.2.2.2.2.2.2.2.2.2.2.1, hl.2.2.2.2.2.2.2.2.2.2.2.2.2.2.2.1, hl.2.2.2.2.2.2.2.2.2.2.2.2.2.2.2.2.1, hl.2.2.2.2.2.2.2.2.2.2.2.2.2.2.2.2.2.1, hl.2.2.2.2.2.2.2.2.2.2.2.2.2.2.2.2.2.2.1, hl.2.2.2.2.2.2.2.2.2.2.2.2.2.2.2.2.2.2.2.1, hl.2.2.2.2.2.2.2.2.2.2.2.2.2.2.2.2.2.2.2.2.1, hl.2.2.2.2.2.2.2.2.2.2.2.2.2.2.2.2.2.2.2.2.2.1, hl.2.2.2.2.2.2.2.2.2.2.2.2.2.2.2.2.2.2.2.2.2.2.1, hl.2.2.2.2.2.2.2.2.2.2.2.2.2.2.2.2.2.2.2.2.2.2.2.1, hl.2.2.2.2.2.2.2.2.2.2.2.2.2.2.2.2.2.2.2.2.2.2.2.2.1, hl.2.2.2.2.2.2.2.2.2.2.2.2.2.2.2.2.2.2.2.2.2.2.2.2.2.1, hl.2.2.2.2.2.2.2.2.2.2.2.2.2.2.2.2.2.2.2.2.2.2.2.2.2.2.1, hl.2.2.2.2.2.2.2.2.2.2.2.2.2.2.2.2.2.2.2.2.2.2.2.2.2.2.2.1, hl.2.2.2.2.2.2.2.2.2.2.2.2.2.2.2.2.2.2.2.2.2.2.2.2.2.2.2.2.1, hl.2.2.2.2.2.2.2.2.2.2.2.2.2.2.2.2.2.2.2.2.2.2.2.2.2.2.2.2.2.1, hl.2.2.2.2.2.2.2.2.2.2.2.2.2.2.2.2.2.2.2.2.2.2.2.2.2.2.2.2.2.2.1, hl.2.2.2.2.2.2.2.2.2.2.2.2.2.2.2.2.2.2.2.2.2.2.2.2.2.2.2.2.2.2.2.1, hl.2.2.2.2.2.2.2.2.2.2.2.2.2.2.2.2.2.2.2.2.2.2.2.2.2.2.2.2.2.2.2.2.1, hl.2.2.2.2.2.2.2.2.2.2.2.2.2.2.2.2.2.2.2.2.2.2.2.2.2.2.2.2.2.2.2.2.2.1, hl.2.2.2.2.2.2.2.2.2.2.2.2.2.2.2.2.2.2.2.2.2.2.2.2.2.2.2.2.2.2.2.2.2.2.1, hl.2.2.2.2.2.2.2.2.2.2.2.2.2.2.2.2.2.2.2.2.2.2.2.2.2.2.2.2.2.2.2.2.2.2.2.1, hl.2.2.2.2.2.2.2.2.2.2.2.2.2.2.2.2.2.2.2.2.2.2.2.2.2.2.2.2.2.2.2.2.2.2.2.2.1, hl.2.2.2.2.2.2.2.2.2.2.2.2.2.2.2.2.2.2.2.2.2.2.2.2.2.2.2.2.2.2.2.2.2.2.2.2.2.1, hl.2.2.2.2.2.2.2.2.2.2.2.2.2.2.2.2.2.2.2.2.2.2.2.2.2.2.2.2.2.2.2.2.2.2.2.2.2.2.1, hl.2.2.2.2.2.2.2.2.2.2.2.2.2.2.2.2.2.2.2.2.2.2.2.2.2.2.2.2.2.2.2.2.2.2.2.2.2.2.2, hp, e]
  | c + 1, i, C, H, h, w, u, hc, h10, hD => by
    have hN := w.hN
    have hP := w.hP
    have u0 := u
    obtain ⟨D', O', B', M', W', hC⟩ := u
    have ep : C.pn = A.pn := by rw [hC]; rfl
    have e1 : C.p1 = A.p1 := by rw [hC]; rfl
    have e2 : C.p2 = A.p2 := by rw [hC]; rfl
    have hp : aI H 40 0 = nI A.pn := h.ep.1.trans (by rw [ep])
    have hl := h.lay
    have e : ¬ nI A.pn ≤ nI i := nI_ge (by omega) (by omega)
    have ic : (nI i).toNatClampNeg = i := nI_clamp (by omega)
    have ib : ¬ (nI i < 0 ∨ 10 ≤ i) := inN (by omega) (by omega)
    obtain ⟨q1, q2⟩ := h.ep.2 i (by omega)
    have q1 : aI H 41 i = A.p1 i := q1.trans (by rw [e1])
    rw [e1, e2] at q2
    have hpl := w.hp1 i (by omega)
    rw [e1, e2] at hpl
    have w2 : Wf (plS C (A.p1 i) (A.p2 i)) := w.pls hpl (by omega)
    have hD2 := plS_D C (A.p1 i) (A.p2 i)
    have key : ∀ H1, StA H1 31 (plS C (A.p1 i) (A.p2 i)) → Fr (jGo 31) H H1 → (∀ Q, Wp S (d + 6) 38 2 [.ref 31, .int (nI i)] [] H Q = Wp S (d + 6) 38 2 [.ref 31, .int (nI (i + 1))] [] H1 Q) → ∃ H', StA H' 31 (plL A (c + 1) i C) ∧ Wf (plL A (c + 1) i C) ∧ Fr (jGo 31) H H' ∧ ∀ Q, Wp S (d + 6) 38 2 [.ref 31, .int (nI i)] [] H Q = Q none H' := fun H1 s1 f1 hw => by
      obtain ⟨H2, a1, a2, a3, a4⟩ := lp_follow (d := d) c (i + 1) _ H1 s1 w2 (u0.pls _ _) (by omega) h10 (by omega)
      exact ⟨H2, a1, a2, f1.trans a3, fun Q => (hw Q).trans (a4 Q)⟩
    rcases hpl with x0 | ⟨x1 | x2, l, hl1, y1⟩ | ⟨x3, p, hp1, y3⟩
    · obtain ⟨H1, f1, s1, r1⟩ := w_goDays (S := S) (d := d) (n := 1) h w (by decide) (by omega)
      have s2 : StA H1 31 (plS C (A.p1 i) (A.p2 i)) := by unfold plS; rw [if_pos x0]; exact s1
      have r1 : ∀ Q, Wp S (d + 5) 36 0 [.ref 31, .int 1, hole, hole] [] H Q = Q none H1 := r1
      refine key H1 s2 f1 (fun Q => ?_)
      rw [sX3_followPlan_2]
      simp only [sX3_followPlan_0, sX3_followPlan_1, sX3_followPlan_3, sX3_followPlan_4, sX3_followPlan_7, sX3_followPlan_10, sX3_followPlan_13, sX3_followPlan_109 (st := []), sX3_followPlan_14, sX3_followPlan_17, sX3_followPlan_20, sX3_followPlan_21, sX3_followPlan_22, sX3_followPlan_90, sX3_followPlan_48, sX3_followPlan_56, sX3_followPlan_73, sX3_followPlan_91, sX3_followPlan_49, sX3_followPlan_57, sX3_followPlan_74, sX3_followPlan_92, sX3_followPlan_50 (st := []), sX3_followPlan_58, sX3_followPlan_75, sX3_followPlan_95, sX3_followPlan_53, sX3_followPlan_61, sX3_followPlan_78, sX3_followPlan_98, sX3_followPlan_103, sX3_followPlan_64, sX3_followPlan_81, sX3_followPlan_99, sX3_followPlan_106, sX3_followPlan_65, sX3_followPlan_82, sX3_followPlan_100 (st := []), sX3_followPlan_66, sX3_followPlan_83, sX3_followPlan_67 (st := []), sX3_followPlan_84 (st := []), sX3_followPlan_70, sX3_followPlan_87, inb, nz_3, nz_4, nz_6, nz_8, nz_10, nz_100, nz_300, pushr_s, pushr_n, rv_s, rv_n, kd_sI, kd_sR, kd_sJ, sz_sI, sz_sR, sz_sJ, aR_sI, aJ_sI, aI_sR, aI_sJ, not_false_eq_true, true_and, and_true, true_or, or_true, or_false, false_or, eq_self, ite_true, ite_false, if_true, if_false, hl.1, hl.2.1, hl.2.2.1, hl.2.2.2.1, hl.2.2.2.2.1, hl.2.2.2.2.2.1, hl.2.2.2.2.2.2.1, hl.2.2.2.2.2.2.2.1, hl.2.2.2.2.2.2.2.2.1, hl.2.2.2.2.2.2.2.2.2.1, hl.2.2.2.2.2.2.2.2.2.2.1, hl.2.2.2.2.2.2.2.2.2.2.2.1, hl.2.2.2.2.2.2.2.2.2.2.2.2.1, hl.2.2.2.2.2.2.2.2.2.2.2.2.2.1, hl.2.2.2.2.2.2.2.2.2.2.2.2.2.2.1, hl.2.2.2.2.2.2.2.2.2.2.2.2.2.2.2.1, hl.2.2.2.2.2.2.2.2.2.2.2.2.2.2.2.2.1, hl.2.2.2.2.2.2.2.2.2.2.2.2.2.2.2.2.2.1, hl.2.2.2.2.2.2.2.2.2.2.2.2.2.2.2.2.2.2.1, hl.2.2.2.2.2.2.2.2.2.2.2.2.2.2.2.2.2.2.2.1, hl.2.2.2.2.2.2.2.2.2.2.2.2.2.2.2.2.2.2.2.2.1, hl.2.2.2.2.2.2.2.2.2.2.2.2.2.2.2.2.2.2.2.2.2.1, hl.2.2.2.2.2.2.2.2.2.2.2.2.2.2.2.2.2.2.2.2.2.2.1, hl.2.2.2.2.2.2.2.2.2.2.2.2.2.2.2.2.2.2.2.2.2.2.2.1, hl.2.2.2.2.2.2.2.2.2.2.2.2.2.2.2.2.2.2.2.2.2.2.2.2.1, hl.2.2.2.2.2.2.2.2.2.2.2.2.2.2.2.2.2.2.2.2.2.2.2.2.2.1, hl.2.2.2.2.2.2.2.2.2.2.2.2.2.2.2.2.2.2.2.2.2.2.2.2.2.2.1, hl.2.2.2.2.2.2.2.2.2.2.2.2.2.2.2.2.2.2.2.2.2.2.2.2.2.2.2.1, hl.2.2.2.2.2.2.2.2.2.2.2.2.2.2.2.2.2.2.2.2.2.2.2.2.2.2.2.2.1, hl.2.2.2.2.2.2.2.2.2.2.2.2.2.2.2.2.2.2.2.2.2.2.2.2.2.2.2.2.2.1, hl.2.2.2.2.2.2.2.2.2.2.2.2.2.2.2.2.2.2.2.2.2.2.2.2.2.2.2.2.2.2.1, hl.2.2.2.2.2.2.2.2.2.2.2.2.2.2.2.2.2.2.2.2.2.2.2.2.2.2.2.2.2.2.2.1, hl.2.2.2.2.2.2.2.2.2.2.2.2.2.2.2.2.2.2.2.2.2.2.2.2.2.2.2.2.2.2.2.2.1, hl.2.2.2.2.2.2.2.2.2.2.2.2.2.2.2.2.2.2.2.2.2.2.2.2.2.2.2.2.2.2.2.2.2.1, hl.2.2.2.2.2.2.2.2.2.2.2.2.2.2.2.2.2.2.2.2.2.2.2.2.2.2.2.2.2.2.2.2.2.2.1, hl.2.2.2.2.2.2.2.2.2.2.2.2.2.2.2.2.2.2.2.2.2.2.2.2.2.2.2.2.2.2.2.2.2.2.2.1, hl.2.2.2.2.2.2.2.2.2.2.2.2.2.2.2.2.2.2.2.2.2.2.2.2.2.2.2.2.2.2.2.2.2.2.2.2.1, hl.2.2.2.2.2.2.2.2.2.2.2.2.2.2.2.2.2.2.2.2.2.2.2.2.2.2.2.2.2.2.2.2.2.2.2.2.2.1, hl.2.2.2.2.2.2.2.2.2.2.2.2.2.2.2.2.2.2.2.2.2.2.2.2.2.2.2.2.2.2.2.2.2.2.2.2.2.2.1, hl.2.2.2.2.2.2.2.2.2.2.2.2.2.2.2.2.2.2.2.2.2.2.2.2.2.2.2.2.2.2.2.2.2.2.2.2.2.2.2, hp, e, ic, ib, q1, x0, r1, nI_1]
    · have y2 : aI H 42 i = nI l := (q2.resolve_left (by rw [x1]; decide +kernel)).trans y1
      obtain ⟨f1, s1⟩ := h.out (by decide) (lmp C.O l true)
      have r1 : ∀ d Q, Wp S d 22 0 [.ref 31, .int (nI l), .int 1] [] H Q = Q none (sI H 31 4 (nI (lmp C.O l true))) := fun d Q => w_putOut (b := true) h w (by omega)
      have s2 : StA (sI H 31 4 (nI (lmp C.O l true))) 31 (plS C (A.p1 i) (A.p2 i)) := by unfold plS; rw [x1, y1, if_neg (by decide +kernel), if_pos rfl, ix_nI (by omega)]; exact s1
      refine key _ s2 f1 (fun Q => ?_)
      rw [sX3_followPlan_2]
      simp only [sX3_followPlan_0, sX3_followPlan_1, sX3_followPlan_3, sX3_followPlan_4, sX3_followPlan_7, sX3_followPlan_10, sX3_followPlan_13, sX3_followPlan_109 (st := []), sX3_followPlan_14, sX3_followPlan_17, sX3_followPlan_20, sX3_followPlan_21, sX3_followPlan_22, sX3_followPlan_90, sX3_followPlan_48, sX3_followPlan_56, sX3_followPlan_73, sX3_followPlan_91, sX3_followPlan_49, sX3_followPlan_57, sX3_followPlan_74, sX3_followPlan_92, sX3_followPlan_50 (st := []), sX3_followPlan_58, sX3_followPlan_75, sX3_followPlan_95, sX3_followPlan_53, sX3_followPlan_61, sX3_followPlan_78, sX3_followPlan_98, sX3_followPlan_103, sX3_followPlan_64, sX3_followPlan_81, sX3_followPlan_99, sX3_followPlan_106, sX3_followPlan_65, sX3_followPlan_82, sX3_followPlan_100 (st := []), sX3_followPlan_66, sX3_followPlan_83, sX3_followPlan_67 (st := []), sX3_followPlan_84 (st := []), sX3_followPlan_70, sX3_followPlan_87, inb, nz_3, nz_4, nz_6, nz_8, nz_10, nz_100, nz_300, pushr_s, pushr_n, rv_s, rv_n, kd_sI, kd_sR, kd_sJ, sz_sI, sz_sR, sz_sJ, aR_sI, aJ_sI, aI_sR, aI_sJ, not_false_eq_true, true_and, and_true, true_or, or_true, or_false, false_or, eq_self, ite_true, ite_false, if_true, if_false, hl.1, hl.2.1, hl.2.2.1, hl.2.2.2.1, hl.2.2.2.2.1, hl.2.2.2.2.2.1, hl.2.2.2.2.2.2.1, hl.2.2.2.2.2.2.2.1, hl.2.2.2.2.2.2.2.2.1, hl.2.2.2.2.2.2.2.2.2.1, hl.2.2.2.2.2.2.2.2.2.2.1, hl.2.2.2.2.2.2.2.2.2.2.2.1, hl.2.2.2.2.2.2.2.2.2.2.2.2.1, hl.2.2.2.2.2.2.2.2.2.2.2.2.2.1, hl.2.2.2.2.2.2.2.2.2.2.2.2.2.2.1, hl.2.2.2.2.2.2.2.2.2.2.2.2.2.2.2.1, hl.2.2.2.2.2.2.2.2.2.2.2.2.2.2.2.2.1, hl.2.2.2.2.2.2.2.2.2.2.2.2.2.2.2.2.2.1, hl.2.2.2.2.2.2.2.2.2.2.2.2.2.2.2.2.2.2.1, hl.2.2.2.2.2.2.2.2.2.2.2.2.2.2.2.2.2.2.2.1, hl.2.2.2.2.2.2.2.2.2.2.2.2.2.2.2.2.2.2.2.2.1, hl.2.2.2.2.2.2.2.2.2.2.2.2.2.2.2.2.2.2.2.2.2.1, hl.2.2.2.2.2.2.2.2.2.2.2.2.2.2.2.2.2.2.2.2.2.2.1, hl.2.2.2.2.2.2.2.2.2.2.2.2.2.2.2.2.2.2.2.2.2.2.2.1, hl.2.2.2.2.2.2.2.2.2.2.2.2.2.2.2.2.2.2.2.2.2.2.2.2.1, hl.2.2.2.2.2.2.2.2.2.2.2.2.2.2.2.2.2.2.2.2.2.2.2.2.2.1, hl.2.2.2.2.2.2.2.2.2.2.2.2.2.2.2.2.2.2.2.2.2.2.2.2.2.2.1, hl.2.2.2.2.2.2.2.2.2.2.2.2.2.2.2.2.2.2.2.2.2.2.2.2.2.2.2.1, hl.2.2.2.2.2.2.2.2.2.2.2.2.2.2.2.2.2.2.2.2.2.2.2.2.2.2.2.2.1, hl.2.2.2.2.2.2.2.2.2.2.2.2.2.2.2.2.2.2.2.2.2.2.2.2.2.2.2.2.2.1, hl.2.2.2.2.2.2.2.2.2.2.2.2.2.2.2.2.2.2.2.2.2.2.2.2.2.2.2.2.2.2.1, hl.2.2.2.2.2.2.2.2.2.2.2.2.2.2.2.2.2.2.2.2.2.2.2.2.2.2.2.2.2.2.2.1, hl.2.2.2.2.2.2.2.2.2.2.2.2.2.2.2.2.2.2.2.2.2.2.2.2.2.2.2.2.2.2.2.2.1, hl.2.2.2.2.2.2.2.2.2.2.2.2.2.2.2.2.2.2.2.2.2.2.2.2.2.2.2.2.2.2.2.2.2.1, hl.2.2.2.2.2.2.2.2.2.2.2.2.2.2.2.2.2.2.2.2.2.2.2.2.2.2.2.2.2.2.2.2.2.2.1, hl.2.2.2.2.2.2.2.2.2.2.2.2.2.2.2.2.2.2.2.2.2.2.2.2.2.2.2.2.2.2.2.2.2.2.2.1, hl.2.2.2.2.2.2.2.2.2.2.2.2.2.2.2.2.2.2.2.2.2.2.2.2.2.2.2.2.2.2.2.2.2.2.2.2.1, hl.2.2.2.2.2.2.2.2.2.2.2.2.2.2.2.2.2.2.2.2.2.2.2.2.2.2.2.2.2.2.2.2.2.2.2.2.2.1, hl.2.2.2.2.2.2.2.2.2.2.2.2.2.2.2.2.2.2.2.2.2.2.2.2.2.2.2.2.2.2.2.2.2.2.2.2.2.2.1, hl.2.2.2.2.2.2.2.2.2.2.2.2.2.2.2.2.2.2.2.2.2.2.2.2.2.2.2.2.2.2.2.2.2.2.2.2.2.2.2, hp, e, ic, ib, q1, x1, k10, y2, r1, nI_1]
    · have y2 : aI H 42 i = nI l := (q2.resolve_left (by rw [x2]; decide +kernel)).trans y1
      obtain ⟨f1, s1⟩ := h.out (by decide) (lmp C.O l false)
      have r1 : ∀ d Q, Wp S d 22 0 [.ref 31, .int (nI l), .int 0] [] H Q = Q none (sI H 31 4 (nI (lmp C.O l false))) := fun d Q => w_putOut (b := false) h w (by omega)
      have s2 : StA (sI H 31 4 (nI (lmp C.O l false))) 31 (plS C (A.p1 i) (A.p2 i)) := by unfold plS; rw [x2, y1, if_neg (by decide +kernel), if_neg (by decide +kernel), if_pos rfl, ix_nI (by omega)]; exact s1
      refine key _ s2 f1 (fun Q => ?_)
      rw [sX3_followPlan_2]
      simp only [sX3_followPlan_0, sX3_followPlan_1, sX3_followPlan_3, sX3_followPlan_4, sX3_followPlan_7, sX3_followPlan_10, sX3_followPlan_13, sX3_followPlan_109 (st := []), sX3_followPlan_14, sX3_followPlan_17, sX3_followPlan_20, sX3_followPlan_21, sX3_followPlan_22, sX3_followPlan_90, sX3_followPlan_48, sX3_followPlan_56, sX3_followPlan_73, sX3_followPlan_91, sX3_followPlan_49, sX3_followPlan_57, sX3_followPlan_74, sX3_followPlan_92, sX3_followPlan_50 (st := []), sX3_followPlan_58, sX3_followPlan_75, sX3_followPlan_95, sX3_followPlan_53, sX3_followPlan_61, sX3_followPlan_78, sX3_followPlan_98, sX3_followPlan_103, sX3_followPlan_64, sX3_followPlan_81, sX3_followPlan_99, sX3_followPlan_106, sX3_followPlan_65, sX3_followPlan_82, sX3_followPlan_100 (st := []), sX3_followPlan_66, sX3_followPlan_83, sX3_followPlan_67 (st := []), sX3_followPlan_84 (st := []), sX3_followPlan_70, sX3_followPlan_87, inb, nz_3, nz_4, nz_6, nz_8, nz_10, nz_100, nz_300, pushr_s, pushr_n, rv_s, rv_n, kd_sI, kd_sR, kd_sJ, sz_sI, sz_sR, sz_sJ, aR_sI, aJ_sI, aI_sR, aI_sJ, not_false_eq_true, true_and, and_true, true_or, or_true, or_false, false_or, eq_self, ite_true, ite_false, if_true, if_false, hl.1, hl.2.1, hl.2.2.1, hl.2.2.2.1, hl.2.2.2.2.1, hl.2.2.2.2.2.1, hl.2.2.2.2.2.2.1, hl.2.2.2.2.2.2.2.1, hl.2.2.2.2.2.2.2.2.1, hl.2.2.2.2.2.2.2.2.2.1, hl.2.2.2.2.2.2.2.2.2.2.1, hl.2.2.2.2.2.2.2.2.2.2.2.1, hl.2.2.2.2.2.2.2.2.2.2.2.2.1, hl.2.2.2.2.2.2.2.2.2.2.2.2.2.1, hl.2.2.2.2.2.2.2.2.2.2.2.2.2.2.1, hl.2.2.2.2.2.2.2.2.2.2.2.2.2.2.2.1, hl.2.2.2.2.2.2.2.2.2.2.2.2.2.2.2.2.1, hl.2.2.2.2.2.2.2.2.2.2.2.2.2.2.2.2.2.1, hl.2.2.2.2.2.2.2.2.2.2.2.2.2.2.2.2.2.2.1, hl.2.2.2.2.2.2.2.2.2.2.2.2.2.2.2.2.2.2.2.1, hl.2.2.2.2.2.2.2.2.2.2.2.2.2.2.2.2.2.2.2.2.1, hl.2.2.2.2.2.2.2.2.2.2.2.2.2.2.2.2.2.2.2.2.2.1, hl.2.2.2.2.2.2.2.2.2.2.2.2.2.2.2.2.2.2.2.2.2.2.1, hl.2.2.2.2.2.2.2.2.2.2.2.2.2.2.2.2.2.2.2.2.2.2.2.1, hl.2.2.2.2.2.2.2.2.2.2.2.2.2.2.2.2.2.2.2.2.2.2.2.2.1, hl.2.2.2.2.2.2.2.2.2.2.2.2.2.2.2.2.2.2.2.2.2.2.2.2.2.1, hl.2.2.2.2.2.2.2.2.2.2.2.2.2.2.2.2.2.2.2.2.2.2.2.2.2.2.1, hl.2.2.2.2.2.2.2.2.2.2.2.2.2.2.2.2.2.2.2.2.2.2.2.2.2.2.2.1, hl.2.2.2.2.2.2.2.2.2.2.2.2.2.2.2.2.2.2.2.2.2.2.2.2.2.2.2.2.1, hl.2.2.2.2.2.2.2.2.2.2.2.2.2.2.2.2.2.2.2.2.2.2.2.2.2.2.2.2.2.1, hl.2.2.2.2.2.2.2.2.2.2.2.2.2.2.2.2.2.2.2.2.2.2.2.2.2.2.2.2.2.2.1, hl.2.2.2.2.2.2.2.2.2.2.2.2.2.2.2.2.2.2.2.2.2.2.2.2.2.2.2.2.2.2.2.1, hl.2.2.2.2.2.2.2.2.2.2.2.2.2.2.2.2.2.2.2.2.2.2.2.2.2.2.2.2.2.2.2.2.1, hl.2.2.2.2.2.2.2.2.2.2.2.2.2.2.2.2.2.2.2.2.2.2.2.2.2.2.2.2.2.2.2.2.2.1, hl.2.2.2.2.2.2.2.2.2.2.2.2.2.2.2.2.2.2.2.2.2.2.2.2.2.2.2.2.2.2.2.2.2.2.1, hl.2.2.2.2.2.2.2.2.2.2.2.2.2.2.2.2.2.2.2.2.2.2.2.2.2.2.2.2.2.2.2.2.2.2.2.1, hl.2.2.2.2.2.2.2.2.2.2.2.2.2.2.2.2.2.2.2.2.2.2.2.2.2.2.2.2.2.2.2.2.2.2.2.2.1, hl.2.2.2.2.2.2.2.2.2.2.2.2.2.2.2.2.2.2.2.2.2.2.2.2.2.2.2.2.2.2.2.2.2.2.2.2.2.1, hl.2.2.2.2.2.2.2.2.2.2.2.2.2.2.2.2.2.2.2.2.2.2.2.2.2.2.2.2.2.2.2.2.2.2.2.2.2.2.1, hl.2.2.2.2.2.2.2.2.2.2.2.2.2.2.2.2.2.2.2.2.2.2.2.2.2.2.2.2.2.2.2.2.2.2.2.2.2.2.2, hp, e, ic, ib, q1, x2, k20, k21, y2, r1, nI_1]
    · have y2 : aI H 42 i = nI p := (q2.resolve_left (by rw [x3]; decide +kernel)).trans y3
      have b := w.b32
      have r1 : ∀ d Q, Wp S d 24 0 [.ref 31, .int (nI p)] [] H Q = Q none (sI H 31 9 (nI (clr C.B p))) := fun d Q => by
        simp only [sX3_turn_0, sX3_turn_1, sX3_turn_2, sX3_turn_5, sX3_turn_6, sX3_turn_7, sX3_turn_8, sX3_turn_9, sX3_turn_10, sX3_turn_11, sX3_turn_14 (st := []), inb, nz_3, nz_4, nz_6, nz_8, nz_10, nz_100, nz_300, pushr_s, pushr_n, rv_s, rv_n, kd_sI, kd_sR, kd_sJ, sz_sI, sz_sR, sz_sJ, aR_sI, aJ_sI, aI_sR, aI_sJ, not_false_eq_true, true_and, and_true, true_or, or_true, or_false, false_or, eq_self, ite_true, ite_false, if_true, if_false, h.lay.1, h.nB, shl_p (show p < 6 by omega), clr_ok (show C.B < 64 by omega) (show p < 6 by omega)]
      have f1 : Fr (jGo 31) H (sI H 31 9 (nI (clr C.B p))) := Fr.wI _ (Or.inl ⟨rfl, Or.inr (Or.inr rfl)⟩)
      have s2 : StA (sI H 31 9 (nI (clr C.B p))) 31 (plS C (A.p1 i) (A.p2 i)) := by
        unfold plS; rw [x3, y3, if_neg (by decide +kernel), if_neg (by decide +kernel), if_neg (by decide +kernel), ix_nI (by omega)]
        exact h.jgo (by decide) f1 ((gIn (by omega)).trans h.nD) ((gIn (by omega)).trans h.nO) gIs (fun i hi => (gIn (by omega)).trans (h.eM i hi)) (fun i hi => (gIn (by omega)).trans (h.eW i hi))
      refine key _ s2 f1 (fun Q => ?_)
      rw [sX3_followPlan_2]
      simp only [sX3_followPlan_0, sX3_followPlan_1, sX3_followPlan_3, sX3_followPlan_4, sX3_followPlan_7, sX3_followPlan_10, sX3_followPlan_13, sX3_followPlan_109 (st := []), sX3_followPlan_14, sX3_followPlan_17, sX3_followPlan_20, sX3_followPlan_21, sX3_followPlan_22, sX3_followPlan_90, sX3_followPlan_48, sX3_followPlan_56, sX3_followPlan_73, sX3_followPlan_91, sX3_followPlan_49, sX3_followPlan_57, sX3_followPlan_74, sX3_followPlan_92, sX3_followPlan_50 (st := []), sX3_followPlan_58, sX3_followPlan_75, sX3_followPlan_95, sX3_followPlan_53, sX3_followPlan_61, sX3_followPlan_78, sX3_followPlan_98, sX3_followPlan_103, sX3_followPlan_64, sX3_followPlan_81, sX3_followPlan_99, sX3_followPlan_106, sX3_followPlan_65, sX3_followPlan_82, sX3_followPlan_100 (st := []), sX3_followPlan_66, sX3_followPlan_83, sX3_followPlan_67 (st := []), sX3_followPlan_84 (st := []), sX3_followPlan_70, sX3_followPlan_87, inb, nz_3, nz_4, nz_6, nz_8, nz_10, nz_100, nz_300, pushr_s, pushr_n, rv_s, rv_n, kd_sI, kd_sR, kd_sJ, sz_sI, sz_sR, sz_sJ, aR_sI, aJ_sI, aI_sR, aI_sJ, not_false_eq_true, true_and, and_true, true_or, or_true, or_false, false_or, eq_self, ite_true, ite_false, if_true, if_false, hl.1, hl.2.1, hl.2.2.1, hl.2.2.2.1, hl.2.2.2.2.1, hl.2.2.2.2.2.1, hl.2.2.2.2.2.2.1, hl.2.2.2.2.2.2.2.1, hl.2.2.2.2.2.2.2.2.1, hl.2.2.2.2.2.2.2.2.2.1, hl.2.2.2.2.2.2.2.2.2.2.1, hl.2.2.2.2.2.2.2.2.2.2.2.1, hl.2.2.2.2.2.2.2.2.2.2.2.2.1, hl.2.2.2.2.2.2.2.2.2.2.2.2.2.1, hl.2.2.2.2.2.2.2.2.2.2.2.2.2.2.1, hl.2.2.2.2.2.2.2.2.2.2.2.2.2.2.2.1, hl.2.2.2.2.2.2.2.2.2.2.2.2.2.2.2.2.1, hl.2.2.2.2.2.2.2.2.2.2.2.2.2.2.2.2.2.1, hl.2.2.2.2.2.2.2.2.2.2.2.2.2.2.2.2.2.2.1, hl.2.2.2.2.2.2.2.2.2.2.2.2.2.2.2.2.2.2.2.1, hl.2.2.2.2.2.2.2.2.2.2.2.2.2.2.2.2.2.2.2.2.1, hl.2.2.2.2.2.2.2.2.2.2.2.2.2.2.2.2.2.2.2.2.2.1, hl.2.2.2.2.2.2.2.2.2.2.2.2.2.2.2.2.2.2.2.2.2.2.1, hl.2.2.2.2.2.2.2.2.2.2.2.2.2.2.2.2.2.2.2.2.2.2.2.1, hl.2.2.2.2.2.2.2.2.2.2.2.2.2.2.2.2.2.2.2.2.2.2.2.2.1, hl.2.2.2.2.2.2.2.2.2.2.2.2.2.2.2.2.2.2.2.2.2.2.2.2.2.1, hl.2.2.2.2.2.2.2.2.2.2.2.2.2.2.2.2.2.2.2.2.2.2.2.2.2.2.1, hl.2.2.2.2.2.2.2.2.2.2.2.2.2.2.2.2.2.2.2.2.2.2.2.2.2.2.2.1, hl.2.2.2.2.2.2.2.2.2.2.2.2.2.2.2.2.2.2.2.2.2.2.2.2.2.2.2.2.1, hl.2.2.2.2.2.2.2.2.2.2.2.2.2.2.2.2.2.2.2.2.2.2.2.2.2.2.2.2.2.1, hl.2.2.2.2.2.2.2.2.2.2.2.2.2.2.2.2.2.2.2.2.2.2.2.2.2.2.2.2.2.2.1, hl.2.2.2.2.2.2.2.2.2.2.2.2.2.2.2.2.2.2.2.2.2.2.2.2.2.2.2.2.2.2.2.1, hl.2.2.2.2.2.2.2.2.2.2.2.2.2.2.2.2.2.2.2.2.2.2.2.2.2.2.2.2.2.2.2.2.1, hl.2.2.2.2.2.2.2.2.2.2.2.2.2.2.2.2.2.2.2.2.2.2.2.2.2.2.2.2.2.2.2.2.2.1, hl.2.2.2.2.2.2.2.2.2.2.2.2.2.2.2.2.2.2.2.2.2.2.2.2.2.2.2.2.2.2.2.2.2.2.1, hl.2.2.2.2.2.2.2.2.2.2.2.2.2.2.2.2.2.2.2.2.2.2.2.2.2.2.2.2.2.2.2.2.2.2.2.1, hl.2.2.2.2.2.2.2.2.2.2.2.2.2.2.2.2.2.2.2.2.2.2.2.2.2.2.2.2.2.2.2.2.2.2.2.2.1, hl.2.2.2.2.2.2.2.2.2.2.2.2.2.2.2.2.2.2.2.2.2.2.2.2.2.2.2.2.2.2.2.2.2.2.2.2.2.1, hl.2.2.2.2.2.2.2.2.2.2.2.2.2.2.2.2.2.2.2.2.2.2.2.2.2.2.2.2.2.2.2.2.2.2.2.2.2.2.1, hl.2.2.2.2.2.2.2.2.2.2.2.2.2.2.2.2.2.2.2.2.2.2.2.2.2.2.2.2.2.2.2.2.2.2.2.2.2.2.2, hp, e, ic, ib, q1, x3, nz_3, k31, k32, y2, r1, nI_1]
theorem lp_ends {d : Nat} {x : Int32} : ∀ (c i : Nat) (C : AS) (H : AH), MoA H C → Wf C → Kp H A → U5 A C → i + c = A.pn → A.pn ≤ 10 → C.D + c < 20000 → ∃ H', MoA H' (plL A c i C) ∧ Wf (plL A c i C) ∧ Kp H' A ∧ U5 A (plL A c i C) ∧ Fr jM H H' ∧ ∀ Q, Wp S (d + 8) 197 18 [.ref 67, .int x, .int (nI i)] [] H Q = Wp S (d + 8) 197 48 [.ref 67, .int x, .int (nI A.pn)] [] H' Q
  | 0, i, C, H, g, w, k, u, hc, h10, hD => by
    have u0 := u
    obtain ⟨D', O', B', M', W', hC⟩ := u
    have hi : i = A.pn := hc
    have hp : aI H 67 39 = nI A.pn := g.np.trans (by rw [hC]; rfl)
    have e : nI A.pn ≤ nI A.pn := nI_le (Nat.le_refl _) (by omega)
    refine ⟨H, g, w, k, u0, Fr.refl _ _, fun Q => ?_⟩
    rw [sX8_ends_18, hi]
    simp only [sX8_ends_0, sX8_ends_1, sX8_ends_2, sX8_ends_3, sX8_ends_4 (st := []), sX8_ends_7, sX8_ends_10, sX8_ends_12, sX8_ends_11 (st := []), sX8_ends_13 (st := []), sX8_ends_16, sX8_ends_17, sX8_ends_19, sX8_ends_20, sX8_ends_23, sX8_ends_26, sX8_ends_27, sX8_ends_49, sX8_ends_28, sX8_ends_52, sX8_ends_59, sX8_ends_31, sX8_ends_53 (st := []), sX8_ends_60 (st := []), sX8_ends_32, sX8_ends_56, sX8_ends_63, sX8_ends_33, sX8_ends_64, sX8_ends_34, sX8_ends_65 (st := []), sX8_ends_37, sX8_ends_68, sX8_ends_38, sX8_ends_69 (st := []), sX8_ends_39 (st := []), sX8_ends_42, sX8_ends_45, inb, nz_3, nz_4, nz_6, nz_8, nz_10, nz_100, nz_300, pushr_s, pushr_n, rv_s, rv_n, kd_sI, kd_sR, kd_sJ, sz_sI, sz_sR, sz_sJ, aR_sI, aJ_sI, aI_sR, aI_sJ, not_false_eq_true, true_and, and_true, true_or, or_true, or_false, false_or, eq_self, ite_true, ite_false, if_true, if_false, mk_67 g.lay, hp, e]
  | c + 1, i, C, H, g, w, k, u, hc, h10, hD => by
    have hN := w.hN
    have hP := w.hP
    have u0 := u
    obtain ⟨D', O', B', M', W', hC⟩ := u
    have ep : C.pn = A.pn := by rw [hC]; rfl
    have e1 : C.p1 = A.p1 := by rw [hC]; rfl
    have e2 : C.p2 = A.p2 := by rw [hC]; rfl
    have hp : aI H 67 39 = nI A.pn := g.np.trans (by rw [ep])
    have e : ¬ nI A.pn ≤ nI i := nI_ge (by omega) (by omega)
    have ic : (nI i).toNatClampNeg = i := nI_clamp (by omega)
    have ib : ¬ (nI i < 0 ∨ 10 ≤ i) := inN (by omega) (by omega)
    obtain ⟨q1, q2⟩ := g.ep i (by omega)
    rw [e1] at q1 q2
    rw [e2] at q2
    have hpl := w.hp1 i (by omega)
    rw [e1, e2] at hpl
    have w2 : Wf (plS C (A.p1 i) (A.p2 i)) := w.pls hpl (by omega)
    have hD2 := plS_D C (A.p1 i) (A.p2 i)
    have key : ∀ H1, MoA H1 (plS C (A.p1 i) (A.p2 i)) → Fr jGoM H H1 → (∀ Q, Wp S (d + 7) 196 0 [.ref 67, .int (A.p1 i), .int (aI H 91 i)] [] H Q = Q none H1) → ∃ H', MoA H' (plL A (c + 1) i C) ∧ Wf (plL A (c + 1) i C) ∧ Kp H' A ∧ U5 A (plL A (c + 1) i C) ∧ Fr jM H H' ∧ ∀ Q, Wp S (d + 8) 197 18 [.ref 67, .int x, .int (nI i)] [] H Q = Wp S (d + 8) 197 48 [.ref 67, .int x, .int (nI A.pn)] [] H' Q := fun H1 s1 f1 hw => by
      obtain ⟨H2, a1, a2, a3, a4, a5, a6⟩ := lp_ends (d := d) (x := x) c (i + 1) _ H1 s1 w2 (k.fr f1) (u0.pls _ _) (by omega) h10 (by omega)
      refine ⟨H2, a1, a2, a3, a4, (f1.mono (fun o i z => jM_of z)).trans a5, fun Q => ?_⟩
      rw [sX8_ends_18, ← a6 Q]
      simp only [sX8_ends_0, sX8_ends_1, sX8_ends_2, sX8_ends_3, sX8_ends_4 (st := []), sX8_ends_7, sX8_ends_10, sX8_ends_12, sX8_ends_11 (st := []), sX8_ends_13 (st := []), sX8_ends_16, sX8_ends_17, sX8_ends_19, sX8_ends_20, sX8_ends_23, sX8_ends_26, sX8_ends_27, sX8_ends_49, sX8_ends_28, sX8_ends_52, sX8_ends_59, sX8_ends_31, sX8_ends_53 (st := []), sX8_ends_60 (st := []), sX8_ends_32, sX8_ends_56, sX8_ends_63, sX8_ends_33, sX8_ends_64, sX8_ends_34, sX8_ends_65 (st := []), sX8_ends_37, sX8_ends_68, sX8_ends_38, sX8_ends_69 (st := []), sX8_ends_39 (st := []), sX8_ends_42, sX8_ends_45, inb, nz_3, nz_4, nz_6, nz_8, nz_10, nz_100, nz_300, pushr_s, pushr_n, rv_s, rv_n, kd_sI, kd_sR, kd_sJ, sz_sI, sz_sR, sz_sJ, aR_sI, aJ_sI, aI_sR, aI_sJ, not_false_eq_true, true_and, and_true, true_or, or_true, or_false, false_or, eq_self, ite_true, ite_false, if_true, if_false, mk_67 g.lay, mr_41 g.lay, mk_90 g.lay, mz_90 g.lay, mr_42 g.lay, mk_91 g.lay, mz_91 g.lay, hp, e, ic, ib, q1, hw, nI_1]
    have s0 : inS 0 1 2 = 0 := by decide +kernel
    have s1 : inS 1 1 2 = 1 := by decide +kernel
    have s2 : inS 2 1 2 = 1 := by decide +kernel
    have s3 : inS 3 1 2 = 0 := by decide +kernel
    rcases hpl with x0 | ⟨x1 | x2, l, hl1, y1⟩ | ⟨x3, p, hp1, y3⟩
    · obtain ⟨H1, f1, g1, r1⟩ := m_goDay (S := S) (d := d) g w (by omega)
      have g2 : MoA H1 (plS C (A.p1 i) (A.p2 i)) := by unfold plS; rw [if_pos x0]; exact g1
      have e12 : ∀ d H Q, Wp S d 123 0 [.ref 67, .int 0, .int 1, .int 2] [] H Q = Q (some (.int (inS 0 1 2))) H := fun d H Q => m_in
      rw [s0] at e12
      refine key H1 g2 f1 (fun Q => ?_)
      rw [x0]
      simp only [sX8_goPlan_0, sX8_goPlan_1, sX8_goPlan_4, sX8_goPlan_8, sX8_goPlan_5 (st := []), sX8_goPlan_9, sX8_goPlan_10, sX8_goPlan_11, sX8_goPlan_12 (st := []), sX8_goPlan_15, sX8_goPlan_18, sX8_goPlan_33, sX8_goPlan_19, sX8_goPlan_34, sX8_goPlan_20, sX8_goPlan_35, sX8_goPlan_21, sX8_goPlan_38, sX8_goPlan_44 (st := []), sX8_goPlan_22, sX8_goPlan_39, sX8_goPlan_25, sX8_goPlan_29, sX8_goPlan_40, sX8_goPlan_26, sX8_goPlan_30 (st := []), sX8_goPlan_41 (st := []), inb, nz_3, nz_4, nz_6, nz_8, nz_10, nz_100, nz_300, pushr_s, pushr_n, rv_s, rv_n, kd_sI, kd_sR, kd_sJ, sz_sI, sz_sR, sz_sJ, aR_sI, aJ_sI, aI_sR, aI_sJ, not_false_eq_true, true_and, and_true, true_or, or_true, or_false, false_or, eq_self, ite_true, ite_false, if_true, if_false, mk_67 g.lay, mk_67 g1.lay, r1, e12, k03]
    · have y2 : aI H 91 i = nI l := (q2.resolve_left (by rw [x1]; decide +kernel)).trans y1
      obtain ⟨f1, g1⟩ := g.out (lmp C.O l true)
      have r1 : ∀ d Q, Wp S d 135 0 [.ref 67, .int (nI l), .int 1] [] H Q = Q none (sI H 67 1 (nI (lmp C.O l true))) := fun d Q => m_douses (b := true) g w (by omega)
      have g2 : MoA (sI H 67 1 (nI (lmp C.O l true))) (plS C (A.p1 i) (A.p2 i)) := by unfold plS; rw [x1, y1, if_neg (by decide +kernel), if_pos rfl, ix_nI (by omega)]; exact g1
      have e12 : ∀ d H Q, Wp S d 123 0 [.ref 67, .int 1, .int 1, .int 2] [] H Q = Q (some (.int (inS 1 1 2))) H := fun d H Q => m_in
      rw [s1] at e12
      refine key _ g2 f1 (fun Q => ?_)
      rw [x1, y2]
      simp only [sX8_goPlan_0, sX8_goPlan_1, sX8_goPlan_4, sX8_goPlan_8, sX8_goPlan_5 (st := []), sX8_goPlan_9, sX8_goPlan_10, sX8_goPlan_11, sX8_goPlan_12 (st := []), sX8_goPlan_15, sX8_goPlan_18, sX8_goPlan_33, sX8_goPlan_19, sX8_goPlan_34, sX8_goPlan_20, sX8_goPlan_35, sX8_goPlan_21, sX8_goPlan_38, sX8_goPlan_44 (st := []), sX8_goPlan_22, sX8_goPlan_39, sX8_goPlan_25, sX8_goPlan_29, sX8_goPlan_40, sX8_goPlan_26, sX8_goPlan_30 (st := []), sX8_goPlan_41 (st := []), inb, nz_3, nz_4, nz_6, nz_8, nz_10, nz_100, nz_300, pushr_s, pushr_n, rv_s, rv_n, kd_sI, kd_sR, kd_sJ, sz_sI, sz_sR, sz_sJ, aR_sI, aJ_sI, aI_sR, aI_sJ, not_false_eq_true, true_and, and_true, true_or, or_true, or_false, false_or, eq_self, ite_true, ite_false, if_true, if_false, mk_67 g.lay, mk_67 g1.lay, k10, r1, e12, nz_1, k13]
    · have y2 : aI H 91 i = nI l := (q2.resolve_left (by rw [x2]; decide +kernel)).trans y1
      obtain ⟨f1, g1⟩ := g.out (lmp C.O l false)
      have r1 : ∀ d Q, Wp S d 135 0 [.ref 67, .int (nI l), .int 0] [] H Q = Q none (sI H 67 1 (nI (lmp C.O l false))) := fun d Q => m_douses (b := false) g w (by omega)
      have g2 : MoA (sI H 67 1 (nI (lmp C.O l false))) (plS C (A.p1 i) (A.p2 i)) := by unfold plS; rw [x2, y1, if_neg (by decide +kernel), if_neg (by decide +kernel), if_pos rfl, ix_nI (by omega)]; exact g1
      have e12 : ∀ d H Q, Wp S d 123 0 [.ref 67, .int 2, .int 1, .int 2] [] H Q = Q (some (.int (inS 2 1 2))) H := fun d H Q => m_in
      rw [s2] at e12
      refine key _ g2 f1 (fun Q => ?_)
      rw [x2, y2]
      simp only [sX8_goPlan_0, sX8_goPlan_1, sX8_goPlan_4, sX8_goPlan_8, sX8_goPlan_5 (st := []), sX8_goPlan_9, sX8_goPlan_10, sX8_goPlan_11, sX8_goPlan_12 (st := []), sX8_goPlan_15, sX8_goPlan_18, sX8_goPlan_33, sX8_goPlan_19, sX8_goPlan_34, sX8_goPlan_20, sX8_goPlan_35, sX8_goPlan_21, sX8_goPlan_38, sX8_goPlan_44 (st := []), sX8_goPlan_22, sX8_goPlan_39, sX8_goPlan_25, sX8_goPlan_29, sX8_goPlan_40, sX8_goPlan_26, sX8_goPlan_30 (st := []), sX8_goPlan_41 (st := []), inb, nz_3, nz_4, nz_6, nz_8, nz_10, nz_100, nz_300, pushr_s, pushr_n, rv_s, rv_n, kd_sI, kd_sR, kd_sJ, sz_sI, sz_sR, sz_sJ, aR_sI, aJ_sI, aI_sR, aI_sJ, not_false_eq_true, true_and, and_true, true_or, or_true, or_false, false_or, eq_self, ite_true, ite_false, if_true, if_false, mk_67 g.lay, mk_67 g1.lay, k20, k21, r1, e12, nz_1, k23]
    · have y2 : aI H 91 i = nI p := (q2.resolve_left (by rw [x3]; decide +kernel)).trans y3
      have f1 : Fr jGoM H (sI H 67 3 (nI (clr C.B p))) := Fr.wI _ (Or.inr (Or.inl ⟨rfl, Or.inr (Or.inl rfl)⟩))
      have r1 : ∀ d Q, Wp S d 131 0 [.ref 67, .int (nI p), .int 0] [] H Q = Q none (sI H 67 3 (nI (clr C.B p))) := fun d Q => m_back0 g w (by omega)
      have g2 : MoA (sI H 67 3 (nI (clr C.B p))) (plS C (A.p1 i) (A.p2 i)) := by
        unfold plS; rw [x3, y3, if_neg (by decide +kernel), if_neg (by decide +kernel), if_neg (by decide +kernel), ix_nI (by omega)]
        exact g.jgo f1 ((gIn (by omega)).trans g.nD) ((gIn (by omega)).trans g.nO) gIs (fun i hi => (gIn (by omega)).trans (g.eM i hi)) (fun i hi => (gIn (by omega)).trans (g.eW i hi))
      have e12 : ∀ d H Q, Wp S d 123 0 [.ref 67, .int 3, .int 1, .int 2] [] H Q = Q (some (.int (inS 3 1 2))) H := fun d H Q => m_in
      rw [s3] at e12
      refine key _ g2 f1 (fun Q => ?_)
      rw [x3, y2]
      simp only [sX8_goPlan_0, sX8_goPlan_1, sX8_goPlan_4, sX8_goPlan_8, sX8_goPlan_5 (st := []), sX8_goPlan_9, sX8_goPlan_10, sX8_goPlan_11, sX8_goPlan_12 (st := []), sX8_goPlan_15, sX8_goPlan_18, sX8_goPlan_33, sX8_goPlan_19, sX8_goPlan_34, sX8_goPlan_20, sX8_goPlan_35, sX8_goPlan_21, sX8_goPlan_38, sX8_goPlan_44 (st := []), sX8_goPlan_22, sX8_goPlan_39, sX8_goPlan_25, sX8_goPlan_29, sX8_goPlan_40, sX8_goPlan_26, sX8_goPlan_30 (st := []), sX8_goPlan_41 (st := []), inb, nz_3, nz_4, nz_6, nz_8, nz_10, nz_100, nz_300, pushr_s, pushr_n, rv_s, rv_n, kd_sI, kd_sR, kd_sJ, sz_sI, sz_sR, sz_sJ, aR_sI, aJ_sI, aI_sR, aI_sJ, not_false_eq_true, true_and, and_true, true_or, or_true, or_false, false_or, eq_self, ite_true, ite_false, if_true, if_false, mk_67 g.lay, nz_3, r1, e12]
theorem k_ends (w : Wf A) (hD : A.D ≤ 9999) (a : Int32) : Now S A 96 197 [.ref 0, .int a] [.ref 67, .int a, hole] := by
  have hp := w.hp
  rcases rg_c a 2 (by decide) with e | ⟨e, y, hy, rfl⟩
  · refine now_same w (.int (-1)) (fun H h X d Q => ?_) (fun H g d Q => ?_)
    · simp only [sX7_ends_0, sX7_ends_1 (st := []), sX7_ends_4, sX7_ends_7, sX7_ends_9, sX7_ends_8 (st := []), sX7_ends_10, sX7_ends_13, sX7_ends_14, sX7_ends_17 (st := []), sX7_ends_20, sX7_ends_21, sX7_ends_24 (st := []), sX7_ends_27, sX7_ends_28, sX7_ends_31, sX7_ends_41, sX7_ends_32, sX7_ends_42, sX7_ends_35 (st := []), sX7_ends_45 (st := []), sX7_ends_38, sX7_ends_48 (st := []), inb, nz_3, nz_4, nz_6, nz_8, nz_10, nz_100, nz_300, pushr_s, pushr_n, rv_s, rv_n, kd_sI, kd_sR, kd_sJ, sz_sI, sz_sR, sz_sJ, aR_sI, aJ_sI, aI_sR, aI_sJ, not_false_eq_true, true_and, and_true, true_or, or_true, or_false, false_or, eq_self, ite_true, ite_false, if_true, if_false, X.k0, w_isFS, e]
    · simp only [sX8_ends_0, sX8_ends_1, sX8_ends_2, sX8_ends_3, sX8_ends_4 (st := []), sX8_ends_7, sX8_ends_10, sX8_ends_12, sX8_ends_11 (st := []), sX8_ends_13 (st := []), sX8_ends_16, sX8_ends_17, sX8_ends_19, sX8_ends_20, sX8_ends_23, sX8_ends_26, sX8_ends_48, sX8_ends_27, sX8_ends_49, sX8_ends_28, sX8_ends_52, sX8_ends_59, sX8_ends_31, sX8_ends_53 (st := []), sX8_ends_60 (st := []), sX8_ends_32, sX8_ends_56, sX8_ends_63, sX8_ends_33, sX8_ends_64, sX8_ends_34, sX8_ends_65 (st := []), sX8_ends_37, sX8_ends_68, sX8_ends_38, sX8_ends_69 (st := []), sX8_ends_39 (st := []), sX8_ends_42, sX8_ends_45, inb, nz_3, nz_4, nz_6, nz_8, nz_10, nz_100, nz_300, pushr_s, pushr_n, rv_s, rv_n, kd_sI, kd_sR, kd_sJ, sz_sI, sz_sR, sz_sJ, aR_sI, aJ_sI, aI_sR, aI_sJ, not_false_eq_true, true_and, and_true, true_or, or_true, or_false, false_or, eq_self, ite_true, ite_false, if_true, if_false, mk_67 g.lay, n_in1, e]
  refine ⟨.int (if nI y = 0 then inA (plL A A.pn 0 A) else bkA (plL A A.pn 0 A)), A, w, rfl, rfl, fun H h X d => ?_, fun H g d => ?_⟩
  · obtain ⟨H1, a1, a2, a3⟩ := w_copy (S := S) (d := d + 38) (b := 31) h w X.s31 (Or.inl (by decide)) (by decide) (by decide)
    obtain ⟨H2, b1, bw, b2, b3⟩ := lp_follow (S := S) (A := A) (d := d + 33) A.pn 0 A H1 a1 w (U5.refl A) (by omega) hp (by omega)
    have h1 : StA H1 1 A := h.fr a2 (fun o i z => ⟨fun _ _ => by unfold jSt at z; omega, by unfold jSt at z; omega⟩)
    have h2 : StA H2 1 A := h1.fr b2 (fun o i z => ⟨fun _ _ => by unfold jGo at z; omega, by unfold jGo at z; omega⟩)
    have X1 := X.fr a2
    have X2 := X1.fr b2
    rw [nI_0] at b3
    have hf : ∀ Q, Wp S (d + 39) 38 0 [.ref 31, hole] [] H1 Q = Q none H2 := fun Q => by
      simp only [sX3_followPlan_0, sX3_followPlan_1, sX3_followPlan_3, sX3_followPlan_4, sX3_followPlan_7, sX3_followPlan_10, sX3_followPlan_13, sX3_followPlan_109 (st := []), sX3_followPlan_14, sX3_followPlan_17, sX3_followPlan_20, sX3_followPlan_21, sX3_followPlan_22, sX3_followPlan_90, sX3_followPlan_48, sX3_followPlan_56, sX3_followPlan_73, sX3_followPlan_91, sX3_followPlan_49, sX3_followPlan_57, sX3_followPlan_74, sX3_followPlan_92, sX3_followPlan_50 (st := []), sX3_followPlan_58, sX3_followPlan_75, sX3_followPlan_95, sX3_followPlan_53, sX3_followPlan_61, sX3_followPlan_78, sX3_followPlan_98, sX3_followPlan_103, sX3_followPlan_64, sX3_followPlan_81, sX3_followPlan_99, sX3_followPlan_106, sX3_followPlan_65, sX3_followPlan_82, sX3_followPlan_100 (st := []), sX3_followPlan_66, sX3_followPlan_83, sX3_followPlan_67 (st := []), sX3_followPlan_84 (st := []), sX3_followPlan_70, sX3_followPlan_87, inb, nz_3, nz_4, nz_6, nz_8, nz_10, nz_100, nz_300, pushr_s, pushr_n, rv_s, rv_n, kd_sI, kd_sR, kd_sJ, sz_sI, sz_sR, sz_sJ, aR_sI, aJ_sI, aI_sR, aI_sJ, not_false_eq_true, true_and, and_true, true_or, or_true, or_false, false_or, eq_self, ite_true, ite_false, if_true, if_false, b3]
    have ei := fun Q => u_in (S := S) (d := d + 39) (Q := Q) b1 bw
    have eb := fun Q => u_back (S := S) (d := d + 38) (Q := Q) b1
    refine ⟨H2, h2, (a2.mono (fun o i z => jSt_c z)).trans (b2.mono (fun o i z => jGo_c z)), fun Q => ?_⟩
    by_cases q : nI y = 0
    · rw [if_pos q]
      simp only [sX7_ends_0, sX7_ends_1 (st := []), sX7_ends_4, sX7_ends_7, sX7_ends_9, sX7_ends_8 (st := []), sX7_ends_10, sX7_ends_13, sX7_ends_14, sX7_ends_17 (st := []), sX7_ends_20, sX7_ends_21, sX7_ends_24 (st := []), sX7_ends_27, sX7_ends_28, sX7_ends_31, sX7_ends_41, sX7_ends_32, sX7_ends_42, sX7_ends_35 (st := []), sX7_ends_45 (st := []), sX7_ends_38, sX7_ends_48 (st := []), inb, nz_3, nz_4, nz_6, nz_8, nz_10, nz_100, nz_300, pushr_s, pushr_n, rv_s, rv_n, kd_sI, kd_sR, kd_sJ, sz_sI, sz_sR, sz_sJ, aR_sI, aJ_sI, aI_sR, aI_sJ, not_false_eq_true, true_and, and_true, true_or, or_true, or_false, false_or, eq_self, ite_true, ite_false, if_true, if_false, X.k0, X.r0, X.r2, h.lay.1, X.s31.1, w_isFS, e, nz_1, a3, X1.k0, X1.r2, a1.lay.1, hf, X2.k0, X2.r2, b1.lay.1, q, ei]
      rw [q] at e
      simp only [sX7_ends_0, sX7_ends_1 (st := []), sX7_ends_4, sX7_ends_7, sX7_ends_9, sX7_ends_8 (st := []), sX7_ends_10, sX7_ends_13, sX7_ends_14, sX7_ends_17 (st := []), sX7_ends_20, sX7_ends_21, sX7_ends_24 (st := []), sX7_ends_27, sX7_ends_28, sX7_ends_31, sX7_ends_41, sX7_ends_32, sX7_ends_42, sX7_ends_35 (st := []), sX7_ends_45 (st := []), sX7_ends_38, sX7_ends_48 (st := []), inb, nz_3, nz_4, nz_6, nz_8, nz_10, nz_100, nz_300, pushr_s, pushr_n, rv_s, rv_n, kd_sI, kd_sR, kd_sJ, sz_sI, sz_sR, sz_sJ, aR_sI, aJ_sI, aI_sR, aI_sJ, not_false_eq_true, true_and, and_true, true_or, or_true, or_false, false_or, eq_self, ite_true, ite_false, if_true, if_false, X.k0, X.r0, X.r2, h.lay.1, X.s31.1, w_isFS, e, nz_1, a3, X1.k0, X1.r2, a1.lay.1, hf, X2.k0, X2.r2, b1.lay.1, q, ei]
    · rw [if_neg q]
      simp only [sX7_ends_0, sX7_ends_1 (st := []), sX7_ends_4, sX7_ends_7, sX7_ends_9, sX7_ends_8 (st := []), sX7_ends_10, sX7_ends_13, sX7_ends_14, sX7_ends_17 (st := []), sX7_ends_20, sX7_ends_21, sX7_ends_24 (st := []), sX7_ends_27, sX7_ends_28, sX7_ends_31, sX7_ends_41, sX7_ends_32, sX7_ends_42, sX7_ends_35 (st := []), sX7_ends_45 (st := []), sX7_ends_38, sX7_ends_48 (st := []), inb, nz_3, nz_4, nz_6, nz_8, nz_10, nz_100, nz_300, pushr_s, pushr_n, rv_s, rv_n, kd_sI, kd_sR, kd_sJ, sz_sI, sz_sR, sz_sJ, aR_sI, aJ_sI, aI_sR, aI_sJ, not_false_eq_true, true_and, and_true, true_or, or_true, or_false, false_or, eq_self, ite_true, ite_false, if_true, if_false, X.k0, X.r0, X.r2, h.lay.1, X.s31.1, w_isFS, e, nz_1, a3, X1.k0, X1.r2, a1.lay.1, hf, X2.k0, X2.r2, b1.lay.1, q, eb]
  · obtain ⟨H1, a1, a2, a3, a4⟩ := m_save (S := S) (d := d + 39) g
    obtain ⟨H2, b1, b2, b3, b4, b5, b6⟩ := lp_ends (S := S) (A := A) (d := d + 32) (x := nI y) A.pn 0 A H1 a1 w a2 (U5.refl A) (by omega) hp (by omega)
    obtain ⟨H3, c1, c2, c3⟩ := m_put (S := S) (d := d + 39) b1 b4 b3
    have ei := fun Q => v_in (S := S) (d := d + 38) (Q := Q) b1 b2
    have eb := fun Q => v_back (S := S) (d := d + 38) (Q := Q) b1 b2
    rw [nI_0] at b6
    refine ⟨H3, c1, (a3.trans b5).trans c2, fun Q => ?_⟩
    simp only [sX8_ends_0, sX8_ends_1, sX8_ends_2, sX8_ends_3, sX8_ends_4 (st := []), sX8_ends_7, sX8_ends_10, sX8_ends_12, sX8_ends_11 (st := []), sX8_ends_13 (st := []), sX8_ends_16, sX8_ends_17, sX8_ends_19, sX8_ends_20, sX8_ends_23, sX8_ends_26, sX8_ends_27, sX8_ends_49, sX8_ends_28, sX8_ends_52, sX8_ends_59, sX8_ends_31, sX8_ends_53 (st := []), sX8_ends_60 (st := []), sX8_ends_32, sX8_ends_56, sX8_ends_63, sX8_ends_33, sX8_ends_64, sX8_ends_34, sX8_ends_65 (st := []), sX8_ends_37, sX8_ends_68, sX8_ends_38, sX8_ends_69 (st := []), sX8_ends_39 (st := []), sX8_ends_42, sX8_ends_45, inb, nz_3, nz_4, nz_6, nz_8, nz_10, nz_100, nz_300, pushr_s, pushr_n, rv_s, rv_n, kd_sI, kd_sR, kd_sJ, sz_sI, sz_sR, sz_sJ, aR_sI, aJ_sI, aI_sR, aI_sJ, not_false_eq_true, true_and, and_true, true_or, or_true, or_false, false_or, eq_self, ite_true, ite_false, if_true, if_false, mk_67 g.lay, n_in1, e, nz_1, a4, b6]
    rw [sX8_ends_48 (st := [])]
    by_cases q : nI y = 0
    · rw [if_pos q]
      simp only [sX8_ends_0, sX8_ends_1, sX8_ends_2, sX8_ends_3, sX8_ends_4 (st := []), sX8_ends_7, sX8_ends_10, sX8_ends_12, sX8_ends_11 (st := []), sX8_ends_13 (st := []), sX8_ends_16, sX8_ends_17, sX8_ends_19, sX8_ends_20, sX8_ends_23, sX8_ends_26, sX8_ends_48, sX8_ends_27, sX8_ends_49, sX8_ends_28, sX8_ends_52, sX8_ends_59, sX8_ends_31, sX8_ends_53 (st := []), sX8_ends_60 (st := []), sX8_ends_32, sX8_ends_56, sX8_ends_63, sX8_ends_33, sX8_ends_64, sX8_ends_34, sX8_ends_65 (st := []), sX8_ends_37, sX8_ends_68, sX8_ends_38, sX8_ends_69 (st := []), sX8_ends_39 (st := []), sX8_ends_42, sX8_ends_45, inb, nz_3, nz_4, nz_6, nz_8, nz_10, nz_100, nz_300, pushr_s, pushr_n, rv_s, rv_n, kd_sI, kd_sR, kd_sJ, sz_sI, sz_sR, sz_sJ, aR_sI, aJ_sI, aI_sR, aI_sJ, not_false_eq_true, true_and, and_true, true_or, or_true, or_false, false_or, eq_self, ite_true, ite_false, if_true, if_false, mk_67 b1.lay, q, ei, c3]
    · rw [if_neg q]
      simp only [sX8_ends_0, sX8_ends_1, sX8_ends_2, sX8_ends_3, sX8_ends_4 (st := []), sX8_ends_7, sX8_ends_10, sX8_ends_12, sX8_ends_11 (st := []), sX8_ends_13 (st := []), sX8_ends_16, sX8_ends_17, sX8_ends_19, sX8_ends_20, sX8_ends_23, sX8_ends_26, sX8_ends_48, sX8_ends_27, sX8_ends_49, sX8_ends_28, sX8_ends_52, sX8_ends_59, sX8_ends_31, sX8_ends_53 (st := []), sX8_ends_60 (st := []), sX8_ends_32, sX8_ends_56, sX8_ends_63, sX8_ends_33, sX8_ends_64, sX8_ends_34, sX8_ends_65 (st := []), sX8_ends_37, sX8_ends_68, sX8_ends_38, sX8_ends_69 (st := []), sX8_ends_39 (st := []), sX8_ends_42, sX8_ends_45, inb, nz_3, nz_4, nz_6, nz_8, nz_10, nz_100, nz_300, pushr_s, pushr_n, rv_s, rv_n, kd_sI, kd_sR, kd_sJ, sz_sI, sz_sR, sz_sJ, aR_sI, aJ_sI, aI_sR, aI_sJ, not_false_eq_true, true_and, and_true, true_or, or_true, or_false, false_or, eq_self, ite_true, ite_false, if_true, if_false, mk_67 b1.lay, q, eb, c3]
end ENDS
