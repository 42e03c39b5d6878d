-- 62: calls that try days: on, at, ends
/-- only what days and plans change -/
def U5 (A C : AS) : Prop := ∃ D O B M W, C = A.u5 D O B M W
theorem U5.refl (A : AS) : U5 A A := ⟨A.D, A.O, A.B, A.M, A.W, rfl⟩
theorem U5.u {A C : AS} (h : U5 A C) (D O B : Nat) (M W : Nat → Int32) : U5 A (C.u5 D O B M W) := by
  obtain ⟨_, _, _, _, _, rfl⟩ := h
  exact ⟨D, O, B, M, W, rfl⟩
theorem U5.meet {A C : AS} (h : U5 A C) (p : Nat) : U5 A (meetA C p) := by
  unfold meetA
  split
  · exact h.u _ _ _ _ _
  · exact h.u _ _ _ _ _
theorem U5.step {A C : AS} (h : U5 A C) (p : Nat) : U5 A (stepP C p) := by
  unfold stepP
  split
  · exact h
  · split
    · exact h
    · exact h.meet p
theorem U5.daysL {A : AS} : ∀ (c p : Nat) {C : AS}, U5 A C → U5 A (daysL c p C)
  | 0, _, _, h => h
  | c + 1, p, _, h => U5.daysL c (p + 1) (h.step p)
theorem U5.day {A C : AS} (h : U5 A C) : U5 A (dayA C) := (U5.daysL C.P 0 h).u _ _ _ _ _
theorem U5.days {A : AS} : ∀ (c : Nat) {C : AS}, U5 A C → U5 A (daysA c C)
  | 0, _, h => h
  | c + 1, _, h => U5.days c h.day
/-- what is kept aside -/
def Kp (H : AH) (A : AS) : Prop := aI H 67 28 = nI A.O ∧ aI H 67 29 = nI A.B ∧ aI H 67 30 = nI A.D ∧ ∀ i, i < 5 → aI H 83 i = A.M i ∧ aI H 84 i = A.W i
def jK (o i : Nat) : Prop := (o = 67 ∧ 28 ≤ i ∧ i ≤ 30) ∨ o = 83 ∨ o = 84
section TRIAL
variable {S : SC} {A : AS}
theorem lp_save {d : Nat} : ∀ (c i : Nat) (H : AH), MoA H A → i + c = 5 → ∃ H', Fr (fun o _ => o = 83 ∨ o = 84) H H' ∧ (∀ j, j < i → aI H' 83 j = aI H 83 j ∧ aI H' 84 j = aI H 84 j) ∧ (∀ j, i ≤ j → j < 5 → aI H' 83 j = A.M j ∧ aI H' 84 j = A.W j) ∧ ∀ Q, Wp S d 173 26 [.ref 67, .int (nI i)] [] H Q = Q none H'
  | 0, i, H, g, hc => by
    have e : 5 ≤ nI i := nI_le (a := 5) (by omega) (by omega)
    refine ⟨H, Fr.refl _ _, fun j _ => ⟨rfl, rfl⟩, fun j h1 h2 => absurd h2 (by omega), fun Q => ?_⟩
    rw [sX8_save_26]
    simp only [sX8_save_0, sX8_save_1, sX8_save_2, sX8_save_5, sX8_save_8, sX8_save_9, sX8_save_10, sX8_save_13, sX8_save_16, sX8_save_17, sX8_save_18, sX8_save_21, sX8_save_24, sX8_save_25, sX8_save_27, sX8_save_28, sX8_save_31, sX8_save_61 (st := []), sX8_save_32, sX8_save_35, sX8_save_36, sX8_save_37, sX8_save_40, sX8_save_41, sX8_save_42, sX8_save_43, sX8_save_44, sX8_save_47, sX8_save_48, sX8_save_49, sX8_save_52, sX8_save_53, sX8_save_54, sX8_save_55, sX8_save_58, inb, nz_3, nz_4, nz_6, nz_8, nz_10, nz_100, nz_300, pushr_s, pushr_n, rv_s, rv_n, kd_sI, kd_sR, kd_sJ, sz_sI, sz_sR, sz_sJ, aR_sI, aJ_sI, aI_sR, aI_sJ, not_false_eq_true, true_and, and_true, true_or, or_true, or_false, false_or, eq_self, ite_true, ite_false, if_true, if_false, e]
  | c + 1, i, H, g, hc => by
    have e : ¬ 5 ≤ nI i := nI_ge (b := 5) (by omega) (by omega)
    have ic : (nI i).toNatClampNeg = i := nI_clamp (by omega)
    have ib : ¬ (nI i < 0 ∨ 5 ≤ i) := inN (by omega) (by omega)
    have f : Fr (fun o _ => o = 83 ∨ o = 84) H (sI (sI H 83 i (A.M i)) 84 i (A.W i)) := (Fr.wI _ (Or.inl rfl)).trans (Fr.wI _ (Or.inr rfl))
    have g2 : MoA (sI (sI H 83 i (A.M i)) 84 i (A.W i)) A := g.fr f (fun o i z _ _ => by omega)
    obtain ⟨H2, a1, a2, a3, a4⟩ := lp_save (d := d) c (i + 1) _ g2 (by omega)
    have e1 : aI H 71 i = A.M i := g.eM i (by omega)
    have e2 : ∀ x, aI (sI H 83 i x) 72 i = A.W i := fun x => (gIn (by omega)).trans (g.eW i (by omega))
    refine ⟨H2, f.trans a1, fun j hj => ⟨(a2 j (by omega)).1.trans ((gIn (by omega)).trans (gIn (by omega))), (a2 j (by omega)).2.trans ((gIn (by omega)).trans (gIn (by omega)))⟩, fun j h1 h2 => ?_, fun Q => ?_⟩
    · by_cases q : j = i
      · subst q
        exact ⟨(a2 j (by omega)).1.trans ((gIn (by omega)).trans gIs), (a2 j (by omega)).2.trans gIs⟩
      · exact a3 j (by omega) h2
    · rw [sX8_save_26, ← a4 Q]
      simp only [sX8_save_0, sX8_save_1, sX8_save_2, sX8_save_5, sX8_save_8, sX8_save_9, sX8_save_10, sX8_save_13, sX8_save_16, sX8_save_17, sX8_save_18, sX8_save_21, sX8_save_24, sX8_save_25, sX8_save_27, sX8_save_28, sX8_save_31, sX8_save_61 (st := []), sX8_save_32, sX8_save_35, sX8_save_36, sX8_save_37, sX8_save_40, sX8_save_41, sX8_save_42, sX8_save_43, sX8_save_44, sX8_save_47, sX8_save_48, sX8_save_49, sX8_save_52, sX8_save_53, sX8_save_54, sX8_save_55, sX8_save_58, inb, nz_3, nz_4, nz_6, nz_8, nz_10, nz_100, nz_300, pushr_s, pushr_n, rv_s, rv_n, kd_sI, kd_sR, kd_sJ, sz_sI, sz_sR, sz_sJ, aR_sI, aJ_sI, aI_sR, aI_sJ, not_false_eq_true, true_and, and_true, true_or, or_true, or_false, false_or, eq_self, ite_true, ite_false, if_true, if_false, mk_67 g.lay, mr_31 g.lay, mk_83 g.lay, mz_83 g.lay, mr_8 g.lay, mk_71 g.lay, mz_71 g.lay, mr_32 g.lay, mk_84 g.lay, mz_84 g.lay, mr_9 g.lay, mk_72 g.lay, mz_72 g.lay, e, ic, ib, e1, e2, nI_1]
theorem m_save {d : Nat} {H : AH} (g : MoA H A) : ∃ H', MoA H' A ∧ Kp H' A ∧ Fr jM H H' ∧ ∀ Q, Wp S d 173 0 [.ref 67, hole] [] H Q = Q none H' := by
  have f : Fr jK H (sI (sI (sI H 67 28 (nI A.O)) 67 29 (nI A.B)) 67 30 (nI A.D)) := ((Fr.wI _ (Or.inl ⟨rfl, by omega, by omega⟩)).trans (Fr.wI _ (Or.inl ⟨rfl, by omega, by omega⟩))).trans (Fr.wI _ (Or.inl ⟨rfl, by omega, by omega⟩))
  have g2 : MoA (sI (sI (sI H 67 28 (nI A.O)) 67 29 (nI A.B)) 67 30 (nI A.D)) A := g.fr f (fun o i z _ _ => by unfold jK at z; omega)
  obtain ⟨H2, a1, a2, a3, a4⟩ := lp_save (S := S) (d := d) 5 0 _ g2 (by omega)
  have a1' : Fr jK _ H2 := a1.mono (fun o i z => Or.inr z)
  rw [nI_0] at a4
  refine ⟨H2, g2.fr a1' (fun o i z _ _ => by unfold jK at z; omega), ⟨?_, ?_, ?_, fun i hi => a3 i (Nat.zero_le _) hi⟩, (f.trans a1').mono (fun o i z => by unfold jK at z; unfold jM; omega), fun Q => ?_⟩
  · exact (a1.I _ _ (by omega)).trans ((gIn (by omega)).trans ((gIn (by omega)).trans gIs))
  · exact (a1.I _ _ (by omega)).trans ((gIn (by omega)).trans gIs)
  · exact (a1.I _ _ (by omega)).trans gIs
  · have b1 : aI H 67 1 = nI A.O := g.nO
    have b3 : ∀ x, aI (sI H 67 28 x) 67 3 = nI A.B := fun x => (gIn (by omega)).trans g.nB
    have b4 : ∀ x y, aI (sI (sI H 67 28 x) 67 29 y) 67 4 = nI A.D := fun x y => (gIn (by omega)).trans ((gIn (by omega)).trans g.nD)
    simp only [sX8_save_0, sX8_save_1, sX8_save_2, sX8_save_5, sX8_save_8, sX8_save_9, sX8_save_10, sX8_save_13, sX8_save_16, sX8_save_17, sX8_save_18, sX8_save_21, sX8_save_24, sX8_save_25, sX8_save_27, sX8_save_28, sX8_save_31, sX8_save_61 (st := []), sX8_save_32, sX8_save_35, sX8_save_36, sX8_save_37, sX8_save_40, sX8_save_41, sX8_save_42, sX8_save_43, sX8_save_44, sX8_save_47, sX8_save_48, sX8_save_49, sX8_save_52, sX8_save_53, sX8_save_54, sX8_save_55, sX8_save_58, inb, nz_3, nz_4, nz_6, nz_8, nz_10, nz_100, nz_300, pushr_s, pushr_n, rv_s, rv_n, kd_sI, kd_sR, kd_sJ, sz_sI, sz_sR, sz_sJ, aR_sI, aJ_sI, aI_sR, aI_sJ, not_false_eq_true, true_and, and_true, true_or, or_true, or_false, false_or, eq_self, ite_true, ite_false, if_true, if_false, mk_67 g.lay, b1, b3, b4, a4]
theorem lp_put {d : Nat} : ∀ (c i : Nat) (H : AH), MoL H → (∀ j, j < 5 → aI H 83 j = A.M j ∧ aI H 84 j = A.W j) → i + c = 5 → ∃ H', Fr (fun o _ => o = 71 ∨ o = 72) H H' ∧ (∀ j, j < i → aI H' 71 j = aI H 71 j ∧ aI H' 72 j = aI H 72 j) ∧ (∀ j, i ≤ j → j < 5 → aI H' 71 j = A.M j ∧ aI H' 72 j = A.W j) ∧ ∀ Q, Wp S d 174 26 [.ref 67, .int (nI i)] [] H Q = Q none H'
  | 0, i, H, g, hk, hc => by
    have e : 5 ≤ nI i := nI_le (a := 5) (by omega) (by omega)
    refine ⟨H, Fr.refl _ _, fun j _ => ⟨rfl, rfl⟩, fun j h1 h2 => absurd h2 (by omega), fun Q => ?_⟩
    rw [sX8_putBack_26]
    simp only [sX8_putBack_0, sX8_putBack_1, sX8_putBack_2, sX8_putBack_5, sX8_putBack_8, sX8_putBack_9, sX8_putBack_10, sX8_putBack_13, sX8_putBack_16, sX8_putBack_17, sX8_putBack_18, sX8_putBack_21, sX8_putBack_24, sX8_putBack_25, sX8_putBack_27, sX8_putBack_28, sX8_putBack_31, sX8_putBack_61 (st := []), sX8_putBack_32, sX8_putBack_35, sX8_putBack_36, sX8_putBack_37, sX8_putBack_40, sX8_putBack_41, sX8_putBack_42, sX8_putBack_43, sX8_putBack_44, sX8_putBack_47, sX8_putBack_48, sX8_putBack_49, sX8_putBack_52, sX8_putBack_53, sX8_putBack_54, sX8_putBack_55, sX8_putBack_58, inb, nz_3, nz_4, nz_6, nz_8, nz_10, nz_100, nz_300, pushr_s, pushr_n, rv_s, rv_n, kd_sI, kd_sR, kd_sJ, sz_sI, sz_sR, sz_sJ, aR_sI, aJ_sI, aI_sR, aI_sJ, not_false_eq_true, true_and, and_true, true_or, or_true, or_false, false_or, eq_self, ite_true, ite_false, if_true, if_false, e]
  | c + 1, i, H, g, hk, hc => by
    have e : ¬ 5 ≤ nI i := nI_ge (b := 5) (by omega) (by omega)
    have ic : (nI i).toNatClampNeg = i := nI_clamp (by omega)
    have ib : ¬ (nI i < 0 ∨ 5 ≤ i) := inN (by omega) (by omega)
    have f : Fr (fun o _ => o = 71 ∨ o = 72) H (sI (sI H 71 i (A.M i)) 72 i (A.W i)) := (Fr.wI _ (Or.inl rfl)).trans (Fr.wI _ (Or.inr rfl))
    obtain ⟨H2, a1, a2, a3, a4⟩ := lp_put (d := d) c (i + 1) (sI (sI H 71 i (A.M i)) 72 i (A.W i)) (g.fr f) (fun j hj => ⟨(f.I _ _ (by omega)).trans (hk j hj).1, (f.I _ _ (by omega)).trans (hk j hj).2⟩) (by omega)
    have e1 : aI H 83 i = A.M i := (hk i (by omega)).1
    have e2 : ∀ x, aI (sI H 71 i x) 84 i = A.W i := fun x => (gIn (by omega)).trans (hk i (by omega)).2
    refine ⟨H2, f.trans a1, fun j hj => ⟨(a2 j (by omega)).1.trans ((gIn (by omega)).trans (gIn (by omega))), (a2 j (by omega)).2.trans ((gIn (by omega)).trans (gIn (by omega)))⟩, fun j h1 h2 => ?_, fun Q => ?_⟩
    · by_cases q : j = i
      · subst q
        exact ⟨(a2 j (by omega)).1.trans ((gIn (by omega)).trans gIs), (a2 j (by omega)).2.trans gIs⟩
      · exact a3 j (by omega) h2
    · rw [sX8_putBack_26, ← a4 Q]
      simp only [sX8_putBack_0, sX8_putBack_1, sX8_putBack_2, sX8_putBack_5, sX8_putBack_8, sX8_putBack_9, sX8_putBack_10, sX8_putBack_13, sX8_putBack_16, sX8_putBack_17, sX8_putBack_18, sX8_putBack_21, sX8_putBack_24, sX8_putBack_25, sX8_putBack_27, sX8_putBack_28, sX8_putBack_31, sX8_putBack_61 (st := []), sX8_putBack_32, sX8_putBack_35, sX8_putBack_36, sX8_putBack_37, sX8_putBack_40, sX8_putBack_41, sX8_putBack_42, sX8_putBack_43, sX8_putBack_44, sX8_putBack_47, sX8_putBack_48, sX8_putBack_49, sX8_putBack_52, sX8_putBack_53, sX8_putBack_54, sX8_putBack_55, sX8_putBack_58, inb, nz_3, nz_4, nz_6, nz_8, nz_10, nz_100, nz_300, pushr_s, pushr_n, rv_s, rv_n, kd_sI, kd_sR, kd_sJ, sz_sI, sz_sR, sz_sJ, aR_sI, aJ_sI, aI_sR, aI_sJ, not_false_eq_true, true_and, and_true, true_or, or_true, or_false, false_or, eq_self, ite_true, ite_false, if_true, if_false, mk_67 g, mr_8 g, mk_71 g, mz_71 g, mr_31 g, mk_83 g, mz_83 g, mr_9 g, mk_72 g, mz_72 g, mr_32 g, mk_84 g, mz_84 g, e, ic, ib, e1, e2, nI_1]
theorem m_put {d : Nat} {H : AH} {C : AS} (g : MoA H C) (hu : U5 A C) (k : Kp H A) : ∃ H', MoA H' A ∧ Fr jM H H' ∧ ∀ Q, Wp S d 174 0 [.ref 67, hole] [] H Q = Q none H' := by
  obtain ⟨k1, k2, k3, k4⟩ := k
  have f : Fr jGoM H (sI (sI (sI H 67 1 (nI A.O)) 67 3 (nI A.B)) 67 4 (nI A.D)) := ((Fr.wI _ (Or.inr (Or.inl ⟨rfl, Or.inl rfl⟩))).trans (Fr.wI _ (Or.inr (Or.inl ⟨rfl, Or.inr (Or.inl rfl)⟩)))).trans (Fr.wI _ (Or.inr (Or.inl ⟨rfl, Or.inr (Or.inr rfl)⟩)))
  obtain ⟨H2, a1, a2, a3, a4⟩ := lp_put (S := S) (d := d) (A := A) 5 0 (sI (sI (sI H 67 1 (nI A.O)) 67 3 (nI A.B)) 67 4 (nI A.D)) (g.lay.fr f) (fun j hj => ⟨(f.I _ _ (by unfold jGoM; omega)).trans (k4 j hj).1, (f.I _ _ (by unfold jGoM; omega)).trans (k4 j hj).2⟩) (by omega)
  have f2 : Fr jGoM _ H2 := a1.mono (fun o i z => Or.inr (Or.inr z))
  rw [nI_0] at a4
  obtain ⟨D', O', B', M', W', rfl⟩ := hu
  have g2 : MoA H2 ((A.u5 D' O' B' M' W').u5 A.D A.O A.B A.M A.W) := g.jgo (f.trans f2) ((a1.I _ _ (by omega)).trans gIs) ((a1.I _ _ (by omega)).trans ((gIn (by omega)).trans ((gIn (by omega)).trans gIs))) ((a1.I _ _ (by omega)).trans ((gIn (by omega)).trans gIs)) (fun i hi => (a3 i (Nat.zero_le _) hi).1) (fun i hi => (a3 i (Nat.zero_le _) hi).2)
  refine ⟨H2, g2, (f.trans f2).mono (fun o i z => jM_of z), fun Q => ?_⟩
  have b3 : ∀ x, aI (sI H 67 1 x) 67 29 = nI A.B := fun x => (gIn (by omega)).trans k2
  have b4 : ∀ x y, aI (sI (sI H 67 1 x) 67 3 y) 67 30 = nI A.D := fun x y => (gIn (by omega)).trans ((gIn (by omega)).trans k3)
  simp only [sX8_putBack_0, sX8_putBack_1, sX8_putBack_2, sX8_putBack_5, sX8_putBack_8, sX8_putBack_9, sX8_putBack_10, sX8_putBack_13, sX8_putBack_16, sX8_putBack_17, sX8_putBack_18, sX8_putBack_21, sX8_putBack_24, sX8_putBack_25, sX8_putBack_27, sX8_putBack_28, sX8_putBack_31, sX8_putBack_61 (st := []), sX8_putBack_32, sX8_putBack_35, sX8_putBack_36, sX8_putBack_37, sX8_putBack_40, sX8_putBack_41, sX8_putBack_42, sX8_putBack_43, sX8_putBack_44, sX8_putBack_47, sX8_putBack_48, sX8_putBack_49, sX8_putBack_52, sX8_putBack_53, sX8_putBack_54, sX8_putBack_55, sX8_putBack_58, inb, nz_3, nz_4, nz_6, nz_8, nz_10, nz_100, nz_300, pushr_s, pushr_n, rv_s, rv_n, kd_sI, kd_sR, kd_sJ, sz_sI, sz_sR, sz_sJ, aR_sI, aJ_sI, aI_sR, aI_sJ, not_false_eq_true, true_and, and_true, true_or, or_true, or_false, false_or, eq_self, ite_true, ite_false, if_true, if_false, mk_67 g.lay, k1, b3, b4, a4]
theorem Kp.fr {H H' : AH} (k : Kp H A) (f : Fr jGoM H H') : Kp H' A :=
  ⟨(f.I _ _ (by unfold jGoM; omega)).trans k.1, (f.I _ _ (by unfold jGoM; omega)).trans k.2.1, (f.I _ _ (by unfold jGoM; omega)).trans k.2.2.1, fun i hi => ⟨(f.I _ _ (by unfold jGoM; omega)).trans (k.2.2.2 i hi).1, (f.I _ _ (by unfold jGoM; omega)).trans (k.2.2.2 i hi).2⟩⟩
theorem jSt_c {o i : Nat} (h : jSt 31 o i) : jC o i := by unfold jSt at h; unfold jC; omega
theorem jGo_c {o i : Nat} (h : jGo 31 o i) : jC o i := by unfold jGo at h; unfold jC; omega
/-- the component's trial: a copy, days on it -/
theorem c_days {d n : Nat} {H : AH} (X : CoL H) (h : StA H 1 A) (w : Wf A) (hn : A.D + n < 20000) : ∃ H1 H2, StA H1 1 A ∧ CoL H1 ∧ StA H2 1 A ∧ CoL H2 ∧ StA H1 31 A ∧ StA H2 31 (daysA n A) ∧ Fr jC H H2 ∧ (∀ Q, Wp S (d + 5) 18 0 [.ref 31, .ref 1] [] H Q = Q none H1) ∧ (∀ Q, Wp S (d + 5) 36 0 [.ref 31, .int (nI n), hole, hole] [] H1 Q = Q none H2) := by
  obtain ⟨H1, a1, a2, a3⟩ := w_copy (S := S) (d := d + 4) (b := 31) h w X.s31 (Or.inl (by decide)) (by decide) (by decide)
  obtain ⟨H2, b1, b2, b3⟩ := w_goDays (S := S) (d := d) a1 w (by decide) hn
  have h1 : StA H1 1 A := h.fr a2 (fun o i z => ⟨fun _ _ => by unfold jSt at z; omega, by unfold jSt at z; omega⟩)
  have h2 : StA H2 1 A := h1.fr b1 (fun o i z => ⟨fun _ _ => by unfold jGo at z; omega, by unfold jGo at z; omega⟩)
  exact ⟨H1, H2, h1, X.fr a2, h2, (X.fr a2).fr b1, a1, b2, (a2.mono (fun o i z => jSt_c z)).trans (b1.mono (fun o i z => jGo_c z)), a3, b3⟩
theorem lt_1020 {p : Nat} (hp : p < 5) : nI (10 + p) < 20 := nI_lt (b := 20) (by omega) (by decide)
theorem k_on (w : Wf A) (hD : A.D ≤ 9999) (a b : Int32) : Now S A 84 179 [.ref 0, .int a, .int b, hole, hole] [.ref 67, .int a, .int b, hole] := by
  have hP := w.hP
  have i10 : (10 : Int32) = nI 10 := rfl
  have i20 : (20 : Int32) = nI 20 := rfl
  have u1 : (9 : Int32) + nI A.P = nI (9 + A.P) := nI_add 9 A.P
  have u2 : (19 : Int32) + nI A.P = nI (19 + A.P) := nI_add 19 A.P
  -- which it is: the component's two flags, the reference's two ranges
  have cases3 : (b = 0) ∨ (∃ p, p < A.P ∧ b = nI (10 + p)) ∨ (∃ p, p < A.P ∧ b = nI (20 + p)) ∨ (¬ b = 0 ∧ (b < 10 ∨ (¬ b < 10 ∧ rg (b - 10) (nI A.P) = 0)) ∧ (b < 20 ∨ (¬ b < 20 ∧ rg (b - 20) (nI A.P) = 0)) ∧ inS b 10 (nI (9 + A.P)) = 0 ∧ inS b 20 (nI (19 + A.P)) = 0) := by
    by_cases c0 : b = 0
    · exact Or.inl c0
    by_cases c1 : ∃ p, p < A.P ∧ b = nI (10 + p)
    · exact Or.inr (Or.inl c1)
    by_cases c2 : ∃ p, p < A.P ∧ b = nI (20 + p)
    · exact Or.inr (Or.inr (Or.inl c2))
    refine Or.inr (Or.inr (Or.inr ⟨c0, ?_, ?_, ?_, ?_⟩))
    · by_cases q : b < 10
      · exact Or.inl q
      · refine Or.inr ⟨q, ?_⟩
        rcases rg_c (b - 10) A.P (by omega) with z | ⟨_, j, hj, z⟩
        · exact z
        · exact absurd ⟨j, hj, by rw [Nat.add_comm, ← nI_add, ← z]; exact (Int32.sub_add_cancel b 10).symm⟩ c1
    · by_cases q : b < 20
      · exact Or.inl q
      · refine Or.inr ⟨q, ?_⟩
        rcases rg_c (b - 20) A.P (by omega) with z | ⟨_, j, hj, z⟩
        · exact z
        · exact absurd ⟨j, hj, by rw [Nat.add_comm, ← nI_add, ← z]; exact (Int32.sub_add_cancel b 20).symm⟩ c2
    · unfold inS
      by_cases q : b < 10
      · rw [if_pos q]
      · rw [if_neg q]
        have p0 : ¬ b < 0 := fun z => q (Int32.lt_trans z (by decide +kernel))
        obtain ⟨j, hj, rfl⟩ := nI_of p0
        have j10 : 10 ≤ j := Nat.le_of_not_lt fun z => q (nI_lt (b := 10) z (by decide))
        have : 9 + A.P < j := Nat.lt_of_not_le fun z => c1 ⟨j - 10, by omega, congrArg nI (by omega)⟩
        rw [if_pos (nI_lt this hj)]
    · unfold inS
      by_cases q : b < 20
      · rw [if_pos q]
      · rw [if_neg q]
        have p0 : ¬ b < 0 := fun z => q (Int32.lt_trans z (by decide +kernel))
        obtain ⟨j, hj, rfl⟩ := nI_of p0
        have j10 : 20 ≤ j := Nat.le_of_not_lt fun z => q (nI_lt (b := 20) z (by decide))
        have : 19 + A.P < j := Nat.lt_of_not_le fun z => c2 ⟨j - 20, by omega, congrArg nI (by omega)⟩
        rw [if_pos (nI_lt this hj)]
  have i1 : ∀ d H Q, Wp S d 123 0 [.ref 67, .int b, .int 10, .int (nI (9 + A.P))] [] H Q = Q (some (.int (inS b 10 (nI (9 + A.P))))) H := fun d H Q => m_in
  have i2 : ∀ d H Q, Wp S d 123 0 [.ref 67, .int b, .int 20, .int (nI (19 + A.P))] [] H Q = Q (some (.int (inS b 20 (nI (19 + A.P))))) H := fun d H Q => m_in
  rcases cases3 with c | c | c | c
  · subst c
    have l10 : ((0 : Int32) < 10) = True := eq_true (by decide +kernel)
    have l20 : ((0 : Int32) < 20) = True := eq_true (by decide +kernel)
    rcases rg_c a 61 (by decide) with e | ⟨e, n, hn, rfl⟩
    · refine now_same w (.int (-2)) (fun H h X d Q => ?_) (fun H g d Q => ?_)
      · unfold rg at e
        by_cases q : a < 0
        · simp only [sX7_on_0, sX7_on_1, sX7_on_3, sX7_on_6, sX7_on_21, sX7_on_7, sX7_on_22, sX7_on_8, sX7_on_23, sX7_on_10, sX7_on_24, sX7_on_11 (st := []), sX7_on_26, sX7_on_14, sX7_on_29, sX7_on_44, sX7_on_17, sX7_on_30, sX7_on_45, sX7_on_18, sX7_on_31, sX7_on_47, sX7_on_33, sX7_on_48, sX7_on_34 (st := []), sX7_on_51, sX7_on_62, sX7_on_37, sX7_on_52, sX7_on_63, sX7_on_40, sX7_on_55, sX7_on_66, sX7_on_72, sX7_on_41, sX7_on_57, sX7_on_67, sX7_on_74 (st := []), sX7_on_60, sX7_on_69, sX7_on_61 (st := []), sX7_on_75, sX7_on_76, sX7_on_79, sX7_on_80, sX7_on_83 (st := []), sX7_on_86, sX7_on_87, sX7_on_90, sX7_on_91 (st := []), sX7_on_94, sX7_on_95, sX7_on_98, sX7_on_111, sX7_on_99, sX7_on_113, sX7_on_102, sX7_on_116, sX7_on_129, sX7_on_105, sX7_on_117, sX7_on_130, sX7_on_106, sX7_on_120, sX7_on_133 (st := []), sX7_on_108, sX7_on_123, sX7_on_136 (st := []), sX7_on_109, sX7_on_124, sX7_on_110 (st := []), sX7_on_126, sX7_on_127, sX7_on_128 (st := []), inb, nz_3, nz_4, nz_6, nz_8, nz_10, nz_100, nz_300, pushr_s, pushr_n, rv_s, rv_n, kd_sI, kd_sR, kd_sJ, sz_sI, sz_sR, sz_sJ, aR_sI, aJ_sI, aI_sR, aI_sJ, not_false_eq_true, true_and, and_true, true_or, or_true, or_false, false_or, eq_self, ite_true, ite_false, if_true, if_false, X.k0, q, l10, l20]
        · rw [if_neg q] at e
          have q2 : ¬ a ≤ 60 := fun z => by
            obtain ⟨j, hj, rfl⟩ := nI_of q
            have := (nI_leI (b := 60) hj (by decide)).mp z
            rw [if_pos (nI_lt (b := 61) (by omega) (by decide))] at e
            exact absurd e (by decide)
          simp only [sX7_on_0, sX7_on_1, sX7_on_3, sX7_on_6, sX7_on_21, sX7_on_7, sX7_on_22, sX7_on_8, sX7_on_23, sX7_on_10, sX7_on_24, sX7_on_11 (st := []), sX7_on_26, sX7_on_14, sX7_on_29, sX7_on_44, sX7_on_17, sX7_on_30, sX7_on_45, sX7_on_18, sX7_on_31, sX7_on_47, sX7_on_33, sX7_on_48, sX7_on_34 (st := []), sX7_on_51, sX7_on_62, sX7_on_37, sX7_on_52, sX7_on_63, sX7_on_40, sX7_on_55, sX7_on_66, sX7_on_72, sX7_on_41, sX7_on_57, sX7_on_67, sX7_on_74 (st := []), sX7_on_60, sX7_on_69, sX7_on_61 (st := []), sX7_on_75, sX7_on_76, sX7_on_79, sX7_on_80, sX7_on_83 (st := []), sX7_on_86, sX7_on_87, sX7_on_90, sX7_on_91 (st := []), sX7_on_94, sX7_on_95, sX7_on_98, sX7_on_111, sX7_on_99, sX7_on_113, sX7_on_102, sX7_on_116, sX7_on_129, sX7_on_105, sX7_on_117, sX7_on_130, sX7_on_106, sX7_on_120, sX7_on_133 (st := []), sX7_on_108, sX7_on_123, sX7_on_136 (st := []), sX7_on_109, sX7_on_124, sX7_on_110 (st := []), sX7_on_126, sX7_on_127, sX7_on_128 (st := []), inb, nz_3, nz_4, nz_6, nz_8, nz_10, nz_100, nz_300, pushr_s, pushr_n, rv_s, rv_n, kd_sI, kd_sR, kd_sJ, sz_sI, sz_sR, sz_sJ, aR_sI, aJ_sI, aI_sR, aI_sJ, not_false_eq_true, true_and, and_true, true_or, or_true, or_false, false_or, eq_self, ite_true, ite_false, if_true, if_false, X.k0, q, q2, l10, l20]
      · simp only [sX8_on_0, sX8_on_1, sX8_on_4, sX8_on_40, sX8_on_5, sX8_on_41, sX8_on_6, sX8_on_42 (st := []), sX8_on_8, sX8_on_45, sX8_on_10, sX8_on_48, sX8_on_51, sX8_on_11, sX8_on_50 (st := []), sX8_on_52 (st := []), sX8_on_14, sX8_on_55, sX8_on_15 (st := []), sX8_on_56, sX8_on_18, sX8_on_57 (st := []), sX8_on_21, sX8_on_60, sX8_on_22, sX8_on_61, sX8_on_23, sX8_on_64, sX8_on_71, sX8_on_25, sX8_on_65 (st := []), sX8_on_72, sX8_on_27, sX8_on_68, sX8_on_74, sX8_on_28, sX8_on_98, sX8_on_77, sX8_on_89, sX8_on_31, sX8_on_99, sX8_on_78, sX8_on_90, sX8_on_32 (st := []), sX8_on_100 (st := []), sX8_on_81, sX8_on_93, sX8_on_35, sX8_on_103, sX8_on_82, sX8_on_94, sX8_on_38, sX8_on_104 (st := []), sX8_on_84, sX8_on_96, sX8_on_39 (st := []), sX8_on_85, sX8_on_97, sX8_on_86, inb, nz_3, nz_4, nz_6, nz_8, nz_10, nz_100, nz_300, pushr_s, pushr_n, rv_s, rv_n, kd_sI, kd_sR, kd_sJ, sz_sI, sz_sR, sz_sJ, aR_sI, aJ_sI, aI_sR, aI_sJ, not_false_eq_true, true_and, and_true, true_or, or_true, or_false, false_or, eq_self, ite_true, ite_false, if_true, if_false, mk_67 g.lay, n_isDays g.lay, e]
    have q0 : ¬ nI n < 0 := nI_pos (by omega)
    have q1 : nI n ≤ 60 := nI_le (b := 60) (by omega) (by decide)
    refine ⟨.int (bkA (daysA n A)), A, w, rfl, rfl, fun H h X d => ?_, fun H g d => ?_⟩
    · obtain ⟨H1, H2, a1, a2, a3, a4, a5, a6, a7, a8, a9⟩ := c_days (S := S) (d := d + 34) (n := n) X h w (by omega)
      have hb := fun Q => u_back (S := S) (d := d + 38) (Q := Q) a6
      refine ⟨H2, a3, a7, fun Q => ?_⟩
      simp only [sX7_on_0, sX7_on_1, sX7_on_3, sX7_on_6, sX7_on_21, sX7_on_7, sX7_on_22, sX7_on_8, sX7_on_23, sX7_on_10, sX7_on_24, sX7_on_11 (st := []), sX7_on_26, sX7_on_14, sX7_on_29, sX7_on_44, sX7_on_17, sX7_on_30, sX7_on_45, sX7_on_18, sX7_on_31, sX7_on_47, sX7_on_33, sX7_on_48, sX7_on_34 (st := []), sX7_on_51, sX7_on_62, sX7_on_37, sX7_on_52, sX7_on_63, sX7_on_40, sX7_on_55, sX7_on_66, sX7_on_72, sX7_on_41, sX7_on_57, sX7_on_67, sX7_on_74 (st := []), sX7_on_60, sX7_on_69, sX7_on_61 (st := []), sX7_on_75, sX7_on_76, sX7_on_79, sX7_on_80, sX7_on_83 (st := []), sX7_on_86, sX7_on_87, sX7_on_90, sX7_on_91 (st := []), sX7_on_94, sX7_on_95, sX7_on_98, sX7_on_111, sX7_on_99, sX7_on_113, sX7_on_102, sX7_on_116, sX7_on_129, sX7_on_105, sX7_on_117, sX7_on_130, sX7_on_106, sX7_on_120, sX7_on_133 (st := []), sX7_on_108, sX7_on_123, sX7_on_136 (st := []), sX7_on_109, sX7_on_124, sX7_on_110 (st := []), sX7_on_126, sX7_on_127, sX7_on_128 (st := []), inb, nz_3, nz_4, nz_6, nz_8, nz_10, nz_100, nz_300, pushr_s, pushr_n, rv_s, rv_n, kd_sI, kd_sR, kd_sJ, sz_sI, sz_sR, sz_sJ, aR_sI, aJ_sI, aI_sR, aI_sJ, not_false_eq_true, true_and, and_true, true_or, or_true, or_false, false_or, eq_self, ite_true, ite_false, if_true, if_false, X.k0, X.r0, X.r2, h.lay.1, X.s31.1, q0, q1, l10, l20, a8, a2.k0, a2.r2, a5.lay.1, a9, a4.k0, a4.r2, a6.lay.1, hb]
    · obtain ⟨H1, a1, a2, a3, a4⟩ := m_save (S := S) (d := d + 39) g
      obtain ⟨H2, b1, b2, b3⟩ := m_goDays (S := S) (d := d + 32) a1 w (show A.D + n < 20000 by omega)
      have hb := fun Q => v_back (S := S) (d := d + 38) (Q := Q) b2 (w.days n (by omega))
      obtain ⟨H3, c1, c2, c3⟩ := m_put (S := S) (d := d + 39) b2 ((U5.refl A).days n) (a2.fr b1)
      refine ⟨H3, c1, (a3.trans (b1.mono (fun o i z => jM_of z))).trans c2, fun Q => ?_⟩
      simp only [sX8_on_0, sX8_on_1, sX8_on_4, sX8_on_40, sX8_on_5, sX8_on_41, sX8_on_6, sX8_on_42 (st := []), sX8_on_8, sX8_on_45, sX8_on_10, sX8_on_48, sX8_on_51, sX8_on_11, sX8_on_50 (st := []), sX8_on_52 (st := []), sX8_on_14, sX8_on_55, sX8_on_15 (st := []), sX8_on_56, sX8_on_18, sX8_on_57 (st := []), sX8_on_21, sX8_on_60, sX8_on_22, sX8_on_61, sX8_on_23, sX8_on_64, sX8_on_71, sX8_on_25, sX8_on_65 (st := []), sX8_on_72, sX8_on_27, sX8_on_68, sX8_on_74, sX8_on_28, sX8_on_98, sX8_on_77, sX8_on_89, sX8_on_31, sX8_on_99, sX8_on_78, sX8_on_90, sX8_on_32 (st := []), sX8_on_100 (st := []), sX8_on_81, sX8_on_93, sX8_on_35, sX8_on_103, sX8_on_82, sX8_on_94, sX8_on_38, sX8_on_104 (st := []), sX8_on_84, sX8_on_96, sX8_on_39 (st := []), sX8_on_85, sX8_on_97, sX8_on_86, inb, nz_3, nz_4, nz_6, nz_8, nz_10, nz_100, nz_300, pushr_s, pushr_n, rv_s, rv_n, kd_sI, kd_sR, kd_sJ, sz_sI, sz_sR, sz_sJ, aR_sI, aJ_sI, aI_sR, aI_sJ, not_false_eq_true, true_and, and_true, true_or, or_true, or_false, false_or, eq_self, ite_true, ite_false, if_true, if_false, mk_67 g.lay, n_isDays g.lay, e, nz_1, a4, mk_67 a1.lay, b3, mk_67 b2.lay, hb, c3, mk_67 c1.lay]
  · obtain ⟨p, hp, rfl⟩ := c
    have l10 : ¬ nI (10 + p) < 10 := nI_nlt (b := 10) (by omega) (by omega)
    have l20 : nI (10 + p) < 20 := lt_1020 (by omega)
    have s10 : nI (10 + p) - 10 = nI p := by rw [i10, pk_sub (by omega)]; exact congrArg nI (by omega)
    have nz : ¬ nI (10 + p) = 0 := nI_ne0 (by omega) (by omega)
    have rp : rg (nI p) (nI A.P) = 1 := by unfold rg; rw [if_neg (nI_pos (by omega)), if_pos (nI_lt hp (by omega))]
    have ip : inS (nI (10 + p)) 10 (nI (9 + A.P)) = 1 := by
      unfold inS; rw [if_neg l10, if_neg (nI_nlt (by omega) (by omega))]
    have pc : (nI p).toNatClampNeg = p := nI_clamp (by omega)
    have p1 : ¬ (nI p < 0 ∨ 5 ≤ p) := inN (by omega) (by omega)
    have g20 : ¬ 20 ≤ nI (10 + p) := Int32.not_le.mpr l20
    rcases rg_c a 61 (by decide) with e | ⟨e, n, hn, rfl⟩
    · refine now_same w (.int (-2)) (fun H h X d Q => ?_) (fun H g d Q => ?_)
      · unfold rg at e
        by_cases q : a < 0
        · simp only [sX7_on_0, sX7_on_1, sX7_on_3, sX7_on_6, sX7_on_21, sX7_on_7, sX7_on_22, sX7_on_8, sX7_on_23, sX7_on_10, sX7_on_24, sX7_on_11 (st := []), sX7_on_26, sX7_on_14, sX7_on_29, sX7_on_44, sX7_on_17, sX7_on_30, sX7_on_45, sX7_on_18, sX7_on_31, sX7_on_47, sX7_on_33, sX7_on_48, sX7_on_34 (st := []), sX7_on_51, sX7_on_62, sX7_on_37, sX7_on_52, sX7_on_63, sX7_on_40, sX7_on_55, sX7_on_66, sX7_on_72, sX7_on_41, sX7_on_57, sX7_on_67, sX7_on_74 (st := []), sX7_on_60, sX7_on_69, sX7_on_61 (st := []), sX7_on_75, sX7_on_76, sX7_on_79, sX7_on_80, sX7_on_83 (st := []), sX7_on_86, sX7_on_87, sX7_on_90, sX7_on_91 (st := []), sX7_on_94, sX7_on_95, sX7_on_98, sX7_on_111, sX7_on_99, sX7_on_113, sX7_on_102, sX7_on_116, sX7_on_129, sX7_on_105, sX7_on_117, sX7_on_130, sX7_on_106, sX7_on_120, sX7_on_133 (st := []), sX7_on_108, sX7_on_123, sX7_on_136 (st := []), sX7_on_109, sX7_on_124, sX7_on_110 (st := []), sX7_on_126, sX7_on_127, sX7_on_128 (st := []), inb, nz_3, nz_4, nz_6, nz_8, nz_10, nz_100, nz_300, pushr_s, pushr_n, rv_s, rv_n, kd_sI, kd_sR, kd_sJ, sz_sI, sz_sR, sz_sJ, aR_sI, aJ_sI, aI_sR, aI_sJ, not_false_eq_true, true_and, and_true, true_or, or_true, or_false, false_or, eq_self, ite_true, ite_false, if_true, if_false, X.k0, q, l10, l20, s10, w_isPilgrim X h, rp, nz, nz_1]
        · rw [if_neg q] at e
          have q2 : ¬ a ≤ 60 := fun z => by
            obtain ⟨j, hj, rfl⟩ := nI_of q
            have := (nI_leI (b := 60) hj (by decide)).mp z
            rw [if_pos (nI_lt (b := 61) (by omega) (by decide))] at e
            exact absurd e (by decide)
          simp only [sX7_on_0, sX7_on_1, sX7_on_3, sX7_on_6, sX7_on_21, sX7_on_7, sX7_on_22, sX7_on_8, sX7_on_23, sX7_on_10, sX7_on_24, sX7_on_11 (st := []), sX7_on_26, sX7_on_14, sX7_on_29, sX7_on_44, sX7_on_17, sX7_on_30, sX7_on_45, sX7_on_18, sX7_on_31, sX7_on_47, sX7_on_33, sX7_on_48, sX7_on_34 (st := []), sX7_on_51, sX7_on_62, sX7_on_37, sX7_on_52, sX7_on_63, sX7_on_40, sX7_on_55, sX7_on_66, sX7_on_72, sX7_on_41, sX7_on_57, sX7_on_67, sX7_on_74 (st := []), sX7_on_60, sX7_on_69, sX7_on_61 (st := []), sX7_on_75, sX7_on_76, sX7_on_79, sX7_on_80, sX7_on_83 (st := []), sX7_on_86, sX7_on_87, sX7_on_90, sX7_on_91 (st := []), sX7_on_94, sX7_on_95, sX7_on_98, sX7_on_111, sX7_on_99, sX7_on_113, sX7_on_102, sX7_on_116, sX7_on_129, sX7_on_105, sX7_on_117, sX7_on_130, sX7_on_106, sX7_on_120, sX7_on_133 (st := []), sX7_on_108, sX7_on_123, sX7_on_136 (st := []), sX7_on_109, sX7_on_124, sX7_on_110 (st := []), sX7_on_126, sX7_on_127, sX7_on_128 (st := []), inb, nz_3, nz_4, nz_6, nz_8, nz_10, nz_100, nz_300, pushr_s, pushr_n, rv_s, rv_n, kd_sI, kd_sR, kd_sJ, sz_sI, sz_sR, sz_sJ, aR_sI, aJ_sI, aI_sR, aI_sJ, not_false_eq_true, true_and, and_true, true_or, or_true, or_false, false_or, eq_self, ite_true, ite_false, if_true, if_false, X.k0, q, q2, l10, l20, s10, w_isPilgrim X h, rp, nz, nz_1]
      · simp only [sX8_on_0, sX8_on_1, sX8_on_4, sX8_on_40, sX8_on_5, sX8_on_41, sX8_on_6, sX8_on_42 (st := []), sX8_on_8, sX8_on_45, sX8_on_10, sX8_on_48, sX8_on_51, sX8_on_11, sX8_on_50 (st := []), sX8_on_52 (st := []), sX8_on_14, sX8_on_55, sX8_on_15 (st := []), sX8_on_56, sX8_on_18, sX8_on_57 (st := []), sX8_on_21, sX8_on_60, sX8_on_22, sX8_on_61, sX8_on_23, sX8_on_64, sX8_on_71, sX8_on_25, sX8_on_65 (st := []), sX8_on_72, sX8_on_27, sX8_on_68, sX8_on_74, sX8_on_28, sX8_on_98, sX8_on_77, sX8_on_89, sX8_on_31, sX8_on_99, sX8_on_78, sX8_on_90, sX8_on_32 (st := []), sX8_on_100 (st := []), sX8_on_81, sX8_on_93, sX8_on_35, sX8_on_103, sX8_on_82, sX8_on_94, sX8_on_38, sX8_on_104 (st := []), sX8_on_84, sX8_on_96, sX8_on_39 (st := []), sX8_on_85, sX8_on_97, sX8_on_86, inb, nz_3, nz_4, nz_6, nz_8, nz_10, nz_100, nz_300, pushr_s, pushr_n, rv_s, rv_n, kd_sI, kd_sR, kd_sJ, sz_sI, sz_sR, sz_sJ, aR_sI, aJ_sI, aI_sR, aI_sJ, not_false_eq_true, true_and, and_true, true_or, or_true, or_false, false_or, eq_self, ite_true, ite_false, if_true, if_false, mk_67 g.lay, g.nP, n_isDays g.lay, e, nz, u1, i1, ip, nz_1]
    have q0 : ¬ nI n < 0 := nI_pos (by omega)
    have q1 : nI n ≤ 60 := nI_le (b := 60) (by omega) (by decide)
    refine ⟨.int ((daysA n A).M p), A, w, rfl, rfl, fun H h X d => ?_, fun H g d => ?_⟩
    · obtain ⟨H1, H2, a1, a2, a3, a4, a5, a6, a7, a8, a9⟩ := c_days (S := S) (d := d + 34) (n := n) X h w (by omega)
      have hl := a6.lay
      have e5 : aI H2 35 p = (daysA n A).M p := a6.eM p (by omega)
      refine ⟨H2, a3, a7, fun Q => ?_⟩
      simp only [sX7_on_0, sX7_on_1, sX7_on_3, sX7_on_6, sX7_on_21, sX7_on_7, sX7_on_22, sX7_on_8, sX7_on_23, sX7_on_10, sX7_on_24, sX7_on_11 (st := []), sX7_on_26, sX7_on_14, sX7_on_29, sX7_on_44, sX7_on_17, sX7_on_30, sX7_on_45, sX7_on_18, sX7_on_31, sX7_on_47, sX7_on_33, sX7_on_48, sX7_on_34 (st := []), sX7_on_51, sX7_on_62, sX7_on_37, sX7_on_52, sX7_on_63, sX7_on_40, sX7_on_55, sX7_on_66, sX7_on_72, sX7_on_41, sX7_on_57, sX7_on_67, sX7_on_74 (st := []), sX7_on_60, sX7_on_69, sX7_on_61 (st := []), sX7_on_75, sX7_on_76, sX7_on_79, sX7_on_80, sX7_on_83 (st := []), sX7_on_86, sX7_on_87, sX7_on_90, sX7_on_91 (st := []), sX7_on_94, sX7_on_95, sX7_on_98, sX7_on_111, sX7_on_99, sX7_on_113, sX7_on_102, sX7_on_116, sX7_on_129, sX7_on_105, sX7_on_117, sX7_on_130, sX7_on_106, sX7_on_120, sX7_on_133 (st := []), sX7_on_108, sX7_on_123, sX7_on_136 (st := []), sX7_on_109, sX7_on_124, sX7_on_110 (st := []), sX7_on_126, sX7_on_127, sX7_on_128 (st := []), inb, nz_3, nz_4, nz_6, nz_8, nz_10, nz_100, nz_300, pushr_s, pushr_n, rv_s, rv_n, kd_sI, kd_sR, kd_sJ, sz_sI, sz_sR, sz_sJ, aR_sI, aJ_sI, aI_sR, aI_sJ, not_false_eq_true, true_and, and_true, true_or, or_true, or_false, false_or, eq_self, ite_true, ite_false, if_true, if_false, X.k0, X.r0, X.r2, h.lay.1, X.s31.1, q0, q1, l10, l20, s10, w_isPilgrim X h, rp, nz, nz_1, a8, a2.k0, a2.r2, a5.lay.1, a9, a4.k0, a4.r2, hl.1, hl.2.1, hl.2.2.1, hl.2.2.2.1, hl.2.2.2.2.1, hl.2.2.2.2.2.1, hl.2.2.2.2.2.2.1, hl.2.2.2.2.2.2.2.1, hl.2.2.2.2.2.2.2.2.1, hl.2.2.2.2.2.2.2.2.2.1, hl.2.2.2.2.2.2.2.2.2.2.1, hl.2.2.2.2.2.2.2.2.2.2.2.1, hl.2.2.2.2.2.2.2.2.2.2.2.2.1, hl.2.2.2.2.2.2.2.2.2.2.2.2.2.1, hl.2.2.2.2.2.2.2.2.2.2.2.2.2.2.1, hl.2.2.2.2.2.2.2.2.2.2.2.2.2.2.2.1, hl.2.2.2.2.2.2.2.2.2.2.2.2.2.2.2.2.1, hl.2.2.2.2.2.2.2.2.2.2.2.2.2.2.2.2.2.1, hl.2.2.2.2.2.2.2.2.2.2.2.2.2.2.2.2.2.2.1, hl.2.2.2.2.2.2.2.2.2.2.2.2.2.2.2.2.2.2.2.1, hl.2.2.2.2.2.2.2.2.2.2.2.2.2.2.2.2.2.2.2.2.1, hl.2.2.2.2.2.2.2.2.2.2.2.2.2.2.2.2.2.2.2.2.2.1, hl.2.2.2.2.2.2.2.2.2.2.2.2.2.2.2.2.2.2.2.2.2.2.1, hl.2.2.2.2.2.2.2.2.2.2.2.2.2.2.2.2.2.2.2.2.2.2.2.1, hl.2.2.2.2.2.2.2.2.2.2.2.2.2.2.2.2.2.2.2.2.2.2.2.2.1, hl.2.2.2.2.2.2.2.2.2.2.2.2.2.2.2.2.2.2.2.2.2.2.2.2.2.1, hl.2.2.2.2.2.2.2.2.2.2.2.2.2.2.2.2.2.2.2.2.2.2.2.2.2.2.1, hl.2.2.2.2.2.2.2.2.2.2.2.2.2.2.2.2.2.2.2.2.2.2.2.2.2.2.2.1, hl.2.2.2.2.2.2.2.2.2.2.2.2.2.2.2.2.2.2.2.2.2.2.2.2.2.2.2.2.1, hl.2.2.2.2.2.2.2.2.2.2.2.2.2.2.2.2.2.2.2.2.2.2.2.2.2.2.2.2.2.1, hl.2.2.2.2.2.2.2.2.2.2.2.2.2.2.2.2.2.2.2.2.2.2.2.2.2.2.2.2.2.2.1, hl.2.2.2.2.2.2.2.2.2.2.2.2.2.2.2.2.2.2.2.2.2.2.2.2.2.2.2.2.2.2.2.1, hl.2.2.2.2.2.2.2.2.2.2.2.2.2.2.2.2.2.2.2.2.2.2.2.2.2.2.2.2.2.2.2.2.1, hl.2.2.2.2.2.2.2.2.2.2.2.2.2.2.2.2.2.2.2.2.2.2.2.2.2.2.2.2.2.2.2.2.2.1, hl.2.2.2.2.2.2.2.2.2.2.2.2.2.2.2.2.2.2.2.2.2.2.2.2.2.2.2.2.2.2.2.2.2.2.1, hl.2.2.2.2.2.2.2.2.2.2.2.2.2.2.2.2.2.2.2.2.2.2.2.2.2.2.2.2.2.2.2.2.2.2.2.1, hl.2.2.2.2.2.2.2.2.2.2.2.2.2.2.2.2.2.2.2.2.2.2.2.2.2.2.2.2.2.2.2.2.2.2.2.2.1, hl.2.2.2.2.2.2.2.2.2.2.2.2.2.2.2.2.2.2.2.2.2.2.2.2.2.2.2.2.2.2.2.2.2.2.2.2.2.1, hl.2.2.2.2.2.2.2.2.2.2.2.2.2.2.2.2.2.2.2.2.2.2.2.2.2.2.2.2.2.2.2.2.2.2.2.2.2.2.1, hl.2.2.2.2.2.2.2.2.2.2.2.2.2.2.2.2.2.2.2.2.2.2.2.2.2.2.2.2.2.2.2.2.2.2.2.2.2.2.2, pc, p1, e5]
    · obtain ⟨H1, a1, a2, a3, a4⟩ := m_save (S := S) (d := d + 39) g
      obtain ⟨H2, b1, b2, b3⟩ := m_goDays (S := S) (d := d + 32) a1 w (show A.D + n < 20000 by omega)
      have e5 : aI H2 71 p = (daysA n A).M p := b2.eM p (by omega)
      obtain ⟨H3, c1, c2, c3⟩ := m_put (S := S) (d := d + 39) b2 ((U5.refl A).days n) (a2.fr b1)
      refine ⟨H3, c1, (a3.trans (b1.mono (fun o i z => jM_of z))).trans c2, fun Q => ?_⟩
      simp only [sX8_on_0, sX8_on_1, sX8_on_4, sX8_on_40, sX8_on_5, sX8_on_41, sX8_on_6, sX8_on_42 (st := []), sX8_on_8, sX8_on_45, sX8_on_10, sX8_on_48, sX8_on_51, sX8_on_11, sX8_on_50 (st := []), sX8_on_52 (st := []), sX8_on_14, sX8_on_55, sX8_on_15 (st := []), sX8_on_56, sX8_on_18, sX8_on_57 (st := []), sX8_on_21, sX8_on_60, sX8_on_22, sX8_on_61, sX8_on_23, sX8_on_64, sX8_on_71, sX8_on_25, sX8_on_65 (st := []), sX8_on_72, sX8_on_27, sX8_on_68, sX8_on_74, sX8_on_28, sX8_on_98, sX8_on_77, sX8_on_89, sX8_on_31, sX8_on_99, sX8_on_78, sX8_on_90, sX8_on_32 (st := []), sX8_on_100 (st := []), sX8_on_81, sX8_on_93, sX8_on_35, sX8_on_103, sX8_on_82, sX8_on_94, sX8_on_38, sX8_on_104 (st := []), sX8_on_84, sX8_on_96, sX8_on_39 (st := []), sX8_on_85, sX8_on_97, sX8_on_86, inb, nz_3, nz_4, nz_6, nz_8, nz_10, nz_100, nz_300, pushr_s, pushr_n, rv_s, rv_n, kd_sI, kd_sR, kd_sJ, sz_sI, sz_sR, sz_sJ, aR_sI, aJ_sI, aI_sR, aI_sJ, not_false_eq_true, true_and, and_true, true_or, or_true, or_false, false_or, eq_self, ite_true, ite_false, if_true, if_false, mk_67 g.lay, g.nP, n_isDays g.lay, e, nz, u1, i1, ip, nz_1, a4, mk_67 a1.lay, b3, mk_67 b2.lay, mr_8 b2.lay, mk_71 b2.lay, mz_71 b2.lay, mr_9 b2.lay, mk_72 b2.lay, mz_72 b2.lay, g20, s10, pc, p1, e5, c3, mk_67 c1.lay]
  · obtain ⟨p, hp, rfl⟩ := c
    have l10 : ¬ nI (20 + p) < 10 := nI_nlt (b := 10) (by omega) (by omega)
    have l20 : ¬ nI (20 + p) < 20 := nI_nlt (b := 20) (by omega) (by omega)
    have s10 : nI (20 + p) - 10 = nI (10 + p) := by rw [i10, pk_sub (by omega)]; exact congrArg nI (by omega)
    have s20 : nI (20 + p) - 20 = nI p := by rw [i20, pk_sub (by omega)]; exact congrArg nI (by omega)
    have nz : ¬ nI (20 + p) = 0 := nI_ne0 (by omega) (by omega)
    have r0 : rg (nI (10 + p)) (nI A.P) = 0 := by unfold rg; rw [if_neg (nI_pos (by omega)), if_neg (nI_nlt (by omega) (by omega))]
    have rp : rg (nI p) (nI A.P) = 1 := by unfold rg; rw [if_neg (nI_pos (by omega)), if_pos (nI_lt hp (by omega))]
    have ip0 : inS (nI (20 + p)) 10 (nI (9 + A.P)) = 0 := by
      unfold inS; rw [if_neg l10, if_pos (nI_lt (by omega) (by omega))]
    have ip : inS (nI (20 + p)) 20 (nI (19 + A.P)) = 1 := by
      unfold inS; rw [if_neg l20, if_neg (nI_nlt (by omega) (by omega))]
    have pc : (nI p).toNatClampNeg = p := nI_clamp (by omega)
    have p1 : ¬ (nI p < 0 ∨ 5 ≤ p) := inN (by omega) (by omega)
    have g20 : 20 ≤ nI (20 + p) := Int32.not_lt.mp l20
    rcases rg_c a 61 (by decide) with e | ⟨e, n, hn, rfl⟩
    · refine now_same w (.int (-2)) (fun H h X d Q => ?_) (fun H g d Q => ?_)
      · unfold rg at e
        by_cases q : a < 0
        · simp only [sX7_on_0, sX7_on_1, sX7_on_3, sX7_on_6, sX7_on_21, sX7_on_7, sX7_on_22, sX7_on_8, sX7_on_23, sX7_on_10, sX7_on_24, sX7_on_11 (st := []), sX7_on_26, sX7_on_14, sX7_on_29, sX7_on_44, sX7_on_17, sX7_on_30, sX7_on_45, sX7_on_18, sX7_on_31, sX7_on_47, sX7_on_33, sX7_on_48, sX7_on_34 (st := []), sX7_on_51, sX7_on_62, sX7_on_37, sX7_on_52, sX7_on_63, sX7_on_40, sX7_on_55, sX7_on_66, sX7_on_72, sX7_on_41, sX7_on_57, sX7_on_67, sX7_on_74 (st := []), sX7_on_60, sX7_on_69, sX7_on_61 (st := []), sX7_on_75, sX7_on_76, sX7_on_79, sX7_on_80, sX7_on_83 (st := []), sX7_on_86, sX7_on_87, sX7_on_90, sX7_on_91 (st := []), sX7_on_94, sX7_on_95, sX7_on_98, sX7_on_111, sX7_on_99, sX7_on_113, sX7_on_102, sX7_on_116, sX7_on_129, sX7_on_105, sX7_on_117, sX7_on_130, sX7_on_106, sX7_on_120, sX7_on_133 (st := []), sX7_on_108, sX7_on_123, sX7_on_136 (st := []), sX7_on_109, sX7_on_124, sX7_on_110 (st := []), sX7_on_126, sX7_on_127, sX7_on_128 (st := []), inb, nz_3, nz_4, nz_6, nz_8, nz_10, nz_100, nz_300, pushr_s, pushr_n, rv_s, rv_n, kd_sI, kd_sR, kd_sJ, sz_sI, sz_sR, sz_sJ, aR_sI, aJ_sI, aI_sR, aI_sJ, not_false_eq_true, true_and, and_true, true_or, or_true, or_false, false_or, eq_self, ite_true, ite_false, if_true, if_false, X.k0, q, l10, l20, s10, s20, w_isPilgrim X h, r0, rp, nz, nz_1]
        · rw [if_neg q] at e
          have q2 : ¬ a ≤ 60 := fun z => by
            obtain ⟨j, hj, rfl⟩ := nI_of q
            have := (nI_leI (b := 60) hj (by decide)).mp z
            rw [if_pos (nI_lt (b := 61) (by omega) (by decide))] at e
            exact absurd e (by decide)
          simp only [sX7_on_0, sX7_on_1, sX7_on_3, sX7_on_6, sX7_on_21, sX7_on_7, sX7_on_22, sX7_on_8, sX7_on_23, sX7_on_10, sX7_on_24, sX7_on_11 (st := []), sX7_on_26, sX7_on_14, sX7_on_29, sX7_on_44, sX7_on_17, sX7_on_30, sX7_on_45, sX7_on_18, sX7_on_31, sX7_on_47, sX7_on_33, sX7_on_48, sX7_on_34 (st := []), sX7_on_51, sX7_on_62, sX7_on_37, sX7_on_52, sX7_on_63, sX7_on_40, sX7_on_55, sX7_on_66, sX7_on_72, sX7_on_41, sX7_on_57, sX7_on_67, sX7_on_74 (st := []), sX7_on_60, sX7_on_69, sX7_on_61 (st := []), sX7_on_75, sX7_on_76, sX7_on_79, sX7_on_80, sX7_on_83 (st := []), sX7_on_86, sX7_on_87, sX7_on_90, sX7_on_91 (st := []), sX7_on_94, sX7_on_95, sX7_on_98, sX7_on_111, sX7_on_99, sX7_on_113, sX7_on_102, sX7_on_116, sX7_on_129, sX7_on_105, sX7_on_117, sX7_on_130, sX7_on_106, sX7_on_120, sX7_on_133 (st := []), sX7_on_108, sX7_on_123, sX7_on_136 (st := []), sX7_on_109, sX7_on_124, sX7_on_110 (st := []), sX7_on_126, sX7_on_127, sX7_on_128 (st := []), inb, nz_3, nz_4, nz_6, nz_8, nz_10, nz_100, nz_300, pushr_s, pushr_n, rv_s, rv_n, kd_sI, kd_sR, kd_sJ, sz_sI, sz_sR, sz_sJ, aR_sI, aJ_sI, aI_sR, aI_sJ, not_false_eq_true, true_and, and_true, true_or, or_true, or_false, false_or, eq_self, ite_true, ite_false, if_true, if_false, X.k0, q, q2, l10, l20, s10, s20, w_isPilgrim X h, r0, rp, nz, nz_1]
      · simp only [sX8_on_0, sX8_on_1, sX8_on_4, sX8_on_40, sX8_on_5, sX8_on_41, sX8_on_6, sX8_on_42 (st := []), sX8_on_8, sX8_on_45, sX8_on_10, sX8_on_48, sX8_on_51, sX8_on_11, sX8_on_50 (st := []), sX8_on_52 (st := []), sX8_on_14, sX8_on_55, sX8_on_15 (st := []), sX8_on_56, sX8_on_18, sX8_on_57 (st := []), sX8_on_21, sX8_on_60, sX8_on_22, sX8_on_61, sX8_on_23, sX8_on_64, sX8_on_71, sX8_on_25, sX8_on_65 (st := []), sX8_on_72, sX8_on_27, sX8_on_68, sX8_on_74, sX8_on_28, sX8_on_98, sX8_on_77, sX8_on_89, sX8_on_31, sX8_on_99, sX8_on_78, sX8_on_90, sX8_on_32 (st := []), sX8_on_100 (st := []), sX8_on_81, sX8_on_93, sX8_on_35, sX8_on_103, sX8_on_82, sX8_on_94, sX8_on_38, sX8_on_104 (st := []), sX8_on_84, sX8_on_96, sX8_on_39 (st := []), sX8_on_85, sX8_on_97, sX8_on_86, inb, nz_3, nz_4, nz_6, nz_8, nz_10, nz_100, nz_300, pushr_s, pushr_n, rv_s, rv_n, kd_sI, kd_sR, kd_sJ, sz_sI, sz_sR, sz_sJ, aR_sI, aJ_sI, aI_sR, aI_sJ, not_false_eq_true, true_and, and_true, true_or, or_true, or_false, false_or, eq_self, ite_true, ite_false, if_true, if_false, mk_67 g.lay, g.nP, n_isDays g.lay, e, nz, u1, u2, i1, i2, ip0, ip, nz_1]
    have q0 : ¬ nI n < 0 := nI_pos (by omega)
    have q1 : nI n ≤ 60 := nI_le (b := 60) (by omega) (by decide)
    refine ⟨.int ((daysA n A).W p), A, w, rfl, rfl, fun H h X d => ?_, fun H g d => ?_⟩
    · obtain ⟨H1, H2, a1, a2, a3, a4, a5, a6, a7, a8, a9⟩ := c_days (S := S) (d := d + 34) (n := n) X h w (by omega)
      have hl := a6.lay
      have e5 : aI H2 36 p = (daysA n A).W p := a6.eW p (by omega)
      refine ⟨H2, a3, a7, fun Q => ?_⟩
      simp only [sX7_on_0, sX7_on_1, sX7_on_3, sX7_on_6, sX7_on_21, sX7_on_7, sX7_on_22, sX7_on_8, sX7_on_23, sX7_on_10, sX7_on_24, sX7_on_11 (st := []), sX7_on_26, sX7_on_14, sX7_on_29, sX7_on_44, sX7_on_17, sX7_on_30, sX7_on_45, sX7_on_18, sX7_on_31, sX7_on_47, sX7_on_33, sX7_on_48, sX7_on_34 (st := []), sX7_on_51, sX7_on_62, sX7_on_37, sX7_on_52, sX7_on_63, sX7_on_40, sX7_on_55, sX7_on_66, sX7_on_72, sX7_on_41, sX7_on_57, sX7_on_67, sX7_on_74 (st := []), sX7_on_60, sX7_on_69, sX7_on_61 (st := []), sX7_on_75, sX7_on_76, sX7_on_79, sX7_on_80, sX7_on_83 (st := []), sX7_on_86, sX7_on_87, sX7_on_90, sX7_on_91 (st := []), sX7_on_94, sX7_on_95, sX7_on_98, sX7_on_111, sX7_on_99, sX7_on_113, sX7_on_102, sX7_on_116, sX7_on_129, sX7_on_105, sX7_on_117, sX7_on_130, sX7_on_106, sX7_on_120, sX7_on_133 (st := []), sX7_on_108, sX7_on_123, sX7_on_136 (st := []), sX7_on_109, sX7_on_124, sX7_on_110 (st := []), sX7_on_126, sX7_on_127, sX7_on_128 (st := []), inb, nz_3, nz_4, nz_6, nz_8, nz_10, nz_100, nz_300, pushr_s, pushr_n, rv_s, rv_n, kd_sI, kd_sR, kd_sJ, sz_sI, sz_sR, sz_sJ, aR_sI, aJ_sI, aI_sR, aI_sJ, not_false_eq_true, true_and, and_true, true_or, or_true, or_false, false_or, eq_self, ite_true, ite_false, if_true, if_false, X.k0, X.r0, X.r2, h.lay.1, X.s31.1, q0, q1, l10, l20, s10, s20, w_isPilgrim X h, r0, rp, nz, nz_1, a8, a2.k0, a2.r2, a5.lay.1, a9, a4.k0, a4.r2, hl.1, hl.2.1, hl.2.2.1, hl.2.2.2.1, hl.2.2.2.2.1, hl.2.2.2.2.2.1, hl.2.2.2.2.2.2.1, hl.2.2.2.2.2.2.2.1, hl.2.2.2.2.2.2.2.2.1, hl.2.2.2.2.2.2.2.2.2.1, hl.2.2.2.2.2.2.2.2.2.2.1, hl.2.2.2.2.2.2.2.2.2.2.2.1, hl.2.2.2.2.2.2.2.2.2.2.2.2.1, hl.2.2.2.2.2.2.2.2.2.2.2.2.2.1, hl.2.2.2.2.2.2.2.2.2.2.2.2.2.2.1, hl.2.2.2.2.2.2.2.2.2.2.2.2.2.2.2.1, hl.2.2.2.2.2.2.2.2.2.2.2.2.2.2.2.2.1, hl.2.2.2.2.2.2.2.2.2.2.2.2.2.2.2.2.2.1, hl.2.2.2.2.2.2.2.2.2.2.2.2.2.2.2.2.2.2.1, hl.2.2.2.2.2.2.2.2.2.2.2.2.2.2.2.2.2.2.2.1, hl.2.2.2.2.2.2.2.2.2.2.2.2.2.2.2.2.2.2.2.2.1, hl.2.2.2.2.2.2.2.2.2.2.2.2.2.2.2.2.2.2.2.2.2.1, hl.2.2.2.2.2.2.2.2.2.2.2.2.2.2.2.2.2.2.2.2.2.2.1, hl.2.2.2.2.2.2.2.2.2.2.2.2.2.2.2.2.2.2.2.2.2.2.2.1, hl.2.2.2.2.2.2.2.2.2.2.2.2.2.2.2.2.2.2.2.2.2.2.2.2.1, hl.2.2.2.2.2.2.2.2.2.2.2.2.2.2.2.2.2.2.2.2.2.2.2.2.2.1, hl.2.2.2.2.2.2.2.2.2.2.2.2.2.2.2.2.2.2.2.2.2.2.2.2.2.2.1, hl.2.2.2.2.2.2.2.2.2.2.2.2.2.2.2.2.2.2.2.2.2.2.2.2.2.2.2.1, hl.2.2.2.2.2.2.2.2.2.2.2.2.2.2.2.2.2.2.2.2.2.2.2.2.2.2.2.2.1, hl.2.2.2.2.2.2.2.2.2.2.2.2.2.2.2.2.2.2.2.2.2.2.2.2.2.2.2.2.2.1, hl.2.2.2.2.2.2.2.2.2.2.2.2.2.2.2.2.2.2.2.2.2.2.2.2.2.2.2.2.2.2.1, hl.2.2.2.2.2.2.2.2.2.2.2.2.2.2.2.2.2.2.2.2.2.2.2.2.2.2.2.2.2.2.2.1, hl.2.2.2.2.2.2.2.2.2.2.2.2.2.2.2.2.2.2.2.2.2.2.2.2.2.2.2.2.2.2.2.2.1, hl.2.2.2.2.2.2.2.2.2.2.2.2.2.2.2.2.2.2.2.2.2.2.2.2.2.2.2.2.2.2.2.2.2.1, hl.2.2.2.2.2.2.2.2.2.2.2.2.2.2.2.2.2.2.2.2.2.2.2.2.2.2.2.2.2.2.2.2.2.2.1, hl.2.2.2.2.2.2.2.2.2.2.2.2.2.2.2.2.2.2.2.2.2.2.2.2.2.2.2.2.2.2.2.2.2.2.2.1, hl.2.2.2.2.2.2.2.2.2.2.2.2.2.2.2.2.2.2.2.2.2.2.2.2.2.2.2.2.2.2.2.2.2.2.2.2.1, hl.2.2.2.2.2.2.2.2.2.2.2.2.2.2.2.2.2.2.2.2.2.2.2.2.2.2.2.2.2.2.2.2.2.2.2.2.2.1, hl.2.2.2.2.2.2.2.2.2.2.2.2.2.2.2.2.2.2.2.2.2.2.2.2.2.2.2.2.2.2.2.2.2.2.2.2.2.2.1, hl.2.2.2.2.2.2.2.2.2.2.2.2.2.2.2.2.2.2.2.2.2.2.2.2.2.2.2.2.2.2.2.2.2.2.2.2.2.2.2, pc, p1, e5]
    · obtain ⟨H1, a1, a2, a3, a4⟩ := m_save (S := S) (d := d + 39) g
      obtain ⟨H2, b1, b2, b3⟩ := m_goDays (S := S) (d := d + 32) a1 w (show A.D + n < 20000 by omega)
      have e5 : aI H2 72 p = (daysA n A).W p := b2.eW p (by omega)
      obtain ⟨H3, c1, c2, c3⟩ := m_put (S := S) (d := d + 39) b2 ((U5.refl A).days n) (a2.fr b1)
      refine ⟨H3, c1, (a3.trans (b1.mono (fun o i z => jM_of z))).trans c2, fun Q => ?_⟩
      simp only [sX8_on_0, sX8_on_1, sX8_on_4, sX8_on_40, sX8_on_5, sX8_on_41, sX8_on_6, sX8_on_42 (st := []), sX8_on_8, sX8_on_45, sX8_on_10, sX8_on_48, sX8_on_51, sX8_on_11, sX8_on_50 (st := []), sX8_on_52 (st := []), sX8_on_14, sX8_on_55, sX8_on_15 (st := []), sX8_on_56, sX8_on_18, sX8_on_57 (st := []), sX8_on_21, sX8_on_60, sX8_on_22, sX8_on_61, sX8_on_23, sX8_on_64, sX8_on_71, sX8_on_25, sX8_on_65 (st := []), sX8_on_72, sX8_on_27, sX8_on_68, sX8_on_74, sX8_on_28, sX8_on_98, sX8_on_77, sX8_on_89, sX8_on_31, sX8_on_99, sX8_on_78, sX8_on_90, sX8_on_32 (st := []), sX8_on_100 (st := []), sX8_on_81, sX8_on_93, sX8_on_35, sX8_on_103, sX8_on_82, sX8_on_94, sX8_on_38, sX8_on_104 (st := []), sX8_on_84, sX8_on_96, sX8_on_39 (st := []), sX8_on_85, sX8_on_97, sX8_on_86, inb, nz_3, nz_4, nz_6, nz_8, nz_10, nz_100, nz_300, pushr_s, pushr_n, rv_s, rv_n, kd_sI, kd_sR, kd_sJ, sz_sI, sz_sR, sz_sJ, aR_sI, aJ_sI, aI_sR, aI_sJ, not_false_eq_true, true_and, and_true, true_or, or_true, or_false, false_or, eq_self, ite_true, ite_false, if_true, if_false, mk_67 g.lay, g.nP, n_isDays g.lay, e, nz, u1, u2, i1, i2, ip0, ip, nz_1, a4, mk_67 a1.lay, b3, mk_67 b2.lay, mr_8 b2.lay, mk_71 b2.lay, mz_71 b2.lay, mr_9 b2.lay, mk_72 b2.lay, mz_72 b2.lay, g20, s20, pc, p1, e5, c3, mk_67 c1.lay]
  · obtain ⟨c0, c1, c2, c3, c4⟩ := c
    refine now_same w (.int (-1)) (fun H h X d Q => ?_) (fun H g d Q => ?_)
    · rcases c1 with c1 | ⟨c1, c1'⟩
      · rcases c2 with c2 | ⟨c2, c2'⟩
        · simp only [sX7_on_0, sX7_on_1, sX7_on_3, sX7_on_6, sX7_on_21, sX7_on_7, sX7_on_22, sX7_on_8, sX7_on_23, sX7_on_10, sX7_on_24, sX7_on_11 (st := []), sX7_on_26, sX7_on_14, sX7_on_29, sX7_on_44, sX7_on_17, sX7_on_30, sX7_on_45, sX7_on_18, sX7_on_31, sX7_on_47, sX7_on_33, sX7_on_48, sX7_on_34 (st := []), sX7_on_51, sX7_on_62, sX7_on_37, sX7_on_52, sX7_on_63, sX7_on_40, sX7_on_55, sX7_on_66, sX7_on_72, sX7_on_41, sX7_on_57, sX7_on_67, sX7_on_74 (st := []), sX7_on_60, sX7_on_69, sX7_on_61 (st := []), sX7_on_75, sX7_on_76, sX7_on_79, sX7_on_80, sX7_on_83 (st := []), sX7_on_86, sX7_on_87, sX7_on_90, sX7_on_91 (st := []), sX7_on_94, sX7_on_95, sX7_on_98, sX7_on_111, sX7_on_99, sX7_on_113, sX7_on_102, sX7_on_116, sX7_on_129, sX7_on_105, sX7_on_117, sX7_on_130, sX7_on_106, sX7_on_120, sX7_on_133 (st := []), sX7_on_108, sX7_on_123, sX7_on_136 (st := []), sX7_on_109, sX7_on_124, sX7_on_110 (st := []), sX7_on_126, sX7_on_127, sX7_on_128 (st := []), inb, nz_3, nz_4, nz_6, nz_8, nz_10, nz_100, nz_300, pushr_s, pushr_n, rv_s, rv_n, kd_sI, kd_sR, kd_sJ, sz_sI, sz_sR, sz_sJ, aR_sI, aJ_sI, aI_sR, aI_sJ, not_false_eq_true, true_and, and_true, true_or, or_true, or_false, false_or, eq_self, ite_true, ite_false, if_true, if_false, X.k0, c0, c1, c2]
        · simp only [sX7_on_0, sX7_on_1, sX7_on_3, sX7_on_6, sX7_on_21, sX7_on_7, sX7_on_22, sX7_on_8, sX7_on_23, sX7_on_10, sX7_on_24, sX7_on_11 (st := []), sX7_on_26, sX7_on_14, sX7_on_29, sX7_on_44, sX7_on_17, sX7_on_30, sX7_on_45, sX7_on_18, sX7_on_31, sX7_on_47, sX7_on_33, sX7_on_48, sX7_on_34 (st := []), sX7_on_51, sX7_on_62, sX7_on_37, sX7_on_52, sX7_on_63, sX7_on_40, sX7_on_55, sX7_on_66, sX7_on_72, sX7_on_41, sX7_on_57, sX7_on_67, sX7_on_74 (st := []), sX7_on_60, sX7_on_69, sX7_on_61 (st := []), sX7_on_75, sX7_on_76, sX7_on_79, sX7_on_80, sX7_on_83 (st := []), sX7_on_86, sX7_on_87, sX7_on_90, sX7_on_91 (st := []), sX7_on_94, sX7_on_95, sX7_on_98, sX7_on_111, sX7_on_99, sX7_on_113, sX7_on_102, sX7_on_116, sX7_on_129, sX7_on_105, sX7_on_117, sX7_on_130, sX7_on_106, sX7_on_120, sX7_on_133 (st := []), sX7_on_108, sX7_on_123, sX7_on_136 (st := []), sX7_on_109, sX7_on_124, sX7_on_110 (st := []), sX7_on_126, sX7_on_127, sX7_on_128 (st := []), inb, nz_3, nz_4, nz_6, nz_8, nz_10, nz_100, nz_300, pushr_s, pushr_n, rv_s, rv_n, kd_sI, kd_sR, kd_sJ, sz_sI, sz_sR, sz_sJ, aR_sI, aJ_sI, aI_sR, aI_sJ, not_false_eq_true, true_and, and_true, true_or, or_true, or_false, false_or, eq_self, ite_true, ite_false, if_true, if_false, X.k0, c0, c1, c2, w_isPilgrim X h, c2']
      · rcases c2 with c2 | ⟨c2, c2'⟩
        · simp only [sX7_on_0, sX7_on_1, sX7_on_3, sX7_on_6, sX7_on_21, sX7_on_7, sX7_on_22, sX7_on_8, sX7_on_23, sX7_on_10, sX7_on_24, sX7_on_11 (st := []), sX7_on_26, sX7_on_14, sX7_on_29, sX7_on_44, sX7_on_17, sX7_on_30, sX7_on_45, sX7_on_18, sX7_on_31, sX7_on_47, sX7_on_33, sX7_on_48, sX7_on_34 (st := []), sX7_on_51, sX7_on_62, sX7_on_37, sX7_on_52, sX7_on_63, sX7_on_40, sX7_on_55, sX7_on_66, sX7_on_72, sX7_on_41, sX7_on_57, sX7_on_67, sX7_on_74 (st := []), sX7_on_60, sX7_on_69, sX7_on_61 (st := []), sX7_on_75, sX7_on_76, sX7_on_79, sX7_on_80, sX7_on_83 (st := []), sX7_on_86, sX7_on_87, sX7_on_90, sX7_on_91 (st := []), sX7_on_94, sX7_on_95, sX7_on_98, sX7_on_111, sX7_on_99, sX7_on_113, sX7_on_102, sX7_on_116, sX7_on_129, sX7_on_105, sX7_on_117, sX7_on_130, sX7_on_106, sX7_on_120, sX7_on_133 (st := []), sX7_on_108, sX7_on_123, sX7_on_136 (st := []), sX7_on_109, sX7_on_124, sX7_on_110 (st := []), sX7_on_126, sX7_on_127, sX7_on_128 (st := []), inb, nz_3, nz_4, nz_6, nz_8, nz_10, nz_100, nz_300, pushr_s, pushr_n, rv_s, rv_n, kd_sI, kd_sR, kd_sJ, sz_sI, sz_sR, sz_sJ, aR_sI, aJ_sI, aI_sR, aI_sJ, not_false_eq_true, true_and, and_true, true_or, or_true, or_false, false_or, eq_self, ite_true, ite_false, if_true, if_false, X.k0, c0, c1, c1', c2, w_isPilgrim X h]
        · simp only [sX7_on_0, sX7_on_1, sX7_on_3, sX7_on_6, sX7_on_21, sX7_on_7, sX7_on_22, sX7_on_8, sX7_on_23, sX7_on_10, sX7_on_24, sX7_on_11 (st := []), sX7_on_26, sX7_on_14, sX7_on_29, sX7_on_44, sX7_on_17, sX7_on_30, sX7_on_45, sX7_on_18, sX7_on_31, sX7_on_47, sX7_on_33, sX7_on_48, sX7_on_34 (st := []), sX7_on_51, sX7_on_62, sX7_on_37, sX7_on_52, sX7_on_63, sX7_on_40, sX7_on_55, sX7_on_66, sX7_on_72, sX7_on_41, sX7_on_57, sX7_on_67, sX7_on_74 (st := []), sX7_on_60, sX7_on_69, sX7_on_61 (st := []), sX7_on_75, sX7_on_76, sX7_on_79, sX7_on_80, sX7_on_83 (st := []), sX7_on_86, sX7_on_87, sX7_on_90, sX7_on_91 (st := []), sX7_on_94, sX7_on_95, sX7_on_98, sX7_on_111, sX7_on_99, sX7_on_113, sX7_on_102, sX7_on_116, sX7_on_129, sX7_on_105, sX7_on_117, sX7_on_130, sX7_on_106, sX7_on_120, sX7_on_133 (st := []), sX7_on_108, sX7_on_123, sX7_on_136 (st := []), sX7_on_109, sX7_on_124, sX7_on_110 (st := []), sX7_on_126, sX7_on_127, sX7_on_128 (st := []), inb, nz_3, nz_4, nz_6, nz_8, nz_10, nz_100, nz_300, pushr_s, pushr_n, rv_s, rv_n, kd_sI, kd_sR, kd_sJ, sz_sI, sz_sR, sz_sJ, aR_sI, aJ_sI, aI_sR, aI_sJ, not_false_eq_true, true_and, and_true, true_or, or_true, or_false, false_or, eq_self, ite_true, ite_false, if_true, if_false, X.k0, c0, c1, c1', c2, w_isPilgrim X h, c2']
    · simp only [sX8_on_0, sX8_on_1, sX8_on_4, sX8_on_40, sX8_on_5, sX8_on_41, sX8_on_6, sX8_on_42 (st := []), sX8_on_8, sX8_on_45, sX8_on_10, sX8_on_48, sX8_on_51, sX8_on_11, sX8_on_50 (st := []), sX8_on_52 (st := []), sX8_on_14, sX8_on_55, sX8_on_15 (st := []), sX8_on_56, sX8_on_18, sX8_on_57 (st := []), sX8_on_21, sX8_on_60, sX8_on_22, sX8_on_61, sX8_on_23, sX8_on_64, sX8_on_71, sX8_on_25, sX8_on_65 (st := []), sX8_on_72, sX8_on_27, sX8_on_68, sX8_on_74, sX8_on_28, sX8_on_98, sX8_on_77, sX8_on_89, sX8_on_31, sX8_on_99, sX8_on_78, sX8_on_90, sX8_on_32 (st := []), sX8_on_100 (st := []), sX8_on_81, sX8_on_93, sX8_on_35, sX8_on_103, sX8_on_82, sX8_on_94, sX8_on_38, sX8_on_104 (st := []), sX8_on_84, sX8_on_96, sX8_on_39 (st := []), sX8_on_85, sX8_on_97, sX8_on_86, inb, nz_3, nz_4, nz_6, nz_8, nz_10, nz_100, nz_300, pushr_s, pushr_n, rv_s, rv_n, kd_sI, kd_sR, kd_sJ, sz_sI, sz_sR, sz_sJ, aR_sI, aJ_sI, aI_sR, aI_sJ, not_false_eq_true, true_and, and_true, true_or, or_true, or_false, false_or, eq_self, ite_true, ite_false, if_true, if_false, mk_67 g.lay, g.nP, c0, u1, u2, i1, i2, c3, c4]
end TRIAL
