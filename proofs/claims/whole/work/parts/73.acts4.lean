-- 73: call: act
def XS.ac (X : XS) (n : Nat) (b : Nat → Int32) : XS := (X.hI, X.I, X.nw, X.tn, X.tx, n, b, X.ts, X.tl, X.ti)
theorem CoR.act {H H' : AH} {X : XS} (r : CoR H X) (f : Fr (fun o _ => o = 52 ∨ o = 53) H H') {n : Nat} {b : Nat → Int32} (h1 : aI H' 52 1 = nI n) (h2 : ∀ i, i < n → i < 20 → aI H' 53 i = b i) : CoR H' (X.ac n b) :=
  ⟨(f.I _ _ (by omega)).trans r.hi, fun z => (r.im z).fr f (fun o i z => by omega), (f.I _ _ (by omega)).trans r.nw, (f.I _ _ (by omega)).trans r.tn, fun i hi => (f.I _ _ (by omega)).trans (r.tx i hi), h1, h2, fun j hj => (f.I _ _ (by omega)).trans (r.ts j hj), fun j hj => (f.I _ _ (by omega)).trans (r.tl j hj), fun j hj i hi => (f.Jq _ _ (by omega)).trans (r.ti j hj i hi), f.anq.trans r.an⟩
theorem RfR.act {H H' : AH} {L : List Cla} {X : XS} (s : RfR H L X) (f : Fr (fun o i => (o = 67 ∧ i = 66) ∨ o = 105) H H') {n : Nat} {b : Nat → Int32} (h1 : aI H' 67 66 = nI n) (h2 : ∀ i, i < n → i < 20 → aI H' 105 i = b i) : RfR H' L (X.ac n b) := by
  obtain ⟨Z, z1, z2, z3⟩ := s.sl
  obtain ⟨k0, o0, k1, k2⟩ := s.ko
  have e11 := f.I 67 11 (by omega)
  have e46 := f.I 67 46 (by omega)
  exact ⟨(f.I _ _ (by omega)).trans s.hi, fun z => (s.im z).fr f (fun o i z => by omega), (f.I _ _ (by omega)).trans s.nw, ⟨Z, fun q hq => (z1 q hq).fr f (fun o i z => by omega), by rw [e11]; exact z2, fun z => by rw [e46]; exact z3 z⟩, (f.I _ _ (by omega)).trans s.tn, fun i hi => (f.I _ _ (by omega)).trans (s.tx i hi), ⟨k0, o0, (f.I _ _ (by omega)).trans k1, (f.I _ _ (by omega)).trans k2⟩, h1, h2, fun j hj => (f.I _ _ (by omega)).trans (s.ts j hj), fun j hj => (f.I _ _ (by omega)).trans (s.tl j hj), fun j hj i hi => (f.Jq _ _ (by omega)).trans (s.ti j hj i hi), fun i hi => (f.I _ _ (by omega)).trans (s.le i hi)⟩
theorem WfX.act {X : XS} (w : WfX X) {n : Nat} {b : Nat → Int32} (h : n ≤ 20) : WfX (X.ac n b) := ⟨w.hI, w.I, w.nw, w.tn, w.tx, h, w.ts⟩
theorem Fr.aS (H : AH) (s : TrS) : Fr (fun o _ => o = 52 ∨ o = 53) H (aS H s) :=
  ⟨rfl, fun o i h => by
    have h1 : ¬ o = 52 := fun z => h (Or.inl z)
    have h2 : ¬ o = 53 := fun z => h (Or.inr z)
    rw [aI_aS, if_neg h1, if_neg h2], fun _ _ _ => rfl, fun _ _ _ => rfl⟩
theorem Fr.bS (H : AH) (s : TrS) : Fr (fun o i => (o = 67 ∧ i = 66) ∨ o = 105) H (bS H s) :=
  ⟨rfl, fun o i h => by
    have h2 : ¬ o = 105 := fun z => h (Or.inr z)
    rw [aI_bS, if_neg h2]
    by_cases q : o = 67
    · have q2 : ¬ i = 66 := fun z => h (Or.inl ⟨q, z⟩)
      rw [if_pos q, if_neg q2, q]
    · rw [if_neg q], fun _ _ _ => rfl, fun _ _ _ => rfl⟩
section CALLS
variable {S : SC} {A : AS} {X : XS}
theorem k_act (w : Wf A) (wx : WfX X) (a b x : Int32) : Rest S A X 102 211 [.ref 0, .int a, .int b, .int x] [.ref 67, .int a, .int b, .int x] := by
  have hN := w.hN
  have low : (rg a (nI A.N) = 0 ∨ rg b (nI 3) = 0) → Rest S A X 102 211 [.ref 0, .int a, .int b, .int x] [.ref 67, .int a, .int b, .int x] := by
    intro e
    refine ⟨.int 0, X.ac 0 X.rb, wx.act (by omega), fun H h l r d => ?_, fun H g s d => ?_⟩
    · have f0 : ∀ d Q, Wp S d 1 0 [.ref 52] [] H Q = Q none (aS H (0, aI H 53)) := fun d Q => by
        simp only [sX0_forget_0, sX0_forget_1, sX0_forget_2, sX0_forget_5 (st := []), inb, nz_3, nz_4, nz_6, nz_8, nz_10, nz_100, nz_300, pushr_s, pushr_n, rv_s, rv_n, kd_sI, kd_sR, kd_sJ, sz_sI, sz_sR, sz_sJ, aR_sI, aJ_sI, aI_sR, aI_sJ, not_false_eq_true, true_and, and_true, true_or, or_true, or_false, false_or, eq_self, ite_true, ite_false, if_true, if_false, l.k52, aS_0]
      refine ⟨aS H (0, aI H 53), r.act (Fr.aS H _) rfl (fun i hi => absurd hi (by omega)), (Fr.aS H _).mono (fun o i z => by unfold jRC; omega), fun Q => ?_⟩
      have l2 : CoL (aS H (0, aI H 53)) := l.fr (Fr.aS H _)
      have h2 : StA (aS H (0, aI H 53)) 1 A := h.fr (Fr.aS H _) (fun o i z => ⟨fun _ _ => by omega, by omega⟩)
      rcases e with e | e
      · simp only [sX7_act_0, sX7_act_1, sX7_act_4 (st := []), sX7_act_7, sX7_act_8, sX7_act_9 (st := []), sX7_act_12, sX7_act_15, sX7_act_24, sX7_act_16, sX7_act_25 (st := []), sX7_act_19, sX7_act_20, sX7_act_21, sX7_act_26, sX7_act_27, sX7_act_30, sX7_act_31, sX7_act_32, sX7_act_35, sX7_act_38, sX7_act_39, sX7_act_40, sX7_act_41, sX7_act_44, sX7_act_47, sX7_act_48, sX7_act_49, sX7_act_50, sX7_act_51 (st := []), sX7_act_54 (st := []), inb, nz_3, nz_4, nz_6, nz_8, nz_10, nz_100, nz_300, pushr_s, pushr_n, rv_s, rv_n, kd_sI, kd_sR, kd_sJ, sz_sI, sz_sR, sz_sJ, aR_sI, aJ_sI, aI_sR, aI_sJ, not_false_eq_true, true_and, and_true, true_or, or_true, or_false, false_or, eq_self, ite_true, ite_false, if_true, if_false, l.k0, l.r7, l.k52, kd_aS, f0, w_isMaid l2 h2, e]
      · have e := e
        unfold rg at e
        rcases rg01 a (nI A.N) with p | p
        · simp only [sX7_act_0, sX7_act_1, sX7_act_4 (st := []), sX7_act_7, sX7_act_8, sX7_act_9 (st := []), sX7_act_12, sX7_act_15, sX7_act_24, sX7_act_16, sX7_act_25 (st := []), sX7_act_19, sX7_act_20, sX7_act_21, sX7_act_26, sX7_act_27, sX7_act_30, sX7_act_31, sX7_act_32, sX7_act_35, sX7_act_38, sX7_act_39, sX7_act_40, sX7_act_41, sX7_act_44, sX7_act_47, sX7_act_48, sX7_act_49, sX7_act_50, sX7_act_51 (st := []), sX7_act_54 (st := []), inb, nz_3, nz_4, nz_6, nz_8, nz_10, nz_100, nz_300, pushr_s, pushr_n, rv_s, rv_n, kd_sI, kd_sR, kd_sJ, sz_sI, sz_sR, sz_sJ, aR_sI, aJ_sI, aI_sR, aI_sJ, not_false_eq_true, true_and, and_true, true_or, or_true, or_false, false_or, eq_self, ite_true, ite_false, if_true, if_false, l.k0, l.r7, l.k52, kd_aS, f0, w_isMaid l2 h2, p]
        · by_cases q : b < 0
          · simp only [sX7_act_0, sX7_act_1, sX7_act_4 (st := []), sX7_act_7, sX7_act_8, sX7_act_9 (st := []), sX7_act_12, sX7_act_15, sX7_act_24, sX7_act_16, sX7_act_25 (st := []), sX7_act_19, sX7_act_20, sX7_act_21, sX7_act_26, sX7_act_27, sX7_act_30, sX7_act_31, sX7_act_32, sX7_act_35, sX7_act_38, sX7_act_39, sX7_act_40, sX7_act_41, sX7_act_44, sX7_act_47, sX7_act_48, sX7_act_49, sX7_act_50, sX7_act_51 (st := []), sX7_act_54 (st := []), inb, nz_3, nz_4, nz_6, nz_8, nz_10, nz_100, nz_300, pushr_s, pushr_n, rv_s, rv_n, kd_sI, kd_sR, kd_sJ, sz_sI, sz_sR, sz_sJ, aR_sI, aJ_sI, aI_sR, aI_sJ, not_false_eq_true, true_and, and_true, true_or, or_true, or_false, false_or, eq_self, ite_true, ite_false, if_true, if_false, l.k0, l.r7, l.k52, kd_aS, f0, w_isMaid l2 h2, p, nz_1, q]
          · rw [if_neg q] at e
            have q2 : ¬ b < 3 := fun z => by rw [if_pos (show b < nI 3 from z)] at e; exact absurd e (by decide)
            have q3 : ¬ b ≤ 2 := fun z => q2 (Int32.lt_of_le_of_lt z (by decide +kernel))
            simp only [sX7_act_0, sX7_act_1, sX7_act_4 (st := []), sX7_act_7, sX7_act_8, sX7_act_9 (st := []), sX7_act_12, sX7_act_15, sX7_act_24, sX7_act_16, sX7_act_25 (st := []), sX7_act_19, sX7_act_20, sX7_act_21, sX7_act_26, sX7_act_27, sX7_act_30, sX7_act_31, sX7_act_32, sX7_act_35, sX7_act_38, sX7_act_39, sX7_act_40, sX7_act_41, sX7_act_44, sX7_act_47, sX7_act_48, sX7_act_49, sX7_act_50, sX7_act_51 (st := []), sX7_act_54 (st := []), inb, nz_3, nz_4, nz_6, nz_8, nz_10, nz_100, nz_300, pushr_s, pushr_n, rv_s, rv_n, kd_sI, kd_sR, kd_sJ, sz_sI, sz_sR, sz_sJ, aR_sI, aJ_sI, aI_sR, aI_sJ, not_false_eq_true, true_and, and_true, true_or, or_true, or_false, false_or, eq_self, ite_true, ite_false, if_true, if_false, l.k0, l.r7, l.k52, kd_aS, f0, w_isMaid l2 h2, p, nz_1, q, q3]
    · have fr := Fr.bS H (0, aI H 105)
      have g2 : MoA (bS H (0, aI H 105)) A := g.fr fr (fun o i z h1 h2 => by omega)
      have hi2 : ∀ d Q, Wp S d 123 0 [.ref 67, .int b, .int 0, .int 2] [] (bS H (0, aI H 105)) Q = Q (some (.int (rg b (nI 3)))) (bS H (0, aI H 105)) := fun d Q => by
        rw [m_in, inS_k 3 (by decide) (by decide +kernel)]
      refine ⟨bS H (0, aI H 105), s.act fr rfl (fun i hi => absurd hi (by omega)), fr.mono (fun o i z => by unfold jRM; omega), fun Q => ?_⟩
      rcases rg01 a (nI A.N) with p | p
      · simp only [sX8_act_0, sX8_act_1, sX8_act_2, sX8_act_5, sX8_act_6, sX8_act_7 (st := []), sX8_act_10, sX8_act_13, sX8_act_23, sX8_act_14, sX8_act_24 (st := []), sX8_act_15, sX8_act_16, sX8_act_17 (st := []), sX8_act_20, sX8_act_25, sX8_act_26, sX8_act_29, sX8_act_38, sX8_act_30, sX8_act_39, sX8_act_31, sX8_act_40, sX8_act_32 (st := []), sX8_act_43, sX8_act_52, sX8_act_35, sX8_act_44, sX8_act_53, sX8_act_58 (st := []), sX8_act_45, sX8_act_54, sX8_act_46 (st := []), sX8_act_55 (st := []), sX8_act_49, inb, nz_3, nz_4, nz_6, nz_8, nz_10, nz_100, nz_300, pushr_s, pushr_n, rv_s, rv_n, kd_sI, kd_sR, kd_sJ, sz_sI, sz_sR, sz_sJ, aR_sI, aJ_sI, aI_sR, aI_sJ, not_false_eq_true, true_and, and_true, true_or, or_true, or_false, false_or, eq_self, ite_true, ite_false, if_true, if_false, mk_67 g.lay, bS_0, kd_bS, n_isMaid w g2, p]
      · rcases e with e | e
        · rw [p] at e; exact absurd e (by decide)
        · simp only [sX8_act_0, sX8_act_1, sX8_act_2, sX8_act_5, sX8_act_6, sX8_act_7 (st := []), sX8_act_10, sX8_act_13, sX8_act_23, sX8_act_14, sX8_act_24 (st := []), sX8_act_15, sX8_act_16, sX8_act_17 (st := []), sX8_act_20, sX8_act_25, sX8_act_26, sX8_act_29, sX8_act_38, sX8_act_30, sX8_act_39, sX8_act_31, sX8_act_40, sX8_act_32 (st := []), sX8_act_43, sX8_act_52, sX8_act_35, sX8_act_44, sX8_act_53, sX8_act_58 (st := []), sX8_act_45, sX8_act_54, sX8_act_46 (st := []), sX8_act_55 (st := []), sX8_act_49, inb, nz_3, nz_4, nz_6, nz_8, nz_10, nz_100, nz_300, pushr_s, pushr_n, rv_s, rv_n, kd_sI, kd_sR, kd_sJ, sz_sI, sz_sR, sz_sJ, aR_sI, aJ_sI, aI_sR, aI_sJ, not_false_eq_true, true_and, and_true, true_or, or_true, or_false, false_or, eq_self, ite_true, ite_false, if_true, if_false, mk_67 g.lay, bS_0, kd_bS, n_isMaid w g2, p, nz_1, hi2, e]
  rcases rg_c a A.N (by omega) with e | ⟨e, l0, hl, rfl⟩
  · exact low (Or.inl e)
  rcases rg_c b 3 (by decide) with e2 | ⟨e2, b0, hb, rfl⟩
  · exact low (Or.inr e2)
  obtain ⟨k0, k7, ek⟩ := w.hK l0 hl
  have lc : (nI l0).toNatClampNeg = l0 := nI_clamp (by omega)
  have l1 : ¬ (nI l0 < 0 ∨ 6 ≤ l0) := inN (by omega) (by omega)
  refine ⟨.int (acM (nI l0) (A.V l0) k0 b0 x (0, fun _ => 0)).1, X.ac (acM (nI l0) (A.V l0) k0 b0 x (0, fun _ => 0)).2.1 (acM (nI l0) (A.V l0) k0 b0 x (0, fun _ => 0)).2.2, wx.act (ac_n _ _ _ _ _ (by omega) _ hb), fun H h l r d => ?_, fun H g s d => ?_⟩
  · have st := h.lay
    have eK : aI H 2 l0 = nI k0 := (h.eK l0 (by omega)).trans ek
    have eV : aI H 3 l0 = A.V l0 := h.eV l0 (by omega)
    have f0 : ∀ d Q, Wp S d 1 0 [.ref 52] [] H Q = Q none (aS H (0, aI H 53)) := fun d Q => by
      simp only [sX0_forget_0, sX0_forget_1, sX0_forget_2, sX0_forget_5 (st := []), inb, nz_3, nz_4, nz_6, nz_8, nz_10, nz_100, nz_300, pushr_s, pushr_n, rv_s, rv_n, kd_sI, kd_sR, kd_sJ, sz_sI, sz_sR, sz_sJ, aR_sI, aJ_sI, aI_sR, aI_sJ, not_false_eq_true, true_and, and_true, true_or, or_true, or_false, false_or, eq_self, ite_true, ite_false, if_true, if_false, l.k52, aS_0]
    have l2 : CoL (aS H (0, aI H 53)) := l.fr (Fr.aS H _)
    have h2 : StA (aS H (0, aI H 53)) 1 A := h.fr (Fr.aS H _) (fun o i z => ⟨fun _ _ => by omega, by omega⟩)
    have x2 : aI (aS H (0, aI H 53)) 2 l0 = nI k0 := eK
    have x3 : aI (aS H (0, aI H 53)) 3 l0 = A.V l0 := eV
    obtain ⟨a1, a2, a3⟩ := ac_ag (nI l0) (A.V l0) k0 b0 x (s := (0, aI H 53)) (t := (0, fun _ => 0)) ⟨rfl, fun j hj => absurd hj (by show ¬ j < 0; omega)⟩
    have hr := rn_ac (nI l0) (A.V l0) x (0, aI H 53) k0 (by omega) b0 hb
    generalize hp : acM (nI l0) (A.V l0) k0 b0 x (0, aI H 53) = p at a1 a2 a3 hr
    have frH : Fr (fun o _ => o = 52 ∨ o = 53) H (sI (sI (sI H 52 2 (nI l0)) 52 3 (nI k0)) 52 4 (A.V l0)) := ((Fr.wI _ (Or.inl rfl)).trans (Fr.wI _ (Or.inl rfl))).trans (Fr.wI _ (Or.inl rfl))
    have g2 : aI (sI (sI (sI H 52 2 (nI l0)) 52 3 (nI k0)) 52 4 (A.V l0)) 52 2 = nI l0 := by simp only [gI, show ((2 : Nat) = 3) = False from eq_false (by decide), show ((2 : Nat) = 4) = False from eq_false (by decide), and_false, if_false, and_self, if_true]
    have g3 : aI (sI (sI (sI H 52 2 (nI l0)) 52 3 (nI k0)) 52 4 (A.V l0)) 52 3 = nI k0 := by simp only [gI, show ((3 : Nat) = 4) = False from eq_false (by decide), and_false, if_false, and_self, if_true]
    have g4 : aI (sI (sI (sI H 52 2 (nI l0)) 52 3 (nI k0)) 52 4 (A.V l0)) 52 4 = A.V l0 := by simp only [gI, and_self, if_true]
    generalize hH : sI (sI (sI H 52 2 (nI l0)) 52 3 (nI k0)) 52 4 (A.V l0) = H3 at frH g2 g3 g4
    have l3 := l.fr frH
    have hw := fun Q => w_run (S := S) (d := d + 20) l3 g3 (by omega) 9 0 0 (by decide) (by decide) k0 b0 x (0, aI H 53) p (by omega) hb (by rw [g2, g4]; exact hr) (Nat.le_refl _) Q
    have hf : Fr (fun o _ => o = 52 ∨ o = 53) H (aS H3 p.2) := frH.trans (Fr.aS H3 _)
    have hw : ∀ Q, Wp S (d + 38) 4 0 [.ref 52, .int (nI k0), .int (nI b0), .int x, .int 0, hole, hole] [] (aS H3 (0, aI H 53)) Q = Q (some (.int p.1)) (aS H3 p.2) := hw
    refine ⟨aS H3 p.2, r.act hf (by rw [← a2]; rfl) (fun i hi h20 => ?_), hf.mono (fun o i z => by unfold jRC; omega), fun Q => ?_⟩
    · exact a3 i (by rw [a2]; exact hi) h20
    · have b0c : ¬ nI b0 < 0 := nI_pos (by omega)
      have b1c : nI b0 ≤ 2 := nI_le (a := b0) (b := 2) (by omega) (by decide)
      have n2 : (2 : Nat) ≠ 1 := by decide
      have n3 : (3 : Nat) ≠ 1 := by decide
      have n4 : (4 : Nat) ≠ 1 := by decide
      simp only [sX7_act_0, sX7_act_1, sX7_act_4 (st := []), sX7_act_7, sX7_act_8, sX7_act_9 (st := []), sX7_act_12, sX7_act_15, sX7_act_24, sX7_act_16, sX7_act_25 (st := []), sX7_act_19, sX7_act_20, sX7_act_21, sX7_act_26, sX7_act_27, sX7_act_30, sX7_act_31, sX7_act_32, sX7_act_35, sX7_act_38, sX7_act_39, sX7_act_40, sX7_act_41, sX7_act_44, sX7_act_47, sX7_act_48, sX7_act_49, sX7_act_50, sX7_act_51 (st := []), sX7_act_54 (st := []), inb, nz_3, nz_4, nz_6, nz_8, nz_10, nz_100, nz_300, pushr_s, pushr_n, rv_s, rv_n, kd_sI, kd_sR, kd_sJ, sz_sI, sz_sR, sz_sJ, aR_sI, aJ_sI, aI_sR, aI_sJ, not_false_eq_true, true_and, and_true, true_or, or_true, or_false, false_or, eq_self, ite_true, ite_false, if_true, if_false, l.k0, l.r7, l.r0, st.1, st.2.1, st.2.2.1, st.2.2.2.1, st.2.2.2.2.1, st.2.2.2.2.2.1, st.2.2.2.2.2.2.1, st.2.2.2.2.2.2.2.1, st.2.2.2.2.2.2.2.2.1, st.2.2.2.2.2.2.2.2.2.1, st.2.2.2.2.2.2.2.2.2.2.1, st.2.2.2.2.2.2.2.2.2.2.2.1, st.2.2.2.2.2.2.2.2.2.2.2.2.1, st.2.2.2.2.2.2.2.2.2.2.2.2.2.1, st.2.2.2.2.2.2.2.2.2.2.2.2.2.2.1, st.2.2.2.2.2.2.2.2.2.2.2.2.2.2.2.1, st.2.2.2.2.2.2.2.2.2.2.2.2.2.2.2.2.1, st.2.2.2.2.2.2.2.2.2.2.2.2.2.2.2.2.2.1, st.2.2.2.2.2.2.2.2.2.2.2.2.2.2.2.2.2.2.1, st.2.2.2.2.2.2.2.2.2.2.2.2.2.2.2.2.2.2.2.1, st.2.2.2.2.2.2.2.2.2.2.2.2.2.2.2.2.2.2.2.2.1, st.2.2.2.2.2.2.2.2.2.2.2.2.2.2.2.2.2.2.2.2.2.1, st.2.2.2.2.2.2.2.2.2.2.2.2.2.2.2.2.2.2.2.2.2.2.1, st.2.2.2.2.2.2.2.2.2.2.2.2.2.2.2.2.2.2.2.2.2.2.2.1, st.2.2.2.2.2.2.2.2.2.2.2.2.2.2.2.2.2.2.2.2.2.2.2.2.1, st.2.2.2.2.2.2.2.2.2.2.2.2.2.2.2.2.2.2.2.2.2.2.2.2.2.1, st.2.2.2.2.2.2.2.2.2.2.2.2.2.2.2.2.2.2.2.2.2.2.2.2.2.2.1, st.2.2.2.2.2.2.2.2.2.2.2.2.2.2.2.2.2.2.2.2.2.2.2.2.2.2.2.1, st.2.2.2.2.2.2.2.2.2.2.2.2.2.2.2.2.2.2.2.2.2.2.2.2.2.2.2.2.1, st.2.2.2.2.2.2.2.2.2.2.2.2.2.2.2.2.2.2.2.2.2.2.2.2.2.2.2.2.2.1, st.2.2.2.2.2.2.2.2.2.2.2.2.2.2.2.2.2.2.2.2.2.2.2.2.2.2.2.2.2.2.1, st.2.2.2.2.2.2.2.2.2.2.2.2.2.2.2.2.2.2.2.2.2.2.2.2.2.2.2.2.2.2.2.1, st.2.2.2.2.2.2.2.2.2.2.2.2.2.2.2.2.2.2.2.2.2.2.2.2.2.2.2.2.2.2.2.2.1, st.2.2.2.2.2.2.2.2.2.2.2.2.2.2.2.2.2.2.2.2.2.2.2.2.2.2.2.2.2.2.2.2.2.1, st.2.2.2.2.2.2.2.2.2.2.2.2.2.2.2.2.2.2.2.2.2.2.2.2.2.2.2.2.2.2.2.2.2.2.1, st.2.2.2.2.2.2.2.2.2.2.2.2.2.2.2.2.2.2.2.2.2.2.2.2.2.2.2.2.2.2.2.2.2.2.2.1, st.2.2.2.2.2.2.2.2.2.2.2.2.2.2.2.2.2.2.2.2.2.2.2.2.2.2.2.2.2.2.2.2.2.2.2.2.1, st.2.2.2.2.2.2.2.2.2.2.2.2.2.2.2.2.2.2.2.2.2.2.2.2.2.2.2.2.2.2.2.2.2.2.2.2.2.1, st.2.2.2.2.2.2.2.2.2.2.2.2.2.2.2.2.2.2.2.2.2.2.2.2.2.2.2.2.2.2.2.2.2.2.2.2.2.2.1, st.2.2.2.2.2.2.2.2.2.2.2.2.2.2.2.2.2.2.2.2.2.2.2.2.2.2.2.2.2.2.2.2.2.2.2.2.2.2.2, l.k52, kd_aS, sz_aS, aR_aS, f0, w_isMaid l2 h2, e, nz_1, b0c, b1c, lc, l1, x2, x3, sX0_perform_0, sX0_perform_1, sX0_perform_2, sX0_perform_5, sX0_perform_6, sX0_perform_7, sX0_perform_10, sX0_perform_11, sX0_perform_12, sX0_perform_15, sX0_perform_16, sX0_perform_17, sX0_perform_20, sX0_perform_22, sX0_perform_24, sX0_perform_25 (st := []), sX0_perform_28 (st := []), l3.k52, aS_3, g3, aS_base n2, aS_base n3, aS_base n4, hH, hw, a1]
  · have e1 : aI H 68 l0 = nI k0 := (g.eK l0 (by omega)).trans ek
    have e3 : aI H 69 l0 = A.V l0 := g.eV l0 (by omega)
    have hb2 : ∀ d Q, Wp S d 123 0 [.ref 67, .int (nI b0), .int 0, .int 2] [] (bS H (0, aI H 105)) Q = Q (some (.int 1)) (bS H (0, aI H 105)) := fun d Q => by
      rw [m_in, inS_k 3 (by decide) (by decide +kernel), e2]
    have fr := Fr.bS H (0, aI H 105)
    have g2 : MoA (bS H (0, aI H 105)) A := g.fr fr (fun o i z h1 h2 => by omega)
    obtain ⟨a1, a2, a3⟩ := ac_ag (nI l0) (A.V l0) k0 b0 x (s := (0, aI H 105)) (t := (0, fun _ => 0)) ⟨rfl, fun j hj => absurd hj (by show ¬ j < 0; omega)⟩
    have frp := Fr.bS H (acM (nI l0) (A.V l0) k0 b0 x (0, aI H 105)).2
    have vlk := fun Q => v_lk (S := S) (d := d + 37) (l := l0) (x := x) (s := (0, aI H 105)) (Q := Q) g.lay (by omega) e1 (by omega) (by show (0 : Nat) < 900; decide)
    have vsy := fun Q => v_sy (S := S) (d := d + 34) (l := l0) (x := x) (s := (0, aI H 105)) (Q := Q) g.lay (by omega) e1 (by omega) (by show (0 : Nat) < 870; decide)
    have vtl := fun Q => v_tl (S := S) (d := d + 32) (l := l0) (x := x) (s := (0, aI H 105)) (Q := Q) g.lay (by omega) e1 (by omega) (by show (0 : Nat) < 850; decide)
    rw [e3] at vlk vsy vtl
    refine ⟨bS H (acM (nI l0) (A.V l0) k0 b0 x (0, aI H 105)).2, s.act frp (by rw [← a2]; rfl) (fun i hi h20 => a3 i (by rw [a2]; exact hi) h20), frp.mono (fun o i z => by unfold jRM; omega), fun Q => ?_⟩
    rw [← a1]
    have b3 : b0 = 0 ∨ b0 = 1 ∨ b0 = 2 := by omega
    rcases b3 with rfl | rfl | rfl <;> simp only [L_0_0, L_0_1, L_0_2, L_0_3, L_0_4, L_0_5, L_0_6, L_0_7, L_1_0, L_1_1, L_1_2, L_1_3, L_1_4, L_1_5, L_1_6, L_1_7, L_2_0, L_2_1, L_2_2, L_2_3, L_2_4, L_2_5, L_2_6, L_2_7, L_3_0, L_3_1, L_3_2, L_3_3, L_3_4, L_3_5, L_3_6, L_3_7, L_4_0, L_4_1, L_4_2, L_4_3, L_4_4, L_4_5, L_4_6, L_4_7, L_5_0, L_5_1, L_5_2, L_5_3, L_5_4, L_5_5, L_5_6, L_5_7, L_6_0, L_6_1, L_6_2, L_6_3, L_6_4, L_6_5, L_6_6, L_6_7, L_7_0, L_7_1, L_7_2, L_7_3, L_7_4, L_7_5, L_7_6, L_7_7, I_0, I_1, I_2, I_3, I_4, I_5, I_6, I_7] at hb2 <;> simp only [sX8_act_0, sX8_act_1, sX8_act_2, sX8_act_5, sX8_act_6, sX8_act_7 (st := []), sX8_act_10, sX8_act_13, sX8_act_23, sX8_act_14, sX8_act_24 (st := []), sX8_act_15, sX8_act_16, sX8_act_17 (st := []), sX8_act_20, sX8_act_25, sX8_act_26, sX8_act_29, sX8_act_38, sX8_act_30, sX8_act_39, sX8_act_31, sX8_act_40, sX8_act_32 (st := []), sX8_act_43, sX8_act_52, sX8_act_35, sX8_act_44, sX8_act_53, sX8_act_58 (st := []), sX8_act_45, sX8_act_54, sX8_act_46 (st := []), sX8_act_55 (st := []), sX8_act_49, inb, nz_3, nz_4, nz_6, nz_8, nz_10, nz_100, nz_300, pushr_s, pushr_n, rv_s, rv_n, kd_sI, kd_sR, kd_sJ, sz_sI, sz_sR, sz_sJ, aR_sI, aJ_sI, aI_sR, aI_sJ, not_false_eq_true, true_and, and_true, true_or, or_true, or_false, false_or, eq_self, ite_true, ite_false, if_true, if_false, L_0_0, L_0_1, L_0_2, L_0_3, L_0_4, L_0_5, L_0_6, L_0_7, L_1_0, L_1_1, L_1_2, L_1_3, L_1_4, L_1_5, L_1_6, L_1_7, L_2_0, L_2_1, L_2_2, L_2_3, L_2_4, L_2_5, L_2_6, L_2_7, L_3_0, L_3_1, L_3_2, L_3_3, L_3_4, L_3_5, L_3_6, L_3_7, L_4_0, L_4_1, L_4_2, L_4_3, L_4_4, L_4_5, L_4_6, L_4_7, L_5_0, L_5_1, L_5_2, L_5_3, L_5_4, L_5_5, L_5_6, L_5_7, L_6_0, L_6_1, L_6_2, L_6_3, L_6_4, L_6_5, L_6_6, L_6_7, L_7_0, L_7_1, L_7_2, L_7_3, L_7_4, L_7_5, L_7_6, L_7_7, I_0, I_1, I_2, I_3, I_4, I_5, I_6, I_7, mk_67 g.lay, bS_0, kd_bS, n_isMaid w g2, e, nz_1, hb2, vlk, vsy, vtl] <;> rfl
end CALLS
