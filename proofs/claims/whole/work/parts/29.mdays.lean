-- 29: the reference's days, what it keeps aside and puts back
def jGoM (o i : Nat) : Prop := o = 82 ∨ (o = 67 ∧ (i = 1 ∨ i = 3 ∨ i = 4)) ∨ o = 71 ∨ o = 72
section MODEL
variable {S : SC} {d : Nat} {H : AH} {A : AS}
theorem m_pas (h : MoA H A) (w : Wf A) {l : Nat} {n : Int32} (hl : l < A.N) : ∃ p1, ∀ Q, Wp S (d + 5) 163 0 [.ref 67, .int (nI l), .int n] [] H Q = Q (some (.int (pas A l n))) (sA H p1) := by
  obtain ⟨b, hv⟩ := h.v w
  obtain ⟨p1, hp⟩ := m_rT (S := S) (d := d) (n := n) hv hl (aI H 82)
  rw [sA_self, h.qOM w hl] at hp
  exact ⟨p1, hp⟩
theorem m_isIn {p : Nat} {Q : Option Value → AH → Prop} (h : MoA H A) (w : Wf A) (hp : p < A.P) : Wp S d 167 0 [.ref 67, .int (nI p)] [] H Q = Q (some (.int (if A.N ≤ pl A p then 1 else 0))) H := by
  have hP := w.hP
  have hN := w.hN
  have hl := (w.eW hp).2
  have ep : aI H 72 p = nI (pl A p) := (h.eW p (by omega)).trans (w.eW hp).1
  have kc : (nI p).toNatClampNeg = p := nI_clamp (by omega)
  have k1 : ¬ (nI p < 0 ∨ 5 ≤ p) := inN (by omega) (by omega)
  by_cases g : A.N ≤ pl A p
  · have g' : ¬ nI (pl A p) < nI A.N := nI_nlt g (by omega)
    simp only [sX8_isIn_0, sX8_isIn_1, sX8_isIn_4, sX8_isIn_5, sX8_isIn_6, sX8_isIn_7, sX8_isIn_10, sX8_isIn_13, sX8_isIn_17, sX8_isIn_14, sX8_isIn_18 (st := []), inb, nz_3, nz_4, nz_6, nz_8, nz_10, nz_100, nz_300, pushr_s, pushr_n, rv_s, rv_n, kd_sI, kd_sR, kd_sJ, sz_sI, sz_sR, sz_sJ, aR_sI, aJ_sI, aI_sR, aI_sJ, not_false_eq_true, true_and, and_true, true_or, or_true, or_false, false_or, eq_self, ite_true, ite_false, if_true, if_false, mk_67 h.lay, mr_9 h.lay, mk_72 h.lay, mz_72 h.lay, kc, k1, ep, h.nN, g, g']
  · have g' : nI (pl A p) < nI A.N := nI_lt (by omega) (by omega)
    simp only [sX8_isIn_0, sX8_isIn_1, sX8_isIn_4, sX8_isIn_5, sX8_isIn_6, sX8_isIn_7, sX8_isIn_10, sX8_isIn_13, sX8_isIn_17, sX8_isIn_14, sX8_isIn_18 (st := []), inb, nz_3, nz_4, nz_6, nz_8, nz_10, nz_100, nz_300, pushr_s, pushr_n, rv_s, rv_n, kd_sI, kd_sR, kd_sJ, sz_sI, sz_sR, sz_sJ, aR_sI, aJ_sI, aI_sR, aI_sJ, not_false_eq_true, true_and, and_true, true_or, or_true, or_false, false_or, eq_self, ite_true, ite_false, if_true, if_false, mk_67 h.lay, mr_9 h.lay, mk_72 h.lay, mz_72 h.lay, kc, k1, ep, h.nN, g, g']
theorem lp_mmany {L : List Cla} {b : Nat} (h : MoL H) (hw : WayM H L b) : ∀ (r : List Cla) (i : Nat) (s : Int32), i + r.length = L.length → (∀ j, j < r.length → r.getD j (2, 0, []) = L.getD (i + j) (2, 0, [])) → ∀ (Q : Option Value → AH → Prop), Wp S (d + 1) 156 8 [.ref 67, .int s, .int (nI (b + i))] [] H Q = Q (some (.int (maC r s))) H
  | [], i, s, hi, hr, Q => by
    have hi : i = L.length := hi
    have hb : b + L.length < 2 ^ 31 := by rcases hw.2 with ⟨_, rfl, rfl⟩ | ⟨f, f6, e, e3, rfl, _, _⟩; decide; omega
    have e : nI (b + L.length) ≤ nI (b + i) := nI_le (by omega) (by omega)
    have hn := fun Q => m_behind (S := S) (d := d) (Q := Q) (H := H) h hw
    rw [sX8_many_8]
    simp only [sX8_many_0, sX8_many_2, sX8_many_3, sX8_many_4 (st := []), sX8_many_7, sX8_many_9, sX8_many_10 (st := []), sX8_many_13, sX8_many_16, sX8_many_43, sX8_many_17, sX8_many_44 (st := []), sX8_many_20, sX8_many_21, sX8_many_22, sX8_many_23, sX8_many_26, sX8_many_35, sX8_many_27, sX8_many_36, sX8_many_30, sX8_many_37, sX8_many_31, sX8_many_40, sX8_many_32, inb, nz_3, nz_4, nz_6, nz_8, nz_10, nz_100, nz_300, pushr_s, pushr_n, rv_s, rv_n, kd_sI, kd_sR, kd_sJ, sz_sI, sz_sR, sz_sJ, aR_sI, aJ_sI, aI_sR, aI_sJ, not_false_eq_true, true_and, and_true, true_or, or_true, or_false, false_or, eq_self, ite_true, ite_false, if_true, if_false, mk_67 h, hn, e]
    rfl
  | q :: r, i, s, hi, hr, Q => by
    have hi : i + (r.length + 1) = L.length := hi
    rcases hw.2 with ⟨_, rfl, _⟩ | ⟨f, f6, e0, e3, hb, hlen, hcl⟩
    · exact absurd hi (by show ¬ i + (r.length + 1) = 0; omega)
    have hq : q = L.getD i (2, 0, []) := hr 0 (by show 0 < r.length + 1; omega)
    have hr1 : ∀ j, j < r.length → r.getD j (2, 0, []) = L.getD (i + 1 + j) (2, 0, []) := fun j hj => by
      have z := hr (j + 1) (by show j + 1 < r.length + 1; omega)
      rw [show i + (j + 1) = i + 1 + j by omega] at z
      exact z
    have hc : ClM H (b + i) q := by rw [hq]; exact hcl i (by omega)
    have hc2 : ClW q := hw.1 q (by rw [hq]; exact gD_mem L i _ (by omega))
    have e : ¬ nI (b + L.length) ≤ nI (b + i) := nI_ge (by omega) (by omega)
    have hn := fun Q => m_behind (S := S) (d := d) (Q := Q) (H := H) h hw
    have kc : (nI (b + i)).toNatClampNeg = b + i := nI_clamp (by omega)
    have k1 : ¬ (nI (b + i) < 0 ∨ 60 ≤ b + i) := inN (by omega) (by omega)
    have r75 := hc.1
    have r76 := hc.2.1
    have ih := lp_mmany h hw r (i + 1) (if q.1 = 2 then nI q.2.1 else s) (by omega) hr1 Q
    rw [show b + (i + 1) = b + i + 1 by omega] at ih
    rw [maC, ← ih, sX8_many_8]
    by_cases q2 : q.1 = 2
    · have q2' : (nI q.1 = 2) = True := eq_true (by rw [q2]; rfl)
      simp only [sX8_many_0, sX8_many_2, sX8_many_3, sX8_many_4 (st := []), sX8_many_7, sX8_many_9, sX8_many_10 (st := []), sX8_many_13, sX8_many_16, sX8_many_43, sX8_many_17, sX8_many_44 (st := []), sX8_many_20, sX8_many_21, sX8_many_22, sX8_many_23, sX8_many_26, sX8_many_35, sX8_many_27, sX8_many_36, sX8_many_30, sX8_many_37, sX8_many_31, sX8_many_40, sX8_many_32, inb, nz_3, nz_4, nz_6, nz_8, nz_10, nz_100, nz_300, pushr_s, pushr_n, rv_s, rv_n, kd_sI, kd_sR, kd_sJ, sz_sI, sz_sR, sz_sJ, aR_sI, aJ_sI, aI_sR, aI_sJ, not_false_eq_true, true_and, and_true, true_or, or_true, or_false, false_or, eq_self, ite_true, ite_false, if_true, if_false, mk_67 h, mr_17 h, mk_75 h, mz_75 h, mr_18 h, mk_76 h, mz_76 h, hn, e, kc, k1, r75, r76, q2', nI_1]
      rw [if_pos q2]
    · have q2' : (nI q.1 = 2) = False := eq_false (fun z => q2 ((nI_eq (by have := hc2.1; omega) (by decide)).mp z))
      simp only [sX8_many_0, sX8_many_2, sX8_many_3, sX8_many_4 (st := []), sX8_many_7, sX8_many_9, sX8_many_10 (st := []), sX8_many_13, sX8_many_16, sX8_many_43, sX8_many_17, sX8_many_44 (st := []), sX8_many_20, sX8_many_21, sX8_many_22, sX8_many_23, sX8_many_26, sX8_many_35, sX8_many_27, sX8_many_36, sX8_many_30, sX8_many_37, sX8_many_31, sX8_many_40, sX8_many_32, inb, nz_3, nz_4, nz_6, nz_8, nz_10, nz_100, nz_300, pushr_s, pushr_n, rv_s, rv_n, kd_sI, kd_sR, kd_sJ, sz_sI, sz_sR, sz_sJ, aR_sI, aJ_sI, aI_sR, aI_sJ, not_false_eq_true, true_and, and_true, true_or, or_true, or_false, false_or, eq_self, ite_true, ite_false, if_true, if_false, mk_67 h, mr_17 h, mk_75 h, mz_75 h, mr_18 h, mk_76 h, mz_76 h, hn, e, kc, k1, r75, r76, q2', nI_1]
      rw [if_neg q2]
theorem m_many (h : MoA H A) (Q : Option Value → AH → Prop) : Wp S (d + 1) 156 0 [.ref 67, hole, hole] [] H Q = Q (some (.int (maC A.L 9))) H := by
  obtain ⟨b, hb⟩ := h.eL
  have ih := lp_mmany (S := S) (d := d) h.lay hb A.L 0 9 (by omega) (fun j _ => by rw [Nat.zero_add]) Q
  have hn := fun Q => m_begin (S := S) (d := d) (Q := Q) (H := H) h.lay hb
  rw [show b + 0 = b from rfl] at ih
  simp only [sX8_many_0, sX8_many_2, sX8_many_3, sX8_many_4 (st := []), sX8_many_7, sX8_many_9, sX8_many_10 (st := []), sX8_many_13, sX8_many_16, sX8_many_43, sX8_many_17, sX8_many_44 (st := []), sX8_many_20, sX8_many_21, sX8_many_22, sX8_many_23, sX8_many_26, sX8_many_35, sX8_many_27, sX8_many_36, sX8_many_30, sX8_many_37, sX8_many_31, sX8_many_40, sX8_many_32, inb, nz_3, nz_4, nz_6, nz_8, nz_10, nz_100, nz_300, pushr_s, pushr_n, rv_s, rv_n, kd_sI, kd_sR, kd_sJ, sz_sI, sz_sR, sz_sJ, aR_sI, aJ_sI, aI_sR, aI_sJ, not_false_eq_true, true_and, and_true, true_or, or_true, or_false, false_or, eq_self, ite_true, ite_false, if_true, if_false, mk_67 h.lay, hn, ih]
theorem m_back1 {p : Nat} {Q : Option Value → AH → Prop} (h : MoA H A) (hp : p < 6) : Wp S d 131 0 [.ref 67, .int (nI p), .int 1] [] H Q = Q none (sI H 67 3 (nI (A.B ||| 2 ^ p))) := by
  simp only [sX8_turnsBack_0, sX8_turnsBack_1, sX8_turnsBack_2, sX8_turnsBack_5, sX8_turnsBack_16, sX8_turnsBack_6, sX8_turnsBack_17, sX8_turnsBack_9, sX8_turnsBack_20, sX8_turnsBack_10, sX8_turnsBack_21, sX8_turnsBack_11, sX8_turnsBack_22, sX8_turnsBack_12, sX8_turnsBack_23, sX8_turnsBack_13, sX8_turnsBack_24, sX8_turnsBack_26, sX8_turnsBack_25, sX8_turnsBack_29 (st := []), inb, nz_3, nz_4, nz_6, nz_8, nz_10, nz_100, nz_300, pushr_s, pushr_n, rv_s, rv_n, kd_sI, kd_sR, kd_sJ, sz_sI, sz_sR, sz_sJ, aR_sI, aJ_sI, aI_sR, aI_sJ, not_false_eq_true, true_and, and_true, true_or, or_true, or_false, false_or, eq_self, ite_true, ite_false, if_true, if_false, mk_67 h.lay, h.nB, shl_p hp, nI_or, nz_1]
theorem MoA.jgo (h : MoA H A) {H' : AH} (f : Fr jGoM H H') {D' O' B' : Nat} {M' W' : Nat → Int32} (hD : aI H' 67 4 = nI D') (hO : aI H' 67 1 = nI O') (hB : aI H' 67 3 = nI B') (hM : ∀ i, i < 5 → aI H' 71 i = M' i) (hW : ∀ i, i < 5 → aI H' 72 i = W' i) : MoA H' (A.u5 D' O' B' M' W') :=
  h.cD f (fun o i z _ _ => by unfold jGoM at z; omega) hD hO hB hM hW
theorem lp_mday : ∀ (c p : Nat) (A : AS) (H : AH), MoA H A → Wf A → p + c = A.P → ∃ H', Fr jGoM H H' ∧ MoA H' (daysL c p A) ∧ ∀ Q, Wp S (d + 6) 170 2 [.ref 67, .int (nI p)] [] H Q = Wp S (d + 6) 170 97 [.ref 67, .int (nI A.P)] [] H' Q
  | 0, p, A, H, h, w, hc => by
    have hP := w.hP
    have hc : p = A.P := hc
    subst hc
    have e : nI A.P ≤ nI A.P := nI_le (Nat.le_refl _) (by omega)
    refine ⟨H, Fr.refl _ _, h, fun Q => ?_⟩
    rw [sX8_goDay_2]
    simp only [sX8_goDay_0, sX8_goDay_1, sX8_goDay_3, sX8_goDay_4, sX8_goDay_7, sX8_goDay_10, sX8_goDay_11, sX8_goDay_98, sX8_goDay_12, sX8_goDay_99, sX8_goDay_15, sX8_goDay_102, sX8_goDay_16 (st := []), sX8_goDay_103, sX8_goDay_19, sX8_goDay_104, sX8_goDay_22, sX8_goDay_91, sX8_goDay_107 (st := []), sX8_goDay_23, sX8_goDay_94, sX8_goDay_24 (st := []), sX8_goDay_27, sX8_goDay_30, sX8_goDay_33, sX8_goDay_34, sX8_goDay_37, sX8_goDay_38, sX8_goDay_39, sX8_goDay_40, sX8_goDay_43, sX8_goDay_44, sX8_goDay_45, sX8_goDay_46, sX8_goDay_49, sX8_goDay_50, sX8_goDay_51 (st := []), sX8_goDay_54, sX8_goDay_55, sX8_goDay_56, sX8_goDay_57, sX8_goDay_60, sX8_goDay_61, sX8_goDay_62 (st := []), sX8_goDay_65, sX8_goDay_66 (st := []), sX8_goDay_69, sX8_goDay_72, sX8_goDay_81, sX8_goDay_73, sX8_goDay_82, sX8_goDay_74, sX8_goDay_85, sX8_goDay_75 (st := []), sX8_goDay_86, sX8_goDay_78, sX8_goDay_87, sX8_goDay_88, sX8_goDay_89, sX8_goDay_90, inb, nz_3, nz_4, nz_6, nz_8, nz_10, nz_100, nz_300, pushr_s, pushr_n, rv_s, rv_n, kd_sI, kd_sR, kd_sJ, sz_sI, sz_sR, sz_sJ, aR_sI, aJ_sI, aI_sR, aI_sJ, not_false_eq_true, true_and, and_true, true_or, or_true, or_false, false_or, eq_self, ite_true, ite_false, if_true, if_false, mk_67 h.lay, h.nP, e]
  | c + 1, p, A, H, h, w, hc => by
    have hP := w.hP
    have hN := w.hN
    have e : ¬ nI A.P ≤ nI p := nI_ge (by omega) (by omega)
    have hb := fun Q => m_has (S := S) (d := d + 5) (Q := Q) (H := H) (o := 67) (x := nI A.B) (k := nI p)
    have hi := fun Q => m_isIn (S := S) (d := d + 5) (Q := Q) (p := p) h w (by omega)
    have ep : aI H 72 p = nI (pl A p) := (h.eW p (by omega)).trans (w.eW (by omega)).1
    have e4 : aI H 71 p = A.M p := h.eM p (by omega)
    have kc : (nI p).toNatClampNeg = p := nI_clamp (by omega)
    have k1 : ¬ (nI p < 0 ∨ 5 ≤ p) := inN (by omega) (by omega)
    have hs := step_sm A p
    rcases haS01 (nI A.B) (nI p) with b | b
    · by_cases g : A.N ≤ pl A p
      · have e2 : stepP A p = A := by unfold stepP; rw [if_neg (by rw [b]; decide), if_pos g]
        obtain ⟨H2, r1, r2, r3⟩ := lp_mday c (p + 1) A H h w (by omega)
        refine ⟨H2, r1, by rw [daysL, e2]; exact r2, fun Q => ?_⟩
        rw [sX8_goDay_2, ← r3]
        rw [if_pos g] at hi
        simp only [sX8_goDay_0, sX8_goDay_1, sX8_goDay_3, sX8_goDay_4, sX8_goDay_7, sX8_goDay_10, sX8_goDay_11, sX8_goDay_98, sX8_goDay_12, sX8_goDay_99, sX8_goDay_15, sX8_goDay_102, sX8_goDay_16 (st := []), sX8_goDay_103, sX8_goDay_19, sX8_goDay_104, sX8_goDay_22, sX8_goDay_91, sX8_goDay_107 (st := []), sX8_goDay_23, sX8_goDay_94, sX8_goDay_24 (st := []), sX8_goDay_27, sX8_goDay_30, sX8_goDay_33, sX8_goDay_34, sX8_goDay_37, sX8_goDay_38, sX8_goDay_39, sX8_goDay_40, sX8_goDay_43, sX8_goDay_44, sX8_goDay_45, sX8_goDay_46, sX8_goDay_49, sX8_goDay_50, sX8_goDay_51 (st := []), sX8_goDay_54, sX8_goDay_55, sX8_goDay_56, sX8_goDay_57, sX8_goDay_60, sX8_goDay_61, sX8_goDay_62 (st := []), sX8_goDay_65, sX8_goDay_66 (st := []), sX8_goDay_69, sX8_goDay_72, sX8_goDay_81, sX8_goDay_73, sX8_goDay_82, sX8_goDay_74, sX8_goDay_85, sX8_goDay_75 (st := []), sX8_goDay_86, sX8_goDay_78, sX8_goDay_87, sX8_goDay_88, sX8_goDay_89, sX8_goDay_90, inb, nz_3, nz_4, nz_6, nz_8, nz_10, nz_100, nz_300, pushr_s, pushr_n, rv_s, rv_n, kd_sI, kd_sR, kd_sJ, sz_sI, sz_sR, sz_sJ, aR_sI, aJ_sI, aI_sR, aI_sJ, not_false_eq_true, true_and, and_true, true_or, or_true, or_false, false_or, eq_self, ite_true, ite_false, if_true, if_false, mk_67 h.lay, h.nP, h.nB, e, hb, b, hi, nz_1, nI_1]
      · have e2 : stepP A p = meetA A p := by unfold stepP; rw [if_neg (by rw [b]; decide), if_neg g]
        rw [if_neg g] at hi
        have hl : pl A p < A.N := by omega
        have hp : p < A.P := by omega
        obtain ⟨p1, hpo⟩ := m_pas (S := S) (d := d) (n := A.M p) h w hl
        obtain ⟨m, hm, em⟩ := mk_pas w hl (w.hM p hp)
        have f1 : Fr jGoM H (sI (sA H p1) 71 p (nI m)) := (Fr.wA _ (fun i => Or.inl rfl)).trans (Fr.wI _ (Or.inr (Or.inr (Or.inl rfl))))
        have a1 : aI (sI (sA H p1) 71 p (nI m)) 71 p = nI m := gIs
        have g1 : MoA (sI (sA H p1) 71 p (nI m)) (A.u5 A.D A.O A.B (upd A.M p (nI m)) A.W) := by
          refine h.jgo f1 ?_ ?_ ?_ ?_ ?_
          · exact (gIn (by omega)).trans ((gAn (by omega)).trans h.nD)
          · exact (gIn (by omega)).trans ((gAn (by omega)).trans h.nO)
          · exact (gIn (by omega)).trans ((gAn (by omega)).trans h.nB)
          · intro i hi
            by_cases q : i = p
            · subst q; rw [pk_us]; exact a1
            · rw [pk_un q]; exact (gIn (fun z => q z.2)).trans ((gAn (by omega)).trans (h.eM i hi))
          · exact fun i hi => (gIn (by omega)).trans ((gAn (by omega)).trans (h.eW i hi))
        have hmn := fun Q => m_many (S := S) (d := d + 4) g1 Q
        have hbt := fun Q => m_bits (S := S) (d := d + 4) (Q := Q) (x := nI m) g1.lay
        rw [bt_bc hm] at hbt
        have a2 : aI (sI (sA H p1) 71 p (nI m)) 67 3 = nI A.B := g1.nB
        have a3 : aI (sI (sA H p1) 71 p (nI m)) 72 p = nI (pl A p) := (g1.eW p (by omega)).trans (w.eW hp).1
        have wm := w.meet hp hl
        have eP := (meet_sm A p).P
        unfold meetA at wm e2 eP
        by_cases q : maC A.L 9 ≤ bcn (nI m)
        · rw [em, if_pos q] at wm e2 eP
          have hbk := fun Q => m_back1 (S := S) (d := d + 5) (p := p) (Q := Q) g1 (by omega)
          have f2 : Fr jGoM (sI (sA H p1) 71 p (nI m)) (sI (sI (sA H p1) 71 p (nI m)) 67 3 (nI (A.B ||| 2 ^ p))) := Fr.wI _ (Or.inr (Or.inl ⟨rfl, Or.inr (Or.inl rfl)⟩))
          have g2 : MoA (sI (sI (sA H p1) 71 p (nI m)) 67 3 (nI (A.B ||| 2 ^ p))) (A.u5 A.D A.O (A.B ||| 2 ^ p) (upd A.M p (nI m)) A.W) := by
            refine h.jgo (f1.trans f2) ?_ ?_ (gIs) ?_ ?_
            · exact (gIn (by omega)).trans g1.nD
            · exact (gIn (by omega)).trans g1.nO
            · exact fun i hi => (gIn (by omega)).trans (g1.eM i hi)
            · exact fun i hi => (gIn (by omega)).trans (g1.eW i hi)
          obtain ⟨H2, r1, r2, r3⟩ := lp_mday c (p + 1) _ _ g2 wm (by rw [eP]; omega)
          refine ⟨H2, (f1.trans f2).trans r1, by rw [daysL, e2]; exact r2, fun Q => ?_⟩
          rw [eP] at r3
          have c' : ¬ bcn (nI m) < maC A.L 9 := Int32.not_lt.mpr q
          rw [sX8_goDay_2, ← r3]
          have hmn2 : ∀ Q, Wp S (d + 5) 156 0 [.ref 67, hole, hole] [] (sI (sA H p1) 71 p (nI m)) Q = Q (some (.int (maC A.L 9))) (sI (sA H p1) 71 p (nI m)) := hmn
          have hbk2 : ∀ Q, Wp S (d + 5) 131 0 [.ref 67, .int (nI p), .int 1] [] (sI (sA H p1) 71 p (nI m)) Q = Q none (sI (sI (sA H p1) 71 p (nI m)) 67 3 (nI (A.B ||| 2 ^ p))) := hbk
          simp only [sX8_goDay_0, sX8_goDay_1, sX8_goDay_3, sX8_goDay_4, sX8_goDay_7, sX8_goDay_10, sX8_goDay_11, sX8_goDay_98, sX8_goDay_12, sX8_goDay_99, sX8_goDay_15, sX8_goDay_102, sX8_goDay_16 (st := []), sX8_goDay_103, sX8_goDay_19, sX8_goDay_104, sX8_goDay_22, sX8_goDay_91, sX8_goDay_107 (st := []), sX8_goDay_23, sX8_goDay_94, sX8_goDay_24 (st := []), sX8_goDay_27, sX8_goDay_30, sX8_goDay_33, sX8_goDay_34, sX8_goDay_37, sX8_goDay_38, sX8_goDay_39, sX8_goDay_40, sX8_goDay_43, sX8_goDay_44, sX8_goDay_45, sX8_goDay_46, sX8_goDay_49, sX8_goDay_50, sX8_goDay_51 (st := []), sX8_goDay_54, sX8_goDay_55, sX8_goDay_56, sX8_goDay_57, sX8_goDay_60, sX8_goDay_61, sX8_goDay_62 (st := []), sX8_goDay_65, sX8_goDay_66 (st := []), sX8_goDay_69, sX8_goDay_72, sX8_goDay_81, sX8_goDay_73, sX8_goDay_82, sX8_goDay_74, sX8_goDay_85, sX8_goDay_75 (st := []), sX8_goDay_86, sX8_goDay_78, sX8_goDay_87, sX8_goDay_88, sX8_goDay_89, sX8_goDay_90, inb, nz_3, nz_4, nz_6, nz_8, nz_10, nz_100, nz_300, pushr_s, pushr_n, rv_s, rv_n, kd_sI, kd_sR, kd_sJ, sz_sI, sz_sR, sz_sJ, aR_sI, aJ_sI, aI_sR, aI_sJ, not_false_eq_true, true_and, and_true, true_or, or_true, or_false, false_or, eq_self, ite_true, ite_false, if_true, if_false, kd_sA, sz_sA, aR_sA, mk_67 h.lay, mr_8 h.lay, mk_71 h.lay, mz_71 h.lay, mr_9 h.lay, mk_72 h.lay, mz_72 h.lay, h.nP, h.nB, e, hb, b, hi, kc, k1, ep, e4, hpo, em, a1, hbt, hmn2, c', hbk2, nz_1, nI_1]
        · rw [em, if_neg q] at wm e2 eP
          have f2 : Fr jGoM (sI (sA H p1) 71 p (nI m)) (sI (sI (sA H p1) 71 p (nI m)) 72 p (nI (pl A p + 1))) := Fr.wI _ (Or.inr (Or.inr (Or.inr rfl)))
          have g2 : MoA (sI (sI (sA H p1) 71 p (nI m)) 72 p (nI (pl A p + 1))) (A.u5 A.D A.O A.B (upd A.M p (nI m)) (upd A.W p (A.W p + 1))) := by
            refine h.jgo (f1.trans f2) ?_ ?_ ?_ ?_ ?_
            · exact (gIn (by omega)).trans g1.nD
            · exact (gIn (by omega)).trans g1.nO
            · exact (gIn (by omega)).trans g1.nB
            · exact fun i hi => (gIn (by omega)).trans (g1.eM i hi)
            · intro i hi
              by_cases q : i = p
              · subst q; rw [pk_us, (w.eW hp).1, nI_1]; exact gIs
              · rw [pk_un q]; exact (gIn (fun z => q z.2)).trans (g1.eW i hi)
          obtain ⟨H2, r1, r2, r3⟩ := lp_mday c (p + 1) _ _ g2 wm (by rw [eP]; omega)
          refine ⟨H2, (f1.trans f2).trans r1, by rw [daysL, e2]; exact r2, fun Q => ?_⟩
          rw [eP] at r3
          have c' : bcn (nI m) < maC A.L 9 := Int32.not_le.mp q
          rw [sX8_goDay_2, ← r3]
          have hmn2 : ∀ Q, Wp S (d + 5) 156 0 [.ref 67, hole, hole] [] (sI (sA H p1) 71 p (nI m)) Q = Q (some (.int (maC A.L 9))) (sI (sA H p1) 71 p (nI m)) := hmn
          simp only [sX8_goDay_0, sX8_goDay_1, sX8_goDay_3, sX8_goDay_4, sX8_goDay_7, sX8_goDay_10, sX8_goDay_11, sX8_goDay_98, sX8_goDay_12, sX8_goDay_99, sX8_goDay_15, sX8_goDay_102, sX8_goDay_16 (st := []), sX8_goDay_103, sX8_goDay_19, sX8_goDay_104, sX8_goDay_22, sX8_goDay_91, sX8_goDay_107 (st := []), sX8_goDay_23, sX8_goDay_94, sX8_goDay_24 (st := []), sX8_goDay_27, sX8_goDay_30, sX8_goDay_33, sX8_goDay_34, sX8_goDay_37, sX8_goDay_38, sX8_goDay_39, sX8_goDay_40, sX8_goDay_43, sX8_goDay_44, sX8_goDay_45, sX8_goDay_46, sX8_goDay_49, sX8_goDay_50, sX8_goDay_51 (st := []), sX8_goDay_54, sX8_goDay_55, sX8_goDay_56, sX8_goDay_57, sX8_goDay_60, sX8_goDay_61, sX8_goDay_62 (st := []), sX8_goDay_65, sX8_goDay_66 (st := []), sX8_goDay_69, sX8_goDay_72, sX8_goDay_81, sX8_goDay_73, sX8_goDay_82, sX8_goDay_74, sX8_goDay_85, sX8_goDay_75 (st := []), sX8_goDay_86, sX8_goDay_78, sX8_goDay_87, sX8_goDay_88, sX8_goDay_89, sX8_goDay_90, inb, nz_3, nz_4, nz_6, nz_8, nz_10, nz_100, nz_300, pushr_s, pushr_n, rv_s, rv_n, kd_sI, kd_sR, kd_sJ, sz_sI, sz_sR, sz_sJ, aR_sI, aJ_sI, aI_sR, aI_sJ, not_false_eq_true, true_and, and_true, true_or, or_true, or_false, false_or, eq_self, ite_true, ite_false, if_true, if_false, kd_sA, sz_sA, aR_sA, mk_67 h.lay, mr_8 h.lay, mk_71 h.lay, mz_71 h.lay, mr_9 h.lay, mk_72 h.lay, mz_72 h.lay, h.nP, h.nB, e, hb, b, hi, kc, k1, ep, e4, hpo, em, a1, a3, hbt, hmn2, c', nz_1, nI_1]
    · have e2 : stepP A p = A := by unfold stepP; rw [if_pos b]
      obtain ⟨H2, r1, r2, r3⟩ := lp_mday c (p + 1) A H h w (by omega)
      refine ⟨H2, r1, by rw [daysL, e2]; exact r2, fun Q => ?_⟩
      rw [sX8_goDay_2, ← r3]
      simp only [sX8_goDay_0, sX8_goDay_1, sX8_goDay_3, sX8_goDay_4, sX8_goDay_7, sX8_goDay_10, sX8_goDay_11, sX8_goDay_98, sX8_goDay_12, sX8_goDay_99, sX8_goDay_15, sX8_goDay_102, sX8_goDay_16 (st := []), sX8_goDay_103, sX8_goDay_19, sX8_goDay_104, sX8_goDay_22, sX8_goDay_91, sX8_goDay_107 (st := []), sX8_goDay_23, sX8_goDay_94, sX8_goDay_24 (st := []), sX8_goDay_27, sX8_goDay_30, sX8_goDay_33, sX8_goDay_34, sX8_goDay_37, sX8_goDay_38, sX8_goDay_39, sX8_goDay_40, sX8_goDay_43, sX8_goDay_44, sX8_goDay_45, sX8_goDay_46, sX8_goDay_49, sX8_goDay_50, sX8_goDay_51 (st := []), sX8_goDay_54, sX8_goDay_55, sX8_goDay_56, sX8_goDay_57, sX8_goDay_60, sX8_goDay_61, sX8_goDay_62 (st := []), sX8_goDay_65, sX8_goDay_66 (st := []), sX8_goDay_69, sX8_goDay_72, sX8_goDay_81, sX8_goDay_73, sX8_goDay_82, sX8_goDay_74, sX8_goDay_85, sX8_goDay_75 (st := []), sX8_goDay_86, sX8_goDay_78, sX8_goDay_87, sX8_goDay_88, sX8_goDay_89, sX8_goDay_90, inb, nz_3, nz_4, nz_6, nz_8, nz_10, nz_100, nz_300, pushr_s, pushr_n, rv_s, rv_n, kd_sI, kd_sR, kd_sJ, sz_sI, sz_sR, sz_sJ, aR_sI, aJ_sI, aI_sR, aI_sJ, not_false_eq_true, true_and, and_true, true_or, or_true, or_false, false_or, eq_self, ite_true, ite_false, if_true, if_false, mk_67 h.lay, h.nP, h.nB, e, hb, b, nz_1, nI_1]
theorem m_goDay (h : MoA H A) (w : Wf A) (hD : A.D + 1 < 20000) : ∃ H', Fr jGoM H H' ∧ MoA H' (dayA A) ∧ ∀ Q, Wp S (d + 6) 170 0 [.ref 67, hole] [] H Q = Q none H' := by
  obtain ⟨H1, f1, g1, r1⟩ := lp_mday (S := S) (d := d) A.P 0 A H h w (by omega)
  rw [nI_0] at r1
  have s := daysL_sm A.P 0 A
  have dd : aI H1 67 4 = nI A.D := g1.nD.trans (by rw [s.D])
  have f2 : Fr jGoM H1 (sI H1 67 4 (nI (A.D + 1))) := Fr.wI _ (Or.inr (Or.inl ⟨rfl, Or.inr (Or.inr rfl)⟩))
  refine ⟨sI H1 67 4 (nI (A.D + 1)), f1.trans f2, ?_, fun Q => ?_⟩
  · refine g1.jgo f2 (gIs) ?_ ?_ ?_ ?_
    · exact (gIn (by omega)).trans (g1.nO.trans (by rw [s.O]))
    · exact (gIn (by omega)).trans g1.nB
    · exact fun i hi => (gIn (by omega)).trans (g1.eM i hi)
    · exact fun i hi => (gIn (by omega)).trans (g1.eW i hi)
  · simp only [sX8_goDay_0, sX8_goDay_1, sX8_goDay_3, sX8_goDay_4, sX8_goDay_7, sX8_goDay_10, sX8_goDay_11, sX8_goDay_98, sX8_goDay_12, sX8_goDay_99, sX8_goDay_15, sX8_goDay_102, sX8_goDay_16 (st := []), sX8_goDay_103, sX8_goDay_19, sX8_goDay_104, sX8_goDay_22, sX8_goDay_91, sX8_goDay_107 (st := []), sX8_goDay_23, sX8_goDay_94, sX8_goDay_24 (st := []), sX8_goDay_27, sX8_goDay_30, sX8_goDay_33, sX8_goDay_34, sX8_goDay_37, sX8_goDay_38, sX8_goDay_39, sX8_goDay_40, sX8_goDay_43, sX8_goDay_44, sX8_goDay_45, sX8_goDay_46, sX8_goDay_49, sX8_goDay_50, sX8_goDay_51 (st := []), sX8_goDay_54, sX8_goDay_55, sX8_goDay_56, sX8_goDay_57, sX8_goDay_60, sX8_goDay_61, sX8_goDay_62 (st := []), sX8_goDay_65, sX8_goDay_66 (st := []), sX8_goDay_69, sX8_goDay_72, sX8_goDay_81, sX8_goDay_73, sX8_goDay_82, sX8_goDay_74, sX8_goDay_85, sX8_goDay_75 (st := []), sX8_goDay_86, sX8_goDay_78, sX8_goDay_87, sX8_goDay_88, sX8_goDay_89, sX8_goDay_90, inb, nz_3, nz_4, nz_6, nz_8, nz_10, nz_100, nz_300, pushr_s, pushr_n, rv_s, rv_n, kd_sI, kd_sR, kd_sJ, sz_sI, sz_sR, sz_sJ, aR_sI, aJ_sI, aI_sR, aI_sJ, not_false_eq_true, true_and, and_true, true_or, or_true, or_false, false_or, eq_self, ite_true, ite_false, if_true, if_false, r1]
    rw [sX8_goDay_97 (st := [])]
    simp only [sX8_goDay_0, sX8_goDay_1, sX8_goDay_3, sX8_goDay_4, sX8_goDay_7, sX8_goDay_10, sX8_goDay_97, sX8_goDay_11, sX8_goDay_98, sX8_goDay_12, sX8_goDay_99, sX8_goDay_15, sX8_goDay_102, sX8_goDay_16 (st := []), sX8_goDay_103, sX8_goDay_19, sX8_goDay_104, sX8_goDay_22, sX8_goDay_91, sX8_goDay_107 (st := []), sX8_goDay_23, sX8_goDay_94, sX8_goDay_24 (st := []), sX8_goDay_27, sX8_goDay_30, sX8_goDay_33, sX8_goDay_34, sX8_goDay_37, sX8_goDay_38, sX8_goDay_39, sX8_goDay_40, sX8_goDay_43, sX8_goDay_44, sX8_goDay_45, sX8_goDay_46, sX8_goDay_49, sX8_goDay_50, sX8_goDay_51 (st := []), sX8_goDay_54, sX8_goDay_55, sX8_goDay_56, sX8_goDay_57, sX8_goDay_60, sX8_goDay_61, sX8_goDay_62 (st := []), sX8_goDay_65, sX8_goDay_66 (st := []), sX8_goDay_69, sX8_goDay_72, sX8_goDay_81, sX8_goDay_73, sX8_goDay_82, sX8_goDay_74, sX8_goDay_85, sX8_goDay_75 (st := []), sX8_goDay_86, sX8_goDay_78, sX8_goDay_87, sX8_goDay_88, sX8_goDay_89, sX8_goDay_90, inb, nz_3, nz_4, nz_6, nz_8, nz_10, nz_100, nz_300, pushr_s, pushr_n, rv_s, rv_n, kd_sI, kd_sR, kd_sJ, sz_sI, sz_sR, sz_sJ, aR_sI, aJ_sI, aI_sR, aI_sJ, not_false_eq_true, true_and, and_true, true_or, or_true, or_false, false_or, eq_self, ite_true, ite_false, if_true, if_false, mk_67 g1.lay, dd, nI_1]
theorem lp_mdays {n : Nat} (hn : n < 2 ^ 31) : ∀ (c i : Nat) (A : AS) (H : AH), MoA H A → Wf A → i + c = n → A.D + c < 20000 → ∃ H', Fr jGoM H H' ∧ MoA H' (daysA c A) ∧ ∀ Q, Wp S (d + 7) 171 2 [.ref 67, .int (nI n), .int (nI i)] [] H Q = Q none H'
  | 0, i, A, H, h, w, hc, hD => by
    have e : nI n ≤ nI i := nI_le (by omega) (by omega)
    refine ⟨H, Fr.refl _ _, h, fun Q => ?_⟩
    rw [sX8_goDays_2]
    simp only [sX8_goDays_0, sX8_goDays_1, sX8_goDays_3, sX8_goDays_4, sX8_goDays_7, sX8_goDays_17 (st := []), sX8_goDays_8 (st := []), sX8_goDays_11, sX8_goDays_14, inb, nz_3, nz_4, nz_6, nz_8, nz_10, nz_100, nz_300, pushr_s, pushr_n, rv_s, rv_n, kd_sI, kd_sR, kd_sJ, sz_sI, sz_sR, sz_sJ, aR_sI, aJ_sI, aI_sR, aI_sJ, not_false_eq_true, true_and, and_true, true_or, or_true, or_false, false_or, eq_self, ite_true, ite_false, if_true, if_false, e]
  | c + 1, i, A, H, h, w, hc, hD => by
    have e : ¬ nI n ≤ nI i := nI_ge (by omega) (by omega)
    obtain ⟨H1, f1, g1, r1⟩ := m_goDay (S := S) (d := d) h w (by omega)
    obtain ⟨H2, f3, g3, r3⟩ := lp_mdays hn c (i + 1) (dayA A) _ g1 (w.day (by omega)) (by omega) (by rw [(dayA_eq A).2.2.1]; omega)
    refine ⟨H2, f1.trans f3, g3, fun Q => ?_⟩
    rw [sX8_goDays_2]
    simp only [sX8_goDays_0, sX8_goDays_1, sX8_goDays_3, sX8_goDays_4, sX8_goDays_7, sX8_goDays_17 (st := []), sX8_goDays_8 (st := []), sX8_goDays_11, sX8_goDays_14, inb, nz_3, nz_4, nz_6, nz_8, nz_10, nz_100, nz_300, pushr_s, pushr_n, rv_s, rv_n, kd_sI, kd_sR, kd_sJ, sz_sI, sz_sR, sz_sJ, aR_sI, aJ_sI, aI_sR, aI_sJ, not_false_eq_true, true_and, and_true, true_or, or_true, or_false, false_or, eq_self, ite_true, ite_false, if_true, if_false, mk_67 h.lay, e, r1, nI_1, r3]
theorem m_goDays {n : Nat} (h : MoA H A) (w : Wf A) (hn : A.D + n < 20000) : ∃ H', Fr jGoM H H' ∧ MoA H' (daysA n A) ∧ ∀ Q, Wp S (d + 7) 171 0 [.ref 67, .int (nI n), hole] [] H Q = Q none H' := by
  obtain ⟨H1, f1, g1, r1⟩ := lp_mdays (S := S) (d := d) (n := n) (by omega) n 0 A H h w (by omega) hn
  refine ⟨H1, f1, g1, fun Q => ?_⟩
  have r1 := r1 Q
  rw [nI_0] at r1
  simp only [sX8_goDays_0, sX8_goDays_1, sX8_goDays_3, sX8_goDays_4, sX8_goDays_7, sX8_goDays_17 (st := []), sX8_goDays_8 (st := []), sX8_goDays_11, sX8_goDays_14, inb, nz_3, nz_4, nz_6, nz_8, nz_10, nz_100, nz_300, pushr_s, pushr_n, rv_s, rv_n, kd_sI, kd_sR, kd_sJ, sz_sI, sz_sR, sz_sJ, aR_sI, aJ_sI, aI_sR, aI_sJ, not_false_eq_true, true_and, and_true, true_or, or_true, or_false, false_or, eq_self, ite_true, ite_false, if_true, if_false, r1]
end MODEL
