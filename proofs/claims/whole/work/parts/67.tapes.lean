-- 67: calls: read, judge, feed, tape, item, shift
def uN {α : Type} (f : Nat → α) (k : Nat) (v : α) : Nat → α := fun j => if j = k then v else f j
theorem uN_s {α : Type} (f : Nat → α) (k : Nat) (v : α) : uN f k v k = v := if_pos rfl
theorem uN_n {α : Type} (f : Nat → α) {k j : Nat} (v : α) (h : j ≠ k) : uN f k v j = f j := if_neg h
theorem gJs {H : AH} {k i : Nat} {v : Int64} : aJ (sJ H k i v) k i = v := (gJ H k i v k i).trans (if_pos ⟨rfl, rfl⟩)
theorem gJn {H : AH} {k i : Nat} {v : Int64} {k2 i2 : Nat} (h : ¬ (k2 = k ∧ i2 = i)) : aJ (sJ H k i v) k2 i2 = aJ H k2 i2 := (gJ H k i v k2 i2).trans (if_neg h)
theorem m1_0 : ((-1 : Int32) < 0) = True := eq_true (by decide +kernel)
theorem m1_1 : ((-1 : Int32) = 1) = False := eq_false (by decide +kernel)
theorem m1_m : ((-1 : Int32) = -1) = True := eq_true rfl
theorem nI_m1 {s : Nat} (h : s < 2 ^ 31) : (nI s = -1) = False := eq_false (fun z => nI_pos h (by rw [z]; decide +kernel))
section CALLS
variable {S : SC} {A : AS} {X : XS}
theorem w_hasItem {d j : Nat} {H : AH} {i : Int32} {Q : Option Value → AH → Prop} (l : CoL H) (r : CoR H X) (hj : j < 6) : Wp S d 45 0 [.ref (55 + 2 * j), .int i] [] H Q = Q (some (.int (rg i (nI (X.tl j))))) H := by
  have k4 := (l.tp j hj).2.1
  have tl := r.tl j hj
  rw [← w_rg]
  by_cases q : i < 0
  · simp only [sX4_hasItem_0, sX4_hasItem_1, sX4_hasItem_4, sX4_hasItem_16, sX4_hasItem_5, sX4_hasItem_17 (st := []), sX4_hasItem_6, sX4_hasItem_9, sX4_hasItem_12, sX4_hasItem_13, inb, nz_3, nz_4, nz_6, nz_8, nz_10, nz_100, nz_300, pushr_s, pushr_n, rv_s, rv_n, kd_sI, kd_sR, kd_sJ, sz_sI, sz_sR, sz_sJ, aR_sI, aJ_sI, aI_sR, aI_sJ, not_false_eq_true, true_and, and_true, true_or, or_true, or_false, false_or, eq_self, ite_true, ite_false, if_true, if_false, k4, q]
  · by_cases q2 : nI (X.tl j) ≤ i
    · simp only [sX4_hasItem_0, sX4_hasItem_1, sX4_hasItem_4, sX4_hasItem_16, sX4_hasItem_5, sX4_hasItem_17 (st := []), sX4_hasItem_6, sX4_hasItem_9, sX4_hasItem_12, sX4_hasItem_13, inb, nz_3, nz_4, nz_6, nz_8, nz_10, nz_100, nz_300, pushr_s, pushr_n, rv_s, rv_n, kd_sI, kd_sR, kd_sJ, sz_sI, sz_sR, sz_sJ, aR_sI, aJ_sI, aI_sR, aI_sJ, not_false_eq_true, true_and, and_true, true_or, or_true, or_false, false_or, eq_self, ite_true, ite_false, if_true, if_false, k4, tl, q, q2]
    · simp only [sX4_hasItem_0, sX4_hasItem_1, sX4_hasItem_4, sX4_hasItem_16, sX4_hasItem_5, sX4_hasItem_17 (st := []), sX4_hasItem_6, sX4_hasItem_9, sX4_hasItem_12, sX4_hasItem_13, inb, nz_3, nz_4, nz_6, nz_8, nz_10, nz_100, nz_300, pushr_s, pushr_n, rv_s, rv_n, kd_sI, kd_sR, kd_sJ, sz_sI, sz_sR, sz_sJ, aR_sI, aJ_sI, aI_sR, aI_sJ, not_false_eq_true, true_and, and_true, true_or, or_true, or_false, false_or, eq_self, ite_true, ite_false, if_true, if_false, k4, tl, q, q2]
theorem ts_c (wx : WfX X) {j : Nat} (hj : j < 6) : (X.ts j = -1 ∧ X.tl j = 0) ∨ (∃ s, s ≤ 4 ∧ X.ts j = nI s ∧ X.tl j ≤ 60) := by
  rcases wx.ts j hj with h | ⟨⟨s, s4, e⟩, h⟩
  · exact Or.inl h
  · exact Or.inr ⟨s, s4, e, h⟩
theorem tl60 (wx : WfX X) {j : Nat} (hj : j < 6) : X.tl j ≤ 60 := by
  rcases wx.ts j hj with ⟨_, h⟩ | ⟨_, h⟩ <;> omega
theorem k_read (wx : WfX X) (a b : Int32) : Rest S A X 108 219 [.ref 0, .int a, .int b] [.ref 67, .int a, .int b] := by
  rcases rg_c a 6 (by decide) with e | ⟨e, j, hj, rfl⟩
  · refine rest_same wx (.long (-9223372036854775808)) (fun H h l r d Q => ?_) (fun H g s d Q => ?_)
    · simp only [sX7_read_0, sX7_read_1 (st := []), sX7_read_4, sX7_read_7, sX7_read_20, sX7_read_8, sX7_read_23 (st := []), sX7_read_11, sX7_read_12, sX7_read_13, sX7_read_14 (st := []), sX7_read_17, sX7_read_24, sX7_read_25, sX7_read_28, sX7_read_29, sX7_read_30, sX7_read_33, sX7_read_34, sX7_read_35 (st := []), inb, nz_3, nz_4, nz_6, nz_8, nz_10, nz_100, nz_300, pushr_s, pushr_n, rv_s, rv_n, kd_sI, kd_sR, kd_sJ, sz_sI, sz_sR, sz_sJ, aR_sI, aJ_sI, aI_sR, aI_sJ, not_false_eq_true, true_and, and_true, true_or, or_true, or_false, false_or, eq_self, ite_true, ite_false, if_true, if_false, w_isTape, e]
    · simp only [sX8_read_0, sX8_read_1, sX8_read_2 (st := []), sX8_read_5, sX8_read_8, sX8_read_34, sX8_read_9, sX8_read_37, sX8_read_12, sX8_read_51 (st := []), sX8_read_13, sX8_read_14, sX8_read_17, sX8_read_18, sX8_read_19, sX8_read_20, sX8_read_21, sX8_read_24, sX8_read_25, sX8_read_26, sX8_read_27, sX8_read_28 (st := []), sX8_read_31, sX8_read_40, sX8_read_41, sX8_read_44, sX8_read_46, sX8_read_47, sX8_read_48, sX8_read_49, sX8_read_50, inb, nz_3, nz_4, nz_6, nz_8, nz_10, nz_100, nz_300, pushr_s, pushr_n, rv_s, rv_n, kd_sI, kd_sR, kd_sJ, sz_sI, sz_sR, sz_sJ, aR_sI, aJ_sI, aI_sR, aI_sJ, not_false_eq_true, true_and, and_true, true_or, or_true, or_false, false_or, eq_self, ite_true, ite_false, if_true, if_false, mk_67 g.lay, n_isTape g.lay, e]
  have t60 := tl60 wx hj
  have jc : (nI j).toNatClampNeg = j := nI_clamp (by omega)
  have jb : ¬ (nI j < 0 ∨ 6 ≤ j) := inN hj (by omega)
  have hin : ∀ d H Q, Wp S d 123 0 [.ref 67, .int b, .int 0, .int (nI (X.tl j) - 1)] [] H Q = Q (some (.int (rg b (nI (X.tl j))))) H := fun d H Q => by rw [m_in, inS_rg (by omega)]
  rcases rg_c b (X.tl j) (by omega) with e2 | ⟨e2, i, hi, rfl⟩
  · refine rest_same wx (.long (-9223372036854775808)) (fun H h l r d Q => ?_) (fun H g s d Q => ?_)
    · have t1 := (l.tp j hj).1
      have k4 := (l.tp j hj).2.1
      simp only [sX7_read_0, sX7_read_1 (st := []), sX7_read_4, sX7_read_7, sX7_read_20, sX7_read_8, sX7_read_23 (st := []), sX7_read_11, sX7_read_12, sX7_read_13, sX7_read_14 (st := []), sX7_read_17, sX7_read_24, sX7_read_25, sX7_read_28, sX7_read_29, sX7_read_30, sX7_read_33, sX7_read_34, sX7_read_35 (st := []), inb, nz_3, nz_4, nz_6, nz_8, nz_10, nz_100, nz_300, pushr_s, pushr_n, rv_s, rv_n, kd_sI, kd_sR, kd_sJ, sz_sI, sz_sR, sz_sJ, aR_sI, aJ_sI, aI_sR, aI_sJ, not_false_eq_true, true_and, and_true, true_or, or_true, or_false, false_or, eq_self, ite_true, ite_false, if_true, if_false, w_isTape, e, nz_1, l.k0, l.r8, l.k54, l.z54, jc, jb, t1, k4, w_hasItem l r hj, e2]
    · have ts := s.ts j hj
      have tl := s.tl j hj
      rcases ts_c wx hj with ⟨q, _⟩ | ⟨x, x4, q, _⟩
      · rw [q] at ts
        simp only [sX8_read_0, sX8_read_1, sX8_read_2 (st := []), sX8_read_5, sX8_read_8, sX8_read_34, sX8_read_9, sX8_read_37, sX8_read_12, sX8_read_51 (st := []), sX8_read_13, sX8_read_14, sX8_read_17, sX8_read_18, sX8_read_19, sX8_read_20, sX8_read_21, sX8_read_24, sX8_read_25, sX8_read_26, sX8_read_27, sX8_read_28 (st := []), sX8_read_31, sX8_read_40, sX8_read_41, sX8_read_44, sX8_read_46, sX8_read_47, sX8_read_48, sX8_read_49, sX8_read_50, inb, nz_3, nz_4, nz_6, nz_8, nz_10, nz_100, nz_300, pushr_s, pushr_n, rv_s, rv_n, kd_sI, kd_sR, kd_sJ, sz_sI, sz_sR, sz_sJ, aR_sI, aJ_sI, aI_sR, aI_sJ, not_false_eq_true, true_and, and_true, true_or, or_true, or_false, false_or, eq_self, ite_true, ite_false, if_true, if_false, mk_67 g.lay, mr_68 g.lay, mk_106 g.lay, mz_106 g.lay, mr_69 g.lay, mk_107 g.lay, mz_107 g.lay, mr_70 g.lay, mk_108 g.lay, mz_108 g.lay, n_isTape g.lay, e, nz_1, jc, jb, ts, m1_0]
      · rw [q] at ts
        have n0 : ¬ nI x < 0 := nI_pos (by omega)
        simp only [sX8_read_0, sX8_read_1, sX8_read_2 (st := []), sX8_read_5, sX8_read_8, sX8_read_34, sX8_read_9, sX8_read_37, sX8_read_12, sX8_read_51 (st := []), sX8_read_13, sX8_read_14, sX8_read_17, sX8_read_18, sX8_read_19, sX8_read_20, sX8_read_21, sX8_read_24, sX8_read_25, sX8_read_26, sX8_read_27, sX8_read_28 (st := []), sX8_read_31, sX8_read_40, sX8_read_41, sX8_read_44, sX8_read_46, sX8_read_47, sX8_read_48, sX8_read_49, sX8_read_50, inb, nz_3, nz_4, nz_6, nz_8, nz_10, nz_100, nz_300, pushr_s, pushr_n, rv_s, rv_n, kd_sI, kd_sR, kd_sJ, sz_sI, sz_sR, sz_sJ, aR_sI, aJ_sI, aI_sR, aI_sJ, not_false_eq_true, true_and, and_true, true_or, or_true, or_false, false_or, eq_self, ite_true, ite_false, if_true, if_false, mk_67 g.lay, mr_68 g.lay, mk_106 g.lay, mz_106 g.lay, mr_69 g.lay, mk_107 g.lay, mz_107 g.lay, mr_70 g.lay, mk_108 g.lay, mz_108 g.lay, n_isTape g.lay, e, nz_1, jc, jb, ts, n0, tl, hin, e2]
        first | done | (split <;> rfl)
  · have ic : (nI i).toNatClampNeg = i := nI_clamp (by omega)
    have ib : ¬ (nI i < 0 ∨ 60 ≤ i) := inN (by omega) (by omega)
    refine rest_same wx (.long (X.ti j i)) (fun H h l r d Q => ?_) (fun H g s d Q => ?_)
    · obtain ⟨t1, k4, t2, k21, z60⟩ := l.tp j hj
      have tv := r.ti j hj i hi
      simp only [sX7_read_0, sX7_read_1 (st := []), sX7_read_4, sX7_read_7, sX7_read_20, sX7_read_8, sX7_read_23 (st := []), sX7_read_11, sX7_read_12, sX7_read_13, sX7_read_14 (st := []), sX7_read_17, sX7_read_24, sX7_read_25, sX7_read_28, sX7_read_29, sX7_read_30, sX7_read_33, sX7_read_34, sX7_read_35 (st := []), inb, nz_3, nz_4, nz_6, nz_8, nz_10, nz_100, nz_300, pushr_s, pushr_n, rv_s, rv_n, kd_sI, kd_sR, kd_sJ, sz_sI, sz_sR, sz_sJ, aR_sI, aJ_sI, aI_sR, aI_sJ, not_false_eq_true, true_and, and_true, true_or, or_true, or_false, false_or, eq_self, ite_true, ite_false, if_true, if_false, w_isTape, e, nz_1, l.k0, l.r8, l.k54, l.z54, jc, jb, t1, k4, w_hasItem l r hj, e2, t2, k21, z60, ic, ib, tv]
    · have ts := s.ts j hj
      have tl := s.tl j hj
      have tv := s.ti j hj i hi
      have i1 : (60 : Int32) * nI j + nI i = nI (60 * j + i) := by rw [show (60 : Int32) = nI 60 from rfl, pk_mul, nI_add]
      have xc : (nI (60 * j + i)).toNatClampNeg = 60 * j + i := nI_clamp (by omega)
      have xb : ¬ (nI (60 * j + i) < 0 ∨ 360 ≤ 60 * j + i) := inN (by omega) (by omega)
      rcases ts_c wx hj with ⟨_, q⟩ | ⟨x, x4, q, _⟩
      · omega
      · rw [q] at ts
        have n0 : ¬ nI x < 0 := nI_pos (by omega)
        simp only [sX8_read_0, sX8_read_1, sX8_read_2 (st := []), sX8_read_5, sX8_read_8, sX8_read_34, sX8_read_9, sX8_read_37, sX8_read_12, sX8_read_51 (st := []), sX8_read_13, sX8_read_14, sX8_read_17, sX8_read_18, sX8_read_19, sX8_read_20, sX8_read_21, sX8_read_24, sX8_read_25, sX8_read_26, sX8_read_27, sX8_read_28 (st := []), sX8_read_31, sX8_read_40, sX8_read_41, sX8_read_44, sX8_read_46, sX8_read_47, sX8_read_48, sX8_read_49, sX8_read_50, inb, nz_3, nz_4, nz_6, nz_8, nz_10, nz_100, nz_300, pushr_s, pushr_n, rv_s, rv_n, kd_sI, kd_sR, kd_sJ, sz_sI, sz_sR, sz_sJ, aR_sI, aJ_sI, aI_sR, aI_sJ, not_false_eq_true, true_and, and_true, true_or, or_true, or_false, false_or, eq_self, ite_true, ite_false, if_true, if_false, mk_67 g.lay, mr_68 g.lay, mk_106 g.lay, mz_106 g.lay, mr_69 g.lay, mk_107 g.lay, mz_107 g.lay, mr_70 g.lay, mk_108 g.lay, mz_108 g.lay, n_isTape g.lay, e, nz_1, jc, jb, ts, n0, tl, hin, e2, i1, xc, xb, tv]
/-- judged: from a pilgrim on -/
def jdS (A : AS) (X : XS) (j : Nat) (b : Int32) : Nat → Nat → Int32
  | 0, _ => -5
  | c + 1, p => if b < 0 then nI (100 + p) else if X.tl j ≤ ix b + p then nI (100 + p) else if X.ti j (ix b + p) = (A.M p).toInt64 then jdS A X j b c (p + 1) else nI p
theorem jd_cmp {k p t : Nat} (hk : k < 2 ^ 31) (hp : p ≤ 5) (ht : t ≤ 60) : (nI t - nI p ≤ nI k ↔ t ≤ k + p) ∧ (nI t - nI p - 1 < nI k ↔ t ≤ k + p) := by
  have e1 : (nI t - nI p).toInt = (t : Int) - p := pk_sub_toInt (by omega) (by omega)
  have e2 : (nI k).toInt = (k : Int) := nI_toInt hk
  have e3 : (nI t - nI p - 1).toInt = (t : Int) - p - 1 := by
    by_cases q : p + 1 ≤ t
    · have : nI t - nI p - 1 = nI (t - p - 1) := by
        rw [pk_sub (by omega), show t - p = (t - p - 1) + 1 by omega, nI_pred]
        exact congrArg nI (by omega)
      rw [this, nI_toInt (by omega)]
      omega
    · have h : ∀ t, t ≤ 5 → ∀ p, p ≤ 5 → (nI t - nI p - 1).toInt = (t : Int) - p - 1 := by decide +kernel
      exact h t (by omega) p hp
  refine ⟨?_, ?_⟩
  · rw [Int32.le_iff_toInt_le, e1, e2]; omega
  · rw [Int32.lt_iff_toInt_lt, e3, e2]; omega
theorem lp_judge {d j : Nat} {H : AH} {b : Int32} {Q : Option Value → AH → Prop} (h : StA H 1 A) (l : CoL H) (r : CoR H X) (w : Wf A) (wx : WfX X) (hj : j < 6) : ∀ (c p : Nat), p + c = A.P → Wp S d 120 2 [.ref 0, .ref (55 + 2 * j), .int b, .int (nI p)] [] H Q = Q (some (.int (jdS A X j b c p))) H
  | 0, p, hc => by
    have hP := w.hP
    have e : nI A.P ≤ nI p := nI_le (by omega) (by omega)
    rw [sX7_judged_2]
    simp only [sX7_judged_0, sX7_judged_1, sX7_judged_3, sX7_judged_4, sX7_judged_7, sX7_judged_10, sX7_judged_13, sX7_judged_62, sX7_judged_14, sX7_judged_64 (st := []), sX7_judged_17, sX7_judged_27, sX7_judged_18, sX7_judged_29, sX7_judged_19, sX7_judged_30, sX7_judged_22, sX7_judged_31 (st := []), sX7_judged_23, sX7_judged_24, sX7_judged_32, sX7_judged_33, sX7_judged_36, sX7_judged_37, sX7_judged_38, sX7_judged_39, sX7_judged_40, sX7_judged_41, sX7_judged_44, sX7_judged_47, sX7_judged_48, sX7_judged_49, sX7_judged_50, sX7_judged_51, sX7_judged_54, sX7_judged_56, sX7_judged_55 (st := []), sX7_judged_59, inb, nz_3, nz_4, nz_6, nz_8, nz_10, nz_100, nz_300, pushr_s, pushr_n, rv_s, rv_n, kd_sI, kd_sR, kd_sJ, sz_sI, sz_sR, sz_sJ, aR_sI, aJ_sI, aI_sR, aI_sJ, not_false_eq_true, true_and, and_true, true_or, or_true, or_false, false_or, eq_self, ite_true, ite_false, if_true, if_false, l.k0, l.r0, h.lay.1, h.nP, e]
    rfl
  | c + 1, p, hc => by
    have hP := w.hP
    have hl := h.lay
    have t60 := tl60 wx hj
    obtain ⟨t1, k4, t2, k21, z60⟩ := l.tp j hj
    have tl := r.tl j hj
    have e : ¬ nI A.P ≤ nI p := nI_ge (by omega) (by omega)
    have h100 : (100 : Int32) + nI p = nI (100 + p) := nI_add 100 p
    rw [sX7_judged_2, jdS]
    by_cases q : b < 0
    · rw [if_pos q]
      simp only [sX7_judged_0, sX7_judged_1, sX7_judged_3, sX7_judged_4, sX7_judged_7, sX7_judged_10, sX7_judged_13, sX7_judged_62, sX7_judged_14, sX7_judged_64 (st := []), sX7_judged_17, sX7_judged_27, sX7_judged_18, sX7_judged_29, sX7_judged_19, sX7_judged_30, sX7_judged_22, sX7_judged_31 (st := []), sX7_judged_23, sX7_judged_24, sX7_judged_32, sX7_judged_33, sX7_judged_36, sX7_judged_37, sX7_judged_38, sX7_judged_39, sX7_judged_40, sX7_judged_41, sX7_judged_44, sX7_judged_47, sX7_judged_48, sX7_judged_49, sX7_judged_50, sX7_judged_51, sX7_judged_54, sX7_judged_56, sX7_judged_55 (st := []), sX7_judged_59, inb, nz_3, nz_4, nz_6, nz_8, nz_10, nz_100, nz_300, pushr_s, pushr_n, rv_s, rv_n, kd_sI, kd_sR, kd_sJ, sz_sI, sz_sR, sz_sJ, aR_sI, aJ_sI, aI_sR, aI_sJ, not_false_eq_true, true_and, and_true, true_or, or_true, or_false, false_or, eq_self, ite_true, ite_false, if_true, if_false, l.k0, l.r0, h.lay.1, h.nP, e, q, h100]
    · rw [if_neg q]
      obtain ⟨k, hk, rfl⟩ := nI_of q
      rw [ix_nI hk]
      have cmp := (jd_cmp (k := k) (p := p) (t := X.tl j) hk (by omega) t60).1
      by_cases q2 : X.tl j ≤ k + p
      · have q3 : ¬ nI k < nI (X.tl j) - nI p := Int32.not_lt.mpr (cmp.mpr q2)
        rw [if_pos q2]
        simp only [sX7_judged_0, sX7_judged_1, sX7_judged_3, sX7_judged_4, sX7_judged_7, sX7_judged_10, sX7_judged_13, sX7_judged_62, sX7_judged_14, sX7_judged_64 (st := []), sX7_judged_17, sX7_judged_27, sX7_judged_18, sX7_judged_29, sX7_judged_19, sX7_judged_30, sX7_judged_22, sX7_judged_31 (st := []), sX7_judged_23, sX7_judged_24, sX7_judged_32, sX7_judged_33, sX7_judged_36, sX7_judged_37, sX7_judged_38, sX7_judged_39, sX7_judged_40, sX7_judged_41, sX7_judged_44, sX7_judged_47, sX7_judged_48, sX7_judged_49, sX7_judged_50, sX7_judged_51, sX7_judged_54, sX7_judged_56, sX7_judged_55 (st := []), sX7_judged_59, inb, nz_3, nz_4, nz_6, nz_8, nz_10, nz_100, nz_300, pushr_s, pushr_n, rv_s, rv_n, kd_sI, kd_sR, kd_sJ, sz_sI, sz_sR, sz_sJ, aR_sI, aJ_sI, aI_sR, aI_sJ, not_false_eq_true, true_and, and_true, true_or, or_true, or_false, false_or, eq_self, ite_true, ite_false, if_true, if_false, l.k0, l.r0, h.lay.1, h.nP, e, q, k4, tl, q3, h100]
      · have q3 : nI k < nI (X.tl j) - nI p := Int32.not_le.mp (fun z => q2 (cmp.mp z))
        have kc : (nI (k + p)).toNatClampNeg = k + p := nI_clamp (by omega)
        have kb : ¬ (nI (k + p) < 0 ∨ 60 ≤ k + p) := inN (by omega) (by omega)
        have pc : (nI p).toNatClampNeg = p := nI_clamp (by omega)
        have pb : ¬ (nI p < 0 ∨ 5 ≤ p) := inN (by omega) (by omega)
        have tv := r.ti j hj (k + p) (by omega)
        have mv : aI H 5 p = A.M p := h.eM p (by omega)
        have ih := lp_judge (d := d) (b := nI k) (Q := Q) h l r w wx hj c (p + 1) (by omega)
        rw [if_neg q2]
        by_cases q4 : X.ti j (k + p) = (A.M p).toInt64
        · rw [if_pos q4]
          have q5 : (lg_cmp (X.ti j (k + p)) (A.M p).toInt64 = 0) = True := by rw [lg_eq]; exact eq_true q4
          simp only [sX7_judged_0, sX7_judged_1, sX7_judged_3, sX7_judged_4, sX7_judged_7, sX7_judged_10, sX7_judged_13, sX7_judged_62, sX7_judged_14, sX7_judged_64 (st := []), sX7_judged_17, sX7_judged_27, sX7_judged_18, sX7_judged_29, sX7_judged_19, sX7_judged_30, sX7_judged_22, sX7_judged_31 (st := []), sX7_judged_23, sX7_judged_24, sX7_judged_32, sX7_judged_33, sX7_judged_36, sX7_judged_37, sX7_judged_38, sX7_judged_39, sX7_judged_40, sX7_judged_41, sX7_judged_44, sX7_judged_47, sX7_judged_48, sX7_judged_49, sX7_judged_50, sX7_judged_51, sX7_judged_54, sX7_judged_56, sX7_judged_55 (st := []), sX7_judged_59, inb, nz_3, nz_4, nz_6, nz_8, nz_10, nz_100, nz_300, pushr_s, pushr_n, rv_s, rv_n, kd_sI, kd_sR, kd_sJ, sz_sI, sz_sR, sz_sJ, aR_sI, aJ_sI, aI_sR, aI_sJ, not_false_eq_true, true_and, and_true, true_or, or_true, or_false, false_or, eq_self, ite_true, ite_false, if_true, if_false, l.k0, l.r0, hl.1, hl.2.1, hl.2.2.1, hl.2.2.2.1, hl.2.2.2.2.1, hl.2.2.2.2.2.1, hl.2.2.2.2.2.2.1, hl.2.2.2.2.2.2.2.1, hl.2.2.2.2.2.2.2.2.1, hl.2.2.2.2.2.2.2.2.2.1, hl.2.2.2.2.2.2.2.2.2.2.1, hl.2.2.2.2.2.2.2.2.2.2.2.1, hl.2.2.2.2.2.2.2.2.2.2.2.2.1, hl.2.2.2.2.2.2.2.2.2.2.2.2.2.1, hl.2.2.2.2.2.2.2.2.2.2.2.2.2.2.1, hl.2.2.2.2.2.2.2.2.2.2.2.2.2.2.2.1, hl.2.2.2.2.2.2.2.2.2.2.2.2.2.2.2.2.1, hl.2.2.2.2.2.2.2.2.2.2.2.2.2.2.2.2.2.1, hl.2.2.2.2.2.2.2.2.2.2.2.2.2.2.2.2.2.2.1, hl.2.2.2.2.2.2.2.2.2.2.2.2.2.2.2.2.2.2.2.1, hl.2.2.2.2.2.2.2.2.2.2.2.2.2.2.2.2.2.2.2.2.1, hl.2.2.2.2.2.2.2.2.2.2.2.2.2.2.2.2.2.2.2.2.2.1, hl.2.2.2.2.2.2.2.2.2.2.2.2.2.2.2.2.2.2.2.2.2.2.1, hl.2.2.2.2.2.2.2.2.2.2.2.2.2.2.2.2.2.2.2.2.2.2.2.1, hl.2.2.2.2.2.2.2.2.2.2.2.2.2.2.2.2.2.2.2.2.2.2.2.2.1, hl.2.2.2.2.2.2.2.2.2.2.2.2.2.2.2.2.2.2.2.2.2.2.2.2.2.1, hl.2.2.2.2.2.2.2.2.2.2.2.2.2.2.2.2.2.2.2.2.2.2.2.2.2.2.1, hl.2.2.2.2.2.2.2.2.2.2.2.2.2.2.2.2.2.2.2.2.2.2.2.2.2.2.2.1, hl.2.2.2.2.2.2.2.2.2.2.2.2.2.2.2.2.2.2.2.2.2.2.2.2.2.2.2.2.1, hl.2.2.2.2.2.2.2.2.2.2.2.2.2.2.2.2.2.2.2.2.2.2.2.2.2.2.2.2.2.1, hl.2.2.2.2.2.2.2.2.2.2.2.2.2.2.2.2.2.2.2.2.2.2.2.2.2.2.2.2.2.2.1, hl.2.2.2.2.2.2.2.2.2.2.2.2.2.2.2.2.2.2.2.2.2.2.2.2.2.2.2.2.2.2.2.1, hl.2.2.2.2.2.2.2.2.2.2.2.2.2.2.2.2.2.2.2.2.2.2.2.2.2.2.2.2.2.2.2.2.1, hl.2.2.2.2.2.2.2.2.2.2.2.2.2.2.2.2.2.2.2.2.2.2.2.2.2.2.2.2.2.2.2.2.2.1, hl.2.2.2.2.2.2.2.2.2.2.2.2.2.2.2.2.2.2.2.2.2.2.2.2.2.2.2.2.2.2.2.2.2.2.1, hl.2.2.2.2.2.2.2.2.2.2.2.2.2.2.2.2.2.2.2.2.2.2.2.2.2.2.2.2.2.2.2.2.2.2.2.1, hl.2.2.2.2.2.2.2.2.2.2.2.2.2.2.2.2.2.2.2.2.2.2.2.2.2.2.2.2.2.2.2.2.2.2.2.2.1, hl.2.2.2.2.2.2.2.2.2.2.2.2.2.2.2.2.2.2.2.2.2.2.2.2.2.2.2.2.2.2.2.2.2.2.2.2.2.1, hl.2.2.2.2.2.2.2.2.2.2.2.2.2.2.2.2.2.2.2.2.2.2.2.2.2.2.2.2.2.2.2.2.2.2.2.2.2.2.1, hl.2.2.2.2.2.2.2.2.2.2.2.2.2.2.2.2.2.2.2.2.2.2.2.2.2.2.2.2.2.2.2.2.2.2.2.2.2.2.2, h.nP, e, q, k4, tl, q3, t2, k21, z60, nI_add, kc, kb, pc, pb, tv, mv, q5, nI_1, ih]
        · rw [if_neg q4]
          have q5 : (lg_cmp (X.ti j (k + p)) (A.M p).toInt64 = 0) = False := by rw [lg_eq]; exact eq_false q4
          simp only [sX7_judged_0, sX7_judged_1, sX7_judged_3, sX7_judged_4, sX7_judged_7, sX7_judged_10, sX7_judged_13, sX7_judged_62, sX7_judged_14, sX7_judged_64 (st := []), sX7_judged_17, sX7_judged_27, sX7_judged_18, sX7_judged_29, sX7_judged_19, sX7_judged_30, sX7_judged_22, sX7_judged_31 (st := []), sX7_judged_23, sX7_judged_24, sX7_judged_32, sX7_judged_33, sX7_judged_36, sX7_judged_37, sX7_judged_38, sX7_judged_39, sX7_judged_40, sX7_judged_41, sX7_judged_44, sX7_judged_47, sX7_judged_48, sX7_judged_49, sX7_judged_50, sX7_judged_51, sX7_judged_54, sX7_judged_56, sX7_judged_55 (st := []), sX7_judged_59, inb, nz_3, nz_4, nz_6, nz_8, nz_10, nz_100, nz_300, pushr_s, pushr_n, rv_s, rv_n, kd_sI, kd_sR, kd_sJ, sz_sI, sz_sR, sz_sJ, aR_sI, aJ_sI, aI_sR, aI_sJ, not_false_eq_true, true_and, and_true, true_or, or_true, or_false, false_or, eq_self, ite_true, ite_false, if_true, if_false, l.k0, l.r0, hl.1, hl.2.1, hl.2.2.1, hl.2.2.2.1, hl.2.2.2.2.1, hl.2.2.2.2.2.1, hl.2.2.2.2.2.2.1, hl.2.2.2.2.2.2.2.1, hl.2.2.2.2.2.2.2.2.1, hl.2.2.2.2.2.2.2.2.2.1, hl.2.2.2.2.2.2.2.2.2.2.1, hl.2.2.2.2.2.2.2.2.2.2.2.1, hl.2.2.2.2.2.2.2.2.2.2.2.2.1, hl.2.2.2.2.2.2.2.2.2.2.2.2.2.1, hl.2.2.2.2.2.2.2.2.2.2.2.2.2.2.1, hl.2.2.2.2.2.2.2.2.2.2.2.2.2.2.2.1, hl.2.2.2.2.2.2.2.2.2.2.2.2.2.2.2.2.1, hl.2.2.2.2.2.2.2.2.2.2.2.2.2.2.2.2.2.1, hl.2.2.2.2.2.2.2.2.2.2.2.2.2.2.2.2.2.2.1, hl.2.2.2.2.2.2.2.2.2.2.2.2.2.2.2.2.2.2.2.1, hl.2.2.2.2.2.2.2.2.2.2.2.2.2.2.2.2.2.2.2.2.1, hl.2.2.2.2.2.2.2.2.2.2.2.2.2.2.2.2.2.2.2.2.2.1, hl.2.2.2.2.2.2.2.2.2.2.2.2.2.2.2.2.2.2.2.2.2.2.1, hl.2.2.2.2.2.2.2.2.2.2.2.2.2.2.2.2.2.2.2.2.2.2.2.1, hl.2.2.2.2.2.2.2.2.2.2.2.2.2.2.2.2.2.2.2.2.2.2.2.2.1, hl.2.2.2.2.2.2.2.2.2.2.2.2.2.2.2.2.2.2.2.2.2.2.2.2.2.1, hl.2.2.2.2.2.2.2.2.2.2.2.2.2.2.2.2.2.2.2.2.2.2.2.2.2.2.1, hl.2.2.2.2.2.2.2.2.2.2.2.2.2.2.2.2.2.2.2.2.2.2.2.2.2.2.2.1, hl.2.2.2.2.2.2.2.2.2.2.2.2.2.2.2.2.2.2.2.2.2.2.2.2.2.2.2.2.1, hl.2.2.2.2.2.2.2.2.2.2.2.2.2.2.2.2.2.2.2.2.2.2.2.2.2.2.2.2.2.1, hl.2.2.2.2.2.2.2.2.2.2.2.2.2.2.2.2.2.2.2.2.2.2.2.2.2.2.2.2.2.2.1, hl.2.2.2.2.2.2.2.2.2.2.2.2.2.2.2.2.2.2.2.2.2.2.2.2.2.2.2.2.2.2.2.1, hl.2.2.2.2.2.2.2.2.2.2.2.2.2.2.2.2.2.2.2.2.2.2.2.2.2.2.2.2.2.2.2.2.1, hl.2.2.2.2.2.2.2.2.2.2.2.2.2.2.2.2.2.2.2.2.2.2.2.2.2.2.2.2.2.2.2.2.2.1, hl.2.2.2.2.2.2.2.2.2.2.2.2.2.2.2.2.2.2.2.2.2.2.2.2.2.2.2.2.2.2.2.2.2.2.1, hl.2.2.2.2.2.2.2.2.2.2.2.2.2.2.2.2.2.2.2.2.2.2.2.2.2.2.2.2.2.2.2.2.2.2.2.1, hl.2.2.2.2.2.2.2.2.2.2.2.2.2.2.2.2.2.2.2.2.2.2.2.2.2.2.2.2.2.2.2.2.2.2.2.2.1, hl.2.2.2.2.2.2.2.2.2.2.2.2.2.2.2.2.2.2.2.2.2.2.2.2.2.2.2.2.2.2.2.2.2.2.2.2.2.1, hl.2.2.2.2.2.2.2.2.2.2.2.2.2.2.2.2.2.2.2.2.2.2.2.2.2.2.2.2.2.2.2.2.2.2.2.2.2.2.1, hl.2.2.2.2.2.2.2.2.2.2.2.2.2.2.2.2.2.2.2.2.2.2.2.2.2.2.2.2.2.2.2.2.2.2.2.2.2.2.2, h.nP, e, q, k4, tl, q3, t2, k21, z60, nI_add, kc, kb, pc, pb, tv, mv, q5]
theorem lp_mjudge {d j : Nat} {H : AH} {b : Int32} {Q : Option Value → AH → Prop} (g : MoA H A) (s : RfR H A.L X) (w : Wf A) (wx : WfX X) (hj : j < 6) : ∀ (c p : Nat), p + c = A.P → Wp S d 200 34 [.ref 67, .int (nI j), .int b, .int (nI p)] [] H Q = Q (some (.int (jdS A X j b c p))) H
  | 0, p, hc => by
    have hP := w.hP
    have e : nI A.P ≤ nI p := nI_le (by omega) (by omega)
    rw [sX8_judge_34]
    simp only [sX8_judge_0, sX8_judge_1, sX8_judge_2 (st := []), sX8_judge_5, sX8_judge_8, sX8_judge_10, sX8_judge_9 (st := []), sX8_judge_11, sX8_judge_14, sX8_judge_15, sX8_judge_16, sX8_judge_19, sX8_judge_32, sX8_judge_20, sX8_judge_33, sX8_judge_23, sX8_judge_24, sX8_judge_35, sX8_judge_25, sX8_judge_36, sX8_judge_26, sX8_judge_39, sX8_judge_29, sX8_judge_42, sX8_judge_106, sX8_judge_31 (st := []), sX8_judge_43, sX8_judge_108 (st := []), sX8_judge_46, sX8_judge_47, sX8_judge_48, sX8_judge_51, sX8_judge_69, sX8_judge_52, sX8_judge_71, sX8_judge_55, sX8_judge_72, sX8_judge_56, sX8_judge_73 (st := []), sX8_judge_57, sX8_judge_60, sX8_judge_61, sX8_judge_62, sX8_judge_63, sX8_judge_64, sX8_judge_65, sX8_judge_66, sX8_judge_74, sX8_judge_75, sX8_judge_78, sX8_judge_80, sX8_judge_81, sX8_judge_82, sX8_judge_83, sX8_judge_84, sX8_judge_85, sX8_judge_86, sX8_judge_87, sX8_judge_88, sX8_judge_91, sX8_judge_92, sX8_judge_93, sX8_judge_94, sX8_judge_95, sX8_judge_98, sX8_judge_100, sX8_judge_99 (st := []), sX8_judge_103, inb, nz_3, nz_4, nz_6, nz_8, nz_10, nz_100, nz_300, pushr_s, pushr_n, rv_s, rv_n, kd_sI, kd_sR, kd_sJ, sz_sI, sz_sR, sz_sJ, aR_sI, aJ_sI, aI_sR, aI_sJ, not_false_eq_true, true_and, and_true, true_or, or_true, or_false, false_or, eq_self, ite_true, ite_false, if_true, if_false, mk_67 g.lay, g.nP, e]
    rfl
  | c + 1, p, hc => by
    have hP := w.hP
    have t60 := tl60 wx hj
    have tl := s.tl j hj
    have ts := s.ts j hj
    have jc : (nI j).toNatClampNeg = j := nI_clamp (by omega)
    have jb : ¬ (nI j < 0 ∨ 6 ≤ j) := inN hj (by omega)
    have e : ¬ nI A.P ≤ nI p := nI_ge (by omega) (by omega)
    have h100 : (100 : Int32) + nI p = nI (100 + p) := nI_add 100 p
    rw [sX8_judge_34, jdS]
    rcases ts_c wx hj with ⟨z1, z2⟩ | ⟨x, x4, z1, _⟩
    · rw [z1] at ts
      have : (if b < 0 then nI (100 + p) else if X.tl j ≤ ix b + p then nI (100 + p) else if X.ti j (ix b + p) = (A.M p).toInt64 then jdS A X j b c (p + 1) else nI p) = nI (100 + p) := by
        by_cases q : b < 0
        · rw [if_pos q]
        · rw [if_neg q, if_pos (by omega)]
      rw [this]
      simp only [sX8_judge_0, sX8_judge_1, sX8_judge_2 (st := []), sX8_judge_5, sX8_judge_8, sX8_judge_10, sX8_judge_9 (st := []), sX8_judge_11, sX8_judge_14, sX8_judge_15, sX8_judge_16, sX8_judge_19, sX8_judge_32, sX8_judge_20, sX8_judge_33, sX8_judge_23, sX8_judge_24, sX8_judge_35, sX8_judge_25, sX8_judge_36, sX8_judge_26, sX8_judge_39, sX8_judge_29, sX8_judge_42, sX8_judge_106, sX8_judge_31 (st := []), sX8_judge_43, sX8_judge_108 (st := []), sX8_judge_46, sX8_judge_47, sX8_judge_48, sX8_judge_51, sX8_judge_69, sX8_judge_52, sX8_judge_71, sX8_judge_55, sX8_judge_72, sX8_judge_56, sX8_judge_73 (st := []), sX8_judge_57, sX8_judge_60, sX8_judge_61, sX8_judge_62, sX8_judge_63, sX8_judge_64, sX8_judge_65, sX8_judge_66, sX8_judge_74, sX8_judge_75, sX8_judge_78, sX8_judge_80, sX8_judge_81, sX8_judge_82, sX8_judge_83, sX8_judge_84, sX8_judge_85, sX8_judge_86, sX8_judge_87, sX8_judge_88, sX8_judge_91, sX8_judge_92, sX8_judge_93, sX8_judge_94, sX8_judge_95, sX8_judge_98, sX8_judge_100, sX8_judge_99 (st := []), sX8_judge_103, inb, nz_3, nz_4, nz_6, nz_8, nz_10, nz_100, nz_300, pushr_s, pushr_n, rv_s, rv_n, kd_sI, kd_sR, kd_sJ, sz_sI, sz_sR, sz_sJ, aR_sI, aJ_sI, aI_sR, aI_sJ, not_false_eq_true, true_and, and_true, true_or, or_true, or_false, false_or, eq_self, ite_true, ite_false, if_true, if_false, mk_67 g.lay, mr_68 g.lay, mk_106 g.lay, mz_106 g.lay, mr_69 g.lay, mk_107 g.lay, mz_107 g.lay, mr_70 g.lay, mk_108 g.lay, mz_108 g.lay, mr_8 g.lay, mk_71 g.lay, mz_71 g.lay, g.nP, e, jc, jb, ts, m1_0, h100]
    · rw [z1] at ts
      have n0 : ¬ nI x < 0 := nI_pos (by omega)
      have j0 : ¬ nI j < 0 := nI_pos (by omega)
      have j6 : ¬ 6 ≤ j := by omega
      by_cases q : b < 0
      · rw [if_pos q]
        simp only [sX8_judge_0, sX8_judge_1, sX8_judge_2 (st := []), sX8_judge_5, sX8_judge_8, sX8_judge_10, sX8_judge_9 (st := []), sX8_judge_11, sX8_judge_14, sX8_judge_15, sX8_judge_16, sX8_judge_19, sX8_judge_32, sX8_judge_20, sX8_judge_33, sX8_judge_23, sX8_judge_24, sX8_judge_35, sX8_judge_25, sX8_judge_36, sX8_judge_26, sX8_judge_39, sX8_judge_29, sX8_judge_42, sX8_judge_106, sX8_judge_31 (st := []), sX8_judge_43, sX8_judge_108 (st := []), sX8_judge_46, sX8_judge_47, sX8_judge_48, sX8_judge_51, sX8_judge_69, sX8_judge_52, sX8_judge_71, sX8_judge_55, sX8_judge_72, sX8_judge_56, sX8_judge_73 (st := []), sX8_judge_57, sX8_judge_60, sX8_judge_61, sX8_judge_62, sX8_judge_63, sX8_judge_64, sX8_judge_65, sX8_judge_66, sX8_judge_74, sX8_judge_75, sX8_judge_78, sX8_judge_80, sX8_judge_81, sX8_judge_82, sX8_judge_83, sX8_judge_84, sX8_judge_85, sX8_judge_86, sX8_judge_87, sX8_judge_88, sX8_judge_91, sX8_judge_92, sX8_judge_93, sX8_judge_94, sX8_judge_95, sX8_judge_98, sX8_judge_100, sX8_judge_99 (st := []), sX8_judge_103, inb, nz_3, nz_4, nz_6, nz_8, nz_10, nz_100, nz_300, pushr_s, pushr_n, rv_s, rv_n, kd_sI, kd_sR, kd_sJ, sz_sI, sz_sR, sz_sJ, aR_sI, aJ_sI, aI_sR, aI_sJ, not_false_eq_true, true_and, and_true, true_or, or_true, or_false, false_or, eq_self, ite_true, ite_false, if_true, if_false, mk_67 g.lay, mr_68 g.lay, mk_106 g.lay, mz_106 g.lay, mr_69 g.lay, mk_107 g.lay, mz_107 g.lay, mr_70 g.lay, mk_108 g.lay, mz_108 g.lay, mr_8 g.lay, mk_71 g.lay, mz_71 g.lay, g.nP, e, jc, jb, ts, n0, q, h100]
      · rw [if_neg q]
        obtain ⟨k, hk, rfl⟩ := nI_of q
        rw [ix_nI hk]
        have cmp := (jd_cmp (k := k) (p := p) (t := X.tl j) hk (by omega) t60).2
        by_cases q2 : X.tl j ≤ k + p
        · have q3 : ¬ nI k ≤ nI (X.tl j) - nI p - 1 := Int32.not_le.mpr (cmp.mpr q2)
          rw [if_pos q2]
          simp only [sX8_judge_0, sX8_judge_1, sX8_judge_2 (st := []), sX8_judge_5, sX8_judge_8, sX8_judge_10, sX8_judge_9 (st := []), sX8_judge_11, sX8_judge_14, sX8_judge_15, sX8_judge_16, sX8_judge_19, sX8_judge_32, sX8_judge_20, sX8_judge_33, sX8_judge_23, sX8_judge_24, sX8_judge_35, sX8_judge_25, sX8_judge_36, sX8_judge_26, sX8_judge_39, sX8_judge_29, sX8_judge_42, sX8_judge_106, sX8_judge_31 (st := []), sX8_judge_43, sX8_judge_108 (st := []), sX8_judge_46, sX8_judge_47, sX8_judge_48, sX8_judge_51, sX8_judge_69, sX8_judge_52, sX8_judge_71, sX8_judge_55, sX8_judge_72, sX8_judge_56, sX8_judge_73 (st := []), sX8_judge_57, sX8_judge_60, sX8_judge_61, sX8_judge_62, sX8_judge_63, sX8_judge_64, sX8_judge_65, sX8_judge_66, sX8_judge_74, sX8_judge_75, sX8_judge_78, sX8_judge_80, sX8_judge_81, sX8_judge_82, sX8_judge_83, sX8_judge_84, sX8_judge_85, sX8_judge_86, sX8_judge_87, sX8_judge_88, sX8_judge_91, sX8_judge_92, sX8_judge_93, sX8_judge_94, sX8_judge_95, sX8_judge_98, sX8_judge_100, sX8_judge_99 (st := []), sX8_judge_103, inb, nz_3, nz_4, nz_6, nz_8, nz_10, nz_100, nz_300, pushr_s, pushr_n, rv_s, rv_n, kd_sI, kd_sR, kd_sJ, sz_sI, sz_sR, sz_sJ, aR_sI, aJ_sI, aI_sR, aI_sJ, not_false_eq_true, true_and, and_true, true_or, or_true, or_false, false_or, eq_self, ite_true, ite_false, if_true, if_false, mk_67 g.lay, mr_68 g.lay, mk_106 g.lay, mz_106 g.lay, mr_69 g.lay, mk_107 g.lay, mz_107 g.lay, mr_70 g.lay, mk_108 g.lay, mz_108 g.lay, mr_8 g.lay, mk_71 g.lay, mz_71 g.lay, g.nP, e, jc, j0, j6, ts, n0, q, tl, q3, h100]
        · have q3 : nI k ≤ nI (X.tl j) - nI p - 1 := Int32.not_lt.mp (fun z => q2 (cmp.mp z))
          have i1 : (60 : Int32) * nI j + nI k + nI p = nI (60 * j + (k + p)) := by rw [show (60 : Int32) = nI 60 from rfl, pk_mul, nI_add, nI_add, Nat.add_assoc]
          have kc : (nI (60 * j + (k + p))).toNatClampNeg = 60 * j + (k + p) := nI_clamp (by omega)
          have kb : ¬ (nI (60 * j + (k + p)) < 0 ∨ 360 ≤ 60 * j + (k + p)) := inN (by omega) (by omega)
          have pc : (nI p).toNatClampNeg = p := nI_clamp (by omega)
          have pb : ¬ (nI p < 0 ∨ 5 ≤ p) := inN (by omega) (by omega)
          have tv := s.ti j hj (k + p) (by omega)
          have mv : aI H 71 p = A.M p := g.eM p (by omega)
          have ih := lp_mjudge (d := d) (b := nI k) (Q := Q) g s w wx hj c (p + 1) (by omega)
          rw [if_neg q2]
          by_cases q4 : X.ti j (k + p) = (A.M p).toInt64
          · rw [if_pos q4]
            have q5 : (lg_cmp (X.ti j (k + p)) (A.M p).toInt64 = 0) = True := by rw [lg_eq]; exact eq_true q4
            simp only [sX8_judge_0, sX8_judge_1, sX8_judge_2 (st := []), sX8_judge_5, sX8_judge_8, sX8_judge_10, sX8_judge_9 (st := []), sX8_judge_11, sX8_judge_14, sX8_judge_15, sX8_judge_16, sX8_judge_19, sX8_judge_32, sX8_judge_20, sX8_judge_33, sX8_judge_23, sX8_judge_24, sX8_judge_35, sX8_judge_25, sX8_judge_36, sX8_judge_26, sX8_judge_39, sX8_judge_29, sX8_judge_42, sX8_judge_106, sX8_judge_31 (st := []), sX8_judge_43, sX8_judge_108 (st := []), sX8_judge_46, sX8_judge_47, sX8_judge_48, sX8_judge_51, sX8_judge_69, sX8_judge_52, sX8_judge_71, sX8_judge_55, sX8_judge_72, sX8_judge_56, sX8_judge_73 (st := []), sX8_judge_57, sX8_judge_60, sX8_judge_61, sX8_judge_62, sX8_judge_63, sX8_judge_64, sX8_judge_65, sX8_judge_66, sX8_judge_74, sX8_judge_75, sX8_judge_78, sX8_judge_80, sX8_judge_81, sX8_judge_82, sX8_judge_83, sX8_judge_84, sX8_judge_85, sX8_judge_86, sX8_judge_87, sX8_judge_88, sX8_judge_91, sX8_judge_92, sX8_judge_93, sX8_judge_94, sX8_judge_95, sX8_judge_98, sX8_judge_100, sX8_judge_99 (st := []), sX8_judge_103, inb, nz_3, nz_4, nz_6, nz_8, nz_10, nz_100, nz_300, pushr_s, pushr_n, rv_s, rv_n, kd_sI, kd_sR, kd_sJ, sz_sI, sz_sR, sz_sJ, aR_sI, aJ_sI, aI_sR, aI_sJ, not_false_eq_true, true_and, and_true, true_or, or_true, or_false, false_or, eq_self, ite_true, ite_false, if_true, if_false, mk_67 g.lay, mr_68 g.lay, mk_106 g.lay, mz_106 g.lay, mr_69 g.lay, mk_107 g.lay, mz_107 g.lay, mr_70 g.lay, mk_108 g.lay, mz_108 g.lay, mr_8 g.lay, mk_71 g.lay, mz_71 g.lay, g.nP, e, jc, j0, j6, ts, n0, q, tl, q3, i1, kc, kb, pc, pb, tv, mv, q5, nI_1, ih]
          · rw [if_neg q4]
            have q5 : (lg_cmp (X.ti j (k + p)) (A.M p).toInt64 = 0) = False := by rw [lg_eq]; exact eq_false q4
            simp only [sX8_judge_0, sX8_judge_1, sX8_judge_2 (st := []), sX8_judge_5, sX8_judge_8, sX8_judge_10, sX8_judge_9 (st := []), sX8_judge_11, sX8_judge_14, sX8_judge_15, sX8_judge_16, sX8_judge_19, sX8_judge_32, sX8_judge_20, sX8_judge_33, sX8_judge_23, sX8_judge_24, sX8_judge_35, sX8_judge_25, sX8_judge_36, sX8_judge_26, sX8_judge_39, sX8_judge_29, sX8_judge_42, sX8_judge_106, sX8_judge_31 (st := []), sX8_judge_43, sX8_judge_108 (st := []), sX8_judge_46, sX8_judge_47, sX8_judge_48, sX8_judge_51, sX8_judge_69, sX8_judge_52, sX8_judge_71, sX8_judge_55, sX8_judge_72, sX8_judge_56, sX8_judge_73 (st := []), sX8_judge_57, sX8_judge_60, sX8_judge_61, sX8_judge_62, sX8_judge_63, sX8_judge_64, sX8_judge_65, sX8_judge_66, sX8_judge_74, sX8_judge_75, sX8_judge_78, sX8_judge_80, sX8_judge_81, sX8_judge_82, sX8_judge_83, sX8_judge_84, sX8_judge_85, sX8_judge_86, sX8_judge_87, sX8_judge_88, sX8_judge_91, sX8_judge_92, sX8_judge_93, sX8_judge_94, sX8_judge_95, sX8_judge_98, sX8_judge_100, sX8_judge_99 (st := []), sX8_judge_103, inb, nz_3, nz_4, nz_6, nz_8, nz_10, nz_100, nz_300, pushr_s, pushr_n, rv_s, rv_n, kd_sI, kd_sR, kd_sJ, sz_sI, sz_sR, sz_sJ, aR_sI, aJ_sI, aI_sR, aI_sJ, not_false_eq_true, true_and, and_true, true_or, or_true, or_false, false_or, eq_self, ite_true, ite_false, if_true, if_false, mk_67 g.lay, mr_68 g.lay, mk_106 g.lay, mz_106 g.lay, mr_69 g.lay, mk_107 g.lay, mz_107 g.lay, mr_70 g.lay, mk_108 g.lay, mz_108 g.lay, mr_8 g.lay, mk_71 g.lay, mz_71 g.lay, g.nP, e, jc, j0, j6, ts, n0, q, tl, q3, i1, kc, kb, pc, pb, tv, mv, q5]
theorem k_judge (w : Wf A) (wx : WfX X) (a b : Int32) : Rest S A X 99 200 [.ref 0, .int a, .int b, hole] [.ref 67, .int a, .int b, hole] := by
  rcases rg_c a 6 (by decide) with e | ⟨e, j, hj, rfl⟩
  · refine rest_same wx (.int (-1)) (fun H h r d d2 Q => ?_) (fun H g s d Q => ?_)
    · simp only [sX7_judge_0, sX7_judge_1 (st := []), sX7_judge_4, sX7_judge_7, sX7_judge_9, sX7_judge_8 (st := []), sX7_judge_10, sX7_judge_13, sX7_judge_14, sX7_judge_15, sX7_judge_16, sX7_judge_17, sX7_judge_20, sX7_judge_21, sX7_judge_24, sX7_judge_35, sX7_judge_25, sX7_judge_36, sX7_judge_28, sX7_judge_37, sX7_judge_29, sX7_judge_38 (st := []), sX7_judge_32, sX7_judge_41 (st := []), sX7_judge_34 (st := []), inb, nz_3, nz_4, nz_6, nz_8, nz_10, nz_100, nz_300, pushr_s, pushr_n, rv_s, rv_n, kd_sI, kd_sR, kd_sJ, sz_sI, sz_sR, sz_sJ, aR_sI, aJ_sI, aI_sR, aI_sJ, not_false_eq_true, true_and, and_true, true_or, or_true, or_false, false_or, eq_self, ite_true, ite_false, if_true, if_false, w_isTape, e]
    · simp only [sX8_judge_0, sX8_judge_1, sX8_judge_2 (st := []), sX8_judge_5, sX8_judge_8, sX8_judge_10, sX8_judge_9 (st := []), sX8_judge_11, sX8_judge_14, sX8_judge_15, sX8_judge_16, sX8_judge_19, sX8_judge_32, sX8_judge_20, sX8_judge_33, sX8_judge_23, sX8_judge_24, sX8_judge_35, sX8_judge_25, sX8_judge_36, sX8_judge_26, sX8_judge_39, sX8_judge_29, sX8_judge_42, sX8_judge_106, sX8_judge_31 (st := []), sX8_judge_43, sX8_judge_108 (st := []), sX8_judge_46, sX8_judge_47, sX8_judge_48, sX8_judge_51, sX8_judge_69, sX8_judge_52, sX8_judge_71, sX8_judge_55, sX8_judge_72, sX8_judge_56, sX8_judge_73 (st := []), sX8_judge_57, sX8_judge_60, sX8_judge_61, sX8_judge_62, sX8_judge_63, sX8_judge_64, sX8_judge_65, sX8_judge_66, sX8_judge_74, sX8_judge_75, sX8_judge_78, sX8_judge_80, sX8_judge_81, sX8_judge_82, sX8_judge_83, sX8_judge_84, sX8_judge_85, sX8_judge_86, sX8_judge_87, sX8_judge_88, sX8_judge_91, sX8_judge_92, sX8_judge_93, sX8_judge_94, sX8_judge_95, sX8_judge_98, sX8_judge_100, sX8_judge_99 (st := []), sX8_judge_103, inb, nz_3, nz_4, nz_6, nz_8, nz_10, nz_100, nz_300, pushr_s, pushr_n, rv_s, rv_n, kd_sI, kd_sR, kd_sJ, sz_sI, sz_sR, sz_sJ, aR_sI, aJ_sI, aI_sR, aI_sJ, not_false_eq_true, true_and, and_true, true_or, or_true, or_false, false_or, eq_self, ite_true, ite_false, if_true, if_false, mk_67 g.lay, n_isTape g.lay, e]
  have jc : (nI j).toNatClampNeg = j := nI_clamp (by omega)
  have jb : ¬ (nI j < 0 ∨ 6 ≤ j) := inN hj (by omega)
  have goJ : (X.ts j = -1 ∨ X.ts j = 1) → Rest S A X 99 200 [.ref 0, .int (nI j), .int b, hole] [.ref 67, .int (nI j), .int b, hole] := fun hs => by
    refine rest_same wx (.int (jdS A X j b A.P 0)) (fun H h l r d Q => ?_) (fun H g s d Q => ?_)
    · obtain ⟨t1, k4, t2, k21, z60⟩ := l.tp j hj
      have ts := r.ts j hj
      have ih := lp_judge (S := S) (d := d + 39) (b := b) (Q := Q) h l r w wx hj A.P 0 (by omega)
      rw [nI_0] at ih
      have hjd : Wp S (d + 39) 120 0 [.ref 0, .ref (55 + 2 * j), .int b, hole] [] H Q = Q (some (.int (jdS A X j b A.P 0))) H := by
        simp only [sX7_judged_0, sX7_judged_1, sX7_judged_3, sX7_judged_4, sX7_judged_7, sX7_judged_10, sX7_judged_13, sX7_judged_62, sX7_judged_14, sX7_judged_64 (st := []), sX7_judged_17, sX7_judged_27, sX7_judged_18, sX7_judged_29, sX7_judged_19, sX7_judged_30, sX7_judged_22, sX7_judged_31 (st := []), sX7_judged_23, sX7_judged_24, sX7_judged_32, sX7_judged_33, sX7_judged_36, sX7_judged_37, sX7_judged_38, sX7_judged_39, sX7_judged_40, sX7_judged_41, sX7_judged_44, sX7_judged_47, sX7_judged_48, sX7_judged_49, sX7_judged_50, sX7_judged_51, sX7_judged_54, sX7_judged_56, sX7_judged_55 (st := []), sX7_judged_59, inb, nz_3, nz_4, nz_6, nz_8, nz_10, nz_100, nz_300, pushr_s, pushr_n, rv_s, rv_n, kd_sI, kd_sR, kd_sJ, sz_sI, sz_sR, sz_sJ, aR_sI, aJ_sI, aI_sR, aI_sJ, not_false_eq_true, true_and, and_true, true_or, or_true, or_false, false_or, eq_self, ite_true, ite_false, if_true, if_false, ih]
      have ih2 := fun Q => lp_judge (S := S) (d := d + 39) (b := b) (Q := Q) h l r w wx hj A.P 0 (by omega)
      simp only [nI_0] at ih2
      have hjd2 : ∀ Q, Wp S (d + 39) 120 0 [.ref 0, .ref (55 + 2 * j), .int b, hole] [] H Q = Q (some (.int (jdS A X j b A.P 0))) H := fun Q => by
        simp only [sX7_judged_0, sX7_judged_1, sX7_judged_3, sX7_judged_4, sX7_judged_7, sX7_judged_10, sX7_judged_13, sX7_judged_62, sX7_judged_14, sX7_judged_64 (st := []), sX7_judged_17, sX7_judged_27, sX7_judged_18, sX7_judged_29, sX7_judged_19, sX7_judged_30, sX7_judged_22, sX7_judged_31 (st := []), sX7_judged_23, sX7_judged_24, sX7_judged_32, sX7_judged_33, sX7_judged_36, sX7_judged_37, sX7_judged_38, sX7_judged_39, sX7_judged_40, sX7_judged_41, sX7_judged_44, sX7_judged_47, sX7_judged_48, sX7_judged_49, sX7_judged_50, sX7_judged_51, sX7_judged_54, sX7_judged_56, sX7_judged_55 (st := []), sX7_judged_59, inb, nz_3, nz_4, nz_6, nz_8, nz_10, nz_100, nz_300, pushr_s, pushr_n, rv_s, rv_n, kd_sI, kd_sR, kd_sJ, sz_sI, sz_sR, sz_sJ, aR_sI, aJ_sI, aI_sR, aI_sJ, not_false_eq_true, true_and, and_true, true_or, or_true, or_false, false_or, eq_self, ite_true, ite_false, if_true, if_false, ih2]
      rcases hs with hs | hs
      · rw [hs] at ts
        simp only [sX7_judge_0, sX7_judge_1 (st := []), sX7_judge_4, sX7_judge_7, sX7_judge_9, sX7_judge_8 (st := []), sX7_judge_10, sX7_judge_13, sX7_judge_14, sX7_judge_15, sX7_judge_16, sX7_judge_17, sX7_judge_20, sX7_judge_21, sX7_judge_24, sX7_judge_35, sX7_judge_25, sX7_judge_36, sX7_judge_28, sX7_judge_37, sX7_judge_29, sX7_judge_38 (st := []), sX7_judge_32, sX7_judge_41 (st := []), sX7_judge_34 (st := []), inb, nz_3, nz_4, nz_6, nz_8, nz_10, nz_100, nz_300, pushr_s, pushr_n, rv_s, rv_n, kd_sI, kd_sR, kd_sJ, sz_sI, sz_sR, sz_sJ, aR_sI, aJ_sI, aI_sR, aI_sJ, not_false_eq_true, true_and, and_true, true_or, or_true, or_false, false_or, eq_self, ite_true, ite_false, if_true, if_false, w_isTape, e, nz_1, l.k0, l.r8, l.k54, l.z54, jc, jb, t1, k4, ts, m1_m, hjd2]
      · rw [hs] at ts
        have n1 : ((1 : Int32) = -1) = False := eq_false (by decide +kernel)
        simp only [sX7_judge_0, sX7_judge_1 (st := []), sX7_judge_4, sX7_judge_7, sX7_judge_9, sX7_judge_8 (st := []), sX7_judge_10, sX7_judge_13, sX7_judge_14, sX7_judge_15, sX7_judge_16, sX7_judge_17, sX7_judge_20, sX7_judge_21, sX7_judge_24, sX7_judge_35, sX7_judge_25, sX7_judge_36, sX7_judge_28, sX7_judge_37, sX7_judge_29, sX7_judge_38 (st := []), sX7_judge_32, sX7_judge_41 (st := []), sX7_judge_34 (st := []), inb, nz_3, nz_4, nz_6, nz_8, nz_10, nz_100, nz_300, pushr_s, pushr_n, rv_s, rv_n, kd_sI, kd_sR, kd_sJ, sz_sI, sz_sR, sz_sJ, aR_sI, aJ_sI, aI_sR, aI_sJ, not_false_eq_true, true_and, and_true, true_or, or_true, or_false, false_or, eq_self, ite_true, ite_false, if_true, if_false, w_isTape, e, nz_1, l.k0, l.r8, l.k54, l.z54, jc, jb, t1, k4, ts, n1, hjd2]
    · have ts := s.ts j hj
      have ih := fun Q => lp_mjudge (S := S) (d := d + 40) (b := b) (Q := Q) g s w wx hj A.P 0 (by omega)
      simp only [nI_0] at ih
      rcases hs with hs | hs
      · rw [hs] at ts
        simp only [sX8_judge_0, sX8_judge_1, sX8_judge_2 (st := []), sX8_judge_5, sX8_judge_8, sX8_judge_10, sX8_judge_9 (st := []), sX8_judge_11, sX8_judge_14, sX8_judge_15, sX8_judge_16, sX8_judge_19, sX8_judge_32, sX8_judge_20, sX8_judge_33, sX8_judge_23, sX8_judge_24, sX8_judge_35, sX8_judge_25, sX8_judge_36, sX8_judge_26, sX8_judge_39, sX8_judge_29, sX8_judge_42, sX8_judge_106, sX8_judge_31 (st := []), sX8_judge_43, sX8_judge_108 (st := []), sX8_judge_46, sX8_judge_47, sX8_judge_48, sX8_judge_51, sX8_judge_69, sX8_judge_52, sX8_judge_71, sX8_judge_55, sX8_judge_72, sX8_judge_56, sX8_judge_73 (st := []), sX8_judge_57, sX8_judge_60, sX8_judge_61, sX8_judge_62, sX8_judge_63, sX8_judge_64, sX8_judge_65, sX8_judge_66, sX8_judge_74, sX8_judge_75, sX8_judge_78, sX8_judge_80, sX8_judge_81, sX8_judge_82, sX8_judge_83, sX8_judge_84, sX8_judge_85, sX8_judge_86, sX8_judge_87, sX8_judge_88, sX8_judge_91, sX8_judge_92, sX8_judge_93, sX8_judge_94, sX8_judge_95, sX8_judge_98, sX8_judge_100, sX8_judge_99 (st := []), sX8_judge_103, inb, nz_3, nz_4, nz_6, nz_8, nz_10, nz_100, nz_300, pushr_s, pushr_n, rv_s, rv_n, kd_sI, kd_sR, kd_sJ, sz_sI, sz_sR, sz_sJ, aR_sI, aJ_sI, aI_sR, aI_sJ, not_false_eq_true, true_and, and_true, true_or, or_true, or_false, false_or, eq_self, ite_true, ite_false, if_true, if_false, mk_67 g.lay, mr_68 g.lay, mk_106 g.lay, mz_106 g.lay, mr_69 g.lay, mk_107 g.lay, mz_107 g.lay, mr_70 g.lay, mk_108 g.lay, mz_108 g.lay, mr_8 g.lay, mk_71 g.lay, mz_71 g.lay, n_isTape g.lay, e, nz_1, jc, jb, ts, m1_0, ih]
      · rw [hs] at ts
        have n1 : ¬ (1 : Int32) < 0 := by decide +kernel
        simp only [sX8_judge_0, sX8_judge_1, sX8_judge_2 (st := []), sX8_judge_5, sX8_judge_8, sX8_judge_10, sX8_judge_9 (st := []), sX8_judge_11, sX8_judge_14, sX8_judge_15, sX8_judge_16, sX8_judge_19, sX8_judge_32, sX8_judge_20, sX8_judge_33, sX8_judge_23, sX8_judge_24, sX8_judge_35, sX8_judge_25, sX8_judge_36, sX8_judge_26, sX8_judge_39, sX8_judge_29, sX8_judge_42, sX8_judge_106, sX8_judge_31 (st := []), sX8_judge_43, sX8_judge_108 (st := []), sX8_judge_46, sX8_judge_47, sX8_judge_48, sX8_judge_51, sX8_judge_69, sX8_judge_52, sX8_judge_71, sX8_judge_55, sX8_judge_72, sX8_judge_56, sX8_judge_73 (st := []), sX8_judge_57, sX8_judge_60, sX8_judge_61, sX8_judge_62, sX8_judge_63, sX8_judge_64, sX8_judge_65, sX8_judge_66, sX8_judge_74, sX8_judge_75, sX8_judge_78, sX8_judge_80, sX8_judge_81, sX8_judge_82, sX8_judge_83, sX8_judge_84, sX8_judge_85, sX8_judge_86, sX8_judge_87, sX8_judge_88, sX8_judge_91, sX8_judge_92, sX8_judge_93, sX8_judge_94, sX8_judge_95, sX8_judge_98, sX8_judge_100, sX8_judge_99 (st := []), sX8_judge_103, inb, nz_3, nz_4, nz_6, nz_8, nz_10, nz_100, nz_300, pushr_s, pushr_n, rv_s, rv_n, kd_sI, kd_sR, kd_sJ, sz_sI, sz_sR, sz_sJ, aR_sI, aJ_sI, aI_sR, aI_sJ, not_false_eq_true, true_and, and_true, true_or, or_true, or_false, false_or, eq_self, ite_true, ite_false, if_true, if_false, mk_67 g.lay, mr_68 g.lay, mk_106 g.lay, mz_106 g.lay, mr_69 g.lay, mk_107 g.lay, mz_107 g.lay, mr_70 g.lay, mk_108 g.lay, mz_108 g.lay, mr_8 g.lay, mk_71 g.lay, mz_71 g.lay, n_isTape g.lay, e, nz_1, jc, jb, ts, n1, ih]
  rcases ts_c wx hj with ⟨z1, _⟩ | ⟨x, x4, z1, _⟩
  · exact goJ (Or.inl z1)
  · by_cases x1 : x = 1
    · exact goJ (Or.inr (by rw [z1, x1]; rfl))
    · have n1 : (nI x = 1) = False := eq_false (fun z => x1 ((nI_eq (b := 1) (by omega) (by decide)).mp z))
      have nm := nI_m1 (show x < 2 ^ 31 by omega)
      have n0 : ¬ nI x < 0 := nI_pos (by omega)
      refine rest_same wx (.int (-12)) (fun H h l r d Q => ?_) (fun H g s d Q => ?_)
      · obtain ⟨t1, k4, t2, k21, z60⟩ := l.tp j hj
        have ts := r.ts j hj
        rw [z1] at ts
        simp only [sX7_judge_0, sX7_judge_1 (st := []), sX7_judge_4, sX7_judge_7, sX7_judge_9, sX7_judge_8 (st := []), sX7_judge_10, sX7_judge_13, sX7_judge_14, sX7_judge_15, sX7_judge_16, sX7_judge_17, sX7_judge_20, sX7_judge_21, sX7_judge_24, sX7_judge_35, sX7_judge_25, sX7_judge_36, sX7_judge_28, sX7_judge_37, sX7_judge_29, sX7_judge_38 (st := []), sX7_judge_32, sX7_judge_41 (st := []), sX7_judge_34 (st := []), inb, nz_3, nz_4, nz_6, nz_8, nz_10, nz_100, nz_300, pushr_s, pushr_n, rv_s, rv_n, kd_sI, kd_sR, kd_sJ, sz_sI, sz_sR, sz_sJ, aR_sI, aJ_sI, aI_sR, aI_sJ, not_false_eq_true, true_and, and_true, true_or, or_true, or_false, false_or, eq_self, ite_true, ite_false, if_true, if_false, w_isTape, e, nz_1, l.k0, l.r8, l.k54, l.z54, jc, jb, t1, k4, ts, n1, nm]
      · have ts := s.ts j hj
        rw [z1] at ts
        simp only [sX8_judge_0, sX8_judge_1, sX8_judge_2 (st := []), sX8_judge_5, sX8_judge_8, sX8_judge_10, sX8_judge_9 (st := []), sX8_judge_11, sX8_judge_14, sX8_judge_15, sX8_judge_16, sX8_judge_19, sX8_judge_32, sX8_judge_20, sX8_judge_33, sX8_judge_23, sX8_judge_24, sX8_judge_35, sX8_judge_25, sX8_judge_36, sX8_judge_26, sX8_judge_39, sX8_judge_29, sX8_judge_42, sX8_judge_106, sX8_judge_31 (st := []), sX8_judge_43, sX8_judge_108 (st := []), sX8_judge_46, sX8_judge_47, sX8_judge_48, sX8_judge_51, sX8_judge_69, sX8_judge_52, sX8_judge_71, sX8_judge_55, sX8_judge_72, sX8_judge_56, sX8_judge_73 (st := []), sX8_judge_57, sX8_judge_60, sX8_judge_61, sX8_judge_62, sX8_judge_63, sX8_judge_64, sX8_judge_65, sX8_judge_66, sX8_judge_74, sX8_judge_75, sX8_judge_78, sX8_judge_80, sX8_judge_81, sX8_judge_82, sX8_judge_83, sX8_judge_84, sX8_judge_85, sX8_judge_86, sX8_judge_87, sX8_judge_88, sX8_judge_91, sX8_judge_92, sX8_judge_93, sX8_judge_94, sX8_judge_95, sX8_judge_98, sX8_judge_100, sX8_judge_99 (st := []), sX8_judge_103, inb, nz_3, nz_4, nz_6, nz_8, nz_10, nz_100, nz_300, pushr_s, pushr_n, rv_s, rv_n, kd_sI, kd_sR, kd_sJ, sz_sI, sz_sR, sz_sJ, aR_sI, aJ_sI, aI_sR, aI_sJ, not_false_eq_true, true_and, and_true, true_or, or_true, or_false, false_or, eq_self, ite_true, ite_false, if_true, if_false, mk_67 g.lay, mr_68 g.lay, mk_106 g.lay, mz_106 g.lay, mr_69 g.lay, mk_107 g.lay, mz_107 g.lay, mr_70 g.lay, mk_108 g.lay, mz_108 g.lay, mr_8 g.lay, mk_71 g.lay, mz_71 g.lay, n_isTape g.lay, e, nz_1, jc, jb, ts, n0, n1]
theorem k_feed (wx : WfX X) (a : Int32) : Rest S A X 80 138 [.ref 0, .int a] [.ref 67, .int a] := by
  have hn := wx.tn
  have hin : ∀ d H Q, Wp S d 123 0 [.ref 67, .int a, .int 0, .int 127] [] H Q = Q (some (.int (rg a (nI 128)))) H := fun d H Q => by rw [m_in, inS_k 128 (by decide) (by decide +kernel)]
  rcases rg_c a 128 (by decide) with e | ⟨e, m, hm, rfl⟩
  · refine rest_same wx (.int (-2)) (fun H h l r d Q => ?_) (fun H g s d Q => ?_)
    · rw [← w_rg] at e
      by_cases q : a < 0
      · simp only [sX7_feed_0, sX7_feed_1, sX7_feed_4, sX7_feed_10, sX7_feed_5, sX7_feed_12 (st := []), sX7_feed_7, sX7_feed_13, sX7_feed_14, sX7_feed_17, sX7_feed_20, sX7_feed_22, sX7_feed_25, sX7_feed_28, sX7_feed_27 (st := []), sX7_feed_29, sX7_feed_32, sX7_feed_33 (st := []), sX7_feed_36 (st := []), inb, nz_3, nz_4, nz_6, nz_8, nz_10, nz_100, nz_300, pushr_s, pushr_n, rv_s, rv_n, kd_sI, kd_sR, kd_sJ, sz_sI, sz_sR, sz_sJ, aR_sI, aJ_sI, aI_sR, aI_sJ, not_false_eq_true, true_and, and_true, true_or, or_true, or_false, false_or, eq_self, ite_true, ite_false, if_true, if_false, l.k0, q]
      · rw [if_neg q] at e
        have q2 : ¬ a ≤ 127 := fun z => by
          obtain ⟨j, hj, rfl⟩ := nI_of q
          have := (nI_leI (b := 127) hj (by decide)).mp z
          rw [if_neg (nI_ge (b := 128) (by omega) (by decide))] at e
          exact absurd e (by decide)
        simp only [sX7_feed_0, sX7_feed_1, sX7_feed_4, sX7_feed_10, sX7_feed_5, sX7_feed_12 (st := []), sX7_feed_7, sX7_feed_13, sX7_feed_14, sX7_feed_17, sX7_feed_20, sX7_feed_22, sX7_feed_25, sX7_feed_28, sX7_feed_27 (st := []), sX7_feed_29, sX7_feed_32, sX7_feed_33 (st := []), sX7_feed_36 (st := []), inb, nz_3, nz_4, nz_6, nz_8, nz_10, nz_100, nz_300, pushr_s, pushr_n, rv_s, rv_n, kd_sI, kd_sR, kd_sJ, sz_sI, sz_sR, sz_sJ, aR_sI, aJ_sI, aI_sR, aI_sJ, not_false_eq_true, true_and, and_true, true_or, or_true, or_false, false_or, eq_self, ite_true, ite_false, if_true, if_false, l.k0, q, q2]
    · simp only [sX8_feed_0, sX8_feed_1, sX8_feed_2, sX8_feed_3, sX8_feed_5 (st := []), sX8_feed_8, sX8_feed_11, sX8_feed_14, sX8_feed_13 (st := []), sX8_feed_15, sX8_feed_18, sX8_feed_20, sX8_feed_23, sX8_feed_26, sX8_feed_25 (st := []), sX8_feed_27, sX8_feed_30, sX8_feed_31, sX8_feed_34, sX8_feed_35, sX8_feed_36, sX8_feed_37, sX8_feed_38, sX8_feed_41, sX8_feed_42, sX8_feed_43, sX8_feed_46, sX8_feed_47, sX8_feed_50 (st := []), inb, nz_3, nz_4, nz_6, nz_8, nz_10, nz_100, nz_300, pushr_s, pushr_n, rv_s, rv_n, kd_sI, kd_sR, kd_sJ, sz_sI, sz_sR, sz_sJ, aR_sI, aJ_sI, aI_sR, aI_sJ, not_false_eq_true, true_and, and_true, true_or, or_true, or_false, false_or, eq_self, ite_true, ite_false, if_true, if_false, mk_67 g.lay, hin, e]
  have q : ¬ nI m < 0 := nI_pos (by omega)
  have q2 : nI m ≤ 127 := nI_le (b := 127) (by omega) (by decide)
  by_cases t1 : X.tn = 100
  · have c1 : ¬ nI X.tn < 100 := nI_nlt (b := 100) (by omega) (by omega)
    have c2 : (nI X.tn = 100) = True := eq_true (by rw [t1]; rfl)
    refine rest_same wx (.int (-4)) (fun H h l r d Q => ?_) (fun H g s d Q => ?_)
    · simp only [sX7_feed_0, sX7_feed_1, sX7_feed_4, sX7_feed_10, sX7_feed_5, sX7_feed_12 (st := []), sX7_feed_7, sX7_feed_13, sX7_feed_14, sX7_feed_17, sX7_feed_20, sX7_feed_22, sX7_feed_25, sX7_feed_28, sX7_feed_27 (st := []), sX7_feed_29, sX7_feed_32, sX7_feed_33 (st := []), sX7_feed_36 (st := []), inb, nz_3, nz_4, nz_6, nz_8, nz_10, nz_100, nz_300, pushr_s, pushr_n, rv_s, rv_n, kd_sI, kd_sR, kd_sJ, sz_sI, sz_sR, sz_sJ, aR_sI, aJ_sI, aI_sR, aI_sJ, not_false_eq_true, true_and, and_true, true_or, or_true, or_false, false_or, eq_self, ite_true, ite_false, if_true, if_false, l.k0, l.r4, l.k46, r.tn, q, q2, c1]
    · simp only [sX8_feed_0, sX8_feed_1, sX8_feed_2, sX8_feed_3, sX8_feed_5 (st := []), sX8_feed_8, sX8_feed_11, sX8_feed_14, sX8_feed_13 (st := []), sX8_feed_15, sX8_feed_18, sX8_feed_20, sX8_feed_23, sX8_feed_26, sX8_feed_25 (st := []), sX8_feed_27, sX8_feed_30, sX8_feed_31, sX8_feed_34, sX8_feed_35, sX8_feed_36, sX8_feed_37, sX8_feed_38, sX8_feed_41, sX8_feed_42, sX8_feed_43, sX8_feed_46, sX8_feed_47, sX8_feed_50 (st := []), inb, nz_3, nz_4, nz_6, nz_8, nz_10, nz_100, nz_300, pushr_s, pushr_n, rv_s, rv_n, kd_sI, kd_sR, kd_sJ, sz_sI, sz_sR, sz_sJ, aR_sI, aJ_sI, aI_sR, aI_sJ, not_false_eq_true, true_and, and_true, true_or, or_true, or_false, false_or, eq_self, ite_true, ite_false, if_true, if_false, mk_67 g.lay, hin, e, nz_1, s.tn, c2]
  have c1 : nI X.tn < 100 := nI_lt (b := 100) (by omega) (by decide)
  have c2 : (nI X.tn = 100) = False := eq_false (fun z => t1 ((nI_eq (b := 100) (by omega) (by decide)).mp z))
  have tc : (nI X.tn).toNatClampNeg = X.tn := nI_clamp (by omega)
  have tb : ¬ (nI X.tn < 0 ∨ 100 ≤ X.tn) := inN (by omega) (by omega)
  refine ⟨.int (nI (X.tn + 1)), (X.settn (X.tn + 1)).settx (upd X.tx X.tn (nI m)), ⟨wx.hI, wx.I, wx.nw, (by show X.tn + 1 ≤ 100; omega), (fun i hi => by
      have hi : i < X.tn + 1 := hi
      show ∃ m', m' < 128 ∧ upd X.tx X.tn (nI m) i = nI m'
      by_cases z : i = X.tn
      · rw [z, pk_us]; exact ⟨m, hm, rfl⟩
      · rw [pk_un z]; exact wx.tx i (by omega)), wx.rn, wx.ts⟩, fun H h l r d => ?_, fun H g s d => ?_⟩
  · have f : Fr (fun o i => o = 47 ∨ (o = 46 ∧ i = 0)) H (sI (sI H 47 X.tn (nI m)) 46 0 (nI (X.tn + 1))) := (Fr.wI _ (Or.inl rfl)).trans (Fr.wI _ (Or.inr ⟨rfl, rfl⟩))
    refine ⟨_, ⟨(f.I _ _ (by omega)).trans r.hi, fun z => (r.im z).fr f (fun o i z => by omega), (f.I _ _ (by omega)).trans r.nw, gIs, fun i hi => ?_, (f.I _ _ (by omega)).trans r.rn, fun i hi h2 => (f.I _ _ (by omega)).trans (r.rb i hi h2), fun j hj => (f.I _ _ (by omega)).trans (r.ts j hj), fun j hj => (f.I _ _ (by omega)).trans (r.tl j hj), fun j hj i hi => (f.Jq _ _ (by omega)).trans (r.ti j hj i hi), f.anq.trans r.an⟩, f.mono (fun o i z => by unfold jRC; omega), fun Q => ?_⟩
    · have hi : i < X.tn + 1 := hi
      show aI _ 47 i = upd X.tx X.tn (nI m) i
      by_cases z : i = X.tn
      · rw [z, pk_us]; exact (gIn (by omega)).trans gIs
      · rw [pk_un z]; exact (gIn (by omega)).trans ((gIn (fun y => z y.2)).trans (r.tx i (by omega)))
    · have a1 : ∀ x, aI (sI H 47 X.tn x) 46 0 = nI X.tn := fun x => (gIn (by omega)).trans r.tn
      have a2 : ∀ G x, aI (sI G 46 0 x) 46 0 = x := fun G x => gIs
      have ha : ∀ d Q, Wp S d 54 0 [.ref 46, .int (nI m)] [] H Q = Q (some (.int (nI (X.tn + 1)))) (sI (sI H 47 X.tn (nI m)) 46 0 (nI (X.tn + 1))) := fun d Q => by
        simp only [sX6_append_0, sX6_append_1, sX6_append_4, sX6_append_5, sX6_append_8, sX6_append_9, sX6_append_10, sX6_append_11, sX6_append_12, sX6_append_15, sX6_append_16, sX6_append_17, sX6_append_20, sX6_append_21, sX6_append_24 (st := []), inb, nz_3, nz_4, nz_6, nz_8, nz_10, nz_100, nz_300, pushr_s, pushr_n, rv_s, rv_n, kd_sI, kd_sR, kd_sJ, sz_sI, sz_sR, sz_sJ, aR_sI, aJ_sI, aI_sR, aI_sJ, not_false_eq_true, true_and, and_true, true_or, or_true, or_false, false_or, eq_self, ite_true, ite_false, if_true, if_false, l.k46, l.r46a, l.k47, l.z47, r.tn, tc, tb, a1, a2, nI_1]
      simp only [sX7_feed_0, sX7_feed_1, sX7_feed_4, sX7_feed_10, sX7_feed_5, sX7_feed_12 (st := []), sX7_feed_7, sX7_feed_13, sX7_feed_14, sX7_feed_17, sX7_feed_20, sX7_feed_22, sX7_feed_25, sX7_feed_28, sX7_feed_27 (st := []), sX7_feed_29, sX7_feed_32, sX7_feed_33 (st := []), sX7_feed_36 (st := []), inb, nz_3, nz_4, nz_6, nz_8, nz_10, nz_100, nz_300, pushr_s, pushr_n, rv_s, rv_n, kd_sI, kd_sR, kd_sJ, sz_sI, sz_sR, sz_sJ, aR_sI, aJ_sI, aI_sR, aI_sJ, not_false_eq_true, true_and, and_true, true_or, or_true, or_false, false_or, eq_self, ite_true, ite_false, if_true, if_false, l.k0, l.r4, l.k46, r.tn, q, q2, c1, ha]
  · have f : Fr (fun o i => o = 73 ∨ (o = 67 ∧ i = 12)) H (sI (sI H 73 X.tn (nI m)) 67 12 (nI (X.tn + 1))) := (Fr.wI _ (Or.inl rfl)).trans (Fr.wI _ (Or.inr ⟨rfl, rfl⟩))
    obtain ⟨Z, z1, z2, z3⟩ := s.sl
    obtain ⟨k0, o0, k1, k2⟩ := s.ko
    have e11 := f.I 67 11 (by omega)
    have e46 := f.I 67 46 (by omega)
    refine ⟨_, ⟨(f.I _ _ (by omega)).trans s.hi, fun z => (s.im z).fr f (fun o i z => by omega), (f.I _ _ (by omega)).trans s.nw, ⟨Z, fun q hq => (z1 q hq).fr f (fun o i z => by omega), by rw [e11]; exact z2, fun z => by rw [e46]; exact z3 z⟩, gIs, fun i hi => ?_, ⟨k0, o0, (f.I _ _ (by omega)).trans k1, (f.I _ _ (by omega)).trans k2⟩, (f.I _ _ (by omega)).trans s.rn, fun i hi h2 => (f.I _ _ (by omega)).trans (s.rb i hi h2), fun j hj => (f.I _ _ (by omega)).trans (s.ts j hj), fun j hj => (f.I _ _ (by omega)).trans (s.tl j hj), fun j hj i hi => (f.Jq _ _ (by omega)).trans (s.ti j hj i hi), fun i hi => (f.I _ _ (by omega)).trans (s.le i hi)⟩, f.mono (fun o i z => by unfold jRM; omega), fun Q => ?_⟩
    · have hi : i < X.tn + 1 := hi
      show aI _ 73 i = upd X.tx X.tn (nI m) i
      by_cases z : i = X.tn
      · rw [z, pk_us]; exact (gIn (by omega)).trans gIs
      · rw [pk_un z]; exact (gIn (by omega)).trans ((gIn (fun y => z y.2)).trans (s.tx i (by omega)))
    · have a1 : ∀ x, aI (sI H 73 X.tn x) 67 12 = nI X.tn := fun x => (gIn (by omega)).trans s.tn
      have a2 : ∀ G x, aI (sI G 67 12 x) 67 12 = x := fun G x => gIs
      simp only [sX8_feed_0, sX8_feed_1, sX8_feed_2, sX8_feed_3, sX8_feed_5 (st := []), sX8_feed_8, sX8_feed_11, sX8_feed_14, sX8_feed_13 (st := []), sX8_feed_15, sX8_feed_18, sX8_feed_20, sX8_feed_23, sX8_feed_26, sX8_feed_25 (st := []), sX8_feed_27, sX8_feed_30, sX8_feed_31, sX8_feed_34, sX8_feed_35, sX8_feed_36, sX8_feed_37, sX8_feed_38, sX8_feed_41, sX8_feed_42, sX8_feed_43, sX8_feed_46, sX8_feed_47, sX8_feed_50 (st := []), inb, nz_3, nz_4, nz_6, nz_8, nz_10, nz_100, nz_300, pushr_s, pushr_n, rv_s, rv_n, kd_sI, kd_sR, kd_sJ, sz_sI, sz_sR, sz_sJ, aR_sI, aJ_sI, aI_sR, aI_sJ, not_false_eq_true, true_and, and_true, true_or, or_true, or_false, false_or, eq_self, ite_true, ite_false, if_true, if_false, mk_67 g.lay, mr_15 g.lay, mk_73 g.lay, mz_73 g.lay, hin, e, nz_1, s.tn, c2, tc, tb, a1, a2, nI_1]
end CALLS
