-- 23: the reference through all, the most, as seen
def MoV (H : AH) (N P D : Nat) (L : List Cla) (b : Nat) : Prop := MoL H ∧ WayM H L b ∧ aI H 67 0 = nI N ∧ N ≤ 6 ∧ aI H 67 2 = nI P ∧ P ≤ 5 ∧ aI H 67 4 = nI D ∧ D < 20000
theorem MoV_sA {H : AH} {p : Nat → Int32} {N P D : Nat} {L : List Cla} {b : Nat} (h : MoV H N P D L b) : MoV (sA H p) N P D L b := h
def rT (H : AH) (L : List Cla) (i : Nat) (n : Int32) : Int32 := pOM H L (nI i) n
theorem rT_sA (H : AH) (p : Nat → Int32) (L : List Cla) : rT (sA H p) L = rT H L := rfl
theorem rowM {i D : Nat} (hD : D < 2 ^ 31) : 4 * nI i + md4 (nI D) = nI (4 * i + D % 4) := by
  rw [md4_nI hD, show (4 : Int32) * nI i = nI (4 * i) from pk_mul 4 i, nI_add]
section MODEL
variable {S : SC} {d N P D b : Nat} {H : AH} {L : List Cla} {Q : Option Value → AH → Prop}
theorem m_rT {i : Nat} {n : Int32} (h : MoV H N P D L b) (hi : i < N) (pile : Nat → Int32) : ∃ pile', ∀ (Q : Option Value → AH → Prop), Wp S (d + 5) 163 0 [.ref 67, .int (nI i), .int n] [] (sA H pile) Q = Q (some (.int (rT H L i n))) (sA H pile') := by
  have hN := h.2.2.2.1
  have hD := h.2.2.2.2.2.2.2
  refine m_passesOn h.1 h.2.1 (nI_in (by omega) (by omega)) ?_ pile
  rw [h.2.2.2.2.2.2.1, rowM (by omega)]
  exact nI_in (by omega) (by omega)
theorem lp_other {l : Nat} (h : MoV H N P D L b) (hl : l < N) : ∀ (c i : Nat) (n : Int32) (pile : Nat → Int32), i + c = 256 → ∃ pile', ∀ (Q : Option Value → AH → Prop), Wp S (d + 6) 164 4 [.ref 67, .int (nI l), .int n, .int (nI i)] [] (sA H pile) Q = Q (some (.int (chS (rT H L l) c i n))) (sA H pile')
  | 0, i, n, pile, hc => by
    have e : 256 ≤ nI i := nI_le (a := 256) (by omega) (by omega)
    refine ⟨pile, fun Q => ?_⟩
    rw [sX8_otherwise_4]
    simp only [sX8_otherwise_0, sX8_otherwise_1, sX8_otherwise_2, sX8_otherwise_3, sX8_otherwise_5, sX8_otherwise_8, sX8_otherwise_11, sX8_otherwise_35, sX8_otherwise_12, sX8_otherwise_36 (st := []), sX8_otherwise_13, sX8_otherwise_14, sX8_otherwise_15 (st := []), sX8_otherwise_18, sX8_otherwise_19, sX8_otherwise_22, sX8_otherwise_26, sX8_otherwise_23, sX8_otherwise_27, sX8_otherwise_28, sX8_otherwise_29, sX8_otherwise_32, inb, nz_3, nz_4, nz_6, nz_8, nz_10, nz_100, nz_300, pushr_s, pushr_n, rv_s, rv_n, kd_sI, kd_sR, kd_sJ, sz_sI, sz_sR, sz_sJ, aR_sI, aJ_sI, aI_sR, aI_sJ, not_false_eq_true, true_and, and_true, true_or, or_true, or_false, false_or, eq_self, ite_true, ite_false, if_true, if_false, e]
    rfl
  | c + 1, i, n, pile, hc => by
    have e : ¬ 256 ≤ nI i := nI_ge (b := 256) (by omega) (by omega)
    obtain ⟨p1, hp⟩ := m_rT (S := S) (d := d) (n := nI i) h hl pile
    obtain ⟨p2, ih⟩ := lp_other h hl c (i + 1) (if rT H L l (nI i) = nI i then n else n + 1) p1 (by omega)
    refine ⟨p2, fun Q => ?_⟩
    rw [chS, ← ih Q, sX8_otherwise_4]
    simp only [sX8_otherwise_0, sX8_otherwise_1, sX8_otherwise_2, sX8_otherwise_3, sX8_otherwise_5, sX8_otherwise_8, sX8_otherwise_11, sX8_otherwise_35, sX8_otherwise_12, sX8_otherwise_36 (st := []), sX8_otherwise_13, sX8_otherwise_14, sX8_otherwise_15 (st := []), sX8_otherwise_18, sX8_otherwise_19, sX8_otherwise_22, sX8_otherwise_26, sX8_otherwise_23, sX8_otherwise_27, sX8_otherwise_28, sX8_otherwise_29, sX8_otherwise_32, inb, nz_3, nz_4, nz_6, nz_8, nz_10, nz_100, nz_300, pushr_s, pushr_n, rv_s, rv_n, kd_sI, kd_sR, kd_sJ, sz_sI, sz_sR, sz_sJ, aR_sI, aJ_sI, aI_sR, aI_sJ, not_false_eq_true, true_and, and_true, true_or, or_true, or_false, false_or, eq_self, ite_true, ite_false, if_true, if_false, kd_sA, mk_67 h.1, e, nI_1, hp]
    split
    · rw [Int32.add_zero]
    · rfl
theorem m_other {l : Nat} (h : MoV H N P D L b) (hl : l < N) (pile : Nat → Int32) : ∃ pile', ∀ (Q : Option Value → AH → Prop), Wp S (d + 6) 164 0 [.ref 67, .int (nI l), hole, hole] [] (sA H pile) Q = Q (some (.int (chS (rT H L l) 256 0 0))) (sA H pile') := by
  obtain ⟨p1, ih⟩ := lp_other (S := S) (d := d) h hl 256 0 0 pile (by omega)
  rw [nI_0] at ih
  refine ⟨p1, fun Q => ?_⟩
  simp only [sX8_otherwise_0, sX8_otherwise_1, sX8_otherwise_2, sX8_otherwise_3, sX8_otherwise_5, sX8_otherwise_8, sX8_otherwise_11, sX8_otherwise_35, sX8_otherwise_12, sX8_otherwise_36 (st := []), sX8_otherwise_13, sX8_otherwise_14, sX8_otherwise_15 (st := []), sX8_otherwise_18, sX8_otherwise_19, sX8_otherwise_22, sX8_otherwise_26, sX8_otherwise_23, sX8_otherwise_27, sX8_otherwise_28, sX8_otherwise_29, sX8_otherwise_32, inb, nz_3, nz_4, nz_6, nz_8, nz_10, nz_100, nz_300, pushr_s, pushr_n, rv_s, rv_n, kd_sI, kd_sR, kd_sJ, sz_sI, sz_sR, sz_sJ, aR_sI, aJ_sI, aI_sR, aI_sJ, not_false_eq_true, true_and, and_true, true_or, or_true, or_false, false_or, eq_self, ite_true, ite_false, if_true, if_false, ih]
theorem lp_mthrough {a : Int32} (h : MoV H N P D L b) : ∀ (c i : Nat) (n : Int32) (pile : Nat → Int32), i + c = N → ∃ pile', ∀ (Q : Option Value → AH → Prop), Wp S (d + 6) 180 4 [.ref 67, .int a, .int n, .int (nI i)] [] (sA H pile) Q = Q (some (.int (thS (rT H L) 0 c i n))) (sA H pile')
  | 0, i, n, pile, hc => by
    have hN := h.2.2.2.1
    have e : nI N ≤ nI i := nI_le (by omega) (by omega)
    refine ⟨pile, fun Q => ?_⟩
    rw [sX8_throughOf_4]
    simp only [sX8_throughOf_0, sX8_throughOf_1, sX8_throughOf_2, sX8_throughOf_3, sX8_throughOf_5, sX8_throughOf_6, sX8_throughOf_9, sX8_throughOf_12, sX8_throughOf_25, sX8_throughOf_13, sX8_throughOf_26 (st := []), sX8_throughOf_14, sX8_throughOf_15 (st := []), sX8_throughOf_18, sX8_throughOf_19, sX8_throughOf_22, inb, nz_3, nz_4, nz_6, nz_8, nz_10, nz_100, nz_300, pushr_s, pushr_n, rv_s, rv_n, kd_sI, kd_sR, kd_sJ, sz_sI, sz_sR, sz_sJ, aR_sI, aJ_sI, aI_sR, aI_sJ, not_false_eq_true, true_and, and_true, true_or, or_true, or_false, false_or, eq_self, ite_true, ite_false, if_true, if_false, kd_sA, mk_67 h.1, aI_sA H pile (show 67 ≠ 82 by decide), h.2.2.1, e]
    rfl
  | c + 1, i, n, pile, hc => by
    have hN := h.2.2.2.1
    have e : ¬ nI N ≤ nI i := nI_ge (by omega) (by omega)
    obtain ⟨p1, hp⟩ := m_rT (S := S) (d := d) (n := n) h (show i < N by omega) pile
    obtain ⟨p2, ih⟩ := lp_mthrough (a := a) h c (i + 1) (rT H L i n) p1 (by omega)
    refine ⟨p2, fun Q => ?_⟩
    rw [thS, if_pos Int32.zero_and, ← ih Q, sX8_throughOf_4]
    simp only [sX8_throughOf_0, sX8_throughOf_1, sX8_throughOf_2, sX8_throughOf_3, sX8_throughOf_5, sX8_throughOf_6, sX8_throughOf_9, sX8_throughOf_12, sX8_throughOf_25, sX8_throughOf_13, sX8_throughOf_26 (st := []), sX8_throughOf_14, sX8_throughOf_15 (st := []), sX8_throughOf_18, sX8_throughOf_19, sX8_throughOf_22, inb, nz_3, nz_4, nz_6, nz_8, nz_10, nz_100, nz_300, pushr_s, pushr_n, rv_s, rv_n, kd_sI, kd_sR, kd_sJ, sz_sI, sz_sR, sz_sJ, aR_sI, aJ_sI, aI_sR, aI_sJ, not_false_eq_true, true_and, and_true, true_or, or_true, or_false, false_or, eq_self, ite_true, ite_false, if_true, if_false, kd_sA, mk_67 h.1, aI_sA H pile (show 67 ≠ 82 by decide), h.2.2.1, e, nI_1, hp]
theorem m_through {a : Int32} (h : MoV H N P D L b) (pile : Nat → Int32) : ∃ pile', ∀ (Q : Option Value → AH → Prop), Wp S (d + 6) 180 0 [.ref 67, .int a, hole, hole] [] (sA H pile) Q = Q (some (.int (thS (rT H L) 0 N 0 a))) (sA H pile') := by
  obtain ⟨p1, ih⟩ := lp_mthrough (S := S) (d := d) (a := a) h N 0 a pile (by omega)
  rw [nI_0] at ih
  refine ⟨p1, fun Q => ?_⟩
  simp only [sX8_throughOf_0, sX8_throughOf_1, sX8_throughOf_2, sX8_throughOf_3, sX8_throughOf_5, sX8_throughOf_6, sX8_throughOf_9, sX8_throughOf_12, sX8_throughOf_25, sX8_throughOf_13, sX8_throughOf_26 (st := []), sX8_throughOf_14, sX8_throughOf_15 (st := []), sX8_throughOf_18, sX8_throughOf_19, sX8_throughOf_22, inb, nz_3, nz_4, nz_6, nz_8, nz_10, nz_100, nz_300, pushr_s, pushr_n, rv_s, rv_n, kd_sI, kd_sR, kd_sJ, sz_sI, sz_sR, sz_sJ, aR_sI, aJ_sI, aI_sR, aI_sJ, not_false_eq_true, true_and, and_true, true_or, or_true, or_false, false_or, eq_self, ite_true, ite_false, if_true, if_false, ih]
theorem lp_mmost (h : MoV H N P D L b) : ∀ (c i : Nat) (t m : Int32) (pile : Nat → Int32), i + c = N → ∃ pile', ∀ (Q : Option Value → AH → Prop) (l4 : Value), Wp S (d + 7) 177 7 [.ref 67, .int t, .int m, .int (nI i), l4] [] (sA H pile) Q = Q (some (.int (moS (fun i => chS (rT H L i) 256 0 0) c i t m))) (sA H pile')
  | 0, i, t, m, pile, hc => by
    have hN := h.2.2.2.1
    have e : nI N ≤ nI i := nI_le (by omega) (by omega)
    refine ⟨pile, fun Q l4 => ?_⟩
    rw [sX8_mostOf_7]
    simp only [sX8_mostOf_0, sX8_mostOf_2, sX8_mostOf_3, sX8_mostOf_4, sX8_mostOf_5, sX8_mostOf_6, sX8_mostOf_8, sX8_mostOf_9, sX8_mostOf_12, sX8_mostOf_15, sX8_mostOf_42, sX8_mostOf_16, sX8_mostOf_43 (st := []), sX8_mostOf_17 (st := []), sX8_mostOf_20, sX8_mostOf_22, sX8_mostOf_24, sX8_mostOf_25, sX8_mostOf_28, sX8_mostOf_31, sX8_mostOf_36, sX8_mostOf_32, sX8_mostOf_39, sX8_mostOf_33, sX8_mostOf_35, inb, nz_3, nz_4, nz_6, nz_8, nz_10, nz_100, nz_300, pushr_s, pushr_n, rv_s, rv_n, kd_sI, kd_sR, kd_sJ, sz_sI, sz_sR, sz_sJ, aR_sI, aJ_sI, aI_sR, aI_sJ, not_false_eq_true, true_and, and_true, true_or, or_true, or_false, false_or, eq_self, ite_true, ite_false, if_true, if_false, kd_sA, mk_67 h.1, aI_sA H pile (show 67 ≠ 82 by decide), h.2.2.1, e]
    rfl
  | c + 1, i, t, m, pile, hc => by
    have hN := h.2.2.2.1
    have e : ¬ nI N ≤ nI i := nI_ge (by omega) (by omega)
    obtain ⟨p1, hp⟩ := m_other (S := S) (d := d) h (show i < N by omega) pile
    rw [moS]
    by_cases g : chS (rT H L i) 256 0 0 ≤ m
    · obtain ⟨p2, ih⟩ := lp_mmost h c (i + 1) t m p1 (by omega)
      refine ⟨p2, fun Q l4 => ?_⟩
      rw [if_pos g, sX8_mostOf_7]
      have ih := fun l4 => ih Q l4
      have g' : ¬ m < chS (rT H L i) 256 0 0 := Int32.not_lt.mpr g
      simp only [sX8_mostOf_0, sX8_mostOf_2, sX8_mostOf_3, sX8_mostOf_4, sX8_mostOf_5, sX8_mostOf_6, sX8_mostOf_8, sX8_mostOf_9, sX8_mostOf_12, sX8_mostOf_15, sX8_mostOf_42, sX8_mostOf_16, sX8_mostOf_43 (st := []), sX8_mostOf_17 (st := []), sX8_mostOf_20, sX8_mostOf_22, sX8_mostOf_24, sX8_mostOf_25, sX8_mostOf_28, sX8_mostOf_31, sX8_mostOf_36, sX8_mostOf_32, sX8_mostOf_39, sX8_mostOf_33, sX8_mostOf_35, inb, nz_3, nz_4, nz_6, nz_8, nz_10, nz_100, nz_300, pushr_s, pushr_n, rv_s, rv_n, kd_sI, kd_sR, kd_sJ, sz_sI, sz_sR, sz_sJ, aR_sI, aJ_sI, aI_sR, aI_sJ, not_false_eq_true, true_and, and_true, true_or, or_true, or_false, false_or, eq_self, ite_true, ite_false, if_true, if_false, kd_sA, mk_67 h.1, aI_sA H pile (show 67 ≠ 82 by decide), h.2.2.1, e, nI_1, hp, g', ih]
    · obtain ⟨p2, ih⟩ := lp_mmost h c (i + 1) (nI i) (chS (rT H L i) 256 0 0) p1 (by omega)
      refine ⟨p2, fun Q l4 => ?_⟩
      rw [if_neg g, sX8_mostOf_7]
      have ih := fun l4 => ih Q l4
      have g' : m < chS (rT H L i) 256 0 0 := Int32.not_le.mp g
      simp only [sX8_mostOf_0, sX8_mostOf_2, sX8_mostOf_3, sX8_mostOf_4, sX8_mostOf_5, sX8_mostOf_6, sX8_mostOf_8, sX8_mostOf_9, sX8_mostOf_12, sX8_mostOf_15, sX8_mostOf_42, sX8_mostOf_16, sX8_mostOf_43 (st := []), sX8_mostOf_17 (st := []), sX8_mostOf_20, sX8_mostOf_22, sX8_mostOf_24, sX8_mostOf_25, sX8_mostOf_28, sX8_mostOf_31, sX8_mostOf_36, sX8_mostOf_32, sX8_mostOf_39, sX8_mostOf_33, sX8_mostOf_35, inb, nz_3, nz_4, nz_6, nz_8, nz_10, nz_100, nz_300, pushr_s, pushr_n, rv_s, rv_n, kd_sI, kd_sR, kd_sJ, sz_sI, sz_sR, sz_sJ, aR_sI, aJ_sI, aI_sR, aI_sJ, not_false_eq_true, true_and, and_true, true_or, or_true, or_false, false_or, eq_self, ite_true, ite_false, if_true, if_false, kd_sA, mk_67 h.1, aI_sA H pile (show 67 ≠ 82 by decide), h.2.2.1, e, nI_1, hp, g', ih]
theorem m_most (h : MoV H N P D L b) (pile : Nat → Int32) : ∃ pile', ∀ (Q : Option Value → AH → Prop), Wp S (d + 7) 177 0 [.ref 67, hole, hole, hole, hole] [] (sA H pile) Q = Q (some (.int (moS (fun i => chS (rT H L i) 256 0 0) N 0 (-5) (-1)))) (sA H pile') := by
  obtain ⟨p1, ih⟩ := lp_mmost (S := S) (d := d) h N 0 (-5) (-1) pile (by omega)
  rw [nI_0] at ih
  refine ⟨p1, fun Q => ?_⟩
  simp only [sX8_mostOf_0, sX8_mostOf_2, sX8_mostOf_3, sX8_mostOf_4, sX8_mostOf_5, sX8_mostOf_6, sX8_mostOf_8, sX8_mostOf_9, sX8_mostOf_12, sX8_mostOf_15, sX8_mostOf_42, sX8_mostOf_16, sX8_mostOf_43 (st := []), sX8_mostOf_17 (st := []), sX8_mostOf_20, sX8_mostOf_22, sX8_mostOf_24, sX8_mostOf_25, sX8_mostOf_28, sX8_mostOf_31, sX8_mostOf_36, sX8_mostOf_32, sX8_mostOf_39, sX8_mostOf_33, sX8_mostOf_35, inb, nz_3, nz_4, nz_6, nz_8, nz_10, nz_100, nz_300, pushr_s, pushr_n, rv_s, rv_n, kd_sI, kd_sR, kd_sJ, sz_sI, sz_sR, sz_sJ, aR_sI, aJ_sI, aI_sR, aI_sJ, not_false_eq_true, true_and, and_true, true_or, or_true, or_false, false_or, eq_self, ite_true, ite_false, if_true, if_false, ih]
theorem lp_mseen {l M : Nat} (h : MoV H N P D L b) (hl : l < N) (hM : aI H 67 36 = nI M) (hM5 : M ≤ 5) : ∀ (c i : Nat) (pile : Nat → Int32), i + c = M → ∃ pile', ∀ (Q : Option Value → AH → Prop), Wp S (d + 6) 187 2 [.ref 67, .int (nI l), .int (nI i)] [] (sA H pile) Q = Q (some (.int (seS (rT H L l) (aI H 88) (aI H 89) c i))) (sA H pile')
  | 0, i, pile, hc => by
    have e : nI M ≤ nI i := nI_le (by omega) (by omega)
    refine ⟨pile, fun Q => ?_⟩
    rw [sX8_isSeen_2]
    simp only [sX8_isSeen_0, sX8_isSeen_1, sX8_isSeen_3, sX8_isSeen_4, sX8_isSeen_7, sX8_isSeen_10, sX8_isSeen_38, sX8_isSeen_11, sX8_isSeen_39 (st := []), sX8_isSeen_12, sX8_isSeen_13, sX8_isSeen_16, sX8_isSeen_17, sX8_isSeen_18 (st := []), sX8_isSeen_21, sX8_isSeen_22, sX8_isSeen_25, sX8_isSeen_26, sX8_isSeen_27, sX8_isSeen_30, sX8_isSeen_32, sX8_isSeen_31 (st := []), sX8_isSeen_35, inb, nz_3, nz_4, nz_6, nz_8, nz_10, nz_100, nz_300, pushr_s, pushr_n, rv_s, rv_n, kd_sI, kd_sR, kd_sJ, sz_sI, sz_sR, sz_sJ, aR_sI, aJ_sI, aI_sR, aI_sJ, not_false_eq_true, true_and, and_true, true_or, or_true, or_false, false_or, eq_self, ite_true, ite_false, if_true, if_false, kd_sA, mk_67 h.1, aI_sA H pile (show 67 ≠ 82 by decide), hM, e]
    rfl
  | c + 1, i, pile, hc => by
    have e : ¬ nI M ≤ nI i := nI_ge (by omega) (by omega)
    obtain ⟨p1, hp⟩ := m_rT (S := S) (d := d) (n := aI H 88 i) h hl pile
    have kc : (nI i).toNatClampNeg = i := nI_clamp (by omega)
    have k1 : ¬ (nI i < 0 ∨ 5 ≤ i) := inN (by omega) (by omega)
    rw [seS]
    by_cases g : rT H L l (aI H 88 i) = aI H 89 i
    · obtain ⟨p2, ih⟩ := lp_mseen h hl hM hM5 c (i + 1) p1 (by omega)
      refine ⟨p2, fun Q => ?_⟩
      rw [if_pos g, ← ih Q, sX8_isSeen_2]
      simp only [sX8_isSeen_0, sX8_isSeen_1, sX8_isSeen_3, sX8_isSeen_4, sX8_isSeen_7, sX8_isSeen_10, sX8_isSeen_38, sX8_isSeen_11, sX8_isSeen_39 (st := []), sX8_isSeen_12, sX8_isSeen_13, sX8_isSeen_16, sX8_isSeen_17, sX8_isSeen_18 (st := []), sX8_isSeen_21, sX8_isSeen_22, sX8_isSeen_25, sX8_isSeen_26, sX8_isSeen_27, sX8_isSeen_30, sX8_isSeen_32, sX8_isSeen_31 (st := []), sX8_isSeen_35, inb, nz_3, nz_4, nz_6, nz_8, nz_10, nz_100, nz_300, pushr_s, pushr_n, rv_s, rv_n, kd_sI, kd_sR, kd_sJ, sz_sI, sz_sR, sz_sJ, aR_sI, aJ_sI, aI_sR, aI_sJ, not_false_eq_true, true_and, and_true, true_or, or_true, or_false, false_or, eq_self, ite_true, ite_false, if_true, if_false, kd_sA, sz_sA, aR_sA, mk_67 h.1, mr_37 h.1, mk_88 h.1, mz_88 h.1, mr_38 h.1, mk_89 h.1, mz_89 h.1, aI_sA H pile (show 67 ≠ 82 by decide), aI_sA H pile (show 88 ≠ 82 by decide), aI_sA H p1 (show 89 ≠ 82 by decide), hM, e, nI_1, kc, k1, hp, g]
    · refine ⟨p1, fun Q => ?_⟩
      rw [if_neg g, sX8_isSeen_2]
      simp only [sX8_isSeen_0, sX8_isSeen_1, sX8_isSeen_3, sX8_isSeen_4, sX8_isSeen_7, sX8_isSeen_10, sX8_isSeen_38, sX8_isSeen_11, sX8_isSeen_39 (st := []), sX8_isSeen_12, sX8_isSeen_13, sX8_isSeen_16, sX8_isSeen_17, sX8_isSeen_18 (st := []), sX8_isSeen_21, sX8_isSeen_22, sX8_isSeen_25, sX8_isSeen_26, sX8_isSeen_27, sX8_isSeen_30, sX8_isSeen_32, sX8_isSeen_31 (st := []), sX8_isSeen_35, inb, nz_3, nz_4, nz_6, nz_8, nz_10, nz_100, nz_300, pushr_s, pushr_n, rv_s, rv_n, kd_sI, kd_sR, kd_sJ, sz_sI, sz_sR, sz_sJ, aR_sI, aJ_sI, aI_sR, aI_sJ, not_false_eq_true, true_and, and_true, true_or, or_true, or_false, false_or, eq_self, ite_true, ite_false, if_true, if_false, kd_sA, sz_sA, aR_sA, mk_67 h.1, mr_37 h.1, mk_88 h.1, mz_88 h.1, mr_38 h.1, mk_89 h.1, mz_89 h.1, aI_sA H pile (show 67 ≠ 82 by decide), aI_sA H pile (show 88 ≠ 82 by decide), aI_sA H p1 (show 89 ≠ 82 by decide), hM, e, nI_1, kc, k1, hp, g]
theorem m_seen {l M : Nat} (h : MoV H N P D L b) (hl : l < N) (hM : aI H 67 36 = nI M) (hM5 : M ≤ 5) (pile : Nat → Int32) : ∃ pile', ∀ (Q : Option Value → AH → Prop), Wp S (d + 6) 187 0 [.ref 67, .int (nI l), hole] [] (sA H pile) Q = Q (some (.int (seS (rT H L l) (aI H 88) (aI H 89) M 0))) (sA H pile') := by
  obtain ⟨p1, ih⟩ := lp_mseen (S := S) (d := d) h hl hM hM5 M 0 pile (by omega)
  rw [nI_0] at ih
  refine ⟨p1, fun Q => ?_⟩
  simp only [sX8_isSeen_0, sX8_isSeen_1, sX8_isSeen_3, sX8_isSeen_4, sX8_isSeen_7, sX8_isSeen_10, sX8_isSeen_38, sX8_isSeen_11, sX8_isSeen_39 (st := []), sX8_isSeen_12, sX8_isSeen_13, sX8_isSeen_16, sX8_isSeen_17, sX8_isSeen_18 (st := []), sX8_isSeen_21, sX8_isSeen_22, sX8_isSeen_25, sX8_isSeen_26, sX8_isSeen_27, sX8_isSeen_30, sX8_isSeen_32, sX8_isSeen_31 (st := []), sX8_isSeen_35, inb, nz_3, nz_4, nz_6, nz_8, nz_10, nz_100, nz_300, pushr_s, pushr_n, rv_s, rv_n, kd_sI, kd_sR, kd_sJ, sz_sI, sz_sR, sz_sJ, aR_sI, aJ_sI, aI_sR, aI_sJ, not_false_eq_true, true_and, and_true, true_or, or_true, or_false, false_or, eq_self, ite_true, ite_false, if_true, if_false, ih]
end MODEL
