-- 12: a stage asked: through, changes, most, seen
/-- a stage's numbers are in order: N maids, day D -/
def StV (H : AH) (k N D : Nat) : Prop := StL H k ∧ WyL H (aR H k 13) ∧ aI H k 1 = nI N ∧ N ≤ 6 ∧ aI H k 0 = nI D ∧ D < 20000
theorem md4_nI {D : Nat} (h : D < 2 ^ 31) : md4 (nI D) = nI (D % 4) := pk_rem (a := D) (d := 4) h (by decide) (by decide)
theorem md8_nI {D : Nat} (h : D < 2 ^ 31) : md8 (nI D) = nI (D % 8) := pk_rem (a := D) (d := 8) h (by decide) (by decide)
theorem ix_nI {i : Nat} (h : i < 2 ^ 31) : ix (nI i) = i := nI_clamp h
theorem row_nI {i D : Nat} (hi : i < 6) (hD : D < 2 ^ 31) : nI i * 4 + md4 (nI D) = nI (4 * i + D % 4) := by
  rw [md4_nI hD, show (4 : Int32) = nI 4 from rfl, pk_mul, nI_add, Nat.mul_comm]
theorem row_in {i D : Nat} (hi : i < 6) (hD : D < 2 ^ 31) : inb (nI i * 4 + md4 (nI D)) 24 := by
  rw [row_nI hi hD]
  exact nI_in (by omega) (by omega)
/-- passed on today -/
def pT (H : AH) (k : Nat) (l n : Int32) : Int32 := pOn H k l (aI H (k + 2) (ix l)) n (aI H k 0)
/-- through all from i on, c of them, but for those in the bits -/
def thS (f : Nat → Int32 → Int32) (bits : Int32) : Nat → Nat → Int32 → Int32
  | 0, _, n => n
  | c + 1, i, n => thS f bits c (i + 1) (if bits &&& (1 <<< (nI i &&& 31)) = 0 then f i n else n)
/-- how many are otherwise -/
def chS (f : Int32 → Int32) : Nat → Nat → Int32 → Int32
  | 0, _, a => a
  | c + 1, i, a => chS f c (i + 1) (if f (nI i) = nI i then a else a + 1)
/-- the most -/
def moS (g : Nat → Int32) : Nat → Nat → Int32 → Int32 → Int32
  | 0, _, b, _ => b
  | c + 1, i, b, m => if g i ≤ m then moS g c (i + 1) b m else moS g c (i + 1) (nI i) (g i)
section STAGE
variable {S : SC} {d k N D : Nat} {H : AH} {Q : Option Value → AH → Prop}
theorem w_pT {i : Nat} {n : Int32} (h : StV H k N D) (hi : i < N) : Wp S (d + 4) 30 0 [.ref k, .int (nI i), .int n] [] H Q = Q (some (.int (pT H k (nI i) n))) H := by
  obtain ⟨h, hW, hm, hN, hd, hD⟩ := h
  have hl : ¬ (nI i < 0 ∨ 6 ≤ (nI i).toNatClampNeg) := nI_in (by omega) (by omega)
  have hr : inb (nI i * 4 + md4 (aI H k 0)) 24 := by rw [hd]; exact row_in (by omega) (by omega)
  have hp := fun Q v n => w_passedOn (S := S) (d := d) (Q := Q) (v := v) (n := n) h hW hl hr
  simp only [sX3_passedOnToday_0, sX3_passedOnToday_1, sX3_passedOnToday_2, sX3_passedOnToday_3, sX3_passedOnToday_6, sX3_passedOnToday_7, sX3_passedOnToday_8, sX3_passedOnToday_9, sX3_passedOnToday_10, sX3_passedOnToday_13 (st := []), sX3_passedOnToday_16 (st := []), inb, nz_3, nz_4, nz_6, nz_8, nz_10, nz_100, nz_300, pushr_s, pushr_n, rv_s, rv_n, kd_sI, kd_sR, kd_sJ, sz_sI, sz_sR, sz_sJ, aR_sI, aJ_sI, aI_sR, aI_sJ, not_false_eq_true, true_and, and_true, true_or, or_true, or_false, false_or, eq_self, ite_true, ite_false, if_true, if_false, h.1, h.2.1, h.2.2.1, h.2.2.2.1, h.2.2.2.2.1, h.2.2.2.2.2.1, h.2.2.2.2.2.2.1, h.2.2.2.2.2.2.2.1, h.2.2.2.2.2.2.2.2.1, h.2.2.2.2.2.2.2.2.2.1, h.2.2.2.2.2.2.2.2.2.2.1, h.2.2.2.2.2.2.2.2.2.2.2.1, h.2.2.2.2.2.2.2.2.2.2.2.2.1, h.2.2.2.2.2.2.2.2.2.2.2.2.2.1, h.2.2.2.2.2.2.2.2.2.2.2.2.2.2.1, h.2.2.2.2.2.2.2.2.2.2.2.2.2.2.2.1, h.2.2.2.2.2.2.2.2.2.2.2.2.2.2.2.2.1, h.2.2.2.2.2.2.2.2.2.2.2.2.2.2.2.2.2.1, h.2.2.2.2.2.2.2.2.2.2.2.2.2.2.2.2.2.2.1, h.2.2.2.2.2.2.2.2.2.2.2.2.2.2.2.2.2.2.2.1, h.2.2.2.2.2.2.2.2.2.2.2.2.2.2.2.2.2.2.2.2.1, h.2.2.2.2.2.2.2.2.2.2.2.2.2.2.2.2.2.2.2.2.2.1, h.2.2.2.2.2.2.2.2.2.2.2.2.2.2.2.2.2.2.2.2.2.2.1, h.2.2.2.2.2.2.2.2.2.2.2.2.2.2.2.2.2.2.2.2.2.2.2.1, h.2.2.2.2.2.2.2.2.2.2.2.2.2.2.2.2.2.2.2.2.2.2.2.2.1, h.2.2.2.2.2.2.2.2.2.2.2.2.2.2.2.2.2.2.2.2.2.2.2.2.2.1, h.2.2.2.2.2.2.2.2.2.2.2.2.2.2.2.2.2.2.2.2.2.2.2.2.2.2.1, h.2.2.2.2.2.2.2.2.2.2.2.2.2.2.2.2.2.2.2.2.2.2.2.2.2.2.2.1, h.2.2.2.2.2.2.2.2.2.2.2.2.2.2.2.2.2.2.2.2.2.2.2.2.2.2.2.2.1, h.2.2.2.2.2.2.2.2.2.2.2.2.2.2.2.2.2.2.2.2.2.2.2.2.2.2.2.2.2.1, h.2.2.2.2.2.2.2.2.2.2.2.2.2.2.2.2.2.2.2.2.2.2.2.2.2.2.2.2.2.2.1, h.2.2.2.2.2.2.2.2.2.2.2.2.2.2.2.2.2.2.2.2.2.2.2.2.2.2.2.2.2.2.2.1, h.2.2.2.2.2.2.2.2.2.2.2.2.2.2.2.2.2.2.2.2.2.2.2.2.2.2.2.2.2.2.2.2.1, h.2.2.2.2.2.2.2.2.2.2.2.2.2.2.2.2.2.2.2.2.2.2.2.2.2.2.2.2.2.2.2.2.2.1, h.2.2.2.2.2.2.2.2.2.2.2.2.2.2.2.2.2.2.2.2.2.2.2.2.2.2.2.2.2.2.2.2.2.2.1, h.2.2.2.2.2.2.2.2.2.2.2.2.2.2.2.2.2.2.2.2.2.2.2.2.2.2.2.2.2.2.2.2.2.2.2.1, h.2.2.2.2.2.2.2.2.2.2.2.2.2.2.2.2.2.2.2.2.2.2.2.2.2.2.2.2.2.2.2.2.2.2.2.2.1, h.2.2.2.2.2.2.2.2.2.2.2.2.2.2.2.2.2.2.2.2.2.2.2.2.2.2.2.2.2.2.2.2.2.2.2.2.2.1, h.2.2.2.2.2.2.2.2.2.2.2.2.2.2.2.2.2.2.2.2.2.2.2.2.2.2.2.2.2.2.2.2.2.2.2.2.2.2.1, h.2.2.2.2.2.2.2.2.2.2.2.2.2.2.2.2.2.2.2.2.2.2.2.2.2.2.2.2.2.2.2.2.2.2.2.2.2.2.2, hl, hp]
  rfl
theorem lp_through {b a : Int32} (h : StV H k N D) : ∀ (c i : Nat) (n : Int32), i + c = N → Wp S (d + 5) 31 5 [.ref k, .int a, .int b, .int n, .int (nI i)] [] H Q = Q (some (.int (thS (fun i n => pT H k (nI i) n) b c i n))) H
  | 0, i, n, hc => by
    have e : nI N ≤ nI i := nI_le (by omega) (by have := h.2.2.2.1; omega)
    rw [sX3_throughAll_5]
    simp only [sX3_throughAll_0, sX3_throughAll_1, sX3_throughAll_2, sX3_throughAll_3, sX3_throughAll_7, sX3_throughAll_8, sX3_throughAll_11, sX3_throughAll_14, sX3_throughAll_37, sX3_throughAll_15, sX3_throughAll_38 (st := []), sX3_throughAll_16, sX3_throughAll_18, sX3_throughAll_19, sX3_throughAll_20, sX3_throughAll_23, sX3_throughAll_31, sX3_throughAll_24, sX3_throughAll_34, sX3_throughAll_26, sX3_throughAll_27 (st := []), sX3_throughAll_30, inb, nz_3, nz_4, nz_6, nz_8, nz_10, nz_100, nz_300, pushr_s, pushr_n, rv_s, rv_n, kd_sI, kd_sR, kd_sJ, sz_sI, sz_sR, sz_sJ, aR_sI, aJ_sI, aI_sR, aI_sJ, not_false_eq_true, true_and, and_true, true_or, or_true, or_false, false_or, eq_self, ite_true, ite_false, if_true, if_false, h.1.1, h.2.2.1, e]
    rfl
  | c + 1, i, n, hc => by
    have hN := h.2.2.2.1
    have ih := fun n => lp_through (a := a) (b := b) h c (i + 1) n (by omega)
    have e : ¬ nI N ≤ nI i := nI_ge (by omega) (by omega)
    have hp := fun Q n => w_pT (S := S) (d := d) (Q := Q) (n := n) h (show i < N by omega)
    rw [sX3_throughAll_5]
    simp only [sX3_throughAll_0, sX3_throughAll_1, sX3_throughAll_2, sX3_throughAll_3, sX3_throughAll_7, sX3_throughAll_8, sX3_throughAll_11, sX3_throughAll_14, sX3_throughAll_37, sX3_throughAll_15, sX3_throughAll_38 (st := []), sX3_throughAll_16, sX3_throughAll_18, sX3_throughAll_19, sX3_throughAll_20, sX3_throughAll_23, sX3_throughAll_31, sX3_throughAll_24, sX3_throughAll_34, sX3_throughAll_26, sX3_throughAll_27 (st := []), sX3_throughAll_30, inb, nz_3, nz_4, nz_6, nz_8, nz_10, nz_100, nz_300, pushr_s, pushr_n, rv_s, rv_n, kd_sI, kd_sR, kd_sJ, sz_sI, sz_sR, sz_sJ, aR_sI, aJ_sI, aI_sR, aI_sJ, not_false_eq_true, true_and, and_true, true_or, or_true, or_false, false_or, eq_self, ite_true, ite_false, if_true, if_false, h.1.1, h.2.2.1, e, nI_1, hp, ih]
    rw [thS]
    split <;> rfl
theorem w_through {a b : Int32} (h : StV H k N D) : Wp S (d + 5) 31 0 [.ref k, .int a, .int b, hole, hole] [] H Q = Q (some (.int (thS (fun i n => pT H k (nI i) n) b N 0 a))) H := by
  have ih := lp_through (S := S) (d := d) (Q := Q) (a := a) (b := b) h N 0 a (by omega)
  rw [nI_0] at ih
  simp only [sX3_throughAll_0, sX3_throughAll_1, sX3_throughAll_2, sX3_throughAll_3, sX3_throughAll_7, sX3_throughAll_8, sX3_throughAll_11, sX3_throughAll_14, sX3_throughAll_37, sX3_throughAll_15, sX3_throughAll_38 (st := []), sX3_throughAll_16, sX3_throughAll_18, sX3_throughAll_19, sX3_throughAll_20, sX3_throughAll_23, sX3_throughAll_31, sX3_throughAll_24, sX3_throughAll_34, sX3_throughAll_26, sX3_throughAll_27 (st := []), sX3_throughAll_30, inb, nz_3, nz_4, nz_6, nz_8, nz_10, nz_100, nz_300, pushr_s, pushr_n, rv_s, rv_n, kd_sI, kd_sR, kd_sJ, sz_sI, sz_sR, sz_sJ, aR_sI, aJ_sI, aI_sR, aI_sJ, not_false_eq_true, true_and, and_true, true_or, or_true, or_false, false_or, eq_self, ite_true, ite_false, if_true, if_false, ih]
theorem lp_changes {l : Nat} (h : StV H k N D) (hl : l < N) : ∀ (c i : Nat) (n : Int32), i + c = 256 → Wp S (d + 5) 32 4 [.ref k, .int (nI l), .int n, .int (nI i)] [] H Q = Q (some (.int (chS (pT H k (nI l)) c i n))) H
  | 0, i, n, hc => by
    have e : 256 ≤ nI i := nI_le (a := 256) (by omega) (by omega)
    rw [sX3_changesBy_4]
    simp only [sX3_changesBy_0, sX3_changesBy_1, sX3_changesBy_2, sX3_changesBy_3, sX3_changesBy_5, sX3_changesBy_8, sX3_changesBy_11, sX3_changesBy_30, sX3_changesBy_12, sX3_changesBy_31 (st := []), sX3_changesBy_13, sX3_changesBy_14 (st := []), sX3_changesBy_17, sX3_changesBy_18, sX3_changesBy_21, sX3_changesBy_24, sX3_changesBy_27, inb, nz_3, nz_4, nz_6, nz_8, nz_10, nz_100, nz_300, pushr_s, pushr_n, rv_s, rv_n, kd_sI, kd_sR, kd_sJ, sz_sI, sz_sR, sz_sJ, aR_sI, aJ_sI, aI_sR, aI_sJ, not_false_eq_true, true_and, and_true, true_or, or_true, or_false, false_or, eq_self, ite_true, ite_false, if_true, if_false, e]
    rfl
  | c + 1, i, n, hc => by
    have ih := fun n => lp_changes h hl c (i + 1) n (by omega)
    have e : ¬ 256 ≤ nI i := nI_ge (b := 256) (by omega) (by omega)
    have hp := fun Q n => w_pT (S := S) (d := d) (Q := Q) (n := n) h hl
    rw [sX3_changesBy_4]
    simp only [sX3_changesBy_0, sX3_changesBy_1, sX3_changesBy_2, sX3_changesBy_3, sX3_changesBy_5, sX3_changesBy_8, sX3_changesBy_11, sX3_changesBy_30, sX3_changesBy_12, sX3_changesBy_31 (st := []), sX3_changesBy_13, sX3_changesBy_14 (st := []), sX3_changesBy_17, sX3_changesBy_18, sX3_changesBy_21, sX3_changesBy_24, sX3_changesBy_27, inb, nz_3, nz_4, nz_6, nz_8, nz_10, nz_100, nz_300, pushr_s, pushr_n, rv_s, rv_n, kd_sI, kd_sR, kd_sJ, sz_sI, sz_sR, sz_sJ, aR_sI, aJ_sI, aI_sR, aI_sJ, not_false_eq_true, true_and, and_true, true_or, or_true, or_false, false_or, eq_self, ite_true, ite_false, if_true, if_false, h.1.1, e, nI_1, hp, ih]
    rw [chS]
    split <;> rfl
theorem w_changes {l : Nat} (h : StV H k N D) (hl : l < N) : Wp S (d + 5) 32 0 [.ref k, .int (nI l), hole, hole] [] H Q = Q (some (.int (chS (pT H k (nI l)) 256 0 0))) H := by
  have ih := lp_changes (S := S) (d := d) (Q := Q) h hl 256 0 0 (by omega)
  rw [nI_0] at ih
  simp only [sX3_changesBy_0, sX3_changesBy_1, sX3_changesBy_2, sX3_changesBy_3, sX3_changesBy_5, sX3_changesBy_8, sX3_changesBy_11, sX3_changesBy_30, sX3_changesBy_12, sX3_changesBy_31 (st := []), sX3_changesBy_13, sX3_changesBy_14 (st := []), sX3_changesBy_17, sX3_changesBy_18, sX3_changesBy_21, sX3_changesBy_24, sX3_changesBy_27, inb, nz_3, nz_4, nz_6, nz_8, nz_10, nz_100, nz_300, pushr_s, pushr_n, rv_s, rv_n, kd_sI, kd_sR, kd_sJ, sz_sI, sz_sR, sz_sJ, aR_sI, aJ_sI, aI_sR, aI_sJ, not_false_eq_true, true_and, and_true, true_or, or_true, or_false, false_or, eq_self, ite_true, ite_false, if_true, if_false, ih]
theorem lp_most (h : StV H k N D) : ∀ (c i : Nat) (b m : Int32) (l4 : Value), i + c = N → Wp S (d + 6) 33 7 [.ref k, .int b, .int m, .int (nI i), l4] [] H Q = Q (some (.int (moS (fun i => chS (pT H k (nI i)) 256 0 0) c i b m))) H
  | 0, i, b, m, l4, hc => by
    have e : nI N ≤ nI i := nI_le (by omega) (by have := h.2.2.2.1; omega)
    rw [sX3_most_7]
    simp only [sX3_most_0, sX3_most_2, sX3_most_3, sX3_most_4, sX3_most_5, sX3_most_6, sX3_most_8, sX3_most_9, sX3_most_12, sX3_most_15, sX3_most_39, sX3_most_16, sX3_most_40 (st := []), sX3_most_17 (st := []), sX3_most_20, sX3_most_22, sX3_most_24, sX3_most_25, sX3_most_28, sX3_most_33, sX3_most_29, sX3_most_36, sX3_most_30, sX3_most_32, inb, nz_3, nz_4, nz_6, nz_8, nz_10, nz_100, nz_300, pushr_s, pushr_n, rv_s, rv_n, kd_sI, kd_sR, kd_sJ, sz_sI, sz_sR, sz_sJ, aR_sI, aJ_sI, aI_sR, aI_sJ, not_false_eq_true, true_and, and_true, true_or, or_true, or_false, false_or, eq_self, ite_true, ite_false, if_true, if_false, h.1.1, h.2.2.1, e]
    rfl
  | c + 1, i, b, m, l4, hc => by
    have hN := h.2.2.2.1
    have ih := fun b m l4 => lp_most h c (i + 1) b m l4 (by omega)
    have e : ¬ nI N ≤ nI i := nI_ge (by omega) (by omega)
    have hp := fun Q => w_changes (S := S) (d := d) (Q := Q) h (show i < N by omega)
    rw [sX3_most_7]
    simp only [sX3_most_0, sX3_most_2, sX3_most_3, sX3_most_4, sX3_most_5, sX3_most_6, sX3_most_8, sX3_most_9, sX3_most_12, sX3_most_15, sX3_most_39, sX3_most_16, sX3_most_40 (st := []), sX3_most_17 (st := []), sX3_most_20, sX3_most_22, sX3_most_24, sX3_most_25, sX3_most_28, sX3_most_33, sX3_most_29, sX3_most_36, sX3_most_30, sX3_most_32, inb, nz_3, nz_4, nz_6, nz_8, nz_10, nz_100, nz_300, pushr_s, pushr_n, rv_s, rv_n, kd_sI, kd_sR, kd_sJ, sz_sI, sz_sR, sz_sJ, aR_sI, aJ_sI, aI_sR, aI_sJ, not_false_eq_true, true_and, and_true, true_or, or_true, or_false, false_or, eq_self, ite_true, ite_false, if_true, if_false, h.1.1, h.2.2.1, e, nI_1, hp, ih]
    rw [moS]
    split <;> rfl
theorem w_most (h : StV H k N D) : Wp S (d + 6) 33 0 [.ref k, hole, hole, hole, hole] [] H Q = Q (some (.int (moS (fun i => chS (pT H k (nI i)) 256 0 0) N 0 (-5) (-1)))) H := by
  have ih := fun l4 => lp_most (S := S) (d := d) (Q := Q) h N 0 (-5) (-1) l4 (by omega)
  simp only [nI_0] at ih
  simp only [sX3_most_0, sX3_most_2, sX3_most_3, sX3_most_4, sX3_most_5, sX3_most_6, sX3_most_8, sX3_most_9, sX3_most_12, sX3_most_15, sX3_most_39, sX3_most_16, sX3_most_40 (st := []), sX3_most_17 (st := []), sX3_most_20, sX3_most_22, sX3_most_24, sX3_most_25, sX3_most_28, sX3_most_33, sX3_most_29, sX3_most_36, sX3_most_30, sX3_most_32, inb, nz_3, nz_4, nz_6, nz_8, nz_10, nz_100, nz_300, pushr_s, pushr_n, rv_s, rv_n, kd_sI, kd_sR, kd_sJ, sz_sI, sz_sR, sz_sJ, aR_sI, aJ_sI, aI_sR, aI_sJ, not_false_eq_true, true_and, and_true, true_or, or_true, or_false, false_or, eq_self, ite_true, ite_false, if_true, if_false, ih]
end STAGE
