-- 10: rows for the abstract heap
theorem kd_sI (H : AH) (k i : Nat) (v : Int32) (o : Nat) : kd (sI H k i v) o = kd H o := rfl
theorem kd_sJ (H : AH) (k i : Nat) (v : Int64) (o : Nat) : kd (sJ H k i v) o = kd H o := rfl
theorem kd_sR (H : AH) (k i : Nat) (v : Option Nat) (o : Nat) : kd (sR H k i v) o = kd H o := rfl
theorem sz_sI (H : AH) (k i : Nat) (v : Int32) (o : Nat) : sz (sI H k i v) o = sz H o := rfl
theorem sz_sJ (H : AH) (k i : Nat) (v : Int64) (o : Nat) : sz (sJ H k i v) o = sz H o := rfl
theorem sz_sR (H : AH) (k i : Nat) (v : Option Nat) (o : Nat) : sz (sR H k i v) o = sz H o := rfl
theorem aR_sI (H : AH) (k i : Nat) (v : Int32) : aR (sI H k i v) = aR H := rfl
theorem aJ_sI (H : AH) (k i : Nat) (v : Int32) : aJ (sI H k i v) = aJ H := rfl
theorem aI_sR (H : AH) (k i : Nat) (v : Option Nat) : aI (sR H k i v) = aI H := rfl
theorem aI_sJ (H : AH) (k i : Nat) (v : Int64) : aI (sJ H k i v) = aI H := rfl
theorem gI (H : AH) (k i : Nat) (v : Int32) (k2 i2 : Nat) : aI (sI H k i v) k2 i2 = if k2 = k ∧ i2 = i then v else aI H k2 i2 := rfl
theorem fI (H : AH) (k i : Nat) (v : Int32) (k2 : Nat) : aI (sI H k i v) k2 = if k2 = k then upd (aI H k) i v else aI H k2 := by
  funext j
  show (if k2 = k ∧ j = i then v else aI H k2 j) = _
  by_cases h : k2 = k
  · subst h
    rw [if_pos rfl]
    by_cases e : j = i
    · subst e; rw [if_pos ⟨rfl, rfl⟩]; exact (pk_us).symm
    · rw [if_neg (fun z => e z.2)]; exact (pk_un e).symm
  · rw [if_neg (fun z => h z.1), if_neg h]
theorem nz_3 : ((3 : Int32) = 0) = False := eq_false (by decide +kernel)
theorem nz_4 : ((4 : Int32) = 0) = False := eq_false (by decide +kernel)
theorem nz_6 : ((6 : Int32) = 0) = False := eq_false (by decide +kernel)
theorem nz_8 : ((8 : Int32) = 0) = False := eq_false (by decide +kernel)
theorem nz_10 : ((10 : Int32) = 0) = False := eq_false (by decide +kernel)
theorem nz_100 : ((100 : Int32) = 0) = False := eq_false (by decide +kernel)
theorem nz_300 : ((300 : Int32) = 0) = False := eq_false (by decide +kernel)
/-- the place of an index -/
abbrev ix (i : Int32) : Nat := i.toNatClampNeg
/-- a stage's cells: the stage at k, its rows and pairs behind it -/
def StL (H : AH) (k : Nat) : Prop :=
  kd H k = 3 ∧ kd H (k + 1) = 20 ∧ kd H (k + 2) = 20 ∧ kd H (k + 3) = 20 ∧ kd H (k + 4) = 20 ∧ kd H (k + 5) = 20 ∧ kd H (k + 6) = 2 ∧ kd H (k + 7) = 20 ∧ kd H (k + 8) = 20 ∧ kd H (k + 9) = 2 ∧ kd H (k + 10) = 20 ∧ kd H (k + 11) = 20 ∧ kd H (k + 12) = 2 ∧ kd H (k + 13) = 20 ∧ kd H (k + 14) = 20 ∧
  sz H (k + 1) = 6 ∧ sz H (k + 2) = 6 ∧ sz H (k + 3) = 24 ∧ sz H (k + 4) = 5 ∧ sz H (k + 5) = 5 ∧ sz H (k + 7) = 5 ∧ sz H (k + 8) = 5 ∧ sz H (k + 10) = 10 ∧ sz H (k + 11) = 10 ∧
  aR H k 2 = some (k + 1) ∧ aR H k 3 = some (k + 2) ∧ aR H k 5 = some (k + 3) ∧ aR H k 7 = some (k + 4) ∧ aR H k 8 = some (k + 5) ∧ aR H k 10 = some (k + 6) ∧ aR H k 11 = some (k + 9) ∧ aR H k 12 = some (k + 12) ∧
  aR H (k + 6) 1 = some (k + 7) ∧ aR H (k + 6) 2 = some (k + 8) ∧ aR H (k + 9) 1 = some (k + 10) ∧ aR H (k + 9) 2 = some (k + 11) ∧ aR H (k + 12) 1 = some (k + 13) ∧ (aR H (k + 12) 2 = some (k + 14) ∧ sz H (k + 13) = 8 ∧ sz H (k + 14) = 8)
def ob (out l : Int32) : Int32 := if out &&& (1 <<< (l &&& 31)) = 0 then 0 else 1
def md8 (v : Int32) : Int32 := v - v / 8 * 8
def md4 (v : Int32) : Int32 := v - v / 4 * 4
def mkS (v : Int32) : Int32 := 1 <<< (md8 v &&& 31)
def trn (n y : Int32) : Int32 := ((n <<< (y &&& 31)) ||| (n >>> ((8 - y) &&& 31))) &&& 255
def wip (n : Int32) : Int32 := n &&& (n - 1)
def sayS (kind v n row : Int32) : Int32 := if kind = 0 then n ^^^ mkS v else if kind = 1 then n ||| mkS v else if kind = 2 then trn n 1 else if kind = 3 then wip n else if kind = 4 then n ||| mkS v ||| trn (mkS v) 1 else if kind = 5 then trn n (md8 v) else wip n ^^^ row
section STAGE
variable {S : SC} {d k : Nat} {H : AH} {Q : Option Value → AH → Prop}
theorem w_isOut {l : Int32} (h : StL H k) : Wp S d 21 0 [.ref k, .int l] [] H Q = Q (some (.int (ob (aI H k 4) l))) H := by
  simp only [sX3_isOut_0, sX3_isOut_1, sX3_isOut_4, sX3_isOut_5, sX3_isOut_6, sX3_isOut_7, sX3_isOut_8, sX3_isOut_11, sX3_isOut_15, sX3_isOut_12, sX3_isOut_16 (st := []), inb, nz_3, nz_4, nz_6, nz_8, nz_10, nz_100, nz_300, pushr_s, pushr_n, rv_s, rv_n, kd_sI, kd_sR, kd_sJ, sz_sI, sz_sR, sz_sJ, aR_sI, aJ_sI, aI_sR, aI_sJ, not_false_eq_true, true_and, and_true, true_or, or_true, or_false, false_or, eq_self, ite_true, ite_false, if_true, if_false, h.1]
  unfold ob
  split <;> rfl
theorem w_turned {n y : Int32} : Wp S d 27 0 [.int n, .int y] [] H Q = Q (some (.int (trn n y))) H := by
  simp only [sX3_turned_0, sX3_turned_1, sX3_turned_2, sX3_turned_3, sX3_turned_4, sX3_turned_6, sX3_turned_7, sX3_turned_8, sX3_turned_9, sX3_turned_10, sX3_turned_13, sX3_turned_14 (st := []), inb, nz_3, nz_4, nz_6, nz_8, nz_10, nz_100, nz_300, pushr_s, pushr_n, rv_s, rv_n, kd_sI, kd_sR, kd_sJ, sz_sI, sz_sR, sz_sJ, aR_sI, aJ_sI, aI_sR, aI_sJ, not_false_eq_true, true_and, and_true, true_or, or_true, or_false, false_or, eq_self, ite_true, ite_false, if_true, if_false]
  rfl
theorem w_wiped {n : Int32} : Wp S d 28 0 [.int n] [] H Q = Q (some (.int (wip n))) H := by
  simp only [sX3_wiped_0, sX3_wiped_1, sX3_wiped_2, sX3_wiped_3, sX3_wiped_4, sX3_wiped_5 (st := []), inb, nz_3, nz_4, nz_6, nz_8, nz_10, nz_100, nz_300, pushr_s, pushr_n, rv_s, rv_n, kd_sI, kd_sR, kd_sJ, sz_sI, sz_sR, sz_sJ, aR_sI, aJ_sI, aI_sR, aI_sJ, not_false_eq_true, true_and, and_true, true_or, or_true, or_false, false_or, eq_self, ite_true, ite_false, if_true, if_false]
  rfl
theorem w_said {l v n y : Int32} (h : StL H k) (hl : inb l 6) (hr : inb (l * 4 + md4 y) 24) : Wp S (d + 1) 26 0 [.ref k, .int l, .int v, .int n, .int y, hole] [] H Q = Q (some (.int (sayS (aI H (k + 1) (ix l)) v n (aI H (k + 3) (ix (l * 4 + md4 y)))))) H := by
  have hr2 : inb (l * 4 + (y - y / 4 * 4)) 24 := hr
  simp only [sX3_said_0, sX3_said_1, sX3_said_2, sX3_said_4, sX3_said_5, sX3_said_6, sX3_said_8, sX3_said_9, sX3_said_12, sX3_said_13, sX3_said_14, sX3_said_94, sX3_said_52, sX3_said_57, sX3_said_62, sX3_said_68, sX3_said_73, sX3_said_85, sX3_said_95 (st := []), sX3_said_53, sX3_said_58, sX3_said_63, sX3_said_69 (st := []), sX3_said_74, sX3_said_86, sX3_said_98, sX3_said_55, sX3_said_60, sX3_said_64 (st := []), sX3_said_72 (st := []), sX3_said_76, sX3_said_87, sX3_said_99, sX3_said_56 (st := []), sX3_said_61 (st := []), sX3_said_67 (st := []), sX3_said_77, sX3_said_89, sX3_said_102, sX3_said_79, sX3_said_90 (st := []), sX3_said_103, sX3_said_80 (st := []), sX3_said_93 (st := []), sX3_said_104, sX3_said_83, sX3_said_105, sX3_said_84 (st := []), sX3_said_107, sX3_said_108, sX3_said_109, sX3_said_110, sX3_said_111, sX3_said_112 (st := []), inb, nz_3, nz_4, nz_6, nz_8, nz_10, nz_100, nz_300, pushr_s, pushr_n, rv_s, rv_n, kd_sI, kd_sR, kd_sJ, sz_sI, sz_sR, sz_sJ, aR_sI, aJ_sI, aI_sR, aI_sJ, not_false_eq_true, true_and, and_true, true_or, or_true, or_false, false_or, eq_self, ite_true, ite_false, if_true, if_false, h.1, h.2.1, h.2.2.1, h.2.2.2.1, h.2.2.2.2.1, h.2.2.2.2.2.1, h.2.2.2.2.2.2.1, h.2.2.2.2.2.2.2.1, h.2.2.2.2.2.2.2.2.1, h.2.2.2.2.2.2.2.2.2.1, h.2.2.2.2.2.2.2.2.2.2.1, h.2.2.2.2.2.2.2.2.2.2.2.1, h.2.2.2.2.2.2.2.2.2.2.2.2.1, h.2.2.2.2.2.2.2.2.2.2.2.2.2.1, h.2.2.2.2.2.2.2.2.2.2.2.2.2.2.1, h.2.2.2.2.2.2.2.2.2.2.2.2.2.2.2.1, h.2.2.2.2.2.2.2.2.2.2.2.2.2.2.2.2.1, h.2.2.2.2.2.2.2.2.2.2.2.2.2.2.2.2.2.1, h.2.2.2.2.2.2.2.2.2.2.2.2.2.2.2.2.2.2.1, h.2.2.2.2.2.2.2.2.2.2.2.2.2.2.2.2.2.2.2.1, h.2.2.2.2.2.2.2.2.2.2.2.2.2.2.2.2.2.2.2.2.1, h.2.2.2.2.2.2.2.2.2.2.2.2.2.2.2.2.2.2.2.2.2.1, h.2.2.2.2.2.2.2.2.2.2.2.2.2.2.2.2.2.2.2.2.2.2.1, h.2.2.2.2.2.2.2.2.2.2.2.2.2.2.2.2.2.2.2.2.2.2.2.1, h.2.2.2.2.2.2.2.2.2.2.2.2.2.2.2.2.2.2.2.2.2.2.2.2.1, h.2.2.2.2.2.2.2.2.2.2.2.2.2.2.2.2.2.2.2.2.2.2.2.2.2.1, h.2.2.2.2.2.2.2.2.2.2.2.2.2.2.2.2.2.2.2.2.2.2.2.2.2.2.1, h.2.2.2.2.2.2.2.2.2.2.2.2.2.2.2.2.2.2.2.2.2.2.2.2.2.2.2.1, h.2.2.2.2.2.2.2.2.2.2.2.2.2.2.2.2.2.2.2.2.2.2.2.2.2.2.2.2.1, h.2.2.2.2.2.2.2.2.2.2.2.2.2.2.2.2.2.2.2.2.2.2.2.2.2.2.2.2.2.1, h.2.2.2.2.2.2.2.2.2.2.2.2.2.2.2.2.2.2.2.2.2.2.2.2.2.2.2.2.2.2.1, h.2.2.2.2.2.2.2.2.2.2.2.2.2.2.2.2.2.2.2.2.2.2.2.2.2.2.2.2.2.2.2.1, h.2.2.2.2.2.2.2.2.2.2.2.2.2.2.2.2.2.2.2.2.2.2.2.2.2.2.2.2.2.2.2.2.1, h.2.2.2.2.2.2.2.2.2.2.2.2.2.2.2.2.2.2.2.2.2.2.2.2.2.2.2.2.2.2.2.2.2.1, h.2.2.2.2.2.2.2.2.2.2.2.2.2.2.2.2.2.2.2.2.2.2.2.2.2.2.2.2.2.2.2.2.2.2.1, h.2.2.2.2.2.2.2.2.2.2.2.2.2.2.2.2.2.2.2.2.2.2.2.2.2.2.2.2.2.2.2.2.2.2.2.1, h.2.2.2.2.2.2.2.2.2.2.2.2.2.2.2.2.2.2.2.2.2.2.2.2.2.2.2.2.2.2.2.2.2.2.2.2.1, h.2.2.2.2.2.2.2.2.2.2.2.2.2.2.2.2.2.2.2.2.2.2.2.2.2.2.2.2.2.2.2.2.2.2.2.2.2.1, h.2.2.2.2.2.2.2.2.2.2.2.2.2.2.2.2.2.2.2.2.2.2.2.2.2.2.2.2.2.2.2.2.2.2.2.2.2.2.1, h.2.2.2.2.2.2.2.2.2.2.2.2.2.2.2.2.2.2.2.2.2.2.2.2.2.2.2.2.2.2.2.2.2.2.2.2.2.2.2, w_turned, w_wiped, hl, hr2]
  unfold sayS
  generalize aI H (k + 1) (ix l) = kk
  by_cases h0 : kk = 0
  · rw [if_pos h0, if_pos h0]; rfl
  rw [if_neg h0, if_neg h0]
  by_cases h1 : kk = 1
  · rw [if_pos h1, if_pos h1]; rfl
  rw [if_neg h1, if_neg h1]
  by_cases h2 : kk = 2
  · rw [if_pos h2, if_pos h2]
  rw [if_neg h2, if_neg h2]
  by_cases h3 : kk = 3
  · rw [if_pos h3, if_pos h3]
  rw [if_neg h3, if_neg h3]
  by_cases h4 : kk = 4
  · rw [if_pos h4, if_pos h4]; rfl
  rw [if_neg h4, if_neg h4]
  by_cases h5 : kk = 5
  · rw [if_pos h5, if_pos h5]; rfl
  rw [if_neg h5, if_neg h5]
  rfl
end STAGE
