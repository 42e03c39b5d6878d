-- 11: a way's clauses, the stack of bits; what a maid passes on
/-- bitCount as the machine does it -/
def ush (x : Int32) (n : Int32) : Int32 := (x.toUInt32 >>> (n.toUInt32 &&& Int32.toUInt32 31)).toInt32
def bc1 (x : Int32) : Int32 := x - (ush x 1 &&& 1431655765)
def bc2 (x : Int32) : Int32 := (x &&& 858993459) + (ush x 2 &&& 858993459)
def bc3 (x : Int32) : Int32 := (x + ush x 4) &&& 252645135
def bc4 (x : Int32) : Int32 := x + ush x 8
def bc5 (x : Int32) : Int32 := (x + ush x 16) &&& 63
def bcn (x : Int32) : Int32 := bc5 (bc4 (bc3 (bc2 (bc1 x))))
def facS (what nb kk v n y : Int32) : Int32 := if what = 0 then nb else if what = 1 then kk else if what = 2 then v else if what = 3 then bcn n else if what = 4 then n - n / 10 * 10 else y - y / 10 * 10
def holS (rel x n : Int32) : Int32 := if rel = 0 then (if x < n then 1 else 0) else if rel = 1 then (if x = n then 1 else 0) else (if n < x then 1 else 0)
def sm (s : Int32) : Int32 := s - s / 100 * 100
def stS (nb kk v n y s : Int32) (p : Int32 × Int32) : Int32 × Int32 :=
  if s / 300 = 6 then (p.1, (p.2 >>> (1 &&& 31)) &&& ((p.2 &&& 1) ||| (-2)))
  else if s / 300 = 7 then (p.1, (p.2 >>> (1 &&& 31)) ||| (p.2 &&& 1))
  else if s / 300 = 8 then (p.1, p.2 ^^^ 1)
  else if s / 300 = 9 then (p.1 + (p.2 &&& 1) * sm s, p.2 >>> (1 &&& 31))
  else if s / 300 = 10 then (p.1 - (p.2 &&& 1) * sm s, p.2 >>> (1 &&& 31))
  else (p.1, (p.2 <<< (1 &&& 31)) ||| holS (s / 100 - s / 100 / 3 * 3) (facS (s / 300) nb kk v n y) (sm s))
def hwS (nb kk v n y : Int32) (f : Nat → Int32) : Nat → Nat → Int32 × Int32 → Int32 × Int32
  | 0, _, p => p
  | c + 1, i, p => hwS nb kk v n y f c (i + 1) (stS nb kk v n y (f i) p)
def hdW (H : AH) (t : Nat) (nb kk v n y : Int32) : Int32 := if 0 < (hwS nb kk v n y (aI H t) (sz H t) 0 (1, 0)).1 then 1 else 0
section HEED
variable {S : SC} {d k : Nat} {H : AH} {Q : Option Value → AH → Prop}
theorem w_bitCount {x : Int32} : Wp S d 221 0 [.int x] [] H Q = Q (some (.int (bcn x))) H := by
  simp only [sJ6_bitCount_0f7a4_0, sJ6_bitCount_0f7a4_1, sJ6_bitCount_0f7a4_2, sJ6_bitCount_0f7a4_3, sJ6_bitCount_0f7a4_4, sJ6_bitCount_0f7a4_7, sJ6_bitCount_0f7a4_8, sJ6_bitCount_0f7a4_9, sJ6_bitCount_0f7a4_10, sJ6_bitCount_0f7a4_11, sJ6_bitCount_0f7a4_14, sJ6_bitCount_0f7a4_15, sJ6_bitCount_0f7a4_16, sJ6_bitCount_0f7a4_17, sJ6_bitCount_0f7a4_18, sJ6_bitCount_0f7a4_21, sJ6_bitCount_0f7a4_22, sJ6_bitCount_0f7a4_23, sJ6_bitCount_0f7a4_24, sJ6_bitCount_0f7a4_25, sJ6_bitCount_0f7a4_26, sJ6_bitCount_0f7a4_27, sJ6_bitCount_0f7a4_28, sJ6_bitCount_0f7a4_29, sJ6_bitCount_0f7a4_32, sJ6_bitCount_0f7a4_33, sJ6_bitCount_0f7a4_34, sJ6_bitCount_0f7a4_35, sJ6_bitCount_0f7a4_36, sJ6_bitCount_0f7a4_38, sJ6_bitCount_0f7a4_39, sJ6_bitCount_0f7a4_40, sJ6_bitCount_0f7a4_41, sJ6_bitCount_0f7a4_42, sJ6_bitCount_0f7a4_43, sJ6_bitCount_0f7a4_45, sJ6_bitCount_0f7a4_46, sJ6_bitCount_0f7a4_47, sJ6_bitCount_0f7a4_48, sJ6_bitCount_0f7a4_49, sJ6_bitCount_0f7a4_51, sJ6_bitCount_0f7a4_52 (st := []), inb, nz_3, nz_4, nz_6, nz_8, nz_10, nz_100, nz_300, pushr_s, pushr_n, rv_s, rv_n, kd_sI, kd_sR, kd_sJ, sz_sI, sz_sR, sz_sJ, aR_sI, aJ_sI, aI_sR, aI_sJ, not_false_eq_true, true_and, and_true, true_or, or_true, or_false, false_or, eq_self, ite_true, ite_false, if_true, if_false]
  rfl
theorem w_factOf {what nb kk v n y : Int32} : Wp S (d + 1) 51 0 [.int what, .int nb, .int kk, .int v, .int n, .int y] [] H Q = Q (some (.int (facS what nb kk v n y))) H := by
  simp only [sX5_factOf_0, sX5_factOf_1, sX5_factOf_54, sX5_factOf_36, sX5_factOf_38, sX5_factOf_40, sX5_factOf_42, sX5_factOf_48, sX5_factOf_56, sX5_factOf_37 (st := []), sX5_factOf_39 (st := []), sX5_factOf_41 (st := []), sX5_factOf_44 (st := []), sX5_factOf_50, sX5_factOf_58, sX5_factOf_47 (st := []), sX5_factOf_52, sX5_factOf_59 (st := []), sX5_factOf_53 (st := []), inb, nz_3, nz_4, nz_6, nz_8, nz_10, nz_100, nz_300, pushr_s, pushr_n, rv_s, rv_n, kd_sI, kd_sR, kd_sJ, sz_sI, sz_sR, sz_sJ, aR_sI, aJ_sI, aI_sR, aI_sJ, not_false_eq_true, true_and, and_true, true_or, or_true, or_false, false_or, eq_self, ite_true, ite_false, if_true, if_false, w_bitCount]
  unfold facS
  repeat' split
  all_goals rfl
theorem holS01 (r x n : Int32) : holS r x n = 0 ∨ holS r x n = 1 := by
  unfold holS
  repeat' split
  all_goals first | exact Or.inl rfl | exact Or.inr rfl
theorem w_holds {r x n : Int32} : Wp S d 52 0 [.int r, .int x, .int n] [] H Q = Q (some (.int (holS r x n))) H := by
  simp only [sX5_holds_0, sX5_holds_1, sX5_holds_4, sX5_holds_15, sX5_holds_5, sX5_holds_16, sX5_holds_6, sX5_holds_17, sX5_holds_9, sX5_holds_13, sX5_holds_20, sX5_holds_33, sX5_holds_10, sX5_holds_14 (st := []), sX5_holds_21, sX5_holds_34, sX5_holds_22, sX5_holds_35, sX5_holds_25, sX5_holds_29, sX5_holds_38, sX5_holds_42, sX5_holds_26, sX5_holds_30, sX5_holds_39, sX5_holds_43 (st := []), inb, nz_3, nz_4, nz_6, nz_8, nz_10, nz_100, nz_300, pushr_s, pushr_n, rv_s, rv_n, kd_sI, kd_sR, kd_sJ, sz_sI, sz_sR, sz_sJ, aR_sI, aJ_sI, aI_sR, aI_sJ, not_false_eq_true, true_and, and_true, true_or, or_true, or_false, false_or, eq_self, ite_true, ite_false, if_true, if_false]
  unfold holS
  by_cases h0 : r = 0
  · rw [if_pos h0, if_pos h0]
    by_cases h1 : n ≤ x
    · rw [if_pos h1, if_neg (Int32.not_lt.mpr h1)]
    · rw [if_neg h1, if_pos (Int32.not_le.mp h1)]
  · rw [if_neg h0, if_neg h0]
    by_cases h1 : r = 1
    · rw [if_pos h1, if_pos h1]
      split <;> rfl
    · rw [if_neg h1, if_neg h1]
      by_cases h2 : x ≤ n
      · rw [if_pos h2, if_neg (Int32.not_lt.mpr h2)]
      · rw [if_neg h2, if_pos (Int32.not_le.mp h2)]
theorem lp_isHeeded {w t : Nat} {nb kk v n y : Int32} (hw : kd H w = 5) (hr : aR H w 1 = some t) (ht : kd H t = 20) (hn : sz H t < 2 ^ 31) : ∀ (c i : Nat) (sum st : Int32) (l9 l10 l11 l12 l13 : Value), i + c = sz H t → Wp S (d + 2) 50 9 [.ref w, .int nb, .int kk, .int v, .int n, .int y, .int sum, .int st, .int (nI i), l9, l10, l11, l12, l13] [] H Q = Q (some (.int (if 0 < (hwS nb kk v n y (aI H t) c i (sum, st)).1 then 1 else 0))) H
  | 0, i, sum, st, l9, l10, l11, l12, l13, h => by
    have e : nI (sz H t) ≤ nI i := nI_le (by omega) (by omega)
    rw [sX5_isHeeded_9]
    simp only [sX5_isHeeded_0, sX5_isHeeded_1, sX5_isHeeded_3, sX5_isHeeded_4, sX5_isHeeded_6, sX5_isHeeded_7, sX5_isHeeded_11, sX5_isHeeded_12, sX5_isHeeded_15, sX5_isHeeded_16, sX5_isHeeded_19, sX5_isHeeded_212, sX5_isHeeded_20, sX5_isHeeded_214, sX5_isHeeded_23, sX5_isHeeded_217, sX5_isHeeded_221, sX5_isHeeded_25, sX5_isHeeded_218, sX5_isHeeded_222 (st := []), sX5_isHeeded_26, sX5_isHeeded_28, sX5_isHeeded_29, sX5_isHeeded_31, sX5_isHeeded_32, sX5_isHeeded_35, sX5_isHeeded_37, sX5_isHeeded_38, sX5_isHeeded_41, sX5_isHeeded_42, sX5_isHeeded_44, sX5_isHeeded_46, sX5_isHeeded_47, sX5_isHeeded_48, sX5_isHeeded_50, sX5_isHeeded_52, sX5_isHeeded_53, sX5_isHeeded_54, sX5_isHeeded_56, sX5_isHeeded_58, sX5_isHeeded_158, sX5_isHeeded_92, sX5_isHeeded_105, sX5_isHeeded_115, sX5_isHeeded_124, sX5_isHeeded_141, sX5_isHeeded_160, sX5_isHeeded_94, sX5_isHeeded_107, sX5_isHeeded_117, sX5_isHeeded_126, sX5_isHeeded_143, sX5_isHeeded_161, sX5_isHeeded_96, sX5_isHeeded_109, sX5_isHeeded_118, sX5_isHeeded_128, sX5_isHeeded_145, sX5_isHeeded_162, sX5_isHeeded_98, sX5_isHeeded_110, sX5_isHeeded_119, sX5_isHeeded_130, sX5_isHeeded_147, sX5_isHeeded_163, sX5_isHeeded_99, sX5_isHeeded_112, sX5_isHeeded_121, sX5_isHeeded_131, sX5_isHeeded_148, sX5_isHeeded_165, sX5_isHeeded_100, sX5_isHeeded_206, sX5_isHeeded_132, sX5_isHeeded_149, sX5_isHeeded_167 (st := []), sX5_isHeeded_102, sX5_isHeeded_209, sX5_isHeeded_134, sX5_isHeeded_151, sX5_isHeeded_170, sX5_isHeeded_136, sX5_isHeeded_153, sX5_isHeeded_172, sX5_isHeeded_138, sX5_isHeeded_155, sX5_isHeeded_174, sX5_isHeeded_175, sX5_isHeeded_176, sX5_isHeeded_177, sX5_isHeeded_180, sX5_isHeeded_182, sX5_isHeeded_183, sX5_isHeeded_185, sX5_isHeeded_186, sX5_isHeeded_187, sX5_isHeeded_188, sX5_isHeeded_190, sX5_isHeeded_192 (st := []), sX5_isHeeded_195, sX5_isHeeded_198, sX5_isHeeded_202, sX5_isHeeded_199, sX5_isHeeded_203, sX5_isHeeded_204, inb, nz_3, nz_4, nz_6, nz_8, nz_10, nz_100, nz_300, pushr_s, pushr_n, rv_s, rv_n, kd_sI, kd_sR, kd_sJ, sz_sI, sz_sR, sz_sJ, aR_sI, aJ_sI, aI_sR, aI_sJ, not_false_eq_true, true_and, and_true, true_or, or_true, or_false, false_or, eq_self, ite_true, ite_false, if_true, if_false, hw, hr, ht, e]
    unfold hwS
    by_cases h0 : sum ≤ 0
    · rw [if_pos h0, if_neg (Int32.not_lt.mpr h0)]
    · rw [if_neg h0, if_pos (Int32.not_le.mp h0)]
  | c + 1, i, sum, st, l9, l10, l11, l12, l13, h => by
    have ih := fun sum st l9 l10 l11 l12 l13 => lp_isHeeded (nb := nb) (kk := kk) (v := v) (n := n) (y := y) hw hr ht hn c (i + 1) sum st l9 l10 l11 l12 l13 (by omega)
    have e : ¬ nI (sz H t) ≤ nI i := nI_ge (by omega) hn
    have hin : ¬ (nI i < 0 ∨ sz H t ≤ (nI i).toNatClampNeg) := nI_in (by omega) hn
    rw [sX5_isHeeded_9]
    simp only [sX5_isHeeded_0, sX5_isHeeded_1, sX5_isHeeded_3, sX5_isHeeded_4, sX5_isHeeded_6, sX5_isHeeded_7, sX5_isHeeded_11, sX5_isHeeded_12, sX5_isHeeded_15, sX5_isHeeded_16, sX5_isHeeded_19, sX5_isHeeded_212, sX5_isHeeded_20, sX5_isHeeded_214, sX5_isHeeded_23, sX5_isHeeded_217, sX5_isHeeded_221, sX5_isHeeded_25, sX5_isHeeded_218, sX5_isHeeded_222 (st := []), sX5_isHeeded_26, sX5_isHeeded_28, sX5_isHeeded_29, sX5_isHeeded_31, sX5_isHeeded_32, sX5_isHeeded_35, sX5_isHeeded_37, sX5_isHeeded_38, sX5_isHeeded_41, sX5_isHeeded_42, sX5_isHeeded_44, sX5_isHeeded_46, sX5_isHeeded_47, sX5_isHeeded_48, sX5_isHeeded_50, sX5_isHeeded_52, sX5_isHeeded_53, sX5_isHeeded_54, sX5_isHeeded_56, sX5_isHeeded_58, sX5_isHeeded_158, sX5_isHeeded_92, sX5_isHeeded_105, sX5_isHeeded_115, sX5_isHeeded_124, sX5_isHeeded_141, sX5_isHeeded_160, sX5_isHeeded_94, sX5_isHeeded_107, sX5_isHeeded_117, sX5_isHeeded_126, sX5_isHeeded_143, sX5_isHeeded_161, sX5_isHeeded_96, sX5_isHeeded_109, sX5_isHeeded_118, sX5_isHeeded_128, sX5_isHeeded_145, sX5_isHeeded_162, sX5_isHeeded_98, sX5_isHeeded_110, sX5_isHeeded_119, sX5_isHeeded_130, sX5_isHeeded_147, sX5_isHeeded_163, sX5_isHeeded_99, sX5_isHeeded_112, sX5_isHeeded_121, sX5_isHeeded_131, sX5_isHeeded_148, sX5_isHeeded_165, sX5_isHeeded_100, sX5_isHeeded_206, sX5_isHeeded_132, sX5_isHeeded_149, sX5_isHeeded_167 (st := []), sX5_isHeeded_102, sX5_isHeeded_209, sX5_isHeeded_134, sX5_isHeeded_151, sX5_isHeeded_170, sX5_isHeeded_136, sX5_isHeeded_153, sX5_isHeeded_172, sX5_isHeeded_138, sX5_isHeeded_155, sX5_isHeeded_174, sX5_isHeeded_175, sX5_isHeeded_176, sX5_isHeeded_177, sX5_isHeeded_180, sX5_isHeeded_182, sX5_isHeeded_183, sX5_isHeeded_185, sX5_isHeeded_186, sX5_isHeeded_187, sX5_isHeeded_188, sX5_isHeeded_190, sX5_isHeeded_192 (st := []), sX5_isHeeded_195, sX5_isHeeded_198, sX5_isHeeded_202, sX5_isHeeded_199, sX5_isHeeded_203, sX5_isHeeded_204, inb, nz_3, nz_4, nz_6, nz_8, nz_10, nz_100, nz_300, pushr_s, pushr_n, rv_s, rv_n, kd_sI, kd_sR, kd_sJ, sz_sI, sz_sR, sz_sJ, aR_sI, aJ_sI, aI_sR, aI_sJ, not_false_eq_true, true_and, and_true, true_or, or_true, or_false, false_or, eq_self, ite_true, ite_false, if_true, if_false, hw, hr, ht, e, hin, nI_1, w_factOf, w_holds, ih]
    rw [nI_clamp (show i < 2 ^ 31 by omega)]
    show _ = Q (some (.int (if 0 < (hwS nb kk v n y (aI H t) c (i + 1) (stS nb kk v n y (aI H t i) (sum, st))).1 then 1 else 0))) H
    generalize aI H t i = s0
    unfold stS
    by_cases h6 : s0 / 300 = 6
    · rw [if_pos h6, if_pos h6]
      try rfl
    rw [if_neg h6, if_neg h6]
    by_cases h7 : s0 / 300 = 7
    · rw [if_pos h7, if_pos h7]
      try rfl
    rw [if_neg h7, if_neg h7]
    by_cases h8 : s0 / 300 = 8
    · rw [if_pos h8, if_pos h8]
      try rfl
    rw [if_neg h8, if_neg h8]
    by_cases h9 : s0 / 300 = 9
    · rw [if_pos h9, if_pos h9]
      try rfl
    rw [if_neg h9, if_neg h9]
    by_cases h10 : s0 / 300 = 10
    · rw [if_pos h10, if_pos h10]
      try rfl
    rw [if_neg h10, if_neg h10]
    rcases holS01 (s0 / 100 - s0 / 100 / 3 * 3) (facS (s0 / 300) nb kk v n y) (sm s0) with e0 | e0
    · rw [e0, if_pos (show holS (s0 / 100 - s0 / 100 / 3 * 3) (facS (s0 / 300) nb kk v n y) (s0 - s0 / 100 * 100) = 0 from e0)]
    · rw [e0, if_neg (by rw [show holS (s0 / 100 - s0 / 100 / 3 * 3) (facS (s0 / 300) nb kk v n y) (s0 - s0 / 100 * 100) = 1 from e0]; decide)]
theorem w_isHeeded {w t : Nat} {nb kk v n y : Int32} (hw : kd H w = 5) (hr : aR H w 1 = some t) (ht : kd H t = 20) (hn : sz H t < 2 ^ 31) : Wp S (d + 2) 50 0 [.ref w, .int nb, .int kk, .int v, .int n, .int y, hole, hole, hole, hole, hole, hole, hole, hole] [] H Q = Q (some (.int (hdW H t nb kk v n y))) H := by
  have ih := fun l9 l10 l11 l12 l13 => lp_isHeeded (S := S) (d := d) (Q := Q) (nb := nb) (kk := kk) (v := v) (n := n) (y := y) hw hr ht hn (sz H t) 0 1 0 l9 l10 l11 l12 l13 (by omega)
  simp only [nI_0] at ih
  simp only [sX5_isHeeded_0, sX5_isHeeded_1, sX5_isHeeded_3, sX5_isHeeded_4, sX5_isHeeded_6, sX5_isHeeded_7, sX5_isHeeded_11, sX5_isHeeded_12, sX5_isHeeded_15, sX5_isHeeded_16, sX5_isHeeded_19, sX5_isHeeded_212, sX5_isHeeded_20, sX5_isHeeded_214, sX5_isHeeded_23, sX5_isHeeded_217, sX5_isHeeded_221, sX5_isHeeded_25, sX5_isHeeded_218, sX5_isHeeded_222 (st := []), sX5_isHeeded_26, sX5_isHeeded_28, sX5_isHeeded_29, sX5_isHeeded_31, sX5_isHeeded_32, sX5_isHeeded_35, sX5_isHeeded_37, sX5_isHeeded_38, sX5_isHeeded_41, sX5_isHeeded_42, sX5_isHeeded_44, sX5_isHeeded_46, sX5_isHeeded_47, sX5_isHeeded_48, sX5_isHeeded_50, sX5_isHeeded_52, sX5_isHeeded_53, sX5_isHeeded_54, sX5_isHeeded_56, sX5_isHeeded_58, sX5_isHeeded_158, sX5_isHeeded_92, sX5_isHeeded_105, sX5_isHeeded_115, sX5_isHeeded_124, sX5_isHeeded_141, sX5_isHeeded_160, sX5_isHeeded_94, sX5_isHeeded_107, sX5_isHeeded_117, sX5_isHeeded_126, sX5_isHeeded_143, sX5_isHeeded_161, sX5_isHeeded_96, sX5_isHeeded_109, sX5_isHeeded_118, sX5_isHeeded_128, sX5_isHeeded_145, sX5_isHeeded_162, sX5_isHeeded_98, sX5_isHeeded_110, sX5_isHeeded_119, sX5_isHeeded_130, sX5_isHeeded_147, sX5_isHeeded_163, sX5_isHeeded_99, sX5_isHeeded_112, sX5_isHeeded_121, sX5_isHeeded_131, sX5_isHeeded_148, sX5_isHeeded_165, sX5_isHeeded_100, sX5_isHeeded_206, sX5_isHeeded_132, sX5_isHeeded_149, sX5_isHeeded_167 (st := []), sX5_isHeeded_102, sX5_isHeeded_209, sX5_isHeeded_134, sX5_isHeeded_151, sX5_isHeeded_170, sX5_isHeeded_136, sX5_isHeeded_153, sX5_isHeeded_172, sX5_isHeeded_138, sX5_isHeeded_155, sX5_isHeeded_174, sX5_isHeeded_175, sX5_isHeeded_176, sX5_isHeeded_177, sX5_isHeeded_180, sX5_isHeeded_182, sX5_isHeeded_183, sX5_isHeeded_185, sX5_isHeeded_186, sX5_isHeeded_187, sX5_isHeeded_188, sX5_isHeeded_190, sX5_isHeeded_192 (st := []), sX5_isHeeded_195, sX5_isHeeded_198, sX5_isHeeded_202, sX5_isHeeded_199, sX5_isHeeded_203, sX5_isHeeded_204, inb, nz_3, nz_4, nz_6, nz_8, nz_10, nz_100, nz_300, pushr_s, pushr_n, rv_s, rv_n, kd_sI, kd_sR, kd_sJ, sz_sI, sz_sR, sz_sJ, aR_sI, aJ_sI, aI_sR, aI_sJ, not_false_eq_true, true_and, and_true, true_or, or_true, or_false, false_or, eq_self, ite_true, ite_false, if_true, if_false, ih]
  rfl
/-- whether a way of a stage heeds: 1 without one -/
def hdO (H : AH) (w : Option Nat) (nb kk v n y : Int32) : Int32 := match w with | none => 1 | some o => match aR H o 1 with | some t => hdW H t nb kk v n y | none => 1
/-- the ways: an object of the class, its row -/
def WyL (H : AH) (w : Option Nat) : Prop := ∀ o, w = some o → kd H o = 5 ∧ ∃ t, aR H o 1 = some t ∧ kd H t = 20 ∧ sz H t < 2 ^ 31
/-- passed on: by a stage's own -/
def pOn (H : AH) (k : Nat) (l v n y : Int32) : Int32 := if ob (aI H k 4) l = 1 then n else if hdO H (aR H k 13) l (aI H (k + 1) (ix l)) v n y = 0 then n else sayS (aI H (k + 1) (ix l)) v n (aI H (k + 3) (ix (l * 4 + md4 y)))
theorem ob01 (x l : Int32) : ob x l = 0 ∨ ob x l = 1 := by unfold ob; split; exact Or.inl rfl; exact Or.inr rfl
theorem w_passedOn {l v n y : Int32} (h : StL H k) (hW : WyL H (aR H k 13)) (hl : inb l 6) (hr : inb (l * 4 + md4 y) 24) : Wp S (d + 3) 29 0 [.ref k, .int l, .int v, .int n, .int y] [] H Q = Q (some (.int (pOn H k l v n y))) H := by
  have hs := fun Q => w_said (S := S) (d := d + 1) (Q := Q) (v := v) (n := n) h hl hr
  have ho := fun Q => w_isOut (S := S) (d := d + 2) (Q := Q) (l := l) h
  unfold pOn
  rcases ob01 (aI H k 4) l with e | e
  · rw [if_neg (by rw [e]; decide)]
    cases hw : aR H k 13 with
    | none =>
      simp only [sX3_passedOn_0, sX3_passedOn_1, sX3_passedOn_2 (st := []), sX3_passedOn_5, sX3_passedOn_8, sX3_passedOn_10, sX3_passedOn_9 (st := []), sX3_passedOn_11, sX3_passedOn_14n, sX3_passedOn_14r, sX3_passedOn_17, sX3_passedOn_40, sX3_passedOn_18, sX3_passedOn_41, sX3_passedOn_21, sX3_passedOn_42, sX3_passedOn_22, sX3_passedOn_43, sX3_passedOn_23, sX3_passedOn_44, sX3_passedOn_26, sX3_passedOn_46 (st := []), sX3_passedOn_27, sX3_passedOn_49 (st := []), sX3_passedOn_28, sX3_passedOn_29, sX3_passedOn_30, sX3_passedOn_32 (st := []), sX3_passedOn_35, sX3_passedOn_38, sX3_passedOn_39 (st := []), inb, nz_3, nz_4, nz_6, nz_8, nz_10, nz_100, nz_300, pushr_s, pushr_n, rv_s, rv_n, kd_sI, kd_sR, kd_sJ, sz_sI, sz_sR, sz_sJ, aR_sI, aJ_sI, aI_sR, aI_sJ, not_false_eq_true, true_and, and_true, true_or, or_true, or_false, false_or, eq_self, ite_true, ite_false, if_true, if_false, h.1, h.2.1, h.2.2.1, h.2.2.2.1, h.2.2.2.2.1, h.2.2.2.2.2.1, h.2.2.2.2.2.2.1, h.2.2.2.2.2.2.2.1, h.2.2.2.2.2.2.2.2.1, h.2.2.2.2.2.2.2.2.2.1, h.2.2.2.2.2.2.2.2.2.2.1, h.2.2.2.2.2.2.2.2.2.2.2.1, h.2.2.2.2.2.2.2.2.2.2.2.2.1, h.2.2.2.2.2.2.2.2.2.2.2.2.2.1, h.2.2.2.2.2.2.2.2.2.2.2.2.2.2.1, h.2.2.2.2.2.2.2.2.2.2.2.2.2.2.2.1, h.2.2.2.2.2.2.2.2.2.2.2.2.2.2.2.2.1, h.2.2.2.2.2.2.2.2.2.2.2.2.2.2.2.2.2.1, h.2.2.2.2.2.2.2.2.2.2.2.2.2.2.2.2.2.2.1, h.2.2.2.2.2.2.2.2.2.2.2.2.2.2.2.2.2.2.2.1, h.2.2.2.2.2.2.2.2.2.2.2.2.2.2.2.2.2.2.2.2.1, h.2.2.2.2.2.2.2.2.2.2.2.2.2.2.2.2.2.2.2.2.2.1, h.2.2.2.2.2.2.2.2.2.2.2.2.2.2.2.2.2.2.2.2.2.2.1, h.2.2.2.2.2.2.2.2.2.2.2.2.2.2.2.2.2.2.2.2.2.2.2.1, h.2.2.2.2.2.2.2.2.2.2.2.2.2.2.2.2.2.2.2.2.2.2.2.2.1, h.2.2.2.2.2.2.2.2.2.2.2.2.2.2.2.2.2.2.2.2.2.2.2.2.2.1, h.2.2.2.2.2.2.2.2.2.2.2.2.2.2.2.2.2.2.2.2.2.2.2.2.2.2.1, h.2.2.2.2.2.2.2.2.2.2.2.2.2.2.2.2.2.2.2.2.2.2.2.2.2.2.2.1, h.2.2.2.2.2.2.2.2.2.2.2.2.2.2.2.2.2.2.2.2.2.2.2.2.2.2.2.2.1, h.2.2.2.2.2.2.2.2.2.2.2.2.2.2.2.2.2.2.2.2.2.2.2.2.2.2.2.2.2.1, h.2.2.2.2.2.2.2.2.2.2.2.2.2.2.2.2.2.2.2.2.2.2.2.2.2.2.2.2.2.2.1, h.2.2.2.2.2.2.2.2.2.2.2.2.2.2.2.2.2.2.2.2.2.2.2.2.2.2.2.2.2.2.2.1, h.2.2.2.2.2.2.2.2.2.2.2.2.2.2.2.2.2.2.2.2.2.2.2.2.2.2.2.2.2.2.2.2.1, h.2.2.2.2.2.2.2.2.2.2.2.2.2.2.2.2.2.2.2.2.2.2.2.2.2.2.2.2.2.2.2.2.2.1, h.2.2.2.2.2.2.2.2.2.2.2.2.2.2.2.2.2.2.2.2.2.2.2.2.2.2.2.2.2.2.2.2.2.2.1, h.2.2.2.2.2.2.2.2.2.2.2.2.2.2.2.2.2.2.2.2.2.2.2.2.2.2.2.2.2.2.2.2.2.2.2.1, h.2.2.2.2.2.2.2.2.2.2.2.2.2.2.2.2.2.2.2.2.2.2.2.2.2.2.2.2.2.2.2.2.2.2.2.2.1, h.2.2.2.2.2.2.2.2.2.2.2.2.2.2.2.2.2.2.2.2.2.2.2.2.2.2.2.2.2.2.2.2.2.2.2.2.2.1, h.2.2.2.2.2.2.2.2.2.2.2.2.2.2.2.2.2.2.2.2.2.2.2.2.2.2.2.2.2.2.2.2.2.2.2.2.2.2.1, h.2.2.2.2.2.2.2.2.2.2.2.2.2.2.2.2.2.2.2.2.2.2.2.2.2.2.2.2.2.2.2.2.2.2.2.2.2.2.2, ho, e, hw, hs, hdO]
      rfl
    | some o =>
      obtain ⟨q1, t, q2, q3, q4⟩ := hW o hw
      have hh := fun Q kk => w_isHeeded (S := S) (d := d) (Q := Q) (nb := l) (kk := kk) (v := v) (n := n) (y := y) q1 q2 q3 q4
      simp only [sX3_passedOn_0, sX3_passedOn_1, sX3_passedOn_2 (st := []), sX3_passedOn_5, sX3_passedOn_8, sX3_passedOn_10, sX3_passedOn_9 (st := []), sX3_passedOn_11, sX3_passedOn_14n, sX3_passedOn_14r, sX3_passedOn_17, sX3_passedOn_40, sX3_passedOn_18, sX3_passedOn_41, sX3_passedOn_21, sX3_passedOn_42, sX3_passedOn_22, sX3_passedOn_43, sX3_passedOn_23, sX3_passedOn_44, sX3_passedOn_26, sX3_passedOn_46 (st := []), sX3_passedOn_27, sX3_passedOn_49 (st := []), sX3_passedOn_28, sX3_passedOn_29, sX3_passedOn_30, sX3_passedOn_32 (st := []), sX3_passedOn_35, sX3_passedOn_38, sX3_passedOn_39 (st := []), inb, nz_3, nz_4, nz_6, nz_8, nz_10, nz_100, nz_300, pushr_s, pushr_n, rv_s, rv_n, kd_sI, kd_sR, kd_sJ, sz_sI, sz_sR, sz_sJ, aR_sI, aJ_sI, aI_sR, aI_sJ, not_false_eq_true, true_and, and_true, true_or, or_true, or_false, false_or, eq_self, ite_true, ite_false, if_true, if_false, h.1, h.2.1, h.2.2.1, h.2.2.2.1, h.2.2.2.2.1, h.2.2.2.2.2.1, h.2.2.2.2.2.2.1, h.2.2.2.2.2.2.2.1, h.2.2.2.2.2.2.2.2.1, h.2.2.2.2.2.2.2.2.2.1, h.2.2.2.2.2.2.2.2.2.2.1, h.2.2.2.2.2.2.2.2.2.2.2.1, h.2.2.2.2.2.2.2.2.2.2.2.2.1, h.2.2.2.2.2.2.2.2.2.2.2.2.2.1, h.2.2.2.2.2.2.2.2.2.2.2.2.2.2.1, h.2.2.2.2.2.2.2.2.2.2.2.2.2.2.2.1, h.2.2.2.2.2.2.2.2.2.2.2.2.2.2.2.2.1, h.2.2.2.2.2.2.2.2.2.2.2.2.2.2.2.2.2.1, h.2.2.2.2.2.2.2.2.2.2.2.2.2.2.2.2.2.2.1, h.2.2.2.2.2.2.2.2.2.2.2.2.2.2.2.2.2.2.2.1, h.2.2.2.2.2.2.2.2.2.2.2.2.2.2.2.2.2.2.2.2.1, h.2.2.2.2.2.2.2.2.2.2.2.2.2.2.2.2.2.2.2.2.2.1, h.2.2.2.2.2.2.2.2.2.2.2.2.2.2.2.2.2.2.2.2.2.2.1, h.2.2.2.2.2.2.2.2.2.2.2.2.2.2.2.2.2.2.2.2.2.2.2.1, h.2.2.2.2.2.2.2.2.2.2.2.2.2.2.2.2.2.2.2.2.2.2.2.2.1, h.2.2.2.2.2.2.2.2.2.2.2.2.2.2.2.2.2.2.2.2.2.2.2.2.2.1, h.2.2.2.2.2.2.2.2.2.2.2.2.2.2.2.2.2.2.2.2.2.2.2.2.2.2.1, h.2.2.2.2.2.2.2.2.2.2.2.2.2.2.2.2.2.2.2.2.2.2.2.2.2.2.2.1, h.2.2.2.2.2.2.2.2.2.2.2.2.2.2.2.2.2.2.2.2.2.2.2.2.2.2.2.2.1, h.2.2.2.2.2.2.2.2.2.2.2.2.2.2.2.2.2.2.2.2.2.2.2.2.2.2.2.2.2.1, h.2.2.2.2.2.2.2.2.2.2.2.2.2.2.2.2.2.2.2.2.2.2.2.2.2.2.2.2.2.2.1, h.2.2.2.2.2.2.2.2.2.2.2.2.2.2.2.2.2.2.2.2.2.2.2.2.2.2.2.2.2.2.2.1, h.2.2.2.2.2.2.2.2.2.2.2.2.2.2.2.2.2.2.2.2.2.2.2.2.2.2.2.2.2.2.2.2.1, h.2.2.2.2.2.2.2.2.2.2.2.2.2.2.2.2.2.2.2.2.2.2.2.2.2.2.2.2.2.2.2.2.2.1, h.2.2.2.2.2.2.2.2.2.2.2.2.2.2.2.2.2.2.2.2.2.2.2.2.2.2.2.2.2.2.2.2.2.2.1, h.2.2.2.2.2.2.2.2.2.2.2.2.2.2.2.2.2.2.2.2.2.2.2.2.2.2.2.2.2.2.2.2.2.2.2.1, h.2.2.2.2.2.2.2.2.2.2.2.2.2.2.2.2.2.2.2.2.2.2.2.2.2.2.2.2.2.2.2.2.2.2.2.2.1, h.2.2.2.2.2.2.2.2.2.2.2.2.2.2.2.2.2.2.2.2.2.2.2.2.2.2.2.2.2.2.2.2.2.2.2.2.2.1, h.2.2.2.2.2.2.2.2.2.2.2.2.2.2.2.2.2.2.2.2.2.2.2.2.2.2.2.2.2.2.2.2.2.2.2.2.2.2.1, h.2.2.2.2.2.2.2.2.2.2.2.2.2.2.2.2.2.2.2.2.2.2.2.2.2.2.2.2.2.2.2.2.2.2.2.2.2.2.2, ho, e, hw, hs, hh, hl, hdO, q1, q2]
      split <;> rfl
  · rw [if_pos e]
    simp only [sX3_passedOn_0, sX3_passedOn_1, sX3_passedOn_2 (st := []), sX3_passedOn_5, sX3_passedOn_8, sX3_passedOn_10, sX3_passedOn_9 (st := []), sX3_passedOn_11, sX3_passedOn_14n, sX3_passedOn_14r, sX3_passedOn_17, sX3_passedOn_40, sX3_passedOn_18, sX3_passedOn_41, sX3_passedOn_21, sX3_passedOn_42, sX3_passedOn_22, sX3_passedOn_43, sX3_passedOn_23, sX3_passedOn_44, sX3_passedOn_26, sX3_passedOn_46 (st := []), sX3_passedOn_27, sX3_passedOn_49 (st := []), sX3_passedOn_28, sX3_passedOn_29, sX3_passedOn_30, sX3_passedOn_32 (st := []), sX3_passedOn_35, sX3_passedOn_38, sX3_passedOn_39 (st := []), inb, nz_3, nz_4, nz_6, nz_8, nz_10, nz_100, nz_300, pushr_s, pushr_n, rv_s, rv_n, kd_sI, kd_sR, kd_sJ, sz_sI, sz_sR, sz_sJ, aR_sI, aJ_sI, aI_sR, aI_sJ, not_false_eq_true, true_and, and_true, true_or, or_true, or_false, false_or, eq_self, ite_true, ite_false, if_true, if_false, h.1, h.2.1, h.2.2.1, h.2.2.2.1, h.2.2.2.2.1, h.2.2.2.2.2.1, h.2.2.2.2.2.2.1, h.2.2.2.2.2.2.2.1, h.2.2.2.2.2.2.2.2.1, h.2.2.2.2.2.2.2.2.2.1, h.2.2.2.2.2.2.2.2.2.2.1, h.2.2.2.2.2.2.2.2.2.2.2.1, h.2.2.2.2.2.2.2.2.2.2.2.2.1, h.2.2.2.2.2.2.2.2.2.2.2.2.2.1, h.2.2.2.2.2.2.2.2.2.2.2.2.2.2.1, h.2.2.2.2.2.2.2.2.2.2.2.2.2.2.2.1, h.2.2.2.2.2.2.2.2.2.2.2.2.2.2.2.2.1, h.2.2.2.2.2.2.2.2.2.2.2.2.2.2.2.2.2.1, h.2.2.2.2.2.2.2.2.2.2.2.2.2.2.2.2.2.2.1, h.2.2.2.2.2.2.2.2.2.2.2.2.2.2.2.2.2.2.2.1, h.2.2.2.2.2.2.2.2.2.2.2.2.2.2.2.2.2.2.2.2.1, h.2.2.2.2.2.2.2.2.2.2.2.2.2.2.2.2.2.2.2.2.2.1, h.2.2.2.2.2.2.2.2.2.2.2.2.2.2.2.2.2.2.2.2.2.2.1, h.2.2.2.2.2.2.2.2.2.2.2.2.2.2.2.2.2.2.2.2.2.2.2.1, h.2.2.2.2.2.2.2.2.2.2.2.2.2.2.2.2.2.2.2.2.2.2.2.2.1, h.2.2.2.2.2.2.2.2.2.2.2.2.2.2.2.2.2.2.2.2.2.2.2.2.2.1, h.2.2.2.2.2.2.2.2.2.2.2.2.2.2.2.2.2.2.2.2.2.2.2.2.2.2.1, h.2.2.2.2.2.2.2.2.2.2.2.2.2.2.2.2.2.2.2.2.2.2.2.2.2.2.2.1, h.2.2.2.2.2.2.2.2.2.2.2.2.2.2.2.2.2.2.2.2.2.2.2.2.2.2.2.2.1, h.2.2.2.2.2.2.2.2.2.2.2.2.2.2.2.2.2.2.2.2.2.2.2.2.2.2.2.2.2.1, h.2.2.2.2.2.2.2.2.2.2.2.2.2.2.2.2.2.2.2.2.2.2.2.2.2.2.2.2.2.2.1, h.2.2.2.2.2.2.2.2.2.2.2.2.2.2.2.2.2.2.2.2.2.2.2.2.2.2.2.2.2.2.2.1, h.2.2.2.2.2.2.2.2.2.2.2.2.2.2.2.2.2.2.2.2.2.2.2.2.2.2.2.2.2.2.2.2.1, h.2.2.2.2.2.2.2.2.2.2.2.2.2.2.2.2.2.2.2.2.2.2.2.2.2.2.2.2.2.2.2.2.2.1, h.2.2.2.2.2.2.2.2.2.2.2.2.2.2.2.2.2.2.2.2.2.2.2.2.2.2.2.2.2.2.2.2.2.2.1, h.2.2.2.2.2.2.2.2.2.2.2.2.2.2.2.2.2.2.2.2.2.2.2.2.2.2.2.2.2.2.2.2.2.2.2.1, h.2.2.2.2.2.2.2.2.2.2.2.2.2.2.2.2.2.2.2.2.2.2.2.2.2.2.2.2.2.2.2.2.2.2.2.2.1, h.2.2.2.2.2.2.2.2.2.2.2.2.2.2.2.2.2.2.2.2.2.2.2.2.2.2.2.2.2.2.2.2.2.2.2.2.2.1, h.2.2.2.2.2.2.2.2.2.2.2.2.2.2.2.2.2.2.2.2.2.2.2.2.2.2.2.2.2.2.2.2.2.2.2.2.2.2.1, h.2.2.2.2.2.2.2.2.2.2.2.2.2.2.2.2.2.2.2.2.2.2.2.2.2.2.2.2.2.2.2.2.2.2.2.2.2.2.2, ho, e]
    rfl
end HEED
