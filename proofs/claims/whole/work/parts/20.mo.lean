-- 20: the reference: its cells (printed by tmpl20.py), its small methods
def moT : List (Nat × Nat) := [(8, 72), (20, 6), (20, 6), (20, 24), (20, 5), (20, 5), (20, 100), (20, 6), (20, 60), (20, 60), (20, 60), (20, 60), (20, 600), (20, 101), (20, 12), (22, 100), (20, 5), (20, 5), (20, 1536), (20, 6), (20, 6), (20, 5), (20, 5), (20, 10), (20, 10), (20, 8), (20, 8), (20, 6), (20, 6), (20, 24), (20, 5), (20, 5), (20, 5), (20, 5), (20, 10), (20, 10), (20, 8), (20, 8), (20, 20), (20, 6), (20, 6), (21, 360), (21, 60)]
def moR : List (Nat × Nat) := [(5, 68), (6, 69), (7, 70), (8, 71), (9, 72), (15, 73), (16, 74), (17, 75), (18, 76), (19, 77), (20, 78), (21, 79), (22, 80), (26, 81), (27, 82), (31, 83), (32, 84), (33, 85), (34, 86), (35, 87), (37, 88), (38, 89), (41, 90), (42, 91), (43, 92), (44, 93), (55, 94), (56, 95), (57, 96), (58, 97), (59, 98), (60, 99), (61, 100), (62, 101), (63, 102), (64, 103), (65, 104), (67, 105), (68, 106), (69, 107), (70, 108), (71, 109)]
/-- the reference at 67, its rows behind it -/
def MoL (H : AH) : Prop := (∀ i, i < 43 → kd H (67 + i) = (moT.getD i (99, 0)).1 ∧ sz H (67 + i) = (moT.getD i (99, 0)).2) ∧ ∀ q ∈ moR, aR H 67 q.1 = some q.2
section MO
variable {H : AH}
theorem mk_67 (h : MoL H) : kd H 67 = 8 := (h.1 0 (by decide)).1
theorem mk_68 (h : MoL H) : kd H 68 = 20 := (h.1 1 (by decide)).1
theorem mz_68 (h : MoL H) : sz H 68 = 6 := (h.1 1 (by decide)).2
theorem mr_5 (h : MoL H) : aR H 67 5 = some 68 := h.2 (5, 68) (by decide)
theorem mk_69 (h : MoL H) : kd H 69 = 20 := (h.1 2 (by decide)).1
theorem mz_69 (h : MoL H) : sz H 69 = 6 := (h.1 2 (by decide)).2
theorem mr_6 (h : MoL H) : aR H 67 6 = some 69 := h.2 (6, 69) (by decide)
theorem mk_70 (h : MoL H) : kd H 70 = 20 := (h.1 3 (by decide)).1
theorem mz_70 (h : MoL H) : sz H 70 = 24 := (h.1 3 (by decide)).2
theorem mr_7 (h : MoL H) : aR H 67 7 = some 70 := h.2 (7, 70) (by decide)
theorem mk_71 (h : MoL H) : kd H 71 = 20 := (h.1 4 (by decide)).1
theorem mz_71 (h : MoL H) : sz H 71 = 5 := (h.1 4 (by decide)).2
theorem mr_8 (h : MoL H) : aR H 67 8 = some 71 := h.2 (8, 71) (by decide)
theorem mk_72 (h : MoL H) : kd H 72 = 20 := (h.1 5 (by decide)).1
theorem mz_72 (h : MoL H) : sz H 72 = 5 := (h.1 5 (by decide)).2
theorem mr_9 (h : MoL H) : aR H 67 9 = some 72 := h.2 (9, 72) (by decide)
theorem mk_73 (h : MoL H) : kd H 73 = 20 := (h.1 6 (by decide)).1
theorem mz_73 (h : MoL H) : sz H 73 = 100 := (h.1 6 (by decide)).2
theorem mr_15 (h : MoL H) : aR H 67 15 = some 73 := h.2 (15, 73) (by decide)
theorem mk_74 (h : MoL H) : kd H 74 = 20 := (h.1 7 (by decide)).1
theorem mz_74 (h : MoL H) : sz H 74 = 6 := (h.1 7 (by decide)).2
theorem mr_16 (h : MoL H) : aR H 67 16 = some 74 := h.2 (16, 74) (by decide)
theorem mk_75 (h : MoL H) : kd H 75 = 20 := (h.1 8 (by decide)).1
theorem mz_75 (h : MoL H) : sz H 75 = 60 := (h.1 8 (by decide)).2
theorem mr_17 (h : MoL H) : aR H 67 17 = some 75 := h.2 (17, 75) (by decide)
theorem mk_76 (h : MoL H) : kd H 76 = 20 := (h.1 9 (by decide)).1
theorem mz_76 (h : MoL H) : sz H 76 = 60 := (h.1 9 (by decide)).2
theorem mr_18 (h : MoL H) : aR H 67 18 = some 76 := h.2 (18, 76) (by decide)
theorem mk_77 (h : MoL H) : kd H 77 = 20 := (h.1 10 (by decide)).1
theorem mz_77 (h : MoL H) : sz H 77 = 60 := (h.1 10 (by decide)).2
theorem mr_19 (h : MoL H) : aR H 67 19 = some 77 := h.2 (19, 77) (by decide)
theorem mk_78 (h : MoL H) : kd H 78 = 20 := (h.1 11 (by decide)).1
theorem mz_78 (h : MoL H) : sz H 78 = 60 := (h.1 11 (by decide)).2
theorem mr_20 (h : MoL H) : aR H 67 20 = some 78 := h.2 (20, 78) (by decide)
theorem mk_79 (h : MoL H) : kd H 79 = 20 := (h.1 12 (by decide)).1
theorem mz_79 (h : MoL H) : sz H 79 = 600 := (h.1 12 (by decide)).2
theorem mr_21 (h : MoL H) : aR H 67 21 = some 79 := h.2 (21, 79) (by decide)
theorem mk_80 (h : MoL H) : kd H 80 = 20 := (h.1 13 (by decide)).1
theorem mz_80 (h : MoL H) : sz H 80 = 101 := (h.1 13 (by decide)).2
theorem mr_22 (h : MoL H) : aR H 67 22 = some 80 := h.2 (22, 80) (by decide)
theorem mk_81 (h : MoL H) : kd H 81 = 20 := (h.1 14 (by decide)).1
theorem mz_81 (h : MoL H) : sz H 81 = 12 := (h.1 14 (by decide)).2
theorem mr_26 (h : MoL H) : aR H 67 26 = some 81 := h.2 (26, 81) (by decide)
theorem mk_82 (h : MoL H) : kd H 82 = 22 := (h.1 15 (by decide)).1
theorem mz_82 (h : MoL H) : sz H 82 = 100 := (h.1 15 (by decide)).2
theorem mr_27 (h : MoL H) : aR H 67 27 = some 82 := h.2 (27, 82) (by decide)
theorem mk_83 (h : MoL H) : kd H 83 = 20 := (h.1 16 (by decide)).1
theorem mz_83 (h : MoL H) : sz H 83 = 5 := (h.1 16 (by decide)).2
theorem mr_31 (h : MoL H) : aR H 67 31 = some 83 := h.2 (31, 83) (by decide)
theorem mk_84 (h : MoL H) : kd H 84 = 20 := (h.1 17 (by decide)).1
theorem mz_84 (h : MoL H) : sz H 84 = 5 := (h.1 17 (by decide)).2
theorem mr_32 (h : MoL H) : aR H 67 32 = some 84 := h.2 (32, 84) (by decide)
theorem mk_85 (h : MoL H) : kd H 85 = 20 := (h.1 18 (by decide)).1
theorem mz_85 (h : MoL H) : sz H 85 = 1536 := (h.1 18 (by decide)).2
theorem mr_33 (h : MoL H) : aR H 67 33 = some 85 := h.2 (33, 85) (by decide)
theorem mk_86 (h : MoL H) : kd H 86 = 20 := (h.1 19 (by decide)).1
theorem mz_86 (h : MoL H) : sz H 86 = 6 := (h.1 19 (by decide)).2
theorem mr_34 (h : MoL H) : aR H 67 34 = some 86 := h.2 (34, 86) (by decide)
theorem mk_87 (h : MoL H) : kd H 87 = 20 := (h.1 20 (by decide)).1
theorem mz_87 (h : MoL H) : sz H 87 = 6 := (h.1 20 (by decide)).2
theorem mr_35 (h : MoL H) : aR H 67 35 = some 87 := h.2 (35, 87) (by decide)
theorem mk_88 (h : MoL H) : kd H 88 = 20 := (h.1 21 (by decide)).1
theorem mz_88 (h : MoL H) : sz H 88 = 5 := (h.1 21 (by decide)).2
theorem mr_37 (h : MoL H) : aR H 67 37 = some 88 := h.2 (37, 88) (by decide)
theorem mk_89 (h : MoL H) : kd H 89 = 20 := (h.1 22 (by decide)).1
theorem mz_89 (h : MoL H) : sz H 89 = 5 := (h.1 22 (by decide)).2
theorem mr_38 (h : MoL H) : aR H 67 38 = some 89 := h.2 (38, 89) (by decide)
theorem mk_90 (h : MoL H) : kd H 90 = 20 := (h.1 23 (by decide)).1
theorem mz_90 (h : MoL H) : sz H 90 = 10 := (h.1 23 (by decide)).2
theorem mr_41 (h : MoL H) : aR H 67 41 = some 90 := h.2 (41, 90) (by decide)
theorem mk_91 (h : MoL H) : kd H 91 = 20 := (h.1 24 (by decide)).1
theorem mz_91 (h : MoL H) : sz H 91 = 10 := (h.1 24 (by decide)).2
theorem mr_42 (h : MoL H) : aR H 67 42 = some 91 := h.2 (42, 91) (by decide)
theorem mk_92 (h : MoL H) : kd H 92 = 20 := (h.1 25 (by decide)).1
theorem mz_92 (h : MoL H) : sz H 92 = 8 := (h.1 25 (by decide)).2
theorem mr_43 (h : MoL H) : aR H 67 43 = some 92 := h.2 (43, 92) (by decide)
theorem mk_93 (h : MoL H) : kd H 93 = 20 := (h.1 26 (by decide)).1
theorem mz_93 (h : MoL H) : sz H 93 = 8 := (h.1 26 (by decide)).2
theorem mr_44 (h : MoL H) : aR H 67 44 = some 93 := h.2 (44, 93) (by decide)
theorem mk_94 (h : MoL H) : kd H 94 = 20 := (h.1 27 (by decide)).1
theorem mz_94 (h : MoL H) : sz H 94 = 6 := (h.1 27 (by decide)).2
theorem mr_55 (h : MoL H) : aR H 67 55 = some 94 := h.2 (55, 94) (by decide)
theorem mk_95 (h : MoL H) : kd H 95 = 20 := (h.1 28 (by decide)).1
theorem mz_95 (h : MoL H) : sz H 95 = 6 := (h.1 28 (by decide)).2
theorem mr_56 (h : MoL H) : aR H 67 56 = some 95 := h.2 (56, 95) (by decide)
theorem mk_96 (h : MoL H) : kd H 96 = 20 := (h.1 29 (by decide)).1
theorem mz_96 (h : MoL H) : sz H 96 = 24 := (h.1 29 (by decide)).2
theorem mr_57 (h : MoL H) : aR H 67 57 = some 96 := h.2 (57, 96) (by decide)
theorem mk_97 (h : MoL H) : kd H 97 = 20 := (h.1 30 (by decide)).1
theorem mz_97 (h : MoL H) : sz H 97 = 5 := (h.1 30 (by decide)).2
theorem mr_58 (h : MoL H) : aR H 67 58 = some 97 := h.2 (58, 97) (by decide)
theorem mk_98 (h : MoL H) : kd H 98 = 20 := (h.1 31 (by decide)).1
theorem mz_98 (h : MoL H) : sz H 98 = 5 := (h.1 31 (by decide)).2
theorem mr_59 (h : MoL H) : aR H 67 59 = some 98 := h.2 (59, 98) (by decide)
theorem mk_99 (h : MoL H) : kd H 99 = 20 := (h.1 32 (by decide)).1
theorem mz_99 (h : MoL H) : sz H 99 = 5 := (h.1 32 (by decide)).2
theorem mr_60 (h : MoL H) : aR H 67 60 = some 99 := h.2 (60, 99) (by decide)
theorem mk_100 (h : MoL H) : kd H 100 = 20 := (h.1 33 (by decide)).1
theorem mz_100 (h : MoL H) : sz H 100 = 5 := (h.1 33 (by decide)).2
theorem mr_61 (h : MoL H) : aR H 67 61 = some 100 := h.2 (61, 100) (by decide)
theorem mk_101 (h : MoL H) : kd H 101 = 20 := (h.1 34 (by decide)).1
theorem mz_101 (h : MoL H) : sz H 101 = 10 := (h.1 34 (by decide)).2
theorem mr_62 (h : MoL H) : aR H 67 62 = some 101 := h.2 (62, 101) (by decide)
theorem mk_102 (h : MoL H) : kd H 102 = 20 := (h.1 35 (by decide)).1
theorem mz_102 (h : MoL H) : sz H 102 = 10 := (h.1 35 (by decide)).2
theorem mr_63 (h : MoL H) : aR H 67 63 = some 102 := h.2 (63, 102) (by decide)
theorem mk_103 (h : MoL H) : kd H 103 = 20 := (h.1 36 (by decide)).1
theorem mz_103 (h : MoL H) : sz H 103 = 8 := (h.1 36 (by decide)).2
theorem mr_64 (h : MoL H) : aR H 67 64 = some 103 := h.2 (64, 103) (by decide)
theorem mk_104 (h : MoL H) : kd H 104 = 20 := (h.1 37 (by decide)).1
theorem mz_104 (h : MoL H) : sz H 104 = 8 := (h.1 37 (by decide)).2
theorem mr_65 (h : MoL H) : aR H 67 65 = some 104 := h.2 (65, 104) (by decide)
theorem mk_105 (h : MoL H) : kd H 105 = 20 := (h.1 38 (by decide)).1
theorem mz_105 (h : MoL H) : sz H 105 = 20 := (h.1 38 (by decide)).2
theorem mr_67 (h : MoL H) : aR H 67 67 = some 105 := h.2 (67, 105) (by decide)
theorem mk_106 (h : MoL H) : kd H 106 = 20 := (h.1 39 (by decide)).1
theorem mz_106 (h : MoL H) : sz H 106 = 6 := (h.1 39 (by decide)).2
theorem mr_68 (h : MoL H) : aR H 67 68 = some 106 := h.2 (68, 106) (by decide)
theorem mk_107 (h : MoL H) : kd H 107 = 20 := (h.1 40 (by decide)).1
theorem mz_107 (h : MoL H) : sz H 107 = 6 := (h.1 40 (by decide)).2
theorem mr_69 (h : MoL H) : aR H 67 69 = some 107 := h.2 (69, 107) (by decide)
theorem mk_108 (h : MoL H) : kd H 108 = 21 := (h.1 41 (by decide)).1
theorem mz_108 (h : MoL H) : sz H 108 = 360 := (h.1 41 (by decide)).2
theorem mr_70 (h : MoL H) : aR H 67 70 = some 108 := h.2 (70, 108) (by decide)
theorem mk_109 (h : MoL H) : kd H 109 = 21 := (h.1 42 (by decide)).1
theorem mz_109 (h : MoL H) : sz H 109 = 60 := (h.1 42 (by decide)).2
theorem mr_71 (h : MoL H) : aR H 67 71 = some 109 := h.2 (71, 109) (by decide)
end MO

def inS (v lo hi : Int32) : Int32 := if v < lo then 0 else if hi < v then 0 else 1
def haS (x k : Int32) : Int32 := if (x >>> (k &&& 31)) &&& 1 = 1 then 1 else 0
/-- how many of the eight marks -/
def btS (x : Int32) : Nat → Nat → Int32 → Int32
  | 0, _, a => a
  | c + 1, i, a => btS x c (i + 1) (a + haS x (nI i))
def sayM (kind v n row : Int32) : Int32 := if kind = 1 then n ||| mkS v else if kind = 2 then trn n 1 else if kind = 3 then wip n else if kind = 4 then n ||| mkS v ||| trn (mkS v) 1 else if kind = 5 then trn n (md8 v) else if kind = 6 then wip n ^^^ row else n ^^^ mkS v
section MODEL
variable {S : SC} {d : Nat} {H : AH} {Q : Option Value → AH → Prop}
theorem m_in {o : Nat} {v lo hi : Int32} : Wp S d 123 0 [.ref o, .int v, .int lo, .int hi] [] H Q = Q (some (.int (inS v lo hi))) H := by
  simp only [sX8_in_0, sX8_in_1, sX8_in_2, sX8_in_5, sX8_in_14, sX8_in_6, sX8_in_15 (st := []), sX8_in_7, sX8_in_10, sX8_in_11, inb, nz_3, nz_4, nz_6, nz_8, nz_10, nz_100, nz_300, pushr_s, pushr_n, rv_s, rv_n, kd_sI, kd_sR, kd_sJ, sz_sI, sz_sR, sz_sJ, aR_sI, aJ_sI, aI_sR, aI_sJ, not_false_eq_true, true_and, and_true, true_or, or_true, or_false, false_or, eq_self, ite_true, ite_false, if_true, if_false]
  unfold inS
  split
  · rfl
  · split <;> rfl
theorem haS01 (x k : Int32) : haS x k = 0 ∨ haS x k = 1 := by unfold haS; split; exact Or.inr rfl; exact Or.inl rfl
theorem inS01 (x k y : Int32) : inS x k y = 0 ∨ inS x k y = 1 := by unfold inS; split; exact Or.inl rfl; split; exact Or.inl rfl; exact Or.inr rfl
theorem m_has {o : Nat} {x k : Int32} : Wp S d 124 0 [.ref o, .int x, .int k] [] H Q = Q (some (.int (haS x k))) H := by
  simp only [sX8_has_0, sX8_has_1, sX8_has_2, sX8_has_3, sX8_has_4, sX8_has_5, sX8_has_6, sX8_has_9, sX8_has_13, sX8_has_10, sX8_has_14 (st := []), inb, nz_3, nz_4, nz_6, nz_8, nz_10, nz_100, nz_300, pushr_s, pushr_n, rv_s, rv_n, kd_sI, kd_sR, kd_sJ, sz_sI, sz_sR, sz_sJ, aR_sI, aJ_sI, aI_sR, aI_sJ, not_false_eq_true, true_and, and_true, true_or, or_true, or_false, false_or, eq_self, ite_true, ite_false, if_true, if_false]
  unfold haS
  split <;> rfl
theorem lp_bits {x : Int32} (h : MoL H) : ∀ (c i : Nat) (a : Int32), i + c = 8 → Wp S (d + 1) 125 4 [.ref 67, .int x, .int a, .int (nI i)] [] H Q = Q (some (.int (btS x c i a))) H
  | 0, i, a, hc => by
    have e : 8 ≤ nI i := nI_le (a := 8) (by omega) (by omega)
    rw [sX8_bits_4]
    simp only [sX8_bits_0, sX8_bits_1, sX8_bits_2, sX8_bits_3, sX8_bits_5, sX8_bits_7, sX8_bits_10, sX8_bits_33, sX8_bits_11, sX8_bits_34 (st := []), sX8_bits_12, sX8_bits_13, sX8_bits_14 (st := []), sX8_bits_17, sX8_bits_20, sX8_bits_24, sX8_bits_21, sX8_bits_25, sX8_bits_26, sX8_bits_27, sX8_bits_30, inb, nz_3, nz_4, nz_6, nz_8, nz_10, nz_100, nz_300, pushr_s, pushr_n, rv_s, rv_n, kd_sI, kd_sR, kd_sJ, sz_sI, sz_sR, sz_sJ, aR_sI, aJ_sI, aI_sR, aI_sJ, not_false_eq_true, true_and, and_true, true_or, or_true, or_false, false_or, eq_self, ite_true, ite_false, if_true, if_false, e]
    rfl
  | c + 1, i, a, hc => by
    have ih := fun a => lp_bits (x := x) h c (i + 1) a (by omega)
    have e : ¬ 8 ≤ nI i := nI_ge (b := 8) (by omega) (by omega)
    rw [sX8_bits_4]
    simp only [sX8_bits_0, sX8_bits_1, sX8_bits_2, sX8_bits_3, sX8_bits_5, sX8_bits_7, sX8_bits_10, sX8_bits_33, sX8_bits_11, sX8_bits_34 (st := []), sX8_bits_12, sX8_bits_13, sX8_bits_14 (st := []), sX8_bits_17, sX8_bits_20, sX8_bits_24, sX8_bits_21, sX8_bits_25, sX8_bits_26, sX8_bits_27, sX8_bits_30, inb, nz_3, nz_4, nz_6, nz_8, nz_10, nz_100, nz_300, pushr_s, pushr_n, rv_s, rv_n, kd_sI, kd_sR, kd_sJ, sz_sI, sz_sR, sz_sJ, aR_sI, aJ_sI, aI_sR, aI_sJ, not_false_eq_true, true_and, and_true, true_or, or_true, or_false, false_or, eq_self, ite_true, ite_false, if_true, if_false, mk_67 h, e, nI_1, m_has, ih]
    rw [btS]
    rcases haS01 x (nI i) with e2 | e2
    · rw [e2, if_pos rfl]
    · rw [e2, if_neg (by decide)]
theorem m_bits {x : Int32} (h : MoL H) : Wp S (d + 1) 125 0 [.ref 67, .int x, hole, hole] [] H Q = Q (some (.int (btS x 8 0 0))) H := by
  have ih := lp_bits (S := S) (d := d) (Q := Q) (x := x) h 8 0 0 (by omega)
  rw [nI_0] at ih
  simp only [sX8_bits_0, sX8_bits_1, sX8_bits_2, sX8_bits_3, sX8_bits_5, sX8_bits_7, sX8_bits_10, sX8_bits_33, sX8_bits_11, sX8_bits_34 (st := []), sX8_bits_12, sX8_bits_13, sX8_bits_14 (st := []), sX8_bits_17, sX8_bits_20, sX8_bits_24, sX8_bits_21, sX8_bits_25, sX8_bits_26, sX8_bits_27, sX8_bits_30, inb, nz_3, nz_4, nz_6, nz_8, nz_10, nz_100, nz_300, pushr_s, pushr_n, rv_s, rv_n, kd_sI, kd_sR, kd_sJ, sz_sI, sz_sR, sz_sJ, aR_sI, aJ_sI, aI_sR, aI_sJ, not_false_eq_true, true_and, and_true, true_or, or_true, or_false, false_or, eq_self, ite_true, ite_false, if_true, if_false, ih]
theorem m_isMaid {l : Int32} (h : MoL H) : Wp S (d + 1) 126 0 [.ref 67, .int l] [] H Q = Q (some (.int (inS l 0 (aI H 67 0 - 1)))) H := by
  simp only [sX8_isMaid_0, sX8_isMaid_1, sX8_isMaid_2, sX8_isMaid_3, sX8_isMaid_4, sX8_isMaid_7, sX8_isMaid_8, sX8_isMaid_9 (st := []), sX8_isMaid_12 (st := []), inb, nz_3, nz_4, nz_6, nz_8, nz_10, nz_100, nz_300, pushr_s, pushr_n, rv_s, rv_n, kd_sI, kd_sR, kd_sJ, sz_sI, sz_sR, sz_sJ, aR_sI, aJ_sI, aI_sR, aI_sJ, not_false_eq_true, true_and, and_true, true_or, or_true, or_false, false_or, eq_self, ite_true, ite_false, if_true, if_false, mk_67 h, m_in, inS01]
theorem m_isPilgrim {l : Int32} (h : MoL H) : Wp S (d + 1) 127 0 [.ref 67, .int l] [] H Q = Q (some (.int (inS l 0 (aI H 67 2 - 1)))) H := by
  simp only [sX8_isPilgrim_0, sX8_isPilgrim_1, sX8_isPilgrim_2, sX8_isPilgrim_3, sX8_isPilgrim_4, sX8_isPilgrim_7, sX8_isPilgrim_8, sX8_isPilgrim_9 (st := []), sX8_isPilgrim_12 (st := []), inb, nz_3, nz_4, nz_6, nz_8, nz_10, nz_100, nz_300, pushr_s, pushr_n, rv_s, rv_n, kd_sI, kd_sR, kd_sJ, sz_sI, sz_sR, sz_sJ, aR_sI, aJ_sI, aI_sR, aI_sJ, not_false_eq_true, true_and, and_true, true_or, or_true, or_false, false_or, eq_self, ite_true, ite_false, if_true, if_false, mk_67 h, m_in, inS01]
theorem m_isMarks {l : Int32} (h : MoL H) : Wp S (d + 1) 128 0 [.ref 67, .int l] [] H Q = Q (some (.int (inS l 0 255))) H := by
  simp only [sX8_isMarks_0, sX8_isMarks_1, sX8_isMarks_2, sX8_isMarks_3, sX8_isMarks_6 (st := []), sX8_isMarks_9 (st := []), inb, nz_3, nz_4, nz_6, nz_8, nz_10, nz_100, nz_300, pushr_s, pushr_n, rv_s, rv_n, kd_sI, kd_sR, kd_sJ, sz_sI, sz_sR, sz_sJ, aR_sI, aJ_sI, aI_sR, aI_sJ, not_false_eq_true, true_and, and_true, true_or, or_true, or_false, false_or, eq_self, ite_true, ite_false, if_true, if_false, mk_67 h, m_in, inS01]
theorem m_isDays {l : Int32} (h : MoL H) : Wp S (d + 1) 129 0 [.ref 67, .int l] [] H Q = Q (some (.int (inS l 0 60))) H := by
  simp only [sX8_isDays_0, sX8_isDays_1, sX8_isDays_2, sX8_isDays_3, sX8_isDays_5 (st := []), sX8_isDays_8 (st := []), inb, nz_3, nz_4, nz_6, nz_8, nz_10, nz_100, nz_300, pushr_s, pushr_n, rv_s, rv_n, kd_sI, kd_sR, kd_sJ, sz_sI, sz_sR, sz_sJ, aR_sI, aJ_sI, aI_sR, aI_sJ, not_false_eq_true, true_and, and_true, true_or, or_true, or_false, false_or, eq_self, ite_true, ite_false, if_true, if_false, mk_67 h, m_in, inS01]
theorem m_isTape {l : Int32} (h : MoL H) : Wp S (d + 1) 215 0 [.ref 67, .int l] [] H Q = Q (some (.int (inS l 0 5))) H := by
  simp only [sX8_isTape_0, sX8_isTape_1, sX8_isTape_2, sX8_isTape_3, sX8_isTape_4 (st := []), sX8_isTape_7 (st := []), inb, nz_3, nz_4, nz_6, nz_8, nz_10, nz_100, nz_300, pushr_s, pushr_n, rv_s, rv_n, kd_sI, kd_sR, kd_sJ, sz_sI, sz_sR, sz_sJ, aR_sI, aJ_sI, aI_sR, aI_sJ, not_false_eq_true, true_and, and_true, true_or, or_true, or_false, false_or, eq_self, ite_true, ite_false, if_true, if_false, mk_67 h, m_in, inS01]
theorem m_turned {n y : Int32} : Wp S d 160 0 [.ref 67, .int n, .int y, hole] [] H Q = Q (some (.int (trn n (md8 y)))) H := by
  simp only [sX8_turned_0, sX8_turned_1, sX8_turned_3, sX8_turned_4, sX8_turned_5, sX8_turned_6, sX8_turned_7, sX8_turned_8, sX8_turned_9, sX8_turned_11, sX8_turned_12, sX8_turned_13, sX8_turned_14, sX8_turned_15, sX8_turned_18, sX8_turned_19 (st := []), inb, nz_3, nz_4, nz_6, nz_8, nz_10, nz_100, nz_300, pushr_s, pushr_n, rv_s, rv_n, kd_sI, kd_sR, kd_sJ, sz_sI, sz_sR, sz_sJ, aR_sI, aJ_sI, aI_sR, aI_sJ, not_false_eq_true, true_and, and_true, true_or, or_true, or_false, false_or, eq_self, ite_true, ite_false, if_true, if_false]
  rfl
theorem m_wiped {n : Int32} : Wp S d 161 0 [.ref 67, .int n] [] H Q = Q (some (.int (wip n))) H := by
  simp only [sX8_wiped_0, sX8_wiped_1, sX8_wiped_2, sX8_wiped_3, sX8_wiped_4, sX8_wiped_5 (st := []), inb, nz_3, nz_4, nz_6, nz_8, nz_10, nz_100, nz_300, pushr_s, pushr_n, rv_s, rv_n, kd_sI, kd_sR, kd_sJ, sz_sI, sz_sR, sz_sJ, aR_sI, aJ_sI, aI_sR, aI_sJ, not_false_eq_true, true_and, and_true, true_or, or_true, or_false, false_or, eq_self, ite_true, ite_false, if_true, if_false]
  rfl
theorem md8_1 : md8 1 = 1 := by decide +kernel
theorem m_says {l n : Int32} (h : MoL H) (hl : inb l 6) (hr : inb (4 * l + md4 (aI H 67 4)) 24) : Wp S (d + 1) 162 0 [.ref 67, .int l, .int n, hole] [] H Q = Q (some (.int (sayM (aI H 68 (ix l)) (aI H 69 (ix l)) n (aI H 70 (ix (4 * l + md4 (aI H 67 4))))))) H := by
  have hr2 : inb (4 * l + (aI H 67 4 - aI H 67 4 / 4 * 4)) 24 := hr
  simp only [sX8_says_0, sX8_says_1, sX8_says_2, sX8_says_5, sX8_says_6, sX8_says_7, sX8_says_9, sX8_says_10, sX8_says_11, sX8_says_12, sX8_says_13, sX8_says_16, sX8_says_17, sX8_says_18, sX8_says_118, sX8_says_56, sX8_says_60, sX8_says_67, sX8_says_73, sX8_says_84, sX8_says_96, sX8_says_119, sX8_says_57, sX8_says_61, sX8_says_68, sX8_says_74, sX8_says_85, sX8_says_97, sX8_says_120, sX8_says_58, sX8_says_62, sX8_says_69 (st := []), sX8_says_75, sX8_says_86, sX8_says_98 (st := []), sX8_says_121 (st := []), sX8_says_59 (st := []), sX8_says_63 (st := []), sX8_says_72 (st := []), sX8_says_76, sX8_says_87, sX8_says_101, sX8_says_66 (st := []), sX8_says_77, sX8_says_90, sX8_says_102, sX8_says_78, sX8_says_91, sX8_says_105, sX8_says_79 (st := []), sX8_says_92 (st := []), sX8_says_106, sX8_says_82, sX8_says_95 (st := []), sX8_says_107, sX8_says_83 (st := []), sX8_says_108, sX8_says_109, sX8_says_112, sX8_says_113, sX8_says_114, sX8_says_115, sX8_says_116, sX8_says_117 (st := []), inb, nz_3, nz_4, nz_6, nz_8, nz_10, nz_100, nz_300, pushr_s, pushr_n, rv_s, rv_n, kd_sI, kd_sR, kd_sJ, sz_sI, sz_sR, sz_sJ, aR_sI, aJ_sI, aI_sR, aI_sJ, not_false_eq_true, true_and, and_true, true_or, or_true, or_false, false_or, eq_self, ite_true, ite_false, if_true, if_false, mk_67 h, mr_6 h, mk_69 h, mz_69 h, mr_5 h, mk_68 h, mz_68 h, mr_7 h, mk_70 h, mz_70 h, m_turned, m_wiped, hl, hr2, md8_1]
  unfold sayM
  generalize aI H 68 (ix l) = kk
  by_cases h1 : kk = 1
  · rw [if_pos h1, if_pos h1]; rfl
  rw [if_neg h1, if_neg h1]
  by_cases h2 : kk = 2
  · rw [if_pos h2, if_pos h2]
  rw [if_neg h2, if_neg h2]
  by_cases h3 : kk = 3
  · rw [if_pos h3, if_pos h3]
  rw [if_neg h3, if_neg h3]
  by_cases h4 : kk = 4
  · rw [if_pos h4, if_pos h4]; rfl
  rw [if_neg h4, if_neg h4]
  by_cases h5 : kk = 5
  · rw [if_pos h5, if_pos h5]
  rw [if_neg h5, if_neg h5]
  by_cases h6 : kk = 6
  · rw [if_pos h6, if_pos h6]; rfl
  rw [if_neg h6, if_neg h6]
  rfl
end MODEL
