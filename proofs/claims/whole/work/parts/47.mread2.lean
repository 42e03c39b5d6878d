-- 47: the reference's reading: E, clauses, the whole text
section READ
variable {S : SC} {H : AH} {t : Txt}
theorem m_place {d : Nat} {Q : Option Value → AH → Prop} {x : Int32} : Wp S d 147 0 [.ref 67, .int x] [] H Q = Q (some (.int (match let6 x with | some a => nI a | none => -1))) H := by
  unfold let6
  by_cases g1 : x = 108
  · subst g1; simp only [sX8_place_0, sX8_place_1, sX8_place_104, sX8_place_102, sX8_place_100, sX8_place_94, sX8_place_92, sX8_place_98, sX8_place_96, sX8_place_105 (st := []), sX8_place_103 (st := []), sX8_place_101 (st := []), sX8_place_95 (st := []), sX8_place_93 (st := []), sX8_place_99 (st := []), sX8_place_97 (st := []), inb, nz_3, nz_4, nz_6, nz_8, nz_10, nz_100, nz_300, pushr_s, pushr_n, rv_s, rv_n, kd_sI, kd_sR, kd_sJ, sz_sI, sz_sR, sz_sJ, aR_sI, aJ_sI, aI_sR, aI_sJ, not_false_eq_true, true_and, and_true, true_or, or_true, or_false, false_or, eq_self, ite_true, ite_false, if_true, if_false]; rfl
  by_cases g2 : x = 107
  · subst g2; simp only [sX8_place_0, sX8_place_1, sX8_place_104, sX8_place_102, sX8_place_100, sX8_place_94, sX8_place_92, sX8_place_98, sX8_place_96, sX8_place_105 (st := []), sX8_place_103 (st := []), sX8_place_101 (st := []), sX8_place_95 (st := []), sX8_place_93 (st := []), sX8_place_99 (st := []), sX8_place_97 (st := []), inb, nz_3, nz_4, nz_6, nz_8, nz_10, nz_100, nz_300, pushr_s, pushr_n, rv_s, rv_n, kd_sI, kd_sR, kd_sJ, sz_sI, sz_sR, sz_sJ, aR_sI, aJ_sI, aI_sR, aI_sJ, not_false_eq_true, true_and, and_true, true_or, or_true, or_false, false_or, eq_self, ite_true, ite_false, if_true, if_false]; rfl
  by_cases g3 : x = 118
  · subst g3; simp only [sX8_place_0, sX8_place_1, sX8_place_104, sX8_place_102, sX8_place_100, sX8_place_94, sX8_place_92, sX8_place_98, sX8_place_96, sX8_place_105 (st := []), sX8_place_103 (st := []), sX8_place_101 (st := []), sX8_place_95 (st := []), sX8_place_93 (st := []), sX8_place_99 (st := []), sX8_place_97 (st := []), inb, nz_3, nz_4, nz_6, nz_8, nz_10, nz_100, nz_300, pushr_s, pushr_n, rv_s, rv_n, kd_sI, kd_sR, kd_sJ, sz_sI, sz_sR, sz_sJ, aR_sI, aJ_sI, aI_sR, aI_sJ, not_false_eq_true, true_and, and_true, true_or, or_true, or_false, false_or, eq_self, ite_true, ite_false, if_true, if_false]; rfl
  by_cases g4 : x = 109
  · subst g4; simp only [sX8_place_0, sX8_place_1, sX8_place_104, sX8_place_102, sX8_place_100, sX8_place_94, sX8_place_92, sX8_place_98, sX8_place_96, sX8_place_105 (st := []), sX8_place_103 (st := []), sX8_place_101 (st := []), sX8_place_95 (st := []), sX8_place_93 (st := []), sX8_place_99 (st := []), sX8_place_97 (st := []), inb, nz_3, nz_4, nz_6, nz_8, nz_10, nz_100, nz_300, pushr_s, pushr_n, rv_s, rv_n, kd_sI, kd_sR, kd_sJ, sz_sI, sz_sR, sz_sJ, aR_sI, aJ_sI, aI_sR, aI_sJ, not_false_eq_true, true_and, and_true, true_or, or_true, or_false, false_or, eq_self, ite_true, ite_false, if_true, if_false]; rfl
  by_cases g5 : x = 102
  · subst g5; simp only [sX8_place_0, sX8_place_1, sX8_place_104, sX8_place_102, sX8_place_100, sX8_place_94, sX8_place_92, sX8_place_98, sX8_place_96, sX8_place_105 (st := []), sX8_place_103 (st := []), sX8_place_101 (st := []), sX8_place_95 (st := []), sX8_place_93 (st := []), sX8_place_99 (st := []), sX8_place_97 (st := []), inb, nz_3, nz_4, nz_6, nz_8, nz_10, nz_100, nz_300, pushr_s, pushr_n, rv_s, rv_n, kd_sI, kd_sR, kd_sJ, sz_sI, sz_sR, sz_sJ, aR_sI, aJ_sI, aI_sR, aI_sJ, not_false_eq_true, true_and, and_true, true_or, or_true, or_false, false_or, eq_self, ite_true, ite_false, if_true, if_false]; rfl
  by_cases g6 : x = 100
  · subst g6; simp only [sX8_place_0, sX8_place_1, sX8_place_104, sX8_place_102, sX8_place_100, sX8_place_94, sX8_place_92, sX8_place_98, sX8_place_96, sX8_place_105 (st := []), sX8_place_103 (st := []), sX8_place_101 (st := []), sX8_place_95 (st := []), sX8_place_93 (st := []), sX8_place_99 (st := []), sX8_place_97 (st := []), inb, nz_3, nz_4, nz_6, nz_8, nz_10, nz_100, nz_300, pushr_s, pushr_n, rv_s, rv_n, kd_sI, kd_sR, kd_sJ, sz_sI, sz_sR, sz_sJ, aR_sI, aJ_sI, aI_sR, aI_sJ, not_false_eq_true, true_and, and_true, true_or, or_true, or_false, false_or, eq_self, ite_true, ite_false, if_true, if_false]; rfl
  simp only [sX8_place_0, sX8_place_1, sX8_place_104, sX8_place_102, sX8_place_100, sX8_place_94, sX8_place_92, sX8_place_98, sX8_place_96, sX8_place_105 (st := []), sX8_place_103 (st := []), sX8_place_101 (st := []), sX8_place_95 (st := []), sX8_place_93 (st := []), sX8_place_99 (st := []), sX8_place_97 (st := []), inb, nz_3, nz_4, nz_6, nz_8, nz_10, nz_100, nz_300, pushr_s, pushr_n, rv_s, rv_n, kd_sI, kd_sR, kd_sJ, sz_sI, sz_sR, sz_sJ, aR_sI, aJ_sI, aI_sR, aI_sJ, not_false_eq_true, true_and, and_true, true_or, or_true, or_false, false_or, eq_self, ite_true, ite_false, if_true, if_false, g1, g2, g3, g4, g5, g6, ite_self]
theorem tok_enM {l r n : Nat} (hl : l ≤ 5) (hr : r ≤ 2) (hn : n ≤ 99) : enM ((l * 3 + r) * 100 + n) = nI (1000 * l + 100 * r + n) := by
  unfold enM
  rw [if_neg (by omega), if_neg (by omega), if_neg (by omega)]
  refine congrArg nI ?_
  have e1 : ((l * 3 + r) * 100 + n) / 300 = l := by omega
  have e2 : ((l * 3 + r) * 100 + n) / 100 % 3 = r := by omega
  have e3 : ((l * 3 + r) * 100 + n) % 100 = n := by omega
  rw [e1, e2, e3]
theorem rel3_in {x : Int32} : inS x 60 62 = (match rel3 x with | some _ => 1 | none => 0) := by
  unfold inS rel3
  by_cases g1 : x < 60
  · have n1 : ¬ x = 60 := fun z => by rw [z] at g1; exact absurd g1 (by decide +kernel)
    have n2 : ¬ x = 61 := fun z => by rw [z] at g1; exact absurd g1 (by decide +kernel)
    have n3 : ¬ x = 62 := fun z => by rw [z] at g1; exact absurd g1 (by decide +kernel)
    rw [if_pos g1, if_neg n1, if_neg n2, if_neg n3]
  · rw [if_neg g1]
    by_cases g2 : 62 < x
    · have n1 : ¬ x = 60 := fun z => by rw [z] at g2; exact absurd g2 (by decide +kernel)
      have n2 : ¬ x = 61 := fun z => by rw [z] at g2; exact absurd g2 (by decide +kernel)
      have n3 : ¬ x = 62 := fun z => by rw [z] at g2; exact absurd g2 (by decide +kernel)
      rw [if_pos g2, if_neg n1, if_neg n2, if_neg n3]
    · rw [if_neg g2]
      have h0 : ¬ x < 0 := fun z => g1 (Int32.lt_trans z (by decide +kernel))
      obtain ⟨j, hj, rfl⟩ := nI_of2 (M := 62) (n := 62) (by decide +kernel) h0 (Int32.not_lt.mp g2)
      have h3 : 60 ≤ j := by
        refine Nat.le_of_not_lt fun z => g1 ?_
        exact nI_lt (b := 60) z (by decide)
      have : j = 60 ∨ j = 61 ∨ j = 62 := by omega
      rcases this with rfl | rfl | rfl <;> decide +kernel
theorem rel3_sub {x : Int32} {r : Nat} (h : rel3 x = some r) : x - 60 = nI r := by
  unfold rel3 at h
  by_cases g1 : x = 60
  · rw [if_pos g1] at h; cases h; rw [g1]; decide +kernel
  · rw [if_neg g1] at h
    by_cases g2 : x = 61
    · rw [if_pos g2] at h; cases h; rw [g2]; decide +kernel
    · rw [if_neg g2] at h
      by_cases g3 : x = 62
      · rw [if_pos g3] at h; cases h; rw [g3]; decide +kernel
      · rw [if_neg g3] at h; cases h
theorem n1000 (a : Nat) : (1000 : Int32) * nI a = nI (1000 * a) := pk_mul 1000 a
theorem n100 (a : Nat) : (100 : Int32) * nI a = nI (100 * a) := pk_mul 100 a
theorem nm1_neg : ((0 : Int32) ≤ -1) = False := eq_false (by decide +kernel)
/-- a test: read, or at its fault -/
theorem m_test {d : Nat} {s0 : MS} {p : Nat} {g : Int32} {L : List Int32} {W : Nat → Int32} {T : List Nat} (h : ReL H t) (k : p ≤ t.1) (hS : Stk W L) (hn : s0.n + T.length + L.length < 600) (hl : L.length ≤ 101) :
    (∀ q x, tstP t p = (q, some x) → ∃ g', ∀ Q, Wp S (d + 3) 148 0 [.ref 67, hole, hole] [] (pS H (mk s0 p g L W T)) Q = Q (some (.int 1)) (pS H (mk s0 q g' (wholeP L (T ++ [x])).1 W (wholeP L (T ++ [x])).2)))
    ∧ (∀ q, tstP t p = (q, none) → ∀ Q, Wp S (d + 3) 148 0 [.ref 67, hole, hole] [] (pS H (mk s0 p g L W T)) Q = Q (some (.int 0)) (pS H (mk s0 q g L W T))) := by
  have n1 := fun Q => m_next (S := S) (d := d + 2) (Q := Q) (s := mk s0 p g L W T) h k
  have e1 : (mk s0 p g L W T).p = p := rfl
  rw [e1] at n1
  unfold tstP
  cases g1 : let6 (nx t p) with
  | none =>
    have hp := fun Q => m_place (S := S) (d := d + 2) (H := pS H (mk s0 p g L W T)) (Q := Q) (x := nx t p)
    simp only [g1] at hp
    refine ⟨fun q x z => (by cases z), fun q z Q => ?_⟩
    cases z
    simp only [sX8_takesTest_0, sX8_takesTest_1, sX8_takesTest_2 (st := []), sX8_takesTest_5 (st := []), sX8_takesTest_8, sX8_takesTest_9, sX8_takesTest_10, sX8_takesTest_13, sX8_takesTest_15, sX8_takesTest_14 (st := []), sX8_takesTest_16, sX8_takesTest_17, sX8_takesTest_20, sX8_takesTest_21, sX8_takesTest_22, sX8_takesTest_25, sX8_takesTest_26 (st := []), sX8_takesTest_29, sX8_takesTest_30, sX8_takesTest_31, sX8_takesTest_32, sX8_takesTest_34, sX8_takesTest_36 (st := []), sX8_takesTest_39, sX8_takesTest_42, sX8_takesTest_44, sX8_takesTest_43 (st := []), sX8_takesTest_45, sX8_takesTest_46, sX8_takesTest_49, sX8_takesTest_50, sX8_takesTest_51, sX8_takesTest_54, sX8_takesTest_55 (st := []), sX8_takesTest_58, sX8_takesTest_61, sX8_takesTest_63, sX8_takesTest_62 (st := []), sX8_takesTest_64, sX8_takesTest_67, sX8_takesTest_68, sX8_takesTest_69, sX8_takesTest_71, sX8_takesTest_72, sX8_takesTest_74, sX8_takesTest_75, sX8_takesTest_76, sX8_takesTest_77, sX8_takesTest_78, sX8_takesTest_81, sX8_takesTest_82 (st := []), sX8_takesTest_85, sX8_takesTest_86 (st := []), sX8_takesTest_89, sX8_takesTest_90 (st := []), inb, nz_3, nz_4, nz_6, nz_8, nz_10, nz_100, nz_300, pushr_s, pushr_n, rv_s, rv_n, kd_sI, kd_sR, kd_sJ, sz_sI, sz_sR, sz_sJ, aR_sI, aJ_sI, aI_sR, aI_sJ, not_false_eq_true, true_and, and_true, true_or, or_true, or_false, false_or, eq_self, ite_true, ite_false, if_true, if_false, kd_pS, mk_67 h.lay, n1, hp, nm1_neg]
  | some l =>
    obtain ⟨l5, l1⟩ := let6_ok g1
    have hlt := nx_lt l1
    have hp := fun Q => m_place (S := S) (d := d + 2) (H := pS H (mk s0 p g L W T)) (Q := Q) (x := nx t p)
    simp only [g1] at hp
    have l0 : (0 ≤ nI l) = True := eq_true (nI_pos' (by omega))
    have s1 : (mk s0 p g L W T).setp (p + 1) = mk s0 (p + 1) g L W T := rfl
    have n2 := fun Q => m_next (S := S) (d := d + 2) (Q := Q) (s := mk s0 (p + 1) g L W T) h hlt
    have e2 : (mk s0 (p + 1) g L W T).p = p + 1 := rfl
    rw [e2] at n2
    have hi := fun Q => m_in (S := S) (d := d + 2) (H := pS H (mk s0 (p + 1) g L W T)) (Q := Q) (o := 67) (v := nx t (p + 1)) (lo := 60) (hi := 62)
    simp only [rel3_in] at hi
    cases g2 : rel3 (nx t (p + 1)) with
    | none =>
      simp only [g2] at hi
      refine ⟨fun q x z => (by cases z), fun q z Q => ?_⟩
      cases z
      simp only [sX8_takesTest_0, sX8_takesTest_1, sX8_takesTest_2 (st := []), sX8_takesTest_5 (st := []), sX8_takesTest_8, sX8_takesTest_9, sX8_takesTest_10, sX8_takesTest_13, sX8_takesTest_15, sX8_takesTest_14 (st := []), sX8_takesTest_16, sX8_takesTest_17, sX8_takesTest_20, sX8_takesTest_21, sX8_takesTest_22, sX8_takesTest_25, sX8_takesTest_26 (st := []), sX8_takesTest_29, sX8_takesTest_30, sX8_takesTest_31, sX8_takesTest_32, sX8_takesTest_34, sX8_takesTest_36 (st := []), sX8_takesTest_39, sX8_takesTest_42, sX8_takesTest_44, sX8_takesTest_43 (st := []), sX8_takesTest_45, sX8_takesTest_46, sX8_takesTest_49, sX8_takesTest_50, sX8_takesTest_51, sX8_takesTest_54, sX8_takesTest_55 (st := []), sX8_takesTest_58, sX8_takesTest_61, sX8_takesTest_63, sX8_takesTest_62 (st := []), sX8_takesTest_64, sX8_takesTest_67, sX8_takesTest_68, sX8_takesTest_69, sX8_takesTest_71, sX8_takesTest_72, sX8_takesTest_74, sX8_takesTest_75, sX8_takesTest_76, sX8_takesTest_77, sX8_takesTest_78, sX8_takesTest_81, sX8_takesTest_82 (st := []), sX8_takesTest_85, sX8_takesTest_86 (st := []), sX8_takesTest_89, sX8_takesTest_90 (st := []), inb, nz_3, nz_4, nz_6, nz_8, nz_10, nz_100, nz_300, pushr_s, pushr_n, rv_s, rv_n, kd_sI, kd_sR, kd_sJ, sz_sI, sz_sR, sz_sJ, aR_sI, aJ_sI, aI_sR, aI_sJ, not_false_eq_true, true_and, and_true, true_or, or_true, or_false, false_or, eq_self, ite_true, ite_false, if_true, if_false, kd_pS, mk_67 h.lay, n1, hp, l0, pS_13, e1, nI_1, pSw_p, s1, n2, hi]
    | some r =>
      obtain ⟨r2, r1⟩ := rel3_ok g2
      have hlt2 := nx_lt r1
      simp only [g2] at hi
      have s2 : (mk s0 (p + 1) g L W T).setp (p + 1 + 1) = mk s0 (p + 2) g L W T := rfl
      have hnum := fun Q => m_number (S := S) (d := d) (Q := Q) (s := mk s0 (p + 2) g L W T) h hlt2
      have e3 : (mk s0 (p + 2) g L W T).p = p + 2 := rfl
      rw [e3] at hnum
      have er := rel3_sub g2
      rcases g3 : numP t (p + 2) with ⟨q2, _ | n⟩
      · simp only [g3] at hnum
        refine ⟨fun q x z => (by cases z), fun q z Q => ?_⟩
        obtain rfl : q2 = q := congrArg Prod.fst z
        have : q2 = p + 2 := by
          unfold numP at g3
          split at g3
          · exact (congrArg Prod.fst g3).symm
          · split at g3 <;> cases g3
        subst this
        simp only [sX8_takesTest_0, sX8_takesTest_1, sX8_takesTest_2 (st := []), sX8_takesTest_5 (st := []), sX8_takesTest_8, sX8_takesTest_9, sX8_takesTest_10, sX8_takesTest_13, sX8_takesTest_15, sX8_takesTest_14 (st := []), sX8_takesTest_16, sX8_takesTest_17, sX8_takesTest_20, sX8_takesTest_21, sX8_takesTest_22, sX8_takesTest_25, sX8_takesTest_26 (st := []), sX8_takesTest_29, sX8_takesTest_30, sX8_takesTest_31, sX8_takesTest_32, sX8_takesTest_34, sX8_takesTest_36 (st := []), sX8_takesTest_39, sX8_takesTest_42, sX8_takesTest_44, sX8_takesTest_43 (st := []), sX8_takesTest_45, sX8_takesTest_46, sX8_takesTest_49, sX8_takesTest_50, sX8_takesTest_51, sX8_takesTest_54, sX8_takesTest_55 (st := []), sX8_takesTest_58, sX8_takesTest_61, sX8_takesTest_63, sX8_takesTest_62 (st := []), sX8_takesTest_64, sX8_takesTest_67, sX8_takesTest_68, sX8_takesTest_69, sX8_takesTest_71, sX8_takesTest_72, sX8_takesTest_74, sX8_takesTest_75, sX8_takesTest_76, sX8_takesTest_77, sX8_takesTest_78, sX8_takesTest_81, sX8_takesTest_82 (st := []), sX8_takesTest_85, sX8_takesTest_86 (st := []), sX8_takesTest_89, sX8_takesTest_90 (st := []), inb, nz_3, nz_4, nz_6, nz_8, nz_10, nz_100, nz_300, pushr_s, pushr_n, rv_s, rv_n, kd_sI, kd_sR, kd_sJ, sz_sI, sz_sR, sz_sJ, aR_sI, aJ_sI, aI_sR, aI_sJ, not_false_eq_true, true_and, and_true, true_or, or_true, or_false, false_or, eq_self, ite_true, ite_false, if_true, if_false, kd_pS, mk_67 h.lay, n1, hp, l0, pS_13, e1, e2, nI_1, pSw_p, s1, s2, n2, hi, nz_1, hnum]
      · obtain ⟨n99, b1, b2⟩ := numP_ok g3
        simp only [g3] at hnum
        refine ⟨fun q x z => ?_, fun q z => (by cases z)⟩
        obtain rfl : q2 = q := congrArg Prod.fst z
        obtain rfl : (l * 3 + r) * 100 + n = x := Option.some.inj (congrArg Prod.snd z)
        refine ⟨nI n, fun Q => ?_⟩
        have s3 : ((mk s0 (p + 2) g L W T).setp q2).setg (nI n) = mk s0 q2 (nI n) L W T := rfl
        have eg : (mk s0 q2 (nI n) L W T).g = nI n := rfl
        have he := fun Q => m_emits (S := S) (d := d + 2) (Q := Q) (v := enM ((l * 3 + r) * 100 + n)) (s := mk s0 q2 (nI n) L W T) h (by show s0.n + T.length < 600; omega)
        have hw := fun Q => m_whole (S := S) (d := d + 1) (Q := Q) (s0 := s0) (p := q2) (g := nI n) h L (T ++ [(l * 3 + r) * 100 + n]) hS (by rw [List.length_append]; show s0.n + (T.length + 1) + L.length ≤ 600; omega) hl
        simp only [mk_emit] at he
        rw [tok_enM l5 r2 n99] at he
        simp only [sX8_takesTest_0, sX8_takesTest_1, sX8_takesTest_2 (st := []), sX8_takesTest_5 (st := []), sX8_takesTest_8, sX8_takesTest_9, sX8_takesTest_10, sX8_takesTest_13, sX8_takesTest_15, sX8_takesTest_14 (st := []), sX8_takesTest_16, sX8_takesTest_17, sX8_takesTest_20, sX8_takesTest_21, sX8_takesTest_22, sX8_takesTest_25, sX8_takesTest_26 (st := []), sX8_takesTest_29, sX8_takesTest_30, sX8_takesTest_31, sX8_takesTest_32, sX8_takesTest_34, sX8_takesTest_36 (st := []), sX8_takesTest_39, sX8_takesTest_42, sX8_takesTest_44, sX8_takesTest_43 (st := []), sX8_takesTest_45, sX8_takesTest_46, sX8_takesTest_49, sX8_takesTest_50, sX8_takesTest_51, sX8_takesTest_54, sX8_takesTest_55 (st := []), sX8_takesTest_58, sX8_takesTest_61, sX8_takesTest_63, sX8_takesTest_62 (st := []), sX8_takesTest_64, sX8_takesTest_67, sX8_takesTest_68, sX8_takesTest_69, sX8_takesTest_71, sX8_takesTest_72, sX8_takesTest_74, sX8_takesTest_75, sX8_takesTest_76, sX8_takesTest_77, sX8_takesTest_78, sX8_takesTest_81, sX8_takesTest_82 (st := []), sX8_takesTest_85, sX8_takesTest_86 (st := []), sX8_takesTest_89, sX8_takesTest_90 (st := []), inb, nz_3, nz_4, nz_6, nz_8, nz_10, nz_100, nz_300, pushr_s, pushr_n, rv_s, rv_n, kd_sI, kd_sR, kd_sJ, sz_sI, sz_sR, sz_sJ, aR_sI, aJ_sI, aI_sR, aI_sJ, not_false_eq_true, true_and, and_true, true_or, or_true, or_false, false_or, eq_self, ite_true, ite_false, if_true, if_false, kd_pS, mk_67 h.lay, n1, hp, l0, pS_13, pS_14, e1, e2, nI_1, pSw_p, s1, s2, n2, hi, nz_1, hnum, s3, eg, er, n1000, n100, nI_add, he, hw]
theorem opn_x {x : Int32} {L : List Int32} (h : x = 33 ∨ x = 40) : opn (x :: L) = opn L + 1 := by
  rcases h with rfl | rfl
  · rw [opn_33, Nat.add_comm]
  · rw [opn_40, Nat.add_comm]
theorem opn_le : ∀ L : List Int32, opn L ≤ L.length
  | [] => Nat.le_refl _
  | x :: L => by
    have := opn_le L
    show (if x = 33 then 1 else if x = 40 then 1 else 0) + opn L ≤ L.length + 1
    split
    · omega
    · split <;> omega
theorem opn_j {x : Int32} {L : List Int32} (h : x = 38 ∨ x = 124) : opn (x :: L) = opn L := by
  rcases h with rfl | rfl
  · show (if (38 : Int32) = 33 then 1 else if (38 : Int32) = 40 then 1 else 0) + opn L = opn L
    rw [if_neg (by decide +kernel), if_neg (by decide +kernel), Nat.zero_add]
  · show (if (124 : Int32) = 33 then 1 else if (124 : Int32) = 40 then 1 else 0) + opn L = opn L
    rw [if_neg (by decide +kernel), if_neg (by decide +kernel), Nat.zero_add]
theorem settle_len (y : Int32) : ∀ (L : List Int32) (T : List Nat), (settleP y L T).1.length + (settleP y L T).2.length = L.length + T.length ∧ (settleP y L T).1.length ≤ L.length ∧ opn (settleP y L T).1 = opn L
  | [], T => ⟨rfl, Nat.le_refl _, rfl⟩
  | x :: L, T => by
    unfold settleP
    by_cases h1 : x = 38
    · rw [if_pos h1]
      obtain ⟨a, b, c⟩ := settle_len y L (T ++ [1800])
      rw [List.length_append] at a
      refine ⟨by rw [a]; show L.length + (T.length + 1) = L.length + 1 + T.length; omega, Nat.le_trans b (Nat.le_succ _), c.trans (by rw [h1]; exact (opn_j (Or.inl rfl)).symm)⟩
    · rw [if_neg h1]
      by_cases h2 : x = 124
      · rw [if_pos h2]
        by_cases h3 : y = 38
        · rw [if_pos h3]; exact ⟨rfl, Nat.le_refl _, rfl⟩
        · rw [if_neg h3]
          obtain ⟨a, b, c⟩ := settle_len y L (T ++ [2100])
          rw [List.length_append] at a
          refine ⟨by rw [a]; show L.length + (T.length + 1) = L.length + 1 + T.length; omega, Nat.le_trans b (Nat.le_succ _), c.trans (by rw [h2]; exact (opn_j (Or.inr rfl)).symm)⟩
      · rw [if_neg h2]; exact ⟨rfl, Nat.le_refl _, rfl⟩
theorem whole_len : ∀ (L : List Int32) (T : List Nat), (wholeP L T).1.length + (wholeP L T).2.length = L.length + T.length ∧ (wholeP L T).1.length ≤ L.length
  | [], T => ⟨rfl, Nat.le_refl _⟩
  | x :: L, T => by
    unfold wholeP
    by_cases h1 : x = 33
    · rw [if_pos h1]
      obtain ⟨a, b⟩ := whole_len L (T ++ [2400])
      rw [List.length_append] at a
      exact ⟨by rw [a]; show L.length + (T.length + 1) = L.length + 1 + T.length; omega, Nat.le_trans b (Nat.le_succ _)⟩
    · rw [if_neg h1]; exact ⟨rfl, Nat.le_refl _⟩
theorem settle_stk (y : Int32) {W : Nat → Int32} : ∀ (L : List Int32) (T : List Nat), Stk W L → Stk W (settleP y L T).1
  | [], T, h => h
  | x :: L, T, h => by
    unfold settleP
    by_cases h1 : x = 38
    · rw [if_pos h1]; exact settle_stk y L _ h.2
    · rw [if_neg h1]
      by_cases h2 : x = 124
      · rw [if_pos h2]
        by_cases h3 : y = 38
        · rw [if_pos h3]; exact h
        · rw [if_neg h3]; exact settle_stk y L _ h.2
      · rw [if_neg h2]; exact h
theorem whole_stk {W : Nat → Int32} : ∀ (L : List Int32) (T : List Nat), Stk W L → Stk W (wholeP L T).1
  | [], T, h => h
  | x :: L, T, h => by
    unfold wholeP
    by_cases h1 : x = 33
    · rw [if_pos h1]; exact whole_stk L _ h.2
    · rw [if_neg h1]; exact h
/-- the stack's bits are brackets, nots, joints alone -/
def StX : List Int32 → Prop
  | [] => True
  | x :: L => (x = 33 ∨ x = 40 ∨ x = 38 ∨ x = 124) ∧ StX L
theorem settle_x (y : Int32) (hy : ¬ y = 38) : ∀ (L : List Int32) (T : List Nat), StX L → StX (settleP y L T).1 ∧ ∀ x L', (settleP y L T).1 = x :: L' → x = 33 ∨ x = 40
  | [], T, h => ⟨h, fun x L' z => by cases z⟩
  | x :: L, T, h => by
    unfold settleP
    by_cases h1 : x = 38
    · rw [if_pos h1]; exact settle_x y hy L _ h.2
    · rw [if_neg h1]
      by_cases h2 : x = 124
      · rw [if_pos h2, if_neg hy]; exact settle_x y hy L _ h.2
      · rw [if_neg h2]
        refine ⟨h, fun z L' e => ?_⟩
        cases e
        rcases h.1 with q | q | q | q
        · exact Or.inl q
        · exact Or.inr q
        · exact absurd q h1
        · exact absurd q h2
theorem settle_x2 (y : Int32) : ∀ (L : List Int32) (T : List Nat), StX L → StX (settleP y L T).1
  | [], T, h => h
  | x :: L, T, h => by
    unfold settleP
    by_cases h1 : x = 38
    · rw [if_pos h1]; exact settle_x2 y L _ h.2
    · rw [if_neg h1]
      by_cases h2 : x = 124
      · rw [if_pos h2]
        by_cases h3 : y = 38
        · rw [if_pos h3]; exact h
        · rw [if_neg h3]; exact settle_x2 y L _ h.2
      · rw [if_neg h2]; exact h
theorem whole_x : ∀ (L : List Int32) (T : List Nat), StX L → StX (wholeP L T).1
  | [], T, h => h
  | x :: L, T, h => by
    unfold wholeP
    by_cases h1 : x = 33
    · rw [if_pos h1]; exact whole_x L _ h.2
    · rw [if_neg h1]; exact h
end READ
