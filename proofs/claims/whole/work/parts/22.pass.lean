-- 22: a way as a list of clauses; the reference's heeding and passing on
/-- a clause: 0 heed, 1 deaf, 2 many; its number; its tokens -/
abbrev Cla : Type := Nat × Nat × List Nat
def Fm (H : AH) (l n : Int32) : Nat → Int32 := fun w => facM (nI w) l (aI H 68 (ix l)) (aI H 69 (ix l)) n (aI H 67 4)
def ev1 (F : Nat → Int32) (T : List Nat) : Bool := (evL F T (0, fun _ => false)).2 0
def ClW (q : Cla) : Prop := q.1 ≤ 2 ∧ q.2.1 ≤ 99 ∧ (q.1 ≤ 1 → dpL q.2.2 0 = some 1)
def ClM (H : AH) (c : Nat) (q : Cla) : Prop := aI H 75 c = nI q.1 ∧ aI H 76 c = nI q.2.1 ∧ (q.1 ≤ 1 → ∃ b, aI H 77 c = nI b ∧ aI H 78 c = nI (b + q.2.2.length) ∧ b + q.2.2.length ≤ 600 ∧ ∀ j, j < q.2.2.length → aI H 79 (b + j) = enM (q.2.2.getD j 0))
def WayM (H : AH) (L : List Cla) (b : Nat) : Prop :=
  (∀ q ∈ L, ClW q) ∧ ((aI H 67 11 = -1 ∧ L = [] ∧ b = 0) ∨ ∃ f, f < 6 ∧ aI H 67 11 = nI f ∧ aI H 74 f = nI L.length ∧ b = 10 * f ∧ L.length ≤ 10 ∧ ∀ j, j < L.length → ClM H (b + j) (L.getD j (2, 0, [])))
theorem WayM_sA {H : AH} {p : Nat → Int32} {L : List Cla} {b : Nat} (h : WayM H L b) : WayM (sA H p) L b := h
/-- the sum of a way -/
def suC (F : Nat → Int32) : List Cla → Int32 → Int32
  | [], s => s
  | q :: r, s => suC F r (if q.1 = 2 then s else if ev1 F q.2.2 = true then (if q.1 = 0 then s + nI q.2.1 else s + -(nI q.2.1)) else s)
def hdC (F : Nat → Int32) (L : List Cla) : Int32 := if 0 < suC F L 1 then 1 else 0
/-- how many are too many -/
def maC : List Cla → Int32 → Int32
  | [], s => s
  | q :: r, s => maC r (if q.1 = 2 then nI q.2.1 else s)
theorem nm1_0 : ((0 : Int32) ≤ -1) = False := eq_false (by decide +kernel)
theorem n10 (f : Nat) : (10 : Int32) * nI f = nI (10 * f) := pk_mul 10 f
theorem gD_mem {α : Type} : ∀ (L : List α) (i : Nat) (x : α), i < L.length → L.getD i x ∈ L
  | [], _, _, h => absurd h (Nat.not_lt_zero _)
  | a :: r, 0, _, _ => List.mem_cons_self
  | a :: r, i + 1, x, h => List.mem_cons_of_mem _ (gD_mem r i x (Nat.lt_of_succ_lt_succ h))
section MODEL
variable {S : SC} {d : Nat} {H : AH} {Q : Option Value → AH → Prop}
theorem m_begin {L : List Cla} {b : Nat} (h : MoL H) (hw : WayM H L b) : Wp S d 154 0 [.ref 67] [] H Q = Q (some (.int (nI b))) H := by
  rcases hw.2 with ⟨e, _, rfl⟩ | ⟨f, f6, e, _, rfl, _, _⟩
  · simp only [sX8_begin_0, sX8_begin_1, sX8_begin_4, sX8_begin_7, sX8_begin_11, sX8_begin_8, sX8_begin_13, sX8_begin_18 (st := []), sX8_begin_14, sX8_begin_17, inb, nz_3, nz_4, nz_6, nz_8, nz_10, nz_100, nz_300, pushr_s, pushr_n, rv_s, rv_n, kd_sI, kd_sR, kd_sJ, sz_sI, sz_sR, sz_sJ, aR_sI, aJ_sI, aI_sR, aI_sJ, not_false_eq_true, true_and, and_true, true_or, or_true, or_false, false_or, eq_self, ite_true, ite_false, if_true, if_false, mk_67 h, e, nm1_0]
    rfl
  · have e2 : (0 ≤ nI f) = True := eq_true (nI_pos' (by omega))
    simp only [sX8_begin_0, sX8_begin_1, sX8_begin_4, sX8_begin_7, sX8_begin_11, sX8_begin_8, sX8_begin_13, sX8_begin_18 (st := []), sX8_begin_14, sX8_begin_17, inb, nz_3, nz_4, nz_6, nz_8, nz_10, nz_100, nz_300, pushr_s, pushr_n, rv_s, rv_n, kd_sI, kd_sR, kd_sJ, sz_sI, sz_sR, sz_sJ, aR_sI, aJ_sI, aI_sR, aI_sJ, not_false_eq_true, true_and, and_true, true_or, or_true, or_false, false_or, eq_self, ite_true, ite_false, if_true, if_false, mk_67 h, e, e2, n10]
theorem m_behind {L : List Cla} {b : Nat} (h : MoL H) (hw : WayM H L b) : Wp S d 155 0 [.ref 67] [] H Q = Q (some (.int (nI (b + L.length)))) H := by
  rcases hw.2 with ⟨e, rfl, rfl⟩ | ⟨f, f6, e, e3, rfl, _, _⟩
  · simp only [sX8_behind_0, sX8_behind_1, sX8_behind_4, sX8_behind_7, sX8_behind_11, sX8_behind_8, sX8_behind_13, sX8_behind_28 (st := []), sX8_behind_14, sX8_behind_17, sX8_behind_18, sX8_behind_19, sX8_behind_22, sX8_behind_23, sX8_behind_26, sX8_behind_27, inb, nz_3, nz_4, nz_6, nz_8, nz_10, nz_100, nz_300, pushr_s, pushr_n, rv_s, rv_n, kd_sI, kd_sR, kd_sJ, sz_sI, sz_sR, sz_sJ, aR_sI, aJ_sI, aI_sR, aI_sJ, not_false_eq_true, true_and, and_true, true_or, or_true, or_false, false_or, eq_self, ite_true, ite_false, if_true, if_false, mk_67 h, mr_16 h, mk_74 h, mz_74 h, e, nm1_0]
    rfl
  · have e2 : (0 ≤ nI f) = True := eq_true (nI_pos' (by omega))
    have k1 : ¬ (nI f < 0 ∨ 6 ≤ f) := inN (by omega) (by omega)
    have kc : (nI f).toNatClampNeg = f := nI_clamp (by omega)
    simp only [sX8_behind_0, sX8_behind_1, sX8_behind_4, sX8_behind_7, sX8_behind_11, sX8_behind_8, sX8_behind_13, sX8_behind_28 (st := []), sX8_behind_14, sX8_behind_17, sX8_behind_18, sX8_behind_19, sX8_behind_22, sX8_behind_23, sX8_behind_26, sX8_behind_27, inb, nz_3, nz_4, nz_6, nz_8, nz_10, nz_100, nz_300, pushr_s, pushr_n, rv_s, rv_n, kd_sI, kd_sR, kd_sJ, sz_sI, sz_sR, sz_sJ, aR_sI, aJ_sI, aI_sR, aI_sJ, not_false_eq_true, true_and, and_true, true_or, or_true, or_false, false_or, eq_self, ite_true, ite_false, if_true, if_false, mk_67 h, mr_16 h, mk_74 h, mz_74 h, e, e2, n10, k1, kc, e3, nI_add]
theorem m_holds {l n : Int32} {c : Nat} {q : Cla} (h : MoL H) (hl : inb l 6) (hc : c < 60) (hq : ClM H c q) (hq2 : ClW q) (h1 : q.1 ≤ 1) (pile : Nat → Int32) : ∃ pile', ∀ (Q : Option Value → AH → Prop), Wp S (d + 3) 158 0 [.ref 67, .int (nI c), .int l, .int n, hole, hole, hole, hole, hole] [] (sA H pile) Q = Q (some (.int (bi (ev1 (Fm H l n) q.2.2)))) (sA H pile') := by
  obtain ⟨b, e1, e2, e3, e4⟩ := hq.2.2 h1
  have kc : (nI c).toNatClampNeg = c := nI_clamp (by omega)
  have k1 : ¬ (nI c < 0 ∨ 60 ≤ c) := inN (by omega) (by omega)
  obtain ⟨pile', ih⟩ := lp_holds (S := S) (d := d) (n := n) (c := nI c) (E := b + q.2.2.length) h hl (show ¬ (nI c < 0 ∨ 60 ≤ (nI c).toNatClampNeg) by rw [kc]; exact k1) (by rw [show ix (nI c) = c from kc]; exact e2) e3 q.2.2 b 0 (fun _ => false) pile e4 (hq2.2.2 h1) (fun j hj => by omega) (by omega) rfl
  refine ⟨pile', fun Q => ?_⟩
  have ih := ih Q
  rw [nI_0] at ih
  simp only [sX8_holds_0, sX8_holds_1, sX8_holds_3, sX8_holds_4, sX8_holds_7, sX8_holds_8, sX8_holds_9, sX8_holds_13, sX8_holds_14, sX8_holds_17, sX8_holds_18, sX8_holds_19, sX8_holds_22, sX8_holds_253, sX8_holds_23, sX8_holds_254, sX8_holds_26, sX8_holds_257, sX8_holds_28, sX8_holds_258, sX8_holds_29, sX8_holds_259 (st := []), sX8_holds_31, sX8_holds_33, sX8_holds_35, sX8_holds_38, sX8_holds_67, sX8_holds_39, sX8_holds_69, sX8_holds_42, sX8_holds_72, sX8_holds_151, sX8_holds_44, sX8_holds_75, sX8_holds_152, sX8_holds_45, sX8_holds_76, sX8_holds_154, sX8_holds_46, sX8_holds_79, sX8_holds_157, sX8_holds_47, sX8_holds_81, sX8_holds_158, sX8_holds_50, sX8_holds_82, sX8_holds_159, sX8_holds_52, sX8_holds_83, sX8_holds_160 (st := []), sX8_holds_53, sX8_holds_85, sX8_holds_163, sX8_holds_54, sX8_holds_87, sX8_holds_165, sX8_holds_55, sX8_holds_90, sX8_holds_120, sX8_holds_167, sX8_holds_58, sX8_holds_62, sX8_holds_91, sX8_holds_121, sX8_holds_169, sX8_holds_59, sX8_holds_63, sX8_holds_94, sX8_holds_124, sX8_holds_170, sX8_holds_64, sX8_holds_96, sX8_holds_126, sX8_holds_172, sX8_holds_247, sX8_holds_97, sX8_holds_127, sX8_holds_173, sX8_holds_250, sX8_holds_98, sX8_holds_128, sX8_holds_175, sX8_holds_99, sX8_holds_129, sX8_holds_176, sX8_holds_102, sX8_holds_116, sX8_holds_132, sX8_holds_142, sX8_holds_179, sX8_holds_103, sX8_holds_117, sX8_holds_133, sX8_holds_143, sX8_holds_181, sX8_holds_106, sX8_holds_147, sX8_holds_136, sX8_holds_183, sX8_holds_108, sX8_holds_148, sX8_holds_138, sX8_holds_186, sX8_holds_204, sX8_holds_109, sX8_holds_139, sX8_holds_188, sX8_holds_206, sX8_holds_112, sX8_holds_146, sX8_holds_190, sX8_holds_207, sX8_holds_113, sX8_holds_192, sX8_holds_210, sX8_holds_228, sX8_holds_193, sX8_holds_212, sX8_holds_230, sX8_holds_196, sX8_holds_200, sX8_holds_214, sX8_holds_232, sX8_holds_197, sX8_holds_201, sX8_holds_216, sX8_holds_234, sX8_holds_243, sX8_holds_217, sX8_holds_235, sX8_holds_244, sX8_holds_220, sX8_holds_224, sX8_holds_238, sX8_holds_242, sX8_holds_221, sX8_holds_225, sX8_holds_239, inb, nz_3, nz_4, nz_6, nz_8, nz_10, nz_100, nz_300, pushr_s, pushr_n, rv_s, rv_n, kd_sI, kd_sR, kd_sJ, sz_sI, sz_sR, sz_sJ, aR_sI, aJ_sI, aI_sR, aI_sJ, not_false_eq_true, true_and, and_true, true_or, or_true, or_false, false_or, eq_self, ite_true, ite_false, if_true, if_false, kd_sA, sz_sA, aR_sA, mk_67 h, mr_19 h, mk_77 h, mz_77 h, mr_20 h, mk_78 h, mz_78 h, mr_21 h, mk_79 h, mz_79 h, mr_27 h, mk_82 h, mz_82 h, aI_sA H pile (show 77 ≠ 82 by decide), kc, k1, e1, ih]
  rfl
theorem lp_heed {L : List Cla} {b : Nat} {l n : Int32} (h : MoL H) (hw : WayM H L b) (hl : inb l 6) : ∀ (r : List Cla) (i : Nat) (s : Int32) (pile : Nat → Int32), i + r.length = L.length → (∀ j, j < r.length → r.getD j (2, 0, []) = L.getD (i + j) (2, 0, [])) → ∃ pile', ∀ (Q : Option Value → AH → Prop), Wp S (d + 4) 159 8 [.ref 67, .int l, .int n, .int s, .int (nI (b + i))] [] (sA H pile) Q = Q (some (.int (if 0 < suC (Fm H l n) r s then 1 else 0))) (sA H pile')
  | [], i, s, pile, hi, hr => by
    refine ⟨pile, fun Q => ?_⟩
    have hi : i = L.length := hi
    have hb : b + L.length < 2 ^ 31 := by rcases hw.2 with ⟨_, rfl, rfl⟩ | ⟨f, f6, e, e3, rfl, _, _⟩; decide; omega
    have e : nI (b + L.length) ≤ nI (b + i) := nI_le (by omega) (by omega)
    have hn := fun Q => m_behind (S := S) (d := d + 3) (Q := Q) (H := sA H pile) (MoL_sA h) (WayM_sA hw)
    rw [sX8_isHeeded_8]
    simp only [sX8_isHeeded_0, sX8_isHeeded_1, sX8_isHeeded_2, sX8_isHeeded_3 (st := []), sX8_isHeeded_6, sX8_isHeeded_10, sX8_isHeeded_11 (st := []), sX8_isHeeded_14, sX8_isHeeded_17, sX8_isHeeded_79, sX8_isHeeded_18, sX8_isHeeded_80, sX8_isHeeded_21, sX8_isHeeded_83, sX8_isHeeded_87, sX8_isHeeded_23, sX8_isHeeded_84, sX8_isHeeded_88 (st := []), sX8_isHeeded_24, sX8_isHeeded_25, sX8_isHeeded_28, sX8_isHeeded_73, sX8_isHeeded_29, sX8_isHeeded_76, sX8_isHeeded_31, sX8_isHeeded_32, sX8_isHeeded_33 (st := []), sX8_isHeeded_36, sX8_isHeeded_39, sX8_isHeeded_42, sX8_isHeeded_43, sX8_isHeeded_44, sX8_isHeeded_47, sX8_isHeeded_49, sX8_isHeeded_50, sX8_isHeeded_53, sX8_isHeeded_63, sX8_isHeeded_54, sX8_isHeeded_64, sX8_isHeeded_57, sX8_isHeeded_67, sX8_isHeeded_59, sX8_isHeeded_69, sX8_isHeeded_60, sX8_isHeeded_70, sX8_isHeeded_71, sX8_isHeeded_72, inb, nz_3, nz_4, nz_6, nz_8, nz_10, nz_100, nz_300, pushr_s, pushr_n, rv_s, rv_n, kd_sI, kd_sR, kd_sJ, sz_sI, sz_sR, sz_sJ, aR_sI, aJ_sI, aI_sR, aI_sJ, not_false_eq_true, true_and, and_true, true_or, or_true, or_false, false_or, eq_self, ite_true, ite_false, if_true, if_false, kd_sA, mk_67 h, mr_17 h, mk_75 h, mz_75 h, mr_18 h, mk_76 h, mz_76 h, hn, e]
    rw [suC]
    by_cases h0 : s ≤ 0
    · rw [if_pos h0, if_neg (Int32.not_lt.mpr h0)]
    · rw [if_neg h0, if_pos (Int32.not_le.mp h0)]
  | q :: r, i, s, pile, hi, hr => by
    have hi : i + (r.length + 1) = L.length := hi
    rcases hw.2 with ⟨_, rfl, _⟩ | ⟨f, f6, e0, e3, hb, hlen, hcl⟩
    · exact absurd hi (by show ¬ i + (r.length + 1) = 0; omega)
    have hq : q = L.getD i (2, 0, []) := hr 0 (by show 0 < r.length + 1; omega)
    have hr1 : ∀ j, j < r.length → r.getD j (2, 0, []) = L.getD (i + 1 + j) (2, 0, []) := fun j hj => by
      have z := hr (j + 1) (by show j + 1 < r.length + 1; omega)
      rw [show i + (j + 1) = i + 1 + j by omega] at z
      exact z
    have hc : ClM H (b + i) q := by rw [hq]; exact hcl i (by omega)
    have hc2 : ClW q := hw.1 q (by rw [hq]; exact gD_mem L i _ (by omega))
    have e : ¬ nI (b + L.length) ≤ nI (b + i) := nI_ge (by omega) (by omega)
    have hn := fun Q => m_behind (S := S) (d := d + 3) (Q := Q) (H := sA H pile) (MoL_sA h) (WayM_sA hw)
    have kc : (nI (b + i)).toNatClampNeg = b + i := nI_clamp (by omega)
    have k1 : ¬ (nI (b + i) < 0 ∨ 60 ≤ b + i) := inN (by omega) (by omega)
    have r75 := hc.1
    have r76 := hc.2.1
    by_cases h1 : q.1 ≤ 1
    · obtain ⟨p1, hh⟩ := m_holds (S := S) (d := d) (n := n) h hl (show b + i < 60 by omega) hc hc2 h1 pile
      obtain ⟨p2, ih⟩ := lp_heed (n := n) h hw hl r (i + 1) (if q.1 = 2 then s else if ev1 (Fm H l n) q.2.2 = true then (if q.1 = 0 then s + nI q.2.1 else s + -(nI q.2.1)) else s) p1 (by omega) hr1
      refine ⟨p2, fun Q => ?_⟩
      rw [suC, ← ih Q, sX8_isHeeded_8]
      have g1 : ¬ 1 < nI q.1 := nI_nlt h1 (by decide)
      simp only [sX8_isHeeded_0, sX8_isHeeded_1, sX8_isHeeded_2, sX8_isHeeded_3 (st := []), sX8_isHeeded_6, sX8_isHeeded_10, sX8_isHeeded_11 (st := []), sX8_isHeeded_14, sX8_isHeeded_17, sX8_isHeeded_79, sX8_isHeeded_18, sX8_isHeeded_80, sX8_isHeeded_21, sX8_isHeeded_83, sX8_isHeeded_87, sX8_isHeeded_23, sX8_isHeeded_84, sX8_isHeeded_88 (st := []), sX8_isHeeded_24, sX8_isHeeded_25, sX8_isHeeded_28, sX8_isHeeded_73, sX8_isHeeded_29, sX8_isHeeded_76, sX8_isHeeded_31, sX8_isHeeded_32, sX8_isHeeded_33 (st := []), sX8_isHeeded_36, sX8_isHeeded_39, sX8_isHeeded_42, sX8_isHeeded_43, sX8_isHeeded_44, sX8_isHeeded_47, sX8_isHeeded_49, sX8_isHeeded_50, sX8_isHeeded_53, sX8_isHeeded_63, sX8_isHeeded_54, sX8_isHeeded_64, sX8_isHeeded_57, sX8_isHeeded_67, sX8_isHeeded_59, sX8_isHeeded_69, sX8_isHeeded_60, sX8_isHeeded_70, sX8_isHeeded_71, sX8_isHeeded_72, inb, nz_3, nz_4, nz_6, nz_8, nz_10, nz_100, nz_300, pushr_s, pushr_n, rv_s, rv_n, kd_sI, kd_sR, kd_sJ, sz_sI, sz_sR, sz_sJ, aR_sI, aJ_sI, aI_sR, aI_sJ, not_false_eq_true, true_and, and_true, true_or, or_true, or_false, false_or, eq_self, ite_true, ite_false, if_true, if_false, hn, e, kd_sA, sz_sA, aR_sA, mk_67 h, mr_17 h, mk_75 h, mz_75 h, mr_18 h, mk_76 h, mz_76 h, aI_sA H pile (show 75 ≠ 82 by decide), aI_sA H p1 (show 75 ≠ 82 by decide), aI_sA H p1 (show 76 ≠ 82 by decide), kc, k1, r75, r76, g1, hh, nI_1]
      generalize ev1 (Fm H l n) q.2.2 = t
      have q2 : ¬ q.1 = 2 := by omega
      rw [if_neg q2]
      cases t
      · rw [if_pos (show bi false = 0 from rfl), if_neg (by decide)]; rfl
      · rw [if_neg (show ¬ bi true = 0 by decide), if_pos rfl]
        by_cases q0 : q.1 = 0
        · rw [if_pos (by rw [q0]; rfl), if_pos q0]; rfl
        · rw [if_neg (nI_ne0 (by omega) (by omega)), if_neg q0]; rfl
    · have h2 : q.1 = 2 := by have := hc2.1; omega
      obtain ⟨p2, ih⟩ := lp_heed (n := n) h hw hl r (i + 1) (if q.1 = 2 then s else if ev1 (Fm H l n) q.2.2 = true then (if q.1 = 0 then s + nI q.2.1 else s + -(nI q.2.1)) else s) pile (by omega) hr1
      refine ⟨p2, fun Q => ?_⟩
      rw [suC, ← ih Q, if_pos h2, sX8_isHeeded_8]
      have g1 : 1 < nI q.1 := nI_lt (a := 1) (by omega) (by omega)
      simp only [sX8_isHeeded_0, sX8_isHeeded_1, sX8_isHeeded_2, sX8_isHeeded_3 (st := []), sX8_isHeeded_6, sX8_isHeeded_10, sX8_isHeeded_11 (st := []), sX8_isHeeded_14, sX8_isHeeded_17, sX8_isHeeded_79, sX8_isHeeded_18, sX8_isHeeded_80, sX8_isHeeded_21, sX8_isHeeded_83, sX8_isHeeded_87, sX8_isHeeded_23, sX8_isHeeded_84, sX8_isHeeded_88 (st := []), sX8_isHeeded_24, sX8_isHeeded_25, sX8_isHeeded_28, sX8_isHeeded_73, sX8_isHeeded_29, sX8_isHeeded_76, sX8_isHeeded_31, sX8_isHeeded_32, sX8_isHeeded_33 (st := []), sX8_isHeeded_36, sX8_isHeeded_39, sX8_isHeeded_42, sX8_isHeeded_43, sX8_isHeeded_44, sX8_isHeeded_47, sX8_isHeeded_49, sX8_isHeeded_50, sX8_isHeeded_53, sX8_isHeeded_63, sX8_isHeeded_54, sX8_isHeeded_64, sX8_isHeeded_57, sX8_isHeeded_67, sX8_isHeeded_59, sX8_isHeeded_69, sX8_isHeeded_60, sX8_isHeeded_70, sX8_isHeeded_71, sX8_isHeeded_72, inb, nz_3, nz_4, nz_6, nz_8, nz_10, nz_100, nz_300, pushr_s, pushr_n, rv_s, rv_n, kd_sI, kd_sR, kd_sJ, sz_sI, sz_sR, sz_sJ, aR_sI, aJ_sI, aI_sR, aI_sJ, not_false_eq_true, true_and, and_true, true_or, or_true, or_false, false_or, eq_self, ite_true, ite_false, if_true, if_false, hn, e, kd_sA, sz_sA, aR_sA, mk_67 h, mr_17 h, mk_75 h, mz_75 h, mr_18 h, mk_76 h, mz_76 h, aI_sA H pile (show 75 ≠ 82 by decide), kc, k1, r75, g1, nI_1]
      rfl
theorem m_isHeeded {L : List Cla} {b : Nat} {l n : Int32} (h : MoL H) (hw : WayM H L b) (hl : inb l 6) (pile : Nat → Int32) : ∃ pile', ∀ (Q : Option Value → AH → Prop), Wp S (d + 4) 159 0 [.ref 67, .int l, .int n, hole, hole] [] (sA H pile) Q = Q (some (.int (hdC (Fm H l n) L))) (sA H pile') := by
  obtain ⟨p1, ih⟩ := lp_heed (S := S) (d := d) (n := n) h hw hl L 0 1 pile (by omega) (fun j _ => by rw [Nat.zero_add])
  refine ⟨p1, fun Q => ?_⟩
  have ih := ih Q
  have hb := fun Q => m_begin (S := S) (d := d + 3) (Q := Q) (H := sA H pile) (MoL_sA h) (WayM_sA hw)
  rw [show b + 0 = b from rfl] at ih
  simp only [sX8_isHeeded_0, sX8_isHeeded_1, sX8_isHeeded_2, sX8_isHeeded_3 (st := []), sX8_isHeeded_6, sX8_isHeeded_10, sX8_isHeeded_11 (st := []), sX8_isHeeded_14, sX8_isHeeded_17, sX8_isHeeded_79, sX8_isHeeded_18, sX8_isHeeded_80, sX8_isHeeded_21, sX8_isHeeded_83, sX8_isHeeded_87, sX8_isHeeded_23, sX8_isHeeded_84, sX8_isHeeded_88 (st := []), sX8_isHeeded_24, sX8_isHeeded_25, sX8_isHeeded_28, sX8_isHeeded_73, sX8_isHeeded_29, sX8_isHeeded_76, sX8_isHeeded_31, sX8_isHeeded_32, sX8_isHeeded_33 (st := []), sX8_isHeeded_36, sX8_isHeeded_39, sX8_isHeeded_42, sX8_isHeeded_43, sX8_isHeeded_44, sX8_isHeeded_47, sX8_isHeeded_49, sX8_isHeeded_50, sX8_isHeeded_53, sX8_isHeeded_63, sX8_isHeeded_54, sX8_isHeeded_64, sX8_isHeeded_57, sX8_isHeeded_67, sX8_isHeeded_59, sX8_isHeeded_69, sX8_isHeeded_60, sX8_isHeeded_70, sX8_isHeeded_71, sX8_isHeeded_72, inb, nz_3, nz_4, nz_6, nz_8, nz_10, nz_100, nz_300, pushr_s, pushr_n, rv_s, rv_n, kd_sI, kd_sR, kd_sJ, sz_sI, sz_sR, sz_sJ, aR_sI, aJ_sI, aI_sR, aI_sJ, not_false_eq_true, true_and, and_true, true_or, or_true, or_false, false_or, eq_self, ite_true, ite_false, if_true, if_false, kd_sA, mk_67 h, mr_17 h, mk_75 h, mz_75 h, mr_18 h, mk_76 h, mz_76 h, hb, ih]
  rfl
/-- passed on: by the reference -/
def pOM (H : AH) (L : List Cla) (l n : Int32) : Int32 := if haS (aI H 67 1) l = 1 then n else if hdC (Fm H l n) L = 0 then n else sayM (aI H 68 (ix l)) (aI H 69 (ix l)) n (aI H 70 (ix (4 * l + md4 (aI H 67 4))))
theorem hdC01 (F : Nat → Int32) (L : List Cla) : hdC F L = 0 ∨ hdC F L = 1 := by unfold hdC; split; exact Or.inr rfl; exact Or.inl rfl
theorem m_passesOn {L : List Cla} {b : Nat} {l n : Int32} (h : MoL H) (hw : WayM H L b) (hl : inb l 6) (hr : inb (4 * l + md4 (aI H 67 4)) 24) (pile : Nat → Int32) : ∃ pile', ∀ (Q : Option Value → AH → Prop), Wp S (d + 5) 163 0 [.ref 67, .int l, .int n] [] (sA H pile) Q = Q (some (.int (pOM H L l n))) (sA H pile') := by
  obtain ⟨p1, ih⟩ := m_isHeeded (S := S) (d := d) (n := n) h hw hl pile
  have hh := fun Q => m_has (S := S) (d := d + 4) (Q := Q) (H := sA H pile) (o := 67) (x := aI H 67 1) (k := l)
  have hs := fun Q => m_says (S := S) (d := d + 3) (Q := Q) (H := sA H p1) (n := n) (MoL_sA h) hl hr
  unfold pOM
  rcases haS01 (aI H 67 1) l with e | e
  · rw [e, if_neg (by decide)]
    refine ⟨p1, fun Q => ?_⟩
    rcases hdC01 (Fm H l n) L with e2 | e2
    · rw [e2, if_pos rfl]
      simp only [sX8_passesOn_0, sX8_passesOn_1, sX8_passesOn_2, sX8_passesOn_5, sX8_passesOn_6 (st := []), sX8_passesOn_9, sX8_passesOn_12, sX8_passesOn_30, sX8_passesOn_13, sX8_passesOn_31 (st := []), sX8_passesOn_14, sX8_passesOn_15 (st := []), sX8_passesOn_18, sX8_passesOn_21, sX8_passesOn_22, sX8_passesOn_23, sX8_passesOn_24 (st := []), sX8_passesOn_27, inb, nz_3, nz_4, nz_6, nz_8, nz_10, nz_100, nz_300, pushr_s, pushr_n, rv_s, rv_n, kd_sI, kd_sR, kd_sJ, sz_sI, sz_sR, sz_sJ, aR_sI, aJ_sI, aI_sR, aI_sJ, not_false_eq_true, true_and, and_true, true_or, or_true, or_false, false_or, eq_self, ite_true, ite_false, if_true, if_false, kd_sA, mk_67 h, aI_sA H pile (show 67 ≠ 82 by decide), hh, e, ih, e2]
    · rw [e2, if_neg (by decide)]
      simp only [sX8_passesOn_0, sX8_passesOn_1, sX8_passesOn_2, sX8_passesOn_5, sX8_passesOn_6 (st := []), sX8_passesOn_9, sX8_passesOn_12, sX8_passesOn_30, sX8_passesOn_13, sX8_passesOn_31 (st := []), sX8_passesOn_14, sX8_passesOn_15 (st := []), sX8_passesOn_18, sX8_passesOn_21, sX8_passesOn_22, sX8_passesOn_23, sX8_passesOn_24 (st := []), sX8_passesOn_27, inb, nz_3, nz_4, nz_6, nz_8, nz_10, nz_100, nz_300, pushr_s, pushr_n, rv_s, rv_n, kd_sI, kd_sR, kd_sJ, sz_sI, sz_sR, sz_sJ, aR_sI, aJ_sI, aI_sR, aI_sJ, not_false_eq_true, true_and, and_true, true_or, or_true, or_false, false_or, eq_self, ite_true, ite_false, if_true, if_false, kd_sA, mk_67 h, aI_sA H pile (show 67 ≠ 82 by decide), hh, e, ih, e2, hs, nz_1]
      rfl
  · rw [e, if_pos rfl]
    refine ⟨pile, fun Q => ?_⟩
    simp only [sX8_passesOn_0, sX8_passesOn_1, sX8_passesOn_2, sX8_passesOn_5, sX8_passesOn_6 (st := []), sX8_passesOn_9, sX8_passesOn_12, sX8_passesOn_30, sX8_passesOn_13, sX8_passesOn_31 (st := []), sX8_passesOn_14, sX8_passesOn_15 (st := []), sX8_passesOn_18, sX8_passesOn_21, sX8_passesOn_22, sX8_passesOn_23, sX8_passesOn_24 (st := []), sX8_passesOn_27, inb, nz_3, nz_4, nz_6, nz_8, nz_10, nz_100, nz_300, pushr_s, pushr_n, rv_s, rv_n, kd_sI, kd_sR, kd_sJ, sz_sI, sz_sR, sz_sJ, aR_sI, aJ_sI, aI_sR, aI_sJ, not_false_eq_true, true_and, and_true, true_or, or_true, or_false, false_or, eq_self, ite_true, ite_false, if_true, if_false, kd_sA, mk_67 h, aI_sA H pile (show 67 ≠ 82 by decide), hh, e, nz_1]
end MODEL
