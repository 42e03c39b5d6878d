-- 49: the reference's clauses and whole texts
section READ
variable {S : SC} {H : AH} {t : Txt}
/-- the reading's own starting state over a state of the rows: at p, n signs so far -/
theorem m_E {d c : Nat} (hc : c < 60) (h : ReL H t) {s : MS} (hp0 : 0 < s.p) (hp : s.p ≤ t.1) (hn : s.n < 500 + s.p) {q : Nat} {r : Option (List Nat)} (he : EP t s.p q r) :
    (∀ T, r = some T → (q ≤ t.1 ∧ T.length + s.p ≤ q) ∧ ∃ s', s'.p = q ∧ s'.n = s.n + T.length ∧ s'.wd = s.wd ∧ s'.nu = s.nu ∧ s'.cl = s.cl ∧ s'.fr = upd s.fr c (nI s.n) ∧ s'.to = upd s.to c (nI (s.n + T.length)) ∧ s'.f = appM s.f s.n T ∧ ∀ Q, Wp S (d + 4) 149 0 [.ref 67, .int (nI c), hole, hole] [] (pS H s) Q = Q (some (.int 1)) (pS H s'))
    ∧ (r = none → q ≤ t.1 ∧ ∃ s', s'.p = q ∧ Ag (s.setfr (upd s.fr c (nI s.n))) s' c ∧ ∀ Q, Wp S (d + 4) 149 0 [.ref 67, .int (nI c), hole, hole] [] (pS H s) Q = Q (some (.int 0)) (pS H s')) := by
  have hlen := h.len
  have cc : (nI c).toNatClampNeg = c := nI_clamp (by omega)
  have c1 : ¬ (nI c < 0 ∨ 60 ≤ c) := inN hc (by omega)
  obtain ⟨j, he⟩ := he
  have ih := m_loopE (S := S) (d := d) hp0 hc h (101 + j) true s.p s.g [] [] s.W (s.setfr (upd s.fr c (nI s.n))) hole (by omega) hp trivial trivial (by show 0 + 0 + s.p ≤ s.p; omega) hn
  rw [he 101] at ih
  have es : mk (s.setfr (upd s.fr c (nI s.n))) s.p s.g [] s.W [] = (((s.setk 0).seto 0).setfr (upd s.fr c (nI s.n))) := rfl
  have start : ∀ Q, Wp S (d + 4) 149 0 [.ref 67, .int (nI c), hole, hole] [] (pS H s) Q = Wp S (d + 4) 149 22 [.ref 67, .int (nI c), .int (bi true), hole] [] (pS H (mk (s.setfr (upd s.fr c (nI s.n))) s.p s.g [] s.W [])) Q := fun Q => by
    have w24 : sI (pS H s) 67 24 0 = pS H (s.setk 0) := pSw_k (v' := 0)
    have w25 : sI (pS H (s.setk 0)) 67 25 0 = pS H ((s.setk 0).seto 0) := pSw_o (v' := 0)
    rw [es]
    simp only [sX8_takesE_0, sX8_takesE_1, sX8_takesE_2, sX8_takesE_5, sX8_takesE_6, sX8_takesE_7, sX8_takesE_10, sX8_takesE_11, sX8_takesE_14, sX8_takesE_15, sX8_takesE_16, sX8_takesE_19, sX8_takesE_20, sX8_takesE_21, sX8_takesE_23 (st := []), sX8_takesE_26, sX8_takesE_27, sX8_takesE_28, sX8_takesE_31, sX8_takesE_110, sX8_takesE_32, sX8_takesE_111, sX8_takesE_34, sX8_takesE_113, sX8_takesE_37, sX8_takesE_43, sX8_takesE_116, sX8_takesE_122, sX8_takesE_38, sX8_takesE_44, sX8_takesE_117, sX8_takesE_123, sX8_takesE_40, sX8_takesE_47, sX8_takesE_119, sX8_takesE_124 (st := []), sX8_takesE_96, sX8_takesE_48, sX8_takesE_162, sX8_takesE_127, sX8_takesE_97 (st := []), sX8_takesE_51, sX8_takesE_53, sX8_takesE_163, sX8_takesE_128, sX8_takesE_100, sX8_takesE_52 (st := []), sX8_takesE_54, sX8_takesE_165 (st := []), sX8_takesE_131, sX8_takesE_103, sX8_takesE_108, sX8_takesE_55, sX8_takesE_168, sX8_takesE_132, sX8_takesE_104, sX8_takesE_109 (st := []), sX8_takesE_58, sX8_takesE_169, sX8_takesE_135, sX8_takesE_105, sX8_takesE_59, sX8_takesE_172, sX8_takesE_136, sX8_takesE_60, sX8_takesE_173, sX8_takesE_137, sX8_takesE_63, sX8_takesE_174, sX8_takesE_138, sX8_takesE_64, sX8_takesE_177, sX8_takesE_139, sX8_takesE_67, sX8_takesE_178, sX8_takesE_142, sX8_takesE_68, sX8_takesE_179, sX8_takesE_143, sX8_takesE_71, sX8_takesE_182, sX8_takesE_144, sX8_takesE_72, sX8_takesE_185, sX8_takesE_187, sX8_takesE_147, sX8_takesE_73, sX8_takesE_186 (st := []), sX8_takesE_188, sX8_takesE_148, sX8_takesE_74, sX8_takesE_190, sX8_takesE_149, sX8_takesE_75, sX8_takesE_193, sX8_takesE_195, sX8_takesE_150, sX8_takesE_78, sX8_takesE_194 (st := []), sX8_takesE_196, sX8_takesE_151, sX8_takesE_79, sX8_takesE_197, sX8_takesE_154, sX8_takesE_80, sX8_takesE_200, sX8_takesE_155, sX8_takesE_83, sX8_takesE_201, sX8_takesE_156, sX8_takesE_84, sX8_takesE_202, sX8_takesE_159, sX8_takesE_85, sX8_takesE_205, sX8_takesE_88, sX8_takesE_206, sX8_takesE_89, sX8_takesE_207, sX8_takesE_90, sX8_takesE_210, sX8_takesE_93, sX8_takesE_211, sX8_takesE_212, sX8_takesE_215, sX8_takesE_216, sX8_takesE_217, sX8_takesE_220, sX8_takesE_221, sX8_takesE_222, sX8_takesE_225, sX8_takesE_226 (st := []), sX8_takesE_229, inb, nz_3, nz_4, nz_6, nz_8, nz_10, nz_100, nz_300, pushr_s, pushr_n, rv_s, rv_n, kd_sI, kd_sR, kd_sJ, sz_sI, sz_sR, sz_sJ, aR_sI, aJ_sI, aI_sR, aI_sJ, not_false_eq_true, true_and, and_true, true_or, or_true, or_false, false_or, eq_self, ite_true, ite_false, if_true, if_false, kd_pS, sz_pS, aR_pS, mk_67 h.lay, mr_19 h.lay, mk_77 h.lay, mz_77 h.lay, mr_22 h.lay, mk_80 h.lay, mz_80 h.lay, mr_20 h.lay, mk_78 h.lay, mz_78 h.lay, w24, w25, pS_23, cc, c1, pSw_fr, MS.n_setn, MS.n_setk, MS.n_seto, MS.n_setfr, MS.k_setn, MS.k_setk, MS.k_seto, MS.k_setfr, MS.o_setn, MS.o_setk, MS.o_seto, MS.o_setfr, MS.fr_setn, MS.fr_setk, MS.fr_seto, MS.fr_setfr]
    rfl
  refine ⟨fun T hT => ?_, fun hT => ?_⟩
  · obtain ⟨a, g, W, b⟩ := ih.1 T hT
    exact ⟨a, mk ((s.setfr (upd s.fr c (nI s.n))).setto (upd s.to c (nI (s.n + T.length)))) q g [] W T, rfl, rfl, rfl, rfl, rfl, rfl, rfl, rfl, fun Q => (start Q).trans (b Q)⟩
  · obtain ⟨a, s', b1, b2, b3⟩ := ih.2 hT
    exact ⟨a, s', b1, b2, fun Q => (start Q).trans (b3 Q)⟩
theorem wd_h : ∀ i, i < 4 → letL.getD (0 + i) 0 = heedL.getD i 0 := by decide +kernel
theorem wd_d : ∀ i, i < 4 → letL.getD (4 + i) 0 = deafL.getD i 0 := by decide +kernel
theorem wd_m : ∀ i, i < 4 → letL.getD (8 + i) 0 = manyL.getD i 0 := by decide +kernel
/-- which word: 0 heed, 1 deaf, 2 many -/
def wdK (x : Int32) : Nat := if x = 104 then 0 else if x = 100 then 1 else 2
theorem m_head {d c : Nat} (hc : c < 60) (h : ReL H t) {s : MS} (hp : s.p ≤ t.1) (Q : Option Value → AH → Prop) : Wp S (d + 3) 150 0 [.ref 67, .int (nI c)] [] (pS H s) Q = Q (some (.int (bi (wdP t s.p (wdL (nx t s.p) ++ [32])).2))) (pS H ((s.setwd (upd s.wd c (nI (wdK (nx t s.p))))).setp (wdP t s.p (wdL (nx t s.p) ++ [32])).1)) := by
  have cc : (nI c).toNatClampNeg = c := nI_clamp (by omega)
  have c1 : ¬ (nI c < 0 ∨ 60 ≤ c) := inN hc (by omega)
  have n1 := fun Q => m_next (S := S) (d := d + 2) (Q := Q) (s := s) h hp
  have bo : ∀ b, (bi b = 0 ∨ bi b = 1) = True := bi01
  have wk := wd_ok (nx t s.p)
  by_cases g1 : nx t s.p = 104
  · have e1 : wdL (nx t s.p) = heedL := by unfold wdL; rw [if_pos g1]
    have e2 : wdK (nx t s.p) = 0 := by unfold wdK; rw [if_pos g1]
    rw [e1] at wk
    have hw : ∀ Q, Wp S (d + 2) 141 0 [.ref 67, .int 0, .int 4, hole] [] (pS H (s.setwd (upd s.wd c 0))) Q = Q (some (.int (bi (wdP t s.p (heedL ++ [32])).2))) (pS H ((s.setwd (upd s.wd c 0)).setp (wdP t s.p (heedL ++ [32])).1)) := fun Q => m_word (S := S) (d := d) (Q := Q) (a := 0) (s := s.setwd (upd s.wd c 0)) h (by decide) heedL rfl wd_h wk.1 hp
    rw [e1, e2]
    simp only [sX8_takesHead_0, sX8_takesHead_1 (st := []), sX8_takesHead_4, sX8_takesHead_60, sX8_takesHead_46, sX8_takesHead_32, sX8_takesHead_61, sX8_takesHead_47, sX8_takesHead_33, sX8_takesHead_64, sX8_takesHead_50, sX8_takesHead_36, sX8_takesHead_65, sX8_takesHead_51, sX8_takesHead_37, sX8_takesHead_66, sX8_takesHead_52, sX8_takesHead_38, sX8_takesHead_67, sX8_takesHead_53, sX8_takesHead_39, sX8_takesHead_68, sX8_takesHead_54, sX8_takesHead_40, sX8_takesHead_70, sX8_takesHead_55, sX8_takesHead_41, sX8_takesHead_71 (st := []), sX8_takesHead_56 (st := []), sX8_takesHead_42 (st := []), sX8_takesHead_74 (st := []), sX8_takesHead_59 (st := []), sX8_takesHead_45 (st := []), inb, nz_3, nz_4, nz_6, nz_8, nz_10, nz_100, nz_300, pushr_s, pushr_n, rv_s, rv_n, kd_sI, kd_sR, kd_sJ, sz_sI, sz_sR, sz_sJ, aR_sI, aJ_sI, aI_sR, aI_sJ, not_false_eq_true, true_and, and_true, true_or, or_true, or_false, false_or, eq_self, ite_true, ite_false, if_true, if_false, kd_pS, sz_pS, aR_pS, mk_67 h.lay, mr_17 h.lay, mk_75 h.lay, mz_75 h.lay, n1, g1, ne_104, cc, c1, pSw_wd, hw, bo]
    rfl
  · by_cases g2 : nx t s.p = 100
    · have e1 : wdL (nx t s.p) = deafL := by unfold wdL; rw [if_neg g1, if_pos g2]
      have e2 : wdK (nx t s.p) = 1 := by unfold wdK; rw [if_neg g1, if_pos g2]
      rw [e1] at wk
      have hw : ∀ Q, Wp S (d + 2) 141 0 [.ref 67, .int 4, .int 4, hole] [] (pS H (s.setwd (upd s.wd c 1))) Q = Q (some (.int (bi (wdP t s.p (deafL ++ [32])).2))) (pS H ((s.setwd (upd s.wd c 1)).setp (wdP t s.p (deafL ++ [32])).1)) := fun Q => m_word (S := S) (d := d) (Q := Q) (a := 4) (s := s.setwd (upd s.wd c 1)) h (by decide) deafL rfl wd_d wk.1 hp
      rw [e1, e2]
      simp only [sX8_takesHead_0, sX8_takesHead_1 (st := []), sX8_takesHead_4, sX8_takesHead_60, sX8_takesHead_46, sX8_takesHead_32, sX8_takesHead_61, sX8_takesHead_47, sX8_takesHead_33, sX8_takesHead_64, sX8_takesHead_50, sX8_takesHead_36, sX8_takesHead_65, sX8_takesHead_51, sX8_takesHead_37, sX8_takesHead_66, sX8_takesHead_52, sX8_takesHead_38, sX8_takesHead_67, sX8_takesHead_53, sX8_takesHead_39, sX8_takesHead_68, sX8_takesHead_54, sX8_takesHead_40, sX8_takesHead_70, sX8_takesHead_55, sX8_takesHead_41, sX8_takesHead_71 (st := []), sX8_takesHead_56 (st := []), sX8_takesHead_42 (st := []), sX8_takesHead_74 (st := []), sX8_takesHead_59 (st := []), sX8_takesHead_45 (st := []), inb, nz_3, nz_4, nz_6, nz_8, nz_10, nz_100, nz_300, pushr_s, pushr_n, rv_s, rv_n, kd_sI, kd_sR, kd_sJ, sz_sI, sz_sR, sz_sJ, aR_sI, aJ_sI, aI_sR, aI_sJ, not_false_eq_true, true_and, and_true, true_or, or_true, or_false, false_or, eq_self, ite_true, ite_false, if_true, if_false, kd_pS, sz_pS, aR_pS, mk_67 h.lay, mr_17 h.lay, mk_75 h.lay, mz_75 h.lay, n1, g2, cc, c1, pSw_wd, hw, bo]
      rfl
    · have e1 : wdL (nx t s.p) = manyL := by unfold wdL; rw [if_neg g1, if_neg g2]
      have e2 : wdK (nx t s.p) = 2 := by unfold wdK; rw [if_neg g1, if_neg g2]
      rw [e1] at wk
      have hw : ∀ Q, Wp S (d + 2) 141 0 [.ref 67, .int 8, .int 4, hole] [] (pS H (s.setwd (upd s.wd c 2))) Q = Q (some (.int (bi (wdP t s.p (manyL ++ [32])).2))) (pS H ((s.setwd (upd s.wd c 2)).setp (wdP t s.p (manyL ++ [32])).1)) := fun Q => m_word (S := S) (d := d) (Q := Q) (a := 8) (s := s.setwd (upd s.wd c 2)) h (by decide) manyL rfl wd_m wk.1 hp
      rw [e1, e2]
      simp only [sX8_takesHead_0, sX8_takesHead_1 (st := []), sX8_takesHead_4, sX8_takesHead_60, sX8_takesHead_46, sX8_takesHead_32, sX8_takesHead_61, sX8_takesHead_47, sX8_takesHead_33, sX8_takesHead_64, sX8_takesHead_50, sX8_takesHead_36, sX8_takesHead_65, sX8_takesHead_51, sX8_takesHead_37, sX8_takesHead_66, sX8_takesHead_52, sX8_takesHead_38, sX8_takesHead_67, sX8_takesHead_53, sX8_takesHead_39, sX8_takesHead_68, sX8_takesHead_54, sX8_takesHead_40, sX8_takesHead_70, sX8_takesHead_55, sX8_takesHead_41, sX8_takesHead_71 (st := []), sX8_takesHead_56 (st := []), sX8_takesHead_42 (st := []), sX8_takesHead_74 (st := []), sX8_takesHead_59 (st := []), sX8_takesHead_45 (st := []), inb, nz_3, nz_4, nz_6, nz_8, nz_10, nz_100, nz_300, pushr_s, pushr_n, rv_s, rv_n, kd_sI, kd_sR, kd_sJ, sz_sI, sz_sR, sz_sJ, aR_sI, aJ_sI, aI_sR, aI_sJ, not_false_eq_true, true_and, and_true, true_or, or_true, or_false, false_or, eq_self, ite_true, ite_false, if_true, if_false, kd_pS, sz_pS, aR_pS, mk_67 h.lay, mr_17 h.lay, mk_75 h.lay, mz_75 h.lay, n1, g1, g2, cc, c1, pSw_wd, hw, bo]
      rfl
/-- what a clause leaves of the other slots -/
def AgC (s0 : MS) (s : MS) (c : Nat) : Prop :=
  (∀ i, i ≠ c → s.wd i = s0.wd i) ∧
  (∀ i, i ≠ c → s.nu i = s0.nu i) ∧
  (∀ i, i ≠ c → s.fr i = s0.fr i) ∧
  (∀ i, i ≠ c → s.to i = s0.to i) ∧
  (s.cl = s0.cl) ∧
  (∀ i, i < s0.n → s.f i = s0.f i)
theorem AgC.wd {s0 : MS} {s : MS} {c : Nat} (h : AgC s0 s c) : ∀ i, i ≠ c → s.wd i = s0.wd i := h.1
theorem AgC.nu {s0 : MS} {s : MS} {c : Nat} (h : AgC s0 s c) : ∀ i, i ≠ c → s.nu i = s0.nu i := h.2.1
theorem AgC.fr {s0 : MS} {s : MS} {c : Nat} (h : AgC s0 s c) : ∀ i, i ≠ c → s.fr i = s0.fr i := h.2.2.1
theorem AgC.to {s0 : MS} {s : MS} {c : Nat} (h : AgC s0 s c) : ∀ i, i ≠ c → s.to i = s0.to i := h.2.2.2.1
theorem AgC.cl {s0 : MS} {s : MS} {c : Nat} (h : AgC s0 s c) : s.cl = s0.cl := h.2.2.2.2.1
theorem AgC.f {s0 : MS} {s : MS} {c : Nat} (h : AgC s0 s c) : ∀ i, i < s0.n → s.f i = s0.f i := h.2.2.2.2.2
/-- the clause in its slot -/
def ClS (s : MS) (c : Nat) (b : Nat) (q : Cla) : Prop := s.wd c = nI q.1 ∧ s.nu c = nI q.2.1 ∧ (q.1 ≤ 1 → s.fr c = nI b ∧ s.to c = nI (b + q.2.2.length) ∧ ∀ j, j < q.2.2.length → s.f (b + j) = enM (q.2.2.getD j 0))
def lnC (q : Cla) : Nat := if q.1 = 2 then 0 else q.2.2.length
theorem wd_p {t : Txt} : ∀ (l : List Int32) {p q : Nat} {b : Bool}, (∀ a ∈ l, ¬ (-1 : Int32) = a) → p ≤ t.1 → wdP t p l = (q, b) → q ≤ t.1 ∧ (b = true → q = p + l.length)
  | [], p, q, b, hl, hp, h => by cases h; exact ⟨hp, fun _ => rfl⟩
  | a :: r, p, q, b, hl, hp, h => by
    unfold wdP at h
    by_cases hx : nx t p = a
    · rw [if_pos hx] at h
      have hlt := nx_lt (t := t) (p := p) (by rw [hx]; exact fun z => hl a List.mem_cons_self z.symm)
      obtain ⟨k1, k2⟩ := wd_p r (fun b hb => hl b (List.mem_cons_of_mem _ hb)) (show p + 1 ≤ t.1 by omega) h
      exact ⟨k1, fun hb => by rw [k2 hb, List.length_cons]; omega⟩
    · rw [if_neg hx] at h
      cases h
      exact ⟨hp, fun z => by cases z⟩
theorem m_clause {d c : Nat} (hc : c < 60) (h : ReL H t) {s : MS} (hp : s.p ≤ t.1) (hn : s.n ≤ 500 + s.p) {q : Nat} {r : Option Cla} (hC : CP t s.p q r) :
    (∀ k, r = some k → q ≤ t.1 ∧ s.p + lnC k < q ∧ ∃ s', s'.p = q ∧ s'.n = s.n + lnC k ∧ AgC s s' c ∧ ClS s' c s.n k ∧ ∀ Q, Wp S (d + 5) 151 0 [.ref 67, .int (nI c)] [] (pS H s) Q = Q (some (.int 1)) (pS H s'))
    ∧ (r = none → ∃ s', s'.p = q ∧ AgC s s' c ∧ ∀ Q, Wp S (d + 5) 151 0 [.ref 67, .int (nI c)] [] (pS H s) Q = Q (some (.int 0)) (pS H s')) := by
  have hlen := h.len
  have cc : (nI c).toNatClampNeg = c := nI_clamp (by omega)
  have c1 : ¬ (nI c < 0 ∨ 60 ≤ c) := inN hc (by omega)
  have hh := fun Q => m_head (S := S) (d := d + 1) hc h hp Q
  have wk := wd_ok (nx t s.p)
  rcases hC with ⟨w1, rfl⟩ | ⟨q1, w1, hC⟩
  · rw [w1] at hh
    refine ⟨fun k z => (by cases z), fun _ => ⟨(s.setwd (upd s.wd c (nI (wdK (nx t s.p))))).setp q, rfl, ?_, fun Q => ?_⟩⟩
    rotate_left
    · simp only [sX8_takesClause_0, sX8_takesClause_1, sX8_takesClause_2 (st := []), sX8_takesClause_5, sX8_takesClause_8, sX8_takesClause_15, sX8_takesClause_9 (st := []), sX8_takesClause_16 (st := []), sX8_takesClause_12, sX8_takesClause_17, sX8_takesClause_18, sX8_takesClause_21, sX8_takesClause_22, sX8_takesClause_23, sX8_takesClause_26, sX8_takesClause_27, sX8_takesClause_28, sX8_takesClause_31, sX8_takesClause_32, sX8_takesClause_33, sX8_takesClause_34, sX8_takesClause_37, sX8_takesClause_54, sX8_takesClause_38, sX8_takesClause_55, sX8_takesClause_40 (st := []), sX8_takesClause_59 (st := []), sX8_takesClause_43, sX8_takesClause_46, sX8_takesClause_58, sX8_takesClause_47, sX8_takesClause_48 (st := []), sX8_takesClause_51, inb, nz_3, nz_4, nz_6, nz_8, nz_10, nz_100, nz_300, pushr_s, pushr_n, rv_s, rv_n, kd_sI, kd_sR, kd_sJ, sz_sI, sz_sR, sz_sJ, aR_sI, aJ_sI, aI_sR, aI_sJ, not_false_eq_true, true_and, and_true, true_or, or_true, or_false, false_or, eq_self, ite_true, ite_false, if_true, if_false, kd_pS, mk_67 h.lay, hh, bi_f]
    · exact ⟨fun i hi => pk_un hi, fun _ _ => rfl, fun _ _ => rfl, fun _ _ => rfl, rfl, fun _ _ => rfl⟩
  rw [w1] at hh
  obtain ⟨b1, b2⟩ := wd_p _ wk.1 hp w1
  have b2 := b2 rfl
  rw [wk.2] at b2
  generalize hs1 : (s.setwd (upd s.wd c (nI (wdK (nx t s.p))))).setp q1 = s1 at hh
  have s1p : s1.p = q1 := by rw [← hs1]; rfl
  have hnum := fun Q => m_number (S := S) (d := d + 2) (Q := Q) (s := s1) h (by rw [s1p]; exact b1)
  rw [s1p] at hnum
  have agc1 : AgC s s1 c := by rw [← hs1]; exact ⟨fun i hi => pk_un hi, fun _ _ => rfl, fun _ _ => rfl, fun _ _ => rfl, rfl, fun _ _ => rfl⟩
  rcases hC with ⟨n1, rfl⟩ | ⟨q2, n, n1, hC⟩
  · simp only [n1] at hnum
    have : q1 = q := by
      unfold numP at n1
      split at n1
      · exact congrArg Prod.fst n1
      · split at n1 <;> cases n1
    refine ⟨fun k z => (by cases z), fun _ => ⟨s1, s1p.trans this, agc1, fun Q => ?_⟩⟩
    simp only [sX8_takesClause_0, sX8_takesClause_1, sX8_takesClause_2 (st := []), sX8_takesClause_5, sX8_takesClause_8, sX8_takesClause_15, sX8_takesClause_9 (st := []), sX8_takesClause_16 (st := []), sX8_takesClause_12, sX8_takesClause_17, sX8_takesClause_18, sX8_takesClause_21, sX8_takesClause_22, sX8_takesClause_23, sX8_takesClause_26, sX8_takesClause_27, sX8_takesClause_28, sX8_takesClause_31, sX8_takesClause_32, sX8_takesClause_33, sX8_takesClause_34, sX8_takesClause_37, sX8_takesClause_54, sX8_takesClause_38, sX8_takesClause_55, sX8_takesClause_40 (st := []), sX8_takesClause_59 (st := []), sX8_takesClause_43, sX8_takesClause_46, sX8_takesClause_58, sX8_takesClause_47, sX8_takesClause_48 (st := []), sX8_takesClause_51, inb, nz_3, nz_4, nz_6, nz_8, nz_10, nz_100, nz_300, pushr_s, pushr_n, rv_s, rv_n, kd_sI, kd_sR, kd_sJ, sz_sI, sz_sR, sz_sJ, aR_sI, aJ_sI, aI_sR, aI_sJ, not_false_eq_true, true_and, and_true, true_or, or_true, or_false, false_or, eq_self, ite_true, ite_false, if_true, if_false, kd_pS, mk_67 h.lay, hh, bi_t, nz_1, hnum]
  obtain ⟨n99, p1, p2⟩ := numP_ok n1
  simp only [n1] at hnum
  generalize hs2 : ((s1.setp q2).setg (nI n)).setnu (upd s1.nu c (nI n)) = s2
  have w2 : sI (pS H ((s1.setp q2).setg (nI n))) 76 c (nI n) = pS H s2 := by rw [pSw_nu, ← hs2]; rfl
  have s2wd : s2.wd c = nI (wdK (nx t s.p)) := by rw [← hs2, ← hs1]; exact pk_us
  have s2p : s2.p = q2 := by rw [← hs2]; rfl
  have s2n : s2.n = s.n := by rw [← hs2, ← hs1]; rfl
  have s2nu : s2.nu c = nI n := by rw [← hs2]; exact pk_us
  have agc2 : AgC s s2 c := by rw [← hs2]; exact ⟨agc1.wd, fun i hi => (pk_un hi).trans (agc1.nu i hi), agc1.fr, agc1.to, agc1.cl, agc1.f⟩
  have eg : ((s1.setp q2).setg (nI n)).g = nI n := rfl
  rcases hC with ⟨x1, x2, rfl, rfl⟩ | ⟨hx, hC⟩
  · have e2 : wdK (nx t s.p) = 2 := by unfold wdK; rw [if_neg x1, if_neg x2]
    have t2 : (nI 2 = 2) = True := eq_true rfl
    rw [e2] at s2wd
    refine ⟨fun k z => ?_, fun z => (by cases z)⟩
    obtain rfl : (2, n, []) = k := Option.some.inj z
    refine ⟨p2, by show s.p + 0 < _; omega, s2, s2p, by rw [s2n]; rfl, agc2, ⟨s2wd, s2nu, fun z => absurd z (by show ¬ 2 ≤ 1; omega)⟩, fun Q => ?_⟩
    simp only [sX8_takesClause_0, sX8_takesClause_1, sX8_takesClause_2 (st := []), sX8_takesClause_5, sX8_takesClause_8, sX8_takesClause_15, sX8_takesClause_9 (st := []), sX8_takesClause_16 (st := []), sX8_takesClause_12, sX8_takesClause_17, sX8_takesClause_18, sX8_takesClause_21, sX8_takesClause_22, sX8_takesClause_23, sX8_takesClause_26, sX8_takesClause_27, sX8_takesClause_28, sX8_takesClause_31, sX8_takesClause_32, sX8_takesClause_33, sX8_takesClause_34, sX8_takesClause_37, sX8_takesClause_54, sX8_takesClause_38, sX8_takesClause_55, sX8_takesClause_40 (st := []), sX8_takesClause_59 (st := []), sX8_takesClause_43, sX8_takesClause_46, sX8_takesClause_58, sX8_takesClause_47, sX8_takesClause_48 (st := []), sX8_takesClause_51, inb, nz_3, nz_4, nz_6, nz_8, nz_10, nz_100, nz_300, pushr_s, pushr_n, rv_s, rv_n, kd_sI, kd_sR, kd_sJ, sz_sI, sz_sR, sz_sJ, aR_sI, aJ_sI, aI_sR, aI_sJ, not_false_eq_true, true_and, and_true, true_or, or_true, or_false, false_or, eq_self, ite_true, ite_false, if_true, if_false, kd_pS, sz_pS, aR_pS, mk_67 h.lay, mr_18 h.lay, mk_76 h.lay, mz_76 h.lay, mr_17 h.lay, mk_75 h.lay, mz_75 h.lay, hh, bi_t, nz_1, hnum, pS_14, pS_75, eg, cc, c1, w2, s2wd, t2]
  have kne : ∃ v, wdK (nx t s.p) = v ∧ v ≤ 1 ∧ v = if nx t s.p = 104 then 0 else 1 := by
    unfold wdK
    by_cases g1 : nx t s.p = 104
    · rw [if_pos g1, if_pos g1]; exact ⟨0, rfl, by omega, rfl⟩
    · rw [if_neg g1, if_neg g1, if_pos (hx.resolve_left g1)]; exact ⟨1, rfl, by omega, rfl⟩
  obtain ⟨v, v1, v2, v3⟩ := kne
  rw [v1] at s2wd
  have t2 : (nI v = 2) = False := eq_false (fun z => by have := (nI_eq (b := 2) (show v < 2 ^ 31 by omega) (by decide)).mp z; omega)
  have htk := fun Q => m_takes (S := S) (d := d + 3) (Q := Q) (s := s2) (x := 32) h (by rw [s2p]; exact p2)
  rw [s2p] at htk
  rcases hC with ⟨x32, rfl, rfl⟩ | ⟨x32, hC⟩
  · simp only [x32, if_false] at htk
    refine ⟨fun k z => (by cases z), fun _ => ⟨s2, s2p, agc2, fun Q => ?_⟩⟩
    simp only [sX8_takesClause_0, sX8_takesClause_1, sX8_takesClause_2 (st := []), sX8_takesClause_5, sX8_takesClause_8, sX8_takesClause_15, sX8_takesClause_9 (st := []), sX8_takesClause_16 (st := []), sX8_takesClause_12, sX8_takesClause_17, sX8_takesClause_18, sX8_takesClause_21, sX8_takesClause_22, sX8_takesClause_23, sX8_takesClause_26, sX8_takesClause_27, sX8_takesClause_28, sX8_takesClause_31, sX8_takesClause_32, sX8_takesClause_33, sX8_takesClause_34, sX8_takesClause_37, sX8_takesClause_54, sX8_takesClause_38, sX8_takesClause_55, sX8_takesClause_40 (st := []), sX8_takesClause_59 (st := []), sX8_takesClause_43, sX8_takesClause_46, sX8_takesClause_58, sX8_takesClause_47, sX8_takesClause_48 (st := []), sX8_takesClause_51, inb, nz_3, nz_4, nz_6, nz_8, nz_10, nz_100, nz_300, pushr_s, pushr_n, rv_s, rv_n, kd_sI, kd_sR, kd_sJ, sz_sI, sz_sR, sz_sJ, aR_sI, aJ_sI, aI_sR, aI_sJ, not_false_eq_true, true_and, and_true, true_or, or_true, or_false, false_or, eq_self, ite_true, ite_false, if_true, if_false, kd_pS, sz_pS, aR_pS, mk_67 h.lay, mr_18 h.lay, mk_76 h.lay, mz_76 h.lay, mr_17 h.lay, mk_75 h.lay, mz_75 h.lay, hh, bi_t, nz_1, hnum, pS_14, pS_75, eg, cc, c1, w2, s2wd, t2, htk]
  simp only [x32, if_true] at htk
  have hlt := nx_lt (t := t) (p := q2) (by rw [x32]; decide +kernel)
  rcases hC with ⟨hE, rfl⟩ | ⟨T, hE, rfl⟩
  · have mE := (m_E (S := S) (d := d) hc h (s := s2.setp (q2 + 1)) (show 0 < q2 + 1 by omega) (show q2 + 1 ≤ t.1 by omega) (show s2.n < 500 + (q2 + 1) by rw [s2n]; omega) hE).2 rfl
    obtain ⟨a1, s', a2, a3, a4⟩ := mE
    refine ⟨fun k z => (by cases z), fun _ => ⟨s', a2, ?_, fun Q => ?_⟩⟩
    · refine ⟨fun i hi => ?_, fun i hi => ?_, fun i hi => ?_, fun i hi => (a3.to i hi).trans (agc2.to i hi), a3.cl.trans agc2.cl, fun i hi => (a3.f i (by show i < s2.n; rw [s2n]; exact hi)).trans (agc2.f i hi)⟩
      · rw [a3.wd]; exact agc2.wd i hi
      · rw [a3.nu]; exact agc2.nu i hi
      · rw [a3.fr]; exact (pk_un hi).trans (agc2.fr i hi)
    · simp only [sX8_takesClause_0, sX8_takesClause_1, sX8_takesClause_2 (st := []), sX8_takesClause_5, sX8_takesClause_8, sX8_takesClause_15, sX8_takesClause_9 (st := []), sX8_takesClause_16 (st := []), sX8_takesClause_12, sX8_takesClause_17, sX8_takesClause_18, sX8_takesClause_21, sX8_takesClause_22, sX8_takesClause_23, sX8_takesClause_26, sX8_takesClause_27, sX8_takesClause_28, sX8_takesClause_31, sX8_takesClause_32, sX8_takesClause_33, sX8_takesClause_34, sX8_takesClause_37, sX8_takesClause_54, sX8_takesClause_38, sX8_takesClause_55, sX8_takesClause_40 (st := []), sX8_takesClause_59 (st := []), sX8_takesClause_43, sX8_takesClause_46, sX8_takesClause_58, sX8_takesClause_47, sX8_takesClause_48 (st := []), sX8_takesClause_51, inb, nz_3, nz_4, nz_6, nz_8, nz_10, nz_100, nz_300, pushr_s, pushr_n, rv_s, rv_n, kd_sI, kd_sR, kd_sJ, sz_sI, sz_sR, sz_sJ, aR_sI, aJ_sI, aI_sR, aI_sJ, not_false_eq_true, true_and, and_true, true_or, or_true, or_false, false_or, eq_self, ite_true, ite_false, if_true, if_false, kd_pS, sz_pS, aR_pS, mk_67 h.lay, mr_18 h.lay, mk_76 h.lay, mz_76 h.lay, mr_17 h.lay, mk_75 h.lay, mz_75 h.lay, hh, bi_t, nz_1, hnum, pS_14, pS_75, eg, cc, c1, w2, s2wd, t2, htk, a4]
  · have mE := (m_E (S := S) (d := d) hc h (s := s2.setp (q2 + 1)) (show 0 < q2 + 1 by omega) (show q2 + 1 ≤ t.1 by omega) (show s2.n < 500 + (q2 + 1) by rw [s2n]; omega) hE).1 T rfl
    obtain ⟨⟨a0, a1⟩, s', a2, a3, a4, a5, a6, a7, a8, a9, a10⟩ := mE
    refine ⟨fun k z => ?_, fun z => (by cases z)⟩
    obtain rfl : (if nx t s.p = 104 then 0 else 1, n, T) = k := Option.some.inj z
    rw [← v3]
    have ln : lnC (v, n, T) = T.length := if_neg (show ¬ v = 2 by omega)
    have a1 : T.length + (q2 + 1) ≤ q := a1
    have a3 : s'.n = s2.n + T.length := a3
    refine ⟨a0, by rw [ln]; omega, s', a2, by rw [a3, ln, s2n], ?_, ⟨?_, ?_, fun _ => ⟨?_, ?_, fun j hj => ?_⟩⟩, fun Q => ?_⟩
    · refine ⟨fun i hi => ?_, fun i hi => ?_, fun i hi => ?_, fun i hi => ?_, a6.trans agc2.cl, fun i hi => ?_⟩
      · rw [a4]; exact agc2.wd i hi
      · rw [a5]; exact agc2.nu i hi
      · rw [a7]; exact (pk_un hi).trans (agc2.fr i hi)
      · rw [a8]; exact (pk_un hi).trans (agc2.to i hi)
      · rw [a9]; exact (appM_lt T _ _ i (Or.inl (by show i < s2.n; rw [s2n]; exact hi))).trans (agc2.f i hi)
    · rw [a4]; exact s2wd
    · rw [a5]; exact s2nu
    · rw [a7]; exact pk_us.trans (congrArg nI s2n)
    · rw [a8]; exact pk_us.trans (congrArg (fun x => nI (x + T.length)) s2n)
    · rw [a9, ← s2n]; exact appM_at T _ _ j hj
    · simp only [sX8_takesClause_0, sX8_takesClause_1, sX8_takesClause_2 (st := []), sX8_takesClause_5, sX8_takesClause_8, sX8_takesClause_15, sX8_takesClause_9 (st := []), sX8_takesClause_16 (st := []), sX8_takesClause_12, sX8_takesClause_17, sX8_takesClause_18, sX8_takesClause_21, sX8_takesClause_22, sX8_takesClause_23, sX8_takesClause_26, sX8_takesClause_27, sX8_takesClause_28, sX8_takesClause_31, sX8_takesClause_32, sX8_takesClause_33, sX8_takesClause_34, sX8_takesClause_37, sX8_takesClause_54, sX8_takesClause_38, sX8_takesClause_55, sX8_takesClause_40 (st := []), sX8_takesClause_59 (st := []), sX8_takesClause_43, sX8_takesClause_46, sX8_takesClause_58, sX8_takesClause_47, sX8_takesClause_48 (st := []), sX8_takesClause_51, inb, nz_3, nz_4, nz_6, nz_8, nz_10, nz_100, nz_300, pushr_s, pushr_n, rv_s, rv_n, kd_sI, kd_sR, kd_sJ, sz_sI, sz_sR, sz_sJ, aR_sI, aJ_sI, aI_sR, aI_sJ, not_false_eq_true, true_and, and_true, true_or, or_true, or_false, false_or, eq_self, ite_true, ite_false, if_true, if_false, kd_pS, sz_pS, aR_pS, mk_67 h.lay, mr_18 h.lay, mk_76 h.lay, mz_76 h.lay, mr_17 h.lay, mk_75 h.lay, mz_75 h.lay, hh, bi_t, nz_1, hnum, pS_14, pS_75, eg, cc, c1, w2, s2wd, t2, htk, a10]
/-- clauses in their slots from c on -/
def ClsS (s : MS) : Nat → Nat → List Cla → Prop
  | _, _, [] => True
  | c, b, k :: L => (∃ b', b ≤ b' ∧ b' + lnC k ≤ s.n ∧ ClS s c b' k) ∧ ClsS s (c + 1) b L
theorem ClS.keep {s s' : MS} {c c2 b : Nat} {k : Cla} (h : ClS s c b k) (a : AgC s s' c2) (hc : c ≠ c2) (hn : b + lnC k ≤ s.n) : ClS s' c b k := by
  refine ⟨(a.wd c hc).trans h.1, (a.nu c hc).trans h.2.1, fun hk => ?_⟩
  obtain ⟨e1, e2, e3⟩ := h.2.2 hk
  have ln : lnC k = k.2.2.length := if_neg (by omega)
  exact ⟨(a.fr c hc).trans e1, (a.to c hc).trans e2, fun j hj => (a.f _ (by omega)).trans (e3 j hj)⟩
end READ
