-- 50: the reference's whole text, its way
/-- what the reading of slot f, from its clause m on, leaves -/
def AgS (s0 : MS) (s : MS) (f : Nat) (m : Nat) : Prop :=
  (∀ i, (i < 10 * f + m ∨ 10 * f + 10 ≤ i) → s.wd i = s0.wd i) ∧
  (∀ i, (i < 10 * f + m ∨ 10 * f + 10 ≤ i) → s.nu i = s0.nu i) ∧
  (∀ i, (i < 10 * f + m ∨ 10 * f + 10 ≤ i) → s.fr i = s0.fr i) ∧
  (∀ i, (i < 10 * f + m ∨ 10 * f + 10 ≤ i) → s.to i = s0.to i) ∧
  (∀ i, i ≠ f → s.cl i = s0.cl i) ∧
  (∀ i, i < s0.n → s.f i = s0.f i)
theorem AgS.wd {s0 : MS} {s : MS} {f : Nat} {m : Nat} (h : AgS s0 s f m) : ∀ i, (i < 10 * f + m ∨ 10 * f + 10 ≤ i) → s.wd i = s0.wd i := h.1
theorem AgS.nu {s0 : MS} {s : MS} {f : Nat} {m : Nat} (h : AgS s0 s f m) : ∀ i, (i < 10 * f + m ∨ 10 * f + 10 ≤ i) → s.nu i = s0.nu i := h.2.1
theorem AgS.fr {s0 : MS} {s : MS} {f : Nat} {m : Nat} (h : AgS s0 s f m) : ∀ i, (i < 10 * f + m ∨ 10 * f + 10 ≤ i) → s.fr i = s0.fr i := h.2.2.1
theorem AgS.to {s0 : MS} {s : MS} {f : Nat} {m : Nat} (h : AgS s0 s f m) : ∀ i, (i < 10 * f + m ∨ 10 * f + 10 ≤ i) → s.to i = s0.to i := h.2.2.2.1
theorem AgS.cl {s0 : MS} {s : MS} {f : Nat} {m : Nat} (h : AgS s0 s f m) : ∀ i, i ≠ f → s.cl i = s0.cl i := h.2.2.2.2.1
theorem AgS.f {s0 : MS} {s : MS} {f : Nat} {m : Nat} (h : AgS s0 s f m) : ∀ i, i < s0.n → s.f i = s0.f i := h.2.2.2.2.2
theorem AgC.s {s0 s : MS} {f m : Nat} (a : AgC s0 s (10 * f + m)) (hm : m < 10) : AgS s0 s f m :=
  ⟨fun i hi => a.wd i (by omega), fun i hi => a.nu i (by omega), fun i hi => a.fr i (by omega), fun i hi => a.to i (by omega), fun i _ => congrFun a.cl i, a.f⟩
theorem AgS.trans {s0 s s2 : MS} {f m : Nat} (a : AgS s0 s f m) (b : AgS s s2 f (m + 1)) (hn : s0.n ≤ s.n) : AgS s0 s2 f m :=
  ⟨fun i hi => (b.wd i (by omega)).trans (a.wd i hi), fun i hi => (b.nu i (by omega)).trans (a.nu i hi), fun i hi => (b.fr i (by omega)).trans (a.fr i hi), fun i hi => (b.to i (by omega)).trans (a.to i hi), fun i hi => (b.cl i hi).trans (a.cl i hi), fun i hi => (b.f i (by omega)).trans (a.f i hi)⟩
theorem ClS.keep2 {s s' : MS} {c f m b : Nat} {k : Cla} (h : ClS s c b k) (a : AgS s s' f m) (hc : c < 10 * f + m) (hn : b + lnC k ≤ s.n) : ClS s' c b k := by
  refine ⟨(a.wd c (Or.inl hc)).trans h.1, (a.nu c (Or.inl hc)).trans h.2.1, fun hk => ?_⟩
  obtain ⟨e1, e2, e3⟩ := h.2.2 hk
  have ln : lnC k = k.2.2.length := if_neg (by omega)
  exact ⟨(a.fr c (Or.inl hc)).trans e1, (a.to c (Or.inl hc)).trans e2, fun j hj => (a.f _ (by omega)).trans (e3 j hj)⟩
section READ
variable {S : SC} {H : AH} {t : Txt}
theorem lp_goes {d f : Nat} (hf : f < 6) (h : ReL H t) : ∀ (k m : Nat) (s : MS) (q : Nat) (r : Option (List Cla)), m + k = 10 → s.p ≤ t.1 → s.n ≤ 100 * f + s.p → 100 * f ≤ s.n → WyP t k s.p q r →
    (∀ L, r = some L → q = t.1 ∧ ∃ s', s'.p = q ∧ s'.cl f = nI (m + L.length) ∧ AgS s s' f m ∧ ClsS s' (10 * f + m) (100 * f) L ∧ s'.n ≤ 100 * f + q ∧ s.n ≤ s'.n ∧ ∀ Q, Wp S (d + 6) 152 15 [.ref 67, .int (nI f), .int (nI m)] [] (pS H s) Q = Q (some (.int 1)) (pS H s'))
    ∧ (r = none → ∃ s', s'.p = q ∧ AgS s s' f m ∧ ∀ Q, Wp S (d + 6) 152 15 [.ref 67, .int (nI f), .int (nI m)] [] (pS H s) Q = Q (some (.int 0)) (pS H s'))
  | 0, m, s, q, r, hm, hp, hn, hn0, hW => absurd hW id
  | k + 1, m, s, q, r, hm, hp, hn, hn0, hW => by
    have hlen := h.len
    have fc : (nI f).toNatClampNeg = f := nI_clamp (by omega)
    have f1 : ¬ (nI f < 0 ∨ 6 ≤ f) := inN hf (by omega)
    have e10 : (10 : Int32) * nI f = nI (10 * f) := pk_mul 10 f
    rcases hW with ⟨hC, rfl⟩ | ⟨p', cl, hC, hW⟩
    · obtain ⟨s', a1, a2, a3⟩ := (m_clause (S := S) (d := d) (c := 10 * f + m) (by omega) h hp (by omega) hC).2 rfl
      refine ⟨fun L z => (by cases z), fun _ => ⟨s', a1, a2.s (by omega), fun Q => ?_⟩⟩
      rw [sX8_goesText_15]
      simp only [sX8_goesText_0, sX8_goesText_1, sX8_goesText_2, sX8_goesText_5, sX8_goesText_6, sX8_goesText_8, sX8_goesText_9, sX8_goesText_10, sX8_goesText_13, sX8_goesText_14, sX8_goesText_16, sX8_goesText_18, sX8_goesText_19, sX8_goesText_20, sX8_goesText_21, sX8_goesText_22 (st := []), sX8_goesText_25, sX8_goesText_28, sX8_goesText_30, sX8_goesText_29 (st := []), sX8_goesText_33, sX8_goesText_34, sX8_goesText_37, sX8_goesText_38, sX8_goesText_39, sX8_goesText_40, sX8_goesText_41, sX8_goesText_44, sX8_goesText_45, sX8_goesText_48, sX8_goesText_51, sX8_goesText_53, sX8_goesText_52 (st := []), sX8_goesText_54, sX8_goesText_56, sX8_goesText_59, sX8_goesText_68, sX8_goesText_60, sX8_goesText_69 (st := []), sX8_goesText_62 (st := []), sX8_goesText_65, inb, nz_3, nz_4, nz_6, nz_8, nz_10, nz_100, nz_300, pushr_s, pushr_n, rv_s, rv_n, kd_sI, kd_sR, kd_sJ, sz_sI, sz_sR, sz_sJ, aR_sI, aJ_sI, aI_sR, aI_sJ, not_false_eq_true, true_and, and_true, true_or, or_true, or_false, false_or, eq_self, ite_true, ite_false, if_true, if_false, kd_pS, mk_67 h.lay, e10, nI_add, a3]
    · obtain ⟨a0, a1, s1, a2, a3, a4, a5, a6⟩ := (m_clause (S := S) (d := d) (c := 10 * f + m) (by omega) h hp (by omega) hC).1 cl rfl
      generalize hs2 : s1.setcl (upd s1.cl f (nI (m + 1))) = s2
      have w2 : sI (pS H s1) 74 f (nI (m + 1)) = pS H s2 := by rw [pSw_cl, ← hs2]
      have s2p : s2.p = p' := by rw [← hs2]; exact a2
      have s2n : s2.n = s1.n := by rw [← hs2]; rfl
      have s2c : s2.cl f = nI (m + 1) := by rw [← hs2]; exact pk_us
      have ag : AgS s s2 f m := by
        have := a4.s (f := f) (m := m) (by omega)
        rw [← hs2]
        exact ⟨this.wd, this.nu, this.fr, this.to, fun i hi => (pk_un hi).trans (this.cl i hi), this.f⟩
      have cs : ClS s2 (10 * f + m) s.n cl := by rw [← hs2]; exact a5
      rcases hW with ⟨e, rfl, rfl⟩ | ⟨e, g, rfl, rfl⟩ | ⟨e, g1, g2, hW⟩
      · refine ⟨fun L z => ?_, fun z => (by cases z)⟩
        obtain rfl : [cl] = L := Option.some.inj z
        refine ⟨e, s2, s2p, s2c, ag, ⟨⟨s.n, hn0, by rw [s2n, a3]; exact Nat.le_refl _, cs⟩, trivial⟩, by rw [s2n, a3]; omega, by rw [s2n, a3]; omega, fun Q => ?_⟩
        have g' : (nI q = nI t.1) = True := eq_true (by rw [e])
        rw [sX8_goesText_15]
        simp only [sX8_goesText_0, sX8_goesText_1, sX8_goesText_2, sX8_goesText_5, sX8_goesText_6, sX8_goesText_8, sX8_goesText_9, sX8_goesText_10, sX8_goesText_13, sX8_goesText_14, sX8_goesText_16, sX8_goesText_18, sX8_goesText_19, sX8_goesText_20, sX8_goesText_21, sX8_goesText_22 (st := []), sX8_goesText_25, sX8_goesText_28, sX8_goesText_30, sX8_goesText_29 (st := []), sX8_goesText_33, sX8_goesText_34, sX8_goesText_37, sX8_goesText_38, sX8_goesText_39, sX8_goesText_40, sX8_goesText_41, sX8_goesText_44, sX8_goesText_45, sX8_goesText_48, sX8_goesText_51, sX8_goesText_53, sX8_goesText_52 (st := []), sX8_goesText_54, sX8_goesText_56, sX8_goesText_59, sX8_goesText_68, sX8_goesText_60, sX8_goesText_69 (st := []), sX8_goesText_62 (st := []), sX8_goesText_65, inb, nz_3, nz_4, nz_6, nz_8, nz_10, nz_100, nz_300, pushr_s, pushr_n, rv_s, rv_n, kd_sI, kd_sR, kd_sJ, sz_sI, sz_sR, sz_sJ, aR_sI, aJ_sI, aI_sR, aI_sJ, not_false_eq_true, true_and, and_true, true_or, or_true, or_false, false_or, eq_self, ite_true, ite_false, if_true, if_false, kd_pS, sz_pS, aR_pS, mk_67 h.lay, mr_16 h.lay, mk_74 h.lay, mz_74 h.lay, e10, nI_add, nI_1, a6, nz_1, fc, f1, w2, pS_12, pS_13, s2p, h.n0, g']
      · refine ⟨fun L z => (by cases z), fun _ => ?_⟩
        have g' : (nI q = nI t.1) = False := eq_false (fun z => e ((nI_eq (by omega) (by omega)).mp z))
        rcases g with g | g
        · subst g
          have m9 : m = 9 := by omega
          subst m9
          have t10 : (nI (9 + 1) = 10) = True := eq_true rfl
          refine ⟨s2, s2p, ag, fun Q => ?_⟩
          rw [sX8_goesText_15]
          simp only [sX8_goesText_0, sX8_goesText_1, sX8_goesText_2, sX8_goesText_5, sX8_goesText_6, sX8_goesText_8, sX8_goesText_9, sX8_goesText_10, sX8_goesText_13, sX8_goesText_14, sX8_goesText_16, sX8_goesText_18, sX8_goesText_19, sX8_goesText_20, sX8_goesText_21, sX8_goesText_22 (st := []), sX8_goesText_25, sX8_goesText_28, sX8_goesText_30, sX8_goesText_29 (st := []), sX8_goesText_33, sX8_goesText_34, sX8_goesText_37, sX8_goesText_38, sX8_goesText_39, sX8_goesText_40, sX8_goesText_41, sX8_goesText_44, sX8_goesText_45, sX8_goesText_48, sX8_goesText_51, sX8_goesText_53, sX8_goesText_52 (st := []), sX8_goesText_54, sX8_goesText_56, sX8_goesText_59, sX8_goesText_68, sX8_goesText_60, sX8_goesText_69 (st := []), sX8_goesText_62 (st := []), sX8_goesText_65, inb, nz_3, nz_4, nz_6, nz_8, nz_10, nz_100, nz_300, pushr_s, pushr_n, rv_s, rv_n, kd_sI, kd_sR, kd_sJ, sz_sI, sz_sR, sz_sJ, aR_sI, aJ_sI, aI_sR, aI_sJ, not_false_eq_true, true_and, and_true, true_or, or_true, or_false, false_or, eq_self, ite_true, ite_false, if_true, if_false, kd_pS, sz_pS, aR_pS, mk_67 h.lay, mr_16 h.lay, mk_74 h.lay, mz_74 h.lay, e10, nI_add, nI_1, a6, nz_1, fc, f1, w2, pS_12, pS_13, s2p, h.n0, g', t10]
        · by_cases k0 : m + 1 = 10
          · have t10 : (nI (m + 1) = 10) = True := eq_true (by rw [k0]; rfl)
            refine ⟨s2, s2p, ag, fun Q => ?_⟩
            rw [sX8_goesText_15]
            simp only [sX8_goesText_0, sX8_goesText_1, sX8_goesText_2, sX8_goesText_5, sX8_goesText_6, sX8_goesText_8, sX8_goesText_9, sX8_goesText_10, sX8_goesText_13, sX8_goesText_14, sX8_goesText_16, sX8_goesText_18, sX8_goesText_19, sX8_goesText_20, sX8_goesText_21, sX8_goesText_22 (st := []), sX8_goesText_25, sX8_goesText_28, sX8_goesText_30, sX8_goesText_29 (st := []), sX8_goesText_33, sX8_goesText_34, sX8_goesText_37, sX8_goesText_38, sX8_goesText_39, sX8_goesText_40, sX8_goesText_41, sX8_goesText_44, sX8_goesText_45, sX8_goesText_48, sX8_goesText_51, sX8_goesText_53, sX8_goesText_52 (st := []), sX8_goesText_54, sX8_goesText_56, sX8_goesText_59, sX8_goesText_68, sX8_goesText_60, sX8_goesText_69 (st := []), sX8_goesText_62 (st := []), sX8_goesText_65, inb, nz_3, nz_4, nz_6, nz_8, nz_10, nz_100, nz_300, pushr_s, pushr_n, rv_s, rv_n, kd_sI, kd_sR, kd_sJ, sz_sI, sz_sR, sz_sJ, aR_sI, aJ_sI, aI_sR, aI_sJ, not_false_eq_true, true_and, and_true, true_or, or_true, or_false, false_or, eq_self, ite_true, ite_false, if_true, if_false, kd_pS, sz_pS, aR_pS, mk_67 h.lay, mr_16 h.lay, mk_74 h.lay, mz_74 h.lay, e10, nI_add, nI_1, a6, nz_1, fc, f1, w2, pS_12, pS_13, s2p, h.n0, g', t10]
          · have t10 : (nI (m + 1) = 10) = False := eq_false (fun z => k0 ((nI_eq (b := 10) (by omega) (by decide)).mp z))
            have htk := fun Q => m_takes (S := S) (d := d + 4) (Q := Q) (s := s2) (x := 59) h (by rw [s2p]; exact a0)
            rw [s2p] at htk
            simp only [g, if_false] at htk
            refine ⟨s2, s2p, ag, fun Q => ?_⟩
            rw [sX8_goesText_15]
            simp only [sX8_goesText_0, sX8_goesText_1, sX8_goesText_2, sX8_goesText_5, sX8_goesText_6, sX8_goesText_8, sX8_goesText_9, sX8_goesText_10, sX8_goesText_13, sX8_goesText_14, sX8_goesText_16, sX8_goesText_18, sX8_goesText_19, sX8_goesText_20, sX8_goesText_21, sX8_goesText_22 (st := []), sX8_goesText_25, sX8_goesText_28, sX8_goesText_30, sX8_goesText_29 (st := []), sX8_goesText_33, sX8_goesText_34, sX8_goesText_37, sX8_goesText_38, sX8_goesText_39, sX8_goesText_40, sX8_goesText_41, sX8_goesText_44, sX8_goesText_45, sX8_goesText_48, sX8_goesText_51, sX8_goesText_53, sX8_goesText_52 (st := []), sX8_goesText_54, sX8_goesText_56, sX8_goesText_59, sX8_goesText_68, sX8_goesText_60, sX8_goesText_69 (st := []), sX8_goesText_62 (st := []), sX8_goesText_65, inb, nz_3, nz_4, nz_6, nz_8, nz_10, nz_100, nz_300, pushr_s, pushr_n, rv_s, rv_n, kd_sI, kd_sR, kd_sJ, sz_sI, sz_sR, sz_sJ, aR_sI, aJ_sI, aI_sR, aI_sJ, not_false_eq_true, true_and, and_true, true_or, or_true, or_false, false_or, eq_self, ite_true, ite_false, if_true, if_false, kd_pS, sz_pS, aR_pS, mk_67 h.lay, mr_16 h.lay, mk_74 h.lay, mz_74 h.lay, e10, nI_add, nI_1, a6, nz_1, fc, f1, w2, pS_12, pS_13, s2p, h.n0, g', t10, htk]
      · have g' : (nI p' = nI t.1) = False := eq_false (fun z => e ((nI_eq (by omega) (by omega)).mp z))
        have t10 : (nI (m + 1) = 10) = False := eq_false (fun z => by have := (nI_eq (b := 10) (show m + 1 < 2 ^ 31 by omega) (by decide)).mp z; omega)
        have htk := fun Q => m_takes (S := S) (d := d + 4) (Q := Q) (s := s2) (x := 59) h (by rw [s2p]; exact a0)
        rw [s2p] at htk
        simp only [g2, if_true] at htk
        have hlt := nx_lt (t := t) (p := p') (by rw [g2]; decide +kernel)
        have step : ∀ Q, Wp S (d + 6) 152 15 [.ref 67, .int (nI f), .int (nI m)] [] (pS H s) Q = Wp S (d + 6) 152 15 [.ref 67, .int (nI f), .int (nI (m + 1))] [] (pS H (s2.setp (p' + 1))) Q := fun Q => by
          rw [sX8_goesText_15]
          simp only [sX8_goesText_0, sX8_goesText_1, sX8_goesText_2, sX8_goesText_5, sX8_goesText_6, sX8_goesText_8, sX8_goesText_9, sX8_goesText_10, sX8_goesText_13, sX8_goesText_14, sX8_goesText_16, sX8_goesText_18, sX8_goesText_19, sX8_goesText_20, sX8_goesText_21, sX8_goesText_22 (st := []), sX8_goesText_25, sX8_goesText_28, sX8_goesText_30, sX8_goesText_29 (st := []), sX8_goesText_33, sX8_goesText_34, sX8_goesText_37, sX8_goesText_38, sX8_goesText_39, sX8_goesText_40, sX8_goesText_41, sX8_goesText_44, sX8_goesText_45, sX8_goesText_48, sX8_goesText_51, sX8_goesText_53, sX8_goesText_52 (st := []), sX8_goesText_54, sX8_goesText_56, sX8_goesText_59, sX8_goesText_68, sX8_goesText_60, sX8_goesText_69 (st := []), sX8_goesText_62 (st := []), sX8_goesText_65, inb, nz_3, nz_4, nz_6, nz_8, nz_10, nz_100, nz_300, pushr_s, pushr_n, rv_s, rv_n, kd_sI, kd_sR, kd_sJ, sz_sI, sz_sR, sz_sJ, aR_sI, aJ_sI, aI_sR, aI_sJ, not_false_eq_true, true_and, and_true, true_or, or_true, or_false, false_or, eq_self, ite_true, ite_false, if_true, if_false, kd_pS, sz_pS, aR_pS, mk_67 h.lay, mr_16 h.lay, mk_74 h.lay, mz_74 h.lay, e10, nI_add, nI_1, a6, nz_1, fc, f1, w2, pS_12, pS_13, s2p, h.n0, g', t10, htk]
        have ag2 : AgS s (s2.setp (p' + 1)) f m := ag
        have n2 : (s2.setp (p' + 1)).n = s.n + lnC cl := by show s2.n = _; rw [s2n, a3]
        have hW2 : WyP t k (s2.setp (p' + 1)).p q none ∨ ∃ L, WyP t k (s2.setp (p' + 1)).p q (some L) := hW.imp (fun z => z.1) (fun ⟨L, z, _⟩ => ⟨L, z⟩)
        rcases hW with ⟨hW, rfl⟩ | ⟨L, hW, rfl⟩
        · have ih := lp_goes (d := d) hf h k (m + 1) (s2.setp (p' + 1)) q none (by omega) hlt (by rw [n2]; show _ ≤ 100 * f + (p' + 1); omega) (by rw [n2]; omega) hW
          obtain ⟨s', b1, b2, b3⟩ := ih.2 rfl
          exact ⟨fun L z => (by cases z), fun _ => ⟨s', b1, ag2.trans b2 (by rw [n2]; omega), fun Q => (step Q).trans (b3 Q)⟩⟩
        · have ih := lp_goes (d := d) hf h k (m + 1) (s2.setp (p' + 1)) q (some L) (by omega) hlt (by rw [n2]; show _ ≤ 100 * f + (p' + 1); omega) (by rw [n2]; omega) hW
          obtain ⟨b0, s', b1, b2, b3, b4, b5, b6, b7⟩ := ih.1 L rfl
          refine ⟨fun L' z => ?_, fun z => (by cases z)⟩
          obtain rfl : cl :: L = L' := Option.some.inj z
          have cs2 : ClS (s2.setp (p' + 1)) (10 * f + m) s.n cl := cs
          refine ⟨b0, s', b1, by rw [b2]; refine congrArg nI ?_; show m + 1 + L.length = m + (L.length + 1); omega, ag2.trans b3 (by rw [n2]; omega), ⟨⟨s.n, hn0, by rw [← n2]; exact b6, cs2.keep2 b3 (by omega) (by rw [n2]; exact Nat.le_refl _)⟩, b4⟩, b5, Nat.le_trans (by rw [n2]; omega) b6, fun Q => (step Q).trans (b7 Q)⟩
/-- the cells ahead of a reading, as a state -/
def ms0 (H : AH) (f k o : Nat) : MS := (0, aI H 67 14, 100 * f, k, o, aI H 80, aI H 79, aI H 75, aI H 76, aI H 77, aI H 78, aI H 74)
theorem pS_start {f k o : Nat} (hk : aI H 67 24 = nI k) (ho : aI H 67 25 = nI o) : sI (sI H 67 13 0) 67 23 (nI (100 * f)) = pS H (ms0 H f k o) := by
  show (H.1, (fun a b => aI (sI (sI H 67 13 0) 67 23 (nI (100 * f))) a b), H.2.2.1, H.2.2.2) = (H.1, (fun a b => aI (pS H (ms0 H f k o)) a b), H.2.2.1, H.2.2.2)
  refine congrArg (fun f => (H.1, f, H.2.2.1, H.2.2.2)) (funext fun a => funext fun b => ?_)
  rw [aI_pS, gI, gI]
  by_cases ha : a = 67
  · subst ha
    rw [if_pos rfl]
    by_cases h1 : b = 13
    · subst h1; rfl
    · by_cases h3 : b = 23
      · subst h3; rfl
      · rw [if_neg (fun z => h3 z.2), if_neg (fun z => h1 z.2), if_neg h1]
        by_cases h2 : b = 14
        · subst h2; rfl
        · rw [if_neg h2, if_neg h3]
          by_cases h4 : b = 24
          · subst h4; exact hk
          · rw [if_neg h4]
            by_cases h5 : b = 25
            · subst h5; exact ho
            · rw [if_neg h5]
  · rw [if_neg (fun z => ha z.1), if_neg (fun z => ha z.1), if_neg ha]
    by_cases c1 : a = 74
    · subst c1; rfl
    · rw [if_neg c1]
      by_cases c2 : a = 75
      · subst c2; rfl
      · rw [if_neg c2]
        by_cases c3 : a = 76
        · subst c3; rfl
        · rw [if_neg c3]
          by_cases c4 : a = 77
          · subst c4; rfl
          · rw [if_neg c4]
            by_cases c5 : a = 78
            · subst c5; rfl
            · rw [if_neg c5]
              by_cases c6 : a = 79
              · subst c6; rfl
              · rw [if_neg c6]
                by_cases c7 : a = 80
                · subst c7; rfl
                · rw [if_neg c7]
theorem m_goes {d f k o : Nat} (hf : f < 6) (h : ReL H t) (hk : aI H 67 24 = nI k) (ho : aI H 67 25 = nI o) {q : Nat} {r : Option (List Cla)} (hW : WyP t 10 0 q r) :
    (∀ L, r = some L → q = t.1 ∧ ∃ s', s'.p = q ∧ s'.cl f = nI L.length ∧ AgS (ms0 H f k o) s' f 0 ∧ ClsS s' (10 * f) (100 * f) L ∧ s'.n ≤ 100 * f + q ∧ ∀ Q, Wp S (d + 6) 152 0 [.ref 67, .int (nI f), hole] [] H Q = Q (some (.int 1)) (pS H s'))
    ∧ (r = none → ∃ s', s'.p = q ∧ AgS (ms0 H f k o) s' f 0 ∧ ∀ Q, Wp S (d + 6) 152 0 [.ref 67, .int (nI f), hole] [] H Q = Q (some (.int 0)) (pS H s')) := by
  have ih := lp_goes (S := S) (d := d) hf h 10 0 (ms0 H f k o) q r (by omega) (Nat.zero_le _) (Nat.le_refl _) (Nat.le_refl _) hW
  have st : ∀ Q, Wp S (d + 6) 152 0 [.ref 67, .int (nI f), hole] [] H Q = Wp S (d + 6) 152 15 [.ref 67, .int (nI f), .int (nI 0)] [] (pS H (ms0 H f k o)) Q := fun Q => by
    rw [← pS_start (f := f) hk ho, nI_0]
    simp only [sX8_goesText_0, sX8_goesText_1, sX8_goesText_2, sX8_goesText_5, sX8_goesText_6, sX8_goesText_8, sX8_goesText_9, sX8_goesText_10, sX8_goesText_13, sX8_goesText_14, sX8_goesText_16, sX8_goesText_18, sX8_goesText_19, sX8_goesText_20, sX8_goesText_21, sX8_goesText_22 (st := []), sX8_goesText_25, sX8_goesText_28, sX8_goesText_30, sX8_goesText_29 (st := []), sX8_goesText_33, sX8_goesText_34, sX8_goesText_37, sX8_goesText_38, sX8_goesText_39, sX8_goesText_40, sX8_goesText_41, sX8_goesText_44, sX8_goesText_45, sX8_goesText_48, sX8_goesText_51, sX8_goesText_53, sX8_goesText_52 (st := []), sX8_goesText_54, sX8_goesText_56, sX8_goesText_59, sX8_goesText_68, sX8_goesText_60, sX8_goesText_69 (st := []), sX8_goesText_62 (st := []), sX8_goesText_65, inb, nz_3, nz_4, nz_6, nz_8, nz_10, nz_100, nz_300, pushr_s, pushr_n, rv_s, rv_n, kd_sI, kd_sR, kd_sJ, sz_sI, sz_sR, sz_sJ, aR_sI, aJ_sI, aI_sR, aI_sJ, not_false_eq_true, true_and, and_true, true_or, or_true, or_false, false_or, eq_self, ite_true, ite_false, if_true, if_false, mk_67 h.lay, n100]
  refine ⟨fun L hL => ?_, fun hL => ?_⟩
  · obtain ⟨b0, s', b1, b2, b3, b4, b5, b6, b7⟩ := ih.1 L hL
    exact ⟨b0, s', b1, by rw [b2, Nat.zero_add], b3, b4, b5, fun Q => (st Q).trans (b7 Q)⟩
  · obtain ⟨s', b1, b2, b3⟩ := ih.2 hL
    exact ⟨s', b1, b2, fun Q => (st Q).trans (b3 Q)⟩
end READ
