-- 44: the component's reader: tests, E, clauses, the whole text
section RDR
variable {S : SC} {H : AH} {t : Txt}
theorem ok_num {s : RD} (k : okR t s) : okR t (numR t s).2 := by
  have k2 := ok_one dg_m1 k
  unfold numR
  generalize oneR t dgL s = u at k2 ⊢
  cases g : dig (nxR t u.2) with
  | none => exact k2
  | some b =>
    refine ⟨?_, k2.2⟩
    show u.2.p + 1 ≤ t.1
    have g2 := (dig_ok g).2.1
    unfold nxR at g2
    cases hw : u.2.w
    · rw [hw, if_neg (by decide)] at g2
      have := nx_lt g2
      omega
    · rw [hw, if_pos rfl] at g2
      exact absurd rfl g2
theorem ok_test {s : RD} (k : okR t s) : okR t (testR t s) := ok_add (ok_num (ok_one rl_m1 (ok_one lk_m1 k)))
theorem ok_bothL {F : RD → RD} (hF : ∀ s, okR t s → okR t (F s)) : ∀ (n : Nat) {s : RD}, okR t s → okR t (bothL t F n s)
  | 0, _, k => k
  | n + 1, s, k => by
    unfold bothL
    split
    · exact ok_bothL hF n (ok_add (hF _ (ok_sign (by decide +kernel) k)))
    · exact k
theorem ok_both {F : RD → RD} (hF : ∀ s, okR t s → okR t (F s)) (s : RD) (k : okR t s) : okR t (bothG t F s) := ok_bothL hF 100 (hF s k)
theorem ok_eitherL {F : RD → RD} (hF : ∀ s, okR t s → okR t (F s)) : ∀ (n : Nat) {s : RD}, okR t s → okR t (eitherL t F n s)
  | 0, _, k => k
  | n + 1, s, k => by
    unfold eitherL
    split
    · exact ok_eitherL hF n (ok_add (ok_both hF _ (ok_sign (by decide +kernel) k)))
    · exact k
theorem ok_either {F : RD → RD} (hF : ∀ s, okR t s → okR t (F s)) (s : RD) (k : okR t s) : okR t (eitherG t F s) := ok_eitherL hF 100 (ok_both hF s k)
theorem ok_part : ∀ (n : Nat) (s : RD), okR t s → okR t (partR t n s)
  | 0, s, k => by
    unfold partR
    split
    · exact k
    · split
      · exact k
      · exact ok_test k
  | n + 1, s, k => by
    unfold partR
    split
    · exact ok_add (ok_part n _ (ok_sign (by decide +kernel) k))
    · split
      · exact ok_sign (by decide +kernel) (ok_either (ok_part n) _ (ok_sign (by decide +kernel) k))
      · exact ok_test k
theorem w_test {d : Nat} {Q : Option Value → AH → Prop} {s : RD} (h : RdL H t) (k : okR t s) : Wp S (d + 6) 63 0 [.ref 46, hole, hole, hole] [] (rS H s) Q = Q none (rS H (testR t s)) := by
  have k1 := ok_one lk_m1 k
  have k2 := ok_one rl_m1 k1
  have k3 := ok_num k2
  have h1 := fun Q => w_one (S := S) (d := d + 1) (Q := Q) (j := 6) ⟨by decide, by decide⟩ h k
  have h2 := fun Q => w_one (S := S) (d := d + 1) (Q := Q) (j := 7) ⟨by decide, by decide⟩ h k1
  have h3 := fun Q => w_num (S := S) (d := d) (Q := Q) h k2
  have h4 := fun Q => w_add (S := S) (d := d + 4) (Q := Q) (a := (oneR t lkL s).1) (b := (oneR t rlL (oneR t lkL s).2).1) (n := (numR t (oneR t rlL (oneR t lkL s).2).2).1) h k3
  rw [strO_6] at h1
  rw [strO_7] at h2
  unfold testR
  simp only [sX6_readTest_0, sX6_readTest_1, sX6_readTest_3 (st := []), sX6_readTest_6, sX6_readTest_7, sX6_readTest_8, sX6_readTest_10 (st := []), sX6_readTest_13, sX6_readTest_14, sX6_readTest_15 (st := []), sX6_readTest_18, sX6_readTest_19, sX6_readTest_20, sX6_readTest_21, sX6_readTest_22, sX6_readTest_23 (st := []), sX6_readTest_26 (st := []), inb, nz_3, nz_4, nz_6, nz_8, nz_10, nz_100, nz_300, pushr_s, pushr_n, rv_s, rv_n, kd_sI, kd_sR, kd_sJ, sz_sI, sz_sR, sz_sJ, aR_sI, aJ_sI, aI_sR, aI_sJ, not_false_eq_true, true_and, and_true, true_or, or_true, or_false, false_or, eq_self, ite_true, ite_false, if_true, if_false, kd_rS, h.k46, h1, h2, h3, h4]
def PW (S : SC) (H : AH) (t : Txt) (k : Nat) (F : RD → RD) : Prop := ∀ (e : Nat) (s : RD) (Q : Option Value → AH → Prop), 7 + 4 * k ≤ e → okR t s → Wp S e 60 0 [.ref 46, .int (nI (4 - k)), hole] [] (rS H s) Q = Q none (rS H (F s))
theorem lp_both {k : Nat} {F : RD → RD} (h : RdL H t) (hF : PW S H t k F) (ok : ∀ s, okR t s → okR t (F s)) {d : Nat} (hd : 7 + 4 * k ≤ d) : ∀ (c i : Nat) (s : RD) (Q : Option Value → AH → Prop), i + c = 100 → okR t s → Wp S (d + 1) 59 7 [.ref 46, .int (nI (4 - k)), .int (nI i)] [] (rS H s) Q = Q none (rS H (bothL t F c s))
  | 0, i, s, Q, hc, ks => by
    have e : 100 ≤ nI i := nI_le (a := 100) (by omega) (by omega)
    rw [sX6_readBoth_7]
    simp only [sX6_readBoth_0, sX6_readBoth_1, sX6_readBoth_2 (st := []), sX6_readBoth_5, sX6_readBoth_6, sX6_readBoth_8, sX6_readBoth_10, sX6_readBoth_13, sX6_readBoth_47 (st := []), sX6_readBoth_14 (st := []), sX6_readBoth_17, sX6_readBoth_19, sX6_readBoth_22, sX6_readBoth_23, sX6_readBoth_25 (st := []), sX6_readBoth_28, sX6_readBoth_29, sX6_readBoth_30 (st := []), sX6_readBoth_33, sX6_readBoth_34, sX6_readBoth_36, sX6_readBoth_37, sX6_readBoth_38 (st := []), sX6_readBoth_41, sX6_readBoth_44, inb, nz_3, nz_4, nz_6, nz_8, nz_10, nz_100, nz_300, pushr_s, pushr_n, rv_s, rv_n, kd_sI, kd_sR, kd_sJ, sz_sI, sz_sR, sz_sJ, aR_sI, aJ_sI, aI_sR, aI_sJ, not_false_eq_true, true_and, and_true, true_or, or_true, or_false, false_or, eq_self, ite_true, ite_false, if_true, if_false, e]
    rfl
  | c + 1, i, s, Q, hc, ks => by
    obtain ⟨d', rfl⟩ : ∃ d', d = d' + 7 := ⟨d - 7, by omega⟩
    have e : ¬ 100 ≤ nI i := nI_ge (b := 100) (by omega) (by omega)
    have hn := fun Q => w_next (S := S) (d := d' + 7) (Q := Q) h ks
    have k1 := ok_sign (t := t) (x := 38) (by decide +kernel) ks
    have k2 := ok _ k1
    have h1 := fun Q => w_sign (S := S) (d := d' + 6) (Q := Q) (x := 38) h ks
    have h2 := fun Q => hF (d' + 7) (signR t 38 s) Q hd k1
    have h3 := fun Q => w_add (S := S) (d := d' + 6) (Q := Q) (a := 6) (b := 0) (n := 0) h k2
    have ih := fun Q => lp_both h hF ok hd c (i + 1) _ Q (by omega) (ok_add (x := 1800) k2)
    rw [sX6_readBoth_7, bothL]
    by_cases g : nxR t s = 38
    · rw [if_pos g]
      have h3' : ∀ Q, Wp S (d' + 7) 69 0 [.ref 46, .int 6, .int 0, .int 0] [] (rS H (F (signR t 38 s))) Q = Q none (rS H (addR 1800 (F (signR t 38 s)))) := h3
      simp only [sX6_readBoth_0, sX6_readBoth_1, sX6_readBoth_2 (st := []), sX6_readBoth_5, sX6_readBoth_6, sX6_readBoth_8, sX6_readBoth_10, sX6_readBoth_13, sX6_readBoth_47 (st := []), sX6_readBoth_14 (st := []), sX6_readBoth_17, sX6_readBoth_19, sX6_readBoth_22, sX6_readBoth_23, sX6_readBoth_25 (st := []), sX6_readBoth_28, sX6_readBoth_29, sX6_readBoth_30 (st := []), sX6_readBoth_33, sX6_readBoth_34, sX6_readBoth_36, sX6_readBoth_37, sX6_readBoth_38 (st := []), sX6_readBoth_41, sX6_readBoth_44, inb, nz_3, nz_4, nz_6, nz_8, nz_10, nz_100, nz_300, pushr_s, pushr_n, rv_s, rv_n, kd_sI, kd_sR, kd_sJ, sz_sI, sz_sR, sz_sJ, aR_sI, aJ_sI, aI_sR, aI_sJ, not_false_eq_true, true_and, and_true, true_or, or_true, or_false, false_or, eq_self, ite_true, ite_false, if_true, if_false, e, kd_rS, h.k46, hn, g, h1, h2, h3', nI_1, ih]
    · rw [if_neg g]
      simp only [sX6_readBoth_0, sX6_readBoth_1, sX6_readBoth_2 (st := []), sX6_readBoth_5, sX6_readBoth_6, sX6_readBoth_8, sX6_readBoth_10, sX6_readBoth_13, sX6_readBoth_47 (st := []), sX6_readBoth_14 (st := []), sX6_readBoth_17, sX6_readBoth_19, sX6_readBoth_22, sX6_readBoth_23, sX6_readBoth_25 (st := []), sX6_readBoth_28, sX6_readBoth_29, sX6_readBoth_30 (st := []), sX6_readBoth_33, sX6_readBoth_34, sX6_readBoth_36, sX6_readBoth_37, sX6_readBoth_38 (st := []), sX6_readBoth_41, sX6_readBoth_44, inb, nz_3, nz_4, nz_6, nz_8, nz_10, nz_100, nz_300, pushr_s, pushr_n, rv_s, rv_n, kd_sI, kd_sR, kd_sJ, sz_sI, sz_sR, sz_sJ, aR_sI, aJ_sI, aI_sR, aI_sJ, not_false_eq_true, true_and, and_true, true_or, or_true, or_false, false_or, eq_self, ite_true, ite_false, if_true, if_false, e, kd_rS, h.k46, hn, g]
theorem w_both {k : Nat} {F : RD → RD} (h : RdL H t) (hF : PW S H t k F) (ok : ∀ s, okR t s → okR t (F s)) {d : Nat} (hd : 7 + 4 * k ≤ d) (s : RD) (Q : Option Value → AH → Prop) (ks : okR t s) : Wp S (d + 1) 59 0 [.ref 46, .int (nI (4 - k)), hole] [] (rS H s) Q = Q none (rS H (bothG t F s)) := by
  have ih := lp_both h hF ok hd 100 0 (F s) Q (by omega) (ok s ks)
  have h2 := fun Q => hF d s Q hd ks
  rw [nI_0] at ih
  simp only [sX6_readBoth_0, sX6_readBoth_1, sX6_readBoth_2 (st := []), sX6_readBoth_5, sX6_readBoth_6, sX6_readBoth_8, sX6_readBoth_10, sX6_readBoth_13, sX6_readBoth_47 (st := []), sX6_readBoth_14 (st := []), sX6_readBoth_17, sX6_readBoth_19, sX6_readBoth_22, sX6_readBoth_23, sX6_readBoth_25 (st := []), sX6_readBoth_28, sX6_readBoth_29, sX6_readBoth_30 (st := []), sX6_readBoth_33, sX6_readBoth_34, sX6_readBoth_36, sX6_readBoth_37, sX6_readBoth_38 (st := []), sX6_readBoth_41, sX6_readBoth_44, inb, nz_3, nz_4, nz_6, nz_8, nz_10, nz_100, nz_300, pushr_s, pushr_n, rv_s, rv_n, kd_sI, kd_sR, kd_sJ, sz_sI, sz_sR, sz_sJ, aR_sI, aJ_sI, aI_sR, aI_sJ, not_false_eq_true, true_and, and_true, true_or, or_true, or_false, false_or, eq_self, ite_true, ite_false, if_true, if_false, kd_rS, h.k46, h2, ih]
  rfl
theorem lp_either {k : Nat} {F : RD → RD} (h : RdL H t) (hF : PW S H t k F) (ok : ∀ s, okR t s → okR t (F s)) {d : Nat} (hd : 7 + 4 * k ≤ d) : ∀ (c i : Nat) (s : RD) (Q : Option Value → AH → Prop), i + c = 100 → okR t s → Wp S (d + 2) 58 7 [.ref 46, .int (nI (4 - k)), .int (nI i)] [] (rS H s) Q = Q none (rS H (eitherL t F c s))
  | 0, i, s, Q, hc, ks => by
    have e : 100 ≤ nI i := nI_le (a := 100) (by omega) (by omega)
    rw [sX6_readEither_7]
    simp only [sX6_readEither_0, sX6_readEither_1, sX6_readEither_2 (st := []), sX6_readEither_5, sX6_readEither_6, sX6_readEither_8, sX6_readEither_10, sX6_readEither_13, sX6_readEither_47 (st := []), sX6_readEither_14 (st := []), sX6_readEither_17, sX6_readEither_19, sX6_readEither_22, sX6_readEither_23, sX6_readEither_25 (st := []), sX6_readEither_28, sX6_readEither_29, sX6_readEither_30 (st := []), sX6_readEither_33, sX6_readEither_34, sX6_readEither_36, sX6_readEither_37, sX6_readEither_38 (st := []), sX6_readEither_41, sX6_readEither_44, inb, nz_3, nz_4, nz_6, nz_8, nz_10, nz_100, nz_300, pushr_s, pushr_n, rv_s, rv_n, kd_sI, kd_sR, kd_sJ, sz_sI, sz_sR, sz_sJ, aR_sI, aJ_sI, aI_sR, aI_sJ, not_false_eq_true, true_and, and_true, true_or, or_true, or_false, false_or, eq_self, ite_true, ite_false, if_true, if_false, e]
    rfl
  | c + 1, i, s, Q, hc, ks => by
    have e : ¬ 100 ≤ nI i := nI_ge (b := 100) (by omega) (by omega)
    have hn := fun Q => w_next (S := S) (d := d + 1) (Q := Q) h ks
    have k1 := ok_sign (t := t) (x := 124) (by decide +kernel) ks
    have k2 := ok_both ok _ k1
    have h1 := fun Q => w_sign (S := S) (d := d) (Q := Q) (x := 124) h ks
    have h2 := fun Q => w_both h hF ok hd (signR t 124 s) Q k1
    have h3 := fun Q => w_add (S := S) (d := d) (Q := Q) (a := 7) (b := 0) (n := 0) h k2
    have ih := fun Q => lp_either h hF ok hd c (i + 1) _ Q (by omega) (ok_add (x := 2100) k2)
    rw [sX6_readEither_7, eitherL]
    by_cases g : nxR t s = 124
    · rw [if_pos g]
      have h3' : ∀ Q, Wp S (d + 1) 69 0 [.ref 46, .int 7, .int 0, .int 0] [] (rS H (bothG t F (signR t 124 s))) Q = Q none (rS H (addR 2100 (bothG t F (signR t 124 s)))) := h3
      simp only [sX6_readEither_0, sX6_readEither_1, sX6_readEither_2 (st := []), sX6_readEither_5, sX6_readEither_6, sX6_readEither_8, sX6_readEither_10, sX6_readEither_13, sX6_readEither_47 (st := []), sX6_readEither_14 (st := []), sX6_readEither_17, sX6_readEither_19, sX6_readEither_22, sX6_readEither_23, sX6_readEither_25 (st := []), sX6_readEither_28, sX6_readEither_29, sX6_readEither_30 (st := []), sX6_readEither_33, sX6_readEither_34, sX6_readEither_36, sX6_readEither_37, sX6_readEither_38 (st := []), sX6_readEither_41, sX6_readEither_44, inb, nz_3, nz_4, nz_6, nz_8, nz_10, nz_100, nz_300, pushr_s, pushr_n, rv_s, rv_n, kd_sI, kd_sR, kd_sJ, sz_sI, sz_sR, sz_sJ, aR_sI, aJ_sI, aI_sR, aI_sJ, not_false_eq_true, true_and, and_true, true_or, or_true, or_false, false_or, eq_self, ite_true, ite_false, if_true, if_false, e, kd_rS, h.k46, hn, g, h1, h2, h3', nI_1, ih]
    · rw [if_neg g]
      simp only [sX6_readEither_0, sX6_readEither_1, sX6_readEither_2 (st := []), sX6_readEither_5, sX6_readEither_6, sX6_readEither_8, sX6_readEither_10, sX6_readEither_13, sX6_readEither_47 (st := []), sX6_readEither_14 (st := []), sX6_readEither_17, sX6_readEither_19, sX6_readEither_22, sX6_readEither_23, sX6_readEither_25 (st := []), sX6_readEither_28, sX6_readEither_29, sX6_readEither_30 (st := []), sX6_readEither_33, sX6_readEither_34, sX6_readEither_36, sX6_readEither_37, sX6_readEither_38 (st := []), sX6_readEither_41, sX6_readEither_44, inb, nz_3, nz_4, nz_6, nz_8, nz_10, nz_100, nz_300, pushr_s, pushr_n, rv_s, rv_n, kd_sI, kd_sR, kd_sJ, sz_sI, sz_sR, sz_sJ, aR_sI, aJ_sI, aI_sR, aI_sJ, not_false_eq_true, true_and, and_true, true_or, or_true, or_false, false_or, eq_self, ite_true, ite_false, if_true, if_false, e, kd_rS, h.k46, hn, g]
theorem w_either {k : Nat} {F : RD → RD} (h : RdL H t) (hF : PW S H t k F) (ok : ∀ s, okR t s → okR t (F s)) {d : Nat} (hd : 7 + 4 * k ≤ d) (s : RD) (Q : Option Value → AH → Prop) (ks : okR t s) : Wp S (d + 2) 58 0 [.ref 46, .int (nI (4 - k)), hole] [] (rS H s) Q = Q none (rS H (eitherG t F s)) := by
  have ih := lp_either h hF ok hd 100 0 (bothG t F s) Q (by omega) (ok_both ok s ks)
  have h2 := fun Q => w_both h hF ok hd s Q ks
  rw [nI_0] at ih
  simp only [sX6_readEither_0, sX6_readEither_1, sX6_readEither_2 (st := []), sX6_readEither_5, sX6_readEither_6, sX6_readEither_8, sX6_readEither_10, sX6_readEither_13, sX6_readEither_47 (st := []), sX6_readEither_14 (st := []), sX6_readEither_17, sX6_readEither_19, sX6_readEither_22, sX6_readEither_23, sX6_readEither_25 (st := []), sX6_readEither_28, sX6_readEither_29, sX6_readEither_30 (st := []), sX6_readEither_33, sX6_readEither_34, sX6_readEither_36, sX6_readEither_37, sX6_readEither_38 (st := []), sX6_readEither_41, sX6_readEither_44, inb, nz_3, nz_4, nz_6, nz_8, nz_10, nz_100, nz_300, pushr_s, pushr_n, rv_s, rv_n, kd_sI, kd_sR, kd_sJ, sz_sI, sz_sR, sz_sJ, aR_sI, aJ_sI, aI_sR, aI_sJ, not_false_eq_true, true_and, and_true, true_or, or_true, or_false, false_or, eq_self, ite_true, ite_false, if_true, if_false, kd_rS, h.k46, h2, ih]
  rfl
theorem w_part (h : RdL H t) : ∀ k, k ≤ 4 → PW S H t k (partR t k)
  | 0, _ => by
    intro e s Q he ks
    obtain ⟨d, rfl⟩ : ∃ d, e = d + 7 := ⟨e - 7, by omega⟩
    have hn := fun Q => w_next (S := S) (d := d + 6) (Q := Q) h ks
    have ht := fun Q => w_test (S := S) (d := d) (Q := Q) h ks
    have e4 : (nI (4 - 0) < 4) = False := eq_false (by decide +kernel)
    unfold partR
    by_cases g : nxR t s = 33
    · rw [if_pos g]
      simp only [sX6_readPart_0, sX6_readPart_1 (st := []), sX6_readPart_4, sX6_readPart_5, sX6_readPart_6, sX6_readPart_8, sX6_readPart_11, sX6_readPart_24, sX6_readPart_12, sX6_readPart_25, sX6_readPart_14, sX6_readPart_26, sX6_readPart_17, sX6_readPart_29, sX6_readPart_37, sX6_readPart_18 (st := []), sX6_readPart_30, sX6_readPart_38, sX6_readPart_21, sX6_readPart_31, sX6_readPart_40, sX6_readPart_60 (st := []), sX6_readPart_34, sX6_readPart_43, sX6_readPart_53, sX6_readPart_44, sX6_readPart_54, sX6_readPart_45, sX6_readPart_55, sX6_readPart_46, sX6_readPart_56, sX6_readPart_47 (st := []), sX6_readPart_57 (st := []), sX6_readPart_50, inb, nz_3, nz_4, nz_6, nz_8, nz_10, nz_100, nz_300, pushr_s, pushr_n, rv_s, rv_n, kd_sI, kd_sR, kd_sJ, sz_sI, sz_sR, sz_sJ, aR_sI, aJ_sI, aI_sR, aI_sJ, not_false_eq_true, true_and, and_true, true_or, or_true, or_false, false_or, eq_self, ite_true, ite_false, if_true, if_false, kd_rS, h.k46, hn, g, e4, rS_w (show (1 : Int32) = bi true from rfl)]
    · rw [if_neg g]
      by_cases g2 : nxR t s = 40
      · rw [if_pos g2]
        have g33 : ((40 : Int32) = 33) = False := eq_false (by decide +kernel)
        simp only [sX6_readPart_0, sX6_readPart_1 (st := []), sX6_readPart_4, sX6_readPart_5, sX6_readPart_6, sX6_readPart_8, sX6_readPart_11, sX6_readPart_24, sX6_readPart_12, sX6_readPart_25, sX6_readPart_14, sX6_readPart_26, sX6_readPart_17, sX6_readPart_29, sX6_readPart_37, sX6_readPart_18 (st := []), sX6_readPart_30, sX6_readPart_38, sX6_readPart_21, sX6_readPart_31, sX6_readPart_40, sX6_readPart_60 (st := []), sX6_readPart_34, sX6_readPart_43, sX6_readPart_53, sX6_readPart_44, sX6_readPart_54, sX6_readPart_45, sX6_readPart_55, sX6_readPart_46, sX6_readPart_56, sX6_readPart_47 (st := []), sX6_readPart_57 (st := []), sX6_readPart_50, inb, nz_3, nz_4, nz_6, nz_8, nz_10, nz_100, nz_300, pushr_s, pushr_n, rv_s, rv_n, kd_sI, kd_sR, kd_sJ, sz_sI, sz_sR, sz_sJ, aR_sI, aJ_sI, aI_sR, aI_sJ, not_false_eq_true, true_and, and_true, true_or, or_true, or_false, false_or, eq_self, ite_true, ite_false, if_true, if_false, kd_rS, h.k46, hn, g2, g33, e4, rS_w (show (1 : Int32) = bi true from rfl)]
      · rw [if_neg g2]
        simp only [sX6_readPart_0, sX6_readPart_1 (st := []), sX6_readPart_4, sX6_readPart_5, sX6_readPart_6, sX6_readPart_8, sX6_readPart_11, sX6_readPart_24, sX6_readPart_12, sX6_readPart_25, sX6_readPart_14, sX6_readPart_26, sX6_readPart_17, sX6_readPart_29, sX6_readPart_37, sX6_readPart_18 (st := []), sX6_readPart_30, sX6_readPart_38, sX6_readPart_21, sX6_readPart_31, sX6_readPart_40, sX6_readPart_60 (st := []), sX6_readPart_34, sX6_readPart_43, sX6_readPart_53, sX6_readPart_44, sX6_readPart_54, sX6_readPart_45, sX6_readPart_55, sX6_readPart_46, sX6_readPart_56, sX6_readPart_47 (st := []), sX6_readPart_57 (st := []), sX6_readPart_50, inb, nz_3, nz_4, nz_6, nz_8, nz_10, nz_100, nz_300, pushr_s, pushr_n, rv_s, rv_n, kd_sI, kd_sR, kd_sJ, sz_sI, sz_sR, sz_sJ, aR_sI, aJ_sI, aI_sR, aI_sJ, not_false_eq_true, true_and, and_true, true_or, or_true, or_false, false_or, eq_self, ite_true, ite_false, if_true, if_false, kd_rS, h.k46, hn, g, g2, ht]
  | k + 1, hk => by
    intro e s Q he ks
    obtain ⟨d, rfl⟩ : ∃ d, e = d + 11 := ⟨e - 11, by omega⟩
    have hn := fun Q => w_next (S := S) (d := d + 10) (Q := Q) h ks
    have ht := fun Q => w_test (S := S) (d := d + 4) (Q := Q) h ks
    have e4 : (nI (4 - (k + 1)) < 4) = True := eq_true (nI_lt (b := 4) (by omega) (by decide))
    have ed : nI (4 - (k + 1)) + 1 = nI (4 - k) := by rw [nI_1]; exact congrArg nI (by omega)
    have ih := w_part h k (by omega)
    unfold partR
    by_cases g : nxR t s = 33
    · rw [if_pos g]
      have k1 := ok_sign (t := t) (x := 33) (by decide +kernel) ks
      have k2 := ok_part k _ k1
      have h1 := fun Q => w_sign (S := S) (d := d + 8) (Q := Q) (x := 33) h ks
      have h2 := fun Q => ih (d + 9) (signR t 33 s) Q (by omega) k1
      have h3 : ∀ Q, Wp S (d + 9) 69 0 [.ref 46, .int 8, .int 0, .int 0] [] (rS H (partR t k (signR t 33 s))) Q = Q none (rS H (addR 2400 (partR t k (signR t 33 s)))) := fun Q => w_add (S := S) (d := d + 8) (Q := Q) (a := 8) (b := 0) (n := 0) h k2
      have hnot : ∀ Q, Wp S (d + 10) 61 0 [.ref 46, .int (nI (4 - k))] [] (rS H s) Q = Q none (rS H (addR 2400 (partR t k (signR t 33 s)))) := fun Q => by
        simp only [sX6_readNot_0, sX6_readNot_1, sX6_readNot_3 (st := []), sX6_readNot_6, sX6_readNot_7, sX6_readNot_8 (st := []), sX6_readNot_11, sX6_readNot_12, sX6_readNot_14, sX6_readNot_15, sX6_readNot_16 (st := []), sX6_readNot_19 (st := []), inb, nz_3, nz_4, nz_6, nz_8, nz_10, nz_100, nz_300, pushr_s, pushr_n, rv_s, rv_n, kd_sI, kd_sR, kd_sJ, sz_sI, sz_sR, sz_sJ, aR_sI, aJ_sI, aI_sR, aI_sJ, not_false_eq_true, true_and, and_true, true_or, or_true, or_false, false_or, eq_self, ite_true, ite_false, if_true, if_false, kd_rS, h.k46, h1, h2, h3]
      simp only [sX6_readPart_0, sX6_readPart_1 (st := []), sX6_readPart_4, sX6_readPart_5, sX6_readPart_6, sX6_readPart_8, sX6_readPart_11, sX6_readPart_24, sX6_readPart_12, sX6_readPart_25, sX6_readPart_14, sX6_readPart_26, sX6_readPart_17, sX6_readPart_29, sX6_readPart_37, sX6_readPart_18 (st := []), sX6_readPart_30, sX6_readPart_38, sX6_readPart_21, sX6_readPart_31, sX6_readPart_40, sX6_readPart_60 (st := []), sX6_readPart_34, sX6_readPart_43, sX6_readPart_53, sX6_readPart_44, sX6_readPart_54, sX6_readPart_45, sX6_readPart_55, sX6_readPart_46, sX6_readPart_56, sX6_readPart_47 (st := []), sX6_readPart_57 (st := []), sX6_readPart_50, inb, nz_3, nz_4, nz_6, nz_8, nz_10, nz_100, nz_300, pushr_s, pushr_n, rv_s, rv_n, kd_sI, kd_sR, kd_sJ, sz_sI, sz_sR, sz_sJ, aR_sI, aJ_sI, aI_sR, aI_sJ, not_false_eq_true, true_and, and_true, true_or, or_true, or_false, false_or, eq_self, ite_true, ite_false, if_true, if_false, kd_rS, h.k46, hn, g, e4, ed, hnot]
    · rw [if_neg g]
      by_cases g2 : nxR t s = 40
      · rw [if_pos g2]
        have g33 : ((40 : Int32) = 33) = False := eq_false (by decide +kernel)
        have k1 := ok_sign (t := t) (x := 40) (by decide +kernel) ks
        have k2 := ok_either (ok_part k) _ k1
        have h1 := fun Q => w_sign (S := S) (d := d + 8) (Q := Q) (x := 40) h ks
        have h2 := fun Q => w_either h ih (ok_part k) (d := d + 7) (by omega) (signR t 40 s) Q k1
        have h3 := fun Q => w_sign (S := S) (d := d + 8) (Q := Q) (x := 41) h k2
        have hbr : ∀ Q, Wp S (d + 10) 62 0 [.ref 46, .int (nI (4 - k))] [] (rS H s) Q = Q none (rS H (signR t 41 (eitherG t (partR t k) (signR t 40 s)))) := fun Q => by
          simp only [sX6_readBracket_0, sX6_readBracket_1, sX6_readBracket_3 (st := []), sX6_readBracket_6, sX6_readBracket_7, sX6_readBracket_8 (st := []), sX6_readBracket_11, sX6_readBracket_12, sX6_readBracket_14 (st := []), sX6_readBracket_17 (st := []), inb, nz_3, nz_4, nz_6, nz_8, nz_10, nz_100, nz_300, pushr_s, pushr_n, rv_s, rv_n, kd_sI, kd_sR, kd_sJ, sz_sI, sz_sR, sz_sJ, aR_sI, aJ_sI, aI_sR, aI_sJ, not_false_eq_true, true_and, and_true, true_or, or_true, or_false, false_or, eq_self, ite_true, ite_false, if_true, if_false, kd_rS, h.k46, h1, h2, h3]
        simp only [sX6_readPart_0, sX6_readPart_1 (st := []), sX6_readPart_4, sX6_readPart_5, sX6_readPart_6, sX6_readPart_8, sX6_readPart_11, sX6_readPart_24, sX6_readPart_12, sX6_readPart_25, sX6_readPart_14, sX6_readPart_26, sX6_readPart_17, sX6_readPart_29, sX6_readPart_37, sX6_readPart_18 (st := []), sX6_readPart_30, sX6_readPart_38, sX6_readPart_21, sX6_readPart_31, sX6_readPart_40, sX6_readPart_60 (st := []), sX6_readPart_34, sX6_readPart_43, sX6_readPart_53, sX6_readPart_44, sX6_readPart_54, sX6_readPart_45, sX6_readPart_55, sX6_readPart_46, sX6_readPart_56, sX6_readPart_47 (st := []), sX6_readPart_57 (st := []), sX6_readPart_50, inb, nz_3, nz_4, nz_6, nz_8, nz_10, nz_100, nz_300, pushr_s, pushr_n, rv_s, rv_n, kd_sI, kd_sR, kd_sJ, sz_sI, sz_sR, sz_sJ, aR_sI, aJ_sI, aI_sR, aI_sJ, not_false_eq_true, true_and, and_true, true_or, or_true, or_false, false_or, eq_self, ite_true, ite_false, if_true, if_false, kd_rS, h.k46, hn, g2, g33, e4, ed, hbr]
      · rw [if_neg g2]
        simp only [sX6_readPart_0, sX6_readPart_1 (st := []), sX6_readPart_4, sX6_readPart_5, sX6_readPart_6, sX6_readPart_8, sX6_readPart_11, sX6_readPart_24, sX6_readPart_12, sX6_readPart_25, sX6_readPart_14, sX6_readPart_26, sX6_readPart_17, sX6_readPart_29, sX6_readPart_37, sX6_readPart_18 (st := []), sX6_readPart_30, sX6_readPart_38, sX6_readPart_21, sX6_readPart_31, sX6_readPart_40, sX6_readPart_60 (st := []), sX6_readPart_34, sX6_readPart_43, sX6_readPart_53, sX6_readPart_44, sX6_readPart_54, sX6_readPart_45, sX6_readPart_55, sX6_readPart_46, sX6_readPart_56, sX6_readPart_47 (st := []), sX6_readPart_57 (st := []), sX6_readPart_50, inb, nz_3, nz_4, nz_6, nz_8, nz_10, nz_100, nz_300, pushr_s, pushr_n, rv_s, rv_n, kd_sI, kd_sR, kd_sJ, sz_sI, sz_sR, sz_sJ, aR_sI, aJ_sI, aI_sR, aI_sJ, not_false_eq_true, true_and, and_true, true_or, or_true, or_false, false_or, eq_self, ite_true, ite_false, if_true, if_false, kd_rS, h.k46, hn, g, g2, ht]
theorem ok_word : ∀ (l : List Int32) {s : RD}, (∀ a ∈ l, ¬ (-1 : Int32) = a) → okR t s → okR t (wordR t l s)
  | [], _, _, k => k
  | a :: r, s, hl, k => ok_word r (fun b hb => hl b (List.mem_cons_of_mem _ hb)) (ok_sign (hl a List.mem_cons_self) k)
theorem lp_word {d j : Nat} (hj : 3 ≤ j ∧ j ≤ 8) (h : RdL H t) (hm : ∀ a ∈ strO j, ¬ (-1 : Int32) = a) : ∀ (r : List Int32) (i : Nat) (s : RD) (Q : Option Value → AH → Prop), okR t s → i + r.length = (strO j).length → (∀ q, q < r.length → r.getD q 0 = (strO j).getD (i + q) 0) →
    Wp S (d + 4) 65 2 [.ref 46, .retAddr j, .int (nI i)] [] (rS H s) Q = Q none (rS H (wordR t r s))
  | [], i, s, Q, k, hi, _ => by
    have hi : i = (strO j).length := hi
    have hl := strO_len hj
    have hn := fun Q => w_strlen (S := S) (d := d + 2) (H := rS H s) (Q := Q) hj (by rw [(strO_ok hj).1]; omega)
    rw [(strO_ok hj).1] at hn
    have e : nI (strO j).length ≤ nI i := nI_le (by omega) (by omega)
    rw [sX6_readWord_2]
    simp only [sX6_readWord_0, sX6_readWord_1, sX6_readWord_3, sX6_readWord_4 (st := []), sX6_readWord_7, sX6_readWord_10, sX6_readWord_25 (st := []), sX6_readWord_11, sX6_readWord_12, sX6_readWord_13 (st := []), sX6_readWord_16 (st := []), sX6_readWord_19, sX6_readWord_22, inb, nz_3, nz_4, nz_6, nz_8, nz_10, nz_100, nz_300, pushr_s, pushr_n, rv_s, rv_n, kd_sI, kd_sR, kd_sJ, sz_sI, sz_sR, sz_sJ, aR_sI, aJ_sI, aI_sR, aI_sJ, not_false_eq_true, true_and, and_true, true_or, or_true, or_false, false_or, eq_self, ite_true, ite_false, if_true, if_false, hj, hn, e]
    rfl
  | a :: r, i, s, Q, k, hi, hr => by
    have hi : i + (r.length + 1) = (strO j).length := hi
    have hl := strO_len hj
    have hn := fun Q => w_strlen (S := S) (d := d + 2) (H := rS H s) (Q := Q) hj (by rw [(strO_ok hj).1]; omega)
    have hc := fun Q => w_charAt (S := S) (d := d) (H := rS H s) (Q := Q) (i := i) hj (by rw [(strO_ok hj).1]; omega) (by rw [(strO_ok hj).1]; omega)
    rw [(strO_ok hj).1] at hn
    rw [(strO_ok hj).2] at hc
    have h0 : (strO j).getD i 0 = a := (hr 0 (by show 0 < r.length + 1; omega)).symm
    simp only [h0] at hc
    have ha : ¬ (-1 : Int32) = a := hm a (by rw [← h0]; exact gD_mem _ i 0 (by omega))
    have e : ¬ nI (strO j).length ≤ nI i := nI_ge (by omega) (by omega)
    have h1 := fun Q => w_sign (S := S) (d := d + 2) (Q := Q) (x := a) h k
    have ih := fun Q => lp_word (d := d) hj h hm r (i + 1) (signR t a s) Q (ok_sign ha k) (by omega) (fun q hq => by
      have z := hr (q + 1) (by show q + 1 < r.length + 1; omega)
      rw [show i + (q + 1) = i + 1 + q by omega] at z
      exact z)
    rw [sX6_readWord_2]
    simp only [sX6_readWord_0, sX6_readWord_1, sX6_readWord_3, sX6_readWord_4 (st := []), sX6_readWord_7, sX6_readWord_10, sX6_readWord_25 (st := []), sX6_readWord_11, sX6_readWord_12, sX6_readWord_13 (st := []), sX6_readWord_16 (st := []), sX6_readWord_19, sX6_readWord_22, inb, nz_3, nz_4, nz_6, nz_8, nz_10, nz_100, nz_300, pushr_s, pushr_n, rv_s, rv_n, kd_sI, kd_sR, kd_sJ, sz_sI, sz_sR, sz_sJ, aR_sI, aJ_sI, aI_sR, aI_sJ, not_false_eq_true, true_and, and_true, true_or, or_true, or_false, false_or, eq_self, ite_true, ite_false, if_true, if_false, hj, hn, hc, e, kd_rS, h.k46, h1, nI_1, ih]
    rfl
theorem w_word {d j : Nat} {s : RD} {Q : Option Value → AH → Prop} (hj : 3 ≤ j ∧ j ≤ 8) (h : RdL H t) (hm : ∀ a ∈ strO j, ¬ (-1 : Int32) = a) (k : okR t s) : Wp S (d + 4) 65 0 [.ref 46, .retAddr j, hole] [] (rS H s) Q = Q none (rS H (wordR t (strO j) s)) := by
  have ih := lp_word (S := S) (d := d) hj h hm (strO j) 0 s Q k (by omega) (fun q _ => by rw [Nat.zero_add])
  rw [nI_0] at ih
  simp only [sX6_readWord_0, sX6_readWord_1, sX6_readWord_3, sX6_readWord_4 (st := []), sX6_readWord_7, sX6_readWord_10, sX6_readWord_25 (st := []), sX6_readWord_11, sX6_readWord_12, sX6_readWord_13 (st := []), sX6_readWord_16 (st := []), sX6_readWord_19, sX6_readWord_22, inb, nz_3, nz_4, nz_6, nz_8, nz_10, nz_100, nz_300, pushr_s, pushr_n, rv_s, rv_n, kd_sI, kd_sR, kd_sJ, sz_sI, sz_sR, sz_sJ, aR_sI, aJ_sI, aI_sR, aI_sJ, not_false_eq_true, true_and, and_true, true_or, or_true, or_false, false_or, eq_self, ite_true, ite_false, if_true, if_false, ih]
theorem str_3 : strO 3 = heedL := rfl
theorem str_4 : strO 4 = deafL := rfl
theorem str_5 : strO 5 = manyL := rfl
theorem str_m : (∀ a ∈ heedL, ¬ (-1 : Int32) = a) ∧ (∀ a ∈ deafL, ¬ (-1 : Int32) = a) ∧ (∀ a ∈ manyL, ¬ (-1 : Int32) = a) := by decide +kernel
theorem okR_m {s : RD} {v : Int32} (k : okR t s) : okR t (s.setm v) := k
theorem ok_head {s : RD} (k : okR t s) : okR t (headR t s) := by
  rw [head_eq]
  exact ok_word _ (wd_ok _).1 k
theorem ok_clause {s : RD} (k : okR t s) : okR t (clauseR t s) := by
  have k1 := ok_num (ok_head k)
  unfold clauseR
  split
  · exact ok_add (ok_either (ok_part 4) _ (ok_sign (by decide +kernel) k1))
  · split
    · exact ok_add (ok_either (ok_part 4) _ (ok_sign (by decide +kernel) k1))
    · exact okR_m k1
theorem ne_100 : ((100 : Int32) = 104) = False := eq_false (by decide +kernel)
theorem ne_104 : ((104 : Int32) = 100) = False := eq_false (by decide +kernel)
theorem w_clause {d : Nat} {s : RD} {Q : Option Value → AH → Prop} (h : RdL H t) (k : okR t s) : Wp S (d + 26) 57 0 [.ref 46, hole, hole] [] (rS H s) Q = Q none (rS H (clauseR t s)) := by
  have hn := fun Q => w_next (S := S) (d := d + 25) (Q := Q) h k
  have kh := ok_head k
  have k1 := ok_num kh
  have k2 := ok_sign (t := t) (x := 32) (by decide +kernel) k1
  have k3 := ok_either (ok_part 4) _ k2
  have n1 := fun Q => w_num (S := S) (d := d + 20) (Q := Q) h kh
  have n2 := fun Q => w_sign (S := S) (d := d + 24) (Q := Q) (x := 32) h k1
  have n3 : ∀ Q, Wp S (d + 25) 58 0 [.ref 46, .int 0, hole] [] (rS H (signR t 32 (numR t (headR t s)).2)) Q = Q none (rS H (eitherG t (partR t 4) (signR t 32 (numR t (headR t s)).2))) := fun Q => w_either h (w_part h 4 (by omega)) (ok_part 4) (d := d + 23) (by omega) _ Q k2
  unfold clauseR
  by_cases g1 : nxR t s = 104
  · rw [if_pos g1]
    have hw := fun Q => w_word (S := S) (d := d + 21) (Q := Q) (j := 3) ⟨by decide, by decide⟩ h str_m.1 k
    have kw : okR t (wordR t heedL s) := ok_word _ str_m.1 k
    have hs := fun Q => w_sign (S := S) (d := d + 24) (Q := Q) (x := 32) h kw
    have eh : headR t s = signR t 32 (wordR t heedL s) := by unfold headR wdL; rw [if_pos g1]
    rw [str_3] at hw
    rw [← eh] at hs
    have n4 : ∀ Q, Wp S (d + 25) 69 0 [.ref 46, .int 9, .int 0, .int (nI (numR t (headR t s)).1)] [] (rS H (eitherG t (partR t 4) (signR t 32 (numR t (headR t s)).2))) Q = Q none (rS H (addR (2700 + (numR t (headR t s)).1) (eitherG t (partR t 4) (signR t 32 (numR t (headR t s)).2)))) := fun Q => w_add (S := S) (d := d + 24) (Q := Q) (a := 9) (b := 0) h k3
    simp only [sX6_readClause_0, sX6_readClause_1 (st := []), sX6_readClause_4, sX6_readClause_5, sX6_readClause_6, sX6_readClause_7, sX6_readClause_9, sX6_readClause_12, sX6_readClause_17, sX6_readClause_14, sX6_readClause_18, sX6_readClause_30 (st := []), sX6_readClause_20, sX6_readClause_33, sX6_readClause_23, sX6_readClause_28, sX6_readClause_34, sX6_readClause_25, sX6_readClause_36 (st := []), sX6_readClause_39, sX6_readClause_40 (st := []), sX6_readClause_43, sX6_readClause_44, sX6_readClause_45, sX6_readClause_47, sX6_readClause_50, sX6_readClause_56, sX6_readClause_51, sX6_readClause_57, sX6_readClause_53, sX6_readClause_59 (st := []), sX6_readClause_89, sX6_readClause_62, sX6_readClause_90, sX6_readClause_63, sX6_readClause_91, sX6_readClause_64 (st := []), sX6_readClause_94 (st := []), sX6_readClause_67, sX6_readClause_68, sX6_readClause_69, sX6_readClause_71, sX6_readClause_74, sX6_readClause_79, sX6_readClause_76, sX6_readClause_81, sX6_readClause_82, sX6_readClause_83 (st := []), sX6_readClause_86, inb, nz_3, nz_4, nz_6, nz_8, nz_10, nz_100, nz_300, pushr_s, pushr_n, rv_s, rv_n, kd_sI, kd_sR, kd_sJ, sz_sI, sz_sR, sz_sJ, aR_sI, aJ_sI, aI_sR, aI_sJ, not_false_eq_true, true_and, and_true, true_or, or_true, or_false, false_or, eq_self, ite_true, ite_false, if_true, if_false, kd_rS, h.k46, hn, g1, hw, hs, n1, n2, n3, n4, ne_104]
  · rw [if_neg g1]
    by_cases g2 : nxR t s = 100
    · rw [if_pos g2]
      have hw := fun Q => w_word (S := S) (d := d + 21) (Q := Q) (j := 4) ⟨by decide, by decide⟩ h str_m.2.1 k
      have kw : okR t (wordR t deafL s) := ok_word _ str_m.2.1 k
      have hs := fun Q => w_sign (S := S) (d := d + 24) (Q := Q) (x := 32) h kw
      have eh : headR t s = signR t 32 (wordR t deafL s) := by unfold headR wdL; rw [if_neg g1, if_pos g2]
      rw [str_4] at hw
      rw [← eh] at hs
      have n4 : ∀ Q, Wp S (d + 25) 69 0 [.ref 46, .int 10, .int 0, .int (nI (numR t (headR t s)).1)] [] (rS H (eitherG t (partR t 4) (signR t 32 (numR t (headR t s)).2))) Q = Q none (rS H (addR (3000 + (numR t (headR t s)).1) (eitherG t (partR t 4) (signR t 32 (numR t (headR t s)).2)))) := fun Q => w_add (S := S) (d := d + 24) (Q := Q) (a := 10) (b := 0) h k3
      simp only [sX6_readClause_0, sX6_readClause_1 (st := []), sX6_readClause_4, sX6_readClause_5, sX6_readClause_6, sX6_readClause_7, sX6_readClause_9, sX6_readClause_12, sX6_readClause_17, sX6_readClause_14, sX6_readClause_18, sX6_readClause_30 (st := []), sX6_readClause_20, sX6_readClause_33, sX6_readClause_23, sX6_readClause_28, sX6_readClause_34, sX6_readClause_25, sX6_readClause_36 (st := []), sX6_readClause_39, sX6_readClause_40 (st := []), sX6_readClause_43, sX6_readClause_44, sX6_readClause_45, sX6_readClause_47, sX6_readClause_50, sX6_readClause_56, sX6_readClause_51, sX6_readClause_57, sX6_readClause_53, sX6_readClause_59 (st := []), sX6_readClause_89, sX6_readClause_62, sX6_readClause_90, sX6_readClause_63, sX6_readClause_91, sX6_readClause_64 (st := []), sX6_readClause_94 (st := []), sX6_readClause_67, sX6_readClause_68, sX6_readClause_69, sX6_readClause_71, sX6_readClause_74, sX6_readClause_79, sX6_readClause_76, sX6_readClause_81, sX6_readClause_82, sX6_readClause_83 (st := []), sX6_readClause_86, inb, nz_3, nz_4, nz_6, nz_8, nz_10, nz_100, nz_300, pushr_s, pushr_n, rv_s, rv_n, kd_sI, kd_sR, kd_sJ, sz_sI, sz_sR, sz_sJ, aR_sI, aJ_sI, aI_sR, aI_sJ, not_false_eq_true, true_and, and_true, true_or, or_true, or_false, false_or, eq_self, ite_true, ite_false, if_true, if_false, kd_rS, h.k46, hn, g2, ne_100, hw, hs, n1, n2, n3, n4]
    · rw [if_neg g2]
      have hw := fun Q => w_word (S := S) (d := d + 21) (Q := Q) (j := 5) ⟨by decide, by decide⟩ h str_m.2.2 k
      have kw : okR t (wordR t manyL s) := ok_word _ str_m.2.2 k
      have hs := fun Q => w_sign (S := S) (d := d + 24) (Q := Q) (x := 32) h kw
      have eh : headR t s = signR t 32 (wordR t manyL s) := by unfold headR wdL; rw [if_neg g1, if_neg g2]
      rw [str_5] at hw
      rw [← eh] at hs
      simp only [sX6_readClause_0, sX6_readClause_1 (st := []), sX6_readClause_4, sX6_readClause_5, sX6_readClause_6, sX6_readClause_7, sX6_readClause_9, sX6_readClause_12, sX6_readClause_17, sX6_readClause_14, sX6_readClause_18, sX6_readClause_30 (st := []), sX6_readClause_20, sX6_readClause_33, sX6_readClause_23, sX6_readClause_28, sX6_readClause_34, sX6_readClause_25, sX6_readClause_36 (st := []), sX6_readClause_39, sX6_readClause_40 (st := []), sX6_readClause_43, sX6_readClause_44, sX6_readClause_45, sX6_readClause_47, sX6_readClause_50, sX6_readClause_56, sX6_readClause_51, sX6_readClause_57, sX6_readClause_53, sX6_readClause_59 (st := []), sX6_readClause_89, sX6_readClause_62, sX6_readClause_90, sX6_readClause_63, sX6_readClause_91, sX6_readClause_64 (st := []), sX6_readClause_94 (st := []), sX6_readClause_67, sX6_readClause_68, sX6_readClause_69, sX6_readClause_71, sX6_readClause_74, sX6_readClause_79, sX6_readClause_76, sX6_readClause_81, sX6_readClause_82, sX6_readClause_83 (st := []), sX6_readClause_86, inb, nz_3, nz_4, nz_6, nz_8, nz_10, nz_100, nz_300, pushr_s, pushr_n, rv_s, rv_n, kd_sI, kd_sR, kd_sJ, sz_sI, sz_sR, sz_sJ, aR_sI, aJ_sI, aI_sR, aI_sJ, not_false_eq_true, true_and, and_true, true_or, or_true, or_false, false_or, eq_self, ite_true, ite_false, if_true, if_false, kd_rS, h.k46, hn, g1, g2, hw, hs, n1, rS_m]
/-- what readAll answers -/
def allB (t : Txt) (s : RD) : Int32 := if s.w = true then 0 else if s.p = t.1 then 1 else 0
theorem lp_all {d : Nat} (h : RdL H t) : ∀ (c i : Nat) (s : RD) (Q : Option Value → AH → Prop), i + c = 10 → okR t s → Wp S (d + 27) 56 27 [.ref 46, .int (nI i)] [] (rS H s) Q = Q (some (.int (allB t (wayL t c s)))) (rS H (wayL t c s))
  | c, i, s, Q, hc, k => by
    have hp := k.1
    have hl := h.len
    have fin : ∀ s2 : RD, okR t s2 → ∀ v, Wp S (d + 27) 56 67 [.ref 46, v] [] (rS H s2) Q = Q (some (.int (allB t s2))) (rS H s2) := fun s2 k2 v => by
      have hp2 := k2.1
      unfold allB
      cases hw : s2.w
      · rw [if_neg (by decide)]
        by_cases g : s2.p = t.1
        · rw [if_pos g]
          have g' : (nI s2.p = nI t.1) = True := eq_true (by rw [g])
          simp only [sX6_readAll_0, sX6_readAll_1, sX6_readAll_2, sX6_readAll_5, sX6_readAll_6, sX6_readAll_7, sX6_readAll_10, sX6_readAll_11, sX6_readAll_13, sX6_readAll_16, sX6_readAll_17, sX6_readAll_18, sX6_readAll_21, sX6_readAll_22 (st := []), sX6_readAll_25, sX6_readAll_26, sX6_readAll_28, sX6_readAll_30, sX6_readAll_33, sX6_readAll_67, sX6_readAll_34, sX6_readAll_68, sX6_readAll_37, sX6_readAll_71, sX6_readAll_40, sX6_readAll_74, sX6_readAll_89, sX6_readAll_41, sX6_readAll_75, sX6_readAll_90 (st := []), sX6_readAll_44, sX6_readAll_78, sX6_readAll_45, sX6_readAll_79, sX6_readAll_48, sX6_readAll_82, sX6_readAll_51, sX6_readAll_85, sX6_readAll_52, sX6_readAll_86, sX6_readAll_54 (st := []), sX6_readAll_57, sX6_readAll_58 (st := []), sX6_readAll_61, sX6_readAll_64, inb, nz_3, nz_4, nz_6, nz_8, nz_10, nz_100, nz_300, pushr_s, pushr_n, rv_s, rv_n, kd_sI, kd_sR, kd_sJ, sz_sI, sz_sR, sz_sJ, aR_sI, aJ_sI, aI_sR, aI_sJ, not_false_eq_true, true_and, and_true, true_or, or_true, or_false, false_or, eq_self, ite_true, ite_false, if_true, if_false, kd_rS, h.k46, rS_3, rS_1, rS_0, h.n0, hw, bi_f, bz_0, g']
        · rw [if_neg g]
          have g' : (nI s2.p = nI t.1) = False := eq_false (fun z => g ((nI_eq (by omega) (by omega)).mp z))
          simp only [sX6_readAll_0, sX6_readAll_1, sX6_readAll_2, sX6_readAll_5, sX6_readAll_6, sX6_readAll_7, sX6_readAll_10, sX6_readAll_11, sX6_readAll_13, sX6_readAll_16, sX6_readAll_17, sX6_readAll_18, sX6_readAll_21, sX6_readAll_22 (st := []), sX6_readAll_25, sX6_readAll_26, sX6_readAll_28, sX6_readAll_30, sX6_readAll_33, sX6_readAll_67, sX6_readAll_34, sX6_readAll_68, sX6_readAll_37, sX6_readAll_71, sX6_readAll_40, sX6_readAll_74, sX6_readAll_89, sX6_readAll_41, sX6_readAll_75, sX6_readAll_90 (st := []), sX6_readAll_44, sX6_readAll_78, sX6_readAll_45, sX6_readAll_79, sX6_readAll_48, sX6_readAll_82, sX6_readAll_51, sX6_readAll_85, sX6_readAll_52, sX6_readAll_86, sX6_readAll_54 (st := []), sX6_readAll_57, sX6_readAll_58 (st := []), sX6_readAll_61, sX6_readAll_64, inb, nz_3, nz_4, nz_6, nz_8, nz_10, nz_100, nz_300, pushr_s, pushr_n, rv_s, rv_n, kd_sI, kd_sR, kd_sJ, sz_sI, sz_sR, sz_sJ, aR_sI, aJ_sI, aI_sR, aI_sJ, not_false_eq_true, true_and, and_true, true_or, or_true, or_false, false_or, eq_self, ite_true, ite_false, if_true, if_false, kd_rS, h.k46, rS_3, rS_1, rS_0, h.n0, hw, bi_f, bz_0, g']
      · rw [if_pos rfl]
        simp only [sX6_readAll_0, sX6_readAll_1, sX6_readAll_2, sX6_readAll_5, sX6_readAll_6, sX6_readAll_7, sX6_readAll_10, sX6_readAll_11, sX6_readAll_13, sX6_readAll_16, sX6_readAll_17, sX6_readAll_18, sX6_readAll_21, sX6_readAll_22 (st := []), sX6_readAll_25, sX6_readAll_26, sX6_readAll_28, sX6_readAll_30, sX6_readAll_33, sX6_readAll_67, sX6_readAll_34, sX6_readAll_68, sX6_readAll_37, sX6_readAll_71, sX6_readAll_40, sX6_readAll_74, sX6_readAll_89, sX6_readAll_41, sX6_readAll_75, sX6_readAll_90 (st := []), sX6_readAll_44, sX6_readAll_78, sX6_readAll_45, sX6_readAll_79, sX6_readAll_48, sX6_readAll_82, sX6_readAll_51, sX6_readAll_85, sX6_readAll_52, sX6_readAll_86, sX6_readAll_54 (st := []), sX6_readAll_57, sX6_readAll_58 (st := []), sX6_readAll_61, sX6_readAll_64, inb, nz_3, nz_4, nz_6, nz_8, nz_10, nz_100, nz_300, pushr_s, pushr_n, rv_s, rv_n, kd_sI, kd_sR, kd_sJ, sz_sI, sz_sR, sz_sJ, aR_sI, aJ_sI, aI_sR, aI_sJ, not_false_eq_true, true_and, and_true, true_or, or_true, or_false, false_or, eq_self, ite_true, ite_false, if_true, if_false, kd_rS, h.k46, rS_3, hw, bi_t, bz_1, nz_1]
    cases c with
    | zero =>
      have e : 10 ≤ nI i := nI_le (a := 10) (by omega) (by omega)
      rw [sX6_readAll_27]
      simp only [sX6_readAll_0, sX6_readAll_1, sX6_readAll_2, sX6_readAll_5, sX6_readAll_6, sX6_readAll_7, sX6_readAll_10, sX6_readAll_11, sX6_readAll_13, sX6_readAll_16, sX6_readAll_17, sX6_readAll_18, sX6_readAll_21, sX6_readAll_22 (st := []), sX6_readAll_25, sX6_readAll_26, sX6_readAll_28, sX6_readAll_30, sX6_readAll_33, sX6_readAll_34, sX6_readAll_68, sX6_readAll_37, sX6_readAll_71, sX6_readAll_40, sX6_readAll_74, sX6_readAll_89, sX6_readAll_41, sX6_readAll_75, sX6_readAll_90 (st := []), sX6_readAll_44, sX6_readAll_78, sX6_readAll_45, sX6_readAll_79, sX6_readAll_48, sX6_readAll_82, sX6_readAll_51, sX6_readAll_85, sX6_readAll_52, sX6_readAll_86, sX6_readAll_54 (st := []), sX6_readAll_57, sX6_readAll_58 (st := []), sX6_readAll_61, sX6_readAll_64, inb, nz_3, nz_4, nz_6, nz_8, nz_10, nz_100, nz_300, pushr_s, pushr_n, rv_s, rv_n, kd_sI, kd_sR, kd_sJ, sz_sI, sz_sR, sz_sJ, aR_sI, aJ_sI, aI_sR, aI_sJ, not_false_eq_true, true_and, and_true, true_or, or_true, or_false, false_or, eq_self, ite_true, ite_false, if_true, if_false, e, fin s k]
      rfl
    | succ c =>
      have e : ¬ 10 ≤ nI i := nI_ge (b := 10) (by omega) (by omega)
      rw [sX6_readAll_27, wayL]
      cases hw : s.w
      · rw [if_neg (by decide)]
        by_cases g : t.1 ≤ s.p
        · rw [if_pos g]
          have g' : nI t.1 ≤ nI s.p := nI_le g (by omega)
          simp only [sX6_readAll_0, sX6_readAll_1, sX6_readAll_2, sX6_readAll_5, sX6_readAll_6, sX6_readAll_7, sX6_readAll_10, sX6_readAll_11, sX6_readAll_13, sX6_readAll_16, sX6_readAll_17, sX6_readAll_18, sX6_readAll_21, sX6_readAll_22 (st := []), sX6_readAll_25, sX6_readAll_26, sX6_readAll_28, sX6_readAll_30, sX6_readAll_33, sX6_readAll_34, sX6_readAll_68, sX6_readAll_37, sX6_readAll_71, sX6_readAll_40, sX6_readAll_74, sX6_readAll_89, sX6_readAll_41, sX6_readAll_75, sX6_readAll_90 (st := []), sX6_readAll_44, sX6_readAll_78, sX6_readAll_45, sX6_readAll_79, sX6_readAll_48, sX6_readAll_82, sX6_readAll_51, sX6_readAll_85, sX6_readAll_52, sX6_readAll_86, sX6_readAll_54 (st := []), sX6_readAll_57, sX6_readAll_58 (st := []), sX6_readAll_61, sX6_readAll_64, inb, nz_3, nz_4, nz_6, nz_8, nz_10, nz_100, nz_300, pushr_s, pushr_n, rv_s, rv_n, kd_sI, kd_sR, kd_sJ, sz_sI, sz_sR, sz_sJ, aR_sI, aJ_sI, aI_sR, aI_sJ, not_false_eq_true, true_and, and_true, true_or, or_true, or_false, false_or, eq_self, ite_true, ite_false, if_true, if_false, kd_rS, h.k46, rS_3, rS_1, rS_0, h.n0, hw, bi_f, bz_0, e, g', fin s k]
        · rw [if_neg g]
          have g' : ¬ nI t.1 ≤ nI s.p := nI_ge (by omega) (by omega)
          have k1 := ok_sign (t := t) (x := 59) (by decide +kernel) k
          have h1 := fun Q => w_sign (S := S) (d := d + 25) (Q := Q) (x := 59) h k
          have h2 := fun Q => w_clause (S := S) (d := d) (Q := Q) h k1
          have ih := fun Q => lp_all (d := d) h c (i + 1) (clauseR t (signR t 59 s)) Q (by omega) (ok_clause k1)
          simp only [sX6_readAll_0, sX6_readAll_1, sX6_readAll_2, sX6_readAll_5, sX6_readAll_6, sX6_readAll_7, sX6_readAll_10, sX6_readAll_11, sX6_readAll_13, sX6_readAll_16, sX6_readAll_17, sX6_readAll_18, sX6_readAll_21, sX6_readAll_22 (st := []), sX6_readAll_25, sX6_readAll_26, sX6_readAll_28, sX6_readAll_30, sX6_readAll_33, sX6_readAll_34, sX6_readAll_68, sX6_readAll_37, sX6_readAll_71, sX6_readAll_40, sX6_readAll_74, sX6_readAll_89, sX6_readAll_41, sX6_readAll_75, sX6_readAll_90 (st := []), sX6_readAll_44, sX6_readAll_78, sX6_readAll_45, sX6_readAll_79, sX6_readAll_48, sX6_readAll_82, sX6_readAll_51, sX6_readAll_85, sX6_readAll_52, sX6_readAll_86, sX6_readAll_54 (st := []), sX6_readAll_57, sX6_readAll_58 (st := []), sX6_readAll_61, sX6_readAll_64, inb, nz_3, nz_4, nz_6, nz_8, nz_10, nz_100, nz_300, pushr_s, pushr_n, rv_s, rv_n, kd_sI, kd_sR, kd_sJ, sz_sI, sz_sR, sz_sJ, aR_sI, aJ_sI, aI_sR, aI_sJ, not_false_eq_true, true_and, and_true, true_or, or_true, or_false, false_or, eq_self, ite_true, ite_false, if_true, if_false, kd_rS, h.k46, rS_3, rS_1, rS_0, h.n0, hw, bi_f, bz_0, e, g', h1, h2, nI_1, ih]
      · rw [if_pos rfl]
        simp only [sX6_readAll_0, sX6_readAll_1, sX6_readAll_2, sX6_readAll_5, sX6_readAll_6, sX6_readAll_7, sX6_readAll_10, sX6_readAll_11, sX6_readAll_13, sX6_readAll_16, sX6_readAll_17, sX6_readAll_18, sX6_readAll_21, sX6_readAll_22 (st := []), sX6_readAll_25, sX6_readAll_26, sX6_readAll_28, sX6_readAll_30, sX6_readAll_33, sX6_readAll_34, sX6_readAll_68, sX6_readAll_37, sX6_readAll_71, sX6_readAll_40, sX6_readAll_74, sX6_readAll_89, sX6_readAll_41, sX6_readAll_75, sX6_readAll_90 (st := []), sX6_readAll_44, sX6_readAll_78, sX6_readAll_45, sX6_readAll_79, sX6_readAll_48, sX6_readAll_82, sX6_readAll_51, sX6_readAll_85, sX6_readAll_52, sX6_readAll_86, sX6_readAll_54 (st := []), sX6_readAll_57, sX6_readAll_58 (st := []), sX6_readAll_61, sX6_readAll_64, inb, nz_3, nz_4, nz_6, nz_8, nz_10, nz_100, nz_300, pushr_s, pushr_n, rv_s, rv_n, kd_sI, kd_sR, kd_sJ, sz_sI, sz_sR, sz_sJ, aR_sI, aJ_sI, aI_sR, aI_sJ, not_false_eq_true, true_and, and_true, true_or, or_true, or_false, false_or, eq_self, ite_true, ite_false, if_true, if_false, kd_rS, h.k46, rS_3, hw, bi_t, bz_1, nz_1, e, fin s k]
theorem rS_rS (H : AH) (s s2 : RD) : rS (rS H s) s2 = rS H s2 := by
  unfold rS
  refine congrArg (fun f => (H.1, f, H.2.2.1, H.2.2.2)) (funext fun a => funext fun b => ?_)
  by_cases ha : a = 46
  · rw [if_pos ha, if_pos ha]
    by_cases h1 : b = 1
    · rw [if_pos h1, if_pos h1]
    · by_cases h3 : b = 3
      · rw [if_neg h1, if_neg h1, if_pos h3, if_pos h3]
      · by_cases h4 : b = 4
        · rw [if_neg h1, if_neg h1, if_neg h3, if_neg h3, if_pos h4, if_pos h4]
        · by_cases h6 : b = 6
          · rw [if_neg h1, if_neg h1, if_neg h3, if_neg h3, if_neg h4, if_neg h4, if_pos h6, if_pos h6]
          · rw [if_neg h1, if_neg h1, if_neg h3, if_neg h3, if_neg h4, if_neg h4, if_neg h6, if_neg h6]
            show (if 46 = 46 then (if b = 1 then nI s.p else if b = 3 then bi s.w else if b = 4 then s.m else if b = 6 then nI s.c else H.2.1 46 b) else if (46 : Nat) = 48 then s.f b else H.2.1 46 b) = H.2.1 46 b
            rw [if_pos rfl, if_neg h1, if_neg h3, if_neg h4, if_neg h6]
  · rw [if_neg ha, if_neg ha]
    by_cases h8 : a = 48
    · rw [if_pos h8, if_pos h8]
    · rw [if_neg h8, if_neg h8]
      show (if a = 46 then _ else if a = 48 then s.f b else H.2.1 a b) = _
      rw [if_neg ha, if_neg h8]
def rd0 (H : AH) : RD := (0, false, 9, 0, aI H 48)
/-- the four writes at the start of readAll -/
theorem rS_start (H : AH) : sI (sI (sI (sI H 46 1 0) 46 3 0) 46 4 9) 46 6 0 = rS H (rd0 H) := by
  show (H.1, (fun a b => aI (sI (sI (sI (sI H 46 1 0) 46 3 0) 46 4 9) 46 6 0) a b), H.2.2.1, H.2.2.2) = (H.1, (fun a b => aI (rS H (rd0 H)) a b), H.2.2.1, H.2.2.2)
  refine congrArg (fun f => (H.1, f, H.2.2.1, H.2.2.2)) (funext fun a => funext fun b => ?_)
  rw [aI_rS, gI, gI, gI, gI]
  by_cases ha : a = 46
  · subst ha
    rw [if_pos rfl]
    by_cases h6 : b = 6
    · subst h6; rfl
    · rw [if_neg (fun z => h6 z.2)]
      by_cases h4 : b = 4
      · subst h4; rfl
      · rw [if_neg (fun z => h4 z.2)]
        by_cases h3 : b = 3
        · subst h3; rfl
        · rw [if_neg (fun z => h3 z.2)]
          by_cases h1 : b = 1
          · subst h1; rfl
          · rw [if_neg (fun z => h1 z.2), if_neg h1, if_neg h3, if_neg h4, if_neg h6]
  · rw [if_neg (fun z => ha z.1), if_neg (fun z => ha z.1), if_neg (fun z => ha z.1), if_neg (fun z => ha z.1), if_neg ha]
    by_cases h8 : a = 48
    · rw [if_pos h8, h8]; rfl
    · rw [if_neg h8]
theorem w_all {d : Nat} {Q : Option Value → AH → Prop} (h : RdL H t) : Wp S (d + 27) 56 0 [.ref 46, hole] [] H Q = Q (some (.int (allB t (wayL t 9 (clauseR t (rd0 H)))))) (rS H (wayL t 9 (clauseR t (rd0 H)))) := by
  have k0 : okR t (rd0 H) := ⟨Nat.zero_le _, Nat.zero_le _⟩
  have h2 := fun Q => w_clause (S := S) (d := d) (Q := Q) h k0
  have ih := lp_all (S := S) (d := d) h 9 1 (clauseR t (rd0 H)) Q (by omega) (ok_clause k0)
  rw [show nI 1 = 1 from rfl] at ih
  have z01 : ((0 : Int32) = 0 ∨ (0 : Int32) = 1) = True := eq_true (Or.inl rfl)
  simp only [sX6_readAll_0, sX6_readAll_1, sX6_readAll_2, sX6_readAll_5, sX6_readAll_6, sX6_readAll_7, sX6_readAll_10, sX6_readAll_11, sX6_readAll_13, sX6_readAll_16, sX6_readAll_17, sX6_readAll_18, sX6_readAll_21, sX6_readAll_22 (st := []), sX6_readAll_25, sX6_readAll_26, sX6_readAll_28, sX6_readAll_30, sX6_readAll_33, sX6_readAll_67, sX6_readAll_34, sX6_readAll_68, sX6_readAll_37, sX6_readAll_71, sX6_readAll_40, sX6_readAll_74, sX6_readAll_89, sX6_readAll_41, sX6_readAll_75, sX6_readAll_90 (st := []), sX6_readAll_44, sX6_readAll_78, sX6_readAll_45, sX6_readAll_79, sX6_readAll_48, sX6_readAll_82, sX6_readAll_51, sX6_readAll_85, sX6_readAll_52, sX6_readAll_86, sX6_readAll_54 (st := []), sX6_readAll_57, sX6_readAll_58 (st := []), sX6_readAll_61, sX6_readAll_64, inb, nz_3, nz_4, nz_6, nz_8, nz_10, nz_100, nz_300, pushr_s, pushr_n, rv_s, rv_n, kd_sI, kd_sR, kd_sJ, sz_sI, sz_sR, sz_sJ, aR_sI, aJ_sI, aI_sR, aI_sJ, not_false_eq_true, true_and, and_true, true_or, or_true, or_false, false_or, eq_self, ite_true, ite_false, if_true, if_false, h.k46, z01, rS_start, kd_rS, h2, ih]
end RDR
