-- 46: the reference's reading: words, numbers, tests, the stack
def letL : List Int32 := heedL ++ deafL ++ manyL
def ReL (H : AH) (t : Txt) : Prop :=
  (MoL H) ∧
  (aI H 67 12 = nI t.1) ∧
  (∀ i, i < t.1 → aI H 73 i = t.2 i) ∧
  (∀ i, i < 12 → aI H 81 i = letL.getD i 0) ∧
  (t.1 ≤ 100)
theorem ReL.lay {H : AH} {t : Txt} (h : ReL H t) : MoL H := h.1
theorem ReL.n0 {H : AH} {t : Txt} (h : ReL H t) : aI H 67 12 = nI t.1 := h.2.1
theorem ReL.tx {H : AH} {t : Txt} (h : ReL H t) : ∀ i, i < t.1 → aI H 73 i = t.2 i := h.2.2.1
theorem ReL.le {H : AH} {t : Txt} (h : ReL H t) : ∀ i, i < 12 → aI H 81 i = letL.getD i 0 := h.2.2.2.1
theorem ReL.len {H : AH} {t : Txt} (h : ReL H t) : t.1 ≤ 100 := h.2.2.2.2
def appM (f : Nat → Int32) (c : Nat) : List Nat → Nat → Int32
  | [] => f
  | u :: U => appM (upd f c (enM u)) (c + 1) U
theorem appM_snoc (x : Nat) : ∀ (U : List Nat) (f : Nat → Int32) (c : Nat), appM f c (U ++ [x]) = upd (appM f c U) (c + U.length) (enM x)
  | [], f, c => rfl
  | u :: U, f, c => by
    show appM (upd f c (enM u)) (c + 1) (U ++ [x]) = upd (appM (upd f c (enM u)) (c + 1) U) (c + (U.length + 1)) (enM x)
    rw [appM_snoc x U, show c + 1 + U.length = c + (U.length + 1) by omega]
theorem appM_lt (U : List Nat) : ∀ (f : Nat → Int32) (c i : Nat), (i < c ∨ c + U.length ≤ i) → appM f c U i = f i := by
  induction U with
  | nil => intro f c i h; rfl
  | cons u U ih =>
    intro f c i h
    have h : i < c ∨ c + (U.length + 1) ≤ i := h
    show appM (upd f c (enM u)) (c + 1) U i = f i
    rw [ih _ _ _ (by omega), pk_un (by omega)]
theorem appM_at (U : List Nat) : ∀ (f : Nat → Int32) (c j : Nat), j < U.length → appM f c U (c + j) = enM (U.getD j 0) := by
  induction U with
  | nil => intro f c j h; exact absurd h (Nat.not_lt_zero _)
  | cons u U ih =>
    intro f c j h
    show appM (upd f c (enM u)) (c + 1) U (c + j) = _
    cases j with
    | zero => rw [appM_lt _ _ _ _ (by omega), Nat.add_zero, pk_us]; rfl
    | succ j =>
      rw [show c + (j + 1) = c + 1 + j by omega, ih _ _ _ (Nat.lt_of_succ_lt_succ h)]
      rfl
/-- the stack in its row -/
def Stk (W : Nat → Int32) : List Int32 → Prop
  | [] => True
  | x :: L => W L.length = x ∧ Stk W L
theorem Stk.up {W : Nat → Int32} {i : Nat} {v : Int32} : ∀ {L : List Int32}, Stk W L → L.length ≤ i → Stk (upd W i v) L
  | [], _, _ => trivial
  | x :: L, h, hi => ⟨by
      have hi : L.length + 1 ≤ i := hi
      rw [pk_un (by omega)]; exact h.1, h.2.up (Nat.le_trans (Nat.le_succ _) hi)⟩
def mk (s0 : MS) (p : Nat) (g : Int32) (L : List Int32) (W : Nat → Int32) (T : List Nat) : MS := (p, g, s0.n + T.length, L.length, opn L, W, appM s0.f s0.n T, s0.wd, s0.nu, s0.fr, s0.to, s0.cl)
section READ
variable {S : SC} {d : Nat} {H : AH} {Q : Option Value → AH → Prop} {t : Txt} {s : MS}
theorem m_next (h : ReL H t) (k : s.p ≤ t.1) : Wp S d 139 0 [.ref 67] [] (pS H s) Q = Q (some (.int (nx t s.p))) (pS H s) := by
  have hl := h.len
  unfold nx
  by_cases g : s.p < t.1
  · have g' : ¬ nI t.1 ≤ nI s.p := nI_ge g (by omega)
    have kc : (nI s.p).toNatClampNeg = s.p := nI_clamp (by omega)
    have k1 : ¬ (nI s.p < 0 ∨ 100 ≤ s.p) := inN (by omega) (by omega)
    rw [if_pos g]
    simp only [sX8_next_0, sX8_next_1, sX8_next_4, sX8_next_5, sX8_next_8, sX8_next_11, sX8_next_23, sX8_next_12, sX8_next_24 (st := []), sX8_next_15, sX8_next_16, sX8_next_19, sX8_next_20, inb, nz_3, nz_4, nz_6, nz_8, nz_10, nz_100, nz_300, pushr_s, pushr_n, rv_s, rv_n, kd_sI, kd_sR, kd_sJ, sz_sI, sz_sR, sz_sJ, aR_sI, aJ_sI, aI_sR, aI_sJ, not_false_eq_true, true_and, and_true, true_or, or_true, or_false, false_or, eq_self, ite_true, ite_false, if_true, if_false, kd_pS, sz_pS, aR_pS, pS_12, pS_13, pS_73, mk_67 h.lay, mr_15 h.lay, mk_73 h.lay, mz_73 h.lay, h.n0, g', kc, k1, h.tx _ g]
  · have g' : nI t.1 ≤ nI s.p := nI_le (by omega) (by omega)
    rw [if_neg g]
    simp only [sX8_next_0, sX8_next_1, sX8_next_4, sX8_next_5, sX8_next_8, sX8_next_11, sX8_next_23, sX8_next_12, sX8_next_24 (st := []), sX8_next_15, sX8_next_16, sX8_next_19, sX8_next_20, inb, nz_3, nz_4, nz_6, nz_8, nz_10, nz_100, nz_300, pushr_s, pushr_n, rv_s, rv_n, kd_sI, kd_sR, kd_sJ, sz_sI, sz_sR, sz_sJ, aR_sI, aJ_sI, aI_sR, aI_sJ, not_false_eq_true, true_and, and_true, true_or, or_true, or_false, false_or, eq_self, ite_true, ite_false, if_true, if_false, kd_pS, sz_pS, aR_pS, pS_12, pS_13, pS_73, mk_67 h.lay, mr_15 h.lay, mk_73 h.lay, mz_73 h.lay, h.n0, g']
theorem m_takes {x : Int32} (h : ReL H t) (k : s.p ≤ t.1) : Wp S (d + 1) 140 0 [.ref 67, .int x] [] (pS H s) Q = if nx t s.p = x then Q (some (.int 1)) (pS H (s.setp (s.p + 1))) else Q (some (.int 0)) (pS H s) := by
  have hn := fun Q => m_next (S := S) (d := d) (Q := Q) h k
  by_cases g : nx t s.p = x
  · rw [if_pos g]
    simp only [sX8_takes_0, sX8_takes_1 (st := []), sX8_takes_4, sX8_takes_5, sX8_takes_8, sX8_takes_10, sX8_takes_9 (st := []), sX8_takes_11, sX8_takes_12, sX8_takes_15, sX8_takes_16, sX8_takes_17, sX8_takes_20, sX8_takes_21 (st := []), inb, nz_3, nz_4, nz_6, nz_8, nz_10, nz_100, nz_300, pushr_s, pushr_n, rv_s, rv_n, kd_sI, kd_sR, kd_sJ, sz_sI, sz_sR, sz_sJ, aR_sI, aJ_sI, aI_sR, aI_sJ, not_false_eq_true, true_and, and_true, true_or, or_true, or_false, false_or, eq_self, ite_true, ite_false, if_true, if_false, kd_pS, mk_67 h.lay, hn, g, pS_13, nI_1, pSw_p]
  · rw [if_neg g]
    simp only [sX8_takes_0, sX8_takes_1 (st := []), sX8_takes_4, sX8_takes_5, sX8_takes_8, sX8_takes_10, sX8_takes_9 (st := []), sX8_takes_11, sX8_takes_12, sX8_takes_15, sX8_takes_16, sX8_takes_17, sX8_takes_20, sX8_takes_21 (st := []), inb, nz_3, nz_4, nz_6, nz_8, nz_10, nz_100, nz_300, pushr_s, pushr_n, rv_s, rv_n, kd_sI, kd_sR, kd_sJ, sz_sI, sz_sR, sz_sJ, aR_sI, aJ_sI, aI_sR, aI_sJ, not_false_eq_true, true_and, and_true, true_or, or_true, or_false, false_or, eq_self, ite_true, ite_false, if_true, if_false, kd_pS, mk_67 h.lay, hn, g]
theorem lp_mword {a : Nat} (h : ReL H t) (ha : a + 4 ≤ 12) (l : List Int32) (hl4 : l.length = 4) (hl : ∀ i, i < 4 → letL.getD (a + i) 0 = l.getD i 0) (hm : ∀ x ∈ l ++ [32], ¬ (-1 : Int32) = x) : ∀ (r : List Int32) (i : Nat) (s : MS), s.p ≤ t.1 → i + r.length = 4 → (∀ q, q < r.length → r.getD q 0 = l.getD (i + q) 0) →
    Wp S (d + 2) 141 2 [.ref 67, .int (nI a), .int 4, .int (nI i)] [] (pS H s) Q = Q (some (.int (bi (wdP t s.p (r ++ [32])).2))) (pS H (s.setp (wdP t s.p (r ++ [32])).1))
  | [], i, s, k, hi, hr => by
    have hi : i = 4 := hi
    have e : 4 ≤ nI i := nI_le (a := 4) (by omega) (by omega)
    have ht := fun Q => m_takes (S := S) (d := d) (Q := Q) (x := 32) h k
    rw [sX8_takesWord_2]
    simp only [sX8_takesWord_0, sX8_takesWord_1, sX8_takesWord_3, sX8_takesWord_4, sX8_takesWord_7, sX8_takesWord_30, sX8_takesWord_8, sX8_takesWord_31, sX8_takesWord_9, sX8_takesWord_33 (st := []), sX8_takesWord_12, sX8_takesWord_36 (st := []), sX8_takesWord_13, sX8_takesWord_14, sX8_takesWord_15, sX8_takesWord_16 (st := []), sX8_takesWord_19, sX8_takesWord_22, sX8_takesWord_24, sX8_takesWord_23 (st := []), sX8_takesWord_27, inb, nz_3, nz_4, nz_6, nz_8, nz_10, nz_100, nz_300, pushr_s, pushr_n, rv_s, rv_n, kd_sI, kd_sR, kd_sJ, sz_sI, sz_sR, sz_sJ, aR_sI, aJ_sI, aI_sR, aI_sJ, not_false_eq_true, true_and, and_true, true_or, or_true, or_false, false_or, eq_self, ite_true, ite_false, if_true, if_false, kd_pS, mk_67 h.lay, e, ht]
    show _ = Q (some (.int (bi (if nx t s.p = 32 then (s.p + 1, true) else (s.p, false)).2))) (pS H (s.setp (if nx t s.p = 32 then (s.p + 1, true) else (s.p, false)).1))
    by_cases g : nx t s.p = 32
    · rw [if_pos g, if_pos g]; rfl
    · rw [if_neg g, if_neg g]; rfl
  | x :: r, i, s, k, hi, hr => by
    have hi : i + (r.length + 1) = 4 := hi
    have e : ¬ 4 ≤ nI i := nI_ge (b := 4) (by omega) (by omega)
    have ex : l.getD i 0 = x := (hr 0 (by show 0 < r.length + 1; omega)).symm
    have kc : (nI (a + i)).toNatClampNeg = a + i := nI_clamp (by omega)
    have k1 : ¬ (nI (a + i) < 0 ∨ 12 ≤ a + i) := inN (by omega) (by omega)
    have el : aI H 81 (a + i) = x := by rw [h.le _ (by omega), hl i (by omega), ex]
    have hx : ¬ (-1 : Int32) = x := hm x (List.mem_append_left _ (by rw [← ex]; exact gD_mem l i 0 (by omega)))
    have ht := fun Q => m_takes (S := S) (d := d) (Q := Q) (x := x) h k
    rw [sX8_takesWord_2]
    show _ = Q (some (.int (bi (if nx t s.p = x then wdP t (s.p + 1) (r ++ [32]) else (s.p, false)).2))) (pS H (s.setp (if nx t s.p = x then wdP t (s.p + 1) (r ++ [32]) else (s.p, false)).1))
    by_cases g : nx t s.p = x
    · have hlt := nx_lt (t := t) (p := s.p) (by rw [g]; exact fun z => hx z.symm)
      have ih := lp_mword h ha l hl4 hl hm r (i + 1) (s.setp (s.p + 1)) (show s.p + 1 ≤ t.1 by omega) (by omega) (fun q hq => by
        have z := hr (q + 1) (by show q + 1 < r.length + 1; omega)
        rw [show i + (q + 1) = i + 1 + q by omega] at z
        exact z)
      rw [if_pos g]
      simp only [g, if_true] at ht
      simp only [sX8_takesWord_0, sX8_takesWord_1, sX8_takesWord_3, sX8_takesWord_4, sX8_takesWord_7, sX8_takesWord_30, sX8_takesWord_8, sX8_takesWord_31, sX8_takesWord_9, sX8_takesWord_33 (st := []), sX8_takesWord_12, sX8_takesWord_36 (st := []), sX8_takesWord_13, sX8_takesWord_14, sX8_takesWord_15, sX8_takesWord_16 (st := []), sX8_takesWord_19, sX8_takesWord_22, sX8_takesWord_24, sX8_takesWord_23 (st := []), sX8_takesWord_27, inb, nz_3, nz_4, nz_6, nz_8, nz_10, nz_100, nz_300, pushr_s, pushr_n, rv_s, rv_n, kd_sI, kd_sR, kd_sJ, sz_sI, sz_sR, sz_sJ, aR_sI, aJ_sI, aI_sR, aI_sJ, not_false_eq_true, true_and, and_true, true_or, or_true, or_false, false_or, eq_self, ite_true, ite_false, if_true, if_false, kd_pS, sz_pS, aR_pS, mk_67 h.lay, mr_26 h.lay, mk_81 h.lay, mz_81 h.lay, nI_add, kc, k1, pS_81, el, e, ht, nz_1, nI_1, ih]
      rfl
    · rw [if_neg g]
      simp only [g, if_false] at ht
      simp only [sX8_takesWord_0, sX8_takesWord_1, sX8_takesWord_3, sX8_takesWord_4, sX8_takesWord_7, sX8_takesWord_30, sX8_takesWord_8, sX8_takesWord_31, sX8_takesWord_9, sX8_takesWord_33 (st := []), sX8_takesWord_12, sX8_takesWord_36 (st := []), sX8_takesWord_13, sX8_takesWord_14, sX8_takesWord_15, sX8_takesWord_16 (st := []), sX8_takesWord_19, sX8_takesWord_22, sX8_takesWord_24, sX8_takesWord_23 (st := []), sX8_takesWord_27, inb, nz_3, nz_4, nz_6, nz_8, nz_10, nz_100, nz_300, pushr_s, pushr_n, rv_s, rv_n, kd_sI, kd_sR, kd_sJ, sz_sI, sz_sR, sz_sJ, aR_sI, aJ_sI, aI_sR, aI_sJ, not_false_eq_true, true_and, and_true, true_or, or_true, or_false, false_or, eq_self, ite_true, ite_false, if_true, if_false, kd_pS, sz_pS, aR_pS, mk_67 h.lay, mr_26 h.lay, mk_81 h.lay, mz_81 h.lay, nI_add, kc, k1, pS_81, el, e, ht]
      rfl
theorem m_word {a : Nat} (h : ReL H t) (ha : a + 4 ≤ 12) (l : List Int32) (hl4 : l.length = 4) (hl : ∀ i, i < 4 → letL.getD (a + i) 0 = l.getD i 0) (hm : ∀ x ∈ l ++ [32], ¬ (-1 : Int32) = x) (k : s.p ≤ t.1) : Wp S (d + 2) 141 0 [.ref 67, .int (nI a), .int 4, hole] [] (pS H s) Q = Q (some (.int (bi (wdP t s.p (l ++ [32])).2))) (pS H (s.setp (wdP t s.p (l ++ [32])).1)) := by
  have ih := lp_mword (S := S) (d := d) (Q := Q) h ha l hl4 hl hm l 0 s k (by omega) (fun q _ => by rw [Nat.zero_add])
  rw [nI_0] at ih
  simp only [sX8_takesWord_0, sX8_takesWord_1, sX8_takesWord_3, sX8_takesWord_4, sX8_takesWord_7, sX8_takesWord_30, sX8_takesWord_8, sX8_takesWord_31, sX8_takesWord_9, sX8_takesWord_33 (st := []), sX8_takesWord_12, sX8_takesWord_36 (st := []), sX8_takesWord_13, sX8_takesWord_14, sX8_takesWord_15, sX8_takesWord_16 (st := []), sX8_takesWord_19, sX8_takesWord_22, sX8_takesWord_24, sX8_takesWord_23 (st := []), sX8_takesWord_27, inb, nz_3, nz_4, nz_6, nz_8, nz_10, nz_100, nz_300, pushr_s, pushr_n, rv_s, rv_n, kd_sI, kd_sR, kd_sJ, sz_sI, sz_sR, sz_sJ, aR_sI, aJ_sI, aI_sR, aI_sJ, not_false_eq_true, true_and, and_true, true_or, or_true, or_false, false_or, eq_self, ite_true, ite_false, if_true, if_false, ih]
theorem m_isDigit (h : ReL H t) (k : s.p ≤ t.1) : Wp S (d + 1) 142 0 [.ref 67] [] (pS H s) Q = Q (some (.int (match dig (nx t s.p) with | some _ => 1 | none => 0))) (pS H s) := by
  have hn := fun Q => m_next (S := S) (d := d) (Q := Q) h k
  have hi := fun Q => m_in (S := S) (d := d) (H := pS H s) (Q := Q) (o := 67) (v := nx t s.p) (lo := 48) (hi := 57)
  simp only [sX8_isDigit_0, sX8_isDigit_1, sX8_isDigit_2 (st := []), sX8_isDigit_5, sX8_isDigit_7, sX8_isDigit_9 (st := []), sX8_isDigit_12 (st := []), inb, nz_3, nz_4, nz_6, nz_8, nz_10, nz_100, nz_300, pushr_s, pushr_n, rv_s, rv_n, kd_sI, kd_sR, kd_sJ, sz_sI, sz_sR, sz_sJ, aR_sI, aJ_sI, aI_sR, aI_sJ, not_false_eq_true, true_and, and_true, true_or, or_true, or_false, false_or, eq_self, ite_true, ite_false, if_true, if_false, kd_pS, mk_67 h.lay, hn, hi, inS01]
  unfold inS dig
  by_cases g1 : nx t s.p < 48
  · rw [if_pos g1, if_pos g1]
  · rw [if_neg g1, if_neg g1]
    by_cases g2 : 57 < nx t s.p
    · rw [if_pos g2, if_pos g2]
    · rw [if_neg g2, if_neg g2]
theorem lt_02 : ((2 : Int32) ≤ 0) = False := eq_false (by decide +kernel)
theorem lt_12 : ((2 : Int32) ≤ 1) = False := eq_false (by decide +kernel)
theorem lt_22 : ((2 : Int32) ≤ 2) = True := eq_true (by decide +kernel)
theorem m_number (h : ReL H t) (k : s.p ≤ t.1) : Wp S (d + 2) 143 0 [.ref 67, hole] [] (pS H s) Q = match numP t s.p with | (q, some n) => Q (some (.int 1)) (pS H ((s.setp q).setg (nI n))) | (_, none) => Q (some (.int 0)) (pS H s) := by
  have h1 := fun Q => m_isDigit (S := S) (d := d) (Q := Q) h k
  unfold numP
  cases g1 : dig (nx t s.p) with
  | none =>
    simp only [g1] at h1
    simp only [sX8_takesNumber_0, sX8_takesNumber_1 (st := []), sX8_takesNumber_4, sX8_takesNumber_7, sX8_takesNumber_9, sX8_takesNumber_8 (st := []), sX8_takesNumber_10, sX8_takesNumber_11, sX8_takesNumber_14, sX8_takesNumber_15, sX8_takesNumber_17, sX8_takesNumber_18, sX8_takesNumber_21, sX8_takesNumber_63, sX8_takesNumber_22 (st := []), sX8_takesNumber_64 (st := []), sX8_takesNumber_25, sX8_takesNumber_28, sX8_takesNumber_29, sX8_takesNumber_31, sX8_takesNumber_32, sX8_takesNumber_35, sX8_takesNumber_36, sX8_takesNumber_37 (st := []), sX8_takesNumber_40, sX8_takesNumber_41, sX8_takesNumber_43, sX8_takesNumber_44, sX8_takesNumber_47, sX8_takesNumber_48, sX8_takesNumber_49, sX8_takesNumber_52, sX8_takesNumber_53, sX8_takesNumber_54, sX8_takesNumber_57, sX8_takesNumber_60, inb, nz_3, nz_4, nz_6, nz_8, nz_10, nz_100, nz_300, pushr_s, pushr_n, rv_s, rv_n, kd_sI, kd_sR, kd_sJ, sz_sI, sz_sR, sz_sJ, aR_sI, aJ_sI, aI_sR, aI_sJ, not_false_eq_true, true_and, and_true, true_or, or_true, or_false, false_or, eq_self, ite_true, ite_false, if_true, if_false, kd_pS, mk_67 h.lay, h1]
  | some a =>
    obtain ⟨a9, a1, a2⟩ := dig_ok g1
    have hlt := nx_lt a1
    simp only [g1] at h1
    have k2 : (s.setg 0).p ≤ t.1 := k
    have h2 := fun Q => m_isDigit (S := S) (d := d) (Q := Q) h k2
    have n2 := fun Q => m_next (S := S) (d := d + 1) (Q := Q) h k2
    have e2 : nx t (s.setg 0).p = nx t s.p := rfl
    simp only [e2, g1] at h2 n2
    have v1 : (10 : Int32) * 0 + nx t s.p - 48 = nI a := by rw [a2]; exact (show ∀ a, a ≤ 9 → (10 : Int32) * 0 + nI (48 + a) - 48 = nI a by decide +kernel) a a9
    have k3 : ((s.setg (nI a)).setp (s.p + 1)).p ≤ t.1 := hlt
    have h3 := fun Q => m_isDigit (S := S) (d := d) (Q := Q) h k3
    have n3 := fun Q => m_next (S := S) (d := d + 1) (Q := Q) h k3
    have e3 : nx t ((s.setg (nI a)).setp (s.p + 1)).p = nx t (s.p + 1) := rfl
    have c1 : (s.setg 0).setg (nI a) = s.setg (nI a) := rfl
    have c2 : (s.setg (nI a)).p = s.p := rfl
    have c3 : (s.setg 0).g = 0 := rfl
    have c4 : (s.setg 0).p = s.p := rfl
    have p0 : (0 : Int32) + 1 = 1 := by decide +kernel
    have p1 : (1 : Int32) + 1 = 2 := by decide +kernel
    cases g2 : dig (nx t (s.p + 1)) with
    | none =>
      simp only [e3, g2] at h3 n3
      simp only [sX8_takesNumber_0, sX8_takesNumber_1 (st := []), sX8_takesNumber_4, sX8_takesNumber_7, sX8_takesNumber_9, sX8_takesNumber_8 (st := []), sX8_takesNumber_10, sX8_takesNumber_11, sX8_takesNumber_14, sX8_takesNumber_15, sX8_takesNumber_16, sX8_takesNumber_17, sX8_takesNumber_18, sX8_takesNumber_21, sX8_takesNumber_63, sX8_takesNumber_22 (st := []), sX8_takesNumber_64 (st := []), sX8_takesNumber_25, sX8_takesNumber_28, sX8_takesNumber_29, sX8_takesNumber_31, sX8_takesNumber_32, sX8_takesNumber_35, sX8_takesNumber_36, sX8_takesNumber_37 (st := []), sX8_takesNumber_40, sX8_takesNumber_41, sX8_takesNumber_43, sX8_takesNumber_44, sX8_takesNumber_47, sX8_takesNumber_48, sX8_takesNumber_49, sX8_takesNumber_52, sX8_takesNumber_53, sX8_takesNumber_54, sX8_takesNumber_57, sX8_takesNumber_60, inb, nz_3, nz_4, nz_6, nz_8, nz_10, nz_100, nz_300, pushr_s, pushr_n, rv_s, rv_n, kd_sI, kd_sR, kd_sJ, sz_sI, sz_sR, sz_sJ, aR_sI, aJ_sI, aI_sR, aI_sJ, not_false_eq_true, true_and, and_true, true_or, or_true, or_false, false_or, eq_self, ite_true, ite_false, if_true, if_false, kd_pS, mk_67 h.lay, h1, h2, n2, h3, n3, nz_1, lt_02, lt_12, p0, pS_13, pS_14, pSw_g, pSw_p, c1, c2, c3, c4, v1, nI_1]
      rfl
    | some b =>
      obtain ⟨b9, b1, b2⟩ := dig_ok g2
      have c5 : ((s.setg (nI a)).setp (s.p + 1)).g = nI a := rfl
      have c6 : ((s.setg (nI a)).setp (s.p + 1)).p = s.p + 1 := rfl
      have v2 : (10 : Int32) * nI a + nx t (s.p + 1) - 48 = nI (10 * a + b) := by rw [b2]; exact (show ∀ a, a ≤ 9 → ∀ b, b ≤ 9 → (10 : Int32) * nI a + nI (48 + b) - 48 = nI (10 * a + b) by decide +kernel) a a9 b b9
      have c7 : (((s.setg (nI a)).setp (s.p + 1)).setg (nI (10 * a + b))).p = s.p + 1 := rfl
      simp only [e3, g2] at h3 n3
      simp only [sX8_takesNumber_0, sX8_takesNumber_1 (st := []), sX8_takesNumber_4, sX8_takesNumber_7, sX8_takesNumber_9, sX8_takesNumber_8 (st := []), sX8_takesNumber_10, sX8_takesNumber_11, sX8_takesNumber_14, sX8_takesNumber_15, sX8_takesNumber_16, sX8_takesNumber_17, sX8_takesNumber_18, sX8_takesNumber_21, sX8_takesNumber_63, sX8_takesNumber_22 (st := []), sX8_takesNumber_64 (st := []), sX8_takesNumber_25, sX8_takesNumber_28, sX8_takesNumber_29, sX8_takesNumber_31, sX8_takesNumber_32, sX8_takesNumber_35, sX8_takesNumber_36, sX8_takesNumber_37 (st := []), sX8_takesNumber_40, sX8_takesNumber_41, sX8_takesNumber_43, sX8_takesNumber_44, sX8_takesNumber_47, sX8_takesNumber_48, sX8_takesNumber_49, sX8_takesNumber_52, sX8_takesNumber_53, sX8_takesNumber_54, sX8_takesNumber_57, sX8_takesNumber_60, inb, nz_3, nz_4, nz_6, nz_8, nz_10, nz_100, nz_300, pushr_s, pushr_n, rv_s, rv_n, kd_sI, kd_sR, kd_sJ, sz_sI, sz_sR, sz_sJ, aR_sI, aJ_sI, aI_sR, aI_sJ, not_false_eq_true, true_and, and_true, true_or, or_true, or_false, false_or, eq_self, ite_true, ite_false, if_true, if_false, kd_pS, mk_67 h.lay, h1, h2, n2, h3, n3, nz_1, lt_02, lt_12, lt_22, p0, p1, pS_13, pS_14, pSw_g, pSw_p, c1, c2, c3, c4, c5, c6, c7, v1, v2, nI_1]
      rfl
theorem m_emits {v : Int32} (h : ReL H t) (hn : s.n < 600) : Wp S d 144 0 [.ref 67, .int v] [] (pS H s) Q = Q none (pS H ((s.setf (upd s.f s.n v)).setn (s.n + 1))) := by
  have kc : (nI s.n).toNatClampNeg = s.n := nI_clamp (by omega)
  have k1 : ¬ (nI s.n < 0 ∨ 600 ≤ s.n) := inN (by omega) (by omega)
  simp only [sX8_emits_0, sX8_emits_1, sX8_emits_4, sX8_emits_5, sX8_emits_8, sX8_emits_9, sX8_emits_10, sX8_emits_11, sX8_emits_12, sX8_emits_15, sX8_emits_16, sX8_emits_17, sX8_emits_20 (st := []), inb, nz_3, nz_4, nz_6, nz_8, nz_10, nz_100, nz_300, pushr_s, pushr_n, rv_s, rv_n, kd_sI, kd_sR, kd_sJ, sz_sI, sz_sR, sz_sJ, aR_sI, aJ_sI, aI_sR, aI_sJ, not_false_eq_true, true_and, and_true, true_or, or_true, or_false, false_or, eq_self, ite_true, ite_false, if_true, if_false, kd_pS, sz_pS, aR_pS, mk_67 h.lay, mr_21 h.lay, mk_79 h.lay, mz_79 h.lay, pS_23, kc, k1, pSw_f]
  rw [show (s.setf (upd s.f s.n v)).n = s.n from rfl, nI_1, pSw_n]
theorem mk_emit {s0 : MS} {p : Nat} {g : Int32} {L : List Int32} {W : Nat → Int32} {T : List Nat} {x : Nat} : ((mk s0 p g L W T).setf (upd (mk s0 p g L W T).f (mk s0 p g L W T).n (enM x))).setn ((mk s0 p g L W T).n + 1) = mk s0 p g L W (T ++ [x]) := by
  show (p, g, s0.n + T.length + 1, L.length, opn L, W, upd (appM s0.f s0.n T) (s0.n + T.length) (enM x), s0.wd, s0.nu, s0.fr, s0.to, s0.cl) = (p, g, s0.n + (T ++ [x]).length, L.length, opn L, W, appM s0.f s0.n (T ++ [x]), s0.wd, s0.nu, s0.fr, s0.to, s0.cl)
  rw [appM_snoc, List.length_append]
  rfl
theorem m_whole {s0 : MS} {p : Nat} {g : Int32} {W : Nat → Int32} (h : ReL H t) : ∀ (L : List Int32) (T : List Nat), Stk W L → s0.n + T.length + L.length ≤ 600 → L.length ≤ 101 → Wp S (d + 1) 145 0 [.ref 67] [] (pS H (mk s0 p g L W T)) Q = Q none (pS H (mk s0 p g (wholeP L T).1 W (wholeP L T).2))
  | [], T, hS, hn, hl => by
    have e : (mk s0 p g [] W T).k = 0 := rfl
    have e0 : nI 0 ≤ 0 := by decide +kernel
    rw [sX8_whole_0]
    simp only [sX8_whole_1, sX8_whole_4, sX8_whole_7, sX8_whole_52 (st := []), sX8_whole_8, sX8_whole_11, sX8_whole_12, sX8_whole_15, sX8_whole_16, sX8_whole_17, sX8_whole_18, sX8_whole_20, sX8_whole_23, sX8_whole_24, sX8_whole_26 (st := []), sX8_whole_29, sX8_whole_30, sX8_whole_31, sX8_whole_34, sX8_whole_35, sX8_whole_36, sX8_whole_39, sX8_whole_40, sX8_whole_41, sX8_whole_44, sX8_whole_45, sX8_whole_46, sX8_whole_49, inb, nz_3, nz_4, nz_6, nz_8, nz_10, nz_100, nz_300, pushr_s, pushr_n, rv_s, rv_n, kd_sI, kd_sR, kd_sJ, sz_sI, sz_sR, sz_sJ, aR_sI, aJ_sI, aI_sR, aI_sJ, not_false_eq_true, true_and, and_true, true_or, or_true, or_false, false_or, eq_self, ite_true, ite_false, if_true, if_false, kd_pS, mk_67 h.lay, pS_24, e, e0]
    rfl
  | x :: L, T, hS, hn, hl => by
    have hn : s0.n + T.length + (L.length + 1) ≤ 600 := hn
    have hl : L.length + 1 ≤ 101 := hl
    have e : (mk s0 p g (x :: L) W T).k = L.length + 1 := rfl
    have eo : (mk s0 p g (x :: L) W T).o = opn (x :: L) := rfl
    have e0 : ¬ nI (L.length + 1) ≤ 0 := nI_nle (by omega) (by omega)
    have e1 : nI (L.length + 1) - 1 = nI L.length := nI_pred _
    have kc : (nI L.length).toNatClampNeg = L.length := nI_clamp (by omega)
    have k1 : ¬ (nI L.length < 0 ∨ 101 ≤ L.length) := inN (by omega) (by omega)
    have ew : (mk s0 p g (x :: L) W T).W L.length = x := hS.1
    rw [sX8_whole_0]
    by_cases g33 : x = 33
    · subst g33
      have he := fun Q => m_emits (S := S) (d := d) (Q := Q) (v := enM 2400) (s := mk s0 p g (33 :: L) W T) h (by show s0.n + T.length < 600; omega)
      rw [show enM 2400 = (-33 : Int32) from rfl] at he
      have hm := mk_emit (s0 := s0) (p := p) (g := g) (L := 33 :: L) (W := W) (T := T) (x := 2400)
      rw [show enM 2400 = (-33 : Int32) from rfl] at hm
      rw [hm] at he
      have ih := m_whole (s0 := s0) (p := p) (g := g) h L (T ++ [2400]) hS.2 (by rw [List.length_append]; show s0.n + (T.length + 1) + L.length ≤ 600; omega) (by omega)
      have f1 : (mk s0 p g (33 :: L) W (T ++ [2400])).k = L.length + 1 := rfl
      have f2 : ((mk s0 p g (33 :: L) W (T ++ [2400])).setk L.length).o = opn L + 1 := by show opn (33 :: L) = _; rw [opn_33, Nat.add_comm]
      have f3 : nI (opn L + 1) - 1 = nI (opn L) := nI_pred _
      have f4 : ((mk s0 p g (33 :: L) W (T ++ [2400])).setk L.length).seto (opn L) = mk s0 p g L W (T ++ [2400]) := rfl
      simp only [sX8_whole_1, sX8_whole_4, sX8_whole_7, sX8_whole_52 (st := []), sX8_whole_8, sX8_whole_11, sX8_whole_12, sX8_whole_15, sX8_whole_16, sX8_whole_17, sX8_whole_18, sX8_whole_20, sX8_whole_23, sX8_whole_24, sX8_whole_26 (st := []), sX8_whole_29, sX8_whole_30, sX8_whole_31, sX8_whole_34, sX8_whole_35, sX8_whole_36, sX8_whole_39, sX8_whole_40, sX8_whole_41, sX8_whole_44, sX8_whole_45, sX8_whole_46, sX8_whole_49, inb, nz_3, nz_4, nz_6, nz_8, nz_10, nz_100, nz_300, pushr_s, pushr_n, rv_s, rv_n, kd_sI, kd_sR, kd_sJ, sz_sI, sz_sR, sz_sJ, aR_sI, aJ_sI, aI_sR, aI_sJ, not_false_eq_true, true_and, and_true, true_or, or_true, or_false, false_or, eq_self, ite_true, ite_false, if_true, if_false, kd_pS, sz_pS, aR_pS, mk_67 h.lay, mr_22 h.lay, mk_80 h.lay, mz_80 h.lay, pS_24, pS_25, pS_80, e, e0, e1, kc, k1, ew, he, f1, pSw_k, f2, f3, pSw_o, f4, ih, whole_not]
    · simp only [sX8_whole_1, sX8_whole_4, sX8_whole_7, sX8_whole_52 (st := []), sX8_whole_8, sX8_whole_11, sX8_whole_12, sX8_whole_15, sX8_whole_16, sX8_whole_17, sX8_whole_18, sX8_whole_20, sX8_whole_23, sX8_whole_24, sX8_whole_26 (st := []), sX8_whole_29, sX8_whole_30, sX8_whole_31, sX8_whole_34, sX8_whole_35, sX8_whole_36, sX8_whole_39, sX8_whole_40, sX8_whole_41, sX8_whole_44, sX8_whole_45, sX8_whole_46, sX8_whole_49, inb, nz_3, nz_4, nz_6, nz_8, nz_10, nz_100, nz_300, pushr_s, pushr_n, rv_s, rv_n, kd_sI, kd_sR, kd_sJ, sz_sI, sz_sR, sz_sJ, aR_sI, aJ_sI, aI_sR, aI_sJ, not_false_eq_true, true_and, and_true, true_or, or_true, or_false, false_or, eq_self, ite_true, ite_false, if_true, if_false, kd_pS, sz_pS, aR_pS, mk_67 h.lay, mr_22 h.lay, mk_80 h.lay, mz_80 h.lay, pS_24, pS_80, e, e0, e1, kc, k1, ew, g33, whole_ne g33]
theorem m_settle {s0 : MS} {p : Nat} {g y : Int32} {W : Nat → Int32} (h : ReL H t) : ∀ (L : List Int32) (T : List Nat), Stk W L → s0.n + T.length + L.length ≤ 600 → L.length ≤ 101 → Wp S (d + 1) 146 0 [.ref 67, .int y] [] (pS H (mk s0 p g L W T)) Q = Q none (pS H (mk s0 p g (settleP y L T).1 W (settleP y L T).2))
  | [], T, hS, hn, hl => by
    have e : (mk s0 p g [] W T).k = 0 := rfl
    have e0 : nI 0 ≤ 0 := by decide +kernel
    rw [sX8_settle_0]
    simp only [sX8_settle_1, sX8_settle_4, sX8_settle_7, sX8_settle_72 (st := []), sX8_settle_8, sX8_settle_11, sX8_settle_12, sX8_settle_15, sX8_settle_16, sX8_settle_17, sX8_settle_18, sX8_settle_20, sX8_settle_23, sX8_settle_45, sX8_settle_24, sX8_settle_46, sX8_settle_27, sX8_settle_47, sX8_settle_28, sX8_settle_50, sX8_settle_31, sX8_settle_51, sX8_settle_32, sX8_settle_52, sX8_settle_33, sX8_settle_55, sX8_settle_34, sX8_settle_56, sX8_settle_36, sX8_settle_57, sX8_settle_39, sX8_settle_60, sX8_settle_40, sX8_settle_61, sX8_settle_42, sX8_settle_64, sX8_settle_65, sX8_settle_66 (st := []), sX8_settle_69, inb, nz_3, nz_4, nz_6, nz_8, nz_10, nz_100, nz_300, pushr_s, pushr_n, rv_s, rv_n, kd_sI, kd_sR, kd_sJ, sz_sI, sz_sR, sz_sJ, aR_sI, aJ_sI, aI_sR, aI_sJ, not_false_eq_true, true_and, and_true, true_or, or_true, or_false, false_or, eq_self, ite_true, ite_false, if_true, if_false, kd_pS, mk_67 h.lay, pS_24, e, e0]
    rfl
  | x :: L, T, hS, hn, hl => by
    have hn : s0.n + T.length + (L.length + 1) ≤ 600 := hn
    have hl : L.length + 1 ≤ 101 := hl
    have e : (mk s0 p g (x :: L) W T).k = L.length + 1 := rfl
    have e0 : ¬ nI (L.length + 1) ≤ 0 := nI_nle (by omega) (by omega)
    have e1 : nI (L.length + 1) - 1 = nI L.length := nI_pred _
    have kc : (nI L.length).toNatClampNeg = L.length := nI_clamp (by omega)
    have k1 : ¬ (nI L.length < 0 ∨ 101 ≤ L.length) := inN (by omega) (by omega)
    have ew : (mk s0 p g (x :: L) W T).W L.length = x := hS.1
    have ew2 : ((mk s0 p g (x :: L) W T).setk L.length).W L.length = x := hS.1
    have ek : ((mk s0 p g (x :: L) W T).setk L.length).k = L.length := rfl
    have pop : ∀ (z : Nat), (x = 38 ∨ x = 124) → -x = enM z → ∀ Q, Wp S d 144 0 [.ref 67, .int (-x)] [] (pS H ((mk s0 p g (x :: L) W T).setk L.length)) Q = Q none (pS H (mk s0 p g L W (T ++ [z]))) := fun z hx hz Q => by
      have eo : opn (x :: L) = opn L := by
        show (if x = 33 then 1 else if x = 40 then 1 else 0) + opn L = opn L
        rcases hx with rfl | rfl
        · rw [if_neg (by decide +kernel), if_neg (by decide +kernel), Nat.zero_add]
        · rw [if_neg (by decide +kernel), if_neg (by decide +kernel), Nat.zero_add]
      have es : (mk s0 p g (x :: L) W T).setk L.length = mk s0 p g L W T := by
        show (p, g, s0.n + T.length, L.length, opn (x :: L), W, appM s0.f s0.n T, s0.wd, s0.nu, s0.fr, s0.to, s0.cl) = _
        rw [eo]
        rfl
      rw [es, m_emits h (by show s0.n + T.length < 600; omega), hz, mk_emit]
    have lT : ∀ z : Nat, s0.n + (T ++ [z]).length + L.length ≤ 600 := fun z => by rw [List.length_append]; show s0.n + (T.length + 1) + L.length ≤ 600; omega
    rw [sX8_settle_0]
    by_cases g38 : x = 38
    · have he := pop 1800 (Or.inl g38) (by rw [g38]; rfl)
      have ih := m_settle (s0 := s0) (p := p) (g := g) (y := y) h L (T ++ [1800]) hS.2 (lT _) (by omega)
      subst g38
      simp only [sX8_settle_1, sX8_settle_4, sX8_settle_7, sX8_settle_72 (st := []), sX8_settle_8, sX8_settle_11, sX8_settle_12, sX8_settle_15, sX8_settle_16, sX8_settle_17, sX8_settle_18, sX8_settle_20, sX8_settle_23, sX8_settle_45, sX8_settle_24, sX8_settle_46, sX8_settle_27, sX8_settle_47, sX8_settle_28, sX8_settle_50, sX8_settle_31, sX8_settle_51, sX8_settle_32, sX8_settle_52, sX8_settle_33, sX8_settle_55, sX8_settle_34, sX8_settle_56, sX8_settle_36, sX8_settle_57, sX8_settle_39, sX8_settle_60, sX8_settle_40, sX8_settle_61, sX8_settle_42, sX8_settle_64, sX8_settle_65, sX8_settle_66 (st := []), sX8_settle_69, inb, nz_3, nz_4, nz_6, nz_8, nz_10, nz_100, nz_300, pushr_s, pushr_n, rv_s, rv_n, kd_sI, kd_sR, kd_sJ, sz_sI, sz_sR, sz_sJ, aR_sI, aJ_sI, aI_sR, aI_sJ, not_false_eq_true, true_and, and_true, true_or, or_true, or_false, false_or, eq_self, ite_true, ite_false, if_true, if_false, kd_pS, sz_pS, aR_pS, mk_67 h.lay, mr_22 h.lay, mk_80 h.lay, mz_80 h.lay, pS_24, pS_80, e, e0, e1, kc, k1, ew, pSw_k, ew2, ek, he, ih, settle_and]
    · by_cases g124 : x = 124
      · have ne : ((124 : Int32) = 38) = False := eq_false (by decide +kernel)
        by_cases gy : y = 38
        · subst g124 gy
          simp only [sX8_settle_1, sX8_settle_4, sX8_settle_7, sX8_settle_72 (st := []), sX8_settle_8, sX8_settle_11, sX8_settle_12, sX8_settle_15, sX8_settle_16, sX8_settle_17, sX8_settle_18, sX8_settle_20, sX8_settle_23, sX8_settle_45, sX8_settle_24, sX8_settle_46, sX8_settle_27, sX8_settle_47, sX8_settle_28, sX8_settle_50, sX8_settle_31, sX8_settle_51, sX8_settle_32, sX8_settle_52, sX8_settle_33, sX8_settle_55, sX8_settle_34, sX8_settle_56, sX8_settle_36, sX8_settle_57, sX8_settle_39, sX8_settle_60, sX8_settle_40, sX8_settle_61, sX8_settle_42, sX8_settle_64, sX8_settle_65, sX8_settle_66 (st := []), sX8_settle_69, inb, nz_3, nz_4, nz_6, nz_8, nz_10, nz_100, nz_300, pushr_s, pushr_n, rv_s, rv_n, kd_sI, kd_sR, kd_sJ, sz_sI, sz_sR, sz_sJ, aR_sI, aJ_sI, aI_sR, aI_sJ, not_false_eq_true, true_and, and_true, true_or, or_true, or_false, false_or, eq_self, ite_true, ite_false, if_true, if_false, kd_pS, sz_pS, aR_pS, mk_67 h.lay, mr_22 h.lay, mk_80 h.lay, mz_80 h.lay, pS_24, pS_80, e, e0, e1, kc, k1, ew, ne, settle_or2]
        · have he := pop 2100 (Or.inr g124) (by rw [g124]; rfl)
          have ih := m_settle (s0 := s0) (p := p) (g := g) (y := y) h L (T ++ [2100]) hS.2 (lT _) (by omega)
          subst g124
          simp only [sX8_settle_1, sX8_settle_4, sX8_settle_7, sX8_settle_72 (st := []), sX8_settle_8, sX8_settle_11, sX8_settle_12, sX8_settle_15, sX8_settle_16, sX8_settle_17, sX8_settle_18, sX8_settle_20, sX8_settle_23, sX8_settle_45, sX8_settle_24, sX8_settle_46, sX8_settle_27, sX8_settle_47, sX8_settle_28, sX8_settle_50, sX8_settle_31, sX8_settle_51, sX8_settle_32, sX8_settle_52, sX8_settle_33, sX8_settle_55, sX8_settle_34, sX8_settle_56, sX8_settle_36, sX8_settle_57, sX8_settle_39, sX8_settle_60, sX8_settle_40, sX8_settle_61, sX8_settle_42, sX8_settle_64, sX8_settle_65, sX8_settle_66 (st := []), sX8_settle_69, inb, nz_3, nz_4, nz_6, nz_8, nz_10, nz_100, nz_300, pushr_s, pushr_n, rv_s, rv_n, kd_sI, kd_sR, kd_sJ, sz_sI, sz_sR, sz_sJ, aR_sI, aJ_sI, aI_sR, aI_sJ, not_false_eq_true, true_and, and_true, true_or, or_true, or_false, false_or, eq_self, ite_true, ite_false, if_true, if_false, kd_pS, sz_pS, aR_pS, mk_67 h.lay, mr_22 h.lay, mk_80 h.lay, mz_80 h.lay, pS_24, pS_80, e, e0, e1, kc, k1, ew, ne, gy, pSw_k, ew2, ek, he, ih, settle_or gy]
      · have e5 : settleP y (x :: L) T = (x :: L, T) := by
          show (if x = 38 then settleP y L (T ++ [1800]) else if x = 124 then (if y = 38 then (x :: L, T) else settleP y L (T ++ [2100])) else (x :: L, T)) = _
          rw [if_neg g38, if_neg g124]
        simp only [sX8_settle_1, sX8_settle_4, sX8_settle_7, sX8_settle_72 (st := []), sX8_settle_8, sX8_settle_11, sX8_settle_12, sX8_settle_15, sX8_settle_16, sX8_settle_17, sX8_settle_18, sX8_settle_20, sX8_settle_23, sX8_settle_45, sX8_settle_24, sX8_settle_46, sX8_settle_27, sX8_settle_47, sX8_settle_28, sX8_settle_50, sX8_settle_31, sX8_settle_51, sX8_settle_32, sX8_settle_52, sX8_settle_33, sX8_settle_55, sX8_settle_34, sX8_settle_56, sX8_settle_36, sX8_settle_57, sX8_settle_39, sX8_settle_60, sX8_settle_40, sX8_settle_61, sX8_settle_42, sX8_settle_64, sX8_settle_65, sX8_settle_66 (st := []), sX8_settle_69, inb, nz_3, nz_4, nz_6, nz_8, nz_10, nz_100, nz_300, pushr_s, pushr_n, rv_s, rv_n, kd_sI, kd_sR, kd_sJ, sz_sI, sz_sR, sz_sJ, aR_sI, aJ_sI, aI_sR, aI_sJ, not_false_eq_true, true_and, and_true, true_or, or_true, or_false, false_or, eq_self, ite_true, ite_false, if_true, if_false, kd_pS, sz_pS, aR_pS, mk_67 h.lay, mr_22 h.lay, mk_80 h.lay, mz_80 h.lay, pS_24, pS_80, e, e0, e1, kc, k1, ew, g38, g124, e5]
end READ
