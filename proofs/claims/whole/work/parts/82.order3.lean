-- 82: order: the component's search is the depth-first fold
def jO (o i : Nat) : Prop := (o = 49 ∧ i = 0) ∨ o = 50 ∨ o = 51
def RlC (N : Nat) (H : AH) (s : OpS) : Prop := match s with
  | none => aI H 49 0 = 256
  | some q => aI H 49 0 = nI q.1 ∧ q.1 ≤ 8 ∧ ∀ j, j < N → aI H 50 j = nI (q.2 j)
def SrC (A : AS) (c : Int32) (p : Nat) (b : Nat) (s : OpS) (H : AH) : Prop :=
  (StA H 1 A) ∧
  (CoL H) ∧
  (aI H 49 3 = c) ∧
  (∀ j, j < p → aI H 51 j = nI (dgp p b j)) ∧
  (RlC A.N H s)
theorem SrC.sa {A : AS} {c : Int32} {p : Nat} {b : Nat} {s : OpS} {H : AH} (h : SrC A c p b s H) : StA H 1 A := h.1
theorem SrC.X {A : AS} {c : Int32} {p : Nat} {b : Nat} {s : OpS} {H : AH} (h : SrC A c p b s H) : CoL H := h.2.1
theorem SrC.c3 {A : AS} {c : Int32} {p : Nat} {b : Nat} {s : OpS} {H : AH} (h : SrC A c p b s H) : aI H 49 3 = c := h.2.2.1
theorem SrC.tr {A : AS} {c : Int32} {p : Nat} {b : Nat} {s : OpS} {H : AH} (h : SrC A c p b s H) : ∀ j, j < p → aI H 51 j = nI (dgp p b j) := h.2.2.2.1
theorem SrC.rl {A : AS} {c : Int32} {p : Nat} {b : Nat} {s : OpS} {H : AH} (h : SrC A c p b s H) : RlC A.N H s := h.2.2.2.2
theorem tb_and {m i : Nat} (hm : m < 64) (hi : i < 6) : (m &&& 2 ^ i = 0 ↔ m.testBit i = false) ∧ m ||| 2 ^ i < 64 :=
  (show ∀ m, m < 64 → ∀ i, i < 6 → (m &&& 2 ^ i = 0 ↔ m.testBit i = false) ∧ m ||| 2 ^ i < 64 by decide +kernel) m hm i hi
section SEARCH
variable {S : SC} {A : AS} {H : AH}
theorem StA.jo {H' : AH} (h : StA H 1 A) (f : Fr jO H H') : StA H' 1 A := h.fr f (fun o i z => ⟨fun _ _ => by unfold jO at z; omega, by unfold jO at z; omega⟩)
theorem jO_jC {o i : Nat} (h : jO o i) : jC o i := by unfold jO at h; unfold jC; omega
theorem rlc_lt {N v : Nat} {t : Nat → Nat} {s : OpS} (hv : v ≤ 8) (r : RlC N H s) : (nI v < aI H 49 0 ∧ tkO v t s = some (v, t)) ∨ (¬ nI v < aI H 49 0 ∧ tkO v t s = s) := by
  cases s with
  | none =>
    have r : aI H 49 0 = 256 := r
    exact Or.inl ⟨by rw [r]; exact nI_lt (b := 256) (by omega) (by decide), rfl⟩
  | some q =>
    have r : aI H 49 0 = nI q.1 ∧ q.1 ≤ 8 ∧ ∀ j, j < N → aI H 50 j = nI (q.2 j) := r
    have h8 := r.2.1
    by_cases h : v < q.1
    · exact Or.inl ⟨by rw [r.1]; exact nI_lt h (by omega), if_pos h⟩
    · exact Or.inr ⟨by rw [r.1]; exact nI_nlt (by omega) (by omega), if_neg h⟩
theorem w_take {d v b : Nat} {c : Int32} {s : OpS} (w : Wf A) (q : SrC A c A.N b s H) (hv : v ≤ 8) : ∃ H', Fr jO H H' ∧ SrC A c A.N b (tkO v (dgp A.N b) s) H' ∧ ∀ Q, Wp S d 11 0 [.ref 49, .int (nI v)] [] H Q = Q none H' := by
  have hN := w.hN
  rcases rlc_lt (t := dgp A.N b) hv q.rl with ⟨e, e2⟩ | ⟨e, e2⟩
  · rw [e2]
    have f1 : Fr jO H (sI H 49 0 (nI v)) := Fr.wI _ (Or.inl ⟨rfl, rfl⟩)
    have f2 : Fr jO (sI H 49 0 (nI v)) (cI (sI H 49 0 (nI v)) 51 0 50 0 6) := Fr.wC _ _ _ _ (fun _ => Or.inr (Or.inl rfl))
    have f := f1.trans f2
    have cp : cpOk (sI H 49 0 (nI v)) 51 0 50 0 6 := cpOk_0 (n := 6) (by show 6 ≤ sz H 51; rw [q.X.z51]; decide) (by show 6 ≤ sz H 50; rw [q.X.z50]; decide) (by decide)
    have z0 : (0 : Int32).toNatClampNeg = 0 := nI_clamp0
    have z6 : (6 : Int32).toNatClampNeg = 6 := by decide +kernel
    refine ⟨_, f, ⟨q.sa.jo f, q.X.fr f, (f.I 49 3 (by unfold jO; omega)).trans q.c3, fun j hj => ?_, ?_, hv, fun j hj => ?_⟩, fun Q => ?_⟩
    · rw [gcI, if_neg (by decide), gIn (by omega)]; exact q.tr j hj
    · exact (gcI _ _ _ _ _ _ _ _).trans ((if_neg (by decide)).trans gIs)
    · rw [gcI, if_pos rfl, pk_cpy_in (Nat.zero_le _) (by omega), Nat.sub_zero, Nat.zero_add, gIn (by omega)]
      exact q.tr j hj
    · simp only [sX1_take_0, sX1_take_1, sX1_take_2, sX1_take_5, sX1_take_8 (st := []), sX1_take_9, sX1_take_10, sX1_take_11, sX1_take_14, sX1_take_15, sX1_take_18, sX1_take_19, sX1_take_20, sX1_take_23, sX1_take_24, sX1_take_26 (st := []), sX1_take_29 (st := []), inb, nz_3, nz_4, nz_6, nz_8, nz_10, nz_100, nz_300, pushr_s, pushr_n, rv_s, rv_n, kd_sI, kd_sR, kd_sJ, sz_sI, sz_sR, sz_sJ, aR_sI, aJ_sI, aI_sR, aI_sJ, not_false_eq_true, true_and, and_true, true_or, or_true, or_false, false_or, eq_self, ite_true, ite_false, if_true, if_false, q.X.k49, e, q.X.r49a, q.X.r49b, q.X.k50, q.X.k51, cp, z0, z6]
  · rw [e2]
    refine ⟨H, Fr.refl _ _, q, fun Q => ?_⟩
    simp only [sX1_take_0, sX1_take_1, sX1_take_2, sX1_take_5, sX1_take_8 (st := []), sX1_take_9, sX1_take_10, sX1_take_11, sX1_take_14, sX1_take_15, sX1_take_18, sX1_take_19, sX1_take_20, sX1_take_23, sX1_take_24, sX1_take_26 (st := []), sX1_take_29 (st := []), inb, nz_3, nz_4, nz_6, nz_8, nz_10, nz_100, nz_300, pushr_s, pushr_n, rv_s, rv_n, kd_sI, kd_sR, kd_sJ, sz_sI, sz_sR, sz_sJ, aR_sI, aJ_sI, aI_sR, aI_sJ, not_false_eq_true, true_and, and_true, true_or, or_true, or_false, false_or, eq_self, ite_true, ite_false, if_true, if_false, q.X.k49, e]
def GoI (S : SC) (A : AS) (c : Int32) (d r : Nat) : Prop := ∀ (p b m : Nat) (n : Int32) (s : OpS) (H : AH), p + r = A.N → m < 64 → isMk n → SrC A c p b s H → ∃ H', Fr jO H H' ∧ SrC A c p b (dfO A c A.N r b m n s) H' ∧ ∀ Q l5, Wp S (d + 2 * r + 6) 9 0 [.ref 49, .ref 1, .int (nI p), .int (nI m), .int n, l5] [] H Q = Q none H'
theorem go_by {d r p b m x : Nat} {c n : Int32} {s : OpS} (w : Wf A) (ih : GoI S A c d r) (hp : p + (r + 1) = A.N) (hm : m < 64) (hx : x < A.N) (hn : isMk n) (q : SrC A c p b s H) : ∃ H', Fr jO H H' ∧ SrC A c p b (dfO A c A.N r (b * 6 + x) (m ||| 2 ^ x) (pas A x n) s) H' ∧ ∀ Q, Wp S (d + 2 * r + 7) 10 0 [.ref 49, .int (nI x), .ref 1, .int (nI p), .int (nI m), .int n] [] H Q = Q none H' := by
  have hN := w.hN
  have f1 : Fr jO H (sI H 51 p (nI x)) := Fr.wI _ (Or.inr (Or.inr rfl))
  have sa1 := q.sa.jo f1
  have q1 : SrC A c (p + 1) (b * 6 + x) s (sI H 51 p (nI x)) := by
    refine ⟨sa1, q.X.fr f1, (gIn (by omega)).trans q.c3, fun j hj => ?_, ?_⟩
    · by_cases e : j = p
      · rw [e, dgp_eq (by omega)]; exact gIs
      · rw [dgp_lt (by omega) (by omega), gIn (by omega)]; exact q.tr j (by omega)
    · have rl := q.rl
      cases s with
      | none => exact (gIn (by omega)).trans rl
      | some y => exact ⟨(gIn (by omega)).trans rl.1, rl.2.1, fun j hj => (gIn (by omega)).trans (rl.2.2 j hj)⟩
  obtain ⟨H', f, q', t⟩ := ih (p + 1) (b * 6 + x) (m ||| 2 ^ x) (pas A x n) s _ (by omega) (tb_and hm (by omega)).2 (mk_pas w hx hn) q1
  refine ⟨H', f1.trans f, ⟨q'.sa, q'.X, q'.c3, fun j hj => by rw [q'.tr j (by omega), dgp_lt hj (by omega)], q'.rl⟩, fun Q => ?_⟩
  have lc : (nI p).toNatClampNeg = p := nI_clamp (by omega)
  have l1 : ¬ (nI p < 0 ∨ 6 ≤ p) := inN (by omega) (by omega)
  have hp : ∀ Q, Wp S (d + 2 * r + 6) 30 0 [.ref 1, .int (nI x), .int n] [] (sI H 51 p (nI x)) Q = Q (some (.int (pas A x n))) (sI H 51 p (nI x)) := fun Q => by
    rw [← sa1.qT w hx hn]
    exact w_pT (S := S) (d := d + 2 * r + 2) (Q := Q) (n := n) (sa1.v w) hx
  simp only [sX1_goOnBy_0, sX1_goOnBy_1, sX1_goOnBy_4, sX1_goOnBy_5, sX1_goOnBy_6, sX1_goOnBy_7, sX1_goOnBy_8, sX1_goOnBy_9, sX1_goOnBy_10, sX1_goOnBy_11, sX1_goOnBy_12, sX1_goOnBy_14, sX1_goOnBy_15, sX1_goOnBy_16, sX1_goOnBy_17, sX1_goOnBy_18, sX1_goOnBy_19, sX1_goOnBy_20, sX1_goOnBy_22 (st := []), sX1_goOnBy_25 (st := []), sX1_goOnBy_28 (st := []), inb, nz_3, nz_4, nz_6, nz_8, nz_10, nz_100, nz_300, pushr_s, pushr_n, rv_s, rv_n, kd_sI, kd_sR, kd_sJ, sz_sI, sz_sR, sz_sJ, aR_sI, aJ_sI, aI_sR, aI_sJ, not_false_eq_true, true_and, and_true, true_or, or_true, or_false, false_or, eq_self, ite_true, ite_false, if_true, if_false, q.X.k49, q.X.r49b, q.X.k51, q.X.z51, lc, l1, q.sa.lay.1, shl_p (show x < 6 by omega), nI_or, nI_1, hp, t]
theorem go_lp {d r p b m : Nat} {c n : Int32} (w : Wf A) (ih : GoI S A c d r) (hp : p + (r + 1) = A.N) (hm : m < 64) (hn : isMk n) : ∀ (k i : Nat) (s : OpS) (H : AH), i + k = A.N → SrC A c p b s H → ∃ H', Fr jO H H' ∧ SrC A c p b (fdN (fun x s => if m.testBit x = true then s else dfO A c A.N r (b * 6 + x) (m ||| 2 ^ x) (pas A x n) s) k i s) H' ∧ ∀ Q, Wp S (d + 2 * r + 8) 9 26 [.ref 49, .ref 1, .int (nI p), .int (nI m), .int n, .int (nI i)] [] H Q = Q none H'
  | 0, i, s, H, hi, q => by
    have hN := w.hN
    have e : nI A.N ≤ nI i := nI_le (by omega) (by omega)
    refine ⟨H, Fr.refl _ _, q, fun Q => ?_⟩
    rw [sX1_goOn_26]
    simp only [sX1_goOn_0, sX1_goOn_1, sX1_goOn_2, sX1_goOn_5, sX1_goOn_8, sX1_goOn_23, sX1_goOn_9, sX1_goOn_24, sX1_goOn_11, sX1_goOn_12, sX1_goOn_28, sX1_goOn_15, sX1_goOn_29, sX1_goOn_16 (st := []), sX1_goOn_32, sX1_goOn_19 (st := []), sX1_goOn_35, sX1_goOn_61 (st := []), sX1_goOn_22 (st := []), sX1_goOn_36, sX1_goOn_37, sX1_goOn_39, sX1_goOn_40, sX1_goOn_41, sX1_goOn_44, sX1_goOn_55, sX1_goOn_45, sX1_goOn_58, sX1_goOn_47, sX1_goOn_48, sX1_goOn_49, sX1_goOn_50, sX1_goOn_52 (st := []), inb, nz_3, nz_4, nz_6, nz_8, nz_10, nz_100, nz_300, pushr_s, pushr_n, rv_s, rv_n, kd_sI, kd_sR, kd_sJ, sz_sI, sz_sR, sz_sJ, aR_sI, aJ_sI, aI_sR, aI_sJ, not_false_eq_true, true_and, and_true, true_or, or_true, or_false, false_or, eq_self, ite_true, ite_false, if_true, if_false, q.sa.lay.1, q.sa.nN, e]
  | k + 1, i, s, H, hi, q => by
    have hN := w.hN
    have e : ¬ nI A.N ≤ nI i := nI_ge (by omega) (by omega)
    have ta := (tb_and hm (show i < 6 by omega)).1
    have tl := (show m &&& 2 ^ i < 2 ^ 31 from Nat.lt_of_le_of_lt Nat.and_le_left (by omega))
    by_cases tb : m.testBit i = true
    · obtain ⟨H', f, q', t⟩ := go_lp w ih hp hm hn k (i + 1) s H (by omega) q
      have z : ¬ nI (m &&& 2 ^ i) = 0 := nI_ne0 (Nat.pos_of_ne_zero fun y => by rw [ta.mp y] at tb; cases tb) tl
      refine ⟨H', f, ?_, fun Q => ?_⟩
      · show SrC A c p b (fdN _ k (i + 1) (if m.testBit i = true then s else _)) H'
        rw [if_pos tb]; exact q'
      · rw [sX1_goOn_26]
        simp only [sX1_goOn_0, sX1_goOn_1, sX1_goOn_2, sX1_goOn_5, sX1_goOn_8, sX1_goOn_23, sX1_goOn_9, sX1_goOn_24, sX1_goOn_11, sX1_goOn_12, sX1_goOn_28, sX1_goOn_15, sX1_goOn_29, sX1_goOn_16 (st := []), sX1_goOn_32, sX1_goOn_19 (st := []), sX1_goOn_35, sX1_goOn_61 (st := []), sX1_goOn_22 (st := []), sX1_goOn_36, sX1_goOn_37, sX1_goOn_39, sX1_goOn_40, sX1_goOn_41, sX1_goOn_44, sX1_goOn_55, sX1_goOn_45, sX1_goOn_58, sX1_goOn_47, sX1_goOn_48, sX1_goOn_49, sX1_goOn_50, sX1_goOn_52 (st := []), inb, nz_3, nz_4, nz_6, nz_8, nz_10, nz_100, nz_300, pushr_s, pushr_n, rv_s, rv_n, kd_sI, kd_sR, kd_sJ, sz_sI, sz_sR, sz_sJ, aR_sI, aJ_sI, aI_sR, aI_sJ, not_false_eq_true, true_and, and_true, true_or, or_true, or_false, false_or, eq_self, ite_true, ite_false, if_true, if_false, q.sa.lay.1, q.sa.nN, e, shl_p (show i < 6 by omega), nI_and, z, nI_1, t]
    · obtain ⟨H1, f1, q1, t1⟩ := go_by w ih hp hm (show i < A.N by omega) hn q
      obtain ⟨H', f, q', t⟩ := go_lp w ih hp hm hn k (i + 1) _ H1 (by omega) q1
      have z : nI (m &&& 2 ^ i) = 0 := by
        rw [ta.mpr (by cases y : m.testBit i; rfl; exact absurd y tb)]; rfl
      refine ⟨H', f1.trans f, ?_, fun Q => ?_⟩
      · show SrC A c p b (fdN _ k (i + 1) (if m.testBit i = true then s else _)) H'
        rw [if_neg tb]; exact q'
      · rw [sX1_goOn_26]
        simp only [sX1_goOn_0, sX1_goOn_1, sX1_goOn_2, sX1_goOn_5, sX1_goOn_8, sX1_goOn_23, sX1_goOn_9, sX1_goOn_24, sX1_goOn_11, sX1_goOn_12, sX1_goOn_28, sX1_goOn_15, sX1_goOn_29, sX1_goOn_16 (st := []), sX1_goOn_32, sX1_goOn_19 (st := []), sX1_goOn_35, sX1_goOn_61 (st := []), sX1_goOn_22 (st := []), sX1_goOn_36, sX1_goOn_37, sX1_goOn_39, sX1_goOn_40, sX1_goOn_41, sX1_goOn_44, sX1_goOn_55, sX1_goOn_45, sX1_goOn_58, sX1_goOn_47, sX1_goOn_48, sX1_goOn_49, sX1_goOn_50, sX1_goOn_52 (st := []), inb, nz_3, nz_4, nz_6, nz_8, nz_10, nz_100, nz_300, pushr_s, pushr_n, rv_s, rv_n, kd_sI, kd_sR, kd_sJ, sz_sI, sz_sR, sz_sJ, aR_sI, aJ_sI, aI_sR, aI_sJ, not_false_eq_true, true_and, and_true, true_or, or_true, or_false, false_or, eq_self, ite_true, ite_false, if_true, if_false, q.sa.lay.1, q.X.k49, q.sa.nN, e, shl_p (show i < 6 by omega), nI_and, z, nI_1, t1, t]
theorem go_on {c : Int32} {d : Nat} (w : Wf A) (hc : isMk c) : ∀ r, GoI S A c d r
  | 0 => fun p b m n s H hp hm hn q => by
    have hN := w.hN
    have hp : p = A.N := hp
    subst hp
    obtain ⟨e1, -, e3⟩ := bv_ok (mk_xor hn hc)
    obtain ⟨H', f, q', t⟩ := w_take (S := S) (d := d + 5) w q e3
    refine ⟨H', f, q', fun Q l5 => ?_⟩
    have e : ¬ nI A.N < nI A.N := nI_nlt (Nat.le_refl _) (by omega)
    show Wp S (d + 6) _ _ _ _ _ _ = _
    simp only [sX1_goOn_0, sX1_goOn_1, sX1_goOn_2, sX1_goOn_5, sX1_goOn_8, sX1_goOn_23, sX1_goOn_9, sX1_goOn_24, sX1_goOn_11, sX1_goOn_12, sX1_goOn_28, sX1_goOn_15, sX1_goOn_29, sX1_goOn_16 (st := []), sX1_goOn_32, sX1_goOn_19 (st := []), sX1_goOn_35, sX1_goOn_61 (st := []), sX1_goOn_22 (st := []), sX1_goOn_36, sX1_goOn_37, sX1_goOn_39, sX1_goOn_40, sX1_goOn_41, sX1_goOn_44, sX1_goOn_55, sX1_goOn_45, sX1_goOn_58, sX1_goOn_47, sX1_goOn_48, sX1_goOn_49, sX1_goOn_50, sX1_goOn_52 (st := []), inb, nz_3, nz_4, nz_6, nz_8, nz_10, nz_100, nz_300, pushr_s, pushr_n, rv_s, rv_n, kd_sI, kd_sR, kd_sJ, sz_sI, sz_sR, sz_sJ, aR_sI, aJ_sI, aI_sR, aI_sJ, not_false_eq_true, true_and, and_true, true_or, or_true, or_false, false_or, eq_self, ite_true, ite_false, if_true, if_false, q.X.k49, q.sa.lay.1, q.sa.nN, e, q.c3, w_bitCount, e1, t]
  | r + 1 => fun p b m n s H hp hm hn q => by
    have hN := w.hN
    obtain ⟨H', f, q', t⟩ := go_lp (S := S) (d := d) w (go_on w hc r) hp hm hn A.N 0 s H (by omega) q
    refine ⟨H', f, q', fun Q l5 => ?_⟩
    have e : nI p < nI A.N := nI_lt (by omega) (by omega)
    rw [nI_0] at t
    rw [show d + 2 * (r + 1) + 6 = d + 2 * r + 8 by omega]
    simp only [sX1_goOn_0, sX1_goOn_1, sX1_goOn_2, sX1_goOn_5, sX1_goOn_8, sX1_goOn_23, sX1_goOn_9, sX1_goOn_24, sX1_goOn_11, sX1_goOn_12, sX1_goOn_28, sX1_goOn_15, sX1_goOn_29, sX1_goOn_16 (st := []), sX1_goOn_32, sX1_goOn_19 (st := []), sX1_goOn_35, sX1_goOn_61 (st := []), sX1_goOn_22 (st := []), sX1_goOn_36, sX1_goOn_37, sX1_goOn_39, sX1_goOn_40, sX1_goOn_41, sX1_goOn_44, sX1_goOn_55, sX1_goOn_45, sX1_goOn_58, sX1_goOn_47, sX1_goOn_48, sX1_goOn_49, sX1_goOn_50, sX1_goOn_52 (st := []), inb, nz_3, nz_4, nz_6, nz_8, nz_10, nz_100, nz_300, pushr_s, pushr_n, rv_s, rv_n, kd_sI, kd_sR, kd_sJ, sz_sI, sz_sR, sz_sJ, aR_sI, aJ_sI, aI_sR, aI_sJ, not_false_eq_true, true_and, and_true, true_or, or_true, or_false, false_or, eq_self, ite_true, ite_false, if_true, if_false, q.sa.lay.1, q.sa.nN, e, t]
theorem w_search {d : Nat} {a b : Int32} (w : Wf A) (h : StA H 1 A) (X : CoL H) (ha : isMk a) (hb : isMk b) : ∃ H', Fr jC H H' ∧ SrC A b 0 0 (dfO A b A.N A.N 0 0 a none) H' ∧ ∀ Q, Wp S (d + 39) 8 0 [.ref 49, .ref 1, .int a, .int b] [] H Q = Q none H' := by
  have hN := w.hN
  have f1 : Fr (fun o i => o = 49) H (sI (sI H 49 0 256) 49 3 b) := by
    have fa : Fr (fun o i => o = 49) H (sI H 49 0 256) := Fr.wI _ rfl
    exact fa.trans (Fr.wI _ rfl)
  have q : SrC A b 0 0 none (sI (sI H 49 0 256) 49 3 b) := ⟨h.fr f1 (fun o i z => ⟨fun _ _ => by omega, by omega⟩), X.fr f1, gIs, fun j hj => absurd hj (Nat.not_lt_zero j), (gIn (by omega)).trans gIs⟩
  obtain ⟨H', f, q', t⟩ := go_on (S := S) (d := d + 32 - 2 * A.N) w hb A.N 0 0 0 a none _ (by omega) (by decide) ha q
  refine ⟨H', (f1.mono (fun o i z => by unfold jC; omega)).trans (f.mono (fun o i z => jO_jC z)), q', fun Q => ?_⟩
  rw [show d + 32 - 2 * A.N + 2 * A.N + 6 = d + 38 by omega, nI_0] at t
  simp only [sX1_search_0, sX1_search_1, sX1_search_4, sX1_search_7, sX1_search_8, sX1_search_9, sX1_search_12, sX1_search_13, sX1_search_14, sX1_search_15, sX1_search_16, sX1_search_17 (st := []), sX1_search_20 (st := []), inb, nz_3, nz_4, nz_6, nz_8, nz_10, nz_100, nz_300, pushr_s, pushr_n, rv_s, rv_n, kd_sI, kd_sR, kd_sJ, sz_sI, sz_sR, sz_sJ, aR_sI, aJ_sI, aI_sR, aI_sJ, not_false_eq_true, true_and, and_true, true_or, or_true, or_false, false_or, eq_self, ite_true, ite_false, if_true, if_false, X.k49, t]
end SEARCH
