-- 63: calls: at, ends
def stopP (C : AS) (p : Nat) : Prop := haS (nI C.B) (nI p) = 1 ∨ C.N ≤ pl C p
def ansP (C : AS) (p : Nat) : Int32 := if haS (nI C.B) (nI p) = 1 then -5 else C.M p
/-- alike at a pilgrim -/
def Eqp (C : AS) (E : AS) (p : Nat) : Prop :=
  (E.M p = C.M p) ∧
  (E.W p = C.W p) ∧
  (haS (nI E.B) (nI p) = haS (nI C.B) (nI p)) ∧
  (E.N = C.N)
theorem Eqp.M {C : AS} {E : AS} {p : Nat} (h : Eqp C E p) : E.M p = C.M p := h.1
theorem Eqp.W {C : AS} {E : AS} {p : Nat} (h : Eqp C E p) : E.W p = C.W p := h.2.1
theorem Eqp.B {C : AS} {E : AS} {p : Nat} (h : Eqp C E p) : haS (nI E.B) (nI p) = haS (nI C.B) (nI p) := h.2.2.1
theorem Eqp.N {C : AS} {E : AS} {p : Nat} (h : Eqp C E p) : E.N = C.N := h.2.2.2
theorem Eqp.refl (C : AS) (p : Nat) : Eqp C C p := ⟨rfl, rfl, rfl, rfl⟩
theorem Eqp.trans {C E F : AS} {p : Nat} (a : Eqp C E p) (b : Eqp E F p) : Eqp C F p := ⟨b.M.trans a.M, b.W.trans a.W, b.B.trans a.B, b.N.trans a.N⟩
theorem Eqp.plq {C E : AS} {p : Nat} (a : Eqp C E p) : pl E p = pl C p := congrArg ix a.W
theorem Eqp.stop {C E : AS} {p : Nat} (a : Eqp C E p) (h : stopP C p) : stopP E p := by
  rcases h with h | h
  · exact Or.inl (a.B.trans h)
  · exact Or.inr (by rw [a.N, a.plq]; exact h)
theorem Eqp.ans {C E : AS} {p : Nat} (a : Eqp C E p) : ansP E p = ansP C p := by unfold ansP; rw [a.B, a.M]
theorem bit_ne {B q p : Nat} (hB : B < 32) (hq : q < 5) (hp : p < 5) (h : q ≠ p) : haS (nI (B ||| 2 ^ q)) (nI p) = haS (nI B) (nI p) := by
  have h1 : B ||| 2 ^ q < 64 := Nat.lt_of_lt_of_le (Nat.or_lt_two_pow (n := 5) hB (Nat.pow_lt_pow_right (by decide) hq)) (by decide)
  rw [ha_tb h1 (by omega), ha_tb (by omega) (by omega), Nat.testBit_or, Nat.testBit_two_pow, decide_eq_false h, Bool.or_false]
theorem bit_eq {B p : Nat} (hB : B < 32) (hp : p < 5) : haS (nI (B ||| 2 ^ p)) (nI p) = 1 := by
  have h1 : B ||| 2 ^ p < 64 := Nat.lt_of_lt_of_le (Nat.or_lt_two_pow (n := 5) hB (Nat.pow_lt_pow_right (by decide) hp)) (by decide)
  rw [ha_tb h1 (by omega), Nat.testBit_or, Nat.testBit_two_pow, decide_eq_true rfl, Bool.or_true]
  rfl
theorem step_ne {C : AS} (w : Wf C) {q p : Nat} (hq : q < C.P) (hp : p < 5) (h : q ≠ p) : Eqp C (stepP C q) p := by
  have hP := w.hP
  have hb := w.b32
  unfold stepP
  split
  · exact Eqp.refl C p
  · split
    · exact Eqp.refl C p
    · unfold meetA
      generalize pas C (pl C q) (C.M q) = m
      generalize C.W q + 1 = x
      split
      · exact ⟨pk_un (fun e => h e.symm), rfl, bit_ne hb (by omega) hp h, rfl⟩
      · exact ⟨pk_un (fun e => h e.symm), pk_un (fun e => h e.symm), rfl, rfl⟩
theorem step_stop {C : AS} {p : Nat} (h : stopP C p) : stepP C p = C := by
  unfold stepP
  by_cases q : haS (nI C.B) (nI p) = 1
  · rw [if_pos q]
  · rw [if_neg q, if_pos (h.resolve_left q)]
theorem step_go {C : AS} (w : Wf C) {p : Nat} (hp : p < C.P) (h : ¬ stopP C p) : haS (nI (stepP C p).B) (nI p) = 1 ∨ (pl (stepP C p) p = pl C p + 1 ∧ (stepP C p).N = C.N) := by
  have hP := w.hP
  have hb := w.b32
  have hN := w.hN
  have h1 : ¬ haS (nI C.B) (nI p) = 1 := fun z => h (Or.inl z)
  have h2 : ¬ C.N ≤ pl C p := fun z => h (Or.inr z)
  have e : stepP C p = meetA C p := by unfold stepP; rw [if_neg h1, if_neg h2]
  rw [e]
  unfold meetA
  have ew : C.W p + 1 = nI (pl C p + 1) := by rw [(w.eW hp).1]; exact nI_1 _
  rw [ew]
  generalize pas C (pl C p) (C.M p) = m
  generalize hx : pl C p = x at h2 ⊢
  split
  · exact Or.inl (bit_eq hb (by omega))
  · refine Or.inr ⟨?_, rfl⟩
    show ix (upd C.W p (nI (x + 1)) p) = x + 1
    rw [pk_us, ix_nI (by omega)]
theorem dl_out {p : Nat} (hp : p < 5) : ∀ (c i : Nat) (C : AS), Wf C → i + c ≤ C.P → (p < i ∨ i + c ≤ p) → Eqp C (daysL c i C) p
  | 0, _, C, _, _, _ => Eqp.refl C p
  | c + 1, i, C, w, hc, h => by
    have e := step_sm C i
    exact (step_ne w (by omega) hp (by omega)).trans (dl_out hp c (i + 1) (stepP C i) (w.step (by omega)) (by rw [e.P]; omega) (by omega))
theorem dl_at {p : Nat} (hp : p < 5) : ∀ (c i : Nat) (C : AS), Wf C → i + c ≤ C.P → i ≤ p → p < i + c → ∃ E, Wf E ∧ E.P = C.P ∧ Eqp C E p ∧ Eqp (stepP E p) (daysL c i C) p
  | 0, i, C, w, hc, h1, h2 => absurd h2 (by omega)
  | c + 1, i, C, w, hc, h1, h2 => by
    have e := step_sm C i
    by_cases q : i = p
    · subst q
      exact ⟨C, w, rfl, Eqp.refl C i, dl_out hp c (i + 1) (stepP C i) (w.step (by omega)) (by rw [e.P]; omega) (Or.inl (by omega))⟩
    · obtain ⟨E, a1, a2, a3, a4⟩ := dl_at hp c (i + 1) (stepP C i) (w.step (by omega)) (by rw [e.P]; omega) (by omega) (by omega)
      exact ⟨E, a1, a2.trans e.P, (step_ne w (by omega) hp q).trans a3, a4⟩
theorem day_at {C : AS} (w : Wf C) {p : Nat} (hp : p < C.P) : ∃ E, Wf E ∧ E.P = C.P ∧ Eqp C E p ∧ Eqp (stepP E p) (dayA C) p := by
  have hP := w.hP
  obtain ⟨E, a1, a2, a3, a4⟩ := dl_at (p := p) (by omega) C.P 0 C w (by omega) (Nat.zero_le _) (by omega)
  exact ⟨E, a1, a2, a3, ⟨a4.M, a4.W, a4.B, a4.N⟩⟩
theorem day_stop {C : AS} (w : Wf C) {p : Nat} (hp : p < C.P) (h : stopP C p) : Eqp C (dayA C) p := by
  obtain ⟨E, a1, a2, a3, a4⟩ := day_at w hp
  rw [step_stop (a3.stop h)] at a4
  exact a3.trans a4
theorem day_go {C : AS} (w : Wf C) {p : Nat} (hp : p < C.P) (h : ¬ stopP C p) : haS (nI (dayA C).B) (nI p) = 1 ∨ (pl (dayA C) p = pl C p + 1 ∧ (dayA C).N = C.N) := by
  obtain ⟨E, a1, a2, a3, a4⟩ := day_at w hp
  have h' : ¬ stopP E p := fun z => h (by
    rcases z with z | z
    · exact Or.inl (a3.B.symm.trans z)
    · exact Or.inr (by rw [← a3.N, ← a3.plq]; exact z))
  rcases step_go a1 (by rw [a2]; exact hp) h' with z | ⟨z1, z2⟩
  · exact Or.inl (a4.B.trans z)
  · exact Or.inr ⟨by rw [a4.plq, z1, a3.plq], by rw [a4.N, z2, a3.N]⟩
theorem days_stop {p : Nat} : ∀ (c : Nat) {C : AS}, Wf C → p < C.P → C.D + c < 20000 → stopP C p → ansP (daysA c C) p = ansP C p
  | 0, C, _, _, _, _ => rfl
  | c + 1, C, w, hp, hD, h => by
    have e := day_stop w hp h
    obtain ⟨e1, e2, e3, -⟩ := dayA_eq C
    exact (days_stop c (w.day (by omega)) (by rw [e2]; exact hp) (by rw [e3]; omega) (e.stop h)).trans e.ans
def Gp (c : Nat) (C : AS) (p : Nat) : Prop := haS (nI C.B) (nI p) = 1 ∨ C.N ≤ pl C p + c
section CALLS
variable {S : SC} {A : AS}
theorem lp_comes {d p : Nat} {l2 : Value} : ∀ (c : Nat) (C : AS) (H : AH), MoA H C → Wf C → Kp H A → U5 A C → p < C.P → Gp c C p → C.D + c < 20000 → ∃ H' E, MoA H' E ∧ Wf E ∧ Kp H' A ∧ U5 A E ∧ p < E.P ∧ Fr jM H H' ∧ ansP E p = ansP (daysA c C) p ∧ ∀ Q, Wp S (d + 7) 175 4 [.ref 67, .int (nI p), l2] [] H Q = Wp S (d + 7) 175 31 [.ref 67, .int (nI p), l2] [] H' Q
  | c, C, H, g, w, k, u, hp, hG, hD => by
    have hb := fun Q => m_has (S := S) (d := d + 6) (Q := Q) (H := H) (o := 67) (x := nI C.B) (k := nI p)
    have hi := fun Q => m_isIn (S := S) (d := d + 6) (Q := Q) (p := p) g w hp
    by_cases hs : stopP C p
    · refine ⟨H, C, g, w, k, u, hp, Fr.refl _ _, (days_stop c w hp hD hs).symm, fun Q => ?_⟩
      rw [sX8_comes_4]
      rcases haS01 (nI C.B) (nI p) with q | q
      · have h2 : C.N ≤ pl C p := hs.resolve_left (by rw [q]; decide)
        rw [if_pos h2] at hi
        simp only [sX8_comes_0, sX8_comes_1 (st := []), sX8_comes_5, sX8_comes_6, sX8_comes_9, sX8_comes_10 (st := []), sX8_comes_13, sX8_comes_16, sX8_comes_17, sX8_comes_32, sX8_comes_18 (st := []), sX8_comes_33, sX8_comes_21, sX8_comes_36, sX8_comes_24, sX8_comes_37 (st := []), sX8_comes_25 (st := []), sX8_comes_40, sX8_comes_28, sX8_comes_43, sX8_comes_48, sX8_comes_45, sX8_comes_49, sX8_comes_54, sX8_comes_52, sX8_comes_55, sX8_comes_53, sX8_comes_56 (st := []), sX8_comes_59, sX8_comes_60 (st := []), inb, nz_3, nz_4, nz_6, nz_8, nz_10, nz_100, nz_300, pushr_s, pushr_n, rv_s, rv_n, kd_sI, kd_sR, kd_sJ, sz_sI, sz_sR, sz_sJ, aR_sI, aJ_sI, aI_sR, aI_sJ, not_false_eq_true, true_and, and_true, true_or, or_true, or_false, false_or, eq_self, ite_true, ite_false, if_true, if_false, mk_67 g.lay, g.nB, hb, q, hi, nz_1]
      · simp only [sX8_comes_0, sX8_comes_1 (st := []), sX8_comes_5, sX8_comes_6, sX8_comes_9, sX8_comes_10 (st := []), sX8_comes_13, sX8_comes_16, sX8_comes_17, sX8_comes_32, sX8_comes_18 (st := []), sX8_comes_33, sX8_comes_21, sX8_comes_36, sX8_comes_24, sX8_comes_37 (st := []), sX8_comes_25 (st := []), sX8_comes_40, sX8_comes_28, sX8_comes_43, sX8_comes_48, sX8_comes_45, sX8_comes_49, sX8_comes_54, sX8_comes_52, sX8_comes_55, sX8_comes_53, sX8_comes_56 (st := []), sX8_comes_59, sX8_comes_60 (st := []), inb, nz_3, nz_4, nz_6, nz_8, nz_10, nz_100, nz_300, pushr_s, pushr_n, rv_s, rv_n, kd_sI, kd_sR, kd_sJ, sz_sI, sz_sR, sz_sJ, aR_sI, aJ_sI, aI_sR, aI_sJ, not_false_eq_true, true_and, and_true, true_or, or_true, or_false, false_or, eq_self, ite_true, ite_false, if_true, if_false, mk_67 g.lay, g.nB, hb, q, nz_1]
    · have h1 : haS (nI C.B) (nI p) = 0 := (haS01 _ _).resolve_right (fun z => hs (Or.inl z))
      have h2 : ¬ C.N ≤ pl C p := fun z => hs (Or.inr z)
      cases c with
      | zero =>
        rcases hG with z | z
        · exact absurd (Or.inl z) hs
        · exact absurd (Or.inr z) hs
      | succ c =>
        obtain ⟨e1, e2, e3, -⟩ := dayA_eq C
        obtain ⟨H1, f1, g1, r1⟩ := m_goDay (S := S) (d := d) g w (by omega)
        have hG2 : Gp c (dayA C) p := by
          rcases day_go w hp hs with z | ⟨z1, z2⟩
          · exact Or.inl z
          · rcases hG with z | z
            · exact absurd (Or.inl z) hs
            · exact Or.inr (by rw [z1, z2]; omega)
        obtain ⟨H2, E, b1, b2, b3, b4, b5, b6, b7, b8⟩ := lp_comes (d := d) (l2 := l2) c (dayA C) H1 g1 (w.day (by omega)) (k.fr f1) u.day (by rw [e2]; exact hp) hG2 (by rw [e3]; omega)
        refine ⟨H2, E, b1, b2, b3, b4, b5, (f1.mono (fun o i z => jM_of z)).trans b6, b7, fun Q => ?_⟩
        rw [if_neg h2] at hi
        rw [sX8_comes_4, ← b8 Q]
        simp only [sX8_comes_0, sX8_comes_1 (st := []), sX8_comes_5, sX8_comes_6, sX8_comes_9, sX8_comes_10 (st := []), sX8_comes_13, sX8_comes_16, sX8_comes_17, sX8_comes_32, sX8_comes_18 (st := []), sX8_comes_33, sX8_comes_21, sX8_comes_36, sX8_comes_24, sX8_comes_37 (st := []), sX8_comes_25 (st := []), sX8_comes_40, sX8_comes_28, sX8_comes_43, sX8_comes_48, sX8_comes_45, sX8_comes_49, sX8_comes_54, sX8_comes_52, sX8_comes_55, sX8_comes_53, sX8_comes_56 (st := []), sX8_comes_59, sX8_comes_60 (st := []), inb, nz_3, nz_4, nz_6, nz_8, nz_10, nz_100, nz_300, pushr_s, pushr_n, rv_s, rv_n, kd_sI, kd_sR, kd_sJ, sz_sI, sz_sR, sz_sJ, aR_sI, aJ_sI, aI_sR, aI_sJ, not_false_eq_true, true_and, and_true, true_or, or_true, or_false, false_or, eq_self, ite_true, ite_false, if_true, if_false, mk_67 g.lay, g.nB, hb, h1, hi, r1]
theorem k_at (w : Wf A) (hD : A.D ≤ 9999) (a b : Int32) : Now S A 74 176 [.ref 0, .int a, .int b] [.ref 67, .int a, .int b] := by
  have hP := w.hP
  have hN := w.hN
  rcases rg_c a A.P (by omega) with e | ⟨e, p, hp, rfl⟩
  · refine now_same w (.int (-1)) (fun H h X d Q => ?_) (fun H g d Q => ?_)
    · simp only [sX7_at_0, sX7_at_1, sX7_at_2 (st := []), sX7_at_5, sX7_at_8, sX7_at_10, sX7_at_9 (st := []), sX7_at_11, sX7_at_83, sX7_at_40, sX7_at_50, sX7_at_60, sX7_at_77, sX7_at_84 (st := []), sX7_at_41, sX7_at_51, sX7_at_61, sX7_at_78, sX7_at_44, sX7_at_54, sX7_at_64, sX7_at_79 (st := []), sX7_at_47, sX7_at_57, sX7_at_65 (st := []), sX7_at_82 (st := []), sX7_at_48, sX7_at_58, sX7_at_68, sX7_at_49 (st := []), sX7_at_59 (st := []), sX7_at_71, sX7_at_75, sX7_at_72, sX7_at_76 (st := []), inb, nz_3, nz_4, nz_6, nz_8, nz_10, nz_100, nz_300, pushr_s, pushr_n, rv_s, rv_n, kd_sI, kd_sR, kd_sJ, sz_sI, sz_sR, sz_sJ, aR_sI, aJ_sI, aI_sR, aI_sJ, not_false_eq_true, true_and, and_true, true_or, or_true, or_false, false_or, eq_self, ite_true, ite_false, if_true, if_false, X.k0, w_isPilgrim X h, e]
    · simp only [sX8_at_0, sX8_at_1, sX8_at_2 (st := []), sX8_at_5, sX8_at_8, sX8_at_10, sX8_at_9 (st := []), sX8_at_11, sX8_at_78, sX8_at_40, sX8_at_47, sX8_at_54, sX8_at_72, sX8_at_79 (st := []), sX8_at_41, sX8_at_48, sX8_at_55, sX8_at_73, sX8_at_44, sX8_at_51, sX8_at_56, sX8_at_74 (st := []), sX8_at_45, sX8_at_52, sX8_at_59, sX8_at_77 (st := []), sX8_at_46 (st := []), sX8_at_53 (st := []), sX8_at_60 (st := []), sX8_at_63, sX8_at_66, sX8_at_70, sX8_at_67, sX8_at_71 (st := []), inb, nz_3, nz_4, nz_6, nz_8, nz_10, nz_100, nz_300, pushr_s, pushr_n, rv_s, rv_n, kd_sI, kd_sR, kd_sJ, sz_sI, sz_sR, sz_sJ, aR_sI, aJ_sI, aI_sR, aI_sJ, not_false_eq_true, true_and, and_true, true_or, or_true, or_false, false_or, eq_self, ite_true, ite_false, if_true, if_false, mk_67 g.lay, n_isPilgrim w g, e]
  have kc : (nI p).toNatClampNeg = p := nI_clamp (by omega)
  have k1 : ¬ (nI p < 0 ∨ 5 ≤ p) := inN (by omega) (by omega)
  rcases rg_c b 4 (by decide) with e2 | ⟨e2, y, hy, rfl⟩
  · have n0 : ¬ b = 0 := fun z => by rw [z] at e2; exact absurd e2 (by decide +kernel)
    have n1 : ¬ b = 1 := fun z => by rw [z] at e2; exact absurd e2 (by decide +kernel)
    have n2 : ¬ b = 2 := fun z => by rw [z] at e2; exact absurd e2 (by decide +kernel)
    have n3 : ¬ b = 3 := fun z => by rw [z] at e2; exact absurd e2 (by decide +kernel)
    refine now_same w (.int (-1)) (fun H h X d Q => ?_) (fun H g d Q => ?_)
    · simp only [sX7_at_0, sX7_at_1, sX7_at_2 (st := []), sX7_at_5, sX7_at_8, sX7_at_10, sX7_at_9 (st := []), sX7_at_11, sX7_at_83, sX7_at_40, sX7_at_50, sX7_at_60, sX7_at_77, sX7_at_84 (st := []), sX7_at_41, sX7_at_51, sX7_at_61, sX7_at_78, sX7_at_44, sX7_at_54, sX7_at_64, sX7_at_79 (st := []), sX7_at_47, sX7_at_57, sX7_at_65 (st := []), sX7_at_82 (st := []), sX7_at_48, sX7_at_58, sX7_at_68, sX7_at_49 (st := []), sX7_at_59 (st := []), sX7_at_71, sX7_at_75, sX7_at_72, sX7_at_76 (st := []), inb, nz_3, nz_4, nz_6, nz_8, nz_10, nz_100, nz_300, pushr_s, pushr_n, rv_s, rv_n, kd_sI, kd_sR, kd_sJ, sz_sI, sz_sR, sz_sJ, aR_sI, aJ_sI, aI_sR, aI_sJ, not_false_eq_true, true_and, and_true, true_or, or_true, or_false, false_or, eq_self, ite_true, ite_false, if_true, if_false, X.k0, w_isPilgrim X h, e, nz_1, n0, n1, n2, n3]
    · simp only [sX8_at_0, sX8_at_1, sX8_at_2 (st := []), sX8_at_5, sX8_at_8, sX8_at_10, sX8_at_9 (st := []), sX8_at_11, sX8_at_78, sX8_at_40, sX8_at_47, sX8_at_54, sX8_at_72, sX8_at_79 (st := []), sX8_at_41, sX8_at_48, sX8_at_55, sX8_at_73, sX8_at_44, sX8_at_51, sX8_at_56, sX8_at_74 (st := []), sX8_at_45, sX8_at_52, sX8_at_59, sX8_at_77 (st := []), sX8_at_46 (st := []), sX8_at_53 (st := []), sX8_at_60 (st := []), sX8_at_63, sX8_at_66, sX8_at_70, sX8_at_67, sX8_at_71 (st := []), inb, nz_3, nz_4, nz_6, nz_8, nz_10, nz_100, nz_300, pushr_s, pushr_n, rv_s, rv_n, kd_sI, kd_sR, kd_sJ, sz_sI, sz_sR, sz_sJ, aR_sI, aJ_sI, aI_sR, aI_sJ, not_false_eq_true, true_and, and_true, true_or, or_true, or_false, false_or, eq_self, ite_true, ite_false, if_true, if_false, mk_67 g.lay, n_isPilgrim w g, e, nz_1, n0, n1, n2, n3]
  have y4 : y = 0 ∨ y = 1 ∨ y = 2 ∨ y = 3 := by omega
  have j1 : ((1 : Int32) = 0) = False := nz_1
  have j2 : ((2 : Int32) = 0) = False := eq_false (by decide +kernel)
  have j3 : ((2 : Int32) = 1) = False := eq_false (by decide +kernel)
  have j4 : ((3 : Int32) = 1) = False := eq_false (by decide +kernel)
  have j5 : ((3 : Int32) = 2) = False := eq_false (by decide +kernel)
  have i0 : nI 0 = 0 := rfl
  have i1 : nI 1 = 1 := rfl
  have i2 : nI 2 = 2 := rfl
  have i3 : nI 3 = 3 := rfl
  rcases y4 with rfl | rfl | rfl | rfl
  · refine now_same w (.int (A.M p)) (fun H h X d Q => ?_) (fun H g d Q => ?_)
    · have hl := h.lay
      have e5 : aI H 5 p = A.M p := h.eM p (by omega)
      simp only [sX7_at_0, sX7_at_1, sX7_at_2 (st := []), sX7_at_5, sX7_at_8, sX7_at_10, sX7_at_9 (st := []), sX7_at_11, sX7_at_83, sX7_at_40, sX7_at_50, sX7_at_60, sX7_at_77, sX7_at_84 (st := []), sX7_at_41, sX7_at_51, sX7_at_61, sX7_at_78, sX7_at_44, sX7_at_54, sX7_at_64, sX7_at_79 (st := []), sX7_at_47, sX7_at_57, sX7_at_65 (st := []), sX7_at_82 (st := []), sX7_at_48, sX7_at_58, sX7_at_68, sX7_at_49 (st := []), sX7_at_59 (st := []), sX7_at_71, sX7_at_75, sX7_at_72, sX7_at_76 (st := []), inb, nz_3, nz_4, nz_6, nz_8, nz_10, nz_100, nz_300, pushr_s, pushr_n, rv_s, rv_n, kd_sI, kd_sR, kd_sJ, sz_sI, sz_sR, sz_sJ, aR_sI, aJ_sI, aI_sR, aI_sJ, not_false_eq_true, true_and, and_true, true_or, or_true, or_false, false_or, eq_self, ite_true, ite_false, if_true, if_false, X.k0, X.r0, hl.1, hl.2.1, hl.2.2.1, hl.2.2.2.1, hl.2.2.2.2.1, hl.2.2.2.2.2.1, hl.2.2.2.2.2.2.1, hl.2.2.2.2.2.2.2.1, hl.2.2.2.2.2.2.2.2.1, hl.2.2.2.2.2.2.2.2.2.1, hl.2.2.2.2.2.2.2.2.2.2.1, hl.2.2.2.2.2.2.2.2.2.2.2.1, hl.2.2.2.2.2.2.2.2.2.2.2.2.1, hl.2.2.2.2.2.2.2.2.2.2.2.2.2.1, hl.2.2.2.2.2.2.2.2.2.2.2.2.2.2.1, hl.2.2.2.2.2.2.2.2.2.2.2.2.2.2.2.1, hl.2.2.2.2.2.2.2.2.2.2.2.2.2.2.2.2.1, hl.2.2.2.2.2.2.2.2.2.2.2.2.2.2.2.2.2.1, hl.2.2.2.2.2.2.2.2.2.2.2.2.2.2.2.2.2.2.1, hl.2.2.2.2.2.2.2.2.2.2.2.2.2.2.2.2.2.2.2.1, hl.2.2.2.2.2.2.2.2.2.2.2.2.2.2.2.2.2.2.2.2.1, hl.2.2.2.2.2.2.2.2.2.2.2.2.2.2.2.2.2.2.2.2.2.1, hl.2.2.2.2.2.2.2.2.2.2.2.2.2.2.2.2.2.2.2.2.2.2.1, hl.2.2.2.2.2.2.2.2.2.2.2.2.2.2.2.2.2.2.2.2.2.2.2.1, hl.2.2.2.2.2.2.2.2.2.2.2.2.2.2.2.2.2.2.2.2.2.2.2.2.1, hl.2.2.2.2.2.2.2.2.2.2.2.2.2.2.2.2.2.2.2.2.2.2.2.2.2.1, hl.2.2.2.2.2.2.2.2.2.2.2.2.2.2.2.2.2.2.2.2.2.2.2.2.2.2.1, hl.2.2.2.2.2.2.2.2.2.2.2.2.2.2.2.2.2.2.2.2.2.2.2.2.2.2.2.1, hl.2.2.2.2.2.2.2.2.2.2.2.2.2.2.2.2.2.2.2.2.2.2.2.2.2.2.2.2.1, hl.2.2.2.2.2.2.2.2.2.2.2.2.2.2.2.2.2.2.2.2.2.2.2.2.2.2.2.2.2.1, hl.2.2.2.2.2.2.2.2.2.2.2.2.2.2.2.2.2.2.2.2.2.2.2.2.2.2.2.2.2.2.1, hl.2.2.2.2.2.2.2.2.2.2.2.2.2.2.2.2.2.2.2.2.2.2.2.2.2.2.2.2.2.2.2.1, hl.2.2.2.2.2.2.2.2.2.2.2.2.2.2.2.2.2.2.2.2.2.2.2.2.2.2.2.2.2.2.2.2.1, hl.2.2.2.2.2.2.2.2.2.2.2.2.2.2.2.2.2.2.2.2.2.2.2.2.2.2.2.2.2.2.2.2.2.1, hl.2.2.2.2.2.2.2.2.2.2.2.2.2.2.2.2.2.2.2.2.2.2.2.2.2.2.2.2.2.2.2.2.2.2.1, hl.2.2.2.2.2.2.2.2.2.2.2.2.2.2.2.2.2.2.2.2.2.2.2.2.2.2.2.2.2.2.2.2.2.2.2.1, hl.2.2.2.2.2.2.2.2.2.2.2.2.2.2.2.2.2.2.2.2.2.2.2.2.2.2.2.2.2.2.2.2.2.2.2.2.1, hl.2.2.2.2.2.2.2.2.2.2.2.2.2.2.2.2.2.2.2.2.2.2.2.2.2.2.2.2.2.2.2.2.2.2.2.2.2.1, hl.2.2.2.2.2.2.2.2.2.2.2.2.2.2.2.2.2.2.2.2.2.2.2.2.2.2.2.2.2.2.2.2.2.2.2.2.2.2.1, hl.2.2.2.2.2.2.2.2.2.2.2.2.2.2.2.2.2.2.2.2.2.2.2.2.2.2.2.2.2.2.2.2.2.2.2.2.2.2.2, w_isPilgrim X h, e, nz_1, i0, kc, k1, e5]
    · have e5 : aI H 71 p = A.M p := g.eM p (by omega)
      simp only [sX8_at_0, sX8_at_1, sX8_at_2 (st := []), sX8_at_5, sX8_at_8, sX8_at_10, sX8_at_9 (st := []), sX8_at_11, sX8_at_78, sX8_at_40, sX8_at_47, sX8_at_54, sX8_at_72, sX8_at_79 (st := []), sX8_at_41, sX8_at_48, sX8_at_55, sX8_at_73, sX8_at_44, sX8_at_51, sX8_at_56, sX8_at_74 (st := []), sX8_at_45, sX8_at_52, sX8_at_59, sX8_at_77 (st := []), sX8_at_46 (st := []), sX8_at_53 (st := []), sX8_at_60 (st := []), sX8_at_63, sX8_at_66, sX8_at_70, sX8_at_67, sX8_at_71 (st := []), inb, nz_3, nz_4, nz_6, nz_8, nz_10, nz_100, nz_300, pushr_s, pushr_n, rv_s, rv_n, kd_sI, kd_sR, kd_sJ, sz_sI, sz_sR, sz_sJ, aR_sI, aJ_sI, aI_sR, aI_sJ, not_false_eq_true, true_and, and_true, true_or, or_true, or_false, false_or, eq_self, ite_true, ite_false, if_true, if_false, mk_67 g.lay, mr_8 g.lay, mk_71 g.lay, mz_71 g.lay, mr_9 g.lay, mk_72 g.lay, mz_72 g.lay, n_isPilgrim w g, e, nz_1, i0, kc, k1, e5]
  · refine now_same w (.int (A.W p)) (fun H h X d Q => ?_) (fun H g d Q => ?_)
    · have hl := h.lay
      have e5 : aI H 6 p = A.W p := h.eW p (by omega)
      simp only [sX7_at_0, sX7_at_1, sX7_at_2 (st := []), sX7_at_5, sX7_at_8, sX7_at_10, sX7_at_9 (st := []), sX7_at_11, sX7_at_83, sX7_at_40, sX7_at_50, sX7_at_60, sX7_at_77, sX7_at_84 (st := []), sX7_at_41, sX7_at_51, sX7_at_61, sX7_at_78, sX7_at_44, sX7_at_54, sX7_at_64, sX7_at_79 (st := []), sX7_at_47, sX7_at_57, sX7_at_65 (st := []), sX7_at_82 (st := []), sX7_at_48, sX7_at_58, sX7_at_68, sX7_at_49 (st := []), sX7_at_59 (st := []), sX7_at_71, sX7_at_75, sX7_at_72, sX7_at_76 (st := []), inb, nz_3, nz_4, nz_6, nz_8, nz_10, nz_100, nz_300, pushr_s, pushr_n, rv_s, rv_n, kd_sI, kd_sR, kd_sJ, sz_sI, sz_sR, sz_sJ, aR_sI, aJ_sI, aI_sR, aI_sJ, not_false_eq_true, true_and, and_true, true_or, or_true, or_false, false_or, eq_self, ite_true, ite_false, if_true, if_false, X.k0, X.r0, hl.1, hl.2.1, hl.2.2.1, hl.2.2.2.1, hl.2.2.2.2.1, hl.2.2.2.2.2.1, hl.2.2.2.2.2.2.1, hl.2.2.2.2.2.2.2.1, hl.2.2.2.2.2.2.2.2.1, hl.2.2.2.2.2.2.2.2.2.1, hl.2.2.2.2.2.2.2.2.2.2.1, hl.2.2.2.2.2.2.2.2.2.2.2.1, hl.2.2.2.2.2.2.2.2.2.2.2.2.1, hl.2.2.2.2.2.2.2.2.2.2.2.2.2.1, hl.2.2.2.2.2.2.2.2.2.2.2.2.2.2.1, hl.2.2.2.2.2.2.2.2.2.2.2.2.2.2.2.1, hl.2.2.2.2.2.2.2.2.2.2.2.2.2.2.2.2.1, hl.2.2.2.2.2.2.2.2.2.2.2.2.2.2.2.2.2.1, hl.2.2.2.2.2.2.2.2.2.2.2.2.2.2.2.2.2.2.1, hl.2.2.2.2.2.2.2.2.2.2.2.2.2.2.2.2.2.2.2.1, hl.2.2.2.2.2.2.2.2.2.2.2.2.2.2.2.2.2.2.2.2.1, hl.2.2.2.2.2.2.2.2.2.2.2.2.2.2.2.2.2.2.2.2.2.1, hl.2.2.2.2.2.2.2.2.2.2.2.2.2.2.2.2.2.2.2.2.2.2.1, hl.2.2.2.2.2.2.2.2.2.2.2.2.2.2.2.2.2.2.2.2.2.2.2.1, hl.2.2.2.2.2.2.2.2.2.2.2.2.2.2.2.2.2.2.2.2.2.2.2.2.1, hl.2.2.2.2.2.2.2.2.2.2.2.2.2.2.2.2.2.2.2.2.2.2.2.2.2.1, hl.2.2.2.2.2.2.2.2.2.2.2.2.2.2.2.2.2.2.2.2.2.2.2.2.2.2.1, hl.2.2.2.2.2.2.2.2.2.2.2.2.2.2.2.2.2.2.2.2.2.2.2.2.2.2.2.1, hl.2.2.2.2.2.2.2.2.2.2.2.2.2.2.2.2.2.2.2.2.2.2.2.2.2.2.2.2.1, hl.2.2.2.2.2.2.2.2.2.2.2.2.2.2.2.2.2.2.2.2.2.2.2.2.2.2.2.2.2.1, hl.2.2.2.2.2.2.2.2.2.2.2.2.2.2.2.2.2.2.2.2.2.2.2.2.2.2.2.2.2.2.1, hl.2.2.2.2.2.2.2.2.2.2.2.2.2.2.2.2.2.2.2.2.2.2.2.2.2.2.2.2.2.2.2.1, hl.2.2.2.2.2.2.2.2.2.2.2.2.2.2.2.2.2.2.2.2.2.2.2.2.2.2.2.2.2.2.2.2.1, hl.2.2.2.2.2.2.2.2.2.2.2.2.2.2.2.2.2.2.2.2.2.2.2.2.2.2.2.2.2.2.2.2.2.1, hl.2.2.2.2.2.2.2.2.2.2.2.2.2.2.2.2.2.2.2.2.2.2.2.2.2.2.2.2.2.2.2.2.2.2.1, hl.2.2.2.2.2.2.2.2.2.2.2.2.2.2.2.2.2.2.2.2.2.2.2.2.2.2.2.2.2.2.2.2.2.2.2.1, hl.2.2.2.2.2.2.2.2.2.2.2.2.2.2.2.2.2.2.2.2.2.2.2.2.2.2.2.2.2.2.2.2.2.2.2.2.1, hl.2.2.2.2.2.2.2.2.2.2.2.2.2.2.2.2.2.2.2.2.2.2.2.2.2.2.2.2.2.2.2.2.2.2.2.2.2.1, hl.2.2.2.2.2.2.2.2.2.2.2.2.2.2.2.2.2.2.2.2.2.2.2.2.2.2.2.2.2.2.2.2.2.2.2.2.2.2.1, hl.2.2.2.2.2.2.2.2.2.2.2.2.2.2.2.2.2.2.2.2.2.2.2.2.2.2.2.2.2.2.2.2.2.2.2.2.2.2.2, w_isPilgrim X h, e, nz_1, i1, kc, k1, e5]
    · have e5 : aI H 72 p = A.W p := g.eW p (by omega)
      simp only [sX8_at_0, sX8_at_1, sX8_at_2 (st := []), sX8_at_5, sX8_at_8, sX8_at_10, sX8_at_9 (st := []), sX8_at_11, sX8_at_78, sX8_at_40, sX8_at_47, sX8_at_54, sX8_at_72, sX8_at_79 (st := []), sX8_at_41, sX8_at_48, sX8_at_55, sX8_at_73, sX8_at_44, sX8_at_51, sX8_at_56, sX8_at_74 (st := []), sX8_at_45, sX8_at_52, sX8_at_59, sX8_at_77 (st := []), sX8_at_46 (st := []), sX8_at_53 (st := []), sX8_at_60 (st := []), sX8_at_63, sX8_at_66, sX8_at_70, sX8_at_67, sX8_at_71 (st := []), inb, nz_3, nz_4, nz_6, nz_8, nz_10, nz_100, nz_300, pushr_s, pushr_n, rv_s, rv_n, kd_sI, kd_sR, kd_sJ, sz_sI, sz_sR, sz_sJ, aR_sI, aJ_sI, aI_sR, aI_sJ, not_false_eq_true, true_and, and_true, true_or, or_true, or_false, false_or, eq_self, ite_true, ite_false, if_true, if_false, mk_67 g.lay, mr_8 g.lay, mk_71 g.lay, mz_71 g.lay, mr_9 g.lay, mk_72 g.lay, mz_72 g.lay, n_isPilgrim w g, e, nz_1, i1, kc, k1, e5]
  · refine now_same w (.int (haS (nI A.B) (nI p))) (fun H h X d Q => ?_) (fun H g d Q => ?_)
    · have ho := fun d Q => w_isBack (S := S) (d := d) (Q := Q) (l := nI p) h.lay
      rw [h.nB, ob_ha (Nat.lt_of_lt_of_le w.b32 (by decide)) (by omega)] at ho
      rcases haS01 (nI A.B) (nI p) with q | q
      · rw [q] at ho ⊢
        simp only [sX7_at_0, sX7_at_1, sX7_at_2 (st := []), sX7_at_5, sX7_at_8, sX7_at_10, sX7_at_9 (st := []), sX7_at_11, sX7_at_83, sX7_at_40, sX7_at_50, sX7_at_60, sX7_at_77, sX7_at_84 (st := []), sX7_at_41, sX7_at_51, sX7_at_61, sX7_at_78, sX7_at_44, sX7_at_54, sX7_at_64, sX7_at_79 (st := []), sX7_at_47, sX7_at_57, sX7_at_65 (st := []), sX7_at_82 (st := []), sX7_at_48, sX7_at_58, sX7_at_68, sX7_at_49 (st := []), sX7_at_59 (st := []), sX7_at_71, sX7_at_75, sX7_at_72, sX7_at_76 (st := []), inb, nz_3, nz_4, nz_6, nz_8, nz_10, nz_100, nz_300, pushr_s, pushr_n, rv_s, rv_n, kd_sI, kd_sR, kd_sJ, sz_sI, sz_sR, sz_sJ, aR_sI, aJ_sI, aI_sR, aI_sJ, not_false_eq_true, true_and, and_true, true_or, or_true, or_false, false_or, eq_self, ite_true, ite_false, if_true, if_false, X.k0, X.r0, h.lay.1, w_isPilgrim X h, e, nz_1, i2, j2, j3, ho]
      · rw [q] at ho ⊢
        simp only [sX7_at_0, sX7_at_1, sX7_at_2 (st := []), sX7_at_5, sX7_at_8, sX7_at_10, sX7_at_9 (st := []), sX7_at_11, sX7_at_83, sX7_at_40, sX7_at_50, sX7_at_60, sX7_at_77, sX7_at_84 (st := []), sX7_at_41, sX7_at_51, sX7_at_61, sX7_at_78, sX7_at_44, sX7_at_54, sX7_at_64, sX7_at_79 (st := []), sX7_at_47, sX7_at_57, sX7_at_65 (st := []), sX7_at_82 (st := []), sX7_at_48, sX7_at_58, sX7_at_68, sX7_at_49 (st := []), sX7_at_59 (st := []), sX7_at_71, sX7_at_75, sX7_at_72, sX7_at_76 (st := []), inb, nz_3, nz_4, nz_6, nz_8, nz_10, nz_100, nz_300, pushr_s, pushr_n, rv_s, rv_n, kd_sI, kd_sR, kd_sJ, sz_sI, sz_sR, sz_sJ, aR_sI, aJ_sI, aI_sR, aI_sJ, not_false_eq_true, true_and, and_true, true_or, or_true, or_false, false_or, eq_self, ite_true, ite_false, if_true, if_false, X.k0, X.r0, h.lay.1, w_isPilgrim X h, e, nz_1, i2, j2, j3, ho]
    · have ho := fun d Q => m_has (S := S) (d := d) (Q := Q) (H := H) (o := 67) (x := nI A.B) (k := nI p)
      rcases haS01 (nI A.B) (nI p) with q | q
      · rw [q] at ho ⊢
        simp only [sX8_at_0, sX8_at_1, sX8_at_2 (st := []), sX8_at_5, sX8_at_8, sX8_at_10, sX8_at_9 (st := []), sX8_at_11, sX8_at_78, sX8_at_40, sX8_at_47, sX8_at_54, sX8_at_72, sX8_at_79 (st := []), sX8_at_41, sX8_at_48, sX8_at_55, sX8_at_73, sX8_at_44, sX8_at_51, sX8_at_56, sX8_at_74 (st := []), sX8_at_45, sX8_at_52, sX8_at_59, sX8_at_77 (st := []), sX8_at_46 (st := []), sX8_at_53 (st := []), sX8_at_60 (st := []), sX8_at_63, sX8_at_66, sX8_at_70, sX8_at_67, sX8_at_71 (st := []), inb, nz_3, nz_4, nz_6, nz_8, nz_10, nz_100, nz_300, pushr_s, pushr_n, rv_s, rv_n, kd_sI, kd_sR, kd_sJ, sz_sI, sz_sR, sz_sJ, aR_sI, aJ_sI, aI_sR, aI_sJ, not_false_eq_true, true_and, and_true, true_or, or_true, or_false, false_or, eq_self, ite_true, ite_false, if_true, if_false, mk_67 g.lay, n_isPilgrim w g, e, nz_1, g.nB, i2, j2, j3, ho]
      · rw [q] at ho ⊢
        simp only [sX8_at_0, sX8_at_1, sX8_at_2 (st := []), sX8_at_5, sX8_at_8, sX8_at_10, sX8_at_9 (st := []), sX8_at_11, sX8_at_78, sX8_at_40, sX8_at_47, sX8_at_54, sX8_at_72, sX8_at_79 (st := []), sX8_at_41, sX8_at_48, sX8_at_55, sX8_at_73, sX8_at_44, sX8_at_51, sX8_at_56, sX8_at_74 (st := []), sX8_at_45, sX8_at_52, sX8_at_59, sX8_at_77 (st := []), sX8_at_46 (st := []), sX8_at_53 (st := []), sX8_at_60 (st := []), sX8_at_63, sX8_at_66, sX8_at_70, sX8_at_67, sX8_at_71 (st := []), inb, nz_3, nz_4, nz_6, nz_8, nz_10, nz_100, nz_300, pushr_s, pushr_n, rv_s, rv_n, kd_sI, kd_sR, kd_sJ, sz_sI, sz_sR, sz_sJ, aR_sI, aJ_sI, aI_sR, aI_sJ, not_false_eq_true, true_and, and_true, true_or, or_true, or_false, false_or, eq_self, ite_true, ite_false, if_true, if_false, mk_67 g.lay, n_isPilgrim w g, e, nz_1, g.nB, i2, j2, j3, ho]
  · refine ⟨.int (ansP (daysA A.N A) p), A, w, rfl, rfl, fun H h X d => ?_, fun H g d => ?_⟩
    · obtain ⟨H1, H2, a1, a2, a3, a4, a5, a6, a7, a8, a9⟩ := c_days (S := S) (d := d + 33) (n := A.N) X h w (by omega)
      have wd := w.days A.N (show A.D + A.N < 20000 by omega)
      have hl := a6.lay
      have e5 : aI H2 35 p = (daysA A.N A).M p := a6.eM p (by omega)
      have ho := fun d Q => w_isBack (S := S) (d := d) (Q := Q) (l := nI p) a6.lay
      rw [a6.nB, ob_ha (Nat.lt_of_lt_of_le wd.b32 (by decide)) (by omega)] at ho
      have hcm : ∀ Q, Wp S (d + 39) 119 0 [.ref 0, .int (nI p)] [] H Q = Q (some (.int (ansP (daysA A.N A) p))) H2 := fun Q => by
        unfold ansP
        rcases haS01 (nI (daysA A.N A).B) (nI p) with q | q
        · rw [q] at ho
          rw [if_neg (by rw [q]; decide)]
          simp only [sX7_comes_0, sX7_comes_1, sX7_comes_4, sX7_comes_5, sX7_comes_8 (st := []), sX7_comes_11, sX7_comes_12, sX7_comes_15, sX7_comes_16, sX7_comes_19, sX7_comes_22 (st := []), sX7_comes_25, sX7_comes_26, sX7_comes_29, sX7_comes_30 (st := []), sX7_comes_33, sX7_comes_36, sX7_comes_41, sX7_comes_38, sX7_comes_42, sX7_comes_50 (st := []), sX7_comes_45, sX7_comes_48, sX7_comes_49, inb, nz_3, nz_4, nz_6, nz_8, nz_10, nz_100, nz_300, pushr_s, pushr_n, rv_s, rv_n, kd_sI, kd_sR, kd_sJ, sz_sI, sz_sR, sz_sJ, aR_sI, aJ_sI, aI_sR, aI_sJ, not_false_eq_true, true_and, and_true, true_or, or_true, or_false, false_or, eq_self, ite_true, ite_false, if_true, if_false, X.k0, X.r0, X.r2, h.lay.1, X.s31.1, a8, a2.k0, a2.r0, a2.r2, a1.lay.1, a1.nN, a5.lay.1, a9, a4.k0, a4.r2, hl.1, hl.2.1, hl.2.2.1, hl.2.2.2.1, hl.2.2.2.2.1, hl.2.2.2.2.2.1, hl.2.2.2.2.2.2.1, hl.2.2.2.2.2.2.2.1, hl.2.2.2.2.2.2.2.2.1, hl.2.2.2.2.2.2.2.2.2.1, hl.2.2.2.2.2.2.2.2.2.2.1, hl.2.2.2.2.2.2.2.2.2.2.2.1, hl.2.2.2.2.2.2.2.2.2.2.2.2.1, hl.2.2.2.2.2.2.2.2.2.2.2.2.2.1, hl.2.2.2.2.2.2.2.2.2.2.2.2.2.2.1, hl.2.2.2.2.2.2.2.2.2.2.2.2.2.2.2.1, hl.2.2.2.2.2.2.2.2.2.2.2.2.2.2.2.2.1, hl.2.2.2.2.2.2.2.2.2.2.2.2.2.2.2.2.2.1, hl.2.2.2.2.2.2.2.2.2.2.2.2.2.2.2.2.2.2.1, hl.2.2.2.2.2.2.2.2.2.2.2.2.2.2.2.2.2.2.2.1, hl.2.2.2.2.2.2.2.2.2.2.2.2.2.2.2.2.2.2.2.2.1, hl.2.2.2.2.2.2.2.2.2.2.2.2.2.2.2.2.2.2.2.2.2.1, hl.2.2.2.2.2.2.2.2.2.2.2.2.2.2.2.2.2.2.2.2.2.2.1, hl.2.2.2.2.2.2.2.2.2.2.2.2.2.2.2.2.2.2.2.2.2.2.2.1, hl.2.2.2.2.2.2.2.2.2.2.2.2.2.2.2.2.2.2.2.2.2.2.2.2.1, hl.2.2.2.2.2.2.2.2.2.2.2.2.2.2.2.2.2.2.2.2.2.2.2.2.2.1, hl.2.2.2.2.2.2.2.2.2.2.2.2.2.2.2.2.2.2.2.2.2.2.2.2.2.2.1, hl.2.2.2.2.2.2.2.2.2.2.2.2.2.2.2.2.2.2.2.2.2.2.2.2.2.2.2.1, hl.2.2.2.2.2.2.2.2.2.2.2.2.2.2.2.2.2.2.2.2.2.2.2.2.2.2.2.2.1, hl.2.2.2.2.2.2.2.2.2.2.2.2.2.2.2.2.2.2.2.2.2.2.2.2.2.2.2.2.2.1, hl.2.2.2.2.2.2.2.2.2.2.2.2.2.2.2.2.2.2.2.2.2.2.2.2.2.2.2.2.2.2.1, hl.2.2.2.2.2.2.2.2.2.2.2.2.2.2.2.2.2.2.2.2.2.2.2.2.2.2.2.2.2.2.2.1, hl.2.2.2.2.2.2.2.2.2.2.2.2.2.2.2.2.2.2.2.2.2.2.2.2.2.2.2.2.2.2.2.2.1, hl.2.2.2.2.2.2.2.2.2.2.2.2.2.2.2.2.2.2.2.2.2.2.2.2.2.2.2.2.2.2.2.2.2.1, hl.2.2.2.2.2.2.2.2.2.2.2.2.2.2.2.2.2.2.2.2.2.2.2.2.2.2.2.2.2.2.2.2.2.2.1, hl.2.2.2.2.2.2.2.2.2.2.2.2.2.2.2.2.2.2.2.2.2.2.2.2.2.2.2.2.2.2.2.2.2.2.2.1, hl.2.2.2.2.2.2.2.2.2.2.2.2.2.2.2.2.2.2.2.2.2.2.2.2.2.2.2.2.2.2.2.2.2.2.2.2.1, hl.2.2.2.2.2.2.2.2.2.2.2.2.2.2.2.2.2.2.2.2.2.2.2.2.2.2.2.2.2.2.2.2.2.2.2.2.2.1, hl.2.2.2.2.2.2.2.2.2.2.2.2.2.2.2.2.2.2.2.2.2.2.2.2.2.2.2.2.2.2.2.2.2.2.2.2.2.2.1, hl.2.2.2.2.2.2.2.2.2.2.2.2.2.2.2.2.2.2.2.2.2.2.2.2.2.2.2.2.2.2.2.2.2.2.2.2.2.2.2, ho, kc, k1, e5]
        · rw [q] at ho
          rw [if_pos q]
          simp only [sX7_comes_0, sX7_comes_1, sX7_comes_4, sX7_comes_5, sX7_comes_8 (st := []), sX7_comes_11, sX7_comes_12, sX7_comes_15, sX7_comes_16, sX7_comes_19, sX7_comes_22 (st := []), sX7_comes_25, sX7_comes_26, sX7_comes_29, sX7_comes_30 (st := []), sX7_comes_33, sX7_comes_36, sX7_comes_41, sX7_comes_38, sX7_comes_42, sX7_comes_50 (st := []), sX7_comes_45, sX7_comes_48, sX7_comes_49, inb, nz_3, nz_4, nz_6, nz_8, nz_10, nz_100, nz_300, pushr_s, pushr_n, rv_s, rv_n, kd_sI, kd_sR, kd_sJ, sz_sI, sz_sR, sz_sJ, aR_sI, aJ_sI, aI_sR, aI_sJ, not_false_eq_true, true_and, and_true, true_or, or_true, or_false, false_or, eq_self, ite_true, ite_false, if_true, if_false, X.k0, X.r0, X.r2, h.lay.1, X.s31.1, a8, a2.k0, a2.r0, a2.r2, a1.lay.1, a1.nN, a5.lay.1, a9, a4.k0, a4.r2, hl.1, hl.2.1, hl.2.2.1, hl.2.2.2.1, hl.2.2.2.2.1, hl.2.2.2.2.2.1, hl.2.2.2.2.2.2.1, hl.2.2.2.2.2.2.2.1, hl.2.2.2.2.2.2.2.2.1, hl.2.2.2.2.2.2.2.2.2.1, hl.2.2.2.2.2.2.2.2.2.2.1, hl.2.2.2.2.2.2.2.2.2.2.2.1, hl.2.2.2.2.2.2.2.2.2.2.2.2.1, hl.2.2.2.2.2.2.2.2.2.2.2.2.2.1, hl.2.2.2.2.2.2.2.2.2.2.2.2.2.2.1, hl.2.2.2.2.2.2.2.2.2.2.2.2.2.2.2.1, hl.2.2.2.2.2.2.2.2.2.2.2.2.2.2.2.2.1, hl.2.2.2.2.2.2.2.2.2.2.2.2.2.2.2.2.2.1, hl.2.2.2.2.2.2.2.2.2.2.2.2.2.2.2.2.2.2.1, hl.2.2.2.2.2.2.2.2.2.2.2.2.2.2.2.2.2.2.2.1, hl.2.2.2.2.2.2.2.2.2.2.2.2.2.2.2.2.2.2.2.2.1, hl.2.2.2.2.2.2.2.2.2.2.2.2.2.2.2.2.2.2.2.2.2.1, hl.2.2.2.2.2.2.2.2.2.2.2.2.2.2.2.2.2.2.2.2.2.2.1, hl.2.2.2.2.2.2.2.2.2.2.2.2.2.2.2.2.2.2.2.2.2.2.2.1, hl.2.2.2.2.2.2.2.2.2.2.2.2.2.2.2.2.2.2.2.2.2.2.2.2.1, hl.2.2.2.2.2.2.2.2.2.2.2.2.2.2.2.2.2.2.2.2.2.2.2.2.2.1, hl.2.2.2.2.2.2.2.2.2.2.2.2.2.2.2.2.2.2.2.2.2.2.2.2.2.2.1, hl.2.2.2.2.2.2.2.2.2.2.2.2.2.2.2.2.2.2.2.2.2.2.2.2.2.2.2.1, hl.2.2.2.2.2.2.2.2.2.2.2.2.2.2.2.2.2.2.2.2.2.2.2.2.2.2.2.2.1, hl.2.2.2.2.2.2.2.2.2.2.2.2.2.2.2.2.2.2.2.2.2.2.2.2.2.2.2.2.2.1, hl.2.2.2.2.2.2.2.2.2.2.2.2.2.2.2.2.2.2.2.2.2.2.2.2.2.2.2.2.2.2.1, hl.2.2.2.2.2.2.2.2.2.2.2.2.2.2.2.2.2.2.2.2.2.2.2.2.2.2.2.2.2.2.2.1, hl.2.2.2.2.2.2.2.2.2.2.2.2.2.2.2.2.2.2.2.2.2.2.2.2.2.2.2.2.2.2.2.2.1, hl.2.2.2.2.2.2.2.2.2.2.2.2.2.2.2.2.2.2.2.2.2.2.2.2.2.2.2.2.2.2.2.2.2.1, hl.2.2.2.2.2.2.2.2.2.2.2.2.2.2.2.2.2.2.2.2.2.2.2.2.2.2.2.2.2.2.2.2.2.2.1, hl.2.2.2.2.2.2.2.2.2.2.2.2.2.2.2.2.2.2.2.2.2.2.2.2.2.2.2.2.2.2.2.2.2.2.2.1, hl.2.2.2.2.2.2.2.2.2.2.2.2.2.2.2.2.2.2.2.2.2.2.2.2.2.2.2.2.2.2.2.2.2.2.2.2.1, hl.2.2.2.2.2.2.2.2.2.2.2.2.2.2.2.2.2.2.2.2.2.2.2.2.2.2.2.2.2.2.2.2.2.2.2.2.2.1, hl.2.2.2.2.2.2.2.2.2.2.2.2.2.2.2.2.2.2.2.2.2.2.2.2.2.2.2.2.2.2.2.2.2.2.2.2.2.2.1, hl.2.2.2.2.2.2.2.2.2.2.2.2.2.2.2.2.2.2.2.2.2.2.2.2.2.2.2.2.2.2.2.2.2.2.2.2.2.2.2, ho, nz_1]
      refine ⟨H2, a3, a7, fun Q => ?_⟩
      simp only [sX7_at_0, sX7_at_1, sX7_at_2 (st := []), sX7_at_5, sX7_at_8, sX7_at_10, sX7_at_9 (st := []), sX7_at_11, sX7_at_83, sX7_at_40, sX7_at_50, sX7_at_60, sX7_at_77, sX7_at_84 (st := []), sX7_at_41, sX7_at_51, sX7_at_61, sX7_at_78, sX7_at_44, sX7_at_54, sX7_at_64, sX7_at_79 (st := []), sX7_at_47, sX7_at_57, sX7_at_65 (st := []), sX7_at_82 (st := []), sX7_at_48, sX7_at_58, sX7_at_68, sX7_at_49 (st := []), sX7_at_59 (st := []), sX7_at_71, sX7_at_75, sX7_at_72, sX7_at_76 (st := []), inb, nz_3, nz_4, nz_6, nz_8, nz_10, nz_100, nz_300, pushr_s, pushr_n, rv_s, rv_n, kd_sI, kd_sR, kd_sJ, sz_sI, sz_sR, sz_sJ, aR_sI, aJ_sI, aI_sR, aI_sJ, not_false_eq_true, true_and, and_true, true_or, or_true, or_false, false_or, eq_self, ite_true, ite_false, if_true, if_false, X.k0, w_isPilgrim X h, e, nz_1, i3, nz_3, j4, j5, hcm]
    · obtain ⟨H1, a1, a2, a3, a4⟩ := m_save (S := S) (d := d + 38) g
      obtain ⟨H2, E, b1, b2, b3, b4, b5, b6, b7, b8⟩ := lp_comes (S := S) (A := A) (d := d + 32) (p := p) (l2 := hole) A.N A H1 a1 w a2 (U5.refl A) hp (Or.inr (Nat.le_add_left _ _)) (by omega)
      obtain ⟨H3, c1, c2, c3⟩ := m_put (S := S) (d := d + 38) b1 b4 b3
      have hb := fun Q => m_has (S := S) (d := d + 38) (Q := Q) (H := H2) (o := 67) (x := nI E.B) (k := nI p)
      have e5 : aI H2 71 p = E.M p := b1.eM p (by omega)
      have hcm : ∀ Q, Wp S (d + 39) 175 0 [.ref 67, .int (nI p), hole] [] H Q = Q (some (.int (ansP (daysA A.N A) p))) H3 := fun Q => by
        rw [← b7]
        unfold ansP
        simp only [sX8_comes_0, sX8_comes_1 (st := []), sX8_comes_5, sX8_comes_6, sX8_comes_9, sX8_comes_10 (st := []), sX8_comes_13, sX8_comes_16, sX8_comes_17, sX8_comes_32, sX8_comes_18 (st := []), sX8_comes_33, sX8_comes_21, sX8_comes_36, sX8_comes_24, sX8_comes_37 (st := []), sX8_comes_25 (st := []), sX8_comes_40, sX8_comes_28, sX8_comes_43, sX8_comes_48, sX8_comes_45, sX8_comes_49, sX8_comes_54, sX8_comes_52, sX8_comes_55, sX8_comes_53, sX8_comes_56 (st := []), sX8_comes_59, sX8_comes_60 (st := []), inb, nz_3, nz_4, nz_6, nz_8, nz_10, nz_100, nz_300, pushr_s, pushr_n, rv_s, rv_n, kd_sI, kd_sR, kd_sJ, sz_sI, sz_sR, sz_sJ, aR_sI, aJ_sI, aI_sR, aI_sJ, not_false_eq_true, true_and, and_true, true_or, or_true, or_false, false_or, eq_self, ite_true, ite_false, if_true, if_false, mk_67 g.lay, a4, b8]
        rw [sX8_comes_31 (st := [])]
        rcases haS01 (nI E.B) (nI p) with q | q
        · rw [q] at hb
          rw [if_neg (by rw [q]; decide)]
          simp only [sX8_comes_0, sX8_comes_1 (st := []), sX8_comes_5, sX8_comes_6, sX8_comes_9, sX8_comes_10 (st := []), sX8_comes_13, sX8_comes_16, sX8_comes_31, sX8_comes_17, sX8_comes_32, sX8_comes_18 (st := []), sX8_comes_33, sX8_comes_21, sX8_comes_36, sX8_comes_24, sX8_comes_37 (st := []), sX8_comes_25 (st := []), sX8_comes_40, sX8_comes_28, sX8_comes_43, sX8_comes_48, sX8_comes_45, sX8_comes_49, sX8_comes_54, sX8_comes_52, sX8_comes_55, sX8_comes_53, sX8_comes_56 (st := []), sX8_comes_59, sX8_comes_60 (st := []), inb, nz_3, nz_4, nz_6, nz_8, nz_10, nz_100, nz_300, pushr_s, pushr_n, rv_s, rv_n, kd_sI, kd_sR, kd_sJ, sz_sI, sz_sR, sz_sJ, aR_sI, aJ_sI, aI_sR, aI_sJ, not_false_eq_true, true_and, and_true, true_or, or_true, or_false, false_or, eq_self, ite_true, ite_false, if_true, if_false, mk_67 b1.lay, mr_8 b1.lay, mk_71 b1.lay, mz_71 b1.lay, b1.nB, hb, kc, k1, e5, c3]
        · rw [q] at hb
          rw [if_pos q]
          simp only [sX8_comes_0, sX8_comes_1 (st := []), sX8_comes_5, sX8_comes_6, sX8_comes_9, sX8_comes_10 (st := []), sX8_comes_13, sX8_comes_16, sX8_comes_31, sX8_comes_17, sX8_comes_32, sX8_comes_18 (st := []), sX8_comes_33, sX8_comes_21, sX8_comes_36, sX8_comes_24, sX8_comes_37 (st := []), sX8_comes_25 (st := []), sX8_comes_40, sX8_comes_28, sX8_comes_43, sX8_comes_48, sX8_comes_45, sX8_comes_49, sX8_comes_54, sX8_comes_52, sX8_comes_55, sX8_comes_53, sX8_comes_56 (st := []), sX8_comes_59, sX8_comes_60 (st := []), inb, nz_3, nz_4, nz_6, nz_8, nz_10, nz_100, nz_300, pushr_s, pushr_n, rv_s, rv_n, kd_sI, kd_sR, kd_sJ, sz_sI, sz_sR, sz_sJ, aR_sI, aJ_sI, aI_sR, aI_sJ, not_false_eq_true, true_and, and_true, true_or, or_true, or_false, false_or, eq_self, ite_true, ite_false, if_true, if_false, mk_67 b1.lay, mr_8 b1.lay, mk_71 b1.lay, mz_71 b1.lay, b1.nB, hb, nz_1, c3]
      refine ⟨H3, c1, (a3.trans b6).trans c2, fun Q => ?_⟩
      simp only [sX8_at_0, sX8_at_1, sX8_at_2 (st := []), sX8_at_5, sX8_at_8, sX8_at_10, sX8_at_9 (st := []), sX8_at_11, sX8_at_78, sX8_at_40, sX8_at_47, sX8_at_54, sX8_at_72, sX8_at_79 (st := []), sX8_at_41, sX8_at_48, sX8_at_55, sX8_at_73, sX8_at_44, sX8_at_51, sX8_at_56, sX8_at_74 (st := []), sX8_at_45, sX8_at_52, sX8_at_59, sX8_at_77 (st := []), sX8_at_46 (st := []), sX8_at_53 (st := []), sX8_at_60 (st := []), sX8_at_63, sX8_at_66, sX8_at_70, sX8_at_67, sX8_at_71 (st := []), inb, nz_3, nz_4, nz_6, nz_8, nz_10, nz_100, nz_300, pushr_s, pushr_n, rv_s, rv_n, kd_sI, kd_sR, kd_sJ, sz_sI, sz_sR, sz_sJ, aR_sI, aJ_sI, aI_sR, aI_sJ, not_false_eq_true, true_and, and_true, true_or, or_true, or_false, false_or, eq_self, ite_true, ite_false, if_true, if_false, mk_67 g.lay, n_isPilgrim w g, e, nz_1, i3, nz_3, j4, j5, hcm]
end CALLS
