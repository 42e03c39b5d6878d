-- 70: call: act
abbrev TrS : Type := Nat × (Nat → Int32)
def nt (b : Nat) (s : TrS) : TrS := (s.1 + 1, if s.1 < 20 then upd s.2 s.1 (nI b) else s.2)
def kaN : List Nat := [0, 0, 0, 0, 1, 2, 3]
def boN : List Nat := [10, 11, 12, 0, 20, 0, 30, 0, 0, 0, 0, 40, 50, 51, 0, 0, 0, 60, 71, 70, 0]
def fnL (a : Nat) : Nat → Nat → Nat
  | 0, k => k
  | c + 1, k => if k = 0 then 0 else if boN.getD (3 * k + a) 0 = 0 then fnL a c (kaN.getD k 0) else k
def bo (k a : Nat) : Nat := boN.getD (3 * fnL a 7 k + a) 0
abbrev RuT : Type := Nat → Nat → Int32 → TrS → Option (Int32 × TrS)
def th1 (r : Option (Int32 × TrS)) (f : Int32 → Int32) : Option (Int32 × TrS) := match r with | none => none | some q => some (f q.1, q.2)
def th2 (r : Option (Int32 × TrS)) (g : TrS → Option (Int32 × TrS)) : Option (Int32 × TrS) := match r with | none => none | some q => match g q.2 with | none => none | some p => some (q.1 + p.1, p.2)
def bdO (i v : Int32) (kk : Nat) (R : RuT) (b : Nat) (x : Int32) (s : TrS) : Option (Int32 × TrS) :=
  if b = 10 then some (x + i, s)
  else if b = 11 then th1 (R kk 0 x s) (fun z => z - v)
  else if b = 12 then th1 (R kk 1 x s) (fun z => z * 2)
  else if b = 20 then th1 (R 0 1 x s) (fun z => z ^^^ 6)
  else if b = 30 then R 0 0 (x * 3) s
  else if b = 40 then th2 (R 0 2 x s) (R kk 1 1)
  else if b = 50 then th1 (R 1 0 x s) (fun z => -z)
  else if b = 51 then R 1 1 (x + 1) s
  else if b = 60 then R 2 2 (x - i) s
  else if b = 70 then th2 (R 3 1 x s) (R 3 0 2)
  else if b = 71 then th1 (R 3 0 x s) (fun z => z ^^^ v)
  else none
def rnO (i v : Int32) (kk : Nat) : Nat → RuT
  | 0 => fun _ _ _ _ => none
  | f + 1 => fun k a x s => bdO i v kk (rnO i v kk f) (bo k a) x (nt (bo k a) s)
theorem th1_s {r : Option (Int32 × TrS)} {f : Int32 → Int32} {p : Int32 × TrS} (h : th1 r f = some p) : ∃ q, r = some q ∧ p = (f q.1, q.2) := by
  cases r with
  | none => cases h
  | some q => exact ⟨q, rfl, (Option.some.inj h).symm⟩
theorem th2_s {r : Option (Int32 × TrS)} {g : TrS → Option (Int32 × TrS)} {p : Int32 × TrS} (h : th2 r g = some p) : ∃ q t, r = some q ∧ g q.2 = some t ∧ p = (q.1 + t.1, t.2) := by
  cases r with
  | none => cases h
  | some q =>
    have h : (match g q.2 with | none => none | some p => some (q.1 + p.1, p.2)) = some p := h
    cases hg : g q.2 with
    | none => rw [hg] at h; cases h
    | some t => rw [hg] at h; exact ⟨q, t, rfl, hg, (Option.some.inj h).symm⟩
theorem rn_n (i v : Int32) (kk : Nat) : ∀ (f k a : Nat) (x : Int32) (s : TrS) (p : Int32 × TrS), rnO i v kk f k a x s = some p → p.2.1 + 1 ≤ s.1 + 2 ^ f
  | 0, _, _, _, _, _, h => by cases h
  | f + 1, k, a, x, s, p, h => by
    have ih := rn_n i v kk f
    have h2 : 2 ^ (f + 1) = 2 * 2 ^ f := by rw [Nat.pow_succ]; omega
    have h3 : 1 ≤ 2 ^ f := Nat.one_le_two_pow
    have h : bdO i v kk (rnO i v kk f) (bo k a) x (nt (bo k a) s) = some p := h
    have e1 : (nt (bo k a) s).1 = s.1 + 1 := rfl
    generalize nt (bo k a) s = s1 at h e1
    unfold bdO at h
    repeat' split at h
    all_goals first
      | (have h := Option.some.inj h; subst h; show s1.1 + 1 ≤ _; omega)
      | (cases h; done)
      | (obtain ⟨q, hq, rfl⟩ := th1_s h; have := ih _ _ _ _ _ hq; show q.2.1 + 1 ≤ _; omega)
      | (obtain ⟨q, t, hq, ht, rfl⟩ := th2_s h; have := ih _ _ _ _ _ hq; have := ih _ _ _ _ _ ht; show t.2.1 + 1 ≤ _; omega)
      | (have := ih _ _ _ _ _ h; omega)
def aS (H : AH) (s : TrS) : AH := (H.1, fun a b => if a = 52 then (if b = 1 then nI s.1 else H.2.1 52 b) else if a = 53 then s.2 b else H.2.1 a b, H.2.2.1, H.2.2.2)
theorem aI_aS (H : AH) (s : TrS) (a b : Nat) : aI (aS H s) a b = if a = 52 then (if b = 1 then nI s.1 else aI H 52 b) else if a = 53 then s.2 b else aI H a b := rfl
theorem aS_1 (H : AH) (s : TrS) : aI (aS H s) 52 1 = nI s.1 := rfl
theorem aS_2 (H : AH) (s : TrS) : aI (aS H s) 52 2 = aI H 52 2 := rfl
theorem aS_3 (H : AH) (s : TrS) : aI (aS H s) 52 3 = aI H 52 3 := rfl
theorem aS_4 (H : AH) (s : TrS) : aI (aS H s) 52 4 = aI H 52 4 := rfl
theorem kd_aS (H : AH) (s : TrS) (o : Nat) : kd (aS H s) o = kd H o := rfl
theorem sz_aS (H : AH) (s : TrS) (o : Nat) : sz (aS H s) o = sz H o := rfl
theorem aR_aS (H : AH) (s : TrS) : aR (aS H s) = aR H := rfl
theorem aS_set {H : AH} {s s2 : TrS} {k i : Nat} {v : Int32} (h : ∀ a b, (if a = k ∧ b = i then v else aI (aS H s) a b) = aI (aS H s2) a b) : sI (aS H s) k i v = aS H s2 := by
  show (H.1, (fun a b => if a = k ∧ b = i then v else aI (aS H s) a b), H.2.2.1, H.2.2.2) = (H.1, (fun a b => aI (aS H s2) a b), H.2.2.1, H.2.2.2)
  exact congrArg (fun f => (H.1, f, H.2.2.1, H.2.2.2)) (funext fun a => funext fun b => h a b)
theorem aS_w1 {H : AH} {s : TrS} {n : Nat} : sI (aS H s) 52 1 (nI n) = aS H (n, s.2) := aS_set fun a b => by
  rw [aI_aS, aI_aS]
  by_cases ha : a = 52
  · by_cases hb : b = 1
    · rw [if_pos ⟨ha, hb⟩, if_pos ha, if_pos hb]
    · rw [if_neg (fun z => hb z.2), if_pos ha, if_pos ha, if_neg hb, if_neg hb]
  · rw [if_neg (fun z => ha z.1), if_neg ha, if_neg ha]
theorem aS_w2 {H : AH} {s : TrS} {i : Nat} {v : Int32} : sI (aS H s) 53 i v = aS H (s.1, upd s.2 i v) := aS_set fun a b => by
  rw [aI_aS, aI_aS]
  by_cases ha : a = 53
  · have h52 : ¬ a = 52 := by omega
    rw [if_neg h52, if_neg h52, if_pos ha, if_pos ha]
    by_cases hb : b = i
    · rw [if_pos ⟨ha, hb⟩, hb]; exact (pk_us (f := s.2)).symm
    · rw [if_neg (fun z => hb z.2)]; exact (pk_un (f := s.2) hb).symm
  · rw [if_neg (fun z => ha z.1), if_neg ha, if_neg ha]
section CALLS
variable {S : SC} {A : AS} {X : XS}
theorem w_note {d b : Nat} {H : AH} {s : TrS} {Q : Option Value → AH → Prop} (l : CoL H) (hn : s.1 < 2 ^ 30) : Wp S d 5 0 [.ref 52, .int (nI b)] [] (aS H s) Q = Q none (aS H (nt b s)) := by
  unfold nt
  by_cases q : s.1 < 20
  · have q1 : ¬ 20 ≤ nI s.1 := nI_ge (b := 20) q (by decide)
    have kc : (nI s.1).toNatClampNeg = s.1 := nI_clamp (by omega)
    have kb : ¬ (nI s.1 < 0 ∨ 20 ≤ s.1) := inN q (by omega)
    rw [if_pos q]
    simp only [sX0_note_0, sX0_note_1, sX0_note_4, sX0_note_6, sX0_note_9, sX0_note_19, sX0_note_10, sX0_note_20, sX0_note_13, sX0_note_21, sX0_note_14, sX0_note_24, sX0_note_17, sX0_note_25, sX0_note_18, sX0_note_26, sX0_note_29 (st := []), inb, nz_3, nz_4, nz_6, nz_8, nz_10, nz_100, nz_300, pushr_s, pushr_n, rv_s, rv_n, kd_sI, kd_sR, kd_sJ, sz_sI, sz_sR, sz_sJ, aR_sI, aJ_sI, aI_sR, aI_sJ, not_false_eq_true, true_and, and_true, true_or, or_true, or_false, false_or, eq_self, ite_true, ite_false, if_true, if_false, kd_aS, sz_aS, aR_aS, l.k52, l.r52, l.k53, l.z53, aS_1, q1, kc, kb, aS_w2, nI_1, aS_w1]
  · have q1 : 20 ≤ nI s.1 := nI_le (a := 20) (by omega) (by omega)
    rw [if_neg q]
    simp only [sX0_note_0, sX0_note_1, sX0_note_4, sX0_note_6, sX0_note_9, sX0_note_19, sX0_note_10, sX0_note_20, sX0_note_13, sX0_note_21, sX0_note_14, sX0_note_24, sX0_note_17, sX0_note_25, sX0_note_18, sX0_note_26, sX0_note_29 (st := []), inb, nz_3, nz_4, nz_6, nz_8, nz_10, nz_100, nz_300, pushr_s, pushr_n, rv_s, rv_n, kd_sI, kd_sR, kd_sJ, sz_sI, sz_sR, sz_sJ, aR_sI, aJ_sI, aI_sR, aI_sJ, not_false_eq_true, true_and, and_true, true_or, or_true, or_false, false_or, eq_self, ite_true, ite_false, if_true, if_false, kd_aS, l.k52, aS_1, q1, nI_1, aS_w1]
theorem lp_find {d a : Nat} {H : AH} {v1 v3 v4 : Int32} (ha : a < 3) : ∀ (c i k : Nat), i + c = 7 → k < 7 → ∃ z, ∀ Q, Wp S d 4 6 [.ref 52, .int v1, .int (nI a), .int v3, .int v4, .int (nI k), .int (nI i)] [] H Q = Wp S d 4 47 [.ref 52, .int v1, .int (nI a), .int v3, .int v4, .int (nI (fnL a c k)), .int z] [] H Q
  | 0, i, k, hc, hk => by
    have e : nI 7 ≤ nI i := nI_le (by omega) (by omega)
    have b1 : (bI S 1).1 = 7 := rfl
    refine ⟨nI i, fun Q => ?_⟩
    rw [sX0_run_6]
    simp only [sX0_run_0, sX0_run_1, sX0_run_3, sX0_run_4, sX0_run_8, sX0_run_11, sX0_run_12, sX0_run_15, sX0_run_17, sX0_run_49, sX0_run_20, sX0_run_52, sX0_run_59, sX0_run_23, sX0_run_54, sX0_run_60 (st := []), sX0_run_25, sX0_run_56, sX0_run_26, sX0_run_61, sX0_run_27, sX0_run_64, sX0_run_28, sX0_run_66, sX0_run_29, sX0_run_67, sX0_run_30, sX0_run_68, sX0_run_33, sX0_run_69, sX0_run_36, sX0_run_70, sX0_run_38, sX0_run_71, sX0_run_39, sX0_run_73, sX0_run_41, sX0_run_74, sX0_run_44, sX0_run_76 (st := []), sX0_run_79, sX0_run_80, sX0_run_82, sX0_run_83, sX0_run_85, sX0_run_86, sX0_run_87 (st := []), sX0_run_90 (st := []), inb, nz_3, nz_4, nz_6, nz_8, nz_10, nz_100, nz_300, pushr_s, pushr_n, rv_s, rv_n, kd_sI, kd_sR, kd_sJ, sz_sI, sz_sR, sz_sJ, aR_sI, aJ_sI, aI_sR, aI_sJ, not_false_eq_true, true_and, and_true, true_or, or_true, or_false, false_or, eq_self, ite_true, ite_false, if_true, if_false, show (1 : Nat) ≤ 2 by decide, b1, e]
    rfl
  | c + 1, i, k, hc, hk => by
    have e : ¬ nI 7 ≤ nI i := nI_ge (by omega) (by omega)
    have b1 : (bI S 1).1 = 7 := rfl
    have b2 : (bI S 2).1 = 21 := rfl
    by_cases k0 : k = 0
    · subst k0
      have e0 : nI 0 ≤ 0 := by decide +kernel
      have ef : fnL a (c + 1) 0 = 0 := if_pos rfl
      rw [ef]
      refine ⟨nI i, fun Q => ?_⟩
      rw [sX0_run_6]
      simp only [sX0_run_0, sX0_run_1, sX0_run_3, sX0_run_4, sX0_run_8, sX0_run_11, sX0_run_12, sX0_run_15, sX0_run_17, sX0_run_49, sX0_run_20, sX0_run_52, sX0_run_59, sX0_run_23, sX0_run_54, sX0_run_60 (st := []), sX0_run_25, sX0_run_56, sX0_run_26, sX0_run_61, sX0_run_27, sX0_run_64, sX0_run_28, sX0_run_66, sX0_run_29, sX0_run_67, sX0_run_30, sX0_run_68, sX0_run_33, sX0_run_69, sX0_run_36, sX0_run_70, sX0_run_38, sX0_run_71, sX0_run_39, sX0_run_73, sX0_run_41, sX0_run_74, sX0_run_44, sX0_run_76 (st := []), sX0_run_79, sX0_run_80, sX0_run_82, sX0_run_83, sX0_run_85, sX0_run_86, sX0_run_87 (st := []), sX0_run_90 (st := []), inb, nz_3, nz_4, nz_6, nz_8, nz_10, nz_100, nz_300, pushr_s, pushr_n, rv_s, rv_n, kd_sI, kd_sR, kd_sJ, sz_sI, sz_sR, sz_sJ, aR_sI, aJ_sI, aI_sR, aI_sJ, not_false_eq_true, true_and, and_true, true_or, or_true, or_false, false_or, eq_self, ite_true, ite_false, if_true, if_false, show (1 : Nat) ≤ 2 by decide, b1, e, e0]
    · have e0 : ¬ nI k ≤ 0 := nI_nle (by omega) (by omega)
      have i1 : nI k * 3 + nI a = nI (3 * k + a) := by rw [show (3 : Int32) = nI 3 from rfl, pk_mul, nI_add, Nat.mul_comm]
      have xc : (nI (3 * k + a)).toNatClampNeg = 3 * k + a := nI_clamp (by omega)
      have xb : ¬ (nI (3 * k + a) < 0 ∨ 21 ≤ 3 * k + a) := inN (by omega) (by omega)
      have bv : (bI S 2).2 (3 * k + a) = nI (boN.getD (3 * k + a) 0) := (show ∀ j, j < 21 → bodL.getD j 0 = nI (boN.getD j 0) by decide +kernel) _ (by omega)
      have kc : (nI k).toNatClampNeg = k := nI_clamp (by omega)
      have kb : ¬ (nI k < 0 ∨ 7 ≤ k) := inN hk (by omega)
      have kv : (bI S 1).2 k = nI (kaN.getD k 0) := (show ∀ j, j < 7 → j ≠ 0 → kaL.getD j 0 = nI (kaN.getD j 0) by decide +kernel) k hk k0
      have k7 : kaN.getD k 0 < 7 := (show ∀ j, j < 7 → kaN.getD j 0 < 7 by decide) k hk
      have bl : boN.getD (3 * k + a) 0 < 100 := (show ∀ j, j < 21 → boN.getD j 0 < 100 by decide) _ (by omega)
      by_cases q : boN.getD (3 * k + a) 0 = 0
      · have ef : fnL a (c + 1) k = fnL a c (kaN.getD k 0) := by
          show (if k = 0 then 0 else if boN.getD (3 * k + a) 0 = 0 then fnL a c (kaN.getD k 0) else k) = _
          rw [if_neg k0, if_pos q]
        obtain ⟨z, ih⟩ := lp_find (d := d) (H := H) (v1 := v1) (v3 := v3) (v4 := v4) ha c (i + 1) (kaN.getD k 0) (by omega) k7
        have q1 : (nI (boN.getD (3 * k + a) 0) = 0) = True := eq_true (by rw [q]; rfl)
        rw [ef]
        refine ⟨z, fun Q => ?_⟩
        rw [sX0_run_6, ← ih Q]
        simp only [sX0_run_0, sX0_run_1, sX0_run_3, sX0_run_4, sX0_run_8, sX0_run_11, sX0_run_12, sX0_run_15, sX0_run_17, sX0_run_49, sX0_run_20, sX0_run_52, sX0_run_59, sX0_run_23, sX0_run_54, sX0_run_60 (st := []), sX0_run_25, sX0_run_56, sX0_run_26, sX0_run_61, sX0_run_27, sX0_run_64, sX0_run_28, sX0_run_66, sX0_run_29, sX0_run_67, sX0_run_30, sX0_run_68, sX0_run_33, sX0_run_69, sX0_run_36, sX0_run_70, sX0_run_38, sX0_run_71, sX0_run_39, sX0_run_73, sX0_run_41, sX0_run_74, sX0_run_44, sX0_run_76 (st := []), sX0_run_79, sX0_run_80, sX0_run_82, sX0_run_83, sX0_run_85, sX0_run_86, sX0_run_87 (st := []), sX0_run_90 (st := []), inb, nz_3, nz_4, nz_6, nz_8, nz_10, nz_100, nz_300, pushr_s, pushr_n, rv_s, rv_n, kd_sI, kd_sR, kd_sJ, sz_sI, sz_sR, sz_sJ, aR_sI, aJ_sI, aI_sR, aI_sJ, not_false_eq_true, true_and, and_true, true_or, or_true, or_false, false_or, eq_self, ite_true, ite_false, if_true, if_false, show (1 : Nat) ≤ 2 by decide, show (2 : Nat) ≤ 2 by decide, b1, b2, e, e0, i1, xc, xb, bv, q1, kc, kb, kv, nI_1]
      · have ef : fnL a (c + 1) k = k := by
          show (if k = 0 then 0 else if boN.getD (3 * k + a) 0 = 0 then fnL a c (kaN.getD k 0) else k) = _
          rw [if_neg k0, if_neg q]
        have q1 : (nI (boN.getD (3 * k + a) 0) = 0) = False := eq_false (nI_ne0 (by omega) (by omega))
        rw [ef]
        refine ⟨nI i, fun Q => ?_⟩
        rw [sX0_run_6]
        simp only [sX0_run_0, sX0_run_1, sX0_run_3, sX0_run_4, sX0_run_8, sX0_run_11, sX0_run_12, sX0_run_15, sX0_run_17, sX0_run_49, sX0_run_20, sX0_run_52, sX0_run_59, sX0_run_23, sX0_run_54, sX0_run_60 (st := []), sX0_run_25, sX0_run_56, sX0_run_26, sX0_run_61, sX0_run_27, sX0_run_64, sX0_run_28, sX0_run_66, sX0_run_29, sX0_run_67, sX0_run_30, sX0_run_68, sX0_run_33, sX0_run_69, sX0_run_36, sX0_run_70, sX0_run_38, sX0_run_71, sX0_run_39, sX0_run_73, sX0_run_41, sX0_run_74, sX0_run_44, sX0_run_76 (st := []), sX0_run_79, sX0_run_80, sX0_run_82, sX0_run_83, sX0_run_85, sX0_run_86, sX0_run_87 (st := []), sX0_run_90 (st := []), inb, nz_3, nz_4, nz_6, nz_8, nz_10, nz_100, nz_300, pushr_s, pushr_n, rv_s, rv_n, kd_sI, kd_sR, kd_sJ, sz_sI, sz_sR, sz_sJ, aR_sI, aJ_sI, aI_sR, aI_sJ, not_false_eq_true, true_and, and_true, true_or, or_true, or_false, false_or, eq_self, ite_true, ite_false, if_true, if_false, show (1 : Nat) ≤ 2 by decide, show (2 : Nat) ≤ 2 by decide, b1, b2, e, e0, i1, xc, xb, bv, q1]
/-- a run of the actor -/
def RuW (S : SC) (H : AH) (e : Nat) (R : RuT) (dep n0 : Nat) : Prop := ∀ (k a : Nat) (x : Int32) (s : TrS) (p : Int32 × TrS), k < 7 → a < 3 → R k a x s = some p → s.1 ≤ n0 → ∀ Q, Wp S e 4 0 [.ref 52, .int (nI k), .int (nI a), .int x, .int (nI dep), hole, hole] [] (aS H s) Q = Q (some (.int p.1)) (aS H p.2)
theorem w_body {d kk dep n0 n1 : Nat} {H : AH} {R : RuT} (l : CoL H) (hkk : aI H 52 3 = nI kk) (k7 : kk < 7) (hR : RuW S H d R dep n1) (hn : n0 ≤ n1) (hm : ∀ k a x s p, R k a x s = some p → s.1 ≤ n0 → p.2.1 ≤ n1) : ∀ (b : Nat) (x : Int32) (s : TrS) (p : Int32 × TrS), bdO (aI H 52 2) (aI H 52 4) kk R b x s = some p → s.1 ≤ n0 → ∀ Q, Wp S (d + 1) 6 0 [.ref 52, .int (nI b), .int x, .int (nI dep)] [] (aS H s) Q = Q (some (.int p.1)) (aS H p.2) := by
  intro b x s p h hs Q
  have z0 : (0 : Int32) = nI 0 := rfl
  unfold bdO at h
  by_cases q : b = 10
  · rw [if_pos q] at h
    obtain rfl := Option.some.inj h
    subst q
    have e : nI 10 = 10 := rfl
    simp only [sX0_runBody_0, sX0_runBody_1, sX0_runBody_249, sX0_runBody_100, sX0_runBody_107, sX0_runBody_124, sX0_runBody_138, sX0_runBody_150, sX0_runBody_161, sX0_runBody_182, sX0_runBody_192, sX0_runBody_203, sX0_runBody_217, sX0_runBody_235, sX0_runBody_250 (st := []), sX0_runBody_101, sX0_runBody_108, sX0_runBody_125, sX0_runBody_139, sX0_runBody_151, sX0_runBody_162, sX0_runBody_183, sX0_runBody_193, sX0_runBody_204, sX0_runBody_218, sX0_runBody_236, sX0_runBody_102, sX0_runBody_109, sX0_runBody_126, sX0_runBody_140, sX0_runBody_152, sX0_runBody_163, sX0_runBody_184, sX0_runBody_194, sX0_runBody_205, sX0_runBody_219, sX0_runBody_237, sX0_runBody_105, sX0_runBody_112, sX0_runBody_129, sX0_runBody_141, sX0_runBody_153, sX0_runBody_164, sX0_runBody_185, sX0_runBody_195, sX0_runBody_206, sX0_runBody_220, sX0_runBody_238, sX0_runBody_106 (st := []), sX0_runBody_113, sX0_runBody_130, sX0_runBody_142, sX0_runBody_154, sX0_runBody_165, sX0_runBody_186, sX0_runBody_196, sX0_runBody_207, sX0_runBody_221, sX0_runBody_239, sX0_runBody_114, sX0_runBody_131, sX0_runBody_143 (st := []), sX0_runBody_155, sX0_runBody_166 (st := []), sX0_runBody_187 (st := []), sX0_runBody_197, sX0_runBody_208, sX0_runBody_222 (st := []), sX0_runBody_240 (st := []), sX0_runBody_115 (st := []), sX0_runBody_132 (st := []), sX0_runBody_146, sX0_runBody_156, sX0_runBody_169, sX0_runBody_190, sX0_runBody_198, sX0_runBody_211, sX0_runBody_225, sX0_runBody_243, sX0_runBody_118, sX0_runBody_135, sX0_runBody_148, sX0_runBody_157 (st := []), sX0_runBody_170, sX0_runBody_191 (st := []), sX0_runBody_199 (st := []), sX0_runBody_212, sX0_runBody_226, sX0_runBody_244, sX0_runBody_119, sX0_runBody_136, sX0_runBody_149 (st := []), sX0_runBody_160 (st := []), sX0_runBody_171, sX0_runBody_202 (st := []), sX0_runBody_213 (st := []), sX0_runBody_227, sX0_runBody_247, sX0_runBody_122, sX0_runBody_137 (st := []), sX0_runBody_174, sX0_runBody_216 (st := []), sX0_runBody_228, sX0_runBody_248 (st := []), sX0_runBody_123 (st := []), sX0_runBody_175, sX0_runBody_229, sX0_runBody_176, sX0_runBody_230 (st := []), sX0_runBody_177 (st := []), sX0_runBody_233, sX0_runBody_180, sX0_runBody_234 (st := []), sX0_runBody_181 (st := []), inb, nz_3, nz_4, nz_6, nz_8, nz_10, nz_100, nz_300, pushr_s, pushr_n, rv_s, rv_n, kd_sI, kd_sR, kd_sJ, sz_sI, sz_sR, sz_sJ, aR_sI, aJ_sI, aI_sR, aI_sJ, not_false_eq_true, true_and, and_true, true_or, or_true, or_false, false_or, eq_self, ite_true, ite_false, if_true, if_false, e, kd_aS, l.k52, aS_2]
  rw [if_neg q] at h
  by_cases q : b = 11
  · rw [if_pos q] at h
    obtain ⟨r, hr, rfl⟩ := th1_s h
    have c1 : ∀ Q, Wp S d 4 0 [.ref 52, .int (nI kk), .int 0, .int x, .int (nI dep), hole, hole] [] (aS H s) Q = Q (some (.int r.1)) (aS H r.2) := hR kk 0 x s r k7 (by decide) hr (by omega)
    subst q
    have e : nI 11 = 11 := rfl
    have g10 : ((11 : Int32) = 10) = False := eq_false (by decide +kernel)
    simp only [sX0_runBody_0, sX0_runBody_1, sX0_runBody_249, sX0_runBody_100, sX0_runBody_107, sX0_runBody_124, sX0_runBody_138, sX0_runBody_150, sX0_runBody_161, sX0_runBody_182, sX0_runBody_192, sX0_runBody_203, sX0_runBody_217, sX0_runBody_235, sX0_runBody_250 (st := []), sX0_runBody_101, sX0_runBody_108, sX0_runBody_125, sX0_runBody_139, sX0_runBody_151, sX0_runBody_162, sX0_runBody_183, sX0_runBody_193, sX0_runBody_204, sX0_runBody_218, sX0_runBody_236, sX0_runBody_102, sX0_runBody_109, sX0_runBody_126, sX0_runBody_140, sX0_runBody_152, sX0_runBody_163, sX0_runBody_184, sX0_runBody_194, sX0_runBody_205, sX0_runBody_219, sX0_runBody_237, sX0_runBody_105, sX0_runBody_112, sX0_runBody_129, sX0_runBody_141, sX0_runBody_153, sX0_runBody_164, sX0_runBody_185, sX0_runBody_195, sX0_runBody_206, sX0_runBody_220, sX0_runBody_238, sX0_runBody_106 (st := []), sX0_runBody_113, sX0_runBody_130, sX0_runBody_142, sX0_runBody_154, sX0_runBody_165, sX0_runBody_186, sX0_runBody_196, sX0_runBody_207, sX0_runBody_221, sX0_runBody_239, sX0_runBody_114, sX0_runBody_131, sX0_runBody_143 (st := []), sX0_runBody_155, sX0_runBody_166 (st := []), sX0_runBody_187 (st := []), sX0_runBody_197, sX0_runBody_208, sX0_runBody_222 (st := []), sX0_runBody_240 (st := []), sX0_runBody_115 (st := []), sX0_runBody_132 (st := []), sX0_runBody_146, sX0_runBody_156, sX0_runBody_169, sX0_runBody_190, sX0_runBody_198, sX0_runBody_211, sX0_runBody_225, sX0_runBody_243, sX0_runBody_118, sX0_runBody_135, sX0_runBody_148, sX0_runBody_157 (st := []), sX0_runBody_170, sX0_runBody_191 (st := []), sX0_runBody_199 (st := []), sX0_runBody_212, sX0_runBody_226, sX0_runBody_244, sX0_runBody_119, sX0_runBody_136, sX0_runBody_149 (st := []), sX0_runBody_160 (st := []), sX0_runBody_171, sX0_runBody_202 (st := []), sX0_runBody_213 (st := []), sX0_runBody_227, sX0_runBody_247, sX0_runBody_122, sX0_runBody_137 (st := []), sX0_runBody_174, sX0_runBody_216 (st := []), sX0_runBody_228, sX0_runBody_248 (st := []), sX0_runBody_123 (st := []), sX0_runBody_175, sX0_runBody_229, sX0_runBody_176, sX0_runBody_230 (st := []), sX0_runBody_177 (st := []), sX0_runBody_233, sX0_runBody_180, sX0_runBody_234 (st := []), sX0_runBody_181 (st := []), inb, nz_3, nz_4, nz_6, nz_8, nz_10, nz_100, nz_300, pushr_s, pushr_n, rv_s, rv_n, kd_sI, kd_sR, kd_sJ, sz_sI, sz_sR, sz_sJ, aR_sI, aJ_sI, aI_sR, aI_sJ, not_false_eq_true, true_and, and_true, true_or, or_true, or_false, false_or, eq_self, ite_true, ite_false, if_true, if_false, e, g10, kd_aS, l.k52, aS_2, aS_3, aS_4, hkk, c1]
  rw [if_neg q] at h
  by_cases q : b = 12
  · rw [if_pos q] at h
    obtain ⟨r, hr, rfl⟩ := th1_s h
    have c1 : ∀ Q, Wp S d 4 0 [.ref 52, .int (nI kk), .int 1, .int x, .int (nI dep), hole, hole] [] (aS H s) Q = Q (some (.int r.1)) (aS H r.2) := hR kk 1 x s r k7 (by decide) hr (by omega)
    subst q
    have e : nI 12 = 12 := rfl
    have g10 : ((12 : Int32) = 10) = False := eq_false (by decide +kernel)
    have g11 : ((12 : Int32) = 11) = False := eq_false (by decide +kernel)
    simp only [sX0_runBody_0, sX0_runBody_1, sX0_runBody_249, sX0_runBody_100, sX0_runBody_107, sX0_runBody_124, sX0_runBody_138, sX0_runBody_150, sX0_runBody_161, sX0_runBody_182, sX0_runBody_192, sX0_runBody_203, sX0_runBody_217, sX0_runBody_235, sX0_runBody_250 (st := []), sX0_runBody_101, sX0_runBody_108, sX0_runBody_125, sX0_runBody_139, sX0_runBody_151, sX0_runBody_162, sX0_runBody_183, sX0_runBody_193, sX0_runBody_204, sX0_runBody_218, sX0_runBody_236, sX0_runBody_102, sX0_runBody_109, sX0_runBody_126, sX0_runBody_140, sX0_runBody_152, sX0_runBody_163, sX0_runBody_184, sX0_runBody_194, sX0_runBody_205, sX0_runBody_219, sX0_runBody_237, sX0_runBody_105, sX0_runBody_112, sX0_runBody_129, sX0_runBody_141, sX0_runBody_153, sX0_runBody_164, sX0_runBody_185, sX0_runBody_195, sX0_runBody_206, sX0_runBody_220, sX0_runBody_238, sX0_runBody_106 (st := []), sX0_runBody_113, sX0_runBody_130, sX0_runBody_142, sX0_runBody_154, sX0_runBody_165, sX0_runBody_186, sX0_runBody_196, sX0_runBody_207, sX0_runBody_221, sX0_runBody_239, sX0_runBody_114, sX0_runBody_131, sX0_runBody_143 (st := []), sX0_runBody_155, sX0_runBody_166 (st := []), sX0_runBody_187 (st := []), sX0_runBody_197, sX0_runBody_208, sX0_runBody_222 (st := []), sX0_runBody_240 (st := []), sX0_runBody_115 (st := []), sX0_runBody_132 (st := []), sX0_runBody_146, sX0_runBody_156, sX0_runBody_169, sX0_runBody_190, sX0_runBody_198, sX0_runBody_211, sX0_runBody_225, sX0_runBody_243, sX0_runBody_118, sX0_runBody_135, sX0_runBody_148, sX0_runBody_157 (st := []), sX0_runBody_170, sX0_runBody_191 (st := []), sX0_runBody_199 (st := []), sX0_runBody_212, sX0_runBody_226, sX0_runBody_244, sX0_runBody_119, sX0_runBody_136, sX0_runBody_149 (st := []), sX0_runBody_160 (st := []), sX0_runBody_171, sX0_runBody_202 (st := []), sX0_runBody_213 (st := []), sX0_runBody_227, sX0_runBody_247, sX0_runBody_122, sX0_runBody_137 (st := []), sX0_runBody_174, sX0_runBody_216 (st := []), sX0_runBody_228, sX0_runBody_248 (st := []), sX0_runBody_123 (st := []), sX0_runBody_175, sX0_runBody_229, sX0_runBody_176, sX0_runBody_230 (st := []), sX0_runBody_177 (st := []), sX0_runBody_233, sX0_runBody_180, sX0_runBody_234 (st := []), sX0_runBody_181 (st := []), inb, nz_3, nz_4, nz_6, nz_8, nz_10, nz_100, nz_300, pushr_s, pushr_n, rv_s, rv_n, kd_sI, kd_sR, kd_sJ, sz_sI, sz_sR, sz_sJ, aR_sI, aJ_sI, aI_sR, aI_sJ, not_false_eq_true, true_and, and_true, true_or, or_true, or_false, false_or, eq_self, ite_true, ite_false, if_true, if_false, e, g10, g11, kd_aS, l.k52, aS_2, aS_3, aS_4, hkk, c1]
  rw [if_neg q] at h
  by_cases q : b = 20
  · rw [if_pos q] at h
    obtain ⟨r, hr, rfl⟩ := th1_s h
    have c1 : ∀ Q, Wp S d 4 0 [.ref 52, .int 0, .int 1, .int x, .int (nI dep), hole, hole] [] (aS H s) Q = Q (some (.int r.1)) (aS H r.2) := hR 0 1 x s r (by decide) (by decide) hr (by omega)
    subst q
    have e : nI 20 = 20 := rfl
    have g10 : ((20 : Int32) = 10) = False := eq_false (by decide +kernel)
    have g11 : ((20 : Int32) = 11) = False := eq_false (by decide +kernel)
    have g12 : ((20 : Int32) = 12) = False := eq_false (by decide +kernel)
    simp only [sX0_runBody_0, sX0_runBody_1, sX0_runBody_249, sX0_runBody_100, sX0_runBody_107, sX0_runBody_124, sX0_runBody_138, sX0_runBody_150, sX0_runBody_161, sX0_runBody_182, sX0_runBody_192, sX0_runBody_203, sX0_runBody_217, sX0_runBody_235, sX0_runBody_250 (st := []), sX0_runBody_101, sX0_runBody_108, sX0_runBody_125, sX0_runBody_139, sX0_runBody_151, sX0_runBody_162, sX0_runBody_183, sX0_runBody_193, sX0_runBody_204, sX0_runBody_218, sX0_runBody_236, sX0_runBody_102, sX0_runBody_109, sX0_runBody_126, sX0_runBody_140, sX0_runBody_152, sX0_runBody_163, sX0_runBody_184, sX0_runBody_194, sX0_runBody_205, sX0_runBody_219, sX0_runBody_237, sX0_runBody_105, sX0_runBody_112, sX0_runBody_129, sX0_runBody_141, sX0_runBody_153, sX0_runBody_164, sX0_runBody_185, sX0_runBody_195, sX0_runBody_206, sX0_runBody_220, sX0_runBody_238, sX0_runBody_106 (st := []), sX0_runBody_113, sX0_runBody_130, sX0_runBody_142, sX0_runBody_154, sX0_runBody_165, sX0_runBody_186, sX0_runBody_196, sX0_runBody_207, sX0_runBody_221, sX0_runBody_239, sX0_runBody_114, sX0_runBody_131, sX0_runBody_143 (st := []), sX0_runBody_155, sX0_runBody_166 (st := []), sX0_runBody_187 (st := []), sX0_runBody_197, sX0_runBody_208, sX0_runBody_222 (st := []), sX0_runBody_240 (st := []), sX0_runBody_115 (st := []), sX0_runBody_132 (st := []), sX0_runBody_146, sX0_runBody_156, sX0_runBody_169, sX0_runBody_190, sX0_runBody_198, sX0_runBody_211, sX0_runBody_225, sX0_runBody_243, sX0_runBody_118, sX0_runBody_135, sX0_runBody_148, sX0_runBody_157 (st := []), sX0_runBody_170, sX0_runBody_191 (st := []), sX0_runBody_199 (st := []), sX0_runBody_212, sX0_runBody_226, sX0_runBody_244, sX0_runBody_119, sX0_runBody_136, sX0_runBody_149 (st := []), sX0_runBody_160 (st := []), sX0_runBody_171, sX0_runBody_202 (st := []), sX0_runBody_213 (st := []), sX0_runBody_227, sX0_runBody_247, sX0_runBody_122, sX0_runBody_137 (st := []), sX0_runBody_174, sX0_runBody_216 (st := []), sX0_runBody_228, sX0_runBody_248 (st := []), sX0_runBody_123 (st := []), sX0_runBody_175, sX0_runBody_229, sX0_runBody_176, sX0_runBody_230 (st := []), sX0_runBody_177 (st := []), sX0_runBody_233, sX0_runBody_180, sX0_runBody_234 (st := []), sX0_runBody_181 (st := []), inb, nz_3, nz_4, nz_6, nz_8, nz_10, nz_100, nz_300, pushr_s, pushr_n, rv_s, rv_n, kd_sI, kd_sR, kd_sJ, sz_sI, sz_sR, sz_sJ, aR_sI, aJ_sI, aI_sR, aI_sJ, not_false_eq_true, true_and, and_true, true_or, or_true, or_false, false_or, eq_self, ite_true, ite_false, if_true, if_false, e, g10, g11, g12, kd_aS, l.k52, aS_2, aS_3, aS_4, hkk, c1]
  rw [if_neg q] at h
  by_cases q : b = 30
  · rw [if_pos q] at h
    have hr := h
    have c1 : ∀ Q, Wp S d 4 0 [.ref 52, .int 0, .int 0, .int (x * 3), .int (nI dep), hole, hole] [] (aS H s) Q = Q (some (.int p.1)) (aS H p.2) := hR 0 0 (x * 3) s p (by decide) (by decide) hr (by omega)
    subst q
    have e : nI 30 = 30 := rfl
    have g10 : ((30 : Int32) = 10) = False := eq_false (by decide +kernel)
    have g11 : ((30 : Int32) = 11) = False := eq_false (by decide +kernel)
    have g12 : ((30 : Int32) = 12) = False := eq_false (by decide +kernel)
    have g20 : ((30 : Int32) = 20) = False := eq_false (by decide +kernel)
    simp only [sX0_runBody_0, sX0_runBody_1, sX0_runBody_249, sX0_runBody_100, sX0_runBody_107, sX0_runBody_124, sX0_runBody_138, sX0_runBody_150, sX0_runBody_161, sX0_runBody_182, sX0_runBody_192, sX0_runBody_203, sX0_runBody_217, sX0_runBody_235, sX0_runBody_250 (st := []), sX0_runBody_101, sX0_runBody_108, sX0_runBody_125, sX0_runBody_139, sX0_runBody_151, sX0_runBody_162, sX0_runBody_183, sX0_runBody_193, sX0_runBody_204, sX0_runBody_218, sX0_runBody_236, sX0_runBody_102, sX0_runBody_109, sX0_runBody_126, sX0_runBody_140, sX0_runBody_152, sX0_runBody_163, sX0_runBody_184, sX0_runBody_194, sX0_runBody_205, sX0_runBody_219, sX0_runBody_237, sX0_runBody_105, sX0_runBody_112, sX0_runBody_129, sX0_runBody_141, sX0_runBody_153, sX0_runBody_164, sX0_runBody_185, sX0_runBody_195, sX0_runBody_206, sX0_runBody_220, sX0_runBody_238, sX0_runBody_106 (st := []), sX0_runBody_113, sX0_runBody_130, sX0_runBody_142, sX0_runBody_154, sX0_runBody_165, sX0_runBody_186, sX0_runBody_196, sX0_runBody_207, sX0_runBody_221, sX0_runBody_239, sX0_runBody_114, sX0_runBody_131, sX0_runBody_143 (st := []), sX0_runBody_155, sX0_runBody_166 (st := []), sX0_runBody_187 (st := []), sX0_runBody_197, sX0_runBody_208, sX0_runBody_222 (st := []), sX0_runBody_240 (st := []), sX0_runBody_115 (st := []), sX0_runBody_132 (st := []), sX0_runBody_146, sX0_runBody_156, sX0_runBody_169, sX0_runBody_190, sX0_runBody_198, sX0_runBody_211, sX0_runBody_225, sX0_runBody_243, sX0_runBody_118, sX0_runBody_135, sX0_runBody_148, sX0_runBody_157 (st := []), sX0_runBody_170, sX0_runBody_191 (st := []), sX0_runBody_199 (st := []), sX0_runBody_212, sX0_runBody_226, sX0_runBody_244, sX0_runBody_119, sX0_runBody_136, sX0_runBody_149 (st := []), sX0_runBody_160 (st := []), sX0_runBody_171, sX0_runBody_202 (st := []), sX0_runBody_213 (st := []), sX0_runBody_227, sX0_runBody_247, sX0_runBody_122, sX0_runBody_137 (st := []), sX0_runBody_174, sX0_runBody_216 (st := []), sX0_runBody_228, sX0_runBody_248 (st := []), sX0_runBody_123 (st := []), sX0_runBody_175, sX0_runBody_229, sX0_runBody_176, sX0_runBody_230 (st := []), sX0_runBody_177 (st := []), sX0_runBody_233, sX0_runBody_180, sX0_runBody_234 (st := []), sX0_runBody_181 (st := []), inb, nz_3, nz_4, nz_6, nz_8, nz_10, nz_100, nz_300, pushr_s, pushr_n, rv_s, rv_n, kd_sI, kd_sR, kd_sJ, sz_sI, sz_sR, sz_sJ, aR_sI, aJ_sI, aI_sR, aI_sJ, not_false_eq_true, true_and, and_true, true_or, or_true, or_false, false_or, eq_self, ite_true, ite_false, if_true, if_false, e, g10, g11, g12, g20, kd_aS, l.k52, aS_2, aS_3, aS_4, hkk, c1]
  rw [if_neg q] at h
  by_cases q : b = 40
  · rw [if_pos q] at h
    obtain ⟨r, t, hr, ht, rfl⟩ := th2_s h
    have rb := hm _ _ _ _ _ hr hs
    have c1 : ∀ Q, Wp S d 4 0 [.ref 52, .int 0, .int 2, .int x, .int (nI dep), hole, hole] [] (aS H s) Q = Q (some (.int r.1)) (aS H r.2) := hR 0 2 x s r (by decide) (by decide) hr (by omega)
    have c2 : ∀ Q, Wp S d 4 0 [.ref 52, .int (nI kk), .int 1, .int 1, .int (nI dep), hole, hole] [] (aS H r.2) Q = Q (some (.int t.1)) (aS H t.2) := hR kk 1 1 r.2 t k7 (by decide) ht (by omega)
    subst q
    have e : nI 40 = 40 := rfl
    have g10 : ((40 : Int32) = 10) = False := eq_false (by decide +kernel)
    have g11 : ((40 : Int32) = 11) = False := eq_false (by decide +kernel)
    have g12 : ((40 : Int32) = 12) = False := eq_false (by decide +kernel)
    have g20 : ((40 : Int32) = 20) = False := eq_false (by decide +kernel)
    have g30 : ((40 : Int32) = 30) = False := eq_false (by decide +kernel)
    simp only [sX0_runBody_0, sX0_runBody_1, sX0_runBody_249, sX0_runBody_100, sX0_runBody_107, sX0_runBody_124, sX0_runBody_138, sX0_runBody_150, sX0_runBody_161, sX0_runBody_182, sX0_runBody_192, sX0_runBody_203, sX0_runBody_217, sX0_runBody_235, sX0_runBody_250 (st := []), sX0_runBody_101, sX0_runBody_108, sX0_runBody_125, sX0_runBody_139, sX0_runBody_151, sX0_runBody_162, sX0_runBody_183, sX0_runBody_193, sX0_runBody_204, sX0_runBody_218, sX0_runBody_236, sX0_runBody_102, sX0_runBody_109, sX0_runBody_126, sX0_runBody_140, sX0_runBody_152, sX0_runBody_163, sX0_runBody_184, sX0_runBody_194, sX0_runBody_205, sX0_runBody_219, sX0_runBody_237, sX0_runBody_105, sX0_runBody_112, sX0_runBody_129, sX0_runBody_141, sX0_runBody_153, sX0_runBody_164, sX0_runBody_185, sX0_runBody_195, sX0_runBody_206, sX0_runBody_220, sX0_runBody_238, sX0_runBody_106 (st := []), sX0_runBody_113, sX0_runBody_130, sX0_runBody_142, sX0_runBody_154, sX0_runBody_165, sX0_runBody_186, sX0_runBody_196, sX0_runBody_207, sX0_runBody_221, sX0_runBody_239, sX0_runBody_114, sX0_runBody_131, sX0_runBody_143 (st := []), sX0_runBody_155, sX0_runBody_166 (st := []), sX0_runBody_187 (st := []), sX0_runBody_197, sX0_runBody_208, sX0_runBody_222 (st := []), sX0_runBody_240 (st := []), sX0_runBody_115 (st := []), sX0_runBody_132 (st := []), sX0_runBody_146, sX0_runBody_156, sX0_runBody_169, sX0_runBody_190, sX0_runBody_198, sX0_runBody_211, sX0_runBody_225, sX0_runBody_243, sX0_runBody_118, sX0_runBody_135, sX0_runBody_148, sX0_runBody_157 (st := []), sX0_runBody_170, sX0_runBody_191 (st := []), sX0_runBody_199 (st := []), sX0_runBody_212, sX0_runBody_226, sX0_runBody_244, sX0_runBody_119, sX0_runBody_136, sX0_runBody_149 (st := []), sX0_runBody_160 (st := []), sX0_runBody_171, sX0_runBody_202 (st := []), sX0_runBody_213 (st := []), sX0_runBody_227, sX0_runBody_247, sX0_runBody_122, sX0_runBody_137 (st := []), sX0_runBody_174, sX0_runBody_216 (st := []), sX0_runBody_228, sX0_runBody_248 (st := []), sX0_runBody_123 (st := []), sX0_runBody_175, sX0_runBody_229, sX0_runBody_176, sX0_runBody_230 (st := []), sX0_runBody_177 (st := []), sX0_runBody_233, sX0_runBody_180, sX0_runBody_234 (st := []), sX0_runBody_181 (st := []), inb, nz_3, nz_4, nz_6, nz_8, nz_10, nz_100, nz_300, pushr_s, pushr_n, rv_s, rv_n, kd_sI, kd_sR, kd_sJ, sz_sI, sz_sR, sz_sJ, aR_sI, aJ_sI, aI_sR, aI_sJ, not_false_eq_true, true_and, and_true, true_or, or_true, or_false, false_or, eq_self, ite_true, ite_false, if_true, if_false, e, g10, g11, g12, g20, g30, kd_aS, l.k52, aS_2, aS_3, aS_4, hkk, c1, c2]
  rw [if_neg q] at h
  by_cases q : b = 50
  · rw [if_pos q] at h
    obtain ⟨r, hr, rfl⟩ := th1_s h
    have c1 : ∀ Q, Wp S d 4 0 [.ref 52, .int 1, .int 0, .int x, .int (nI dep), hole, hole] [] (aS H s) Q = Q (some (.int r.1)) (aS H r.2) := hR 1 0 x s r (by decide) (by decide) hr (by omega)
    subst q
    have e : nI 50 = 50 := rfl
    have g10 : ((50 : Int32) = 10) = False := eq_false (by decide +kernel)
    have g11 : ((50 : Int32) = 11) = False := eq_false (by decide +kernel)
    have g12 : ((50 : Int32) = 12) = False := eq_false (by decide +kernel)
    have g20 : ((50 : Int32) = 20) = False := eq_false (by decide +kernel)
    have g30 : ((50 : Int32) = 30) = False := eq_false (by decide +kernel)
    have g40 : ((50 : Int32) = 40) = False := eq_false (by decide +kernel)
    simp only [sX0_runBody_0, sX0_runBody_1, sX0_runBody_249, sX0_runBody_100, sX0_runBody_107, sX0_runBody_124, sX0_runBody_138, sX0_runBody_150, sX0_runBody_161, sX0_runBody_182, sX0_runBody_192, sX0_runBody_203, sX0_runBody_217, sX0_runBody_235, sX0_runBody_250 (st := []), sX0_runBody_101, sX0_runBody_108, sX0_runBody_125, sX0_runBody_139, sX0_runBody_151, sX0_runBody_162, sX0_runBody_183, sX0_runBody_193, sX0_runBody_204, sX0_runBody_218, sX0_runBody_236, sX0_runBody_102, sX0_runBody_109, sX0_runBody_126, sX0_runBody_140, sX0_runBody_152, sX0_runBody_163, sX0_runBody_184, sX0_runBody_194, sX0_runBody_205, sX0_runBody_219, sX0_runBody_237, sX0_runBody_105, sX0_runBody_112, sX0_runBody_129, sX0_runBody_141, sX0_runBody_153, sX0_runBody_164, sX0_runBody_185, sX0_runBody_195, sX0_runBody_206, sX0_runBody_220, sX0_runBody_238, sX0_runBody_106 (st := []), sX0_runBody_113, sX0_runBody_130, sX0_runBody_142, sX0_runBody_154, sX0_runBody_165, sX0_runBody_186, sX0_runBody_196, sX0_runBody_207, sX0_runBody_221, sX0_runBody_239, sX0_runBody_114, sX0_runBody_131, sX0_runBody_143 (st := []), sX0_runBody_155, sX0_runBody_166 (st := []), sX0_runBody_187 (st := []), sX0_runBody_197, sX0_runBody_208, sX0_runBody_222 (st := []), sX0_runBody_240 (st := []), sX0_runBody_115 (st := []), sX0_runBody_132 (st := []), sX0_runBody_146, sX0_runBody_156, sX0_runBody_169, sX0_runBody_190, sX0_runBody_198, sX0_runBody_211, sX0_runBody_225, sX0_runBody_243, sX0_runBody_118, sX0_runBody_135, sX0_runBody_148, sX0_runBody_157 (st := []), sX0_runBody_170, sX0_runBody_191 (st := []), sX0_runBody_199 (st := []), sX0_runBody_212, sX0_runBody_226, sX0_runBody_244, sX0_runBody_119, sX0_runBody_136, sX0_runBody_149 (st := []), sX0_runBody_160 (st := []), sX0_runBody_171, sX0_runBody_202 (st := []), sX0_runBody_213 (st := []), sX0_runBody_227, sX0_runBody_247, sX0_runBody_122, sX0_runBody_137 (st := []), sX0_runBody_174, sX0_runBody_216 (st := []), sX0_runBody_228, sX0_runBody_248 (st := []), sX0_runBody_123 (st := []), sX0_runBody_175, sX0_runBody_229, sX0_runBody_176, sX0_runBody_230 (st := []), sX0_runBody_177 (st := []), sX0_runBody_233, sX0_runBody_180, sX0_runBody_234 (st := []), sX0_runBody_181 (st := []), inb, nz_3, nz_4, nz_6, nz_8, nz_10, nz_100, nz_300, pushr_s, pushr_n, rv_s, rv_n, kd_sI, kd_sR, kd_sJ, sz_sI, sz_sR, sz_sJ, aR_sI, aJ_sI, aI_sR, aI_sJ, not_false_eq_true, true_and, and_true, true_or, or_true, or_false, false_or, eq_self, ite_true, ite_false, if_true, if_false, e, g10, g11, g12, g20, g30, g40, kd_aS, l.k52, aS_2, aS_3, aS_4, hkk, c1]
  rw [if_neg q] at h
  by_cases q : b = 51
  · rw [if_pos q] at h
    have hr := h
    have c1 : ∀ Q, Wp S d 4 0 [.ref 52, .int 1, .int 1, .int (x + 1), .int (nI dep), hole, hole] [] (aS H s) Q = Q (some (.int p.1)) (aS H p.2) := hR 1 1 (x + 1) s p (by decide) (by decide) hr (by omega)
    subst q
    have e : nI 51 = 51 := rfl
    have g10 : ((51 : Int32) = 10) = False := eq_false (by decide +kernel)
    have g11 : ((51 : Int32) = 11) = False := eq_false (by decide +kernel)
    have g12 : ((51 : Int32) = 12) = False := eq_false (by decide +kernel)
    have g20 : ((51 : Int32) = 20) = False := eq_false (by decide +kernel)
    have g30 : ((51 : Int32) = 30) = False := eq_false (by decide +kernel)
    have g40 : ((51 : Int32) = 40) = False := eq_false (by decide +kernel)
    have g50 : ((51 : Int32) = 50) = False := eq_false (by decide +kernel)
    simp only [sX0_runBody_0, sX0_runBody_1, sX0_runBody_249, sX0_runBody_100, sX0_runBody_107, sX0_runBody_124, sX0_runBody_138, sX0_runBody_150, sX0_runBody_161, sX0_runBody_182, sX0_runBody_192, sX0_runBody_203, sX0_runBody_217, sX0_runBody_235, sX0_runBody_250 (st := []), sX0_runBody_101, sX0_runBody_108, sX0_runBody_125, sX0_runBody_139, sX0_runBody_151, sX0_runBody_162, sX0_runBody_183, sX0_runBody_193, sX0_runBody_204, sX0_runBody_218, sX0_runBody_236, sX0_runBody_102, sX0_runBody_109, sX0_runBody_126, sX0_runBody_140, sX0_runBody_152, sX0_runBody_163, sX0_runBody_184, sX0_runBody_194, sX0_runBody_205, sX0_runBody_219, sX0_runBody_237, sX0_runBody_105, sX0_runBody_112, sX0_runBody_129, sX0_runBody_141, sX0_runBody_153, sX0_runBody_164, sX0_runBody_185, sX0_runBody_195, sX0_runBody_206, sX0_runBody_220, sX0_runBody_238, sX0_runBody_106 (st := []), sX0_runBody_113, sX0_runBody_130, sX0_runBody_142, sX0_runBody_154, sX0_runBody_165, sX0_runBody_186, sX0_runBody_196, sX0_runBody_207, sX0_runBody_221, sX0_runBody_239, sX0_runBody_114, sX0_runBody_131, sX0_runBody_143 (st := []), sX0_runBody_155, sX0_runBody_166 (st := []), sX0_runBody_187 (st := []), sX0_runBody_197, sX0_runBody_208, sX0_runBody_222 (st := []), sX0_runBody_240 (st := []), sX0_runBody_115 (st := []), sX0_runBody_132 (st := []), sX0_runBody_146, sX0_runBody_156, sX0_runBody_169, sX0_runBody_190, sX0_runBody_198, sX0_runBody_211, sX0_runBody_225, sX0_runBody_243, sX0_runBody_118, sX0_runBody_135, sX0_runBody_148, sX0_runBody_157 (st := []), sX0_runBody_170, sX0_runBody_191 (st := []), sX0_runBody_199 (st := []), sX0_runBody_212, sX0_runBody_226, sX0_runBody_244, sX0_runBody_119, sX0_runBody_136, sX0_runBody_149 (st := []), sX0_runBody_160 (st := []), sX0_runBody_171, sX0_runBody_202 (st := []), sX0_runBody_213 (st := []), sX0_runBody_227, sX0_runBody_247, sX0_runBody_122, sX0_runBody_137 (st := []), sX0_runBody_174, sX0_runBody_216 (st := []), sX0_runBody_228, sX0_runBody_248 (st := []), sX0_runBody_123 (st := []), sX0_runBody_175, sX0_runBody_229, sX0_runBody_176, sX0_runBody_230 (st := []), sX0_runBody_177 (st := []), sX0_runBody_233, sX0_runBody_180, sX0_runBody_234 (st := []), sX0_runBody_181 (st := []), inb, nz_3, nz_4, nz_6, nz_8, nz_10, nz_100, nz_300, pushr_s, pushr_n, rv_s, rv_n, kd_sI, kd_sR, kd_sJ, sz_sI, sz_sR, sz_sJ, aR_sI, aJ_sI, aI_sR, aI_sJ, not_false_eq_true, true_and, and_true, true_or, or_true, or_false, false_or, eq_self, ite_true, ite_false, if_true, if_false, e, g10, g11, g12, g20, g30, g40, g50, kd_aS, l.k52, aS_2, aS_3, aS_4, hkk, c1]
  rw [if_neg q] at h
  by_cases q : b = 60
  · rw [if_pos q] at h
    have hr := h
    have c1 : ∀ Q, Wp S d 4 0 [.ref 52, .int 2, .int 2, .int (x - aI H 52 2), .int (nI dep), hole, hole] [] (aS H s) Q = Q (some (.int p.1)) (aS H p.2) := hR 2 2 (x - aI H 52 2) s p (by decide) (by decide) hr (by omega)
    subst q
    have e : nI 60 = 60 := rfl
    have g10 : ((60 : Int32) = 10) = False := eq_false (by decide +kernel)
    have g11 : ((60 : Int32) = 11) = False := eq_false (by decide +kernel)
    have g12 : ((60 : Int32) = 12) = False := eq_false (by decide +kernel)
    have g20 : ((60 : Int32) = 20) = False := eq_false (by decide +kernel)
    have g30 : ((60 : Int32) = 30) = False := eq_false (by decide +kernel)
    have g40 : ((60 : Int32) = 40) = False := eq_false (by decide +kernel)
    have g50 : ((60 : Int32) = 50) = False := eq_false (by decide +kernel)
    have g51 : ((60 : Int32) = 51) = False := eq_false (by decide +kernel)
    simp only [sX0_runBody_0, sX0_runBody_1, sX0_runBody_249, sX0_runBody_100, sX0_runBody_107, sX0_runBody_124, sX0_runBody_138, sX0_runBody_150, sX0_runBody_161, sX0_runBody_182, sX0_runBody_192, sX0_runBody_203, sX0_runBody_217, sX0_runBody_235, sX0_runBody_250 (st := []), sX0_runBody_101, sX0_runBody_108, sX0_runBody_125, sX0_runBody_139, sX0_runBody_151, sX0_runBody_162, sX0_runBody_183, sX0_runBody_193, sX0_runBody_204, sX0_runBody_218, sX0_runBody_236, sX0_runBody_102, sX0_runBody_109, sX0_runBody_126, sX0_runBody_140, sX0_runBody_152, sX0_runBody_163, sX0_runBody_184, sX0_runBody_194, sX0_runBody_205, sX0_runBody_219, sX0_runBody_237, sX0_runBody_105, sX0_runBody_112, sX0_runBody_129, sX0_runBody_141, sX0_runBody_153, sX0_runBody_164, sX0_runBody_185, sX0_runBody_195, sX0_runBody_206, sX0_runBody_220, sX0_runBody_238, sX0_runBody_106 (st := []), sX0_runBody_113, sX0_runBody_130, sX0_runBody_142, sX0_runBody_154, sX0_runBody_165, sX0_runBody_186, sX0_runBody_196, sX0_runBody_207, sX0_runBody_221, sX0_runBody_239, sX0_runBody_114, sX0_runBody_131, sX0_runBody_143 (st := []), sX0_runBody_155, sX0_runBody_166 (st := []), sX0_runBody_187 (st := []), sX0_runBody_197, sX0_runBody_208, sX0_runBody_222 (st := []), sX0_runBody_240 (st := []), sX0_runBody_115 (st := []), sX0_runBody_132 (st := []), sX0_runBody_146, sX0_runBody_156, sX0_runBody_169, sX0_runBody_190, sX0_runBody_198, sX0_runBody_211, sX0_runBody_225, sX0_runBody_243, sX0_runBody_118, sX0_runBody_135, sX0_runBody_148, sX0_runBody_157 (st := []), sX0_runBody_170, sX0_runBody_191 (st := []), sX0_runBody_199 (st := []), sX0_runBody_212, sX0_runBody_226, sX0_runBody_244, sX0_runBody_119, sX0_runBody_136, sX0_runBody_149 (st := []), sX0_runBody_160 (st := []), sX0_runBody_171, sX0_runBody_202 (st := []), sX0_runBody_213 (st := []), sX0_runBody_227, sX0_runBody_247, sX0_runBody_122, sX0_runBody_137 (st := []), sX0_runBody_174, sX0_runBody_216 (st := []), sX0_runBody_228, sX0_runBody_248 (st := []), sX0_runBody_123 (st := []), sX0_runBody_175, sX0_runBody_229, sX0_runBody_176, sX0_runBody_230 (st := []), sX0_runBody_177 (st := []), sX0_runBody_233, sX0_runBody_180, sX0_runBody_234 (st := []), sX0_runBody_181 (st := []), inb, nz_3, nz_4, nz_6, nz_8, nz_10, nz_100, nz_300, pushr_s, pushr_n, rv_s, rv_n, kd_sI, kd_sR, kd_sJ, sz_sI, sz_sR, sz_sJ, aR_sI, aJ_sI, aI_sR, aI_sJ, not_false_eq_true, true_and, and_true, true_or, or_true, or_false, false_or, eq_self, ite_true, ite_false, if_true, if_false, e, g10, g11, g12, g20, g30, g40, g50, g51, kd_aS, l.k52, aS_2, aS_3, aS_4, hkk, c1]
  rw [if_neg q] at h
  by_cases q : b = 70
  · rw [if_pos q] at h
    obtain ⟨r, t, hr, ht, rfl⟩ := th2_s h
    have rb := hm _ _ _ _ _ hr hs
    have c1 : ∀ Q, Wp S d 4 0 [.ref 52, .int 3, .int 1, .int x, .int (nI dep), hole, hole] [] (aS H s) Q = Q (some (.int r.1)) (aS H r.2) := hR 3 1 x s r (by decide) (by decide) hr (by omega)
    have c2 : ∀ Q, Wp S d 4 0 [.ref 52, .int 3, .int 0, .int 2, .int (nI dep), hole, hole] [] (aS H r.2) Q = Q (some (.int t.1)) (aS H t.2) := hR 3 0 2 r.2 t (by decide) (by decide) ht (by omega)
    subst q
    have e : nI 70 = 70 := rfl
    have g10 : ((70 : Int32) = 10) = False := eq_false (by decide +kernel)
    have g11 : ((70 : Int32) = 11) = False := eq_false (by decide +kernel)
    have g12 : ((70 : Int32) = 12) = False := eq_false (by decide +kernel)
    have g20 : ((70 : Int32) = 20) = False := eq_false (by decide +kernel)
    have g30 : ((70 : Int32) = 30) = False := eq_false (by decide +kernel)
    have g40 : ((70 : Int32) = 40) = False := eq_false (by decide +kernel)
    have g50 : ((70 : Int32) = 50) = False := eq_false (by decide +kernel)
    have g51 : ((70 : Int32) = 51) = False := eq_false (by decide +kernel)
    have g60 : ((70 : Int32) = 60) = False := eq_false (by decide +kernel)
    simp only [sX0_runBody_0, sX0_runBody_1, sX0_runBody_249, sX0_runBody_100, sX0_runBody_107, sX0_runBody_124, sX0_runBody_138, sX0_runBody_150, sX0_runBody_161, sX0_runBody_182, sX0_runBody_192, sX0_runBody_203, sX0_runBody_217, sX0_runBody_235, sX0_runBody_250 (st := []), sX0_runBody_101, sX0_runBody_108, sX0_runBody_125, sX0_runBody_139, sX0_runBody_151, sX0_runBody_162, sX0_runBody_183, sX0_runBody_193, sX0_runBody_204, sX0_runBody_218, sX0_runBody_236, sX0_runBody_102, sX0_runBody_109, sX0_runBody_126, sX0_runBody_140, sX0_runBody_152, sX0_runBody_163, sX0_runBody_184, sX0_runBody_194, sX0_runBody_205, sX0_runBody_219, sX0_runBody_237, sX0_runBody_105, sX0_runBody_112, sX0_runBody_129, sX0_runBody_141, sX0_runBody_153, sX0_runBody_164, sX0_runBody_185, sX0_runBody_195, sX0_runBody_206, sX0_runBody_220, sX0_runBody_238, sX0_runBody_106 (st := []), sX0_runBody_113, sX0_runBody_130, sX0_runBody_142, sX0_runBody_154, sX0_runBody_165, sX0_runBody_186, sX0_runBody_196, sX0_runBody_207, sX0_runBody_221, sX0_runBody_239, sX0_runBody_114, sX0_runBody_131, sX0_runBody_143 (st := []), sX0_runBody_155, sX0_runBody_166 (st := []), sX0_runBody_187 (st := []), sX0_runBody_197, sX0_runBody_208, sX0_runBody_222 (st := []), sX0_runBody_240 (st := []), sX0_runBody_115 (st := []), sX0_runBody_132 (st := []), sX0_runBody_146, sX0_runBody_156, sX0_runBody_169, sX0_runBody_190, sX0_runBody_198, sX0_runBody_211, sX0_runBody_225, sX0_runBody_243, sX0_runBody_118, sX0_runBody_135, sX0_runBody_148, sX0_runBody_157 (st := []), sX0_runBody_170, sX0_runBody_191 (st := []), sX0_runBody_199 (st := []), sX0_runBody_212, sX0_runBody_226, sX0_runBody_244, sX0_runBody_119, sX0_runBody_136, sX0_runBody_149 (st := []), sX0_runBody_160 (st := []), sX0_runBody_171, sX0_runBody_202 (st := []), sX0_runBody_213 (st := []), sX0_runBody_227, sX0_runBody_247, sX0_runBody_122, sX0_runBody_137 (st := []), sX0_runBody_174, sX0_runBody_216 (st := []), sX0_runBody_228, sX0_runBody_248 (st := []), sX0_runBody_123 (st := []), sX0_runBody_175, sX0_runBody_229, sX0_runBody_176, sX0_runBody_230 (st := []), sX0_runBody_177 (st := []), sX0_runBody_233, sX0_runBody_180, sX0_runBody_234 (st := []), sX0_runBody_181 (st := []), inb, nz_3, nz_4, nz_6, nz_8, nz_10, nz_100, nz_300, pushr_s, pushr_n, rv_s, rv_n, kd_sI, kd_sR, kd_sJ, sz_sI, sz_sR, sz_sJ, aR_sI, aJ_sI, aI_sR, aI_sJ, not_false_eq_true, true_and, and_true, true_or, or_true, or_false, false_or, eq_self, ite_true, ite_false, if_true, if_false, e, g10, g11, g12, g20, g30, g40, g50, g51, g60, kd_aS, l.k52, aS_2, aS_3, aS_4, hkk, c1, c2]
  rw [if_neg q] at h
  by_cases q : b = 71
  · rw [if_pos q] at h
    obtain ⟨r, hr, rfl⟩ := th1_s h
    have c1 : ∀ Q, Wp S d 4 0 [.ref 52, .int 3, .int 0, .int x, .int (nI dep), hole, hole] [] (aS H s) Q = Q (some (.int r.1)) (aS H r.2) := hR 3 0 x s r (by decide) (by decide) hr (by omega)
    subst q
    have e : nI 71 = 71 := rfl
    have g10 : ((71 : Int32) = 10) = False := eq_false (by decide +kernel)
    have g11 : ((71 : Int32) = 11) = False := eq_false (by decide +kernel)
    have g12 : ((71 : Int32) = 12) = False := eq_false (by decide +kernel)
    have g20 : ((71 : Int32) = 20) = False := eq_false (by decide +kernel)
    have g30 : ((71 : Int32) = 30) = False := eq_false (by decide +kernel)
    have g40 : ((71 : Int32) = 40) = False := eq_false (by decide +kernel)
    have g50 : ((71 : Int32) = 50) = False := eq_false (by decide +kernel)
    have g51 : ((71 : Int32) = 51) = False := eq_false (by decide +kernel)
    have g60 : ((71 : Int32) = 60) = False := eq_false (by decide +kernel)
    have g70 : ((71 : Int32) = 70) = False := eq_false (by decide +kernel)
    simp only [sX0_runBody_0, sX0_runBody_1, sX0_runBody_249, sX0_runBody_100, sX0_runBody_107, sX0_runBody_124, sX0_runBody_138, sX0_runBody_150, sX0_runBody_161, sX0_runBody_182, sX0_runBody_192, sX0_runBody_203, sX0_runBody_217, sX0_runBody_235, sX0_runBody_250 (st := []), sX0_runBody_101, sX0_runBody_108, sX0_runBody_125, sX0_runBody_139, sX0_runBody_151, sX0_runBody_162, sX0_runBody_183, sX0_runBody_193, sX0_runBody_204, sX0_runBody_218, sX0_runBody_236, sX0_runBody_102, sX0_runBody_109, sX0_runBody_126, sX0_runBody_140, sX0_runBody_152, sX0_runBody_163, sX0_runBody_184, sX0_runBody_194, sX0_runBody_205, sX0_runBody_219, sX0_runBody_237, sX0_runBody_105, sX0_runBody_112, sX0_runBody_129, sX0_runBody_141, sX0_runBody_153, sX0_runBody_164, sX0_runBody_185, sX0_runBody_195, sX0_runBody_206, sX0_runBody_220, sX0_runBody_238, sX0_runBody_106 (st := []), sX0_runBody_113, sX0_runBody_130, sX0_runBody_142, sX0_runBody_154, sX0_runBody_165, sX0_runBody_186, sX0_runBody_196, sX0_runBody_207, sX0_runBody_221, sX0_runBody_239, sX0_runBody_114, sX0_runBody_131, sX0_runBody_143 (st := []), sX0_runBody_155, sX0_runBody_166 (st := []), sX0_runBody_187 (st := []), sX0_runBody_197, sX0_runBody_208, sX0_runBody_222 (st := []), sX0_runBody_240 (st := []), sX0_runBody_115 (st := []), sX0_runBody_132 (st := []), sX0_runBody_146, sX0_runBody_156, sX0_runBody_169, sX0_runBody_190, sX0_runBody_198, sX0_runBody_211, sX0_runBody_225, sX0_runBody_243, sX0_runBody_118, sX0_runBody_135, sX0_runBody_148, sX0_runBody_157 (st := []), sX0_runBody_170, sX0_runBody_191 (st := []), sX0_runBody_199 (st := []), sX0_runBody_212, sX0_runBody_226, sX0_runBody_244, sX0_runBody_119, sX0_runBody_136, sX0_runBody_149 (st := []), sX0_runBody_160 (st := []), sX0_runBody_171, sX0_runBody_202 (st := []), sX0_runBody_213 (st := []), sX0_runBody_227, sX0_runBody_247, sX0_runBody_122, sX0_runBody_137 (st := []), sX0_runBody_174, sX0_runBody_216 (st := []), sX0_runBody_228, sX0_runBody_248 (st := []), sX0_runBody_123 (st := []), sX0_runBody_175, sX0_runBody_229, sX0_runBody_176, sX0_runBody_230 (st := []), sX0_runBody_177 (st := []), sX0_runBody_233, sX0_runBody_180, sX0_runBody_234 (st := []), sX0_runBody_181 (st := []), inb, nz_3, nz_4, nz_6, nz_8, nz_10, nz_100, nz_300, pushr_s, pushr_n, rv_s, rv_n, kd_sI, kd_sR, kd_sJ, sz_sI, sz_sR, sz_sJ, aR_sI, aJ_sI, aI_sR, aI_sJ, not_false_eq_true, true_and, and_true, true_or, or_true, or_false, false_or, eq_self, ite_true, ite_false, if_true, if_false, e, g10, g11, g12, g20, g30, g40, g50, g51, g60, g70, kd_aS, l.k52, aS_2, aS_3, aS_4, hkk, c1]
  rw [if_neg q] at h
  cases h
theorem w_run {d kk : Nat} {H : AH} (l : CoL H) (hkk : aI H 52 3 = nI kk) (k7 : kk < 7) : ∀ (f dep n0 : Nat), dep + f ≤ 20 → n0 + 2 * 2 ^ f ≤ 1048576 → RuW S H (d + 2 * f) (rnO (aI H 52 2) (aI H 52 4) kk f) dep n0
  | 0, dep, n0, hd, hn => fun k a x s p _ _ h => by cases h
  | f + 1, dep, n0, hd, hn => by
    intro k a x s p hk ha h hs Q
    have p1 : 2 ^ (f + 1) = 2 * 2 ^ f := by rw [Nat.pow_succ]; omega
    have p2 : 1 ≤ 2 ^ f := Nat.one_le_two_pow
    have ih := w_run (d := d) l hkk k7 f (dep + 1) (n0 + 1 + 2 ^ f) (by omega) (by omega)
    have hb := w_body (S := S) (n0 := n0 + 1) (n1 := n0 + 1 + 2 ^ f) l hkk k7 ih (Nat.le_add_right _ _) (fun k a x s p h hs => by have := rn_n _ _ _ _ _ _ _ _ _ h; omega) (bo k a) x (nt (bo k a) s) p h (by show s.1 + 1 ≤ n0 + 1; omega)
    obtain ⟨z, hf⟩ := lp_find (S := S) (d := d + 2 * (f + 1)) (H := aS H s) (v1 := nI k) (v3 := x) (v4 := nI dep) ha 7 0 k (by omega) hk
    rw [nI_0] at hf
    have fk : fnL a 7 k < 7 := (show ∀ k, k < 7 → ∀ a, a < 3 → fnL a 7 k < 7 by decide) k hk a ha
    have b2 : (bI S 2).1 = 21 := rfl
    have i1 : nI (fnL a 7 k) * 3 + nI a = nI (3 * fnL a 7 k + a) := by rw [show (3 : Int32) = nI 3 from rfl, pk_mul, nI_add, Nat.mul_comm]
    have xc : (nI (3 * fnL a 7 k + a)).toNatClampNeg = 3 * fnL a 7 k + a := nI_clamp (by omega)
    have xb : ¬ (nI (3 * fnL a 7 k + a) < 0 ∨ 21 ≤ 3 * fnL a 7 k + a) := inN (by omega) (by omega)
    have bv : (bI S 2).2 (3 * fnL a 7 k + a) = nI (bo k a) := (show ∀ j, j < 21 → bodL.getD j 0 = nI (boN.getD j 0) by decide +kernel) _ (by omega)
    have f0 : ¬ nI (fnL a 7 k) < 0 := nI_pos (by omega)
    have d20 : nI dep < 20 := nI_lt (b := 20) (by omega) (by decide)
    have hnt := fun Q => w_note (S := S) (d := d + 2 * f + 1) (b := bo k a) (H := H) (s := s) (Q := Q) l (by omega)
    have e2 : d + 2 * (f + 1) = d + 2 * f + 1 + 1 := by omega
    rw [e2] at hf ⊢
    simp only [sX0_run_0, sX0_run_1, sX0_run_3, sX0_run_4, sX0_run_8, sX0_run_11, sX0_run_12, sX0_run_15, sX0_run_17, sX0_run_49, sX0_run_20, sX0_run_52, sX0_run_59, sX0_run_23, sX0_run_54, sX0_run_60 (st := []), sX0_run_25, sX0_run_56, sX0_run_26, sX0_run_61, sX0_run_27, sX0_run_64, sX0_run_28, sX0_run_66, sX0_run_29, sX0_run_67, sX0_run_30, sX0_run_68, sX0_run_33, sX0_run_69, sX0_run_36, sX0_run_70, sX0_run_38, sX0_run_71, sX0_run_39, sX0_run_73, sX0_run_41, sX0_run_74, sX0_run_44, sX0_run_76 (st := []), sX0_run_79, sX0_run_80, sX0_run_82, sX0_run_83, sX0_run_85, sX0_run_86, sX0_run_87 (st := []), sX0_run_90 (st := []), inb, nz_3, nz_4, nz_6, nz_8, nz_10, nz_100, nz_300, pushr_s, pushr_n, rv_s, rv_n, kd_sI, kd_sR, kd_sJ, sz_sI, sz_sR, sz_sJ, aR_sI, aJ_sI, aI_sR, aI_sJ, not_false_eq_true, true_and, and_true, true_or, or_true, or_false, false_or, eq_self, ite_true, ite_false, if_true, if_false, hf]
    rw [sX0_run_47 (st := [])]
    simp only [sX0_run_0, sX0_run_1, sX0_run_3, sX0_run_4, sX0_run_8, sX0_run_11, sX0_run_12, sX0_run_15, sX0_run_47, sX0_run_17, sX0_run_49, sX0_run_20, sX0_run_52, sX0_run_59, sX0_run_23, sX0_run_54, sX0_run_60 (st := []), sX0_run_25, sX0_run_56, sX0_run_26, sX0_run_61, sX0_run_27, sX0_run_64, sX0_run_28, sX0_run_66, sX0_run_29, sX0_run_67, sX0_run_30, sX0_run_68, sX0_run_33, sX0_run_69, sX0_run_36, sX0_run_70, sX0_run_38, sX0_run_71, sX0_run_39, sX0_run_73, sX0_run_41, sX0_run_74, sX0_run_44, sX0_run_76 (st := []), sX0_run_79, sX0_run_80, sX0_run_82, sX0_run_83, sX0_run_85, sX0_run_86, sX0_run_87 (st := []), sX0_run_90 (st := []), inb, nz_3, nz_4, nz_6, nz_8, nz_10, nz_100, nz_300, pushr_s, pushr_n, rv_s, rv_n, kd_sI, kd_sR, kd_sJ, sz_sI, sz_sR, sz_sJ, aR_sI, aJ_sI, aI_sR, aI_sJ, not_false_eq_true, true_and, and_true, true_or, or_true, or_false, false_or, eq_self, ite_true, ite_false, if_true, if_false, f0, d20, show (2 : Nat) ≤ 2 by decide, b2, i1, xc, xb, bv, kd_aS, l.k52, hnt, nI_1, hb]
/-- the reference's acts -/
def lkM (i v : Int32) (kk : Nat) (x : Int32) (s : TrS) : Int32 × TrS :=
  if kk = 2 ∨ kk = 5 then (x * 3 + i, nt 10 (nt 30 s)) else if kk = 4 then (-(x + i), nt 10 (nt 50 s)) else if kk = 6 then ((x + i) ^^^ v, nt 10 (nt 71 s)) else (x + i, nt 10 s)
def msM (i v : Int32) (kk : Nat) (x : Int32) (s : TrS) : Int32 × TrS := ((lkM i v kk x (nt 11 s)).1 - v, (lkM i v kk x (nt 11 s)).2)
def ssM (i v : Int32) (kk : Nat) (x : Int32) (s : TrS) : Int32 × TrS := ((msM i v kk x (nt 20 s)).1 ^^^ 6, (msM i v kk x (nt 20 s)).2)
def syM (i v : Int32) (kk : Nat) (x : Int32) (s : TrS) : Int32 × TrS :=
  if kk = 1 then ssM i v kk x s else if kk = 4 then ssM i v kk (x + 1) (nt 51 s) else if kk = 6 then ((msM i v kk x (nt 70 s)).1 + (2 + i), nt 10 (msM i v kk x (nt 70 s)).2) else msM i v kk x s
def mtM (i v : Int32) (kk : Nat) (x : Int32) (s : TrS) : Int32 × TrS := ((syM i v kk x (nt 12 s)).1 * 2, (syM i v kk x (nt 12 s)).2)
def tlM (i v : Int32) (kk : Nat) (x : Int32) (s : TrS) : Int32 × TrS :=
  if kk = 3 ∨ kk = 6 then ((mtM i v kk x (nt 40 s)).1 + (syM i v kk 1 (mtM i v kk x (nt 40 s)).2).1, (syM i v kk 1 (mtM i v kk x (nt 40 s)).2).2) else if kk = 5 then mtM i v kk (x - i) (nt 60 s) else mtM i v kk x s
def acM (i v : Int32) (kk a : Nat) (x : Int32) (s : TrS) : Int32 × TrS := if a = 0 then lkM i v kk x s else if a = 1 then syM i v kk x s else tlM i v kk x s
theorem rn_ac (i v : Int32) (x : Int32) (s : TrS) : ∀ kk, kk < 7 → ∀ a, a < 3 → rnO i v kk 9 kk a x s = some (acM i v kk a x s) := by
  intro kk hk a ha
  have k7 : kk = 0 ∨ kk = 1 ∨ kk = 2 ∨ kk = 3 ∨ kk = 4 ∨ kk = 5 ∨ kk = 6 := by omega
  have a3 : a = 0 ∨ a = 1 ∨ a = 2 := by omega
  rcases k7 with rfl | rfl | rfl | rfl | rfl | rfl | rfl <;> rcases a3 with rfl | rfl | rfl <;> rfl
end CALLS
