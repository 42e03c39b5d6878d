-- 28: a day, days, as one function of the state
def pl (A : AS) (p : Nat) : Nat := ix (A.W p)
def meetA (A : AS) (p : Nat) : AS := if maC A.L 9 ≤ bcn (pas A (pl A p) (A.M p)) then A.u5 A.D A.O (A.B ||| 2 ^ p) (upd A.M p (pas A (pl A p) (A.M p))) A.W else A.u5 A.D A.O A.B (upd A.M p (pas A (pl A p) (A.M p))) (upd A.W p (A.W p + 1))
def stepP (A : AS) (p : Nat) : AS := if haS (nI A.B) (nI p) = 1 then A else if A.N ≤ pl A p then A else meetA A p
def daysL : Nat → Nat → AS → AS
  | 0, _, A => A
  | c + 1, p, A => daysL c (p + 1) (stepP A p)
def dayA (A : AS) : AS := (daysL A.P 0 A).u5 (A.D + 1) A.O (daysL A.P 0 A).B (daysL A.P 0 A).M (daysL A.P 0 A).W
def daysA : Nat → AS → AS
  | 0, A => A
  | c + 1, A => daysA c (dayA A)
theorem Wf.u5 {A : AS} (w : Wf A) {D' O' B' : Nat} {M' W' : Nat → Int32} (hD : D' < 20000) (hO : O' < 2 ^ A.N) (hB : B' < 2 ^ A.P) (hM : ∀ i, i < A.P → isMk (M' i)) (hW : ∀ i, i < A.P → ∃ k, k ≤ A.N ∧ W' i = nI k) (hW0 : ∀ i, A.P ≤ i → i < 5 → W' i = 0) : Wf (A.u5 D' O' B' M' W') :=
  ⟨w.hN, w.hP, hD, hO, hB, w.hK, w.hV, w.hR, w.hR0, hM, hW, hW0, w.hs, w.hs1, w.hp, w.hp1, w.hb, w.hb1, w.hL⟩
theorem Wf.eW {A : AS} (w : Wf A) {p : Nat} (hp : p < A.P) : A.W p = nI (pl A p) ∧ pl A p ≤ A.N := by
  obtain ⟨x, hx, e⟩ := w.hW p hp
  have hN := w.hN
  have : pl A p = x := by unfold pl; rw [e]; exact ix_nI (by omega)
  rw [this]
  exact ⟨e, hx⟩
theorem Wf.meet {A : AS} (w : Wf A) {p : Nat} (hp : p < A.P) (hl : pl A p < A.N) : Wf (meetA A p) := by
  have hm := mk_pas w hl (w.hM p hp)
  have hM : ∀ i, i < A.P → isMk (upd A.M p (pas A (pl A p) (A.M p)) i) := fun i hi => by
    by_cases e : i = p
    · subst e; rw [pk_us]; exact hm
    · rw [pk_un e]; exact w.hM i hi
  unfold meetA
  split
  · refine w.u5 w.hD w.hO ?_ hM w.hW w.hW0
    exact Nat.or_lt_two_pow w.hB (Nat.pow_lt_pow_right (by decide) hp)
  · refine w.u5 w.hD w.hO w.hB hM (fun i hi => ?_) (fun i hi h5 => ?_)
    · by_cases e : i = p
      · subst e; rw [pk_us, (w.eW hp).1]; exact ⟨pl A i + 1, by omega, nI_1 _⟩
      · rw [pk_un e]; exact w.hW i hi
    · rw [pk_un (by omega)]; exact w.hW0 i hi h5
/-- what days leave as it is -/
def Sm (A : AS) (C : AS) : Prop :=
  (C.N = A.N) ∧
  (C.P = A.P) ∧
  (C.D = A.D) ∧
  (C.O = A.O) ∧
  (C.K = A.K) ∧
  (C.V = A.V) ∧
  (C.R = A.R) ∧
  (C.L = A.L)
theorem Sm.N {A : AS} {C : AS} (h : Sm A C) : C.N = A.N := h.1
theorem Sm.P {A : AS} {C : AS} (h : Sm A C) : C.P = A.P := h.2.1
theorem Sm.D {A : AS} {C : AS} (h : Sm A C) : C.D = A.D := h.2.2.1
theorem Sm.O {A : AS} {C : AS} (h : Sm A C) : C.O = A.O := h.2.2.2.1
theorem Sm.K {A : AS} {C : AS} (h : Sm A C) : C.K = A.K := h.2.2.2.2.1
theorem Sm.V {A : AS} {C : AS} (h : Sm A C) : C.V = A.V := h.2.2.2.2.2.1
theorem Sm.R {A : AS} {C : AS} (h : Sm A C) : C.R = A.R := h.2.2.2.2.2.2.1
theorem Sm.L {A : AS} {C : AS} (h : Sm A C) : C.L = A.L := h.2.2.2.2.2.2.2
theorem Sm.refl (A : AS) : Sm A A := ⟨rfl, rfl, rfl, rfl, rfl, rfl, rfl, rfl⟩
theorem Sm.trans {A B C : AS} (a : Sm A B) (b : Sm B C) : Sm A C := ⟨b.N.trans a.N, b.P.trans a.P, b.D.trans a.D, b.O.trans a.O, b.K.trans a.K, b.V.trans a.V, b.R.trans a.R, b.L.trans a.L⟩
theorem u5_sm (A : AS) (B' : Nat) (M' W' : Nat → Int32) : Sm A (A.u5 A.D A.O B' M' W') := ⟨rfl, rfl, rfl, rfl, rfl, rfl, rfl, rfl⟩
theorem meet_sm (A : AS) (p : Nat) : Sm A (meetA A p) := by
  unfold meetA
  split
  · exact u5_sm A _ _ _
  · exact u5_sm A _ _ _
theorem step_sm (A : AS) (p : Nat) : Sm A (stepP A p) := by
  unfold stepP
  split
  · exact Sm.refl A
  · split
    · exact Sm.refl A
    · exact meet_sm A p
theorem daysL_sm : ∀ (c p : Nat) (A : AS), Sm A (daysL c p A)
  | 0, _, A => Sm.refl A
  | c + 1, p, A => (step_sm A p).trans (daysL_sm c (p + 1) _)
theorem Wf.step {A : AS} (w : Wf A) {p : Nat} (hp : p < A.P) : Wf (stepP A p) := by
  unfold stepP
  split
  · exact w
  · split
    · exact w
    · exact w.meet hp (by omega)
theorem Wf.daysL : ∀ (c p : Nat) {A : AS}, Wf A → p + c = A.P → Wf (daysL c p A)
  | 0, _, A, w, _ => w
  | c + 1, p, A, w, h => Wf.daysL c (p + 1) (w.step (by omega)) (by rw [(step_sm A p).P]; omega)
theorem Wf.day {A : AS} (w : Wf A) (hD : A.D + 1 < 20000) : Wf (dayA A) := by
  have w2 := Wf.daysL A.P 0 w (by omega)
  have s := daysL_sm A.P 0 A
  refine w2.u5 hD ?_ w2.hB w2.hM w2.hW w2.hW0
  rw [s.N]; exact w.hO
theorem dayA_eq (A : AS) : (dayA A).N = A.N ∧ (dayA A).P = A.P ∧ (dayA A).D = A.D + 1 ∧ (dayA A).O = A.O ∧ (dayA A).L = A.L := by
  have s := daysL_sm A.P 0 A
  exact ⟨s.N, s.P, rfl, rfl, s.L⟩
theorem Wf.days : ∀ (c : Nat) {A : AS}, Wf A → A.D + c < 20000 → Wf (daysA c A)
  | 0, A, w, _ => w
  | c + 1, A, w, h => Wf.days c (w.day (by omega)) (by rw [(dayA_eq A).2.2.1]; omega)
theorem daysA_eq : ∀ (c : Nat) (A : AS), (daysA c A).N = A.N ∧ (daysA c A).P = A.P ∧ (daysA c A).D = A.D + c
  | 0, A => ⟨rfl, rfl, rfl⟩
  | c + 1, A => by
    obtain ⟨a1, a2, a3⟩ := daysA_eq c (dayA A)
    obtain ⟨b1, b2, b3, -⟩ := dayA_eq A
    exact ⟨a1.trans b1, a2.trans b2, by show (daysA c (dayA A)).D = _; omega⟩
theorem shl_p {p : Nat} (h : p < 6) : (1 : Int32) <<< (nI p &&& 31) = nI (2 ^ p) := shl_nI (by omega)
/-- the component's day changes these -/
def jGo (k : Nat) (o i : Nat) : Prop := (o = k ∧ (i = 0 ∨ i = 4 ∨ i = 9)) ∨ o = k + 4 ∨ o = k + 5
section STAGE
variable {S : SC} {d k : Nat} {H : AH} {A : AS}
theorem w_isBack {Q : Option Value → AH → Prop} {l : Int32} (h : StL H k) : Wp S d 23 0 [.ref k, .int l] [] H Q = Q (some (.int (ob (aI H k 9) l))) H := by
  simp only [sX3_isBack_0, sX3_isBack_1, sX3_isBack_4, sX3_isBack_5, sX3_isBack_6, sX3_isBack_7, sX3_isBack_8, sX3_isBack_11, sX3_isBack_15, sX3_isBack_12, sX3_isBack_16 (st := []), inb, nz_3, nz_4, nz_6, nz_8, nz_10, nz_100, nz_300, pushr_s, pushr_n, rv_s, rv_n, kd_sI, kd_sR, kd_sJ, sz_sI, sz_sR, sz_sJ, aR_sI, aJ_sI, aI_sR, aI_sJ, not_false_eq_true, true_and, and_true, true_or, or_true, or_false, false_or, eq_self, ite_true, ite_false, if_true, if_false, h.1]
  unfold ob
  split <;> rfl
theorem StA.jgo (h : StA H k A) (hk : k < 60) {H' : AH} (f : Fr (jGo k) H H') {D' O' B' : Nat} {M' W' : Nat → Int32} (hD : aI H' k 0 = nI D') (hO : aI H' k 4 = nI O') (hB : aI H' k 9 = nI B') (hM : ∀ i, i < 5 → aI H' (k + 4) i = M' i) (hW : ∀ i, i < 5 → aI H' (k + 5) i = W' i) : StA H' k (A.u5 D' O' B' M' W') :=
  h.cD f (fun o i z => ⟨fun _ _ => by unfold jGo at z; omega, by unfold jGo at z; omega⟩) hD hO hB hM hW
theorem w_meet {p : Nat} (h : StA H k A) (w : Wf A) (hk : k < 60) (hp : p < A.P) (hl : pl A p < A.N) : ∃ H', Fr (jGo k) H H' ∧ StA H' k (meetA A p) ∧ ∀ Q, Wp S (d + 4) 37 0 [.ref k, .int (nI p), hole] [] H Q = Q none H' := by
  have hP := w.hP
  have hN := w.hN
  have hD := w.hD
  have e1 : aI H (k + 5) p = nI (pl A p) := (h.eW p (by omega)).trans (w.eW hp).1
  have e4 : aI H (k + 4) p = A.M p := h.eM p (by omega)
  have q0 := h.qT w hl (w.hM p hp)
  obtain ⟨m, hm, em⟩ := mk_pas w hl (w.hM p hp)
  unfold pT at q0
  rw [ix_nI (by omega), em] at q0
  have hr : inb (nI (pl A p) * 4 + md4 (aI H k 0)) 24 := by rw [h.nD]; exact row_in (by omega) (by omega)
  have hpo := fun Q => w_passedOn (S := S) (d := d) (Q := Q) (v := aI H (k + 2) (pl A p)) (n := A.M p) (y := aI H k 0) h.lay h.eL.wy (l := nI (pl A p)) (nI_in (by omega) (by omega)) hr
  rw [q0] at hpo
  have f1 : Fr (jGo k) H (sI H (k + 4) p (nI m)) := Fr.wI _ (Or.inr (Or.inl rfl))
  have hmn := fun Q => w_many (S := S) (d := d + 3) (Q := Q) (H := sI H (k + 4) p (nI m)) (k := k) h.lay h.eL.wy
  have ema : mnO (sI H (k + 4) p (nI m)) (aR (sI H (k + 4) p (nI m)) k 13) = maC A.L 9 := (h.eL.fr f1 (fun o i z => by unfold jGo at z; omega)).ma
  rw [ema] at hmn
  have a1 : aI (sI H (k + 4) p (nI m)) (k + 4) p = nI m := if_pos ⟨rfl, rfl⟩
  have a2 : aI (sI H (k + 4) p (nI m)) k 9 = nI A.B := (if_neg (by omega)).trans h.nB
  have a3 : aI (sI H (k + 4) p (nI m)) (k + 5) p = nI (pl A p) := (if_neg (by omega)).trans e1
  have kc : (nI p).toNatClampNeg = p := nI_clamp (by omega)
  have kl : (nI (pl A p)).toNatClampNeg = pl A p := nI_clamp (by omega)
  have k1 : ¬ (nI p < 0 ∨ 5 ≤ p) := inN (by omega) (by omega)
  have k2 : ¬ (nI (pl A p) < 0 ∨ 6 ≤ pl A p) := inN (by omega) (by omega)
  have hM : ∀ H2 : AH, (∀ i, aI H2 (k + 4) i = aI (sI H (k + 4) p (nI m)) (k + 4) i) → ∀ i, i < 5 → aI H2 (k + 4) i = upd A.M p (pas A (pl A p) (A.M p)) i := fun H2 h2 i hi => by
    rw [h2, em]
    by_cases e : i = p
    · subst e; rw [pk_us]; exact a1
    · rw [pk_un e]; exact (if_neg (fun z => e z.2)).trans (h.eM i hi)
  unfold meetA
  by_cases c : maC A.L 9 ≤ bcn (nI m)
  · rw [em, if_pos c, ← em]
    refine ⟨sI (sI H (k + 4) p (nI m)) k 9 (nI (A.B ||| 2 ^ p)), f1.trans (Fr.wI _ (Or.inl ⟨rfl, Or.inr (Or.inr rfl)⟩)), ?_, fun Q => ?_⟩
    · refine h.jgo hk (f1.trans (Fr.wI _ (Or.inl ⟨rfl, Or.inr (Or.inr rfl)⟩))) ?_ ?_ ?_ ?_ ?_
      · exact (if_neg (by omega)).trans ((if_neg (by omega)).trans h.nD)
      · exact (if_neg (by omega)).trans ((if_neg (by omega)).trans h.nO)
      · exact if_pos ⟨rfl, rfl⟩
      · exact hM _ (fun i => if_neg (by omega))
      · exact fun i hi => (if_neg (by omega)).trans ((if_neg (by omega)).trans (h.eW i hi))
    · have c' : ¬ bcn (nI m) < maC A.L 9 := Int32.not_lt.mpr c
      simp only [sX3_meet_0, sX3_meet_1, sX3_meet_4, sX3_meet_5, sX3_meet_6, sX3_meet_7, sX3_meet_8, sX3_meet_11, sX3_meet_12, sX3_meet_13, sX3_meet_14, sX3_meet_15, sX3_meet_18, sX3_meet_19, sX3_meet_20, sX3_meet_21, sX3_meet_24, sX3_meet_25, sX3_meet_26, sX3_meet_27, sX3_meet_30 (st := []), sX3_meet_33, sX3_meet_34, sX3_meet_35, sX3_meet_38, sX3_meet_39, sX3_meet_40 (st := []), sX3_meet_43, sX3_meet_44 (st := []), sX3_meet_47, sX3_meet_50, sX3_meet_65, sX3_meet_51, sX3_meet_66, sX3_meet_52, sX3_meet_69, sX3_meet_55, sX3_meet_70, sX3_meet_56, sX3_meet_71, sX3_meet_57, sX3_meet_72, sX3_meet_58, sX3_meet_73, sX3_meet_59, sX3_meet_74, sX3_meet_62, sX3_meet_75 (st := []), inb, nz_3, nz_4, nz_6, nz_8, nz_10, nz_100, nz_300, pushr_s, pushr_n, rv_s, rv_n, kd_sI, kd_sR, kd_sJ, sz_sI, sz_sR, sz_sJ, aR_sI, aJ_sI, aI_sR, aI_sJ, not_false_eq_true, true_and, and_true, true_or, or_true, or_false, false_or, eq_self, ite_true, ite_false, if_true, if_false, h.lay.1, h.lay.2.1, h.lay.2.2.1, h.lay.2.2.2.1, h.lay.2.2.2.2.1, h.lay.2.2.2.2.2.1, h.lay.2.2.2.2.2.2.1, h.lay.2.2.2.2.2.2.2.1, h.lay.2.2.2.2.2.2.2.2.1, h.lay.2.2.2.2.2.2.2.2.2.1, h.lay.2.2.2.2.2.2.2.2.2.2.1, h.lay.2.2.2.2.2.2.2.2.2.2.2.1, h.lay.2.2.2.2.2.2.2.2.2.2.2.2.1, h.lay.2.2.2.2.2.2.2.2.2.2.2.2.2.1, h.lay.2.2.2.2.2.2.2.2.2.2.2.2.2.2.1, h.lay.2.2.2.2.2.2.2.2.2.2.2.2.2.2.2.1, h.lay.2.2.2.2.2.2.2.2.2.2.2.2.2.2.2.2.1, h.lay.2.2.2.2.2.2.2.2.2.2.2.2.2.2.2.2.2.1, h.lay.2.2.2.2.2.2.2.2.2.2.2.2.2.2.2.2.2.2.1, h.lay.2.2.2.2.2.2.2.2.2.2.2.2.2.2.2.2.2.2.2.1, h.lay.2.2.2.2.2.2.2.2.2.2.2.2.2.2.2.2.2.2.2.2.1, h.lay.2.2.2.2.2.2.2.2.2.2.2.2.2.2.2.2.2.2.2.2.2.1, h.lay.2.2.2.2.2.2.2.2.2.2.2.2.2.2.2.2.2.2.2.2.2.2.1, h.lay.2.2.2.2.2.2.2.2.2.2.2.2.2.2.2.2.2.2.2.2.2.2.2.1, h.lay.2.2.2.2.2.2.2.2.2.2.2.2.2.2.2.2.2.2.2.2.2.2.2.2.1, h.lay.2.2.2.2.2.2.2.2.2.2.2.2.2.2.2.2.2.2.2.2.2.2.2.2.2.1, h.lay.2.2.2.2.2.2.2.2.2.2.2.2.2.2.2.2.2.2.2.2.2.2.2.2.2.2.1, h.lay.2.2.2.2.2.2.2.2.2.2.2.2.2.2.2.2.2.2.2.2.2.2.2.2.2.2.2.1, h.lay.2.2.2.2.2.2.2.2.2.2.2.2.2.2.2.2.2.2.2.2.2.2.2.2.2.2.2.2.1, h.lay.2.2.2.2.2.2.2.2.2.2.2.2.2.2.2.2.2.2.2.2.2.2.2.2.2.2.2.2.2.1, h.lay.2.2.2.2.2.2.2.2.2.2.2.2.2.2.2.2.2.2.2.2.2.2.2.2.2.2.2.2.2.2.1, h.lay.2.2.2.2.2.2.2.2.2.2.2.2.2.2.2.2.2.2.2.2.2.2.2.2.2.2.2.2.2.2.2.1, h.lay.2.2.2.2.2.2.2.2.2.2.2.2.2.2.2.2.2.2.2.2.2.2.2.2.2.2.2.2.2.2.2.2.1, h.lay.2.2.2.2.2.2.2.2.2.2.2.2.2.2.2.2.2.2.2.2.2.2.2.2.2.2.2.2.2.2.2.2.2.1, h.lay.2.2.2.2.2.2.2.2.2.2.2.2.2.2.2.2.2.2.2.2.2.2.2.2.2.2.2.2.2.2.2.2.2.2.1, h.lay.2.2.2.2.2.2.2.2.2.2.2.2.2.2.2.2.2.2.2.2.2.2.2.2.2.2.2.2.2.2.2.2.2.2.2.1, h.lay.2.2.2.2.2.2.2.2.2.2.2.2.2.2.2.2.2.2.2.2.2.2.2.2.2.2.2.2.2.2.2.2.2.2.2.2.1, h.lay.2.2.2.2.2.2.2.2.2.2.2.2.2.2.2.2.2.2.2.2.2.2.2.2.2.2.2.2.2.2.2.2.2.2.2.2.2.1, h.lay.2.2.2.2.2.2.2.2.2.2.2.2.2.2.2.2.2.2.2.2.2.2.2.2.2.2.2.2.2.2.2.2.2.2.2.2.2.2.1, h.lay.2.2.2.2.2.2.2.2.2.2.2.2.2.2.2.2.2.2.2.2.2.2.2.2.2.2.2.2.2.2.2.2.2.2.2.2.2.2.2, e1, e4, kc, kl, k1, k2, hpo, a1, w_bitCount, hmn, c', a2, shl_p (show p < 6 by omega), nI_or]
  · rw [em, if_neg c, ← em]
    refine ⟨sI (sI H (k + 4) p (nI m)) (k + 5) p (nI (pl A p + 1)), f1.trans (Fr.wI _ (Or.inr (Or.inr rfl))), ?_, fun Q => ?_⟩
    · refine h.jgo hk (f1.trans (Fr.wI _ (Or.inr (Or.inr rfl)))) ?_ ?_ ?_ ?_ ?_
      · exact (if_neg (by omega)).trans ((if_neg (by omega)).trans h.nD)
      · exact (if_neg (by omega)).trans ((if_neg (by omega)).trans h.nO)
      · exact (if_neg (by omega)).trans ((if_neg (by omega)).trans h.nB)
      · exact hM _ (fun i => if_neg (by omega))
      · intro i hi
        by_cases e : i = p
        · subst e; rw [pk_us, (w.eW hp).1, nI_1]; exact if_pos ⟨rfl, rfl⟩
        · rw [pk_un e]; exact (if_neg (by omega)).trans ((if_neg (by omega)).trans (h.eW i hi))
    · have c' : bcn (nI m) < maC A.L 9 := Int32.not_le.mp c
      simp only [sX3_meet_0, sX3_meet_1, sX3_meet_4, sX3_meet_5, sX3_meet_6, sX3_meet_7, sX3_meet_8, sX3_meet_11, sX3_meet_12, sX3_meet_13, sX3_meet_14, sX3_meet_15, sX3_meet_18, sX3_meet_19, sX3_meet_20, sX3_meet_21, sX3_meet_24, sX3_meet_25, sX3_meet_26, sX3_meet_27, sX3_meet_30 (st := []), sX3_meet_33, sX3_meet_34, sX3_meet_35, sX3_meet_38, sX3_meet_39, sX3_meet_40 (st := []), sX3_meet_43, sX3_meet_44 (st := []), sX3_meet_47, sX3_meet_50, sX3_meet_65, sX3_meet_51, sX3_meet_66, sX3_meet_52, sX3_meet_69, sX3_meet_55, sX3_meet_70, sX3_meet_56, sX3_meet_71, sX3_meet_57, sX3_meet_72, sX3_meet_58, sX3_meet_73, sX3_meet_59, sX3_meet_74, sX3_meet_62, sX3_meet_75 (st := []), inb, nz_3, nz_4, nz_6, nz_8, nz_10, nz_100, nz_300, pushr_s, pushr_n, rv_s, rv_n, kd_sI, kd_sR, kd_sJ, sz_sI, sz_sR, sz_sJ, aR_sI, aJ_sI, aI_sR, aI_sJ, not_false_eq_true, true_and, and_true, true_or, or_true, or_false, false_or, eq_self, ite_true, ite_false, if_true, if_false, h.lay.1, h.lay.2.1, h.lay.2.2.1, h.lay.2.2.2.1, h.lay.2.2.2.2.1, h.lay.2.2.2.2.2.1, h.lay.2.2.2.2.2.2.1, h.lay.2.2.2.2.2.2.2.1, h.lay.2.2.2.2.2.2.2.2.1, h.lay.2.2.2.2.2.2.2.2.2.1, h.lay.2.2.2.2.2.2.2.2.2.2.1, h.lay.2.2.2.2.2.2.2.2.2.2.2.1, h.lay.2.2.2.2.2.2.2.2.2.2.2.2.1, h.lay.2.2.2.2.2.2.2.2.2.2.2.2.2.1, h.lay.2.2.2.2.2.2.2.2.2.2.2.2.2.2.1, h.lay.2.2.2.2.2.2.2.2.2.2.2.2.2.2.2.1, h.lay.2.2.2.2.2.2.2.2.2.2.2.2.2.2.2.2.1, h.lay.2.2.2.2.2.2.2.2.2.2.2.2.2.2.2.2.2.1, h.lay.2.2.2.2.2.2.2.2.2.2.2.2.2.2.2.2.2.2.1, h.lay.2.2.2.2.2.2.2.2.2.2.2.2.2.2.2.2.2.2.2.1, h.lay.2.2.2.2.2.2.2.2.2.2.2.2.2.2.2.2.2.2.2.2.1, h.lay.2.2.2.2.2.2.2.2.2.2.2.2.2.2.2.2.2.2.2.2.2.1, h.lay.2.2.2.2.2.2.2.2.2.2.2.2.2.2.2.2.2.2.2.2.2.2.1, h.lay.2.2.2.2.2.2.2.2.2.2.2.2.2.2.2.2.2.2.2.2.2.2.2.1, h.lay.2.2.2.2.2.2.2.2.2.2.2.2.2.2.2.2.2.2.2.2.2.2.2.2.1, h.lay.2.2.2.2.2.2.2.2.2.2.2.2.2.2.2.2.2.2.2.2.2.2.2.2.2.1, h.lay.2.2.2.2.2.2.2.2.2.2.2.2.2.2.2.2.2.2.2.2.2.2.2.2.2.2.1, h.lay.2.2.2.2.2.2.2.2.2.2.2.2.2.2.2.2.2.2.2.2.2.2.2.2.2.2.2.1, h.lay.2.2.2.2.2.2.2.2.2.2.2.2.2.2.2.2.2.2.2.2.2.2.2.2.2.2.2.2.1, h.lay.2.2.2.2.2.2.2.2.2.2.2.2.2.2.2.2.2.2.2.2.2.2.2.2.2.2.2.2.2.1, h.lay.2.2.2.2.2.2.2.2.2.2.2.2.2.2.2.2.2.2.2.2.2.2.2.2.2.2.2.2.2.2.1, h.lay.2.2.2.2.2.2.2.2.2.2.2.2.2.2.2.2.2.2.2.2.2.2.2.2.2.2.2.2.2.2.2.1, h.lay.2.2.2.2.2.2.2.2.2.2.2.2.2.2.2.2.2.2.2.2.2.2.2.2.2.2.2.2.2.2.2.2.1, h.lay.2.2.2.2.2.2.2.2.2.2.2.2.2.2.2.2.2.2.2.2.2.2.2.2.2.2.2.2.2.2.2.2.2.1, h.lay.2.2.2.2.2.2.2.2.2.2.2.2.2.2.2.2.2.2.2.2.2.2.2.2.2.2.2.2.2.2.2.2.2.2.1, h.lay.2.2.2.2.2.2.2.2.2.2.2.2.2.2.2.2.2.2.2.2.2.2.2.2.2.2.2.2.2.2.2.2.2.2.2.1, h.lay.2.2.2.2.2.2.2.2.2.2.2.2.2.2.2.2.2.2.2.2.2.2.2.2.2.2.2.2.2.2.2.2.2.2.2.2.1, h.lay.2.2.2.2.2.2.2.2.2.2.2.2.2.2.2.2.2.2.2.2.2.2.2.2.2.2.2.2.2.2.2.2.2.2.2.2.2.1, h.lay.2.2.2.2.2.2.2.2.2.2.2.2.2.2.2.2.2.2.2.2.2.2.2.2.2.2.2.2.2.2.2.2.2.2.2.2.2.2.1, h.lay.2.2.2.2.2.2.2.2.2.2.2.2.2.2.2.2.2.2.2.2.2.2.2.2.2.2.2.2.2.2.2.2.2.2.2.2.2.2.2, e1, e4, kc, kl, k1, k2, hpo, a1, w_bitCount, hmn, c', a3, nI_1]
theorem lp_gday {nn ii : Int32} (hk : k < 60) : ∀ (c p : Nat) (A : AS) (H : AH), StA H k A → Wf A → p + c = A.P → ∃ H', Fr (jGo k) H H' ∧ StA H' k (daysL c p A) ∧ ∀ Q, Wp S (d + 5) 36 9 [.ref k, .int nn, .int ii, .int (nI p)] [] H Q = Wp S (d + 5) 36 49 [.ref k, .int nn, .int ii, .int (nI A.P)] [] H' Q
  | 0, p, A, H, h, w, hc => by
    have hP := w.hP
    have hc : p = A.P := hc
    subst hc
    have e : nI A.P ≤ nI A.P := nI_le (Nat.le_refl _) (by omega)
    refine ⟨H, Fr.refl _ _, h, fun Q => ?_⟩
    rw [sX3_goDays_9]
    simp only [sX3_goDays_0, sX3_goDays_1, sX3_goDays_3, sX3_goDays_4, sX3_goDays_7, sX3_goDays_65 (st := []), sX3_goDays_8, sX3_goDays_10, sX3_goDays_11, sX3_goDays_14, sX3_goDays_17, sX3_goDays_18, sX3_goDays_50, sX3_goDays_19 (st := []), sX3_goDays_51, sX3_goDays_22, sX3_goDays_54, sX3_goDays_25, sX3_goDays_43, sX3_goDays_55, sX3_goDays_26, sX3_goDays_46, sX3_goDays_56, sX3_goDays_29, sX3_goDays_59, sX3_goDays_30, sX3_goDays_62, sX3_goDays_31, sX3_goDays_32, sX3_goDays_35, sX3_goDays_38, sX3_goDays_39, sX3_goDays_40 (st := []), inb, nz_3, nz_4, nz_6, nz_8, nz_10, nz_100, nz_300, pushr_s, pushr_n, rv_s, rv_n, kd_sI, kd_sR, kd_sJ, sz_sI, sz_sR, sz_sJ, aR_sI, aJ_sI, aI_sR, aI_sJ, not_false_eq_true, true_and, and_true, true_or, or_true, or_false, false_or, eq_self, ite_true, ite_false, if_true, if_false, h.lay.1, h.nP, e]
  | c + 1, p, A, H, h, w, hc => by
    have hP := w.hP
    have hN := w.hN
    have e : ¬ nI A.P ≤ nI p := nI_ge (by omega) (by omega)
    have hb := fun Q => w_isBack (S := S) (d := d + 4) (Q := Q) (l := nI p) h.lay
    rw [h.nB, ob_ha (Nat.lt_of_lt_of_le w.b32 (by decide)) (by omega)] at hb
    have ep : aI H (k + 5) p = nI (pl A p) := (h.eW p (by omega)).trans (w.eW (by omega)).1
    have kc : (nI p).toNatClampNeg = p := nI_clamp (by omega)
    have k1 : ¬ (nI p < 0 ∨ 5 ≤ p) := inN (by omega) (by omega)
    have hs := step_sm A p
    rcases haS01 (nI A.B) (nI p) with b | b
    · by_cases g : A.N ≤ pl A p
      · have e2 : stepP A p = A := by unfold stepP; rw [if_neg (by rw [b]; decide), if_pos g]
        obtain ⟨H2, r1, r2, r3⟩ := lp_gday (nn := nn) (ii := ii) hk c (p + 1) A H h w (by omega)
        refine ⟨H2, r1, by rw [daysL, e2]; exact r2, fun Q => ?_⟩
        have g' : nI A.N ≤ nI (pl A p) := nI_le g (by have := (w.eW (show p < A.P by omega)).2; omega)
        rw [sX3_goDays_9, ← r3]
        simp only [sX3_goDays_0, sX3_goDays_1, sX3_goDays_3, sX3_goDays_4, sX3_goDays_7, sX3_goDays_65 (st := []), sX3_goDays_8, sX3_goDays_10, sX3_goDays_11, sX3_goDays_14, sX3_goDays_17, sX3_goDays_18, sX3_goDays_50, sX3_goDays_19 (st := []), sX3_goDays_51, sX3_goDays_22, sX3_goDays_54, sX3_goDays_25, sX3_goDays_43, sX3_goDays_55, sX3_goDays_26, sX3_goDays_46, sX3_goDays_56, sX3_goDays_29, sX3_goDays_59, sX3_goDays_30, sX3_goDays_62, sX3_goDays_31, sX3_goDays_32, sX3_goDays_35, sX3_goDays_38, sX3_goDays_39, sX3_goDays_40 (st := []), inb, nz_3, nz_4, nz_6, nz_8, nz_10, nz_100, nz_300, pushr_s, pushr_n, rv_s, rv_n, kd_sI, kd_sR, kd_sJ, sz_sI, sz_sR, sz_sJ, aR_sI, aJ_sI, aI_sR, aI_sJ, not_false_eq_true, true_and, and_true, true_or, or_true, or_false, false_or, eq_self, ite_true, ite_false, if_true, if_false, h.lay.1, h.lay.2.1, h.lay.2.2.1, h.lay.2.2.2.1, h.lay.2.2.2.2.1, h.lay.2.2.2.2.2.1, h.lay.2.2.2.2.2.2.1, h.lay.2.2.2.2.2.2.2.1, h.lay.2.2.2.2.2.2.2.2.1, h.lay.2.2.2.2.2.2.2.2.2.1, h.lay.2.2.2.2.2.2.2.2.2.2.1, h.lay.2.2.2.2.2.2.2.2.2.2.2.1, h.lay.2.2.2.2.2.2.2.2.2.2.2.2.1, h.lay.2.2.2.2.2.2.2.2.2.2.2.2.2.1, h.lay.2.2.2.2.2.2.2.2.2.2.2.2.2.2.1, h.lay.2.2.2.2.2.2.2.2.2.2.2.2.2.2.2.1, h.lay.2.2.2.2.2.2.2.2.2.2.2.2.2.2.2.2.1, h.lay.2.2.2.2.2.2.2.2.2.2.2.2.2.2.2.2.2.1, h.lay.2.2.2.2.2.2.2.2.2.2.2.2.2.2.2.2.2.2.1, h.lay.2.2.2.2.2.2.2.2.2.2.2.2.2.2.2.2.2.2.2.1, h.lay.2.2.2.2.2.2.2.2.2.2.2.2.2.2.2.2.2.2.2.2.1, h.lay.2.2.2.2.2.2.2.2.2.2.2.2.2.2.2.2.2.2.2.2.2.1, h.lay.2.2.2.2.2.2.2.2.2.2.2.2.2.2.2.2.2.2.2.2.2.2.1, h.lay.2.2.2.2.2.2.2.2.2.2.2.2.2.2.2.2.2.2.2.2.2.2.2.1, h.lay.2.2.2.2.2.2.2.2.2.2.2.2.2.2.2.2.2.2.2.2.2.2.2.2.1, h.lay.2.2.2.2.2.2.2.2.2.2.2.2.2.2.2.2.2.2.2.2.2.2.2.2.2.1, h.lay.2.2.2.2.2.2.2.2.2.2.2.2.2.2.2.2.2.2.2.2.2.2.2.2.2.2.1, h.lay.2.2.2.2.2.2.2.2.2.2.2.2.2.2.2.2.2.2.2.2.2.2.2.2.2.2.2.1, h.lay.2.2.2.2.2.2.2.2.2.2.2.2.2.2.2.2.2.2.2.2.2.2.2.2.2.2.2.2.1, h.lay.2.2.2.2.2.2.2.2.2.2.2.2.2.2.2.2.2.2.2.2.2.2.2.2.2.2.2.2.2.1, h.lay.2.2.2.2.2.2.2.2.2.2.2.2.2.2.2.2.2.2.2.2.2.2.2.2.2.2.2.2.2.2.1, h.lay.2.2.2.2.2.2.2.2.2.2.2.2.2.2.2.2.2.2.2.2.2.2.2.2.2.2.2.2.2.2.2.1, h.lay.2.2.2.2.2.2.2.2.2.2.2.2.2.2.2.2.2.2.2.2.2.2.2.2.2.2.2.2.2.2.2.2.1, h.lay.2.2.2.2.2.2.2.2.2.2.2.2.2.2.2.2.2.2.2.2.2.2.2.2.2.2.2.2.2.2.2.2.2.1, h.lay.2.2.2.2.2.2.2.2.2.2.2.2.2.2.2.2.2.2.2.2.2.2.2.2.2.2.2.2.2.2.2.2.2.2.1, h.lay.2.2.2.2.2.2.2.2.2.2.2.2.2.2.2.2.2.2.2.2.2.2.2.2.2.2.2.2.2.2.2.2.2.2.2.1, h.lay.2.2.2.2.2.2.2.2.2.2.2.2.2.2.2.2.2.2.2.2.2.2.2.2.2.2.2.2.2.2.2.2.2.2.2.2.1, h.lay.2.2.2.2.2.2.2.2.2.2.2.2.2.2.2.2.2.2.2.2.2.2.2.2.2.2.2.2.2.2.2.2.2.2.2.2.2.1, h.lay.2.2.2.2.2.2.2.2.2.2.2.2.2.2.2.2.2.2.2.2.2.2.2.2.2.2.2.2.2.2.2.2.2.2.2.2.2.2.1, h.lay.2.2.2.2.2.2.2.2.2.2.2.2.2.2.2.2.2.2.2.2.2.2.2.2.2.2.2.2.2.2.2.2.2.2.2.2.2.2.2, h.nP, e, hb, b, kc, k1, ep, h.nN, g', nI_1]
      · have e2 : stepP A p = meetA A p := by unfold stepP; rw [if_neg (by rw [b]; decide), if_neg g]
        obtain ⟨H1, f1, g1, hm⟩ := w_meet (S := S) (d := d) h w hk (show p < A.P by omega) (by omega)
        obtain ⟨H2, r1, r2, r3⟩ := lp_gday (nn := nn) (ii := ii) hk c (p + 1) (meetA A p) H1 g1 (w.meet (by omega) (by omega)) (by rw [(meet_sm A p).P]; omega)
        refine ⟨H2, f1.trans r1, by rw [daysL, e2]; exact r2, fun Q => ?_⟩
        have g' : ¬ nI A.N ≤ nI (pl A p) := nI_ge (by omega) (by omega)
        rw [(meet_sm A p).P] at r3
        rw [sX3_goDays_9, ← r3]
        simp only [sX3_goDays_0, sX3_goDays_1, sX3_goDays_3, sX3_goDays_4, sX3_goDays_7, sX3_goDays_65 (st := []), sX3_goDays_8, sX3_goDays_10, sX3_goDays_11, sX3_goDays_14, sX3_goDays_17, sX3_goDays_18, sX3_goDays_50, sX3_goDays_19 (st := []), sX3_goDays_51, sX3_goDays_22, sX3_goDays_54, sX3_goDays_25, sX3_goDays_43, sX3_goDays_55, sX3_goDays_26, sX3_goDays_46, sX3_goDays_56, sX3_goDays_29, sX3_goDays_59, sX3_goDays_30, sX3_goDays_62, sX3_goDays_31, sX3_goDays_32, sX3_goDays_35, sX3_goDays_38, sX3_goDays_39, sX3_goDays_40 (st := []), inb, nz_3, nz_4, nz_6, nz_8, nz_10, nz_100, nz_300, pushr_s, pushr_n, rv_s, rv_n, kd_sI, kd_sR, kd_sJ, sz_sI, sz_sR, sz_sJ, aR_sI, aJ_sI, aI_sR, aI_sJ, not_false_eq_true, true_and, and_true, true_or, or_true, or_false, false_or, eq_self, ite_true, ite_false, if_true, if_false, h.lay.1, h.lay.2.1, h.lay.2.2.1, h.lay.2.2.2.1, h.lay.2.2.2.2.1, h.lay.2.2.2.2.2.1, h.lay.2.2.2.2.2.2.1, h.lay.2.2.2.2.2.2.2.1, h.lay.2.2.2.2.2.2.2.2.1, h.lay.2.2.2.2.2.2.2.2.2.1, h.lay.2.2.2.2.2.2.2.2.2.2.1, h.lay.2.2.2.2.2.2.2.2.2.2.2.1, h.lay.2.2.2.2.2.2.2.2.2.2.2.2.1, h.lay.2.2.2.2.2.2.2.2.2.2.2.2.2.1, h.lay.2.2.2.2.2.2.2.2.2.2.2.2.2.2.1, h.lay.2.2.2.2.2.2.2.2.2.2.2.2.2.2.2.1, h.lay.2.2.2.2.2.2.2.2.2.2.2.2.2.2.2.2.1, h.lay.2.2.2.2.2.2.2.2.2.2.2.2.2.2.2.2.2.1, h.lay.2.2.2.2.2.2.2.2.2.2.2.2.2.2.2.2.2.2.1, h.lay.2.2.2.2.2.2.2.2.2.2.2.2.2.2.2.2.2.2.2.1, h.lay.2.2.2.2.2.2.2.2.2.2.2.2.2.2.2.2.2.2.2.2.1, h.lay.2.2.2.2.2.2.2.2.2.2.2.2.2.2.2.2.2.2.2.2.2.1, h.lay.2.2.2.2.2.2.2.2.2.2.2.2.2.2.2.2.2.2.2.2.2.2.1, h.lay.2.2.2.2.2.2.2.2.2.2.2.2.2.2.2.2.2.2.2.2.2.2.2.1, h.lay.2.2.2.2.2.2.2.2.2.2.2.2.2.2.2.2.2.2.2.2.2.2.2.2.1, h.lay.2.2.2.2.2.2.2.2.2.2.2.2.2.2.2.2.2.2.2.2.2.2.2.2.2.1, h.lay.2.2.2.2.2.2.2.2.2.2.2.2.2.2.2.2.2.2.2.2.2.2.2.2.2.2.1, h.lay.2.2.2.2.2.2.2.2.2.2.2.2.2.2.2.2.2.2.2.2.2.2.2.2.2.2.2.1, h.lay.2.2.2.2.2.2.2.2.2.2.2.2.2.2.2.2.2.2.2.2.2.2.2.2.2.2.2.2.1, h.lay.2.2.2.2.2.2.2.2.2.2.2.2.2.2.2.2.2.2.2.2.2.2.2.2.2.2.2.2.2.1, h.lay.2.2.2.2.2.2.2.2.2.2.2.2.2.2.2.2.2.2.2.2.2.2.2.2.2.2.2.2.2.2.1, h.lay.2.2.2.2.2.2.2.2.2.2.2.2.2.2.2.2.2.2.2.2.2.2.2.2.2.2.2.2.2.2.2.1, h.lay.2.2.2.2.2.2.2.2.2.2.2.2.2.2.2.2.2.2.2.2.2.2.2.2.2.2.2.2.2.2.2.2.1, h.lay.2.2.2.2.2.2.2.2.2.2.2.2.2.2.2.2.2.2.2.2.2.2.2.2.2.2.2.2.2.2.2.2.2.1, h.lay.2.2.2.2.2.2.2.2.2.2.2.2.2.2.2.2.2.2.2.2.2.2.2.2.2.2.2.2.2.2.2.2.2.2.1, h.lay.2.2.2.2.2.2.2.2.2.2.2.2.2.2.2.2.2.2.2.2.2.2.2.2.2.2.2.2.2.2.2.2.2.2.2.1, h.lay.2.2.2.2.2.2.2.2.2.2.2.2.2.2.2.2.2.2.2.2.2.2.2.2.2.2.2.2.2.2.2.2.2.2.2.2.1, h.lay.2.2.2.2.2.2.2.2.2.2.2.2.2.2.2.2.2.2.2.2.2.2.2.2.2.2.2.2.2.2.2.2.2.2.2.2.2.1, h.lay.2.2.2.2.2.2.2.2.2.2.2.2.2.2.2.2.2.2.2.2.2.2.2.2.2.2.2.2.2.2.2.2.2.2.2.2.2.2.1, h.lay.2.2.2.2.2.2.2.2.2.2.2.2.2.2.2.2.2.2.2.2.2.2.2.2.2.2.2.2.2.2.2.2.2.2.2.2.2.2.2, h.nP, e, hb, b, kc, k1, ep, h.nN, g', hm, nI_1]
    · have e2 : stepP A p = A := by unfold stepP; rw [if_pos b]
      obtain ⟨H2, r1, r2, r3⟩ := lp_gday (nn := nn) (ii := ii) hk c (p + 1) A H h w (by omega)
      refine ⟨H2, r1, by rw [daysL, e2]; exact r2, fun Q => ?_⟩
      rw [sX3_goDays_9, ← r3]
      simp only [sX3_goDays_0, sX3_goDays_1, sX3_goDays_3, sX3_goDays_4, sX3_goDays_7, sX3_goDays_65 (st := []), sX3_goDays_8, sX3_goDays_10, sX3_goDays_11, sX3_goDays_14, sX3_goDays_17, sX3_goDays_18, sX3_goDays_50, sX3_goDays_19 (st := []), sX3_goDays_51, sX3_goDays_22, sX3_goDays_54, sX3_goDays_25, sX3_goDays_43, sX3_goDays_55, sX3_goDays_26, sX3_goDays_46, sX3_goDays_56, sX3_goDays_29, sX3_goDays_59, sX3_goDays_30, sX3_goDays_62, sX3_goDays_31, sX3_goDays_32, sX3_goDays_35, sX3_goDays_38, sX3_goDays_39, sX3_goDays_40 (st := []), inb, nz_3, nz_4, nz_6, nz_8, nz_10, nz_100, nz_300, pushr_s, pushr_n, rv_s, rv_n, kd_sI, kd_sR, kd_sJ, sz_sI, sz_sR, sz_sJ, aR_sI, aJ_sI, aI_sR, aI_sJ, not_false_eq_true, true_and, and_true, true_or, or_true, or_false, false_or, eq_self, ite_true, ite_false, if_true, if_false, h.lay.1, h.lay.2.1, h.lay.2.2.1, h.lay.2.2.2.1, h.lay.2.2.2.2.1, h.lay.2.2.2.2.2.1, h.lay.2.2.2.2.2.2.1, h.lay.2.2.2.2.2.2.2.1, h.lay.2.2.2.2.2.2.2.2.1, h.lay.2.2.2.2.2.2.2.2.2.1, h.lay.2.2.2.2.2.2.2.2.2.2.1, h.lay.2.2.2.2.2.2.2.2.2.2.2.1, h.lay.2.2.2.2.2.2.2.2.2.2.2.2.1, h.lay.2.2.2.2.2.2.2.2.2.2.2.2.2.1, h.lay.2.2.2.2.2.2.2.2.2.2.2.2.2.2.1, h.lay.2.2.2.2.2.2.2.2.2.2.2.2.2.2.2.1, h.lay.2.2.2.2.2.2.2.2.2.2.2.2.2.2.2.2.1, h.lay.2.2.2.2.2.2.2.2.2.2.2.2.2.2.2.2.2.1, h.lay.2.2.2.2.2.2.2.2.2.2.2.2.2.2.2.2.2.2.1, h.lay.2.2.2.2.2.2.2.2.2.2.2.2.2.2.2.2.2.2.2.1, h.lay.2.2.2.2.2.2.2.2.2.2.2.2.2.2.2.2.2.2.2.2.1, h.lay.2.2.2.2.2.2.2.2.2.2.2.2.2.2.2.2.2.2.2.2.2.1, h.lay.2.2.2.2.2.2.2.2.2.2.2.2.2.2.2.2.2.2.2.2.2.2.1, h.lay.2.2.2.2.2.2.2.2.2.2.2.2.2.2.2.2.2.2.2.2.2.2.2.1, h.lay.2.2.2.2.2.2.2.2.2.2.2.2.2.2.2.2.2.2.2.2.2.2.2.2.1, h.lay.2.2.2.2.2.2.2.2.2.2.2.2.2.2.2.2.2.2.2.2.2.2.2.2.2.1, h.lay.2.2.2.2.2.2.2.2.2.2.2.2.2.2.2.2.2.2.2.2.2.2.2.2.2.2.1, h.lay.2.2.2.2.2.2.2.2.2.2.2.2.2.2.2.2.2.2.2.2.2.2.2.2.2.2.2.1, h.lay.2.2.2.2.2.2.2.2.2.2.2.2.2.2.2.2.2.2.2.2.2.2.2.2.2.2.2.2.1, h.lay.2.2.2.2.2.2.2.2.2.2.2.2.2.2.2.2.2.2.2.2.2.2.2.2.2.2.2.2.2.1, h.lay.2.2.2.2.2.2.2.2.2.2.2.2.2.2.2.2.2.2.2.2.2.2.2.2.2.2.2.2.2.2.1, h.lay.2.2.2.2.2.2.2.2.2.2.2.2.2.2.2.2.2.2.2.2.2.2.2.2.2.2.2.2.2.2.2.1, h.lay.2.2.2.2.2.2.2.2.2.2.2.2.2.2.2.2.2.2.2.2.2.2.2.2.2.2.2.2.2.2.2.2.1, h.lay.2.2.2.2.2.2.2.2.2.2.2.2.2.2.2.2.2.2.2.2.2.2.2.2.2.2.2.2.2.2.2.2.2.1, h.lay.2.2.2.2.2.2.2.2.2.2.2.2.2.2.2.2.2.2.2.2.2.2.2.2.2.2.2.2.2.2.2.2.2.2.1, h.lay.2.2.2.2.2.2.2.2.2.2.2.2.2.2.2.2.2.2.2.2.2.2.2.2.2.2.2.2.2.2.2.2.2.2.2.1, h.lay.2.2.2.2.2.2.2.2.2.2.2.2.2.2.2.2.2.2.2.2.2.2.2.2.2.2.2.2.2.2.2.2.2.2.2.2.1, h.lay.2.2.2.2.2.2.2.2.2.2.2.2.2.2.2.2.2.2.2.2.2.2.2.2.2.2.2.2.2.2.2.2.2.2.2.2.2.1, h.lay.2.2.2.2.2.2.2.2.2.2.2.2.2.2.2.2.2.2.2.2.2.2.2.2.2.2.2.2.2.2.2.2.2.2.2.2.2.2.1, h.lay.2.2.2.2.2.2.2.2.2.2.2.2.2.2.2.2.2.2.2.2.2.2.2.2.2.2.2.2.2.2.2.2.2.2.2.2.2.2.2, h.nP, e, hb, b, kc, k1, nz_1, nI_1]
theorem lp_gdays {n : Nat} (hk : k < 60) (hn : n < 2 ^ 31) : ∀ (c i : Nat) (A : AS) (H : AH), StA H k A → Wf A → i + c = n → A.D + c < 20000 → ∃ H', Fr (jGo k) H H' ∧ StA H' k (daysA c A) ∧ ∀ Q l3, Wp S (d + 5) 36 2 [.ref k, .int (nI n), .int (nI i), l3] [] H Q = Q none H'
  | 0, i, A, H, h, w, hc, hD => by
    have e : nI n ≤ nI i := nI_le (by omega) (by omega)
    refine ⟨H, Fr.refl _ _, h, fun Q l3 => ?_⟩
    rw [sX3_goDays_2]
    simp only [sX3_goDays_0, sX3_goDays_1, sX3_goDays_3, sX3_goDays_4, sX3_goDays_7, sX3_goDays_65 (st := []), sX3_goDays_8, sX3_goDays_10, sX3_goDays_11, sX3_goDays_14, sX3_goDays_17, sX3_goDays_49, sX3_goDays_18, sX3_goDays_50, sX3_goDays_19 (st := []), sX3_goDays_51, sX3_goDays_22, sX3_goDays_54, sX3_goDays_25, sX3_goDays_43, sX3_goDays_55, sX3_goDays_26, sX3_goDays_46, sX3_goDays_56, sX3_goDays_29, sX3_goDays_59, sX3_goDays_30, sX3_goDays_62, sX3_goDays_31, sX3_goDays_32, sX3_goDays_35, sX3_goDays_38, sX3_goDays_39, sX3_goDays_40 (st := []), inb, nz_3, nz_4, nz_6, nz_8, nz_10, nz_100, nz_300, pushr_s, pushr_n, rv_s, rv_n, kd_sI, kd_sR, kd_sJ, sz_sI, sz_sR, sz_sJ, aR_sI, aJ_sI, aI_sR, aI_sJ, not_false_eq_true, true_and, and_true, true_or, or_true, or_false, false_or, eq_self, ite_true, ite_false, if_true, if_false, e]
  | c + 1, i, A, H, h, w, hc, hD => by
    have e : ¬ nI n ≤ nI i := nI_ge (by omega) (by omega)
    obtain ⟨H1, f1, g1, r1⟩ := lp_gday (S := S) (d := d) (nn := nI n) (ii := nI i) hk A.P 0 A H h w (by omega)
    rw [nI_0] at r1
    have s := daysL_sm A.P 0 A
    have dd : aI H1 k 0 = nI A.D := g1.nD.trans (by rw [s.D])
    have f2 : Fr (jGo k) H1 (sI H1 k 0 (nI (A.D + 1))) := Fr.wI _ (Or.inl ⟨rfl, Or.inl rfl⟩)
    have g2 : StA (sI H1 k 0 (nI (A.D + 1))) k (dayA A) := by
      refine g1.jgo hk f2 (if_pos ⟨rfl, rfl⟩) ?_ ?_ ?_ ?_
      · exact (if_neg (by omega)).trans (g1.nO.trans (by rw [s.O]))
      · exact (if_neg (by omega)).trans g1.nB
      · exact fun i hi => (if_neg (by omega)).trans (g1.eM i hi)
      · exact fun i hi => (if_neg (by omega)).trans (g1.eW i hi)
    obtain ⟨H2, f3, g3, r3⟩ := lp_gdays hk hn c (i + 1) (dayA A) _ g2 (w.day (by omega)) (by omega) (by rw [(dayA_eq A).2.2.1]; omega)
    refine ⟨H2, (f1.trans f2).trans f3, g3, fun Q l3 => ?_⟩
    rw [sX3_goDays_2]
    simp only [sX3_goDays_0, sX3_goDays_1, sX3_goDays_3, sX3_goDays_4, sX3_goDays_7, sX3_goDays_65 (st := []), sX3_goDays_8, sX3_goDays_10, sX3_goDays_11, sX3_goDays_14, sX3_goDays_17, sX3_goDays_18, sX3_goDays_50, sX3_goDays_19 (st := []), sX3_goDays_51, sX3_goDays_22, sX3_goDays_54, sX3_goDays_25, sX3_goDays_43, sX3_goDays_55, sX3_goDays_26, sX3_goDays_46, sX3_goDays_56, sX3_goDays_29, sX3_goDays_59, sX3_goDays_30, sX3_goDays_62, sX3_goDays_31, sX3_goDays_32, sX3_goDays_35, sX3_goDays_38, sX3_goDays_39, sX3_goDays_40 (st := []), inb, nz_3, nz_4, nz_6, nz_8, nz_10, nz_100, nz_300, pushr_s, pushr_n, rv_s, rv_n, kd_sI, kd_sR, kd_sJ, sz_sI, sz_sR, sz_sJ, aR_sI, aJ_sI, aI_sR, aI_sJ, not_false_eq_true, true_and, and_true, true_or, or_true, or_false, false_or, eq_self, ite_true, ite_false, if_true, if_false, e, r1]
    rw [sX3_goDays_49 (st := [])]
    simp only [sX3_goDays_0, sX3_goDays_1, sX3_goDays_3, sX3_goDays_4, sX3_goDays_7, sX3_goDays_65 (st := []), sX3_goDays_8, sX3_goDays_10, sX3_goDays_11, sX3_goDays_14, sX3_goDays_17, sX3_goDays_49, sX3_goDays_18, sX3_goDays_50, sX3_goDays_19 (st := []), sX3_goDays_51, sX3_goDays_22, sX3_goDays_54, sX3_goDays_25, sX3_goDays_43, sX3_goDays_55, sX3_goDays_26, sX3_goDays_46, sX3_goDays_56, sX3_goDays_29, sX3_goDays_59, sX3_goDays_30, sX3_goDays_62, sX3_goDays_31, sX3_goDays_32, sX3_goDays_35, sX3_goDays_38, sX3_goDays_39, sX3_goDays_40 (st := []), inb, nz_3, nz_4, nz_6, nz_8, nz_10, nz_100, nz_300, pushr_s, pushr_n, rv_s, rv_n, kd_sI, kd_sR, kd_sJ, sz_sI, sz_sR, sz_sJ, aR_sI, aJ_sI, aI_sR, aI_sJ, not_false_eq_true, true_and, and_true, true_or, or_true, or_false, false_or, eq_self, ite_true, ite_false, if_true, if_false, g1.lay.1, dd, nI_1, r3]
theorem w_goDays {n : Nat} (h : StA H k A) (w : Wf A) (hk : k < 60) (hn : A.D + n < 20000) : ∃ H', Fr (jGo k) H H' ∧ StA H' k (daysA n A) ∧ ∀ Q, Wp S (d + 5) 36 0 [.ref k, .int (nI n), hole, hole] [] H Q = Q none H' := by
  obtain ⟨H1, f1, g1, r1⟩ := lp_gdays (S := S) (d := d) (n := n) hk (by omega) n 0 A H h w (by omega) hn
  refine ⟨H1, f1, g1, fun Q => ?_⟩
  have r1 := r1 Q
  rw [nI_0] at r1
  simp only [sX3_goDays_0, sX3_goDays_1, sX3_goDays_3, sX3_goDays_4, sX3_goDays_7, sX3_goDays_65 (st := []), sX3_goDays_8, sX3_goDays_10, sX3_goDays_11, sX3_goDays_14, sX3_goDays_17, sX3_goDays_49, sX3_goDays_18, sX3_goDays_50, sX3_goDays_19 (st := []), sX3_goDays_51, sX3_goDays_22, sX3_goDays_54, sX3_goDays_25, sX3_goDays_43, sX3_goDays_55, sX3_goDays_26, sX3_goDays_46, sX3_goDays_56, sX3_goDays_29, sX3_goDays_59, sX3_goDays_30, sX3_goDays_62, sX3_goDays_31, sX3_goDays_32, sX3_goDays_35, sX3_goDays_38, sX3_goDays_39, sX3_goDays_40 (st := []), inb, nz_3, nz_4, nz_6, nz_8, nz_10, nz_100, nz_300, pushr_s, pushr_n, rv_s, rv_n, kd_sI, kd_sR, kd_sJ, sz_sI, sz_sR, sz_sJ, aR_sI, aJ_sI, aI_sR, aI_sJ, not_false_eq_true, true_and, and_true, true_or, or_true, or_false, false_or, eq_self, ite_true, ite_false, if_true, if_false, r1]
end STAGE
