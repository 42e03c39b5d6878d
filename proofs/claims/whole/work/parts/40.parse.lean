-- 40: texts: a pure picture of how a WAY is read by the component, and of the reference's stack
abbrev Txt : Type := Nat × (Nat → Int32)
def nx (t : Txt) (p : Nat) : Int32 := if p < t.1 then t.2 p else -1
def dig (x : Int32) : Option Nat := if x < 48 then none else if 57 < x then none else some (ix (x - 48))
def numP (t : Txt) (p : Nat) : Nat × Option Nat := match dig (nx t p) with
  | none => (p, none)
  | some a => match dig (nx t (p + 1)) with
    | none => (p + 1, some a)
    | some b => (p + 2, some (10 * a + b))
def let6 (x : Int32) : Option Nat := if x = 108 then some 0 else if x = 107 then some 1 else if x = 118 then some 2 else if x = 109 then some 3 else if x = 102 then some 4 else if x = 100 then some 5 else none
def rel3 (x : Int32) : Option Nat := if x = 60 then some 0 else if x = 61 then some 1 else if x = 62 then some 2 else none
def tstP (t : Txt) (p : Nat) : Nat × Option Nat := match let6 (nx t p) with
  | none => (p, none)
  | some l => match rel3 (nx t (p + 1)) with
    | none => (p + 1, none)
    | some r => match numP t (p + 2) with
      | (q, none) => (q, none)
      | (q, some n) => (q, some ((l * 3 + r) * 100 + n))
def RD : Type := (Nat) × (Bool) × (Int32) × (Nat) × (Nat → Int32)
def RD.p (A : RD) : Nat := A.1
def RD.w (A : RD) : Bool := A.2.1
def RD.m (A : RD) : Int32 := A.2.2.1
def RD.c (A : RD) : Nat := A.2.2.2.1
def RD.f (A : RD) : Nat → Int32 := A.2.2.2.2
def RD.setp (A : RD) (x : Nat) : RD := (x, A.2.1, A.2.2.1, A.2.2.2.1, A.2.2.2.2)
def RD.setw (A : RD) (x : Bool) : RD := (A.1, x, A.2.2.1, A.2.2.2.1, A.2.2.2.2)
def RD.setm (A : RD) (x : Int32) : RD := (A.1, A.2.1, x, A.2.2.2.1, A.2.2.2.2)
def RD.setc (A : RD) (x : Nat) : RD := (A.1, A.2.1, A.2.2.1, x, A.2.2.2.2)
def RD.setf (A : RD) (x : Nat → Int32) : RD := (A.1, A.2.1, A.2.2.1, A.2.2.2.1, x)
def nxR (t : Txt) (s : RD) : Int32 := if s.w = true then -1 else nx t s.p
def signR (t : Txt) (x : Int32) (s : RD) : RD := if nxR t s = x then s.setp (s.p + 1) else s.setw true
def oneL (x : Int32) : List Int32 → Nat → Option Nat
  | [], _ => none
  | a :: r, i => if a = x then some i else oneL x r (i + 1)
def oneR (t : Txt) (l : List Int32) (s : RD) : Nat × RD := match oneL (nxR t s) l 0 with
  | some i => (i, s.setp (s.p + 1))
  | none => (0, s.setw true)
def dgL : List Int32 := [48, 49, 50, 51, 52, 53, 54, 55, 56, 57]
def lkL : List Int32 := [108, 107, 118, 109, 102, 100]
def rlL : List Int32 := [60, 61, 62]
def numR (t : Txt) (s : RD) : Nat × RD := match dig (nxR t (oneR t dgL s).2) with
  | none => oneR t dgL s
  | some b => ((oneR t dgL s).1 * 10 + b, (oneR t dgL s).2.setp ((oneR t dgL s).2.p + 1))
def addR (x : Nat) (s : RD) : RD := if s.w = true then s else if 100 ≤ s.c then s else (s.setc (s.c + 1)).setf (upd s.f s.c (nI x))
def testR (t : Txt) (s : RD) : RD := addR (((oneR t lkL s).1 * 3 + (oneR t rlL (oneR t lkL s).2).1) * 100 + (numR t (oneR t rlL (oneR t lkL s).2).2).1) (numR t (oneR t rlL (oneR t lkL s).2).2).2
def bothL (t : Txt) (F : RD → RD) : Nat → RD → RD
  | 0, s => s
  | n + 1, s => if nxR t s = 38 then bothL t F n (addR 1800 (F (signR t 38 s))) else s
def bothG (t : Txt) (F : RD → RD) (s : RD) : RD := bothL t F 100 (F s)
def eitherL (t : Txt) (F : RD → RD) : Nat → RD → RD
  | 0, s => s
  | n + 1, s => if nxR t s = 124 then eitherL t F n (addR 2100 (bothG t F (signR t 124 s))) else s
def eitherG (t : Txt) (F : RD → RD) (s : RD) : RD := eitherL t F 100 (bothG t F s)
def partR (t : Txt) : Nat → RD → RD
  | 0, s => if nxR t s = 33 then s.setw true else if nxR t s = 40 then s.setw true else testR t s
  | k + 1, s => if nxR t s = 33 then addR 2400 (partR t k (signR t 33 s)) else if nxR t s = 40 then signR t 41 (eitherG t (partR t k) (signR t 40 s)) else testR t s
/-- the reference's stack, the last one first -/
def opn : List Int32 → Nat
  | [] => 0
  | x :: W => (if x = 33 then 1 else if x = 40 then 1 else 0) + opn W
def wholeP : List Int32 → List Nat → List Int32 × List Nat
  | [], T => ([], T)
  | x :: W, T => if x = 33 then wholeP W (T ++ [2400]) else (x :: W, T)
def settleP (s : Int32) : List Int32 → List Nat → List Int32 × List Nat
  | [], T => ([], T)
  | x :: W, T => if x = 38 then settleP s W (T ++ [1800]) else if x = 124 then (if s = 38 then (x :: W, T) else settleP s W (T ++ [2100])) else (x :: W, T)
def runE (t : Txt) : Nat → Bool → Nat → List Int32 → List Nat → Nat × Option (List Nat)
  | 0, _, p, _, _ => (p, none)
  | n + 1, true, p, W, T =>
    if nx t p = 33 ∨ nx t p = 40 then (if opn W = 4 then (p, none) else runE t n true (p + 1) (nx t p :: W) T)
    else match tstP t p with
      | (q, none) => (q, none)
      | (q, some x) => runE t n false q (wholeP W (T ++ [x])).1 (wholeP W (T ++ [x])).2
  | n + 1, false, p, W, T =>
    if nx t p = 38 ∨ nx t p = 124 then runE t n true (p + 1) (nx t p :: (settleP (nx t p) W T).1) (settleP (nx t p) W T).2
    else if (settleP 124 W T).1.isEmpty = true then (p, some (settleP 124 W T).2)
    else if nx t p = 41 then runE t n false (p + 1) (wholeP (settleP 124 W T).1.tail (settleP 124 W T).2).1 (wholeP (settleP 124 W T).1.tail (settleP 124 W T).2).2
    else (p, none)
theorem nx_lt {t : Txt} {p : Nat} (h : ¬ nx t p = -1) : p < t.1 := Decidable.byContradiction fun z => h (if_neg z)
theorem dig_ok {x : Int32} {a : Nat} (h : dig x = some a) : a ≤ 9 ∧ ¬ x = -1 ∧ x = nI (48 + a) := by
  unfold dig at h
  by_cases h1 : x < 48
  · rw [if_pos h1] at h; cases h
  · rw [if_neg h1] at h
    by_cases h2 : 57 < x
    · rw [if_pos h2] at h; cases h
    · rw [if_neg h2] at h
      have h0 : ¬ x < 0 := fun z => h1 (Int32.lt_trans z (by decide +kernel))
      obtain ⟨j, hj, rfl⟩ := nI_of2 (M := 57) (n := 57) (by decide +kernel) h0 (Int32.not_lt.mp h2)
      have h3 : 48 ≤ j := by
        refine Nat.le_of_not_lt fun z => h1 ?_
        exact nI_lt (b := 48) z (by decide)
      have h4 : nI j - 48 = nI (j - 48) := pk_sub (a := j) (b := 48) h3
      rw [h4] at h
      have h5 : j - 48 = a := (ix_nI (by omega)).symm.trans (Option.some.inj h)
      refine ⟨by omega, fun z => ?_, congrArg nI (by omega)⟩
      exact h0 (by rw [z]; decide +kernel)
theorem dig_m1 : dig (-1) = none := by decide +kernel
theorem let6_m1 : let6 (-1) = none := by decide +kernel
theorem rel3_m1 : rel3 (-1) = none := by decide +kernel
theorem let6_ok {x : Int32} {a : Nat} (h : let6 x = some a) : a ≤ 5 ∧ ¬ x = -1 := by
  refine ⟨?_, fun z => by rw [z, let6_m1] at h; cases h⟩
  unfold let6 at h
  repeat' split at h
  all_goals first | (cases h; done) | (have := Option.some.inj h; omega)
theorem rel3_ok {x : Int32} {a : Nat} (h : rel3 x = some a) : a ≤ 2 ∧ ¬ x = -1 := by
  refine ⟨?_, fun z => by rw [z, rel3_m1] at h; cases h⟩
  unfold rel3 at h
  repeat' split at h
  all_goals first | (cases h; done) | (have := Option.some.inj h; omega)
theorem numP_ok {t : Txt} {p q n : Nat} (h : numP t p = (q, some n)) : n ≤ 99 ∧ p + 1 ≤ q ∧ q ≤ t.1 := by
  unfold numP at h
  cases h1 : dig (nx t p) with
  | none => rw [h1] at h; cases h
  | some a =>
    rw [h1] at h
    obtain ⟨a9, a1, -⟩ := dig_ok h1
    have := nx_lt a1
    cases h2 : dig (nx t (p + 1)) with
    | none => rw [h2] at h; cases h; omega
    | some b =>
      rw [h2] at h
      obtain ⟨b9, b1, -⟩ := dig_ok h2
      have := nx_lt b1
      cases h
      omega
theorem tstP_ok {t : Txt} {p q x : Nat} (h : tstP t p = (q, some x)) : x < 1800 ∧ p + 3 ≤ q ∧ q ≤ t.1 := by
  unfold tstP at h
  cases h1 : let6 (nx t p) with
  | none => rw [h1] at h; cases h
  | some l =>
    rw [h1] at h
    cases h2 : rel3 (nx t (p + 1)) with
    | none => rw [h2] at h; cases h
    | some r =>
      rw [h2] at h
      have l5 := (let6_ok h1).1
      have r2 := (rel3_ok h2).1
      rcases h3 : numP t (p + 2) with ⟨q2, _ | n⟩
      · rw [h3] at h; cases h
      · rw [h3] at h
        obtain ⟨n9, n1, n2⟩ := numP_ok h3
        cases h
        omega
/-- the component has gone on -/
def appF (f : Nat → Int32) (c : Nat) : List Nat → Nat → Int32
  | [] => f
  | u :: U => appF (upd f c (nI u)) (c + 1) U
theorem appF_app (U V : List Nat) : ∀ (f : Nat → Int32) (c : Nat), appF f c (U ++ V) = appF (appF f c U) (c + U.length) V := by
  induction U with
  | nil => intro f c; rfl
  | cons u U ih =>
    intro f c
    show appF (upd f c (nI u)) (c + 1) (U ++ V) = appF (appF (upd f c (nI u)) (c + 1) U) (c + (U.length + 1)) V
    rw [ih, show c + 1 + U.length = c + (U.length + 1) by omega]
theorem appF_lt (U : List Nat) : ∀ (f : Nat → Int32) (c i : Nat), i < c → appF f c U i = f i := by
  induction U with
  | nil => intro f c i h; rfl
  | cons u U ih =>
    intro f c i h
    show appF (upd f c (nI u)) (c + 1) U i = f i
    rw [ih _ _ _ (by omega), pk_un (by omega)]
theorem appF_at (U : List Nat) : ∀ (f : Nat → Int32) (c j : Nat), j < U.length → appF f c U (c + j) = nI (U.getD j 0) := by
  induction U with
  | nil => intro f c j h; exact absurd h (Nat.not_lt_zero _)
  | cons u U ih =>
    intro f c j h
    show appF (upd f c (nI u)) (c + 1) U (c + j) = _
    cases j with
    | zero => rw [appF_lt _ _ _ _ (by omega), Nat.add_zero, pk_us]; rfl
    | succ j =>
      rw [show c + (j + 1) = c + 1 + j by omega, ih _ _ _ (Nat.lt_of_succ_lt_succ h)]
      rfl
def adv (s : RD) (q : Nat) (U : List Nat) : RD := (q, s.w, s.m, s.c + U.length, appF s.f s.c U)
theorem adv_adv (s : RD) (q r : Nat) (U V : List Nat) : adv (adv s q U) r V = adv s r (U ++ V) := by
  show (r, s.w, s.m, s.c + U.length + V.length, appF (appF s.f s.c U) (s.c + U.length) V) = (r, s.w, s.m, s.c + (U ++ V).length, appF s.f s.c (U ++ V))
  rw [appF_app, List.length_append, Nat.add_assoc]
theorem adv_nil (s : RD) (q : Nat) : s.setp q = adv s q [] := rfl
theorem adv_self (s : RD) : s = adv s s.p [] := rfl
def Wr (s : RD) (q : Nat) : Prop := s.w = true ∧ s.p = q
theorem nxR_wr {t : Txt} {s : RD} (h : s.w = true) : nxR t s = -1 := if_pos h
theorem nxR_ok {t : Txt} {s : RD} (h : s.w = false) : nxR t s = nx t s.p := if_neg (by rw [h]; decide)
theorem signR_wr {t : Txt} {x : Int32} {s : RD} {q : Nat} (hx : ¬ (-1 : Int32) = x) (h : Wr s q) : Wr (signR t x s) q := by
  unfold signR
  rw [nxR_wr h.1, if_neg hx]
  exact ⟨rfl, h.2⟩
theorem signR_ok {t : Txt} {x : Int32} {s : RD} (h : s.w = false) (hx : nx t s.p = x) : signR t x s = adv s (s.p + 1) [] := by
  unfold signR
  rw [nxR_ok h, if_pos hx]
  rfl
theorem signR_no {t : Txt} {x : Int32} {s : RD} (h : s.w = false) (hx : ¬ nx t s.p = x) : Wr (signR t x s) s.p := by
  unfold signR
  rw [nxR_ok h, if_neg hx]
  exact ⟨rfl, rfl⟩
theorem addR_wr {x : Nat} {s : RD} {q : Nat} (h : Wr s q) : Wr (addR x s) q := by
  unfold addR
  rw [if_pos h.1]
  exact h
theorem addR_ok {x : Nat} {s : RD} (h : s.w = false) (hc : s.c < 100) : addR x s = adv s s.p [x] := by
  unfold addR
  rw [if_neg (by rw [h]; decide), if_neg (by omega)]
  rfl
theorem oneR_wr {t : Txt} {l : List Int32} {s : RD} {q : Nat} (hl : oneL (-1) l 0 = none) (h : Wr s q) : Wr (oneR t l s).2 q := by
  unfold oneR
  rw [nxR_wr h.1, hl]
  exact ⟨rfl, h.2⟩
theorem dg_m1 : oneL (-1) dgL 0 = none := by decide +kernel
theorem lk_m1 : oneL (-1) lkL 0 = none := by decide +kernel
theorem rl_m1 : oneL (-1) rlL 0 = none := by decide +kernel
theorem numR_wr {t : Txt} {s : RD} {q : Nat} (h : Wr s q) : Wr (numR t s).2 q := by
  have h1 := oneR_wr (t := t) dg_m1 h
  unfold numR
  rw [nxR_wr h1.1, dig_m1]
  exact h1
theorem one_lk (x : Int32) : oneL x lkL 0 = let6 x := by
  unfold let6
  show (if (108 : Int32) = x then some 0 else if (107 : Int32) = x then some 1 else if (118 : Int32) = x then some 2 else if (109 : Int32) = x then some 3 else if (102 : Int32) = x then some 4 else if (100 : Int32) = x then some 5 else none) = _
  simp only [eq_comm]
theorem one_rl (x : Int32) : oneL x rlL 0 = rel3 x := by
  unfold rel3
  show (if (60 : Int32) = x then some 0 else if (61 : Int32) = x then some 1 else if (62 : Int32) = x then some 2 else none) = _
  simp only [eq_comm]
theorem one_dg (x : Int32) : oneL x dgL 0 = dig x := by
  cases hd : dig x with
  | some a =>
    obtain ⟨a9, -, rfl⟩ := dig_ok hd
    exact (show ∀ a, a ≤ 9 → oneL (nI (48 + a)) dgL 0 = some a by decide +kernel) a a9
  | none =>
    have g : ∀ a : Nat, a ≤ 9 → ¬ x = nI (48 + a) := fun a ha e => by
      rw [e] at hd
      exact absurd hd ((show ∀ a, a ≤ 9 → ¬ dig (nI (48 + a)) = none by decide +kernel) a ha)
    show (if (48 : Int32) = x then some 0 else if (49 : Int32) = x then some 1 else if (50 : Int32) = x then some 2 else if (51 : Int32) = x then some 3 else if (52 : Int32) = x then some 4 else if (53 : Int32) = x then some 5 else if (54 : Int32) = x then some 6 else if (55 : Int32) = x then some 7 else if (56 : Int32) = x then some 8 else if (57 : Int32) = x then some 9 else none) = none
    rw [if_neg (fun e => g 0 (by decide) e.symm), if_neg (fun e => g 1 (by decide) e.symm), if_neg (fun e => g 2 (by decide) e.symm), if_neg (fun e => g 3 (by decide) e.symm), if_neg (fun e => g 4 (by decide) e.symm), if_neg (fun e => g 5 (by decide) e.symm), if_neg (fun e => g 6 (by decide) e.symm), if_neg (fun e => g 7 (by decide) e.symm), if_neg (fun e => g 8 (by decide) e.symm), if_neg (fun e => g 9 (by decide) e.symm)]
theorem numR_ok {t : Txt} {s : RD} (h : s.w = false) : (∃ q n, numP t s.p = (q, some n) ∧ numR t s = (n, adv s q [])) ∨ (∃ q, numP t s.p = (q, none) ∧ Wr (numR t s).2 q) := by
  unfold numP numR oneR
  rw [nxR_ok h, one_dg]
  cases h1 : dig (nx t s.p) with
  | none =>
    refine Or.inr ⟨s.p, rfl, ?_⟩
    show Wr (match dig (nxR t (s.setw true)) with | none => (0, s.setw true) | some b => (0 * 10 + b, (s.setw true).setp ((s.setw true).p + 1))).2 s.p
    rw [nxR_wr (s := s.setw true) rfl, dig_m1]
    exact ⟨rfl, rfl⟩
  | some a =>
    refine Or.inl ?_
    have e : nxR t (s.setp (s.p + 1)) = nx t (s.p + 1) := nxR_ok (s := s.setp (s.p + 1)) h
    show ∃ q n, (match dig (nx t (s.p + 1)) with | none => (s.p + 1, some a) | some b => (s.p + 2, some (10 * a + b))) = (q, some n) ∧ (match dig (nxR t (s.setp (s.p + 1))) with | none => (a, s.setp (s.p + 1)) | some b => (a * 10 + b, (s.setp (s.p + 1)).setp ((s.setp (s.p + 1)).p + 1))) = (n, adv s q [])
    rw [e]
    cases h2 : dig (nx t (s.p + 1)) with
    | none => exact ⟨s.p + 1, a, rfl, rfl⟩
    | some b => exact ⟨s.p + 2, 10 * a + b, rfl, by rw [Nat.mul_comm]; rfl⟩
theorem testR_wr {t : Txt} {s : RD} {q : Nat} (h : Wr s q) : Wr (testR t s) q := addR_wr (numR_wr (oneR_wr rl_m1 (oneR_wr lk_m1 h)))
theorem testR_ok {t : Txt} {s : RD} (h : s.w = false) (hc : s.c < 100) : (∃ q x, tstP t s.p = (q, some x) ∧ testR t s = adv s q [x]) ∨ (∃ q, tstP t s.p = (q, none) ∧ Wr (testR t s) q) := by
  unfold tstP
  cases h1 : let6 (nx t s.p) with
  | none =>
    refine Or.inr ⟨s.p, rfl, ?_⟩
    have e1 : oneR t lkL s = (0, s.setw true) := by unfold oneR; rw [nxR_ok h, one_lk, h1]
    unfold testR
    rw [e1]
    exact addR_wr (numR_wr (oneR_wr rl_m1 ⟨rfl, rfl⟩))
  | some l =>
    have e1 : oneR t lkL s = (l, adv s (s.p + 1) []) := by unfold oneR; rw [nxR_ok h, one_lk, h1]; rfl
    have w1 : (adv s (s.p + 1) []).w = false := h
    cases h2 : rel3 (nx t (s.p + 1)) with
    | none =>
      refine Or.inr ⟨s.p + 1, rfl, ?_⟩
      have e2 : oneR t rlL (adv s (s.p + 1) []) = (0, (adv s (s.p + 1) []).setw true) := by unfold oneR; rw [nxR_ok w1, one_rl, show nx t (adv s (s.p + 1) []).p = nx t (s.p + 1) from rfl, h2]
      unfold testR
      rw [e1]
      dsimp only
      rw [e2]
      exact addR_wr (numR_wr ⟨rfl, rfl⟩)
    | some r =>
      have e2 : oneR t rlL (adv s (s.p + 1) []) = (r, adv s (s.p + 2) []) := by unfold oneR; rw [nxR_ok w1, one_rl, show nx t (adv s (s.p + 1) []).p = nx t (s.p + 1) from rfl, h2]; rfl
      have w2 : (adv s (s.p + 2) []).w = false := h
      rcases numR_ok (t := t) w2 with ⟨q, n, n1, n2⟩ | ⟨q, n1, n2⟩
      · refine Or.inl ⟨q, (l * 3 + r) * 100 + n, ?_, ?_⟩
        · show (match numP t (s.p + 2) with | (q, none) => (q, none) | (q, some n) => (q, some ((l * 3 + r) * 100 + n))) = _
          rw [show numP t (s.p + 2) = (q, some n) from n1]
        · unfold testR
          rw [e1]
          dsimp only
          rw [e2]
          dsimp only
          rw [n2]
          dsimp only
          rw [addR_ok (s := adv (adv s (s.p + 2) []) q []) h hc]
          rfl
      · refine Or.inr ⟨q, ?_, ?_⟩
        · show (match numP t (s.p + 2) with | (q, none) => (q, none) | (q, some n) => (q, some ((l * 3 + r) * 100 + n))) = _
          rw [show numP t (s.p + 2) = (q, none) from n1]
        · unfold testR
          rw [e1]
          dsimp only
          rw [e2]
          exact addR_wr n2
