-- 41: the component's reading is a run of the reference's stack
theorem whole_ne {x : Int32} (hx : ¬ x = 33) (W : List Int32) (T : List Nat) : wholeP (x :: W) T = (x :: W, T) := if_neg hx
theorem whole_not (W : List Int32) (T : List Nat) : wholeP (33 :: W) T = wholeP W (T ++ [2400]) := if_pos rfl
theorem settle_and (s : Int32) (W : List Int32) (T : List Nat) : settleP s (38 :: W) T = settleP s W (T ++ [1800]) := if_pos rfl
theorem settle_or {s : Int32} (hs : ¬ s = 38) (W : List Int32) (T : List Nat) : settleP s (124 :: W) T = settleP s W (T ++ [2100]) := by
  show (if (124 : Int32) = 38 then settleP s W (T ++ [1800]) else if (124 : Int32) = 124 then (if s = 38 then (124 :: W, T) else settleP s W (T ++ [2100])) else (124 :: W, T)) = _
  rw [if_neg (by decide +kernel), if_pos rfl, if_neg hs]
theorem settle_br (s : Int32) (W : List Int32) (T : List Nat) : settleP s (40 :: W) T = (40 :: W, T) := by
  unfold settleP
  rw [if_neg (by decide +kernel), if_neg (by decide +kernel)]
theorem settle_or2 (W : List Int32) (T : List Nat) : settleP 38 (124 :: W) T = (124 :: W, T) := by
  unfold settleP
  rw [if_neg (by decide +kernel), if_pos rfl, if_pos rfl]
theorem run_and (t : Txt) (n q : Nat) (W : List Int32) (T : List Nat) : runE t (n + 1) false q (38 :: W) T = runE t (n + 1) false q W (T ++ [1800]) := by
  rw [runE, runE]
  simp only [settle_and]
theorem run_or (t : Txt) (n q : Nat) (W : List Int32) (T : List Nat) (h : ¬ nx t q = 38) : runE t (n + 1) false q (124 :: W) T = runE t (n + 1) false q W (T ++ [2100]) := by
  rw [runE, runE, settle_or h, settle_or (by decide +kernel)]
def NB (W : List Int32) : Prop := W = [] ∨ ∃ x W', W = x :: W' ∧ (x = 40 ∨ x = 124)
def NC (W : List Int32) : Prop := W = [] ∨ ∃ W', W = 40 :: W'
theorem NC.nb {W : List Int32} (h : NC W) : NB W := h.imp_right fun ⟨W', e⟩ => ⟨40, W', e, Or.inl rfl⟩
theorem NB.whole {W : List Int32} (h : NB W) (T : List Nat) : wholeP W T = (W, T) := by
  rcases h with rfl | ⟨x, W', rfl, rfl | rfl⟩
  · rfl
  · exact whole_ne (by decide +kernel) _ _
  · exact whole_ne (by decide +kernel) _ _
theorem NB.sAnd {W : List Int32} (h : NB W) (T : List Nat) : settleP 38 W T = (W, T) := by
  rcases h with rfl | ⟨x, W', rfl, rfl | rfl⟩
  · rfl
  · exact settle_br _ _ _
  · exact settle_or2 _ _
theorem NC.sAll {W : List Int32} (h : NC W) (s : Int32) (T : List Nat) : settleP s W T = (W, T) := by
  rcases h with rfl | ⟨W', rfl⟩
  · rfl
  · exact settle_br _ _ _
def Bad (t : Txt) (k : Nat) (s s2 : RD) (C : List Int32 → Prop) : Prop := ∃ q, Wr s2 q ∧ ∀ W T, opn W + k = 4 → C W → ∃ j, ∀ n, runE t (n + j) true s.p W T = (q, none)
def Pre (t : Txt) (s : RD) : Prop := s.w = false ∧ s.c ≤ s.p ∧ s.p ≤ t.1 ∧ t.1 ≤ 100
def PartO (t : Txt) (k : Nat) (F : RD → RD) : Prop := ∀ s : RD, Pre t s →
  (∃ q U, F s = adv s q U ∧ s.p + U.length + 2 ≤ q ∧ q ≤ t.1 ∧ (∀ e, e + 2 * k < 30 → ∀ R, dpL (U ++ R) e = dpL R (e + 1)) ∧ ∀ W T, opn W + k = 4 → ∃ j, ∀ n, runE t (n + j) true s.p W T = runE t n false q (wholeP W (T ++ U)).1 (wholeP W (T ++ U)).2)
  ∨ Bad t k s (F s) (fun _ => True)
def BothO (t : Txt) (k : Nat) (F : RD → RD) : Prop := ∀ s : RD, Pre t s →
  (∃ q U, F s = adv s q U ∧ s.p + U.length + 2 ≤ q ∧ q ≤ t.1 ∧ ¬ nx t q = 38 ∧ (∀ e, e + 1 + 2 * k < 30 → ∀ R, dpL (U ++ R) e = dpL R (e + 1)) ∧ ∀ W T, opn W + k = 4 → NB W → ∃ j, ∀ n, runE t (n + 1 + j) true s.p W T = runE t (n + 1) false q W (T ++ U))
  ∨ Bad t k s (F s) NB
def EithO (t : Txt) (k : Nat) (F : RD → RD) : Prop := ∀ s : RD, Pre t s →
  (∃ q U, F s = adv s q U ∧ s.p + U.length + 2 ≤ q ∧ q ≤ t.1 ∧ ¬ nx t q = 38 ∧ ¬ nx t q = 124 ∧ (∀ e, e + 2 + 2 * k < 30 → ∀ R, dpL (U ++ R) e = dpL R (e + 1)) ∧ ∀ W T, opn W + k = 4 → NC W → ∃ j, ∀ n, runE t (n + 1 + j) true s.p W T = runE t (n + 1) false q W (T ++ U))
  ∨ Bad t k s (F s) NC
theorem Pre.adv {t : Txt} {s : RD} {q : Nat} {U : List Nat} (h : Pre t s) (h1 : s.p + U.length ≤ q) (h2 : q ≤ t.1) : Pre t (adv s q U) := by
  obtain ⟨a, b, c, e⟩ := h
  refine ⟨a, ?_, h2, e⟩
  show s.c + U.length ≤ q
  omega
theorem adv_p (s : RD) (q : Nat) (U : List Nat) : (adv s q U).p = q := rfl
/-- a joint's own step -/
theorem dp_bin {x : Nat} (hx : x = 1800 ∨ x = 2100) (e : Nat) (he : 1 ≤ e) (R : List Nat) : dpL (x :: R) (e + 1) = dpL R e := by
  show (match dpT x (e + 1) with | some m => dpL R m | none => none) = _
  unfold dpT
  rw [if_pos hx, if_pos (by omega)]
  rfl
theorem dp_not (e : Nat) (he : 1 ≤ e) (R : List Nat) : dpL (2400 :: R) e = dpL R e := by
  show (match dpT 2400 e with | some m => dpL R m | none => none) = _
  unfold dpT
  rw [if_neg (by omega), if_pos rfl, if_pos he]
theorem dp_tst {x : Nat} (hx : x < 1800) (e : Nat) (he : e < 30) (R : List Nat) : dpL (x :: R) e = dpL R (e + 1) := by
  show (match dpT x e with | some m => dpL R m | none => none) = _
  unfold dpT
  rw [if_neg (by omega), if_neg (by omega), if_pos ⟨hx, he⟩]
theorem part_wr (t : Txt) : ∀ (k : Nat) {s : RD} {q : Nat}, Wr s q → Wr (partR t k s) q
  | 0, s, q, h => by
    unfold partR
    rw [nxR_wr h.1, if_neg (by decide +kernel), if_neg (by decide +kernel)]
    exact testR_wr h
  | k + 1, s, q, h => by
    unfold partR
    rw [nxR_wr h.1, if_neg (by decide +kernel), if_neg (by decide +kernel)]
    exact testR_wr h
theorem bothL_wr (t : Txt) (F : RD → RD) (n : Nat) {s : RD} {q : Nat} (h : Wr s q) : Wr (bothL t F n s) q := by
  cases n with
  | zero => exact h
  | succ n =>
    unfold bothL
    rw [nxR_wr h.1, if_neg (by decide +kernel)]
    exact h
theorem eitherL_wr (t : Txt) (F : RD → RD) (n : Nat) {s : RD} {q : Nat} (h : Wr s q) : Wr (eitherL t F n s) q := by
  cases n with
  | zero => exact h
  | succ n =>
    unfold eitherL
    rw [nxR_wr h.1, if_neg (by decide +kernel)]
    exact h
theorem both_wr {t : Txt} {F : RD → RD} (hF : ∀ {s q}, Wr s q → Wr (F s) q) {s : RD} {q : Nat} (h : Wr s q) : Wr (bothG t F s) q := bothL_wr t F 100 (hF h)
theorem either_wr {t : Txt} {F : RD → RD} (hF : ∀ {s q}, Wr s q → Wr (F s) q) {s : RD} {q : Nat} (h : Wr s q) : Wr (eitherG t F s) q := eitherL_wr t F 100 (both_wr hF h)
theorem nx_end {t : Txt} {p : Nat} {x : Int32} (hx : ¬ (-1 : Int32) = x) (h : t.1 ≤ p) : ¬ nx t p = x := by
  unfold nx
  rw [if_neg (by omega)]
  exact hx
/-- the loop of T -/
theorem bothL_o {t : Txt} {k : Nat} {F : RD → RD} (hF : PartO t k F) (hW : ∀ {s q}, Wr s q → Wr (F s) q) : ∀ (n : Nat) (s : RD), Pre t s → 100 ≤ n + s.p →
    (∃ q U, bothL t F n s = adv s q U ∧ s.p + U.length ≤ q ∧ q ≤ t.1 ∧ ¬ nx t q = 38 ∧ (∀ e, 1 ≤ e → e + 2 * k < 30 → ∀ R, dpL (U ++ R) e = dpL R e) ∧ ∀ W T, opn W + k = 4 → NB W → ∃ j, ∀ n, runE t (n + 1 + j) false s.p W T = runE t (n + 1) false q W (T ++ U))
    ∨ ∃ q, Wr (bothL t F n s) q ∧ ∀ W T, opn W + k = 4 → NB W → ∃ j, ∀ n, runE t (n + j) false s.p W T = (q, none)
  | 0, s, h, hn => by
    obtain ⟨a, b, c, e⟩ := h
    refine Or.inl ⟨s.p, [], rfl, Nat.le_refl _, c, nx_end (by decide +kernel) (by omega), fun _ _ _ _ => rfl, fun W T _ _ => ⟨0, fun n => ?_⟩⟩
    rw [List.append_nil]
  | n + 1, s, h, hn => by
    have h0 := h
    obtain ⟨a, b, c, e⟩ := h
    unfold bothL
    rw [nxR_ok a]
    by_cases hx : nx t s.p = 38
    · rw [if_pos hx, signR_ok a hx]
      have hlt := nx_lt (t := t) (p := s.p) (by rw [hx]; decide +kernel)
      have h1 : Pre t (adv s (s.p + 1) []) := h0.adv (by show s.p + 0 ≤ _; omega) (by omega)
      rcases hF _ h1 with ⟨q, U, e1, e2, e3, e4, e5⟩ | ⟨q, e1, e2⟩
      · rw [adv_p] at e2 e5
        have e6 : addR 1800 (F (adv s (s.p + 1) [])) = adv s q (U ++ [1800]) := by
          rw [e1, addR_ok (s := adv (adv s (s.p + 1) []) q U) a (by show s.c + 0 + U.length < 100; omega), adv_adv, adv_adv]
          rfl
        rw [e6]
        have l1 : (U ++ [1800]).length = U.length + 1 := by rw [List.length_append]; rfl
        have h2 : Pre t (adv s q (U ++ [1800])) := h0.adv (by omega) e3
        rcases bothL_o hF hW n _ h2 (by rw [adv_p]; omega) with ⟨r, V, f1, f2, f3, f4, f5, f6⟩ | ⟨r, f1, f2⟩
        · rw [adv_p] at f2 f6
          refine Or.inl ⟨r, (U ++ [1800]) ++ V, by rw [f1, adv_adv], by rw [List.length_append]; omega, f3, f4, fun x hx1 hx2 R => ?_, fun W T hW1 hW2 => ?_⟩
          · rw [List.append_assoc, List.append_assoc, e4 x hx2]
            show dpL (1800 :: (V ++ R)) (x + 1) = _
            rw [dp_bin (Or.inl rfl) x hx1]
            exact f5 x hx1 hx2 R
          · obtain ⟨j1, g1⟩ := e5 (38 :: W) T (by show (if (38 : Int32) = 33 then 1 else if (38 : Int32) = 40 then 1 else 0) + opn W + k = 4; rw [if_neg (by decide +kernel), if_neg (by decide +kernel)]; omega)
            obtain ⟨j2, g2⟩ := f6 W (T ++ (U ++ [1800])) hW1 hW2
            refine ⟨j2 + j1 + 1, fun m => ?_⟩
            rw [show m + 1 + (j2 + j1 + 1) = (m + 1 + j2 + j1) + 1 by omega, runE, if_pos (Or.inl hx), hx, hW2.sAnd, g1, whole_ne (by decide +kernel)]
            dsimp only
            rw [show m + 1 + j2 = (m + j2) + 1 by omega, run_and, List.append_assoc, show m + j2 + 1 = m + 1 + j2 by omega, g2]
            simp only [List.append_assoc]
        · rw [adv_p] at f2
          refine Or.inr ⟨r, f1, fun W T hW1 hW2 => ?_⟩
          obtain ⟨j1, g1⟩ := e5 (38 :: W) T (by show (if (38 : Int32) = 33 then 1 else if (38 : Int32) = 40 then 1 else 0) + opn W + k = 4; rw [if_neg (by decide +kernel), if_neg (by decide +kernel)]; omega)
          obtain ⟨j2, g2⟩ := f2 W (T ++ (U ++ [1800])) hW1 hW2
          refine ⟨j2 + 1 + j1 + 1, fun m => ?_⟩
          rw [show m + (j2 + 1 + j1 + 1) = (m + 1 + j2 + j1) + 1 by omega, runE, if_pos (Or.inl hx), hx, hW2.sAnd, g1, whole_ne (by decide +kernel)]
          dsimp only
          rw [show m + 1 + j2 = (m + j2) + 1 by omega, run_and, List.append_assoc, show m + j2 + 1 = (m + 1) + j2 by omega, g2]
      · refine Or.inr ⟨q, bothL_wr t F n (addR_wr e1), fun W T hW1 hW2 => ?_⟩
        rw [adv_p] at e2
        obtain ⟨j1, g1⟩ := e2 (38 :: W) T (by show (if (38 : Int32) = 33 then 1 else if (38 : Int32) = 40 then 1 else 0) + opn W + k = 4; rw [if_neg (by decide +kernel), if_neg (by decide +kernel)]; omega) trivial
        refine ⟨j1 + 1, fun m => ?_⟩
        rw [show m + (j1 + 1) = (m + j1) + 1 by omega, runE, if_pos (Or.inl hx), hx, hW2.sAnd, g1]
    · rw [if_neg hx]
      refine Or.inl ⟨s.p, [], rfl, Nat.le_refl _, c, hx, fun _ _ _ _ => rfl, fun W T _ _ => ⟨0, fun n => ?_⟩⟩
      rw [List.append_nil]
theorem both_o {t : Txt} {k : Nat} {F : RD → RD} (hF : PartO t k F) (hW : ∀ {s q}, Wr s q → Wr (F s) q) : BothO t k (bothG t F) := by
  intro s h
  have h0 := h
  obtain ⟨a, b, c, e⟩ := h
  unfold bothG
  rcases hF s h0 with ⟨q, U, e1, e2, e3, e4, e5⟩ | ⟨q, e1, e2⟩
  · rw [e1]
    have h2 : Pre t (adv s q U) := h0.adv (by omega) e3
    rcases bothL_o hF hW 100 _ h2 (by omega) with ⟨r, V, f1, f2, f3, f4, f5, f6⟩ | ⟨r, f1, f2⟩
    · rw [adv_p] at f2 f6
      refine Or.inl ⟨r, U ++ V, by rw [f1, adv_adv], by rw [List.length_append]; omega, f3, f4, fun x hx R => ?_, fun W T hW1 hW2 => ?_⟩
      · rw [List.append_assoc, e4 x (by omega), f5 (x + 1) (by omega) (by omega)]
      · obtain ⟨j1, g1⟩ := e5 W T hW1
        obtain ⟨j2, g2⟩ := f6 W (T ++ U) hW1 hW2
        refine ⟨j2 + j1, fun m => ?_⟩
        rw [show m + 1 + (j2 + j1) = m + 1 + j2 + j1 by omega, g1, hW2.whole]
        dsimp only
        rw [g2, List.append_assoc]
    · rw [adv_p] at f2
      refine Or.inr ⟨r, f1, fun W T hW1 hW2 => ?_⟩
      obtain ⟨j1, g1⟩ := e5 W T hW1
      obtain ⟨j2, g2⟩ := f2 W (T ++ U) hW1 hW2
      refine ⟨j2 + j1, fun m => ?_⟩
      rw [show m + (j2 + j1) = m + j2 + j1 by omega, g1, hW2.whole]
      dsimp only
      rw [g2]
  · exact Or.inr ⟨q, bothL_wr t F 100 e1, fun W T hW1 _ => e2 W T hW1 trivial⟩
/-- the loop of E -/
theorem eitherL_o {t : Txt} {k : Nat} {F : RD → RD} (hF : BothO t k (bothG t F)) : ∀ (n : Nat) (s : RD), Pre t s → 100 ≤ n + s.p → ¬ nx t s.p = 38 →
    (∃ q U, eitherL t F n s = adv s q U ∧ s.p + U.length ≤ q ∧ q ≤ t.1 ∧ ¬ nx t q = 38 ∧ ¬ nx t q = 124 ∧ (∀ e, 1 ≤ e → e + 1 + 2 * k < 30 → ∀ R, dpL (U ++ R) e = dpL R e) ∧ ∀ W T, opn W + k = 4 → NC W → ∃ j, ∀ n, runE t (n + 1 + j) false s.p W T = runE t (n + 1) false q W (T ++ U))
    ∨ ∃ q, Wr (eitherL t F n s) q ∧ ∀ W T, opn W + k = 4 → NC W → ∃ j, ∀ n, runE t (n + j) false s.p W T = (q, none)
  | 0, s, h, hn, h38 => by
    obtain ⟨a, b, c, e⟩ := h
    refine Or.inl ⟨s.p, [], rfl, Nat.le_refl _, c, h38, nx_end (by decide +kernel) (by omega), fun _ _ _ _ => rfl, fun W T _ _ => ⟨0, fun n => ?_⟩⟩
    rw [List.append_nil]
  | n + 1, s, h, hn, h38 => by
    have h0 := h
    obtain ⟨a, b, c, e⟩ := h
    unfold eitherL
    rw [nxR_ok a]
    by_cases hx : nx t s.p = 124
    · rw [if_pos hx, signR_ok a hx]
      have hlt := nx_lt (t := t) (p := s.p) (by rw [hx]; decide +kernel)
      have h1 : Pre t (adv s (s.p + 1) []) := h0.adv (by show s.p + 0 ≤ _; omega) (by omega)
      have ho : ∀ W : List Int32, opn (124 :: W) = opn W := fun W => by
        show (if (124 : Int32) = 33 then 1 else if (124 : Int32) = 40 then 1 else 0) + opn W = opn W
        rw [if_neg (by decide +kernel), if_neg (by decide +kernel), Nat.zero_add]
      rcases hF _ h1 with ⟨q, U, e1, e2, e3, e38, e4, e5⟩ | ⟨q, e1, e2⟩
      · rw [adv_p] at e2 e5
        have e6 : addR 2100 (bothG t F (adv s (s.p + 1) [])) = adv s q (U ++ [2100]) := by
          rw [e1, addR_ok (s := adv (adv s (s.p + 1) []) q U) a (by show s.c + 0 + U.length < 100; omega), adv_adv, adv_adv]
          rfl
        rw [e6]
        have l1 : (U ++ [2100]).length = U.length + 1 := by rw [List.length_append]; rfl
        have h2 : Pre t (adv s q (U ++ [2100])) := h0.adv (by omega) e3
        rcases eitherL_o hF n _ h2 (by rw [adv_p]; omega) e38 with ⟨r, V, f1, f2, f3, f38, f4, f5, f6⟩ | ⟨r, f1, f2⟩
        · rw [adv_p] at f2 f6
          refine Or.inl ⟨r, (U ++ [2100]) ++ V, by rw [f1, adv_adv], by rw [List.length_append]; omega, f3, f38, f4, fun x hx1 hx2 R => ?_, fun W T hW1 hW2 => ?_⟩
          · rw [List.append_assoc, List.append_assoc, e4 x hx2]
            show dpL (2100 :: (V ++ R)) (x + 1) = _
            rw [dp_bin (Or.inr rfl) x hx1]
            exact f5 x hx1 hx2 R
          · obtain ⟨j1, g1⟩ := e5 (124 :: W) T (by rw [ho]; exact hW1) (Or.inr ⟨124, W, rfl, Or.inr rfl⟩)
            obtain ⟨j2, g2⟩ := f6 W (T ++ (U ++ [2100])) hW1 hW2
            refine ⟨j2 + j1 + 1, fun m => ?_⟩
            rw [show m + 1 + (j2 + j1 + 1) = ((m + j2) + 1 + j1) + 1 by omega, runE, if_pos (Or.inr hx), hx, hW2.sAll, g1, run_or _ _ _ _ _ e38, List.append_assoc, show m + j2 + 1 = m + 1 + j2 by omega, g2]
            simp only [List.append_assoc]
        · rw [adv_p] at f2
          refine Or.inr ⟨r, f1, fun W T hW1 hW2 => ?_⟩
          obtain ⟨j1, g1⟩ := e5 (124 :: W) T (by rw [ho]; exact hW1) (Or.inr ⟨124, W, rfl, Or.inr rfl⟩)
          obtain ⟨j2, g2⟩ := f2 W (T ++ (U ++ [2100])) hW1 hW2
          refine ⟨j2 + 1 + j1 + 1, fun m => ?_⟩
          rw [show m + (j2 + 1 + j1 + 1) = ((m + j2) + 1 + j1) + 1 by omega, runE, if_pos (Or.inr hx), hx, hW2.sAll, g1, run_or _ _ _ _ _ e38, List.append_assoc, show m + j2 + 1 = (m + 1) + j2 by omega, g2]
      · refine Or.inr ⟨q, eitherL_wr t F n (addR_wr e1), fun W T hW1 hW2 => ?_⟩
        rw [adv_p] at e2
        obtain ⟨j1, g1⟩ := e2 (124 :: W) T (by rw [ho]; exact hW1) (Or.inr ⟨124, W, rfl, Or.inr rfl⟩)
        refine ⟨j1 + 1, fun m => ?_⟩
        rw [show m + (j1 + 1) = (m + j1) + 1 by omega, runE, if_pos (Or.inr hx), hx, hW2.sAll, g1]
    · rw [if_neg hx]
      refine Or.inl ⟨s.p, [], rfl, Nat.le_refl _, c, h38, hx, fun _ _ _ _ => rfl, fun W T _ _ => ⟨0, fun n => ?_⟩⟩
      rw [List.append_nil]
theorem either_o {t : Txt} {k : Nat} {F : RD → RD} (hF : BothO t k (bothG t F)) : EithO t k (eitherG t F) := by
  intro s h
  have h0 := h
  obtain ⟨a, b, c, e⟩ := h
  unfold eitherG
  rcases hF s h0 with ⟨q, U, e1, e2, e3, e38, e4, e5⟩ | ⟨q, e1, e2⟩
  · rw [e1]
    have h2 : Pre t (adv s q U) := h0.adv (by omega) e3
    rcases eitherL_o hF 100 _ h2 (by omega) e38 with ⟨r, V, f1, f2, f3, f38, f4, f5, f6⟩ | ⟨r, f1, f2⟩
    · rw [adv_p] at f2 f6
      refine Or.inl ⟨r, U ++ V, by rw [f1, adv_adv], by rw [List.length_append]; omega, f3, f38, f4, fun x hx R => ?_, fun W T hW1 hW2 => ?_⟩
      · rw [List.append_assoc, e4 x (by omega), f5 (x + 1) (by omega) (by omega)]
      · obtain ⟨j1, g1⟩ := e5 W T hW1 hW2.nb
        obtain ⟨j2, g2⟩ := f6 W (T ++ U) hW1 hW2
        refine ⟨j2 + j1, fun m => ?_⟩
        rw [show m + 1 + (j2 + j1) = (m + j2) + 1 + j1 by omega, g1, show m + j2 + 1 = m + 1 + j2 by omega, g2, List.append_assoc]
    · rw [adv_p] at f2
      refine Or.inr ⟨r, f1, fun W T hW1 hW2 => ?_⟩
      obtain ⟨j1, g1⟩ := e5 W T hW1 hW2.nb
      obtain ⟨j2, g2⟩ := f2 W (T ++ U) hW1 hW2
      refine ⟨j2 + 1 + j1, fun m => ?_⟩
      rw [show m + (j2 + 1 + j1) = (m + j2) + 1 + j1 by omega, g1, show m + j2 + 1 = (m + 1) + j2 by omega, g2]
  · exact Or.inr ⟨q, eitherL_wr t F 100 e1, fun W T hW1 hW2 => e2 W T hW1 hW2.nb⟩
theorem opn_33 (W : List Int32) : opn (33 :: W) = 1 + opn W := by
  show (if (33 : Int32) = 33 then 1 else if (33 : Int32) = 40 then 1 else 0) + opn W = _
  rw [if_pos rfl]
theorem opn_40 (W : List Int32) : opn (40 :: W) = 1 + opn W := by
  show (if (40 : Int32) = 33 then 1 else if (40 : Int32) = 40 then 1 else 0) + opn W = _
  rw [if_neg (by decide +kernel), if_pos rfl]
theorem test_o {t : Txt} {k : Nat} {s : RD} (h : Pre t s) (h1 : ¬ nx t s.p = 33) (h2 : ¬ nx t s.p = 40) :
    (∃ q U, testR t s = adv s q U ∧ s.p + U.length + 2 ≤ q ∧ q ≤ t.1 ∧ (∀ e, e + 2 * k < 30 → ∀ R, dpL (U ++ R) e = dpL R (e + 1)) ∧ ∀ W T, opn W + k = 4 → ∃ j, ∀ n, runE t (n + j) true s.p W T = runE t n false q (wholeP W (T ++ U)).1 (wholeP W (T ++ U)).2)
    ∨ Bad t k s (testR t s) (fun _ => True) := by
  obtain ⟨a, b, c, e⟩ := h
  have h3 : ¬ (nx t s.p = 33 ∨ nx t s.p = 40) := fun z => z.elim h1 h2
  by_cases hc : s.c < 100
  · rcases testR_ok (t := t) a hc with ⟨q, x, e1, e2⟩ | ⟨q, e1, e2⟩
    · obtain ⟨x1, x2, x3⟩ := tstP_ok e1
      refine Or.inl ⟨q, [x], e2, by show s.p + 1 + 2 ≤ q; omega, x3, fun y hy R => dp_tst x1 y (by omega) R, fun W T _ => ⟨1, fun n => ?_⟩⟩
      rw [runE, if_neg h3, e1]
    · refine Or.inr ⟨q, e2, fun W T _ _ => ⟨1, fun n => ?_⟩⟩
      rw [runE, if_neg h3, e1]
  · have : s.p = t.1 := by omega
    have e0 : nx t s.p = -1 := if_neg (by omega)
    have e1 : tstP t s.p = (s.p, none) := by unfold tstP; rw [e0, let6_m1]
    have e2 : oneR t lkL s = (0, s.setw true) := by unfold oneR; rw [nxR_ok a, one_lk, e0, let6_m1]
    refine Or.inr ⟨s.p, ?_, fun W T _ _ => ⟨1, fun n => ?_⟩⟩
    · unfold testR
      rw [e2]
      exact addR_wr (numR_wr (oneR_wr rl_m1 ⟨rfl, rfl⟩))
    · rw [runE, if_neg h3, e1]
theorem part_o (t : Txt) : ∀ k, PartO t k (partR t k)
  | 0 => by
    intro s h
    have a := h.1
    unfold partR
    rw [nxR_ok a]
    by_cases h1 : nx t s.p = 33
    · rw [if_pos h1]
      refine Or.inr ⟨s.p, ⟨rfl, rfl⟩, fun W T hW _ => ⟨1, fun n => ?_⟩⟩
      rw [runE, if_pos (Or.inl h1), if_pos (show opn W = 4 from hW)]
    rw [if_neg h1]
    by_cases h2 : nx t s.p = 40
    · rw [if_pos h2]
      refine Or.inr ⟨s.p, ⟨rfl, rfl⟩, fun W T hW _ => ⟨1, fun n => ?_⟩⟩
      rw [runE, if_pos (Or.inr h2), if_pos (show opn W = 4 from hW)]
    rw [if_neg h2]
    exact test_o h h1 h2
  | k + 1 => by
    intro s h
    have h0 := h
    obtain ⟨a, b, c, e⟩ := h
    have ih := part_o t k
    unfold partR
    rw [nxR_ok a]
    by_cases h1 : nx t s.p = 33
    · rw [if_pos h1, signR_ok a h1]
      have hlt := nx_lt (t := t) (p := s.p) (by rw [h1]; decide +kernel)
      have hp : Pre t (adv s (s.p + 1) []) := h0.adv (by show s.p + 0 ≤ _; omega) (by omega)
      rcases ih _ hp with ⟨q, U, e1, e2, e3, e4, e5⟩ | ⟨q, e1, e2⟩
      · rw [adv_p] at e2 e5
        have l1 : (U ++ [2400]).length = U.length + 1 := by rw [List.length_append]; rfl
        refine Or.inl ⟨q, U ++ [2400], ?_, by omega, e3, fun x hx R => ?_, fun W T hW => ?_⟩
        · rw [e1, addR_ok (s := adv (adv s (s.p + 1) []) q U) a (by show s.c + 0 + U.length < 100; omega), adv_adv, adv_adv]
          rfl
        · rw [List.append_assoc, e4 x (by omega)]
          exact dp_not (x + 1) (by omega) R
        · obtain ⟨j, g⟩ := e5 (33 :: W) T (by rw [opn_33]; omega)
          refine ⟨j + 1, fun n => ?_⟩
          rw [show n + (j + 1) = (n + j) + 1 by omega, runE, if_pos (Or.inl h1), if_neg (by omega), h1, g, whole_not, List.append_assoc]
      · rw [adv_p] at e2
        refine Or.inr ⟨q, addR_wr e1, fun W T hW _ => ?_⟩
        obtain ⟨j, g⟩ := e2 (33 :: W) T (by rw [opn_33]; omega) trivial
        refine ⟨j + 1, fun n => ?_⟩
        rw [show n + (j + 1) = (n + j) + 1 by omega, runE, if_pos (Or.inl h1), if_neg (by omega), h1, g]
    rw [if_neg h1]
    by_cases h2 : nx t s.p = 40
    · rw [if_pos h2, signR_ok a h2]
      have hlt := nx_lt (t := t) (p := s.p) (by rw [h2]; decide +kernel)
      have hp : Pre t (adv s (s.p + 1) []) := h0.adv (by show s.p + 0 ≤ _; omega) (by omega)
      have hE := either_o (both_o ih (fun {s q} => part_wr t k))
      rcases hE _ hp with ⟨q, U, e1, e2, e3, e38, e124, e4, e5⟩ | ⟨q, e1, e2⟩
      · rw [adv_p] at e2 e5
        rw [e1, adv_adv, List.nil_append]
        have hend : ∀ W T, opn W + (k + 1) = 4 → ∃ j, ∀ n, runE t (n + 1 + j) true s.p W T = if nx t q = 41 then runE t n false (q + 1) (wholeP W (T ++ U)).1 (wholeP W (T ++ U)).2 else (q, none) := fun W T hW => by
          obtain ⟨j, g⟩ := e5 (40 :: W) T (by rw [opn_40]; omega) (Or.inr ⟨W, rfl⟩)
          refine ⟨j + 1, fun n => ?_⟩
          rw [show n + 1 + (j + 1) = (n + 1 + j) + 1 by omega, runE, if_pos (Or.inr h2), if_neg (by omega), h2, g, runE, if_neg (fun z => z.elim e38 e124), settle_br]
          rfl
        by_cases h41 : nx t q = 41
        · have hq := nx_lt (t := t) (p := q) (by rw [h41]; decide +kernel)
          rw [signR_ok (s := adv s q U) a h41, adv_adv, List.append_nil]
          refine Or.inl ⟨q + 1, U, rfl, by omega, by omega, fun x hx R => e4 x (by omega) R, fun W T hW => ?_⟩
          obtain ⟨j, g⟩ := hend W T hW
          refine ⟨j + 1, fun n => ?_⟩
          rw [show n + (j + 1) = n + 1 + j by omega, g, if_pos h41]
        · refine Or.inr ⟨q, signR_no (s := adv s q U) a h41, fun W T hW _ => ?_⟩
          obtain ⟨j, g⟩ := hend W T hW
          refine ⟨j + 1, fun n => ?_⟩
          rw [show n + (j + 1) = n + 1 + j by omega, g, if_neg h41]
      · rw [adv_p] at e2
        refine Or.inr ⟨q, signR_wr (by decide +kernel) e1, fun W T hW _ => ?_⟩
        obtain ⟨j, g⟩ := e2 (40 :: W) T (by rw [opn_40]; omega) (Or.inr ⟨W, rfl⟩)
        refine ⟨j + 1, fun n => ?_⟩
        rw [show n + (j + 1) = (n + j) + 1 by omega, runE, if_pos (Or.inr h2), if_neg (by omega), h2, g]
    rw [if_neg h2]
    exact test_o h0 h1 h2
/-- a whole E: read by the component as it is read by the reference -/
theorem E_top (t : Txt) {s : RD} (h : Pre t s) :
    (∃ q U, eitherG t (partR t 4) s = adv s q U ∧ s.p + U.length + 2 ≤ q ∧ q ≤ t.1 ∧ dpL U 0 = some 1 ∧ ∃ j, ∀ n, runE t (n + j) true s.p [] [] = (q, some U))
    ∨ ∃ q, Wr (eitherG t (partR t 4) s) q ∧ ∃ j, ∀ n, runE t (n + j) true s.p [] [] = (q, none) := by
  rcases either_o (both_o (part_o t 4) (fun {s q} => part_wr t 4)) s h with ⟨q, U, e1, e2, e3, e38, e124, e4, e5⟩ | ⟨q, e1, e2⟩
  · refine Or.inl ⟨q, U, e1, e2, e3, ?_, ?_⟩
    · have := e4 0 (by omega) []
      rw [List.append_nil] at this
      exact this
    · obtain ⟨j, g⟩ := e5 [] [] rfl (Or.inl rfl)
      refine ⟨j + 1, fun n => ?_⟩
      rw [show n + (j + 1) = n + 1 + j by omega, g, runE, if_neg (fun z => z.elim e38 e124)]
      rfl
  · obtain ⟨j, g⟩ := e2 [] [] rfl (Or.inl rfl)
    exact Or.inr ⟨q, e1, j, g⟩
