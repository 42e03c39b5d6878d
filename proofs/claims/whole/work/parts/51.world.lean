-- 51: the component's cells, what a call may change, a call as both worlds do it
def CoL (H : AH) : Prop :=
  (kd H 0 = 7) ∧
  (aR H 0 0 = some 1) ∧
  (aR H 0 1 = some 16) ∧
  (aR H 0 2 = some 31) ∧
  (aR H 0 4 = some 46) ∧
  (aR H 0 6 = some 49) ∧
  (aR H 0 7 = some 52) ∧
  (aR H 0 8 = some 54) ∧
  (StL H 1) ∧
  (StL H 16) ∧
  (StL H 31) ∧
  (kd H 46 = 6) ∧
  (kd H 47 = 20) ∧
  (kd H 48 = 20) ∧
  (sz H 47 = 100) ∧
  (sz H 48 = 100) ∧
  (aR H 46 2 = some 47) ∧
  (aR H 46 5 = some 48) ∧
  (kd H 49 = 1) ∧
  (kd H 50 = 20) ∧
  (kd H 51 = 20) ∧
  (sz H 50 = 6) ∧
  (sz H 51 = 6) ∧
  (aR H 49 1 = some 50) ∧
  (aR H 49 2 = some 51) ∧
  (kd H 52 = 0) ∧
  (kd H 53 = 20) ∧
  (sz H 53 = 20) ∧
  (aR H 52 0 = some 53) ∧
  (kd H 54 = 23) ∧
  (sz H 54 = 6) ∧
  (∀ j, j < 6 → aR H 54 j = some (55 + 2 * j) ∧ kd H (55 + 2 * j) = 4 ∧ aR H (55 + 2 * j) 2 = some (56 + 2 * j) ∧ kd H (56 + 2 * j) = 21 ∧ sz H (56 + 2 * j) = 60)
theorem CoL.k0 {H : AH} (h : CoL H) : kd H 0 = 7 := h.1
theorem CoL.r0 {H : AH} (h : CoL H) : aR H 0 0 = some 1 := h.2.1
theorem CoL.r1 {H : AH} (h : CoL H) : aR H 0 1 = some 16 := h.2.2.1
theorem CoL.r2 {H : AH} (h : CoL H) : aR H 0 2 = some 31 := h.2.2.2.1
theorem CoL.r4 {H : AH} (h : CoL H) : aR H 0 4 = some 46 := h.2.2.2.2.1
theorem CoL.r6 {H : AH} (h : CoL H) : aR H 0 6 = some 49 := h.2.2.2.2.2.1
theorem CoL.r7 {H : AH} (h : CoL H) : aR H 0 7 = some 52 := h.2.2.2.2.2.2.1
theorem CoL.r8 {H : AH} (h : CoL H) : aR H 0 8 = some 54 := h.2.2.2.2.2.2.2.1
theorem CoL.s1 {H : AH} (h : CoL H) : StL H 1 := h.2.2.2.2.2.2.2.2.1
theorem CoL.s16 {H : AH} (h : CoL H) : StL H 16 := h.2.2.2.2.2.2.2.2.2.1
theorem CoL.s31 {H : AH} (h : CoL H) : StL H 31 := h.2.2.2.2.2.2.2.2.2.2.1
theorem CoL.k46 {H : AH} (h : CoL H) : kd H 46 = 6 := h.2.2.2.2.2.2.2.2.2.2.2.1
theorem CoL.k47 {H : AH} (h : CoL H) : kd H 47 = 20 := h.2.2.2.2.2.2.2.2.2.2.2.2.1
theorem CoL.k48 {H : AH} (h : CoL H) : kd H 48 = 20 := h.2.2.2.2.2.2.2.2.2.2.2.2.2.1
theorem CoL.z47 {H : AH} (h : CoL H) : sz H 47 = 100 := h.2.2.2.2.2.2.2.2.2.2.2.2.2.2.1
theorem CoL.z48 {H : AH} (h : CoL H) : sz H 48 = 100 := h.2.2.2.2.2.2.2.2.2.2.2.2.2.2.2.1
theorem CoL.r46a {H : AH} (h : CoL H) : aR H 46 2 = some 47 := h.2.2.2.2.2.2.2.2.2.2.2.2.2.2.2.2.1
theorem CoL.r46b {H : AH} (h : CoL H) : aR H 46 5 = some 48 := h.2.2.2.2.2.2.2.2.2.2.2.2.2.2.2.2.2.1
theorem CoL.k49 {H : AH} (h : CoL H) : kd H 49 = 1 := h.2.2.2.2.2.2.2.2.2.2.2.2.2.2.2.2.2.2.1
theorem CoL.k50 {H : AH} (h : CoL H) : kd H 50 = 20 := h.2.2.2.2.2.2.2.2.2.2.2.2.2.2.2.2.2.2.2.1
theorem CoL.k51 {H : AH} (h : CoL H) : kd H 51 = 20 := h.2.2.2.2.2.2.2.2.2.2.2.2.2.2.2.2.2.2.2.2.1
theorem CoL.z50 {H : AH} (h : CoL H) : sz H 50 = 6 := h.2.2.2.2.2.2.2.2.2.2.2.2.2.2.2.2.2.2.2.2.2.1
theorem CoL.z51 {H : AH} (h : CoL H) : sz H 51 = 6 := h.2.2.2.2.2.2.2.2.2.2.2.2.2.2.2.2.2.2.2.2.2.2.1
theorem CoL.r49a {H : AH} (h : CoL H) : aR H 49 1 = some 50 := h.2.2.2.2.2.2.2.2.2.2.2.2.2.2.2.2.2.2.2.2.2.2.2.1
theorem CoL.r49b {H : AH} (h : CoL H) : aR H 49 2 = some 51 := h.2.2.2.2.2.2.2.2.2.2.2.2.2.2.2.2.2.2.2.2.2.2.2.2.1
theorem CoL.k52 {H : AH} (h : CoL H) : kd H 52 = 0 := h.2.2.2.2.2.2.2.2.2.2.2.2.2.2.2.2.2.2.2.2.2.2.2.2.2.1
theorem CoL.k53 {H : AH} (h : CoL H) : kd H 53 = 20 := h.2.2.2.2.2.2.2.2.2.2.2.2.2.2.2.2.2.2.2.2.2.2.2.2.2.2.1
theorem CoL.z53 {H : AH} (h : CoL H) : sz H 53 = 20 := h.2.2.2.2.2.2.2.2.2.2.2.2.2.2.2.2.2.2.2.2.2.2.2.2.2.2.2.1
theorem CoL.r52 {H : AH} (h : CoL H) : aR H 52 0 = some 53 := h.2.2.2.2.2.2.2.2.2.2.2.2.2.2.2.2.2.2.2.2.2.2.2.2.2.2.2.2.1
theorem CoL.k54 {H : AH} (h : CoL H) : kd H 54 = 23 := h.2.2.2.2.2.2.2.2.2.2.2.2.2.2.2.2.2.2.2.2.2.2.2.2.2.2.2.2.2.1
theorem CoL.z54 {H : AH} (h : CoL H) : sz H 54 = 6 := h.2.2.2.2.2.2.2.2.2.2.2.2.2.2.2.2.2.2.2.2.2.2.2.2.2.2.2.2.2.2.1
theorem CoL.tp {H : AH} (h : CoL H) : ∀ j, j < 6 → aR H 54 j = some (55 + 2 * j) ∧ kd H (55 + 2 * j) = 4 ∧ aR H (55 + 2 * j) 2 = some (56 + 2 * j) ∧ kd H (56 + 2 * j) = 21 ∧ sz H (56 + 2 * j) = 60 := h.2.2.2.2.2.2.2.2.2.2.2.2.2.2.2.2.2.2.2.2.2.2.2.2.2.2.2.2.2.2.2
theorem CoL.fr {J : Nat → Nat → Prop} {H H' : AH} (h : CoL H) (f : Fr J H H') : CoL H' := by
  have r := fun o i (hi : i ≠ 13) => f.R o i (fun z => hi z.2.1)
  refine ⟨(f.kdq _).trans h.k0, (r _ _ (by decide)).trans h.r0, (r _ _ (by decide)).trans h.r1, (r _ _ (by decide)).trans h.r2, (r _ _ (by decide)).trans h.r4, (r _ _ (by decide)).trans h.r6, (r _ _ (by decide)).trans h.r7, (r _ _ (by decide)).trans h.r8, h.s1.fr f, h.s16.fr f, h.s31.fr f, (f.kdq _).trans h.k46, (f.kdq _).trans h.k47, (f.kdq _).trans h.k48, (f.szq _).trans h.z47, (f.szq _).trans h.z48, (r _ _ (by decide)).trans h.r46a, (r _ _ (by decide)).trans h.r46b, (f.kdq _).trans h.k49, (f.kdq _).trans h.k50, (f.kdq _).trans h.k51, (f.szq _).trans h.z50, (f.szq _).trans h.z51, (r _ _ (by decide)).trans h.r49a, (r _ _ (by decide)).trans h.r49b, (f.kdq _).trans h.k52, (f.kdq _).trans h.k53, (f.szq _).trans h.z53, (r _ _ (by decide)).trans h.r52, (f.kdq _).trans h.k54, (f.szq _).trans h.z54, fun j hj => ?_⟩
  obtain ⟨a, b, c, e, g⟩ := h.tp j hj
  exact ⟨(f.R 54 j (fun z => by omega)).trans a, (f.kdq _).trans b, (r _ _ (by decide)).trans c, (f.kdq _).trans e, (f.szq _).trans g⟩
def jC (o i : Nat) : Prop := (1 ≤ o ∧ o ≤ 15 ∧ ¬ (o = 1 ∧ i = 13)) ∨ (31 ≤ o ∧ o ≤ 45) ∨ (49 ≤ o ∧ o ≤ 51)
def jM (o i : Nat) : Prop := (o = 67 ∧ (i ≤ 9 ∨ (13 ≤ i ∧ i ≤ 23) ∨ (26 ≤ i ∧ i ≤ 44) ∨ 67 ≤ i)) ∨ (68 ≤ o ∧ o ≤ 72) ∨ o = 80 ∨ (82 ≤ o ∧ o ≤ 93) ∨ o = 109
def NowC (S : SC) (A A' : AS) (mc : Nat) (ls : List Value) (r : Value) : Prop := ∀ H, StA H 1 A → CoL H → ∀ d, ∃ H', StA H' 1 A' ∧ Fr jC H H' ∧ ∀ Q, Wp S (d + 40) mc 0 ls [] H Q = Q (some r) H'
def NowM (S : SC) (A A' : AS) (mm : Nat) (ls : List Value) (r : Value) : Prop := ∀ H, MoA H A → ∀ d, ∃ H', MoA H' A' ∧ Fr jM H H' ∧ ∀ Q, Wp S (d + 40) mm 0 ls [] H Q = Q (some r) H'
def Now (S : SC) (A : AS) (mc mm : Nat) (lc lm : List Value) : Prop := ∃ r A', Wf A' ∧ A'.L = A.L ∧ A'.D = A.D ∧ NowC S A A' mc lc r ∧ NowM S A A' mm lm r
theorem now_same {S : SC} {A : AS} {mc mm : Nat} {lc lm : List Value} (w : Wf A) (r : Value) (hc : ∀ H, StA H 1 A → CoL H → ∀ d Q, Wp S (d + 40) mc 0 lc [] H Q = Q (some r) H) (hm : ∀ H, MoA H A → ∀ d Q, Wp S (d + 40) mm 0 lm [] H Q = Q (some r) H) : Now S A mc mm lc lm :=
  ⟨r, A, w, rfl, rfl, fun H h X d => ⟨H, h, Fr.refl _ _, hc H h X d⟩, fun H g d => ⟨H, g, Fr.refl _ _, hm H g d⟩⟩
def rg (l n : Int32) : Int32 := if l < 0 then 0 else if l < n then 1 else 0
theorem rg_c (l : Int32) (n : Nat) (hn : n < 2 ^ 31) : rg l (nI n) = 0 ∨ (rg l (nI n) = 1 ∧ ∃ j, j < n ∧ l = nI j) := by
  unfold rg
  rcases pk_ix l hn with h | h | ⟨j, hj, rfl⟩
  · exact Or.inl (if_pos h)
  · by_cases h0 : l < 0
    · exact Or.inl (if_pos h0)
    · exact Or.inl (by rw [if_neg h0, if_neg (Int32.not_lt.mpr h)])
  · exact Or.inr ⟨by rw [if_neg (nI_pos (by omega)), if_pos (nI_lt hj hn)], j, hj, rfl⟩
theorem rg01 (l n : Int32) : rg l n = 0 ∨ rg l n = 1 := by unfold rg; split; exact Or.inl rfl; split; exact Or.inr rfl; exact Or.inl rfl
theorem inS_rg {l : Int32} {n : Nat} (hn : n < 2 ^ 31) : inS l 0 (nI n - 1) = rg l (nI n) := by
  unfold inS rg
  by_cases h0 : l < 0
  · rw [if_pos h0, if_pos h0]
  · rw [if_neg h0, if_neg h0]
    obtain ⟨j, hj, rfl⟩ := nI_of h0
    cases n with
    | zero =>
      rw [if_pos (show nI 0 - 1 < nI j from Int32.lt_of_lt_of_le (by decide +kernel) (Int32.not_lt.mp h0)), if_neg (nI_nlt (Nat.zero_le _) hj)]
    | succ n =>
      rw [nI_pred]
      by_cases h : j < n + 1
      · rw [if_neg (nI_nlt (by omega) (by omega)), if_pos (nI_lt h hn)]
      · rw [if_pos (nI_lt (by omega) hj), if_neg (nI_nlt (by omega) hj)]
theorem inS_k {l : Int32} (n : Nat) {x : Int32} (hn : n < 2 ^ 31) (hx : x = nI n - 1) : inS l 0 x = rg l (nI n) := by rw [hx]; exact inS_rg hn
section SMALL
variable {S : SC} {d : Nat} {H : AH} {A : AS} {Q : Option Value → AH → Prop}
theorem w_isKind {l : Int32} : Wp S d 110 0 [.int l] [] H Q = Q (some (.int (rg l (nI 7)))) H := by
  unfold rg
  by_cases h : l < 0
  · simp only [sX7_isKind_0, sX7_isKind_1, sX7_isKind_4, sX7_isKind_14, sX7_isKind_5, sX7_isKind_15 (st := []), sX7_isKind_7, sX7_isKind_10, sX7_isKind_11, inb, nz_3, nz_4, nz_6, nz_8, nz_10, nz_100, nz_300, pushr_s, pushr_n, rv_s, rv_n, kd_sI, kd_sR, kd_sJ, sz_sI, sz_sR, sz_sJ, aR_sI, aJ_sI, aI_sR, aI_sJ, not_false_eq_true, true_and, and_true, true_or, or_true, or_false, false_or, eq_self, ite_true, ite_false, if_true, if_false, h]
  · by_cases h2 : l < nI 7
    · have h3 : ¬ 6 < l := fun z => by
        obtain ⟨j, hj, rfl⟩ := nI_of h
        have := (nI_ltI hj (by decide)).mp h2
        have := (nI_ltI (a := 6) (by decide) hj).mp z
        omega
      simp only [sX7_isKind_0, sX7_isKind_1, sX7_isKind_4, sX7_isKind_14, sX7_isKind_5, sX7_isKind_15 (st := []), sX7_isKind_7, sX7_isKind_10, sX7_isKind_11, inb, nz_3, nz_4, nz_6, nz_8, nz_10, nz_100, nz_300, pushr_s, pushr_n, rv_s, rv_n, kd_sI, kd_sR, kd_sJ, sz_sI, sz_sR, sz_sJ, aR_sI, aJ_sI, aI_sR, aI_sJ, not_false_eq_true, true_and, and_true, true_or, or_true, or_false, false_or, eq_self, ite_true, ite_false, if_true, if_false, h, h2, h3]
    · have h3 : 6 < l := by
        obtain ⟨j, hj, rfl⟩ := nI_of h
        have : 7 ≤ j := Nat.le_of_not_lt fun z => h2 (nI_lt z (by decide))
        exact nI_lt (a := 6) (by omega) hj
      simp only [sX7_isKind_0, sX7_isKind_1, sX7_isKind_4, sX7_isKind_14, sX7_isKind_5, sX7_isKind_15 (st := []), sX7_isKind_7, sX7_isKind_10, sX7_isKind_11, inb, nz_3, nz_4, nz_6, nz_8, nz_10, nz_100, nz_300, pushr_s, pushr_n, rv_s, rv_n, kd_sI, kd_sR, kd_sJ, sz_sI, sz_sR, sz_sJ, aR_sI, aJ_sI, aI_sR, aI_sJ, not_false_eq_true, true_and, and_true, true_or, or_true, or_false, false_or, eq_self, ite_true, ite_false, if_true, if_false, h, h2, h3]
theorem w_rg {l n : Int32} : (if l < 0 then (0 : Int32) else if n ≤ l then 0 else 1) = rg l n := by
  unfold rg
  by_cases h : l < 0
  · rw [if_pos h, if_pos h]
  · rw [if_neg h, if_neg h]
    by_cases h2 : l < n
    · rw [if_pos h2, if_neg (Int32.not_le.mpr h2)]
    · rw [if_neg h2, if_pos (Int32.not_lt.mp h2)]
theorem w_isNumber {l : Int32} : Wp S d 111 0 [.int l] [] H Q = Q (some (.int (rg l (nI 10)))) H := by
  rw [← w_rg, show nI 10 = 10 from rfl]
  by_cases h : l < 0
  · simp only [sX7_isNumber_0, sX7_isNumber_1, sX7_isNumber_4, sX7_isNumber_14, sX7_isNumber_5, sX7_isNumber_15 (st := []), sX7_isNumber_7, sX7_isNumber_10, sX7_isNumber_11, inb, nz_3, nz_4, nz_6, nz_8, nz_10, nz_100, nz_300, pushr_s, pushr_n, rv_s, rv_n, kd_sI, kd_sR, kd_sJ, sz_sI, sz_sR, sz_sJ, aR_sI, aJ_sI, aI_sR, aI_sJ, not_false_eq_true, true_and, and_true, true_or, or_true, or_false, false_or, eq_self, ite_true, ite_false, if_true, if_false, h]
  · by_cases h2 : 10 ≤ l
    · simp only [sX7_isNumber_0, sX7_isNumber_1, sX7_isNumber_4, sX7_isNumber_14, sX7_isNumber_5, sX7_isNumber_15 (st := []), sX7_isNumber_7, sX7_isNumber_10, sX7_isNumber_11, inb, nz_3, nz_4, nz_6, nz_8, nz_10, nz_100, nz_300, pushr_s, pushr_n, rv_s, rv_n, kd_sI, kd_sR, kd_sJ, sz_sI, sz_sR, sz_sJ, aR_sI, aJ_sI, aI_sR, aI_sJ, not_false_eq_true, true_and, and_true, true_or, or_true, or_false, false_or, eq_self, ite_true, ite_false, if_true, if_false, h, h2]
    · simp only [sX7_isNumber_0, sX7_isNumber_1, sX7_isNumber_4, sX7_isNumber_14, sX7_isNumber_5, sX7_isNumber_15 (st := []), sX7_isNumber_7, sX7_isNumber_10, sX7_isNumber_11, inb, nz_3, nz_4, nz_6, nz_8, nz_10, nz_100, nz_300, pushr_s, pushr_n, rv_s, rv_n, kd_sI, kd_sR, kd_sJ, sz_sI, sz_sR, sz_sJ, aR_sI, aJ_sI, aI_sR, aI_sJ, not_false_eq_true, true_and, and_true, true_or, or_true, or_false, false_or, eq_self, ite_true, ite_false, if_true, if_false, h, h2]
theorem w_isMarks {l : Int32} : Wp S d 112 0 [.int l] [] H Q = Q (some (.int (rg l (nI 256)))) H := by
  rw [← w_rg, show nI 256 = 256 from rfl]
  by_cases h : l < 0
  · simp only [sX7_isMarks_0, sX7_isMarks_1, sX7_isMarks_4, sX7_isMarks_15, sX7_isMarks_5, sX7_isMarks_16 (st := []), sX7_isMarks_8, sX7_isMarks_11, sX7_isMarks_12, inb, nz_3, nz_4, nz_6, nz_8, nz_10, nz_100, nz_300, pushr_s, pushr_n, rv_s, rv_n, kd_sI, kd_sR, kd_sJ, sz_sI, sz_sR, sz_sJ, aR_sI, aJ_sI, aI_sR, aI_sJ, not_false_eq_true, true_and, and_true, true_or, or_true, or_false, false_or, eq_self, ite_true, ite_false, if_true, if_false, h]
  · by_cases h2 : 256 ≤ l
    · simp only [sX7_isMarks_0, sX7_isMarks_1, sX7_isMarks_4, sX7_isMarks_15, sX7_isMarks_5, sX7_isMarks_16 (st := []), sX7_isMarks_8, sX7_isMarks_11, sX7_isMarks_12, inb, nz_3, nz_4, nz_6, nz_8, nz_10, nz_100, nz_300, pushr_s, pushr_n, rv_s, rv_n, kd_sI, kd_sR, kd_sJ, sz_sI, sz_sR, sz_sJ, aR_sI, aJ_sI, aI_sR, aI_sJ, not_false_eq_true, true_and, and_true, true_or, or_true, or_false, false_or, eq_self, ite_true, ite_false, if_true, if_false, h, h2]
    · simp only [sX7_isMarks_0, sX7_isMarks_1, sX7_isMarks_4, sX7_isMarks_15, sX7_isMarks_5, sX7_isMarks_16 (st := []), sX7_isMarks_8, sX7_isMarks_11, sX7_isMarks_12, inb, nz_3, nz_4, nz_6, nz_8, nz_10, nz_100, nz_300, pushr_s, pushr_n, rv_s, rv_n, kd_sI, kd_sR, kd_sJ, sz_sI, sz_sR, sz_sJ, aR_sI, aJ_sI, aI_sR, aI_sJ, not_false_eq_true, true_and, and_true, true_or, or_true, or_false, false_or, eq_self, ite_true, ite_false, if_true, if_false, h, h2]
theorem w_isTape {l : Int32} : Wp S d 114 0 [.int l] [] H Q = Q (some (.int (rg l (nI 6)))) H := by
  rw [← w_rg, show nI 6 = 6 from rfl]
  by_cases h : l < 0
  · simp only [sX7_isTape_0, sX7_isTape_1, sX7_isTape_4, sX7_isTape_14, sX7_isTape_5, sX7_isTape_15 (st := []), sX7_isTape_7, sX7_isTape_10, sX7_isTape_11, inb, nz_3, nz_4, nz_6, nz_8, nz_10, nz_100, nz_300, pushr_s, pushr_n, rv_s, rv_n, kd_sI, kd_sR, kd_sJ, sz_sI, sz_sR, sz_sJ, aR_sI, aJ_sI, aI_sR, aI_sJ, not_false_eq_true, true_and, and_true, true_or, or_true, or_false, false_or, eq_self, ite_true, ite_false, if_true, if_false, h]
  · by_cases h2 : 6 ≤ l
    · simp only [sX7_isTape_0, sX7_isTape_1, sX7_isTape_4, sX7_isTape_14, sX7_isTape_5, sX7_isTape_15 (st := []), sX7_isTape_7, sX7_isTape_10, sX7_isTape_11, inb, nz_3, nz_4, nz_6, nz_8, nz_10, nz_100, nz_300, pushr_s, pushr_n, rv_s, rv_n, kd_sI, kd_sR, kd_sJ, sz_sI, sz_sR, sz_sJ, aR_sI, aJ_sI, aI_sR, aI_sJ, not_false_eq_true, true_and, and_true, true_or, or_true, or_false, false_or, eq_self, ite_true, ite_false, if_true, if_false, h, h2]
    · simp only [sX7_isTape_0, sX7_isTape_1, sX7_isTape_4, sX7_isTape_14, sX7_isTape_5, sX7_isTape_15 (st := []), sX7_isTape_7, sX7_isTape_10, sX7_isTape_11, inb, nz_3, nz_4, nz_6, nz_8, nz_10, nz_100, nz_300, pushr_s, pushr_n, rv_s, rv_n, kd_sI, kd_sR, kd_sJ, sz_sI, sz_sR, sz_sJ, aR_sI, aJ_sI, aI_sR, aI_sJ, not_false_eq_true, true_and, and_true, true_or, or_true, or_false, false_or, eq_self, ite_true, ite_false, if_true, if_false, h, h2]
theorem rg_2 (l : Int32) : rg l (nI 2) = if l = 0 then 1 else if l = 1 then 1 else 0 := by
  by_cases h0 : l = 0
  · rw [if_pos h0, h0]; decide +kernel
  · rw [if_neg h0]
    by_cases h1 : l = 1
    · rw [if_pos h1, h1]; decide +kernel
    · rw [if_neg h1]
      rcases rg_c l 2 (by decide) with e | ⟨_, j, hj, rfl⟩
      · exact e
      · have : j = 0 ∨ j = 1 := by omega
        rcases this with rfl | rfl
        · exact absurd rfl h0
        · exact absurd rfl h1
theorem w_isFS {l : Int32} : Wp S d 113 0 [.int l] [] H Q = Q (some (.int (rg l (nI 2)))) H := by
  rw [rg_2]
  by_cases h0 : l = 0
  · simp only [sX7_isFirstOrSecond_0, sX7_isFirstOrSecond_1, sX7_isFirstOrSecond_4, sX7_isFirstOrSecond_9, sX7_isFirstOrSecond_5, sX7_isFirstOrSecond_10, sX7_isFirstOrSecond_6, sX7_isFirstOrSecond_14 (st := []), sX7_isFirstOrSecond_13, inb, nz_3, nz_4, nz_6, nz_8, nz_10, nz_100, nz_300, pushr_s, pushr_n, rv_s, rv_n, kd_sI, kd_sR, kd_sJ, sz_sI, sz_sR, sz_sJ, aR_sI, aJ_sI, aI_sR, aI_sJ, not_false_eq_true, true_and, and_true, true_or, or_true, or_false, false_or, eq_self, ite_true, ite_false, if_true, if_false, h0]
  · by_cases h1 : l = 1
    · simp only [sX7_isFirstOrSecond_0, sX7_isFirstOrSecond_1, sX7_isFirstOrSecond_4, sX7_isFirstOrSecond_9, sX7_isFirstOrSecond_5, sX7_isFirstOrSecond_10, sX7_isFirstOrSecond_6, sX7_isFirstOrSecond_14 (st := []), sX7_isFirstOrSecond_13, inb, nz_3, nz_4, nz_6, nz_8, nz_10, nz_100, nz_300, pushr_s, pushr_n, rv_s, rv_n, kd_sI, kd_sR, kd_sJ, sz_sI, sz_sR, sz_sJ, aR_sI, aJ_sI, aI_sR, aI_sJ, not_false_eq_true, true_and, and_true, true_or, or_true, or_false, false_or, eq_self, ite_true, ite_false, if_true, if_false, h0, h1, nz_1]
    · simp only [sX7_isFirstOrSecond_0, sX7_isFirstOrSecond_1, sX7_isFirstOrSecond_4, sX7_isFirstOrSecond_9, sX7_isFirstOrSecond_5, sX7_isFirstOrSecond_10, sX7_isFirstOrSecond_6, sX7_isFirstOrSecond_14 (st := []), sX7_isFirstOrSecond_13, inb, nz_3, nz_4, nz_6, nz_8, nz_10, nz_100, nz_300, pushr_s, pushr_n, rv_s, rv_n, kd_sI, kd_sR, kd_sJ, sz_sI, sz_sR, sz_sJ, aR_sI, aJ_sI, aI_sR, aI_sJ, not_false_eq_true, true_and, and_true, true_or, or_true, or_false, false_or, eq_self, ite_true, ite_false, if_true, if_false, h0, h1]
theorem w_isMaid {l : Int32} (X : CoL H) (h : StA H 1 A) : Wp S d 115 0 [.ref 0, .int l] [] H Q = Q (some (.int (rg l (nI A.N)))) H := by
  rw [← w_rg]
  by_cases g : l < 0
  · simp only [sX7_isMaid_0, sX7_isMaid_1, sX7_isMaid_4, sX7_isMaid_19, sX7_isMaid_5, sX7_isMaid_20 (st := []), sX7_isMaid_6, sX7_isMaid_9, sX7_isMaid_12, sX7_isMaid_15, sX7_isMaid_16, inb, nz_3, nz_4, nz_6, nz_8, nz_10, nz_100, nz_300, pushr_s, pushr_n, rv_s, rv_n, kd_sI, kd_sR, kd_sJ, sz_sI, sz_sR, sz_sJ, aR_sI, aJ_sI, aI_sR, aI_sJ, not_false_eq_true, true_and, and_true, true_or, or_true, or_false, false_or, eq_self, ite_true, ite_false, if_true, if_false, g]
  · by_cases h2 : nI A.N ≤ l
    · simp only [sX7_isMaid_0, sX7_isMaid_1, sX7_isMaid_4, sX7_isMaid_19, sX7_isMaid_5, sX7_isMaid_20 (st := []), sX7_isMaid_6, sX7_isMaid_9, sX7_isMaid_12, sX7_isMaid_15, sX7_isMaid_16, inb, nz_3, nz_4, nz_6, nz_8, nz_10, nz_100, nz_300, pushr_s, pushr_n, rv_s, rv_n, kd_sI, kd_sR, kd_sJ, sz_sI, sz_sR, sz_sJ, aR_sI, aJ_sI, aI_sR, aI_sJ, not_false_eq_true, true_and, and_true, true_or, or_true, or_false, false_or, eq_self, ite_true, ite_false, if_true, if_false, X.k0, X.r0, h.lay.1, h.nN, g, h2]
    · simp only [sX7_isMaid_0, sX7_isMaid_1, sX7_isMaid_4, sX7_isMaid_19, sX7_isMaid_5, sX7_isMaid_20 (st := []), sX7_isMaid_6, sX7_isMaid_9, sX7_isMaid_12, sX7_isMaid_15, sX7_isMaid_16, inb, nz_3, nz_4, nz_6, nz_8, nz_10, nz_100, nz_300, pushr_s, pushr_n, rv_s, rv_n, kd_sI, kd_sR, kd_sJ, sz_sI, sz_sR, sz_sJ, aR_sI, aJ_sI, aI_sR, aI_sJ, not_false_eq_true, true_and, and_true, true_or, or_true, or_false, false_or, eq_self, ite_true, ite_false, if_true, if_false, X.k0, X.r0, h.lay.1, h.nN, g, h2]
theorem w_isPilgrim {l : Int32} (X : CoL H) (h : StA H 1 A) : Wp S d 116 0 [.ref 0, .int l] [] H Q = Q (some (.int (rg l (nI A.P)))) H := by
  rw [← w_rg]
  by_cases g : l < 0
  · simp only [sX7_isPilgrim_0, sX7_isPilgrim_1, sX7_isPilgrim_4, sX7_isPilgrim_19, sX7_isPilgrim_5, sX7_isPilgrim_20 (st := []), sX7_isPilgrim_6, sX7_isPilgrim_9, sX7_isPilgrim_12, sX7_isPilgrim_15, sX7_isPilgrim_16, inb, nz_3, nz_4, nz_6, nz_8, nz_10, nz_100, nz_300, pushr_s, pushr_n, rv_s, rv_n, kd_sI, kd_sR, kd_sJ, sz_sI, sz_sR, sz_sJ, aR_sI, aJ_sI, aI_sR, aI_sJ, not_false_eq_true, true_and, and_true, true_or, or_true, or_false, false_or, eq_self, ite_true, ite_false, if_true, if_false, g]
  · by_cases h2 : nI A.P ≤ l
    · simp only [sX7_isPilgrim_0, sX7_isPilgrim_1, sX7_isPilgrim_4, sX7_isPilgrim_19, sX7_isPilgrim_5, sX7_isPilgrim_20 (st := []), sX7_isPilgrim_6, sX7_isPilgrim_9, sX7_isPilgrim_12, sX7_isPilgrim_15, sX7_isPilgrim_16, inb, nz_3, nz_4, nz_6, nz_8, nz_10, nz_100, nz_300, pushr_s, pushr_n, rv_s, rv_n, kd_sI, kd_sR, kd_sJ, sz_sI, sz_sR, sz_sJ, aR_sI, aJ_sI, aI_sR, aI_sJ, not_false_eq_true, true_and, and_true, true_or, or_true, or_false, false_or, eq_self, ite_true, ite_false, if_true, if_false, X.k0, X.r0, h.lay.1, h.nP, g, h2]
    · simp only [sX7_isPilgrim_0, sX7_isPilgrim_1, sX7_isPilgrim_4, sX7_isPilgrim_19, sX7_isPilgrim_5, sX7_isPilgrim_20 (st := []), sX7_isPilgrim_6, sX7_isPilgrim_9, sX7_isPilgrim_12, sX7_isPilgrim_15, sX7_isPilgrim_16, inb, nz_3, nz_4, nz_6, nz_8, nz_10, nz_100, nz_300, pushr_s, pushr_n, rv_s, rv_n, kd_sI, kd_sR, kd_sJ, sz_sI, sz_sR, sz_sJ, aR_sI, aJ_sI, aI_sR, aI_sJ, not_false_eq_true, true_and, and_true, true_or, or_true, or_false, false_or, eq_self, ite_true, ite_false, if_true, if_false, X.k0, X.r0, h.lay.1, h.nP, g, h2]
theorem n_isMaid {l : Int32} (w : Wf A) (g : MoA H A) : Wp S (d + 1) 126 0 [.ref 67, .int l] [] H Q = Q (some (.int (rg l (nI A.N)))) H := by
  have hN := w.hN
  rw [m_isMaid g.lay, g.nN, inS_rg (by omega)]
theorem n_isPilgrim {l : Int32} (w : Wf A) (g : MoA H A) : Wp S (d + 1) 127 0 [.ref 67, .int l] [] H Q = Q (some (.int (rg l (nI A.P)))) H := by
  have hP := w.hP
  rw [m_isPilgrim g.lay, g.nP, inS_rg (by omega)]
theorem n_isMarks {l : Int32} (g : MoL H) : Wp S (d + 1) 128 0 [.ref 67, .int l] [] H Q = Q (some (.int (rg l (nI 256)))) H := by
  rw [m_isMarks g, inS_k 256 (by decide) (by decide +kernel)]
theorem n_isDays {l : Int32} (g : MoL H) : Wp S (d + 1) 129 0 [.ref 67, .int l] [] H Q = Q (some (.int (rg l (nI 61)))) H := by
  rw [m_isDays g, inS_k 61 (by decide) (by decide +kernel)]
theorem n_isTape {l : Int32} (g : MoL H) : Wp S (d + 1) 215 0 [.ref 67, .int l] [] H Q = Q (some (.int (rg l (nI 6)))) H := by
  rw [m_isTape g, inS_k 6 (by decide) (by decide +kernel)]
theorem n_in1 {l : Int32} : Wp S d 123 0 [.ref 67, .int l, .int 0, .int 1] [] H Q = Q (some (.int (rg l (nI 2)))) H := by
  rw [m_in, inS_k 2 (by decide) (by decide +kernel)]
theorem n_in3 {l : Int32} : Wp S d 123 0 [.ref 67, .int l, .int 0, .int 3] [] H Q = Q (some (.int (rg l (nI 4)))) H := by
  rw [m_in, inS_k 4 (by decide) (by decide +kernel)]
theorem n_in6 {l : Int32} : Wp S d 123 0 [.ref 67, .int l, .int 0, .int 6] [] H Q = Q (some (.int (rg l (nI 7)))) H := by
  rw [m_in, inS_k 7 (by decide) (by decide +kernel)]
theorem n_in9 {l : Int32} : Wp S d 123 0 [.ref 67, .int l, .int 0, .int 9] [] H Q = Q (some (.int (rg l (nI 10)))) H := by
  rw [m_in, inS_k 10 (by decide) (by decide +kernel)]
end SMALL
theorem jM_of {o i : Nat} (h : jGoM o i) : jM o i := by unfold jGoM at h; unfold jM; omega
theorem jC_of {o i : Nat} (h : jGo 1 o i) : jC o i := by unfold jGo at h; unfold jC; omega
