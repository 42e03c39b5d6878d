-- 81: order: laying a turn; something is always found
theorem tkO_some (v : Nat) (t : Nat → Nat) (s : OpS) : tkO v t s ≠ none := by
  unfold tkO
  cases s with
  | none => exact fun z => by cases z
  | some q =>
    by_cases h : v < q.1
    · show (if v < q.1 then some (v, t) else some q) ≠ none
      rw [if_pos h]; exact fun z => by cases z
    · show (if v < q.1 then some (v, t) else some q) ≠ none
      rw [if_neg h]; exact fun z => by cases z
theorem gO_some {A : AS} {a c : Int32} {N z : Nat} {s : OpS} (h : s ≠ none) : gO A a c N z s ≠ none := by
  unfold gO
  by_cases q : VOb N z = true
  · rw [if_pos q]; exact tkO_some _ _ _
  · rw [if_neg q]; exact h
theorem fdN_some {f : Nat → OpS → OpS} (hf : ∀ x s, s ≠ none → f x s ≠ none) : ∀ (c i : Nat) (s : OpS), s ≠ none → fdN f c i s ≠ none
  | 0, _, _, h => h
  | c + 1, i, s, h => fdN_some hf c (i + 1) (f i s) (hf i s h)
theorem fdN_hit {f : Nat → OpS → OpS} (hf : ∀ x s, s ≠ none → f x s ≠ none) {x0 : Nat} (h0 : ∀ s, f x0 s ≠ none) : ∀ (c i : Nat) (s : OpS), i ≤ x0 → x0 < i + c → fdN f c i s ≠ none
  | 0, _, _, h1, h2 => absurd h2 (by omega)
  | c + 1, i, s, h1, h2 => by
    by_cases q : i = x0
    · show fdN f c (i + 1) (f i s) ≠ none
      rw [q]
      exact fdN_some hf c _ _ (h0 s)
    · exact fdN_hit hf h0 c (i + 1) (f i s) (by omega) (by omega)
def idnL : List Nat := [0, 0, 1, 8, 51, 310, 1865]
theorem idn_ok : ∀ N, N < 7 → VOb N (idnL.getD N 0) = true ∧ idnL.getD N 0 < 6 ^ N := by decide +kernel
theorem all_some {A : AS} {a c : Int32} {N : Nat} (hN : N ≤ 6) (s : OpS) : fdN (gO A a c N) (6 ^ N) 0 s ≠ none := by
  obtain ⟨h1, h2⟩ := idn_ok N (by omega)
  refine fdN_hit (fun x s h => gO_some h) (x0 := idnL.getD N 0) (fun s => ?_) (6 ^ N) 0 s (Nat.zero_le _) (by omega)
  unfold gO
  rw [if_pos h1]
  exact tkO_some _ _ _
/-- the laying of a turn, from its last place down -/
def vldR (N : Nat) : Nat → Nat → Nat → Bool
  | 0, _, _ => true
  | c + 1, y, m => if N ≤ y % 6 then false else if m.testBit (y % 6) = true then false else vldR N c (y / 6) (m ||| 2 ^ (y % 6))
theorem dgp_last (c y : Nat) : dgp (c + 1) y c = y % 6 := by
  unfold dgp
  rw [show c + 1 - 1 - c = 0 by omega, Nat.pow_zero, Nat.div_one]
theorem dgp_down {c y j : Nat} (hj : j < c) : dgp (c + 1) y j = dgp c (y / 6) j := by
  have := dgp_lt (p := c) (b := y / 6) (j := j) (x := y % 6) hj (Nat.mod_lt _ (by decide))
  rw [← this, show y / 6 * 6 + y % 6 = y by omega]
theorem vldR_iff {N : Nat} : ∀ (c y m : Nat), vldR N c y m = true ↔ (∀ j, j < c → dgp c y j < N ∧ m.testBit (dgp c y j) = false) ∧ ∀ i j, i < j → j < c → dgp c y i ≠ dgp c y j
  | 0, y, m => ⟨fun _ => ⟨fun j hj => absurd hj (Nat.not_lt_zero j), fun i j _ hj => absurd hj (Nat.not_lt_zero j)⟩, fun _ => rfl⟩
  | c + 1, y, m => by
    have ih := vldR_iff (N := N) c (y / 6) (m ||| 2 ^ (y % 6))
    have bt : ∀ d, (m ||| 2 ^ (y % 6)).testBit d = (m.testBit d || decide (y % 6 = d)) := fun d => by rw [Nat.testBit_or, Nat.testBit_two_pow]
    unfold vldR
    by_cases q : N ≤ y % 6
    · rw [if_pos q]
      refine ⟨(fun z => by cases z), fun h => ?_⟩
      have := (h.1 c (by omega)).1
      rw [dgp_last] at this
      omega
    · rw [if_neg q]
      by_cases q2 : m.testBit (y % 6) = true
      · rw [if_pos q2]
        refine ⟨(fun z => by cases z), fun h => ?_⟩
        have := (h.1 c (by omega)).2
        rw [dgp_last, q2] at this
        cases this
      · rw [if_neg q2, ih]
        constructor
        · intro h
          refine ⟨fun j hj => ?_, fun i j hi hj => ?_⟩
          · by_cases e : j = c
            · rw [e, dgp_last]
              exact ⟨by omega, by cases hb : m.testBit (y % 6); rfl; exact absurd hb q2⟩
            · rw [dgp_down (by omega)]
              obtain ⟨h1, h2⟩ := h.1 j (by omega)
              rw [bt] at h2
              exact ⟨h1, (Bool.or_eq_false_iff.mp h2).1⟩
          · by_cases e : j = c
            · rw [e, dgp_last, dgp_down (by omega)]
              have h2 := (h.1 i (by omega)).2
              rw [bt] at h2
              exact fun z => absurd z.symm (of_decide_eq_false (Bool.or_eq_false_iff.mp h2).2)
            · rw [dgp_down (by omega), dgp_down (by omega)]
              exact h.2 i j hi (by omega)
        · intro h
          refine ⟨fun j hj => ?_, fun i j hi hj => ?_⟩
          · have h1 := h.1 j (by omega)
            have h2 := h.2 j c hj (by omega)
            rw [dgp_down hj] at h1 h2
            rw [dgp_last] at h2
            rw [bt, h1.2, Bool.false_or]
            exact ⟨h1.1, decide_eq_false (fun z => h2 z.symm)⟩
          · have h2 := h.2 i j hi (by omega)
            rw [dgp_down (by omega), dgp_down (by omega)] at h2
            exact h2
theorem vldR_VO {N z : Nat} : vldR N N z 0 = VOb N z := by
  have h : vldR N N z 0 = true ↔ VOb N z = true := by
    rw [vldR_iff, vob_iff]
    exact ⟨fun h => ⟨fun j hj => (h.1 j hj).1, h.2⟩, fun h => ⟨fun j hj => ⟨h.1 j hj, Nat.zero_testBit _⟩, h.2⟩⟩
  cases h1 : vldR N N z 0 <;> cases h2 : VOb N z
  · rfl
  · rw [h1, h2] at h; exact absurd (h.mpr rfl) (by decide)
  · rw [h1, h2] at h; exact absurd (h.mp rfl) (by decide)
  · rfl
theorem bv_ok {x : Int32} (h : isMk x) : bcn x = nI (bv x) ∧ btS x 8 0 0 = nI (bv x) ∧ bv x ≤ 8 := by
  obtain ⟨n, hn, rfl⟩ := h
  have e := (show ∀ n, n < 256 → bcn (nI n) = nI (bv (nI n)) ∧ bv (nI n) ≤ 8 by decide +kernel) n hn
  exact ⟨e.1, (bt_bc hn).trans e.1, e.2⟩
