-- 58: calls: doused, odds, mean, looked, plan
theorem ha_tb {x l : Nat} (hx : x < 64) (hl : l < 6) : haS (nI x) (nI l) = bi (x.testBit l) := (show ∀ x, x < 64 → ∀ l, l < 6 → haS (nI x) (nI l) = bi (x.testBit l) by decide +kernel) x hx l hl
theorem sk_tb {x l : Nat} (hx : x < 64) (hl : l < 6) : (nI x &&& (1 <<< (nI l &&& 31)) = 0) ↔ x.testBit l = false := (show ∀ x, x < 64 → ∀ l, l < 6 → ((nI x &&& (1 <<< (nI l &&& 31)) = 0) ↔ x.testBit l = false) by decide +kernel) x hx l hl
def wO (A : AS) (o : Nat) : AS := A.u5 A.D o A.B A.M A.W
theorem pas_wO (A : AS) (o l : Nat) (n : Int32) : pas (wO A o) l n = if haS (nI o) (nI l) = 1 then n else if hdC (fun w => facM (nI w) (nI l) (A.K l) (A.V l) n (nI A.D)) A.L = 0 then n else sayM (A.K l) (A.V l) n (A.R (4 * l + A.D % 4)) := rfl
theorem pas_self (A : AS) (l : Nat) (n : Int32) : pas A l n = if haS (nI A.O) (nI l) = 1 then n else if hdC (fun w => facM (nI w) (nI l) (A.K l) (A.V l) n (nI A.D)) A.L = 0 then n else sayM (A.K l) (A.V l) n (A.R (4 * l + A.D % 4)) := rfl
theorem pas_or {A : AS} {i l : Nat} (hO : A.O < 64) (hi : i < 64) (hl : l < 6) (n : Int32) : pas (wO A (A.O ||| i)) l n = if nI i &&& (1 <<< (nI l &&& 31)) = 0 then pas A l n else n := by
  have ho : A.O ||| i < 64 := Nat.or_lt_two_pow (n := 6) hO hi
  rw [pas_wO, pas_self, ha_tb ho hl, ha_tb hO hl, Nat.testBit_or]
  by_cases q : i.testBit l = false
  · rw [if_pos ((sk_tb hi hl).mpr q), q, Bool.or_false]
  · rw [if_neg (fun z => q ((sk_tb hi hl).mp z))]
    have : i.testBit l = true := by cases h : i.testBit l; exact absurd h q; rfl
    rw [this, Bool.or_true, if_pos (show bi true = 1 from rfl)]
theorem thA_or {A : AS} {i : Nat} (hN : A.N ≤ 6) (hO : A.O < 64) (hi : i < 64) (a : Int32) : thA (wO A (A.O ||| i)) 0 a = thA A (nI i) a := by
  have key : ∀ (c j : Nat) (n : Int32), j + c ≤ A.N → thS (pas (wO A (A.O ||| i))) 0 c j n = thS (pas A) (nI i) c j n := by
    intro c
    induction c with
    | zero => intro j n _; rfl
    | succ c ih =>
      intro j n h
      rw [thS, thS, if_pos Int32.zero_and, pas_or hO hi (by omega)]
      exact ih (j + 1) _ (by omega)
  exact key A.N 0 a (by omega)
theorem fdS_cg {f g : Int32 → Int32} {b : Int32} : ∀ (c i : Nat) (x y : Int32), (∀ j, j < i + c → f (nI j) = g (nI j)) → fdS f b c i x y = fdS g b c i x y
  | 0, _, _, _, _ => rfl
  | c + 1, i, x, y, h => by
    rw [fdS, fdS, h i (by omega)]
    split
    · exact fdS_cg c (i + 1) _ _ (fun j hj => h j (by omega))
    · split
      · exact fdS_cg c (i + 1) _ _ (fun j hj => h j (by omega))
      · exact fdS_cg c (i + 1) _ _ (fun j hj => h j (by omega))
def dsA (A : AS) (a b : Int32) : Int32 := fdS (fun s => thA A s a) b (2 ^ A.N) 0 (-5) 7
def fw (x : Int32) : Int32 := if x < 0 then 7 else bcn x
theorem bc_6 {i : Nat} (h : i < 64) : ¬ (7 : Int32) ≤ bcn (nI i) := (show ∀ i, i < 64 → ¬ (7 : Int32) ≤ bcn (nI i) by decide +kernel) i h
theorem fw_m5 : fw (-5) = 7 := by decide +kernel
theorem fw_nI {i : Nat} (h : i < 2 ^ 31) : fw (nI i) = bcn (nI i) := if_neg (nI_pos h)
theorem m5_neg : ((-5 : Int32) < 0) = True := eq_true (by decide +kernel)
theorem bo_s {f g : Nat → Int32} {fs ss fs' ss' : Nat → Int32} : ∀ (c i : Nat), (∀ j, j < i + c → f (ix (fs j)) = g (ix (fs' j)) ∧ ss j = ss' j) → boS f fs ss c i = boS g fs' ss' c i
  | 0, _, _ => rfl
  | c + 1, i, h => by
    obtain ⟨a, b⟩ := h i (by omega)
    rw [boS, boS, a, b, bo_s c (i + 1) (fun j hj => h j (by omega))]
def boA (A : AS) : Int32 := boS A.M A.b1 A.b2 A.bn 0
/-- the greatest divisor, c steps at most -/
def gcL : Nat → Int32 → Int32 → Int32
  | 0, a, _ => a
  | c + 1, a, b => if b = 0 then a else gcL c b (a - a / b * b)
def gcE : Nat → Int32 → Int32 → Bool
  | 0, _, b => decide (b = 0)
  | c + 1, a, b => if b = 0 then true else gcE c b (a - a / b * b)
theorem gc_ok {n m : Nat} (hn : n ≤ 40) (hm : m ≤ 6) (h0 : 0 < m) : gcE 100 (nI n) (nI m) = true ∧ ¬ gcL 100 (nI n) (nI m) = 0 := (show ∀ n, n ≤ 40 → ∀ m, m ≤ 6 → 0 < m → gcE 100 (nI n) (nI m) = true ∧ ¬ gcL 100 (nI n) (nI m) = 0 by decide +kernel) n hn m hm h0
def lwA (a b p : Int32) : Int64 := if p = 0 then (a / gcL 100 a b).toInt64 else (b / gcL 100 a b).toInt64
/-- how many of the maids' lamps -/
def odN (A : AS) (a b : Int32) : Nat → Nat → Nat → Nat
  | 0, _, n => n
  | c + 1, i, n => odN A a b c (i + 1) (if thA A (nI (2 ^ i)) a = b then n + 1 else n)
theorem odN_le (A : AS) (a b : Int32) : ∀ c i n, odN A a b c i n ≤ n + c
  | 0, _, n => Nat.le_refl _
  | c + 1, i, n => by
    have := odN_le A a b c (i + 1) (if thA A (nI (2 ^ i)) a = b then n + 1 else n)
    rw [odN]
    split at this <;> rename_i q
    · rw [if_pos q]; omega
    · rw [if_neg q]; omega
theorem bc_8 {m : Nat} (h : m < 256) : ∃ k, k ≤ 8 ∧ bcn (nI m) = nI k := ⟨(bcn (nI m)).toNatClampNeg, (show ∀ m, m < 256 → (bcn (nI m)).toNatClampNeg ≤ 8 ∧ bcn (nI m) = nI (bcn (nI m)).toNatClampNeg by decide +kernel) m h⟩
theorem mtS_b {f : Nat → Int32} : ∀ (c i s : Nat), (∀ j, j < i + c → isMk (f j)) → ∃ k, k ≤ s + 8 * c ∧ mtS f c i (nI s) = nI k
  | 0, i, s, _ => ⟨s, by omega, rfl⟩
  | c + 1, i, s, h => by
    obtain ⟨m, hm, em⟩ := h i (by omega)
    obtain ⟨k, k8, ek⟩ := bc_8 hm
    obtain ⟨r, r1, r2⟩ := mtS_b c (i + 1) (s + k) (fun j hj => h j (by omega))
    exact ⟨r, by omega, by rw [mtS, em, ek, nI_add, r2]⟩
theorem mtS_cg {f g : Nat → Int32} : ∀ (c i : Nat) (a : Int32), (∀ j, j < i + c → f j = g j) → mtS f c i a = mtS g c i a
  | 0, _, _, _ => rfl
  | c + 1, i, a, h => by
    rw [mtS, mtS, h i (by omega)]
    exact mtS_cg c (i + 1) _ (fun j hj => h j (by omega))
section ASK
variable {S : SC} {A : AS} {H : AH}
theorem bO2 (w : Wf A) {o : Nat} (ho : o < 2 ^ A.N) : Wf (wO A o) := w.u5 w.hD ho w.hB w.hM w.hW w.hW0
theorem MoA.out2 (g : MoA H A) (o : Nat) : Fr jM H (sI H 67 1 (nI o)) ∧ MoA (sI H 67 1 (nI o)) (wO A o) := ⟨(g.out o).1.mono (fun o i z => jM_of z), (g.out o).2⟩
theorem lp_dou {d : Nat} {a b : Int32} (w : Wf A) (ha : isMk a) : ∀ (c i : Nat) (best : Int32) (x : Nat) (H : AH), MoA H (wO A x) → i + c = 2 ^ A.N → (best = -5 ∨ ∃ s, s < 64 ∧ best = nI s) → ∃ H', MoA H' A ∧ Fr jM H H' ∧ ∀ Q, Wp S (d + 7) 185 31 [.ref 67, .int a, .int b, .int (nI A.O), .int best, .int (nI i)] [] H Q = Q (some (.int (fdS (fun s => thA A s a) b c i best (fw best)))) H'
  | 0, i, best, x, H, g, hc, hb => by
    have hN := pow_le w.hN
    obtain ⟨f, g2⟩ := g.out2 A.O
    have g3 : MoA (sI H 67 1 (nI A.O)) A := g2
    have e : nI (2 ^ A.N) ≤ nI i := nI_le (by omega) (by omega)
    have gn : aI H 67 0 = nI A.N := g.nN
    refine ⟨_, g3, f, fun Q => ?_⟩
    rw [sX8_doused_31]
    simp only [sX8_doused_0, sX8_doused_1, sX8_doused_2 (st := []), sX8_doused_5, sX8_doused_8, sX8_doused_16, sX8_doused_9, sX8_doused_18 (st := []), sX8_doused_10 (st := []), sX8_doused_13, sX8_doused_19, sX8_doused_20, sX8_doused_23, sX8_doused_24, sX8_doused_26, sX8_doused_28, sX8_doused_29, sX8_doused_33, sX8_doused_34, sX8_doused_35, sX8_doused_38, sX8_doused_39, sX8_doused_42, sX8_doused_97, sX8_doused_44, sX8_doused_98, sX8_doused_47, sX8_doused_65, sX8_doused_99, sX8_doused_48, sX8_doused_66, sX8_doused_102, sX8_doused_50 (st := []), sX8_doused_67, sX8_doused_104 (st := []), sX8_doused_53, sX8_doused_69, sX8_doused_54, sX8_doused_70, sX8_doused_56 (st := []), sX8_doused_73, sX8_doused_59, sX8_doused_74, sX8_doused_62, sX8_doused_75 (st := []), sX8_doused_91, sX8_doused_78, sX8_doused_94, sX8_doused_79, sX8_doused_82, sX8_doused_87, sX8_doused_84, sX8_doused_89, inb, nz_3, nz_4, nz_6, nz_8, nz_10, nz_100, nz_300, pushr_s, pushr_n, rv_s, rv_n, kd_sI, kd_sR, kd_sJ, sz_sI, sz_sR, sz_sJ, aR_sI, aJ_sI, aI_sR, aI_sJ, not_false_eq_true, true_and, and_true, true_or, or_true, or_false, false_or, eq_self, ite_true, ite_false, if_true, if_false, mk_67 g.lay, gn, shl_nI w.hN, e]
    rfl
  | c + 1, i, best, x, H, g, hc, hb => by
    have hN := pow_le w.hN
    have i64 : i < 64 := by omega
    have gn : aI H 67 0 = nI A.N := g.nN
    have e : ¬ nI (2 ^ A.N) ≤ nI i := nI_ge (by omega) (by omega)
    have go : ∃ H', MoA H' A ∧ Fr jM H H' ∧ ∀ Q, Wp S (d + 7) 185 65 [.ref 67, .int a, .int b, .int (nI A.O), .int best, .int (nI i)] [] H Q = Q (some (.int (if thA A (nI i) a = b then fdS (fun s => thA A s a) b c (i + 1) (nI i) (bcn (nI i)) else fdS (fun s => thA A s a) b c (i + 1) best (fw best)))) H' := by
      obtain ⟨f, g2⟩ := g.out2 (A.O ||| i)
      have g3 : MoA (sI H 67 1 (nI (A.O ||| i))) (wO A (A.O ||| i)) := g2
      have wo : Wf (wO A (A.O ||| i)) := bO2 w (Nat.or_lt_two_pow w.hO (by omega))
      obtain ⟨p1, ht⟩ := v_through (S := S) (d := d) (a := a) g3 wo ha
      rw [thA_or w.hN w.o64 i64] at ht
      by_cases q : thA A (nI i) a = b
      · obtain ⟨H2, a1, a2, a3⟩ := lp_dou (d := d) (b := b) w ha c (i + 1) (nI i) (A.O ||| i) _ (g3.q p1).1 (by omega) (Or.inr ⟨i, i64, rfl⟩)
        refine ⟨H2, a1, (f.trans (g3.q p1).2).trans a2, fun Q => ?_⟩
        rw [if_pos q, ← fw_nI (show i < 2 ^ 31 by omega), ← a3 Q]
        rw [sX8_doused_65 (st := [])]
        simp only [sX8_doused_0, sX8_doused_1, sX8_doused_2 (st := []), sX8_doused_5, sX8_doused_8, sX8_doused_16, sX8_doused_9, sX8_doused_18 (st := []), sX8_doused_10 (st := []), sX8_doused_13, sX8_doused_19, sX8_doused_20, sX8_doused_23, sX8_doused_24, sX8_doused_26, sX8_doused_28, sX8_doused_29, sX8_doused_33, sX8_doused_34, sX8_doused_35, sX8_doused_38, sX8_doused_39, sX8_doused_42, sX8_doused_97, sX8_doused_44, sX8_doused_98, sX8_doused_47, sX8_doused_65, sX8_doused_99, sX8_doused_48, sX8_doused_66, sX8_doused_102, sX8_doused_50 (st := []), sX8_doused_67, sX8_doused_104 (st := []), sX8_doused_53, sX8_doused_69, sX8_doused_54, sX8_doused_70, sX8_doused_56 (st := []), sX8_doused_73, sX8_doused_59, sX8_doused_74, sX8_doused_62, sX8_doused_75 (st := []), sX8_doused_91, sX8_doused_78, sX8_doused_94, sX8_doused_79, sX8_doused_82, sX8_doused_87, sX8_doused_84, sX8_doused_89, inb, nz_3, nz_4, nz_6, nz_8, nz_10, nz_100, nz_300, pushr_s, pushr_n, rv_s, rv_n, kd_sI, kd_sR, kd_sJ, sz_sI, sz_sR, sz_sJ, aR_sI, aJ_sI, aI_sR, aI_sJ, not_false_eq_true, true_and, and_true, true_or, or_true, or_false, false_or, eq_self, ite_true, ite_false, if_true, if_false, mk_67 g.lay, nI_or, ht, q, nI_1]
      · obtain ⟨H2, a1, a2, a3⟩ := lp_dou (d := d) (b := b) w ha c (i + 1) best (A.O ||| i) _ (g3.q p1).1 (by omega) hb
        refine ⟨H2, a1, (f.trans (g3.q p1).2).trans a2, fun Q => ?_⟩
        rw [if_neg q, ← a3 Q]
        rw [sX8_doused_65 (st := [])]
        simp only [sX8_doused_0, sX8_doused_1, sX8_doused_2 (st := []), sX8_doused_5, sX8_doused_8, sX8_doused_16, sX8_doused_9, sX8_doused_18 (st := []), sX8_doused_10 (st := []), sX8_doused_13, sX8_doused_19, sX8_doused_20, sX8_doused_23, sX8_doused_24, sX8_doused_26, sX8_doused_28, sX8_doused_29, sX8_doused_33, sX8_doused_34, sX8_doused_35, sX8_doused_38, sX8_doused_39, sX8_doused_42, sX8_doused_97, sX8_doused_44, sX8_doused_98, sX8_doused_47, sX8_doused_65, sX8_doused_99, sX8_doused_48, sX8_doused_66, sX8_doused_102, sX8_doused_50 (st := []), sX8_doused_67, sX8_doused_104 (st := []), sX8_doused_53, sX8_doused_69, sX8_doused_54, sX8_doused_70, sX8_doused_56 (st := []), sX8_doused_73, sX8_doused_59, sX8_doused_74, sX8_doused_62, sX8_doused_75 (st := []), sX8_doused_91, sX8_doused_78, sX8_doused_94, sX8_doused_79, sX8_doused_82, sX8_doused_87, sX8_doused_84, sX8_doused_89, inb, nz_3, nz_4, nz_6, nz_8, nz_10, nz_100, nz_300, pushr_s, pushr_n, rv_s, rv_n, kd_sI, kd_sR, kd_sJ, sz_sI, sz_sR, sz_sJ, aR_sI, aJ_sI, aI_sR, aI_sJ, not_false_eq_true, true_and, and_true, true_or, or_true, or_false, false_or, eq_self, ite_true, ite_false, if_true, if_false, mk_67 g.lay, nI_or, ht, q, nI_1]
    have hbi := fun Q => m_bits (S := S) (d := d + 5) (Q := Q) (x := nI i) g.lay
    rw [bt_bc (show i < 256 by omega)] at hbi
    rcases hb with rfl | ⟨s, s64, rfl⟩
    · obtain ⟨H2, a1, a2, a3⟩ := go
      refine ⟨H2, a1, a2, fun Q => ?_⟩
      rw [fdS, fw_m5, if_neg (bc_6 i64)]
      rw [fw_m5] at a3
      have : (if thA A (nI i) a = b then fdS (fun s => thA A s a) b c (i + 1) (nI i) (bcn (nI i)) else fdS (fun s => thA A s a) b c (i + 1) (-5) 7) = (if (fun s => thA A s a) (nI i) = b then fdS (fun s => thA A s a) b c (i + 1) (nI i) (bcn (nI i)) else fdS (fun s => thA A s a) b c (i + 1) (-5) 7) := rfl
      rw [← this, ← a3 Q, sX8_doused_31]
      simp only [sX8_doused_0, sX8_doused_1, sX8_doused_2 (st := []), sX8_doused_5, sX8_doused_8, sX8_doused_16, sX8_doused_9, sX8_doused_18 (st := []), sX8_doused_10 (st := []), sX8_doused_13, sX8_doused_19, sX8_doused_20, sX8_doused_23, sX8_doused_24, sX8_doused_26, sX8_doused_28, sX8_doused_29, sX8_doused_33, sX8_doused_34, sX8_doused_35, sX8_doused_38, sX8_doused_39, sX8_doused_42, sX8_doused_97, sX8_doused_44, sX8_doused_98, sX8_doused_47, sX8_doused_99, sX8_doused_48, sX8_doused_66, sX8_doused_102, sX8_doused_50 (st := []), sX8_doused_67, sX8_doused_104 (st := []), sX8_doused_53, sX8_doused_69, sX8_doused_54, sX8_doused_70, sX8_doused_56 (st := []), sX8_doused_73, sX8_doused_59, sX8_doused_74, sX8_doused_62, sX8_doused_75 (st := []), sX8_doused_91, sX8_doused_78, sX8_doused_94, sX8_doused_79, sX8_doused_82, sX8_doused_87, sX8_doused_84, sX8_doused_89, inb, nz_3, nz_4, nz_6, nz_8, nz_10, nz_100, nz_300, pushr_s, pushr_n, rv_s, rv_n, kd_sI, kd_sR, kd_sJ, sz_sI, sz_sR, sz_sJ, aR_sI, aJ_sI, aI_sR, aI_sJ, not_false_eq_true, true_and, and_true, true_or, or_true, or_false, false_or, eq_self, ite_true, ite_false, if_true, if_false, mk_67 g.lay, gn, shl_nI w.hN, e, m5_neg]
    · have sp : ¬ nI s < 0 := nI_pos (by omega)
      have hbs := fun Q => m_bits (S := S) (d := d + 5) (Q := Q) (x := nI s) g.lay
      rw [bt_bc (show s < 256 by omega)] at hbs
      rw [fdS, fw_nI (show s < 2 ^ 31 by omega)]
      by_cases q : bcn (nI s) ≤ bcn (nI i)
      · have q' : ¬ bcn (nI i) < bcn (nI s) := Int32.not_lt.mpr q
        obtain ⟨H2, a1, a2, a3⟩ := lp_dou (d := d) (b := b) w ha c (i + 1) (nI s) x H g (by omega) (Or.inr ⟨s, s64, rfl⟩)
        refine ⟨H2, a1, a2, fun Q => ?_⟩
        rw [if_pos q, ← fw_nI (show s < 2 ^ 31 by omega), ← a3 Q, sX8_doused_31]
        simp only [sX8_doused_0, sX8_doused_1, sX8_doused_2 (st := []), sX8_doused_5, sX8_doused_8, sX8_doused_16, sX8_doused_9, sX8_doused_18 (st := []), sX8_doused_10 (st := []), sX8_doused_13, sX8_doused_19, sX8_doused_20, sX8_doused_23, sX8_doused_24, sX8_doused_26, sX8_doused_28, sX8_doused_29, sX8_doused_33, sX8_doused_34, sX8_doused_35, sX8_doused_38, sX8_doused_39, sX8_doused_42, sX8_doused_97, sX8_doused_44, sX8_doused_98, sX8_doused_47, sX8_doused_99, sX8_doused_48, sX8_doused_66, sX8_doused_102, sX8_doused_50 (st := []), sX8_doused_67, sX8_doused_104 (st := []), sX8_doused_53, sX8_doused_69, sX8_doused_54, sX8_doused_70, sX8_doused_56 (st := []), sX8_doused_73, sX8_doused_59, sX8_doused_74, sX8_doused_62, sX8_doused_75 (st := []), sX8_doused_91, sX8_doused_78, sX8_doused_94, sX8_doused_79, sX8_doused_82, sX8_doused_87, sX8_doused_84, sX8_doused_89, inb, nz_3, nz_4, nz_6, nz_8, nz_10, nz_100, nz_300, pushr_s, pushr_n, rv_s, rv_n, kd_sI, kd_sR, kd_sJ, sz_sI, sz_sR, sz_sJ, aR_sI, aJ_sI, aI_sR, aI_sJ, not_false_eq_true, true_and, and_true, true_or, or_true, or_false, false_or, eq_self, ite_true, ite_false, if_true, if_false, mk_67 g.lay, gn, shl_nI w.hN, e, sp, hbi, hbs, q', nI_1]
      · have q' : bcn (nI i) < bcn (nI s) := Int32.not_le.mp q
        obtain ⟨H2, a1, a2, a3⟩ := go
        refine ⟨H2, a1, a2, fun Q => ?_⟩
        rw [if_neg q]
        rw [fw_nI (show s < 2 ^ 31 by omega)] at a3
        refine Eq.trans ?_ (a3 Q)
        rw [sX8_doused_31]
        simp only [sX8_doused_0, sX8_doused_1, sX8_doused_2 (st := []), sX8_doused_5, sX8_doused_8, sX8_doused_16, sX8_doused_9, sX8_doused_18 (st := []), sX8_doused_10 (st := []), sX8_doused_13, sX8_doused_19, sX8_doused_20, sX8_doused_23, sX8_doused_24, sX8_doused_26, sX8_doused_28, sX8_doused_29, sX8_doused_33, sX8_doused_34, sX8_doused_35, sX8_doused_38, sX8_doused_39, sX8_doused_42, sX8_doused_97, sX8_doused_44, sX8_doused_98, sX8_doused_47, sX8_doused_99, sX8_doused_48, sX8_doused_66, sX8_doused_102, sX8_doused_50 (st := []), sX8_doused_67, sX8_doused_104 (st := []), sX8_doused_53, sX8_doused_69, sX8_doused_54, sX8_doused_70, sX8_doused_56 (st := []), sX8_doused_73, sX8_doused_59, sX8_doused_74, sX8_doused_62, sX8_doused_75 (st := []), sX8_doused_91, sX8_doused_78, sX8_doused_94, sX8_doused_79, sX8_doused_82, sX8_doused_87, sX8_doused_84, sX8_doused_89, inb, nz_3, nz_4, nz_6, nz_8, nz_10, nz_100, nz_300, pushr_s, pushr_n, rv_s, rv_n, kd_sI, kd_sR, kd_sJ, sz_sI, sz_sR, sz_sJ, aR_sI, aJ_sI, aI_sR, aI_sJ, not_false_eq_true, true_and, and_true, true_or, or_true, or_false, false_or, eq_self, ite_true, ite_false, if_true, if_false, mk_67 g.lay, gn, shl_nI w.hN, e, sp, hbi, hbs, q']
theorem k_doused (w : Wf A) (a b : Int32) : Now S A 88 185 [.ref 0, .int a, .int b] [.ref 67, .int a, .int b, hole, hole, hole] := by
  rcases rg_c a 256 (by decide) with e | ⟨e, m, hm, rfl⟩
  · refine now_same w (.int (-2)) (fun H h X d Q => ?_) (fun H g d Q => ?_)
    · simp only [sX7_doused_0, sX7_doused_1 (st := []), sX7_doused_4, sX7_doused_7, sX7_doused_14, sX7_doused_8 (st := []), sX7_doused_16 (st := []), sX7_doused_11, sX7_doused_17, sX7_doused_18, sX7_doused_21, sX7_doused_22, sX7_doused_23 (st := []), sX7_doused_26 (st := []), inb, nz_3, nz_4, nz_6, nz_8, nz_10, nz_100, nz_300, pushr_s, pushr_n, rv_s, rv_n, kd_sI, kd_sR, kd_sJ, sz_sI, sz_sR, sz_sJ, aR_sI, aJ_sI, aI_sR, aI_sJ, not_false_eq_true, true_and, and_true, true_or, or_true, or_false, false_or, eq_self, ite_true, ite_false, if_true, if_false, X.k0, w_isMarks, e]
    · simp only [sX8_doused_0, sX8_doused_1, sX8_doused_2 (st := []), sX8_doused_5, sX8_doused_8, sX8_doused_16, sX8_doused_9, sX8_doused_18 (st := []), sX8_doused_10 (st := []), sX8_doused_13, sX8_doused_19, sX8_doused_20, sX8_doused_23, sX8_doused_24, sX8_doused_26, sX8_doused_28, sX8_doused_29, sX8_doused_33, sX8_doused_34, sX8_doused_35, sX8_doused_38, sX8_doused_39, sX8_doused_42, sX8_doused_97, sX8_doused_44, sX8_doused_98, sX8_doused_47, sX8_doused_65, sX8_doused_99, sX8_doused_48, sX8_doused_66, sX8_doused_102, sX8_doused_50 (st := []), sX8_doused_67, sX8_doused_104 (st := []), sX8_doused_53, sX8_doused_69, sX8_doused_54, sX8_doused_70, sX8_doused_56 (st := []), sX8_doused_73, sX8_doused_59, sX8_doused_74, sX8_doused_62, sX8_doused_75 (st := []), sX8_doused_91, sX8_doused_78, sX8_doused_94, sX8_doused_79, sX8_doused_82, sX8_doused_87, sX8_doused_84, sX8_doused_89, inb, nz_3, nz_4, nz_6, nz_8, nz_10, nz_100, nz_300, pushr_s, pushr_n, rv_s, rv_n, kd_sI, kd_sR, kd_sJ, sz_sI, sz_sR, sz_sJ, aR_sI, aJ_sI, aI_sR, aI_sJ, not_false_eq_true, true_and, and_true, true_or, or_true, or_false, false_or, eq_self, ite_true, ite_false, if_true, if_false, mk_67 g.lay, n_isMarks g.lay, e]
  rcases rg_c b 256 (by decide) with e2 | ⟨e2, m2, hm2, rfl⟩
  · refine now_same w (.int (-2)) (fun H h X d Q => ?_) (fun H g d Q => ?_)
    · simp only [sX7_doused_0, sX7_doused_1 (st := []), sX7_doused_4, sX7_doused_7, sX7_doused_14, sX7_doused_8 (st := []), sX7_doused_16 (st := []), sX7_doused_11, sX7_doused_17, sX7_doused_18, sX7_doused_21, sX7_doused_22, sX7_doused_23 (st := []), sX7_doused_26 (st := []), inb, nz_3, nz_4, nz_6, nz_8, nz_10, nz_100, nz_300, pushr_s, pushr_n, rv_s, rv_n, kd_sI, kd_sR, kd_sJ, sz_sI, sz_sR, sz_sJ, aR_sI, aJ_sI, aI_sR, aI_sJ, not_false_eq_true, true_and, and_true, true_or, or_true, or_false, false_or, eq_self, ite_true, ite_false, if_true, if_false, X.k0, w_isMarks, e, e2, nz_1]
    · simp only [sX8_doused_0, sX8_doused_1, sX8_doused_2 (st := []), sX8_doused_5, sX8_doused_8, sX8_doused_16, sX8_doused_9, sX8_doused_18 (st := []), sX8_doused_10 (st := []), sX8_doused_13, sX8_doused_19, sX8_doused_20, sX8_doused_23, sX8_doused_24, sX8_doused_26, sX8_doused_28, sX8_doused_29, sX8_doused_33, sX8_doused_34, sX8_doused_35, sX8_doused_38, sX8_doused_39, sX8_doused_42, sX8_doused_97, sX8_doused_44, sX8_doused_98, sX8_doused_47, sX8_doused_65, sX8_doused_99, sX8_doused_48, sX8_doused_66, sX8_doused_102, sX8_doused_50 (st := []), sX8_doused_67, sX8_doused_104 (st := []), sX8_doused_53, sX8_doused_69, sX8_doused_54, sX8_doused_70, sX8_doused_56 (st := []), sX8_doused_73, sX8_doused_59, sX8_doused_74, sX8_doused_62, sX8_doused_75 (st := []), sX8_doused_91, sX8_doused_78, sX8_doused_94, sX8_doused_79, sX8_doused_82, sX8_doused_87, sX8_doused_84, sX8_doused_89, inb, nz_3, nz_4, nz_6, nz_8, nz_10, nz_100, nz_300, pushr_s, pushr_n, rv_s, rv_n, kd_sI, kd_sR, kd_sJ, sz_sI, sz_sR, sz_sJ, aR_sI, aJ_sI, aI_sR, aI_sJ, not_false_eq_true, true_and, and_true, true_or, or_true, or_false, false_or, eq_self, ite_true, ite_false, if_true, if_false, mk_67 g.lay, n_isMarks g.lay, e, e2, nz_1]
  refine now_ask w (.int (dsA A (nI m) (nI m2))) (fun H h X d Q => ?_) (fun H g d => ?_)
  · have ht := fun Q => w_fewest (S := S) (d := d + 33) (Q := Q) (a := nI m) (b := nI m2) (h.v w)
    rw [fdS_cg (g := fun s => thA A s (nI m)) (2 ^ A.N) 0 (-5) 7 (fun j _ => h.qth w ⟨m, hm, rfl⟩)] at ht
    simp only [sX7_doused_0, sX7_doused_1 (st := []), sX7_doused_4, sX7_doused_7, sX7_doused_14, sX7_doused_8 (st := []), sX7_doused_16 (st := []), sX7_doused_11, sX7_doused_17, sX7_doused_18, sX7_doused_21, sX7_doused_22, sX7_doused_23 (st := []), sX7_doused_26 (st := []), inb, nz_3, nz_4, nz_6, nz_8, nz_10, nz_100, nz_300, pushr_s, pushr_n, rv_s, rv_n, kd_sI, kd_sR, kd_sJ, sz_sI, sz_sR, sz_sJ, aR_sI, aJ_sI, aI_sR, aI_sJ, not_false_eq_true, true_and, and_true, true_or, or_true, or_false, false_or, eq_self, ite_true, ite_false, if_true, if_false, X.k0, X.r0, h.lay.1, w_isMarks, e, e2, nz_1, ht]
    rfl
  · obtain ⟨H2, a1, a2, a3⟩ := lp_dou (S := S) (d := d + 33) (b := nI m2) w ⟨m, hm, rfl⟩ (2 ^ A.N) 0 (-5) A.O H g (by omega) (Or.inl rfl)
    rw [nI_0, fw_m5] at a3
    refine ⟨H2, a1, a2, fun Q => ?_⟩
    simp only [sX8_doused_0, sX8_doused_1, sX8_doused_2 (st := []), sX8_doused_5, sX8_doused_8, sX8_doused_16, sX8_doused_9, sX8_doused_18 (st := []), sX8_doused_10 (st := []), sX8_doused_13, sX8_doused_19, sX8_doused_20, sX8_doused_23, sX8_doused_24, sX8_doused_26, sX8_doused_28, sX8_doused_29, sX8_doused_33, sX8_doused_34, sX8_doused_35, sX8_doused_38, sX8_doused_39, sX8_doused_42, sX8_doused_97, sX8_doused_44, sX8_doused_98, sX8_doused_47, sX8_doused_65, sX8_doused_99, sX8_doused_48, sX8_doused_66, sX8_doused_102, sX8_doused_50 (st := []), sX8_doused_67, sX8_doused_104 (st := []), sX8_doused_53, sX8_doused_69, sX8_doused_54, sX8_doused_70, sX8_doused_56 (st := []), sX8_doused_73, sX8_doused_59, sX8_doused_74, sX8_doused_62, sX8_doused_75 (st := []), sX8_doused_91, sX8_doused_78, sX8_doused_94, sX8_doused_79, sX8_doused_82, sX8_doused_87, sX8_doused_84, sX8_doused_89, inb, nz_3, nz_4, nz_6, nz_8, nz_10, nz_100, nz_300, pushr_s, pushr_n, rv_s, rv_n, kd_sI, kd_sR, kd_sJ, sz_sI, sz_sR, sz_sJ, aR_sI, aJ_sI, aI_sR, aI_sJ, not_false_eq_true, true_and, and_true, true_or, or_true, or_false, false_or, eq_self, ite_true, ite_false, if_true, if_false, mk_67 g.lay, n_isMarks g.lay, e, e2, nz_1, g.nO, a3]
    rfl
theorem lp_look {d : Nat} {Q : Option Value → AH → Prop} (g : MoA H A) (w : Wf A) : ∀ (c i : Nat), i + c = A.bn → Wp S d 199 2 [.ref 67, .int (nI i)] [] H Q = Q (some (.int (boS A.M A.b1 A.b2 c i))) H
  | 0, i, hc => by
    have hb := w.hb
    have e : nI A.bn ≤ nI i := nI_le (by omega) (by omega)
    rw [sX8_looked_2]
    simp only [sX8_looked_0, sX8_looked_1, sX8_looked_3, sX8_looked_4, sX8_looked_7, sX8_looked_10, sX8_looked_38, sX8_looked_11, sX8_looked_40 (st := []), sX8_looked_14, sX8_looked_15, sX8_looked_18, sX8_looked_19, sX8_looked_20, sX8_looked_21, sX8_looked_22, sX8_looked_25, sX8_looked_26, sX8_looked_27, sX8_looked_30, sX8_looked_32, sX8_looked_31 (st := []), sX8_looked_35, inb, nz_3, nz_4, nz_6, nz_8, nz_10, nz_100, nz_300, pushr_s, pushr_n, rv_s, rv_n, kd_sI, kd_sR, kd_sJ, sz_sI, sz_sR, sz_sJ, aR_sI, aJ_sI, aI_sR, aI_sJ, not_false_eq_true, true_and, and_true, true_or, or_true, or_false, false_or, eq_self, ite_true, ite_false, if_true, if_false, mk_67 g.lay, g.nb, e]
    rfl
  | c + 1, i, hc => by
    have hb := w.hb
    have hP := w.hP
    have e : ¬ nI A.bn ≤ nI i := nI_ge (by omega) (by omega)
    have ih := lp_look (d := d) (Q := Q) g w c (i + 1) (by omega)
    have lc : (nI i).toNatClampNeg = i := nI_clamp (by omega)
    have l1 : ¬ (nI i < 0 ∨ 8 ≤ i) := inN (by omega) (by omega)
    obtain ⟨p, hp, ep⟩ := w.hb1 i (by omega)
    have pc : (nI p).toNatClampNeg = p := nI_clamp (by omega)
    have p1 : ¬ (nI p < 0 ∨ 5 ≤ p) := inN (by omega) (by omega)
    have e1 : aI H 92 i = nI p := (g.eb i (by omega)).1.trans ep
    have e2 : aI H 93 i = A.b2 i := (g.eb i (by omega)).2
    have e3 : aI H 71 p = A.M p := g.eM p (by omega)
    rw [sX8_looked_2, boS, ep, ix_nI (by omega)]
    by_cases q : A.M p = A.b2 i
    · rw [if_pos q]
      simp only [sX8_looked_0, sX8_looked_1, sX8_looked_3, sX8_looked_4, sX8_looked_7, sX8_looked_10, sX8_looked_38, sX8_looked_11, sX8_looked_40 (st := []), sX8_looked_14, sX8_looked_15, sX8_looked_18, sX8_looked_19, sX8_looked_20, sX8_looked_21, sX8_looked_22, sX8_looked_25, sX8_looked_26, sX8_looked_27, sX8_looked_30, sX8_looked_32, sX8_looked_31 (st := []), sX8_looked_35, inb, nz_3, nz_4, nz_6, nz_8, nz_10, nz_100, nz_300, pushr_s, pushr_n, rv_s, rv_n, kd_sI, kd_sR, kd_sJ, sz_sI, sz_sR, sz_sJ, aR_sI, aJ_sI, aI_sR, aI_sJ, not_false_eq_true, true_and, and_true, true_or, or_true, or_false, false_or, eq_self, ite_true, ite_false, if_true, if_false, mk_67 g.lay, mr_8 g.lay, mk_71 g.lay, mz_71 g.lay, mr_43 g.lay, mk_92 g.lay, mz_92 g.lay, mr_44 g.lay, mk_93 g.lay, mz_93 g.lay, g.nb, e, lc, l1, e1, e2, pc, p1, e3, q, nI_1, ih]
    · rw [if_neg q]
      simp only [sX8_looked_0, sX8_looked_1, sX8_looked_3, sX8_looked_4, sX8_looked_7, sX8_looked_10, sX8_looked_38, sX8_looked_11, sX8_looked_40 (st := []), sX8_looked_14, sX8_looked_15, sX8_looked_18, sX8_looked_19, sX8_looked_20, sX8_looked_21, sX8_looked_22, sX8_looked_25, sX8_looked_26, sX8_looked_27, sX8_looked_30, sX8_looked_32, sX8_looked_31 (st := []), sX8_looked_35, inb, nz_3, nz_4, nz_6, nz_8, nz_10, nz_100, nz_300, pushr_s, pushr_n, rv_s, rv_n, kd_sI, kd_sR, kd_sJ, sz_sI, sz_sR, sz_sJ, aR_sI, aJ_sI, aI_sR, aI_sJ, not_false_eq_true, true_and, and_true, true_or, or_true, or_false, false_or, eq_self, ite_true, ite_false, if_true, if_false, mk_67 g.lay, mr_8 g.lay, mk_71 g.lay, mz_71 g.lay, mr_43 g.lay, mk_92 g.lay, mz_92 g.lay, mr_44 g.lay, mk_93 g.lay, mz_93 g.lay, g.nb, e, lc, l1, e1, e2, pc, p1, e3, q]
theorem k_looked (w : Wf A) : Now S A 98 199 [.ref 0] [.ref 67, hole] := by
  have hP := w.hP
  refine now_same w (.int (boA A)) (fun H h X d Q => ?_) (fun H g d Q => ?_)
  · have hb := fun d Q => w_book (S := S) (d := d) (Q := Q) h.lay h.eb.1 w.hb (fun i hi => by
      obtain ⟨p, hp, ep⟩ := w.hb1 i hi
      rw [(h.eb.2 i hi).1, ep]
      exact nI_in (by omega) (by omega))
    rw [bo_s (g := A.M) (fs' := A.b1) (ss' := A.b2) A.bn 0 (fun j hj => ⟨?_, ?_⟩)] at hb
    · simp only [sX7_looked_0, sX7_looked_1, sX7_looked_4 (st := []), sX7_looked_7 (st := []), inb, nz_3, nz_4, nz_6, nz_8, nz_10, nz_100, nz_300, pushr_s, pushr_n, rv_s, rv_n, kd_sI, kd_sR, kd_sJ, sz_sI, sz_sR, sz_sJ, aR_sI, aJ_sI, aI_sR, aI_sJ, not_false_eq_true, true_and, and_true, true_or, or_true, or_false, false_or, eq_self, ite_true, ite_false, if_true, if_false, X.k0, X.r0, h.lay.1, hb]
      rfl
    · obtain ⟨p, hp, ep⟩ := w.hb1 j (by omega)
      rw [(h.eb.2 j (by omega)).1, ep, ix_nI (by omega)]
      exact h.eM p (by omega)
    · exact (h.eb.2 j (by omega)).2
  · have ih := lp_look (S := S) (d := d + 40) (Q := Q) g w A.bn 0 (by omega)
    rw [nI_0] at ih
    simp only [sX8_looked_0, sX8_looked_1, sX8_looked_3, sX8_looked_4, sX8_looked_7, sX8_looked_10, sX8_looked_38, sX8_looked_11, sX8_looked_40 (st := []), sX8_looked_14, sX8_looked_15, sX8_looked_18, sX8_looked_19, sX8_looked_20, sX8_looked_21, sX8_looked_22, sX8_looked_25, sX8_looked_26, sX8_looked_27, sX8_looked_30, sX8_looked_32, sX8_looked_31 (st := []), sX8_looked_35, inb, nz_3, nz_4, nz_6, nz_8, nz_10, nz_100, nz_300, pushr_s, pushr_n, rv_s, rv_n, kd_sI, kd_sR, kd_sJ, sz_sI, sz_sR, sz_sJ, aR_sI, aJ_sI, aI_sR, aI_sJ, not_false_eq_true, true_and, and_true, true_or, or_true, or_false, false_or, eq_self, ite_true, ite_false, if_true, if_false, ih]
    rfl
theorem lp_low {d : Nat} {a b p l6 : Int32} {Q : Option Value → AH → Prop} : ∀ (c i : Nat) (x y : Int32) (l6 : Value), i + c = 100 → ¬ gcL c x y = 0 → Wp S d 121 8 [.int a, .int b, .int p, .int x, .int y, .int (nI i), l6] [] H Q = Q (some (.long (if p = 0 then (a / gcL c x y).toInt64 else (b / gcL c x y).toInt64))) H
  | 0, i, x, y, l6, hc, h0 => by
    have e : 100 ≤ nI i := nI_le (a := 100) (by omega) (by omega)
    have h0 : ¬ x = 0 := h0
    rw [sX7_lowestTerms_8]
    simp only [sX7_lowestTerms_0, sX7_lowestTerms_1, sX7_lowestTerms_2, sX7_lowestTerms_3, sX7_lowestTerms_5, sX7_lowestTerms_6, sX7_lowestTerms_10, sX7_lowestTerms_12, sX7_lowestTerms_15, sX7_lowestTerms_39, sX7_lowestTerms_17, sX7_lowestTerms_40, sX7_lowestTerms_20, sX7_lowestTerms_43, sX7_lowestTerms_47, sX7_lowestTerms_21, sX7_lowestTerms_46 (st := []), sX7_lowestTerms_48, sX7_lowestTerms_23, sX7_lowestTerms_51, sX7_lowestTerms_58, sX7_lowestTerms_24, sX7_lowestTerms_52, sX7_lowestTerms_59, sX7_lowestTerms_26, sX7_lowestTerms_53, sX7_lowestTerms_60, sX7_lowestTerms_28, sX7_lowestTerms_54, sX7_lowestTerms_61, sX7_lowestTerms_29, sX7_lowestTerms_55, sX7_lowestTerms_62 (st := []), sX7_lowestTerms_31, sX7_lowestTerms_33, sX7_lowestTerms_36, inb, nz_3, nz_4, nz_6, nz_8, nz_10, nz_100, nz_300, pushr_s, pushr_n, rv_s, rv_n, kd_sI, kd_sR, kd_sJ, sz_sI, sz_sR, sz_sJ, aR_sI, aJ_sI, aI_sR, aI_sJ, not_false_eq_true, true_and, and_true, true_or, or_true, or_false, false_or, eq_self, ite_true, ite_false, if_true, if_false, e, h0]
    show _ = Q (some (.long (if p = 0 then (a / x).toInt64 else (b / x).toInt64))) H
    split <;> rfl
  | c + 1, i, x, y, l6, hc, h0 => by
    have e : ¬ 100 ≤ nI i := nI_ge (b := 100) (by omega) (by omega)
    rw [sX7_lowestTerms_8]
    by_cases q : y = 0
    · have eg : gcL (c + 1) x y = x := if_pos q
      rw [eg] at h0 ⊢
      simp only [sX7_lowestTerms_0, sX7_lowestTerms_1, sX7_lowestTerms_2, sX7_lowestTerms_3, sX7_lowestTerms_5, sX7_lowestTerms_6, sX7_lowestTerms_10, sX7_lowestTerms_12, sX7_lowestTerms_15, sX7_lowestTerms_39, sX7_lowestTerms_17, sX7_lowestTerms_40, sX7_lowestTerms_20, sX7_lowestTerms_43, sX7_lowestTerms_47, sX7_lowestTerms_21, sX7_lowestTerms_46 (st := []), sX7_lowestTerms_48, sX7_lowestTerms_23, sX7_lowestTerms_51, sX7_lowestTerms_58, sX7_lowestTerms_24, sX7_lowestTerms_52, sX7_lowestTerms_59, sX7_lowestTerms_26, sX7_lowestTerms_53, sX7_lowestTerms_60, sX7_lowestTerms_28, sX7_lowestTerms_54, sX7_lowestTerms_61, sX7_lowestTerms_29, sX7_lowestTerms_55, sX7_lowestTerms_62 (st := []), sX7_lowestTerms_31, sX7_lowestTerms_33, sX7_lowestTerms_36, inb, nz_3, nz_4, nz_6, nz_8, nz_10, nz_100, nz_300, pushr_s, pushr_n, rv_s, rv_n, kd_sI, kd_sR, kd_sJ, sz_sI, sz_sR, sz_sJ, aR_sI, aJ_sI, aI_sR, aI_sJ, not_false_eq_true, true_and, and_true, true_or, or_true, or_false, false_or, eq_self, ite_true, ite_false, if_true, if_false, e, q, h0]
      split <;> rfl
    · have eg : gcL (c + 1) x y = gcL c y (x - x / y * y) := if_neg q
      rw [eg] at h0 ⊢
      have ih := fun l6 => lp_low (d := d) (a := a) (b := b) (p := p) (l6 := 0) (Q := Q) c (i + 1) y (x - x / y * y) l6 (by omega) h0
      simp only [sX7_lowestTerms_0, sX7_lowestTerms_1, sX7_lowestTerms_2, sX7_lowestTerms_3, sX7_lowestTerms_5, sX7_lowestTerms_6, sX7_lowestTerms_10, sX7_lowestTerms_12, sX7_lowestTerms_15, sX7_lowestTerms_39, sX7_lowestTerms_17, sX7_lowestTerms_40, sX7_lowestTerms_20, sX7_lowestTerms_43, sX7_lowestTerms_47, sX7_lowestTerms_21, sX7_lowestTerms_46 (st := []), sX7_lowestTerms_48, sX7_lowestTerms_23, sX7_lowestTerms_51, sX7_lowestTerms_58, sX7_lowestTerms_24, sX7_lowestTerms_52, sX7_lowestTerms_59, sX7_lowestTerms_26, sX7_lowestTerms_53, sX7_lowestTerms_60, sX7_lowestTerms_28, sX7_lowestTerms_54, sX7_lowestTerms_61, sX7_lowestTerms_29, sX7_lowestTerms_55, sX7_lowestTerms_62 (st := []), sX7_lowestTerms_31, sX7_lowestTerms_33, sX7_lowestTerms_36, inb, nz_3, nz_4, nz_6, nz_8, nz_10, nz_100, nz_300, pushr_s, pushr_n, rv_s, rv_n, kd_sI, kd_sR, kd_sJ, sz_sI, sz_sR, sz_sJ, aR_sI, aJ_sI, aI_sR, aI_sJ, not_false_eq_true, true_and, and_true, true_or, or_true, or_false, false_or, eq_self, ite_true, ite_false, if_true, if_false, e, q, nI_1, ih]
theorem w_low {d n m : Nat} {p : Int32} {Q : Option Value → AH → Prop} (hn : n ≤ 40) (hm : m ≤ 6) (h0 : 0 < m) : Wp S d 121 0 [.int (nI n), .int (nI m), .int p, hole, hole, hole, hole] [] H Q = Q (some (.long (lwA (nI n) (nI m) p))) H := by
  have ih := fun l6 => lp_low (S := S) (H := H) (d := d) (a := nI n) (b := nI m) (p := p) (l6 := 0) (Q := Q) 100 0 (nI n) (nI m) l6 (by omega) (gc_ok hn hm h0).2
  rw [nI_0] at ih
  simp only [sX7_lowestTerms_0, sX7_lowestTerms_1, sX7_lowestTerms_2, sX7_lowestTerms_3, sX7_lowestTerms_5, sX7_lowestTerms_6, sX7_lowestTerms_10, sX7_lowestTerms_12, sX7_lowestTerms_15, sX7_lowestTerms_39, sX7_lowestTerms_17, sX7_lowestTerms_40, sX7_lowestTerms_20, sX7_lowestTerms_43, sX7_lowestTerms_47, sX7_lowestTerms_21, sX7_lowestTerms_46 (st := []), sX7_lowestTerms_48, sX7_lowestTerms_23, sX7_lowestTerms_51, sX7_lowestTerms_58, sX7_lowestTerms_24, sX7_lowestTerms_52, sX7_lowestTerms_59, sX7_lowestTerms_26, sX7_lowestTerms_53, sX7_lowestTerms_60, sX7_lowestTerms_28, sX7_lowestTerms_54, sX7_lowestTerms_61, sX7_lowestTerms_29, sX7_lowestTerms_55, sX7_lowestTerms_62 (st := []), sX7_lowestTerms_31, sX7_lowestTerms_33, sX7_lowestTerms_36, inb, nz_3, nz_4, nz_6, nz_8, nz_10, nz_100, nz_300, pushr_s, pushr_n, rv_s, rv_n, kd_sI, kd_sR, kd_sJ, sz_sI, sz_sR, sz_sJ, aR_sI, aJ_sI, aI_sR, aI_sJ, not_false_eq_true, true_and, and_true, true_or, or_true, or_false, false_or, eq_self, ite_true, ite_false, if_true, if_false, ih]
  rfl
theorem lp_div {d : Nat} {a b : Int32} {Q : Option Value → AH → Prop} : ∀ (c : Nat) (x y : Int32) (l5 : Value), gcE c x y = true → Wp S d 191 5 [.ref 67, .int a, .int b, .int x, .int y, l5] [] H Q = Q (some (.int (gcL c x y))) H
  | 0, x, y, l5, h => by
    have h : y = 0 := of_decide_eq_true h
    rw [sX8_divisor_5]
    simp only [sX8_divisor_0, sX8_divisor_1, sX8_divisor_2, sX8_divisor_3, sX8_divisor_7, sX8_divisor_10, sX8_divisor_26, sX8_divisor_11, sX8_divisor_27 (st := []), sX8_divisor_13, sX8_divisor_14, sX8_divisor_16, sX8_divisor_18, sX8_divisor_19, sX8_divisor_21, sX8_divisor_23, inb, nz_3, nz_4, nz_6, nz_8, nz_10, nz_100, nz_300, pushr_s, pushr_n, rv_s, rv_n, kd_sI, kd_sR, kd_sJ, sz_sI, sz_sR, sz_sJ, aR_sI, aJ_sI, aI_sR, aI_sJ, not_false_eq_true, true_and, and_true, true_or, or_true, or_false, false_or, eq_self, ite_true, ite_false, if_true, if_false, h]
    rfl
  | c + 1, x, y, l5, h => by
    rw [sX8_divisor_5]
    by_cases q : y = 0
    · have eg : gcL (c + 1) x y = x := if_pos q
      rw [eg]
      simp only [sX8_divisor_0, sX8_divisor_1, sX8_divisor_2, sX8_divisor_3, sX8_divisor_7, sX8_divisor_10, sX8_divisor_26, sX8_divisor_11, sX8_divisor_27 (st := []), sX8_divisor_13, sX8_divisor_14, sX8_divisor_16, sX8_divisor_18, sX8_divisor_19, sX8_divisor_21, sX8_divisor_23, inb, nz_3, nz_4, nz_6, nz_8, nz_10, nz_100, nz_300, pushr_s, pushr_n, rv_s, rv_n, kd_sI, kd_sR, kd_sJ, sz_sI, sz_sR, sz_sJ, aR_sI, aJ_sI, aI_sR, aI_sJ, not_false_eq_true, true_and, and_true, true_or, or_true, or_false, false_or, eq_self, ite_true, ite_false, if_true, if_false, q]
    · have eg : gcL (c + 1) x y = gcL c y (x - x / y * y) := if_neg q
      have ee : gcE (c + 1) x y = gcE c y (x - x / y * y) := if_neg q
      rw [ee] at h
      have ih := fun l5 => lp_div (d := d) (a := a) (b := b) (Q := Q) c y (x - x / y * y) l5 h
      rw [eg]
      simp only [sX8_divisor_0, sX8_divisor_1, sX8_divisor_2, sX8_divisor_3, sX8_divisor_7, sX8_divisor_10, sX8_divisor_26, sX8_divisor_11, sX8_divisor_27 (st := []), sX8_divisor_13, sX8_divisor_14, sX8_divisor_16, sX8_divisor_18, sX8_divisor_19, sX8_divisor_21, sX8_divisor_23, inb, nz_3, nz_4, nz_6, nz_8, nz_10, nz_100, nz_300, pushr_s, pushr_n, rv_s, rv_n, kd_sI, kd_sR, kd_sJ, sz_sI, sz_sR, sz_sJ, aR_sI, aJ_sI, aI_sR, aI_sJ, not_false_eq_true, true_and, and_true, true_or, or_true, or_false, false_or, eq_self, ite_true, ite_false, if_true, if_false, q, ih]
theorem v_low {d n m : Nat} {p : Int32} {Q : Option Value → AH → Prop} (g : MoL H) (hn : n ≤ 40) (hm : m ≤ 6) (h0 : 0 < m) : Wp S (d + 1) 192 0 [.ref 67, .int (nI n), .int (nI m), .int p, hole] [] H Q = Q (some (.long (lwA (nI n) (nI m) p))) H := by
  obtain ⟨k1, k2⟩ := gc_ok hn hm h0
  have ih := fun Q l5 => lp_div (S := S) (H := H) (d := d) (a := nI n) (b := nI m) (Q := Q) 100 (nI n) (nI m) l5 k1
  have hd : ∀ Q, Wp S d 191 0 [.ref 67, .int (nI n), .int (nI m), hole, hole, hole] [] H Q = Q (some (.int (gcL 100 (nI n) (nI m)))) H := fun Q => by
    simp only [sX8_divisor_0, sX8_divisor_1, sX8_divisor_2, sX8_divisor_3, sX8_divisor_7, sX8_divisor_10, sX8_divisor_26, sX8_divisor_11, sX8_divisor_27 (st := []), sX8_divisor_13, sX8_divisor_14, sX8_divisor_16, sX8_divisor_18, sX8_divisor_19, sX8_divisor_21, sX8_divisor_23, inb, nz_3, nz_4, nz_6, nz_8, nz_10, nz_100, nz_300, pushr_s, pushr_n, rv_s, rv_n, kd_sI, kd_sR, kd_sJ, sz_sI, sz_sR, sz_sJ, aR_sI, aJ_sI, aI_sR, aI_sJ, not_false_eq_true, true_and, and_true, true_or, or_true, or_false, false_or, eq_self, ite_true, ite_false, if_true, if_false, ih]
  simp only [sX8_lowest_0, sX8_lowest_1, sX8_lowest_2, sX8_lowest_3 (st := []), sX8_lowest_6, sX8_lowest_8, sX8_lowest_9, sX8_lowest_12, sX8_lowest_20, sX8_lowest_13, sX8_lowest_21, sX8_lowest_15, sX8_lowest_23, sX8_lowest_16, sX8_lowest_24, sX8_lowest_17, sX8_lowest_25 (st := []), inb, nz_3, nz_4, nz_6, nz_8, nz_10, nz_100, nz_300, pushr_s, pushr_n, rv_s, rv_n, kd_sI, kd_sR, kd_sJ, sz_sI, sz_sR, sz_sJ, aR_sI, aJ_sI, aI_sR, aI_sJ, not_false_eq_true, true_and, and_true, true_or, or_true, or_false, false_or, eq_self, ite_true, ite_false, if_true, if_false, mk_67 g, hd, k2]
  unfold lwA
  split <;> rfl
end ASK
