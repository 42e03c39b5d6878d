-- 43: the component's reader is the pure one
def chV (x : Int32) : Int32 := ((x &&& 255).toUInt32 % 65536).toInt32
theorem bB_ok {j i : Nat} (hj : 3 ≤ j ∧ j ≤ 8) (hi : i < (bB (j + 10)).1) : ∃ q, q < 128 ∧ (bB (j + 10)).2 i = nI q := by
  have key : ∀ j, j < 9 → 3 ≤ j → (bB (j + 10)).1 ≤ 10 ∧ ∀ i, i < 10 → i < (bB (j + 10)).1 → (bB (j + 10)).2 i = nI ((bB (j + 10)).2 i).toNatClampNeg ∧ ((bB (j + 10)).2 i).toNatClampNeg < 128 := by decide +kernel
  obtain ⟨k1, k2⟩ := key j (by omega) hj.1
  obtain ⟨a, b⟩ := k2 i (by omega) hi
  exact ⟨_, b, a⟩
theorem ch_ok : ∀ q, q < 128 → chV (nI q) = nI q := by decide +kernel
theorem bz_0 : bz 0 = 0 := rfl
theorem bz_1 : bz 1 = 1 := by decide +kernel
theorem nz_0 : ((0 : Int32) = 0) = True := eq_true rfl
section JDK
variable {S : SC} {d : Nat} {H : AH} {Q : Option Value → AH → Prop}
theorem w_coder {j : Nat} (hj : 3 ≤ j ∧ j ≤ 8) : Wp S d 224 0 [.retAddr j] [] H Q = Q (some (.int 0)) H := by
  have o : okv .byte 0 = True := eq_true (by show narrow .byte (.int 0) = .int 0; rfl)
  simp only [sJ0_coder_7d493_0, sJ0_coder_7d493_3, sJ0_coder_7d493_6, sJ0_coder_7d493_13, sJ0_coder_7d493_7, sJ0_coder_7d493_14 (st := []), sJ0_coder_7d493_10, inb, nz_3, nz_4, nz_6, nz_8, nz_10, nz_100, nz_300, pushr_s, pushr_n, rv_s, rv_n, kd_sI, kd_sR, kd_sJ, sz_sI, sz_sR, sz_sJ, aR_sI, aJ_sI, aI_sR, aI_sJ, not_false_eq_true, true_and, and_true, true_or, or_true, or_false, false_or, eq_self, ite_true, ite_false, if_true, if_false, hj, o, nz_1]
theorem w_latin {j : Nat} (hj : 3 ≤ j ∧ j ≤ 8) : Wp S d 225 0 [.retAddr j] [] H Q = Q (some (.int 1)) H := by
  simp only [sJ0_isLatin1_aae02_0, sJ0_isLatin1_aae02_3, sJ0_isLatin1_aae02_6, sJ0_isLatin1_aae02_17, sJ0_isLatin1_aae02_7, sJ0_isLatin1_aae02_18 (st := []), sJ0_isLatin1_aae02_10, sJ0_isLatin1_aae02_13, sJ0_isLatin1_aae02_14, inb, nz_3, nz_4, nz_6, nz_8, nz_10, nz_100, nz_300, pushr_s, pushr_n, rv_s, rv_n, kd_sI, kd_sR, kd_sJ, sz_sI, sz_sR, sz_sJ, aR_sI, aJ_sI, aI_sR, aI_sJ, not_false_eq_true, true_and, and_true, true_or, or_true, or_false, false_or, eq_self, ite_true, ite_false, if_true, if_false, hj, nz_1]
theorem w_strlen {j : Nat} (hj : 3 ≤ j ∧ j ≤ 8) (hn : (bB (j + 10)).1 < 2 ^ 31) : Wp S (d + 1) 222 0 [.retAddr j] [] H Q = Q (some (.int (nI (bB (j + 10)).1))) H := by
  have h2 : 13 ≤ j + 10 ∧ j + 10 ≤ 18 := by omega
  simp only [sJ0_length_8abf5_0, sJ0_length_8abf5_1, sJ0_length_8abf5_4, sJ0_length_8abf5_5, sJ0_length_8abf5_6 (st := []), sJ0_length_8abf5_9, sJ0_length_8abf5_10 (st := []), inb, nz_3, nz_4, nz_6, nz_8, nz_10, nz_100, nz_300, pushr_s, pushr_n, rv_s, rv_n, kd_sI, kd_sR, kd_sJ, sz_sI, sz_sR, sz_sJ, aR_sI, aJ_sI, aI_sR, aI_sJ, not_false_eq_true, true_and, and_true, true_or, or_true, or_false, false_or, eq_self, ite_true, ite_false, if_true, if_false, hj, h2, w_coder hj, sc_shr0 hn]
theorem w_chk3 {i n : Nat} {j : Nat} (hi : i < n) (hn : n < 2 ^ 31) : Wp S d 228 0 [.int (nI i), .int (nI n), .retAddr j] [] H Q = Q (some (.int (nI i))) H := by
  have e1 : ¬ nI i < 0 := nI_pos (by omega)
  have e2 : nI i < nI n := nI_lt hi hn
  simp only [sJ3_checkIndex_8e157_0, sJ3_checkIndex_8e157_1, sJ3_checkIndex_8e157_4, sJ3_checkIndex_8e157_9, sJ3_checkIndex_8e157_5, sJ3_checkIndex_8e157_10, sJ3_checkIndex_8e157_6, sJ3_checkIndex_8e157_11, sJ3_checkIndex_8e157_16, sJ3_checkIndex_8e157_17 (st := []), inb, nz_3, nz_4, nz_6, nz_8, nz_10, nz_100, nz_300, pushr_s, pushr_n, rv_s, rv_n, kd_sI, kd_sR, kd_sJ, sz_sI, sz_sR, sz_sJ, aR_sI, aJ_sI, aI_sR, aI_sJ, not_false_eq_true, true_and, and_true, true_or, or_true, or_false, false_or, eq_self, ite_true, ite_false, if_true, if_false, e1, e2]
theorem w_chk0 {i n : Nat} (hi : i < n) (hn : n < 2 ^ 31) : Wp S (d + 1) 226 0 [.int (nI i), .int (nI n)] [] H Q = Q none H := by
  simp only [sJ0_checkIndex_df160_0, sJ0_checkIndex_df160_1, sJ0_checkIndex_df160_2, sJ0_checkIndex_df160_5 (st := []), sJ0_checkIndex_df160_8, sJ0_checkIndex_df160_9 (st := []), inb, nz_3, nz_4, nz_6, nz_8, nz_10, nz_100, nz_300, pushr_s, pushr_n, rv_s, rv_n, kd_sI, kd_sR, kd_sJ, sz_sI, sz_sR, sz_sJ, aR_sI, aJ_sI, aI_sR, aI_sJ, not_false_eq_true, true_and, and_true, true_or, or_true, or_false, false_or, eq_self, ite_true, ite_false, if_true, if_false, w_chk3 hi hn]
theorem w_charAt {j i : Nat} (hj : 3 ≤ j ∧ j ≤ 8) (hi : i < (bB (j + 10)).1) (hn : (bB (j + 10)).1 < 2 ^ 31) : Wp S (d + 3) 223 0 [.retAddr j, .int (nI i)] [] H Q = Q (some (.int ((bB (j + 10)).2 i))) H := by
  have h2 : 13 ≤ j + 10 ∧ j + 10 ≤ 18 := by omega
  obtain ⟨q, q1, q2⟩ := bB_ok hj hi
  have kc : (nI i).toNatClampNeg = i := nI_clamp (by omega)
  have k1 : ¬ (nI i < 0 ∨ (bB (j + 10)).1 ≤ i) := inN hi hn
  have c1 : ((nI q &&& 255).toUInt32 % 65536).toInt32 = nI q := ch_ok q q1
  have o : okv .char (nI q) = True := eq_true (pk_charN (by omega)).1
  have hc : ∀ Q, Wp S (d + 2) 227 0 [.retAddr (j + 10), .int (nI i)] [] H Q = Q (some (.int (nI q))) H := fun Q => by
    simp only [sJ1_charAt_3b067_0, sJ1_charAt_3b067_1, sJ1_charAt_3b067_2, sJ1_charAt_3b067_3 (st := []), sJ1_charAt_3b067_6, sJ1_charAt_3b067_7, sJ1_charAt_3b067_8, sJ1_charAt_3b067_9, sJ1_charAt_3b067_12, sJ1_charAt_3b067_13, sJ1_charAt_3b067_14 (st := []), inb, nz_3, nz_4, nz_6, nz_8, nz_10, nz_100, nz_300, pushr_s, pushr_n, rv_s, rv_n, kd_sI, kd_sR, kd_sJ, sz_sI, sz_sR, sz_sJ, aR_sI, aJ_sI, aI_sR, aI_sJ, not_false_eq_true, true_and, and_true, true_or, or_true, or_false, false_or, eq_self, ite_true, ite_false, if_true, if_false, h2, w_chk0 hi hn, kc, k1, q2, c1, o]
  simp only [sJ0_charAt_5068e_0, sJ0_charAt_5068e_1 (st := []), sJ0_charAt_5068e_4, sJ0_charAt_5068e_7, sJ0_charAt_5068e_16, sJ0_charAt_5068e_8, sJ0_charAt_5068e_17, sJ0_charAt_5068e_11, sJ0_charAt_5068e_20, sJ0_charAt_5068e_12 (st := []), sJ0_charAt_5068e_15 (st := []), inb, nz_3, nz_4, nz_6, nz_8, nz_10, nz_100, nz_300, pushr_s, pushr_n, rv_s, rv_n, kd_sI, kd_sR, kd_sJ, sz_sI, sz_sR, sz_sJ, aR_sI, aJ_sI, aI_sR, aI_sJ, not_false_eq_true, true_and, and_true, true_or, or_true, or_false, false_or, eq_self, ite_true, ite_false, if_true, if_false, hj, w_latin hj, nz_1, hc, o, q2]
end JDK
/-- the reader's cells with the state in them -/
def rS (H : AH) (s : RD) : AH := (H.1, fun a b => if a = 46 then (if b = 1 then nI s.p else if b = 3 then bi s.w else if b = 4 then s.m else if b = 6 then nI s.c else H.2.1 46 b) else if a = 48 then s.f b else H.2.1 a b, H.2.2.1, H.2.2.2)
def RdL (H : AH) (t : Txt) : Prop :=
  (kd H 46 = 6) ∧
  (kd H 47 = 20) ∧
  (kd H 48 = 20) ∧
  (sz H 47 = 100) ∧
  (sz H 48 = 100) ∧
  (aR H 46 2 = some 47) ∧
  (aR H 46 5 = some 48) ∧
  (aI H 46 0 = nI t.1) ∧
  (∀ i, i < t.1 → aI H 47 i = t.2 i) ∧
  (t.1 ≤ 100)
theorem RdL.k46 {H : AH} {t : Txt} (h : RdL H t) : kd H 46 = 6 := h.1
theorem RdL.k47 {H : AH} {t : Txt} (h : RdL H t) : kd H 47 = 20 := h.2.1
theorem RdL.k48 {H : AH} {t : Txt} (h : RdL H t) : kd H 48 = 20 := h.2.2.1
theorem RdL.z47 {H : AH} {t : Txt} (h : RdL H t) : sz H 47 = 100 := h.2.2.2.1
theorem RdL.z48 {H : AH} {t : Txt} (h : RdL H t) : sz H 48 = 100 := h.2.2.2.2.1
theorem RdL.r2 {H : AH} {t : Txt} (h : RdL H t) : aR H 46 2 = some 47 := h.2.2.2.2.2.1
theorem RdL.r5 {H : AH} {t : Txt} (h : RdL H t) : aR H 46 5 = some 48 := h.2.2.2.2.2.2.1
theorem RdL.n0 {H : AH} {t : Txt} (h : RdL H t) : aI H 46 0 = nI t.1 := h.2.2.2.2.2.2.2.1
theorem RdL.tx {H : AH} {t : Txt} (h : RdL H t) : ∀ i, i < t.1 → aI H 47 i = t.2 i := h.2.2.2.2.2.2.2.2.1
theorem RdL.len {H : AH} {t : Txt} (h : RdL H t) : t.1 ≤ 100 := h.2.2.2.2.2.2.2.2.2
def okR (t : Txt) (s : RD) : Prop := s.p ≤ t.1 ∧ s.c ≤ 100
section RDR
variable {S : SC} {d : Nat} {H : AH} {Q : Option Value → AH → Prop} {t : Txt} {s : RD}
theorem kd_rS (o : Nat) : kd (rS H s) o = kd H o := rfl
theorem sz_rS (o : Nat) : sz (rS H s) o = sz H o := rfl
theorem aR_rS : aR (rS H s) = aR H := rfl
theorem rS_0 : aI (rS H s) 46 0 = aI H 46 0 := rfl
theorem rS_1 : aI (rS H s) 46 1 = nI s.p := rfl
theorem rS_3 : aI (rS H s) 46 3 = bi s.w := rfl
theorem rS_4 : aI (rS H s) 46 4 = s.m := rfl
theorem rS_6 : aI (rS H s) 46 6 = nI s.c := rfl
theorem rS_47 (i : Nat) : aI (rS H s) 47 i = aI H 47 i := rfl
theorem rS_48 (i : Nat) : aI (rS H s) 48 i = s.f i := rfl
theorem rS_set {H : AH} {s s2 : RD} {k i : Nat} {v : Int32} (h : ∀ a b, (if a = k ∧ b = i then v else aI (rS H s) a b) = aI (rS H s2) a b) : sI (rS H s) k i v = rS H s2 := by
  show (H.1, (fun a b => if a = k ∧ b = i then v else aI (rS H s) a b), H.2.2.1, H.2.2.2) = (H.1, (fun a b => aI (rS H s2) a b), H.2.2.1, H.2.2.2)
  exact congrArg (fun f => (H.1, f, H.2.2.1, H.2.2.2)) (funext fun a => funext fun b => h a b)
theorem aI_rS (a b : Nat) : aI (rS H s) a b = if a = 46 then (if b = 1 then nI s.p else if b = 3 then bi s.w else if b = 4 then s.m else if b = 6 then nI s.c else aI H 46 b) else if a = 48 then s.f b else aI H a b := rfl
theorem rS_p {p' : Nat} : sI (rS H s) 46 1 (nI p') = rS H (s.setp p') := rS_set fun a b => by
  rw [aI_rS, aI_rS]
  by_cases ha : a = 46
  · by_cases hb : b = 1
    · rw [if_pos ⟨ha, hb⟩, if_pos ha, if_pos hb]; rfl
    · rw [if_neg (fun z => hb z.2), if_pos ha, if_pos ha, if_neg hb, if_neg hb]; rfl
  · rw [if_neg (fun z => ha z.1), if_neg ha, if_neg ha]; rfl
theorem rS_w {x : Int32} {b' : Bool} (hx : x = bi b') : sI (rS H s) 46 3 x = rS H (s.setw b') := rS_set fun a b => by
  rw [aI_rS, aI_rS, hx]
  by_cases ha : a = 46
  · by_cases hb : b = 3
    · subst ha hb
      rfl
    · rw [if_neg (fun z => hb z.2), if_pos ha, if_pos ha, if_neg hb, if_neg hb]; rfl
  · rw [if_neg (fun z => ha z.1), if_neg ha, if_neg ha]; rfl
theorem rS_m {x : Int32} : sI (rS H s) 46 4 x = rS H (s.setm x) := rS_set fun a b => by
  rw [aI_rS, aI_rS]
  by_cases ha : a = 46
  · by_cases hb : b = 4
    · subst ha hb
      rfl
    · rw [if_neg (fun z => hb z.2), if_pos ha, if_pos ha, if_neg hb, if_neg hb]; rfl
  · rw [if_neg (fun z => ha z.1), if_neg ha, if_neg ha]; rfl
theorem rS_c {p' : Nat} : sI (rS H s) 46 6 (nI p') = rS H (s.setc p') := rS_set fun a b => by
  rw [aI_rS, aI_rS]
  by_cases ha : a = 46
  · by_cases hb : b = 6
    · subst ha hb
      rfl
    · rw [if_neg (fun z => hb z.2), if_pos ha, if_pos ha, if_neg hb, if_neg hb]; rfl
  · rw [if_neg (fun z => ha z.1), if_neg ha, if_neg ha]; rfl
theorem rS_f {i : Nat} {x : Int32} : sI (rS H s) 48 i x = rS H (s.setf (upd s.f i x)) := rS_set fun a b => by
  rw [aI_rS, aI_rS]
  by_cases ha : a = 48
  · have h46 : ¬ a = 46 := by omega
    rw [if_neg h46, if_neg h46, if_pos ha, if_pos ha]
    by_cases hb : b = i
    · rw [if_pos ⟨ha, hb⟩, hb]; exact (pk_us).symm
    · rw [if_neg (fun z => hb z.2)]; exact (pk_un hb).symm
  · rw [if_neg (fun z => ha z.1), if_neg ha, if_neg ha]; rfl
theorem rS_self : rS H (ix (aI H 46 1), decide (aI H 46 3 = 1), aI H 46 4, ix (aI H 46 6), aI H 48) = rS H (ix (aI H 46 1), decide (aI H 46 3 = 1), aI H 46 4, ix (aI H 46 6), aI H 48) := rfl
theorem okR.p (h : RdL H t) (k : okR t s) : s.p ≤ 100 := Nat.le_trans k.1 h.len
theorem w_next (h : RdL H t) (k : okR t s) : Wp S d 68 0 [.ref 46] [] (rS H s) Q = Q (some (.int (nxR t s))) (rS H s) := by
  have hp := k.1
  have hl := h.len
  unfold nxR
  cases hw : s.w
  · rw [if_neg (by decide)]
    unfold nx
    by_cases g : s.p < t.1
    · have g' : nI s.p < nI t.1 := nI_lt g (by omega)
      have kc : (nI s.p).toNatClampNeg = s.p := nI_clamp (by omega)
      have k1 : ¬ (nI s.p < 0 ∨ 100 ≤ s.p) := inN (by omega) (by omega)
      rw [if_pos g]
      simp only [sX6_next_0, sX6_next_1, sX6_next_4, sX6_next_7, sX6_next_18, sX6_next_8, sX6_next_19, sX6_next_11, sX6_next_31 (st := []), sX6_next_12, sX6_next_15, sX6_next_22, sX6_next_23, sX6_next_26, sX6_next_27, sX6_next_30, inb, nz_3, nz_4, nz_6, nz_8, nz_10, nz_100, nz_300, pushr_s, pushr_n, rv_s, rv_n, kd_sI, kd_sR, kd_sJ, sz_sI, sz_sR, sz_sJ, aR_sI, aJ_sI, aI_sR, aI_sJ, not_false_eq_true, true_and, and_true, true_or, or_true, or_false, false_or, eq_self, ite_true, ite_false, if_true, if_false, kd_rS, sz_rS, aR_rS, rS_0, rS_1, rS_3, rS_47, h.k46, h.k47, h.z47, h.r2, h.n0, hw, bi_f, bz_0, g', kc, k1, h.tx _ g]
    · have g' : ¬ nI s.p < nI t.1 := nI_nlt (by omega) (by omega)
      rw [if_neg g]
      simp only [sX6_next_0, sX6_next_1, sX6_next_4, sX6_next_7, sX6_next_18, sX6_next_8, sX6_next_19, sX6_next_11, sX6_next_31 (st := []), sX6_next_12, sX6_next_15, sX6_next_22, sX6_next_23, sX6_next_26, sX6_next_27, sX6_next_30, inb, nz_3, nz_4, nz_6, nz_8, nz_10, nz_100, nz_300, pushr_s, pushr_n, rv_s, rv_n, kd_sI, kd_sR, kd_sJ, sz_sI, sz_sR, sz_sJ, aR_sI, aJ_sI, aI_sR, aI_sJ, not_false_eq_true, true_and, and_true, true_or, or_true, or_false, false_or, eq_self, ite_true, ite_false, if_true, if_false, kd_rS, sz_rS, aR_rS, rS_0, rS_1, rS_3, rS_47, h.k46, h.k47, h.z47, h.r2, h.n0, hw, bi_f, bz_0, g']
  · rw [if_pos rfl]
    simp only [sX6_next_0, sX6_next_1, sX6_next_4, sX6_next_7, sX6_next_18, sX6_next_8, sX6_next_19, sX6_next_11, sX6_next_31 (st := []), sX6_next_12, sX6_next_15, sX6_next_22, sX6_next_23, sX6_next_26, sX6_next_27, sX6_next_30, inb, nz_3, nz_4, nz_6, nz_8, nz_10, nz_100, nz_300, pushr_s, pushr_n, rv_s, rv_n, kd_sI, kd_sR, kd_sJ, sz_sI, sz_sR, sz_sJ, aR_sI, aJ_sI, aI_sR, aI_sJ, not_false_eq_true, true_and, and_true, true_or, or_true, or_false, false_or, eq_self, ite_true, ite_false, if_true, if_false, kd_rS, h.k46, rS_3, hw, bi_t, bz_1, nz_1]
theorem w_sign {x : Int32} (h : RdL H t) (k : okR t s) : Wp S (d + 1) 67 0 [.ref 46, .int x] [] (rS H s) Q = Q none (rS H (signR t x s)) := by
  have hn := fun Q => w_next (S := S) (d := d) (Q := Q) h k
  unfold signR
  by_cases g : nxR t s = x
  · rw [if_pos g]
    simp only [sX6_readSign_0, sX6_readSign_1 (st := []), sX6_readSign_4, sX6_readSign_5, sX6_readSign_8, sX6_readSign_21, sX6_readSign_9, sX6_readSign_22, sX6_readSign_10, sX6_readSign_23, sX6_readSign_13, sX6_readSign_26 (st := []), sX6_readSign_14, sX6_readSign_15, sX6_readSign_18, inb, nz_3, nz_4, nz_6, nz_8, nz_10, nz_100, nz_300, pushr_s, pushr_n, rv_s, rv_n, kd_sI, kd_sR, kd_sJ, sz_sI, sz_sR, sz_sJ, aR_sI, aJ_sI, aI_sR, aI_sJ, not_false_eq_true, true_and, and_true, true_or, or_true, or_false, false_or, eq_self, ite_true, ite_false, if_true, if_false, kd_rS, h.k46, hn, g, rS_1, nI_1, rS_p]
  · rw [if_neg g]
    simp only [sX6_readSign_0, sX6_readSign_1 (st := []), sX6_readSign_4, sX6_readSign_5, sX6_readSign_8, sX6_readSign_21, sX6_readSign_9, sX6_readSign_22, sX6_readSign_10, sX6_readSign_23, sX6_readSign_13, sX6_readSign_26 (st := []), sX6_readSign_14, sX6_readSign_15, sX6_readSign_18, inb, nz_3, nz_4, nz_6, nz_8, nz_10, nz_100, nz_300, pushr_s, pushr_n, rv_s, rv_n, kd_sI, kd_sR, kd_sJ, sz_sI, sz_sR, sz_sJ, aR_sI, aJ_sI, aI_sR, aI_sJ, not_false_eq_true, true_and, and_true, true_or, or_true, or_false, false_or, eq_self, ite_true, ite_false, if_true, if_false, kd_rS, h.k46, hn, g, rS_w (show (1 : Int32) = bi true from rfl)]
theorem ok_sign {x : Int32} (hx : ¬ (-1 : Int32) = x) (k : okR t s) : okR t (signR t x s) := by
  unfold signR
  by_cases g : nxR t s = x
  · rw [if_pos g]
    refine ⟨?_, k.2⟩
    show s.p + 1 ≤ t.1
    unfold nxR at g
    cases hw : s.w
    · rw [hw, if_neg (by decide)] at g
      have := nx_lt (t := t) (p := s.p) (by rw [g]; exact fun z => hx z.symm)
      omega
    · rw [hw, if_pos rfl] at g
      exact absurd g hx
  · rw [if_neg g]
    exact k
theorem w_add {a b n : Nat} (h : RdL H t) (k : okR t s) : Wp S (d + 1) 69 0 [.ref 46, .int (nI a), .int (nI b), .int (nI n)] [] (rS H s) Q = Q none (rS H (addR ((a * 3 + b) * 100 + n) s)) := by
  have hc := k.2
  have hs : ∀ Q, Wp S d 49 0 [.int (nI a), .int (nI b), .int (nI n)] [] (rS H s) Q = Q (some (.int (nI ((a * 3 + b) * 100 + n)))) (rS H s) := fun Q => by
    have e3 : nI a * 3 = nI (a * 3) := pk_mul a 3
    have e100 : nI (a * 3 + b) * 100 = nI ((a * 3 + b) * 100) := pk_mul _ 100
    simp only [sX5_step_0, sX5_step_1, sX5_step_2, sX5_step_3, sX5_step_4, sX5_step_5, sX5_step_7, sX5_step_8, sX5_step_9, sX5_step_10 (st := []), inb, nz_3, nz_4, nz_6, nz_8, nz_10, nz_100, nz_300, pushr_s, pushr_n, rv_s, rv_n, kd_sI, kd_sR, kd_sJ, sz_sI, sz_sR, sz_sJ, aR_sI, aJ_sI, aI_sR, aI_sJ, not_false_eq_true, true_and, and_true, true_or, or_true, or_false, false_or, eq_self, ite_true, ite_false, if_true, if_false, e3, e100, nI_add]
  unfold addR
  cases hw : s.w
  · rw [if_neg (by decide)]
    by_cases g : 100 ≤ s.c
    · have g' : ¬ nI s.c < 100 := nI_nlt (b := 100) g (by omega)
      rw [if_pos g]
      simp only [sX6_addStep_0, sX6_addStep_1, sX6_addStep_4, sX6_addStep_7, sX6_addStep_16 (st := []), sX6_addStep_8, sX6_addStep_11, sX6_addStep_13, sX6_addStep_17, sX6_addStep_18, sX6_addStep_21, sX6_addStep_22, sX6_addStep_25, sX6_addStep_26, sX6_addStep_27, sX6_addStep_28 (st := []), sX6_addStep_31, sX6_addStep_32, sX6_addStep_33, sX6_addStep_34, sX6_addStep_37, sX6_addStep_38, sX6_addStep_39, sX6_addStep_42 (st := []), inb, nz_3, nz_4, nz_6, nz_8, nz_10, nz_100, nz_300, pushr_s, pushr_n, rv_s, rv_n, kd_sI, kd_sR, kd_sJ, sz_sI, sz_sR, sz_sJ, aR_sI, aJ_sI, aI_sR, aI_sJ, not_false_eq_true, true_and, and_true, true_or, or_true, or_false, false_or, eq_self, ite_true, ite_false, if_true, if_false, kd_rS, h.k46, rS_3, rS_6, hw, bi_f, bz_0, g']
    · have g' : nI s.c < 100 := nI_lt (b := 100) (by omega) (by omega)
      have kc : (nI s.c).toNatClampNeg = s.c := nI_clamp (by omega)
      have k1 : ¬ (nI s.c < 0 ∨ 100 ≤ s.c) := inN (by omega) (by omega)
      rw [if_neg g]
      have ee : rS H ((s.setf (upd s.f s.c (nI ((a * 3 + b) * 100 + n)))).setc (s.c + 1)) = rS H ((s.setc (s.c + 1)).setf (upd s.f s.c (nI ((a * 3 + b) * 100 + n)))) := rfl
      simp only [sX6_addStep_0, sX6_addStep_1, sX6_addStep_4, sX6_addStep_7, sX6_addStep_16 (st := []), sX6_addStep_8, sX6_addStep_11, sX6_addStep_13, sX6_addStep_17, sX6_addStep_18, sX6_addStep_21, sX6_addStep_22, sX6_addStep_25, sX6_addStep_26, sX6_addStep_27, sX6_addStep_28 (st := []), sX6_addStep_31, sX6_addStep_32, sX6_addStep_33, sX6_addStep_34, sX6_addStep_37, sX6_addStep_38, sX6_addStep_39, sX6_addStep_42 (st := []), inb, nz_3, nz_4, nz_6, nz_8, nz_10, nz_100, nz_300, pushr_s, pushr_n, rv_s, rv_n, kd_sI, kd_sR, kd_sJ, sz_sI, sz_sR, sz_sJ, aR_sI, aJ_sI, aI_sR, aI_sJ, not_false_eq_true, true_and, and_true, true_or, or_true, or_false, false_or, eq_self, ite_true, ite_false, if_true, if_false, kd_rS, sz_rS, aR_rS, h.k46, h.k48, h.z48, h.r5, rS_3, rS_6, hw, bi_f, bz_0, g', kc, k1, hs, rS_f]
      rw [show (s.setf (upd s.f s.c (nI ((a * 3 + b) * 100 + n)))).c = s.c from rfl, nI_1, rS_c, ee]
  · rw [if_pos rfl]
    simp only [sX6_addStep_0, sX6_addStep_1, sX6_addStep_4, sX6_addStep_7, sX6_addStep_16 (st := []), sX6_addStep_8, sX6_addStep_11, sX6_addStep_13, sX6_addStep_17, sX6_addStep_18, sX6_addStep_21, sX6_addStep_22, sX6_addStep_25, sX6_addStep_26, sX6_addStep_27, sX6_addStep_28 (st := []), sX6_addStep_31, sX6_addStep_32, sX6_addStep_33, sX6_addStep_34, sX6_addStep_37, sX6_addStep_38, sX6_addStep_39, sX6_addStep_42 (st := []), inb, nz_3, nz_4, nz_6, nz_8, nz_10, nz_100, nz_300, pushr_s, pushr_n, rv_s, rv_n, kd_sI, kd_sR, kd_sJ, sz_sI, sz_sR, sz_sJ, aR_sI, aJ_sI, aI_sR, aI_sJ, not_false_eq_true, true_and, and_true, true_or, or_true, or_false, false_or, eq_self, ite_true, ite_false, if_true, if_false, kd_rS, h.k46, rS_3, hw, bi_t, bz_1, nz_1]
theorem ok_add {x : Nat} (k : okR t s) : okR t (addR x s) := by
  unfold addR
  split
  · exact k
  · split
    · exact k
    · refine ⟨k.1, ?_⟩
      show s.c + 1 ≤ 100
      omega
/-- the bytes of a text constant -/
def strO (j : Nat) : List Int32 := strL.getD (j - 3) []
theorem strO_ok {j : Nat} (hj : 3 ≤ j ∧ j ≤ 8) : (bB (j + 10)).1 = (strO j).length ∧ (bB (j + 10)).2 = fun i => (strO j).getD i 0 := by
  unfold bB strO
  rw [show j + 10 - 13 = j - 3 by omega]
  exact ⟨rfl, rfl⟩
theorem strO_len {j : Nat} (hj : 3 ≤ j ∧ j ≤ 8) : (strO j).length ≤ 10 := (show ∀ j, j < 9 → 3 ≤ j → (strO j).length ≤ 10 by decide +kernel) j (by omega) hj.1
theorem oneL_c (x a : Int32) (r : List Int32) (i : Nat) : oneL x (a :: r) i = if a = x then some i else oneL x r (i + 1) := rfl
theorem lp_one {j : Nat} (hj : 3 ≤ j ∧ j ≤ 8) (h : RdL H t) (k : okR t s) : ∀ (r : List Int32) (i : Nat), i + r.length = (strO j).length → (∀ q, q < r.length → r.getD q 0 = (strO j).getD (i + q) 0) →
    Wp S (d + 4) 66 7 [.ref 46, .retAddr j, .int (nxR t s), .int (nI i)] [] (rS H s) Q = match oneL (nxR t s) r i with | some x => Q (some (.int (nI x))) (rS H (s.setp (s.p + 1))) | none => Q (some (.int 0)) (rS H (s.setw true))
  | [], i, hi, _ => by
    have hi : i = (strO j).length := hi
    have hl := strO_len hj
    have hn := fun Q => w_strlen (S := S) (d := d + 2) (H := rS H s) (Q := Q) hj (by rw [(strO_ok hj).1]; omega)
    rw [(strO_ok hj).1] at hn
    have e : nI (strO j).length ≤ nI i := nI_le (by omega) (by omega)
    rw [sX6_readOneOf_7]
    simp only [sX6_readOneOf_0, sX6_readOneOf_1 (st := []), sX6_readOneOf_4, sX6_readOneOf_5, sX6_readOneOf_6, sX6_readOneOf_8, sX6_readOneOf_9 (st := []), sX6_readOneOf_12, sX6_readOneOf_15, sX6_readOneOf_42, sX6_readOneOf_16, sX6_readOneOf_43, sX6_readOneOf_17 (st := []), sX6_readOneOf_44, sX6_readOneOf_20, sX6_readOneOf_47, sX6_readOneOf_21, sX6_readOneOf_48 (st := []), sX6_readOneOf_24, sX6_readOneOf_36, sX6_readOneOf_25, sX6_readOneOf_39, sX6_readOneOf_26, sX6_readOneOf_29, sX6_readOneOf_30, sX6_readOneOf_31, sX6_readOneOf_34, sX6_readOneOf_35 (st := []), inb, nz_3, nz_4, nz_6, nz_8, nz_10, nz_100, nz_300, pushr_s, pushr_n, rv_s, rv_n, kd_sI, kd_sR, kd_sJ, sz_sI, sz_sR, sz_sJ, aR_sI, aJ_sI, aI_sR, aI_sJ, not_false_eq_true, true_and, and_true, true_or, or_true, or_false, false_or, eq_self, ite_true, ite_false, if_true, if_false, hj, hn, e, kd_rS, h.k46, rS_w (show (1 : Int32) = bi true from rfl)]
    rfl
  | a :: r, i, hi, hr => by
    have hi : i + (r.length + 1) = (strO j).length := hi
    have hl := strO_len hj
    have hn := fun Q => w_strlen (S := S) (d := d + 2) (H := rS H s) (Q := Q) hj (by rw [(strO_ok hj).1]; omega)
    have hc := fun Q => w_charAt (S := S) (d := d) (H := rS H s) (Q := Q) (i := i) hj (by rw [(strO_ok hj).1]; omega) (by rw [(strO_ok hj).1]; omega)
    rw [(strO_ok hj).1] at hn
    rw [(strO_ok hj).2] at hc
    have h0 : (strO j).getD i 0 = a := (hr 0 (by show 0 < r.length + 1; omega)).symm
    simp only [h0] at hc
    have e : ¬ nI (strO j).length ≤ nI i := nI_ge (by omega) (by omega)
    have ih := lp_one hj h k r (i + 1) (by omega) (fun q hq => by
      have z := hr (q + 1) (by show q + 1 < r.length + 1; omega)
      rw [show i + (q + 1) = i + 1 + q by omega] at z
      exact z)
    rw [sX6_readOneOf_7]
    simp only [sX6_readOneOf_0, sX6_readOneOf_1 (st := []), sX6_readOneOf_4, sX6_readOneOf_5, sX6_readOneOf_6, sX6_readOneOf_8, sX6_readOneOf_9 (st := []), sX6_readOneOf_12, sX6_readOneOf_15, sX6_readOneOf_42, sX6_readOneOf_16, sX6_readOneOf_43, sX6_readOneOf_17 (st := []), sX6_readOneOf_44, sX6_readOneOf_20, sX6_readOneOf_47, sX6_readOneOf_21, sX6_readOneOf_48 (st := []), sX6_readOneOf_24, sX6_readOneOf_36, sX6_readOneOf_25, sX6_readOneOf_39, sX6_readOneOf_26, sX6_readOneOf_29, sX6_readOneOf_30, sX6_readOneOf_31, sX6_readOneOf_34, sX6_readOneOf_35 (st := []), inb, nz_3, nz_4, nz_6, nz_8, nz_10, nz_100, nz_300, pushr_s, pushr_n, rv_s, rv_n, kd_sI, kd_sR, kd_sJ, sz_sI, sz_sR, sz_sJ, aR_sI, aJ_sI, aI_sR, aI_sJ, not_false_eq_true, true_and, and_true, true_or, or_true, or_false, false_or, eq_self, ite_true, ite_false, if_true, if_false, hj, hn, hc, e, kd_rS, h.k46, rS_1, nI_1, rS_p, ih]
    rw [oneL_c]
    by_cases g : a = nxR t s
    · rw [if_pos g, if_pos g]
    · rw [if_neg g, if_neg g]
theorem w_one {j : Nat} (hj : 3 ≤ j ∧ j ≤ 8) (h : RdL H t) (k : okR t s) : Wp S (d + 4) 66 0 [.ref 46, .retAddr j, hole, hole] [] (rS H s) Q = Q (some (.int (nI (oneR t (strO j) s).1))) (rS H (oneR t (strO j) s).2) := by
  have ih := lp_one (S := S) (d := d) (Q := Q) hj h k (strO j) 0 (by omega) (fun q _ => by rw [Nat.zero_add])
  have hn := fun Q => w_next (S := S) (d := d + 3) (Q := Q) h k
  rw [nI_0] at ih
  simp only [sX6_readOneOf_0, sX6_readOneOf_1 (st := []), sX6_readOneOf_4, sX6_readOneOf_5, sX6_readOneOf_6, sX6_readOneOf_8, sX6_readOneOf_9 (st := []), sX6_readOneOf_12, sX6_readOneOf_15, sX6_readOneOf_42, sX6_readOneOf_16, sX6_readOneOf_43, sX6_readOneOf_17 (st := []), sX6_readOneOf_44, sX6_readOneOf_20, sX6_readOneOf_47, sX6_readOneOf_21, sX6_readOneOf_48 (st := []), sX6_readOneOf_24, sX6_readOneOf_36, sX6_readOneOf_25, sX6_readOneOf_39, sX6_readOneOf_26, sX6_readOneOf_29, sX6_readOneOf_30, sX6_readOneOf_31, sX6_readOneOf_34, sX6_readOneOf_35 (st := []), inb, nz_3, nz_4, nz_6, nz_8, nz_10, nz_100, nz_300, pushr_s, pushr_n, rv_s, rv_n, kd_sI, kd_sR, kd_sJ, sz_sI, sz_sR, sz_sJ, aR_sI, aJ_sI, aI_sR, aI_sJ, not_false_eq_true, true_and, and_true, true_or, or_true, or_false, false_or, eq_self, ite_true, ite_false, if_true, if_false, hj, hn, kd_rS, h.k46, ih]
  unfold oneR
  cases oneL (nxR t s) (strO j) 0 <;> rfl
theorem ok_one {l : List Int32} (hl : oneL (-1) l 0 = none) (k : okR t s) : okR t (oneR t l s).2 := by
  unfold oneR
  cases g : oneL (nxR t s) l 0 with
  | none => exact k
  | some x =>
    refine ⟨?_, k.2⟩
    show s.p + 1 ≤ t.1
    unfold nxR at g
    cases hw : s.w
    · rw [hw, if_neg (by decide)] at g
      have := nx_lt (t := t) (p := s.p) (fun z => by rw [z, hl] at g; cases g)
      omega
    · rw [hw, if_pos rfl, hl] at g
      cases g
theorem strO_6 : strO 6 = lkL := rfl
theorem strO_7 : strO 7 = rlL := rfl
theorem strO_8 : strO 8 = dgL := rfl
theorem dig_sub {x : Int32} : (x - 48 < 0 → dig x = none) ∧ (¬ x - 48 < 0 → 9 < x - 48 → dig x = none) ∧ (¬ x - 48 < 0 → x - 48 ≤ 9 → dig x = some (ix (x - 48)) ∧ nI (ix (x - 48)) = x - 48) := by
  have key : ∀ y : Int32, ¬ y < 0 → y ≤ 9 → ∃ j, j ≤ 9 ∧ y = nI j := fun y h1 h2 => nI_of2 (n := 9) (by decide +kernel) h1 h2
  refine ⟨fun h => ?_, fun h1 h2 => ?_, fun h1 h2 => ?_⟩
  · cases hd : dig x with
    | none => rfl
    | some a =>
      obtain ⟨a9, -, rfl⟩ := dig_ok hd
      exact absurd h ((show ∀ a, a ≤ 9 → ¬ nI (48 + a) - 48 < 0 by decide +kernel) a a9)
  · cases hd : dig x with
    | none => rfl
    | some a =>
      obtain ⟨a9, -, rfl⟩ := dig_ok hd
      exact absurd h2 ((show ∀ a, a ≤ 9 → ¬ 9 < nI (48 + a) - 48 by decide +kernel) a a9)
  · obtain ⟨j, j9, e⟩ := key _ h1 h2
    have ex : x = nI (48 + j) := by
      have : x = x - 48 + 48 := (Int32.sub_add_cancel x 48).symm
      rw [this, e, Nat.add_comm]
      exact nI_add j 48
    subst ex
    refine ⟨(show ∀ j, j ≤ 9 → dig (nI (48 + j)) = some (ix (nI (48 + j) - 48)) by decide +kernel) j j9, ?_⟩
    rw [e, ix_nI (by omega)]
theorem w_num (h : RdL H t) (k : okR t s) : Wp S (d + 5) 64 0 [.ref 46, hole, hole] [] (rS H s) Q = Q (some (.int (nI (numR t s).1))) (rS H (numR t s).2) := by
  have ho := fun Q => w_one (S := S) (d := d) (Q := Q) (j := 8) ⟨by decide, by decide⟩ h k
  rw [strO_8] at ho
  have k2 := ok_one dg_m1 k
  have hn := fun Q => w_next (S := S) (d := d + 4) (Q := Q) h k2
  unfold numR
  generalize oneR t dgL s = u at ho hn k2 ⊢
  generalize nxR t u.2 = x at hn ⊢
  obtain ⟨d1, d2, d3⟩ := dig_sub (x := x)
  by_cases g1 : x - 48 < 0
  · rw [d1 g1]
    simp only [sX6_readNumber_0, sX6_readNumber_1, sX6_readNumber_3 (st := []), sX6_readNumber_6, sX6_readNumber_7, sX6_readNumber_8 (st := []), sX6_readNumber_11, sX6_readNumber_13, sX6_readNumber_14, sX6_readNumber_15, sX6_readNumber_16, sX6_readNumber_19, sX6_readNumber_25, sX6_readNumber_20, sX6_readNumber_26 (st := []), sX6_readNumber_22, sX6_readNumber_27, sX6_readNumber_28, sX6_readNumber_29, sX6_readNumber_32, sX6_readNumber_33, sX6_readNumber_34, sX6_readNumber_37, sX6_readNumber_38, sX6_readNumber_40, sX6_readNumber_41, sX6_readNumber_42, sX6_readNumber_43 (st := []), inb, nz_3, nz_4, nz_6, nz_8, nz_10, nz_100, nz_300, pushr_s, pushr_n, rv_s, rv_n, kd_sI, kd_sR, kd_sJ, sz_sI, sz_sR, sz_sJ, aR_sI, aJ_sI, aI_sR, aI_sJ, not_false_eq_true, true_and, and_true, true_or, or_true, or_false, false_or, eq_self, ite_true, ite_false, if_true, if_false, kd_rS, h.k46, ho, hn, g1]
  · by_cases g2 : x - 48 ≤ 9
    · obtain ⟨e1, e2⟩ := d3 g1 g2
      rw [e1]
      have e3 : nI u.1 * 10 = nI (u.1 * 10) := pk_mul _ 10
      have e4 : nI (u.1 * 10) + (x - 48) = nI (u.1 * 10 + ix (x - 48)) := by rw [← nI_add, e2]
      simp only [sX6_readNumber_0, sX6_readNumber_1, sX6_readNumber_3 (st := []), sX6_readNumber_6, sX6_readNumber_7, sX6_readNumber_8 (st := []), sX6_readNumber_11, sX6_readNumber_13, sX6_readNumber_14, sX6_readNumber_15, sX6_readNumber_16, sX6_readNumber_19, sX6_readNumber_25, sX6_readNumber_20, sX6_readNumber_26 (st := []), sX6_readNumber_22, sX6_readNumber_27, sX6_readNumber_28, sX6_readNumber_29, sX6_readNumber_32, sX6_readNumber_33, sX6_readNumber_34, sX6_readNumber_37, sX6_readNumber_38, sX6_readNumber_40, sX6_readNumber_41, sX6_readNumber_42, sX6_readNumber_43 (st := []), inb, nz_3, nz_4, nz_6, nz_8, nz_10, nz_100, nz_300, pushr_s, pushr_n, rv_s, rv_n, kd_sI, kd_sR, kd_sJ, sz_sI, sz_sR, sz_sJ, aR_sI, aJ_sI, aI_sR, aI_sJ, not_false_eq_true, true_and, and_true, true_or, or_true, or_false, false_or, eq_self, ite_true, ite_false, if_true, if_false, kd_rS, h.k46, ho, hn, g1, g2, rS_1, nI_1, rS_p, e3, e4]
    · rw [d2 g1 (Int32.not_le.mp g2)]
      simp only [sX6_readNumber_0, sX6_readNumber_1, sX6_readNumber_3 (st := []), sX6_readNumber_6, sX6_readNumber_7, sX6_readNumber_8 (st := []), sX6_readNumber_11, sX6_readNumber_13, sX6_readNumber_14, sX6_readNumber_15, sX6_readNumber_16, sX6_readNumber_19, sX6_readNumber_25, sX6_readNumber_20, sX6_readNumber_26 (st := []), sX6_readNumber_22, sX6_readNumber_27, sX6_readNumber_28, sX6_readNumber_29, sX6_readNumber_32, sX6_readNumber_33, sX6_readNumber_34, sX6_readNumber_37, sX6_readNumber_38, sX6_readNumber_40, sX6_readNumber_41, sX6_readNumber_42, sX6_readNumber_43 (st := []), inb, nz_3, nz_4, nz_6, nz_8, nz_10, nz_100, nz_300, pushr_s, pushr_n, rv_s, rv_n, kd_sI, kd_sR, kd_sJ, sz_sI, sz_sR, sz_sJ, aR_sI, aJ_sI, aI_sR, aI_sJ, not_false_eq_true, true_and, and_true, true_or, or_true, or_false, false_or, eq_self, ite_true, ite_false, if_true, if_false, kd_rS, h.k46, ho, hn, g1, g2]
end RDR
