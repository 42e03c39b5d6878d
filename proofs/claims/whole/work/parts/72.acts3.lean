-- 72: call: act (the reference, its end; both)
theorem lk_n (i v : Int32) (kk : Nat) (x : Int32) (s : TrS) : (lkM i v kk x s).2.1 ≤ s.1 + 2 := by
  unfold lkM
  split
  · exact Nat.le_refl _
  · split
    · exact Nat.le_refl _
    · split
      · exact Nat.le_refl _
      · show s.1 + 1 ≤ s.1 + 2; omega
theorem ms_n (i v : Int32) (kk : Nat) (x : Int32) (s : TrS) : (msM i v kk x s).2.1 ≤ s.1 + 3 := by
  have := lk_n i v kk x (nt 11 s)
  have e : (nt 11 s).1 = s.1 + 1 := rfl
  show (lkM i v kk x (nt 11 s)).2.1 ≤ s.1 + 3
  omega
theorem ss_n (i v : Int32) (kk : Nat) (x : Int32) (s : TrS) : (ssM i v kk x s).2.1 ≤ s.1 + 4 := by
  have := ms_n i v kk x (nt 20 s)
  have e : (nt 20 s).1 = s.1 + 1 := rfl
  show (msM i v kk x (nt 20 s)).2.1 ≤ s.1 + 4
  omega
theorem sy_n (i v : Int32) (kk : Nat) (x : Int32) (s : TrS) : (syM i v kk x s).2.1 ≤ s.1 + 5 := by
  unfold syM
  split
  · have := ss_n i v kk x s; omega
  · split
    · have := ss_n i v kk (x + 1) (nt 51 s)
      have e : (nt 51 s).1 = s.1 + 1 := rfl
      omega
    · split
      · have := ms_n i v kk x (nt 70 s)
        have e : (nt 70 s).1 = s.1 + 1 := rfl
        show (msM i v kk x (nt 70 s)).2.1 + 1 ≤ s.1 + 5
        omega
      · have := ms_n i v kk x s; omega
theorem mt_n (i v : Int32) (kk : Nat) (x : Int32) (s : TrS) : (mtM i v kk x s).2.1 ≤ s.1 + 6 := by
  have := sy_n i v kk x (nt 12 s)
  have e : (nt 12 s).1 = s.1 + 1 := rfl
  show (syM i v kk x (nt 12 s)).2.1 ≤ s.1 + 6
  omega
section CALLS
variable {S : SC} {A : AS} {X : XS}
theorem v_ms {d l kk : Nat} {x : Int32} {H : AH} {s : TrS} {Q : Option Value → AH → Prop} (g : MoL H) (hl : l < 6) (hk : aI H 68 l = nI kk) (k7 : kk < 7) (hn : s.1 < 890) : Wp S (d + 3) 206 0 [.ref 67, .int (nI l), .int x] [] (bS H s) Q = Q (some (.int (msM (nI l) (aI H 69 l) kk x s).1)) (bS H (msM (nI l) (aI H 69 l) kk x s).2) := by
  have lc : (nI l).toNatClampNeg = l := nI_clamp (by omega)
  have l1 : ¬ (nI l < 0 ∨ 6 ≤ l) := inN (by omega) (by omega)
  have b11 : ∀ Q, Wp S (d + 2) 203 0 [.ref 67, .int 11] [] (bS H s) Q = Q none (bS H (nt 11 s)) := fun Q => v_body (b := 11) g (by omega)
  have lk := fun Q => v_lk (S := S) (d := d) (x := x) (s := nt 11 s) (Q := Q) g hl hk k7 (by show s.1 + 1 < 900; omega)
  simp only [sX8_maidSays_0, sX8_maidSays_1, sX8_maidSays_3 (st := []), sX8_maidSays_6, sX8_maidSays_7, sX8_maidSays_8, sX8_maidSays_9 (st := []), sX8_maidSays_12, sX8_maidSays_13, sX8_maidSays_16, sX8_maidSays_17, sX8_maidSays_18, sX8_maidSays_19 (st := []), inb, nz_3, nz_4, nz_6, nz_8, nz_10, nz_100, nz_300, pushr_s, pushr_n, rv_s, rv_n, kd_sI, kd_sR, kd_sJ, sz_sI, sz_sR, sz_sJ, aR_sI, aJ_sI, aI_sR, aI_sJ, not_false_eq_true, true_and, and_true, true_or, or_true, or_false, false_or, eq_self, ite_true, ite_false, if_true, if_false, kd_bS, sz_bS, aR_bS, mk_67 g, mr_6 g, mk_69 g, mz_69 g, bS_69, lc, l1, b11, lk, msM]
theorem v_ss {d l kk : Nat} {x : Int32} {H : AH} {s : TrS} {Q : Option Value → AH → Prop} (g : MoL H) (hl : l < 6) (hk : aI H 68 l = nI kk) (k7 : kk < 7) (hn : s.1 < 880) : Wp S (d + 4) 207 0 [.ref 67, .int (nI l), .int x] [] (bS H s) Q = Q (some (.int (ssM (nI l) (aI H 69 l) kk x s).1)) (bS H (ssM (nI l) (aI H 69 l) kk x s).2) := by
  have b20 : ∀ Q, Wp S (d + 3) 203 0 [.ref 67, .int 20] [] (bS H s) Q = Q none (bS H (nt 20 s)) := fun Q => v_body (b := 20) g (by omega)
  have ms := fun Q => v_ms (S := S) (d := d) (x := x) (s := nt 20 s) (Q := Q) g hl hk k7 (by show s.1 + 1 < 890; omega)
  simp only [sX8_setterSays_0, sX8_setterSays_1, sX8_setterSays_3 (st := []), sX8_setterSays_6, sX8_setterSays_7, sX8_setterSays_8, sX8_setterSays_9 (st := []), sX8_setterSays_12, sX8_setterSays_14, sX8_setterSays_15 (st := []), inb, nz_3, nz_4, nz_6, nz_8, nz_10, nz_100, nz_300, pushr_s, pushr_n, rv_s, rv_n, kd_sI, kd_sR, kd_sJ, sz_sI, sz_sR, sz_sJ, aR_sI, aJ_sI, aI_sR, aI_sJ, not_false_eq_true, true_and, and_true, true_or, or_true, or_false, false_or, eq_self, ite_true, ite_false, if_true, if_false, kd_bS, mk_67 g, b20, ms, ssM]
theorem v_sy {d l kk : Nat} {x : Int32} {H : AH} {s : TrS} {Q : Option Value → AH → Prop} (g : MoL H) (hl : l < 6) (hk : aI H 68 l = nI kk) (k7 : kk < 7) (hn : s.1 < 870) : Wp S (d + 5) 208 0 [.ref 67, .int (nI l), .int x, hole] [] (bS H s) Q = Q (some (.int (syM (nI l) (aI H 69 l) kk x s).1)) (bS H (syM (nI l) (aI H 69 l) kk x s).2) := by
  have lc : (nI l).toNatClampNeg = l := nI_clamp (by omega)
  have l1 : ¬ (nI l < 0 ∨ 6 ≤ l) := inN (by omega) (by omega)
  have b51 : ∀ Q, Wp S (d + 4) 203 0 [.ref 67, .int 51] [] (bS H s) Q = Q none (bS H (nt 51 s)) := fun Q => v_body (b := 51) g (by omega)
  have b70 : ∀ Q, Wp S (d + 4) 203 0 [.ref 67, .int 70] [] (bS H s) Q = Q none (bS H (nt 70 s)) := fun Q => v_body (b := 70) g (by omega)
  have ss := fun Q => v_ss (S := S) (d := d) (x := x) (s := s) (Q := Q) g hl hk k7 (by omega)
  have ss2 := fun Q => v_ss (S := S) (d := d) (x := x + 1) (s := nt 51 s) (Q := Q) g hl hk k7 (by show s.1 + 1 < 880; omega)
  have ms := fun Q => v_ms (S := S) (d := d + 1) (x := x) (s := s) (Q := Q) g hl hk k7 (by omega)
  have ms2 := fun Q => v_ms (S := S) (d := d + 1) (x := x) (s := nt 70 s) (Q := Q) g hl hk k7 (by show s.1 + 1 < 890; omega)
  have ml := fun Q => v_mlk (S := S) (d := d + 3) (l := l) (x := 2) (s := (msM (nI l) (aI H 69 l) kk x (nt 70 s)).2) (Q := Q) g (by have := ms_n (nI l) (aI H 69 l) kk x (nt 70 s); have e : (nt 70 s).1 = s.1 + 1 := rfl; omega)
  have h7 : kk = 0 ∨ kk = 1 ∨ kk = 2 ∨ kk = 3 ∨ kk = 4 ∨ kk = 5 ∨ kk = 6 := by omega
  have c0 : ((0 : Nat) = 1) = False := eq_false (by decide)
  rcases h7 with rfl | rfl | rfl | rfl | rfl | rfl | rfl <;> simp only [sX8_saysAct_0, sX8_saysAct_1, sX8_saysAct_4, sX8_saysAct_5, sX8_saysAct_6, sX8_saysAct_84, sX8_saysAct_40, sX8_saysAct_47, sX8_saysAct_62, sX8_saysAct_85, sX8_saysAct_41, sX8_saysAct_48, sX8_saysAct_63, sX8_saysAct_86, sX8_saysAct_42, sX8_saysAct_50 (st := []), sX8_saysAct_65 (st := []), sX8_saysAct_87 (st := []), sX8_saysAct_43 (st := []), sX8_saysAct_53, sX8_saysAct_68, sX8_saysAct_90 (st := []), sX8_saysAct_46 (st := []), sX8_saysAct_54, sX8_saysAct_69, sX8_saysAct_55, sX8_saysAct_70, sX8_saysAct_56, sX8_saysAct_71 (st := []), sX8_saysAct_57, sX8_saysAct_74, sX8_saysAct_58 (st := []), sX8_saysAct_75, sX8_saysAct_61 (st := []), sX8_saysAct_76, sX8_saysAct_77, sX8_saysAct_78, sX8_saysAct_79 (st := []), sX8_saysAct_82, sX8_saysAct_83 (st := []), inb, nz_3, nz_4, nz_6, nz_8, nz_10, nz_100, nz_300, pushr_s, pushr_n, rv_s, rv_n, kd_sI, kd_sR, kd_sJ, sz_sI, sz_sR, sz_sJ, aR_sI, aJ_sI, aI_sR, aI_sJ, not_false_eq_true, true_and, and_true, true_or, or_true, or_false, false_or, eq_self, ite_true, ite_false, if_true, if_false, L_0_0, L_0_1, L_0_2, L_0_3, L_0_4, L_0_5, L_0_6, L_0_7, L_1_0, L_1_1, L_1_2, L_1_3, L_1_4, L_1_5, L_1_6, L_1_7, L_2_0, L_2_1, L_2_2, L_2_3, L_2_4, L_2_5, L_2_6, L_2_7, L_3_0, L_3_1, L_3_2, L_3_3, L_3_4, L_3_5, L_3_6, L_3_7, L_4_0, L_4_1, L_4_2, L_4_3, L_4_4, L_4_5, L_4_6, L_4_7, L_5_0, L_5_1, L_5_2, L_5_3, L_5_4, L_5_5, L_5_6, L_5_7, L_6_0, L_6_1, L_6_2, L_6_3, L_6_4, L_6_5, L_6_6, L_6_7, L_7_0, L_7_1, L_7_2, L_7_3, L_7_4, L_7_5, L_7_6, L_7_7, I_0, I_1, I_2, I_3, I_4, I_5, I_6, I_7, kd_bS, sz_bS, aR_bS, mk_67 g, mr_5 g, mk_68 g, mz_68 g, bS_68, lc, l1, hk, b51, b70, ss, ss2, ms, ms2, ml] <;> rfl
theorem v_mt {d l kk : Nat} {x : Int32} {H : AH} {s : TrS} {Q : Option Value → AH → Prop} (g : MoL H) (hl : l < 6) (hk : aI H 68 l = nI kk) (k7 : kk < 7) (hn : s.1 < 860) : Wp S (d + 6) 209 0 [.ref 67, .int (nI l), .int x] [] (bS H s) Q = Q (some (.int (mtM (nI l) (aI H 69 l) kk x s).1)) (bS H (mtM (nI l) (aI H 69 l) kk x s).2) := by
  have b12 : ∀ Q, Wp S (d + 5) 203 0 [.ref 67, .int 12] [] (bS H s) Q = Q none (bS H (nt 12 s)) := fun Q => v_body (b := 12) g (by omega)
  have sy := fun Q => v_sy (S := S) (d := d) (x := x) (s := nt 12 s) (Q := Q) g hl hk k7 (by show s.1 + 1 < 870; omega)
  simp only [sX8_maidTells_0, sX8_maidTells_1, sX8_maidTells_3 (st := []), sX8_maidTells_6, sX8_maidTells_7, sX8_maidTells_8, sX8_maidTells_9 (st := []), sX8_maidTells_12, sX8_maidTells_13, sX8_maidTells_14 (st := []), inb, nz_3, nz_4, nz_6, nz_8, nz_10, nz_100, nz_300, pushr_s, pushr_n, rv_s, rv_n, kd_sI, kd_sR, kd_sJ, sz_sI, sz_sR, sz_sJ, aR_sI, aJ_sI, aI_sR, aI_sJ, not_false_eq_true, true_and, and_true, true_or, or_true, or_false, false_or, eq_self, ite_true, ite_false, if_true, if_false, kd_bS, mk_67 g, b12, sy, mtM]
theorem v_tl {d l kk : Nat} {x : Int32} {H : AH} {s : TrS} {Q : Option Value → AH → Prop} (g : MoL H) (hl : l < 6) (hk : aI H 68 l = nI kk) (k7 : kk < 7) (hn : s.1 < 850) : Wp S (d + 7) 210 0 [.ref 67, .int (nI l), .int x, hole] [] (bS H s) Q = Q (some (.int (tlM (nI l) (aI H 69 l) kk x s).1)) (bS H (tlM (nI l) (aI H 69 l) kk x s).2) := by
  have lc : (nI l).toNatClampNeg = l := nI_clamp (by omega)
  have l1 : ¬ (nI l < 0 ∨ 6 ≤ l) := inN (by omega) (by omega)
  have b40 : ∀ Q, Wp S (d + 6) 203 0 [.ref 67, .int 40] [] (bS H s) Q = Q none (bS H (nt 40 s)) := fun Q => v_body (b := 40) g (by omega)
  have b60 : ∀ Q, Wp S (d + 6) 203 0 [.ref 67, .int 60] [] (bS H s) Q = Q none (bS H (nt 60 s)) := fun Q => v_body (b := 60) g (by omega)
  have mt := fun Q => v_mt (S := S) (d := d) (x := x) (s := s) (Q := Q) g hl hk k7 (by omega)
  have mt2 := fun Q => v_mt (S := S) (d := d) (x := x) (s := nt 40 s) (Q := Q) g hl hk k7 (by show s.1 + 1 < 860; omega)
  have mt3 := fun Q => v_mt (S := S) (d := d) (x := x - nI l) (s := nt 60 s) (Q := Q) g hl hk k7 (by show s.1 + 1 < 860; omega)
  have sy := fun Q => v_sy (S := S) (d := d + 1) (x := 1) (s := (mtM (nI l) (aI H 69 l) kk x (nt 40 s)).2) (Q := Q) g hl hk k7 (by have := mt_n (nI l) (aI H 69 l) kk x (nt 40 s); have e : (nt 40 s).1 = s.1 + 1 := rfl; omega)
  have h7 : kk = 0 ∨ kk = 1 ∨ kk = 2 ∨ kk = 3 ∨ kk = 4 ∨ kk = 5 ∨ kk = 6 := by omega
  rcases h7 with rfl | rfl | rfl | rfl | rfl | rfl | rfl <;> simp only [sX8_tellsAct_0, sX8_tellsAct_1, sX8_tellsAct_4, sX8_tellsAct_5, sX8_tellsAct_6, sX8_tellsAct_73, sX8_tellsAct_36, sX8_tellsAct_58, sX8_tellsAct_74, sX8_tellsAct_37, sX8_tellsAct_59, sX8_tellsAct_75, sX8_tellsAct_39 (st := []), sX8_tellsAct_61 (st := []), sX8_tellsAct_76 (st := []), sX8_tellsAct_42, sX8_tellsAct_64, sX8_tellsAct_79 (st := []), sX8_tellsAct_43, sX8_tellsAct_65, sX8_tellsAct_44, sX8_tellsAct_66, sX8_tellsAct_45 (st := []), sX8_tellsAct_67, sX8_tellsAct_48, sX8_tellsAct_68, sX8_tellsAct_49, sX8_tellsAct_69 (st := []), sX8_tellsAct_50, sX8_tellsAct_72 (st := []), sX8_tellsAct_51, sX8_tellsAct_52, sX8_tellsAct_53 (st := []), sX8_tellsAct_56, sX8_tellsAct_57 (st := []), inb, nz_3, nz_4, nz_6, nz_8, nz_10, nz_100, nz_300, pushr_s, pushr_n, rv_s, rv_n, kd_sI, kd_sR, kd_sJ, sz_sI, sz_sR, sz_sJ, aR_sI, aJ_sI, aI_sR, aI_sJ, not_false_eq_true, true_and, and_true, true_or, or_true, or_false, false_or, eq_self, ite_true, ite_false, if_true, if_false, L_0_0, L_0_1, L_0_2, L_0_3, L_0_4, L_0_5, L_0_6, L_0_7, L_1_0, L_1_1, L_1_2, L_1_3, L_1_4, L_1_5, L_1_6, L_1_7, L_2_0, L_2_1, L_2_2, L_2_3, L_2_4, L_2_5, L_2_6, L_2_7, L_3_0, L_3_1, L_3_2, L_3_3, L_3_4, L_3_5, L_3_6, L_3_7, L_4_0, L_4_1, L_4_2, L_4_3, L_4_4, L_4_5, L_4_6, L_4_7, L_5_0, L_5_1, L_5_2, L_5_3, L_5_4, L_5_5, L_5_6, L_5_7, L_6_0, L_6_1, L_6_2, L_6_3, L_6_4, L_6_5, L_6_6, L_6_7, L_7_0, L_7_1, L_7_2, L_7_3, L_7_4, L_7_5, L_7_6, L_7_7, I_0, I_1, I_2, I_3, I_4, I_5, I_6, I_7, kd_bS, sz_bS, aR_bS, mk_67 g, mr_5 g, mk_68 g, mz_68 g, bS_68, lc, l1, hk, b40, b60, mt, mt2, mt3, sy] <;> rfl
end CALLS
