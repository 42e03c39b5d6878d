-- 71: call: act (the reference; both)
def Agr (s t : TrS) : Prop := s.1 = t.1 ∧ ∀ j, j < s.1 → j < 20 → s.2 j = t.2 j
theorem nt_ag {s t : TrS} (b : Nat) (h : Agr s t) : Agr (nt b s) (nt b t) := by
  refine ⟨congrArg (· + 1) h.1, fun j hj h20 => ?_⟩
  have hj : j < s.1 + 1 := hj
  show (if s.1 < 20 then upd s.2 s.1 (nI b) else s.2) j = (if t.1 < 20 then upd t.2 t.1 (nI b) else t.2) j
  rw [← h.1]
  by_cases q : s.1 < 20
  · rw [if_pos q, if_pos q]
    by_cases e : j = s.1
    · rw [e, pk_us, pk_us]
    · rw [pk_un e, pk_un e]; exact h.2 j (by omega) h20
  · rw [if_neg q, if_neg q]; exact h.2 j (by omega) h20
def Ag2 (p q : Int32 × TrS) : Prop := p.1 = q.1 ∧ Agr p.2 q.2
theorem lk_ag (i v : Int32) (kk : Nat) (x : Int32) {s t : TrS} (h : Agr s t) : Ag2 (lkM i v kk x s) (lkM i v kk x t) := by
  unfold lkM
  split
  · exact ⟨rfl, nt_ag 10 (nt_ag 30 h)⟩
  · split
    · exact ⟨rfl, nt_ag 10 (nt_ag 50 h)⟩
    · split
      · exact ⟨rfl, nt_ag 10 (nt_ag 71 h)⟩
      · exact ⟨rfl, nt_ag 10 h⟩
theorem ms_ag (i v : Int32) (kk : Nat) (x : Int32) {s t : TrS} (h : Agr s t) : Ag2 (msM i v kk x s) (msM i v kk x t) := by
  obtain ⟨a, b⟩ := lk_ag i v kk x (nt_ag 11 h)
  exact ⟨congrArg (· - v) a, b⟩
theorem ss_ag (i v : Int32) (kk : Nat) (x : Int32) {s t : TrS} (h : Agr s t) : Ag2 (ssM i v kk x s) (ssM i v kk x t) := by
  obtain ⟨a, b⟩ := ms_ag i v kk x (nt_ag 20 h)
  exact ⟨congrArg (· ^^^ 6) a, b⟩
theorem sy_ag (i v : Int32) (kk : Nat) (x : Int32) {s t : TrS} (h : Agr s t) : Ag2 (syM i v kk x s) (syM i v kk x t) := by
  unfold syM
  split
  · exact ss_ag i v kk x h
  · split
    · exact ss_ag i v kk (x + 1) (nt_ag 51 h)
    · split
      · obtain ⟨a, b⟩ := ms_ag i v kk x (nt_ag 70 h)
        exact ⟨congrArg (· + (2 + i)) a, nt_ag 10 b⟩
      · exact ms_ag i v kk x h
theorem mt_ag (i v : Int32) (kk : Nat) (x : Int32) {s t : TrS} (h : Agr s t) : Ag2 (mtM i v kk x s) (mtM i v kk x t) := by
  obtain ⟨a, b⟩ := sy_ag i v kk x (nt_ag 12 h)
  exact ⟨congrArg (· * 2) a, b⟩
theorem tl_ag (i v : Int32) (kk : Nat) (x : Int32) {s t : TrS} (h : Agr s t) : Ag2 (tlM i v kk x s) (tlM i v kk x t) := by
  unfold tlM
  split
  · obtain ⟨a, b⟩ := mt_ag i v kk x (nt_ag 40 h)
    obtain ⟨a2, b2⟩ := sy_ag i v kk 1 b
    exact ⟨by rw [a, a2], b2⟩
  · split
    · exact mt_ag i v kk (x - i) (nt_ag 60 h)
    · exact mt_ag i v kk x h
theorem ac_ag (i v : Int32) (kk a : Nat) (x : Int32) {s t : TrS} (h : Agr s t) : Ag2 (acM i v kk a x s) (acM i v kk a x t) := by
  unfold acM
  split
  · exact lk_ag i v kk x h
  · split
    · exact sy_ag i v kk x h
    · exact tl_ag i v kk x h
theorem ac_n (i v x : Int32) (B : Nat → Int32) : ∀ kk, kk < 7 → ∀ a, a < 3 → (acM i v kk a x (0, B)).2.1 ≤ 20 := by
  intro kk hk a ha
  have k7 : kk = 0 ∨ kk = 1 ∨ kk = 2 ∨ kk = 3 ∨ kk = 4 ∨ kk = 5 ∨ kk = 6 := by omega
  have a3 : a = 0 ∨ a = 1 ∨ a = 2 := by omega
  rcases k7 with rfl | rfl | rfl | rfl | rfl | rfl | rfl <;> rcases a3 with rfl | rfl | rfl <;> exact Nat.le_of_ble_eq_true rfl
def bS (H : AH) (s : TrS) : AH := (H.1, fun a b => if a = 67 then (if b = 66 then nI s.1 else H.2.1 67 b) else if a = 105 then s.2 b else H.2.1 a b, H.2.2.1, H.2.2.2)
theorem aI_bS (H : AH) (s : TrS) (a b : Nat) : aI (bS H s) a b = if a = 67 then (if b = 66 then nI s.1 else aI H 67 b) else if a = 105 then s.2 b else aI H a b := rfl
theorem bS_66 (H : AH) (s : TrS) : aI (bS H s) 67 66 = nI s.1 := rfl
theorem bS_68 (H : AH) (s : TrS) (i : Nat) : aI (bS H s) 68 i = aI H 68 i := rfl
theorem bS_69 (H : AH) (s : TrS) (i : Nat) : aI (bS H s) 69 i = aI H 69 i := rfl
theorem kd_bS (H : AH) (s : TrS) (o : Nat) : kd (bS H s) o = kd H o := rfl
theorem sz_bS (H : AH) (s : TrS) (o : Nat) : sz (bS H s) o = sz H o := rfl
theorem aR_bS (H : AH) (s : TrS) : aR (bS H s) = aR H := rfl
theorem bS_set {H : AH} {s s2 : TrS} {k i : Nat} {v : Int32} (h : ∀ a b, (if a = k ∧ b = i then v else aI (bS H s) a b) = aI (bS H s2) a b) : sI (bS H s) k i v = bS H s2 := by
  show (H.1, (fun a b => if a = k ∧ b = i then v else aI (bS H s) a b), H.2.2.1, H.2.2.2) = (H.1, (fun a b => aI (bS H s2) a b), H.2.2.1, H.2.2.2)
  exact congrArg (fun f => (H.1, f, H.2.2.1, H.2.2.2)) (funext fun a => funext fun b => h a b)
theorem bS_w1 {H : AH} {s : TrS} {n : Nat} : sI (bS H s) 67 66 (nI n) = bS H (n, s.2) := bS_set fun a b => by
  rw [aI_bS, aI_bS]
  by_cases ha : a = 67
  · by_cases hb : b = 66
    · rw [if_pos ⟨ha, hb⟩, if_pos ha, if_pos hb]
    · rw [if_neg (fun z => hb z.2), if_pos ha, if_pos ha, if_neg hb, if_neg hb]
  · rw [if_neg (fun z => ha z.1), if_neg ha, if_neg ha]
theorem bS_w2 {H : AH} {s : TrS} {i : Nat} {v : Int32} : sI (bS H s) 105 i v = bS H (s.1, upd s.2 i v) := bS_set fun a b => by
  rw [aI_bS, aI_bS]
  by_cases ha : a = 105
  · have h67 : ¬ a = 67 := by omega
    rw [if_neg h67, if_neg h67, if_pos ha, if_pos ha]
    by_cases hb : b = i
    · rw [if_pos ⟨ha, hb⟩, hb]; exact (pk_us (f := s.2)).symm
    · rw [if_neg (fun z => hb z.2)]; exact (pk_un (f := s.2) hb).symm
  · rw [if_neg (fun z => ha z.1), if_neg ha, if_neg ha]
theorem bS_0 (H : AH) : sI H 67 66 0 = bS H (0, aI H 105) := by
  show (H.1, (fun a b => aI (sI H 67 66 0) a b), H.2.2.1, H.2.2.2) = (H.1, (fun a b => aI (bS H (0, aI H 105)) a b), H.2.2.1, H.2.2.2)
  refine congrArg (fun f => (H.1, f, H.2.2.1, H.2.2.2)) (funext fun a => funext fun b => ?_)
  rw [aI_bS, gI]
  by_cases ha : a = 67
  · by_cases hb : b = 66
    · rw [if_pos ⟨ha, hb⟩, if_pos ha, if_pos hb]; rfl
    · rw [if_neg (fun z => hb z.2), if_pos ha, if_neg hb, ha]
  · rw [if_neg (fun z => ha z.1), if_neg ha]
    by_cases h5 : a = 105
    · rw [if_pos h5, h5]
    · rw [if_neg h5]
theorem aS_0 (H : AH) : sI H 52 1 0 = aS H (0, aI H 53) := by
  show (H.1, (fun a b => aI (sI H 52 1 0) a b), H.2.2.1, H.2.2.2) = (H.1, (fun a b => aI (aS H (0, aI H 53)) a b), H.2.2.1, H.2.2.2)
  refine congrArg (fun f => (H.1, f, H.2.2.1, H.2.2.2)) (funext fun a => funext fun b => ?_)
  rw [aI_aS, gI]
  by_cases ha : a = 52
  · by_cases hb : b = 1
    · rw [if_pos ⟨ha, hb⟩, if_pos ha, if_pos hb]; rfl
    · rw [if_neg (fun z => hb z.2), if_pos ha, if_neg hb, ha]
  · rw [if_neg (fun z => ha z.1), if_neg ha]
    by_cases h5 : a = 53
    · rw [if_pos h5, h5]
    · rw [if_neg h5]
theorem aS_base {H : AH} {s : TrS} {i : Nat} {v : Int32} (hi : i ≠ 1) : sI (aS H s) 52 i v = aS (sI H 52 i v) s := by
  show (H.1, (fun a b => aI (sI (aS H s) 52 i v) a b), H.2.2.1, H.2.2.2) = (H.1, (fun a b => aI (aS (sI H 52 i v) s) a b), H.2.2.1, H.2.2.2)
  refine congrArg (fun f => (H.1, f, H.2.2.1, H.2.2.2)) (funext fun a => funext fun b => ?_)
  rw [gI, aI_aS, aI_aS, gI, gI]
  by_cases ha : a = 52
  · by_cases hb : b = 1
    · rw [if_neg (fun z => hi (z.2.symm.trans hb)), if_pos ha, if_pos ha, if_pos hb, if_pos hb]
    · rw [if_pos ha, if_pos ha, if_neg hb, if_neg hb]
      by_cases hc : b = i
      · rw [if_pos ⟨ha, hc⟩, if_pos ⟨rfl, hc⟩]
      · rw [if_neg (fun z => hc z.2), if_neg (fun z => hc z.2)]
  · rw [if_neg (fun z => ha z.1), if_neg ha, if_neg ha]
    by_cases h5 : a = 53
    · rw [if_pos h5, if_pos h5]
    · rw [if_neg h5, if_neg h5, if_neg (fun z => ha z.1)]
section CALLS
variable {S : SC} {A : AS} {X : XS}
theorem v_body {d b : Nat} {H : AH} {s : TrS} {Q : Option Value → AH → Prop} (g : MoL H) (hn : s.1 < 2 ^ 30) : Wp S d 203 0 [.ref 67, .int (nI b)] [] (bS H s) Q = Q none (bS H (nt b s)) := by
  unfold nt
  by_cases q : s.1 < 20
  · have q1 : ¬ 20 ≤ nI s.1 := nI_ge (b := 20) q (by decide)
    have kc : (nI s.1).toNatClampNeg = s.1 := nI_clamp (by omega)
    have kb : ¬ (nI s.1 < 0 ∨ 20 ≤ s.1) := inN q (by omega)
    rw [if_pos q]
    simp only [sX8_body_0, sX8_body_1, sX8_body_4, sX8_body_6, sX8_body_9, sX8_body_19, sX8_body_10, sX8_body_20, sX8_body_13, sX8_body_21, sX8_body_14, sX8_body_24, sX8_body_17, sX8_body_25, sX8_body_18, sX8_body_26, sX8_body_29 (st := []), inb, nz_3, nz_4, nz_6, nz_8, nz_10, nz_100, nz_300, pushr_s, pushr_n, rv_s, rv_n, kd_sI, kd_sR, kd_sJ, sz_sI, sz_sR, sz_sJ, aR_sI, aJ_sI, aI_sR, aI_sJ, not_false_eq_true, true_and, and_true, true_or, or_true, or_false, false_or, eq_self, ite_true, ite_false, if_true, if_false, kd_bS, sz_bS, aR_bS, mk_67 g, mr_67 g, mk_105 g, mz_105 g, bS_66, q1, kc, kb, bS_w2, nI_1, bS_w1]
  · have q1 : 20 ≤ nI s.1 := nI_le (a := 20) (by omega) (by omega)
    rw [if_neg q]
    simp only [sX8_body_0, sX8_body_1, sX8_body_4, sX8_body_6, sX8_body_9, sX8_body_19, sX8_body_10, sX8_body_20, sX8_body_13, sX8_body_21, sX8_body_14, sX8_body_24, sX8_body_17, sX8_body_25, sX8_body_18, sX8_body_26, sX8_body_29 (st := []), inb, nz_3, nz_4, nz_6, nz_8, nz_10, nz_100, nz_300, pushr_s, pushr_n, rv_s, rv_n, kd_sI, kd_sR, kd_sJ, sz_sI, sz_sR, sz_sJ, aR_sI, aJ_sI, aI_sR, aI_sJ, not_false_eq_true, true_and, and_true, true_or, or_true, or_false, false_or, eq_self, ite_true, ite_false, if_true, if_false, kd_bS, mk_67 g, bS_66, q1, nI_1, bS_w1]
theorem v_mlk {d l : Nat} {x : Int32} {H : AH} {s : TrS} {Q : Option Value → AH → Prop} (g : MoL H) (hn : s.1 < 1000) : Wp S (d + 1) 204 0 [.ref 67, .int (nI l), .int x] [] (bS H s) Q = Q (some (.int (x + nI l))) (bS H (nt 10 s)) := by
  have hb : ∀ Q, Wp S d 203 0 [.ref 67, .int 10] [] (bS H s) Q = Q none (bS H (nt 10 s)) := fun Q => v_body (b := 10) g (by omega)
  simp only [sX8_maidLooks_0, sX8_maidLooks_1, sX8_maidLooks_3 (st := []), sX8_maidLooks_6, sX8_maidLooks_7, sX8_maidLooks_8, sX8_maidLooks_9 (st := []), inb, nz_3, nz_4, nz_6, nz_8, nz_10, nz_100, nz_300, pushr_s, pushr_n, rv_s, rv_n, kd_sI, kd_sR, kd_sJ, sz_sI, sz_sR, sz_sJ, aR_sI, aJ_sI, aI_sR, aI_sJ, not_false_eq_true, true_and, and_true, true_or, or_true, or_false, false_or, eq_self, ite_true, ite_false, if_true, if_false, kd_bS, mk_67 g, hb]
theorem v_lk {d l kk : Nat} {x : Int32} {H : AH} {s : TrS} {Q : Option Value → AH → Prop} (g : MoL H) (hl : l < 6) (hk : aI H 68 l = nI kk) (k7 : kk < 7) (hn : s.1 < 900) : Wp S (d + 2) 205 0 [.ref 67, .int (nI l), .int x] [] (bS H s) Q = Q (some (.int (lkM (nI l) (aI H 69 l) kk x s).1)) (bS H (lkM (nI l) (aI H 69 l) kk x s).2) := by
  have lc : (nI l).toNatClampNeg = l := nI_clamp (by omega)
  have l1 : ¬ (nI l < 0 ∨ 6 ≤ l) := inN (by omega) (by omega)
  have b30 : ∀ Q, Wp S (d + 1) 203 0 [.ref 67, .int 30] [] (bS H s) Q = Q none (bS H (nt 30 s)) := fun Q => v_body (b := 30) g (by omega)
  have b50 : ∀ Q, Wp S (d + 1) 203 0 [.ref 67, .int 50] [] (bS H s) Q = Q none (bS H (nt 50 s)) := fun Q => v_body (b := 50) g (by omega)
  have b71 : ∀ Q, Wp S (d + 1) 203 0 [.ref 67, .int 71] [] (bS H s) Q = Q none (bS H (nt 71 s)) := fun Q => v_body (b := 71) g (by omega)
  have m1 := fun x Q => v_mlk (S := S) (d := d) (l := l) (x := x) (s := s) (Q := Q) g (by omega)
  have m2 := fun b x Q => v_mlk (S := S) (d := d) (l := l) (x := x) (s := nt b s) (Q := Q) g (by show s.1 + 1 < 1000; omega)
  have h7 : kk = 0 ∨ kk = 1 ∨ kk = 2 ∨ kk = 3 ∨ kk = 4 ∨ kk = 5 ∨ kk = 6 := by omega
  rcases h7 with rfl | rfl | rfl | rfl | rfl | rfl | rfl <;> simp only [sX8_looksAct_0, sX8_looksAct_1, sX8_looksAct_4, sX8_looksAct_5, sX8_looksAct_6, sX8_looksAct_89, sX8_looksAct_40, sX8_looksAct_55, sX8_looksAct_69, sX8_looksAct_90, sX8_looksAct_41, sX8_looksAct_56, sX8_looksAct_70, sX8_looksAct_91, sX8_looksAct_43 (st := []), sX8_looksAct_58 (st := []), sX8_looksAct_72 (st := []), sX8_looksAct_92 (st := []), sX8_looksAct_46, sX8_looksAct_61, sX8_looksAct_75, sX8_looksAct_95 (st := []), sX8_looksAct_47, sX8_looksAct_62, sX8_looksAct_76, sX8_looksAct_48, sX8_looksAct_63, sX8_looksAct_77, sX8_looksAct_49, sX8_looksAct_64 (st := []), sX8_looksAct_78 (st := []), sX8_looksAct_50, sX8_looksAct_67, sX8_looksAct_81, sX8_looksAct_51 (st := []), sX8_looksAct_68 (st := []), sX8_looksAct_82, sX8_looksAct_54 (st := []), sX8_looksAct_85, sX8_looksAct_86, sX8_looksAct_87, sX8_looksAct_88 (st := []), inb, nz_3, nz_4, nz_6, nz_8, nz_10, nz_100, nz_300, pushr_s, pushr_n, rv_s, rv_n, kd_sI, kd_sR, kd_sJ, sz_sI, sz_sR, sz_sJ, aR_sI, aJ_sI, aI_sR, aI_sJ, not_false_eq_true, true_and, and_true, true_or, or_true, or_false, false_or, eq_self, ite_true, ite_false, if_true, if_false, L_0_0, L_0_1, L_0_2, L_0_3, L_0_4, L_0_5, L_0_6, L_0_7, L_1_0, L_1_1, L_1_2, L_1_3, L_1_4, L_1_5, L_1_6, L_1_7, L_2_0, L_2_1, L_2_2, L_2_3, L_2_4, L_2_5, L_2_6, L_2_7, L_3_0, L_3_1, L_3_2, L_3_3, L_3_4, L_3_5, L_3_6, L_3_7, L_4_0, L_4_1, L_4_2, L_4_3, L_4_4, L_4_5, L_4_6, L_4_7, L_5_0, L_5_1, L_5_2, L_5_3, L_5_4, L_5_5, L_5_6, L_5_7, L_6_0, L_6_1, L_6_2, L_6_3, L_6_4, L_6_5, L_6_6, L_6_7, L_7_0, L_7_1, L_7_2, L_7_3, L_7_4, L_7_5, L_7_6, L_7_7, I_0, I_1, I_2, I_3, I_4, I_5, I_6, I_7, kd_bS, sz_bS, aR_bS, mk_67 g, mr_5 g, mk_68 g, mz_68 g, mr_6 g, mk_69 g, mz_69 g, bS_68, bS_69, lc, l1, hk, b30, b50, b71, m1, m2] <;> rfl
end CALLS
