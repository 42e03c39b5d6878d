-- 21: tokens of a clause: their value; the reference's holds
def bi (b : Bool) : Int32 := if b then 1 else 0
def upB (p : Nat → Bool) (i : Nat) (b : Bool) : Nat → Bool := fun j => if j = i then b else p j
theorem upB_s (p : Nat → Bool) (i : Nat) (b : Bool) : upB p i b i = b := if_pos rfl
theorem upB_n (p : Nat → Bool) (i j : Nat) (b : Bool) (h : j ≠ i) : upB p i b j = p j := if_neg h
/-- a test of a letter: t below 1800 -/
def tstT (F : Nat → Int32) (t : Nat) : Bool := if t / 100 % 3 = 0 then decide (F (t / 300) < nI (t % 100)) else if t / 100 % 3 = 1 then decide (F (t / 300) = nI (t % 100)) else decide (nI (t % 100) < F (t / 300))
/-- a token's value: 1800 both, 2100 either, 2400 not -/
def evT (F : Nat → Int32) (t : Nat) (s : Nat × (Nat → Bool)) : Nat × (Nat → Bool) :=
  if t = 1800 then (s.1 - 1, upB s.2 (s.1 - 2) (s.2 (s.1 - 2) && s.2 (s.1 - 1)))
  else if t = 2100 then (s.1 - 1, upB s.2 (s.1 - 2) (s.2 (s.1 - 2) || s.2 (s.1 - 1)))
  else if t = 2400 then (s.1, upB s.2 (s.1 - 1) (!s.2 (s.1 - 1)))
  else (s.1 + 1, upB s.2 s.1 (tstT F t))
def evL (F : Nat → Int32) : List Nat → Nat × (Nat → Bool) → Nat × (Nat → Bool)
  | [], s => s
  | t :: r, s => evL F r (evT F t s)
/-- how deep the stack is behind a token; none: it isn't one -/
def dpT (t n : Nat) : Option Nat := if t = 1800 ∨ t = 2100 then (if 2 ≤ n then some (n - 1) else none) else if t = 2400 then (if 1 ≤ n then some n else none) else if t < 1800 ∧ n < 30 then some (n + 1) else none
def dpL : List Nat → Nat → Option Nat
  | [], n => some n
  | t :: r, n => match dpT t n with | some m => dpL r m | none => none
theorem dpL_cons {t : Nat} {r : List Nat} {n e : Nat} (h : dpL (t :: r) n = some e) : ∃ m, dpT t n = some m ∧ dpL r m = some e := by
  unfold dpL at h
  cases hm : dpT t n with
  | none => rw [hm] at h; cases h
  | some m => rw [hm] at h; exact ⟨m, rfl, h⟩
/-- a token as the reference writes it -/
def enM (t : Nat) : Int32 := if t = 1800 then -38 else if t = 2100 then -124 else if t = 2400 then -33 else nI (1000 * (t / 300) + 100 * (t / 100 % 3) + t % 100)
def sA (H : AH) (p : Nat → Int32) : AH := (H.1, (fun a b => if a = 82 then p b else H.2.1 a b), H.2.2.1, H.2.2.2)
theorem kd_sA (H : AH) (p : Nat → Int32) (o : Nat) : kd (sA H p) o = kd H o := rfl
theorem sz_sA (H : AH) (p : Nat → Int32) (o : Nat) : sz (sA H p) o = sz H o := rfl
theorem aR_sA (H : AH) (p : Nat → Int32) : aR (sA H p) = aR H := rfl
theorem aJ_sA (H : AH) (p : Nat → Int32) : aJ (sA H p) = aJ H := rfl
theorem aI_sA (H : AH) (p : Nat → Int32) {k : Nat} (h : k ≠ 82) : aI (sA H p) k = aI H k := funext fun _ => if_neg h
theorem aI_sA2 (H : AH) (p : Nat → Int32) : aI (sA H p) 82 = p := by
  funext j
  show (if 82 = 82 then p j else aI H 82 j) = p j
  exact if_pos rfl
theorem sA_sA (H : AH) (p q : Nat → Int32) : sA (sA H p) q = sA H q := by
  unfold sA
  refine congrArg (fun f => (H.1, f, H.2.2.1, H.2.2.2)) (funext fun a => funext fun b => ?_)
  show (if a = 82 then q b else if a = 82 then p b else _) = _
  by_cases h : a = 82
  · rw [if_pos h, if_pos h]
  · rw [if_neg h, if_neg h, if_neg h]
theorem sI_sA (H : AH) (p : Nat → Int32) (i : Nat) (v : Int32) : sI (sA H p) 82 i v = sA H (upd p i v) := by
  unfold sA sI u2
  refine congrArg (fun f => (H.1, f, H.2.2.1, H.2.2.2)) (funext fun a => funext fun b => ?_)
  show (if a = 82 ∧ b = i then v else if a = 82 then p b else _) = (if a = 82 then upd p i v b else _)
  by_cases h : a = 82
  · rw [if_pos h, if_pos h]
    by_cases e : b = i
    · rw [if_pos ⟨h, e⟩, e]; exact (pk_us).symm
    · rw [if_neg (fun z => e z.2)]; exact (pk_un e).symm
  · rw [if_neg (fun z => h z.1), if_neg h, if_neg h]
theorem sA_self (H : AH) : sA H (aI H 82) = H := by
  unfold sA
  refine congrArg (fun f => (H.1, f, H.2.2.1, H.2.2.2)) (funext fun a => funext fun b => ?_)
  show (if a = 82 then H.2.1 82 b else _) = _
  by_cases h : a = 82
  · rw [if_pos h, h]
  · rw [if_neg h]
theorem MoL_sA {H : AH} {p : Nat → Int32} (h : MoL H) : MoL (sA H p) := h
/-- the pile holds the stack -/
def PR (pile : Nat → Int32) (p : Nat → Bool) (n : Nat) : Prop := ∀ j, j < n → bz (pile j) = bi (p j)
theorem bz_bi (b : Bool) : bz (bi b) = bi b := by cases b <;> decide +kernel
theorem PR.up {pile : Nat → Int32} {p : Nat → Bool} {n m i : Nat} {b : Bool} {v : Int32} (h : PR pile p n) (hm : ∀ j, j < m → j ≠ i → j < n) (hv : v = bi b) : PR (upd pile i v) (upB p i b) m := fun j hj => by
  by_cases e : j = i
  · subst e
    rw [pk_us, upB_s, hv, bz_bi]
  · rw [pk_un e, upB_n _ _ _ _ e]
    exact h j (hm j hj e)
/-- the reference's facts -/
def facM (what nb kk v n y : Int32) : Int32 := if what = 0 then nb else if what = 1 then kk else if what = 2 then v else if what = 3 then btS n 8 0 0 else if what = 4 then n - n / 10 * 10 else y - y / 10 * 10
theorem bi01 (b : Bool) : (bi b = 0 ∨ bi b = 1) = True := eq_true (by cases b; exact Or.inl rfl; exact Or.inr rfl)
theorem in0_100 : ((0 : Int32) < 0 ∨ 100 ≤ 0) = False := eq_false (by decide +kernel)
theorem bi_t : bi true = 1 := rfl
theorem bi_f : bi false = 0 := rfl
theorem nz_1 : ((1 : Int32) = 0) = False := eq_false (by decide +kernel)
theorem evL_c (F : Nat → Int32) (t : Nat) (r : List Nat) (s : Nat × (Nat → Bool)) : evL F (t :: r) s = evL F r (evT F t s) := rfl
theorem ev_and (F : Nat → Int32) (k : Nat) (p : Nat → Bool) : evT F 1800 (k + 2, p) = (k + 1, upB p k (p k && p (k + 1))) := rfl
theorem ev_or (F : Nat → Int32) (k : Nat) (p : Nat → Bool) : evT F 2100 (k + 2, p) = (k + 1, upB p k (p k || p (k + 1))) := rfl
theorem ev_not (F : Nat → Int32) (k : Nat) (p : Nat → Bool) : evT F 2400 (k + 1, p) = (k + 1, upB p k (!p k)) := rfl
theorem nz_1000 : ((1000 : Int32) = 0) = False := eq_false (by decide +kernel)
theorem nI_clamp0 : (0 : Int32).toNatClampNeg = 0 := by decide +kernel
theorem ng_1 : ((-38 : Int32) = -33) = False := eq_false (by decide +kernel)
theorem ng_2 : ((0 : Int32) ≤ -38) = False := eq_false (by decide +kernel)
theorem ng_3 : ((0 : Int32) ≤ -124) = False := eq_false (by decide +kernel)
theorem ng_4 : ((-124 : Int32) = -33) = False := eq_false (by decide +kernel)
theorem ng_5 : ((-124 : Int32) = -38) = False := eq_false (by decide +kernel)
theorem nI_nneg {n : Nat} {x : Int32} (h : n < 2 ^ 31) (hx : x < 0) : ¬ nI n = x := fun q => nI_pos h (q ▸ hx)
section MODEL
variable {S : SC} {d : Nat} {H : AH} {Q : Option Value → AH → Prop}
theorem m_factOf {what l n : Int32} (h : MoL H) (hl : inb l 6) : Wp S (d + 2) 157 0 [.ref 67, .int what, .int l, .int n] [] H Q = Q (some (.int (facM what l (aI H 68 (ix l)) (aI H 69 (ix l)) n (aI H 67 4)))) H := by
  have hb := fun Q => m_bits (S := S) (d := d) (Q := Q) (x := n) h
  simp only [sX8_factOf_0, sX8_factOf_1, sX8_factOf_63, sX8_factOf_36, sX8_factOf_38, sX8_factOf_45, sX8_factOf_52, sX8_factOf_58, sX8_factOf_64, sX8_factOf_37 (st := []), sX8_factOf_39, sX8_factOf_46, sX8_factOf_53, sX8_factOf_59, sX8_factOf_67, sX8_factOf_42, sX8_factOf_49, sX8_factOf_54 (st := []), sX8_factOf_61, sX8_factOf_69, sX8_factOf_43, sX8_factOf_50, sX8_factOf_57 (st := []), sX8_factOf_62 (st := []), sX8_factOf_70 (st := []), sX8_factOf_44 (st := []), sX8_factOf_51 (st := []), inb, nz_3, nz_4, nz_6, nz_8, nz_10, nz_100, nz_300, pushr_s, pushr_n, rv_s, rv_n, kd_sI, kd_sR, kd_sJ, sz_sI, sz_sR, sz_sJ, aR_sI, aJ_sI, aI_sR, aI_sJ, not_false_eq_true, true_and, and_true, true_or, or_true, or_false, false_or, eq_self, ite_true, ite_false, if_true, if_false, mk_67 h, mr_5 h, mk_68 h, mz_68 h, mr_6 h, mk_69 h, mz_69 h, hl, hb]
  unfold facM
  repeat' split
  all_goals rfl
theorem tk_div {t : Nat} (h : t < 1800) : nI (1000 * (t / 300) + 100 * (t / 100 % 3) + t % 100) / 1000 = nI (t / 300) := by
  have := pk_div (a := 1000 * (t / 300) + 100 * (t / 100 % 3) + t % 100) (d := 1000) (by omega) (by decide) (by decide)
  rw [show (1000 * (t / 300) + 100 * (t / 100 % 3) + t % 100) / 1000 = t / 300 by omega] at this
  exact this
theorem tk_rel {t : Nat} (h : t < 1800) : nI (1000 * (t / 300) + 100 * (t / 100 % 3) + t % 100) / 100 - nI (1000 * (t / 300) + 100 * (t / 100 % 3) + t % 100) / 100 / 10 * 10 = nI (t / 100 % 3) := by
  have h1 := pk_div (a := 1000 * (t / 300) + 100 * (t / 100 % 3) + t % 100) (d := 100) (by omega) (by decide) (by decide)
  have h2 := pk_rem (a := (1000 * (t / 300) + 100 * (t / 100 % 3) + t % 100) / 100) (d := 10) (by omega) (by decide) (by decide)
  rw [show (1000 * (t / 300) + 100 * (t / 100 % 3) + t % 100) / 100 % 10 = t / 100 % 3 by omega, ← h1] at h2
  exact h2
theorem tk_num {t : Nat} (h : t < 1800) : nI (1000 * (t / 300) + 100 * (t / 100 % 3) + t % 100) - nI (1000 * (t / 300) + 100 * (t / 100 % 3) + t % 100) / 100 * 100 = nI (t % 100) := by
  have h2 := pk_rem (a := 1000 * (t / 300) + 100 * (t / 100 % 3) + t % 100) (d := 100) (by omega) (by decide) (by decide)
  rw [show (1000 * (t / 300) + 100 * (t / 100 % 3) + t % 100) % 100 = t % 100 by omega] at h2
  exact h2
theorem lp_holds {c l n : Int32} {E : Nat} (h : MoL H) (hl : inb l 6) (hc : inb c 60) (hE : aI H 78 (ix c) = nI E) (hE6 : E ≤ 600) : ∀ (T : List Nat) (i m : Nat) (p : Nat → Bool) (pile : Nat → Int32), (∀ j, j < T.length → aI H 79 (i + j) = enM (T.getD j 0)) → dpL T m = some 1 → PR pile p m → m ≤ 30 → i + T.length = E →
    ∃ pile', ∀ (Q : Option Value → AH → Prop) (l6 l7 l8 : Value), Wp S (d + 3) 158 11 [.ref 67, .int c, .int l, .int n, .int (nI m), .int (nI i), l6, l7, l8] [] (sA H pile) Q = Q (some (.int (bi ((evL (fun w => facM (nI w) l (aI H 68 (ix l)) (aI H 69 (ix l)) n (aI H 67 4)) T (m, p)).2 0)))) (sA H pile')
  | [], i, m, p, pile, hT, hd, hp, hm, hi => by
    obtain rfl : m = 1 := Option.some.inj hd
    refine ⟨pile, fun Q l6 l7 l8 => ?_⟩
    have hi : i = E := hi
    subst hi
    have e : nI i ≤ nI i := nI_le (Nat.le_refl _) (by omega)
    have h0 := hp 0 (by omega)
    rw [sX8_holds_11]
    simp only [sX8_holds_0, sX8_holds_1, sX8_holds_3, sX8_holds_4, sX8_holds_7, sX8_holds_8, sX8_holds_9, sX8_holds_13, sX8_holds_14, sX8_holds_17, sX8_holds_18, sX8_holds_19, sX8_holds_22, sX8_holds_253, sX8_holds_23, sX8_holds_254, sX8_holds_26, sX8_holds_257, sX8_holds_28, sX8_holds_258, sX8_holds_29, sX8_holds_259 (st := []), sX8_holds_31, sX8_holds_33, sX8_holds_35, sX8_holds_38, sX8_holds_67, sX8_holds_39, sX8_holds_69, sX8_holds_42, sX8_holds_72, sX8_holds_151, sX8_holds_44, sX8_holds_75, sX8_holds_152, sX8_holds_45, sX8_holds_76, sX8_holds_154, sX8_holds_46, sX8_holds_79, sX8_holds_157, sX8_holds_47, sX8_holds_81, sX8_holds_158, sX8_holds_50, sX8_holds_82, sX8_holds_159, sX8_holds_52, sX8_holds_83, sX8_holds_160 (st := []), sX8_holds_53, sX8_holds_85, sX8_holds_163, sX8_holds_54, sX8_holds_87, sX8_holds_165, sX8_holds_55, sX8_holds_90, sX8_holds_120, sX8_holds_167, sX8_holds_58, sX8_holds_62, sX8_holds_91, sX8_holds_121, sX8_holds_169, sX8_holds_59, sX8_holds_63, sX8_holds_94, sX8_holds_124, sX8_holds_170, sX8_holds_64, sX8_holds_96, sX8_holds_126, sX8_holds_172, sX8_holds_247, sX8_holds_97, sX8_holds_127, sX8_holds_173, sX8_holds_250, sX8_holds_98, sX8_holds_128, sX8_holds_175, sX8_holds_99, sX8_holds_129, sX8_holds_176, sX8_holds_102, sX8_holds_116, sX8_holds_132, sX8_holds_142, sX8_holds_179, sX8_holds_103, sX8_holds_117, sX8_holds_133, sX8_holds_143, sX8_holds_181, sX8_holds_106, sX8_holds_147, sX8_holds_136, sX8_holds_183, sX8_holds_108, sX8_holds_148, sX8_holds_138, sX8_holds_186, sX8_holds_204, sX8_holds_109, sX8_holds_139, sX8_holds_188, sX8_holds_206, sX8_holds_112, sX8_holds_146, sX8_holds_190, sX8_holds_207, sX8_holds_113, sX8_holds_192, sX8_holds_210, sX8_holds_228, sX8_holds_193, sX8_holds_212, sX8_holds_230, sX8_holds_196, sX8_holds_200, sX8_holds_214, sX8_holds_232, sX8_holds_197, sX8_holds_201, sX8_holds_216, sX8_holds_234, sX8_holds_243, sX8_holds_217, sX8_holds_235, sX8_holds_244, sX8_holds_220, sX8_holds_224, sX8_holds_238, sX8_holds_242, sX8_holds_221, sX8_holds_225, sX8_holds_239, inb, nz_3, nz_4, nz_6, nz_8, nz_10, nz_100, nz_300, pushr_s, pushr_n, rv_s, rv_n, kd_sI, kd_sR, kd_sJ, sz_sI, sz_sR, sz_sJ, aR_sI, aJ_sI, aI_sR, aI_sJ, not_false_eq_true, true_and, and_true, true_or, or_true, or_false, false_or, eq_self, ite_true, ite_false, if_true, if_false, kd_sA, sz_sA, aR_sA, mk_67 h, mr_19 h, mk_77 h, mz_77 h, mr_20 h, mk_78 h, mz_78 h, mr_21 h, mk_79 h, mz_79 h, mr_27 h, mk_82 h, mz_82 h, aI_sA H pile (show 78 ≠ 82 by decide), aI_sA2, hc, hE, e, h0, bi01, nI_clamp0, Nat.not_succ_le_zero, show ¬ ((0 : Int32) < 0) by decide +kernel, show ¬ 100 ≤ 0 by omega]
    rfl
  | t :: r, i, m, p, pile, hT, hd, hp, hm, hi => by
    obtain ⟨m', hm1, hd1⟩ := dpL_cons hd
    have hi : i + (r.length + 1) = E := hi
    have e : ¬ nI E ≤ nI i := nI_ge (by omega) (by omega)
    have hin : ¬ (nI i < 0 ∨ 600 ≤ i) := inN (by omega) (by omega)
    have hT0 : aI H 79 i = enM t := hT 0 (by show 0 < r.length + 1; omega)
    have hT1 : ∀ j, j < r.length → aI H 79 (i + 1 + j) = enM (r.getD j 0) := fun j hj => by
      have q := hT (j + 1) (by show j + 1 < r.length + 1; omega)
      rw [show i + (j + 1) = i + 1 + j by omega] at q
      exact q
    have ic : (nI i).toNatClampNeg = i := nI_clamp (by omega)
    unfold dpT at hm1
    by_cases t0 : t = 1800 ∨ t = 2100
    · rw [if_pos t0] at hm1
      by_cases m2 : 2 ≤ m
      · rw [if_pos m2] at hm1
        obtain ⟨k, rfl⟩ : ∃ k, m = k + 2 := ⟨m - 2, by omega⟩
        obtain rfl : k + 1 = m' := Option.some.inj hm1
        have ha := hp k (by omega)
        have hb := hp (k + 1) (by omega)
        have k1 : ¬ (nI k < 0 ∨ 100 ≤ k) := inN (by omega) (by omega)
        have k2 : ¬ (nI (k + 1) < 0 ∨ 100 ≤ k + 1) := inN (by omega) (by omega)
        have kc : (nI k).toNatClampNeg = k := nI_clamp (by omega)
        have kc2 : (nI (k + 1)).toNatClampNeg = k + 1 := nI_clamp (by omega)
        have pm : nI (k + 2) + (-1) = nI (k + 1) := pk_m1 (k + 1)
        have pm2 : nI (k + 1) - 1 = nI k := nI_pred k
        rcases t0 with rfl | rfl
        · obtain ⟨pile', ih⟩ := lp_holds (n := n) h hl hc hE hE6 r (i + 1) (k + 1) (upB p k (p k && p (k + 1))) (upd pile k (bi (p k && p (k + 1)))) hT1 hd1 (hp.up (fun j hj he => by omega) rfl) (by omega) (by omega)
          refine ⟨pile', fun Q l6 l7 l8 => ?_⟩
          rw [sX8_holds_11, evL_c, ev_and]
          have ih := fun l6 l7 l8 => ih Q l6 l7 l8
          have ee : enM 1800 = -38 := rfl
          cases hpk : p k <;> cases hpk1 : p (k + 1) <;> rw [hpk] at ha <;> rw [hpk1] at hb <;> simp only [hpk, hpk1, Bool.and_true, Bool.and_false, Bool.true_and, Bool.false_and, bi_t, bi_f] at ih ha hb ⊢ <;> simp only [sX8_holds_0, sX8_holds_1, sX8_holds_3, sX8_holds_4, sX8_holds_7, sX8_holds_8, sX8_holds_9, sX8_holds_13, sX8_holds_14, sX8_holds_17, sX8_holds_18, sX8_holds_19, sX8_holds_22, sX8_holds_253, sX8_holds_23, sX8_holds_254, sX8_holds_26, sX8_holds_257, sX8_holds_28, sX8_holds_258, sX8_holds_29, sX8_holds_259 (st := []), sX8_holds_31, sX8_holds_33, sX8_holds_35, sX8_holds_38, sX8_holds_67, sX8_holds_39, sX8_holds_69, sX8_holds_42, sX8_holds_72, sX8_holds_151, sX8_holds_44, sX8_holds_75, sX8_holds_152, sX8_holds_45, sX8_holds_76, sX8_holds_154, sX8_holds_46, sX8_holds_79, sX8_holds_157, sX8_holds_47, sX8_holds_81, sX8_holds_158, sX8_holds_50, sX8_holds_82, sX8_holds_159, sX8_holds_52, sX8_holds_83, sX8_holds_160 (st := []), sX8_holds_53, sX8_holds_85, sX8_holds_163, sX8_holds_54, sX8_holds_87, sX8_holds_165, sX8_holds_55, sX8_holds_90, sX8_holds_120, sX8_holds_167, sX8_holds_58, sX8_holds_62, sX8_holds_91, sX8_holds_121, sX8_holds_169, sX8_holds_59, sX8_holds_63, sX8_holds_94, sX8_holds_124, sX8_holds_170, sX8_holds_64, sX8_holds_96, sX8_holds_126, sX8_holds_172, sX8_holds_247, sX8_holds_97, sX8_holds_127, sX8_holds_173, sX8_holds_250, sX8_holds_98, sX8_holds_128, sX8_holds_175, sX8_holds_99, sX8_holds_129, sX8_holds_176, sX8_holds_102, sX8_holds_116, sX8_holds_132, sX8_holds_142, sX8_holds_179, sX8_holds_103, sX8_holds_117, sX8_holds_133, sX8_holds_143, sX8_holds_181, sX8_holds_106, sX8_holds_147, sX8_holds_136, sX8_holds_183, sX8_holds_108, sX8_holds_148, sX8_holds_138, sX8_holds_186, sX8_holds_204, sX8_holds_109, sX8_holds_139, sX8_holds_188, sX8_holds_206, sX8_holds_112, sX8_holds_146, sX8_holds_190, sX8_holds_207, sX8_holds_113, sX8_holds_192, sX8_holds_210, sX8_holds_228, sX8_holds_193, sX8_holds_212, sX8_holds_230, sX8_holds_196, sX8_holds_200, sX8_holds_214, sX8_holds_232, sX8_holds_197, sX8_holds_201, sX8_holds_216, sX8_holds_234, sX8_holds_243, sX8_holds_217, sX8_holds_235, sX8_holds_244, sX8_holds_220, sX8_holds_224, sX8_holds_238, sX8_holds_242, sX8_holds_221, sX8_holds_225, sX8_holds_239, inb, nz_3, nz_4, nz_6, nz_8, nz_10, nz_100, nz_300, pushr_s, pushr_n, rv_s, rv_n, kd_sI, kd_sR, kd_sJ, sz_sI, sz_sR, sz_sJ, aR_sI, aJ_sI, aI_sR, aI_sJ, not_false_eq_true, true_and, and_true, true_or, or_true, or_false, false_or, eq_self, ite_true, ite_false, if_true, if_false, kd_sA, sz_sA, aR_sA, mk_67 h, mr_19 h, mk_77 h, mz_77 h, mr_20 h, mk_78 h, mz_78 h, mr_21 h, mk_79 h, mz_79 h, mr_27 h, mk_82 h, mz_82 h, aI_sA H pile (show 78 ≠ 82 by decide), aI_sA H pile (show 79 ≠ 82 by decide), aI_sA2, sI_sA, hc, hE, e, hin, ic, hT0, ee, ha, hb, k1, k2, kc, kc2, pm, pm2, nz_1, ng_1, ng_2, ng_3, ng_4, ng_5, nI_1, ih] <;> rfl
        · obtain ⟨pile', ih⟩ := lp_holds (n := n) h hl hc hE hE6 r (i + 1) (k + 1) (upB p k (p k || p (k + 1))) (upd pile k (bi (p k || p (k + 1)))) hT1 hd1 (hp.up (fun j hj he => by omega) rfl) (by omega) (by omega)
          refine ⟨pile', fun Q l6 l7 l8 => ?_⟩
          rw [sX8_holds_11, evL_c, ev_or]
          have ih := fun l6 l7 l8 => ih Q l6 l7 l8
          have ee : enM 2100 = -124 := rfl
          cases hpk : p k <;> cases hpk1 : p (k + 1) <;> rw [hpk] at ha <;> rw [hpk1] at hb <;> simp only [hpk, hpk1, Bool.or_true, Bool.or_false, Bool.true_or, Bool.false_or, bi_t, bi_f] at ih ha hb ⊢ <;> simp only [sX8_holds_0, sX8_holds_1, sX8_holds_3, sX8_holds_4, sX8_holds_7, sX8_holds_8, sX8_holds_9, sX8_holds_13, sX8_holds_14, sX8_holds_17, sX8_holds_18, sX8_holds_19, sX8_holds_22, sX8_holds_253, sX8_holds_23, sX8_holds_254, sX8_holds_26, sX8_holds_257, sX8_holds_28, sX8_holds_258, sX8_holds_29, sX8_holds_259 (st := []), sX8_holds_31, sX8_holds_33, sX8_holds_35, sX8_holds_38, sX8_holds_67, sX8_holds_39, sX8_holds_69, sX8_holds_42, sX8_holds_72, sX8_holds_151, sX8_holds_44, sX8_holds_75, sX8_holds_152, sX8_holds_45, sX8_holds_76, sX8_holds_154, sX8_holds_46, sX8_holds_79, sX8_holds_157, sX8_holds_47, sX8_holds_81, sX8_holds_158, sX8_holds_50, sX8_holds_82, sX8_holds_159, sX8_holds_52, sX8_holds_83, sX8_holds_160 (st := []), sX8_holds_53, sX8_holds_85, sX8_holds_163, sX8_holds_54, sX8_holds_87, sX8_holds_165, sX8_holds_55, sX8_holds_90, sX8_holds_120, sX8_holds_167, sX8_holds_58, sX8_holds_62, sX8_holds_91, sX8_holds_121, sX8_holds_169, sX8_holds_59, sX8_holds_63, sX8_holds_94, sX8_holds_124, sX8_holds_170, sX8_holds_64, sX8_holds_96, sX8_holds_126, sX8_holds_172, sX8_holds_247, sX8_holds_97, sX8_holds_127, sX8_holds_173, sX8_holds_250, sX8_holds_98, sX8_holds_128, sX8_holds_175, sX8_holds_99, sX8_holds_129, sX8_holds_176, sX8_holds_102, sX8_holds_116, sX8_holds_132, sX8_holds_142, sX8_holds_179, sX8_holds_103, sX8_holds_117, sX8_holds_133, sX8_holds_143, sX8_holds_181, sX8_holds_106, sX8_holds_147, sX8_holds_136, sX8_holds_183, sX8_holds_108, sX8_holds_148, sX8_holds_138, sX8_holds_186, sX8_holds_204, sX8_holds_109, sX8_holds_139, sX8_holds_188, sX8_holds_206, sX8_holds_112, sX8_holds_146, sX8_holds_190, sX8_holds_207, sX8_holds_113, sX8_holds_192, sX8_holds_210, sX8_holds_228, sX8_holds_193, sX8_holds_212, sX8_holds_230, sX8_holds_196, sX8_holds_200, sX8_holds_214, sX8_holds_232, sX8_holds_197, sX8_holds_201, sX8_holds_216, sX8_holds_234, sX8_holds_243, sX8_holds_217, sX8_holds_235, sX8_holds_244, sX8_holds_220, sX8_holds_224, sX8_holds_238, sX8_holds_242, sX8_holds_221, sX8_holds_225, sX8_holds_239, inb, nz_3, nz_4, nz_6, nz_8, nz_10, nz_100, nz_300, pushr_s, pushr_n, rv_s, rv_n, kd_sI, kd_sR, kd_sJ, sz_sI, sz_sR, sz_sJ, aR_sI, aJ_sI, aI_sR, aI_sJ, not_false_eq_true, true_and, and_true, true_or, or_true, or_false, false_or, eq_self, ite_true, ite_false, if_true, if_false, kd_sA, sz_sA, aR_sA, mk_67 h, mr_19 h, mk_77 h, mz_77 h, mr_20 h, mk_78 h, mz_78 h, mr_21 h, mk_79 h, mz_79 h, mr_27 h, mk_82 h, mz_82 h, aI_sA H pile (show 78 ≠ 82 by decide), aI_sA H pile (show 79 ≠ 82 by decide), aI_sA2, sI_sA, hc, hE, e, hin, ic, hT0, ee, ha, hb, k1, k2, kc, kc2, pm, pm2, nz_1, ng_1, ng_2, ng_3, ng_4, ng_5, nI_1, ih] <;> rfl
      · rw [if_neg m2] at hm1; cases hm1
    rw [if_neg t0] at hm1
    by_cases t1 : t = 2400
    · rw [if_pos t1] at hm1
      by_cases m1 : 1 ≤ m
      · rw [if_pos m1] at hm1
        obtain ⟨k, rfl⟩ : ∃ k, m = k + 1 := ⟨m - 1, by omega⟩
        obtain rfl : k + 1 = m' := Option.some.inj hm1
        have ha := hp k (by omega)
        have k1 : ¬ (nI k < 0 ∨ 100 ≤ k) := inN (by omega) (by omega)
        have kc : (nI k).toNatClampNeg = k := nI_clamp (by omega)
        have pm2 : nI (k + 1) - 1 = nI k := nI_pred k
        subst t1
        obtain ⟨pile', ih⟩ := lp_holds (n := n) h hl hc hE hE6 r (i + 1) (k + 1) (upB p k (!p k)) (upd pile k (bi (!p k))) hT1 hd1 (hp.up (fun j hj he => by omega) rfl) (by omega) (by omega)
        refine ⟨pile', fun Q l6 l7 l8 => ?_⟩
        rw [sX8_holds_11, evL_c, ev_not]
        have ih := fun l6 l7 l8 => ih Q l6 l7 l8
        have ee : enM 2400 = -33 := rfl
        cases hpk : p k <;> rw [hpk] at ha <;> simp only [hpk, Bool.not_true, Bool.not_false, bi_t, bi_f] at ih ha ⊢ <;> simp only [sX8_holds_0, sX8_holds_1, sX8_holds_3, sX8_holds_4, sX8_holds_7, sX8_holds_8, sX8_holds_9, sX8_holds_13, sX8_holds_14, sX8_holds_17, sX8_holds_18, sX8_holds_19, sX8_holds_22, sX8_holds_253, sX8_holds_23, sX8_holds_254, sX8_holds_26, sX8_holds_257, sX8_holds_28, sX8_holds_258, sX8_holds_29, sX8_holds_259 (st := []), sX8_holds_31, sX8_holds_33, sX8_holds_35, sX8_holds_38, sX8_holds_67, sX8_holds_39, sX8_holds_69, sX8_holds_42, sX8_holds_72, sX8_holds_151, sX8_holds_44, sX8_holds_75, sX8_holds_152, sX8_holds_45, sX8_holds_76, sX8_holds_154, sX8_holds_46, sX8_holds_79, sX8_holds_157, sX8_holds_47, sX8_holds_81, sX8_holds_158, sX8_holds_50, sX8_holds_82, sX8_holds_159, sX8_holds_52, sX8_holds_83, sX8_holds_160 (st := []), sX8_holds_53, sX8_holds_85, sX8_holds_163, sX8_holds_54, sX8_holds_87, sX8_holds_165, sX8_holds_55, sX8_holds_90, sX8_holds_120, sX8_holds_167, sX8_holds_58, sX8_holds_62, sX8_holds_91, sX8_holds_121, sX8_holds_169, sX8_holds_59, sX8_holds_63, sX8_holds_94, sX8_holds_124, sX8_holds_170, sX8_holds_64, sX8_holds_96, sX8_holds_126, sX8_holds_172, sX8_holds_247, sX8_holds_97, sX8_holds_127, sX8_holds_173, sX8_holds_250, sX8_holds_98, sX8_holds_128, sX8_holds_175, sX8_holds_99, sX8_holds_129, sX8_holds_176, sX8_holds_102, sX8_holds_116, sX8_holds_132, sX8_holds_142, sX8_holds_179, sX8_holds_103, sX8_holds_117, sX8_holds_133, sX8_holds_143, sX8_holds_181, sX8_holds_106, sX8_holds_147, sX8_holds_136, sX8_holds_183, sX8_holds_108, sX8_holds_148, sX8_holds_138, sX8_holds_186, sX8_holds_204, sX8_holds_109, sX8_holds_139, sX8_holds_188, sX8_holds_206, sX8_holds_112, sX8_holds_146, sX8_holds_190, sX8_holds_207, sX8_holds_113, sX8_holds_192, sX8_holds_210, sX8_holds_228, sX8_holds_193, sX8_holds_212, sX8_holds_230, sX8_holds_196, sX8_holds_200, sX8_holds_214, sX8_holds_232, sX8_holds_197, sX8_holds_201, sX8_holds_216, sX8_holds_234, sX8_holds_243, sX8_holds_217, sX8_holds_235, sX8_holds_244, sX8_holds_220, sX8_holds_224, sX8_holds_238, sX8_holds_242, sX8_holds_221, sX8_holds_225, sX8_holds_239, inb, nz_3, nz_4, nz_6, nz_8, nz_10, nz_100, nz_300, pushr_s, pushr_n, rv_s, rv_n, kd_sI, kd_sR, kd_sJ, sz_sI, sz_sR, sz_sJ, aR_sI, aJ_sI, aI_sR, aI_sJ, not_false_eq_true, true_and, and_true, true_or, or_true, or_false, false_or, eq_self, ite_true, ite_false, if_true, if_false, kd_sA, sz_sA, aR_sA, mk_67 h, mr_19 h, mk_77 h, mz_77 h, mr_20 h, mk_78 h, mz_78 h, mr_21 h, mk_79 h, mz_79 h, mr_27 h, mk_82 h, mz_82 h, aI_sA H pile (show 78 ≠ 82 by decide), aI_sA H pile (show 79 ≠ 82 by decide), aI_sA2, sI_sA, hc, hE, e, hin, ic, hT0, ee, ha, k1, kc, pm2, nI_1, nz_1, ng_1, ng_2, ng_3, ng_4, ng_5, ih] <;> rfl
      · rw [if_neg m1] at hm1; cases hm1
    rw [if_neg t1] at hm1
    by_cases t2 : t < 1800 ∧ m < 30
    · rw [if_pos t2] at hm1
      obtain rfl : m + 1 = m' := Option.some.inj hm1
      have k1 : ¬ (nI m < 0 ∨ 100 ≤ m) := inN (by omega) (by omega)
      have kc : (nI m).toNatClampNeg = m := nI_clamp (by omega)
      have hev : evT (fun w => facM (nI w) l (aI H 68 (ix l)) (aI H 69 (ix l)) n (aI H 67 4)) t (m, p) = (m + 1, upB p m (tstT (fun w => facM (nI w) l (aI H 68 (ix l)) (aI H 69 (ix l)) n (aI H 67 4)) t)) := by
        unfold evT
        rw [if_neg (by omega), if_neg (by omega), if_neg (by omega)]
      generalize hb0 : tstT (fun w => facM (nI w) l (aI H 68 (ix l)) (aI H 69 (ix l)) n (aI H 67 4)) t = b0 at hev
      obtain ⟨pile', ih⟩ := lp_holds (n := n) h hl hc hE hE6 r (i + 1) (m + 1) (upB p m b0) (upd pile m (bi b0)) hT1 hd1 (hp.up (fun j hj he => by omega) rfl) (by omega) (by omega)
      refine ⟨pile', fun Q l6 l7 l8 => ?_⟩
      have ih := fun l6 l7 l8 => ih Q l6 l7 l8
      have hfac := fun Q what => m_factOf (S := S) (d := d) (H := sA H pile) (Q := Q) (what := what) (n := n) (MoL_sA h) hl
      simp only [aI_sA H pile (show 67 ≠ 82 by decide), aI_sA H pile (show 68 ≠ 82 by decide), aI_sA H pile (show 69 ≠ 82 by decide)] at hfac
      have ee : enM t = nI (1000 * (t / 300) + 100 * (t / 100 % 3) + t % 100) := by
        unfold enM
        rw [if_neg (by omega), if_neg (by omega), if_neg (by omega)]
      have e1 : (nI (1000 * (t / 300) + 100 * (t / 100 % 3) + t % 100) = -33) = False := eq_false (nI_nneg (by omega) (by decide +kernel))
      have e2 : (0 ≤ nI (1000 * (t / 300) + 100 * (t / 100 % 3) + t % 100)) = True := eq_true (nI_pos' (by omega))
      have g1 := tk_div t2.1
      have g2 := tk_rel t2.1
      have g3 := tk_num t2.1
      rw [evL, hev, sX8_holds_11]
      simp only [sX8_holds_0, sX8_holds_1, sX8_holds_3, sX8_holds_4, sX8_holds_7, sX8_holds_8, sX8_holds_9, sX8_holds_13, sX8_holds_14, sX8_holds_17, sX8_holds_18, sX8_holds_19, sX8_holds_22, sX8_holds_253, sX8_holds_23, sX8_holds_254, sX8_holds_26, sX8_holds_257, sX8_holds_28, sX8_holds_258, sX8_holds_29, sX8_holds_259 (st := []), sX8_holds_31, sX8_holds_33, sX8_holds_35, sX8_holds_38, sX8_holds_67, sX8_holds_39, sX8_holds_69, sX8_holds_42, sX8_holds_72, sX8_holds_151, sX8_holds_44, sX8_holds_75, sX8_holds_152, sX8_holds_45, sX8_holds_76, sX8_holds_154, sX8_holds_46, sX8_holds_79, sX8_holds_157, sX8_holds_47, sX8_holds_81, sX8_holds_158, sX8_holds_50, sX8_holds_82, sX8_holds_159, sX8_holds_52, sX8_holds_83, sX8_holds_160 (st := []), sX8_holds_53, sX8_holds_85, sX8_holds_163, sX8_holds_54, sX8_holds_87, sX8_holds_165, sX8_holds_55, sX8_holds_90, sX8_holds_120, sX8_holds_167, sX8_holds_58, sX8_holds_62, sX8_holds_91, sX8_holds_121, sX8_holds_169, sX8_holds_59, sX8_holds_63, sX8_holds_94, sX8_holds_124, sX8_holds_170, sX8_holds_64, sX8_holds_96, sX8_holds_126, sX8_holds_172, sX8_holds_247, sX8_holds_97, sX8_holds_127, sX8_holds_173, sX8_holds_250, sX8_holds_98, sX8_holds_128, sX8_holds_175, sX8_holds_99, sX8_holds_129, sX8_holds_176, sX8_holds_102, sX8_holds_116, sX8_holds_132, sX8_holds_142, sX8_holds_179, sX8_holds_103, sX8_holds_117, sX8_holds_133, sX8_holds_143, sX8_holds_181, sX8_holds_106, sX8_holds_147, sX8_holds_136, sX8_holds_183, sX8_holds_108, sX8_holds_148, sX8_holds_138, sX8_holds_186, sX8_holds_204, sX8_holds_109, sX8_holds_139, sX8_holds_188, sX8_holds_206, sX8_holds_112, sX8_holds_146, sX8_holds_190, sX8_holds_207, sX8_holds_113, sX8_holds_192, sX8_holds_210, sX8_holds_228, sX8_holds_193, sX8_holds_212, sX8_holds_230, sX8_holds_196, sX8_holds_200, sX8_holds_214, sX8_holds_232, sX8_holds_197, sX8_holds_201, sX8_holds_216, sX8_holds_234, sX8_holds_243, sX8_holds_217, sX8_holds_235, sX8_holds_244, sX8_holds_220, sX8_holds_224, sX8_holds_238, sX8_holds_242, sX8_holds_221, sX8_holds_225, sX8_holds_239, inb, nz_3, nz_4, nz_6, nz_8, nz_10, nz_100, nz_300, pushr_s, pushr_n, rv_s, rv_n, kd_sI, kd_sR, kd_sJ, sz_sI, sz_sR, sz_sJ, aR_sI, aJ_sI, aI_sR, aI_sJ, not_false_eq_true, true_and, and_true, true_or, or_true, or_false, false_or, eq_self, ite_true, ite_false, if_true, if_false, kd_sA, sz_sA, aR_sA, mk_67 h, mr_19 h, mk_77 h, mz_77 h, mr_20 h, mk_78 h, mz_78 h, mr_21 h, mk_79 h, mz_79 h, mr_27 h, mk_82 h, mz_82 h, aI_sA H pile (show 78 ≠ 82 by decide), aI_sA H pile (show 79 ≠ 82 by decide), aI_sA2, sI_sA, hc, hE, e, hin, ic, hT0, ee, e1, e2, k1, kc, nI_1, hfac, g1, g2, g3, nz_1000]
      have hb0 : (if t / 100 % 3 = 0 then decide (facM (nI (t / 300)) l (aI H 68 (ix l)) (aI H 69 (ix l)) n (aI H 67 4) < nI (t % 100)) else if t / 100 % 3 = 1 then decide (facM (nI (t / 300)) l (aI H 68 (ix l)) (aI H 69 (ix l)) n (aI H 67 4) = nI (t % 100)) else decide (nI (t % 100) < facM (nI (t / 300)) l (aI H 68 (ix l)) (aI H 69 (ix l)) n (aI H 67 4))) = b0 := hb0
      generalize facM (nI (t / 300)) l (aI H 68 (ix l)) (aI H 69 (ix l)) n (aI H 67 4) = x at hb0 ⊢
      generalize nI (t % 100) = y at hb0 ⊢
      have r3 : t / 100 % 3 = 0 ∨ t / 100 % 3 = 1 ∨ t / 100 % 3 = 2 := by omega
      rcases r3 with r0 | r0 | r0 <;> rw [r0] at hb0
      · rw [if_pos (by rw [r0]; rfl)]
        rw [if_pos rfl] at hb0
        by_cases q : x < y
        · rw [decide_eq_true q] at hb0; subst hb0
          rw [if_neg (Int32.not_le.mpr q)]; exact ih _ _ _
        · rw [decide_eq_false q] at hb0; subst hb0
          rw [if_pos (Int32.not_lt.mp q)]; exact ih _ _ _
      · rw [if_neg (by rw [r0]; decide +kernel), if_pos (by rw [r0]; rfl)]
        rw [if_neg (by decide), if_pos rfl] at hb0
        by_cases q : x = y
        · rw [decide_eq_true q] at hb0; subst hb0
          rw [if_pos q]; exact ih _ _ _
        · rw [decide_eq_false q] at hb0; subst hb0
          rw [if_neg q]; exact ih _ _ _
      · rw [if_neg (by rw [r0]; decide +kernel), if_neg (by rw [r0]; decide +kernel)]
        rw [if_neg (by decide), if_neg (by decide)] at hb0
        by_cases q : y < x
        · rw [decide_eq_true q] at hb0; subst hb0
          rw [if_neg (Int32.not_le.mpr q)]; exact ih _ _ _
        · rw [decide_eq_false q] at hb0; subst hb0
          rw [if_pos (Int32.not_lt.mp q)]; exact ih _ _ _
    · rw [if_neg t2] at hm1; cases hm1
end MODEL
