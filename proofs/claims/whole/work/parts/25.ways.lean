-- 25: a way by its steps is the way by its clauses
theorem fac_fac {w : Int32} {nb kk v y : Int32} {n : Nat} (h : n < 256) : facS w nb kk v (nI n) y = facM w nb kk v (nI n) y := by
  unfold facS facM
  rw [bt_bc h]
def hwT (nb kk v n y : Int32) : List Nat → Int32 × Int32 → Int32 × Int32
  | [], p => p
  | t :: r, p => hwT nb kk v n y r (stS nb kk v n y (nI t) p)
theorem hwT_app (nb kk v n y : Int32) : ∀ (T U : List Nat) (p : Int32 × Int32), hwT nb kk v n y (T ++ U) p = hwT nb kk v n y U (hwT nb kk v n y T p)
  | [], _, _ => rfl
  | t :: r, U, p => hwT_app nb kk v n y r U _
theorem hwS_T (nb kk v n y : Int32) (f : Nat → Int32) : ∀ (T : List Nat) (i : Nat) (p : Int32 × Int32), (∀ j, j < T.length → f (i + j) = nI (T.getD j 0)) → hwS nb kk v n y f T.length i p = hwT nb kk v n y T p
  | [], _, _, _ => rfl
  | t :: r, i, p, h => by
    show hwS nb kk v n y f r.length (i + 1) (stS nb kk v n y (f i) p) = hwT nb kk v n y r (stS nb kk v n y (nI t) p)
    rw [show f i = nI t from h 0 (by show 0 < r.length + 1; omega)]
    exact hwS_T nb kk v n y f r (i + 1) _ fun j hj => by
      have q := h (j + 1) (by show j + 1 < r.length + 1; omega)
      rw [show i + (j + 1) = i + 1 + j by omega] at q
      exact q
theorem t300 {t : Nat} (h : t < 2 ^ 31) : nI t / 300 = nI (t / 300) := pk_div (d := 300) h (by decide) (by decide)
theorem t100 {t : Nat} (h : t < 2 ^ 31) : sm (nI t) = nI (t % 100) := pk_rem (d := 100) h (by decide) (by decide)
theorem t3 {t : Nat} (h : t < 2 ^ 31) : nI t / 100 - nI t / 100 / 3 * 3 = nI (t / 100 % 3) := by
  rw [show nI t / 100 = nI (t / 100) from pk_div (d := 100) h (by decide) (by decide)]
  exact pk_rem (d := 3) (by omega) (by decide) (by decide)
theorem hol_tst {nb kk v y : Int32} {n t : Nat} (h : n < 256) : holS (nI (t / 100 % 3)) (facS (nI (t / 300)) nb kk v (nI n) y) (nI (t % 100)) = bi (tstT (fun w => facM (nI w) nb kk v (nI n) y) t) := by
  rw [fac_fac h]
  unfold tstT holS
  have r3 : t / 100 % 3 = 0 ∨ t / 100 % 3 = 1 ∨ t / 100 % 3 = 2 := by omega
  rcases r3 with r0 | r0 | r0 <;> rw [r0]
  · rw [if_pos (show nI 0 = 0 from nI_0), if_pos (show (0 : Nat) = 0 from rfl)]
    by_cases q : facM (nI (t / 300)) nb kk v (nI n) y < nI (t % 100)
    · rw [if_pos q, decide_eq_true q]; rfl
    · rw [if_neg q, decide_eq_false q]; rfl
  · rw [if_neg (show ¬ nI 1 = 0 by decide +kernel), if_pos (show nI 1 = 1 from rfl), if_neg (show ¬ (1 : Nat) = 0 by decide), if_pos (show (1 : Nat) = 1 from rfl)]
    by_cases q : facM (nI (t / 300)) nb kk v (nI n) y = nI (t % 100)
    · rw [if_pos q, decide_eq_true q]; rfl
    · rw [if_neg q, decide_eq_false q]; rfl
  · rw [if_neg (show ¬ nI 2 = 0 by decide +kernel), if_neg (show ¬ nI 2 = 1 by decide +kernel), if_neg (show ¬ (2 : Nat) = 0 by decide), if_neg (show ¬ (2 : Nat) = 1 by decide)]
    by_cases q : nI (t % 100) < facM (nI (t / 300)) nb kk v (nI n) y
    · rw [if_pos q, decide_eq_true q]; rfl
    · rw [if_neg q, decide_eq_false q]; rfl
theorem enc1 (p : Nat → Bool) (k : Nat) : enc p (k + 1) = 2 * enc p k + (if p k then 1 else 0) := rfl
theorem b01 (b : Bool) : (if b = true then 1 else 0) < 2 := by cases b <;> decide
theorem or_m2 (b : Bool) : nI (if b then 1 else 0) ||| (-2) = if b then -1 else -2 := by cases b <;> decide +kernel
theorem tok_step {nb kk v y s : Int32} {n t m m' : Nat} {p : Nat → Bool} (h : n < 256) (hd : dpT t m = some m') (hm : m ≤ 30) :
    stS nb kk v (nI n) y (nI t) (s, nI (enc p m)) = (s, nI (enc (evT (fun w => facM (nI w) nb kk v (nI n) y) t (m, p)).2 m')) ∧ (evT (fun w => facM (nI w) nb kk v (nI n) y) t (m, p)).1 = m' ∧ m' ≤ 30 := by
  unfold dpT at hd
  by_cases t0 : t = 1800 ∨ t = 2100
  · rw [if_pos t0] at hd
    by_cases m2 : 2 ≤ m
    · rw [if_pos m2] at hd
      obtain ⟨k, rfl⟩ : ∃ k, m = k + 2 := ⟨m - 2, by omega⟩
      obtain rfl : k + 1 = m' := Option.some.inj hd
      have l1 := enc_lt p k
      have l2 : (2 : Nat) ^ k ≤ 2 ^ 28 := Nat.pow_le_pow_right (by decide) (by omega)
      have l3 := b01 (p k)
      have l4 := b01 (p (k + 1))
      have l5 : enc p (k + 1) < 2 ^ 30 := by rw [enc1]; omega
      have e1 : nI (enc p (k + 2)) >>> (1 &&& 31) = nI (enc p (k + 1)) := by rw [enc1]; exact shr_1 l5 l4
      have e2 : nI (enc p (k + 2)) &&& 1 = nI (if p (k + 1) then 1 else 0) := by rw [enc1]; exact and_1 l5 l4
      rcases t0 with rfl | rfl
      · refine ⟨?_, rfl, by omega⟩
        rw [ev_and]
        unfold stS
        rw [if_pos (by decide +kernel)]
        show (s, nI (enc p (k + 2)) >>> (1 &&& 31) &&& (nI (enc p (k + 2)) &&& 1 ||| (-2))) = (s, nI (enc (upB p k (p k && p (k + 1))) (k + 1)))
        rw [e1, e2, or_m2, enc1 (upB p k _), enc_up p k _ k (Nat.le_refl _), upB_s]
        cases p (k + 1)
        · rw [if_neg (by decide), enc1, and_m2 (by omega) l3, Bool.and_false]; rfl
        · rw [if_pos rfl, and_m1, enc1, Bool.and_true]
      · refine ⟨?_, rfl, by omega⟩
        rw [ev_or]
        unfold stS
        rw [if_neg (by decide +kernel), if_pos (by decide +kernel)]
        show (s, nI (enc p (k + 2)) >>> (1 &&& 31) ||| (nI (enc p (k + 2)) &&& 1)) = (s, nI (enc (upB p k (p k || p (k + 1))) (k + 1)))
        rw [e1, e2, enc1 (upB p k _), enc_up p k _ k (Nat.le_refl _), upB_s, enc1]
        cases p (k + 1)
        · rw [Bool.or_false, if_neg (show ¬ false = true by decide), show nI 0 = 0 from rfl, Int32.or_zero]
        · rw [Bool.or_true, if_pos rfl, ← or_1 _ l3, ← or_1 _ (show 1 < 2 by decide)]
          cases p k
          · rw [if_neg (by decide), show nI 0 = 0 from rfl, Int32.or_zero]
          · rw [if_pos rfl, Int32.or_assoc, Int32.or_self]
    · rw [if_neg m2] at hd; cases hd
  rw [if_neg t0] at hd
  by_cases t1 : t = 2400
  · rw [if_pos t1] at hd
    by_cases m1 : 1 ≤ m
    · rw [if_pos m1] at hd
      obtain ⟨k, rfl⟩ : ∃ k, m = k + 1 := ⟨m - 1, by omega⟩
      obtain rfl : k + 1 = m' := Option.some.inj hd
      subst t1
      refine ⟨?_, rfl, by omega⟩
      rw [ev_not]
      unfold stS
      rw [if_neg (by decide +kernel), if_neg (by decide +kernel), if_pos (by decide +kernel)]
      show (s, nI (enc p (k + 1)) ^^^ 1) = (s, nI (enc (upB p k (!p k)) (k + 1)))
      rw [enc1, enc1 (upB p k _), enc_up p k _ k (Nat.le_refl _), upB_s, xor_1 (b01 _)]
      cases p k <;> rfl
    · rw [if_neg m1] at hd; cases hd
  rw [if_neg t1] at hd
  by_cases t2 : t < 1800 ∧ m < 30
  · rw [if_pos t2] at hd
    obtain rfl : m + 1 = m' := Option.some.inj hd
    have hev : evT (fun w => facM (nI w) nb kk v (nI n) y) t (m, p) = (m + 1, upB p m (tstT (fun w => facM (nI w) nb kk v (nI n) y) t)) := by
      unfold evT
      rw [if_neg (by omega), if_neg (by omega), if_neg (by omega)]
    rw [hev]
    refine ⟨?_, rfl, by omega⟩
    have l1 := enc_lt p m
    have l2 : (2 : Nat) ^ m ≤ 2 ^ 29 := Nat.pow_le_pow_right (by decide) (by omega)
    have g : ∀ j : Nat, 6 ≤ j → j < 2 ^ 31 → ¬ nI (t / 300) = nI j := fun j hj hj2 => by rw [nI_eq (by omega) hj2]; omega
    unfold stS
    rw [t300 (by omega), if_neg (show ¬ nI (t / 300) = 6 from g 6 (by omega) (by decide)), if_neg (show ¬ nI (t / 300) = 7 from g 7 (by omega) (by decide)), if_neg (show ¬ nI (t / 300) = 8 from g 8 (by omega) (by decide)), if_neg (show ¬ nI (t / 300) = 9 from g 9 (by omega) (by decide)), if_neg (show ¬ nI (t / 300) = 10 from g 10 (by omega) (by decide)), t3 (by omega), t100 (by omega), hol_tst h]
    show (s, nI (enc p m) <<< (1 &&& 31) ||| bi (tstT (fun w => facM (nI w) nb kk v (nI n) y) t)) = (s, nI (enc (upB p m (tstT (fun w => facM (nI w) nb kk v (nI n) y) t)) (m + 1)))
    rw [shl_1 (by omega), bi_nI, or_1 _ (b01 _), enc1, enc_up p m _ m (Nat.le_refl _), upB_s]
  · rw [if_neg t2] at hd; cases hd
theorem toks_step {nb kk v y s : Int32} {n e : Nat} (h : n < 256) : ∀ (T : List Nat) (m : Nat) (p : Nat → Bool), dpL T m = some e → m ≤ 30 → hwT nb kk v (nI n) y T (s, nI (enc p m)) = (s, nI (enc (evL (fun w => facM (nI w) nb kk v (nI n) y) T (m, p)).2 e))
  | [], m, p, hd, hm => by
    obtain rfl : m = e := Option.some.inj hd
    rfl
  | t :: r, m, p, hd, hm => by
    obtain ⟨m', h1, h2⟩ := dpL_cons hd
    obtain ⟨q1, q2, q3⟩ := tok_step (nb := nb) (kk := kk) (v := v) (y := y) (s := s) (p := p) h h1 hm
    show hwT nb kk v (nI n) y r (stS nb kk v (nI n) y (nI t) (s, nI (enc p m))) = _
    rw [q1, evL_c, toks_step h r m' _ h2 q3]
    have : evT (fun w => facM (nI w) nb kk v (nI n) y) t (m, p) = (m', (evT (fun w => facM (nI w) nb kk v (nI n) y) t (m, p)).2) := by
      rw [← q2]
    rw [← this]
/-- a clause as steps -/
def codC (q : Cla) : List Nat := if q.1 = 2 then [] else q.2.2 ++ [if q.1 = 0 then 2700 + q.2.1 else 3000 + q.2.1]
def codL : List Cla → List Nat
  | [] => []
  | q :: r => codC q ++ codL r
theorem cla_step {nb kk v y s : Int32} {n : Nat} {q : Cla} (h : n < 256) (hq : ClW q) : hwT nb kk v (nI n) y (codC q) (s, 0) = ((if q.1 = 2 then s else if ev1 (fun w => facM (nI w) nb kk v (nI n) y) q.2.2 = true then (if q.1 = 0 then s + nI q.2.1 else s + -(nI q.2.1)) else s), 0) := by
  obtain ⟨h2, h99, hd⟩ := hq
  unfold codC
  by_cases q2 : q.1 = 2
  · rw [if_pos q2, if_pos q2]; rfl
  · rw [if_neg q2, if_neg q2, hwT_app]
    have ts := toks_step (nb := nb) (kk := kk) (v := v) (y := y) (s := s) h q.2.2 0 (fun _ => false) (hd (by omega)) (by omega)
    rw [show nI (enc (fun _ => false) 0) = 0 from rfl] at ts
    rw [ts]
    have e1 : enc (evL (fun w => facM (nI w) nb kk v (nI n) y) q.2.2 (0, fun _ => false)).2 1 = 2 * 0 + (if ev1 (fun w => facM (nI w) nb kk v (nI n) y) q.2.2 = true then 1 else 0) := rfl
    rw [e1]
    have l4 := b01 (ev1 (fun w => facM (nI w) nb kk v (nI n) y) q.2.2)
    generalize ev1 (fun w => facM (nI w) nb kk v (nI n) y) q.2.2 = b at l4 ⊢
    have f1 : nI (2 * 0 + (if b = true then 1 else 0)) >>> (1 &&& 31) = nI 0 := shr_1 (by decide) l4
    have f2 : nI (2 * 0 + (if b = true then 1 else 0)) &&& 1 = nI (if b = true then 1 else 0) := and_1 (by decide) l4
    show stS nb kk v (nI n) y (nI (if q.1 = 0 then 2700 + q.2.1 else 3000 + q.2.1)) (s, nI (2 * 0 + (if b = true then 1 else 0))) = _
    by_cases q0 : q.1 = 0
    · rw [if_pos q0, if_pos q0]
      have t1 : nI (2700 + q.2.1) / 300 = 9 := by rw [t300 (by omega), show (2700 + q.2.1) / 300 = 9 by omega]; rfl
      have t2 : sm (nI (2700 + q.2.1)) = nI q.2.1 := by rw [t100 (by omega), show (2700 + q.2.1) % 100 = q.2.1 by omega]
      unfold stS
      rw [t1, t2, if_neg (by decide +kernel), if_neg (by decide +kernel), if_neg (by decide +kernel), if_pos rfl]
      show (s + (nI (2 * 0 + (if b = true then 1 else 0)) &&& 1) * nI q.2.1, nI (2 * 0 + (if b = true then 1 else 0)) >>> (1 &&& 31)) = _
      rw [f1, f2]
      cases b
      · rw [if_neg (by decide), if_neg (by decide), show nI 0 = 0 from rfl, Int32.zero_mul, Int32.add_zero]
      · rw [if_pos rfl, if_pos rfl, pk_mul, Nat.one_mul]; rfl
    · rw [if_neg q0, if_neg q0]
      have t1 : nI (3000 + q.2.1) / 300 = 10 := by rw [t300 (by omega), show (3000 + q.2.1) / 300 = 10 by omega]; rfl
      have t2 : sm (nI (3000 + q.2.1)) = nI q.2.1 := by rw [t100 (by omega), show (3000 + q.2.1) % 100 = q.2.1 by omega]
      unfold stS
      rw [t1, t2, if_neg (by decide +kernel), if_neg (by decide +kernel), if_neg (by decide +kernel), if_neg (by decide +kernel), if_pos rfl]
      show (s - (nI (2 * 0 + (if b = true then 1 else 0)) &&& 1) * nI q.2.1, nI (2 * 0 + (if b = true then 1 else 0)) >>> (1 &&& 31)) = _
      rw [f1, f2]
      cases b
      · rw [if_neg (by decide), if_neg (by decide), show nI 0 = 0 from rfl, Int32.zero_mul, Int32.sub_zero]
      · rw [if_pos rfl, if_pos rfl, pk_mul, Nat.one_mul, Int32.sub_eq_add_neg]; rfl
theorem way_step {nb kk v y : Int32} {n : Nat} (h : n < 256) : ∀ (L : List Cla) (s : Int32), (∀ q ∈ L, ClW q) → hwT nb kk v (nI n) y (codL L) (s, 0) = (suC (fun w => facM (nI w) nb kk v (nI n) y) L s, 0)
  | [], s, _ => rfl
  | q :: r, s, hL => by
    rw [codL, hwT_app, cla_step h (hL q List.mem_cons_self), suC]
    exact way_step h r _ fun z hz => hL z (List.mem_cons_of_mem _ hz)
/-- the component's way -/
def WayC (H : AH) (w : Option Nat) (L : List Cla) : Prop := (∀ q ∈ L, ClW q) ∧ ((w = none ∧ L = []) ∨ ∃ o t, w = some o ∧ kd H o = 5 ∧ aR H o 1 = some t ∧ kd H t = 20 ∧ sz H t = (codL L).length ∧ (codL L).length ≤ 100 ∧ (∀ j, j < (codL L).length → aI H t j = nI ((codL L).getD j 0)) ∧ aI H o 0 = maC L 9 ∧ 110 ≤ o ∧ 110 ≤ t)
theorem WayC.wy {H : AH} {w : Option Nat} {L : List Cla} (h : WayC H w L) : WyL H w := by
  intro o ho
  rcases h.2 with ⟨e, _⟩ | ⟨o2, t, e, q1, q2, q3, q4, q5, _⟩
  · rw [e] at ho; cases ho
  · rw [e] at ho
    obtain rfl : o2 = o := Option.some.inj ho
    exact ⟨q1, t, q2, q3, by omega⟩
theorem WayC.hd {H : AH} {w : Option Nat} {L : List Cla} (h : WayC H w L) {nb kk v y : Int32} {n : Nat} (hn : n < 256) : hdO H w nb kk v (nI n) y = hdC (fun w => facM (nI w) nb kk v (nI n) y) L := by
  rcases h.2 with ⟨e, e2⟩ | ⟨o2, t, e, q1, q2, q3, q4, q5, q6, _⟩
  · rw [e, e2]; rfl
  · rw [e]
    unfold hdO
    show (match aR H o2 1 with | some t => hdW H t nb kk v (nI n) y | none => 1) = _
    rw [q2]
    show hdW H t nb kk v (nI n) y = _
    unfold hdW hdC
    rw [q4, hwS_T nb kk v (nI n) y (aI H t) (codL L) 0 (1, 0) (fun j hj => by rw [Nat.zero_add]; exact q6 j hj), way_step hn L 1 h.1]
theorem WayC.ma {H : AH} {w : Option Nat} {L : List Cla} (h : WayC H w L) : mnO H w = maC L 9 := by
  rcases h.2 with ⟨e, e2⟩ | ⟨o2, t, e, q1, q2, q3, q4, q5, q6, q7, _, _⟩
  · rw [e, e2]; rfl
  · rw [e]; exact q7
