-- 42: clauses and whole texts
def heedL : List Int32 := [104, 101, 101, 100]
def deafL : List Int32 := [100, 101, 97, 102]
def manyL : List Int32 := [109, 97, 110, 121]
def wdL (x : Int32) : List Int32 := if x = 104 then heedL else if x = 100 then deafL else manyL
def wordR (t : Txt) : List Int32 → RD → RD
  | [], s => s
  | a :: r, s => wordR t r (signR t a s)
def headR (t : Txt) (s : RD) : RD := signR t 32 (wordR t (wdL (nxR t s)) s)
def clauseR (t : Txt) (s : RD) : RD :=
  if nxR t s = 104 then addR (2700 + (numR t (headR t s)).1) (eitherG t (partR t 4) (signR t 32 (numR t (headR t s)).2))
  else if nxR t s = 100 then addR (3000 + (numR t (headR t s)).1) (eitherG t (partR t 4) (signR t 32 (numR t (headR t s)).2))
  else (numR t (headR t s)).2.setm (nI (numR t (headR t s)).1)
def wayL (t : Txt) : Nat → RD → RD
  | 0, s => s
  | n + 1, s => if s.w = true then s else if t.1 ≤ s.p then s else wayL t n (clauseR t (signR t 59 s))
/-- the reference's words -/
def wdP (t : Txt) : Nat → List Int32 → Nat × Bool
  | p, [] => (p, true)
  | p, a :: r => if nx t p = a then wdP t (p + 1) r else (p, false)
def EP (t : Txt) (p q : Nat) (r : Option (List Nat)) : Prop := ∃ j, ∀ n, runE t (n + j) true p [] [] = (q, r)
/-- a clause from p on: it ends at q; none: a fault there -/
def CP (t : Txt) (p q : Nat) (r : Option Cla) : Prop :=
  (wdP t p (wdL (nx t p) ++ [32]) = (q, false) ∧ r = none) ∨ ∃ q1, wdP t p (wdL (nx t p) ++ [32]) = (q1, true) ∧
    ((numP t q1 = (q, none) ∧ r = none) ∨ ∃ q2 n, numP t q1 = (q2, some n) ∧
      ((¬ nx t p = 104 ∧ ¬ nx t p = 100 ∧ q = q2 ∧ r = some (2, n, [])) ∨ ((nx t p = 104 ∨ nx t p = 100) ∧
        ((¬ nx t q2 = 32 ∧ q = q2 ∧ r = none) ∨ (nx t q2 = 32 ∧ ((EP t (q2 + 1) q none ∧ r = none) ∨ ∃ T, EP t (q2 + 1) q (some T) ∧ r = some (if nx t p = 104 then 0 else 1, n, T)))))))
def WyP (t : Txt) : Nat → Nat → Nat → Option (List Cla) → Prop
  | 0, _, _, _ => False
  | k + 1, p, q, r => (CP t p q none ∧ r = none) ∨ ∃ p' cl, CP t p p' (some cl) ∧
      ((p' = t.1 ∧ q = p' ∧ r = some [cl]) ∨ (¬ p' = t.1 ∧ (k = 0 ∨ ¬ nx t p' = 59) ∧ q = p' ∧ r = none) ∨ (¬ p' = t.1 ∧ ¬ k = 0 ∧ nx t p' = 59 ∧ ((WyP t k (p' + 1) q none ∧ r = none) ∨ ∃ L, WyP t k (p' + 1) q (some L) ∧ r = some (cl :: L))))
theorem wordR_wr {t : Txt} : ∀ (l : List Int32) {s : RD} {q : Nat}, (∀ a ∈ l, ¬ (-1 : Int32) = a) → Wr s q → Wr (wordR t l s) q
  | [], _, _, _, h => h
  | a :: r, s, q, hl, h => wordR_wr r (fun b hb => hl b (List.mem_cons_of_mem _ hb)) (signR_wr (hl a List.mem_cons_self) h)
theorem wordR_o {t : Txt} : ∀ (l : List Int32) {s : RD}, (∀ a ∈ l, ¬ (-1 : Int32) = a) → s.w = false → s.p ≤ t.1 → (∃ q, wdP t s.p l = (q, true) ∧ wordR t l s = adv s q [] ∧ q = s.p + l.length ∧ q ≤ t.1) ∨ ∃ q, wdP t s.p l = (q, false) ∧ Wr (wordR t l s) q
  | [], s, _, h, hp => Or.inl ⟨s.p, rfl, rfl, rfl, hp⟩
  | a :: r, s, hl, h, hp => by
    unfold wdP wordR
    by_cases hx : nx t s.p = a
    · have hlt := nx_lt (t := t) (p := s.p) (by rw [hx]; exact fun z => hl a List.mem_cons_self z.symm)
      rw [if_pos hx, signR_ok h hx]
      rcases wordR_o r (s := adv s (s.p + 1) []) (fun b hb => hl b (List.mem_cons_of_mem _ hb)) h (show s.p + 1 ≤ t.1 by omega) with ⟨q, e1, e2, e3, e4⟩ | ⟨q, e1, e2⟩
      · refine Or.inl ⟨q, e1, by rw [e2, adv_adv]; rfl, ?_, e4⟩
        rw [e3, adv_p, List.length_cons]
        omega
      · exact Or.inr ⟨q, e1, e2⟩
    · rw [if_neg hx]
      exact Or.inr ⟨s.p, rfl, wordR_wr r (fun b hb => hl b (List.mem_cons_of_mem _ hb)) (signR_no h hx)⟩
theorem wordR_app (t : Txt) : ∀ (l m : List Int32) (s : RD), wordR t (l ++ m) s = wordR t m (wordR t l s)
  | [], _, _ => rfl
  | a :: r, m, s => wordR_app t r m _
theorem wd_ok (x : Int32) : (∀ a ∈ wdL x ++ [32], ¬ (-1 : Int32) = a) ∧ (wdL x ++ [32]).length = 5 := by
  unfold wdL
  split
  · exact ⟨by decide +kernel, rfl⟩
  · split
    · exact ⟨by decide +kernel, rfl⟩
    · exact ⟨by decide +kernel, rfl⟩
theorem head_eq (t : Txt) (s : RD) : headR t s = wordR t (wdL (nxR t s) ++ [32]) s := (wordR_app t _ [32] s).symm
/-- the component behind a clause, behind clauses -/
def advC (s : RD) (q : Nat) (c : Cla) : RD := (q, s.w, (if c.1 = 2 then nI c.2.1 else s.m), s.c + (codC c).length, appF s.f s.c (codC c))
def advW (s : RD) (q : Nat) (L : List Cla) : RD := (q, s.w, maC L s.m, s.c + (codL L).length, appF s.f s.c (codL L))
theorem setm_wr {s : RD} {q : Nat} {v : Int32} (h : Wr s q) : Wr (s.setm v) q := h
theorem clause_wr {t : Txt} {s : RD} {q : Nat} (h : Wr s q) : Wr (clauseR t s) q := by
  have h1 : Wr (headR t s) q := by rw [head_eq]; exact wordR_wr _ (wd_ok _).1 h
  unfold clauseR
  rw [nxR_wr h.1, if_neg (by decide +kernel), if_neg (by decide +kernel)]
  have h2 := numR_wr (t := t) h1
  exact setm_wr h2
theorem codC_len {c : Cla} : (codC c).length = if c.1 = 2 then 0 else c.2.2.length + 1 := by
  unfold codC
  split
  · rfl
  · rw [List.length_append]; rfl
theorem clause_o {t : Txt} {s : RD} (h : Pre t s) :
    (∃ q c, CP t s.p q (some c) ∧ clauseR t s = advC s q c ∧ ClW c ∧ s.p + (codC c).length + 1 ≤ q ∧ q ≤ t.1)
    ∨ ∃ q, CP t s.p q none ∧ Wr (clauseR t s) q := by
  have h0 := h
  obtain ⟨a, b, c, e⟩ := h
  have hx := nxR_ok (t := t) a
  have wk := wd_ok (nx t s.p)
  rcases wordR_o (t := t) (wdL (nx t s.p) ++ [32]) wk.1 a c with ⟨q1, w1, w2, w3, w4⟩ | ⟨q1, w1, w2⟩
  · have eh : headR t s = adv s q1 [] := by rw [head_eq, hx]; exact w2
    rw [wk.2] at w3
    rcases numR_ok (t := t) (s := adv s q1 []) a with ⟨q2, n, n1, n2⟩ | ⟨q2, n1, n2⟩
    · rw [adv_p] at n1
      obtain ⟨n9, b1, b2⟩ := numP_ok n1
      rw [adv_adv] at n2
      have key : ∀ (v wx : Nat) (hv : ClW (v, n, []) → v ≤ 1) (hv2 : v ≤ 1) (hcod : ∀ T, codC (v, n, T) = T ++ [wx]) (hxx : nx t s.p = 104 ∨ nx t s.p = 100) (hvx : v = if nx t s.p = 104 then 0 else 1) (hcl : clauseR t s = addR wx (eitherG t (partR t 4) (signR t 32 (numR t (headR t s)).2))),
          (∃ q c, CP t s.p q (some c) ∧ clauseR t s = advC s q c ∧ ClW c ∧ s.p + (codC c).length + 1 ≤ q ∧ q ≤ t.1) ∨ ∃ q, CP t s.p q none ∧ Wr (clauseR t s) q := by
        intro v wx hv hv2 hcod hxx hvx hcl
        rw [hcl, eh, n2]
        dsimp only
        by_cases h32 : nx t q2 = 32
        · have hlt := nx_lt (t := t) (p := q2) (by rw [h32]; decide +kernel)
          rw [signR_ok (s := adv s q2 ([] ++ [])) a h32, adv_adv]
          have hp : Pre t (adv s (q2 + 1) ([] ++ [] ++ [])) := h0.adv (by show s.p + 0 ≤ _; omega) (by omega)
          rcases E_top t hp with ⟨q, U, u1, u2, u3, u4, u5⟩ | ⟨q, u1, u2⟩
          · rw [adv_p] at u2 u5
            refine Or.inl ⟨q, (v, n, U), ?_, ?_, ?_, ?_, u3⟩
            · refine Or.inr ⟨q1, w1, Or.inr ⟨q2, n, n1, Or.inr ⟨hxx, Or.inr ⟨h32, Or.inr ⟨U, u5, ?_⟩⟩⟩⟩⟩
              rw [hvx]
            · rw [show (adv s q2 ([] ++ [])).p + 1 = q2 + 1 from rfl, u1, adv_adv, addR_ok (s := adv s q ([] ++ [] ++ [] ++ U)) a (by show s.c + U.length < 100; omega), adv_adv]
              unfold advC
              rw [hcod, if_neg (show ¬ v = 2 by omega)]
              rfl
            · exact ⟨by show v ≤ 2; omega, n9, fun _ => u4⟩
            · rw [hcod, List.length_append]
              show s.p + (U.length + 1) + 1 ≤ q
              omega
          · rw [adv_p] at u2
            refine Or.inr ⟨q, ?_, addR_wr u1⟩
            exact Or.inr ⟨q1, w1, Or.inr ⟨q2, n, n1, Or.inr ⟨hxx, Or.inr ⟨h32, Or.inl ⟨u2, rfl⟩⟩⟩⟩⟩
        · refine Or.inr ⟨q2, ?_, addR_wr (either_wr (fun {s q} => part_wr t 4) (signR_no (s := adv s q2 ([] ++ [])) a h32))⟩
          exact Or.inr ⟨q1, w1, Or.inr ⟨q2, n, n1, Or.inr ⟨hxx, Or.inl ⟨h32, rfl, rfl⟩⟩⟩⟩
      by_cases x1 : nx t s.p = 104
      · refine key 0 (2700 + n) (fun _ => by omega) (by omega) (fun T => ?_) (Or.inl x1) (by rw [if_pos x1]) ?_
        · unfold codC; rw [if_neg (show ¬ (0 : Nat) = 2 by decide), if_pos (show (0 : Nat) = 0 from rfl)]
        · unfold clauseR; rw [hx, if_pos x1, eh, n2]
      · by_cases x2 : nx t s.p = 100
        · refine key 1 (3000 + n) (fun _ => by omega) (by omega) (fun T => ?_) (Or.inr x2) (by rw [if_neg x1]) ?_
          · unfold codC; rw [if_neg (show ¬ (1 : Nat) = 2 by decide), if_neg (show ¬ (1 : Nat) = 0 by decide)]
          · unfold clauseR; rw [hx, if_neg x1, if_pos x2, eh, n2]
        · refine Or.inl ⟨q2, (2, n, []), ?_, ?_, ⟨by show 2 ≤ 2; omega, n9, fun z => absurd z (by show ¬ 2 ≤ 1; omega)⟩, ?_, b2⟩
          · exact Or.inr ⟨q1, w1, Or.inr ⟨q2, n, n1, Or.inl ⟨x1, x2, rfl, rfl⟩⟩⟩
          · unfold clauseR
            rw [hx, if_neg x1, if_neg x2, eh, n2]
            rfl
          · show s.p + 0 + 1 ≤ q2
            omega
    · rw [adv_p] at n1
      refine Or.inr ⟨q2, Or.inr ⟨q1, w1, Or.inl ⟨n1, rfl⟩⟩, ?_⟩
      unfold clauseR
      rw [hx, eh]
      split
      · exact addR_wr (either_wr (fun {s q} => part_wr t 4) (signR_wr (by decide +kernel) n2))
      · split
        · exact addR_wr (either_wr (fun {s q} => part_wr t 4) (signR_wr (by decide +kernel) n2))
        · exact setm_wr n2
  · refine Or.inr ⟨q1, Or.inl ⟨w1, rfl⟩, ?_⟩
    have eh : Wr (headR t s) q1 := by rw [head_eq, hx]; exact w2
    have n2 := numR_wr (t := t) eh
    unfold clauseR
    split
    · exact addR_wr (either_wr (fun {s q} => part_wr t 4) (signR_wr (by decide +kernel) n2))
    · split
      · exact addR_wr (either_wr (fun {s q} => part_wr t 4) (signR_wr (by decide +kernel) n2))
      · exact setm_wr n2
theorem way_wr (t : Txt) (n : Nat) {s : RD} {q : Nat} (h : Wr s q) : wayL t n s = s := by
  cases n with
  | zero => rfl
  | succ n =>
    unfold wayL
    rw [if_pos h.1]
theorem advC_one (s : RD) (q : Nat) (c : Cla) : advC s q c = advW s q [c] := by
  show (q, s.w, (if c.1 = 2 then nI c.2.1 else s.m), s.c + (codC c).length, appF s.f s.c (codC c)) = (q, s.w, (if c.1 = 2 then nI c.2.1 else s.m), s.c + (codC c ++ []).length, appF s.f s.c (codC c ++ []))
  rw [List.append_nil]
theorem advC_cons (s : RD) (q r : Nat) (c : Cla) (L : List Cla) : advW (adv (advC s q c) (q + 1) []) r L = advW s r (c :: L) := by
  show (r, s.w, maC L (if c.1 = 2 then nI c.2.1 else s.m), s.c + (codC c).length + 0 + (codL L).length, appF (appF s.f s.c (codC c)) (s.c + (codC c).length + 0) (codL L)) = (r, s.w, maC L (if c.1 = 2 then nI c.2.1 else s.m), s.c + (codC c ++ codL L).length, appF s.f s.c (codC c ++ codL L))
  rw [appF_app, List.length_append, Nat.add_zero, Nat.add_assoc]
/-- a text is read alike -/
theorem way_o {t : Txt} : ∀ (k : Nat) {s : RD}, Pre t s →
    (∃ L, WyP t (k + 1) s.p t.1 (some L) ∧ wayL t k (clauseR t s) = advW s t.1 L ∧ (∀ c ∈ L, ClW c) ∧ L.length ≤ k + 1 ∧ s.p + (codL L).length ≤ t.1)
    ∨ ∃ q, WyP t (k + 1) s.p q none ∧ (wayL t k (clauseR t s)).p = q ∧ ((wayL t k (clauseR t s)).w = true ∨ ((wayL t k (clauseR t s)).w = false ∧ ¬ q = t.1 ∧ q ≤ t.1))
  | k, s, h => by
    have h0 := h
    obtain ⟨a, b, c, e⟩ := h
    rcases clause_o h0 with ⟨q, cl, c1, c2, c3, c4, c5⟩ | ⟨q, c1, c2⟩
    · by_cases hq : q = t.1
      · refine Or.inl ⟨[cl], Or.inr ⟨q, cl, c1, Or.inl ⟨hq, hq.symm, rfl⟩⟩, ?_, ?_, by show 1 ≤ k + 1; omega, ?_⟩
        · rw [c2, ← hq, ← advC_one]
          cases k with
          | zero => rfl
          | succ k =>
            unfold wayL
            rw [if_neg (show ¬ (advC s q cl).w = true by show ¬ s.w = true; rw [a]; decide), if_pos (show t.1 ≤ (advC s q cl).p by show t.1 ≤ q; omega)]
        · intro z hz
          rw [List.mem_singleton.mp hz]
          exact c3
        · show s.p + (codC cl ++ []).length ≤ t.1
          rw [List.append_nil]
          omega
      · cases k with
        | zero =>
          refine Or.inr ⟨q, Or.inr ⟨q, cl, c1, Or.inr (Or.inl ⟨hq, Or.inl rfl, rfl, rfl⟩)⟩, ?_, Or.inr ⟨?_, hq, c5⟩⟩
          · rw [c2]; rfl
          · rw [c2]; exact a
        | succ k =>
          have e1 : wayL t (k + 1) (clauseR t s) = wayL t k (clauseR t (signR t 59 (advC s q cl))) := by
            rw [c2]
            show (if (advC s q cl).w = true then advC s q cl else if t.1 ≤ (advC s q cl).p then advC s q cl else wayL t k (clauseR t (signR t 59 (advC s q cl)))) = _
            rw [if_neg (show ¬ (advC s q cl).w = true by show ¬ s.w = true; rw [a]; decide), if_neg (show ¬ t.1 ≤ (advC s q cl).p by show ¬ t.1 ≤ q; omega)]
          rw [e1]
          by_cases h59 : nx t q = 59
          · have hlt := nx_lt (t := t) (p := q) (by rw [h59]; decide +kernel)
            rw [signR_ok (s := advC s q cl) a h59]
            have hp : Pre t (adv (advC s q cl) ((advC s q cl).p + 1) []) := by
              refine ⟨a, ?_, ?_, e⟩
              · show s.c + (codC cl).length + 0 ≤ q + 1
                omega
              · show q + 1 ≤ t.1
                omega
            rcases way_o k hp with ⟨L, l1, l2, l3, l4, l5⟩ | ⟨r, l1, l2, l3⟩
            · refine Or.inl ⟨cl :: L, Or.inr ⟨q, cl, c1, Or.inr (Or.inr ⟨hq, by omega, h59, Or.inr ⟨L, l1, rfl⟩⟩)⟩, ?_, ?_, ?_, ?_⟩
              · rw [l2, show (advC s q cl).p + 1 = q + 1 from rfl, advC_cons]
              · intro z hz
                rcases List.mem_cons.mp hz with rfl | hz
                · exact c3
                · exact l3 z hz
              · rw [List.length_cons]; omega
              · have l5 : q + 1 + (codL L).length ≤ t.1 := l5
                show s.p + (codC cl ++ codL L).length ≤ t.1
                rw [List.length_append]
                omega
            · exact Or.inr ⟨r, Or.inr ⟨q, cl, c1, Or.inr (Or.inr ⟨hq, by omega, h59, Or.inl ⟨l1, rfl⟩⟩)⟩, l2, l3⟩
          · have w1 : Wr (clauseR t (signR t 59 (advC s q cl))) q := clause_wr (signR_no (s := advC s q cl) a h59)
            rw [way_wr t k w1]
            exact Or.inr ⟨q, Or.inr ⟨q, cl, c1, Or.inr (Or.inl ⟨hq, Or.inr h59, rfl, rfl⟩)⟩, w1.2, Or.inl w1.1⟩
    · rw [way_wr t k c2]
      exact Or.inr ⟨q, Or.inl ⟨c1, rfl⟩, c2.2, Or.inl c2.1⟩
