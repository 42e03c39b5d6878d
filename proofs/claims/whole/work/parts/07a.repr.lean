-- 90: what the machine's heap and locals are of an abstract one
def cv (N0 : Nat) (bv : Nat → Value) : Value → Value
  | .ref k => .ref (N0 + k)
  | .retAddr j => bv j
  | v => v
def rvC (N0 : Nat) (r : Option Nat) : Value := match r with | none => .null | some k => .ref (N0 + k)
theorem cv_rv (N0 : Nat) (bv : Nat → Value) (r : Option Nat) : cv N0 bv (rv r) = rvC N0 r := by cases r <;> rfl
/-- a field's sort: 0 int, 1 boolean, 2 a reference -/
def fk (a b : Nat) : Nat := match vwCl[a]? with
  | some r => (match parseFieldDescriptor (r.2.1 b).2.2.1 with | some .int => 0 | some .boolean => 1 | _ => 2)
  | none => 9
def fval (N0 : Nat) (H : AH) (c k f : Nat) : Value := if fk c f = 0 then .int (aI H k f) else if fk c f = 1 then .int (bz (aI H k f)) else rvC N0 (aR H k f)
def arrF (N0 : Nat) (H : AH) (k j : Nat) : Value := if kd H k = 20 then .int (aI H k j) else if kd H k = 21 then .long (aJ H k j) else if kd H k = 22 then .int (bz (aI H k j)) else rvC N0 (aR H k j)
def cellAt (N0 : Nat) (Dg : va_G) (cA : Nat → ClassId) (H : AH) (Hp : Heap) (k : Nat) : Prop :=
  if 20 ≤ kd H k then Hp[N0 + k]? = some (arrV (cA (kd H k)) (sz H k) (arrF N0 H k))
  else ∃ r : vw_C, vwCl[kd H k]? = some r ∧ t_OB (N0 + k) (Dg.1 (kd H k)) r.2.2 (Dg.2 (kd H k)) Hp (fval N0 H (kd H k) k)
def HR (N0 : Nat) (Dg : va_G) (cA : Nat → ClassId) (H : AH) (Hp : Heap) : Prop := Hp.size = N0 + aN H ∧ (∀ k : Nat, k < aN H → cellAt N0 Dg cA H Hp k) ∧ ∀ k : Nat, k < aN H → kd H k < 24
theorem kd_lt {H : AH} {o : Nat} (h : kd H o ≠ 99) : o < aN H := by
  rcases Nat.lt_or_ge o (aN H) with q | q
  · exact q
  · refine absurd ?_ h
    unfold kd
    rw [List.getD_eq_getElem?_getD, List.getElem?_eq_none q]
    rfl
theorem cellAt.congr {N0 : Nat} {Dg : va_G} {cA : Nat → ClassId} {H H1 : AH} {Hp Hp1 : Heap} {k : Nat} (hk : kd H1 k = kd H k) (hz : sz H1 k = sz H k) (hI : ∀ j, aI H1 k j = aI H k j) (hJ : ∀ j, aJ H1 k j = aJ H k j) (hR : ∀ j, aR H1 k j = aR H k j) (hp : Hp1[N0 + k]? = Hp[N0 + k]?) (h : cellAt N0 Dg cA H Hp k) : cellAt N0 Dg cA H1 Hp1 k := by
  have eF : arrF N0 H1 k = arrF N0 H k := funext fun j => by simp only [arrF, hk, hI, hJ, hR]
  have eV : ∀ c, fval N0 H1 c k = fval N0 H c k := fun c => funext fun j => by simp only [fval, hI, hR]
  unfold cellAt at h ⊢
  rw [hk]
  by_cases h20 : 20 ≤ kd H k
  · rw [if_pos h20] at h ⊢
    rw [hp, hz, eF]
    exact h
  · rw [if_neg h20] at h ⊢
    obtain ⟨r, h1, h2⟩ := h
    exact ⟨r, h1, by rw [eV]; exact h2.kept hp⟩
/-- one cell is written -/
theorem HR.store {N0 : Nat} {Dg : va_G} {cA : Nat → ClassId} {H H1 : AH} {Hp Hp1 : Heap} {o : Nat} (hh : HR N0 Dg cA H Hp) (h1 : H1.1 = H.1) (hI : ∀ k, k ≠ o → ∀ j, aI H1 k j = aI H k j) (hJ : ∀ k, k ≠ o → ∀ j, aJ H1 k j = aJ H k j) (hR : ∀ k, k ≠ o → ∀ j, aR H1 k j = aR H k j) (hz : Hp1.size = Hp.size) (hq : ∀ q : Nat, q ≠ N0 + o → Hp1[q]? = Hp[q]?) (hc : cellAt N0 Dg cA H1 Hp1 o) : HR N0 Dg cA H1 Hp1 := by
  have hn : aN H1 = aN H := by unfold aN; rw [h1]
  refine ⟨by rw [hz, hn]; exact hh.1, fun k hk => ?_, fun k hk => by rw [show kd H1 k = kd H k by unfold kd; rw [h1]]; exact hh.2.2 k (by rw [← hn]; exact hk)⟩
  by_cases e : k = o
  · subst e; exact hc
  · have hkd : kd H1 k = kd H k := by unfold kd; rw [h1]
    have hsz : sz H1 k = sz H k := by unfold sz; rw [h1]
    exact (hh.2.1 k (by rw [← hn]; exact hk)).congr hkd hsz (hI k e) (hJ k e) (hR k e) (hq _ (by omega))
theorem gr_kd {H : AH} {a n k : Nat} (hk : k < aN H) : kd (gr H a n) k = kd H k ∧ sz (gr H a n) k = sz H k := by
  have h : (H.1 ++ [(a, n)])[k]? = H.1[k]? := List.getElem?_append_left hk
  constructor
  · show ((H.1 ++ [(a, n)]).getD k (99, 0)).1 = _
    rw [List.getD_eq_getElem?_getD, h, ← List.getD_eq_getElem?_getD]
    rfl
  · show ((H.1 ++ [(a, n)]).getD k (99, 0)).2 = _
    rw [List.getD_eq_getElem?_getD, h, ← List.getD_eq_getElem?_getD]
    rfl
theorem gr_last {H : AH} {a n : Nat} : kd (gr H a n) (aN H) = a ∧ sz (gr H a n) (aN H) = n := by
  have h : (H.1 ++ [(a, n)])[H.1.length]? = some (a, n) := by simp
  constructor
  · show ((H.1 ++ [(a, n)]).getD H.1.length (99, 0)).1 = _
    rw [List.getD_eq_getElem?_getD, h]
    rfl
  · show ((H.1 ++ [(a, n)]).getD H.1.length (99, 0)).2 = _
    rw [List.getD_eq_getElem?_getD, h]
    rfl
theorem gr_n {H : AH} {a n : Nat} : aN (gr H a n) = aN H + 1 := by show (H.1 ++ [(a, n)]).length = _; simp [aN]
theorem gr_slots {H : AH} {a n : Nat} : slotsOf (gr H a n) = slotsOf H + n := by show ((H.1 ++ [(a, n)]).map (·.2)).sum = _; simp [slotsOf]
theorem gr_I {H : AH} {a n k j : Nat} : aI (gr H a n) k j = if k = aN H then 0 else aI H k j := rfl
theorem gr_J {H : AH} {a n k j : Nat} : aJ (gr H a n) k j = if k = aN H then 0 else aJ H k j := rfl
theorem gr_R {H : AH} {a n k j : Nat} : aR (gr H a n) k j = if k = aN H then none else aR H k j := rfl
/-- a cell is made -/
theorem HR.grow {N0 : Nat} {Dg : va_G} {cA : Nat → ClassId} {H : AH} {Hp Hp1 : Heap} {a n : Nat} (ha : a < 24) (hh : HR N0 Dg cA H Hp) (hz : Hp1.size = Hp.size + 1) (hq : ∀ q : Nat, q < Hp.size → Hp1[q]? = Hp[q]?) (hc : cellAt N0 Dg cA (gr H a n) Hp1 (aN H)) : HR N0 Dg cA (gr H a n) Hp1 := by
  refine ⟨by rw [hz, hh.1, gr_n]; omega, fun k hk => ?_, fun k hk => ?_⟩
  rotate_left
  · rw [gr_n] at hk
    by_cases e : k = aN H
    · subst e; rw [gr_last.1]; exact ha
    · have hlt : k < aN H := by omega
      rw [(gr_kd hlt).1]
      exact hh.2.2 k hlt
  rw [gr_n] at hk
  by_cases e : k = aN H
  · subst e; exact hc
  · have hlt : k < aN H := by omega
    exact (hh.2.1 k hlt).congr (gr_kd hlt).1 (gr_kd hlt).2 (fun j => by rw [gr_I, if_neg e]) (fun j => by rw [gr_J, if_neg e]) (fun j => by rw [gr_R, if_neg e]) (hq _ (by rw [hh.1]; omega))
/-- the locals -/
def LR (N0 : Nat) (bv : Nat → Value) (lsC : Array Slot) (nL : Nat) (ls : List Value) : Prop := lsC.size = nL ∧ lv_wf lsC ∧ ls.length = nL ∧ ∀ (i : Nat) (v : Value), ls[i]? = some v → v ≠ hole → lsC[i]? = some (.val (cv N0 bv v))
theorem LR.get {N0 : Nat} {bv : Nat → Value} {lsC : Array Slot} {nL : Nat} {ls : List Value} (h : LR N0 bv lsC nL ls) {i : Nat} {v : Value} (hv : ls[i]? = some v) (hn : v ≠ hole) : lsC[i]? = some (.val (cv N0 bv v)) := h.2.2.2 i v hv hn
def asg (N0 : Nat) (bv : Nat → Value) (ls : List Value) : List (Nat × Value) := (List.range ls.length).filterMap fun j => match ls[j]? with
  | some v => if v = hole then none else some (j, cv N0 bv v)
  | none => none
theorem asg_mem {N0 : Nat} {bv : Nat → Value} {ls : List Value} {q : Nat × Value} : q ∈ asg N0 bv ls ↔ ∃ v, ls[q.1]? = some v ∧ v ≠ hole ∧ q.2 = cv N0 bv v := by
  unfold asg
  rw [List.mem_filterMap]
  constructor
  · rintro ⟨j, hj, h⟩
    split at h
    · rename_i v hv
      by_cases e : v = hole
      · rw [if_pos e] at h; cases h
      · rw [if_neg e] at h
        cases h
        exact ⟨v, hv, e, rfl⟩
    · cases h
  · rintro ⟨v, hv, hn, hq⟩
    refine ⟨q.1, List.mem_range.mpr (List.getElem?_eq_some_iff.mp hv).1, ?_⟩
    rw [hv]
    dsimp only
    rw [if_neg hn, ← hq]
theorem LR.hs {N0 : Nat} {bv : Nat → Value} {lsC : Array Slot} {nL : Nat} {ls : List Value} (h : LR N0 bv lsC nL ls) : lv_has lsC nL (asg N0 bv ls) := by
  refine ⟨h.1, h.2.1, fun q hq => ?_⟩
  obtain ⟨v, h1, h2, h3⟩ := asg_mem.mp hq
  rw [h3]
  exact h.2.2.2 _ _ h1 h2
theorem cat_cv {N0 : Nat} {bv : Nat → Value} (hbv : ∀ j, (bv j).category = 1) {v : Value} (h1 : ∀ x, v ≠ .long x) (h2 : ∀ x, v ≠ .double x) : (cv N0 bv v).category = 1 := by
  cases v with
  | long x => exact absurd rfl (h1 x)
  | double x => exact absurd rfl (h2 x)
  | retAddr j => exact hbv j
  | _ => rfl
theorem LR.set {N0 : Nat} {bv : Nat → Value} (hbv : ∀ j, (bv j).category = 1) {lsC lsC1 : Array Slot} {nL i : Nat} {ls l1 : List Value} {v w : Value} (h : LR N0 bv lsC nL ls) (hs : lset ls i v = some l1) (hw : w = cv N0 bv v) (h1 : lv_has lsC1 nL ((i, w) :: (asg N0 bv ls).filter (fun q => !(q.1 == i) && !(q.1 + 1 == i && q.2.category == 2)))) : LR N0 bv lsC1 nL l1 := by
  subst hw
  have key : l1 = ls.set i v ∧ ∀ (j : Nat) (u : Value), j + 1 = i → ls[j]? = some u → (∀ x, u ≠ .long x) ∧ ∀ x, u ≠ .double x := by
    cases i with
    | zero => exact ⟨(Option.some.inj hs).symm, fun j u e => by omega⟩
    | succ i =>
      dsimp only [lset] at hs
      split at hs
      · cases hs
      · cases hs
      · rename_i n1 n2
        refine ⟨(Option.some.inj hs).symm, fun j u e hu => ?_⟩
        obtain rfl : j = i := by omega
        exact ⟨fun x ex => n1 x (by rw [hu, ex]), fun x ex => n2 x (by rw [hu, ex])⟩
  obtain ⟨rfl, hk⟩ := key
  refine ⟨h1.1, h1.2.1, by rw [List.length_set]; exact h.2.2.1, fun j u hu hn => ?_⟩
  by_cases e : j = i
  · subst e
    have e2 : u = v := by
      have hlt : j < ls.length := by
        have := (List.getElem?_eq_some_iff.mp hu).1
        rwa [List.length_set] at this
      rw [List.getElem?_set_self hlt] at hu
      exact (Option.some.inj hu).symm
    subst e2
    exact h1.2.2 (j, _) List.mem_cons_self
  · rw [List.getElem?_set_ne (Ne.symm e)] at hu
    refine h1.2.2 (j, cv N0 bv u) (List.mem_cons_of_mem _ (List.mem_filter.mpr ⟨asg_mem.mpr ⟨u, hu, hn, rfl⟩, ?_⟩))
    have e1 : (j == i) = false := by simp [e]
    show (!(j == i) && !(j + 1 == i && (cv N0 bv u).category == 2)) = true
    rw [e1]
    by_cases e3 : j + 1 = i
    · obtain ⟨n1, n2⟩ := hk j u e3 hu
      rw [cat_cv hbv n1 n2]
      simp
    · simp [e3]
def offOK (pc : Nat) (off : Int) : Bool := decide (0 ≤ (pc : Int) + off)
/-- the words of a nest mate's link: they hold on, but not as the kit's goodWord says -/
def nestB : Jvm.Cond → Bool
  | .methodLinkNest .. => true
  | .fieldLinkNest .. => true
  | _ => false
def goodW (w : Jvm.Cond) : Bool := goodWord w || nestB w
theorem goodW_of {w : Jvm.Cond} (h : goodWord w = true) : goodW w = true := by unfold goodW; rw [h]; rfl
def word (i : Nat) (w : Jvm.Cond) : Bool := decide (lw_tbl[i]? = some w) && goodW w
theorem word_of {i : Nat} {w : Jvm.Cond} {args : Array Value} {s : State} (h : word i w = true) (hts : ∀ w ∈ lw_tbl, goodW w = true → w.before args s = true) : w.before args s = true := by
  unfold word at h
  simp only [Bool.and_eq_true, decide_eq_true_eq] at h
  exact hts w (List.mem_of_getElem? h.1) h.2
