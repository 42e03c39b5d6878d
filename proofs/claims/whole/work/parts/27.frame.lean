-- 27: what a call leaves as it was
def Fr (J : Nat → Nat → Prop) (H : AH) (H' : AH) : Prop :=
  (H'.1 = H.1) ∧
  (∀ o i, ¬ J o i → aI H' o i = aI H o i) ∧
  (∀ o i, ¬ (J o i ∧ i = 13 ∧ o < 67) → aR H' o i = aR H o i) ∧
  (∀ o i, ¬ J o i → aJ H' o i = aJ H o i)
theorem Fr.lay {J : Nat → Nat → Prop} {H : AH} {H' : AH} (h : Fr J H H') : H'.1 = H.1 := h.1
theorem Fr.I {J : Nat → Nat → Prop} {H : AH} {H' : AH} (h : Fr J H H') : ∀ o i, ¬ J o i → aI H' o i = aI H o i := h.2.1
theorem Fr.R {J : Nat → Nat → Prop} {H : AH} {H' : AH} (h : Fr J H H') : ∀ o i, ¬ (J o i ∧ i = 13 ∧ o < 67) → aR H' o i = aR H o i := h.2.2.1
theorem Fr.Jq {J : Nat → Nat → Prop} {H : AH} {H' : AH} (h : Fr J H H') : ∀ o i, ¬ J o i → aJ H' o i = aJ H o i := h.2.2.2
theorem Fr.refl (J : Nat → Nat → Prop) (H : AH) : Fr J H H := ⟨rfl, fun _ _ _ => rfl, fun _ _ _ => rfl, fun _ _ _ => rfl⟩
theorem Fr.trans {J : Nat → Nat → Prop} {H H1 H2 : AH} (a : Fr J H H1) (b : Fr J H1 H2) : Fr J H H2 :=
  ⟨b.lay.trans a.lay, fun o i h => (b.I o i h).trans (a.I o i h), fun o i h => (b.R o i h).trans (a.R o i h), fun o i h => (b.Jq o i h).trans (a.Jq o i h)⟩
theorem Fr.mono {J K : Nat → Nat → Prop} {H H1 : AH} (a : Fr J H H1) (h : ∀ o i, J o i → K o i) : Fr K H H1 :=
  ⟨a.lay, fun o i z => a.I o i (fun e => z (h o i e)), fun o i z => a.R o i (fun e => z ⟨h o i e.1, e.2⟩), fun o i z => a.Jq o i (fun e => z (h o i e))⟩
theorem Fr.kdq {J : Nat → Nat → Prop} {H H' : AH} (a : Fr J H H') (o : Nat) : kd H' o = kd H o := by unfold kd; rw [a.lay]
theorem Fr.szq {J : Nat → Nat → Prop} {H H' : AH} (a : Fr J H H') (o : Nat) : sz H' o = sz H o := by unfold sz; rw [a.lay]
theorem Fr.anq {J : Nat → Nat → Prop} {H H' : AH} (a : Fr J H H') : aN H' = aN H := by unfold aN; rw [a.lay]
theorem Fr.wI {J : Nat → Nat → Prop} {H : AH} {k i : Nat} (v : Int32) (h : J k i) : Fr J H (sI H k i v) :=
  ⟨rfl, fun o j z => (gI H k i v o j).trans (if_neg (fun e => z (by rw [e.1, e.2]; exact h))), fun _ _ _ => rfl, fun _ _ _ => rfl⟩
theorem gJ (H : AH) (k i : Nat) (v : Int64) (k2 i2 : Nat) : aJ (sJ H k i v) k2 i2 = if k2 = k ∧ i2 = i then v else aJ H k2 i2 := rfl
theorem gR (H : AH) (k i : Nat) (v : Option Nat) (k2 i2 : Nat) : aR (sR H k i v) k2 i2 = if k2 = k ∧ i2 = i then v else aR H k2 i2 := rfl
theorem gIn {H : AH} {k i : Nat} {v : Int32} {k2 i2 : Nat} (h : ¬ (k2 = k ∧ i2 = i)) : aI (sI H k i v) k2 i2 = aI H k2 i2 := (gI H k i v k2 i2).trans (if_neg h)
theorem gIs {H : AH} {k i : Nat} {v : Int32} : aI (sI H k i v) k i = v := (gI H k i v k i).trans (if_pos ⟨rfl, rfl⟩)
theorem gAn {H : AH} {p : Nat → Int32} {o i : Nat} (h : o ≠ 82) : aI (sA H p) o i = aI H o i := congrFun (aI_sA H p h) i
theorem Fr.wJ {J : Nat → Nat → Prop} {H : AH} {k i : Nat} (v : Int64) (h : J k i) : Fr J H (sJ H k i v) :=
  ⟨rfl, fun _ _ _ => rfl, fun _ _ _ => rfl, fun o j z => (gJ H k i v o j).trans (if_neg (fun e => z (by rw [e.1, e.2]; exact h)))⟩
theorem Fr.wR {J : Nat → Nat → Prop} {H : AH} {k : Nat} (v : Option Nat) (h : J k 13) (hk : k < 67) : Fr J H (sR H k 13 v) :=
  ⟨rfl, fun _ _ _ => rfl, fun o j z => (gR H k 13 v o j).trans (if_neg (fun e => z (by rw [e.1, e.2]; exact ⟨h, rfl, hk⟩))), fun _ _ _ => rfl⟩
theorem gA (H : AH) (p : Nat → Int32) (o i : Nat) : aI (sA H p) o i = if o = 82 then p i else aI H o i := rfl
theorem Fr.wA {J : Nat → Nat → Prop} {H : AH} (p : Nat → Int32) (h : ∀ i, J 82 i) : Fr J H (sA H p) :=
  ⟨rfl, fun o j z => (gA H p o j).trans (if_neg (fun e => z (by rw [e]; exact h j))), fun _ _ _ => rfl, fun _ _ _ => rfl⟩
theorem gcI (H : AH) (s sp e dp n o i : Nat) : aI (cI H s sp e dp n) o i = if o = e then va_cpy (aI H s) (aI H e) sp dp n i else aI H o i := rfl
theorem gcJ (H : AH) (s sp e dp n o i : Nat) : aJ (cJ H s sp e dp n) o i = if o = e then va_cpy (aJ H s) (aJ H e) sp dp n i else aJ H o i := rfl
theorem Fr.wC {J : Nat → Nat → Prop} {H : AH} {e : Nat} (s sp dp n : Nat) (h : ∀ i, J e i) : Fr J H (cI H s sp e dp n) :=
  ⟨rfl, fun o j z => (gcI H s sp e dp n o j).trans (if_neg (fun q => z (by rw [q]; exact h j))), fun _ _ _ => rfl, fun _ _ _ => rfl⟩
theorem Fr.wCJ {J : Nat → Nat → Prop} {H : AH} {e : Nat} (s sp dp n : Nat) (h : ∀ i, J e i) : Fr J H (cJ H s sp e dp n) :=
  ⟨rfl, fun _ _ _ => rfl, fun _ _ _ => rfl, fun o j z => (gcJ H s sp e dp n o j).trans (if_neg (fun q => z (by rw [q]; exact h j)))⟩
theorem StL.fr {J : Nat → Nat → Prop} {H H' : AH} {k : Nat} (h : StL H k) (f : Fr J H H') : StL H' k := by
  have r := fun o i (hi : i ≠ 13) => f.R o i (fun z => hi z.2.1)
  unfold StL
  simp only [f.kdq, f.szq, r k 2 (by decide), r k 3 (by decide), r k 5 (by decide), r k 7 (by decide), r k 8 (by decide), r k 10 (by decide), r k 11 (by decide), r k 12 (by decide), r (k + 6) 1 (by decide), r (k + 6) 2 (by decide), r (k + 9) 1 (by decide), r (k + 9) 2 (by decide), r (k + 12) 1 (by decide), r (k + 12) 2 (by decide)]
  exact h
theorem MoL.fr {J : Nat → Nat → Prop} {H H' : AH} (h : MoL H) (f : Fr J H H') : MoL H' := by
  refine ⟨fun i hi => ?_, fun q hq => ?_⟩
  · rw [f.kdq, f.szq]; exact h.1 i hi
  · rw [f.R 67 q.1 (fun z => absurd z.2.2 (by decide))]; exact h.2 q hq
theorem WayC.fr {J : Nat → Nat → Prop} {H H' : AH} {w : Option Nat} {L : List Cla} (h : WayC H w L) (f : Fr J H H') (hJ : ∀ o i, J o i → o < 110) : WayC H' w L := by
  refine ⟨h.1, ?_⟩
  rcases h.2 with e | ⟨o, t, e, q1, q2, q3, q4, q5, q6, q7, q8, q9⟩
  · exact Or.inl e
  · refine Or.inr ⟨o, t, e, (f.kdq o).trans q1, (f.R o 1 (fun z => absurd z.2.1 (by decide))).trans q2, (f.kdq t).trans q3, (f.szq t).trans q4, q5, fun j hj => (f.I t j (fun z => by have := hJ _ _ z; omega)).trans (q6 j hj), (f.I o 0 (fun z => by have := hJ _ _ z; omega)).trans q7, q8, q9⟩
theorem WayM.fr {J : Nat → Nat → Prop} {H H' : AH} {b : Nat} {L : List Cla} (h : WayM H L b) (f : Fr J H H') (hJ : ∀ o i, J o i → ¬ (o = 67 ∧ i = 11) ∧ ¬ (74 ≤ o ∧ o ≤ 79)) : WayM H' L b := by
  have g := fun o i (e : 74 ≤ o ∧ o ≤ 79) => f.I o i (fun z => (hJ _ _ z).2 e)
  refine ⟨h.1, ?_⟩
  rcases h.2 with ⟨e1, e2⟩ | ⟨s, s6, e1, e2, e3, e4, e5⟩
  · exact Or.inl ⟨(f.I 67 11 (fun z => (hJ _ _ z).1 ⟨rfl, rfl⟩)).trans e1, e2⟩
  · refine Or.inr ⟨s, s6, (f.I 67 11 (fun z => (hJ _ _ z).1 ⟨rfl, rfl⟩)).trans e1, (g 74 s (by omega)).trans e2, e3, e4, fun j hj => ?_⟩
    obtain ⟨a1, a2, a3⟩ := e5 j hj
    refine ⟨(g 75 _ (by omega)).trans a1, (g 76 _ (by omega)).trans a2, fun q => ?_⟩
    obtain ⟨c, c1, c2, c3, c4⟩ := a3 q
    exact ⟨c, (g 77 _ (by omega)).trans c1, (g 78 _ (by omega)).trans c2, c3, fun j hj => (g 79 _ (by omega)).trans (c4 j hj)⟩
