-- 27: what a call leaves as it was
def Fr (lo : Nat) (hi : Nat) (H : AH) (H' : AH) : Prop :=
  (H'.1 = H.1) ∧
  (∀ o, (o < lo ∨ hi ≤ o) → aI H' o = aI H o) ∧
  (∀ o, (o < lo ∨ hi ≤ o) → aJ H' o = aJ H o) ∧
  (∀ o, (o < lo ∨ hi ≤ o) → aR H' o = aR H o)
theorem Fr.lay {lo : Nat} {hi : Nat} {H : AH} {H' : AH} (h : Fr lo hi H H') : H'.1 = H.1 := h.1
theorem Fr.I {lo : Nat} {hi : Nat} {H : AH} {H' : AH} (h : Fr lo hi H H') : ∀ o, (o < lo ∨ hi ≤ o) → aI H' o = aI H o := h.2.1
theorem Fr.J {lo : Nat} {hi : Nat} {H : AH} {H' : AH} (h : Fr lo hi H H') : ∀ o, (o < lo ∨ hi ≤ o) → aJ H' o = aJ H o := h.2.2.1
theorem Fr.R {lo : Nat} {hi : Nat} {H : AH} {H' : AH} (h : Fr lo hi H H') : ∀ o, (o < lo ∨ hi ≤ o) → aR H' o = aR H o := h.2.2.2
theorem Fr.refl (lo hi : Nat) (H : AH) : Fr lo hi H H := ⟨rfl, fun _ _ => rfl, fun _ _ => rfl, fun _ _ => rfl⟩
theorem Fr.trans {lo hi : Nat} {H H1 H2 : AH} (a : Fr lo hi H H1) (b : Fr lo hi H1 H2) : Fr lo hi H H2 :=
  ⟨b.lay.trans a.lay, fun o h => (b.I o h).trans (a.I o h), fun o h => (b.J o h).trans (a.J o h), fun o h => (b.R o h).trans (a.R o h)⟩
theorem Fr.mono {lo hi lo2 hi2 : Nat} {H H1 : AH} (a : Fr lo hi H H1) (h1 : lo2 ≤ lo) (h2 : hi ≤ hi2) : Fr lo2 hi2 H H1 :=
  ⟨a.lay, fun o h => a.I o (by omega), fun o h => a.J o (by omega), fun o h => a.R o (by omega)⟩
theorem Fr.kd {lo hi : Nat} {H H' : AH} (a : Fr lo hi H H') (o : Nat) : _root_.kd H' o = _root_.kd H o := by unfold _root_.kd; rw [a.lay]
theorem Fr.sz {lo hi : Nat} {H H' : AH} (a : Fr lo hi H H') (o : Nat) : _root_.sz H' o = _root_.sz H o := by unfold _root_.sz; rw [a.lay]
theorem Fr.an {lo hi : Nat} {H H' : AH} (a : Fr lo hi H H') : aN H' = aN H := by unfold aN; rw [a.lay]
theorem Fr.sI {lo hi k : Nat} (H : AH) (i : Nat) (v : Int32) (h1 : lo ≤ k) (h2 : k < hi) : Fr lo hi H (_root_.sI H k i v) :=
  ⟨rfl, fun o h => funext fun j => if_neg (fun z => by omega), fun _ _ => rfl, fun _ _ => rfl⟩
theorem Fr.sJ {lo hi k : Nat} (H : AH) (i : Nat) (v : Int64) (h1 : lo ≤ k) (h2 : k < hi) : Fr lo hi H (_root_.sJ H k i v) :=
  ⟨rfl, fun _ _ => rfl, fun o h => funext fun j => if_neg (fun z => by omega), fun _ _ => rfl⟩
theorem Fr.sR {lo hi k : Nat} (H : AH) (i : Nat) (v : Option Nat) (h1 : lo ≤ k) (h2 : k < hi) : Fr lo hi H (_root_.sR H k i v) :=
  ⟨rfl, fun _ _ => rfl, fun _ _ => rfl, fun o h => funext fun j => if_neg (fun z => by omega)⟩
theorem Fr.cI {lo hi d : Nat} (H : AH) (s sp dp n : Nat) (h1 : lo ≤ d) (h2 : d < hi) : Fr lo hi H (_root_.cI H s sp d dp n) :=
  ⟨rfl, fun o h => funext fun j => if_neg (fun z => by omega), fun _ _ => rfl, fun _ _ => rfl⟩
theorem Fr.cJ {lo hi d : Nat} (H : AH) (s sp dp n : Nat) (h1 : lo ≤ d) (h2 : d < hi) : Fr lo hi H (_root_.cJ H s sp d dp n) :=
  ⟨rfl, fun _ _ => rfl, fun o h => funext fun j => if_neg (fun z => by omega), fun _ _ => rfl⟩
theorem Fr.sA {lo hi : Nat} (H : AH) (p : Nat → Int32) (h1 : lo ≤ 82) (h2 : 82 < hi) : Fr lo hi H (_root_.sA H p) :=
  ⟨rfl, fun o h => funext fun j => if_neg (fun z => by omega), fun _ _ => rfl, fun _ _ => rfl⟩
theorem StL.fr {H H' : AH} {lo hi k : Nat} (h : StL H k) (f : Fr lo hi H H') (hk : k + 15 ≤ lo ∨ hi ≤ k) : StL H' k := by
  have r := fun j (hj : j < 15) => f.R (k + j) (by omega)
  have r0 := r 0 (by decide)
  have r6 := r 6 (by decide)
  have r9 := r 9 (by decide)
  have r12 := r 12 (by decide)
  rw [Nat.add_zero] at r0
  unfold StL
  simp only [f.kd, f.sz, r0, r6, r9, r12]
  exact h
theorem MoL.fr {H H' : AH} {lo hi : Nat} (h : MoL H) (f : Fr lo hi H H') (hk : hi ≤ 67 ∨ 67 < lo) : MoL H' := by
  refine ⟨fun i hi => ?_, fun q hq => ?_⟩
  · rw [f.kd, f.sz]; exact h.1 i hi
  · rw [f.R 67 (by omega)]; exact h.2 q hq
theorem WayC.fr {H H' : AH} {lo hi : Nat} {w : Option Nat} {L : List Cla} (h : WayC H w L) (f : Fr lo hi H H') (hh : hi ≤ 110) : WayC H' w L := by
  refine ⟨h.1, ?_⟩
  rcases h.2 with e | ⟨o, t, e, q1, q2, q3, q4, q5, q6, q7, q8, q9⟩
  · exact Or.inl e
  · refine Or.inr ⟨o, t, e, ?_, ?_, ?_, ?_, q5, ?_, ?_, q8, q9⟩
    · rw [f.kd]; exact q1
    · rw [f.R o (by omega)]; exact q2
    · rw [f.kd]; exact q3
    · rw [f.sz]; exact q4
    · rw [f.I t (by omega)]; exact q6
    · rw [f.I o (by omega)]; exact q7
theorem PrA.fr {H H' : AH} {lo hi o n : Nat} {a b : Nat → Int32} (h : PrA H o n a b) (f : Fr lo hi H H') (hk : o + 3 ≤ lo ∨ hi ≤ o) : PrA H' o n a b := by
  unfold PrA
  rw [f.I o (by omega), f.I (o + 1) (by omega), f.I (o + 2) (by omega)]
  exact h
theorem PlA.fr {H H' : AH} {lo hi o n : Nat} {a b : Nat → Int32} (h : PlA H o n a b) (f : Fr lo hi H H') (hk : o + 3 ≤ lo ∨ hi ≤ o) : PlA H' o n a b := by
  unfold PlA
  rw [f.I o (by omega), f.I (o + 1) (by omega), f.I (o + 2) (by omega)]
  exact h
theorem StA.fr {H H' : AH} {lo hi k : Nat} {A : AS} (h : StA H k A) (f : Fr lo hi H H') (hk : k + 15 ≤ lo ∨ hi ≤ k) (hh : hi ≤ 110) : StA H' k A := by
  have i := fun j (hj : j < 15) => f.I (k + j) (by omega)
  have i0 := i 0 (by decide)
  rw [Nat.add_zero] at i0
  refine ⟨h.lay.fr f hk, ?_, ?_, ?_, ?_, ?_, ?_, ?_, ?_, ?_, ?_, ?_, h.es.fr f (by omega), h.ep.fr f (by omega), h.eb.fr f (by omega)⟩
  · rw [i0]; exact h.nD
  · rw [i0]; exact h.nN
  · rw [i0]; exact h.nO
  · rw [i0]; exact h.nP
  · rw [i0]; exact h.nB
  · rw [i 1 (by decide)]; exact h.eK
  · rw [i 2 (by decide)]; exact h.eV
  · rw [i 3 (by decide)]; exact h.eR
  · rw [i 4 (by decide)]; exact h.eM
  · rw [i 5 (by decide)]; exact h.eW
  · rw [f.R k (by omega)]; exact h.eL.fr f hh
theorem WayM.fr {H H' : AH} {lo hi b : Nat} {L : List Cla} (h : WayM H L b) (f : Fr lo hi H H') (hk : hi ≤ 67 ∨ 110 ≤ lo) : WayM H' L b := by
  unfold WayM ClM
  rw [f.I 67 (by omega), f.I 74 (by omega), f.I 75 (by omega), f.I 76 (by omega), f.I 77 (by omega), f.I 78 (by omega), f.I 79 (by omega)]
  exact h
theorem MoA.fr {H H' : AH} {lo hi : Nat} {A : AS} (h : MoA H A) (f : Fr lo hi H H') (hk : hi ≤ 67 ∨ 110 ≤ lo) : MoA H' A := by
  have i := fun j (_ : 67 ≤ j) (_ : j < 110) => f.I j (by omega)
  refine ⟨h.lay.fr f (by omega), ?_, ?_, ?_, ?_, ?_, ?_, ?_, ?_, ?_, ?_, ?_, ?_, ?_, ?_, ?_, ?_, ?_⟩
  · rw [i 67 (by decide) (by decide)]; exact h.nD
  · rw [i 67 (by decide) (by decide)]; exact h.nN
  · rw [i 67 (by decide) (by decide)]; exact h.nO
  · rw [i 67 (by decide) (by decide)]; exact h.nP
  · rw [i 67 (by decide) (by decide)]; exact h.nB
  · rw [i 68 (by decide) (by decide)]; exact h.eK
  · rw [i 69 (by decide) (by decide)]; exact h.eV
  · rw [i 70 (by decide) (by decide)]; exact h.eR
  · rw [i 71 (by decide) (by decide)]; exact h.eM
  · rw [i 72 (by decide) (by decide)]; exact h.eW
  · obtain ⟨b, hb⟩ := h.eL
    exact ⟨b, hb.fr f hk⟩
  · rw [i 67 (by decide) (by decide)]; exact h.ns
  · rw [i 88 (by decide) (by decide), i 89 (by decide) (by decide)]; exact h.es
  · rw [i 67 (by decide) (by decide)]; exact h.np
  · rw [i 90 (by decide) (by decide), i 91 (by decide) (by decide)]; exact h.ep
  · rw [i 67 (by decide) (by decide)]; exact h.nb
  · rw [i 92 (by decide) (by decide), i 93 (by decide) (by decide)]; exact h.eb
