-- 65: the rest of both worlds; a call of the world
def XS : Type := (Nat) × (AS) × (Nat) × (Nat) × (Nat → Int32) × (Nat) × (Nat → Int32) × (Nat → Int32) × (Nat → Nat) × (Nat → Nat → Int64)
def XS.hI (A : XS) : Nat := A.1
def XS.I (A : XS) : AS := A.2.1
def XS.nw (A : XS) : Nat := A.2.2.1
def XS.tn (A : XS) : Nat := A.2.2.2.1
def XS.tx (A : XS) : Nat → Int32 := A.2.2.2.2.1
def XS.rn (A : XS) : Nat := A.2.2.2.2.2.1
def XS.rb (A : XS) : Nat → Int32 := A.2.2.2.2.2.2.1
def XS.ts (A : XS) : Nat → Int32 := A.2.2.2.2.2.2.2.1
def XS.tl (A : XS) : Nat → Nat := A.2.2.2.2.2.2.2.2.1
def XS.ti (A : XS) : Nat → Nat → Int64 := A.2.2.2.2.2.2.2.2.2
def XS.sethI (A : XS) (x : Nat) : XS := (x, A.2.1, A.2.2.1, A.2.2.2.1, A.2.2.2.2.1, A.2.2.2.2.2.1, A.2.2.2.2.2.2.1, A.2.2.2.2.2.2.2.1, A.2.2.2.2.2.2.2.2.1, A.2.2.2.2.2.2.2.2.2)
def XS.setI (A : XS) (x : AS) : XS := (A.1, x, A.2.2.1, A.2.2.2.1, A.2.2.2.2.1, A.2.2.2.2.2.1, A.2.2.2.2.2.2.1, A.2.2.2.2.2.2.2.1, A.2.2.2.2.2.2.2.2.1, A.2.2.2.2.2.2.2.2.2)
def XS.setnw (A : XS) (x : Nat) : XS := (A.1, A.2.1, x, A.2.2.2.1, A.2.2.2.2.1, A.2.2.2.2.2.1, A.2.2.2.2.2.2.1, A.2.2.2.2.2.2.2.1, A.2.2.2.2.2.2.2.2.1, A.2.2.2.2.2.2.2.2.2)
def XS.settn (A : XS) (x : Nat) : XS := (A.1, A.2.1, A.2.2.1, x, A.2.2.2.2.1, A.2.2.2.2.2.1, A.2.2.2.2.2.2.1, A.2.2.2.2.2.2.2.1, A.2.2.2.2.2.2.2.2.1, A.2.2.2.2.2.2.2.2.2)
def XS.settx (A : XS) (x : Nat → Int32) : XS := (A.1, A.2.1, A.2.2.1, A.2.2.2.1, x, A.2.2.2.2.2.1, A.2.2.2.2.2.2.1, A.2.2.2.2.2.2.2.1, A.2.2.2.2.2.2.2.2.1, A.2.2.2.2.2.2.2.2.2)
def XS.setrn (A : XS) (x : Nat) : XS := (A.1, A.2.1, A.2.2.1, A.2.2.2.1, A.2.2.2.2.1, x, A.2.2.2.2.2.2.1, A.2.2.2.2.2.2.2.1, A.2.2.2.2.2.2.2.2.1, A.2.2.2.2.2.2.2.2.2)
def XS.setrb (A : XS) (x : Nat → Int32) : XS := (A.1, A.2.1, A.2.2.1, A.2.2.2.1, A.2.2.2.2.1, A.2.2.2.2.2.1, x, A.2.2.2.2.2.2.2.1, A.2.2.2.2.2.2.2.2.1, A.2.2.2.2.2.2.2.2.2)
def XS.setts (A : XS) (x : Nat → Int32) : XS := (A.1, A.2.1, A.2.2.1, A.2.2.2.1, A.2.2.2.2.1, A.2.2.2.2.2.1, A.2.2.2.2.2.2.1, x, A.2.2.2.2.2.2.2.2.1, A.2.2.2.2.2.2.2.2.2)
def XS.settl (A : XS) (x : Nat → Nat) : XS := (A.1, A.2.1, A.2.2.1, A.2.2.2.1, A.2.2.2.2.1, A.2.2.2.2.2.1, A.2.2.2.2.2.2.1, A.2.2.2.2.2.2.2.1, x, A.2.2.2.2.2.2.2.2.2)
def XS.setti (A : XS) (x : Nat → Nat → Int64) : XS := (A.1, A.2.1, A.2.2.1, A.2.2.2.1, A.2.2.2.2.1, A.2.2.2.2.2.1, A.2.2.2.2.2.2.1, A.2.2.2.2.2.2.2.1, A.2.2.2.2.2.2.2.2.1, x)
def CoR (H : AH) (X : XS) : Prop :=
  (aI H 0 3 = nI X.hI) ∧
  (X.hI = 1 → StA H 16 X.I) ∧
  (aI H 0 5 = nI X.nw) ∧
  (aI H 46 0 = nI X.tn) ∧
  (∀ i, i < X.tn → aI H 47 i = X.tx i) ∧
  (aI H 52 1 = nI X.rn) ∧
  (∀ i, i < X.rn → i < 20 → aI H 53 i = X.rb i) ∧
  (∀ j, j < 6 → aI H (55 + 2 * j) 0 = X.ts j) ∧
  (∀ j, j < 6 → aI H (55 + 2 * j) 1 = nI (X.tl j)) ∧
  (∀ j, j < 6 → ∀ i, i < X.tl j → aJ H (56 + 2 * j) i = X.ti j i) ∧
  (aN H = 110 + 2 * X.nw)
theorem CoR.hi {H : AH} {X : XS} (h : CoR H X) : aI H 0 3 = nI X.hI := h.1
theorem CoR.im {H : AH} {X : XS} (h : CoR H X) : X.hI = 1 → StA H 16 X.I := h.2.1
theorem CoR.nw {H : AH} {X : XS} (h : CoR H X) : aI H 0 5 = nI X.nw := h.2.2.1
theorem CoR.tn {H : AH} {X : XS} (h : CoR H X) : aI H 46 0 = nI X.tn := h.2.2.2.1
theorem CoR.tx {H : AH} {X : XS} (h : CoR H X) : ∀ i, i < X.tn → aI H 47 i = X.tx i := h.2.2.2.2.1
theorem CoR.rn {H : AH} {X : XS} (h : CoR H X) : aI H 52 1 = nI X.rn := h.2.2.2.2.2.1
theorem CoR.rb {H : AH} {X : XS} (h : CoR H X) : ∀ i, i < X.rn → i < 20 → aI H 53 i = X.rb i := h.2.2.2.2.2.2.1
theorem CoR.ts {H : AH} {X : XS} (h : CoR H X) : ∀ j, j < 6 → aI H (55 + 2 * j) 0 = X.ts j := h.2.2.2.2.2.2.2.1
theorem CoR.tl {H : AH} {X : XS} (h : CoR H X) : ∀ j, j < 6 → aI H (55 + 2 * j) 1 = nI (X.tl j) := h.2.2.2.2.2.2.2.2.1
theorem CoR.ti {H : AH} {X : XS} (h : CoR H X) : ∀ j, j < 6 → ∀ i, i < X.tl j → aJ H (56 + 2 * j) i = X.ti j i := h.2.2.2.2.2.2.2.2.2.1
theorem CoR.an {H : AH} {X : XS} (h : CoR H X) : aN H = 110 + 2 * X.nw := h.2.2.2.2.2.2.2.2.2.2
/-- the image of the reference -/
def ImA (H : AH) (A : AS) : Prop :=
  (aI H 67 47 = nI A.N) ∧
  (aI H 67 48 = nI A.O) ∧
  (aI H 67 49 = nI A.P) ∧
  (aI H 67 50 = nI A.B) ∧
  (aI H 67 51 = nI A.D) ∧
  (aI H 67 52 = nI A.sn) ∧
  (aI H 67 53 = nI A.pn) ∧
  (aI H 67 54 = nI A.bn) ∧
  (∀ i, i < 6 → aI H 94 i = A.K i) ∧
  (∀ i, i < 6 → aI H 95 i = A.V i) ∧
  (∀ i, i < 24 → aI H 96 i = A.R i) ∧
  (∀ i, i < 5 → aI H 97 i = A.M i) ∧
  (∀ i, i < 5 → aI H 98 i = A.W i) ∧
  (∀ i, i < A.sn → aI H 99 i = A.s1 i ∧ aI H 100 i = A.s2 i) ∧
  (∀ i, i < A.pn → aI H 101 i = A.p1 i ∧ (A.p1 i = 0 ∨ aI H 102 i = A.p2 i)) ∧
  (∀ i, i < A.bn → aI H 103 i = A.b1 i ∧ aI H 104 i = A.b2 i)
theorem ImA.nN {H : AH} {A : AS} (h : ImA H A) : aI H 67 47 = nI A.N := h.1
theorem ImA.nO {H : AH} {A : AS} (h : ImA H A) : aI H 67 48 = nI A.O := h.2.1
theorem ImA.nP {H : AH} {A : AS} (h : ImA H A) : aI H 67 49 = nI A.P := h.2.2.1
theorem ImA.nB {H : AH} {A : AS} (h : ImA H A) : aI H 67 50 = nI A.B := h.2.2.2.1
theorem ImA.nD {H : AH} {A : AS} (h : ImA H A) : aI H 67 51 = nI A.D := h.2.2.2.2.1
theorem ImA.ns {H : AH} {A : AS} (h : ImA H A) : aI H 67 52 = nI A.sn := h.2.2.2.2.2.1
theorem ImA.np {H : AH} {A : AS} (h : ImA H A) : aI H 67 53 = nI A.pn := h.2.2.2.2.2.2.1
theorem ImA.nb {H : AH} {A : AS} (h : ImA H A) : aI H 67 54 = nI A.bn := h.2.2.2.2.2.2.2.1
theorem ImA.eK {H : AH} {A : AS} (h : ImA H A) : ∀ i, i < 6 → aI H 94 i = A.K i := h.2.2.2.2.2.2.2.2.1
theorem ImA.eV {H : AH} {A : AS} (h : ImA H A) : ∀ i, i < 6 → aI H 95 i = A.V i := h.2.2.2.2.2.2.2.2.2.1
theorem ImA.eR {H : AH} {A : AS} (h : ImA H A) : ∀ i, i < 24 → aI H 96 i = A.R i := h.2.2.2.2.2.2.2.2.2.2.1
theorem ImA.eM {H : AH} {A : AS} (h : ImA H A) : ∀ i, i < 5 → aI H 97 i = A.M i := h.2.2.2.2.2.2.2.2.2.2.2.1
theorem ImA.eW {H : AH} {A : AS} (h : ImA H A) : ∀ i, i < 5 → aI H 98 i = A.W i := h.2.2.2.2.2.2.2.2.2.2.2.2.1
theorem ImA.es {H : AH} {A : AS} (h : ImA H A) : ∀ i, i < A.sn → aI H 99 i = A.s1 i ∧ aI H 100 i = A.s2 i := h.2.2.2.2.2.2.2.2.2.2.2.2.2.1
theorem ImA.ep {H : AH} {A : AS} (h : ImA H A) : ∀ i, i < A.pn → aI H 101 i = A.p1 i ∧ (A.p1 i = 0 ∨ aI H 102 i = A.p2 i) := h.2.2.2.2.2.2.2.2.2.2.2.2.2.2.1
theorem ImA.eb {H : AH} {A : AS} (h : ImA H A) : ∀ i, i < A.bn → aI H 103 i = A.b1 i ∧ aI H 104 i = A.b2 i := h.2.2.2.2.2.2.2.2.2.2.2.2.2.2.2
/-- a slot of the reference's ways -/
def ClZ (H : AH) (c lo : Nat) (q : Cla) : Prop := aI H 75 c = nI q.1 ∧ aI H 76 c = nI q.2.1 ∧ (q.1 ≤ 1 → ∃ b, lo ≤ b ∧ b + q.2.2.length ≤ lo + 100 ∧ aI H 77 c = nI b ∧ aI H 78 c = nI (b + q.2.2.length) ∧ ∀ j, j < q.2.2.length → aI H 79 (b + j) = enM (q.2.2.getD j 0))
def SlM (H : AH) (f : Nat) (L : List Cla) : Prop := (∀ q ∈ L, ClW q) ∧ L.length ≤ 10 ∧ aI H 74 f = nI L.length ∧ ∀ j, j < L.length → ClZ H (10 * f + j) (100 * f) (L.getD j (2, 0, []))
def Cur (Z : Nat → List Cla) (x : Int32) (L : List Cla) (n : Nat) : Prop := (x = -1 ∧ L = []) ∨ ∃ f, f < n ∧ x = nI f ∧ L = Z f
def RfR (H : AH) (L : List Cla) (X : XS) : Prop :=
  (aI H 67 45 = nI X.hI) ∧
  (X.hI = 1 → ImA H X.I) ∧
  (aI H 67 10 = nI X.nw) ∧
  (∃ Z : Nat → List Cla, (∀ f, f < X.nw → SlM H f (Z f)) ∧ Cur Z (aI H 67 11) L X.nw ∧ (X.hI = 1 → Cur Z (aI H 67 46) X.I.L X.nw)) ∧
  (aI H 67 12 = nI X.tn) ∧
  (∀ i, i < X.tn → aI H 73 i = X.tx i) ∧
  (∃ k o, aI H 67 24 = nI k ∧ aI H 67 25 = nI o) ∧
  (aI H 67 66 = nI X.rn) ∧
  (∀ i, i < X.rn → i < 20 → aI H 105 i = X.rb i) ∧
  (∀ j, j < 6 → aI H 106 j = X.ts j) ∧
  (∀ j, j < 6 → aI H 107 j = nI (X.tl j)) ∧
  (∀ j, j < 6 → ∀ i, i < X.tl j → aJ H 108 (60 * j + i) = X.ti j i) ∧
  (∀ i, i < 12 → aI H 81 i = letL.getD i 0)
theorem RfR.hi {H : AH} {L : List Cla} {X : XS} (h : RfR H L X) : aI H 67 45 = nI X.hI := h.1
theorem RfR.im {H : AH} {L : List Cla} {X : XS} (h : RfR H L X) : X.hI = 1 → ImA H X.I := h.2.1
theorem RfR.nw {H : AH} {L : List Cla} {X : XS} (h : RfR H L X) : aI H 67 10 = nI X.nw := h.2.2.1
theorem RfR.sl {H : AH} {L : List Cla} {X : XS} (h : RfR H L X) : ∃ Z : Nat → List Cla, (∀ f, f < X.nw → SlM H f (Z f)) ∧ Cur Z (aI H 67 11) L X.nw ∧ (X.hI = 1 → Cur Z (aI H 67 46) X.I.L X.nw) := h.2.2.2.1
theorem RfR.tn {H : AH} {L : List Cla} {X : XS} (h : RfR H L X) : aI H 67 12 = nI X.tn := h.2.2.2.2.1
theorem RfR.tx {H : AH} {L : List Cla} {X : XS} (h : RfR H L X) : ∀ i, i < X.tn → aI H 73 i = X.tx i := h.2.2.2.2.2.1
theorem RfR.ko {H : AH} {L : List Cla} {X : XS} (h : RfR H L X) : ∃ k o, aI H 67 24 = nI k ∧ aI H 67 25 = nI o := h.2.2.2.2.2.2.1
theorem RfR.rn {H : AH} {L : List Cla} {X : XS} (h : RfR H L X) : aI H 67 66 = nI X.rn := h.2.2.2.2.2.2.2.1
theorem RfR.rb {H : AH} {L : List Cla} {X : XS} (h : RfR H L X) : ∀ i, i < X.rn → i < 20 → aI H 105 i = X.rb i := h.2.2.2.2.2.2.2.2.1
theorem RfR.ts {H : AH} {L : List Cla} {X : XS} (h : RfR H L X) : ∀ j, j < 6 → aI H 106 j = X.ts j := h.2.2.2.2.2.2.2.2.2.1
theorem RfR.tl {H : AH} {L : List Cla} {X : XS} (h : RfR H L X) : ∀ j, j < 6 → aI H 107 j = nI (X.tl j) := h.2.2.2.2.2.2.2.2.2.2.1
theorem RfR.ti {H : AH} {L : List Cla} {X : XS} (h : RfR H L X) : ∀ j, j < 6 → ∀ i, i < X.tl j → aJ H 108 (60 * j + i) = X.ti j i := h.2.2.2.2.2.2.2.2.2.2.2.1
theorem RfR.le {H : AH} {L : List Cla} {X : XS} (h : RfR H L X) : ∀ i, i < 12 → aI H 81 i = letL.getD i 0 := h.2.2.2.2.2.2.2.2.2.2.2.2
def WfX (X : XS) : Prop :=
  (X.hI ≤ 1) ∧
  (X.hI = 1 → Wf X.I ∧ X.I.D ≤ 9999) ∧
  (X.nw ≤ 6) ∧
  (X.tn ≤ 100) ∧
  (∀ i, i < X.tn → ∃ m, m < 128 ∧ X.tx i = nI m) ∧
  (X.rn ≤ 20) ∧
  (∀ j, j < 6 → (X.ts j = -1 ∧ X.tl j = 0) ∨ ((∃ s, s ≤ 4 ∧ X.ts j = nI s) ∧ X.tl j ≤ 60))
theorem WfX.hI {X : XS} (h : WfX X) : X.hI ≤ 1 := h.1
theorem WfX.I {X : XS} (h : WfX X) : X.hI = 1 → Wf X.I ∧ X.I.D ≤ 9999 := h.2.1
theorem WfX.nw {X : XS} (h : WfX X) : X.nw ≤ 6 := h.2.2.1
theorem WfX.tn {X : XS} (h : WfX X) : X.tn ≤ 100 := h.2.2.2.1
theorem WfX.tx {X : XS} (h : WfX X) : ∀ i, i < X.tn → ∃ m, m < 128 ∧ X.tx i = nI m := h.2.2.2.2.1
theorem WfX.rn {X : XS} (h : WfX X) : X.rn ≤ 20 := h.2.2.2.2.2.1
theorem WfX.ts {X : XS} (h : WfX X) : ∀ j, j < 6 → (X.ts j = -1 ∧ X.tl j = 0) ∨ ((∃ s, s ≤ 4 ∧ X.ts j = nI s) ∧ X.tl j ≤ 60) := h.2.2.2.2.2.2
def Wd (H : AH) (A : AS) (X : XS) : Prop :=
  (StA H 1 A) ∧
  (CoL H) ∧
  (CoR H X) ∧
  (MoA H A) ∧
  (RfR H A.L X) ∧
  (Wf A) ∧
  (A.D ≤ 9999) ∧
  (WfX X)
theorem Wd.c {H : AH} {A : AS} {X : XS} (h : Wd H A X) : StA H 1 A := h.1
theorem Wd.l {H : AH} {A : AS} {X : XS} (h : Wd H A X) : CoL H := h.2.1
theorem Wd.r {H : AH} {A : AS} {X : XS} (h : Wd H A X) : CoR H X := h.2.2.1
theorem Wd.m {H : AH} {A : AS} {X : XS} (h : Wd H A X) : MoA H A := h.2.2.2.1
theorem Wd.s {H : AH} {A : AS} {X : XS} (h : Wd H A X) : RfR H A.L X := h.2.2.2.2.1
theorem Wd.w {H : AH} {A : AS} {X : XS} (h : Wd H A X) : Wf A := h.2.2.2.2.2.1
theorem Wd.d {H : AH} {A : AS} {X : XS} (h : Wd H A X) : A.D ≤ 9999 := h.2.2.2.2.2.2.1
theorem Wd.x {H : AH} {A : AS} {X : XS} (h : Wd H A X) : WfX X := h.2.2.2.2.2.2.2
/-- what a call of the rest may change, in the component and in the reference -/
def jRC (o i : Nat) : Prop := (o = 0 ∧ (i = 3 ∨ i = 5)) ∨ (16 ≤ o ∧ o ≤ 30) ∨ (46 ≤ o ∧ o ≤ 48) ∨ (52 ≤ o ∧ o ≤ 66)
def jRM (o i : Nat) : Prop := (o = 67 ∧ (i = 10 ∨ (12 ≤ i ∧ i ≤ 25) ∨ (45 ≤ i))) ∨ o = 73 ∨ o = 80 ∨ 94 ≤ o ∧ o < 110
theorem CoR.fr {J : Nat → Nat → Prop} {H H' : AH} {X : XS} (h : CoR H X) (f : Fr J H H') (hJ : ∀ o i, J o i → jC o i ∨ (67 ≤ o ∧ o < 110)) : CoR H' X := by
  have k : ∀ o i, J o i → ¬ (o = 0) ∧ ¬ (16 ≤ o ∧ o ≤ 30) ∧ ¬ (46 ≤ o ∧ o ≤ 48) ∧ ¬ (52 ≤ o ∧ o ≤ 66) := fun o i z => by
    have := hJ o i z
    unfold jC at this
    omega
  refine ⟨(f.I _ _ (fun z => by have := k _ _ z; omega)).trans h.hi, fun e => (h.im e).fr f (fun o i z => ⟨fun _ _ => by have := k _ _ z; omega, by have := hJ _ _ z; unfold jC at this; omega⟩), (f.I _ _ (fun z => by have := k _ _ z; omega)).trans h.nw, (f.I _ _ (fun z => by have := k _ _ z; omega)).trans h.tn, fun i hi => (f.I _ _ (fun z => by have := k _ _ z; omega)).trans (h.tx i hi), (f.I _ _ (fun z => by have := k _ _ z; omega)).trans h.rn, fun i hi h2 => (f.I _ _ (fun z => by have := k _ _ z; omega)).trans (h.rb i hi h2), fun j hj => (f.I _ _ (fun z => by have := k _ _ z; omega)).trans (h.ts j hj), fun j hj => (f.I _ _ (fun z => by have := k _ _ z; omega)).trans (h.tl j hj), fun j hj i hi => (f.Jq _ _ (fun z => by have := k _ _ z; omega)).trans (h.ti j hj i hi), f.anq.trans h.an⟩
theorem ImA.fr {J : Nat → Nat → Prop} {H H' : AH} {A : AS} (h : ImA H A) (f : Fr J H H') (hJ : ∀ o i, J o i → ¬ (o = 67 ∧ 46 ≤ i ∧ i ≤ 54) ∧ ¬ (94 ≤ o ∧ o ≤ 104)) : ImA H' A := by
  have g : ∀ o i, ((o = 67 ∧ 46 ≤ i ∧ i ≤ 54) ∨ (94 ≤ o ∧ o ≤ 104)) → aI H' o i = aI H o i := fun o i z => f.I o i (fun q => by have := hJ _ _ q; omega)
  exact ⟨(g _ _ (by omega)).trans h.nN, (g _ _ (by omega)).trans h.nO, (g _ _ (by omega)).trans h.nP, (g _ _ (by omega)).trans h.nB, (g _ _ (by omega)).trans h.nD, (g _ _ (by omega)).trans h.ns, (g _ _ (by omega)).trans h.np, (g _ _ (by omega)).trans h.nb, fun i hi => (g _ _ (by omega)).trans (h.eK i hi), fun i hi => (g _ _ (by omega)).trans (h.eV i hi), fun i hi => (g _ _ (by omega)).trans (h.eR i hi), fun i hi => (g _ _ (by omega)).trans (h.eM i hi), fun i hi => (g _ _ (by omega)).trans (h.eW i hi), fun i hi => ⟨(g _ _ (by omega)).trans (h.es i hi).1, (g _ _ (by omega)).trans (h.es i hi).2⟩, fun i hi => ⟨(g _ _ (by omega)).trans (h.ep i hi).1, (h.ep i hi).2.imp_right (fun e => (g _ _ (by omega)).trans e)⟩, fun i hi => ⟨(g _ _ (by omega)).trans (h.eb i hi).1, (g _ _ (by omega)).trans (h.eb i hi).2⟩⟩
theorem SlM.fr {J : Nat → Nat → Prop} {H H' : AH} {f : Nat} {L : List Cla} (h : SlM H f L) (fr : Fr J H H') (hJ : ∀ o i, J o i → ¬ (74 ≤ o ∧ o ≤ 79)) : SlM H' f L := by
  have g : ∀ o i, (74 ≤ o ∧ o ≤ 79) → aI H' o i = aI H o i := fun o i z => fr.I o i (fun q => hJ _ _ q z)
  refine ⟨h.1, h.2.1, (g _ _ (by omega)).trans h.2.2.1, fun j hj => ?_⟩
  obtain ⟨a1, a2, a3⟩ := h.2.2.2 j hj
  refine ⟨(g _ _ (by omega)).trans a1, (g _ _ (by omega)).trans a2, fun q => ?_⟩
  obtain ⟨b, b1, b2, b3, b4, b5⟩ := a3 q
  exact ⟨b, b1, b2, (g _ _ (by omega)).trans b3, (g _ _ (by omega)).trans b4, fun j hj => (g _ _ (by omega)).trans (b5 j hj)⟩
theorem RfR.fr {J : Nat → Nat → Prop} {H H' : AH} {L : List Cla} {X : XS} (h : RfR H L X) (f : Fr J H H') (hJ : ∀ o i, J o i → jM o i ∨ o < 67) : RfR H' L X := by
  have k : ∀ o i, J o i → ¬ (o = 67 ∧ ((10 ≤ i ∧ i ≤ 12) ∨ i = 24 ∨ i = 25 ∨ (45 ≤ i ∧ i ≤ 66))) ∧ ¬ (73 ≤ o ∧ o ≤ 79) ∧ ¬ o = 81 ∧ ¬ (94 ≤ o ∧ o ≤ 108) := fun o i z => by
    have := hJ o i z
    unfold jM at this
    omega
  obtain ⟨Z, z1, z2, z3⟩ := h.sl
  obtain ⟨k0, o0, k1, k2⟩ := h.ko
  have e11 : aI H' 67 11 = aI H 67 11 := f.I _ _ (fun z => by have := k _ _ z; omega)
  have e46 : aI H' 67 46 = aI H 67 46 := f.I _ _ (fun z => by have := k _ _ z; omega)
  exact ⟨(f.I _ _ (fun z => by have := k _ _ z; omega)).trans h.hi, fun e => (h.im e).fr f (fun o i z => by have := k _ _ z; omega), (f.I _ _ (fun z => by have := k _ _ z; omega)).trans h.nw, ⟨Z, fun g hg => (z1 g hg).fr f (fun o i z => by have := k _ _ z; omega), by rw [e11]; exact z2, fun e => by rw [e46]; exact z3 e⟩, (f.I _ _ (fun z => by have := k _ _ z; omega)).trans h.tn, fun i hi => (f.I _ _ (fun z => by have := k _ _ z; omega)).trans (h.tx i hi), ⟨k0, o0, (f.I _ _ (fun z => by have := k _ _ z; omega)).trans k1, (f.I _ _ (fun z => by have := k _ _ z; omega)).trans k2⟩, (f.I _ _ (fun z => by have := k _ _ z; omega)).trans h.rn, fun i hi h2 => (f.I _ _ (fun z => by have := k _ _ z; omega)).trans (h.rb i hi h2), fun j hj => (f.I _ _ (fun z => by have := k _ _ z; omega)).trans (h.ts j hj), fun j hj => (f.I _ _ (fun z => by have := k _ _ z; omega)).trans (h.tl j hj), fun j hj i hi => (f.Jq _ _ (fun z => by have := k _ _ z; omega)).trans (h.ti j hj i hi), fun i hi => (f.I _ _ (fun z => by have := k _ _ z; omega)).trans (h.le i hi)⟩
/-- both worlds answer a call alike, and stay alike -/
def Call (S : SC) (mc mm : Nat) (lc lm : List Value) : Prop := ∀ H A X d, Wd H A X → ∃ r H1 H2 A' X', (∀ Q, Wp S (d + 40) mc 0 lc [] H Q = Q (some r) H1) ∧ (∀ Q, Wp S (d + 40) mm 0 lm [] H1 Q = Q (some r) H2) ∧ kd H1 67 = 8 ∧ Wd H2 A' X'
theorem now_d {S : SC} {mc mm : Nat} {lc lm : List Value} (h : ∀ A, Wf A → A.D ≤ 9999 → NowD S A mc mm lc lm) : Call S mc mm lc lm := by
  intro H A X d W
  obtain ⟨r, A', w', eL, eD, hc, hm⟩ := h A W.w W.d
  obtain ⟨H1, a1, a2, a3⟩ := hc H W.c W.l d
  have m1 : MoA H1 A := W.m.fr a2 (fun o i z h1 h2 => by unfold jC at z; omega)
  obtain ⟨H2, b1, b2, b3⟩ := hm H1 m1 d
  refine ⟨r, H1, H2, A', X, a3, b3, mk_67 m1.lay, ⟨a1.fr b2 (fun o i z => ⟨fun _ _ => by unfold jM at z; omega, by unfold jM at z; omega⟩), (W.l.fr a2).fr b2, (W.r.fr a2 (fun o i z => Or.inl z)).fr b2 (fun o i z => Or.inr (by unfold jM at z; omega)), b1, ?_, w', eD, W.x⟩⟩
  rw [eL]
  exact (W.s.fr a2 (fun o i z => Or.inr (by unfold jC at z; omega))).fr b2 (fun o i z => Or.inl z)
theorem now_call {S : SC} {mc mm : Nat} {lc lm : List Value} (h : ∀ A, Wf A → A.D ≤ 9999 → Now S A mc mm lc lm) : Call S mc mm lc lm := now_d fun A w hD => by
  obtain ⟨r, A', w', eL, eD, hc, hm⟩ := h A w hD
  exact ⟨r, A', w', eL, by rw [eD]; exact hD, hc, hm⟩
def RestC (S : SC) (A : AS) (X X' : XS) (mc : Nat) (ls : List Value) (r : Value) : Prop := ∀ H, StA H 1 A → CoL H → CoR H X → ∀ d, ∃ H', CoR H' X' ∧ Fr jRC H H' ∧ ∀ Q, Wp S (d + 40) mc 0 ls [] H Q = Q (some r) H'
def RestM (S : SC) (A : AS) (X X' : XS) (mm : Nat) (ls : List Value) (r : Value) : Prop := ∀ H, MoA H A → RfR H A.L X → ∀ d, ∃ H', RfR H' A.L X' ∧ Fr jRM H H' ∧ ∀ Q, Wp S (d + 40) mm 0 ls [] H Q = Q (some r) H'
def Rest (S : SC) (A : AS) (X : XS) (mc mm : Nat) (lc lm : List Value) : Prop := ∃ r X', WfX X' ∧ RestC S A X X' mc lc r ∧ RestM S A X X' mm lm r
theorem rest_call {S : SC} {mc mm : Nat} {lc lm : List Value} (h : ∀ A X, Wf A → WfX X → Rest S A X mc mm lc lm) : Call S mc mm lc lm := by
  intro H A X d W
  obtain ⟨r, X', w', hc, hm⟩ := h A X W.w W.x
  obtain ⟨H1, a1, a2, a3⟩ := hc H W.c W.l W.r d
  have m1 : MoA H1 A := W.m.fr a2 (fun o i z h1 h2 => by unfold jRC at z; omega)
  have s1 : RfR H1 A.L X := W.s.fr a2 (fun o i z => Or.inr (by unfold jRC at z; omega))
  obtain ⟨H2, b1, b2, b3⟩ := hm H1 m1 s1 d
  exact ⟨r, H1, H2, A, X', a3, b3, mk_67 m1.lay, ⟨(W.c.fr a2 (fun o i z => ⟨fun _ _ => by unfold jRC at z; omega, by unfold jRC at z; omega⟩)).fr b2 (fun o i z => ⟨fun _ _ => by unfold jRM at z; omega, by unfold jRM at z; omega⟩), (W.l.fr a2).fr b2, a1.fr b2 (fun o i z => Or.inr (by unfold jRM at z; omega)), m1.fr b2 (fun o i z h1 h2 => by unfold jRM at z; omega), b1, W.w, W.d, w'⟩⟩
theorem rest_same {S : SC} {A : AS} {X : XS} {mc mm : Nat} {lc lm : List Value} (w : WfX X) (r : Value) (hc : ∀ H, StA H 1 A → CoL H → CoR H X → ∀ d Q, Wp S (d + 40) mc 0 lc [] H Q = Q (some r) H) (hm : ∀ H, MoA H A → RfR H A.L X → ∀ d Q, Wp S (d + 40) mm 0 lm [] H Q = Q (some r) H) : Rest S A X mc mm lc lm :=
  ⟨r, X, w, fun H h l c d => ⟨H, c, Fr.refl _ _, hc H h l c d⟩, fun H g s d => ⟨H, s, Fr.refl _ _, hm H g s d⟩⟩
