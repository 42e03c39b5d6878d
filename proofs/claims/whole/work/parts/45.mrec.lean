-- 45: the reference's text: its cells with the state of the reading in them (head printed)
def MS : Type := (Nat) × (Int32) × (Nat) × (Nat) × (Nat) × (Nat → Int32) × (Nat → Int32) × (Nat → Int32) × (Nat → Int32) × (Nat → Int32) × (Nat → Int32) × (Nat → Int32)
def MS.p (A : MS) : Nat := A.1
def MS.g (A : MS) : Int32 := A.2.1
def MS.n (A : MS) : Nat := A.2.2.1
def MS.k (A : MS) : Nat := A.2.2.2.1
def MS.o (A : MS) : Nat := A.2.2.2.2.1
def MS.W (A : MS) : Nat → Int32 := A.2.2.2.2.2.1
def MS.f (A : MS) : Nat → Int32 := A.2.2.2.2.2.2.1
def MS.wd (A : MS) : Nat → Int32 := A.2.2.2.2.2.2.2.1
def MS.nu (A : MS) : Nat → Int32 := A.2.2.2.2.2.2.2.2.1
def MS.fr (A : MS) : Nat → Int32 := A.2.2.2.2.2.2.2.2.2.1
def MS.to (A : MS) : Nat → Int32 := A.2.2.2.2.2.2.2.2.2.2.1
def MS.cl (A : MS) : Nat → Int32 := A.2.2.2.2.2.2.2.2.2.2.2
def MS.setp (A : MS) (x : Nat) : MS := (x, A.2.1, A.2.2.1, A.2.2.2.1, A.2.2.2.2.1, A.2.2.2.2.2.1, A.2.2.2.2.2.2.1, A.2.2.2.2.2.2.2.1, A.2.2.2.2.2.2.2.2.1, A.2.2.2.2.2.2.2.2.2.1, A.2.2.2.2.2.2.2.2.2.2.1, A.2.2.2.2.2.2.2.2.2.2.2)
def MS.setg (A : MS) (x : Int32) : MS := (A.1, x, A.2.2.1, A.2.2.2.1, A.2.2.2.2.1, A.2.2.2.2.2.1, A.2.2.2.2.2.2.1, A.2.2.2.2.2.2.2.1, A.2.2.2.2.2.2.2.2.1, A.2.2.2.2.2.2.2.2.2.1, A.2.2.2.2.2.2.2.2.2.2.1, A.2.2.2.2.2.2.2.2.2.2.2)
def MS.setn (A : MS) (x : Nat) : MS := (A.1, A.2.1, x, A.2.2.2.1, A.2.2.2.2.1, A.2.2.2.2.2.1, A.2.2.2.2.2.2.1, A.2.2.2.2.2.2.2.1, A.2.2.2.2.2.2.2.2.1, A.2.2.2.2.2.2.2.2.2.1, A.2.2.2.2.2.2.2.2.2.2.1, A.2.2.2.2.2.2.2.2.2.2.2)
def MS.setk (A : MS) (x : Nat) : MS := (A.1, A.2.1, A.2.2.1, x, A.2.2.2.2.1, A.2.2.2.2.2.1, A.2.2.2.2.2.2.1, A.2.2.2.2.2.2.2.1, A.2.2.2.2.2.2.2.2.1, A.2.2.2.2.2.2.2.2.2.1, A.2.2.2.2.2.2.2.2.2.2.1, A.2.2.2.2.2.2.2.2.2.2.2)
def MS.seto (A : MS) (x : Nat) : MS := (A.1, A.2.1, A.2.2.1, A.2.2.2.1, x, A.2.2.2.2.2.1, A.2.2.2.2.2.2.1, A.2.2.2.2.2.2.2.1, A.2.2.2.2.2.2.2.2.1, A.2.2.2.2.2.2.2.2.2.1, A.2.2.2.2.2.2.2.2.2.2.1, A.2.2.2.2.2.2.2.2.2.2.2)
def MS.setW (A : MS) (x : Nat → Int32) : MS := (A.1, A.2.1, A.2.2.1, A.2.2.2.1, A.2.2.2.2.1, x, A.2.2.2.2.2.2.1, A.2.2.2.2.2.2.2.1, A.2.2.2.2.2.2.2.2.1, A.2.2.2.2.2.2.2.2.2.1, A.2.2.2.2.2.2.2.2.2.2.1, A.2.2.2.2.2.2.2.2.2.2.2)
def MS.setf (A : MS) (x : Nat → Int32) : MS := (A.1, A.2.1, A.2.2.1, A.2.2.2.1, A.2.2.2.2.1, A.2.2.2.2.2.1, x, A.2.2.2.2.2.2.2.1, A.2.2.2.2.2.2.2.2.1, A.2.2.2.2.2.2.2.2.2.1, A.2.2.2.2.2.2.2.2.2.2.1, A.2.2.2.2.2.2.2.2.2.2.2)
def MS.setwd (A : MS) (x : Nat → Int32) : MS := (A.1, A.2.1, A.2.2.1, A.2.2.2.1, A.2.2.2.2.1, A.2.2.2.2.2.1, A.2.2.2.2.2.2.1, x, A.2.2.2.2.2.2.2.2.1, A.2.2.2.2.2.2.2.2.2.1, A.2.2.2.2.2.2.2.2.2.2.1, A.2.2.2.2.2.2.2.2.2.2.2)
def MS.setnu (A : MS) (x : Nat → Int32) : MS := (A.1, A.2.1, A.2.2.1, A.2.2.2.1, A.2.2.2.2.1, A.2.2.2.2.2.1, A.2.2.2.2.2.2.1, A.2.2.2.2.2.2.2.1, x, A.2.2.2.2.2.2.2.2.2.1, A.2.2.2.2.2.2.2.2.2.2.1, A.2.2.2.2.2.2.2.2.2.2.2)
def MS.setfr (A : MS) (x : Nat → Int32) : MS := (A.1, A.2.1, A.2.2.1, A.2.2.2.1, A.2.2.2.2.1, A.2.2.2.2.2.1, A.2.2.2.2.2.2.1, A.2.2.2.2.2.2.2.1, A.2.2.2.2.2.2.2.2.1, x, A.2.2.2.2.2.2.2.2.2.2.1, A.2.2.2.2.2.2.2.2.2.2.2)
def MS.setto (A : MS) (x : Nat → Int32) : MS := (A.1, A.2.1, A.2.2.1, A.2.2.2.1, A.2.2.2.2.1, A.2.2.2.2.2.1, A.2.2.2.2.2.2.1, A.2.2.2.2.2.2.2.1, A.2.2.2.2.2.2.2.2.1, A.2.2.2.2.2.2.2.2.2.1, x, A.2.2.2.2.2.2.2.2.2.2.2)
def MS.setcl (A : MS) (x : Nat → Int32) : MS := (A.1, A.2.1, A.2.2.1, A.2.2.2.1, A.2.2.2.2.1, A.2.2.2.2.2.1, A.2.2.2.2.2.2.1, A.2.2.2.2.2.2.2.1, A.2.2.2.2.2.2.2.2.1, A.2.2.2.2.2.2.2.2.2.1, A.2.2.2.2.2.2.2.2.2.2.1, x)
def pS (H : AH) (s : MS) : AH := (H.1, fun a b => if a = 67 then (if b = 13 then nI s.p else if b = 14 then s.g else if b = 23 then nI s.n else if b = 24 then nI s.k else if b = 25 then nI s.o else H.2.1 67 b) else if a = 74 then s.cl b else if a = 75 then s.wd b else if a = 76 then s.nu b else if a = 77 then s.fr b else if a = 78 then s.to b else if a = 79 then s.f b else if a = 80 then s.W b else H.2.1 a b, H.2.2.1, H.2.2.2)
section REC
variable {H : AH} {s : MS}
theorem aI_pS (a b : Nat) : aI (pS H s) a b = if a = 67 then (if b = 13 then nI s.p else if b = 14 then s.g else if b = 23 then nI s.n else if b = 24 then nI s.k else if b = 25 then nI s.o else aI H 67 b) else if a = 74 then s.cl b else if a = 75 then s.wd b else if a = 76 then s.nu b else if a = 77 then s.fr b else if a = 78 then s.to b else if a = 79 then s.f b else if a = 80 then s.W b else aI H a b := rfl
theorem kd_pS (o : Nat) : kd (pS H s) o = kd H o := rfl
theorem sz_pS (o : Nat) : sz (pS H s) o = sz H o := rfl
theorem aR_pS : aR (pS H s) = aR H := rfl
theorem aJ_pS : aJ (pS H s) = aJ H := rfl
theorem pS_13 : aI (pS H s) 67 13 = nI s.p := rfl
theorem pS_14 : aI (pS H s) 67 14 = s.g := rfl
theorem pS_23 : aI (pS H s) 67 23 = nI s.n := rfl
theorem pS_24 : aI (pS H s) 67 24 = nI s.k := rfl
theorem pS_25 : aI (pS H s) 67 25 = nI s.o := rfl
theorem pS_0 : aI (pS H s) 67 0 = aI H 67 0 := rfl
theorem pS_1 : aI (pS H s) 67 1 = aI H 67 1 := rfl
theorem pS_2 : aI (pS H s) 67 2 = aI H 67 2 := rfl
theorem pS_3 : aI (pS H s) 67 3 = aI H 67 3 := rfl
theorem pS_4 : aI (pS H s) 67 4 = aI H 67 4 := rfl
theorem pS_10 : aI (pS H s) 67 10 = aI H 67 10 := rfl
theorem pS_11 : aI (pS H s) 67 11 = aI H 67 11 := rfl
theorem pS_12 : aI (pS H s) 67 12 = aI H 67 12 := rfl
theorem pS_74 (i : Nat) : aI (pS H s) 74 i = s.cl i := rfl
theorem pS_75 (i : Nat) : aI (pS H s) 75 i = s.wd i := rfl
theorem pS_76 (i : Nat) : aI (pS H s) 76 i = s.nu i := rfl
theorem pS_77 (i : Nat) : aI (pS H s) 77 i = s.fr i := rfl
theorem pS_78 (i : Nat) : aI (pS H s) 78 i = s.to i := rfl
theorem pS_79 (i : Nat) : aI (pS H s) 79 i = s.f i := rfl
theorem pS_80 (i : Nat) : aI (pS H s) 80 i = s.W i := rfl
theorem pS_73 (i : Nat) : aI (pS H s) 73 i = aI H 73 i := rfl
theorem pS_81 (i : Nat) : aI (pS H s) 81 i = aI H 81 i := rfl
theorem pS_set {s2 : MS} {k i : Nat} {v : Int32} (h : ∀ a b, (if a = k ∧ b = i then v else aI (pS H s) a b) = aI (pS H s2) a b) : sI (pS H s) k i v = pS H s2 := by
  show (H.1, (fun a b => if a = k ∧ b = i then v else aI (pS H s) a b), H.2.2.1, H.2.2.2) = (H.1, (fun a b => aI (pS H s2) a b), H.2.2.1, H.2.2.2)
  exact congrArg (fun f => (H.1, f, H.2.2.1, H.2.2.2)) (funext fun a => funext fun b => h a b)
theorem pSw_p {v' : Nat} : sI (pS H s) 67 13 (nI v') = pS H (s.setp v') := pS_set fun a b => by
  by_cases ha : a = 67
  · by_cases hb : b = 13
    · subst ha hb; rfl
    · rw [if_neg (fun z => hb z.2), aI_pS, aI_pS, if_pos ha, if_pos ha]
      simp only [if_neg hb] <;> rfl
  · rw [if_neg (fun z => ha z.1), aI_pS, aI_pS, if_neg ha, if_neg ha]; rfl
theorem pSw_g {v' : Int32} : sI (pS H s) 67 14 (v') = pS H (s.setg v') := pS_set fun a b => by
  by_cases ha : a = 67
  · by_cases hb : b = 14
    · subst ha hb; rfl
    · rw [if_neg (fun z => hb z.2), aI_pS, aI_pS, if_pos ha, if_pos ha]
      simp only [if_neg hb] <;> rfl
  · rw [if_neg (fun z => ha z.1), aI_pS, aI_pS, if_neg ha, if_neg ha]; rfl
theorem pSw_n {v' : Nat} : sI (pS H s) 67 23 (nI v') = pS H (s.setn v') := pS_set fun a b => by
  by_cases ha : a = 67
  · by_cases hb : b = 23
    · subst ha hb; rfl
    · rw [if_neg (fun z => hb z.2), aI_pS, aI_pS, if_pos ha, if_pos ha]
      simp only [if_neg hb] <;> rfl
  · rw [if_neg (fun z => ha z.1), aI_pS, aI_pS, if_neg ha, if_neg ha]; rfl
theorem pSw_k {v' : Nat} : sI (pS H s) 67 24 (nI v') = pS H (s.setk v') := pS_set fun a b => by
  by_cases ha : a = 67
  · by_cases hb : b = 24
    · subst ha hb; rfl
    · rw [if_neg (fun z => hb z.2), aI_pS, aI_pS, if_pos ha, if_pos ha]
      simp only [if_neg hb] <;> rfl
  · rw [if_neg (fun z => ha z.1), aI_pS, aI_pS, if_neg ha, if_neg ha]; rfl
theorem pSw_o {v' : Nat} : sI (pS H s) 67 25 (nI v') = pS H (s.seto v') := pS_set fun a b => by
  by_cases ha : a = 67
  · by_cases hb : b = 25
    · subst ha hb; rfl
    · rw [if_neg (fun z => hb z.2), aI_pS, aI_pS, if_pos ha, if_pos ha]
      simp only [if_neg hb] <;> rfl
  · rw [if_neg (fun z => ha z.1), aI_pS, aI_pS, if_neg ha, if_neg ha]; rfl
theorem pSw_cl {i : Nat} {v : Int32} : sI (pS H s) 74 i v = pS H (s.setcl (upd s.cl i v)) := pS_set fun a b => by
  by_cases ha : a = 74
  · subst ha
    by_cases hb : b = i
    · subst hb; rw [if_pos ⟨rfl, rfl⟩]; exact (pk_us (f := s.cl)).symm
    · rw [if_neg (fun z => hb z.2)]; exact (pk_un (f := s.cl) hb).symm
  · rw [if_neg (fun z => ha z.1), aI_pS, aI_pS]
    simp only [if_neg ha] <;> rfl
theorem pSw_wd {i : Nat} {v : Int32} : sI (pS H s) 75 i v = pS H (s.setwd (upd s.wd i v)) := pS_set fun a b => by
  by_cases ha : a = 75
  · subst ha
    by_cases hb : b = i
    · subst hb; rw [if_pos ⟨rfl, rfl⟩]; exact (pk_us (f := s.wd)).symm
    · rw [if_neg (fun z => hb z.2)]; exact (pk_un (f := s.wd) hb).symm
  · rw [if_neg (fun z => ha z.1), aI_pS, aI_pS]
    simp only [if_neg ha] <;> rfl
theorem pSw_nu {i : Nat} {v : Int32} : sI (pS H s) 76 i v = pS H (s.setnu (upd s.nu i v)) := pS_set fun a b => by
  by_cases ha : a = 76
  · subst ha
    by_cases hb : b = i
    · subst hb; rw [if_pos ⟨rfl, rfl⟩]; exact (pk_us (f := s.nu)).symm
    · rw [if_neg (fun z => hb z.2)]; exact (pk_un (f := s.nu) hb).symm
  · rw [if_neg (fun z => ha z.1), aI_pS, aI_pS]
    simp only [if_neg ha] <;> rfl
theorem pSw_fr {i : Nat} {v : Int32} : sI (pS H s) 77 i v = pS H (s.setfr (upd s.fr i v)) := pS_set fun a b => by
  by_cases ha : a = 77
  · subst ha
    by_cases hb : b = i
    · subst hb; rw [if_pos ⟨rfl, rfl⟩]; exact (pk_us (f := s.fr)).symm
    · rw [if_neg (fun z => hb z.2)]; exact (pk_un (f := s.fr) hb).symm
  · rw [if_neg (fun z => ha z.1), aI_pS, aI_pS]
    simp only [if_neg ha] <;> rfl
theorem pSw_to {i : Nat} {v : Int32} : sI (pS H s) 78 i v = pS H (s.setto (upd s.to i v)) := pS_set fun a b => by
  by_cases ha : a = 78
  · subst ha
    by_cases hb : b = i
    · subst hb; rw [if_pos ⟨rfl, rfl⟩]; exact (pk_us (f := s.to)).symm
    · rw [if_neg (fun z => hb z.2)]; exact (pk_un (f := s.to) hb).symm
  · rw [if_neg (fun z => ha z.1), aI_pS, aI_pS]
    simp only [if_neg ha] <;> rfl
theorem pSw_f {i : Nat} {v : Int32} : sI (pS H s) 79 i v = pS H (s.setf (upd s.f i v)) := pS_set fun a b => by
  by_cases ha : a = 79
  · subst ha
    by_cases hb : b = i
    · subst hb; rw [if_pos ⟨rfl, rfl⟩]; exact (pk_us (f := s.f)).symm
    · rw [if_neg (fun z => hb z.2)]; exact (pk_un (f := s.f) hb).symm
  · rw [if_neg (fun z => ha z.1), aI_pS, aI_pS]
    simp only [if_neg ha] <;> rfl
theorem pSw_W {i : Nat} {v : Int32} : sI (pS H s) 80 i v = pS H (s.setW (upd s.W i v)) := pS_set fun a b => by
  by_cases ha : a = 80
  · subst ha
    by_cases hb : b = i
    · subst hb; rw [if_pos ⟨rfl, rfl⟩]; exact (pk_us (f := s.W)).symm
    · rw [if_neg (fun z => hb z.2)]; exact (pk_un (f := s.W) hb).symm
  · rw [if_neg (fun z => ha z.1), aI_pS, aI_pS]
    simp only [if_neg ha] <;> rfl
end REC
