-- 26: what both worlds hold, as one state
def AS : Type := (Nat) × (Nat) × (Nat) × (Nat) × (Nat) × (Nat → Int32) × (Nat → Int32) × (Nat → Int32) × (Nat → Int32) × (Nat → Int32) × (Nat) × (Nat → Int32) × (Nat → Int32) × (Nat) × (Nat → Int32) × (Nat → Int32) × (Nat) × (Nat → Int32) × (Nat → Int32) × (List Cla)
def AS.N (A : AS) : Nat := A.1
def AS.P (A : AS) : Nat := A.2.1
def AS.D (A : AS) : Nat := A.2.2.1
def AS.O (A : AS) : Nat := A.2.2.2.1
def AS.B (A : AS) : Nat := A.2.2.2.2.1
def AS.K (A : AS) : Nat → Int32 := A.2.2.2.2.2.1
def AS.V (A : AS) : Nat → Int32 := A.2.2.2.2.2.2.1
def AS.R (A : AS) : Nat → Int32 := A.2.2.2.2.2.2.2.1
def AS.M (A : AS) : Nat → Int32 := A.2.2.2.2.2.2.2.2.1
def AS.W (A : AS) : Nat → Int32 := A.2.2.2.2.2.2.2.2.2.1
def AS.sn (A : AS) : Nat := A.2.2.2.2.2.2.2.2.2.2.1
def AS.s1 (A : AS) : Nat → Int32 := A.2.2.2.2.2.2.2.2.2.2.2.1
def AS.s2 (A : AS) : Nat → Int32 := A.2.2.2.2.2.2.2.2.2.2.2.2.1
def AS.pn (A : AS) : Nat := A.2.2.2.2.2.2.2.2.2.2.2.2.2.1
def AS.p1 (A : AS) : Nat → Int32 := A.2.2.2.2.2.2.2.2.2.2.2.2.2.2.1
def AS.p2 (A : AS) : Nat → Int32 := A.2.2.2.2.2.2.2.2.2.2.2.2.2.2.2.1
def AS.bn (A : AS) : Nat := A.2.2.2.2.2.2.2.2.2.2.2.2.2.2.2.2.1
def AS.b1 (A : AS) : Nat → Int32 := A.2.2.2.2.2.2.2.2.2.2.2.2.2.2.2.2.2.1
def AS.b2 (A : AS) : Nat → Int32 := A.2.2.2.2.2.2.2.2.2.2.2.2.2.2.2.2.2.2.1
def AS.L (A : AS) : List Cla := A.2.2.2.2.2.2.2.2.2.2.2.2.2.2.2.2.2.2.2
def AS.setN (A : AS) (x : Nat) : AS := (x, A.2.1, A.2.2.1, A.2.2.2.1, A.2.2.2.2.1, A.2.2.2.2.2.1, A.2.2.2.2.2.2.1, A.2.2.2.2.2.2.2.1, A.2.2.2.2.2.2.2.2.1, A.2.2.2.2.2.2.2.2.2.1, A.2.2.2.2.2.2.2.2.2.2.1, A.2.2.2.2.2.2.2.2.2.2.2.1, A.2.2.2.2.2.2.2.2.2.2.2.2.1, A.2.2.2.2.2.2.2.2.2.2.2.2.2.1, A.2.2.2.2.2.2.2.2.2.2.2.2.2.2.1, A.2.2.2.2.2.2.2.2.2.2.2.2.2.2.2.1, A.2.2.2.2.2.2.2.2.2.2.2.2.2.2.2.2.1, A.2.2.2.2.2.2.2.2.2.2.2.2.2.2.2.2.2.1, A.2.2.2.2.2.2.2.2.2.2.2.2.2.2.2.2.2.2.1, A.2.2.2.2.2.2.2.2.2.2.2.2.2.2.2.2.2.2.2)
def AS.setP (A : AS) (x : Nat) : AS := (A.1, x, A.2.2.1, A.2.2.2.1, A.2.2.2.2.1, A.2.2.2.2.2.1, A.2.2.2.2.2.2.1, A.2.2.2.2.2.2.2.1, A.2.2.2.2.2.2.2.2.1, A.2.2.2.2.2.2.2.2.2.1, A.2.2.2.2.2.2.2.2.2.2.1, A.2.2.2.2.2.2.2.2.2.2.2.1, A.2.2.2.2.2.2.2.2.2.2.2.2.1, A.2.2.2.2.2.2.2.2.2.2.2.2.2.1, A.2.2.2.2.2.2.2.2.2.2.2.2.2.2.1, A.2.2.2.2.2.2.2.2.2.2.2.2.2.2.2.1, A.2.2.2.2.2.2.2.2.2.2.2.2.2.2.2.2.1, A.2.2.2.2.2.2.2.2.2.2.2.2.2.2.2.2.2.1, A.2.2.2.2.2.2.2.2.2.2.2.2.2.2.2.2.2.2.1, A.2.2.2.2.2.2.2.2.2.2.2.2.2.2.2.2.2.2.2)
def AS.setD (A : AS) (x : Nat) : AS := (A.1, A.2.1, x, A.2.2.2.1, A.2.2.2.2.1, A.2.2.2.2.2.1, A.2.2.2.2.2.2.1, A.2.2.2.2.2.2.2.1, A.2.2.2.2.2.2.2.2.1, A.2.2.2.2.2.2.2.2.2.1, A.2.2.2.2.2.2.2.2.2.2.1, A.2.2.2.2.2.2.2.2.2.2.2.1, A.2.2.2.2.2.2.2.2.2.2.2.2.1, A.2.2.2.2.2.2.2.2.2.2.2.2.2.1, A.2.2.2.2.2.2.2.2.2.2.2.2.2.2.1, A.2.2.2.2.2.2.2.2.2.2.2.2.2.2.2.1, A.2.2.2.2.2.2.2.2.2.2.2.2.2.2.2.2.1, A.2.2.2.2.2.2.2.2.2.2.2.2.2.2.2.2.2.1, A.2.2.2.2.2.2.2.2.2.2.2.2.2.2.2.2.2.2.1, A.2.2.2.2.2.2.2.2.2.2.2.2.2.2.2.2.2.2.2)
def AS.setO (A : AS) (x : Nat) : AS := (A.1, A.2.1, A.2.2.1, x, A.2.2.2.2.1, A.2.2.2.2.2.1, A.2.2.2.2.2.2.1, A.2.2.2.2.2.2.2.1, A.2.2.2.2.2.2.2.2.1, A.2.2.2.2.2.2.2.2.2.1, A.2.2.2.2.2.2.2.2.2.2.1, A.2.2.2.2.2.2.2.2.2.2.2.1, A.2.2.2.2.2.2.2.2.2.2.2.2.1, A.2.2.2.2.2.2.2.2.2.2.2.2.2.1, A.2.2.2.2.2.2.2.2.2.2.2.2.2.2.1, A.2.2.2.2.2.2.2.2.2.2.2.2.2.2.2.1, A.2.2.2.2.2.2.2.2.2.2.2.2.2.2.2.2.1, A.2.2.2.2.2.2.2.2.2.2.2.2.2.2.2.2.2.1, A.2.2.2.2.2.2.2.2.2.2.2.2.2.2.2.2.2.2.1, A.2.2.2.2.2.2.2.2.2.2.2.2.2.2.2.2.2.2.2)
def AS.setB (A : AS) (x : Nat) : AS := (A.1, A.2.1, A.2.2.1, A.2.2.2.1, x, A.2.2.2.2.2.1, A.2.2.2.2.2.2.1, A.2.2.2.2.2.2.2.1, A.2.2.2.2.2.2.2.2.1, A.2.2.2.2.2.2.2.2.2.1, A.2.2.2.2.2.2.2.2.2.2.1, A.2.2.2.2.2.2.2.2.2.2.2.1, A.2.2.2.2.2.2.2.2.2.2.2.2.1, A.2.2.2.2.2.2.2.2.2.2.2.2.2.1, A.2.2.2.2.2.2.2.2.2.2.2.2.2.2.1, A.2.2.2.2.2.2.2.2.2.2.2.2.2.2.2.1, A.2.2.2.2.2.2.2.2.2.2.2.2.2.2.2.2.1, A.2.2.2.2.2.2.2.2.2.2.2.2.2.2.2.2.2.1, A.2.2.2.2.2.2.2.2.2.2.2.2.2.2.2.2.2.2.1, A.2.2.2.2.2.2.2.2.2.2.2.2.2.2.2.2.2.2.2)
def AS.setK (A : AS) (x : Nat → Int32) : AS := (A.1, A.2.1, A.2.2.1, A.2.2.2.1, A.2.2.2.2.1, x, A.2.2.2.2.2.2.1, A.2.2.2.2.2.2.2.1, A.2.2.2.2.2.2.2.2.1, A.2.2.2.2.2.2.2.2.2.1, A.2.2.2.2.2.2.2.2.2.2.1, A.2.2.2.2.2.2.2.2.2.2.2.1, A.2.2.2.2.2.2.2.2.2.2.2.2.1, A.2.2.2.2.2.2.2.2.2.2.2.2.2.1, A.2.2.2.2.2.2.2.2.2.2.2.2.2.2.1, A.2.2.2.2.2.2.2.2.2.2.2.2.2.2.2.1, A.2.2.2.2.2.2.2.2.2.2.2.2.2.2.2.2.1, A.2.2.2.2.2.2.2.2.2.2.2.2.2.2.2.2.2.1, A.2.2.2.2.2.2.2.2.2.2.2.2.2.2.2.2.2.2.1, A.2.2.2.2.2.2.2.2.2.2.2.2.2.2.2.2.2.2.2)
def AS.setV (A : AS) (x : Nat → Int32) : AS := (A.1, A.2.1, A.2.2.1, A.2.2.2.1, A.2.2.2.2.1, A.2.2.2.2.2.1, x, A.2.2.2.2.2.2.2.1, A.2.2.2.2.2.2.2.2.1, A.2.2.2.2.2.2.2.2.2.1, A.2.2.2.2.2.2.2.2.2.2.1, A.2.2.2.2.2.2.2.2.2.2.2.1, A.2.2.2.2.2.2.2.2.2.2.2.2.1, A.2.2.2.2.2.2.2.2.2.2.2.2.2.1, A.2.2.2.2.2.2.2.2.2.2.2.2.2.2.1, A.2.2.2.2.2.2.2.2.2.2.2.2.2.2.2.1, A.2.2.2.2.2.2.2.2.2.2.2.2.2.2.2.2.1, A.2.2.2.2.2.2.2.2.2.2.2.2.2.2.2.2.2.1, A.2.2.2.2.2.2.2.2.2.2.2.2.2.2.2.2.2.2.1, A.2.2.2.2.2.2.2.2.2.2.2.2.2.2.2.2.2.2.2)
def AS.setR (A : AS) (x : Nat → Int32) : AS := (A.1, A.2.1, A.2.2.1, A.2.2.2.1, A.2.2.2.2.1, A.2.2.2.2.2.1, A.2.2.2.2.2.2.1, x, A.2.2.2.2.2.2.2.2.1, A.2.2.2.2.2.2.2.2.2.1, A.2.2.2.2.2.2.2.2.2.2.1, A.2.2.2.2.2.2.2.2.2.2.2.1, A.2.2.2.2.2.2.2.2.2.2.2.2.1, A.2.2.2.2.2.2.2.2.2.2.2.2.2.1, A.2.2.2.2.2.2.2.2.2.2.2.2.2.2.1, A.2.2.2.2.2.2.2.2.2.2.2.2.2.2.2.1, A.2.2.2.2.2.2.2.2.2.2.2.2.2.2.2.2.1, A.2.2.2.2.2.2.2.2.2.2.2.2.2.2.2.2.2.1, A.2.2.2.2.2.2.2.2.2.2.2.2.2.2.2.2.2.2.1, A.2.2.2.2.2.2.2.2.2.2.2.2.2.2.2.2.2.2.2)
def AS.setM (A : AS) (x : Nat → Int32) : AS := (A.1, A.2.1, A.2.2.1, A.2.2.2.1, A.2.2.2.2.1, A.2.2.2.2.2.1, A.2.2.2.2.2.2.1, A.2.2.2.2.2.2.2.1, x, A.2.2.2.2.2.2.2.2.2.1, A.2.2.2.2.2.2.2.2.2.2.1, A.2.2.2.2.2.2.2.2.2.2.2.1, A.2.2.2.2.2.2.2.2.2.2.2.2.1, A.2.2.2.2.2.2.2.2.2.2.2.2.2.1, A.2.2.2.2.2.2.2.2.2.2.2.2.2.2.1, A.2.2.2.2.2.2.2.2.2.2.2.2.2.2.2.1, A.2.2.2.2.2.2.2.2.2.2.2.2.2.2.2.2.1, A.2.2.2.2.2.2.2.2.2.2.2.2.2.2.2.2.2.1, A.2.2.2.2.2.2.2.2.2.2.2.2.2.2.2.2.2.2.1, A.2.2.2.2.2.2.2.2.2.2.2.2.2.2.2.2.2.2.2)
def AS.setW (A : AS) (x : Nat → Int32) : AS := (A.1, A.2.1, A.2.2.1, A.2.2.2.1, A.2.2.2.2.1, A.2.2.2.2.2.1, A.2.2.2.2.2.2.1, A.2.2.2.2.2.2.2.1, A.2.2.2.2.2.2.2.2.1, x, A.2.2.2.2.2.2.2.2.2.2.1, A.2.2.2.2.2.2.2.2.2.2.2.1, A.2.2.2.2.2.2.2.2.2.2.2.2.1, A.2.2.2.2.2.2.2.2.2.2.2.2.2.1, A.2.2.2.2.2.2.2.2.2.2.2.2.2.2.1, A.2.2.2.2.2.2.2.2.2.2.2.2.2.2.2.1, A.2.2.2.2.2.2.2.2.2.2.2.2.2.2.2.2.1, A.2.2.2.2.2.2.2.2.2.2.2.2.2.2.2.2.2.1, A.2.2.2.2.2.2.2.2.2.2.2.2.2.2.2.2.2.2.1, A.2.2.2.2.2.2.2.2.2.2.2.2.2.2.2.2.2.2.2)
def AS.setsn (A : AS) (x : Nat) : AS := (A.1, A.2.1, A.2.2.1, A.2.2.2.1, A.2.2.2.2.1, A.2.2.2.2.2.1, A.2.2.2.2.2.2.1, A.2.2.2.2.2.2.2.1, A.2.2.2.2.2.2.2.2.1, A.2.2.2.2.2.2.2.2.2.1, x, A.2.2.2.2.2.2.2.2.2.2.2.1, A.2.2.2.2.2.2.2.2.2.2.2.2.1, A.2.2.2.2.2.2.2.2.2.2.2.2.2.1, A.2.2.2.2.2.2.2.2.2.2.2.2.2.2.1, A.2.2.2.2.2.2.2.2.2.2.2.2.2.2.2.1, A.2.2.2.2.2.2.2.2.2.2.2.2.2.2.2.2.1, A.2.2.2.2.2.2.2.2.2.2.2.2.2.2.2.2.2.1, A.2.2.2.2.2.2.2.2.2.2.2.2.2.2.2.2.2.2.1, A.2.2.2.2.2.2.2.2.2.2.2.2.2.2.2.2.2.2.2)
def AS.sets1 (A : AS) (x : Nat → Int32) : AS := (A.1, A.2.1, A.2.2.1, A.2.2.2.1, A.2.2.2.2.1, A.2.2.2.2.2.1, A.2.2.2.2.2.2.1, A.2.2.2.2.2.2.2.1, A.2.2.2.2.2.2.2.2.1, A.2.2.2.2.2.2.2.2.2.1, A.2.2.2.2.2.2.2.2.2.2.1, x, A.2.2.2.2.2.2.2.2.2.2.2.2.1, A.2.2.2.2.2.2.2.2.2.2.2.2.2.1, A.2.2.2.2.2.2.2.2.2.2.2.2.2.2.1, A.2.2.2.2.2.2.2.2.2.2.2.2.2.2.2.1, A.2.2.2.2.2.2.2.2.2.2.2.2.2.2.2.2.1, A.2.2.2.2.2.2.2.2.2.2.2.2.2.2.2.2.2.1, A.2.2.2.2.2.2.2.2.2.2.2.2.2.2.2.2.2.2.1, A.2.2.2.2.2.2.2.2.2.2.2.2.2.2.2.2.2.2.2)
def AS.sets2 (A : AS) (x : Nat → Int32) : AS := (A.1, A.2.1, A.2.2.1, A.2.2.2.1, A.2.2.2.2.1, A.2.2.2.2.2.1, A.2.2.2.2.2.2.1, A.2.2.2.2.2.2.2.1, A.2.2.2.2.2.2.2.2.1, A.2.2.2.2.2.2.2.2.2.1, A.2.2.2.2.2.2.2.2.2.2.1, A.2.2.2.2.2.2.2.2.2.2.2.1, x, A.2.2.2.2.2.2.2.2.2.2.2.2.2.1, A.2.2.2.2.2.2.2.2.2.2.2.2.2.2.1, A.2.2.2.2.2.2.2.2.2.2.2.2.2.2.2.1, A.2.2.2.2.2.2.2.2.2.2.2.2.2.2.2.2.1, A.2.2.2.2.2.2.2.2.2.2.2.2.2.2.2.2.2.1, A.2.2.2.2.2.2.2.2.2.2.2.2.2.2.2.2.2.2.1, A.2.2.2.2.2.2.2.2.2.2.2.2.2.2.2.2.2.2.2)
def AS.setpn (A : AS) (x : Nat) : AS := (A.1, A.2.1, A.2.2.1, A.2.2.2.1, A.2.2.2.2.1, A.2.2.2.2.2.1, A.2.2.2.2.2.2.1, A.2.2.2.2.2.2.2.1, A.2.2.2.2.2.2.2.2.1, A.2.2.2.2.2.2.2.2.2.1, A.2.2.2.2.2.2.2.2.2.2.1, A.2.2.2.2.2.2.2.2.2.2.2.1, A.2.2.2.2.2.2.2.2.2.2.2.2.1, x, A.2.2.2.2.2.2.2.2.2.2.2.2.2.2.1, A.2.2.2.2.2.2.2.2.2.2.2.2.2.2.2.1, A.2.2.2.2.2.2.2.2.2.2.2.2.2.2.2.2.1, A.2.2.2.2.2.2.2.2.2.2.2.2.2.2.2.2.2.1, A.2.2.2.2.2.2.2.2.2.2.2.2.2.2.2.2.2.2.1, A.2.2.2.2.2.2.2.2.2.2.2.2.2.2.2.2.2.2.2)
def AS.setp1 (A : AS) (x : Nat → Int32) : AS := (A.1, A.2.1, A.2.2.1, A.2.2.2.1, A.2.2.2.2.1, A.2.2.2.2.2.1, A.2.2.2.2.2.2.1, A.2.2.2.2.2.2.2.1, A.2.2.2.2.2.2.2.2.1, A.2.2.2.2.2.2.2.2.2.1, A.2.2.2.2.2.2.2.2.2.2.1, A.2.2.2.2.2.2.2.2.2.2.2.1, A.2.2.2.2.2.2.2.2.2.2.2.2.1, A.2.2.2.2.2.2.2.2.2.2.2.2.2.1, x, A.2.2.2.2.2.2.2.2.2.2.2.2.2.2.2.1, A.2.2.2.2.2.2.2.2.2.2.2.2.2.2.2.2.1, A.2.2.2.2.2.2.2.2.2.2.2.2.2.2.2.2.2.1, A.2.2.2.2.2.2.2.2.2.2.2.2.2.2.2.2.2.2.1, A.2.2.2.2.2.2.2.2.2.2.2.2.2.2.2.2.2.2.2)
def AS.setp2 (A : AS) (x : Nat → Int32) : AS := (A.1, A.2.1, A.2.2.1, A.2.2.2.1, A.2.2.2.2.1, A.2.2.2.2.2.1, A.2.2.2.2.2.2.1, A.2.2.2.2.2.2.2.1, A.2.2.2.2.2.2.2.2.1, A.2.2.2.2.2.2.2.2.2.1, A.2.2.2.2.2.2.2.2.2.2.1, A.2.2.2.2.2.2.2.2.2.2.2.1, A.2.2.2.2.2.2.2.2.2.2.2.2.1, A.2.2.2.2.2.2.2.2.2.2.2.2.2.1, A.2.2.2.2.2.2.2.2.2.2.2.2.2.2.1, x, A.2.2.2.2.2.2.2.2.2.2.2.2.2.2.2.2.1, A.2.2.2.2.2.2.2.2.2.2.2.2.2.2.2.2.2.1, A.2.2.2.2.2.2.2.2.2.2.2.2.2.2.2.2.2.2.1, A.2.2.2.2.2.2.2.2.2.2.2.2.2.2.2.2.2.2.2)
def AS.setbn (A : AS) (x : Nat) : AS := (A.1, A.2.1, A.2.2.1, A.2.2.2.1, A.2.2.2.2.1, A.2.2.2.2.2.1, A.2.2.2.2.2.2.1, A.2.2.2.2.2.2.2.1, A.2.2.2.2.2.2.2.2.1, A.2.2.2.2.2.2.2.2.2.1, A.2.2.2.2.2.2.2.2.2.2.1, A.2.2.2.2.2.2.2.2.2.2.2.1, A.2.2.2.2.2.2.2.2.2.2.2.2.1, A.2.2.2.2.2.2.2.2.2.2.2.2.2.1, A.2.2.2.2.2.2.2.2.2.2.2.2.2.2.1, A.2.2.2.2.2.2.2.2.2.2.2.2.2.2.2.1, x, A.2.2.2.2.2.2.2.2.2.2.2.2.2.2.2.2.2.1, A.2.2.2.2.2.2.2.2.2.2.2.2.2.2.2.2.2.2.1, A.2.2.2.2.2.2.2.2.2.2.2.2.2.2.2.2.2.2.2)
def AS.setb1 (A : AS) (x : Nat → Int32) : AS := (A.1, A.2.1, A.2.2.1, A.2.2.2.1, A.2.2.2.2.1, A.2.2.2.2.2.1, A.2.2.2.2.2.2.1, A.2.2.2.2.2.2.2.1, A.2.2.2.2.2.2.2.2.1, A.2.2.2.2.2.2.2.2.2.1, A.2.2.2.2.2.2.2.2.2.2.1, A.2.2.2.2.2.2.2.2.2.2.2.1, A.2.2.2.2.2.2.2.2.2.2.2.2.1, A.2.2.2.2.2.2.2.2.2.2.2.2.2.1, A.2.2.2.2.2.2.2.2.2.2.2.2.2.2.1, A.2.2.2.2.2.2.2.2.2.2.2.2.2.2.2.1, A.2.2.2.2.2.2.2.2.2.2.2.2.2.2.2.2.1, x, A.2.2.2.2.2.2.2.2.2.2.2.2.2.2.2.2.2.2.1, A.2.2.2.2.2.2.2.2.2.2.2.2.2.2.2.2.2.2.2)
def AS.setb2 (A : AS) (x : Nat → Int32) : AS := (A.1, A.2.1, A.2.2.1, A.2.2.2.1, A.2.2.2.2.1, A.2.2.2.2.2.1, A.2.2.2.2.2.2.1, A.2.2.2.2.2.2.2.1, A.2.2.2.2.2.2.2.2.1, A.2.2.2.2.2.2.2.2.2.1, A.2.2.2.2.2.2.2.2.2.2.1, A.2.2.2.2.2.2.2.2.2.2.2.1, A.2.2.2.2.2.2.2.2.2.2.2.2.1, A.2.2.2.2.2.2.2.2.2.2.2.2.2.1, A.2.2.2.2.2.2.2.2.2.2.2.2.2.2.1, A.2.2.2.2.2.2.2.2.2.2.2.2.2.2.2.1, A.2.2.2.2.2.2.2.2.2.2.2.2.2.2.2.2.1, A.2.2.2.2.2.2.2.2.2.2.2.2.2.2.2.2.2.1, x, A.2.2.2.2.2.2.2.2.2.2.2.2.2.2.2.2.2.2.2)
def AS.setL (A : AS) (x : List Cla) : AS := (A.1, A.2.1, A.2.2.1, A.2.2.2.1, A.2.2.2.2.1, A.2.2.2.2.2.1, A.2.2.2.2.2.2.1, A.2.2.2.2.2.2.2.1, A.2.2.2.2.2.2.2.2.1, A.2.2.2.2.2.2.2.2.2.1, A.2.2.2.2.2.2.2.2.2.2.1, A.2.2.2.2.2.2.2.2.2.2.2.1, A.2.2.2.2.2.2.2.2.2.2.2.2.1, A.2.2.2.2.2.2.2.2.2.2.2.2.2.1, A.2.2.2.2.2.2.2.2.2.2.2.2.2.2.1, A.2.2.2.2.2.2.2.2.2.2.2.2.2.2.2.1, A.2.2.2.2.2.2.2.2.2.2.2.2.2.2.2.2.1, A.2.2.2.2.2.2.2.2.2.2.2.2.2.2.2.2.2.1, A.2.2.2.2.2.2.2.2.2.2.2.2.2.2.2.2.2.2.1, x)
def isMk (x : Int32) : Prop := ∃ m, m < 256 ∧ x = nI m
def isPl (N P : Nat) (x y : Int32) : Prop := x = 0 ∨ ((x = 1 ∨ x = 2) ∧ ∃ l, l < N ∧ y = nI l) ∨ (x = 3 ∧ ∃ p, p < P ∧ y = nI p)
def Wf (A : AS) : Prop :=
  (A.N ≤ 6) ∧
  (A.P ≤ 5) ∧
  (A.D < 20000) ∧
  (A.O < 2 ^ A.N) ∧
  (A.B < 2 ^ A.P) ∧
  (∀ i, i < A.N → ∃ k, k ≤ 6 ∧ A.K i = nI k) ∧
  (∀ i, i < A.N → ∃ k, k ≤ 9 ∧ A.V i = nI k) ∧
  (∀ i, i < 24 → ∃ k, k ≤ 9 ∧ A.R i = nI k) ∧
  (∀ i, 4 * A.N ≤ i → i < 24 → A.R i = 0) ∧
  (∀ i, i < A.P → isMk (A.M i)) ∧
  (∀ i, i < A.P → ∃ k, k ≤ A.N ∧ A.W i = nI k) ∧
  (∀ i, A.P ≤ i → i < 5 → A.W i = 0) ∧
  (A.sn ≤ 5) ∧
  (∀ i, i < A.sn → isMk (A.s1 i)) ∧
  (A.pn ≤ 10) ∧
  (∀ i, i < A.pn → isPl A.N A.P (A.p1 i) (A.p2 i)) ∧
  (A.bn ≤ 8) ∧
  (∀ i, i < A.bn → ∃ p, p < A.P ∧ A.b1 i = nI p) ∧
  (∀ q ∈ A.L, ClW q)
theorem Wf.hN {A : AS} (h : Wf A) : A.N ≤ 6 := h.1
theorem Wf.hP {A : AS} (h : Wf A) : A.P ≤ 5 := h.2.1
theorem Wf.hD {A : AS} (h : Wf A) : A.D < 20000 := h.2.2.1
theorem Wf.hO {A : AS} (h : Wf A) : A.O < 2 ^ A.N := h.2.2.2.1
theorem Wf.hB {A : AS} (h : Wf A) : A.B < 2 ^ A.P := h.2.2.2.2.1
theorem Wf.hK {A : AS} (h : Wf A) : ∀ i, i < A.N → ∃ k, k ≤ 6 ∧ A.K i = nI k := h.2.2.2.2.2.1
theorem Wf.hV {A : AS} (h : Wf A) : ∀ i, i < A.N → ∃ k, k ≤ 9 ∧ A.V i = nI k := h.2.2.2.2.2.2.1
theorem Wf.hR {A : AS} (h : Wf A) : ∀ i, i < 24 → ∃ k, k ≤ 9 ∧ A.R i = nI k := h.2.2.2.2.2.2.2.1
theorem Wf.hR0 {A : AS} (h : Wf A) : ∀ i, 4 * A.N ≤ i → i < 24 → A.R i = 0 := h.2.2.2.2.2.2.2.2.1
theorem Wf.hM {A : AS} (h : Wf A) : ∀ i, i < A.P → isMk (A.M i) := h.2.2.2.2.2.2.2.2.2.1
theorem Wf.hW {A : AS} (h : Wf A) : ∀ i, i < A.P → ∃ k, k ≤ A.N ∧ A.W i = nI k := h.2.2.2.2.2.2.2.2.2.2.1
theorem Wf.hW0 {A : AS} (h : Wf A) : ∀ i, A.P ≤ i → i < 5 → A.W i = 0 := h.2.2.2.2.2.2.2.2.2.2.2.1
theorem Wf.hs {A : AS} (h : Wf A) : A.sn ≤ 5 := h.2.2.2.2.2.2.2.2.2.2.2.2.1
theorem Wf.hs1 {A : AS} (h : Wf A) : ∀ i, i < A.sn → isMk (A.s1 i) := h.2.2.2.2.2.2.2.2.2.2.2.2.2.1
theorem Wf.hp {A : AS} (h : Wf A) : A.pn ≤ 10 := h.2.2.2.2.2.2.2.2.2.2.2.2.2.2.1
theorem Wf.hp1 {A : AS} (h : Wf A) : ∀ i, i < A.pn → isPl A.N A.P (A.p1 i) (A.p2 i) := h.2.2.2.2.2.2.2.2.2.2.2.2.2.2.2.1
theorem Wf.hb {A : AS} (h : Wf A) : A.bn ≤ 8 := h.2.2.2.2.2.2.2.2.2.2.2.2.2.2.2.2.1
theorem Wf.hb1 {A : AS} (h : Wf A) : ∀ i, i < A.bn → ∃ p, p < A.P ∧ A.b1 i = nI p := h.2.2.2.2.2.2.2.2.2.2.2.2.2.2.2.2.2.1
theorem Wf.hL {A : AS} (h : Wf A) : ∀ q ∈ A.L, ClW q := h.2.2.2.2.2.2.2.2.2.2.2.2.2.2.2.2.2.2
def PrA (H : AH) (o n : Nat) (f g : Nat → Int32) : Prop := aI H o 0 = nI n ∧ ∀ i, i < n → aI H (o + 1) i = f i ∧ aI H (o + 2) i = g i
def PlA (H : AH) (o n : Nat) (f g : Nat → Int32) : Prop := aI H o 0 = nI n ∧ ∀ i, i < n → aI H (o + 1) i = f i ∧ (f i = 0 ∨ aI H (o + 2) i = g i)
/-- the component's stage at k -/
def StA (H : AH) (k : Nat) (A : AS) : Prop :=
  (StL H k) ∧
  (aI H k 0 = nI A.D) ∧
  (aI H k 1 = nI A.N) ∧
  (aI H k 4 = nI A.O) ∧
  (aI H k 6 = nI A.P) ∧
  (aI H k 9 = nI A.B) ∧
  (∀ i, i < 6 → aI H (k + 1) i = A.K i) ∧
  (∀ i, i < 6 → aI H (k + 2) i = A.V i) ∧
  (∀ i, i < 24 → aI H (k + 3) i = A.R i) ∧
  (∀ i, i < 5 → aI H (k + 4) i = A.M i) ∧
  (∀ i, i < 5 → aI H (k + 5) i = A.W i) ∧
  (WayC H (aR H k 13) A.L) ∧
  (PrA H (k + 6) A.sn A.s1 A.s2) ∧
  (PlA H (k + 9) A.pn A.p1 A.p2) ∧
  (PrA H (k + 12) A.bn A.b1 A.b2)
theorem StA.lay {H : AH} {k : Nat} {A : AS} (h : StA H k A) : StL H k := h.1
theorem StA.nD {H : AH} {k : Nat} {A : AS} (h : StA H k A) : aI H k 0 = nI A.D := h.2.1
theorem StA.nN {H : AH} {k : Nat} {A : AS} (h : StA H k A) : aI H k 1 = nI A.N := h.2.2.1
theorem StA.nO {H : AH} {k : Nat} {A : AS} (h : StA H k A) : aI H k 4 = nI A.O := h.2.2.2.1
theorem StA.nP {H : AH} {k : Nat} {A : AS} (h : StA H k A) : aI H k 6 = nI A.P := h.2.2.2.2.1
theorem StA.nB {H : AH} {k : Nat} {A : AS} (h : StA H k A) : aI H k 9 = nI A.B := h.2.2.2.2.2.1
theorem StA.eK {H : AH} {k : Nat} {A : AS} (h : StA H k A) : ∀ i, i < 6 → aI H (k + 1) i = A.K i := h.2.2.2.2.2.2.1
theorem StA.eV {H : AH} {k : Nat} {A : AS} (h : StA H k A) : ∀ i, i < 6 → aI H (k + 2) i = A.V i := h.2.2.2.2.2.2.2.1
theorem StA.eR {H : AH} {k : Nat} {A : AS} (h : StA H k A) : ∀ i, i < 24 → aI H (k + 3) i = A.R i := h.2.2.2.2.2.2.2.2.1
theorem StA.eM {H : AH} {k : Nat} {A : AS} (h : StA H k A) : ∀ i, i < 5 → aI H (k + 4) i = A.M i := h.2.2.2.2.2.2.2.2.2.1
theorem StA.eW {H : AH} {k : Nat} {A : AS} (h : StA H k A) : ∀ i, i < 5 → aI H (k + 5) i = A.W i := h.2.2.2.2.2.2.2.2.2.2.1
theorem StA.eL {H : AH} {k : Nat} {A : AS} (h : StA H k A) : WayC H (aR H k 13) A.L := h.2.2.2.2.2.2.2.2.2.2.2.1
theorem StA.es {H : AH} {k : Nat} {A : AS} (h : StA H k A) : PrA H (k + 6) A.sn A.s1 A.s2 := h.2.2.2.2.2.2.2.2.2.2.2.2.1
theorem StA.ep {H : AH} {k : Nat} {A : AS} (h : StA H k A) : PlA H (k + 9) A.pn A.p1 A.p2 := h.2.2.2.2.2.2.2.2.2.2.2.2.2.1
theorem StA.eb {H : AH} {k : Nat} {A : AS} (h : StA H k A) : PrA H (k + 12) A.bn A.b1 A.b2 := h.2.2.2.2.2.2.2.2.2.2.2.2.2.2
/-- the reference -/
def MoA (H : AH) (A : AS) : Prop :=
  (MoL H) ∧
  (aI H 67 4 = nI A.D) ∧
  (aI H 67 0 = nI A.N) ∧
  (aI H 67 1 = nI A.O) ∧
  (aI H 67 2 = nI A.P) ∧
  (aI H 67 3 = nI A.B) ∧
  (∀ i, i < 6 → aI H 68 i = A.K i) ∧
  (∀ i, i < 6 → aI H 69 i = A.V i) ∧
  (∀ i, i < 24 → aI H 70 i = A.R i) ∧
  (∀ i, i < 5 → aI H 71 i = A.M i) ∧
  (∀ i, i < 5 → aI H 72 i = A.W i) ∧
  (∃ b, WayM H A.L b) ∧
  (aI H 67 36 = nI A.sn) ∧
  (∀ i, i < A.sn → aI H 88 i = A.s1 i ∧ aI H 89 i = A.s2 i) ∧
  (aI H 67 39 = nI A.pn) ∧
  (∀ i, i < A.pn → aI H 90 i = A.p1 i ∧ (A.p1 i = 0 ∨ aI H 91 i = A.p2 i)) ∧
  (aI H 67 40 = nI A.bn) ∧
  (∀ i, i < A.bn → aI H 92 i = A.b1 i ∧ aI H 93 i = A.b2 i)
theorem MoA.lay {H : AH} {A : AS} (h : MoA H A) : MoL H := h.1
theorem MoA.nD {H : AH} {A : AS} (h : MoA H A) : aI H 67 4 = nI A.D := h.2.1
theorem MoA.nN {H : AH} {A : AS} (h : MoA H A) : aI H 67 0 = nI A.N := h.2.2.1
theorem MoA.nO {H : AH} {A : AS} (h : MoA H A) : aI H 67 1 = nI A.O := h.2.2.2.1
theorem MoA.nP {H : AH} {A : AS} (h : MoA H A) : aI H 67 2 = nI A.P := h.2.2.2.2.1
theorem MoA.nB {H : AH} {A : AS} (h : MoA H A) : aI H 67 3 = nI A.B := h.2.2.2.2.2.1
theorem MoA.eK {H : AH} {A : AS} (h : MoA H A) : ∀ i, i < 6 → aI H 68 i = A.K i := h.2.2.2.2.2.2.1
theorem MoA.eV {H : AH} {A : AS} (h : MoA H A) : ∀ i, i < 6 → aI H 69 i = A.V i := h.2.2.2.2.2.2.2.1
theorem MoA.eR {H : AH} {A : AS} (h : MoA H A) : ∀ i, i < 24 → aI H 70 i = A.R i := h.2.2.2.2.2.2.2.2.1
theorem MoA.eM {H : AH} {A : AS} (h : MoA H A) : ∀ i, i < 5 → aI H 71 i = A.M i := h.2.2.2.2.2.2.2.2.2.1
theorem MoA.eW {H : AH} {A : AS} (h : MoA H A) : ∀ i, i < 5 → aI H 72 i = A.W i := h.2.2.2.2.2.2.2.2.2.2.1
theorem MoA.eL {H : AH} {A : AS} (h : MoA H A) : ∃ b, WayM H A.L b := h.2.2.2.2.2.2.2.2.2.2.2.1
theorem MoA.ns {H : AH} {A : AS} (h : MoA H A) : aI H 67 36 = nI A.sn := h.2.2.2.2.2.2.2.2.2.2.2.2.1
theorem MoA.es {H : AH} {A : AS} (h : MoA H A) : ∀ i, i < A.sn → aI H 88 i = A.s1 i ∧ aI H 89 i = A.s2 i := h.2.2.2.2.2.2.2.2.2.2.2.2.2.1
theorem MoA.np {H : AH} {A : AS} (h : MoA H A) : aI H 67 39 = nI A.pn := h.2.2.2.2.2.2.2.2.2.2.2.2.2.2.1
theorem MoA.ep {H : AH} {A : AS} (h : MoA H A) : ∀ i, i < A.pn → aI H 90 i = A.p1 i ∧ (A.p1 i = 0 ∨ aI H 91 i = A.p2 i) := h.2.2.2.2.2.2.2.2.2.2.2.2.2.2.2.1
theorem MoA.nb {H : AH} {A : AS} (h : MoA H A) : aI H 67 40 = nI A.bn := h.2.2.2.2.2.2.2.2.2.2.2.2.2.2.2.2.1
theorem MoA.eb {H : AH} {A : AS} (h : MoA H A) : ∀ i, i < A.bn → aI H 92 i = A.b1 i ∧ aI H 93 i = A.b2 i := h.2.2.2.2.2.2.2.2.2.2.2.2.2.2.2.2.2
/-- passed on, of a maid's number v and a day y -/
def pasV (A : AS) (l : Nat) (v n : Int32) (y : Nat) : Int32 := if haS (nI A.O) (nI l) = 1 then n else if hdC (fun w => facM (nI w) (nI l) (A.K l) v n (nI y)) A.L = 0 then n else sayM (A.K l) v n (A.R (4 * l + y % 4))
def pas (A : AS) (l : Nat) (n : Int32) : Int32 := pasV A l (A.V l) n A.D
theorem Wf.o64 {A : AS} (w : Wf A) : A.O < 64 := Nat.lt_of_lt_of_le w.hO (pow_le w.hN)
theorem Wf.b32 {A : AS} (w : Wf A) : A.B < 32 := Nat.lt_of_lt_of_le w.hB (Nat.pow_le_pow_right (by decide) w.hP)
theorem StA.v {H : AH} {k : Nat} {A : AS} (h : StA H k A) (w : Wf A) : StV H k A.N A.D := ⟨h.lay, h.eL.wy, h.nN, w.hN, h.nD, w.hD⟩
theorem MoA.v {H : AH} {A : AS} (h : MoA H A) (w : Wf A) : ∃ b, MoV H A.N A.P A.D A.L b := by
  obtain ⟨b, hb⟩ := h.eL
  exact ⟨b, h.lay, hb, h.nN, w.hN, h.nP, w.hP, h.nD, w.hD⟩
theorem MoA_sA {H : AH} {p : Nat → Int32} {A : AS} (h : MoA H A) : MoA (sA H p) A := ⟨h.lay, h.nD, h.nN, h.nO, h.nP, h.nB, h.eK, h.eV, h.eR, h.eM, h.eW, h.eL, h.ns, h.es, h.np, h.ep, h.nb, h.eb⟩
theorem StA.qOn {H : AH} {k : Nat} {A : AS} (h : StA H k A) (w : Wf A) {l m y : Nat} {v : Int32} (hl : l < A.N) (hm : m < 256) (hy : y < 2 ^ 31) : pOn H k (nI l) v (nI m) (nI y) = pasV A l v (nI m) y := by
  have hN := w.hN
  obtain ⟨kk, k6, hk⟩ := w.hK l hl
  unfold pOn pasV
  rw [h.nO, ob_ha w.o64 (by omega), ix_nI (by omega), h.eK l (by omega), row_nI (by omega) hy, ix_nI (by omega), h.eR _ (by omega), h.eL.hd hm, hk, say_say k6]
theorem MoA.qOM {H : AH} {A : AS} (h : MoA H A) (w : Wf A) {l : Nat} {n : Int32} (hl : l < A.N) : rT H A.L l n = pas A l n := by
  have hN := w.hN
  have hD := w.hD
  unfold rT pOM pas pasV Fm
  rw [h.nO, ix_nI (by omega), h.eK l (by omega), h.eV l (by omega), h.nD, rowM (by omega), ix_nI (by omega), h.eR _ (by omega)]
theorem mk_and (x : Int32) : isMk (x &&& 255) := pk_andE x 8 (by decide +kernel)
theorem mk_xor {x y : Int32} (hx : isMk x) (hy : isMk y) : isMk (x ^^^ y) := by
  obtain ⟨a, ha, rfl⟩ := hx
  obtain ⟨b, hb, rfl⟩ := hy
  exact ⟨a ^^^ b, Nat.xor_lt_two_pow (n := 8) ha hb, nI_xor a b⟩
theorem mk_or {x y : Int32} (hx : isMk x) (hy : isMk y) : isMk (x ||| y) := by
  obtain ⟨a, ha, rfl⟩ := hx
  obtain ⟨b, hb, rfl⟩ := hy
  exact ⟨a ||| b, Nat.or_lt_two_pow (n := 8) ha hb, nI_or a b⟩
theorem mk_wip {x : Int32} (hx : isMk x) : isMk (wip x) := by
  obtain ⟨a, ha, rfl⟩ := hx
  unfold wip
  cases a with
  | zero => exact ⟨0, by decide, by decide +kernel⟩
  | succ a =>
    rw [nI_pred, nI_and]
    exact ⟨_, Nat.lt_of_le_of_lt Nat.and_le_left ha, rfl⟩
theorem mk_mkS {v : Nat} (h : v < 2 ^ 31) : isMk (mkS (nI v)) := by
  unfold mkS
  rw [md8_nI h]
  have : v % 8 < 8 := Nat.mod_lt _ (by decide)
  generalize v % 8 = j at this
  exact (show ∀ j, j < 8 → isMk (1 <<< (nI j &&& 31)) from fun j hj => ⟨2 ^ j, Nat.pow_lt_pow_right (by decide) hj, (show ∀ j, j < 8 → (1 : Int32) <<< (nI j &&& 31) = nI (2 ^ j) by decide +kernel) j hj⟩) j this
theorem mk_say {k v : Nat} {n r : Int32} (hk : k ≤ 6) (hv : v ≤ 9) (hn : isMk n) (hr : isMk r) : isMk (sayM (nI k) (nI v) n r) := by
  have m1 := mk_mkS (v := v) (by omega)
  have : k = 0 ∨ k = 1 ∨ k = 2 ∨ k = 3 ∨ k = 4 ∨ k = 5 ∨ k = 6 := by omega
  rcases this with rfl | rfl | rfl | rfl | rfl | rfl | rfl
  · exact mk_xor hn m1
  · exact mk_or hn m1
  · exact mk_and _
  · exact mk_wip hn
  · exact mk_or (mk_or hn m1) (mk_and _)
  · exact mk_and _
  · exact mk_xor (mk_wip hn) hr
theorem mk_pasV {A : AS} (w : Wf A) {l v y : Nat} {n : Int32} (hl : l < A.N) (hv : v ≤ 9) (hn : isMk n) : isMk (pasV A l (nI v) n y) := by
  have hN := w.hN
  obtain ⟨kk, k6, hk⟩ := w.hK l hl
  obtain ⟨r, r9, hr⟩ := w.hR (4 * l + y % 4) (by omega)
  unfold pasV
  split
  · exact hn
  · split
    · exact hn
    · rw [hk, hr]
      exact mk_say k6 hv hn ⟨r, by omega, rfl⟩
theorem mk_pas {A : AS} (w : Wf A) {l : Nat} {n : Int32} (hl : l < A.N) (hn : isMk n) : isMk (pas A l n) := by
  obtain ⟨v, v9, hv⟩ := w.hV l hl
  unfold pas
  rw [hv]
  exact mk_pasV w hl v9 hn
theorem StA.qT {H : AH} {k : Nat} {A : AS} (h : StA H k A) (w : Wf A) {l : Nat} {n : Int32} (hl : l < A.N) (hn : isMk n) : pT H k (nI l) n = pas A l n := by
  obtain ⟨m, hm, rfl⟩ := hn
  have hN := w.hN
  have hD := w.hD
  unfold pT pas
  rw [ix_nI (by omega), h.eV l (by omega), h.nD]
  exact h.qOn w hl hm (by omega)
