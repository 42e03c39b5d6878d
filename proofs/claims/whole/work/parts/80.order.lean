-- 80: order: the search of the component and the numbers of the reference are one fold
abbrev OpS : Type := Option (Nat × (Nat → Nat))
def tkO (v : Nat) (t : Nat → Nat) (s : OpS) : OpS := match s with
  | none => some (v, t)
  | some q => if v < q.1 then some (v, t) else some q
def bv (x : Int32) : Nat := ix (bcn x)
def fdN (f : Nat → OpS → OpS) : Nat → Nat → OpS → OpS
  | 0, _, s => s
  | c + 1, i, s => fdN f c (i + 1) (f i s)
theorem fdN_add (f : Nat → OpS → OpS) (b : Nat) : ∀ (a i : Nat) (s : OpS), fdN f (a + b) i s = fdN f b (i + a) (fdN f a i s)
  | 0, i, s => by rw [Nat.zero_add]; rfl
  | a + 1, i, s => by
    rw [show a + 1 + b = (a + b) + 1 by omega]
    show fdN f (a + b) (i + 1) (f i s) = fdN f b (i + (a + 1)) (fdN f a (i + 1) (f i s))
    rw [fdN_add f b a (i + 1), show i + 1 + a = i + (a + 1) by omega]
theorem fdN_congr {f g : Nat → OpS → OpS} : ∀ (c i : Nat) (s : OpS), (∀ x, i ≤ x → x < i + c → ∀ s, f x s = g x s) → fdN f c i s = fdN g c i s
  | 0, _, _, _ => rfl
  | c + 1, i, s, h => by
    show fdN f c (i + 1) (f i s) = fdN g c (i + 1) (g i s)
    rw [h i (Nat.le_refl _) (by omega), fdN_congr c (i + 1) _ (fun x h1 h2 => h x (by omega) (by omega))]
theorem fdN_id {f : Nat → OpS → OpS} : ∀ (c i : Nat) (s : OpS), (∀ x, i ≤ x → x < i + c → ∀ s, f x s = s) → fdN f c i s = s
  | 0, _, _, _ => rfl
  | c + 1, i, s, h => by
    show fdN f c (i + 1) (f i s) = s
    rw [h i (Nat.le_refl _) (by omega), fdN_id c (i + 1) _ (fun x h1 h2 => h x (by omega) (by omega))]
theorem fdN_sh (f : Nat → OpS → OpS) (k : Nat) : ∀ (c i : Nat) (s : OpS), fdN f c (k + i) s = fdN (fun x => f (k + x)) c i s
  | 0, _, _ => rfl
  | c + 1, i, s => by
    show fdN f c (k + i + 1) (f (k + i) s) = fdN (fun x => f (k + x)) c (i + 1) (f (k + i) s)
    rw [Nat.add_assoc, fdN_sh f k c (i + 1)]
theorem fdN_blk (f : Nat → OpS → OpS) (q : Nat) : ∀ (k i : Nat) (s : OpS), fdN f (k * q) (i * q) s = fdN (fun x s => fdN f q (x * q) s) k i s
  | 0, i, s => by rw [Nat.zero_mul]; rfl
  | k + 1, i, s => by
    rw [show (k + 1) * q = q + k * q by rw [Nat.add_mul, Nat.one_mul, Nat.add_comm], fdN_add f (k * q) q (i * q) s, show i * q + q = (i + 1) * q by rw [Nat.add_mul, Nat.one_mul], fdN_blk f q k (i + 1)]
    rfl
/-- the number that p digits make: its digit at j from the top -/
def dgp (p b j : Nat) : Nat := b / 6 ^ (p - 1 - j) % 6
theorem dgp_lt {p b j x : Nat} (hj : j < p) (hx : x < 6) : dgp (p + 1) (b * 6 + x) j = dgp p b j := by
  unfold dgp
  rw [show p + 1 - 1 - j = (p - 1 - j) + 1 by omega, show (6 : Nat) ^ ((p - 1 - j) + 1) = 6 * 6 ^ (p - 1 - j) by rw [Nat.pow_succ, Nat.mul_comm], ← Nat.div_div_eq_div_mul, show (b * 6 + x) / 6 = b by omega]
theorem dgp_eq {p b x : Nat} (hx : x < 6) : dgp (p + 1) (b * 6 + x) p = x := by
  unfold dgp
  rw [show p + 1 - 1 - p = 0 by omega, Nat.pow_zero, Nat.div_one]
  omega
/-- the digits on top of r more -/
theorem dgp_top {p r b y j : Nat} (hj : j < p) (hy : y < 6 ^ r) : dgp (p + r) (b * 6 ^ r + y) j = dgp p b j := by
  unfold dgp
  rw [show p + r - 1 - j = r + (p - 1 - j) by omega, Nat.pow_add, ← Nat.div_div_eq_div_mul, Nat.mul_comm b, Nat.mul_add_div (Nat.pow_pos (by decide)), Nat.div_eq_of_lt hy, Nat.add_zero]
def VO (N z : Nat) : Prop := (∀ j, j < N → dgp N z j < N) ∧ ∀ i j, i < j → j < N → dgp N z i ≠ dgp N z j
def apN (A : AS) (f : Nat → Nat) : Nat → Int32 → Int32
  | 0, n => n
  | c + 1, n => pas A (f c) (apN A f c n)
theorem apN_congr {A : AS} {f g : Nat → Nat} {n : Int32} : ∀ (c : Nat), (∀ j, j < c → f j = g j) → apN A f c n = apN A g c n
  | 0, _ => rfl
  | c + 1, h => by
    show pas A (f c) (apN A f c n) = pas A (g c) (apN A g c n)
    rw [h c (by omega), apN_congr c (fun j hj => h j (by omega))]
def dfO (A : AS) (c : Int32) (N : Nat) : Nat → Nat → Nat → Int32 → OpS → OpS
  | 0, b, _, n, s => tkO (bv (n ^^^ c)) (dgp N b) s
  | r + 1, b, m, n, s => fdN (fun x s => if m.testBit x = true then s else dfO A c N r (b * 6 + x) (m ||| 2 ^ x) (pas A x n) s) N 0 s
def VOb (N z : Nat) : Bool := decide (∀ j, j < N → dgp N z j < N) && decide (∀ j, j < N → ∀ i, i < j → dgp N z i ≠ dgp N z j)
theorem vob_iff {N z : Nat} : VOb N z = true ↔ VO N z := by
  unfold VOb
  rw [Bool.and_eq_true_iff, decide_eq_true_iff, decide_eq_true_iff]
  exact ⟨fun h => ⟨h.1, fun i j hi hj => h.2 j hj i hi⟩, fun h => ⟨h.1, fun j hj i hi => h.2 i j hi hj⟩⟩
def gO (A : AS) (a c : Int32) (N : Nat) (z : Nat) (s : OpS) : OpS := if VOb N z = true then tkO (bv (apN A (dgp N z) N a ^^^ c)) (dgp N z) s else s
def InvO (A : AS) (a : Int32) (N : Nat) (p : Nat) (b : Nat) (m : Nat) (n : Int32) : Prop :=
  (∀ j, j < p → dgp p b j < N) ∧
  (∀ i j, i < j → j < p → dgp p b i ≠ dgp p b j) ∧
  (∀ x, m.testBit x = true ↔ ∃ j, j < p ∧ dgp p b j = x) ∧
  (n = apN A (dgp p b) p a)
theorem InvO.lt {A : AS} {a : Int32} {N : Nat} {p : Nat} {b : Nat} {m : Nat} {n : Int32} (h : InvO A a N p b m n) : ∀ j, j < p → dgp p b j < N := h.1
theorem InvO.ne {A : AS} {a : Int32} {N : Nat} {p : Nat} {b : Nat} {m : Nat} {n : Int32} (h : InvO A a N p b m n) : ∀ i j, i < j → j < p → dgp p b i ≠ dgp p b j := h.2.1
theorem InvO.ms {A : AS} {a : Int32} {N : Nat} {p : Nat} {b : Nat} {m : Nat} {n : Int32} (h : InvO A a N p b m n) : ∀ x, m.testBit x = true ↔ ∃ j, j < p ∧ dgp p b j = x := h.2.2.1
theorem InvO.nn {A : AS} {a : Int32} {N : Nat} {p : Nat} {b : Nat} {m : Nat} {n : Int32} (h : InvO A a N p b m n) : n = apN A (dgp p b) p a := h.2.2.2
theorem dfo_eq {A : AS} {a c : Int32} {N : Nat} (hN : N ≤ 6) : ∀ (r p b m : Nat) (n : Int32) (s : OpS), p + r = N → InvO A a N p b m n → fdN (gO A a c N) (6 ^ r) (b * 6 ^ r) s = dfO A c N r b m n s
  | 0, p, b, m, n, s, hp, h => by
    have hp : p = N := hp
    subst hp
    rw [Nat.pow_zero, Nat.mul_one]
    show gO A a c p b s = tkO (bv (n ^^^ c)) (dgp p b) s
    unfold gO
    rw [if_pos (vob_iff.mpr ⟨h.lt, h.ne⟩), ← h.nn]
  | r + 1, p, b, m, n, s, hp, h => by
    rw [show 6 ^ (r + 1) = 6 * 6 ^ r by rw [Nat.pow_succ, Nat.mul_comm], ← Nat.mul_assoc, fdN_blk, show b * 6 = b * 6 + 0 by omega, fdN_sh]
    show _ = fdN (fun x s => if m.testBit x = true then s else dfO A c N r (b * 6 + x) (m ||| 2 ^ x) (pas A x n) s) N 0 s
    have bad : ∀ x, x < 6 → (N ≤ x ∨ m.testBit x = true) → ∀ s, fdN (gO A a c N) (6 ^ r) ((b * 6 + x) * 6 ^ r) s = s := fun x hx hb s => by
      refine fdN_id _ _ _ fun z h1 h2 s => ?_
      obtain ⟨y, rfl⟩ := Nat.le.dest h1
      have hy : y < 6 ^ r := by omega
      unfold gO
      refine if_neg fun v => ?_
      have v := vob_iff.mp v
      have e1 : dgp N ((b * 6 + x) * 6 ^ r + y) p = x := by
        rw [← hp, show p + (r + 1) = (p + 1) + r by omega, dgp_top (by omega) hy, dgp_eq hx]
      rcases hb with hb | hb
      · have := v.1 p (by omega)
        rw [e1] at this
        omega
      · obtain ⟨j, hj, ej⟩ := (h.ms x).mp hb
        refine v.2 j p hj (by omega) ?_
        rw [e1, ← hp, show p + (r + 1) = (p + 1) + r by omega, dgp_top (by omega) hy, dgp_lt hj hx, ej]
    have sp : ∀ (F : Nat → OpS → OpS) (s : OpS), fdN F 6 0 s = fdN F (6 - N) (0 + N) (fdN F N 0 s) := fun F s => by
      rw [← fdN_add, show N + (6 - N) = 6 by omega]
    rw [sp, fdN_id (6 - N) (0 + N) _ (fun x h1 h2 s => bad x (by omega) (Or.inl (by omega)) s)]
    refine fdN_congr _ _ _ fun x h1 h2 s => ?_
    by_cases q : m.testBit x = true
    · rw [if_pos q]; exact bad x (by omega) (Or.inr q) s
    · rw [if_neg q]
      have hx : x < 6 := by omega
      refine dfo_eq hN r (p + 1) (b * 6 + x) (m ||| 2 ^ x) (pas A x n) s (by omega) ⟨fun j hj => ?_, fun i j hi hj => ?_, fun y => ?_, ?_⟩
      · by_cases e : j = p
        · rw [e, dgp_eq hx]; omega
        · rw [dgp_lt (by omega) hx]; exact h.lt j (by omega)
      · by_cases e : j = p
        · rw [e, dgp_eq hx, dgp_lt (by omega) hx]
          exact fun z => q ((h.ms x).mpr ⟨i, by omega, z⟩)
        · rw [dgp_lt (by omega) hx, dgp_lt (by omega) hx]
          exact h.ne i j hi (by omega)
      · rw [Nat.testBit_or, Nat.testBit_two_pow]
        constructor
        · intro z
          rcases Bool.or_eq_true_iff.mp z with z | z
          · obtain ⟨j, hj, ej⟩ := (h.ms y).mp z
            exact ⟨j, by omega, by rw [dgp_lt hj hx]; exact ej⟩
          · exact ⟨p, by omega, by rw [dgp_eq hx]; exact of_decide_eq_true z⟩
        · rintro ⟨j, hj, ej⟩
          by_cases e : j = p
          · rw [e, dgp_eq hx] at ej
            rw [decide_eq_true ej, Bool.or_true]
          · rw [dgp_lt (by omega) hx] at ej
            rw [(h.ms y).mpr ⟨j, by omega, ej⟩, Bool.true_or]
      · show _ = pas A (dgp (p + 1) (b * 6 + x) p) (apN A (dgp (p + 1) (b * 6 + x)) p a)
        rw [dgp_eq hx, apN_congr p (fun j hj => dgp_lt hj hx), ← h.nn]
