-- 05: Wp, an instruction: the rows that the printed steps of part 06 are instances of
theorem if_cg {p q : Prop} [Decidable p] [Decidable q] {A B : Prop} (h : p ↔ q) : (if p then A else B) = if q then A else B := by
  by_cases hq : q
  · rw [if_pos hq, if_pos (h.mpr hq)]
  · rw [if_neg hq, if_neg (fun z => hq (h.mp z))]
section OPS
variable {S : SC} {d M pc : Nat} {ls st : List Value} {H : AH} {Q : Option Value → AH → Prop} {a b c e : Nat} {v : Int}
theorem o_ifC {cd : ClassFile.Cond} {off : Int} {x : Int32} {p : Prop} [Decidable p] {t : Nat} (hc : codeAt M pc = some (.ifCond cd off, a, b, c, e, v)) (ht : tgt pc off = t) (hp : cmpB cd x 0 = true ↔ p) : Wp S d M pc ls (.int x :: st) H Q = if p then Wp S d M t ls st H Q else Wp S d M (pc + 3) ls st H Q := by
  subst ht
  exact (Wp_if hc rfl rfl).trans (if_cg hp)
theorem o_icC {cd : ClassFile.Cond} {off : Int} {x y : Int32} {p : Prop} [Decidable p] {t : Nat} (hc : codeAt M pc = some (.if_icmp cd off, a, b, c, e, v)) (ht : tgt pc off = t) (hp : cmpB cd x y = true ↔ p) : Wp S d M pc ls (.int y :: .int x :: st) H Q = if p then Wp S d M t ls st H Q else Wp S d M (pc + 3) ls st H Q := by
  subst ht
  exact (Wp_if hc rfl rfl).trans (if_cg hp)
theorem o_go {off : Int} {t : Nat} (hc : codeAt M pc = some (.goto off, a, b, c, e, v)) (ht : tgt pc off = t) : Wp S d M pc ls st H Q = Wp S d M t ls st H Q := by
  subst ht
  exact Wp_step hc rfl rfl
theorem o_getI {o i : Nat} (hc : codeAt M pc = some (.getfield i, a, b, c, 0, v)) (h : kd H o = a) : Wp S d M pc ls (.ref o :: st) H Q = Wp S d M (pc + 3) ls (.int (aI H o b) :: st) H Q :=
  Wp_step hc rfl (if_pos h)
theorem o_getZ {o i : Nat} (hc : codeAt M pc = some (.getfield i, a, b, c, 1, v)) (h : kd H o = a) : Wp S d M pc ls (.ref o :: st) H Q = Wp S d M (pc + 3) ls (.int (bz (aI H o b)) :: st) H Q :=
  Wp_step hc rfl (if_pos h)
theorem o_getR {o i : Nat} (hc : codeAt M pc = some (.getfield i, a, b, c, 2, v)) (h : kd H o = a) : Wp S d M pc ls (.ref o :: st) H Q = Wp S d M (pc + 3) ls (rv (aR H o b) :: st) H Q :=
  Wp_step hc rfl (if_pos h)
theorem o_putI {o i : Nat} {x : Int32} (hc : codeAt M pc = some (.putfield i, a, b, c, 0, v)) (h : kd H o = a) : Wp S d M pc ls (.int x :: .ref o :: st) H Q = Wp S d M (pc + 3) ls st (sI H o b x) Q :=
  Wp_step hc rfl (if_pos h)
theorem o_putZ {o i : Nat} {x : Int32} (hc : codeAt M pc = some (.putfield i, a, b, c, 1, v)) (h : kd H o = a) : Wp S d M pc ls (.int x :: .ref o :: st) H Q = ((x = 0 ∨ x = 1) ∧ Wp S d M (pc + 3) ls st (sI H o b x) Q) := by
  rw [Wp_chk (p := kd H o = a ∧ (x = 0 ∨ x = 1)) hc rfl rfl]
  exact propext ⟨fun q => ⟨q.1.2, q.2⟩, fun q => ⟨⟨h, q.1⟩, q.2⟩⟩
theorem o_putR {o o2 i : Nat} (hc : codeAt M pc = some (.putfield i, a, b, c, 2, v)) (h : kd H o = a) : Wp S d M pc ls (.ref o2 :: .ref o :: st) H Q = Wp S d M (pc + 3) ls st (sR H o b (some o2)) Q :=
  Wp_step hc rfl (if_pos h)
theorem o_putN {o i : Nat} (hc : codeAt M pc = some (.putfield i, a, b, c, 2, v)) (h : kd H o = a) : Wp S d M pc ls (.null :: .ref o :: st) H Q = Wp S d M (pc + 3) ls st (sR H o b none) Q :=
  Wp_step hc rfl (if_pos h)
theorem o_new {i N : Nat} (hc : codeAt M pc = some (.new i, a, b, c, e, v)) (hN : sizeC a = N) (h : aN H < 1000) : Wp S d M pc ls st H Q = Wp S d M (pc + 3) ls (.ref (aN H) :: st) (gr H a N) Q := by
  subst hN
  exact Wp_step hc rfl (if_pos h)
theorem o_newa {t : ArrayType} {n : Int32} (hc : codeAt M pc = some (.newarray t, a, b, c, e, v)) (h : aN H < 1000) : Wp S d M pc ls (.int n :: st) H Q = ((¬ n < 0 ∧ n.toNatClampNeg ≤ 4096) ∧ Wp S d M (pc + 2) ls (.ref (aN H) :: st) (gr H a n.toNatClampNeg) Q) := by
  rw [Wp_chk (p := aN H < 1000 ∧ ¬ n < 0 ∧ n.toNatClampNeg ≤ 4096) hc rfl rfl]
  exact propext ⟨fun q => ⟨q.1.2, q.2⟩, fun q => ⟨⟨h, q.1⟩, q.2⟩⟩
theorem o_newq {i : Nat} {n : Int32} (hc : codeAt M pc = some (.anewarray i, a, b, c, e, v)) (h : aN H < 1000) : Wp S d M pc ls (.int n :: st) H Q = ((¬ n < 0 ∧ n.toNatClampNeg ≤ 4096) ∧ Wp S d M (pc + 3) ls (.ref (aN H) :: st) (gr H 23 n.toNatClampNeg) Q) := by
  rw [Wp_chk (p := aN H < 1000 ∧ ¬ n < 0 ∧ n.toNatClampNeg ≤ 4096) hc rfl rfl]
  exact propext ⟨fun q => ⟨q.1.2, q.2⟩, fun q => ⟨⟨h, q.1⟩, q.2⟩⟩
theorem o_lenI {o : Nat} (hc : codeAt M pc = some (.arraylength, a, b, c, e, v)) (h : kd H o = 20) : Wp S d M pc ls (.ref o :: st) H Q = Wp S d M (pc + 1) ls (.int (nI (sz H o)) :: st) H Q :=
  Wp_step hc rfl (if_pos h)
theorem o_iald {o : Nat} {i : Int32} (hc : codeAt M pc = some (.iaload, a, b, c, e, v)) (h : kd H o = 20) : Wp S d M pc ls (.int i :: .ref o :: st) H Q = (inb i (sz H o) ∧ Wp S d M (pc + 1) ls (.int (aI H o i.toNatClampNeg) :: st) H Q) := by
  rw [Wp_chk (p := kd H o = 20 ∧ inb i (sz H o)) hc rfl rfl]
  exact propext ⟨fun q => ⟨q.1.2, q.2⟩, fun q => ⟨⟨h, q.1⟩, q.2⟩⟩
theorem o_ialdB {j : Nat} {i : Int32} (hc : codeAt M pc = some (.iaload, a, b, c, e, v)) (h : j ≤ 2) : Wp S d M pc ls (.int i :: .retAddr j :: st) H Q = (inb i (bI S j).1 ∧ Wp S d M (pc + 1) ls (.int ((bI S j).2 i.toNatClampNeg) :: st) H Q) := by
  rw [Wp_chk (p := j ≤ 2 ∧ inb i (bI S j).1) hc rfl rfl]
  exact propext ⟨fun q => ⟨q.1.2, q.2⟩, fun q => ⟨⟨h, q.1⟩, q.2⟩⟩
theorem o_iast {o : Nat} {i x : Int32} (hc : codeAt M pc = some (.iastore, a, b, c, e, v)) (h : kd H o = 20) : Wp S d M pc ls (.int x :: .int i :: .ref o :: st) H Q = (inb i (sz H o) ∧ Wp S d M (pc + 1) ls st (sI H o i.toNatClampNeg x) Q) := by
  rw [Wp_chk (p := kd H o = 20 ∧ inb i (sz H o)) hc rfl rfl]
  exact propext ⟨fun q => ⟨q.1.2, q.2⟩, fun q => ⟨⟨h, q.1⟩, q.2⟩⟩
theorem o_bald {o : Nat} {i : Int32} (hc : codeAt M pc = some (.baload, a, b, c, e, v)) (h : kd H o = 22) : Wp S d M pc ls (.int i :: .ref o :: st) H Q = (inb i (sz H o) ∧ Wp S d M (pc + 1) ls (.int (bz (aI H o i.toNatClampNeg)) :: st) H Q) := by
  rw [Wp_chk (p := kd H o = 22 ∧ inb i (sz H o)) hc rfl rfl]
  exact propext ⟨fun q => ⟨q.1.2, q.2⟩, fun q => ⟨⟨h, q.1⟩, q.2⟩⟩
theorem o_bast {o : Nat} {i x : Int32} (hc : codeAt M pc = some (.bastore, a, b, c, e, v)) (h : kd H o = 22) : Wp S d M pc ls (.int x :: .int i :: .ref o :: st) H Q = ((inb i (sz H o) ∧ (x = 0 ∨ x = 1)) ∧ Wp S d M (pc + 1) ls st (sI H o i.toNatClampNeg x) Q) := by
  rw [Wp_chk (p := kd H o = 22 ∧ inb i (sz H o) ∧ (x = 0 ∨ x = 1)) hc rfl rfl]
  exact propext ⟨fun q => ⟨q.1.2, q.2⟩, fun q => ⟨⟨h, q.1⟩, q.2⟩⟩
theorem o_lald {o : Nat} {i : Int32} (hc : codeAt M pc = some (.laload, a, b, c, e, v)) (h : kd H o = 21) : Wp S d M pc ls (.int i :: .ref o :: st) H Q = (inb i (sz H o) ∧ Wp S d M (pc + 1) ls (.long (aJ H o i.toNatClampNeg) :: st) H Q) := by
  rw [Wp_chk (p := kd H o = 21 ∧ inb i (sz H o)) hc rfl rfl]
  exact propext ⟨fun q => ⟨q.1.2, q.2⟩, fun q => ⟨⟨h, q.1⟩, q.2⟩⟩
theorem o_last {o : Nat} {i : Int32} {x : Int64} (hc : codeAt M pc = some (.lastore, a, b, c, e, v)) (h : kd H o = 21) : Wp S d M pc ls (.long x :: .int i :: .ref o :: st) H Q = (inb i (sz H o) ∧ Wp S d M (pc + 1) ls st (sJ H o i.toNatClampNeg x) Q) := by
  rw [Wp_chk (p := kd H o = 21 ∧ inb i (sz H o)) hc rfl rfl]
  exact propext ⟨fun q => ⟨q.1.2, q.2⟩, fun q => ⟨⟨h, q.1⟩, q.2⟩⟩
theorem o_aald {o : Nat} {i : Int32} (hc : codeAt M pc = some (.aaload, a, b, c, e, v)) (h : kd H o = 23) : Wp S d M pc ls (.int i :: .ref o :: st) H Q = (inb i (sz H o) ∧ Wp S d M (pc + 1) ls (rv (aR H o i.toNatClampNeg) :: st) H Q) := by
  rw [Wp_chk (p := kd H o = 23 ∧ inb i (sz H o)) hc rfl rfl]
  exact propext ⟨fun q => ⟨q.1.2, q.2⟩, fun q => ⟨⟨h, q.1⟩, q.2⟩⟩
theorem o_aast {o x : Nat} {i : Int32} (hc : codeAt M pc = some (.aastore, a, b, c, e, v)) (h : kd H o = 23) (h2 : kd H x = 4) : Wp S d M pc ls (.ref x :: .int i :: .ref o :: st) H Q = (inb i (sz H o) ∧ Wp S d M (pc + 1) ls st (sR H o i.toNatClampNeg (some x)) Q) := by
  rw [Wp_chk (p := kd H o = 23 ∧ inb i (sz H o) ∧ kd H x = 4) hc rfl rfl]
  exact propext ⟨fun q => ⟨q.1.2.1, q.2⟩, fun q => ⟨⟨h, q.1, h2⟩, q.2⟩⟩
theorem o_div {x y : Int32} (hc : codeAt M pc = some (.idiv, a, b, c, e, v)) : Wp S d M pc ls (.int y :: .int x :: st) H Q = (¬ y = 0 ∧ Wp S d M (pc + 1) ls (.int (x / y) :: st) H Q) := Wp_chk hc rfl rfl
theorem o_rem {x y : Int32} (hc : codeAt M pc = some (.irem, a, b, c, e, v)) : Wp S d M pc ls (.int y :: .int x :: st) H Q = (¬ y = 0 ∧ Wp S d M (pc + 1) ls (.int (x - x / y * y) :: st) H Q) := Wp_chk hc rfl rfl
def cpOk (H : AH) (s : Nat) (sp : Int32) (o : Nat) (dp n : Int32) : Prop := (¬ sp < 0 ∧ ¬ dp < 0 ∧ ¬ n < 0) ∧ sp.toNatClampNeg + n.toNatClampNeg ≤ sz H s ∧ dp.toNatClampNeg + n.toNatClampNeg ≤ sz H o
theorem o_cpI {s o i : Nat} {sp dp n : Int32} (hc : codeAt M pc = some (.invokestatic i, 1000, b, c, e, v)) (h : kd H s = 20) (h2 : kd H o = 20) : Wp S d M pc ls [.int n, .int dp, .ref o, .int sp, .ref s] H Q = (cpOk H s sp o dp n ∧ Wp S d M (pc + 3) ls [] (cI H s sp.toNatClampNeg o dp.toNatClampNeg n.toNatClampNeg) Q) := by
  rw [Wp_chk (p := kd H s = 20 ∧ kd H o = 20 ∧ ¬ sp < 0 ∧ ¬ dp < 0 ∧ ¬ n < 0 ∧ sp.toNatClampNeg + n.toNatClampNeg ≤ sz H s ∧ dp.toNatClampNeg + n.toNatClampNeg ≤ sz H o) hc rfl (by show (if kd H s = 20 then _ else _) = _; exact if_pos h)]
  exact propext ⟨fun q => ⟨⟨⟨q.1.2.2.1, q.1.2.2.2.1, q.1.2.2.2.2.1⟩, q.1.2.2.2.2.2⟩, q.2⟩, fun q => ⟨⟨h, h2, q.1.1.1, q.1.1.2.1, q.1.1.2.2, q.1.2⟩, q.2⟩⟩
theorem o_cpJ {s o i : Nat} {sp dp n : Int32} (hc : codeAt M pc = some (.invokestatic i, 1000, b, c, e, v)) (h : kd H s = 21) (h2 : kd H o = 21) : Wp S d M pc ls [.int n, .int dp, .ref o, .int sp, .ref s] H Q = (cpOk H s sp o dp n ∧ Wp S d M (pc + 3) ls [] (cJ H s sp.toNatClampNeg o dp.toNatClampNeg n.toNatClampNeg) Q) := by
  rw [Wp_chk (p := kd H s = 21 ∧ kd H o = 21 ∧ ¬ sp < 0 ∧ ¬ dp < 0 ∧ ¬ n < 0 ∧ sp.toNatClampNeg + n.toNatClampNeg ≤ sz H s ∧ dp.toNatClampNeg + n.toNatClampNeg ≤ sz H o) hc rfl (by show (if kd H s = 20 then _ else _) = _; exact if_neg (by rw [h]; decide))]
  exact propext ⟨fun q => ⟨⟨⟨q.1.2.2.1, q.1.2.2.2.1, q.1.2.2.2.2.1⟩, q.1.2.2.2.2.2⟩, q.2⟩, fun q => ⟨⟨h, h2, q.1.1.1, q.1.1.2.1, q.1.1.2.2, q.1.2⟩, q.2⟩⟩
theorem o_swT {dflt lo hi : Int} {offs : Array Int} {x : Int32} {l : List Int} (hc : codeAt M pc = some (.tableswitch dflt lo hi offs, a, b, c, e, v)) (hl : offs.toList = l) : Wp S d M pc ls (.int x :: st) H Q = Wp S d M (tgt pc (swT lo dflt x l)) ls st H Q := by
  subst hl
  exact Wp_step hc rfl rfl
theorem o_swL {dflt : Int} {ps : Array (Int × Int)} {x : Int32} {l : List (Int × Int)} (hc : codeAt M pc = some (.lookupswitch dflt ps, a, b, c, e, v)) (hl : ps.toList = l) : Wp S d M pc ls (.int x :: st) H Q = Wp S d M (tgt pc (swL dflt x l)) ls st H Q := by
  subst hl
  exact Wp_step hc rfl rfl
theorem w_if {p : Prop} [Decidable p] {t f : Nat} : Wp S d M (if p then t else f) ls st H Q = if p then Wp S d M t ls st H Q else Wp S d M f ls st H Q := by
  by_cases h : p
  · rw [if_pos h, if_pos h]
  · rw [if_neg h, if_neg h]
theorem o_call {as rest ls' : List Value} {ins : Instr} (hc : codeAt M pc = some (ins, a, b, c, e, v)) (hk : kindA ins a = 2) (h1 : argN ins e ≤ st.length) (h2 : (st.take (argN ins e)).reverse = as) (h3 : st.drop (argN ins e) = rest) (h4 : rest.length ≤ 4) (h5 : recvB ins H (mName a).cls as = true) (h6 : entryL as (mLoc a) = ls') (h7 : ls'.length = mLoc a) {Q' : Option Value → AH → Prop} (hQ : (fun r H' => Wp S (d + 1) M (pc + 3) ls (pushr r rest) H' Q) = Q') : Wp S (d + 1) M pc ls st H Q = Wp S d a 0 ls' [] H Q' := by
  subst hQ
  exact Wp_call hc hk h1 h2 h3 h4 h5 h6 h7
theorem rcv_of {ins : Instr} {o k : Nat} {as : List Value} {cls : String} (hi : recvB ins H cls (.ref o :: as) = decide ((vwCl[kd H o]?).map (·.1) = some cls)) (h : kd H o = k) (hk : (vwCl[k]?).map (·.1) = some cls) : recvB ins H cls (.ref o :: as) = true := by
  rw [hi, h]
  exact decide_eq_true hk
theorem o_min {i : Nat} {x y : Int32} (hc : codeAt M pc = some (.invokestatic i, 1002, b, c, e, v)) (hr : st.length ≤ 4) : Wp S d M pc ls (.int y :: .int x :: st) H Q = Wp S d M (pc + 3) ls (.int (if y < x then y else x) :: st) H Q :=
  Wp_step hc rfl (if_pos hr)
theorem okv_int (x : Int32) : okv .int x := rfl
theorem okv_b (x : Int32) : okv .boolean x ↔ (x = 0 ∨ x = 1) := by
  show Value.int (x &&& 1) = Value.int x ↔ _
  constructor
  · intro h
    have h1 : x &&& 1 = x := Value.int.inj h
    obtain ⟨j, hj, e⟩ := pk_andE x (m := 1) 1 (by decide +kernel)
    rw [h1] at e
    rcases (show j = 0 ∨ j = 1 by omega) with rfl | rfl
    · exact Or.inl e
    · exact Or.inr e
  · rintro (rfl | rfl) <;> decide +kernel
theorem o_ireti {x : Int32} (hc : codeAt M pc = some (.ireturn, a, b, c, e, v)) (hr : mRet M = some .int) : Wp S d M pc ls [.int x] H Q = Q (some (.int x)) H := by
  refine Wp_ret hc rfl ?_
  rw [hr]
  exact if_pos (okv_int x)
theorem o_iretz {x : Int32} (hc : codeAt M pc = some (.ireturn, a, b, c, e, v)) (hr : mRet M = some .boolean) : Wp S d M pc ls [.int x] H Q = ((x = 0 ∨ x = 1) ∧ Q (some (.int x)) H) := by
  rw [Wp_retif (p := okv .boolean x) (r := some (.int x)) hc rfl (by rw [hr]; rfl)]
  exact propext (and_congr_left fun _ => okv_b x)
theorem o_iretx {x : Int32} {ty : FieldType} (hc : codeAt M pc = some (.ireturn, a, b, c, e, v)) (hr : mRet M = some ty) : Wp S d M pc ls [.int x] H Q = (okv ty x ∧ Q (some (.int x)) H) :=
  Wp_retif (p := okv ty x) (r := some (.int x)) hc rfl (by rw [hr]; rfl)
theorem o_lret {x : Int64} (hc : codeAt M pc = some (.lreturn, a, b, c, e, v)) : Wp S d M pc ls [.long x] H Q = Q (some (.long x)) H := Wp_ret hc rfl rfl
theorem o_vret (hc : codeAt M pc = some (.return_, a, b, c, e, v)) : Wp S d M pc ls [] H Q = Q none H := Wp_ret hc rfl rfl
theorem o_aret {x : Nat} (hc : codeAt M pc = some (.areturn, a, b, c, e, v)) : Wp S d M pc ls [.ref x] H Q = Q (some (.ref x)) H := Wp_ret hc rfl rfl
end OPS
theorem pushr_s (v : Value) (st : List Value) : pushr (some v) st = v :: st := rfl
theorem pushr_n (st : List Value) : pushr none st = st := rfl
theorem rv_s (o : Nat) : rv (some o) = .ref o := rfl
theorem rv_n : rv none = .null := rfl
