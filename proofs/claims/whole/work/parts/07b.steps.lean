-- 92: a step, instruction by instruction: what the abstract step says, the machine does (gen92.py)
section STEPS
variable {p : Program} {l : Launch} {e0 : Env} {R : Room} {s : State} {m : MethodId} {args : Array Value} {below : List Frame} {meth : Method} {c : Code} {Q : State → Prop} {Hp : Heap} {locs : List Loc} {cells slots : Nat} {lsC : Array Slot} {N0 : Nat} {Dg : va_G} {cA : Nat → ClassId} {bv : Nat → Value} {S : SC} {cc : ByteArray} {pc nL : Nat} {ls st : List Value} {H : AH} {a1 b1 c1 e1 : Nat} {v1 : Int} {y : Nat × List Value × List Value × AH}
def KK (N0 : Nat) (Dg : va_G) (cA : Nat → ClassId) (bv : Nat → Value) (p : Program) (l : Launch) (e0 : Env) (R : Room) (s : State) (m : MethodId) (args : Array Value) (below : List Frame) (meth : Method) (c : Code) (Q : State → Prop) (cells slots nL : Nat) (H : AH) (x : Nat × List Value × List Value × AH) : Prop :=
  ∀ (Hp1 : Heap) (locs1 : List Loc) (lsC1 : Array Slot), LR N0 bv lsC1 nL x.2.1 → HR N0 Dg cA x.2.2.2 Hp1 → va_S (fun q : Nat => N0 ≤ q) s.heap Hp1 locs1 → W p l e0 R s m args below meth c Hp1 locs1 (cells + (aN x.2.2.2 - aN H)) (slots + (slotsOf x.2.2.2 - slotsOf H)) Q (F0 m x.1 lsC1 (x.2.2.1.map (cv N0 bv)))
theorem KK.same {pc1 : Nat} {ls1 st1 : List Value} {lsC1 : Array Slot} (kk : KK N0 Dg cA bv p l e0 R s m args below meth c Q cells slots nL H (pc1, ls1, st1, H)) (hl : LR N0 bv lsC1 nL ls1) (hh : HR N0 Dg cA H Hp) (hv : va_S (fun q : Nat => N0 ≤ q) s.heap Hp locs) : W p l e0 R s m args below meth c Hp locs cells slots Q (F0 m pc1 lsC1 (st1.map (cv N0 bv))) := by
  have h := kk Hp locs lsC1 hl hh hv
  dsimp only at h
  rw [Nat.sub_self, Nat.sub_self, Nat.add_zero, Nat.add_zero] at h
  exact h
theorem KK.mod {H1 : AH} {pc1 : Nat} {ls1 st1 : List Value} {lsC1 : Array Slot} {Hp1 : Heap} {locs1 : List Loc} (h1 : H1.1 = H.1) (kk : KK N0 Dg cA bv p l e0 R s m args below meth c Q cells slots nL H (pc1, ls1, st1, H1)) (hl : LR N0 bv lsC1 nL ls1) (hh : HR N0 Dg cA H1 Hp1) (hv : va_S (fun q : Nat => N0 ≤ q) s.heap Hp1 locs1) : W p l e0 R s m args below meth c Hp1 locs1 cells slots Q (F0 m pc1 lsC1 (st1.map (cv N0 bv))) := by
  have h := kk Hp1 locs1 lsC1 hl hh hv
  dsimp only at h
  rw [show aN H1 = aN H by unfold aN; rw [h1], show slotsOf H1 = slotsOf H by unfold slotsOf; rw [h1], Nat.sub_self, Nat.sub_self, Nat.add_zero, Nat.add_zero] at h
  exact h
theorem tgt_eq {pc : Nat} {off : Int} (h : offOK pc off = true) : (pc : Int) + off = (tgt pc off : Int) := (Int.toNat_of_nonneg (of_decide_eq_true h)).symm
theorem hole_ne_i (x : Int32) : Value.int x ≠ hole := by intro h; cases h
theorem hole_ne_l (x : Int64) : Value.long x ≠ hole := by intro h; cases h
theorem hole_ne_r (x : Nat) : Value.ref x ≠ hole := by intro h; cases h
theorem hole_ne_n : Value.null ≠ hole := by intro h; cases h
theorem hole_ne_b (x : Nat) : Value.retAddr x ≠ hole := by intro h; cases h
theorem ss_iconst {n : Int} (hx : p.tables.exec = Jvm.exec) (hb : c.code = cc) (hl : LR N0 bv lsC nL ls) (hh : HR N0 Dg cA H Hp) (hv : va_S (fun q : Nat => N0 ≤ q) s.heap Hp locs) (hd : decode cc pc = .ok (.iconst n, 1))  (hs : stepA S (.iconst n) a1 b1 c1 e1 v1 pc ls st H = some y) (kk : KK N0 Dg cA bv p l e0 R s m args below meth c Q cells slots nL H y) : W p l e0 R s m args below meth c Hp locs cells slots Q (F0 m pc lsC (st.map (cv N0 bv))) := by
  obtain rfl := Option.some.inj hs
  exact lv_iconst hx hb hd rfl (kk.same hl hh hv)
theorem ss_bipush {n : Int} (hx : p.tables.exec = Jvm.exec) (hb : c.code = cc) (hl : LR N0 bv lsC nL ls) (hh : HR N0 Dg cA H Hp) (hv : va_S (fun q : Nat => N0 ≤ q) s.heap Hp locs) (hd : decode cc pc = .ok (.bipush n, 2))  (hs : stepA S (.bipush n) a1 b1 c1 e1 v1 pc ls st H = some y) (kk : KK N0 Dg cA bv p l e0 R s m args below meth c Q cells slots nL H y) : W p l e0 R s m args below meth c Hp locs cells slots Q (F0 m pc lsC (st.map (cv N0 bv))) := by
  obtain rfl := Option.some.inj hs
  exact lv_bipush hx hb hd rfl (kk.same hl hh hv)
theorem ss_sipush {n : Int} (hx : p.tables.exec = Jvm.exec) (hb : c.code = cc) (hl : LR N0 bv lsC nL ls) (hh : HR N0 Dg cA H Hp) (hv : va_S (fun q : Nat => N0 ≤ q) s.heap Hp locs) (hd : decode cc pc = .ok (.sipush n, 3))  (hs : stepA S (.sipush n) a1 b1 c1 e1 v1 pc ls st H = some y) (kk : KK N0 Dg cA bv p l e0 R s m args below meth c Q cells slots nL H y) : W p l e0 R s m args below meth c Hp locs cells slots Q (F0 m pc lsC (st.map (cv N0 bv))) := by
  obtain rfl := Option.some.inj hs
  exact lv_sipush hx hb hd rfl (kk.same hl hh hv)
theorem ss_lconst {n : Fin 2} (hx : p.tables.exec = Jvm.exec) (hb : c.code = cc) (hl : LR N0 bv lsC nL ls) (hh : HR N0 Dg cA H Hp) (hv : va_S (fun q : Nat => N0 ≤ q) s.heap Hp locs) (hd : decode cc pc = .ok (.lconst n, 1))  (hs : stepA S (.lconst n) a1 b1 c1 e1 v1 pc ls st H = some y) (kk : KK N0 Dg cA bv p l e0 R s m args below meth c Q cells slots nL H y) : W p l e0 R s m args below meth c Hp locs cells slots Q (F0 m pc lsC (st.map (cv N0 bv))) := by
  obtain rfl := Option.some.inj hs
  exact lv_lconst hx hb hd rfl (kk.same hl hh hv)
theorem ss_null  (hx : p.tables.exec = Jvm.exec) (hb : c.code = cc) (hl : LR N0 bv lsC nL ls) (hh : HR N0 Dg cA H Hp) (hv : va_S (fun q : Nat => N0 ≤ q) s.heap Hp locs) (hd : decode cc pc = .ok (.aconst_null, 1))  (hs : stepA S (.aconst_null) a1 b1 c1 e1 v1 pc ls st H = some y) (kk : KK N0 Dg cA bv p l e0 R s m args below meth c Q cells slots nL H y) : W p l e0 R s m args below meth c Hp locs cells slots Q (F0 m pc lsC (st.map (cv N0 bv))) := by
  obtain rfl := Option.some.inj hs
  exact lv_null hx hb hd (kk.same hl hh hv)
theorem ss_ldcw {i : Nat} {own : String} (hx : p.tables.exec = Jvm.exec) (hb : c.code = cc) (hl : LR N0 bv lsC nL ls) (hh : HR N0 Dg cA H Hp) (hv : va_S (fun q : Nat => N0 ≤ q) s.heap Hp locs) (hd : decode cc pc = .ok (.ldc_w i, 3)) (ho : s.vm.findClass own = some m.cls) (hw : (Jvm.Cond.constant own i (Int32.ofInt v1)).before args s = true) (hs : stepA S (.ldc_w i) a1 b1 c1 e1 v1 pc ls st H = some y) (kk : KK N0 Dg cA bv p l e0 R s m args below meth c Q cells slots nL H y) : W p l e0 R s m args below meth c Hp locs cells slots Q (F0 m pc lsC (st.map (cv N0 bv))) := by
  obtain rfl := Option.some.inj hs
  exact lv_ldcw hx hb ho hw hd (kk.same hl hh hv)
theorem ss_ldc2 {i : Nat} {own : String} (hx : p.tables.exec = Jvm.exec) (hb : c.code = cc) (hl : LR N0 bv lsC nL ls) (hh : HR N0 Dg cA H Hp) (hv : va_S (fun q : Nat => N0 ≤ q) s.heap Hp locs) (hd : decode cc pc = .ok (.ldc2_w i, 3)) (ho : s.vm.findClass own = some m.cls) (hw : (Jvm.Cond.constantLong own i (Int64.ofInt v1)).before args s = true) (hs : stepA S (.ldc2_w i) a1 b1 c1 e1 v1 pc ls st H = some y) (kk : KK N0 Dg cA bv p l e0 R s m args below meth c Q cells slots nL H y) : W p l e0 R s m args below meth c Hp locs cells slots Q (F0 m pc lsC (st.map (cv N0 bv))) := by
  obtain rfl := Option.some.inj hs
  exact lv_ldc2 hx hb ho hw hd (kk.same hl hh hv)
theorem ss_ldc {i q : Nat} {own tx : String} (hx : p.tables.exec = Jvm.exec) (hb : c.code = cc) (hl : LR N0 bv lsC nL ls) (hh : HR N0 Dg cA H Hp) (hv : va_S (fun q : Nat => N0 ≤ q) s.heap Hp locs) (hd : decode cc pc = .ok (.ldc i, 2)) (ho : s.vm.findClass own = some m.cls) (hZ : vk_R own i tx q s) (hq : bv a1 = .ref q) (hs : stepA S (.ldc i) a1 b1 c1 e1 v1 pc ls st H = some y) (kk : KK N0 Dg cA bv p l e0 R s m args below meth c Q cells slots nL H y) : W p l e0 R s m args below meth c Hp locs cells slots Q (F0 m pc lsC (st.map (cv N0 bv))) := by
  dsimp only [stepA] at hs
  split at hs
  · obtain rfl := Option.some.inj hs
    have k2 := kk.same hl hh hv
    rw [List.map_cons, show cv N0 bv (.retAddr a1) = bv a1 from rfl, hq] at k2
    exact va_ldcS hx hb ho hZ hd k2
  · cases hs
theorem ss_iload_n {k : Fin 4} (hx : p.tables.exec = Jvm.exec) (hb : c.code = cc) (hl : LR N0 bv lsC nL ls) (hh : HR N0 Dg cA H Hp) (hv : va_S (fun q : Nat => N0 ≤ q) s.heap Hp locs) (hd : decode cc pc = .ok (.iload_n k, 1))  (hs : stepA S (.iload_n k) a1 b1 c1 e1 v1 pc ls st H = some y) (kk : KK N0 Dg cA bv p l e0 R s m args below meth c Q cells slots nL H y) : W p l e0 R s m args below meth c Hp locs cells slots Q (F0 m pc lsC (st.map (cv N0 bv))) := by
  dsimp only [stepA, load] at hs
  split at hs
  · rename_i x hx2
    obtain rfl := Option.some.inj hs
    exact lv_iload_n hx hb hd rfl (hl.get hx2 (hole_ne_i x)) (kk.same hl hh hv)
  · cases hs
theorem ss_iload {k : Nat} (hx : p.tables.exec = Jvm.exec) (hb : c.code = cc) (hl : LR N0 bv lsC nL ls) (hh : HR N0 Dg cA H Hp) (hv : va_S (fun q : Nat => N0 ≤ q) s.heap Hp locs) (hd : decode cc pc = .ok (.iload k, 2))  (hs : stepA S (.iload k) a1 b1 c1 e1 v1 pc ls st H = some y) (kk : KK N0 Dg cA bv p l e0 R s m args below meth c Q cells slots nL H y) : W p l e0 R s m args below meth c Hp locs cells slots Q (F0 m pc lsC (st.map (cv N0 bv))) := by
  dsimp only [stepA, load] at hs
  split at hs
  · rename_i x hx2
    obtain rfl := Option.some.inj hs
    exact lv_iload hx hb hd (hl.get hx2 (hole_ne_i x)) (kk.same hl hh hv)
  · cases hs
theorem ss_lload_n {k : Fin 4} (hx : p.tables.exec = Jvm.exec) (hb : c.code = cc) (hl : LR N0 bv lsC nL ls) (hh : HR N0 Dg cA H Hp) (hv : va_S (fun q : Nat => N0 ≤ q) s.heap Hp locs) (hd : decode cc pc = .ok (.lload_n k, 1))  (hs : stepA S (.lload_n k) a1 b1 c1 e1 v1 pc ls st H = some y) (kk : KK N0 Dg cA bv p l e0 R s m args below meth c Q cells slots nL H y) : W p l e0 R s m args below meth c Hp locs cells slots Q (F0 m pc lsC (st.map (cv N0 bv))) := by
  dsimp only [stepA, load] at hs
  split at hs
  · rename_i x hx2
    obtain rfl := Option.some.inj hs
    exact lv_lload_n hx hb hd rfl (hl.get hx2 (hole_ne_l x)) (kk.same hl hh hv)
  · cases hs
theorem ss_aload_n {k : Fin 4} (hx : p.tables.exec = Jvm.exec) (hb : c.code = cc) (hl : LR N0 bv lsC nL ls) (hh : HR N0 Dg cA H Hp) (hv : va_S (fun q : Nat => N0 ≤ q) s.heap Hp locs) (hd : decode cc pc = .ok (.aload_n k, 1)) (hbr : ∀ j, bv j = .null ∨ ∃ t, bv j = .ref t) (hs : stepA S (.aload_n k) a1 b1 c1 e1 v1 pc ls st H = some y) (kk : KK N0 Dg cA bv p l e0 R s m args below meth c Q cells slots nL H y) : W p l e0 R s m args below meth c Hp locs cells slots Q (F0 m pc lsC (st.map (cv N0 bv))) := by
  dsimp only [stepA, load] at hs
  split at hs
  · rename_i x hx2
    obtain rfl := Option.some.inj hs
    exact lv_aload_n hx hb hd rfl (hl.get hx2 (hole_ne_r x)) (kk.same hl hh hv)
  · rename_i hx2
    obtain rfl := Option.some.inj hs
    exact lv_aload_nN hx hb hd rfl (hl.get hx2 hole_ne_n) (kk.same hl hh hv)
  · rename_i x hx2
    obtain rfl := Option.some.inj hs
    have k2 := kk.same hl hh hv
    have g2 := hl.get hx2 (hole_ne_b x)
    rw [List.map_cons] at k2
    rw [show cv N0 bv (.retAddr x) = bv x from rfl] at k2 g2
    rcases hbr x with e | ⟨t, e⟩
    · rw [e] at k2 g2
      exact lv_aload_nN hx hb hd rfl g2 k2
    · rw [e] at k2 g2
      exact lv_aload_n hx hb hd rfl g2 k2
  · cases hs
theorem ss_aload {k : Nat} (hx : p.tables.exec = Jvm.exec) (hb : c.code = cc) (hl : LR N0 bv lsC nL ls) (hh : HR N0 Dg cA H Hp) (hv : va_S (fun q : Nat => N0 ≤ q) s.heap Hp locs) (hd : decode cc pc = .ok (.aload k, 2)) (hbr : ∀ j, bv j = .null ∨ ∃ t, bv j = .ref t) (hs : stepA S (.aload k) a1 b1 c1 e1 v1 pc ls st H = some y) (kk : KK N0 Dg cA bv p l e0 R s m args below meth c Q cells slots nL H y) : W p l e0 R s m args below meth c Hp locs cells slots Q (F0 m pc lsC (st.map (cv N0 bv))) := by
  dsimp only [stepA, load] at hs
  split at hs
  · rename_i x hx2
    obtain rfl := Option.some.inj hs
    exact lv_aload hx hb hd (hl.get hx2 (hole_ne_r x)) (kk.same hl hh hv)
  · rename_i hx2
    obtain rfl := Option.some.inj hs
    exact lv_aloadN hx hb hd (hl.get hx2 hole_ne_n) (kk.same hl hh hv)
  · rename_i x hx2
    obtain rfl := Option.some.inj hs
    have k2 := kk.same hl hh hv
    have g2 := hl.get hx2 (hole_ne_b x)
    rw [List.map_cons] at k2
    rw [show cv N0 bv (.retAddr x) = bv x from rfl] at k2 g2
    rcases hbr x with e | ⟨t, e⟩
    · rw [e] at k2 g2
      exact lv_aloadN hx hb hd g2 k2
    · rw [e] at k2 g2
      exact lv_aload hx hb hd g2 k2
  · cases hs
theorem ss_istore_n {k : Fin 4} (hx : p.tables.exec = Jvm.exec) (hb : c.code = cc) (hl : LR N0 bv lsC nL ls) (hh : HR N0 Dg cA H Hp) (hv : va_S (fun q : Nat => N0 ≤ q) s.heap Hp locs) (hd : decode cc pc = .ok (.istore_n k, 1)) (hbv : ∀ j, (bv j).category = 1) (hk : (k : Nat) < nL) (hs : stepA S (.istore_n k) a1 b1 c1 e1 v1 pc ls st H = some y) (kk : KK N0 Dg cA bv p l e0 R s m args below meth c Q cells slots nL H y) : W p l e0 R s m args below meth c Hp locs cells slots Q (F0 m pc lsC (st.map (cv N0 bv))) := by
  dsimp only [stepA] at hs
  split at hs
  · obtain ⟨l1, h1, rfl⟩ := Option.map_eq_some_iff.mp hs
    exact lv_istore_n hx hb hd rfl hl.hs hk rfl (fun ls1 g1 => kk.same (hl.set hbv h1 rfl g1) hh hv)
  · cases hs
theorem ss_istore {k : Nat} (hx : p.tables.exec = Jvm.exec) (hb : c.code = cc) (hl : LR N0 bv lsC nL ls) (hh : HR N0 Dg cA H Hp) (hv : va_S (fun q : Nat => N0 ≤ q) s.heap Hp locs) (hd : decode cc pc = .ok (.istore k, 2)) (hbv : ∀ j, (bv j).category = 1) (hk : k < nL) (hs : stepA S (.istore k) a1 b1 c1 e1 v1 pc ls st H = some y) (kk : KK N0 Dg cA bv p l e0 R s m args below meth c Q cells slots nL H y) : W p l e0 R s m args below meth c Hp locs cells slots Q (F0 m pc lsC (st.map (cv N0 bv))) := by
  dsimp only [stepA] at hs
  split at hs
  · obtain ⟨l1, h1, rfl⟩ := Option.map_eq_some_iff.mp hs
    exact lv_istore hx hb hd hl.hs hk rfl (fun ls1 g1 => kk.same (hl.set hbv h1 rfl g1) hh hv)
  · cases hs
theorem ss_astore_n {k : Fin 4} (hx : p.tables.exec = Jvm.exec) (hb : c.code = cc) (hl : LR N0 bv lsC nL ls) (hh : HR N0 Dg cA H Hp) (hv : va_S (fun q : Nat => N0 ≤ q) s.heap Hp locs) (hd : decode cc pc = .ok (.astore_n k, 1)) (hbv : ∀ j, (bv j).category = 1) (hk : (k : Nat) < nL) (hs : stepA S (.astore_n k) a1 b1 c1 e1 v1 pc ls st H = some y) (kk : KK N0 Dg cA bv p l e0 R s m args below meth c Q cells slots nL H y) : W p l e0 R s m args below meth c Hp locs cells slots Q (F0 m pc lsC (st.map (cv N0 bv))) := by
  dsimp only [stepA] at hs
  split at hs
  · obtain ⟨l1, h1, rfl⟩ := Option.map_eq_some_iff.mp hs
    exact lv_astore_n hx hb hd rfl hl.hs hk rfl (fun ls1 g1 => kk.same (hl.set hbv h1 rfl g1) hh hv)
  · obtain ⟨l1, h1, rfl⟩ := Option.map_eq_some_iff.mp hs
    exact lv_astore_nN hx hb hd rfl hl.hs hk rfl (fun ls1 g1 => kk.same (hl.set hbv h1 rfl g1) hh hv)
  · cases hs
theorem ss_astore {k : Nat} (hx : p.tables.exec = Jvm.exec) (hb : c.code = cc) (hl : LR N0 bv lsC nL ls) (hh : HR N0 Dg cA H Hp) (hv : va_S (fun q : Nat => N0 ≤ q) s.heap Hp locs) (hd : decode cc pc = .ok (.astore k, 2)) (hbv : ∀ j, (bv j).category = 1) (hk : k < nL) (hs : stepA S (.astore k) a1 b1 c1 e1 v1 pc ls st H = some y) (kk : KK N0 Dg cA bv p l e0 R s m args below meth c Q cells slots nL H y) : W p l e0 R s m args below meth c Hp locs cells slots Q (F0 m pc lsC (st.map (cv N0 bv))) := by
  dsimp only [stepA] at hs
  split at hs
  · obtain ⟨l1, h1, rfl⟩ := Option.map_eq_some_iff.mp hs
    exact lv_astore hx hb hd hl.hs hk rfl (fun ls1 g1 => kk.same (hl.set hbv h1 rfl g1) hh hv)
  · obtain ⟨l1, h1, rfl⟩ := Option.map_eq_some_iff.mp hs
    exact lv_astoreN hx hb hd hl.hs hk rfl (fun ls1 g1 => kk.same (hl.set hbv h1 rfl g1) hh hv)
  · cases hs
theorem ss_iinc {k : Nat} {n : Int} (hx : p.tables.exec = Jvm.exec) (hb : c.code = cc) (hl : LR N0 bv lsC nL ls) (hh : HR N0 Dg cA H Hp) (hv : va_S (fun q : Nat => N0 ≤ q) s.heap Hp locs) (hd : decode cc pc = .ok (.iinc k n, 3)) (hbv : ∀ j, (bv j).category = 1) (hk : k < nL) (hs : stepA S (.iinc k n) a1 b1 c1 e1 v1 pc ls st H = some y) (kk : KK N0 Dg cA bv p l e0 R s m args below meth c Q cells slots nL H y) : W p l e0 R s m args below meth c Hp locs cells slots Q (F0 m pc lsC (st.map (cv N0 bv))) := by
  dsimp only [stepA, load] at hs
  split at hs
  · rename_i x hx2
    obtain ⟨l1, h1, rfl⟩ := Option.map_eq_some_iff.mp hs
    obtain ⟨j, hj⟩ := List.getElem?_of_mem (asg_mem (N0 := N0) (bv := bv) (q := (k, Value.int x)).mpr ⟨_, hx2, hole_ne_i x, rfl⟩)
    exact lv_iinc hx hb hd hl.hs hj rfl hk rfl (fun ls1 g1 => kk.same (hl.set hbv h1 rfl g1) hh hv)
  · cases hs
theorem ss_iadd  (hx : p.tables.exec = Jvm.exec) (hb : c.code = cc) (hl : LR N0 bv lsC nL ls) (hh : HR N0 Dg cA H Hp) (hv : va_S (fun q : Nat => N0 ≤ q) s.heap Hp locs) (hd : decode cc pc = .ok (.iadd, 1))  (hs : stepA S (.iadd) a1 b1 c1 e1 v1 pc ls st H = some y) (kk : KK N0 Dg cA bv p l e0 R s m args below meth c Q cells slots nL H y) : W p l e0 R s m args below meth c Hp locs cells slots Q (F0 m pc lsC (st.map (cv N0 bv))) := by
  dsimp only [stepA] at hs
  split at hs
  · obtain rfl := Option.some.inj hs
    exact lv_iadd hx hb hd (kk.same hl hh hv)
  · cases hs
theorem ss_isub  (hx : p.tables.exec = Jvm.exec) (hb : c.code = cc) (hl : LR N0 bv lsC nL ls) (hh : HR N0 Dg cA H Hp) (hv : va_S (fun q : Nat => N0 ≤ q) s.heap Hp locs) (hd : decode cc pc = .ok (.isub, 1))  (hs : stepA S (.isub) a1 b1 c1 e1 v1 pc ls st H = some y) (kk : KK N0 Dg cA bv p l e0 R s m args below meth c Q cells slots nL H y) : W p l e0 R s m args below meth c Hp locs cells slots Q (F0 m pc lsC (st.map (cv N0 bv))) := by
  dsimp only [stepA] at hs
  split at hs
  · obtain rfl := Option.some.inj hs
    exact lv_isub hx hb hd (kk.same hl hh hv)
  · cases hs
theorem ss_imul  (hx : p.tables.exec = Jvm.exec) (hb : c.code = cc) (hl : LR N0 bv lsC nL ls) (hh : HR N0 Dg cA H Hp) (hv : va_S (fun q : Nat => N0 ≤ q) s.heap Hp locs) (hd : decode cc pc = .ok (.imul, 1))  (hs : stepA S (.imul) a1 b1 c1 e1 v1 pc ls st H = some y) (kk : KK N0 Dg cA bv p l e0 R s m args below meth c Q cells slots nL H y) : W p l e0 R s m args below meth c Hp locs cells slots Q (F0 m pc lsC (st.map (cv N0 bv))) := by
  dsimp only [stepA] at hs
  split at hs
  · obtain rfl := Option.some.inj hs
    exact lv_imul hx hb hd (kk.same hl hh hv)
  · cases hs
theorem ss_iand  (hx : p.tables.exec = Jvm.exec) (hb : c.code = cc) (hl : LR N0 bv lsC nL ls) (hh : HR N0 Dg cA H Hp) (hv : va_S (fun q : Nat => N0 ≤ q) s.heap Hp locs) (hd : decode cc pc = .ok (.iand, 1))  (hs : stepA S (.iand) a1 b1 c1 e1 v1 pc ls st H = some y) (kk : KK N0 Dg cA bv p l e0 R s m args below meth c Q cells slots nL H y) : W p l e0 R s m args below meth c Hp locs cells slots Q (F0 m pc lsC (st.map (cv N0 bv))) := by
  dsimp only [stepA] at hs
  split at hs
  · obtain rfl := Option.some.inj hs
    exact lv_iand hx hb hd (kk.same hl hh hv)
  · cases hs
theorem ss_ior  (hx : p.tables.exec = Jvm.exec) (hb : c.code = cc) (hl : LR N0 bv lsC nL ls) (hh : HR N0 Dg cA H Hp) (hv : va_S (fun q : Nat => N0 ≤ q) s.heap Hp locs) (hd : decode cc pc = .ok (.ior, 1))  (hs : stepA S (.ior) a1 b1 c1 e1 v1 pc ls st H = some y) (kk : KK N0 Dg cA bv p l e0 R s m args below meth c Q cells slots nL H y) : W p l e0 R s m args below meth c Hp locs cells slots Q (F0 m pc lsC (st.map (cv N0 bv))) := by
  dsimp only [stepA] at hs
  split at hs
  · obtain rfl := Option.some.inj hs
    exact lv_ior hx hb hd (kk.same hl hh hv)
  · cases hs
theorem ss_ixor  (hx : p.tables.exec = Jvm.exec) (hb : c.code = cc) (hl : LR N0 bv lsC nL ls) (hh : HR N0 Dg cA H Hp) (hv : va_S (fun q : Nat => N0 ≤ q) s.heap Hp locs) (hd : decode cc pc = .ok (.ixor, 1))  (hs : stepA S (.ixor) a1 b1 c1 e1 v1 pc ls st H = some y) (kk : KK N0 Dg cA bv p l e0 R s m args below meth c Q cells slots nL H y) : W p l e0 R s m args below meth c Hp locs cells slots Q (F0 m pc lsC (st.map (cv N0 bv))) := by
  dsimp only [stepA] at hs
  split at hs
  · obtain rfl := Option.some.inj hs
    exact lv_ixor hx hb hd (kk.same hl hh hv)
  · cases hs
theorem ss_ishl  (hx : p.tables.exec = Jvm.exec) (hb : c.code = cc) (hl : LR N0 bv lsC nL ls) (hh : HR N0 Dg cA H Hp) (hv : va_S (fun q : Nat => N0 ≤ q) s.heap Hp locs) (hd : decode cc pc = .ok (.ishl, 1))  (hs : stepA S (.ishl) a1 b1 c1 e1 v1 pc ls st H = some y) (kk : KK N0 Dg cA bv p l e0 R s m args below meth c Q cells slots nL H y) : W p l e0 R s m args below meth c Hp locs cells slots Q (F0 m pc lsC (st.map (cv N0 bv))) := by
  dsimp only [stepA] at hs
  split at hs
  · obtain rfl := Option.some.inj hs
    exact lv_ishl hx hb hd (kk.same hl hh hv)
  · cases hs
theorem ss_ishr  (hx : p.tables.exec = Jvm.exec) (hb : c.code = cc) (hl : LR N0 bv lsC nL ls) (hh : HR N0 Dg cA H Hp) (hv : va_S (fun q : Nat => N0 ≤ q) s.heap Hp locs) (hd : decode cc pc = .ok (.ishr, 1))  (hs : stepA S (.ishr) a1 b1 c1 e1 v1 pc ls st H = some y) (kk : KK N0 Dg cA bv p l e0 R s m args below meth c Q cells slots nL H y) : W p l e0 R s m args below meth c Hp locs cells slots Q (F0 m pc lsC (st.map (cv N0 bv))) := by
  dsimp only [stepA] at hs
  split at hs
  · obtain rfl := Option.some.inj hs
    exact lv_ishr hx hb hd (kk.same hl hh hv)
  · cases hs
theorem ss_ineg  (hx : p.tables.exec = Jvm.exec) (hb : c.code = cc) (hl : LR N0 bv lsC nL ls) (hh : HR N0 Dg cA H Hp) (hv : va_S (fun q : Nat => N0 ≤ q) s.heap Hp locs) (hd : decode cc pc = .ok (.ineg, 1))  (hs : stepA S (.ineg) a1 b1 c1 e1 v1 pc ls st H = some y) (kk : KK N0 Dg cA bv p l e0 R s m args below meth c Q cells slots nL H y) : W p l e0 R s m args below meth c Hp locs cells slots Q (F0 m pc lsC (st.map (cv N0 bv))) := by
  dsimp only [stepA] at hs
  split at hs
  · obtain rfl := Option.some.inj hs
    exact lv_ineg hx hb hd (kk.same hl hh hv)
  · cases hs
theorem ss_land  (hx : p.tables.exec = Jvm.exec) (hb : c.code = cc) (hl : LR N0 bv lsC nL ls) (hh : HR N0 Dg cA H Hp) (hv : va_S (fun q : Nat => N0 ≤ q) s.heap Hp locs) (hd : decode cc pc = .ok (.land, 1))  (hs : stepA S (.land) a1 b1 c1 e1 v1 pc ls st H = some y) (kk : KK N0 Dg cA bv p l e0 R s m args below meth c Q cells slots nL H y) : W p l e0 R s m args below meth c Hp locs cells slots Q (F0 m pc lsC (st.map (cv N0 bv))) := by
  dsimp only [stepA] at hs
  split at hs
  · obtain rfl := Option.some.inj hs
    exact lv_land hx hb hd (kk.same hl hh hv)
  · cases hs
theorem ss_lor  (hx : p.tables.exec = Jvm.exec) (hb : c.code = cc) (hl : LR N0 bv lsC nL ls) (hh : HR N0 Dg cA H Hp) (hv : va_S (fun q : Nat => N0 ≤ q) s.heap Hp locs) (hd : decode cc pc = .ok (.lor, 1))  (hs : stepA S (.lor) a1 b1 c1 e1 v1 pc ls st H = some y) (kk : KK N0 Dg cA bv p l e0 R s m args below meth c Q cells slots nL H y) : W p l e0 R s m args below meth c Hp locs cells slots Q (F0 m pc lsC (st.map (cv N0 bv))) := by
  dsimp only [stepA] at hs
  split at hs
  · obtain rfl := Option.some.inj hs
    exact lv_lor hx hb hd (kk.same hl hh hv)
  · cases hs
theorem ss_iushr  (hx : p.tables.exec = Jvm.exec) (hb : c.code = cc) (hl : LR N0 bv lsC nL ls) (hh : HR N0 Dg cA H Hp) (hv : va_S (fun q : Nat => N0 ≤ q) s.heap Hp locs) (hd : decode cc pc = .ok (.iushr, 1))  (hs : stepA S (.iushr) a1 b1 c1 e1 v1 pc ls st H = some y) (kk : KK N0 Dg cA bv p l e0 R s m args below meth c Q cells slots nL H y) : W p l e0 R s m args below meth c Hp locs cells slots Q (F0 m pc lsC (st.map (cv N0 bv))) := by
  dsimp only [stepA] at hs
  split at hs
  · obtain rfl := Option.some.inj hs
    exact lv_iushr hx hb hd rfl (kk.same hl hh hv)
  · cases hs
theorem ss_i2l  (hx : p.tables.exec = Jvm.exec) (hb : c.code = cc) (hl : LR N0 bv lsC nL ls) (hh : HR N0 Dg cA H Hp) (hv : va_S (fun q : Nat => N0 ≤ q) s.heap Hp locs) (hd : decode cc pc = .ok (.i2l, 1))  (hs : stepA S (.i2l) a1 b1 c1 e1 v1 pc ls st H = some y) (kk : KK N0 Dg cA bv p l e0 R s m args below meth c Q cells slots nL H y) : W p l e0 R s m args below meth c Hp locs cells slots Q (F0 m pc lsC (st.map (cv N0 bv))) := by
  dsimp only [stepA] at hs
  split at hs
  · obtain rfl := Option.some.inj hs
    exact lv_i2l hx hb hd rfl (kk.same hl hh hv)
  · cases hs
theorem ss_l2i  (hx : p.tables.exec = Jvm.exec) (hb : c.code = cc) (hl : LR N0 bv lsC nL ls) (hh : HR N0 Dg cA H Hp) (hv : va_S (fun q : Nat => N0 ≤ q) s.heap Hp locs) (hd : decode cc pc = .ok (.l2i, 1))  (hs : stepA S (.l2i) a1 b1 c1 e1 v1 pc ls st H = some y) (kk : KK N0 Dg cA bv p l e0 R s m args below meth c Q cells slots nL H y) : W p l e0 R s m args below meth c Hp locs cells slots Q (F0 m pc lsC (st.map (cv N0 bv))) := by
  dsimp only [stepA] at hs
  split at hs
  · obtain rfl := Option.some.inj hs
    exact lv_l2i hx hb hd rfl (kk.same hl hh hv)
  · cases hs
theorem ss_i2b  (hx : p.tables.exec = Jvm.exec) (hb : c.code = cc) (hl : LR N0 bv lsC nL ls) (hh : HR N0 Dg cA H Hp) (hv : va_S (fun q : Nat => N0 ≤ q) s.heap Hp locs) (hd : decode cc pc = .ok (.i2b, 1))  (hs : stepA S (.i2b) a1 b1 c1 e1 v1 pc ls st H = some y) (kk : KK N0 Dg cA bv p l e0 R s m args below meth c Q cells slots nL H y) : W p l e0 R s m args below meth c Hp locs cells slots Q (F0 m pc lsC (st.map (cv N0 bv))) := by
  dsimp only [stepA] at hs
  split at hs
  · obtain rfl := Option.some.inj hs
    exact lv_i2b hx hb hd rfl (kk.same hl hh hv)
  · cases hs
theorem ss_i2s  (hx : p.tables.exec = Jvm.exec) (hb : c.code = cc) (hl : LR N0 bv lsC nL ls) (hh : HR N0 Dg cA H Hp) (hv : va_S (fun q : Nat => N0 ≤ q) s.heap Hp locs) (hd : decode cc pc = .ok (.i2s, 1))  (hs : stepA S (.i2s) a1 b1 c1 e1 v1 pc ls st H = some y) (kk : KK N0 Dg cA bv p l e0 R s m args below meth c Q cells slots nL H y) : W p l e0 R s m args below meth c Hp locs cells slots Q (F0 m pc lsC (st.map (cv N0 bv))) := by
  dsimp only [stepA] at hs
  split at hs
  · obtain rfl := Option.some.inj hs
    exact lv_i2s hx hb hd rfl (kk.same hl hh hv)
  · cases hs
theorem ss_i2c  (hx : p.tables.exec = Jvm.exec) (hb : c.code = cc) (hl : LR N0 bv lsC nL ls) (hh : HR N0 Dg cA H Hp) (hv : va_S (fun q : Nat => N0 ≤ q) s.heap Hp locs) (hd : decode cc pc = .ok (.i2c, 1))  (hs : stepA S (.i2c) a1 b1 c1 e1 v1 pc ls st H = some y) (kk : KK N0 Dg cA bv p l e0 R s m args below meth c Q cells slots nL H y) : W p l e0 R s m args below meth c Hp locs cells slots Q (F0 m pc lsC (st.map (cv N0 bv))) := by
  dsimp only [stepA] at hs
  split at hs
  · obtain rfl := Option.some.inj hs
    exact lv_i2c hx hb hd rfl (kk.same hl hh hv)
  · cases hs
theorem ss_lshl  (hx : p.tables.exec = Jvm.exec) (hb : c.code = cc) (hl : LR N0 bv lsC nL ls) (hh : HR N0 Dg cA H Hp) (hv : va_S (fun q : Nat => N0 ≤ q) s.heap Hp locs) (hd : decode cc pc = .ok (.lshl, 1))  (hs : stepA S (.lshl) a1 b1 c1 e1 v1 pc ls st H = some y) (kk : KK N0 Dg cA bv p l e0 R s m args below meth c Q cells slots nL H y) : W p l e0 R s m args below meth c Hp locs cells slots Q (F0 m pc lsC (st.map (cv N0 bv))) := by
  dsimp only [stepA] at hs
  split at hs
  · obtain rfl := Option.some.inj hs
    exact lv_lshl hx hb hd rfl (kk.same hl hh hv)
  · cases hs
theorem ss_lcmp  (hx : p.tables.exec = Jvm.exec) (hb : c.code = cc) (hl : LR N0 bv lsC nL ls) (hh : HR N0 Dg cA H Hp) (hv : va_S (fun q : Nat => N0 ≤ q) s.heap Hp locs) (hd : decode cc pc = .ok (.lcmp, 1))  (hs : stepA S (.lcmp) a1 b1 c1 e1 v1 pc ls st H = some y) (kk : KK N0 Dg cA bv p l e0 R s m args below meth c Q cells slots nL H y) : W p l e0 R s m args below meth c Hp locs cells slots Q (F0 m pc lsC (st.map (cv N0 bv))) := by
  dsimp only [stepA] at hs
  split at hs
  · obtain rfl := Option.some.inj hs
    exact W.lcmp hx hb hd (kk.same hl hh hv)
  · cases hs
theorem ss_pop  (hx : p.tables.exec = Jvm.exec) (hb : c.code = cc) (hl : LR N0 bv lsC nL ls) (hh : HR N0 Dg cA H Hp) (hv : va_S (fun q : Nat => N0 ≤ q) s.heap Hp locs) (hd : decode cc pc = .ok (.pop, 1))  (hs : stepA S (.pop) a1 b1 c1 e1 v1 pc ls st H = some y) (kk : KK N0 Dg cA bv p l e0 R s m args below meth c Q cells slots nL H y) : W p l e0 R s m args below meth c Hp locs cells slots Q (F0 m pc lsC (st.map (cv N0 bv))) := by
  dsimp only [stepA] at hs
  split at hs
  · obtain rfl := Option.some.inj hs
    exact lv_pop hx hb hd rfl (kk.same hl hh hv)
  · cases hs
theorem ss_dup2  (hx : p.tables.exec = Jvm.exec) (hb : c.code = cc) (hl : LR N0 bv lsC nL ls) (hh : HR N0 Dg cA H Hp) (hv : va_S (fun q : Nat => N0 ≤ q) s.heap Hp locs) (hd : decode cc pc = .ok (.dup2, 1))  (hs : stepA S (.dup2) a1 b1 c1 e1 v1 pc ls st H = some y) (kk : KK N0 Dg cA bv p l e0 R s m args below meth c Q cells slots nL H y) : W p l e0 R s m args below meth c Hp locs cells slots Q (F0 m pc lsC (st.map (cv N0 bv))) := by
  dsimp only [stepA] at hs
  split at hs
  · obtain rfl := Option.some.inj hs
    exact lv_dup2_11 hx hb hd rfl rfl (kk.same hl hh hv)
  · cases hs
theorem ss_idiv  (hx : p.tables.exec = Jvm.exec) (hb : c.code = cc) (hl : LR N0 bv lsC nL ls) (hh : HR N0 Dg cA H Hp) (hv : va_S (fun q : Nat => N0 ≤ q) s.heap Hp locs) (hd : decode cc pc = .ok (.idiv, 1))  (hs : stepA S (.idiv) a1 b1 c1 e1 v1 pc ls st H = some y) (kk : KK N0 Dg cA bv p l e0 R s m args below meth c Q cells slots nL H y) : W p l e0 R s m args below meth c Hp locs cells slots Q (F0 m pc lsC (st.map (cv N0 bv))) := by
  dsimp only [stepA, ite1] at hs
  split at hs
  · split at hs
    · rename_i hy
      obtain rfl := Option.some.inj hs
      exact lv_idiv hx hb hd hy (kk.same hl hh hv)
    · cases hs
  · cases hs
theorem ss_irem  (hx : p.tables.exec = Jvm.exec) (hb : c.code = cc) (hl : LR N0 bv lsC nL ls) (hh : HR N0 Dg cA H Hp) (hv : va_S (fun q : Nat => N0 ≤ q) s.heap Hp locs) (hd : decode cc pc = .ok (.irem, 1))  (hs : stepA S (.irem) a1 b1 c1 e1 v1 pc ls st H = some y) (kk : KK N0 Dg cA bv p l e0 R s m args below meth c Q cells slots nL H y) : W p l e0 R s m args below meth c Hp locs cells slots Q (F0 m pc lsC (st.map (cv N0 bv))) := by
  dsimp only [stepA, ite1] at hs
  split at hs
  · split at hs
    · rename_i hy
      obtain rfl := Option.some.inj hs
      exact lv_irem hx hb hd hy (kk.same hl hh hv)
    · cases hs
  · cases hs
theorem ss_dup  (hx : p.tables.exec = Jvm.exec) (hb : c.code = cc) (hl : LR N0 bv lsC nL ls) (hh : HR N0 Dg cA H Hp) (hv : va_S (fun q : Nat => N0 ≤ q) s.heap Hp locs) (hd : decode cc pc = .ok (.dup, 1))  (hs : stepA S (.dup) a1 b1 c1 e1 v1 pc ls st H = some y) (kk : KK N0 Dg cA bv p l e0 R s m args below meth c Q cells slots nL H y) : W p l e0 R s m args below meth c Hp locs cells slots Q (F0 m pc lsC (st.map (cv N0 bv))) := by
  dsimp only [stepA] at hs
  split at hs
  · obtain rfl := Option.some.inj hs
    exact lv_dup hx hb hd rfl (kk.same hl hh hv)
  · obtain rfl := Option.some.inj hs
    exact lv_dup hx hb hd rfl (kk.same hl hh hv)
  · cases hs
theorem ss_goto {off : Int} (hx : p.tables.exec = Jvm.exec) (hb : c.code = cc) (hl : LR N0 bv lsC nL ls) (hh : HR N0 Dg cA H Hp) (hv : va_S (fun q : Nat => N0 ≤ q) s.heap Hp locs) (hd : decode cc pc = .ok (.goto off, 3)) (ho : offOK pc off = true) (hs : stepA S (.goto off) a1 b1 c1 e1 v1 pc ls st H = some y) (kk : KK N0 Dg cA bv p l e0 R s m args below meth c Q cells slots nL H y) : W p l e0 R s m args below meth c Hp locs cells slots Q (F0 m pc lsC (st.map (cv N0 bv))) := by
  obtain rfl := Option.some.inj hs
  exact lv_goto hx hb hd (tgt_eq ho) (kk.same hl hh hv)
theorem ss_if {cd : ClassFile.Cond} {off : Int} (hx : p.tables.exec = Jvm.exec) (hb : c.code = cc) (hl : LR N0 bv lsC nL ls) (hh : HR N0 Dg cA H Hp) (hv : va_S (fun q : Nat => N0 ≤ q) s.heap Hp locs) (hd : decode cc pc = .ok (.ifCond cd off, 3)) (ho : offOK pc off = true) (hs : stepA S (.ifCond cd off) a1 b1 c1 e1 v1 pc ls st H = some y) (kk : KK N0 Dg cA bv p l e0 R s m args below meth c Q cells slots nL H y) : W p l e0 R s m args below meth c Hp locs cells slots Q (F0 m pc lsC (st.map (cv N0 bv))) := by
  dsimp only [stepA] at hs
  split at hs
  · obtain rfl := Option.some.inj hs
    have k2 := kk.same hl hh hv
    cases cd
    · simp only [cmpB, decide_eq_true_eq] at k2
      exact lv_if_eq hx hb hd (tgt_eq ho) (fun h => by rw [if_pos h] at k2; exact k2) (fun h => by rw [if_neg (fun z => h z)] at k2; exact k2)
    · simp only [cmpB, decide_eq_true_eq] at k2
      exact lv_if_ne hx hb hd (tgt_eq ho) (fun h => by rw [if_pos h] at k2; exact k2) (fun h => by rw [if_neg (fun z => z h)] at k2; exact k2)
    · simp only [cmpB, decide_eq_true_eq] at k2
      exact lv_if_lt hx hb hd (tgt_eq ho) (fun h => by rw [if_pos h] at k2; exact k2) (fun h => by rw [if_neg (fun z => h z)] at k2; exact k2)
    · simp only [cmpB, decide_eq_true_eq] at k2
      exact lv_if_ge hx hb hd (tgt_eq ho) (fun h => by rw [if_pos h] at k2; exact k2) (fun h => by rw [if_neg (fun z => h z)] at k2; exact k2)
    · simp only [cmpB, decide_eq_true_eq] at k2
      exact lv_if_gt hx hb hd (tgt_eq ho) (fun h => by rw [if_pos h] at k2; exact k2) (fun h => by rw [if_neg (fun z => h z)] at k2; exact k2)
    · simp only [cmpB, decide_eq_true_eq] at k2
      exact lv_if_le hx hb hd (tgt_eq ho) (fun h => by rw [if_pos h] at k2; exact k2) (fun h => by rw [if_neg (fun z => h z)] at k2; exact k2)
  · cases hs
theorem ss_icmp {cd : ClassFile.Cond} {off : Int} (hx : p.tables.exec = Jvm.exec) (hb : c.code = cc) (hl : LR N0 bv lsC nL ls) (hh : HR N0 Dg cA H Hp) (hv : va_S (fun q : Nat => N0 ≤ q) s.heap Hp locs) (hd : decode cc pc = .ok (.if_icmp cd off, 3)) (ho : offOK pc off = true) (hs : stepA S (.if_icmp cd off) a1 b1 c1 e1 v1 pc ls st H = some y) (kk : KK N0 Dg cA bv p l e0 R s m args below meth c Q cells slots nL H y) : W p l e0 R s m args below meth c Hp locs cells slots Q (F0 m pc lsC (st.map (cv N0 bv))) := by
  dsimp only [stepA] at hs
  split at hs
  · obtain rfl := Option.some.inj hs
    have k2 := kk.same hl hh hv
    cases cd
    · simp only [cmpB, decide_eq_true_eq] at k2
      exact lv_icmp_eq hx hb hd (tgt_eq ho) (fun h => by rw [if_pos h] at k2; exact k2) (fun h => by rw [if_neg (fun z => h z)] at k2; exact k2)
    · simp only [cmpB, decide_eq_true_eq] at k2
      exact lv_icmp_ne hx hb hd (tgt_eq ho) (fun h => by rw [if_pos h] at k2; exact k2) (fun h => by rw [if_neg (fun z => z h)] at k2; exact k2)
    · simp only [cmpB, decide_eq_true_eq] at k2
      exact lv_icmp_lt hx hb hd (tgt_eq ho) (fun h => by rw [if_pos h] at k2; exact k2) (fun h => by rw [if_neg (fun z => h z)] at k2; exact k2)
    · simp only [cmpB, decide_eq_true_eq] at k2
      exact lv_icmp_ge hx hb hd (tgt_eq ho) (fun h => by rw [if_pos h] at k2; exact k2) (fun h => by rw [if_neg (fun z => h z)] at k2; exact k2)
    · simp only [cmpB, decide_eq_true_eq] at k2
      exact lv_icmp_gt hx hb hd (tgt_eq ho) (fun h => by rw [if_pos h] at k2; exact k2) (fun h => by rw [if_neg (fun z => h z)] at k2; exact k2)
    · simp only [cmpB, decide_eq_true_eq] at k2
      exact lv_icmp_le hx hb hd (tgt_eq ho) (fun h => by rw [if_pos h] at k2; exact k2) (fun h => by rw [if_neg (fun z => h z)] at k2; exact k2)
  · cases hs
theorem ss_ifnull {off : Int} (hx : p.tables.exec = Jvm.exec) (hb : c.code = cc) (hl : LR N0 bv lsC nL ls) (hh : HR N0 Dg cA H Hp) (hv : va_S (fun q : Nat => N0 ≤ q) s.heap Hp locs) (hd : decode cc pc = .ok (.ifnull off, 3)) (ho : offOK pc off = true) (hs : stepA S (.ifnull off) a1 b1 c1 e1 v1 pc ls st H = some y) (kk : KK N0 Dg cA bv p l e0 R s m args below meth c Q cells slots nL H y) : W p l e0 R s m args below meth c Hp locs cells slots Q (F0 m pc lsC (st.map (cv N0 bv))) := by
  dsimp only [stepA] at hs
  split at hs
  · obtain rfl := Option.some.inj hs
    exact lv_ifnullN hx hb hd (tgt_eq ho) (kk.same hl hh hv)
  · obtain rfl := Option.some.inj hs
    exact lv_ifnull hx hb hd (kk.same hl hh hv)
  · cases hs
theorem ss_ifnonnull {off : Int} (hx : p.tables.exec = Jvm.exec) (hb : c.code = cc) (hl : LR N0 bv lsC nL ls) (hh : HR N0 Dg cA H Hp) (hv : va_S (fun q : Nat => N0 ≤ q) s.heap Hp locs) (hd : decode cc pc = .ok (.ifnonnull off, 3)) (ho : offOK pc off = true) (hs : stepA S (.ifnonnull off) a1 b1 c1 e1 v1 pc ls st H = some y) (kk : KK N0 Dg cA bv p l e0 R s m args below meth c Q cells slots nL H y) : W p l e0 R s m args below meth c Hp locs cells slots Q (F0 m pc lsC (st.map (cv N0 bv))) := by
  dsimp only [stepA] at hs
  split at hs
  · obtain rfl := Option.some.inj hs
    exact lv_ifnonnullN hx hb hd (kk.same hl hh hv)
  · obtain rfl := Option.some.inj hs
    exact lv_ifnonnull hx hb hd (tgt_eq ho) (kk.same hl hh hv)
  · cases hs
theorem oI_eq {x : Int32} {k : Int} (h1 : -2 ^ 31 ≤ k) (h2 : k < 2 ^ 31) : x = Int32.ofInt k ↔ x.toInt = k := by
  constructor
  · rintro rfl; exact Int32.toInt_ofInt_of_le h1 h2
  · intro h; rw [← h]; exact (Int32.ofInt_toInt x).symm
theorem swT_spec (dflt : Int) (x : Int32) : ∀ (L : List Int) (lo : Int), -2 ^ 31 ≤ lo → lo + L.length ≤ 2 ^ 31 → ((x.toInt < lo ∨ lo + L.length ≤ x.toInt) → swT lo dflt x L = dflt) ∧ (lo ≤ x.toInt → x.toInt < lo + L.length → L[(x.toInt - lo).toNat]? = some (swT lo dflt x L))
  | [], lo, _, _ => ⟨fun _ => rfl, fun h1 h2 => by simp at h2; omega⟩
  | o :: r, lo, h1, h2 => by
    have hlen : ((o :: r).length : Int) = r.length + 1 := by simp
    have h3 : lo < 2 ^ 31 := by rw [hlen] at h2; omega
    obtain ⟨ih1, ih2⟩ := swT_spec dflt x r (lo + 1) (by omega) (by rw [hlen] at h2; omega)
    rw [hlen]
    unfold swT
    constructor
    · intro h
      rw [if_neg (fun z => by have := (oI_eq h1 h3).mp z; omega)]
      exact ih1 (by omega)
    · intro g1 g2
      by_cases e : x.toInt = lo
      · rw [if_pos ((oI_eq h1 h3).mpr e), e, Int.sub_self]
        rfl
      · rw [if_neg (fun z => e ((oI_eq h1 h3).mp z))]
        have := ih2 (by omega) (by omega)
        rw [show (x.toInt - lo).toNat = (x.toInt - (lo + 1)).toNat + 1 by omega, List.getElem?_cons_succ]
        exact this
theorem swL_spec (dflt : Int) (x : Int32) : ∀ (L : List (Int × Int)), (∀ q ∈ L, -2 ^ 31 ≤ q.1 ∧ q.1 < 2 ^ 31) → Op.lookupswitch.offset L dflt x.toInt = swL dflt x L
  | [], _ => rfl
  | q :: r, h => by
    obtain ⟨k, o⟩ := q
    have hk := h (k, o) List.mem_cons_self
    rw [Op.lookupswitch.offset_cons, swL, swL_spec dflt x r (fun q hq => h q (List.mem_cons_of_mem _ hq))]
    by_cases e : k = x.toInt
    · rw [if_pos e, if_pos ((oI_eq hk.1 hk.2).mpr e.symm)]
    · rw [if_neg e, if_neg (fun z => e ((oI_eq hk.1 hk.2).mp z).symm)]
theorem swL_in {dflt : Int} {x : Int32} {pc : Nat} : ∀ {L : List (Int × Int)}, offOK pc dflt = true → (∀ q ∈ L, offOK pc q.2 = true) → offOK pc (swL dflt x L) = true
  | [], h, _ => h
  | q :: r, h, hq => by
    unfold swL
    split
    · exact hq q List.mem_cons_self
    · exact swL_in h (fun q h => hq q (List.mem_cons_of_mem _ h))
theorem ss_tsw {dflt lo hi : Int} {offs : Array Int} {n : Nat} (hx : p.tables.exec = Jvm.exec) (hb : c.code = cc) (hl : LR N0 bv lsC nL ls) (hh : HR N0 Dg cA H Hp) (hv : va_S (fun q : Nat => N0 ≤ q) s.heap Hp locs) (hd : decode cc pc = .ok (.tableswitch dflt lo hi offs, n)) (h1 : offOK pc dflt = true) (h2 : offs.toList.all (offOK pc) = true) (h3 : hi + 1 = lo + offs.toList.length) (h4 : -2 ^ 31 ≤ lo) (h5 : hi < 2 ^ 31) (hs : stepA S (.tableswitch dflt lo hi offs) a1 b1 c1 e1 v1 pc ls st H = some y) (kk : KK N0 Dg cA bv p l e0 R s m args below meth c Q cells slots nL H y) : W p l e0 R s m args below meth c Hp locs cells slots Q (F0 m pc lsC (st.map (cv N0 bv))) := by
  dsimp only [stepA] at hs
  split at hs
  · rename_i x r
    obtain rfl := Option.some.inj hs
    have k2 := kk.same hl hh hv
    obtain ⟨g1, g2⟩ := swT_spec dflt x offs.toList lo h4 (by omega)
    by_cases hlo : x.toInt < lo
    · rw [g1 (Or.inl hlo)] at k2
      exact lv_tableOut hx hb hd (Or.inl hlo) (tgt_eq h1) k2
    · by_cases hhi : hi < x.toInt
      · rw [g1 (Or.inr (by omega))] at k2
        exact lv_tableOut hx hb hd (Or.inr hhi) (tgt_eq h1) k2
      · have g3 := g2 (by omega) (by omega)
        exact lv_tableIn hx hb hd hlo hhi (by rw [← Array.getElem?_toList]; exact g3) (tgt_eq (List.all_eq_true.mp h2 _ (List.mem_of_getElem? g3))) k2
  · cases hs
theorem ss_lsw {dflt : Int} {ps : Array (Int × Int)} {n : Nat} (hx : p.tables.exec = Jvm.exec) (hb : c.code = cc) (hl : LR N0 bv lsC nL ls) (hh : HR N0 Dg cA H Hp) (hv : va_S (fun q : Nat => N0 ≤ q) s.heap Hp locs) (hd : decode cc pc = .ok (.lookupswitch dflt ps, n)) (h1 : offOK pc dflt = true) (h2 : ps.toList.all (fun q => offOK pc q.2 && decide (-2 ^ 31 ≤ q.1) && decide (q.1 < 2 ^ 31)) = true) (h3 : (ps.toList.zip (ps.toList.drop 1)).all (fun (q, next) => q.1 < next.1) = true) (hs : stepA S (.lookupswitch dflt ps) a1 b1 c1 e1 v1 pc ls st H = some y) (kk : KK N0 Dg cA bv p l e0 R s m args below meth c Q cells slots nL H y) : W p l e0 R s m args below meth c Hp locs cells slots Q (F0 m pc lsC (st.map (cv N0 bv))) := by
  dsimp only [stepA] at hs
  split at hs
  · rename_i x r
    obtain rfl := Option.some.inj hs
    have hq : ∀ q ∈ ps.toList, (offOK pc q.2 = true ∧ -2 ^ 31 ≤ q.1) ∧ q.1 < 2 ^ 31 := fun q hq => by
      have := List.all_eq_true.mp h2 q hq
      simpa only [Bool.and_eq_true, decide_eq_true_eq] using this
    exact lv_lookup hx hb hd h3 (swL_spec dflt x _ (fun q h => ⟨(hq q h).1.2, (hq q h).2⟩)) (tgt_eq (swL_in h1 (fun q h => (hq q h).1.1))) (kk.same hl hh hv)
  · cases hs
end STEPS
