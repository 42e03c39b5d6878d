-- 94: rows read and written (gen94.py)
section HEAPS
variable {p : Program} {l : Launch} {e0 : Env} {R : Room} {s : State} {m : MethodId} {args : Array Value} {below : List Frame} {meth : Method} {c : Code} {Q : State → Prop} {Hp : Heap} {locs : List Loc} {cells slots : Nat} {lsC : Array Slot} {N0 : Nat} {Dg : va_G} {cA : Nat → ClassId} {bv : Nat → Value} {S : SC} {cc : ByteArray} {pc nL : Nat} {ls st : List Value} {H : AH} {a1 b1 c1 e1 : Nat} {v1 : Int} {y : Nat × List Value × List Value × AH}
theorem arrF_20 {H : AH} {o : Nat} (h : kd H o = 20) : arrF N0 H o = fun j => .int (aI H o j) := funext fun j => by unfold arrF; rw [if_pos h]
theorem arrF_21 {H : AH} {o : Nat} (h : kd H o = 21) : arrF N0 H o = fun j => .long (aJ H o j) := funext fun j => by unfold arrF; rw [if_neg (by rw [h]; decide), if_pos h]
theorem arrF_22 {H : AH} {o : Nat} (h : kd H o = 22) : arrF N0 H o = fun j => .int (bz (aI H o j)) := funext fun j => by unfold arrF; rw [if_neg (by rw [h]; decide), if_neg (by rw [h]; decide), if_pos h]
theorem arrF_23 {H : AH} {o : Nat} (h : kd H o = 23) : arrF N0 H o = fun j => rvC N0 (aR H o j) := funext fun j => by unfold arrF; rw [if_neg (by rw [h]; decide), if_neg (by rw [h]; decide), if_neg (by rw [h]; decide)]
theorem bB_T {adK adV : Nat → Nat} {U : State} {j : Nat} (h4 : vk_S 6 strN strL adK adV (fun q : Nat => N0 ≤ q) U U.heap) (hj : 13 ≤ j ∧ j ≤ 18) : va_T .byte (adV (j - 13)) (bB j).1 (fun k => .int ((bB j).2 k)) (fun q : Nat => N0 ≤ q) U U.heap := by
  have h := (h4.1 (j - 13) (by omega)).2.2.2
  rw [strN_eq _ (by omega)] at h
  exact h
theorem bI_T {bv : Nat → Value} {U : State} {j : Nat} (hB : BS N0 bv S U) (hj : j ≤ 2) : ∃ t, bv j = .ref t ∧ va_T .int t (bI S j).1 (fun k => .int ((bI S j).2 k)) (fun q : Nat => N0 ≤ q) U U.heap := by
  obtain ⟨⟨-, -, ⟨t0, q1, q2⟩, ⟨t1, r1, -, r2⟩, ⟨t2, u1, -, u2⟩⟩, -⟩ := hB
  rcases (show j = 0 ∨ j = 1 ∨ j = 2 by omega) with rfl | rfl | rfl
  · exact ⟨t0, q1, q2⟩
  · exact ⟨t1, r1, r2⟩
  · exact ⟨t2, u1, u2⟩
theorem ss_arraylength (hx : p.tables.exec = Jvm.exec) (hb : c.code = cc) (hl : LR N0 bv lsC nL ls) (hh : HR N0 Dg cA H Hp) (hv : va_S (fun q : Nat => N0 ≤ q) s.heap Hp locs) (hK : va_K Dg vwCl (tysF cA) s) (hB : BS N0 bv S s) (hd : decode cc pc = .ok (.arraylength, 1)) (hs : stepA S .arraylength a1 b1 c1 e1 v1 pc ls st H = some y) (kk : KK N0 Dg cA bv p l e0 R s m args below meth c Q cells slots nL H y) : W p l e0 R s m args below meth c Hp locs cells slots Q (F0 m pc lsC (st.map (cv N0 bv))) := by
  dsimp only [stepA, ite1] at hs
  split at hs
  · rename_i o r
    split at hs
    · rename_i hk
      obtain rfl := Option.some.inj hs
      obtain ⟨-, hc⟩ := hh.arr (a := 20) (by omega) (by omega) hk
      exact W.alen hx hb hc ((hK.2 0 _ rfl).1 _ _) (by rw [arrV_size]) rfl rfl hd (kk.same hl hh hv)
    · cases hs
  · rename_i j r
    split at hs
    · rename_i hj
      obtain rfl := Option.some.inj hs
      obtain ⟨t, q1, q2⟩ := bI_T hB hj
      rw [List.map_cons, show cv N0 bv (.retAddr j) = bv j from rfl, q1]
      exact va_tlen hx hb q2 hv rfl hd (kk.same hl hh hv)
    · split at hs
      · rename_i hj
        obtain rfl := Option.some.inj hs
        obtain ⟨-, -, -, adK, adV, h4, h5, -⟩ := hB
        have q1 := (h5 (j - 13) (by omega)).2
        rw [show 13 + (j - 13) = j by omega] at q1
        rw [List.map_cons, show cv N0 bv (.retAddr j) = bv j from rfl, q1]
        exact va_tlen hx hb (bB_T h4 hj) hv rfl hd (kk.same hl hh hv)
      · cases hs
  · cases hs
theorem ss_iaload (hx : p.tables.exec = Jvm.exec) (hb : c.code = cc) (hl : LR N0 bv lsC nL ls) (hh : HR N0 Dg cA H Hp) (hv : va_S (fun q : Nat => N0 ≤ q) s.heap Hp locs) (hK : va_K Dg vwCl (tysF cA) s) (hB : BS N0 bv S s) (hd : decode cc pc = .ok (.iaload, 1)) (hs : stepA S .iaload a1 b1 c1 e1 v1 pc ls st H = some y) (kk : KK N0 Dg cA bv p l e0 R s m args below meth c Q cells slots nL H y) : W p l e0 R s m args below meth c Hp locs cells slots Q (F0 m pc lsC (st.map (cv N0 bv))) := by
  dsimp only [stepA, ite1] at hs
  split at hs
  · rename_i i o r
    split at hs
    · rename_i hc
      obtain ⟨hk, hi⟩ := hc
      obtain rfl := Option.some.inj hs
      obtain ⟨-, hc⟩ := hh.arr (a := 20) (by omega) (by omega) hk
      have hlt : i.toNatClampNeg < sz H o := Nat.not_le.mp fun q => hi (Or.inr q)
      have hval : arrF N0 H o i.toNatClampNeg = .int (aI H o i.toNatClampNeg) := by
        unfold arrF
        rw [if_pos hk]
      exact W.iald hx hb hc ((hK.2 0 _ rfl).1 _ _) (fun q => by cases q) (by rw [arrV_size]; exact hi) ((arrV_read _ _ hlt).trans (congrArg some hval)) rfl rfl hd (kk.same hl hh hv)
    · cases hs
  · rename_i i j r
    split at hs
    · rename_i hc
      obtain ⟨hj, hi⟩ := hc
      obtain rfl := Option.some.inj hs
      obtain ⟨t, q1, q2⟩ := bI_T hB hj
      rw [List.map_cons, List.map_cons, show cv N0 bv (.retAddr j) = bv j from rfl, q1]
      exact va_ti hx hb q2 hv hi rfl hd (kk.same hl hh hv)
    · cases hs
  · cases hs
theorem ss_laload (hx : p.tables.exec = Jvm.exec) (hb : c.code = cc) (hl : LR N0 bv lsC nL ls) (hh : HR N0 Dg cA H Hp) (hv : va_S (fun q : Nat => N0 ≤ q) s.heap Hp locs) (hK : va_K Dg vwCl (tysF cA) s) (hB : BS N0 bv S s) (hd : decode cc pc = .ok (.laload, 1)) (hs : stepA S .laload a1 b1 c1 e1 v1 pc ls st H = some y) (kk : KK N0 Dg cA bv p l e0 R s m args below meth c Q cells slots nL H y) : W p l e0 R s m args below meth c Hp locs cells slots Q (F0 m pc lsC (st.map (cv N0 bv))) := by
  dsimp only [stepA, ite1] at hs
  split at hs
  · rename_i i o r
    split at hs
    · rename_i hc
      obtain ⟨hk, hi⟩ := hc
      obtain rfl := Option.some.inj hs
      obtain ⟨-, hc⟩ := hh.arr (a := 21) (by omega) (by omega) hk
      have hlt : i.toNatClampNeg < sz H o := Nat.not_le.mp fun q => hi (Or.inr q)
      have hval : arrF N0 H o i.toNatClampNeg = .long (aJ H o i.toNatClampNeg) := by
        unfold arrF
        rw [if_neg (by omega), if_pos hk]
      exact W.lald hx hb hc ((hK.2 1 _ rfl).1 _ _) (fun q => by cases q) (by rw [arrV_size]; exact hi) ((arrV_read _ _ hlt).trans (congrArg some hval)) rfl rfl hd (kk.same hl hh hv)
    · cases hs
  · cases hs
theorem ss_baload (hx : p.tables.exec = Jvm.exec) (hb : c.code = cc) (hl : LR N0 bv lsC nL ls) (hh : HR N0 Dg cA H Hp) (hv : va_S (fun q : Nat => N0 ≤ q) s.heap Hp locs) (hK : va_K Dg vwCl (tysF cA) s) (hB : BS N0 bv S s) (hd : decode cc pc = .ok (.baload, 1)) (hs : stepA S .baload a1 b1 c1 e1 v1 pc ls st H = some y) (kk : KK N0 Dg cA bv p l e0 R s m args below meth c Q cells slots nL H y) : W p l e0 R s m args below meth c Hp locs cells slots Q (F0 m pc lsC (st.map (cv N0 bv))) := by
  dsimp only [stepA, ite1] at hs
  split at hs
  · rename_i i o r
    split at hs
    · rename_i hc
      obtain ⟨hk, hi⟩ := hc
      obtain rfl := Option.some.inj hs
      obtain ⟨-, hc⟩ := hh.arr (a := 22) (by omega) (by omega) hk
      have hlt : i.toNatClampNeg < sz H o := Nat.not_le.mp fun q => hi (Or.inr q)
      have hval : arrF N0 H o i.toNatClampNeg = .int (bz (aI H o i.toNatClampNeg)) := by
        unfold arrF
        rw [if_neg (by omega), if_neg (by omega), if_pos hk]
      exact W.zald hx hb hc ((hK.2 2 _ rfl).1 _ _) (fun q => by cases q) (by rw [arrV_size]; exact hi) ((arrV_read _ _ hlt).trans (congrArg some hval)) rfl rfl hd (kk.same hl hh hv)
    · cases hs
  · rename_i i j r
    split at hs
    · rename_i hc
      obtain ⟨hj, hi⟩ := hc
      obtain rfl := Option.some.inj hs
      obtain ⟨-, -, -, adK, adV, h4, h5, -⟩ := hB
      have q1 := (h5 (j - 13) (by omega)).2
      rw [show 13 + (j - 13) = j by omega] at q1
      rw [List.map_cons, List.map_cons, show cv N0 bv (.retAddr j) = bv j from rfl, q1]
      exact va_tb hx hb (bB_T h4 hj) hv hi rfl hd (kk.same hl hh hv)
    · cases hs
  · cases hs
theorem ss_aaload (hx : p.tables.exec = Jvm.exec) (hb : c.code = cc) (hl : LR N0 bv lsC nL ls) (hh : HR N0 Dg cA H Hp) (hv : va_S (fun q : Nat => N0 ≤ q) s.heap Hp locs) (hK : va_K Dg vwCl (tysF cA) s) (hB : BS N0 bv S s) (hd : decode cc pc = .ok (.aaload, 1)) (hs : stepA S .aaload a1 b1 c1 e1 v1 pc ls st H = some y) (kk : KK N0 Dg cA bv p l e0 R s m args below meth c Q cells slots nL H y) : W p l e0 R s m args below meth c Hp locs cells slots Q (F0 m pc lsC (st.map (cv N0 bv))) := by
  dsimp only [stepA, ite1] at hs
  split at hs
  · rename_i i o r
    split at hs
    · rename_i hc
      obtain ⟨hk, hi⟩ := hc
      obtain rfl := Option.some.inj hs
      obtain ⟨-, hc⟩ := hh.arr (a := 23) (by omega) (by omega) hk
      have hlt : i.toNatClampNeg < sz H o := Nat.not_le.mp fun q => hi (Or.inr q)
      have hval : arrF N0 H o i.toNatClampNeg = cv N0 bv (rv (aR H o i.toNatClampNeg)) := by
        unfold arrF
        rw [if_neg (by omega), if_neg (by omega), if_neg (by omega), cv_rv]
      exact W.aald hx hb hc ((hK.2 3 _ rfl).1 _ _) rfl (fun q => by cases q) (by rw [arrV_size]; exact hi) ((arrV_read _ _ hlt).trans (congrArg some hval)) rfl rfl hd (kk.same hl hh hv)
    · cases hs
  · cases hs
theorem ss_iastore (hx : p.tables.exec = Jvm.exec) (hb : c.code = cc) (hl : LR N0 bv lsC nL ls) (hh : HR N0 Dg cA H Hp) (hv : va_S (fun q : Nat => N0 ≤ q) s.heap Hp locs) (hK : va_K Dg vwCl (tysF cA) s) (hB : BS N0 bv S s) (hd : decode cc pc = .ok (.iastore, 1)) (hs : stepA S .iastore a1 b1 c1 e1 v1 pc ls st H = some y) (kk : KK N0 Dg cA bv p l e0 R s m args below meth c Q cells slots nL H y) : W p l e0 R s m args below meth c Hp locs cells slots Q (F0 m pc lsC (st.map (cv N0 bv))) := by
  dsimp only [stepA, ite1] at hs
  split at hs
  · rename_i x i o r
    split at hs
    · rename_i hc
      obtain ⟨hk, hi⟩ := hc
      obtain rfl := Option.some.inj hs
      obtain ⟨-, hc⟩ := hh.arr (a := 20) (by omega) (by omega) hk
      refine W.iast hx hb hc ((hK.2 0 _ rfl).1 _ _) (fun q => by cases q) (by rw [arrV_size]; exact hi) rfl rfl hd fun Hp1 g1 g2 g3 => ?_
      refine kk.mod rfl hl (hh.store (o := o) rfl (fun k hk j => by rw [aI_sI, if_neg (fun z => hk z.1)]) (fun _ _ _ => rfl) (fun _ _ _ => rfl) g2 g3 ?_) (hv.put g2 g3 (Nat.le_add_right _ _))
      unfold cellAt
      rw [show kd (sI H o i.toNatClampNeg x) o = 20 from hk, if_pos (by omega), g1, arrV_store, arrF_20 hk, arrF_20 (H := sI H o i.toNatClampNeg x) hk]
      refine congrArg some (congrArg _ (funext fun j => ?_))
      show (if j = i.toNatClampNeg then _ else _) = Value.int (if o = o ∧ j = i.toNatClampNeg then x else _)
      by_cases e : j = i.toNatClampNeg
      · rw [if_pos e, if_pos ⟨rfl, e⟩]
      · rw [if_neg e, if_neg (fun z => e z.2)]
        rfl
    · cases hs
  · cases hs
theorem ss_lastore (hx : p.tables.exec = Jvm.exec) (hb : c.code = cc) (hl : LR N0 bv lsC nL ls) (hh : HR N0 Dg cA H Hp) (hv : va_S (fun q : Nat => N0 ≤ q) s.heap Hp locs) (hK : va_K Dg vwCl (tysF cA) s) (hB : BS N0 bv S s) (hd : decode cc pc = .ok (.lastore, 1)) (hs : stepA S .lastore a1 b1 c1 e1 v1 pc ls st H = some y) (kk : KK N0 Dg cA bv p l e0 R s m args below meth c Q cells slots nL H y) : W p l e0 R s m args below meth c Hp locs cells slots Q (F0 m pc lsC (st.map (cv N0 bv))) := by
  dsimp only [stepA, ite1] at hs
  split at hs
  · rename_i x i o r
    split at hs
    · rename_i hc
      obtain ⟨hk, hi⟩ := hc
      obtain rfl := Option.some.inj hs
      obtain ⟨-, hc⟩ := hh.arr (a := 21) (by omega) (by omega) hk
      refine W.last hx hb hc ((hK.2 1 _ rfl).1 _ _) (fun q => by cases q) (by rw [arrV_size]; exact hi) rfl rfl hd fun Hp1 g1 g2 g3 => ?_
      refine kk.mod rfl hl (hh.store (o := o) rfl (fun _ _ _ => rfl) (fun k hk j => by rw [aJ_sJ, if_neg (fun z => hk z.1)]) (fun _ _ _ => rfl) g2 g3 ?_) (hv.put g2 g3 (Nat.le_add_right _ _))
      unfold cellAt
      rw [show kd (sJ H o i.toNatClampNeg x) o = 21 from hk, if_pos (by omega), g1, arrV_store, arrF_21 hk, arrF_21 (H := sJ H o i.toNatClampNeg x) hk]
      refine congrArg some (congrArg _ (funext fun j => ?_))
      show (if j = i.toNatClampNeg then _ else _) = Value.long (if o = o ∧ j = i.toNatClampNeg then x else _)
      by_cases e : j = i.toNatClampNeg
      · rw [if_pos e, if_pos ⟨rfl, e⟩]
      · rw [if_neg e, if_neg (fun z => e z.2)]
        rfl
    · cases hs
  · cases hs
theorem ss_bastore (hx : p.tables.exec = Jvm.exec) (hb : c.code = cc) (hl : LR N0 bv lsC nL ls) (hh : HR N0 Dg cA H Hp) (hv : va_S (fun q : Nat => N0 ≤ q) s.heap Hp locs) (hK : va_K Dg vwCl (tysF cA) s) (hB : BS N0 bv S s) (hd : decode cc pc = .ok (.bastore, 1)) (hs : stepA S .bastore a1 b1 c1 e1 v1 pc ls st H = some y) (kk : KK N0 Dg cA bv p l e0 R s m args below meth c Q cells slots nL H y) : W p l e0 R s m args below meth c Hp locs cells slots Q (F0 m pc lsC (st.map (cv N0 bv))) := by
  dsimp only [stepA, ite1] at hs
  split at hs
  · rename_i x i o r
    split at hs
    · rename_i hc
      obtain ⟨hk, hi, h01⟩ := hc
      obtain rfl := Option.some.inj hs
      obtain ⟨-, hc⟩ := hh.arr (a := 22) (by omega) (by omega) hk
      refine W.zast hx hb hc ((hK.2 2 _ rfl).1 _ _) (fun q => by cases q) (by rw [arrV_size]; exact hi) rfl rfl hd fun Hp1 g1 g2 g3 => ?_
      refine kk.mod rfl hl (hh.store (o := o) rfl (fun k hk j => by rw [aI_sI, if_neg (fun z => hk z.1)]) (fun _ _ _ => rfl) (fun _ _ _ => rfl) g2 g3 ?_) (hv.put g2 g3 (Nat.le_add_right _ _))
      unfold cellAt
      rw [show kd (sI H o i.toNatClampNeg x) o = 22 from hk, if_pos (by omega), g1, arrV_store, arrF_22 hk, arrF_22 (H := sI H o i.toNatClampNeg x) hk]
      refine congrArg some (congrArg _ (funext fun j => ?_))
      show (if j = i.toNatClampNeg then _ else _) = Value.int (bz (if o = o ∧ j = i.toNatClampNeg then x else _))
      by_cases e : j = i.toNatClampNeg
      · rw [if_pos e, if_pos ⟨rfl, e⟩]
        rw [bz01 h01]
        exact (okv_b x).mpr h01
      · rw [if_neg e, if_neg (fun z => e z.2)]
        rfl
    · cases hs
  · cases hs
theorem ss_aastore (hx : p.tables.exec = Jvm.exec) (hb : c.code = cc) (hl : LR N0 bv lsC nL ls) (hh : HR N0 Dg cA H Hp) (hv : va_S (fun q : Nat => N0 ≤ q) s.heap Hp locs) (hK : va_K Dg vwCl (tysF cA) s) (hB : BS N0 bv S s) (hd : decode cc pc = .ok (.aastore, 1)) (hs : stepA S .aastore a1 b1 c1 e1 v1 pc ls st H = some y) (kk : KK N0 Dg cA bv p l e0 R s m args below meth c Q cells slots nL H y) : W p l e0 R s m args below meth c Hp locs cells slots Q (F0 m pc lsC (st.map (cv N0 bv))) := by
  dsimp only [stepA, ite1] at hs
  split at hs
  · rename_i x i o r
    split at hs
    · rename_i hc
      obtain ⟨hk, hi, hkx⟩ := hc
      obtain rfl := Option.some.inj hs
      obtain ⟨-, hc⟩ := hh.arr (a := 23) (by omega) (by omega) hk
      obtain ⟨-, cellV, q1, q2, q3, -⟩ := hh.obj (a := 4) (r := (RX4, TX4, 3)) rfl hkx
      have hcls := (hK.1 4 (RX4, TX4, 3) rfl).2
      obtain ⟨kA, comp, k1, k2, k3, -⟩ := (hK.2 3 (cA 23, .object "MilestoneMaids$Tape") rfl).2
      obtain rfl : comp = Dg.1 4 := Option.some.inj (k3.symm.trans hcls.1)
      obtain ⟨kC, hkC, -⟩ := hcls.2
      have hlt : i.toNatClampNeg < sz H o := Nat.not_le.mp fun q => hi (Or.inr q)
      refine W.aast hx hb hc (fun q h => by cases h) (fun h => by cases h) k1 k2 rfl hkC ⟨fun q => hi (Or.inl q), by rw [arrV_size]; exact hlt⟩ q1 (fun q h => by rw [q3] at h; cases h) (by rw [q2]; exact hkC) (by rw [q2]; exact va_assign hcls) rfl rfl hd fun Hp1 g1 g2 g3 => ?_
      refine kk.mod rfl hl (hh.store (o := o) rfl (fun _ _ _ => rfl) (fun _ _ _ => rfl) (fun k hk j => by rw [aR_sR, if_neg (fun z => hk z.1)]) g2 g3 ?_) (hv.put g2 g3 (Nat.le_add_right _ _))
      unfold cellAt
      rw [show kd (sR H o i.toNatClampNeg (some x)) o = 23 from hk, if_pos (by omega), g1, arrV_store, arrF_23 hk, arrF_23 (H := sR H o i.toNatClampNeg (some x)) hk]
      refine congrArg some (congrArg _ (funext fun j => ?_))
      show (if j = i.toNatClampNeg then _ else _) = rvC N0 (if o = o ∧ j = i.toNatClampNeg then some x else _)
      by_cases e : j = i.toNatClampNeg
      · rw [if_pos e, if_pos ⟨rfl, e⟩]
        rfl
      · rw [if_neg e, if_neg (fun z => e z.2)]
        rfl
    · cases hs
  · cases hs
theorem ss_objInit {i : Nat} {own : String} (hx : p.tables.exec = Jvm.exec) (hb : c.code = cc) (hnL : c.maxLocals = nL) (hl : LR N0 bv lsC nL ls) (hh : HR N0 Dg cA H Hp) (hv : va_S (fun q : Nat => N0 ≤ q) s.heap Hp locs) (hown : s.vm.findClass own = some m.cls) (hlink : (Jvm.Cond.methodLink own i Lib.objectInit).before args s = true) (hinst : (Jvm.Cond.instanceMethod Lib.objectInit).before args s = true) (hcode : (Jvm.Cond.code Lib.objectInit ⟨#[0xb1]⟩ 1 none).before args s = true) (ha : a1 = 1001) (hR : 1 ≤ R.frames ∧ 64 ≤ R.locals) (hd : decode cc pc = .ok (.invokespecial i, 3))
    (hs : stepA S (.invokespecial i) a1 b1 c1 e1 v1 pc ls st H = some y) (kk : KK N0 Dg cA bv p l e0 R s m args below meth c Q cells slots nL H y) : W p l e0 R s m args below meth c Hp locs cells slots Q (F0 m pc lsC (st.map (cv N0 bv))) := by
  dsimp only [stepA] at hs
  rw [if_pos ha] at hs
  split at hs
  · rename_i o
    obtain rfl := Option.some.inj hs
    exact W.objInit hx hb hown hlink hinst hcode rfl (hl.1.trans hnL.symm) rfl hd hR.1 (by show 0 + 0 + 12 ≤ _; omega) (kk.same hl hh hv)
  · cases hs
theorem cat_le : ∀ L : List Value, (L.map fun v => v.category).sum ≤ 2 * L.length
  | [] => Nat.le_refl 0
  | v :: r => by
    have h1 := cat_le r
    have h2 : v.category ≤ 2 := by rcases lv_cat v with h | h <;> omega
    simp only [List.map_cons, List.sum_cons, List.length_cons]
    omega
theorem ss_min {i : Nat} {own : String} (hx : p.tables.exec = Jvm.exec) (hb : c.code = cc) (hnL : c.maxLocals = nL) (hl : LR N0 bv lsC nL ls) (hh : HR N0 Dg cA H Hp) (hv : va_S (fun q : Nat => N0 ≤ q) s.heap Hp locs) (hown : s.vm.findClass own = some m.cls) (hlink : (Jvm.Cond.methodLink own i Lib.Math.min.name).before args s = true) (h1 : (Jvm.Cond.static Lib.Math.min.name).before args s = true) (h2 : (Jvm.Cond.initialized "java/lang/Math").before args s = true) (h3 : (Jvm.Cond.code Lib.Math.min.name Lib.Math.min.code 2 (some .int)).before args s = true) (ha : a1 = 1002) (hR : 1 ≤ R.frames ∧ 64 ≤ R.locals) (hR2 : cells ≤ R.cells ∧ slots ≤ R.slots) (hd : decode cc pc = .ok (.invokestatic i, 3))
    (hs : stepA S (.invokestatic i) a1 b1 c1 e1 v1 pc ls st H = some y) (kk : KK N0 Dg cA bv p l e0 R s m args below meth c Q cells slots nL H y) : W p l e0 R s m args below meth c Hp locs cells slots Q (F0 m pc lsC (st.map (cv N0 bv))) := by
  dsimp only [stepA, ite1] at hs
  rw [if_pos ha] at hs
  split at hs
  · rename_i y x r
    split at hs
    · rename_i hr
      obtain rfl := Option.some.inj hs
      have hc := cat_le (r.map (cv N0 bv))
      rw [List.length_map] at hc
      exact va_mmin hx hb (hnL.trans hl.1.symm) hown hlink h1 h2 h3 hR.1 (by omega) hR2.1 hR2.2 hd (kk.same hl hh hv)
    · cases hs
  · cases hs
theorem nn_i (z : Int32) (hz : ¬ z < 0) : z.toInt = (z.toNatClampNeg : Int) := by
  have hz0 : (0 : Int) ≤ z.toInt := by
    have := Int32.not_lt.mp hz
    simpa using Int32.le_iff_toInt_le.mp this
  show z.toInt = ((z.toInt.toNat : Nat) : Int)
  omega
/-- arraycopy of a row of a sort, cell by cell -/
theorem cp_run {i : Nat} {own : String} {a : Nat} {ty : FieldType} {mk : Nat → Nat → Value} {H1 : AH} {s0 o : Nat} {sp dp n : Int32} (hx : p.tables.exec = Jvm.exec) (hb : c.code = cc) (hnL : c.maxLocals = nL) (hl : LR N0 bv lsC nL ls) (hh : HR N0 Dg cA H Hp) (hv : va_S (fun q : Nat => N0 ≤ q) s.heap Hp locs) (hArr : ArrOfT s (cA a) ty) (hown : s.vm.findClass own = some m.cls) (hlink : (Jvm.Cond.methodLink own i arraycopyName).before args s = true) (hnat : (Jvm.Cond.native arraycopyName).before args s = true) (hstat : (Jvm.Cond.static arraycopyName).before args s = true) (hini : (Jvm.Cond.initialized "java/lang/System").before args s = true) (hR : 1 ≤ R.frames ∧ 64 ≤ R.locals)
    (ha : 20 ≤ a ∧ a < 99) (hs0 : kd H s0 = a) (ho : kd H o = a) (hprim : refKind ty = false) (h1 : ¬ sp < 0) (h2 : ¬ dp < 0) (h3 : ¬ n < 0) (h4 : sp.toNatClampNeg + n.toNatClampNeg ≤ sz H s0) (h5 : dp.toNatClampNeg + n.toNatClampNeg ≤ sz H o) (hmk : ∀ k, kd H k = a → arrF N0 H k = mk k) (hfit : ∀ k j, fits ty (mk k j) = true) (htk : ∀ (U : State) (q : ClassId) (k j : Nat), U.takes q (mk k j))
    (hH1 : H1.1 = H.1) (hI : ∀ k, k ≠ o → ∀ j, aI H1 k j = aI H k j) (hJ : ∀ k, k ≠ o → ∀ j, aJ H1 k j = aJ H k j) (hRR : ∀ k, k ≠ o → ∀ j, aR H1 k j = aR H k j) (hnew : arrF N0 H1 o = va_cpy (mk s0) (mk o) sp.toNatClampNeg dp.toNatClampNeg n.toNatClampNeg) (hd : decode cc pc = .ok (.invokestatic i, 3))
    (kk : ∀ (Hp1 : Heap) (locs1 : List Loc), HR N0 Dg cA H1 Hp1 → va_S (fun q : Nat => N0 ≤ q) s.heap Hp1 locs1 → W p l e0 R s m args below meth c Hp1 locs1 cells slots Q (F0 m (pc + 3) lsC [])) : W p l e0 R s m args below meth c Hp locs cells slots Q (F0 m pc lsC [.int n, .int dp, .ref (N0 + o), .int sp, .ref (N0 + s0)]) := by
  intro T hT X
  obtain ⟨-, hc0⟩ := hh.arr (a := a) ha.1 ha.2 hs0
  obtain ⟨ho2, hc1⟩ := hh.arr (a := a) ha.1 ha.2 ho
  rw [hmk s0 hs0] at hc0
  rw [hmk o ho] at hc1
  obtain ⟨-, k0, hk0, cm0, hkk0⟩ := hArr (sz H s0) (mk s0)
  obtain ⟨-, k1, hk1, cm1, hkk1⟩ := hArr (sz H o) (mk o)
  obtain ⟨vm', X', step⟩ := X.arraycopy hx hown hlink hnat hstat hini (src := N0 + s0) (dst := N0 + o) (cs := arrV (cA a) (sz H s0) (mk s0)) (cd := arrV (cA a) (sz H o) (mk o)) (srcPos := sp) (destPos := dp) (n := n) (by rw [hT]; exact hc0) (by rw [hT]; exact hc1)
    (fun _ h => by cases h) (fun _ h => by cases h) (fun h => by cases h) (fun h => by cases h) hk0 hk1 hkk0 hkk1 (by simp [hprim]) h1 h2 h3
    (by rw [nn_i sp h1, nn_i n h3, arrV_size]; omega) (by rw [nn_i dp h2, nn_i n h3, arrV_size]; omega)
    (fun vm₁ _ j hj => by
      have e : (arrV (cA a) (sz H s0) (mk s0)).slots.getD (sp.toNatClampNeg + j) .null = mk s0 (sp.toNatClampNeg + j) := by
        rw [Array.getD_eq_getD_getElem?, arrV_read _ _ (by omega)]
        rfl
      rw [e]
      exact ⟨hfit _ _, htk _ _ _ _⟩)
    (g := F0 m pc lsC [.int n, .int dp, .ref (N0 + o), .int sp, .ref (N0 + s0)]) rfl (hl.1.trans hnL.symm) (rest := []) rfl (by rw [hb]; exact hd) hR.1 (by show 0 + 0 + (nativeFrameWords "java/lang/System" "arraycopy" 5 + 11) ≤ _; exact Nat.le_trans (by decide +kernel) hR.2)
  have e1 : copied (arrV (cA a) (sz H s0) (mk s0)) (arrV (cA a) (sz H o) (mk o)) sp dp n = arrV (cA a) (sz H o) (va_cpy (mk s0) (mk o) sp.toNatClampNeg dp.toNatClampNeg n.toNatClampNeg) := by
    have := va_copied (fun z : Value => z) (cA a) (cA a) (n1 := sz H o) (dp := dp.toNatClampNeg) (mk s0) (mk o) h4
    exact this
  rw [e1] at X' step
  generalize hH2 : Hp.setIfInBounds (N0 + o) (arrV (cA a) (sz H o) (va_cpy (mk s0) (mk o) sp.toNatClampNeg dp.toNatClampNeg n.toNatClampNeg)) = Hp1
  have hheap : ((T.setVm vm').setCell (N0 + o) (arrV (cA a) (sz H o) (va_cpy (mk s0) (mk o) sp.toNatClampNeg dp.toNatClampNeg n.toNatClampNeg))).heap = Hp1 := by rw [← hH2, ← hT]; rfl
  have oq : ∀ q : Nat, q ≠ N0 + o → Hp1[q]? = Hp[q]? := fun q hq => by rw [← hH2]; simp [Array.getElem?_setIfInBounds, Ne.symm hq]
  have oz : Hp1.size = Hp.size := by rw [← hH2]; simp
  have oc : Hp1[N0 + o]? = some (arrV (cA a) (sz H o) (va_cpy (mk s0) (mk o) sp.toNatClampNeg dp.toNatClampNeg n.toNatClampNeg)) := by
    rw [← hH2]
    have : N0 + o < Hp.size := by rw [hh.1]; omega
    simp [Array.getElem?_setIfInBounds, this]
  have hHR : HR N0 Dg cA H1 Hp1 := by
    refine hh.store hH1 hI hJ hRR oz oq ?_
    have hk1 : kd H1 o = a := by unfold kd; rw [hH1]; exact ho
    have hz1 : sz H1 o = sz H o := by unfold sz; rw [hH1]
    unfold cellAt
    rw [hk1, if_pos ha.1, hz1, hnew]
    exact oc
  obtain ⟨t, a2, b2⟩ := kk Hp1 _ hHR ⟨by rw [oz]; exact hv.1, fun q g1 g2 => by
      rw [oq q (fun e => g2 (by show N0 ≤ q; omega))]
      exact hv.2.1 q g1 g2, fun q hq => by
      rcases List.mem_append.mp hq with h | h
      · exact hv.2.2 q h
      · obtain ⟨z, -, hz⟩ := List.mem_map.mp h
        rw [← hz]
        exact Nat.le_add_right _ _⟩ _ hheap X'
  exact ⟨t, step t a2, b2⟩
theorem cpy_mk {α : Type} (f : α → Value) (g h : Nat → α) (sp dp n : Nat) : (fun j => f (va_cpy g h sp dp n j)) = va_cpy (fun j => f (g j)) (fun j => f (h j)) sp dp n := by
  funext j
  unfold va_cpy
  split <;> rfl
theorem ss_copy {i : Nat} {own : String} (hx : p.tables.exec = Jvm.exec) (hb : c.code = cc) (hnL : c.maxLocals = nL) (hl : LR N0 bv lsC nL ls) (hh : HR N0 Dg cA H Hp) (hv : va_S (fun q : Nat => N0 ≤ q) s.heap Hp locs) (hK : va_K Dg vwCl (tysF cA) s) (hown : s.vm.findClass own = some m.cls) (hlink : (Jvm.Cond.methodLink own i arraycopyName).before args s = true) (hnat : (Jvm.Cond.native arraycopyName).before args s = true) (hstat : (Jvm.Cond.static arraycopyName).before args s = true) (hini : (Jvm.Cond.initialized "java/lang/System").before args s = true) (ha : a1 = 1000) (hR : 1 ≤ R.frames ∧ 64 ≤ R.locals) (hd : decode cc pc = .ok (.invokestatic i, 3))
    (hs : stepA S (.invokestatic i) a1 b1 c1 e1 v1 pc ls st H = some y) (kk : KK N0 Dg cA bv p l e0 R s m args below meth c Q cells slots nL H y) : W p l e0 R s m args below meth c Hp locs cells slots Q (F0 m pc lsC (st.map (cv N0 bv))) := by
  dsimp only [stepA, ite1] at hs
  rw [if_neg (by omega), if_pos ha] at hs
  split at hs
  · rename_i n dp o sp s0
    split at hs
    · split at hs
      · rename_i hc
        obtain ⟨g1, g2, g3, g4, g5, g6, g7⟩ := hc
        obtain rfl := Option.some.inj hs
        have hkc : kd (cI H s0 sp.toNatClampNeg o dp.toNatClampNeg n.toNatClampNeg) o = 20 := g2
        refine cp_run (a := 20) (ty := .int) (mk := fun k j => .int (aI H k j)) (H1 := cI H s0 sp.toNatClampNeg o dp.toNatClampNeg n.toNatClampNeg) hx hb hnL hl hh hv (hK.2 0 _ rfl).1 hown hlink hnat hstat hini hR (by omega) g1 g2 rfl g3 g4 g5 g6 g7 (fun k hk => funext fun j => by unfold arrF; rw [if_pos hk]) (fun _ _ => rfl) (fun _ _ _ _ => trivial) rfl (fun k hk j => by show (if k = o then _ else _) = _; rw [if_neg hk]; rfl) (fun _ _ _ => rfl) (fun _ _ _ => rfl) ?_ hd (fun Hp1 locs1 f1 f2 => kk.mod rfl hl f1 f2)
        refine Eq.trans ?_ (cpy_mk Value.int (aI H s0) (aI H o) _ _ _)
        funext j
        unfold arrF
        rw [if_pos hkc]
        show Value.int (if o = o then _ else _) = _
        rw [if_pos rfl]
        rfl
      · cases hs
    · split at hs
      · rename_i hc
        obtain ⟨g1, g2, g3, g4, g5, g6, g7⟩ := hc
        obtain rfl := Option.some.inj hs
        have hkc : kd (cJ H s0 sp.toNatClampNeg o dp.toNatClampNeg n.toNatClampNeg) o = 21 := g2
        refine cp_run (a := 21) (ty := .long) (mk := fun k j => .long (aJ H k j)) (H1 := cJ H s0 sp.toNatClampNeg o dp.toNatClampNeg n.toNatClampNeg) hx hb hnL hl hh hv (hK.2 1 _ rfl).1 hown hlink hnat hstat hini hR (by omega) g1 g2 rfl g3 g4 g5 g6 g7 (fun k hk => funext fun j => by unfold arrF; rw [if_neg (by omega), if_pos hk]) (fun _ _ => rfl) (fun _ _ _ _ => trivial) rfl (fun _ _ _ => rfl) (fun k hk j => by show (if k = o then _ else _) = _; rw [if_neg hk]; rfl) (fun _ _ _ => rfl) ?_ hd (fun Hp1 locs1 f1 f2 => kk.mod rfl hl f1 f2)
        refine Eq.trans ?_ (cpy_mk Value.long (aJ H s0) (aJ H o) _ _ _)
        funext j
        unfold arrF
        rw [hkc, if_neg (by omega), if_pos rfl]
        show Value.long (if o = o then _ else _) = _
        rw [if_pos rfl]
        rfl
      · cases hs
  · cases hs
end HEAPS
