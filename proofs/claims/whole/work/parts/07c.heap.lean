-- 92: a step that reads or writes the heap
def tysF (cA : Nat → ClassId) : List (ClassId × FieldType) := [(cA 20, .int), (cA 21, .long), (cA 22, .boolean), (cA 23, .object "MilestoneMaids$Tape")]
def strIx : List (Nat × Nat × String) := [(57, 0, "heed"), (59, 1, "deaf"), (61, 2, "many"), (91, 3, "lkvmfd"), (97, 4, "<=>"), (99, 5, "0123456789")]
def strN : List Nat := [4, 4, 4, 6, 3, 10]
/-- what was there before the law began: the script, the statics, the text constants -/
def BS (N0 : Nat) (bv : Nat → Value) (S : SC) (U : State) : Prop :=
  (va_AO "MilestoneMaids$Tape" U ∧ (∀ j, bv j = .null ∨ ∃ t, bv j = .ref t) ∧
  (∃ t, bv 0 = .ref t ∧ va_T .int t S.1 (fun j => .int (S.2 j)) (fun q : Nat => N0 ≤ q) U U.heap) ∧
  (∃ t, bv 1 = .ref t ∧ va_Z "MilestoneMaids" "KIND_ABOVE" "[I" (.ref t) (fun q : Nat => N0 ≤ q) U U.heap ∧ va_T .int t 7 (fun j => .int (kaL.getD j 0)) (fun q : Nat => N0 ≤ q) U U.heap) ∧
  (∃ t, bv 2 = .ref t ∧ va_Z "MilestoneMaids" "BODIES" "[I" (.ref t) (fun q : Nat => N0 ≤ q) U U.heap ∧ va_T .int t 21 (fun j => .int (bodL.getD j 0)) (fun q : Nat => N0 ≤ q) U U.heap)) ∧
  va_Z "java/lang/String" "COMPACT_STRINGS" "Z" (.int 1) (fun q : Nat => N0 ≤ q) U U.heap ∧
  va_Z "jdk/internal/util/Preconditions" "SIOOBE_FORMATTER" "Ljava/util/function/BiFunction;" (bv 20) (fun q : Nat => N0 ≤ q) U U.heap ∧
  ∃ adK adV : Nat → Nat, vk_S 6 strN strL adK adV (fun q : Nat => N0 ≤ q) U U.heap ∧ (∀ i, i < 6 → bv (3 + i) = .ref (adK i) ∧ bv (13 + i) = .ref (adV i)) ∧ ∀ q ∈ strIx, vk_R "MilestoneMaids$WayReader" q.1 q.2.2 (adK q.2.1) U
theorem BS.go {N0 : Nat} {bv : Nat → Value} {S : SC} {s U : State} {locs : List Loc} (h : BS N0 bv S s) (hW : s.WarmedH U.vm) (hv : va_S (fun q : Nat => N0 ≤ q) s.heap U.heap locs) : BS N0 bv S U := by
  have hq : ∀ a : Nat, a < s.heap.size → ¬ N0 ≤ a → U.heap[a]? = s.heap[a]? := hv.2.1
  have hvm := hW.alike
  obtain ⟨⟨h1, hb, ⟨t0, a1, a2⟩, ⟨t1, b1, b2, b3⟩, ⟨t2, c1, c2, c3⟩⟩, h2, h3, adK, adV, h4, h5, h6⟩ := h
  exact ⟨⟨h1.moved hvm, hb, ⟨t0, a1, (a2.moved hvm).kept hq⟩, ⟨t1, b1, (b2.moved hvm).kept hq, (b3.moved hvm).kept hq⟩, ⟨t2, c1, (c2.moved hvm).kept hq, (c3.moved hvm).kept hq⟩⟩, (h2.moved hvm).kept hq, (h3.moved hvm).kept hq, adK, adV, (h4.moved hvm).kept hq, h5, fun q hq2 => (h6 q hq2).warm hW⟩
theorem vwCl_len : vwCl.length = 9 := rfl
theorem cls_ok : ∀ (a : Nat) (r : vw_C), vwCl[a]? = some r → (∃ ty : Nat → FieldType, (∀ k, k < r.2.2 → parseFieldDescriptor (r.2.1 k).2.2.1 = some (ty k))) ∧ (∀ i, i < r.2.2 → ∀ j, j < r.2.2 → i ≠ j → (r.2.1 i).2.1 ≠ (r.2.1 j).2.1) ∧ (∀ w ∈ u_ws r.1 r.2.1 r.2.2, w ∈ lw_tbl)
  | 0, r, h => by obtain rfl := Option.some.inj h; exact ⟨⟨tyX0, tyX0_ok⟩, nmX0, inX0⟩
  | 1, r, h => by obtain rfl := Option.some.inj h; exact ⟨⟨tyX1, tyX1_ok⟩, nmX1, inX1⟩
  | 2, r, h => by obtain rfl := Option.some.inj h; exact ⟨⟨tyX2, tyX2_ok⟩, nmX2, inX2⟩
  | 3, r, h => by obtain rfl := Option.some.inj h; exact ⟨⟨tyX3, tyX3_ok⟩, nmX3, inX3⟩
  | 4, r, h => by obtain rfl := Option.some.inj h; exact ⟨⟨tyX4, tyX4_ok⟩, nmX4, inX4⟩
  | 5, r, h => by obtain rfl := Option.some.inj h; exact ⟨⟨tyX5, tyX5_ok⟩, nmX5, inX5⟩
  | 6, r, h => by obtain rfl := Option.some.inj h; exact ⟨⟨tyX6, tyX6_ok⟩, nmX6, inX6⟩
  | 7, r, h => by obtain rfl := Option.some.inj h; exact ⟨⟨tyX7, tyX7_ok⟩, nmX7, inX7⟩
  | 8, r, h => by obtain rfl := Option.some.inj h; exact ⟨⟨tyX8, tyX8_ok⟩, nmX8, inX8⟩
  | n + 9, r, h => by simp [vwCl] at h
theorem lay_good (C : String) (T : u_T) (k : Nat) : goodWord (u_lay C T k) = true := by
  unfold u_lay
  split <;> rfl
/-- the words that a method has -/
def tblG : List Jvm.Cond := lw_tbl.filter goodWord
theorem hts_G {args : Array Value} {s : State} (hts : ∀ w ∈ lw_tbl, goodW w = true → w.before args s = true) : ∀ w ∈ tblG, w.before args s = true := fun w h => hts w (List.mem_filter.mp h).1 (goodW_of (List.mem_filter.mp h).2)
theorem cls_in {a : Nat} {r : vw_C} (h : vwCl[a]? = some r) : ∀ w ∈ u_ws r.1 r.2.1 r.2.2, w ∈ tblG := fun w hw => by
  refine List.mem_filter.mpr ⟨(cls_ok a r h).2.2 w hw, ?_⟩
  obtain ⟨k, -, rfl⟩ := List.mem_map.mp hw
  exact lay_good _ _ _
def srt (ty : FieldType) : Nat := match ty with | .int => 0 | .boolean => 1 | _ => 2
theorem srt0 {ty : FieldType} (h : srt ty = 0) : ty = .int := by cases ty <;> first | rfl | cases h
theorem srt1 {ty : FieldType} (h : srt ty = 1) : ty = .boolean := by cases ty <;> first | rfl | cases h
theorem fk_of {a b : Nat} {C : String} {T : u_T} {N : Nat} (hc : vwCl[a]? = some (C, T, N)) {ty : FieldType} (hd : parseFieldDescriptor (T b).2.2.1 = some ty) : fk a b = srt ty := by
  unfold fk
  rw [hc]
  dsimp only
  rw [hd]
  cases ty <;> rfl
section HEAPS
variable {p : Program} {l : Launch} {e0 : Env} {R : Room} {s : State} {m : MethodId} {args : Array Value} {below : List Frame} {meth : Method} {c : Code} {Q : State → Prop} {Hp : Heap} {locs : List Loc} {cells slots : Nat} {lsC : Array Slot} {N0 : Nat} {Dg : va_G} {cA : Nat → ClassId} {bv : Nat → Value} {S : SC} {cc : ByteArray} {pc nL : Nat} {ls st : List Value} {H : AH} {a1 b1 c1 e1 : Nat} {v1 : Int} {y : Nat × List Value × List Value × AH}
/-- an object of a class, of which the class' fields are -/
theorem HR.obj {a o : Nat} {r : vw_C} (hh : HR N0 Dg cA H Hp) (hc : vwCl[a]? = some r) (hk : kd H o = a) : o < aN H ∧ t_OB (N0 + o) (Dg.1 a) r.2.2 (Dg.2 a) Hp (fval N0 H a o) := by
  have ha : a < 9 := by rw [← vwCl_len]; exact (List.getElem?_eq_some_iff.mp hc).1
  have ho : o < aN H := kd_lt (by omega)
  have h1 := hh.2.1 o ho
  unfold cellAt at h1
  rw [if_neg (by omega)] at h1
  obtain ⟨r2, hr, h2⟩ := h1
  rw [hk] at hr h2
  obtain rfl := Option.some.inj (hr.symm.trans hc)
  exact ⟨ho, h2⟩
theorem HR.arr {a o : Nat} (hh : HR N0 Dg cA H Hp) (ha : 20 ≤ a) (ha2 : a < 99) (hk : kd H o = a) : o < aN H ∧ Hp[N0 + o]? = some (arrV (cA a) (sz H o) (arrF N0 H o)) := by
  have ho : o < aN H := kd_lt (by omega)
  have h1 := hh.2.1 o ho
  unfold cellAt at h1
  rw [if_pos (by omega), hk] at h1
  exact ⟨ho, h1⟩
theorem get_f {own C : String} {T : u_T} {N a b o i : Nat} {rest : List Value} (hx : p.tables.exec = Jvm.exec) (hb : c.code = cc) (hh : HR N0 Dg cA H Hp) (hK : va_K Dg vwCl (tysF cA) s) (hts : ∀ w ∈ lw_tbl, goodW w = true → w.before args s = true) (hown : s.vm.findClass own = some m.cls) (hc : vwCl[a]? = some (C, T, N)) (hk : b < N) (hw : (Jvm.Cond.fieldLink own i C (T b).2.1 (T b).2.2.1).before args s = true) (hC : (T b).1 = C) (hkd : kd H o = a) (hd : decode cc pc = .ok (.getfield i, 3))
    (kk : W p l e0 R s m args below meth c Hp locs cells slots Q (F0 m (pc + 3) lsC (fval N0 H a o b :: rest))) : W p l e0 R s m args below meth c Hp locs cells slots Q (F0 m pc lsC (.ref (N0 + o) :: rest)) := by
  obtain ⟨-, cell, q1, q2, q3, q4⟩ := hh.obj hc hkd
  obtain ⟨hS, hfc, kC, hkC, hkind⟩ := hK.1 a _ hc
  obtain ⟨cf, kf, fi, f, hi, hsl⟩ := hS b hk
  have hi2 := hi
  dsimp only at hi2
  rw [hC] at hi2
  refine W.getf hx hb hown hw hi2 (u_facts hfc hkC (u_lays (hts_G hts) (cls_in hc) hk) hi).1 q1 (by rw [q3]; exact fun h => by cases h) (v := fval N0 H a o b) ?_ rfl rfl hd kk
  rw [hsl, q4 b hk]
theorem put_f {own C : String} {T : u_T} {N a b o i : Nat} {rest : List Value} {v : Value} {ty : FieldType} {H1 : AH} (hx : p.tables.exec = Jvm.exec) (hb : c.code = cc) (hh : HR N0 Dg cA H Hp) (hv : va_S (fun q : Nat => N0 ≤ q) s.heap Hp locs) (hK : va_K Dg vwCl (tysF cA) s) (hts : ∀ w ∈ lw_tbl, goodW w = true → w.before args s = true) (hown : s.vm.findClass own = some m.cls) (hc : vwCl[a]? = some (C, T, N)) (hk : b < N) (hw : (Jvm.Cond.fieldLink own i C (T b).2.1 (T b).2.2.1).before args s = true) (hC : (T b).1 = C) (hkd : kd H o = a)
    (hfin : (T b).2.2.2 = true → own = C ∧ meth.name = "<init>") (hd0 : parseFieldDescriptor (T b).2.2.1 = some ty) (hn : narrow ty v = v) (hfit : fits ty v = true)
    (h1 : H1.1 = H.1) (hI : ∀ k, k ≠ o → ∀ j, aI H1 k j = aI H k j) (hJ : ∀ k, k ≠ o → ∀ j, aJ H1 k j = aJ H k j) (hR : ∀ k, k ≠ o → ∀ j, aR H1 k j = aR H k j) (hval : ∀ j, updV (fval N0 H a o) b v j = fval N0 H1 a o j) (hd : decode cc pc = .ok (.putfield i, 3))
    (kk : ∀ (Hp1 : Heap) (locs1 : List Loc), HR N0 Dg cA H1 Hp1 → va_S (fun q : Nat => N0 ≤ q) s.heap Hp1 locs1 → W p l e0 R s m args below meth c Hp1 locs1 cells slots Q (F0 m (pc + 3) lsC rest)) : W p l e0 R s m args below meth c Hp locs cells slots Q (F0 m pc lsC (v :: .ref (N0 + o) :: rest)) := by
  obtain ⟨-, cell, q1, q2, q3, q4⟩ := hh.obj hc hkd
  obtain ⟨⟨ty0, hty⟩, hnm, -⟩ := cls_ok a _ hc
  have hap := va_apart (own := own) (hts_G hts) (cls_in hc) ty0 hty hnm hK hc
  obtain ⟨hS, hfc, kC, hkC, hkind⟩ := hK.1 a _ hc
  obtain ⟨cf, kf, fi, f, hi, hsl⟩ := hS b hk
  have hi2 := hi
  dsimp only at hi2
  rw [hC] at hi2
  have hlay := hts_G hts _ (cls_in hc _ (u_in_lay hk))
  have hst := (u_facts hfc hkC (u_lays (hts_G hts) (cls_in hc) hk) hi).1
  have ha : a < 9 := by rw [← vwCl_len]; exact (List.getElem?_eq_some_iff.mp hc).1
  have fin : ∀ Hp1 : Heap, Hp1[N0 + o]? = some (cell.setSlot f.slot v) → Hp1.size = Hp.size → (∀ q : Nat, q ≠ N0 + o → Hp1[q]? = Hp[q]?) → HR N0 Dg cA H1 Hp1 := fun Hp1 e1 e2 e3 => by
    refine hh.store h1 hI hJ hR e2 e3 ?_
    have hkd1 : kd H1 o = a := by unfold kd; rw [h1]; exact hkd
    unfold cellAt
    rw [hkd1, if_neg (by omega)]
    rw [hsl] at e1
    exact ⟨_, hc, t_OB.to (V := updV (fval N0 H a o) b v) ⟨_, e1, q2, q3, t_set q4 hap hk v⟩ (fun j _ => hval j)⟩
  by_cases hf : (T b).2.2.2 = true
  · obtain ⟨hoc, hin⟩ := hfin hf
    unfold u_lay at hlay
    rw [if_pos hf] at hlay
    have hcf : m.cls = cf := by
      obtain ⟨_, _, c', _, _, _, -, -, hf', -, -, -, hown2, -⟩ := Cond.laysFinal_spec hlay
      have e1 : c' = cf := by have := hi.symm.trans hf'; simp at this; exact this.1.symm
      dsimp only at hown2
      rw [hC] at hown2
      rw [← e1]
      rw [hoc] at hown
      exact Option.some.inj (hown.symm.trans hown2)
    have h6 := u_fits hfc hkC hkind (Or.inr hlay) hi hd0 hn hfit
    refine W.putFinK hx hb hown hw hi2 hst hcf hin (by rw [q2]; exact h6) q1 q3 (by rw [hsl]; exact k2_hasslot (q4 b hk)) rfl rfl hd fun Hp1 e1 e2 e3 => ?_
    exact kk Hp1 _ (fin Hp1 e1 e2 e3) (hv.put e2 e3 (Nat.le_add_right _ _))
  · unfold u_lay at hlay
    rw [if_neg hf] at hlay
    have h6 := u_store hfc hkC hkind hlay hi hd0 hn hfit
    refine W.putK hx hb (f := f) ⟨hown, hw, ⟨_, _, _, hi2⟩, hst⟩ (by rw [q2]; exact h6) q1 q3 (by rw [hsl]; exact k2_hasslot (q4 b hk)) rfl rfl hd fun Hp1 e1 e2 e3 => ?_
    exact kk Hp1 _ (fin Hp1 e1 e2 e3) (hv.put e2 e3 (Nat.le_add_right _ _))
theorem aI_sI {H : AH} {k i k2 i2 : Nat} {v : Int32} : aI (sI H k i v) k2 i2 = if k2 = k ∧ i2 = i then v else aI H k2 i2 := rfl
theorem aJ_sJ {H : AH} {k i k2 i2 : Nat} {v : Int64} : aJ (sJ H k i v) k2 i2 = if k2 = k ∧ i2 = i then v else aJ H k2 i2 := rfl
theorem aR_sR {H : AH} {k i k2 i2 : Nat} {v : Option Nat} : aR (sR H k i v) k2 i2 = if k2 = k ∧ i2 = i then v else aR H k2 i2 := rfl
theorem bz01 {x : Int32} (h : x = 0 ∨ x = 1) : bz x = x := by rcases h with rfl | rfl <;> decide +kernel
theorem ss_getfield {i : Nat} {own C : String} {T : u_T} {N : Nat} (hx : p.tables.exec = Jvm.exec) (hb : c.code = cc) (hl : LR N0 bv lsC nL ls) (hh : HR N0 Dg cA H Hp) (hv : va_S (fun q : Nat => N0 ≤ q) s.heap Hp locs) (hK : va_K Dg vwCl (tysF cA) s) (hts : ∀ w ∈ lw_tbl, goodW w = true → w.before args s = true) (hown : s.vm.findClass own = some m.cls) (hc : vwCl[a1]? = some (C, T, N)) (hk : b1 < N) (hw : (Jvm.Cond.fieldLink own i C (T b1).2.1 (T b1).2.2.1).before args s = true) (hC : (T b1).1 = C) (he : e1 = fk a1 b1) (hd : decode cc pc = .ok (.getfield i, 3))
    {o : Nat} {rest : List Value} (hs : stepA S (.getfield i) a1 b1 c1 e1 v1 pc ls (.ref o :: rest) H = some y) (kk : KK N0 Dg cA bv p l e0 R s m args below meth c Q cells slots nL H y) : W p l e0 R s m args below meth c Hp locs cells slots Q (F0 m pc lsC ((Value.ref o :: rest).map (cv N0 bv))) := by
  dsimp only [stepA, ite1] at hs
  rw [List.map_cons]
  show W p l e0 R s m args below meth c Hp locs cells slots Q (F0 m pc lsC (.ref (N0 + o) :: rest.map (cv N0 bv)))
  split at hs
  · rename_i h0
    split at hs
    · rename_i hkd
      obtain rfl := Option.some.inj hs
      refine get_f hx hb hh hK hts hown hc hk hw hC hkd hd ?_
      rw [show fval N0 H a1 o b1 = .int (aI H o b1) by unfold fval; rw [← he, if_pos h0]]
      exact kk.same hl hh hv
    · cases hs
  · rename_i h0
    split at hs
    · rename_i h1
      split at hs
      · rename_i hkd
        obtain rfl := Option.some.inj hs
        refine get_f hx hb hh hK hts hown hc hk hw hC hkd hd ?_
        rw [show fval N0 H a1 o b1 = .int (bz (aI H o b1)) by unfold fval; rw [← he, if_neg h0, if_pos h1]]
        exact kk.same hl hh hv
      · cases hs
    · rename_i h1
      split at hs
      · rename_i hkd
        obtain rfl := Option.some.inj hs
        refine get_f hx hb hh hK hts hown hc hk hw hC hkd hd ?_
        rw [show fval N0 H a1 o b1 = cv N0 bv (rv (aR H o b1)) by unfold fval; rw [← he, if_neg h0, if_neg h1, cv_rv]]
        exact kk.same hl hh hv
      · cases hs
theorem ss_putfield {i : Nat} {own C : String} {T : u_T} {N : Nat} {ty : FieldType} (hx : p.tables.exec = Jvm.exec) (hb : c.code = cc) (hl : LR N0 bv lsC nL ls) (hh : HR N0 Dg cA H Hp) (hv : va_S (fun q : Nat => N0 ≤ q) s.heap Hp locs) (hK : va_K Dg vwCl (tysF cA) s) (hts : ∀ w ∈ lw_tbl, goodW w = true → w.before args s = true) (hown : s.vm.findClass own = some m.cls) (hc : vwCl[a1]? = some (C, T, N)) (hk : b1 < N) (hw : (Jvm.Cond.fieldLink own i C (T b1).2.1 (T b1).2.2.1).before args s = true) (hC : (T b1).1 = C) (he : e1 = fk a1 b1) (hfin : (T b1).2.2.2 = true → own = C ∧ meth.name = "<init>") (hd0 : parseFieldDescriptor (T b1).2.2.1 = some ty) (hr : ty = .int ∨ ty = .boolean ∨ (∃ n, ty = .object n) ∨ ∃ t, ty = .array t) (hd : decode cc pc = .ok (.putfield i, 3))
    (hs : stepA S (.putfield i) a1 b1 c1 e1 v1 pc ls st H = some y) (kk : KK N0 Dg cA bv p l e0 R s m args below meth c Q cells slots nL H y) : W p l e0 R s m args below meth c Hp locs cells slots Q (F0 m pc lsC (st.map (cv N0 bv))) := by
  have hfk := fk_of hc hd0
  rw [← he] at hfk
  dsimp only [stepA, ite1] at hs
  split at hs
  · rename_i x o r
    split at hs
    · rename_i h0
      obtain rfl : ty = .int := srt0 (hfk.symm.trans h0)
      split at hs
      · rename_i hkd
        obtain rfl := Option.some.inj hs
        refine put_f (v := .int x) (H1 := sI H o b1 x) (rest := r.map (cv N0 bv)) hx hb hh hv hK hts hown hc hk hw hC hkd hfin hd0 rfl rfl rfl (fun k hk j => by rw [aI_sI, if_neg (fun z => hk z.1)]) (fun _ _ _ => rfl) (fun _ _ _ => rfl) (fun j => ?_) hd (fun Hp1 locs1 g1 g2 => kk.mod rfl hl g1 g2)
        unfold updV fval
        by_cases e : j = b1
        · subst e
          rw [if_pos rfl, ← he, if_pos h0, aI_sI, if_pos ⟨rfl, rfl⟩]
        · rw [if_neg e, show aI (sI H o b1 x) o j = aI H o j from (aI_sI).trans (if_neg (fun z => e z.2))]
          rfl
      · cases hs
    · rename_i h0
      split at hs
      · rename_i h1
        obtain rfl : ty = .boolean := srt1 (hfk.symm.trans h1)
        split at hs
        · rename_i hkd
          obtain rfl := Option.some.inj hs
          refine put_f (v := .int x) (H1 := sI H o b1 x) (rest := r.map (cv N0 bv)) hx hb hh hv hK hts hown hc hk hw hC hkd.1 hfin hd0 ((okv_b x).mpr hkd.2) (by rcases hkd.2 with h | h <;> subst h <;> decide +kernel) rfl (fun k hk j => by rw [aI_sI, if_neg (fun z => hk z.1)]) (fun _ _ _ => rfl) (fun _ _ _ => rfl) (fun j => ?_) hd (fun Hp1 locs1 g1 g2 => kk.mod rfl hl g1 g2)
          unfold updV fval
          by_cases e : j = b1
          · subst e
            rw [if_pos rfl, ← he, if_neg h0, if_pos h1, aI_sI, if_pos ⟨rfl, rfl⟩, bz01 hkd.2]
          · rw [if_neg e, show aI (sI H o b1 x) o j = aI H o j from (aI_sI).trans (if_neg (fun z => e z.2))]
            rfl
        · cases hs
      · cases hs
  · rename_i x o r
    split at hs
    · rename_i h2
      split at hs
      · rename_i hkd
        obtain rfl := Option.some.inj hs
        have hrf : (∃ n, ty = .object n) ∨ ∃ t, ty = .array t := by
          rcases hr with h | h | h | h
          · subst h; rw [h2] at hfk; cases hfk
          · subst h; rw [h2] at hfk; cases hfk
          · exact Or.inl h
          · exact Or.inr h
        refine put_f (v := .ref (N0 + x)) (H1 := sR H o b1 (some x)) (rest := r.map (cv N0 bv)) hx hb hh hv hK hts hown hc hk hw hC hkd hfin hd0 (by rcases hrf with ⟨n, h⟩ | ⟨n, h⟩ <;> subst h <;> rfl) (by rcases hrf with ⟨n, h⟩ | ⟨n, h⟩ <;> subst h <;> rfl) rfl (fun _ _ _ => rfl) (fun _ _ _ => rfl) (fun k hk j => by rw [aR_sR, if_neg (fun z => hk z.1)]) (fun j => ?_) hd (fun Hp1 locs1 g1 g2 => kk.mod rfl hl g1 g2)
        unfold updV fval
        by_cases e : j = b1
        · subst e
          rw [if_pos rfl, ← he, if_neg (by omega), if_neg (by omega), aR_sR, if_pos ⟨rfl, rfl⟩]
          rfl
        · rw [if_neg e, show aR (sR H o b1 (some x)) o j = aR H o j from (aR_sR).trans (if_neg (fun z => e z.2))]
          rfl
      · cases hs
    · cases hs
  · rename_i o r
    split at hs
    · rename_i h2
      split at hs
      · rename_i hkd
        obtain rfl := Option.some.inj hs
        have hrf : (∃ n, ty = .object n) ∨ ∃ t, ty = .array t := by
          rcases hr with h | h | h | h
          · subst h; rw [h2] at hfk; cases hfk
          · subst h; rw [h2] at hfk; cases hfk
          · exact Or.inl h
          · exact Or.inr h
        refine put_f (v := .null) (H1 := sR H o b1 none) (rest := r.map (cv N0 bv)) hx hb hh hv hK hts hown hc hk hw hC hkd hfin hd0 (by rcases hrf with ⟨n, h⟩ | ⟨n, h⟩ <;> subst h <;> rfl) (by rcases hrf with ⟨n, h⟩ | ⟨n, h⟩ <;> subst h <;> rfl) rfl (fun _ _ _ => rfl) (fun _ _ _ => rfl) (fun k hk j => by rw [aR_sR, if_neg (fun z => hk z.1)]) (fun j => ?_) hd (fun Hp1 locs1 g1 g2 => kk.mod rfl hl g1 g2)
        unfold updV fval
        by_cases e : j = b1
        · subst e
          rw [if_pos rfl, ← he, if_neg (by omega), if_neg (by omega), aR_sR, if_pos ⟨rfl, rfl⟩]
          rfl
        · rw [if_neg e, show aR (sR H o b1 none) o j = aR H o j from (aR_sR).trans (if_neg (fun z => e z.2))]
          rfl
      · cases hs
    · cases hs
  · cases hs
end HEAPS
