-- 93: cells that are made, rows, statics, texts
def oktyB : Option FieldType → Bool
  | some .int => true
  | some .boolean => true
  | some (.object _) => true
  | some (.array _) => true
  | _ => false
theorem okty_of {o : Option FieldType} (h : oktyB o = true) : ∃ ty, o = some ty ∧ (ty = .int ∨ ty = .boolean ∨ (∃ n, ty = .object n) ∨ ∃ t, ty = .array t) := by
  cases o with
  | none => cases h
  | some ty =>
    refine ⟨ty, rfl, ?_⟩
    cases ty with
    | int => exact Or.inl rfl
    | boolean => exact Or.inr (Or.inl rfl)
    | object n => exact Or.inr (Or.inr (Or.inl ⟨n, rfl⟩))
    | array t => exact Or.inr (Or.inr (Or.inr ⟨t, rfl⟩))
    | _ => cases h
theorem cls_okty : ∀ r ∈ vwCl, ∀ k, k < r.2.2 → oktyB (parseFieldDescriptor (r.2.1 k).2.2.1) = true := by decide +kernel
theorem cls_ty {a b : Nat} {C : String} {T : u_T} {N : Nat} (hc : vwCl[a]? = some (C, T, N)) (hb : b < N) : ∃ ty, parseFieldDescriptor (T b).2.2.1 = some ty ∧ (ty = .int ∨ ty = .boolean ∨ (∃ n, ty = .object n) ∨ ∃ t, ty = .array t) := okty_of (cls_okty _ (List.mem_of_getElem? hc) b hb)
theorem strN_eq : ∀ i, i < 6 → strN.getD i 0 = (strL.getD i []).length := by decide +kernel
section HEAPS
variable {p : Program} {l : Launch} {e0 : Env} {R : Room} {s : State} {m : MethodId} {args : Array Value} {below : List Frame} {meth : Method} {c : Code} {Q : State → Prop} {Hp : Heap} {locs : List Loc} {cells slots : Nat} {lsC : Array Slot} {N0 : Nat} {Dg : va_G} {cA : Nat → ClassId} {bv : Nat → Value} {S : SC} {cc : ByteArray} {pc nL : Nat} {ls st : List Value} {H : AH} {a1 b1 c1 e1 : Nat} {v1 : Int} {y : Nat × List Value × List Value × AH}
theorem ss_getfieldB {i j : Nat} {own : String} {rest : List Value} (hx : p.tables.exec = Jvm.exec) (hb : c.code = cc) (hl : LR N0 bv lsC nL ls) (hh : HR N0 Dg cA H Hp) (hv : va_S (fun q : Nat => N0 ≤ q) s.heap Hp locs) (hB : BS N0 bv S s) (hown : s.vm.findClass own = some m.cls) (hw : b1 = 0 → (Jvm.Cond.fieldLink own i "java/lang/String" "value" "[B").before args s = true) (hw2 : ¬ b1 = 0 → (Jvm.Cond.fieldLink own i "java/lang/String" "coder" "B").before args s = true) (hd : decode cc pc = .ok (.getfield i, 3))
    (hs : stepA S (.getfield i) a1 b1 c1 e1 v1 pc ls (.retAddr j :: rest) H = some y) (kk : KK N0 Dg cA bv p l e0 R s m args below meth c Q cells slots nL H y) : W p l e0 R s m args below meth c Hp locs cells slots Q (F0 m pc lsC ((Value.retAddr j :: rest).map (cv N0 bv))) := by
  obtain ⟨-, -, -, adK, adV, h4, h5, -⟩ := hB
  dsimp only [stepA, ite1] at hs
  rw [List.map_cons]
  show W p l e0 R s m args below meth c Hp locs cells slots Q (F0 m pc lsC (bv j :: rest.map (cv N0 bv)))
  split at hs
  · rename_i h0
    split at hs
    · rename_i hj
      replace hj := hj.1
      obtain rfl := Option.some.inj hs
      have k2 := kk.same hl hh hv
      obtain ⟨g1, g2⟩ := h5 (j - 3) (by omega)
      rw [show 3 + (j - 3) = j by omega] at g1
      rw [show 13 + (j - 3) = j + 10 by omega] at g2
      rw [List.map_cons, show cv N0 bv (.retAddr (j + 10)) = bv (j + 10) from rfl, g2] at k2
      rw [g1]
      exact vk_getf hx hb (h4.1 (j - 3) (by omega)).2.2.1 hv hown (hw h0) (fun x h => h) hd k2
    · cases hs
  · rename_i h0
    split at hs
    · rename_i hj
      replace hj := hj.1
      obtain rfl := Option.some.inj hs
      have k2 := kk.same hl hh hv
      obtain ⟨g1, g2⟩ := h5 (j - 3) (by omega)
      rw [show 3 + (j - 3) = j by omega] at g1
      rw [g1]
      exact vk_getf hx hb (h4.1 (j - 3) (by omega)).2.1 hv hown (hw2 h0) (fun x h => h) hd k2
    · cases hs
theorem ss_getstatic {i : Nat} {own : String} (hx : p.tables.exec = Jvm.exec) (hb : c.code = cc) (hl : LR N0 bv lsC nL ls) (hh : HR N0 Dg cA H Hp) (hv : va_S (fun q : Nat => N0 ≤ q) s.heap Hp locs) (hB : BS N0 bv S s) (hts : ∀ w ∈ lw_tbl, goodW w = true → w.before args s = true) (hown : s.vm.findClass own = some m.cls)
    (hw : (if a1 = 21 then word c1 (.fieldLink own i "java/lang/String" "COMPACT_STRINGS" "Z")
    else if a1 = 20 then word c1 (.fieldLink own i "jdk/internal/util/Preconditions" "SIOOBE_FORMATTER" "Ljava/util/function/BiFunction;")
    else if a1 = 1 then (if b1 = 0 then word c1 (.fieldLink own i "MilestoneMaids" "KIND_ABOVE" "[I") else word c1 (.fieldLinkNest own i "MilestoneMaids" "KIND_ABOVE" "[I" "MilestoneMaids"))
    else decide (a1 = 2) && (if b1 = 0 then word c1 (.fieldLink own i "MilestoneMaids" "BODIES" "[I") else word c1 (.fieldLinkNest own i "MilestoneMaids" "BODIES" "[I" "MilestoneMaids"))) = true) (hd : decode cc pc = .ok (.getstatic i, 3))
    (hs : stepA S (.getstatic i) a1 b1 c1 e1 v1 pc ls st H = some y) (kk : KK N0 Dg cA bv p l e0 R s m args below meth c Q cells slots nL H y) : W p l e0 R s m args below meth c Hp locs cells slots Q (F0 m pc lsC (st.map (cv N0 bv))) := by
  obtain ⟨⟨-, -, -, ⟨t1, q1, q2, -⟩, ⟨t2, r1, r2, -⟩⟩, h2, h3, -⟩ := hB
  dsimp only [stepA] at hs
  split at hs
  · rename_i h0
    rw [if_pos h0] at hw
    obtain rfl := Option.some.inj hs
    exact va_gets hx hb h2 hv hown (word_of hw hts) (fun x h => h) hd (kk.same hl hh hv)
  · rename_i h0
    rw [if_neg h0] at hw
    obtain rfl := Option.some.inj hs
    have k2 := kk.same hl hh hv
    rw [List.map_cons, show cv N0 bv (.retAddr a1) = bv a1 from rfl] at k2
    by_cases h20 : a1 = 20
    · rw [if_pos h20] at hw
      subst h20
      exact va_gets hx hb h3 hv hown (word_of hw hts) (fun x h => h) hd k2
    · rw [if_neg h20] at hw
      by_cases h1 : a1 = 1
      · rw [if_pos h1] at hw
        subst h1
        rw [q1] at k2
        by_cases hb0 : b1 = 0
        · rw [if_pos hb0] at hw
          exact va_gets hx hb q2 hv hown (word_of hw hts) (fun x h => h) hd k2
        · rw [if_neg hb0] at hw
          exact va_getsN hx hb q2 hv hown (word_of hw hts) (fun x h => h) hd k2
      · rw [if_neg h1, Bool.and_eq_true] at hw
        obtain ⟨h2', hw⟩ := hw
        obtain rfl : a1 = 2 := of_decide_eq_true h2'
        rw [r1] at k2
        by_cases hb0 : b1 = 0
        · rw [if_pos hb0] at hw
          exact va_gets hx hb r2 hv hown (word_of hw hts) (fun x h => h) hd k2
        · rw [if_neg hb0] at hw
          exact va_getsN hx hb r2 hv hown (word_of hw hts) (fun x h => h) hd k2
/-- the nest mates' links -/
def NW (U : State) : Prop := ∀ w ∈ lw_tbl, nestB w = true → va_Nw w U
theorem NW.go {s U : State} (h : NW s) (hW : s.WarmedH U.vm) : NW U := fun w hw hn => by
  have h1 := h w hw hn
  cases w with
  | fieldLinkNest a i b n d h => exact va_Nw.warmF hW h1
  | methodLinkNest a i x h => exact va_Nw.warmM hW h1
  | _ => cases hn
/-- the room for what is made -/
def Rm (R : Room) (cells slots : Nat) (H H1 : AH) : Prop := cells + (aN H1 - aN H) ≤ R.cells ∧ slots + (slotsOf H1 - slotsOf H) ≤ R.slots
theorem Rm.gr {a n : Nat} (h : Rm R cells slots H (gr H a n)) : cells + 1 ≤ R.cells ∧ slots + n ≤ R.slots := by
  unfold Rm at h
  rw [gr_n, gr_slots] at h
  omega
theorem KK.grow {a n pc1 : Nat} {ls1 st1 : List Value} {Hp1 : Heap} (kk : KK N0 Dg cA bv p l e0 R s m args below meth c Q cells slots nL H (pc1, ls1, st1, gr H a n)) (hl : LR N0 bv lsC nL ls1) (hh : HR N0 Dg cA (gr H a n) Hp1) (hv : va_S (fun q : Nat => N0 ≤ q) s.heap Hp1 locs) : W p l e0 R s m args below meth c Hp1 locs (cells + 1) (slots + n) Q (F0 m pc1 lsC (st1.map (cv N0 bv))) := by
  have h := kk Hp1 locs lsC hl hh hv
  dsimp only at h
  rw [gr_n, gr_slots, show aN H + 1 - aN H = 1 by omega, show slotsOf H + n - slotsOf H = n by omega] at h
  exact h
theorem vS_grow {Hp1 : Heap} (hv : va_S (fun q : Nat => N0 ≤ q) s.heap Hp locs) (hz : Hp1.size = Hp.size + 1) (hq : ∀ q : Nat, q < Hp.size → Hp1[q]? = Hp[q]?) : va_S (fun q : Nat => N0 ≤ q) s.heap Hp1 locs :=
  ⟨Nat.le_trans hv.1 (by omega), fun x h1 h2 => (hq x (Nat.lt_of_lt_of_le h1 hv.1)).trans (hv.2.1 x h1 h2), hv.2.2⟩
theorem ss_new {i : Nat} {own C : String} {T : u_T} {N : Nat} (hx : p.tables.exec = Jvm.exec) (hb : c.code = cc) (hl : LR N0 bv lsC nL ls) (hh : HR N0 Dg cA H Hp) (hv : va_S (fun q : Nat => N0 ≤ q) s.heap Hp locs) (hK : va_K Dg vwCl (tysF cA) s) (hts : ∀ w ∈ lw_tbl, goodW w = true → w.before args s = true) (hown : s.vm.findClass own = some m.cls) (hc : vwCl[a1]? = some (C, T, N)) (h1 : (Jvm.Cond.classLink own i C).before args s = true) (h2 : (Jvm.Cond.instantiable C N).before args s = true) (h3 : (Jvm.Cond.initialized C).before args s = true) (hd : decode cc pc = .ok (.new i, 3))
    (hs : stepA S (.new i) a1 b1 c1 e1 v1 pc ls st H = some y) (hR : Rm R cells slots H y.2.2.2) (kk : KK N0 Dg cA bv p l e0 R s m args below meth c Q cells slots nL H y) : W p l e0 R s m args below meth c Hp locs cells slots Q (F0 m pc lsC (st.map (cv N0 bv))) := by
  dsimp only [stepA, ite1] at hs
  split at hs
  · obtain rfl := Option.some.inj hs
    have hsz : sizeC a1 = N := by unfold sizeC; rw [hc]
    rw [hsz] at kk hR
    obtain ⟨g1, g2⟩ := hR.gr
    have hKn := hK.1 a1 _ hc
    have ha : a1 < 9 := by rw [← vwCl_len]; exact (List.getElem?_eq_some_iff.mp hc).1
    obtain ⟨⟨ty0, hty⟩, -, -⟩ := cls_ok a1 _ hc
    refine W.newcK hx hb hown h1 h2 h3 rfl hd g1 g2 hKn.2.1 hh.1 fun Hp1 kC hkC f1 f2 f3 => ?_
    have f3' : ∀ q : Nat, q < Hp.size → Hp1[q]? = Hp[q]? := fun q hq => f3 q (by rw [← hh.1]; exact hq)
    refine kk.grow hl (HR.grow (by omega) hh (by rw [f2, hh.1]) f3' ?_) (vS_grow hv (by rw [f2, hh.1]) f3')
    unfold cellAt
    rw [gr_last.1, if_neg (by omega)]
    refine ⟨_, hc, (u_born ty0 (hts_G hts) (cls_in hc) hKn hkC f1 hty).to fun k hk => ?_⟩
    obtain ⟨ty, e2, e3⟩ := cls_ty hc hk
    have e4 : ty0 k = ty := Option.some.inj ((hty k hk).symm.trans e2)
    unfold fval
    rw [fk_of hc e2, gr_I, if_pos rfl, gr_R, if_pos rfl, e4]
    rcases e3 with h | h | ⟨n, h⟩ | ⟨n, h⟩ <;> subst h <;> rfl
  · cases hs
theorem ss_newarray {t : ArrayType} (hx : p.tables.exec = Jvm.exec) (hb : c.code = cc) (hl : LR N0 bv lsC nL ls) (hh : HR N0 Dg cA H Hp) (hv : va_S (fun q : Nat => N0 ≤ q) s.heap Hp locs) (hK : va_K Dg vwCl (tysF cA) s) (ht : (t = .int ∧ a1 = 20) ∨ (t = .long ∧ a1 = 21) ∨ (t = .boolean ∧ a1 = 22)) (hw : (Jvm.Cond.arrayClass (newarray.typeOf t)).before args s = true) (hd : decode cc pc = .ok (.newarray t, 2))
    (hs : stepA S (.newarray t) a1 b1 c1 e1 v1 pc ls st H = some y) (hR : Rm R cells slots H y.2.2.2) (kk : KK N0 Dg cA bv p l e0 R s m args below meth c Q cells slots nL H y) : W p l e0 R s m args below meth c Hp locs cells slots Q (F0 m pc lsC (st.map (cv N0 bv))) := by
  dsimp only [stepA, ite1] at hs
  split at hs
  · rename_i n r
    split at hs
    · rename_i hc
      obtain rfl := Option.some.inj hs
      obtain ⟨g1, g2⟩ := hR.gr
      have hby : n.toNatClampNeg * componentBytes (newarray.typeOf t) ≤ 536870912 := by
        rcases ht with ⟨rfl, -⟩ | ⟨rfl, -⟩ | ⟨rfl, -⟩
        · show n.toNatClampNeg * 4 ≤ _; omega
        · show n.toNatClampNeg * 8 ≤ _; omega
        · show n.toNatClampNeg * 1 ≤ _; omega
      refine va_newaK hx hb hw rfl hd rfl hc.2.1 rfl hby g1 g2 hh.1 fun Hp1 cA' f1 f2 f3 f4 f5 => ?_
      have f3' : ∀ q : Nat, q < Hp.size → Hp1[q]? = Hp[q]? := fun q hq => f3 q (by rw [← hh.1]; exact hq)
      refine kk.grow hl (HR.grow (by omega) hh (by rw [f2, hh.1]) f3' ?_) (vS_grow hv (by rw [f2, hh.1]) f3')
      have e : ∀ k : Nat, aI (gr H a1 n.toNatClampNeg) (aN H) k = 0 ∧ aJ (gr H a1 n.toNatClampNeg) (aN H) k = 0 := fun k => ⟨by rw [gr_I, if_pos rfl], by rw [gr_J, if_pos rfl]⟩
      rcases ht with ⟨rfl, rfl⟩ | ⟨rfl, rfl⟩ | ⟨rfl, rfl⟩
      · unfold cellAt
        rw [gr_last.1, gr_last.2, if_pos (by omega), f1]
        obtain rfl : cA' = cA 20 := Option.some.inj (f5.symm.trans (hK.2 0 (cA 20, .int) rfl).2)
        refine congrArg some (congrArg _ (funext fun k => ?_))
        unfold arrF
        rw [gr_last.1, if_pos rfl, (e k).1]
        rfl
      · unfold cellAt
        rw [gr_last.1, gr_last.2, if_pos (by omega), f1]
        obtain rfl : cA' = cA 21 := Option.some.inj (f5.symm.trans (hK.2 1 (cA 21, .long) rfl).2)
        refine congrArg some (congrArg _ (funext fun k => ?_))
        unfold arrF
        rw [gr_last.1, if_neg (by omega), if_pos rfl, (e k).2]
        rfl
      · unfold cellAt
        rw [gr_last.1, gr_last.2, if_pos (by omega), f1]
        obtain rfl : cA' = cA 22 := Option.some.inj (f5.symm.trans (hK.2 2 (cA 22, .boolean) rfl).2)
        refine congrArg some (congrArg _ (funext fun k => ?_))
        unfold arrF
        rw [gr_last.1, if_neg (by omega), if_neg (by omega), if_pos rfl, (e k).1]
        rfl
    · cases hs
  · cases hs
theorem ss_anewarray {i : Nat} {own : String} (hx : p.tables.exec = Jvm.exec) (hb : c.code = cc) (hl : LR N0 bv lsC nL ls) (hh : HR N0 Dg cA H Hp) (hv : va_S (fun q : Nat => N0 ≤ q) s.heap Hp locs) (hK : va_K Dg vwCl (tysF cA) s) (hB : BS N0 bv S s) (hown : s.vm.findClass own = some m.cls) (hw : (Jvm.Cond.classLink own i "MilestoneMaids$Tape").before args s = true) (hd : decode cc pc = .ok (.anewarray i, 3))
    (hs : stepA S (.anewarray i) a1 b1 c1 e1 v1 pc ls st H = some y) (hR : Rm R cells slots H y.2.2.2) (kk : KK N0 Dg cA bv p l e0 R s m args below meth c Q cells slots nL H y) : W p l e0 R s m args below meth c Hp locs cells slots Q (F0 m pc lsC (st.map (cv N0 bv))) := by
  dsimp only [stepA, ite1] at hs
  split at hs
  · rename_i n r
    split at hs
    · rename_i hc
      obtain rfl := Option.some.inj hs
      obtain ⟨g1, g2⟩ := hR.gr
      refine W.anew hx hb hown hw (va_AO.use hB.1.1) rfl hd rfl hc.2.1 (by omega) g1 g2 fun cA' kA comp f1 f2 f3 f4 => ?_
      generalize hH1 : Hp.push ({ cls := cA', slots := Array.replicate n.toNatClampNeg .null, vm := .none } : Cell) = Hp1
      have z1 : Hp1.size = Hp.size + 1 := by rw [← hH1, Array.size_push]
      have e1 : Hp1[Hp.size]? = some (arrV cA' n.toNatClampNeg (fun _ => .null)) := by rw [← hH1, Array.getElem?_push_size, ← arrV_new]
      have o1 : ∀ q : Nat, q < Hp.size → Hp1[q]? = Hp[q]? := fun q hq => by rw [← hH1, Array.getElem?_push, if_neg (Nat.ne_of_lt hq)]
      have k2 := kk.grow (Hp1 := Hp1) (locs := locs) (lsC := lsC) hl (HR.grow (by omega) hh z1 o1 ?_) (vS_grow hv z1 o1)
      · rw [List.map_cons, show cv N0 bv (.ref (aN H)) = .ref (N0 + aN H) from rfl, ← hh.1] at k2
        exact k2
      · unfold cellAt
        rw [gr_last.1, gr_last.2, if_pos (by omega), ← hh.1, e1]
        obtain ⟨kA2, comp2, -, -, -, f5⟩ := (hK.2 3 (cA 23, .object "MilestoneMaids$Tape") rfl).2
        obtain rfl : cA' = cA 23 := Option.some.inj (f1.symm.trans f5)
        refine congrArg some (congrArg _ (funext fun k => ?_))
        unfold arrF
        rw [gr_last.1, if_neg (by omega), if_neg (by omega), if_neg (by omega), gr_R, if_pos rfl]
        rfl
    · cases hs
  · cases hs
end HEAPS
