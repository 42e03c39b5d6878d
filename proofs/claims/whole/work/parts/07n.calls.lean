-- 97: returns and calls are sound
def FR (R : Room) (d : Nat) : Prop := d + 8 ≤ R.frames ∧ 64 * (d + 8) ≤ R.locals
def wsOf (a : Nat) : List Jvm.Cond := .code (mName a) (mCode a) (mLoc a) (mRet a) :: tblG
def rmOf (d mc ms : Nat) : Room := { frames := d + 8, cells := mc, slots := ms, locals := 64 * (d + 8) }
def PcOf (N0 : Nat) (Dg : va_G) (cA : Nat → ClassId) (bv : Nat → Value) (S : SC) (as : List Value) (H : AH) : Array Value → State → Prop := fun v U => v = (as.map (cv N0 bv)).toArray ∧ HR N0 Dg cA H U.heap ∧ Kn N0 Dg cA bv S U
def QcOf (N0 : Nat) (Dg : va_G) (cA : Nat → ClassId) (bv : Nat → Value) (r : Option Value) (H : AH) : Array Value → State → Outcome → State → Prop := fun _ st o t => o = .returned (r.map (cv N0 bv)) ∧ HR N0 Dg cA H t.heap ∧ va_S (fun q : Nat => N0 ≤ q) st.heap t.heap []
theorem calS_of {k a e : Nat} (h : calS k a e = true) : a < 229 ∧ kindM a = k ∧ e = NA.getD a 99 := by
  unfold calS at h
  rw [Bool.and_eq_true, Bool.and_eq_true] at h
  exact ⟨of_decide_eq_true h.1.1, of_decide_eq_true h.1.2, of_decide_eq_true h.2⟩
theorem cal_of {a : Nat} (ha : a < 229) : ∃ p1 p2 p3 p4 : Nat, lw_tbl[p1]? = some (.code (mName a) (mCode a) (mLoc a) (mRet a)) ∧ word p4 (.initialized (mName a).cls) = true ∧ mLoc a ≤ 40 ∧ plainName (mName a).cls = true ∧ ((mName a).cls ≠ "java/lang/invoke/MethodHandle" ∧ (mName a).cls ≠ "java/lang/invoke/VarHandle") ∧ (parseMethodDescriptor (mName a).desc).map (fun q => q.parameters.length) = some (NA.getD a 99) ∧
    (if kindM a = 0 then word p2 (.static (mName a)) else if kindM a = 1 then word p2 (.instanceMethod (mName a)) && decide (mRet a = none) else word p2 (.instanceMethod (mName a)) && word p3 (.selects (mName a).cls (mName a) (mName a))) = true := by
  obtain ⟨⟨p1, h0⟩, h⟩ := cal_all ha
  unfold calM at h
  cases hm : MT[a]? with
  | none => rw [hm] at h; cases h
  | some r =>
    obtain ⟨y, cc, nl, rt, p0, p2, p3, p4⟩ := r
    have e1 : mName a = y := by unfold mName; rw [hm]
    have e3 : mLoc a = nl := by unfold mLoc; rw [hm]
    have e4 : mRet a = rt := by unfold mRet; rw [hm]
    rw [hm] at h
    dsimp only at h
    rw [Bool.and_eq_true, Bool.and_eq_true, Bool.and_eq_true, Bool.and_eq_true, Bool.and_eq_true] at h
    obtain ⟨⟨⟨⟨⟨h2, h3⟩, h4⟩, h5⟩, h6⟩, h7⟩ := h
    refine ⟨p1, p2, p3, p4, h0, ?_⟩
    rw [e1, e3, e4]
    exact ⟨h2, of_decide_eq_true h3, h4, of_decide_eq_true h5, of_decide_eq_true h6, h7⟩
theorem kindM_init {a : Nat} (h : kindM a = 1) : (mName a).name = "<init>" := by
  unfold kindM at h
  cases hm : MT[a]? with
  | none => rw [hm] at h; cases h
  | some r =>
    obtain ⟨y, cc, nl, rt, p0, p2, p3, p4⟩ := r
    have e1 : mName a = y := by unfold mName; rw [hm]
    rw [hm] at h
    dsimp only at h
    rw [e1]
    split at h
    · assumption
    · split at h <;> cases h
theorem code_of {a p1 : Nat} {args : Array Value} {s : State} (h : lw_tbl[p1]? = some (.code (mName a) (mCode a) (mLoc a) (mRet a))) (hts : ∀ w ∈ lw_tbl, goodW w = true → w.before args s = true) : (Jvm.Cond.code (mName a) (mCode a) (mLoc a) (mRet a)).before args s = true := hts _ (List.mem_of_getElem? h) rfl
theorem flat_len {N0 : Nat} {bv : Nat → Value} (hbv : ∀ j, (bv j).category = 1) : ∀ as : List Value, (lg_sl (as.map (cv N0 bv))).length = (flatV as).length
  | [] => rfl
  | v :: r => by
    have ih := flat_len (N0 := N0) hbv r
    unfold lg_sl at ih ⊢
    rw [List.map_cons, List.flatMap_cons, List.length_append, ih]
    cases v with
    | long x => simp [flatV, cv, Value.category]; omega
    | double x => simp [flatV, cv, Value.category]; omega
    | retAddr j => simp [flatV, cv, hbv j]; omega
    | _ => simp [flatV, cv, Value.category]; omega
theorem flat_get {N0 : Nat} {bv : Nat → Value} (hbv : ∀ j, (bv j).category = 1) : ∀ (as : List Value) (i : Nat) (v : Value), (flatV as)[i]? = some v → v ≠ hole → (lg_sl (as.map (cv N0 bv)))[i]? = some (.val (cv N0 bv v))
  | [], i, v, h, _ => by simp [flatV] at h
  | w :: r, i, v, h, hn => by
    have ih := flat_get (N0 := N0) hbv r
    have one : ∀ u : Value, (cv N0 bv u).category ≠ 2 → flatV (u :: r) = u :: flatV r → (flatV (u :: r))[i]? = some v → (lg_sl ((u :: r).map (cv N0 bv)))[i]? = some (.val (cv N0 bv v)) := fun u hu hf hg => by
      rw [hf] at hg
      unfold lg_sl
      rw [List.map_cons, List.flatMap_cons, if_neg hu]
      cases i with
      | zero => cases hg; rfl
      | succ i => exact ih i v hg hn
    have two : ∀ u : Value, (cv N0 bv u).category = 2 → flatV (u :: r) = u :: hole :: flatV r → (flatV (u :: r))[i]? = some v → (lg_sl ((u :: r).map (cv N0 bv)))[i]? = some (.val (cv N0 bv v)) := fun u hu hf hg => by
      rw [hf] at hg
      unfold lg_sl
      rw [List.map_cons, List.flatMap_cons, if_pos hu]
      match i, hg with
      | 0, hg => cases hg; rfl
      | 1, hg => cases hg; exact absurd rfl hn
      | i + 2, hg => exact ih i v hg hn
    cases w with
    | long x => exact two _ rfl rfl h
    | double x => exact two _ rfl rfl h
    | retAddr j => exact one _ (by rw [show cv N0 bv (.retAddr j) = bv j from rfl, hbv j]; decide) rfl h
    | _ => exact one _ (by show (1 : Nat) ≠ 2; decide) rfl h
theorem entry_LR {N0 : Nat} {bv : Nat → Value} (hbv : ∀ j, (bv j).category = 1) {as : List Value} {nL : Nat} (h : (entryL as nL).length = nL) : (lg_sl (as.map (cv N0 bv))).length ≤ nL ∧ LR N0 bv ((lg_sl (as.map (cv N0 bv)) ++ List.replicate (nL - (lg_sl (as.map (cv N0 bv))).length) Slot.unset).toArray) nL (entryL as nL) := by
  have hle : (lg_sl (as.map (cv N0 bv))).length ≤ nL := by
    rw [flat_len hbv]
    unfold entryL at h
    rw [List.length_append, List.length_replicate] at h
    omega
  have h2 := lv_entry (as.map (cv N0 bv)) hle
  refine ⟨hle, h2.1, h2.2.1, h, fun i v hv hn => ?_⟩
  unfold entryL at hv
  by_cases hi : i < (flatV as).length
  · rw [List.getElem?_append_left hi] at hv
    rw [List.getElem?_toArray, List.getElem?_append_left (by rw [flat_len hbv]; exact hi)]
    exact flat_get hbv as i v hv hn
  · rw [List.getElem?_append_right (by omega)] at hv
    have := List.eq_of_mem_replicate (List.mem_of_getElem? hv)
    exact absurd this hn
section SOUND
variable {p : Program} {l : Launch} {e0 : Env} {R : Room} {s : State} {m : MethodId} {args : Array Value} {below : List Frame} {meth : Method} {c : Code} {Q : State → Prop} {Hp : Heap} {locs : List Loc} {cells slots : Nat} {lsC : Array Slot} {N0 : Nat} {Dg : va_G} {cA : Nat → ClassId} {bv : Nat → Value} {S : SC} {M pc : Nat} {ls st : List Value} {H : AH} {a1 b1 c1 e1 : Nat} {v1 : Int} {ins : Instr}
theorem ret_sound {r : Option Value} {Qc : Array Value → State → Outcome → State → Prop} {free : Addr → Prop} (C : Cx N0 Dg cA bv S M p s m args meth c) (hr : meth.sig.returnType = mRet M) (hlocks : meth.locks = false) (hc : codeAt M pc = some (ins, a1, b1, c1, e1, v1)) (hk : kindA ins a1 = 1) (hs : retA ins (mRet M) st = some r) (hq : ∀ t : State, t.heap = Hp → s.WarmedH t.vm → Qc args s (.returned (r.map (cv N0 bv))) t) (hf : ∀ q ∈ locs, free q.base) : W p l e0 R s m args below meth c Hp locs cells slots (MQ below Qc args s cells slots free) (F0 m pc lsC (st.map (cv N0 bv))) := by
  obtain ⟨hx, hb, hnL, ho, hts, hini, hK, hB, hN⟩ := C
  obtain ⟨n, hd, hn, hkk⟩ := chk_dec (chk_at hc)
  cases ins with
  | ireturn =>
    obtain rfl : n = 1 := of_decide_eq_true hn
    unfold retA at hs
    dsimp only at hs
    split at hs
    · rename_i x ty heq
      split at hs
      · rename_i hv
        obtain rfl := Option.some.inj hs
        exact W.zret hx hb (hr.trans heq) hv hq hf hd hlocks
      · cases hs
    · cases hs
  | lreturn =>
    obtain rfl : n = 1 := of_decide_eq_true hn
    unfold retA at hs
    dsimp only at hs
    split at hs
    · obtain rfl := Option.some.inj hs
      exact W.lret hx hb (hr.trans (of_decide_eq_true hkk)) hq hf hd hlocks
    · cases hs
  | areturn =>
    obtain rfl : n = 1 := of_decide_eq_true hn
    have hkk : (match mRet M with | some (.object _) => true | some (.array _) => true | _ => false) = true := hkk
    have hrt : ∃ rt, mRet M = some rt ∧ ((∃ n, rt = .object n) ∨ ∃ t, rt = .array t) := by
      split at hkk
      · rename_i n h; exact ⟨_, h, Or.inl ⟨n, rfl⟩⟩
      · rename_i n h; exact ⟨_, h, Or.inr ⟨n, rfl⟩⟩
      · cases hkk
    obtain ⟨rt, q1, q2⟩ := hrt
    unfold retA at hs
    dsimp only at hs
    split at hs
    · obtain rfl := Option.some.inj hs
      exact W.aret hx hb (hr.trans q1) q2 (Or.inr ⟨_, rfl⟩) hq hf hd hlocks
    · obtain rfl := Option.some.inj hs
      exact W.aret hx hb (hr.trans q1) q2 (Or.inl rfl) hq hf hd hlocks
    · cases hs
  | return_ =>
    obtain rfl : n = 1 := of_decide_eq_true hn
    unfold retA at hs
    dsimp only at hs
    split at hs
    · obtain rfl := Option.some.inj hs
      exact W.vret hx hb (hr.trans (of_decide_eq_true hkk)) hq hf hd hlocks
    · cases hs
  | _ => cases hs
theorem call_use {H3 : AH} {mc ms : Nat} {r3 : Option Value} {rest st0 : List Value} {a : Array Value} (hr : CallRun p l e0 R s m args below meth c Hp locs cells slots mc ms (F0 m pc lsC st0) (rest.map (cv N0 bv)) (QcOf N0 Dg cA bv r3 H3 a) (fun q : Nat => N0 ≤ q)) (hv : va_S (fun q : Nat => N0 ≤ q) s.heap Hp locs)
    (kk : ∀ (Hp1 : Heap) (locs1 : List Loc), HR N0 Dg cA H3 Hp1 → va_S (fun q : Nat => N0 ≤ q) s.heap Hp1 locs1 → W p l e0 R s m args below meth c Hp1 locs1 (cells + mc) (slots + ms) Q (F0 m (pc + 3) lsC ((pushr r3 rest).map (cv N0 bv)))) : W p l e0 R s m args below meth c Hp locs cells slots Q (F0 m pc lsC st0) := by
  intro T hT X
  obtain ⟨v, st₀, t, T', L, h0, X', hL, g1, ⟨ho, hHR, hS⟩, st⟩ := hr T hT X
  obtain rfl : v = r3.map (cv N0 bv) := by injection ho
  rw [h0] at hS
  obtain ⟨t2, q1, q2⟩ := kk T'.heap (locs ++ L) (by rw [g1]; exact hHR) ⟨Nat.le_trans hv.1 (by rw [g1]; exact hS.1), fun q f1 f2 => by rw [g1, hS.2.1 q (Nat.lt_of_lt_of_le f1 hv.1) f2]; exact hv.2.1 q f1 f2, fun q hq => by
      rcases List.mem_append.mp hq with h | h
      · exact hv.2.2 q h
      · exact hL q h⟩ T' rfl X'
  refine ⟨t2, st t2 ?_, q2⟩
  have e : (pushr r3 rest).map (cv N0 bv) = (r3.map (cv N0 bv)).toList ++ rest.map (cv N0 bv) := by cases r3 <;> rfl
  rw [e] at q1
  exact q1
theorem call_sound {d mc ms : Nat} {H3 : AH} {r3 : Option Value} (C : Cx N0 Dg cA bv S M p s m args meth c) (hc : codeAt M pc = some (ins, a1, b1, c1, e1, v1)) (hk : kindA ins a1 = 2) (h1 : argN ins e1 ≤ st.length) (h4 : (st.drop (argN ins e1)).length ≤ 4) (h5 : recvB ins H (mName a1).cls (st.take (argN ins e1)).reverse = true) (hM : Met l (mName a1) (wsOf a1) (rmOf d mc ms) (PcOf N0 Dg cA bv S (st.take (argN ins e1)).reverse H) (QcOf N0 Dg cA bv r3 H3) mc ms (fun q : Nat => N0 ≤ q)) (hmc : cells + mc ≤ R.cells ∧ slots + ms ≤ R.slots) (hF : FR R (d + 1)) (hl : LR N0 bv lsC (mLoc M) ls) (hh : HR N0 Dg cA H Hp) (hv : va_S (fun q : Nat => N0 ≤ q) s.heap Hp locs)
    (kk : ∀ (Hp1 : Heap) (locs1 : List Loc), HR N0 Dg cA H3 Hp1 → va_S (fun q : Nat => N0 ≤ q) s.heap Hp1 locs1 → W p l e0 R s m args below meth c Hp1 locs1 (cells + mc) (slots + ms) Q (F0 m (pc + 3) lsC ((pushr r3 (st.drop (argN ins e1))).map (cv N0 bv)))) : W p l e0 R s m args below meth c Hp locs cells slots Q (F0 m pc lsC (st.map (cv N0 bv))) := by
  obtain ⟨hx, hb, hnL, ho, hts, hini, hKn⟩ := C
  obtain ⟨n, hd, hn, hkk⟩ := chk_dec (chk_at hc)
  have hblind : FrameBlind (PcOf N0 Dg cA bv S (st.take (argN ins e1)).reverse H) := fun a U g mk q => ⟨q.1, q.2.1, Kn.go (locs := []) q.2.2 (State.WarmedH.refl U) ⟨Nat.le_refl _, fun _ _ _ => rfl, fun q hq => by cases hq⟩⟩
  have hPc : ∀ U : State, U.heap = Hp → s.WarmedH U.vm → PcOf N0 Dg cA bv S (st.take (argN ins e1)).reverse H ((st.take (argN ins e1)).reverse.map (cv N0 bv)).toArray U := fun U hU hW => ⟨rfl, by rw [hU]; exact hh, hKn.go hW (by rw [hU]; exact hv)⟩
  have hst : st.map (cv N0 bv) = ((st.take (argN ins e1)).reverse.map (cv N0 bv)).reverse ++ (st.drop (argN ins e1)).map (cv N0 bv) := by
    rw [← List.map_reverse, List.reverse_reverse, ← List.map_append, List.take_append_drop]
  have hlen : (st.take (argN ins e1)).reverse.length = argN ins e1 := by rw [List.length_reverse, List.length_take]; omega
  have hW8 : ((st.drop (argN ins e1)).map (cv N0 bv) |>.map fun v => v.category).sum ≤ 8 := by
    have := cat_le ((st.drop (argN ins e1)).map (cv N0 bv))
    rw [List.length_map] at this
    omega
  have pay : a1 < 229 → (∀ w ∈ wsOf a1, ∀ (a' : Array Value) (U : State), s.WarmedH U.vm → w.before a' U = true) := fun hcal w hw a' U hW => by
    obtain ⟨p1, p2, p3, p4, k1, -⟩ := cal_of hcal
    have hin : w ∈ lw_tbl ∧ goodWord w = true := by
      rcases List.mem_cons.mp hw with h | h
      · subst h
        exact ⟨List.mem_of_getElem? k1, rfl⟩
      · exact ⟨(List.mem_filter.mp h).1, (List.mem_filter.mp h).2⟩
    exact word_at hW (good_of_word hin.2) (hts w hin.1 (goodW_of hin.2))
  have hroom : mLoc a1 ≤ 40 → (rmOf d mc ms).frames + 1 ≤ R.frames ∧ 8 + (mLoc a1 + 11) + (rmOf d mc ms).locals ≤ R.locals := fun h40 => by
    have h1 := hF.1
    have h2 := hF.2
    show d + 8 + 1 ≤ _ ∧ 8 + (mLoc a1 + 11) + 64 * (d + 8) ≤ _
    omega
  have hds : ∀ {k : Nat}, (parseMethodDescriptor (mName a1).desc).map (fun q => q.parameters.length) = some k → ∀ sig, parseMethodDescriptor (mName a1).desc = some sig → k = sig.parameters.length := fun h sig hsig => by
    rw [hsig] at h
    exact (Option.some.inj h).symm
  cases ins with
  | invokestatic i =>
    obtain rfl : n = 3 := of_decide_eq_true hn
    have ha : a1 < 1000 := by
      unfold kindA at hk
      dsimp only at hk
      split at hk
      · assumption
      · cases hk
    dsimp only [lnk] at hkk
    rw [if_neg (by omega), if_neg (by omega), Bool.and_eq_true, Bool.and_eq_true] at hkk
    obtain ⟨⟨hcal0, hb0⟩, hlw⟩ := hkk
    obtain ⟨hcal, hkm, hen⟩ := calS_of hcal0
    obtain ⟨p1, p2, p3, p4, k1, k2, k3, k4, k5, k6, k7⟩ := cal_of hcal
    rw [if_pos hkm] at k7
    rw [← hen] at k6
    rw [hst]
    exact call_use (W.runS (Ts := tblG) ⟨hx, hb, hnL, ho, hts_G hts⟩ hM ⟨⟨rfl, rfl, (hroom k3).1, (hroom k3).2, pay hcal, List.mem_cons_self, code_of k1 hts, word_of k2 hts, k5, hds k6, word_of hlw hts⟩, word_of k7 hts⟩ ⟨hblind, hPc⟩ rfl (by rw [List.length_map]; exact hlen) hl.1 rfl (lv_room hW8) hd hmc) hv kk
  | invokevirtual i =>
    obtain rfl : n = 3 := of_decide_eq_true hn
    dsimp only [lnk] at hkk
    rw [Bool.and_eq_true, Bool.and_eq_true] at hkk
    obtain ⟨⟨hcal0, hb0⟩, hlw⟩ := hkk
    obtain ⟨hcal, hkm, hen⟩ := calS_of hcal0
    obtain ⟨p1, p2, p3, p4, k1, k2, k3, k4, k5, k6, k7⟩ := cal_of hcal
    rw [if_neg (by omega), if_neg (by omega), Bool.and_eq_true] at k7
    rw [← hen] at k6
    rw [hst]
    generalize has : (st.take (argN (.invokevirtual i) e1)).reverse = as at *
    cases as with
    | nil => have hlen : 0 = e1 + 1 := hlen; omega
    | cons v r =>
      have hr : (r.map (cv N0 bv)).length = e1 := by
        have hlen : r.length + 1 = e1 + 1 := hlen
        rw [List.length_map]
        omega
      have hrecv : ∃ b : Nat, cv N0 bv v = .ref b ∧ ∃ cellB : Cell, Hp[b]? = some cellB ∧ cellB.vm.isStatics = false ∧ s.vm.findClass (mName a1).cls = some cellB.cls := by
        unfold recvB at h5
        dsimp only at h5
        split at h5
        · rename_i o r2 heq
          obtain ⟨rfl, rfl⟩ := List.cons.inj heq
          have h5 := of_decide_eq_true h5
          obtain ⟨q, q1, q2⟩ := Option.map_eq_some_iff.mp h5
          obtain ⟨-, cell, f1, f2, f3, -⟩ := hh.obj q1 rfl
          refine ⟨_, rfl, cell, f1, by rw [f3]; rfl, ?_⟩
          rw [← q2, f2]
          exact (hKn.1.1 _ _ q1).2.1
        · rename_i j r2 heq
          obtain ⟨rfl, rfl⟩ := List.cons.inj heq
          rw [Bool.and_eq_true] at h5
          have hj := of_decide_eq_true h5.1
          obtain ⟨-, -, -, adK, adV, f4, f5, -⟩ := hKn.2.1
          have g1 := (f5 (j - 3) (by omega)).1
          rw [show 3 + (j - 3) = j by omega] at g1
          obtain ⟨cell, f1, f2, f3⟩ := vk_recv f4 (i := j - 3) (by omega) hv
          exact ⟨_, g1, cell, f1, f2, by rw [of_decide_eq_true h5.2]; exact f3⟩
        · cases h5
      obtain ⟨b, hb1, hcell⟩ := hrecv
      have hPc2 : ∀ U : State, U.heap = Hp → s.WarmedH U.vm → PcOf N0 Dg cA bv S (v :: r) H (Value.ref b :: r.map (cv N0 bv)).toArray U := fun U hU hW => by
        have h2 := hPc U hU hW
        rw [List.map_cons, hb1] at h2
        exact h2
      rw [List.map_cons, hb1, List.reverse_cons, List.append_assoc]
      exact call_use (W.runV (Ts := tblG) (As := r.map (cv N0 bv)) (b := b) ⟨hx, hb, hnL, ho, hts_G hts⟩ hM ⟨⟨rfl, rfl, (hroom k3).1, (hroom k3).2, pay hcal, List.mem_cons_self, code_of k1 hts, word_of k2 hts, k5, hds k6, word_of hlw hts⟩, word_of k7.1 hts, word_of k7.2 hts⟩ ⟨hblind, hcell, hPc2⟩ rfl hr hl.1 rfl (lv_room hW8) hd hmc) hv kk
  | invokespecial i =>
    obtain rfl : n = 3 := of_decide_eq_true hn
    have ha : a1 < 1000 := by
      unfold kindA at hk
      dsimp only at hk
      split at hk
      · assumption
      · cases hk
    dsimp only [lnk] at hkk
    rw [if_neg (by omega), Bool.and_eq_true] at hkk
    obtain ⟨hcal0, hlw⟩ := hkk
    obtain ⟨hcal, hkm, hen⟩ := calS_of hcal0
    obtain ⟨p1, p2, p3, p4, k1, k2, k3, k4, k5, k6, k7⟩ := cal_of hcal
    rw [if_neg (by omega), if_pos hkm, Bool.and_eq_true] at k7
    rw [← hen] at k6
    have hrn : mRet a1 = none := of_decide_eq_true k7.2
    have hyn : (mName a1).name = "<init>" := kindM_init hkm
    rw [hst]
    generalize has : (st.take (argN (.invokespecial i) e1)).reverse = as at *
    cases as with
    | nil => have hlen : 0 = e1 + 1 := hlen; omega
    | cons v r =>
      have hr : (r.map (cv N0 bv)).length = e1 := by
        have hlen : r.length + 1 = e1 + 1 := hlen
        rw [List.length_map]
        omega
      have hrecv : ∃ b : Nat, cv N0 bv v = .ref b := by
        unfold recvB at h5
        dsimp only at h5
        split at h5
        · rename_i o r2 heq
          obtain ⟨rfl, rfl⟩ := List.cons.inj heq
          exact ⟨_, rfl⟩
        · rename_i j r2 heq
          obtain ⟨rfl, rfl⟩ := List.cons.inj heq
          rw [Bool.and_eq_true] at h5
          have hj := of_decide_eq_true h5.1
          obtain ⟨-, -, -, adK, adV, f4, f5, -⟩ := hKn.2.1
          have g1 := (f5 (j - 3) (by omega)).1
          rw [show 3 + (j - 3) = j by omega] at g1
          exact ⟨_, g1⟩
        · cases h5
      obtain ⟨b, hb1⟩ := hrecv
      have hM' := hM
      unfold wsOf at hM'
      rw [hrn] at hM'
      have k1' := code_of k1 hts
      rw [hrn] at k1'
      have pay' := pay hcal
      unfold wsOf at pay'
      rw [hrn] at pay'
      have hPc2 : ∀ U : State, U.heap = Hp → s.WarmedH U.vm → PcOf N0 Dg cA bv S (v :: r) H (Value.ref b :: r.map (cv N0 bv)).toArray U := fun U hU hW => by
        have h2 := hPc U hU hW
        rw [List.map_cons, hb1] at h2
        exact h2
      rw [List.map_cons, hb1, List.reverse_cons, List.append_assoc]
      by_cases hb0 : b1 = 0
      · rw [if_pos hb0] at hlw
        exact call_use (W.runI (Ts := tblG) (As := r.map (cv N0 bv)) (b := b) ⟨hx, hb, hnL, ho, hts_G hts⟩ hM' ⟨⟨rfl, rfl, (hroom k3).1, (hroom k3).2, pay', List.mem_cons_self, k1', word_of k2 hts, k5, hds k6, word_of hlw hts⟩, hyn, word_of k7.1 hts⟩ ⟨hblind, hPc2⟩ rfl hr hl.1 rfl (lv_room hW8) hd hmc) hv kk
      · rw [if_neg hb0] at hlw
        have hrun := va_runIN (Ts := tblG) (As := r.map (cv N0 bv)) (b := b) (rest := (st.drop (argN (.invokespecial i) e1)).map (cv N0 bv)) (g := F0 m pc lsC ((r.map (cv N0 bv)).reverse ++ .ref b :: (st.drop (argN (.invokespecial i) e1)).map (cv N0 bv))) (cells := cells) (slots := slots) (R := R) (below := below) (meth := meth) (e := e0) (locs := locs) ⟨hx, hb, hnL, ho, hts_G hts⟩ hM' ⟨⟨⟨rfl, rfl, (hroom k3).1, (hroom k3).2, pay', List.mem_cons_self⟩, k1', word_of k2 hts, k5, hds k6, word_of hlw hts⟩, hyn, word_of k7.1 hts⟩ ⟨hblind, hPc2⟩ rfl hr hl.1 rfl (lv_room hW8) hd hmc
        refine call_use (a := (Value.ref b :: r.map (cv N0 bv)).toArray) (fun T hT X => ?_) hv kk
        obtain ⟨v, st₀, t, T', L, q0, q1, q2, q3, q4, q5, q6⟩ := hrun T hT X
        exact ⟨v, st₀, t, T', L, q0, q1, q2, q3, q5, q6⟩
  | _ => cases hk
end SOUND
