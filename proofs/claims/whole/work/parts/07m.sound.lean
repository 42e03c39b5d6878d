-- 96: a step is sound, a run is sound
theorem chk_dec {M pc : Nat} {ins : Instr} {a b c e : Nat} {v : Int} (h : chkI M pc (ins, a, b, c, e, v) = true) : ∃ n, decode (mCode M) pc = .ok (ins, n) ∧ lenOK ins n = true ∧ lnk M pc ins a b c e v = true := by
  unfold chkI at h
  dsimp only at h
  rw [Bool.and_eq_true] at h
  obtain ⟨h1, h2⟩ := h
  split at h1
  · rename_i i2 n hd
    rw [Bool.and_eq_true] at h1
    obtain rfl := of_decide_eq_true h1.1
    exact ⟨n, hd, h1.2, h2⟩
  · cases h1
theorem ldc_ix : ∀ q ∈ ldcL, ∃ r ∈ strIx, r.1 = q.1 ∧ q.2 = 3 + r.2.1 ∧ r.2.1 < 6 := by decide +kernel
/-- what a method knows of the machine as it begins -/
def Kn (N0 : Nat) (Dg : va_G) (cA : Nat → ClassId) (bv : Nat → Value) (S : SC) (s : State) : Prop := va_K Dg vwCl (tysF cA) s ∧ BS N0 bv S s ∧ NW s
def Cx (N0 : Nat) (Dg : va_G) (cA : Nat → ClassId) (bv : Nat → Value) (S : SC) (M : Nat) (p : Program) (s : State) (m : MethodId) (args : Array Value) (meth : Method) (c : Code) : Prop :=
  p.tables.exec = Jvm.exec ∧ c.code = mCode M ∧ c.maxLocals = mLoc M ∧ s.vm.findClass (mName M).cls = some m.cls ∧ (∀ w ∈ lw_tbl, goodW w = true → w.before args s = true) ∧ ((mName M).name = "<init>" → meth.name = "<init>") ∧ Kn N0 Dg cA bv S s
theorem Kn.go {N0 : Nat} {Dg : va_G} {cA : Nat → ClassId} {bv : Nat → Value} {S : SC} {s U : State} {locs : List Loc} (h : Kn N0 Dg cA bv S s) (hW : s.WarmedH U.vm) (hv : va_S (fun q : Nat => N0 ≤ q) s.heap U.heap locs) : Kn N0 Dg cA bv S U := ⟨h.1.moved hW.alike, h.2.1.go hW hv, h.2.2.go hW⟩
section SOUND
variable {p : Program} {l : Launch} {e0 : Env} {R : Room} {s : State} {m : MethodId} {args : Array Value} {below : List Frame} {meth : Method} {c : Code} {Q : State → Prop} {Hp : Heap} {locs : List Loc} {cells slots : Nat} {lsC : Array Slot} {N0 : Nat} {Dg : va_G} {cA : Nat → ClassId} {bv : Nat → Value} {S : SC} {M pc : Nat} {ls st : List Value} {H : AH} {a1 b1 c1 e1 : Nat} {v1 : Int} {y : Nat × List Value × List Value × AH} {ins : Instr}
set_option maxHeartbeats 4000000 in
theorem step_sound (C : Cx N0 Dg cA bv S M p s m args meth c) (hc : codeAt M pc = some (ins, a1, b1, c1, e1, v1)) (hs : stepA S ins a1 b1 c1 e1 v1 pc ls st H = some y) (hl : LR N0 bv lsC (mLoc M) ls) (hh : HR N0 Dg cA H Hp) (hv : va_S (fun q : Nat => N0 ≤ q) s.heap Hp locs) (hR : Rm R cells slots H y.2.2.2) (hF : 1 ≤ R.frames ∧ 64 ≤ R.locals) (kk : KK N0 Dg cA bv p l e0 R s m args below meth c Q cells slots (mLoc M) H y) : W p l e0 R s m args below meth c Hp locs cells slots Q (F0 m pc lsC (st.map (cv N0 bv))) := by
  obtain ⟨hx, hb, hnL, ho, hts, hini, hK, hB, hN⟩ := C
  have hbr : ∀ j, bv j = .null ∨ ∃ t, bv j = .ref t := hB.1.2.1
  have hbv : ∀ j, (bv j).category = 1 := fun j => by rcases hbr j with h | ⟨t, h⟩ <;> rw [h] <;> rfl
  obtain ⟨n, hd, hn, hk⟩ := chk_dec (chk_at hc)
  cases ins with
  | iconst k => obtain rfl : n = 1 := of_decide_eq_true hn; exact ss_iconst hx hb hl hh hv hd hs kk
  | bipush k => obtain rfl : n = 2 := of_decide_eq_true hn; exact ss_bipush hx hb hl hh hv hd hs kk
  | sipush k => obtain rfl : n = 3 := of_decide_eq_true hn; exact ss_sipush hx hb hl hh hv hd hs kk
  | lconst k => obtain rfl : n = 1 := of_decide_eq_true hn; exact ss_lconst hx hb hl hh hv hd hs kk
  | aconst_null => obtain rfl : n = 1 := of_decide_eq_true hn; exact ss_null hx hb hl hh hv hd hs kk
  | ldc i =>
    obtain rfl : n = 2 := of_decide_eq_true hn
    have hk : (decide ((i, a1) ∈ ldcL) && decide ((mName M).cls = "MilestoneMaids$WayReader")) = true := hk
    rw [Bool.and_eq_true] at hk
    obtain ⟨r, hr, q1, q2, q3⟩ := ldc_ix _ (of_decide_eq_true hk.1)
    obtain ⟨-, -, -, adK, adV, h4, h5, h6⟩ := hB
    have hZ := h6 r hr
    rw [q1] at hZ
    rw [of_decide_eq_true hk.2] at ho
    exact ss_ldc hx hb hl hh hv hd ho hZ (by rw [show a1 = 3 + r.2.1 from q2]; exact (h5 _ q3).1) hs kk
  | ldc_w i => obtain rfl : n = 3 := of_decide_eq_true hn; exact ss_ldcw hx hb hl hh hv hd ho (word_of hk hts) hs kk
  | ldc2_w i => obtain rfl : n = 3 := of_decide_eq_true hn; exact ss_ldc2 hx hb hl hh hv hd ho (word_of hk hts) hs kk
  | iload_n k => obtain rfl : n = 1 := of_decide_eq_true hn; exact ss_iload_n hx hb hl hh hv hd hs kk
  | iload k => obtain rfl : n = 2 := of_decide_eq_true hn; exact ss_iload hx hb hl hh hv hd hs kk
  | lload_n k => obtain rfl : n = 1 := of_decide_eq_true hn; exact ss_lload_n hx hb hl hh hv hd hs kk
  | aload_n k => obtain rfl : n = 1 := of_decide_eq_true hn; exact ss_aload_n hx hb hl hh hv hd hbr hs kk
  | aload k => obtain rfl : n = 2 := of_decide_eq_true hn; exact ss_aload hx hb hl hh hv hd hbr hs kk
  | istore_n k => obtain rfl : n = 1 := of_decide_eq_true hn; exact ss_istore_n hx hb hl hh hv hd hbv (of_decide_eq_true hk) hs kk
  | istore k => obtain rfl : n = 2 := of_decide_eq_true hn; exact ss_istore hx hb hl hh hv hd hbv (of_decide_eq_true hk) hs kk
  | astore_n k => obtain rfl : n = 1 := of_decide_eq_true hn; exact ss_astore_n hx hb hl hh hv hd hbv (of_decide_eq_true hk) hs kk
  | astore k => obtain rfl : n = 2 := of_decide_eq_true hn; exact ss_astore hx hb hl hh hv hd hbv (of_decide_eq_true hk) hs kk
  | iinc k i => obtain rfl : n = 3 := of_decide_eq_true hn; exact ss_iinc hx hb hl hh hv hd hbv (of_decide_eq_true hk) hs kk
  | iadd => obtain rfl : n = 1 := of_decide_eq_true hn; exact ss_iadd hx hb hl hh hv hd hs kk
  | isub => obtain rfl : n = 1 := of_decide_eq_true hn; exact ss_isub hx hb hl hh hv hd hs kk
  | imul => obtain rfl : n = 1 := of_decide_eq_true hn; exact ss_imul hx hb hl hh hv hd hs kk
  | idiv => obtain rfl : n = 1 := of_decide_eq_true hn; exact ss_idiv hx hb hl hh hv hd hs kk
  | irem => obtain rfl : n = 1 := of_decide_eq_true hn; exact ss_irem hx hb hl hh hv hd hs kk
  | ineg => obtain rfl : n = 1 := of_decide_eq_true hn; exact ss_ineg hx hb hl hh hv hd hs kk
  | iand => obtain rfl : n = 1 := of_decide_eq_true hn; exact ss_iand hx hb hl hh hv hd hs kk
  | ior => obtain rfl : n = 1 := of_decide_eq_true hn; exact ss_ior hx hb hl hh hv hd hs kk
  | ixor => obtain rfl : n = 1 := of_decide_eq_true hn; exact ss_ixor hx hb hl hh hv hd hs kk
  | ishl => obtain rfl : n = 1 := of_decide_eq_true hn; exact ss_ishl hx hb hl hh hv hd hs kk
  | ishr => obtain rfl : n = 1 := of_decide_eq_true hn; exact ss_ishr hx hb hl hh hv hd hs kk
  | iushr => obtain rfl : n = 1 := of_decide_eq_true hn; exact ss_iushr hx hb hl hh hv hd hs kk
  | i2l => obtain rfl : n = 1 := of_decide_eq_true hn; exact ss_i2l hx hb hl hh hv hd hs kk
  | l2i => obtain rfl : n = 1 := of_decide_eq_true hn; exact ss_l2i hx hb hl hh hv hd hs kk
  | i2b => obtain rfl : n = 1 := of_decide_eq_true hn; exact ss_i2b hx hb hl hh hv hd hs kk
  | i2s => obtain rfl : n = 1 := of_decide_eq_true hn; exact ss_i2s hx hb hl hh hv hd hs kk
  | i2c => obtain rfl : n = 1 := of_decide_eq_true hn; exact ss_i2c hx hb hl hh hv hd hs kk
  | lcmp => obtain rfl : n = 1 := of_decide_eq_true hn; exact ss_lcmp hx hb hl hh hv hd hs kk
  | lshl => obtain rfl : n = 1 := of_decide_eq_true hn; exact ss_lshl hx hb hl hh hv hd hs kk
  | land => obtain rfl : n = 1 := of_decide_eq_true hn; exact ss_land hx hb hl hh hv hd hs kk
  | lor => obtain rfl : n = 1 := of_decide_eq_true hn; exact ss_lor hx hb hl hh hv hd hs kk
  | pop => obtain rfl : n = 1 := of_decide_eq_true hn; exact ss_pop hx hb hl hh hv hd hs kk
  | dup => obtain rfl : n = 1 := of_decide_eq_true hn; exact ss_dup hx hb hl hh hv hd hs kk
  | dup2 => obtain rfl : n = 1 := of_decide_eq_true hn; exact ss_dup2 hx hb hl hh hv hd hs kk
  | goto off => obtain rfl : n = 3 := of_decide_eq_true hn; exact ss_goto hx hb hl hh hv hd hk hs kk
  | ifCond cd off => obtain rfl : n = 3 := of_decide_eq_true hn; exact ss_if hx hb hl hh hv hd hk hs kk
  | if_icmp cd off => obtain rfl : n = 3 := of_decide_eq_true hn; exact ss_icmp hx hb hl hh hv hd hk hs kk
  | ifnull off => obtain rfl : n = 3 := of_decide_eq_true hn; exact ss_ifnull hx hb hl hh hv hd hk hs kk
  | ifnonnull off => obtain rfl : n = 3 := of_decide_eq_true hn; exact ss_ifnonnull hx hb hl hh hv hd hk hs kk
  | tableswitch dflt lo hi offs =>
    have hk : (offOK pc dflt && offs.toList.all (offOK pc) && decide (hi + 1 = lo + offs.toList.length) && decide (-2 ^ 31 ≤ lo) && decide (hi < 2 ^ 31)) = true := hk
    simp only [Bool.and_eq_true, decide_eq_true_eq] at hk
    exact ss_tsw hx hb hl hh hv hd hk.1.1.1.1 hk.1.1.1.2 hk.1.1.2 hk.1.2 hk.2 hs kk
  | lookupswitch dflt ps =>
    have hk : (offOK pc dflt && ps.toList.all (fun q => offOK pc q.2 && decide (-2 ^ 31 ≤ q.1) && decide (q.1 < 2 ^ 31)) && (ps.toList.zip (ps.toList.drop 1)).all (fun (q, next) => q.1 < next.1)) = true := hk
    rw [Bool.and_eq_true, Bool.and_eq_true] at hk
    exact ss_lsw hx hb hl hh hv hd hk.1.1 hk.1.2 hk.2 hs kk
  | getfield i =>
    obtain rfl : n = 3 := of_decide_eq_true hn
    dsimp only [lnk] at hk
    by_cases h50 : a1 = 50
    · rw [if_pos h50] at hk
      cases st with
      | nil => cases hs
      | cons v r =>
        cases v with
        | retAddr j =>
          exact ss_getfieldB hx hb hl hh hv hB ho (fun h => by rw [if_pos h] at hk; exact word_of hk hts) (fun h => by rw [if_neg h] at hk; exact word_of hk hts) hd hs kk
        | ref o =>
          exfalso
          have hkd : kd H o = a1 := by
            dsimp only [stepA, ite1] at hs
            split at hs
            · split at hs
              · assumption
              · cases hs
            · split at hs
              · split at hs
                · assumption
                · cases hs
              · split at hs
                · assumption
                · cases hs
          have h1 := kd_lt (H := H) (o := o) (by omega)
          have h2 := hh.2.2 o h1
          omega
        | _ => cases hs
    · rw [if_neg h50] at hk
      cases hvc : vwCl[a1]? with
      | none => rw [hvc] at hk; cases hk
      | some r =>
        obtain ⟨C, T, N⟩ := r
        rw [hvc] at hk
        dsimp only at hk
        simp only [Bool.and_eq_true, decide_eq_true_eq] at hk
        cases st with
        | nil => cases hs
        | cons v r =>
          cases v with
          | ref o => exact ss_getfield hx hb hl hh hv hK hts ho hvc hk.1.1.1 (word_of hk.1.1.2 hts) hk.1.2 hk.2 hd hs kk
          | retAddr j =>
            exfalso
            dsimp only [stepA, ite1] at hs
            split at hs
            · split at hs
              · rename_i hj; exact h50 hj.2
              · cases hs
            · split at hs
              · rename_i hj; exact h50 hj.2
              · cases hs
          | _ => cases hs
  | putfield i =>
    obtain rfl : n = 3 := of_decide_eq_true hn
    dsimp only [lnk] at hk
    cases hvc : vwCl[a1]? with
    | none => rw [hvc] at hk; cases hk
    | some r =>
      obtain ⟨C, T, N⟩ := r
      rw [hvc] at hk
      dsimp only at hk
      simp only [Bool.and_eq_true, decide_eq_true_eq] at hk
      obtain ⟨ty, t1, t2⟩ := cls_ty hvc hk.1.1.1.1
      refine ss_putfield hx hb hl hh hv hK hts ho hvc hk.1.1.1.1 (word_of hk.1.1.1.2 hts) hk.1.1.2 hk.1.2 (fun hf => ?_) t1 t2 hd hs kk
      have h2 := hk.2
      rw [if_pos hf, Bool.and_eq_true] at h2
      exact ⟨of_decide_eq_true h2.1, hini (of_decide_eq_true h2.2)⟩
  | new i =>
    obtain rfl : n = 3 := of_decide_eq_true hn
    dsimp only [lnk] at hk
    cases hvc : vwCl[a1]? with
    | none => rw [hvc] at hk; cases hk
    | some r =>
      obtain ⟨C, T, N⟩ := r
      rw [hvc] at hk
      dsimp only at hk
      simp only [Bool.and_eq_true] at hk
      exact ss_new hx hb hl hh hv hK hts ho hvc (word_of hk.1.1 hts) (word_of hk.1.2 hts) (word_of hk.2 hts) hd hs hR kk
  | newarray t =>
    obtain rfl : n = 2 := of_decide_eq_true hn
    have hk : (decide ((t = .int ∧ a1 = 20) ∨ (t = .long ∧ a1 = 21) ∨ (t = .boolean ∧ a1 = 22)) && word c1 (.arrayClass (newarray.typeOf t))) = true := hk
    rw [Bool.and_eq_true] at hk
    exact ss_newarray hx hb hl hh hv hK (of_decide_eq_true hk.1) (word_of hk.2 hts) hd hs hR kk
  | anewarray i => obtain rfl : n = 3 := of_decide_eq_true hn; exact ss_anewarray hx hb hl hh hv hK hB ho (word_of hk hts) hd hs hR kk
  | getstatic i => obtain rfl : n = 3 := of_decide_eq_true hn; exact ss_getstatic hx hb hl hh hv hB hts ho hk hd hs kk
  | arraylength => obtain rfl : n = 1 := of_decide_eq_true hn; exact ss_arraylength hx hb hl hh hv hK hB hd hs kk
  | iaload => obtain rfl : n = 1 := of_decide_eq_true hn; exact ss_iaload hx hb hl hh hv hK hB hd hs kk
  | laload => obtain rfl : n = 1 := of_decide_eq_true hn; exact ss_laload hx hb hl hh hv hK hB hd hs kk
  | baload => obtain rfl : n = 1 := of_decide_eq_true hn; exact ss_baload hx hb hl hh hv hK hB hd hs kk
  | aaload => obtain rfl : n = 1 := of_decide_eq_true hn; exact ss_aaload hx hb hl hh hv hK hB hd hs kk
  | iastore => obtain rfl : n = 1 := of_decide_eq_true hn; exact ss_iastore hx hb hl hh hv hK hB hd hs kk
  | lastore => obtain rfl : n = 1 := of_decide_eq_true hn; exact ss_lastore hx hb hl hh hv hK hB hd hs kk
  | bastore => obtain rfl : n = 1 := of_decide_eq_true hn; exact ss_bastore hx hb hl hh hv hK hB hd hs kk
  | aastore => obtain rfl : n = 1 := of_decide_eq_true hn; exact ss_aastore hx hb hl hh hv hK hB hd hs kk
  | invokespecial i =>
    obtain rfl : n = 3 := of_decide_eq_true hn
    have ha : a1 = 1001 := by
      dsimp only [stepA] at hs
      split at hs
      · assumption
      · cases hs
    dsimp only [lnk] at hk
    rw [if_pos ha] at hk
    exact ss_objInit hx hb hnL hl hh hv ho (word_of hk hts) (word_of w_ob1 hts) (word_of w_ob2 hts) ha hF hd hs kk
  | invokestatic i =>
    obtain rfl : n = 3 := of_decide_eq_true hn
    dsimp only [lnk] at hk
    by_cases h2 : a1 = 1002
    · rw [if_pos h2] at hk
      exact ss_min hx hb hnL hl hh hv ho (word_of hk hts) (word_of w_mm1 hts) (word_of w_mm2 hts) (word_of w_mm3 hts) h2 hF ⟨by have := hR.1; omega, by have := hR.2; omega⟩ hd hs kk
    · have ha : a1 = 1000 := by
        dsimp only [stepA] at hs
        rw [if_neg h2] at hs
        split at hs
        · assumption
        · cases hs
      rw [if_neg h2, if_pos ha] at hk
      exact ss_copy hx hb hnL hl hh hv hK ho (word_of hk hts) (word_of w_ac1 hts) (word_of w_ac2 hts) (word_of w_ac3 hts) ha hF hd hs kk
  | _ => cases hs
end SOUND
