-- 99: from a run of the abstract machine to the law's walk (gen99.py)
def FL : List Jvm.Cond := flatC (Jvm.Cond.and given_1 narrow_1)
def sIx : List Nat := [57, 59, 61, 91, 97, 99]
def sTm (i : Nat) : Term := .string "MilestoneMaids$WayReader" (sIx.getD i 0)
def kaT : Term := .static "MilestoneMaids" "KIND_ABOVE" "[I"
def boT : Term := .static "MilestoneMaids" "BODIES" "[I"
theorem f_ka : Jvm.Cond.arrayOf kaT .int ∈ FL ∧ Jvm.Cond.eq (.length kaT) (.int (Int32.ofNat 7)) ∈ FL ∧ ∀ j, j < 7 → Jvm.Cond.eq (.elem kaT (.int (Int32.ofNat j))) (.int (kaL.getD j 0)) ∈ FL := by decide +kernel
theorem f_bo : Jvm.Cond.arrayOf boT .int ∈ FL ∧ Jvm.Cond.eq (.length boT) (.int (Int32.ofNat 21)) ∈ FL ∧ ∀ j, j < 21 → Jvm.Cond.eq (.elem boT (.int (Int32.ofNat j))) (.int (bodL.getD j 0)) ∈ FL := by decide +kernel
theorem f_cs : Jvm.Cond.eq (.static "java/lang/String" "COMPACT_STRINGS" "Z") (.int 1) ∈ FL ∧ Jvm.Cond.isRef (.static "jdk/internal/util/Preconditions" "SIOOBE_FORMATTER" "Ljava/util/function/BiFunction;") ∈ FL := by decide +kernel
theorem f_s1 : ∀ i, i < 6 → Jvm.Cond.exactly (sTm i) "java/lang/String" ∈ FL ∧ Jvm.Cond.eq (.field (sTm i) "java/lang/String" "coder" "B") (.int 0) ∈ FL ∧ Jvm.Cond.arrayOf (.field (sTm i) "java/lang/String" "value" "[B") .byte ∈ FL ∧ Jvm.Cond.eq (.length (.field (sTm i) "java/lang/String" "value" "[B")) (.int (Int32.ofNat (strN.getD i 0))) ∈ FL := by decide +kernel
theorem f_s2 : ∀ i, i < 6 → ∀ j, j < strN.getD i 0 → Jvm.Cond.eq (.elem (.field (sTm i) "java/lang/String" "value" "[B") (.int (Int32.ofNat j))) (.int ((strL.getD i []).getD j 0)) ∈ FL := by decide +kernel
theorem f_s3 : ∀ i, i < 6 → ∀ j, j < 6 → i ≠ j → (Jvm.Cond.not (Jvm.Cond.eq (sTm i) (sTm j)) ∈ FL ∨ Jvm.Cond.not (Jvm.Cond.eq (sTm j) (sTm i)) ∈ FL) := by decide +kernel
theorem f_s4 : ∀ q ∈ strIx, q.2.1 < 6 ∧ sTm q.2.1 = .string "MilestoneMaids$WayReader" q.1 := by decide +kernel
theorem f_s5 : ∀ q ∈ strIx, Jvm.Cond.stringRef "MilestoneMaids$WayReader" q.1 q.2.2 ∈ lw_tbl := by
  intro q hq
  simp only [strIx, List.mem_cons, List.not_mem_nil, or_false] at hq
  rcases hq with rfl | rfl | rfl | rfl | rfl | rfl
  · exact List.mem_of_getElem? (i := 492) (by decide +kernel)
  · exact List.mem_of_getElem? (i := 493) (by decide +kernel)
  · exact List.mem_of_getElem? (i := 494) (by decide +kernel)
  · exact List.mem_of_getElem? (i := 576) (by decide +kernel)
  · exact List.mem_of_getElem? (i := 577) (by decide +kernel)
  · exact List.mem_of_getElem? (i := 555) (by decide +kernel)
theorem arr_known {args : Array Value} {s : State} {ty : FieldType} (h : (Jvm.Cond.arrayClass ty).before args s = true) (hn : ∀ C, ty ≠ .object C) : ∃ cA : ClassId, ArrOfT s cA ty ∧ va_RA s cA ty := by
  obtain ⟨c, k, comp, h1, h2, h3⟩ := Cond.arrayClass_spec h
  refine ⟨c, fun N z => ⟨(fun k h => by cases h), k, h2, comp, h3⟩, ?_⟩
  cases ty with
  | object C => exact absurd rfl (hn C)
  | _ => exact h1
theorem base_facts {s : State} {m : MethodId} {meth : Method} {c : Code} {p : Program} {b L : Nat} {xs : Nat → Int32} (hts : ∀ w ∈ lw_tbl, w.before #[Value.ref b] s = true) (hX : va_X b L xs s s.heap) (hbl : b < s.heap.size) (hgv : (Jvm.Cond.and given_1 narrow_1).before #[Value.ref b] s = true) : ∃ (Dg : va_G) (cA : Nat → ClassId) (bv : Nat → Value), bv 0 = .ref b ∧ Kn s.heap.size Dg cA bv (L, xs) s := by
  have hs : ∀ w ∈ FL, w.before #[Value.ref b] s = true := flat_of_before _ hgv
  have hA : ∀ a : Nat, a < s.heap.size → ¬ (fun q : Nat => s.heap.size ≤ q) a := fun a h => Nat.not_le.mpr h
  have hall : ∀ a : Nat, ∃ (c0 : ClassId) (i0 : Nat → Nat), ∀ q : vw_C, vwCl[a]? = some q → u_Kn s q.1 q.2.1 q.2.2 c0 i0 := fun a => by
    match a with
    | 0 => obtain ⟨c0, i0, h0⟩ := u_known (C := RX0) (T := TX0) (N := 5) (n := 5) hts inX0 (hts (.instantiable RX0 5) (List.mem_of_getElem? (i := 245) (by decide +kernel))); exact ⟨c0, i0, fun q hq => by cases hq; exact h0⟩
    | 1 => obtain ⟨c0, i0, h0⟩ := u_known (C := RX1) (T := TX1) (N := 4) (n := 4) hts inX1 (hts (.instantiable RX1 4) (List.mem_of_getElem? (i := 224) (by decide +kernel))); exact ⟨c0, i0, fun q hq => by cases hq; exact h0⟩
    | 2 => obtain ⟨c0, i0, h0⟩ := u_known (C := RX2) (T := TX2) (N := 3) (n := 3) hts inX2 (hts (.instantiable RX2 3) (List.mem_of_getElem? (i := 116) (by decide +kernel))); exact ⟨c0, i0, fun q hq => by cases hq; exact h0⟩
    | 3 => obtain ⟨c0, i0, h0⟩ := u_known (C := RX3) (T := TX3) (N := 14) (n := 14) hts inX3 (hts (.instantiable RX3 14) (List.mem_of_getElem? (i := 110) (by decide +kernel))); exact ⟨c0, i0, fun q hq => by cases hq; exact h0⟩
    | 4 => obtain ⟨c0, i0, h0⟩ := u_known (C := RX4) (T := TX4) (N := 3) (n := 3) hts inX4 (hts (.instantiable RX4 3) (List.mem_of_getElem? (i := 270) (by decide +kernel))); exact ⟨c0, i0, fun q hq => by cases hq; exact h0⟩
    | 5 => obtain ⟨c0, i0, h0⟩ := u_known (C := RX5) (T := TX5) (N := 2) (n := 2) hts inX5 (hts (.instantiable RX5 2) (List.mem_of_getElem? (i := 599) (by decide +kernel))); exact ⟨c0, i0, fun q hq => by cases hq; exact h0⟩
    | 6 => obtain ⟨c0, i0, h0⟩ := u_known (C := RX6) (T := TX6) (N := 7) (n := 7) hts inX6 (hts (.instantiable RX6 7) (List.mem_of_getElem? (i := 194) (by decide +kernel))); exact ⟨c0, i0, fun q hq => by cases hq; exact h0⟩
    | 7 => obtain ⟨c0, i0, h0⟩ := u_known (C := RX7) (T := TX7) (N := 9) (n := 9) hts inX7 (hts (.instantiable RX7 9) (List.mem_of_getElem? (i := 102) (by decide +kernel))); exact ⟨c0, i0, fun q hq => by cases hq; exact h0⟩
    | 8 => obtain ⟨c0, i0, h0⟩ := u_known (C := RX8) (T := TX8) (N := 72) (n := 72) hts inX8 (hts (.instantiable RX8 72) (List.mem_of_getElem? (i := 866) (by decide +kernel))); exact ⟨c0, i0, fun q hq => by cases hq; exact h0⟩
    | n + 9 => exact ⟨0, fun _ => 0, fun q h => by simp [vwCl] at h⟩
  obtain ⟨aI0, hI1, hI2⟩ := arr_known (ty := .int) (hts _ (List.mem_of_getElem? (i := 135) (by decide +kernel))) (fun C h => by cases h)
  obtain ⟨aJ0, hJ1, hJ2⟩ := arr_known (ty := .long) (hts _ (List.mem_of_getElem? (i := 288) (by decide +kernel))) (fun C h => by cases h)
  obtain ⟨aZ0, hZ1, hZ2⟩ := arr_known (ty := .boolean) (hts _ (List.mem_of_getElem? (i := 1088) (by decide +kernel))) (fun C h => by cases h)
  have hover : (Jvm.Cond.arrayOver (.object "MilestoneMaids$Tape")).before #[Value.ref b] s = true := hts _ (List.mem_of_getElem? (i := 269) (by decide +kernel))
  obtain ⟨comp, aO0, kO, o1, -, o2, o3, o4⟩ := Cond.arrayOver_spec hover
  obtain ⟨t1, ka1, ka2⟩ := va_Tof (tm := kaT) (f := fun j => .int (kaL.getD j 0)) (by decide) (hs _ f_ka.1) (va_eqv (hs _ f_ka.2.1) rfl) (fun j hj => va_eqv (hs _ (f_ka.2.2 j hj)) rfl) hA
  obtain ⟨t2, bo1, bo2⟩ := va_Tof (tm := boT) (f := fun j => .int (bodL.getD j 0)) (by decide) (hs _ f_bo.1) (va_eqv (hs _ f_bo.2.1) rfl) (fun j hj => va_eqv (hs _ (f_bo.2.2 j hj)) rfl) hA
  have hz1 := va_Zof (hts _ (List.mem_of_getElem? (i := 798) (by decide +kernel))) (hts (.initialized "MilestoneMaids") (List.mem_of_getElem? (i := 85) (by decide +kernel))) ka1 hA
  have hz2 := va_Zof (hts _ (List.mem_of_getElem? (i := 800) (by decide +kernel))) (hts (.initialized "MilestoneMaids") (List.mem_of_getElem? (i := 85) (by decide +kernel))) bo1 hA
  have hz3 := va_Zof (hts _ (List.mem_of_getElem? (i := 508) (by decide +kernel))) (hts (.initialized "java/lang/String") (List.mem_of_getElem? (i := 96) (by decide +kernel))) (va_eqv (hs _ f_cs.1) rfl) hA
  have hz4 := va_Zqof (hts _ (List.mem_of_getElem? (i := 524) (by decide +kernel))) (hts (.initialized "jdk/internal/util/Preconditions") (List.mem_of_getElem? (i := 98) (by decide +kernel))) (hs _ f_cs.2) hA
  obtain ⟨vS, hvS1, hvS2⟩ : ∃ v : Value, (v = .null ∨ ∃ t, v = .ref t) ∧ va_Z "jdk/internal/util/Preconditions" "SIOOBE_FORMATTER" "Ljava/util/function/BiFunction;" v (fun q : Nat => s.heap.size ≤ q) s s.heap := by
    rcases hz4 with h | ⟨t, h⟩
    · exact ⟨_, Or.inl rfl, h⟩
    · exact ⟨_, Or.inr ⟨t, rfl⟩, h⟩
  obtain ⟨adK, adV, hS1, hS2⟩ := vk_Sof (N := 6) (tm := sTm) (len := strN) (byt := strL) (by decide +kernel) (fun i hi => hs _ (f_s1 i hi).1) (fun i hi => hs _ (f_s1 i hi).2.1) (fun i hi => hs _ (f_s1 i hi).2.2.1) (fun i hi => hs _ (f_s1 i hi).2.2.2) (fun i hi j hj => hs _ (f_s2 i hi j hj)) (fun i j hi hj hne => (f_s3 i hi j hj hne).imp (hs _) (hs _)) hA
  let bv : Nat → Value := fun j => if j = 0 then .ref b else if j = 1 then .ref t1 else if j = 2 then .ref t2 else if j = 20 then vS else if j < 3 then .null else if j < 9 then .ref (adK (j - 3)) else if j < 13 then .null else if j < 19 then .ref (adV (j - 13)) else .null
  refine ⟨(fun a => Classical.choose (hall a), fun a => Classical.choose (Classical.choose_spec (hall a))), fun k => if k = 20 then aI0 else if k = 21 then aJ0 else if k = 22 then aZ0 else aO0, bv, rfl, ⟨fun a q hq => Classical.choose_spec (Classical.choose_spec (hall a)) q hq, fun k q hk => ?_⟩, ⟨⟨va_AO.of hover, fun j => ?_, ⟨b, rfl, ?_⟩, ⟨t1, rfl, hz1, ka2⟩, ⟨t2, rfl, hz2, bo2⟩⟩, hz3, hvS2, adK, adV, hS1, fun i hi => ⟨?_, ?_⟩, fun q hq => ?_⟩, fun w hw hn => ?_⟩
  · match k, hk with
    | 0, hk => cases hk; exact ⟨hI1, hI2⟩
    | 1, hk => cases hk; exact ⟨hJ1, hJ2⟩
    | 2, hk => cases hk; exact ⟨hZ1, hZ2⟩
    | 3, hk => cases hk; exact ⟨fun N z => ⟨(fun k h => by cases h), kO, o2, comp, o3⟩, kO, comp, o2, o3, o1, o4⟩
    | k + 4, hk => simp [tysF] at hk
  · show (if j = 0 then _ else _) = _ ∨ ∃ t, (if j = 0 then _ else _) = _
    repeat' split
    all_goals first | exact Or.inr ⟨_, rfl⟩ | exact Or.inl rfl | exact hvS1
  · obtain ⟨scr, h1, h2, h3, h4, h5⟩ := hX
    exact ⟨scr, h1, h2, h3, Nat.le_of_eq h4.symm, by rw [h4], h5, Nat.not_le.mpr hbl⟩
  · show (if 3 + i = 0 then _ else _) = _
    rw [if_neg (by omega), if_neg (by omega), if_neg (by omega), if_neg (by omega), if_neg (by omega), if_pos (by omega), show 3 + i - 3 = i by omega]
  · show (if 13 + i = 0 then _ else _) = _
    rw [if_neg (by omega), if_neg (by omega), if_neg (by omega), if_neg (by omega), if_neg (by omega), if_neg (by omega), if_neg (by omega), if_pos (by omega), show 13 + i - 13 = i by omega]
  · obtain ⟨h1, h2⟩ := f_s4 q hq
    exact vk_R.of (A := #[Value.ref b]) (hts _ (f_s5 q hq)) (by have := hS2 _ h1; rw [h2] at this; exact this)
  · have h := hts w hw
    cases w with
    | fieldLinkNest a i b n d h2 => exact va_Nw.of rfl h
    | methodLinkNest a i x h2 => exact va_Nw.of rfl h
    | _ => cases hn
def AH0 : AH := ([], fun _ _ => 0, fun _ _ => 0, fun _ _ => none)
