-- 98: a run is sound: what the abstract machine comes to, the machine comes to
theorem sizeC_le (a : Nat) : sizeC a ≤ 4096 := by
  unfold sizeC
  cases h : vwCl[a]? with
  | none => exact Nat.zero_le _
  | some r => exact (show ∀ r ∈ vwCl, r.2.2 ≤ 4096 by decide +kernel) r (List.mem_of_getElem? h)
set_option maxHeartbeats 4000000 in
theorem step_lay {S : SC} {ins : Instr} {a b c e : Nat} {v : Int} {pc : Nat} {ls st : List Value} {H : AH} {y : Nat × List Value × List Value × AH} (hs : stepA S ins a b c e v pc ls st H = some y) : y.2.2.2.1 = H.1 ∨ ∃ k n, aN H < 1000 ∧ n ≤ 4096 ∧ y.2.2.2 = gr H k n := by
  cases ins <;> dsimp only [stepA, ite1] at hs <;> (repeat' split at hs) <;> first
    | (cases hs; done)
    | (obtain rfl := Option.some.inj hs; exact Or.inl rfl)
    | (obtain ⟨l1, h1, rfl⟩ := Option.map_eq_some_iff.mp hs; exact Or.inl rfl)
    | (rename_i h; obtain rfl := Option.some.inj hs; exact Or.inr ⟨_, _, h, sizeC_le _, rfl⟩)
    | (rename_i h; obtain rfl := Option.some.inj hs; exact Or.inr ⟨_, _, h.1, h.2.2, rfl⟩)
def Gw (H H1 : AH) : Prop := aN H ≤ aN H1 ∧ slotsOf H ≤ slotsOf H1 ∧ (aN H ≤ 1000 → slotsOf H ≤ 4096 * aN H → aN H1 ≤ 1000 ∧ slotsOf H1 ≤ 4096 * aN H1)
theorem Gw.rf (H : AH) : Gw H H := ⟨Nat.le_refl _, Nat.le_refl _, fun h1 h2 => ⟨h1, h2⟩⟩
theorem Gw.tr {A B C : AH} (h1 : Gw A B) (h2 : Gw B C) : Gw A C := ⟨Nat.le_trans h1.1 h2.1, Nat.le_trans h1.2.1 h2.2.1, fun q1 q2 => h2.2.2 (h1.2.2 q1 q2).1 (h1.2.2 q1 q2).2⟩
theorem step_grow {S : SC} {ins : Instr} {a b c e : Nat} {v : Int} {pc : Nat} {ls st : List Value} {H : AH} {y : Nat × List Value × List Value × AH} (hs : stepA S ins a b c e v pc ls st H = some y) : Gw H y.2.2.2 := by
  rcases step_lay hs with h | ⟨k, n, h1, h2, h3⟩
  · have e1 : aN y.2.2.2 = aN H := by unfold aN; rw [h]
    have e2 : slotsOf y.2.2.2 = slotsOf H := by unfold slotsOf; rw [h]
    unfold Gw
    rw [e1, e2]
    exact ⟨Nat.le_refl _, Nat.le_refl _, fun a b => ⟨a, b⟩⟩
  · rw [h3]
    unfold Gw
    rw [gr_n, gr_slots]
    omega
theorem run_grow (S : SC) : ∀ (n d M pc : Nat) (ls st : List Value) (H : AH) (r : Option Value) (H' : AH), run S n d M pc ls st H = some (r, H') → Gw H H'
  | 0, d, M, pc, ls, st, H, r, H', h => by simp [run] at h
  | n + 1, d, M, pc, ls, st, H, r, H', h => by
    rw [run] at h
    cases hc : codeAt M pc with
    | none => rw [hc] at h; cases h
    | some ai =>
      obtain ⟨ins, a, b, c, e, v⟩ := ai
      rw [hc] at h
      dsimp only at h
      by_cases h1 : kindA ins a = 1
      · rw [if_pos h1] at h
        obtain ⟨x, -, hx⟩ := Option.map_eq_some_iff.mp h
        cases hx
        exact Gw.rf _
      · rw [if_neg h1] at h
        by_cases h2 : kindA ins a = 2
        · rw [if_pos h2] at h
          cases d with
          | zero => cases h
          | succ d =>
            dsimp only at h
            split at h
            · cases h4 : run S n d a 0 (entryL (st.take (argN ins e)).reverse (mLoc a)) [] H with
              | none => rw [h4] at h; cases h
              | some y =>
                obtain ⟨r3, H3⟩ := y
                rw [h4] at h
                exact (run_grow S n _ _ _ _ _ _ _ _ h4).tr (run_grow S n _ _ _ _ _ _ _ _ h)
            · cases h
        · rw [if_neg h2] at h
          cases h5 : stepA S ins a b c e v pc ls st H with
          | none => rw [h5] at h; cases h
          | some y =>
            obtain ⟨pc', ls', st', H3⟩ := y
            rw [h5] at h
            exact (step_grow h5).tr (run_grow S n _ _ _ _ _ _ _ _ h)
section SOUND
variable {l : Launch} {N0 : Nat} {Dg : va_G} {cA : Nat → ClassId} {bv : Nat → Value} {S : SC}
/-- what is to be shown of a run of n steps -/
def RS (l : Launch) (N0 : Nat) (Dg : va_G) (cA : Nat → ClassId) (bv : Nat → Value) (S : SC) (n : Nat) : Prop :=
  ∀ (d M pc : Nat) (ls st : List Value) (H : AH) (r : Option Value) (H' : AH), run S n d M pc ls st H = some (r, H') →
  ∀ (p : Program) (e0 : Env) (R : Room) (s : State) (m : MethodId) (args : Array Value) (below : List Frame) (meth : Method) (c : Code) (Q : State → Prop) (Hp : Heap) (locs : List Loc) (cells slots : Nat) (lsC : Array Slot),
  Cx N0 Dg cA bv S M p s m args meth c → LR N0 bv lsC (mLoc M) ls → HR N0 Dg cA H Hp → va_S (fun q : Nat => N0 ≤ q) s.heap Hp locs → Rm R cells slots H H' → FR R d →
  (∀ (Hp1 : Heap) (locs1 : List Loc) (lsC1 : Array Slot) (pc1 : Nat) (ins : Instr) (a b k e : Nat) (v : Int) (st1 : List Value), codeAt M pc1 = some (ins, a, b, k, e, v) → kindA ins a = 1 → retA ins (mRet M) st1 = some r → HR N0 Dg cA H' Hp1 → va_S (fun q : Nat => N0 ≤ q) s.heap Hp1 locs1 → W p l e0 R s m args below meth c Hp1 locs1 (cells + (aN H' - aN H)) (slots + (slotsOf H' - slotsOf H)) Q (F0 m pc1 lsC1 (st1.map (cv N0 bv)))) →
  W p l e0 R s m args below meth c Hp locs cells slots Q (F0 m pc lsC (st.map (cv N0 bv)))
theorem meth_sound {n d a : Nat} {as : List Value} {H H3 : AH} {r3 : Option Value} (ih : RS l N0 Dg cA bv S n) (hcal : a < 229) (hbr : ∀ j, bv j = .null ∨ ∃ t, bv j = .ref t) (hlen : (entryL as (mLoc a)).length = mLoc a) (hrun : run S n d a 0 (entryL as (mLoc a)) [] H = some (r3, H3)) :
    Met l (mName a) (wsOf a) (rmOf d (aN H3 - aN H) (slotsOf H3 - slotsOf H)) (PcOf N0 Dg cA bv S as H) (QcOf N0 Dg cA bv r3 H3) (aN H3 - aN H) (slotsOf H3 - slotsOf H) (fun q : Nat => N0 ≤ q) := by
  obtain ⟨p1, p2, p3, p4, k1, k2, k3, k4, k5, k6, k7⟩ := cal_of hcal
  refine Met.ofW (cc := mCode a) (maxL := mLoc a) (ret := mRet a) k4 rfl ?_
  intro p e0 s m args below meth c s₁ B hml hv
  obtain ⟨rfl, hHR, hKn⟩ := hv
  have hbv : ∀ j, (bv j).category = 1 := fun j => by rcases hbr j with h | ⟨t, h⟩ <;> rw [h] <;> rfl
  have hts := atoms_spec (ws := wsOf a) B.pre
  have hall : ∀ w ∈ lw_tbl, goodW w = true → w.before (as.map (cv N0 bv)).toArray s = true := fun w hw hg => by
    by_cases hgw : goodWord w = true
    · exact hts w (List.mem_cons_of_mem _ (List.mem_filter.mpr ⟨hw, hgw⟩))
    · have hnb : nestB w = true := by
        unfold goodW at hg
        rw [Bool.or_eq_true] at hg
        exact hg.resolve_left hgw
      have h2 := hKn.2.2 w hw hnb
      cases w with
      | fieldLinkNest a i b n d h => exact va_Nw.use rfl h2
      | methodLinkNest a i x h => exact va_Nw.use rfl h2
      | _ => cases hnb
  have C : Cx N0 Dg cA bv S a p s m (as.map (cv N0 bv)).toArray meth c := ⟨B.exec, B.bytes, hml, findClass_of_methodNamed B.named, hall, fun h => (name_of_methodNamed B.named B.method).1.trans h, hKn⟩
  obtain ⟨hle, hLR⟩ := entry_LR (N0 := N0) hbv hlen
  rw [lg_entry_eq]
  refine ih d a 0 (entryL as (mLoc a)) [] H r3 H3 hrun p e0 _ s m _ below meth c _ s.heap [] 0 0 _ C hLR hHR ⟨Nat.le_refl _, fun _ _ _ => rfl, fun q hq => by cases hq⟩ ⟨by show 0 + _ ≤ _; rw [Nat.zero_add]; exact Nat.le_refl _, by show 0 + _ ≤ _; rw [Nat.zero_add]; exact Nat.le_refl _⟩ ⟨Nat.le_refl _, Nat.le_refl _⟩ ?_
  intro Hp1 locs1 lsC1 pc1 ins1 a1 b1 c1 e1 v1 st1 q1 q2 q3 q4 q5
  rw [Nat.zero_add, Nat.zero_add]
  exact ret_sound C B.returns B.notSynchronized q1 q2 q3 (fun t ht _ => ⟨rfl, by rw [ht]; exact q4, by rw [ht]; exact ⟨q5.1, q5.2.1, fun q hq => by cases hq⟩⟩) q5.2.2
theorem run_sound : ∀ n : Nat, RS l N0 Dg cA bv S n
  | 0 => fun d M pc ls st H r H' h => by simp [run] at h
  | n + 1 => fun d M pc ls st H r H' h p e0 R s m args below meth c Q Hp locs cells slots lsC C hl hh hv hR hF hret => by
    have ih := run_sound n
    rw [run] at h
    cases hc : codeAt M pc with
    | none => rw [hc] at h; cases h
    | some ai =>
      obtain ⟨ins, a, b, k, e, v⟩ := ai
      rw [hc] at h
      dsimp only at h
      by_cases h1 : kindA ins a = 1
      · rw [if_pos h1] at h
        obtain ⟨x, hx1, hx2⟩ := Option.map_eq_some_iff.mp h
        cases hx2
        have k2 := hret Hp locs lsC pc ins a b k e v st hc h1 hx1 hh hv
        rw [Nat.sub_self, Nat.sub_self, Nat.add_zero, Nat.add_zero] at k2
        exact k2
      · rw [if_neg h1] at h
        by_cases h2 : kindA ins a = 2
        · rw [if_pos h2] at h
          cases d with
          | zero => cases h
          | succ d =>
            dsimp only at h
            split at h
            · rename_i h3
              obtain ⟨g1, g2, g3, g4⟩ := h3
              cases h4 : run S n d a 0 (entryL (st.take (argN ins e)).reverse (mLoc a)) [] H with
              | none => rw [h4] at h; cases h
              | some y =>
                obtain ⟨r3, H3⟩ := y
                rw [h4] at h
                dsimp only at h
                have w1 := run_grow S _ _ _ _ _ _ _ _ _ h4
                have w2 := run_grow S _ _ _ _ _ _ _ _ _ h
                have hcal : a < 229 := by
                  obtain ⟨n2, hd, hn, hkk⟩ := chk_dec (chk_at hc)
                  cases ins with
                  | invokestatic i =>
                    have ha : a < 1000 := by
                      unfold kindA at h2
                      dsimp only at h2
                      split at h2
                      · assumption
                      · cases h2
                    dsimp only [lnk] at hkk
                    rw [if_neg (by omega), if_neg (by omega), Bool.and_eq_true, Bool.and_eq_true] at hkk
                    exact (calS_of hkk.1.1).1
                  | invokevirtual i =>
                    dsimp only [lnk] at hkk
                    rw [Bool.and_eq_true, Bool.and_eq_true] at hkk
                    exact (calS_of hkk.1.1).1
                  | invokespecial i =>
                    have ha : a < 1000 := by
                      unfold kindA at h2
                      dsimp only at h2
                      split at h2
                      · assumption
                      · cases h2
                    dsimp only [lnk] at hkk
                    rw [if_neg (by omega), Bool.and_eq_true] at hkk
                    exact (calS_of hkk.1).1
                  | _ => cases h2
                have hM := meth_sound ih hcal C.2.2.2.2.2.2.2.1.1.2.1 g4 h4
                obtain ⟨hR1, hR2⟩ := hR
                refine call_sound C hc h2 g1 g2 g3 hM ⟨by have := w1.1; have := w2.1; omega, by have := w1.2.1; have := w2.2.1; omega⟩ hF hl hh hv (fun Hp1 locs1 f1 f2 => ?_)
                have w3 := w1.1; have w4 := w2.1; have w5 := w1.2.1; have w6 := w2.2.1
                refine ih (d + 1) M (pc + 3) ls _ H3 r H' h p e0 R s m args below meth c Q Hp1 locs1 _ _ lsC C hl f1 f2 ⟨by omega, by omega⟩ hF (fun Hp2 locs2 lsC2 pc2 ins2 a2 b2 c2 e2 v2 st2 q1 q2 q3 q4 q5 => ?_)
                have k2 := hret Hp2 locs2 lsC2 pc2 ins2 a2 b2 c2 e2 v2 st2 q1 q2 q3 q4 q5
                rw [show cells + (aN H3 - aN H) + (aN H' - aN H3) = cells + (aN H' - aN H) by omega, show slots + (slotsOf H3 - slotsOf H) + (slotsOf H' - slotsOf H3) = slots + (slotsOf H' - slotsOf H) by omega]
                exact k2
            · cases h
        · rw [if_neg h2] at h
          cases h5 : stepA S ins a b k e v pc ls st H with
          | none => rw [h5] at h; cases h
          | some y =>
            obtain ⟨pc', ls', st', H3⟩ := y
            rw [h5] at h
            dsimp only at h
            have w1 := step_grow h5
            have w2 := run_grow S _ _ _ _ _ _ _ _ _ h
            obtain ⟨hR1, hR2⟩ := hR
            have w3 := w1.1; have w4 := w2.1; have w5 := w1.2.1; have w6 := w2.2.1
            dsimp only at w3 w5
            refine step_sound C hc h5 hl hh hv ⟨by dsimp only; omega, by dsimp only; omega⟩ ⟨by have := hF.1; omega, by have := hF.2; omega⟩ (fun Hp1 locs1 lsC1 f1 f2 f3 => ?_)
            refine ih d M pc' ls' st' H3 r H' h p e0 R s m args below meth c Q Hp1 locs1 _ _ lsC1 C f1 f2 f3 ⟨by dsimp only; omega, by dsimp only; omega⟩ hF (fun Hp2 locs2 lsC2 pc2 ins2 a2 b2 c2 e2 v2 st2 q1 q2 q3 q4 q5 => ?_)
            have k2 := hret Hp2 locs2 lsC2 pc2 ins2 a2 b2 c2 e2 v2 st2 q1 q2 q3 q4 q5
            dsimp only
            rw [show cells + (aN H3 - aN H) + (aN H' - aN H3) = cells + (aN H' - aN H) by omega, show slots + (slotsOf H3 - slotsOf H) + (slotsOf H' - slotsOf H3) = slots + (slotsOf H' - slotsOf H) by omega]
            exact k2
end SOUND
