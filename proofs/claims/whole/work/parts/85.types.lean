-- 85: what a method gives back: an int, a long
def okI (ins : Instr) : Bool := match ins with | .lreturn => false | .areturn => false | .return_ => false | _ => true
def okJ (ins : Instr) : Bool := match ins with | .ireturn => false | .areturn => false | .return_ => false | _ => true
def rtI (M : Nat) : Bool := (CT.getD M []).all (fun r => okI r.2.1)
def rtJ (M : Nat) : Bool := (CT.getD M []).all (fun r => okJ r.2.1)
def reI (rt : Option FieldType) (st : List Value) : Option (Option Value) := match st, rt with | [.int x], some ty => if okv ty x then some (some (.int x)) else none | _, _ => none
def reJ (st : List Value) : Option (Option Value) := match st with | [.long x] => some (some (.long x)) | _ => none
theorem codeAt_mem {M pc : Nat} {x : AI} (h : codeAt M pc = some x) : ∃ y ∈ CT.getD M [], y.2 = x := by
  unfold codeAt at h
  cases hf : (CT.getD M []).find? (fun r => r.1 == pc) with
  | none => rw [hf] at h; cases h
  | some y =>
    rw [hf] at h
    exact ⟨y, List.mem_of_find?_eq_some hf, Option.some.inj h⟩
theorem ret_i {rt : Option FieldType} {st : List Value} {r : Option Value} (h : retA .ireturn rt st = some r) : ∃ x, r = some (.int x) := by
  have h : reI rt st = some r := h
  unfold reI at h
  split at h
  · split at h
    · exact ⟨_, (Option.some.inj h).symm⟩
    · cases h
  · cases h
theorem ret_j {rt : Option FieldType} {st : List Value} {r : Option Value} (h : retA .lreturn rt st = some r) : ∃ x, r = some (.long x) := by
  have h : reJ st = some r := h
  unfold reJ at h
  split at h
  · exact ⟨_, (Option.some.inj h).symm⟩
  · cases h
theorem ret_int {ins : Instr} {rt : Option FieldType} {st : List Value} {r : Option Value} (h : retA ins rt st = some r) (h2 : okI ins = true) : ∃ x, r = some (.int x) := by
  cases ins <;> first
    | (have h : none = some r := h; cases h; done)
    | (cases h2; done)
    | exact ret_i h
theorem ret_long {ins : Instr} {rt : Option FieldType} {st : List Value} {r : Option Value} (h : retA ins rt st = some r) (h2 : okJ ins = true) : ∃ x, r = some (.long x) := by
  cases ins <;> first
    | (have h : none = some r := h; cases h; done)
    | (cases h2; done)
    | exact ret_j h
theorem run_ret (S : SC) (P : Option Value → Prop) {M : Nat} (hP : ∀ x ∈ CT.getD M [], ∀ st r, retA x.2.1 (mRet M) st = some r → P r) : ∀ (n d pc : Nat) (ls st : List Value) (H : AH) (r : Option Value) (H' : AH), run S n d M pc ls st H = some (r, H') → P r
  | 0, _, _, _, _, _, _, _, h => by simp [run] at h
  | n + 1, d, pc, ls, st, H, r, H', h => by
    have ih := run_ret S P hP n
    rw [run] at h
    cases hc : codeAt M pc with
    | none => rw [hc] at h; cases h
    | some ai =>
      obtain ⟨y, hy, ey⟩ := codeAt_mem hc
      obtain ⟨ins, a, b, c, e, v⟩ := ai
      rw [hc] at h
      dsimp only at h
      by_cases h1 : kindA ins a = 1
      · rw [if_pos h1] at h
        cases hr : retA ins (mRet M) st with
        | none => rw [hr] at h; cases h
        | some q =>
          rw [hr] at h
          have e1 : q = r := congrArg Prod.fst (Option.some.inj h)
          have := hP y hy st q (by rw [ey]; exact hr)
          rw [e1] at this
          exact this
      · rw [if_neg h1] at h
        by_cases h2 : kindA ins a = 2
        · rw [if_pos h2] at h
          cases d with
          | zero => cases h
          | succ d =>
            dsimp only at h
            split at h
            · split at h
              · cases h
              · exact ih _ _ _ _ _ _ _ h
            · cases h
        · rw [if_neg h2] at h
          cases h5 : stepA S ins a b c e v pc ls st H with
          | none => rw [h5] at h; cases h
          | some y =>
            obtain ⟨pc', ls', st', H2⟩ := y
            rw [h5] at h
            exact ih _ _ _ _ _ _ _ h
section CALLS
variable {S : SC} {mc mm : Nat} {lc lm : List Value}
theorem call_get (h : Call S mc mm lc lm) (P : Value → Prop) (hP : ∀ x ∈ CT.getD mc [], ∀ st r, retA x.2.1 (mRet mc) st = some r → ∃ v, r = some v ∧ P v) (H : AH) (A : AS) (X : XS) (d : Nat) (W : Wd H A X) : ∃ r H1 H2 A' X', P r ∧ (∀ Q, Wp S (d + 40) mc 0 lc [] H Q = Q (some r) H1) ∧ (∀ Q, Wp S (d + 40) mm 0 lm [] H1 Q = Q (some r) H2) ∧ kd H1 67 = 8 ∧ Wd H2 A' X' := by
  obtain ⟨r, H1, H2, A', X', h1, h2, h3, h4⟩ := h H A X d W
  refine ⟨r, H1, H2, A', X', ?_, h1, h2, h3, h4⟩
  obtain ⟨n, r', H', e1, e2⟩ : Wp S (d + 40) mc 0 lc [] H (fun q _ => q = some r) := by rw [h1]
  have := run_ret S (fun r => ∃ v, r = some v ∧ P v) hP _ _ _ _ _ _ _ _ e1
  obtain ⟨v, v1, v2⟩ := this
  rw [v1] at e2
  rw [← Option.some.inj e2]
  exact v2
theorem call_int (h : Call S mc mm lc lm) (t : rtI mc = true) (H : AH) (A : AS) (X : XS) (d : Nat) (W : Wd H A X) : ∃ x H1 H2 A' X', (∀ Q, Wp S (d + 40) mc 0 lc [] H Q = Q (some (.int x)) H1) ∧ (∀ Q, Wp S (d + 40) mm 0 lm [] H1 Q = Q (some (.int x)) H2) ∧ kd H1 67 = 8 ∧ Wd H2 A' X' := by
  obtain ⟨r, H1, H2, A', X', ⟨x, rfl⟩, h1, h2, h3, h4⟩ := call_get h (fun v => ∃ x, v = .int x) (fun x hx st r hr => by
    obtain ⟨y, hy⟩ := ret_int hr (List.all_eq_true.mp t x hx)
    exact ⟨_, hy, y, rfl⟩) H A X d W
  exact ⟨x, H1, H2, A', X', h1, h2, h3, h4⟩
theorem call_long (h : Call S mc mm lc lm) (t : rtJ mc = true) (H : AH) (A : AS) (X : XS) (d : Nat) (W : Wd H A X) : ∃ x H1 H2 A' X', (∀ Q, Wp S (d + 40) mc 0 lc [] H Q = Q (some (.long x)) H1) ∧ (∀ Q, Wp S (d + 40) mm 0 lm [] H1 Q = Q (some (.long x)) H2) ∧ kd H1 67 = 8 ∧ Wd H2 A' X' := by
  obtain ⟨r, H1, H2, A', X', ⟨x, rfl⟩, h1, h2, h3, h4⟩ := call_get h (fun v => ∃ x, v = .long x) (fun x hx st r hr => by
    obtain ⟨y, hy⟩ := ret_long hr (List.all_eq_true.mp t x hx)
    exact ⟨_, hy, y, rfl⟩) H A X d W
  exact ⟨x, H1, H2, A', X', h1, h2, h3, h4⟩
end CALLS
