-- 04: the run, and its weakest precondition Wp: a run from here ends, and its end is Q's
def run (S : SC) : Nat → Nat → Nat → Nat → List Value → List Value → AH → Option (Option Value × AH)
  | 0, _, _, _, _, _, _ => none
  | n + 1, d, M, pc, ls, st, H =>
    match codeAt M pc with
    | none => none
    | some (ins, a, b, c, e, v) =>
      if kindA ins a = 1 then (retA ins (mRet M) st).map (fun r => (r, H))
      else if kindA ins a = 2 then
        match d with
        | 0 => none
        | d + 1 =>
          if argN ins e ≤ st.length ∧ (st.drop (argN ins e)).length ≤ 4 ∧ recvB ins H (mName a).cls (st.take (argN ins e)).reverse = true ∧ (entryL (st.take (argN ins e)).reverse (mLoc a)).length = mLoc a then
            match run S n d a 0 (entryL (st.take (argN ins e)).reverse (mLoc a)) [] H with
            | none => none
            | some (r, H') => run S n (d + 1) M (pc + 3) ls (pushr r (st.drop (argN ins e))) H'
          else none
      else match stepA S ins a b c e v pc ls st H with
        | none => none
        | some (pc', ls', st', H') => run S n d M pc' ls' st' H'
theorem run_mono (S : SC) : ∀ (n d M pc : Nat) (ls st : List Value) (H : AH) (x : Option Value × AH), run S n d M pc ls st H = some x → run S (n + 1) d M pc ls st H = some x
  | 0, d, M, pc, ls, st, H, x, h => by simp [run] at h
  | n + 1, d, M, pc, ls, st, H, x, h => by
    rw [run] at h ⊢
    cases hc : codeAt M pc with
    | none => rw [hc] at h; exact h
    | some ai =>
      obtain ⟨ins, a, b, c, e, v⟩ := ai
      rw [hc] at h
      dsimp only at h ⊢
      by_cases h1 : kindA ins a = 1
      · rw [if_pos h1] at h ⊢; exact h
      · rw [if_neg h1] at h ⊢
        by_cases h2 : kindA ins a = 2
        · rw [if_pos h2] at h ⊢
          cases d with
          | zero => exact h
          | succ d =>
            dsimp only at h ⊢
            by_cases h3 : argN ins e ≤ st.length ∧ (st.drop (argN ins e)).length ≤ 4 ∧ recvB ins H (mName a).cls (st.take (argN ins e)).reverse = true ∧ (entryL (st.take (argN ins e)).reverse (mLoc a)).length = mLoc a
            · rw [if_pos h3] at h ⊢
              cases h4 : run S n d a 0 (entryL (st.take (argN ins e)).reverse (mLoc a)) [] H with
              | none => rw [h4] at h; cases h
              | some y =>
                obtain ⟨r, H'⟩ := y
                rw [h4] at h
                rw [run_mono S n _ _ _ _ _ _ _ h4]
                exact run_mono S n _ _ _ _ _ _ _ h
            · rw [if_neg h3] at h; cases h
        · rw [if_neg h2] at h ⊢
          cases h5 : stepA S ins a b c e v pc ls st H with
          | none => rw [h5] at h; cases h
          | some y =>
            obtain ⟨pc', ls', st', H'⟩ := y
            rw [h5] at h
            exact run_mono S n _ _ _ _ _ _ _ h
theorem run_le (S : SC) {n k d M pc : Nat} {ls st : List Value} {H : AH} {x : Option Value × AH} (h : run S n d M pc ls st H = some x) (hk : n ≤ k) : run S k d M pc ls st H = some x := by
  obtain ⟨j, rfl⟩ := Nat.le.dest hk
  clear hk
  induction j with
  | zero => exact h
  | succ j ih => exact run_mono S _ _ _ _ _ _ _ _ ih
def Wp (S : SC) (d M pc : Nat) (ls st : List Value) (H : AH) (Q : Option Value → AH → Prop) : Prop := ∃ (n : Nat) (r : Option Value) (H' : AH), run S n d M pc ls st H = some (r, H') ∧ Q r H'
section WP
variable {S : SC} {d M pc : Nat} {ls st : List Value} {H : AH} {Q : Option Value → AH → Prop} {ins : Instr} {a b c e : Nat} {v : Int}
theorem Wp_step {pc' : Nat} {ls' st' : List Value} {H' : AH} (hc : codeAt M pc = some (ins, a, b, c, e, v)) (hk : kindA ins a = 0) (hs : stepA S ins a b c e v pc ls st H = some (pc', ls', st', H')) : Wp S d M pc ls st H Q = Wp S d M pc' ls' st' H' Q := by
  have key : ∀ n, run S (n + 1) d M pc ls st H = run S n d M pc' ls' st' H' := fun n => by
    rw [run, hc]
    dsimp only
    rw [if_neg (by rw [hk]; decide), if_neg (by rw [hk]; decide), hs]
  refine propext ⟨?_, ?_⟩
  · rintro ⟨n, r, H2, h, q⟩
    cases n with
    | zero => simp [run] at h
    | succ n => exact ⟨n, r, H2, by rw [← key]; exact h, q⟩
  · rintro ⟨n, r, H2, h, q⟩
    exact ⟨n + 1, r, H2, by rw [key]; exact h, q⟩
theorem Wp_if {p : Prop} [Decidable p] {t f : Nat} (hc : codeAt M pc = some (ins, a, b, c, e, v)) (hk : kindA ins a = 0) {ls' st' : List Value} {H' : AH} (hs : stepA S ins a b c e v pc ls st H = some (if p then t else f, ls', st', H')) : Wp S d M pc ls st H Q = if p then Wp S d M t ls' st' H' Q else Wp S d M f ls' st' H' Q := by
  rw [Wp_step hc hk hs]
  by_cases h : p
  · rw [if_pos h, if_pos h]
  · rw [if_neg h, if_neg h]
theorem Wp_chk {p : Prop} [Decidable p] {pc' : Nat} {ls' st' : List Value} {H' : AH} (hc : codeAt M pc = some (ins, a, b, c, e, v)) (hk : kindA ins a = 0) (hs : stepA S ins a b c e v pc ls st H = ite1 p (pc', ls', st', H')) : Wp S d M pc ls st H Q = (p ∧ Wp S d M pc' ls' st' H' Q) := by
  by_cases h : p
  · rw [Wp_step hc hk (hs.trans (if_pos h))]
    exact propext ⟨fun q => ⟨h, q⟩, fun q => q.2⟩
  · refine propext ⟨?_, fun q => absurd q.1 h⟩
    rintro ⟨n, r, H2, h2, q⟩
    cases n with
    | zero => simp [run] at h2
    | succ n =>
      rw [run, hc] at h2
      dsimp only at h2
      rw [if_neg (by rw [hk]; decide), if_neg (by rw [hk]; decide), hs, ite1, if_neg h] at h2
      cases h2
theorem Wp_ret {r : Option Value} (hc : codeAt M pc = some (ins, a, b, c, e, v)) (hk : kindA ins a = 1) (hr : retA ins (mRet M) st = some r) : Wp S d M pc ls st H Q = Q r H := by
  have key : ∀ n, run S (n + 1) d M pc ls st H = some (r, H) := fun n => by
    rw [run, hc]
    dsimp only
    rw [if_pos hk, hr]
    rfl
  refine propext ⟨?_, fun q => ⟨1, r, H, key 0, q⟩⟩
  rintro ⟨n, r2, H2, h, q⟩
  cases n with
  | zero => simp [run] at h
  | succ n => rw [key] at h; cases h; exact q
theorem Wp_retif {p : Prop} [Decidable p] {r : Option Value} (hc : codeAt M pc = some (ins, a, b, c, e, v)) (hk : kindA ins a = 1) (hr : retA ins (mRet M) st = if p then some r else none) : Wp S d M pc ls st H Q = (p ∧ Q r H) := by
  by_cases h : p
  · rw [Wp_ret hc hk (hr.trans (if_pos h))]
    exact propext ⟨fun q => ⟨h, q⟩, fun q => q.2⟩
  · refine propext ⟨?_, fun q => absurd q.1 h⟩
    rintro ⟨n, r2, H2, h2, q⟩
    cases n with
    | zero => simp [run] at h2
    | succ n =>
      rw [run, hc] at h2
      dsimp only at h2
      rw [if_pos hk, hr, if_neg h] at h2
      cases h2
theorem Wp_call {as rest ls' : List Value} (hc : codeAt M pc = some (ins, a, b, c, e, v)) (hk : kindA ins a = 2) (h1 : argN ins e ≤ st.length) (h2 : (st.take (argN ins e)).reverse = as) (h3 : st.drop (argN ins e) = rest) (h4 : rest.length ≤ 4) (h5 : recvB ins H (mName a).cls as = true) (h6 : entryL as (mLoc a) = ls') (h7 : ls'.length = mLoc a) : Wp S (d + 1) M pc ls st H Q = Wp S d a 0 ls' [] H (fun r H' => Wp S (d + 1) M (pc + 3) ls (pushr r rest) H' Q) := by
  subst h2 h3 h6
  have key : ∀ n, run S (n + 1) (d + 1) M pc ls st H = match run S n d a 0 (entryL (st.take (argN ins e)).reverse (mLoc a)) [] H with | none => none | some (r, H') => run S n (d + 1) M (pc + 3) ls (pushr r (st.drop (argN ins e))) H' := fun n => by
    rw [run, hc]
    dsimp only
    rw [if_neg (by rw [hk]; decide), if_pos hk, if_pos ⟨h1, h4, h5, h7⟩]
  refine propext ⟨?_, ?_⟩
  · rintro ⟨n, r, H2, h, q⟩
    cases n with
    | zero => simp [run] at h
    | succ n =>
      rw [key] at h
      cases h7 : run S n d a 0 (entryL (st.take (argN ins e)).reverse (mLoc a)) [] H with
      | none => rw [h7] at h; cases h
      | some y =>
        obtain ⟨r3, H3⟩ := y
        rw [h7] at h
        exact ⟨n, r3, H3, h7, n, r, H2, h, q⟩
  · rintro ⟨n, r, H2, h, n', r3, H3, h', q⟩
    refine ⟨max n n' + 1, r3, H3, ?_, q⟩
    rw [key, run_le S h (Nat.le_max_left _ _)]
    exact run_le S h' (Nat.le_max_right _ _)
end WP
