-- 99y: a stand-in, until the run of the law is shown
theorem law_runs (S : SC) (hL : S.1 ≤ 3072) : ∃ (n : Nat) (H' : AH), run S n 300 229 0 (entryL [.retAddr 0] 4) [] AH0 = some (some (.int 1), H') := sorry
