-- 92: the start of both worlds; the law runs
def A0 : AS := (0, 0, 0, 0, 0, fun _ => 0, fun _ => 0, fun _ => 0, fun _ => 0, fun _ => 0, 0, fun _ => 0, fun _ => 0, 0, fun _ => 0, fun _ => 0, 0, fun _ => 0, fun _ => 0, [])
def X0 : XS := (0, A0, 0, 0, fun _ => 0, 0, fun _ => 0, fun _ => -1, fun _ => 0, fun _ _ => 0)
theorem st_1 : StL T318 1 := by unfold StL; decide +kernel
theorem st_16 : StL T318 16 := by unfold StL; decide +kernel
theorem st_31 : StL T318 31 := by unfold StL; decide +kernel
theorem st_m : MoL T318 := by unfold MoL; decide +kernel
theorem st_c : CoL T318 := ⟨by decide +kernel, by decide +kernel, by decide +kernel, by decide +kernel, by decide +kernel, by decide +kernel, by decide +kernel, by decide +kernel, st_1, st_16, st_31, by decide +kernel, by decide +kernel, by decide +kernel, by decide +kernel, by decide +kernel, by decide +kernel, by decide +kernel, by decide +kernel, by decide +kernel, by decide +kernel, by decide +kernel, by decide +kernel, by decide +kernel, by decide +kernel, by decide +kernel, by decide +kernel, by decide +kernel, by decide +kernel, by decide +kernel, by decide +kernel, by decide +kernel⟩
theorem st_A : StA T318 1 A0 := ⟨st_1, by decide +kernel, by decide +kernel, by decide +kernel, by decide +kernel, by decide +kernel, by decide +kernel, by decide +kernel, by decide +kernel, by decide +kernel, by decide +kernel, ⟨(fun q hq => by cases hq), Or.inl ⟨by decide +kernel, rfl⟩⟩, ⟨by decide +kernel, fun i hi => absurd hi (Nat.not_lt_zero i)⟩, ⟨by decide +kernel, fun i hi => absurd hi (Nat.not_lt_zero i)⟩, ⟨by decide +kernel, fun i hi => absurd hi (Nat.not_lt_zero i)⟩⟩
theorem st_M : MoA T318 A0 := ⟨st_m, by decide +kernel, by decide +kernel, by decide +kernel, by decide +kernel, by decide +kernel, by decide +kernel, by decide +kernel, by decide +kernel, by decide +kernel, by decide +kernel, ⟨0, (fun q hq => by cases hq), Or.inl ⟨by decide +kernel, rfl, rfl⟩⟩, by decide +kernel, fun i hi => absurd hi (Nat.not_lt_zero i), by decide +kernel, fun i hi => absurd hi (Nat.not_lt_zero i), by decide +kernel, fun i hi => absurd hi (Nat.not_lt_zero i)⟩
theorem st_r : CoR T318 X0 := ⟨by decide +kernel, (fun z => absurd z (by decide)), by decide +kernel, by decide +kernel, fun i hi => absurd hi (Nat.not_lt_zero i), by decide +kernel, fun i hi => absurd hi (Nat.not_lt_zero i), by decide +kernel, by decide +kernel, fun _ _ i hi => absurd hi (Nat.not_lt_zero i), by decide +kernel⟩
theorem st_s : RfR T318 A0.L X0 := ⟨by decide +kernel, (fun z => absurd z (by decide)), by decide +kernel, ⟨fun _ => [], fun f hf => absurd hf (Nat.not_lt_zero f), Or.inl ⟨by decide +kernel, rfl⟩, (fun z => absurd z (by decide))⟩, by decide +kernel, fun i hi => absurd hi (Nat.not_lt_zero i), ⟨0, 0, by decide +kernel, by decide +kernel⟩, by decide +kernel, fun i hi => absurd hi (Nat.not_lt_zero i), by decide +kernel, by decide +kernel, fun _ _ i hi => absurd hi (Nat.not_lt_zero i), by decide +kernel⟩
theorem st_w : Wf A0 := ⟨by decide, by decide, by decide, by decide, by decide, fun i hi => absurd hi (Nat.not_lt_zero i), fun i hi => absurd hi (Nat.not_lt_zero i), fun i _ => ⟨0, by decide, rfl⟩, fun _ _ _ => rfl, fun i hi => absurd hi (Nat.not_lt_zero i), fun i hi => absurd hi (Nat.not_lt_zero i), fun _ _ _ => rfl, by decide, fun i hi => absurd hi (Nat.not_lt_zero i), by decide, fun i hi => absurd hi (Nat.not_lt_zero i), by decide, fun i hi => absurd hi (Nat.not_lt_zero i), (fun q hq => by cases hq)⟩
theorem st_x : WfX X0 := ⟨by decide, (fun z => absurd z (by decide)), by decide, by decide, fun i hi => absurd hi (Nat.not_lt_zero i), by decide, fun _ _ => Or.inl ⟨rfl, rfl⟩⟩
theorem st_W : Wd T318 A0 X0 := ⟨st_A, st_c, st_r, st_M, st_s, st_w, by decide, st_x⟩
section START
variable {S : SC}
theorem law_start {d : Nat} {Q : Option Value → AH → Prop} : Wp S (d + 41) 229 0 [.retAddr 0, hole, hole, hole] [] T0 Q = Wp S (d + 41) 229 18 [.retAddr 0, .ref 0, .ref 67, .int (nI 0)] [] T318 Q := by
  have u1 := fun Q => in_21 (S := S) (d := d + 38) (Q := Q)
  have u2 := fun Q => in_22 (S := S) (d := d + 40) (Q := Q)
  have z : nI 0 = 0 := rfl
  simp only [sL_law_0, sL_law_3, sL_law_4 (st := []), sL_law_7, sL_law_8, sL_law_11, sL_law_12 (st := []), sL_law_15, sL_law_16, sL_law_17, inb, nz_3, nz_4, nz_6, nz_8, nz_10, nz_100, nz_300, pushr_s, pushr_n, rv_s, rv_n, kd_sI, kd_sR, kd_sJ, sz_sI, sz_sR, sz_sJ, aR_sI, aJ_sI, aI_sR, aI_sJ, not_false_eq_true, true_and, and_true, true_or, or_true, or_false, false_or, eq_self, ite_true, ite_false, if_true, if_false, nT0, eT1, kT1_0, nT185, eT186, kT186_67, u1, u2, tN_0, tN_67, z]
theorem law_runs (S : SC) (hL : S.1 ≤ 3072) : ∃ (n : Nat) (H' : AH), run S n 300 229 0 (entryL [.retAddr 0] 4) [] AH0 = some (some (.int 1), H') := by
  have h : Wp S (259 + 41) 229 0 [.retAddr 0, hole, hole, hole] [] T0 Fin := by
    rw [law_start]
    exact lp_law hL (S.1 + 1) 0 (Nat.zero_le _) (by omega) T318 A0 X0 st_W
  obtain ⟨n, r, H', e1, e2⟩ := h
  have e2 : r = some (.int 1) := e2
  subst e2
  exact ⟨n, H', e1⟩
end START
