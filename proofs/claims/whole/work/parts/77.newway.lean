-- 77: a new way of the component
section WAY
variable {S : SC}
theorem w_newWay {d n N : Nat} {H : AH} (l : CoL H) (hc : aI H 46 6 = nI n) (hn : n ≤ 100) (hN : aN H = N) (h1 : 110 ≤ N) (h2 : N < 900) : ∃ H2, Ne H H2 ∧ aN H2 = N + 2 ∧ kd H2 N = 20 ∧ sz H2 N = n ∧ (∀ j, j < n → aI H2 N j = aI H 48 j) ∧ kd H2 (N + 1) = 5 ∧ aR H2 (N + 1) 1 = some N ∧ aI H2 (N + 1) 0 = aI H 46 4 ∧ ∀ Q, Wp S (d + 1) 55 0 [.ref 46, hole] [] H Q = Q (some (.ref (N + 1))) H2 := by
  have nc : (nI n).toNatClampNeg = n := nI_clamp (by omega)
  have n0 : ¬ nI n < 0 := nI_pos (by omega)
  have a1 : Ne H (gr H 20 n) := Ne.gr (by omega) 20 n
  obtain ⟨G1, hG1⟩ : ∃ G, gr H 20 n = G := ⟨_, rfl⟩
  have b1 : aN G1 = N + 1 := by rw [← hG1, aN_gr, hN]
  have c1 : kd G1 N = 20 := by rw [← hG1, kd_gr, hN, if_pos rfl]
  have z1 : sz G1 N = n := by rw [← hG1, sz_gr, hN, if_pos rfl]
  rw [hG1] at a1
  have l1 := l.ne a1
  have i1 : aI G1 46 6 = nI n := (a1.I _ _ (by omega)).trans hc
  have a2 : Ne H (cI G1 48 0 N 0 n) := a1.wC (by omega)
  have e2 : ∀ j, j < n → aI (cI G1 48 0 N 0 n) N j = aI H 48 j := fun j hj => by
    rw [gcI, if_pos rfl, pk_cpy_in (by omega) (by omega), a1.I 48 _ (by omega), Nat.zero_add, Nat.sub_zero]
  have fc : Fr (fun o _ => o = N) G1 (cI G1 48 0 N 0 n) := Fr.wC _ _ _ _ (fun _ => rfl)
  obtain ⟨G2, hG2⟩ : ∃ G, cI G1 48 0 N 0 n = G := ⟨_, rfl⟩
  rw [hG2] at a2 e2 fc
  have b2 : aN G2 = N + 1 := fc.anq.trans b1
  have c2 : kd G2 N = 20 := (fc.kdq N).trans c1
  have z2 : sz G2 N = n := (fc.szq N).trans z1
  have a3 : Ne G2 (gr G2 5 2) := Ne.gr (by omega) 5 2
  obtain ⟨G3, hG3⟩ : ∃ G, gr G2 5 2 = G := ⟨_, rfl⟩
  have b3 : aN G3 = N + 2 := by rw [← hG3, aN_gr, b2]
  have c3 : kd G3 (N + 1) = 5 := by rw [← hG3, kd_gr, b2, if_pos rfl]
  rw [hG3] at a3
  have a3' : Ne H G3 := a2.trans a3 (by omega)
  have l3 := l.ne a3'
  have i3 : aI G3 46 4 = aI H 46 4 := a3'.I _ _ (by omega)
  have a4 : Ne H (sI G3 (N + 1) 0 (aI H 46 4)) := a3'.wI _ (by omega)
  have a5 : Ne H (sR (sI G3 (N + 1) 0 (aI H 46 4)) (N + 1) 1 (some N)) := a4.wR _ (by omega)
  have cp : cpOk G1 48 0 N 0 (nI n) := cpOk_0 (n := n) (by rw [l1.z48]; omega) (by rw [z1]; exact Nat.le_refl _) (by omega)
  have n9 : N < 1000 := by omega
  have n8 : N + 1 < 1000 := by omega
  have nl : n ≤ 4096 := by omega
  have z0 : (0 : Int32).toNatClampNeg = 0 := by decide +kernel
  refine ⟨sR (sI G3 (N + 1) 0 (aI H 46 4)) (N + 1) 1 (some N), a5, b3, (a3.kq N (by omega)).trans c2, (a3.zq N (by omega)).trans z2, fun j hj => ?_, c3, (gR _ _ _ _ _ _).trans (if_pos ⟨rfl, rfl⟩), gIs, fun Q => ?_⟩
  · exact (gIn (H := G3) (by omega)).trans ((a3.I _ _ (by omega)).trans (e2 j hj))
  · simp only [sX6_newWay_0, sX6_newWay_1, sX6_newWay_4, sX6_newWay_6, sX6_newWay_7, sX6_newWay_8, sX6_newWay_11, sX6_newWay_12, sX6_newWay_13, sX6_newWay_14, sX6_newWay_15, sX6_newWay_18 (st := []), sX6_newWay_21, sX6_newWay_24, sX6_newWay_25, sX6_newWay_26, sX6_newWay_29, sX6_newWay_30 (st := []), sX6_newWay_33 (st := []), inb, nz_3, nz_4, nz_6, nz_8, nz_10, nz_100, nz_300, pushr_s, pushr_n, rv_s, rv_n, kd_sI, kd_sR, kd_sJ, sz_sI, sz_sR, sz_sJ, aR_sI, aJ_sI, aI_sR, aI_sJ, not_false_eq_true, true_and, and_true, true_or, or_true, or_false, false_or, eq_self, ite_true, ite_false, if_true, if_false, l.k46, hc, n9, n0, nc, nl, hN, hG1, l1.k46, l1.k48, l1.r46b, i1, c1, cp, z0, hG2, n8, b2, hG3, l3.k46, i3, c3, sX5_init_0, sX5_init_1 (st := []), sX5_init_4, sX5_init_5, sX5_init_6, sX5_init_9, sX5_init_10, sX5_init_11r, sX5_init_11n, sX5_init_14 (st := [])]
end WAY
