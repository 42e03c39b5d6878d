-- 61: a stage is copied to another
def jSt (k o _i : Nat) : Prop := k ≤ o ∧ o < k + 15
section COPY
variable {S : SC} {H : AH} {A : AS}
theorem cpOk_0 {s o n : Nat} (h1 : n ≤ sz H s) (h2 : n ≤ sz H o) (hn : n < 2 ^ 31) : cpOk H s 0 o 0 (nI n) := by
  refine ⟨⟨by decide, by decide, nI_pos hn⟩, ?_, ?_⟩
  · rw [nI_clamp hn]; show 0 + n ≤ _; omega
  · rw [nI_clamp hn]; show 0 + n ≤ _; omega
theorem w_pcopy {d a b n c : Nat} {Q : Option Value → AH → Prop} (ka : kd H a = 2) (kb : kd H b = 2) (ra : aR H a 1 = some (a + 1)) (ra2 : aR H a 2 = some (a + 2)) (rb : aR H b 1 = some (b + 1)) (rb2 : aR H b 2 = some (b + 2)) (k1 : kd H (a + 1) = 20) (k2 : kd H (a + 2) = 20) (k3 : kd H (b + 1) = 20) (k4 : kd H (b + 2) = 20) (z1 : sz H (a + 1) = c) (z2 : sz H (a + 2) = c) (z3 : sz H (b + 1) = c) (z4 : sz H (b + 2) = c) (hn : aI H a 0 = nI n) (hc : n ≤ c) (hc2 : c < 2 ^ 31) (hab : a + 3 ≤ b ∨ b + 3 ≤ a) :
    Wp S d 16 0 [.ref b, .ref a] [] H Q = Q none (cI (cI (sI H b 0 (nI n)) (a + 1) 0 (b + 1) 0 n) (a + 2) 0 (b + 2) 0 n) := by
  have kn : (nI n).toNatClampNeg = n := nI_clamp (by omega)
  have e1 : aI (sI H b 0 (nI n)) a 0 = nI n := (gIn (by omega)).trans hn
  have e2 : ∀ G : AH, aI (cI (sI H b 0 (nI n)) (a + 1) 0 (b + 1) 0 n) a 0 = nI n := fun _ => (gcI _ _ _ _ _ _ _ _).trans ((if_neg (by omega)).trans e1)
  have c1 : cpOk (sI H b 0 (nI n)) (a + 1) 0 (b + 1) 0 (nI n) := cpOk_0 (H := sI H b 0 (nI n)) (by show n ≤ sz H (a + 1); omega) (by show n ≤ sz H (b + 1); omega) (by omega)
  have c2 : cpOk (cI (sI H b 0 (nI n)) (a + 1) 0 (b + 1) 0 n) (a + 2) 0 (b + 2) 0 (nI n) := cpOk_0 (H := cI (sI H b 0 (nI n)) (a + 1) 0 (b + 1) 0 n) (by show n ≤ sz H (a + 2); omega) (by show n ≤ sz H (b + 2); omega) (by omega)
  have z0 : (0 : Int32).toNatClampNeg = 0 := nI_clamp0
  have kdc : ∀ (G : AH) (s p e q m o : Nat), kd (cI G s p e q m) o = kd G o := fun _ _ _ _ _ _ _ => rfl
  have aRc : ∀ (G : AH) (s p e q m : Nat), aR (cI G s p e q m) = aR G := fun _ _ _ _ _ _ => rfl
  simp only [sX2_copy_0, sX2_copy_1, sX2_copy_2, sX2_copy_5, sX2_copy_8, sX2_copy_9, sX2_copy_12, sX2_copy_13, sX2_copy_14, sX2_copy_17, sX2_copy_18, sX2_copy_19, sX2_copy_22 (st := []), sX2_copy_25, sX2_copy_26, sX2_copy_29, sX2_copy_30, sX2_copy_31, sX2_copy_34, sX2_copy_35, sX2_copy_36, sX2_copy_39 (st := []), sX2_copy_42 (st := []), inb, nz_3, nz_4, nz_6, nz_8, nz_10, nz_100, nz_300, pushr_s, pushr_n, rv_s, rv_n, kd_sI, kd_sR, kd_sJ, sz_sI, sz_sR, sz_sJ, aR_sI, aJ_sI, aI_sR, aI_sJ, not_false_eq_true, true_and, and_true, true_or, or_true, or_false, false_or, eq_self, ite_true, ite_false, if_true, if_false, kdc, aRc, ka, kb, ra, ra2, rb, rb2, k1, k2, k3, k4, hn, e1, e2 H, c1, c2, z0, kn]
theorem w_copy {a b d : Nat} (h : StA H a A) (w : Wf A) (hb : StL H b) (hab : a + 15 ≤ b ∨ b + 15 ≤ a) (hb67 : b < 60) (ha67 : a < 60) : ∃ H', StA H' b A ∧ Fr (jSt b) H H' ∧ ∀ Q, Wp S (d + 1) 18 0 [.ref b, .ref a] [] H Q = Q none H' := by
  have hN := w.hN
  have hP := w.hP
  have hs := w.hs
  have hp := w.hp
  have hbb := w.hb
  have s0 : StA H a A := h
  have l0 : StL H b := hb
  have t0 : Fr (jSt b) H H := Fr.refl _ _
  let H0 := H
  generalize hH1 : sI H b 0 (nI A.D) = H1
  have f1 : Fr (fun o i => (o = b ∧ i = 0)) H H1 := by rw [← hH1]; exact Fr.wI _ ⟨rfl, rfl⟩
  have t1 : Fr (jSt b) H H1 := t0.trans (f1.mono (fun o i z => by unfold jSt; omega))
  have s1 : StA H1 a A := h.fr t1 (fun o i z => ⟨fun _ _ => by unfold jSt at z; omega, by unfold jSt at z; omega⟩)
  have l1 : StL H1 b := hb.fr t1
  generalize hH2 : sI H1 b 1 (nI A.N) = H2
  have f2 : Fr (fun o i => (o = b ∧ i = 1)) H1 H2 := by rw [← hH2]; exact Fr.wI _ ⟨rfl, rfl⟩
  have t2 : Fr (jSt b) H H2 := t1.trans (f2.mono (fun o i z => by unfold jSt; omega))
  have s2 : StA H2 a A := h.fr t2 (fun o i z => ⟨fun _ _ => by unfold jSt at z; omega, by unfold jSt at z; omega⟩)
  have l2 : StL H2 b := hb.fr t2
  generalize hH3 : cI H2 (a + 1) 0 (b + 1) 0 6 = H3
  have f3 : Fr (fun o i => o = b + 1) H2 H3 := by rw [← hH3]; exact Fr.wC _ _ _ _ (fun _ => rfl)
  have t3 : Fr (jSt b) H H3 := t2.trans (f3.mono (fun o i z => by unfold jSt; omega))
  have s3 : StA H3 a A := h.fr t3 (fun o i z => ⟨fun _ _ => by unfold jSt at z; omega, by unfold jSt at z; omega⟩)
  have l3 : StL H3 b := hb.fr t3
  generalize hH4 : cI H3 (a + 2) 0 (b + 2) 0 6 = H4
  have f4 : Fr (fun o i => o = b + 2) H3 H4 := by rw [← hH4]; exact Fr.wC _ _ _ _ (fun _ => rfl)
  have t4 : Fr (jSt b) H H4 := t3.trans (f4.mono (fun o i z => by unfold jSt; omega))
  have s4 : StA H4 a A := h.fr t4 (fun o i z => ⟨fun _ _ => by unfold jSt at z; omega, by unfold jSt at z; omega⟩)
  have l4 : StL H4 b := hb.fr t4
  generalize hH5 : sI H4 b 4 (nI A.O) = H5
  have f5 : Fr (fun o i => (o = b ∧ i = 4)) H4 H5 := by rw [← hH5]; exact Fr.wI _ ⟨rfl, rfl⟩
  have t5 : Fr (jSt b) H H5 := t4.trans (f5.mono (fun o i z => by unfold jSt; omega))
  have s5 : StA H5 a A := h.fr t5 (fun o i z => ⟨fun _ _ => by unfold jSt at z; omega, by unfold jSt at z; omega⟩)
  have l5 : StL H5 b := hb.fr t5
  generalize hH6 : cI H5 (a + 3) 0 (b + 3) 0 24 = H6
  have f6 : Fr (fun o i => o = b + 3) H5 H6 := by rw [← hH6]; exact Fr.wC _ _ _ _ (fun _ => rfl)
  have t6 : Fr (jSt b) H H6 := t5.trans (f6.mono (fun o i z => by unfold jSt; omega))
  have s6 : StA H6 a A := h.fr t6 (fun o i z => ⟨fun _ _ => by unfold jSt at z; omega, by unfold jSt at z; omega⟩)
  have l6 : StL H6 b := hb.fr t6
  generalize hH7 : sI H6 b 6 (nI A.P) = H7
  have f7 : Fr (fun o i => (o = b ∧ i = 6)) H6 H7 := by rw [← hH7]; exact Fr.wI _ ⟨rfl, rfl⟩
  have t7 : Fr (jSt b) H H7 := t6.trans (f7.mono (fun o i z => by unfold jSt; omega))
  have s7 : StA H7 a A := h.fr t7 (fun o i z => ⟨fun _ _ => by unfold jSt at z; omega, by unfold jSt at z; omega⟩)
  have l7 : StL H7 b := hb.fr t7
  generalize hH8 : cI H7 (a + 4) 0 (b + 4) 0 5 = H8
  have f8 : Fr (fun o i => o = b + 4) H7 H8 := by rw [← hH8]; exact Fr.wC _ _ _ _ (fun _ => rfl)
  have t8 : Fr (jSt b) H H8 := t7.trans (f8.mono (fun o i z => by unfold jSt; omega))
  have s8 : StA H8 a A := h.fr t8 (fun o i z => ⟨fun _ _ => by unfold jSt at z; omega, by unfold jSt at z; omega⟩)
  have l8 : StL H8 b := hb.fr t8
  generalize hH9 : cI H8 (a + 5) 0 (b + 5) 0 5 = H9
  have f9 : Fr (fun o i => o = b + 5) H8 H9 := by rw [← hH9]; exact Fr.wC _ _ _ _ (fun _ => rfl)
  have t9 : Fr (jSt b) H H9 := t8.trans (f9.mono (fun o i z => by unfold jSt; omega))
  have s9 : StA H9 a A := h.fr t9 (fun o i z => ⟨fun _ _ => by unfold jSt at z; omega, by unfold jSt at z; omega⟩)
  have l9 : StL H9 b := hb.fr t9
  generalize hH10 : sI H9 b 9 (nI A.B) = H10
  have f10 : Fr (fun o i => (o = b ∧ i = 9)) H9 H10 := by rw [← hH10]; exact Fr.wI _ ⟨rfl, rfl⟩
  have t10 : Fr (jSt b) H H10 := t9.trans (f10.mono (fun o i z => by unfold jSt; omega))
  have s10 : StA H10 a A := h.fr t10 (fun o i z => ⟨fun _ _ => by unfold jSt at z; omega, by unfold jSt at z; omega⟩)
  have l10 : StL H10 b := hb.fr t10
  generalize hH11 : sI H10 (b + 6) 0 (nI A.sn) = H11
  have f11 : Fr (fun o i => (o = b + 6 ∧ i = 0)) H10 H11 := by rw [← hH11]; exact Fr.wI _ ⟨rfl, rfl⟩
  have t11 : Fr (jSt b) H H11 := t10.trans (f11.mono (fun o i z => by unfold jSt; omega))
  have s11 : StA H11 a A := h.fr t11 (fun o i z => ⟨fun _ _ => by unfold jSt at z; omega, by unfold jSt at z; omega⟩)
  have l11 : StL H11 b := hb.fr t11
  generalize hH12 : cI H11 (a + 7) 0 (b + 7) 0 A.sn = H12
  have f12 : Fr (fun o i => o = b + 7) H11 H12 := by rw [← hH12]; exact Fr.wC _ _ _ _ (fun _ => rfl)
  have t12 : Fr (jSt b) H H12 := t11.trans (f12.mono (fun o i z => by unfold jSt; omega))
  have s12 : StA H12 a A := h.fr t12 (fun o i z => ⟨fun _ _ => by unfold jSt at z; omega, by unfold jSt at z; omega⟩)
  have l12 : StL H12 b := hb.fr t12
  generalize hH13 : cI H12 (a + 8) 0 (b + 8) 0 A.sn = H13
  have f13 : Fr (fun o i => o = b + 8) H12 H13 := by rw [← hH13]; exact Fr.wC _ _ _ _ (fun _ => rfl)
  have t13 : Fr (jSt b) H H13 := t12.trans (f13.mono (fun o i z => by unfold jSt; omega))
  have s13 : StA H13 a A := h.fr t13 (fun o i z => ⟨fun _ _ => by unfold jSt at z; omega, by unfold jSt at z; omega⟩)
  have l13 : StL H13 b := hb.fr t13
  generalize hH14 : sI H13 (b + 9) 0 (nI A.pn) = H14
  have f14 : Fr (fun o i => (o = b + 9 ∧ i = 0)) H13 H14 := by rw [← hH14]; exact Fr.wI _ ⟨rfl, rfl⟩
  have t14 : Fr (jSt b) H H14 := t13.trans (f14.mono (fun o i z => by unfold jSt; omega))
  have s14 : StA H14 a A := h.fr t14 (fun o i z => ⟨fun _ _ => by unfold jSt at z; omega, by unfold jSt at z; omega⟩)
  have l14 : StL H14 b := hb.fr t14
  generalize hH15 : cI H14 (a + 10) 0 (b + 10) 0 A.pn = H15
  have f15 : Fr (fun o i => o = b + 10) H14 H15 := by rw [← hH15]; exact Fr.wC _ _ _ _ (fun _ => rfl)
  have t15 : Fr (jSt b) H H15 := t14.trans (f15.mono (fun o i z => by unfold jSt; omega))
  have s15 : StA H15 a A := h.fr t15 (fun o i z => ⟨fun _ _ => by unfold jSt at z; omega, by unfold jSt at z; omega⟩)
  have l15 : StL H15 b := hb.fr t15
  generalize hH16 : cI H15 (a + 11) 0 (b + 11) 0 A.pn = H16
  have f16 : Fr (fun o i => o = b + 11) H15 H16 := by rw [← hH16]; exact Fr.wC _ _ _ _ (fun _ => rfl)
  have t16 : Fr (jSt b) H H16 := t15.trans (f16.mono (fun o i z => by unfold jSt; omega))
  have s16 : StA H16 a A := h.fr t16 (fun o i z => ⟨fun _ _ => by unfold jSt at z; omega, by unfold jSt at z; omega⟩)
  have l16 : StL H16 b := hb.fr t16
  generalize hH17 : sI H16 (b + 12) 0 (nI A.bn) = H17
  have f17 : Fr (fun o i => (o = b + 12 ∧ i = 0)) H16 H17 := by rw [← hH17]; exact Fr.wI _ ⟨rfl, rfl⟩
  have t17 : Fr (jSt b) H H17 := t16.trans (f17.mono (fun o i z => by unfold jSt; omega))
  have s17 : StA H17 a A := h.fr t17 (fun o i z => ⟨fun _ _ => by unfold jSt at z; omega, by unfold jSt at z; omega⟩)
  have l17 : StL H17 b := hb.fr t17
  generalize hH18 : cI H17 (a + 13) 0 (b + 13) 0 A.bn = H18
  have f18 : Fr (fun o i => o = b + 13) H17 H18 := by rw [← hH18]; exact Fr.wC _ _ _ _ (fun _ => rfl)
  have t18 : Fr (jSt b) H H18 := t17.trans (f18.mono (fun o i z => by unfold jSt; omega))
  have s18 : StA H18 a A := h.fr t18 (fun o i z => ⟨fun _ _ => by unfold jSt at z; omega, by unfold jSt at z; omega⟩)
  have l18 : StL H18 b := hb.fr t18
  generalize hH19 : cI H18 (a + 14) 0 (b + 14) 0 A.bn = H19
  have f19 : Fr (fun o i => o = b + 14) H18 H19 := by rw [← hH19]; exact Fr.wC _ _ _ _ (fun _ => rfl)
  have t19 : Fr (jSt b) H H19 := t18.trans (f19.mono (fun o i z => by unfold jSt; omega))
  have s19 : StA H19 a A := h.fr t19 (fun o i z => ⟨fun _ _ => by unfold jSt at z; omega, by unfold jSt at z; omega⟩)
  have l19 : StL H19 b := hb.fr t19
  generalize hH20 : sR H19 b 13 (aR H19 a 13) = H20
  have f20 : Fr (fun o i => (o = b ∧ i = 13)) H19 H20 := by rw [← hH20]; exact Fr.wR _ ⟨rfl, rfl⟩ (by omega)
  have t20 : Fr (jSt b) H H20 := t19.trans (f20.mono (fun o i z => by unfold jSt; omega))
  have s20 : StA H20 a A := h.fr t20 (fun o i z => ⟨fun _ _ => by unfold jSt at z; omega, by unfold jSt at z; omega⟩)
  have l20 : StL H20 b := hb.fr t20
  refine ⟨H20, ⟨l20, ?_, ?_, ?_, ?_, ?_, ?_, ?_, ?_, ?_, ?_, ?_, ?_, ?_, ?_⟩, t20, fun Q => ?_⟩
  · exact (f20.I _ _ (by omega)).trans ((f19.I _ _ (by omega)).trans ((f18.I _ _ (by omega)).trans ((f17.I _ _ (by omega)).trans ((f16.I _ _ (by omega)).trans ((f15.I _ _ (by omega)).trans ((f14.I _ _ (by omega)).trans ((f13.I _ _ (by omega)).trans ((f12.I _ _ (by omega)).trans ((f11.I _ _ (by omega)).trans ((f10.I _ _ (by omega)).trans ((f9.I _ _ (by omega)).trans ((f8.I _ _ (by omega)).trans ((f7.I _ _ (by omega)).trans ((f6.I _ _ (by omega)).trans ((f5.I _ _ (by omega)).trans ((f4.I _ _ (by omega)).trans ((f3.I _ _ (by omega)).trans ((f2.I _ _ (by omega)).trans ((by rw [← hH1]; exact gIs))))))))))))))))))))
  · exact (f20.I _ _ (by omega)).trans ((f19.I _ _ (by omega)).trans ((f18.I _ _ (by omega)).trans ((f17.I _ _ (by omega)).trans ((f16.I _ _ (by omega)).trans ((f15.I _ _ (by omega)).trans ((f14.I _ _ (by omega)).trans ((f13.I _ _ (by omega)).trans ((f12.I _ _ (by omega)).trans ((f11.I _ _ (by omega)).trans ((f10.I _ _ (by omega)).trans ((f9.I _ _ (by omega)).trans ((f8.I _ _ (by omega)).trans ((f7.I _ _ (by omega)).trans ((f6.I _ _ (by omega)).trans ((f5.I _ _ (by omega)).trans ((f4.I _ _ (by omega)).trans ((f3.I _ _ (by omega)).trans ((by rw [← hH2]; exact gIs)))))))))))))))))))
  · exact (f20.I _ _ (by omega)).trans ((f19.I _ _ (by omega)).trans ((f18.I _ _ (by omega)).trans ((f17.I _ _ (by omega)).trans ((f16.I _ _ (by omega)).trans ((f15.I _ _ (by omega)).trans ((f14.I _ _ (by omega)).trans ((f13.I _ _ (by omega)).trans ((f12.I _ _ (by omega)).trans ((f11.I _ _ (by omega)).trans ((f10.I _ _ (by omega)).trans ((f9.I _ _ (by omega)).trans ((f8.I _ _ (by omega)).trans ((f7.I _ _ (by omega)).trans ((f6.I _ _ (by omega)).trans ((by rw [← hH5]; exact gIs))))))))))))))))
  · exact (f20.I _ _ (by omega)).trans ((f19.I _ _ (by omega)).trans ((f18.I _ _ (by omega)).trans ((f17.I _ _ (by omega)).trans ((f16.I _ _ (by omega)).trans ((f15.I _ _ (by omega)).trans ((f14.I _ _ (by omega)).trans ((f13.I _ _ (by omega)).trans ((f12.I _ _ (by omega)).trans ((f11.I _ _ (by omega)).trans ((f10.I _ _ (by omega)).trans ((f9.I _ _ (by omega)).trans ((f8.I _ _ (by omega)).trans ((by rw [← hH7]; exact gIs))))))))))))))
  · exact (f20.I _ _ (by omega)).trans ((f19.I _ _ (by omega)).trans ((f18.I _ _ (by omega)).trans ((f17.I _ _ (by omega)).trans ((f16.I _ _ (by omega)).trans ((f15.I _ _ (by omega)).trans ((f14.I _ _ (by omega)).trans ((f13.I _ _ (by omega)).trans ((f12.I _ _ (by omega)).trans ((f11.I _ _ (by omega)).trans ((by rw [← hH10]; exact gIs)))))))))))
  · intro i hi
    exact (f20.I _ _ (by omega)).trans ((f19.I _ _ (by omega)).trans ((f18.I _ _ (by omega)).trans ((f17.I _ _ (by omega)).trans ((f16.I _ _ (by omega)).trans ((f15.I _ _ (by omega)).trans ((f14.I _ _ (by omega)).trans ((f13.I _ _ (by omega)).trans ((f12.I _ _ (by omega)).trans ((f11.I _ _ (by omega)).trans ((f10.I _ _ (by omega)).trans ((f9.I _ _ (by omega)).trans ((f8.I _ _ (by omega)).trans ((f7.I _ _ (by omega)).trans ((f6.I _ _ (by omega)).trans ((f5.I _ _ (by omega)).trans ((f4.I _ _ (by omega)).trans ((by rw [← hH3]; exact (gcI _ _ _ _ _ _ _ _).trans ((if_pos rfl).trans ((pk_cpy_in (Nat.zero_le _) (by omega)).trans (by rw [Nat.zero_add, Nat.sub_zero]; exact s2.eK i hi)))))))))))))))))))))
  · intro i hi
    exact (f20.I _ _ (by omega)).trans ((f19.I _ _ (by omega)).trans ((f18.I _ _ (by omega)).trans ((f17.I _ _ (by omega)).trans ((f16.I _ _ (by omega)).trans ((f15.I _ _ (by omega)).trans ((f14.I _ _ (by omega)).trans ((f13.I _ _ (by omega)).trans ((f12.I _ _ (by omega)).trans ((f11.I _ _ (by omega)).trans ((f10.I _ _ (by omega)).trans ((f9.I _ _ (by omega)).trans ((f8.I _ _ (by omega)).trans ((f7.I _ _ (by omega)).trans ((f6.I _ _ (by omega)).trans ((f5.I _ _ (by omega)).trans ((by rw [← hH4]; exact (gcI _ _ _ _ _ _ _ _).trans ((if_pos rfl).trans ((pk_cpy_in (Nat.zero_le _) (by omega)).trans (by rw [Nat.zero_add, Nat.sub_zero]; exact s3.eV i hi))))))))))))))))))))
  · intro i hi
    exact (f20.I _ _ (by omega)).trans ((f19.I _ _ (by omega)).trans ((f18.I _ _ (by omega)).trans ((f17.I _ _ (by omega)).trans ((f16.I _ _ (by omega)).trans ((f15.I _ _ (by omega)).trans ((f14.I _ _ (by omega)).trans ((f13.I _ _ (by omega)).trans ((f12.I _ _ (by omega)).trans ((f11.I _ _ (by omega)).trans ((f10.I _ _ (by omega)).trans ((f9.I _ _ (by omega)).trans ((f8.I _ _ (by omega)).trans ((f7.I _ _ (by omega)).trans ((by rw [← hH6]; exact (gcI _ _ _ _ _ _ _ _).trans ((if_pos rfl).trans ((pk_cpy_in (Nat.zero_le _) (by omega)).trans (by rw [Nat.zero_add, Nat.sub_zero]; exact s5.eR i hi))))))))))))))))))
  · intro i hi
    exact (f20.I _ _ (by omega)).trans ((f19.I _ _ (by omega)).trans ((f18.I _ _ (by omega)).trans ((f17.I _ _ (by omega)).trans ((f16.I _ _ (by omega)).trans ((f15.I _ _ (by omega)).trans ((f14.I _ _ (by omega)).trans ((f13.I _ _ (by omega)).trans ((f12.I _ _ (by omega)).trans ((f11.I _ _ (by omega)).trans ((f10.I _ _ (by omega)).trans ((f9.I _ _ (by omega)).trans ((by rw [← hH8]; exact (gcI _ _ _ _ _ _ _ _).trans ((if_pos rfl).trans ((pk_cpy_in (Nat.zero_le _) (by omega)).trans (by rw [Nat.zero_add, Nat.sub_zero]; exact s7.eM i hi))))))))))))))))
  · intro i hi
    exact (f20.I _ _ (by omega)).trans ((f19.I _ _ (by omega)).trans ((f18.I _ _ (by omega)).trans ((f17.I _ _ (by omega)).trans ((f16.I _ _ (by omega)).trans ((f15.I _ _ (by omega)).trans ((f14.I _ _ (by omega)).trans ((f13.I _ _ (by omega)).trans ((f12.I _ _ (by omega)).trans ((f11.I _ _ (by omega)).trans ((f10.I _ _ (by omega)).trans ((by rw [← hH9]; exact (gcI _ _ _ _ _ _ _ _).trans ((if_pos rfl).trans ((pk_cpy_in (Nat.zero_le _) (by omega)).trans (by rw [Nat.zero_add, Nat.sub_zero]; exact s8.eW i hi)))))))))))))))
  · have e13 : aR H20 b 13 = aR H a 13 := by rw [← hH20]; exact ((gR _ _ _ _ _ _).trans (if_pos ⟨rfl, rfl⟩)).trans (t19.R a 13 (fun z => by have := z.1; unfold jSt at this; omega))
    rw [e13]
    exact h.eL.fr t20 (fun o i z => by unfold jSt at z; omega)
  · exact ⟨(f20.I _ _ (by omega)).trans ((f19.I _ _ (by omega)).trans ((f18.I _ _ (by omega)).trans ((f17.I _ _ (by omega)).trans ((f16.I _ _ (by omega)).trans ((f15.I _ _ (by omega)).trans ((f14.I _ _ (by omega)).trans ((f13.I _ _ (by omega)).trans ((f12.I _ _ (by omega)).trans ((by rw [← hH11]; exact gIs)))))))))), fun i hi => ⟨(f20.I _ _ (by omega)).trans ((f19.I _ _ (by omega)).trans ((f18.I _ _ (by omega)).trans ((f17.I _ _ (by omega)).trans ((f16.I _ _ (by omega)).trans ((f15.I _ _ (by omega)).trans ((f14.I _ _ (by omega)).trans ((f13.I _ _ (by omega)).trans ((by rw [← hH12]; exact (gcI _ _ _ _ _ _ _ _).trans ((if_pos rfl).trans ((pk_cpy_in (Nat.zero_le _) (by omega)).trans (by rw [Nat.zero_add, Nat.sub_zero]; exact (s11.es.2 i hi).1)))))))))))), (f20.I _ _ (by omega)).trans ((f19.I _ _ (by omega)).trans ((f18.I _ _ (by omega)).trans ((f17.I _ _ (by omega)).trans ((f16.I _ _ (by omega)).trans ((f15.I _ _ (by omega)).trans ((f14.I _ _ (by omega)).trans ((by rw [← hH13]; exact (gcI _ _ _ _ _ _ _ _).trans ((if_pos rfl).trans ((pk_cpy_in (Nat.zero_le _) (by omega)).trans (by rw [Nat.zero_add, Nat.sub_zero]; exact (s12.es.2 i hi).2)))))))))))⟩⟩
  · exact ⟨(f20.I _ _ (by omega)).trans ((f19.I _ _ (by omega)).trans ((f18.I _ _ (by omega)).trans ((f17.I _ _ (by omega)).trans ((f16.I _ _ (by omega)).trans ((f15.I _ _ (by omega)).trans ((by rw [← hH14]; exact gIs))))))), fun i hi => ⟨(f20.I _ _ (by omega)).trans ((f19.I _ _ (by omega)).trans ((f18.I _ _ (by omega)).trans ((f17.I _ _ (by omega)).trans ((f16.I _ _ (by omega)).trans ((by rw [← hH15]; exact (gcI _ _ _ _ _ _ _ _).trans ((if_pos rfl).trans ((pk_cpy_in (Nat.zero_le _) (by omega)).trans (by rw [Nat.zero_add, Nat.sub_zero]; exact (s14.ep.2 i hi).1))))))))), (s15.ep.2 i hi).2.imp_right (fun q => (f20.I _ _ (by omega)).trans ((f19.I _ _ (by omega)).trans ((f18.I _ _ (by omega)).trans ((f17.I _ _ (by omega)).trans ((by rw [← hH16]; exact (gcI _ _ _ _ _ _ _ _).trans ((if_pos rfl).trans ((pk_cpy_in (Nat.zero_le _) (by omega)).trans (by rw [Nat.zero_add, Nat.sub_zero]; exact q)))))))))⟩⟩
  · exact ⟨(f20.I _ _ (by omega)).trans ((f19.I _ _ (by omega)).trans ((f18.I _ _ (by omega)).trans ((by rw [← hH17]; exact gIs)))), fun i hi => ⟨(f20.I _ _ (by omega)).trans ((f19.I _ _ (by omega)).trans ((by rw [← hH18]; exact (gcI _ _ _ _ _ _ _ _).trans ((if_pos rfl).trans ((pk_cpy_in (Nat.zero_le _) (by omega)).trans (by rw [Nat.zero_add, Nat.sub_zero]; exact (s17.eb.2 i hi).1)))))), (f20.I _ _ (by omega)).trans ((by rw [← hH19]; exact (gcI _ _ _ _ _ _ _ _).trans ((if_pos rfl).trans ((pk_cpy_in (Nat.zero_le _) (by omega)).trans (by rw [Nat.zero_add, Nat.sub_zero]; exact (s18.eb.2 i hi).2)))))⟩⟩
  · have z0 : (0 : Int32).toNatClampNeg = 0 := nI_clamp0
    have ka0 := s0.lay.1
    have kb0 := l0.1
    have v0 := s0.nD
    have ka1 := s1.lay.1
    have kb1 := l1.1
    have v1 := s1.nN
    have ka2 := s2.lay.1
    have kb2 := l2.1
    have ra2 := s2.lay.2.2.2.2.2.2.2.2.2.2.2.2.2.2.2.2.2.2.2.2.2.2.2.2.1
    have rb2 := l2.2.2.2.2.2.2.2.2.2.2.2.2.2.2.2.2.2.2.2.2.2.2.2.2.1
    have kc2 := s2.lay.2.1
    have kd2 := l2.2.1
    have cp2 : cpOk H2 (a + 1) 0 (b + 1) 0 6 := cpOk_0 (n := 6) (by rw [s2.lay.2.2.2.2.2.2.2.2.2.2.2.2.2.2.2.1]; omega) (by rw [l2.2.2.2.2.2.2.2.2.2.2.2.2.2.2.2.1]; omega) (by decide)
    have ka3 := s3.lay.1
    have kb3 := l3.1
    have ra3 := s3.lay.2.2.2.2.2.2.2.2.2.2.2.2.2.2.2.2.2.2.2.2.2.2.2.2.2.1
    have rb3 := l3.2.2.2.2.2.2.2.2.2.2.2.2.2.2.2.2.2.2.2.2.2.2.2.2.2.1
    have kc3 := s3.lay.2.2.1
    have kd3 := l3.2.2.1
    have cp3 : cpOk H3 (a + 2) 0 (b + 2) 0 6 := cpOk_0 (n := 6) (by rw [s3.lay.2.2.2.2.2.2.2.2.2.2.2.2.2.2.2.2.1]; omega) (by rw [l3.2.2.2.2.2.2.2.2.2.2.2.2.2.2.2.2.1]; omega) (by decide)
    have ka4 := s4.lay.1
    have kb4 := l4.1
    have v4 := s4.nO
    have ka5 := s5.lay.1
    have kb5 := l5.1
    have ra5 := s5.lay.2.2.2.2.2.2.2.2.2.2.2.2.2.2.2.2.2.2.2.2.2.2.2.2.2.2.1
    have rb5 := l5.2.2.2.2.2.2.2.2.2.2.2.2.2.2.2.2.2.2.2.2.2.2.2.2.2.2.1
    have kc5 := s5.lay.2.2.2.1
    have kd5 := l5.2.2.2.1
    have cp5 : cpOk H5 (a + 3) 0 (b + 3) 0 24 := cpOk_0 (n := 24) (by rw [s5.lay.2.2.2.2.2.2.2.2.2.2.2.2.2.2.2.2.2.1]; omega) (by rw [l5.2.2.2.2.2.2.2.2.2.2.2.2.2.2.2.2.2.1]; omega) (by decide)
    have ka6 := s6.lay.1
    have kb6 := l6.1
    have v6 := s6.nP
    have ka7 := s7.lay.1
    have kb7 := l7.1
    have ra7 := s7.lay.2.2.2.2.2.2.2.2.2.2.2.2.2.2.2.2.2.2.2.2.2.2.2.2.2.2.2.1
    have rb7 := l7.2.2.2.2.2.2.2.2.2.2.2.2.2.2.2.2.2.2.2.2.2.2.2.2.2.2.2.1
    have kc7 := s7.lay.2.2.2.2.1
    have kd7 := l7.2.2.2.2.1
    have cp7 : cpOk H7 (a + 4) 0 (b + 4) 0 5 := cpOk_0 (n := 5) (by rw [s7.lay.2.2.2.2.2.2.2.2.2.2.2.2.2.2.2.2.2.2.1]; omega) (by rw [l7.2.2.2.2.2.2.2.2.2.2.2.2.2.2.2.2.2.2.1]; omega) (by decide)
    have ka8 := s8.lay.1
    have kb8 := l8.1
    have ra8 := s8.lay.2.2.2.2.2.2.2.2.2.2.2.2.2.2.2.2.2.2.2.2.2.2.2.2.2.2.2.2.1
    have rb8 := l8.2.2.2.2.2.2.2.2.2.2.2.2.2.2.2.2.2.2.2.2.2.2.2.2.2.2.2.2.1
    have kc8 := s8.lay.2.2.2.2.2.1
    have kd8 := l8.2.2.2.2.2.1
    have cp8 : cpOk H8 (a + 5) 0 (b + 5) 0 5 := cpOk_0 (n := 5) (by rw [s8.lay.2.2.2.2.2.2.2.2.2.2.2.2.2.2.2.2.2.2.2.1]; omega) (by rw [l8.2.2.2.2.2.2.2.2.2.2.2.2.2.2.2.2.2.2.2.1]; omega) (by decide)
    have ka9 := s9.lay.1
    have kb9 := l9.1
    have v9 := s9.nB
    have ka10 := s10.lay.1
    have kb10 := l10.1
    have ra10 := s10.lay.2.2.2.2.2.2.2.2.2.2.2.2.2.2.2.2.2.2.2.2.2.2.2.2.2.2.2.2.2.1
    have rb10 := l10.2.2.2.2.2.2.2.2.2.2.2.2.2.2.2.2.2.2.2.2.2.2.2.2.2.2.2.2.2.1
    have pe10 : cI (cI (sI H10 (b + 6) 0 (nI A.sn)) (a + 7) 0 (b + 7) 0 A.sn) (a + 8) 0 (b + 8) 0 A.sn = H13 := by rw [hH11, hH12, hH13]
    have pc10 : ∀ Q, Wp S d 16 0 [.ref (b + 6), .ref (a + 6)] [] H10 Q = Q none H13 := fun Q => (w_pcopy (S := S) (H := H10) (d := d) (a := a + 6) (b := b + 6) (n := A.sn) (c := 5) (Q := Q) (s10.lay.2.2.2.2.2.2.1) (l10.2.2.2.2.2.2.1) (s10.lay.2.2.2.2.2.2.2.2.2.2.2.2.2.2.2.2.2.2.2.2.2.2.2.2.2.2.2.2.2.2.2.2.1) (s10.lay.2.2.2.2.2.2.2.2.2.2.2.2.2.2.2.2.2.2.2.2.2.2.2.2.2.2.2.2.2.2.2.2.2.1) (l10.2.2.2.2.2.2.2.2.2.2.2.2.2.2.2.2.2.2.2.2.2.2.2.2.2.2.2.2.2.2.2.2.1) (l10.2.2.2.2.2.2.2.2.2.2.2.2.2.2.2.2.2.2.2.2.2.2.2.2.2.2.2.2.2.2.2.2.2.1) (s10.lay.2.2.2.2.2.2.2.1) (s10.lay.2.2.2.2.2.2.2.2.1) (l10.2.2.2.2.2.2.2.1) (l10.2.2.2.2.2.2.2.2.1) (s10.lay.2.2.2.2.2.2.2.2.2.2.2.2.2.2.2.2.2.2.2.2.1) (s10.lay.2.2.2.2.2.2.2.2.2.2.2.2.2.2.2.2.2.2.2.2.2.1) (l10.2.2.2.2.2.2.2.2.2.2.2.2.2.2.2.2.2.2.2.2.1) (l10.2.2.2.2.2.2.2.2.2.2.2.2.2.2.2.2.2.2.2.2.2.1) (s10.es.1) (by omega) (by decide) (by omega)).trans (congrArg (Q none) pe10)
    have kp10 := l10.2.2.2.2.2.2.1
    have kq10 := s10.lay.2.2.2.2.2.2.1
    have ka13 := s13.lay.1
    have kb13 := l13.1
    have ra13 := s13.lay.2.2.2.2.2.2.2.2.2.2.2.2.2.2.2.2.2.2.2.2.2.2.2.2.2.2.2.2.2.2.1
    have rb13 := l13.2.2.2.2.2.2.2.2.2.2.2.2.2.2.2.2.2.2.2.2.2.2.2.2.2.2.2.2.2.2.1
    have pe13 : cI (cI (sI H13 (b + 9) 0 (nI A.pn)) (a + 10) 0 (b + 10) 0 A.pn) (a + 11) 0 (b + 11) 0 A.pn = H16 := by rw [hH14, hH15, hH16]
    have pc13 : ∀ Q, Wp S d 16 0 [.ref (b + 9), .ref (a + 9)] [] H13 Q = Q none H16 := fun Q => (w_pcopy (S := S) (H := H13) (d := d) (a := a + 9) (b := b + 9) (n := A.pn) (c := 10) (Q := Q) (s13.lay.2.2.2.2.2.2.2.2.2.1) (l13.2.2.2.2.2.2.2.2.2.1) (s13.lay.2.2.2.2.2.2.2.2.2.2.2.2.2.2.2.2.2.2.2.2.2.2.2.2.2.2.2.2.2.2.2.2.2.2.1) (s13.lay.2.2.2.2.2.2.2.2.2.2.2.2.2.2.2.2.2.2.2.2.2.2.2.2.2.2.2.2.2.2.2.2.2.2.2.1) (l13.2.2.2.2.2.2.2.2.2.2.2.2.2.2.2.2.2.2.2.2.2.2.2.2.2.2.2.2.2.2.2.2.2.2.1) (l13.2.2.2.2.2.2.2.2.2.2.2.2.2.2.2.2.2.2.2.2.2.2.2.2.2.2.2.2.2.2.2.2.2.2.2.1) (s13.lay.2.2.2.2.2.2.2.2.2.2.1) (s13.lay.2.2.2.2.2.2.2.2.2.2.2.1) (l13.2.2.2.2.2.2.2.2.2.2.1) (l13.2.2.2.2.2.2.2.2.2.2.2.1) (s13.lay.2.2.2.2.2.2.2.2.2.2.2.2.2.2.2.2.2.2.2.2.2.2.1) (s13.lay.2.2.2.2.2.2.2.2.2.2.2.2.2.2.2.2.2.2.2.2.2.2.2.1) (l13.2.2.2.2.2.2.2.2.2.2.2.2.2.2.2.2.2.2.2.2.2.2.1) (l13.2.2.2.2.2.2.2.2.2.2.2.2.2.2.2.2.2.2.2.2.2.2.2.1) (s13.ep.1) (by omega) (by decide) (by omega)).trans (congrArg (Q none) pe13)
    have kp13 := l13.2.2.2.2.2.2.2.2.2.1
    have kq13 := s13.lay.2.2.2.2.2.2.2.2.2.1
    have ka16 := s16.lay.1
    have kb16 := l16.1
    have ra16 := s16.lay.2.2.2.2.2.2.2.2.2.2.2.2.2.2.2.2.2.2.2.2.2.2.2.2.2.2.2.2.2.2.2.1
    have rb16 := l16.2.2.2.2.2.2.2.2.2.2.2.2.2.2.2.2.2.2.2.2.2.2.2.2.2.2.2.2.2.2.2.1
    have pe16 : cI (cI (sI H16 (b + 12) 0 (nI A.bn)) (a + 13) 0 (b + 13) 0 A.bn) (a + 14) 0 (b + 14) 0 A.bn = H19 := by rw [hH17, hH18, hH19]
    have pc16 : ∀ Q, Wp S d 16 0 [.ref (b + 12), .ref (a + 12)] [] H16 Q = Q none H19 := fun Q => (w_pcopy (S := S) (H := H16) (d := d) (a := a + 12) (b := b + 12) (n := A.bn) (c := 8) (Q := Q) (s16.lay.2.2.2.2.2.2.2.2.2.2.2.2.1) (l16.2.2.2.2.2.2.2.2.2.2.2.2.1) (s16.lay.2.2.2.2.2.2.2.2.2.2.2.2.2.2.2.2.2.2.2.2.2.2.2.2.2.2.2.2.2.2.2.2.2.2.2.2.1) (s16.lay.2.2.2.2.2.2.2.2.2.2.2.2.2.2.2.2.2.2.2.2.2.2.2.2.2.2.2.2.2.2.2.2.2.2.2.2.2.1) (l16.2.2.2.2.2.2.2.2.2.2.2.2.2.2.2.2.2.2.2.2.2.2.2.2.2.2.2.2.2.2.2.2.2.2.2.2.1) (l16.2.2.2.2.2.2.2.2.2.2.2.2.2.2.2.2.2.2.2.2.2.2.2.2.2.2.2.2.2.2.2.2.2.2.2.2.2.1) (s16.lay.2.2.2.2.2.2.2.2.2.2.2.2.2.1) (s16.lay.2.2.2.2.2.2.2.2.2.2.2.2.2.2.1) (l16.2.2.2.2.2.2.2.2.2.2.2.2.2.1) (l16.2.2.2.2.2.2.2.2.2.2.2.2.2.2.1) (s16.lay.2.2.2.2.2.2.2.2.2.2.2.2.2.2.2.2.2.2.2.2.2.2.2.2.2.2.2.2.2.2.2.2.2.2.2.2.2.2.1) (s16.lay.2.2.2.2.2.2.2.2.2.2.2.2.2.2.2.2.2.2.2.2.2.2.2.2.2.2.2.2.2.2.2.2.2.2.2.2.2.2.2) (l16.2.2.2.2.2.2.2.2.2.2.2.2.2.2.2.2.2.2.2.2.2.2.2.2.2.2.2.2.2.2.2.2.2.2.2.2.2.2.1) (l16.2.2.2.2.2.2.2.2.2.2.2.2.2.2.2.2.2.2.2.2.2.2.2.2.2.2.2.2.2.2.2.2.2.2.2.2.2.2.2) (s16.eb.1) (by omega) (by decide) (by omega)).trans (congrArg (Q none) pe16)
    have kp16 := l16.2.2.2.2.2.2.2.2.2.2.2.2.1
    have kq16 := s16.lay.2.2.2.2.2.2.2.2.2.2.2.2.1
    have ka19 := s19.lay.1
    have kb19 := l19.1
    have kb20 := l20.1
    have n6 : (6 : Int32).toNatClampNeg = 6 := by decide +kernel
    have n24 : (24 : Int32).toNatClampNeg = 24 := by decide +kernel
    have n5 : (5 : Int32).toNatClampNeg = 5 := by decide +kernel
    cases hw : aR H19 a 13 with
    | none =>
      rw [hw] at hH20
      simp only [sX3_copy_0, sX3_copy_1, sX3_copy_2, sX3_copy_5, sX3_copy_8, sX3_copy_9, sX3_copy_10, sX3_copy_13, sX3_copy_16, sX3_copy_17, sX3_copy_20, sX3_copy_21, sX3_copy_22, sX3_copy_25, sX3_copy_26, sX3_copy_28 (st := []), sX3_copy_31, sX3_copy_32, sX3_copy_35, sX3_copy_36, sX3_copy_37, sX3_copy_40, sX3_copy_41, sX3_copy_43 (st := []), sX3_copy_46, sX3_copy_47, sX3_copy_48, sX3_copy_51, sX3_copy_54, sX3_copy_55, sX3_copy_58, sX3_copy_59, sX3_copy_60, sX3_copy_63, sX3_copy_64, sX3_copy_66 (st := []), sX3_copy_69, sX3_copy_70, sX3_copy_71, sX3_copy_74, sX3_copy_77, sX3_copy_78, sX3_copy_81, sX3_copy_82, sX3_copy_83, sX3_copy_86, sX3_copy_87, sX3_copy_88 (st := []), sX3_copy_91, sX3_copy_92, sX3_copy_95, sX3_copy_96, sX3_copy_97, sX3_copy_100, sX3_copy_101, sX3_copy_102 (st := []), sX3_copy_105, sX3_copy_106, sX3_copy_107, sX3_copy_110, sX3_copy_113, sX3_copy_114, sX3_copy_117, sX3_copy_118, sX3_copy_121 (st := []), sX3_copy_124, sX3_copy_125, sX3_copy_128, sX3_copy_129, sX3_copy_132 (st := []), sX3_copy_135, sX3_copy_136, sX3_copy_139, sX3_copy_140, sX3_copy_143 (st := []), sX3_copy_146, sX3_copy_147, sX3_copy_148, sX3_copy_151r, sX3_copy_151n, sX3_copy_154 (st := []), inb, pushr_s, pushr_n, rv_s, rv_n, not_false_eq_true, true_and, and_true, true_or, or_true, or_false, false_or, eq_self, ite_true, ite_false, if_true, if_false, z0, n6, n24, n5, ka0, kb0, v0, hH1, ka1, kb1, v1, hH2, ka2, kb2, ra2, rb2, kc2, kd2, cp2, hH3, ka3, kb3, ra3, rb3, kc3, kd3, cp3, hH4, ka4, kb4, v4, hH5, ka5, kb5, ra5, rb5, kc5, kd5, cp5, hH6, ka6, kb6, v6, hH7, ka7, kb7, ra7, rb7, kc7, kd7, cp7, hH8, ka8, kb8, ra8, rb8, kc8, kd8, cp8, hH9, ka9, kb9, v9, hH10, ka10, kb10, ra10, rb10, kp10, kq10, pc10, ka13, kb13, ra13, rb13, kp13, kq13, pc13, ka16, kb16, ra16, rb16, kp16, kq16, pc16, ka19, kb19, hH20, kb20, hw]
    | some q =>
      rw [hw] at hH20
      simp only [sX3_copy_0, sX3_copy_1, sX3_copy_2, sX3_copy_5, sX3_copy_8, sX3_copy_9, sX3_copy_10, sX3_copy_13, sX3_copy_16, sX3_copy_17, sX3_copy_20, sX3_copy_21, sX3_copy_22, sX3_copy_25, sX3_copy_26, sX3_copy_28 (st := []), sX3_copy_31, sX3_copy_32, sX3_copy_35, sX3_copy_36, sX3_copy_37, sX3_copy_40, sX3_copy_41, sX3_copy_43 (st := []), sX3_copy_46, sX3_copy_47, sX3_copy_48, sX3_copy_51, sX3_copy_54, sX3_copy_55, sX3_copy_58, sX3_copy_59, sX3_copy_60, sX3_copy_63, sX3_copy_64, sX3_copy_66 (st := []), sX3_copy_69, sX3_copy_70, sX3_copy_71, sX3_copy_74, sX3_copy_77, sX3_copy_78, sX3_copy_81, sX3_copy_82, sX3_copy_83, sX3_copy_86, sX3_copy_87, sX3_copy_88 (st := []), sX3_copy_91, sX3_copy_92, sX3_copy_95, sX3_copy_96, sX3_copy_97, sX3_copy_100, sX3_copy_101, sX3_copy_102 (st := []), sX3_copy_105, sX3_copy_106, sX3_copy_107, sX3_copy_110, sX3_copy_113, sX3_copy_114, sX3_copy_117, sX3_copy_118, sX3_copy_121 (st := []), sX3_copy_124, sX3_copy_125, sX3_copy_128, sX3_copy_129, sX3_copy_132 (st := []), sX3_copy_135, sX3_copy_136, sX3_copy_139, sX3_copy_140, sX3_copy_143 (st := []), sX3_copy_146, sX3_copy_147, sX3_copy_148, sX3_copy_151r, sX3_copy_151n, sX3_copy_154 (st := []), inb, pushr_s, pushr_n, rv_s, rv_n, not_false_eq_true, true_and, and_true, true_or, or_true, or_false, false_or, eq_self, ite_true, ite_false, if_true, if_false, z0, n6, n24, n5, ka0, kb0, v0, hH1, ka1, kb1, v1, hH2, ka2, kb2, ra2, rb2, kc2, kd2, cp2, hH3, ka3, kb3, ra3, rb3, kc3, kd3, cp3, hH4, ka4, kb4, v4, hH5, ka5, kb5, ra5, rb5, kc5, kd5, cp5, hH6, ka6, kb6, v6, hH7, ka7, kb7, ra7, rb7, kc7, kd7, cp7, hH8, ka8, kb8, ra8, rb8, kc8, kd8, cp8, hH9, ka9, kb9, v9, hH10, ka10, kb10, ra10, rb10, kp10, kq10, pc10, ka13, kb13, ra13, rb13, kp13, kq13, pc13, ka16, kb16, ra16, rb16, kp16, kq16, pc16, ka19, kb19, hH20, kb20, hw]
end COPY
