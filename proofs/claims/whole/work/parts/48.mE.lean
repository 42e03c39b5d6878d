-- 48: the reference's E
theorem MS.p_setp (A : MS) (x) : (A.setp x).p = x := rfl
theorem MS.p_setg (A : MS) (x) : (A.setg x).p = A.p := rfl
theorem MS.p_setn (A : MS) (x) : (A.setn x).p = A.p := rfl
theorem MS.p_setk (A : MS) (x) : (A.setk x).p = A.p := rfl
theorem MS.p_seto (A : MS) (x) : (A.seto x).p = A.p := rfl
theorem MS.p_setW (A : MS) (x) : (A.setW x).p = A.p := rfl
theorem MS.p_setf (A : MS) (x) : (A.setf x).p = A.p := rfl
theorem MS.p_setwd (A : MS) (x) : (A.setwd x).p = A.p := rfl
theorem MS.p_setnu (A : MS) (x) : (A.setnu x).p = A.p := rfl
theorem MS.p_setfr (A : MS) (x) : (A.setfr x).p = A.p := rfl
theorem MS.p_setto (A : MS) (x) : (A.setto x).p = A.p := rfl
theorem MS.p_setcl (A : MS) (x) : (A.setcl x).p = A.p := rfl
theorem MS.g_setp (A : MS) (x) : (A.setp x).g = A.g := rfl
theorem MS.g_setg (A : MS) (x) : (A.setg x).g = x := rfl
theorem MS.g_setn (A : MS) (x) : (A.setn x).g = A.g := rfl
theorem MS.g_setk (A : MS) (x) : (A.setk x).g = A.g := rfl
theorem MS.g_seto (A : MS) (x) : (A.seto x).g = A.g := rfl
theorem MS.g_setW (A : MS) (x) : (A.setW x).g = A.g := rfl
theorem MS.g_setf (A : MS) (x) : (A.setf x).g = A.g := rfl
theorem MS.g_setwd (A : MS) (x) : (A.setwd x).g = A.g := rfl
theorem MS.g_setnu (A : MS) (x) : (A.setnu x).g = A.g := rfl
theorem MS.g_setfr (A : MS) (x) : (A.setfr x).g = A.g := rfl
theorem MS.g_setto (A : MS) (x) : (A.setto x).g = A.g := rfl
theorem MS.g_setcl (A : MS) (x) : (A.setcl x).g = A.g := rfl
theorem MS.n_setp (A : MS) (x) : (A.setp x).n = A.n := rfl
theorem MS.n_setg (A : MS) (x) : (A.setg x).n = A.n := rfl
theorem MS.n_setn (A : MS) (x) : (A.setn x).n = x := rfl
theorem MS.n_setk (A : MS) (x) : (A.setk x).n = A.n := rfl
theorem MS.n_seto (A : MS) (x) : (A.seto x).n = A.n := rfl
theorem MS.n_setW (A : MS) (x) : (A.setW x).n = A.n := rfl
theorem MS.n_setf (A : MS) (x) : (A.setf x).n = A.n := rfl
theorem MS.n_setwd (A : MS) (x) : (A.setwd x).n = A.n := rfl
theorem MS.n_setnu (A : MS) (x) : (A.setnu x).n = A.n := rfl
theorem MS.n_setfr (A : MS) (x) : (A.setfr x).n = A.n := rfl
theorem MS.n_setto (A : MS) (x) : (A.setto x).n = A.n := rfl
theorem MS.n_setcl (A : MS) (x) : (A.setcl x).n = A.n := rfl
theorem MS.k_setp (A : MS) (x) : (A.setp x).k = A.k := rfl
theorem MS.k_setg (A : MS) (x) : (A.setg x).k = A.k := rfl
theorem MS.k_setn (A : MS) (x) : (A.setn x).k = A.k := rfl
theorem MS.k_setk (A : MS) (x) : (A.setk x).k = x := rfl
theorem MS.k_seto (A : MS) (x) : (A.seto x).k = A.k := rfl
theorem MS.k_setW (A : MS) (x) : (A.setW x).k = A.k := rfl
theorem MS.k_setf (A : MS) (x) : (A.setf x).k = A.k := rfl
theorem MS.k_setwd (A : MS) (x) : (A.setwd x).k = A.k := rfl
theorem MS.k_setnu (A : MS) (x) : (A.setnu x).k = A.k := rfl
theorem MS.k_setfr (A : MS) (x) : (A.setfr x).k = A.k := rfl
theorem MS.k_setto (A : MS) (x) : (A.setto x).k = A.k := rfl
theorem MS.k_setcl (A : MS) (x) : (A.setcl x).k = A.k := rfl
theorem MS.o_setp (A : MS) (x) : (A.setp x).o = A.o := rfl
theorem MS.o_setg (A : MS) (x) : (A.setg x).o = A.o := rfl
theorem MS.o_setn (A : MS) (x) : (A.setn x).o = A.o := rfl
theorem MS.o_setk (A : MS) (x) : (A.setk x).o = A.o := rfl
theorem MS.o_seto (A : MS) (x) : (A.seto x).o = x := rfl
theorem MS.o_setW (A : MS) (x) : (A.setW x).o = A.o := rfl
theorem MS.o_setf (A : MS) (x) : (A.setf x).o = A.o := rfl
theorem MS.o_setwd (A : MS) (x) : (A.setwd x).o = A.o := rfl
theorem MS.o_setnu (A : MS) (x) : (A.setnu x).o = A.o := rfl
theorem MS.o_setfr (A : MS) (x) : (A.setfr x).o = A.o := rfl
theorem MS.o_setto (A : MS) (x) : (A.setto x).o = A.o := rfl
theorem MS.o_setcl (A : MS) (x) : (A.setcl x).o = A.o := rfl
theorem MS.W_setp (A : MS) (x) : (A.setp x).W = A.W := rfl
theorem MS.W_setg (A : MS) (x) : (A.setg x).W = A.W := rfl
theorem MS.W_setn (A : MS) (x) : (A.setn x).W = A.W := rfl
theorem MS.W_setk (A : MS) (x) : (A.setk x).W = A.W := rfl
theorem MS.W_seto (A : MS) (x) : (A.seto x).W = A.W := rfl
theorem MS.W_setW (A : MS) (x) : (A.setW x).W = x := rfl
theorem MS.W_setf (A : MS) (x) : (A.setf x).W = A.W := rfl
theorem MS.W_setwd (A : MS) (x) : (A.setwd x).W = A.W := rfl
theorem MS.W_setnu (A : MS) (x) : (A.setnu x).W = A.W := rfl
theorem MS.W_setfr (A : MS) (x) : (A.setfr x).W = A.W := rfl
theorem MS.W_setto (A : MS) (x) : (A.setto x).W = A.W := rfl
theorem MS.W_setcl (A : MS) (x) : (A.setcl x).W = A.W := rfl
theorem MS.f_setp (A : MS) (x) : (A.setp x).f = A.f := rfl
theorem MS.f_setg (A : MS) (x) : (A.setg x).f = A.f := rfl
theorem MS.f_setn (A : MS) (x) : (A.setn x).f = A.f := rfl
theorem MS.f_setk (A : MS) (x) : (A.setk x).f = A.f := rfl
theorem MS.f_seto (A : MS) (x) : (A.seto x).f = A.f := rfl
theorem MS.f_setW (A : MS) (x) : (A.setW x).f = A.f := rfl
theorem MS.f_setf (A : MS) (x) : (A.setf x).f = x := rfl
theorem MS.f_setwd (A : MS) (x) : (A.setwd x).f = A.f := rfl
theorem MS.f_setnu (A : MS) (x) : (A.setnu x).f = A.f := rfl
theorem MS.f_setfr (A : MS) (x) : (A.setfr x).f = A.f := rfl
theorem MS.f_setto (A : MS) (x) : (A.setto x).f = A.f := rfl
theorem MS.f_setcl (A : MS) (x) : (A.setcl x).f = A.f := rfl
theorem MS.wd_setp (A : MS) (x) : (A.setp x).wd = A.wd := rfl
theorem MS.wd_setg (A : MS) (x) : (A.setg x).wd = A.wd := rfl
theorem MS.wd_setn (A : MS) (x) : (A.setn x).wd = A.wd := rfl
theorem MS.wd_setk (A : MS) (x) : (A.setk x).wd = A.wd := rfl
theorem MS.wd_seto (A : MS) (x) : (A.seto x).wd = A.wd := rfl
theorem MS.wd_setW (A : MS) (x) : (A.setW x).wd = A.wd := rfl
theorem MS.wd_setf (A : MS) (x) : (A.setf x).wd = A.wd := rfl
theorem MS.wd_setwd (A : MS) (x) : (A.setwd x).wd = x := rfl
theorem MS.wd_setnu (A : MS) (x) : (A.setnu x).wd = A.wd := rfl
theorem MS.wd_setfr (A : MS) (x) : (A.setfr x).wd = A.wd := rfl
theorem MS.wd_setto (A : MS) (x) : (A.setto x).wd = A.wd := rfl
theorem MS.wd_setcl (A : MS) (x) : (A.setcl x).wd = A.wd := rfl
theorem MS.nu_setp (A : MS) (x) : (A.setp x).nu = A.nu := rfl
theorem MS.nu_setg (A : MS) (x) : (A.setg x).nu = A.nu := rfl
theorem MS.nu_setn (A : MS) (x) : (A.setn x).nu = A.nu := rfl
theorem MS.nu_setk (A : MS) (x) : (A.setk x).nu = A.nu := rfl
theorem MS.nu_seto (A : MS) (x) : (A.seto x).nu = A.nu := rfl
theorem MS.nu_setW (A : MS) (x) : (A.setW x).nu = A.nu := rfl
theorem MS.nu_setf (A : MS) (x) : (A.setf x).nu = A.nu := rfl
theorem MS.nu_setwd (A : MS) (x) : (A.setwd x).nu = A.nu := rfl
theorem MS.nu_setnu (A : MS) (x) : (A.setnu x).nu = x := rfl
theorem MS.nu_setfr (A : MS) (x) : (A.setfr x).nu = A.nu := rfl
theorem MS.nu_setto (A : MS) (x) : (A.setto x).nu = A.nu := rfl
theorem MS.nu_setcl (A : MS) (x) : (A.setcl x).nu = A.nu := rfl
theorem MS.fr_setp (A : MS) (x) : (A.setp x).fr = A.fr := rfl
theorem MS.fr_setg (A : MS) (x) : (A.setg x).fr = A.fr := rfl
theorem MS.fr_setn (A : MS) (x) : (A.setn x).fr = A.fr := rfl
theorem MS.fr_setk (A : MS) (x) : (A.setk x).fr = A.fr := rfl
theorem MS.fr_seto (A : MS) (x) : (A.seto x).fr = A.fr := rfl
theorem MS.fr_setW (A : MS) (x) : (A.setW x).fr = A.fr := rfl
theorem MS.fr_setf (A : MS) (x) : (A.setf x).fr = A.fr := rfl
theorem MS.fr_setwd (A : MS) (x) : (A.setwd x).fr = A.fr := rfl
theorem MS.fr_setnu (A : MS) (x) : (A.setnu x).fr = A.fr := rfl
theorem MS.fr_setfr (A : MS) (x) : (A.setfr x).fr = x := rfl
theorem MS.fr_setto (A : MS) (x) : (A.setto x).fr = A.fr := rfl
theorem MS.fr_setcl (A : MS) (x) : (A.setcl x).fr = A.fr := rfl
theorem MS.to_setp (A : MS) (x) : (A.setp x).to = A.to := rfl
theorem MS.to_setg (A : MS) (x) : (A.setg x).to = A.to := rfl
theorem MS.to_setn (A : MS) (x) : (A.setn x).to = A.to := rfl
theorem MS.to_setk (A : MS) (x) : (A.setk x).to = A.to := rfl
theorem MS.to_seto (A : MS) (x) : (A.seto x).to = A.to := rfl
theorem MS.to_setW (A : MS) (x) : (A.setW x).to = A.to := rfl
theorem MS.to_setf (A : MS) (x) : (A.setf x).to = A.to := rfl
theorem MS.to_setwd (A : MS) (x) : (A.setwd x).to = A.to := rfl
theorem MS.to_setnu (A : MS) (x) : (A.setnu x).to = A.to := rfl
theorem MS.to_setfr (A : MS) (x) : (A.setfr x).to = A.to := rfl
theorem MS.to_setto (A : MS) (x) : (A.setto x).to = x := rfl
theorem MS.to_setcl (A : MS) (x) : (A.setcl x).to = A.to := rfl
theorem MS.cl_setp (A : MS) (x) : (A.setp x).cl = A.cl := rfl
theorem MS.cl_setg (A : MS) (x) : (A.setg x).cl = A.cl := rfl
theorem MS.cl_setn (A : MS) (x) : (A.setn x).cl = A.cl := rfl
theorem MS.cl_setk (A : MS) (x) : (A.setk x).cl = A.cl := rfl
theorem MS.cl_seto (A : MS) (x) : (A.seto x).cl = A.cl := rfl
theorem MS.cl_setW (A : MS) (x) : (A.setW x).cl = A.cl := rfl
theorem MS.cl_setf (A : MS) (x) : (A.setf x).cl = A.cl := rfl
theorem MS.cl_setwd (A : MS) (x) : (A.setwd x).cl = A.cl := rfl
theorem MS.cl_setnu (A : MS) (x) : (A.setnu x).cl = A.cl := rfl
theorem MS.cl_setfr (A : MS) (x) : (A.setfr x).cl = A.cl := rfl
theorem MS.cl_setto (A : MS) (x) : (A.setto x).cl = A.cl := rfl
theorem MS.cl_setcl (A : MS) (x) : (A.setcl x).cl = x := rfl
theorem mk_p (s0 : MS) (p : Nat) (g : Int32) (L : List Int32) (W : Nat → Int32) (T : List Nat) : (mk s0 p g L W T).p = p := rfl
theorem mk_n (s0 : MS) (p : Nat) (g : Int32) (L : List Int32) (W : Nat → Int32) (T : List Nat) : (mk s0 p g L W T).n = s0.n + T.length := rfl
theorem mk_k (s0 : MS) (p : Nat) (g : Int32) (L : List Int32) (W : Nat → Int32) (T : List Nat) : (mk s0 p g L W T).k = L.length := rfl
theorem mk_o (s0 : MS) (p : Nat) (g : Int32) (L : List Int32) (W : Nat → Int32) (T : List Nat) : (mk s0 p g L W T).o = opn L := rfl
theorem mk_W (s0 : MS) (p : Nat) (g : Int32) (L : List Int32) (W : Nat → Int32) (T : List Nat) : (mk s0 p g L W T).W = W := rfl
theorem mk_to (s0 : MS) (p : Nat) (g : Int32) (L : List Int32) (W : Nat → Int32) (T : List Nat) : (mk s0 p g L W T).to = s0.to := rfl
theorem mk_setto (s0 : MS) (p : Nat) (g : Int32) (L : List Int32) (W : Nat → Int32) (T : List Nat) (z : Nat → Int32) : (mk s0 p g L W T).setto z = mk (s0.setto z) p g L W T := rfl
theorem mk_push1 {s0 : MS} {p : Nat} {g : Int32} {L : List Int32} {W : Nat → Int32} {T : List Nat} {b : Int32} (hb : b = 33 ∨ b = 40) : ((((mk s0 p g L W T).seto (opn L + 1)).setW (upd W L.length b)).setk (L.length + 1)).setp (p + 1) = mk s0 (p + 1) g (b :: L) (upd W L.length b) T := by
  show (p + 1, g, s0.n + T.length, L.length + 1, opn L + 1, upd W L.length b, appM s0.f s0.n T, s0.wd, s0.nu, s0.fr, s0.to, s0.cl) = (p + 1, g, s0.n + T.length, (b :: L).length, opn (b :: L), upd W L.length b, appM s0.f s0.n T, s0.wd, s0.nu, s0.fr, s0.to, s0.cl)
  rw [opn_x hb]
  rfl
theorem mk_push2 {s0 : MS} {p : Nat} {g : Int32} {L : List Int32} {W : Nat → Int32} {T : List Nat} {b : Int32} (hb : b = 38 ∨ b = 124) : (((mk s0 p g L W T).setW (upd W L.length b)).setk (L.length + 1)).setp (p + 1) = mk s0 (p + 1) g (b :: L) (upd W L.length b) T := by
  show (p + 1, g, s0.n + T.length, L.length + 1, opn L, upd W L.length b, appM s0.f s0.n T, s0.wd, s0.nu, s0.fr, s0.to, s0.cl) = (p + 1, g, s0.n + T.length, (b :: L).length, opn (b :: L), upd W L.length b, appM s0.f s0.n T, s0.wd, s0.nu, s0.fr, s0.to, s0.cl)
  rw [opn_j hb]
  rfl
theorem mk_pop {s0 : MS} {p : Nat} {g : Int32} {x : Int32} {L : List Int32} {W : Nat → Int32} {T : List Nat} : (((mk s0 p g (x :: L) W T).setk L.length).seto (opn L)).setp (p + 1) = mk s0 (p + 1) g L W T := rfl
/-- what a reading leaves of the other slots -/
def Ag (s0 : MS) (s : MS) (c : Nat) : Prop :=
  (s.wd = s0.wd) ∧
  (s.nu = s0.nu) ∧
  (s.fr = s0.fr) ∧
  (s.cl = s0.cl) ∧
  (∀ i, i ≠ c → s.to i = s0.to i) ∧
  (∀ i, i < s0.n → s.f i = s0.f i)
theorem Ag.wd {s0 : MS} {s : MS} {c : Nat} (h : Ag s0 s c) : s.wd = s0.wd := h.1
theorem Ag.nu {s0 : MS} {s : MS} {c : Nat} (h : Ag s0 s c) : s.nu = s0.nu := h.2.1
theorem Ag.fr {s0 : MS} {s : MS} {c : Nat} (h : Ag s0 s c) : s.fr = s0.fr := h.2.2.1
theorem Ag.cl {s0 : MS} {s : MS} {c : Nat} (h : Ag s0 s c) : s.cl = s0.cl := h.2.2.2.1
theorem Ag.to {s0 : MS} {s : MS} {c : Nat} (h : Ag s0 s c) : ∀ i, i ≠ c → s.to i = s0.to i := h.2.2.2.2.1
theorem Ag.f {s0 : MS} {s : MS} {c : Nat} (h : Ag s0 s c) : ∀ i, i < s0.n → s.f i = s0.f i := h.2.2.2.2.2
theorem mk_ag (s0 : MS) (c p : Nat) (g : Int32) (L : List Int32) (W : Nat → Int32) (T : List Nat) : Ag s0 (mk s0 p g L W T) c :=
  ⟨rfl, rfl, rfl, rfl, fun _ _ => rfl, fun i hi => appM_lt T _ _ i (Or.inl hi)⟩
theorem Ag.to' {s0 s : MS} {c : Nat} {z : Nat → Int32} (h : Ag (s0.setto z) s c) (hz : ∀ i, i ≠ c → z i = s0.to i) : Ag s0 s c :=
  ⟨h.wd, h.nu, h.fr, h.cl, fun i hi => (h.to i hi).trans (hz i hi), h.f⟩
def EndE (S : SC) (H : AH) (t : Txt) (z0 e pc c : Nat) (ls : List Value) (s s0 : MS) (r : Nat × Option (List Nat)) : Prop :=
  (∀ T, r.2 = some T → (r.1 ≤ t.1 ∧ T.length + z0 ≤ r.1) ∧ ∃ g W, ∀ Q, Wp S e 149 pc ls [] (pS H s) Q = Q (some (.int 1)) (pS H (mk (s0.setto (upd s0.to c (nI (s0.n + T.length)))) r.1 g [] W T)))
  ∧ (r.2 = none → r.1 ≤ t.1 ∧ ∃ s', s'.p = r.1 ∧ Ag s0 s' c ∧ ∀ Q, Wp S e 149 pc ls [] (pS H s) Q = Q (some (.int 0)) (pS H s'))
theorem upd_upd (f : Nat → Int32) (c : Nat) (x y : Int32) : upd (upd f c x) c y = upd f c y := by
  funext i
  by_cases h : i = c
  · rw [h, pk_us, pk_us]
  · rw [pk_un h, pk_un h, pk_un h]
theorem EndE.eq {S : SC} {H : AH} {t : Txt} {z0 e pc c : Nat} {ls : List Value} {s s0 : MS} {r : Nat × Option (List Nat)} {pc2 : Nat} {ls2 : List Value} {s2 : MS} (h : EndE S H t z0 e pc2 c ls2 s2 s0 r) (hw : ∀ Q, Wp S e 149 pc ls [] (pS H s) Q = Wp S e 149 pc2 ls2 [] (pS H s2) Q) : EndE S H t z0 e pc c ls s s0 r := by
  refine ⟨fun T hT => ?_, fun hT => ?_⟩
  · obtain ⟨a, g, W, b⟩ := h.1 T hT
    exact ⟨a, g, W, fun Q => (hw Q).trans (b Q)⟩
  · obtain ⟨a, s', b1, b2, b3⟩ := h.2 hT
    exact ⟨a, s', b1, b2, fun Q => (hw Q).trans (b3 Q)⟩
theorem EndE.to' {S : SC} {H : AH} {t : Txt} {z0 e pc c : Nat} {ls : List Value} {s s0 : MS} {r : Nat × Option (List Nat)} {x : Int32} (h : EndE S H t z0 e pc c ls s (s0.setto (upd s0.to c x)) r) : EndE S H t z0 e pc c ls s s0 r := by
  refine ⟨fun T hT => ?_, fun hT => ?_⟩
  · obtain ⟨a, g, W, b⟩ := h.1 T hT
    refine ⟨a, g, W, fun Q => (b Q).trans ?_⟩
    show Q _ (pS H (mk ((s0.setto (upd s0.to c x)).setto (upd (upd s0.to c x) c (nI (s0.n + T.length)))) r.1 g [] W T)) = _
    rw [upd_upd]
    rfl
  · obtain ⟨a, s', b1, b2, b3⟩ := h.2 hT
    exact ⟨a, s', b1, b2.to' (fun i hi => pk_un hi), b3⟩
theorem EndE.none {S : SC} {H : AH} {t : Txt} {z0 e pc c : Nat} {ls : List Value} {s s0 s' : MS} {q : Nat} (hq : q ≤ t.1) (hp : s'.p = q) (ha : Ag s0 s' c) (hw : ∀ Q, Wp S e 149 pc ls [] (pS H s) Q = Q (some (.int 0)) (pS H s')) : EndE S H t z0 e pc c ls s s0 (q, none) :=
  ⟨fun T hT => (by cases hT), fun _ => ⟨hq, s', hp, ha, hw⟩⟩
theorem tst_p {t : Txt} {p : Nat} (hp : p ≤ t.1) {q : Nat} {r : Option Nat} (h : tstP t p = (q, r)) : q ≤ t.1 := by
  unfold tstP at h
  cases h1 : let6 (nx t p) with
  | none => rw [h1] at h; cases h; exact hp
  | some l =>
    rw [h1] at h
    have l1 := nx_lt (let6_ok h1).2
    cases h2 : rel3 (nx t (p + 1)) with
    | none => rw [h2] at h; cases h; exact l1
    | some r =>
      rw [h2] at h
      have l2 := nx_lt (rel3_ok h2).2
      rcases h3 : numP t (p + 2) with ⟨q2, _ | n⟩
      · rw [h3] at h; cases h
        unfold numP at h3
        split at h3
        · cases h3; exact l2
        · split at h3 <;> cases h3
      · rw [h3] at h; cases h
        exact (numP_ok h3).2.2
section READ
variable {S : SC} {H : AH} {t : Txt}
theorem m_loopE {d c z0 : Nat} (hz : 0 < z0) (hc : c < 60) (h : ReL H t) : ∀ (n : Nat) (wants : Bool) (p : Nat) (g : Int32) (L : List Int32) (T : List Nat) (W : Nat → Int32) (s0 : MS) (l3 : Value), t.1 < n + p → p ≤ t.1 → Stk W L → StX L → T.length + L.length + z0 ≤ p → s0.n < 500 + z0 → EndE S H t z0 (d + 4) 22 c [.ref 67, .int (nI c), .int (bi wants), l3] (mk s0 p g L W T) s0 (runE t n wants p L T)
  | 0, _, p, _, _, _, _, _, _, h1, h2, _, _, _, _ => absurd h1 (by omega)
  | n + 1, true, p, g, L, T, W, s0, l3, h1, h2, hS, hX, hl, hn => by
    have hlen := h.len
    have n1 := fun Q => m_next (S := S) (d := d + 3) (Q := Q) (s := mk s0 p g L W T) h h2
    rw [mk_p] at n1
    rw [runE]
    by_cases hb : nx t p = 33 ∨ nx t p = 40
    · rw [if_pos hb]
      have hlt := nx_lt (t := t) (p := p) (by rcases hb with z | z <;> rw [z] <;> decide +kernel)
      by_cases ho : opn L = 4
      · rw [if_pos ho]
        refine EndE.none h2 (mk_p s0 p g L W T) (mk_ag s0 c p g L W T) (fun Q => ?_)
        have e4 : (nI (opn L) = 4) = True := eq_true (by rw [ho]; rfl)
        rw [sX8_takesE_22]
        rcases hb with z | z
        · simp only [sX8_takesE_0, sX8_takesE_1, sX8_takesE_2, sX8_takesE_5, sX8_takesE_6, sX8_takesE_7, sX8_takesE_10, sX8_takesE_11, sX8_takesE_14, sX8_takesE_15, sX8_takesE_16, sX8_takesE_19, sX8_takesE_20, sX8_takesE_21, sX8_takesE_23 (st := []), sX8_takesE_26, sX8_takesE_27, sX8_takesE_28, sX8_takesE_31, sX8_takesE_110, sX8_takesE_32, sX8_takesE_111, sX8_takesE_34, sX8_takesE_113, sX8_takesE_37, sX8_takesE_43, sX8_takesE_116, sX8_takesE_122, sX8_takesE_38, sX8_takesE_44, sX8_takesE_117, sX8_takesE_123, sX8_takesE_40, sX8_takesE_47, sX8_takesE_119, sX8_takesE_124 (st := []), sX8_takesE_96, sX8_takesE_48, sX8_takesE_162, sX8_takesE_127, sX8_takesE_97 (st := []), sX8_takesE_51, sX8_takesE_53, sX8_takesE_163, sX8_takesE_128, sX8_takesE_100, sX8_takesE_52 (st := []), sX8_takesE_54, sX8_takesE_165 (st := []), sX8_takesE_131, sX8_takesE_103, sX8_takesE_108, sX8_takesE_55, sX8_takesE_168, sX8_takesE_132, sX8_takesE_104, sX8_takesE_109 (st := []), sX8_takesE_58, sX8_takesE_169, sX8_takesE_135, sX8_takesE_105, sX8_takesE_59, sX8_takesE_172, sX8_takesE_136, sX8_takesE_60, sX8_takesE_173, sX8_takesE_137, sX8_takesE_63, sX8_takesE_174, sX8_takesE_138, sX8_takesE_64, sX8_takesE_177, sX8_takesE_139, sX8_takesE_67, sX8_takesE_178, sX8_takesE_142, sX8_takesE_68, sX8_takesE_179, sX8_takesE_143, sX8_takesE_71, sX8_takesE_182, sX8_takesE_144, sX8_takesE_72, sX8_takesE_185, sX8_takesE_187, sX8_takesE_147, sX8_takesE_73, sX8_takesE_186 (st := []), sX8_takesE_188, sX8_takesE_148, sX8_takesE_74, sX8_takesE_190, sX8_takesE_149, sX8_takesE_75, sX8_takesE_193, sX8_takesE_195, sX8_takesE_150, sX8_takesE_78, sX8_takesE_194 (st := []), sX8_takesE_196, sX8_takesE_151, sX8_takesE_79, sX8_takesE_197, sX8_takesE_154, sX8_takesE_80, sX8_takesE_200, sX8_takesE_155, sX8_takesE_83, sX8_takesE_201, sX8_takesE_156, sX8_takesE_84, sX8_takesE_202, sX8_takesE_159, sX8_takesE_85, sX8_takesE_205, sX8_takesE_88, sX8_takesE_206, sX8_takesE_89, sX8_takesE_207, sX8_takesE_90, sX8_takesE_210, sX8_takesE_93, sX8_takesE_211, sX8_takesE_212, sX8_takesE_215, sX8_takesE_216, sX8_takesE_217, sX8_takesE_220, sX8_takesE_221, sX8_takesE_222, sX8_takesE_225, sX8_takesE_226 (st := []), sX8_takesE_229, inb, nz_3, nz_4, nz_6, nz_8, nz_10, nz_100, nz_300, pushr_s, pushr_n, rv_s, rv_n, kd_sI, kd_sR, kd_sJ, sz_sI, sz_sR, sz_sJ, aR_sI, aJ_sI, aI_sR, aI_sJ, not_false_eq_true, true_and, and_true, true_or, or_true, or_false, false_or, eq_self, ite_true, ite_false, if_true, if_false, kd_pS, mk_67 h.lay, n1, bi_t, nz_1, z, pS_25, mk_o, e4]
        · simp only [sX8_takesE_0, sX8_takesE_1, sX8_takesE_2, sX8_takesE_5, sX8_takesE_6, sX8_takesE_7, sX8_takesE_10, sX8_takesE_11, sX8_takesE_14, sX8_takesE_15, sX8_takesE_16, sX8_takesE_19, sX8_takesE_20, sX8_takesE_21, sX8_takesE_23 (st := []), sX8_takesE_26, sX8_takesE_27, sX8_takesE_28, sX8_takesE_31, sX8_takesE_110, sX8_takesE_32, sX8_takesE_111, sX8_takesE_34, sX8_takesE_113, sX8_takesE_37, sX8_takesE_43, sX8_takesE_116, sX8_takesE_122, sX8_takesE_38, sX8_takesE_44, sX8_takesE_117, sX8_takesE_123, sX8_takesE_40, sX8_takesE_47, sX8_takesE_119, sX8_takesE_124 (st := []), sX8_takesE_96, sX8_takesE_48, sX8_takesE_162, sX8_takesE_127, sX8_takesE_97 (st := []), sX8_takesE_51, sX8_takesE_53, sX8_takesE_163, sX8_takesE_128, sX8_takesE_100, sX8_takesE_52 (st := []), sX8_takesE_54, sX8_takesE_165 (st := []), sX8_takesE_131, sX8_takesE_103, sX8_takesE_108, sX8_takesE_55, sX8_takesE_168, sX8_takesE_132, sX8_takesE_104, sX8_takesE_109 (st := []), sX8_takesE_58, sX8_takesE_169, sX8_takesE_135, sX8_takesE_105, sX8_takesE_59, sX8_takesE_172, sX8_takesE_136, sX8_takesE_60, sX8_takesE_173, sX8_takesE_137, sX8_takesE_63, sX8_takesE_174, sX8_takesE_138, sX8_takesE_64, sX8_takesE_177, sX8_takesE_139, sX8_takesE_67, sX8_takesE_178, sX8_takesE_142, sX8_takesE_68, sX8_takesE_179, sX8_takesE_143, sX8_takesE_71, sX8_takesE_182, sX8_takesE_144, sX8_takesE_72, sX8_takesE_185, sX8_takesE_187, sX8_takesE_147, sX8_takesE_73, sX8_takesE_186 (st := []), sX8_takesE_188, sX8_takesE_148, sX8_takesE_74, sX8_takesE_190, sX8_takesE_149, sX8_takesE_75, sX8_takesE_193, sX8_takesE_195, sX8_takesE_150, sX8_takesE_78, sX8_takesE_194 (st := []), sX8_takesE_196, sX8_takesE_151, sX8_takesE_79, sX8_takesE_197, sX8_takesE_154, sX8_takesE_80, sX8_takesE_200, sX8_takesE_155, sX8_takesE_83, sX8_takesE_201, sX8_takesE_156, sX8_takesE_84, sX8_takesE_202, sX8_takesE_159, sX8_takesE_85, sX8_takesE_205, sX8_takesE_88, sX8_takesE_206, sX8_takesE_89, sX8_takesE_207, sX8_takesE_90, sX8_takesE_210, sX8_takesE_93, sX8_takesE_211, sX8_takesE_212, sX8_takesE_215, sX8_takesE_216, sX8_takesE_217, sX8_takesE_220, sX8_takesE_221, sX8_takesE_222, sX8_takesE_225, sX8_takesE_226 (st := []), sX8_takesE_229, inb, nz_3, nz_4, nz_6, nz_8, nz_10, nz_100, nz_300, pushr_s, pushr_n, rv_s, rv_n, kd_sI, kd_sR, kd_sJ, sz_sI, sz_sR, sz_sJ, aR_sI, aJ_sI, aI_sR, aI_sJ, not_false_eq_true, true_and, and_true, true_or, or_true, or_false, false_or, eq_self, ite_true, ite_false, if_true, if_false, kd_pS, mk_67 h.lay, n1, bi_t, nz_1, z, show ((40 : Int32) = 33) = False from eq_false (by decide +kernel), pS_25, mk_o, e4]
      · rw [if_neg ho]
        have ob := opn_le L
        have e4 : (nI (opn L) = 4) = False := eq_false (fun z => ho ((nI_eq (b := 4) (by omega) (by decide)).mp z))
        have kc : (nI L.length).toNatClampNeg = L.length := nI_clamp (by omega)
        have k1 : ¬ (nI L.length < 0 ∨ 101 ≤ L.length) := inN (by omega) (by omega)
        have ih := m_loopE (d := d) hz hc h n true (p + 1) g (nx t p :: L) T (upd W L.length (nx t p)) s0 (.int (nx t p)) (by omega) (by omega) ⟨pk_us, hS.up (Nat.le_refl _)⟩ ⟨by rcases hb with z | z; exact Or.inl z; exact Or.inr (Or.inl z), hX⟩ (by show T.length + (L.length + 1) + z0 ≤ p + 1; omega) hn
        refine ih.eq fun Q => ?_
        rw [sX8_takesE_22, ← mk_push1 hb]
        rcases hb with z | z
        · simp only [sX8_takesE_0, sX8_takesE_1, sX8_takesE_2, sX8_takesE_5, sX8_takesE_6, sX8_takesE_7, sX8_takesE_10, sX8_takesE_11, sX8_takesE_14, sX8_takesE_15, sX8_takesE_16, sX8_takesE_19, sX8_takesE_20, sX8_takesE_21, sX8_takesE_23 (st := []), sX8_takesE_26, sX8_takesE_27, sX8_takesE_28, sX8_takesE_31, sX8_takesE_110, sX8_takesE_32, sX8_takesE_111, sX8_takesE_34, sX8_takesE_113, sX8_takesE_37, sX8_takesE_43, sX8_takesE_116, sX8_takesE_122, sX8_takesE_38, sX8_takesE_44, sX8_takesE_117, sX8_takesE_123, sX8_takesE_40, sX8_takesE_47, sX8_takesE_119, sX8_takesE_124 (st := []), sX8_takesE_96, sX8_takesE_48, sX8_takesE_162, sX8_takesE_127, sX8_takesE_97 (st := []), sX8_takesE_51, sX8_takesE_53, sX8_takesE_163, sX8_takesE_128, sX8_takesE_100, sX8_takesE_52 (st := []), sX8_takesE_54, sX8_takesE_165 (st := []), sX8_takesE_131, sX8_takesE_103, sX8_takesE_108, sX8_takesE_55, sX8_takesE_168, sX8_takesE_132, sX8_takesE_104, sX8_takesE_109 (st := []), sX8_takesE_58, sX8_takesE_169, sX8_takesE_135, sX8_takesE_105, sX8_takesE_59, sX8_takesE_172, sX8_takesE_136, sX8_takesE_60, sX8_takesE_173, sX8_takesE_137, sX8_takesE_63, sX8_takesE_174, sX8_takesE_138, sX8_takesE_64, sX8_takesE_177, sX8_takesE_139, sX8_takesE_67, sX8_takesE_178, sX8_takesE_142, sX8_takesE_68, sX8_takesE_179, sX8_takesE_143, sX8_takesE_71, sX8_takesE_182, sX8_takesE_144, sX8_takesE_72, sX8_takesE_185, sX8_takesE_187, sX8_takesE_147, sX8_takesE_73, sX8_takesE_186 (st := []), sX8_takesE_188, sX8_takesE_148, sX8_takesE_74, sX8_takesE_190, sX8_takesE_149, sX8_takesE_75, sX8_takesE_193, sX8_takesE_195, sX8_takesE_150, sX8_takesE_78, sX8_takesE_194 (st := []), sX8_takesE_196, sX8_takesE_151, sX8_takesE_79, sX8_takesE_197, sX8_takesE_154, sX8_takesE_80, sX8_takesE_200, sX8_takesE_155, sX8_takesE_83, sX8_takesE_201, sX8_takesE_156, sX8_takesE_84, sX8_takesE_202, sX8_takesE_159, sX8_takesE_85, sX8_takesE_205, sX8_takesE_88, sX8_takesE_206, sX8_takesE_89, sX8_takesE_207, sX8_takesE_90, sX8_takesE_210, sX8_takesE_93, sX8_takesE_211, sX8_takesE_212, sX8_takesE_215, sX8_takesE_216, sX8_takesE_217, sX8_takesE_220, sX8_takesE_221, sX8_takesE_222, sX8_takesE_225, sX8_takesE_226 (st := []), sX8_takesE_229, inb, nz_3, nz_4, nz_6, nz_8, nz_10, nz_100, nz_300, pushr_s, pushr_n, rv_s, rv_n, kd_sI, kd_sR, kd_sJ, sz_sI, sz_sR, sz_sJ, aR_sI, aJ_sI, aI_sR, aI_sJ, not_false_eq_true, true_and, and_true, true_or, or_true, or_false, false_or, eq_self, ite_true, ite_false, if_true, if_false, kd_pS, sz_pS, aR_pS, mk_67 h.lay, mr_19 h.lay, mk_77 h.lay, mz_77 h.lay, mr_22 h.lay, mk_80 h.lay, mz_80 h.lay, mr_20 h.lay, mk_78 h.lay, mz_78 h.lay, n1, bi_t, nz_1, z, pS_13, pS_24, pS_25, mk_o, mk_k, mk_p, mk_W, e4, nI_1, kc, k1, pSw_o, pSw_k, pSw_W, pSw_p, MS.p_setp, MS.p_setk, MS.p_seto, MS.p_setW, MS.k_setp, MS.k_setk, MS.k_seto, MS.k_setW, MS.o_setp, MS.o_setk, MS.o_seto, MS.o_setW, MS.W_setp, MS.W_setk, MS.W_seto, MS.W_setW]
        · simp only [sX8_takesE_0, sX8_takesE_1, sX8_takesE_2, sX8_takesE_5, sX8_takesE_6, sX8_takesE_7, sX8_takesE_10, sX8_takesE_11, sX8_takesE_14, sX8_takesE_15, sX8_takesE_16, sX8_takesE_19, sX8_takesE_20, sX8_takesE_21, sX8_takesE_23 (st := []), sX8_takesE_26, sX8_takesE_27, sX8_takesE_28, sX8_takesE_31, sX8_takesE_110, sX8_takesE_32, sX8_takesE_111, sX8_takesE_34, sX8_takesE_113, sX8_takesE_37, sX8_takesE_43, sX8_takesE_116, sX8_takesE_122, sX8_takesE_38, sX8_takesE_44, sX8_takesE_117, sX8_takesE_123, sX8_takesE_40, sX8_takesE_47, sX8_takesE_119, sX8_takesE_124 (st := []), sX8_takesE_96, sX8_takesE_48, sX8_takesE_162, sX8_takesE_127, sX8_takesE_97 (st := []), sX8_takesE_51, sX8_takesE_53, sX8_takesE_163, sX8_takesE_128, sX8_takesE_100, sX8_takesE_52 (st := []), sX8_takesE_54, sX8_takesE_165 (st := []), sX8_takesE_131, sX8_takesE_103, sX8_takesE_108, sX8_takesE_55, sX8_takesE_168, sX8_takesE_132, sX8_takesE_104, sX8_takesE_109 (st := []), sX8_takesE_58, sX8_takesE_169, sX8_takesE_135, sX8_takesE_105, sX8_takesE_59, sX8_takesE_172, sX8_takesE_136, sX8_takesE_60, sX8_takesE_173, sX8_takesE_137, sX8_takesE_63, sX8_takesE_174, sX8_takesE_138, sX8_takesE_64, sX8_takesE_177, sX8_takesE_139, sX8_takesE_67, sX8_takesE_178, sX8_takesE_142, sX8_takesE_68, sX8_takesE_179, sX8_takesE_143, sX8_takesE_71, sX8_takesE_182, sX8_takesE_144, sX8_takesE_72, sX8_takesE_185, sX8_takesE_187, sX8_takesE_147, sX8_takesE_73, sX8_takesE_186 (st := []), sX8_takesE_188, sX8_takesE_148, sX8_takesE_74, sX8_takesE_190, sX8_takesE_149, sX8_takesE_75, sX8_takesE_193, sX8_takesE_195, sX8_takesE_150, sX8_takesE_78, sX8_takesE_194 (st := []), sX8_takesE_196, sX8_takesE_151, sX8_takesE_79, sX8_takesE_197, sX8_takesE_154, sX8_takesE_80, sX8_takesE_200, sX8_takesE_155, sX8_takesE_83, sX8_takesE_201, sX8_takesE_156, sX8_takesE_84, sX8_takesE_202, sX8_takesE_159, sX8_takesE_85, sX8_takesE_205, sX8_takesE_88, sX8_takesE_206, sX8_takesE_89, sX8_takesE_207, sX8_takesE_90, sX8_takesE_210, sX8_takesE_93, sX8_takesE_211, sX8_takesE_212, sX8_takesE_215, sX8_takesE_216, sX8_takesE_217, sX8_takesE_220, sX8_takesE_221, sX8_takesE_222, sX8_takesE_225, sX8_takesE_226 (st := []), sX8_takesE_229, inb, nz_3, nz_4, nz_6, nz_8, nz_10, nz_100, nz_300, pushr_s, pushr_n, rv_s, rv_n, kd_sI, kd_sR, kd_sJ, sz_sI, sz_sR, sz_sJ, aR_sI, aJ_sI, aI_sR, aI_sJ, not_false_eq_true, true_and, and_true, true_or, or_true, or_false, false_or, eq_self, ite_true, ite_false, if_true, if_false, kd_pS, sz_pS, aR_pS, mk_67 h.lay, mr_19 h.lay, mk_77 h.lay, mz_77 h.lay, mr_22 h.lay, mk_80 h.lay, mz_80 h.lay, mr_20 h.lay, mk_78 h.lay, mz_78 h.lay, n1, bi_t, nz_1, z, show ((40 : Int32) = 33) = False from eq_false (by decide +kernel), pS_13, pS_24, pS_25, mk_o, mk_k, mk_p, mk_W, e4, nI_1, kc, k1, pSw_o, pSw_k, pSw_W, pSw_p, MS.p_setp, MS.p_setk, MS.p_seto, MS.p_setW, MS.k_setp, MS.k_setk, MS.k_seto, MS.k_setW, MS.o_setp, MS.o_setk, MS.o_seto, MS.o_setW, MS.W_setp, MS.W_setk, MS.W_seto, MS.W_setW]
    · rw [if_neg hb]
      have b1 : (nx t p = 33) = False := eq_false (fun z => hb (Or.inl z))
      have b2 : (nx t p = 40) = False := eq_false (fun z => hb (Or.inr z))
      have mt := m_test (S := S) (d := d) (s0 := s0) (p := p) (g := g) (L := L) (W := W) (T := T) h h2 hS (by omega) (by omega)
      rcases ht : tstP t p with ⟨q, _ | x⟩
      · have ht2 := mt.2 q ht
        refine EndE.none (tst_p h2 ht) (mk_p s0 q g L W T) (mk_ag s0 c q g L W T) (fun Q => ?_)
        rw [sX8_takesE_22]
        simp only [sX8_takesE_0, sX8_takesE_1, sX8_takesE_2, sX8_takesE_5, sX8_takesE_6, sX8_takesE_7, sX8_takesE_10, sX8_takesE_11, sX8_takesE_14, sX8_takesE_15, sX8_takesE_16, sX8_takesE_19, sX8_takesE_20, sX8_takesE_21, sX8_takesE_23 (st := []), sX8_takesE_26, sX8_takesE_27, sX8_takesE_28, sX8_takesE_31, sX8_takesE_110, sX8_takesE_32, sX8_takesE_111, sX8_takesE_34, sX8_takesE_113, sX8_takesE_37, sX8_takesE_43, sX8_takesE_116, sX8_takesE_122, sX8_takesE_38, sX8_takesE_44, sX8_takesE_117, sX8_takesE_123, sX8_takesE_40, sX8_takesE_47, sX8_takesE_119, sX8_takesE_124 (st := []), sX8_takesE_96, sX8_takesE_48, sX8_takesE_162, sX8_takesE_127, sX8_takesE_97 (st := []), sX8_takesE_51, sX8_takesE_53, sX8_takesE_163, sX8_takesE_128, sX8_takesE_100, sX8_takesE_52 (st := []), sX8_takesE_54, sX8_takesE_165 (st := []), sX8_takesE_131, sX8_takesE_103, sX8_takesE_108, sX8_takesE_55, sX8_takesE_168, sX8_takesE_132, sX8_takesE_104, sX8_takesE_109 (st := []), sX8_takesE_58, sX8_takesE_169, sX8_takesE_135, sX8_takesE_105, sX8_takesE_59, sX8_takesE_172, sX8_takesE_136, sX8_takesE_60, sX8_takesE_173, sX8_takesE_137, sX8_takesE_63, sX8_takesE_174, sX8_takesE_138, sX8_takesE_64, sX8_takesE_177, sX8_takesE_139, sX8_takesE_67, sX8_takesE_178, sX8_takesE_142, sX8_takesE_68, sX8_takesE_179, sX8_takesE_143, sX8_takesE_71, sX8_takesE_182, sX8_takesE_144, sX8_takesE_72, sX8_takesE_185, sX8_takesE_187, sX8_takesE_147, sX8_takesE_73, sX8_takesE_186 (st := []), sX8_takesE_188, sX8_takesE_148, sX8_takesE_74, sX8_takesE_190, sX8_takesE_149, sX8_takesE_75, sX8_takesE_193, sX8_takesE_195, sX8_takesE_150, sX8_takesE_78, sX8_takesE_194 (st := []), sX8_takesE_196, sX8_takesE_151, sX8_takesE_79, sX8_takesE_197, sX8_takesE_154, sX8_takesE_80, sX8_takesE_200, sX8_takesE_155, sX8_takesE_83, sX8_takesE_201, sX8_takesE_156, sX8_takesE_84, sX8_takesE_202, sX8_takesE_159, sX8_takesE_85, sX8_takesE_205, sX8_takesE_88, sX8_takesE_206, sX8_takesE_89, sX8_takesE_207, sX8_takesE_90, sX8_takesE_210, sX8_takesE_93, sX8_takesE_211, sX8_takesE_212, sX8_takesE_215, sX8_takesE_216, sX8_takesE_217, sX8_takesE_220, sX8_takesE_221, sX8_takesE_222, sX8_takesE_225, sX8_takesE_226 (st := []), sX8_takesE_229, inb, nz_3, nz_4, nz_6, nz_8, nz_10, nz_100, nz_300, pushr_s, pushr_n, rv_s, rv_n, kd_sI, kd_sR, kd_sJ, sz_sI, sz_sR, sz_sJ, aR_sI, aJ_sI, aI_sR, aI_sJ, not_false_eq_true, true_and, and_true, true_or, or_true, or_false, false_or, eq_self, ite_true, ite_false, if_true, if_false, kd_pS, mk_67 h.lay, n1, bi_t, nz_1, b1, b2, ht2]
      · obtain ⟨x1, x2, x3⟩ := tstP_ok ht
        dsimp only
        have wl := whole_len L (T ++ [x])
        have wl2 : (wholeP L (T ++ [x])).1.length + (wholeP L (T ++ [x])).2.length = L.length + (T.length + 1) := by rw [wl.1, List.length_append]; rfl
        have gex : ∃ g', ∀ Q, Wp S (d + 3) 148 0 [.ref 67, hole, hole] [] (pS H (mk s0 p g L W T)) Q = Q (some (.int 1)) (pS H (mk s0 q g' (wholeP L (T ++ [x])).1 W (wholeP L (T ++ [x])).2)) := mt.1 q x ht
        obtain ⟨g', hg⟩ := gex
        have ih := m_loopE (d := d) hz hc h n false q g' (wholeP L (T ++ [x])).1 (wholeP L (T ++ [x])).2 W s0 (.int (nx t p)) (by omega) x3 (whole_stk L _ hS) (whole_x L _ hX) (by omega) hn
        refine ih.eq fun Q => ?_
        rw [sX8_takesE_22]
        simp only [sX8_takesE_0, sX8_takesE_1, sX8_takesE_2, sX8_takesE_5, sX8_takesE_6, sX8_takesE_7, sX8_takesE_10, sX8_takesE_11, sX8_takesE_14, sX8_takesE_15, sX8_takesE_16, sX8_takesE_19, sX8_takesE_20, sX8_takesE_21, sX8_takesE_23 (st := []), sX8_takesE_26, sX8_takesE_27, sX8_takesE_28, sX8_takesE_31, sX8_takesE_110, sX8_takesE_32, sX8_takesE_111, sX8_takesE_34, sX8_takesE_113, sX8_takesE_37, sX8_takesE_43, sX8_takesE_116, sX8_takesE_122, sX8_takesE_38, sX8_takesE_44, sX8_takesE_117, sX8_takesE_123, sX8_takesE_40, sX8_takesE_47, sX8_takesE_119, sX8_takesE_124 (st := []), sX8_takesE_96, sX8_takesE_48, sX8_takesE_162, sX8_takesE_127, sX8_takesE_97 (st := []), sX8_takesE_51, sX8_takesE_53, sX8_takesE_163, sX8_takesE_128, sX8_takesE_100, sX8_takesE_52 (st := []), sX8_takesE_54, sX8_takesE_165 (st := []), sX8_takesE_131, sX8_takesE_103, sX8_takesE_108, sX8_takesE_55, sX8_takesE_168, sX8_takesE_132, sX8_takesE_104, sX8_takesE_109 (st := []), sX8_takesE_58, sX8_takesE_169, sX8_takesE_135, sX8_takesE_105, sX8_takesE_59, sX8_takesE_172, sX8_takesE_136, sX8_takesE_60, sX8_takesE_173, sX8_takesE_137, sX8_takesE_63, sX8_takesE_174, sX8_takesE_138, sX8_takesE_64, sX8_takesE_177, sX8_takesE_139, sX8_takesE_67, sX8_takesE_178, sX8_takesE_142, sX8_takesE_68, sX8_takesE_179, sX8_takesE_143, sX8_takesE_71, sX8_takesE_182, sX8_takesE_144, sX8_takesE_72, sX8_takesE_185, sX8_takesE_187, sX8_takesE_147, sX8_takesE_73, sX8_takesE_186 (st := []), sX8_takesE_188, sX8_takesE_148, sX8_takesE_74, sX8_takesE_190, sX8_takesE_149, sX8_takesE_75, sX8_takesE_193, sX8_takesE_195, sX8_takesE_150, sX8_takesE_78, sX8_takesE_194 (st := []), sX8_takesE_196, sX8_takesE_151, sX8_takesE_79, sX8_takesE_197, sX8_takesE_154, sX8_takesE_80, sX8_takesE_200, sX8_takesE_155, sX8_takesE_83, sX8_takesE_201, sX8_takesE_156, sX8_takesE_84, sX8_takesE_202, sX8_takesE_159, sX8_takesE_85, sX8_takesE_205, sX8_takesE_88, sX8_takesE_206, sX8_takesE_89, sX8_takesE_207, sX8_takesE_90, sX8_takesE_210, sX8_takesE_93, sX8_takesE_211, sX8_takesE_212, sX8_takesE_215, sX8_takesE_216, sX8_takesE_217, sX8_takesE_220, sX8_takesE_221, sX8_takesE_222, sX8_takesE_225, sX8_takesE_226 (st := []), sX8_takesE_229, inb, nz_3, nz_4, nz_6, nz_8, nz_10, nz_100, nz_300, pushr_s, pushr_n, rv_s, rv_n, kd_sI, kd_sR, kd_sJ, sz_sI, sz_sR, sz_sJ, aR_sI, aJ_sI, aI_sR, aI_sJ, not_false_eq_true, true_and, and_true, true_or, or_true, or_false, false_or, eq_self, ite_true, ite_false, if_true, if_false, kd_pS, mk_67 h.lay, n1, bi_t, nz_1, b1, b2, hg]
        rfl
  | n + 1, false, p, g, L, T, W, s0, l3, h1, h2, hS, hX, hl, hn => by
    have hlen := h.len
    have n1 := fun Q => m_next (S := S) (d := d + 3) (Q := Q) (s := mk s0 p g L W T) h h2
    rw [mk_p] at n1
    have m1 : ((38 : Int32) = 124) = False := eq_false (by decide +kernel)
    have m2 : ((124 : Int32) = 38) = False := eq_false (by decide +kernel)
    rw [runE]
    by_cases hb : nx t p = 38 ∨ nx t p = 124
    · rw [if_pos hb]
      have hlt := nx_lt (t := t) (p := p) (by rcases hb with z | z <;> rw [z] <;> decide +kernel)
      have hs := fun Q => m_settle (S := S) (d := d + 2) (Q := Q) (s0 := s0) (p := p) (g := g) (y := nx t p) h L T hS (by omega) (by omega)
      obtain ⟨l1, l2, l4⟩ := settle_len (nx t p) L T
      have s1 := settle_stk (nx t p) L T hS
      have x1 := settle_x2 (nx t p) L T hX
      generalize hL1 : (settleP (nx t p) L T).1 = L1 at hs l1 l2 l4 s1 x1 ⊢
      generalize hT1 : (settleP (nx t p) L T).2 = T1 at hs l1 l2 l4 s1 x1 ⊢
      have kc : (nI L1.length).toNatClampNeg = L1.length := nI_clamp (by omega)
      have k1 : ¬ (nI L1.length < 0 ∨ 101 ≤ L1.length) := inN (by omega) (by omega)
      have ih := m_loopE (d := d) hz hc h n true (p + 1) g (nx t p :: L1) T1 (upd W L1.length (nx t p)) s0 (.int (nx t p)) (by omega) (by omega) ⟨pk_us, s1.up (Nat.le_refl _)⟩ ⟨Or.inr (Or.inr hb), x1⟩ (by show T1.length + (L1.length + 1) + z0 ≤ p + 1; omega) hn
      refine ih.eq fun Q => ?_
      rw [sX8_takesE_22, ← mk_push2 hb]
      rcases hb with z | z
      · rw [z] at hs
        simp only [sX8_takesE_0, sX8_takesE_1, sX8_takesE_2, sX8_takesE_5, sX8_takesE_6, sX8_takesE_7, sX8_takesE_10, sX8_takesE_11, sX8_takesE_14, sX8_takesE_15, sX8_takesE_16, sX8_takesE_19, sX8_takesE_20, sX8_takesE_21, sX8_takesE_23 (st := []), sX8_takesE_26, sX8_takesE_27, sX8_takesE_28, sX8_takesE_31, sX8_takesE_110, sX8_takesE_32, sX8_takesE_111, sX8_takesE_34, sX8_takesE_113, sX8_takesE_37, sX8_takesE_43, sX8_takesE_116, sX8_takesE_122, sX8_takesE_38, sX8_takesE_44, sX8_takesE_117, sX8_takesE_123, sX8_takesE_40, sX8_takesE_47, sX8_takesE_119, sX8_takesE_124 (st := []), sX8_takesE_96, sX8_takesE_48, sX8_takesE_162, sX8_takesE_127, sX8_takesE_97 (st := []), sX8_takesE_51, sX8_takesE_53, sX8_takesE_163, sX8_takesE_128, sX8_takesE_100, sX8_takesE_52 (st := []), sX8_takesE_54, sX8_takesE_165 (st := []), sX8_takesE_131, sX8_takesE_103, sX8_takesE_108, sX8_takesE_55, sX8_takesE_168, sX8_takesE_132, sX8_takesE_104, sX8_takesE_109 (st := []), sX8_takesE_58, sX8_takesE_169, sX8_takesE_135, sX8_takesE_105, sX8_takesE_59, sX8_takesE_172, sX8_takesE_136, sX8_takesE_60, sX8_takesE_173, sX8_takesE_137, sX8_takesE_63, sX8_takesE_174, sX8_takesE_138, sX8_takesE_64, sX8_takesE_177, sX8_takesE_139, sX8_takesE_67, sX8_takesE_178, sX8_takesE_142, sX8_takesE_68, sX8_takesE_179, sX8_takesE_143, sX8_takesE_71, sX8_takesE_182, sX8_takesE_144, sX8_takesE_72, sX8_takesE_185, sX8_takesE_187, sX8_takesE_147, sX8_takesE_73, sX8_takesE_186 (st := []), sX8_takesE_188, sX8_takesE_148, sX8_takesE_74, sX8_takesE_190, sX8_takesE_149, sX8_takesE_75, sX8_takesE_193, sX8_takesE_195, sX8_takesE_150, sX8_takesE_78, sX8_takesE_194 (st := []), sX8_takesE_196, sX8_takesE_151, sX8_takesE_79, sX8_takesE_197, sX8_takesE_154, sX8_takesE_80, sX8_takesE_200, sX8_takesE_155, sX8_takesE_83, sX8_takesE_201, sX8_takesE_156, sX8_takesE_84, sX8_takesE_202, sX8_takesE_159, sX8_takesE_85, sX8_takesE_205, sX8_takesE_88, sX8_takesE_206, sX8_takesE_89, sX8_takesE_207, sX8_takesE_90, sX8_takesE_210, sX8_takesE_93, sX8_takesE_211, sX8_takesE_212, sX8_takesE_215, sX8_takesE_216, sX8_takesE_217, sX8_takesE_220, sX8_takesE_221, sX8_takesE_222, sX8_takesE_225, sX8_takesE_226 (st := []), sX8_takesE_229, inb, nz_3, nz_4, nz_6, nz_8, nz_10, nz_100, nz_300, pushr_s, pushr_n, rv_s, rv_n, kd_sI, kd_sR, kd_sJ, sz_sI, sz_sR, sz_sJ, aR_sI, aJ_sI, aI_sR, aI_sJ, not_false_eq_true, true_and, and_true, true_or, or_true, or_false, false_or, eq_self, ite_true, ite_false, if_true, if_false, kd_pS, sz_pS, aR_pS, mk_67 h.lay, mr_19 h.lay, mk_77 h.lay, mz_77 h.lay, mr_22 h.lay, mk_80 h.lay, mz_80 h.lay, mr_20 h.lay, mk_78 h.lay, mz_78 h.lay, n1, bi_f, bi_t, z, hs, pS_13, pS_24, mk_k, mk_p, mk_W, nI_1, kc, k1, pSw_k, pSw_W, pSw_p, MS.p_setp, MS.p_setk, MS.p_seto, MS.p_setW, MS.k_setp, MS.k_setk, MS.k_seto, MS.k_setW, MS.o_setp, MS.o_setk, MS.o_seto, MS.o_setW, MS.W_setp, MS.W_setk, MS.W_seto, MS.W_setW]
      · rw [z] at hs
        simp only [sX8_takesE_0, sX8_takesE_1, sX8_takesE_2, sX8_takesE_5, sX8_takesE_6, sX8_takesE_7, sX8_takesE_10, sX8_takesE_11, sX8_takesE_14, sX8_takesE_15, sX8_takesE_16, sX8_takesE_19, sX8_takesE_20, sX8_takesE_21, sX8_takesE_23 (st := []), sX8_takesE_26, sX8_takesE_27, sX8_takesE_28, sX8_takesE_31, sX8_takesE_110, sX8_takesE_32, sX8_takesE_111, sX8_takesE_34, sX8_takesE_113, sX8_takesE_37, sX8_takesE_43, sX8_takesE_116, sX8_takesE_122, sX8_takesE_38, sX8_takesE_44, sX8_takesE_117, sX8_takesE_123, sX8_takesE_40, sX8_takesE_47, sX8_takesE_119, sX8_takesE_124 (st := []), sX8_takesE_96, sX8_takesE_48, sX8_takesE_162, sX8_takesE_127, sX8_takesE_97 (st := []), sX8_takesE_51, sX8_takesE_53, sX8_takesE_163, sX8_takesE_128, sX8_takesE_100, sX8_takesE_52 (st := []), sX8_takesE_54, sX8_takesE_165 (st := []), sX8_takesE_131, sX8_takesE_103, sX8_takesE_108, sX8_takesE_55, sX8_takesE_168, sX8_takesE_132, sX8_takesE_104, sX8_takesE_109 (st := []), sX8_takesE_58, sX8_takesE_169, sX8_takesE_135, sX8_takesE_105, sX8_takesE_59, sX8_takesE_172, sX8_takesE_136, sX8_takesE_60, sX8_takesE_173, sX8_takesE_137, sX8_takesE_63, sX8_takesE_174, sX8_takesE_138, sX8_takesE_64, sX8_takesE_177, sX8_takesE_139, sX8_takesE_67, sX8_takesE_178, sX8_takesE_142, sX8_takesE_68, sX8_takesE_179, sX8_takesE_143, sX8_takesE_71, sX8_takesE_182, sX8_takesE_144, sX8_takesE_72, sX8_takesE_185, sX8_takesE_187, sX8_takesE_147, sX8_takesE_73, sX8_takesE_186 (st := []), sX8_takesE_188, sX8_takesE_148, sX8_takesE_74, sX8_takesE_190, sX8_takesE_149, sX8_takesE_75, sX8_takesE_193, sX8_takesE_195, sX8_takesE_150, sX8_takesE_78, sX8_takesE_194 (st := []), sX8_takesE_196, sX8_takesE_151, sX8_takesE_79, sX8_takesE_197, sX8_takesE_154, sX8_takesE_80, sX8_takesE_200, sX8_takesE_155, sX8_takesE_83, sX8_takesE_201, sX8_takesE_156, sX8_takesE_84, sX8_takesE_202, sX8_takesE_159, sX8_takesE_85, sX8_takesE_205, sX8_takesE_88, sX8_takesE_206, sX8_takesE_89, sX8_takesE_207, sX8_takesE_90, sX8_takesE_210, sX8_takesE_93, sX8_takesE_211, sX8_takesE_212, sX8_takesE_215, sX8_takesE_216, sX8_takesE_217, sX8_takesE_220, sX8_takesE_221, sX8_takesE_222, sX8_takesE_225, sX8_takesE_226 (st := []), sX8_takesE_229, inb, nz_3, nz_4, nz_6, nz_8, nz_10, nz_100, nz_300, pushr_s, pushr_n, rv_s, rv_n, kd_sI, kd_sR, kd_sJ, sz_sI, sz_sR, sz_sJ, aR_sI, aJ_sI, aI_sR, aI_sJ, not_false_eq_true, true_and, and_true, true_or, or_true, or_false, false_or, eq_self, ite_true, ite_false, if_true, if_false, kd_pS, sz_pS, aR_pS, mk_67 h.lay, mr_19 h.lay, mk_77 h.lay, mz_77 h.lay, mr_22 h.lay, mk_80 h.lay, mz_80 h.lay, mr_20 h.lay, mk_78 h.lay, mz_78 h.lay, n1, bi_f, bi_t, z, m2, hs, pS_13, pS_24, mk_k, mk_p, mk_W, nI_1, kc, k1, pSw_k, pSw_W, pSw_p, MS.p_setp, MS.p_setk, MS.p_seto, MS.p_setW, MS.k_setp, MS.k_setk, MS.k_seto, MS.k_setW, MS.o_setp, MS.o_setk, MS.o_seto, MS.o_setW, MS.W_setp, MS.W_setk, MS.W_seto, MS.W_setW]
    · rw [if_neg hb]
      have b1 : (nx t p = 38) = False := eq_false (fun z => hb (Or.inl z))
      have b2 : (nx t p = 124) = False := eq_false (fun z => hb (Or.inr z))
      have hs := fun Q => m_settle (S := S) (d := d + 2) (Q := Q) (s0 := s0) (p := p) (g := g) (y := 124) h L T hS (by omega) (by omega)
      obtain ⟨l1, l2, l4⟩ := settle_len 124 L T
      have s1 := settle_stk 124 L T hS
      have x1 := settle_x 124 (by decide +kernel) L T hX
      generalize hL1 : (settleP 124 L T).1 = L1 at hs l1 l2 l4 s1 x1 ⊢
      generalize hT1 : (settleP 124 L T).2 = T1 at hs l1 l2 l4 s1 x1 ⊢
      have cc : (nI c).toNatClampNeg = c := nI_clamp (by omega)
      have c1 : ¬ (nI c < 0 ∨ 60 ≤ c) := inN hc (by omega)
      cases L1 with
      | nil =>
        rw [if_pos (show ([] : List Int32).isEmpty = true from rfl)]
        refine ⟨fun T' hT => ?_, fun hT => (by cases hT)⟩
        obtain rfl : T1 = T' := Option.some.inj hT
        refine ⟨⟨h2, by have : 0 + T1.length = L.length + T.length := l1; omega⟩, g, W, fun Q => ?_⟩
        have k0 : (nI ([] : List Int32).length = 0) = True := eq_true rfl
        rw [sX8_takesE_22, ← mk_setto]
        simp only [sX8_takesE_0, sX8_takesE_1, sX8_takesE_2, sX8_takesE_5, sX8_takesE_6, sX8_takesE_7, sX8_takesE_10, sX8_takesE_11, sX8_takesE_14, sX8_takesE_15, sX8_takesE_16, sX8_takesE_19, sX8_takesE_20, sX8_takesE_21, sX8_takesE_23 (st := []), sX8_takesE_26, sX8_takesE_27, sX8_takesE_28, sX8_takesE_31, sX8_takesE_110, sX8_takesE_32, sX8_takesE_111, sX8_takesE_34, sX8_takesE_113, sX8_takesE_37, sX8_takesE_43, sX8_takesE_116, sX8_takesE_122, sX8_takesE_38, sX8_takesE_44, sX8_takesE_117, sX8_takesE_123, sX8_takesE_40, sX8_takesE_47, sX8_takesE_119, sX8_takesE_124 (st := []), sX8_takesE_96, sX8_takesE_48, sX8_takesE_162, sX8_takesE_127, sX8_takesE_97 (st := []), sX8_takesE_51, sX8_takesE_53, sX8_takesE_163, sX8_takesE_128, sX8_takesE_100, sX8_takesE_52 (st := []), sX8_takesE_54, sX8_takesE_165 (st := []), sX8_takesE_131, sX8_takesE_103, sX8_takesE_108, sX8_takesE_55, sX8_takesE_168, sX8_takesE_132, sX8_takesE_104, sX8_takesE_109 (st := []), sX8_takesE_58, sX8_takesE_169, sX8_takesE_135, sX8_takesE_105, sX8_takesE_59, sX8_takesE_172, sX8_takesE_136, sX8_takesE_60, sX8_takesE_173, sX8_takesE_137, sX8_takesE_63, sX8_takesE_174, sX8_takesE_138, sX8_takesE_64, sX8_takesE_177, sX8_takesE_139, sX8_takesE_67, sX8_takesE_178, sX8_takesE_142, sX8_takesE_68, sX8_takesE_179, sX8_takesE_143, sX8_takesE_71, sX8_takesE_182, sX8_takesE_144, sX8_takesE_72, sX8_takesE_185, sX8_takesE_187, sX8_takesE_147, sX8_takesE_73, sX8_takesE_186 (st := []), sX8_takesE_188, sX8_takesE_148, sX8_takesE_74, sX8_takesE_190, sX8_takesE_149, sX8_takesE_75, sX8_takesE_193, sX8_takesE_195, sX8_takesE_150, sX8_takesE_78, sX8_takesE_194 (st := []), sX8_takesE_196, sX8_takesE_151, sX8_takesE_79, sX8_takesE_197, sX8_takesE_154, sX8_takesE_80, sX8_takesE_200, sX8_takesE_155, sX8_takesE_83, sX8_takesE_201, sX8_takesE_156, sX8_takesE_84, sX8_takesE_202, sX8_takesE_159, sX8_takesE_85, sX8_takesE_205, sX8_takesE_88, sX8_takesE_206, sX8_takesE_89, sX8_takesE_207, sX8_takesE_90, sX8_takesE_210, sX8_takesE_93, sX8_takesE_211, sX8_takesE_212, sX8_takesE_215, sX8_takesE_216, sX8_takesE_217, sX8_takesE_220, sX8_takesE_221, sX8_takesE_222, sX8_takesE_225, sX8_takesE_226 (st := []), sX8_takesE_229, inb, nz_3, nz_4, nz_6, nz_8, nz_10, nz_100, nz_300, pushr_s, pushr_n, rv_s, rv_n, kd_sI, kd_sR, kd_sJ, sz_sI, sz_sR, sz_sJ, aR_sI, aJ_sI, aI_sR, aI_sJ, not_false_eq_true, true_and, and_true, true_or, or_true, or_false, false_or, eq_self, ite_true, ite_false, if_true, if_false, kd_pS, sz_pS, aR_pS, mk_67 h.lay, mr_19 h.lay, mk_77 h.lay, mz_77 h.lay, mr_22 h.lay, mk_80 h.lay, mz_80 h.lay, mr_20 h.lay, mk_78 h.lay, mz_78 h.lay, n1, bi_f, b1, b2, hs, pS_23, pS_24, mk_n, mk_k, mk_to, cc, c1, pSw_to, MS.k_setk, MS.k_setto, MS.to_setk, MS.to_setto, k0]
      | cons x L1 =>
        rw [if_neg (show ¬ (x :: L1).isEmpty = true by show ¬ false = true; decide)]
        have l1 : L1.length + 1 + T1.length = L.length + T.length := l1
        have k0 : (nI (x :: L1).length = 0) = False := eq_false (nI_ne0 (Nat.succ_pos _) (by show L1.length + 1 < _; omega))
        by_cases h41 : nx t p = 41
        · rw [if_pos h41]
          have hlt := nx_lt (t := t) (p := p) (by rw [h41]; decide +kernel)
          have hx := x1.2 x L1 rfl
          have wl := whole_len L1 T1
          have hw := fun Q => m_whole (S := S) (d := d + 2) (Q := Q) (s0 := s0.setto (upd s0.to c (nI (s0.n + T1.length)))) (p := p + 1) (g := g) h L1 T1 s1.2 (by show s0.n + T1.length + L1.length ≤ 600; omega) (by omega)
          have ih := m_loopE (d := d) hz hc h n false (p + 1) g (wholeP L1 T1).1 (wholeP L1 T1).2 W (s0.setto (upd s0.to c (nI (s0.n + T1.length)))) (.int (nx t p)) (by omega) (by omega) (whole_stk L1 _ s1.2) (whole_x L1 _ x1.1.2) (by omega) hn
          refine (ih.to').eq fun Q => ?_
          have eo : opn (x :: L1) = opn L1 + 1 := opn_x hx
          have e1 : nI (L1.length + 1) - 1 = nI L1.length := nI_pred _
          have e2 : nI (opn L1 + 1) - 1 = nI (opn L1) := nI_pred _
          have ek : (x :: L1).length = L1.length + 1 := rfl
          rw [sX8_takesE_22, ← mk_setto]
          simp only [h41] at n1
          have f1 : ((41 : Int32) = 38) = False := eq_false (by decide +kernel)
          have f2 : ((41 : Int32) = 124) = False := eq_false (by decide +kernel)
          rw [ek] at k0
          simp only [← mk_setto] at hw
          have hpop : ∀ z : Nat → Int32, ((((mk s0 p g (x :: L1) W T1).setto z).setk L1.length).seto (opn L1)).setp (p + 1) = (mk s0 (p + 1) g L1 W T1).setto z := fun z => rfl
          simp only [sX8_takesE_0, sX8_takesE_1, sX8_takesE_2, sX8_takesE_5, sX8_takesE_6, sX8_takesE_7, sX8_takesE_10, sX8_takesE_11, sX8_takesE_14, sX8_takesE_15, sX8_takesE_16, sX8_takesE_19, sX8_takesE_20, sX8_takesE_21, sX8_takesE_23 (st := []), sX8_takesE_26, sX8_takesE_27, sX8_takesE_28, sX8_takesE_31, sX8_takesE_110, sX8_takesE_32, sX8_takesE_111, sX8_takesE_34, sX8_takesE_113, sX8_takesE_37, sX8_takesE_43, sX8_takesE_116, sX8_takesE_122, sX8_takesE_38, sX8_takesE_44, sX8_takesE_117, sX8_takesE_123, sX8_takesE_40, sX8_takesE_47, sX8_takesE_119, sX8_takesE_124 (st := []), sX8_takesE_96, sX8_takesE_48, sX8_takesE_162, sX8_takesE_127, sX8_takesE_97 (st := []), sX8_takesE_51, sX8_takesE_53, sX8_takesE_163, sX8_takesE_128, sX8_takesE_100, sX8_takesE_52 (st := []), sX8_takesE_54, sX8_takesE_165 (st := []), sX8_takesE_131, sX8_takesE_103, sX8_takesE_108, sX8_takesE_55, sX8_takesE_168, sX8_takesE_132, sX8_takesE_104, sX8_takesE_109 (st := []), sX8_takesE_58, sX8_takesE_169, sX8_takesE_135, sX8_takesE_105, sX8_takesE_59, sX8_takesE_172, sX8_takesE_136, sX8_takesE_60, sX8_takesE_173, sX8_takesE_137, sX8_takesE_63, sX8_takesE_174, sX8_takesE_138, sX8_takesE_64, sX8_takesE_177, sX8_takesE_139, sX8_takesE_67, sX8_takesE_178, sX8_takesE_142, sX8_takesE_68, sX8_takesE_179, sX8_takesE_143, sX8_takesE_71, sX8_takesE_182, sX8_takesE_144, sX8_takesE_72, sX8_takesE_185, sX8_takesE_187, sX8_takesE_147, sX8_takesE_73, sX8_takesE_186 (st := []), sX8_takesE_188, sX8_takesE_148, sX8_takesE_74, sX8_takesE_190, sX8_takesE_149, sX8_takesE_75, sX8_takesE_193, sX8_takesE_195, sX8_takesE_150, sX8_takesE_78, sX8_takesE_194 (st := []), sX8_takesE_196, sX8_takesE_151, sX8_takesE_79, sX8_takesE_197, sX8_takesE_154, sX8_takesE_80, sX8_takesE_200, sX8_takesE_155, sX8_takesE_83, sX8_takesE_201, sX8_takesE_156, sX8_takesE_84, sX8_takesE_202, sX8_takesE_159, sX8_takesE_85, sX8_takesE_205, sX8_takesE_88, sX8_takesE_206, sX8_takesE_89, sX8_takesE_207, sX8_takesE_90, sX8_takesE_210, sX8_takesE_93, sX8_takesE_211, sX8_takesE_212, sX8_takesE_215, sX8_takesE_216, sX8_takesE_217, sX8_takesE_220, sX8_takesE_221, sX8_takesE_222, sX8_takesE_225, sX8_takesE_226 (st := []), sX8_takesE_229, inb, nz_3, nz_4, nz_6, nz_8, nz_10, nz_100, nz_300, pushr_s, pushr_n, rv_s, rv_n, kd_sI, kd_sR, kd_sJ, sz_sI, sz_sR, sz_sJ, aR_sI, aJ_sI, aI_sR, aI_sJ, not_false_eq_true, true_and, and_true, true_or, or_true, or_false, false_or, eq_self, ite_true, ite_false, if_true, if_false, kd_pS, sz_pS, aR_pS, mk_67 h.lay, mr_19 h.lay, mk_77 h.lay, mz_77 h.lay, mr_22 h.lay, mk_80 h.lay, mz_80 h.lay, mr_20 h.lay, mk_78 h.lay, mz_78 h.lay, n1, bi_f, f1, f2, hs, pS_13, pS_23, pS_24, pS_25, mk_n, mk_k, mk_o, mk_p, mk_to, eo, ek, e1, e2, cc, c1, pSw_to, pSw_k, pSw_o, pSw_p, MS.p_setp, MS.p_setk, MS.p_seto, MS.p_setto, MS.k_setp, MS.k_setk, MS.k_seto, MS.k_setto, MS.o_setp, MS.o_setk, MS.o_seto, MS.o_setto, MS.to_setp, MS.to_setk, MS.to_seto, MS.to_setto, k0, h41, nI_1, hpop, hw]
        · rw [if_neg h41]
          refine EndE.none (s' := mk (s0.setto (upd s0.to c (nI (s0.n + T1.length)))) p g (x :: L1) W T1) h2 rfl ((mk_ag _ c p g (x :: L1) W T1).to' (fun i hi => pk_un hi)) (fun Q => ?_)
          rw [sX8_takesE_22, ← mk_setto]
          simp only [sX8_takesE_0, sX8_takesE_1, sX8_takesE_2, sX8_takesE_5, sX8_takesE_6, sX8_takesE_7, sX8_takesE_10, sX8_takesE_11, sX8_takesE_14, sX8_takesE_15, sX8_takesE_16, sX8_takesE_19, sX8_takesE_20, sX8_takesE_21, sX8_takesE_23 (st := []), sX8_takesE_26, sX8_takesE_27, sX8_takesE_28, sX8_takesE_31, sX8_takesE_110, sX8_takesE_32, sX8_takesE_111, sX8_takesE_34, sX8_takesE_113, sX8_takesE_37, sX8_takesE_43, sX8_takesE_116, sX8_takesE_122, sX8_takesE_38, sX8_takesE_44, sX8_takesE_117, sX8_takesE_123, sX8_takesE_40, sX8_takesE_47, sX8_takesE_119, sX8_takesE_124 (st := []), sX8_takesE_96, sX8_takesE_48, sX8_takesE_162, sX8_takesE_127, sX8_takesE_97 (st := []), sX8_takesE_51, sX8_takesE_53, sX8_takesE_163, sX8_takesE_128, sX8_takesE_100, sX8_takesE_52 (st := []), sX8_takesE_54, sX8_takesE_165 (st := []), sX8_takesE_131, sX8_takesE_103, sX8_takesE_108, sX8_takesE_55, sX8_takesE_168, sX8_takesE_132, sX8_takesE_104, sX8_takesE_109 (st := []), sX8_takesE_58, sX8_takesE_169, sX8_takesE_135, sX8_takesE_105, sX8_takesE_59, sX8_takesE_172, sX8_takesE_136, sX8_takesE_60, sX8_takesE_173, sX8_takesE_137, sX8_takesE_63, sX8_takesE_174, sX8_takesE_138, sX8_takesE_64, sX8_takesE_177, sX8_takesE_139, sX8_takesE_67, sX8_takesE_178, sX8_takesE_142, sX8_takesE_68, sX8_takesE_179, sX8_takesE_143, sX8_takesE_71, sX8_takesE_182, sX8_takesE_144, sX8_takesE_72, sX8_takesE_185, sX8_takesE_187, sX8_takesE_147, sX8_takesE_73, sX8_takesE_186 (st := []), sX8_takesE_188, sX8_takesE_148, sX8_takesE_74, sX8_takesE_190, sX8_takesE_149, sX8_takesE_75, sX8_takesE_193, sX8_takesE_195, sX8_takesE_150, sX8_takesE_78, sX8_takesE_194 (st := []), sX8_takesE_196, sX8_takesE_151, sX8_takesE_79, sX8_takesE_197, sX8_takesE_154, sX8_takesE_80, sX8_takesE_200, sX8_takesE_155, sX8_takesE_83, sX8_takesE_201, sX8_takesE_156, sX8_takesE_84, sX8_takesE_202, sX8_takesE_159, sX8_takesE_85, sX8_takesE_205, sX8_takesE_88, sX8_takesE_206, sX8_takesE_89, sX8_takesE_207, sX8_takesE_90, sX8_takesE_210, sX8_takesE_93, sX8_takesE_211, sX8_takesE_212, sX8_takesE_215, sX8_takesE_216, sX8_takesE_217, sX8_takesE_220, sX8_takesE_221, sX8_takesE_222, sX8_takesE_225, sX8_takesE_226 (st := []), sX8_takesE_229, inb, nz_3, nz_4, nz_6, nz_8, nz_10, nz_100, nz_300, pushr_s, pushr_n, rv_s, rv_n, kd_sI, kd_sR, kd_sJ, sz_sI, sz_sR, sz_sJ, aR_sI, aJ_sI, aI_sR, aI_sJ, not_false_eq_true, true_and, and_true, true_or, or_true, or_false, false_or, eq_self, ite_true, ite_false, if_true, if_false, kd_pS, sz_pS, aR_pS, mk_67 h.lay, mr_19 h.lay, mk_77 h.lay, mz_77 h.lay, mr_22 h.lay, mk_80 h.lay, mz_80 h.lay, mr_20 h.lay, mk_78 h.lay, mz_78 h.lay, n1, bi_f, b1, b2, hs, pS_23, pS_24, mk_n, mk_k, mk_to, cc, c1, pSw_to, MS.k_setk, MS.k_setto, MS.to_setk, MS.to_setto, k0, h41]
end READ
