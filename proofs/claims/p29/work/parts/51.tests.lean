/-! PackageForge: costs, paying, running tests, counting stale ones -/
/-- the heaps hold the same long and double rows -/
def nF : hE → Prop
  | .inl (.long, _) => True
  | .inl (.double, _) => True
  | _ => False
def FR (h h2 : hp) : Prop := ∀ x c, h x = some c → nF c → h2 x = some c
theorem FR.rfl' {h : hp} : FR h h := fun _ _ q _ => q
theorem FR.up {h h2 : hp} (H : FR h h2) {a : Nat} {c c' : hE} (ha : h2 a = some c) (hc : ¬ nF c) : FR h (va_up h2 a (some c')) := by
  intro x e hx he
  by_cases q : x = a
  · subst q
    have h3 := H x e hx he
    rw [ha] at h3
    cases h3
    exact absurd he hc
  · rw [va_up_ne _ _ q]; exact H x e hx he
theorem FR.nw {h h2 : hp} (H : FR h h2) {a : Nat} {c' : hE} (ha : h2 a = none) : FR h (va_up h2 a (some c')) := by
  intro x e hx he
  by_cases q : x = a
  · subst q
    have h3 := H x e hx he
    rw [ha] at h3
    cases h3
  · rw [va_up_ne _ _ q]; exact H x e hx he
theorem FR.tr {h h1 h2 : hp} (a : FR h h1) (b : FR h1 h2) : FR h h2 := fun x e hx he => b x e (a x e hx he) he
/-- the cost of the first t tests of package n -/
def cstN (I : Nat → Nat → Nat → Int32) (n : Int32) : Nat → Int32
  | 0 => 0
  | t + 1 => if I 50 t 0 = n then cstN I n t + I 50 t 1 else cstN I n t
/-- how many of the first t tests of package n fail -/
def flnN (I : Nat → Nat → Nat → Int32) (n : Int32) : Nat → Int32
  | 0 => 0
  | t + 1 => if I 50 t 0 = n then flnN I n t + (if I 50 t 2 = 0 then 0 else 1) else flnN I n t
def xCn (σ : sT) (t : Nat) : Nat := (σ.1 50 t 3).toNatClampNeg
/-- a test has run -/
def xAdd (σ : sT) (t : Nat) : sT := setI (setI σ 51 t (arF (σ.1 51 t) (xCn σ t) (σ.1 50 t 2))) 50 t (upd (σ.1 50 t) 3 (nI (arC (xCn σ t))))
/-- the first t tests of package n have run -/
def rTs (σ : sT) (n : Int32) : Nat → sT
  | 0 => setI σ 0 0 (upd (σ.1 0 0) 2 (σ.1 0 0 2 + 1))
  | t + 1 => if σ.1 50 t 0 = n then xAdd (rTs σ n t) t else rTs σ n t
theorem rTs_2 (σ : sT) (n : Int32) : ∀ t, (rTs σ n t).2 = σ.2
  | 0 => rfl
  | t + 1 => by
    unfold rTs
    by_cases e : σ.1 50 t 0 = n
    · rw [if_pos e]; exact rTs_2 σ n t
    · rw [if_neg e]; exact rTs_2 σ n t
theorem rTs_o (σ : sT) (n : Int32) {u j : Nat} (hu : u ≠ 0 ∧ u ≠ 50 ∧ u ≠ 51) : ∀ t, (rTs σ n t).1 u j = σ.1 u j
  | 0 => setI_n (Or.inl hu.1)
  | t + 1 => by
    unfold rTs
    by_cases e : σ.1 50 t 0 = n
    · rw [if_pos e]
      exact (setI_n (Or.inl hu.2.1)).trans ((setI_n (Or.inl hu.2.2)).trans (rTs_o σ n hu t))
    · rw [if_neg e]; exact rTs_o σ n hu t
/-- tests from t on are as they were -/
theorem rTs_f (σ : sT) (n : Int32) {u j : Nat} (hu : u = 50 ∨ u = 51) : ∀ t, t ≤ j → (rTs σ n t).1 u j = σ.1 u j
  | 0, _ => setI_n (Or.inl (by omega))
  | t + 1, h => by
    unfold rTs
    by_cases e : σ.1 50 t 0 = n
    · rw [if_pos e]
      exact (setI_n (Or.inr (by omega))).trans ((setI_n (Or.inr (by omega))).trans (rTs_f σ n hu t (by omega)))
    · rw [if_neg e]; exact rTs_f σ n hu t (by omega)
theorem arF_b {F : Nat → Int32} (hF : bF F) {c : Nat} {x : Int32} (hx : b01 x) : bF (arF F c x) := by
  unfold arF
  have hs : bF (shF F 8) := by
    intro j hj
    unfold shF
    by_cases e : j + 1 < 8
    · rw [if_pos e]; exact hF (j + 1) e
    · rw [if_neg e]; exact hF j hj
  have hu : ∀ (f : Nat → Int32) (k : Nat), bF f → bF (upd f k x) := by
    intro f k hf j hj
    unfold upd
    by_cases e : j = k
    · rw [if_pos e]; exact hx
    · rw [if_neg e]; exact hf j hj
  by_cases e : c < 8
  · rw [if_pos e]; exact hu _ _ hF
  · rw [if_neg e]; exact hu _ _ hs
theorem iv_t {σ : sT} (H : IV σ) {t : Nat} {f : Nat → Int32} (hf : bF f) : IV (setI σ 51 t f) := by
  obtain ⟨a1, a2, a3, a4, a5, a6, a7, a8, a9, a10, a11⟩ := H
  refine ⟨a1, a2, a3, a4, a5, a6, a7, a8, fun p hp => ?_, fun r hr => ?_, fun u hr => ?_⟩
  · rw [setI_n (Or.inl (by decide)), setI_n (Or.inl (by decide))]; exact a9 p hp
  · rw [setI_n (Or.inl (by decide))]; exact a10 r hr
  · rw [setI_n (Or.inl (by decide))]
    refine ⟨(a11 u hr).1, ?_⟩
    by_cases e : u = t
    · subst e; rw [setI_s]; exact hf
    · rw [setI_n (Or.inr e)]; exact (a11 u hr).2
theorem iv_f {σ : sT} (H : IV σ) {t : Nat} {f : Nat → Int32} (hf : b01 (f 2)) : IV (setI σ 50 t f) := by
  obtain ⟨a1, a2, a3, a4, a5, a6, a7, a8, a9, a10, a11⟩ := H
  refine ⟨a1, a2, a3, a4, a5, a6, a7, a8, fun p hp => ?_, fun r hr => ?_, fun u hr => ?_⟩
  · rw [setI_n (Or.inl (by decide)), setI_n (Or.inl (by decide))]; exact a9 p hp
  · rw [setI_n (Or.inl (by decide))]; exact a10 r hr
  · rw [setI_n (u := 51) (Or.inl (by decide))]
    refine ⟨?_, (a11 u hr).2⟩
    by_cases e : u = t
    · subst e; rw [setI_s]; exact hf
    · rw [setI_n (Or.inr e)]; exact (a11 u hr).1
theorem W9.run {G : hG} {h : hp} {A : aT} {σ : sT} (H : W9 G h A σ) {t : Nat} (ht : t < nts σ) : W9 G (va_up (va_up h (A 51 t) (some (aZ 8 (arF (σ.1 51 t) (xCn σ t) (σ.1 50 t 2))))) (A 50 t) (some (oB 10 [.int (σ.1 50 t 0), .int (σ.1 50 t 1), .int (σ.1 50 t 2), .ref (A 51 t), .int (nI (arC (xCn σ t)))]))) A (xAdd σ t) :=
  (H.wI (t := 51) (i := t) (f := arF (σ.1 51 t) (xCn σ t) (σ.1 50 t 2)) ht (by decide) (iv_t H.iv (arF_b (H.iv.2.2.2.2.2.2.2.2.2.2 t ht).2 (H.iv.2.2.2.2.2.2.2.2.2.2 t ht).1)) rfl).wI (t := 50) (i := t) (f := upd (σ.1 50 t) 3 (nI (arC (xCn σ t)))) ht (by decide) (iv_f (iv_t H.iv (arF_b (H.iv.2.2.2.2.2.2.2.2.2.2 t ht).2 (H.iv.2.2.2.2.2.2.2.2.2.2 t ht).1)) (H.iv.2.2.2.2.2.2.2.2.2.2 t ht).1) rfl
set_option maxHeartbeats 4000000 in
set_option maxRecDepth 100000 in
theorem c_cost (G : hG) (h : hp) {A : aT} {σ : sT} (H : W9 G h A σ) (n : Int32) : PMet G MX9_costOfTests 3 0 0 [.ref (A 0 0), .int n] h (det (some (.int (cstN σ.1 n (nts σ)))) h) noX := by
  have h8 := H.iv.2.1
  refine PMet.of (by decide +kernel) (Nat.le_of_ble_eq_true rfl) (fun d hd => ?_)
  refine PW.sub (L2 := [(0, Value.ref (A 0 0)), (1, Value.int n)]) [0, 1] rfl ?_
  refine pw_iconst (pc2 := 1) (v := 0) dX9_costOfTests_0 rfl (by decide) ?_
  refine pw_istore_n (pc2 := 2) (L2 := [(2, Value.int 0), (0, Value.ref (A 0 0)), (1, Value.int n)]) dX9_costOfTests_1 rfl rfl (by decide) rfl ?_
  refine pw_iconst (pc2 := 3) (v := 0) dX9_costOfTests_2 rfl (by decide) ?_
  refine pw_istore_n (pc2 := 4) (L2 := [(3, Value.int 0), (2, Value.int 0), (0, Value.ref (A 0 0)), (1, Value.int n)]) dX9_costOfTests_3 rfl rfl (by decide) rfl ?_
  have loop : ∀ (k i : Nat) (ac : Int32) (hac : ac = cstN σ.1 n i), i + k = nts σ → PW G MX9_costOfTests d noA (E0 G (det (some (.int (cstN σ.1 n (nts σ)))) h) noX) 0 0 4 [(3, Value.int (nI i)), (2, Value.int ac), (0, Value.ref (A 0 0)), (1, Value.int n)] [] h := by
    intro k
    induction k with
    | zero =>
      intro i ac hac hik
      have hi9 : i = nts σ := by omega
      refine pw_iload_n (pc2 := 5) dX9_costOfTests_4 rfl rfl 0 rfl ?_
      refine pw_aload_n (pc2 := 6) dX9_costOfTests_5 rfl rfl 2 rfl (by first | exact rf_ref _ | exact rf_opt _ | exact rf_nul) ?_
      refine pw_get (pc2 := 9) kX9 (k := 1) (by decide) rfl fl_X9_16 H.c0 rfl dX9_costOfTests_6 rfl ?_
      refine pw_callV1 (pc2 := 12) (c_lsize G _ H.lt) cs_X9_44 rfl rfl H.c3 dX9_costOfTests_9 rfl (by omega) rfl (by first | decide | simp [cat_rf, Value.category]) ?_
      refine pw_icmp_ge (tgt := 51) (pc2 := 15) dX9_costOfTests_12 (by decide) rfl (fun _ => ?_) (fun c12 => by exact absurd (by first | (rw [hi9]; exact Int32.le_refl _) | exact fun q => absurd ((nI_leI (a := nts σ) (b := i) (by omega) (by omega)).mp q) (by omega)) c12)
      refine pw_iload_n (pc2 := 52) dX9_costOfTests_51 rfl rfl 1 rfl ?_
      refine pw_iret dX9_costOfTests_52 rfl (by first | rfl | assumption | simp [narrow]) ?_
      exact ⟨by rw [hac, hi9], rfl⟩
    | succ k ih =>
      intro i ac hac hik
      have hi9 : i < nts σ := by omega
      refine pw_iload_n (pc2 := 5) dX9_costOfTests_4 rfl rfl 0 rfl ?_
      refine pw_aload_n (pc2 := 6) dX9_costOfTests_5 rfl rfl 2 rfl (by first | exact rf_ref _ | exact rf_opt _ | exact rf_nul) ?_
      refine pw_get (pc2 := 9) kX9 (k := 1) (by decide) rfl fl_X9_16 H.c0 rfl dX9_costOfTests_6 rfl ?_
      refine pw_callV1 (pc2 := 12) (c_lsize G _ H.lt) cs_X9_44 rfl rfl H.c3 dX9_costOfTests_9 rfl (by omega) rfl (by first | decide | simp [cat_rf, Value.category]) ?_
      refine pw_icmp_ge (tgt := 51) (pc2 := 15) dX9_costOfTests_12 (by decide) rfl (fun c12 => by exact absurd c12 (by first | (rw [hi9]; exact Int32.le_refl _) | exact fun q => absurd ((nI_leI (a := nts σ) (b := i) (by omega) (by omega)).mp q) (by omega))) (fun _ => ?_)
      refine pw_aload_n (pc2 := 16) dX9_costOfTests_15 rfl rfl 2 rfl (by first | exact rf_ref _ | exact rf_opt _ | exact rf_nul) ?_
      refine pw_get (pc2 := 19) kX9 (k := 1) (by decide) rfl fl_X9_16 H.c0 rfl dX9_costOfTests_16 rfl ?_
      refine pw_iload_n (pc2 := 20) dX9_costOfTests_19 rfl rfl 0 rfl ?_
      refine pw_callV1 (pc2 := 23) (c_lget G _ H.lt (i := i) hi9) cs_X9_181 rfl rfl H.c3 dX9_costOfTests_20 rfl (by omega) rfl (by first | decide | simp [cat_rf, Value.category]) ?_
      refine pw_castS (pc2 := 26) (cj := 10) rfl cl_X9_158 (H.c50 hi9) dX9_costOfTests_23 rfl ?_
      refine pw_astore (pc2 := 28) (L2 := [(4, Value.ref (A 50 i)), (3, Value.int (nI i)), (2, Value.int ac), (0, Value.ref (A 0 0)), (1, Value.int n)]) dX9_costOfTests_26 rfl (by decide) (by first | exact rf_ref _ | exact rf_opt _ | exact rf_nul) rfl ?_
      refine pw_aload (pc2 := 30) dX9_costOfTests_28 rfl 0 rfl (by first | exact rf_ref _ | exact rf_opt _ | exact rf_nul) ?_
      refine pw_getN (pc2 := 33) kX7 (k := 0) (by decide) rfl fl_X9_185 (H.c50 hi9) rfl dX9_costOfTests_30 rfl ?_
      refine pw_iload_n (pc2 := 34) dX9_costOfTests_33 rfl rfl 4 rfl ?_
      refine pw_icmp_ne (tgt := 45) (pc2 := 37) dX9_costOfTests_34 (by decide) rfl (fun c34 => ?_) (fun c34 => ?_)
      · refine pw_iinc (pc2 := 48) (v := nI (i + 1)) (L2 := [(3, Value.int (nI (i + 1))), (4, Value.ref (A 50 i)), (2, Value.int ac), (0, Value.ref (A 0 0)), (1, Value.int n)]) dX9_costOfTests_45 rfl 1 rfl (by show nI _ + 1 = nI _; exact nI_1 _) (by decide) rfl ?_
        refine pw_goto (tgt := 4) dX9_costOfTests_48 (by decide) ?_
        refine PW.sub (L2 := [(3, Value.int (nI (i + 1))), (2, Value.int ac), (0, Value.ref (A 0 0)), (1, Value.int n)]) [0, 2, 3, 4] rfl ?_
        refine ih (i + 1) (ac) ?_ (by omega)
        rw [show cstN σ.1 n (i + 1) = if σ.1 50 i 0 = n then cstN σ.1 n i + σ.1 50 i 1 else cstN σ.1 n i from rfl]
        rw [if_neg c34]; exact hac
      · refine pw_iload_n (pc2 := 38) dX9_costOfTests_37 rfl rfl 2 rfl ?_
        refine pw_aload (pc2 := 40) dX9_costOfTests_38 rfl 0 rfl (by first | exact rf_ref _ | exact rf_opt _ | exact rf_nul) ?_
        refine pw_getN (pc2 := 43) kX7 (k := 1) (by decide) rfl fl_X9_188 (H.c50 hi9) rfl dX9_costOfTests_40 rfl ?_
        refine pw_iadd (pc2 := 44) dX9_costOfTests_43 rfl ?_
        refine pw_topi (fun v2 ev2 => ?_)
        refine pw_istore_n (pc2 := 45) (L2 := [(2, Value.int v2), (4, Value.ref (A 50 i)), (3, Value.int (nI i)), (0, Value.ref (A 0 0)), (1, Value.int n)]) dX9_costOfTests_44 rfl rfl (by decide) rfl ?_
        refine pw_iinc (pc2 := 48) (v := nI (i + 1)) (L2 := [(3, Value.int (nI (i + 1))), (2, Value.int v2), (4, Value.ref (A 50 i)), (0, Value.ref (A 0 0)), (1, Value.int n)]) dX9_costOfTests_45 rfl 2 rfl (by show nI _ + 1 = nI _; exact nI_1 _) (by decide) rfl ?_
        refine pw_goto (tgt := 4) dX9_costOfTests_48 (by decide) ?_
        refine PW.sub (L2 := [(3, Value.int (nI (i + 1))), (2, Value.int v2), (0, Value.ref (A 0 0)), (1, Value.int n)]) [0, 1, 3, 4] rfl ?_
        refine ih (i + 1) (v2) ?_ (by omega)
        rw [show cstN σ.1 n (i + 1) = if σ.1 50 i 0 = n then cstN σ.1 n i + σ.1 50 i 1 else cstN σ.1 n i from rfl]
        first | rw [if_neg c34]; exact hac | rw [if_pos c34, ev2, hac]
  refine PW.sub (L2 := [(3, Value.int 0), (2, Value.int 0), (0, Value.ref (A 0 0)), (1, Value.int n)]) [0, 1, 2, 3] rfl ?_
  exact loop (nts σ) 0 0 rfl (by omega)
theorem c_own1 (G : hG) (h : hp) {o : Nat} (ho : o < 3) : PMet G MX9_isOwner 0 0 0 [.int (nI o)] h (det (some (.int 1)) h) noX :=
  (c_isOwner G h (nI o)).mono (fun r h2 q => by
    obtain ⟨rfl, ⟨-, rfl⟩ | ⟨hn, -⟩⟩ := q
    · exact ⟨rfl, rfl⟩
    · exact absurd ⟨nI_pos' (by omega), (nI_ltI (a := o) (b := 3) (by omega) (by omega)).mpr ho⟩ hn) (fun _ _ q => q)
set_option maxHeartbeats 4000000 in
set_option maxRecDepth 100000 in
theorem c_pay (G : hG) (h : hp) {A : aT} {σ : sT} (H : W9 G h A σ) {o : Nat} (ho : o < 3) (cs : Int32) : PMet G MX9_payFrom 2 0 0 [.ref (A 0 0), .int (nI o), .int cs] h (fun r h2 => (r = some (.int 1) ∧ ¬ σ.1 13 0 o < cs ∧ h2 = (va_up (va_up h (A 13 0) (some (aI 3 (upd (σ.1 13 0) o (σ.1 13 0 o - cs))))) (A 0 0) (some (oB 12 [.ref (A 1 0), .ref (A 3 0), .ref (A 5 0), .ref (A 7 0), .ref (A 13 0), .ref (A 14 0), .int (σ.1 0 0 0), .int (σ.1 0 0 1), .int (σ.1 0 0 2), .int (σ.1 0 0 3 + cs)])))) ∨ (r = some (.int 0) ∧ σ.1 13 0 o < cs ∧ h2 = h)) noX := by
  refine PMet.of (by decide +kernel) (Nat.le_of_ble_eq_true rfl) (fun d hd => ?_)
  refine PW.sub (L2 := [(0, Value.ref (A 0 0)), (1, Value.int (nI o)), (2, Value.int cs)]) [0, 1, 2] rfl ?_
  refine pw_iload_n (pc2 := 1) dX9_payFrom_0 rfl rfl 1 rfl ?_
  refine pw_callS1 (pc2 := 4) (c_own1 G _ ho) cs_X9_300 rfl dX9_payFrom_1 rfl (by omega) rfl (by first | decide | simp [cat_rf, Value.category]) ?_
  refine pw_if_eq (tgt := 17) (pc2 := 7) dX9_payFrom_4 (by decide) rfl (fun c4 => by exact absurd c4 (by decide)) (fun _ => ?_)
  refine pw_aload_n (pc2 := 8) dX9_payFrom_7 rfl rfl 0 rfl (by first | exact rf_ref _ | exact rf_opt _ | exact rf_nul) ?_
  refine pw_get (pc2 := 11) kX9 (k := 4) (by decide) rfl fl_X9_29 H.c0 rfl dX9_payFrom_8 rfl ?_
  refine pw_iload_n (pc2 := 12) dX9_payFrom_11 rfl rfl 1 rfl ?_
  refine pw_ialdN (pc2 := 13) H.c13 (i := o) (by first | assumption | omega) (by omega) dX9_payFrom_12 rfl ?_
  refine pw_iload_n (pc2 := 14) dX9_payFrom_13 rfl rfl 2 rfl ?_
  refine pw_icmp_ge (tgt := 19) (pc2 := 17) dX9_payFrom_14 (by decide) rfl (fun c14 => ?_) (fun c14 => ?_)
  · refine pw_aload_n (pc2 := 20) dX9_payFrom_19 rfl rfl 0 rfl (by first | exact rf_ref _ | exact rf_opt _ | exact rf_nul) ?_
    refine pw_get (pc2 := 23) kX9 (k := 4) (by decide) rfl fl_X9_29 H.c0 rfl dX9_payFrom_20 rfl ?_
    refine pw_iload_n (pc2 := 24) dX9_payFrom_23 rfl rfl 1 rfl ?_
    refine pw_dup2 (pc2 := 25) dX9_payFrom_24 rfl (by first | rfl | exact cat_rf _) (by first | rfl | exact cat_rf _) ?_
    refine pw_ialdN (pc2 := 26) H.c13 (i := o) (by first | assumption | omega) (by omega) dX9_payFrom_25 rfl ?_
    refine pw_iload_n (pc2 := 27) dX9_payFrom_26 rfl rfl 2 rfl ?_
    refine pw_isub (pc2 := 28) dX9_payFrom_27 rfl ?_
    refine pw_iastN (pc2 := 29) H.c13 (i := o) (by first | assumption | omega) (by omega) dX9_payFrom_28 rfl ?_
    refine pw_aload_n (pc2 := 30) dX9_payFrom_29 rfl rfl 0 rfl (by first | exact rf_ref _ | exact rf_opt _ | exact rf_nul) ?_
    refine pw_dup (pc2 := 31) dX9_payFrom_30 rfl (by first | rfl | exact cat_rf _) ?_
    refine pw_get (pc2 := 34) kX9 (k := 9) (by decide) rfl fl_X9_297 ((va_up_ne _ _ (ne_oa H.c0 H.c13)).trans H.c0) rfl dX9_payFrom_31 rfl ?_
    refine pw_iload_n (pc2 := 35) dX9_payFrom_34 rfl rfl 2 rfl ?_
    refine pw_iadd (pc2 := 36) dX9_payFrom_35 rfl ?_
    refine pw_put (pc2 := 39) kX9 (k := 9) (by decide) rfl rfl fl_X9_297 ((va_up_ne _ _ (ne_oa H.c0 H.c13)).trans H.c0) (by first | decide | simp) (by first | rfl | exact nar_rf _ _) (by first | rfl | exact fit_rf _ _) dX9_payFrom_36 rfl ?_
    refine pw_iconst (pc2 := 40) (v := 1) dX9_payFrom_39 rfl (by decide) ?_
    refine pw_iret dX9_payFrom_40 rfl (by first | rfl | assumption | simp [narrow]) ?_
    exact Or.inl ⟨rfl, Int32.not_lt.mpr c14, rfl⟩
  · refine pw_iconst (pc2 := 18) (v := 0) dX9_payFrom_17 rfl (by decide) ?_
    refine pw_iret dX9_payFrom_18 rfl (by first | rfl | assumption | simp [narrow]) ?_
    exact Or.inr ⟨rfl, Int32.not_le.mp c14, rfl⟩
set_option maxHeartbeats 4000000 in
set_option maxRecDepth 100000 in
theorem c_runT (G : hG) (h : hp) {A : aT} {σ : sT} (H : W9 G h A σ) (hcn : ∀ t, t < nts σ → ∃ c, c ≤ 8 ∧ σ.1 50 t 3 = nI c) (n : Int32) : PMet G MX9_runTests 3 0 0 [.ref (A 0 0), .int n] h (fun r h2 => r = some (.int (flnN σ.1 n (nts σ))) ∧ W9 G h2 A (rTs σ n (nts σ)) ∧ FR h h2) noX := by
  have h8n := H.iv.2.1
  refine PMet.of (by decide +kernel) (Nat.le_of_ble_eq_true rfl) (fun d hd => ?_)
  refine PW.sub (L2 := [(0, Value.ref (A 0 0)), (1, Value.int n)]) [0, 1] rfl ?_
  refine pw_aload_n (pc2 := 1) dX9_runTests_0 rfl rfl 0 rfl (by first | exact rf_ref _ | exact rf_opt _ | exact rf_nul) ?_
  refine pw_dup (pc2 := 2) dX9_runTests_1 rfl (by first | rfl | exact cat_rf _) ?_
  refine pw_get (pc2 := 5) kX9 (k := 8) (by decide) rfl fl_X9_292 H.c0 rfl dX9_runTests_2 rfl ?_
  refine pw_iconst (pc2 := 6) (v := 1) dX9_runTests_5 rfl (by decide) ?_
  refine pw_iadd (pc2 := 7) dX9_runTests_6 rfl ?_
  refine pw_put (pc2 := 10) kX9 (k := 8) (by decide) rfl rfl fl_X9_292 H.c0 (by first | decide | simp) (by first | rfl | exact nar_rf _ _) (by first | rfl | exact fit_rf _ _) dX9_runTests_7 rfl ?_
  obtain ⟨h1, eh1⟩ : ∃ z : hp, z = va_up h (A 0 0) (some (oB 12 [.ref (A 1 0), .ref (A 3 0), .ref (A 5 0), .ref (A 7 0), .ref (A 13 0), .ref (A 14 0), .int (σ.1 0 0 0), .int (σ.1 0 0 1), .int ((σ.1 0 0 2) + 1), .int (σ.1 0 0 3)])) := ⟨_, rfl⟩
  refine PW.heap (h' := h1) eh1.symm ?_
  have H1 : W9 G h1 A (rTs σ n 0) := by rw [eh1]; exact H.wI (t := 0) (i := 0) rfl (by decide) (iv_setI H.iv (by decide)) rfl
  have F1 : FR h h1 := by rw [eh1]; exact FR.rfl'.up H.c0 id
  refine pw_iconst (pc2 := 11) (v := 0) dX9_runTests_10 rfl (by decide) ?_
  refine pw_istore_n (pc2 := 12) (L2 := [(2, Value.int 0), (0, Value.ref (A 0 0)), (1, Value.int n)]) dX9_runTests_11 rfl rfl (by decide) rfl ?_
  refine pw_iconst (pc2 := 13) (v := 0) dX9_runTests_12 rfl (by decide) ?_
  refine pw_istore_n (pc2 := 14) (L2 := [(3, Value.int 0), (2, Value.int 0), (0, Value.ref (A 0 0)), (1, Value.int n)]) dX9_runTests_13 rfl rfl (by decide) rfl ?_
  have loop : ∀ (m : Nat) (i : Nat) (h9 : hp) (ac : Int32) (_hi : i + m = nts σ) (_H9 : W9 G h9 A (rTs σ n i)) (_F9 : FR h h9) (_hac : ac = flnN σ.1 n i), PW G MX9_runTests d noA (E0 G (fun r h2 => r = some (.int (flnN σ.1 n (nts σ))) ∧ W9 G h2 A (rTs σ n (nts σ)) ∧ FR h h2) noX) 0 0 14 [(3, Value.int (nI i)), (2, Value.int ac), (0, Value.ref (A 0 0)), (1, Value.int n)] [] h9 := by
    intro m
    induction m with
    | zero =>
      intro i h9 ac hi H9 F9 hac
      have hin : i = nts σ := by omega
      subst hin
      refine pw_iload_n (pc2 := 15) dX9_runTests_14 rfl rfl 0 rfl ?_
      refine pw_aload_n (pc2 := 16) dX9_runTests_15 rfl rfl 2 rfl (by first | exact rf_ref _ | exact rf_opt _ | exact rf_nul) ?_
      refine pw_get (pc2 := 19) kX9 (k := 1) (by decide) rfl fl_X9_16 H9.c0 rfl dX9_runTests_16 rfl ?_
      refine pw_callV1 (pc2 := 22) (c_lsize G _ (show isL G h9 (A 3 0) (nts σ) (A 50) by have z := H9.lt; rw [show nts (rTs σ n (nts σ)) = nts σ from by unfold nts; rw [rTs_2]] at z; exact z)) cs_X9_44 rfl rfl H9.c3 dX9_runTests_19 rfl (by omega) rfl (by first | decide | simp [cat_rf, Value.category]) ?_
      refine pw_icmp_ge (tgt := 79) (pc2 := 25) dX9_runTests_22 (by decide) rfl (fun _ => ?_) (fun c22 => by exact absurd (Int32.le_refl _) c22)
      refine pw_iload_n (pc2 := 80) dX9_runTests_79 rfl rfl 1 rfl ?_
      refine pw_iret dX9_runTests_80 rfl (by first | rfl | assumption | simp [narrow]) ?_
      exact ⟨by rw [hac], H9, F9⟩
    | succ m ih =>
      intro i h9 ac hi H9 F9 hac
      have hil : i < nts σ := by omega
      have L9 : isL G h9 (A 3 0) (nts σ) (A 50) := by have z := H9.lt; rw [show nts (rTs σ n i) = nts σ from by unfold nts; rw [rTs_2]] at z; exact z
      have hl9 : i < nts (rTs σ n i) := by unfold nts; rw [rTs_2]; exact hil
      have e50 : (rTs σ n i).1 50 i = σ.1 50 i := rTs_f σ n (Or.inl rfl) i (Nat.le_refl i)
      have e51 : (rTs σ n i).1 51 i = σ.1 51 i := rTs_f σ n (Or.inr rfl) i (Nat.le_refl i)
      have c50 := H9.c50 hl9
      rw [e50] at c50
      have c51 := H9.c51 hl9
      rw [e51] at c51
      obtain ⟨c, hc8, hcc⟩ := hcn i hil
      have hb := H.iv.2.2.2.2.2.2.2.2.2.2 i hil
      refine pw_iload_n (pc2 := 15) dX9_runTests_14 rfl rfl 0 rfl ?_
      refine pw_aload_n (pc2 := 16) dX9_runTests_15 rfl rfl 2 rfl (by first | exact rf_ref _ | exact rf_opt _ | exact rf_nul) ?_
      refine pw_get (pc2 := 19) kX9 (k := 1) (by decide) rfl fl_X9_16 H9.c0 rfl dX9_runTests_16 rfl ?_
      refine pw_callV1 (pc2 := 22) (c_lsize G _ L9) cs_X9_44 rfl rfl H9.c3 dX9_runTests_19 rfl (by omega) rfl (by first | decide | simp [cat_rf, Value.category]) ?_
      refine pw_icmp_ge (tgt := 79) (pc2 := 25) dX9_runTests_22 (by decide) rfl (fun c22 => by exact absurd c22 (fun q => absurd ((nI_leI (a := nts σ) (b := i) (by omega) (by omega)).mp q) (by omega))) (fun _ => ?_)
      refine pw_aload_n (pc2 := 26) dX9_runTests_25 rfl rfl 2 rfl (by first | exact rf_ref _ | exact rf_opt _ | exact rf_nul) ?_
      refine pw_get (pc2 := 29) kX9 (k := 1) (by decide) rfl fl_X9_16 H9.c0 rfl dX9_runTests_26 rfl ?_
      refine pw_iload_n (pc2 := 30) dX9_runTests_29 rfl rfl 0 rfl ?_
      refine pw_callV1 (pc2 := 33) (c_lget G _ L9 (i := i) hil) cs_X9_181 rfl rfl H9.c3 dX9_runTests_30 rfl (by omega) rfl (by first | decide | simp [cat_rf, Value.category]) ?_
      refine pw_castS (pc2 := 36) (cj := 10) rfl cl_X9_158 c50 dX9_runTests_33 rfl ?_
      refine pw_astore (pc2 := 38) (L2 := [(4, Value.ref (A 50 i)), (3, Value.int (nI i)), (2, Value.int ac), (0, Value.ref (A 0 0)), (1, Value.int n)]) dX9_runTests_36 rfl (by decide) (by first | exact rf_ref _ | exact rf_opt _ | exact rf_nul) rfl ?_
      refine pw_aload (pc2 := 40) dX9_runTests_38 rfl 0 rfl (by first | exact rf_ref _ | exact rf_opt _ | exact rf_nul) ?_
      refine pw_getN (pc2 := 43) kX7 (k := 0) (by decide) rfl fl_X9_185 c50 rfl dX9_runTests_40 rfl ?_
      refine pw_iload_n (pc2 := 44) dX9_runTests_43 rfl rfl 4 rfl ?_
      refine pw_icmp_ne (tgt := 73) (pc2 := 47) dX9_runTests_44 (by decide) rfl (fun c44 => ?_) (fun c44 => ?_)
      · refine pw_iinc (pc2 := 76) (v := nI (i + 1)) (L2 := [(3, Value.int (nI (i + 1))), (4, Value.ref (A 50 i)), (2, Value.int ac), (0, Value.ref (A 0 0)), (1, Value.int n)]) dX9_runTests_73 rfl 1 rfl (by show nI _ + 1 = nI _; exact nI_1 _) (by decide) rfl ?_
        refine pw_goto (tgt := 14) dX9_runTests_76 (by decide) ?_
        refine PW.sub (L2 := [(3, Value.int (nI (i + 1))), (2, Value.int ac), (0, Value.ref (A 0 0)), (1, Value.int n)]) [0, 2, 3, 4] rfl ?_
        refine ih (i + 1) h9 ac (by omega) ?_ F9 (by rw [(show flnN σ.1 n (i + 1) = if σ.1 50 i 0 = n then flnN σ.1 n i + (if σ.1 50 i 2 = 0 then 0 else 1) else flnN σ.1 n i from rfl), if_neg c44]; exact hac)
        rw [show rTs σ n (i + 1) = if σ.1 50 i 0 = n then xAdd (rTs σ n i) i else rTs σ n i from rfl, if_neg c44]
        exact H9
      · refine pw_aload (pc2 := 49) dX9_runTests_47 rfl 0 rfl (by first | exact rf_ref _ | exact rf_opt _ | exact rf_nul) ?_
        refine pw_aload (pc2 := 51) dX9_runTests_49 rfl 0 rfl (by first | exact rf_ref _ | exact rf_opt _ | exact rf_nul) ?_
        refine pw_getN (pc2 := 54) kX7 (k := 2) (by decide) rfl fl_X9_167 c50 rfl dX9_runTests_51 rfl ?_
        refine pw_callV0 (pc2 := 57) (c_xadd G h9 (t := A 50 i) (ar := A 51 i) (c := c) (fl := σ.1 50 i 2) ⟨hcc ▸ c50, c51⟩ hb.2 hc8 hb.1) cs_X9_322 rfl rfl c50 dX9_runTests_54 rfl (by omega) rfl (by first | decide | simp [cat_rf, Value.category]) ?_
        obtain ⟨h8, eh8⟩ : ∃ z : hp, z = va_up (va_up h9 (A 51 i) (some (aZ 8 (arF (σ.1 51 i) c (σ.1 50 i 2))))) (A 50 i) (some (oB 10 [.int (σ.1 50 i 0), .int (σ.1 50 i 1), .int (σ.1 50 i 2), .ref (A 51 i), .int (nI (arC c))])) := ⟨_, rfl⟩
        refine PW.heap (h' := h8) eh8.symm ?_
        have exc : xCn (rTs σ n i) i = c := by unfold xCn; rw [e50, hcc]; exact nI_clamp (by omega)
        have H8 : W9 G h8 A (xAdd (rTs σ n i) i) := by have z := H9.run hl9; rw [exc, e50, e51] at z; rw [eh8]; exact z
        have F8 : FR h h8 := by rw [eh8]; exact (F9.up c51 id).up ((va_up_ne _ _ (ne_oa c50 c51)).trans c50) id
        have c50' : h8 (A 50 i) = some (oB 10 [.int (σ.1 50 i 0), .int (σ.1 50 i 1), .int (σ.1 50 i 2), .ref (A 51 i), .int (nI (arC c))]) := by rw [eh8]; exact va_up_self _ _ _
        refine pw_iload_n (pc2 := 58) dX9_runTests_57 rfl rfl 2 rfl ?_
        refine pw_aload (pc2 := 60) dX9_runTests_58 rfl 0 rfl (by first | exact rf_ref _ | exact rf_opt _ | exact rf_nul) ?_
        refine pw_getN (pc2 := 63) kX7 (k := 2) (by decide) rfl fl_X9_167 c50' rfl dX9_runTests_60 rfl ?_
        refine pw_if_eq (tgt := 70) (pc2 := 66) dX9_runTests_63 (by decide) rfl (fun c63 => ?_) (fun c63 => ?_)
        · refine pw_iconst (pc2 := 71) (v := 0) dX9_runTests_70 rfl (by decide) ?_
          refine pw_iadd (pc2 := 72) dX9_runTests_71 rfl ?_
          refine pw_topi (fun v2 ev2 => ?_)
          refine pw_istore_n (pc2 := 73) (L2 := [(2, Value.int v2), (4, Value.ref (A 50 i)), (3, Value.int (nI i)), (0, Value.ref (A 0 0)), (1, Value.int n)]) dX9_runTests_72 rfl rfl (by decide) rfl ?_
          refine pw_iinc (pc2 := 76) (v := nI (i + 1)) (L2 := [(3, Value.int (nI (i + 1))), (2, Value.int v2), (4, Value.ref (A 50 i)), (0, Value.ref (A 0 0)), (1, Value.int n)]) dX9_runTests_73 rfl 2 rfl (by show nI _ + 1 = nI _; exact nI_1 _) (by decide) rfl ?_
          refine pw_goto (tgt := 14) dX9_runTests_76 (by decide) ?_
          refine PW.sub (L2 := [(3, Value.int (nI (i + 1))), (2, Value.int v2), (0, Value.ref (A 0 0)), (1, Value.int n)]) [0, 1, 3, 4] rfl ?_
          refine ih (i + 1) h8 v2 (by omega) ?_ F8 (by rw [(show flnN σ.1 n (i + 1) = if σ.1 50 i 0 = n then flnN σ.1 n i + (if σ.1 50 i 2 = 0 then 0 else 1) else flnN σ.1 n i from rfl), if_pos c44, ev2, hac]; first | rw [if_pos c63] | rw [if_neg c63])
          rw [show rTs σ n (i + 1) = if σ.1 50 i 0 = n then xAdd (rTs σ n i) i else rTs σ n i from rfl, if_pos c44]
          exact H8
        · refine pw_iconst (pc2 := 67) (v := 1) dX9_runTests_66 rfl (by decide) ?_
          refine pw_goto (tgt := 71) dX9_runTests_67 (by decide) ?_
          refine pw_iadd (pc2 := 72) dX9_runTests_71 rfl ?_
          refine pw_topi (fun v4 ev4 => ?_)
          refine pw_istore_n (pc2 := 73) (L2 := [(2, Value.int v4), (4, Value.ref (A 50 i)), (3, Value.int (nI i)), (0, Value.ref (A 0 0)), (1, Value.int n)]) dX9_runTests_72 rfl rfl (by decide) rfl ?_
          refine pw_iinc (pc2 := 76) (v := nI (i + 1)) (L2 := [(3, Value.int (nI (i + 1))), (2, Value.int v4), (4, Value.ref (A 50 i)), (0, Value.ref (A 0 0)), (1, Value.int n)]) dX9_runTests_73 rfl 2 rfl (by show nI _ + 1 = nI _; exact nI_1 _) (by decide) rfl ?_
          refine pw_goto (tgt := 14) dX9_runTests_76 (by decide) ?_
          refine PW.sub (L2 := [(3, Value.int (nI (i + 1))), (2, Value.int v4), (0, Value.ref (A 0 0)), (1, Value.int n)]) [0, 1, 3, 4] rfl ?_
          refine ih (i + 1) h8 v4 (by omega) ?_ F8 (by rw [(show flnN σ.1 n (i + 1) = if σ.1 50 i 0 = n then flnN σ.1 n i + (if σ.1 50 i 2 = 0 then 0 else 1) else flnN σ.1 n i from rfl), if_pos c44, ev4, hac]; first | rw [if_pos c63] | rw [if_neg c63])
          rw [show rTs σ n (i + 1) = if σ.1 50 i 0 = n then xAdd (rTs σ n i) i else rTs σ n i from rfl, if_pos c44]
          exact H8
  refine PW.sub (L2 := [(3, Value.int 0), (2, Value.int 0), (0, Value.ref (A 0 0)), (1, Value.int n)]) [0, 1, 2, 3] rfl ?_
  exact loop (nts σ) 0 h1 0 (by omega) H1 F1 rfl
/-- whether release r is stale -/
def stl (σ : sT) (r : Nat) : Prop := σ.1 40 r 2 = 0 ∧ ∃ k x, k < 6 ∧ σ.2.2 45 r k = some x ∧ ¬ σ.1 40 x 2 = 0
noncomputable def stN (σ : sT) : Nat → Int32
  | 0 => 0
  | r + 1 => stN σ r + dit (stl σ r) 1 0
theorem c_outd (G : hG) (h : hp) {A : aT} {σ : sT} (H : W9 G h A σ) {r : Nat} (hr : r < nrl σ) : PMet G MX5_isOutdated 1 0 0 [.ref (A 40 r)] h (bR (stl σ r) h) noX := by
  have hB := H.iv.2.2.2.2.2.2.2.1 r hr
  have e := H.tt hr
  have hc : isC h (TT A σ (A 40 r)).2.2.2.1 (A 45 r) (pa A (σ.2.2 45 r)) := by rw [e]; exact ⟨H.c44 hr, H.c45 hr⟩
  have hiff : staleP (TT A σ) (A 40 r) (pa A (σ.2.2 45 r)) ↔ stl σ r := by
    unfold staleP stl
    rw [e]
    constructor
    · rintro ⟨h1, k, y, hk, hy, hz⟩
      obtain ⟨x, hx, rfl⟩ := pa_some hy.symm
      rw [H.tt (hB k x hx)] at hz
      exact ⟨h1, k, x, hk, hx, hz⟩
    · rintro ⟨h1, k, x, hk, hx, hz⟩
      refine ⟨h1, k, A 40 x, hk, by unfold pa; rw [hx]; rfl, ?_⟩
      rw [H.tt (hB k x hx)]
      exact hz
  refine (c_rout G h (H.rel hr) hc (H.pk hB)).mono (fun r9 h2 q => ?_) (fun _ _ q => q)
  obtain ⟨q1, q2⟩ := q
  exact ⟨q1, by rw [hiff] at q2; exact q2⟩
set_option maxHeartbeats 4000000 in
set_option maxRecDepth 100000 in
theorem c_cstale (G : hG) (h : hp) {A : aT} {σ : sT} (H : W9 G h A σ) : PMet G MX9_countStale 3 0 0 [.ref (A 0 0)] h (det (some (.int (stN σ (nrl σ)))) h) noX := by
  have h20 := H.iv.2.2.1
  refine PMet.of (by decide +kernel) (Nat.le_of_ble_eq_true rfl) (fun d hd => ?_)
  refine PW.sub (L2 := [(0, Value.ref (A 0 0))]) [0] rfl ?_
  refine pw_iconst (pc2 := 1) (v := 0) dX9_countStale_0 rfl (by decide) ?_
  refine pw_istore_n (pc2 := 2) (L2 := [(1, Value.int 0), (0, Value.ref (A 0 0))]) dX9_countStale_1 rfl rfl (by decide) rfl ?_
  refine pw_iconst (pc2 := 3) (v := 0) dX9_countStale_2 rfl (by decide) ?_
  refine pw_istore_n (pc2 := 4) (L2 := [(2, Value.int 0), (1, Value.int 0), (0, Value.ref (A 0 0))]) dX9_countStale_3 rfl rfl (by decide) rfl ?_
  have loop : ∀ (k i : Nat) (ac : Int32) (hac : ac = stN σ i), i + k = nrl σ → PW G MX9_countStale d noA (E0 G (det (some (.int (stN σ (nrl σ)))) h) noX) 0 0 4 [(2, Value.int (nI i)), (1, Value.int ac), (0, Value.ref (A 0 0))] [] h := by
    intro k
    induction k with
    | zero =>
      intro i ac hac hik
      have hi9 : i = nrl σ := by omega
      refine pw_iload_n (pc2 := 5) dX9_countStale_4 rfl rfl 0 rfl ?_
      refine pw_aload_n (pc2 := 6) dX9_countStale_5 rfl rfl 2 rfl (by first | exact rf_ref _ | exact rf_opt _ | exact rf_nul) ?_
      refine pw_get (pc2 := 9) kX9 (k := 2) (by decide) rfl fl_X9_19 H.c0 rfl dX9_countStale_6 rfl ?_
      refine pw_callV1 (pc2 := 12) (c_lsize G _ H.lr) cs_X9_44 rfl rfl H.c5 dX9_countStale_9 rfl (by omega) rfl (by first | decide | simp [cat_rf, Value.category]) ?_
      refine pw_icmp_ge (tgt := 46) (pc2 := 15) dX9_countStale_12 (by decide) rfl (fun _ => ?_) (fun c12 => by exact absurd (by first | (rw [hi9]; exact Int32.le_refl _) | exact fun q => absurd ((nI_leI (a := nrl σ) (b := i) (by omega) (by omega)).mp q) (by omega)) c12)
      refine pw_iload_n (pc2 := 47) dX9_countStale_46 rfl rfl 1 rfl ?_
      refine pw_iret dX9_countStale_47 rfl (by first | rfl | assumption | simp [narrow]) ?_
      exact ⟨by rw [hac, hi9], rfl⟩
    | succ k ih =>
      intro i ac hac hik
      have hi9 : i < nrl σ := by omega
      refine pw_iload_n (pc2 := 5) dX9_countStale_4 rfl rfl 0 rfl ?_
      refine pw_aload_n (pc2 := 6) dX9_countStale_5 rfl rfl 2 rfl (by first | exact rf_ref _ | exact rf_opt _ | exact rf_nul) ?_
      refine pw_get (pc2 := 9) kX9 (k := 2) (by decide) rfl fl_X9_19 H.c0 rfl dX9_countStale_6 rfl ?_
      refine pw_callV1 (pc2 := 12) (c_lsize G _ H.lr) cs_X9_44 rfl rfl H.c5 dX9_countStale_9 rfl (by omega) rfl (by first | decide | simp [cat_rf, Value.category]) ?_
      refine pw_icmp_ge (tgt := 46) (pc2 := 15) dX9_countStale_12 (by decide) rfl (fun c12 => by exact absurd c12 (by first | (rw [hi9]; exact Int32.le_refl _) | exact fun q => absurd ((nI_leI (a := nrl σ) (b := i) (by omega) (by omega)).mp q) (by omega))) (fun _ => ?_)
      refine pw_iload_n (pc2 := 16) dX9_countStale_15 rfl rfl 1 rfl ?_
      refine pw_aload_n (pc2 := 17) dX9_countStale_16 rfl rfl 2 rfl (by first | exact rf_ref _ | exact rf_opt _ | exact rf_nul) ?_
      refine pw_get (pc2 := 20) kX9 (k := 2) (by decide) rfl fl_X9_19 H.c0 rfl dX9_countStale_17 rfl ?_
      refine pw_iload_n (pc2 := 21) dX9_countStale_20 rfl rfl 0 rfl ?_
      refine pw_callV1 (pc2 := 24) (c_lget G _ H.lr (i := i) hi9) cs_X9_181 rfl rfl H.c5 dX9_countStale_21 rfl (by omega) rfl (by first | decide | simp [cat_rf, Value.category]) ?_
      refine pw_castS (pc2 := 27) (cj := 8) rfl cl_X9_251 (H.c40 hi9) dX9_countStale_24 rfl ?_
      refine pw_callVb (pc2 := 30) (c_outd G _ H hi9) cs_X9_271 rfl rfl (H.c40 hi9) dX9_countStale_27 rfl (by omega) rfl (by first | decide | simp [cat_rf, Value.category]) (fun q27 => ?_) (fun q27 => ?_)
      · refine pw_if_eq (tgt := 37) (pc2 := 33) dX9_countStale_30 (by decide) rfl (fun c30 => by exact absurd c30 (by decide)) (fun _ => ?_)
        refine pw_iconst (pc2 := 34) (v := 1) dX9_countStale_33 rfl (by decide) ?_
        refine pw_goto (tgt := 38) dX9_countStale_34 (by decide) ?_
        refine pw_iadd (pc2 := 39) dX9_countStale_38 rfl ?_
        refine pw_topi (fun v1 ev1 => ?_)
        refine pw_istore_n (pc2 := 40) (L2 := [(1, Value.int v1), (2, Value.int (nI i)), (0, Value.ref (A 0 0))]) dX9_countStale_39 rfl rfl (by decide) rfl ?_
        refine pw_iinc (pc2 := 43) (v := nI (i + 1)) (L2 := [(2, Value.int (nI (i + 1))), (1, Value.int v1), (0, Value.ref (A 0 0))]) dX9_countStale_40 rfl 1 rfl (by show nI _ + 1 = nI _; exact nI_1 _) (by decide) rfl ?_
        refine pw_goto (tgt := 4) dX9_countStale_43 (by decide) ?_
        refine PW.sub (L2 := [(2, Value.int (nI (i + 1))), (1, Value.int v1), (0, Value.ref (A 0 0))]) [0, 1, 2] rfl ?_
        refine ih (i + 1) v1 ?_ (by omega)
        rw [show stN σ (i + 1) = stN σ i + dit (stl σ i) 1 0 from rfl, ev1, hac]
        first | rw [dit_t q27] | rw [dit_f q27]
      · refine pw_if_eq (tgt := 37) (pc2 := 33) dX9_countStale_30 (by decide) rfl (fun _ => ?_) (fun c30 => by exact absurd (by decide) c30)
        refine pw_iconst (pc2 := 38) (v := 0) dX9_countStale_37 rfl (by decide) ?_
        refine pw_iadd (pc2 := 39) dX9_countStale_38 rfl ?_
        refine pw_topi (fun v3 ev3 => ?_)
        refine pw_istore_n (pc2 := 40) (L2 := [(1, Value.int v3), (2, Value.int (nI i)), (0, Value.ref (A 0 0))]) dX9_countStale_39 rfl rfl (by decide) rfl ?_
        refine pw_iinc (pc2 := 43) (v := nI (i + 1)) (L2 := [(2, Value.int (nI (i + 1))), (1, Value.int v3), (0, Value.ref (A 0 0))]) dX9_countStale_40 rfl 1 rfl (by show nI _ + 1 = nI _; exact nI_1 _) (by decide) rfl ?_
        refine pw_goto (tgt := 4) dX9_countStale_43 (by decide) ?_
        refine PW.sub (L2 := [(2, Value.int (nI (i + 1))), (1, Value.int v3), (0, Value.ref (A 0 0))]) [0, 1, 2] rfl ?_
        refine ih (i + 1) v3 ?_ (by omega)
        rw [show stN σ (i + 1) = stN σ i + dit (stl σ i) 1 0 from rfl, ev3, hac]
        first | rw [dit_t q27] | rw [dit_f q27]
  refine PW.sub (L2 := [(2, Value.int 0), (1, Value.int 0), (0, Value.ref (A 0 0))]) [0, 1, 2] rfl ?_
  exact loop (nrl σ) 0 0 rfl (by omega)
