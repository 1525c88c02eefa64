/-! PackageForge$Pack in the world: the version ahead, a release by its version, whether it passed -/
/-- the version ahead -/
def vAh (σ : sT) (p : Nat) : Int32 := if rnp σ p = 0 then 100 else if σ.1 40 (ixp σ p (rnp σ p - 1)) 1 = σ.1 21 p 0 then σ.1 40 (ixp σ p (rnp σ p - 1)) 0 + 1 else (σ.1 40 (ixp σ p (rnp σ p - 1)) 0 / 100 + 1) * 100
/-- the first release of a package with a version, if it has one -/
def fdV (σ : sT) (p : Nat) (v : Int32) : Nat → Nat → Option Nat
  | _, 0 => none
  | i, k + 1 => if σ.1 40 (ixp σ p i) 0 = v then some (ixp σ p i) else fdV σ p v (i + 1) k
set_option maxHeartbeats 4000000 in
set_option maxRecDepth 100000 in
theorem c_pahead (G : hG) (h : hp) {A : aT} {σ : sT} (H : W9 G h A σ) {p : Nat} (hp : p < npk σ) : PMet G MX4_versionAhead 3 0 0 [.ref (A 20 p)] h (det (some (.int (vAh σ p))) h) noX := by
  have h20 := H.rn20 hp
  refine PMet.of (by decide +kernel) (Nat.le_of_ble_eq_true rfl) (fun d hd => ?_)
  refine PW.sub (L2 := [(0, Value.ref (A 20 p))]) [0] rfl ?_
  refine pw_aload_n (pc2 := 1) dX4_versionAhead_0 rfl rfl 0 rfl (by first | exact rf_ref _ | exact rf_opt _ | exact rf_nul) ?_
  refine pw_get (pc2 := 4) kX4 (k := 4) (by decide) rfl fl_X4_39 (H.c20 hp) rfl dX4_versionAhead_1 rfl ?_
  refine pw_callVb (pc2 := 7) (c_lempty G _ (H.lk hp)) cs_X4_62 rfl rfl (H.c34 hp) dX4_versionAhead_4 rfl (by omega) rfl (by first | decide | simp [cat_rf, Value.category]) (fun q4 => ?_) (fun q4 => ?_)
  · refine pw_if_eq (tgt := 13) (pc2 := 10) dX4_versionAhead_7 (by decide) rfl (fun c7 => by exact absurd c7 (by decide)) (fun _ => ?_)
    refine pw_bipush (pc2 := 12) (v := 100) dX4_versionAhead_10 rfl (by decide) ?_
    refine pw_iret dX4_versionAhead_12 rfl (by first | rfl | assumption | simp [narrow]) ?_
    exact ⟨by unfold vAh; rw [if_pos q4], rfl⟩
  · have hx := H.ixl hp (j := rnp σ p - 1) (by omega)
    refine pw_if_eq (tgt := 13) (pc2 := 10) dX4_versionAhead_7 (by decide) rfl (fun _ => ?_) (fun c7 => by exact absurd (by decide) c7)
    refine pw_aload_n (pc2 := 14) dX4_versionAhead_13 rfl rfl 0 rfl (by first | exact rf_ref _ | exact rf_opt _ | exact rf_nul) ?_
    refine pw_get (pc2 := 17) kX4 (k := 4) (by decide) rfl fl_X4_39 (H.c20 hp) rfl dX4_versionAhead_14 rfl ?_
    refine pw_aload_n (pc2 := 18) dX4_versionAhead_17 rfl rfl 0 rfl (by first | exact rf_ref _ | exact rf_opt _ | exact rf_nul) ?_
    refine pw_get (pc2 := 21) kX4 (k := 4) (by decide) rfl fl_X4_39 (H.c20 hp) rfl dX4_versionAhead_18 rfl ?_
    refine pw_callV1 (pc2 := 24) (c_lsize G _ (H.lk hp)) cs_X4_66 rfl rfl (H.c34 hp) dX4_versionAhead_21 rfl (by omega) rfl (by first | decide | simp [cat_rf, Value.category]) ?_
    refine pw_iconst (pc2 := 25) (v := 1) dX4_versionAhead_24 rfl (by decide) ?_
    refine pw_isub (pc2 := 26) dX4_versionAhead_25 rfl ?_
    refine pw_topE (nI_sub1 (by omega)) ?_
    refine pw_callV1 (pc2 := 29) (c_lget G _ (H.lk hp) (i := rnp σ p - 1) (by omega)) cs_X4_70 rfl rfl (H.c34 hp) dX4_versionAhead_26 rfl (by omega) rfl (by first | decide | simp [cat_rf, Value.category]) ?_
    refine pw_castS (pc2 := 32) (cj := 8) rfl cl_X4_74 (H.c40 hx) dX4_versionAhead_29 rfl ?_
    refine pw_astore_n (pc2 := 33) (L2 := [(1, Value.ref (A 40 (ixp σ p (rnp σ p - 1)))), (0, Value.ref (A 20 p))]) dX4_versionAhead_32 rfl rfl (by decide) (by first | exact rf_ref _ | exact rf_opt _ | exact rf_nul) rfl ?_
    refine pw_aload_n (pc2 := 34) dX4_versionAhead_33 rfl rfl 0 rfl (by first | exact rf_ref _ | exact rf_opt _ | exact rf_nul) ?_
    refine pw_getN (pc2 := 37) kX5 (k := 1) (by decide) rfl fl_X4_76 (H.c40 hx) rfl dX4_versionAhead_34 rfl ?_
    refine pw_aload_n (pc2 := 38) dX4_versionAhead_37 rfl rfl 1 rfl (by first | exact rf_ref _ | exact rf_opt _ | exact rf_nul) ?_
    refine pw_get (pc2 := 41) kX4 (k := 1) (by decide) rfl fl_X4_18 (H.c20 hp) rfl dX4_versionAhead_38 rfl ?_
    refine pw_getN (pc2 := 44) kX6 (k := 0) (by decide) rfl fl_X4_79 (H.c21 hp) rfl dX4_versionAhead_41 rfl ?_
    refine pw_icmp_ne (tgt := 54) (pc2 := 47) dX4_versionAhead_44 (by decide) rfl (fun c44 => ?_) (fun c44 => ?_)
    · refine pw_aload_n (pc2 := 55) dX4_versionAhead_54 rfl rfl 0 rfl (by first | exact rf_ref _ | exact rf_opt _ | exact rf_nul) ?_
      refine pw_getN (pc2 := 58) kX5 (k := 0) (by decide) rfl fl_X4_80 (H.c40 hx) rfl dX4_versionAhead_55 rfl ?_
      refine pw_bipush (pc2 := 60) (v := 100) dX4_versionAhead_58 rfl (by decide) ?_
      refine pw_idiv (pc2 := 61) dX4_versionAhead_60 rfl (by decide) ?_
      refine pw_iconst (pc2 := 62) (v := 1) dX4_versionAhead_61 rfl (by decide) ?_
      refine pw_iadd (pc2 := 63) dX4_versionAhead_62 rfl ?_
      refine pw_bipush (pc2 := 65) (v := 100) dX4_versionAhead_63 rfl (by decide) ?_
      refine pw_imul (pc2 := 66) dX4_versionAhead_65 rfl ?_
      refine pw_iret dX4_versionAhead_66 rfl (by first | rfl | assumption | simp [narrow]) ?_
      exact ⟨by unfold vAh; rw [if_neg q4]; first | rw [if_pos c44] | rw [if_neg c44], rfl⟩
    · refine pw_aload_n (pc2 := 48) dX4_versionAhead_47 rfl rfl 0 rfl (by first | exact rf_ref _ | exact rf_opt _ | exact rf_nul) ?_
      refine pw_getN (pc2 := 51) kX5 (k := 0) (by decide) rfl fl_X4_80 (H.c40 hx) rfl dX4_versionAhead_48 rfl ?_
      refine pw_iconst (pc2 := 52) (v := 1) dX4_versionAhead_51 rfl (by decide) ?_
      refine pw_iadd (pc2 := 53) dX4_versionAhead_52 rfl ?_
      refine pw_iret dX4_versionAhead_53 rfl (by first | rfl | assumption | simp [narrow]) ?_
      exact ⟨by unfold vAh; rw [if_neg q4]; first | rw [if_pos c44] | rw [if_neg c44], rfl⟩
set_option maxHeartbeats 4000000 in
set_option maxRecDepth 100000 in
theorem c_prelof (G : hG) (h : hp) {A : aT} {σ : sT} (H : W9 G h A σ) {p : Nat} (hp : p < npk σ) (v : Int32) : PMet G MX4_releaseOf 3 0 0 [.ref (A 20 p), .int v] h (fun r h2 => r = some (va_rf ((fdV σ p v 0 (rnp σ p)).map (A 40))) ∧ h2 = h) noX := by
  have h20 := H.rn20 hp
  refine PMet.of (by decide +kernel) (Nat.le_of_ble_eq_true rfl) (fun d hd => ?_)
  refine PW.sub (L2 := [(0, Value.ref (A 20 p)), (1, Value.int v)]) [0, 1] rfl ?_
  refine pw_iconst (pc2 := 1) (v := 0) dX4_releaseOf_0 rfl (by decide) ?_
  refine pw_istore_n (pc2 := 2) (L2 := [(2, Value.int 0), (0, Value.ref (A 20 p)), (1, Value.int v)]) dX4_releaseOf_1 rfl rfl (by decide) rfl ?_
  have loop : ∀ (k i : Nat) (hf : fdV σ p v 0 (rnp σ p) = fdV σ p v i (rnp σ p - i)), i + k = rnp σ p → PW G MX4_releaseOf d noA (E0 G (fun r h2 => r = some (va_rf ((fdV σ p v 0 (rnp σ p)).map (A 40))) ∧ h2 = h) noX) 0 0 2 [(2, Value.int (nI i)), (0, Value.ref (A 20 p)), (1, Value.int v)] [] h := by
    intro k
    induction k with
    | zero =>
      intro i hf hik
      have hi9 : i = rnp σ p := by omega
      refine pw_iload_n (pc2 := 3) dX4_releaseOf_2 rfl rfl 0 rfl ?_
      refine pw_aload_n (pc2 := 4) dX4_releaseOf_3 rfl rfl 1 rfl (by first | exact rf_ref _ | exact rf_opt _ | exact rf_nul) ?_
      refine pw_get (pc2 := 7) kX4 (k := 4) (by decide) rfl fl_X4_39 (H.c20 hp) rfl dX4_releaseOf_4 rfl ?_
      refine pw_callV1 (pc2 := 10) (c_lsize G _ (H.lk hp)) cs_X4_66 rfl rfl (H.c34 hp) dX4_releaseOf_7 rfl (by omega) rfl (by first | decide | simp [cat_rf, Value.category]) ?_
      refine pw_icmp_ge (tgt := 41) (pc2 := 13) dX4_releaseOf_10 (by decide) rfl (fun _ => ?_) (fun c10 => by exact absurd (by first | (rw [hi9]; exact Int32.le_refl _) | exact fun q => absurd ((nI_leI (a := rnp σ p) (b := i) (by omega) (by omega)).mp q) (by omega)) c10)
      refine pw_null (pc2 := 42) dX4_releaseOf_41 rfl ?_
      refine pw_aret dX4_releaseOf_42 rfl (by first | exact Or.inl ⟨_, rfl⟩ | exact Or.inr ⟨_, rfl⟩) (by first | exact rf_ref _ | exact rf_opt _ | exact rf_nul) ?_
      exact ⟨by rw [hf, hi9, Nat.sub_self]; rfl, rfl⟩
    | succ k ih =>
      intro i hf hik
      have hi9 : i < rnp σ p := by omega
      have hx := H.ixl hp (j := i) hi9
      refine pw_iload_n (pc2 := 3) dX4_releaseOf_2 rfl rfl 0 rfl ?_
      refine pw_aload_n (pc2 := 4) dX4_releaseOf_3 rfl rfl 1 rfl (by first | exact rf_ref _ | exact rf_opt _ | exact rf_nul) ?_
      refine pw_get (pc2 := 7) kX4 (k := 4) (by decide) rfl fl_X4_39 (H.c20 hp) rfl dX4_releaseOf_4 rfl ?_
      refine pw_callV1 (pc2 := 10) (c_lsize G _ (H.lk hp)) cs_X4_66 rfl rfl (H.c34 hp) dX4_releaseOf_7 rfl (by omega) rfl (by first | decide | simp [cat_rf, Value.category]) ?_
      refine pw_icmp_ge (tgt := 41) (pc2 := 13) dX4_releaseOf_10 (by decide) rfl (fun c10 => by exact absurd c10 (by first | (rw [hi9]; exact Int32.le_refl _) | exact fun q => absurd ((nI_leI (a := rnp σ p) (b := i) (by omega) (by omega)).mp q) (by omega))) (fun _ => ?_)
      refine pw_aload_n (pc2 := 14) dX4_releaseOf_13 rfl rfl 1 rfl (by first | exact rf_ref _ | exact rf_opt _ | exact rf_nul) ?_
      refine pw_get (pc2 := 17) kX4 (k := 4) (by decide) rfl fl_X4_39 (H.c20 hp) rfl dX4_releaseOf_14 rfl ?_
      refine pw_iload_n (pc2 := 18) dX4_releaseOf_17 rfl rfl 0 rfl ?_
      refine pw_callV1 (pc2 := 21) (c_lget G _ (H.lk hp) (i := i) hi9) cs_X4_70 rfl rfl (H.c34 hp) dX4_releaseOf_18 rfl (by omega) rfl (by first | decide | simp [cat_rf, Value.category]) ?_
      refine pw_castS (pc2 := 24) (cj := 8) rfl cl_X4_74 (H.c40 hx) dX4_releaseOf_21 rfl ?_
      refine pw_astore_n (pc2 := 25) (L2 := [(3, Value.ref (A 40 (ixp σ p i))), (2, Value.int (nI i)), (0, Value.ref (A 20 p)), (1, Value.int v)]) dX4_releaseOf_24 rfl rfl (by decide) (by first | exact rf_ref _ | exact rf_opt _ | exact rf_nul) rfl ?_
      refine pw_aload_n (pc2 := 26) dX4_releaseOf_25 rfl rfl 0 rfl (by first | exact rf_ref _ | exact rf_opt _ | exact rf_nul) ?_
      refine pw_getN (pc2 := 29) kX5 (k := 0) (by decide) rfl fl_X4_80 (H.c40 hx) rfl dX4_releaseOf_26 rfl ?_
      refine pw_iload_n (pc2 := 30) dX4_releaseOf_29 rfl rfl 3 rfl ?_
      refine pw_icmp_ne (tgt := 35) (pc2 := 33) dX4_releaseOf_30 (by decide) rfl (fun c30 => ?_) (fun c30 => ?_)
      · refine pw_iinc (pc2 := 38) (v := nI (i + 1)) (L2 := [(2, Value.int (nI (i + 1))), (3, Value.ref (A 40 (ixp σ p i))), (0, Value.ref (A 20 p)), (1, Value.int v)]) dX4_releaseOf_35 rfl 1 rfl (by show nI _ + 1 = nI _; exact nI_1 _) (by decide) rfl ?_
        refine pw_goto (tgt := 2) dX4_releaseOf_38 (by decide) ?_
        refine PW.sub (L2 := [(2, Value.int (nI (i + 1))), (0, Value.ref (A 20 p)), (1, Value.int v)]) [0, 2, 3] rfl ?_
        refine ih (i + 1) ?_ (by omega)
        rw [hf, show rnp σ p - i = rnp σ p - (i + 1) + 1 by omega]
        exact if_neg c30
      · refine pw_aload_n (pc2 := 34) dX4_releaseOf_33 rfl rfl 0 rfl (by first | exact rf_ref _ | exact rf_opt _ | exact rf_nul) ?_
        refine pw_aret dX4_releaseOf_34 rfl (by first | exact Or.inl ⟨_, rfl⟩ | exact Or.inr ⟨_, rfl⟩) (by first | exact rf_ref _ | exact rf_opt _ | exact rf_nul) ?_
        exact ⟨by rw [hf, show rnp σ p - i = rnp σ p - (i + 1) + 1 by omega]; unfold fdV; rw [if_pos c30]; rfl, rfl⟩
  refine PW.sub (L2 := [(2, Value.int 0), (0, Value.ref (A 20 p)), (1, Value.int v)]) [0, 1, 2] rfl ?_
  exact loop (rnp σ p) 0 rfl (by omega)
def psW (σ : sT) (p : Nat) (g : Nat → Option Nat) : Prop := ¬ σ.1 27 p 0 = 0 ∧ (σ.1 28 p 0 = σ.1 21 p 0 ∧ σ.1 28 p 1 = σ.1 21 p 1 ∧ ∀ j, j < 6 → σ.1 30 p j = σ.1 23 p j ∧ σ.1 31 p j = σ.1 24 p j) ∧ ∀ j, j < 6 → σ.2.2 33 p j = g j
theorem cdN_0 {P Q : Nat → Option Nat} : ∀ n : Nat, n ≤ 6 → (cdN P Q n = 0 ↔ ∀ j, j < n → P j = Q j) ∧ cdN P Q n = nI ((cdN P Q n).toNatClampNeg) ∧ (cdN P Q n).toNatClampNeg ≤ n
  | 0, _ => ⟨⟨fun _ j hj => absurd hj (Nat.not_lt_zero j), fun _ => rfl⟩, rfl, Nat.le_refl _⟩
  | n + 1, hn => by
    obtain ⟨h1, h2, h3⟩ := cdN_0 (P := P) (Q := Q) n (by omega)
    unfold cdN
    by_cases e : P n = Q n
    · rw [if_pos e, Int32.add_zero]
      refine ⟨⟨fun q j hj => ?_, fun q => h1.mpr (fun j hj => q j (by omega))⟩, h2, by omega⟩
      by_cases hj2 : j = n
      · rw [hj2]; exact e
      · exact h1.mp q j (by omega)
    · rw [if_neg e]
      rw [h2, nI_1, nI_clamp (by omega)]
      refine ⟨⟨fun q => absurd q (nI_ne0 (by omega) (by omega)), fun q => absurd (q n (by omega)) e⟩, rfl, by omega⟩
theorem pa_inj {G : hG} {h : hp} {A : aT} {σ : sT} (H : W9 G h A σ) {g1 g2 : Nat → Option Nat} (h1 : pkB σ g1) (h2 : pkB σ g2) {j : Nat} (hj : j < 6) : pa A g1 j = pa A g2 j ↔ g1 j = g2 j := by
  unfold pa
  constructor
  · intro e
    cases e1 : g1 j with
    | none =>
      cases e2 : g2 j with
      | none => rfl
      | some y => rw [e1, e2] at e; cases e
    | some x =>
      cases e2 : g2 j with
      | none => rw [e1, e2] at e; cases e
      | some y =>
        rw [e1, e2] at e
        have := Option.some.inj e
        rw [((H.2.1 40 x (h1 j x e1)).2 40 y (h2 j y e2) this).2]
  · intro e
    rw [e]
set_option maxHeartbeats 4000000 in
set_option maxRecDepth 100000 in
theorem c_ppass (G : hG) (h : hp) {A : aT} {σ : sT} (H : W9 G h A σ) {p : Nat} (hp : p < npk σ) {c pc : Nat} {g : Nat → Option Nat} (hc : isC h c pc (pa A g)) (hg : pkB σ g) : PMet G MX4_isPassedWith 2 0 0 [.ref (A 20 p), .ref c] h (bR (psW σ p g) h) noX := by
  refine PMet.of (by decide +kernel) (Nat.le_of_ble_eq_true rfl) (fun d hd => ?_)
  refine PW.sub (L2 := [(0, Value.ref (A 20 p)), (1, Value.ref c)]) [0, 1] rfl ?_
  refine pw_aload_n (pc2 := 1) dX4_isPassedWith_0 rfl rfl 1 rfl (by first | exact rf_ref _ | exact rf_opt _ | exact rf_nul) ?_
  refine pw_ifnull (r := some c) (tgt := 49) (pc2 := 4) dX4_isPassedWith_1 (by decide) rfl (fun c1 => by cases c1) (fun a1 c1 => ?_)
  refine pw_aload_n (pc2 := 5) dX4_isPassedWith_4 rfl rfl 0 rfl (by first | exact rf_ref _ | exact rf_opt _ | exact rf_nul) ?_
  refine pw_get (pc2 := 8) kX4 (k := 3) (by decide) rfl fl_X4_32 (H.c20 hp) rfl dX4_isPassedWith_5 rfl ?_
  refine pw_getN (pc2 := 11) kX8 (k := 0) (by decide) rfl fl_X4_43 (H.c27 hp) rfl dX4_isPassedWith_8 rfl ?_
  refine pw_if_eq (tgt := 49) (pc2 := 14) dX4_isPassedWith_11 (by decide) rfl (fun c11 => ?_) (fun c11 => ?_)
  · refine pw_iconst (pc2 := 50) (v := 0) dX4_isPassedWith_49 rfl (by decide) ?_
    refine pw_iret dX4_isPassedWith_50 rfl (by first | rfl | assumption | simp [narrow]) ?_
    first | exact bR_0 (fun q => q.1 c11) | exact bR_0 (fun q => q25 q.2.1) | exact bR_0 (fun q => c42 ((cdN_0 6 (by decide)).1.mpr (fun j hj => (pa_inj H (H.iv.2.2.2.2.2.2.1 p hp) hg hj).mpr (q.2.2 j hj))))
  · refine pw_aload_n (pc2 := 15) dX4_isPassedWith_14 rfl rfl 0 rfl (by first | exact rf_ref _ | exact rf_opt _ | exact rf_nul) ?_
    refine pw_get (pc2 := 18) kX4 (k := 3) (by decide) rfl fl_X4_32 (H.c20 hp) rfl dX4_isPassedWith_15 rfl ?_
    refine pw_getN (pc2 := 21) kX8 (k := 1) (by decide) rfl fl_X4_47 (H.c27 hp) rfl dX4_isPassedWith_18 rfl ?_
    refine pw_aload_n (pc2 := 22) dX4_isPassedWith_21 rfl rfl 0 rfl (by first | exact rf_ref _ | exact rf_opt _ | exact rf_nul) ?_
    refine pw_get (pc2 := 25) kX4 (k := 1) (by decide) rfl fl_X4_18 (H.c20 hp) rfl dX4_isPassedWith_22 rfl ?_
    refine pw_callVb (pc2 := 28) (c_ssame G _ ⟨H.c28 hp, H.c29 hp, H.c30 hp, H.c31 hp, H.ne (t := 30) (u := 31) (i := p) (j := p) hp hp (Or.inl (by decide))⟩ ⟨H.c21 hp, H.c22 hp, H.c23 hp, H.c24 hp, H.ne (t := 23) (u := 24) (i := p) (j := p) hp hp (Or.inl (by decide))⟩) cs_X4_48 rfl rfl (H.c28 hp) dX4_isPassedWith_25 rfl (by omega) rfl (by first | decide | simp [cat_rf, Value.category]) (fun q25 => ?_) (fun q25 => ?_)
    · refine pw_if_eq (tgt := 49) (pc2 := 31) dX4_isPassedWith_28 (by decide) rfl (fun c28 => by exact absurd c28 (by decide)) (fun _ => ?_)
      refine pw_aload_n (pc2 := 32) dX4_isPassedWith_31 rfl rfl 0 rfl (by first | exact rf_ref _ | exact rf_opt _ | exact rf_nul) ?_
      refine pw_get (pc2 := 35) kX4 (k := 3) (by decide) rfl fl_X4_32 (H.c20 hp) rfl dX4_isPassedWith_32 rfl ?_
      refine pw_getN (pc2 := 38) kX8 (k := 2) (by decide) rfl fl_X4_52 (H.c27 hp) rfl dX4_isPassedWith_35 rfl ?_
      refine pw_aload_n (pc2 := 39) dX4_isPassedWith_38 rfl rfl 1 rfl (by first | exact rf_ref _ | exact rf_opt _ | exact rf_nul) ?_
      refine pw_callV1 (pc2 := 42) (c_cdiff G _ ⟨H.c32 hp, H.c33 hp⟩ hc) cs_X4_56 rfl rfl (H.c32 hp) dX4_isPassedWith_39 rfl (by omega) rfl (by first | decide | simp [cat_rf, Value.category]) ?_
      refine pw_if_ne (tgt := 49) (pc2 := 45) dX4_isPassedWith_42 (by decide) rfl (fun c42 => ?_) (fun c42 => ?_)
      · refine pw_iconst (pc2 := 50) (v := 0) dX4_isPassedWith_49 rfl (by decide) ?_
        refine pw_iret dX4_isPassedWith_50 rfl (by first | rfl | assumption | simp [narrow]) ?_
        first | exact bR_0 (fun q => q.1 c11) | exact bR_0 (fun q => q25 q.2.1) | exact bR_0 (fun q => c42 ((cdN_0 6 (by decide)).1.mpr (fun j hj => (pa_inj H (H.iv.2.2.2.2.2.2.1 p hp) hg hj).mpr (q.2.2 j hj))))
      · refine pw_iconst (pc2 := 46) (v := 1) dX4_isPassedWith_45 rfl (by decide) ?_
        refine pw_goto (tgt := 50) dX4_isPassedWith_46 (by decide) ?_
        refine pw_iret dX4_isPassedWith_50 rfl (by first | rfl | assumption | simp [narrow]) ?_
        exact bR_1 ⟨c11, q25, fun j hj => (pa_inj H (H.iv.2.2.2.2.2.2.1 p hp) hg hj).mp ((cdN_0 6 (by decide)).1.mp c42 j hj)⟩
    · refine pw_if_eq (tgt := 49) (pc2 := 31) dX4_isPassedWith_28 (by decide) rfl (fun _ => ?_) (fun c28 => by exact absurd (by decide) c28)
      refine pw_iconst (pc2 := 50) (v := 0) dX4_isPassedWith_49 rfl (by decide) ?_
      refine pw_iret dX4_isPassedWith_50 rfl (by first | rfl | assumption | simp [narrow]) ?_
      first | exact bR_0 (fun q => q.1 c11) | exact bR_0 (fun q => q25 q.2.1) | exact bR_0 (fun q => c42 ((cdN_0 6 (by decide)).1.mpr (fun j hj => (pa_inj H (H.iv.2.2.2.2.2.2.1 p hp) hg hj).mpr (q.2.2 j hj))))
set_option maxHeartbeats 4000000 in
set_option maxRecDepth 100000 in
theorem c_ppass0 (G : hG) (h : hp) {A : aT} {σ : sT} (H : W9 G h A σ) {p : Nat} (hp : p < npk σ) : PMet G MX4_isPassedWith 2 0 0 [.ref (A 20 p), .null] h (bR False h) noX := by
  refine PMet.of (by decide +kernel) (Nat.le_of_ble_eq_true rfl) (fun d hd => ?_)
  refine PW.sub (L2 := [(0, Value.ref (A 20 p)), (1, Value.null)]) [0, 1] rfl ?_
  refine pw_aload_n (pc2 := 1) dX4_isPassedWith_0 rfl rfl 1 rfl (by first | exact rf_ref _ | exact rf_opt _ | exact rf_nul) ?_
  refine pw_ifnull (r := none) (tgt := 49) (pc2 := 4) dX4_isPassedWith_1 (by decide) rfl (fun _ => ?_) (fun a1 c1 => by cases c1)
  refine pw_iconst (pc2 := 50) (v := 0) dX4_isPassedWith_49 rfl (by decide) ?_
  refine pw_iret dX4_isPassedWith_50 rfl (by first | rfl | assumption | simp [narrow]) ?_
  exact bR_0 id
