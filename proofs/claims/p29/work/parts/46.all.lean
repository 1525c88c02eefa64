/-! PackageForge$Chooser: going through all ways -/
theorem nI_mul (a b : Nat) : nI a * nI b = nI (a * b) := (Int32.ofNat_mul a b).symm
set_option maxHeartbeats 4000000 in
set_option maxRecDepth 100000 in
theorem c_ischoice (G : hG) (h : hp) {A : aT} {σ : sT} (H : W9 G h A σ) {nd a b : Nat} {le gr : Nat → Int32} (hn : isN h nd a b le gr) : PMet G MX2_isChoice 4 0 0 [.ref nd, .ref (A 10 0)] h (bR (chc σ.1 le gr (σ.2.2 11 0)) h) noX := by
  have hgb : pkB σ (σ.2.2 11 0) := H.iv.2.2.2.2.2.1
  refine PMet.of (by decide +kernel) (Nat.le_of_ble_eq_true rfl) (fun d hd => ?_)
  refine PW.sub (L2 := [(0, Value.ref nd), (1, Value.ref (A 10 0))]) [0, 1] rfl ?_
  refine pw_iconst (pc2 := 1) (v := 5) dX2_isChoice_0 rfl (by decide) ?_
  refine pw_istore_n (pc2 := 2) (L2 := [(2, Value.int 5), (0, Value.ref nd), (1, Value.ref (A 10 0))]) dX2_isChoice_1 rfl rfl (by decide) rfl ?_
  have loop : ∀ (m : Nat) (_hm : m ≤ 6) (hal : ∀ j, m ≤ j → j < 6 → chc1 σ.1 le gr (σ.2.2 11 0) j), PW G MX2_isChoice d noA (E0 G (bR (chc σ.1 le gr (σ.2.2 11 0)) h) noX) 0 0 2 [(2, Value.int (oth m)), (0, Value.ref nd), (1, Value.ref (A 10 0))] [] h := by
    intro m
    induction m with
    | zero =>
      intro hm hal
      refine pw_iload_n (pc2 := 3) dX2_isChoice_2 rfl rfl 0 rfl ?_
      refine pw_if_lt (tgt := 54) (pc2 := 6) dX2_isChoice_3 (by decide) rfl (fun _ => ?_) (fun c3 => by exact absurd (by decide) c3)
      refine pw_iconst (pc2 := 55) (v := 1) dX2_isChoice_54 rfl (by decide) ?_
      refine pw_iret dX2_isChoice_55 rfl (by first | rfl | assumption | simp [narrow]) ?_
      exact bR_1 (fun j hj => hal j (Nat.zero_le j) hj)
    | succ m ih =>
      intro hm hal
      rw [oth_s]
      have hm6 : m < 6 := by omega
      refine pw_iload_n (pc2 := 3) dX2_isChoice_2 rfl rfl 0 rfl ?_
      refine pw_if_lt (tgt := 54) (pc2 := 6) dX2_isChoice_3 (by decide) rfl (fun c3 => by exact absurd c3 (nI_pos (by omega))) (fun _ => ?_)
      refine pw_aload_n (pc2 := 7) dX2_isChoice_6 rfl rfl 2 rfl (by first | exact rf_ref _ | exact rf_opt _ | exact rf_nul) ?_
      refine pw_iload_n (pc2 := 8) dX2_isChoice_7 rfl rfl 0 rfl ?_
      refine pw_callV1 (pc2 := 11) (c_cat G _ ⟨H.c10, H.c11⟩ (i := m) hm6) cs_X2_84 rfl rfl H.c10 dX2_isChoice_8 rfl (by omega) rfl (by first | decide | simp [cat_rf, Value.category]) ?_
      refine pw_topr (fun r1 er1 => ?_)
      refine pw_astore_n (pc2 := 12) (L2 := [(3, va_rf r1), (2, Value.int (nI m)), (0, Value.ref nd), (1, Value.ref (A 10 0))]) dX2_isChoice_11 rfl rfl (by decide) (by first | exact rf_ref _ | exact rf_opt _ | exact rf_nul) rfl ?_
      refine pw_aload_n (pc2 := 13) dX2_isChoice_12 rfl rfl 2 rfl (by first | exact rf_ref _ | exact rf_opt _ | exact rf_nul) ?_
      refine pw_aload_n (pc2 := 14) dX2_isChoice_13 rfl rfl 3 rfl (by first | exact rf_ref _ | exact rf_opt _ | exact rf_nul) ?_
      refine pw_iload_n (pc2 := 15) dX2_isChoice_14 rfl rfl 1 rfl ?_
      refine pw_callSb (pc2 := 18) (c_reach G _ H hn ⟨H.c10, H.c11⟩ hgb hm6) cs_X2_38 rfl dX2_isChoice_15 rfl (by omega) rfl (by first | decide | simp [cat_rf, Value.category]) (fun q15 => ?_) (fun q15 => ?_)
      · refine pw_aload_n (pc2 := 19) dX2_isChoice_18 rfl rfl 0 rfl (by first | exact rf_ref _ | exact rf_opt _ | exact rf_nul) ?_
        refine pw_ifnull (tgt := 26) (pc2 := 22) dX2_isChoice_19 (by decide) rfl (fun c19 => ?_) (fun a2 c19 => ?_)
        · refine pw_iconst (pc2 := 27) (v := 0) dX2_isChoice_26 rfl (by decide) ?_
          refine pw_icmp_eq (tgt := 32) (pc2 := 30) dX2_isChoice_27 (by decide) rfl (fun c27 => by exact absurd c27 (by decide)) (fun _ => ?_)
          refine pw_iconst (pc2 := 31) (v := 0) dX2_isChoice_30 rfl (by decide) ?_
          refine pw_iret dX2_isChoice_31 rfl (by first | rfl | assumption | simp [narrow]) ?_
          exact bR_0 (fun q => by obtain ⟨x9, hx9⟩ := (q m hm6).1.mp q15; rw [pa_none (c19.symm.trans er1)] at hx9; cases hx9)
        · subst c19
          obtain ⟨x, hgx, rfl⟩ := pa_some er1
          have hx : x < nrl σ := hgb m x hgx
          refine pw_iconst (pc2 := 23) (v := 1) dX2_isChoice_22 rfl (by decide) ?_
          refine pw_goto (tgt := 27) dX2_isChoice_23 (by decide) ?_
          refine pw_icmp_eq (tgt := 32) (pc2 := 30) dX2_isChoice_27 (by decide) rfl (fun _ => ?_) (fun c27 => by exact absurd (by decide) c27)
          refine pw_aload_n (pc2 := 33) dX2_isChoice_32 rfl rfl 0 rfl (by first | exact rf_ref _ | exact rf_opt _ | exact rf_nul) ?_
          refine pw_ifnull (r := some (A 40 x)) (tgt := 48) (pc2 := 36) dX2_isChoice_33 (by decide) rfl (fun z => by cases z) (fun a9 z9 => ?_)
          refine pw_aload_n (pc2 := 37) dX2_isChoice_36 rfl rfl 2 rfl (by first | exact rf_ref _ | exact rf_opt _ | exact rf_nul) ?_
          refine pw_aload_n (pc2 := 38) dX2_isChoice_37 rfl rfl 3 rfl (by first | exact rf_ref _ | exact rf_opt _ | exact rf_nul) ?_
          refine pw_iload_n (pc2 := 39) dX2_isChoice_38 rfl rfl 1 rfl ?_
          refine pw_aload_n (pc2 := 40) dX2_isChoice_39 rfl rfl 0 rfl (by first | exact rf_ref _ | exact rf_opt _ | exact rf_nul) ?_
          refine pw_callSb (pc2 := 43) (c_adm G _ H hn ⟨H.c10, H.c11⟩ hgb hm6 hx) cs_X2_54 rfl dX2_isChoice_40 rfl (by omega) rfl (by first | decide | simp [cat_rf, Value.category]) (fun q40 => ?_) (fun q40 => ?_)
          · refine pw_if_ne (tgt := 48) (pc2 := 46) dX2_isChoice_43 (by decide) rfl (fun _ => ?_) (fun c43 => by exact absurd c43 (by decide))
            refine pw_iinc (pc2 := 51) (v := oth m) (L2 := [(2, Value.int (oth m)), (3, Value.ref (A 40 x)), (0, Value.ref nd), (1, Value.ref (A 10 0))]) dX2_isChoice_48 rfl 1 rfl (oth_ii m) (by decide) rfl ?_
            refine pw_goto (tgt := 2) dX2_isChoice_51 (by decide) ?_
            refine PW.sub (L2 := [(2, Value.int (oth m)), (0, Value.ref nd), (1, Value.ref (A 10 0))]) [0, 2, 3] rfl ?_
            refine ih (by omega) (fun j h1 h2 => ?_)
            by_cases ej : j = m
            · subst ej
              exact ⟨⟨fun _ => ⟨x, hgx⟩, fun _ => q15⟩, fun x9 hx9 => by cases hgx.symm.trans hx9; exact q40⟩
            · exact hal j (by omega) h2
          · refine pw_if_ne (tgt := 48) (pc2 := 46) dX2_isChoice_43 (by decide) rfl (fun c43 => by exact absurd (by decide) c43) (fun _ => ?_)
            refine pw_iconst (pc2 := 47) (v := 0) dX2_isChoice_46 rfl (by decide) ?_
            refine pw_iret dX2_isChoice_47 rfl (by first | rfl | assumption | simp [narrow]) ?_
            first | exact bR_0 (fun q => q15 ((q m hm6).1.mpr ⟨x, hgx⟩)) | exact bR_0 (fun q => q40 ((q m hm6).2 x hgx))
      · refine pw_aload_n (pc2 := 19) dX2_isChoice_18 rfl rfl 0 rfl (by first | exact rf_ref _ | exact rf_opt _ | exact rf_nul) ?_
        refine pw_ifnull (tgt := 26) (pc2 := 22) dX2_isChoice_19 (by decide) rfl (fun c19 => ?_) (fun a3 c19 => ?_)
        · refine pw_iconst (pc2 := 27) (v := 0) dX2_isChoice_26 rfl (by decide) ?_
          refine pw_icmp_eq (tgt := 32) (pc2 := 30) dX2_isChoice_27 (by decide) rfl (fun _ => ?_) (fun c27 => by exact absurd (by decide) c27)
          refine pw_aload_n (pc2 := 33) dX2_isChoice_32 rfl rfl 0 rfl (by first | exact rf_ref _ | exact rf_opt _ | exact rf_nul) ?_
          refine pw_ifnull (r := r1) (tgt := 48) (pc2 := 36) dX2_isChoice_33 (by decide) rfl (fun _ => ?_) (fun a9 z9 => by rw [c19] at z9; cases z9)
          refine pw_iinc (pc2 := 51) (v := oth m) (L2 := [(2, Value.int (oth m)), (3, va_rf r1), (0, Value.ref nd), (1, Value.ref (A 10 0))]) dX2_isChoice_48 rfl 1 rfl (oth_ii m) (by decide) rfl ?_
          refine pw_goto (tgt := 2) dX2_isChoice_51 (by decide) ?_
          refine PW.sub (L2 := [(2, Value.int (oth m)), (0, Value.ref nd), (1, Value.ref (A 10 0))]) [0, 2, 3] rfl ?_
          refine ih (by omega) (fun j h1 h2 => ?_)
          by_cases ej : j = m
          · subst ej
            exact ⟨⟨fun z => absurd z q15, fun ⟨x9, hx9⟩ => by rw [pa_none (c19.symm.trans er1)] at hx9; cases hx9⟩, fun x9 hx9 => by rw [pa_none (c19.symm.trans er1)] at hx9; cases hx9⟩
          · exact hal j (by omega) h2
        · subst c19
          obtain ⟨x, hgx, rfl⟩ := pa_some er1
          have hx : x < nrl σ := hgb m x hgx
          refine pw_iconst (pc2 := 23) (v := 1) dX2_isChoice_22 rfl (by decide) ?_
          refine pw_goto (tgt := 27) dX2_isChoice_23 (by decide) ?_
          refine pw_icmp_eq (tgt := 32) (pc2 := 30) dX2_isChoice_27 (by decide) rfl (fun c27 => by exact absurd c27 (by decide)) (fun _ => ?_)
          refine pw_iconst (pc2 := 31) (v := 0) dX2_isChoice_30 rfl (by decide) ?_
          refine pw_iret dX2_isChoice_31 rfl (by first | rfl | assumption | simp [narrow]) ?_
          first | exact bR_0 (fun q => q15 ((q m hm6).1.mpr ⟨x, hgx⟩)) | exact bR_0 (fun q => q40 ((q m hm6).2 x hgx))
  refine PW.sub (L2 := [(2, Value.int 5), (0, Value.ref nd), (1, Value.ref (A 10 0))]) [0, 1, 2] rfl ?_
  exact loop 6 (Nat.le_refl _) (fun j h1 h2 => absurd h2 (by omega))
set_option maxHeartbeats 4000000 in
set_option maxRecDepth 100000 in
theorem c_ways (G : hG) (h : hp) {A : aT} {σ : sT} (H : W9 G h A σ) {n : Nat} (hn : n ≤ npk σ) : PMet G MX2_countWays 3 0 0 [.ref (A 1 0), .int (nI n)] h (det (some (.int (nI (wys σ.2.1 n)))) h) noX := by
  have h6 := H.iv.1
  refine PMet.of (by decide +kernel) (Nat.le_of_ble_eq_true rfl) (fun d hd => ?_)
  refine PW.sub (L2 := [(0, Value.ref (A 1 0)), (1, Value.int (nI n))]) [0, 1] rfl ?_
  refine pw_iconst (pc2 := 1) (v := 1) dX2_countWays_0 rfl (by decide) ?_
  refine pw_istore_n (pc2 := 2) (L2 := [(2, Value.int 1), (0, Value.ref (A 1 0)), (1, Value.int (nI n))]) dX2_countWays_1 rfl rfl (by decide) rfl ?_
  refine pw_iconst (pc2 := 3) (v := 0) dX2_countWays_2 rfl (by decide) ?_
  refine pw_istore_n (pc2 := 4) (L2 := [(3, Value.int 0), (2, Value.int 1), (0, Value.ref (A 1 0)), (1, Value.int (nI n))]) dX2_countWays_3 rfl rfl (by decide) rfl ?_
  have loop : ∀ (k i : Nat) (_u : Unit), i + k = n → PW G MX2_countWays d noA (E0 G (det (some (.int (nI (wys σ.2.1 n)))) h) noX) 0 0 4 [(3, Value.int (nI i)), (2, Value.int (nI (wys σ.2.1 i))), (0, Value.ref (A 1 0)), (1, Value.int (nI n))] [] h := by
    intro k
    induction k with
    | zero =>
      intro i _u hik
      have hi9 : i = n := by omega
      refine pw_iload_n (pc2 := 5) dX2_countWays_4 rfl rfl 0 rfl ?_
      refine pw_iload_n (pc2 := 6) dX2_countWays_5 rfl rfl 3 rfl ?_
      refine pw_icmp_ge (tgt := 42) (pc2 := 9) dX2_countWays_6 (by decide) rfl (fun _ => ?_) (fun c6 => by exact absurd (by first | (rw [hi9]; exact Int32.le_refl _) | exact fun q => absurd ((nI_leI (a := n) (b := i) (by omega) (by omega)).mp q) (by omega)) c6)
      refine pw_iload_n (pc2 := 43) dX2_countWays_42 rfl rfl 1 rfl ?_
      refine pw_iret dX2_countWays_43 rfl (by first | rfl | assumption | simp [narrow]) ?_
      exact ⟨by rw [hi9], rfl⟩
    | succ k ih =>
      intro i _u hik
      have hi9 : i < n := by omega
      have hip : i < npk σ := by omega
      refine pw_iload_n (pc2 := 5) dX2_countWays_4 rfl rfl 0 rfl ?_
      refine pw_iload_n (pc2 := 6) dX2_countWays_5 rfl rfl 3 rfl ?_
      refine pw_icmp_ge (tgt := 42) (pc2 := 9) dX2_countWays_6 (by decide) rfl (fun c6 => by exact absurd c6 (by first | (rw [hi9]; exact Int32.le_refl _) | exact fun q => absurd ((nI_leI (a := n) (b := i) (by omega) (by omega)).mp q) (by omega))) (fun _ => ?_)
      refine pw_iload_n (pc2 := 10) dX2_countWays_9 rfl rfl 0 rfl ?_
      refine pw_aload_n (pc2 := 11) dX2_countWays_10 rfl rfl 2 rfl (by first | exact rf_ref _ | exact rf_opt _ | exact rf_nul) ?_
      refine pw_callV1 (pc2 := 14) (c_lsize G _ H.lp) cs_X2_32 rfl rfl H.c1 dX2_countWays_11 rfl (by omega) rfl (by first | decide | simp [cat_rf, Value.category]) ?_
      refine pw_icmp_ge (tgt := 42) (pc2 := 17) dX2_countWays_14 (by decide) rfl (fun c14 => by exact absurd c14 (fun q => absurd ((nI_leI (a := npk σ) (b := i) (by omega) (by omega)).mp q) (by omega))) (fun _ => ?_)
      refine pw_iload_n (pc2 := 18) dX2_countWays_17 rfl rfl 1 rfl ?_
      refine pw_aload_n (pc2 := 19) dX2_countWays_18 rfl rfl 2 rfl (by first | exact rf_ref _ | exact rf_opt _ | exact rf_nul) ?_
      refine pw_iload_n (pc2 := 20) dX2_countWays_19 rfl rfl 0 rfl ?_
      refine pw_callV1 (pc2 := 23) (c_lget G _ H.lp (i := i) hip) cs_X2_42 rfl rfl H.c1 dX2_countWays_20 rfl (by omega) rfl (by first | decide | simp [cat_rf, Value.category]) ?_
      refine pw_castS (pc2 := 26) (cj := 7) rfl cl_X2_46 (H.c20 hip) dX2_countWays_23 rfl ?_
      refine pw_getN (pc2 := 29) kX4 (k := 4) (by decide) rfl fl_X2_48 (H.c20 hip) rfl dX2_countWays_26 rfl ?_
      refine pw_callV1 (pc2 := 32) (c_lsize G _ (H.lk hip)) cs_X2_32 rfl rfl (H.c34 hip) dX2_countWays_29 rfl (by omega) rfl (by first | decide | simp [cat_rf, Value.category]) ?_
      refine pw_iconst (pc2 := 33) (v := 1) dX2_countWays_32 rfl (by decide) ?_
      refine pw_iadd (pc2 := 34) dX2_countWays_33 rfl ?_
      refine pw_topE (nI_1 _) ?_
      refine pw_imul (pc2 := 35) dX2_countWays_34 rfl ?_
      refine pw_topE (nI_mul (wys σ.2.1 i) (rnp σ i + 1)) ?_
      refine pw_istore_n (pc2 := 36) (L2 := [(2, Value.int (nI (wys σ.2.1 (i + 1)))), (3, Value.int (nI i)), (0, Value.ref (A 1 0)), (1, Value.int (nI n))]) dX2_countWays_35 rfl rfl (by decide) rfl ?_
      refine pw_iinc (pc2 := 39) (v := nI (i + 1)) (L2 := [(3, Value.int (nI (i + 1))), (2, Value.int (nI (wys σ.2.1 (i + 1)))), (0, Value.ref (A 1 0)), (1, Value.int (nI n))]) dX2_countWays_36 rfl 1 rfl (by show nI _ + 1 = nI _; exact nI_1 _) (by decide) rfl ?_
      refine pw_goto (tgt := 4) dX2_countWays_39 (by decide) ?_
      refine PW.sub (L2 := [(3, Value.int (nI (i + 1))), (2, Value.int (nI (wys σ.2.1 (i + 1)))), (0, Value.ref (A 1 0)), (1, Value.int (nI n))]) [0, 1, 2, 3] rfl ?_
      exact ih (i + 1) () (by omega)
  refine PW.sub (L2 := [(3, Value.int 0), (2, Value.int 1), (0, Value.ref (A 1 0)), (1, Value.int (nI n))]) [0, 1, 2, 3] rfl ?_
  exact loop n 0 () (by omega)
def tkF (N : Nat → Nat → Nat → Nat) (n W : Nat) : Nat → Int32 := fun j => if j < n then nI (dgt N W j) else 0
def gIw (N : Nat → Nat → Nat → Nat) (n W i : Nat) : Nat → Option Nat := fun j => if j < i then none else cmb N n W zN j
def tIw (N : Nat → Nat → Nat → Nat) (n W i : Nat) : Nat → Int32 := fun j => if j < i then 0 else tkF N n W j
section WZ
variable {N : Nat → Nat → Nat → Nat} {n W i : Nat}
theorem gIw_0 : gIw N n W 0 = cmb N n W zN := by funext j; exact if_neg (Nat.not_lt_zero j)
theorem tIw_0 : tIw N n W 0 = tkF N n W := by funext j; exact if_neg (Nat.not_lt_zero j)
theorem gIw_s : va_up (gIw N n W i) i none = gIw N n W (i + 1) := by
  funext j
  unfold gIw
  by_cases e : j = i
  · subst e; rw [va_up_self, if_pos (Nat.lt_succ_self j)]
  · rw [va_up_ne _ _ e]
    by_cases e2 : j < i
    · rw [if_pos e2, if_pos (by omega)]
    · rw [if_neg e2, if_neg (by omega)]
theorem tIw_s : upd (tIw N n W i) i 0 = tIw N n W (i + 1) := by
  funext j
  unfold tIw upd
  by_cases e : j = i
  · subst e; rw [if_pos rfl, if_pos (Nat.lt_succ_self j)]
  · rw [if_neg e]
    dsimp only
    by_cases e2 : j < i
    · rw [if_pos e2, if_pos (by omega)]
    · rw [if_neg e2, if_neg (by omega)]
theorem gIw_n (h : ∀ j, j < n → dgt N W j = N 201 j 0) : gIw N n W n = cmb N n (W + 1) zN := by
  funext j
  unfold gIw cmb
  by_cases e : j < n
  · rw [if_pos e, if_pos e, dgt_n0 h e]; rfl
  · rw [if_neg e, if_neg e, if_neg e]
theorem tIw_n (h : ∀ j, j < n → dgt N W j = N 201 j 0) : tIw N n W n = tkF N n (W + 1) := by
  funext j
  unfold tIw tkF
  by_cases e : j < n
  · rw [if_pos e, if_pos e, dgt_n0 h e]; rfl
  · rw [if_neg e, if_neg e, if_neg e]
theorem gIw_e (hi : i < n) (h : ∀ j, j < i → dgt N W j = N 201 j 0) (hd : dgt N W i < N 201 i 0) : va_up (gIw N n W i) i (some (N 202 i (dgt N W i))) = cmb N n (W + 1) zN := by
  funext j
  by_cases e : j = i
  · subst e
    rw [va_up_self]
    unfold cmb
    rw [if_pos hi, dgt_n1 h hd]
    unfold pkd
    rw [if_neg (by omega), Nat.add_sub_cancel]
  · rw [va_up_ne _ _ e]
    unfold gIw cmb
    by_cases e2 : j < i
    · rw [if_pos e2, if_pos (by omega), dgt_n0 h e2]; rfl
    · rw [if_neg e2]
      by_cases e3 : j < n
      · rw [if_pos e3, if_pos e3, dgt_n2 h hd (by omega)]
      · rw [if_neg e3, if_neg e3]
theorem tIw_e (hi : i < n) (h : ∀ j, j < i → dgt N W j = N 201 j 0) (hd : dgt N W i < N 201 i 0) : upd (tIw N n W i) i (nI (dgt N W i + 1)) = tkF N n (W + 1) := by
  funext j
  unfold upd
  by_cases e : j = i
  · subst e
    rw [if_pos rfl]
    unfold tkF
    rw [if_pos hi, dgt_n1 h hd]
  · rw [if_neg e]
    unfold tIw tkF
    by_cases e2 : j < i
    · rw [if_pos e2, if_pos (by omega), dgt_n0 h e2]; rfl
    · rw [if_neg e2]
      by_cases e3 : j < n
      · rw [if_pos e3, if_pos e3, dgt_n2 h hd (by omega)]
      · rw [if_neg e3, if_neg e3]
theorem dgt_le : dgt N W i ≤ N 201 i 0 := Nat.lt_succ_iff.mp (Nat.mod_lt _ (Nat.succ_pos _))
end WZ
theorem cmb_B {σ : sT} (hI : IV σ) {n W : Nat} (hn : n ≤ npk σ) : pkB σ (cmb σ.2.1 n W zN) := by
  intro j x hx
  unfold cmb at hx
  by_cases e : j < n
  · rw [if_pos e] at hx
    unfold pkd at hx
    by_cases e2 : dgt σ.2.1 W j = 0
    · rw [if_pos e2] at hx; cases hx
    · rw [if_neg e2] at hx
      cases hx
      have h1 : dgt σ.2.1 W j ≤ rnp σ j := dgt_le
      exact (hI.2.2.2.1 j (by omega)).2 _ (by omega)
  · rw [if_neg e] at hx; cases hx
theorem gIw_B {σ : sT} (hI : IV σ) {n W i : Nat} (hn : n ≤ npk σ) : pkB σ (gIw σ.2.1 n W i) := by
  intro j x hx
  unfold gIw at hx
  by_cases e : j < i
  · rw [if_pos e] at hx; cases hx
  · rw [if_neg e] at hx; exact cmb_B hI hn j x hx
set_option maxHeartbeats 4000000 in
set_option maxRecDepth 100000 in
theorem c_next (G : hG) (h : hp) {A : aT} {σ : sT} (H : W9 G h A σ) {n : Nat} (hn : n ≤ npk σ) {W : Nat} (hg : σ.2.2 11 0 = cmb σ.2.1 n W zN) (ht : σ.1 12 0 = tkF σ.2.1 n W) : PMet G MX2_goToNextWay 3 0 0 [.ref (A 7 0), .ref (A 1 0), .int (nI n)] h (det none (va_up (va_up h (A 11 0) (some (aR tRel 6 (pa A (cmb σ.2.1 n (W + 1) zN))))) (A 12 0) (some (aI 6 (tkF σ.2.1 n (W + 1)))))) noX := by
  have h6 := H.iv.1
  refine PMet.of (by decide +kernel) (Nat.le_of_ble_eq_true rfl) (fun d hd => ?_)
  refine PW.sub (L2 := [(0, Value.ref (A 7 0)), (1, Value.ref (A 1 0)), (2, Value.int (nI n))]) [0, 1, 2] rfl ?_
  refine pw_iconst (pc2 := 1) (v := 0) dX2_goToNextWay_0 rfl (by decide) ?_
  refine pw_istore_n (pc2 := 2) (L2 := [(3, Value.int 0), (0, Value.ref (A 7 0)), (1, Value.ref (A 1 0)), (2, Value.int (nI n))]) dX2_goToNextWay_1 rfl rfl (by decide) rfl ?_
  have HW : ∀ i, W9 G (va_up (va_up h (A 11 0) (some (aR tRel 6 (pa A (gIw σ.2.1 n W i))))) (A 12 0) (some (aI 6 (tIw σ.2.1 n W i)))) A (setI (setO σ 11 0 (gIw σ.2.1 n W i)) 12 0 (tIw σ.2.1 n W i)) := fun i => (H.wO (t := 11) (i := 0) rfl (by decide) (gIw_B H.iv hn) rfl).wI (t := 12) (i := 0) rfl (by decide) (iv_setI (iv_setO H.iv (gIw_B H.iv hn)) (by decide)) rfl
  have c11w : ∀ i, (va_up (va_up h (A 11 0) (some (aR tRel 6 (pa A (gIw σ.2.1 n W i))))) (A 12 0) (some (aI 6 (tIw σ.2.1 n W i)))) (A 11 0) = some (aR tRel 6 (pa A (gIw σ.2.1 n W i))) := fun i => (HW i).c11
  have c12w : ∀ i, (va_up (va_up h (A 11 0) (some (aR tRel 6 (pa A (gIw σ.2.1 n W i))))) (A 12 0) (some (aI 6 (tIw σ.2.1 n W i)))) (A 12 0) = some (aI 6 (tIw σ.2.1 n W i)) := fun i => (HW i).c12
  have lkw : ∀ i, i < npk σ → isL G (va_up (va_up h (A 11 0) (some (aR tRel 6 (pa A (gIw σ.2.1 n W i))))) (A 12 0) (some (aI 6 (tIw σ.2.1 n W i)))) (A 34 i) (rnp σ i) (fun j => A 40 (ixp σ i j)) := fun i hi => (HW i).lk (p := i) hi
  have lpw : ∀ i, isL G (va_up (va_up h (A 11 0) (some (aR tRel 6 (pa A (gIw σ.2.1 n W i))))) (A 12 0) (some (aI 6 (tIw σ.2.1 n W i)))) (A 1 0) (npk σ) (A 20) := fun i => (HW i).lp
  have c11 : h (A 11 0) = some (aR tRel 6 (pa A (σ.2.2 11 0))) := H.c11
  have loop : ∀ (k i : Nat) (hmx : ∀ j, j < i → dgt σ.2.1 W j = σ.2.1 201 j 0), i + k = n → PW G MX2_goToNextWay d noA (E0 G (det none (va_up (va_up h (A 11 0) (some (aR tRel 6 (pa A (cmb σ.2.1 n (W + 1) zN))))) (A 12 0) (some (aI 6 (tkF σ.2.1 n (W + 1)))))) noX) 0 0 2 [(3, Value.int (nI i)), (0, Value.ref (A 7 0)), (1, Value.ref (A 1 0)), (2, Value.int (nI n))] [] (va_up (va_up h (A 11 0) (some (aR tRel 6 (pa A (gIw σ.2.1 n W i))))) (A 12 0) (some (aI 6 (tIw σ.2.1 n W i)))) := by
    intro k
    induction k with
    | zero =>
      intro i hmx hik
      have hi9 : i = n := by omega
      refine pw_iload_n (pc2 := 3) dX2_goToNextWay_2 rfl rfl 0 rfl ?_
      refine pw_iload_n (pc2 := 4) dX2_goToNextWay_3 rfl rfl 3 rfl ?_
      refine pw_icmp_ge (tgt := 111) (pc2 := 7) dX2_goToNextWay_4 (by decide) rfl (fun _ => ?_) (fun c4 => by exact absurd (by first | (rw [hi9]; exact Int32.le_refl _) | exact fun q => absurd ((nI_leI (a := n) (b := i) (by omega) (by omega)).mp q) (by omega)) c4)
      refine pw_vret dX2_goToNextWay_111 rfl ?_
      subst hi9
      exact ⟨rfl, by rw [gIw_n hmx, tIw_n hmx]⟩
    | succ k ih =>
      intro i hmx hik
      have hi9 : i < n := by omega
      have hip : i < npk σ := by omega
      have h20 := H.rn20 hip
      have hdl : dgt σ.2.1 W i ≤ rnp σ i := dgt_le
      refine pw_iload_n (pc2 := 3) dX2_goToNextWay_2 rfl rfl 0 rfl ?_
      refine pw_iload_n (pc2 := 4) dX2_goToNextWay_3 rfl rfl 3 rfl ?_
      refine pw_icmp_ge (tgt := 111) (pc2 := 7) dX2_goToNextWay_4 (by decide) rfl (fun c4 => by exact absurd c4 (by first | (rw [hi9]; exact Int32.le_refl _) | exact fun q => absurd ((nI_leI (a := n) (b := i) (by omega) (by omega)).mp q) (by omega))) (fun _ => ?_)
      refine pw_iload_n (pc2 := 8) dX2_goToNextWay_7 rfl rfl 0 rfl ?_
      refine pw_aload_n (pc2 := 9) dX2_goToNextWay_8 rfl rfl 2 rfl (by first | exact rf_ref _ | exact rf_opt _ | exact rf_nul) ?_
      refine pw_callV1 (pc2 := 12) (c_lsize G _ (lpw i)) cs_X2_32 rfl rfl (HW i).c1 dX2_goToNextWay_9 rfl (by omega) rfl (by first | decide | simp [cat_rf, Value.category]) ?_
      refine pw_icmp_ge (tgt := 111) (pc2 := 15) dX2_goToNextWay_12 (by decide) rfl (fun c12 => by exact absurd c12 (fun q => absurd ((nI_leI (a := npk σ) (b := i) (by omega) (by omega)).mp q) (by omega))) (fun _ => ?_)
      refine pw_iload_n (pc2 := 16) dX2_goToNextWay_15 rfl rfl 0 rfl ?_
      refine pw_aload_n (pc2 := 17) dX2_goToNextWay_16 rfl rfl 1 rfl (by first | exact rf_ref _ | exact rf_opt _ | exact rf_nul) ?_
      refine pw_get (pc2 := 20) kX2 (k := 2) (by decide) rfl fl_X2_21 (HW i).c7 rfl dX2_goToNextWay_17 rfl ?_
      refine pw_alen (pc2 := 21) 0 rfl (c12w i) rfl dX2_goToNextWay_20 rfl ?_
      refine pw_icmp_ge (tgt := 111) (pc2 := 24) dX2_goToNextWay_21 (by decide) rfl (fun c21 => by exact absurd c21 (fun q => absurd ((l6 (i := i) (by omega)).mp q) (by omega))) (fun _ => ?_)
      refine pw_aload_n (pc2 := 25) dX2_goToNextWay_24 rfl rfl 2 rfl (by first | exact rf_ref _ | exact rf_opt _ | exact rf_nul) ?_
      refine pw_iload_n (pc2 := 26) dX2_goToNextWay_25 rfl rfl 0 rfl ?_
      refine pw_callV1 (pc2 := 29) (c_lget G _ (lpw i) (i := i) hip) cs_X2_42 rfl rfl (HW i).c1 dX2_goToNextWay_26 rfl (by omega) rfl (by first | decide | simp [cat_rf, Value.category]) ?_
      refine pw_castS (pc2 := 32) (cj := 7) rfl cl_X2_46 ((HW i).c20 hip) dX2_goToNextWay_29 rfl ?_
      refine pw_getN (pc2 := 35) kX4 (k := 4) (by decide) rfl fl_X2_48 ((HW i).c20 hip) rfl dX2_goToNextWay_32 rfl ?_
      refine pw_astore (pc2 := 37) (L2 := [(4, Value.ref (A 34 i)), (3, Value.int (nI i)), (0, Value.ref (A 7 0)), (1, Value.ref (A 1 0)), (2, Value.int (nI n))]) dX2_goToNextWay_35 rfl (by decide) (by first | exact rf_ref _ | exact rf_opt _ | exact rf_nul) rfl ?_
      refine pw_aload_n (pc2 := 38) dX2_goToNextWay_37 rfl rfl 2 rfl (by first | exact rf_ref _ | exact rf_opt _ | exact rf_nul) ?_
      refine pw_get (pc2 := 41) kX2 (k := 2) (by decide) rfl fl_X2_21 (HW i).c7 rfl dX2_goToNextWay_38 rfl ?_
      refine pw_iload_n (pc2 := 42) dX2_goToNextWay_41 rfl rfl 1 rfl ?_
      refine pw_ialdN (pc2 := 43) (c12w i) (i := i) (by first | assumption | omega) (by omega) dX2_goToNextWay_42 rfl ?_
      refine pw_topE (show (tIw σ.2.1 n W i) i = nI (dgt σ.2.1 W i) by unfold tIw tkF; rw [if_neg (Nat.lt_irrefl i), if_pos hi9]) ?_
      refine pw_istore (pc2 := 45) (L2 := [(5, Value.int (nI (dgt σ.2.1 W i))), (4, Value.ref (A 34 i)), (3, Value.int (nI i)), (0, Value.ref (A 7 0)), (1, Value.ref (A 1 0)), (2, Value.int (nI n))]) dX2_goToNextWay_43 rfl (by decide) rfl ?_
      refine pw_iload (pc2 := 47) dX2_goToNextWay_45 rfl 0 rfl ?_
      refine pw_if_lt (tgt := 89) (pc2 := 50) dX2_goToNextWay_47 (by decide) rfl (fun c47 => by exact absurd c47 (nI_pos (by omega))) (fun _ => ?_)
      refine pw_iload (pc2 := 52) dX2_goToNextWay_50 rfl 0 rfl ?_
      refine pw_aload (pc2 := 54) dX2_goToNextWay_52 rfl 1 rfl (by first | exact rf_ref _ | exact rf_opt _ | exact rf_nul) ?_
      refine pw_callV1 (pc2 := 57) (c_lsize G _ (lkw i hip)) cs_X2_32 rfl rfl ((HW i).c34 hip) dX2_goToNextWay_54 rfl (by omega) rfl (by first | decide | simp [cat_rf, Value.category]) ?_
      refine pw_icmp_ge (tgt := 89) (pc2 := 60) dX2_goToNextWay_57 (by decide) rfl (fun c57 => ?_) (fun c57 => ?_)
      · refine pw_aload_n (pc2 := 90) dX2_goToNextWay_89 rfl rfl 3 rfl (by first | exact rf_ref _ | exact rf_opt _ | exact rf_nul) ?_
        refine pw_get (pc2 := 93) kX2 (k := 1) (by decide) rfl fl_X2_18 (HW i).c7 rfl dX2_goToNextWay_90 rfl ?_
        refine pw_iload_n (pc2 := 94) dX2_goToNextWay_93 rfl rfl 2 rfl ?_
        refine pw_null (pc2 := 95) dX2_goToNextWay_94 rfl ?_
        refine pw_callV0 (pc2 := 98) (c_cput G _ ⟨(HW i).c10, c11w i⟩ (i := i) (by omega) (r := none) (fun b9 e9 => by cases e9)) cs_X2_58 rfl rfl (HW i).c10 dX2_goToNextWay_95 rfl (by omega) rfl (by first | decide | simp [cat_rf, Value.category]) ?_
        refine pw_aload_n (pc2 := 99) dX2_goToNextWay_98 rfl rfl 3 rfl (by first | exact rf_ref _ | exact rf_opt _ | exact rf_nul) ?_
        refine pw_get (pc2 := 102) kX2 (k := 2) (by decide) rfl fl_X2_21 ((va_up_ne _ _ (ne_oa (HW i).c7 (c11w i))).trans (HW i).c7) rfl dX2_goToNextWay_99 rfl ?_
        refine pw_iload_n (pc2 := 103) dX2_goToNextWay_102 rfl rfl 2 rfl ?_
        refine pw_iconst (pc2 := 104) (v := 0) dX2_goToNextWay_103 rfl (by decide) ?_
        refine pw_iastN (pc2 := 105) ((va_up_ne _ _ (ne_aa (c12w i) (c11w i) (by decide))).trans (c12w i)) (i := i) (by first | assumption | omega) (by omega) dX2_goToNextWay_104 rfl ?_
        refine pw_iinc (pc2 := 108) (v := nI (i + 1)) (L2 := [(3, Value.int (nI (i + 1))), (5, Value.int (nI (dgt σ.2.1 W i))), (4, Value.ref (A 34 i)), (0, Value.ref (A 7 0)), (1, Value.ref (A 1 0)), (2, Value.int (nI n))]) dX2_goToNextWay_105 rfl 2 rfl (by show nI _ + 1 = nI _; exact nI_1 _) (by decide) rfl ?_
        refine pw_goto (tgt := 2) dX2_goToNextWay_108 (by decide) ?_
        refine PW.sub (L2 := [(3, Value.int (nI (i + 1))), (0, Value.ref (A 7 0)), (1, Value.ref (A 1 0)), (2, Value.int (nI n))]) [0, 3, 4, 5] rfl ?_
        refine PW.heap (h' := (va_up (va_up h (A 11 0) (some (aR tRel 6 (pa A (gIw σ.2.1 n W (i + 1)))))) (A 12 0) (some (aI 6 (tIw σ.2.1 n W (i + 1)))))) ?_ (ih (i + 1) (fun j hj => ?_) (by omega))
        · rw [up4 _ (H.ne (t := 11) (u := 12) (i := 0) (j := 0) rfl rfl (Or.inl (by decide))), tIw_s, show (none : Option Nat) = (none : Option Nat).map (A 40) from rfl, pa_up, gIw_s]
        · by_cases ej : j = i
          · subst ej
            have hle : dgt σ.2.1 W j ≤ σ.2.1 201 j 0 := dgt_le
            have hge : rnp σ j ≤ dgt σ.2.1 W j := by first | exact (nI_leI (by omega) (by omega)).mp c57 | exact absurd c47 (nI_pos (by omega))
            exact Nat.le_antisymm hle hge
          · exact hmx j (by omega)
      · have hdn : dgt σ.2.1 W i < rnp σ i := Nat.lt_of_not_le (fun z => c57 ((nI_leI (by omega) (by omega)).mpr z))
        have hx := H.ixl hip hdn
        refine pw_aload_n (pc2 := 61) dX2_goToNextWay_60 rfl rfl 3 rfl (by first | exact rf_ref _ | exact rf_opt _ | exact rf_nul) ?_
        refine pw_get (pc2 := 64) kX2 (k := 1) (by decide) rfl fl_X2_18 (HW i).c7 rfl dX2_goToNextWay_61 rfl ?_
        refine pw_iload_n (pc2 := 65) dX2_goToNextWay_64 rfl rfl 2 rfl ?_
        refine pw_aload (pc2 := 67) dX2_goToNextWay_65 rfl 1 rfl (by first | exact rf_ref _ | exact rf_opt _ | exact rf_nul) ?_
        refine pw_iload (pc2 := 69) dX2_goToNextWay_67 rfl 0 rfl ?_
        refine pw_callV1 (pc2 := 72) (c_lget G _ (lkw i hip) (i := dgt σ.2.1 W i) hdn) cs_X2_42 rfl rfl ((HW i).c34 hip) dX2_goToNextWay_69 rfl (by omega) rfl (by first | decide | simp [cat_rf, Value.category]) ?_
        refine pw_castS (pc2 := 75) (cj := 8) rfl cl_X2_52 ((HW i).c40 hx) dX2_goToNextWay_72 rfl ?_
        refine pw_callV0 (pc2 := 78) (c_cput G _ ⟨(HW i).c10, c11w i⟩ (i := i) (by omega) (r := some (A 40 (ixp σ i (dgt σ.2.1 W i)))) (fun b9 e9 => by cases e9; exact ⟨_, (HW i).c40 hx⟩)) cs_X2_58 rfl rfl (HW i).c10 dX2_goToNextWay_75 rfl (by omega) rfl (by first | decide | simp [cat_rf, Value.category]) ?_
        refine pw_aload_n (pc2 := 79) dX2_goToNextWay_78 rfl rfl 3 rfl (by first | exact rf_ref _ | exact rf_opt _ | exact rf_nul) ?_
        refine pw_get (pc2 := 82) kX2 (k := 2) (by decide) rfl fl_X2_21 ((va_up_ne _ _ (ne_oa (HW i).c7 (c11w i))).trans (HW i).c7) rfl dX2_goToNextWay_79 rfl ?_
        refine pw_iload_n (pc2 := 83) dX2_goToNextWay_82 rfl rfl 2 rfl ?_
        refine pw_iload (pc2 := 85) dX2_goToNextWay_83 rfl 0 rfl ?_
        refine pw_iconst (pc2 := 86) (v := 1) dX2_goToNextWay_85 rfl (by decide) ?_
        refine pw_iadd (pc2 := 87) dX2_goToNextWay_86 rfl ?_
        refine pw_topE (nI_1 _) ?_
        refine pw_iastN (pc2 := 88) ((va_up_ne _ _ (ne_aa (c12w i) (c11w i) (by decide))).trans (c12w i)) (i := i) (by first | assumption | omega) (by omega) dX2_goToNextWay_87 rfl ?_
        refine pw_vret dX2_goToNextWay_88 rfl ?_
        exact ⟨rfl, by rw [up4 _ (H.ne (t := 11) (u := 12) (i := 0) (j := 0) rfl rfl (Or.inl (by decide))), tIw_e hi9 hmx hdn, show (some (A 40 (ixp σ i (dgt σ.2.1 W i)))) = (some (ixp σ i (dgt σ.2.1 W i))).map (A 40) from rfl, pa_up, show ixp σ i (dgt σ.2.1 W i) = σ.2.1 202 i (dgt σ.2.1 W i) from rfl, gIw_e hi9 hmx hdn]⟩
  refine PW.sub (L2 := [(3, Value.int 0), (0, Value.ref (A 7 0)), (1, Value.ref (A 1 0)), (2, Value.int (nI n))]) [0, 1, 2, 3] rfl ?_
  refine PW.heap (h' := (va_up (va_up h (A 11 0) (some (aR tRel 6 (pa A (gIw σ.2.1 n W 0))))) (A 12 0) (some (aI 6 (tIw σ.2.1 n W 0))))) (by rw [gIw_0, tIw_0, ← hg, ← ht, up_id c11, up_id H.c12]) ?_
  exact loop n 0 (fun j hj => absurd hj (Nat.not_lt_zero j)) (by omega)
