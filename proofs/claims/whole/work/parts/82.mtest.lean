/-! the reference: flakiest, test -/
theorem fkB_1 {σ : sT} (hT : RT σ) (h0 : 0 < nts σ) : fkB σ 1 = (0, ctN (σ.1 51 0) (xCn σ 0)) := by
  obtain ⟨m, h1, h2⟩ := ctN_n (σ.1 51 0) (xCn σ 0)
  have hc := (hT.cn h0).1
  have e2 : (nI m).toInt = (m : Int) := nI_toInt (by omega)
  have hlt : (-1 : Int32) < ctN (σ.1 51 0) (xCn σ 0) := by
    rw [h2, Int32.lt_iff_toInt_lt, e2]
    show (-1 : Int) < _
    omega
  exact if_pos hlt
theorem fkB_s (σ : sT) (t : Nat) : fkB σ (t + 1) = if (fkB σ t).2 < ctN (σ.1 51 t) (xCn σ t) then (t, ctN (σ.1 51 t) (xCn σ t)) else fkB σ t := rfl
set_option maxHeartbeats 4000000 in
set_option maxRecDepth 100000 in
theorem c_mflakiest (G : hG) (h : hp) {A : aT} {σ : sT} (H : WM G h A σ) (hb : MB σ) (hT : RT σ) : PMet G MX10_flakiest 1 0 0 [.ref (A 60 0)] h (fun r h2 => (nts σ = 0 ∧ QSM G h A (.int 0) (thS σ 1) r h2) ∨ (¬ nts σ = 0 ∧ QSM G h A (.int (nI (fkB σ (nts σ)).1)) (thS σ 0) r h2)) noX := by
  have hnt8 := H.iv.2.1
  refine PMet.of (by decide +kernel) (Nat.le_of_ble_eq_true rfl) (fun d hd => ?_)
  refine PW.sub (L2 := [(0, Value.ref (A 60 0))]) [0] rfl ?_
  refine pw_aload_n (pc2 := 1) dX10_flakiest_0 rfl rfl 0 rfl (by first | exact rf_ref _ | exact rf_opt _ | exact rf_nul) ?_
  refine pw_aload_n (pc2 := 2) dX10_flakiest_1 rfl rfl 0 rfl (by first | exact rf_ref _ | exact rf_opt _ | exact rf_nul) ?_
  refine pw_get (pc2 := 5) kX10 (k := 30) (by decide) rfl fl_X10_171 H.c60 rfl dX10_flakiest_2 rfl ?_
  refine pw_topE hb.2.2 ?_
  refine pw_if_ne (tgt := 12) (pc2 := 8) dX10_flakiest_5 (by decide) rfl (fun c5 => ?_) (fun c5 => ?_)
  · refine pw_iconst (pc2 := 13) (v := 0) dX10_flakiest_12 rfl (by decide) ?_
    refine pw_put (pc2 := 16) kX10 (k := 37) (by decide) rfl rfl fl_X10_109 H.c60 (by first | decide | simp) (by first | rfl | exact nar_rf _ _) (by first | rfl | exact fit_rf _ _) dX10_flakiest_13 rfl ?_
    obtain ⟨K1, FK1⟩ := H.wIF (FM.rfl') (t := 60) (i := 0) (f := (upd (σ.1 60 0) 7 0)) rfl (by decide) (iv_setI H.iv (by decide)) rfl
    obtain ⟨h2, eh2⟩ : ∃ z : Nat → Option hE, z = va_up h (A 60 0) (some (oB 13 [.ref (A 61 0), .ref (A 62 0), .ref (A 63 0), .ref (A 64 0), .ref (A 65 0), .ref (A 66 0), .ref (A 67 0), .ref (A 68 0), .ref (A 69 0), .ref (A 70 0), .ref (A 71 0), .ref (A 72 0), .ref (A 73 0), .ref (A 74 0), .ref (A 75 0), .ref (A 76 0), .int (σ.1 60 0 0), .ref (A 77 0), .ref (A 78 0), .ref (A 79 0), .ref (A 80 0), .ref (A 81 0), .ref (A 82 0), .ref (A 83 0), .int (σ.1 60 0 1), .ref (A 84 0), .ref (A 85 0), .ref (A 86 0), .ref (A 87 0), .ref (A 88 0), .int (σ.1 60 0 2), .int (σ.1 60 0 3), .ref (A 89 0), .int (σ.1 60 0 4), .int (σ.1 60 0 5), .int (σ.1 60 0 6), .ref (A 90 0), .int 0])) := ⟨_, rfl⟩
    refine PW.heap (h' := h2) eh2.symm ?_
    replace K1 : WM G h2 A (thS σ 0) := by rw [eh2]; exact K1
    replace FK1 : FM A h h2 := by rw [eh2]; exact FK1
    have c60K1 : h2 (A 60 0) = some (oB 13 [.ref (A 61 0), .ref (A 62 0), .ref (A 63 0), .ref (A 64 0), .ref (A 65 0), .ref (A 66 0), .ref (A 67 0), .ref (A 68 0), .ref (A 69 0), .ref (A 70 0), .ref (A 71 0), .ref (A 72 0), .ref (A 73 0), .ref (A 74 0), .ref (A 75 0), .ref (A 76 0), .int (σ.1 60 0 0), .ref (A 77 0), .ref (A 78 0), .ref (A 79 0), .ref (A 80 0), .ref (A 81 0), .ref (A 82 0), .ref (A 83 0), .int (σ.1 60 0 1), .ref (A 84 0), .ref (A 85 0), .ref (A 86 0), .ref (A 87 0), .ref (A 88 0), .int (σ.1 60 0 2), .int (σ.1 60 0 3), .ref (A 89 0), .int (σ.1 60 0 4), .int (σ.1 60 0 5), .int (σ.1 60 0 6), .ref (A 90 0), .int 0]) := K1.c60
    refine pw_iconst (pc2 := 17) (v := 0) dX10_flakiest_16 rfl (by decide) ?_
    refine pw_istore_n (pc2 := 18) (L2 := [(1, Value.int 0), (0, Value.ref (A 60 0))]) dX10_flakiest_17 rfl rfl (by decide) rfl ?_
    refine pw_iconst (pc2 := 19) (v := 1) dX10_flakiest_18 rfl (by decide) ?_
    refine pw_istore_n (pc2 := 20) (L2 := [(2, Value.int 1), (1, Value.int 0), (0, Value.ref (A 60 0))]) dX10_flakiest_19 rfl rfl (by decide) rfl ?_
    have loop : ∀ (k i : Nat) (bs : Nat) (h1 : 1 ≤ i) (hbs : 0 < nts σ → bs = (fkB σ i).1 ∧ bs < i ∧ (fkB σ i).2 = ctN (σ.1 51 bs) (xCn σ bs)), i + k = (max (nts σ) 1) → PW G MX10_flakiest d noA (E0 G (fun r h2 => (nts σ = 0 ∧ QSM G h A (.int 0) (thS σ 1) r h2) ∨ (¬ nts σ = 0 ∧ QSM G h A (.int (nI (fkB σ (nts σ)).1)) (thS σ 0) r h2)) noX) 0 0 20 [(2, Value.int (nI i)), (1, Value.int (nI bs)), (0, Value.ref (A 60 0))] [] h2 := by
      intro k
      induction k with
      | zero =>
        intro i bs h1 hbs hik
        have hi9 : i = (max (nts σ) 1) := by omega
        refine pw_iload_n (pc2 := 21) dX10_flakiest_20 rfl rfl 0 rfl ?_
        refine pw_aload_n (pc2 := 22) dX10_flakiest_21 rfl rfl 2 rfl (by first | exact rf_ref _ | exact rf_opt _ | exact rf_nul) ?_
        refine pw_get (pc2 := 25) kX10 (k := 30) (by decide) rfl fl_X10_171 c60K1 rfl dX10_flakiest_22 rfl ?_
        refine pw_topE hb.2.2 ?_
        refine pw_icmp_ge (tgt := 53) (pc2 := 28) dX10_flakiest_25 (by decide) rfl (fun _ => ?_) (fun c25 => by exact absurd (by first | exact (nI_leI (a := nts σ) (b := i) (by omega) (by omega)).mpr (by omega) | exact fun q => absurd ((nI_leI (a := nts σ) (b := i) (by omega) (by omega)).mp q) (by omega)) c25)
        refine pw_aload_n (pc2 := 54) dX10_flakiest_53 rfl rfl 2 rfl (by first | exact rf_ref _ | exact rf_opt _ | exact rf_nul) ?_
        refine pw_get (pc2 := 57) kX10 (k := 37) (by decide) rfl fl_X10_109 c60K1 rfl dX10_flakiest_54 rfl ?_
        refine pw_if_le (tgt := 64) (pc2 := 60) dX10_flakiest_57 (by decide) rfl (fun _ => ?_) (fun c57 => by exact absurd (by decide) c57)
        refine pw_iload_n (pc2 := 65) dX10_flakiest_64 rfl rfl 1 rfl ?_
        refine pw_iret dX10_flakiest_65 rfl (by first | rfl | assumption | simp [narrow]) ?_
        have h0 : ¬ nts σ = 0 := fun z => c5 (by rw [z]; rfl)
        refine Or.inr ⟨h0, ?_, K1, FK1⟩
        rw [(hbs (by omega)).1, hi9, Nat.max_eq_left (by omega)]
      | succ k ih =>
        intro i bs h1 hbs hik
        have hi9 : i < (max (nts σ) 1) := by omega
        have hii : i < nts σ := by omega
        have hbn : bs < nts σ := by have := hbs (by omega); omega
        refine pw_iload_n (pc2 := 21) dX10_flakiest_20 rfl rfl 0 rfl ?_
        refine pw_aload_n (pc2 := 22) dX10_flakiest_21 rfl rfl 2 rfl (by first | exact rf_ref _ | exact rf_opt _ | exact rf_nul) ?_
        refine pw_get (pc2 := 25) kX10 (k := 30) (by decide) rfl fl_X10_171 c60K1 rfl dX10_flakiest_22 rfl ?_
        refine pw_topE hb.2.2 ?_
        refine pw_icmp_ge (tgt := 53) (pc2 := 28) dX10_flakiest_25 (by decide) rfl (fun c25 => by exact absurd c25 (by first | exact (nI_leI (a := nts σ) (b := i) (by omega) (by omega)).mpr (by omega) | exact fun q => absurd ((nI_leI (a := nts σ) (b := i) (by omega) (by omega)).mp q) (by omega))) (fun _ => ?_)
        refine pw_aload_n (pc2 := 29) dX10_flakiest_28 rfl rfl 2 rfl (by first | exact rf_ref _ | exact rf_opt _ | exact rf_nul) ?_
        refine pw_iload_n (pc2 := 30) dX10_flakiest_29 rfl rfl 0 rfl ?_
        refine pw_callV1 (pc2 := 33) (c_flakyOf G _ K1 hT (t := i) hii) cs_X10_194 rfl rfl c60K1 dX10_flakiest_30 rfl (by omega) rfl (by first | decide | simp [cat_rf, Value.category]) ?_
        refine pw_aload_n (pc2 := 34) dX10_flakiest_33 rfl rfl 2 rfl (by first | exact rf_ref _ | exact rf_opt _ | exact rf_nul) ?_
        refine pw_iload_n (pc2 := 35) dX10_flakiest_34 rfl rfl 1 rfl ?_
        refine pw_callV1 (pc2 := 38) (c_flakyOf G _ K1 hT (t := bs) hbn) cs_X10_194 rfl rfl c60K1 dX10_flakiest_35 rfl (by omega) rfl (by first | decide | simp [cat_rf, Value.category]) ?_
        refine pw_icmp_le (tgt := 45) (pc2 := 41) dX10_flakiest_38 (by decide) rfl (fun c38 => ?_) (fun c38 => ?_)
        · refine pw_iload_n (pc2 := 46) dX10_flakiest_45 rfl rfl 1 rfl ?_
          refine pw_istore_n (pc2 := 47) (L2 := [(1, Value.int (nI bs)), (2, Value.int (nI i)), (0, Value.ref (A 60 0))]) dX10_flakiest_46 rfl rfl (by decide) rfl ?_
          refine pw_iinc (pc2 := 50) (v := nI (i + 1)) (L2 := [(2, Value.int (nI (i + 1))), (1, Value.int (nI bs)), (0, Value.ref (A 60 0))]) dX10_flakiest_47 rfl 1 rfl (by show nI _ + 1 = nI _; exact nI_1 _) (by decide) rfl ?_
          refine pw_goto (tgt := 20) dX10_flakiest_50 (by decide) ?_
          refine PW.sub (L2 := [(2, Value.int (nI (i + 1))), (1, Value.int (nI bs)), (0, Value.ref (A 60 0))]) [0, 1, 2] rfl ?_
          obtain ⟨e1, e2, e3⟩ := hbs (by omega)
          refine ih (i + 1) bs (by omega) (fun _ => ?_) (by omega)
          rw [fkB_s, e3]
          rw [show (if ctN (σ.1 51 bs) (xCn σ bs) < ctN (σ.1 51 i) (xCn σ i) then (i, ctN (σ.1 51 i) (xCn σ i)) else fkB σ i) = fkB σ i from if_neg (Int32.not_lt.mpr c38)]
          exact ⟨e1, by omega, e3⟩
        · refine pw_iload_n (pc2 := 42) dX10_flakiest_41 rfl rfl 0 rfl ?_
          refine pw_goto (tgt := 46) dX10_flakiest_42 (by decide) ?_
          refine pw_istore_n (pc2 := 47) (L2 := [(1, Value.int (nI i)), (2, Value.int (nI i)), (0, Value.ref (A 60 0))]) dX10_flakiest_46 rfl rfl (by decide) rfl ?_
          refine pw_iinc (pc2 := 50) (v := nI (i + 1)) (L2 := [(2, Value.int (nI (i + 1))), (1, Value.int (nI i)), (0, Value.ref (A 60 0))]) dX10_flakiest_47 rfl 1 rfl (by show nI _ + 1 = nI _; exact nI_1 _) (by decide) rfl ?_
          refine pw_goto (tgt := 20) dX10_flakiest_50 (by decide) ?_
          refine PW.sub (L2 := [(2, Value.int (nI (i + 1))), (1, Value.int (nI i)), (0, Value.ref (A 60 0))]) [0, 1, 2] rfl ?_
          obtain ⟨e1, e2, e3⟩ := hbs (by omega)
          refine ih (i + 1) i (by omega) (fun _ => ?_) (by omega)
          rw [fkB_s, e3]
          rw [show (if ctN (σ.1 51 bs) (xCn σ bs) < ctN (σ.1 51 i) (xCn σ i) then (i, ctN (σ.1 51 i) (xCn σ i)) else fkB σ i) = (i, ctN (σ.1 51 i) (xCn σ i)) from if_pos (Int32.not_le.mp c38)]
          exact ⟨rfl, Nat.lt_succ_self i, rfl⟩
    refine PW.sub (L2 := [(2, Value.int 1), (1, Value.int 0), (0, Value.ref (A 60 0))]) [0, 1, 2] rfl ?_
    exact loop (max (nts σ) 1 - 1) 1 0 (by omega) (fun z => by rw [fkB_1 hT z]; exact ⟨rfl, Nat.one_pos, rfl⟩) (by omega)
  · refine pw_iconst (pc2 := 9) (v := 1) dX10_flakiest_8 rfl (by decide) ?_
    refine pw_goto (tgt := 13) dX10_flakiest_9 (by decide) ?_
    refine pw_put (pc2 := 16) kX10 (k := 37) (by decide) rfl rfl fl_X10_109 H.c60 (by first | decide | simp) (by first | rfl | exact nar_rf _ _) (by first | rfl | exact fit_rf _ _) dX10_flakiest_13 rfl ?_
    obtain ⟨K1, FK1⟩ := H.wIF (FM.rfl') (t := 60) (i := 0) (f := (upd (σ.1 60 0) 7 1)) rfl (by decide) (iv_setI H.iv (by decide)) rfl
    obtain ⟨h2, eh2⟩ : ∃ z : Nat → Option hE, z = va_up h (A 60 0) (some (oB 13 [.ref (A 61 0), .ref (A 62 0), .ref (A 63 0), .ref (A 64 0), .ref (A 65 0), .ref (A 66 0), .ref (A 67 0), .ref (A 68 0), .ref (A 69 0), .ref (A 70 0), .ref (A 71 0), .ref (A 72 0), .ref (A 73 0), .ref (A 74 0), .ref (A 75 0), .ref (A 76 0), .int (σ.1 60 0 0), .ref (A 77 0), .ref (A 78 0), .ref (A 79 0), .ref (A 80 0), .ref (A 81 0), .ref (A 82 0), .ref (A 83 0), .int (σ.1 60 0 1), .ref (A 84 0), .ref (A 85 0), .ref (A 86 0), .ref (A 87 0), .ref (A 88 0), .int (σ.1 60 0 2), .int (σ.1 60 0 3), .ref (A 89 0), .int (σ.1 60 0 4), .int (σ.1 60 0 5), .int (σ.1 60 0 6), .ref (A 90 0), .int 1])) := ⟨_, rfl⟩
    refine PW.heap (h' := h2) eh2.symm ?_
    replace K1 : WM G h2 A (thS σ 1) := by rw [eh2]; exact K1
    replace FK1 : FM A h h2 := by rw [eh2]; exact FK1
    have c60K1 : h2 (A 60 0) = some (oB 13 [.ref (A 61 0), .ref (A 62 0), .ref (A 63 0), .ref (A 64 0), .ref (A 65 0), .ref (A 66 0), .ref (A 67 0), .ref (A 68 0), .ref (A 69 0), .ref (A 70 0), .ref (A 71 0), .ref (A 72 0), .ref (A 73 0), .ref (A 74 0), .ref (A 75 0), .ref (A 76 0), .int (σ.1 60 0 0), .ref (A 77 0), .ref (A 78 0), .ref (A 79 0), .ref (A 80 0), .ref (A 81 0), .ref (A 82 0), .ref (A 83 0), .int (σ.1 60 0 1), .ref (A 84 0), .ref (A 85 0), .ref (A 86 0), .ref (A 87 0), .ref (A 88 0), .int (σ.1 60 0 2), .int (σ.1 60 0 3), .ref (A 89 0), .int (σ.1 60 0 4), .int (σ.1 60 0 5), .int (σ.1 60 0 6), .ref (A 90 0), .int 1]) := K1.c60
    refine pw_iconst (pc2 := 17) (v := 0) dX10_flakiest_16 rfl (by decide) ?_
    refine pw_istore_n (pc2 := 18) (L2 := [(1, Value.int 0), (0, Value.ref (A 60 0))]) dX10_flakiest_17 rfl rfl (by decide) rfl ?_
    refine pw_iconst (pc2 := 19) (v := 1) dX10_flakiest_18 rfl (by decide) ?_
    refine pw_istore_n (pc2 := 20) (L2 := [(2, Value.int 1), (1, Value.int 0), (0, Value.ref (A 60 0))]) dX10_flakiest_19 rfl rfl (by decide) rfl ?_
    have loop : ∀ (k i : Nat) (bs : Nat) (h1 : 1 ≤ i) (hbs : 0 < nts σ → bs = (fkB σ i).1 ∧ bs < i ∧ (fkB σ i).2 = ctN (σ.1 51 bs) (xCn σ bs)), i + k = (max (nts σ) 1) → PW G MX10_flakiest d noA (E0 G (fun r h2 => (nts σ = 0 ∧ QSM G h A (.int 0) (thS σ 1) r h2) ∨ (¬ nts σ = 0 ∧ QSM G h A (.int (nI (fkB σ (nts σ)).1)) (thS σ 0) r h2)) noX) 0 0 20 [(2, Value.int (nI i)), (1, Value.int (nI bs)), (0, Value.ref (A 60 0))] [] h2 := by
      intro k
      induction k with
      | zero =>
        intro i bs h1 hbs hik
        have hi9 : i = (max (nts σ) 1) := by omega
        refine pw_iload_n (pc2 := 21) dX10_flakiest_20 rfl rfl 0 rfl ?_
        refine pw_aload_n (pc2 := 22) dX10_flakiest_21 rfl rfl 2 rfl (by first | exact rf_ref _ | exact rf_opt _ | exact rf_nul) ?_
        refine pw_get (pc2 := 25) kX10 (k := 30) (by decide) rfl fl_X10_171 c60K1 rfl dX10_flakiest_22 rfl ?_
        refine pw_topE hb.2.2 ?_
        refine pw_icmp_ge (tgt := 53) (pc2 := 28) dX10_flakiest_25 (by decide) rfl (fun _ => ?_) (fun c25 => by exact absurd (by first | exact (nI_leI (a := nts σ) (b := i) (by omega) (by omega)).mpr (by omega) | exact fun q => absurd ((nI_leI (a := nts σ) (b := i) (by omega) (by omega)).mp q) (by omega)) c25)
        refine pw_aload_n (pc2 := 54) dX10_flakiest_53 rfl rfl 2 rfl (by first | exact rf_ref _ | exact rf_opt _ | exact rf_nul) ?_
        refine pw_get (pc2 := 57) kX10 (k := 37) (by decide) rfl fl_X10_109 c60K1 rfl dX10_flakiest_54 rfl ?_
        refine pw_if_le (tgt := 64) (pc2 := 60) dX10_flakiest_57 (by decide) rfl (fun c57 => by exact absurd c57 (by decide)) (fun _ => ?_)
        refine pw_iconst (pc2 := 61) (v := 0) dX10_flakiest_60 rfl (by decide) ?_
        refine pw_goto (tgt := 65) dX10_flakiest_61 (by decide) ?_
        refine pw_iret dX10_flakiest_65 rfl (by first | rfl | assumption | simp [narrow]) ?_
        exact Or.inl ⟨nI_inj (by omega) (by decide) c5, rfl, K1, FK1⟩
      | succ k ih =>
        intro i bs h1 hbs hik
        have hi9 : i < (max (nts σ) 1) := by omega
        have hii : i < nts σ := by omega
        have hbn : bs < nts σ := by have := hbs (by omega); omega
        refine pw_iload_n (pc2 := 21) dX10_flakiest_20 rfl rfl 0 rfl ?_
        refine pw_aload_n (pc2 := 22) dX10_flakiest_21 rfl rfl 2 rfl (by first | exact rf_ref _ | exact rf_opt _ | exact rf_nul) ?_
        refine pw_get (pc2 := 25) kX10 (k := 30) (by decide) rfl fl_X10_171 c60K1 rfl dX10_flakiest_22 rfl ?_
        refine pw_topE hb.2.2 ?_
        refine pw_icmp_ge (tgt := 53) (pc2 := 28) dX10_flakiest_25 (by decide) rfl (fun c25 => by exact absurd c25 (by first | exact (nI_leI (a := nts σ) (b := i) (by omega) (by omega)).mpr (by omega) | exact fun q => absurd ((nI_leI (a := nts σ) (b := i) (by omega) (by omega)).mp q) (by omega))) (fun _ => ?_)
        refine pw_aload_n (pc2 := 29) dX10_flakiest_28 rfl rfl 2 rfl (by first | exact rf_ref _ | exact rf_opt _ | exact rf_nul) ?_
        refine pw_iload_n (pc2 := 30) dX10_flakiest_29 rfl rfl 0 rfl ?_
        refine pw_callV1 (pc2 := 33) (c_flakyOf G _ K1 hT (t := i) hii) cs_X10_194 rfl rfl c60K1 dX10_flakiest_30 rfl (by omega) rfl (by first | decide | simp [cat_rf, Value.category]) ?_
        refine pw_aload_n (pc2 := 34) dX10_flakiest_33 rfl rfl 2 rfl (by first | exact rf_ref _ | exact rf_opt _ | exact rf_nul) ?_
        refine pw_iload_n (pc2 := 35) dX10_flakiest_34 rfl rfl 1 rfl ?_
        refine pw_callV1 (pc2 := 38) (c_flakyOf G _ K1 hT (t := bs) hbn) cs_X10_194 rfl rfl c60K1 dX10_flakiest_35 rfl (by omega) rfl (by first | decide | simp [cat_rf, Value.category]) ?_
        refine pw_icmp_le (tgt := 45) (pc2 := 41) dX10_flakiest_38 (by decide) rfl (fun c38 => ?_) (fun c38 => ?_)
        · refine pw_iload_n (pc2 := 46) dX10_flakiest_45 rfl rfl 1 rfl ?_
          refine pw_istore_n (pc2 := 47) (L2 := [(1, Value.int (nI bs)), (2, Value.int (nI i)), (0, Value.ref (A 60 0))]) dX10_flakiest_46 rfl rfl (by decide) rfl ?_
          refine pw_iinc (pc2 := 50) (v := nI (i + 1)) (L2 := [(2, Value.int (nI (i + 1))), (1, Value.int (nI bs)), (0, Value.ref (A 60 0))]) dX10_flakiest_47 rfl 1 rfl (by show nI _ + 1 = nI _; exact nI_1 _) (by decide) rfl ?_
          refine pw_goto (tgt := 20) dX10_flakiest_50 (by decide) ?_
          refine PW.sub (L2 := [(2, Value.int (nI (i + 1))), (1, Value.int (nI bs)), (0, Value.ref (A 60 0))]) [0, 1, 2] rfl ?_
          obtain ⟨e1, e2, e3⟩ := hbs (by omega)
          refine ih (i + 1) bs (by omega) (fun _ => ?_) (by omega)
          rw [fkB_s, e3]
          rw [show (if ctN (σ.1 51 bs) (xCn σ bs) < ctN (σ.1 51 i) (xCn σ i) then (i, ctN (σ.1 51 i) (xCn σ i)) else fkB σ i) = fkB σ i from if_neg (Int32.not_lt.mpr c38)]
          exact ⟨e1, by omega, e3⟩
        · refine pw_iload_n (pc2 := 42) dX10_flakiest_41 rfl rfl 0 rfl ?_
          refine pw_goto (tgt := 46) dX10_flakiest_42 (by decide) ?_
          refine pw_istore_n (pc2 := 47) (L2 := [(1, Value.int (nI i)), (2, Value.int (nI i)), (0, Value.ref (A 60 0))]) dX10_flakiest_46 rfl rfl (by decide) rfl ?_
          refine pw_iinc (pc2 := 50) (v := nI (i + 1)) (L2 := [(2, Value.int (nI (i + 1))), (1, Value.int (nI i)), (0, Value.ref (A 60 0))]) dX10_flakiest_47 rfl 1 rfl (by show nI _ + 1 = nI _; exact nI_1 _) (by decide) rfl ?_
          refine pw_goto (tgt := 20) dX10_flakiest_50 (by decide) ?_
          refine PW.sub (L2 := [(2, Value.int (nI (i + 1))), (1, Value.int (nI i)), (0, Value.ref (A 60 0))]) [0, 1, 2] rfl ?_
          obtain ⟨e1, e2, e3⟩ := hbs (by omega)
          refine ih (i + 1) i (by omega) (fun _ => ?_) (by omega)
          rw [fkB_s, e3]
          rw [show (if ctN (σ.1 51 bs) (xCn σ bs) < ctN (σ.1 51 i) (xCn σ i) then (i, ctN (σ.1 51 i) (xCn σ i)) else fkB σ i) = (i, ctN (σ.1 51 i) (xCn σ i)) from if_pos (Int32.not_le.mp c38)]
          exact ⟨rfl, Nat.lt_succ_self i, rfl⟩
    refine PW.sub (L2 := [(2, Value.int 1), (1, Value.int 0), (0, Value.ref (A 60 0))]) [0, 1, 2] rfl ?_
    exact loop (max (nts σ) 1 - 1) 1 0 (by omega) (fun z => by rw [fkB_1 hT z]; exact ⟨rfl, Nat.one_pos, rfl⟩) (by omega)
def rcS (S : sT) (X : Nat → Nat → Nat → Int32) : sT := (fun u j => if u = 88 ∨ u = 100 then X u j else S.1 u j, S.2)
theorem rcS_id (S : sT) : rcS S S.1 = S := by
  refine Prod.ext (funext fun u => funext fun j => ?_) rfl
  show (if u = 88 ∨ u = 100 then S.1 u j else S.1 u j) = _
  exact ite_self _
theorem rcS_eq {S T : sT} {X : Nat → Nat → Nat → Int32} {t : Nat} (h2 : T.2 = S.2) (hf : ∀ u j, ¬ (u = 100 ∧ j = t) → ¬ (u = 88 ∧ j = 0) → T.1 u j = (rcS S X).1 u j) : T = rcS S T.1 := by
  refine Prod.ext (funext fun u => funext fun j => ?_) h2
  show _ = if u = 88 ∨ u = 100 then T.1 u j else S.1 u j
  by_cases e : u = 88 ∨ u = 100
  · rw [if_pos e]
  · rw [if_neg e, hf u j (fun q => e (Or.inr q.1)) (fun q => e (Or.inl q.1))]
    exact if_neg e
def RCI (σ : sT) (n : Int32) (i : Nat) (X : Nat → Nat → Nat → Int32) : Prop := ∀ s, (s < i ∧ σ.1 50 s 0 = n → X 88 0 s = nI (arC (xCn σ s)) ∧ X 100 s = arF (σ.1 100 s) (xCn σ s) (σ.1 86 0 s)) ∧ (¬ (s < i ∧ σ.1 50 s 0 = n) → X 88 0 s = σ.1 88 0 s ∧ X 100 s = σ.1 100 s)
theorem set3 {S : sT} {a b c p : Nat} {f g k f' g' k' : Nat → Int32} : setI (setI (setI (setI (setI (setI S a p f) b p g) c p k) a p f') b p g') c p k' = setI (setI (setI S a p f') b p g') c p k' := by
  refine Prod.ext (funext fun u => funext fun j => ?_) rfl
  unfold setI
  dsimp only
  by_cases h1 : u = c ∧ j = p
  · simp only [if_pos h1]
  · simp only [if_neg h1]
    by_cases h2 : u = b ∧ j = p
    · simp only [if_pos h2]
    · simp only [if_neg h2]
      by_cases h3 : u = a ∧ j = p
      · simp only [if_pos h3]
      · simp only [if_neg h3]
def mT5 (σ : sT) (o : Nat) (C : Nat → Int32) (cs : Int32) : sT := setI (setI (setI (setI (setI (thS σ 0) 90 0 C) 60 0 (upd (upd (σ.1 60 0) 7 0) 7 0)) 89 0 (upd (σ.1 89 0) o (σ.1 89 0 o - cs))) 60 0 (upd (upd (upd (σ.1 60 0) 7 0) 7 0) 6 (σ.1 60 0 6 + cs))) 60 0 (upd (upd (upd (upd (σ.1 60 0) 7 0) 7 0) 6 (σ.1 60 0 6 + cs)) 5 (σ.1 60 0 5 + 1))
def mT7 (σ : sT) (p o : Nat) (C : Nat → Int32) (cs : Int32) (X : Nat → Nat → Nat → Int32) (bt : Int32) : sT := setI (setI (setI (rcS (mT5 σ o C cs) X) 71 0 (upd (σ.1 71 0) p bt)) 73 0 (upd (σ.1 73 0) p (σ.1 62 0 p))) 74 0 (upd (σ.1 74 0) p (σ.1 63 0 p))
def mTE (σ : sT) (p o : Nat) (C : Nat → Int32) (cs : Int32) (X : Nat → Nat → Nat → Int32) (bt : Int32) (R1 R2 R3 : Nat → Int32) : sT := setI (setI (setI (mT7 σ p o C cs X bt) 94 p R1) 95 p R2) 96 p R3
theorem setI_id {S : sT} {t i : Nat} {f : Nat → Int32} (h : S.1 t i = f) : setI S t i f = S := by
  refine Prod.ext (funext fun u => funext fun j => ?_) rfl
  show (if u = t ∧ j = i then f else S.1 u j) = _
  by_cases e : u = t ∧ j = i
  · rw [if_pos e, e.1, e.2, h]
  · rw [if_neg e]
set_option maxHeartbeats 4000000 in
set_option maxRecDepth 100000 in
theorem c_mtest (G : hG) (h : hp) {A : aT} {σ : sT} (H : WM G h A σ) (hb : MB σ) {ofr : Nat → Nat} (hR : RR σ ofr) (hS : RS σ) (hC : RC σ) (hT : RT σ) (hO : ∀ p, p < npk σ → ∃ o, o < 3 ∧ σ.1 61 0 p = nI o) (n : Int32) : PMet G MX10_test 11 0 0 [.ref (A 60 0), .int n] h (fun r h2 => (¬ inR n (npk σ) ∧ QSM G h A (.int 0) (thS σ 1) r h2) ∨ (∃ p, p < npk σ ∧ n = nI p ∧ ((srS σ p = none ∧ ∃ C, QSM G h A (.int 0) (thS (setI (thS σ 0) 90 0 C) 2) r h2) ∨ (∃ g' C o, srS σ p = some g' ∧ pkB σ g' ∧ o < 3 ∧ σ.1 61 0 p = nI o ∧ (((¬ bOk σ p g' ∨ σ.1 89 0 o < (cstN σ.1 (nI p) (nts σ))) ∧ QSM G h A (.int 0) (thS (setI (thS σ 0) 90 0 C) 3) r h2) ∨ (bOk σ p g' ∧ ¬ σ.1 89 0 o < (cstN σ.1 (nI p) (nts σ)) ∧ ∃ X R1 R2 R3, RCI σ (nI p) (nts σ) X ∧ (∀ j, j < 6 → R1 j = vG σ (g' j) ∧ R2 j = σ.1 91 p j ∧ R3 j = σ.1 92 p j) ∧ QSM G h A (.int (flnN σ.1 (nI p) (nts σ))) (mTE σ p o C (cstN σ.1 (nI p) (nts σ)) X (if (flnN σ.1 (nI p) (nts σ)) = 0 then 1 else 0) R1 R2 R3) r h2)))))) noX := by
  have hnp := H.iv.1
  have hnt8 := H.iv.2.1
  refine PMet.of (by decide +kernel) (Nat.le_of_ble_eq_true rfl) (fun d hd => ?_)
  refine PW.sub (L2 := [(0, Value.ref (A 60 0)), (1, Value.int n)]) [0, 1] rfl ?_
  refine pw_aload_n (pc2 := 1) dX10_test_0 rfl rfl 0 rfl (by first | exact rf_ref _ | exact rf_opt _ | exact rf_nul) ?_
  refine pw_iload_n (pc2 := 2) dX10_test_1 rfl rfl 1 rfl ?_
  refine pw_callV (pc2 := 5) (c_lacks G _ H hb n) cs_X10_123 rfl rfl H.c60 dX10_test_2 rfl (by omega) rfl (by first | decide | simp [cat_rf, Value.category]) (fun r9 h9 q9 => ?_) (fun Y h9 q9 => q9.elim)
  rcases q9 with ⟨hin, rfl, K1, FK1⟩ | ⟨hin, rfl, K1, FK1⟩
  · obtain ⟨p, hpp, rfl⟩ := inR_ex (by omega) hin
    have hp6 : p < 6 := by omega
    have c60K1 : h9 (A 60 0) = some (oB 13 [.ref (A 61 0), .ref (A 62 0), .ref (A 63 0), .ref (A 64 0), .ref (A 65 0), .ref (A 66 0), .ref (A 67 0), .ref (A 68 0), .ref (A 69 0), .ref (A 70 0), .ref (A 71 0), .ref (A 72 0), .ref (A 73 0), .ref (A 74 0), .ref (A 75 0), .ref (A 76 0), .int (σ.1 60 0 0), .ref (A 77 0), .ref (A 78 0), .ref (A 79 0), .ref (A 80 0), .ref (A 81 0), .ref (A 82 0), .ref (A 83 0), .int (σ.1 60 0 1), .ref (A 84 0), .ref (A 85 0), .ref (A 86 0), .ref (A 87 0), .ref (A 88 0), .int (σ.1 60 0 2), .int (σ.1 60 0 3), .ref (A 89 0), .int (σ.1 60 0 4), .int (σ.1 60 0 5), .int (σ.1 60 0 6), .ref (A 90 0), .int 0]) := K1.c60
    refine pw_if_eq (tgt := 10) (pc2 := 8) dX10_test_5 (by decide) rfl (fun _ => ?_) (fun c5 => by exact absurd (by decide) c5)
    refine pw_aload_n (pc2 := 11) dX10_test_10 rfl rfl 0 rfl (by first | exact rf_ref _ | exact rf_opt _ | exact rf_nul) ?_
    refine pw_iload_n (pc2 := 12) dX10_test_11 rfl rfl 1 rfl ?_
    refine pw_callV (pc2 := 15) (c_mforp G _ K1 hb hR.1 hS hpp) cs_X10_152 rfl rfl c60K1 dX10_test_12 rfl (by omega) rfl (by first | decide | simp [cat_rf, Value.category]) (fun r9 h8 q8 => ?_) (fun Y h9 q9 => q9.elim)
    cases hs : srS σ p with
    | none =>
      obtain ⟨rfl, C, e9⟩ := q8.2 (srS_th.trans hs)
      obtain ⟨K0, FK0⟩ := K1.wIF FK1 (t := 90) (i := 0) (f := C) rfl (by decide) (iv_setI K1.iv (by decide)) rfl
      replace K0 : WM G h8 A (setI (thS σ 0) 90 0 C) := by rw [e9]; exact K0
      replace FK0 : FM A h h8 := by rw [e9]; exact FK0
      clear e9
      have c60K0 : h8 (A 60 0) = some (oB 13 [.ref (A 61 0), .ref (A 62 0), .ref (A 63 0), .ref (A 64 0), .ref (A 65 0), .ref (A 66 0), .ref (A 67 0), .ref (A 68 0), .ref (A 69 0), .ref (A 70 0), .ref (A 71 0), .ref (A 72 0), .ref (A 73 0), .ref (A 74 0), .ref (A 75 0), .ref (A 76 0), .int (σ.1 60 0 0), .ref (A 77 0), .ref (A 78 0), .ref (A 79 0), .ref (A 80 0), .ref (A 81 0), .ref (A 82 0), .ref (A 83 0), .int (σ.1 60 0 1), .ref (A 84 0), .ref (A 85 0), .ref (A 86 0), .ref (A 87 0), .ref (A 88 0), .int (σ.1 60 0 2), .int (σ.1 60 0 3), .ref (A 89 0), .int (σ.1 60 0 4), .int (σ.1 60 0 5), .int (σ.1 60 0 6), .ref (A 90 0), .int 0]) := K0.c60
      have k840K0 : h8 (A 84 0) = some (aI 8 (σ.1 84 0)) := K0.c84
      have k850K0 : h8 (A 85 0) = some (aI 8 (σ.1 85 0)) := K0.c85
      have k860K0 : h8 (A 86 0) = some (aZ 8 (σ.1 86 0)) := K0.c86
      have k890K0 : h8 (A 89 0) = some (aI 3 (σ.1 89 0)) := K0.c89
      have k610K0 : h8 (A 61 0) = some (aI 6 (σ.1 61 0)) := K0.c61
      refine pw_istore_n (pc2 := 16) (L2 := [(2, Value.int 0), (0, Value.ref (A 60 0)), (1, Value.int (nI p))]) dX10_test_15 rfl rfl (by decide) rfl ?_
      refine pw_iload_n (pc2 := 17) dX10_test_16 rfl rfl 0 rfl ?_
      refine pw_if_eq (tgt := 32) (pc2 := 20) dX10_test_17 (by decide) rfl (fun _ => ?_) (fun c17 => by exact absurd (by decide) c17)
      refine pw_iconst (pc2 := 33) (v := 0) dX10_test_32 rfl (by decide) ?_
      refine pw_istore_n (pc2 := 34) (L2 := [(3, Value.int 0), (2, Value.int 0), (0, Value.ref (A 60 0)), (1, Value.int (nI p))]) dX10_test_33 rfl rfl (by decide) rfl ?_
      refine pw_iconst (pc2 := 35) (v := 0) dX10_test_34 rfl (by decide) ?_
      refine pw_istore (pc2 := 37) (L2 := [(4, Value.int 0), (3, Value.int 0), (2, Value.int 0), (0, Value.ref (A 60 0)), (1, Value.int (nI p))]) dX10_test_35 rfl (by decide) rfl ?_
      refine pw_iconst (pc2 := 38) (v := 0) dX10_test_37 rfl (by decide) ?_
      refine pw_istore (pc2 := 40) (L2 := [(5, Value.int 0), (4, Value.int 0), (3, Value.int 0), (2, Value.int 0), (0, Value.ref (A 60 0)), (1, Value.int (nI p))]) dX10_test_38 rfl (by decide) rfl ?_
      refine pw_iconst (pc2 := 41) (v := 0) dX10_test_40 rfl (by decide) ?_
      refine pw_istore (pc2 := 43) (L2 := [(6, Value.int 0), (5, Value.int 0), (4, Value.int 0), (3, Value.int 0), (2, Value.int 0), (0, Value.ref (A 60 0)), (1, Value.int (nI p))]) dX10_test_41 rfl (by decide) rfl ?_
      have loop : ∀ (k i : Nat) (ac bc : Int32) (hac : ac = cstN σ.1 (nI p) i) (hbc : bc = flnN σ.1 (nI p) i), i + k = nts σ → PW G MX10_test d noA (E0 G (fun r h2 => (¬ inR (nI p) (npk σ) ∧ QSM G h A (.int 0) (thS σ 1) r h2) ∨ (∃ p9, p9 < npk σ ∧ (nI p) = nI p9 ∧ ((srS σ p9 = none ∧ ∃ C, QSM G h A (.int 0) (thS (setI (thS σ 0) 90 0 C) 2) r h2) ∨ (∃ g' C o, srS σ p9 = some g' ∧ pkB σ g' ∧ o < 3 ∧ σ.1 61 0 p9 = nI o ∧ (((¬ bOk σ p9 g' ∨ σ.1 89 0 o < (cstN σ.1 (nI p9) (nts σ))) ∧ QSM G h A (.int 0) (thS (setI (thS σ 0) 90 0 C) 3) r h2) ∨ (bOk σ p9 g' ∧ ¬ σ.1 89 0 o < (cstN σ.1 (nI p9) (nts σ)) ∧ ∃ X R1 R2 R3, RCI σ (nI p9) (nts σ) X ∧ (∀ j, j < 6 → R1 j = vG σ (g' j) ∧ R2 j = σ.1 91 p9 j ∧ R3 j = σ.1 92 p9 j) ∧ QSM G h A (.int (flnN σ.1 (nI p9) (nts σ))) (mTE σ p9 o C (cstN σ.1 (nI p9) (nts σ)) X (if (flnN σ.1 (nI p9) (nts σ)) = 0 then 1 else 0) R1 R2 R3) r h2)))))) noX) 0 0 43 [(6, Value.int (nI i)), (5, Value.int bc), (4, Value.int ac), (3, Value.int 0), (2, Value.int 0), (0, Value.ref (A 60 0)), (1, Value.int (nI p))] [] h8 := by
        intro k
        induction k with
        | zero =>
          intro i ac bc hac hbc hik
          have hi9 : i = nts σ := by omega
          refine pw_iload (pc2 := 45) dX10_test_43 rfl 0 rfl ?_
          refine pw_aload_n (pc2 := 46) dX10_test_45 rfl rfl 5 rfl (by first | exact rf_ref _ | exact rf_opt _ | exact rf_nul) ?_
          refine pw_get (pc2 := 49) kX10 (k := 30) (by decide) rfl fl_X10_171 c60K0 rfl dX10_test_46 rfl ?_
          refine pw_topE hb.2.2 ?_
          refine pw_icmp_ge (tgt := 116) (pc2 := 52) dX10_test_49 (by decide) rfl (fun _ => ?_) (fun c49 => by exact absurd (by first | exact (nI_leI (a := nts σ) (b := i) (by omega) (by omega)).mpr (by omega) | exact fun q => absurd ((nI_leI (a := nts σ) (b := i) (by omega) (by omega)).mp q) (by omega)) c49)
          subst hi9
          subst hac
          subst hbc
          obtain ⟨o, ho3, h61⟩ := hO p hpp
          refine pw_aload_n (pc2 := 117) dX10_test_116 rfl rfl 5 rfl (by first | exact rf_ref _ | exact rf_opt _ | exact rf_nul) ?_
          refine pw_iload_n (pc2 := 118) dX10_test_117 rfl rfl 4 rfl ?_
          refine pw_if_ne (tgt := 125) (pc2 := 121) dX10_test_118 (by decide) rfl (fun c118 => by exact absurd (by decide) c118) (fun _ => ?_)
          refine pw_iconst (pc2 := 122) (v := 2) dX10_test_121 rfl (by decide) ?_
          refine pw_goto (tgt := 150) dX10_test_122 (by decide) ?_
          refine pw_put (pc2 := 153) kX10 (k := 37) (by decide) rfl rfl fl_X10_109 c60K0 (by first | decide | simp) (by first | rfl | exact nar_rf _ _) (by first | rfl | exact fit_rf _ _) dX10_test_150 rfl ?_
          obtain ⟨K2, FK2⟩ := K0.wIF (FK0) (t := 60) (i := 0) (f := (upd (upd (σ.1 60 0) 7 0) 7 2)) rfl (by decide) (iv_setI K0.iv (by decide)) rfl
          obtain ⟨h7, eh7⟩ : ∃ z : Nat → Option hE, z = va_up h8 (A 60 0) (some (oB 13 [.ref (A 61 0), .ref (A 62 0), .ref (A 63 0), .ref (A 64 0), .ref (A 65 0), .ref (A 66 0), .ref (A 67 0), .ref (A 68 0), .ref (A 69 0), .ref (A 70 0), .ref (A 71 0), .ref (A 72 0), .ref (A 73 0), .ref (A 74 0), .ref (A 75 0), .ref (A 76 0), .int (σ.1 60 0 0), .ref (A 77 0), .ref (A 78 0), .ref (A 79 0), .ref (A 80 0), .ref (A 81 0), .ref (A 82 0), .ref (A 83 0), .int (σ.1 60 0 1), .ref (A 84 0), .ref (A 85 0), .ref (A 86 0), .ref (A 87 0), .ref (A 88 0), .int (σ.1 60 0 2), .int (σ.1 60 0 3), .ref (A 89 0), .int (σ.1 60 0 4), .int (σ.1 60 0 5), .int (σ.1 60 0 6), .ref (A 90 0), .int 2])) := ⟨_, rfl⟩
          refine PW.heap (h' := h7) eh7.symm ?_
          replace K2 : WM G h7 A (setI (setI (thS σ 0) 90 0 C) 60 0 (upd (upd (σ.1 60 0) 7 0) 7 2)) := by rw [eh7]; exact K2
          replace FK2 : FM A h h7 := by rw [eh7]; exact FK2
          have c60K2b : h7 (A 60 0) = some (oB 13 [.ref (A 61 0), .ref (A 62 0), .ref (A 63 0), .ref (A 64 0), .ref (A 65 0), .ref (A 66 0), .ref (A 67 0), .ref (A 68 0), .ref (A 69 0), .ref (A 70 0), .ref (A 71 0), .ref (A 72 0), .ref (A 73 0), .ref (A 74 0), .ref (A 75 0), .ref (A 76 0), .int (σ.1 60 0 0), .ref (A 77 0), .ref (A 78 0), .ref (A 79 0), .ref (A 80 0), .ref (A 81 0), .ref (A 82 0), .ref (A 83 0), .int (σ.1 60 0 1), .ref (A 84 0), .ref (A 85 0), .ref (A 86 0), .ref (A 87 0), .ref (A 88 0), .int (σ.1 60 0 2), .int (σ.1 60 0 3), .ref (A 89 0), .int (σ.1 60 0 4), .int (σ.1 60 0 5), .int (σ.1 60 0 6), .ref (A 90 0), .int 2]) := K2.c60
          refine pw_aload_n (pc2 := 154) dX10_test_153 rfl rfl 5 rfl (by first | exact rf_ref _ | exact rf_opt _ | exact rf_nul) ?_
          refine pw_get (pc2 := 157) kX10 (k := 37) (by decide) rfl fl_X10_109 c60K2b rfl dX10_test_154 rfl ?_
          refine pw_if_le (tgt := 162) (pc2 := 160) dX10_test_157 (by decide) rfl (fun c157 => by exact absurd c157 (by decide)) (fun _ => ?_)
          refine pw_iconst (pc2 := 161) (v := 0) dX10_test_160 rfl (by decide) ?_
          refine pw_iret dX10_test_161 rfl (by first | rfl | assumption | simp [narrow]) ?_
          exact Or.inr ⟨p, hpp, rfl, Or.inl ⟨hs, C, rfl, K2, FK2⟩⟩
        | succ k ih =>
          intro i ac bc hac hbc hik
          have hi9 : i < nts σ := by omega
          obtain ⟨t84, t85, t86, -⟩ := hT i hi9
          refine pw_iload (pc2 := 45) dX10_test_43 rfl 0 rfl ?_
          refine pw_aload_n (pc2 := 46) dX10_test_45 rfl rfl 5 rfl (by first | exact rf_ref _ | exact rf_opt _ | exact rf_nul) ?_
          refine pw_get (pc2 := 49) kX10 (k := 30) (by decide) rfl fl_X10_171 c60K0 rfl dX10_test_46 rfl ?_
          refine pw_topE hb.2.2 ?_
          refine pw_icmp_ge (tgt := 116) (pc2 := 52) dX10_test_49 (by decide) rfl (fun c49 => by exact absurd c49 (by first | exact (nI_leI (a := nts σ) (b := i) (by omega) (by omega)).mpr (by omega) | exact fun q => absurd ((nI_leI (a := nts σ) (b := i) (by omega) (by omega)).mp q) (by omega))) (fun _ => ?_)
          refine pw_iload (pc2 := 54) dX10_test_52 rfl 2 rfl ?_
          refine pw_aload_n (pc2 := 55) dX10_test_54 rfl rfl 5 rfl (by first | exact rf_ref _ | exact rf_opt _ | exact rf_nul) ?_
          refine pw_get (pc2 := 58) kX10 (k := 25) (by decide) rfl fl_X10_82 c60K0 rfl dX10_test_55 rfl ?_
          refine pw_iload (pc2 := 60) dX10_test_58 rfl 0 rfl ?_
          refine pw_ialdN (pc2 := 61) K0.c84 (i := i) (by first | assumption | omega) (by omega) dX10_test_60 rfl ?_
          refine pw_topE t84 ?_
          refine pw_iload_n (pc2 := 62) dX10_test_61 rfl rfl 6 rfl ?_
          refine pw_icmp_ne (tgt := 75) (pc2 := 65) dX10_test_62 (by decide) rfl (fun c62 => ?_) (fun c62 => ?_)
          · refine pw_iconst (pc2 := 76) (v := 0) dX10_test_75 rfl (by decide) ?_
            refine pw_iadd (pc2 := 77) dX10_test_76 rfl ?_
            refine pw_topi (fun v1 ev1 => ?_)
            refine pw_istore (pc2 := 79) (L2 := [(4, Value.int v1), (6, Value.int (nI i)), (5, Value.int bc), (3, Value.int 0), (2, Value.int 0), (0, Value.ref (A 60 0)), (1, Value.int (nI p))]) dX10_test_77 rfl (by decide) rfl ?_
            refine pw_iload (pc2 := 81) dX10_test_79 rfl 2 rfl ?_
            refine pw_aload_n (pc2 := 82) dX10_test_81 rfl rfl 5 rfl (by first | exact rf_ref _ | exact rf_opt _ | exact rf_nul) ?_
            refine pw_get (pc2 := 85) kX10 (k := 25) (by decide) rfl fl_X10_82 c60K0 rfl dX10_test_82 rfl ?_
            refine pw_iload (pc2 := 87) dX10_test_85 rfl 1 rfl ?_
            refine pw_ialdN (pc2 := 88) K0.c84 (i := i) (by first | assumption | omega) (by omega) dX10_test_87 rfl ?_
            refine pw_topE t84 ?_
            refine pw_iload_n (pc2 := 89) dX10_test_88 rfl rfl 6 rfl ?_
            refine pw_icmp_ne (tgt := 106) (pc2 := 92) dX10_test_89 (by decide) rfl (fun c89 => ?_) (fun c89 => ?_)
            · refine pw_iconst (pc2 := 107) (v := 0) dX10_test_106 rfl (by decide) ?_
              refine pw_iadd (pc2 := 108) dX10_test_107 rfl ?_
              refine pw_topi (fun v2 ev2 => ?_)
              refine pw_istore (pc2 := 110) (L2 := [(5, Value.int v2), (4, Value.int v1), (6, Value.int (nI i)), (3, Value.int 0), (2, Value.int 0), (0, Value.ref (A 60 0)), (1, Value.int (nI p))]) dX10_test_108 rfl (by decide) rfl ?_
              refine pw_iinc (pc2 := 113) (v := nI (i + 1)) (L2 := [(6, Value.int (nI (i + 1))), (5, Value.int v2), (4, Value.int v1), (3, Value.int 0), (2, Value.int 0), (0, Value.ref (A 60 0)), (1, Value.int (nI p))]) dX10_test_110 rfl 2 rfl (by show nI _ + 1 = nI _; exact nI_1 _) (by decide) rfl ?_
              refine pw_goto (tgt := 43) dX10_test_113 (by decide) ?_
              refine PW.sub (L2 := [(6, Value.int (nI (i + 1))), (5, Value.int v2), (4, Value.int v1), (3, Value.int 0), (2, Value.int 0), (0, Value.ref (A 60 0)), (1, Value.int (nI p))]) [0, 1, 2, 3, 4, 5, 6] rfl ?_
              refine ih (i + 1) v1 v2 ?_ ?_ (by omega)
              · rw [ev1, hac]; exact ((by first | exact if_pos c62 | exact (if_neg c62).trans (Int32.add_zero _).symm) : cstN σ.1 (nI p) (i + 1) = _).symm
              · rw [ev2, hbc]; exact ((by first | exact (if_pos c89).trans (by first | rw [if_pos c99] | rw [if_neg c99]) | exact (if_neg c89).trans (Int32.add_zero _).symm) : flnN σ.1 (nI p) (i + 1) = _).symm
            · refine pw_aload_n (pc2 := 93) dX10_test_92 rfl rfl 5 rfl (by first | exact rf_ref _ | exact rf_opt _ | exact rf_nul) ?_
              refine pw_get (pc2 := 96) kX10 (k := 27) (by decide) rfl fl_X10_88 c60K0 rfl dX10_test_93 rfl ?_
              refine pw_iload (pc2 := 98) dX10_test_96 rfl 1 rfl ?_
              refine pw_zaldN (pc2 := 99) K0.c86 (i := i) (by first | assumption | omega) (by omega) dX10_test_98 rfl ?_
              refine pw_topE t86 ?_
              refine pw_if_eq (tgt := 106) (pc2 := 102) dX10_test_99 (by decide) rfl (fun c99 => ?_) (fun c99 => ?_)
              · refine pw_iconst (pc2 := 107) (v := 0) dX10_test_106 rfl (by decide) ?_
                refine pw_iadd (pc2 := 108) dX10_test_107 rfl ?_
                refine pw_topi (fun v4 ev4 => ?_)
                refine pw_istore (pc2 := 110) (L2 := [(5, Value.int v4), (4, Value.int v1), (6, Value.int (nI i)), (3, Value.int 0), (2, Value.int 0), (0, Value.ref (A 60 0)), (1, Value.int (nI p))]) dX10_test_108 rfl (by decide) rfl ?_
                refine pw_iinc (pc2 := 113) (v := nI (i + 1)) (L2 := [(6, Value.int (nI (i + 1))), (5, Value.int v4), (4, Value.int v1), (3, Value.int 0), (2, Value.int 0), (0, Value.ref (A 60 0)), (1, Value.int (nI p))]) dX10_test_110 rfl 2 rfl (by show nI _ + 1 = nI _; exact nI_1 _) (by decide) rfl ?_
                refine pw_goto (tgt := 43) dX10_test_113 (by decide) ?_
                refine PW.sub (L2 := [(6, Value.int (nI (i + 1))), (5, Value.int v4), (4, Value.int v1), (3, Value.int 0), (2, Value.int 0), (0, Value.ref (A 60 0)), (1, Value.int (nI p))]) [0, 1, 2, 3, 4, 5, 6] rfl ?_
                refine ih (i + 1) v1 v4 ?_ ?_ (by omega)
                · rw [ev1, hac]; exact ((by first | exact if_pos c62 | exact (if_neg c62).trans (Int32.add_zero _).symm) : cstN σ.1 (nI p) (i + 1) = _).symm
                · rw [ev4, hbc]; exact ((by first | exact (if_pos c89).trans (by first | rw [if_pos c99] | rw [if_neg c99]) | exact (if_neg c89).trans (Int32.add_zero _).symm) : flnN σ.1 (nI p) (i + 1) = _).symm
              · refine pw_iconst (pc2 := 103) (v := 1) dX10_test_102 rfl (by decide) ?_
                refine pw_goto (tgt := 107) dX10_test_103 (by decide) ?_
                refine pw_iadd (pc2 := 108) dX10_test_107 rfl ?_
                refine pw_topi (fun v6 ev6 => ?_)
                refine pw_istore (pc2 := 110) (L2 := [(5, Value.int v6), (4, Value.int v1), (6, Value.int (nI i)), (3, Value.int 0), (2, Value.int 0), (0, Value.ref (A 60 0)), (1, Value.int (nI p))]) dX10_test_108 rfl (by decide) rfl ?_
                refine pw_iinc (pc2 := 113) (v := nI (i + 1)) (L2 := [(6, Value.int (nI (i + 1))), (5, Value.int v6), (4, Value.int v1), (3, Value.int 0), (2, Value.int 0), (0, Value.ref (A 60 0)), (1, Value.int (nI p))]) dX10_test_110 rfl 2 rfl (by show nI _ + 1 = nI _; exact nI_1 _) (by decide) rfl ?_
                refine pw_goto (tgt := 43) dX10_test_113 (by decide) ?_
                refine PW.sub (L2 := [(6, Value.int (nI (i + 1))), (5, Value.int v6), (4, Value.int v1), (3, Value.int 0), (2, Value.int 0), (0, Value.ref (A 60 0)), (1, Value.int (nI p))]) [0, 1, 2, 3, 4, 5, 6] rfl ?_
                refine ih (i + 1) v1 v6 ?_ ?_ (by omega)
                · rw [ev1, hac]; exact ((by first | exact if_pos c62 | exact (if_neg c62).trans (Int32.add_zero _).symm) : cstN σ.1 (nI p) (i + 1) = _).symm
                · rw [ev6, hbc]; exact ((by first | exact (if_pos c89).trans (by first | rw [if_pos c99] | rw [if_neg c99]) | exact (if_neg c89).trans (Int32.add_zero _).symm) : flnN σ.1 (nI p) (i + 1) = _).symm
          · refine pw_aload_n (pc2 := 66) dX10_test_65 rfl rfl 5 rfl (by first | exact rf_ref _ | exact rf_opt _ | exact rf_nul) ?_
            refine pw_get (pc2 := 69) kX10 (k := 26) (by decide) rfl fl_X10_85 c60K0 rfl dX10_test_66 rfl ?_
            refine pw_iload (pc2 := 71) dX10_test_69 rfl 0 rfl ?_
            refine pw_ialdN (pc2 := 72) K0.c85 (i := i) (by first | assumption | omega) (by omega) dX10_test_71 rfl ?_
            refine pw_topE t85 ?_
            refine pw_goto (tgt := 76) dX10_test_72 (by decide) ?_
            refine pw_iadd (pc2 := 77) dX10_test_76 rfl ?_
            refine pw_topi (fun v8 ev8 => ?_)
            refine pw_istore (pc2 := 79) (L2 := [(4, Value.int v8), (6, Value.int (nI i)), (5, Value.int bc), (3, Value.int 0), (2, Value.int 0), (0, Value.ref (A 60 0)), (1, Value.int (nI p))]) dX10_test_77 rfl (by decide) rfl ?_
            refine pw_iload (pc2 := 81) dX10_test_79 rfl 2 rfl ?_
            refine pw_aload_n (pc2 := 82) dX10_test_81 rfl rfl 5 rfl (by first | exact rf_ref _ | exact rf_opt _ | exact rf_nul) ?_
            refine pw_get (pc2 := 85) kX10 (k := 25) (by decide) rfl fl_X10_82 c60K0 rfl dX10_test_82 rfl ?_
            refine pw_iload (pc2 := 87) dX10_test_85 rfl 1 rfl ?_
            refine pw_ialdN (pc2 := 88) K0.c84 (i := i) (by first | assumption | omega) (by omega) dX10_test_87 rfl ?_
            refine pw_topE t84 ?_
            refine pw_iload_n (pc2 := 89) dX10_test_88 rfl rfl 6 rfl ?_
            refine pw_icmp_ne (tgt := 106) (pc2 := 92) dX10_test_89 (by decide) rfl (fun c89 => ?_) (fun c89 => ?_)
            · refine pw_iconst (pc2 := 107) (v := 0) dX10_test_106 rfl (by decide) ?_
              refine pw_iadd (pc2 := 108) dX10_test_107 rfl ?_
              refine pw_topi (fun v9 ev9 => ?_)
              refine pw_istore (pc2 := 110) (L2 := [(5, Value.int v9), (4, Value.int v8), (6, Value.int (nI i)), (3, Value.int 0), (2, Value.int 0), (0, Value.ref (A 60 0)), (1, Value.int (nI p))]) dX10_test_108 rfl (by decide) rfl ?_
              refine pw_iinc (pc2 := 113) (v := nI (i + 1)) (L2 := [(6, Value.int (nI (i + 1))), (5, Value.int v9), (4, Value.int v8), (3, Value.int 0), (2, Value.int 0), (0, Value.ref (A 60 0)), (1, Value.int (nI p))]) dX10_test_110 rfl 2 rfl (by show nI _ + 1 = nI _; exact nI_1 _) (by decide) rfl ?_
              refine pw_goto (tgt := 43) dX10_test_113 (by decide) ?_
              refine PW.sub (L2 := [(6, Value.int (nI (i + 1))), (5, Value.int v9), (4, Value.int v8), (3, Value.int 0), (2, Value.int 0), (0, Value.ref (A 60 0)), (1, Value.int (nI p))]) [0, 1, 2, 3, 4, 5, 6] rfl ?_
              refine ih (i + 1) v8 v9 ?_ ?_ (by omega)
              · rw [ev8, hac]; exact ((by first | exact if_pos c62 | exact (if_neg c62).trans (Int32.add_zero _).symm) : cstN σ.1 (nI p) (i + 1) = _).symm
              · rw [ev9, hbc]; exact ((by first | exact (if_pos c89).trans (by first | rw [if_pos c99] | rw [if_neg c99]) | exact (if_neg c89).trans (Int32.add_zero _).symm) : flnN σ.1 (nI p) (i + 1) = _).symm
            · refine pw_aload_n (pc2 := 93) dX10_test_92 rfl rfl 5 rfl (by first | exact rf_ref _ | exact rf_opt _ | exact rf_nul) ?_
              refine pw_get (pc2 := 96) kX10 (k := 27) (by decide) rfl fl_X10_88 c60K0 rfl dX10_test_93 rfl ?_
              refine pw_iload (pc2 := 98) dX10_test_96 rfl 1 rfl ?_
              refine pw_zaldN (pc2 := 99) K0.c86 (i := i) (by first | assumption | omega) (by omega) dX10_test_98 rfl ?_
              refine pw_topE t86 ?_
              refine pw_if_eq (tgt := 106) (pc2 := 102) dX10_test_99 (by decide) rfl (fun c99 => ?_) (fun c99 => ?_)
              · refine pw_iconst (pc2 := 107) (v := 0) dX10_test_106 rfl (by decide) ?_
                refine pw_iadd (pc2 := 108) dX10_test_107 rfl ?_
                refine pw_topi (fun v11 ev11 => ?_)
                refine pw_istore (pc2 := 110) (L2 := [(5, Value.int v11), (4, Value.int v8), (6, Value.int (nI i)), (3, Value.int 0), (2, Value.int 0), (0, Value.ref (A 60 0)), (1, Value.int (nI p))]) dX10_test_108 rfl (by decide) rfl ?_
                refine pw_iinc (pc2 := 113) (v := nI (i + 1)) (L2 := [(6, Value.int (nI (i + 1))), (5, Value.int v11), (4, Value.int v8), (3, Value.int 0), (2, Value.int 0), (0, Value.ref (A 60 0)), (1, Value.int (nI p))]) dX10_test_110 rfl 2 rfl (by show nI _ + 1 = nI _; exact nI_1 _) (by decide) rfl ?_
                refine pw_goto (tgt := 43) dX10_test_113 (by decide) ?_
                refine PW.sub (L2 := [(6, Value.int (nI (i + 1))), (5, Value.int v11), (4, Value.int v8), (3, Value.int 0), (2, Value.int 0), (0, Value.ref (A 60 0)), (1, Value.int (nI p))]) [0, 1, 2, 3, 4, 5, 6] rfl ?_
                refine ih (i + 1) v8 v11 ?_ ?_ (by omega)
                · rw [ev8, hac]; exact ((by first | exact if_pos c62 | exact (if_neg c62).trans (Int32.add_zero _).symm) : cstN σ.1 (nI p) (i + 1) = _).symm
                · rw [ev11, hbc]; exact ((by first | exact (if_pos c89).trans (by first | rw [if_pos c99] | rw [if_neg c99]) | exact (if_neg c89).trans (Int32.add_zero _).symm) : flnN σ.1 (nI p) (i + 1) = _).symm
              · refine pw_iconst (pc2 := 103) (v := 1) dX10_test_102 rfl (by decide) ?_
                refine pw_goto (tgt := 107) dX10_test_103 (by decide) ?_
                refine pw_iadd (pc2 := 108) dX10_test_107 rfl ?_
                refine pw_topi (fun v13 ev13 => ?_)
                refine pw_istore (pc2 := 110) (L2 := [(5, Value.int v13), (4, Value.int v8), (6, Value.int (nI i)), (3, Value.int 0), (2, Value.int 0), (0, Value.ref (A 60 0)), (1, Value.int (nI p))]) dX10_test_108 rfl (by decide) rfl ?_
                refine pw_iinc (pc2 := 113) (v := nI (i + 1)) (L2 := [(6, Value.int (nI (i + 1))), (5, Value.int v13), (4, Value.int v8), (3, Value.int 0), (2, Value.int 0), (0, Value.ref (A 60 0)), (1, Value.int (nI p))]) dX10_test_110 rfl 2 rfl (by show nI _ + 1 = nI _; exact nI_1 _) (by decide) rfl ?_
                refine pw_goto (tgt := 43) dX10_test_113 (by decide) ?_
                refine PW.sub (L2 := [(6, Value.int (nI (i + 1))), (5, Value.int v13), (4, Value.int v8), (3, Value.int 0), (2, Value.int 0), (0, Value.ref (A 60 0)), (1, Value.int (nI p))]) [0, 1, 2, 3, 4, 5, 6] rfl ?_
                refine ih (i + 1) v8 v13 ?_ ?_ (by omega)
                · rw [ev8, hac]; exact ((by first | exact if_pos c62 | exact (if_neg c62).trans (Int32.add_zero _).symm) : cstN σ.1 (nI p) (i + 1) = _).symm
                · rw [ev13, hbc]; exact ((by first | exact (if_pos c89).trans (by first | rw [if_pos c99] | rw [if_neg c99]) | exact (if_neg c89).trans (Int32.add_zero _).symm) : flnN σ.1 (nI p) (i + 1) = _).symm
      refine PW.sub (L2 := [(6, Value.int 0), (5, Value.int 0), (4, Value.int 0), (3, Value.int 0), (2, Value.int 0), (0, Value.ref (A 60 0)), (1, Value.int (nI p))]) [0, 1, 2, 3, 4, 5, 6] rfl ?_
      exact loop (nts σ) 0 0 0 rfl rfl (by omega)
    | some g' =>
      obtain ⟨rfl, hgb', C, e9, hCC⟩ := q8.1 g' (srS_th.trans hs)
      replace hgb' : pkB σ g' := hgb'
      obtain ⟨K0, FK0⟩ := K1.wIF FK1 (t := 90) (i := 0) (f := C) rfl (by decide) (iv_setI K1.iv (by decide)) rfl
      replace K0 : WM G h8 A (setI (thS σ 0) 90 0 C) := by rw [e9]; exact K0
      replace FK0 : FM A h h8 := by rw [e9]; exact FK0
      clear e9
      have hnd := srS_nd hS hpp hs
      have c60K0 : h8 (A 60 0) = some (oB 13 [.ref (A 61 0), .ref (A 62 0), .ref (A 63 0), .ref (A 64 0), .ref (A 65 0), .ref (A 66 0), .ref (A 67 0), .ref (A 68 0), .ref (A 69 0), .ref (A 70 0), .ref (A 71 0), .ref (A 72 0), .ref (A 73 0), .ref (A 74 0), .ref (A 75 0), .ref (A 76 0), .int (σ.1 60 0 0), .ref (A 77 0), .ref (A 78 0), .ref (A 79 0), .ref (A 80 0), .ref (A 81 0), .ref (A 82 0), .ref (A 83 0), .int (σ.1 60 0 1), .ref (A 84 0), .ref (A 85 0), .ref (A 86 0), .ref (A 87 0), .ref (A 88 0), .int (σ.1 60 0 2), .int (σ.1 60 0 3), .ref (A 89 0), .int (σ.1 60 0 4), .int (σ.1 60 0 5), .int (σ.1 60 0 6), .ref (A 90 0), .int 0]) := K0.c60
      have k840K0 : h8 (A 84 0) = some (aI 8 (σ.1 84 0)) := K0.c84
      have k850K0 : h8 (A 85 0) = some (aI 8 (σ.1 85 0)) := K0.c85
      have k860K0 : h8 (A 86 0) = some (aZ 8 (σ.1 86 0)) := K0.c86
      have k890K0 : h8 (A 89 0) = some (aI 3 (σ.1 89 0)) := K0.c89
      have k610K0 : h8 (A 61 0) = some (aI 6 (σ.1 61 0)) := K0.c61
      refine pw_istore_n (pc2 := 16) (L2 := [(2, Value.int 1), (0, Value.ref (A 60 0)), (1, Value.int (nI p))]) dX10_test_15 rfl rfl (by decide) rfl ?_
      refine pw_iload_n (pc2 := 17) dX10_test_16 rfl rfl 0 rfl ?_
      refine pw_if_eq (tgt := 32) (pc2 := 20) dX10_test_17 (by decide) rfl (fun c17 => by exact absurd c17 (by decide)) (fun _ => ?_)
      refine pw_aload_n (pc2 := 21) dX10_test_20 rfl rfl 1 rfl (by first | exact rf_ref _ | exact rf_opt _ | exact rf_nul) ?_
      refine pw_iload_n (pc2 := 22) dX10_test_21 rfl rfl 2 rfl ?_
      refine pw_callVb (pc2 := 25) (c_isNeeded G _ K0 hS hC hpp hR hgb' hCC hnd) cs_X10_165 rfl rfl c60K0 dX10_test_22 rfl (by omega) rfl (by first | decide | simp [cat_rf, Value.category]) (fun q22 => ?_) (fun q22 => ?_)
      · refine pw_if_eq (tgt := 32) (pc2 := 28) dX10_test_25 (by decide) rfl (fun c25 => by exact absurd c25 (by decide)) (fun _ => ?_)
        refine pw_iconst (pc2 := 29) (v := 1) dX10_test_28 rfl (by decide) ?_
        refine pw_goto (tgt := 33) dX10_test_29 (by decide) ?_
        refine pw_istore_n (pc2 := 34) (L2 := [(3, Value.int 1), (2, Value.int 1), (0, Value.ref (A 60 0)), (1, Value.int (nI p))]) dX10_test_33 rfl rfl (by decide) rfl ?_
        refine pw_iconst (pc2 := 35) (v := 0) dX10_test_34 rfl (by decide) ?_
        refine pw_istore (pc2 := 37) (L2 := [(4, Value.int 0), (3, Value.int 1), (2, Value.int 1), (0, Value.ref (A 60 0)), (1, Value.int (nI p))]) dX10_test_35 rfl (by decide) rfl ?_
        refine pw_iconst (pc2 := 38) (v := 0) dX10_test_37 rfl (by decide) ?_
        refine pw_istore (pc2 := 40) (L2 := [(5, Value.int 0), (4, Value.int 0), (3, Value.int 1), (2, Value.int 1), (0, Value.ref (A 60 0)), (1, Value.int (nI p))]) dX10_test_38 rfl (by decide) rfl ?_
        refine pw_iconst (pc2 := 41) (v := 0) dX10_test_40 rfl (by decide) ?_
        refine pw_istore (pc2 := 43) (L2 := [(6, Value.int 0), (5, Value.int 0), (4, Value.int 0), (3, Value.int 1), (2, Value.int 1), (0, Value.ref (A 60 0)), (1, Value.int (nI p))]) dX10_test_41 rfl (by decide) rfl ?_
        have loop : ∀ (k i : Nat) (ac bc : Int32) (hac : ac = cstN σ.1 (nI p) i) (hbc : bc = flnN σ.1 (nI p) i), i + k = nts σ → PW G MX10_test d noA (E0 G (fun r h2 => (¬ inR (nI p) (npk σ) ∧ QSM G h A (.int 0) (thS σ 1) r h2) ∨ (∃ p9, p9 < npk σ ∧ (nI p) = nI p9 ∧ ((srS σ p9 = none ∧ ∃ C, QSM G h A (.int 0) (thS (setI (thS σ 0) 90 0 C) 2) r h2) ∨ (∃ g' C o, srS σ p9 = some g' ∧ pkB σ g' ∧ o < 3 ∧ σ.1 61 0 p9 = nI o ∧ (((¬ bOk σ p9 g' ∨ σ.1 89 0 o < (cstN σ.1 (nI p9) (nts σ))) ∧ QSM G h A (.int 0) (thS (setI (thS σ 0) 90 0 C) 3) r h2) ∨ (bOk σ p9 g' ∧ ¬ σ.1 89 0 o < (cstN σ.1 (nI p9) (nts σ)) ∧ ∃ X R1 R2 R3, RCI σ (nI p9) (nts σ) X ∧ (∀ j, j < 6 → R1 j = vG σ (g' j) ∧ R2 j = σ.1 91 p9 j ∧ R3 j = σ.1 92 p9 j) ∧ QSM G h A (.int (flnN σ.1 (nI p9) (nts σ))) (mTE σ p9 o C (cstN σ.1 (nI p9) (nts σ)) X (if (flnN σ.1 (nI p9) (nts σ)) = 0 then 1 else 0) R1 R2 R3) r h2)))))) noX) 0 0 43 [(6, Value.int (nI i)), (5, Value.int bc), (4, Value.int ac), (3, Value.int 1), (2, Value.int 1), (0, Value.ref (A 60 0)), (1, Value.int (nI p))] [] h8 := by
          intro k
          induction k with
          | zero =>
            intro i ac bc hac hbc hik
            have hi9 : i = nts σ := by omega
            refine pw_iload (pc2 := 45) dX10_test_43 rfl 0 rfl ?_
            refine pw_aload_n (pc2 := 46) dX10_test_45 rfl rfl 5 rfl (by first | exact rf_ref _ | exact rf_opt _ | exact rf_nul) ?_
            refine pw_get (pc2 := 49) kX10 (k := 30) (by decide) rfl fl_X10_171 c60K0 rfl dX10_test_46 rfl ?_
            refine pw_topE hb.2.2 ?_
            refine pw_icmp_ge (tgt := 116) (pc2 := 52) dX10_test_49 (by decide) rfl (fun _ => ?_) (fun c49 => by exact absurd (by first | exact (nI_leI (a := nts σ) (b := i) (by omega) (by omega)).mpr (by omega) | exact fun q => absurd ((nI_leI (a := nts σ) (b := i) (by omega) (by omega)).mp q) (by omega)) c49)
            subst hi9
            subst hac
            subst hbc
            obtain ⟨o, ho3, h61⟩ := hO p hpp
            refine pw_aload_n (pc2 := 117) dX10_test_116 rfl rfl 5 rfl (by first | exact rf_ref _ | exact rf_opt _ | exact rf_nul) ?_
            refine pw_iload_n (pc2 := 118) dX10_test_117 rfl rfl 4 rfl ?_
            refine pw_if_ne (tgt := 125) (pc2 := 121) dX10_test_118 (by decide) rfl (fun _ => ?_) (fun c118 => by exact absurd c118 (by decide))
            refine pw_iload_n (pc2 := 126) dX10_test_125 rfl rfl 3 rfl ?_
            refine pw_if_ne (tgt := 145) (pc2 := 129) dX10_test_126 (by decide) rfl (fun _ => ?_) (fun c126 => by exact absurd c126 (by decide))
            refine pw_iconst (pc2 := 146) (v := 3) dX10_test_145 rfl (by decide) ?_
            refine pw_goto (tgt := 150) dX10_test_146 (by decide) ?_
            refine pw_put (pc2 := 153) kX10 (k := 37) (by decide) rfl rfl fl_X10_109 c60K0 (by first | decide | simp) (by first | rfl | exact nar_rf _ _) (by first | rfl | exact fit_rf _ _) dX10_test_150 rfl ?_
            obtain ⟨K2, FK2⟩ := K0.wIF (FK0) (t := 60) (i := 0) (f := (upd (upd (σ.1 60 0) 7 0) 7 3)) rfl (by decide) (iv_setI K0.iv (by decide)) rfl
            obtain ⟨h7, eh7⟩ : ∃ z : Nat → Option hE, z = va_up h8 (A 60 0) (some (oB 13 [.ref (A 61 0), .ref (A 62 0), .ref (A 63 0), .ref (A 64 0), .ref (A 65 0), .ref (A 66 0), .ref (A 67 0), .ref (A 68 0), .ref (A 69 0), .ref (A 70 0), .ref (A 71 0), .ref (A 72 0), .ref (A 73 0), .ref (A 74 0), .ref (A 75 0), .ref (A 76 0), .int (σ.1 60 0 0), .ref (A 77 0), .ref (A 78 0), .ref (A 79 0), .ref (A 80 0), .ref (A 81 0), .ref (A 82 0), .ref (A 83 0), .int (σ.1 60 0 1), .ref (A 84 0), .ref (A 85 0), .ref (A 86 0), .ref (A 87 0), .ref (A 88 0), .int (σ.1 60 0 2), .int (σ.1 60 0 3), .ref (A 89 0), .int (σ.1 60 0 4), .int (σ.1 60 0 5), .int (σ.1 60 0 6), .ref (A 90 0), .int 3])) := ⟨_, rfl⟩
            refine PW.heap (h' := h7) eh7.symm ?_
            replace K2 : WM G h7 A (setI (setI (thS σ 0) 90 0 C) 60 0 (upd (upd (σ.1 60 0) 7 0) 7 3)) := by rw [eh7]; exact K2
            replace FK2 : FM A h h7 := by rw [eh7]; exact FK2
            have c60K2b : h7 (A 60 0) = some (oB 13 [.ref (A 61 0), .ref (A 62 0), .ref (A 63 0), .ref (A 64 0), .ref (A 65 0), .ref (A 66 0), .ref (A 67 0), .ref (A 68 0), .ref (A 69 0), .ref (A 70 0), .ref (A 71 0), .ref (A 72 0), .ref (A 73 0), .ref (A 74 0), .ref (A 75 0), .ref (A 76 0), .int (σ.1 60 0 0), .ref (A 77 0), .ref (A 78 0), .ref (A 79 0), .ref (A 80 0), .ref (A 81 0), .ref (A 82 0), .ref (A 83 0), .int (σ.1 60 0 1), .ref (A 84 0), .ref (A 85 0), .ref (A 86 0), .ref (A 87 0), .ref (A 88 0), .int (σ.1 60 0 2), .int (σ.1 60 0 3), .ref (A 89 0), .int (σ.1 60 0 4), .int (σ.1 60 0 5), .int (σ.1 60 0 6), .ref (A 90 0), .int 3]) := K2.c60
            refine pw_aload_n (pc2 := 154) dX10_test_153 rfl rfl 5 rfl (by first | exact rf_ref _ | exact rf_opt _ | exact rf_nul) ?_
            refine pw_get (pc2 := 157) kX10 (k := 37) (by decide) rfl fl_X10_109 c60K2b rfl dX10_test_154 rfl ?_
            refine pw_if_le (tgt := 162) (pc2 := 160) dX10_test_157 (by decide) rfl (fun c157 => by exact absurd c157 (by decide)) (fun _ => ?_)
            refine pw_iconst (pc2 := 161) (v := 0) dX10_test_160 rfl (by decide) ?_
            refine pw_iret dX10_test_161 rfl (by first | rfl | assumption | simp [narrow]) ?_
            exact Or.inr ⟨p, hpp, rfl, Or.inr ⟨g', C, o, hs, hgb', ho3, h61, Or.inl ⟨by first | exact Or.inl q22 | exact Or.inr (Int32.not_le.mp c142), rfl, K2, FK2⟩⟩⟩
          | succ k ih =>
            intro i ac bc hac hbc hik
            have hi9 : i < nts σ := by omega
            obtain ⟨t84, t85, t86, -⟩ := hT i hi9
            refine pw_iload (pc2 := 45) dX10_test_43 rfl 0 rfl ?_
            refine pw_aload_n (pc2 := 46) dX10_test_45 rfl rfl 5 rfl (by first | exact rf_ref _ | exact rf_opt _ | exact rf_nul) ?_
            refine pw_get (pc2 := 49) kX10 (k := 30) (by decide) rfl fl_X10_171 c60K0 rfl dX10_test_46 rfl ?_
            refine pw_topE hb.2.2 ?_
            refine pw_icmp_ge (tgt := 116) (pc2 := 52) dX10_test_49 (by decide) rfl (fun c49 => by exact absurd c49 (by first | exact (nI_leI (a := nts σ) (b := i) (by omega) (by omega)).mpr (by omega) | exact fun q => absurd ((nI_leI (a := nts σ) (b := i) (by omega) (by omega)).mp q) (by omega))) (fun _ => ?_)
            refine pw_iload (pc2 := 54) dX10_test_52 rfl 2 rfl ?_
            refine pw_aload_n (pc2 := 55) dX10_test_54 rfl rfl 5 rfl (by first | exact rf_ref _ | exact rf_opt _ | exact rf_nul) ?_
            refine pw_get (pc2 := 58) kX10 (k := 25) (by decide) rfl fl_X10_82 c60K0 rfl dX10_test_55 rfl ?_
            refine pw_iload (pc2 := 60) dX10_test_58 rfl 0 rfl ?_
            refine pw_ialdN (pc2 := 61) K0.c84 (i := i) (by first | assumption | omega) (by omega) dX10_test_60 rfl ?_
            refine pw_topE t84 ?_
            refine pw_iload_n (pc2 := 62) dX10_test_61 rfl rfl 6 rfl ?_
            refine pw_icmp_ne (tgt := 75) (pc2 := 65) dX10_test_62 (by decide) rfl (fun c62 => ?_) (fun c62 => ?_)
            · refine pw_iconst (pc2 := 76) (v := 0) dX10_test_75 rfl (by decide) ?_
              refine pw_iadd (pc2 := 77) dX10_test_76 rfl ?_
              refine pw_topi (fun v15 ev15 => ?_)
              refine pw_istore (pc2 := 79) (L2 := [(4, Value.int v15), (6, Value.int (nI i)), (5, Value.int bc), (3, Value.int 1), (2, Value.int 1), (0, Value.ref (A 60 0)), (1, Value.int (nI p))]) dX10_test_77 rfl (by decide) rfl ?_
              refine pw_iload (pc2 := 81) dX10_test_79 rfl 2 rfl ?_
              refine pw_aload_n (pc2 := 82) dX10_test_81 rfl rfl 5 rfl (by first | exact rf_ref _ | exact rf_opt _ | exact rf_nul) ?_
              refine pw_get (pc2 := 85) kX10 (k := 25) (by decide) rfl fl_X10_82 c60K0 rfl dX10_test_82 rfl ?_
              refine pw_iload (pc2 := 87) dX10_test_85 rfl 1 rfl ?_
              refine pw_ialdN (pc2 := 88) K0.c84 (i := i) (by first | assumption | omega) (by omega) dX10_test_87 rfl ?_
              refine pw_topE t84 ?_
              refine pw_iload_n (pc2 := 89) dX10_test_88 rfl rfl 6 rfl ?_
              refine pw_icmp_ne (tgt := 106) (pc2 := 92) dX10_test_89 (by decide) rfl (fun c89 => ?_) (fun c89 => ?_)
              · refine pw_iconst (pc2 := 107) (v := 0) dX10_test_106 rfl (by decide) ?_
                refine pw_iadd (pc2 := 108) dX10_test_107 rfl ?_
                refine pw_topi (fun v16 ev16 => ?_)
                refine pw_istore (pc2 := 110) (L2 := [(5, Value.int v16), (4, Value.int v15), (6, Value.int (nI i)), (3, Value.int 1), (2, Value.int 1), (0, Value.ref (A 60 0)), (1, Value.int (nI p))]) dX10_test_108 rfl (by decide) rfl ?_
                refine pw_iinc (pc2 := 113) (v := nI (i + 1)) (L2 := [(6, Value.int (nI (i + 1))), (5, Value.int v16), (4, Value.int v15), (3, Value.int 1), (2, Value.int 1), (0, Value.ref (A 60 0)), (1, Value.int (nI p))]) dX10_test_110 rfl 2 rfl (by show nI _ + 1 = nI _; exact nI_1 _) (by decide) rfl ?_
                refine pw_goto (tgt := 43) dX10_test_113 (by decide) ?_
                refine PW.sub (L2 := [(6, Value.int (nI (i + 1))), (5, Value.int v16), (4, Value.int v15), (3, Value.int 1), (2, Value.int 1), (0, Value.ref (A 60 0)), (1, Value.int (nI p))]) [0, 1, 2, 3, 4, 5, 6] rfl ?_
                refine ih (i + 1) v15 v16 ?_ ?_ (by omega)
                · rw [ev15, hac]; exact ((by first | exact if_pos c62 | exact (if_neg c62).trans (Int32.add_zero _).symm) : cstN σ.1 (nI p) (i + 1) = _).symm
                · rw [ev16, hbc]; exact ((by first | exact (if_pos c89).trans (by first | rw [if_pos c99] | rw [if_neg c99]) | exact (if_neg c89).trans (Int32.add_zero _).symm) : flnN σ.1 (nI p) (i + 1) = _).symm
              · refine pw_aload_n (pc2 := 93) dX10_test_92 rfl rfl 5 rfl (by first | exact rf_ref _ | exact rf_opt _ | exact rf_nul) ?_
                refine pw_get (pc2 := 96) kX10 (k := 27) (by decide) rfl fl_X10_88 c60K0 rfl dX10_test_93 rfl ?_
                refine pw_iload (pc2 := 98) dX10_test_96 rfl 1 rfl ?_
                refine pw_zaldN (pc2 := 99) K0.c86 (i := i) (by first | assumption | omega) (by omega) dX10_test_98 rfl ?_
                refine pw_topE t86 ?_
                refine pw_if_eq (tgt := 106) (pc2 := 102) dX10_test_99 (by decide) rfl (fun c99 => ?_) (fun c99 => ?_)
                · refine pw_iconst (pc2 := 107) (v := 0) dX10_test_106 rfl (by decide) ?_
                  refine pw_iadd (pc2 := 108) dX10_test_107 rfl ?_
                  refine pw_topi (fun v18 ev18 => ?_)
                  refine pw_istore (pc2 := 110) (L2 := [(5, Value.int v18), (4, Value.int v15), (6, Value.int (nI i)), (3, Value.int 1), (2, Value.int 1), (0, Value.ref (A 60 0)), (1, Value.int (nI p))]) dX10_test_108 rfl (by decide) rfl ?_
                  refine pw_iinc (pc2 := 113) (v := nI (i + 1)) (L2 := [(6, Value.int (nI (i + 1))), (5, Value.int v18), (4, Value.int v15), (3, Value.int 1), (2, Value.int 1), (0, Value.ref (A 60 0)), (1, Value.int (nI p))]) dX10_test_110 rfl 2 rfl (by show nI _ + 1 = nI _; exact nI_1 _) (by decide) rfl ?_
                  refine pw_goto (tgt := 43) dX10_test_113 (by decide) ?_
                  refine PW.sub (L2 := [(6, Value.int (nI (i + 1))), (5, Value.int v18), (4, Value.int v15), (3, Value.int 1), (2, Value.int 1), (0, Value.ref (A 60 0)), (1, Value.int (nI p))]) [0, 1, 2, 3, 4, 5, 6] rfl ?_
                  refine ih (i + 1) v15 v18 ?_ ?_ (by omega)
                  · rw [ev15, hac]; exact ((by first | exact if_pos c62 | exact (if_neg c62).trans (Int32.add_zero _).symm) : cstN σ.1 (nI p) (i + 1) = _).symm
                  · rw [ev18, hbc]; exact ((by first | exact (if_pos c89).trans (by first | rw [if_pos c99] | rw [if_neg c99]) | exact (if_neg c89).trans (Int32.add_zero _).symm) : flnN σ.1 (nI p) (i + 1) = _).symm
                · refine pw_iconst (pc2 := 103) (v := 1) dX10_test_102 rfl (by decide) ?_
                  refine pw_goto (tgt := 107) dX10_test_103 (by decide) ?_
                  refine pw_iadd (pc2 := 108) dX10_test_107 rfl ?_
                  refine pw_topi (fun v20 ev20 => ?_)
                  refine pw_istore (pc2 := 110) (L2 := [(5, Value.int v20), (4, Value.int v15), (6, Value.int (nI i)), (3, Value.int 1), (2, Value.int 1), (0, Value.ref (A 60 0)), (1, Value.int (nI p))]) dX10_test_108 rfl (by decide) rfl ?_
                  refine pw_iinc (pc2 := 113) (v := nI (i + 1)) (L2 := [(6, Value.int (nI (i + 1))), (5, Value.int v20), (4, Value.int v15), (3, Value.int 1), (2, Value.int 1), (0, Value.ref (A 60 0)), (1, Value.int (nI p))]) dX10_test_110 rfl 2 rfl (by show nI _ + 1 = nI _; exact nI_1 _) (by decide) rfl ?_
                  refine pw_goto (tgt := 43) dX10_test_113 (by decide) ?_
                  refine PW.sub (L2 := [(6, Value.int (nI (i + 1))), (5, Value.int v20), (4, Value.int v15), (3, Value.int 1), (2, Value.int 1), (0, Value.ref (A 60 0)), (1, Value.int (nI p))]) [0, 1, 2, 3, 4, 5, 6] rfl ?_
                  refine ih (i + 1) v15 v20 ?_ ?_ (by omega)
                  · rw [ev15, hac]; exact ((by first | exact if_pos c62 | exact (if_neg c62).trans (Int32.add_zero _).symm) : cstN σ.1 (nI p) (i + 1) = _).symm
                  · rw [ev20, hbc]; exact ((by first | exact (if_pos c89).trans (by first | rw [if_pos c99] | rw [if_neg c99]) | exact (if_neg c89).trans (Int32.add_zero _).symm) : flnN σ.1 (nI p) (i + 1) = _).symm
            · refine pw_aload_n (pc2 := 66) dX10_test_65 rfl rfl 5 rfl (by first | exact rf_ref _ | exact rf_opt _ | exact rf_nul) ?_
              refine pw_get (pc2 := 69) kX10 (k := 26) (by decide) rfl fl_X10_85 c60K0 rfl dX10_test_66 rfl ?_
              refine pw_iload (pc2 := 71) dX10_test_69 rfl 0 rfl ?_
              refine pw_ialdN (pc2 := 72) K0.c85 (i := i) (by first | assumption | omega) (by omega) dX10_test_71 rfl ?_
              refine pw_topE t85 ?_
              refine pw_goto (tgt := 76) dX10_test_72 (by decide) ?_
              refine pw_iadd (pc2 := 77) dX10_test_76 rfl ?_
              refine pw_topi (fun v22 ev22 => ?_)
              refine pw_istore (pc2 := 79) (L2 := [(4, Value.int v22), (6, Value.int (nI i)), (5, Value.int bc), (3, Value.int 1), (2, Value.int 1), (0, Value.ref (A 60 0)), (1, Value.int (nI p))]) dX10_test_77 rfl (by decide) rfl ?_
              refine pw_iload (pc2 := 81) dX10_test_79 rfl 2 rfl ?_
              refine pw_aload_n (pc2 := 82) dX10_test_81 rfl rfl 5 rfl (by first | exact rf_ref _ | exact rf_opt _ | exact rf_nul) ?_
              refine pw_get (pc2 := 85) kX10 (k := 25) (by decide) rfl fl_X10_82 c60K0 rfl dX10_test_82 rfl ?_
              refine pw_iload (pc2 := 87) dX10_test_85 rfl 1 rfl ?_
              refine pw_ialdN (pc2 := 88) K0.c84 (i := i) (by first | assumption | omega) (by omega) dX10_test_87 rfl ?_
              refine pw_topE t84 ?_
              refine pw_iload_n (pc2 := 89) dX10_test_88 rfl rfl 6 rfl ?_
              refine pw_icmp_ne (tgt := 106) (pc2 := 92) dX10_test_89 (by decide) rfl (fun c89 => ?_) (fun c89 => ?_)
              · refine pw_iconst (pc2 := 107) (v := 0) dX10_test_106 rfl (by decide) ?_
                refine pw_iadd (pc2 := 108) dX10_test_107 rfl ?_
                refine pw_topi (fun v23 ev23 => ?_)
                refine pw_istore (pc2 := 110) (L2 := [(5, Value.int v23), (4, Value.int v22), (6, Value.int (nI i)), (3, Value.int 1), (2, Value.int 1), (0, Value.ref (A 60 0)), (1, Value.int (nI p))]) dX10_test_108 rfl (by decide) rfl ?_
                refine pw_iinc (pc2 := 113) (v := nI (i + 1)) (L2 := [(6, Value.int (nI (i + 1))), (5, Value.int v23), (4, Value.int v22), (3, Value.int 1), (2, Value.int 1), (0, Value.ref (A 60 0)), (1, Value.int (nI p))]) dX10_test_110 rfl 2 rfl (by show nI _ + 1 = nI _; exact nI_1 _) (by decide) rfl ?_
                refine pw_goto (tgt := 43) dX10_test_113 (by decide) ?_
                refine PW.sub (L2 := [(6, Value.int (nI (i + 1))), (5, Value.int v23), (4, Value.int v22), (3, Value.int 1), (2, Value.int 1), (0, Value.ref (A 60 0)), (1, Value.int (nI p))]) [0, 1, 2, 3, 4, 5, 6] rfl ?_
                refine ih (i + 1) v22 v23 ?_ ?_ (by omega)
                · rw [ev22, hac]; exact ((by first | exact if_pos c62 | exact (if_neg c62).trans (Int32.add_zero _).symm) : cstN σ.1 (nI p) (i + 1) = _).symm
                · rw [ev23, hbc]; exact ((by first | exact (if_pos c89).trans (by first | rw [if_pos c99] | rw [if_neg c99]) | exact (if_neg c89).trans (Int32.add_zero _).symm) : flnN σ.1 (nI p) (i + 1) = _).symm
              · refine pw_aload_n (pc2 := 93) dX10_test_92 rfl rfl 5 rfl (by first | exact rf_ref _ | exact rf_opt _ | exact rf_nul) ?_
                refine pw_get (pc2 := 96) kX10 (k := 27) (by decide) rfl fl_X10_88 c60K0 rfl dX10_test_93 rfl ?_
                refine pw_iload (pc2 := 98) dX10_test_96 rfl 1 rfl ?_
                refine pw_zaldN (pc2 := 99) K0.c86 (i := i) (by first | assumption | omega) (by omega) dX10_test_98 rfl ?_
                refine pw_topE t86 ?_
                refine pw_if_eq (tgt := 106) (pc2 := 102) dX10_test_99 (by decide) rfl (fun c99 => ?_) (fun c99 => ?_)
                · refine pw_iconst (pc2 := 107) (v := 0) dX10_test_106 rfl (by decide) ?_
                  refine pw_iadd (pc2 := 108) dX10_test_107 rfl ?_
                  refine pw_topi (fun v25 ev25 => ?_)
                  refine pw_istore (pc2 := 110) (L2 := [(5, Value.int v25), (4, Value.int v22), (6, Value.int (nI i)), (3, Value.int 1), (2, Value.int 1), (0, Value.ref (A 60 0)), (1, Value.int (nI p))]) dX10_test_108 rfl (by decide) rfl ?_
                  refine pw_iinc (pc2 := 113) (v := nI (i + 1)) (L2 := [(6, Value.int (nI (i + 1))), (5, Value.int v25), (4, Value.int v22), (3, Value.int 1), (2, Value.int 1), (0, Value.ref (A 60 0)), (1, Value.int (nI p))]) dX10_test_110 rfl 2 rfl (by show nI _ + 1 = nI _; exact nI_1 _) (by decide) rfl ?_
                  refine pw_goto (tgt := 43) dX10_test_113 (by decide) ?_
                  refine PW.sub (L2 := [(6, Value.int (nI (i + 1))), (5, Value.int v25), (4, Value.int v22), (3, Value.int 1), (2, Value.int 1), (0, Value.ref (A 60 0)), (1, Value.int (nI p))]) [0, 1, 2, 3, 4, 5, 6] rfl ?_
                  refine ih (i + 1) v22 v25 ?_ ?_ (by omega)
                  · rw [ev22, hac]; exact ((by first | exact if_pos c62 | exact (if_neg c62).trans (Int32.add_zero _).symm) : cstN σ.1 (nI p) (i + 1) = _).symm
                  · rw [ev25, hbc]; exact ((by first | exact (if_pos c89).trans (by first | rw [if_pos c99] | rw [if_neg c99]) | exact (if_neg c89).trans (Int32.add_zero _).symm) : flnN σ.1 (nI p) (i + 1) = _).symm
                · refine pw_iconst (pc2 := 103) (v := 1) dX10_test_102 rfl (by decide) ?_
                  refine pw_goto (tgt := 107) dX10_test_103 (by decide) ?_
                  refine pw_iadd (pc2 := 108) dX10_test_107 rfl ?_
                  refine pw_topi (fun v27 ev27 => ?_)
                  refine pw_istore (pc2 := 110) (L2 := [(5, Value.int v27), (4, Value.int v22), (6, Value.int (nI i)), (3, Value.int 1), (2, Value.int 1), (0, Value.ref (A 60 0)), (1, Value.int (nI p))]) dX10_test_108 rfl (by decide) rfl ?_
                  refine pw_iinc (pc2 := 113) (v := nI (i + 1)) (L2 := [(6, Value.int (nI (i + 1))), (5, Value.int v27), (4, Value.int v22), (3, Value.int 1), (2, Value.int 1), (0, Value.ref (A 60 0)), (1, Value.int (nI p))]) dX10_test_110 rfl 2 rfl (by show nI _ + 1 = nI _; exact nI_1 _) (by decide) rfl ?_
                  refine pw_goto (tgt := 43) dX10_test_113 (by decide) ?_
                  refine PW.sub (L2 := [(6, Value.int (nI (i + 1))), (5, Value.int v27), (4, Value.int v22), (3, Value.int 1), (2, Value.int 1), (0, Value.ref (A 60 0)), (1, Value.int (nI p))]) [0, 1, 2, 3, 4, 5, 6] rfl ?_
                  refine ih (i + 1) v22 v27 ?_ ?_ (by omega)
                  · rw [ev22, hac]; exact ((by first | exact if_pos c62 | exact (if_neg c62).trans (Int32.add_zero _).symm) : cstN σ.1 (nI p) (i + 1) = _).symm
                  · rw [ev27, hbc]; exact ((by first | exact (if_pos c89).trans (by first | rw [if_pos c99] | rw [if_neg c99]) | exact (if_neg c89).trans (Int32.add_zero _).symm) : flnN σ.1 (nI p) (i + 1) = _).symm
        refine PW.sub (L2 := [(6, Value.int 0), (5, Value.int 0), (4, Value.int 0), (3, Value.int 1), (2, Value.int 1), (0, Value.ref (A 60 0)), (1, Value.int (nI p))]) [0, 1, 2, 3, 4, 5, 6] rfl ?_
        exact loop (nts σ) 0 0 0 rfl rfl (by omega)
      · refine pw_if_eq (tgt := 32) (pc2 := 28) dX10_test_25 (by decide) rfl (fun _ => ?_) (fun c25 => by exact absurd (by decide) c25)
        refine pw_iconst (pc2 := 33) (v := 0) dX10_test_32 rfl (by decide) ?_
        refine pw_istore_n (pc2 := 34) (L2 := [(3, Value.int 0), (2, Value.int 1), (0, Value.ref (A 60 0)), (1, Value.int (nI p))]) dX10_test_33 rfl rfl (by decide) rfl ?_
        refine pw_iconst (pc2 := 35) (v := 0) dX10_test_34 rfl (by decide) ?_
        refine pw_istore (pc2 := 37) (L2 := [(4, Value.int 0), (3, Value.int 0), (2, Value.int 1), (0, Value.ref (A 60 0)), (1, Value.int (nI p))]) dX10_test_35 rfl (by decide) rfl ?_
        refine pw_iconst (pc2 := 38) (v := 0) dX10_test_37 rfl (by decide) ?_
        refine pw_istore (pc2 := 40) (L2 := [(5, Value.int 0), (4, Value.int 0), (3, Value.int 0), (2, Value.int 1), (0, Value.ref (A 60 0)), (1, Value.int (nI p))]) dX10_test_38 rfl (by decide) rfl ?_
        refine pw_iconst (pc2 := 41) (v := 0) dX10_test_40 rfl (by decide) ?_
        refine pw_istore (pc2 := 43) (L2 := [(6, Value.int 0), (5, Value.int 0), (4, Value.int 0), (3, Value.int 0), (2, Value.int 1), (0, Value.ref (A 60 0)), (1, Value.int (nI p))]) dX10_test_41 rfl (by decide) rfl ?_
        have loop : ∀ (k i : Nat) (ac bc : Int32) (hac : ac = cstN σ.1 (nI p) i) (hbc : bc = flnN σ.1 (nI p) i), i + k = nts σ → PW G MX10_test d noA (E0 G (fun r h2 => (¬ inR (nI p) (npk σ) ∧ QSM G h A (.int 0) (thS σ 1) r h2) ∨ (∃ p9, p9 < npk σ ∧ (nI p) = nI p9 ∧ ((srS σ p9 = none ∧ ∃ C, QSM G h A (.int 0) (thS (setI (thS σ 0) 90 0 C) 2) r h2) ∨ (∃ g' C o, srS σ p9 = some g' ∧ pkB σ g' ∧ o < 3 ∧ σ.1 61 0 p9 = nI o ∧ (((¬ bOk σ p9 g' ∨ σ.1 89 0 o < (cstN σ.1 (nI p9) (nts σ))) ∧ QSM G h A (.int 0) (thS (setI (thS σ 0) 90 0 C) 3) r h2) ∨ (bOk σ p9 g' ∧ ¬ σ.1 89 0 o < (cstN σ.1 (nI p9) (nts σ)) ∧ ∃ X R1 R2 R3, RCI σ (nI p9) (nts σ) X ∧ (∀ j, j < 6 → R1 j = vG σ (g' j) ∧ R2 j = σ.1 91 p9 j ∧ R3 j = σ.1 92 p9 j) ∧ QSM G h A (.int (flnN σ.1 (nI p9) (nts σ))) (mTE σ p9 o C (cstN σ.1 (nI p9) (nts σ)) X (if (flnN σ.1 (nI p9) (nts σ)) = 0 then 1 else 0) R1 R2 R3) r h2)))))) noX) 0 0 43 [(6, Value.int (nI i)), (5, Value.int bc), (4, Value.int ac), (3, Value.int 0), (2, Value.int 1), (0, Value.ref (A 60 0)), (1, Value.int (nI p))] [] h8 := by
          intro k
          induction k with
          | zero =>
            intro i ac bc hac hbc hik
            have hi9 : i = nts σ := by omega
            refine pw_iload (pc2 := 45) dX10_test_43 rfl 0 rfl ?_
            refine pw_aload_n (pc2 := 46) dX10_test_45 rfl rfl 5 rfl (by first | exact rf_ref _ | exact rf_opt _ | exact rf_nul) ?_
            refine pw_get (pc2 := 49) kX10 (k := 30) (by decide) rfl fl_X10_171 c60K0 rfl dX10_test_46 rfl ?_
            refine pw_topE hb.2.2 ?_
            refine pw_icmp_ge (tgt := 116) (pc2 := 52) dX10_test_49 (by decide) rfl (fun _ => ?_) (fun c49 => by exact absurd (by first | exact (nI_leI (a := nts σ) (b := i) (by omega) (by omega)).mpr (by omega) | exact fun q => absurd ((nI_leI (a := nts σ) (b := i) (by omega) (by omega)).mp q) (by omega)) c49)
            subst hi9
            subst hac
            subst hbc
            obtain ⟨o, ho3, h61⟩ := hO p hpp
            refine pw_aload_n (pc2 := 117) dX10_test_116 rfl rfl 5 rfl (by first | exact rf_ref _ | exact rf_opt _ | exact rf_nul) ?_
            refine pw_iload_n (pc2 := 118) dX10_test_117 rfl rfl 4 rfl ?_
            refine pw_if_ne (tgt := 125) (pc2 := 121) dX10_test_118 (by decide) rfl (fun _ => ?_) (fun c118 => by exact absurd c118 (by decide))
            refine pw_iload_n (pc2 := 126) dX10_test_125 rfl rfl 3 rfl ?_
            refine pw_if_ne (tgt := 145) (pc2 := 129) dX10_test_126 (by decide) rfl (fun c126 => by exact absurd (by decide) c126) (fun _ => ?_)
            refine pw_aload_n (pc2 := 130) dX10_test_129 rfl rfl 5 rfl (by first | exact rf_ref _ | exact rf_opt _ | exact rf_nul) ?_
            refine pw_get (pc2 := 133) kX10 (k := 32) (by decide) rfl fl_X10_103 c60K0 rfl dX10_test_130 rfl ?_
            refine pw_aload_n (pc2 := 134) dX10_test_133 rfl rfl 5 rfl (by first | exact rf_ref _ | exact rf_opt _ | exact rf_nul) ?_
            refine pw_get (pc2 := 137) kX10 (k := 0) (by decide) rfl fl_X10_9 c60K0 rfl dX10_test_134 rfl ?_
            refine pw_iload_n (pc2 := 138) dX10_test_137 rfl rfl 6 rfl ?_
            refine pw_ialdN (pc2 := 139) K0.c61 (i := p) (by first | assumption | omega) (by omega) dX10_test_138 rfl ?_
            refine pw_topE h61 ?_
            refine pw_ialdN (pc2 := 140) K0.c89 (i := o) (by first | assumption | omega) (by omega) dX10_test_139 rfl ?_
            refine pw_iload (pc2 := 142) dX10_test_140 rfl 2 rfl ?_
            refine pw_icmp_ge (tgt := 149) (pc2 := 145) dX10_test_142 (by decide) rfl (fun c142 => ?_) (fun c142 => ?_)
            · refine pw_iconst (pc2 := 150) (v := 0) dX10_test_149 rfl (by decide) ?_
              refine pw_put (pc2 := 153) kX10 (k := 37) (by decide) rfl rfl fl_X10_109 c60K0 (by first | decide | simp) (by first | rfl | exact nar_rf _ _) (by first | rfl | exact fit_rf _ _) dX10_test_150 rfl ?_
              obtain ⟨K2, FK2⟩ := K0.wIF (FK0) (t := 60) (i := 0) (f := (upd (upd (σ.1 60 0) 7 0) 7 0)) rfl (by decide) (iv_setI K0.iv (by decide)) rfl
              obtain ⟨h7, eh7⟩ : ∃ z : Nat → Option hE, z = va_up h8 (A 60 0) (some (oB 13 [.ref (A 61 0), .ref (A 62 0), .ref (A 63 0), .ref (A 64 0), .ref (A 65 0), .ref (A 66 0), .ref (A 67 0), .ref (A 68 0), .ref (A 69 0), .ref (A 70 0), .ref (A 71 0), .ref (A 72 0), .ref (A 73 0), .ref (A 74 0), .ref (A 75 0), .ref (A 76 0), .int (σ.1 60 0 0), .ref (A 77 0), .ref (A 78 0), .ref (A 79 0), .ref (A 80 0), .ref (A 81 0), .ref (A 82 0), .ref (A 83 0), .int (σ.1 60 0 1), .ref (A 84 0), .ref (A 85 0), .ref (A 86 0), .ref (A 87 0), .ref (A 88 0), .int (σ.1 60 0 2), .int (σ.1 60 0 3), .ref (A 89 0), .int (σ.1 60 0 4), .int (σ.1 60 0 5), .int (σ.1 60 0 6), .ref (A 90 0), .int 0])) := ⟨_, rfl⟩
              refine PW.heap (h' := h7) eh7.symm ?_
              replace K2 : WM G h7 A (setI (setI (thS σ 0) 90 0 C) 60 0 (upd (upd (σ.1 60 0) 7 0) 7 0)) := by rw [eh7]; exact K2
              replace FK2 : FM A h h7 := by rw [eh7]; exact FK2
              have k840K2 : h7 (A 84 0) = some (aI 8 (σ.1 84 0)) := K2.c84
              have k850K2 : h7 (A 85 0) = some (aI 8 (σ.1 85 0)) := K2.c85
              have k860K2 : h7 (A 86 0) = some (aZ 8 (σ.1 86 0)) := K2.c86
              have k890K2 : h7 (A 89 0) = some (aI 3 (σ.1 89 0)) := K2.c89
              have k610K2 : h7 (A 61 0) = some (aI 6 (σ.1 61 0)) := K2.c61
              have k710K2 : h7 (A 71 0) = some (aZ 6 (σ.1 71 0)) := K2.c71
              have k730K2 : h7 (A 73 0) = some (aI 6 (σ.1 73 0)) := K2.c73
              have k620K2 : h7 (A 62 0) = some (aI 6 (σ.1 62 0)) := K2.c62
              have k740K2 : h7 (A 74 0) = some (aI 6 (σ.1 74 0)) := K2.c74
              have k630K2 : h7 (A 63 0) = some (aI 6 (σ.1 63 0)) := K2.c63
              have k91pK2 : h7 (A 91 p) = some (aI 6 (σ.1 91 p)) := (K2.c91 hp6)
              have k92pK2 : h7 (A 92 p) = some (aI 6 (σ.1 92 p)) := (K2.c92 hp6)
              have c60K2b : h7 (A 60 0) = some (oB 13 [.ref (A 61 0), .ref (A 62 0), .ref (A 63 0), .ref (A 64 0), .ref (A 65 0), .ref (A 66 0), .ref (A 67 0), .ref (A 68 0), .ref (A 69 0), .ref (A 70 0), .ref (A 71 0), .ref (A 72 0), .ref (A 73 0), .ref (A 74 0), .ref (A 75 0), .ref (A 76 0), .int (σ.1 60 0 0), .ref (A 77 0), .ref (A 78 0), .ref (A 79 0), .ref (A 80 0), .ref (A 81 0), .ref (A 82 0), .ref (A 83 0), .int (σ.1 60 0 1), .ref (A 84 0), .ref (A 85 0), .ref (A 86 0), .ref (A 87 0), .ref (A 88 0), .int (σ.1 60 0 2), .int (σ.1 60 0 3), .ref (A 89 0), .int (σ.1 60 0 4), .int (σ.1 60 0 5), .int (σ.1 60 0 6), .ref (A 90 0), .int 0]) := K2.c60
              refine pw_aload_n (pc2 := 154) dX10_test_153 rfl rfl 5 rfl (by first | exact rf_ref _ | exact rf_opt _ | exact rf_nul) ?_
              refine pw_get (pc2 := 157) kX10 (k := 37) (by decide) rfl fl_X10_109 c60K2b rfl dX10_test_154 rfl ?_
              refine pw_if_le (tgt := 162) (pc2 := 160) dX10_test_157 (by decide) rfl (fun _ => ?_) (fun c157 => by exact absurd (by decide) c157)
              refine pw_aload_n (pc2 := 163) dX10_test_162 rfl rfl 5 rfl (by first | exact rf_ref _ | exact rf_opt _ | exact rf_nul) ?_
              refine pw_get (pc2 := 166) kX10 (k := 32) (by decide) rfl fl_X10_103 c60K2b rfl dX10_test_163 rfl ?_
              refine pw_aload_n (pc2 := 167) dX10_test_166 rfl rfl 5 rfl (by first | exact rf_ref _ | exact rf_opt _ | exact rf_nul) ?_
              refine pw_get (pc2 := 170) kX10 (k := 0) (by decide) rfl fl_X10_9 c60K2b rfl dX10_test_167 rfl ?_
              refine pw_iload_n (pc2 := 171) dX10_test_170 rfl rfl 6 rfl ?_
              refine pw_ialdN (pc2 := 172) k610K2 (i := p) (by first | assumption | omega) (by omega) dX10_test_171 rfl ?_
              refine pw_topE h61 ?_
              refine pw_dup2 (pc2 := 173) dX10_test_172 rfl (by first | rfl | exact cat_rf _) (by first | rfl | exact cat_rf _) ?_
              refine pw_ialdN (pc2 := 174) k890K2 (i := o) (by first | assumption | omega) (by omega) dX10_test_173 rfl ?_
              refine pw_iload (pc2 := 176) dX10_test_174 rfl 2 rfl ?_
              refine pw_isub (pc2 := 177) dX10_test_176 rfl ?_
              refine pw_iastN (pc2 := 178) k890K2 (i := o) (by first | assumption | omega) (by omega) dX10_test_177 rfl ?_
              obtain ⟨K3, FK3⟩ := K2.wIF (FK2) (t := 89) (i := 0) (f := (upd (σ.1 89 0) o (((σ.1 89 0) o) - (cstN σ.1 (nI p) (nts σ))))) rfl (by decide) (iv_setI K2.iv (by decide)) rfl
              obtain ⟨h6, eh6⟩ : ∃ z : Nat → Option hE, z = va_up h7 (A 89 0) (some (aI 3 (upd (σ.1 89 0) o (((σ.1 89 0) o) - (cstN σ.1 (nI p) (nts σ)))))) := ⟨_, rfl⟩
              refine PW.heap (h' := h6) eh6.symm ?_
              replace K3 : WM G h6 A (setI (setI (setI (thS σ 0) 90 0 C) 60 0 (upd (upd (σ.1 60 0) 7 0) 7 0)) 89 0 (upd (σ.1 89 0) o (((σ.1 89 0) o) - (cstN σ.1 (nI p) (nts σ))))) := by rw [eh6]; exact K3
              replace FK3 : FM A h h6 := by rw [eh6]; exact FK3
              have c60K3 : h6 (A 60 0) = some (oB 13 [.ref (A 61 0), .ref (A 62 0), .ref (A 63 0), .ref (A 64 0), .ref (A 65 0), .ref (A 66 0), .ref (A 67 0), .ref (A 68 0), .ref (A 69 0), .ref (A 70 0), .ref (A 71 0), .ref (A 72 0), .ref (A 73 0), .ref (A 74 0), .ref (A 75 0), .ref (A 76 0), .int (σ.1 60 0 0), .ref (A 77 0), .ref (A 78 0), .ref (A 79 0), .ref (A 80 0), .ref (A 81 0), .ref (A 82 0), .ref (A 83 0), .int (σ.1 60 0 1), .ref (A 84 0), .ref (A 85 0), .ref (A 86 0), .ref (A 87 0), .ref (A 88 0), .int (σ.1 60 0 2), .int (σ.1 60 0 3), .ref (A 89 0), .int (σ.1 60 0 4), .int (σ.1 60 0 5), .int (σ.1 60 0 6), .ref (A 90 0), .int 0]) := K3.c60
              have k840K3 : h6 (A 84 0) = some (aI 8 (σ.1 84 0)) := K3.c84
              have k850K3 : h6 (A 85 0) = some (aI 8 (σ.1 85 0)) := K3.c85
              have k860K3 : h6 (A 86 0) = some (aZ 8 (σ.1 86 0)) := K3.c86
              have k890K3 : h6 (A 89 0) = some (aI 3 (upd (σ.1 89 0) o (((σ.1 89 0) o) - (cstN σ.1 (nI p) (nts σ))))) := K3.c89.trans (congrArg (fun w => some (aI 3 w)) (show (setI (setI (setI (thS σ 0) 90 0 C) 60 0 (upd (upd (σ.1 60 0) 7 0) 7 0)) 89 0 (upd (σ.1 89 0) o (((σ.1 89 0) o) - (cstN σ.1 (nI p) (nts σ))))).1 89 0 = (upd (σ.1 89 0) o (((σ.1 89 0) o) - (cstN σ.1 (nI p) (nts σ)))) from setI_s _ _ _))
              have k610K3 : h6 (A 61 0) = some (aI 6 (σ.1 61 0)) := K3.c61
              have k710K3 : h6 (A 71 0) = some (aZ 6 (σ.1 71 0)) := K3.c71
              have k730K3 : h6 (A 73 0) = some (aI 6 (σ.1 73 0)) := K3.c73
              have k620K3 : h6 (A 62 0) = some (aI 6 (σ.1 62 0)) := K3.c62
              have k740K3 : h6 (A 74 0) = some (aI 6 (σ.1 74 0)) := K3.c74
              have k630K3 : h6 (A 63 0) = some (aI 6 (σ.1 63 0)) := K3.c63
              have k91pK3 : h6 (A 91 p) = some (aI 6 (σ.1 91 p)) := (K3.c91 hp6)
              have k92pK3 : h6 (A 92 p) = some (aI 6 (σ.1 92 p)) := (K3.c92 hp6)
              refine pw_aload_n (pc2 := 179) dX10_test_178 rfl rfl 5 rfl (by first | exact rf_ref _ | exact rf_opt _ | exact rf_nul) ?_
              refine pw_dup (pc2 := 180) dX10_test_179 rfl (by first | rfl | exact cat_rf _) ?_
              refine pw_get (pc2 := 183) kX10 (k := 35) (by decide) rfl fl_X10_185 c60K3 rfl dX10_test_180 rfl ?_
              refine pw_iload (pc2 := 185) dX10_test_183 rfl 2 rfl ?_
              refine pw_iadd (pc2 := 186) dX10_test_185 rfl ?_
              refine pw_put (pc2 := 189) kX10 (k := 35) (by decide) rfl rfl fl_X10_185 c60K3 (by first | decide | simp) (by first | rfl | exact nar_rf _ _) (by first | rfl | exact fit_rf _ _) dX10_test_186 rfl ?_
              obtain ⟨K4, FK4⟩ := K3.wIF (FK3) (t := 60) (i := 0) (f := (upd (upd (upd (σ.1 60 0) 7 0) 7 0) 6 ((σ.1 60 0 6) + (cstN σ.1 (nI p) (nts σ))))) rfl (by decide) (iv_setI K3.iv (by decide)) rfl
              obtain ⟨h5, eh5⟩ : ∃ z : Nat → Option hE, z = va_up h6 (A 60 0) (some (oB 13 [.ref (A 61 0), .ref (A 62 0), .ref (A 63 0), .ref (A 64 0), .ref (A 65 0), .ref (A 66 0), .ref (A 67 0), .ref (A 68 0), .ref (A 69 0), .ref (A 70 0), .ref (A 71 0), .ref (A 72 0), .ref (A 73 0), .ref (A 74 0), .ref (A 75 0), .ref (A 76 0), .int (σ.1 60 0 0), .ref (A 77 0), .ref (A 78 0), .ref (A 79 0), .ref (A 80 0), .ref (A 81 0), .ref (A 82 0), .ref (A 83 0), .int (σ.1 60 0 1), .ref (A 84 0), .ref (A 85 0), .ref (A 86 0), .ref (A 87 0), .ref (A 88 0), .int (σ.1 60 0 2), .int (σ.1 60 0 3), .ref (A 89 0), .int (σ.1 60 0 4), .int (σ.1 60 0 5), .int ((σ.1 60 0 6) + (cstN σ.1 (nI p) (nts σ))), .ref (A 90 0), .int 0])) := ⟨_, rfl⟩
              refine PW.heap (h' := h5) eh5.symm ?_
              replace K4 : WM G h5 A (setI (setI (setI (setI (thS σ 0) 90 0 C) 60 0 (upd (upd (σ.1 60 0) 7 0) 7 0)) 89 0 (upd (σ.1 89 0) o (((σ.1 89 0) o) - (cstN σ.1 (nI p) (nts σ))))) 60 0 (upd (upd (upd (σ.1 60 0) 7 0) 7 0) 6 ((σ.1 60 0 6) + (cstN σ.1 (nI p) (nts σ))))) := by rw [eh5]; exact K4
              replace FK4 : FM A h h5 := by rw [eh5]; exact FK4
              have k840K4 : h5 (A 84 0) = some (aI 8 (σ.1 84 0)) := K4.c84
              have k850K4 : h5 (A 85 0) = some (aI 8 (σ.1 85 0)) := K4.c85
              have k860K4 : h5 (A 86 0) = some (aZ 8 (σ.1 86 0)) := K4.c86
              have k890K4 : h5 (A 89 0) = some (aI 3 (upd (σ.1 89 0) o (((σ.1 89 0) o) - (cstN σ.1 (nI p) (nts σ))))) := K4.c89.trans (congrArg (fun w => some (aI 3 w)) (show (setI (setI (setI (thS σ 0) 90 0 C) 60 0 (upd (upd (σ.1 60 0) 7 0) 7 0)) 89 0 (upd (σ.1 89 0) o (((σ.1 89 0) o) - (cstN σ.1 (nI p) (nts σ))))).1 89 0 = (upd (σ.1 89 0) o (((σ.1 89 0) o) - (cstN σ.1 (nI p) (nts σ)))) from setI_s _ _ _))
              have k610K4 : h5 (A 61 0) = some (aI 6 (σ.1 61 0)) := K4.c61
              have k710K4 : h5 (A 71 0) = some (aZ 6 (σ.1 71 0)) := K4.c71
              have k730K4 : h5 (A 73 0) = some (aI 6 (σ.1 73 0)) := K4.c73
              have k620K4 : h5 (A 62 0) = some (aI 6 (σ.1 62 0)) := K4.c62
              have k740K4 : h5 (A 74 0) = some (aI 6 (σ.1 74 0)) := K4.c74
              have k630K4 : h5 (A 63 0) = some (aI 6 (σ.1 63 0)) := K4.c63
              have k91pK4 : h5 (A 91 p) = some (aI 6 (σ.1 91 p)) := (K4.c91 hp6)
              have k92pK4 : h5 (A 92 p) = some (aI 6 (σ.1 92 p)) := (K4.c92 hp6)
              have c60K4b : h5 (A 60 0) = some (oB 13 [.ref (A 61 0), .ref (A 62 0), .ref (A 63 0), .ref (A 64 0), .ref (A 65 0), .ref (A 66 0), .ref (A 67 0), .ref (A 68 0), .ref (A 69 0), .ref (A 70 0), .ref (A 71 0), .ref (A 72 0), .ref (A 73 0), .ref (A 74 0), .ref (A 75 0), .ref (A 76 0), .int (σ.1 60 0 0), .ref (A 77 0), .ref (A 78 0), .ref (A 79 0), .ref (A 80 0), .ref (A 81 0), .ref (A 82 0), .ref (A 83 0), .int (σ.1 60 0 1), .ref (A 84 0), .ref (A 85 0), .ref (A 86 0), .ref (A 87 0), .ref (A 88 0), .int (σ.1 60 0 2), .int (σ.1 60 0 3), .ref (A 89 0), .int (σ.1 60 0 4), .int (σ.1 60 0 5), .int ((σ.1 60 0 6) + (cstN σ.1 (nI p) (nts σ))), .ref (A 90 0), .int 0]) := K4.c60
              refine pw_aload_n (pc2 := 190) dX10_test_189 rfl rfl 5 rfl (by first | exact rf_ref _ | exact rf_opt _ | exact rf_nul) ?_
              refine pw_dup (pc2 := 191) dX10_test_190 rfl (by first | rfl | exact cat_rf _) ?_
              refine pw_get (pc2 := 194) kX10 (k := 34) (by decide) rfl fl_X10_188 c60K4b rfl dX10_test_191 rfl ?_
              refine pw_iconst (pc2 := 195) (v := 1) dX10_test_194 rfl (by decide) ?_
              refine pw_iadd (pc2 := 196) dX10_test_195 rfl ?_
              refine pw_put (pc2 := 199) kX10 (k := 34) (by decide) rfl rfl fl_X10_188 c60K4b (by first | decide | simp) (by first | rfl | exact nar_rf _ _) (by first | rfl | exact fit_rf _ _) dX10_test_196 rfl ?_
              obtain ⟨K5, FK5⟩ := K4.wIF (FK4) (t := 60) (i := 0) (f := (upd (upd (upd (upd (σ.1 60 0) 7 0) 7 0) 6 ((σ.1 60 0 6) + (cstN σ.1 (nI p) (nts σ)))) 5 ((σ.1 60 0 5) + 1))) rfl (by decide) (iv_setI K4.iv (by decide)) rfl
              obtain ⟨h4, eh4⟩ : ∃ z : Nat → Option hE, z = va_up h5 (A 60 0) (some (oB 13 [.ref (A 61 0), .ref (A 62 0), .ref (A 63 0), .ref (A 64 0), .ref (A 65 0), .ref (A 66 0), .ref (A 67 0), .ref (A 68 0), .ref (A 69 0), .ref (A 70 0), .ref (A 71 0), .ref (A 72 0), .ref (A 73 0), .ref (A 74 0), .ref (A 75 0), .ref (A 76 0), .int (σ.1 60 0 0), .ref (A 77 0), .ref (A 78 0), .ref (A 79 0), .ref (A 80 0), .ref (A 81 0), .ref (A 82 0), .ref (A 83 0), .int (σ.1 60 0 1), .ref (A 84 0), .ref (A 85 0), .ref (A 86 0), .ref (A 87 0), .ref (A 88 0), .int (σ.1 60 0 2), .int (σ.1 60 0 3), .ref (A 89 0), .int (σ.1 60 0 4), .int ((σ.1 60 0 5) + 1), .int ((σ.1 60 0 6) + (cstN σ.1 (nI p) (nts σ))), .ref (A 90 0), .int 0])) := ⟨_, rfl⟩
              refine PW.heap (h' := h4) eh4.symm ?_
              replace K5 : WM G h4 A (setI (setI (setI (setI (setI (thS σ 0) 90 0 C) 60 0 (upd (upd (σ.1 60 0) 7 0) 7 0)) 89 0 (upd (σ.1 89 0) o (((σ.1 89 0) o) - (cstN σ.1 (nI p) (nts σ))))) 60 0 (upd (upd (upd (σ.1 60 0) 7 0) 7 0) 6 ((σ.1 60 0 6) + (cstN σ.1 (nI p) (nts σ))))) 60 0 (upd (upd (upd (upd (σ.1 60 0) 7 0) 7 0) 6 ((σ.1 60 0 6) + (cstN σ.1 (nI p) (nts σ)))) 5 ((σ.1 60 0 5) + 1))) := by rw [eh4]; exact K5
              replace FK5 : FM A h h4 := by rw [eh4]; exact FK5
              have k840K5 : h4 (A 84 0) = some (aI 8 (σ.1 84 0)) := K5.c84
              have k850K5 : h4 (A 85 0) = some (aI 8 (σ.1 85 0)) := K5.c85
              have k860K5 : h4 (A 86 0) = some (aZ 8 (σ.1 86 0)) := K5.c86
              have k890K5 : h4 (A 89 0) = some (aI 3 (upd (σ.1 89 0) o (((σ.1 89 0) o) - (cstN σ.1 (nI p) (nts σ))))) := K5.c89.trans (congrArg (fun w => some (aI 3 w)) (show (setI (setI (setI (thS σ 0) 90 0 C) 60 0 (upd (upd (σ.1 60 0) 7 0) 7 0)) 89 0 (upd (σ.1 89 0) o (((σ.1 89 0) o) - (cstN σ.1 (nI p) (nts σ))))).1 89 0 = (upd (σ.1 89 0) o (((σ.1 89 0) o) - (cstN σ.1 (nI p) (nts σ)))) from setI_s _ _ _))
              have k610K5 : h4 (A 61 0) = some (aI 6 (σ.1 61 0)) := K5.c61
              have k710K5 : h4 (A 71 0) = some (aZ 6 (σ.1 71 0)) := K5.c71
              have k730K5 : h4 (A 73 0) = some (aI 6 (σ.1 73 0)) := K5.c73
              have k620K5 : h4 (A 62 0) = some (aI 6 (σ.1 62 0)) := K5.c62
              have k740K5 : h4 (A 74 0) = some (aI 6 (σ.1 74 0)) := K5.c74
              have k630K5 : h4 (A 63 0) = some (aI 6 (σ.1 63 0)) := K5.c63
              have k91pK5 : h4 (A 91 p) = some (aI 6 (σ.1 91 p)) := (K5.c91 hp6)
              have k92pK5 : h4 (A 92 p) = some (aI 6 (σ.1 92 p)) := (K5.c92 hp6)
              have c60K5b : h4 (A 60 0) = some (oB 13 [.ref (A 61 0), .ref (A 62 0), .ref (A 63 0), .ref (A 64 0), .ref (A 65 0), .ref (A 66 0), .ref (A 67 0), .ref (A 68 0), .ref (A 69 0), .ref (A 70 0), .ref (A 71 0), .ref (A 72 0), .ref (A 73 0), .ref (A 74 0), .ref (A 75 0), .ref (A 76 0), .int (σ.1 60 0 0), .ref (A 77 0), .ref (A 78 0), .ref (A 79 0), .ref (A 80 0), .ref (A 81 0), .ref (A 82 0), .ref (A 83 0), .int (σ.1 60 0 1), .ref (A 84 0), .ref (A 85 0), .ref (A 86 0), .ref (A 87 0), .ref (A 88 0), .int (σ.1 60 0 2), .int (σ.1 60 0 3), .ref (A 89 0), .int (σ.1 60 0 4), .int ((σ.1 60 0 5) + 1), .int ((σ.1 60 0 6) + (cstN σ.1 (nI p) (nts σ))), .ref (A 90 0), .int 0]) := K5.c60
              replace K5 : WM G h4 A (mT5 σ o C (cstN σ.1 (nI p) (nts σ))) := K5
              refine pw_iconst (pc2 := 200) (v := 0) dX10_test_199 rfl (by decide) ?_
              refine pw_istore (pc2 := 202) (L2 := [(6, Value.int 0), (5, Value.int (flnN σ.1 (nI p) (nts σ))), (4, Value.int (cstN σ.1 (nI p) (nts σ))), (3, Value.int 0), (2, Value.int 1), (0, Value.ref (A 60 0)), (1, Value.int (nI p))]) dX10_test_200 rfl (by decide) rfl ?_
              have loop2 : ∀ (k i : Nat) (hr : hp) (X : Nat → Nat → Nat → Int32) (Hr : WM G hr A (rcS (mT5 σ o C (cstN σ.1 (nI p) (nts σ))) X)) (Fr : FM A h hr) (hX : RCI σ (nI p) i X), i + k = nts σ → PW G MX10_test d noA (E0 G (fun r h2 => (¬ inR (nI p) (npk σ) ∧ QSM G h A (.int 0) (thS σ 1) r h2) ∨ (∃ p9, p9 < npk σ ∧ (nI p) = nI p9 ∧ ((srS σ p9 = none ∧ ∃ C, QSM G h A (.int 0) (thS (setI (thS σ 0) 90 0 C) 2) r h2) ∨ (∃ g' C o, srS σ p9 = some g' ∧ pkB σ g' ∧ o < 3 ∧ σ.1 61 0 p9 = nI o ∧ (((¬ bOk σ p9 g' ∨ σ.1 89 0 o < (cstN σ.1 (nI p9) (nts σ))) ∧ QSM G h A (.int 0) (thS (setI (thS σ 0) 90 0 C) 3) r h2) ∨ (bOk σ p9 g' ∧ ¬ σ.1 89 0 o < (cstN σ.1 (nI p9) (nts σ)) ∧ ∃ X R1 R2 R3, RCI σ (nI p9) (nts σ) X ∧ (∀ j, j < 6 → R1 j = vG σ (g' j) ∧ R2 j = σ.1 91 p9 j ∧ R3 j = σ.1 92 p9 j) ∧ QSM G h A (.int (flnN σ.1 (nI p9) (nts σ))) (mTE σ p9 o C (cstN σ.1 (nI p9) (nts σ)) X (if (flnN σ.1 (nI p9) (nts σ)) = 0 then 1 else 0) R1 R2 R3) r h2)))))) noX) 0 0 202 [(6, Value.int (nI i)), (5, Value.int (flnN σ.1 (nI p) (nts σ))), (0, Value.ref (A 60 0)), (1, Value.int (nI p))] [] hr := by
                intro k
                induction k with
                | zero =>
                  intro i hr X Hr Fr hX hik
                  have hi9 : i = nts σ := by omega
                  refine pw_iload (pc2 := 204) dX10_test_202 rfl 0 rfl ?_
                  refine pw_aload_n (pc2 := 205) dX10_test_204 rfl rfl 2 rfl (by first | exact rf_ref _ | exact rf_opt _ | exact rf_nul) ?_
                  refine pw_get (pc2 := 208) kX10 (k := 30) (by decide) rfl fl_X10_171 Hr.c60 rfl dX10_test_205 rfl ?_
                  refine pw_topE hb.2.2 ?_
                  refine pw_icmp_ge (tgt := 234) (pc2 := 211) dX10_test_208 (by decide) rfl (fun _ => ?_) (fun c208 => by exact absurd (by first | exact (nI_leI (a := nts σ) (b := i) (by omega) (by omega)).mpr (by omega) | exact fun q => absurd ((nI_leI (a := nts σ) (b := i) (by omega) (by omega)).mp q) (by omega)) c208)
                  subst hi9
                  have KR := Hr
                  have FKR := Fr
                  have c60R : hr (A 60 0) = some (oB 13 [.ref (A 61 0), .ref (A 62 0), .ref (A 63 0), .ref (A 64 0), .ref (A 65 0), .ref (A 66 0), .ref (A 67 0), .ref (A 68 0), .ref (A 69 0), .ref (A 70 0), .ref (A 71 0), .ref (A 72 0), .ref (A 73 0), .ref (A 74 0), .ref (A 75 0), .ref (A 76 0), .int (σ.1 60 0 0), .ref (A 77 0), .ref (A 78 0), .ref (A 79 0), .ref (A 80 0), .ref (A 81 0), .ref (A 82 0), .ref (A 83 0), .int (σ.1 60 0 1), .ref (A 84 0), .ref (A 85 0), .ref (A 86 0), .ref (A 87 0), .ref (A 88 0), .int (σ.1 60 0 2), .int (σ.1 60 0 3), .ref (A 89 0), .int (σ.1 60 0 4), .int (σ.1 60 0 5 + 1), .int (σ.1 60 0 6 + (cstN σ.1 (nI p) (nts σ))), .ref (A 90 0), .int 0]) := KR.c60
                  refine pw_aload_n (pc2 := 235) dX10_test_234 rfl rfl 2 rfl (by first | exact rf_ref _ | exact rf_opt _ | exact rf_nul) ?_
                  refine pw_get (pc2 := 238) kX10 (k := 10) (by decide) rfl fl_X10_43 c60R rfl dX10_test_235 rfl ?_
                  refine pw_iload_n (pc2 := 239) dX10_test_238 rfl rfl 3 rfl ?_
                  refine pw_iload (pc2 := 241) dX10_test_239 rfl 1 rfl ?_
                  refine pw_if_ne (tgt := 248) (pc2 := 244) dX10_test_241 (by decide) rfl (fun c241 => ?_) (fun c241 => ?_)
                  · refine pw_iconst (pc2 := 249) (v := 0) dX10_test_248 rfl (by decide) ?_
                    refine pw_zastN (pc2 := 250) Hr.c71 (i := p) (by first | assumption | omega) (by omega) (by decide) dX10_test_249 rfl ?_
                    obtain ⟨K6, FK6⟩ := KR.wIF (FKR) (t := 71) (i := 0) (f := (upd (σ.1 71 0) p 0)) rfl (by decide) (iv_setI KR.iv (by decide)) rfl
                    obtain ⟨h1a, eh1a⟩ : ∃ z : Nat → Option hE, z = va_up hr (A 71 0) (some (aZ 6 (upd (σ.1 71 0) p 0))) := ⟨_, rfl⟩
                    refine PW.heap (h' := h1a) eh1a.symm ?_
                    replace K6 : WM G h1a A (setI (rcS (mT5 σ o C (cstN σ.1 (nI p) (nts σ))) X) 71 0 (upd (σ.1 71 0) p 0)) := by rw [eh1a]; exact K6
                    replace FK6 : FM A h h1a := by rw [eh1a]; exact FK6
                    have k710K6 : h1a (A 71 0) = some (aZ 6 (upd (σ.1 71 0) p 0)) := K6.c71.trans (congrArg (fun w => some (aZ 6 w)) (show (setI (rcS (mT5 σ o C (cstN σ.1 (nI p) (nts σ))) X) 71 0 (upd (σ.1 71 0) p 0)).1 71 0 = (upd (σ.1 71 0) p 0) from setI_s _ _ _))
                    have k730K6 : h1a (A 73 0) = some (aI 6 (σ.1 73 0)) := K6.c73
                    have k620K6 : h1a (A 62 0) = some (aI 6 (σ.1 62 0)) := K6.c62
                    have k740K6 : h1a (A 74 0) = some (aI 6 (σ.1 74 0)) := K6.c74
                    have k630K6 : h1a (A 63 0) = some (aI 6 (σ.1 63 0)) := K6.c63
                    have k91pK6 : h1a (A 91 p) = some (aI 6 (σ.1 91 p)) := (K6.c91 hp6)
                    have k92pK6 : h1a (A 92 p) = some (aI 6 (σ.1 92 p)) := (K6.c92 hp6)
                    have k94pK6 : h1a (A 94 p) = some (aI 6 (σ.1 94 p)) := (K6.c94 hp6)
                    have k95pK6 : h1a (A 95 p) = some (aI 6 (σ.1 95 p)) := (K6.c95 hp6)
                    have k96pK6 : h1a (A 96 p) = some (aI 6 (σ.1 96 p)) := (K6.c96 hp6)
                    have c60K6q : h1a (A 60 0) = some (oB 13 [.ref (A 61 0), .ref (A 62 0), .ref (A 63 0), .ref (A 64 0), .ref (A 65 0), .ref (A 66 0), .ref (A 67 0), .ref (A 68 0), .ref (A 69 0), .ref (A 70 0), .ref (A 71 0), .ref (A 72 0), .ref (A 73 0), .ref (A 74 0), .ref (A 75 0), .ref (A 76 0), .int (σ.1 60 0 0), .ref (A 77 0), .ref (A 78 0), .ref (A 79 0), .ref (A 80 0), .ref (A 81 0), .ref (A 82 0), .ref (A 83 0), .int (σ.1 60 0 1), .ref (A 84 0), .ref (A 85 0), .ref (A 86 0), .ref (A 87 0), .ref (A 88 0), .int (σ.1 60 0 2), .int (σ.1 60 0 3), .ref (A 89 0), .int (σ.1 60 0 4), .int (σ.1 60 0 5 + 1), .int (σ.1 60 0 6 + (cstN σ.1 (nI p) (nts σ))), .ref (A 90 0), .int 0]) := K6.c60
                    refine pw_aload_n (pc2 := 251) dX10_test_250 rfl rfl 2 rfl (by first | exact rf_ref _ | exact rf_opt _ | exact rf_nul) ?_
                    refine pw_get (pc2 := 254) kX10 (k := 12) (by decide) rfl fl_X10_49 c60K6q rfl dX10_test_251 rfl ?_
                    refine pw_iload_n (pc2 := 255) dX10_test_254 rfl rfl 3 rfl ?_
                    refine pw_aload_n (pc2 := 256) dX10_test_255 rfl rfl 2 rfl (by first | exact rf_ref _ | exact rf_opt _ | exact rf_nul) ?_
                    refine pw_get (pc2 := 259) kX10 (k := 1) (by decide) rfl fl_X10_13 c60K6q rfl dX10_test_256 rfl ?_
                    refine pw_iload_n (pc2 := 260) dX10_test_259 rfl rfl 3 rfl ?_
                    refine pw_ialdN (pc2 := 261) k620K6 (i := p) (by first | assumption | omega) (by omega) dX10_test_260 rfl ?_
                    refine pw_iastN (pc2 := 262) k730K6 (i := p) (by first | assumption | omega) (by omega) dX10_test_261 rfl ?_
                    obtain ⟨K7, FK7⟩ := K6.wIF (FK6) (t := 73) (i := 0) (f := (upd (σ.1 73 0) p ((σ.1 62 0) p))) rfl (by decide) (iv_setI K6.iv (by decide)) rfl
                    obtain ⟨h1b, eh1b⟩ : ∃ z : Nat → Option hE, z = va_up h1a (A 73 0) (some (aI 6 (upd (σ.1 73 0) p ((σ.1 62 0) p)))) := ⟨_, rfl⟩
                    refine PW.heap (h' := h1b) eh1b.symm ?_
                    replace K7 : WM G h1b A (setI (setI (rcS (mT5 σ o C (cstN σ.1 (nI p) (nts σ))) X) 71 0 (upd (σ.1 71 0) p 0)) 73 0 (upd (σ.1 73 0) p ((σ.1 62 0) p))) := by rw [eh1b]; exact K7
                    replace FK7 : FM A h h1b := by rw [eh1b]; exact FK7
                    have k710K7 : h1b (A 71 0) = some (aZ 6 (upd (σ.1 71 0) p 0)) := K7.c71.trans (congrArg (fun w => some (aZ 6 w)) (show (setI (rcS (mT5 σ o C (cstN σ.1 (nI p) (nts σ))) X) 71 0 (upd (σ.1 71 0) p 0)).1 71 0 = (upd (σ.1 71 0) p 0) from setI_s _ _ _))
                    have k730K7 : h1b (A 73 0) = some (aI 6 (upd (σ.1 73 0) p ((σ.1 62 0) p))) := K7.c73.trans (congrArg (fun w => some (aI 6 w)) (show (setI (setI (rcS (mT5 σ o C (cstN σ.1 (nI p) (nts σ))) X) 71 0 (upd (σ.1 71 0) p 0)) 73 0 (upd (σ.1 73 0) p ((σ.1 62 0) p))).1 73 0 = (upd (σ.1 73 0) p ((σ.1 62 0) p)) from setI_s _ _ _))
                    have k620K7 : h1b (A 62 0) = some (aI 6 (σ.1 62 0)) := K7.c62
                    have k740K7 : h1b (A 74 0) = some (aI 6 (σ.1 74 0)) := K7.c74
                    have k630K7 : h1b (A 63 0) = some (aI 6 (σ.1 63 0)) := K7.c63
                    have k91pK7 : h1b (A 91 p) = some (aI 6 (σ.1 91 p)) := (K7.c91 hp6)
                    have k92pK7 : h1b (A 92 p) = some (aI 6 (σ.1 92 p)) := (K7.c92 hp6)
                    have k94pK7 : h1b (A 94 p) = some (aI 6 (σ.1 94 p)) := (K7.c94 hp6)
                    have k95pK7 : h1b (A 95 p) = some (aI 6 (σ.1 95 p)) := (K7.c95 hp6)
                    have k96pK7 : h1b (A 96 p) = some (aI 6 (σ.1 96 p)) := (K7.c96 hp6)
                    have c60K7q : h1b (A 60 0) = some (oB 13 [.ref (A 61 0), .ref (A 62 0), .ref (A 63 0), .ref (A 64 0), .ref (A 65 0), .ref (A 66 0), .ref (A 67 0), .ref (A 68 0), .ref (A 69 0), .ref (A 70 0), .ref (A 71 0), .ref (A 72 0), .ref (A 73 0), .ref (A 74 0), .ref (A 75 0), .ref (A 76 0), .int (σ.1 60 0 0), .ref (A 77 0), .ref (A 78 0), .ref (A 79 0), .ref (A 80 0), .ref (A 81 0), .ref (A 82 0), .ref (A 83 0), .int (σ.1 60 0 1), .ref (A 84 0), .ref (A 85 0), .ref (A 86 0), .ref (A 87 0), .ref (A 88 0), .int (σ.1 60 0 2), .int (σ.1 60 0 3), .ref (A 89 0), .int (σ.1 60 0 4), .int (σ.1 60 0 5 + 1), .int (σ.1 60 0 6 + (cstN σ.1 (nI p) (nts σ))), .ref (A 90 0), .int 0]) := K7.c60
                    refine pw_aload_n (pc2 := 263) dX10_test_262 rfl rfl 2 rfl (by first | exact rf_ref _ | exact rf_opt _ | exact rf_nul) ?_
                    refine pw_get (pc2 := 266) kX10 (k := 13) (by decide) rfl fl_X10_52 c60K7q rfl dX10_test_263 rfl ?_
                    refine pw_iload_n (pc2 := 267) dX10_test_266 rfl rfl 3 rfl ?_
                    refine pw_aload_n (pc2 := 268) dX10_test_267 rfl rfl 2 rfl (by first | exact rf_ref _ | exact rf_opt _ | exact rf_nul) ?_
                    refine pw_get (pc2 := 271) kX10 (k := 2) (by decide) rfl fl_X10_16 c60K7q rfl dX10_test_268 rfl ?_
                    refine pw_iload_n (pc2 := 272) dX10_test_271 rfl rfl 3 rfl ?_
                    refine pw_ialdN (pc2 := 273) k630K7 (i := p) (by first | assumption | omega) (by omega) dX10_test_272 rfl ?_
                    refine pw_iastN (pc2 := 274) k740K7 (i := p) (by first | assumption | omega) (by omega) dX10_test_273 rfl ?_
                    obtain ⟨K8, FK8⟩ := K7.wIF (FK7) (t := 74) (i := 0) (f := (upd (σ.1 74 0) p ((σ.1 63 0) p))) rfl (by decide) (iv_setI K7.iv (by decide)) rfl
                    obtain ⟨h1c, eh1c⟩ : ∃ z : Nat → Option hE, z = va_up h1b (A 74 0) (some (aI 6 (upd (σ.1 74 0) p ((σ.1 63 0) p)))) := ⟨_, rfl⟩
                    refine PW.heap (h' := h1c) eh1c.symm ?_
                    replace K8 : WM G h1c A (setI (setI (setI (rcS (mT5 σ o C (cstN σ.1 (nI p) (nts σ))) X) 71 0 (upd (σ.1 71 0) p 0)) 73 0 (upd (σ.1 73 0) p ((σ.1 62 0) p))) 74 0 (upd (σ.1 74 0) p ((σ.1 63 0) p))) := by rw [eh1c]; exact K8
                    replace FK8 : FM A h h1c := by rw [eh1c]; exact FK8
                    have k710K8 : h1c (A 71 0) = some (aZ 6 (upd (σ.1 71 0) p 0)) := K8.c71.trans (congrArg (fun w => some (aZ 6 w)) (show (setI (rcS (mT5 σ o C (cstN σ.1 (nI p) (nts σ))) X) 71 0 (upd (σ.1 71 0) p 0)).1 71 0 = (upd (σ.1 71 0) p 0) from setI_s _ _ _))
                    have k730K8 : h1c (A 73 0) = some (aI 6 (upd (σ.1 73 0) p ((σ.1 62 0) p))) := K8.c73.trans (congrArg (fun w => some (aI 6 w)) (show (setI (setI (rcS (mT5 σ o C (cstN σ.1 (nI p) (nts σ))) X) 71 0 (upd (σ.1 71 0) p 0)) 73 0 (upd (σ.1 73 0) p ((σ.1 62 0) p))).1 73 0 = (upd (σ.1 73 0) p ((σ.1 62 0) p)) from setI_s _ _ _))
                    have k620K8 : h1c (A 62 0) = some (aI 6 (σ.1 62 0)) := K8.c62
                    have k740K8 : h1c (A 74 0) = some (aI 6 (upd (σ.1 74 0) p ((σ.1 63 0) p))) := K8.c74.trans (congrArg (fun w => some (aI 6 w)) (show (setI (setI (setI (rcS (mT5 σ o C (cstN σ.1 (nI p) (nts σ))) X) 71 0 (upd (σ.1 71 0) p 0)) 73 0 (upd (σ.1 73 0) p ((σ.1 62 0) p))) 74 0 (upd (σ.1 74 0) p ((σ.1 63 0) p))).1 74 0 = (upd (σ.1 74 0) p ((σ.1 63 0) p)) from setI_s _ _ _))
                    have k630K8 : h1c (A 63 0) = some (aI 6 (σ.1 63 0)) := K8.c63
                    have k91pK8 : h1c (A 91 p) = some (aI 6 (σ.1 91 p)) := (K8.c91 hp6)
                    have k92pK8 : h1c (A 92 p) = some (aI 6 (σ.1 92 p)) := (K8.c92 hp6)
                    have k94pK8 : h1c (A 94 p) = some (aI 6 (σ.1 94 p)) := (K8.c94 hp6)
                    have k95pK8 : h1c (A 95 p) = some (aI 6 (σ.1 95 p)) := (K8.c95 hp6)
                    have k96pK8 : h1c (A 96 p) = some (aI 6 (σ.1 96 p)) := (K8.c96 hp6)
                    have c60K8q : h1c (A 60 0) = some (oB 13 [.ref (A 61 0), .ref (A 62 0), .ref (A 63 0), .ref (A 64 0), .ref (A 65 0), .ref (A 66 0), .ref (A 67 0), .ref (A 68 0), .ref (A 69 0), .ref (A 70 0), .ref (A 71 0), .ref (A 72 0), .ref (A 73 0), .ref (A 74 0), .ref (A 75 0), .ref (A 76 0), .int (σ.1 60 0 0), .ref (A 77 0), .ref (A 78 0), .ref (A 79 0), .ref (A 80 0), .ref (A 81 0), .ref (A 82 0), .ref (A 83 0), .int (σ.1 60 0 1), .ref (A 84 0), .ref (A 85 0), .ref (A 86 0), .ref (A 87 0), .ref (A 88 0), .int (σ.1 60 0 2), .int (σ.1 60 0 3), .ref (A 89 0), .int (σ.1 60 0 4), .int (σ.1 60 0 5 + 1), .int (σ.1 60 0 6 + (cstN σ.1 (nI p) (nts σ))), .ref (A 90 0), .int 0]) := K8.c60
                    refine pw_iconst (pc2 := 275) (v := 0) dX10_test_274 rfl (by decide) ?_
                    refine pw_istore (pc2 := 277) (L2 := [(6, Value.int 0), (5, Value.int (flnN σ.1 (nI p) (nts σ))), (0, Value.ref (A 60 0)), (1, Value.int (nI p))]) dX10_test_275 rfl (by decide) rfl ?_
                    replace K8 : WM G h1c A (mT7 σ p o C (cstN σ.1 (nI p) (nts σ)) X 0) := K8
                    have loop3 : ∀ (k i : Nat) (hh : hp) (R1 R2 R3 : Nat → Int32) (Hh : WM G hh A (setI (setI (setI (mT7 σ p o C (cstN σ.1 (nI p) (nts σ)) X 0) 94 p R1) 95 p R2) 96 p R3)) (Fh : FM A h hh) (hRR : ∀ j, j < i → R1 j = vG σ (g' j) ∧ R2 j = σ.1 91 p j ∧ R3 j = σ.1 92 p j), i + k = 6 → PW G MX10_test d noA (E0 G (fun r h2 => (¬ inR (nI p) (npk σ) ∧ QSM G h A (.int 0) (thS σ 1) r h2) ∨ (∃ p9, p9 < npk σ ∧ (nI p) = nI p9 ∧ ((srS σ p9 = none ∧ ∃ C, QSM G h A (.int 0) (thS (setI (thS σ 0) 90 0 C) 2) r h2) ∨ (∃ g' C o, srS σ p9 = some g' ∧ pkB σ g' ∧ o < 3 ∧ σ.1 61 0 p9 = nI o ∧ (((¬ bOk σ p9 g' ∨ σ.1 89 0 o < (cstN σ.1 (nI p9) (nts σ))) ∧ QSM G h A (.int 0) (thS (setI (thS σ 0) 90 0 C) 3) r h2) ∨ (bOk σ p9 g' ∧ ¬ σ.1 89 0 o < (cstN σ.1 (nI p9) (nts σ)) ∧ ∃ X R1 R2 R3, RCI σ (nI p9) (nts σ) X ∧ (∀ j, j < 6 → R1 j = vG σ (g' j) ∧ R2 j = σ.1 91 p9 j ∧ R3 j = σ.1 92 p9 j) ∧ QSM G h A (.int (flnN σ.1 (nI p9) (nts σ))) (mTE σ p9 o C (cstN σ.1 (nI p9) (nts σ)) X (if (flnN σ.1 (nI p9) (nts σ)) = 0 then 1 else 0) R1 R2 R3) r h2)))))) noX) 0 0 277 [(6, Value.int (nI i)), (5, Value.int (flnN σ.1 (nI p) (nts σ))), (0, Value.ref (A 60 0)), (1, Value.int (nI p))] [] hh := by
                      intro k
                      induction k with
                      | zero =>
                        intro i hh R1 R2 R3 Hh Fh hRR hik
                        have hi9r : i = 6 := by omega
                        refine pw_iload (pc2 := 279) dX10_test_277 rfl 0 rfl ?_
                        refine pw_bipush (pc2 := 281) (v := 6) dX10_test_279 rfl (by decide) ?_
                        refine pw_icmp_ge (tgt := 341) (pc2 := 284) dX10_test_281 (by decide) rfl (fun _ => ?_) (fun c281 => by exact absurd (by first | (rw [hi9r]; exact Int32.le_refl _) | exact fun q => absurd ((l6 (by omega)).mp q) (by omega)) c281)
                        refine pw_iload (pc2 := 343) dX10_test_341 rfl 1 rfl ?_
                        refine pw_iret dX10_test_343 rfl (by first | rfl | assumption | simp [narrow]) ?_
                        subst hi9r
                        exact Or.inr ⟨p, hpp, rfl, Or.inr ⟨g', C, o, hs, hgb', ho3, h61, Or.inr ⟨Classical.not_not.mp q22, Int32.not_lt.mpr c142, X, R1, R2, R3, hX, hRR, rfl, by first | (rw [if_pos c241]; exact Hh) | (rw [if_neg c241]; exact Hh), Fh⟩⟩⟩
                      | succ k ih3 =>
                        intro i hh R1 R2 R3 Hh Fh hRR hik
                        have hi9r : i < 6 := by omega
                        have r94 : hh (A 94 p) = some (aI 6 R1) := (Hh.c94 hp6).trans (congrArg (fun w => some (aI 6 w)) (setI_s (σ := (mT7 σ p o C (cstN σ.1 (nI p) (nts σ)) X 0)) 94 p R1))
                        have r95 : hh (A 95 p) = some (aI 6 R2) := (Hh.c95 hp6).trans (congrArg (fun w => some (aI 6 w)) (setI_s (σ := setI (mT7 σ p o C (cstN σ.1 (nI p) (nts σ)) X 0) 94 p R1) 95 p R2))
                        have r96 : hh (A 96 p) = some (aI 6 R3) := (Hh.c96 hp6).trans (congrArg (fun w => some (aI 6 w)) (setI_s (σ := setI (setI (mT7 σ p o C (cstN σ.1 (nI p) (nts σ)) X 0) 94 p R1) 95 p R2) 96 p R3))
                        have KH := Hh
                        have FKH := Fh
                        refine pw_iload (pc2 := 279) dX10_test_277 rfl 0 rfl ?_
                        refine pw_bipush (pc2 := 281) (v := 6) dX10_test_279 rfl (by decide) ?_
                        refine pw_icmp_ge (tgt := 341) (pc2 := 284) dX10_test_281 (by decide) rfl (fun c281 => by exact absurd c281 (by first | (rw [hi9r]; exact Int32.le_refl _) | exact fun q => absurd ((l6 (by omega)).mp q) (by omega))) (fun _ => ?_)
                        refine pw_aload_n (pc2 := 285) dX10_test_284 rfl rfl 2 rfl (by first | exact rf_ref _ | exact rf_opt _ | exact rf_nul) ?_
                        refine pw_get (pc2 := 288) kX10 (k := 11) (by decide) rfl fl_X10_46 Hh.c60 rfl dX10_test_285 rfl ?_
                        refine pw_iload_n (pc2 := 289) dX10_test_288 rfl rfl 3 rfl ?_
                        refine pw_aaldN (pc2 := 290) 6 rfl rfl Hh.c72 (i := p) (by first | assumption | omega) (by omega) dX10_test_289 rfl ?_
                        refine pw_topV (rowv (by first | assumption | omega)) ?_
                        refine pw_iload (pc2 := 292) dX10_test_290 rfl 0 rfl ?_
                        refine pw_aload_n (pc2 := 293) dX10_test_292 rfl rfl 2 rfl (by first | exact rf_ref _ | exact rf_opt _ | exact rf_nul) ?_
                        refine pw_iload (pc2 := 295) dX10_test_293 rfl 0 rfl ?_
                        refine pw_callV1 (pc2 := 298) (c_verIn G _ Hh (g := g') hgb' hi9r hCC hR.1) cs_X10_155 rfl rfl Hh.c60 dX10_test_295 rfl (by omega) rfl (by first | decide | simp [cat_rf, Value.category]) ?_
                        refine pw_iastN (pc2 := 299) r94 (i := i) (by first | assumption | omega) (by omega) dX10_test_298 rfl ?_
                        obtain ⟨Kd, FKd⟩ := KH.wIF (FKH) (t := 94) (i := p) (f := (upd R1 i (vG σ (g' i)))) hp6 (by decide) (iv_setI KH.iv (by decide)) rfl
                        obtain ⟨h1d, eh1d⟩ : ∃ z : Nat → Option hE, z = va_up hh (A 94 p) (some (aI 6 (upd R1 i (vG σ (g' i))))) := ⟨_, rfl⟩
                        refine PW.heap (h' := h1d) eh1d.symm ?_
                        replace Kd : WM G h1d A (setI (setI (setI (setI (mT7 σ p o C (cstN σ.1 (nI p) (nts σ)) X 0) 94 p R1) 95 p R2) 96 p R3) 94 p (upd R1 i (vG σ (g' i)))) := by rw [eh1d]; exact Kd
                        replace FKd : FM A h h1d := by rw [eh1d]; exact FKd
                        have k91pKd : h1d (A 91 p) = some (aI 6 (σ.1 91 p)) := (Kd.c91 hp6)
                        have k92pKd : h1d (A 92 p) = some (aI 6 (σ.1 92 p)) := (Kd.c92 hp6)
                        have k95pKd : h1d (A 95 p) = some (aI 6 R2) := (Kd.c95 hp6).trans (congrArg (fun w => some (aI 6 w)) (setI_s (σ := setI (mT7 σ p o C (cstN σ.1 (nI p) (nts σ)) X 0) 94 p R1) 95 p R2))
                        have k96pKd : h1d (A 96 p) = some (aI 6 R3) := (Kd.c96 hp6).trans (congrArg (fun w => some (aI 6 w)) (setI_s (σ := setI (setI (mT7 σ p o C (cstN σ.1 (nI p) (nts σ)) X 0) 94 p R1) 95 p R2) 96 p R3))
                        have c60Kdq : h1d (A 60 0) = some (oB 13 [.ref (A 61 0), .ref (A 62 0), .ref (A 63 0), .ref (A 64 0), .ref (A 65 0), .ref (A 66 0), .ref (A 67 0), .ref (A 68 0), .ref (A 69 0), .ref (A 70 0), .ref (A 71 0), .ref (A 72 0), .ref (A 73 0), .ref (A 74 0), .ref (A 75 0), .ref (A 76 0), .int (σ.1 60 0 0), .ref (A 77 0), .ref (A 78 0), .ref (A 79 0), .ref (A 80 0), .ref (A 81 0), .ref (A 82 0), .ref (A 83 0), .int (σ.1 60 0 1), .ref (A 84 0), .ref (A 85 0), .ref (A 86 0), .ref (A 87 0), .ref (A 88 0), .int (σ.1 60 0 2), .int (σ.1 60 0 3), .ref (A 89 0), .int (σ.1 60 0 4), .int (σ.1 60 0 5 + 1), .int (σ.1 60 0 6 + (cstN σ.1 (nI p) (nts σ))), .ref (A 90 0), .int 0]) := Kd.c60
                        refine pw_aload_n (pc2 := 300) dX10_test_299 rfl rfl 2 rfl (by first | exact rf_ref _ | exact rf_opt _ | exact rf_nul) ?_
                        refine pw_get (pc2 := 303) kX10 (k := 14) (by decide) rfl fl_X10_55 c60Kdq rfl dX10_test_300 rfl ?_
                        refine pw_iload_n (pc2 := 304) dX10_test_303 rfl rfl 3 rfl ?_
                        refine pw_aaldN (pc2 := 305) 6 rfl rfl Kd.c75 (i := p) (by first | assumption | omega) (by omega) dX10_test_304 rfl ?_
                        refine pw_topV (rowv (by first | assumption | omega)) ?_
                        refine pw_iload (pc2 := 307) dX10_test_305 rfl 0 rfl ?_
                        refine pw_aload_n (pc2 := 308) dX10_test_307 rfl rfl 2 rfl (by first | exact rf_ref _ | exact rf_opt _ | exact rf_nul) ?_
                        refine pw_get (pc2 := 311) kX10 (k := 3) (by decide) rfl fl_X10_21 c60Kdq rfl dX10_test_308 rfl ?_
                        refine pw_iload_n (pc2 := 312) dX10_test_311 rfl rfl 3 rfl ?_
                        refine pw_aaldN (pc2 := 313) 6 rfl rfl Kd.c64 (i := p) (by first | assumption | omega) (by omega) dX10_test_312 rfl ?_
                        refine pw_topV (rowv (by first | assumption | omega)) ?_
                        refine pw_iload (pc2 := 315) dX10_test_313 rfl 0 rfl ?_
                        refine pw_ialdN (pc2 := 316) k91pKd (i := i) (by first | assumption | omega) (by omega) dX10_test_315 rfl ?_
                        refine pw_iastN (pc2 := 317) k95pKd (i := i) (by first | assumption | omega) (by omega) dX10_test_316 rfl ?_
                        obtain ⟨Ke, FKe⟩ := Kd.wIF (FKd) (t := 95) (i := p) (f := (upd R2 i ((σ.1 91 p) i))) hp6 (by decide) (iv_setI Kd.iv (by decide)) rfl
                        obtain ⟨h1e, eh1e⟩ : ∃ z : Nat → Option hE, z = va_up h1d (A 95 p) (some (aI 6 (upd R2 i ((σ.1 91 p) i)))) := ⟨_, rfl⟩
                        refine PW.heap (h' := h1e) eh1e.symm ?_
                        replace Ke : WM G h1e A (setI (setI (setI (setI (setI (mT7 σ p o C (cstN σ.1 (nI p) (nts σ)) X 0) 94 p R1) 95 p R2) 96 p R3) 94 p (upd R1 i (vG σ (g' i)))) 95 p (upd R2 i ((σ.1 91 p) i))) := by rw [eh1e]; exact Ke
                        replace FKe : FM A h h1e := by rw [eh1e]; exact FKe
                        have k91pKe : h1e (A 91 p) = some (aI 6 (σ.1 91 p)) := (Ke.c91 hp6)
                        have k92pKe : h1e (A 92 p) = some (aI 6 (σ.1 92 p)) := (Ke.c92 hp6)
                        have k95pKe : h1e (A 95 p) = some (aI 6 (upd R2 i ((σ.1 91 p) i))) := (Ke.c95 hp6).trans (congrArg (fun w => some (aI 6 w)) (show (setI (setI (setI (setI (setI (mT7 σ p o C (cstN σ.1 (nI p) (nts σ)) X 0) 94 p R1) 95 p R2) 96 p R3) 94 p (upd R1 i (vG σ (g' i)))) 95 p (upd R2 i ((σ.1 91 p) i))).1 95 p = (upd R2 i ((σ.1 91 p) i)) from setI_s _ _ _))
                        have k96pKe : h1e (A 96 p) = some (aI 6 R3) := (Ke.c96 hp6).trans (congrArg (fun w => some (aI 6 w)) (setI_s (σ := setI (setI (mT7 σ p o C (cstN σ.1 (nI p) (nts σ)) X 0) 94 p R1) 95 p R2) 96 p R3))
                        have c60Keq : h1e (A 60 0) = some (oB 13 [.ref (A 61 0), .ref (A 62 0), .ref (A 63 0), .ref (A 64 0), .ref (A 65 0), .ref (A 66 0), .ref (A 67 0), .ref (A 68 0), .ref (A 69 0), .ref (A 70 0), .ref (A 71 0), .ref (A 72 0), .ref (A 73 0), .ref (A 74 0), .ref (A 75 0), .ref (A 76 0), .int (σ.1 60 0 0), .ref (A 77 0), .ref (A 78 0), .ref (A 79 0), .ref (A 80 0), .ref (A 81 0), .ref (A 82 0), .ref (A 83 0), .int (σ.1 60 0 1), .ref (A 84 0), .ref (A 85 0), .ref (A 86 0), .ref (A 87 0), .ref (A 88 0), .int (σ.1 60 0 2), .int (σ.1 60 0 3), .ref (A 89 0), .int (σ.1 60 0 4), .int (σ.1 60 0 5 + 1), .int (σ.1 60 0 6 + (cstN σ.1 (nI p) (nts σ))), .ref (A 90 0), .int 0]) := Ke.c60
                        refine pw_aload_n (pc2 := 318) dX10_test_317 rfl rfl 2 rfl (by first | exact rf_ref _ | exact rf_opt _ | exact rf_nul) ?_
                        refine pw_get (pc2 := 321) kX10 (k := 15) (by decide) rfl fl_X10_58 c60Keq rfl dX10_test_318 rfl ?_
                        refine pw_iload_n (pc2 := 322) dX10_test_321 rfl rfl 3 rfl ?_
                        refine pw_aaldN (pc2 := 323) 6 rfl rfl Ke.c76 (i := p) (by first | assumption | omega) (by omega) dX10_test_322 rfl ?_
                        refine pw_topV (rowv (by first | assumption | omega)) ?_
                        refine pw_iload (pc2 := 325) dX10_test_323 rfl 0 rfl ?_
                        refine pw_aload_n (pc2 := 326) dX10_test_325 rfl rfl 2 rfl (by first | exact rf_ref _ | exact rf_opt _ | exact rf_nul) ?_
                        refine pw_get (pc2 := 329) kX10 (k := 4) (by decide) rfl fl_X10_24 c60Keq rfl dX10_test_326 rfl ?_
                        refine pw_iload_n (pc2 := 330) dX10_test_329 rfl rfl 3 rfl ?_
                        refine pw_aaldN (pc2 := 331) 6 rfl rfl Ke.c65 (i := p) (by first | assumption | omega) (by omega) dX10_test_330 rfl ?_
                        refine pw_topV (rowv (by first | assumption | omega)) ?_
                        refine pw_iload (pc2 := 333) dX10_test_331 rfl 0 rfl ?_
                        refine pw_ialdN (pc2 := 334) k92pKe (i := i) (by first | assumption | omega) (by omega) dX10_test_333 rfl ?_
                        refine pw_iastN (pc2 := 335) k96pKe (i := i) (by first | assumption | omega) (by omega) dX10_test_334 rfl ?_
                        obtain ⟨Kf, FKf⟩ := Ke.wIF (FKe) (t := 96) (i := p) (f := (upd R3 i ((σ.1 92 p) i))) hp6 (by decide) (iv_setI Ke.iv (by decide)) rfl
                        obtain ⟨h1f, eh1f⟩ : ∃ z : Nat → Option hE, z = va_up h1e (A 96 p) (some (aI 6 (upd R3 i ((σ.1 92 p) i)))) := ⟨_, rfl⟩
                        refine PW.heap (h' := h1f) eh1f.symm ?_
                        replace Kf : WM G h1f A (setI (setI (setI (setI (setI (setI (mT7 σ p o C (cstN σ.1 (nI p) (nts σ)) X 0) 94 p R1) 95 p R2) 96 p R3) 94 p (upd R1 i (vG σ (g' i)))) 95 p (upd R2 i ((σ.1 91 p) i))) 96 p (upd R3 i ((σ.1 92 p) i))) := by rw [eh1f]; exact Kf
                        replace FKf : FM A h h1f := by rw [eh1f]; exact FKf
                        have k91pKf : h1f (A 91 p) = some (aI 6 (σ.1 91 p)) := (Kf.c91 hp6)
                        have k92pKf : h1f (A 92 p) = some (aI 6 (σ.1 92 p)) := (Kf.c92 hp6)
                        have k95pKf : h1f (A 95 p) = some (aI 6 (upd R2 i ((σ.1 91 p) i))) := (Kf.c95 hp6).trans (congrArg (fun w => some (aI 6 w)) (show (setI (setI (setI (setI (setI (mT7 σ p o C (cstN σ.1 (nI p) (nts σ)) X 0) 94 p R1) 95 p R2) 96 p R3) 94 p (upd R1 i (vG σ (g' i)))) 95 p (upd R2 i ((σ.1 91 p) i))).1 95 p = (upd R2 i ((σ.1 91 p) i)) from setI_s _ _ _))
                        have k96pKf : h1f (A 96 p) = some (aI 6 (upd R3 i ((σ.1 92 p) i))) := (Kf.c96 hp6).trans (congrArg (fun w => some (aI 6 w)) (show (setI (setI (setI (setI (setI (setI (mT7 σ p o C (cstN σ.1 (nI p) (nts σ)) X 0) 94 p R1) 95 p R2) 96 p R3) 94 p (upd R1 i (vG σ (g' i)))) 95 p (upd R2 i ((σ.1 91 p) i))) 96 p (upd R3 i ((σ.1 92 p) i))).1 96 p = (upd R3 i ((σ.1 92 p) i)) from setI_s _ _ _))
                        have c60Kfq : h1f (A 60 0) = some (oB 13 [.ref (A 61 0), .ref (A 62 0), .ref (A 63 0), .ref (A 64 0), .ref (A 65 0), .ref (A 66 0), .ref (A 67 0), .ref (A 68 0), .ref (A 69 0), .ref (A 70 0), .ref (A 71 0), .ref (A 72 0), .ref (A 73 0), .ref (A 74 0), .ref (A 75 0), .ref (A 76 0), .int (σ.1 60 0 0), .ref (A 77 0), .ref (A 78 0), .ref (A 79 0), .ref (A 80 0), .ref (A 81 0), .ref (A 82 0), .ref (A 83 0), .int (σ.1 60 0 1), .ref (A 84 0), .ref (A 85 0), .ref (A 86 0), .ref (A 87 0), .ref (A 88 0), .int (σ.1 60 0 2), .int (σ.1 60 0 3), .ref (A 89 0), .int (σ.1 60 0 4), .int (σ.1 60 0 5 + 1), .int (σ.1 60 0 6 + (cstN σ.1 (nI p) (nts σ))), .ref (A 90 0), .int 0]) := Kf.c60
                        refine pw_iinc (pc2 := 338) (v := nI (i + 1)) (L2 := [(6, Value.int (nI (i + 1))), (5, Value.int (flnN σ.1 (nI p) (nts σ))), (0, Value.ref (A 60 0)), (1, Value.int (nI p))]) dX10_test_335 rfl 0 rfl (by show nI _ + 1 = nI _; exact nI_1 _) (by decide) rfl ?_
                        refine pw_goto (tgt := 277) dX10_test_338 (by decide) ?_
                        refine PW.sub (L2 := [(6, Value.int (nI (i + 1))), (5, Value.int (flnN σ.1 (nI p) (nts σ))), (0, Value.ref (A 60 0)), (1, Value.int (nI p))]) [0, 1, 2, 3] rfl ?_
                        refine ih3 (i + 1) h1f (upd R1 i (vG σ (g' i))) (upd R2 i (σ.1 91 p i)) (upd R3 i (σ.1 92 p i)) (by rw [← set3 (f := R1) (g := R2) (k := R3)]; exact Kf) FKf (fun j hj => ?_) (by omega)
                        by_cases ej : j = i
                        · subst ej; rw [upd_s, upd_s, upd_s]; exact ⟨rfl, rfl, rfl⟩
                        · exact ⟨(if_neg ej).trans (hRR j (by omega)).1, (if_neg ej).trans (hRR j (by omega)).2.1, (if_neg ej).trans (hRR j (by omega)).2.2⟩
                    refine PW.sub (L2 := [(6, Value.int 0), (5, Value.int (flnN σ.1 (nI p) (nts σ))), (0, Value.ref (A 60 0)), (1, Value.int (nI p))]) [0, 1, 2, 3] rfl ?_
                    refine loop3 6 0 h1c (σ.1 94 p) (σ.1 95 p) (σ.1 96 p) ?_ FK8 (fun j hj => absurd hj (Nat.not_lt_zero j)) (by omega)
                    have e94 : setI (mT7 σ p o C (cstN σ.1 (nI p) (nts σ)) X 0) 94 p (σ.1 94 p) = mT7 σ p o C (cstN σ.1 (nI p) (nts σ)) X 0 := setI_id rfl
                    have e95 : setI (mT7 σ p o C (cstN σ.1 (nI p) (nts σ)) X 0) 95 p (σ.1 95 p) = mT7 σ p o C (cstN σ.1 (nI p) (nts σ)) X 0 := setI_id rfl
                    have e96 : setI (mT7 σ p o C (cstN σ.1 (nI p) (nts σ)) X 0) 96 p (σ.1 96 p) = mT7 σ p o C (cstN σ.1 (nI p) (nts σ)) X 0 := setI_id rfl
                    rw [e94, e95, e96]
                    exact K8
                  · refine pw_iconst (pc2 := 245) (v := 1) dX10_test_244 rfl (by decide) ?_
                    refine pw_goto (tgt := 249) dX10_test_245 (by decide) ?_
                    refine pw_zastN (pc2 := 250) Hr.c71 (i := p) (by first | assumption | omega) (by omega) (by decide) dX10_test_249 rfl ?_
                    obtain ⟨K6, FK6⟩ := KR.wIF (FKR) (t := 71) (i := 0) (f := (upd (σ.1 71 0) p 1)) rfl (by decide) (iv_setI KR.iv (by decide)) rfl
                    obtain ⟨h1a, eh1a⟩ : ∃ z : Nat → Option hE, z = va_up hr (A 71 0) (some (aZ 6 (upd (σ.1 71 0) p 1))) := ⟨_, rfl⟩
                    refine PW.heap (h' := h1a) eh1a.symm ?_
                    replace K6 : WM G h1a A (setI (rcS (mT5 σ o C (cstN σ.1 (nI p) (nts σ))) X) 71 0 (upd (σ.1 71 0) p 1)) := by rw [eh1a]; exact K6
                    replace FK6 : FM A h h1a := by rw [eh1a]; exact FK6
                    have k710K6 : h1a (A 71 0) = some (aZ 6 (upd (σ.1 71 0) p 1)) := K6.c71.trans (congrArg (fun w => some (aZ 6 w)) (show (setI (rcS (mT5 σ o C (cstN σ.1 (nI p) (nts σ))) X) 71 0 (upd (σ.1 71 0) p 1)).1 71 0 = (upd (σ.1 71 0) p 1) from setI_s _ _ _))
                    have k730K6 : h1a (A 73 0) = some (aI 6 (σ.1 73 0)) := K6.c73
                    have k620K6 : h1a (A 62 0) = some (aI 6 (σ.1 62 0)) := K6.c62
                    have k740K6 : h1a (A 74 0) = some (aI 6 (σ.1 74 0)) := K6.c74
                    have k630K6 : h1a (A 63 0) = some (aI 6 (σ.1 63 0)) := K6.c63
                    have k91pK6 : h1a (A 91 p) = some (aI 6 (σ.1 91 p)) := (K6.c91 hp6)
                    have k92pK6 : h1a (A 92 p) = some (aI 6 (σ.1 92 p)) := (K6.c92 hp6)
                    have k94pK6 : h1a (A 94 p) = some (aI 6 (σ.1 94 p)) := (K6.c94 hp6)
                    have k95pK6 : h1a (A 95 p) = some (aI 6 (σ.1 95 p)) := (K6.c95 hp6)
                    have k96pK6 : h1a (A 96 p) = some (aI 6 (σ.1 96 p)) := (K6.c96 hp6)
                    have c60K6q : h1a (A 60 0) = some (oB 13 [.ref (A 61 0), .ref (A 62 0), .ref (A 63 0), .ref (A 64 0), .ref (A 65 0), .ref (A 66 0), .ref (A 67 0), .ref (A 68 0), .ref (A 69 0), .ref (A 70 0), .ref (A 71 0), .ref (A 72 0), .ref (A 73 0), .ref (A 74 0), .ref (A 75 0), .ref (A 76 0), .int (σ.1 60 0 0), .ref (A 77 0), .ref (A 78 0), .ref (A 79 0), .ref (A 80 0), .ref (A 81 0), .ref (A 82 0), .ref (A 83 0), .int (σ.1 60 0 1), .ref (A 84 0), .ref (A 85 0), .ref (A 86 0), .ref (A 87 0), .ref (A 88 0), .int (σ.1 60 0 2), .int (σ.1 60 0 3), .ref (A 89 0), .int (σ.1 60 0 4), .int (σ.1 60 0 5 + 1), .int (σ.1 60 0 6 + (cstN σ.1 (nI p) (nts σ))), .ref (A 90 0), .int 0]) := K6.c60
                    refine pw_aload_n (pc2 := 251) dX10_test_250 rfl rfl 2 rfl (by first | exact rf_ref _ | exact rf_opt _ | exact rf_nul) ?_
                    refine pw_get (pc2 := 254) kX10 (k := 12) (by decide) rfl fl_X10_49 c60K6q rfl dX10_test_251 rfl ?_
                    refine pw_iload_n (pc2 := 255) dX10_test_254 rfl rfl 3 rfl ?_
                    refine pw_aload_n (pc2 := 256) dX10_test_255 rfl rfl 2 rfl (by first | exact rf_ref _ | exact rf_opt _ | exact rf_nul) ?_
                    refine pw_get (pc2 := 259) kX10 (k := 1) (by decide) rfl fl_X10_13 c60K6q rfl dX10_test_256 rfl ?_
                    refine pw_iload_n (pc2 := 260) dX10_test_259 rfl rfl 3 rfl ?_
                    refine pw_ialdN (pc2 := 261) k620K6 (i := p) (by first | assumption | omega) (by omega) dX10_test_260 rfl ?_
                    refine pw_iastN (pc2 := 262) k730K6 (i := p) (by first | assumption | omega) (by omega) dX10_test_261 rfl ?_
                    obtain ⟨K7, FK7⟩ := K6.wIF (FK6) (t := 73) (i := 0) (f := (upd (σ.1 73 0) p ((σ.1 62 0) p))) rfl (by decide) (iv_setI K6.iv (by decide)) rfl
                    obtain ⟨h1b, eh1b⟩ : ∃ z : Nat → Option hE, z = va_up h1a (A 73 0) (some (aI 6 (upd (σ.1 73 0) p ((σ.1 62 0) p)))) := ⟨_, rfl⟩
                    refine PW.heap (h' := h1b) eh1b.symm ?_
                    replace K7 : WM G h1b A (setI (setI (rcS (mT5 σ o C (cstN σ.1 (nI p) (nts σ))) X) 71 0 (upd (σ.1 71 0) p 1)) 73 0 (upd (σ.1 73 0) p ((σ.1 62 0) p))) := by rw [eh1b]; exact K7
                    replace FK7 : FM A h h1b := by rw [eh1b]; exact FK7
                    have k710K7 : h1b (A 71 0) = some (aZ 6 (upd (σ.1 71 0) p 1)) := K7.c71.trans (congrArg (fun w => some (aZ 6 w)) (show (setI (rcS (mT5 σ o C (cstN σ.1 (nI p) (nts σ))) X) 71 0 (upd (σ.1 71 0) p 1)).1 71 0 = (upd (σ.1 71 0) p 1) from setI_s _ _ _))
                    have k730K7 : h1b (A 73 0) = some (aI 6 (upd (σ.1 73 0) p ((σ.1 62 0) p))) := K7.c73.trans (congrArg (fun w => some (aI 6 w)) (show (setI (setI (rcS (mT5 σ o C (cstN σ.1 (nI p) (nts σ))) X) 71 0 (upd (σ.1 71 0) p 1)) 73 0 (upd (σ.1 73 0) p ((σ.1 62 0) p))).1 73 0 = (upd (σ.1 73 0) p ((σ.1 62 0) p)) from setI_s _ _ _))
                    have k620K7 : h1b (A 62 0) = some (aI 6 (σ.1 62 0)) := K7.c62
                    have k740K7 : h1b (A 74 0) = some (aI 6 (σ.1 74 0)) := K7.c74
                    have k630K7 : h1b (A 63 0) = some (aI 6 (σ.1 63 0)) := K7.c63
                    have k91pK7 : h1b (A 91 p) = some (aI 6 (σ.1 91 p)) := (K7.c91 hp6)
                    have k92pK7 : h1b (A 92 p) = some (aI 6 (σ.1 92 p)) := (K7.c92 hp6)
                    have k94pK7 : h1b (A 94 p) = some (aI 6 (σ.1 94 p)) := (K7.c94 hp6)
                    have k95pK7 : h1b (A 95 p) = some (aI 6 (σ.1 95 p)) := (K7.c95 hp6)
                    have k96pK7 : h1b (A 96 p) = some (aI 6 (σ.1 96 p)) := (K7.c96 hp6)
                    have c60K7q : h1b (A 60 0) = some (oB 13 [.ref (A 61 0), .ref (A 62 0), .ref (A 63 0), .ref (A 64 0), .ref (A 65 0), .ref (A 66 0), .ref (A 67 0), .ref (A 68 0), .ref (A 69 0), .ref (A 70 0), .ref (A 71 0), .ref (A 72 0), .ref (A 73 0), .ref (A 74 0), .ref (A 75 0), .ref (A 76 0), .int (σ.1 60 0 0), .ref (A 77 0), .ref (A 78 0), .ref (A 79 0), .ref (A 80 0), .ref (A 81 0), .ref (A 82 0), .ref (A 83 0), .int (σ.1 60 0 1), .ref (A 84 0), .ref (A 85 0), .ref (A 86 0), .ref (A 87 0), .ref (A 88 0), .int (σ.1 60 0 2), .int (σ.1 60 0 3), .ref (A 89 0), .int (σ.1 60 0 4), .int (σ.1 60 0 5 + 1), .int (σ.1 60 0 6 + (cstN σ.1 (nI p) (nts σ))), .ref (A 90 0), .int 0]) := K7.c60
                    refine pw_aload_n (pc2 := 263) dX10_test_262 rfl rfl 2 rfl (by first | exact rf_ref _ | exact rf_opt _ | exact rf_nul) ?_
                    refine pw_get (pc2 := 266) kX10 (k := 13) (by decide) rfl fl_X10_52 c60K7q rfl dX10_test_263 rfl ?_
                    refine pw_iload_n (pc2 := 267) dX10_test_266 rfl rfl 3 rfl ?_
                    refine pw_aload_n (pc2 := 268) dX10_test_267 rfl rfl 2 rfl (by first | exact rf_ref _ | exact rf_opt _ | exact rf_nul) ?_
                    refine pw_get (pc2 := 271) kX10 (k := 2) (by decide) rfl fl_X10_16 c60K7q rfl dX10_test_268 rfl ?_
                    refine pw_iload_n (pc2 := 272) dX10_test_271 rfl rfl 3 rfl ?_
                    refine pw_ialdN (pc2 := 273) k630K7 (i := p) (by first | assumption | omega) (by omega) dX10_test_272 rfl ?_
                    refine pw_iastN (pc2 := 274) k740K7 (i := p) (by first | assumption | omega) (by omega) dX10_test_273 rfl ?_
                    obtain ⟨K8, FK8⟩ := K7.wIF (FK7) (t := 74) (i := 0) (f := (upd (σ.1 74 0) p ((σ.1 63 0) p))) rfl (by decide) (iv_setI K7.iv (by decide)) rfl
                    obtain ⟨h1c, eh1c⟩ : ∃ z : Nat → Option hE, z = va_up h1b (A 74 0) (some (aI 6 (upd (σ.1 74 0) p ((σ.1 63 0) p)))) := ⟨_, rfl⟩
                    refine PW.heap (h' := h1c) eh1c.symm ?_
                    replace K8 : WM G h1c A (setI (setI (setI (rcS (mT5 σ o C (cstN σ.1 (nI p) (nts σ))) X) 71 0 (upd (σ.1 71 0) p 1)) 73 0 (upd (σ.1 73 0) p ((σ.1 62 0) p))) 74 0 (upd (σ.1 74 0) p ((σ.1 63 0) p))) := by rw [eh1c]; exact K8
                    replace FK8 : FM A h h1c := by rw [eh1c]; exact FK8
                    have k710K8 : h1c (A 71 0) = some (aZ 6 (upd (σ.1 71 0) p 1)) := K8.c71.trans (congrArg (fun w => some (aZ 6 w)) (show (setI (rcS (mT5 σ o C (cstN σ.1 (nI p) (nts σ))) X) 71 0 (upd (σ.1 71 0) p 1)).1 71 0 = (upd (σ.1 71 0) p 1) from setI_s _ _ _))
                    have k730K8 : h1c (A 73 0) = some (aI 6 (upd (σ.1 73 0) p ((σ.1 62 0) p))) := K8.c73.trans (congrArg (fun w => some (aI 6 w)) (show (setI (setI (rcS (mT5 σ o C (cstN σ.1 (nI p) (nts σ))) X) 71 0 (upd (σ.1 71 0) p 1)) 73 0 (upd (σ.1 73 0) p ((σ.1 62 0) p))).1 73 0 = (upd (σ.1 73 0) p ((σ.1 62 0) p)) from setI_s _ _ _))
                    have k620K8 : h1c (A 62 0) = some (aI 6 (σ.1 62 0)) := K8.c62
                    have k740K8 : h1c (A 74 0) = some (aI 6 (upd (σ.1 74 0) p ((σ.1 63 0) p))) := K8.c74.trans (congrArg (fun w => some (aI 6 w)) (show (setI (setI (setI (rcS (mT5 σ o C (cstN σ.1 (nI p) (nts σ))) X) 71 0 (upd (σ.1 71 0) p 1)) 73 0 (upd (σ.1 73 0) p ((σ.1 62 0) p))) 74 0 (upd (σ.1 74 0) p ((σ.1 63 0) p))).1 74 0 = (upd (σ.1 74 0) p ((σ.1 63 0) p)) from setI_s _ _ _))
                    have k630K8 : h1c (A 63 0) = some (aI 6 (σ.1 63 0)) := K8.c63
                    have k91pK8 : h1c (A 91 p) = some (aI 6 (σ.1 91 p)) := (K8.c91 hp6)
                    have k92pK8 : h1c (A 92 p) = some (aI 6 (σ.1 92 p)) := (K8.c92 hp6)
                    have k94pK8 : h1c (A 94 p) = some (aI 6 (σ.1 94 p)) := (K8.c94 hp6)
                    have k95pK8 : h1c (A 95 p) = some (aI 6 (σ.1 95 p)) := (K8.c95 hp6)
                    have k96pK8 : h1c (A 96 p) = some (aI 6 (σ.1 96 p)) := (K8.c96 hp6)
                    have c60K8q : h1c (A 60 0) = some (oB 13 [.ref (A 61 0), .ref (A 62 0), .ref (A 63 0), .ref (A 64 0), .ref (A 65 0), .ref (A 66 0), .ref (A 67 0), .ref (A 68 0), .ref (A 69 0), .ref (A 70 0), .ref (A 71 0), .ref (A 72 0), .ref (A 73 0), .ref (A 74 0), .ref (A 75 0), .ref (A 76 0), .int (σ.1 60 0 0), .ref (A 77 0), .ref (A 78 0), .ref (A 79 0), .ref (A 80 0), .ref (A 81 0), .ref (A 82 0), .ref (A 83 0), .int (σ.1 60 0 1), .ref (A 84 0), .ref (A 85 0), .ref (A 86 0), .ref (A 87 0), .ref (A 88 0), .int (σ.1 60 0 2), .int (σ.1 60 0 3), .ref (A 89 0), .int (σ.1 60 0 4), .int (σ.1 60 0 5 + 1), .int (σ.1 60 0 6 + (cstN σ.1 (nI p) (nts σ))), .ref (A 90 0), .int 0]) := K8.c60
                    refine pw_iconst (pc2 := 275) (v := 0) dX10_test_274 rfl (by decide) ?_
                    refine pw_istore (pc2 := 277) (L2 := [(6, Value.int 0), (5, Value.int (flnN σ.1 (nI p) (nts σ))), (0, Value.ref (A 60 0)), (1, Value.int (nI p))]) dX10_test_275 rfl (by decide) rfl ?_
                    replace K8 : WM G h1c A (mT7 σ p o C (cstN σ.1 (nI p) (nts σ)) X 1) := K8
                    have loop3 : ∀ (k i : Nat) (hh : hp) (R1 R2 R3 : Nat → Int32) (Hh : WM G hh A (setI (setI (setI (mT7 σ p o C (cstN σ.1 (nI p) (nts σ)) X 1) 94 p R1) 95 p R2) 96 p R3)) (Fh : FM A h hh) (hRR : ∀ j, j < i → R1 j = vG σ (g' j) ∧ R2 j = σ.1 91 p j ∧ R3 j = σ.1 92 p j), i + k = 6 → PW G MX10_test d noA (E0 G (fun r h2 => (¬ inR (nI p) (npk σ) ∧ QSM G h A (.int 0) (thS σ 1) r h2) ∨ (∃ p9, p9 < npk σ ∧ (nI p) = nI p9 ∧ ((srS σ p9 = none ∧ ∃ C, QSM G h A (.int 0) (thS (setI (thS σ 0) 90 0 C) 2) r h2) ∨ (∃ g' C o, srS σ p9 = some g' ∧ pkB σ g' ∧ o < 3 ∧ σ.1 61 0 p9 = nI o ∧ (((¬ bOk σ p9 g' ∨ σ.1 89 0 o < (cstN σ.1 (nI p9) (nts σ))) ∧ QSM G h A (.int 0) (thS (setI (thS σ 0) 90 0 C) 3) r h2) ∨ (bOk σ p9 g' ∧ ¬ σ.1 89 0 o < (cstN σ.1 (nI p9) (nts σ)) ∧ ∃ X R1 R2 R3, RCI σ (nI p9) (nts σ) X ∧ (∀ j, j < 6 → R1 j = vG σ (g' j) ∧ R2 j = σ.1 91 p9 j ∧ R3 j = σ.1 92 p9 j) ∧ QSM G h A (.int (flnN σ.1 (nI p9) (nts σ))) (mTE σ p9 o C (cstN σ.1 (nI p9) (nts σ)) X (if (flnN σ.1 (nI p9) (nts σ)) = 0 then 1 else 0) R1 R2 R3) r h2)))))) noX) 0 0 277 [(6, Value.int (nI i)), (5, Value.int (flnN σ.1 (nI p) (nts σ))), (0, Value.ref (A 60 0)), (1, Value.int (nI p))] [] hh := by
                      intro k
                      induction k with
                      | zero =>
                        intro i hh R1 R2 R3 Hh Fh hRR hik
                        have hi9r : i = 6 := by omega
                        refine pw_iload (pc2 := 279) dX10_test_277 rfl 0 rfl ?_
                        refine pw_bipush (pc2 := 281) (v := 6) dX10_test_279 rfl (by decide) ?_
                        refine pw_icmp_ge (tgt := 341) (pc2 := 284) dX10_test_281 (by decide) rfl (fun _ => ?_) (fun c281 => by exact absurd (by first | (rw [hi9r]; exact Int32.le_refl _) | exact fun q => absurd ((l6 (by omega)).mp q) (by omega)) c281)
                        refine pw_iload (pc2 := 343) dX10_test_341 rfl 1 rfl ?_
                        refine pw_iret dX10_test_343 rfl (by first | rfl | assumption | simp [narrow]) ?_
                        subst hi9r
                        exact Or.inr ⟨p, hpp, rfl, Or.inr ⟨g', C, o, hs, hgb', ho3, h61, Or.inr ⟨Classical.not_not.mp q22, Int32.not_lt.mpr c142, X, R1, R2, R3, hX, hRR, rfl, by first | (rw [if_pos c241]; exact Hh) | (rw [if_neg c241]; exact Hh), Fh⟩⟩⟩
                      | succ k ih3 =>
                        intro i hh R1 R2 R3 Hh Fh hRR hik
                        have hi9r : i < 6 := by omega
                        have r94 : hh (A 94 p) = some (aI 6 R1) := (Hh.c94 hp6).trans (congrArg (fun w => some (aI 6 w)) (setI_s (σ := (mT7 σ p o C (cstN σ.1 (nI p) (nts σ)) X 1)) 94 p R1))
                        have r95 : hh (A 95 p) = some (aI 6 R2) := (Hh.c95 hp6).trans (congrArg (fun w => some (aI 6 w)) (setI_s (σ := setI (mT7 σ p o C (cstN σ.1 (nI p) (nts σ)) X 1) 94 p R1) 95 p R2))
                        have r96 : hh (A 96 p) = some (aI 6 R3) := (Hh.c96 hp6).trans (congrArg (fun w => some (aI 6 w)) (setI_s (σ := setI (setI (mT7 σ p o C (cstN σ.1 (nI p) (nts σ)) X 1) 94 p R1) 95 p R2) 96 p R3))
                        have KH := Hh
                        have FKH := Fh
                        refine pw_iload (pc2 := 279) dX10_test_277 rfl 0 rfl ?_
                        refine pw_bipush (pc2 := 281) (v := 6) dX10_test_279 rfl (by decide) ?_
                        refine pw_icmp_ge (tgt := 341) (pc2 := 284) dX10_test_281 (by decide) rfl (fun c281 => by exact absurd c281 (by first | (rw [hi9r]; exact Int32.le_refl _) | exact fun q => absurd ((l6 (by omega)).mp q) (by omega))) (fun _ => ?_)
                        refine pw_aload_n (pc2 := 285) dX10_test_284 rfl rfl 2 rfl (by first | exact rf_ref _ | exact rf_opt _ | exact rf_nul) ?_
                        refine pw_get (pc2 := 288) kX10 (k := 11) (by decide) rfl fl_X10_46 Hh.c60 rfl dX10_test_285 rfl ?_
                        refine pw_iload_n (pc2 := 289) dX10_test_288 rfl rfl 3 rfl ?_
                        refine pw_aaldN (pc2 := 290) 6 rfl rfl Hh.c72 (i := p) (by first | assumption | omega) (by omega) dX10_test_289 rfl ?_
                        refine pw_topV (rowv (by first | assumption | omega)) ?_
                        refine pw_iload (pc2 := 292) dX10_test_290 rfl 0 rfl ?_
                        refine pw_aload_n (pc2 := 293) dX10_test_292 rfl rfl 2 rfl (by first | exact rf_ref _ | exact rf_opt _ | exact rf_nul) ?_
                        refine pw_iload (pc2 := 295) dX10_test_293 rfl 0 rfl ?_
                        refine pw_callV1 (pc2 := 298) (c_verIn G _ Hh (g := g') hgb' hi9r hCC hR.1) cs_X10_155 rfl rfl Hh.c60 dX10_test_295 rfl (by omega) rfl (by first | decide | simp [cat_rf, Value.category]) ?_
                        refine pw_iastN (pc2 := 299) r94 (i := i) (by first | assumption | omega) (by omega) dX10_test_298 rfl ?_
                        obtain ⟨Kd, FKd⟩ := KH.wIF (FKH) (t := 94) (i := p) (f := (upd R1 i (vG σ (g' i)))) hp6 (by decide) (iv_setI KH.iv (by decide)) rfl
                        obtain ⟨h1d, eh1d⟩ : ∃ z : Nat → Option hE, z = va_up hh (A 94 p) (some (aI 6 (upd R1 i (vG σ (g' i))))) := ⟨_, rfl⟩
                        refine PW.heap (h' := h1d) eh1d.symm ?_
                        replace Kd : WM G h1d A (setI (setI (setI (setI (mT7 σ p o C (cstN σ.1 (nI p) (nts σ)) X 1) 94 p R1) 95 p R2) 96 p R3) 94 p (upd R1 i (vG σ (g' i)))) := by rw [eh1d]; exact Kd
                        replace FKd : FM A h h1d := by rw [eh1d]; exact FKd
                        have k91pKd : h1d (A 91 p) = some (aI 6 (σ.1 91 p)) := (Kd.c91 hp6)
                        have k92pKd : h1d (A 92 p) = some (aI 6 (σ.1 92 p)) := (Kd.c92 hp6)
                        have k95pKd : h1d (A 95 p) = some (aI 6 R2) := (Kd.c95 hp6).trans (congrArg (fun w => some (aI 6 w)) (setI_s (σ := setI (mT7 σ p o C (cstN σ.1 (nI p) (nts σ)) X 1) 94 p R1) 95 p R2))
                        have k96pKd : h1d (A 96 p) = some (aI 6 R3) := (Kd.c96 hp6).trans (congrArg (fun w => some (aI 6 w)) (setI_s (σ := setI (setI (mT7 σ p o C (cstN σ.1 (nI p) (nts σ)) X 1) 94 p R1) 95 p R2) 96 p R3))
                        have c60Kdq : h1d (A 60 0) = some (oB 13 [.ref (A 61 0), .ref (A 62 0), .ref (A 63 0), .ref (A 64 0), .ref (A 65 0), .ref (A 66 0), .ref (A 67 0), .ref (A 68 0), .ref (A 69 0), .ref (A 70 0), .ref (A 71 0), .ref (A 72 0), .ref (A 73 0), .ref (A 74 0), .ref (A 75 0), .ref (A 76 0), .int (σ.1 60 0 0), .ref (A 77 0), .ref (A 78 0), .ref (A 79 0), .ref (A 80 0), .ref (A 81 0), .ref (A 82 0), .ref (A 83 0), .int (σ.1 60 0 1), .ref (A 84 0), .ref (A 85 0), .ref (A 86 0), .ref (A 87 0), .ref (A 88 0), .int (σ.1 60 0 2), .int (σ.1 60 0 3), .ref (A 89 0), .int (σ.1 60 0 4), .int (σ.1 60 0 5 + 1), .int (σ.1 60 0 6 + (cstN σ.1 (nI p) (nts σ))), .ref (A 90 0), .int 0]) := Kd.c60
                        refine pw_aload_n (pc2 := 300) dX10_test_299 rfl rfl 2 rfl (by first | exact rf_ref _ | exact rf_opt _ | exact rf_nul) ?_
                        refine pw_get (pc2 := 303) kX10 (k := 14) (by decide) rfl fl_X10_55 c60Kdq rfl dX10_test_300 rfl ?_
                        refine pw_iload_n (pc2 := 304) dX10_test_303 rfl rfl 3 rfl ?_
                        refine pw_aaldN (pc2 := 305) 6 rfl rfl Kd.c75 (i := p) (by first | assumption | omega) (by omega) dX10_test_304 rfl ?_
                        refine pw_topV (rowv (by first | assumption | omega)) ?_
                        refine pw_iload (pc2 := 307) dX10_test_305 rfl 0 rfl ?_
                        refine pw_aload_n (pc2 := 308) dX10_test_307 rfl rfl 2 rfl (by first | exact rf_ref _ | exact rf_opt _ | exact rf_nul) ?_
                        refine pw_get (pc2 := 311) kX10 (k := 3) (by decide) rfl fl_X10_21 c60Kdq rfl dX10_test_308 rfl ?_
                        refine pw_iload_n (pc2 := 312) dX10_test_311 rfl rfl 3 rfl ?_
                        refine pw_aaldN (pc2 := 313) 6 rfl rfl Kd.c64 (i := p) (by first | assumption | omega) (by omega) dX10_test_312 rfl ?_
                        refine pw_topV (rowv (by first | assumption | omega)) ?_
                        refine pw_iload (pc2 := 315) dX10_test_313 rfl 0 rfl ?_
                        refine pw_ialdN (pc2 := 316) k91pKd (i := i) (by first | assumption | omega) (by omega) dX10_test_315 rfl ?_
                        refine pw_iastN (pc2 := 317) k95pKd (i := i) (by first | assumption | omega) (by omega) dX10_test_316 rfl ?_
                        obtain ⟨Ke, FKe⟩ := Kd.wIF (FKd) (t := 95) (i := p) (f := (upd R2 i ((σ.1 91 p) i))) hp6 (by decide) (iv_setI Kd.iv (by decide)) rfl
                        obtain ⟨h1e, eh1e⟩ : ∃ z : Nat → Option hE, z = va_up h1d (A 95 p) (some (aI 6 (upd R2 i ((σ.1 91 p) i)))) := ⟨_, rfl⟩
                        refine PW.heap (h' := h1e) eh1e.symm ?_
                        replace Ke : WM G h1e A (setI (setI (setI (setI (setI (mT7 σ p o C (cstN σ.1 (nI p) (nts σ)) X 1) 94 p R1) 95 p R2) 96 p R3) 94 p (upd R1 i (vG σ (g' i)))) 95 p (upd R2 i ((σ.1 91 p) i))) := by rw [eh1e]; exact Ke
                        replace FKe : FM A h h1e := by rw [eh1e]; exact FKe
                        have k91pKe : h1e (A 91 p) = some (aI 6 (σ.1 91 p)) := (Ke.c91 hp6)
                        have k92pKe : h1e (A 92 p) = some (aI 6 (σ.1 92 p)) := (Ke.c92 hp6)
                        have k95pKe : h1e (A 95 p) = some (aI 6 (upd R2 i ((σ.1 91 p) i))) := (Ke.c95 hp6).trans (congrArg (fun w => some (aI 6 w)) (show (setI (setI (setI (setI (setI (mT7 σ p o C (cstN σ.1 (nI p) (nts σ)) X 1) 94 p R1) 95 p R2) 96 p R3) 94 p (upd R1 i (vG σ (g' i)))) 95 p (upd R2 i ((σ.1 91 p) i))).1 95 p = (upd R2 i ((σ.1 91 p) i)) from setI_s _ _ _))
                        have k96pKe : h1e (A 96 p) = some (aI 6 R3) := (Ke.c96 hp6).trans (congrArg (fun w => some (aI 6 w)) (setI_s (σ := setI (setI (mT7 σ p o C (cstN σ.1 (nI p) (nts σ)) X 1) 94 p R1) 95 p R2) 96 p R3))
                        have c60Keq : h1e (A 60 0) = some (oB 13 [.ref (A 61 0), .ref (A 62 0), .ref (A 63 0), .ref (A 64 0), .ref (A 65 0), .ref (A 66 0), .ref (A 67 0), .ref (A 68 0), .ref (A 69 0), .ref (A 70 0), .ref (A 71 0), .ref (A 72 0), .ref (A 73 0), .ref (A 74 0), .ref (A 75 0), .ref (A 76 0), .int (σ.1 60 0 0), .ref (A 77 0), .ref (A 78 0), .ref (A 79 0), .ref (A 80 0), .ref (A 81 0), .ref (A 82 0), .ref (A 83 0), .int (σ.1 60 0 1), .ref (A 84 0), .ref (A 85 0), .ref (A 86 0), .ref (A 87 0), .ref (A 88 0), .int (σ.1 60 0 2), .int (σ.1 60 0 3), .ref (A 89 0), .int (σ.1 60 0 4), .int (σ.1 60 0 5 + 1), .int (σ.1 60 0 6 + (cstN σ.1 (nI p) (nts σ))), .ref (A 90 0), .int 0]) := Ke.c60
                        refine pw_aload_n (pc2 := 318) dX10_test_317 rfl rfl 2 rfl (by first | exact rf_ref _ | exact rf_opt _ | exact rf_nul) ?_
                        refine pw_get (pc2 := 321) kX10 (k := 15) (by decide) rfl fl_X10_58 c60Keq rfl dX10_test_318 rfl ?_
                        refine pw_iload_n (pc2 := 322) dX10_test_321 rfl rfl 3 rfl ?_
                        refine pw_aaldN (pc2 := 323) 6 rfl rfl Ke.c76 (i := p) (by first | assumption | omega) (by omega) dX10_test_322 rfl ?_
                        refine pw_topV (rowv (by first | assumption | omega)) ?_
                        refine pw_iload (pc2 := 325) dX10_test_323 rfl 0 rfl ?_
                        refine pw_aload_n (pc2 := 326) dX10_test_325 rfl rfl 2 rfl (by first | exact rf_ref _ | exact rf_opt _ | exact rf_nul) ?_
                        refine pw_get (pc2 := 329) kX10 (k := 4) (by decide) rfl fl_X10_24 c60Keq rfl dX10_test_326 rfl ?_
                        refine pw_iload_n (pc2 := 330) dX10_test_329 rfl rfl 3 rfl ?_
                        refine pw_aaldN (pc2 := 331) 6 rfl rfl Ke.c65 (i := p) (by first | assumption | omega) (by omega) dX10_test_330 rfl ?_
                        refine pw_topV (rowv (by first | assumption | omega)) ?_
                        refine pw_iload (pc2 := 333) dX10_test_331 rfl 0 rfl ?_
                        refine pw_ialdN (pc2 := 334) k92pKe (i := i) (by first | assumption | omega) (by omega) dX10_test_333 rfl ?_
                        refine pw_iastN (pc2 := 335) k96pKe (i := i) (by first | assumption | omega) (by omega) dX10_test_334 rfl ?_
                        obtain ⟨Kf, FKf⟩ := Ke.wIF (FKe) (t := 96) (i := p) (f := (upd R3 i ((σ.1 92 p) i))) hp6 (by decide) (iv_setI Ke.iv (by decide)) rfl
                        obtain ⟨h1f, eh1f⟩ : ∃ z : Nat → Option hE, z = va_up h1e (A 96 p) (some (aI 6 (upd R3 i ((σ.1 92 p) i)))) := ⟨_, rfl⟩
                        refine PW.heap (h' := h1f) eh1f.symm ?_
                        replace Kf : WM G h1f A (setI (setI (setI (setI (setI (setI (mT7 σ p o C (cstN σ.1 (nI p) (nts σ)) X 1) 94 p R1) 95 p R2) 96 p R3) 94 p (upd R1 i (vG σ (g' i)))) 95 p (upd R2 i ((σ.1 91 p) i))) 96 p (upd R3 i ((σ.1 92 p) i))) := by rw [eh1f]; exact Kf
                        replace FKf : FM A h h1f := by rw [eh1f]; exact FKf
                        have k91pKf : h1f (A 91 p) = some (aI 6 (σ.1 91 p)) := (Kf.c91 hp6)
                        have k92pKf : h1f (A 92 p) = some (aI 6 (σ.1 92 p)) := (Kf.c92 hp6)
                        have k95pKf : h1f (A 95 p) = some (aI 6 (upd R2 i ((σ.1 91 p) i))) := (Kf.c95 hp6).trans (congrArg (fun w => some (aI 6 w)) (show (setI (setI (setI (setI (setI (mT7 σ p o C (cstN σ.1 (nI p) (nts σ)) X 1) 94 p R1) 95 p R2) 96 p R3) 94 p (upd R1 i (vG σ (g' i)))) 95 p (upd R2 i ((σ.1 91 p) i))).1 95 p = (upd R2 i ((σ.1 91 p) i)) from setI_s _ _ _))
                        have k96pKf : h1f (A 96 p) = some (aI 6 (upd R3 i ((σ.1 92 p) i))) := (Kf.c96 hp6).trans (congrArg (fun w => some (aI 6 w)) (show (setI (setI (setI (setI (setI (setI (mT7 σ p o C (cstN σ.1 (nI p) (nts σ)) X 1) 94 p R1) 95 p R2) 96 p R3) 94 p (upd R1 i (vG σ (g' i)))) 95 p (upd R2 i ((σ.1 91 p) i))) 96 p (upd R3 i ((σ.1 92 p) i))).1 96 p = (upd R3 i ((σ.1 92 p) i)) from setI_s _ _ _))
                        have c60Kfq : h1f (A 60 0) = some (oB 13 [.ref (A 61 0), .ref (A 62 0), .ref (A 63 0), .ref (A 64 0), .ref (A 65 0), .ref (A 66 0), .ref (A 67 0), .ref (A 68 0), .ref (A 69 0), .ref (A 70 0), .ref (A 71 0), .ref (A 72 0), .ref (A 73 0), .ref (A 74 0), .ref (A 75 0), .ref (A 76 0), .int (σ.1 60 0 0), .ref (A 77 0), .ref (A 78 0), .ref (A 79 0), .ref (A 80 0), .ref (A 81 0), .ref (A 82 0), .ref (A 83 0), .int (σ.1 60 0 1), .ref (A 84 0), .ref (A 85 0), .ref (A 86 0), .ref (A 87 0), .ref (A 88 0), .int (σ.1 60 0 2), .int (σ.1 60 0 3), .ref (A 89 0), .int (σ.1 60 0 4), .int (σ.1 60 0 5 + 1), .int (σ.1 60 0 6 + (cstN σ.1 (nI p) (nts σ))), .ref (A 90 0), .int 0]) := Kf.c60
                        refine pw_iinc (pc2 := 338) (v := nI (i + 1)) (L2 := [(6, Value.int (nI (i + 1))), (5, Value.int (flnN σ.1 (nI p) (nts σ))), (0, Value.ref (A 60 0)), (1, Value.int (nI p))]) dX10_test_335 rfl 0 rfl (by show nI _ + 1 = nI _; exact nI_1 _) (by decide) rfl ?_
                        refine pw_goto (tgt := 277) dX10_test_338 (by decide) ?_
                        refine PW.sub (L2 := [(6, Value.int (nI (i + 1))), (5, Value.int (flnN σ.1 (nI p) (nts σ))), (0, Value.ref (A 60 0)), (1, Value.int (nI p))]) [0, 1, 2, 3] rfl ?_
                        refine ih3 (i + 1) h1f (upd R1 i (vG σ (g' i))) (upd R2 i (σ.1 91 p i)) (upd R3 i (σ.1 92 p i)) (by rw [← set3 (f := R1) (g := R2) (k := R3)]; exact Kf) FKf (fun j hj => ?_) (by omega)
                        by_cases ej : j = i
                        · subst ej; rw [upd_s, upd_s, upd_s]; exact ⟨rfl, rfl, rfl⟩
                        · exact ⟨(if_neg ej).trans (hRR j (by omega)).1, (if_neg ej).trans (hRR j (by omega)).2.1, (if_neg ej).trans (hRR j (by omega)).2.2⟩
                    refine PW.sub (L2 := [(6, Value.int 0), (5, Value.int (flnN σ.1 (nI p) (nts σ))), (0, Value.ref (A 60 0)), (1, Value.int (nI p))]) [0, 1, 2, 3] rfl ?_
                    refine loop3 6 0 h1c (σ.1 94 p) (σ.1 95 p) (σ.1 96 p) ?_ FK8 (fun j hj => absurd hj (Nat.not_lt_zero j)) (by omega)
                    have e94 : setI (mT7 σ p o C (cstN σ.1 (nI p) (nts σ)) X 1) 94 p (σ.1 94 p) = mT7 σ p o C (cstN σ.1 (nI p) (nts σ)) X 1 := setI_id rfl
                    have e95 : setI (mT7 σ p o C (cstN σ.1 (nI p) (nts σ)) X 1) 95 p (σ.1 95 p) = mT7 σ p o C (cstN σ.1 (nI p) (nts σ)) X 1 := setI_id rfl
                    have e96 : setI (mT7 σ p o C (cstN σ.1 (nI p) (nts σ)) X 1) 96 p (σ.1 96 p) = mT7 σ p o C (cstN σ.1 (nI p) (nts σ)) X 1 := setI_id rfl
                    rw [e94, e95, e96]
                    exact K8
                | succ k ih =>
                  intro i hr X Hr Fr hX hik
                  have hi9 : i < nts σ := by omega
                  refine pw_iload (pc2 := 204) dX10_test_202 rfl 0 rfl ?_
                  refine pw_aload_n (pc2 := 205) dX10_test_204 rfl rfl 2 rfl (by first | exact rf_ref _ | exact rf_opt _ | exact rf_nul) ?_
                  refine pw_get (pc2 := 208) kX10 (k := 30) (by decide) rfl fl_X10_171 Hr.c60 rfl dX10_test_205 rfl ?_
                  refine pw_topE hb.2.2 ?_
                  refine pw_icmp_ge (tgt := 234) (pc2 := 211) dX10_test_208 (by decide) rfl (fun c208 => by exact absurd c208 (by first | exact (nI_leI (a := nts σ) (b := i) (by omega) (by omega)).mpr (by omega) | exact fun q => absurd ((nI_leI (a := nts σ) (b := i) (by omega) (by omega)).mp q) (by omega))) (fun _ => ?_)
                  refine pw_aload_n (pc2 := 212) dX10_test_211 rfl rfl 2 rfl (by first | exact rf_ref _ | exact rf_opt _ | exact rf_nul) ?_
                  refine pw_get (pc2 := 215) kX10 (k := 25) (by decide) rfl fl_X10_82 Hr.c60 rfl dX10_test_212 rfl ?_
                  refine pw_iload (pc2 := 217) dX10_test_215 rfl 0 rfl ?_
                  refine pw_ialdN (pc2 := 218) Hr.c84 (i := i) (by first | assumption | omega) (by omega) dX10_test_217 rfl ?_
                  refine pw_topE (hT i hi9).1 ?_
                  refine pw_iload_n (pc2 := 219) dX10_test_218 rfl rfl 3 rfl ?_
                  refine pw_icmp_ne (tgt := 228) (pc2 := 222) dX10_test_219 (by decide) rfl (fun c219 => ?_) (fun c219 => ?_)
                  · refine pw_iinc (pc2 := 231) (v := nI (i + 1)) (L2 := [(6, Value.int (nI (i + 1))), (5, Value.int (flnN σ.1 (nI p) (nts σ))), (0, Value.ref (A 60 0)), (1, Value.int (nI p))]) dX10_test_228 rfl 0 rfl (by show nI _ + 1 = nI _; exact nI_1 _) (by decide) rfl ?_
                    refine pw_goto (tgt := 202) dX10_test_231 (by decide) ?_
                    refine PW.sub (L2 := [(6, Value.int (nI (i + 1))), (5, Value.int (flnN σ.1 (nI p) (nts σ))), (0, Value.ref (A 60 0)), (1, Value.int (nI p))]) [0, 1, 2, 3] rfl ?_
                    refine ih (i + 1) hr X Hr Fr (fun s => ?_) (by omega)
                    obtain ⟨q1, q2⟩ := hX s
                    refine ⟨fun z => q1 ⟨?_, z.2⟩, fun z => q2 (fun y => z ⟨by omega, y.2⟩)⟩
                    have : s ≠ i := fun e => c219 (by rw [← e]; exact z.2)
                    omega
                  · refine pw_aload_n (pc2 := 223) dX10_test_222 rfl rfl 2 rfl (by first | exact rf_ref _ | exact rf_opt _ | exact rf_nul) ?_
                    have hx0 := (hX i).2 (fun y => absurd y.1 (Nat.lt_irrefl i))
                    have hci := hT.cn hi9
                    have hbi := H.iv.2.2.2.2.2.2.2.2.2.2 i hi9
                    obtain ⟨t84, t85, t86, -, t100, -⟩ := hT i hi9
                    have hi8 : i < 8 := by omega
                    refine pw_iload (pc2 := 225) dX10_test_223 rfl 0 rfl ?_
                    refine pw_callV (pc2 := 228) (c_records G _ Hr hi8 hci.1 (hx0.1.trans hci.2) (t86.symm ▸ hbi.1) (fun j hj => by rw [show (rcS (mT5 σ o C (cstN σ.1 (nI p) (nts σ))) X).1 100 i = σ.1 100 i from hx0.2, t100 j hj]; exact hbi.2 j hj)) cs_X10_191 rfl rfl Hr.c60 dX10_test_225 rfl (by omega) rfl (by first | decide | simp [cat_rf, Value.category]) (fun r9 h7r q7 => ?_) (fun Y h9 q9 => q9.elim)
                    obtain ⟨rfl, T, HT, FT, hT2, hTf, hTs, hT8, hT10⟩ := q7
                    have eT := rcS_eq (S := mT5 σ o C (cstN σ.1 (nI p) (nts σ))) (X := X) hT2 hTf
                    rw [eT] at HT
                    refine PW.sub (L2 := [(6, Value.int (nI i)), (5, Value.int (flnN σ.1 (nI p) (nts σ))), (0, Value.ref (A 60 0)), (1, Value.int (nI p))]) [0, 1, 2, 3] rfl ?_
                    refine pw_iinc (pc2 := 231) (v := nI (i + 1)) (L2 := [(6, Value.int (nI (i + 1))), (5, Value.int (flnN σ.1 (nI p) (nts σ))), (0, Value.ref (A 60 0)), (1, Value.int (nI p))]) dX10_test_228 rfl 0 rfl (by show nI _ + 1 = nI _; exact nI_1 _) (by decide) rfl ?_
                    refine pw_goto (tgt := 202) dX10_test_231 (by decide) ?_
                    refine ih (i + 1) h7r T.1 HT (Fr.tr FT) (fun s => ?_) (by omega)
                    obtain ⟨q1, q2⟩ := hX s
                    by_cases es : s = i
                    · subst es
                      refine ⟨fun _ => ⟨hT8, ?_⟩, fun z => absurd ⟨Nat.lt_succ_self s, c219⟩ z⟩
                      exact hT10.trans (by rw [show (rcS (mT5 σ o C (cstN σ.1 (nI p) (nts σ))) X).1 100 s = σ.1 100 s from (q2 (fun y => absurd y.1 (Nat.lt_irrefl s))).2]; rfl)
                    · have e88 : T.1 88 0 s = X 88 0 s := hTs s es
                      have e100 : T.1 100 s = X 100 s := hTf 100 s (fun q => es q.2) (fun q => absurd q.1 (by decide))
                      rw [e88, e100]
                      exact ⟨fun z => q1 ⟨by omega, z.2⟩, fun z => q2 (fun y => z ⟨by omega, y.2⟩)⟩
              refine PW.sub (L2 := [(6, Value.int 0), (5, Value.int (flnN σ.1 (nI p) (nts σ))), (0, Value.ref (A 60 0)), (1, Value.int (nI p))]) [0, 1, 5, 6] rfl ?_
              exact loop2 (nts σ) 0 h4 (mT5 σ o C (cstN σ.1 (nI p) (nts σ))).1 (by rw [rcS_id]; exact K5) FK5 (fun s => ⟨fun z => absurd z.1 (Nat.not_lt_zero s), fun _ => ⟨rfl, rfl⟩⟩) (by omega)
            · refine pw_iconst (pc2 := 146) (v := 3) dX10_test_145 rfl (by decide) ?_
              refine pw_goto (tgt := 150) dX10_test_146 (by decide) ?_
              refine pw_put (pc2 := 153) kX10 (k := 37) (by decide) rfl rfl fl_X10_109 c60K0 (by first | decide | simp) (by first | rfl | exact nar_rf _ _) (by first | rfl | exact fit_rf _ _) dX10_test_150 rfl ?_
              obtain ⟨K2, FK2⟩ := K0.wIF (FK0) (t := 60) (i := 0) (f := (upd (upd (σ.1 60 0) 7 0) 7 3)) rfl (by decide) (iv_setI K0.iv (by decide)) rfl
              obtain ⟨h7, eh7⟩ : ∃ z : Nat → Option hE, z = va_up h8 (A 60 0) (some (oB 13 [.ref (A 61 0), .ref (A 62 0), .ref (A 63 0), .ref (A 64 0), .ref (A 65 0), .ref (A 66 0), .ref (A 67 0), .ref (A 68 0), .ref (A 69 0), .ref (A 70 0), .ref (A 71 0), .ref (A 72 0), .ref (A 73 0), .ref (A 74 0), .ref (A 75 0), .ref (A 76 0), .int (σ.1 60 0 0), .ref (A 77 0), .ref (A 78 0), .ref (A 79 0), .ref (A 80 0), .ref (A 81 0), .ref (A 82 0), .ref (A 83 0), .int (σ.1 60 0 1), .ref (A 84 0), .ref (A 85 0), .ref (A 86 0), .ref (A 87 0), .ref (A 88 0), .int (σ.1 60 0 2), .int (σ.1 60 0 3), .ref (A 89 0), .int (σ.1 60 0 4), .int (σ.1 60 0 5), .int (σ.1 60 0 6), .ref (A 90 0), .int 3])) := ⟨_, rfl⟩
              refine PW.heap (h' := h7) eh7.symm ?_
              replace K2 : WM G h7 A (setI (setI (thS σ 0) 90 0 C) 60 0 (upd (upd (σ.1 60 0) 7 0) 7 3)) := by rw [eh7]; exact K2
              replace FK2 : FM A h h7 := by rw [eh7]; exact FK2
              have c60K2b : h7 (A 60 0) = some (oB 13 [.ref (A 61 0), .ref (A 62 0), .ref (A 63 0), .ref (A 64 0), .ref (A 65 0), .ref (A 66 0), .ref (A 67 0), .ref (A 68 0), .ref (A 69 0), .ref (A 70 0), .ref (A 71 0), .ref (A 72 0), .ref (A 73 0), .ref (A 74 0), .ref (A 75 0), .ref (A 76 0), .int (σ.1 60 0 0), .ref (A 77 0), .ref (A 78 0), .ref (A 79 0), .ref (A 80 0), .ref (A 81 0), .ref (A 82 0), .ref (A 83 0), .int (σ.1 60 0 1), .ref (A 84 0), .ref (A 85 0), .ref (A 86 0), .ref (A 87 0), .ref (A 88 0), .int (σ.1 60 0 2), .int (σ.1 60 0 3), .ref (A 89 0), .int (σ.1 60 0 4), .int (σ.1 60 0 5), .int (σ.1 60 0 6), .ref (A 90 0), .int 3]) := K2.c60
              refine pw_aload_n (pc2 := 154) dX10_test_153 rfl rfl 5 rfl (by first | exact rf_ref _ | exact rf_opt _ | exact rf_nul) ?_
              refine pw_get (pc2 := 157) kX10 (k := 37) (by decide) rfl fl_X10_109 c60K2b rfl dX10_test_154 rfl ?_
              refine pw_if_le (tgt := 162) (pc2 := 160) dX10_test_157 (by decide) rfl (fun c157 => by exact absurd c157 (by decide)) (fun _ => ?_)
              refine pw_iconst (pc2 := 161) (v := 0) dX10_test_160 rfl (by decide) ?_
              refine pw_iret dX10_test_161 rfl (by first | rfl | assumption | simp [narrow]) ?_
              exact Or.inr ⟨p, hpp, rfl, Or.inr ⟨g', C, o, hs, hgb', ho3, h61, Or.inl ⟨by first | exact Or.inl q22 | exact Or.inr (Int32.not_le.mp c142), rfl, K2, FK2⟩⟩⟩
          | succ k ih =>
            intro i ac bc hac hbc hik
            have hi9 : i < nts σ := by omega
            obtain ⟨t84, t85, t86, -⟩ := hT i hi9
            refine pw_iload (pc2 := 45) dX10_test_43 rfl 0 rfl ?_
            refine pw_aload_n (pc2 := 46) dX10_test_45 rfl rfl 5 rfl (by first | exact rf_ref _ | exact rf_opt _ | exact rf_nul) ?_
            refine pw_get (pc2 := 49) kX10 (k := 30) (by decide) rfl fl_X10_171 c60K0 rfl dX10_test_46 rfl ?_
            refine pw_topE hb.2.2 ?_
            refine pw_icmp_ge (tgt := 116) (pc2 := 52) dX10_test_49 (by decide) rfl (fun c49 => by exact absurd c49 (by first | exact (nI_leI (a := nts σ) (b := i) (by omega) (by omega)).mpr (by omega) | exact fun q => absurd ((nI_leI (a := nts σ) (b := i) (by omega) (by omega)).mp q) (by omega))) (fun _ => ?_)
            refine pw_iload (pc2 := 54) dX10_test_52 rfl 2 rfl ?_
            refine pw_aload_n (pc2 := 55) dX10_test_54 rfl rfl 5 rfl (by first | exact rf_ref _ | exact rf_opt _ | exact rf_nul) ?_
            refine pw_get (pc2 := 58) kX10 (k := 25) (by decide) rfl fl_X10_82 c60K0 rfl dX10_test_55 rfl ?_
            refine pw_iload (pc2 := 60) dX10_test_58 rfl 0 rfl ?_
            refine pw_ialdN (pc2 := 61) K0.c84 (i := i) (by first | assumption | omega) (by omega) dX10_test_60 rfl ?_
            refine pw_topE t84 ?_
            refine pw_iload_n (pc2 := 62) dX10_test_61 rfl rfl 6 rfl ?_
            refine pw_icmp_ne (tgt := 75) (pc2 := 65) dX10_test_62 (by decide) rfl (fun c62 => ?_) (fun c62 => ?_)
            · refine pw_iconst (pc2 := 76) (v := 0) dX10_test_75 rfl (by decide) ?_
              refine pw_iadd (pc2 := 77) dX10_test_76 rfl ?_
              refine pw_topi (fun v32 ev32 => ?_)
              refine pw_istore (pc2 := 79) (L2 := [(4, Value.int v32), (6, Value.int (nI i)), (5, Value.int bc), (3, Value.int 0), (2, Value.int 1), (0, Value.ref (A 60 0)), (1, Value.int (nI p))]) dX10_test_77 rfl (by decide) rfl ?_
              refine pw_iload (pc2 := 81) dX10_test_79 rfl 2 rfl ?_
              refine pw_aload_n (pc2 := 82) dX10_test_81 rfl rfl 5 rfl (by first | exact rf_ref _ | exact rf_opt _ | exact rf_nul) ?_
              refine pw_get (pc2 := 85) kX10 (k := 25) (by decide) rfl fl_X10_82 c60K0 rfl dX10_test_82 rfl ?_
              refine pw_iload (pc2 := 87) dX10_test_85 rfl 1 rfl ?_
              refine pw_ialdN (pc2 := 88) K0.c84 (i := i) (by first | assumption | omega) (by omega) dX10_test_87 rfl ?_
              refine pw_topE t84 ?_
              refine pw_iload_n (pc2 := 89) dX10_test_88 rfl rfl 6 rfl ?_
              refine pw_icmp_ne (tgt := 106) (pc2 := 92) dX10_test_89 (by decide) rfl (fun c89 => ?_) (fun c89 => ?_)
              · refine pw_iconst (pc2 := 107) (v := 0) dX10_test_106 rfl (by decide) ?_
                refine pw_iadd (pc2 := 108) dX10_test_107 rfl ?_
                refine pw_topi (fun v33 ev33 => ?_)
                refine pw_istore (pc2 := 110) (L2 := [(5, Value.int v33), (4, Value.int v32), (6, Value.int (nI i)), (3, Value.int 0), (2, Value.int 1), (0, Value.ref (A 60 0)), (1, Value.int (nI p))]) dX10_test_108 rfl (by decide) rfl ?_
                refine pw_iinc (pc2 := 113) (v := nI (i + 1)) (L2 := [(6, Value.int (nI (i + 1))), (5, Value.int v33), (4, Value.int v32), (3, Value.int 0), (2, Value.int 1), (0, Value.ref (A 60 0)), (1, Value.int (nI p))]) dX10_test_110 rfl 2 rfl (by show nI _ + 1 = nI _; exact nI_1 _) (by decide) rfl ?_
                refine pw_goto (tgt := 43) dX10_test_113 (by decide) ?_
                refine PW.sub (L2 := [(6, Value.int (nI (i + 1))), (5, Value.int v33), (4, Value.int v32), (3, Value.int 0), (2, Value.int 1), (0, Value.ref (A 60 0)), (1, Value.int (nI p))]) [0, 1, 2, 3, 4, 5, 6] rfl ?_
                refine ih (i + 1) v32 v33 ?_ ?_ (by omega)
                · rw [ev32, hac]; exact ((by first | exact if_pos c62 | exact (if_neg c62).trans (Int32.add_zero _).symm) : cstN σ.1 (nI p) (i + 1) = _).symm
                · rw [ev33, hbc]; exact ((by first | exact (if_pos c89).trans (by first | rw [if_pos c99] | rw [if_neg c99]) | exact (if_neg c89).trans (Int32.add_zero _).symm) : flnN σ.1 (nI p) (i + 1) = _).symm
              · refine pw_aload_n (pc2 := 93) dX10_test_92 rfl rfl 5 rfl (by first | exact rf_ref _ | exact rf_opt _ | exact rf_nul) ?_
                refine pw_get (pc2 := 96) kX10 (k := 27) (by decide) rfl fl_X10_88 c60K0 rfl dX10_test_93 rfl ?_
                refine pw_iload (pc2 := 98) dX10_test_96 rfl 1 rfl ?_
                refine pw_zaldN (pc2 := 99) K0.c86 (i := i) (by first | assumption | omega) (by omega) dX10_test_98 rfl ?_
                refine pw_topE t86 ?_
                refine pw_if_eq (tgt := 106) (pc2 := 102) dX10_test_99 (by decide) rfl (fun c99 => ?_) (fun c99 => ?_)
                · refine pw_iconst (pc2 := 107) (v := 0) dX10_test_106 rfl (by decide) ?_
                  refine pw_iadd (pc2 := 108) dX10_test_107 rfl ?_
                  refine pw_topi (fun v35 ev35 => ?_)
                  refine pw_istore (pc2 := 110) (L2 := [(5, Value.int v35), (4, Value.int v32), (6, Value.int (nI i)), (3, Value.int 0), (2, Value.int 1), (0, Value.ref (A 60 0)), (1, Value.int (nI p))]) dX10_test_108 rfl (by decide) rfl ?_
                  refine pw_iinc (pc2 := 113) (v := nI (i + 1)) (L2 := [(6, Value.int (nI (i + 1))), (5, Value.int v35), (4, Value.int v32), (3, Value.int 0), (2, Value.int 1), (0, Value.ref (A 60 0)), (1, Value.int (nI p))]) dX10_test_110 rfl 2 rfl (by show nI _ + 1 = nI _; exact nI_1 _) (by decide) rfl ?_
                  refine pw_goto (tgt := 43) dX10_test_113 (by decide) ?_
                  refine PW.sub (L2 := [(6, Value.int (nI (i + 1))), (5, Value.int v35), (4, Value.int v32), (3, Value.int 0), (2, Value.int 1), (0, Value.ref (A 60 0)), (1, Value.int (nI p))]) [0, 1, 2, 3, 4, 5, 6] rfl ?_
                  refine ih (i + 1) v32 v35 ?_ ?_ (by omega)
                  · rw [ev32, hac]; exact ((by first | exact if_pos c62 | exact (if_neg c62).trans (Int32.add_zero _).symm) : cstN σ.1 (nI p) (i + 1) = _).symm
                  · rw [ev35, hbc]; exact ((by first | exact (if_pos c89).trans (by first | rw [if_pos c99] | rw [if_neg c99]) | exact (if_neg c89).trans (Int32.add_zero _).symm) : flnN σ.1 (nI p) (i + 1) = _).symm
                · refine pw_iconst (pc2 := 103) (v := 1) dX10_test_102 rfl (by decide) ?_
                  refine pw_goto (tgt := 107) dX10_test_103 (by decide) ?_
                  refine pw_iadd (pc2 := 108) dX10_test_107 rfl ?_
                  refine pw_topi (fun v37 ev37 => ?_)
                  refine pw_istore (pc2 := 110) (L2 := [(5, Value.int v37), (4, Value.int v32), (6, Value.int (nI i)), (3, Value.int 0), (2, Value.int 1), (0, Value.ref (A 60 0)), (1, Value.int (nI p))]) dX10_test_108 rfl (by decide) rfl ?_
                  refine pw_iinc (pc2 := 113) (v := nI (i + 1)) (L2 := [(6, Value.int (nI (i + 1))), (5, Value.int v37), (4, Value.int v32), (3, Value.int 0), (2, Value.int 1), (0, Value.ref (A 60 0)), (1, Value.int (nI p))]) dX10_test_110 rfl 2 rfl (by show nI _ + 1 = nI _; exact nI_1 _) (by decide) rfl ?_
                  refine pw_goto (tgt := 43) dX10_test_113 (by decide) ?_
                  refine PW.sub (L2 := [(6, Value.int (nI (i + 1))), (5, Value.int v37), (4, Value.int v32), (3, Value.int 0), (2, Value.int 1), (0, Value.ref (A 60 0)), (1, Value.int (nI p))]) [0, 1, 2, 3, 4, 5, 6] rfl ?_
                  refine ih (i + 1) v32 v37 ?_ ?_ (by omega)
                  · rw [ev32, hac]; exact ((by first | exact if_pos c62 | exact (if_neg c62).trans (Int32.add_zero _).symm) : cstN σ.1 (nI p) (i + 1) = _).symm
                  · rw [ev37, hbc]; exact ((by first | exact (if_pos c89).trans (by first | rw [if_pos c99] | rw [if_neg c99]) | exact (if_neg c89).trans (Int32.add_zero _).symm) : flnN σ.1 (nI p) (i + 1) = _).symm
            · refine pw_aload_n (pc2 := 66) dX10_test_65 rfl rfl 5 rfl (by first | exact rf_ref _ | exact rf_opt _ | exact rf_nul) ?_
              refine pw_get (pc2 := 69) kX10 (k := 26) (by decide) rfl fl_X10_85 c60K0 rfl dX10_test_66 rfl ?_
              refine pw_iload (pc2 := 71) dX10_test_69 rfl 0 rfl ?_
              refine pw_ialdN (pc2 := 72) K0.c85 (i := i) (by first | assumption | omega) (by omega) dX10_test_71 rfl ?_
              refine pw_topE t85 ?_
              refine pw_goto (tgt := 76) dX10_test_72 (by decide) ?_
              refine pw_iadd (pc2 := 77) dX10_test_76 rfl ?_
              refine pw_topi (fun v39 ev39 => ?_)
              refine pw_istore (pc2 := 79) (L2 := [(4, Value.int v39), (6, Value.int (nI i)), (5, Value.int bc), (3, Value.int 0), (2, Value.int 1), (0, Value.ref (A 60 0)), (1, Value.int (nI p))]) dX10_test_77 rfl (by decide) rfl ?_
              refine pw_iload (pc2 := 81) dX10_test_79 rfl 2 rfl ?_
              refine pw_aload_n (pc2 := 82) dX10_test_81 rfl rfl 5 rfl (by first | exact rf_ref _ | exact rf_opt _ | exact rf_nul) ?_
              refine pw_get (pc2 := 85) kX10 (k := 25) (by decide) rfl fl_X10_82 c60K0 rfl dX10_test_82 rfl ?_
              refine pw_iload (pc2 := 87) dX10_test_85 rfl 1 rfl ?_
              refine pw_ialdN (pc2 := 88) K0.c84 (i := i) (by first | assumption | omega) (by omega) dX10_test_87 rfl ?_
              refine pw_topE t84 ?_
              refine pw_iload_n (pc2 := 89) dX10_test_88 rfl rfl 6 rfl ?_
              refine pw_icmp_ne (tgt := 106) (pc2 := 92) dX10_test_89 (by decide) rfl (fun c89 => ?_) (fun c89 => ?_)
              · refine pw_iconst (pc2 := 107) (v := 0) dX10_test_106 rfl (by decide) ?_
                refine pw_iadd (pc2 := 108) dX10_test_107 rfl ?_
                refine pw_topi (fun v40 ev40 => ?_)
                refine pw_istore (pc2 := 110) (L2 := [(5, Value.int v40), (4, Value.int v39), (6, Value.int (nI i)), (3, Value.int 0), (2, Value.int 1), (0, Value.ref (A 60 0)), (1, Value.int (nI p))]) dX10_test_108 rfl (by decide) rfl ?_
                refine pw_iinc (pc2 := 113) (v := nI (i + 1)) (L2 := [(6, Value.int (nI (i + 1))), (5, Value.int v40), (4, Value.int v39), (3, Value.int 0), (2, Value.int 1), (0, Value.ref (A 60 0)), (1, Value.int (nI p))]) dX10_test_110 rfl 2 rfl (by show nI _ + 1 = nI _; exact nI_1 _) (by decide) rfl ?_
                refine pw_goto (tgt := 43) dX10_test_113 (by decide) ?_
                refine PW.sub (L2 := [(6, Value.int (nI (i + 1))), (5, Value.int v40), (4, Value.int v39), (3, Value.int 0), (2, Value.int 1), (0, Value.ref (A 60 0)), (1, Value.int (nI p))]) [0, 1, 2, 3, 4, 5, 6] rfl ?_
                refine ih (i + 1) v39 v40 ?_ ?_ (by omega)
                · rw [ev39, hac]; exact ((by first | exact if_pos c62 | exact (if_neg c62).trans (Int32.add_zero _).symm) : cstN σ.1 (nI p) (i + 1) = _).symm
                · rw [ev40, hbc]; exact ((by first | exact (if_pos c89).trans (by first | rw [if_pos c99] | rw [if_neg c99]) | exact (if_neg c89).trans (Int32.add_zero _).symm) : flnN σ.1 (nI p) (i + 1) = _).symm
              · refine pw_aload_n (pc2 := 93) dX10_test_92 rfl rfl 5 rfl (by first | exact rf_ref _ | exact rf_opt _ | exact rf_nul) ?_
                refine pw_get (pc2 := 96) kX10 (k := 27) (by decide) rfl fl_X10_88 c60K0 rfl dX10_test_93 rfl ?_
                refine pw_iload (pc2 := 98) dX10_test_96 rfl 1 rfl ?_
                refine pw_zaldN (pc2 := 99) K0.c86 (i := i) (by first | assumption | omega) (by omega) dX10_test_98 rfl ?_
                refine pw_topE t86 ?_
                refine pw_if_eq (tgt := 106) (pc2 := 102) dX10_test_99 (by decide) rfl (fun c99 => ?_) (fun c99 => ?_)
                · refine pw_iconst (pc2 := 107) (v := 0) dX10_test_106 rfl (by decide) ?_
                  refine pw_iadd (pc2 := 108) dX10_test_107 rfl ?_
                  refine pw_topi (fun v42 ev42 => ?_)
                  refine pw_istore (pc2 := 110) (L2 := [(5, Value.int v42), (4, Value.int v39), (6, Value.int (nI i)), (3, Value.int 0), (2, Value.int 1), (0, Value.ref (A 60 0)), (1, Value.int (nI p))]) dX10_test_108 rfl (by decide) rfl ?_
                  refine pw_iinc (pc2 := 113) (v := nI (i + 1)) (L2 := [(6, Value.int (nI (i + 1))), (5, Value.int v42), (4, Value.int v39), (3, Value.int 0), (2, Value.int 1), (0, Value.ref (A 60 0)), (1, Value.int (nI p))]) dX10_test_110 rfl 2 rfl (by show nI _ + 1 = nI _; exact nI_1 _) (by decide) rfl ?_
                  refine pw_goto (tgt := 43) dX10_test_113 (by decide) ?_
                  refine PW.sub (L2 := [(6, Value.int (nI (i + 1))), (5, Value.int v42), (4, Value.int v39), (3, Value.int 0), (2, Value.int 1), (0, Value.ref (A 60 0)), (1, Value.int (nI p))]) [0, 1, 2, 3, 4, 5, 6] rfl ?_
                  refine ih (i + 1) v39 v42 ?_ ?_ (by omega)
                  · rw [ev39, hac]; exact ((by first | exact if_pos c62 | exact (if_neg c62).trans (Int32.add_zero _).symm) : cstN σ.1 (nI p) (i + 1) = _).symm
                  · rw [ev42, hbc]; exact ((by first | exact (if_pos c89).trans (by first | rw [if_pos c99] | rw [if_neg c99]) | exact (if_neg c89).trans (Int32.add_zero _).symm) : flnN σ.1 (nI p) (i + 1) = _).symm
                · refine pw_iconst (pc2 := 103) (v := 1) dX10_test_102 rfl (by decide) ?_
                  refine pw_goto (tgt := 107) dX10_test_103 (by decide) ?_
                  refine pw_iadd (pc2 := 108) dX10_test_107 rfl ?_
                  refine pw_topi (fun v44 ev44 => ?_)
                  refine pw_istore (pc2 := 110) (L2 := [(5, Value.int v44), (4, Value.int v39), (6, Value.int (nI i)), (3, Value.int 0), (2, Value.int 1), (0, Value.ref (A 60 0)), (1, Value.int (nI p))]) dX10_test_108 rfl (by decide) rfl ?_
                  refine pw_iinc (pc2 := 113) (v := nI (i + 1)) (L2 := [(6, Value.int (nI (i + 1))), (5, Value.int v44), (4, Value.int v39), (3, Value.int 0), (2, Value.int 1), (0, Value.ref (A 60 0)), (1, Value.int (nI p))]) dX10_test_110 rfl 2 rfl (by show nI _ + 1 = nI _; exact nI_1 _) (by decide) rfl ?_
                  refine pw_goto (tgt := 43) dX10_test_113 (by decide) ?_
                  refine PW.sub (L2 := [(6, Value.int (nI (i + 1))), (5, Value.int v44), (4, Value.int v39), (3, Value.int 0), (2, Value.int 1), (0, Value.ref (A 60 0)), (1, Value.int (nI p))]) [0, 1, 2, 3, 4, 5, 6] rfl ?_
                  refine ih (i + 1) v39 v44 ?_ ?_ (by omega)
                  · rw [ev39, hac]; exact ((by first | exact if_pos c62 | exact (if_neg c62).trans (Int32.add_zero _).symm) : cstN σ.1 (nI p) (i + 1) = _).symm
                  · rw [ev44, hbc]; exact ((by first | exact (if_pos c89).trans (by first | rw [if_pos c99] | rw [if_neg c99]) | exact (if_neg c89).trans (Int32.add_zero _).symm) : flnN σ.1 (nI p) (i + 1) = _).symm
        refine PW.sub (L2 := [(6, Value.int 0), (5, Value.int 0), (4, Value.int 0), (3, Value.int 0), (2, Value.int 1), (0, Value.ref (A 60 0)), (1, Value.int (nI p))]) [0, 1, 2, 3, 4, 5, 6] rfl ?_
        exact loop (nts σ) 0 0 0 rfl rfl (by omega)
  · refine pw_if_eq (tgt := 10) (pc2 := 8) dX10_test_5 (by decide) rfl (fun c5 => by exact absurd c5 (by decide)) (fun _ => ?_)
    refine pw_iconst (pc2 := 9) (v := 0) dX10_test_8 rfl (by decide) ?_
    refine pw_iret dX10_test_9 rfl (by first | rfl | assumption | simp [narrow]) ?_
    exact Or.inl ⟨hin, rfl, K1, FK1⟩
