/-! the reference: records, flakyOf, flaky, flakiest -/
set_option maxHeartbeats 4000000 in
set_option maxRecDepth 100000 in
theorem c_records (G : hG) (h : hp) {A : aT} {σ : sT} (H : WM G h A σ) {t c : Nat} (ht8 : t < 8) (hc : c ≤ 8) (h88 : σ.1 88 0 t = nI c) (hb1 : b01 (σ.1 86 0 t)) (hrow : bF (σ.1 100 t)) : PMet G MX10_records 0 0 0 [.ref (A 60 0), .int (nI t)] h (fun r h2 => r = none ∧ ∃ σ2, WM G h2 A σ2 ∧ FM A h h2 ∧ σ2.2 = σ.2 ∧ (∀ u j, ¬ (u = 100 ∧ j = t) → ¬ (u = 88 ∧ j = 0) → σ2.1 u j = σ.1 u j) ∧ (∀ s, s ≠ t → σ2.1 88 0 s = σ.1 88 0 s) ∧ σ2.1 88 0 t = nI (arC c) ∧ σ2.1 100 t = arF (σ.1 100 t) c (σ.1 86 0 t)) noX := by
  refine PMet.of (by decide +kernel) (Nat.le_of_ble_eq_true rfl) (fun d hd => ?_)
  refine PW.sub (L2 := [(0, Value.ref (A 60 0)), (1, Value.int (nI t))]) [0, 1] rfl ?_
  refine pw_aload_n (pc2 := 1) dX10_records_0 rfl rfl 0 rfl (by first | exact rf_ref _ | exact rf_opt _ | exact rf_nul) ?_
  refine pw_get (pc2 := 4) kX10 (k := 29) (by decide) rfl fl_X10_96 H.c60 rfl dX10_records_1 rfl ?_
  refine pw_iload_n (pc2 := 5) dX10_records_4 rfl rfl 1 rfl ?_
  refine pw_ialdN (pc2 := 6) H.c88 (i := t) (by first | assumption | omega) (by omega) dX10_records_5 rfl ?_
  refine pw_topE h88 ?_
  refine pw_bipush (pc2 := 8) (v := 8) dX10_records_6 rfl (by decide) ?_
  refine pw_icmp_ne (tgt := 53) (pc2 := 11) dX10_records_8 (by decide) rfl (fun c8 => ?_) (fun c8 => ?_)
  · have hc8 : c < 8 := Nat.lt_of_le_of_ne hc (fun z => c8 (by rw [z]; rfl))
    have KH : WM G h A σ := H
    have FKH : FM A h h := FM.rfl'
    have c60KH : h (A 60 0) = some (oB 13 [.ref (A 61 0), .ref (A 62 0), .ref (A 63 0), .ref (A 64 0), .ref (A 65 0), .ref (A 66 0), .ref (A 67 0), .ref (A 68 0), .ref (A 69 0), .ref (A 70 0), .ref (A 71 0), .ref (A 72 0), .ref (A 73 0), .ref (A 74 0), .ref (A 75 0), .ref (A 76 0), .int (σ.1 60 0 0), .ref (A 77 0), .ref (A 78 0), .ref (A 79 0), .ref (A 80 0), .ref (A 81 0), .ref (A 82 0), .ref (A 83 0), .int (σ.1 60 0 1), .ref (A 84 0), .ref (A 85 0), .ref (A 86 0), .ref (A 87 0), .ref (A 88 0), .int (σ.1 60 0 2), .int (σ.1 60 0 3), .ref (A 89 0), .int (σ.1 60 0 4), .int (σ.1 60 0 5), .int (σ.1 60 0 6), .ref (A 90 0), .int (σ.1 60 0 7)]) := KH.c60
    have k860KH : h (A 86 0) = some (aZ 8 (σ.1 86 0)) := KH.c86
    have k880KH : h (A 88 0) = some (aI 8 (σ.1 88 0)) := KH.c88
    have k100tKH : h (A 100 t) = some (aZ 8 (σ.1 100 t)) := (KH.c100 ht8)
    refine pw_aload_n (pc2 := 54) dX10_records_53 rfl rfl 0 rfl (by first | exact rf_ref _ | exact rf_opt _ | exact rf_nul) ?_
    refine pw_get (pc2 := 57) kX10 (k := 28) (by decide) rfl fl_X10_93 c60KH rfl dX10_records_54 rfl ?_
    refine pw_iload_n (pc2 := 58) dX10_records_57 rfl rfl 1 rfl ?_
    refine pw_aaldN (pc2 := 59) 7 rfl rfl KH.c87 (i := t) (by first | assumption | omega) (by omega) dX10_records_58 rfl ?_
    refine pw_topV (rowv (by first | assumption | omega)) ?_
    refine pw_aload_n (pc2 := 60) dX10_records_59 rfl rfl 0 rfl (by first | exact rf_ref _ | exact rf_opt _ | exact rf_nul) ?_
    refine pw_get (pc2 := 63) kX10 (k := 29) (by decide) rfl fl_X10_96 c60KH rfl dX10_records_60 rfl ?_
    refine pw_iload_n (pc2 := 64) dX10_records_63 rfl rfl 1 rfl ?_
    refine pw_ialdN (pc2 := 65) k880KH (i := t) (by first | assumption | omega) (by omega) dX10_records_64 rfl ?_
    refine pw_topE h88 ?_
    refine pw_aload_n (pc2 := 66) dX10_records_65 rfl rfl 0 rfl (by first | exact rf_ref _ | exact rf_opt _ | exact rf_nul) ?_
    refine pw_get (pc2 := 69) kX10 (k := 27) (by decide) rfl fl_X10_88 c60KH rfl dX10_records_66 rfl ?_
    refine pw_iload_n (pc2 := 70) dX10_records_69 rfl rfl 1 rfl ?_
    refine pw_zaldN (pc2 := 71) k860KH (i := t) (by first | assumption | omega) (by omega) dX10_records_70 rfl ?_
    refine pw_zastN (pc2 := 72) k100tKH (i := c) (by first | assumption | omega) (by omega) (nar_b hb1) dX10_records_71 rfl ?_
    obtain ⟨K3, FK3⟩ := KH.wIF (FKH) (t := 100) (i := t) (f := (upd (σ.1 100 t) c ((σ.1 86 0) t))) ht8 (by decide) (iv_setI KH.iv (by decide)) rfl
    obtain ⟨h3, eh3⟩ : ∃ z : Nat → Option hE, z = va_up h (A 100 t) (some (aZ 8 (upd (σ.1 100 t) c ((σ.1 86 0) t)))) := ⟨_, rfl⟩
    refine PW.heap (h' := h3) eh3.symm ?_
    replace K3 : WM G h3 A (setI σ 100 t (upd (σ.1 100 t) c ((σ.1 86 0) t))) := by rw [eh3]; exact K3
    replace FK3 : FM A h h3 := by rw [eh3]; exact FK3
    have c60K3 : h3 (A 60 0) = some (oB 13 [.ref (A 61 0), .ref (A 62 0), .ref (A 63 0), .ref (A 64 0), .ref (A 65 0), .ref (A 66 0), .ref (A 67 0), .ref (A 68 0), .ref (A 69 0), .ref (A 70 0), .ref (A 71 0), .ref (A 72 0), .ref (A 73 0), .ref (A 74 0), .ref (A 75 0), .ref (A 76 0), .int (σ.1 60 0 0), .ref (A 77 0), .ref (A 78 0), .ref (A 79 0), .ref (A 80 0), .ref (A 81 0), .ref (A 82 0), .ref (A 83 0), .int (σ.1 60 0 1), .ref (A 84 0), .ref (A 85 0), .ref (A 86 0), .ref (A 87 0), .ref (A 88 0), .int (σ.1 60 0 2), .int (σ.1 60 0 3), .ref (A 89 0), .int (σ.1 60 0 4), .int (σ.1 60 0 5), .int (σ.1 60 0 6), .ref (A 90 0), .int (σ.1 60 0 7)]) := K3.c60
    have k860K3 : h3 (A 86 0) = some (aZ 8 (σ.1 86 0)) := K3.c86
    have k880K3 : h3 (A 88 0) = some (aI 8 (σ.1 88 0)) := K3.c88
    have k100tK3 : h3 (A 100 t) = some (aZ 8 (upd (σ.1 100 t) c ((σ.1 86 0) t))) := (K3.c100 ht8).trans (congrArg (fun w => some (aZ 8 w)) (show (setI σ 100 t (upd (σ.1 100 t) c ((σ.1 86 0) t))).1 100 t = (upd (σ.1 100 t) c ((σ.1 86 0) t)) from setI_s _ _ _))
    refine pw_aload_n (pc2 := 73) dX10_records_72 rfl rfl 0 rfl (by first | exact rf_ref _ | exact rf_opt _ | exact rf_nul) ?_
    refine pw_get (pc2 := 76) kX10 (k := 29) (by decide) rfl fl_X10_96 c60K3 rfl dX10_records_73 rfl ?_
    refine pw_iload_n (pc2 := 77) dX10_records_76 rfl rfl 1 rfl ?_
    refine pw_dup2 (pc2 := 78) dX10_records_77 rfl (by first | rfl | exact cat_rf _) (by first | rfl | exact cat_rf _) ?_
    refine pw_ialdN (pc2 := 79) k880K3 (i := t) (by first | assumption | omega) (by omega) dX10_records_78 rfl ?_
    refine pw_topE h88 ?_
    refine pw_iconst (pc2 := 80) (v := 1) dX10_records_79 rfl (by decide) ?_
    refine pw_iadd (pc2 := 81) dX10_records_80 rfl ?_
    refine pw_topE (nI_1 _) ?_
    refine pw_iastN (pc2 := 82) k880K3 (i := t) (by first | assumption | omega) (by omega) dX10_records_81 rfl ?_
    obtain ⟨K4, FK4⟩ := K3.wIF (FK3) (t := 88) (i := 0) (f := (upd (σ.1 88 0) t (nI (c + 1)))) rfl (by decide) (iv_setI K3.iv (by decide)) rfl
    obtain ⟨h4, eh4⟩ : ∃ z : Nat → Option hE, z = va_up h3 (A 88 0) (some (aI 8 (upd (σ.1 88 0) t (nI (c + 1))))) := ⟨_, rfl⟩
    refine PW.heap (h' := h4) eh4.symm ?_
    replace K4 : WM G h4 A (setI (setI σ 100 t (upd (σ.1 100 t) c ((σ.1 86 0) t))) 88 0 (upd (σ.1 88 0) t (nI (c + 1)))) := by rw [eh4]; exact K4
    replace FK4 : FM A h h4 := by rw [eh4]; exact FK4
    have c60K4 : h4 (A 60 0) = some (oB 13 [.ref (A 61 0), .ref (A 62 0), .ref (A 63 0), .ref (A 64 0), .ref (A 65 0), .ref (A 66 0), .ref (A 67 0), .ref (A 68 0), .ref (A 69 0), .ref (A 70 0), .ref (A 71 0), .ref (A 72 0), .ref (A 73 0), .ref (A 74 0), .ref (A 75 0), .ref (A 76 0), .int (σ.1 60 0 0), .ref (A 77 0), .ref (A 78 0), .ref (A 79 0), .ref (A 80 0), .ref (A 81 0), .ref (A 82 0), .ref (A 83 0), .int (σ.1 60 0 1), .ref (A 84 0), .ref (A 85 0), .ref (A 86 0), .ref (A 87 0), .ref (A 88 0), .int (σ.1 60 0 2), .int (σ.1 60 0 3), .ref (A 89 0), .int (σ.1 60 0 4), .int (σ.1 60 0 5), .int (σ.1 60 0 6), .ref (A 90 0), .int (σ.1 60 0 7)]) := K4.c60
    have k860K4 : h4 (A 86 0) = some (aZ 8 (σ.1 86 0)) := K4.c86
    have k880K4 : h4 (A 88 0) = some (aI 8 (upd (σ.1 88 0) t (nI (c + 1)))) := K4.c88.trans (congrArg (fun w => some (aI 8 w)) (show (setI (setI σ 100 t (upd (σ.1 100 t) c ((σ.1 86 0) t))) 88 0 (upd (σ.1 88 0) t (nI (c + 1)))).1 88 0 = (upd (σ.1 88 0) t (nI (c + 1))) from setI_s _ _ _))
    have k100tK4 : h4 (A 100 t) = some (aZ 8 (upd (σ.1 100 t) c ((σ.1 86 0) t))) := (K4.c100 ht8).trans (congrArg (fun w => some (aZ 8 w)) (show (setI σ 100 t (upd (σ.1 100 t) c ((σ.1 86 0) t))).1 100 t = (upd (σ.1 100 t) c ((σ.1 86 0) t)) from setI_s _ _ _))
    refine pw_vret dX10_records_82 rfl ?_
    refine ⟨rfl, _, K4, FK4, rfl, fun u j h1 h2 => (if_neg h2).trans (if_neg h1), fun s hs => if_neg hs, (upd_s _ _ _).trans (by unfold arC; rw [if_pos hc8]), (setI_s (σ := σ) 100 t _).trans (by unfold arF; rw [if_pos hc8])⟩
  · have hc8 : c = 8 := nI_inj (by omega) (by decide) c8
    subst hc8
    have HW : ∀ F, bF F → WM G (va_up h (A 100 t) (some (aZ 8 F))) A (setI σ 100 t F) := fun F hF => H.wI (t := 100) (i := t) ht8 (by decide) (iv_setI H.iv (by decide)) rfl
    have HG : ∀ F, WM G (va_up h (A 100 t) (some (aZ 8 F))) A (setI σ 100 t F) := fun F => H.wI (t := 100) (i := t) ht8 (by decide) (iv_setI H.iv (by decide)) rfl
    have H10 : ∀ F, va_up h (A 100 t) (some (aZ 8 F)) (A 100 t) = some (aZ 8 F) := fun F => va_up_self _ _ _
    refine pw_iconst (pc2 := 12) (v := 1) dX10_records_11 rfl (by decide) ?_
    refine pw_istore_n (pc2 := 13) (L2 := [(2, Value.int 1), (0, Value.ref (A 60 0)), (1, Value.int (nI t))]) dX10_records_12 rfl rfl (by decide) rfl ?_
    have loop : ∀ (k i : Nat) (h1 : 1 ≤ i), i + k = 8 → PW G MX10_records d noA (E0 G (fun r h2 => r = none ∧ ∃ σ2, WM G h2 A σ2 ∧ FM A h h2 ∧ σ2.2 = σ.2 ∧ (∀ u j, ¬ (u = 100 ∧ j = t) → ¬ (u = 88 ∧ j = 0) → σ2.1 u j = σ.1 u j) ∧ (∀ s, s ≠ t → σ2.1 88 0 s = σ.1 88 0 s) ∧ σ2.1 88 0 t = nI (arC 8) ∧ σ2.1 100 t = arF (σ.1 100 t) 8 (σ.1 86 0 t)) noX) 0 0 13 [(2, Value.int (nI i)), (0, Value.ref (A 60 0)), (1, Value.int (nI t))] [] (va_up h (A 100 t) (some (aZ 8 (shF (σ.1 100 t) i)))) := by
      intro k
      induction k with
      | zero =>
        intro i h1 hik
        have hi9 : i = 8 := by omega
        refine pw_iload_n (pc2 := 14) dX10_records_13 rfl rfl 0 rfl ?_
        refine pw_bipush (pc2 := 16) (v := 8) dX10_records_14 rfl (by decide) ?_
        refine pw_icmp_ge (tgt := 43) (pc2 := 19) dX10_records_16 (by decide) rfl (fun _ => ?_) (fun c16 => by exact absurd (by first | (rw [hi9]; exact Int32.le_refl _) | exact fun q => absurd ((nI_leI (a := 8) (b := i) (by omega) (by omega)).mp q) (by omega)) c16)
        have hi9' := hi9.symm
        subst hi9
        have KH : WM G h A σ := H
        have FKH : FM A h h := FM.rfl'
        obtain ⟨K1, FK1⟩ := KH.wIF (FKH) (t := 100) (i := t) (f := (shF (σ.1 100 t) 8)) ht8 (by decide) (iv_setI KH.iv (by decide)) rfl
        obtain ⟨h1, eh1⟩ : ∃ z : Nat → Option hE, z = va_up h (A 100 t) (some (aZ 8 (shF (σ.1 100 t) 8))) := ⟨_, rfl⟩
        refine PW.heap (h' := h1) eh1.symm ?_
        replace K1 : WM G h1 A (setI σ 100 t (shF (σ.1 100 t) 8)) := by rw [eh1]; exact K1
        replace FK1 : FM A h h1 := by rw [eh1]; exact FK1
        have c60K1 : h1 (A 60 0) = some (oB 13 [.ref (A 61 0), .ref (A 62 0), .ref (A 63 0), .ref (A 64 0), .ref (A 65 0), .ref (A 66 0), .ref (A 67 0), .ref (A 68 0), .ref (A 69 0), .ref (A 70 0), .ref (A 71 0), .ref (A 72 0), .ref (A 73 0), .ref (A 74 0), .ref (A 75 0), .ref (A 76 0), .int (σ.1 60 0 0), .ref (A 77 0), .ref (A 78 0), .ref (A 79 0), .ref (A 80 0), .ref (A 81 0), .ref (A 82 0), .ref (A 83 0), .int (σ.1 60 0 1), .ref (A 84 0), .ref (A 85 0), .ref (A 86 0), .ref (A 87 0), .ref (A 88 0), .int (σ.1 60 0 2), .int (σ.1 60 0 3), .ref (A 89 0), .int (σ.1 60 0 4), .int (σ.1 60 0 5), .int (σ.1 60 0 6), .ref (A 90 0), .int (σ.1 60 0 7)]) := K1.c60
        have k860K1 : h1 (A 86 0) = some (aZ 8 (σ.1 86 0)) := K1.c86
        have k880K1 : h1 (A 88 0) = some (aI 8 (σ.1 88 0)) := K1.c88
        have k100tK1 : h1 (A 100 t) = some (aZ 8 (shF (σ.1 100 t) 8)) := (K1.c100 ht8).trans (congrArg (fun w => some (aZ 8 w)) (show (setI σ 100 t (shF (σ.1 100 t) 8)).1 100 t = (shF (σ.1 100 t) 8) from setI_s _ _ _))
        refine pw_aload_n (pc2 := 44) dX10_records_43 rfl rfl 1 rfl (by first | exact rf_ref _ | exact rf_opt _ | exact rf_nul) ?_
        refine pw_get (pc2 := 47) kX10 (k := 29) (by decide) rfl fl_X10_96 c60K1 rfl dX10_records_44 rfl ?_
        refine pw_iload_n (pc2 := 48) dX10_records_47 rfl rfl 2 rfl ?_
        refine pw_dup2 (pc2 := 49) dX10_records_48 rfl (by first | rfl | exact cat_rf _) (by first | rfl | exact cat_rf _) ?_
        refine pw_ialdN (pc2 := 50) k880K1 (i := t) (by first | assumption | omega) (by omega) dX10_records_49 rfl ?_
        refine pw_topE h88 ?_
        refine pw_iconst (pc2 := 51) (v := 1) dX10_records_50 rfl (by decide) ?_
        refine pw_isub (pc2 := 52) dX10_records_51 rfl ?_
        refine pw_topE (nI_sub1 (by omega)) ?_
        refine pw_iastN (pc2 := 53) k880K1 (i := t) (by first | assumption | omega) (by omega) dX10_records_52 rfl ?_
        obtain ⟨K2, FK2⟩ := K1.wIF (FK1) (t := 88) (i := 0) (f := (upd (σ.1 88 0) t (nI (8 - 1)))) rfl (by decide) (iv_setI K1.iv (by decide)) rfl
        obtain ⟨h2, eh2⟩ : ∃ z : Nat → Option hE, z = va_up h1 (A 88 0) (some (aI 8 (upd (σ.1 88 0) t (nI (8 - 1))))) := ⟨_, rfl⟩
        refine PW.heap (h' := h2) eh2.symm ?_
        replace K2 : WM G h2 A (setI (setI σ 100 t (shF (σ.1 100 t) 8)) 88 0 (upd (σ.1 88 0) t (nI (8 - 1)))) := by rw [eh2]; exact K2
        replace FK2 : FM A h h2 := by rw [eh2]; exact FK2
        have c60K2 : h2 (A 60 0) = some (oB 13 [.ref (A 61 0), .ref (A 62 0), .ref (A 63 0), .ref (A 64 0), .ref (A 65 0), .ref (A 66 0), .ref (A 67 0), .ref (A 68 0), .ref (A 69 0), .ref (A 70 0), .ref (A 71 0), .ref (A 72 0), .ref (A 73 0), .ref (A 74 0), .ref (A 75 0), .ref (A 76 0), .int (σ.1 60 0 0), .ref (A 77 0), .ref (A 78 0), .ref (A 79 0), .ref (A 80 0), .ref (A 81 0), .ref (A 82 0), .ref (A 83 0), .int (σ.1 60 0 1), .ref (A 84 0), .ref (A 85 0), .ref (A 86 0), .ref (A 87 0), .ref (A 88 0), .int (σ.1 60 0 2), .int (σ.1 60 0 3), .ref (A 89 0), .int (σ.1 60 0 4), .int (σ.1 60 0 5), .int (σ.1 60 0 6), .ref (A 90 0), .int (σ.1 60 0 7)]) := K2.c60
        have k860K2 : h2 (A 86 0) = some (aZ 8 (σ.1 86 0)) := K2.c86
        have k880K2 : h2 (A 88 0) = some (aI 8 (upd (σ.1 88 0) t (nI (8 - 1)))) := K2.c88.trans (congrArg (fun w => some (aI 8 w)) (show (setI (setI σ 100 t (shF (σ.1 100 t) 8)) 88 0 (upd (σ.1 88 0) t (nI (8 - 1)))).1 88 0 = (upd (σ.1 88 0) t (nI (8 - 1))) from setI_s _ _ _))
        have k100tK2 : h2 (A 100 t) = some (aZ 8 (shF (σ.1 100 t) 8)) := (K2.c100 ht8).trans (congrArg (fun w => some (aZ 8 w)) (show (setI σ 100 t (shF (σ.1 100 t) 8)).1 100 t = (shF (σ.1 100 t) 8) from setI_s _ _ _))
        refine pw_aload_n (pc2 := 54) dX10_records_53 rfl rfl 1 rfl (by first | exact rf_ref _ | exact rf_opt _ | exact rf_nul) ?_
        refine pw_get (pc2 := 57) kX10 (k := 28) (by decide) rfl fl_X10_93 c60K2 rfl dX10_records_54 rfl ?_
        refine pw_iload_n (pc2 := 58) dX10_records_57 rfl rfl 2 rfl ?_
        refine pw_aaldN (pc2 := 59) 7 rfl rfl K2.c87 (i := t) (by first | assumption | omega) (by omega) dX10_records_58 rfl ?_
        refine pw_topV (rowv (by first | assumption | omega)) ?_
        refine pw_aload_n (pc2 := 60) dX10_records_59 rfl rfl 1 rfl (by first | exact rf_ref _ | exact rf_opt _ | exact rf_nul) ?_
        refine pw_get (pc2 := 63) kX10 (k := 29) (by decide) rfl fl_X10_96 c60K2 rfl dX10_records_60 rfl ?_
        refine pw_iload_n (pc2 := 64) dX10_records_63 rfl rfl 2 rfl ?_
        refine pw_ialdN (pc2 := 65) k880K2 (i := t) (by first | assumption | omega) (by omega) dX10_records_64 rfl ?_
        refine pw_topE (upd_s _ _ _) ?_
        refine pw_aload_n (pc2 := 66) dX10_records_65 rfl rfl 1 rfl (by first | exact rf_ref _ | exact rf_opt _ | exact rf_nul) ?_
        refine pw_get (pc2 := 69) kX10 (k := 27) (by decide) rfl fl_X10_88 c60K2 rfl dX10_records_66 rfl ?_
        refine pw_iload_n (pc2 := 70) dX10_records_69 rfl rfl 2 rfl ?_
        refine pw_zaldN (pc2 := 71) k860K2 (i := t) (by first | assumption | omega) (by omega) dX10_records_70 rfl ?_
        refine pw_zastN (pc2 := 72) k100tK2 (i := (8 - 1)) (by first | assumption | omega) (by omega) (nar_b hb1) dX10_records_71 rfl ?_
        obtain ⟨K3, FK3⟩ := K2.wIF (FK2) (t := 100) (i := t) (f := (upd (shF (σ.1 100 t) 8) (8 - 1) ((σ.1 86 0) t))) ht8 (by decide) (iv_setI K2.iv (by decide)) rfl
        obtain ⟨h3, eh3⟩ : ∃ z : Nat → Option hE, z = va_up h2 (A 100 t) (some (aZ 8 (upd (shF (σ.1 100 t) 8) (8 - 1) ((σ.1 86 0) t)))) := ⟨_, rfl⟩
        refine PW.heap (h' := h3) eh3.symm ?_
        replace K3 : WM G h3 A (setI (setI (setI σ 100 t (shF (σ.1 100 t) 8)) 88 0 (upd (σ.1 88 0) t (nI (8 - 1)))) 100 t (upd (shF (σ.1 100 t) 8) (8 - 1) ((σ.1 86 0) t))) := by rw [eh3]; exact K3
        replace FK3 : FM A h h3 := by rw [eh3]; exact FK3
        have c60K3 : h3 (A 60 0) = some (oB 13 [.ref (A 61 0), .ref (A 62 0), .ref (A 63 0), .ref (A 64 0), .ref (A 65 0), .ref (A 66 0), .ref (A 67 0), .ref (A 68 0), .ref (A 69 0), .ref (A 70 0), .ref (A 71 0), .ref (A 72 0), .ref (A 73 0), .ref (A 74 0), .ref (A 75 0), .ref (A 76 0), .int (σ.1 60 0 0), .ref (A 77 0), .ref (A 78 0), .ref (A 79 0), .ref (A 80 0), .ref (A 81 0), .ref (A 82 0), .ref (A 83 0), .int (σ.1 60 0 1), .ref (A 84 0), .ref (A 85 0), .ref (A 86 0), .ref (A 87 0), .ref (A 88 0), .int (σ.1 60 0 2), .int (σ.1 60 0 3), .ref (A 89 0), .int (σ.1 60 0 4), .int (σ.1 60 0 5), .int (σ.1 60 0 6), .ref (A 90 0), .int (σ.1 60 0 7)]) := K3.c60
        have k860K3 : h3 (A 86 0) = some (aZ 8 (σ.1 86 0)) := K3.c86
        have k880K3 : h3 (A 88 0) = some (aI 8 (upd (σ.1 88 0) t (nI (8 - 1)))) := K3.c88.trans (congrArg (fun w => some (aI 8 w)) (show (setI (setI σ 100 t (shF (σ.1 100 t) 8)) 88 0 (upd (σ.1 88 0) t (nI (8 - 1)))).1 88 0 = (upd (σ.1 88 0) t (nI (8 - 1))) from setI_s _ _ _))
        have k100tK3 : h3 (A 100 t) = some (aZ 8 (upd (shF (σ.1 100 t) 8) (8 - 1) ((σ.1 86 0) t))) := (K3.c100 ht8).trans (congrArg (fun w => some (aZ 8 w)) (show (setI (setI (setI σ 100 t (shF (σ.1 100 t) 8)) 88 0 (upd (σ.1 88 0) t (nI (8 - 1)))) 100 t (upd (shF (σ.1 100 t) 8) (8 - 1) ((σ.1 86 0) t))).1 100 t = (upd (shF (σ.1 100 t) 8) (8 - 1) ((σ.1 86 0) t)) from setI_s _ _ _))
        refine pw_aload_n (pc2 := 73) dX10_records_72 rfl rfl 1 rfl (by first | exact rf_ref _ | exact rf_opt _ | exact rf_nul) ?_
        refine pw_get (pc2 := 76) kX10 (k := 29) (by decide) rfl fl_X10_96 c60K3 rfl dX10_records_73 rfl ?_
        refine pw_iload_n (pc2 := 77) dX10_records_76 rfl rfl 2 rfl ?_
        refine pw_dup2 (pc2 := 78) dX10_records_77 rfl (by first | rfl | exact cat_rf _) (by first | rfl | exact cat_rf _) ?_
        refine pw_ialdN (pc2 := 79) k880K3 (i := t) (by first | assumption | omega) (by omega) dX10_records_78 rfl ?_
        refine pw_topE (upd_s _ _ _) ?_
        refine pw_iconst (pc2 := 80) (v := 1) dX10_records_79 rfl (by decide) ?_
        refine pw_iadd (pc2 := 81) dX10_records_80 rfl ?_
        refine pw_topE (nI_1 _) ?_
        refine pw_iastN (pc2 := 82) k880K3 (i := t) (by first | assumption | omega) (by omega) dX10_records_81 rfl ?_
        obtain ⟨K4, FK4⟩ := K3.wIF (FK3) (t := 88) (i := 0) (f := (upd (upd (σ.1 88 0) t (nI (8 - 1))) t (nI ((8 - 1) + 1)))) rfl (by decide) (iv_setI K3.iv (by decide)) rfl
        obtain ⟨h4, eh4⟩ : ∃ z : Nat → Option hE, z = va_up h3 (A 88 0) (some (aI 8 (upd (upd (σ.1 88 0) t (nI (8 - 1))) t (nI ((8 - 1) + 1))))) := ⟨_, rfl⟩
        refine PW.heap (h' := h4) eh4.symm ?_
        replace K4 : WM G h4 A (setI (setI (setI (setI σ 100 t (shF (σ.1 100 t) 8)) 88 0 (upd (σ.1 88 0) t (nI (8 - 1)))) 100 t (upd (shF (σ.1 100 t) 8) (8 - 1) ((σ.1 86 0) t))) 88 0 (upd (upd (σ.1 88 0) t (nI (8 - 1))) t (nI ((8 - 1) + 1)))) := by rw [eh4]; exact K4
        replace FK4 : FM A h h4 := by rw [eh4]; exact FK4
        have c60K4 : h4 (A 60 0) = some (oB 13 [.ref (A 61 0), .ref (A 62 0), .ref (A 63 0), .ref (A 64 0), .ref (A 65 0), .ref (A 66 0), .ref (A 67 0), .ref (A 68 0), .ref (A 69 0), .ref (A 70 0), .ref (A 71 0), .ref (A 72 0), .ref (A 73 0), .ref (A 74 0), .ref (A 75 0), .ref (A 76 0), .int (σ.1 60 0 0), .ref (A 77 0), .ref (A 78 0), .ref (A 79 0), .ref (A 80 0), .ref (A 81 0), .ref (A 82 0), .ref (A 83 0), .int (σ.1 60 0 1), .ref (A 84 0), .ref (A 85 0), .ref (A 86 0), .ref (A 87 0), .ref (A 88 0), .int (σ.1 60 0 2), .int (σ.1 60 0 3), .ref (A 89 0), .int (σ.1 60 0 4), .int (σ.1 60 0 5), .int (σ.1 60 0 6), .ref (A 90 0), .int (σ.1 60 0 7)]) := K4.c60
        have k860K4 : h4 (A 86 0) = some (aZ 8 (σ.1 86 0)) := K4.c86
        have k880K4 : h4 (A 88 0) = some (aI 8 (upd (upd (σ.1 88 0) t (nI (8 - 1))) t (nI ((8 - 1) + 1)))) := K4.c88.trans (congrArg (fun w => some (aI 8 w)) (show (setI (setI (setI (setI σ 100 t (shF (σ.1 100 t) 8)) 88 0 (upd (σ.1 88 0) t (nI (8 - 1)))) 100 t (upd (shF (σ.1 100 t) 8) (8 - 1) ((σ.1 86 0) t))) 88 0 (upd (upd (σ.1 88 0) t (nI (8 - 1))) t (nI ((8 - 1) + 1)))).1 88 0 = (upd (upd (σ.1 88 0) t (nI (8 - 1))) t (nI ((8 - 1) + 1))) from setI_s _ _ _))
        have k100tK4 : h4 (A 100 t) = some (aZ 8 (upd (shF (σ.1 100 t) 8) (8 - 1) ((σ.1 86 0) t))) := (K4.c100 ht8).trans (congrArg (fun w => some (aZ 8 w)) (show (setI (setI (setI σ 100 t (shF (σ.1 100 t) 8)) 88 0 (upd (σ.1 88 0) t (nI (8 - 1)))) 100 t (upd (shF (σ.1 100 t) 8) (8 - 1) ((σ.1 86 0) t))).1 100 t = (upd (shF (σ.1 100 t) 8) (8 - 1) ((σ.1 86 0) t)) from setI_s _ _ _))
        refine pw_vret dX10_records_82 rfl ?_
        refine ⟨rfl, _, K4, FK4, rfl, fun u j h1 h2 => (if_neg h2).trans ((if_neg h1).trans ((if_neg h2).trans (if_neg h1))), fun s hs => (if_neg hs).trans (if_neg hs), (upd_s _ _ _).trans rfl, (setI_s (σ := setI (setI σ 100 t (shF (σ.1 100 t) 8)) 88 0 (upd (σ.1 88 0) t (nI (8 - 1)))) 100 t _).trans rfl⟩
      | succ k ih =>
        intro i h1 hik
        have hi9 : i < 8 := by omega
        refine pw_iload_n (pc2 := 14) dX10_records_13 rfl rfl 0 rfl ?_
        refine pw_bipush (pc2 := 16) (v := 8) dX10_records_14 rfl (by decide) ?_
        refine pw_icmp_ge (tgt := 43) (pc2 := 19) dX10_records_16 (by decide) rfl (fun c16 => by exact absurd c16 (by first | (rw [hi9]; exact Int32.le_refl _) | exact fun q => absurd ((nI_leI (a := 8) (b := i) (by omega) (by omega)).mp q) (by omega))) (fun _ => ?_)
        refine pw_aload_n (pc2 := 20) dX10_records_19 rfl rfl 1 rfl (by first | exact rf_ref _ | exact rf_opt _ | exact rf_nul) ?_
        refine pw_get (pc2 := 23) kX10 (k := 28) (by decide) rfl fl_X10_93 (HG (shF (σ.1 100 t) i)).c60 rfl dX10_records_20 rfl ?_
        refine pw_iload_n (pc2 := 24) dX10_records_23 rfl rfl 2 rfl ?_
        refine pw_aaldN (pc2 := 25) 7 rfl rfl (HG (shF (σ.1 100 t) i)).c87 (i := t) (by first | assumption | omega) (by omega) dX10_records_24 rfl ?_
        refine pw_topV (rowv (by first | assumption | omega)) ?_
        refine pw_iload_n (pc2 := 26) dX10_records_25 rfl rfl 0 rfl ?_
        refine pw_iconst (pc2 := 27) (v := 1) dX10_records_26 rfl (by decide) ?_
        refine pw_isub (pc2 := 28) dX10_records_27 rfl ?_
        refine pw_topE (nI_sub1 (by omega)) ?_
        refine pw_aload_n (pc2 := 29) dX10_records_28 rfl rfl 1 rfl (by first | exact rf_ref _ | exact rf_opt _ | exact rf_nul) ?_
        refine pw_get (pc2 := 32) kX10 (k := 28) (by decide) rfl fl_X10_93 (HG (shF (σ.1 100 t) i)).c60 rfl dX10_records_29 rfl ?_
        refine pw_iload_n (pc2 := 33) dX10_records_32 rfl rfl 2 rfl ?_
        refine pw_aaldN (pc2 := 34) 7 rfl rfl (HG (shF (σ.1 100 t) i)).c87 (i := t) (by first | assumption | omega) (by omega) dX10_records_33 rfl ?_
        refine pw_topV (rowv (by first | assumption | omega)) ?_
        refine pw_iload_n (pc2 := 35) dX10_records_34 rfl rfl 0 rfl ?_
        refine pw_zaldN (pc2 := 36) (H10 (shF (σ.1 100 t) i)) (i := i) (by first | assumption | omega) (by omega) dX10_records_35 rfl ?_
        refine pw_zastN (pc2 := 37) (H10 (shF (σ.1 100 t) i)) (i := (i - 1)) (by first | assumption | omega) (by omega) (nar_b (by rw [shF_at]; exact hrow i hi9)) dX10_records_36 rfl ?_
        refine PW.heap (h' := va_up h (A 100 t) (some (aZ 8 (shF (σ.1 100 t) (i + 1))))) (by rw [up_up, shF_at, shF_s _ h1]) ?_
        refine pw_iinc (pc2 := 40) (v := nI (i + 1)) (L2 := [(2, Value.int (nI (i + 1))), (0, Value.ref (A 60 0)), (1, Value.int (nI t))]) dX10_records_37 rfl 0 rfl (by show nI _ + 1 = nI _; exact nI_1 _) (by decide) rfl ?_
        refine pw_goto (tgt := 13) dX10_records_40 (by decide) ?_
        refine PW.sub (L2 := [(2, Value.int (nI (i + 1))), (0, Value.ref (A 60 0)), (1, Value.int (nI t))]) [0, 1, 2] rfl ?_
        exact ih (i + 1) (by omega) (by omega)
    refine PW.sub (L2 := [(2, Value.int 1), (0, Value.ref (A 60 0)), (1, Value.int (nI t))]) [0, 1, 2] rfl ?_
    refine PW.heap (h' := va_up h (A 100 t) (some (aZ 8 (shF (σ.1 100 t) 1)))) (by rw [shF_1]; exact (up_id (H.c100 ht8)).symm) ?_
    exact loop 7 1 (by omega) (by omega)
theorem ctN_cg {F F' : Nat → Int32} : ∀ (n : Nat), (∀ j, j < n → F j = F' j) → ctN F n = ctN F' n
  | 0, _ => rfl
  | n + 1, h => by
    have ih := ctN_cg n (fun j hj => h j (by omega))
    show ctN F n + _ = ctN F' n + _
    rw [ih, h n (Nat.lt_succ_self n)]
    by_cases e : n = 0
    · rw [if_pos e, if_pos e]
    · rw [h (n - 1) (by omega)]
theorem RT.cn {σ : sT} (hT : RT σ) {t : Nat} (ht : t < nts σ) : xCn σ t ≤ 8 ∧ σ.1 88 0 t = nI (xCn σ t) := by
  obtain ⟨-, -, -, e, -, -, c, h1, h2⟩ := hT t ht
  have ec : xCn σ t = c := by unfold xCn; rw [h2]; exact nI_clamp (by omega)
  rw [ec, e]
  exact ⟨h1, h2⟩
theorem ctN_n (F : Nat → Int32) : ∀ n, ∃ m, m ≤ n ∧ ctN F n = nI m
  | 0 => ⟨0, Nat.le_refl 0, rfl⟩
  | n + 1 => by
    obtain ⟨m, h1, h2⟩ := ctN_n F n
    show ∃ m', m' ≤ n + 1 ∧ ctN F n + _ = nI m'
    rw [h2]
    by_cases e : n = 0
    · rw [if_pos e]; exact ⟨m, by omega, Int32.add_zero _⟩
    · rw [if_neg e]
      by_cases e2 : F n = F (n - 1)
      · rw [if_pos e2]; exact ⟨m, by omega, Int32.add_zero _⟩
      · rw [if_neg e2]; exact ⟨m + 1, by omega, nI_1 _⟩
set_option maxHeartbeats 4000000 in
set_option maxRecDepth 100000 in
theorem c_flakyOf (G : hG) (h : hp) {A : aT} {σ : sT} (H : WM G h A σ) (hT : RT σ) {t : Nat} (ht : t < nts σ) : PMet G MX10_flakyOf 0 0 0 [.ref (A 60 0), .int (nI t)] h (det (some (.int (ctN (σ.1 51 t) (xCn σ t)))) h) noX := by
  have hnt := H.iv.2.1
  have ht8 : t < 8 := by omega
  have hcn := hT.cn ht
  have hcn1 := hcn.1
  refine PMet.of (by decide +kernel) (Nat.le_of_ble_eq_true rfl) (fun d hd => ?_)
  refine PW.sub (L2 := [(0, Value.ref (A 60 0)), (1, Value.int (nI t))]) [0, 1] rfl ?_
  refine pw_iconst (pc2 := 1) (v := 0) dX10_flakyOf_0 rfl (by decide) ?_
  refine pw_istore_n (pc2 := 2) (L2 := [(2, Value.int 0), (0, Value.ref (A 60 0)), (1, Value.int (nI t))]) dX10_flakyOf_1 rfl rfl (by decide) rfl ?_
  refine pw_iconst (pc2 := 3) (v := 1) dX10_flakyOf_2 rfl (by decide) ?_
  refine pw_istore_n (pc2 := 4) (L2 := [(3, Value.int 1), (2, Value.int 0), (0, Value.ref (A 60 0)), (1, Value.int (nI t))]) dX10_flakyOf_3 rfl rfl (by decide) rfl ?_
  have loop : ∀ (k i : Nat) (ac : Int32) (h1 : 1 ≤ i) (hac : ac = ctN (σ.1 100 t) i), i + k = (max (xCn σ t) 1) → PW G MX10_flakyOf d noA (E0 G (det (some (.int (ctN (σ.1 51 t) (xCn σ t)))) h) noX) 0 0 4 [(3, Value.int (nI i)), (2, Value.int ac), (0, Value.ref (A 60 0)), (1, Value.int (nI t))] [] h := by
    intro k
    induction k with
    | zero =>
      intro i ac h1 hac hik
      have hi9 : i = (max (xCn σ t) 1) := by omega
      refine pw_iload_n (pc2 := 5) dX10_flakyOf_4 rfl rfl 0 rfl ?_
      refine pw_aload_n (pc2 := 6) dX10_flakyOf_5 rfl rfl 2 rfl (by first | exact rf_ref _ | exact rf_opt _ | exact rf_nul) ?_
      refine pw_get (pc2 := 9) kX10 (k := 29) (by decide) rfl fl_X10_96 H.c60 rfl dX10_flakyOf_6 rfl ?_
      refine pw_iload_n (pc2 := 10) dX10_flakyOf_9 rfl rfl 3 rfl ?_
      refine pw_ialdN (pc2 := 11) H.c88 (i := t) (by first | assumption | omega) (by omega) dX10_flakyOf_10 rfl ?_
      refine pw_topE hcn.2 ?_
      refine pw_icmp_ge (tgt := 49) (pc2 := 14) dX10_flakyOf_11 (by decide) rfl (fun _ => ?_) (fun c11 => by exact absurd (by first | exact (nI_leI (a := xCn σ t) (b := i) (by omega) (by omega)).mpr (by omega) | exact fun q => absurd ((nI_leI (a := xCn σ t) (b := i) (by omega) (by omega)).mp q) (by omega)) c11)
      refine pw_iload_n (pc2 := 50) dX10_flakyOf_49 rfl rfl 1 rfl ?_
      refine pw_iret dX10_flakyOf_50 rfl (by first | rfl | assumption | simp [narrow]) ?_
      refine ⟨?_, rfl⟩
      rw [hac, hi9]
      rw [← ctN_cg (F := σ.1 100 t) (xCn σ t) (fun j hj => (hT t ht).2.2.2.2.1 j (by omega))]
      rcases Nat.eq_zero_or_pos (xCn σ t) with z | z
      · rw [z]; rfl
      · rw [Nat.max_eq_left z]
    | succ k ih =>
      intro i ac h1 hac hik
      have hi9 : i < (max (xCn σ t) 1) := by omega
      refine pw_iload_n (pc2 := 5) dX10_flakyOf_4 rfl rfl 0 rfl ?_
      refine pw_aload_n (pc2 := 6) dX10_flakyOf_5 rfl rfl 2 rfl (by first | exact rf_ref _ | exact rf_opt _ | exact rf_nul) ?_
      refine pw_get (pc2 := 9) kX10 (k := 29) (by decide) rfl fl_X10_96 H.c60 rfl dX10_flakyOf_6 rfl ?_
      refine pw_iload_n (pc2 := 10) dX10_flakyOf_9 rfl rfl 3 rfl ?_
      refine pw_ialdN (pc2 := 11) H.c88 (i := t) (by first | assumption | omega) (by omega) dX10_flakyOf_10 rfl ?_
      refine pw_topE hcn.2 ?_
      refine pw_icmp_ge (tgt := 49) (pc2 := 14) dX10_flakyOf_11 (by decide) rfl (fun c11 => by exact absurd c11 (by first | exact (nI_leI (a := xCn σ t) (b := i) (by omega) (by omega)).mpr (by omega) | exact fun q => absurd ((nI_leI (a := xCn σ t) (b := i) (by omega) (by omega)).mp q) (by omega))) (fun _ => ?_)
      refine pw_iload_n (pc2 := 15) dX10_flakyOf_14 rfl rfl 1 rfl ?_
      refine pw_aload_n (pc2 := 16) dX10_flakyOf_15 rfl rfl 2 rfl (by first | exact rf_ref _ | exact rf_opt _ | exact rf_nul) ?_
      refine pw_get (pc2 := 19) kX10 (k := 28) (by decide) rfl fl_X10_93 H.c60 rfl dX10_flakyOf_16 rfl ?_
      refine pw_iload_n (pc2 := 20) dX10_flakyOf_19 rfl rfl 3 rfl ?_
      refine pw_aaldN (pc2 := 21) 7 rfl rfl H.c87 (i := t) (by first | assumption | omega) (by omega) dX10_flakyOf_20 rfl ?_
      refine pw_topV (rowv (by first | assumption | omega)) ?_
      refine pw_iload_n (pc2 := 22) dX10_flakyOf_21 rfl rfl 0 rfl ?_
      refine pw_zaldN (pc2 := 23) (H.c100 ht8) (i := i) (by first | assumption | omega) (by omega) dX10_flakyOf_22 rfl ?_
      refine pw_aload_n (pc2 := 24) dX10_flakyOf_23 rfl rfl 2 rfl (by first | exact rf_ref _ | exact rf_opt _ | exact rf_nul) ?_
      refine pw_get (pc2 := 27) kX10 (k := 28) (by decide) rfl fl_X10_93 H.c60 rfl dX10_flakyOf_24 rfl ?_
      refine pw_iload_n (pc2 := 28) dX10_flakyOf_27 rfl rfl 3 rfl ?_
      refine pw_aaldN (pc2 := 29) 7 rfl rfl H.c87 (i := t) (by first | assumption | omega) (by omega) dX10_flakyOf_28 rfl ?_
      refine pw_topV (rowv (by first | assumption | omega)) ?_
      refine pw_iload_n (pc2 := 30) dX10_flakyOf_29 rfl rfl 0 rfl ?_
      refine pw_iconst (pc2 := 31) (v := 1) dX10_flakyOf_30 rfl (by decide) ?_
      refine pw_isub (pc2 := 32) dX10_flakyOf_31 rfl ?_
      refine pw_topE (nI_sub1 (by omega)) ?_
      refine pw_zaldN (pc2 := 33) (H.c100 ht8) (i := (i - 1)) (by first | assumption | omega) (by omega) dX10_flakyOf_32 rfl ?_
      refine pw_icmp_eq (tgt := 40) (pc2 := 36) dX10_flakyOf_33 (by decide) rfl (fun c33 => ?_) (fun c33 => ?_)
      · refine pw_iconst (pc2 := 41) (v := 0) dX10_flakyOf_40 rfl (by decide) ?_
        refine pw_iadd (pc2 := 42) dX10_flakyOf_41 rfl ?_
        refine pw_topi (fun v1 ev1 => ?_)
        refine pw_istore_n (pc2 := 43) (L2 := [(2, Value.int v1), (3, Value.int (nI i)), (0, Value.ref (A 60 0)), (1, Value.int (nI t))]) dX10_flakyOf_42 rfl rfl (by decide) rfl ?_
        refine pw_iinc (pc2 := 46) (v := nI (i + 1)) (L2 := [(3, Value.int (nI (i + 1))), (2, Value.int v1), (0, Value.ref (A 60 0)), (1, Value.int (nI t))]) dX10_flakyOf_43 rfl 1 rfl (by show nI _ + 1 = nI _; exact nI_1 _) (by decide) rfl ?_
        refine pw_goto (tgt := 4) dX10_flakyOf_46 (by decide) ?_
        refine PW.sub (L2 := [(3, Value.int (nI (i + 1))), (2, Value.int v1), (0, Value.ref (A 60 0)), (1, Value.int (nI t))]) [0, 1, 2, 3] rfl ?_
        refine ih (i + 1) v1 (by omega) ?_ (by omega)
        rw [ev1, hac]
        show ctN (σ.1 100 t) i + _ = ctN (σ.1 100 t) i + _
        rw [if_neg (by omega)]
        first | rw [if_pos c33] | rw [if_neg c33]
      · refine pw_iconst (pc2 := 37) (v := 1) dX10_flakyOf_36 rfl (by decide) ?_
        refine pw_goto (tgt := 41) dX10_flakyOf_37 (by decide) ?_
        refine pw_iadd (pc2 := 42) dX10_flakyOf_41 rfl ?_
        refine pw_topi (fun v3 ev3 => ?_)
        refine pw_istore_n (pc2 := 43) (L2 := [(2, Value.int v3), (3, Value.int (nI i)), (0, Value.ref (A 60 0)), (1, Value.int (nI t))]) dX10_flakyOf_42 rfl rfl (by decide) rfl ?_
        refine pw_iinc (pc2 := 46) (v := nI (i + 1)) (L2 := [(3, Value.int (nI (i + 1))), (2, Value.int v3), (0, Value.ref (A 60 0)), (1, Value.int (nI t))]) dX10_flakyOf_43 rfl 1 rfl (by show nI _ + 1 = nI _; exact nI_1 _) (by decide) rfl ?_
        refine pw_goto (tgt := 4) dX10_flakyOf_46 (by decide) ?_
        refine PW.sub (L2 := [(3, Value.int (nI (i + 1))), (2, Value.int v3), (0, Value.ref (A 60 0)), (1, Value.int (nI t))]) [0, 1, 2, 3] rfl ?_
        refine ih (i + 1) v3 (by omega) ?_ (by omega)
        rw [ev3, hac]
        show ctN (σ.1 100 t) i + _ = ctN (σ.1 100 t) i + _
        rw [if_neg (by omega)]
        first | rw [if_pos c33] | rw [if_neg c33]
  refine PW.sub (L2 := [(3, Value.int 1), (2, Value.int 0), (0, Value.ref (A 60 0)), (1, Value.int (nI t))]) [0, 1, 2, 3] rfl ?_
  exact loop (max (xCn σ t) 1 - 1) 1 0 (by omega) (by rfl) (by omega)
set_option maxHeartbeats 4000000 in
set_option maxRecDepth 100000 in
theorem c_mflaky (G : hG) (h : hp) {A : aT} {σ : sT} (H : WM G h A σ) (hb : MB σ) (hT : RT σ) (n : Int32) : PMet G MX10_flaky 3 0 0 [.ref (A 60 0), .int n] h (fun r h2 => (¬ inR n (nts σ) ∧ QSM G h A (.int 0) (thS σ 1) r h2) ∨ (∃ t, t < nts σ ∧ n = nI t ∧ QSM G h A (.int (ctN (σ.1 51 t) (xCn σ t))) (thS σ 0) r h2)) noX := by
  have hnt8 := H.iv.2.1
  refine PMet.of (by decide +kernel) (Nat.le_of_ble_eq_true rfl) (fun d hd => ?_)
  refine PW.sub (L2 := [(0, Value.ref (A 60 0)), (1, Value.int n)]) [0, 1] rfl ?_
  refine pw_aload_n (pc2 := 1) dX10_flaky_0 rfl rfl 0 rfl (by first | exact rf_ref _ | exact rf_opt _ | exact rf_nul) ?_
  refine pw_iload_n (pc2 := 2) dX10_flaky_1 rfl rfl 1 rfl ?_
  refine pw_callV (pc2 := 5) (c_noTest G _ H hb n) cs_X10_174 rfl rfl H.c60 dX10_flaky_2 rfl (by omega) rfl (by first | decide | simp [cat_rf, Value.category]) (fun r9 h9 q9 => ?_) (fun Y h9 q9 => q9.elim)
  rcases q9 with ⟨hin, rfl, K1, FK1⟩ | ⟨hin, rfl, K1, FK1⟩
  · obtain ⟨t, hpp, rfl⟩ := inR_ex (by omega) hin
    have ht6 : t < 8 := by omega
    have c60K1 : h9 (A 60 0) = some (oB 13 [.ref (A 61 0), .ref (A 62 0), .ref (A 63 0), .ref (A 64 0), .ref (A 65 0), .ref (A 66 0), .ref (A 67 0), .ref (A 68 0), .ref (A 69 0), .ref (A 70 0), .ref (A 71 0), .ref (A 72 0), .ref (A 73 0), .ref (A 74 0), .ref (A 75 0), .ref (A 76 0), .int (σ.1 60 0 0), .ref (A 77 0), .ref (A 78 0), .ref (A 79 0), .ref (A 80 0), .ref (A 81 0), .ref (A 82 0), .ref (A 83 0), .int (σ.1 60 0 1), .ref (A 84 0), .ref (A 85 0), .ref (A 86 0), .ref (A 87 0), .ref (A 88 0), .int (σ.1 60 0 2), .int (σ.1 60 0 3), .ref (A 89 0), .int (σ.1 60 0 4), .int (σ.1 60 0 5), .int (σ.1 60 0 6), .ref (A 90 0), .int 0]) := K1.c60
    refine pw_if_eq (tgt := 12) (pc2 := 8) dX10_flaky_5 (by decide) rfl (fun _ => ?_) (fun c5 => by exact absurd (by decide) c5)
    refine pw_aload_n (pc2 := 13) dX10_flaky_12 rfl rfl 0 rfl (by first | exact rf_ref _ | exact rf_opt _ | exact rf_nul) ?_
    refine pw_iload_n (pc2 := 14) dX10_flaky_13 rfl rfl 1 rfl ?_
    refine pw_callV1 (pc2 := 17) (c_flakyOf G _ K1 hT (t := t) hpp) cs_X10_194 rfl rfl c60K1 dX10_flaky_14 rfl (by omega) rfl (by first | decide | simp [cat_rf, Value.category]) ?_
    refine pw_iret dX10_flaky_17 rfl (by first | rfl | assumption | simp [narrow]) ?_
    exact Or.inr ⟨t, hpp, rfl, rfl, K1, FK1⟩
  · refine pw_if_eq (tgt := 12) (pc2 := 8) dX10_flaky_5 (by decide) rfl (fun c5 => by exact absurd c5 (by decide)) (fun _ => ?_)
    refine pw_iconst (pc2 := 9) (v := 0) dX10_flaky_8 rfl (by decide) ?_
    refine pw_goto (tgt := 17) dX10_flaky_9 (by decide) ?_
    refine pw_iret dX10_flaky_17 rfl (by first | rfl | assumption | simp [narrow]) ?_
    exact Or.inl ⟨hin, rfl, K1, FK1⟩

