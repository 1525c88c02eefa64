/-! the reference: addTest, setFailing, setMachines, fund, budget -/
theorem le2 {o : Int32} : o ≤ 2 ↔ o < 3 := by
  have e2 : (2 : Int32).toInt = 2 := rfl
  have e3 : (3 : Int32).toInt = 3 := rfl
  rw [Int32.le_iff_toInt_le, Int32.lt_iff_toInt_lt, e2, e3]
  omega
theorem ow3 {o : Int32} (h : 0 ≤ o ∧ o ≤ 2) : ∃ j, j < 3 ∧ o = nI j := inR_ex (k := 3) (by decide) ⟨h.1, le2.mp h.2⟩
theorem ow3' {o : Int32} : (0 ≤ o ∧ o ≤ 2) ↔ (0 ≤ o ∧ o < 3) := by rw [le2]
def mAT (σ : sT) (p : Nat) (l : Int32) : sT := setI (setI (setI (thS (thS σ 0) 0) 84 0 (upd (σ.1 84 0) (nts σ) (nI p))) 85 0 (upd (σ.1 85 0) (nts σ) l)) 60 0 (upd (upd (upd (σ.1 60 0) 7 0) 7 0) 2 (nI (nts σ + 1)))
theorem nI_inj {a b : Nat} (ha : a < 2147483648) (hb : b < 2147483648) (h : nI a = nI b) : a = b := (nI_eq ha hb).mp h
set_option maxHeartbeats 4000000 in
set_option maxRecDepth 100000 in
theorem c_maddTest (G : hG) (h : hp) {A : aT} {σ : sT} (H : WM G h A σ) (hb : MB σ) (n l : Int32) : PMet G MX10_addTest 3 0 0 [.ref (A 60 0), .int n, .int l] h (fun r h2 => (¬ inR n (npk σ) ∧ QSM G h A (.int 0) (thS σ 1) r h2) ∨ (∃ p, p < npk σ ∧ n = nI p ∧ ((¬ (1 ≤ l ∧ l ≤ 60) ∧ QSM G h A (.int 0) (thS (thS σ 0) 2) r h2) ∨ ((1 ≤ l ∧ l ≤ 60) ∧ nts σ = 8 ∧ QSM G h A (.int 0) (thS (thS σ 0) 3) r h2) ∨ ((1 ≤ l ∧ l ≤ 60) ∧ nts σ < 8 ∧ QSM G h A (.int (nI (nts σ))) (mAT σ p l) r h2)))) noX := by
  have hnp := H.iv.1
  have hnt8 := H.iv.2.1
  refine PMet.of (by decide +kernel) (Nat.le_of_ble_eq_true rfl) (fun d hd => ?_)
  refine PW.sub (L2 := [(0, Value.ref (A 60 0)), (1, Value.int n), (2, Value.int l)]) [0, 1, 2] rfl ?_
  refine pw_aload_n (pc2 := 1) dX10_addTest_0 rfl rfl 0 rfl (by first | exact rf_ref _ | exact rf_opt _ | exact rf_nul) ?_
  refine pw_iload_n (pc2 := 2) dX10_addTest_1 rfl rfl 1 rfl ?_
  refine pw_callV (pc2 := 5) (c_lacks G _ H hb n) cs_X10_123 rfl rfl H.c60 dX10_addTest_2 rfl (by omega) rfl (by first | decide | simp [cat_rf, Value.category]) (fun r9 h9 q9 => ?_) (fun Y h9 q9 => q9.elim)
  rcases q9 with ⟨hin, rfl, K1, FK1⟩ | ⟨hin, rfl, K1, FK1⟩
  · obtain ⟨p, hpp, rfl⟩ := inR_ex (by omega) hin
    have hp6 : p < 6 := by omega
    have c60K1 : h9 (A 60 0) = some (oB 13 [.ref (A 61 0), .ref (A 62 0), .ref (A 63 0), .ref (A 64 0), .ref (A 65 0), .ref (A 66 0), .ref (A 67 0), .ref (A 68 0), .ref (A 69 0), .ref (A 70 0), .ref (A 71 0), .ref (A 72 0), .ref (A 73 0), .ref (A 74 0), .ref (A 75 0), .ref (A 76 0), .int (σ.1 60 0 0), .ref (A 77 0), .ref (A 78 0), .ref (A 79 0), .ref (A 80 0), .ref (A 81 0), .ref (A 82 0), .ref (A 83 0), .int (σ.1 60 0 1), .ref (A 84 0), .ref (A 85 0), .ref (A 86 0), .ref (A 87 0), .ref (A 88 0), .int (σ.1 60 0 2), .int (σ.1 60 0 3), .ref (A 89 0), .int (σ.1 60 0 4), .int (σ.1 60 0 5), .int (σ.1 60 0 6), .ref (A 90 0), .int 0]) := K1.c60
    refine pw_if_eq (tgt := 10) (pc2 := 8) dX10_addTest_5 (by decide) rfl (fun _ => ?_) (fun c5 => by exact absurd (by decide) c5)
    refine pw_aload_n (pc2 := 11) dX10_addTest_10 rfl rfl 0 rfl (by first | exact rf_ref _ | exact rf_opt _ | exact rf_nul) ?_
    refine pw_iload_n (pc2 := 12) dX10_addTest_11 rfl rfl 2 rfl ?_
    refine pw_iconst (pc2 := 13) (v := 1) dX10_addTest_12 rfl (by decide) ?_
    refine pw_bipush (pc2 := 15) (v := 60) dX10_addTest_13 rfl (by decide) ?_
    refine pw_callSb (pc2 := 18) (c_in G _ l 1 60) cs_X10_115 rfl dX10_addTest_15 rfl (by omega) rfl (by first | decide | simp [cat_rf, Value.category]) (fun q15 => ?_) (fun q15 => ?_)
    · refine pw_if_ne (tgt := 25) (pc2 := 21) dX10_addTest_18 (by decide) rfl (fun _ => ?_) (fun c18 => by exact absurd c18 (by decide))
      refine pw_aload_n (pc2 := 26) dX10_addTest_25 rfl rfl 0 rfl (by first | exact rf_ref _ | exact rf_opt _ | exact rf_nul) ?_
      refine pw_get (pc2 := 29) kX10 (k := 30) (by decide) rfl fl_X10_171 c60K1 rfl dX10_addTest_26 rfl ?_
      refine pw_topE hb.2.2 ?_
      refine pw_bipush (pc2 := 31) (v := 8) dX10_addTest_29 rfl (by decide) ?_
      refine pw_icmp_ne (tgt := 38) (pc2 := 34) dX10_addTest_31 (by decide) rfl (fun c31 => ?_) (fun c31 => ?_)
      · have hnt : nts σ < 8 := Nat.lt_of_le_of_ne H.iv.2.1 (fun z => c31 (by rw [z]; rfl))
        refine pw_iconst (pc2 := 39) (v := 0) dX10_addTest_38 rfl (by decide) ?_
        refine pw_put (pc2 := 42) kX10 (k := 37) (by decide) rfl rfl fl_X10_109 c60K1 (by first | decide | simp) (by first | rfl | exact nar_rf _ _) (by first | rfl | exact fit_rf _ _) dX10_addTest_39 rfl ?_
        obtain ⟨K2, FK2⟩ := K1.wIF (FK1) (t := 60) (i := 0) (f := (upd (upd (σ.1 60 0) 7 0) 7 0)) rfl (by decide) (iv_setI K1.iv (by decide)) rfl
        obtain ⟨h7, eh7⟩ : ∃ z : Nat → Option hE, z = va_up h9 (A 60 0) (some (oB 13 [.ref (A 61 0), .ref (A 62 0), .ref (A 63 0), .ref (A 64 0), .ref (A 65 0), .ref (A 66 0), .ref (A 67 0), .ref (A 68 0), .ref (A 69 0), .ref (A 70 0), .ref (A 71 0), .ref (A 72 0), .ref (A 73 0), .ref (A 74 0), .ref (A 75 0), .ref (A 76 0), .int (σ.1 60 0 0), .ref (A 77 0), .ref (A 78 0), .ref (A 79 0), .ref (A 80 0), .ref (A 81 0), .ref (A 82 0), .ref (A 83 0), .int (σ.1 60 0 1), .ref (A 84 0), .ref (A 85 0), .ref (A 86 0), .ref (A 87 0), .ref (A 88 0), .int (σ.1 60 0 2), .int (σ.1 60 0 3), .ref (A 89 0), .int (σ.1 60 0 4), .int (σ.1 60 0 5), .int (σ.1 60 0 6), .ref (A 90 0), .int 0])) := ⟨_, rfl⟩
        refine PW.heap (h' := h7) eh7.symm ?_
        replace K2 : WM G h7 A (setI (thS σ 0) 60 0 (upd (upd (σ.1 60 0) 7 0) 7 0)) := by rw [eh7]; exact K2
        replace FK2 : FM A h h7 := by rw [eh7]; exact FK2
        have k840K2 : h7 (A 84 0) = some (aI 8 (σ.1 84 0)) := K2.c84
        have k850K2 : h7 (A 85 0) = some (aI 8 (σ.1 85 0)) := K2.c85
        have c60K2b : h7 (A 60 0) = some (oB 13 [.ref (A 61 0), .ref (A 62 0), .ref (A 63 0), .ref (A 64 0), .ref (A 65 0), .ref (A 66 0), .ref (A 67 0), .ref (A 68 0), .ref (A 69 0), .ref (A 70 0), .ref (A 71 0), .ref (A 72 0), .ref (A 73 0), .ref (A 74 0), .ref (A 75 0), .ref (A 76 0), .int (σ.1 60 0 0), .ref (A 77 0), .ref (A 78 0), .ref (A 79 0), .ref (A 80 0), .ref (A 81 0), .ref (A 82 0), .ref (A 83 0), .int (σ.1 60 0 1), .ref (A 84 0), .ref (A 85 0), .ref (A 86 0), .ref (A 87 0), .ref (A 88 0), .int (σ.1 60 0 2), .int (σ.1 60 0 3), .ref (A 89 0), .int (σ.1 60 0 4), .int (σ.1 60 0 5), .int (σ.1 60 0 6), .ref (A 90 0), .int 0]) := K2.c60
        refine pw_aload_n (pc2 := 43) dX10_addTest_42 rfl rfl 0 rfl (by first | exact rf_ref _ | exact rf_opt _ | exact rf_nul) ?_
        refine pw_get (pc2 := 46) kX10 (k := 37) (by decide) rfl fl_X10_109 c60K2b rfl dX10_addTest_43 rfl ?_
        refine pw_if_le (tgt := 51) (pc2 := 49) dX10_addTest_46 (by decide) rfl (fun _ => ?_) (fun c46 => by exact absurd (by decide) c46)
        refine pw_aload_n (pc2 := 52) dX10_addTest_51 rfl rfl 0 rfl (by first | exact rf_ref _ | exact rf_opt _ | exact rf_nul) ?_
        refine pw_get (pc2 := 55) kX10 (k := 25) (by decide) rfl fl_X10_82 c60K2b rfl dX10_addTest_52 rfl ?_
        refine pw_aload_n (pc2 := 56) dX10_addTest_55 rfl rfl 0 rfl (by first | exact rf_ref _ | exact rf_opt _ | exact rf_nul) ?_
        refine pw_get (pc2 := 59) kX10 (k := 30) (by decide) rfl fl_X10_171 c60K2b rfl dX10_addTest_56 rfl ?_
        refine pw_topE hb.2.2 ?_
        refine pw_iload_n (pc2 := 60) dX10_addTest_59 rfl rfl 1 rfl ?_
        refine pw_iastN (pc2 := 61) k840K2 (i := (nts σ)) (by first | assumption | omega) (by omega) dX10_addTest_60 rfl ?_
        obtain ⟨K3, FK3⟩ := K2.wIF (FK2) (t := 84) (i := 0) (f := (upd (σ.1 84 0) (nts σ) (nI p))) rfl (by decide) (iv_setI K2.iv (by decide)) rfl
        obtain ⟨h6, eh6⟩ : ∃ z : Nat → Option hE, z = va_up h7 (A 84 0) (some (aI 8 (upd (σ.1 84 0) (nts σ) (nI p)))) := ⟨_, rfl⟩
        refine PW.heap (h' := h6) eh6.symm ?_
        replace K3 : WM G h6 A (setI (setI (thS σ 0) 60 0 (upd (upd (σ.1 60 0) 7 0) 7 0)) 84 0 (upd (σ.1 84 0) (nts σ) (nI p))) := by rw [eh6]; exact K3
        replace FK3 : FM A h h6 := by rw [eh6]; exact FK3
        have c60K3 : h6 (A 60 0) = some (oB 13 [.ref (A 61 0), .ref (A 62 0), .ref (A 63 0), .ref (A 64 0), .ref (A 65 0), .ref (A 66 0), .ref (A 67 0), .ref (A 68 0), .ref (A 69 0), .ref (A 70 0), .ref (A 71 0), .ref (A 72 0), .ref (A 73 0), .ref (A 74 0), .ref (A 75 0), .ref (A 76 0), .int (σ.1 60 0 0), .ref (A 77 0), .ref (A 78 0), .ref (A 79 0), .ref (A 80 0), .ref (A 81 0), .ref (A 82 0), .ref (A 83 0), .int (σ.1 60 0 1), .ref (A 84 0), .ref (A 85 0), .ref (A 86 0), .ref (A 87 0), .ref (A 88 0), .int (σ.1 60 0 2), .int (σ.1 60 0 3), .ref (A 89 0), .int (σ.1 60 0 4), .int (σ.1 60 0 5), .int (σ.1 60 0 6), .ref (A 90 0), .int 0]) := K3.c60
        have k840K3 : h6 (A 84 0) = some (aI 8 (upd (σ.1 84 0) (nts σ) (nI p))) := K3.c84.trans (congrArg (fun w => some (aI 8 w)) (show (setI (setI (thS σ 0) 60 0 (upd (upd (σ.1 60 0) 7 0) 7 0)) 84 0 (upd (σ.1 84 0) (nts σ) (nI p))).1 84 0 = (upd (σ.1 84 0) (nts σ) (nI p)) from setI_s _ _ _))
        have k850K3 : h6 (A 85 0) = some (aI 8 (σ.1 85 0)) := K3.c85
        refine pw_aload_n (pc2 := 62) dX10_addTest_61 rfl rfl 0 rfl (by first | exact rf_ref _ | exact rf_opt _ | exact rf_nul) ?_
        refine pw_get (pc2 := 65) kX10 (k := 26) (by decide) rfl fl_X10_85 c60K3 rfl dX10_addTest_62 rfl ?_
        refine pw_aload_n (pc2 := 66) dX10_addTest_65 rfl rfl 0 rfl (by first | exact rf_ref _ | exact rf_opt _ | exact rf_nul) ?_
        refine pw_get (pc2 := 69) kX10 (k := 30) (by decide) rfl fl_X10_171 c60K3 rfl dX10_addTest_66 rfl ?_
        refine pw_topE hb.2.2 ?_
        refine pw_iload_n (pc2 := 70) dX10_addTest_69 rfl rfl 2 rfl ?_
        refine pw_iastN (pc2 := 71) k850K3 (i := (nts σ)) (by first | assumption | omega) (by omega) dX10_addTest_70 rfl ?_
        obtain ⟨K4, FK4⟩ := K3.wIF (FK3) (t := 85) (i := 0) (f := (upd (σ.1 85 0) (nts σ) l)) rfl (by decide) (iv_setI K3.iv (by decide)) rfl
        obtain ⟨h5, eh5⟩ : ∃ z : Nat → Option hE, z = va_up h6 (A 85 0) (some (aI 8 (upd (σ.1 85 0) (nts σ) l))) := ⟨_, rfl⟩
        refine PW.heap (h' := h5) eh5.symm ?_
        replace K4 : WM G h5 A (setI (setI (setI (thS σ 0) 60 0 (upd (upd (σ.1 60 0) 7 0) 7 0)) 84 0 (upd (σ.1 84 0) (nts σ) (nI p))) 85 0 (upd (σ.1 85 0) (nts σ) l)) := by rw [eh5]; exact K4
        replace FK4 : FM A h h5 := by rw [eh5]; exact FK4
        have c60K4 : h5 (A 60 0) = some (oB 13 [.ref (A 61 0), .ref (A 62 0), .ref (A 63 0), .ref (A 64 0), .ref (A 65 0), .ref (A 66 0), .ref (A 67 0), .ref (A 68 0), .ref (A 69 0), .ref (A 70 0), .ref (A 71 0), .ref (A 72 0), .ref (A 73 0), .ref (A 74 0), .ref (A 75 0), .ref (A 76 0), .int (σ.1 60 0 0), .ref (A 77 0), .ref (A 78 0), .ref (A 79 0), .ref (A 80 0), .ref (A 81 0), .ref (A 82 0), .ref (A 83 0), .int (σ.1 60 0 1), .ref (A 84 0), .ref (A 85 0), .ref (A 86 0), .ref (A 87 0), .ref (A 88 0), .int (σ.1 60 0 2), .int (σ.1 60 0 3), .ref (A 89 0), .int (σ.1 60 0 4), .int (σ.1 60 0 5), .int (σ.1 60 0 6), .ref (A 90 0), .int 0]) := K4.c60
        have k840K4 : h5 (A 84 0) = some (aI 8 (upd (σ.1 84 0) (nts σ) (nI p))) := K4.c84.trans (congrArg (fun w => some (aI 8 w)) (show (setI (setI (thS σ 0) 60 0 (upd (upd (σ.1 60 0) 7 0) 7 0)) 84 0 (upd (σ.1 84 0) (nts σ) (nI p))).1 84 0 = (upd (σ.1 84 0) (nts σ) (nI p)) from setI_s _ _ _))
        have k850K4 : h5 (A 85 0) = some (aI 8 (upd (σ.1 85 0) (nts σ) l)) := K4.c85.trans (congrArg (fun w => some (aI 8 w)) (show (setI (setI (setI (thS σ 0) 60 0 (upd (upd (σ.1 60 0) 7 0) 7 0)) 84 0 (upd (σ.1 84 0) (nts σ) (nI p))) 85 0 (upd (σ.1 85 0) (nts σ) l)).1 85 0 = (upd (σ.1 85 0) (nts σ) l) from setI_s _ _ _))
        refine pw_aload_n (pc2 := 72) dX10_addTest_71 rfl rfl 0 rfl (by first | exact rf_ref _ | exact rf_opt _ | exact rf_nul) ?_
        refine pw_dup (pc2 := 73) dX10_addTest_72 rfl (by first | rfl | exact cat_rf _) ?_
        refine pw_get (pc2 := 76) kX10 (k := 30) (by decide) rfl fl_X10_171 c60K4 rfl dX10_addTest_73 rfl ?_
        refine pw_topE hb.2.2 ?_
        refine pw_iconst (pc2 := 77) (v := 1) dX10_addTest_76 rfl (by decide) ?_
        refine pw_iadd (pc2 := 78) dX10_addTest_77 rfl ?_
        refine pw_topE (nI_1 _) ?_
        refine pw_put (pc2 := 81) kX10 (k := 30) (by decide) rfl rfl fl_X10_171 c60K4 (by first | decide | simp) (by first | rfl | exact nar_rf _ _) (by first | rfl | exact fit_rf _ _) dX10_addTest_78 rfl ?_
        obtain ⟨K5, FK5⟩ := K4.wIF (FK4) (t := 60) (i := 0) (f := (upd (upd (upd (σ.1 60 0) 7 0) 7 0) 2 (nI ((nts σ) + 1)))) rfl (by decide) (iv_setI K4.iv (by decide)) rfl
        obtain ⟨h4, eh4⟩ : ∃ z : Nat → Option hE, z = va_up h5 (A 60 0) (some (oB 13 [.ref (A 61 0), .ref (A 62 0), .ref (A 63 0), .ref (A 64 0), .ref (A 65 0), .ref (A 66 0), .ref (A 67 0), .ref (A 68 0), .ref (A 69 0), .ref (A 70 0), .ref (A 71 0), .ref (A 72 0), .ref (A 73 0), .ref (A 74 0), .ref (A 75 0), .ref (A 76 0), .int (σ.1 60 0 0), .ref (A 77 0), .ref (A 78 0), .ref (A 79 0), .ref (A 80 0), .ref (A 81 0), .ref (A 82 0), .ref (A 83 0), .int (σ.1 60 0 1), .ref (A 84 0), .ref (A 85 0), .ref (A 86 0), .ref (A 87 0), .ref (A 88 0), .int (nI ((nts σ) + 1)), .int (σ.1 60 0 3), .ref (A 89 0), .int (σ.1 60 0 4), .int (σ.1 60 0 5), .int (σ.1 60 0 6), .ref (A 90 0), .int 0])) := ⟨_, rfl⟩
        refine PW.heap (h' := h4) eh4.symm ?_
        replace K5 : WM G h4 A (setI (setI (setI (setI (thS σ 0) 60 0 (upd (upd (σ.1 60 0) 7 0) 7 0)) 84 0 (upd (σ.1 84 0) (nts σ) (nI p))) 85 0 (upd (σ.1 85 0) (nts σ) l)) 60 0 (upd (upd (upd (σ.1 60 0) 7 0) 7 0) 2 (nI ((nts σ) + 1)))) := by rw [eh4]; exact K5
        replace FK5 : FM A h h4 := by rw [eh4]; exact FK5
        have c60K5b : h4 (A 60 0) = some (oB 13 [.ref (A 61 0), .ref (A 62 0), .ref (A 63 0), .ref (A 64 0), .ref (A 65 0), .ref (A 66 0), .ref (A 67 0), .ref (A 68 0), .ref (A 69 0), .ref (A 70 0), .ref (A 71 0), .ref (A 72 0), .ref (A 73 0), .ref (A 74 0), .ref (A 75 0), .ref (A 76 0), .int (σ.1 60 0 0), .ref (A 77 0), .ref (A 78 0), .ref (A 79 0), .ref (A 80 0), .ref (A 81 0), .ref (A 82 0), .ref (A 83 0), .int (σ.1 60 0 1), .ref (A 84 0), .ref (A 85 0), .ref (A 86 0), .ref (A 87 0), .ref (A 88 0), .int (nI ((nts σ) + 1)), .int (σ.1 60 0 3), .ref (A 89 0), .int (σ.1 60 0 4), .int (σ.1 60 0 5), .int (σ.1 60 0 6), .ref (A 90 0), .int 0]) := K5.c60
        refine pw_aload_n (pc2 := 82) dX10_addTest_81 rfl rfl 0 rfl (by first | exact rf_ref _ | exact rf_opt _ | exact rf_nul) ?_
        refine pw_get (pc2 := 85) kX10 (k := 30) (by decide) rfl fl_X10_171 c60K5b rfl dX10_addTest_82 rfl ?_
        refine pw_iconst (pc2 := 86) (v := 1) dX10_addTest_85 rfl (by decide) ?_
        refine pw_isub (pc2 := 87) dX10_addTest_86 rfl ?_
        refine pw_topE (nI_sub1 (by omega)) ?_
        refine pw_iret dX10_addTest_87 rfl (by first | rfl | assumption | simp [narrow]) ?_
        exact Or.inr ⟨p, hpp, rfl, Or.inr (Or.inr ⟨q15, hnt, rfl, K5, FK5⟩)⟩
      · refine pw_iconst (pc2 := 35) (v := 3) dX10_addTest_34 rfl (by decide) ?_
        refine pw_goto (tgt := 39) dX10_addTest_35 (by decide) ?_
        refine pw_put (pc2 := 42) kX10 (k := 37) (by decide) rfl rfl fl_X10_109 c60K1 (by first | decide | simp) (by first | rfl | exact nar_rf _ _) (by first | rfl | exact fit_rf _ _) dX10_addTest_39 rfl ?_
        obtain ⟨K2, FK2⟩ := K1.wIF (FK1) (t := 60) (i := 0) (f := (upd (upd (σ.1 60 0) 7 0) 7 3)) rfl (by decide) (iv_setI K1.iv (by decide)) rfl
        obtain ⟨h7, eh7⟩ : ∃ z : Nat → Option hE, z = va_up h9 (A 60 0) (some (oB 13 [.ref (A 61 0), .ref (A 62 0), .ref (A 63 0), .ref (A 64 0), .ref (A 65 0), .ref (A 66 0), .ref (A 67 0), .ref (A 68 0), .ref (A 69 0), .ref (A 70 0), .ref (A 71 0), .ref (A 72 0), .ref (A 73 0), .ref (A 74 0), .ref (A 75 0), .ref (A 76 0), .int (σ.1 60 0 0), .ref (A 77 0), .ref (A 78 0), .ref (A 79 0), .ref (A 80 0), .ref (A 81 0), .ref (A 82 0), .ref (A 83 0), .int (σ.1 60 0 1), .ref (A 84 0), .ref (A 85 0), .ref (A 86 0), .ref (A 87 0), .ref (A 88 0), .int (σ.1 60 0 2), .int (σ.1 60 0 3), .ref (A 89 0), .int (σ.1 60 0 4), .int (σ.1 60 0 5), .int (σ.1 60 0 6), .ref (A 90 0), .int 3])) := ⟨_, rfl⟩
        refine PW.heap (h' := h7) eh7.symm ?_
        replace K2 : WM G h7 A (setI (thS σ 0) 60 0 (upd (upd (σ.1 60 0) 7 0) 7 3)) := by rw [eh7]; exact K2
        replace FK2 : FM A h h7 := by rw [eh7]; exact FK2
        have c60K2b : h7 (A 60 0) = some (oB 13 [.ref (A 61 0), .ref (A 62 0), .ref (A 63 0), .ref (A 64 0), .ref (A 65 0), .ref (A 66 0), .ref (A 67 0), .ref (A 68 0), .ref (A 69 0), .ref (A 70 0), .ref (A 71 0), .ref (A 72 0), .ref (A 73 0), .ref (A 74 0), .ref (A 75 0), .ref (A 76 0), .int (σ.1 60 0 0), .ref (A 77 0), .ref (A 78 0), .ref (A 79 0), .ref (A 80 0), .ref (A 81 0), .ref (A 82 0), .ref (A 83 0), .int (σ.1 60 0 1), .ref (A 84 0), .ref (A 85 0), .ref (A 86 0), .ref (A 87 0), .ref (A 88 0), .int (σ.1 60 0 2), .int (σ.1 60 0 3), .ref (A 89 0), .int (σ.1 60 0 4), .int (σ.1 60 0 5), .int (σ.1 60 0 6), .ref (A 90 0), .int 3]) := K2.c60
        refine pw_aload_n (pc2 := 43) dX10_addTest_42 rfl rfl 0 rfl (by first | exact rf_ref _ | exact rf_opt _ | exact rf_nul) ?_
        refine pw_get (pc2 := 46) kX10 (k := 37) (by decide) rfl fl_X10_109 c60K2b rfl dX10_addTest_43 rfl ?_
        refine pw_if_le (tgt := 51) (pc2 := 49) dX10_addTest_46 (by decide) rfl (fun c46 => by exact absurd c46 (by decide)) (fun _ => ?_)
        refine pw_iconst (pc2 := 50) (v := 0) dX10_addTest_49 rfl (by decide) ?_
        refine pw_iret dX10_addTest_50 rfl (by first | rfl | assumption | simp [narrow]) ?_
        exact Or.inr ⟨p, hpp, rfl, Or.inr (Or.inl ⟨q15, nI_inj (by omega) (by decide) c31, rfl, K2, FK2⟩)⟩
    · refine pw_if_ne (tgt := 25) (pc2 := 21) dX10_addTest_18 (by decide) rfl (fun c18 => by exact absurd (by decide) c18) (fun _ => ?_)
      refine pw_iconst (pc2 := 22) (v := 2) dX10_addTest_21 rfl (by decide) ?_
      refine pw_goto (tgt := 39) dX10_addTest_22 (by decide) ?_
      refine pw_put (pc2 := 42) kX10 (k := 37) (by decide) rfl rfl fl_X10_109 c60K1 (by first | decide | simp) (by first | rfl | exact nar_rf _ _) (by first | rfl | exact fit_rf _ _) dX10_addTest_39 rfl ?_
      obtain ⟨K2, FK2⟩ := K1.wIF (FK1) (t := 60) (i := 0) (f := (upd (upd (σ.1 60 0) 7 0) 7 2)) rfl (by decide) (iv_setI K1.iv (by decide)) rfl
      obtain ⟨h7, eh7⟩ : ∃ z : Nat → Option hE, z = va_up h9 (A 60 0) (some (oB 13 [.ref (A 61 0), .ref (A 62 0), .ref (A 63 0), .ref (A 64 0), .ref (A 65 0), .ref (A 66 0), .ref (A 67 0), .ref (A 68 0), .ref (A 69 0), .ref (A 70 0), .ref (A 71 0), .ref (A 72 0), .ref (A 73 0), .ref (A 74 0), .ref (A 75 0), .ref (A 76 0), .int (σ.1 60 0 0), .ref (A 77 0), .ref (A 78 0), .ref (A 79 0), .ref (A 80 0), .ref (A 81 0), .ref (A 82 0), .ref (A 83 0), .int (σ.1 60 0 1), .ref (A 84 0), .ref (A 85 0), .ref (A 86 0), .ref (A 87 0), .ref (A 88 0), .int (σ.1 60 0 2), .int (σ.1 60 0 3), .ref (A 89 0), .int (σ.1 60 0 4), .int (σ.1 60 0 5), .int (σ.1 60 0 6), .ref (A 90 0), .int 2])) := ⟨_, rfl⟩
      refine PW.heap (h' := h7) eh7.symm ?_
      replace K2 : WM G h7 A (setI (thS σ 0) 60 0 (upd (upd (σ.1 60 0) 7 0) 7 2)) := by rw [eh7]; exact K2
      replace FK2 : FM A h h7 := by rw [eh7]; exact FK2
      have c60K2b : h7 (A 60 0) = some (oB 13 [.ref (A 61 0), .ref (A 62 0), .ref (A 63 0), .ref (A 64 0), .ref (A 65 0), .ref (A 66 0), .ref (A 67 0), .ref (A 68 0), .ref (A 69 0), .ref (A 70 0), .ref (A 71 0), .ref (A 72 0), .ref (A 73 0), .ref (A 74 0), .ref (A 75 0), .ref (A 76 0), .int (σ.1 60 0 0), .ref (A 77 0), .ref (A 78 0), .ref (A 79 0), .ref (A 80 0), .ref (A 81 0), .ref (A 82 0), .ref (A 83 0), .int (σ.1 60 0 1), .ref (A 84 0), .ref (A 85 0), .ref (A 86 0), .ref (A 87 0), .ref (A 88 0), .int (σ.1 60 0 2), .int (σ.1 60 0 3), .ref (A 89 0), .int (σ.1 60 0 4), .int (σ.1 60 0 5), .int (σ.1 60 0 6), .ref (A 90 0), .int 2]) := K2.c60
      refine pw_aload_n (pc2 := 43) dX10_addTest_42 rfl rfl 0 rfl (by first | exact rf_ref _ | exact rf_opt _ | exact rf_nul) ?_
      refine pw_get (pc2 := 46) kX10 (k := 37) (by decide) rfl fl_X10_109 c60K2b rfl dX10_addTest_43 rfl ?_
      refine pw_if_le (tgt := 51) (pc2 := 49) dX10_addTest_46 (by decide) rfl (fun c46 => by exact absurd c46 (by decide)) (fun _ => ?_)
      refine pw_iconst (pc2 := 50) (v := 0) dX10_addTest_49 rfl (by decide) ?_
      refine pw_iret dX10_addTest_50 rfl (by first | rfl | assumption | simp [narrow]) ?_
      exact Or.inr ⟨p, hpp, rfl, Or.inl ⟨q15, rfl, K2, FK2⟩⟩
  · refine pw_if_eq (tgt := 10) (pc2 := 8) dX10_addTest_5 (by decide) rfl (fun c5 => by exact absurd c5 (by decide)) (fun _ => ?_)
    refine pw_iconst (pc2 := 9) (v := 0) dX10_addTest_8 rfl (by decide) ?_
    refine pw_iret dX10_addTest_9 rfl (by first | rfl | assumption | simp [narrow]) ?_
    exact Or.inl ⟨hin, rfl, K1, FK1⟩
set_option maxHeartbeats 4000000 in
set_option maxRecDepth 100000 in
theorem c_msetFail (G : hG) (h : hp) {A : aT} {σ : sT} (H : WM G h A σ) (hb : MB σ) (hT : RT σ) (n : Int32) {x : Int32} (hx : b01 x) : PMet G MX10_setFailing 3 0 0 [.ref (A 60 0), .int n, .int x] h (fun r h2 => (¬ inR n (nts σ) ∧ QSM G h A (.int 0) (thS σ 1) r h2) ∨ (∃ t, t < nts σ ∧ n = nI t ∧ QSM G h A (.int (σ.1 86 0 t)) (setI (thS σ 0) 86 0 (upd (σ.1 86 0) t x)) r h2)) noX := by
  have hnt8 := H.iv.2.1
  refine PMet.of (by decide +kernel) (Nat.le_of_ble_eq_true rfl) (fun d hd => ?_)
  refine PW.sub (L2 := [(0, Value.ref (A 60 0)), (1, Value.int n), (2, Value.int x)]) [0, 1, 2] rfl ?_
  refine pw_aload_n (pc2 := 1) dX10_setFailing_0 rfl rfl 0 rfl (by first | exact rf_ref _ | exact rf_opt _ | exact rf_nul) ?_
  refine pw_iload_n (pc2 := 2) dX10_setFailing_1 rfl rfl 1 rfl ?_
  refine pw_callV (pc2 := 5) (c_noTest G _ H hb n) cs_X10_174 rfl rfl H.c60 dX10_setFailing_2 rfl (by omega) rfl (by first | decide | simp [cat_rf, Value.category]) (fun r9 h9 q9 => ?_) (fun Y h9 q9 => q9.elim)
  rcases q9 with ⟨hin, rfl, K1, FK1⟩ | ⟨hin, rfl, K1, FK1⟩
  · obtain ⟨t, hpp, rfl⟩ := inR_ex (by omega) hin
    have ht6 : t < 8 := by omega
    have c60K1 : h9 (A 60 0) = some (oB 13 [.ref (A 61 0), .ref (A 62 0), .ref (A 63 0), .ref (A 64 0), .ref (A 65 0), .ref (A 66 0), .ref (A 67 0), .ref (A 68 0), .ref (A 69 0), .ref (A 70 0), .ref (A 71 0), .ref (A 72 0), .ref (A 73 0), .ref (A 74 0), .ref (A 75 0), .ref (A 76 0), .int (σ.1 60 0 0), .ref (A 77 0), .ref (A 78 0), .ref (A 79 0), .ref (A 80 0), .ref (A 81 0), .ref (A 82 0), .ref (A 83 0), .int (σ.1 60 0 1), .ref (A 84 0), .ref (A 85 0), .ref (A 86 0), .ref (A 87 0), .ref (A 88 0), .int (σ.1 60 0 2), .int (σ.1 60 0 3), .ref (A 89 0), .int (σ.1 60 0 4), .int (σ.1 60 0 5), .int (σ.1 60 0 6), .ref (A 90 0), .int 0]) := K1.c60
    have k860K1 : h9 (A 86 0) = some (aZ 8 (σ.1 86 0)) := K1.c86
    refine pw_if_eq (tgt := 10) (pc2 := 8) dX10_setFailing_5 (by decide) rfl (fun _ => ?_) (fun c5 => by exact absurd (by decide) c5)
    refine pw_aload_n (pc2 := 11) dX10_setFailing_10 rfl rfl 0 rfl (by first | exact rf_ref _ | exact rf_opt _ | exact rf_nul) ?_
    refine pw_get (pc2 := 14) kX10 (k := 27) (by decide) rfl fl_X10_88 c60K1 rfl dX10_setFailing_11 rfl ?_
    refine pw_iload_n (pc2 := 15) dX10_setFailing_14 rfl rfl 1 rfl ?_
    refine pw_zaldN (pc2 := 16) k860K1 (i := t) (by first | assumption | omega) (by omega) dX10_setFailing_15 rfl ?_
    refine pw_topi (fun v1 ev1 => ?_)
    have hb1 : b01 v1 := ev1.symm ▸ ((hT t hpp).2.2.1 ▸ (H.iv.2.2.2.2.2.2.2.2.2.2 t hpp).1)
    refine pw_istore_n (pc2 := 17) (L2 := [(3, Value.int v1), (0, Value.ref (A 60 0)), (1, Value.int (nI t)), (2, Value.int x)]) dX10_setFailing_16 rfl rfl (by decide) rfl ?_
    refine pw_aload_n (pc2 := 18) dX10_setFailing_17 rfl rfl 1 rfl (by first | exact rf_ref _ | exact rf_opt _ | exact rf_nul) ?_
    refine pw_get (pc2 := 21) kX10 (k := 27) (by decide) rfl fl_X10_88 c60K1 rfl dX10_setFailing_18 rfl ?_
    refine pw_iload_n (pc2 := 22) dX10_setFailing_21 rfl rfl 2 rfl ?_
    refine pw_iload_n (pc2 := 23) dX10_setFailing_22 rfl rfl 3 rfl ?_
    refine pw_zastN (pc2 := 24) k860K1 (i := t) (by first | assumption | omega) (by omega) (nar_b hx) dX10_setFailing_23 rfl ?_
    obtain ⟨K2, FK2⟩ := K1.wIF (FK1) (t := 86) (i := 0) (f := (upd (σ.1 86 0) t x)) rfl (by decide) (iv_setI K1.iv (by decide)) rfl
    obtain ⟨h7, eh7⟩ : ∃ z : Nat → Option hE, z = va_up h9 (A 86 0) (some (aZ 8 (upd (σ.1 86 0) t x))) := ⟨_, rfl⟩
    refine PW.heap (h' := h7) eh7.symm ?_
    replace K2 : WM G h7 A (setI (thS σ 0) 86 0 (upd (σ.1 86 0) t x)) := by rw [eh7]; exact K2
    replace FK2 : FM A h h7 := by rw [eh7]; exact FK2
    have c60K2 : h7 (A 60 0) = some (oB 13 [.ref (A 61 0), .ref (A 62 0), .ref (A 63 0), .ref (A 64 0), .ref (A 65 0), .ref (A 66 0), .ref (A 67 0), .ref (A 68 0), .ref (A 69 0), .ref (A 70 0), .ref (A 71 0), .ref (A 72 0), .ref (A 73 0), .ref (A 74 0), .ref (A 75 0), .ref (A 76 0), .int (σ.1 60 0 0), .ref (A 77 0), .ref (A 78 0), .ref (A 79 0), .ref (A 80 0), .ref (A 81 0), .ref (A 82 0), .ref (A 83 0), .int (σ.1 60 0 1), .ref (A 84 0), .ref (A 85 0), .ref (A 86 0), .ref (A 87 0), .ref (A 88 0), .int (σ.1 60 0 2), .int (σ.1 60 0 3), .ref (A 89 0), .int (σ.1 60 0 4), .int (σ.1 60 0 5), .int (σ.1 60 0 6), .ref (A 90 0), .int 0]) := K2.c60
    have k860K2 : h7 (A 86 0) = some (aZ 8 (upd (σ.1 86 0) t x)) := K2.c86.trans (congrArg (fun w => some (aZ 8 w)) (show (setI (thS σ 0) 86 0 (upd (σ.1 86 0) t x)).1 86 0 = (upd (σ.1 86 0) t x) from setI_s _ _ _))
    refine pw_iload_n (pc2 := 25) dX10_setFailing_24 rfl rfl 0 rfl ?_
    refine pw_iret dX10_setFailing_25 rfl (nar_b2 hb1) ?_
    exact Or.inr ⟨t, hpp, rfl, by rw [ev1], K2, FK2⟩
  · refine pw_if_eq (tgt := 10) (pc2 := 8) dX10_setFailing_5 (by decide) rfl (fun c5 => by exact absurd c5 (by decide)) (fun _ => ?_)
    refine pw_iconst (pc2 := 9) (v := 0) dX10_setFailing_8 rfl (by decide) ?_
    refine pw_iret dX10_setFailing_9 rfl (by first | rfl | assumption | simp [narrow]) ?_
    exact Or.inl ⟨hin, rfl, K1, FK1⟩
set_option maxHeartbeats 4000000 in
set_option maxRecDepth 100000 in
theorem c_msetMach (G : hG) (h : hp) {A : aT} {σ : sT} (H : WM G h A σ) (hb : MB σ) (m : Int32) : PMet G MX10_setMachines 1 0 0 [.ref (A 60 0), .int m] h (fun r h2 => (¬ (1 ≤ m ∧ m ≤ 4) ∧ QSM G h A (.int 0) (thS σ 1) r h2) ∨ ((1 ≤ m ∧ m ≤ 4) ∧ QSM G h A (.int (σ.1 60 0 3)) (setI (thS σ 0) 60 0 (upd (upd (σ.1 60 0) 7 0) 3 m)) r h2)) noX := by
  refine PMet.of (by decide +kernel) (Nat.le_of_ble_eq_true rfl) (fun d hd => ?_)
  refine PW.sub (L2 := [(0, Value.ref (A 60 0)), (1, Value.int m)]) [0, 1] rfl ?_
  refine pw_aload_n (pc2 := 1) dX10_setMachines_0 rfl rfl 0 rfl (by first | exact rf_ref _ | exact rf_opt _ | exact rf_nul) ?_
  refine pw_iload_n (pc2 := 2) dX10_setMachines_1 rfl rfl 1 rfl ?_
  refine pw_iconst (pc2 := 3) (v := 1) dX10_setMachines_2 rfl (by decide) ?_
  refine pw_iconst (pc2 := 4) (v := 4) dX10_setMachines_3 rfl (by decide) ?_
  refine pw_callSb (pc2 := 7) (c_in G _ m 1 4) cs_X10_115 rfl dX10_setMachines_4 rfl (by omega) rfl (by first | decide | simp [cat_rf, Value.category]) (fun q4 => ?_) (fun q4 => ?_)
  · refine pw_if_eq (tgt := 14) (pc2 := 10) dX10_setMachines_7 (by decide) rfl (fun c7 => by exact absurd c7 (by decide)) (fun _ => ?_)
    refine pw_iconst (pc2 := 11) (v := 0) dX10_setMachines_10 rfl (by decide) ?_
    refine pw_goto (tgt := 15) dX10_setMachines_11 (by decide) ?_
    refine pw_put (pc2 := 18) kX10 (k := 37) (by decide) rfl rfl fl_X10_109 H.c60 (by first | decide | simp) (by first | rfl | exact nar_rf _ _) (by first | rfl | exact fit_rf _ _) dX10_setMachines_15 rfl ?_
    obtain ⟨K1, FK1⟩ := H.wIF (FM.rfl') (t := 60) (i := 0) (f := (upd (σ.1 60 0) 7 0)) rfl (by decide) (iv_setI H.iv (by decide)) rfl
    obtain ⟨h2, eh2⟩ : ∃ z : Nat → Option hE, z = va_up h (A 60 0) (some (oB 13 [.ref (A 61 0), .ref (A 62 0), .ref (A 63 0), .ref (A 64 0), .ref (A 65 0), .ref (A 66 0), .ref (A 67 0), .ref (A 68 0), .ref (A 69 0), .ref (A 70 0), .ref (A 71 0), .ref (A 72 0), .ref (A 73 0), .ref (A 74 0), .ref (A 75 0), .ref (A 76 0), .int (σ.1 60 0 0), .ref (A 77 0), .ref (A 78 0), .ref (A 79 0), .ref (A 80 0), .ref (A 81 0), .ref (A 82 0), .ref (A 83 0), .int (σ.1 60 0 1), .ref (A 84 0), .ref (A 85 0), .ref (A 86 0), .ref (A 87 0), .ref (A 88 0), .int (σ.1 60 0 2), .int (σ.1 60 0 3), .ref (A 89 0), .int (σ.1 60 0 4), .int (σ.1 60 0 5), .int (σ.1 60 0 6), .ref (A 90 0), .int 0])) := ⟨_, rfl⟩
    refine PW.heap (h' := h2) eh2.symm ?_
    replace K1 : WM G h2 A (thS σ 0) := by rw [eh2]; exact K1
    replace FK1 : FM A h h2 := by rw [eh2]; exact FK1
    have c60K1 : h2 (A 60 0) = some (oB 13 [.ref (A 61 0), .ref (A 62 0), .ref (A 63 0), .ref (A 64 0), .ref (A 65 0), .ref (A 66 0), .ref (A 67 0), .ref (A 68 0), .ref (A 69 0), .ref (A 70 0), .ref (A 71 0), .ref (A 72 0), .ref (A 73 0), .ref (A 74 0), .ref (A 75 0), .ref (A 76 0), .int (σ.1 60 0 0), .ref (A 77 0), .ref (A 78 0), .ref (A 79 0), .ref (A 80 0), .ref (A 81 0), .ref (A 82 0), .ref (A 83 0), .int (σ.1 60 0 1), .ref (A 84 0), .ref (A 85 0), .ref (A 86 0), .ref (A 87 0), .ref (A 88 0), .int (σ.1 60 0 2), .int (σ.1 60 0 3), .ref (A 89 0), .int (σ.1 60 0 4), .int (σ.1 60 0 5), .int (σ.1 60 0 6), .ref (A 90 0), .int 0]) := K1.c60
    refine pw_aload_n (pc2 := 19) dX10_setMachines_18 rfl rfl 0 rfl (by first | exact rf_ref _ | exact rf_opt _ | exact rf_nul) ?_
    refine pw_get (pc2 := 22) kX10 (k := 37) (by decide) rfl fl_X10_109 c60K1 rfl dX10_setMachines_19 rfl ?_
    refine pw_if_le (tgt := 27) (pc2 := 25) dX10_setMachines_22 (by decide) rfl (fun _ => ?_) (fun c22 => by exact absurd (by decide) c22)
    refine pw_aload_n (pc2 := 28) dX10_setMachines_27 rfl rfl 0 rfl (by first | exact rf_ref _ | exact rf_opt _ | exact rf_nul) ?_
    refine pw_get (pc2 := 31) kX10 (k := 31) (by decide) rfl fl_X10_99 c60K1 rfl dX10_setMachines_28 rfl ?_
    refine pw_topi (fun v1 ev1 => ?_)
    refine pw_istore_n (pc2 := 32) (L2 := [(2, Value.int v1), (0, Value.ref (A 60 0)), (1, Value.int m)]) dX10_setMachines_31 rfl rfl (by decide) rfl ?_
    refine pw_aload_n (pc2 := 33) dX10_setMachines_32 rfl rfl 1 rfl (by first | exact rf_ref _ | exact rf_opt _ | exact rf_nul) ?_
    refine pw_iload_n (pc2 := 34) dX10_setMachines_33 rfl rfl 2 rfl ?_
    refine pw_put (pc2 := 37) kX10 (k := 31) (by decide) rfl rfl fl_X10_99 c60K1 (by first | decide | simp) (by first | rfl | exact nar_rf _ _) (by first | rfl | exact fit_rf _ _) dX10_setMachines_34 rfl ?_
    obtain ⟨K2, FK2⟩ := K1.wIF (FK1) (t := 60) (i := 0) (f := (upd (upd (σ.1 60 0) 7 0) 3 m)) rfl (by decide) (iv_setI K1.iv (by decide)) rfl
    obtain ⟨h7, eh7⟩ : ∃ z : Nat → Option hE, z = va_up h2 (A 60 0) (some (oB 13 [.ref (A 61 0), .ref (A 62 0), .ref (A 63 0), .ref (A 64 0), .ref (A 65 0), .ref (A 66 0), .ref (A 67 0), .ref (A 68 0), .ref (A 69 0), .ref (A 70 0), .ref (A 71 0), .ref (A 72 0), .ref (A 73 0), .ref (A 74 0), .ref (A 75 0), .ref (A 76 0), .int (σ.1 60 0 0), .ref (A 77 0), .ref (A 78 0), .ref (A 79 0), .ref (A 80 0), .ref (A 81 0), .ref (A 82 0), .ref (A 83 0), .int (σ.1 60 0 1), .ref (A 84 0), .ref (A 85 0), .ref (A 86 0), .ref (A 87 0), .ref (A 88 0), .int (σ.1 60 0 2), .int m, .ref (A 89 0), .int (σ.1 60 0 4), .int (σ.1 60 0 5), .int (σ.1 60 0 6), .ref (A 90 0), .int 0])) := ⟨_, rfl⟩
    refine PW.heap (h' := h7) eh7.symm ?_
    replace K2 : WM G h7 A (setI (thS σ 0) 60 0 (upd (upd (σ.1 60 0) 7 0) 3 m)) := by rw [eh7]; exact K2
    replace FK2 : FM A h h7 := by rw [eh7]; exact FK2
    have c60K2b : h7 (A 60 0) = some (oB 13 [.ref (A 61 0), .ref (A 62 0), .ref (A 63 0), .ref (A 64 0), .ref (A 65 0), .ref (A 66 0), .ref (A 67 0), .ref (A 68 0), .ref (A 69 0), .ref (A 70 0), .ref (A 71 0), .ref (A 72 0), .ref (A 73 0), .ref (A 74 0), .ref (A 75 0), .ref (A 76 0), .int (σ.1 60 0 0), .ref (A 77 0), .ref (A 78 0), .ref (A 79 0), .ref (A 80 0), .ref (A 81 0), .ref (A 82 0), .ref (A 83 0), .int (σ.1 60 0 1), .ref (A 84 0), .ref (A 85 0), .ref (A 86 0), .ref (A 87 0), .ref (A 88 0), .int (σ.1 60 0 2), .int m, .ref (A 89 0), .int (σ.1 60 0 4), .int (σ.1 60 0 5), .int (σ.1 60 0 6), .ref (A 90 0), .int 0]) := K2.c60
    refine pw_iload_n (pc2 := 38) dX10_setMachines_37 rfl rfl 0 rfl ?_
    refine pw_iret dX10_setMachines_38 rfl (by first | rfl | assumption | simp [narrow]) ?_
    exact Or.inr ⟨q4, by rw [ev1], K2, FK2⟩
  · refine pw_if_eq (tgt := 14) (pc2 := 10) dX10_setMachines_7 (by decide) rfl (fun _ => ?_) (fun c7 => by exact absurd (by decide) c7)
    refine pw_iconst (pc2 := 15) (v := 1) dX10_setMachines_14 rfl (by decide) ?_
    refine pw_put (pc2 := 18) kX10 (k := 37) (by decide) rfl rfl fl_X10_109 H.c60 (by first | decide | simp) (by first | rfl | exact nar_rf _ _) (by first | rfl | exact fit_rf _ _) dX10_setMachines_15 rfl ?_
    obtain ⟨K1, FK1⟩ := H.wIF (FM.rfl') (t := 60) (i := 0) (f := (upd (σ.1 60 0) 7 1)) rfl (by decide) (iv_setI H.iv (by decide)) rfl
    obtain ⟨h2, eh2⟩ : ∃ z : Nat → Option hE, z = va_up h (A 60 0) (some (oB 13 [.ref (A 61 0), .ref (A 62 0), .ref (A 63 0), .ref (A 64 0), .ref (A 65 0), .ref (A 66 0), .ref (A 67 0), .ref (A 68 0), .ref (A 69 0), .ref (A 70 0), .ref (A 71 0), .ref (A 72 0), .ref (A 73 0), .ref (A 74 0), .ref (A 75 0), .ref (A 76 0), .int (σ.1 60 0 0), .ref (A 77 0), .ref (A 78 0), .ref (A 79 0), .ref (A 80 0), .ref (A 81 0), .ref (A 82 0), .ref (A 83 0), .int (σ.1 60 0 1), .ref (A 84 0), .ref (A 85 0), .ref (A 86 0), .ref (A 87 0), .ref (A 88 0), .int (σ.1 60 0 2), .int (σ.1 60 0 3), .ref (A 89 0), .int (σ.1 60 0 4), .int (σ.1 60 0 5), .int (σ.1 60 0 6), .ref (A 90 0), .int 1])) := ⟨_, rfl⟩
    refine PW.heap (h' := h2) eh2.symm ?_
    replace K1 : WM G h2 A (thS σ 1) := by rw [eh2]; exact K1
    replace FK1 : FM A h h2 := by rw [eh2]; exact FK1
    have c60K1 : h2 (A 60 0) = some (oB 13 [.ref (A 61 0), .ref (A 62 0), .ref (A 63 0), .ref (A 64 0), .ref (A 65 0), .ref (A 66 0), .ref (A 67 0), .ref (A 68 0), .ref (A 69 0), .ref (A 70 0), .ref (A 71 0), .ref (A 72 0), .ref (A 73 0), .ref (A 74 0), .ref (A 75 0), .ref (A 76 0), .int (σ.1 60 0 0), .ref (A 77 0), .ref (A 78 0), .ref (A 79 0), .ref (A 80 0), .ref (A 81 0), .ref (A 82 0), .ref (A 83 0), .int (σ.1 60 0 1), .ref (A 84 0), .ref (A 85 0), .ref (A 86 0), .ref (A 87 0), .ref (A 88 0), .int (σ.1 60 0 2), .int (σ.1 60 0 3), .ref (A 89 0), .int (σ.1 60 0 4), .int (σ.1 60 0 5), .int (σ.1 60 0 6), .ref (A 90 0), .int 1]) := K1.c60
    refine pw_aload_n (pc2 := 19) dX10_setMachines_18 rfl rfl 0 rfl (by first | exact rf_ref _ | exact rf_opt _ | exact rf_nul) ?_
    refine pw_get (pc2 := 22) kX10 (k := 37) (by decide) rfl fl_X10_109 c60K1 rfl dX10_setMachines_19 rfl ?_
    refine pw_if_le (tgt := 27) (pc2 := 25) dX10_setMachines_22 (by decide) rfl (fun c22 => by exact absurd c22 (by decide)) (fun _ => ?_)
    refine pw_iconst (pc2 := 26) (v := 0) dX10_setMachines_25 rfl (by decide) ?_
    refine pw_iret dX10_setMachines_26 rfl (by first | rfl | assumption | simp [narrow]) ?_
    exact Or.inl ⟨q4, rfl, K1, FK1⟩
set_option maxHeartbeats 4000000 in
set_option maxRecDepth 100000 in
theorem c_mfund (G : hG) (h : hp) {A : aT} {σ : sT} (H : WM G h A σ) (hb : MB σ) (o m : Int32) : PMet G MX10_fund 1 0 0 [.ref (A 60 0), .int o, .int m] h (fun r h2 => (¬ ((0 ≤ o ∧ o < 3) ∧ 1 ≤ m ∧ m ≤ 9999) ∧ QSM G h A (.int 0) (thS σ 1) r h2) ∨ (∃ j, j < 3 ∧ o = nI j ∧ (1 ≤ m ∧ m ≤ 9999) ∧ QSM G h A (.int (σ.1 89 0 j + m)) (setI (thS σ 0) 89 0 (upd (σ.1 89 0) j (σ.1 89 0 j + m))) r h2)) noX := by
  refine PMet.of (by decide +kernel) (Nat.le_of_ble_eq_true rfl) (fun d hd => ?_)
  refine PW.sub (L2 := [(0, Value.ref (A 60 0)), (1, Value.int o), (2, Value.int m)]) [0, 1, 2] rfl ?_
  refine pw_aload_n (pc2 := 1) dX10_fund_0 rfl rfl 0 rfl (by first | exact rf_ref _ | exact rf_opt _ | exact rf_nul) ?_
  refine pw_iload_n (pc2 := 2) dX10_fund_1 rfl rfl 1 rfl ?_
  refine pw_iconst (pc2 := 3) (v := 0) dX10_fund_2 rfl (by decide) ?_
  refine pw_iconst (pc2 := 4) (v := 2) dX10_fund_3 rfl (by decide) ?_
  refine pw_callSb (pc2 := 7) (c_in G _ o 0 2) cs_X10_115 rfl dX10_fund_4 rfl (by omega) rfl (by first | decide | simp [cat_rf, Value.category]) (fun q4 => ?_) (fun q4 => ?_)
  · refine pw_if_eq (tgt := 25) (pc2 := 10) dX10_fund_7 (by decide) rfl (fun c7 => by exact absurd c7 (by decide)) (fun _ => ?_)
    refine pw_iload_n (pc2 := 11) dX10_fund_10 rfl rfl 2 rfl ?_
    refine pw_iconst (pc2 := 12) (v := 1) dX10_fund_11 rfl (by decide) ?_
    refine pw_sipush (pc2 := 15) (v := 9999) dX10_fund_12 rfl (by decide) ?_
    refine pw_callSb (pc2 := 18) (c_in G _ m 1 9999) cs_X10_115 rfl dX10_fund_15 rfl (by omega) rfl (by first | decide | simp [cat_rf, Value.category]) (fun q15 => ?_) (fun q15 => ?_)
    · refine pw_if_eq (tgt := 25) (pc2 := 21) dX10_fund_18 (by decide) rfl (fun c18 => by exact absurd c18 (by decide)) (fun _ => ?_)
      obtain ⟨j, hj3, rfl⟩ := ow3 q4
      refine pw_iconst (pc2 := 22) (v := 0) dX10_fund_21 rfl (by decide) ?_
      refine pw_goto (tgt := 26) dX10_fund_22 (by decide) ?_
      refine pw_put (pc2 := 29) kX10 (k := 37) (by decide) rfl rfl fl_X10_109 H.c60 (by first | decide | simp) (by first | rfl | exact nar_rf _ _) (by first | rfl | exact fit_rf _ _) dX10_fund_26 rfl ?_
      obtain ⟨K1, FK1⟩ := H.wIF (FM.rfl') (t := 60) (i := 0) (f := (upd (σ.1 60 0) 7 0)) rfl (by decide) (iv_setI H.iv (by decide)) rfl
      obtain ⟨h2, eh2⟩ : ∃ z : Nat → Option hE, z = va_up h (A 60 0) (some (oB 13 [.ref (A 61 0), .ref (A 62 0), .ref (A 63 0), .ref (A 64 0), .ref (A 65 0), .ref (A 66 0), .ref (A 67 0), .ref (A 68 0), .ref (A 69 0), .ref (A 70 0), .ref (A 71 0), .ref (A 72 0), .ref (A 73 0), .ref (A 74 0), .ref (A 75 0), .ref (A 76 0), .int (σ.1 60 0 0), .ref (A 77 0), .ref (A 78 0), .ref (A 79 0), .ref (A 80 0), .ref (A 81 0), .ref (A 82 0), .ref (A 83 0), .int (σ.1 60 0 1), .ref (A 84 0), .ref (A 85 0), .ref (A 86 0), .ref (A 87 0), .ref (A 88 0), .int (σ.1 60 0 2), .int (σ.1 60 0 3), .ref (A 89 0), .int (σ.1 60 0 4), .int (σ.1 60 0 5), .int (σ.1 60 0 6), .ref (A 90 0), .int 0])) := ⟨_, rfl⟩
      refine PW.heap (h' := h2) eh2.symm ?_
      replace K1 : WM G h2 A (thS σ 0) := by rw [eh2]; exact K1
      replace FK1 : FM A h h2 := by rw [eh2]; exact FK1
      have c60K1 : h2 (A 60 0) = some (oB 13 [.ref (A 61 0), .ref (A 62 0), .ref (A 63 0), .ref (A 64 0), .ref (A 65 0), .ref (A 66 0), .ref (A 67 0), .ref (A 68 0), .ref (A 69 0), .ref (A 70 0), .ref (A 71 0), .ref (A 72 0), .ref (A 73 0), .ref (A 74 0), .ref (A 75 0), .ref (A 76 0), .int (σ.1 60 0 0), .ref (A 77 0), .ref (A 78 0), .ref (A 79 0), .ref (A 80 0), .ref (A 81 0), .ref (A 82 0), .ref (A 83 0), .int (σ.1 60 0 1), .ref (A 84 0), .ref (A 85 0), .ref (A 86 0), .ref (A 87 0), .ref (A 88 0), .int (σ.1 60 0 2), .int (σ.1 60 0 3), .ref (A 89 0), .int (σ.1 60 0 4), .int (σ.1 60 0 5), .int (σ.1 60 0 6), .ref (A 90 0), .int 0]) := K1.c60
      have k890K1 : h2 (A 89 0) = some (aI 3 (σ.1 89 0)) := K1.c89
      refine pw_aload_n (pc2 := 30) dX10_fund_29 rfl rfl 0 rfl (by first | exact rf_ref _ | exact rf_opt _ | exact rf_nul) ?_
      refine pw_get (pc2 := 33) kX10 (k := 37) (by decide) rfl fl_X10_109 c60K1 rfl dX10_fund_30 rfl ?_
      refine pw_if_le (tgt := 38) (pc2 := 36) dX10_fund_33 (by decide) rfl (fun _ => ?_) (fun c33 => by exact absurd (by decide) c33)
      refine pw_aload_n (pc2 := 39) dX10_fund_38 rfl rfl 0 rfl (by first | exact rf_ref _ | exact rf_opt _ | exact rf_nul) ?_
      refine pw_get (pc2 := 42) kX10 (k := 32) (by decide) rfl fl_X10_103 c60K1 rfl dX10_fund_39 rfl ?_
      refine pw_iload_n (pc2 := 43) dX10_fund_42 rfl rfl 1 rfl ?_
      refine pw_dup2 (pc2 := 44) dX10_fund_43 rfl (by first | rfl | exact cat_rf _) (by first | rfl | exact cat_rf _) ?_
      refine pw_ialdN (pc2 := 45) k890K1 (i := j) (by first | assumption | omega) (by omega) dX10_fund_44 rfl ?_
      refine pw_iload_n (pc2 := 46) dX10_fund_45 rfl rfl 2 rfl ?_
      refine pw_iadd (pc2 := 47) dX10_fund_46 rfl ?_
      refine pw_iastN (pc2 := 48) k890K1 (i := j) (by first | assumption | omega) (by omega) dX10_fund_47 rfl ?_
      obtain ⟨K2, FK2⟩ := K1.wIF (FK1) (t := 89) (i := 0) (f := (upd (σ.1 89 0) j (((σ.1 89 0) j) + m))) rfl (by decide) (iv_setI K1.iv (by decide)) rfl
      obtain ⟨h7, eh7⟩ : ∃ z : Nat → Option hE, z = va_up h2 (A 89 0) (some (aI 3 (upd (σ.1 89 0) j (((σ.1 89 0) j) + m)))) := ⟨_, rfl⟩
      refine PW.heap (h' := h7) eh7.symm ?_
      replace K2 : WM G h7 A (setI (thS σ 0) 89 0 (upd (σ.1 89 0) j (((σ.1 89 0) j) + m))) := by rw [eh7]; exact K2
      replace FK2 : FM A h h7 := by rw [eh7]; exact FK2
      have c60K2 : h7 (A 60 0) = some (oB 13 [.ref (A 61 0), .ref (A 62 0), .ref (A 63 0), .ref (A 64 0), .ref (A 65 0), .ref (A 66 0), .ref (A 67 0), .ref (A 68 0), .ref (A 69 0), .ref (A 70 0), .ref (A 71 0), .ref (A 72 0), .ref (A 73 0), .ref (A 74 0), .ref (A 75 0), .ref (A 76 0), .int (σ.1 60 0 0), .ref (A 77 0), .ref (A 78 0), .ref (A 79 0), .ref (A 80 0), .ref (A 81 0), .ref (A 82 0), .ref (A 83 0), .int (σ.1 60 0 1), .ref (A 84 0), .ref (A 85 0), .ref (A 86 0), .ref (A 87 0), .ref (A 88 0), .int (σ.1 60 0 2), .int (σ.1 60 0 3), .ref (A 89 0), .int (σ.1 60 0 4), .int (σ.1 60 0 5), .int (σ.1 60 0 6), .ref (A 90 0), .int 0]) := K2.c60
      have k890K2 : h7 (A 89 0) = some (aI 3 (upd (σ.1 89 0) j (((σ.1 89 0) j) + m))) := K2.c89.trans (congrArg (fun w => some (aI 3 w)) (show (setI (thS σ 0) 89 0 (upd (σ.1 89 0) j (((σ.1 89 0) j) + m))).1 89 0 = (upd (σ.1 89 0) j (((σ.1 89 0) j) + m)) from setI_s _ _ _))
      refine pw_aload_n (pc2 := 49) dX10_fund_48 rfl rfl 0 rfl (by first | exact rf_ref _ | exact rf_opt _ | exact rf_nul) ?_
      refine pw_get (pc2 := 52) kX10 (k := 32) (by decide) rfl fl_X10_103 c60K2 rfl dX10_fund_49 rfl ?_
      refine pw_iload_n (pc2 := 53) dX10_fund_52 rfl rfl 1 rfl ?_
      refine pw_ialdN (pc2 := 54) k890K2 (i := j) (by first | assumption | omega) (by omega) dX10_fund_53 rfl ?_
      refine pw_iret dX10_fund_54 rfl (by first | rfl | assumption | simp [narrow]) ?_
      exact Or.inr ⟨j, hj3, rfl, q15, by rw [upd_s], K2, FK2⟩
    · refine pw_if_eq (tgt := 25) (pc2 := 21) dX10_fund_18 (by decide) rfl (fun _ => ?_) (fun c18 => by exact absurd (by decide) c18)
      refine pw_iconst (pc2 := 26) (v := 1) dX10_fund_25 rfl (by decide) ?_
      refine pw_put (pc2 := 29) kX10 (k := 37) (by decide) rfl rfl fl_X10_109 H.c60 (by first | decide | simp) (by first | rfl | exact nar_rf _ _) (by first | rfl | exact fit_rf _ _) dX10_fund_26 rfl ?_
      obtain ⟨K1, FK1⟩ := H.wIF (FM.rfl') (t := 60) (i := 0) (f := (upd (σ.1 60 0) 7 1)) rfl (by decide) (iv_setI H.iv (by decide)) rfl
      obtain ⟨h2, eh2⟩ : ∃ z : Nat → Option hE, z = va_up h (A 60 0) (some (oB 13 [.ref (A 61 0), .ref (A 62 0), .ref (A 63 0), .ref (A 64 0), .ref (A 65 0), .ref (A 66 0), .ref (A 67 0), .ref (A 68 0), .ref (A 69 0), .ref (A 70 0), .ref (A 71 0), .ref (A 72 0), .ref (A 73 0), .ref (A 74 0), .ref (A 75 0), .ref (A 76 0), .int (σ.1 60 0 0), .ref (A 77 0), .ref (A 78 0), .ref (A 79 0), .ref (A 80 0), .ref (A 81 0), .ref (A 82 0), .ref (A 83 0), .int (σ.1 60 0 1), .ref (A 84 0), .ref (A 85 0), .ref (A 86 0), .ref (A 87 0), .ref (A 88 0), .int (σ.1 60 0 2), .int (σ.1 60 0 3), .ref (A 89 0), .int (σ.1 60 0 4), .int (σ.1 60 0 5), .int (σ.1 60 0 6), .ref (A 90 0), .int 1])) := ⟨_, rfl⟩
      refine PW.heap (h' := h2) eh2.symm ?_
      replace K1 : WM G h2 A (thS σ 1) := by rw [eh2]; exact K1
      replace FK1 : FM A h h2 := by rw [eh2]; exact FK1
      have c60K1 : h2 (A 60 0) = some (oB 13 [.ref (A 61 0), .ref (A 62 0), .ref (A 63 0), .ref (A 64 0), .ref (A 65 0), .ref (A 66 0), .ref (A 67 0), .ref (A 68 0), .ref (A 69 0), .ref (A 70 0), .ref (A 71 0), .ref (A 72 0), .ref (A 73 0), .ref (A 74 0), .ref (A 75 0), .ref (A 76 0), .int (σ.1 60 0 0), .ref (A 77 0), .ref (A 78 0), .ref (A 79 0), .ref (A 80 0), .ref (A 81 0), .ref (A 82 0), .ref (A 83 0), .int (σ.1 60 0 1), .ref (A 84 0), .ref (A 85 0), .ref (A 86 0), .ref (A 87 0), .ref (A 88 0), .int (σ.1 60 0 2), .int (σ.1 60 0 3), .ref (A 89 0), .int (σ.1 60 0 4), .int (σ.1 60 0 5), .int (σ.1 60 0 6), .ref (A 90 0), .int 1]) := K1.c60
      refine pw_aload_n (pc2 := 30) dX10_fund_29 rfl rfl 0 rfl (by first | exact rf_ref _ | exact rf_opt _ | exact rf_nul) ?_
      refine pw_get (pc2 := 33) kX10 (k := 37) (by decide) rfl fl_X10_109 c60K1 rfl dX10_fund_30 rfl ?_
      refine pw_if_le (tgt := 38) (pc2 := 36) dX10_fund_33 (by decide) rfl (fun c33 => by exact absurd c33 (by decide)) (fun _ => ?_)
      refine pw_iconst (pc2 := 37) (v := 0) dX10_fund_36 rfl (by decide) ?_
      refine pw_iret dX10_fund_37 rfl (by first | rfl | assumption | simp [narrow]) ?_
      exact Or.inl ⟨by first | exact fun z => q4 (ow3'.mpr z.1) | exact fun z => q15 z.2, rfl, K1, FK1⟩
  · refine pw_if_eq (tgt := 25) (pc2 := 10) dX10_fund_7 (by decide) rfl (fun _ => ?_) (fun c7 => by exact absurd (by decide) c7)
    refine pw_iconst (pc2 := 26) (v := 1) dX10_fund_25 rfl (by decide) ?_
    refine pw_put (pc2 := 29) kX10 (k := 37) (by decide) rfl rfl fl_X10_109 H.c60 (by first | decide | simp) (by first | rfl | exact nar_rf _ _) (by first | rfl | exact fit_rf _ _) dX10_fund_26 rfl ?_
    obtain ⟨K1, FK1⟩ := H.wIF (FM.rfl') (t := 60) (i := 0) (f := (upd (σ.1 60 0) 7 1)) rfl (by decide) (iv_setI H.iv (by decide)) rfl
    obtain ⟨h2, eh2⟩ : ∃ z : Nat → Option hE, z = va_up h (A 60 0) (some (oB 13 [.ref (A 61 0), .ref (A 62 0), .ref (A 63 0), .ref (A 64 0), .ref (A 65 0), .ref (A 66 0), .ref (A 67 0), .ref (A 68 0), .ref (A 69 0), .ref (A 70 0), .ref (A 71 0), .ref (A 72 0), .ref (A 73 0), .ref (A 74 0), .ref (A 75 0), .ref (A 76 0), .int (σ.1 60 0 0), .ref (A 77 0), .ref (A 78 0), .ref (A 79 0), .ref (A 80 0), .ref (A 81 0), .ref (A 82 0), .ref (A 83 0), .int (σ.1 60 0 1), .ref (A 84 0), .ref (A 85 0), .ref (A 86 0), .ref (A 87 0), .ref (A 88 0), .int (σ.1 60 0 2), .int (σ.1 60 0 3), .ref (A 89 0), .int (σ.1 60 0 4), .int (σ.1 60 0 5), .int (σ.1 60 0 6), .ref (A 90 0), .int 1])) := ⟨_, rfl⟩
    refine PW.heap (h' := h2) eh2.symm ?_
    replace K1 : WM G h2 A (thS σ 1) := by rw [eh2]; exact K1
    replace FK1 : FM A h h2 := by rw [eh2]; exact FK1
    have c60K1 : h2 (A 60 0) = some (oB 13 [.ref (A 61 0), .ref (A 62 0), .ref (A 63 0), .ref (A 64 0), .ref (A 65 0), .ref (A 66 0), .ref (A 67 0), .ref (A 68 0), .ref (A 69 0), .ref (A 70 0), .ref (A 71 0), .ref (A 72 0), .ref (A 73 0), .ref (A 74 0), .ref (A 75 0), .ref (A 76 0), .int (σ.1 60 0 0), .ref (A 77 0), .ref (A 78 0), .ref (A 79 0), .ref (A 80 0), .ref (A 81 0), .ref (A 82 0), .ref (A 83 0), .int (σ.1 60 0 1), .ref (A 84 0), .ref (A 85 0), .ref (A 86 0), .ref (A 87 0), .ref (A 88 0), .int (σ.1 60 0 2), .int (σ.1 60 0 3), .ref (A 89 0), .int (σ.1 60 0 4), .int (σ.1 60 0 5), .int (σ.1 60 0 6), .ref (A 90 0), .int 1]) := K1.c60
    refine pw_aload_n (pc2 := 30) dX10_fund_29 rfl rfl 0 rfl (by first | exact rf_ref _ | exact rf_opt _ | exact rf_nul) ?_
    refine pw_get (pc2 := 33) kX10 (k := 37) (by decide) rfl fl_X10_109 c60K1 rfl dX10_fund_30 rfl ?_
    refine pw_if_le (tgt := 38) (pc2 := 36) dX10_fund_33 (by decide) rfl (fun c33 => by exact absurd c33 (by decide)) (fun _ => ?_)
    refine pw_iconst (pc2 := 37) (v := 0) dX10_fund_36 rfl (by decide) ?_
    refine pw_iret dX10_fund_37 rfl (by first | rfl | assumption | simp [narrow]) ?_
    exact Or.inl ⟨by first | exact fun z => q4 (ow3'.mpr z.1) | exact fun z => q15 z.2, rfl, K1, FK1⟩
set_option maxHeartbeats 4000000 in
set_option maxRecDepth 100000 in
theorem c_mbudget (G : hG) (h : hp) {A : aT} {σ : sT} (H : WM G h A σ) (hb : MB σ) (o : Int32) : PMet G MX10_budget 1 0 0 [.ref (A 60 0), .int o] h (fun r h2 => (¬ (0 ≤ o ∧ o < 3) ∧ QSM G h A (.int 0) (thS σ 1) r h2) ∨ (∃ j, j < 3 ∧ o = nI j ∧ QSM G h A (.int (σ.1 89 0 j)) (thS σ 0) r h2)) noX := by
  refine PMet.of (by decide +kernel) (Nat.le_of_ble_eq_true rfl) (fun d hd => ?_)
  refine PW.sub (L2 := [(0, Value.ref (A 60 0)), (1, Value.int o)]) [0, 1] rfl ?_
  refine pw_aload_n (pc2 := 1) dX10_budget_0 rfl rfl 0 rfl (by first | exact rf_ref _ | exact rf_opt _ | exact rf_nul) ?_
  refine pw_iload_n (pc2 := 2) dX10_budget_1 rfl rfl 1 rfl ?_
  refine pw_iconst (pc2 := 3) (v := 0) dX10_budget_2 rfl (by decide) ?_
  refine pw_iconst (pc2 := 4) (v := 2) dX10_budget_3 rfl (by decide) ?_
  refine pw_callSb (pc2 := 7) (c_in G _ o 0 2) cs_X10_115 rfl dX10_budget_4 rfl (by omega) rfl (by first | decide | simp [cat_rf, Value.category]) (fun q4 => ?_) (fun q4 => ?_)
  · refine pw_if_eq (tgt := 14) (pc2 := 10) dX10_budget_7 (by decide) rfl (fun c7 => by exact absurd c7 (by decide)) (fun _ => ?_)
    obtain ⟨j, hj3, rfl⟩ := ow3 q4
    refine pw_iconst (pc2 := 11) (v := 0) dX10_budget_10 rfl (by decide) ?_
    refine pw_goto (tgt := 15) dX10_budget_11 (by decide) ?_
    refine pw_put (pc2 := 18) kX10 (k := 37) (by decide) rfl rfl fl_X10_109 H.c60 (by first | decide | simp) (by first | rfl | exact nar_rf _ _) (by first | rfl | exact fit_rf _ _) dX10_budget_15 rfl ?_
    obtain ⟨K1, FK1⟩ := H.wIF (FM.rfl') (t := 60) (i := 0) (f := (upd (σ.1 60 0) 7 0)) rfl (by decide) (iv_setI H.iv (by decide)) rfl
    obtain ⟨h2, eh2⟩ : ∃ z : Nat → Option hE, z = va_up h (A 60 0) (some (oB 13 [.ref (A 61 0), .ref (A 62 0), .ref (A 63 0), .ref (A 64 0), .ref (A 65 0), .ref (A 66 0), .ref (A 67 0), .ref (A 68 0), .ref (A 69 0), .ref (A 70 0), .ref (A 71 0), .ref (A 72 0), .ref (A 73 0), .ref (A 74 0), .ref (A 75 0), .ref (A 76 0), .int (σ.1 60 0 0), .ref (A 77 0), .ref (A 78 0), .ref (A 79 0), .ref (A 80 0), .ref (A 81 0), .ref (A 82 0), .ref (A 83 0), .int (σ.1 60 0 1), .ref (A 84 0), .ref (A 85 0), .ref (A 86 0), .ref (A 87 0), .ref (A 88 0), .int (σ.1 60 0 2), .int (σ.1 60 0 3), .ref (A 89 0), .int (σ.1 60 0 4), .int (σ.1 60 0 5), .int (σ.1 60 0 6), .ref (A 90 0), .int 0])) := ⟨_, rfl⟩
    refine PW.heap (h' := h2) eh2.symm ?_
    replace K1 : WM G h2 A (thS σ 0) := by rw [eh2]; exact K1
    replace FK1 : FM A h h2 := by rw [eh2]; exact FK1
    have c60K1 : h2 (A 60 0) = some (oB 13 [.ref (A 61 0), .ref (A 62 0), .ref (A 63 0), .ref (A 64 0), .ref (A 65 0), .ref (A 66 0), .ref (A 67 0), .ref (A 68 0), .ref (A 69 0), .ref (A 70 0), .ref (A 71 0), .ref (A 72 0), .ref (A 73 0), .ref (A 74 0), .ref (A 75 0), .ref (A 76 0), .int (σ.1 60 0 0), .ref (A 77 0), .ref (A 78 0), .ref (A 79 0), .ref (A 80 0), .ref (A 81 0), .ref (A 82 0), .ref (A 83 0), .int (σ.1 60 0 1), .ref (A 84 0), .ref (A 85 0), .ref (A 86 0), .ref (A 87 0), .ref (A 88 0), .int (σ.1 60 0 2), .int (σ.1 60 0 3), .ref (A 89 0), .int (σ.1 60 0 4), .int (σ.1 60 0 5), .int (σ.1 60 0 6), .ref (A 90 0), .int 0]) := K1.c60
    have k890K1 : h2 (A 89 0) = some (aI 3 (σ.1 89 0)) := K1.c89
    refine pw_aload_n (pc2 := 19) dX10_budget_18 rfl rfl 0 rfl (by first | exact rf_ref _ | exact rf_opt _ | exact rf_nul) ?_
    refine pw_get (pc2 := 22) kX10 (k := 37) (by decide) rfl fl_X10_109 c60K1 rfl dX10_budget_19 rfl ?_
    refine pw_if_le (tgt := 29) (pc2 := 25) dX10_budget_22 (by decide) rfl (fun _ => ?_) (fun c22 => by exact absurd (by decide) c22)
    refine pw_aload_n (pc2 := 30) dX10_budget_29 rfl rfl 0 rfl (by first | exact rf_ref _ | exact rf_opt _ | exact rf_nul) ?_
    refine pw_get (pc2 := 33) kX10 (k := 32) (by decide) rfl fl_X10_103 c60K1 rfl dX10_budget_30 rfl ?_
    refine pw_iload_n (pc2 := 34) dX10_budget_33 rfl rfl 1 rfl ?_
    refine pw_ialdN (pc2 := 35) k890K1 (i := j) (by first | assumption | omega) (by omega) dX10_budget_34 rfl ?_
    refine pw_iret dX10_budget_35 rfl (by first | rfl | assumption | simp [narrow]) ?_
    exact Or.inr ⟨j, hj3, rfl, rfl, K1, FK1⟩
  · refine pw_if_eq (tgt := 14) (pc2 := 10) dX10_budget_7 (by decide) rfl (fun _ => ?_) (fun c7 => by exact absurd (by decide) c7)
    refine pw_iconst (pc2 := 15) (v := 1) dX10_budget_14 rfl (by decide) ?_
    refine pw_put (pc2 := 18) kX10 (k := 37) (by decide) rfl rfl fl_X10_109 H.c60 (by first | decide | simp) (by first | rfl | exact nar_rf _ _) (by first | rfl | exact fit_rf _ _) dX10_budget_15 rfl ?_
    obtain ⟨K1, FK1⟩ := H.wIF (FM.rfl') (t := 60) (i := 0) (f := (upd (σ.1 60 0) 7 1)) rfl (by decide) (iv_setI H.iv (by decide)) rfl
    obtain ⟨h2, eh2⟩ : ∃ z : Nat → Option hE, z = va_up h (A 60 0) (some (oB 13 [.ref (A 61 0), .ref (A 62 0), .ref (A 63 0), .ref (A 64 0), .ref (A 65 0), .ref (A 66 0), .ref (A 67 0), .ref (A 68 0), .ref (A 69 0), .ref (A 70 0), .ref (A 71 0), .ref (A 72 0), .ref (A 73 0), .ref (A 74 0), .ref (A 75 0), .ref (A 76 0), .int (σ.1 60 0 0), .ref (A 77 0), .ref (A 78 0), .ref (A 79 0), .ref (A 80 0), .ref (A 81 0), .ref (A 82 0), .ref (A 83 0), .int (σ.1 60 0 1), .ref (A 84 0), .ref (A 85 0), .ref (A 86 0), .ref (A 87 0), .ref (A 88 0), .int (σ.1 60 0 2), .int (σ.1 60 0 3), .ref (A 89 0), .int (σ.1 60 0 4), .int (σ.1 60 0 5), .int (σ.1 60 0 6), .ref (A 90 0), .int 1])) := ⟨_, rfl⟩
    refine PW.heap (h' := h2) eh2.symm ?_
    replace K1 : WM G h2 A (thS σ 1) := by rw [eh2]; exact K1
    replace FK1 : FM A h h2 := by rw [eh2]; exact FK1
    have c60K1 : h2 (A 60 0) = some (oB 13 [.ref (A 61 0), .ref (A 62 0), .ref (A 63 0), .ref (A 64 0), .ref (A 65 0), .ref (A 66 0), .ref (A 67 0), .ref (A 68 0), .ref (A 69 0), .ref (A 70 0), .ref (A 71 0), .ref (A 72 0), .ref (A 73 0), .ref (A 74 0), .ref (A 75 0), .ref (A 76 0), .int (σ.1 60 0 0), .ref (A 77 0), .ref (A 78 0), .ref (A 79 0), .ref (A 80 0), .ref (A 81 0), .ref (A 82 0), .ref (A 83 0), .int (σ.1 60 0 1), .ref (A 84 0), .ref (A 85 0), .ref (A 86 0), .ref (A 87 0), .ref (A 88 0), .int (σ.1 60 0 2), .int (σ.1 60 0 3), .ref (A 89 0), .int (σ.1 60 0 4), .int (σ.1 60 0 5), .int (σ.1 60 0 6), .ref (A 90 0), .int 1]) := K1.c60
    refine pw_aload_n (pc2 := 19) dX10_budget_18 rfl rfl 0 rfl (by first | exact rf_ref _ | exact rf_opt _ | exact rf_nul) ?_
    refine pw_get (pc2 := 22) kX10 (k := 37) (by decide) rfl fl_X10_109 c60K1 rfl dX10_budget_19 rfl ?_
    refine pw_if_le (tgt := 29) (pc2 := 25) dX10_budget_22 (by decide) rfl (fun c22 => by exact absurd c22 (by decide)) (fun _ => ?_)
    refine pw_iconst (pc2 := 26) (v := 0) dX10_budget_25 rfl (by decide) ?_
    refine pw_goto (tgt := 35) dX10_budget_26 (by decide) ?_
    refine pw_iret dX10_budget_35 rfl (by first | rfl | assumption | simp [narrow]) ?_
    exact Or.inl ⟨fun z => q4 (ow3'.mpr z), rfl, K1, FK1⟩
