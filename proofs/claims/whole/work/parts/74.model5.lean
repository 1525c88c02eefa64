/-! the reference: choosesFor, addPackage, setSource -/
theorem srch_top {I : Nat → Nat → Nat → Int32} {N : Nat → Nat → Nat → Nat} {le gr : Nat → Int32} {n : Nat} : ∀ (m : Nat), n ≤ m → (∀ j, n ≤ j → j < m → gr j = 0) → srch I N le gr m zN = srch I N le gr n zN
  | 0, h, _ => by
    have : n = 0 := by omega
    subst this
    rfl
  | m + 1, h, hg => by
    by_cases e : n = m + 1
    · rw [e]
    · have e1 : srch I N le gr (m + 1) zN = srch I N le gr m zN := dit_f (fun q => by
        rcases q with q | ⟨a, x, -, -, z, -⟩
        · exact q (hg m (by omega) (Nat.lt_succ_self m))
        · cases z)
      rw [e1]
      exact srch_top m (by omega) (fun j h1 h2 => hg j h1 (by omega))
abbrev QFo (G : hG) (A : aT) (σ : sT) (le gr : Nat → Int32) (h : hp) : Option Value → hp → Prop := fun r h2 => (∀ g', srch σ.1 σ.2.1 le gr 6 zN = some g' → r = some (.int 1) ∧ pkB σ g' ∧ ∃ C, h2 = va_up h (A 90 0) (some (aI 6 C)) ∧ ∀ j, j < 6 → C j = enc (g' j)) ∧ (srch σ.1 σ.2.1 le gr 6 zN = none → r = some (.int 0) ∧ ∃ C, h2 = va_up h (A 90 0) (some (aI 6 C)))
set_option maxHeartbeats 4000000 in
set_option maxRecDepth 100000 in
theorem c_mfor (G : hG) (h : hp) {A : aT} {σ : sT} (H : WM G h A σ) (hb : MB σ) {ofr : Nat → Nat} (hR : MR σ ofr) {p : Nat} (hp6 : p < 6) (hle : ∀ j, j < 6 → nbk (σ.1 91 p j) (σ.1 92 p j)) : PMet G MX10_choosesFor 10 0 0 [.ref (A 60 0), .int (nI p)] h (QFo G A σ (σ.1 91 p) (σ.1 92 p) h) noX := by
  refine PMet.of (by decide +kernel) (Nat.le_of_ble_eq_true rfl) (fun d hd => ?_)
  refine PW.sub (L2 := [(0, Value.ref (A 60 0)), (1, Value.int (nI p))]) [0, 1] rfl ?_
  refine pw_iconst (pc2 := 1) (v := 0) dX10_choosesFor_0 rfl (by decide) ?_
  refine pw_istore_n (pc2 := 2) (L2 := [(2, Value.int 0), (0, Value.ref (A 60 0)), (1, Value.int (nI p))]) dX10_choosesFor_1 rfl rfl (by decide) rfl ?_
  have HW : ∀ F, WM G (va_up h (A 90 0) (some (aI 6 F))) A (setI σ 90 0 F) := fun F => H.wI (t := 90) (i := 0) rfl (by decide) (iv_setI H.iv (by decide)) rfl
  have loop : ∀ (k i : Nat) (_u : Unit), i + k = 6 → PW G MX10_choosesFor d noA (E0 G (QFo G A σ (σ.1 91 p) (σ.1 92 p) h) noX) 0 0 2 [(2, Value.int (nI i)), (0, Value.ref (A 60 0)), (1, Value.int (nI p))] [] (va_up h (A 90 0) (some (aI 6 (flI (σ.1 90 0) i (-1))))) := by
    intro k
    induction k with
    | zero =>
      intro i _u hik
      have hi9 : i = 6 := by omega
      refine pw_iload_n (pc2 := 3) dX10_choosesFor_2 rfl rfl 0 rfl ?_
      refine pw_bipush (pc2 := 5) (v := 6) dX10_choosesFor_3 rfl (by decide) ?_
      refine pw_icmp_ge (tgt := 21) (pc2 := 8) dX10_choosesFor_5 (by decide) rfl (fun _ => ?_) (fun c5 => by exact absurd (by first | (rw [hi9]; exact Int32.le_refl _) | exact fun q => absurd ((l6 (by omega)).mp q) (by omega)) c5)
      refine pw_aload_n (pc2 := 22) dX10_choosesFor_21 rfl rfl 1 rfl (by first | exact rf_ref _ | exact rf_opt _ | exact rf_nul) ?_
      refine pw_iconst (pc2 := 23) (v := 5) dX10_choosesFor_22 rfl (by decide) ?_
      refine pw_topE (show (5 : Int32) = oth 6 by decide) ?_
      refine pw_aload_n (pc2 := 24) dX10_choosesFor_23 rfl rfl 1 rfl (by first | exact rf_ref _ | exact rf_opt _ | exact rf_nul) ?_
      refine pw_get (pc2 := 27) kX10 (k := 3) (by decide) rfl fl_X10_21 (HW (flI (σ.1 90 0) i (-1))).c60 rfl dX10_choosesFor_24 rfl ?_
      refine pw_iload_n (pc2 := 28) dX10_choosesFor_27 rfl rfl 2 rfl ?_
      refine pw_aaldN (pc2 := 29) 6 rfl rfl (HW (flI (σ.1 90 0) i (-1))).c64 (i := p) (by first | assumption | omega) (by omega) dX10_choosesFor_28 rfl ?_
      refine pw_topV (rowv (by first | assumption | omega)) ?_
      refine pw_aload_n (pc2 := 30) dX10_choosesFor_29 rfl rfl 1 rfl (by first | exact rf_ref _ | exact rf_opt _ | exact rf_nul) ?_
      refine pw_get (pc2 := 33) kX10 (k := 4) (by decide) rfl fl_X10_24 (HW (flI (σ.1 90 0) i (-1))).c60 rfl dX10_choosesFor_30 rfl ?_
      refine pw_iload_n (pc2 := 34) dX10_choosesFor_33 rfl rfl 2 rfl ?_
      refine pw_aaldN (pc2 := 35) 6 rfl rfl (HW (flI (σ.1 90 0) i (-1))).c65 (i := p) (by first | assumption | omega) (by omega) dX10_choosesFor_34 rfl ?_
      refine pw_topV (rowv (by first | assumption | omega)) ?_
      refine pw_callV (pc2 := 38) (c_mchooses G hle 6 _ (setI σ 90 0 (flI (σ.1 90 0) i (-1))) zN (HW (flI (σ.1 90 0) i (-1))) hb hR ((HW (flI (σ.1 90 0) i (-1))).c91 (i := p) hp6) ((HW (flI (σ.1 90 0) i (-1))).c92 (i := p) hp6) (H.ne (t := 91) (i := p) (u := 90) (j := 0) hp6 rfl (Or.inl (by decide))) (H.ne (t := 92) (i := p) (u := 90) (j := 0) hp6 rfl (Or.inl (by decide))) (Nat.le_refl 6) (fun j x hx => by cases hx) (fun j h1 h2 => absurd h2 (by omega)) (fun j hj => rfl)) cs_X10_142 rfl rfl (HW (flI (σ.1 90 0) i (-1))).c60 dX10_choosesFor_35 rfl (by omega) rfl (by first | decide | simp [cat_rf, Value.category]) (fun r9 h9 q9 => ?_) (fun Y h9 q9 => q9.elim)
      cases hs : srch σ.1 σ.2.1 (σ.1 91 p) (σ.1 92 p) 6 zN with
      | none =>
        obtain ⟨rfl, C, rfl, -⟩ := q9.2 ((srch_90 _ _).trans hs)
        refine pw_iret dX10_choosesFor_38 rfl (by first | rfl | assumption | simp [narrow]) ?_
        exact ⟨fun g2 e2 => (by cases hs.symm.trans e2), fun _ => ⟨rfl, C, up_up _ _ _ _⟩⟩
      | some g' =>
        obtain ⟨rfl, hgb', C, rfl, hCC⟩ := q9.1 g' ((srch_90 _ _).trans hs)
        refine pw_iret dX10_choosesFor_38 rfl (by first | rfl | assumption | simp [narrow]) ?_
        exact ⟨fun g2 e2 => (by cases hs.symm.trans e2; exact ⟨rfl, hgb', C, up_up _ _ _ _, hCC⟩), fun e2 => (by cases hs.symm.trans e2)⟩
    | succ k ih =>
      intro i _u hik
      have hi9 : i < 6 := by omega
      refine pw_iload_n (pc2 := 3) dX10_choosesFor_2 rfl rfl 0 rfl ?_
      refine pw_bipush (pc2 := 5) (v := 6) dX10_choosesFor_3 rfl (by decide) ?_
      refine pw_icmp_ge (tgt := 21) (pc2 := 8) dX10_choosesFor_5 (by decide) rfl (fun c5 => by exact absurd c5 (by first | (rw [hi9]; exact Int32.le_refl _) | exact fun q => absurd ((l6 (by omega)).mp q) (by omega))) (fun _ => ?_)
      refine pw_aload_n (pc2 := 9) dX10_choosesFor_8 rfl rfl 1 rfl (by first | exact rf_ref _ | exact rf_opt _ | exact rf_nul) ?_
      refine pw_get (pc2 := 12) kX10 (k := 36) (by decide) rfl fl_X10_106 (HW (flI (σ.1 90 0) i (-1))).c60 rfl dX10_choosesFor_9 rfl ?_
      refine pw_iload_n (pc2 := 13) dX10_choosesFor_12 rfl rfl 0 rfl ?_
      refine pw_iconst (pc2 := 14) (v := (-1)) dX10_choosesFor_13 rfl (by decide) ?_
      refine pw_iastN (pc2 := 15) (va_up_self _ _ _) (i := i) (by first | assumption | omega) (by omega) dX10_choosesFor_14 rfl ?_
      refine PW.heap (h' := va_up h (A 90 0) (some (aI 6 (flI (σ.1 90 0) (i + 1) (-1))))) (by rw [up_up, flI_s]) ?_
      refine pw_iinc (pc2 := 18) (v := nI (i + 1)) (L2 := [(2, Value.int (nI (i + 1))), (0, Value.ref (A 60 0)), (1, Value.int (nI p))]) dX10_choosesFor_15 rfl 0 rfl (by show nI _ + 1 = nI _; exact nI_1 _) (by decide) rfl ?_
      refine pw_goto (tgt := 2) dX10_choosesFor_18 (by decide) ?_
      refine PW.sub (L2 := [(2, Value.int (nI (i + 1))), (0, Value.ref (A 60 0)), (1, Value.int (nI p))]) [0, 1, 2] rfl ?_
      exact ih (i + 1) () (by omega)
  refine PW.sub (L2 := [(2, Value.int 0), (0, Value.ref (A 60 0)), (1, Value.int (nI p))]) [0, 1, 2] rfl ?_
  refine PW.heap (h' := va_up h (A 90 0) (some (aI 6 (flI (σ.1 90 0) 0 (-1))))) (by rw [flI_0]; exact (up_id H.c90).symm) ?_
  exact loop 6 0 () (by omega)
set_option maxHeartbeats 4000000 in
set_option maxRecDepth 100000 in
theorem c_maddPack (G : hG) (h : hp) {A : aT} {σ : sT} (H : WM G h A σ) (hb : MB σ) (o : Int32) : PMet G MX10_addPackage 1 0 0 [.ref (A 60 0), .int o] h (fun r h2 => (¬ (0 ≤ o ∧ o < 3) ∧ QSM G h A (.int 0) (thS σ 1) r h2) ∨ ((0 ≤ o ∧ o < 3) ∧ npk σ = 6 ∧ QSM G h A (.int 0) (thS σ 2) r h2) ∨ ((0 ≤ o ∧ o < 3) ∧ npk σ < 6 ∧ QSM G h A (.int (nI (npk σ))) (setI (setI (thS σ 0) 61 0 (upd (σ.1 61 0) (npk σ) o)) 60 0 (upd ((thS σ 0).1 60 0) 0 (nI (npk σ + 1)))) r h2)) noX := by
  have hnp := H.iv.1
  have o2 : o < 3 ↔ o ≤ 2 := by rw [Int32.lt_iff_toInt_lt, Int32.le_iff_toInt_le, ti_3, ti_2]; omega
  refine PMet.of (by decide +kernel) (Nat.le_of_ble_eq_true rfl) (fun d hd => ?_)
  refine PW.sub (L2 := [(0, Value.ref (A 60 0)), (1, Value.int o)]) [0, 1] rfl ?_
  refine pw_aload_n (pc2 := 1) dX10_addPackage_0 rfl rfl 0 rfl (by first | exact rf_ref _ | exact rf_opt _ | exact rf_nul) ?_
  refine pw_iload_n (pc2 := 2) dX10_addPackage_1 rfl rfl 1 rfl ?_
  refine pw_iconst (pc2 := 3) (v := 0) dX10_addPackage_2 rfl (by decide) ?_
  refine pw_iconst (pc2 := 4) (v := 2) dX10_addPackage_3 rfl (by decide) ?_
  refine pw_callSb (pc2 := 7) (c_in G _ o 0 2) cs_X10_115 rfl dX10_addPackage_4 rfl (by omega) rfl (by first | decide | simp [cat_rf, Value.category]) (fun q4 => ?_) (fun q4 => ?_)
  · refine pw_if_ne (tgt := 14) (pc2 := 10) dX10_addPackage_7 (by decide) rfl (fun _ => ?_) (fun c7 => by exact absurd c7 (by decide))
    refine pw_aload_n (pc2 := 15) dX10_addPackage_14 rfl rfl 0 rfl (by first | exact rf_ref _ | exact rf_opt _ | exact rf_nul) ?_
    refine pw_get (pc2 := 18) kX10 (k := 16) (by decide) rfl fl_X10_112 H.c60 rfl dX10_addPackage_15 rfl ?_
    refine pw_topE hb.1 ?_
    refine pw_bipush (pc2 := 20) (v := 6) dX10_addPackage_18 rfl (by decide) ?_
    refine pw_icmp_ne (tgt := 27) (pc2 := 23) dX10_addPackage_20 (by decide) rfl (fun c20 => ?_) (fun c20 => ?_)
    · refine pw_iconst (pc2 := 28) (v := 0) dX10_addPackage_27 rfl (by decide) ?_
      refine pw_put (pc2 := 31) kX10 (k := 37) (by decide) rfl rfl fl_X10_109 H.c60 (by first | decide | simp) (by first | rfl | exact nar_rf _ _) (by first | rfl | exact fit_rf _ _) dX10_addPackage_28 rfl ?_
      obtain ⟨K1, FK1⟩ := H.wIF (FM.rfl') (t := 60) (i := 0) (f := (upd (σ.1 60 0) 7 0)) rfl (by decide) (iv_setI H.iv (by decide)) rfl
      obtain ⟨h2, eh2⟩ : ∃ z : Nat → Option hE, z = va_up h (A 60 0) (some (oB 13 [.ref (A 61 0), .ref (A 62 0), .ref (A 63 0), .ref (A 64 0), .ref (A 65 0), .ref (A 66 0), .ref (A 67 0), .ref (A 68 0), .ref (A 69 0), .ref (A 70 0), .ref (A 71 0), .ref (A 72 0), .ref (A 73 0), .ref (A 74 0), .ref (A 75 0), .ref (A 76 0), .int (σ.1 60 0 0), .ref (A 77 0), .ref (A 78 0), .ref (A 79 0), .ref (A 80 0), .ref (A 81 0), .ref (A 82 0), .ref (A 83 0), .int (σ.1 60 0 1), .ref (A 84 0), .ref (A 85 0), .ref (A 86 0), .ref (A 87 0), .ref (A 88 0), .int (σ.1 60 0 2), .int (σ.1 60 0 3), .ref (A 89 0), .int (σ.1 60 0 4), .int (σ.1 60 0 5), .int (σ.1 60 0 6), .ref (A 90 0), .int 0])) := ⟨_, rfl⟩
      refine PW.heap (h' := h2) eh2.symm ?_
      replace K1 : WM G h2 A (thS σ 0) := by rw [eh2]; exact K1
      replace FK1 : FM A h h2 := by rw [eh2]; exact FK1
      have c60 : h2 (A 60 0) = some (oB 13 [.ref (A 61 0), .ref (A 62 0), .ref (A 63 0), .ref (A 64 0), .ref (A 65 0), .ref (A 66 0), .ref (A 67 0), .ref (A 68 0), .ref (A 69 0), .ref (A 70 0), .ref (A 71 0), .ref (A 72 0), .ref (A 73 0), .ref (A 74 0), .ref (A 75 0), .ref (A 76 0), .int (σ.1 60 0 0), .ref (A 77 0), .ref (A 78 0), .ref (A 79 0), .ref (A 80 0), .ref (A 81 0), .ref (A 82 0), .ref (A 83 0), .int (σ.1 60 0 1), .ref (A 84 0), .ref (A 85 0), .ref (A 86 0), .ref (A 87 0), .ref (A 88 0), .int (σ.1 60 0 2), .int (σ.1 60 0 3), .ref (A 89 0), .int (σ.1 60 0 4), .int (σ.1 60 0 5), .int (σ.1 60 0 6), .ref (A 90 0), .int 0]) := K1.c60
      refine pw_aload_n (pc2 := 32) dX10_addPackage_31 rfl rfl 0 rfl (by first | exact rf_ref _ | exact rf_opt _ | exact rf_nul) ?_
      refine pw_get (pc2 := 35) kX10 (k := 37) (by decide) rfl fl_X10_109 c60 rfl dX10_addPackage_32 rfl ?_
      refine pw_if_le (tgt := 40) (pc2 := 38) dX10_addPackage_35 (by decide) rfl (fun _ => ?_) (fun c35 => by exact absurd (by decide) c35)
      refine pw_aload_n (pc2 := 41) dX10_addPackage_40 rfl rfl 0 rfl (by first | exact rf_ref _ | exact rf_opt _ | exact rf_nul) ?_
      refine pw_get (pc2 := 44) kX10 (k := 0) (by decide) rfl fl_X10_9 c60 rfl dX10_addPackage_41 rfl ?_
      refine pw_aload_n (pc2 := 45) dX10_addPackage_44 rfl rfl 0 rfl (by first | exact rf_ref _ | exact rf_opt _ | exact rf_nul) ?_
      refine pw_get (pc2 := 48) kX10 (k := 16) (by decide) rfl fl_X10_112 c60 rfl dX10_addPackage_45 rfl ?_
      have hnp6 : npk σ < 6 := by have : npk σ ≠ 6 := fun z => c20 (by rw [z]; rfl); omega
      refine pw_topE hb.1 ?_
      refine pw_iload_n (pc2 := 49) dX10_addPackage_48 rfl rfl 1 rfl ?_
      refine pw_iastN (pc2 := 50) K1.c61 (i := (npk σ)) (by first | assumption | omega) (by omega) dX10_addPackage_49 rfl ?_
      refine pw_aload_n (pc2 := 51) dX10_addPackage_50 rfl rfl 0 rfl (by first | exact rf_ref _ | exact rf_opt _ | exact rf_nul) ?_
      refine pw_dup (pc2 := 52) dX10_addPackage_51 rfl (by first | rfl | exact cat_rf _) ?_
      refine pw_get (pc2 := 55) kX10 (k := 16) (by decide) rfl fl_X10_112 ((va_up_ne _ _ (ne_oa c60 K1.c61)).trans c60) rfl dX10_addPackage_52 rfl ?_
      refine pw_topE hb.1 ?_
      refine pw_iconst (pc2 := 56) (v := 1) dX10_addPackage_55 rfl (by decide) ?_
      refine pw_iadd (pc2 := 57) dX10_addPackage_56 rfl ?_
      refine pw_topE (nI_1 _) ?_
      refine pw_put (pc2 := 60) kX10 (k := 16) (by decide) rfl rfl fl_X10_112 ((va_up_ne _ _ (ne_oa c60 K1.c61)).trans c60) (by first | decide | simp) (by first | rfl | exact nar_rf _ _) (by first | rfl | exact fit_rf _ _) dX10_addPackage_57 rfl ?_
      refine pw_aload_n (pc2 := 61) dX10_addPackage_60 rfl rfl 0 rfl (by first | exact rf_ref _ | exact rf_opt _ | exact rf_nul) ?_
      refine pw_get (pc2 := 64) kX10 (k := 16) (by decide) rfl fl_X10_112 (va_up_self _ _ _) rfl dX10_addPackage_61 rfl ?_
      refine pw_iconst (pc2 := 65) (v := 1) dX10_addPackage_64 rfl (by decide) ?_
      refine pw_isub (pc2 := 66) dX10_addPackage_65 rfl ?_
      refine pw_topE (nI_sub1 (by omega)) ?_
      refine pw_iret dX10_addPackage_66 rfl (by first | rfl | assumption | simp [narrow]) ?_
      obtain ⟨J1, FJ1⟩ := K1.wIF (FK1) (t := 61) (i := 0) (f := (upd (σ.1 61 0) (npk σ) o)) rfl (by decide) (iv_setI K1.iv (by decide)) rfl
      obtain ⟨J2, FJ2⟩ := J1.wIF (FJ1) (t := 60) (i := 0) (f := (upd ((thS σ 0).1 60 0) 0 (nI (npk σ + 1)))) rfl (by decide) (iv_setI J1.iv (by decide)) rfl
      exact Or.inr (Or.inr ⟨⟨q4.1, o2.mpr q4.2⟩, by have : npk σ ≠ 6 := fun z => c20 (by rw [z]; rfl); omega, by rw [Nat.add_sub_cancel], J2, FJ2⟩)
    · refine pw_iconst (pc2 := 24) (v := 2) dX10_addPackage_23 rfl (by decide) ?_
      refine pw_goto (tgt := 28) dX10_addPackage_24 (by decide) ?_
      refine pw_put (pc2 := 31) kX10 (k := 37) (by decide) rfl rfl fl_X10_109 H.c60 (by first | decide | simp) (by first | rfl | exact nar_rf _ _) (by first | rfl | exact fit_rf _ _) dX10_addPackage_28 rfl ?_
      obtain ⟨K1, FK1⟩ := H.wIF (FM.rfl') (t := 60) (i := 0) (f := (upd (σ.1 60 0) 7 2)) rfl (by decide) (iv_setI H.iv (by decide)) rfl
      obtain ⟨h2, eh2⟩ : ∃ z : Nat → Option hE, z = va_up h (A 60 0) (some (oB 13 [.ref (A 61 0), .ref (A 62 0), .ref (A 63 0), .ref (A 64 0), .ref (A 65 0), .ref (A 66 0), .ref (A 67 0), .ref (A 68 0), .ref (A 69 0), .ref (A 70 0), .ref (A 71 0), .ref (A 72 0), .ref (A 73 0), .ref (A 74 0), .ref (A 75 0), .ref (A 76 0), .int (σ.1 60 0 0), .ref (A 77 0), .ref (A 78 0), .ref (A 79 0), .ref (A 80 0), .ref (A 81 0), .ref (A 82 0), .ref (A 83 0), .int (σ.1 60 0 1), .ref (A 84 0), .ref (A 85 0), .ref (A 86 0), .ref (A 87 0), .ref (A 88 0), .int (σ.1 60 0 2), .int (σ.1 60 0 3), .ref (A 89 0), .int (σ.1 60 0 4), .int (σ.1 60 0 5), .int (σ.1 60 0 6), .ref (A 90 0), .int 2])) := ⟨_, rfl⟩
      refine PW.heap (h' := h2) eh2.symm ?_
      replace K1 : WM G h2 A (thS σ 2) := by rw [eh2]; exact K1
      replace FK1 : FM A h h2 := by rw [eh2]; exact FK1
      have c60 : h2 (A 60 0) = some (oB 13 [.ref (A 61 0), .ref (A 62 0), .ref (A 63 0), .ref (A 64 0), .ref (A 65 0), .ref (A 66 0), .ref (A 67 0), .ref (A 68 0), .ref (A 69 0), .ref (A 70 0), .ref (A 71 0), .ref (A 72 0), .ref (A 73 0), .ref (A 74 0), .ref (A 75 0), .ref (A 76 0), .int (σ.1 60 0 0), .ref (A 77 0), .ref (A 78 0), .ref (A 79 0), .ref (A 80 0), .ref (A 81 0), .ref (A 82 0), .ref (A 83 0), .int (σ.1 60 0 1), .ref (A 84 0), .ref (A 85 0), .ref (A 86 0), .ref (A 87 0), .ref (A 88 0), .int (σ.1 60 0 2), .int (σ.1 60 0 3), .ref (A 89 0), .int (σ.1 60 0 4), .int (σ.1 60 0 5), .int (σ.1 60 0 6), .ref (A 90 0), .int 2]) := K1.c60
      refine pw_aload_n (pc2 := 32) dX10_addPackage_31 rfl rfl 0 rfl (by first | exact rf_ref _ | exact rf_opt _ | exact rf_nul) ?_
      refine pw_get (pc2 := 35) kX10 (k := 37) (by decide) rfl fl_X10_109 c60 rfl dX10_addPackage_32 rfl ?_
      refine pw_if_le (tgt := 40) (pc2 := 38) dX10_addPackage_35 (by decide) rfl (fun c35 => by exact absurd c35 (by decide)) (fun _ => ?_)
      refine pw_iconst (pc2 := 39) (v := 0) dX10_addPackage_38 rfl (by decide) ?_
      refine pw_iret dX10_addPackage_39 rfl (by first | rfl | assumption | simp [narrow]) ?_
      exact Or.inr (Or.inl ⟨⟨q4.1, o2.mpr q4.2⟩, (nI_eq (by omega) (by decide)).mp (show nI (npk σ) = nI 6 from c20), rfl, K1, FK1⟩)
  · refine pw_if_ne (tgt := 14) (pc2 := 10) dX10_addPackage_7 (by decide) rfl (fun c7 => by exact absurd (by decide) c7) (fun _ => ?_)
    refine pw_iconst (pc2 := 11) (v := 1) dX10_addPackage_10 rfl (by decide) ?_
    refine pw_goto (tgt := 28) dX10_addPackage_11 (by decide) ?_
    refine pw_put (pc2 := 31) kX10 (k := 37) (by decide) rfl rfl fl_X10_109 H.c60 (by first | decide | simp) (by first | rfl | exact nar_rf _ _) (by first | rfl | exact fit_rf _ _) dX10_addPackage_28 rfl ?_
    obtain ⟨K1, FK1⟩ := H.wIF (FM.rfl') (t := 60) (i := 0) (f := (upd (σ.1 60 0) 7 1)) rfl (by decide) (iv_setI H.iv (by decide)) rfl
    obtain ⟨h2, eh2⟩ : ∃ z : Nat → Option hE, z = va_up h (A 60 0) (some (oB 13 [.ref (A 61 0), .ref (A 62 0), .ref (A 63 0), .ref (A 64 0), .ref (A 65 0), .ref (A 66 0), .ref (A 67 0), .ref (A 68 0), .ref (A 69 0), .ref (A 70 0), .ref (A 71 0), .ref (A 72 0), .ref (A 73 0), .ref (A 74 0), .ref (A 75 0), .ref (A 76 0), .int (σ.1 60 0 0), .ref (A 77 0), .ref (A 78 0), .ref (A 79 0), .ref (A 80 0), .ref (A 81 0), .ref (A 82 0), .ref (A 83 0), .int (σ.1 60 0 1), .ref (A 84 0), .ref (A 85 0), .ref (A 86 0), .ref (A 87 0), .ref (A 88 0), .int (σ.1 60 0 2), .int (σ.1 60 0 3), .ref (A 89 0), .int (σ.1 60 0 4), .int (σ.1 60 0 5), .int (σ.1 60 0 6), .ref (A 90 0), .int 1])) := ⟨_, rfl⟩
    refine PW.heap (h' := h2) eh2.symm ?_
    replace K1 : WM G h2 A (thS σ 1) := by rw [eh2]; exact K1
    replace FK1 : FM A h h2 := by rw [eh2]; exact FK1
    have c60 : h2 (A 60 0) = some (oB 13 [.ref (A 61 0), .ref (A 62 0), .ref (A 63 0), .ref (A 64 0), .ref (A 65 0), .ref (A 66 0), .ref (A 67 0), .ref (A 68 0), .ref (A 69 0), .ref (A 70 0), .ref (A 71 0), .ref (A 72 0), .ref (A 73 0), .ref (A 74 0), .ref (A 75 0), .ref (A 76 0), .int (σ.1 60 0 0), .ref (A 77 0), .ref (A 78 0), .ref (A 79 0), .ref (A 80 0), .ref (A 81 0), .ref (A 82 0), .ref (A 83 0), .int (σ.1 60 0 1), .ref (A 84 0), .ref (A 85 0), .ref (A 86 0), .ref (A 87 0), .ref (A 88 0), .int (σ.1 60 0 2), .int (σ.1 60 0 3), .ref (A 89 0), .int (σ.1 60 0 4), .int (σ.1 60 0 5), .int (σ.1 60 0 6), .ref (A 90 0), .int 1]) := K1.c60
    refine pw_aload_n (pc2 := 32) dX10_addPackage_31 rfl rfl 0 rfl (by first | exact rf_ref _ | exact rf_opt _ | exact rf_nul) ?_
    refine pw_get (pc2 := 35) kX10 (k := 37) (by decide) rfl fl_X10_109 c60 rfl dX10_addPackage_32 rfl ?_
    refine pw_if_le (tgt := 40) (pc2 := 38) dX10_addPackage_35 (by decide) rfl (fun c35 => by exact absurd c35 (by decide)) (fun _ => ?_)
    refine pw_iconst (pc2 := 39) (v := 0) dX10_addPackage_38 rfl (by decide) ?_
    refine pw_iret dX10_addPackage_39 rfl (by first | rfl | assumption | simp [narrow]) ?_
    exact Or.inl ⟨fun z => q4 ⟨z.1, o2.mp z.2⟩, rfl, K1, FK1⟩
