/-! the reference: chooses -/
theorem fS_flt {α : Type} {ofr : Nat → Nat} {q : Nat} {ix : Nat → Nat} {F : Nat → Option α} : ∀ (n : Nat), (∀ r, r < n → ofr r = q → ix (cntq ofr q r) = r) → fS (fun i => F (ix i)) (cntq ofr q n) = fS (fun r => if ofr r = q then F r else none) n
  | 0, _ => rfl
  | n + 1, h => by
    have ih := fS_flt (F := F) n (fun r hr => h r (by omega))
    unfold cntq
    by_cases e : ofr n = q
    · rw [if_pos e]
      have e1 := h n (Nat.lt_succ_self n) e
      cases hF : F n with
      | some x => rw [fS_t (F := fun i => F (ix i)) (by show F (ix _) = _; rw [e1]; exact hF), fS_t (F := fun r => if ofr r = q then F r else none) (by show (if ofr n = q then F n else none) = _; rw [if_pos e]; exact hF)]
      | none => rw [fS_f (F := fun i => F (ix i)) (by show F (ix _) = _; rw [e1]; exact hF), fS_f (F := fun r => if ofr r = q then F r else none) (by show (if ofr n = q then F n else none) = _; rw [if_pos e]; exact hF), ih]
    · rw [if_neg e, Nat.add_zero, ih, fS_f (F := fun r => if ofr r = q then F r else none) (if_neg e)]
/-- the search over all releases -/
noncomputable def fM (I : Nat → Nat → Nat → Int32) (N : Nat → Nat → Nat → Nat) (le gr : Nat → Int32) (ofr : Nat → Nat) (k : Nat) (g : Nat → Option Nat) : Nat → Option (Nat → Option Nat) := fun r => if ofr r = k then dit (admd I le gr g k r) (srch I N le gr k (va_up g k (some r))) none else none
theorem srch_M {σ : sT} {ofr : Nat → Nat} (hR : MR σ ofr) {le gr : Nat → Int32} {k : Nat} (hk : k < 6) {g : Nat → Option Nat} (hr : rchd σ.1 gr g k) : srch σ.1 σ.2.1 le gr (k + 1) g = fS (fM σ.1 σ.2.1 le gr ofr k g) (nrl σ) := by
  have e1 : srch σ.1 σ.2.1 le gr (k + 1) g = fS (fun i => dit (admd σ.1 le gr g k (σ.2.1 202 k i)) (srch σ.1 σ.2.1 le gr k (va_up g k (some (σ.2.1 202 k i)))) none) (σ.2.1 201 k 0) := dit_t hr
  have e2 : σ.2.1 201 k 0 = cntq ofr k (nrl σ) := (hR.2 k hk).1
  rw [e1, e2]
  exact fS_flt (ix := fun i => σ.2.1 202 k i) (F := fun r => dit (admd σ.1 le gr g k r) (srch σ.1 σ.2.1 le gr k (va_up g k (some r))) none) (nrl σ) (fun r hrr ho => (hR.2 k hk).2 r hrr ho)
theorem srch_cg {I J : Nat → Nat → Nat → Int32} {N : Nat → Nat → Nat → Nat} {le gr : Nat → Int32} (e40 : ∀ r, J 40 r = I 40 r) (e42 : ∀ r, J 42 r = I 42 r) (e43 : ∀ r, J 43 r = I 43 r) : ∀ (k : Nat) (g : Nat → Option Nat), srch J N le gr k g = srch I N le gr k g
  | 0, _ => rfl
  | k + 1, g => by
    have e1 : rchd J gr g k = rchd I gr g k := by unfold rchd; simp only [e43]
    have e2 : ∀ r, admd J le gr g k r = admd I le gr g k r := fun r => by unfold admd; simp only [e40, e42, e43]
    show dit (rchd J gr g k) (fS (fun i => dit (admd J le gr g k (N 202 k i)) (srch J N le gr k (va_up g k (some (N 202 k i)))) none) (N 201 k 0)) (srch J N le gr k g) = dit (rchd I gr g k) (fS (fun i => dit (admd I le gr g k (N 202 k i)) (srch I N le gr k (va_up g k (some (N 202 k i)))) none) (N 201 k 0)) (srch I N le gr k g)
    rw [e1, srch_cg e40 e42 e43 k g]
    congr 1
    refine fS_cg _ (fun i _ => ?_)
    rw [e2, srch_cg e40 e42 e43 k]
theorem srch_90 {σ : sT} {F : Nat → Int32} {le gr : Nat → Int32} (k : Nat) (g : Nat → Option Nat) : srch (setI σ 90 0 F).1 (setI σ 90 0 F).2.1 le gr k g = srch σ.1 σ.2.1 le gr k g := srch_cg (fun r => setI_n (Or.inl (by decide))) (fun r => setI_n (Or.inl (by decide))) (fun r => setI_n (Or.inl (by decide))) k g
abbrev QCh (G : hG) (A : aT) (σ : sT) (le gr : Nat → Int32) (k : Nat) (g : Nat → Option Nat) (h : hp) : Option Value → hp → Prop := fun r h2 => (∀ g', srch σ.1 σ.2.1 le gr k g = some g' → r = some (.int 1) ∧ pkB σ g' ∧ ∃ C, h2 = va_up h (A 90 0) (some (aI 6 C)) ∧ ∀ j, j < 6 → C j = enc (g' j)) ∧ (srch σ.1 σ.2.1 le gr k g = none → r = some (.int 0) ∧ ∃ C, h2 = va_up h (A 90 0) (some (aI 6 C)) ∧ ∀ j, k ≤ j → j < 6 → C j = σ.1 90 0 j)
set_option maxHeartbeats 8000000 in
set_option maxRecDepth 100000 in
theorem c_mchooses (G : hG) {A : aT} {ofr : Nat → Nat} {fa ta : Nat} {le gr : Nat → Int32} (hle : ∀ j, j < 6 → nbk (le j) (gr j)) : ∀ (kq : Nat) (h : hp) (σ : sT) (g : Nat → Option Nat), WM G h A σ → MB σ → MR σ ofr → h fa = some (aI 6 le) → h ta = some (aI 6 gr) → fa ≠ A 90 0 → ta ≠ A 90 0 → kq ≤ 6 → pkB σ g → (∀ j, kq ≤ j → j < 6 → σ.1 90 0 j = enc (g j)) → (∀ j, j < kq → g j = none) →
    PMet G MX10_chooses (kq + 3) 0 0 [.ref (A 60 0), .int (oth kq), .ref fa, .ref ta] h (QCh G A σ le gr kq g h) noX
  | 0, h, σ, g, H, hb, hR, hfa, hta, hf9, ht9, hk6, hgb, hC, hnul => by
    refine PMet.of rfl (Nat.le_of_ble_eq_true rfl) (fun d hd => ?_)
    refine PW.sub (L2 := [(0, Value.ref (A 60 0)), (1, Value.int (oth 0)), (2, Value.ref fa), (3, Value.ref ta)]) [0, 1, 2, 3] rfl ?_
    refine pw_iload_n (pc2 := 1) dX10_chooses_0 rfl rfl 1 rfl ?_
    refine pw_if_ge (tgt := 6) (pc2 := 4) dX10_chooses_1 (by decide) rfl (fun c1 => by exact absurd c1 (by decide)) (fun _ => ?_)
    refine pw_iconst (pc2 := 5) (v := 1) dX10_chooses_4 rfl (by decide) ?_
    refine pw_iret dX10_chooses_5 rfl (by first | rfl | assumption | simp [narrow]) ?_
    exact ⟨fun g' e => by cases e; exact ⟨rfl, hgb, σ.1 90 0, (up_id H.c90).symm, fun j hj => hC j (Nat.zero_le j) hj⟩, fun e => by cases e⟩
  | kq + 1, h, σ, g, H, hb, hR, hfa, hta, hf9, ht9, hk6, hgb, hC, hnul => by
    rw [oth_s]
    have hk : kq < 6 := hk6
    have h20 := H.iv.2.2.1
    have HW : ∀ F, WM G (va_up h (A 90 0) (some (aI 6 F))) A (setI σ 90 0 F) := fun F => H.wI (t := 90) (i := 0) rfl (by decide) (iv_setI H.iv (by decide)) rfl
    have hRW : ∀ F, MR (setI σ 90 0 F) ofr := fun F => hR
    have hbW : ∀ F, MB (setI σ 90 0 F) := fun F => hb
    have HF : ∀ F, va_up h (A 90 0) (some (aI 6 F)) fa = some (aI 6 le) := fun F => (va_up_ne _ _ hf9).trans hfa
    have HT : ∀ F, va_up h (A 90 0) (some (aI 6 F)) ta = some (aI 6 gr) := fun F => (va_up_ne _ _ ht9).trans hta
    have H6 : ∀ F, va_up h (A 90 0) (some (aI 6 F)) (A 60 0) = some (oB 13 [.ref (A 61 0), .ref (A 62 0), .ref (A 63 0), .ref (A 64 0), .ref (A 65 0), .ref (A 66 0), .ref (A 67 0), .ref (A 68 0), .ref (A 69 0), .ref (A 70 0), .ref (A 71 0), .ref (A 72 0), .ref (A 73 0), .ref (A 74 0), .ref (A 75 0), .ref (A 76 0), .int (σ.1 60 0 0), .ref (A 77 0), .ref (A 78 0), .ref (A 79 0), .ref (A 80 0), .ref (A 81 0), .ref (A 82 0), .ref (A 83 0), .int (σ.1 60 0 1), .ref (A 84 0), .ref (A 85 0), .ref (A 86 0), .ref (A 87 0), .ref (A 88 0), .int (σ.1 60 0 2), .int (σ.1 60 0 3), .ref (A 89 0), .int (σ.1 60 0 4), .int (σ.1 60 0 5), .int (σ.1 60 0 6), .ref (A 90 0), .int (σ.1 60 0 7)]) := fun F => (HW F).c60
    have H77 : ∀ F, va_up h (A 90 0) (some (aI 6 F)) (A 77 0) = some (aI 20 (σ.1 77 0)) := fun F => (HW F).c77
    have H90 : ∀ F, va_up h (A 90 0) (some (aI 6 F)) (A 90 0) = some (aI 6 F) := fun F => va_up_self _ _ _
    refine PMet.of rfl (Nat.le_of_ble_eq_true rfl) (fun d hd => ?_)
    refine PW.sub (L2 := [(0, Value.ref (A 60 0)), (1, Value.int (nI kq)), (2, Value.ref fa), (3, Value.ref ta)]) [0, 1, 2, 3] rfl ?_
    refine pw_iload_n (pc2 := 1) dX10_chooses_0 rfl rfl 1 rfl ?_
    refine pw_if_ge (tgt := 6) (pc2 := 4) dX10_chooses_1 (by decide) rfl (fun _ => ?_) (fun c1 => by exact absurd (nI_pos' (by omega)) c1)
    refine pw_aload_n (pc2 := 7) dX10_chooses_6 rfl rfl 0 rfl (by first | exact rf_ref _ | exact rf_opt _ | exact rf_nul) ?_
    refine pw_get (pc2 := 10) kX10 (k := 36) (by decide) rfl fl_X10_106 H.c60 rfl dX10_chooses_7 rfl ?_
    refine pw_iload_n (pc2 := 11) dX10_chooses_10 rfl rfl 1 rfl ?_
    refine pw_iconst (pc2 := 12) (v := (-1)) dX10_chooses_11 rfl (by decide) ?_
    refine pw_iastN (pc2 := 13) H.c90 (i := kq) (by first | assumption | omega) (by omega) dX10_chooses_12 rfl ?_
    refine pw_aload_n (pc2 := 14) dX10_chooses_13 rfl rfl 0 rfl (by first | exact rf_ref _ | exact rf_opt _ | exact rf_nul) ?_
    refine pw_iload_n (pc2 := 15) dX10_chooses_14 rfl rfl 1 rfl ?_
    refine pw_aload_n (pc2 := 16) dX10_chooses_15 rfl rfl 2 rfl (by first | exact rf_ref _ | exact rf_opt _ | exact rf_nul) ?_
    refine pw_callVb (pc2 := 19) (c_mreach G _ (HW (upd (σ.1 90 0) kq (-1))) (hRW (upd (σ.1 90 0) kq (-1))) (HF (upd (σ.1 90 0) kq (-1))) hle hgb hk (fun j h1 h2 => by rw [setI_s]; exact (if_neg (by omega)).trans (hC j (by omega) h2))) cs_X10_138 rfl rfl (H6 (upd (σ.1 90 0) kq (-1))) dX10_chooses_16 rfl (by omega) rfl (by first | decide | simp [cat_rf, Value.category]) (fun q16 => ?_) (fun q16 => ?_)
    · refine pw_if_ne (tgt := 32) (pc2 := 22) dX10_chooses_19 (by decide) rfl (fun _ => ?_) (fun c19 => by exact absurd c19 (by decide))
      refine pw_aload_n (pc2 := 33) dX10_chooses_32 rfl rfl 0 rfl (by first | exact rf_ref _ | exact rf_opt _ | exact rf_nul) ?_
      refine pw_get (pc2 := 36) kX10 (k := 24) (by decide) rfl fl_X10_146 (H6 (upd (σ.1 90 0) kq (-1))) rfl dX10_chooses_33 rfl ?_
      refine pw_topE hb.2.1 ?_
      refine pw_iconst (pc2 := 37) (v := 1) dX10_chooses_36 rfl (by decide) ?_
      refine pw_isub (pc2 := 38) dX10_chooses_37 rfl ?_
      refine pw_istore (pc2 := 40) (L2 := [(4, Value.int (oth (nrl σ))), (0, Value.ref (A 60 0)), (1, Value.int (nI kq)), (2, Value.ref fa), (3, Value.ref ta)]) dX10_chooses_38 rfl (by decide) rfl ?_
      have hF0 : srch σ.1 σ.2.1 le gr (kq + 1) g = fS (fM σ.1 σ.2.1 le gr ofr kq g) (nrl σ) := srch_M hR hk q16
      have loop : ∀ (m : Nat) (F9 : Nat → Int32) (_hm : m ≤ nrl σ) (_hF9 : ∀ j, kq ≤ j → j < 6 → F9 j = (upd (σ.1 90 0) kq (-1)) j) (_hF : srch σ.1 σ.2.1 le gr (kq + 1) g = fS (fM σ.1 σ.2.1 le gr ofr kq g) m), PW G MX10_chooses d noA (E0 G (QCh G A σ le gr (kq + 1) g h) noX) 0 0 40 [(4, Value.int (oth m)), (0, Value.ref (A 60 0)), (1, Value.int (nI kq)), (2, Value.ref fa), (3, Value.ref ta)] [] (va_up h (A 90 0) (some (aI 6 F9))) := by
        intro m
        induction m with
        | zero =>
          intro F9 hmn hF9 hF
          refine pw_iload (pc2 := 42) dX10_chooses_40 rfl 0 rfl ?_
          refine pw_if_lt (tgt := 102) (pc2 := 45) dX10_chooses_42 (by decide) rfl (fun _ => ?_) (fun c42 => by exact absurd (by decide) c42)
          refine pw_iconst (pc2 := 103) (v := 0) dX10_chooses_102 rfl (by decide) ?_
          refine pw_iret dX10_chooses_103 rfl (by first | rfl | assumption | simp [narrow]) ?_
          exact ⟨fun g2 e2 => (by rw [hF] at e2; cases e2), fun _ => ⟨rfl, F9, rfl, fun j h1 h2 => (hF9 j (by omega) h2).trans (if_neg (by omega))⟩⟩
        | succ m ih =>
          intro F9 hmn hF9 hF
          rw [oth_s]
          have hm : m < nrl σ := by omega
          have hm20 : m < 20 := by omega
          refine pw_iload (pc2 := 42) dX10_chooses_40 rfl 0 rfl ?_
          refine pw_if_lt (tgt := 102) (pc2 := 45) dX10_chooses_42 (by decide) rfl (fun c42 => by exact absurd c42 (nI_pos (by omega))) (fun _ => ?_)
          refine pw_aload_n (pc2 := 46) dX10_chooses_45 rfl rfl 1 rfl (by first | exact rf_ref _ | exact rf_opt _ | exact rf_nul) ?_
          refine pw_get (pc2 := 49) kX10 (k := 17) (by decide) rfl fl_X10_61 (H6 F9) rfl dX10_chooses_46 rfl ?_
          refine pw_iload (pc2 := 51) dX10_chooses_49 rfl 0 rfl ?_
          refine pw_ialdN (pc2 := 52) (H77 F9) (i := m) (by first | assumption | omega) (by omega) dX10_chooses_51 rfl ?_
          refine pw_topE (hR.1 m hm).2.1 ?_
          refine pw_iload_n (pc2 := 53) dX10_chooses_52 rfl rfl 2 rfl ?_
          refine pw_icmp_ne (tgt := 96) (pc2 := 56) dX10_chooses_53 (by decide) rfl (fun c53 => ?_) (fun c53 => ?_)
          · refine pw_iinc (pc2 := 99) (v := oth m) (L2 := [(4, Value.int (oth m)), (0, Value.ref (A 60 0)), (1, Value.int (nI kq)), (2, Value.ref fa), (3, Value.ref ta)]) dX10_chooses_96 rfl 0 rfl (oth_ii m) (by decide) rfl ?_
            refine pw_goto (tgt := 40) dX10_chooses_99 (by decide) ?_
            refine PW.sub (L2 := [(4, Value.int (oth m)), (0, Value.ref (A 60 0)), (1, Value.int (nI kq)), (2, Value.ref fa), (3, Value.ref ta)]) [0, 1, 2, 3, 4] rfl ?_
            exact ih F9 (by omega) hF9 (hF.trans (fS_f (if_neg (fun z => c53 (by rw [z])))))
          · have hom : ofr m = kq := (nI_eq (by have := (hR.1 m hm).1; have := H.iv.1; omega) (by omega)).mp c53
            refine pw_aload_n (pc2 := 57) dX10_chooses_56 rfl rfl 1 rfl (by first | exact rf_ref _ | exact rf_opt _ | exact rf_nul) ?_
            refine pw_iload (pc2 := 59) dX10_chooses_57 rfl 0 rfl ?_
            refine pw_aload_n (pc2 := 60) dX10_chooses_59 rfl rfl 3 rfl (by first | exact rf_ref _ | exact rf_opt _ | exact rf_nul) ?_
            refine pw_aload_n (pc2 := 61) dX10_chooses_60 rfl rfl 4 rfl (by first | exact rf_ref _ | exact rf_opt _ | exact rf_nul) ?_
            refine pw_callVb (pc2 := 64) (c_mfits G _ (HW F9) (hRW F9) (HF F9) (HT F9) hle hgb hk (fun j h1 h2 => by rw [setI_s]; exact (hF9 j (by omega) h2).trans ((if_neg (by omega)).trans (hC j (by omega) h2))) (r := m) hm hom) cs_X10_149 rfl rfl (H6 F9) dX10_chooses_61 rfl (by omega) rfl (by first | decide | simp [cat_rf, Value.category]) (fun q61 => ?_) (fun q61 => ?_)
            · refine pw_if_eq (tgt := 96) (pc2 := 67) dX10_chooses_64 (by decide) rfl (fun c64 => by exact absurd c64 (by decide)) (fun _ => ?_)
              refine pw_aload_n (pc2 := 68) dX10_chooses_67 rfl rfl 1 rfl (by first | exact rf_ref _ | exact rf_opt _ | exact rf_nul) ?_
              refine pw_get (pc2 := 71) kX10 (k := 36) (by decide) rfl fl_X10_106 (H6 F9) rfl dX10_chooses_68 rfl ?_
              refine pw_iload_n (pc2 := 72) dX10_chooses_71 rfl rfl 2 rfl ?_
              refine pw_iload (pc2 := 74) dX10_chooses_72 rfl 0 rfl ?_
              refine pw_iastN (pc2 := 75) (H90 F9) (i := kq) (by first | assumption | omega) (by omega) dX10_chooses_74 rfl ?_
              refine PW.heap (h' := va_up h (A 90 0) (some (aI 6 (upd F9 kq (nI m))))) (up_up _ _ _ _) ?_
              refine pw_aload_n (pc2 := 76) dX10_chooses_75 rfl rfl 1 rfl (by first | exact rf_ref _ | exact rf_opt _ | exact rf_nul) ?_
              refine pw_iload_n (pc2 := 77) dX10_chooses_76 rfl rfl 2 rfl ?_
              refine pw_iconst (pc2 := 78) (v := 1) dX10_chooses_77 rfl (by decide) ?_
              refine pw_isub (pc2 := 79) dX10_chooses_78 rfl ?_
              refine pw_aload_n (pc2 := 80) dX10_chooses_79 rfl rfl 3 rfl (by first | exact rf_ref _ | exact rf_opt _ | exact rf_nul) ?_
              refine pw_aload_n (pc2 := 81) dX10_chooses_80 rfl rfl 4 rfl (by first | exact rf_ref _ | exact rf_opt _ | exact rf_nul) ?_
              refine pw_callV (pc2 := 84) (c_mchooses G hle kq _ (setI σ 90 0 (upd F9 kq (nI m))) (va_up g kq (some m)) (HW _) (hbW _) (hRW _) (HF _) (HT _) hf9 ht9 (by omega) (pkB_up hgb hm) (fun j h1 h2 => by rw [setI_s]; by_cases ej : j = kq; (subst ej; rw [upd_s, va_up_self]; rfl); rw [va_up_ne _ _ ej]; exact (if_neg ej).trans ((hF9 j h1 h2).trans ((if_neg ej).trans (hC j (by omega) h2)))) (fun j hj => by rw [va_up_ne _ _ (by omega)]; exact hnul j (by omega))) cs_X10_142 rfl rfl (H6 (upd F9 kq (nI m))) dX10_chooses_81 rfl (by omega) rfl (by first | decide | simp [cat_rf, Value.category]) (fun r9 h9 q9 => ?_) (fun Y h9 q9 => q9.elim)
              have hfm : fM σ.1 σ.2.1 le gr ofr kq g m = srch σ.1 σ.2.1 le gr kq (va_up g kq (some m)) := (if_pos hom).trans (dit_t q61)
              cases hs : srch σ.1 σ.2.1 le gr kq (va_up g kq (some m)) with
              | none =>
                obtain ⟨rfl, C, rfl, hCC⟩ := q9.2 ((srch_90 _ _).trans hs)
                refine PW.heap (h' := va_up h (A 90 0) (some (aI 6 C))) (up_up _ _ _ _) ?_
                refine pw_if_eq (tgt := 89) (pc2 := 87) dX10_chooses_84 (by decide) rfl (fun _ => ?_) (fun c84 => by exact absurd (by decide) c84)
                refine pw_aload_n (pc2 := 90) dX10_chooses_89 rfl rfl 1 rfl (by first | exact rf_ref _ | exact rf_opt _ | exact rf_nul) ?_
                refine pw_get (pc2 := 93) kX10 (k := 36) (by decide) rfl fl_X10_106 (H6 C) rfl dX10_chooses_90 rfl ?_
                refine pw_iload_n (pc2 := 94) dX10_chooses_93 rfl rfl 2 rfl ?_
                refine pw_iconst (pc2 := 95) (v := (-1)) dX10_chooses_94 rfl (by decide) ?_
                refine pw_iastN (pc2 := 96) (H90 C) (i := kq) (by first | assumption | omega) (by omega) dX10_chooses_95 rfl ?_
                refine PW.heap (h' := va_up h (A 90 0) (some (aI 6 (upd C kq (-1))))) (up_up _ _ _ _) ?_
                refine pw_iinc (pc2 := 99) (v := oth m) (L2 := [(4, Value.int (oth m)), (0, Value.ref (A 60 0)), (1, Value.int (nI kq)), (2, Value.ref fa), (3, Value.ref ta)]) dX10_chooses_96 rfl 0 rfl (oth_ii m) (by decide) rfl ?_
                refine pw_goto (tgt := 40) dX10_chooses_99 (by decide) ?_
                refine PW.sub (L2 := [(4, Value.int (oth m)), (0, Value.ref (A 60 0)), (1, Value.int (nI kq)), (2, Value.ref fa), (3, Value.ref ta)]) [0, 1, 2, 3, 4] rfl ?_
                exact ih (upd C kq (-1)) (by omega) (fun j h1 h2 => by by_cases ej : j = kq; (subst ej; rw [upd_s, upd_s]); exact (if_neg ej).trans ((hCC j h1 h2).trans (by rw [setI_s]; exact (if_neg ej).trans (hF9 j h1 h2)))) (hF.trans (fS_f (hfm.trans hs)))
              | some g' =>
                obtain ⟨rfl, hgb', C, rfl, hCC⟩ := q9.1 g' ((srch_90 _ _).trans hs)
                refine pw_if_eq (tgt := 89) (pc2 := 87) dX10_chooses_84 (by decide) rfl (fun c84 => by exact absurd c84 (by decide)) (fun _ => ?_)
                refine pw_iconst (pc2 := 88) (v := 1) dX10_chooses_87 rfl (by decide) ?_
                refine pw_iret dX10_chooses_88 rfl (by first | rfl | assumption | simp [narrow]) ?_
                exact ⟨fun g2 e2 => (by cases (hF.trans (fS_t (hfm.trans hs))).symm.trans e2; exact ⟨rfl, hgb', C, up_up _ _ _ _, hCC⟩), fun e2 => (by cases (hF.trans (fS_t (hfm.trans hs))).symm.trans e2)⟩
            · refine pw_if_eq (tgt := 96) (pc2 := 67) dX10_chooses_64 (by decide) rfl (fun _ => ?_) (fun c64 => by exact absurd (by decide) c64)
              refine pw_iinc (pc2 := 99) (v := oth m) (L2 := [(4, Value.int (oth m)), (0, Value.ref (A 60 0)), (1, Value.int (nI kq)), (2, Value.ref fa), (3, Value.ref ta)]) dX10_chooses_96 rfl 0 rfl (oth_ii m) (by decide) rfl ?_
              refine pw_goto (tgt := 40) dX10_chooses_99 (by decide) ?_
              refine PW.sub (L2 := [(4, Value.int (oth m)), (0, Value.ref (A 60 0)), (1, Value.int (nI kq)), (2, Value.ref fa), (3, Value.ref ta)]) [0, 1, 2, 3, 4] rfl ?_
              exact ih F9 (by omega) hF9 (hF.trans (fS_f ((if_pos hom).trans (dit_f q61))))
      refine PW.sub (L2 := [(4, Value.int (oth (nrl σ))), (0, Value.ref (A 60 0)), (1, Value.int (nI kq)), (2, Value.ref fa), (3, Value.ref ta)]) [0, 1, 2, 3, 4] rfl ?_
      exact loop (nrl σ) (upd (σ.1 90 0) kq (-1)) (Nat.le_refl _) (fun _ _ _ => rfl) hF0
    · refine pw_if_ne (tgt := 32) (pc2 := 22) dX10_chooses_19 (by decide) rfl (fun c19 => by exact absurd (by decide) c19) (fun _ => ?_)
      refine pw_aload_n (pc2 := 23) dX10_chooses_22 rfl rfl 0 rfl (by first | exact rf_ref _ | exact rf_opt _ | exact rf_nul) ?_
      refine pw_iload_n (pc2 := 24) dX10_chooses_23 rfl rfl 1 rfl ?_
      refine pw_iconst (pc2 := 25) (v := 1) dX10_chooses_24 rfl (by decide) ?_
      refine pw_isub (pc2 := 26) dX10_chooses_25 rfl ?_
      refine pw_aload_n (pc2 := 27) dX10_chooses_26 rfl rfl 2 rfl (by first | exact rf_ref _ | exact rf_opt _ | exact rf_nul) ?_
      refine pw_aload_n (pc2 := 28) dX10_chooses_27 rfl rfl 3 rfl (by first | exact rf_ref _ | exact rf_opt _ | exact rf_nul) ?_
      refine pw_callV (pc2 := 31) (c_mchooses G hle kq _ (setI σ 90 0 (upd (σ.1 90 0) kq (-1))) g (HW (upd (σ.1 90 0) kq (-1))) (hbW (upd (σ.1 90 0) kq (-1))) (hRW (upd (σ.1 90 0) kq (-1))) (HF (upd (σ.1 90 0) kq (-1))) (HT (upd (σ.1 90 0) kq (-1))) hf9 ht9 (by omega) hgb (fun j h1 h2 => by rw [setI_s]; by_cases ej : j = kq; (subst ej; rw [upd_s, hnul j (by omega)]; rfl); exact (if_neg ej).trans (hC j (by omega) h2)) (fun j hj => hnul j (by omega))) cs_X10_142 rfl rfl (H6 (upd (σ.1 90 0) kq (-1))) dX10_chooses_28 rfl (by omega) rfl (by first | decide | simp [cat_rf, Value.category]) (fun r9 h9 q9 => ?_) (fun Y h9 q9 => q9.elim)
      have hsr : srch σ.1 σ.2.1 le gr (kq + 1) g = srch σ.1 σ.2.1 le gr kq g := dit_f q16
      cases hs : srch σ.1 σ.2.1 le gr kq g with
      | none =>
        obtain ⟨rfl, C, rfl, hCC⟩ := q9.2 ((srch_90 _ _).trans hs)
        refine pw_iret dX10_chooses_31 rfl (by first | rfl | assumption | simp [narrow]) ?_
        exact ⟨fun g2 e2 => (by cases (hsr.trans hs).symm.trans e2), fun _ => ⟨rfl, C, up_up _ _ _ _, fun j h1 h2 => (hCC j (by omega) h2).trans (by rw [setI_s]; exact if_neg (by omega))⟩⟩
      | some g' =>
        obtain ⟨rfl, hgb', C, rfl, hCC⟩ := q9.1 g' ((srch_90 _ _).trans hs)
        refine pw_iret dX10_chooses_31 rfl (by first | rfl | assumption | simp [narrow]) ?_
        exact ⟨fun g2 e2 => (by cases (hsr.trans hs).symm.trans e2; exact ⟨rfl, hgb', C, up_up _ _ _ _, hCC⟩), fun e2 => (by cases (hsr.trans hs).symm.trans e2)⟩
