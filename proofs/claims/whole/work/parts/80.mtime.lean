/-! the reference: starts, testTime -/
theorem RT.ln {σ : sT} (hT : RT σ) : ∀ t, t < nts σ → 1 ≤ lnT σ.1 t ∧ lnT σ.1 t ≤ 60 ∧ σ.1 50 t 1 = nI (lnT σ.1 t) := fun t ht => by
  obtain ⟨l, h1, h2, h3⟩ := (hT t ht).2.2.2.2.2.1
  have e : lnT σ.1 t = l := by unfold lnT; rw [h3]; exact nI_clamp (by omega)
  rw [e]
  exact ⟨h1, h2, h3⟩
theorem RT.l85 {σ : sT} (hT : RT σ) {t : Nat} (ht : t < nts σ) : σ.1 85 0 t = nI (lnT σ.1 t) := (hT t ht).2.1.trans (hT.ln t ht).2.2
theorem cp_0 {P : Nat → Prop} {k a : Nat} (ha : a = cp P k) (h : ¬ P k) : a = cp P (k + 1) := by
  show a = cp P k + dit (P k) 1 0
  rw [dit_f h, ← ha, Nat.add_zero]
theorem cp_1 {P : Nat → Prop} {k a : Nat} (ha : a = cp P k) (h : P k) : a + 1 = cp P (k + 1) := by
  show a + 1 = cp P k + dit (P k) 1 0
  rw [dit_t h, ← ha]
theorem cp_n (P : Nat → Prop) : ∀ n, cp P n ≤ n
  | 0 => Nat.le_refl _
  | n + 1 => by
    have := cp_n P n
    show cp P n + dit (P n) 1 0 ≤ n + 1
    by_cases e : P n
    · rw [dit_t e]; omega
    · rw [dit_f e]; omega
set_option maxHeartbeats 4000000 in
set_option maxRecDepth 100000 in
theorem c_starts (G : hG) (h : hp) {A : aT} {σ : sT} (H : WM G h A σ) (hb : MB σ) (hT : RT σ) {p c : Nat} (hp : p < npk σ) (hc : c ≤ 8) : PMet G MX10_starts 0 0 0 [.ref (A 60 0), .int (nI p), .int (nI c)] h (det (some (.int (enc (sqF σ.1 (nI p) (nts σ) c)))) h) noX := by
  have hnp := H.iv.1
  have hnt := H.iv.2.1
  refine PMet.of (by decide +kernel) (Nat.le_of_ble_eq_true rfl) (fun d hd => ?_)
  refine PW.sub (L2 := [(0, Value.ref (A 60 0)), (1, Value.int (nI p)), (2, Value.int (nI c))]) [0, 1, 2] rfl ?_
  refine pw_iconst (pc2 := 1) (v := 0) dX10_starts_0 rfl (by decide) ?_
  refine pw_istore_n (pc2 := 2) (L2 := [(3, Value.int 0), (0, Value.ref (A 60 0)), (1, Value.int (nI p)), (2, Value.int (nI c))]) dX10_starts_1 rfl rfl (by decide) rfl ?_
  have loop : ∀ (k t : Nat) (hsq : sqF σ.1 (nI p) (nts σ) c = ff (fun t => σ.1 50 t 0 = nI p ∧ cp (AH σ.1 (nI p) t) (nts σ) = c) t (nts σ - t)), t + k = nts σ → PW G MX10_starts d noA (E0 G (det (some (.int (enc (sqF σ.1 (nI p) (nts σ) c)))) h) noX) 0 0 2 [(3, Value.int (nI t)), (0, Value.ref (A 60 0)), (1, Value.int (nI p)), (2, Value.int (nI c))] [] h := by
    intro k
    induction k with
    | zero =>
      intro t hsq hik
      have hi9 : t = nts σ := by omega
      refine pw_iload_n (pc2 := 3) dX10_starts_2 rfl rfl 0 rfl ?_
      refine pw_aload_n (pc2 := 4) dX10_starts_3 rfl rfl 1 rfl (by first | exact rf_ref _ | exact rf_opt _ | exact rf_nul) ?_
      refine pw_get (pc2 := 7) kX10 (k := 30) (by decide) rfl fl_X10_171 H.c60 rfl dX10_starts_4 rfl ?_
      refine pw_topE hb.2.2 ?_
      refine pw_icmp_ge (tgt := 126) (pc2 := 10) dX10_starts_7 (by decide) rfl (fun _ => ?_) (fun c7 => by exact absurd (by first | (rw [hi9]; exact Int32.le_refl _) | exact fun q => absurd ((nI_leI (a := nts σ) (b := t) (by omega) (by omega)).mp q) (by omega)) c7)
      refine pw_iconst (pc2 := 127) (v := (-1)) dX10_starts_126 rfl (by decide) ?_
      refine pw_iret dX10_starts_127 rfl (by first | rfl | assumption | simp [narrow]) ?_
      exact ⟨by rw [hsq, hi9, Nat.sub_self]; rfl, rfl⟩
    | succ k ih =>
      intro t hsq hik
      have hi9 : t < nts σ := by omega
      have hk1 : nts σ - t = nts σ - (t + 1) + 1 := by omega
      rw [hk1] at hsq
      refine pw_iload_n (pc2 := 3) dX10_starts_2 rfl rfl 0 rfl ?_
      refine pw_aload_n (pc2 := 4) dX10_starts_3 rfl rfl 1 rfl (by first | exact rf_ref _ | exact rf_opt _ | exact rf_nul) ?_
      refine pw_get (pc2 := 7) kX10 (k := 30) (by decide) rfl fl_X10_171 H.c60 rfl dX10_starts_4 rfl ?_
      refine pw_topE hb.2.2 ?_
      refine pw_icmp_ge (tgt := 126) (pc2 := 10) dX10_starts_7 (by decide) rfl (fun c7 => by exact absurd c7 (by first | (rw [hi9]; exact Int32.le_refl _) | exact fun q => absurd ((nI_leI (a := nts σ) (b := t) (by omega) (by omega)).mp q) (by omega))) (fun _ => ?_)
      refine pw_iconst (pc2 := 11) (v := 0) dX10_starts_10 rfl (by decide) ?_
      refine pw_istore (pc2 := 13) (L2 := [(4, Value.int 0), (3, Value.int (nI t)), (0, Value.ref (A 60 0)), (1, Value.int (nI p)), (2, Value.int (nI c))]) dX10_starts_11 rfl (by decide) rfl ?_
      refine pw_iconst (pc2 := 14) (v := 0) dX10_starts_13 rfl (by decide) ?_
      refine pw_istore (pc2 := 16) (L2 := [(5, Value.int 0), (4, Value.int 0), (3, Value.int (nI t)), (0, Value.ref (A 60 0)), (1, Value.int (nI p)), (2, Value.int (nI c))]) dX10_starts_14 rfl (by decide) rfl ?_
      have hlt := hT.ln t hi9
      have loop2 : ∀ (k i : Nat) (a : Nat) (ha : a = cp (AH σ.1 (nI p) t) i), i + k = nts σ → PW G MX10_starts d noA (E0 G (det (some (.int (enc (sqF σ.1 (nI p) (nts σ) c)))) h) noX) 0 0 16 [(5, Value.int (nI i)), (4, Value.int (nI a)), (3, Value.int (nI t)), (0, Value.ref (A 60 0)), (1, Value.int (nI p)), (2, Value.int (nI c))] [] h := by
        intro k
        induction k with
        | zero =>
          intro i a ha hik
          have hi9k : i = nts σ := by omega
          refine pw_iload (pc2 := 18) dX10_starts_16 rfl 0 rfl ?_
          refine pw_aload_n (pc2 := 19) dX10_starts_18 rfl rfl 3 rfl (by first | exact rf_ref _ | exact rf_opt _ | exact rf_nul) ?_
          refine pw_get (pc2 := 22) kX10 (k := 30) (by decide) rfl fl_X10_171 H.c60 rfl dX10_starts_19 rfl ?_
          refine pw_topE hb.2.2 ?_
          refine pw_icmp_ge (tgt := 102) (pc2 := 25) dX10_starts_22 (by decide) rfl (fun _ => ?_) (fun c22 => by exact absurd (by first | (rw [hi9k]; exact Int32.le_refl _) | exact fun q => absurd ((nI_leI (a := nts σ) (b := i) (by omega) (by omega)).mp q) (by omega)) c22)
          have hca := cp_n (AH σ.1 (nI p) t) i
          refine pw_aload_n (pc2 := 103) dX10_starts_102 rfl rfl 3 rfl (by first | exact rf_ref _ | exact rf_opt _ | exact rf_nul) ?_
          refine pw_get (pc2 := 106) kX10 (k := 25) (by decide) rfl fl_X10_82 H.c60 rfl dX10_starts_103 rfl ?_
          refine pw_iload_n (pc2 := 107) dX10_starts_106 rfl rfl 2 rfl ?_
          refine pw_ialdN (pc2 := 108) H.c84 (i := t) (by first | assumption | omega) (by omega) dX10_starts_107 rfl ?_
          refine pw_topE (hT t hi9).1 ?_
          refine pw_iload_n (pc2 := 109) dX10_starts_108 rfl rfl 4 rfl ?_
          refine pw_icmp_ne (tgt := 120) (pc2 := 112) dX10_starts_109 (by decide) rfl (fun c109 => ?_) (fun c109 => ?_)
          · refine pw_iinc (pc2 := 123) (v := nI (t + 1)) (L2 := [(3, Value.int (nI (t + 1))), (5, Value.int (nI i)), (4, Value.int (nI a)), (0, Value.ref (A 60 0)), (1, Value.int (nI p)), (2, Value.int (nI c))]) dX10_starts_120 rfl 2 rfl (by show nI _ + 1 = nI _; exact nI_1 _) (by decide) rfl ?_
            refine pw_goto (tgt := 2) dX10_starts_123 (by decide) ?_
            refine PW.sub (L2 := [(3, Value.int (nI (t + 1))), (0, Value.ref (A 60 0)), (1, Value.int (nI p)), (2, Value.int (nI c))]) [0, 3, 4, 5] rfl ?_
            refine ih (t + 1) (hsq.trans (dit_f (fun z => ?_))) (by omega)
            first | exact c109 z.1 | exact c115 ((congrArg nI (ha.trans (by rw [hi9k]; exact z.2))))
          · refine pw_iload (pc2 := 114) dX10_starts_112 rfl 1 rfl ?_
            refine pw_iload_n (pc2 := 115) dX10_starts_114 rfl rfl 5 rfl ?_
            refine pw_icmp_ne (tgt := 120) (pc2 := 118) dX10_starts_115 (by decide) rfl (fun c115 => ?_) (fun c115 => ?_)
            · refine pw_iinc (pc2 := 123) (v := nI (t + 1)) (L2 := [(3, Value.int (nI (t + 1))), (5, Value.int (nI i)), (4, Value.int (nI a)), (0, Value.ref (A 60 0)), (1, Value.int (nI p)), (2, Value.int (nI c))]) dX10_starts_120 rfl 2 rfl (by show nI _ + 1 = nI _; exact nI_1 _) (by decide) rfl ?_
              refine pw_goto (tgt := 2) dX10_starts_123 (by decide) ?_
              refine PW.sub (L2 := [(3, Value.int (nI (t + 1))), (0, Value.ref (A 60 0)), (1, Value.int (nI p)), (2, Value.int (nI c))]) [0, 3, 4, 5] rfl ?_
              refine ih (t + 1) (hsq.trans (dit_f (fun z => ?_))) (by omega)
              first | exact c109 z.1 | exact c115 ((congrArg nI (ha.trans (by rw [hi9k]; exact z.2))))
            · refine pw_iload_n (pc2 := 119) dX10_starts_118 rfl rfl 2 rfl ?_
              refine pw_iret dX10_starts_119 rfl (by first | rfl | assumption | simp [narrow]) ?_
              exact ⟨by rw [hsq, show ff _ t (nts σ - (t + 1) + 1) = some t from dit_t ⟨c109, by rw [← hi9k, ← ha]; exact nI_inj (by omega) (by omega) c115⟩]; rfl, rfl⟩
        | succ k ih2 =>
          intro i a ha hik
          have hi9k : i < nts σ := by omega
          have hli := hT.ln i hi9k
          refine pw_iload (pc2 := 18) dX10_starts_16 rfl 0 rfl ?_
          refine pw_aload_n (pc2 := 19) dX10_starts_18 rfl rfl 3 rfl (by first | exact rf_ref _ | exact rf_opt _ | exact rf_nul) ?_
          refine pw_get (pc2 := 22) kX10 (k := 30) (by decide) rfl fl_X10_171 H.c60 rfl dX10_starts_19 rfl ?_
          refine pw_topE hb.2.2 ?_
          refine pw_icmp_ge (tgt := 102) (pc2 := 25) dX10_starts_22 (by decide) rfl (fun c22 => by exact absurd c22 (by first | (rw [hi9k]; exact Int32.le_refl _) | exact fun q => absurd ((nI_leI (a := nts σ) (b := i) (by omega) (by omega)).mp q) (by omega))) (fun _ => ?_)
          refine pw_aload_n (pc2 := 26) dX10_starts_25 rfl rfl 3 rfl (by first | exact rf_ref _ | exact rf_opt _ | exact rf_nul) ?_
          refine pw_get (pc2 := 29) kX10 (k := 25) (by decide) rfl fl_X10_82 H.c60 rfl dX10_starts_26 rfl ?_
          refine pw_iload (pc2 := 31) dX10_starts_29 rfl 0 rfl ?_
          refine pw_ialdN (pc2 := 32) H.c84 (i := i) (by first | assumption | omega) (by omega) dX10_starts_31 rfl ?_
          refine pw_topE (hT i hi9k).1 ?_
          refine pw_iload_n (pc2 := 33) dX10_starts_32 rfl rfl 4 rfl ?_
          refine pw_icmp_ne (tgt := 78) (pc2 := 36) dX10_starts_33 (by decide) rfl (fun c33 => ?_) (fun c33 => ?_)
          · refine pw_iconst (pc2 := 79) (v := 0) dX10_starts_78 rfl (by decide) ?_
            refine pw_istore (pc2 := 81) (L2 := [(6, Value.int 0), (5, Value.int (nI i)), (4, Value.int (nI a)), (3, Value.int (nI t)), (0, Value.ref (A 60 0)), (1, Value.int (nI p)), (2, Value.int (nI c))]) dX10_starts_79 rfl (by decide) rfl ?_
            refine pw_iload (pc2 := 83) dX10_starts_81 rfl 2 rfl ?_
            refine pw_iload (pc2 := 85) dX10_starts_83 rfl 0 rfl ?_
            refine pw_if_eq (tgt := 92) (pc2 := 88) dX10_starts_85 (by decide) rfl (fun _ => ?_) (fun c85 => by exact absurd (by decide) c85)
            refine pw_iconst (pc2 := 93) (v := 0) dX10_starts_92 rfl (by decide) ?_
            refine pw_iadd (pc2 := 94) dX10_starts_93 rfl ?_
            refine pw_topE (Int32.add_zero (nI a)) ?_
            refine pw_istore (pc2 := 96) (L2 := [(4, Value.int (nI a)), (6, Value.int 0), (5, Value.int (nI i)), (3, Value.int (nI t)), (0, Value.ref (A 60 0)), (1, Value.int (nI p)), (2, Value.int (nI c))]) dX10_starts_94 rfl (by decide) rfl ?_
            refine pw_iinc (pc2 := 99) (v := nI (i + 1)) (L2 := [(5, Value.int (nI (i + 1))), (4, Value.int (nI a)), (6, Value.int 0), (3, Value.int (nI t)), (0, Value.ref (A 60 0)), (1, Value.int (nI p)), (2, Value.int (nI c))]) dX10_starts_96 rfl 2 rfl (by show nI _ + 1 = nI _; exact nI_1 _) (by decide) rfl ?_
            refine pw_goto (tgt := 16) dX10_starts_99 (by decide) ?_
            refine PW.sub (L2 := [(5, Value.int (nI (i + 1))), (4, Value.int (nI a)), (3, Value.int (nI t)), (0, Value.ref (A 60 0)), (1, Value.int (nI p)), (2, Value.int (nI c))]) [0, 1, 3, 4, 5, 6] rfl ?_
            refine ih2 (i + 1) a (cp_0 ha (fun z => ?_)) (by omega)
            first | exact c33 z.1 | (rcases z.2 with z2 | z2; exact c49 ((nI_ltI (by omega) (by omega)).mpr z2); exact c65 (congrArg nI z2.1)) | (rcases z.2 with z2 | z2; exact c49 ((nI_ltI (by omega) (by omega)).mpr z2); exact absurd c71 (Int32.not_le.mpr ((nI_ltI (a := i) (b := t) (by omega) (by omega)).mpr z2.2)))
          · refine pw_aload_n (pc2 := 37) dX10_starts_36 rfl rfl 3 rfl (by first | exact rf_ref _ | exact rf_opt _ | exact rf_nul) ?_
            refine pw_get (pc2 := 40) kX10 (k := 26) (by decide) rfl fl_X10_85 H.c60 rfl dX10_starts_37 rfl ?_
            refine pw_iload (pc2 := 42) dX10_starts_40 rfl 0 rfl ?_
            refine pw_ialdN (pc2 := 43) H.c85 (i := i) (by first | assumption | omega) (by omega) dX10_starts_42 rfl ?_
            refine pw_topE (hT.l85 hi9k) ?_
            refine pw_aload_n (pc2 := 44) dX10_starts_43 rfl rfl 3 rfl (by first | exact rf_ref _ | exact rf_opt _ | exact rf_nul) ?_
            refine pw_get (pc2 := 47) kX10 (k := 26) (by decide) rfl fl_X10_85 H.c60 rfl dX10_starts_44 rfl ?_
            refine pw_iload_n (pc2 := 48) dX10_starts_47 rfl rfl 2 rfl ?_
            refine pw_ialdN (pc2 := 49) H.c85 (i := t) (by first | assumption | omega) (by omega) dX10_starts_48 rfl ?_
            refine pw_topE (hT.l85 hi9) ?_
            refine pw_icmp_gt (tgt := 74) (pc2 := 52) dX10_starts_49 (by decide) rfl (fun c49 => ?_) (fun c49 => ?_)
            · refine pw_iconst (pc2 := 75) (v := 1) dX10_starts_74 rfl (by decide) ?_
              refine pw_goto (tgt := 79) dX10_starts_75 (by decide) ?_
              refine pw_istore (pc2 := 81) (L2 := [(6, Value.int 1), (5, Value.int (nI i)), (4, Value.int (nI a)), (3, Value.int (nI t)), (0, Value.ref (A 60 0)), (1, Value.int (nI p)), (2, Value.int (nI c))]) dX10_starts_79 rfl (by decide) rfl ?_
              refine pw_iload (pc2 := 83) dX10_starts_81 rfl 2 rfl ?_
              refine pw_iload (pc2 := 85) dX10_starts_83 rfl 0 rfl ?_
              refine pw_if_eq (tgt := 92) (pc2 := 88) dX10_starts_85 (by decide) rfl (fun c85 => by exact absurd c85 (by decide)) (fun _ => ?_)
              refine pw_iconst (pc2 := 89) (v := 1) dX10_starts_88 rfl (by decide) ?_
              refine pw_goto (tgt := 93) dX10_starts_89 (by decide) ?_
              refine pw_iadd (pc2 := 94) dX10_starts_93 rfl ?_
              refine pw_topE (nI_1 _) ?_
              refine pw_istore (pc2 := 96) (L2 := [(4, Value.int (nI (a + 1))), (6, Value.int 1), (5, Value.int (nI i)), (3, Value.int (nI t)), (0, Value.ref (A 60 0)), (1, Value.int (nI p)), (2, Value.int (nI c))]) dX10_starts_94 rfl (by decide) rfl ?_
              refine pw_iinc (pc2 := 99) (v := nI (i + 1)) (L2 := [(5, Value.int (nI (i + 1))), (4, Value.int (nI (a + 1))), (6, Value.int 1), (3, Value.int (nI t)), (0, Value.ref (A 60 0)), (1, Value.int (nI p)), (2, Value.int (nI c))]) dX10_starts_96 rfl 2 rfl (by show nI _ + 1 = nI _; exact nI_1 _) (by decide) rfl ?_
              refine pw_goto (tgt := 16) dX10_starts_99 (by decide) ?_
              refine PW.sub (L2 := [(5, Value.int (nI (i + 1))), (4, Value.int (nI (a + 1))), (3, Value.int (nI t)), (0, Value.ref (A 60 0)), (1, Value.int (nI p)), (2, Value.int (nI c))]) [0, 1, 3, 4, 5, 6] rfl ?_
              refine ih2 (i + 1) (a + 1) (cp_1 ha ⟨c33, ?_⟩) (by omega)
              first | exact Or.inl ((nI_ltI (by omega) (by omega)).mp c49) | exact Or.inr ⟨nI_inj (by omega) (by omega) c65, (nI_ltI (a := i) (b := t) (by omega) (by omega)).mp (Int32.not_le.mp c71)⟩
            · refine pw_aload_n (pc2 := 53) dX10_starts_52 rfl rfl 3 rfl (by first | exact rf_ref _ | exact rf_opt _ | exact rf_nul) ?_
              refine pw_get (pc2 := 56) kX10 (k := 26) (by decide) rfl fl_X10_85 H.c60 rfl dX10_starts_53 rfl ?_
              refine pw_iload (pc2 := 58) dX10_starts_56 rfl 0 rfl ?_
              refine pw_ialdN (pc2 := 59) H.c85 (i := i) (by first | assumption | omega) (by omega) dX10_starts_58 rfl ?_
              refine pw_topE (hT.l85 hi9k) ?_
              refine pw_aload_n (pc2 := 60) dX10_starts_59 rfl rfl 3 rfl (by first | exact rf_ref _ | exact rf_opt _ | exact rf_nul) ?_
              refine pw_get (pc2 := 63) kX10 (k := 26) (by decide) rfl fl_X10_85 H.c60 rfl dX10_starts_60 rfl ?_
              refine pw_iload_n (pc2 := 64) dX10_starts_63 rfl rfl 2 rfl ?_
              refine pw_ialdN (pc2 := 65) H.c85 (i := t) (by first | assumption | omega) (by omega) dX10_starts_64 rfl ?_
              refine pw_topE (hT.l85 hi9) ?_
              refine pw_icmp_ne (tgt := 78) (pc2 := 68) dX10_starts_65 (by decide) rfl (fun c65 => ?_) (fun c65 => ?_)
              · refine pw_iconst (pc2 := 79) (v := 0) dX10_starts_78 rfl (by decide) ?_
                refine pw_istore (pc2 := 81) (L2 := [(6, Value.int 0), (5, Value.int (nI i)), (4, Value.int (nI a)), (3, Value.int (nI t)), (0, Value.ref (A 60 0)), (1, Value.int (nI p)), (2, Value.int (nI c))]) dX10_starts_79 rfl (by decide) rfl ?_
                refine pw_iload (pc2 := 83) dX10_starts_81 rfl 2 rfl ?_
                refine pw_iload (pc2 := 85) dX10_starts_83 rfl 0 rfl ?_
                refine pw_if_eq (tgt := 92) (pc2 := 88) dX10_starts_85 (by decide) rfl (fun _ => ?_) (fun c85 => by exact absurd (by decide) c85)
                refine pw_iconst (pc2 := 93) (v := 0) dX10_starts_92 rfl (by decide) ?_
                refine pw_iadd (pc2 := 94) dX10_starts_93 rfl ?_
                refine pw_topE (Int32.add_zero (nI a)) ?_
                refine pw_istore (pc2 := 96) (L2 := [(4, Value.int (nI a)), (6, Value.int 0), (5, Value.int (nI i)), (3, Value.int (nI t)), (0, Value.ref (A 60 0)), (1, Value.int (nI p)), (2, Value.int (nI c))]) dX10_starts_94 rfl (by decide) rfl ?_
                refine pw_iinc (pc2 := 99) (v := nI (i + 1)) (L2 := [(5, Value.int (nI (i + 1))), (4, Value.int (nI a)), (6, Value.int 0), (3, Value.int (nI t)), (0, Value.ref (A 60 0)), (1, Value.int (nI p)), (2, Value.int (nI c))]) dX10_starts_96 rfl 2 rfl (by show nI _ + 1 = nI _; exact nI_1 _) (by decide) rfl ?_
                refine pw_goto (tgt := 16) dX10_starts_99 (by decide) ?_
                refine PW.sub (L2 := [(5, Value.int (nI (i + 1))), (4, Value.int (nI a)), (3, Value.int (nI t)), (0, Value.ref (A 60 0)), (1, Value.int (nI p)), (2, Value.int (nI c))]) [0, 1, 3, 4, 5, 6] rfl ?_
                refine ih2 (i + 1) a (cp_0 ha (fun z => ?_)) (by omega)
                first | exact c33 z.1 | (rcases z.2 with z2 | z2; exact c49 ((nI_ltI (by omega) (by omega)).mpr z2); exact c65 (congrArg nI z2.1)) | (rcases z.2 with z2 | z2; exact c49 ((nI_ltI (by omega) (by omega)).mpr z2); exact absurd c71 (Int32.not_le.mpr ((nI_ltI (a := i) (b := t) (by omega) (by omega)).mpr z2.2)))
              · refine pw_iload (pc2 := 70) dX10_starts_68 rfl 0 rfl ?_
                refine pw_iload_n (pc2 := 71) dX10_starts_70 rfl rfl 2 rfl ?_
                refine pw_icmp_ge (tgt := 78) (pc2 := 74) dX10_starts_71 (by decide) rfl (fun c71 => ?_) (fun c71 => ?_)
                · refine pw_iconst (pc2 := 79) (v := 0) dX10_starts_78 rfl (by decide) ?_
                  refine pw_istore (pc2 := 81) (L2 := [(6, Value.int 0), (5, Value.int (nI i)), (4, Value.int (nI a)), (3, Value.int (nI t)), (0, Value.ref (A 60 0)), (1, Value.int (nI p)), (2, Value.int (nI c))]) dX10_starts_79 rfl (by decide) rfl ?_
                  refine pw_iload (pc2 := 83) dX10_starts_81 rfl 2 rfl ?_
                  refine pw_iload (pc2 := 85) dX10_starts_83 rfl 0 rfl ?_
                  refine pw_if_eq (tgt := 92) (pc2 := 88) dX10_starts_85 (by decide) rfl (fun _ => ?_) (fun c85 => by exact absurd (by decide) c85)
                  refine pw_iconst (pc2 := 93) (v := 0) dX10_starts_92 rfl (by decide) ?_
                  refine pw_iadd (pc2 := 94) dX10_starts_93 rfl ?_
                  refine pw_topE (Int32.add_zero (nI a)) ?_
                  refine pw_istore (pc2 := 96) (L2 := [(4, Value.int (nI a)), (6, Value.int 0), (5, Value.int (nI i)), (3, Value.int (nI t)), (0, Value.ref (A 60 0)), (1, Value.int (nI p)), (2, Value.int (nI c))]) dX10_starts_94 rfl (by decide) rfl ?_
                  refine pw_iinc (pc2 := 99) (v := nI (i + 1)) (L2 := [(5, Value.int (nI (i + 1))), (4, Value.int (nI a)), (6, Value.int 0), (3, Value.int (nI t)), (0, Value.ref (A 60 0)), (1, Value.int (nI p)), (2, Value.int (nI c))]) dX10_starts_96 rfl 2 rfl (by show nI _ + 1 = nI _; exact nI_1 _) (by decide) rfl ?_
                  refine pw_goto (tgt := 16) dX10_starts_99 (by decide) ?_
                  refine PW.sub (L2 := [(5, Value.int (nI (i + 1))), (4, Value.int (nI a)), (3, Value.int (nI t)), (0, Value.ref (A 60 0)), (1, Value.int (nI p)), (2, Value.int (nI c))]) [0, 1, 3, 4, 5, 6] rfl ?_
                  refine ih2 (i + 1) a (cp_0 ha (fun z => ?_)) (by omega)
                  first | exact c33 z.1 | (rcases z.2 with z2 | z2; exact c49 ((nI_ltI (by omega) (by omega)).mpr z2); exact c65 (congrArg nI z2.1)) | (rcases z.2 with z2 | z2; exact c49 ((nI_ltI (by omega) (by omega)).mpr z2); exact absurd c71 (Int32.not_le.mpr ((nI_ltI (a := i) (b := t) (by omega) (by omega)).mpr z2.2)))
                · refine pw_iconst (pc2 := 75) (v := 1) dX10_starts_74 rfl (by decide) ?_
                  refine pw_goto (tgt := 79) dX10_starts_75 (by decide) ?_
                  refine pw_istore (pc2 := 81) (L2 := [(6, Value.int 1), (5, Value.int (nI i)), (4, Value.int (nI a)), (3, Value.int (nI t)), (0, Value.ref (A 60 0)), (1, Value.int (nI p)), (2, Value.int (nI c))]) dX10_starts_79 rfl (by decide) rfl ?_
                  refine pw_iload (pc2 := 83) dX10_starts_81 rfl 2 rfl ?_
                  refine pw_iload (pc2 := 85) dX10_starts_83 rfl 0 rfl ?_
                  refine pw_if_eq (tgt := 92) (pc2 := 88) dX10_starts_85 (by decide) rfl (fun c85 => by exact absurd c85 (by decide)) (fun _ => ?_)
                  refine pw_iconst (pc2 := 89) (v := 1) dX10_starts_88 rfl (by decide) ?_
                  refine pw_goto (tgt := 93) dX10_starts_89 (by decide) ?_
                  refine pw_iadd (pc2 := 94) dX10_starts_93 rfl ?_
                  refine pw_topE (nI_1 _) ?_
                  refine pw_istore (pc2 := 96) (L2 := [(4, Value.int (nI (a + 1))), (6, Value.int 1), (5, Value.int (nI i)), (3, Value.int (nI t)), (0, Value.ref (A 60 0)), (1, Value.int (nI p)), (2, Value.int (nI c))]) dX10_starts_94 rfl (by decide) rfl ?_
                  refine pw_iinc (pc2 := 99) (v := nI (i + 1)) (L2 := [(5, Value.int (nI (i + 1))), (4, Value.int (nI (a + 1))), (6, Value.int 1), (3, Value.int (nI t)), (0, Value.ref (A 60 0)), (1, Value.int (nI p)), (2, Value.int (nI c))]) dX10_starts_96 rfl 2 rfl (by show nI _ + 1 = nI _; exact nI_1 _) (by decide) rfl ?_
                  refine pw_goto (tgt := 16) dX10_starts_99 (by decide) ?_
                  refine PW.sub (L2 := [(5, Value.int (nI (i + 1))), (4, Value.int (nI (a + 1))), (3, Value.int (nI t)), (0, Value.ref (A 60 0)), (1, Value.int (nI p)), (2, Value.int (nI c))]) [0, 1, 3, 4, 5, 6] rfl ?_
                  refine ih2 (i + 1) (a + 1) (cp_1 ha ⟨c33, ?_⟩) (by omega)
                  first | exact Or.inl ((nI_ltI (by omega) (by omega)).mp c49) | exact Or.inr ⟨nI_inj (by omega) (by omega) c65, (nI_ltI (a := i) (b := t) (by omega) (by omega)).mp (Int32.not_le.mp c71)⟩
      refine PW.sub (L2 := [(5, Value.int 0), (4, Value.int 0), (3, Value.int (nI t)), (0, Value.ref (A 60 0)), (1, Value.int (nI p)), (2, Value.int (nI c))]) [0, 1, 2, 3, 4, 5] rfl ?_
      exact loop2 (nts σ) 0 0 rfl (by omega)
  refine PW.sub (L2 := [(3, Value.int 0), (0, Value.ref (A 60 0)), (1, Value.int (nI p)), (2, Value.int (nI c))]) [0, 1, 2, 3] rfl ?_
  exact loop (nts σ) 0 rfl (by omega)
set_option maxHeartbeats 4000000 in
set_option maxRecDepth 100000 in
theorem c_mtestTime (G : hG) (h : hp) {A : aT} {σ : sT} (H : WM G h A σ) (hb : MB σ) (hT : RT σ) {M : Nat} (hM60 : σ.1 60 0 3 = nI M) (hM1 : 1 ≤ M) (hM4 : M ≤ 4) (n : Int32) : PMet G MX10_testTime 3 1 4 [.ref (A 60 0), .int n] h (fun r h2 => (¬ inR n (npk σ) ∧ QSM G h A (.int 0) (thS σ 1) r h2) ∨ (∃ p, p < npk σ ∧ n = nI p ∧ QSM G h A (.int (tOu σ.1 M (nI p) (nts σ) 60).2) (thS σ 0) r h2)) noX := by
  have hnp := H.iv.1
  have hnt := H.iv.2.1
  refine PMet.of (by decide +kernel) (Nat.le_of_ble_eq_true rfl) (fun d hd => ?_)
  refine PW.sub (L2 := [(0, Value.ref (A 60 0)), (1, Value.int n)]) [0, 1] rfl ?_
  refine pw_aload_n (pc2 := 1) dX10_testTime_0 rfl rfl 0 rfl (by first | exact rf_ref _ | exact rf_opt _ | exact rf_nul) ?_
  refine pw_iload_n (pc2 := 2) dX10_testTime_1 rfl rfl 1 rfl ?_
  refine pw_callV (pc2 := 5) (c_lacks G _ H hb n) cs_X10_123 rfl rfl H.c60 dX10_testTime_2 rfl (by omega) rfl (by first | decide | simp [cat_rf, Value.category]) (fun r9 h9 q9 => ?_) (fun Y h9 q9 => q9.elim)
  rcases q9 with ⟨hin, rfl, K1, FK1⟩ | ⟨hin, rfl, K1, FK1⟩
  · obtain ⟨p, hpp, rfl⟩ := inR_ex (by omega) hin
    have hp6 : p < 6 := by omega
    have c60K1 : h9 (A 60 0) = some (oB 13 [.ref (A 61 0), .ref (A 62 0), .ref (A 63 0), .ref (A 64 0), .ref (A 65 0), .ref (A 66 0), .ref (A 67 0), .ref (A 68 0), .ref (A 69 0), .ref (A 70 0), .ref (A 71 0), .ref (A 72 0), .ref (A 73 0), .ref (A 74 0), .ref (A 75 0), .ref (A 76 0), .int (σ.1 60 0 0), .ref (A 77 0), .ref (A 78 0), .ref (A 79 0), .ref (A 80 0), .ref (A 81 0), .ref (A 82 0), .ref (A 83 0), .int (σ.1 60 0 1), .ref (A 84 0), .ref (A 85 0), .ref (A 86 0), .ref (A 87 0), .ref (A 88 0), .int (σ.1 60 0 2), .int (σ.1 60 0 3), .ref (A 89 0), .int (σ.1 60 0 4), .int (σ.1 60 0 5), .int (σ.1 60 0 6), .ref (A 90 0), .int 0]) := K1.c60
    refine pw_if_eq (tgt := 10) (pc2 := 8) dX10_testTime_5 (by decide) rfl (fun _ => ?_) (fun c5 => by exact absurd (by decide) c5)
    refine pw_iconst (pc2 := 11) (v := 4) dX10_testTime_10 rfl (by decide) ?_
    refine pw_newarr (pc2 := 13) (atype := .int) (a0 := (4, .inl (fun _ => 0))) 0 rfl rfl wa_95 (fun _ => rfl) (by decide) (by decide) (by decide) dX10_testTime_11 rfl (fun q hq gq => ?_)
    have HWq : ∀ F : Nat → Int32, WM G (va_up h9 q (some (aI 4 F))) A (thS σ 0) := fun F => K1.nw hq
    have HFq : ∀ F : Nat → Int32, FM A h (va_up h9 q (some (aI 4 F))) := fun F => FK1.nw hq
    have Hq : ∀ F : Nat → Int32, va_up h9 q (some (aI 4 F)) q = some (aI 4 F) := fun F => va_up_self _ _ _
    refine pw_astore_n (pc2 := 14) (L2 := [(2, Value.ref q), (0, Value.ref (A 60 0)), (1, Value.int (nI p))]) dX10_testTime_13 rfl rfl (by decide) (by first | exact rf_ref _ | exact rf_opt _ | exact rf_nul) rfl ?_
    refine pw_iconst (pc2 := 15) (v := 0) dX10_testTime_14 rfl (by decide) ?_
    refine pw_istore_n (pc2 := 16) (L2 := [(3, Value.int 0), (2, Value.ref q), (0, Value.ref (A 60 0)), (1, Value.int (nI p))]) dX10_testTime_15 rfl rfl (by decide) rfl ?_
    refine pw_iconst (pc2 := 17) (v := 0) dX10_testTime_16 rfl (by decide) ?_
    refine pw_istore (pc2 := 19) (L2 := [(4, Value.int 0), (3, Value.int 0), (2, Value.ref q), (0, Value.ref (A 60 0)), (1, Value.int (nI p))]) dX10_testTime_17 rfl (by decide) rfl ?_
    refine pw_aload_n (pc2 := 20) dX10_testTime_19 rfl rfl 3 rfl (by first | exact rf_ref _ | exact rf_opt _ | exact rf_nul) ?_
    refine pw_iload_n (pc2 := 21) dX10_testTime_20 rfl rfl 4 rfl ?_
    refine pw_iconst (pc2 := 22) (v := 0) dX10_testTime_21 rfl (by decide) ?_
    refine pw_callV1 (pc2 := 25) (c_starts G _ (HWq z0) hb hT hpp (c := 0) (by omega)) cs_X10_177 rfl rfl (HWq z0).c60 dX10_testTime_22 rfl (by omega) rfl (by first | decide | simp [cat_rf, Value.category]) ?_
    refine pw_topi (fun v1 ev1 => ?_)
    refine pw_istore (pc2 := 27) (L2 := [(5, Value.int v1), (4, Value.int 0), (3, Value.int 0), (2, Value.ref q), (0, Value.ref (A 60 0)), (1, Value.int (nI p))]) dX10_testTime_25 rfl (by decide) rfl ?_
    obtain ⟨T, hTn, hTe, hTs, hTz⟩ := sq_all (M := M) (n := nI p) hT.ln
    have loop : ∀ (m c : Nat) (s9 : (Nat → Int32) × Int32), c + m = T → s9 = mIt σ.1 M (nI p) (nts σ) c → PW G MX10_testTime d noA (E0 G (fun r h2 => (¬ inR (nI p) (npk σ) ∧ QSM G h A (.int 0) (thS σ 1) r h2) ∨ (∃ p9, p9 < npk σ ∧ nI p = nI p9 ∧ QSM G h A (.int (tOu σ.1 M (nI p9) (nts σ) 60).2) (thS σ 0) r h2)) noX) 0 0 27 [(5, Value.int (enc (sqF σ.1 (nI p) (nts σ) c))), (4, Value.int (nI c)), (3, Value.int s9.2), (2, Value.ref q), (0, Value.ref (A 60 0)), (1, Value.int (nI p))] [] (va_up h9 q (some (aI 4 s9.1))) := by
      intro m
      induction m with
      | zero =>
        intro c s9 hcm hs9
        have ec : c = T := by omega
        subst ec
        rw [hTz]
        refine PW.sub (L2 := [(5, Value.int (-1)), (4, Value.int (nI c)), (3, Value.int s9.2), (2, Value.ref q), (0, Value.ref (A 60 0)), (1, Value.int (nI p))]) [0, 1, 2, 3, 4, 5] rfl ?_
        refine pw_iload (pc2 := 29) dX10_testTime_27 rfl 0 rfl ?_
        refine pw_iconst (pc2 := 30) (v := (-1)) dX10_testTime_29 rfl (by decide) ?_
        refine pw_icmp_eq (tgt := 112) (pc2 := 33) dX10_testTime_30 (by decide) rfl (fun _ => ?_) (fun c30 => by exact absurd (rfl) c30)
        refine pw_iload_n (pc2 := 113) dX10_testTime_112 rfl rfl 2 rfl ?_
        refine pw_iret dX10_testTime_113 rfl (by first | rfl | assumption | simp [narrow]) ?_
        exact Or.inr ⟨p, hpp, rfl, by rw [hs9, ← hTe], HWq _, HFq _⟩
      | succ m ih =>
        intro c s9 hcm hs9
        obtain ⟨t, hst⟩ := hTs c (by omega)
        have htt := ff_some (nts σ) 0 hst
        have ht8 : t < nts σ := by omega
        rw [hst]
        refine PW.sub (L2 := [(5, Value.int (nI t)), (4, Value.int (nI c)), (3, Value.int s9.2), (2, Value.ref q), (0, Value.ref (A 60 0)), (1, Value.int (nI p))]) [0, 1, 2, 3, 4, 5] rfl ?_
        refine pw_iload (pc2 := 29) dX10_testTime_27 rfl 0 rfl ?_
        refine pw_iconst (pc2 := 30) (v := (-1)) dX10_testTime_29 rfl (by decide) ?_
        refine pw_icmp_eq (tgt := 112) (pc2 := 33) dX10_testTime_30 (by decide) rfl (fun c30 => by exact absurd c30 (nIne t (by omega))) (fun _ => ?_)
        refine pw_iconst (pc2 := 34) (v := 0) dX10_testTime_33 rfl (by decide) ?_
        refine pw_istore (pc2 := 36) (L2 := [(6, Value.int 0), (5, Value.int (nI t)), (4, Value.int (nI c)), (3, Value.int s9.2), (2, Value.ref q), (0, Value.ref (A 60 0)), (1, Value.int (nI p))]) dX10_testTime_34 rfl (by decide) rfl ?_
        refine pw_iconst (pc2 := 37) (v := 1) dX10_testTime_36 rfl (by decide) ?_
        refine pw_istore (pc2 := 39) (L2 := [(7, Value.int 1), (6, Value.int 0), (5, Value.int (nI t)), (4, Value.int (nI c)), (3, Value.int s9.2), (2, Value.ref q), (0, Value.ref (A 60 0)), (1, Value.int (nI p))]) dX10_testTime_37 rfl (by decide) rfl ?_
        have loopM : ∀ (k i : Nat) (_u : Unit) (h1i : 1 ≤ i), i + k = M → PW G MX10_testTime d noA (E0 G (fun r h2 => (¬ inR (nI p) (npk σ) ∧ QSM G h A (.int 0) (thS σ 1) r h2) ∨ (∃ p9, p9 < npk σ ∧ nI p = nI p9 ∧ QSM G h A (.int (tOu σ.1 M (nI p9) (nts σ) 60).2) (thS σ 0) r h2)) noX) 0 0 39 [(7, Value.int (nI i)), (6, Value.int (nI (ffst s9.1 i))), (5, Value.int (nI t)), (4, Value.int (nI c)), (3, Value.int s9.2), (2, Value.ref q), (0, Value.ref (A 60 0)), (1, Value.int (nI p))] [] (va_up h9 q (some (aI 4 s9.1))) := by
          intro k
          induction k with
          | zero =>
            intro i _u h1i hik
            have hi9M : i = M := by omega
            refine pw_iload (pc2 := 41) dX10_testTime_39 rfl 0 rfl ?_
            refine pw_aload_n (pc2 := 42) dX10_testTime_41 rfl rfl 6 rfl (by first | exact rf_ref _ | exact rf_opt _ | exact rf_nul) ?_
            refine pw_get (pc2 := 45) kX10 (k := 31) (by decide) rfl fl_X10_99 (HWq s9.1).c60 rfl dX10_testTime_42 rfl ?_
            refine pw_topE ((hM60 : σ.1 60 0 3 = nI M)) ?_
            refine pw_icmp_ge (tgt := 74) (pc2 := 48) dX10_testTime_45 (by decide) rfl (fun _ => ?_) (fun c45 => by exact absurd (by first | (rw [hi9M]; exact Int32.le_refl _) | exact fun q => absurd ((nI_leI (a := M) (b := i) (by omega) (by omega)).mp q) (by omega)) c45)
            have hi9m := hi9M.symm
            subst hi9m
            have hff := ffst_lt s9.1 M (by omega)
            refine pw_aload_n (pc2 := 75) dX10_testTime_74 rfl rfl 5 rfl (by first | exact rf_ref _ | exact rf_opt _ | exact rf_nul) ?_
            refine pw_iload (pc2 := 77) dX10_testTime_75 rfl 1 rfl ?_
            refine pw_dup2 (pc2 := 78) dX10_testTime_77 rfl (by first | rfl | exact cat_rf _) (by first | rfl | exact cat_rf _) ?_
            refine pw_ialdN (pc2 := 79) (Hq s9.1) (i := (ffst s9.1 M)) (by omega) (by omega) dX10_testTime_78 rfl ?_
            refine pw_aload_n (pc2 := 80) dX10_testTime_79 rfl rfl 6 rfl (by first | exact rf_ref _ | exact rf_opt _ | exact rf_nul) ?_
            refine pw_get (pc2 := 83) kX10 (k := 26) (by decide) rfl fl_X10_85 (HWq s9.1).c60 rfl dX10_testTime_80 rfl ?_
            refine pw_iload (pc2 := 85) dX10_testTime_83 rfl 2 rfl ?_
            refine pw_ialdN (pc2 := 86) (HWq s9.1).c85 (i := t) (by first | assumption | omega) (by omega) dX10_testTime_85 rfl ?_
            refine pw_topE (hT.l85 ht8) ?_
            refine pw_iadd (pc2 := 87) dX10_testTime_86 rfl ?_
            refine pw_iastN (pc2 := 88) (Hq s9.1) (i := (ffst s9.1 M)) (by omega) (by omega) dX10_testTime_87 rfl ?_
            refine PW.heap (h' := va_up h9 q (some (aI 4 (upd s9.1 (ffst s9.1 M) (s9.1 (ffst s9.1 M) + nI (lnT σ.1 t)))))) (up_up _ _ _ _) ?_
            refine pw_iload_n (pc2 := 89) dX10_testTime_88 rfl rfl 4 rfl ?_
            refine pw_aload_n (pc2 := 90) dX10_testTime_89 rfl rfl 5 rfl (by first | exact rf_ref _ | exact rf_opt _ | exact rf_nul) ?_
            refine pw_iload (pc2 := 92) dX10_testTime_90 rfl 1 rfl ?_
            refine pw_ialdN (pc2 := 93) (Hq (upd s9.1 (ffst s9.1 M) (s9.1 (ffst s9.1 M) + nI (lnT σ.1 t)))) (i := (ffst s9.1 M)) (by omega) (by omega) dX10_testTime_92 rfl ?_
            refine pw_topE (upd_s _ _ _) ?_
            refine pw_mmax (pc2 := 96) cs_X10_180 dX10_testTime_93 rfl (by first | decide | simp [cat_rf, Value.category]) ?_
            refine PW.heap (h' := va_up h9 q (some (aI 4 (plS M (nI (lnT σ.1 t)) s9).1))) rfl ?_
            refine pw_istore_n (pc2 := 97) (L2 := [(3, Value.int ((plS M (nI (lnT σ.1 t)) s9).2)), (7, Value.int (nI M)), (6, Value.int (nI (ffst s9.1 M))), (5, Value.int (nI t)), (4, Value.int (nI c)), (2, Value.ref q), (0, Value.ref (A 60 0)), (1, Value.int (nI p))]) dX10_testTime_96 rfl rfl (by decide) (by first | rfl | (unfold plS; rw [upd_s]; rfl)) ?_
            refine pw_iinc (pc2 := 100) (v := nI (c + 1)) (L2 := [(4, Value.int (nI (c + 1))), (3, Value.int ((plS M (nI (lnT σ.1 t)) s9).2)), (7, Value.int (nI M)), (6, Value.int (nI (ffst s9.1 M))), (5, Value.int (nI t)), (2, Value.ref q), (0, Value.ref (A 60 0)), (1, Value.int (nI p))]) dX10_testTime_97 rfl 4 rfl (by show nI _ + 1 = nI _; exact nI_1 _) (by decide) rfl ?_
            refine pw_aload_n (pc2 := 101) dX10_testTime_100 rfl rfl 6 rfl (by first | exact rf_ref _ | exact rf_opt _ | exact rf_nul) ?_
            refine pw_iload_n (pc2 := 102) dX10_testTime_101 rfl rfl 7 rfl ?_
            refine pw_iload (pc2 := 104) dX10_testTime_102 rfl 0 rfl ?_
            refine pw_callV1 (pc2 := 107) (c_starts G _ (HWq (plS M (nI (lnT σ.1 t)) s9).1) hb hT hpp (c := c + 1) (by omega)) cs_X10_177 rfl rfl (HWq (plS M (nI (lnT σ.1 t)) s9).1).c60 dX10_testTime_104 rfl (by omega) rfl (by first | decide | simp [cat_rf, Value.category]) ?_
            refine pw_topi (fun v3 ev3 => ?_)
            refine pw_istore (pc2 := 109) (L2 := [(5, Value.int v3), (4, Value.int (nI (c + 1))), (3, Value.int ((plS M (nI (lnT σ.1 t)) s9).2)), (7, Value.int (nI M)), (6, Value.int (nI (ffst s9.1 M))), (2, Value.ref q), (0, Value.ref (A 60 0)), (1, Value.int (nI p))]) dX10_testTime_107 rfl (by decide) rfl ?_
            refine pw_goto (tgt := 27) dX10_testTime_109 (by decide) ?_
            subst ev3
            refine PW.sub (L2 := [(5, Value.int (enc (sqF σ.1 (nI p) (nts σ) (c + 1)))), (4, Value.int (nI (c + 1))), (3, Value.int ((plS M (nI (lnT σ.1 t)) s9).2)), (2, Value.ref q), (0, Value.ref (A 60 0)), (1, Value.int (nI p))]) [0, 1, 2, 5, 6, 7] rfl ?_
            exact ih (c + 1) (plS M (nI (lnT σ.1 t)) s9) (by omega) (by rw [hs9]; show _ = (match sqF σ.1 (nI p) (nts σ) c with | some t => _ | none => _); rw [hst])
          | succ k ihM =>
            intro i _u h1i hik
            have hi9M : i < M := by omega
            have hff := ffst_lt s9.1 i (by omega)
            refine pw_iload (pc2 := 41) dX10_testTime_39 rfl 0 rfl ?_
            refine pw_aload_n (pc2 := 42) dX10_testTime_41 rfl rfl 6 rfl (by first | exact rf_ref _ | exact rf_opt _ | exact rf_nul) ?_
            refine pw_get (pc2 := 45) kX10 (k := 31) (by decide) rfl fl_X10_99 (HWq s9.1).c60 rfl dX10_testTime_42 rfl ?_
            refine pw_topE ((hM60 : σ.1 60 0 3 = nI M)) ?_
            refine pw_icmp_ge (tgt := 74) (pc2 := 48) dX10_testTime_45 (by decide) rfl (fun c45 => by exact absurd c45 (by first | (rw [hi9M]; exact Int32.le_refl _) | exact fun q => absurd ((nI_leI (a := M) (b := i) (by omega) (by omega)).mp q) (by omega))) (fun _ => ?_)
            refine pw_aload_n (pc2 := 49) dX10_testTime_48 rfl rfl 5 rfl (by first | exact rf_ref _ | exact rf_opt _ | exact rf_nul) ?_
            refine pw_iload (pc2 := 51) dX10_testTime_49 rfl 0 rfl ?_
            refine pw_ialdN (pc2 := 52) (Hq s9.1) (i := i) (by first | assumption | omega) (by omega) dX10_testTime_51 rfl ?_
            refine pw_aload_n (pc2 := 53) dX10_testTime_52 rfl rfl 5 rfl (by first | exact rf_ref _ | exact rf_opt _ | exact rf_nul) ?_
            refine pw_iload (pc2 := 55) dX10_testTime_53 rfl 1 rfl ?_
            refine pw_ialdN (pc2 := 56) (Hq s9.1) (i := (ffst s9.1 i)) (by omega) (by omega) dX10_testTime_55 rfl ?_
            refine pw_icmp_ge (tgt := 64) (pc2 := 59) dX10_testTime_56 (by decide) rfl (fun c56 => ?_) (fun c56 => ?_)
            · refine pw_iload (pc2 := 66) dX10_testTime_64 rfl 1 rfl ?_
              refine pw_istore (pc2 := 68) (L2 := [(6, Value.int (nI (ffst s9.1 i))), (7, Value.int (nI i)), (5, Value.int (nI t)), (4, Value.int (nI c)), (3, Value.int s9.2), (2, Value.ref q), (0, Value.ref (A 60 0)), (1, Value.int (nI p))]) dX10_testTime_66 rfl (by decide) rfl ?_
              refine pw_iinc (pc2 := 71) (v := nI (i + 1)) (L2 := [(7, Value.int (nI (i + 1))), (6, Value.int (nI (ffst s9.1 i))), (5, Value.int (nI t)), (4, Value.int (nI c)), (3, Value.int s9.2), (2, Value.ref q), (0, Value.ref (A 60 0)), (1, Value.int (nI p))]) dX10_testTime_68 rfl 1 rfl (by show nI _ + 1 = nI _; exact nI_1 _) (by decide) rfl ?_
              refine pw_goto (tgt := 39) dX10_testTime_71 (by decide) ?_
              refine PW.sub (L2 := [(7, Value.int (nI (i + 1))), (6, Value.int (nI (ffst s9.1 i))), (5, Value.int (nI t)), (4, Value.int (nI c)), (3, Value.int s9.2), (2, Value.ref q), (0, Value.ref (A 60 0)), (1, Value.int (nI p))]) [0, 1, 2, 3, 4, 5, 6, 7] rfl ?_
              refine PW.sub (L2 := [(7, Value.int (nI (i + 1))), (6, Value.int (nI (ffst s9.1 (i + 1)))), (5, Value.int (nI t)), (4, Value.int (nI c)), (3, Value.int s9.2), (2, Value.ref q), (0, Value.ref (A 60 0)), (1, Value.int (nI p))]) [0, 1, 2, 3, 4, 5, 6, 7] (by first | rw [show ffst s9.1 (i + 1) = i from if_pos (Int32.not_le.mp c56)]; rfl | rw [show ffst s9.1 (i + 1) = ffst s9.1 i from if_neg (Int32.not_lt.mpr c56)]; rfl) ?_
              exact ihM (i + 1) () (by omega) (by omega)
            · refine pw_iload (pc2 := 61) dX10_testTime_59 rfl 0 rfl ?_
              refine pw_goto (tgt := 66) dX10_testTime_61 (by decide) ?_
              refine pw_istore (pc2 := 68) (L2 := [(6, Value.int (nI i)), (7, Value.int (nI i)), (5, Value.int (nI t)), (4, Value.int (nI c)), (3, Value.int s9.2), (2, Value.ref q), (0, Value.ref (A 60 0)), (1, Value.int (nI p))]) dX10_testTime_66 rfl (by decide) rfl ?_
              refine pw_iinc (pc2 := 71) (v := nI (i + 1)) (L2 := [(7, Value.int (nI (i + 1))), (6, Value.int (nI i)), (5, Value.int (nI t)), (4, Value.int (nI c)), (3, Value.int s9.2), (2, Value.ref q), (0, Value.ref (A 60 0)), (1, Value.int (nI p))]) dX10_testTime_68 rfl 1 rfl (by show nI _ + 1 = nI _; exact nI_1 _) (by decide) rfl ?_
              refine pw_goto (tgt := 39) dX10_testTime_71 (by decide) ?_
              refine PW.sub (L2 := [(7, Value.int (nI (i + 1))), (6, Value.int (nI i)), (5, Value.int (nI t)), (4, Value.int (nI c)), (3, Value.int s9.2), (2, Value.ref q), (0, Value.ref (A 60 0)), (1, Value.int (nI p))]) [0, 1, 2, 3, 4, 5, 6, 7] rfl ?_
              refine PW.sub (L2 := [(7, Value.int (nI (i + 1))), (6, Value.int (nI (ffst s9.1 (i + 1)))), (5, Value.int (nI t)), (4, Value.int (nI c)), (3, Value.int s9.2), (2, Value.ref q), (0, Value.ref (A 60 0)), (1, Value.int (nI p))]) [0, 1, 2, 3, 4, 5, 6, 7] (by first | rw [show ffst s9.1 (i + 1) = i from if_pos (Int32.not_le.mp c56)]; rfl | rw [show ffst s9.1 (i + 1) = ffst s9.1 i from if_neg (Int32.not_lt.mpr c56)]; rfl) ?_
              exact ihM (i + 1) () (by omega) (by omega)
        refine PW.sub (L2 := [(7, Value.int 1), (6, Value.int 0), (5, Value.int (nI t)), (4, Value.int (nI c)), (3, Value.int s9.2), (2, Value.ref q), (0, Value.ref (A 60 0)), (1, Value.int (nI p))]) [0, 1, 2, 3, 4, 5, 6, 7] rfl ?_
        refine PW.sub (L2 := [(7, Value.int (nI 1)), (6, Value.int (nI (ffst s9.1 1))), (5, Value.int (nI t)), (4, Value.int (nI c)), (3, Value.int s9.2), (2, Value.ref q), (0, Value.ref (A 60 0)), (1, Value.int (nI p))]) [0, 1, 2, 3, 4, 5, 6, 7] (by rw [ffst_1]; rfl) ?_
        exact loopM (M - 1) 1 () (by omega) (by omega)
    subst ev1
    refine PW.sub (L2 := [(5, Value.int (enc (sqF σ.1 (nI p) (nts σ) 0))), (4, Value.int (nI 0)), (3, Value.int 0), (2, Value.ref q), (0, Value.ref (A 60 0)), (1, Value.int (nI p))]) [0, 1, 2, 3, 4, 5] rfl ?_
    exact loop T 0 (z0, 0) (by omega) rfl
  · refine pw_if_eq (tgt := 10) (pc2 := 8) dX10_testTime_5 (by decide) rfl (fun c5 => by exact absurd c5 (by decide)) (fun _ => ?_)
    refine pw_iconst (pc2 := 9) (v := 0) dX10_testTime_8 rfl (by decide) ?_
    refine pw_iret dX10_testTime_9 rfl (by first | rfl | assumption | simp [narrow]) ?_
    exact Or.inl ⟨hin, rfl, K1, FK1⟩
