/-! PackageForge: relock, goodShare, meanPaid, flakiest, testTime -/
theorem cdN_pa {G : hG} {h : hp} {A : aT} {σ : sT} (H : W9 G h A σ) {g1 g2 : Nat → Option Nat} (h1 : pkB σ g1) (h2 : pkB σ g2) : ∀ n, n ≤ 6 → cdN (pa A g1) (pa A g2) n = cdN g1 g2 n
  | 0, _ => rfl
  | n + 1, hn => by
    unfold cdN
    rw [cdN_pa H h1 h2 n (by omega)]
    by_cases e : g1 n = g2 n
    · rw [if_pos e, if_pos ((pa_inj H h1 h2 (by omega)).mpr e)]
    · rw [if_neg e, if_neg (fun z => e ((pa_inj H h1 h2 (by omega)).mp z))]
noncomputable def srR (σ : sT) (p r : Nat) : Option (Nat → Option Nat) := srch σ.1 σ.2.1 (σ.1 42 r) (σ.1 43 r) p zN
set_option maxHeartbeats 4000000 in
set_option maxRecDepth 100000 in
theorem c_relock (G : hG) (h : hp) {A : aT} {σ : sT} (H : W9 G h A σ) (n v : Int32) : PMet G MX9_relock 13 4 24 [.ref (A 0 0), .int n, .int v] h (fun r h2 => ∃ p r0 g', p < npk σ ∧ n = nI p ∧ fdV σ p v 0 (rnp σ p) = some r0 ∧ r0 < nrl σ ∧ σ.1 40 r0 2 = 0 ∧ srR σ p r0 = some g' ∧ pkB σ g' ∧ QS G h A (.int (cdN (σ.2.2 45 r0) g' 6)) (setO (setO σ 9 0 g') 45 r0 g') r h2) (fun C h2 => (h2 = h ∧ ((C = xIO ∧ ¬ inR n (npk σ)) ∨ (∃ p, p < npk σ ∧ n = nI p ∧ ((C = nsN ∧ fdV σ p v 0 (rnp σ p) = none) ∨ (∃ r0, C = xIS ∧ fdV σ p v 0 (rnp σ p) = some r0 ∧ ¬ σ.1 40 r0 2 = 0))))) ∨ (C = xUO ∧ ∃ p r0, p < npk σ ∧ n = nI p ∧ fdV σ p v 0 (rnp σ p) = some r0 ∧ r0 < nrl σ ∧ σ.1 40 r0 2 = 0 ∧ srR σ p r0 = none ∧ W9 G h2 A (setO σ 9 0 zN) ∧ FR h h2)) := by
  have hnp := H.iv.1
  refine PMet.of (by decide +kernel) (Nat.le_of_ble_eq_true rfl) (fun d hd => ?_)
  refine PW.sub (L2 := [(0, Value.ref (A 0 0)), (1, Value.int n), (2, Value.int v)]) [0, 1, 2] rfl ?_
  refine pw_aload_n (pc2 := 1) dX9_relock_0 rfl rfl 0 rfl (by first | exact rf_ref _ | exact rf_opt _ | exact rf_nul) ?_
  refine pw_iload_n (pc2 := 2) dX9_relock_1 rfl rfl 1 rfl ?_
  refine pw_iload_n (pc2 := 3) dX9_relock_2 rfl rfl 2 rfl ?_
  refine pw_callV (pc2 := 6) (c_rlat G _ H n v) cs_X9_257 rfl rfl H.c0 dX9_relock_3 rfl (by omega) rfl (by first | decide | simp [cat_rf, Value.category]) (fun r9 h9 q9 => ?_) (fun Y h9 q9 => px_out rfl (by rcases q9 with ⟨q1, q2, q3⟩ | ⟨q1, q2, p, q3, q4, q5⟩; exact Or.inl ⟨q2, Or.inl ⟨q1, q3⟩⟩; exact Or.inl ⟨q2, Or.inr ⟨p, q3, q4, Or.inl ⟨q1, q5⟩⟩⟩))
  obtain ⟨rfl, p, r0, hpp, rfl, hs0, rfl⟩ := q9
  have hs := hs0
  obtain ⟨hr, hrv, -⟩ := fdV_lt H hpp (rnp σ p) 0 (by omega) hs
  have hne42 : A 42 r0 ≠ A 43 r0 := H.ne (t := 42) (u := 43) (i := r0) (j := r0) hr hr (Or.inl (by decide))
  clear hs
  refine pw_astore_n (pc2 := 7) (L2 := [(3, Value.ref (A 40 r0)), (0, Value.ref (A 0 0)), (1, Value.int (nI p)), (2, Value.int v)]) dX9_relock_6 rfl rfl (by decide) (by first | exact rf_ref _ | exact rf_opt _ | exact rf_nul) rfl ?_
  refine pw_aload_n (pc2 := 8) dX9_relock_7 rfl rfl 0 rfl (by first | exact rf_ref _ | exact rf_opt _ | exact rf_nul) ?_
  refine pw_callS (pc2 := 11) (c_chkY G _ H hr) cs_X9_261 rfl dX9_relock_8 rfl (by omega) rfl (by first | decide | simp [cat_rf, Value.category]) (fun r9 h9 q9 => ?_) (fun Y h9 q9 => px_out rfl (Or.inl ⟨q9.2.1, Or.inr ⟨p, hpp, rfl, Or.inr ⟨r0, q9.1, hs0, q9.2.2⟩⟩⟩))
  obtain ⟨rfl, rfl, hny⟩ := q9
  refine pw_aload_n (pc2 := 12) dX9_relock_11 rfl rfl 1 rfl (by first | exact rf_ref _ | exact rf_opt _ | exact rf_nul) ?_
  refine pw_get (pc2 := 15) kX9 (k := 3) (by decide) rfl fl_X9_25 H.c0 rfl dX9_relock_12 rfl ?_
  refine pw_aload_n (pc2 := 16) dX9_relock_15 rfl rfl 1 rfl (by first | exact rf_ref _ | exact rf_opt _ | exact rf_nul) ?_
  refine pw_get (pc2 := 19) kX9 (k := 0) (by decide) rfl fl_X9_10 H.c0 rfl dX9_relock_16 rfl ?_
  refine pw_iload_n (pc2 := 20) dX9_relock_19 rfl rfl 2 rfl ?_
  refine pw_aload_n (pc2 := 21) dX9_relock_20 rfl rfl 0 rfl (by first | exact rf_ref _ | exact rf_opt _ | exact rf_nul) ?_
  refine pw_getN (pc2 := 24) kX5 (k := 2) (by decide) rfl fl_X9_274 (H.c40 hr) rfl dX9_relock_21 rfl ?_
  refine pw_callV (pc2 := 27) (c_search G _ H ⟨H.c41 hr, H.c42 hr, H.c43 hr, hne42⟩ (kp := p) (Nat.le_of_lt hpp)) cs_X9_120 rfl rfl H.c7 dX9_relock_24 rfl (by omega) rfl (by first | decide | simp [cat_rf, Value.category]) (fun r9 h9 q9 => ?_) (fun Y h9 q9 => q9.elim)
  cases hs : srch σ.1 σ.2.1 (σ.1 42 r0) (σ.1 43 r0) p zN with
  | none =>
    obtain ⟨rfl, eh2⟩ := q9.2 hs
    obtain ⟨K1, FK1⟩ := H.wOF FR.rfl' (t := 9) (i := 0) (g := zN) rfl (by decide) (fun j x hx => by cases hx) rfl
    replace K1 : W9 G h9 A (setO σ 9 0 zN) := by rw [eh2]; exact K1
    replace FK1 : FR h h9 := by rw [eh2]; exact FK1
    refine pw_callS (pc2 := 30) (c_reqN G h9) cs_X9_124 rfl dX9_relock_27 rfl (by omega) rfl (by first | decide | simp [cat_rf, Value.category]) (fun r9 h9 q9 => ?_) (fun Y h9' q9' => px_out rfl (by obtain ⟨rfl, rfl, -⟩ := q9'; exact Or.inr ⟨rfl, p, r0, hpp, rfl, hs0, hr, hny, hs, K1, FK1⟩))
    exact q9.elim
  | some g' =>
    obtain ⟨rfl, eh2, hgb⟩ := q9.1 g' hs
    obtain ⟨K1, FK1⟩ := H.wOF FR.rfl' (t := 9) (i := 0) (g := g') rfl (by decide) hgb rfl
    replace K1 : W9 G h9 A (setO σ 9 0 g') := by rw [eh2]; exact K1
    replace FK1 : FR h h9 := by rw [eh2]; exact FK1
    have c9 : h9 (A 9 0) = some (aR tRel 6 (pa A g')) := K1.c9
    refine pw_callS1 (pc2 := 30) (c_reqC G h9 (A 8 0)) cs_X9_124 rfl dX9_relock_27 rfl (by omega) rfl (by first | decide | simp [cat_rf, Value.category]) ?_
    refine pw_astore (pc2 := 32) (L2 := [(4, Value.ref (A 8 0)), (3, Value.ref (A 40 r0)), (0, Value.ref (A 0 0)), (1, Value.int (nI p)), (2, Value.int v)]) dX9_relock_30 rfl (by decide) (by first | exact rf_ref _ | exact rf_opt _ | exact rf_nul) rfl ?_
    refine pw_aload_n (pc2 := 33) dX9_relock_32 rfl rfl 1 rfl (by first | exact rf_ref _ | exact rf_opt _ | exact rf_nul) ?_
    refine pw_getN (pc2 := 36) kX5 (k := 3) (by decide) rfl fl_X9_275 (K1.c40 hr) rfl dX9_relock_33 rfl ?_
    refine pw_aload (pc2 := 38) dX9_relock_36 rfl 0 rfl (by first | exact rf_ref _ | exact rf_opt _ | exact rf_nul) ?_
    refine pw_callV1 (pc2 := 41) (c_cdiff G h9 (Pk := pa A (σ.2.2 45 r0)) ⟨K1.c44 (i := r0) hr, K1.c45 (i := r0) hr⟩ ⟨K1.c8, c9⟩) cs_X9_279 rfl rfl (K1.c44 hr) dX9_relock_38 rfl (by omega) rfl (by first | decide | simp [cat_rf, Value.category]) ?_
    refine pw_topi (fun v1 ev1 => ?_)
    refine pw_istore (pc2 := 43) (L2 := [(5, Value.int v1), (4, Value.ref (A 8 0)), (3, Value.ref (A 40 r0)), (0, Value.ref (A 0 0)), (1, Value.int (nI p)), (2, Value.int v)]) dX9_relock_41 rfl (by decide) rfl ?_
    refine pw_aload_n (pc2 := 44) dX9_relock_43 rfl rfl 2 rfl (by first | exact rf_ref _ | exact rf_opt _ | exact rf_nul) ?_
    refine pw_getN (pc2 := 47) kX5 (k := 3) (by decide) rfl fl_X9_275 (K1.c40 hr) rfl dX9_relock_44 rfl ?_
    refine pw_aload (pc2 := 49) dX9_relock_47 rfl 1 rfl (by first | exact rf_ref _ | exact rf_opt _ | exact rf_nul) ?_
    refine pw_callV0 (pc2 := 52) (c_ccopy G h9 (Pk := pa A (σ.2.2 45 r0)) ⟨K1.c44 (i := r0) hr, K1.c45 (i := r0) hr⟩ ⟨K1.c8, c9⟩ (K1.ne (t := 9) (i := 0) (u := 45) (j := r0) rfl hr (Or.inl (by decide))) (K1.pk (g := g') hgb)) cs_X9_283 rfl rfl (K1.c44 hr) dX9_relock_49 rfl (by omega) rfl (by first | decide | simp [cat_rf, Value.category]) ?_
    refine pw_iload (pc2 := 54) dX9_relock_52 rfl 0 rfl ?_
    refine pw_iret dX9_relock_54 rfl (by first | rfl | assumption | simp [narrow]) ?_
    obtain ⟨K2, FK2⟩ := K1.wOF FK1 (t := 45) (i := r0) (g := g') hr (by decide) hgb rfl
    exact ⟨p, r0, g', hpp, rfl, hs0, hr, hny, hs, hgb, by rw [ev1, cdN_pa H (H.iv.2.2.2.2.2.2.2.1 r0 hr) hgb 6 (Nat.le_refl _)], K2, FK2⟩
/-- how many of the first r releases are good -/
noncomputable def gdN (σ : sT) : Nat → Int32
  | 0 => 0
  | r + 1 => dit (σ.1 40 r 2 = 0 ∧ ¬ stl σ r) (gdN σ r + 1) (gdN σ r)
set_option maxHeartbeats 4000000 in
set_option maxRecDepth 100000 in
theorem c_good (G : hG) (h : hp) {A : aT} {σ : sT} (H : W9 G h A σ) : PMet G MX9_goodShare 3 1 6 [.ref (A 0 0)] h (fun r h2 => h2 = h ∧ ¬ nrl σ = 0 ∧ r = some (.float (FP.fdiv (FP.i2f (gdN σ (nrl σ))) (FP.i2f (nI (nrl σ)))))) (tX xAR (nrl σ = 0) h) := by
  have h20 := H.iv.2.2.1
  refine PMet.of (by decide +kernel) (Nat.le_of_ble_eq_true rfl) (fun d hd => ?_)
  refine PW.sub (L2 := [(0, Value.ref (A 0 0))]) [0] rfl ?_
  refine pw_aload_n (pc2 := 1) dX9_goodShare_0 rfl rfl 0 rfl (by first | exact rf_ref _ | exact rf_opt _ | exact rf_nul) ?_
  refine pw_get (pc2 := 4) kX9 (k := 2) (by decide) rfl fl_X9_19 H.c0 rfl dX9_goodShare_1 rfl ?_
  refine pw_callVb (pc2 := 7) (c_lempty G _ H.lr) cs_X9_229 rfl rfl H.c5 dX9_goodShare_4 rfl (by omega) rfl (by first | decide | simp [cat_rf, Value.category]) (fun q4 => ?_) (fun q4 => ?_)
  · refine pw_if_eq (tgt := 21) (pc2 := 10) dX9_goodShare_7 (by decide) rfl (fun c7 => by exact absurd c7 (by decide)) (fun _ => ?_)
    exact pw_throwW rfl ts_289 dX9_goodShare_10 dX9_goodShare_13 dX9_goodShare_14 dX9_goodShare_17 dX9_goodShare_20 (by first | decide | simp [cat_rf, Value.category]) (by exact ⟨rfl, rfl, q4⟩)
  · refine pw_if_eq (tgt := 21) (pc2 := 10) dX9_goodShare_7 (by decide) rfl (fun _ => ?_) (fun c7 => by exact absurd (by decide) c7)
    refine pw_iconst (pc2 := 22) (v := 0) dX9_goodShare_21 rfl (by decide) ?_
    refine pw_istore_n (pc2 := 23) (L2 := [(1, Value.int 0), (0, Value.ref (A 0 0))]) dX9_goodShare_22 rfl rfl (by decide) rfl ?_
    refine pw_iconst (pc2 := 24) (v := 0) dX9_goodShare_23 rfl (by decide) ?_
    refine pw_istore_n (pc2 := 25) (L2 := [(2, Value.int 0), (1, Value.int 0), (0, Value.ref (A 0 0))]) dX9_goodShare_24 rfl rfl (by decide) rfl ?_
    have loop : ∀ (k i : Nat) (ac : Int32) (hac : ac = gdN σ i), i + k = nrl σ → PW G MX9_goodShare d noA (E0 G (fun r h2 => h2 = h ∧ ¬ nrl σ = 0 ∧ r = some (.float (FP.fdiv (FP.i2f (gdN σ (nrl σ))) (FP.i2f (nI (nrl σ)))))) (tX xAR (nrl σ = 0) h)) 1 6 25 [(2, Value.int (nI i)), (1, Value.int ac), (0, Value.ref (A 0 0))] [] h := by
      intro k
      induction k with
      | zero =>
        intro i ac hac hik
        have hi9 : i = nrl σ := by omega
        refine pw_iload_n (pc2 := 26) dX9_goodShare_25 rfl rfl 0 rfl ?_
        refine pw_aload_n (pc2 := 27) dX9_goodShare_26 rfl rfl 2 rfl (by first | exact rf_ref _ | exact rf_opt _ | exact rf_nul) ?_
        refine pw_get (pc2 := 30) kX9 (k := 2) (by decide) rfl fl_X9_19 H.c0 rfl dX9_goodShare_27 rfl ?_
        refine pw_callV1 (pc2 := 33) (c_lsize G _ H.lr) cs_X9_44 rfl rfl H.c5 dX9_goodShare_30 rfl (by omega) rfl (by first | decide | simp [cat_rf, Value.category]) ?_
        refine pw_icmp_ge (tgt := 71) (pc2 := 36) dX9_goodShare_33 (by decide) rfl (fun _ => ?_) (fun c33 => by exact absurd (by first | (rw [hi9]; exact Int32.le_refl _) | exact fun q => absurd ((nI_leI (a := nrl σ) (b := i) (by omega) (by omega)).mp q) (by omega)) c33)
        refine pw_iload_n (pc2 := 72) dX9_goodShare_71 rfl rfl 1 rfl ?_
        refine pw_i2f (pc2 := 73) dX9_goodShare_72 rfl ?_
        refine pw_aload_n (pc2 := 74) dX9_goodShare_73 rfl rfl 2 rfl (by first | exact rf_ref _ | exact rf_opt _ | exact rf_nul) ?_
        refine pw_get (pc2 := 77) kX9 (k := 2) (by decide) rfl fl_X9_19 H.c0 rfl dX9_goodShare_74 rfl ?_
        refine pw_callV1 (pc2 := 80) (c_lsize G _ H.lr) cs_X9_44 rfl rfl H.c5 dX9_goodShare_77 rfl (by omega) rfl (by first | decide | simp [cat_rf, Value.category]) ?_
        refine pw_i2f (pc2 := 81) dX9_goodShare_80 rfl ?_
        refine pw_fdiv (pc2 := 82) dX9_goodShare_81 rfl (vf_n32_of (fdn (nI_ne0 (by omega) (by omega)))) ?_
        refine pw_fret dX9_goodShare_82 rfl ?_
        exact ⟨rfl, q4, by rw [hac, hi9]⟩
      | succ k ih =>
        intro i ac hac hik
        have hi9 : i < nrl σ := by omega
        refine pw_iload_n (pc2 := 26) dX9_goodShare_25 rfl rfl 0 rfl ?_
        refine pw_aload_n (pc2 := 27) dX9_goodShare_26 rfl rfl 2 rfl (by first | exact rf_ref _ | exact rf_opt _ | exact rf_nul) ?_
        refine pw_get (pc2 := 30) kX9 (k := 2) (by decide) rfl fl_X9_19 H.c0 rfl dX9_goodShare_27 rfl ?_
        refine pw_callV1 (pc2 := 33) (c_lsize G _ H.lr) cs_X9_44 rfl rfl H.c5 dX9_goodShare_30 rfl (by omega) rfl (by first | decide | simp [cat_rf, Value.category]) ?_
        refine pw_icmp_ge (tgt := 71) (pc2 := 36) dX9_goodShare_33 (by decide) rfl (fun c33 => by exact absurd c33 (by first | (rw [hi9]; exact Int32.le_refl _) | exact fun q => absurd ((nI_leI (a := nrl σ) (b := i) (by omega) (by omega)).mp q) (by omega))) (fun _ => ?_)
        refine pw_aload_n (pc2 := 37) dX9_goodShare_36 rfl rfl 2 rfl (by first | exact rf_ref _ | exact rf_opt _ | exact rf_nul) ?_
        refine pw_get (pc2 := 40) kX9 (k := 2) (by decide) rfl fl_X9_19 H.c0 rfl dX9_goodShare_37 rfl ?_
        refine pw_iload_n (pc2 := 41) dX9_goodShare_40 rfl rfl 0 rfl ?_
        refine pw_callV1 (pc2 := 44) (c_lget G _ H.lr (i := i) hi9) cs_X9_181 rfl rfl H.c5 dX9_goodShare_41 rfl (by omega) rfl (by first | decide | simp [cat_rf, Value.category]) ?_
        refine pw_castS (pc2 := 47) (cj := 8) rfl cl_X9_251 (H.c40 hi9) dX9_goodShare_44 rfl ?_
        refine pw_astore_n (pc2 := 48) (L2 := [(3, Value.ref (A 40 i)), (2, Value.int (nI i)), (1, Value.int ac), (0, Value.ref (A 0 0))]) dX9_goodShare_47 rfl rfl (by decide) (by first | exact rf_ref _ | exact rf_opt _ | exact rf_nul) rfl ?_
        refine pw_aload_n (pc2 := 49) dX9_goodShare_48 rfl rfl 0 rfl (by first | exact rf_ref _ | exact rf_opt _ | exact rf_nul) ?_
        refine pw_getN (pc2 := 52) kX5 (k := 4) (by decide) rfl fl_X9_265 (H.c40 hi9) rfl dX9_goodShare_49 rfl ?_
        refine pw_if_ne (tgt := 65) (pc2 := 55) dX9_goodShare_52 (by decide) rfl (fun c52 => ?_) (fun c52 => ?_)
        · refine pw_iinc (pc2 := 68) (v := nI (i + 1)) (L2 := [(2, Value.int (nI (i + 1))), (3, Value.ref (A 40 i)), (1, Value.int ac), (0, Value.ref (A 0 0))]) dX9_goodShare_65 rfl 1 rfl (by show nI _ + 1 = nI _; exact nI_1 _) (by decide) rfl ?_
          refine pw_goto (tgt := 25) dX9_goodShare_68 (by decide) ?_
          refine PW.sub (L2 := [(2, Value.int (nI (i + 1))), (1, Value.int ac), (0, Value.ref (A 0 0))]) [0, 2, 3] rfl ?_
          refine ih (i + 1) ac ?_ (by omega)
          rw [show gdN σ (i + 1) = dit (σ.1 40 i 2 = 0 ∧ ¬ stl σ i) (gdN σ i + 1) (gdN σ i) from rfl]
          first | rw [dit_f (fun z => c52 z.1)]; exact hac | rw [dit_f (fun z => z.2 q56)]; exact hac
        · refine pw_aload_n (pc2 := 56) dX9_goodShare_55 rfl rfl 0 rfl (by first | exact rf_ref _ | exact rf_opt _ | exact rf_nul) ?_
          refine pw_callVb (pc2 := 59) (c_outd G _ H hi9) cs_X9_271 rfl rfl (H.c40 hi9) dX9_goodShare_56 rfl (by omega) rfl (by first | decide | simp [cat_rf, Value.category]) (fun q56 => ?_) (fun q56 => ?_)
          · refine pw_if_ne (tgt := 65) (pc2 := 62) dX9_goodShare_59 (by decide) rfl (fun _ => ?_) (fun c59 => by exact absurd c59 (by decide))
            refine pw_iinc (pc2 := 68) (v := nI (i + 1)) (L2 := [(2, Value.int (nI (i + 1))), (3, Value.ref (A 40 i)), (1, Value.int ac), (0, Value.ref (A 0 0))]) dX9_goodShare_65 rfl 1 rfl (by show nI _ + 1 = nI _; exact nI_1 _) (by decide) rfl ?_
            refine pw_goto (tgt := 25) dX9_goodShare_68 (by decide) ?_
            refine PW.sub (L2 := [(2, Value.int (nI (i + 1))), (1, Value.int ac), (0, Value.ref (A 0 0))]) [0, 2, 3] rfl ?_
            refine ih (i + 1) ac ?_ (by omega)
            rw [show gdN σ (i + 1) = dit (σ.1 40 i 2 = 0 ∧ ¬ stl σ i) (gdN σ i + 1) (gdN σ i) from rfl]
            first | rw [dit_f (fun z => c52 z.1)]; exact hac | rw [dit_f (fun z => z.2 q56)]; exact hac
          · refine pw_if_ne (tgt := 65) (pc2 := 62) dX9_goodShare_59 (by decide) rfl (fun c59 => by exact absurd (by decide) c59) (fun _ => ?_)
            obtain ⟨v3, ev3⟩ : ∃ z : Int32, z = ac + 1 := ⟨_, rfl⟩
            refine pw_iinc (pc2 := 65) (v := v3) (L2 := [(1, Value.int v3), (3, Value.ref (A 40 i)), (2, Value.int (nI i)), (0, Value.ref (A 0 0))]) dX9_goodShare_62 rfl 2 rfl (by rw [ev3]; rfl) (by decide) rfl ?_
            refine pw_iinc (pc2 := 68) (v := nI (i + 1)) (L2 := [(2, Value.int (nI (i + 1))), (1, Value.int v3), (3, Value.ref (A 40 i)), (0, Value.ref (A 0 0))]) dX9_goodShare_65 rfl 2 rfl (by show nI _ + 1 = nI _; exact nI_1 _) (by decide) rfl ?_
            refine pw_goto (tgt := 25) dX9_goodShare_68 (by decide) ?_
            refine PW.sub (L2 := [(2, Value.int (nI (i + 1))), (1, Value.int v3), (0, Value.ref (A 0 0))]) [0, 1, 3] rfl ?_
            refine ih (i + 1) v3 ?_ (by omega)
            rw [show gdN σ (i + 1) = dit (σ.1 40 i 2 = 0 ∧ ¬ stl σ i) (gdN σ i + 1) (gdN σ i) from rfl]
            rw [dit_t ⟨c52, q56⟩, ev3, hac]
    refine PW.sub (L2 := [(2, Value.int 0), (1, Value.int 0), (0, Value.ref (A 0 0))]) [0, 1, 2] rfl ?_
    exact loop (nrl σ) 0 0 rfl (by omega)
/-- the flakiest of the first t tests, and how flaky it is -/
def fkB (σ : sT) : Nat → Nat × Int32
  | 0 => (0, -1)
  | t + 1 => if (fkB σ t).2 < ctN (σ.1 51 t) (xCn σ t) then (t, ctN (σ.1 51 t) (xCn σ t)) else fkB σ t
set_option maxHeartbeats 4000000 in
set_option maxRecDepth 100000 in
theorem c_flakiest (G : hG) (h : hp) {A : aT} {σ : sT} (H : W9 G h A σ) (hcn : ∀ t, t < nts σ → ∃ c, c ≤ 8 ∧ σ.1 50 t 3 = nI c) : PMet G MX9_flakiest 3 1 6 [.ref (A 0 0)] h (fun r h2 => h2 = h ∧ ¬ nts σ = 0 ∧ r = some (.int (nI (fkB σ (nts σ)).1))) (tX nsN (nts σ = 0) h) := by
  have h8 := H.iv.2.1
  refine PMet.of (by decide +kernel) (Nat.le_of_ble_eq_true rfl) (fun d hd => ?_)
  refine PW.sub (L2 := [(0, Value.ref (A 0 0))]) [0] rfl ?_
  refine pw_aload_n (pc2 := 1) dX9_flakiest_0 rfl rfl 0 rfl (by first | exact rf_ref _ | exact rf_opt _ | exact rf_nul) ?_
  refine pw_get (pc2 := 4) kX9 (k := 1) (by decide) rfl fl_X9_16 H.c0 rfl dX9_flakiest_1 rfl ?_
  refine pw_callVb (pc2 := 7) (c_lempty G _ H.lt) cs_X9_229 rfl rfl H.c3 dX9_flakiest_4 rfl (by omega) rfl (by first | decide | simp [cat_rf, Value.category]) (fun q4 => ?_) (fun q4 => ?_)
  · refine pw_if_eq (tgt := 20) (pc2 := 10) dX9_flakiest_7 (by decide) rfl (fun c7 => by exact absurd c7 (by decide)) (fun _ => ?_)
    exact pw_throwN rfl tn_233 dX9_flakiest_10 dX9_flakiest_13 dX9_flakiest_14 dX9_flakiest_16 dX9_flakiest_19 (by first | decide | simp [cat_rf, Value.category]) (by exact ⟨rfl, rfl, q4⟩)
  · refine pw_if_eq (tgt := 20) (pc2 := 10) dX9_flakiest_7 (by decide) rfl (fun _ => ?_) (fun c7 => by exact absurd (by decide) c7)
    refine pw_iconst (pc2 := 21) (v := 0) dX9_flakiest_20 rfl (by decide) ?_
    refine pw_istore_n (pc2 := 22) (L2 := [(1, Value.int 0), (0, Value.ref (A 0 0))]) dX9_flakiest_21 rfl rfl (by decide) rfl ?_
    refine pw_iconst (pc2 := 23) (v := (-1)) dX9_flakiest_22 rfl (by decide) ?_
    refine pw_topi (fun v1 ev1 => ?_)
    refine pw_istore_n (pc2 := 24) (L2 := [(2, Value.int v1), (1, Value.int 0), (0, Value.ref (A 0 0))]) dX9_flakiest_23 rfl rfl (by decide) rfl ?_
    refine pw_iconst (pc2 := 25) (v := 0) dX9_flakiest_24 rfl (by decide) ?_
    refine pw_istore_n (pc2 := 26) (L2 := [(3, Value.int 0), (2, Value.int v1), (1, Value.int 0), (0, Value.ref (A 0 0))]) dX9_flakiest_25 rfl rfl (by decide) rfl ?_
    have loop : ∀ (k i : Nat) (b : Nat × Int32) (hb : b = fkB σ i), i + k = nts σ → PW G MX9_flakiest d noA (E0 G (fun r h2 => h2 = h ∧ ¬ nts σ = 0 ∧ r = some (.int (nI (fkB σ (nts σ)).1))) (tX nsN (nts σ = 0) h)) 1 6 26 [(3, Value.int (nI i)), (1, Value.int (nI b.1)), (2, Value.int b.2), (0, Value.ref (A 0 0))] [] h := by
      intro k
      induction k with
      | zero =>
        intro i b hb hik
        have hi9 : i = nts σ := by omega
        refine pw_iload_n (pc2 := 27) dX9_flakiest_26 rfl rfl 0 rfl ?_
        refine pw_aload_n (pc2 := 28) dX9_flakiest_27 rfl rfl 3 rfl (by first | exact rf_ref _ | exact rf_opt _ | exact rf_nul) ?_
        refine pw_get (pc2 := 31) kX9 (k := 1) (by decide) rfl fl_X9_16 H.c0 rfl dX9_flakiest_28 rfl ?_
        refine pw_callV1 (pc2 := 34) (c_lsize G _ H.lt) cs_X9_44 rfl rfl H.c3 dX9_flakiest_31 rfl (by omega) rfl (by first | decide | simp [cat_rf, Value.category]) ?_
        refine pw_icmp_ge (tgt := 70) (pc2 := 37) dX9_flakiest_34 (by decide) rfl (fun _ => ?_) (fun c34 => by exact absurd (by first | (rw [hi9]; exact Int32.le_refl _) | exact fun q => absurd ((nI_leI (a := nts σ) (b := i) (by omega) (by omega)).mp q) (by omega)) c34)
        refine pw_iload_n (pc2 := 71) dX9_flakiest_70 rfl rfl 1 rfl ?_
        refine pw_iret dX9_flakiest_71 rfl (by first | rfl | assumption | simp [narrow]) ?_
        exact ⟨rfl, q4, by rw [hb, hi9]⟩
      | succ k ih =>
        intro i b hb hik
        have hi9 : i < nts σ := by omega
        obtain ⟨c, hc8, hcc⟩ := hcn i hi9
        have exc : xCn σ i = c := by unfold xCn; rw [hcc]; exact nI_clamp (by omega)
        refine pw_iload_n (pc2 := 27) dX9_flakiest_26 rfl rfl 0 rfl ?_
        refine pw_aload_n (pc2 := 28) dX9_flakiest_27 rfl rfl 3 rfl (by first | exact rf_ref _ | exact rf_opt _ | exact rf_nul) ?_
        refine pw_get (pc2 := 31) kX9 (k := 1) (by decide) rfl fl_X9_16 H.c0 rfl dX9_flakiest_28 rfl ?_
        refine pw_callV1 (pc2 := 34) (c_lsize G _ H.lt) cs_X9_44 rfl rfl H.c3 dX9_flakiest_31 rfl (by omega) rfl (by first | decide | simp [cat_rf, Value.category]) ?_
        refine pw_icmp_ge (tgt := 70) (pc2 := 37) dX9_flakiest_34 (by decide) rfl (fun c34 => by exact absurd c34 (by first | (rw [hi9]; exact Int32.le_refl _) | exact fun q => absurd ((nI_leI (a := nts σ) (b := i) (by omega) (by omega)).mp q) (by omega))) (fun _ => ?_)
        refine pw_aload_n (pc2 := 38) dX9_flakiest_37 rfl rfl 3 rfl (by first | exact rf_ref _ | exact rf_opt _ | exact rf_nul) ?_
        refine pw_get (pc2 := 41) kX9 (k := 1) (by decide) rfl fl_X9_16 H.c0 rfl dX9_flakiest_38 rfl ?_
        refine pw_iload_n (pc2 := 42) dX9_flakiest_41 rfl rfl 0 rfl ?_
        refine pw_callV1 (pc2 := 45) (c_lget G _ H.lt (i := i) hi9) cs_X9_181 rfl rfl H.c3 dX9_flakiest_42 rfl (by omega) rfl (by first | decide | simp [cat_rf, Value.category]) ?_
        refine pw_castS (pc2 := 48) (cj := 10) rfl cl_X9_158 (H.c50 hi9) dX9_flakiest_45 rfl ?_
        refine pw_callV1 (pc2 := 51) (c_xturns G _ (t := A 50 i) (ar := A 51 i) (c := c) (F := σ.1 51 i) ⟨hcc ▸ H.c50 hi9, H.c51 hi9⟩ hc8) cs_X9_226 rfl rfl (H.c50 hi9) dX9_flakiest_48 rfl (by omega) rfl (by first | decide | simp [cat_rf, Value.category]) ?_
        refine pw_topi (fun v2 ev2 => ?_)
        refine pw_istore (pc2 := 53) (L2 := [(4, Value.int v2), (3, Value.int (nI i)), (1, Value.int (nI b.1)), (2, Value.int b.2), (0, Value.ref (A 0 0))]) dX9_flakiest_51 rfl (by decide) rfl ?_
        refine pw_iload (pc2 := 55) dX9_flakiest_53 rfl 0 rfl ?_
        refine pw_iload_n (pc2 := 56) dX9_flakiest_55 rfl rfl 3 rfl ?_
        refine pw_icmp_le (tgt := 64) (pc2 := 59) dX9_flakiest_56 (by decide) rfl (fun c56 => ?_) (fun c56 => ?_)
        · refine pw_iinc (pc2 := 67) (v := nI (i + 1)) (L2 := [(3, Value.int (nI (i + 1))), (4, Value.int v2), (1, Value.int (nI b.1)), (2, Value.int b.2), (0, Value.ref (A 0 0))]) dX9_flakiest_64 rfl 1 rfl (by show nI _ + 1 = nI _; exact nI_1 _) (by decide) rfl ?_
          refine pw_goto (tgt := 26) dX9_flakiest_67 (by decide) ?_
          refine PW.sub (L2 := [(3, Value.int (nI (i + 1))), (1, Value.int (nI b.1)), (2, Value.int b.2), (0, Value.ref (A 0 0))]) [0, 2, 3, 4] rfl ?_
          have e9 : fkB σ (i + 1) = if (fkB σ i).2 < ctN (σ.1 51 i) (xCn σ i) then (i, ctN (σ.1 51 i) (xCn σ i)) else fkB σ i := rfl
          rw [exc] at e9
          exact ih (i + 1) b (by rw [e9, ← hb]; exact (if_neg (fun z => absurd (ev2 ▸ c56 : ctN (σ.1 51 i) c ≤ b.2) (Int32.not_le.mpr z))).symm) (by omega)
        · refine pw_iload (pc2 := 61) dX9_flakiest_59 rfl 0 rfl ?_
          refine pw_istore_n (pc2 := 62) (L2 := [(2, Value.int v2), (4, Value.int v2), (3, Value.int (nI i)), (1, Value.int (nI b.1)), (0, Value.ref (A 0 0))]) dX9_flakiest_61 rfl rfl (by decide) rfl ?_
          refine pw_iload_n (pc2 := 63) dX9_flakiest_62 rfl rfl 2 rfl ?_
          refine pw_istore_n (pc2 := 64) (L2 := [(1, Value.int (nI i)), (2, Value.int v2), (4, Value.int v2), (3, Value.int (nI i)), (0, Value.ref (A 0 0))]) dX9_flakiest_63 rfl rfl (by decide) rfl ?_
          refine pw_iinc (pc2 := 67) (v := nI (i + 1)) (L2 := [(3, Value.int (nI (i + 1))), (1, Value.int (nI i)), (2, Value.int v2), (4, Value.int v2), (0, Value.ref (A 0 0))]) dX9_flakiest_64 rfl 3 rfl (by show nI _ + 1 = nI _; exact nI_1 _) (by decide) rfl ?_
          refine pw_goto (tgt := 26) dX9_flakiest_67 (by decide) ?_
          refine PW.sub (L2 := [(3, Value.int (nI (i + 1))), (1, Value.int (nI i)), (2, Value.int v2), (0, Value.ref (A 0 0))]) [0, 1, 2, 4] rfl ?_
          have e9 : fkB σ (i + 1) = if (fkB σ i).2 < ctN (σ.1 51 i) (xCn σ i) then (i, ctN (σ.1 51 i) (xCn σ i)) else fkB σ i := rfl
          rw [exc] at e9
          exact ih (i + 1) (i, v2) (by rw [e9, ← hb, if_pos (ev2 ▸ Int32.not_le.mp c56), ev2]) (by omega)
    refine PW.sub (L2 := [(3, Value.int 0), (1, Value.int 0), (2, Value.int v1), (0, Value.ref (A 0 0))]) [0, 2, 1, 3] rfl ?_
    subst ev1
    exact loop (nts σ) 0 (0, -1) rfl (by omega)
