/-! PackageForge$Chooser: what is reached, what may be taken -/
def rchd (I : Nat → Nat → Nat → Int32) (gr : Nat → Int32) (g : Nat → Option Nat) (k : Nat) : Prop := ¬ gr k = 0 ∨ ∃ a x, k < a ∧ a < 6 ∧ g a = some x ∧ ¬ I 43 x k = 0
def okv (l g v : Int32) : Prop := g = 0 ∨ (l ≤ v ∧ v ≤ g)
def admd (I : Nat → Nat → Nat → Int32) (le gr : Nat → Int32) (g : Nat → Option Nat) (k r : Nat) : Prop := I 40 r 2 = 0 ∧ okv (le k) (gr k) (I 40 r 0) ∧ ∀ a x, k < a → a < 6 → g a = some x → okv (I 42 x k) (I 43 x k) (I 40 r 0)
theorem pa_some {A : aT} {g : Nat → Option Nat} {i n : Nat} (e : some n = pa A g i) : ∃ x, g i = some x ∧ A 40 x = n := by
  unfold pa at e
  cases hx : g i with
  | none => rw [hx] at e; cases e
  | some x => rw [hx] at e; exact ⟨x, rfl, (Option.some.inj e).symm⟩
theorem pa_none {A : aT} {g : Nat → Option Nat} {i : Nat} (e : none = pa A g i) : g i = none := by
  unfold pa at e
  cases hx : g i with
  | none => rfl
  | some x => rw [hx] at e; cases e
def oth (k : Nat) : Int32 := nI k - 1
theorem oth_s (k : Nat) : oth (k + 1) = nI k := nI_pred k
theorem oth_ii (k : Nat) : nI k + Int32.ofInt (-1) = oth k := by
  unfold oth
  rw [Int32.sub_eq_add_neg]
  rfl
set_option maxHeartbeats 4000000 in
set_option maxRecDepth 100000 in
theorem c_reach (G : hG) (h : hp) {A : aT} {σ : sT} (H : W9 G h A σ) {nd a b : Nat} {le gr : Nat → Int32} (hn : isN h nd a b le gr) {c pc : Nat} {g : Nat → Option Nat} (hc : isC h c pc (pa A g)) (hg : pkB σ g) {kp : Nat} (hk : kp < 6) : PMet G MX2_isReached 2 0 0 [.ref nd, .ref c, .int (nI kp)] h (bR (rchd σ.1 gr g kp) h) noX := by
  refine PMet.of (by decide +kernel) (Nat.le_of_ble_eq_true rfl) (fun d hd => ?_)
  refine PW.sub (L2 := [(0, Value.ref nd), (1, Value.ref c), (2, Value.int (nI kp))]) [0, 1, 2] rfl ?_
  refine pw_aload_n (pc2 := 1) dX2_isReached_0 rfl rfl 0 rfl (by first | exact rf_ref _ | exact rf_opt _ | exact rf_nul) ?_
  refine pw_iload_n (pc2 := 2) dX2_isReached_1 rfl rfl 2 rfl ?_
  refine pw_callVb (pc2 := 5) (c_has G _ hn hk) cs_X2_88 rfl rfl hn.1 dX2_isReached_2 rfl (by omega) rfl (by first | decide | simp [cat_rf, Value.category]) (fun q2 => ?_) (fun q2 => ?_)
  · refine pw_if_eq (tgt := 10) (pc2 := 8) dX2_isReached_5 (by decide) rfl (fun c5 => by exact absurd c5 (by decide)) (fun _ => ?_)
    refine pw_iconst (pc2 := 9) (v := 1) dX2_isReached_8 rfl (by decide) ?_
    refine pw_iret dX2_isReached_9 rfl (by first | rfl | assumption | simp [narrow]) ?_
    first | exact bR_1 (Or.inl q2) | exact bR_1 (Or.inr ⟨i, x, hki, hi9, hgx, q38⟩)
  · refine pw_if_eq (tgt := 10) (pc2 := 8) dX2_isReached_5 (by decide) rfl (fun _ => ?_) (fun c5 => by exact absurd (by decide) c5)
    refine pw_iload_n (pc2 := 11) dX2_isReached_10 rfl rfl 2 rfl ?_
    refine pw_iconst (pc2 := 12) (v := 1) dX2_isReached_11 rfl (by decide) ?_
    refine pw_iadd (pc2 := 13) dX2_isReached_12 rfl ?_
    refine pw_topE (nI_1 _) ?_
    refine pw_istore_n (pc2 := 14) (L2 := [(3, Value.int (nI (kp + 1))), (0, Value.ref nd), (1, Value.ref c), (2, Value.int (nI kp))]) dX2_isReached_13 rfl rfl (by decide) rfl ?_
    have loop : ∀ (k i : Nat) (hal : ∀ a9 x9, kp < a9 → a9 < i → g a9 = some x9 → σ.1 43 x9 kp = 0) (hki : kp < i), i + k = 6 → PW G MX2_isReached d noA (E0 G (bR (rchd σ.1 gr g kp) h) noX) 0 0 14 [(3, Value.int (nI i)), (0, Value.ref nd), (1, Value.ref c), (2, Value.int (nI kp))] [] h := by
      intro k
      induction k with
      | zero =>
        intro i hal hki hik
        have hi9 : i = 6 := by omega
        refine pw_iload_n (pc2 := 15) dX2_isReached_14 rfl rfl 0 rfl ?_
        refine pw_bipush (pc2 := 17) (v := 6) dX2_isReached_15 rfl (by decide) ?_
        refine pw_icmp_ge (tgt := 52) (pc2 := 20) dX2_isReached_17 (by decide) rfl (fun _ => ?_) (fun c17 => by exact absurd (by first | (rw [hi9]; exact Int32.le_refl _) | exact fun q => absurd ((l6 (by omega)).mp q) (by omega)) c17)
        refine pw_iconst (pc2 := 53) (v := 0) dX2_isReached_52 rfl (by decide) ?_
        refine pw_iret dX2_isReached_53 rfl (by first | rfl | assumption | simp [narrow]) ?_
        exact bR_0 (fun q => by rcases q with q | ⟨a9, x9, h1, h2, h3, h4⟩; exact q2 q; exact h4 (hal a9 x9 h1 (by omega) h3))
      | succ k ih =>
        intro i hal hki hik
        have hi9 : i < 6 := by omega
        refine pw_iload_n (pc2 := 15) dX2_isReached_14 rfl rfl 0 rfl ?_
        refine pw_bipush (pc2 := 17) (v := 6) dX2_isReached_15 rfl (by decide) ?_
        refine pw_icmp_ge (tgt := 52) (pc2 := 20) dX2_isReached_17 (by decide) rfl (fun c17 => by exact absurd c17 (by first | (rw [hi9]; exact Int32.le_refl _) | exact fun q => absurd ((l6 (by omega)).mp q) (by omega))) (fun _ => ?_)
        refine pw_aload_n (pc2 := 21) dX2_isReached_20 rfl rfl 2 rfl (by first | exact rf_ref _ | exact rf_opt _ | exact rf_nul) ?_
        refine pw_iload_n (pc2 := 22) dX2_isReached_21 rfl rfl 0 rfl ?_
        refine pw_callV1 (pc2 := 25) (c_cat G _ hc (i := i) hi9) cs_X2_84 rfl rfl hc.1 dX2_isReached_22 rfl (by omega) rfl (by first | decide | simp [cat_rf, Value.category]) ?_
        refine pw_topr (fun r1 er1 => ?_)
        refine pw_astore (pc2 := 27) (L2 := [(4, va_rf r1), (3, Value.int (nI i)), (0, Value.ref nd), (1, Value.ref c), (2, Value.int (nI kp))]) dX2_isReached_25 rfl (by decide) (by first | exact rf_ref _ | exact rf_opt _ | exact rf_nul) rfl ?_
        refine pw_aload (pc2 := 29) dX2_isReached_27 rfl 0 rfl (by first | exact rf_ref _ | exact rf_opt _ | exact rf_nul) ?_
        refine pw_ifnull (tgt := 46) (pc2 := 32) dX2_isReached_29 (by decide) rfl (fun c29 => ?_) (fun a2 c29 => ?_)
        · refine pw_iinc (pc2 := 49) (v := nI (i + 1)) (L2 := [(3, Value.int (nI (i + 1))), (4, va_rf r1), (0, Value.ref nd), (1, Value.ref c), (2, Value.int (nI kp))]) dX2_isReached_46 rfl 1 rfl (by show nI _ + 1 = nI _; exact nI_1 _) (by decide) rfl ?_
          refine pw_goto (tgt := 14) dX2_isReached_49 (by decide) ?_
          refine PW.sub (L2 := [(3, Value.int (nI (i + 1))), (0, Value.ref nd), (1, Value.ref c), (2, Value.int (nI kp))]) [0, 2, 3, 4] rfl ?_
          refine ih (i + 1) (fun a9 x9 h1 h2 h3 => ?_) (by omega) (by omega)
          by_cases ea : a9 = i
          · subst ea
            rw [pa_none (c29.symm.trans er1)] at h3
            cases h3
          · exact hal a9 x9 h1 (by omega) h3
        · subst c29
          obtain ⟨x, hgx, rfl⟩ := pa_some er1
          have hx := hg i x hgx
          refine pw_aload (pc2 := 34) dX2_isReached_32 rfl 0 rfl (by first | exact rf_ref _ | exact rf_opt _ | exact rf_nul) ?_
          refine pw_getN (pc2 := 37) kX5 (k := 2) (by decide) rfl fl_X2_94 (H.c40 hx) rfl dX2_isReached_34 rfl ?_
          refine pw_iload_n (pc2 := 38) dX2_isReached_37 rfl rfl 4 rfl ?_
          refine pw_callVb (pc2 := 41) (c_has G _ ⟨H.c41 hx, H.c42 hx, H.c43 hx, H.ne (t := 42) (u := 43) (i := x) (j := x) hx hx (Or.inl (by decide))⟩ hk) cs_X2_88 rfl rfl (H.c41 hx) dX2_isReached_38 rfl (by omega) rfl (by first | decide | simp [cat_rf, Value.category]) (fun q38 => ?_) (fun q38 => ?_)
          · refine pw_if_eq (tgt := 46) (pc2 := 44) dX2_isReached_41 (by decide) rfl (fun c41 => by exact absurd c41 (by decide)) (fun _ => ?_)
            refine pw_iconst (pc2 := 45) (v := 1) dX2_isReached_44 rfl (by decide) ?_
            refine pw_iret dX2_isReached_45 rfl (by first | rfl | assumption | simp [narrow]) ?_
            first | exact bR_1 (Or.inl q2) | exact bR_1 (Or.inr ⟨i, x, hki, hi9, hgx, q38⟩)
          · refine pw_if_eq (tgt := 46) (pc2 := 44) dX2_isReached_41 (by decide) rfl (fun _ => ?_) (fun c41 => by exact absurd (by decide) c41)
            refine pw_iinc (pc2 := 49) (v := nI (i + 1)) (L2 := [(3, Value.int (nI (i + 1))), (4, Value.ref (A 40 x)), (0, Value.ref nd), (1, Value.ref c), (2, Value.int (nI kp))]) dX2_isReached_46 rfl 1 rfl (by show nI _ + 1 = nI _; exact nI_1 _) (by decide) rfl ?_
            refine pw_goto (tgt := 14) dX2_isReached_49 (by decide) ?_
            refine PW.sub (L2 := [(3, Value.int (nI (i + 1))), (0, Value.ref nd), (1, Value.ref c), (2, Value.int (nI kp))]) [0, 2, 3, 4] rfl ?_
            refine ih (i + 1) (fun a9 x9 h1 h2 h3 => ?_) (by omega) (by omega)
            by_cases ea : a9 = i
            · subst ea
              rw [hgx] at h3
              cases h3
              exact Classical.byContradiction (fun z => q38 z)
            · exact hal a9 x9 h1 (by omega) h3
    refine PW.sub (L2 := [(3, Value.int (nI (kp + 1))), (0, Value.ref nd), (1, Value.ref c), (2, Value.int (nI kp))]) [0, 1, 2, 3] rfl ?_
    exact loop (6 - (kp + 1)) (kp + 1) (fun a9 x9 h1 h2 _ => absurd h2 (by omega)) (by omega) (by omega)
set_option maxHeartbeats 4000000 in
set_option maxRecDepth 100000 in
theorem c_adm (G : hG) (h : hp) {A : aT} {σ : sT} (H : W9 G h A σ) {nd a b : Nat} {le gr : Nat → Int32} (hn : isN h nd a b le gr) {c pc : Nat} {g : Nat → Option Nat} (hc : isC h c pc (pa A g)) (hg : pkB σ g) {kp : Nat} (hk : kp < 6) {r : Nat} (hr : r < nrl σ) : PMet G MX2_isAdmitted 3 0 0 [.ref nd, .ref c, .int (nI kp), .ref (A 40 r)] h (bR (admd σ.1 le gr g kp r) h) noX := by
  refine PMet.of (by decide +kernel) (Nat.le_of_ble_eq_true rfl) (fun d hd => ?_)
  refine PW.sub (L2 := [(0, Value.ref nd), (1, Value.ref c), (2, Value.int (nI kp)), (3, Value.ref (A 40 r))]) [0, 1, 2, 3] rfl ?_
  refine pw_aload_n (pc2 := 1) dX2_isAdmitted_0 rfl rfl 3 rfl (by first | exact rf_ref _ | exact rf_opt _ | exact rf_nul) ?_
  refine pw_getN (pc2 := 4) kX5 (k := 4) (by decide) rfl fl_X2_98 (H.c40 hr) rfl dX2_isAdmitted_1 rfl ?_
  refine pw_if_ne (tgt := 19) (pc2 := 7) dX2_isAdmitted_4 (by decide) rfl (fun c4 => ?_) (fun c4 => ?_)
  · refine pw_iconst (pc2 := 20) (v := 0) dX2_isAdmitted_19 rfl (by decide) ?_
    refine pw_iret dX2_isAdmitted_20 rfl (by first | rfl | assumption | simp [narrow]) ?_
    first | exact bR_0 (fun q => c4 q.1) | exact bR_0 (fun q => q13 q.2.1) | exact bR_0 (fun q => q56 (q.2.2 i x hki hi9 hgx))
  · refine pw_aload_n (pc2 := 8) dX2_isAdmitted_7 rfl rfl 0 rfl (by first | exact rf_ref _ | exact rf_opt _ | exact rf_nul) ?_
    refine pw_iload_n (pc2 := 9) dX2_isAdmitted_8 rfl rfl 2 rfl ?_
    refine pw_aload_n (pc2 := 10) dX2_isAdmitted_9 rfl rfl 3 rfl (by first | exact rf_ref _ | exact rf_opt _ | exact rf_nul) ?_
    refine pw_getN (pc2 := 13) kX5 (k := 0) (by decide) rfl fl_X2_102 (H.c40 hr) rfl dX2_isAdmitted_10 rfl ?_
    refine pw_callVb (pc2 := 16) (c_admits G _ hn hk (σ.1 40 r 0)) cs_X2_106 rfl rfl hn.1 dX2_isAdmitted_13 rfl (by omega) rfl (by first | decide | simp [cat_rf, Value.category]) (fun q13 => ?_) (fun q13 => ?_)
    · refine pw_if_ne (tgt := 21) (pc2 := 19) dX2_isAdmitted_16 (by decide) rfl (fun _ => ?_) (fun c16 => by exact absurd c16 (by decide))
      refine pw_iload_n (pc2 := 22) dX2_isAdmitted_21 rfl rfl 2 rfl ?_
      refine pw_iconst (pc2 := 23) (v := 1) dX2_isAdmitted_22 rfl (by decide) ?_
      refine pw_iadd (pc2 := 24) dX2_isAdmitted_23 rfl ?_
      refine pw_topE (nI_1 _) ?_
      refine pw_istore (pc2 := 26) (L2 := [(4, Value.int (nI (kp + 1))), (0, Value.ref nd), (1, Value.ref c), (2, Value.int (nI kp)), (3, Value.ref (A 40 r))]) dX2_isAdmitted_24 rfl (by decide) rfl ?_
      have loop : ∀ (k i : Nat) (hal : ∀ a9 x9, kp < a9 → a9 < i → g a9 = some x9 → okv (σ.1 42 x9 kp) (σ.1 43 x9 kp) (σ.1 40 r 0)) (hki : kp < i), i + k = 6 → PW G MX2_isAdmitted d noA (E0 G (bR (admd σ.1 le gr g kp r) h) noX) 0 0 26 [(4, Value.int (nI i)), (0, Value.ref nd), (1, Value.ref c), (2, Value.int (nI kp)), (3, Value.ref (A 40 r))] [] h := by
        intro k
        induction k with
        | zero =>
          intro i hal hki hik
          have hi9 : i = 6 := by omega
          refine pw_iload (pc2 := 28) dX2_isAdmitted_26 rfl 0 rfl ?_
          refine pw_bipush (pc2 := 30) (v := 6) dX2_isAdmitted_28 rfl (by decide) ?_
          refine pw_icmp_ge (tgt := 70) (pc2 := 33) dX2_isAdmitted_30 (by decide) rfl (fun _ => ?_) (fun c30 => by exact absurd (by first | (rw [hi9]; exact Int32.le_refl _) | exact fun q => absurd ((l6 (by omega)).mp q) (by omega)) c30)
          refine pw_iconst (pc2 := 71) (v := 1) dX2_isAdmitted_70 rfl (by decide) ?_
          refine pw_iret dX2_isAdmitted_71 rfl (by first | rfl | assumption | simp [narrow]) ?_
          exact bR_1 ⟨c4, q13, fun a9 x9 h1 h2 h3 => hal a9 x9 h1 (by omega) h3⟩
        | succ k ih =>
          intro i hal hki hik
          have hi9 : i < 6 := by omega
          refine pw_iload (pc2 := 28) dX2_isAdmitted_26 rfl 0 rfl ?_
          refine pw_bipush (pc2 := 30) (v := 6) dX2_isAdmitted_28 rfl (by decide) ?_
          refine pw_icmp_ge (tgt := 70) (pc2 := 33) dX2_isAdmitted_30 (by decide) rfl (fun c30 => by exact absurd c30 (by first | (rw [hi9]; exact Int32.le_refl _) | exact fun q => absurd ((l6 (by omega)).mp q) (by omega))) (fun _ => ?_)
          refine pw_aload_n (pc2 := 34) dX2_isAdmitted_33 rfl rfl 2 rfl (by first | exact rf_ref _ | exact rf_opt _ | exact rf_nul) ?_
          refine pw_iload (pc2 := 36) dX2_isAdmitted_34 rfl 0 rfl ?_
          refine pw_callV1 (pc2 := 39) (c_cat G _ hc (i := i) hi9) cs_X2_84 rfl rfl hc.1 dX2_isAdmitted_36 rfl (by omega) rfl (by first | decide | simp [cat_rf, Value.category]) ?_
          refine pw_topr (fun r1 er1 => ?_)
          refine pw_astore (pc2 := 41) (L2 := [(5, va_rf r1), (4, Value.int (nI i)), (0, Value.ref nd), (1, Value.ref c), (2, Value.int (nI kp)), (3, Value.ref (A 40 r))]) dX2_isAdmitted_39 rfl (by decide) (by first | exact rf_ref _ | exact rf_opt _ | exact rf_nul) rfl ?_
          refine pw_aload (pc2 := 43) dX2_isAdmitted_41 rfl 0 rfl (by first | exact rf_ref _ | exact rf_opt _ | exact rf_nul) ?_
          refine pw_ifnull (tgt := 64) (pc2 := 46) dX2_isAdmitted_43 (by decide) rfl (fun c43 => ?_) (fun a2 c43 => ?_)
          · refine pw_iinc (pc2 := 67) (v := nI (i + 1)) (L2 := [(4, Value.int (nI (i + 1))), (5, va_rf r1), (0, Value.ref nd), (1, Value.ref c), (2, Value.int (nI kp)), (3, Value.ref (A 40 r))]) dX2_isAdmitted_64 rfl 1 rfl (by show nI _ + 1 = nI _; exact nI_1 _) (by decide) rfl ?_
            refine pw_goto (tgt := 26) dX2_isAdmitted_67 (by decide) ?_
            refine PW.sub (L2 := [(4, Value.int (nI (i + 1))), (0, Value.ref nd), (1, Value.ref c), (2, Value.int (nI kp)), (3, Value.ref (A 40 r))]) [0, 2, 3, 4, 5] rfl ?_
            refine ih (i + 1) (fun a9 x9 h1 h2 h3 => ?_) (by omega) (by omega)
            by_cases ea : a9 = i
            · subst ea
              rw [pa_none (c43.symm.trans er1)] at h3
              cases h3
            · exact hal a9 x9 h1 (by omega) h3
          · subst c43
            obtain ⟨x, hgx, rfl⟩ := pa_some er1
            have hx := hg i x hgx
            refine pw_aload (pc2 := 48) dX2_isAdmitted_46 rfl 0 rfl (by first | exact rf_ref _ | exact rf_opt _ | exact rf_nul) ?_
            refine pw_getN (pc2 := 51) kX5 (k := 2) (by decide) rfl fl_X2_94 (H.c40 hx) rfl dX2_isAdmitted_48 rfl ?_
            refine pw_iload_n (pc2 := 52) dX2_isAdmitted_51 rfl rfl 4 rfl ?_
            refine pw_aload_n (pc2 := 53) dX2_isAdmitted_52 rfl rfl 5 rfl (by first | exact rf_ref _ | exact rf_opt _ | exact rf_nul) ?_
            refine pw_getN (pc2 := 56) kX5 (k := 0) (by decide) rfl fl_X2_102 (H.c40 hr) rfl dX2_isAdmitted_53 rfl ?_
            refine pw_callVb (pc2 := 59) (c_admits G _ ⟨H.c41 hx, H.c42 hx, H.c43 hx, H.ne (t := 42) (u := 43) (i := x) (j := x) hx hx (Or.inl (by decide))⟩ hk (σ.1 40 r 0)) cs_X2_106 rfl rfl (H.c41 hx) dX2_isAdmitted_56 rfl (by omega) rfl (by first | decide | simp [cat_rf, Value.category]) (fun q56 => ?_) (fun q56 => ?_)
            · refine pw_if_ne (tgt := 64) (pc2 := 62) dX2_isAdmitted_59 (by decide) rfl (fun _ => ?_) (fun c59 => by exact absurd c59 (by decide))
              refine pw_iinc (pc2 := 67) (v := nI (i + 1)) (L2 := [(4, Value.int (nI (i + 1))), (5, Value.ref (A 40 x)), (0, Value.ref nd), (1, Value.ref c), (2, Value.int (nI kp)), (3, Value.ref (A 40 r))]) dX2_isAdmitted_64 rfl 1 rfl (by show nI _ + 1 = nI _; exact nI_1 _) (by decide) rfl ?_
              refine pw_goto (tgt := 26) dX2_isAdmitted_67 (by decide) ?_
              refine PW.sub (L2 := [(4, Value.int (nI (i + 1))), (0, Value.ref nd), (1, Value.ref c), (2, Value.int (nI kp)), (3, Value.ref (A 40 r))]) [0, 2, 3, 4, 5] rfl ?_
              refine ih (i + 1) (fun a9 x9 h1 h2 h3 => ?_) (by omega) (by omega)
              by_cases ea : a9 = i
              · subst ea
                rw [hgx] at h3
                cases h3
                exact q56
              · exact hal a9 x9 h1 (by omega) h3
            · refine pw_if_ne (tgt := 64) (pc2 := 62) dX2_isAdmitted_59 (by decide) rfl (fun c59 => by exact absurd (by decide) c59) (fun _ => ?_)
              refine pw_iconst (pc2 := 63) (v := 0) dX2_isAdmitted_62 rfl (by decide) ?_
              refine pw_iret dX2_isAdmitted_63 rfl (by first | rfl | assumption | simp [narrow]) ?_
              first | exact bR_0 (fun q => c4 q.1) | exact bR_0 (fun q => q13 q.2.1) | exact bR_0 (fun q => q56 (q.2.2 i x hki hi9 hgx))
      refine PW.sub (L2 := [(4, Value.int (nI (kp + 1))), (0, Value.ref nd), (1, Value.ref c), (2, Value.int (nI kp)), (3, Value.ref (A 40 r))]) [0, 1, 2, 3, 4] rfl ?_
      exact loop (6 - (kp + 1)) (kp + 1) (fun a9 x9 h1 h2 _ => absurd h2 (by omega)) (by omega) (by omega)
    · refine pw_if_ne (tgt := 21) (pc2 := 19) dX2_isAdmitted_16 (by decide) rfl (fun c16 => by exact absurd (by decide) c16) (fun _ => ?_)
      refine pw_iconst (pc2 := 20) (v := 0) dX2_isAdmitted_19 rfl (by decide) ?_
      refine pw_iret dX2_isAdmitted_20 rfl (by first | rfl | assumption | simp [narrow]) ?_
      first | exact bR_0 (fun q => c4 q.1) | exact bR_0 (fun q => q13 q.2.1) | exact bR_0 (fun q => q56 (q.2.2 i x hki hi9 hgx))
