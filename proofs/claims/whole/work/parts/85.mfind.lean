/-! the reference: find, stale, and what asks for them -/
theorem fdV_s {σ : sT} {p x : Nat} {v : Int32} : ∀ (k i : Nat), fdV σ p v i k = some x → ∃ j, i ≤ j ∧ j < i + k ∧ x = ixp σ p j ∧ σ.1 40 x 0 = v
  | 0, _, h => by cases h
  | k + 1, i, h => by
    unfold fdV at h
    by_cases e : σ.1 40 (ixp σ p i) 0 = v
    · rw [if_pos e] at h; cases h; exact ⟨i, Nat.le_refl _, by omega, rfl, e⟩
    · rw [if_neg e] at h
      obtain ⟨j, h1, h2, h3⟩ := fdV_s k (i + 1) h
      exact ⟨j, by omega, by omega, h3⟩
theorem fdV_n {σ : sT} {p : Nat} {v : Int32} : ∀ (k i : Nat), fdV σ p v i k = none → ∀ j, i ≤ j → j < i + k → ¬ σ.1 40 (ixp σ p j) 0 = v
  | 0, i, _, j, h1, h2 => by omega
  | k + 1, i, h, j, h1, h2 => by
    unfold fdV at h
    by_cases e : σ.1 40 (ixp σ p i) 0 = v
    · rw [if_pos e] at h; cases h
    · rw [if_neg e] at h
      by_cases ej : j = i
      · rw [ej]; exact e
      · exact fdV_n k (i + 1) h j (by omega) (by omega)
theorem RR.vu {σ : sT} {ofr : Nat → Nat} (hR : RR σ ofr) {x y : Nat} (hx : x < nrl σ) (hy : y < nrl σ) (ho : ofr x = ofr y) (hv : σ.1 40 x 0 = σ.1 40 y 0) : x = y := by
  rcases Nat.lt_trichotomy x y with q | q | q
  · have z := hR.2.2 x y q hy ho
    rw [hv] at z
    exact absurd z (by rw [Int32.lt_iff_toInt_lt]; omega)
  · exact q
  · have z := hR.2.2 y x q hx ho.symm
    rw [hv] at z
    exact absurd z (by rw [Int32.lt_iff_toInt_lt]; omega)
def fdP (σ : sT) (ofr : Nat → Nat) (p : Nat) (v : Int32) (r : Nat) : Prop := ofr r = p ∧ σ.1 40 r 0 = v
theorem fdV_ff {σ : sT} {ofr : Nat → Nat} (hR : RR σ ofr) {p : Nat} (hp : p < 6) {v : Int32} : ff (fdP σ ofr p v) 0 (nrl σ) = fdV σ p v 0 (rnp σ p) := by
  cases e : fdV σ p v 0 (rnp σ p) with
  | some x =>
    obtain ⟨j, -, h2, rfl, h4⟩ := fdV_s _ _ e
    have z := hR.1.ix hp (i := j) (by omega)
    exact ff_uq z.1 ⟨z.2.1, h4⟩ (fun s hs q => hR.vu hs z.1 (q.1.trans z.2.1.symm) (q.2.trans h4.symm))
  | none =>
    cases e2 : ff (fdP σ ofr p v) 0 (nrl σ) with
    | none => rfl
    | some t =>
      obtain ⟨-, h2, h3, h4⟩ := ff_some _ _ e2
      have q := hR.1.2 p hp
      have hc : cntq ofr p t < rnp σ p := by
        have h5 := cntq_le ofr p (a := t + 1) (b := nrl σ) (by omega)
        have h6 : cntq ofr p (t + 1) = cntq ofr p t + 1 := by show cntq ofr p t + _ = _; rw [if_pos h3]
        rw [q.1]; omega
      have h7 := fdV_n _ _ e (cntq ofr p t) (Nat.zero_le _) (by omega)
      rw [q.2 t (by omega) h3] at h7
      exact absurd h4 h7
set_option maxHeartbeats 4000000 in
set_option maxRecDepth 100000 in
theorem c_find (G : hG) (h : hp) {A : aT} {σ : sT} (H : WM G h A σ) (hb : MB σ) {ofr : Nat → Nat} (hR : RR σ ofr) {p : Nat} (hp6 : p < 6) (v : Int32) : PMet G MX10_find 0 0 0 [.ref (A 60 0), .int (nI p), .int v] h (det (some (.int (enc (fdV σ p v 0 (rnp σ p))))) h) noX := by
  have hnp := H.iv.1
  have hnr := H.iv.2.2.1
  refine PMet.of (by decide +kernel) (Nat.le_of_ble_eq_true rfl) (fun d hd => ?_)
  refine PW.sub (L2 := [(0, Value.ref (A 60 0)), (1, Value.int (nI p)), (2, Value.int v)]) [0, 1, 2] rfl ?_
  refine pw_iconst (pc2 := 1) (v := 0) dX10_find_0 rfl (by decide) ?_
  refine pw_istore_n (pc2 := 2) (L2 := [(3, Value.int 0), (0, Value.ref (A 60 0)), (1, Value.int (nI p)), (2, Value.int v)]) dX10_find_1 rfl rfl (by decide) rfl ?_
  have loop : ∀ (k i : Nat) (hsq : fdV σ p v 0 (rnp σ p) = ff (fdP σ ofr p v) i (nrl σ - i)), i + k = nrl σ → PW G MX10_find d noA (E0 G (det (some (.int (enc (fdV σ p v 0 (rnp σ p))))) h) noX) 0 0 2 [(3, Value.int (nI i)), (0, Value.ref (A 60 0)), (1, Value.int (nI p)), (2, Value.int v)] [] h := by
    intro k
    induction k with
    | zero =>
      intro i hsq hik
      have hi9 : i = nrl σ := by omega
      refine pw_iload_n (pc2 := 3) dX10_find_2 rfl rfl 0 rfl ?_
      refine pw_aload_n (pc2 := 4) dX10_find_3 rfl rfl 1 rfl (by first | exact rf_ref _ | exact rf_opt _ | exact rf_nul) ?_
      refine pw_get (pc2 := 7) kX10 (k := 24) (by decide) rfl fl_X10_146 H.c60 rfl dX10_find_4 rfl ?_
      refine pw_topE hb.2.1 ?_
      refine pw_icmp_ge (tgt := 38) (pc2 := 10) dX10_find_7 (by decide) rfl (fun _ => ?_) (fun c7 => by exact absurd (by first | exact (nI_leI (a := nrl σ) (b := i) (by omega) (by omega)).mpr (by omega) | exact fun q => absurd ((nI_leI (a := nrl σ) (b := i) (by omega) (by omega)).mp q) (by omega)) c7)
      refine pw_iconst (pc2 := 39) (v := (-1)) dX10_find_38 rfl (by decide) ?_
      refine pw_iret dX10_find_39 rfl (by first | rfl | assumption | simp [narrow]) ?_
      exact ⟨by rw [hsq, hi9, Nat.sub_self]; rfl, rfl⟩
    | succ k ih =>
      intro i hsq hik
      have hi9 : i < nrl σ := by omega
      have hk1 : nrl σ - i = nrl σ - (i + 1) + 1 := by omega
      rw [hk1] at hsq
      have hof := (hR.1.1 i hi9).1
      refine pw_iload_n (pc2 := 3) dX10_find_2 rfl rfl 0 rfl ?_
      refine pw_aload_n (pc2 := 4) dX10_find_3 rfl rfl 1 rfl (by first | exact rf_ref _ | exact rf_opt _ | exact rf_nul) ?_
      refine pw_get (pc2 := 7) kX10 (k := 24) (by decide) rfl fl_X10_146 H.c60 rfl dX10_find_4 rfl ?_
      refine pw_topE hb.2.1 ?_
      refine pw_icmp_ge (tgt := 38) (pc2 := 10) dX10_find_7 (by decide) rfl (fun c7 => by exact absurd c7 (by first | exact (nI_leI (a := nrl σ) (b := i) (by omega) (by omega)).mpr (by omega) | exact fun q => absurd ((nI_leI (a := nrl σ) (b := i) (by omega) (by omega)).mp q) (by omega))) (fun _ => ?_)
      refine pw_aload_n (pc2 := 11) dX10_find_10 rfl rfl 1 rfl (by first | exact rf_ref _ | exact rf_opt _ | exact rf_nul) ?_
      refine pw_get (pc2 := 14) kX10 (k := 17) (by decide) rfl fl_X10_61 H.c60 rfl dX10_find_11 rfl ?_
      refine pw_iload_n (pc2 := 15) dX10_find_14 rfl rfl 0 rfl ?_
      refine pw_ialdN (pc2 := 16) H.c77 (i := i) (by first | assumption | omega) (by omega) dX10_find_15 rfl ?_
      refine pw_topE (hR.1.1 i hi9).2.1 ?_
      refine pw_iload_n (pc2 := 17) dX10_find_16 rfl rfl 2 rfl ?_
      refine pw_icmp_ne (tgt := 32) (pc2 := 20) dX10_find_17 (by decide) rfl (fun c17 => ?_) (fun c17 => ?_)
      · refine pw_iinc (pc2 := 35) (v := nI (i + 1)) (L2 := [(3, Value.int (nI (i + 1))), (0, Value.ref (A 60 0)), (1, Value.int (nI p)), (2, Value.int v)]) dX10_find_32 rfl 0 rfl (by show nI _ + 1 = nI _; exact nI_1 _) (by decide) rfl ?_
        refine pw_goto (tgt := 2) dX10_find_35 (by decide) ?_
        refine PW.sub (L2 := [(3, Value.int (nI (i + 1))), (0, Value.ref (A 60 0)), (1, Value.int (nI p)), (2, Value.int v)]) [0, 1, 2, 3] rfl ?_
        refine ih (i + 1) (hsq.trans (dit_f (fun z => ?_))) (by omega)
        first | exact c17 (congrArg nI z.1) | exact c27 z.2
      · refine pw_aload_n (pc2 := 21) dX10_find_20 rfl rfl 1 rfl (by first | exact rf_ref _ | exact rf_opt _ | exact rf_nul) ?_
        refine pw_get (pc2 := 24) kX10 (k := 18) (by decide) rfl fl_X10_64 H.c60 rfl dX10_find_21 rfl ?_
        refine pw_iload_n (pc2 := 25) dX10_find_24 rfl rfl 0 rfl ?_
        refine pw_ialdN (pc2 := 26) H.c78 (i := i) (by first | assumption | omega) (by omega) dX10_find_25 rfl ?_
        refine pw_topE (hR.1.1 i hi9).2.2.1 ?_
        refine pw_iload_n (pc2 := 27) dX10_find_26 rfl rfl 3 rfl ?_
        refine pw_icmp_ne (tgt := 32) (pc2 := 30) dX10_find_27 (by decide) rfl (fun c27 => ?_) (fun c27 => ?_)
        · refine pw_iinc (pc2 := 35) (v := nI (i + 1)) (L2 := [(3, Value.int (nI (i + 1))), (0, Value.ref (A 60 0)), (1, Value.int (nI p)), (2, Value.int v)]) dX10_find_32 rfl 0 rfl (by show nI _ + 1 = nI _; exact nI_1 _) (by decide) rfl ?_
          refine pw_goto (tgt := 2) dX10_find_35 (by decide) ?_
          refine PW.sub (L2 := [(3, Value.int (nI (i + 1))), (0, Value.ref (A 60 0)), (1, Value.int (nI p)), (2, Value.int v)]) [0, 1, 2, 3] rfl ?_
          refine ih (i + 1) (hsq.trans (dit_f (fun z => ?_))) (by omega)
          first | exact c17 (congrArg nI z.1) | exact c27 z.2
        · refine pw_iload_n (pc2 := 31) dX10_find_30 rfl rfl 0 rfl ?_
          refine pw_iret dX10_find_31 rfl (by first | rfl | assumption | simp [narrow]) ?_
          exact ⟨by rw [hsq, show ff _ i (nrl σ - (i + 1) + 1) = some i from dit_t ⟨nI_inj (by omega) (by omega) c17, c27⟩]; rfl, rfl⟩
  refine PW.sub (L2 := [(3, Value.int 0), (0, Value.ref (A 60 0)), (1, Value.int (nI p)), (2, Value.int v)]) [0, 1, 2, 3] rfl ?_
  exact loop (nrl σ) 0 (fdV_ff hR hp6).symm (by omega)
theorem fdV_cg {S σ : sT} (e40 : ∀ r, S.1 40 r = σ.1 40 r) (e2 : S.2 = σ.2) {p : Nat} {v : Int32} : ∀ (k i : Nat), fdV S p v i k = fdV σ p v i k
  | 0, _ => rfl
  | k + 1, i => by
    have e3 : ixp S p i = ixp σ p i := by unfold ixp; rw [e2]
    unfold fdV
    rw [e3, e40, fdV_cg e40 e2 k (i + 1)]
theorem fdV_th {σ : sT} {v0 v : Int32} {p k i : Nat} : fdV (thS σ v0) p v i k = fdV σ p v i k := fdV_cg (fun r => setI_n (Or.inl (by decide))) rfl k i
theorem c_findT (G : hG) (h : hp) {A : aT} {σ : sT} {v0 : Int32} (H : WM G h A (thS σ v0)) (hb : MB σ) {ofr : Nat → Nat} (hR : RR σ ofr) {p : Nat} (hp6 : p < 6) (v : Int32) : PMet G MX10_find 0 0 0 [.ref (A 60 0), .int (nI p), .int v] h (det (some (.int (enc (fdV σ p v 0 (rnp σ p))))) h) noX :=
  (c_find G h H hb hR hp6 v).mono (fun r h2 q => ⟨q.1.trans (by rw [show fdV (thS σ v0) p v 0 (rnp (thS σ v0) p) = fdV σ p v 0 (rnp σ p) from fdV_th]), q.2⟩) (fun _ _ q => q)
theorem lk_find {σ : sT} {ofr : Nat → Nat} (hR : RR σ ofr) (hI : IV σ) {r k x : Nat} (hr : r < nrl σ) (hk : k < 6) (hx : σ.2.2 45 r k = some x) : x < nrl σ ∧ ¬ σ.1 40 x 0 = 0 ∧ fdV σ k (σ.1 40 x 0) 0 (rnp σ k) = some x := by
  have hxn := hI.2.2.2.2.2.2.2.1 r hr k x hx
  have ho := ((hR.2.1 r hr).1 k hk).2 x hx
  refine ⟨hxn, fun z => ?_, ?_⟩
  · have q := (hR.2.1 x hxn).2.1.1
    rw [z] at q
    exact absurd q (by decide)
  · rw [← fdV_ff hR hk]
    exact ff_uq hxn ⟨ho, rfl⟩ (fun s hs q => hR.vu hs hxn (q.1.trans ho.symm) q.2)
def skP (σ : sT) (r i : Nat) : Prop := ∃ k x, k < i ∧ σ.2.2 45 r k = some x ∧ ¬ σ.1 40 x 2 = 0
set_option maxHeartbeats 4000000 in
set_option maxRecDepth 100000 in
theorem c_stale (G : hG) (h : hp) {A : aT} {σ : sT} (H : WM G h A σ) (hb : MB σ) {ofr : Nat → Nat} (hR : RR σ ofr) {r : Nat} (hr : r < nrl σ) : PMet G MX10_stale 1 0 0 [.ref (A 60 0), .int (nI r)] h (bR (stl σ r) h) noX := by
  have hnp := H.iv.1
  have hnr := H.iv.2.2.1
  have hr20 : r < 20 := by omega
  refine PMet.of (by decide +kernel) (Nat.le_of_ble_eq_true rfl) (fun d hd => ?_)
  refine PW.sub (L2 := [(0, Value.ref (A 60 0)), (1, Value.int (nI r))]) [0, 1] rfl ?_
  refine pw_iconst (pc2 := 1) (v := 0) dX10_stale_0 rfl (by decide) ?_
  refine pw_istore_n (pc2 := 2) (L2 := [(2, Value.int 0), (0, Value.ref (A 60 0)), (1, Value.int (nI r))]) dX10_stale_1 rfl rfl (by decide) rfl ?_
  refine pw_iconst (pc2 := 3) (v := 0) dX10_stale_2 rfl (by decide) ?_
  refine pw_istore_n (pc2 := 4) (L2 := [(3, Value.int 0), (2, Value.int 0), (0, Value.ref (A 60 0)), (1, Value.int (nI r))]) dX10_stale_3 rfl rfl (by decide) rfl ?_
  have loop : ∀ (k i : Nat) (ac : Int32) (hac : (ac = 1 ∧ skP σ r i) ∨ (ac = 0 ∧ ¬ skP σ r i)), i + k = 6 → PW G MX10_stale d noA (E0 G (bR (stl σ r) h) noX) 0 0 4 [(3, Value.int (nI i)), (2, Value.int ac), (0, Value.ref (A 60 0)), (1, Value.int (nI r))] [] h := by
    intro k
    induction k with
    | zero =>
      intro i ac hac hik
      have hi9 : i = 6 := by omega
      refine pw_iload_n (pc2 := 5) dX10_stale_4 rfl rfl 0 rfl ?_
      refine pw_bipush (pc2 := 7) (v := 6) dX10_stale_5 rfl (by decide) ?_
      refine pw_icmp_ge (tgt := 72) (pc2 := 10) dX10_stale_7 (by decide) rfl (fun _ => ?_) (fun c7 => by exact absurd (by first | (rw [hi9]; exact Int32.le_refl _) | exact fun q => absurd ((l6 (by omega)).mp q) (by omega)) c7)
      refine pw_iload_n (pc2 := 73) dX10_stale_72 rfl rfl 1 rfl ?_
      refine pw_if_eq (tgt := 89) (pc2 := 76) dX10_stale_73 (by decide) rfl (fun c73 => ?_) (fun c73 => ?_)
      · refine pw_iconst (pc2 := 90) (v := 0) dX10_stale_89 rfl (by decide) ?_
        refine pw_iret dX10_stale_90 rfl (by first | rfl | assumption | simp [narrow]) ?_
        rcases hac with ⟨q0, q⟩ | ⟨q0, q⟩
        · first | exact absurd (q0.symm.trans c73) (by decide) | (subst hi9; first | exact bR_1 ⟨c82, q⟩ | exact bR_0 (fun z => c82 z.1))
        · first | exact absurd q0 c73 | (subst hi9; exact bR_0 (fun z => q z.2))
      · refine pw_aload_n (pc2 := 77) dX10_stale_76 rfl rfl 2 rfl (by first | exact rf_ref _ | exact rf_opt _ | exact rf_nul) ?_
        refine pw_get (pc2 := 80) kX10 (k := 23) (by decide) rfl fl_X10_79 H.c60 rfl dX10_stale_77 rfl ?_
        refine pw_iload_n (pc2 := 81) dX10_stale_80 rfl rfl 3 rfl ?_
        refine pw_zaldN (pc2 := 82) H.c83 (i := r) (by first | assumption | omega) (by omega) dX10_stale_81 rfl ?_
        refine pw_topE (hR.1.1 r hr).2.2.2.2.1 ?_
        refine pw_if_ne (tgt := 89) (pc2 := 85) dX10_stale_82 (by decide) rfl (fun c82 => ?_) (fun c82 => ?_)
        · refine pw_iconst (pc2 := 90) (v := 0) dX10_stale_89 rfl (by decide) ?_
          refine pw_iret dX10_stale_90 rfl (by first | rfl | assumption | simp [narrow]) ?_
          rcases hac with ⟨q0, q⟩ | ⟨q0, q⟩
          · first | exact absurd (q0.symm.trans c73) (by decide) | (subst hi9; first | exact bR_1 ⟨c82, q⟩ | exact bR_0 (fun z => c82 z.1))
          · first | exact absurd q0 c73 | (subst hi9; exact bR_0 (fun z => q z.2))
        · refine pw_iconst (pc2 := 86) (v := 1) dX10_stale_85 rfl (by decide) ?_
          refine pw_goto (tgt := 90) dX10_stale_86 (by decide) ?_
          refine pw_iret dX10_stale_90 rfl (by first | rfl | assumption | simp [narrow]) ?_
          rcases hac with ⟨q0, q⟩ | ⟨q0, q⟩
          · first | exact absurd (q0.symm.trans c73) (by decide) | (subst hi9; first | exact bR_1 ⟨c82, q⟩ | exact bR_0 (fun z => c82 z.1))
          · first | exact absurd q0 c73 | (subst hi9; exact bR_0 (fun z => q z.2))
    | succ k ih =>
      intro i ac hac hik
      have hi9 : i < 6 := by omega
      refine pw_iload_n (pc2 := 5) dX10_stale_4 rfl rfl 0 rfl ?_
      refine pw_bipush (pc2 := 7) (v := 6) dX10_stale_5 rfl (by decide) ?_
      refine pw_icmp_ge (tgt := 72) (pc2 := 10) dX10_stale_7 (by decide) rfl (fun c7 => by exact absurd c7 (by first | (rw [hi9]; exact Int32.le_refl _) | exact fun q => absurd ((l6 (by omega)).mp q) (by omega))) (fun _ => ?_)
      refine pw_aload_n (pc2 := 11) dX10_stale_10 rfl rfl 2 rfl (by first | exact rf_ref _ | exact rf_opt _ | exact rf_nul) ?_
      refine pw_get (pc2 := 14) kX10 (k := 22) (by decide) rfl fl_X10_76 H.c60 rfl dX10_stale_11 rfl ?_
      refine pw_iload_n (pc2 := 15) dX10_stale_14 rfl rfl 3 rfl ?_
      refine pw_aaldN (pc2 := 16) 6 rfl rfl H.c82 (i := r) (by first | assumption | omega) (by omega) dX10_stale_15 rfl ?_
      refine pw_topV (rowv (by first | assumption | omega)) ?_
      refine pw_iload_n (pc2 := 17) dX10_stale_16 rfl rfl 0 rfl ?_
      refine pw_ialdN (pc2 := 18) (H.c99 hr20) (i := i) (by first | assumption | omega) (by omega) dX10_stale_17 rfl ?_
      refine pw_topE ((hR.2.1 r hr).1 i hi9).1 ?_
      obtain ⟨os, hos⟩ : ∃ o, σ.2.2 45 r i = o := ⟨_, rfl⟩
      cases os with
      | none =>
        refine pw_topE (show vG σ (σ.2.2 45 r i) = 0 by rw [hos]; rfl) ?_
        refine pw_if_ne (tgt := 25) (pc2 := 21) dX10_stale_18 (by decide) rfl (fun c18 => by exact absurd (rfl) c18) (fun _ => ?_)
        refine pw_iconst (pc2 := 22) (v := (-1)) dX10_stale_21 rfl (by decide) ?_
        refine pw_goto (tgt := 38) dX10_stale_22 (by decide) ?_
        refine pw_istore (pc2 := 40) (L2 := [(4, Value.int (-1)), (3, Value.int (nI i)), (2, Value.int ac), (0, Value.ref (A 60 0)), (1, Value.int (nI r))]) dX10_stale_38 rfl (by decide) rfl ?_
        refine pw_iload_n (pc2 := 41) dX10_stale_40 rfl rfl 2 rfl ?_
        refine pw_if_ne (tgt := 60) (pc2 := 44) dX10_stale_41 (by decide) rfl (fun c41 => ?_) (fun c41 => ?_)
        · refine pw_iconst (pc2 := 61) (v := 1) dX10_stale_60 rfl (by decide) ?_
          refine pw_goto (tgt := 65) dX10_stale_61 (by decide) ?_
          refine pw_istore_n (pc2 := 66) (L2 := [(2, Value.int 1), (4, Value.int (-1)), (3, Value.int (nI i)), (0, Value.ref (A 60 0)), (1, Value.int (nI r))]) dX10_stale_65 rfl rfl (by decide) rfl ?_
          refine pw_iinc (pc2 := 69) (v := nI (i + 1)) (L2 := [(3, Value.int (nI (i + 1))), (2, Value.int 1), (4, Value.int (-1)), (0, Value.ref (A 60 0)), (1, Value.int (nI r))]) dX10_stale_66 rfl 2 rfl (by show nI _ + 1 = nI _; exact nI_1 _) (by decide) rfl ?_
          refine pw_goto (tgt := 4) dX10_stale_69 (by decide) ?_
          refine PW.sub (L2 := [(3, Value.int (nI (i + 1))), (2, Value.int 1), (0, Value.ref (A 60 0)), (1, Value.int (nI r))]) [0, 1, 3, 4] rfl ?_
          refine ih (i + 1) 1 ?_ (by omega)
          refine Or.inl ⟨rfl, ?_⟩
          first | exact ⟨i, x, Nat.lt_succ_self i, hos, c57⟩ | (rcases hac with ⟨_, k, y, q1, q2, q3⟩ | ⟨q, _⟩; exact ⟨k, y, by omega, q2, q3⟩; exact absurd q c41)
        · refine pw_iload (pc2 := 46) dX10_stale_44 rfl 0 rfl ?_
          refine pw_iconst (pc2 := 47) (v := (-1)) dX10_stale_46 rfl (by decide) ?_
          refine pw_icmp_eq (tgt := 64) (pc2 := 50) dX10_stale_47 (by decide) rfl (fun _ => ?_) (fun c47 => by exact absurd (rfl) c47)
          refine pw_iconst (pc2 := 65) (v := 0) dX10_stale_64 rfl (by decide) ?_
          refine pw_istore_n (pc2 := 66) (L2 := [(2, Value.int 0), (4, Value.int (-1)), (3, Value.int (nI i)), (0, Value.ref (A 60 0)), (1, Value.int (nI r))]) dX10_stale_65 rfl rfl (by decide) rfl ?_
          refine pw_iinc (pc2 := 69) (v := nI (i + 1)) (L2 := [(3, Value.int (nI (i + 1))), (2, Value.int 0), (4, Value.int (-1)), (0, Value.ref (A 60 0)), (1, Value.int (nI r))]) dX10_stale_66 rfl 2 rfl (by show nI _ + 1 = nI _; exact nI_1 _) (by decide) rfl ?_
          refine pw_goto (tgt := 4) dX10_stale_69 (by decide) ?_
          refine PW.sub (L2 := [(3, Value.int (nI (i + 1))), (2, Value.int 0), (0, Value.ref (A 60 0)), (1, Value.int (nI r))]) [0, 1, 3, 4] rfl ?_
          refine ih (i + 1) 0 ?_ (by omega)
          refine Or.inr ⟨rfl, ?_⟩
          rintro ⟨k, y, q1, q2, q3⟩
          have hN : ¬ skP σ r i := by rcases hac with ⟨q, _⟩ | ⟨_, q⟩; exact absurd (c41 ▸ q) (by decide); exact q
          by_cases ek : k = i
          · subst ek; rw [hos] at q2; first | (cases q2; done) | (cases q2; exact q3 c57)
          · exact hN ⟨k, y, by omega, q2, q3⟩
      | some x =>
        refine pw_topE (show vG σ (σ.2.2 45 r i) = σ.1 40 x 0 by rw [hos]; rfl) ?_
        obtain ⟨hxn, hx0, hxf⟩ := lk_find hR H.iv hr hi9 hos
        have hx20 : x < 20 := by omega
        refine pw_if_ne (tgt := 25) (pc2 := 21) dX10_stale_18 (by decide) rfl (fun _ => ?_) (fun c18 => by exact absurd c18 (hx0))
        refine pw_aload_n (pc2 := 26) dX10_stale_25 rfl rfl 2 rfl (by first | exact rf_ref _ | exact rf_opt _ | exact rf_nul) ?_
        refine pw_iload_n (pc2 := 27) dX10_stale_26 rfl rfl 0 rfl ?_
        refine pw_aload_n (pc2 := 28) dX10_stale_27 rfl rfl 2 rfl (by first | exact rf_ref _ | exact rf_opt _ | exact rf_nul) ?_
        refine pw_get (pc2 := 31) kX10 (k := 22) (by decide) rfl fl_X10_76 H.c60 rfl dX10_stale_28 rfl ?_
        refine pw_iload_n (pc2 := 32) dX10_stale_31 rfl rfl 3 rfl ?_
        refine pw_aaldN (pc2 := 33) 6 rfl rfl H.c82 (i := r) (by first | assumption | omega) (by omega) dX10_stale_32 rfl ?_
        refine pw_topV (rowv (by first | assumption | omega)) ?_
        refine pw_iload_n (pc2 := 34) dX10_stale_33 rfl rfl 0 rfl ?_
        refine pw_ialdN (pc2 := 35) (H.c99 hr20) (i := i) (by first | assumption | omega) (by omega) dX10_stale_34 rfl ?_
        refine pw_topE (((hR.2.1 r hr).1 i hi9).1.trans (by rw [hos]; rfl : vG σ (σ.2.2 45 r i) = σ.1 40 x 0)) ?_
        refine pw_callV1 (pc2 := 38) (c_find G _ H hb hR hi9 (σ.1 40 x 0)) cs_X10_206 rfl rfl H.c60 dX10_stale_35 rfl (by omega) rfl (by first | decide | simp [cat_rf, Value.category]) ?_
        refine pw_topE (by rw [hxf]; rfl : enc (fdV σ i (σ.1 40 x 0) 0 (rnp σ i)) = nI x) ?_
        refine pw_istore (pc2 := 40) (L2 := [(4, Value.int (nI x)), (3, Value.int (nI i)), (2, Value.int ac), (0, Value.ref (A 60 0)), (1, Value.int (nI r))]) dX10_stale_38 rfl (by decide) rfl ?_
        refine pw_iload_n (pc2 := 41) dX10_stale_40 rfl rfl 2 rfl ?_
        refine pw_if_ne (tgt := 60) (pc2 := 44) dX10_stale_41 (by decide) rfl (fun c41 => ?_) (fun c41 => ?_)
        · refine pw_iconst (pc2 := 61) (v := 1) dX10_stale_60 rfl (by decide) ?_
          refine pw_goto (tgt := 65) dX10_stale_61 (by decide) ?_
          refine pw_istore_n (pc2 := 66) (L2 := [(2, Value.int 1), (4, Value.int (nI x)), (3, Value.int (nI i)), (0, Value.ref (A 60 0)), (1, Value.int (nI r))]) dX10_stale_65 rfl rfl (by decide) rfl ?_
          refine pw_iinc (pc2 := 69) (v := nI (i + 1)) (L2 := [(3, Value.int (nI (i + 1))), (2, Value.int 1), (4, Value.int (nI x)), (0, Value.ref (A 60 0)), (1, Value.int (nI r))]) dX10_stale_66 rfl 2 rfl (by show nI _ + 1 = nI _; exact nI_1 _) (by decide) rfl ?_
          refine pw_goto (tgt := 4) dX10_stale_69 (by decide) ?_
          refine PW.sub (L2 := [(3, Value.int (nI (i + 1))), (2, Value.int 1), (0, Value.ref (A 60 0)), (1, Value.int (nI r))]) [0, 1, 3, 4] rfl ?_
          refine ih (i + 1) 1 ?_ (by omega)
          refine Or.inl ⟨rfl, ?_⟩
          first | exact ⟨i, x, Nat.lt_succ_self i, hos, c57⟩ | (rcases hac with ⟨_, k, y, q1, q2, q3⟩ | ⟨q, _⟩; exact ⟨k, y, by omega, q2, q3⟩; exact absurd q c41)
        · refine pw_iload (pc2 := 46) dX10_stale_44 rfl 0 rfl ?_
          refine pw_iconst (pc2 := 47) (v := (-1)) dX10_stale_46 rfl (by decide) ?_
          refine pw_icmp_eq (tgt := 64) (pc2 := 50) dX10_stale_47 (by decide) rfl (fun c47 => by exact absurd c47 (nIne x (by omega))) (fun _ => ?_)
          refine pw_aload_n (pc2 := 51) dX10_stale_50 rfl rfl 3 rfl (by first | exact rf_ref _ | exact rf_opt _ | exact rf_nul) ?_
          refine pw_get (pc2 := 54) kX10 (k := 23) (by decide) rfl fl_X10_79 H.c60 rfl dX10_stale_51 rfl ?_
          refine pw_iload (pc2 := 56) dX10_stale_54 rfl 0 rfl ?_
          refine pw_zaldN (pc2 := 57) H.c83 (i := x) (by first | assumption | omega) (by omega) dX10_stale_56 rfl ?_
          refine pw_topE (hR.1.1 x hxn).2.2.2.2.1 ?_
          refine pw_if_eq (tgt := 64) (pc2 := 60) dX10_stale_57 (by decide) rfl (fun c57 => ?_) (fun c57 => ?_)
          · refine pw_iconst (pc2 := 65) (v := 0) dX10_stale_64 rfl (by decide) ?_
            refine pw_istore_n (pc2 := 66) (L2 := [(2, Value.int 0), (4, Value.int (nI x)), (3, Value.int (nI i)), (0, Value.ref (A 60 0)), (1, Value.int (nI r))]) dX10_stale_65 rfl rfl (by decide) rfl ?_
            refine pw_iinc (pc2 := 69) (v := nI (i + 1)) (L2 := [(3, Value.int (nI (i + 1))), (2, Value.int 0), (4, Value.int (nI x)), (0, Value.ref (A 60 0)), (1, Value.int (nI r))]) dX10_stale_66 rfl 2 rfl (by show nI _ + 1 = nI _; exact nI_1 _) (by decide) rfl ?_
            refine pw_goto (tgt := 4) dX10_stale_69 (by decide) ?_
            refine PW.sub (L2 := [(3, Value.int (nI (i + 1))), (2, Value.int 0), (0, Value.ref (A 60 0)), (1, Value.int (nI r))]) [0, 1, 3, 4] rfl ?_
            refine ih (i + 1) 0 ?_ (by omega)
            refine Or.inr ⟨rfl, ?_⟩
            rintro ⟨k, y, q1, q2, q3⟩
            have hN : ¬ skP σ r i := by rcases hac with ⟨q, _⟩ | ⟨_, q⟩; exact absurd (c41 ▸ q) (by decide); exact q
            by_cases ek : k = i
            · subst ek; rw [hos] at q2; first | (cases q2; done) | (cases q2; exact q3 c57)
            · exact hN ⟨k, y, by omega, q2, q3⟩
          · refine pw_iconst (pc2 := 61) (v := 1) dX10_stale_60 rfl (by decide) ?_
            refine pw_goto (tgt := 65) dX10_stale_61 (by decide) ?_
            refine pw_istore_n (pc2 := 66) (L2 := [(2, Value.int 1), (4, Value.int (nI x)), (3, Value.int (nI i)), (0, Value.ref (A 60 0)), (1, Value.int (nI r))]) dX10_stale_65 rfl rfl (by decide) rfl ?_
            refine pw_iinc (pc2 := 69) (v := nI (i + 1)) (L2 := [(3, Value.int (nI (i + 1))), (2, Value.int 1), (4, Value.int (nI x)), (0, Value.ref (A 60 0)), (1, Value.int (nI r))]) dX10_stale_66 rfl 2 rfl (by show nI _ + 1 = nI _; exact nI_1 _) (by decide) rfl ?_
            refine pw_goto (tgt := 4) dX10_stale_69 (by decide) ?_
            refine PW.sub (L2 := [(3, Value.int (nI (i + 1))), (2, Value.int 1), (0, Value.ref (A 60 0)), (1, Value.int (nI r))]) [0, 1, 3, 4] rfl ?_
            refine ih (i + 1) 1 ?_ (by omega)
            refine Or.inl ⟨rfl, ?_⟩
            first | exact ⟨i, x, Nat.lt_succ_self i, hos, c57⟩ | (rcases hac with ⟨_, k, y, q1, q2, q3⟩ | ⟨q, _⟩; exact ⟨k, y, by omega, q2, q3⟩; exact absurd q c41)
  refine PW.sub (L2 := [(3, Value.int 0), (2, Value.int 0), (0, Value.ref (A 60 0)), (1, Value.int (nI r))]) [0, 1, 2, 3] rfl ?_
  exact loop 6 0 0 (Or.inr ⟨rfl, fun ⟨k, x, q, _⟩ => absurd q (Nat.not_lt_zero k)⟩) (by omega)
theorem fdV_nr {σ : sT} {ofr : Nat → Nat} (hR : RR σ ofr) {p r : Nat} (hp : p < 6) {v : Int32} (h : fdV σ p v 0 (rnp σ p) = some r) : r < nrl σ := by
  obtain ⟨j, -, h2, rfl, -⟩ := fdV_s _ _ h
  exact (hR.1.ix hp (i := j) (by omega)).1
theorem fdV_of {σ : sT} {ofr : Nat → Nat} (hR : RR σ ofr) {p r : Nat} (hp : p < 6) {v : Int32} (h : fdV σ p v 0 (rnp σ p) = some r) : ofr r = p := by
  obtain ⟨j, -, h2, rfl, -⟩ := fdV_s _ _ h
  exact (hR.1.ix hp (i := j) (by omega)).2.1
set_option maxHeartbeats 4000000 in
set_option maxRecDepth 100000 in
theorem c_misStale (G : hG) (h : hp) {A : aT} {σ : sT} (H : WM G h A σ) (hb : MB σ) {ofr : Nat → Nat} (hR : RR σ ofr) (n v : Int32) : PMet G MX10_isStale 3 0 0 [.ref (A 60 0), .int n, .int v] h (fun r9 h2 => (¬ inR n (npk σ) ∧ QSM G h A (.int 0) (thS σ 1) r9 h2) ∨ (∃ p, p < npk σ ∧ n = nI p ∧ ((fdV σ p v 0 (rnp σ p) = none ∧ QSM G h A (.int 0) (thS (thS σ 0) 2) r9 h2) ∨ (∃ r, fdV σ p v 0 (rnp σ p) = some r ∧ ((stl σ r ∧ QSM G h A (.int 1) (thS (thS σ 0) 0) r9 h2) ∨ (¬ stl σ r ∧ QSM G h A (.int 0) (thS (thS σ 0) 0) r9 h2)))))) noX := by
  have hnp := H.iv.1
  have hnr := H.iv.2.2.1
  refine PMet.of (by decide +kernel) (Nat.le_of_ble_eq_true rfl) (fun d hd => ?_)
  refine PW.sub (L2 := [(0, Value.ref (A 60 0)), (1, Value.int n), (2, Value.int v)]) [0, 1, 2] rfl ?_
  refine pw_aload_n (pc2 := 1) dX10_isStale_0 rfl rfl 0 rfl (by first | exact rf_ref _ | exact rf_opt _ | exact rf_nul) ?_
  refine pw_iload_n (pc2 := 2) dX10_isStale_1 rfl rfl 1 rfl ?_
  refine pw_callV (pc2 := 5) (c_lacks G _ H hb n) cs_X10_123 rfl rfl H.c60 dX10_isStale_2 rfl (by omega) rfl (by first | decide | simp [cat_rf, Value.category]) (fun r9 h9 q9 => ?_) (fun Y h9 q9 => q9.elim)
  rcases q9 with ⟨hin, rfl, K1, FK1⟩ | ⟨hin, rfl, K1, FK1⟩
  · obtain ⟨p, hpp, rfl⟩ := inR_ex (by omega) hin
    have hp6 : p < 6 := by omega
    have c60K1 : h9 (A 60 0) = some (oB 13 [.ref (A 61 0), .ref (A 62 0), .ref (A 63 0), .ref (A 64 0), .ref (A 65 0), .ref (A 66 0), .ref (A 67 0), .ref (A 68 0), .ref (A 69 0), .ref (A 70 0), .ref (A 71 0), .ref (A 72 0), .ref (A 73 0), .ref (A 74 0), .ref (A 75 0), .ref (A 76 0), .int (σ.1 60 0 0), .ref (A 77 0), .ref (A 78 0), .ref (A 79 0), .ref (A 80 0), .ref (A 81 0), .ref (A 82 0), .ref (A 83 0), .int (σ.1 60 0 1), .ref (A 84 0), .ref (A 85 0), .ref (A 86 0), .ref (A 87 0), .ref (A 88 0), .int (σ.1 60 0 2), .int (σ.1 60 0 3), .ref (A 89 0), .int (σ.1 60 0 4), .int (σ.1 60 0 5), .int (σ.1 60 0 6), .ref (A 90 0), .int 0]) := K1.c60
    refine pw_if_eq (tgt := 10) (pc2 := 8) dX10_isStale_5 (by decide) rfl (fun _ => ?_) (fun c5 => by exact absurd (by decide) c5)
    refine pw_aload_n (pc2 := 11) dX10_isStale_10 rfl rfl 0 rfl (by first | exact rf_ref _ | exact rf_opt _ | exact rf_nul) ?_
    refine pw_iload_n (pc2 := 12) dX10_isStale_11 rfl rfl 1 rfl ?_
    refine pw_iload_n (pc2 := 13) dX10_isStale_12 rfl rfl 2 rfl ?_
    refine pw_callV1 (pc2 := 16) (c_findT G _ K1 hb hR hp6 v) cs_X10_206 rfl rfl c60K1 dX10_isStale_13 rfl (by omega) rfl (by first | decide | simp [cat_rf, Value.category]) ?_
    obtain ⟨os, hos⟩ : ∃ o, fdV σ p v 0 (rnp σ p) = o := ⟨_, rfl⟩
    cases os with
    | none =>
      refine pw_topE (show enc (fdV σ p v 0 (rnp σ p)) = -1 by rw [hos]; rfl) ?_
      refine pw_istore_n (pc2 := 17) (L2 := [(3, Value.int (-1)), (0, Value.ref (A 60 0)), (1, Value.int (nI p)), (2, Value.int v)]) dX10_isStale_16 rfl rfl (by decide) rfl ?_
      refine pw_aload_n (pc2 := 18) dX10_isStale_17 rfl rfl 1 rfl (by first | exact rf_ref _ | exact rf_opt _ | exact rf_nul) ?_
      refine pw_iload_n (pc2 := 19) dX10_isStale_18 rfl rfl 0 rfl ?_
      refine pw_iconst (pc2 := 20) (v := (-1)) dX10_isStale_19 rfl (by decide) ?_
      refine pw_icmp_ne (tgt := 27) (pc2 := 23) dX10_isStale_20 (by decide) rfl (fun c20 => by exact absurd (rfl) c20) (fun _ => ?_)
      refine pw_iconst (pc2 := 24) (v := 2) dX10_isStale_23 rfl (by decide) ?_
      refine pw_goto (tgt := 28) dX10_isStale_24 (by decide) ?_
      refine pw_put (pc2 := 31) kX10 (k := 37) (by decide) rfl rfl fl_X10_109 c60K1 (by first | decide | simp) (by first | rfl | exact nar_rf _ _) (by first | rfl | exact fit_rf _ _) dX10_isStale_28 rfl ?_
      obtain ⟨K2, FK2⟩ := K1.wIF (FK1) (t := 60) (i := 0) (f := (upd (upd (σ.1 60 0) 7 0) 7 2)) rfl (by decide) (iv_setI K1.iv (by decide)) rfl
      obtain ⟨h7, eh7⟩ : ∃ z : Nat → Option hE, z = va_up h9 (A 60 0) (some (oB 13 [.ref (A 61 0), .ref (A 62 0), .ref (A 63 0), .ref (A 64 0), .ref (A 65 0), .ref (A 66 0), .ref (A 67 0), .ref (A 68 0), .ref (A 69 0), .ref (A 70 0), .ref (A 71 0), .ref (A 72 0), .ref (A 73 0), .ref (A 74 0), .ref (A 75 0), .ref (A 76 0), .int (σ.1 60 0 0), .ref (A 77 0), .ref (A 78 0), .ref (A 79 0), .ref (A 80 0), .ref (A 81 0), .ref (A 82 0), .ref (A 83 0), .int (σ.1 60 0 1), .ref (A 84 0), .ref (A 85 0), .ref (A 86 0), .ref (A 87 0), .ref (A 88 0), .int (σ.1 60 0 2), .int (σ.1 60 0 3), .ref (A 89 0), .int (σ.1 60 0 4), .int (σ.1 60 0 5), .int (σ.1 60 0 6), .ref (A 90 0), .int 2])) := ⟨_, rfl⟩
      refine PW.heap (h' := h7) eh7.symm ?_
      replace K2 : WM G h7 A (setI (thS σ 0) 60 0 (upd (upd (σ.1 60 0) 7 0) 7 2)) := by rw [eh7]; exact K2
      replace FK2 : FM A h h7 := by rw [eh7]; exact FK2
      have c60K2b : h7 (A 60 0) = some (oB 13 [.ref (A 61 0), .ref (A 62 0), .ref (A 63 0), .ref (A 64 0), .ref (A 65 0), .ref (A 66 0), .ref (A 67 0), .ref (A 68 0), .ref (A 69 0), .ref (A 70 0), .ref (A 71 0), .ref (A 72 0), .ref (A 73 0), .ref (A 74 0), .ref (A 75 0), .ref (A 76 0), .int (σ.1 60 0 0), .ref (A 77 0), .ref (A 78 0), .ref (A 79 0), .ref (A 80 0), .ref (A 81 0), .ref (A 82 0), .ref (A 83 0), .int (σ.1 60 0 1), .ref (A 84 0), .ref (A 85 0), .ref (A 86 0), .ref (A 87 0), .ref (A 88 0), .int (σ.1 60 0 2), .int (σ.1 60 0 3), .ref (A 89 0), .int (σ.1 60 0 4), .int (σ.1 60 0 5), .int (σ.1 60 0 6), .ref (A 90 0), .int 2]) := K2.c60
      refine pw_aload_n (pc2 := 32) dX10_isStale_31 rfl rfl 1 rfl (by first | exact rf_ref _ | exact rf_opt _ | exact rf_nul) ?_
      refine pw_get (pc2 := 35) kX10 (k := 37) (by decide) rfl fl_X10_109 c60K2b rfl dX10_isStale_32 rfl ?_
      refine pw_if_ne (tgt := 50) (pc2 := 38) dX10_isStale_35 (by decide) rfl (fun _ => ?_) (fun c35 => by exact absurd c35 (by decide))
      refine pw_iconst (pc2 := 51) (v := 0) dX10_isStale_50 rfl (by decide) ?_
      refine pw_iret dX10_isStale_51 rfl (by first | rfl | assumption | simp [narrow]) ?_
      exact Or.inr ⟨p, hpp, rfl, Or.inl ⟨hos, rfl, K2, FK2⟩⟩
    | some r =>
      refine pw_topE (show enc (fdV σ p v 0 (rnp σ p)) = nI r by rw [hos]; rfl) ?_
      have hr : r < nrl σ := fdV_nr hR (by omega) hos
      have hr20 : r < 20 := by omega
      refine pw_istore_n (pc2 := 17) (L2 := [(3, Value.int (nI r)), (0, Value.ref (A 60 0)), (1, Value.int (nI p)), (2, Value.int v)]) dX10_isStale_16 rfl rfl (by decide) rfl ?_
      refine pw_aload_n (pc2 := 18) dX10_isStale_17 rfl rfl 1 rfl (by first | exact rf_ref _ | exact rf_opt _ | exact rf_nul) ?_
      refine pw_iload_n (pc2 := 19) dX10_isStale_18 rfl rfl 0 rfl ?_
      refine pw_iconst (pc2 := 20) (v := (-1)) dX10_isStale_19 rfl (by decide) ?_
      refine pw_icmp_ne (tgt := 27) (pc2 := 23) dX10_isStale_20 (by decide) rfl (fun _ => ?_) (fun c20 => by exact absurd c20 (nIne r (by omega)))
      refine pw_iconst (pc2 := 28) (v := 0) dX10_isStale_27 rfl (by decide) ?_
      refine pw_put (pc2 := 31) kX10 (k := 37) (by decide) rfl rfl fl_X10_109 c60K1 (by first | decide | simp) (by first | rfl | exact nar_rf _ _) (by first | rfl | exact fit_rf _ _) dX10_isStale_28 rfl ?_
      obtain ⟨K2, FK2⟩ := K1.wIF (FK1) (t := 60) (i := 0) (f := (upd (upd (σ.1 60 0) 7 0) 7 0)) rfl (by decide) (iv_setI K1.iv (by decide)) rfl
      obtain ⟨h7, eh7⟩ : ∃ z : Nat → Option hE, z = va_up h9 (A 60 0) (some (oB 13 [.ref (A 61 0), .ref (A 62 0), .ref (A 63 0), .ref (A 64 0), .ref (A 65 0), .ref (A 66 0), .ref (A 67 0), .ref (A 68 0), .ref (A 69 0), .ref (A 70 0), .ref (A 71 0), .ref (A 72 0), .ref (A 73 0), .ref (A 74 0), .ref (A 75 0), .ref (A 76 0), .int (σ.1 60 0 0), .ref (A 77 0), .ref (A 78 0), .ref (A 79 0), .ref (A 80 0), .ref (A 81 0), .ref (A 82 0), .ref (A 83 0), .int (σ.1 60 0 1), .ref (A 84 0), .ref (A 85 0), .ref (A 86 0), .ref (A 87 0), .ref (A 88 0), .int (σ.1 60 0 2), .int (σ.1 60 0 3), .ref (A 89 0), .int (σ.1 60 0 4), .int (σ.1 60 0 5), .int (σ.1 60 0 6), .ref (A 90 0), .int 0])) := ⟨_, rfl⟩
      refine PW.heap (h' := h7) eh7.symm ?_
      replace K2 : WM G h7 A (setI (thS σ 0) 60 0 (upd (upd (σ.1 60 0) 7 0) 7 0)) := by rw [eh7]; exact K2
      replace FK2 : FM A h h7 := by rw [eh7]; exact FK2
      have c60K2b : h7 (A 60 0) = some (oB 13 [.ref (A 61 0), .ref (A 62 0), .ref (A 63 0), .ref (A 64 0), .ref (A 65 0), .ref (A 66 0), .ref (A 67 0), .ref (A 68 0), .ref (A 69 0), .ref (A 70 0), .ref (A 71 0), .ref (A 72 0), .ref (A 73 0), .ref (A 74 0), .ref (A 75 0), .ref (A 76 0), .int (σ.1 60 0 0), .ref (A 77 0), .ref (A 78 0), .ref (A 79 0), .ref (A 80 0), .ref (A 81 0), .ref (A 82 0), .ref (A 83 0), .int (σ.1 60 0 1), .ref (A 84 0), .ref (A 85 0), .ref (A 86 0), .ref (A 87 0), .ref (A 88 0), .int (σ.1 60 0 2), .int (σ.1 60 0 3), .ref (A 89 0), .int (σ.1 60 0 4), .int (σ.1 60 0 5), .int (σ.1 60 0 6), .ref (A 90 0), .int 0]) := K2.c60
      refine pw_aload_n (pc2 := 32) dX10_isStale_31 rfl rfl 1 rfl (by first | exact rf_ref _ | exact rf_opt _ | exact rf_nul) ?_
      refine pw_get (pc2 := 35) kX10 (k := 37) (by decide) rfl fl_X10_109 c60K2b rfl dX10_isStale_32 rfl ?_
      refine pw_if_ne (tgt := 50) (pc2 := 38) dX10_isStale_35 (by decide) rfl (fun c35 => by exact absurd (by decide) c35) (fun _ => ?_)
      refine pw_aload_n (pc2 := 39) dX10_isStale_38 rfl rfl 1 rfl (by first | exact rf_ref _ | exact rf_opt _ | exact rf_nul) ?_
      refine pw_iload_n (pc2 := 40) dX10_isStale_39 rfl rfl 0 rfl ?_
      refine pw_callVb (pc2 := 43) (c_stale G _ K2 hb hR hr) cs_X10_209 rfl rfl c60K2b dX10_isStale_40 rfl (by omega) rfl (by first | decide | simp [cat_rf, Value.category]) (fun q40 => ?_) (fun q40 => ?_)
      · refine pw_if_eq (tgt := 50) (pc2 := 46) dX10_isStale_43 (by decide) rfl (fun c43 => by exact absurd c43 (by decide)) (fun _ => ?_)
        refine pw_iconst (pc2 := 47) (v := 1) dX10_isStale_46 rfl (by decide) ?_
        refine pw_goto (tgt := 51) dX10_isStale_47 (by decide) ?_
        refine pw_iret dX10_isStale_51 rfl (by first | rfl | assumption | simp [narrow]) ?_
        exact Or.inr ⟨p, hpp, rfl, Or.inr ⟨r, hos, Or.inl ⟨q40, rfl, K2, FK2⟩⟩⟩
      · refine pw_if_eq (tgt := 50) (pc2 := 46) dX10_isStale_43 (by decide) rfl (fun _ => ?_) (fun c43 => by exact absurd (by decide) c43)
        refine pw_iconst (pc2 := 51) (v := 0) dX10_isStale_50 rfl (by decide) ?_
        refine pw_iret dX10_isStale_51 rfl (by first | rfl | assumption | simp [narrow]) ?_
        exact Or.inr ⟨p, hpp, rfl, Or.inr ⟨r, hos, Or.inr ⟨q40, rfl, K2, FK2⟩⟩⟩
  · refine pw_if_eq (tgt := 10) (pc2 := 8) dX10_isStale_5 (by decide) rfl (fun c5 => by exact absurd c5 (by decide)) (fun _ => ?_)
    refine pw_iconst (pc2 := 9) (v := 0) dX10_isStale_8 rfl (by decide) ?_
    refine pw_iret dX10_isStale_9 rfl (by first | rfl | assumption | simp [narrow]) ?_
    exact Or.inl ⟨hin, rfl, K1, FK1⟩
set_option maxHeartbeats 4000000 in
set_option maxRecDepth 100000 in
theorem c_mlocked (G : hG) (h : hp) {A : aT} {σ : sT} (H : WM G h A σ) (hb : MB σ) {ofr : Nat → Nat} (hR : RR σ ofr) (n v o : Int32) : PMet G MX10_locked 2 0 0 [.ref (A 60 0), .int n, .int v, .int o] h (fun r9 h2 => (¬ (inR n (npk σ) ∧ inR o (npk σ)) ∧ QSM G h A (.int 0) (thS σ 1) r9 h2) ∨ (∃ p q, p < npk σ ∧ q < npk σ ∧ n = nI p ∧ o = nI q ∧ ((fdV σ p v 0 (rnp σ p) = none ∧ QSM G h A (.int 0) (thS σ 2) r9 h2) ∨ (∃ r, fdV σ p v 0 (rnp σ p) = some r ∧ QSM G h A (.int (vG σ (σ.2.2 45 r q))) (thS σ 0) r9 h2)))) noX := by
  have hnp := H.iv.1
  have hnr := H.iv.2.2.1
  refine PMet.of (by decide +kernel) (Nat.le_of_ble_eq_true rfl) (fun d hd => ?_)
  refine PW.sub (L2 := [(0, Value.ref (A 60 0)), (1, Value.int n), (2, Value.int v), (3, Value.int o)]) [0, 1, 2, 3] rfl ?_
  refine pw_aload_n (pc2 := 1) dX10_locked_0 rfl rfl 0 rfl (by first | exact rf_ref _ | exact rf_opt _ | exact rf_nul) ?_
  refine pw_aload_n (pc2 := 2) dX10_locked_1 rfl rfl 0 rfl (by first | exact rf_ref _ | exact rf_opt _ | exact rf_nul) ?_
  refine pw_iload_n (pc2 := 3) dX10_locked_2 rfl rfl 1 rfl ?_
  refine pw_callVb (pc2 := 6) (c_mispk G _ H hb n) cs_X10_119 rfl rfl H.c60 dX10_locked_3 rfl (by omega) rfl (by first | decide | simp [cat_rf, Value.category]) (fun q3 => ?_) (fun q3 => ?_)
  · refine pw_if_eq (tgt := 17) (pc2 := 9) dX10_locked_6 (by decide) rfl (fun c6 => by exact absurd c6 (by decide)) (fun _ => ?_)
    refine pw_aload_n (pc2 := 10) dX10_locked_9 rfl rfl 0 rfl (by first | exact rf_ref _ | exact rf_opt _ | exact rf_nul) ?_
    refine pw_iload_n (pc2 := 11) dX10_locked_10 rfl rfl 3 rfl ?_
    refine pw_callVb (pc2 := 14) (c_mispk G _ H hb o) cs_X10_119 rfl rfl H.c60 dX10_locked_11 rfl (by omega) rfl (by first | decide | simp [cat_rf, Value.category]) (fun q11 => ?_) (fun q11 => ?_)
    · refine pw_if_ne (tgt := 21) (pc2 := 17) dX10_locked_14 (by decide) rfl (fun _ => ?_) (fun c14 => by exact absurd c14 (by decide))
      obtain ⟨p, hpp, rfl⟩ := inR_ex (by omega) q3
      obtain ⟨q, hqq, rfl⟩ := inR_ex (by omega) q11
      have hp6 : p < 6 := by omega
      have hq6 : q < 6 := by omega
      refine pw_aload_n (pc2 := 22) dX10_locked_21 rfl rfl 0 rfl (by first | exact rf_ref _ | exact rf_opt _ | exact rf_nul) ?_
      refine pw_iload_n (pc2 := 23) dX10_locked_22 rfl rfl 1 rfl ?_
      refine pw_iload_n (pc2 := 24) dX10_locked_23 rfl rfl 2 rfl ?_
      refine pw_callV1 (pc2 := 27) (c_find G _ H hb hR hp6 v) cs_X10_206 rfl rfl H.c60 dX10_locked_24 rfl (by omega) rfl (by first | decide | simp [cat_rf, Value.category]) ?_
      obtain ⟨os, hos⟩ : ∃ o, fdV σ p v 0 (rnp σ p) = o := ⟨_, rfl⟩
      cases os with
      | none =>
        refine pw_topE (show enc (fdV σ p v 0 (rnp σ p)) = -1 by rw [hos]; rfl) ?_
        refine pw_iconst (pc2 := 28) (v := (-1)) dX10_locked_27 rfl (by decide) ?_
        refine pw_icmp_ne (tgt := 35) (pc2 := 31) dX10_locked_28 (by decide) rfl (fun c28 => by exact absurd (rfl) c28) (fun _ => ?_)
        refine pw_iconst (pc2 := 32) (v := 2) dX10_locked_31 rfl (by decide) ?_
        refine pw_goto (tgt := 36) dX10_locked_32 (by decide) ?_
        refine pw_put (pc2 := 39) kX10 (k := 37) (by decide) rfl rfl fl_X10_109 H.c60 (by first | decide | simp) (by first | rfl | exact nar_rf _ _) (by first | rfl | exact fit_rf _ _) dX10_locked_36 rfl ?_
        obtain ⟨K1, FK1⟩ := H.wIF (FM.rfl') (t := 60) (i := 0) (f := (upd (σ.1 60 0) 7 2)) rfl (by decide) (iv_setI H.iv (by decide)) rfl
        obtain ⟨h2, eh2⟩ : ∃ z : Nat → Option hE, z = va_up h (A 60 0) (some (oB 13 [.ref (A 61 0), .ref (A 62 0), .ref (A 63 0), .ref (A 64 0), .ref (A 65 0), .ref (A 66 0), .ref (A 67 0), .ref (A 68 0), .ref (A 69 0), .ref (A 70 0), .ref (A 71 0), .ref (A 72 0), .ref (A 73 0), .ref (A 74 0), .ref (A 75 0), .ref (A 76 0), .int (σ.1 60 0 0), .ref (A 77 0), .ref (A 78 0), .ref (A 79 0), .ref (A 80 0), .ref (A 81 0), .ref (A 82 0), .ref (A 83 0), .int (σ.1 60 0 1), .ref (A 84 0), .ref (A 85 0), .ref (A 86 0), .ref (A 87 0), .ref (A 88 0), .int (σ.1 60 0 2), .int (σ.1 60 0 3), .ref (A 89 0), .int (σ.1 60 0 4), .int (σ.1 60 0 5), .int (σ.1 60 0 6), .ref (A 90 0), .int 2])) := ⟨_, rfl⟩
        refine PW.heap (h' := h2) eh2.symm ?_
        replace K1 : WM G h2 A (thS σ 2) := by rw [eh2]; exact K1
        replace FK1 : FM A h h2 := by rw [eh2]; exact FK1
        have c60K1 : h2 (A 60 0) = some (oB 13 [.ref (A 61 0), .ref (A 62 0), .ref (A 63 0), .ref (A 64 0), .ref (A 65 0), .ref (A 66 0), .ref (A 67 0), .ref (A 68 0), .ref (A 69 0), .ref (A 70 0), .ref (A 71 0), .ref (A 72 0), .ref (A 73 0), .ref (A 74 0), .ref (A 75 0), .ref (A 76 0), .int (σ.1 60 0 0), .ref (A 77 0), .ref (A 78 0), .ref (A 79 0), .ref (A 80 0), .ref (A 81 0), .ref (A 82 0), .ref (A 83 0), .int (σ.1 60 0 1), .ref (A 84 0), .ref (A 85 0), .ref (A 86 0), .ref (A 87 0), .ref (A 88 0), .int (σ.1 60 0 2), .int (σ.1 60 0 3), .ref (A 89 0), .int (σ.1 60 0 4), .int (σ.1 60 0 5), .int (σ.1 60 0 6), .ref (A 90 0), .int 2]) := K1.c60
        refine pw_aload_n (pc2 := 40) dX10_locked_39 rfl rfl 0 rfl (by first | exact rf_ref _ | exact rf_opt _ | exact rf_nul) ?_
        refine pw_get (pc2 := 43) kX10 (k := 37) (by decide) rfl fl_X10_109 c60K1 rfl dX10_locked_40 rfl ?_
        refine pw_if_le (tgt := 50) (pc2 := 46) dX10_locked_43 (by decide) rfl (fun c43 => by exact absurd c43 (by decide)) (fun _ => ?_)
        refine pw_iconst (pc2 := 47) (v := 0) dX10_locked_46 rfl (by decide) ?_
        refine pw_goto (tgt := 63) dX10_locked_47 (by decide) ?_
        refine pw_iret dX10_locked_63 rfl (by first | rfl | assumption | simp [narrow]) ?_
        exact Or.inr ⟨p, q, hpp, hqq, rfl, rfl, Or.inl ⟨hos, rfl, K1, FK1⟩⟩
      | some r =>
        refine pw_topE (show enc (fdV σ p v 0 (rnp σ p)) = nI r by rw [hos]; rfl) ?_
        have hr : r < nrl σ := fdV_nr hR (by omega) hos
        have hr20 : r < 20 := by omega
        refine pw_iconst (pc2 := 28) (v := (-1)) dX10_locked_27 rfl (by decide) ?_
        refine pw_icmp_ne (tgt := 35) (pc2 := 31) dX10_locked_28 (by decide) rfl (fun _ => ?_) (fun c28 => by exact absurd c28 (nIne r (by omega)))
        refine pw_iconst (pc2 := 36) (v := 0) dX10_locked_35 rfl (by decide) ?_
        refine pw_put (pc2 := 39) kX10 (k := 37) (by decide) rfl rfl fl_X10_109 H.c60 (by first | decide | simp) (by first | rfl | exact nar_rf _ _) (by first | rfl | exact fit_rf _ _) dX10_locked_36 rfl ?_
        obtain ⟨K1, FK1⟩ := H.wIF (FM.rfl') (t := 60) (i := 0) (f := (upd (σ.1 60 0) 7 0)) rfl (by decide) (iv_setI H.iv (by decide)) rfl
        obtain ⟨h2, eh2⟩ : ∃ z : Nat → Option hE, z = va_up h (A 60 0) (some (oB 13 [.ref (A 61 0), .ref (A 62 0), .ref (A 63 0), .ref (A 64 0), .ref (A 65 0), .ref (A 66 0), .ref (A 67 0), .ref (A 68 0), .ref (A 69 0), .ref (A 70 0), .ref (A 71 0), .ref (A 72 0), .ref (A 73 0), .ref (A 74 0), .ref (A 75 0), .ref (A 76 0), .int (σ.1 60 0 0), .ref (A 77 0), .ref (A 78 0), .ref (A 79 0), .ref (A 80 0), .ref (A 81 0), .ref (A 82 0), .ref (A 83 0), .int (σ.1 60 0 1), .ref (A 84 0), .ref (A 85 0), .ref (A 86 0), .ref (A 87 0), .ref (A 88 0), .int (σ.1 60 0 2), .int (σ.1 60 0 3), .ref (A 89 0), .int (σ.1 60 0 4), .int (σ.1 60 0 5), .int (σ.1 60 0 6), .ref (A 90 0), .int 0])) := ⟨_, rfl⟩
        refine PW.heap (h' := h2) eh2.symm ?_
        replace K1 : WM G h2 A (thS σ 0) := by rw [eh2]; exact K1
        replace FK1 : FM A h h2 := by rw [eh2]; exact FK1
        have c60K1 : h2 (A 60 0) = some (oB 13 [.ref (A 61 0), .ref (A 62 0), .ref (A 63 0), .ref (A 64 0), .ref (A 65 0), .ref (A 66 0), .ref (A 67 0), .ref (A 68 0), .ref (A 69 0), .ref (A 70 0), .ref (A 71 0), .ref (A 72 0), .ref (A 73 0), .ref (A 74 0), .ref (A 75 0), .ref (A 76 0), .int (σ.1 60 0 0), .ref (A 77 0), .ref (A 78 0), .ref (A 79 0), .ref (A 80 0), .ref (A 81 0), .ref (A 82 0), .ref (A 83 0), .int (σ.1 60 0 1), .ref (A 84 0), .ref (A 85 0), .ref (A 86 0), .ref (A 87 0), .ref (A 88 0), .int (σ.1 60 0 2), .int (σ.1 60 0 3), .ref (A 89 0), .int (σ.1 60 0 4), .int (σ.1 60 0 5), .int (σ.1 60 0 6), .ref (A 90 0), .int 0]) := K1.c60
        have k99rK1 : h2 (A 99 r) = some (aI 6 (σ.1 99 r)) := (K1.c99 hr20)
        refine pw_aload_n (pc2 := 40) dX10_locked_39 rfl rfl 0 rfl (by first | exact rf_ref _ | exact rf_opt _ | exact rf_nul) ?_
        refine pw_get (pc2 := 43) kX10 (k := 37) (by decide) rfl fl_X10_109 c60K1 rfl dX10_locked_40 rfl ?_
        refine pw_if_le (tgt := 50) (pc2 := 46) dX10_locked_43 (by decide) rfl (fun _ => ?_) (fun c43 => by exact absurd (by decide) c43)
        refine pw_aload_n (pc2 := 51) dX10_locked_50 rfl rfl 0 rfl (by first | exact rf_ref _ | exact rf_opt _ | exact rf_nul) ?_
        refine pw_get (pc2 := 54) kX10 (k := 22) (by decide) rfl fl_X10_76 c60K1 rfl dX10_locked_51 rfl ?_
        refine pw_aload_n (pc2 := 55) dX10_locked_54 rfl rfl 0 rfl (by first | exact rf_ref _ | exact rf_opt _ | exact rf_nul) ?_
        refine pw_iload_n (pc2 := 56) dX10_locked_55 rfl rfl 1 rfl ?_
        refine pw_iload_n (pc2 := 57) dX10_locked_56 rfl rfl 2 rfl ?_
        refine pw_callV1 (pc2 := 60) (c_findT G _ K1 hb hR hp6 v) cs_X10_206 rfl rfl c60K1 dX10_locked_57 rfl (by omega) rfl (by first | decide | simp [cat_rf, Value.category]) ?_
        refine pw_topE (show enc (fdV σ p v 0 (rnp σ p)) = nI r by rw [hos]; rfl) ?_
        refine pw_aaldN (pc2 := 61) 6 rfl rfl K1.c82 (i := r) (by first | assumption | omega) (by omega) dX10_locked_60 rfl ?_
        refine pw_topV (rowv (by first | assumption | omega)) ?_
        refine pw_iload_n (pc2 := 62) dX10_locked_61 rfl rfl 3 rfl ?_
        refine pw_ialdN (pc2 := 63) k99rK1 (i := q) (by first | assumption | omega) (by omega) dX10_locked_62 rfl ?_
        refine pw_iret dX10_locked_63 rfl (by first | rfl | assumption | simp [narrow]) ?_
        exact Or.inr ⟨p, q, hpp, hqq, rfl, rfl, Or.inr ⟨r, hos, by rw [((hR.2.1 r hr).1 q hq6).1], K1, FK1⟩⟩
    · refine pw_if_ne (tgt := 21) (pc2 := 17) dX10_locked_14 (by decide) rfl (fun c14 => by exact absurd (by decide) c14) (fun _ => ?_)
      refine pw_iconst (pc2 := 18) (v := 1) dX10_locked_17 rfl (by decide) ?_
      refine pw_goto (tgt := 36) dX10_locked_18 (by decide) ?_
      refine pw_put (pc2 := 39) kX10 (k := 37) (by decide) rfl rfl fl_X10_109 H.c60 (by first | decide | simp) (by first | rfl | exact nar_rf _ _) (by first | rfl | exact fit_rf _ _) dX10_locked_36 rfl ?_
      obtain ⟨K1, FK1⟩ := H.wIF (FM.rfl') (t := 60) (i := 0) (f := (upd (σ.1 60 0) 7 1)) rfl (by decide) (iv_setI H.iv (by decide)) rfl
      obtain ⟨h2, eh2⟩ : ∃ z : Nat → Option hE, z = va_up h (A 60 0) (some (oB 13 [.ref (A 61 0), .ref (A 62 0), .ref (A 63 0), .ref (A 64 0), .ref (A 65 0), .ref (A 66 0), .ref (A 67 0), .ref (A 68 0), .ref (A 69 0), .ref (A 70 0), .ref (A 71 0), .ref (A 72 0), .ref (A 73 0), .ref (A 74 0), .ref (A 75 0), .ref (A 76 0), .int (σ.1 60 0 0), .ref (A 77 0), .ref (A 78 0), .ref (A 79 0), .ref (A 80 0), .ref (A 81 0), .ref (A 82 0), .ref (A 83 0), .int (σ.1 60 0 1), .ref (A 84 0), .ref (A 85 0), .ref (A 86 0), .ref (A 87 0), .ref (A 88 0), .int (σ.1 60 0 2), .int (σ.1 60 0 3), .ref (A 89 0), .int (σ.1 60 0 4), .int (σ.1 60 0 5), .int (σ.1 60 0 6), .ref (A 90 0), .int 1])) := ⟨_, rfl⟩
      refine PW.heap (h' := h2) eh2.symm ?_
      replace K1 : WM G h2 A (thS σ 1) := by rw [eh2]; exact K1
      replace FK1 : FM A h h2 := by rw [eh2]; exact FK1
      have c60K1 : h2 (A 60 0) = some (oB 13 [.ref (A 61 0), .ref (A 62 0), .ref (A 63 0), .ref (A 64 0), .ref (A 65 0), .ref (A 66 0), .ref (A 67 0), .ref (A 68 0), .ref (A 69 0), .ref (A 70 0), .ref (A 71 0), .ref (A 72 0), .ref (A 73 0), .ref (A 74 0), .ref (A 75 0), .ref (A 76 0), .int (σ.1 60 0 0), .ref (A 77 0), .ref (A 78 0), .ref (A 79 0), .ref (A 80 0), .ref (A 81 0), .ref (A 82 0), .ref (A 83 0), .int (σ.1 60 0 1), .ref (A 84 0), .ref (A 85 0), .ref (A 86 0), .ref (A 87 0), .ref (A 88 0), .int (σ.1 60 0 2), .int (σ.1 60 0 3), .ref (A 89 0), .int (σ.1 60 0 4), .int (σ.1 60 0 5), .int (σ.1 60 0 6), .ref (A 90 0), .int 1]) := K1.c60
      refine pw_aload_n (pc2 := 40) dX10_locked_39 rfl rfl 0 rfl (by first | exact rf_ref _ | exact rf_opt _ | exact rf_nul) ?_
      refine pw_get (pc2 := 43) kX10 (k := 37) (by decide) rfl fl_X10_109 c60K1 rfl dX10_locked_40 rfl ?_
      refine pw_if_le (tgt := 50) (pc2 := 46) dX10_locked_43 (by decide) rfl (fun c43 => by exact absurd c43 (by decide)) (fun _ => ?_)
      refine pw_iconst (pc2 := 47) (v := 0) dX10_locked_46 rfl (by decide) ?_
      refine pw_goto (tgt := 63) dX10_locked_47 (by decide) ?_
      refine pw_iret dX10_locked_63 rfl (by first | rfl | assumption | simp [narrow]) ?_
      exact Or.inl ⟨by first | exact fun z => q3 z.1 | exact fun z => q11 z.2, rfl, K1, FK1⟩
  · refine pw_if_eq (tgt := 17) (pc2 := 9) dX10_locked_6 (by decide) rfl (fun _ => ?_) (fun c6 => by exact absurd (by decide) c6)
    refine pw_iconst (pc2 := 18) (v := 1) dX10_locked_17 rfl (by decide) ?_
    refine pw_goto (tgt := 36) dX10_locked_18 (by decide) ?_
    refine pw_put (pc2 := 39) kX10 (k := 37) (by decide) rfl rfl fl_X10_109 H.c60 (by first | decide | simp) (by first | rfl | exact nar_rf _ _) (by first | rfl | exact fit_rf _ _) dX10_locked_36 rfl ?_
    obtain ⟨K1, FK1⟩ := H.wIF (FM.rfl') (t := 60) (i := 0) (f := (upd (σ.1 60 0) 7 1)) rfl (by decide) (iv_setI H.iv (by decide)) rfl
    obtain ⟨h2, eh2⟩ : ∃ z : Nat → Option hE, z = va_up h (A 60 0) (some (oB 13 [.ref (A 61 0), .ref (A 62 0), .ref (A 63 0), .ref (A 64 0), .ref (A 65 0), .ref (A 66 0), .ref (A 67 0), .ref (A 68 0), .ref (A 69 0), .ref (A 70 0), .ref (A 71 0), .ref (A 72 0), .ref (A 73 0), .ref (A 74 0), .ref (A 75 0), .ref (A 76 0), .int (σ.1 60 0 0), .ref (A 77 0), .ref (A 78 0), .ref (A 79 0), .ref (A 80 0), .ref (A 81 0), .ref (A 82 0), .ref (A 83 0), .int (σ.1 60 0 1), .ref (A 84 0), .ref (A 85 0), .ref (A 86 0), .ref (A 87 0), .ref (A 88 0), .int (σ.1 60 0 2), .int (σ.1 60 0 3), .ref (A 89 0), .int (σ.1 60 0 4), .int (σ.1 60 0 5), .int (σ.1 60 0 6), .ref (A 90 0), .int 1])) := ⟨_, rfl⟩
    refine PW.heap (h' := h2) eh2.symm ?_
    replace K1 : WM G h2 A (thS σ 1) := by rw [eh2]; exact K1
    replace FK1 : FM A h h2 := by rw [eh2]; exact FK1
    have c60K1 : h2 (A 60 0) = some (oB 13 [.ref (A 61 0), .ref (A 62 0), .ref (A 63 0), .ref (A 64 0), .ref (A 65 0), .ref (A 66 0), .ref (A 67 0), .ref (A 68 0), .ref (A 69 0), .ref (A 70 0), .ref (A 71 0), .ref (A 72 0), .ref (A 73 0), .ref (A 74 0), .ref (A 75 0), .ref (A 76 0), .int (σ.1 60 0 0), .ref (A 77 0), .ref (A 78 0), .ref (A 79 0), .ref (A 80 0), .ref (A 81 0), .ref (A 82 0), .ref (A 83 0), .int (σ.1 60 0 1), .ref (A 84 0), .ref (A 85 0), .ref (A 86 0), .ref (A 87 0), .ref (A 88 0), .int (σ.1 60 0 2), .int (σ.1 60 0 3), .ref (A 89 0), .int (σ.1 60 0 4), .int (σ.1 60 0 5), .int (σ.1 60 0 6), .ref (A 90 0), .int 1]) := K1.c60
    refine pw_aload_n (pc2 := 40) dX10_locked_39 rfl rfl 0 rfl (by first | exact rf_ref _ | exact rf_opt _ | exact rf_nul) ?_
    refine pw_get (pc2 := 43) kX10 (k := 37) (by decide) rfl fl_X10_109 c60K1 rfl dX10_locked_40 rfl ?_
    refine pw_if_le (tgt := 50) (pc2 := 46) dX10_locked_43 (by decide) rfl (fun c43 => by exact absurd c43 (by decide)) (fun _ => ?_)
    refine pw_iconst (pc2 := 47) (v := 0) dX10_locked_46 rfl (by decide) ?_
    refine pw_goto (tgt := 63) dX10_locked_47 (by decide) ?_
    refine pw_iret dX10_locked_63 rfl (by first | rfl | assumption | simp [narrow]) ?_
    exact Or.inl ⟨by first | exact fun z => q3 z.1 | exact fun z => q11 z.2, rfl, K1, FK1⟩
set_option maxHeartbeats 4000000 in
set_option maxRecDepth 100000 in
theorem c_mgood (G : hG) (h : hp) {A : aT} {σ : sT} (H : WM G h A σ) (hb : MB σ) {ofr : Nat → Nat} (hR : RR σ ofr) : PMet G MX10_goodShare 3 0 0 [.ref (A 60 0)] h (fun r h2 => (nrl σ = 0 ∧ ∃ x, QSM G h A (.float x) (thS σ 1) r h2) ∨ (¬ nrl σ = 0 ∧ QSM G h A (.float (FP.fdiv (FP.i2f (gdN σ (nrl σ))) (FP.i2f (nI (nrl σ))))) (thS σ 0) r h2)) noX := by
  have hnr := H.iv.2.2.1
  refine PMet.of (by decide +kernel) (Nat.le_of_ble_eq_true rfl) (fun d hd => ?_)
  refine PW.sub (L2 := [(0, Value.ref (A 60 0))]) [0] rfl ?_
  refine pw_aload_n (pc2 := 1) dX10_goodShare_0 rfl rfl 0 rfl (by first | exact rf_ref _ | exact rf_opt _ | exact rf_nul) ?_
  refine pw_aload_n (pc2 := 2) dX10_goodShare_1 rfl rfl 0 rfl (by first | exact rf_ref _ | exact rf_opt _ | exact rf_nul) ?_
  refine pw_get (pc2 := 5) kX10 (k := 24) (by decide) rfl fl_X10_146 H.c60 rfl dX10_goodShare_2 rfl ?_
  refine pw_topE hb.2.1 ?_
  refine pw_if_ne (tgt := 12) (pc2 := 8) dX10_goodShare_5 (by decide) rfl (fun c5 => ?_) (fun c5 => ?_)
  · have q4 : ¬ nrl σ = 0 := fun z => c5 (by rw [z]; rfl)
    refine pw_iconst (pc2 := 13) (v := 0) dX10_goodShare_12 rfl (by decide) ?_
    refine pw_put (pc2 := 16) kX10 (k := 37) (by decide) rfl rfl fl_X10_109 H.c60 (by first | decide | simp) (by first | rfl | exact nar_rf _ _) (by first | rfl | exact fit_rf _ _) dX10_goodShare_13 rfl ?_
    obtain ⟨K1, FK1⟩ := H.wIF (FM.rfl') (t := 60) (i := 0) (f := (upd (σ.1 60 0) 7 0)) rfl (by decide) (iv_setI H.iv (by decide)) rfl
    obtain ⟨h2, eh2⟩ : ∃ z : Nat → Option hE, z = va_up h (A 60 0) (some (oB 13 [.ref (A 61 0), .ref (A 62 0), .ref (A 63 0), .ref (A 64 0), .ref (A 65 0), .ref (A 66 0), .ref (A 67 0), .ref (A 68 0), .ref (A 69 0), .ref (A 70 0), .ref (A 71 0), .ref (A 72 0), .ref (A 73 0), .ref (A 74 0), .ref (A 75 0), .ref (A 76 0), .int (σ.1 60 0 0), .ref (A 77 0), .ref (A 78 0), .ref (A 79 0), .ref (A 80 0), .ref (A 81 0), .ref (A 82 0), .ref (A 83 0), .int (σ.1 60 0 1), .ref (A 84 0), .ref (A 85 0), .ref (A 86 0), .ref (A 87 0), .ref (A 88 0), .int (σ.1 60 0 2), .int (σ.1 60 0 3), .ref (A 89 0), .int (σ.1 60 0 4), .int (σ.1 60 0 5), .int (σ.1 60 0 6), .ref (A 90 0), .int 0])) := ⟨_, rfl⟩
    refine PW.heap (h' := h2) eh2.symm ?_
    replace K1 : WM G h2 A (thS σ 0) := by rw [eh2]; exact K1
    replace FK1 : FM A h h2 := by rw [eh2]; exact FK1
    have c60K1 : h2 (A 60 0) = some (oB 13 [.ref (A 61 0), .ref (A 62 0), .ref (A 63 0), .ref (A 64 0), .ref (A 65 0), .ref (A 66 0), .ref (A 67 0), .ref (A 68 0), .ref (A 69 0), .ref (A 70 0), .ref (A 71 0), .ref (A 72 0), .ref (A 73 0), .ref (A 74 0), .ref (A 75 0), .ref (A 76 0), .int (σ.1 60 0 0), .ref (A 77 0), .ref (A 78 0), .ref (A 79 0), .ref (A 80 0), .ref (A 81 0), .ref (A 82 0), .ref (A 83 0), .int (σ.1 60 0 1), .ref (A 84 0), .ref (A 85 0), .ref (A 86 0), .ref (A 87 0), .ref (A 88 0), .int (σ.1 60 0 2), .int (σ.1 60 0 3), .ref (A 89 0), .int (σ.1 60 0 4), .int (σ.1 60 0 5), .int (σ.1 60 0 6), .ref (A 90 0), .int 0]) := K1.c60
    have k830K1 : h2 (A 83 0) = some (aZ 20 (σ.1 83 0)) := K1.c83
    refine pw_iconst (pc2 := 17) (v := 0) dX10_goodShare_16 rfl (by decide) ?_
    refine pw_istore_n (pc2 := 18) (L2 := [(1, Value.int 0), (0, Value.ref (A 60 0))]) dX10_goodShare_17 rfl rfl (by decide) rfl ?_
    refine pw_iconst (pc2 := 19) (v := 0) dX10_goodShare_18 rfl (by decide) ?_
    refine pw_istore_n (pc2 := 20) (L2 := [(2, Value.int 0), (1, Value.int 0), (0, Value.ref (A 60 0))]) dX10_goodShare_19 rfl rfl (by decide) rfl ?_
    have loop : ∀ (k i : Nat) (ac : Int32) (hac : ac = gdN σ i), i + k = nrl σ → PW G MX10_goodShare d noA (E0 G (fun r h2 => (nrl σ = 0 ∧ ∃ x, QSM G h A (.float x) (thS σ 1) r h2) ∨ (¬ nrl σ = 0 ∧ QSM G h A (.float (FP.fdiv (FP.i2f (gdN σ (nrl σ))) (FP.i2f (nI (nrl σ))))) (thS σ 0) r h2)) noX) 0 0 20 [(2, Value.int (nI i)), (1, Value.int ac), (0, Value.ref (A 60 0))] [] h2 := by
      intro k
      induction k with
      | zero =>
        intro i ac hac hik
        have hi9 : i = nrl σ := by omega
        refine pw_iload_n (pc2 := 21) dX10_goodShare_20 rfl rfl 0 rfl ?_
        refine pw_aload_n (pc2 := 22) dX10_goodShare_21 rfl rfl 2 rfl (by first | exact rf_ref _ | exact rf_opt _ | exact rf_nul) ?_
        refine pw_get (pc2 := 25) kX10 (k := 24) (by decide) rfl fl_X10_146 c60K1 rfl dX10_goodShare_22 rfl ?_
        refine pw_topE hb.2.1 ?_
        refine pw_icmp_ge (tgt := 59) (pc2 := 28) dX10_goodShare_25 (by decide) rfl (fun _ => ?_) (fun c25 => by exact absurd (by first | exact (nI_leI (a := nrl σ) (b := i) (by omega) (by omega)).mpr (by omega) | exact fun q => absurd ((nI_leI (a := nrl σ) (b := i) (by omega) (by omega)).mp q) (by omega)) c25)
        refine pw_aload_n (pc2 := 60) dX10_goodShare_59 rfl rfl 2 rfl (by first | exact rf_ref _ | exact rf_opt _ | exact rf_nul) ?_
        refine pw_get (pc2 := 63) kX10 (k := 37) (by decide) rfl fl_X10_109 c60K1 rfl dX10_goodShare_60 rfl ?_
        refine pw_if_le (tgt := 70) (pc2 := 66) dX10_goodShare_63 (by decide) rfl (fun _ => ?_) (fun c63 => by exact absurd (by decide) c63)
        refine pw_iload_n (pc2 := 71) dX10_goodShare_70 rfl rfl 1 rfl ?_
        refine pw_i2f (pc2 := 72) dX10_goodShare_71 rfl ?_
        refine pw_aload_n (pc2 := 73) dX10_goodShare_72 rfl rfl 2 rfl (by first | exact rf_ref _ | exact rf_opt _ | exact rf_nul) ?_
        refine pw_get (pc2 := 76) kX10 (k := 24) (by decide) rfl fl_X10_146 c60K1 rfl dX10_goodShare_73 rfl ?_
        refine pw_topE hb.2.1 ?_
        refine pw_i2f (pc2 := 77) dX10_goodShare_76 rfl ?_
        refine pw_fdiv (pc2 := 78) dX10_goodShare_77 rfl (vf_n32_of (fdn (nI_ne0 (by omega) (by omega)))) ?_
        refine pw_fret dX10_goodShare_78 rfl ?_
        exact Or.inr ⟨q4, by rw [hac, hi9], K1, FK1⟩
      | succ k ih =>
        intro i ac hac hik
        have hi9 : i < nrl σ := by omega
        refine pw_iload_n (pc2 := 21) dX10_goodShare_20 rfl rfl 0 rfl ?_
        refine pw_aload_n (pc2 := 22) dX10_goodShare_21 rfl rfl 2 rfl (by first | exact rf_ref _ | exact rf_opt _ | exact rf_nul) ?_
        refine pw_get (pc2 := 25) kX10 (k := 24) (by decide) rfl fl_X10_146 c60K1 rfl dX10_goodShare_22 rfl ?_
        refine pw_topE hb.2.1 ?_
        refine pw_icmp_ge (tgt := 59) (pc2 := 28) dX10_goodShare_25 (by decide) rfl (fun c25 => by exact absurd c25 (by first | exact (nI_leI (a := nrl σ) (b := i) (by omega) (by omega)).mpr (by omega) | exact fun q => absurd ((nI_leI (a := nrl σ) (b := i) (by omega) (by omega)).mp q) (by omega))) (fun _ => ?_)
        refine pw_iload_n (pc2 := 29) dX10_goodShare_28 rfl rfl 1 rfl ?_
        refine pw_aload_n (pc2 := 30) dX10_goodShare_29 rfl rfl 2 rfl (by first | exact rf_ref _ | exact rf_opt _ | exact rf_nul) ?_
        refine pw_get (pc2 := 33) kX10 (k := 23) (by decide) rfl fl_X10_79 c60K1 rfl dX10_goodShare_30 rfl ?_
        refine pw_iload_n (pc2 := 34) dX10_goodShare_33 rfl rfl 0 rfl ?_
        refine pw_zaldN (pc2 := 35) K1.c83 (i := i) (by first | assumption | omega) (by omega) dX10_goodShare_34 rfl ?_
        refine pw_topE (hR.1.1 i hi9).2.2.2.2.1 ?_
        refine pw_if_ne (tgt := 50) (pc2 := 38) dX10_goodShare_35 (by decide) rfl (fun c35 => ?_) (fun c35 => ?_)
        · refine pw_iconst (pc2 := 51) (v := 0) dX10_goodShare_50 rfl (by decide) ?_
          refine pw_iadd (pc2 := 52) dX10_goodShare_51 rfl ?_
          refine pw_topi (fun v1 ev1 => ?_)
          refine pw_istore_n (pc2 := 53) (L2 := [(1, Value.int v1), (2, Value.int (nI i)), (0, Value.ref (A 60 0))]) dX10_goodShare_52 rfl rfl (by decide) rfl ?_
          refine pw_iinc (pc2 := 56) (v := nI (i + 1)) (L2 := [(2, Value.int (nI (i + 1))), (1, Value.int v1), (0, Value.ref (A 60 0))]) dX10_goodShare_53 rfl 1 rfl (by show nI _ + 1 = nI _; exact nI_1 _) (by decide) rfl ?_
          refine pw_goto (tgt := 20) dX10_goodShare_56 (by decide) ?_
          refine PW.sub (L2 := [(2, Value.int (nI (i + 1))), (1, Value.int v1), (0, Value.ref (A 60 0))]) [0, 1, 2] rfl ?_
          refine ih (i + 1) v1 ?_ (by omega)
          rw [ev1, hac]
          show _ = dit (σ.1 40 i 2 = 0 ∧ ¬ stl σ i) (gdN σ i + 1) (gdN σ i)
          first | exact (dit_t ⟨c35, q40⟩).symm | exact (Int32.add_zero _).trans (dit_f (fun z => c35 z.1)).symm | exact (Int32.add_zero _).trans (dit_f (fun z => z.2 q40)).symm
        · refine pw_aload_n (pc2 := 39) dX10_goodShare_38 rfl rfl 2 rfl (by first | exact rf_ref _ | exact rf_opt _ | exact rf_nul) ?_
          refine pw_iload_n (pc2 := 40) dX10_goodShare_39 rfl rfl 0 rfl ?_
          refine pw_callVb (pc2 := 43) (c_stale G _ K1 hb hR hi9) cs_X10_209 rfl rfl c60K1 dX10_goodShare_40 rfl (by omega) rfl (by first | decide | simp [cat_rf, Value.category]) (fun q40 => ?_) (fun q40 => ?_)
          · refine pw_if_ne (tgt := 50) (pc2 := 46) dX10_goodShare_43 (by decide) rfl (fun _ => ?_) (fun c43 => by exact absurd c43 (by decide))
            refine pw_iconst (pc2 := 51) (v := 0) dX10_goodShare_50 rfl (by decide) ?_
            refine pw_iadd (pc2 := 52) dX10_goodShare_51 rfl ?_
            refine pw_topi (fun v3 ev3 => ?_)
            refine pw_istore_n (pc2 := 53) (L2 := [(1, Value.int v3), (2, Value.int (nI i)), (0, Value.ref (A 60 0))]) dX10_goodShare_52 rfl rfl (by decide) rfl ?_
            refine pw_iinc (pc2 := 56) (v := nI (i + 1)) (L2 := [(2, Value.int (nI (i + 1))), (1, Value.int v3), (0, Value.ref (A 60 0))]) dX10_goodShare_53 rfl 1 rfl (by show nI _ + 1 = nI _; exact nI_1 _) (by decide) rfl ?_
            refine pw_goto (tgt := 20) dX10_goodShare_56 (by decide) ?_
            refine PW.sub (L2 := [(2, Value.int (nI (i + 1))), (1, Value.int v3), (0, Value.ref (A 60 0))]) [0, 1, 2] rfl ?_
            refine ih (i + 1) v3 ?_ (by omega)
            rw [ev3, hac]
            show _ = dit (σ.1 40 i 2 = 0 ∧ ¬ stl σ i) (gdN σ i + 1) (gdN σ i)
            first | exact (dit_t ⟨c35, q40⟩).symm | exact (Int32.add_zero _).trans (dit_f (fun z => c35 z.1)).symm | exact (Int32.add_zero _).trans (dit_f (fun z => z.2 q40)).symm
          · refine pw_if_ne (tgt := 50) (pc2 := 46) dX10_goodShare_43 (by decide) rfl (fun c43 => by exact absurd (by decide) c43) (fun _ => ?_)
            refine pw_iconst (pc2 := 47) (v := 1) dX10_goodShare_46 rfl (by decide) ?_
            refine pw_goto (tgt := 51) dX10_goodShare_47 (by decide) ?_
            refine pw_iadd (pc2 := 52) dX10_goodShare_51 rfl ?_
            refine pw_topi (fun v5 ev5 => ?_)
            refine pw_istore_n (pc2 := 53) (L2 := [(1, Value.int v5), (2, Value.int (nI i)), (0, Value.ref (A 60 0))]) dX10_goodShare_52 rfl rfl (by decide) rfl ?_
            refine pw_iinc (pc2 := 56) (v := nI (i + 1)) (L2 := [(2, Value.int (nI (i + 1))), (1, Value.int v5), (0, Value.ref (A 60 0))]) dX10_goodShare_53 rfl 1 rfl (by show nI _ + 1 = nI _; exact nI_1 _) (by decide) rfl ?_
            refine pw_goto (tgt := 20) dX10_goodShare_56 (by decide) ?_
            refine PW.sub (L2 := [(2, Value.int (nI (i + 1))), (1, Value.int v5), (0, Value.ref (A 60 0))]) [0, 1, 2] rfl ?_
            refine ih (i + 1) v5 ?_ (by omega)
            rw [ev5, hac]
            show _ = dit (σ.1 40 i 2 = 0 ∧ ¬ stl σ i) (gdN σ i + 1) (gdN σ i)
            first | exact (dit_t ⟨c35, q40⟩).symm | exact (Int32.add_zero _).trans (dit_f (fun z => c35 z.1)).symm | exact (Int32.add_zero _).trans (dit_f (fun z => z.2 q40)).symm
    refine PW.sub (L2 := [(2, Value.int 0), (1, Value.int 0), (0, Value.ref (A 60 0))]) [0, 1, 2] rfl ?_
    exact loop (nrl σ) 0 0 rfl (by omega)
  · refine pw_iconst (pc2 := 9) (v := 1) dX10_goodShare_8 rfl (by decide) ?_
    refine pw_goto (tgt := 13) dX10_goodShare_9 (by decide) ?_
    refine pw_put (pc2 := 16) kX10 (k := 37) (by decide) rfl rfl fl_X10_109 H.c60 (by first | decide | simp) (by first | rfl | exact nar_rf _ _) (by first | rfl | exact fit_rf _ _) dX10_goodShare_13 rfl ?_
    obtain ⟨K1, FK1⟩ := H.wIF (FM.rfl') (t := 60) (i := 0) (f := (upd (σ.1 60 0) 7 1)) rfl (by decide) (iv_setI H.iv (by decide)) rfl
    obtain ⟨h2, eh2⟩ : ∃ z : Nat → Option hE, z = va_up h (A 60 0) (some (oB 13 [.ref (A 61 0), .ref (A 62 0), .ref (A 63 0), .ref (A 64 0), .ref (A 65 0), .ref (A 66 0), .ref (A 67 0), .ref (A 68 0), .ref (A 69 0), .ref (A 70 0), .ref (A 71 0), .ref (A 72 0), .ref (A 73 0), .ref (A 74 0), .ref (A 75 0), .ref (A 76 0), .int (σ.1 60 0 0), .ref (A 77 0), .ref (A 78 0), .ref (A 79 0), .ref (A 80 0), .ref (A 81 0), .ref (A 82 0), .ref (A 83 0), .int (σ.1 60 0 1), .ref (A 84 0), .ref (A 85 0), .ref (A 86 0), .ref (A 87 0), .ref (A 88 0), .int (σ.1 60 0 2), .int (σ.1 60 0 3), .ref (A 89 0), .int (σ.1 60 0 4), .int (σ.1 60 0 5), .int (σ.1 60 0 6), .ref (A 90 0), .int 1])) := ⟨_, rfl⟩
    refine PW.heap (h' := h2) eh2.symm ?_
    replace K1 : WM G h2 A (thS σ 1) := by rw [eh2]; exact K1
    replace FK1 : FM A h h2 := by rw [eh2]; exact FK1
    have c60K1 : h2 (A 60 0) = some (oB 13 [.ref (A 61 0), .ref (A 62 0), .ref (A 63 0), .ref (A 64 0), .ref (A 65 0), .ref (A 66 0), .ref (A 67 0), .ref (A 68 0), .ref (A 69 0), .ref (A 70 0), .ref (A 71 0), .ref (A 72 0), .ref (A 73 0), .ref (A 74 0), .ref (A 75 0), .ref (A 76 0), .int (σ.1 60 0 0), .ref (A 77 0), .ref (A 78 0), .ref (A 79 0), .ref (A 80 0), .ref (A 81 0), .ref (A 82 0), .ref (A 83 0), .int (σ.1 60 0 1), .ref (A 84 0), .ref (A 85 0), .ref (A 86 0), .ref (A 87 0), .ref (A 88 0), .int (σ.1 60 0 2), .int (σ.1 60 0 3), .ref (A 89 0), .int (σ.1 60 0 4), .int (σ.1 60 0 5), .int (σ.1 60 0 6), .ref (A 90 0), .int 1]) := K1.c60
    have k830K1 : h2 (A 83 0) = some (aZ 20 (σ.1 83 0)) := K1.c83
    refine pw_iconst (pc2 := 17) (v := 0) dX10_goodShare_16 rfl (by decide) ?_
    refine pw_istore_n (pc2 := 18) (L2 := [(1, Value.int 0), (0, Value.ref (A 60 0))]) dX10_goodShare_17 rfl rfl (by decide) rfl ?_
    refine pw_iconst (pc2 := 19) (v := 0) dX10_goodShare_18 rfl (by decide) ?_
    refine pw_istore_n (pc2 := 20) (L2 := [(2, Value.int 0), (1, Value.int 0), (0, Value.ref (A 60 0))]) dX10_goodShare_19 rfl rfl (by decide) rfl ?_
    have loop : ∀ (k i : Nat) (ac : Int32) (hac : ac = gdN σ i), i + k = nrl σ → PW G MX10_goodShare d noA (E0 G (fun r h2 => (nrl σ = 0 ∧ ∃ x, QSM G h A (.float x) (thS σ 1) r h2) ∨ (¬ nrl σ = 0 ∧ QSM G h A (.float (FP.fdiv (FP.i2f (gdN σ (nrl σ))) (FP.i2f (nI (nrl σ))))) (thS σ 0) r h2)) noX) 0 0 20 [(2, Value.int (nI i)), (1, Value.int ac), (0, Value.ref (A 60 0))] [] h2 := by
      intro k
      induction k with
      | zero =>
        intro i ac hac hik
        have hi9 : i = nrl σ := by omega
        refine pw_iload_n (pc2 := 21) dX10_goodShare_20 rfl rfl 0 rfl ?_
        refine pw_aload_n (pc2 := 22) dX10_goodShare_21 rfl rfl 2 rfl (by first | exact rf_ref _ | exact rf_opt _ | exact rf_nul) ?_
        refine pw_get (pc2 := 25) kX10 (k := 24) (by decide) rfl fl_X10_146 c60K1 rfl dX10_goodShare_22 rfl ?_
        refine pw_topE hb.2.1 ?_
        refine pw_icmp_ge (tgt := 59) (pc2 := 28) dX10_goodShare_25 (by decide) rfl (fun _ => ?_) (fun c25 => by exact absurd (by first | exact (nI_leI (a := nrl σ) (b := i) (by omega) (by omega)).mpr (by omega) | exact fun q => absurd ((nI_leI (a := nrl σ) (b := i) (by omega) (by omega)).mp q) (by omega)) c25)
        refine pw_aload_n (pc2 := 60) dX10_goodShare_59 rfl rfl 2 rfl (by first | exact rf_ref _ | exact rf_opt _ | exact rf_nul) ?_
        refine pw_get (pc2 := 63) kX10 (k := 37) (by decide) rfl fl_X10_109 c60K1 rfl dX10_goodShare_60 rfl ?_
        refine pw_if_le (tgt := 70) (pc2 := 66) dX10_goodShare_63 (by decide) rfl (fun c63 => by exact absurd c63 (by decide)) (fun _ => ?_)
        refine pw_fconst0 (pc2 := 67) dX10_goodShare_66 rfl ?_
        refine pw_goto (tgt := 78) dX10_goodShare_67 (by decide) ?_
        refine pw_fret dX10_goodShare_78 rfl ?_
        exact Or.inl ⟨nI_inj (by omega) (by decide) c5, _, rfl, K1, FK1⟩
      | succ k ih =>
        intro i ac hac hik
        have hi9 : i < nrl σ := by omega
        refine pw_iload_n (pc2 := 21) dX10_goodShare_20 rfl rfl 0 rfl ?_
        refine pw_aload_n (pc2 := 22) dX10_goodShare_21 rfl rfl 2 rfl (by first | exact rf_ref _ | exact rf_opt _ | exact rf_nul) ?_
        refine pw_get (pc2 := 25) kX10 (k := 24) (by decide) rfl fl_X10_146 c60K1 rfl dX10_goodShare_22 rfl ?_
        refine pw_topE hb.2.1 ?_
        refine pw_icmp_ge (tgt := 59) (pc2 := 28) dX10_goodShare_25 (by decide) rfl (fun c25 => by exact absurd c25 (by first | exact (nI_leI (a := nrl σ) (b := i) (by omega) (by omega)).mpr (by omega) | exact fun q => absurd ((nI_leI (a := nrl σ) (b := i) (by omega) (by omega)).mp q) (by omega))) (fun _ => ?_)
        refine pw_iload_n (pc2 := 29) dX10_goodShare_28 rfl rfl 1 rfl ?_
        refine pw_aload_n (pc2 := 30) dX10_goodShare_29 rfl rfl 2 rfl (by first | exact rf_ref _ | exact rf_opt _ | exact rf_nul) ?_
        refine pw_get (pc2 := 33) kX10 (k := 23) (by decide) rfl fl_X10_79 c60K1 rfl dX10_goodShare_30 rfl ?_
        refine pw_iload_n (pc2 := 34) dX10_goodShare_33 rfl rfl 0 rfl ?_
        refine pw_zaldN (pc2 := 35) K1.c83 (i := i) (by first | assumption | omega) (by omega) dX10_goodShare_34 rfl ?_
        refine pw_topE (hR.1.1 i hi9).2.2.2.2.1 ?_
        refine pw_if_ne (tgt := 50) (pc2 := 38) dX10_goodShare_35 (by decide) rfl (fun c35 => ?_) (fun c35 => ?_)
        · refine pw_iconst (pc2 := 51) (v := 0) dX10_goodShare_50 rfl (by decide) ?_
          refine pw_iadd (pc2 := 52) dX10_goodShare_51 rfl ?_
          refine pw_topi (fun v7 ev7 => ?_)
          refine pw_istore_n (pc2 := 53) (L2 := [(1, Value.int v7), (2, Value.int (nI i)), (0, Value.ref (A 60 0))]) dX10_goodShare_52 rfl rfl (by decide) rfl ?_
          refine pw_iinc (pc2 := 56) (v := nI (i + 1)) (L2 := [(2, Value.int (nI (i + 1))), (1, Value.int v7), (0, Value.ref (A 60 0))]) dX10_goodShare_53 rfl 1 rfl (by show nI _ + 1 = nI _; exact nI_1 _) (by decide) rfl ?_
          refine pw_goto (tgt := 20) dX10_goodShare_56 (by decide) ?_
          refine PW.sub (L2 := [(2, Value.int (nI (i + 1))), (1, Value.int v7), (0, Value.ref (A 60 0))]) [0, 1, 2] rfl ?_
          refine ih (i + 1) v7 ?_ (by omega)
          rw [ev7, hac]
          show _ = dit (σ.1 40 i 2 = 0 ∧ ¬ stl σ i) (gdN σ i + 1) (gdN σ i)
          first | exact (dit_t ⟨c35, q40⟩).symm | exact (Int32.add_zero _).trans (dit_f (fun z => c35 z.1)).symm | exact (Int32.add_zero _).trans (dit_f (fun z => z.2 q40)).symm
        · refine pw_aload_n (pc2 := 39) dX10_goodShare_38 rfl rfl 2 rfl (by first | exact rf_ref _ | exact rf_opt _ | exact rf_nul) ?_
          refine pw_iload_n (pc2 := 40) dX10_goodShare_39 rfl rfl 0 rfl ?_
          refine pw_callVb (pc2 := 43) (c_stale G _ K1 hb hR hi9) cs_X10_209 rfl rfl c60K1 dX10_goodShare_40 rfl (by omega) rfl (by first | decide | simp [cat_rf, Value.category]) (fun q40 => ?_) (fun q40 => ?_)
          · refine pw_if_ne (tgt := 50) (pc2 := 46) dX10_goodShare_43 (by decide) rfl (fun _ => ?_) (fun c43 => by exact absurd c43 (by decide))
            refine pw_iconst (pc2 := 51) (v := 0) dX10_goodShare_50 rfl (by decide) ?_
            refine pw_iadd (pc2 := 52) dX10_goodShare_51 rfl ?_
            refine pw_topi (fun v9 ev9 => ?_)
            refine pw_istore_n (pc2 := 53) (L2 := [(1, Value.int v9), (2, Value.int (nI i)), (0, Value.ref (A 60 0))]) dX10_goodShare_52 rfl rfl (by decide) rfl ?_
            refine pw_iinc (pc2 := 56) (v := nI (i + 1)) (L2 := [(2, Value.int (nI (i + 1))), (1, Value.int v9), (0, Value.ref (A 60 0))]) dX10_goodShare_53 rfl 1 rfl (by show nI _ + 1 = nI _; exact nI_1 _) (by decide) rfl ?_
            refine pw_goto (tgt := 20) dX10_goodShare_56 (by decide) ?_
            refine PW.sub (L2 := [(2, Value.int (nI (i + 1))), (1, Value.int v9), (0, Value.ref (A 60 0))]) [0, 1, 2] rfl ?_
            refine ih (i + 1) v9 ?_ (by omega)
            rw [ev9, hac]
            show _ = dit (σ.1 40 i 2 = 0 ∧ ¬ stl σ i) (gdN σ i + 1) (gdN σ i)
            first | exact (dit_t ⟨c35, q40⟩).symm | exact (Int32.add_zero _).trans (dit_f (fun z => c35 z.1)).symm | exact (Int32.add_zero _).trans (dit_f (fun z => z.2 q40)).symm
          · refine pw_if_ne (tgt := 50) (pc2 := 46) dX10_goodShare_43 (by decide) rfl (fun c43 => by exact absurd (by decide) c43) (fun _ => ?_)
            refine pw_iconst (pc2 := 47) (v := 1) dX10_goodShare_46 rfl (by decide) ?_
            refine pw_goto (tgt := 51) dX10_goodShare_47 (by decide) ?_
            refine pw_iadd (pc2 := 52) dX10_goodShare_51 rfl ?_
            refine pw_topi (fun v11 ev11 => ?_)
            refine pw_istore_n (pc2 := 53) (L2 := [(1, Value.int v11), (2, Value.int (nI i)), (0, Value.ref (A 60 0))]) dX10_goodShare_52 rfl rfl (by decide) rfl ?_
            refine pw_iinc (pc2 := 56) (v := nI (i + 1)) (L2 := [(2, Value.int (nI (i + 1))), (1, Value.int v11), (0, Value.ref (A 60 0))]) dX10_goodShare_53 rfl 1 rfl (by show nI _ + 1 = nI _; exact nI_1 _) (by decide) rfl ?_
            refine pw_goto (tgt := 20) dX10_goodShare_56 (by decide) ?_
            refine PW.sub (L2 := [(2, Value.int (nI (i + 1))), (1, Value.int v11), (0, Value.ref (A 60 0))]) [0, 1, 2] rfl ?_
            refine ih (i + 1) v11 ?_ (by omega)
            rw [ev11, hac]
            show _ = dit (σ.1 40 i 2 = 0 ∧ ¬ stl σ i) (gdN σ i + 1) (gdN σ i)
            first | exact (dit_t ⟨c35, q40⟩).symm | exact (Int32.add_zero _).trans (dit_f (fun z => c35 z.1)).symm | exact (Int32.add_zero _).trans (dit_f (fun z => z.2 q40)).symm
    refine PW.sub (L2 := [(2, Value.int 0), (1, Value.int 0), (0, Value.ref (A 60 0))]) [0, 1, 2] rfl ?_
    exact loop (nrl σ) 0 0 rfl (by omega)
set_option maxHeartbeats 4000000 in
set_option maxRecDepth 100000 in
theorem c_mmean (G : hG) (h : hp) {A : aT} {σ : sT} (H : WM G h A σ) : PMet G MX10_meanPaid 0 0 0 [.ref (A 60 0)] h (fun r h2 => (σ.1 60 0 5 = 0 ∧ ∃ x, QSM G h A (.double x) (thS σ 1) r h2) ∨ (¬ σ.1 60 0 5 = 0 ∧ QSM G h A (.double (FP.ddiv (FP.i2d (σ.1 60 0 6)) (FP.i2d (σ.1 60 0 5)))) (thS σ 0) r h2)) noX := by
  refine PMet.of (by decide +kernel) (Nat.le_of_ble_eq_true rfl) (fun d hd => ?_)
  refine PW.sub (L2 := [(0, Value.ref (A 60 0))]) [0] rfl ?_
  refine pw_aload_n (pc2 := 1) dX10_meanPaid_0 rfl rfl 0 rfl (by first | exact rf_ref _ | exact rf_opt _ | exact rf_nul) ?_
  refine pw_aload_n (pc2 := 2) dX10_meanPaid_1 rfl rfl 0 rfl (by first | exact rf_ref _ | exact rf_opt _ | exact rf_nul) ?_
  refine pw_get (pc2 := 5) kX10 (k := 34) (by decide) rfl fl_X10_188 H.c60 rfl dX10_meanPaid_2 rfl ?_
  refine pw_if_ne (tgt := 12) (pc2 := 8) dX10_meanPaid_5 (by decide) rfl (fun c5 => ?_) (fun c5 => ?_)
  · refine pw_iconst (pc2 := 13) (v := 0) dX10_meanPaid_12 rfl (by decide) ?_
    refine pw_put (pc2 := 16) kX10 (k := 37) (by decide) rfl rfl fl_X10_109 H.c60 (by first | decide | simp) (by first | rfl | exact nar_rf _ _) (by first | rfl | exact fit_rf _ _) dX10_meanPaid_13 rfl ?_
    obtain ⟨K1, FK1⟩ := H.wIF (FM.rfl') (t := 60) (i := 0) (f := (upd (σ.1 60 0) 7 0)) rfl (by decide) (iv_setI H.iv (by decide)) rfl
    obtain ⟨h2, eh2⟩ : ∃ z : Nat → Option hE, z = va_up h (A 60 0) (some (oB 13 [.ref (A 61 0), .ref (A 62 0), .ref (A 63 0), .ref (A 64 0), .ref (A 65 0), .ref (A 66 0), .ref (A 67 0), .ref (A 68 0), .ref (A 69 0), .ref (A 70 0), .ref (A 71 0), .ref (A 72 0), .ref (A 73 0), .ref (A 74 0), .ref (A 75 0), .ref (A 76 0), .int (σ.1 60 0 0), .ref (A 77 0), .ref (A 78 0), .ref (A 79 0), .ref (A 80 0), .ref (A 81 0), .ref (A 82 0), .ref (A 83 0), .int (σ.1 60 0 1), .ref (A 84 0), .ref (A 85 0), .ref (A 86 0), .ref (A 87 0), .ref (A 88 0), .int (σ.1 60 0 2), .int (σ.1 60 0 3), .ref (A 89 0), .int (σ.1 60 0 4), .int (σ.1 60 0 5), .int (σ.1 60 0 6), .ref (A 90 0), .int 0])) := ⟨_, rfl⟩
    refine PW.heap (h' := h2) eh2.symm ?_
    replace K1 : WM G h2 A (thS σ 0) := by rw [eh2]; exact K1
    replace FK1 : FM A h h2 := by rw [eh2]; exact FK1
    have c60K1 : h2 (A 60 0) = some (oB 13 [.ref (A 61 0), .ref (A 62 0), .ref (A 63 0), .ref (A 64 0), .ref (A 65 0), .ref (A 66 0), .ref (A 67 0), .ref (A 68 0), .ref (A 69 0), .ref (A 70 0), .ref (A 71 0), .ref (A 72 0), .ref (A 73 0), .ref (A 74 0), .ref (A 75 0), .ref (A 76 0), .int (σ.1 60 0 0), .ref (A 77 0), .ref (A 78 0), .ref (A 79 0), .ref (A 80 0), .ref (A 81 0), .ref (A 82 0), .ref (A 83 0), .int (σ.1 60 0 1), .ref (A 84 0), .ref (A 85 0), .ref (A 86 0), .ref (A 87 0), .ref (A 88 0), .int (σ.1 60 0 2), .int (σ.1 60 0 3), .ref (A 89 0), .int (σ.1 60 0 4), .int (σ.1 60 0 5), .int (σ.1 60 0 6), .ref (A 90 0), .int 0]) := K1.c60
    refine pw_aload_n (pc2 := 17) dX10_meanPaid_16 rfl rfl 0 rfl (by first | exact rf_ref _ | exact rf_opt _ | exact rf_nul) ?_
    refine pw_get (pc2 := 20) kX10 (k := 37) (by decide) rfl fl_X10_109 c60K1 rfl dX10_meanPaid_17 rfl ?_
    refine pw_if_le (tgt := 27) (pc2 := 23) dX10_meanPaid_20 (by decide) rfl (fun _ => ?_) (fun c20 => by exact absurd (by decide) c20)
    refine pw_aload_n (pc2 := 28) dX10_meanPaid_27 rfl rfl 0 rfl (by first | exact rf_ref _ | exact rf_opt _ | exact rf_nul) ?_
    refine pw_get (pc2 := 31) kX10 (k := 35) (by decide) rfl fl_X10_185 c60K1 rfl dX10_meanPaid_28 rfl ?_
    refine pw_i2d (pc2 := 32) dX10_meanPaid_31 rfl ?_
    refine pw_aload_n (pc2 := 33) dX10_meanPaid_32 rfl rfl 0 rfl (by first | exact rf_ref _ | exact rf_opt _ | exact rf_nul) ?_
    refine pw_get (pc2 := 36) kX10 (k := 34) (by decide) rfl fl_X10_188 c60K1 rfl dX10_meanPaid_33 rfl ?_
    refine pw_i2d (pc2 := 37) dX10_meanPaid_36 rfl ?_
    refine pw_ddiv (pc2 := 38) dX10_meanPaid_37 rfl (vf_n64_of (ddn c5)) ?_
    refine pw_dret dX10_meanPaid_38 rfl ?_
    exact Or.inr ⟨c5, rfl, K1, FK1⟩
  · refine pw_iconst (pc2 := 9) (v := 1) dX10_meanPaid_8 rfl (by decide) ?_
    refine pw_goto (tgt := 13) dX10_meanPaid_9 (by decide) ?_
    refine pw_put (pc2 := 16) kX10 (k := 37) (by decide) rfl rfl fl_X10_109 H.c60 (by first | decide | simp) (by first | rfl | exact nar_rf _ _) (by first | rfl | exact fit_rf _ _) dX10_meanPaid_13 rfl ?_
    obtain ⟨K1, FK1⟩ := H.wIF (FM.rfl') (t := 60) (i := 0) (f := (upd (σ.1 60 0) 7 1)) rfl (by decide) (iv_setI H.iv (by decide)) rfl
    obtain ⟨h2, eh2⟩ : ∃ z : Nat → Option hE, z = va_up h (A 60 0) (some (oB 13 [.ref (A 61 0), .ref (A 62 0), .ref (A 63 0), .ref (A 64 0), .ref (A 65 0), .ref (A 66 0), .ref (A 67 0), .ref (A 68 0), .ref (A 69 0), .ref (A 70 0), .ref (A 71 0), .ref (A 72 0), .ref (A 73 0), .ref (A 74 0), .ref (A 75 0), .ref (A 76 0), .int (σ.1 60 0 0), .ref (A 77 0), .ref (A 78 0), .ref (A 79 0), .ref (A 80 0), .ref (A 81 0), .ref (A 82 0), .ref (A 83 0), .int (σ.1 60 0 1), .ref (A 84 0), .ref (A 85 0), .ref (A 86 0), .ref (A 87 0), .ref (A 88 0), .int (σ.1 60 0 2), .int (σ.1 60 0 3), .ref (A 89 0), .int (σ.1 60 0 4), .int (σ.1 60 0 5), .int (σ.1 60 0 6), .ref (A 90 0), .int 1])) := ⟨_, rfl⟩
    refine PW.heap (h' := h2) eh2.symm ?_
    replace K1 : WM G h2 A (thS σ 1) := by rw [eh2]; exact K1
    replace FK1 : FM A h h2 := by rw [eh2]; exact FK1
    have c60K1 : h2 (A 60 0) = some (oB 13 [.ref (A 61 0), .ref (A 62 0), .ref (A 63 0), .ref (A 64 0), .ref (A 65 0), .ref (A 66 0), .ref (A 67 0), .ref (A 68 0), .ref (A 69 0), .ref (A 70 0), .ref (A 71 0), .ref (A 72 0), .ref (A 73 0), .ref (A 74 0), .ref (A 75 0), .ref (A 76 0), .int (σ.1 60 0 0), .ref (A 77 0), .ref (A 78 0), .ref (A 79 0), .ref (A 80 0), .ref (A 81 0), .ref (A 82 0), .ref (A 83 0), .int (σ.1 60 0 1), .ref (A 84 0), .ref (A 85 0), .ref (A 86 0), .ref (A 87 0), .ref (A 88 0), .int (σ.1 60 0 2), .int (σ.1 60 0 3), .ref (A 89 0), .int (σ.1 60 0 4), .int (σ.1 60 0 5), .int (σ.1 60 0 6), .ref (A 90 0), .int 1]) := K1.c60
    refine pw_aload_n (pc2 := 17) dX10_meanPaid_16 rfl rfl 0 rfl (by first | exact rf_ref _ | exact rf_opt _ | exact rf_nul) ?_
    refine pw_get (pc2 := 20) kX10 (k := 37) (by decide) rfl fl_X10_109 c60K1 rfl dX10_meanPaid_17 rfl ?_
    refine pw_if_le (tgt := 27) (pc2 := 23) dX10_meanPaid_20 (by decide) rfl (fun c20 => by exact absurd c20 (by decide)) (fun _ => ?_)
    refine pw_dconst0 (pc2 := 24) dX10_meanPaid_23 rfl ?_
    refine pw_goto (tgt := 38) dX10_meanPaid_24 (by decide) ?_
    refine pw_dret dX10_meanPaid_38 rfl ?_
    exact Or.inl ⟨c5, _, rfl, K1, FK1⟩
