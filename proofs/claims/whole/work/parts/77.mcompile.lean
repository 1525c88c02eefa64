/-! the reference: isOther, isNeeded, compile -/
def smB (σ : sT) (p : Nat) : Prop := ¬ σ.1 25 p 0 = 0 ∧ σ.1 25 p 1 = σ.1 21 p 0 ∧ σ.1 25 p 2 = σ.1 21 p 1 ∧ ∀ j, j < 6 → (¬ σ.1 24 p j = 0 ↔ ¬ σ.1 26 p j = -1)
theorem nm1 {x : Int32} (h : 0 ≤ x) : ¬ x = -1 := fun e => by
  subst e
  exact absurd h (by decide)
theorem nfG_s {σ : sT} {gr : Nat → Int32} {g : Nat → Option Nat} {j x : Nat} (h : g j = some x) (hg : ¬ gr j = 0) : nfG σ gr g j = σ.1 40 x 1 := by
  unfold nfG
  rw [h]
  exact if_neg hg
theorem nfG_z {σ : sT} {gr : Nat → Int32} {g : Nat → Option Nat} {j : Nat} (hg : gr j = 0) : nfG σ gr g j = -1 := by
  unfold nfG
  cases h : g j with
  | none => rfl
  | some x => exact if_pos hg
theorem bOk_sm {σ : sT} {ofr : Nat → Nat} (hR : RR σ ofr) {p : Nat} {g : Nat → Option Nat} (hgb : pkB σ g) (hnd : ∀ j, j < 6 → ¬ σ.1 24 p j = 0 → ∃ x, g j = some x) : bOk σ p g ↔ smB σ p ∧ ∀ j, j < 6 → ¬ σ.1 24 p j = 0 → σ.1 26 p j = nfG σ (σ.1 24 p) g j := by
  have hf : ∀ j, j < 6 → ¬ σ.1 24 p j = 0 → ¬ nfG σ (σ.1 24 p) g j = -1 := fun j hj hg => by
    obtain ⟨x, hx⟩ := hnd j hj hg
    rw [nfG_s hx hg]
    exact nm1 (hR.2.1 x (hgb j x hx)).2.2.1
  constructor
  · rintro ⟨h1, h2, h3, h4⟩
    refine ⟨⟨h1, h2, h3, fun j hj => ⟨fun q => ?_, fun q z => ?_⟩⟩, fun j hj _ => h4 j hj⟩
    · rw [h4 j hj]; exact hf j hj q
    · exact q ((h4 j hj).trans (nfG_z z))
  · rintro ⟨⟨h1, h2, h3, h4⟩, h5⟩
    refine ⟨h1, h2, h3, fun j hj => ?_⟩
    by_cases q : σ.1 24 p j = 0
    · rw [nfG_z q]
      exact Classical.byContradiction (fun z => (h4 j hj).mpr z q)
    · exact h5 j hj q
set_option maxHeartbeats 4000000 in
set_option maxRecDepth 100000 in
theorem c_isOther (G : hG) (h : hp) {A : aT} {σ : sT} (H : WM G h A σ) (hS : RS σ) (hC : RC σ) {p : Nat} (hp : p < npk σ) : PMet G MX10_isOther 2 0 0 [.ref (A 60 0), .int (nI p)] h (bR (¬ smB σ p) h) noX := by
  have hnp := H.iv.1
  have hp6 : p < 6 := by omega
  obtain ⟨e62, e63, e91, e92, e3, -⟩ := hS p hp
  have e66 := (hC p hp).1
  refine PMet.of (by decide +kernel) (Nat.le_of_ble_eq_true rfl) (fun d hd => ?_)
  refine PW.sub (L2 := [(0, Value.ref (A 60 0)), (1, Value.int (nI p))]) [0, 1] rfl ?_
  refine pw_aload_n (pc2 := 1) dX10_isOther_0 rfl rfl 0 rfl (by first | exact rf_ref _ | exact rf_opt _ | exact rf_nul) ?_
  refine pw_get (pc2 := 4) kX10 (k := 5) (by decide) rfl fl_X10_27 H.c60 rfl dX10_isOther_1 rfl ?_
  refine pw_iload_n (pc2 := 5) dX10_isOther_4 rfl rfl 1 rfl ?_
  refine pw_zaldN (pc2 := 6) H.c66 (i := p) (by first | assumption | omega) (by omega) dX10_isOther_5 rfl ?_
  refine pw_if_eq (tgt := 53) (pc2 := 9) dX10_isOther_6 (by decide) rfl (fun c6 => ?_) (fun c6 => ?_)
  · refine pw_iconst (pc2 := 54) (v := 1) dX10_isOther_53 rfl (by decide) ?_
    refine pw_goto (tgt := 58) dX10_isOther_54 (by decide) ?_
    refine pw_iret dX10_isOther_58 rfl (by first | rfl | assumption | simp [narrow]) ?_
    first
      | (refine bR_1 (fun z => ?_); exact z.1 (e66.symm.trans c6))
      | (refine bR_1 (fun z => ?_); exact c21 (e62.trans (z.2.1.symm.trans (hcc.1).symm)))
      | (refine bR_1 (fun z => ?_); exact c36 (e63.trans (z.2.2.1.symm.trans (hcc.2.1).symm)))
      | (refine bR_1 (fun z => ?_); obtain ⟨-, -, L, e69, hL⟩ := hcc; exact c50 (((bts_eq _ _).mpr (fun j hj => by rw [e91]; exact ((nbk_p (e3 j hj).1).trans (z.2.2.2 j hj)).trans (hL j hj).1.symm)).trans e69.symm))
  · have hcc := (hC p hp).2.resolve_left (fun z => c6 (e66.trans z))
    refine pw_aload_n (pc2 := 10) dX10_isOther_9 rfl rfl 0 rfl (by first | exact rf_ref _ | exact rf_opt _ | exact rf_nul) ?_
    refine pw_get (pc2 := 13) kX10 (k := 1) (by decide) rfl fl_X10_13 H.c60 rfl dX10_isOther_10 rfl ?_
    refine pw_iload_n (pc2 := 14) dX10_isOther_13 rfl rfl 1 rfl ?_
    refine pw_ialdN (pc2 := 15) H.c62 (i := p) (by first | assumption | omega) (by omega) dX10_isOther_14 rfl ?_
    refine pw_aload_n (pc2 := 16) dX10_isOther_15 rfl rfl 0 rfl (by first | exact rf_ref _ | exact rf_opt _ | exact rf_nul) ?_
    refine pw_get (pc2 := 19) kX10 (k := 6) (by decide) rfl fl_X10_31 H.c60 rfl dX10_isOther_16 rfl ?_
    refine pw_iload_n (pc2 := 20) dX10_isOther_19 rfl rfl 1 rfl ?_
    refine pw_ialdN (pc2 := 21) H.c67 (i := p) (by first | assumption | omega) (by omega) dX10_isOther_20 rfl ?_
    refine pw_icmp_ne (tgt := 53) (pc2 := 24) dX10_isOther_21 (by decide) rfl (fun c21 => ?_) (fun c21 => ?_)
    · refine pw_iconst (pc2 := 54) (v := 1) dX10_isOther_53 rfl (by decide) ?_
      refine pw_goto (tgt := 58) dX10_isOther_54 (by decide) ?_
      refine pw_iret dX10_isOther_58 rfl (by first | rfl | assumption | simp [narrow]) ?_
      first
        | (refine bR_1 (fun z => ?_); exact z.1 (e66.symm.trans c6))
        | (refine bR_1 (fun z => ?_); exact c21 (e62.trans (z.2.1.symm.trans (hcc.1).symm)))
        | (refine bR_1 (fun z => ?_); exact c36 (e63.trans (z.2.2.1.symm.trans (hcc.2.1).symm)))
        | (refine bR_1 (fun z => ?_); obtain ⟨-, -, L, e69, hL⟩ := hcc; exact c50 (((bts_eq _ _).mpr (fun j hj => by rw [e91]; exact ((nbk_p (e3 j hj).1).trans (z.2.2.2 j hj)).trans (hL j hj).1.symm)).trans e69.symm))
    · refine pw_aload_n (pc2 := 25) dX10_isOther_24 rfl rfl 0 rfl (by first | exact rf_ref _ | exact rf_opt _ | exact rf_nul) ?_
      refine pw_get (pc2 := 28) kX10 (k := 2) (by decide) rfl fl_X10_16 H.c60 rfl dX10_isOther_25 rfl ?_
      refine pw_iload_n (pc2 := 29) dX10_isOther_28 rfl rfl 1 rfl ?_
      refine pw_ialdN (pc2 := 30) H.c63 (i := p) (by first | assumption | omega) (by omega) dX10_isOther_29 rfl ?_
      refine pw_aload_n (pc2 := 31) dX10_isOther_30 rfl rfl 0 rfl (by first | exact rf_ref _ | exact rf_opt _ | exact rf_nul) ?_
      refine pw_get (pc2 := 34) kX10 (k := 7) (by decide) rfl fl_X10_34 H.c60 rfl dX10_isOther_31 rfl ?_
      refine pw_iload_n (pc2 := 35) dX10_isOther_34 rfl rfl 1 rfl ?_
      refine pw_ialdN (pc2 := 36) H.c68 (i := p) (by first | assumption | omega) (by omega) dX10_isOther_35 rfl ?_
      refine pw_icmp_ne (tgt := 53) (pc2 := 39) dX10_isOther_36 (by decide) rfl (fun c36 => ?_) (fun c36 => ?_)
      · refine pw_iconst (pc2 := 54) (v := 1) dX10_isOther_53 rfl (by decide) ?_
        refine pw_goto (tgt := 58) dX10_isOther_54 (by decide) ?_
        refine pw_iret dX10_isOther_58 rfl (by first | rfl | assumption | simp [narrow]) ?_
        first
          | (refine bR_1 (fun z => ?_); exact z.1 (e66.symm.trans c6))
          | (refine bR_1 (fun z => ?_); exact c21 (e62.trans (z.2.1.symm.trans (hcc.1).symm)))
          | (refine bR_1 (fun z => ?_); exact c36 (e63.trans (z.2.2.1.symm.trans (hcc.2.1).symm)))
          | (refine bR_1 (fun z => ?_); obtain ⟨-, -, L, e69, hL⟩ := hcc; exact c50 (((bts_eq _ _).mpr (fun j hj => by rw [e91]; exact ((nbk_p (e3 j hj).1).trans (z.2.2.2 j hj)).trans (hL j hj).1.symm)).trans e69.symm))
      · refine pw_aload_n (pc2 := 40) dX10_isOther_39 rfl rfl 0 rfl (by first | exact rf_ref _ | exact rf_opt _ | exact rf_nul) ?_
        refine pw_iload_n (pc2 := 41) dX10_isOther_40 rfl rfl 1 rfl ?_
        refine pw_callV1 (pc2 := 44) (c_needsOf G _ H hp6) cs_X10_130 rfl rfl H.c60 dX10_isOther_41 rfl (by omega) rfl (by first | decide | simp [cat_rf, Value.category]) ?_
        refine pw_aload_n (pc2 := 45) dX10_isOther_44 rfl rfl 0 rfl (by first | exact rf_ref _ | exact rf_opt _ | exact rf_nul) ?_
        refine pw_get (pc2 := 48) kX10 (k := 8) (by decide) rfl fl_X10_37 H.c60 rfl dX10_isOther_45 rfl ?_
        refine pw_iload_n (pc2 := 49) dX10_isOther_48 rfl rfl 1 rfl ?_
        refine pw_ialdN (pc2 := 50) H.c69 (i := p) (by first | assumption | omega) (by omega) dX10_isOther_49 rfl ?_
        refine pw_icmp_eq (tgt := 57) (pc2 := 53) dX10_isOther_50 (by decide) rfl (fun c50 => ?_) (fun c50 => ?_)
        · refine pw_iconst (pc2 := 58) (v := 0) dX10_isOther_57 rfl (by decide) ?_
          refine pw_iret dX10_isOther_58 rfl (by first | rfl | assumption | simp [narrow]) ?_
          obtain ⟨e67, e68, L, e69, hL⟩ := hcc
          exact bR_0 (Classical.not_not.mpr ⟨fun z => c6 (e66.trans z), e67.symm.trans (c21.symm.trans e62), e68.symm.trans (c36.symm.trans e63), fun j hj => (by have q := (bts_eq _ _).mp (c50.trans e69) j hj; rw [e91] at q; exact ((nbk_p (e3 j hj).1).symm.trans q).trans (hL j hj).1)⟩)
        · refine pw_iconst (pc2 := 54) (v := 1) dX10_isOther_53 rfl (by decide) ?_
          refine pw_goto (tgt := 58) dX10_isOther_54 (by decide) ?_
          refine pw_iret dX10_isOther_58 rfl (by first | rfl | assumption | simp [narrow]) ?_
          first
            | (refine bR_1 (fun z => ?_); exact z.1 (e66.symm.trans c6))
            | (refine bR_1 (fun z => ?_); exact c21 (e62.trans (z.2.1.symm.trans (hcc.1).symm)))
            | (refine bR_1 (fun z => ?_); exact c36 (e63.trans (z.2.2.1.symm.trans (hcc.2.1).symm)))
            | (refine bR_1 (fun z => ?_); obtain ⟨-, -, L, e69, hL⟩ := hcc; exact c50 (((bts_eq _ _).mpr (fun j hj => by rw [e91]; exact ((nbk_p (e3 j hj).1).trans (z.2.2.2 j hj)).trans (hL j hj).1.symm)).trans e69.symm))
set_option maxHeartbeats 4000000 in
set_option maxRecDepth 100000 in
theorem c_isNeeded (G : hG) (h : hp) {A : aT} {σ : sT} (H : WM G h A σ) (hS : RS σ) (hC : RC σ) {p : Nat} (hp : p < npk σ) {ofr : Nat → Nat} (hR : RR σ ofr) {g' : Nat → Option Nat} (hgb : pkB σ g') (hCC : ∀ j, j < 6 → σ.1 90 0 j = enc (g' j)) (hnd : ∀ j, j < 6 → ¬ σ.1 24 p j = 0 → ∃ x, g' j = some x) : PMet G MX10_isNeeded 3 0 0 [.ref (A 60 0), .int (nI p)] h (bR (¬ bOk σ p g') h) noX := by
  have hnp := H.iv.1
  have h20 := H.iv.2.2.1
  have hp6 : p < 6 := by omega
  obtain ⟨e62, e63, e91, e92, e3, -⟩ := hS p hp
  refine PMet.of (by decide +kernel) (Nat.le_of_ble_eq_true rfl) (fun d hd => ?_)
  refine PW.sub (L2 := [(0, Value.ref (A 60 0)), (1, Value.int (nI p))]) [0, 1] rfl ?_
  refine pw_aload_n (pc2 := 1) dX10_isNeeded_0 rfl rfl 0 rfl (by first | exact rf_ref _ | exact rf_opt _ | exact rf_nul) ?_
  refine pw_iload_n (pc2 := 2) dX10_isNeeded_1 rfl rfl 1 rfl ?_
  refine pw_callVb (pc2 := 5) (c_isOther G _ H hS hC hp) cs_X10_162 rfl rfl H.c60 dX10_isNeeded_2 rfl (by omega) rfl (by first | decide | simp [cat_rf, Value.category]) (fun q2 => ?_) (fun q2 => ?_)
  · refine pw_istore_n (pc2 := 6) (L2 := [(2, Value.int 1), (0, Value.ref (A 60 0)), (1, Value.int (nI p))]) dX10_isNeeded_5 rfl rfl (by decide) rfl ?_
    refine pw_iconst (pc2 := 7) (v := 0) dX10_isNeeded_6 rfl (by decide) ?_
    refine pw_istore_n (pc2 := 8) (L2 := [(3, Value.int 0), (2, Value.int 1), (0, Value.ref (A 60 0)), (1, Value.int (nI p))]) dX10_isNeeded_7 rfl rfl (by decide) rfl ?_
    have loop : ∀ (k i : Nat) (ac : Int32) (hac : (ac = 1 ∧ ¬ bOk σ p g') ∨ (ac = 0 ∧ smB σ p ∧ ∀ j, j < i → ¬ σ.1 24 p j = 0 → σ.1 26 p j = nfG σ (σ.1 24 p) g' j)), i + k = 6 → PW G MX10_isNeeded d noA (E0 G (bR (¬ bOk σ p g') h) noX) 0 0 8 [(3, Value.int (nI i)), (2, Value.int ac), (0, Value.ref (A 60 0)), (1, Value.int (nI p))] [] h := by
      intro k
      induction k with
      | zero =>
        intro i ac hac hik
        have hi9 : i = 6 := by omega
        refine pw_iload_n (pc2 := 9) dX10_isNeeded_8 rfl rfl 0 rfl ?_
        refine pw_bipush (pc2 := 11) (v := 6) dX10_isNeeded_9 rfl (by decide) ?_
        refine pw_icmp_ge (tgt := 63) (pc2 := 14) dX10_isNeeded_11 (by decide) rfl (fun _ => ?_) (fun c11 => by exact absurd (by first | (rw [hi9]; exact Int32.le_refl _) | exact fun q => absurd ((l6 (by omega)).mp q) (by omega)) c11)
        refine pw_iload_n (pc2 := 64) dX10_isNeeded_63 rfl rfl 1 rfl ?_
        have hb01 : b01 ac := by rcases hac with ⟨q, _⟩ | ⟨q, _⟩; exact Or.inr q; exact Or.inl q
        refine pw_iret dX10_isNeeded_64 rfl (nar_b2 hb01) ?_
        rcases hac with ⟨rfl, q⟩ | ⟨rfl, hsm, hall⟩
        · exact bR_1 q
        · first | exact absurd c15 (by decide) | exact absurd rfl c15 | (subst hi9; exact bR_0 (Classical.not_not.mpr ((bOk_sm hR hgb hnd).mpr ⟨hsm, hall⟩)))
      | succ k ih =>
        intro i ac hac hik
        have hi9 : i < 6 := by omega
        refine pw_iload_n (pc2 := 9) dX10_isNeeded_8 rfl rfl 0 rfl ?_
        refine pw_bipush (pc2 := 11) (v := 6) dX10_isNeeded_9 rfl (by decide) ?_
        refine pw_icmp_ge (tgt := 63) (pc2 := 14) dX10_isNeeded_11 (by decide) rfl (fun c11 => by exact absurd c11 (by first | (rw [hi9]; exact Int32.le_refl _) | exact fun q => absurd ((l6 (by omega)).mp q) (by omega))) (fun _ => ?_)
        refine pw_iload_n (pc2 := 15) dX10_isNeeded_14 rfl rfl 1 rfl ?_
        refine pw_if_ne (tgt := 63) (pc2 := 18) dX10_isNeeded_15 (by decide) rfl (fun c15 => ?_) (fun c15 => ?_)
        · refine pw_iload_n (pc2 := 64) dX10_isNeeded_63 rfl rfl 1 rfl ?_
          have hb01 : b01 ac := by rcases hac with ⟨q, _⟩ | ⟨q, _⟩; exact Or.inr q; exact Or.inl q
          refine pw_iret dX10_isNeeded_64 rfl (nar_b2 hb01) ?_
          rcases hac with ⟨rfl, q⟩ | ⟨rfl, hsm, hall⟩
          · exact bR_1 q
          · first | exact absurd c15 (by decide) | exact absurd rfl c15 | (subst hi9; exact bR_0 (Classical.not_not.mpr ((bOk_sm hR hgb hnd).mpr ⟨hsm, hall⟩)))
        · refine pw_aload_n (pc2 := 19) dX10_isNeeded_18 rfl rfl 2 rfl (by first | exact rf_ref _ | exact rf_opt _ | exact rf_nul) ?_
          refine pw_get (pc2 := 22) kX10 (k := 3) (by decide) rfl fl_X10_21 H.c60 rfl dX10_isNeeded_19 rfl ?_
          refine pw_iload_n (pc2 := 23) dX10_isNeeded_22 rfl rfl 3 rfl ?_
          refine pw_aaldN (pc2 := 24) 6 rfl rfl H.c64 (i := p) (by first | assumption | omega) (by omega) dX10_isNeeded_23 rfl ?_
          refine pw_topV (rowv (by first | assumption | omega)) ?_
          refine pw_iload_n (pc2 := 25) dX10_isNeeded_24 rfl rfl 0 rfl ?_
          refine pw_ialdN (pc2 := 26) (H.c91 hp6) (i := i) (by first | assumption | omega) (by omega) dX10_isNeeded_25 rfl ?_
          refine pw_if_le (tgt := 55) (pc2 := 29) dX10_isNeeded_26 (by decide) rfl (fun c26 => ?_) (fun c26 => ?_)
          · refine pw_iconst (pc2 := 56) (v := 0) dX10_isNeeded_55 rfl (by decide) ?_
            refine pw_istore_n (pc2 := 57) (L2 := [(2, Value.int 0), (3, Value.int (nI i)), (0, Value.ref (A 60 0)), (1, Value.int (nI p))]) dX10_isNeeded_56 rfl rfl (by decide) rfl ?_
            refine pw_iinc (pc2 := 60) (v := nI (i + 1)) (L2 := [(3, Value.int (nI (i + 1))), (2, Value.int 0), (0, Value.ref (A 60 0)), (1, Value.int (nI p))]) dX10_isNeeded_57 rfl 1 rfl (by show nI _ + 1 = nI _; exact nI_1 _) (by decide) rfl ?_
            refine pw_goto (tgt := 8) dX10_isNeeded_60 (by decide) ?_
            refine PW.sub (L2 := [(3, Value.int (nI (i + 1))), (2, Value.int 0), (0, Value.ref (A 60 0)), (1, Value.int (nI p))]) [0, 1, 2, 3] rfl ?_
            refine ih (i + 1) 0 ?_ (by omega)
            obtain ⟨-, hsm, hall⟩ : ac = 0 ∧ smB σ p ∧ ∀ j, j < i → ¬ σ.1 24 p j = 0 → σ.1 26 p j = nfG σ (σ.1 24 p) g' j := hac.resolve_left (fun z => absurd (z.1.symm.trans c15) (by decide))
            have hcc := (hC p hp).2.resolve_left hsm.1
            obtain ⟨-, -, L, -, hL⟩ := hcc
            refine Or.inr ⟨rfl, hsm, fun j hj hg => ?_⟩
            by_cases ej : j = i
            · subst ej
              first | (exact absurd ((nbk_p (e3 j hi9).1).mpr hg) (Int32.not_lt.mpr (by rw [← e91]; exact c26))) | (exact ((hL j hi9).2 ((hL j hi9).1.mpr ((hsm.2.2.2 j hi9).mp hgi0))).symm.trans (c48.symm.trans (nfG_s hgi hgi0).symm))
            · exact hall j (by omega) hg
          · have hgi0 : ¬ σ.1 24 p i = 0 := (nbk_p (e3 i hi9).1).mp (by have q := Int32.not_le.mp c26; rw [e91] at q; exact q)
            obtain ⟨x, hgi⟩ := hnd i hi9 hgi0
            have hx := hgb i x hgi
            refine pw_aload_n (pc2 := 30) dX10_isNeeded_29 rfl rfl 2 rfl (by first | exact rf_ref _ | exact rf_opt _ | exact rf_nul) ?_
            refine pw_get (pc2 := 33) kX10 (k := 19) (by decide) rfl fl_X10_67 H.c60 rfl dX10_isNeeded_30 rfl ?_
            refine pw_aload_n (pc2 := 34) dX10_isNeeded_33 rfl rfl 2 rfl (by first | exact rf_ref _ | exact rf_opt _ | exact rf_nul) ?_
            refine pw_get (pc2 := 37) kX10 (k := 36) (by decide) rfl fl_X10_106 H.c60 rfl dX10_isNeeded_34 rfl ?_
            refine pw_iload_n (pc2 := 38) dX10_isNeeded_37 rfl rfl 0 rfl ?_
            refine pw_ialdN (pc2 := 39) H.c90 (i := i) (by first | assumption | omega) (by omega) dX10_isNeeded_38 rfl ?_
            refine pw_topE ((hCC i hi9).trans (by rw [hgi]; rfl : enc (g' i) = nI x)) ?_
            refine pw_ialdN (pc2 := 40) H.c79 (i := x) (by first | assumption | omega) (by omega) dX10_isNeeded_39 rfl ?_
            refine pw_topE ((hR.1.1 x hx).2.2.2.1) ?_
            refine pw_aload_n (pc2 := 41) dX10_isNeeded_40 rfl rfl 2 rfl (by first | exact rf_ref _ | exact rf_opt _ | exact rf_nul) ?_
            refine pw_get (pc2 := 44) kX10 (k := 9) (by decide) rfl fl_X10_40 H.c60 rfl dX10_isNeeded_41 rfl ?_
            refine pw_iload_n (pc2 := 45) dX10_isNeeded_44 rfl rfl 3 rfl ?_
            refine pw_aaldN (pc2 := 46) 6 rfl rfl H.c70 (i := p) (by first | assumption | omega) (by omega) dX10_isNeeded_45 rfl ?_
            refine pw_topV (rowv (by first | assumption | omega)) ?_
            refine pw_iload_n (pc2 := 47) dX10_isNeeded_46 rfl rfl 0 rfl ?_
            refine pw_ialdN (pc2 := 48) (H.c93 hp6) (i := i) (by first | assumption | omega) (by omega) dX10_isNeeded_47 rfl ?_
            refine pw_icmp_eq (tgt := 55) (pc2 := 51) dX10_isNeeded_48 (by decide) rfl (fun c48 => ?_) (fun c48 => ?_)
            · refine pw_iconst (pc2 := 56) (v := 0) dX10_isNeeded_55 rfl (by decide) ?_
              refine pw_istore_n (pc2 := 57) (L2 := [(2, Value.int 0), (3, Value.int (nI i)), (0, Value.ref (A 60 0)), (1, Value.int (nI p))]) dX10_isNeeded_56 rfl rfl (by decide) rfl ?_
              refine pw_iinc (pc2 := 60) (v := nI (i + 1)) (L2 := [(3, Value.int (nI (i + 1))), (2, Value.int 0), (0, Value.ref (A 60 0)), (1, Value.int (nI p))]) dX10_isNeeded_57 rfl 1 rfl (by show nI _ + 1 = nI _; exact nI_1 _) (by decide) rfl ?_
              refine pw_goto (tgt := 8) dX10_isNeeded_60 (by decide) ?_
              refine PW.sub (L2 := [(3, Value.int (nI (i + 1))), (2, Value.int 0), (0, Value.ref (A 60 0)), (1, Value.int (nI p))]) [0, 1, 2, 3] rfl ?_
              refine ih (i + 1) 0 ?_ (by omega)
              obtain ⟨-, hsm, hall⟩ : ac = 0 ∧ smB σ p ∧ ∀ j, j < i → ¬ σ.1 24 p j = 0 → σ.1 26 p j = nfG σ (σ.1 24 p) g' j := hac.resolve_left (fun z => absurd (z.1.symm.trans c15) (by decide))
              have hcc := (hC p hp).2.resolve_left hsm.1
              obtain ⟨-, -, L, -, hL⟩ := hcc
              refine Or.inr ⟨rfl, hsm, fun j hj hg => ?_⟩
              by_cases ej : j = i
              · subst ej
                first | (exact absurd ((nbk_p (e3 j hi9).1).mpr hg) (Int32.not_lt.mpr (by rw [← e91]; exact c26))) | (exact ((hL j hi9).2 ((hL j hi9).1.mpr ((hsm.2.2.2 j hi9).mp hgi0))).symm.trans (c48.symm.trans (nfG_s hgi hgi0).symm))
              · exact hall j (by omega) hg
            · refine pw_iconst (pc2 := 52) (v := 1) dX10_isNeeded_51 rfl (by decide) ?_
              refine pw_goto (tgt := 56) dX10_isNeeded_52 (by decide) ?_
              refine pw_istore_n (pc2 := 57) (L2 := [(2, Value.int 1), (3, Value.int (nI i)), (0, Value.ref (A 60 0)), (1, Value.int (nI p))]) dX10_isNeeded_56 rfl rfl (by decide) rfl ?_
              refine pw_iinc (pc2 := 60) (v := nI (i + 1)) (L2 := [(3, Value.int (nI (i + 1))), (2, Value.int 1), (0, Value.ref (A 60 0)), (1, Value.int (nI p))]) dX10_isNeeded_57 rfl 1 rfl (by show nI _ + 1 = nI _; exact nI_1 _) (by decide) rfl ?_
              refine pw_goto (tgt := 8) dX10_isNeeded_60 (by decide) ?_
              refine PW.sub (L2 := [(3, Value.int (nI (i + 1))), (2, Value.int 1), (0, Value.ref (A 60 0)), (1, Value.int (nI p))]) [0, 1, 2, 3] rfl ?_
              refine ih (i + 1) 1 ?_ (by omega)
              obtain ⟨-, hsm, hall⟩ : ac = 0 ∧ smB σ p ∧ ∀ j, j < i → ¬ σ.1 24 p j = 0 → σ.1 26 p j = nfG σ (σ.1 24 p) g' j := hac.resolve_left (fun z => absurd (z.1.symm.trans c15) (by decide))
              have hcc := (hC p hp).2.resolve_left hsm.1
              obtain ⟨-, -, L, -, hL⟩ := hcc
              refine Or.inl ⟨rfl, fun z => c48 ?_⟩
              exact (nfG_s hgi hgi0).symm.trans ((z.2.2.2 i hi9).symm.trans ((hL i hi9).2 ((hL i hi9).1.mpr ((hsm.2.2.2 i hi9).mp hgi0))).symm)
    refine PW.sub (L2 := [(3, Value.int 0), (2, Value.int 1), (0, Value.ref (A 60 0)), (1, Value.int (nI p))]) [0, 1, 2, 3] rfl ?_
    exact loop 6 0 1 (Or.inl ⟨rfl, fun z => q2 ((bOk_sm hR hgb hnd).mp z).1⟩) (by omega)
  · refine pw_istore_n (pc2 := 6) (L2 := [(2, Value.int 0), (0, Value.ref (A 60 0)), (1, Value.int (nI p))]) dX10_isNeeded_5 rfl rfl (by decide) rfl ?_
    refine pw_iconst (pc2 := 7) (v := 0) dX10_isNeeded_6 rfl (by decide) ?_
    refine pw_istore_n (pc2 := 8) (L2 := [(3, Value.int 0), (2, Value.int 0), (0, Value.ref (A 60 0)), (1, Value.int (nI p))]) dX10_isNeeded_7 rfl rfl (by decide) rfl ?_
    have loop : ∀ (k i : Nat) (ac : Int32) (hac : (ac = 1 ∧ ¬ bOk σ p g') ∨ (ac = 0 ∧ smB σ p ∧ ∀ j, j < i → ¬ σ.1 24 p j = 0 → σ.1 26 p j = nfG σ (σ.1 24 p) g' j)), i + k = 6 → PW G MX10_isNeeded d noA (E0 G (bR (¬ bOk σ p g') h) noX) 0 0 8 [(3, Value.int (nI i)), (2, Value.int ac), (0, Value.ref (A 60 0)), (1, Value.int (nI p))] [] h := by
      intro k
      induction k with
      | zero =>
        intro i ac hac hik
        have hi9 : i = 6 := by omega
        refine pw_iload_n (pc2 := 9) dX10_isNeeded_8 rfl rfl 0 rfl ?_
        refine pw_bipush (pc2 := 11) (v := 6) dX10_isNeeded_9 rfl (by decide) ?_
        refine pw_icmp_ge (tgt := 63) (pc2 := 14) dX10_isNeeded_11 (by decide) rfl (fun _ => ?_) (fun c11 => by exact absurd (by first | (rw [hi9]; exact Int32.le_refl _) | exact fun q => absurd ((l6 (by omega)).mp q) (by omega)) c11)
        refine pw_iload_n (pc2 := 64) dX10_isNeeded_63 rfl rfl 1 rfl ?_
        have hb01 : b01 ac := by rcases hac with ⟨q, _⟩ | ⟨q, _⟩; exact Or.inr q; exact Or.inl q
        refine pw_iret dX10_isNeeded_64 rfl (nar_b2 hb01) ?_
        rcases hac with ⟨rfl, q⟩ | ⟨rfl, hsm, hall⟩
        · exact bR_1 q
        · first | exact absurd c15 (by decide) | exact absurd rfl c15 | (subst hi9; exact bR_0 (Classical.not_not.mpr ((bOk_sm hR hgb hnd).mpr ⟨hsm, hall⟩)))
      | succ k ih =>
        intro i ac hac hik
        have hi9 : i < 6 := by omega
        refine pw_iload_n (pc2 := 9) dX10_isNeeded_8 rfl rfl 0 rfl ?_
        refine pw_bipush (pc2 := 11) (v := 6) dX10_isNeeded_9 rfl (by decide) ?_
        refine pw_icmp_ge (tgt := 63) (pc2 := 14) dX10_isNeeded_11 (by decide) rfl (fun c11 => by exact absurd c11 (by first | (rw [hi9]; exact Int32.le_refl _) | exact fun q => absurd ((l6 (by omega)).mp q) (by omega))) (fun _ => ?_)
        refine pw_iload_n (pc2 := 15) dX10_isNeeded_14 rfl rfl 1 rfl ?_
        refine pw_if_ne (tgt := 63) (pc2 := 18) dX10_isNeeded_15 (by decide) rfl (fun c15 => ?_) (fun c15 => ?_)
        · refine pw_iload_n (pc2 := 64) dX10_isNeeded_63 rfl rfl 1 rfl ?_
          have hb01 : b01 ac := by rcases hac with ⟨q, _⟩ | ⟨q, _⟩; exact Or.inr q; exact Or.inl q
          refine pw_iret dX10_isNeeded_64 rfl (nar_b2 hb01) ?_
          rcases hac with ⟨rfl, q⟩ | ⟨rfl, hsm, hall⟩
          · exact bR_1 q
          · first | exact absurd c15 (by decide) | exact absurd rfl c15 | (subst hi9; exact bR_0 (Classical.not_not.mpr ((bOk_sm hR hgb hnd).mpr ⟨hsm, hall⟩)))
        · refine pw_aload_n (pc2 := 19) dX10_isNeeded_18 rfl rfl 2 rfl (by first | exact rf_ref _ | exact rf_opt _ | exact rf_nul) ?_
          refine pw_get (pc2 := 22) kX10 (k := 3) (by decide) rfl fl_X10_21 H.c60 rfl dX10_isNeeded_19 rfl ?_
          refine pw_iload_n (pc2 := 23) dX10_isNeeded_22 rfl rfl 3 rfl ?_
          refine pw_aaldN (pc2 := 24) 6 rfl rfl H.c64 (i := p) (by first | assumption | omega) (by omega) dX10_isNeeded_23 rfl ?_
          refine pw_topV (rowv (by first | assumption | omega)) ?_
          refine pw_iload_n (pc2 := 25) dX10_isNeeded_24 rfl rfl 0 rfl ?_
          refine pw_ialdN (pc2 := 26) (H.c91 hp6) (i := i) (by first | assumption | omega) (by omega) dX10_isNeeded_25 rfl ?_
          refine pw_if_le (tgt := 55) (pc2 := 29) dX10_isNeeded_26 (by decide) rfl (fun c26 => ?_) (fun c26 => ?_)
          · refine pw_iconst (pc2 := 56) (v := 0) dX10_isNeeded_55 rfl (by decide) ?_
            refine pw_istore_n (pc2 := 57) (L2 := [(2, Value.int 0), (3, Value.int (nI i)), (0, Value.ref (A 60 0)), (1, Value.int (nI p))]) dX10_isNeeded_56 rfl rfl (by decide) rfl ?_
            refine pw_iinc (pc2 := 60) (v := nI (i + 1)) (L2 := [(3, Value.int (nI (i + 1))), (2, Value.int 0), (0, Value.ref (A 60 0)), (1, Value.int (nI p))]) dX10_isNeeded_57 rfl 1 rfl (by show nI _ + 1 = nI _; exact nI_1 _) (by decide) rfl ?_
            refine pw_goto (tgt := 8) dX10_isNeeded_60 (by decide) ?_
            refine PW.sub (L2 := [(3, Value.int (nI (i + 1))), (2, Value.int 0), (0, Value.ref (A 60 0)), (1, Value.int (nI p))]) [0, 1, 2, 3] rfl ?_
            refine ih (i + 1) 0 ?_ (by omega)
            obtain ⟨-, hsm, hall⟩ : ac = 0 ∧ smB σ p ∧ ∀ j, j < i → ¬ σ.1 24 p j = 0 → σ.1 26 p j = nfG σ (σ.1 24 p) g' j := hac.resolve_left (fun z => absurd (z.1.symm.trans c15) (by decide))
            have hcc := (hC p hp).2.resolve_left hsm.1
            obtain ⟨-, -, L, -, hL⟩ := hcc
            refine Or.inr ⟨rfl, hsm, fun j hj hg => ?_⟩
            by_cases ej : j = i
            · subst ej
              first | (exact absurd ((nbk_p (e3 j hi9).1).mpr hg) (Int32.not_lt.mpr (by rw [← e91]; exact c26))) | (exact ((hL j hi9).2 ((hL j hi9).1.mpr ((hsm.2.2.2 j hi9).mp hgi0))).symm.trans (c48.symm.trans (nfG_s hgi hgi0).symm))
            · exact hall j (by omega) hg
          · have hgi0 : ¬ σ.1 24 p i = 0 := (nbk_p (e3 i hi9).1).mp (by have q := Int32.not_le.mp c26; rw [e91] at q; exact q)
            obtain ⟨x, hgi⟩ := hnd i hi9 hgi0
            have hx := hgb i x hgi
            refine pw_aload_n (pc2 := 30) dX10_isNeeded_29 rfl rfl 2 rfl (by first | exact rf_ref _ | exact rf_opt _ | exact rf_nul) ?_
            refine pw_get (pc2 := 33) kX10 (k := 19) (by decide) rfl fl_X10_67 H.c60 rfl dX10_isNeeded_30 rfl ?_
            refine pw_aload_n (pc2 := 34) dX10_isNeeded_33 rfl rfl 2 rfl (by first | exact rf_ref _ | exact rf_opt _ | exact rf_nul) ?_
            refine pw_get (pc2 := 37) kX10 (k := 36) (by decide) rfl fl_X10_106 H.c60 rfl dX10_isNeeded_34 rfl ?_
            refine pw_iload_n (pc2 := 38) dX10_isNeeded_37 rfl rfl 0 rfl ?_
            refine pw_ialdN (pc2 := 39) H.c90 (i := i) (by first | assumption | omega) (by omega) dX10_isNeeded_38 rfl ?_
            refine pw_topE ((hCC i hi9).trans (by rw [hgi]; rfl : enc (g' i) = nI x)) ?_
            refine pw_ialdN (pc2 := 40) H.c79 (i := x) (by first | assumption | omega) (by omega) dX10_isNeeded_39 rfl ?_
            refine pw_topE ((hR.1.1 x hx).2.2.2.1) ?_
            refine pw_aload_n (pc2 := 41) dX10_isNeeded_40 rfl rfl 2 rfl (by first | exact rf_ref _ | exact rf_opt _ | exact rf_nul) ?_
            refine pw_get (pc2 := 44) kX10 (k := 9) (by decide) rfl fl_X10_40 H.c60 rfl dX10_isNeeded_41 rfl ?_
            refine pw_iload_n (pc2 := 45) dX10_isNeeded_44 rfl rfl 3 rfl ?_
            refine pw_aaldN (pc2 := 46) 6 rfl rfl H.c70 (i := p) (by first | assumption | omega) (by omega) dX10_isNeeded_45 rfl ?_
            refine pw_topV (rowv (by first | assumption | omega)) ?_
            refine pw_iload_n (pc2 := 47) dX10_isNeeded_46 rfl rfl 0 rfl ?_
            refine pw_ialdN (pc2 := 48) (H.c93 hp6) (i := i) (by first | assumption | omega) (by omega) dX10_isNeeded_47 rfl ?_
            refine pw_icmp_eq (tgt := 55) (pc2 := 51) dX10_isNeeded_48 (by decide) rfl (fun c48 => ?_) (fun c48 => ?_)
            · refine pw_iconst (pc2 := 56) (v := 0) dX10_isNeeded_55 rfl (by decide) ?_
              refine pw_istore_n (pc2 := 57) (L2 := [(2, Value.int 0), (3, Value.int (nI i)), (0, Value.ref (A 60 0)), (1, Value.int (nI p))]) dX10_isNeeded_56 rfl rfl (by decide) rfl ?_
              refine pw_iinc (pc2 := 60) (v := nI (i + 1)) (L2 := [(3, Value.int (nI (i + 1))), (2, Value.int 0), (0, Value.ref (A 60 0)), (1, Value.int (nI p))]) dX10_isNeeded_57 rfl 1 rfl (by show nI _ + 1 = nI _; exact nI_1 _) (by decide) rfl ?_
              refine pw_goto (tgt := 8) dX10_isNeeded_60 (by decide) ?_
              refine PW.sub (L2 := [(3, Value.int (nI (i + 1))), (2, Value.int 0), (0, Value.ref (A 60 0)), (1, Value.int (nI p))]) [0, 1, 2, 3] rfl ?_
              refine ih (i + 1) 0 ?_ (by omega)
              obtain ⟨-, hsm, hall⟩ : ac = 0 ∧ smB σ p ∧ ∀ j, j < i → ¬ σ.1 24 p j = 0 → σ.1 26 p j = nfG σ (σ.1 24 p) g' j := hac.resolve_left (fun z => absurd (z.1.symm.trans c15) (by decide))
              have hcc := (hC p hp).2.resolve_left hsm.1
              obtain ⟨-, -, L, -, hL⟩ := hcc
              refine Or.inr ⟨rfl, hsm, fun j hj hg => ?_⟩
              by_cases ej : j = i
              · subst ej
                first | (exact absurd ((nbk_p (e3 j hi9).1).mpr hg) (Int32.not_lt.mpr (by rw [← e91]; exact c26))) | (exact ((hL j hi9).2 ((hL j hi9).1.mpr ((hsm.2.2.2 j hi9).mp hgi0))).symm.trans (c48.symm.trans (nfG_s hgi hgi0).symm))
              · exact hall j (by omega) hg
            · refine pw_iconst (pc2 := 52) (v := 1) dX10_isNeeded_51 rfl (by decide) ?_
              refine pw_goto (tgt := 56) dX10_isNeeded_52 (by decide) ?_
              refine pw_istore_n (pc2 := 57) (L2 := [(2, Value.int 1), (3, Value.int (nI i)), (0, Value.ref (A 60 0)), (1, Value.int (nI p))]) dX10_isNeeded_56 rfl rfl (by decide) rfl ?_
              refine pw_iinc (pc2 := 60) (v := nI (i + 1)) (L2 := [(3, Value.int (nI (i + 1))), (2, Value.int 1), (0, Value.ref (A 60 0)), (1, Value.int (nI p))]) dX10_isNeeded_57 rfl 1 rfl (by show nI _ + 1 = nI _; exact nI_1 _) (by decide) rfl ?_
              refine pw_goto (tgt := 8) dX10_isNeeded_60 (by decide) ?_
              refine PW.sub (L2 := [(3, Value.int (nI (i + 1))), (2, Value.int 1), (0, Value.ref (A 60 0)), (1, Value.int (nI p))]) [0, 1, 2, 3] rfl ?_
              refine ih (i + 1) 1 ?_ (by omega)
              obtain ⟨-, hsm, hall⟩ : ac = 0 ∧ smB σ p ∧ ∀ j, j < i → ¬ σ.1 24 p j = 0 → σ.1 26 p j = nfG σ (σ.1 24 p) g' j := hac.resolve_left (fun z => absurd (z.1.symm.trans c15) (by decide))
              have hcc := (hC p hp).2.resolve_left hsm.1
              obtain ⟨-, -, L, -, hL⟩ := hcc
              refine Or.inl ⟨rfl, fun z => c48 ?_⟩
              exact (nfG_s hgi hgi0).symm.trans ((z.2.2.2 i hi9).symm.trans ((hL i hi9).2 ((hL i hi9).1.mpr ((hsm.2.2.2 i hi9).mp hgi0))).symm)
    refine PW.sub (L2 := [(3, Value.int 0), (2, Value.int 0), (0, Value.ref (A 60 0)), (1, Value.int (nI p))]) [0, 1, 2, 3] rfl ?_
    exact loop 6 0 0 (Or.inr ⟨rfl, Classical.not_not.mp q2, fun j hj => absurd hj (Nat.not_lt_zero j)⟩) (by omega)
theorem srS_I {σ : sT} {t i p : Nat} {F : Nat → Int32} (ht : 60 ≤ t) : srS (setI σ t i F) p = srS σ p := by
  have e : ∀ u j, u < 60 → (setI σ t i F).1 u j = σ.1 u j := fun u j hu => setI_n (Or.inl (by omega))
  show srch (setI σ t i F).1 (setI σ t i F).2.1 ((setI σ t i F).1 23 p) ((setI σ t i F).1 24 p) p zN = _
  rw [e 23 p (by decide), e 24 p (by decide)]
  exact srch_cg (fun r => e 40 r (by decide)) (fun r => e 42 r (by decide)) (fun r => e 43 r (by decide)) p zN
theorem srS_th {σ : sT} {v : Int32} {p : Nat} : srS (thS σ v) p = srS σ p := srS_I (by decide)
theorem srS_nd {σ : sT} (hS : RS σ) {p : Nat} (hp : p < npk σ) {g' : Nat → Option Nat} (hs : srS σ p = some g') : ∀ j, j < 6 → ¬ σ.1 24 p j = 0 → ∃ x, g' j = some x := fun j hj hg => by
  obtain ⟨-, -, -, -, e3, -⟩ := hS p hp
  have hjp : j < p := Nat.lt_of_not_le (fun q => hg ((e3 j hj).2 q))
  exact ((srch_pk p _ _ hs).2 j hjp).1 hg
def mCP (σ : sT) (p : Nat) (C R : Nat → Int32) : sT := setI (setI (setI (setI (setI (setI (setI (thS σ 0) 90 0 C) 66 0 (upd (σ.1 66 0) p 1)) 67 0 (upd (σ.1 67 0) p (σ.1 62 0 p))) 68 0 (upd (σ.1 68 0) p (σ.1 63 0 p))) 69 0 (upd (σ.1 69 0) p (bts (σ.1 91 p) 6))) 93 p R) 60 0 (upd (upd (σ.1 60 0) 7 0) 4 (σ.1 60 0 4 + 1))
set_option maxHeartbeats 4000000 in
set_option maxRecDepth 100000 in
theorem c_mcompile (G : hG) (h : hp) {A : aT} {σ : sT} (H : WM G h A σ) (hb : MB σ) {ofr : Nat → Nat} (hRR : RR σ ofr) (hS : RS σ) (hC : RC σ) (n : Int32) : PMet G MX10_compile 11 0 0 [.ref (A 60 0), .int n] h (fun r h2 => (¬ inR n (npk σ) ∧ QSM G h A (.int 0) (thS σ 1) r h2) ∨ (∃ p, p < npk σ ∧ n = nI p ∧ ((srS σ p = none ∧ ∃ C, QSM G h A (.int 0) (thS (setI (thS σ 0) 90 0 C) 2) r h2) ∨ (∃ g' C, srS σ p = some g' ∧ pkB σ g' ∧ ((bOk σ p g' ∧ QSM G h A (.int 0) (setI (thS σ 0) 90 0 C) r h2) ∨ (¬ bOk σ p g' ∧ ∃ R, (∀ j, j < 6 → 0 < σ.1 91 p j → R j = nfG σ (σ.1 24 p) g' j) ∧ QSM G h A (.int 1) (mCP σ p C R) r h2)))))) noX := by
  have hnp := H.iv.1
  have h20 := H.iv.2.2.1
  refine PMet.of (by decide +kernel) (Nat.le_of_ble_eq_true rfl) (fun d hd => ?_)
  refine PW.sub (L2 := [(0, Value.ref (A 60 0)), (1, Value.int n)]) [0, 1] rfl ?_
  refine pw_aload_n (pc2 := 1) dX10_compile_0 rfl rfl 0 rfl (by first | exact rf_ref _ | exact rf_opt _ | exact rf_nul) ?_
  refine pw_iload_n (pc2 := 2) dX10_compile_1 rfl rfl 1 rfl ?_
  refine pw_callV (pc2 := 5) (c_lacks G _ H hb n) cs_X10_123 rfl rfl H.c60 dX10_compile_2 rfl (by omega) rfl (by first | decide | simp [cat_rf, Value.category]) (fun r9 h9 q9 => ?_) (fun Y h9 q9 => q9.elim)
  rcases q9 with ⟨hin, rfl, K1, FK1⟩ | ⟨hin, rfl, K1, FK1⟩
  · obtain ⟨p, hpp, rfl⟩ := inR_ex (by omega) hin
    have hp6 : p < 6 := by omega
    have c60K1 : h9 (A 60 0) = some (oB 13 [.ref (A 61 0), .ref (A 62 0), .ref (A 63 0), .ref (A 64 0), .ref (A 65 0), .ref (A 66 0), .ref (A 67 0), .ref (A 68 0), .ref (A 69 0), .ref (A 70 0), .ref (A 71 0), .ref (A 72 0), .ref (A 73 0), .ref (A 74 0), .ref (A 75 0), .ref (A 76 0), .int (σ.1 60 0 0), .ref (A 77 0), .ref (A 78 0), .ref (A 79 0), .ref (A 80 0), .ref (A 81 0), .ref (A 82 0), .ref (A 83 0), .int (σ.1 60 0 1), .ref (A 84 0), .ref (A 85 0), .ref (A 86 0), .ref (A 87 0), .ref (A 88 0), .int (σ.1 60 0 2), .int (σ.1 60 0 3), .ref (A 89 0), .int (σ.1 60 0 4), .int (σ.1 60 0 5), .int (σ.1 60 0 6), .ref (A 90 0), .int 0]) := K1.c60
    obtain ⟨e62, e63, e91, e92, e3, -⟩ := hS p hpp
    refine pw_if_eq (tgt := 10) (pc2 := 8) dX10_compile_5 (by decide) rfl (fun _ => ?_) (fun c5 => by exact absurd (by decide) c5)
    refine pw_aload_n (pc2 := 11) dX10_compile_10 rfl rfl 0 rfl (by first | exact rf_ref _ | exact rf_opt _ | exact rf_nul) ?_
    refine pw_iload_n (pc2 := 12) dX10_compile_11 rfl rfl 1 rfl ?_
    refine pw_callV (pc2 := 15) (c_mforp G _ K1 hb hRR.1 hS hpp) cs_X10_152 rfl rfl c60K1 dX10_compile_12 rfl (by omega) rfl (by first | decide | simp [cat_rf, Value.category]) (fun r9 h8 q8 => ?_) (fun Y h9 q9 => q9.elim)
    cases hs : srS σ p with
    | none =>
      obtain ⟨rfl, C, e9⟩ := q8.2 (srS_th.trans hs)
      obtain ⟨K0, FK0⟩ := K1.wIF FK1 (t := 90) (i := 0) (f := C) rfl (by decide) (iv_setI K1.iv (by decide)) rfl
      replace K0 : WM G h8 A (setI (thS σ 0) 90 0 C) := by rw [e9]; exact K0
      replace FK0 : FM A h h8 := by rw [e9]; exact FK0
      clear e9
      have c60K0 : h8 (A 60 0) = some (oB 13 [.ref (A 61 0), .ref (A 62 0), .ref (A 63 0), .ref (A 64 0), .ref (A 65 0), .ref (A 66 0), .ref (A 67 0), .ref (A 68 0), .ref (A 69 0), .ref (A 70 0), .ref (A 71 0), .ref (A 72 0), .ref (A 73 0), .ref (A 74 0), .ref (A 75 0), .ref (A 76 0), .int (σ.1 60 0 0), .ref (A 77 0), .ref (A 78 0), .ref (A 79 0), .ref (A 80 0), .ref (A 81 0), .ref (A 82 0), .ref (A 83 0), .int (σ.1 60 0 1), .ref (A 84 0), .ref (A 85 0), .ref (A 86 0), .ref (A 87 0), .ref (A 88 0), .int (σ.1 60 0 2), .int (σ.1 60 0 3), .ref (A 89 0), .int (σ.1 60 0 4), .int (σ.1 60 0 5), .int (σ.1 60 0 6), .ref (A 90 0), .int 0]) := K0.c60
      refine pw_if_ne (tgt := 25) (pc2 := 18) dX10_compile_15 (by decide) rfl (fun c15 => by exact absurd (by decide) c15) (fun _ => ?_)
      refine pw_aload_n (pc2 := 19) dX10_compile_18 rfl rfl 0 rfl (by first | exact rf_ref _ | exact rf_opt _ | exact rf_nul) ?_
      refine pw_iconst (pc2 := 20) (v := 2) dX10_compile_19 rfl (by decide) ?_
      refine pw_put (pc2 := 23) kX10 (k := 37) (by decide) rfl rfl fl_X10_109 c60K0 (by first | decide | simp) (by first | rfl | exact nar_rf _ _) (by first | rfl | exact fit_rf _ _) dX10_compile_20 rfl ?_
      obtain ⟨K1x, FK1x⟩ := K0.wIF (FK0) (t := 60) (i := 0) (f := (upd (upd (σ.1 60 0) 7 0) 7 2)) rfl (by decide) (iv_setI K0.iv (by decide)) rfl
      obtain ⟨h7, eh7⟩ : ∃ z : Nat → Option hE, z = va_up h8 (A 60 0) (some (oB 13 [.ref (A 61 0), .ref (A 62 0), .ref (A 63 0), .ref (A 64 0), .ref (A 65 0), .ref (A 66 0), .ref (A 67 0), .ref (A 68 0), .ref (A 69 0), .ref (A 70 0), .ref (A 71 0), .ref (A 72 0), .ref (A 73 0), .ref (A 74 0), .ref (A 75 0), .ref (A 76 0), .int (σ.1 60 0 0), .ref (A 77 0), .ref (A 78 0), .ref (A 79 0), .ref (A 80 0), .ref (A 81 0), .ref (A 82 0), .ref (A 83 0), .int (σ.1 60 0 1), .ref (A 84 0), .ref (A 85 0), .ref (A 86 0), .ref (A 87 0), .ref (A 88 0), .int (σ.1 60 0 2), .int (σ.1 60 0 3), .ref (A 89 0), .int (σ.1 60 0 4), .int (σ.1 60 0 5), .int (σ.1 60 0 6), .ref (A 90 0), .int 2])) := ⟨_, rfl⟩
      refine PW.heap (h' := h7) eh7.symm ?_
      replace K1x : WM G h7 A (setI (setI (thS σ 0) 90 0 C) 60 0 (upd (upd (σ.1 60 0) 7 0) 7 2)) := by rw [eh7]; exact K1x
      replace FK1x : FM A h h7 := by rw [eh7]; exact FK1x
      have c60K1xb : h7 (A 60 0) = some (oB 13 [.ref (A 61 0), .ref (A 62 0), .ref (A 63 0), .ref (A 64 0), .ref (A 65 0), .ref (A 66 0), .ref (A 67 0), .ref (A 68 0), .ref (A 69 0), .ref (A 70 0), .ref (A 71 0), .ref (A 72 0), .ref (A 73 0), .ref (A 74 0), .ref (A 75 0), .ref (A 76 0), .int (σ.1 60 0 0), .ref (A 77 0), .ref (A 78 0), .ref (A 79 0), .ref (A 80 0), .ref (A 81 0), .ref (A 82 0), .ref (A 83 0), .int (σ.1 60 0 1), .ref (A 84 0), .ref (A 85 0), .ref (A 86 0), .ref (A 87 0), .ref (A 88 0), .int (σ.1 60 0 2), .int (σ.1 60 0 3), .ref (A 89 0), .int (σ.1 60 0 4), .int (σ.1 60 0 5), .int (σ.1 60 0 6), .ref (A 90 0), .int 2]) := K1x.c60
      refine pw_iconst (pc2 := 24) (v := 0) dX10_compile_23 rfl (by decide) ?_
      refine pw_iret dX10_compile_24 rfl (by first | rfl | assumption | simp [narrow]) ?_
      exact Or.inr ⟨p, hpp, rfl, Or.inl ⟨hs, C, rfl, K1x, FK1x⟩⟩
    | some g' =>
      obtain ⟨rfl, hgb', C, e9, hCC⟩ := q8.1 g' (srS_th.trans hs)
      replace hgb' : pkB σ g' := hgb'
      obtain ⟨K0, FK0⟩ := K1.wIF FK1 (t := 90) (i := 0) (f := C) rfl (by decide) (iv_setI K1.iv (by decide)) rfl
      replace K0 : WM G h8 A (setI (thS σ 0) 90 0 C) := by rw [e9]; exact K0
      replace FK0 : FM A h h8 := by rw [e9]; exact FK0
      clear e9
      have hnd := srS_nd hS hpp hs
      have c60K0 : h8 (A 60 0) = some (oB 13 [.ref (A 61 0), .ref (A 62 0), .ref (A 63 0), .ref (A 64 0), .ref (A 65 0), .ref (A 66 0), .ref (A 67 0), .ref (A 68 0), .ref (A 69 0), .ref (A 70 0), .ref (A 71 0), .ref (A 72 0), .ref (A 73 0), .ref (A 74 0), .ref (A 75 0), .ref (A 76 0), .int (σ.1 60 0 0), .ref (A 77 0), .ref (A 78 0), .ref (A 79 0), .ref (A 80 0), .ref (A 81 0), .ref (A 82 0), .ref (A 83 0), .int (σ.1 60 0 1), .ref (A 84 0), .ref (A 85 0), .ref (A 86 0), .ref (A 87 0), .ref (A 88 0), .int (σ.1 60 0 2), .int (σ.1 60 0 3), .ref (A 89 0), .int (σ.1 60 0 4), .int (σ.1 60 0 5), .int (σ.1 60 0 6), .ref (A 90 0), .int 0]) := K0.c60
      have k660K0 : h8 (A 66 0) = some (aZ 6 (σ.1 66 0)) := K0.c66
      have k670K0 : h8 (A 67 0) = some (aI 6 (σ.1 67 0)) := K0.c67
      have k620K0 : h8 (A 62 0) = some (aI 6 (σ.1 62 0)) := K0.c62
      have k680K0 : h8 (A 68 0) = some (aI 6 (σ.1 68 0)) := K0.c68
      have k630K0 : h8 (A 63 0) = some (aI 6 (σ.1 63 0)) := K0.c63
      have k690K0 : h8 (A 69 0) = some (aI 6 (σ.1 69 0)) := K0.c69
      have k790K0 : h8 (A 79 0) = some (aI 20 (σ.1 79 0)) := K0.c79
      have k900K0 : h8 (A 90 0) = some (aI 6 C) := K0.c90.trans (congrArg (fun w => some (aI 6 w)) (show (setI (thS σ 0) 90 0 C).1 90 0 = C from rfl))
      have k91pK0 : h8 (A 91 p) = some (aI 6 (σ.1 91 p)) := (K0.c91 hp6)
      have k93pK0 : h8 (A 93 p) = some (aI 6 (σ.1 93 p)) := (K0.c93 hp6)
      refine pw_if_ne (tgt := 25) (pc2 := 18) dX10_compile_15 (by decide) rfl (fun _ => ?_) (fun c15 => by exact absurd c15 (by decide))
      refine pw_aload_n (pc2 := 26) dX10_compile_25 rfl rfl 0 rfl (by first | exact rf_ref _ | exact rf_opt _ | exact rf_nul) ?_
      refine pw_iload_n (pc2 := 27) dX10_compile_26 rfl rfl 1 rfl ?_
      refine pw_callVb (pc2 := 30) (c_isNeeded G _ K0 hS hC hpp hRR hgb' hCC hnd) cs_X10_165 rfl rfl c60K0 dX10_compile_27 rfl (by omega) rfl (by first | decide | simp [cat_rf, Value.category]) (fun q27 => ?_) (fun q27 => ?_)
      · refine pw_if_ne (tgt := 35) (pc2 := 33) dX10_compile_30 (by decide) rfl (fun _ => ?_) (fun c30 => by exact absurd c30 (by decide))
        refine pw_aload_n (pc2 := 36) dX10_compile_35 rfl rfl 0 rfl (by first | exact rf_ref _ | exact rf_opt _ | exact rf_nul) ?_
        refine pw_get (pc2 := 39) kX10 (k := 5) (by decide) rfl fl_X10_27 c60K0 rfl dX10_compile_36 rfl ?_
        refine pw_iload_n (pc2 := 40) dX10_compile_39 rfl rfl 1 rfl ?_
        refine pw_iconst (pc2 := 41) (v := 1) dX10_compile_40 rfl (by decide) ?_
        refine pw_zastN (pc2 := 42) k660K0 (i := p) (by first | assumption | omega) (by omega) (by decide) dX10_compile_41 rfl ?_
        obtain ⟨K2, FK2⟩ := K0.wIF (FK0) (t := 66) (i := 0) (f := (upd (σ.1 66 0) p 1)) rfl (by decide) (iv_setI K0.iv (by decide)) rfl
        obtain ⟨h3, eh3⟩ : ∃ z : Nat → Option hE, z = va_up h8 (A 66 0) (some (aZ 6 (upd (σ.1 66 0) p 1))) := ⟨_, rfl⟩
        refine PW.heap (h' := h3) eh3.symm ?_
        replace K2 : WM G h3 A (setI (setI (thS σ 0) 90 0 C) 66 0 (upd (σ.1 66 0) p 1)) := by rw [eh3]; exact K2
        replace FK2 : FM A h h3 := by rw [eh3]; exact FK2
        have c60K2 : h3 (A 60 0) = some (oB 13 [.ref (A 61 0), .ref (A 62 0), .ref (A 63 0), .ref (A 64 0), .ref (A 65 0), .ref (A 66 0), .ref (A 67 0), .ref (A 68 0), .ref (A 69 0), .ref (A 70 0), .ref (A 71 0), .ref (A 72 0), .ref (A 73 0), .ref (A 74 0), .ref (A 75 0), .ref (A 76 0), .int (σ.1 60 0 0), .ref (A 77 0), .ref (A 78 0), .ref (A 79 0), .ref (A 80 0), .ref (A 81 0), .ref (A 82 0), .ref (A 83 0), .int (σ.1 60 0 1), .ref (A 84 0), .ref (A 85 0), .ref (A 86 0), .ref (A 87 0), .ref (A 88 0), .int (σ.1 60 0 2), .int (σ.1 60 0 3), .ref (A 89 0), .int (σ.1 60 0 4), .int (σ.1 60 0 5), .int (σ.1 60 0 6), .ref (A 90 0), .int 0]) := K2.c60
        have k660K2 : h3 (A 66 0) = some (aZ 6 (upd (σ.1 66 0) p 1)) := K2.c66.trans (congrArg (fun w => some (aZ 6 w)) (show (setI (setI (thS σ 0) 90 0 C) 66 0 (upd (σ.1 66 0) p 1)).1 66 0 = (upd (σ.1 66 0) p 1) from setI_s _ _ _))
        have k670K2 : h3 (A 67 0) = some (aI 6 (σ.1 67 0)) := K2.c67
        have k620K2 : h3 (A 62 0) = some (aI 6 (σ.1 62 0)) := K2.c62
        have k680K2 : h3 (A 68 0) = some (aI 6 (σ.1 68 0)) := K2.c68
        have k630K2 : h3 (A 63 0) = some (aI 6 (σ.1 63 0)) := K2.c63
        have k690K2 : h3 (A 69 0) = some (aI 6 (σ.1 69 0)) := K2.c69
        have k790K2 : h3 (A 79 0) = some (aI 20 (σ.1 79 0)) := K2.c79
        have k900K2 : h3 (A 90 0) = some (aI 6 C) := K2.c90.trans (congrArg (fun w => some (aI 6 w)) (show (setI (thS σ 0) 90 0 C).1 90 0 = C from rfl))
        have k91pK2 : h3 (A 91 p) = some (aI 6 (σ.1 91 p)) := (K2.c91 hp6)
        have k93pK2 : h3 (A 93 p) = some (aI 6 (σ.1 93 p)) := (K2.c93 hp6)
        refine pw_aload_n (pc2 := 43) dX10_compile_42 rfl rfl 0 rfl (by first | exact rf_ref _ | exact rf_opt _ | exact rf_nul) ?_
        refine pw_get (pc2 := 46) kX10 (k := 6) (by decide) rfl fl_X10_31 c60K2 rfl dX10_compile_43 rfl ?_
        refine pw_iload_n (pc2 := 47) dX10_compile_46 rfl rfl 1 rfl ?_
        refine pw_aload_n (pc2 := 48) dX10_compile_47 rfl rfl 0 rfl (by first | exact rf_ref _ | exact rf_opt _ | exact rf_nul) ?_
        refine pw_get (pc2 := 51) kX10 (k := 1) (by decide) rfl fl_X10_13 c60K2 rfl dX10_compile_48 rfl ?_
        refine pw_iload_n (pc2 := 52) dX10_compile_51 rfl rfl 1 rfl ?_
        refine pw_ialdN (pc2 := 53) k620K2 (i := p) (by first | assumption | omega) (by omega) dX10_compile_52 rfl ?_
        refine pw_iastN (pc2 := 54) k670K2 (i := p) (by first | assumption | omega) (by omega) dX10_compile_53 rfl ?_
        obtain ⟨K3, FK3⟩ := K2.wIF (FK2) (t := 67) (i := 0) (f := (upd (σ.1 67 0) p ((σ.1 62 0) p))) rfl (by decide) (iv_setI K2.iv (by decide)) rfl
        obtain ⟨h4, eh4⟩ : ∃ z : Nat → Option hE, z = va_up h3 (A 67 0) (some (aI 6 (upd (σ.1 67 0) p ((σ.1 62 0) p)))) := ⟨_, rfl⟩
        refine PW.heap (h' := h4) eh4.symm ?_
        replace K3 : WM G h4 A (setI (setI (setI (thS σ 0) 90 0 C) 66 0 (upd (σ.1 66 0) p 1)) 67 0 (upd (σ.1 67 0) p ((σ.1 62 0) p))) := by rw [eh4]; exact K3
        replace FK3 : FM A h h4 := by rw [eh4]; exact FK3
        have c60K3 : h4 (A 60 0) = some (oB 13 [.ref (A 61 0), .ref (A 62 0), .ref (A 63 0), .ref (A 64 0), .ref (A 65 0), .ref (A 66 0), .ref (A 67 0), .ref (A 68 0), .ref (A 69 0), .ref (A 70 0), .ref (A 71 0), .ref (A 72 0), .ref (A 73 0), .ref (A 74 0), .ref (A 75 0), .ref (A 76 0), .int (σ.1 60 0 0), .ref (A 77 0), .ref (A 78 0), .ref (A 79 0), .ref (A 80 0), .ref (A 81 0), .ref (A 82 0), .ref (A 83 0), .int (σ.1 60 0 1), .ref (A 84 0), .ref (A 85 0), .ref (A 86 0), .ref (A 87 0), .ref (A 88 0), .int (σ.1 60 0 2), .int (σ.1 60 0 3), .ref (A 89 0), .int (σ.1 60 0 4), .int (σ.1 60 0 5), .int (σ.1 60 0 6), .ref (A 90 0), .int 0]) := K3.c60
        have k660K3 : h4 (A 66 0) = some (aZ 6 (upd (σ.1 66 0) p 1)) := K3.c66.trans (congrArg (fun w => some (aZ 6 w)) (show (setI (setI (thS σ 0) 90 0 C) 66 0 (upd (σ.1 66 0) p 1)).1 66 0 = (upd (σ.1 66 0) p 1) from setI_s _ _ _))
        have k670K3 : h4 (A 67 0) = some (aI 6 (upd (σ.1 67 0) p ((σ.1 62 0) p))) := K3.c67.trans (congrArg (fun w => some (aI 6 w)) (show (setI (setI (setI (thS σ 0) 90 0 C) 66 0 (upd (σ.1 66 0) p 1)) 67 0 (upd (σ.1 67 0) p ((σ.1 62 0) p))).1 67 0 = (upd (σ.1 67 0) p ((σ.1 62 0) p)) from setI_s _ _ _))
        have k620K3 : h4 (A 62 0) = some (aI 6 (σ.1 62 0)) := K3.c62
        have k680K3 : h4 (A 68 0) = some (aI 6 (σ.1 68 0)) := K3.c68
        have k630K3 : h4 (A 63 0) = some (aI 6 (σ.1 63 0)) := K3.c63
        have k690K3 : h4 (A 69 0) = some (aI 6 (σ.1 69 0)) := K3.c69
        have k790K3 : h4 (A 79 0) = some (aI 20 (σ.1 79 0)) := K3.c79
        have k900K3 : h4 (A 90 0) = some (aI 6 C) := K3.c90.trans (congrArg (fun w => some (aI 6 w)) (show (setI (thS σ 0) 90 0 C).1 90 0 = C from rfl))
        have k91pK3 : h4 (A 91 p) = some (aI 6 (σ.1 91 p)) := (K3.c91 hp6)
        have k93pK3 : h4 (A 93 p) = some (aI 6 (σ.1 93 p)) := (K3.c93 hp6)
        refine pw_aload_n (pc2 := 55) dX10_compile_54 rfl rfl 0 rfl (by first | exact rf_ref _ | exact rf_opt _ | exact rf_nul) ?_
        refine pw_get (pc2 := 58) kX10 (k := 7) (by decide) rfl fl_X10_34 c60K3 rfl dX10_compile_55 rfl ?_
        refine pw_iload_n (pc2 := 59) dX10_compile_58 rfl rfl 1 rfl ?_
        refine pw_aload_n (pc2 := 60) dX10_compile_59 rfl rfl 0 rfl (by first | exact rf_ref _ | exact rf_opt _ | exact rf_nul) ?_
        refine pw_get (pc2 := 63) kX10 (k := 2) (by decide) rfl fl_X10_16 c60K3 rfl dX10_compile_60 rfl ?_
        refine pw_iload_n (pc2 := 64) dX10_compile_63 rfl rfl 1 rfl ?_
        refine pw_ialdN (pc2 := 65) k630K3 (i := p) (by first | assumption | omega) (by omega) dX10_compile_64 rfl ?_
        refine pw_iastN (pc2 := 66) k680K3 (i := p) (by first | assumption | omega) (by omega) dX10_compile_65 rfl ?_
        obtain ⟨K4, FK4⟩ := K3.wIF (FK3) (t := 68) (i := 0) (f := (upd (σ.1 68 0) p ((σ.1 63 0) p))) rfl (by decide) (iv_setI K3.iv (by decide)) rfl
        obtain ⟨h5, eh5⟩ : ∃ z : Nat → Option hE, z = va_up h4 (A 68 0) (some (aI 6 (upd (σ.1 68 0) p ((σ.1 63 0) p)))) := ⟨_, rfl⟩
        refine PW.heap (h' := h5) eh5.symm ?_
        replace K4 : WM G h5 A (setI (setI (setI (setI (thS σ 0) 90 0 C) 66 0 (upd (σ.1 66 0) p 1)) 67 0 (upd (σ.1 67 0) p ((σ.1 62 0) p))) 68 0 (upd (σ.1 68 0) p ((σ.1 63 0) p))) := by rw [eh5]; exact K4
        replace FK4 : FM A h h5 := by rw [eh5]; exact FK4
        have c60K4 : h5 (A 60 0) = some (oB 13 [.ref (A 61 0), .ref (A 62 0), .ref (A 63 0), .ref (A 64 0), .ref (A 65 0), .ref (A 66 0), .ref (A 67 0), .ref (A 68 0), .ref (A 69 0), .ref (A 70 0), .ref (A 71 0), .ref (A 72 0), .ref (A 73 0), .ref (A 74 0), .ref (A 75 0), .ref (A 76 0), .int (σ.1 60 0 0), .ref (A 77 0), .ref (A 78 0), .ref (A 79 0), .ref (A 80 0), .ref (A 81 0), .ref (A 82 0), .ref (A 83 0), .int (σ.1 60 0 1), .ref (A 84 0), .ref (A 85 0), .ref (A 86 0), .ref (A 87 0), .ref (A 88 0), .int (σ.1 60 0 2), .int (σ.1 60 0 3), .ref (A 89 0), .int (σ.1 60 0 4), .int (σ.1 60 0 5), .int (σ.1 60 0 6), .ref (A 90 0), .int 0]) := K4.c60
        have k660K4 : h5 (A 66 0) = some (aZ 6 (upd (σ.1 66 0) p 1)) := K4.c66.trans (congrArg (fun w => some (aZ 6 w)) (show (setI (setI (thS σ 0) 90 0 C) 66 0 (upd (σ.1 66 0) p 1)).1 66 0 = (upd (σ.1 66 0) p 1) from setI_s _ _ _))
        have k670K4 : h5 (A 67 0) = some (aI 6 (upd (σ.1 67 0) p ((σ.1 62 0) p))) := K4.c67.trans (congrArg (fun w => some (aI 6 w)) (show (setI (setI (setI (thS σ 0) 90 0 C) 66 0 (upd (σ.1 66 0) p 1)) 67 0 (upd (σ.1 67 0) p ((σ.1 62 0) p))).1 67 0 = (upd (σ.1 67 0) p ((σ.1 62 0) p)) from setI_s _ _ _))
        have k620K4 : h5 (A 62 0) = some (aI 6 (σ.1 62 0)) := K4.c62
        have k680K4 : h5 (A 68 0) = some (aI 6 (upd (σ.1 68 0) p ((σ.1 63 0) p))) := K4.c68.trans (congrArg (fun w => some (aI 6 w)) (show (setI (setI (setI (setI (thS σ 0) 90 0 C) 66 0 (upd (σ.1 66 0) p 1)) 67 0 (upd (σ.1 67 0) p ((σ.1 62 0) p))) 68 0 (upd (σ.1 68 0) p ((σ.1 63 0) p))).1 68 0 = (upd (σ.1 68 0) p ((σ.1 63 0) p)) from setI_s _ _ _))
        have k630K4 : h5 (A 63 0) = some (aI 6 (σ.1 63 0)) := K4.c63
        have k690K4 : h5 (A 69 0) = some (aI 6 (σ.1 69 0)) := K4.c69
        have k790K4 : h5 (A 79 0) = some (aI 20 (σ.1 79 0)) := K4.c79
        have k900K4 : h5 (A 90 0) = some (aI 6 C) := K4.c90.trans (congrArg (fun w => some (aI 6 w)) (show (setI (thS σ 0) 90 0 C).1 90 0 = C from rfl))
        have k91pK4 : h5 (A 91 p) = some (aI 6 (σ.1 91 p)) := (K4.c91 hp6)
        have k93pK4 : h5 (A 93 p) = some (aI 6 (σ.1 93 p)) := (K4.c93 hp6)
        refine pw_aload_n (pc2 := 67) dX10_compile_66 rfl rfl 0 rfl (by first | exact rf_ref _ | exact rf_opt _ | exact rf_nul) ?_
        refine pw_get (pc2 := 70) kX10 (k := 8) (by decide) rfl fl_X10_37 c60K4 rfl dX10_compile_67 rfl ?_
        refine pw_iload_n (pc2 := 71) dX10_compile_70 rfl rfl 1 rfl ?_
        refine pw_aload_n (pc2 := 72) dX10_compile_71 rfl rfl 0 rfl (by first | exact rf_ref _ | exact rf_opt _ | exact rf_nul) ?_
        refine pw_iload_n (pc2 := 73) dX10_compile_72 rfl rfl 1 rfl ?_
        refine pw_callV1 (pc2 := 76) (c_needsOf G _ K4 hp6) cs_X10_130 rfl rfl c60K4 dX10_compile_73 rfl (by omega) rfl (by first | decide | simp [cat_rf, Value.category]) ?_
        refine pw_iastN (pc2 := 77) k690K4 (i := p) (by first | assumption | omega) (by omega) dX10_compile_76 rfl ?_
        obtain ⟨K5, FK5⟩ := K4.wIF (FK4) (t := 69) (i := 0) (f := (upd (σ.1 69 0) p (bts (σ.1 91 p) 6))) rfl (by decide) (iv_setI K4.iv (by decide)) rfl
        obtain ⟨h6, eh6⟩ : ∃ z : Nat → Option hE, z = va_up h5 (A 69 0) (some (aI 6 (upd (σ.1 69 0) p (bts (σ.1 91 p) 6)))) := ⟨_, rfl⟩
        refine PW.heap (h' := h6) eh6.symm ?_
        replace K5 : WM G h6 A (setI (setI (setI (setI (setI (thS σ 0) 90 0 C) 66 0 (upd (σ.1 66 0) p 1)) 67 0 (upd (σ.1 67 0) p ((σ.1 62 0) p))) 68 0 (upd (σ.1 68 0) p ((σ.1 63 0) p))) 69 0 (upd (σ.1 69 0) p (bts (σ.1 91 p) 6))) := by rw [eh6]; exact K5
        replace FK5 : FM A h h6 := by rw [eh6]; exact FK5
        have c60K5 : h6 (A 60 0) = some (oB 13 [.ref (A 61 0), .ref (A 62 0), .ref (A 63 0), .ref (A 64 0), .ref (A 65 0), .ref (A 66 0), .ref (A 67 0), .ref (A 68 0), .ref (A 69 0), .ref (A 70 0), .ref (A 71 0), .ref (A 72 0), .ref (A 73 0), .ref (A 74 0), .ref (A 75 0), .ref (A 76 0), .int (σ.1 60 0 0), .ref (A 77 0), .ref (A 78 0), .ref (A 79 0), .ref (A 80 0), .ref (A 81 0), .ref (A 82 0), .ref (A 83 0), .int (σ.1 60 0 1), .ref (A 84 0), .ref (A 85 0), .ref (A 86 0), .ref (A 87 0), .ref (A 88 0), .int (σ.1 60 0 2), .int (σ.1 60 0 3), .ref (A 89 0), .int (σ.1 60 0 4), .int (σ.1 60 0 5), .int (σ.1 60 0 6), .ref (A 90 0), .int 0]) := K5.c60
        have k660K5 : h6 (A 66 0) = some (aZ 6 (upd (σ.1 66 0) p 1)) := K5.c66.trans (congrArg (fun w => some (aZ 6 w)) (show (setI (setI (thS σ 0) 90 0 C) 66 0 (upd (σ.1 66 0) p 1)).1 66 0 = (upd (σ.1 66 0) p 1) from setI_s _ _ _))
        have k670K5 : h6 (A 67 0) = some (aI 6 (upd (σ.1 67 0) p ((σ.1 62 0) p))) := K5.c67.trans (congrArg (fun w => some (aI 6 w)) (show (setI (setI (setI (thS σ 0) 90 0 C) 66 0 (upd (σ.1 66 0) p 1)) 67 0 (upd (σ.1 67 0) p ((σ.1 62 0) p))).1 67 0 = (upd (σ.1 67 0) p ((σ.1 62 0) p)) from setI_s _ _ _))
        have k620K5 : h6 (A 62 0) = some (aI 6 (σ.1 62 0)) := K5.c62
        have k680K5 : h6 (A 68 0) = some (aI 6 (upd (σ.1 68 0) p ((σ.1 63 0) p))) := K5.c68.trans (congrArg (fun w => some (aI 6 w)) (show (setI (setI (setI (setI (thS σ 0) 90 0 C) 66 0 (upd (σ.1 66 0) p 1)) 67 0 (upd (σ.1 67 0) p ((σ.1 62 0) p))) 68 0 (upd (σ.1 68 0) p ((σ.1 63 0) p))).1 68 0 = (upd (σ.1 68 0) p ((σ.1 63 0) p)) from setI_s _ _ _))
        have k630K5 : h6 (A 63 0) = some (aI 6 (σ.1 63 0)) := K5.c63
        have k690K5 : h6 (A 69 0) = some (aI 6 (upd (σ.1 69 0) p (bts (σ.1 91 p) 6))) := K5.c69.trans (congrArg (fun w => some (aI 6 w)) (show (setI (setI (setI (setI (setI (thS σ 0) 90 0 C) 66 0 (upd (σ.1 66 0) p 1)) 67 0 (upd (σ.1 67 0) p ((σ.1 62 0) p))) 68 0 (upd (σ.1 68 0) p ((σ.1 63 0) p))) 69 0 (upd (σ.1 69 0) p (bts (σ.1 91 p) 6))).1 69 0 = (upd (σ.1 69 0) p (bts (σ.1 91 p) 6)) from setI_s _ _ _))
        have k790K5 : h6 (A 79 0) = some (aI 20 (σ.1 79 0)) := K5.c79
        have k900K5 : h6 (A 90 0) = some (aI 6 C) := K5.c90.trans (congrArg (fun w => some (aI 6 w)) (show (setI (thS σ 0) 90 0 C).1 90 0 = C from rfl))
        have k91pK5 : h6 (A 91 p) = some (aI 6 (σ.1 91 p)) := (K5.c91 hp6)
        have k93pK5 : h6 (A 93 p) = some (aI 6 (σ.1 93 p)) := (K5.c93 hp6)
        refine pw_iconst (pc2 := 78) (v := 0) dX10_compile_77 rfl (by decide) ?_
        refine pw_istore_n (pc2 := 79) (L2 := [(2, Value.int 0), (0, Value.ref (A 60 0)), (1, Value.int (nI p))]) dX10_compile_78 rfl rfl (by decide) rfl ?_
        have HW : ∀ F, WM G (va_up h6 (A 93 p) (some (aI 6 F))) A (setI (setI (setI (setI (setI (setI (thS σ 0) 90 0 C) 66 0 (upd (σ.1 66 0) p 1)) 67 0 (upd (σ.1 67 0) p ((σ.1 62 0) p))) 68 0 (upd (σ.1 68 0) p ((σ.1 63 0) p))) 69 0 (upd (σ.1 69 0) p (bts (σ.1 91 p) 6))) 93 p F) := fun F => K5.wI (t := 93) (i := p) hp6 (by decide) (iv_setI K5.iv (by decide)) rfl
        have H93 : ∀ F, va_up h6 (A 93 p) (some (aI 6 F)) (A 93 p) = some (aI 6 F) := fun F => va_up_self _ _ _
        have loop : ∀ (k i : Nat) (F9 : Nat → Int32) (hF : ∀ j, j < i → 0 < σ.1 91 p j → F9 j = nfG σ (σ.1 24 p) g' j), i + k = 6 → PW G MX10_compile d noA (E0 G (fun r h2 => (¬ inR (nI p) (npk σ) ∧ QSM G h A (.int 0) (thS σ 1) r h2) ∨ (∃ p9, p9 < npk σ ∧ (nI p) = nI p9 ∧ ((srS σ p9 = none ∧ ∃ C, QSM G h A (.int 0) (thS (setI (thS σ 0) 90 0 C) 2) r h2) ∨ (∃ g' C, srS σ p9 = some g' ∧ pkB σ g' ∧ ((bOk σ p9 g' ∧ QSM G h A (.int 0) (setI (thS σ 0) 90 0 C) r h2) ∨ (¬ bOk σ p9 g' ∧ ∃ R, (∀ j, j < 6 → 0 < σ.1 91 p9 j → R j = nfG σ (σ.1 24 p9) g' j) ∧ QSM G h A (.int 1) (mCP σ p9 C R) r h2)))))) noX) 0 0 79 [(2, Value.int (nI i)), (0, Value.ref (A 60 0)), (1, Value.int (nI p))] [] (va_up h6 (A 93 p) (some (aI 6 F9))) := by
          intro k
          induction k with
          | zero =>
            intro i F9 hF hik
            have hi9 : i = 6 := by omega
            refine pw_iload_n (pc2 := 80) dX10_compile_79 rfl rfl 0 rfl ?_
            refine pw_bipush (pc2 := 82) (v := 6) dX10_compile_80 rfl (by decide) ?_
            refine pw_icmp_ge (tgt := 125) (pc2 := 85) dX10_compile_82 (by decide) rfl (fun _ => ?_) (fun c82 => by exact absurd (by first | (rw [hi9]; exact Int32.le_refl _) | exact fun q => absurd ((l6 (by omega)).mp q) (by omega)) c82)
            subst hi9
            obtain ⟨K6, FK6⟩ := K5.wIF (FK5) (t := 93) (i := p) (f := F9) hp6 (by decide) (iv_setI K5.iv (by decide)) rfl
            obtain ⟨h7, eh7⟩ : ∃ z : Nat → Option hE, z = va_up h6 (A 93 p) (some (aI 6 F9)) := ⟨_, rfl⟩
            refine PW.heap (h' := h7) eh7.symm ?_
            replace K6 : WM G h7 A (setI (setI (setI (setI (setI (setI (thS σ 0) 90 0 C) 66 0 (upd (σ.1 66 0) p 1)) 67 0 (upd (σ.1 67 0) p ((σ.1 62 0) p))) 68 0 (upd (σ.1 68 0) p ((σ.1 63 0) p))) 69 0 (upd (σ.1 69 0) p (bts (σ.1 91 p) 6))) 93 p F9) := by rw [eh7]; exact K6
            replace FK6 : FM A h h7 := by rw [eh7]; exact FK6
            have c60K6 : h7 (A 60 0) = some (oB 13 [.ref (A 61 0), .ref (A 62 0), .ref (A 63 0), .ref (A 64 0), .ref (A 65 0), .ref (A 66 0), .ref (A 67 0), .ref (A 68 0), .ref (A 69 0), .ref (A 70 0), .ref (A 71 0), .ref (A 72 0), .ref (A 73 0), .ref (A 74 0), .ref (A 75 0), .ref (A 76 0), .int (σ.1 60 0 0), .ref (A 77 0), .ref (A 78 0), .ref (A 79 0), .ref (A 80 0), .ref (A 81 0), .ref (A 82 0), .ref (A 83 0), .int (σ.1 60 0 1), .ref (A 84 0), .ref (A 85 0), .ref (A 86 0), .ref (A 87 0), .ref (A 88 0), .int (σ.1 60 0 2), .int (σ.1 60 0 3), .ref (A 89 0), .int (σ.1 60 0 4), .int (σ.1 60 0 5), .int (σ.1 60 0 6), .ref (A 90 0), .int 0]) := K6.c60
            refine pw_aload_n (pc2 := 126) dX10_compile_125 rfl rfl 1 rfl (by first | exact rf_ref _ | exact rf_opt _ | exact rf_nul) ?_
            refine pw_dup (pc2 := 127) dX10_compile_126 rfl (by first | rfl | exact cat_rf _) ?_
            refine pw_get (pc2 := 130) kX10 (k := 33) (by decide) rfl fl_X10_168 c60K6 rfl dX10_compile_127 rfl ?_
            refine pw_iconst (pc2 := 131) (v := 1) dX10_compile_130 rfl (by decide) ?_
            refine pw_iadd (pc2 := 132) dX10_compile_131 rfl ?_
            refine pw_put (pc2 := 135) kX10 (k := 33) (by decide) rfl rfl fl_X10_168 c60K6 (by first | decide | simp) (by first | rfl | exact nar_rf _ _) (by first | rfl | exact fit_rf _ _) dX10_compile_132 rfl ?_
            obtain ⟨K7, FK7⟩ := K6.wIF (FK6) (t := 60) (i := 0) (f := (upd (upd (σ.1 60 0) 7 0) 4 ((σ.1 60 0 4) + 1))) rfl (by decide) (iv_setI K6.iv (by decide)) rfl
            obtain ⟨h9z, eh9z⟩ : ∃ z : Nat → Option hE, z = va_up h7 (A 60 0) (some (oB 13 [.ref (A 61 0), .ref (A 62 0), .ref (A 63 0), .ref (A 64 0), .ref (A 65 0), .ref (A 66 0), .ref (A 67 0), .ref (A 68 0), .ref (A 69 0), .ref (A 70 0), .ref (A 71 0), .ref (A 72 0), .ref (A 73 0), .ref (A 74 0), .ref (A 75 0), .ref (A 76 0), .int (σ.1 60 0 0), .ref (A 77 0), .ref (A 78 0), .ref (A 79 0), .ref (A 80 0), .ref (A 81 0), .ref (A 82 0), .ref (A 83 0), .int (σ.1 60 0 1), .ref (A 84 0), .ref (A 85 0), .ref (A 86 0), .ref (A 87 0), .ref (A 88 0), .int (σ.1 60 0 2), .int (σ.1 60 0 3), .ref (A 89 0), .int ((σ.1 60 0 4) + 1), .int (σ.1 60 0 5), .int (σ.1 60 0 6), .ref (A 90 0), .int 0])) := ⟨_, rfl⟩
            refine PW.heap (h' := h9z) eh9z.symm ?_
            replace K7 : WM G h9z A (setI (setI (setI (setI (setI (setI (setI (thS σ 0) 90 0 C) 66 0 (upd (σ.1 66 0) p 1)) 67 0 (upd (σ.1 67 0) p ((σ.1 62 0) p))) 68 0 (upd (σ.1 68 0) p ((σ.1 63 0) p))) 69 0 (upd (σ.1 69 0) p (bts (σ.1 91 p) 6))) 93 p F9) 60 0 (upd (upd (σ.1 60 0) 7 0) 4 ((σ.1 60 0 4) + 1))) := by rw [eh9z]; exact K7
            replace FK7 : FM A h h9z := by rw [eh9z]; exact FK7
            have c60K7b : h9z (A 60 0) = some (oB 13 [.ref (A 61 0), .ref (A 62 0), .ref (A 63 0), .ref (A 64 0), .ref (A 65 0), .ref (A 66 0), .ref (A 67 0), .ref (A 68 0), .ref (A 69 0), .ref (A 70 0), .ref (A 71 0), .ref (A 72 0), .ref (A 73 0), .ref (A 74 0), .ref (A 75 0), .ref (A 76 0), .int (σ.1 60 0 0), .ref (A 77 0), .ref (A 78 0), .ref (A 79 0), .ref (A 80 0), .ref (A 81 0), .ref (A 82 0), .ref (A 83 0), .int (σ.1 60 0 1), .ref (A 84 0), .ref (A 85 0), .ref (A 86 0), .ref (A 87 0), .ref (A 88 0), .int (σ.1 60 0 2), .int (σ.1 60 0 3), .ref (A 89 0), .int ((σ.1 60 0 4) + 1), .int (σ.1 60 0 5), .int (σ.1 60 0 6), .ref (A 90 0), .int 0]) := K7.c60
            refine pw_iconst (pc2 := 136) (v := 1) dX10_compile_135 rfl (by decide) ?_
            refine pw_iret dX10_compile_136 rfl (by first | rfl | assumption | simp [narrow]) ?_
            exact Or.inr ⟨p, hpp, rfl, Or.inr ⟨g', C, hs, hgb', Or.inr ⟨q27, F9, hF, rfl, K7, FK7⟩⟩⟩
          | succ k ih =>
            intro i F9 hF hik
            have hi9 : i < 6 := by omega
            refine pw_iload_n (pc2 := 80) dX10_compile_79 rfl rfl 0 rfl ?_
            refine pw_bipush (pc2 := 82) (v := 6) dX10_compile_80 rfl (by decide) ?_
            refine pw_icmp_ge (tgt := 125) (pc2 := 85) dX10_compile_82 (by decide) rfl (fun c82 => by exact absurd c82 (by first | (rw [hi9]; exact Int32.le_refl _) | exact fun q => absurd ((l6 (by omega)).mp q) (by omega))) (fun _ => ?_)
            refine pw_aload_n (pc2 := 86) dX10_compile_85 rfl rfl 1 rfl (by first | exact rf_ref _ | exact rf_opt _ | exact rf_nul) ?_
            refine pw_get (pc2 := 89) kX10 (k := 9) (by decide) rfl fl_X10_40 (HW F9).c60 rfl dX10_compile_86 rfl ?_
            refine pw_iload_n (pc2 := 90) dX10_compile_89 rfl rfl 2 rfl ?_
            refine pw_aaldN (pc2 := 91) 6 rfl rfl (HW F9).c70 (i := p) (by first | assumption | omega) (by omega) dX10_compile_90 rfl ?_
            refine pw_topV (rowv (by first | assumption | omega)) ?_
            refine pw_iload_n (pc2 := 92) dX10_compile_91 rfl rfl 0 rfl ?_
            refine pw_aload_n (pc2 := 93) dX10_compile_92 rfl rfl 1 rfl (by first | exact rf_ref _ | exact rf_opt _ | exact rf_nul) ?_
            refine pw_get (pc2 := 96) kX10 (k := 3) (by decide) rfl fl_X10_21 (HW F9).c60 rfl dX10_compile_93 rfl ?_
            refine pw_iload_n (pc2 := 97) dX10_compile_96 rfl rfl 2 rfl ?_
            refine pw_aaldN (pc2 := 98) 6 rfl rfl (HW F9).c64 (i := p) (by first | assumption | omega) (by omega) dX10_compile_97 rfl ?_
            refine pw_topV (rowv (by first | assumption | omega)) ?_
            refine pw_iload_n (pc2 := 99) dX10_compile_98 rfl rfl 0 rfl ?_
            refine pw_ialdN (pc2 := 100) ((HW F9).c91 hp6) (i := i) (by first | assumption | omega) (by omega) dX10_compile_99 rfl ?_
            refine pw_if_le (tgt := 117) (pc2 := 103) dX10_compile_100 (by decide) rfl (fun c100 => ?_) (fun c100 => ?_)
            · refine pw_iconst (pc2 := 118) (v := 0) dX10_compile_117 rfl (by decide) ?_
              refine pw_iastN (pc2 := 119) (H93 F9) (i := i) (by first | assumption | omega) (by omega) dX10_compile_118 rfl ?_
              refine PW.heap (h' := va_up h6 (A 93 p) (some (aI 6 (upd F9 i 0)))) (up_up _ _ _ _) ?_
              refine pw_iinc (pc2 := 122) (v := nI (i + 1)) (L2 := [(2, Value.int (nI (i + 1))), (0, Value.ref (A 60 0)), (1, Value.int (nI p))]) dX10_compile_119 rfl 0 rfl (by show nI _ + 1 = nI _; exact nI_1 _) (by decide) rfl ?_
              refine pw_goto (tgt := 79) dX10_compile_122 (by decide) ?_
              refine PW.sub (L2 := [(2, Value.int (nI (i + 1))), (0, Value.ref (A 60 0)), (1, Value.int (nI p))]) [0, 1, 2] rfl ?_
              refine ih (i + 1) (upd F9 i 0) (fun j hj hg => ?_) (by omega)
              by_cases ej : j = i
              · subst ej
                rw [upd_s]
                first | exact absurd hg c100 | exact absurd hg (Int32.not_lt.mpr c100) | exact (nfG_s hgi hgi0).symm
              · exact (if_neg ej).trans (hF j (by omega) hg)
            · have hgi0 : ¬ σ.1 24 p i = 0 := (nbk_p (e3 i hi9).1).mp (e91 ▸ Int32.not_le.mp c100)
              obtain ⟨x, hgi⟩ := hnd i hi9 hgi0
              have hx := hgb' i x hgi
              have hx20 : x < 20 := by omega
              refine pw_aload_n (pc2 := 104) dX10_compile_103 rfl rfl 1 rfl (by first | exact rf_ref _ | exact rf_opt _ | exact rf_nul) ?_
              refine pw_get (pc2 := 107) kX10 (k := 19) (by decide) rfl fl_X10_67 (HW F9).c60 rfl dX10_compile_104 rfl ?_
              refine pw_aload_n (pc2 := 108) dX10_compile_107 rfl rfl 1 rfl (by first | exact rf_ref _ | exact rf_opt _ | exact rf_nul) ?_
              refine pw_get (pc2 := 111) kX10 (k := 36) (by decide) rfl fl_X10_106 (HW F9).c60 rfl dX10_compile_108 rfl ?_
              refine pw_iload_n (pc2 := 112) dX10_compile_111 rfl rfl 0 rfl ?_
              refine pw_ialdN (pc2 := 113) (HW F9).c90 (i := i) (by first | assumption | omega) (by omega) dX10_compile_112 rfl ?_
              refine pw_topE ((hCC i hi9).trans (by rw [hgi]; rfl : enc (g' i) = nI x)) ?_
              refine pw_ialdN (pc2 := 114) (HW F9).c79 (i := x) (by first | assumption | omega) (by omega) dX10_compile_113 rfl ?_
              refine pw_topE ((hRR.1.1 x hx).2.2.2.1) ?_
              refine pw_goto (tgt := 118) dX10_compile_114 (by decide) ?_
              refine pw_iastN (pc2 := 119) (H93 F9) (i := i) (by first | assumption | omega) (by omega) dX10_compile_118 rfl ?_
              refine PW.heap (h' := va_up h6 (A 93 p) (some (aI 6 (upd F9 i (σ.1 40 x 1))))) (up_up _ _ _ _) ?_
              refine pw_iinc (pc2 := 122) (v := nI (i + 1)) (L2 := [(2, Value.int (nI (i + 1))), (0, Value.ref (A 60 0)), (1, Value.int (nI p))]) dX10_compile_119 rfl 0 rfl (by show nI _ + 1 = nI _; exact nI_1 _) (by decide) rfl ?_
              refine pw_goto (tgt := 79) dX10_compile_122 (by decide) ?_
              refine PW.sub (L2 := [(2, Value.int (nI (i + 1))), (0, Value.ref (A 60 0)), (1, Value.int (nI p))]) [0, 1, 2] rfl ?_
              refine ih (i + 1) (upd F9 i (σ.1 40 x 1)) (fun j hj hg => ?_) (by omega)
              by_cases ej : j = i
              · subst ej
                rw [upd_s]
                first | exact absurd hg c100 | exact absurd hg (Int32.not_lt.mpr c100) | exact (nfG_s hgi hgi0).symm
              · exact (if_neg ej).trans (hF j (by omega) hg)
        refine PW.sub (L2 := [(2, Value.int 0), (0, Value.ref (A 60 0)), (1, Value.int (nI p))]) [0, 1, 2] rfl ?_
        refine PW.heap (h' := va_up h6 (A 93 p) (some (aI 6 (σ.1 93 p)))) (up_id (K5.c93 hp6)).symm ?_
        exact loop 6 0 (σ.1 93 p) (fun j hj => absurd hj (Nat.not_lt_zero j)) (by omega)
      · refine pw_if_ne (tgt := 35) (pc2 := 33) dX10_compile_30 (by decide) rfl (fun c30 => by exact absurd (by decide) c30) (fun _ => ?_)
        refine pw_iconst (pc2 := 34) (v := 0) dX10_compile_33 rfl (by decide) ?_
        refine pw_iret dX10_compile_34 rfl (by first | rfl | assumption | simp [narrow]) ?_
        exact Or.inr ⟨p, hpp, rfl, Or.inr ⟨g', C, hs, hgb', Or.inl ⟨Classical.not_not.mp q27, rfl, K0, FK0⟩⟩⟩
  · refine pw_if_eq (tgt := 10) (pc2 := 8) dX10_compile_5 (by decide) rfl (fun c5 => by exact absurd c5 (by decide)) (fun _ => ?_)
    refine pw_iconst (pc2 := 9) (v := 0) dX10_compile_8 rfl (by decide) ?_
    refine pw_iret dX10_compile_9 rfl (by first | rfl | assumption | simp [narrow]) ?_
    exact Or.inl ⟨hin, rfl, K1, FK1⟩
set_option maxHeartbeats 4000000 in
set_option maxRecDepth 100000 in
theorem c_mcompiled (G : hG) (h : hp) {A : aT} {σ : sT} (H : WM G h A σ) : PMet G MX10_compiled 0 0 0 [.ref (A 60 0)] h (QSM G h A (.int (σ.1 60 0 4)) (thS σ 0)) noX := by
  refine PMet.of (by decide +kernel) (Nat.le_of_ble_eq_true rfl) (fun d hd => ?_)
  refine PW.sub (L2 := [(0, Value.ref (A 60 0))]) [0] rfl ?_
  refine pw_aload_n (pc2 := 1) dX10_compiled_0 rfl rfl 0 rfl (by first | exact rf_ref _ | exact rf_opt _ | exact rf_nul) ?_
  refine pw_iconst (pc2 := 2) (v := 0) dX10_compiled_1 rfl (by decide) ?_
  refine pw_put (pc2 := 5) kX10 (k := 37) (by decide) rfl rfl fl_X10_109 H.c60 (by first | decide | simp) (by first | rfl | exact nar_rf _ _) (by first | rfl | exact fit_rf _ _) dX10_compiled_2 rfl ?_
  obtain ⟨K1, FK1⟩ := H.wIF (FM.rfl') (t := 60) (i := 0) (f := (upd (σ.1 60 0) 7 0)) rfl (by decide) (iv_setI H.iv (by decide)) rfl
  obtain ⟨h2, eh2⟩ : ∃ z : Nat → Option hE, z = va_up h (A 60 0) (some (oB 13 [.ref (A 61 0), .ref (A 62 0), .ref (A 63 0), .ref (A 64 0), .ref (A 65 0), .ref (A 66 0), .ref (A 67 0), .ref (A 68 0), .ref (A 69 0), .ref (A 70 0), .ref (A 71 0), .ref (A 72 0), .ref (A 73 0), .ref (A 74 0), .ref (A 75 0), .ref (A 76 0), .int (σ.1 60 0 0), .ref (A 77 0), .ref (A 78 0), .ref (A 79 0), .ref (A 80 0), .ref (A 81 0), .ref (A 82 0), .ref (A 83 0), .int (σ.1 60 0 1), .ref (A 84 0), .ref (A 85 0), .ref (A 86 0), .ref (A 87 0), .ref (A 88 0), .int (σ.1 60 0 2), .int (σ.1 60 0 3), .ref (A 89 0), .int (σ.1 60 0 4), .int (σ.1 60 0 5), .int (σ.1 60 0 6), .ref (A 90 0), .int 0])) := ⟨_, rfl⟩
  refine PW.heap (h' := h2) eh2.symm ?_
  replace K1 : WM G h2 A (thS σ 0) := by rw [eh2]; exact K1
  replace FK1 : FM A h h2 := by rw [eh2]; exact FK1
  have c60K1 : h2 (A 60 0) = some (oB 13 [.ref (A 61 0), .ref (A 62 0), .ref (A 63 0), .ref (A 64 0), .ref (A 65 0), .ref (A 66 0), .ref (A 67 0), .ref (A 68 0), .ref (A 69 0), .ref (A 70 0), .ref (A 71 0), .ref (A 72 0), .ref (A 73 0), .ref (A 74 0), .ref (A 75 0), .ref (A 76 0), .int (σ.1 60 0 0), .ref (A 77 0), .ref (A 78 0), .ref (A 79 0), .ref (A 80 0), .ref (A 81 0), .ref (A 82 0), .ref (A 83 0), .int (σ.1 60 0 1), .ref (A 84 0), .ref (A 85 0), .ref (A 86 0), .ref (A 87 0), .ref (A 88 0), .int (σ.1 60 0 2), .int (σ.1 60 0 3), .ref (A 89 0), .int (σ.1 60 0 4), .int (σ.1 60 0 5), .int (σ.1 60 0 6), .ref (A 90 0), .int 0]) := K1.c60
  refine pw_aload_n (pc2 := 6) dX10_compiled_5 rfl rfl 0 rfl (by first | exact rf_ref _ | exact rf_opt _ | exact rf_nul) ?_
  refine pw_get (pc2 := 9) kX10 (k := 33) (by decide) rfl fl_X10_168 c60K1 rfl dX10_compiled_6 rfl ?_
  refine pw_iret dX10_compiled_9 rfl (by first | rfl | assumption | simp [narrow]) ?_
  exact ⟨rfl, K1, FK1⟩
