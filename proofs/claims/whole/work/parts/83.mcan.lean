/-! the reference: can, next -/
theorem vG_inj {σ : sT} {ofr : Nat → Nat} (hR : RR σ ofr) {k : Nat} {a b : Option Nat} (ha : ∀ x, a = some x → ofr x = k ∧ x < nrl σ) (hb : ∀ x, b = some x → ofr x = k ∧ x < nrl σ) : vG σ a = vG σ b ↔ a = b := by
  refine ⟨fun e => ?_, fun e => by rw [e]⟩
  have n0 : ∀ x, x < nrl σ → ¬ σ.1 40 x 0 = 0 := fun x hx z => by
    have q := (hR.2.1 x hx).2.1.1
    rw [z] at q
    exact absurd q (by decide)
  cases ea : a with
  | none =>
    cases eb : b with
    | none => rfl
    | some y => rw [ea, eb] at e; exact absurd e.symm (n0 y (hb y eb).2)
  | some x =>
    cases eb : b with
    | none => rw [ea, eb] at e; exact absurd e (n0 x (ha x ea).2)
    | some y =>
      rw [ea, eb] at e
      have e' : σ.1 40 x 0 = σ.1 40 y 0 := e
      obtain ⟨o1, l1⟩ := ha x ea
      obtain ⟨o2, l2⟩ := hb y eb
      rcases Nat.lt_trichotomy x y with q | q | q
      · have z := hR.2.2 x y q l2 (o1.trans o2.symm)
        rw [e'] at z
        exact absurd z (by rw [Int32.lt_iff_toInt_lt]; omega)
      · rw [q]
      · have z := hR.2.2 y x q l1 (o2.trans o1.symm)
        rw [e'] at z
        exact absurd z (by rw [Int32.lt_iff_toInt_lt]; omega)
def okP (σ : sT) (p : Nat) (g : Nat → Option Nat) (j : Nat) : Prop := σ.1 30 p j = σ.1 23 p j ∧ σ.1 31 p j = σ.1 24 p j ∧ σ.2.2 33 p j = g j
set_option maxHeartbeats 4000000 in
set_option maxRecDepth 100000 in
theorem c_mcan (G : hG) (h : hp) {A : aT} {σ : sT} (H : WM G h A σ) (hb : MB σ) {ofr : Nat → Nat} (hR : RR σ ofr) (hS : RS σ) (hP : RP σ ofr) {p : Nat} (hp : p < npk σ) : PMet G MX10_can 11 0 0 [.ref (A 60 0), .int (nI p)] h (fun r h2 => ∃ C, h2 = va_up h (A 90 0) (some (aI 6 C)) ∧ ((r = some (.int 1) ∧ ∃ g', srS σ p = some g' ∧ psW σ p g' ∧ pkB σ g' ∧ ∀ j, j < 6 → C j = enc (g' j)) ∨ (r = some (.int 0) ∧ ¬ pubC σ p))) noX := by
  have hnp := H.iv.1
  have hp6 : p < 6 := by omega
  obtain ⟨e62, e63, e91, e92, e3, -⟩ := hS p hp
  refine PMet.of (by decide +kernel) (Nat.le_of_ble_eq_true rfl) (fun d hd => ?_)
  refine PW.sub (L2 := [(0, Value.ref (A 60 0)), (1, Value.int (nI p))]) [0, 1] rfl ?_
  refine pw_aload_n (pc2 := 1) dX10_can_0 rfl rfl 0 rfl (by first | exact rf_ref _ | exact rf_opt _ | exact rf_nul) ?_
  refine pw_get (pc2 := 4) kX10 (k := 10) (by decide) rfl fl_X10_43 H.c60 rfl dX10_can_1 rfl ?_
  refine pw_iload_n (pc2 := 5) dX10_can_4 rfl rfl 1 rfl ?_
  refine pw_zaldN (pc2 := 6) H.c71 (i := p) (by first | assumption | omega) (by omega) dX10_can_5 rfl ?_
  refine pw_if_eq (tgt := 51) (pc2 := 9) dX10_can_6 (by decide) rfl (fun c6 => ?_) (fun c6 => ?_)
  · refine pw_iconst (pc2 := 52) (v := 0) dX10_can_51 rfl (by decide) ?_
    refine pw_istore_n (pc2 := 53) (L2 := [(2, Value.int 0), (0, Value.ref (A 60 0)), (1, Value.int (nI p))]) dX10_can_52 rfl rfl (by decide) rfl ?_
    refine pw_iconst (pc2 := 54) (v := 0) dX10_can_53 rfl (by decide) ?_
    refine pw_istore_n (pc2 := 55) (L2 := [(3, Value.int 0), (2, Value.int 0), (0, Value.ref (A 60 0)), (1, Value.int (nI p))]) dX10_can_54 rfl rfl (by decide) rfl ?_
    refine pw_iload_n (pc2 := 56) dX10_can_55 rfl rfl 0 rfl ?_
    refine pw_bipush (pc2 := 58) (v := 6) dX10_can_56 rfl (by decide) ?_
    refine pw_icmp_ge (tgt := 131) (pc2 := 61) dX10_can_58 (by decide) rfl (fun c58 => by exact absurd c58 (by decide)) (fun _ => ?_)
    refine pw_iload_n (pc2 := 62) dX10_can_61 rfl rfl 1 rfl ?_
    refine pw_if_eq (tgt := 131) (pc2 := 65) dX10_can_62 (by decide) rfl (fun _ => ?_) (fun c62 => by exact absurd (by decide) c62)
    refine pw_iload_n (pc2 := 132) dX10_can_131 rfl rfl 1 rfl ?_
    refine pw_iret dX10_can_132 rfl (by first | rfl | assumption | simp [narrow]) ?_
    refine ⟨σ.1 90 0, (up_id H.c90).symm, Or.inr ⟨rfl, fun ⟨g2, z1, z2⟩ => ?_⟩⟩
    first | exact z2.1 ((hP p hp).1.symm.trans c6) | (obtain ⟨e73, e74, -⟩ := (hP p hp).2.resolve_left (fun z => c6 ((hP p hp).1.trans z)); first | exact c21 (e62.trans (z2.2.1.1.symm.trans e73.symm)) | exact c36 (e63.trans (z2.2.1.2.1.symm.trans e74.symm)))
  · refine pw_aload_n (pc2 := 10) dX10_can_9 rfl rfl 0 rfl (by first | exact rf_ref _ | exact rf_opt _ | exact rf_nul) ?_
    refine pw_get (pc2 := 13) kX10 (k := 1) (by decide) rfl fl_X10_13 H.c60 rfl dX10_can_10 rfl ?_
    refine pw_iload_n (pc2 := 14) dX10_can_13 rfl rfl 1 rfl ?_
    refine pw_ialdN (pc2 := 15) H.c62 (i := p) (by first | assumption | omega) (by omega) dX10_can_14 rfl ?_
    refine pw_aload_n (pc2 := 16) dX10_can_15 rfl rfl 0 rfl (by first | exact rf_ref _ | exact rf_opt _ | exact rf_nul) ?_
    refine pw_get (pc2 := 19) kX10 (k := 12) (by decide) rfl fl_X10_49 H.c60 rfl dX10_can_16 rfl ?_
    refine pw_iload_n (pc2 := 20) dX10_can_19 rfl rfl 1 rfl ?_
    refine pw_ialdN (pc2 := 21) H.c73 (i := p) (by first | assumption | omega) (by omega) dX10_can_20 rfl ?_
    refine pw_icmp_ne (tgt := 51) (pc2 := 24) dX10_can_21 (by decide) rfl (fun c21 => ?_) (fun c21 => ?_)
    · refine pw_iconst (pc2 := 52) (v := 0) dX10_can_51 rfl (by decide) ?_
      refine pw_istore_n (pc2 := 53) (L2 := [(2, Value.int 0), (0, Value.ref (A 60 0)), (1, Value.int (nI p))]) dX10_can_52 rfl rfl (by decide) rfl ?_
      refine pw_iconst (pc2 := 54) (v := 0) dX10_can_53 rfl (by decide) ?_
      refine pw_istore_n (pc2 := 55) (L2 := [(3, Value.int 0), (2, Value.int 0), (0, Value.ref (A 60 0)), (1, Value.int (nI p))]) dX10_can_54 rfl rfl (by decide) rfl ?_
      refine pw_iload_n (pc2 := 56) dX10_can_55 rfl rfl 0 rfl ?_
      refine pw_bipush (pc2 := 58) (v := 6) dX10_can_56 rfl (by decide) ?_
      refine pw_icmp_ge (tgt := 131) (pc2 := 61) dX10_can_58 (by decide) rfl (fun c58 => by exact absurd c58 (by decide)) (fun _ => ?_)
      refine pw_iload_n (pc2 := 62) dX10_can_61 rfl rfl 1 rfl ?_
      refine pw_if_eq (tgt := 131) (pc2 := 65) dX10_can_62 (by decide) rfl (fun _ => ?_) (fun c62 => by exact absurd (by decide) c62)
      refine pw_iload_n (pc2 := 132) dX10_can_131 rfl rfl 1 rfl ?_
      refine pw_iret dX10_can_132 rfl (by first | rfl | assumption | simp [narrow]) ?_
      refine ⟨σ.1 90 0, (up_id H.c90).symm, Or.inr ⟨rfl, fun ⟨g2, z1, z2⟩ => ?_⟩⟩
      first | exact z2.1 ((hP p hp).1.symm.trans c6) | (obtain ⟨e73, e74, -⟩ := (hP p hp).2.resolve_left (fun z => c6 ((hP p hp).1.trans z)); first | exact c21 (e62.trans (z2.2.1.1.symm.trans e73.symm)) | exact c36 (e63.trans (z2.2.1.2.1.symm.trans e74.symm)))
    · refine pw_aload_n (pc2 := 25) dX10_can_24 rfl rfl 0 rfl (by first | exact rf_ref _ | exact rf_opt _ | exact rf_nul) ?_
      refine pw_get (pc2 := 28) kX10 (k := 2) (by decide) rfl fl_X10_16 H.c60 rfl dX10_can_25 rfl ?_
      refine pw_iload_n (pc2 := 29) dX10_can_28 rfl rfl 1 rfl ?_
      refine pw_ialdN (pc2 := 30) H.c63 (i := p) (by first | assumption | omega) (by omega) dX10_can_29 rfl ?_
      refine pw_aload_n (pc2 := 31) dX10_can_30 rfl rfl 0 rfl (by first | exact rf_ref _ | exact rf_opt _ | exact rf_nul) ?_
      refine pw_get (pc2 := 34) kX10 (k := 13) (by decide) rfl fl_X10_52 H.c60 rfl dX10_can_31 rfl ?_
      refine pw_iload_n (pc2 := 35) dX10_can_34 rfl rfl 1 rfl ?_
      refine pw_ialdN (pc2 := 36) H.c74 (i := p) (by first | assumption | omega) (by omega) dX10_can_35 rfl ?_
      refine pw_icmp_ne (tgt := 51) (pc2 := 39) dX10_can_36 (by decide) rfl (fun c36 => ?_) (fun c36 => ?_)
      · refine pw_iconst (pc2 := 52) (v := 0) dX10_can_51 rfl (by decide) ?_
        refine pw_istore_n (pc2 := 53) (L2 := [(2, Value.int 0), (0, Value.ref (A 60 0)), (1, Value.int (nI p))]) dX10_can_52 rfl rfl (by decide) rfl ?_
        refine pw_iconst (pc2 := 54) (v := 0) dX10_can_53 rfl (by decide) ?_
        refine pw_istore_n (pc2 := 55) (L2 := [(3, Value.int 0), (2, Value.int 0), (0, Value.ref (A 60 0)), (1, Value.int (nI p))]) dX10_can_54 rfl rfl (by decide) rfl ?_
        refine pw_iload_n (pc2 := 56) dX10_can_55 rfl rfl 0 rfl ?_
        refine pw_bipush (pc2 := 58) (v := 6) dX10_can_56 rfl (by decide) ?_
        refine pw_icmp_ge (tgt := 131) (pc2 := 61) dX10_can_58 (by decide) rfl (fun c58 => by exact absurd c58 (by decide)) (fun _ => ?_)
        refine pw_iload_n (pc2 := 62) dX10_can_61 rfl rfl 1 rfl ?_
        refine pw_if_eq (tgt := 131) (pc2 := 65) dX10_can_62 (by decide) rfl (fun _ => ?_) (fun c62 => by exact absurd (by decide) c62)
        refine pw_iload_n (pc2 := 132) dX10_can_131 rfl rfl 1 rfl ?_
        refine pw_iret dX10_can_132 rfl (by first | rfl | assumption | simp [narrow]) ?_
        refine ⟨σ.1 90 0, (up_id H.c90).symm, Or.inr ⟨rfl, fun ⟨g2, z1, z2⟩ => ?_⟩⟩
        first | exact z2.1 ((hP p hp).1.symm.trans c6) | (obtain ⟨e73, e74, -⟩ := (hP p hp).2.resolve_left (fun z => c6 ((hP p hp).1.trans z)); first | exact c21 (e62.trans (z2.2.1.1.symm.trans e73.symm)) | exact c36 (e63.trans (z2.2.1.2.1.symm.trans e74.symm)))
      · refine pw_aload_n (pc2 := 40) dX10_can_39 rfl rfl 0 rfl (by first | exact rf_ref _ | exact rf_opt _ | exact rf_nul) ?_
        refine pw_iload_n (pc2 := 41) dX10_can_40 rfl rfl 1 rfl ?_
        refine pw_callV (pc2 := 44) (c_mforp G _ H hb hR.1 hS hp) cs_X10_152 rfl rfl H.c60 dX10_can_41 rfl (by omega) rfl (by first | decide | simp [cat_rf, Value.category]) (fun r9 h9 q9 => ?_) (fun Y h9 q9 => q9.elim)
        obtain ⟨os, hs⟩ : ∃ o, srS σ p = o := ⟨_, rfl⟩
        cases os with
        | none =>
          obtain ⟨rfl, C, rfl⟩ := q9.2 hs
          refine pw_if_eq (tgt := 51) (pc2 := 47) dX10_can_44 (by decide) rfl (fun _ => ?_) (fun c44 => by exact absurd (by decide) c44)
          refine pw_iconst (pc2 := 52) (v := 0) dX10_can_51 rfl (by decide) ?_
          refine pw_istore_n (pc2 := 53) (L2 := [(2, Value.int 0), (0, Value.ref (A 60 0)), (1, Value.int (nI p))]) dX10_can_52 rfl rfl (by decide) rfl ?_
          refine pw_iconst (pc2 := 54) (v := 0) dX10_can_53 rfl (by decide) ?_
          refine pw_istore_n (pc2 := 55) (L2 := [(3, Value.int 0), (2, Value.int 0), (0, Value.ref (A 60 0)), (1, Value.int (nI p))]) dX10_can_54 rfl rfl (by decide) rfl ?_
          refine pw_iload_n (pc2 := 56) dX10_can_55 rfl rfl 0 rfl ?_
          refine pw_bipush (pc2 := 58) (v := 6) dX10_can_56 rfl (by decide) ?_
          refine pw_icmp_ge (tgt := 131) (pc2 := 61) dX10_can_58 (by decide) rfl (fun c58 => by exact absurd c58 (by decide)) (fun _ => ?_)
          refine pw_iload_n (pc2 := 62) dX10_can_61 rfl rfl 1 rfl ?_
          refine pw_if_eq (tgt := 131) (pc2 := 65) dX10_can_62 (by decide) rfl (fun _ => ?_) (fun c62 => by exact absurd (by decide) c62)
          refine pw_iload_n (pc2 := 132) dX10_can_131 rfl rfl 1 rfl ?_
          refine pw_iret dX10_can_132 rfl (by first | rfl | assumption | simp [narrow]) ?_
          exact ⟨C, rfl, Or.inr ⟨rfl, fun ⟨g', z, _⟩ => by rw [hs] at z; cases z⟩⟩
        | some g' =>
          obtain ⟨rfl, hgb', C, rfl, hCC⟩ := q9.1 g' hs
          have K0 : WM G (va_up h (A 90 0) (some (aI 6 C))) A (setI σ 90 0 C) := H.wI (t := 90) (i := 0) rfl (by decide) (iv_setI H.iv (by decide)) rfl
          refine pw_if_eq (tgt := 51) (pc2 := 47) dX10_can_44 (by decide) rfl (fun c44 => by exact absurd c44 (by decide)) (fun _ => ?_)
          refine pw_iconst (pc2 := 48) (v := 1) dX10_can_47 rfl (by decide) ?_
          refine pw_goto (tgt := 52) dX10_can_48 (by decide) ?_
          refine pw_istore_n (pc2 := 53) (L2 := [(2, Value.int 1), (0, Value.ref (A 60 0)), (1, Value.int (nI p))]) dX10_can_52 rfl rfl (by decide) rfl ?_
          refine pw_iconst (pc2 := 54) (v := 0) dX10_can_53 rfl (by decide) ?_
          refine pw_istore_n (pc2 := 55) (L2 := [(3, Value.int 0), (2, Value.int 1), (0, Value.ref (A 60 0)), (1, Value.int (nI p))]) dX10_can_54 rfl rfl (by decide) rfl ?_
          obtain ⟨e73, e74, hpp6⟩ := (hP p hp).2.resolve_left (fun z => c6 ((hP p hp).1.trans z))
          have h33 : ∀ j, j < 6 → ∀ x, σ.2.2 33 p j = some x → ofr x = j ∧ x < nrl σ := fun j hj x hx => ⟨(hpp6 j hj).2.2.2 x hx, H.iv.2.2.2.2.2.2.1 p hp j x hx⟩
          have hgo : ∀ j x, g' j = some x → ofr x = j ∧ x < nrl σ := fun j x hx => (srch_of hR.1 (k := p) (by omega) hs hx).2
          have loop : ∀ (k i : Nat) (ac : Int32) (hac : (ac = 1 ∧ ∀ j, j < i → okP σ p g' j) ∨ (ac = 0 ∧ ¬ psW σ p g')), i + k = 6 → PW G MX10_can d noA (E0 G (fun r h2 => ∃ C, h2 = va_up h (A 90 0) (some (aI 6 C)) ∧ ((r = some (.int 1) ∧ ∃ g', srS σ p = some g' ∧ psW σ p g' ∧ pkB σ g' ∧ ∀ j, j < 6 → C j = enc (g' j)) ∨ (r = some (.int 0) ∧ ¬ pubC σ p))) noX) 0 0 55 [(3, Value.int (nI i)), (2, Value.int ac), (0, Value.ref (A 60 0)), (1, Value.int (nI p))] [] (va_up h (A 90 0) (some (aI 6 C))) := by
            intro k
            induction k with
            | zero =>
              intro i ac hac hik
              have hi9 : i = 6 := by omega
              refine pw_iload_n (pc2 := 56) dX10_can_55 rfl rfl 0 rfl ?_
              refine pw_bipush (pc2 := 58) (v := 6) dX10_can_56 rfl (by decide) ?_
              refine pw_icmp_ge (tgt := 131) (pc2 := 61) dX10_can_58 (by decide) rfl (fun _ => ?_) (fun c58 => by exact absurd (by first | (rw [hi9]; exact Int32.le_refl _) | exact fun q => absurd ((l6 (by omega)).mp q) (by omega)) c58)
              have hb01 : b01 ac := by rcases hac with ⟨q, _⟩ | ⟨q, _⟩; exact Or.inr q; exact Or.inl q
              have hnar := nar_b2 hb01
              refine pw_iload_n (pc2 := 132) dX10_can_131 rfl rfl 1 rfl ?_
              refine pw_iret dX10_can_132 rfl (by first | rfl | assumption | simp [narrow]) ?_
              refine ⟨C, rfl, ?_⟩
              rcases hac with ⟨rfl, q⟩ | ⟨rfl, q⟩
              · first | exact absurd rfl c62x | exact absurd c62 (by decide) | (subst hi9; exact Or.inl ⟨rfl, g', hs, ⟨fun z => c6 ((hP p hp).1.trans z), ⟨e73.symm.trans (c21.symm.trans e62), e74.symm.trans (c36.symm.trans e63), fun j hj => ⟨(q j hj).1, (q j hj).2.1⟩⟩, fun j hj => (q j hj).2.2⟩, hgb', hCC⟩)
              · exact Or.inr ⟨rfl, fun ⟨g2, z1, z2⟩ => by rw [hs] at z1; cases z1; exact q z2⟩
            | succ k ih =>
              intro i ac hac hik
              have hi9 : i < 6 := by omega
              refine pw_iload_n (pc2 := 56) dX10_can_55 rfl rfl 0 rfl ?_
              refine pw_bipush (pc2 := 58) (v := 6) dX10_can_56 rfl (by decide) ?_
              refine pw_icmp_ge (tgt := 131) (pc2 := 61) dX10_can_58 (by decide) rfl (fun c58 => by exact absurd c58 (by first | (rw [hi9]; exact Int32.le_refl _) | exact fun q => absurd ((l6 (by omega)).mp q) (by omega))) (fun _ => ?_)
              refine pw_iload_n (pc2 := 62) dX10_can_61 rfl rfl 1 rfl ?_
              refine pw_if_eq (tgt := 131) (pc2 := 65) dX10_can_62 (by decide) rfl (fun c62 => ?_) (fun c62 => ?_)
              · have hb01 : b01 ac := by rcases hac with ⟨q, _⟩ | ⟨q, _⟩; exact Or.inr q; exact Or.inl q
                have hnar := nar_b2 hb01
                refine pw_iload_n (pc2 := 132) dX10_can_131 rfl rfl 1 rfl ?_
                refine pw_iret dX10_can_132 rfl (by first | rfl | assumption | simp [narrow]) ?_
                refine ⟨C, rfl, ?_⟩
                rcases hac with ⟨rfl, q⟩ | ⟨rfl, q⟩
                · first | exact absurd rfl c62x | exact absurd c62 (by decide) | (subst hi9; exact Or.inl ⟨rfl, g', hs, ⟨fun z => c6 ((hP p hp).1.trans z), ⟨e73.symm.trans (c21.symm.trans e62), e74.symm.trans (c36.symm.trans e63), fun j hj => ⟨(q j hj).1, (q j hj).2.1⟩⟩, fun j hj => (q j hj).2.2⟩, hgb', hCC⟩)
                · exact Or.inr ⟨rfl, fun ⟨g2, z1, z2⟩ => by rw [hs] at z1; cases z1; exact q z2⟩
              · refine pw_aload_n (pc2 := 66) dX10_can_65 rfl rfl 2 rfl (by first | exact rf_ref _ | exact rf_opt _ | exact rf_nul) ?_
                refine pw_iload_n (pc2 := 67) dX10_can_66 rfl rfl 0 rfl ?_
                refine pw_callV1 (pc2 := 70) (c_verIn G _ K0 (g := g') hgb' hi9 hCC hR.1) cs_X10_155 rfl rfl K0.c60 dX10_can_67 rfl (by omega) rfl (by first | decide | simp [cat_rf, Value.category]) ?_
                refine pw_aload_n (pc2 := 71) dX10_can_70 rfl rfl 2 rfl (by first | exact rf_ref _ | exact rf_opt _ | exact rf_nul) ?_
                refine pw_get (pc2 := 74) kX10 (k := 11) (by decide) rfl fl_X10_46 K0.c60 rfl dX10_can_71 rfl ?_
                refine pw_iload_n (pc2 := 75) dX10_can_74 rfl rfl 3 rfl ?_
                refine pw_aaldN (pc2 := 76) 6 rfl rfl K0.c72 (i := p) (by first | assumption | omega) (by omega) dX10_can_75 rfl ?_
                refine pw_topV (rowv (by first | assumption | omega)) ?_
                refine pw_iload_n (pc2 := 77) dX10_can_76 rfl rfl 0 rfl ?_
                refine pw_ialdN (pc2 := 78) (K0.c94 hp6) (i := i) (by first | assumption | omega) (by omega) dX10_can_77 rfl ?_
                refine pw_icmp_ne (tgt := 123) (pc2 := 81) dX10_can_78 (by decide) rfl (fun c78 => ?_) (fun c78 => ?_)
                · refine pw_iconst (pc2 := 124) (v := 0) dX10_can_123 rfl (by decide) ?_
                  refine pw_istore_n (pc2 := 125) (L2 := [(2, Value.int 0), (3, Value.int (nI i)), (0, Value.ref (A 60 0)), (1, Value.int (nI p))]) dX10_can_124 rfl rfl (by decide) rfl ?_
                  refine pw_iinc (pc2 := 128) (v := nI (i + 1)) (L2 := [(3, Value.int (nI (i + 1))), (2, Value.int 0), (0, Value.ref (A 60 0)), (1, Value.int (nI p))]) dX10_can_125 rfl 1 rfl (by show nI _ + 1 = nI _; exact nI_1 _) (by decide) rfl ?_
                  refine pw_goto (tgt := 55) dX10_can_128 (by decide) ?_
                  refine PW.sub (L2 := [(3, Value.int (nI (i + 1))), (2, Value.int 0), (0, Value.ref (A 60 0)), (1, Value.int (nI p))]) [0, 1, 2, 3] rfl ?_
                  refine ih (i + 1) 0 ?_ (by omega)
                  have hall : ∀ j, j < i → okP σ p g' j := by rcases hac with ⟨_, q⟩ | ⟨q, _⟩; exact q; exact absurd q c62
                  obtain ⟨e95, e96, e94, -⟩ := hpp6 i hi9
                  refine Or.inr ⟨rfl, fun z => ?_⟩
                  first | exact c78 (((vG_inj hR (hgo i) (h33 i hi9)).mpr (z.2.2 i hi9).symm).trans e94.symm) | exact c97 ((congrFun e91 i).trans ((z.2.1.2.2 i hi9).1.symm.trans e95.symm)) | exact c116 ((congrFun e92 i).trans ((z.2.1.2.2 i hi9).2.symm.trans e96.symm))
                · refine pw_aload_n (pc2 := 82) dX10_can_81 rfl rfl 2 rfl (by first | exact rf_ref _ | exact rf_opt _ | exact rf_nul) ?_
                  refine pw_get (pc2 := 85) kX10 (k := 3) (by decide) rfl fl_X10_21 K0.c60 rfl dX10_can_82 rfl ?_
                  refine pw_iload_n (pc2 := 86) dX10_can_85 rfl rfl 3 rfl ?_
                  refine pw_aaldN (pc2 := 87) 6 rfl rfl K0.c64 (i := p) (by first | assumption | omega) (by omega) dX10_can_86 rfl ?_
                  refine pw_topV (rowv (by first | assumption | omega)) ?_
                  refine pw_iload_n (pc2 := 88) dX10_can_87 rfl rfl 0 rfl ?_
                  refine pw_ialdN (pc2 := 89) (K0.c91 hp6) (i := i) (by first | assumption | omega) (by omega) dX10_can_88 rfl ?_
                  refine pw_aload_n (pc2 := 90) dX10_can_89 rfl rfl 2 rfl (by first | exact rf_ref _ | exact rf_opt _ | exact rf_nul) ?_
                  refine pw_get (pc2 := 93) kX10 (k := 14) (by decide) rfl fl_X10_55 K0.c60 rfl dX10_can_90 rfl ?_
                  refine pw_iload_n (pc2 := 94) dX10_can_93 rfl rfl 3 rfl ?_
                  refine pw_aaldN (pc2 := 95) 6 rfl rfl K0.c75 (i := p) (by first | assumption | omega) (by omega) dX10_can_94 rfl ?_
                  refine pw_topV (rowv (by first | assumption | omega)) ?_
                  refine pw_iload_n (pc2 := 96) dX10_can_95 rfl rfl 0 rfl ?_
                  refine pw_ialdN (pc2 := 97) (K0.c95 hp6) (i := i) (by first | assumption | omega) (by omega) dX10_can_96 rfl ?_
                  refine pw_icmp_ne (tgt := 123) (pc2 := 100) dX10_can_97 (by decide) rfl (fun c97 => ?_) (fun c97 => ?_)
                  · refine pw_iconst (pc2 := 124) (v := 0) dX10_can_123 rfl (by decide) ?_
                    refine pw_istore_n (pc2 := 125) (L2 := [(2, Value.int 0), (3, Value.int (nI i)), (0, Value.ref (A 60 0)), (1, Value.int (nI p))]) dX10_can_124 rfl rfl (by decide) rfl ?_
                    refine pw_iinc (pc2 := 128) (v := nI (i + 1)) (L2 := [(3, Value.int (nI (i + 1))), (2, Value.int 0), (0, Value.ref (A 60 0)), (1, Value.int (nI p))]) dX10_can_125 rfl 1 rfl (by show nI _ + 1 = nI _; exact nI_1 _) (by decide) rfl ?_
                    refine pw_goto (tgt := 55) dX10_can_128 (by decide) ?_
                    refine PW.sub (L2 := [(3, Value.int (nI (i + 1))), (2, Value.int 0), (0, Value.ref (A 60 0)), (1, Value.int (nI p))]) [0, 1, 2, 3] rfl ?_
                    refine ih (i + 1) 0 ?_ (by omega)
                    have hall : ∀ j, j < i → okP σ p g' j := by rcases hac with ⟨_, q⟩ | ⟨q, _⟩; exact q; exact absurd q c62
                    obtain ⟨e95, e96, e94, -⟩ := hpp6 i hi9
                    refine Or.inr ⟨rfl, fun z => ?_⟩
                    first | exact c78 (((vG_inj hR (hgo i) (h33 i hi9)).mpr (z.2.2 i hi9).symm).trans e94.symm) | exact c97 ((congrFun e91 i).trans ((z.2.1.2.2 i hi9).1.symm.trans e95.symm)) | exact c116 ((congrFun e92 i).trans ((z.2.1.2.2 i hi9).2.symm.trans e96.symm))
                  · refine pw_aload_n (pc2 := 101) dX10_can_100 rfl rfl 2 rfl (by first | exact rf_ref _ | exact rf_opt _ | exact rf_nul) ?_
                    refine pw_get (pc2 := 104) kX10 (k := 4) (by decide) rfl fl_X10_24 K0.c60 rfl dX10_can_101 rfl ?_
                    refine pw_iload_n (pc2 := 105) dX10_can_104 rfl rfl 3 rfl ?_
                    refine pw_aaldN (pc2 := 106) 6 rfl rfl K0.c65 (i := p) (by first | assumption | omega) (by omega) dX10_can_105 rfl ?_
                    refine pw_topV (rowv (by first | assumption | omega)) ?_
                    refine pw_iload_n (pc2 := 107) dX10_can_106 rfl rfl 0 rfl ?_
                    refine pw_ialdN (pc2 := 108) (K0.c92 hp6) (i := i) (by first | assumption | omega) (by omega) dX10_can_107 rfl ?_
                    refine pw_aload_n (pc2 := 109) dX10_can_108 rfl rfl 2 rfl (by first | exact rf_ref _ | exact rf_opt _ | exact rf_nul) ?_
                    refine pw_get (pc2 := 112) kX10 (k := 15) (by decide) rfl fl_X10_58 K0.c60 rfl dX10_can_109 rfl ?_
                    refine pw_iload_n (pc2 := 113) dX10_can_112 rfl rfl 3 rfl ?_
                    refine pw_aaldN (pc2 := 114) 6 rfl rfl K0.c76 (i := p) (by first | assumption | omega) (by omega) dX10_can_113 rfl ?_
                    refine pw_topV (rowv (by first | assumption | omega)) ?_
                    refine pw_iload_n (pc2 := 115) dX10_can_114 rfl rfl 0 rfl ?_
                    refine pw_ialdN (pc2 := 116) (K0.c96 hp6) (i := i) (by first | assumption | omega) (by omega) dX10_can_115 rfl ?_
                    refine pw_icmp_ne (tgt := 123) (pc2 := 119) dX10_can_116 (by decide) rfl (fun c116 => ?_) (fun c116 => ?_)
                    · refine pw_iconst (pc2 := 124) (v := 0) dX10_can_123 rfl (by decide) ?_
                      refine pw_istore_n (pc2 := 125) (L2 := [(2, Value.int 0), (3, Value.int (nI i)), (0, Value.ref (A 60 0)), (1, Value.int (nI p))]) dX10_can_124 rfl rfl (by decide) rfl ?_
                      refine pw_iinc (pc2 := 128) (v := nI (i + 1)) (L2 := [(3, Value.int (nI (i + 1))), (2, Value.int 0), (0, Value.ref (A 60 0)), (1, Value.int (nI p))]) dX10_can_125 rfl 1 rfl (by show nI _ + 1 = nI _; exact nI_1 _) (by decide) rfl ?_
                      refine pw_goto (tgt := 55) dX10_can_128 (by decide) ?_
                      refine PW.sub (L2 := [(3, Value.int (nI (i + 1))), (2, Value.int 0), (0, Value.ref (A 60 0)), (1, Value.int (nI p))]) [0, 1, 2, 3] rfl ?_
                      refine ih (i + 1) 0 ?_ (by omega)
                      have hall : ∀ j, j < i → okP σ p g' j := by rcases hac with ⟨_, q⟩ | ⟨q, _⟩; exact q; exact absurd q c62
                      obtain ⟨e95, e96, e94, -⟩ := hpp6 i hi9
                      refine Or.inr ⟨rfl, fun z => ?_⟩
                      first | exact c78 (((vG_inj hR (hgo i) (h33 i hi9)).mpr (z.2.2 i hi9).symm).trans e94.symm) | exact c97 ((congrFun e91 i).trans ((z.2.1.2.2 i hi9).1.symm.trans e95.symm)) | exact c116 ((congrFun e92 i).trans ((z.2.1.2.2 i hi9).2.symm.trans e96.symm))
                    · refine pw_iconst (pc2 := 120) (v := 1) dX10_can_119 rfl (by decide) ?_
                      refine pw_goto (tgt := 124) dX10_can_120 (by decide) ?_
                      refine pw_istore_n (pc2 := 125) (L2 := [(2, Value.int 1), (3, Value.int (nI i)), (0, Value.ref (A 60 0)), (1, Value.int (nI p))]) dX10_can_124 rfl rfl (by decide) rfl ?_
                      refine pw_iinc (pc2 := 128) (v := nI (i + 1)) (L2 := [(3, Value.int (nI (i + 1))), (2, Value.int 1), (0, Value.ref (A 60 0)), (1, Value.int (nI p))]) dX10_can_125 rfl 1 rfl (by show nI _ + 1 = nI _; exact nI_1 _) (by decide) rfl ?_
                      refine pw_goto (tgt := 55) dX10_can_128 (by decide) ?_
                      refine PW.sub (L2 := [(3, Value.int (nI (i + 1))), (2, Value.int 1), (0, Value.ref (A 60 0)), (1, Value.int (nI p))]) [0, 1, 2, 3] rfl ?_
                      refine ih (i + 1) 1 ?_ (by omega)
                      have hall : ∀ j, j < i → okP σ p g' j := by rcases hac with ⟨_, q⟩ | ⟨q, _⟩; exact q; exact absurd q c62
                      obtain ⟨e95, e96, e94, -⟩ := hpp6 i hi9
                      refine Or.inl ⟨rfl, fun j hj => ?_⟩
                      by_cases ej : j = i
                      · subst ej
                        exact ⟨e95.symm.trans (c97.symm.trans (congrFun e91 j)), e96.symm.trans (c116.symm.trans (congrFun e92 j)), ((vG_inj hR (hgo j) (h33 j hi9)).mp (c78.trans e94)).symm⟩
                      · exact hall j (by omega)
          refine PW.sub (L2 := [(3, Value.int 0), (2, Value.int 1), (0, Value.ref (A 60 0)), (1, Value.int (nI p))]) [0, 1, 2, 3] rfl ?_
          exact loop 6 0 1 (Or.inl ⟨rfl, fun j hj => absurd hj (Nat.not_lt_zero j)⟩) (by omega)
def lsF (ofr : Nat → Nat) (p : Nat) : Nat → Option Nat
  | 0 => none
  | r + 1 => if ofr r = p then some r else lsF ofr p r
theorem lsF_n {ofr : Nat → Nat} {p : Nat} : ∀ n, lsF ofr p n = none → cntq ofr p n = 0
  | 0, _ => rfl
  | n + 1, h => by
    unfold lsF at h
    by_cases e : ofr n = p
    · rw [if_pos e] at h; cases h
    · rw [if_neg e] at h
      show cntq ofr p n + _ = 0
      rw [lsF_n n h, if_neg e]
theorem lsF_x {ofr : Nat → Nat} {p x : Nat} : ∀ n, lsF ofr p n = some x → x < n ∧ ofr x = p ∧ cntq ofr p n = cntq ofr p x + 1
  | 0, h => by cases h
  | n + 1, h => by
    unfold lsF at h
    by_cases e : ofr n = p
    · rw [if_pos e] at h; cases h
      refine ⟨Nat.lt_succ_self _, e, ?_⟩
      show cntq ofr p _ + _ = _
      rw [if_pos e]
    · rw [if_neg e] at h
      obtain ⟨h1, h2, h3⟩ := lsF_x n h
      refine ⟨by omega, h2, ?_⟩
      show cntq ofr p n + _ = _
      rw [if_neg e]; exact h3
theorem vAh_0 {σ : sT} {ofr : Nat → Nat} (hR : MR σ ofr) {p : Nat} (hp : p < 6) (h : lsF ofr p (nrl σ) = none) : vAh σ p = 100 := by
  unfold vAh
  rw [(hR.2 p hp).1, lsF_n _ h]
  exact if_pos rfl
theorem vAh_x {σ : sT} {ofr : Nat → Nat} (hR : MR σ ofr) {p x : Nat} (hp : p < 6) (h : lsF ofr p (nrl σ) = some x) : vAh σ p = if σ.1 40 x 1 = σ.1 21 p 0 then σ.1 40 x 0 + 1 else (σ.1 40 x 0 / 100 + 1) * 100 := by
  obtain ⟨h1, h2, h3⟩ := lsF_x _ h
  have e1 : rnp σ p = cntq ofr p x + 1 := (hR.2 p hp).1.trans h3
  have e2 : ixp σ p (rnp σ p - 1) = x := by rw [e1, Nat.add_sub_cancel]; exact (hR.2 p hp).2 x h1 h2
  unfold vAh
  rw [e2, if_neg (by omega)]
theorem v100 (v : Int32) : (v / 100 + 1) * 100 = v / 100 * 100 + 100 := by rw [Int32.add_mul, Int32.one_mul]
set_option maxHeartbeats 4000000 in
set_option maxRecDepth 100000 in
theorem c_last (G : hG) (h : hp) {A : aT} {σ : sT} (H : WM G h A σ) (hb : MB σ) {ofr : Nat → Nat} (hR : MR σ ofr) {p : Nat} (hp : p < npk σ) : PMet G MX10_last 0 0 0 [.ref (A 60 0), .int (nI p)] h (det (some (.int (enc (lsF ofr p (nrl σ))))) h) noX := by
  have hnp := H.iv.1
  have hnr := H.iv.2.2.1
  refine PMet.of (by decide +kernel) (Nat.le_of_ble_eq_true rfl) (fun d hd => ?_)
  refine PW.sub (L2 := [(0, Value.ref (A 60 0)), (1, Value.int (nI p))]) [0, 1] rfl ?_
  refine pw_iconst (pc2 := 1) (v := (-1)) dX10_last_0 rfl (by decide) ?_
  refine pw_istore_n (pc2 := 2) (L2 := [(2, Value.int (-1)), (0, Value.ref (A 60 0)), (1, Value.int (nI p))]) dX10_last_1 rfl rfl (by decide) rfl ?_
  refine pw_iconst (pc2 := 3) (v := 0) dX10_last_2 rfl (by decide) ?_
  refine pw_istore_n (pc2 := 4) (L2 := [(3, Value.int 0), (2, Value.int (-1)), (0, Value.ref (A 60 0)), (1, Value.int (nI p))]) dX10_last_3 rfl rfl (by decide) rfl ?_
  have loop : ∀ (k i : Nat) (ac : Int32) (hac : ac = enc (lsF ofr p i)), i + k = nrl σ → PW G MX10_last d noA (E0 G (det (some (.int (enc (lsF ofr p (nrl σ))))) h) noX) 0 0 4 [(3, Value.int (nI i)), (2, Value.int ac), (0, Value.ref (A 60 0)), (1, Value.int (nI p))] [] h := by
    intro k
    induction k with
    | zero =>
      intro i ac hac hik
      have hi9 : i = nrl σ := by omega
      refine pw_iload_n (pc2 := 5) dX10_last_4 rfl rfl 0 rfl ?_
      refine pw_aload_n (pc2 := 6) dX10_last_5 rfl rfl 2 rfl (by first | exact rf_ref _ | exact rf_opt _ | exact rf_nul) ?_
      refine pw_get (pc2 := 9) kX10 (k := 24) (by decide) rfl fl_X10_146 H.c60 rfl dX10_last_6 rfl ?_
      refine pw_topE hb.2.1 ?_
      refine pw_icmp_ge (tgt := 34) (pc2 := 12) dX10_last_9 (by decide) rfl (fun _ => ?_) (fun c9 => by exact absurd (by first | exact (nI_leI (a := nrl σ) (b := i) (by omega) (by omega)).mpr (by omega) | exact fun q => absurd ((nI_leI (a := nrl σ) (b := i) (by omega) (by omega)).mp q) (by omega)) c9)
      refine pw_iload_n (pc2 := 35) dX10_last_34 rfl rfl 1 rfl ?_
      refine pw_iret dX10_last_35 rfl (by first | rfl | assumption | simp [narrow]) ?_
      exact ⟨by rw [hac, hi9], rfl⟩
    | succ k ih =>
      intro i ac hac hik
      have hi9 : i < nrl σ := by omega
      have hof := (hR.1 i hi9).1
      refine pw_iload_n (pc2 := 5) dX10_last_4 rfl rfl 0 rfl ?_
      refine pw_aload_n (pc2 := 6) dX10_last_5 rfl rfl 2 rfl (by first | exact rf_ref _ | exact rf_opt _ | exact rf_nul) ?_
      refine pw_get (pc2 := 9) kX10 (k := 24) (by decide) rfl fl_X10_146 H.c60 rfl dX10_last_6 rfl ?_
      refine pw_topE hb.2.1 ?_
      refine pw_icmp_ge (tgt := 34) (pc2 := 12) dX10_last_9 (by decide) rfl (fun c9 => by exact absurd c9 (by first | exact (nI_leI (a := nrl σ) (b := i) (by omega) (by omega)).mpr (by omega) | exact fun q => absurd ((nI_leI (a := nrl σ) (b := i) (by omega) (by omega)).mp q) (by omega))) (fun _ => ?_)
      refine pw_aload_n (pc2 := 13) dX10_last_12 rfl rfl 2 rfl (by first | exact rf_ref _ | exact rf_opt _ | exact rf_nul) ?_
      refine pw_get (pc2 := 16) kX10 (k := 17) (by decide) rfl fl_X10_61 H.c60 rfl dX10_last_13 rfl ?_
      refine pw_iload_n (pc2 := 17) dX10_last_16 rfl rfl 0 rfl ?_
      refine pw_ialdN (pc2 := 18) H.c77 (i := i) (by first | assumption | omega) (by omega) dX10_last_17 rfl ?_
      refine pw_topE (hR.1 i hi9).2.1 ?_
      refine pw_iload_n (pc2 := 19) dX10_last_18 rfl rfl 3 rfl ?_
      refine pw_icmp_ne (tgt := 26) (pc2 := 22) dX10_last_19 (by decide) rfl (fun c19 => ?_) (fun c19 => ?_)
      · refine pw_iload_n (pc2 := 27) dX10_last_26 rfl rfl 1 rfl ?_
        refine pw_istore_n (pc2 := 28) (L2 := [(2, Value.int ac), (3, Value.int (nI i)), (0, Value.ref (A 60 0)), (1, Value.int (nI p))]) dX10_last_27 rfl rfl (by decide) rfl ?_
        refine pw_iinc (pc2 := 31) (v := nI (i + 1)) (L2 := [(3, Value.int (nI (i + 1))), (2, Value.int ac), (0, Value.ref (A 60 0)), (1, Value.int (nI p))]) dX10_last_28 rfl 1 rfl (by show nI _ + 1 = nI _; exact nI_1 _) (by decide) rfl ?_
        refine pw_goto (tgt := 4) dX10_last_31 (by decide) ?_
        refine PW.sub (L2 := [(3, Value.int (nI (i + 1))), (2, Value.int ac), (0, Value.ref (A 60 0)), (1, Value.int (nI p))]) [0, 1, 2, 3] rfl ?_
        refine ih (i + 1) (ac) ?_ (by omega)
        rw [show lsF ofr p (i + 1) = lsF ofr p i from if_neg (fun z => c19 (congrArg nI z))]; exact hac
      · refine pw_iload_n (pc2 := 23) dX10_last_22 rfl rfl 0 rfl ?_
        refine pw_goto (tgt := 27) dX10_last_23 (by decide) ?_
        refine pw_istore_n (pc2 := 28) (L2 := [(2, Value.int (nI i)), (3, Value.int (nI i)), (0, Value.ref (A 60 0)), (1, Value.int (nI p))]) dX10_last_27 rfl rfl (by decide) rfl ?_
        refine pw_iinc (pc2 := 31) (v := nI (i + 1)) (L2 := [(3, Value.int (nI (i + 1))), (2, Value.int (nI i)), (0, Value.ref (A 60 0)), (1, Value.int (nI p))]) dX10_last_28 rfl 1 rfl (by show nI _ + 1 = nI _; exact nI_1 _) (by decide) rfl ?_
        refine pw_goto (tgt := 4) dX10_last_31 (by decide) ?_
        refine PW.sub (L2 := [(3, Value.int (nI (i + 1))), (2, Value.int (nI i)), (0, Value.ref (A 60 0)), (1, Value.int (nI p))]) [0, 1, 2, 3] rfl ?_
        refine ih (i + 1) (nI i) ?_ (by omega)
        show nI i = enc (lsF ofr p (i + 1))
        rw [show lsF ofr p (i + 1) = some i from if_pos (nI_inj (by omega) (by omega) c19)]; rfl
  refine PW.sub (L2 := [(3, Value.int 0), (2, Value.int (-1)), (0, Value.ref (A 60 0)), (1, Value.int (nI p))]) [0, 1, 2, 3] rfl ?_
  exact loop (nrl σ) 0 (-1) rfl (by omega)
set_option maxHeartbeats 4000000 in
set_option maxRecDepth 100000 in
theorem c_mnext (G : hG) (h : hp) {A : aT} {σ : sT} (H : WM G h A σ) (hb : MB σ) {ofr : Nat → Nat} (hR : MR σ ofr) {p : Nat} (hp : p < npk σ) (hS : RS σ) : PMet G MX10_next 1 0 0 [.ref (A 60 0), .int (nI p)] h (det (some (.int (vAh σ p))) h) noX := by
  have hnp := H.iv.1
  have hnr := H.iv.2.2.1
  have hp6 : p < 6 := by omega
  refine PMet.of (by decide +kernel) (Nat.le_of_ble_eq_true rfl) (fun d hd => ?_)
  refine PW.sub (L2 := [(0, Value.ref (A 60 0)), (1, Value.int (nI p))]) [0, 1] rfl ?_
  refine pw_aload_n (pc2 := 1) dX10_next_0 rfl rfl 0 rfl (by first | exact rf_ref _ | exact rf_opt _ | exact rf_nul) ?_
  refine pw_iload_n (pc2 := 2) dX10_next_1 rfl rfl 1 rfl ?_
  refine pw_callV1 (pc2 := 5) (c_last G _ H hb hR hp) cs_X10_200 rfl rfl H.c60 dX10_next_2 rfl (by omega) rfl (by first | decide | simp [cat_rf, Value.category]) ?_
  cases hl : lsF ofr p (nrl σ) with
  | none =>
    refine pw_topE (show enc none = -1 from rfl) ?_
    refine pw_istore_n (pc2 := 6) (L2 := [(2, Value.int (-1)), (0, Value.ref (A 60 0)), (1, Value.int (nI p))]) dX10_next_5 rfl rfl (by decide) rfl ?_
    refine pw_iload_n (pc2 := 7) dX10_next_6 rfl rfl 0 rfl ?_
    refine pw_iconst (pc2 := 8) (v := (-1)) dX10_next_7 rfl (by decide) ?_
    refine pw_icmp_ne (tgt := 14) (pc2 := 11) dX10_next_8 (by decide) rfl (fun c8 => by exact absurd (rfl) c8) (fun _ => ?_)
    refine pw_bipush (pc2 := 13) (v := 100) dX10_next_11 rfl (by decide) ?_
    refine pw_iret dX10_next_13 rfl (by first | rfl | assumption | simp [narrow]) ?_
    exact ⟨by rw [vAh_0 hR hp6 hl], rfl⟩
  | some x =>
    refine pw_topE (show enc (some x) = nI x from rfl) ?_
    have hx := (lsF_x _ hl).1
    refine pw_istore_n (pc2 := 6) (L2 := [(2, Value.int (nI x)), (0, Value.ref (A 60 0)), (1, Value.int (nI p))]) dX10_next_5 rfl rfl (by decide) rfl ?_
    refine pw_iload_n (pc2 := 7) dX10_next_6 rfl rfl 0 rfl ?_
    refine pw_iconst (pc2 := 8) (v := (-1)) dX10_next_7 rfl (by decide) ?_
    refine pw_icmp_ne (tgt := 14) (pc2 := 11) dX10_next_8 (by decide) rfl (fun _ => ?_) (fun c8 => by exact absurd c8 (nIne x (by omega)))
    refine pw_aload_n (pc2 := 15) dX10_next_14 rfl rfl 1 rfl (by first | exact rf_ref _ | exact rf_opt _ | exact rf_nul) ?_
    refine pw_get (pc2 := 18) kX10 (k := 18) (by decide) rfl fl_X10_64 H.c60 rfl dX10_next_15 rfl ?_
    refine pw_iload_n (pc2 := 19) dX10_next_18 rfl rfl 0 rfl ?_
    refine pw_ialdN (pc2 := 20) H.c78 (i := x) (by first | assumption | omega) (by omega) dX10_next_19 rfl ?_
    refine pw_topE (hR.1 x hx).2.2.1 ?_
    refine pw_topi (fun v1 ev1 => ?_)
    refine pw_istore_n (pc2 := 21) (L2 := [(3, Value.int v1), (2, Value.int (nI x)), (0, Value.ref (A 60 0)), (1, Value.int (nI p))]) dX10_next_20 rfl rfl (by decide) rfl ?_
    refine pw_aload_n (pc2 := 22) dX10_next_21 rfl rfl 2 rfl (by first | exact rf_ref _ | exact rf_opt _ | exact rf_nul) ?_
    refine pw_get (pc2 := 25) kX10 (k := 19) (by decide) rfl fl_X10_67 H.c60 rfl dX10_next_22 rfl ?_
    refine pw_iload_n (pc2 := 26) dX10_next_25 rfl rfl 1 rfl ?_
    refine pw_ialdN (pc2 := 27) H.c79 (i := x) (by first | assumption | omega) (by omega) dX10_next_26 rfl ?_
    refine pw_topE (hR.1 x hx).2.2.2.1 ?_
    refine pw_aload_n (pc2 := 28) dX10_next_27 rfl rfl 2 rfl (by first | exact rf_ref _ | exact rf_opt _ | exact rf_nul) ?_
    refine pw_get (pc2 := 31) kX10 (k := 1) (by decide) rfl fl_X10_13 H.c60 rfl dX10_next_28 rfl ?_
    refine pw_iload_n (pc2 := 32) dX10_next_31 rfl rfl 3 rfl ?_
    refine pw_ialdN (pc2 := 33) H.c62 (i := p) (by first | assumption | omega) (by omega) dX10_next_32 rfl ?_
    refine pw_topE (hS p hp).1 ?_
    refine pw_icmp_eq (tgt := 49) (pc2 := 36) dX10_next_33 (by decide) rfl (fun c33 => ?_) (fun c33 => ?_)
    · refine pw_iload_n (pc2 := 50) dX10_next_49 rfl rfl 0 rfl ?_
      refine pw_iconst (pc2 := 51) (v := 1) dX10_next_50 rfl (by decide) ?_
      refine pw_iadd (pc2 := 52) dX10_next_51 rfl ?_
      refine pw_iret dX10_next_52 rfl (by first | rfl | assumption | simp [narrow]) ?_
      refine ⟨?_, rfl⟩
      rw [vAh_x hR hp6 hl, ev1]
      first | rw [if_pos c33] | rw [if_neg c33, v100]
    · refine pw_iload_n (pc2 := 37) dX10_next_36 rfl rfl 0 rfl ?_
      refine pw_bipush (pc2 := 39) (v := 100) dX10_next_37 rfl (by decide) ?_
      refine pw_idiv (pc2 := 40) dX10_next_39 rfl (by decide) ?_
      refine pw_bipush (pc2 := 42) (v := 100) dX10_next_40 rfl (by decide) ?_
      refine pw_imul (pc2 := 43) dX10_next_42 rfl ?_
      refine pw_bipush (pc2 := 45) (v := 100) dX10_next_43 rfl (by decide) ?_
      refine pw_iadd (pc2 := 46) dX10_next_45 rfl ?_
      refine pw_goto (tgt := 52) dX10_next_46 (by decide) ?_
      refine pw_iret dX10_next_52 rfl (by first | rfl | assumption | simp [narrow]) ?_
      refine ⟨?_, rfl⟩
      rw [vAh_x hR hp6 hl, ev1]
      first | rw [if_pos c33] | rw [if_neg c33, v100]
set_option maxHeartbeats 4000000 in
set_option maxRecDepth 100000 in
theorem c_mnextV (G : hG) (h : hp) {A : aT} {σ : sT} (H : WM G h A σ) (hb : MB σ) {ofr : Nat → Nat} (hR : RR σ ofr) (hS : RS σ) (n : Int32) : PMet G MX10_nextVersion 3 0 0 [.ref (A 60 0), .int n] h (fun r h2 => (¬ inR n (npk σ) ∧ QSM G h A (.int 0) (thS σ 1) r h2) ∨ (∃ p, p < npk σ ∧ n = nI p ∧ QSM G h A (.int (vAh σ p)) (thS σ 0) r h2)) noX := by
  have hnp := H.iv.1
  refine PMet.of (by decide +kernel) (Nat.le_of_ble_eq_true rfl) (fun d hd => ?_)
  refine PW.sub (L2 := [(0, Value.ref (A 60 0)), (1, Value.int n)]) [0, 1] rfl ?_
  refine pw_aload_n (pc2 := 1) dX10_nextVersion_0 rfl rfl 0 rfl (by first | exact rf_ref _ | exact rf_opt _ | exact rf_nul) ?_
  refine pw_iload_n (pc2 := 2) dX10_nextVersion_1 rfl rfl 1 rfl ?_
  refine pw_callV (pc2 := 5) (c_lacks G _ H hb n) cs_X10_123 rfl rfl H.c60 dX10_nextVersion_2 rfl (by omega) rfl (by first | decide | simp [cat_rf, Value.category]) (fun r9 h9 q9 => ?_) (fun Y h9 q9 => q9.elim)
  rcases q9 with ⟨hin, rfl, K1, FK1⟩ | ⟨hin, rfl, K1, FK1⟩
  · obtain ⟨p, hpp, rfl⟩ := inR_ex (by omega) hin
    have hp6 : p < 6 := by omega
    have c60K1 : h9 (A 60 0) = some (oB 13 [.ref (A 61 0), .ref (A 62 0), .ref (A 63 0), .ref (A 64 0), .ref (A 65 0), .ref (A 66 0), .ref (A 67 0), .ref (A 68 0), .ref (A 69 0), .ref (A 70 0), .ref (A 71 0), .ref (A 72 0), .ref (A 73 0), .ref (A 74 0), .ref (A 75 0), .ref (A 76 0), .int (σ.1 60 0 0), .ref (A 77 0), .ref (A 78 0), .ref (A 79 0), .ref (A 80 0), .ref (A 81 0), .ref (A 82 0), .ref (A 83 0), .int (σ.1 60 0 1), .ref (A 84 0), .ref (A 85 0), .ref (A 86 0), .ref (A 87 0), .ref (A 88 0), .int (σ.1 60 0 2), .int (σ.1 60 0 3), .ref (A 89 0), .int (σ.1 60 0 4), .int (σ.1 60 0 5), .int (σ.1 60 0 6), .ref (A 90 0), .int 0]) := K1.c60
    refine pw_if_eq (tgt := 12) (pc2 := 8) dX10_nextVersion_5 (by decide) rfl (fun _ => ?_) (fun c5 => by exact absurd (by decide) c5)
    refine pw_aload_n (pc2 := 13) dX10_nextVersion_12 rfl rfl 0 rfl (by first | exact rf_ref _ | exact rf_opt _ | exact rf_nul) ?_
    refine pw_iload_n (pc2 := 14) dX10_nextVersion_13 rfl rfl 1 rfl ?_
    refine pw_callV1 (pc2 := 17) (c_mnext G _ K1 hb hR.1 hpp hS) cs_X10_203 rfl rfl c60K1 dX10_nextVersion_14 rfl (by omega) rfl (by first | decide | simp [cat_rf, Value.category]) ?_
    refine pw_iret dX10_nextVersion_17 rfl (by first | rfl | assumption | simp [narrow]) ?_
    exact Or.inr ⟨p, hpp, rfl, rfl, K1, FK1⟩
  · refine pw_if_eq (tgt := 12) (pc2 := 8) dX10_nextVersion_5 (by decide) rfl (fun c5 => by exact absurd c5 (by decide)) (fun _ => ?_)
    refine pw_iconst (pc2 := 9) (v := 0) dX10_nextVersion_8 rfl (by decide) ?_
    refine pw_goto (tgt := 17) dX10_nextVersion_9 (by decide) ?_
    refine pw_iret dX10_nextVersion_17 rfl (by first | rfl | assumption | simp [narrow]) ?_
    exact Or.inl ⟨hin, rfl, K1, FK1⟩
theorem psW_th {σ : sT} {v : Int32} {p : Nat} {g : Nat → Option Nat} : psW (thS σ v) p g ↔ psW σ p g := Iff.rfl
theorem pubC_th {σ : sT} {v : Int32} {p : Nat} : pubC (thS σ v) p ↔ pubC σ p := by
  unfold pubC
  rw [srS_th]
  exact Iff.rfl
set_option maxHeartbeats 4000000 in
set_option maxRecDepth 100000 in
theorem c_mcanP (G : hG) (h : hp) {A : aT} {σ : sT} (H : WM G h A σ) (hb : MB σ) {ofr : Nat → Nat} (hR : RR σ ofr) (hS : RS σ) (hP : RP σ ofr) (n : Int32) : PMet G MX10_canPublish 12 0 0 [.ref (A 60 0), .int n] h (fun r h2 => (¬ inR n (npk σ) ∧ QSM G h A (.int 0) (thS σ 1) r h2) ∨ (∃ p C, p < npk σ ∧ n = nI p ∧ ((pubC σ p ∧ QSM G h A (.int 1) (setI (thS σ 0) 90 0 C) r h2) ∨ (¬ pubC σ p ∧ QSM G h A (.int 0) (setI (thS σ 0) 90 0 C) r h2)))) noX := by
  have hnp := H.iv.1
  refine PMet.of (by decide +kernel) (Nat.le_of_ble_eq_true rfl) (fun d hd => ?_)
  refine PW.sub (L2 := [(0, Value.ref (A 60 0)), (1, Value.int n)]) [0, 1] rfl ?_
  refine pw_aload_n (pc2 := 1) dX10_canPublish_0 rfl rfl 0 rfl (by first | exact rf_ref _ | exact rf_opt _ | exact rf_nul) ?_
  refine pw_iload_n (pc2 := 2) dX10_canPublish_1 rfl rfl 1 rfl ?_
  refine pw_callV (pc2 := 5) (c_lacks G _ H hb n) cs_X10_123 rfl rfl H.c60 dX10_canPublish_2 rfl (by omega) rfl (by first | decide | simp [cat_rf, Value.category]) (fun r9 h9 q9 => ?_) (fun Y h9 q9 => q9.elim)
  rcases q9 with ⟨hin, rfl, K1, FK1⟩ | ⟨hin, rfl, K1, FK1⟩
  · obtain ⟨p, hpp, rfl⟩ := inR_ex (by omega) hin
    have hp6 : p < 6 := by omega
    have c60K1 : h9 (A 60 0) = some (oB 13 [.ref (A 61 0), .ref (A 62 0), .ref (A 63 0), .ref (A 64 0), .ref (A 65 0), .ref (A 66 0), .ref (A 67 0), .ref (A 68 0), .ref (A 69 0), .ref (A 70 0), .ref (A 71 0), .ref (A 72 0), .ref (A 73 0), .ref (A 74 0), .ref (A 75 0), .ref (A 76 0), .int (σ.1 60 0 0), .ref (A 77 0), .ref (A 78 0), .ref (A 79 0), .ref (A 80 0), .ref (A 81 0), .ref (A 82 0), .ref (A 83 0), .int (σ.1 60 0 1), .ref (A 84 0), .ref (A 85 0), .ref (A 86 0), .ref (A 87 0), .ref (A 88 0), .int (σ.1 60 0 2), .int (σ.1 60 0 3), .ref (A 89 0), .int (σ.1 60 0 4), .int (σ.1 60 0 5), .int (σ.1 60 0 6), .ref (A 90 0), .int 0]) := K1.c60
    refine pw_if_ne (tgt := 20) (pc2 := 8) dX10_canPublish_5 (by decide) rfl (fun c5 => by exact absurd (by decide) c5) (fun _ => ?_)
    refine pw_aload_n (pc2 := 9) dX10_canPublish_8 rfl rfl 0 rfl (by first | exact rf_ref _ | exact rf_opt _ | exact rf_nul) ?_
    refine pw_iload_n (pc2 := 10) dX10_canPublish_9 rfl rfl 1 rfl ?_
    refine pw_callV (pc2 := 13) (c_mcan G _ K1 hb hR hS hP hpp) cs_X10_197 rfl rfl c60K1 dX10_canPublish_10 rfl (by omega) rfl (by first | decide | simp [cat_rf, Value.category]) (fun r9 h8 q8 => ?_) (fun Y h9 q9 => q9.elim)
    obtain ⟨C, e9, hq⟩ := q8
    obtain ⟨K0, FK0⟩ := K1.wIF FK1 (t := 90) (i := 0) (f := C) rfl (by decide) (iv_setI K1.iv (by decide)) rfl
    replace K0 : WM G h8 A (setI (thS σ 0) 90 0 C) := by rw [e9]; exact K0
    replace FK0 : FM A h h8 := by rw [e9]; exact FK0
    rcases hq with ⟨rfl, g', hs, hps, -, -⟩ | ⟨rfl, hnp9⟩
    · refine pw_if_eq (tgt := 20) (pc2 := 16) dX10_canPublish_13 (by decide) rfl (fun c13 => by exact absurd c13 (by decide)) (fun _ => ?_)
      refine pw_iconst (pc2 := 17) (v := 1) dX10_canPublish_16 rfl (by decide) ?_
      refine pw_goto (tgt := 21) dX10_canPublish_17 (by decide) ?_
      refine pw_iret dX10_canPublish_21 rfl (by first | rfl | assumption | simp [narrow]) ?_
      exact Or.inr ⟨p, C, hpp, rfl, Or.inl ⟨⟨g', srS_th.symm.trans hs, hps⟩, rfl, K0, FK0⟩⟩
    · refine pw_if_eq (tgt := 20) (pc2 := 16) dX10_canPublish_13 (by decide) rfl (fun _ => ?_) (fun c13 => by exact absurd (by decide) c13)
      refine pw_iconst (pc2 := 21) (v := 0) dX10_canPublish_20 rfl (by decide) ?_
      refine pw_iret dX10_canPublish_21 rfl (by first | rfl | assumption | simp [narrow]) ?_
      exact Or.inr ⟨p, C, hpp, rfl, Or.inr ⟨fun z => hnp9 (pubC_th.mpr z), rfl, K0, FK0⟩⟩
  · refine pw_if_ne (tgt := 20) (pc2 := 8) dX10_canPublish_5 (by decide) rfl (fun _ => ?_) (fun c5 => by exact absurd c5 (by decide))
    refine pw_iconst (pc2 := 21) (v := 0) dX10_canPublish_20 rfl (by decide) ?_
    refine pw_iret dX10_canPublish_21 rfl (by first | rfl | assumption | simp [narrow]) ?_
    exact Or.inl ⟨hin, rfl, K1, FK1⟩
