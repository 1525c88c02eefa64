/-! PackageForge$Chooser: going through all ways finds what the search finds -/
/-- the choice found so far: the last good one of the first W ways -/
noncomputable def fnd (I : Nat → Nat → Nat → Int32) (N : Nat → Nat → Nat → Nat) (le gr : Nat → Int32) (n : Nat) : Nat → Option (Nat → Option Nat) := fS (fun W => dit (chc I le gr (cmb N n W zN)) (some (cmb N n W zN)) none)
theorem fnd_srch {I : Nat → Nat → Nat → Int32} {N : Nat → Nat → Nat → Nat} {le gr : Nat → Int32} {n : Nat} (hn : n ≤ 6) (hg : ∀ j, n ≤ j → j < 6 → gr j = 0) : fnd I N le gr n (wys N n) = srch I N le gr n zN := by
  unfold fnd
  rw [cmb_lst]
  refine lst_srch n zN hn (fun _ _ => rfl) (fun j h1 h2 => ⟨⟨fun q => ?_, fun ⟨x, hx⟩ => by cases hx⟩, fun x hx => by cases hx⟩)
  rcases q with q | ⟨a, x, -, -, q, -⟩
  · exact absurd (hg j h1 h2) q
  · cases q
def hAl (h : hp) (A : aT) (gw : Nat → Option Nat) (tk : Nat → Int32) (gf : Nat → Option Nat) : hp := va_up (va_up (va_up h (A 11 0) (some (aR tRel 6 (pa A gw)))) (A 12 0) (some (aI 6 tk))) (A 9 0) (some (aR tRel 6 (pa A gf)))
def sAl (σ : sT) (gw : Nat → Option Nat) (tk : Nat → Int32) (gf : Nat → Option Nat) : sT := setO (setI (setO σ 11 0 gw) 12 0 tk) 9 0 gf
theorem W9.al {G : hG} {h : hp} {A : aT} {σ : sT} (H : W9 G h A σ) {gw : Nat → Option Nat} {tk : Nat → Int32} {gf : Nat → Option Nat} (h1 : pkB σ gw) (h2 : pkB σ gf) : W9 G (hAl h A gw tk gf) A (sAl σ gw tk gf) :=
  ((H.wO (t := 11) (i := 0) rfl (by decide) h1 rfl).wI (t := 12) (i := 0) rfl (by decide) (iv_setI (iv_setO H.iv h1) (by decide)) rfl).wO (t := 9) (i := 0) rfl (by decide) h2 rfl
/-- what going through all leaves -/
abbrev QAl (G : hG) (A : aT) (σ : sT) (le gr : Nat → Int32) (k : Nat) (h : hp) : Option Value → hp → Prop := fun r h2 => ∃ gw tk gf, pkB σ gw ∧ pkB σ gf ∧ h2 = hAl h A gw tk gf ∧ (∀ g', srch σ.1 σ.2.1 le gr k zN = some g' → r = some (.ref (A 8 0)) ∧ gf = g') ∧ (srch σ.1 σ.2.1 le gr k zN = none → r = some .null)
section AL
variable {G : hG} {h : hp} {A : aT} {σ : sT}
theorem al_9 (H : W9 G h A σ) : A 11 0 ≠ A 9 0 ∧ A 12 0 ≠ A 9 0 ∧ A 11 0 ≠ A 12 0 := ⟨H.ne (t := 11) (u := 9) (i := 0) (j := 0) rfl rfl (Or.inl (by decide)), H.ne (t := 12) (u := 9) (i := 0) (j := 0) rfl rfl (Or.inl (by decide)), H.ne (t := 11) (u := 12) (i := 0) (j := 0) rfl rfl (Or.inl (by decide))⟩
theorem al_f (H : W9 G h A σ) {gw gf gf' : Nat → Option Nat} {tk : Nat → Int32} : va_up (hAl h A gw tk gf) (A 9 0) (some (aR tRel 6 (pa A gf'))) = hAl h A gw tk gf' := up_up _ _ _ _
theorem al_n (H : W9 G h A σ) {gw gf gw' : Nat → Option Nat} {tk tk' : Nat → Int32} : va_up (va_up (hAl h A gw tk gf) (A 11 0) (some (aR tRel 6 (pa A gw')))) (A 12 0) (some (aI 6 tk')) = hAl h A gw' tk' gf := by
  obtain ⟨e1, e2, e3⟩ := al_9 H
  unfold hAl
  rw [up_sw _ e1.symm, up_sw _ e2.symm, up4 _ e3]
theorem al_0 (H : W9 G h A σ) : hAl h A (σ.2.2 11 0) (σ.1 12 0) (σ.2.2 9 0) = h := by
  have e1 : va_up h (A 11 0) (some (aR tRel 6 (pa A (σ.2.2 11 0)))) = h := up_id H.c11
  have e3 : va_up h (A 9 0) (some (aR tRel 6 (pa A (σ.2.2 9 0)))) = h := up_id H.c9
  unfold hAl
  rw [e1, up_id H.c12, e3]
end AL
/-- what was found so far -/
def fOK (o : Option (Nat → Option Nat)) (fl : Int32) (gf : Nat → Option Nat) : Prop := (∀ g', o = some g' → fl = 1 ∧ gf = g') ∧ (o = none → fl = 0)
set_option maxHeartbeats 4000000 in
set_option maxRecDepth 100000 in
theorem c_goall (G : hG) (h : hp) {A : aT} {σ : sT} (H : W9 G h A σ) {nd a b : Nat} {le gr : Nat → Int32} (hn : isN h nd a b le gr) (hnk : ∀ gw tk gf, isN (hAl h A gw tk gf) nd a b le gr) {n : Nat} (hk : n ≤ npk σ) (hg0 : ∀ j, n ≤ j → j < 6 → gr j = 0) : PMet G MX2_goThroughAll 12 0 0 [.ref (A 7 0), .ref (A 1 0), .int (nI n), .ref nd] h (QAl G A σ le gr n h) noX := by
  have h6 := H.iv.1
  have hwl : wys σ.2.1 n < 2147483648 := Nat.lt_of_le_of_lt (wys_le n (fun p hp => H.rn20 (by omega)) n (Nat.le_refl n)) (Nat.lt_of_le_of_lt (Nat.pow_le_pow_right (by decide) (show n ≤ 6 by omega)) (by decide))
  have cm00 : cmb σ.2.1 n 0 zN = zN := by funext j; unfold cmb pkd dgt; rw [Nat.zero_div, Nat.zero_mod, if_pos rfl]; by_cases e : j < n; rw [if_pos e]; rfl; rw [if_neg e]
  refine PMet.of (by decide +kernel) (Nat.le_of_ble_eq_true rfl) (fun d hd => ?_)
  refine PW.sub (L2 := [(0, Value.ref (A 7 0)), (1, Value.ref (A 1 0)), (2, Value.int (nI n)), (3, Value.ref nd)]) [0, 1, 2, 3] rfl ?_
  refine pw_iconst (pc2 := 1) (v := 0) dX2_goThroughAll_0 rfl (by decide) ?_
  refine pw_istore (pc2 := 3) (L2 := [(4, Value.int 0), (0, Value.ref (A 7 0)), (1, Value.ref (A 1 0)), (2, Value.int (nI n)), (3, Value.ref nd)]) dX2_goThroughAll_1 rfl (by decide) rfl ?_
  refine pw_aload_n (pc2 := 4) dX2_goThroughAll_3 rfl rfl 1 rfl (by first | exact rf_ref _ | exact rf_opt _ | exact rf_nul) ?_
  refine pw_get (pc2 := 7) kX2 (k := 1) (by decide) rfl fl_X2_18 H.c7 rfl dX2_goThroughAll_4 rfl ?_
  refine pw_callV0 (pc2 := 10) (c_cclear G _ ⟨H.c10, H.c11⟩) cs_X2_25 rfl rfl H.c10 dX2_goThroughAll_7 rfl (by omega) rfl (by first | decide | simp [cat_rf, Value.category]) ?_
  refine pw_aload_n (pc2 := 11) dX2_goThroughAll_10 rfl rfl 1 rfl (by first | exact rf_ref _ | exact rf_opt _ | exact rf_nul) ?_
  refine pw_get (pc2 := 14) kX2 (k := 2) (by decide) rfl fl_X2_21 ((va_up_ne _ _ (ne_oa H.c7 H.c11)).trans H.c7) rfl dX2_goThroughAll_11 rfl ?_
  refine pw_iconst (pc2 := 15) (v := 0) dX2_goThroughAll_14 rfl (by decide) ?_
  refine pw_callS0 (pc2 := 18) (c_fill G _ ((va_up_ne _ _ (ne_aa H.c12 H.c11 (by decide))).trans H.c12) (by decide) 0) cs_X2_62 rfl dX2_goThroughAll_15 rfl (by omega) rfl (by first | decide | simp [cat_rf, Value.category]) ?_
  obtain ⟨h1, eh1⟩ : ∃ z : hp, z = va_up (va_up h (A 11 0) (some (aR tRel 6 zN))) (A 12 0) (some (aI 6 (flI (σ.1 12 0) 6 0))) := ⟨_, rfl⟩
  refine PW.heap (h' := h1) eh1.symm ?_
  have H1 : W9 G h1 A (setI (setO σ 11 0 zN) 12 0 (flI (σ.1 12 0) 6 0)) := by rw [eh1]; exact (H.wO (t := 11) (i := 0) rfl (by decide) (fun j x hx => by cases hx) rfl).wI (t := 12) (i := 0) rfl (by decide) (iv_setI (iv_setO H.iv (fun j x hx => by cases hx)) (by decide)) rfl
  refine pw_extI (a := A 12 0) (n := 6) (g := tkF σ.2.1 n 0) H1.c12 (by decide) (fun j hj => ?_) ?_
  · rw [setI_s]; unfold flI tkF dgt; rw [if_pos hj, Nat.zero_div, Nat.zero_mod]; by_cases e : j < n; rw [if_pos e]; rfl; rw [if_neg e]
  refine PW.heap (h' := va_up (va_up h (A 11 0) (some (aR tRel 6 (pa A (cmb σ.2.1 n 0 zN))))) (A 12 0) (some (aI 6 (tkF σ.2.1 n 0)))) ?_ ?_
  · rw [eh1, up_up, cm00]; rfl
  obtain ⟨h2, eh2⟩ : ∃ z : hp, z = va_up (va_up h (A 11 0) (some (aR tRel 6 (pa A (cmb σ.2.1 n 0 zN))))) (A 12 0) (some (aI 6 (tkF σ.2.1 n 0))) := ⟨_, rfl⟩
  refine PW.heap (h' := h2) eh2.symm ?_
  have H2 : W9 G h2 A (setI (setO σ 11 0 (cmb σ.2.1 n 0 zN)) 12 0 (tkF σ.2.1 n 0)) := by rw [eh2]; exact (H.wO (t := 11) (i := 0) rfl (by decide) (cmb_B H.iv hk) rfl).wI (t := 12) (i := 0) rfl (by decide) (iv_setI (iv_setO H.iv (cmb_B H.iv hk)) (by decide)) rfl
  refine pw_aload_n (pc2 := 19) dX2_goThroughAll_18 rfl rfl 2 rfl (by first | exact rf_ref _ | exact rf_opt _ | exact rf_nul) ?_
  refine pw_iload_n (pc2 := 20) dX2_goThroughAll_19 rfl rfl 3 rfl ?_
  refine pw_callS1 (pc2 := 23) (c_ways G _ H2 (n := n) hk) cs_X2_68 rfl dX2_goThroughAll_20 rfl (by omega) rfl (by first | decide | simp [cat_rf, Value.category]) ?_
  refine pw_istore (pc2 := 25) (L2 := [(5, Value.int (nI (wys σ.2.1 n))), (4, Value.int 0), (0, Value.ref (A 7 0)), (1, Value.ref (A 1 0)), (2, Value.int (nI n)), (3, Value.ref nd)]) dX2_goThroughAll_23 rfl (by decide) rfl ?_
  refine pw_iconst (pc2 := 26) (v := 0) dX2_goThroughAll_25 rfl (by decide) ?_
  refine pw_istore (pc2 := 28) (L2 := [(6, Value.int 0), (5, Value.int (nI (wys σ.2.1 n))), (4, Value.int 0), (0, Value.ref (A 7 0)), (1, Value.ref (A 1 0)), (2, Value.int (nI n)), (3, Value.ref nd)]) dX2_goThroughAll_26 rfl (by decide) rfl ?_
  have loop : ∀ (m : Nat) (W : Nat) (fl : Int32) (gf : Nat → Option Nat) (_hW : W + m = wys σ.2.1 n) (_hgf : pkB σ gf) (_hf : fOK (fnd σ.1 σ.2.1 le gr n W) fl gf), PW G MX2_goThroughAll d noA (E0 G (QAl G A σ le gr n h) noX) 0 0 28 [(6, Value.int (nI W)), (5, Value.int (nI (wys σ.2.1 n))), (4, Value.int fl), (0, Value.ref (A 7 0)), (1, Value.ref (A 1 0)), (2, Value.int (nI n)), (3, Value.ref nd)] [] (hAl h A (cmb σ.2.1 n W zN) (tkF σ.2.1 n W) gf) := by
    intro m
    induction m with
    | zero =>
      intro W fl gf hW hgf hf
      have H9 : W9 G (hAl h A (cmb σ.2.1 n W zN) (tkF σ.2.1 n W) gf) A (sAl σ (cmb σ.2.1 n W zN) (tkF σ.2.1 n W) gf) := H.al (cmb_B H.iv hk) hgf
      have hn9 : isN (hAl h A (cmb σ.2.1 n W zN) (tkF σ.2.1 n W) gf) nd a b le gr := hnk _ _ _
      have c11 : (hAl h A (cmb σ.2.1 n W zN) (tkF σ.2.1 n W) gf) (A 11 0) = some (aR tRel 6 (pa A (cmb σ.2.1 n W zN))) := H9.c11
      have c9 : (hAl h A (cmb σ.2.1 n W zN) (tkF σ.2.1 n W) gf) (A 9 0) = some (aR tRel 6 (pa A gf)) := H9.c9
      have hWn : W = wys σ.2.1 n := by omega
      subst hWn
      refine pw_iload (pc2 := 30) dX2_goThroughAll_28 rfl 0 rfl ?_
      refine pw_iload (pc2 := 32) dX2_goThroughAll_30 rfl 1 rfl ?_
      refine pw_icmp_ge (tgt := 72) (pc2 := 35) dX2_goThroughAll_32 (by decide) rfl (fun _ => ?_) (fun c32 => by exact absurd (Int32.le_refl _) c32)
      refine pw_iload (pc2 := 74) dX2_goThroughAll_72 rfl 2 rfl ?_
      rw [fnd_srch (by omega) hg0] at hf
      cases hs : srch σ.1 σ.2.1 le gr n zN with
      | none =>
        obtain rfl := hf.2 hs
        refine pw_if_eq (tgt := 84) (pc2 := 77) dX2_goThroughAll_74 (by decide) rfl (fun _ => ?_) (fun c74 => by exact absurd (by decide) c74)
        refine pw_null (pc2 := 85) dX2_goThroughAll_84 rfl ?_
        refine pw_aret dX2_goThroughAll_85 rfl (by first | exact Or.inl ⟨_, rfl⟩ | exact Or.inr ⟨_, rfl⟩) (by first | exact rf_ref _ | exact rf_opt _ | exact rf_nul) ?_
        exact ⟨_, _, _, cmb_B H.iv hk, hgf, rfl, fun g2 e2 => (by cases hs.symm.trans e2), fun _ => rfl⟩
      | some g' =>
        obtain ⟨rfl, rfl⟩ := hf.1 g' hs
        refine pw_if_eq (tgt := 84) (pc2 := 77) dX2_goThroughAll_74 (by decide) rfl (fun c74 => by exact absurd c74 (by decide)) (fun _ => ?_)
        refine pw_aload_n (pc2 := 78) dX2_goThroughAll_77 rfl rfl 3 rfl (by first | exact rf_ref _ | exact rf_opt _ | exact rf_nul) ?_
        refine pw_get (pc2 := 81) kX2 (k := 0) (by decide) rfl fl_X2_12 H9.c7 rfl dX2_goThroughAll_78 rfl ?_
        refine pw_goto (tgt := 85) dX2_goThroughAll_81 (by decide) ?_
        refine pw_aret dX2_goThroughAll_85 rfl (by first | exact Or.inl ⟨_, rfl⟩ | exact Or.inr ⟨_, rfl⟩) (by first | exact rf_ref _ | exact rf_opt _ | exact rf_nul) ?_
        exact ⟨_, _, _, cmb_B H.iv hk, hgf, rfl, fun g2 e2 => (by cases hs.symm.trans e2; exact ⟨rfl, rfl⟩), fun e2 => (by cases hs.symm.trans e2)⟩
    | succ m ih =>
      intro W fl gf hW hgf hf
      have hWl : W < wys σ.2.1 n := by omega
      have H9 : W9 G (hAl h A (cmb σ.2.1 n W zN) (tkF σ.2.1 n W) gf) A (sAl σ (cmb σ.2.1 n W zN) (tkF σ.2.1 n W) gf) := H.al (cmb_B H.iv hk) hgf
      have hn9 : isN (hAl h A (cmb σ.2.1 n W zN) (tkF σ.2.1 n W) gf) nd a b le gr := hnk _ _ _
      have c11 : (hAl h A (cmb σ.2.1 n W zN) (tkF σ.2.1 n W) gf) (A 11 0) = some (aR tRel 6 (pa A (cmb σ.2.1 n W zN))) := H9.c11
      have c9 : (hAl h A (cmb σ.2.1 n W zN) (tkF σ.2.1 n W) gf) (A 9 0) = some (aR tRel 6 (pa A gf)) := H9.c9
      refine pw_iload (pc2 := 30) dX2_goThroughAll_28 rfl 0 rfl ?_
      refine pw_iload (pc2 := 32) dX2_goThroughAll_30 rfl 1 rfl ?_
      refine pw_icmp_ge (tgt := 72) (pc2 := 35) dX2_goThroughAll_32 (by decide) rfl (fun c32 => by exact absurd c32 (fun q => absurd ((nI_leI (by omega) (by omega)).mp q) (by omega))) (fun _ => ?_)
      refine pw_aload_n (pc2 := 36) dX2_goThroughAll_35 rfl rfl 6 rfl (by first | exact rf_ref _ | exact rf_opt _ | exact rf_nul) ?_
      refine pw_aload_n (pc2 := 37) dX2_goThroughAll_36 rfl rfl 3 rfl (by first | exact rf_ref _ | exact rf_opt _ | exact rf_nul) ?_
      refine pw_get (pc2 := 40) kX2 (k := 1) (by decide) rfl fl_X2_18 H9.c7 rfl dX2_goThroughAll_37 rfl ?_
      refine pw_callSb (pc2 := 43) (c_ischoice G _ H9 hn9) cs_X2_72 rfl dX2_goThroughAll_40 rfl (by omega) rfl (by first | decide | simp [cat_rf, Value.category]) (fun q40 => ?_) (fun q40 => ?_)
      · have hF1 : fnd σ.1 σ.2.1 le gr n (W + 1) = some (cmb σ.2.1 n W zN) := fS_t (dit_t q40)
        refine pw_if_eq (tgt := 60) (pc2 := 46) dX2_goThroughAll_43 (by decide) rfl (fun c43 => by exact absurd c43 (by decide)) (fun _ => ?_)
        refine pw_aload_n (pc2 := 47) dX2_goThroughAll_46 rfl rfl 3 rfl (by first | exact rf_ref _ | exact rf_opt _ | exact rf_nul) ?_
        refine pw_get (pc2 := 50) kX2 (k := 0) (by decide) rfl fl_X2_12 H9.c7 rfl dX2_goThroughAll_47 rfl ?_
        refine pw_aload_n (pc2 := 51) dX2_goThroughAll_50 rfl rfl 3 rfl (by first | exact rf_ref _ | exact rf_opt _ | exact rf_nul) ?_
        refine pw_get (pc2 := 54) kX2 (k := 1) (by decide) rfl fl_X2_18 H9.c7 rfl dX2_goThroughAll_51 rfl ?_
        refine pw_callV0 (pc2 := 57) (c_ccopy G _ ⟨H9.c8, c9⟩ ⟨H9.c10, c11⟩ (al_9 H).1 (H9.pk (g := (cmb σ.2.1 n W zN)) (cmb_B H.iv hk))) cs_X2_76 rfl rfl H9.c8 dX2_goThroughAll_54 rfl (by omega) rfl (by first | decide | simp [cat_rf, Value.category]) ?_
        refine PW.heap (h' := (hAl h A (cmb σ.2.1 n W zN) (tkF σ.2.1 n W) (cmb σ.2.1 n W zN))) (al_f H) ?_
        have H8 : W9 G (hAl h A (cmb σ.2.1 n W zN) (tkF σ.2.1 n W) (cmb σ.2.1 n W zN)) A (sAl σ (cmb σ.2.1 n W zN) (tkF σ.2.1 n W) (cmb σ.2.1 n W zN)) := H.al (cmb_B H.iv hk) (cmb_B H.iv hk)
        refine pw_iconst (pc2 := 58) (v := 1) dX2_goThroughAll_57 rfl (by decide) ?_
        refine pw_istore (pc2 := 60) (L2 := [(4, Value.int 1), (6, Value.int (nI W)), (5, Value.int (nI (wys σ.2.1 n))), (0, Value.ref (A 7 0)), (1, Value.ref (A 1 0)), (2, Value.int (nI n)), (3, Value.ref nd)]) dX2_goThroughAll_58 rfl (by decide) rfl ?_
        refine pw_aload_n (pc2 := 61) dX2_goThroughAll_60 rfl rfl 3 rfl (by first | exact rf_ref _ | exact rf_opt _ | exact rf_nul) ?_
        refine pw_aload_n (pc2 := 62) dX2_goThroughAll_61 rfl rfl 4 rfl (by first | exact rf_ref _ | exact rf_opt _ | exact rf_nul) ?_
        refine pw_iload_n (pc2 := 63) dX2_goThroughAll_62 rfl rfl 5 rfl ?_
        refine pw_callV0 (pc2 := 66) (c_next G (hAl h A (cmb σ.2.1 n W zN) (tkF σ.2.1 n W) (cmb σ.2.1 n W zN)) (σ := (sAl σ (cmb σ.2.1 n W zN) (tkF σ.2.1 n W) (cmb σ.2.1 n W zN))) H8 (n := n) hk (W := W) rfl rfl) cs_X2_80 rfl rfl H8.c7 dX2_goThroughAll_63 rfl (by omega) rfl (by first | decide | simp [cat_rf, Value.category]) ?_
        refine PW.heap (h' := (hAl h A (cmb σ.2.1 n (W + 1) zN) (tkF σ.2.1 n (W + 1)) (cmb σ.2.1 n W zN))) (al_n H) ?_
        refine pw_iinc (pc2 := 69) (v := nI (W + 1)) (L2 := [(6, Value.int (nI (W + 1))), (4, Value.int 1), (5, Value.int (nI (wys σ.2.1 n))), (0, Value.ref (A 7 0)), (1, Value.ref (A 1 0)), (2, Value.int (nI n)), (3, Value.ref nd)]) dX2_goThroughAll_66 rfl 1 rfl (by show nI _ + 1 = nI _; exact nI_1 _) (by decide) rfl ?_
        refine pw_goto (tgt := 28) dX2_goThroughAll_69 (by decide) ?_
        refine PW.sub (L2 := [(6, Value.int (nI (W + 1))), (5, Value.int (nI (wys σ.2.1 n))), (4, Value.int 1), (0, Value.ref (A 7 0)), (1, Value.ref (A 1 0)), (2, Value.int (nI n)), (3, Value.ref nd)]) [0, 2, 1, 3, 4, 5, 6] rfl ?_
        exact ih (W + 1) 1 (cmb σ.2.1 n W zN) (by omega) (cmb_B H.iv hk) (by rw [hF1]; exact ⟨fun g' e => (by cases e; exact ⟨rfl, rfl⟩), fun e => (by cases e)⟩)
      · have hF1 : fnd σ.1 σ.2.1 le gr n (W + 1) = (fnd σ.1 σ.2.1 le gr n W) := fS_f (dit_f q40)
        refine pw_if_eq (tgt := 60) (pc2 := 46) dX2_goThroughAll_43 (by decide) rfl (fun _ => ?_) (fun c43 => by exact absurd (by decide) c43)
        refine pw_aload_n (pc2 := 61) dX2_goThroughAll_60 rfl rfl 3 rfl (by first | exact rf_ref _ | exact rf_opt _ | exact rf_nul) ?_
        refine pw_aload_n (pc2 := 62) dX2_goThroughAll_61 rfl rfl 4 rfl (by first | exact rf_ref _ | exact rf_opt _ | exact rf_nul) ?_
        refine pw_iload_n (pc2 := 63) dX2_goThroughAll_62 rfl rfl 5 rfl ?_
        refine pw_callV0 (pc2 := 66) (c_next G (hAl h A (cmb σ.2.1 n W zN) (tkF σ.2.1 n W) gf) (σ := (sAl σ (cmb σ.2.1 n W zN) (tkF σ.2.1 n W) gf)) H9 (n := n) hk (W := W) rfl rfl) cs_X2_80 rfl rfl H9.c7 dX2_goThroughAll_63 rfl (by omega) rfl (by first | decide | simp [cat_rf, Value.category]) ?_
        refine PW.heap (h' := (hAl h A (cmb σ.2.1 n (W + 1) zN) (tkF σ.2.1 n (W + 1)) gf)) (al_n H) ?_
        refine pw_iinc (pc2 := 69) (v := nI (W + 1)) (L2 := [(6, Value.int (nI (W + 1))), (5, Value.int (nI (wys σ.2.1 n))), (4, Value.int fl), (0, Value.ref (A 7 0)), (1, Value.ref (A 1 0)), (2, Value.int (nI n)), (3, Value.ref nd)]) dX2_goThroughAll_66 rfl 0 rfl (by show nI _ + 1 = nI _; exact nI_1 _) (by decide) rfl ?_
        refine pw_goto (tgt := 28) dX2_goThroughAll_69 (by decide) ?_
        refine PW.sub (L2 := [(6, Value.int (nI (W + 1))), (5, Value.int (nI (wys σ.2.1 n))), (4, Value.int fl), (0, Value.ref (A 7 0)), (1, Value.ref (A 1 0)), (2, Value.int (nI n)), (3, Value.ref nd)]) [0, 1, 2, 3, 4, 5, 6] rfl ?_
        exact ih (W + 1) fl gf (by omega) hgf (by rw [hF1]; exact hf)
  refine PW.sub (L2 := [(6, Value.int 0), (5, Value.int (nI (wys σ.2.1 n))), (4, Value.int 0), (0, Value.ref (A 7 0)), (1, Value.ref (A 1 0)), (2, Value.int (nI n)), (3, Value.ref nd)]) [0, 1, 2, 3, 4, 5, 6] rfl ?_
  refine PW.heap (h' := hAl h A (cmb σ.2.1 n 0 zN) (tkF σ.2.1 n 0) (σ.2.2 9 0)) ?_ (loop (wys σ.2.1 n) 0 0 (σ.2.2 9 0) (by omega) H.iv.2.2.2.2.1 ⟨fun g' e => (by cases e), fun _ => rfl⟩)
  rw [eh2, ← al_n (gw := σ.2.2 11 0) (tk := σ.1 12 0) (gf := σ.2.2 9 0) H, al_0 H]
