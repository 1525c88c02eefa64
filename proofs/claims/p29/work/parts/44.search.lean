/-! PackageForge$Chooser: the search from the greatest package down -/
noncomputable def dit {α : Type} (P : Prop) (a b : α) : α := @ite α P (Classical.propDecidable P) a b
theorem dit_t {α : Type} {P : Prop} {a b : α} (h : P) : dit P a b = a := if_pos h
theorem dit_f {α : Type} {P : Prop} {a b : α} (h : ¬ P) : dit P a b = b := if_neg h
/-- the first of the last n that is something, from the greatest down -/
def fS {α : Type} (F : Nat → Option α) : Nat → Option α
  | 0 => none
  | n + 1 => match F n with
    | some x => some x
    | none => fS F n
theorem fS_t {α : Type} {F : Nat → Option α} {n : Nat} {x : α} (h : F n = some x) : fS F (n + 1) = some x := by
  simp only [fS, h]
theorem fS_f {α : Type} {F : Nat → Option α} {n : Nat} (h : F n = none) : fS F (n + 1) = fS F n := by
  simp only [fS, h]
/-- the search: picks for the packages below k, given those from k on -/
noncomputable def srch (I : Nat → Nat → Nat → Int32) (N : Nat → Nat → Nat → Nat) (le gr : Nat → Int32) : Nat → (Nat → Option Nat) → Option (Nat → Option Nat)
  | 0, g => some g
  | k + 1, g => dit (rchd I gr g k) (fS (fun i => dit (admd I le gr g k (N 202 k i)) (srch I N le gr k (va_up g k (some (N 202 k i)))) none) (N 201 k 0)) (srch I N le gr k g)
abbrev QPk (G : hG) (A : aT) (I : Nat → Nat → Nat → Int32) (N : Nat → Nat → Nat → Nat) (le gr : Nat → Int32) (k : Nat) (g : Nat → Option Nat) (h : hp) : Option Value → hp → Prop := fun r h2 => (∀ g', srch I N le gr k g = some g' → r = some (.int 1) ∧ h2 = va_up h (A 9 0) (some (aR tRel 6 (pa A g'))) ∧ ∀ j x, g' j = some x → x < N 200 0 2) ∧ (srch I N le gr k g = none → r = some (.int 0) ∧ h2 = h)
theorem isN.keep {h : hp} {nd a b x n : Nat} {le gr : Nat → Int32} {f : Nat → Option Nat} {c : Option hE} (hn : isN h nd a b le gr) (hx : h x = some (aR tRel n f)) : isN (va_up h x c) nd a b le gr :=
  ⟨(va_up_ne _ _ (ne_oa hn.1 hx)).trans hn.1, (va_up_ne _ _ (ne_aa hn.2.1 hx (by decide))).trans hn.2.1, (va_up_ne _ _ (ne_aa hn.2.2.1 hx (by decide))).trans hn.2.2.1, hn.2.2.2⟩
theorem pa_up {A : aT} (g : Nat → Option Nat) (k : Nat) (o : Option Nat) : va_up (pa A g) k (o.map (A 40)) = pa A (va_up g k o) := by
  funext j
  unfold pa
  by_cases e : j = k
  · subst e; rw [va_up_self, va_up_self]
  · rw [va_up_ne _ _ e, va_up_ne _ _ e]
theorem pkB_up {σ : sT} {g : Nat → Option Nat} (hg : pkB σ g) {k r : Nat} (hr : r < nrl σ) : pkB σ (va_up g k (some r)) := by
  intro j x hx
  by_cases e : j = k
  · subst e
    rw [va_up_self] at hx
    cases hx
    exact hr
  · rw [va_up_ne _ _ e] at hx
    exact hg j x hx
theorem admd_cg {I : Nat → Nat → Nat → Int32} {le gr : Nat → Int32} {g g' : Nat → Option Nat} {k r : Nat} (e : ∀ j, j ≠ k → g' j = g j) : admd I le gr g' k r ↔ admd I le gr g k r := by
  unfold admd
  constructor
  · rintro ⟨h1, h2, h3⟩
    exact ⟨h1, h2, fun a x q1 q2 q3 => h3 a x q1 q2 ((e a (by omega)).trans q3)⟩
  · rintro ⟨h1, h2, h3⟩
    exact ⟨h1, h2, fun a x q1 q2 q3 => h3 a x q1 q2 ((e a (by omega)).symm.trans q3)⟩
theorem up_cg {g g' : Nat → Option Nat} {k : Nat} (e : ∀ j, j ≠ k → g' j = g j) (o : Option Nat) : va_up g' k o = va_up g k o := by
  funext j
  by_cases q : j = k
  · subst q; rw [va_up_self, va_up_self]
  · rw [va_up_ne _ _ q, va_up_ne _ _ q, e j q]
set_option maxHeartbeats 4000000 in
set_option maxRecDepth 100000 in
theorem c_pick (G : hG) {A : aT} {nd a b : Nat} {le gr : Nat → Int32} : ∀ (kp : Nat) (h : hp) (σ : sT), W9 G h A σ → isN h nd a b le gr → kp ≤ npk σ → (∀ j, j < kp → σ.2.2 9 0 j = none) →
    PMet G MX2_pickDown (kp + 5) 0 0 [.ref (A 1 0), .ref nd, .ref (A 8 0), .int (oth kp)] h (QPk G A σ.1 σ.2.1 le gr kp (σ.2.2 9 0) h) noX
  | 0, h, σ, H, hn, hkn, hnul => by
    refine PMet.of rfl (Nat.le_of_ble_eq_true rfl) (fun d hd => ?_)
    refine PW.sub (L2 := [(0, Value.ref (A 1 0)), (1, Value.ref nd), (2, Value.ref (A 8 0)), (3, Value.int (oth 0))]) [0, 1, 2, 3] rfl ?_
    refine pw_iload_n (pc2 := 1) dX2_pickDown_0 rfl rfl 3 rfl ?_
    refine pw_if_ge (tgt := 6) (pc2 := 4) dX2_pickDown_1 (by decide) rfl (fun c1 => by exact absurd c1 (by decide)) (fun _ => ?_)
    refine pw_iconst (pc2 := 5) (v := 1) dX2_pickDown_4 rfl (by decide) ?_
    refine pw_iret dX2_pickDown_5 rfl (by first | rfl | assumption | simp [narrow]) ?_
    exact ⟨fun g' e => by cases e; exact ⟨rfl, (up_id H.c9).symm, H.iv.2.2.2.2.1⟩, fun e => by cases e⟩
  | kp + 1, h, σ, H, hn, hkn, hnul => by
    rw [oth_s]
    have hk : kp < npk σ := hkn
    have hnp := H.iv.1
    have hk6 : kp < 6 := by have := H.iv.1; omega
    have h20 := H.rn20 hk
    have hgb : pkB σ (σ.2.2 9 0) := H.iv.2.2.2.2.1
    refine PMet.of rfl (Nat.le_of_ble_eq_true rfl) (fun d hd => ?_)
    refine PW.sub (L2 := [(0, Value.ref (A 1 0)), (1, Value.ref nd), (2, Value.ref (A 8 0)), (3, Value.int (nI kp))]) [0, 1, 2, 3] rfl ?_
    refine pw_iload_n (pc2 := 1) dX2_pickDown_0 rfl rfl 3 rfl ?_
    refine pw_if_ge (tgt := 6) (pc2 := 4) dX2_pickDown_1 (by decide) rfl (fun _ => ?_) (fun c1 => by exact absurd (nI_pos' (by omega)) c1)
    refine pw_iload_n (pc2 := 7) dX2_pickDown_6 rfl rfl 3 rfl ?_
    refine pw_aload_n (pc2 := 8) dX2_pickDown_7 rfl rfl 0 rfl (by first | exact rf_ref _ | exact rf_opt _ | exact rf_nul) ?_
    refine pw_callV1 (pc2 := 11) (c_lsize G _ H.lp) cs_X2_32 rfl rfl H.c1 dX2_pickDown_8 rfl (by omega) rfl (by first | decide | simp [cat_rf, Value.category]) ?_
    refine pw_icmp_lt (tgt := 16) (pc2 := 14) dX2_pickDown_11 (by decide) rfl (fun _ => ?_) (fun c11 => by exact absurd ((nI_ltI (by omega) (by omega)).mpr hk) c11)
    refine pw_aload_n (pc2 := 17) dX2_pickDown_16 rfl rfl 1 rfl (by first | exact rf_ref _ | exact rf_opt _ | exact rf_nul) ?_
    refine pw_aload_n (pc2 := 18) dX2_pickDown_17 rfl rfl 2 rfl (by first | exact rf_ref _ | exact rf_opt _ | exact rf_nul) ?_
    refine pw_iload_n (pc2 := 19) dX2_pickDown_18 rfl rfl 3 rfl ?_
    refine pw_callSb (pc2 := 22) (c_reach G _ H hn ⟨H.c8, H.c9⟩ hgb hk6) cs_X2_38 rfl dX2_pickDown_19 rfl (by omega) rfl (by first | decide | simp [cat_rf, Value.category]) (fun q19 => ?_) (fun q19 => ?_)
    · refine pw_if_ne (tgt := 35) (pc2 := 25) dX2_pickDown_22 (by decide) rfl (fun _ => ?_) (fun c22 => by exact absurd c22 (by decide))
      refine pw_aload_n (pc2 := 36) dX2_pickDown_35 rfl rfl 0 rfl (by first | exact rf_ref _ | exact rf_opt _ | exact rf_nul) ?_
      refine pw_iload_n (pc2 := 37) dX2_pickDown_36 rfl rfl 3 rfl ?_
      refine pw_callV1 (pc2 := 40) (c_lget G _ H.lp (i := kp) hk) cs_X2_42 rfl rfl H.c1 dX2_pickDown_37 rfl (by omega) rfl (by first | decide | simp [cat_rf, Value.category]) ?_
      refine pw_castS (pc2 := 43) (cj := 7) rfl cl_X2_46 (H.c20 hk) dX2_pickDown_40 rfl ?_
      refine pw_getN (pc2 := 46) kX4 (k := 4) (by decide) rfl fl_X2_48 (H.c20 hk) rfl dX2_pickDown_43 rfl ?_
      refine pw_astore (pc2 := 48) (L2 := [(4, Value.ref (A 34 kp)), (0, Value.ref (A 1 0)), (1, Value.ref nd), (2, Value.ref (A 8 0)), (3, Value.int (nI kp))]) dX2_pickDown_46 rfl (by decide) (by first | exact rf_ref _ | exact rf_opt _ | exact rf_nul) rfl ?_
      refine pw_aload (pc2 := 50) dX2_pickDown_48 rfl 0 rfl (by first | exact rf_ref _ | exact rf_opt _ | exact rf_nul) ?_
      refine pw_callV1 (pc2 := 53) (c_lsize G _ (H.lk hk)) cs_X2_32 rfl rfl (H.c34 hk) dX2_pickDown_50 rfl (by omega) rfl (by first | decide | simp [cat_rf, Value.category]) ?_
      refine pw_iconst (pc2 := 54) (v := 1) dX2_pickDown_53 rfl (by decide) ?_
      refine pw_isub (pc2 := 55) dX2_pickDown_54 rfl ?_
      refine pw_istore (pc2 := 57) (L2 := [(5, Value.int (oth (rnp σ kp))), (4, Value.ref (A 34 kp)), (0, Value.ref (A 1 0)), (1, Value.ref nd), (2, Value.ref (A 8 0)), (3, Value.int (nI kp))]) dX2_pickDown_55 rfl (by decide) rfl ?_
      have hF0 : srch σ.1 σ.2.1 le gr (kp + 1) (σ.2.2 9 0) = fS (fun i => dit (admd σ.1 le gr (σ.2.2 9 0) kp (σ.2.1 202 kp i)) (srch σ.1 σ.2.1 le gr kp (va_up (σ.2.2 9 0) kp (some (σ.2.1 202 kp i)))) none) (rnp σ kp) := dit_t q19
      have loop : ∀ (m : Nat) (g9 : Nat → Option Nat), m ≤ rnp σ kp → (∀ j, j ≠ kp → g9 j = σ.2.2 9 0 j) → pkB σ g9 → srch σ.1 σ.2.1 le gr (kp + 1) (σ.2.2 9 0) = fS (fun i => dit (admd σ.1 le gr (σ.2.2 9 0) kp (σ.2.1 202 kp i)) (srch σ.1 σ.2.1 le gr kp (va_up (σ.2.2 9 0) kp (some (σ.2.1 202 kp i)))) none) m → PW G MX2_pickDown d noA (E0 G (QPk G A σ.1 σ.2.1 le gr (kp + 1) (σ.2.2 9 0) h) noX) 0 0 57 [(5, Value.int (oth m)), (4, Value.ref (A 34 kp)), (0, Value.ref (A 1 0)), (1, Value.ref nd), (2, Value.ref (A 8 0)), (3, Value.int (nI kp))] [] (va_up h (A 9 0) (some (aR tRel 6 (pa A g9)))) := by
        intro m
        induction m with
        | zero =>
          intro g9 hmn hgk hgB hF
          obtain ⟨h9, eh9⟩ : ∃ z : hp, z = va_up h (A 9 0) (some (aR tRel 6 (pa A g9))) := ⟨_, rfl⟩
          rw [← eh9]
          have H9 : W9 G h9 A (setO σ 9 0 g9) := by rw [eh9]; exact H.wO (t := 9) (i := 0) rfl (by decide) hgB rfl
          have hn9 : isN h9 nd a b le gr := by rw [eh9]; exact hn.keep H.c9
          have hk9 : kp < npk (setO σ 9 0 g9) := hk
          have L9 : isL G h9 (A 34 kp) (rnp σ kp) (fun j => A 40 (ixp σ kp j)) := H9.lk hk9
          refine pw_iload (pc2 := 59) dX2_pickDown_57 rfl 0 rfl ?_
          refine pw_if_lt (tgt := 112) (pc2 := 62) dX2_pickDown_59 (by decide) rfl (fun _ => ?_) (fun c59 => by exact absurd (by decide) c59)
          refine pw_aload_n (pc2 := 113) dX2_pickDown_112 rfl rfl 4 rfl (by first | exact rf_ref _ | exact rf_opt _ | exact rf_nul) ?_
          refine pw_iload_n (pc2 := 114) dX2_pickDown_113 rfl rfl 5 rfl ?_
          refine pw_null (pc2 := 115) dX2_pickDown_114 rfl ?_
          refine pw_callV0 (pc2 := 118) (c_cput G h9 ⟨H9.c8, H9.c9⟩ hk6 (r := none) (fun b9 e9 => by cases e9)) cs_X2_58 rfl rfl H9.c8 dX2_pickDown_115 rfl (by omega) rfl (by first | decide | simp [cat_rf, Value.category]) ?_
          refine pw_iconst (pc2 := 119) (v := 0) dX2_pickDown_118 rfl (by decide) ?_
          refine pw_iret dX2_pickDown_119 rfl (by first | rfl | assumption | simp [narrow]) ?_
          refine ⟨fun g' e => (by rw [hF] at e; cases e), fun _ => ⟨rfl, ?_⟩⟩
          rw [eh9, up_up]
          have e0 : va_up (pa A g9) kp none = pa A (σ.2.2 9 0) := by
            rw [show (none : Option Nat) = (none : Option Nat).map (A 40) from rfl, pa_up, up_cg hgk]
            congr 1
            funext j
            by_cases e : j = kp
            · subst e; rw [va_up_self]; exact (hnul j (Nat.lt_succ_self j)).symm
            · exact va_up_ne _ _ e
          show va_up h (A 9 0) (some (aR tRel 6 (va_up (pa A g9) kp none))) = h
          rw [e0]
          exact up_id H.c9
        | succ m ih =>
          intro g9 hmn hgk hgB hF
          obtain ⟨h9, eh9⟩ : ∃ z : hp, z = va_up h (A 9 0) (some (aR tRel 6 (pa A g9))) := ⟨_, rfl⟩
          rw [← eh9]
          have H9 : W9 G h9 A (setO σ 9 0 g9) := by rw [eh9]; exact H.wO (t := 9) (i := 0) rfl (by decide) hgB rfl
          have hn9 : isN h9 nd a b le gr := by rw [eh9]; exact hn.keep H.c9
          have hk9 : kp < npk (setO σ 9 0 g9) := hk
          have L9 : isL G h9 (A 34 kp) (rnp σ kp) (fun j => A 40 (ixp σ kp j)) := H9.lk hk9
          rw [oth_s]
          have hr0 : ixp σ kp m < nrl σ := H.ixl hk (j := m) (by omega)
          have hr9 : ixp σ kp m < nrl (setO σ 9 0 g9) := hr0
          refine pw_iload (pc2 := 59) dX2_pickDown_57 rfl 0 rfl ?_
          refine pw_if_lt (tgt := 112) (pc2 := 62) dX2_pickDown_59 (by decide) rfl (fun c59 => by exact absurd c59 (nI_pos (by omega))) (fun _ => ?_)
          refine pw_aload (pc2 := 64) dX2_pickDown_62 rfl 1 rfl (by first | exact rf_ref _ | exact rf_opt _ | exact rf_nul) ?_
          refine pw_iload (pc2 := 66) dX2_pickDown_64 rfl 0 rfl ?_
          refine pw_callV1 (pc2 := 69) (c_lget G _ L9 (i := m) (by omega)) cs_X2_42 rfl rfl (H9.c34 hk9) dX2_pickDown_66 rfl (by omega) rfl (by first | decide | simp [cat_rf, Value.category]) ?_
          refine pw_castS (pc2 := 72) (cj := 8) rfl cl_X2_52 (H9.c40 hr9) dX2_pickDown_69 rfl ?_
          refine pw_astore (pc2 := 74) (L2 := [(6, Value.ref (A 40 (ixp σ kp m))), (5, Value.int (nI m)), (4, Value.ref (A 34 kp)), (0, Value.ref (A 1 0)), (1, Value.ref nd), (2, Value.ref (A 8 0)), (3, Value.int (nI kp))]) dX2_pickDown_72 rfl (by decide) (by first | exact rf_ref _ | exact rf_opt _ | exact rf_nul) rfl ?_
          refine pw_aload_n (pc2 := 75) dX2_pickDown_74 rfl rfl 4 rfl (by first | exact rf_ref _ | exact rf_opt _ | exact rf_nul) ?_
          refine pw_aload_n (pc2 := 76) dX2_pickDown_75 rfl rfl 5 rfl (by first | exact rf_ref _ | exact rf_opt _ | exact rf_nul) ?_
          refine pw_iload_n (pc2 := 77) dX2_pickDown_76 rfl rfl 6 rfl ?_
          refine pw_aload (pc2 := 79) dX2_pickDown_77 rfl 0 rfl (by first | exact rf_ref _ | exact rf_opt _ | exact rf_nul) ?_
          refine pw_callSb (pc2 := 82) (c_adm G _ H9 hn9 ⟨H9.c8, H9.c9⟩ (g := g9) hgB hk6 (r := ixp σ kp m) hr9) cs_X2_54 rfl dX2_pickDown_79 rfl (by omega) rfl (by first | decide | simp [cat_rf, Value.category]) (fun q79 => ?_) (fun q79 => ?_)
          · refine pw_if_eq (tgt := 106) (pc2 := 85) dX2_pickDown_82 (by decide) rfl (fun c82 => by exact absurd c82 (by decide)) (fun _ => ?_)
            refine pw_aload_n (pc2 := 86) dX2_pickDown_85 rfl rfl 5 rfl (by first | exact rf_ref _ | exact rf_opt _ | exact rf_nul) ?_
            refine pw_iload_n (pc2 := 87) dX2_pickDown_86 rfl rfl 6 rfl ?_
            refine pw_aload (pc2 := 89) dX2_pickDown_87 rfl 0 rfl (by first | exact rf_ref _ | exact rf_opt _ | exact rf_nul) ?_
            refine pw_callV0 (pc2 := 92) (c_cput G h9 ⟨H9.c8, H9.c9⟩ hk6 (r := some (A 40 (ixp σ kp m))) (fun b9 e9 => by cases e9; exact ⟨_, H9.c40 hr9⟩)) cs_X2_58 rfl rfl H9.c8 dX2_pickDown_89 rfl (by omega) rfl (by first | decide | simp [cat_rf, Value.category]) ?_
            have hq9 : (va_up (pa A g9) kp (some (A 40 (ixp σ kp m)))) = pa A (va_up g9 kp (some (ixp σ kp m))) := pa_up g9 kp (some _)
            have hh10 : va_up h9 (A 9 0) (some (aR tRel 6 (va_up (pa A g9) kp (some (A 40 (ixp σ kp m)))))) = va_up h (A 9 0) (some (aR tRel 6 (pa A (va_up (σ.2.2 9 0) kp (some (ixp σ kp m)))))) := by rw [hq9, eh9, up_up, up_cg hgk]
            obtain ⟨h10, eh10⟩ : ∃ z : hp, z = va_up h (A 9 0) (some (aR tRel 6 (pa A (va_up (σ.2.2 9 0) kp (some (ixp σ kp m)))))) := ⟨_, rfl⟩
            refine PW.heap (h' := h10) (hh10.trans eh10.symm) ?_
            have hgB0 : pkB σ (va_up (σ.2.2 9 0) kp (some (ixp σ kp m))) := pkB_up hgb hr0
            have H10 : W9 G h10 A (setO σ 9 0 (va_up (σ.2.2 9 0) kp (some (ixp σ kp m)))) := by rw [eh10]; exact H.wO (t := 9) (i := 0) rfl (by decide) hgB0 rfl
            have hn10 : isN h10 nd a b le gr := by rw [eh10]; exact hn.keep H.c9
            have hnu : ∀ j, j < kp → va_up (σ.2.2 9 0) kp (some (ixp σ kp m)) j = none := fun j hj => by rw [va_up_ne _ _ (by omega)]; exact hnul j (by omega)
            refine pw_aload_n (pc2 := 93) dX2_pickDown_92 rfl rfl 3 rfl (by first | exact rf_ref _ | exact rf_opt _ | exact rf_nul) ?_
            refine pw_aload_n (pc2 := 94) dX2_pickDown_93 rfl rfl 4 rfl (by first | exact rf_ref _ | exact rf_opt _ | exact rf_nul) ?_
            refine pw_aload_n (pc2 := 95) dX2_pickDown_94 rfl rfl 5 rfl (by first | exact rf_ref _ | exact rf_opt _ | exact rf_nul) ?_
            refine pw_iload_n (pc2 := 96) dX2_pickDown_95 rfl rfl 6 rfl ?_
            refine pw_iconst (pc2 := 97) (v := 1) dX2_pickDown_96 rfl (by decide) ?_
            refine pw_isub (pc2 := 98) dX2_pickDown_97 rfl ?_
            refine pw_callS (pc2 := 101) (c_pick G kp h10 (setO σ 9 0 (va_up (σ.2.2 9 0) kp (some (ixp σ kp m)))) H10 hn10 (Nat.le_of_lt hk) (fun j hj => by rw [setO_s]; exact hnu j hj)) cs_X2_28 rfl dX2_pickDown_98 rfl (by omega) rfl (by first | decide | simp [cat_rf, Value.category]) (fun r9 h9 q9 => ?_) (fun Y h9 q9 => q9.elim)
            replace q9 : QPk G A σ.1 σ.2.1 le gr kp (va_up (σ.2.2 9 0) kp (some (ixp σ kp m))) h10 r9 h9 := q9
            cases hs : srch σ.1 σ.2.1 le gr kp (va_up (σ.2.2 9 0) kp (some (ixp σ kp m))) with
            | none =>
              obtain ⟨rfl, rfl⟩ := q9.2 hs
              refine pw_if_eq (tgt := 106) (pc2 := 104) dX2_pickDown_101 (by decide) rfl (fun _ => ?_) (fun c101 => by exact absurd (by decide) c101)
              refine pw_iinc (pc2 := 109) (v := oth m) (L2 := [(5, Value.int (oth m)), (6, Value.ref (A 40 (ixp σ kp m))), (4, Value.ref (A 34 kp)), (0, Value.ref (A 1 0)), (1, Value.ref nd), (2, Value.ref (A 8 0)), (3, Value.int (nI kp))]) dX2_pickDown_106 rfl 1 rfl (oth_ii m) (by decide) rfl ?_
              refine pw_goto (tgt := 57) dX2_pickDown_109 (by decide) ?_
              refine PW.sub (L2 := [(5, Value.int (oth m)), (4, Value.ref (A 34 kp)), (0, Value.ref (A 1 0)), (1, Value.ref nd), (2, Value.ref (A 8 0)), (3, Value.int (nI kp))]) [0, 2, 3, 4, 5, 6] rfl ?_
              rw [eh10]
              exact ih _ (by omega) (fun j hj => va_up_ne _ _ hj) hgB0 (hF.trans (fS_f ((dit_t ((admd_cg hgk).mp q79)).trans hs)))
            | some g' =>
              obtain ⟨rfl, rfl, hgb'⟩ := q9.1 g' hs
              refine pw_if_eq (tgt := 106) (pc2 := 104) dX2_pickDown_101 (by decide) rfl (fun c101 => by exact absurd c101 (by decide)) (fun _ => ?_)
              refine pw_iconst (pc2 := 105) (v := 1) dX2_pickDown_104 rfl (by decide) ?_
              refine pw_iret dX2_pickDown_105 rfl (by first | rfl | assumption | simp [narrow]) ?_
              exact ⟨fun g2 e2 => by cases (hF.trans (fS_t ((dit_t ((admd_cg hgk).mp q79)).trans hs))).symm.trans e2; exact ⟨rfl, by rw [eh10, up_up], hgb'⟩, fun e2 => by cases (hF.trans (fS_t ((dit_t ((admd_cg hgk).mp q79)).trans hs))).symm.trans e2⟩
          · refine pw_if_eq (tgt := 106) (pc2 := 85) dX2_pickDown_82 (by decide) rfl (fun _ => ?_) (fun c82 => by exact absurd (by decide) c82)
            refine pw_iinc (pc2 := 109) (v := oth m) (L2 := [(5, Value.int (oth m)), (6, Value.ref (A 40 (ixp σ kp m))), (4, Value.ref (A 34 kp)), (0, Value.ref (A 1 0)), (1, Value.ref nd), (2, Value.ref (A 8 0)), (3, Value.int (nI kp))]) dX2_pickDown_106 rfl 1 rfl (oth_ii m) (by decide) rfl ?_
            refine pw_goto (tgt := 57) dX2_pickDown_109 (by decide) ?_
            refine PW.sub (L2 := [(5, Value.int (oth m)), (4, Value.ref (A 34 kp)), (0, Value.ref (A 1 0)), (1, Value.ref nd), (2, Value.ref (A 8 0)), (3, Value.int (nI kp))]) [0, 2, 3, 4, 5, 6] rfl ?_
            rw [eh9]
            refine ih g9 (by omega) hgk hgB (hF.trans (fS_f (dit_f (fun z => q79 ((admd_cg hgk).mpr z)))))
      refine PW.sub (L2 := [(5, Value.int (oth (rnp σ kp))), (4, Value.ref (A 34 kp)), (0, Value.ref (A 1 0)), (1, Value.ref nd), (2, Value.ref (A 8 0)), (3, Value.int (nI kp))]) [0, 1, 2, 3, 4, 5] rfl ?_
      refine PW.heap (h' := va_up h (A 9 0) (some (aR tRel 6 (pa A (σ.2.2 9 0))))) (up_id H.c9).symm ?_
      exact loop (rnp σ kp) (σ.2.2 9 0) (Nat.le_refl _) (fun _ _ => rfl) hgb hF0
    · refine pw_if_ne (tgt := 35) (pc2 := 25) dX2_pickDown_22 (by decide) rfl (fun c22 => by exact absurd (by decide) c22) (fun _ => ?_)
      refine pw_aload_n (pc2 := 26) dX2_pickDown_25 rfl rfl 0 rfl (by first | exact rf_ref _ | exact rf_opt _ | exact rf_nul) ?_
      refine pw_aload_n (pc2 := 27) dX2_pickDown_26 rfl rfl 1 rfl (by first | exact rf_ref _ | exact rf_opt _ | exact rf_nul) ?_
      refine pw_aload_n (pc2 := 28) dX2_pickDown_27 rfl rfl 2 rfl (by first | exact rf_ref _ | exact rf_opt _ | exact rf_nul) ?_
      refine pw_iload_n (pc2 := 29) dX2_pickDown_28 rfl rfl 3 rfl ?_
      refine pw_iconst (pc2 := 30) (v := 1) dX2_pickDown_29 rfl (by decide) ?_
      refine pw_isub (pc2 := 31) dX2_pickDown_30 rfl ?_
      refine pw_callS (pc2 := 34) (c_pick G kp h σ H hn (Nat.le_of_lt hk) (fun j hj => hnul j (by omega))) cs_X2_28 rfl dX2_pickDown_31 rfl (by omega) rfl (by first | decide | simp [cat_rf, Value.category]) (fun r9 h9 q9 => ?_) (fun Y h9 q9 => q9.elim)
      have hsr : srch σ.1 σ.2.1 le gr (kp + 1) (σ.2.2 9 0) = srch σ.1 σ.2.1 le gr kp (σ.2.2 9 0) := dit_f q19
      have q9' : QPk G A σ.1 σ.2.1 le gr (kp + 1) (σ.2.2 9 0) h r9 h9 := by unfold QPk; rw [hsr]; exact q9
      cases hs : srch σ.1 σ.2.1 le gr kp (σ.2.2 9 0) with
      | none =>
        obtain ⟨rfl, rfl⟩ := q9.2 hs
        refine pw_iret dX2_pickDown_34 rfl (by first | rfl | assumption | simp [narrow]) ?_
        exact q9'
      | some g' =>
        obtain ⟨rfl, rfl, -⟩ := q9.1 g' hs
        refine pw_iret dX2_pickDown_34 rfl (by first | rfl | assumption | simp [narrow]) ?_
        exact q9'
/-- what the search leaves -/
abbrev QSr (G : hG) (A : aT) (σ : sT) (le gr : Nat → Int32) (k : Nat) (h : hp) : Option Value → hp → Prop := fun r h2 => (∀ g', srch σ.1 σ.2.1 le gr k zN = some g' → r = some (.ref (A 8 0)) ∧ h2 = va_up h (A 9 0) (some (aR tRel 6 (pa A g'))) ∧ pkB σ g') ∧ (srch σ.1 σ.2.1 le gr k zN = none → r = some .null ∧ h2 = va_up h (A 9 0) (some (aR tRel 6 (pa A zN))))
set_option maxHeartbeats 4000000 in
set_option maxRecDepth 100000 in
theorem c_search (G : hG) (h : hp) {A : aT} {σ : sT} (H : W9 G h A σ) {nd a b : Nat} {le gr : Nat → Int32} (hn : isN h nd a b le gr) {kp : Nat} (hk : kp ≤ npk σ) : PMet G MX2_search 12 0 0 [.ref (A 7 0), .ref (A 1 0), .int (nI kp), .ref nd] h (QSr G A σ le gr kp h) noX := by
  have h6 := H.iv.1
  refine PMet.of (by decide +kernel) (Nat.le_of_ble_eq_true rfl) (fun d hd => ?_)
  refine PW.sub (L2 := [(0, Value.ref (A 7 0)), (1, Value.ref (A 1 0)), (2, Value.int (nI kp)), (3, Value.ref nd)]) [0, 1, 2, 3] rfl ?_
  refine pw_aload_n (pc2 := 1) dX2_search_0 rfl rfl 0 rfl (by first | exact rf_ref _ | exact rf_opt _ | exact rf_nul) ?_
  refine pw_get (pc2 := 4) kX2 (k := 0) (by decide) rfl fl_X2_12 H.c7 rfl dX2_search_1 rfl ?_
  refine pw_callV0 (pc2 := 7) (c_cclear G _ ⟨H.c8, H.c9⟩) cs_X2_25 rfl rfl H.c8 dX2_search_4 rfl (by omega) rfl (by first | decide | simp [cat_rf, Value.category]) ?_
  obtain ⟨h1, eh1⟩ : ∃ z : hp, z = va_up h (A 9 0) (some (aR tRel 6 (pa A zN))) := ⟨_, rfl⟩
  refine PW.heap (h' := h1) eh1.symm ?_
  have H1 : W9 G h1 A (setO σ 9 0 zN) := by rw [eh1]; exact H.wO (t := 9) (i := 0) rfl (by decide) (fun j x hx => by cases hx) rfl
  have hn1 : isN h1 nd a b le gr := by rw [eh1]; exact hn.keep H.c9
  refine pw_aload_n (pc2 := 8) dX2_search_7 rfl rfl 1 rfl (by first | exact rf_ref _ | exact rf_opt _ | exact rf_nul) ?_
  refine pw_aload_n (pc2 := 9) dX2_search_8 rfl rfl 3 rfl (by first | exact rf_ref _ | exact rf_opt _ | exact rf_nul) ?_
  refine pw_aload_n (pc2 := 10) dX2_search_9 rfl rfl 0 rfl (by first | exact rf_ref _ | exact rf_opt _ | exact rf_nul) ?_
  refine pw_get (pc2 := 13) kX2 (k := 0) (by decide) rfl fl_X2_12 H1.c7 rfl dX2_search_10 rfl ?_
  refine pw_iload_n (pc2 := 14) dX2_search_13 rfl rfl 2 rfl ?_
  refine pw_iconst (pc2 := 15) (v := 1) dX2_search_14 rfl (by decide) ?_
  refine pw_isub (pc2 := 16) dX2_search_15 rfl ?_
  refine pw_callS (pc2 := 19) (c_pick G kp h1 (setO σ 9 0 zN) H1 hn1 hk (fun j hj => by rw [setO_s]; rfl)) cs_X2_28 rfl dX2_search_16 rfl (by omega) rfl (by first | decide | simp [cat_rf, Value.category]) (fun r9 h9 q9 => ?_) (fun Y h9 q9 => q9.elim)
  replace q9 : QPk G A σ.1 σ.2.1 le gr kp zN h1 r9 h9 := q9
  cases hs : srch σ.1 σ.2.1 le gr kp zN with
  | none =>
    obtain ⟨rfl, rfl⟩ := q9.2 hs
    refine pw_if_eq (tgt := 29) (pc2 := 22) dX2_search_19 (by decide) rfl (fun _ => ?_) (fun c19 => by exact absurd (by decide) c19)
    refine pw_null (pc2 := 30) dX2_search_29 rfl ?_
    refine pw_aret dX2_search_30 rfl (by first | exact Or.inl ⟨_, rfl⟩ | exact Or.inr ⟨_, rfl⟩) (by first | exact rf_ref _ | exact rf_opt _ | exact rf_nul) ?_
    exact ⟨fun g2 e2 => (by cases hs.symm.trans e2), fun _ => ⟨rfl, eh1⟩⟩
  | some g' =>
    obtain ⟨rfl, rfl, hgb'⟩ := q9.1 g' hs
    refine pw_if_eq (tgt := 29) (pc2 := 22) dX2_search_19 (by decide) rfl (fun c19 => by exact absurd c19 (by decide)) (fun _ => ?_)
    refine pw_aload_n (pc2 := 23) dX2_search_22 rfl rfl 0 rfl (by first | exact rf_ref _ | exact rf_opt _ | exact rf_nul) ?_
    refine pw_get (pc2 := 26) kX2 (k := 0) (by decide) rfl fl_X2_12 ((va_up_ne _ _ (ne_oa H1.c7 H1.c9)).trans H1.c7) rfl dX2_search_23 rfl ?_
    refine pw_goto (tgt := 30) dX2_search_26 (by decide) ?_
    refine pw_aret dX2_search_30 rfl (by first | exact Or.inl ⟨_, rfl⟩ | exact Or.inr ⟨_, rfl⟩) (by first | exact rf_ref _ | exact rf_opt _ | exact rf_nul) ?_
    exact ⟨fun g2 e2 => by cases hs.symm.trans e2; exact ⟨rfl, by rw [eh1, up_up], hgb'⟩, fun e2 => by cases hs.symm.trans e2⟩
