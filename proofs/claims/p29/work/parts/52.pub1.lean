/-! PackageForge: setSource, need, dropNeed, chosen, chosenByAll, compile -/
abbrev QS (G : hG) (h : hp) (A : aT) (v : Value) (σ2 : sT) : Option Value → hp → Prop := fun r h2 => r = some v ∧ W9 G h2 A σ2 ∧ FR h h2
def rg9 (x : Int32) : Prop := 0 ≤ x ∧ x ≤ 999
def ssS (σ : sT) (p : Nat) (f b : Int32) : sT := setI σ 21 p (upd (upd (σ.1 21 p) 0 f) 1 b)
def ssV (σ : sT) (p : Nat) (f b : Int32) : Int32 := (if σ.1 21 p 0 = f then 0 else 1) + (if σ.1 21 p 1 = b then 0 else 1)
def ndS (σ : sT) (p q : Nat) (l g : Int32) : sT := setI (setI σ 23 p (upd (σ.1 23 p) q l)) 24 p (upd (σ.1 24 p) q g)
def rgV (l g : Int32) : Prop := (100 ≤ l ∧ l ≤ 999) ∧ l ≤ g ∧ g ≤ 999
def vG (σ : sT) (o : Option Nat) : Int32 := match o with
  | none => 0
  | some x => σ.1 40 x 0
theorem vG_eq {G : hG} {h : hp} {A : aT} {σ : sT} (H : W9 G h A σ) {g : Nat → Option Nat} (hg : pkB σ g) {k : Nat} (hk : k < 6) : vOf (TT A σ) (pa A g k) = vG σ (g k) := by
  unfold pa vOf vG
  cases e : g k with
  | none => rfl
  | some x =>
    show (TT A σ (A 40 x)).1 = _
    rw [H.tt (hg k x e)]
def nfG (σ : sT) (gr : Nat → Int32) (g : Nat → Option Nat) (i : Nat) : Int32 := match g i with
  | none => -1
  | some x => if gr i = 0 then -1 else σ.1 40 x 1
theorem nfG_eq {G : hG} {h : hp} {A : aT} {σ : sT} (H : W9 G h A σ) {g : Nat → Option Nat} (hg : pkB σ g) {gr : Nat → Int32} {k : Nat} (hk : k < 6) : nfOf (TT A σ) gr (pa A g) k = nfG σ gr g k := by
  unfold nfOf nfG pa
  cases e : g k with
  | none => rfl
  | some x =>
    show (if gr k = 0 then -1 else (TT A σ (A 40 x)).2.1) = _
    rw [H.tt (hg k x e)]
/-- a general write of a cell with true or false in it -/
theorem iv_I {σ : sT} (H : IV σ) {t i : Nat} {f : Nat → Int32} (h0 : t = 25 ∨ t = 27 → b01 (f 0)) (h2 : t = 40 ∨ t = 50 → b01 (f 2)) (h5 : t = 51 → bF f) : IV (setI σ t i f) := by
  obtain ⟨a1, a2, a3, a4, a5, a6, a7, a8, a9, a10, a11⟩ := H
  have key : ∀ (u j : Nat) (P : (Nat → Int32) → Prop), P (σ.1 u j) → (u = t → P f) → P ((setI σ t i f).1 u j) := by
    intro u j P h1 h3
    by_cases e : u = t ∧ j = i
    · obtain ⟨rfl, rfl⟩ := e
      rw [setI_s]; exact h3 rfl
    · have e2 : u ≠ t ∨ j ≠ i := by
        by_cases e3 : u = t
        · exact Or.inr (fun z => e ⟨e3, z⟩)
        · exact Or.inl e3
      rw [setI_n e2]; exact h1
  exact ⟨a1, a2, a3, a4, a5, a6, a7, a8, fun p hp => ⟨key 27 p (fun f => b01 (f 0)) (a9 p hp).1 (fun e => h0 (Or.inr e.symm)), key 25 p (fun f => b01 (f 0)) (a9 p hp).2 (fun e => h0 (Or.inl e.symm))⟩,
    fun r hr => key 40 r (fun f => b01 (f 2)) (a10 r hr) (fun e => h2 (Or.inl e.symm)), fun u hu => ⟨key 50 u (fun f => b01 (f 2)) (a11 u hu).1 (fun e => h2 (Or.inr e.symm)), key 51 u (fun f => bF f) (a11 u hu).2 (fun e => h5 e.symm)⟩⟩
theorem isN_al {G : hG} {h : hp} {A : aT} {σ : sT} (H : W9 G h A σ) {t c d i : Nat} {le gr : Nat → Int32} (hn : isN h (A t i) (A c i) (A d i) le gr) (hc : vd σ c i) (hd : vd σ d i) (h1 : c ≠ 12 ∧ d ≠ 12) (gw : Nat → Option Nat) (tk : Nat → Int32) (gf : Nat → Option Nat) : isN (hAl h A gw tk gf) (A t i) (A c i) (A d i) le gr := by
  have n1 : A c i ≠ A 12 0 := H.ne hc (u := 12) (j := 0) rfl (Or.inl h1.1)
  have n2 : A d i ≠ A 12 0 := H.ne hd (u := 12) (j := 0) rfl (Or.inl h1.2)
  have m1 := hn.keep (c := some (aR tRel 6 (pa A gw))) H.c11
  have e12 : va_up h (A 11 0) (some (aR tRel 6 (pa A gw))) (A 12 0) = some (aI 6 (σ.1 12 0)) := (va_up_ne _ _ (al_9 H).2.2.symm).trans H.c12
  have m2 : isN (va_up (va_up h (A 11 0) (some (aR tRel 6 (pa A gw)))) (A 12 0) (some (aI 6 tk))) (A t i) (A c i) (A d i) le gr :=
    ⟨(va_up_ne _ _ (ne_oa m1.1 e12)).trans m1.1, (va_up_ne _ _ n1).trans m1.2.1, (va_up_ne _ _ n2).trans m1.2.2.1, m1.2.2.2⟩
  have e9 : va_up (va_up h (A 11 0) (some (aR tRel 6 (pa A gw)))) (A 12 0) (some (aI 6 tk)) (A 9 0) = some (aR tRel 6 (pa A (σ.2.2 9 0))) := (va_up_ne _ _ (al_9 H).2.1.symm).trans ((va_up_ne _ _ (al_9 H).1.symm).trans H.c9)
  exact m2.keep e9
theorem CB_nF {A : aT} {f : Nat → Int32} {c : Nat → Nat} {g : Nat → Option Nat} {t i : Nat} : ¬ nF (CB A f c g t i) := by
  unfold CB
  split <;> exact id
theorem W9.wIF {G : hG} {h h0 : hp} {A : aT} {σ : sT} (H : W9 G h A σ) (F : FR h0 h) {t i : Nat} (hv : vd σ t i) (ht : t ≠ 1 ∧ t ≠ 3 ∧ t ≠ 5 ∧ t ≠ 34 ∧ t ≠ 2 ∧ t ≠ 4 ∧ t ≠ 6 ∧ t ≠ 35) {f : Nat → Int32} (hI : IV (setI σ t i f)) {c : hE} (hc : c = CB A f (σ.2.1 t i) (σ.2.2 t i) t i) : W9 G (va_up h (A t i) (some c)) A (setI σ t i f) ∧ FR h0 (va_up h (A t i) (some c)) :=
  ⟨H.wI hv ht hI hc, F.up (H.1 t i hv) CB_nF⟩
theorem W9.wOF {G : hG} {h h0 : hp} {A : aT} {σ : sT} (H : W9 G h A σ) (F : FR h0 h) {t i : Nat} (hv : vd σ t i) (ht : t ≠ 1 ∧ t ≠ 3 ∧ t ≠ 5 ∧ t ≠ 34 ∧ t ≠ 2 ∧ t ≠ 4 ∧ t ≠ 6 ∧ t ≠ 35) {g : Nat → Option Nat} (hg : pkB σ g) {c : hE} (hc : c = CB A (σ.1 t i) (σ.2.1 t i) g t i) : W9 G (va_up h (A t i) (some c)) A (setO σ t i g) ∧ FR h0 (va_up h (A t i) (some c)) :=
  ⟨H.wO hv ht hg hc, F.up (H.1 t i hv) CB_nF⟩
theorem inR_n {p k : Nat} (hk : k < 2147483648) (h : p < k) : ¬ ¬ inR (nI p) k := fun q => q (inR_of hk h)
set_option maxHeartbeats 4000000 in
set_option maxRecDepth 100000 in
theorem c_setSource (G : hG) (h : hp) {A : aT} {σ : sT} (H : W9 G h A σ) (n f b : Int32) : PMet G MX9_setSource 5 2 12 [.ref (A 0 0), .int n, .int f, .int b] h (fun r h2 => ∃ p, p < npk σ ∧ n = nI p ∧ rg9 f ∧ rg9 b ∧ QS G h A (.int (ssV σ p f b)) (ssS σ p f b) r h2) (fun C h2 => h2 = h ∧ ((C = xIO ∧ ¬ inR n (npk σ)) ∨ (C = xIA ∧ inR n (npk σ) ∧ ¬ (rg9 f ∧ rg9 b)))) := by
  have hnp := H.iv.1
  refine PMet.of (by decide +kernel) (Nat.le_of_ble_eq_true rfl) (fun d hd => ?_)
  refine PW.sub (L2 := [(0, Value.ref (A 0 0)), (1, Value.int n), (2, Value.int f), (3, Value.int b)]) [0, 1, 2, 3] rfl ?_
  refine pw_aload_n (pc2 := 1) dX9_setSource_0 rfl rfl 0 rfl (by first | exact rf_ref _ | exact rf_opt _ | exact rf_nul) ?_
  refine pw_iload_n (pc2 := 2) dX9_setSource_1 rfl rfl 1 rfl ?_
  refine pw_callV (pc2 := 5) (c_pkat G _ H n) cs_X9_63 rfl rfl H.c0 dX9_setSource_2 rfl (by omega) rfl (by first | decide | simp [cat_rf, Value.category]) (fun r9 h9 q9 => ?_) (fun Y h9 q9 => px_out rfl (⟨q9.2.1, Or.inl ⟨q9.1, q9.2.2⟩⟩))
  obtain ⟨rfl, p, hp, rfl, rfl⟩ := q9
  refine pw_getN (pc2 := 8) kX4 (k := 1) (by decide) rfl fl_X9_67 (H.c20 hp) rfl dX9_setSource_5 rfl ?_
  refine pw_astore (pc2 := 10) (L2 := [(4, Value.ref (A 21 p)), (0, Value.ref (A 0 0)), (1, Value.int (nI p)), (2, Value.int f), (3, Value.int b)]) dX9_setSource_8 rfl (by decide) (by first | exact rf_ref _ | exact rf_opt _ | exact rf_nul) rfl ?_
  refine pw_iload_n (pc2 := 11) dX9_setSource_10 rfl rfl 3 rfl ?_
  refine pw_iconst (pc2 := 12) (v := 0) dX9_setSource_11 rfl (by decide) ?_
  refine pw_sipush (pc2 := 15) (v := 999) dX9_setSource_12 rfl (by decide) ?_
  refine pw_callSb (pc2 := 18) (c_isWithin G _ f 0 999) cs_X9_71 rfl dX9_setSource_15 rfl (by omega) rfl (by first | decide | simp [cat_rf, Value.category]) (fun q15 => ?_) (fun q15 => ?_)
  · refine pw_if_eq (tgt := 32) (pc2 := 21) dX9_setSource_18 (by decide) rfl (fun c18 => by exact absurd c18 (by decide)) (fun _ => ?_)
    refine pw_iload_n (pc2 := 22) dX9_setSource_21 rfl rfl 4 rfl ?_
    refine pw_iconst (pc2 := 23) (v := 0) dX9_setSource_22 rfl (by decide) ?_
    refine pw_sipush (pc2 := 26) (v := 999) dX9_setSource_23 rfl (by decide) ?_
    refine pw_callSb (pc2 := 29) (c_isWithin G _ b 0 999) cs_X9_71 rfl dX9_setSource_26 rfl (by omega) rfl (by first | decide | simp [cat_rf, Value.category]) (fun q26 => ?_) (fun q26 => ?_)
    · refine pw_if_ne (tgt := 42) (pc2 := 32) dX9_setSource_29 (by decide) rfl (fun _ => ?_) (fun c29 => by exact absurd c29 (by decide))
      refine pw_aload (pc2 := 44) dX9_setSource_42 rfl 0 rfl (by first | exact rf_ref _ | exact rf_opt _ | exact rf_nul) ?_
      refine pw_getN (pc2 := 47) kX6 (k := 0) (by decide) rfl fl_X9_80 (H.c21 hp) rfl dX9_setSource_44 rfl ?_
      refine pw_iload_n (pc2 := 48) dX9_setSource_47 rfl rfl 3 rfl ?_
      refine pw_icmp_ne (tgt := 55) (pc2 := 51) dX9_setSource_48 (by decide) rfl (fun c48 => ?_) (fun c48 => ?_)
      · refine pw_iconst (pc2 := 56) (v := 1) dX9_setSource_55 rfl (by decide) ?_
        refine pw_aload (pc2 := 58) dX9_setSource_56 rfl 0 rfl (by first | exact rf_ref _ | exact rf_opt _ | exact rf_nul) ?_
        refine pw_getN (pc2 := 61) kX6 (k := 1) (by decide) rfl fl_X9_85 (H.c21 hp) rfl dX9_setSource_58 rfl ?_
        refine pw_iload_n (pc2 := 62) dX9_setSource_61 rfl rfl 4 rfl ?_
        refine pw_icmp_ne (tgt := 69) (pc2 := 65) dX9_setSource_62 (by decide) rfl (fun c62 => ?_) (fun c62 => ?_)
        · refine pw_iconst (pc2 := 70) (v := 1) dX9_setSource_69 rfl (by decide) ?_
          refine pw_iadd (pc2 := 71) dX9_setSource_70 rfl ?_
          refine pw_topi (fun v1 ev1 => ?_)
          refine pw_istore (pc2 := 73) (L2 := [(5, Value.int v1), (4, Value.ref (A 21 p)), (0, Value.ref (A 0 0)), (1, Value.int (nI p)), (2, Value.int f), (3, Value.int b)]) dX9_setSource_71 rfl (by decide) rfl ?_
          refine pw_aload (pc2 := 75) dX9_setSource_73 rfl 1 rfl (by first | exact rf_ref _ | exact rf_opt _ | exact rf_nul) ?_
          refine pw_iload_n (pc2 := 76) dX9_setSource_75 rfl rfl 4 rfl ?_
          refine pw_putN (pc2 := 79) kX6 (k := 0) (by decide) rfl rfl fl_X9_80 (H.c21 hp) (by first | decide | simp) (by first | rfl | exact nar_rf _ _) (by first | rfl | exact fit_rf _ _) dX9_setSource_76 rfl ?_
          refine pw_aload (pc2 := 81) dX9_setSource_79 rfl 1 rfl (by first | exact rf_ref _ | exact rf_opt _ | exact rf_nul) ?_
          refine pw_iload_n (pc2 := 82) dX9_setSource_81 rfl rfl 5 rfl ?_
          refine pw_putN (pc2 := 85) kX6 (k := 1) (by decide) rfl rfl fl_X9_85 (va_up_self _ _ _) (by first | decide | simp) (by first | rfl | exact nar_rf _ _) (by first | rfl | exact fit_rf _ _) dX9_setSource_82 rfl ?_
          refine pw_iload (pc2 := 87) dX9_setSource_85 rfl 0 rfl ?_
          refine pw_iret dX9_setSource_87 rfl (by first | rfl | assumption | simp [narrow]) ?_
          obtain ⟨K1, FK1⟩ := H.wIF (FR.rfl') (t := 21) (i := p) (f := (upd (upd (σ.1 21 p) 0 f) 1 b)) hp (by decide) (iv_setI H.iv (by decide)) rfl
          exact ⟨p, hp, rfl, q15, q26, by rw [ev1]; unfold ssV; first | rw [if_pos c48, if_pos c62] | rw [if_pos c48, if_neg c62] | rw [if_neg c48, if_pos c62] | rw [if_neg c48, if_neg c62], by rw [up_up]; exact K1, by rw [up_up]; exact FK1⟩
        · refine pw_iconst (pc2 := 66) (v := 0) dX9_setSource_65 rfl (by decide) ?_
          refine pw_goto (tgt := 70) dX9_setSource_66 (by decide) ?_
          refine pw_iadd (pc2 := 71) dX9_setSource_70 rfl ?_
          refine pw_topi (fun v2 ev2 => ?_)
          refine pw_istore (pc2 := 73) (L2 := [(5, Value.int v2), (4, Value.ref (A 21 p)), (0, Value.ref (A 0 0)), (1, Value.int (nI p)), (2, Value.int f), (3, Value.int b)]) dX9_setSource_71 rfl (by decide) rfl ?_
          refine pw_aload (pc2 := 75) dX9_setSource_73 rfl 1 rfl (by first | exact rf_ref _ | exact rf_opt _ | exact rf_nul) ?_
          refine pw_iload_n (pc2 := 76) dX9_setSource_75 rfl rfl 4 rfl ?_
          refine pw_putN (pc2 := 79) kX6 (k := 0) (by decide) rfl rfl fl_X9_80 (H.c21 hp) (by first | decide | simp) (by first | rfl | exact nar_rf _ _) (by first | rfl | exact fit_rf _ _) dX9_setSource_76 rfl ?_
          refine pw_aload (pc2 := 81) dX9_setSource_79 rfl 1 rfl (by first | exact rf_ref _ | exact rf_opt _ | exact rf_nul) ?_
          refine pw_iload_n (pc2 := 82) dX9_setSource_81 rfl rfl 5 rfl ?_
          refine pw_putN (pc2 := 85) kX6 (k := 1) (by decide) rfl rfl fl_X9_85 (va_up_self _ _ _) (by first | decide | simp) (by first | rfl | exact nar_rf _ _) (by first | rfl | exact fit_rf _ _) dX9_setSource_82 rfl ?_
          refine pw_iload (pc2 := 87) dX9_setSource_85 rfl 0 rfl ?_
          refine pw_iret dX9_setSource_87 rfl (by first | rfl | assumption | simp [narrow]) ?_
          obtain ⟨K1, FK1⟩ := H.wIF (FR.rfl') (t := 21) (i := p) (f := (upd (upd (σ.1 21 p) 0 f) 1 b)) hp (by decide) (iv_setI H.iv (by decide)) rfl
          exact ⟨p, hp, rfl, q15, q26, by rw [ev2]; unfold ssV; first | rw [if_pos c48, if_pos c62] | rw [if_pos c48, if_neg c62] | rw [if_neg c48, if_pos c62] | rw [if_neg c48, if_neg c62], by rw [up_up]; exact K1, by rw [up_up]; exact FK1⟩
      · refine pw_iconst (pc2 := 52) (v := 0) dX9_setSource_51 rfl (by decide) ?_
        refine pw_goto (tgt := 56) dX9_setSource_52 (by decide) ?_
        refine pw_aload (pc2 := 58) dX9_setSource_56 rfl 0 rfl (by first | exact rf_ref _ | exact rf_opt _ | exact rf_nul) ?_
        refine pw_getN (pc2 := 61) kX6 (k := 1) (by decide) rfl fl_X9_85 (H.c21 hp) rfl dX9_setSource_58 rfl ?_
        refine pw_iload_n (pc2 := 62) dX9_setSource_61 rfl rfl 4 rfl ?_
        refine pw_icmp_ne (tgt := 69) (pc2 := 65) dX9_setSource_62 (by decide) rfl (fun c62 => ?_) (fun c62 => ?_)
        · refine pw_iconst (pc2 := 70) (v := 1) dX9_setSource_69 rfl (by decide) ?_
          refine pw_iadd (pc2 := 71) dX9_setSource_70 rfl ?_
          refine pw_topi (fun v3 ev3 => ?_)
          refine pw_istore (pc2 := 73) (L2 := [(5, Value.int v3), (4, Value.ref (A 21 p)), (0, Value.ref (A 0 0)), (1, Value.int (nI p)), (2, Value.int f), (3, Value.int b)]) dX9_setSource_71 rfl (by decide) rfl ?_
          refine pw_aload (pc2 := 75) dX9_setSource_73 rfl 1 rfl (by first | exact rf_ref _ | exact rf_opt _ | exact rf_nul) ?_
          refine pw_iload_n (pc2 := 76) dX9_setSource_75 rfl rfl 4 rfl ?_
          refine pw_putN (pc2 := 79) kX6 (k := 0) (by decide) rfl rfl fl_X9_80 (H.c21 hp) (by first | decide | simp) (by first | rfl | exact nar_rf _ _) (by first | rfl | exact fit_rf _ _) dX9_setSource_76 rfl ?_
          refine pw_aload (pc2 := 81) dX9_setSource_79 rfl 1 rfl (by first | exact rf_ref _ | exact rf_opt _ | exact rf_nul) ?_
          refine pw_iload_n (pc2 := 82) dX9_setSource_81 rfl rfl 5 rfl ?_
          refine pw_putN (pc2 := 85) kX6 (k := 1) (by decide) rfl rfl fl_X9_85 (va_up_self _ _ _) (by first | decide | simp) (by first | rfl | exact nar_rf _ _) (by first | rfl | exact fit_rf _ _) dX9_setSource_82 rfl ?_
          refine pw_iload (pc2 := 87) dX9_setSource_85 rfl 0 rfl ?_
          refine pw_iret dX9_setSource_87 rfl (by first | rfl | assumption | simp [narrow]) ?_
          obtain ⟨K1, FK1⟩ := H.wIF (FR.rfl') (t := 21) (i := p) (f := (upd (upd (σ.1 21 p) 0 f) 1 b)) hp (by decide) (iv_setI H.iv (by decide)) rfl
          exact ⟨p, hp, rfl, q15, q26, by rw [ev3]; unfold ssV; first | rw [if_pos c48, if_pos c62] | rw [if_pos c48, if_neg c62] | rw [if_neg c48, if_pos c62] | rw [if_neg c48, if_neg c62], by rw [up_up]; exact K1, by rw [up_up]; exact FK1⟩
        · refine pw_iconst (pc2 := 66) (v := 0) dX9_setSource_65 rfl (by decide) ?_
          refine pw_goto (tgt := 70) dX9_setSource_66 (by decide) ?_
          refine pw_iadd (pc2 := 71) dX9_setSource_70 rfl ?_
          refine pw_topi (fun v4 ev4 => ?_)
          refine pw_istore (pc2 := 73) (L2 := [(5, Value.int v4), (4, Value.ref (A 21 p)), (0, Value.ref (A 0 0)), (1, Value.int (nI p)), (2, Value.int f), (3, Value.int b)]) dX9_setSource_71 rfl (by decide) rfl ?_
          refine pw_aload (pc2 := 75) dX9_setSource_73 rfl 1 rfl (by first | exact rf_ref _ | exact rf_opt _ | exact rf_nul) ?_
          refine pw_iload_n (pc2 := 76) dX9_setSource_75 rfl rfl 4 rfl ?_
          refine pw_putN (pc2 := 79) kX6 (k := 0) (by decide) rfl rfl fl_X9_80 (H.c21 hp) (by first | decide | simp) (by first | rfl | exact nar_rf _ _) (by first | rfl | exact fit_rf _ _) dX9_setSource_76 rfl ?_
          refine pw_aload (pc2 := 81) dX9_setSource_79 rfl 1 rfl (by first | exact rf_ref _ | exact rf_opt _ | exact rf_nul) ?_
          refine pw_iload_n (pc2 := 82) dX9_setSource_81 rfl rfl 5 rfl ?_
          refine pw_putN (pc2 := 85) kX6 (k := 1) (by decide) rfl rfl fl_X9_85 (va_up_self _ _ _) (by first | decide | simp) (by first | rfl | exact nar_rf _ _) (by first | rfl | exact fit_rf _ _) dX9_setSource_82 rfl ?_
          refine pw_iload (pc2 := 87) dX9_setSource_85 rfl 0 rfl ?_
          refine pw_iret dX9_setSource_87 rfl (by first | rfl | assumption | simp [narrow]) ?_
          obtain ⟨K1, FK1⟩ := H.wIF (FR.rfl') (t := 21) (i := p) (f := (upd (upd (σ.1 21 p) 0 f) 1 b)) hp (by decide) (iv_setI H.iv (by decide)) rfl
          exact ⟨p, hp, rfl, q15, q26, by rw [ev4]; unfold ssV; first | rw [if_pos c48, if_pos c62] | rw [if_pos c48, if_neg c62] | rw [if_neg c48, if_pos c62] | rw [if_neg c48, if_neg c62], by rw [up_up]; exact K1, by rw [up_up]; exact FK1⟩
    · refine pw_if_ne (tgt := 42) (pc2 := 32) dX9_setSource_29 (by decide) rfl (fun c29 => by exact absurd (by decide) c29) (fun _ => ?_)
      exact pw_throw rfl ts_77 dX9_setSource_32 dX9_setSource_35 dX9_setSource_36 dX9_setSource_38 dX9_setSource_41 (by first | decide | simp [cat_rf, Value.category]) (by exact ⟨rfl, Or.inr ⟨rfl, inR_of (by omega) hp, (by first | exact fun z => q15 z.1 | exact fun z => q26 z.2)⟩⟩)
  · refine pw_if_eq (tgt := 32) (pc2 := 21) dX9_setSource_18 (by decide) rfl (fun _ => ?_) (fun c18 => by exact absurd (by decide) c18)
    exact pw_throw rfl ts_77 dX9_setSource_32 dX9_setSource_35 dX9_setSource_36 dX9_setSource_38 dX9_setSource_41 (by first | decide | simp [cat_rf, Value.category]) (by exact ⟨rfl, Or.inr ⟨rfl, inR_of (by omega) hp, (by first | exact fun z => q15 z.1 | exact fun z => q26 z.2)⟩⟩)
set_option maxHeartbeats 4000000 in
set_option maxRecDepth 100000 in
theorem c_need (G : hG) (h : hp) {A : aT} {σ : sT} (H : W9 G h A σ) (n o l g : Int32) : PMet G MX9_need 5 3 18 [.ref (A 0 0), .int n, .int o, .int l, .int g] h (fun r h2 => ∃ p q, p < npk σ ∧ n = nI p ∧ o = nI q ∧ q < p ∧ rgV l g ∧ QS G h A (.int (cnN (upd (σ.1 24 p) q g) 6)) (ndS σ p q l g) r h2) (fun C h2 => h2 = h ∧ ((C = xIO ∧ ¬ (inR n (npk σ) ∧ inR o (npk σ))) ∨ (C = xIA ∧ (inR n (npk σ) ∧ inR o (npk σ)) ∧ ¬ (o < n ∧ rgV l g)))) := by
  have hnp := H.iv.1
  refine PMet.of (by decide +kernel) (Nat.le_of_ble_eq_true rfl) (fun d hd => ?_)
  refine PW.sub (L2 := [(0, Value.ref (A 0 0)), (1, Value.int n), (2, Value.int o), (3, Value.int l), (4, Value.int g)]) [0, 1, 2, 3, 4] rfl ?_
  refine pw_aload_n (pc2 := 1) dX9_need_0 rfl rfl 0 rfl (by first | exact rf_ref _ | exact rf_opt _ | exact rf_nul) ?_
  refine pw_iload_n (pc2 := 2) dX9_need_1 rfl rfl 1 rfl ?_
  refine pw_callV (pc2 := 5) (c_pkat G _ H n) cs_X9_63 rfl rfl H.c0 dX9_need_2 rfl (by omega) rfl (by first | decide | simp [cat_rf, Value.category]) (fun r9 h9 q9 => ?_) (fun Y h9 q9 => px_out rfl (⟨q9.2.1, Or.inl ⟨q9.1, fun z => q9.2.2 z.1⟩⟩))
  obtain ⟨rfl, p, hp, rfl, rfl⟩ := q9
  have hne23 : A 23 p ≠ A 24 p := H.ne (t := 23) (u := 24) (i := p) (j := p) hp hp (Or.inl (by decide))
  refine pw_getN (pc2 := 8) kX4 (k := 1) (by decide) rfl fl_X9_67 (H.c20 hp) rfl dX9_need_5 rfl ?_
  refine pw_getN (pc2 := 11) kX6 (k := 2) (by decide) rfl fl_X9_88 (H.c21 hp) rfl dX9_need_8 rfl ?_
  refine pw_astore (pc2 := 13) (L2 := [(5, Value.ref (A 22 p)), (0, Value.ref (A 0 0)), (1, Value.int (nI p)), (2, Value.int o), (3, Value.int l), (4, Value.int g)]) dX9_need_11 rfl (by decide) (by first | exact rf_ref _ | exact rf_opt _ | exact rf_nul) rfl ?_
  refine pw_aload_n (pc2 := 14) dX9_need_13 rfl rfl 1 rfl (by first | exact rf_ref _ | exact rf_opt _ | exact rf_nul) ?_
  refine pw_iload_n (pc2 := 15) dX9_need_14 rfl rfl 3 rfl ?_
  refine pw_callV (pc2 := 18) (c_chkP G _ H o) cs_X9_92 rfl rfl H.c0 dX9_need_15 rfl (by omega) rfl (by first | decide | simp [cat_rf, Value.category]) (fun r9 h9 q9 => ?_) (fun Y h9 q9 => px_out rfl (⟨q9.2.1, Or.inl ⟨q9.1, fun z => q9.2.2 z.2⟩⟩))
  obtain ⟨rfl, rfl, hin⟩ := q9
  obtain ⟨q, hq, rfl⟩ := inR_ex (by omega) hin
  refine pw_iload_n (pc2 := 19) dX9_need_18 rfl rfl 3 rfl ?_
  refine pw_iload_n (pc2 := 20) dX9_need_19 rfl rfl 2 rfl ?_
  refine pw_icmp_lt (tgt := 33) (pc2 := 23) dX9_need_20 (by decide) rfl (fun c20 => ?_) (fun c20 => ?_)
  · refine pw_iload_n (pc2 := 34) dX9_need_33 rfl rfl 4 rfl ?_
    refine pw_bipush (pc2 := 36) (v := 100) dX9_need_34 rfl (by decide) ?_
    refine pw_sipush (pc2 := 39) (v := 999) dX9_need_36 rfl (by decide) ?_
    refine pw_callSb (pc2 := 42) (c_isWithin G _ l 100 999) cs_X9_71 rfl dX9_need_39 rfl (by omega) rfl (by first | decide | simp [cat_rf, Value.category]) (fun q39 => ?_) (fun q39 => ?_)
    · refine pw_if_eq (tgt := 57) (pc2 := 45) dX9_need_42 (by decide) rfl (fun c42 => by exact absurd c42 (by decide)) (fun _ => ?_)
      refine pw_iload (pc2 := 47) dX9_need_45 rfl 5 rfl ?_
      refine pw_iload_n (pc2 := 48) dX9_need_47 rfl rfl 4 rfl ?_
      refine pw_sipush (pc2 := 51) (v := 999) dX9_need_48 rfl (by decide) ?_
      refine pw_callSb (pc2 := 54) (c_isWithin G _ g l 999) cs_X9_71 rfl dX9_need_51 rfl (by omega) rfl (by first | decide | simp [cat_rf, Value.category]) (fun q51 => ?_) (fun q51 => ?_)
      · refine pw_if_ne (tgt := 67) (pc2 := 57) dX9_need_54 (by decide) rfl (fun _ => ?_) (fun c54 => by exact absurd c54 (by decide))
        refine pw_aload (pc2 := 69) dX9_need_67 rfl 0 rfl (by first | exact rf_ref _ | exact rf_opt _ | exact rf_nul) ?_
        refine pw_iload_n (pc2 := 70) dX9_need_69 rfl rfl 3 rfl ?_
        refine pw_iload_n (pc2 := 71) dX9_need_70 rfl rfl 4 rfl ?_
        refine pw_iload (pc2 := 73) dX9_need_71 rfl 5 rfl ?_
        refine pw_callV0 (pc2 := 76) (c_nput G _ ⟨H.c22 hp, H.c23 hp, H.c24 hp, hne23⟩ (i := q) (by omega) l g) cs_X9_99 rfl rfl (H.c22 hp) dX9_need_73 rfl (by omega) rfl (by first | decide | simp [cat_rf, Value.category]) ?_
        obtain ⟨K1, FK1⟩ := H.wIF (FR.rfl') (t := 23) (i := p) (f := (upd (σ.1 23 p) q l)) hp (by decide) (iv_setI H.iv (by decide)) rfl
        obtain ⟨K2, FK2⟩ := K1.wIF (FK1) (t := 24) (i := p) (f := (upd (σ.1 24 p) q g)) hp (by decide) (iv_setI K1.iv (by decide)) rfl
        obtain ⟨h2, eh2⟩ : ∃ z : Nat → Option hE, z = va_up (va_up h (A 23 p) (some (aI 6 (upd (σ.1 23 p) q l)))) (A 24 p) (some (aI 6 (upd (σ.1 24 p) q g))) := ⟨_, rfl⟩
        refine PW.heap (h' := h2) eh2.symm ?_
        replace K2 : W9 G h2 A (ndS σ p q l g) := by rw [eh2]; exact K2
        replace FK2 : FR h h2 := by rw [eh2]; exact FK2
        have n24 : h2 (A 24 p) = some (aI 6 (upd (σ.1 24 p) q g)) := by have z := K2.c24 (i := p) hp; unfold ndS at z; rw [setI_s] at z; exact z
        have n2 : isN h2 (A 22 p) (A 23 p) (A 24 p) _ _ := ⟨K2.c22 (i := p) hp, K2.c23 (i := p) hp, n24, hne23⟩
        refine pw_aload (pc2 := 78) dX9_need_76 rfl 0 rfl (by first | exact rf_ref _ | exact rf_opt _ | exact rf_nul) ?_
        refine pw_callV1 (pc2 := 81) (c_ncount G h2 n2) cs_X9_105 rfl rfl (K2.c22 (i := p) hp) dX9_need_78 rfl (by omega) rfl (by first | decide | simp [cat_rf, Value.category]) ?_
        refine pw_iret dX9_need_81 rfl (by first | rfl | assumption | simp [narrow]) ?_
        exact ⟨p, q, hp, rfl, rfl, (nI_ltI (by omega) (by omega)).mp c20, ⟨q39, q51⟩, rfl, K2, FK2⟩
      · refine pw_if_ne (tgt := 67) (pc2 := 57) dX9_need_54 (by decide) rfl (fun c54 => by exact absurd (by decide) c54) (fun _ => ?_)
        exact pw_throw rfl ts_97 dX9_need_57 dX9_need_60 dX9_need_61 dX9_need_63 dX9_need_66 (by first | decide | simp [cat_rf, Value.category]) (by exact ⟨rfl, Or.inr ⟨rfl, ⟨inR_of (by omega) hp, inR_of (by omega) hq⟩, (by first | exact fun z => q39 z.2.1 | exact fun z => q51 z.2.2)⟩⟩)
    · refine pw_if_eq (tgt := 57) (pc2 := 45) dX9_need_42 (by decide) rfl (fun _ => ?_) (fun c42 => by exact absurd (by decide) c42)
      exact pw_throw rfl ts_97 dX9_need_57 dX9_need_60 dX9_need_61 dX9_need_63 dX9_need_66 (by first | decide | simp [cat_rf, Value.category]) (by exact ⟨rfl, Or.inr ⟨rfl, ⟨inR_of (by omega) hp, inR_of (by omega) hq⟩, (by first | exact fun z => q39 z.2.1 | exact fun z => q51 z.2.2)⟩⟩)
  · exact pw_throw rfl ts_95 dX9_need_23 dX9_need_26 dX9_need_27 dX9_need_29 dX9_need_32 (by first | decide | simp [cat_rf, Value.category]) (by exact ⟨rfl, Or.inr ⟨rfl, ⟨inR_of (by omega) hp, inR_of (by omega) hq⟩, fun z => c20 z.1⟩⟩)
set_option maxHeartbeats 4000000 in
set_option maxRecDepth 100000 in
theorem c_dropNeed (G : hG) (h : hp) {A : aT} {σ : sT} (H : W9 G h A σ) (n o : Int32) : PMet G MX9_dropNeed 5 3 18 [.ref (A 0 0), .int n, .int o] h (fun r h2 => ∃ p q, p < npk σ ∧ q < npk σ ∧ n = nI p ∧ o = nI q ∧ ¬ σ.1 24 p q = 0 ∧ QS G h A (.int (cnN (upd (σ.1 24 p) q 0) 6)) (ndS σ p q 0 0) r h2) (fun C h2 => h2 = h ∧ ((C = xIO ∧ ¬ (inR n (npk σ) ∧ inR o (npk σ))) ∨ (C = nsN ∧ ∃ p q, p < npk σ ∧ q < npk σ ∧ n = nI p ∧ o = nI q ∧ σ.1 24 p q = 0))) := by
  have hnp := H.iv.1
  refine PMet.of (by decide +kernel) (Nat.le_of_ble_eq_true rfl) (fun d hd => ?_)
  refine PW.sub (L2 := [(0, Value.ref (A 0 0)), (1, Value.int n), (2, Value.int o)]) [0, 1, 2] rfl ?_
  refine pw_aload_n (pc2 := 1) dX9_dropNeed_0 rfl rfl 0 rfl (by first | exact rf_ref _ | exact rf_opt _ | exact rf_nul) ?_
  refine pw_iload_n (pc2 := 2) dX9_dropNeed_1 rfl rfl 1 rfl ?_
  refine pw_callV (pc2 := 5) (c_pkat G _ H n) cs_X9_63 rfl rfl H.c0 dX9_dropNeed_2 rfl (by omega) rfl (by first | decide | simp [cat_rf, Value.category]) (fun r9 h9 q9 => ?_) (fun Y h9 q9 => px_out rfl (⟨q9.2.1, Or.inl ⟨q9.1, fun z => q9.2.2 z.1⟩⟩))
  obtain ⟨rfl, p, hp, rfl, rfl⟩ := q9
  have hne23 : A 23 p ≠ A 24 p := H.ne (t := 23) (u := 24) (i := p) (j := p) hp hp (Or.inl (by decide))
  refine pw_getN (pc2 := 8) kX4 (k := 1) (by decide) rfl fl_X9_67 (H.c20 hp) rfl dX9_dropNeed_5 rfl ?_
  refine pw_getN (pc2 := 11) kX6 (k := 2) (by decide) rfl fl_X9_88 (H.c21 hp) rfl dX9_dropNeed_8 rfl ?_
  refine pw_astore_n (pc2 := 12) (L2 := [(3, Value.ref (A 22 p)), (0, Value.ref (A 0 0)), (1, Value.int (nI p)), (2, Value.int o)]) dX9_dropNeed_11 rfl rfl (by decide) (by first | exact rf_ref _ | exact rf_opt _ | exact rf_nul) rfl ?_
  refine pw_aload_n (pc2 := 13) dX9_dropNeed_12 rfl rfl 1 rfl (by first | exact rf_ref _ | exact rf_opt _ | exact rf_nul) ?_
  refine pw_iload_n (pc2 := 14) dX9_dropNeed_13 rfl rfl 3 rfl ?_
  refine pw_callV (pc2 := 17) (c_chkP G _ H o) cs_X9_92 rfl rfl H.c0 dX9_dropNeed_14 rfl (by omega) rfl (by first | decide | simp [cat_rf, Value.category]) (fun r9 h9 q9 => ?_) (fun Y h9 q9 => px_out rfl (⟨q9.2.1, Or.inl ⟨q9.1, fun z => q9.2.2 z.2⟩⟩))
  obtain ⟨rfl, rfl, hin⟩ := q9
  obtain ⟨q, hq, rfl⟩ := inR_ex (by omega) hin
  refine pw_aload_n (pc2 := 18) dX9_dropNeed_17 rfl rfl 0 rfl (by first | exact rf_ref _ | exact rf_opt _ | exact rf_nul) ?_
  refine pw_iload_n (pc2 := 19) dX9_dropNeed_18 rfl rfl 3 rfl ?_
  refine pw_callVb (pc2 := 22) (c_has G _ ⟨H.c22 hp, H.c23 hp, H.c24 hp, hne23⟩ (i := q) (by omega)) cs_X9_108 rfl rfl (H.c22 hp) dX9_dropNeed_19 rfl (by omega) rfl (by first | decide | simp [cat_rf, Value.category]) (fun q19 => ?_) (fun q19 => ?_)
  · refine pw_if_ne (tgt := 35) (pc2 := 25) dX9_dropNeed_22 (by decide) rfl (fun _ => ?_) (fun c22 => by exact absurd c22 (by decide))
    refine pw_aload_n (pc2 := 36) dX9_dropNeed_35 rfl rfl 0 rfl (by first | exact rf_ref _ | exact rf_opt _ | exact rf_nul) ?_
    refine pw_iload_n (pc2 := 37) dX9_dropNeed_36 rfl rfl 3 rfl ?_
    refine pw_callV0 (pc2 := 40) (c_ndrop G _ ⟨H.c22 hp, H.c23 hp, H.c24 hp, hne23⟩ (i := q) (by omega)) cs_X9_117 rfl rfl (H.c22 hp) dX9_dropNeed_37 rfl (by omega) rfl (by first | decide | simp [cat_rf, Value.category]) ?_
    obtain ⟨K1, FK1⟩ := H.wIF (FR.rfl') (t := 23) (i := p) (f := (upd (σ.1 23 p) q 0)) hp (by decide) (iv_setI H.iv (by decide)) rfl
    obtain ⟨K2, FK2⟩ := K1.wIF (FK1) (t := 24) (i := p) (f := (upd (σ.1 24 p) q 0)) hp (by decide) (iv_setI K1.iv (by decide)) rfl
    obtain ⟨h2, eh2⟩ : ∃ z : Nat → Option hE, z = va_up (va_up h (A 23 p) (some (aI 6 (upd (σ.1 23 p) q 0)))) (A 24 p) (some (aI 6 (upd (σ.1 24 p) q 0))) := ⟨_, rfl⟩
    refine PW.heap (h' := h2) eh2.symm ?_
    replace K2 : W9 G h2 A (ndS σ p q 0 0) := by rw [eh2]; exact K2
    replace FK2 : FR h h2 := by rw [eh2]; exact FK2
    have n24 : h2 (A 24 p) = some (aI 6 (upd (σ.1 24 p) q 0)) := by have z := K2.c24 (i := p) hp; unfold ndS at z; rw [setI_s] at z; exact z
    have n2 : isN h2 (A 22 p) (A 23 p) (A 24 p) _ _ := ⟨K2.c22 (i := p) hp, K2.c23 (i := p) hp, n24, hne23⟩
    refine pw_aload_n (pc2 := 41) dX9_dropNeed_40 rfl rfl 0 rfl (by first | exact rf_ref _ | exact rf_opt _ | exact rf_nul) ?_
    refine pw_callV1 (pc2 := 44) (c_ncount G h2 n2) cs_X9_105 rfl rfl (K2.c22 (i := p) hp) dX9_dropNeed_41 rfl (by omega) rfl (by first | decide | simp [cat_rf, Value.category]) ?_
    refine pw_iret dX9_dropNeed_44 rfl (by first | rfl | assumption | simp [narrow]) ?_
    exact ⟨p, q, hp, hq, rfl, rfl, q19, rfl, K2, FK2⟩
  · refine pw_if_ne (tgt := 35) (pc2 := 25) dX9_dropNeed_22 (by decide) rfl (fun c22 => by exact absurd (by decide) c22) (fun _ => ?_)
    exact pw_throwN rfl tn_114 dX9_dropNeed_25 dX9_dropNeed_28 dX9_dropNeed_29 dX9_dropNeed_31 dX9_dropNeed_34 (by first | decide | simp [cat_rf, Value.category]) (by exact ⟨rfl, Or.inr ⟨rfl, p, q, hp, hq, rfl, rfl, Classical.not_not.mp q19⟩⟩)
