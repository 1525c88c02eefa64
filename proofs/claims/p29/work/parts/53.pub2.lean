/-! PackageForge: chosen, chosenByAll, compile -/
noncomputable def srS (σ : sT) (p : Nat) : Option (Nat → Option Nat) := srch σ.1 σ.2.1 (σ.1 23 p) (σ.1 24 p) p zN
set_option maxHeartbeats 4000000 in
set_option maxRecDepth 100000 in
theorem c_chosen (G : hG) (h : hp) {A : aT} {σ : sT} (H : W9 G h A σ) (n o : Int32) : PMet G MX9_chosen 13 3 18 [.ref (A 0 0), .int n, .int o] h (fun r h2 => ∃ p q g', p < npk σ ∧ q < npk σ ∧ n = nI p ∧ o = nI q ∧ srS σ p = some g' ∧ pkB σ g' ∧ ∃ σ2, (∃ gw tk gf, pkB σ gw ∧ pkB σ gf ∧ (σ2 = setO σ 9 0 gf ∨ σ2 = sAl σ gw tk gf)) ∧ QS G h A (.int (vG σ (g' q))) σ2 r h2) (fun C h2 => (h2 = h ∧ C = xIO ∧ ¬ (inR n (npk σ) ∧ inR o (npk σ))) ∨ (C = xUO ∧ ∃ p, p < npk σ ∧ n = nI p ∧ inR o (npk σ) ∧ srS σ p = none ∧ ∃ σ2, (∃ gw tk gf, pkB σ gw ∧ pkB σ gf ∧ (σ2 = setO σ 9 0 gf ∨ σ2 = sAl σ gw tk gf)) ∧ W9 G h2 A σ2 ∧ FR h h2)) := by
  have hnp := H.iv.1
  refine PMet.of (by decide +kernel) (Nat.le_of_ble_eq_true rfl) (fun d hd => ?_)
  refine PW.sub (L2 := [(0, Value.ref (A 0 0)), (1, Value.int n), (2, Value.int o)]) [0, 1, 2] rfl ?_
  refine pw_aload_n (pc2 := 1) dX9_chosen_0 rfl rfl 0 rfl (by first | exact rf_ref _ | exact rf_opt _ | exact rf_nul) ?_
  refine pw_iload_n (pc2 := 2) dX9_chosen_1 rfl rfl 1 rfl ?_
  refine pw_callV (pc2 := 5) (c_pkat G _ H n) cs_X9_63 rfl rfl H.c0 dX9_chosen_2 rfl (by omega) rfl (by first | decide | simp [cat_rf, Value.category]) (fun r9 h9 q9 => ?_) (fun Y h9 q9 => px_out rfl (Or.inl ⟨q9.2.1, q9.1, fun z => q9.2.2 z.1⟩))
  obtain ⟨rfl, p, hp, rfl, rfl⟩ := q9
  have hne23 : A 23 p ≠ A 24 p := H.ne (t := 23) (u := 24) (i := p) (j := p) hp hp (Or.inl (by decide))
  refine pw_getN (pc2 := 8) kX4 (k := 1) (by decide) rfl fl_X9_67 (H.c20 hp) rfl dX9_chosen_5 rfl ?_
  refine pw_getN (pc2 := 11) kX6 (k := 2) (by decide) rfl fl_X9_88 (H.c21 hp) rfl dX9_chosen_8 rfl ?_
  refine pw_astore_n (pc2 := 12) (L2 := [(3, Value.ref (A 22 p)), (0, Value.ref (A 0 0)), (1, Value.int (nI p)), (2, Value.int o)]) dX9_chosen_11 rfl rfl (by decide) (by first | exact rf_ref _ | exact rf_opt _ | exact rf_nul) rfl ?_
  refine pw_aload_n (pc2 := 13) dX9_chosen_12 rfl rfl 1 rfl (by first | exact rf_ref _ | exact rf_opt _ | exact rf_nul) ?_
  refine pw_iload_n (pc2 := 14) dX9_chosen_13 rfl rfl 3 rfl ?_
  refine pw_callV (pc2 := 17) (c_chkP G _ H o) cs_X9_92 rfl rfl H.c0 dX9_chosen_14 rfl (by omega) rfl (by first | decide | simp [cat_rf, Value.category]) (fun r9 h9 q9 => ?_) (fun Y h9 q9 => px_out rfl (Or.inl ⟨q9.2.1, q9.1, fun z => q9.2.2 z.2⟩))
  obtain ⟨rfl, rfl, hin⟩ := q9
  obtain ⟨q, hq, rfl⟩ := inR_ex (by omega) hin
  refine pw_aload_n (pc2 := 18) dX9_chosen_17 rfl rfl 1 rfl (by first | exact rf_ref _ | exact rf_opt _ | exact rf_nul) ?_
  refine pw_get (pc2 := 21) kX9 (k := 3) (by decide) rfl fl_X9_25 H.c0 rfl dX9_chosen_18 rfl ?_
  refine pw_aload_n (pc2 := 22) dX9_chosen_21 rfl rfl 1 rfl (by first | exact rf_ref _ | exact rf_opt _ | exact rf_nul) ?_
  refine pw_get (pc2 := 25) kX9 (k := 0) (by decide) rfl fl_X9_10 H.c0 rfl dX9_chosen_22 rfl ?_
  refine pw_iload_n (pc2 := 26) dX9_chosen_25 rfl rfl 2 rfl ?_
  refine pw_aload_n (pc2 := 27) dX9_chosen_26 rfl rfl 0 rfl (by first | exact rf_ref _ | exact rf_opt _ | exact rf_nul) ?_
  refine pw_callV (pc2 := 30) (c_search G _ H ⟨H.c22 hp, H.c23 hp, H.c24 hp, hne23⟩ (kp := p) (Nat.le_of_lt hp)) cs_X9_120 rfl rfl H.c7 dX9_chosen_27 rfl (by omega) rfl (by first | decide | simp [cat_rf, Value.category]) (fun r9 h9 q9 => ?_) (fun Y h9 q9 => q9.elim)
  cases hs : srch σ.1 σ.2.1 (σ.1 23 p) (σ.1 24 p) p zN with
  | none =>
    obtain ⟨rfl, eh2⟩ := q9.2 hs
    obtain ⟨K1, FK1⟩ := H.wOF FR.rfl' (t := 9) (i := 0) (g := zN) rfl (by decide) (fun j x hx => by cases hx) rfl
    replace K1 : W9 G h9 A (setO σ 9 0 zN) := by rw [eh2]; exact K1
    replace FK1 : FR h h9 := by rw [eh2]; exact FK1
    refine pw_callS (pc2 := 33) (c_reqN G h9) cs_X9_124 rfl dX9_chosen_30 rfl (by omega) rfl (by first | decide | simp [cat_rf, Value.category]) (fun r9 h9 q9 => ?_) (fun Y h9' q9' => px_out rfl (by obtain ⟨rfl, rfl, -⟩ := q9'; exact Or.inr ⟨rfl, p, hp, rfl, inR_of (by omega) hq, hs, _, ⟨zN, z0, zN, (fun j x hx => by cases hx), (fun j x hx => by cases hx), Or.inl rfl⟩, K1, FK1⟩))
    exact q9.elim
  | some g' =>
    obtain ⟨rfl, eh2, hgb⟩ := q9.1 g' hs
    obtain ⟨K1, FK1⟩ := H.wOF FR.rfl' (t := 9) (i := 0) (g := g') rfl (by decide) hgb rfl
    replace K1 : W9 G h9 A (setO σ 9 0 g') := by rw [eh2]; exact K1
    replace FK1 : FR h h9 := by rw [eh2]; exact FK1
    have c9 : h9 (A 9 0) = some (aR tRel 6 (pa A g')) := K1.c9
    refine pw_callS1 (pc2 := 33) (c_reqC G h9 (A 8 0)) cs_X9_124 rfl dX9_chosen_30 rfl (by omega) rfl (by first | decide | simp [cat_rf, Value.category]) ?_
    refine pw_iload_n (pc2 := 34) dX9_chosen_33 rfl rfl 3 rfl ?_
    refine pw_callV1 (pc2 := 37) (c_cver G h9 ⟨K1.c8, c9⟩ (T := TT A (setO σ 9 0 g')) (i := q) (by omega) (fun r hr => K1.pk (g := g') hgb q (by omega) r hr)) cs_X9_128 rfl rfl K1.c8 dX9_chosen_34 rfl (by omega) rfl (by first | decide | simp [cat_rf, Value.category]) ?_
    refine pw_iret dX9_chosen_37 rfl (by first | rfl | assumption | simp [narrow]) ?_
    exact ⟨p, q, g', hp, hq, rfl, rfl, hs, hgb, _, ⟨zN, z0, g', (fun j x hx => by cases hx), hgb, Or.inl rfl⟩, by rw [vG_eq K1 (g := g') hgb (show q < 6 by omega)]; rfl, K1, FK1⟩
set_option maxHeartbeats 4000000 in
set_option maxRecDepth 100000 in
theorem c_chosenBA (G : hG) (h : hp) {A : aT} {σ : sT} (H : W9 G h A σ) (hz : ∀ p, p < npk σ → ∀ j, p ≤ j → j < 6 → σ.1 24 p j = 0) (n o : Int32) : PMet G MX9_chosenByAll 13 3 18 [.ref (A 0 0), .int n, .int o] h (fun r h2 => ∃ p q g', p < npk σ ∧ q < npk σ ∧ n = nI p ∧ o = nI q ∧ srS σ p = some g' ∧ pkB σ g' ∧ ∃ σ2, (∃ gw tk gf, pkB σ gw ∧ pkB σ gf ∧ (σ2 = setO σ 9 0 gf ∨ σ2 = sAl σ gw tk gf)) ∧ QS G h A (.int (vG σ (g' q))) σ2 r h2) (fun C h2 => (h2 = h ∧ C = xIO ∧ ¬ (inR n (npk σ) ∧ inR o (npk σ))) ∨ (C = xUO ∧ ∃ p, p < npk σ ∧ n = nI p ∧ inR o (npk σ) ∧ srS σ p = none ∧ ∃ σ2, (∃ gw tk gf, pkB σ gw ∧ pkB σ gf ∧ (σ2 = setO σ 9 0 gf ∨ σ2 = sAl σ gw tk gf)) ∧ W9 G h2 A σ2 ∧ FR h h2)) := by
  have hnp := H.iv.1
  refine PMet.of (by decide +kernel) (Nat.le_of_ble_eq_true rfl) (fun d hd => ?_)
  refine PW.sub (L2 := [(0, Value.ref (A 0 0)), (1, Value.int n), (2, Value.int o)]) [0, 1, 2] rfl ?_
  refine pw_aload_n (pc2 := 1) dX9_chosenByAll_0 rfl rfl 0 rfl (by first | exact rf_ref _ | exact rf_opt _ | exact rf_nul) ?_
  refine pw_iload_n (pc2 := 2) dX9_chosenByAll_1 rfl rfl 1 rfl ?_
  refine pw_callV (pc2 := 5) (c_pkat G _ H n) cs_X9_63 rfl rfl H.c0 dX9_chosenByAll_2 rfl (by omega) rfl (by first | decide | simp [cat_rf, Value.category]) (fun r9 h9 q9 => ?_) (fun Y h9 q9 => px_out rfl (Or.inl ⟨q9.2.1, q9.1, fun z => q9.2.2 z.1⟩))
  obtain ⟨rfl, p, hp, rfl, rfl⟩ := q9
  have hne23 : A 23 p ≠ A 24 p := H.ne (t := 23) (u := 24) (i := p) (j := p) hp hp (Or.inl (by decide))
  refine pw_getN (pc2 := 8) kX4 (k := 1) (by decide) rfl fl_X9_67 (H.c20 hp) rfl dX9_chosenByAll_5 rfl ?_
  refine pw_getN (pc2 := 11) kX6 (k := 2) (by decide) rfl fl_X9_88 (H.c21 hp) rfl dX9_chosenByAll_8 rfl ?_
  refine pw_astore_n (pc2 := 12) (L2 := [(3, Value.ref (A 22 p)), (0, Value.ref (A 0 0)), (1, Value.int (nI p)), (2, Value.int o)]) dX9_chosenByAll_11 rfl rfl (by decide) (by first | exact rf_ref _ | exact rf_opt _ | exact rf_nul) rfl ?_
  refine pw_aload_n (pc2 := 13) dX9_chosenByAll_12 rfl rfl 1 rfl (by first | exact rf_ref _ | exact rf_opt _ | exact rf_nul) ?_
  refine pw_iload_n (pc2 := 14) dX9_chosenByAll_13 rfl rfl 3 rfl ?_
  refine pw_callV (pc2 := 17) (c_chkP G _ H o) cs_X9_92 rfl rfl H.c0 dX9_chosenByAll_14 rfl (by omega) rfl (by first | decide | simp [cat_rf, Value.category]) (fun r9 h9 q9 => ?_) (fun Y h9 q9 => px_out rfl (Or.inl ⟨q9.2.1, q9.1, fun z => q9.2.2 z.2⟩))
  obtain ⟨rfl, rfl, hin⟩ := q9
  obtain ⟨q, hq, rfl⟩ := inR_ex (by omega) hin
  refine pw_aload_n (pc2 := 18) dX9_chosenByAll_17 rfl rfl 1 rfl (by first | exact rf_ref _ | exact rf_opt _ | exact rf_nul) ?_
  refine pw_get (pc2 := 21) kX9 (k := 3) (by decide) rfl fl_X9_25 H.c0 rfl dX9_chosenByAll_18 rfl ?_
  refine pw_aload_n (pc2 := 22) dX9_chosenByAll_21 rfl rfl 1 rfl (by first | exact rf_ref _ | exact rf_opt _ | exact rf_nul) ?_
  refine pw_get (pc2 := 25) kX9 (k := 0) (by decide) rfl fl_X9_10 H.c0 rfl dX9_chosenByAll_22 rfl ?_
  refine pw_iload_n (pc2 := 26) dX9_chosenByAll_25 rfl rfl 2 rfl ?_
  refine pw_aload_n (pc2 := 27) dX9_chosenByAll_26 rfl rfl 0 rfl (by first | exact rf_ref _ | exact rf_opt _ | exact rf_nul) ?_
  refine pw_callV (pc2 := 30) (c_goall G _ H ⟨H.c22 hp, H.c23 hp, H.c24 hp, hne23⟩ (isN_al H (t := 22) (c := 23) (d := 24) (i := p) ⟨H.c22 hp, H.c23 hp, H.c24 hp, hne23⟩ hp hp (by decide)) (n := p) (Nat.le_of_lt hp) (hz p hp)) cs_X9_134 rfl rfl H.c7 dX9_chosenByAll_27 rfl (by omega) rfl (by first | decide | simp [cat_rf, Value.category]) (fun r9 h9 q9 => ?_) (fun Y h9 q9 => q9.elim)
  obtain ⟨gw, tk, gf, hgw, hgf, eh2, hA1, hA2⟩ := q9
  have K1 : W9 G h9 A (sAl σ gw tk gf) := by rw [eh2]; exact H.al hgw hgf
  have FK1 : FR h h9 := by rw [eh2]; exact ((FR.rfl'.up (H.1 11 0 rfl) CB_nF).up ((va_up_ne _ _ (al_9 H).2.2.symm).trans (H.1 12 0 rfl)) CB_nF).up ((va_up_ne _ _ (al_9 H).2.1.symm).trans ((va_up_ne _ _ (al_9 H).1.symm).trans (H.1 9 0 rfl))) CB_nF
  cases hs : srch σ.1 σ.2.1 (σ.1 23 p) (σ.1 24 p) p zN with
  | none =>
    obtain rfl := hA2 hs
    refine pw_callS (pc2 := 33) (c_reqN G h9) cs_X9_124 rfl dX9_chosenByAll_30 rfl (by omega) rfl (by first | decide | simp [cat_rf, Value.category]) (fun r9 h9 q9 => ?_) (fun Y h9' q9' => px_out rfl (by obtain ⟨rfl, rfl, -⟩ := q9'; exact Or.inr ⟨rfl, p, hp, rfl, inR_of (by omega) hq, hs, _, ⟨gw, tk, gf, hgw, hgf, Or.inr rfl⟩, K1, FK1⟩))
    exact q9.elim
  | some g' =>
    obtain ⟨rfl, rfl⟩ := hA1 g' hs
    have c9 : h9 (A 9 0) = some (aR tRel 6 (pa A gf)) := K1.c9
    refine pw_callS1 (pc2 := 33) (c_reqC G h9 (A 8 0)) cs_X9_124 rfl dX9_chosenByAll_30 rfl (by omega) rfl (by first | decide | simp [cat_rf, Value.category]) ?_
    refine pw_iload_n (pc2 := 34) dX9_chosenByAll_33 rfl rfl 3 rfl ?_
    refine pw_callV1 (pc2 := 37) (c_cver G h9 ⟨K1.c8, c9⟩ (T := TT A (sAl σ gw tk gf)) (i := q) (by omega) (fun r hr => K1.pk (g := gf) hgf q (by omega) r hr)) cs_X9_128 rfl rfl K1.c8 dX9_chosenByAll_34 rfl (by omega) rfl (by first | decide | simp [cat_rf, Value.category]) ?_
    refine pw_iret dX9_chosenByAll_37 rfl (by first | rfl | assumption | simp [narrow]) ?_
    exact ⟨p, q, gf, hp, hq, rfl, rfl, hs, hgf, _, ⟨gw, tk, gf, hgw, hgf, Or.inr rfl⟩, by rw [vG_eq K1 (g := gf) hgf (show q < 6 by omega)]; rfl, K1, FK1⟩
/-- compiling would change nothing -/
def bOk (σ : sT) (p : Nat) (g : Nat → Option Nat) : Prop := bOfP (σ.1 25 p 0) (σ.1 25 p 1) (σ.1 25 p 2) (σ.1 21 p 0) (σ.1 21 p 1) (σ.1 26 p) (nfG σ (σ.1 24 p) g)
theorem bOk_eq {G : hG} {h : hp} {A : aT} {σ : sT} (H : W9 G h A σ) {g : Nat → Option Nat} (hg : pkB σ g) {p : Nat} : bOfP (σ.1 25 p 0) (σ.1 25 p 1) (σ.1 25 p 2) (σ.1 21 p 0) (σ.1 21 p 1) (σ.1 26 p) (nfOf (TT A σ) (σ.1 24 p) (pa A g)) ↔ bOk σ p g := by
  unfold bOk bOfP
  constructor
  · rintro ⟨h1, h2, h3, h4⟩
    exact ⟨h1, h2, h3, fun j hj => (h4 j hj).trans (nfG_eq H hg hj)⟩
  · rintro ⟨h1, h2, h3, h4⟩
    exact ⟨h1, h2, h3, fun j hj => (h4 j hj).trans (nfG_eq H hg hj).symm⟩
/-- what compiling leaves -/
def cmS (σ : sT) (p : Nat) (g : Nat → Option Nat) : sT := setI (setI (setI (setO σ 9 0 g) 25 p (upd (upd (upd (σ.1 25 p) 0 1) 1 (σ.1 21 p 0)) 2 (σ.1 21 p 1))) 26 p (nfG σ (σ.1 24 p) g)) 0 0 (upd (σ.1 0 0) 1 (σ.1 0 0 1 + 1))
set_option maxHeartbeats 4000000 in
set_option maxRecDepth 100000 in
theorem c_compile (G : hG) (h : hp) {A : aT} {σ : sT} (H : W9 G h A σ) (n : Int32) : PMet G MX9_compile 13 2 12 [.ref (A 0 0), .int n] h (fun r h2 => ∃ p g', p < npk σ ∧ n = nI p ∧ srS σ p = some g' ∧ pkB σ g' ∧ ((bOk σ p g' ∧ QS G h A (.int 0) (setO σ 9 0 g') r h2) ∨ (¬ bOk σ p g' ∧ QS G h A (.int 1) (cmS σ p g') r h2))) (fun C h2 => (h2 = h ∧ C = xIO ∧ ¬ inR n (npk σ)) ∨ (C = xUO ∧ ∃ p, p < npk σ ∧ n = nI p ∧ srS σ p = none ∧ W9 G h2 A (setO σ 9 0 zN) ∧ FR h h2)) := by
  have hnp := H.iv.1
  refine PMet.of (by decide +kernel) (Nat.le_of_ble_eq_true rfl) (fun d hd => ?_)
  refine PW.sub (L2 := [(0, Value.ref (A 0 0)), (1, Value.int n)]) [0, 1] rfl ?_
  refine pw_aload_n (pc2 := 1) dX9_compile_0 rfl rfl 0 rfl (by first | exact rf_ref _ | exact rf_opt _ | exact rf_nul) ?_
  refine pw_iload_n (pc2 := 2) dX9_compile_1 rfl rfl 1 rfl ?_
  refine pw_callV (pc2 := 5) (c_pkat G _ H n) cs_X9_63 rfl rfl H.c0 dX9_compile_2 rfl (by omega) rfl (by first | decide | simp [cat_rf, Value.category]) (fun r9 h9 q9 => ?_) (fun Y h9 q9 => px_out rfl (Or.inl ⟨q9.2.1, q9.1, q9.2.2⟩))
  obtain ⟨rfl, p, hp, rfl, rfl⟩ := q9
  have hne23 : A 23 p ≠ A 24 p := H.ne (t := 23) (u := 24) (i := p) (j := p) hp hp (Or.inl (by decide))
  refine pw_astore_n (pc2 := 6) (L2 := [(2, Value.ref (A 20 p)), (0, Value.ref (A 0 0)), (1, Value.int (nI p))]) dX9_compile_5 rfl rfl (by decide) (by first | exact rf_ref _ | exact rf_opt _ | exact rf_nul) rfl ?_
  refine pw_aload_n (pc2 := 7) dX9_compile_6 rfl rfl 1 rfl (by first | exact rf_ref _ | exact rf_opt _ | exact rf_nul) ?_
  refine pw_get (pc2 := 10) kX9 (k := 3) (by decide) rfl fl_X9_25 H.c0 rfl dX9_compile_7 rfl ?_
  refine pw_aload_n (pc2 := 11) dX9_compile_10 rfl rfl 1 rfl (by first | exact rf_ref _ | exact rf_opt _ | exact rf_nul) ?_
  refine pw_get (pc2 := 14) kX9 (k := 0) (by decide) rfl fl_X9_10 H.c0 rfl dX9_compile_11 rfl ?_
  refine pw_iload_n (pc2 := 15) dX9_compile_14 rfl rfl 2 rfl ?_
  refine pw_aload_n (pc2 := 16) dX9_compile_15 rfl rfl 0 rfl (by first | exact rf_ref _ | exact rf_opt _ | exact rf_nul) ?_
  refine pw_getN (pc2 := 19) kX4 (k := 1) (by decide) rfl fl_X9_67 (H.c20 hp) rfl dX9_compile_16 rfl ?_
  refine pw_getN (pc2 := 22) kX6 (k := 2) (by decide) rfl fl_X9_88 (H.c21 hp) rfl dX9_compile_19 rfl ?_
  refine pw_callV (pc2 := 25) (c_search G _ H ⟨H.c22 hp, H.c23 hp, H.c24 hp, hne23⟩ (kp := p) (Nat.le_of_lt hp)) cs_X9_120 rfl rfl H.c7 dX9_compile_22 rfl (by omega) rfl (by first | decide | simp [cat_rf, Value.category]) (fun r9 h9 q9 => ?_) (fun Y h9 q9 => q9.elim)
  cases hs : srch σ.1 σ.2.1 (σ.1 23 p) (σ.1 24 p) p zN with
  | none =>
    obtain ⟨rfl, eh2⟩ := q9.2 hs
    obtain ⟨K1, FK1⟩ := H.wOF FR.rfl' (t := 9) (i := 0) (g := zN) rfl (by decide) (fun j x hx => by cases hx) rfl
    replace K1 : W9 G h9 A (setO σ 9 0 zN) := by rw [eh2]; exact K1
    replace FK1 : FR h h9 := by rw [eh2]; exact FK1
    refine pw_callS (pc2 := 28) (c_reqN G h9) cs_X9_124 rfl dX9_compile_25 rfl (by omega) rfl (by first | decide | simp [cat_rf, Value.category]) (fun r9 h9 q9 => ?_) (fun Y h9' q9' => px_out rfl (by obtain ⟨rfl, rfl, -⟩ := q9'; exact Or.inr ⟨rfl, p, hp, rfl, hs, K1, FK1⟩))
    exact q9.elim
  | some g' =>
    obtain ⟨rfl, eh2, hgb⟩ := q9.1 g' hs
    obtain ⟨K1, FK1⟩ := H.wOF FR.rfl' (t := 9) (i := 0) (g := g') rfl (by decide) hgb rfl
    replace K1 : W9 G h9 A (setO σ 9 0 g') := by rw [eh2]; exact K1
    replace FK1 : FR h h9 := by rw [eh2]; exact FK1
    have c9 : h9 (A 9 0) = some (aR tRel 6 (pa A g')) := K1.c9
    refine pw_callS1 (pc2 := 28) (c_reqC G h9 (A 8 0)) cs_X9_124 rfl dX9_compile_25 rfl (by omega) rfl (by first | decide | simp [cat_rf, Value.category]) ?_
    refine pw_astore_n (pc2 := 29) (L2 := [(3, Value.ref (A 8 0)), (2, Value.ref (A 20 p)), (0, Value.ref (A 0 0)), (1, Value.int (nI p))]) dX9_compile_28 rfl rfl (by decide) (by first | exact rf_ref _ | exact rf_opt _ | exact rf_nul) rfl ?_
    refine pw_aload_n (pc2 := 30) dX9_compile_29 rfl rfl 1 rfl (by first | exact rf_ref _ | exact rf_opt _ | exact rf_nul) ?_
    refine pw_getN (pc2 := 33) kX4 (k := 2) (by decide) rfl fl_X9_137 (K1.c20 hp) rfl dX9_compile_30 rfl ?_
    refine pw_aload_n (pc2 := 34) dX9_compile_33 rfl rfl 1 rfl (by first | exact rf_ref _ | exact rf_opt _ | exact rf_nul) ?_
    refine pw_getN (pc2 := 37) kX4 (k := 1) (by decide) rfl fl_X9_67 (K1.c20 hp) rfl dX9_compile_34 rfl ?_
    refine pw_aload_n (pc2 := 38) dX9_compile_37 rfl rfl 0 rfl (by first | exact rf_ref _ | exact rf_opt _ | exact rf_nul) ?_
    refine pw_callVb (pc2 := 41) (c_bisof G h9 ⟨K1.c25 hp, K1.c26 hp⟩ ⟨K1.c21 hp, K1.c22 hp, K1.c23 hp, K1.c24 hp, K1.ne (t := 23) (u := 24) (i := p) (j := p) hp hp (Or.inl (by decide))⟩ ⟨K1.c8, c9⟩ (K1.pk (g := g') hgb)) cs_X9_141 rfl rfl (K1.c25 hp) dX9_compile_38 rfl (by omega) rfl (by first | decide | simp [cat_rf, Value.category]) (fun q38 => ?_) (fun q38 => ?_)
    · refine pw_if_eq (tgt := 46) (pc2 := 44) dX9_compile_41 (by decide) rfl (fun c41 => by exact absurd c41 (by decide)) (fun _ => ?_)
      refine pw_iconst (pc2 := 45) (v := 0) dX9_compile_44 rfl (by decide) ?_
      refine pw_iret dX9_compile_45 rfl (by first | rfl | assumption | simp [narrow]) ?_
      exact ⟨p, g', hp, rfl, hs, hgb, Or.inl ⟨(bOk_eq K1 (g := g') hgb).mp q38, rfl, K1, FK1⟩⟩
    · refine pw_if_eq (tgt := 46) (pc2 := 44) dX9_compile_41 (by decide) rfl (fun _ => ?_) (fun c41 => by exact absurd (by decide) c41)
      refine pw_aload_n (pc2 := 47) dX9_compile_46 rfl rfl 1 rfl (by first | exact rf_ref _ | exact rf_opt _ | exact rf_nul) ?_
      refine pw_getN (pc2 := 50) kX4 (k := 2) (by decide) rfl fl_X9_137 (K1.c20 hp) rfl dX9_compile_47 rfl ?_
      refine pw_aload_n (pc2 := 51) dX9_compile_50 rfl rfl 1 rfl (by first | exact rf_ref _ | exact rf_opt _ | exact rf_nul) ?_
      refine pw_getN (pc2 := 54) kX4 (k := 1) (by decide) rfl fl_X9_67 (K1.c20 hp) rfl dX9_compile_51 rfl ?_
      refine pw_aload_n (pc2 := 55) dX9_compile_54 rfl rfl 0 rfl (by first | exact rf_ref _ | exact rf_opt _ | exact rf_nul) ?_
      refine pw_callV0 (pc2 := 58) (c_bremember G h9 ⟨K1.c25 hp, K1.c26 hp⟩ ⟨K1.c21 hp, K1.c22 hp, K1.c23 hp, K1.c24 hp, K1.ne (t := 23) (u := 24) (i := p) (j := p) hp hp (Or.inl (by decide))⟩ ⟨K1.c8, c9⟩ (K1.pk (g := g') hgb) (K1.ne (t := 23) (i := p) (u := 26) (j := p) hp hp (Or.inl (by decide))) (K1.ne (t := 24) (i := p) (u := 26) (j := p) hp hp (Or.inl (by decide)))) cs_X9_147 rfl rfl (K1.c25 hp) dX9_compile_55 rfl (by omega) rfl (by first | decide | simp [cat_rf, Value.category]) ?_
      skip
      refine pw_extI (a := A 26 p) (n := 6) (g := nfG σ (σ.1 24 p) g') (va_up_self _ _ _) (by decide) (fun j hj => nfG_eq K1 (g := g') hgb hj) ?_
      obtain ⟨J1, FJ1⟩ := K1.wIF (FK1) (t := 25) (i := p) (f := (upd (upd (upd (σ.1 25 p) 0 1) 1 (σ.1 21 p 0)) 2 (σ.1 21 p 1))) hp (by decide) (iv_I K1.iv (fun _ => Or.inr rfl) (fun q => absurd q (by decide)) (fun q => absurd q (by decide))) rfl
      obtain ⟨J2, FJ2⟩ := J1.wIF (FJ1) (t := 26) (i := p) (f := (nfG σ (σ.1 24 p) g')) hp (by decide) (iv_setI J1.iv (by decide)) rfl
      refine PW.heap (h' := va_up (va_up h9 (A 25 p) (some (oB 3 [.int 1, .int (σ.1 21 p 0), .int (σ.1 21 p 1), .ref (A 26 p)]))) (A 26 p) (some (aI 6 (nfG σ (σ.1 24 p) g')))) (up_up _ _ _ _) ?_
      obtain ⟨h3, eh3⟩ : ∃ z : Nat → Option hE, z = va_up (va_up h9 (A 25 p) (some (oB 3 [.int 1, .int (σ.1 21 p 0), .int (σ.1 21 p 1), .ref (A 26 p)]))) (A 26 p) (some (aI 6 (nfG σ (σ.1 24 p) g'))) := ⟨_, rfl⟩
      refine PW.heap (h' := h3) eh3.symm ?_
      replace J2 : W9 G h3 A (setI (setI (setO σ 9 0 g') 25 p (upd (upd (upd (σ.1 25 p) 0 1) 1 (σ.1 21 p 0)) 2 (σ.1 21 p 1))) 26 p (nfG σ (σ.1 24 p) g')) := by rw [eh3]; exact J2
      replace FJ2 : FR h h3 := by rw [eh3]; exact FJ2
      have c0 : h3 (A 0 0) = some (oB 12 [.ref (A 1 0), .ref (A 3 0), .ref (A 5 0), .ref (A 7 0), .ref (A 13 0), .ref (A 14 0), .int (σ.1 0 0 0), .int (σ.1 0 0 1), .int (σ.1 0 0 2), .int (σ.1 0 0 3)]) := J2.c0
      refine pw_aload_n (pc2 := 59) dX9_compile_58 rfl rfl 2 rfl (by first | exact rf_ref _ | exact rf_opt _ | exact rf_nul) ?_
      refine pw_dup (pc2 := 60) dX9_compile_59 rfl (by first | rfl | exact cat_rf _) ?_
      refine pw_get (pc2 := 63) kX9 (k := 7) (by decide) rfl fl_X9_151 c0 rfl dX9_compile_60 rfl ?_
      refine pw_iconst (pc2 := 64) (v := 1) dX9_compile_63 rfl (by decide) ?_
      refine pw_iadd (pc2 := 65) dX9_compile_64 rfl ?_
      refine pw_put (pc2 := 68) kX9 (k := 7) (by decide) rfl rfl fl_X9_151 c0 (by first | decide | simp) (by first | rfl | exact nar_rf _ _) (by first | rfl | exact fit_rf _ _) dX9_compile_65 rfl ?_
      refine pw_iconst (pc2 := 69) (v := 1) dX9_compile_68 rfl (by decide) ?_
      refine pw_iret dX9_compile_69 rfl (by first | rfl | assumption | simp [narrow]) ?_
      obtain ⟨M1, FM1⟩ := J2.wIF (FJ2) (t := 0) (i := 0) (f := (upd (σ.1 0 0) 1 (σ.1 0 0 1 + 1))) rfl (by decide) (iv_setI J2.iv (by decide)) rfl
      exact ⟨p, g', hp, rfl, hs, hgb, Or.inr ⟨fun z => q38 ((bOk_eq K1 (g := g') hgb).mpr z), rfl, M1, FM1⟩⟩
