/-! PackageForge: test -/
/-- what a test run leaves: paid, run, remembered -/
def pyS (σ : sT) (o : Nat) (cs : Int32) (g : Nat → Option Nat) : sT := setI (setI (setO σ 9 0 g) 13 0 (upd (σ.1 13 0) o (σ.1 13 0 o - cs))) 0 0 (upd (σ.1 0 0) 3 (σ.1 0 0 3 + cs))
def trS (σ : sT) (p : Nat) (x : Int32) (g : Nat → Option Nat) (σ0 : sT) : sT := setO (setI (setI (setI (setI σ 27 p (upd (σ.1 27 p) 0 x)) 28 p (upd (upd (σ.1 28 p) 0 (σ0.1 21 p 0)) 1 (σ0.1 21 p 1))) 30 p (σ0.1 23 p)) 31 p (σ0.1 24 p)) 33 p g
def teS (σ : sT) (p o : Nat) (g : Nat → Option Nat) : sT := trS (rTs (pyS σ o (cstN σ.1 (nI p) (nts σ)) g) (nI p) (nts σ)) p (if flnN σ.1 (nI p) (nts σ) = 0 then 1 else 0) g σ
theorem cst_cg {I J : Nat → Nat → Nat → Int32} (e : ∀ t, J 50 t = I 50 t) (n : Int32) : ∀ t, cstN J n t = cstN I n t
  | 0 => rfl
  | t + 1 => by unfold cstN; rw [cst_cg e n t, e t]
theorem fln_cg {I J : Nat → Nat → Nat → Int32} (e : ∀ t, J 50 t = I 50 t) (n : Int32) : ∀ t, flnN J n t = flnN I n t
  | 0 => rfl
  | t + 1 => by unfold flnN; rw [fln_cg e n t, e t]
set_option maxHeartbeats 4000000 in
set_option maxRecDepth 100000 in
theorem c_test (G : hG) (h : hp) {A : aT} {σ : sT} (H : W9 G h A σ) (hown : ∀ p, p < npk σ → ∃ o, o < 3 ∧ σ.1 20 p 0 = nI o) (hcn : ∀ t, t < nts σ → ∃ c, c ≤ 8 ∧ σ.1 50 t 3 = nI c) (n : Int32) : PMet G MX9_test 13 3 18 [.ref (A 0 0), .int n] h (fun r h2 => ∃ p o g', p < npk σ ∧ n = nI p ∧ σ.1 20 p 0 = nI o ∧ o < 3 ∧ srS σ p = some g' ∧ pkB σ g' ∧ bOk σ p g' ∧ ¬ σ.1 13 0 o < cstN σ.1 (nI p) (nts σ) ∧ QS G h A (.int (flnN σ.1 (nI p) (nts σ))) (teS σ p o g') r h2) (fun C h2 => (h2 = h ∧ C = xIO ∧ ¬ inR n (npk σ)) ∨ (C = xUO ∧ ∃ p, p < npk σ ∧ n = nI p ∧ srS σ p = none ∧ W9 G h2 A (setO σ 9 0 zN) ∧ FR h h2) ∨ (C = xIS ∧ ∃ p o g', p < npk σ ∧ n = nI p ∧ σ.1 20 p 0 = nI o ∧ o < 3 ∧ srS σ p = some g' ∧ pkB σ g' ∧ (¬ bOk σ p g' ∨ σ.1 13 0 o < cstN σ.1 (nI p) (nts σ)) ∧ W9 G h2 A (setO σ 9 0 g') ∧ FR h h2)) := by
  have hnp := H.iv.1
  refine PMet.of (by decide +kernel) (Nat.le_of_ble_eq_true rfl) (fun d hd => ?_)
  refine PW.sub (L2 := [(0, Value.ref (A 0 0)), (1, Value.int n)]) [0, 1] rfl ?_
  refine pw_aload_n (pc2 := 1) dX9_test_0 rfl rfl 0 rfl (by first | exact rf_ref _ | exact rf_opt _ | exact rf_nul) ?_
  refine pw_iload_n (pc2 := 2) dX9_test_1 rfl rfl 1 rfl ?_
  refine pw_callV (pc2 := 5) (c_pkat G _ H n) cs_X9_63 rfl rfl H.c0 dX9_test_2 rfl (by omega) rfl (by first | decide | simp [cat_rf, Value.category]) (fun r9 h9 q9 => ?_) (fun Y h9 q9 => px_out rfl (Or.inl ⟨q9.2.1, q9.1, q9.2.2⟩))
  obtain ⟨rfl, p, hp, rfl, rfl⟩ := q9
  have hne23 : A 23 p ≠ A 24 p := H.ne (t := 23) (u := 24) (i := p) (j := p) hp hp (Or.inl (by decide))
  obtain ⟨o, ho3, hoo⟩ := hown p hp
  refine pw_astore_n (pc2 := 6) (L2 := [(2, Value.ref (A 20 p)), (0, Value.ref (A 0 0)), (1, Value.int (nI p))]) dX9_test_5 rfl rfl (by decide) (by first | exact rf_ref _ | exact rf_opt _ | exact rf_nul) rfl ?_
  refine pw_aload_n (pc2 := 7) dX9_test_6 rfl rfl 1 rfl (by first | exact rf_ref _ | exact rf_opt _ | exact rf_nul) ?_
  refine pw_get (pc2 := 10) kX9 (k := 3) (by decide) rfl fl_X9_25 H.c0 rfl dX9_test_7 rfl ?_
  refine pw_aload_n (pc2 := 11) dX9_test_10 rfl rfl 1 rfl (by first | exact rf_ref _ | exact rf_opt _ | exact rf_nul) ?_
  refine pw_get (pc2 := 14) kX9 (k := 0) (by decide) rfl fl_X9_10 H.c0 rfl dX9_test_11 rfl ?_
  refine pw_iload_n (pc2 := 15) dX9_test_14 rfl rfl 2 rfl ?_
  refine pw_aload_n (pc2 := 16) dX9_test_15 rfl rfl 0 rfl (by first | exact rf_ref _ | exact rf_opt _ | exact rf_nul) ?_
  refine pw_getN (pc2 := 19) kX4 (k := 1) (by decide) rfl fl_X9_67 (H.c20 hp) rfl dX9_test_16 rfl ?_
  refine pw_getN (pc2 := 22) kX6 (k := 2) (by decide) rfl fl_X9_88 (H.c21 hp) rfl dX9_test_19 rfl ?_
  refine pw_callV (pc2 := 25) (c_search G _ H ⟨H.c22 hp, H.c23 hp, H.c24 hp, hne23⟩ (kp := p) (Nat.le_of_lt hp)) cs_X9_120 rfl rfl H.c7 dX9_test_22 rfl (by omega) rfl (by first | decide | simp [cat_rf, Value.category]) (fun r9 h9 q9 => ?_) (fun Y h9 q9 => q9.elim)
  cases hs : srch σ.1 σ.2.1 (σ.1 23 p) (σ.1 24 p) p zN with
  | none =>
    obtain ⟨rfl, eh2⟩ := q9.2 hs
    obtain ⟨K1, FK1⟩ := H.wOF FR.rfl' (t := 9) (i := 0) (g := zN) rfl (by decide) (fun j x hx => by cases hx) rfl
    replace K1 : W9 G h9 A (setO σ 9 0 zN) := by rw [eh2]; exact K1
    replace FK1 : FR h h9 := by rw [eh2]; exact FK1
    refine pw_callS (pc2 := 28) (c_reqN G h9) cs_X9_124 rfl dX9_test_25 rfl (by omega) rfl (by first | decide | simp [cat_rf, Value.category]) (fun r9 h9 q9 => ?_) (fun Y h9' q9' => px_out rfl (by obtain ⟨rfl, rfl, -⟩ := q9'; exact Or.inr (Or.inl ⟨rfl, p, hp, rfl, hs, K1, FK1⟩)))
    exact q9.elim
  | some g' =>
    obtain ⟨rfl, eh2, hgb⟩ := q9.1 g' hs
    obtain ⟨K1, FK1⟩ := H.wOF FR.rfl' (t := 9) (i := 0) (g := g') rfl (by decide) hgb rfl
    replace K1 : W9 G h9 A (setO σ 9 0 g') := by rw [eh2]; exact K1
    replace FK1 : FR h h9 := by rw [eh2]; exact FK1
    have c9 : h9 (A 9 0) = some (aR tRel 6 (pa A g')) := K1.c9
    refine pw_callS1 (pc2 := 28) (c_reqC G h9 (A 8 0)) cs_X9_124 rfl dX9_test_25 rfl (by omega) rfl (by first | decide | simp [cat_rf, Value.category]) ?_
    refine pw_astore_n (pc2 := 29) (L2 := [(3, Value.ref (A 8 0)), (2, Value.ref (A 20 p)), (0, Value.ref (A 0 0)), (1, Value.int (nI p))]) dX9_test_28 rfl rfl (by decide) (by first | exact rf_ref _ | exact rf_opt _ | exact rf_nul) rfl ?_
    refine pw_aload_n (pc2 := 30) dX9_test_29 rfl rfl 1 rfl (by first | exact rf_ref _ | exact rf_opt _ | exact rf_nul) ?_
    refine pw_getN (pc2 := 33) kX4 (k := 2) (by decide) rfl fl_X9_137 (K1.c20 hp) rfl dX9_test_30 rfl ?_
    refine pw_aload_n (pc2 := 34) dX9_test_33 rfl rfl 1 rfl (by first | exact rf_ref _ | exact rf_opt _ | exact rf_nul) ?_
    refine pw_getN (pc2 := 37) kX4 (k := 1) (by decide) rfl fl_X9_67 (K1.c20 hp) rfl dX9_test_34 rfl ?_
    refine pw_aload_n (pc2 := 38) dX9_test_37 rfl rfl 0 rfl (by first | exact rf_ref _ | exact rf_opt _ | exact rf_nul) ?_
    refine pw_callVb (pc2 := 41) (c_bisof G h9 ⟨K1.c25 hp, K1.c26 hp⟩ ⟨K1.c21 hp, K1.c22 hp, K1.c23 hp, K1.c24 hp, K1.ne (t := 23) (u := 24) (i := p) (j := p) hp hp (Or.inl (by decide))⟩ ⟨K1.c8, c9⟩ (K1.pk (g := g') hgb)) cs_X9_141 rfl rfl (K1.c25 hp) dX9_test_38 rfl (by omega) rfl (by first | decide | simp [cat_rf, Value.category]) (fun q38 => ?_) (fun q38 => ?_)
    · refine pw_if_ne (tgt := 54) (pc2 := 44) dX9_test_41 (by decide) rfl (fun _ => ?_) (fun c41 => by exact absurd c41 (by decide))
      have hbok := (bOk_eq K1 (g := g') hgb).mp q38
      refine pw_aload_n (pc2 := 55) dX9_test_54 rfl rfl 2 rfl (by first | exact rf_ref _ | exact rf_opt _ | exact rf_nul) ?_
      refine pw_aload_n (pc2 := 56) dX9_test_55 rfl rfl 1 rfl (by first | exact rf_ref _ | exact rf_opt _ | exact rf_nul) ?_
      refine pw_getN (pc2 := 59) kX4 (k := 0) (by decide) rfl fl_X9_202 (K1.c20 hp) rfl dX9_test_56 rfl ?_
      refine pw_topE (show σ.1 20 p 0 = nI o from hoo) ?_
      refine pw_aload_n (pc2 := 60) dX9_test_59 rfl rfl 2 rfl (by first | exact rf_ref _ | exact rf_opt _ | exact rf_nul) ?_
      refine pw_iload_n (pc2 := 61) dX9_test_60 rfl rfl 3 rfl ?_
      refine pw_callV1 (pc2 := 64) (c_cost G h9 K1 (nI p)) cs_X9_205 rfl rfl K1.c0 dX9_test_61 rfl (by omega) rfl (by first | decide | simp [cat_rf, Value.category]) ?_
      refine pw_callV (pc2 := 67) (c_pay G h9 K1 (o := o) ho3 (cstN σ.1 (nI p) (nts σ))) cs_X9_208 rfl rfl K1.c0 dX9_test_64 rfl (by omega) rfl (by first | decide | simp [cat_rf, Value.category]) (fun r9 h8 q9 => ?_) (fun Y h9 q9 => q9.elim)
      rcases q9 with ⟨rfl, hpay, eh3⟩ | ⟨rfl, hpay, rfl⟩
      · replace hpay : ¬ σ.1 13 0 o < (cstN σ.1 (nI p) (nts σ)) := hpay
        obtain ⟨P1, FP1⟩ := K1.wIF (FK1) (t := 13) (i := 0) (f := (upd (σ.1 13 0) o (σ.1 13 0 o - (cstN σ.1 (nI p) (nts σ))))) rfl (by decide) (iv_setI K1.iv (by decide)) rfl
        obtain ⟨P2, FP2⟩ := P1.wIF (FP1) (t := 0) (i := 0) (f := (upd (σ.1 0 0) 3 (σ.1 0 0 3 + (cstN σ.1 (nI p) (nts σ))))) rfl (by decide) (iv_setI P1.iv (by decide)) rfl
        replace P2 : W9 G h8 A (pyS σ o (cstN σ.1 (nI p) (nts σ)) g') := by rw [eh3]; exact P2
        replace FP2 : FR h h8 := by rw [eh3]; exact FP2
        refine pw_if_ne (tgt := 80) (pc2 := 70) dX9_test_67 (by decide) rfl (fun _ => ?_) (fun c67 => by exact absurd c67 (by decide))
        refine pw_aload_n (pc2 := 81) dX9_test_80 rfl rfl 2 rfl (by first | exact rf_ref _ | exact rf_opt _ | exact rf_nul) ?_
        refine pw_iload_n (pc2 := 82) dX9_test_81 rfl rfl 3 rfl ?_
        refine pw_callV (pc2 := 85) (c_runT G h8 P2 (fun t ht => hcn t ht) (nI p)) cs_X9_214 rfl rfl P2.c0 dX9_test_82 rfl (by omega) rfl (by first | decide | simp [cat_rf, Value.category]) (fun r9 h9 q9 => ?_) (fun Y h9 q9 => q9.elim)
        obtain ⟨rfl, R1, FR1⟩ := q9
        have efl : flnN (pyS σ o (cstN σ.1 (nI p) (nts σ)) g').1 (nI p) (nts (pyS σ o (cstN σ.1 (nI p) (nts σ)) g')) = flnN σ.1 (nI p) (nts σ) := fln_cg (show ∀ t, (pyS σ o (cstN σ.1 (nI p) (nts σ)) g').1 50 t = σ.1 50 t from fun t => (setI_n (σ := setI (setO σ 9 0 g') 13 0 (upd (σ.1 13 0) o (σ.1 13 0 o - (cstN σ.1 (nI p) (nts σ))))) (Or.inl (by decide))).trans (setI_n (σ := setO σ 9 0 g') (Or.inl (by decide)))) _ _
        have ent : nts (pyS σ o (cstN σ.1 (nI p) (nts σ)) g') = nts σ := rfl
        rw [ent] at R1 efl
        have FR2 := FP2.tr FR1
        have hp7 : p < npk (rTs (pyS σ o (cstN σ.1 (nI p) (nts σ)) g') (nI p) (nts σ)) := by unfold npk; rw [rTs_2]; exact hp
        have e20 : ∀ u j, u ≠ 0 ∧ u ≠ 50 ∧ u ≠ 51 → (rTs (pyS σ o (cstN σ.1 (nI p) (nts σ)) g') (nI p) (nts σ)).1 u j = (pyS σ o (cstN σ.1 (nI p) (nts σ)) g').1 u j := fun u j hu => rTs_o _ _ hu _
        have e9 : (rTs (pyS σ o (cstN σ.1 (nI p) (nts σ)) g') (nI p) (nts σ)).2 = (pyS σ o (cstN σ.1 (nI p) (nts σ)) g').2 := rTs_2 _ _ _
        have c20 := R1.c20 hp7
        have c21 := R1.c21 hp7
        rw [show (rTs (pyS σ o (cstN σ.1 (nI p) (nts σ)) g') (nI p) (nts σ)).1 21 p = σ.1 21 p from e20 21 p (by decide)] at c21
        have c23 := R1.c23 hp7
        rw [show (rTs (pyS σ o (cstN σ.1 (nI p) (nts σ)) g') (nI p) (nts σ)).1 23 p = σ.1 23 p from e20 23 p (by decide)] at c23
        have c24 := R1.c24 hp7
        rw [show (rTs (pyS σ o (cstN σ.1 (nI p) (nts σ)) g') (nI p) (nts σ)).1 24 p = σ.1 24 p from e20 24 p (by decide)] at c24
        have c9r := R1.c9
        rw [show (rTs (pyS σ o (cstN σ.1 (nI p) (nts σ)) g') (nI p) (nts σ)).2.2 9 0 = g' from by rw [e9]; rfl] at c9r
        have pk7 : pkB (rTs (pyS σ o (cstN σ.1 (nI p) (nts σ)) g') (nI p) (nts σ)) g' := by unfold pkB nrl; rw [e9]; exact hgb
        refine pw_topE efl ?_
        refine pw_topi (fun v1 ev1 => ?_)
        refine pw_istore (pc2 := 87) (L2 := [(4, Value.int v1), (3, Value.ref (A 8 0)), (2, Value.ref (A 20 p)), (0, Value.ref (A 0 0)), (1, Value.int (nI p))]) dX9_test_85 rfl (by decide) rfl ?_
        refine pw_aload_n (pc2 := 88) dX9_test_87 rfl rfl 2 rfl (by first | exact rf_ref _ | exact rf_opt _ | exact rf_nul) ?_
        refine pw_getN (pc2 := 91) kX4 (k := 3) (by decide) rfl fl_X9_217 c20 rfl dX9_test_88 rfl ?_
        refine pw_iload (pc2 := 93) dX9_test_91 rfl 0 rfl ?_
        refine pw_if_ne (tgt := 100) (pc2 := 96) dX9_test_93 (by decide) rfl (fun c93 => ?_) (fun c93 => ?_)
        · refine pw_iconst (pc2 := 101) (v := 0) dX9_test_100 rfl (by decide) ?_
          refine pw_aload_n (pc2 := 102) dX9_test_101 rfl rfl 2 rfl (by first | exact rf_ref _ | exact rf_opt _ | exact rf_nul) ?_
          refine pw_getN (pc2 := 105) kX4 (k := 1) (by decide) rfl fl_X9_67 c20 rfl dX9_test_102 rfl ?_
          refine pw_aload_n (pc2 := 106) dX9_test_105 rfl rfl 1 rfl (by first | exact rf_ref _ | exact rf_opt _ | exact rf_nul) ?_
          refine pw_callV0 (pc2 := 109) (c_tremember G h9 (t := A 27 p) (s := A 28 p) (nd := A 29 p) (a := A 30 p) (b := A 31 p) (c := A 32 p) (p := A 33 p) ⟨R1.c27 hp7, ⟨R1.c28 hp7, R1.c29 hp7, R1.c30 hp7, R1.c31 hp7, (R1.ne (t := 30) (u := 31) (i := p) (j := p) hp7 hp7 (Or.inl (by decide)))⟩, R1.c32 hp7, R1.c33 hp7⟩ (x := 0) (Or.inl rfl) ⟨c21, R1.c22 hp7, c23, c24, (R1.ne (t := 23) (u := 24) (i := p) (j := p) hp7 hp7 (Or.inl (by decide)))⟩ ⟨R1.c8, c9r⟩ (R1.ne (t := 23) (u := 30) (i := p) (j := p) hp7 hp7 (Or.inl (by decide))) (R1.ne (t := 23) (u := 31) (i := p) (j := p) hp7 hp7 (Or.inl (by decide))) (R1.ne (t := 24) (u := 30) (i := p) (j := p) hp7 hp7 (Or.inl (by decide))) (R1.ne (t := 24) (u := 31) (i := p) (j := p) hp7 hp7 (Or.inl (by decide))) (R1.ne (t := 21) (u := 28) (i := p) (j := p) hp7 hp7 (Or.inl (by decide))) (R1.ne (t := 9) (i := 0) (u := 33) (j := p) rfl hp7 (Or.inl (by decide))) (R1.pk (g := g') pk7)) cs_X9_221 rfl rfl (R1.c27 hp7) dX9_test_106 rfl (by omega) rfl (by first | decide | simp [cat_rf, Value.category]) ?_
          refine pw_iload (pc2 := 111) dX9_test_109 rfl 0 rfl ?_
          refine pw_iret dX9_test_111 rfl (by first | rfl | assumption | simp [narrow]) ?_
          obtain ⟨T1, FT1⟩ := R1.wIF (FR2) (t := 27) (i := p) (f := (upd ((rTs (pyS σ o (cstN σ.1 (nI p) (nts σ)) g') (nI p) (nts σ)).1 27 p) 0 0)) hp7 (by decide) (iv_I R1.iv (fun _ => Or.inl rfl) (fun q => absurd q (by decide)) (fun q => absurd q (by decide))) rfl
          obtain ⟨T2, FT2⟩ := T1.wIF (FT1) (t := 28) (i := p) (f := (upd (upd ((rTs (pyS σ o (cstN σ.1 (nI p) (nts σ)) g') (nI p) (nts σ)).1 28 p) 0 (σ.1 21 p 0)) 1 (σ.1 21 p 1))) hp7 (by decide) (iv_setI T1.iv (by decide)) rfl
          obtain ⟨T3, FT3⟩ := T2.wIF (FT2) (t := 30) (i := p) (f := (σ.1 23 p)) hp7 (by decide) (iv_setI T2.iv (by decide)) rfl
          obtain ⟨T4, FT4⟩ := T3.wIF (FT3) (t := 31) (i := p) (f := (σ.1 24 p)) hp7 (by decide) (iv_setI T3.iv (by decide)) rfl
          obtain ⟨T5, FT5⟩ := T4.wOF (FT4) (t := 33) (i := p) (g := g') hp7 (by decide) pk7 rfl
          have ex : (if flnN σ.1 (nI p) (nts σ) = 0 then (1 : Int32) else 0) = 0 := by exact if_neg (fun z => c93 (ev1.trans z))
          exact ⟨p, o, g', hp, rfl, hoo, ho3, hs, hgb, hbok, hpay, by rw [ev1], by unfold teS; rw [ex]; exact T5, FT5⟩
        · refine pw_iconst (pc2 := 97) (v := 1) dX9_test_96 rfl (by decide) ?_
          refine pw_goto (tgt := 101) dX9_test_97 (by decide) ?_
          refine pw_aload_n (pc2 := 102) dX9_test_101 rfl rfl 2 rfl (by first | exact rf_ref _ | exact rf_opt _ | exact rf_nul) ?_
          refine pw_getN (pc2 := 105) kX4 (k := 1) (by decide) rfl fl_X9_67 c20 rfl dX9_test_102 rfl ?_
          refine pw_aload_n (pc2 := 106) dX9_test_105 rfl rfl 1 rfl (by first | exact rf_ref _ | exact rf_opt _ | exact rf_nul) ?_
          refine pw_callV0 (pc2 := 109) (c_tremember G h9 (t := A 27 p) (s := A 28 p) (nd := A 29 p) (a := A 30 p) (b := A 31 p) (c := A 32 p) (p := A 33 p) ⟨R1.c27 hp7, ⟨R1.c28 hp7, R1.c29 hp7, R1.c30 hp7, R1.c31 hp7, (R1.ne (t := 30) (u := 31) (i := p) (j := p) hp7 hp7 (Or.inl (by decide)))⟩, R1.c32 hp7, R1.c33 hp7⟩ (x := 1) (Or.inr rfl) ⟨c21, R1.c22 hp7, c23, c24, (R1.ne (t := 23) (u := 24) (i := p) (j := p) hp7 hp7 (Or.inl (by decide)))⟩ ⟨R1.c8, c9r⟩ (R1.ne (t := 23) (u := 30) (i := p) (j := p) hp7 hp7 (Or.inl (by decide))) (R1.ne (t := 23) (u := 31) (i := p) (j := p) hp7 hp7 (Or.inl (by decide))) (R1.ne (t := 24) (u := 30) (i := p) (j := p) hp7 hp7 (Or.inl (by decide))) (R1.ne (t := 24) (u := 31) (i := p) (j := p) hp7 hp7 (Or.inl (by decide))) (R1.ne (t := 21) (u := 28) (i := p) (j := p) hp7 hp7 (Or.inl (by decide))) (R1.ne (t := 9) (i := 0) (u := 33) (j := p) rfl hp7 (Or.inl (by decide))) (R1.pk (g := g') pk7)) cs_X9_221 rfl rfl (R1.c27 hp7) dX9_test_106 rfl (by omega) rfl (by first | decide | simp [cat_rf, Value.category]) ?_
          refine pw_iload (pc2 := 111) dX9_test_109 rfl 0 rfl ?_
          refine pw_iret dX9_test_111 rfl (by first | rfl | assumption | simp [narrow]) ?_
          obtain ⟨T1, FT1⟩ := R1.wIF (FR2) (t := 27) (i := p) (f := (upd ((rTs (pyS σ o (cstN σ.1 (nI p) (nts σ)) g') (nI p) (nts σ)).1 27 p) 0 1)) hp7 (by decide) (iv_I R1.iv (fun _ => Or.inr rfl) (fun q => absurd q (by decide)) (fun q => absurd q (by decide))) rfl
          obtain ⟨T2, FT2⟩ := T1.wIF (FT1) (t := 28) (i := p) (f := (upd (upd ((rTs (pyS σ o (cstN σ.1 (nI p) (nts σ)) g') (nI p) (nts σ)).1 28 p) 0 (σ.1 21 p 0)) 1 (σ.1 21 p 1))) hp7 (by decide) (iv_setI T1.iv (by decide)) rfl
          obtain ⟨T3, FT3⟩ := T2.wIF (FT2) (t := 30) (i := p) (f := (σ.1 23 p)) hp7 (by decide) (iv_setI T2.iv (by decide)) rfl
          obtain ⟨T4, FT4⟩ := T3.wIF (FT3) (t := 31) (i := p) (f := (σ.1 24 p)) hp7 (by decide) (iv_setI T3.iv (by decide)) rfl
          obtain ⟨T5, FT5⟩ := T4.wOF (FT4) (t := 33) (i := p) (g := g') hp7 (by decide) pk7 rfl
          have ex : (if flnN σ.1 (nI p) (nts σ) = 0 then (1 : Int32) else 0) = 1 := by exact if_pos (ev1.symm.trans c93)
          exact ⟨p, o, g', hp, rfl, hoo, ho3, hs, hgb, hbok, hpay, by rw [ev1], by unfold teS; rw [ex]; exact T5, FT5⟩
      · replace hpay : σ.1 13 0 o < (cstN σ.1 (nI p) (nts σ)) := hpay
        refine pw_if_ne (tgt := 80) (pc2 := 70) dX9_test_67 (by decide) rfl (fun c67 => by exact absurd (by decide) c67) (fun _ => ?_)
        exact pw_throw rfl ts_212 dX9_test_70 dX9_test_73 dX9_test_74 dX9_test_76 dX9_test_79 (by first | decide | simp [cat_rf, Value.category]) (by exact Or.inr (Or.inr ⟨rfl, p, o, g', hp, rfl, hoo, ho3, hs, hgb, Or.inr hpay, K1, FK1⟩))
    · refine pw_if_ne (tgt := 54) (pc2 := 44) dX9_test_41 (by decide) rfl (fun c41 => by exact absurd (by decide) c41) (fun _ => ?_)
      exact pw_throw rfl ts_200 dX9_test_44 dX9_test_47 dX9_test_48 dX9_test_50 dX9_test_53 (by first | decide | simp [cat_rf, Value.category]) (by exact Or.inr (Or.inr ⟨rfl, p, o, g', hp, rfl, hoo, ho3, hs, hgb, Or.inl (fun z => q38 ((bOk_eq K1 (g := g') hgb).mpr z)), K1, FK1⟩))
