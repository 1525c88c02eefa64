/-! PackageForge: testTime, test -/
/-- a test of length L is placed: when the machines are free, when the last test ends -/
def plS (M : Nat) (L : Int32) (s : (Nat → Int32) × Int32) : (Nat → Int32) × Int32 := (upd s.1 (ffst s.1 M) (s.1 (ffst s.1 M) + L), if s.2 < s.1 (ffst s.1 M) + L then s.1 (ffst s.1 M) + L else s.2)
def tIn (I : Nat → Nat → Nat → Int32) (M : Nat) (n L : Int32) : Nat → (Nat → Int32) × Int32 → (Nat → Int32) × Int32
  | 0, s => s
  | i + 1, s => if I 50 i 0 = n ∧ I 50 i 1 = L then plS M L (tIn I M n L i s) else tIn I M n L i s
def tOu (I : Nat → Nat → Nat → Int32) (M : Nat) (n : Int32) (nt : Nat) : Nat → (Nat → Int32) × Int32
  | 0 => (z0, 0)
  | j + 1 => tIn I M n (nI (60 - j)) nt (tOu I M n nt j)
theorem c_placeF (G : hG) (h : hp) {A : aT} {σ : sT} (H : W9 G h A σ) {M : Nat} (hM : σ.1 0 0 0 = nI M) (hM1 : 1 ≤ M) (hM4 : M ≤ 4) (F : Nat → Int32) (ln : Int32) : PMet G MX9_placeOnFirstFree 1 0 0 [.ref (A 0 0), .int ln] (va_up h (A 14 0) (some (aI 4 F))) (det (some (.int (F (ffst F M) + ln))) (va_up h (A 14 0) (some (aI 4 (upd F (ffst F M) (F (ffst F M) + ln)))))) noX := by
  have z := c_place G _ (H.wI (t := 14) (i := 0) (f := F) rfl (by decide) (iv_setI H.iv (by decide)) rfl) (M := M) hM hM1 hM4 ln
  rw [setI_s, up_up] at z
  exact z
set_option maxHeartbeats 4000000 in
set_option maxRecDepth 100000 in
theorem c_testTime (G : hG) (h : hp) {A : aT} {σ : sT} (H : W9 G h A σ) {M : Nat} (hM : σ.1 0 0 0 = nI M) (hM1 : 1 ≤ M) (hM4 : M ≤ 4) (n : Int32) : PMet G MX9_testTime 4 1 6 [.ref (A 0 0), .int n] h (fun r h2 => ∃ p, p < npk σ ∧ n = nI p ∧ r = some (.int (tOu σ.1 M (nI p) (nts σ) 60).2) ∧ h2 = va_up h (A 14 0) (some (aI 4 (tOu σ.1 M (nI p) (nts σ) 60).1))) (fun C h2 => h2 = h ∧ C = xIO ∧ ¬ inR n (npk σ)) := by
  have hnp := H.iv.1
  have hnt := H.iv.2.1
  refine PMet.of (by decide +kernel) (Nat.le_of_ble_eq_true rfl) (fun d hd => ?_)
  refine PW.sub (L2 := [(0, Value.ref (A 0 0)), (1, Value.int n)]) [0, 1] rfl ?_
  refine pw_aload_n (pc2 := 1) dX9_testTime_0 rfl rfl 0 rfl (by first | exact rf_ref _ | exact rf_opt _ | exact rf_nul) ?_
  refine pw_iload_n (pc2 := 2) dX9_testTime_1 rfl rfl 1 rfl ?_
  refine pw_callV (pc2 := 5) (c_chkP G _ H n) cs_X9_92 rfl rfl H.c0 dX9_testTime_2 rfl (by omega) rfl (by first | decide | simp [cat_rf, Value.category]) (fun r9 h9 q9 => ?_) (fun Y h9 q9 => px_out rfl (⟨q9.2.1, q9.1, q9.2.2⟩))
  obtain ⟨rfl, rfl, hin⟩ := q9
  obtain ⟨p, hpp, rfl⟩ := inR_ex (by omega) hin
  refine pw_aload_n (pc2 := 6) dX9_testTime_5 rfl rfl 0 rfl (by first | exact rf_ref _ | exact rf_opt _ | exact rf_nul) ?_
  refine pw_get (pc2 := 9) kX9 (k := 5) (by decide) rfl fl_X9_33 H.c0 rfl dX9_testTime_6 rfl ?_
  refine pw_iconst (pc2 := 10) (v := 0) dX9_testTime_9 rfl (by decide) ?_
  refine pw_callS0 (pc2 := 13) (c_fill G _ H.c14 (by decide) 0) cs_X9_175 rfl dX9_testTime_10 rfl (by omega) rfl (by first | decide | simp [cat_rf, Value.category]) ?_
  refine pw_extI (a := A 14 0) (n := 4) (g := z0) (va_up_self _ _ _) (by decide) (fun j hj => by unfold flI z0; rw [if_pos hj]) ?_
  refine PW.heap (h' := va_up h (A 14 0) (some (aI 4 z0))) (up_up _ _ _ _) ?_
  have HW : ∀ F, W9 G (va_up h (A 14 0) (some (aI 4 F))) A (setI σ 14 0 F) := fun F => H.wI (t := 14) (i := 0) rfl (by decide) (iv_setI H.iv (by decide)) rfl
  have HW0 : ∀ F, va_up h (A 14 0) (some (aI 4 F)) (A 0 0) = some (oB 12 [.ref (A 1 0), .ref (A 3 0), .ref (A 5 0), .ref (A 7 0), .ref (A 13 0), .ref (A 14 0), .int (σ.1 0 0 0), .int (σ.1 0 0 1), .int (σ.1 0 0 2), .int (σ.1 0 0 3)]) := fun F => (HW F).c0
  have HWl : ∀ F, isL G (va_up h (A 14 0) (some (aI 4 F))) (A 3 0) (nts σ) (A 50) := fun F => (HW F).lt
  have HW5 : ∀ F i, i < nts σ → va_up h (A 14 0) (some (aI 4 F)) (A 50 i) = some (oB 10 [.int (σ.1 50 i 0), .int (σ.1 50 i 1), .int (σ.1 50 i 2), .ref (A 51 i), .int (σ.1 50 i 3)]) := fun F i hi => (HW F).c50 (i := i) hi
  refine pw_iconst (pc2 := 14) (v := 0) dX9_testTime_13 rfl (by decide) ?_
  refine pw_istore_n (pc2 := 15) (L2 := [(2, Value.int 0), (0, Value.ref (A 0 0)), (1, Value.int (nI p))]) dX9_testTime_14 rfl rfl (by decide) rfl ?_
  refine pw_bipush (pc2 := 17) (v := 60) dX9_testTime_15 rfl (by decide) ?_
  refine pw_istore_n (pc2 := 18) (L2 := [(3, Value.int 60), (2, Value.int 0), (0, Value.ref (A 0 0)), (1, Value.int (nI p))]) dX9_testTime_17 rfl rfl (by decide) rfl ?_
  have loop : ∀ (m : Nat) (j : Nat) (s : (Nat → Int32) × Int32) (_hj : j + m = 60) (_hs : s = tOu σ.1 M (nI p) (nts σ) j), PW G MX9_testTime d noA (E0 G (fun r h2 => ∃ p_, p_ < npk σ ∧ nI p = nI p_ ∧ r = some (.int (tOu σ.1 M (nI p_) (nts σ) 60).2) ∧ h2 = va_up h (A 14 0) (some (aI 4 (tOu σ.1 M (nI p_) (nts σ) 60).1))) (fun C h2 => h2 = h ∧ C = xIO ∧ ¬ inR (nI p) (npk σ))) 0 0 18 [(3, Value.int (nI m)), (2, Value.int s.2), (0, Value.ref (A 0 0)), (1, Value.int (nI p))] [] (va_up h (A 14 0) (some (aI 4 s.1))) := by
    intro m
    induction m with
    | zero =>
      intro j s hj hs
      have hj : j = 60 := by omega
      subst hj
      refine pw_iload_n (pc2 := 19) dX9_testTime_18 rfl rfl 0 rfl ?_
      refine pw_if_le (tgt := 91) (pc2 := 22) dX9_testTime_19 (by decide) rfl (fun _ => ?_) (fun c19 => by exact absurd (Int32.le_refl _) c19)
      refine pw_iload_n (pc2 := 92) dX9_testTime_91 rfl rfl 1 rfl ?_
      refine pw_iret dX9_testTime_92 rfl (by first | rfl | assumption | simp [narrow]) ?_
      exact ⟨p, hpp, rfl, by rw [hs], by rw [hs]⟩
    | succ m ih =>
      intro j s hj hs
      refine pw_iload_n (pc2 := 19) dX9_testTime_18 rfl rfl 0 rfl ?_
      refine pw_if_le (tgt := 91) (pc2 := 22) dX9_testTime_19 (by decide) rfl (fun c19 => by exact absurd c19 (nI_nle (by omega) (by omega))) (fun _ => ?_)
      refine pw_iconst (pc2 := 23) (v := 0) dX9_testTime_22 rfl (by decide) ?_
      refine pw_istore (pc2 := 25) (L2 := [(4, Value.int 0), (3, Value.int (nI (m + 1))), (2, Value.int s.2), (0, Value.ref (A 0 0)), (1, Value.int (nI p))]) dX9_testTime_23 rfl (by decide) rfl ?_
      have loop2 : ∀ (k2 : Nat) (i : Nat) (s2 : (Nat → Int32) × Int32) (_hi : i + k2 = nts σ) (_hs2 : s2 = tIn σ.1 M (nI p) (nI (m + 1)) i s), PW G MX9_testTime d noA (E0 G (fun r h2 => ∃ p_, p_ < npk σ ∧ nI p = nI p_ ∧ r = some (.int (tOu σ.1 M (nI p_) (nts σ) 60).2) ∧ h2 = va_up h (A 14 0) (some (aI 4 (tOu σ.1 M (nI p_) (nts σ) 60).1))) (fun C h2 => h2 = h ∧ C = xIO ∧ ¬ inR (nI p) (npk σ))) 0 0 25 [(4, Value.int (nI i)), (3, Value.int (nI (m + 1))), (2, Value.int s2.2), (0, Value.ref (A 0 0)), (1, Value.int (nI p))] [] (va_up h (A 14 0) (some (aI 4 s2.1))) := by
        intro k2
        induction k2 with
        | zero =>
          intro i s2 hi hs2
          have hi9 : i = nts σ := by omega
          subst hi9
          refine pw_iload (pc2 := 27) dX9_testTime_25 rfl 0 rfl ?_
          refine pw_aload_n (pc2 := 28) dX9_testTime_27 rfl rfl 3 rfl (by first | exact rf_ref _ | exact rf_opt _ | exact rf_nul) ?_
          refine pw_get (pc2 := 31) kX9 (k := 1) (by decide) rfl fl_X9_16 (HW0 s2.1) rfl dX9_testTime_28 rfl ?_
          refine pw_callV1 (pc2 := 34) (c_lsize G _ (HWl s2.1)) cs_X9_44 rfl rfl (HW s2.1).c3 dX9_testTime_31 rfl (by omega) rfl (by first | decide | simp [cat_rf, Value.category]) ?_
          refine pw_icmp_ge (tgt := 85) (pc2 := 37) dX9_testTime_34 (by decide) rfl (fun _ => ?_) (fun c34 => by exact absurd (Int32.le_refl _) c34)
          refine pw_iinc (pc2 := 88) (v := nI m) (L2 := [(3, Value.int (nI m)), (4, Value.int (nI (nts σ))), (2, Value.int s2.2), (0, Value.ref (A 0 0)), (1, Value.int (nI p))]) dX9_testTime_85 rfl 1 rfl (by rw [oth_ii, oth_s]) (by decide) rfl ?_
          refine pw_goto (tgt := 18) dX9_testTime_88 (by decide) ?_
          refine PW.sub (L2 := [(3, Value.int (nI m)), (2, Value.int s2.2), (0, Value.ref (A 0 0)), (1, Value.int (nI p))]) [0, 2, 3, 4] rfl ?_
          exact ih (j + 1) s2 (by omega) (by rw [show tOu σ.1 M (nI p) (nts σ) (j + 1) = tIn σ.1 M (nI p) (nI (60 - j)) (nts σ) (tOu σ.1 M (nI p) (nts σ) j) from rfl, show 60 - j = m + 1 by omega, ← hs]; exact hs2)
        | succ k2 ih2 =>
          intro i s2 hi hs2
          have hi9 : i < nts σ := by omega
          refine pw_iload (pc2 := 27) dX9_testTime_25 rfl 0 rfl ?_
          refine pw_aload_n (pc2 := 28) dX9_testTime_27 rfl rfl 3 rfl (by first | exact rf_ref _ | exact rf_opt _ | exact rf_nul) ?_
          refine pw_get (pc2 := 31) kX9 (k := 1) (by decide) rfl fl_X9_16 (HW0 s2.1) rfl dX9_testTime_28 rfl ?_
          refine pw_callV1 (pc2 := 34) (c_lsize G _ (HWl s2.1)) cs_X9_44 rfl rfl (HW s2.1).c3 dX9_testTime_31 rfl (by omega) rfl (by first | decide | simp [cat_rf, Value.category]) ?_
          refine pw_icmp_ge (tgt := 85) (pc2 := 37) dX9_testTime_34 (by decide) rfl (fun c34 => by exact absurd c34 (fun q => absurd ((nI_leI (a := nts σ) (b := i) (by omega) (by omega)).mp q) (by omega))) (fun _ => ?_)
          refine pw_aload_n (pc2 := 38) dX9_testTime_37 rfl rfl 3 rfl (by first | exact rf_ref _ | exact rf_opt _ | exact rf_nul) ?_
          refine pw_get (pc2 := 41) kX9 (k := 1) (by decide) rfl fl_X9_16 (HW0 s2.1) rfl dX9_testTime_38 rfl ?_
          refine pw_iload (pc2 := 43) dX9_testTime_41 rfl 0 rfl ?_
          refine pw_callV1 (pc2 := 46) (c_lget G _ (HWl s2.1) (i := i) hi9) cs_X9_181 rfl rfl (HW s2.1).c3 dX9_testTime_43 rfl (by omega) rfl (by first | decide | simp [cat_rf, Value.category]) ?_
          refine pw_castS (pc2 := 49) (cj := 10) rfl cl_X9_158 (HW5 s2.1 i hi9) dX9_testTime_46 rfl ?_
          refine pw_astore (pc2 := 51) (L2 := [(5, Value.ref (A 50 i)), (4, Value.int (nI i)), (3, Value.int (nI (m + 1))), (2, Value.int s2.2), (0, Value.ref (A 0 0)), (1, Value.int (nI p))]) dX9_testTime_49 rfl (by decide) (by first | exact rf_ref _ | exact rf_opt _ | exact rf_nul) rfl ?_
          refine pw_aload (pc2 := 53) dX9_testTime_51 rfl 0 rfl (by first | exact rf_ref _ | exact rf_opt _ | exact rf_nul) ?_
          refine pw_getN (pc2 := 56) kX7 (k := 0) (by decide) rfl fl_X9_185 (HW5 s2.1 i hi9) rfl dX9_testTime_53 rfl ?_
          refine pw_iload_n (pc2 := 57) dX9_testTime_56 rfl rfl 5 rfl ?_
          refine pw_icmp_ne (tgt := 79) (pc2 := 60) dX9_testTime_57 (by decide) rfl (fun c57 => ?_) (fun c57 => ?_)
          · refine pw_iinc (pc2 := 82) (v := nI (i + 1)) (L2 := [(4, Value.int (nI (i + 1))), (5, Value.ref (A 50 i)), (3, Value.int (nI (m + 1))), (2, Value.int s2.2), (0, Value.ref (A 0 0)), (1, Value.int (nI p))]) dX9_testTime_79 rfl 1 rfl (by show nI _ + 1 = nI _; exact nI_1 _) (by decide) rfl ?_
            refine pw_goto (tgt := 25) dX9_testTime_82 (by decide) ?_
            refine PW.sub (L2 := [(4, Value.int (nI (i + 1))), (3, Value.int (nI (m + 1))), (2, Value.int s2.2), (0, Value.ref (A 0 0)), (1, Value.int (nI p))]) [0, 2, 3, 4, 5] rfl ?_
            exact ih2 (i + 1) s2 (by omega) (by rw [(show tIn σ.1 M (nI p) (nI (m + 1)) (i + 1) s = if σ.1 50 i 0 = nI p ∧ σ.1 50 i 1 = nI (m + 1) then plS M (nI (m + 1)) (tIn σ.1 M (nI p) (nI (m + 1)) i s) else tIn σ.1 M (nI p) (nI (m + 1)) i s from rfl)]; first | rw [if_neg (fun z => c57 z.1)]; exact hs2 | rw [if_neg (fun z => c66 z.2)]; exact hs2)
          · refine pw_aload (pc2 := 62) dX9_testTime_60 rfl 0 rfl (by first | exact rf_ref _ | exact rf_opt _ | exact rf_nul) ?_
            refine pw_getN (pc2 := 65) kX7 (k := 1) (by decide) rfl fl_X9_188 (HW5 s2.1 i hi9) rfl dX9_testTime_62 rfl ?_
            refine pw_iload_n (pc2 := 66) dX9_testTime_65 rfl rfl 2 rfl ?_
            refine pw_icmp_ne (tgt := 79) (pc2 := 69) dX9_testTime_66 (by decide) rfl (fun c66 => ?_) (fun c66 => ?_)
            · refine pw_iinc (pc2 := 82) (v := nI (i + 1)) (L2 := [(4, Value.int (nI (i + 1))), (5, Value.ref (A 50 i)), (3, Value.int (nI (m + 1))), (2, Value.int s2.2), (0, Value.ref (A 0 0)), (1, Value.int (nI p))]) dX9_testTime_79 rfl 1 rfl (by show nI _ + 1 = nI _; exact nI_1 _) (by decide) rfl ?_
              refine pw_goto (tgt := 25) dX9_testTime_82 (by decide) ?_
              refine PW.sub (L2 := [(4, Value.int (nI (i + 1))), (3, Value.int (nI (m + 1))), (2, Value.int s2.2), (0, Value.ref (A 0 0)), (1, Value.int (nI p))]) [0, 2, 3, 4, 5] rfl ?_
              exact ih2 (i + 1) s2 (by omega) (by rw [(show tIn σ.1 M (nI p) (nI (m + 1)) (i + 1) s = if σ.1 50 i 0 = nI p ∧ σ.1 50 i 1 = nI (m + 1) then plS M (nI (m + 1)) (tIn σ.1 M (nI p) (nI (m + 1)) i s) else tIn σ.1 M (nI p) (nI (m + 1)) i s from rfl)]; first | rw [if_neg (fun z => c57 z.1)]; exact hs2 | rw [if_neg (fun z => c66 z.2)]; exact hs2)
            · refine pw_iload_n (pc2 := 70) dX9_testTime_69 rfl rfl 3 rfl ?_
              refine pw_aload_n (pc2 := 71) dX9_testTime_70 rfl rfl 4 rfl (by first | exact rf_ref _ | exact rf_opt _ | exact rf_nul) ?_
              refine pw_iload_n (pc2 := 72) dX9_testTime_71 rfl rfl 2 rfl ?_
              refine pw_callV1 (pc2 := 75) (c_placeF G h H hM hM1 hM4 s2.1 (nI (m + 1))) cs_X9_191 rfl rfl (HW0 s2.1) dX9_testTime_72 rfl (by omega) rfl (by first | decide | simp [cat_rf, Value.category]) ?_
              refine pw_mmax (pc2 := 78) cs_X9_194 dX9_testTime_75 rfl (by first | decide | simp [cat_rf, Value.category]) ?_
              refine pw_istore_n (pc2 := 79) (L2 := [(2, Value.int ((plS M (nI (m + 1)) s2).2)), (5, Value.ref (A 50 i)), (4, Value.int (nI i)), (3, Value.int (nI (m + 1))), (0, Value.ref (A 0 0)), (1, Value.int (nI p))]) dX9_testTime_78 rfl rfl (by decide) rfl ?_
              refine pw_iinc (pc2 := 82) (v := nI (i + 1)) (L2 := [(4, Value.int (nI (i + 1))), (2, Value.int ((plS M (nI (m + 1)) s2).2)), (5, Value.ref (A 50 i)), (3, Value.int (nI (m + 1))), (0, Value.ref (A 0 0)), (1, Value.int (nI p))]) dX9_testTime_79 rfl 2 rfl (by show nI _ + 1 = nI _; exact nI_1 _) (by decide) rfl ?_
              refine pw_goto (tgt := 25) dX9_testTime_82 (by decide) ?_
              refine PW.sub (L2 := [(4, Value.int (nI (i + 1))), (3, Value.int (nI (m + 1))), (2, Value.int ((plS M (nI (m + 1)) s2).2)), (0, Value.ref (A 0 0)), (1, Value.int (nI p))]) [0, 3, 1, 4, 5] rfl ?_
              exact ih2 (i + 1) (plS M (nI (m + 1)) s2) (by omega) (by rw [(show tIn σ.1 M (nI p) (nI (m + 1)) (i + 1) s = if σ.1 50 i 0 = nI p ∧ σ.1 50 i 1 = nI (m + 1) then plS M (nI (m + 1)) (tIn σ.1 M (nI p) (nI (m + 1)) i s) else tIn σ.1 M (nI p) (nI (m + 1)) i s from rfl), if_pos ⟨c57, c66⟩, hs2])
      refine PW.sub (L2 := [(4, Value.int 0), (3, Value.int (nI (m + 1))), (2, Value.int s.2), (0, Value.ref (A 0 0)), (1, Value.int (nI p))]) [0, 1, 2, 3, 4] rfl ?_
      exact loop2 (nts σ) 0 s (by omega) rfl
  refine PW.sub (L2 := [(3, Value.int 60), (2, Value.int 0), (0, Value.ref (A 0 0)), (1, Value.int (nI p))]) [0, 1, 2, 3] rfl ?_
  skip
  exact loop 60 0 (z0, 0) (by omega) rfl
