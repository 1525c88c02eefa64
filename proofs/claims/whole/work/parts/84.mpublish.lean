/-! the reference: publish -/
set_option maxHeartbeats 4000000 in
set_option maxRecDepth 100000 in
theorem c_verInV (G : hG) (h : hp) {A : aT} {σ : sT} (H : WM G h A σ) {g : Nat → Option Nat} (hgb : pkB σ g) {k9 : Nat} (hk : k9 < 6) (hC : ∀ j, j < 6 → σ.1 90 0 j = enc (g j)) (hV : ∀ x, x < nrl σ → σ.1 78 0 x = σ.1 40 x 0) : PMet G MX10_versionIn 0 0 0 [.ref (A 60 0), .int (nI k9)] h (det (some (.int (vG σ (g k9)))) h) noX := by
  have h20 := H.iv.2.2.1
  refine PMet.of (by decide +kernel) (Nat.le_of_ble_eq_true rfl) (fun d hd => ?_)
  refine PW.sub (L2 := [(0, Value.ref (A 60 0)), (1, Value.int (nI k9))]) [0, 1] rfl ?_
  refine pw_aload_n (pc2 := 1) dX10_versionIn_0 rfl rfl 0 rfl (by first | exact rf_ref _ | exact rf_opt _ | exact rf_nul) ?_
  refine pw_get (pc2 := 4) kX10 (k := 36) (by decide) rfl fl_X10_106 H.c60 rfl dX10_versionIn_1 rfl ?_
  refine pw_iload_n (pc2 := 5) dX10_versionIn_4 rfl rfl 1 rfl ?_
  refine pw_ialdN (pc2 := 6) H.c90 (i := k9) (by first | assumption | omega) (by omega) dX10_versionIn_5 rfl ?_
  refine pw_topE (hC k9 hk) ?_
  cases hgi : g k9 with
  | none =>
    refine pw_iconst (pc2 := 7) (v := (-1)) dX10_versionIn_6 rfl (by decide) ?_
    refine pw_icmp_ne (tgt := 14) (pc2 := 10) dX10_versionIn_7 (by decide) rfl (fun c7 => by exact absurd (rfl) c7) (fun _ => ?_)
    refine pw_iconst (pc2 := 11) (v := 0) dX10_versionIn_10 rfl (by decide) ?_
    refine pw_goto (tgt := 25) dX10_versionIn_11 (by decide) ?_
    refine pw_iret dX10_versionIn_25 rfl (by first | rfl | assumption | simp [narrow]) ?_
    exact ⟨rfl, rfl⟩
  | some x =>
    have hx := hgb k9 x hgi
    refine pw_iconst (pc2 := 7) (v := (-1)) dX10_versionIn_6 rfl (by decide) ?_
    refine pw_icmp_ne (tgt := 14) (pc2 := 10) dX10_versionIn_7 (by decide) rfl (fun _ => ?_) (fun c7 => by exact absurd c7 (nIne x (by omega)))
    refine pw_aload_n (pc2 := 15) dX10_versionIn_14 rfl rfl 0 rfl (by first | exact rf_ref _ | exact rf_opt _ | exact rf_nul) ?_
    refine pw_get (pc2 := 18) kX10 (k := 18) (by decide) rfl fl_X10_64 H.c60 rfl dX10_versionIn_15 rfl ?_
    refine pw_aload_n (pc2 := 19) dX10_versionIn_18 rfl rfl 0 rfl (by first | exact rf_ref _ | exact rf_opt _ | exact rf_nul) ?_
    refine pw_get (pc2 := 22) kX10 (k := 36) (by decide) rfl fl_X10_106 H.c60 rfl dX10_versionIn_19 rfl ?_
    refine pw_iload_n (pc2 := 23) dX10_versionIn_22 rfl rfl 1 rfl ?_
    refine pw_ialdN (pc2 := 24) H.c90 (i := k9) (by first | assumption | omega) (by omega) dX10_versionIn_23 rfl ?_
    refine pw_topE ((hC k9 hk).trans (by rw [hgi]; rfl : enc (g k9) = nI x)) ?_
    refine pw_ialdN (pc2 := 25) H.c78 (i := x) (by first | assumption | omega) (by omega) dX10_versionIn_24 rfl ?_
    refine pw_iret dX10_versionIn_25 rfl (by first | rfl | assumption | simp [narrow]) ?_
    exact ⟨congrArg (fun z => some (Value.int z)) (hV x hx), rfl⟩
def mP7 (σ : sT) (p r : Nat) (C : Nat → Int32) (v : Int32) : sT := setI (setI (setI (setI (setI (thS σ 0) 90 0 C) 60 0 (upd (upd (σ.1 60 0) 7 0) 7 0)) 77 0 (upd (σ.1 77 0) r (nI p))) 78 0 (upd (σ.1 78 0) r v)) 79 0 (upd (σ.1 79 0) r (σ.1 62 0 p))
def mPU (σ : sT) (p r : Nat) (C : Nat → Int32) (v : Int32) (R1 R2 R3 : Nat → Int32) : sT := setI (setI (setI (setI (mP7 σ p r C v) 97 r R1) 98 r R2) 99 r R3) 60 0 (upd (upd (upd (σ.1 60 0) 7 0) 7 0) 1 (nI (r + 1)))
set_option maxHeartbeats 4000000 in
set_option maxRecDepth 100000 in
theorem c_mpublish (G : hG) (h : hp) {A : aT} {σ : sT} (H : WM G h A σ) (hb : MB σ) {ofr : Nat → Nat} (hR : RR σ ofr) (hS : RS σ) (hP : RP σ ofr) (n : Int32) : PMet G MX10_publish 12 0 0 [.ref (A 60 0), .int n] h (fun r h2 => (¬ inR n (npk σ) ∧ QSM G h A (.int 0) (thS σ 1) r h2) ∨ (∃ p C, p < npk σ ∧ n = nI p ∧ (((¬ pubC σ p ∨ 999 < vAh σ p) ∧ QSM G h A (.int 0) (thS (setI (thS σ 0) 90 0 C) 2) r h2) ∨ (pubC σ p ∧ vAh σ p ≤ 999 ∧ nrl σ = 20 ∧ QSM G h A (.int 0) (thS (setI (thS σ 0) 90 0 C) 3) r h2) ∨ (∃ g', srS σ p = some g' ∧ psW σ p g' ∧ vAh σ p ≤ 999 ∧ nrl σ < 20 ∧ ∃ R1 R2 R3, (∀ j, j < 6 → R1 j = σ.1 91 p j ∧ R2 j = σ.1 92 p j ∧ R3 j = vG σ (g' j)) ∧ QSM G h A (.int (vAh σ p)) (mPU σ p (nrl σ) C (vAh σ p) R1 R2 R3) r h2)))) noX := by
  have hnp := H.iv.1
  have hnr20 := H.iv.2.2.1
  refine PMet.of (by decide +kernel) (Nat.le_of_ble_eq_true rfl) (fun d hd => ?_)
  refine PW.sub (L2 := [(0, Value.ref (A 60 0)), (1, Value.int n)]) [0, 1] rfl ?_
  refine pw_aload_n (pc2 := 1) dX10_publish_0 rfl rfl 0 rfl (by first | exact rf_ref _ | exact rf_opt _ | exact rf_nul) ?_
  refine pw_iload_n (pc2 := 2) dX10_publish_1 rfl rfl 1 rfl ?_
  refine pw_callV (pc2 := 5) (c_lacks G _ H hb n) cs_X10_123 rfl rfl H.c60 dX10_publish_2 rfl (by omega) rfl (by first | decide | simp [cat_rf, Value.category]) (fun r9 h9 q9 => ?_) (fun Y h9 q9 => q9.elim)
  rcases q9 with ⟨hin, rfl, K1, FK1⟩ | ⟨hin, rfl, K1, FK1⟩
  · obtain ⟨p, hpp, rfl⟩ := inR_ex (by omega) hin
    have hp6 : p < 6 := by omega
    have c60K1 : h9 (A 60 0) = some (oB 13 [.ref (A 61 0), .ref (A 62 0), .ref (A 63 0), .ref (A 64 0), .ref (A 65 0), .ref (A 66 0), .ref (A 67 0), .ref (A 68 0), .ref (A 69 0), .ref (A 70 0), .ref (A 71 0), .ref (A 72 0), .ref (A 73 0), .ref (A 74 0), .ref (A 75 0), .ref (A 76 0), .int (σ.1 60 0 0), .ref (A 77 0), .ref (A 78 0), .ref (A 79 0), .ref (A 80 0), .ref (A 81 0), .ref (A 82 0), .ref (A 83 0), .int (σ.1 60 0 1), .ref (A 84 0), .ref (A 85 0), .ref (A 86 0), .ref (A 87 0), .ref (A 88 0), .int (σ.1 60 0 2), .int (σ.1 60 0 3), .ref (A 89 0), .int (σ.1 60 0 4), .int (σ.1 60 0 5), .int (σ.1 60 0 6), .ref (A 90 0), .int 0]) := K1.c60
    refine pw_if_eq (tgt := 10) (pc2 := 8) dX10_publish_5 (by decide) rfl (fun _ => ?_) (fun c5 => by exact absurd (by decide) c5)
    refine pw_aload_n (pc2 := 11) dX10_publish_10 rfl rfl 0 rfl (by first | exact rf_ref _ | exact rf_opt _ | exact rf_nul) ?_
    refine pw_aload_n (pc2 := 12) dX10_publish_11 rfl rfl 0 rfl (by first | exact rf_ref _ | exact rf_opt _ | exact rf_nul) ?_
    refine pw_iload_n (pc2 := 13) dX10_publish_12 rfl rfl 1 rfl ?_
    refine pw_callV (pc2 := 16) (c_mcan G _ K1 hb hR hS hP hpp) cs_X10_197 rfl rfl c60K1 dX10_publish_13 rfl (by omega) rfl (by first | decide | simp [cat_rf, Value.category]) (fun r9 h8 q8 => ?_) (fun Y h9 q9 => q9.elim)
    obtain ⟨C, e9, hq⟩ := q8
    obtain ⟨K0, FK0⟩ := K1.wIF FK1 (t := 90) (i := 0) (f := C) rfl (by decide) (iv_setI K1.iv (by decide)) rfl
    replace K0 : WM G h8 A (setI (thS σ 0) 90 0 C) := by rw [e9]; exact K0
    replace FK0 : FM A h h8 := by rw [e9]; exact FK0
    clear e9
    rcases hq with ⟨rfl, g', hs, hps, hgb', hCC⟩ | ⟨rfl, hnp9⟩
    · replace hs : srS σ p = some g' := srS_th.symm.trans hs
      replace hgb' : pkB σ g' := hgb'
      have hpc : pubC σ p := ⟨g', hs, hps⟩
      obtain ⟨r, hr⟩ : ∃ r, r = nrl σ := ⟨_, rfl⟩
      have c60K0 : h8 (A 60 0) = some (oB 13 [.ref (A 61 0), .ref (A 62 0), .ref (A 63 0), .ref (A 64 0), .ref (A 65 0), .ref (A 66 0), .ref (A 67 0), .ref (A 68 0), .ref (A 69 0), .ref (A 70 0), .ref (A 71 0), .ref (A 72 0), .ref (A 73 0), .ref (A 74 0), .ref (A 75 0), .ref (A 76 0), .int (σ.1 60 0 0), .ref (A 77 0), .ref (A 78 0), .ref (A 79 0), .ref (A 80 0), .ref (A 81 0), .ref (A 82 0), .ref (A 83 0), .int (σ.1 60 0 1), .ref (A 84 0), .ref (A 85 0), .ref (A 86 0), .ref (A 87 0), .ref (A 88 0), .int (σ.1 60 0 2), .int (σ.1 60 0 3), .ref (A 89 0), .int (σ.1 60 0 4), .int (σ.1 60 0 5), .int (σ.1 60 0 6), .ref (A 90 0), .int 0]) := K0.c60
      refine pw_if_eq (tgt := 30) (pc2 := 19) dX10_publish_16 (by decide) rfl (fun c16 => by exact absurd c16 (by decide)) (fun _ => ?_)
      refine pw_aload_n (pc2 := 20) dX10_publish_19 rfl rfl 0 rfl (by first | exact rf_ref _ | exact rf_opt _ | exact rf_nul) ?_
      refine pw_iload_n (pc2 := 21) dX10_publish_20 rfl rfl 1 rfl ?_
      refine pw_callV1 (pc2 := 24) (c_mnext G _ K0 hb hR.1 hpp hS) cs_X10_203 rfl rfl c60K0 dX10_publish_21 rfl (by omega) rfl (by first | decide | simp [cat_rf, Value.category]) ?_
      refine pw_sipush (pc2 := 27) (v := 999) dX10_publish_24 rfl (by decide) ?_
      refine pw_icmp_le (tgt := 34) (pc2 := 30) dX10_publish_27 (by decide) rfl (fun c27 => ?_) (fun c27 => ?_)
      · refine pw_aload_n (pc2 := 35) dX10_publish_34 rfl rfl 0 rfl (by first | exact rf_ref _ | exact rf_opt _ | exact rf_nul) ?_
        refine pw_get (pc2 := 38) kX10 (k := 24) (by decide) rfl fl_X10_146 c60K0 rfl dX10_publish_35 rfl ?_
        refine pw_topE (hb.2.1.trans (congrArg nI hr.symm)) ?_
        refine pw_bipush (pc2 := 40) (v := 20) dX10_publish_38 rfl (by decide) ?_
        refine pw_icmp_ne (tgt := 47) (pc2 := 43) dX10_publish_40 (by decide) rfl (fun c40 => ?_) (fun c40 => ?_)
        · refine pw_iconst (pc2 := 48) (v := 0) dX10_publish_47 rfl (by decide) ?_
          refine pw_put (pc2 := 51) kX10 (k := 37) (by decide) rfl rfl fl_X10_109 c60K0 (by first | decide | simp) (by first | rfl | exact nar_rf _ _) (by first | rfl | exact fit_rf _ _) dX10_publish_48 rfl ?_
          have hr20 : r < 20 := by have := H.iv.2.2.1; exact Nat.lt_of_le_of_ne (by omega) (fun z => c40 (by rw [z]; rfl))
          obtain ⟨K2, FK2⟩ := K0.wIF (FK0) (t := 60) (i := 0) (f := (upd (upd (σ.1 60 0) 7 0) 7 0)) rfl (by decide) (iv_setI K0.iv (by decide)) rfl
          obtain ⟨h7, eh7⟩ : ∃ z : Nat → Option hE, z = va_up h8 (A 60 0) (some (oB 13 [.ref (A 61 0), .ref (A 62 0), .ref (A 63 0), .ref (A 64 0), .ref (A 65 0), .ref (A 66 0), .ref (A 67 0), .ref (A 68 0), .ref (A 69 0), .ref (A 70 0), .ref (A 71 0), .ref (A 72 0), .ref (A 73 0), .ref (A 74 0), .ref (A 75 0), .ref (A 76 0), .int (σ.1 60 0 0), .ref (A 77 0), .ref (A 78 0), .ref (A 79 0), .ref (A 80 0), .ref (A 81 0), .ref (A 82 0), .ref (A 83 0), .int (σ.1 60 0 1), .ref (A 84 0), .ref (A 85 0), .ref (A 86 0), .ref (A 87 0), .ref (A 88 0), .int (σ.1 60 0 2), .int (σ.1 60 0 3), .ref (A 89 0), .int (σ.1 60 0 4), .int (σ.1 60 0 5), .int (σ.1 60 0 6), .ref (A 90 0), .int 0])) := ⟨_, rfl⟩
          refine PW.heap (h' := h7) eh7.symm ?_
          replace K2 : WM G h7 A (setI (setI (thS σ 0) 90 0 C) 60 0 (upd (upd (σ.1 60 0) 7 0) 7 0)) := by rw [eh7]; exact K2
          replace FK2 : FM A h h7 := by rw [eh7]; exact FK2
          have k770K2 : h7 (A 77 0) = some (aI 20 (σ.1 77 0)) := K2.c77
          have k780K2 : h7 (A 78 0) = some (aI 20 (σ.1 78 0)) := K2.c78
          have k790K2 : h7 (A 79 0) = some (aI 20 (σ.1 79 0)) := K2.c79
          have k620K2 : h7 (A 62 0) = some (aI 6 (σ.1 62 0)) := K2.c62
          have k91pK2 : h7 (A 91 p) = some (aI 6 (σ.1 91 p)) := (K2.c91 hp6)
          have k92pK2 : h7 (A 92 p) = some (aI 6 (σ.1 92 p)) := (K2.c92 hp6)
          have c60K2b : h7 (A 60 0) = some (oB 13 [.ref (A 61 0), .ref (A 62 0), .ref (A 63 0), .ref (A 64 0), .ref (A 65 0), .ref (A 66 0), .ref (A 67 0), .ref (A 68 0), .ref (A 69 0), .ref (A 70 0), .ref (A 71 0), .ref (A 72 0), .ref (A 73 0), .ref (A 74 0), .ref (A 75 0), .ref (A 76 0), .int (σ.1 60 0 0), .ref (A 77 0), .ref (A 78 0), .ref (A 79 0), .ref (A 80 0), .ref (A 81 0), .ref (A 82 0), .ref (A 83 0), .int (σ.1 60 0 1), .ref (A 84 0), .ref (A 85 0), .ref (A 86 0), .ref (A 87 0), .ref (A 88 0), .int (σ.1 60 0 2), .int (σ.1 60 0 3), .ref (A 89 0), .int (σ.1 60 0 4), .int (σ.1 60 0 5), .int (σ.1 60 0 6), .ref (A 90 0), .int 0]) := K2.c60
          refine pw_aload_n (pc2 := 52) dX10_publish_51 rfl rfl 0 rfl (by first | exact rf_ref _ | exact rf_opt _ | exact rf_nul) ?_
          refine pw_get (pc2 := 55) kX10 (k := 37) (by decide) rfl fl_X10_109 c60K2b rfl dX10_publish_52 rfl ?_
          refine pw_if_le (tgt := 60) (pc2 := 58) dX10_publish_55 (by decide) rfl (fun _ => ?_) (fun c55 => by exact absurd (by decide) c55)
          refine pw_aload_n (pc2 := 61) dX10_publish_60 rfl rfl 0 rfl (by first | exact rf_ref _ | exact rf_opt _ | exact rf_nul) ?_
          refine pw_iload_n (pc2 := 62) dX10_publish_61 rfl rfl 1 rfl ?_
          refine pw_callV1 (pc2 := 65) (c_mnext G _ K2 hb hR.1 hpp hS) cs_X10_203 rfl rfl c60K2b dX10_publish_62 rfl (by omega) rfl (by first | decide | simp [cat_rf, Value.category]) ?_
          refine pw_topi (fun v1 ev1 => ?_)
          refine pw_istore_n (pc2 := 66) (L2 := [(2, Value.int v1), (0, Value.ref (A 60 0)), (1, Value.int (nI p))]) dX10_publish_65 rfl rfl (by decide) rfl ?_
          subst ev1
          refine pw_aload_n (pc2 := 67) dX10_publish_66 rfl rfl 1 rfl (by first | exact rf_ref _ | exact rf_opt _ | exact rf_nul) ?_
          refine pw_get (pc2 := 70) kX10 (k := 17) (by decide) rfl fl_X10_61 c60K2b rfl dX10_publish_67 rfl ?_
          refine pw_aload_n (pc2 := 71) dX10_publish_70 rfl rfl 1 rfl (by first | exact rf_ref _ | exact rf_opt _ | exact rf_nul) ?_
          refine pw_get (pc2 := 74) kX10 (k := 24) (by decide) rfl fl_X10_146 c60K2b rfl dX10_publish_71 rfl ?_
          refine pw_topE (hb.2.1.trans (congrArg nI hr.symm)) ?_
          refine pw_iload_n (pc2 := 75) dX10_publish_74 rfl rfl 2 rfl ?_
          refine pw_iastN (pc2 := 76) k770K2 (i := r) (by first | assumption | omega) (by omega) dX10_publish_75 rfl ?_
          obtain ⟨K3, FK3⟩ := K2.wIF (FK2) (t := 77) (i := 0) (f := (upd (σ.1 77 0) r (nI p))) rfl (by decide) (iv_setI K2.iv (by decide)) rfl
          obtain ⟨h6, eh6⟩ : ∃ z : Nat → Option hE, z = va_up h7 (A 77 0) (some (aI 20 (upd (σ.1 77 0) r (nI p)))) := ⟨_, rfl⟩
          refine PW.heap (h' := h6) eh6.symm ?_
          replace K3 : WM G h6 A (setI (setI (setI (thS σ 0) 90 0 C) 60 0 (upd (upd (σ.1 60 0) 7 0) 7 0)) 77 0 (upd (σ.1 77 0) r (nI p))) := by rw [eh6]; exact K3
          replace FK3 : FM A h h6 := by rw [eh6]; exact FK3
          have c60K3 : h6 (A 60 0) = some (oB 13 [.ref (A 61 0), .ref (A 62 0), .ref (A 63 0), .ref (A 64 0), .ref (A 65 0), .ref (A 66 0), .ref (A 67 0), .ref (A 68 0), .ref (A 69 0), .ref (A 70 0), .ref (A 71 0), .ref (A 72 0), .ref (A 73 0), .ref (A 74 0), .ref (A 75 0), .ref (A 76 0), .int (σ.1 60 0 0), .ref (A 77 0), .ref (A 78 0), .ref (A 79 0), .ref (A 80 0), .ref (A 81 0), .ref (A 82 0), .ref (A 83 0), .int (σ.1 60 0 1), .ref (A 84 0), .ref (A 85 0), .ref (A 86 0), .ref (A 87 0), .ref (A 88 0), .int (σ.1 60 0 2), .int (σ.1 60 0 3), .ref (A 89 0), .int (σ.1 60 0 4), .int (σ.1 60 0 5), .int (σ.1 60 0 6), .ref (A 90 0), .int 0]) := K3.c60
          have k770K3 : h6 (A 77 0) = some (aI 20 (upd (σ.1 77 0) r (nI p))) := K3.c77.trans (congrArg (fun w => some (aI 20 w)) (show (setI (setI (setI (thS σ 0) 90 0 C) 60 0 (upd (upd (σ.1 60 0) 7 0) 7 0)) 77 0 (upd (σ.1 77 0) r (nI p))).1 77 0 = (upd (σ.1 77 0) r (nI p)) from setI_s _ _ _))
          have k780K3 : h6 (A 78 0) = some (aI 20 (σ.1 78 0)) := K3.c78
          have k790K3 : h6 (A 79 0) = some (aI 20 (σ.1 79 0)) := K3.c79
          have k620K3 : h6 (A 62 0) = some (aI 6 (σ.1 62 0)) := K3.c62
          have k91pK3 : h6 (A 91 p) = some (aI 6 (σ.1 91 p)) := (K3.c91 hp6)
          have k92pK3 : h6 (A 92 p) = some (aI 6 (σ.1 92 p)) := (K3.c92 hp6)
          refine pw_aload_n (pc2 := 77) dX10_publish_76 rfl rfl 1 rfl (by first | exact rf_ref _ | exact rf_opt _ | exact rf_nul) ?_
          refine pw_get (pc2 := 80) kX10 (k := 18) (by decide) rfl fl_X10_64 c60K3 rfl dX10_publish_77 rfl ?_
          refine pw_aload_n (pc2 := 81) dX10_publish_80 rfl rfl 1 rfl (by first | exact rf_ref _ | exact rf_opt _ | exact rf_nul) ?_
          refine pw_get (pc2 := 84) kX10 (k := 24) (by decide) rfl fl_X10_146 c60K3 rfl dX10_publish_81 rfl ?_
          refine pw_topE (hb.2.1.trans (congrArg nI hr.symm)) ?_
          refine pw_iload_n (pc2 := 85) dX10_publish_84 rfl rfl 0 rfl ?_
          refine pw_iastN (pc2 := 86) k780K3 (i := r) (by first | assumption | omega) (by omega) dX10_publish_85 rfl ?_
          obtain ⟨K4, FK4⟩ := K3.wIF (FK3) (t := 78) (i := 0) (f := (upd (σ.1 78 0) r (vAh σ p))) rfl (by decide) (iv_setI K3.iv (by decide)) rfl
          obtain ⟨h5, eh5⟩ : ∃ z : Nat → Option hE, z = va_up h6 (A 78 0) (some (aI 20 (upd (σ.1 78 0) r (vAh σ p)))) := ⟨_, rfl⟩
          refine PW.heap (h' := h5) eh5.symm ?_
          replace K4 : WM G h5 A (setI (setI (setI (setI (thS σ 0) 90 0 C) 60 0 (upd (upd (σ.1 60 0) 7 0) 7 0)) 77 0 (upd (σ.1 77 0) r (nI p))) 78 0 (upd (σ.1 78 0) r (vAh σ p))) := by rw [eh5]; exact K4
          replace FK4 : FM A h h5 := by rw [eh5]; exact FK4
          have c60K4 : h5 (A 60 0) = some (oB 13 [.ref (A 61 0), .ref (A 62 0), .ref (A 63 0), .ref (A 64 0), .ref (A 65 0), .ref (A 66 0), .ref (A 67 0), .ref (A 68 0), .ref (A 69 0), .ref (A 70 0), .ref (A 71 0), .ref (A 72 0), .ref (A 73 0), .ref (A 74 0), .ref (A 75 0), .ref (A 76 0), .int (σ.1 60 0 0), .ref (A 77 0), .ref (A 78 0), .ref (A 79 0), .ref (A 80 0), .ref (A 81 0), .ref (A 82 0), .ref (A 83 0), .int (σ.1 60 0 1), .ref (A 84 0), .ref (A 85 0), .ref (A 86 0), .ref (A 87 0), .ref (A 88 0), .int (σ.1 60 0 2), .int (σ.1 60 0 3), .ref (A 89 0), .int (σ.1 60 0 4), .int (σ.1 60 0 5), .int (σ.1 60 0 6), .ref (A 90 0), .int 0]) := K4.c60
          have k770K4 : h5 (A 77 0) = some (aI 20 (upd (σ.1 77 0) r (nI p))) := K4.c77.trans (congrArg (fun w => some (aI 20 w)) (show (setI (setI (setI (thS σ 0) 90 0 C) 60 0 (upd (upd (σ.1 60 0) 7 0) 7 0)) 77 0 (upd (σ.1 77 0) r (nI p))).1 77 0 = (upd (σ.1 77 0) r (nI p)) from setI_s _ _ _))
          have k780K4 : h5 (A 78 0) = some (aI 20 (upd (σ.1 78 0) r (vAh σ p))) := K4.c78.trans (congrArg (fun w => some (aI 20 w)) (show (setI (setI (setI (setI (thS σ 0) 90 0 C) 60 0 (upd (upd (σ.1 60 0) 7 0) 7 0)) 77 0 (upd (σ.1 77 0) r (nI p))) 78 0 (upd (σ.1 78 0) r (vAh σ p))).1 78 0 = (upd (σ.1 78 0) r (vAh σ p)) from setI_s _ _ _))
          have k790K4 : h5 (A 79 0) = some (aI 20 (σ.1 79 0)) := K4.c79
          have k620K4 : h5 (A 62 0) = some (aI 6 (σ.1 62 0)) := K4.c62
          have k91pK4 : h5 (A 91 p) = some (aI 6 (σ.1 91 p)) := (K4.c91 hp6)
          have k92pK4 : h5 (A 92 p) = some (aI 6 (σ.1 92 p)) := (K4.c92 hp6)
          refine pw_aload_n (pc2 := 87) dX10_publish_86 rfl rfl 1 rfl (by first | exact rf_ref _ | exact rf_opt _ | exact rf_nul) ?_
          refine pw_get (pc2 := 90) kX10 (k := 19) (by decide) rfl fl_X10_67 c60K4 rfl dX10_publish_87 rfl ?_
          refine pw_aload_n (pc2 := 91) dX10_publish_90 rfl rfl 1 rfl (by first | exact rf_ref _ | exact rf_opt _ | exact rf_nul) ?_
          refine pw_get (pc2 := 94) kX10 (k := 24) (by decide) rfl fl_X10_146 c60K4 rfl dX10_publish_91 rfl ?_
          refine pw_topE (hb.2.1.trans (congrArg nI hr.symm)) ?_
          refine pw_aload_n (pc2 := 95) dX10_publish_94 rfl rfl 1 rfl (by first | exact rf_ref _ | exact rf_opt _ | exact rf_nul) ?_
          refine pw_get (pc2 := 98) kX10 (k := 1) (by decide) rfl fl_X10_13 c60K4 rfl dX10_publish_95 rfl ?_
          refine pw_iload_n (pc2 := 99) dX10_publish_98 rfl rfl 2 rfl ?_
          refine pw_ialdN (pc2 := 100) k620K4 (i := p) (by first | assumption | omega) (by omega) dX10_publish_99 rfl ?_
          refine pw_iastN (pc2 := 101) k790K4 (i := r) (by first | assumption | omega) (by omega) dX10_publish_100 rfl ?_
          obtain ⟨K5, FK5⟩ := K4.wIF (FK4) (t := 79) (i := 0) (f := (upd (σ.1 79 0) r ((σ.1 62 0) p))) rfl (by decide) (iv_setI K4.iv (by decide)) rfl
          obtain ⟨h4, eh4⟩ : ∃ z : Nat → Option hE, z = va_up h5 (A 79 0) (some (aI 20 (upd (σ.1 79 0) r ((σ.1 62 0) p)))) := ⟨_, rfl⟩
          refine PW.heap (h' := h4) eh4.symm ?_
          replace K5 : WM G h4 A (setI (setI (setI (setI (setI (thS σ 0) 90 0 C) 60 0 (upd (upd (σ.1 60 0) 7 0) 7 0)) 77 0 (upd (σ.1 77 0) r (nI p))) 78 0 (upd (σ.1 78 0) r (vAh σ p))) 79 0 (upd (σ.1 79 0) r ((σ.1 62 0) p))) := by rw [eh4]; exact K5
          replace FK5 : FM A h h4 := by rw [eh4]; exact FK5
          have c60K5 : h4 (A 60 0) = some (oB 13 [.ref (A 61 0), .ref (A 62 0), .ref (A 63 0), .ref (A 64 0), .ref (A 65 0), .ref (A 66 0), .ref (A 67 0), .ref (A 68 0), .ref (A 69 0), .ref (A 70 0), .ref (A 71 0), .ref (A 72 0), .ref (A 73 0), .ref (A 74 0), .ref (A 75 0), .ref (A 76 0), .int (σ.1 60 0 0), .ref (A 77 0), .ref (A 78 0), .ref (A 79 0), .ref (A 80 0), .ref (A 81 0), .ref (A 82 0), .ref (A 83 0), .int (σ.1 60 0 1), .ref (A 84 0), .ref (A 85 0), .ref (A 86 0), .ref (A 87 0), .ref (A 88 0), .int (σ.1 60 0 2), .int (σ.1 60 0 3), .ref (A 89 0), .int (σ.1 60 0 4), .int (σ.1 60 0 5), .int (σ.1 60 0 6), .ref (A 90 0), .int 0]) := K5.c60
          have k770K5 : h4 (A 77 0) = some (aI 20 (upd (σ.1 77 0) r (nI p))) := K5.c77.trans (congrArg (fun w => some (aI 20 w)) (show (setI (setI (setI (thS σ 0) 90 0 C) 60 0 (upd (upd (σ.1 60 0) 7 0) 7 0)) 77 0 (upd (σ.1 77 0) r (nI p))).1 77 0 = (upd (σ.1 77 0) r (nI p)) from setI_s _ _ _))
          have k780K5 : h4 (A 78 0) = some (aI 20 (upd (σ.1 78 0) r (vAh σ p))) := K5.c78.trans (congrArg (fun w => some (aI 20 w)) (show (setI (setI (setI (setI (thS σ 0) 90 0 C) 60 0 (upd (upd (σ.1 60 0) 7 0) 7 0)) 77 0 (upd (σ.1 77 0) r (nI p))) 78 0 (upd (σ.1 78 0) r (vAh σ p))).1 78 0 = (upd (σ.1 78 0) r (vAh σ p)) from setI_s _ _ _))
          have k790K5 : h4 (A 79 0) = some (aI 20 (upd (σ.1 79 0) r ((σ.1 62 0) p))) := K5.c79.trans (congrArg (fun w => some (aI 20 w)) (show (setI (setI (setI (setI (setI (thS σ 0) 90 0 C) 60 0 (upd (upd (σ.1 60 0) 7 0) 7 0)) 77 0 (upd (σ.1 77 0) r (nI p))) 78 0 (upd (σ.1 78 0) r (vAh σ p))) 79 0 (upd (σ.1 79 0) r ((σ.1 62 0) p))).1 79 0 = (upd (σ.1 79 0) r ((σ.1 62 0) p)) from setI_s _ _ _))
          have k620K5 : h4 (A 62 0) = some (aI 6 (σ.1 62 0)) := K5.c62
          have k91pK5 : h4 (A 91 p) = some (aI 6 (σ.1 91 p)) := (K5.c91 hp6)
          have k92pK5 : h4 (A 92 p) = some (aI 6 (σ.1 92 p)) := (K5.c92 hp6)
          refine pw_iconst (pc2 := 102) (v := 0) dX10_publish_101 rfl (by decide) ?_
          refine pw_istore_n (pc2 := 103) (L2 := [(3, Value.int 0), (2, Value.int (vAh σ p)), (0, Value.ref (A 60 0)), (1, Value.int (nI p))]) dX10_publish_102 rfl rfl (by decide) rfl ?_
          replace K5 : WM G h4 A (mP7 σ p r C (vAh σ p)) := K5
          have loop3 : ∀ (k i : Nat) (hh : hp) (R1 R2 R3 : Nat → Int32) (Hh : WM G hh A (setI (setI (setI (mP7 σ p r C (vAh σ p)) 97 r R1) 98 r R2) 99 r R3)) (Fh : FM A h hh) (hRR : ∀ j, j < i → R1 j = σ.1 91 p j ∧ R2 j = σ.1 92 p j ∧ R3 j = vG σ (g' j)), i + k = 6 → PW G MX10_publish d noA (E0 G (fun r h2 => (¬ inR (nI p) (npk σ) ∧ QSM G h A (.int 0) (thS σ 1) r h2) ∨ (∃ p9 C, p9 < npk σ ∧ (nI p) = nI p9 ∧ (((¬ pubC σ p9 ∨ 999 < vAh σ p9) ∧ QSM G h A (.int 0) (thS (setI (thS σ 0) 90 0 C) 2) r h2) ∨ (pubC σ p9 ∧ vAh σ p9 ≤ 999 ∧ nrl σ = 20 ∧ QSM G h A (.int 0) (thS (setI (thS σ 0) 90 0 C) 3) r h2) ∨ (∃ g', srS σ p9 = some g' ∧ psW σ p9 g' ∧ vAh σ p9 ≤ 999 ∧ nrl σ < 20 ∧ ∃ R1 R2 R3, (∀ j, j < 6 → R1 j = σ.1 91 p9 j ∧ R2 j = σ.1 92 p9 j ∧ R3 j = vG σ (g' j)) ∧ QSM G h A (.int (vAh σ p9)) (mPU σ p9 (nrl σ) C (vAh σ p9) R1 R2 R3) r h2)))) noX) 0 0 103 [(3, Value.int (nI i)), (2, Value.int (vAh σ p)), (0, Value.ref (A 60 0)), (1, Value.int (nI p))] [] hh := by
            intro k
            induction k with
            | zero =>
              intro i hh R1 R2 R3 Hh Fh hRR hik
              have hi9r : i = 6 := by omega
              refine pw_iload_n (pc2 := 104) dX10_publish_103 rfl rfl 0 rfl ?_
              refine pw_bipush (pc2 := 106) (v := 6) dX10_publish_104 rfl (by decide) ?_
              refine pw_icmp_ge (tgt := 169) (pc2 := 109) dX10_publish_106 (by decide) rfl (fun _ => ?_) (fun c106 => by exact absurd (by first | (rw [hi9r]; exact Int32.le_refl _) | exact fun q => absurd ((l6 (by omega)).mp q) (by omega)) c106)
              subst hi9r
              have c60H : hh (A 60 0) = some (oB 13 [.ref (A 61 0), .ref (A 62 0), .ref (A 63 0), .ref (A 64 0), .ref (A 65 0), .ref (A 66 0), .ref (A 67 0), .ref (A 68 0), .ref (A 69 0), .ref (A 70 0), .ref (A 71 0), .ref (A 72 0), .ref (A 73 0), .ref (A 74 0), .ref (A 75 0), .ref (A 76 0), .int (σ.1 60 0 0), .ref (A 77 0), .ref (A 78 0), .ref (A 79 0), .ref (A 80 0), .ref (A 81 0), .ref (A 82 0), .ref (A 83 0), .int (σ.1 60 0 1), .ref (A 84 0), .ref (A 85 0), .ref (A 86 0), .ref (A 87 0), .ref (A 88 0), .int (σ.1 60 0 2), .int (σ.1 60 0 3), .ref (A 89 0), .int (σ.1 60 0 4), .int (σ.1 60 0 5), .int (σ.1 60 0 6), .ref (A 90 0), .int 0]) := Hh.c60
              have KH := Hh
              have FKH := Fh
              refine pw_aload_n (pc2 := 170) dX10_publish_169 rfl rfl 2 rfl (by first | exact rf_ref _ | exact rf_opt _ | exact rf_nul) ?_
              refine pw_dup (pc2 := 171) dX10_publish_170 rfl (by first | rfl | exact cat_rf _) ?_
              refine pw_get (pc2 := 174) kX10 (k := 24) (by decide) rfl fl_X10_146 c60H rfl dX10_publish_171 rfl ?_
              refine pw_topE (hb.2.1.trans (congrArg nI hr.symm)) ?_
              refine pw_iconst (pc2 := 175) (v := 1) dX10_publish_174 rfl (by decide) ?_
              refine pw_iadd (pc2 := 176) dX10_publish_175 rfl ?_
              refine pw_topE (nI_1 _) ?_
              refine pw_put (pc2 := 179) kX10 (k := 24) (by decide) rfl rfl fl_X10_146 c60H (by first | decide | simp) (by first | rfl | exact nar_rf _ _) (by first | rfl | exact fit_rf _ _) dX10_publish_176 rfl ?_
              obtain ⟨Kz, FKz⟩ := KH.wIF (FKH) (t := 60) (i := 0) (f := (upd (upd (upd (σ.1 60 0) 7 0) 7 0) 1 (nI (r + 1)))) rfl (by decide) (iv_setI KH.iv (by decide)) rfl
              obtain ⟨hz, ehz⟩ : ∃ z : Nat → Option hE, z = va_up hh (A 60 0) (some (oB 13 [.ref (A 61 0), .ref (A 62 0), .ref (A 63 0), .ref (A 64 0), .ref (A 65 0), .ref (A 66 0), .ref (A 67 0), .ref (A 68 0), .ref (A 69 0), .ref (A 70 0), .ref (A 71 0), .ref (A 72 0), .ref (A 73 0), .ref (A 74 0), .ref (A 75 0), .ref (A 76 0), .int (σ.1 60 0 0), .ref (A 77 0), .ref (A 78 0), .ref (A 79 0), .ref (A 80 0), .ref (A 81 0), .ref (A 82 0), .ref (A 83 0), .int (nI (r + 1)), .ref (A 84 0), .ref (A 85 0), .ref (A 86 0), .ref (A 87 0), .ref (A 88 0), .int (σ.1 60 0 2), .int (σ.1 60 0 3), .ref (A 89 0), .int (σ.1 60 0 4), .int (σ.1 60 0 5), .int (σ.1 60 0 6), .ref (A 90 0), .int 0])) := ⟨_, rfl⟩
              refine PW.heap (h' := hz) ehz.symm ?_
              replace Kz : WM G hz A (setI (setI (setI (setI (mP7 σ p r C (vAh σ p)) 97 r R1) 98 r R2) 99 r R3) 60 0 (upd (upd (upd (σ.1 60 0) 7 0) 7 0) 1 (nI (r + 1)))) := by rw [ehz]; exact Kz
              replace FKz : FM A h hz := by rw [ehz]; exact FKz
              have c60Kzb : hz (A 60 0) = some (oB 13 [.ref (A 61 0), .ref (A 62 0), .ref (A 63 0), .ref (A 64 0), .ref (A 65 0), .ref (A 66 0), .ref (A 67 0), .ref (A 68 0), .ref (A 69 0), .ref (A 70 0), .ref (A 71 0), .ref (A 72 0), .ref (A 73 0), .ref (A 74 0), .ref (A 75 0), .ref (A 76 0), .int (σ.1 60 0 0), .ref (A 77 0), .ref (A 78 0), .ref (A 79 0), .ref (A 80 0), .ref (A 81 0), .ref (A 82 0), .ref (A 83 0), .int (nI (r + 1)), .ref (A 84 0), .ref (A 85 0), .ref (A 86 0), .ref (A 87 0), .ref (A 88 0), .int (σ.1 60 0 2), .int (σ.1 60 0 3), .ref (A 89 0), .int (σ.1 60 0 4), .int (σ.1 60 0 5), .int (σ.1 60 0 6), .ref (A 90 0), .int 0]) := Kz.c60
              refine pw_iload_n (pc2 := 180) dX10_publish_179 rfl rfl 1 rfl ?_
              refine pw_iret dX10_publish_180 rfl (by first | rfl | assumption | simp [narrow]) ?_
              subst hr
              exact Or.inr ⟨p, C, hpp, rfl, Or.inr (Or.inr ⟨g', hs, hps, c27, hr20, R1, R2, R3, hRR, rfl, Kz, FKz⟩)⟩
            | succ k ih3 =>
              intro i hh R1 R2 R3 Hh Fh hRR hik
              have hi9r : i < 6 := by omega
              have r97 : hh (A 97 r) = some (aI 6 R1) := (Hh.c97 hr20).trans (congrArg (fun w => some (aI 6 w)) (setI_s (σ := (mP7 σ p r C (vAh σ p))) 97 r R1))
              have r98 : hh (A 98 r) = some (aI 6 R2) := (Hh.c98 hr20).trans (congrArg (fun w => some (aI 6 w)) (setI_s (σ := setI (mP7 σ p r C (vAh σ p)) 97 r R1) 98 r R2))
              have r99 : hh (A 99 r) = some (aI 6 R3) := (Hh.c99 hr20).trans (congrArg (fun w => some (aI 6 w)) (setI_s (σ := setI (setI (mP7 σ p r C (vAh σ p)) 97 r R1) 98 r R2) 99 r R3))
              have KH := Hh
              have FKH := Fh
              refine pw_iload_n (pc2 := 104) dX10_publish_103 rfl rfl 0 rfl ?_
              refine pw_bipush (pc2 := 106) (v := 6) dX10_publish_104 rfl (by decide) ?_
              refine pw_icmp_ge (tgt := 169) (pc2 := 109) dX10_publish_106 (by decide) rfl (fun c106 => by exact absurd c106 (by first | (rw [hi9r]; exact Int32.le_refl _) | exact fun q => absurd ((l6 (by omega)).mp q) (by omega))) (fun _ => ?_)
              refine pw_aload_n (pc2 := 110) dX10_publish_109 rfl rfl 2 rfl (by first | exact rf_ref _ | exact rf_opt _ | exact rf_nul) ?_
              refine pw_get (pc2 := 113) kX10 (k := 20) (by decide) rfl fl_X10_70 Hh.c60 rfl dX10_publish_110 rfl ?_
              refine pw_aload_n (pc2 := 114) dX10_publish_113 rfl rfl 2 rfl (by first | exact rf_ref _ | exact rf_opt _ | exact rf_nul) ?_
              refine pw_get (pc2 := 117) kX10 (k := 24) (by decide) rfl fl_X10_146 Hh.c60 rfl dX10_publish_114 rfl ?_
              refine pw_topE (hb.2.1.trans (congrArg nI hr.symm)) ?_
              refine pw_aaldN (pc2 := 118) 6 rfl rfl Hh.c80 (i := r) (by first | assumption | omega) (by omega) dX10_publish_117 rfl ?_
              refine pw_topV (rowv (by first | assumption | omega)) ?_
              refine pw_iload_n (pc2 := 119) dX10_publish_118 rfl rfl 0 rfl ?_
              refine pw_aload_n (pc2 := 120) dX10_publish_119 rfl rfl 2 rfl (by first | exact rf_ref _ | exact rf_opt _ | exact rf_nul) ?_
              refine pw_get (pc2 := 123) kX10 (k := 3) (by decide) rfl fl_X10_21 Hh.c60 rfl dX10_publish_120 rfl ?_
              refine pw_iload_n (pc2 := 124) dX10_publish_123 rfl rfl 3 rfl ?_
              refine pw_aaldN (pc2 := 125) 6 rfl rfl Hh.c64 (i := p) (by first | assumption | omega) (by omega) dX10_publish_124 rfl ?_
              refine pw_topV (rowv (by first | assumption | omega)) ?_
              refine pw_iload_n (pc2 := 126) dX10_publish_125 rfl rfl 0 rfl ?_
              refine pw_ialdN (pc2 := 127) (Hh.c91 hp6) (i := i) (by first | assumption | omega) (by omega) dX10_publish_126 rfl ?_
              refine pw_iastN (pc2 := 128) r97 (i := i) (by first | assumption | omega) (by omega) dX10_publish_127 rfl ?_
              obtain ⟨Kd, FKd⟩ := KH.wIF (FKH) (t := 97) (i := r) (f := (upd R1 i ((σ.1 91 p) i))) hr20 (by decide) (iv_setI KH.iv (by decide)) rfl
              obtain ⟨h1d, eh1d⟩ : ∃ z : Nat → Option hE, z = va_up hh (A 97 r) (some (aI 6 (upd R1 i ((σ.1 91 p) i)))) := ⟨_, rfl⟩
              refine PW.heap (h' := h1d) eh1d.symm ?_
              replace Kd : WM G h1d A (setI (setI (setI (setI (mP7 σ p r C (vAh σ p)) 97 r R1) 98 r R2) 99 r R3) 97 r (upd R1 i ((σ.1 91 p) i))) := by rw [eh1d]; exact Kd
              replace FKd : FM A h h1d := by rw [eh1d]; exact FKd
              have k91pKd : h1d (A 91 p) = some (aI 6 (σ.1 91 p)) := (Kd.c91 hp6)
              have k92pKd : h1d (A 92 p) = some (aI 6 (σ.1 92 p)) := (Kd.c92 hp6)
              have k98rKd : h1d (A 98 r) = some (aI 6 R2) := (Kd.c98 hr20).trans (congrArg (fun w => some (aI 6 w)) (setI_s (σ := setI (mP7 σ p r C (vAh σ p)) 97 r R1) 98 r R2))
              have k99rKd : h1d (A 99 r) = some (aI 6 R3) := (Kd.c99 hr20).trans (congrArg (fun w => some (aI 6 w)) (setI_s (σ := setI (setI (mP7 σ p r C (vAh σ p)) 97 r R1) 98 r R2) 99 r R3))
              have c60Kdq : h1d (A 60 0) = some (oB 13 [.ref (A 61 0), .ref (A 62 0), .ref (A 63 0), .ref (A 64 0), .ref (A 65 0), .ref (A 66 0), .ref (A 67 0), .ref (A 68 0), .ref (A 69 0), .ref (A 70 0), .ref (A 71 0), .ref (A 72 0), .ref (A 73 0), .ref (A 74 0), .ref (A 75 0), .ref (A 76 0), .int (σ.1 60 0 0), .ref (A 77 0), .ref (A 78 0), .ref (A 79 0), .ref (A 80 0), .ref (A 81 0), .ref (A 82 0), .ref (A 83 0), .int (σ.1 60 0 1), .ref (A 84 0), .ref (A 85 0), .ref (A 86 0), .ref (A 87 0), .ref (A 88 0), .int (σ.1 60 0 2), .int (σ.1 60 0 3), .ref (A 89 0), .int (σ.1 60 0 4), .int (σ.1 60 0 5), .int (σ.1 60 0 6), .ref (A 90 0), .int 0]) := Kd.c60
              refine pw_aload_n (pc2 := 129) dX10_publish_128 rfl rfl 2 rfl (by first | exact rf_ref _ | exact rf_opt _ | exact rf_nul) ?_
              refine pw_get (pc2 := 132) kX10 (k := 21) (by decide) rfl fl_X10_73 c60Kdq rfl dX10_publish_129 rfl ?_
              refine pw_aload_n (pc2 := 133) dX10_publish_132 rfl rfl 2 rfl (by first | exact rf_ref _ | exact rf_opt _ | exact rf_nul) ?_
              refine pw_get (pc2 := 136) kX10 (k := 24) (by decide) rfl fl_X10_146 c60Kdq rfl dX10_publish_133 rfl ?_
              refine pw_topE (hb.2.1.trans (congrArg nI hr.symm)) ?_
              refine pw_aaldN (pc2 := 137) 6 rfl rfl Kd.c81 (i := r) (by first | assumption | omega) (by omega) dX10_publish_136 rfl ?_
              refine pw_topV (rowv (by first | assumption | omega)) ?_
              refine pw_iload_n (pc2 := 138) dX10_publish_137 rfl rfl 0 rfl ?_
              refine pw_aload_n (pc2 := 139) dX10_publish_138 rfl rfl 2 rfl (by first | exact rf_ref _ | exact rf_opt _ | exact rf_nul) ?_
              refine pw_get (pc2 := 142) kX10 (k := 4) (by decide) rfl fl_X10_24 c60Kdq rfl dX10_publish_139 rfl ?_
              refine pw_iload_n (pc2 := 143) dX10_publish_142 rfl rfl 3 rfl ?_
              refine pw_aaldN (pc2 := 144) 6 rfl rfl Kd.c65 (i := p) (by first | assumption | omega) (by omega) dX10_publish_143 rfl ?_
              refine pw_topV (rowv (by first | assumption | omega)) ?_
              refine pw_iload_n (pc2 := 145) dX10_publish_144 rfl rfl 0 rfl ?_
              refine pw_ialdN (pc2 := 146) k92pKd (i := i) (by first | assumption | omega) (by omega) dX10_publish_145 rfl ?_
              refine pw_iastN (pc2 := 147) k98rKd (i := i) (by first | assumption | omega) (by omega) dX10_publish_146 rfl ?_
              obtain ⟨Ke, FKe⟩ := Kd.wIF (FKd) (t := 98) (i := r) (f := (upd R2 i ((σ.1 92 p) i))) hr20 (by decide) (iv_setI Kd.iv (by decide)) rfl
              obtain ⟨h1e, eh1e⟩ : ∃ z : Nat → Option hE, z = va_up h1d (A 98 r) (some (aI 6 (upd R2 i ((σ.1 92 p) i)))) := ⟨_, rfl⟩
              refine PW.heap (h' := h1e) eh1e.symm ?_
              replace Ke : WM G h1e A (setI (setI (setI (setI (setI (mP7 σ p r C (vAh σ p)) 97 r R1) 98 r R2) 99 r R3) 97 r (upd R1 i ((σ.1 91 p) i))) 98 r (upd R2 i ((σ.1 92 p) i))) := by rw [eh1e]; exact Ke
              replace FKe : FM A h h1e := by rw [eh1e]; exact FKe
              have k91pKe : h1e (A 91 p) = some (aI 6 (σ.1 91 p)) := (Ke.c91 hp6)
              have k92pKe : h1e (A 92 p) = some (aI 6 (σ.1 92 p)) := (Ke.c92 hp6)
              have k98rKe : h1e (A 98 r) = some (aI 6 (upd R2 i ((σ.1 92 p) i))) := (Ke.c98 hr20).trans (congrArg (fun w => some (aI 6 w)) (show (setI (setI (setI (setI (setI (mP7 σ p r C (vAh σ p)) 97 r R1) 98 r R2) 99 r R3) 97 r (upd R1 i ((σ.1 91 p) i))) 98 r (upd R2 i ((σ.1 92 p) i))).1 98 r = (upd R2 i ((σ.1 92 p) i)) from setI_s _ _ _))
              have k99rKe : h1e (A 99 r) = some (aI 6 R3) := (Ke.c99 hr20).trans (congrArg (fun w => some (aI 6 w)) (setI_s (σ := setI (setI (mP7 σ p r C (vAh σ p)) 97 r R1) 98 r R2) 99 r R3))
              have c60Keq : h1e (A 60 0) = some (oB 13 [.ref (A 61 0), .ref (A 62 0), .ref (A 63 0), .ref (A 64 0), .ref (A 65 0), .ref (A 66 0), .ref (A 67 0), .ref (A 68 0), .ref (A 69 0), .ref (A 70 0), .ref (A 71 0), .ref (A 72 0), .ref (A 73 0), .ref (A 74 0), .ref (A 75 0), .ref (A 76 0), .int (σ.1 60 0 0), .ref (A 77 0), .ref (A 78 0), .ref (A 79 0), .ref (A 80 0), .ref (A 81 0), .ref (A 82 0), .ref (A 83 0), .int (σ.1 60 0 1), .ref (A 84 0), .ref (A 85 0), .ref (A 86 0), .ref (A 87 0), .ref (A 88 0), .int (σ.1 60 0 2), .int (σ.1 60 0 3), .ref (A 89 0), .int (σ.1 60 0 4), .int (σ.1 60 0 5), .int (σ.1 60 0 6), .ref (A 90 0), .int 0]) := Ke.c60
              refine pw_aload_n (pc2 := 148) dX10_publish_147 rfl rfl 2 rfl (by first | exact rf_ref _ | exact rf_opt _ | exact rf_nul) ?_
              refine pw_get (pc2 := 151) kX10 (k := 22) (by decide) rfl fl_X10_76 c60Keq rfl dX10_publish_148 rfl ?_
              refine pw_aload_n (pc2 := 152) dX10_publish_151 rfl rfl 2 rfl (by first | exact rf_ref _ | exact rf_opt _ | exact rf_nul) ?_
              refine pw_get (pc2 := 155) kX10 (k := 24) (by decide) rfl fl_X10_146 c60Keq rfl dX10_publish_152 rfl ?_
              refine pw_topE (hb.2.1.trans (congrArg nI hr.symm)) ?_
              refine pw_aaldN (pc2 := 156) 6 rfl rfl Ke.c82 (i := r) (by first | assumption | omega) (by omega) dX10_publish_155 rfl ?_
              refine pw_topV (rowv (by first | assumption | omega)) ?_
              refine pw_iload_n (pc2 := 157) dX10_publish_156 rfl rfl 0 rfl ?_
              refine pw_aload_n (pc2 := 158) dX10_publish_157 rfl rfl 2 rfl (by first | exact rf_ref _ | exact rf_opt _ | exact rf_nul) ?_
              refine pw_iload_n (pc2 := 159) dX10_publish_158 rfl rfl 0 rfl ?_
              refine pw_callV1 (pc2 := 162) (c_verInV G _ Ke (g := g') hgb' hi9r hCC (fun x hx => (if_neg (fun z => Nat.lt_irrefl _ (by rw [z] at hx; exact hr ▸ hx))).trans (hR.1.1 x hx).2.2.1)) cs_X10_155 rfl rfl c60Keq dX10_publish_159 rfl (by omega) rfl (by first | decide | simp [cat_rf, Value.category]) ?_
              refine pw_iastN (pc2 := 163) k99rKe (i := i) (by first | assumption | omega) (by omega) dX10_publish_162 rfl ?_
              obtain ⟨Kf, FKf⟩ := Ke.wIF (FKe) (t := 99) (i := r) (f := (upd R3 i (vG σ (g' i)))) hr20 (by decide) (iv_setI Ke.iv (by decide)) rfl
              obtain ⟨h1f, eh1f⟩ : ∃ z : Nat → Option hE, z = va_up h1e (A 99 r) (some (aI 6 (upd R3 i (vG σ (g' i))))) := ⟨_, rfl⟩
              refine PW.heap (h' := h1f) eh1f.symm ?_
              replace Kf : WM G h1f A (setI (setI (setI (setI (setI (setI (mP7 σ p r C (vAh σ p)) 97 r R1) 98 r R2) 99 r R3) 97 r (upd R1 i ((σ.1 91 p) i))) 98 r (upd R2 i ((σ.1 92 p) i))) 99 r (upd R3 i (vG σ (g' i)))) := by rw [eh1f]; exact Kf
              replace FKf : FM A h h1f := by rw [eh1f]; exact FKf
              have k91pKf : h1f (A 91 p) = some (aI 6 (σ.1 91 p)) := (Kf.c91 hp6)
              have k92pKf : h1f (A 92 p) = some (aI 6 (σ.1 92 p)) := (Kf.c92 hp6)
              have k98rKf : h1f (A 98 r) = some (aI 6 (upd R2 i ((σ.1 92 p) i))) := (Kf.c98 hr20).trans (congrArg (fun w => some (aI 6 w)) (show (setI (setI (setI (setI (setI (mP7 σ p r C (vAh σ p)) 97 r R1) 98 r R2) 99 r R3) 97 r (upd R1 i ((σ.1 91 p) i))) 98 r (upd R2 i ((σ.1 92 p) i))).1 98 r = (upd R2 i ((σ.1 92 p) i)) from setI_s _ _ _))
              have k99rKf : h1f (A 99 r) = some (aI 6 (upd R3 i (vG σ (g' i)))) := (Kf.c99 hr20).trans (congrArg (fun w => some (aI 6 w)) (show (setI (setI (setI (setI (setI (setI (mP7 σ p r C (vAh σ p)) 97 r R1) 98 r R2) 99 r R3) 97 r (upd R1 i ((σ.1 91 p) i))) 98 r (upd R2 i ((σ.1 92 p) i))) 99 r (upd R3 i (vG σ (g' i)))).1 99 r = (upd R3 i (vG σ (g' i))) from setI_s _ _ _))
              have c60Kfq : h1f (A 60 0) = some (oB 13 [.ref (A 61 0), .ref (A 62 0), .ref (A 63 0), .ref (A 64 0), .ref (A 65 0), .ref (A 66 0), .ref (A 67 0), .ref (A 68 0), .ref (A 69 0), .ref (A 70 0), .ref (A 71 0), .ref (A 72 0), .ref (A 73 0), .ref (A 74 0), .ref (A 75 0), .ref (A 76 0), .int (σ.1 60 0 0), .ref (A 77 0), .ref (A 78 0), .ref (A 79 0), .ref (A 80 0), .ref (A 81 0), .ref (A 82 0), .ref (A 83 0), .int (σ.1 60 0 1), .ref (A 84 0), .ref (A 85 0), .ref (A 86 0), .ref (A 87 0), .ref (A 88 0), .int (σ.1 60 0 2), .int (σ.1 60 0 3), .ref (A 89 0), .int (σ.1 60 0 4), .int (σ.1 60 0 5), .int (σ.1 60 0 6), .ref (A 90 0), .int 0]) := Kf.c60
              refine pw_iinc (pc2 := 166) (v := nI (i + 1)) (L2 := [(3, Value.int (nI (i + 1))), (2, Value.int (vAh σ p)), (0, Value.ref (A 60 0)), (1, Value.int (nI p))]) dX10_publish_163 rfl 0 rfl (by show nI _ + 1 = nI _; exact nI_1 _) (by decide) rfl ?_
              refine pw_goto (tgt := 103) dX10_publish_166 (by decide) ?_
              refine PW.sub (L2 := [(3, Value.int (nI (i + 1))), (2, Value.int (vAh σ p)), (0, Value.ref (A 60 0)), (1, Value.int (nI p))]) [0, 1, 2, 3] rfl ?_
              refine ih3 (i + 1) h1f (upd R1 i (σ.1 91 p i)) (upd R2 i (σ.1 92 p i)) (upd R3 i (vG σ (g' i))) (by rw [← set3 (f := R1) (g := R2) (k := R3)]; exact Kf) FKf (fun j hj => ?_) (by omega)
              by_cases ej : j = i
              · subst ej; rw [upd_s, upd_s, upd_s]; exact ⟨rfl, rfl, rfl⟩
              · exact ⟨(if_neg ej).trans (hRR j (by omega)).1, (if_neg ej).trans (hRR j (by omega)).2.1, (if_neg ej).trans (hRR j (by omega)).2.2⟩
          refine PW.sub (L2 := [(3, Value.int 0), (2, Value.int (vAh σ p)), (0, Value.ref (A 60 0)), (1, Value.int (nI p))]) [0, 1, 2, 3] rfl ?_
          refine loop3 6 0 h4 (σ.1 97 r) (σ.1 98 r) (σ.1 99 r) ?_ FK5 (fun j hj => absurd hj (Nat.not_lt_zero j)) (by omega)
          have e97 : setI (mP7 σ p r C (vAh σ p)) 97 r (σ.1 97 r) = (mP7 σ p r C (vAh σ p)) := setI_id rfl
          have e98 : setI (mP7 σ p r C (vAh σ p)) 98 r (σ.1 98 r) = (mP7 σ p r C (vAh σ p)) := setI_id rfl
          have e99 : setI (mP7 σ p r C (vAh σ p)) 99 r (σ.1 99 r) = (mP7 σ p r C (vAh σ p)) := setI_id rfl
          rw [e97, e98, e99]
          exact K5
        · refine pw_iconst (pc2 := 44) (v := 3) dX10_publish_43 rfl (by decide) ?_
          refine pw_goto (tgt := 48) dX10_publish_44 (by decide) ?_
          refine pw_put (pc2 := 51) kX10 (k := 37) (by decide) rfl rfl fl_X10_109 c60K0 (by first | decide | simp) (by first | rfl | exact nar_rf _ _) (by first | rfl | exact fit_rf _ _) dX10_publish_48 rfl ?_
          obtain ⟨K2, FK2⟩ := K0.wIF (FK0) (t := 60) (i := 0) (f := (upd (upd (σ.1 60 0) 7 0) 7 3)) rfl (by decide) (iv_setI K0.iv (by decide)) rfl
          obtain ⟨h7, eh7⟩ : ∃ z : Nat → Option hE, z = va_up h8 (A 60 0) (some (oB 13 [.ref (A 61 0), .ref (A 62 0), .ref (A 63 0), .ref (A 64 0), .ref (A 65 0), .ref (A 66 0), .ref (A 67 0), .ref (A 68 0), .ref (A 69 0), .ref (A 70 0), .ref (A 71 0), .ref (A 72 0), .ref (A 73 0), .ref (A 74 0), .ref (A 75 0), .ref (A 76 0), .int (σ.1 60 0 0), .ref (A 77 0), .ref (A 78 0), .ref (A 79 0), .ref (A 80 0), .ref (A 81 0), .ref (A 82 0), .ref (A 83 0), .int (σ.1 60 0 1), .ref (A 84 0), .ref (A 85 0), .ref (A 86 0), .ref (A 87 0), .ref (A 88 0), .int (σ.1 60 0 2), .int (σ.1 60 0 3), .ref (A 89 0), .int (σ.1 60 0 4), .int (σ.1 60 0 5), .int (σ.1 60 0 6), .ref (A 90 0), .int 3])) := ⟨_, rfl⟩
          refine PW.heap (h' := h7) eh7.symm ?_
          replace K2 : WM G h7 A (setI (setI (thS σ 0) 90 0 C) 60 0 (upd (upd (σ.1 60 0) 7 0) 7 3)) := by rw [eh7]; exact K2
          replace FK2 : FM A h h7 := by rw [eh7]; exact FK2
          have c60K2b : h7 (A 60 0) = some (oB 13 [.ref (A 61 0), .ref (A 62 0), .ref (A 63 0), .ref (A 64 0), .ref (A 65 0), .ref (A 66 0), .ref (A 67 0), .ref (A 68 0), .ref (A 69 0), .ref (A 70 0), .ref (A 71 0), .ref (A 72 0), .ref (A 73 0), .ref (A 74 0), .ref (A 75 0), .ref (A 76 0), .int (σ.1 60 0 0), .ref (A 77 0), .ref (A 78 0), .ref (A 79 0), .ref (A 80 0), .ref (A 81 0), .ref (A 82 0), .ref (A 83 0), .int (σ.1 60 0 1), .ref (A 84 0), .ref (A 85 0), .ref (A 86 0), .ref (A 87 0), .ref (A 88 0), .int (σ.1 60 0 2), .int (σ.1 60 0 3), .ref (A 89 0), .int (σ.1 60 0 4), .int (σ.1 60 0 5), .int (σ.1 60 0 6), .ref (A 90 0), .int 3]) := K2.c60
          refine pw_aload_n (pc2 := 52) dX10_publish_51 rfl rfl 0 rfl (by first | exact rf_ref _ | exact rf_opt _ | exact rf_nul) ?_
          refine pw_get (pc2 := 55) kX10 (k := 37) (by decide) rfl fl_X10_109 c60K2b rfl dX10_publish_52 rfl ?_
          refine pw_if_le (tgt := 60) (pc2 := 58) dX10_publish_55 (by decide) rfl (fun c55 => by exact absurd c55 (by decide)) (fun _ => ?_)
          refine pw_iconst (pc2 := 59) (v := 0) dX10_publish_58 rfl (by decide) ?_
          refine pw_iret dX10_publish_59 rfl (by first | rfl | assumption | simp [narrow]) ?_
          exact Or.inr ⟨p, C, hpp, rfl, Or.inr (Or.inl ⟨hpc, c27, by rw [← hr]; exact nI_inj (by omega) (by decide) c40, rfl, K2, FK2⟩)⟩
      · refine pw_iconst (pc2 := 31) (v := 2) dX10_publish_30 rfl (by decide) ?_
        refine pw_goto (tgt := 48) dX10_publish_31 (by decide) ?_
        refine pw_put (pc2 := 51) kX10 (k := 37) (by decide) rfl rfl fl_X10_109 c60K0 (by first | decide | simp) (by first | rfl | exact nar_rf _ _) (by first | rfl | exact fit_rf _ _) dX10_publish_48 rfl ?_
        obtain ⟨K2, FK2⟩ := K0.wIF (FK0) (t := 60) (i := 0) (f := (upd (upd (σ.1 60 0) 7 0) 7 2)) rfl (by decide) (iv_setI K0.iv (by decide)) rfl
        obtain ⟨h7, eh7⟩ : ∃ z : Nat → Option hE, z = va_up h8 (A 60 0) (some (oB 13 [.ref (A 61 0), .ref (A 62 0), .ref (A 63 0), .ref (A 64 0), .ref (A 65 0), .ref (A 66 0), .ref (A 67 0), .ref (A 68 0), .ref (A 69 0), .ref (A 70 0), .ref (A 71 0), .ref (A 72 0), .ref (A 73 0), .ref (A 74 0), .ref (A 75 0), .ref (A 76 0), .int (σ.1 60 0 0), .ref (A 77 0), .ref (A 78 0), .ref (A 79 0), .ref (A 80 0), .ref (A 81 0), .ref (A 82 0), .ref (A 83 0), .int (σ.1 60 0 1), .ref (A 84 0), .ref (A 85 0), .ref (A 86 0), .ref (A 87 0), .ref (A 88 0), .int (σ.1 60 0 2), .int (σ.1 60 0 3), .ref (A 89 0), .int (σ.1 60 0 4), .int (σ.1 60 0 5), .int (σ.1 60 0 6), .ref (A 90 0), .int 2])) := ⟨_, rfl⟩
        refine PW.heap (h' := h7) eh7.symm ?_
        replace K2 : WM G h7 A (setI (setI (thS σ 0) 90 0 C) 60 0 (upd (upd (σ.1 60 0) 7 0) 7 2)) := by rw [eh7]; exact K2
        replace FK2 : FM A h h7 := by rw [eh7]; exact FK2
        have c60K2b : h7 (A 60 0) = some (oB 13 [.ref (A 61 0), .ref (A 62 0), .ref (A 63 0), .ref (A 64 0), .ref (A 65 0), .ref (A 66 0), .ref (A 67 0), .ref (A 68 0), .ref (A 69 0), .ref (A 70 0), .ref (A 71 0), .ref (A 72 0), .ref (A 73 0), .ref (A 74 0), .ref (A 75 0), .ref (A 76 0), .int (σ.1 60 0 0), .ref (A 77 0), .ref (A 78 0), .ref (A 79 0), .ref (A 80 0), .ref (A 81 0), .ref (A 82 0), .ref (A 83 0), .int (σ.1 60 0 1), .ref (A 84 0), .ref (A 85 0), .ref (A 86 0), .ref (A 87 0), .ref (A 88 0), .int (σ.1 60 0 2), .int (σ.1 60 0 3), .ref (A 89 0), .int (σ.1 60 0 4), .int (σ.1 60 0 5), .int (σ.1 60 0 6), .ref (A 90 0), .int 2]) := K2.c60
        refine pw_aload_n (pc2 := 52) dX10_publish_51 rfl rfl 0 rfl (by first | exact rf_ref _ | exact rf_opt _ | exact rf_nul) ?_
        refine pw_get (pc2 := 55) kX10 (k := 37) (by decide) rfl fl_X10_109 c60K2b rfl dX10_publish_52 rfl ?_
        refine pw_if_le (tgt := 60) (pc2 := 58) dX10_publish_55 (by decide) rfl (fun c55 => by exact absurd c55 (by decide)) (fun _ => ?_)
        refine pw_iconst (pc2 := 59) (v := 0) dX10_publish_58 rfl (by decide) ?_
        refine pw_iret dX10_publish_59 rfl (by first | rfl | assumption | simp [narrow]) ?_
        exact Or.inr ⟨p, C, hpp, rfl, Or.inl ⟨by first | exact Or.inl hnp9 | exact Or.inr (Int32.not_le.mp c27), rfl, K2, FK2⟩⟩
    · replace hnp9 : ¬ pubC σ p := fun z => hnp9 (pubC_th.mpr z)
      have c60K0 : h8 (A 60 0) = some (oB 13 [.ref (A 61 0), .ref (A 62 0), .ref (A 63 0), .ref (A 64 0), .ref (A 65 0), .ref (A 66 0), .ref (A 67 0), .ref (A 68 0), .ref (A 69 0), .ref (A 70 0), .ref (A 71 0), .ref (A 72 0), .ref (A 73 0), .ref (A 74 0), .ref (A 75 0), .ref (A 76 0), .int (σ.1 60 0 0), .ref (A 77 0), .ref (A 78 0), .ref (A 79 0), .ref (A 80 0), .ref (A 81 0), .ref (A 82 0), .ref (A 83 0), .int (σ.1 60 0 1), .ref (A 84 0), .ref (A 85 0), .ref (A 86 0), .ref (A 87 0), .ref (A 88 0), .int (σ.1 60 0 2), .int (σ.1 60 0 3), .ref (A 89 0), .int (σ.1 60 0 4), .int (σ.1 60 0 5), .int (σ.1 60 0 6), .ref (A 90 0), .int 0]) := K0.c60
      refine pw_if_eq (tgt := 30) (pc2 := 19) dX10_publish_16 (by decide) rfl (fun _ => ?_) (fun c16 => by exact absurd (by decide) c16)
      refine pw_iconst (pc2 := 31) (v := 2) dX10_publish_30 rfl (by decide) ?_
      refine pw_goto (tgt := 48) dX10_publish_31 (by decide) ?_
      refine pw_put (pc2 := 51) kX10 (k := 37) (by decide) rfl rfl fl_X10_109 c60K0 (by first | decide | simp) (by first | rfl | exact nar_rf _ _) (by first | rfl | exact fit_rf _ _) dX10_publish_48 rfl ?_
      obtain ⟨K2, FK2⟩ := K0.wIF (FK0) (t := 60) (i := 0) (f := (upd (upd (σ.1 60 0) 7 0) 7 2)) rfl (by decide) (iv_setI K0.iv (by decide)) rfl
      obtain ⟨h7, eh7⟩ : ∃ z : Nat → Option hE, z = va_up h8 (A 60 0) (some (oB 13 [.ref (A 61 0), .ref (A 62 0), .ref (A 63 0), .ref (A 64 0), .ref (A 65 0), .ref (A 66 0), .ref (A 67 0), .ref (A 68 0), .ref (A 69 0), .ref (A 70 0), .ref (A 71 0), .ref (A 72 0), .ref (A 73 0), .ref (A 74 0), .ref (A 75 0), .ref (A 76 0), .int (σ.1 60 0 0), .ref (A 77 0), .ref (A 78 0), .ref (A 79 0), .ref (A 80 0), .ref (A 81 0), .ref (A 82 0), .ref (A 83 0), .int (σ.1 60 0 1), .ref (A 84 0), .ref (A 85 0), .ref (A 86 0), .ref (A 87 0), .ref (A 88 0), .int (σ.1 60 0 2), .int (σ.1 60 0 3), .ref (A 89 0), .int (σ.1 60 0 4), .int (σ.1 60 0 5), .int (σ.1 60 0 6), .ref (A 90 0), .int 2])) := ⟨_, rfl⟩
      refine PW.heap (h' := h7) eh7.symm ?_
      replace K2 : WM G h7 A (setI (setI (thS σ 0) 90 0 C) 60 0 (upd (upd (σ.1 60 0) 7 0) 7 2)) := by rw [eh7]; exact K2
      replace FK2 : FM A h h7 := by rw [eh7]; exact FK2
      have c60K2b : h7 (A 60 0) = some (oB 13 [.ref (A 61 0), .ref (A 62 0), .ref (A 63 0), .ref (A 64 0), .ref (A 65 0), .ref (A 66 0), .ref (A 67 0), .ref (A 68 0), .ref (A 69 0), .ref (A 70 0), .ref (A 71 0), .ref (A 72 0), .ref (A 73 0), .ref (A 74 0), .ref (A 75 0), .ref (A 76 0), .int (σ.1 60 0 0), .ref (A 77 0), .ref (A 78 0), .ref (A 79 0), .ref (A 80 0), .ref (A 81 0), .ref (A 82 0), .ref (A 83 0), .int (σ.1 60 0 1), .ref (A 84 0), .ref (A 85 0), .ref (A 86 0), .ref (A 87 0), .ref (A 88 0), .int (σ.1 60 0 2), .int (σ.1 60 0 3), .ref (A 89 0), .int (σ.1 60 0 4), .int (σ.1 60 0 5), .int (σ.1 60 0 6), .ref (A 90 0), .int 2]) := K2.c60
      refine pw_aload_n (pc2 := 52) dX10_publish_51 rfl rfl 0 rfl (by first | exact rf_ref _ | exact rf_opt _ | exact rf_nul) ?_
      refine pw_get (pc2 := 55) kX10 (k := 37) (by decide) rfl fl_X10_109 c60K2b rfl dX10_publish_52 rfl ?_
      refine pw_if_le (tgt := 60) (pc2 := 58) dX10_publish_55 (by decide) rfl (fun c55 => by exact absurd c55 (by decide)) (fun _ => ?_)
      refine pw_iconst (pc2 := 59) (v := 0) dX10_publish_58 rfl (by decide) ?_
      refine pw_iret dX10_publish_59 rfl (by first | rfl | assumption | simp [narrow]) ?_
      exact Or.inr ⟨p, C, hpp, rfl, Or.inl ⟨by first | exact Or.inl hnp9 | exact Or.inr (Int32.not_le.mp c27), rfl, K2, FK2⟩⟩
  · refine pw_if_eq (tgt := 10) (pc2 := 8) dX10_publish_5 (by decide) rfl (fun c5 => by exact absurd c5 (by decide)) (fun _ => ?_)
    refine pw_iconst (pc2 := 9) (v := 0) dX10_publish_8 rfl (by decide) ?_
    refine pw_iret dX10_publish_9 rfl (by first | rfl | assumption | simp [narrow]) ?_
    exact Or.inl ⟨hin, rfl, K1, FK1⟩
