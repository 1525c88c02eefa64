/-! PackageForge: the plain calls, releases, figures -/
theorem vf_n64_of {r : UInt64} (h : FP.Core.dIsNaN r = false) : vf_n64 r := by
  have h2 : ¬ 9218868437227405312 < r.toNat % 2 ^ 63 := fun q => by rw [(FP.Core.isNaN_bits r).mpr q] at h; cases h
  unfold vf_n64
  rw [UInt64.le_iff_toNat_le, UInt64.toNat_and, show (0x7fffffffffffffff : UInt64).toNat = 2 ^ 63 - 1 from rfl, Nat.and_two_pow_sub_one_eq_mod]
  exact Nat.not_lt.mp h2
theorem vf_n32_of {r : UInt32} (h : FP.Core.fIsNaN r = false) : vf_n32 r := by
  have h2 : ¬ 2139095040 < r.toNat % 2 ^ 31 := fun q => by rw [(FP.Core.isNaN_bits32 r).mpr q] at h; cases h
  unfold vf_n32
  rw [UInt32.le_iff_toNat_le, UInt32.toNat_and, show (0x7fffffff : UInt32).toNat = 2 ^ 31 - 1 from rfl, Nat.and_two_pow_sub_one_eq_mod]
  exact Nat.not_lt.mp h2
theorem dfin_nn {a : UInt64} (h : FP.Core.DFin a) : FP.Core.dIsNaN a = false := by
  cases e : FP.Core.dIsNaN a with
  | false => rfl
  | true =>
    obtain ⟨s, c, q, hq⟩ := h
    rw [(FP.Core.dIsNaN_iff a).mp e] at hq
    cases hq
theorem ffin_nn {a : UInt32} (h : FP.Core.FFin a) : FP.Core.fIsNaN a = false := by
  cases e : FP.Core.fIsNaN a with
  | false => rfl
  | true =>
    obtain ⟨s, c, q, hq⟩ := h
    rw [(FP.Core.fIsNaN_iff a).mp e] at hq
    cases hq
theorem ddn {a b : Int32} (hb : b ≠ 0) : FP.Core.dIsNaN (FP.ddiv (FP.i2d a) (FP.i2d b)) = false := by
  rw [FP.ddiv_core, FP.i2d_core]
  exact FP.Core.ddiv_out (dfin_nn (FP.Core.i2d_fin a)) (FP.Core.i2d_fin b) (fun q => FP.Core.i2d_ne_zero hb ((FP.Core.zero_bits2 _).mp q))
theorem fdn {a b : Int32} (hb : b ≠ 0) : FP.Core.fIsNaN (FP.fdiv (FP.i2f a) (FP.i2f b)) = false := by
  rw [FP.fdiv_core, FP.i2f_core]
  exact FP.Core.fdiv_out (ffin_nn (FP.Core.i2f_fin a)) (FP.Core.i2f_fin b) (fun q => FP.Core.i2f_ne_zero hb ((FP.Core.zero_bits232 _).mp q))
theorem f2n {a : UInt32} (h : FP.Core.fIsNaN a = false) : FP.Core.dIsNaN (FP.f2d a) = false := by
  have := FP.f2d_nan a
  rw [show FP.Core.dIsNaN (FP.f2d a) = FP.Core.fIsNaN a from this]
  exact h
theorem inR_q {p q k : Nat} (hp : p < k) (hk : k < 2147483648) (hq : q < k) (e : nI p = nI q) : p = q := (nI_eq (by omega) (by omega)).mp e
set_option maxHeartbeats 4000000 in
set_option maxRecDepth 100000 in
theorem c_compiled (G : hG) (h : hp) {A : aT} {σ : sT} (H : W9 G h A σ) : PMet G MX9_compiled 0 0 0 [.ref (A 0 0)] h (det (some (.int (σ.1 0 0 1))) h) noX := by
  refine PMet.of (by decide +kernel) (Nat.le_of_ble_eq_true rfl) (fun d hd => ?_)
  refine PW.sub (L2 := [(0, Value.ref (A 0 0))]) [0] rfl ?_
  refine pw_aload_n (pc2 := 1) dX9_compiled_0 rfl rfl 0 rfl (by first | exact rf_ref _ | exact rf_opt _ | exact rf_nul) ?_
  refine pw_get (pc2 := 4) kX9 (k := 7) (by decide) rfl fl_X9_151 H.c0 rfl dX9_compiled_1 rfl ?_
  refine pw_iret dX9_compiled_4 rfl (by first | rfl | assumption | simp [narrow]) ?_
  exact ⟨rfl, rfl⟩
set_option maxHeartbeats 4000000 in
set_option maxRecDepth 100000 in
theorem c_setFail (G : hG) (h : hp) {A : aT} {σ : sT} (H : W9 G h A σ) (n : Int32) {x : Int32} (hx : b01 x) : PMet G MX9_setFailing 5 1 6 [.ref (A 0 0), .int n, .int x] h (fun r h2 => ∃ t, t < nts σ ∧ n = nI t ∧ QS G h A (.int (σ.1 50 t 2)) (setI σ 50 t (upd (σ.1 50 t) 2 x)) r h2) (fun C h2 => h2 = h ∧ C = xIO ∧ ¬ inR n (nts σ)) := by
  refine PMet.of (by decide +kernel) (Nat.le_of_ble_eq_true rfl) (fun d hd => ?_)
  refine PW.sub (L2 := [(0, Value.ref (A 0 0)), (1, Value.int n), (2, Value.int x)]) [0, 1, 2] rfl ?_
  refine pw_aload_n (pc2 := 1) dX9_setFailing_0 rfl rfl 0 rfl (by first | exact rf_ref _ | exact rf_opt _ | exact rf_nul) ?_
  refine pw_iload_n (pc2 := 2) dX9_setFailing_1 rfl rfl 1 rfl ?_
  refine pw_callV (pc2 := 5) (c_tsat G _ H n) cs_X9_163 rfl rfl H.c0 dX9_setFailing_2 rfl (by omega) rfl (by first | decide | simp [cat_rf, Value.category]) (fun r9 h9 q9 => ?_) (fun Y h9 q9 => px_out rfl (⟨q9.2.1, q9.1, q9.2.2⟩))
  obtain ⟨rfl, t, ht, rfl, rfl⟩ := q9
  refine pw_astore_n (pc2 := 6) (L2 := [(3, Value.ref (A 50 t)), (0, Value.ref (A 0 0)), (1, Value.int (nI t)), (2, Value.int x)]) dX9_setFailing_5 rfl rfl (by decide) (by first | exact rf_ref _ | exact rf_opt _ | exact rf_nul) rfl ?_
  have hb2 := (H.iv.2.2.2.2.2.2.2.2.2.2 t ht).1
  refine pw_aload_n (pc2 := 7) dX9_setFailing_6 rfl rfl 0 rfl (by first | exact rf_ref _ | exact rf_opt _ | exact rf_nul) ?_
  refine pw_getN (pc2 := 10) kX7 (k := 2) (by decide) rfl fl_X9_167 (H.c50 ht) rfl dX9_setFailing_7 rfl ?_
  refine pw_topi (fun v1 ev1 => ?_)
  refine pw_istore (pc2 := 12) (L2 := [(4, Value.int v1), (3, Value.ref (A 50 t)), (0, Value.ref (A 0 0)), (1, Value.int (nI t)), (2, Value.int x)]) dX9_setFailing_10 rfl (by decide) rfl ?_
  refine pw_aload_n (pc2 := 13) dX9_setFailing_12 rfl rfl 1 rfl (by first | exact rf_ref _ | exact rf_opt _ | exact rf_nul) ?_
  refine pw_iload_n (pc2 := 14) dX9_setFailing_13 rfl rfl 4 rfl ?_
  refine pw_putN (pc2 := 17) kX7 (k := 2) (by decide) rfl rfl fl_X9_167 (H.c50 ht) (by first | decide | simp) (nar_b2 hx) (fit_b hx) dX9_setFailing_14 rfl ?_
  refine pw_iload (pc2 := 19) dX9_setFailing_17 rfl 0 rfl ?_
  subst ev1
  refine pw_iret dX9_setFailing_19 rfl (nar_b2 hb2) ?_
  obtain ⟨K1, FK1⟩ := H.wIF (FR.rfl') (t := 50) (i := t) (f := (upd (σ.1 50 t) 2 x)) ht (by decide) (iv_I H.iv (fun q => absurd q (by decide)) (fun _ => hx) (fun q => absurd q (by decide))) rfl
  exact ⟨t, ht, rfl, rfl, K1, FK1⟩
set_option maxHeartbeats 4000000 in
set_option maxRecDepth 100000 in
theorem c_setMach (G : hG) (h : hp) {A : aT} {σ : sT} (H : W9 G h A σ) (m : Int32) : PMet G MX9_setMachines 1 1 6 [.ref (A 0 0), .int m] h (fun r h2 => (1 ≤ m ∧ m ≤ 4) ∧ QS G h A (.int (σ.1 0 0 0)) (setI σ 0 0 (upd (σ.1 0 0) 0 m)) r h2) (fun C h2 => h2 = h ∧ C = xIA ∧ ¬ (1 ≤ m ∧ m ≤ 4)) := by
  refine PMet.of (by decide +kernel) (Nat.le_of_ble_eq_true rfl) (fun d hd => ?_)
  refine PW.sub (L2 := [(0, Value.ref (A 0 0)), (1, Value.int m)]) [0, 1] rfl ?_
  refine pw_iload_n (pc2 := 1) dX9_setMachines_0 rfl rfl 1 rfl ?_
  refine pw_iconst (pc2 := 2) (v := 1) dX9_setMachines_1 rfl (by decide) ?_
  refine pw_iconst (pc2 := 3) (v := 4) dX9_setMachines_2 rfl (by decide) ?_
  refine pw_callSb (pc2 := 6) (c_isWithin G _ m 1 4) cs_X9_71 rfl dX9_setMachines_3 rfl (by omega) rfl (by first | decide | simp [cat_rf, Value.category]) (fun q3 => ?_) (fun q3 => ?_)
  · refine pw_if_ne (tgt := 19) (pc2 := 9) dX9_setMachines_6 (by decide) rfl (fun _ => ?_) (fun c6 => by exact absurd c6 (by decide))
    refine pw_aload_n (pc2 := 20) dX9_setMachines_19 rfl rfl 0 rfl (by first | exact rf_ref _ | exact rf_opt _ | exact rf_nul) ?_
    refine pw_get (pc2 := 23) kX9 (k := 6) (by decide) rfl fl_X9_36 H.c0 rfl dX9_setMachines_20 rfl ?_
    refine pw_topi (fun v1 ev1 => ?_)
    refine pw_istore_n (pc2 := 24) (L2 := [(2, Value.int v1), (0, Value.ref (A 0 0)), (1, Value.int m)]) dX9_setMachines_23 rfl rfl (by decide) rfl ?_
    refine pw_aload_n (pc2 := 25) dX9_setMachines_24 rfl rfl 1 rfl (by first | exact rf_ref _ | exact rf_opt _ | exact rf_nul) ?_
    refine pw_iload_n (pc2 := 26) dX9_setMachines_25 rfl rfl 2 rfl ?_
    refine pw_put (pc2 := 29) kX9 (k := 6) (by decide) rfl rfl fl_X9_36 H.c0 (by first | decide | simp) (by first | rfl | exact nar_rf _ _) (by first | rfl | exact fit_rf _ _) dX9_setMachines_26 rfl ?_
    refine pw_iload_n (pc2 := 30) dX9_setMachines_29 rfl rfl 0 rfl ?_
    refine pw_iret dX9_setMachines_30 rfl (by first | rfl | assumption | simp [narrow]) ?_
    obtain ⟨K1, FK1⟩ := H.wIF (FR.rfl') (t := 0) (i := 0) (f := (upd (σ.1 0 0) 0 m)) rfl (by decide) (iv_setI H.iv (by decide)) rfl
    exact ⟨q3, by rw [ev1], K1, FK1⟩
  · refine pw_if_ne (tgt := 19) (pc2 := 9) dX9_setMachines_6 (by decide) rfl (fun c6 => by exact absurd (by decide) c6) (fun _ => ?_)
    exact pw_throw rfl ts_171 dX9_setMachines_9 dX9_setMachines_12 dX9_setMachines_13 dX9_setMachines_15 dX9_setMachines_18 (by first | decide | simp [cat_rf, Value.category]) (by exact ⟨rfl, rfl, q3⟩)
set_option maxHeartbeats 4000000 in
set_option maxRecDepth 100000 in
theorem c_fund (G : hG) (h : hp) {A : aT} {σ : sT} (H : W9 G h A σ) (o m : Int32) : PMet G MX9_fund 3 2 12 [.ref (A 0 0), .int o, .int m] h (fun r h2 => ∃ j, j < 3 ∧ o = nI j ∧ (1 ≤ m ∧ m ≤ 9999) ∧ QS G h A (.int (σ.1 13 0 j + m)) (setI σ 13 0 (upd (σ.1 13 0) j (σ.1 13 0 j + m))) r h2) (fun C h2 => h2 = h ∧ C = xIA ∧ ¬ ((0 ≤ o ∧ o < 3) ∧ 1 ≤ m ∧ m ≤ 9999)) := by
  refine PMet.of (by decide +kernel) (Nat.le_of_ble_eq_true rfl) (fun d hd => ?_)
  refine PW.sub (L2 := [(0, Value.ref (A 0 0)), (1, Value.int o), (2, Value.int m)]) [0, 1, 2] rfl ?_
  refine pw_iload_n (pc2 := 1) dX9_fund_0 rfl rfl 1 rfl ?_
  refine pw_callS (pc2 := 4) (c_chkO G _ o) cs_X9_40 rfl dX9_fund_1 rfl (by omega) rfl (by first | decide | simp [cat_rf, Value.category]) (fun r9 h9 q9 => ?_) (fun Y h9 q9 => px_out rfl (⟨q9.2.1, q9.1, fun z => q9.2.2 z.1⟩))
  obtain ⟨rfl, rfl, hin⟩ := q9
  obtain ⟨j, hj, rfl⟩ := inR_ex (n := o) (k := 3) (by decide) hin
  refine pw_iload_n (pc2 := 5) dX9_fund_4 rfl rfl 2 rfl ?_
  refine pw_iconst (pc2 := 6) (v := 1) dX9_fund_5 rfl (by decide) ?_
  refine pw_sipush (pc2 := 9) (v := 9999) dX9_fund_6 rfl (by decide) ?_
  refine pw_callSb (pc2 := 12) (c_isWithin G _ m 1 9999) cs_X9_71 rfl dX9_fund_9 rfl (by omega) rfl (by first | decide | simp [cat_rf, Value.category]) (fun q9 => ?_) (fun q9 => ?_)
  · refine pw_if_ne (tgt := 25) (pc2 := 15) dX9_fund_12 (by decide) rfl (fun _ => ?_) (fun c12 => by exact absurd c12 (by decide))
    refine pw_aload_n (pc2 := 26) dX9_fund_25 rfl rfl 0 rfl (by first | exact rf_ref _ | exact rf_opt _ | exact rf_nul) ?_
    refine pw_get (pc2 := 29) kX9 (k := 4) (by decide) rfl fl_X9_29 H.c0 rfl dX9_fund_26 rfl ?_
    refine pw_iload_n (pc2 := 30) dX9_fund_29 rfl rfl 1 rfl ?_
    refine pw_dup2 (pc2 := 31) dX9_fund_30 rfl (by first | rfl | exact cat_rf _) (by first | rfl | exact cat_rf _) ?_
    refine pw_ialdN (pc2 := 32) H.c13 (i := j) (by first | assumption | omega) (by omega) dX9_fund_31 rfl ?_
    refine pw_iload_n (pc2 := 33) dX9_fund_32 rfl rfl 2 rfl ?_
    refine pw_iadd (pc2 := 34) dX9_fund_33 rfl ?_
    refine pw_iastN (pc2 := 35) H.c13 (i := j) (by first | assumption | omega) (by omega) dX9_fund_34 rfl ?_
    refine pw_aload_n (pc2 := 36) dX9_fund_35 rfl rfl 0 rfl (by first | exact rf_ref _ | exact rf_opt _ | exact rf_nul) ?_
    refine pw_get (pc2 := 39) kX9 (k := 4) (by decide) rfl fl_X9_29 ((va_up_ne _ _ (ne_oa H.c0 H.c13)).trans H.c0) rfl dX9_fund_36 rfl ?_
    refine pw_iload_n (pc2 := 40) dX9_fund_39 rfl rfl 1 rfl ?_
    refine pw_ialdN (pc2 := 41) (va_up_self _ _ _) (i := j) (by first | assumption | omega) (by omega) dX9_fund_40 rfl ?_
    refine pw_iret dX9_fund_41 rfl (by first | rfl | assumption | simp [narrow]) ?_
    obtain ⟨K1, FK1⟩ := H.wIF (FR.rfl') (t := 13) (i := 0) (f := (upd (σ.1 13 0) j (σ.1 13 0 j + m))) rfl (by decide) (iv_setI H.iv (by decide)) rfl
    exact ⟨j, hj, rfl, q9, by rw [upd_s], K1, FK1⟩
  · refine pw_if_ne (tgt := 25) (pc2 := 15) dX9_fund_12 (by decide) rfl (fun c12 => by exact absurd (by decide) c12) (fun _ => ?_)
    exact pw_throw rfl ts_173 dX9_fund_15 dX9_fund_18 dX9_fund_19 dX9_fund_21 dX9_fund_24 (by first | decide | simp [cat_rf, Value.category]) (by exact ⟨rfl, rfl, fun z => q9 z.2⟩)
set_option maxHeartbeats 4000000 in
set_option maxRecDepth 100000 in
theorem c_budget (G : hG) (h : hp) {A : aT} {σ : sT} (H : W9 G h A σ) (o : Int32) : PMet G MX9_budget 3 1 6 [.ref (A 0 0), .int o] h (fun r h2 => ∃ j, j < 3 ∧ o = nI j ∧ r = some (.int (σ.1 13 0 j)) ∧ h2 = h) (tX xIA (¬ (0 ≤ o ∧ o < 3)) h) := by
  refine PMet.of (by decide +kernel) (Nat.le_of_ble_eq_true rfl) (fun d hd => ?_)
  refine PW.sub (L2 := [(0, Value.ref (A 0 0)), (1, Value.int o)]) [0, 1] rfl ?_
  refine pw_iload_n (pc2 := 1) dX9_budget_0 rfl rfl 1 rfl ?_
  refine pw_callS (pc2 := 4) (c_chkO G _ o) cs_X9_40 rfl dX9_budget_1 rfl (by omega) rfl (by first | decide | simp [cat_rf, Value.category]) (fun r9 h9 q9 => ?_) (fun Y h9 q9 => px_out rfl (q9))
  obtain ⟨rfl, rfl, hin⟩ := q9
  obtain ⟨j, hj, rfl⟩ := inR_ex (n := o) (k := 3) (by decide) hin
  refine pw_aload_n (pc2 := 5) dX9_budget_4 rfl rfl 0 rfl (by first | exact rf_ref _ | exact rf_opt _ | exact rf_nul) ?_
  refine pw_get (pc2 := 8) kX9 (k := 4) (by decide) rfl fl_X9_29 H.c0 rfl dX9_budget_5 rfl ?_
  refine pw_iload_n (pc2 := 9) dX9_budget_8 rfl rfl 1 rfl ?_
  refine pw_ialdN (pc2 := 10) H.c13 (i := j) (by first | assumption | omega) (by omega) dX9_budget_9 rfl ?_
  refine pw_iret dX9_budget_10 rfl (by first | rfl | assumption | simp [narrow]) ?_
  exact ⟨j, hj, rfl, rfl, rfl⟩
set_option maxHeartbeats 4000000 in
set_option maxRecDepth 100000 in
theorem c_flaky (G : hG) (h : hp) {A : aT} {σ : sT} (H : W9 G h A σ) (hcn : ∀ t, t < nts σ → ∃ c, c ≤ 8 ∧ σ.1 50 t 3 = nI c) (n : Int32) : PMet G MX9_flaky 5 1 6 [.ref (A 0 0), .int n] h (fun r h2 => ∃ t, t < nts σ ∧ n = nI t ∧ r = some (.int (ctN (σ.1 51 t) (xCn σ t))) ∧ h2 = h) (fun C h2 => h2 = h ∧ C = xIO ∧ ¬ inR n (nts σ)) := by
  refine PMet.of (by decide +kernel) (Nat.le_of_ble_eq_true rfl) (fun d hd => ?_)
  refine PW.sub (L2 := [(0, Value.ref (A 0 0)), (1, Value.int n)]) [0, 1] rfl ?_
  refine pw_aload_n (pc2 := 1) dX9_flaky_0 rfl rfl 0 rfl (by first | exact rf_ref _ | exact rf_opt _ | exact rf_nul) ?_
  refine pw_iload_n (pc2 := 2) dX9_flaky_1 rfl rfl 1 rfl ?_
  refine pw_callV (pc2 := 5) (c_tsat G _ H n) cs_X9_163 rfl rfl H.c0 dX9_flaky_2 rfl (by omega) rfl (by first | decide | simp [cat_rf, Value.category]) (fun r9 h9 q9 => ?_) (fun Y h9 q9 => px_out rfl (⟨q9.2.1, q9.1, q9.2.2⟩))
  obtain ⟨rfl, t, ht, rfl, rfl⟩ := q9
  obtain ⟨c, hc8, hcc⟩ := hcn t ht
  refine pw_callV1 (pc2 := 8) (c_xturns G _ (t := A 50 t) (ar := A 51 t) (c := c) (F := σ.1 51 t) ⟨hcc ▸ H.c50 ht, H.c51 ht⟩ hc8) cs_X9_226 rfl rfl (H.c50 ht) dX9_flaky_5 rfl (by omega) rfl (by first | decide | simp [cat_rf, Value.category]) ?_
  refine pw_iret dX9_flaky_8 rfl (by first | rfl | assumption | simp [narrow]) ?_
  exact ⟨t, ht, rfl, by unfold xCn; rw [hcc, nI_clamp (by omega)], rfl⟩
set_option maxHeartbeats 4000000 in
set_option maxRecDepth 100000 in
theorem c_nextV (G : hG) (h : hp) {A : aT} {σ : sT} (H : W9 G h A σ) (n : Int32) : PMet G MX9_nextVersion 5 1 6 [.ref (A 0 0), .int n] h (fun r h2 => ∃ p, p < npk σ ∧ n = nI p ∧ r = some (.int (vAh σ p)) ∧ h2 = h) (fun C h2 => h2 = h ∧ C = xIO ∧ ¬ inR n (npk σ)) := by
  refine PMet.of (by decide +kernel) (Nat.le_of_ble_eq_true rfl) (fun d hd => ?_)
  refine PW.sub (L2 := [(0, Value.ref (A 0 0)), (1, Value.int n)]) [0, 1] rfl ?_
  refine pw_aload_n (pc2 := 1) dX9_nextVersion_0 rfl rfl 0 rfl (by first | exact rf_ref _ | exact rf_opt _ | exact rf_nul) ?_
  refine pw_iload_n (pc2 := 2) dX9_nextVersion_1 rfl rfl 1 rfl ?_
  refine pw_callV (pc2 := 5) (c_pkat G _ H n) cs_X9_63 rfl rfl H.c0 dX9_nextVersion_2 rfl (by omega) rfl (by first | decide | simp [cat_rf, Value.category]) (fun r9 h9 q9 => ?_) (fun Y h9 q9 => px_out rfl (⟨q9.2.1, q9.1, q9.2.2⟩))
  obtain ⟨rfl, p, hp, rfl, rfl⟩ := q9
  refine pw_callV1 (pc2 := 8) (c_pahead G _ H hp) cs_X9_239 rfl rfl (H.c20 hp) dX9_nextVersion_5 rfl (by omega) rfl (by first | decide | simp [cat_rf, Value.category]) ?_
  refine pw_iret dX9_nextVersion_8 rfl (by first | rfl | assumption | simp [narrow]) ?_
  exact ⟨p, hp, rfl, rfl, rfl⟩
set_option maxHeartbeats 4000000 in
set_option maxRecDepth 100000 in
theorem c_canPub (G : hG) (h : hp) {A : aT} {σ : sT} (H : W9 G h A σ) (n : Int32) : PMet G MX9_canPublish 13 1 6 [.ref (A 0 0), .int n] h (fun r h2 => ∃ p, p < npk σ ∧ n = nI p ∧ ∃ g, pkB σ g ∧ W9 G h2 A (setO σ 9 0 g) ∧ FR h h2 ∧ ((∃ g', srS σ p = some g' ∧ psW σ p g' ∧ r = some (.int 1)) ∨ (¬ (∃ g', srS σ p = some g' ∧ psW σ p g') ∧ r = some (.int 0)))) (fun C h2 => h2 = h ∧ C = xIO ∧ ¬ inR n (npk σ)) := by
  have hnp := H.iv.1
  refine PMet.of (by decide +kernel) (Nat.le_of_ble_eq_true rfl) (fun d hd => ?_)
  refine PW.sub (L2 := [(0, Value.ref (A 0 0)), (1, Value.int n)]) [0, 1] rfl ?_
  refine pw_aload_n (pc2 := 1) dX9_canPublish_0 rfl rfl 0 rfl (by first | exact rf_ref _ | exact rf_opt _ | exact rf_nul) ?_
  refine pw_iload_n (pc2 := 2) dX9_canPublish_1 rfl rfl 1 rfl ?_
  refine pw_callV (pc2 := 5) (c_pkat G _ H n) cs_X9_63 rfl rfl H.c0 dX9_canPublish_2 rfl (by omega) rfl (by first | decide | simp [cat_rf, Value.category]) (fun r9 h9 q9 => ?_) (fun Y h9 q9 => px_out rfl (⟨q9.2.1, q9.1, q9.2.2⟩))
  obtain ⟨rfl, p, hp, rfl, rfl⟩ := q9
  have hne23 : A 23 p ≠ A 24 p := H.ne (t := 23) (u := 24) (i := p) (j := p) hp hp (Or.inl (by decide))
  refine pw_astore_n (pc2 := 6) (L2 := [(2, Value.ref (A 20 p)), (0, Value.ref (A 0 0)), (1, Value.int (nI p))]) dX9_canPublish_5 rfl rfl (by decide) (by first | exact rf_ref _ | exact rf_opt _ | exact rf_nul) rfl ?_
  refine pw_aload_n (pc2 := 7) dX9_canPublish_6 rfl rfl 0 rfl (by first | exact rf_ref _ | exact rf_opt _ | exact rf_nul) ?_
  refine pw_aload_n (pc2 := 8) dX9_canPublish_7 rfl rfl 1 rfl (by first | exact rf_ref _ | exact rf_opt _ | exact rf_nul) ?_
  refine pw_get (pc2 := 11) kX9 (k := 3) (by decide) rfl fl_X9_25 H.c0 rfl dX9_canPublish_8 rfl ?_
  refine pw_aload_n (pc2 := 12) dX9_canPublish_11 rfl rfl 1 rfl (by first | exact rf_ref _ | exact rf_opt _ | exact rf_nul) ?_
  refine pw_get (pc2 := 15) kX9 (k := 0) (by decide) rfl fl_X9_10 H.c0 rfl dX9_canPublish_12 rfl ?_
  refine pw_iload_n (pc2 := 16) dX9_canPublish_15 rfl rfl 2 rfl ?_
  refine pw_aload_n (pc2 := 17) dX9_canPublish_16 rfl rfl 0 rfl (by first | exact rf_ref _ | exact rf_opt _ | exact rf_nul) ?_
  refine pw_getN (pc2 := 20) kX4 (k := 1) (by decide) rfl fl_X9_67 (H.c20 hp) rfl dX9_canPublish_17 rfl ?_
  refine pw_getN (pc2 := 23) kX6 (k := 2) (by decide) rfl fl_X9_88 (H.c21 hp) rfl dX9_canPublish_20 rfl ?_
  refine pw_callV (pc2 := 26) (c_search G _ H ⟨H.c22 hp, H.c23 hp, H.c24 hp, hne23⟩ (kp := p) (Nat.le_of_lt hp)) cs_X9_120 rfl rfl H.c7 dX9_canPublish_23 rfl (by omega) rfl (by first | decide | simp [cat_rf, Value.category]) (fun r9 h9 q9 => ?_) (fun Y h9 q9 => q9.elim)
  cases hs : srch σ.1 σ.2.1 (σ.1 23 p) (σ.1 24 p) p zN with
  | none =>
    obtain ⟨rfl, eh2⟩ := q9.2 hs
    obtain ⟨K1, FK1⟩ := H.wOF FR.rfl' (t := 9) (i := 0) (g := zN) rfl (by decide) (fun j x hx => by cases hx) rfl
    replace K1 : W9 G h9 A (setO σ 9 0 zN) := by rw [eh2]; exact K1
    replace FK1 : FR h h9 := by rw [eh2]; exact FK1
    refine pw_callVb (pc2 := 29) (c_ppass0 G h9 K1 (p := p) hp) cs_X9_235 rfl rfl (K1.c20 hp) dX9_canPublish_26 rfl (by omega) rfl (by first | decide | simp [cat_rf, Value.category]) (fun q26 => ?_) (fun q26 => ?_)
    · refine pw_iret dX9_canPublish_29 rfl (by first | rfl | assumption | simp [narrow]) ?_
      exact q26.elim
    · refine pw_iret dX9_canPublish_29 rfl (by first | rfl | assumption | simp [narrow]) ?_
      exact ⟨p, hp, rfl, zN, (fun j x hx => by cases hx), K1, FK1, Or.inr ⟨fun ⟨g2, e2, _⟩ => (by cases hs.symm.trans e2), rfl⟩⟩
  | some g' =>
    obtain ⟨rfl, eh2, hgb⟩ := q9.1 g' hs
    obtain ⟨K1, FK1⟩ := H.wOF FR.rfl' (t := 9) (i := 0) (g := g') rfl (by decide) hgb rfl
    replace K1 : W9 G h9 A (setO σ 9 0 g') := by rw [eh2]; exact K1
    replace FK1 : FR h h9 := by rw [eh2]; exact FK1
    have c9 : h9 (A 9 0) = some (aR tRel 6 (pa A g')) := K1.c9
    refine pw_callVb (pc2 := 29) (c_ppass G h9 K1 (p := p) hp ⟨K1.c8, c9⟩ hgb) cs_X9_235 rfl rfl (K1.c20 hp) dX9_canPublish_26 rfl (by omega) rfl (by first | decide | simp [cat_rf, Value.category]) (fun q26 => ?_) (fun q26 => ?_)
    · refine pw_iret dX9_canPublish_29 rfl (by first | rfl | assumption | simp [narrow]) ?_
      exact ⟨p, hp, rfl, g', hgb, K1, FK1, Or.inl ⟨g', hs, q26, rfl⟩⟩
    · refine pw_iret dX9_canPublish_29 rfl (by first | rfl | assumption | simp [narrow]) ?_
      exact ⟨p, hp, rfl, g', hgb, K1, FK1, Or.inr ⟨fun ⟨g2, e2, z2⟩ => by cases hs.symm.trans e2; exact q26 z2, rfl⟩⟩
theorem fdV_lt {G : hG} {h : hp} {A : aT} {σ : sT} (H : W9 G h A σ) {p : Nat} (hpp : p < npk σ) {v : Int32} {r : Nat} : ∀ (k i : Nat), i + k = rnp σ p → fdV σ p v i k = some r → r < nrl σ ∧ σ.1 40 r 0 = v ∧ ∃ j, j < rnp σ p ∧ r = ixp σ p j
  | 0, i, _, h => by cases h
  | k + 1, i, hik, h => by
    unfold fdV at h
    by_cases e : σ.1 40 (ixp σ p i) 0 = v
    · rw [if_pos e] at h
      cases h
      exact ⟨H.ixl hpp (by omega), e, i, by omega, rfl⟩
    · rw [if_neg e] at h
      exact fdV_lt H hpp k (i + 1) (by omega) h
set_option maxHeartbeats 4000000 in
set_option maxRecDepth 100000 in
theorem c_isStale (G : hG) (h : hp) {A : aT} {σ : sT} (H : W9 G h A σ) (n v : Int32) : PMet G MX9_isStale 6 2 12 [.ref (A 0 0), .int n, .int v] h (fun r h2 => h2 = h ∧ ∃ p r0, p < npk σ ∧ n = nI p ∧ fdV σ p v 0 (rnp σ p) = some r0 ∧ r0 < nrl σ ∧ ((stl σ r0 ∧ r = some (.int 1)) ∨ (¬ stl σ r0 ∧ r = some (.int 0)))) (fun C h2 => h2 = h ∧ ((C = xIO ∧ ¬ inR n (npk σ)) ∨ (C = nsN ∧ ∃ p, p < npk σ ∧ n = nI p ∧ fdV σ p v 0 (rnp σ p) = none))) := by
  refine PMet.of (by decide +kernel) (Nat.le_of_ble_eq_true rfl) (fun d hd => ?_)
  refine PW.sub (L2 := [(0, Value.ref (A 0 0)), (1, Value.int n), (2, Value.int v)]) [0, 1, 2] rfl ?_
  refine pw_aload_n (pc2 := 1) dX9_isStale_0 rfl rfl 0 rfl (by first | exact rf_ref _ | exact rf_opt _ | exact rf_nul) ?_
  refine pw_iload_n (pc2 := 2) dX9_isStale_1 rfl rfl 1 rfl ?_
  refine pw_iload_n (pc2 := 3) dX9_isStale_2 rfl rfl 2 rfl ?_
  refine pw_callV (pc2 := 6) (c_rlat G _ H n v) cs_X9_257 rfl rfl H.c0 dX9_isStale_3 rfl (by omega) rfl (by first | decide | simp [cat_rf, Value.category]) (fun r9 h9 q9 => ?_) (fun Y h9 q9 => px_out rfl (by rcases q9 with ⟨q1, q2, q3⟩ | ⟨q1, q2, q3⟩; exact ⟨q2, Or.inl ⟨q1, q3⟩⟩; exact ⟨q2, Or.inr ⟨q1, q3⟩⟩))
  obtain ⟨rfl, p, r0, hpp, rfl, hs, rfl⟩ := q9
  obtain ⟨hr, hrv, -⟩ := fdV_lt H hpp (rnp σ p) 0 (by omega) hs
  refine pw_callVb (pc2 := 9) (c_outd G _ H hr) cs_X9_271 rfl rfl (H.c40 hr) dX9_isStale_6 rfl (by omega) rfl (by first | decide | simp [cat_rf, Value.category]) (fun q6 => ?_) (fun q6 => ?_)
  · refine pw_iret dX9_isStale_9 rfl (by first | rfl | assumption | simp [narrow]) ?_
    exact ⟨rfl, p, r0, hpp, rfl, hs, hr, Or.inl ⟨q6, rfl⟩⟩
  · refine pw_iret dX9_isStale_9 rfl (by first | rfl | assumption | simp [narrow]) ?_
    exact ⟨rfl, p, r0, hpp, rfl, hs, hr, Or.inr ⟨q6, rfl⟩⟩
set_option maxHeartbeats 4000000 in
set_option maxRecDepth 100000 in
theorem c_yank (G : hG) (h : hp) {A : aT} {σ : sT} (H : W9 G h A σ) (n v : Int32) : PMet G MX9_yank 6 3 18 [.ref (A 0 0), .int n, .int v] h (fun r h2 => ∃ p r0, p < npk σ ∧ n = nI p ∧ fdV σ p v 0 (rnp σ p) = some r0 ∧ r0 < nrl σ ∧ σ.1 40 r0 2 = 0 ∧ QS G h A (.int (stN (setI σ 40 r0 (upd (σ.1 40 r0) 2 1)) (nrl σ))) (setI σ 40 r0 (upd (σ.1 40 r0) 2 1)) r h2) (fun C h2 => h2 = h ∧ ((C = xIO ∧ ¬ inR n (npk σ)) ∨ (∃ p, p < npk σ ∧ n = nI p ∧ ((C = nsN ∧ fdV σ p v 0 (rnp σ p) = none) ∨ (∃ r0, C = xIS ∧ fdV σ p v 0 (rnp σ p) = some r0 ∧ ¬ σ.1 40 r0 2 = 0))))) := by
  refine PMet.of (by decide +kernel) (Nat.le_of_ble_eq_true rfl) (fun d hd => ?_)
  refine PW.sub (L2 := [(0, Value.ref (A 0 0)), (1, Value.int n), (2, Value.int v)]) [0, 1, 2] rfl ?_
  refine pw_aload_n (pc2 := 1) dX9_yank_0 rfl rfl 0 rfl (by first | exact rf_ref _ | exact rf_opt _ | exact rf_nul) ?_
  refine pw_iload_n (pc2 := 2) dX9_yank_1 rfl rfl 1 rfl ?_
  refine pw_iload_n (pc2 := 3) dX9_yank_2 rfl rfl 2 rfl ?_
  refine pw_callV (pc2 := 6) (c_rlat G _ H n v) cs_X9_257 rfl rfl H.c0 dX9_yank_3 rfl (by omega) rfl (by first | decide | simp [cat_rf, Value.category]) (fun r9 h9 q9 => ?_) (fun Y h9 q9 => px_out rfl (by rcases q9 with ⟨q1, q2, q3⟩ | ⟨q1, q2, p, q3, q4, q5⟩; exact ⟨q2, Or.inl ⟨q1, q3⟩⟩; exact ⟨q2, Or.inr ⟨p, q3, q4, Or.inl ⟨q1, q5⟩⟩⟩))
  obtain ⟨rfl, p, r0, hpp, rfl, hs, rfl⟩ := q9
  obtain ⟨hr, hrv, -⟩ := fdV_lt H hpp (rnp σ p) 0 (by omega) hs
  refine pw_astore_n (pc2 := 7) (L2 := [(3, Value.ref (A 40 r0)), (0, Value.ref (A 0 0)), (1, Value.int (nI p)), (2, Value.int v)]) dX9_yank_6 rfl rfl (by decide) (by first | exact rf_ref _ | exact rf_opt _ | exact rf_nul) rfl ?_
  refine pw_aload_n (pc2 := 8) dX9_yank_7 rfl rfl 0 rfl (by first | exact rf_ref _ | exact rf_opt _ | exact rf_nul) ?_
  refine pw_callS (pc2 := 11) (c_chkY G _ H hr) cs_X9_261 rfl dX9_yank_8 rfl (by omega) rfl (by first | decide | simp [cat_rf, Value.category]) (fun r9 h9 q9 => ?_) (fun Y h9 q9 => px_out rfl (⟨q9.2.1, Or.inr ⟨p, hpp, rfl, Or.inr ⟨r0, q9.1, hs, q9.2.2⟩⟩⟩))
  obtain ⟨rfl, rfl, hny⟩ := q9
  refine pw_aload_n (pc2 := 12) dX9_yank_11 rfl rfl 0 rfl (by first | exact rf_ref _ | exact rf_opt _ | exact rf_nul) ?_
  refine pw_iconst (pc2 := 13) (v := 1) dX9_yank_12 rfl (by decide) ?_
  refine pw_putN (pc2 := 16) kX5 (k := 4) (by decide) rfl rfl fl_X9_265 (H.c40 hr) (by first | decide | simp) (by first | rfl | exact nar_rf _ _) (by first | rfl | exact fit_rf _ _) dX9_yank_13 rfl ?_
  obtain ⟨K1, FK1⟩ := H.wIF (FR.rfl') (t := 40) (i := r0) (f := (upd (σ.1 40 r0) 2 1)) hr (by decide) (iv_I H.iv (fun q => absurd q (by decide)) (fun _ => Or.inr rfl) (fun q => absurd q (by decide))) rfl
  obtain ⟨h2, eh2⟩ : ∃ z : Nat → Option hE, z = va_up h (A 40 r0) (some (oB 8 [.int (σ.1 40 r0 0), .int (σ.1 40 r0 1), .ref (A 41 r0), .ref (A 44 r0), .int 1])) := ⟨_, rfl⟩
  refine PW.heap (h' := h2) eh2.symm ?_
  replace K1 : W9 G h2 A (setI σ 40 r0 (upd (σ.1 40 r0) 2 1)) := by rw [eh2]; exact K1
  replace FK1 : FR h h2 := by rw [eh2]; exact FK1
  refine pw_aload_n (pc2 := 17) dX9_yank_16 rfl rfl 1 rfl (by first | exact rf_ref _ | exact rf_opt _ | exact rf_nul) ?_
  refine pw_callV1 (pc2 := 20) (c_cstale G h2 K1) cs_X9_268 rfl rfl K1.c0 dX9_yank_17 rfl (by omega) rfl (by first | decide | simp [cat_rf, Value.category]) ?_
  refine pw_iret dX9_yank_20 rfl (by first | rfl | assumption | simp [narrow]) ?_
  exact ⟨p, r0, hpp, rfl, hs, hr, hny, rfl, K1, FK1⟩
set_option maxHeartbeats 4000000 in
set_option maxRecDepth 100000 in
theorem c_locked (G : hG) (h : hp) {A : aT} {σ : sT} (H : W9 G h A σ) (n v o : Int32) : PMet G MX9_locked 6 3 18 [.ref (A 0 0), .int n, .int v, .int o] h (fun r h2 => h2 = h ∧ ∃ p q r0, p < npk σ ∧ q < npk σ ∧ n = nI p ∧ o = nI q ∧ fdV σ p v 0 (rnp σ p) = some r0 ∧ r0 < nrl σ ∧ r = some (.int (vG σ (σ.2.2 45 r0 q)))) (fun C h2 => h2 = h ∧ ((C = xIO ∧ ¬ (inR n (npk σ) ∧ inR o (npk σ))) ∨ (C = nsN ∧ inR o (npk σ) ∧ ∃ p, p < npk σ ∧ n = nI p ∧ fdV σ p v 0 (rnp σ p) = none))) := by
  have hnp := H.iv.1
  refine PMet.of (by decide +kernel) (Nat.le_of_ble_eq_true rfl) (fun d hd => ?_)
  refine PW.sub (L2 := [(0, Value.ref (A 0 0)), (1, Value.int n), (2, Value.int v), (3, Value.int o)]) [0, 1, 2, 3] rfl ?_
  refine pw_aload_n (pc2 := 1) dX9_locked_0 rfl rfl 0 rfl (by first | exact rf_ref _ | exact rf_opt _ | exact rf_nul) ?_
  refine pw_iload_n (pc2 := 2) dX9_locked_1 rfl rfl 3 rfl ?_
  refine pw_callV (pc2 := 5) (c_chkP G _ H o) cs_X9_92 rfl rfl H.c0 dX9_locked_2 rfl (by omega) rfl (by first | decide | simp [cat_rf, Value.category]) (fun r9 h9 q9 => ?_) (fun Y h9 q9 => px_out rfl (⟨q9.2.1, Or.inl ⟨q9.1, fun z => q9.2.2 z.2⟩⟩))
  obtain ⟨rfl, rfl, hin⟩ := q9
  obtain ⟨q, hq, rfl⟩ := inR_ex (by omega) hin
  refine pw_aload_n (pc2 := 6) dX9_locked_5 rfl rfl 0 rfl (by first | exact rf_ref _ | exact rf_opt _ | exact rf_nul) ?_
  refine pw_iload_n (pc2 := 7) dX9_locked_6 rfl rfl 1 rfl ?_
  refine pw_iload_n (pc2 := 8) dX9_locked_7 rfl rfl 2 rfl ?_
  refine pw_callV (pc2 := 11) (c_rlat G _ H n v) cs_X9_257 rfl rfl H.c0 dX9_locked_8 rfl (by omega) rfl (by first | decide | simp [cat_rf, Value.category]) (fun r9 h9 q9 => ?_) (fun Y h9 q9 => px_out rfl (by rcases q9 with ⟨q1, q2, q3⟩ | ⟨q1, q2, q3⟩; exact ⟨q2, Or.inl ⟨q1, fun z => q3 z.1⟩⟩; exact ⟨q2, Or.inr ⟨q1, inR_of (by omega) hq, q3⟩⟩))
  obtain ⟨rfl, p, r0, hpp, rfl, hs, rfl⟩ := q9
  obtain ⟨hr, hrv, -⟩ := fdV_lt H hpp (rnp σ p) 0 (by omega) hs
  refine pw_getN (pc2 := 14) kX5 (k := 3) (by decide) rfl fl_X9_275 (H.c40 hr) rfl dX9_locked_11 rfl ?_
  refine pw_iload_n (pc2 := 15) dX9_locked_14 rfl rfl 3 rfl ?_
  refine pw_callV1 (pc2 := 18) (c_cver G _ ⟨H.c44 hr, H.c45 hr⟩ (T := TT A σ) (i := q) (by omega) (fun r9 hr9 => H.pk (H.iv.2.2.2.2.2.2.2.1 r0 hr) q (by omega) r9 hr9)) cs_X9_128 rfl rfl (H.c44 hr) dX9_locked_15 rfl (by omega) rfl (by first | decide | simp [cat_rf, Value.category]) ?_
  refine pw_iret dX9_locked_18 rfl (by first | rfl | assumption | simp [narrow]) ?_
  exact ⟨rfl, p, q, r0, hpp, hq, rfl, rfl, hs, hr, by rw [← vG_eq H (H.iv.2.2.2.2.2.2.2.1 r0 hr) (show q < 6 by omega)]; rfl⟩
