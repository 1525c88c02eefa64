/-! new packages, choosers, forges -/
set_option maxHeartbeats 4000000 in
set_option maxRecDepth 100000 in
theorem c_pinit (G : hG) (h : hp) {q : Nat} (hq : h q = some (oB 7 [.int 0, .null, .null, .null, .null])) (o : Int32) : PMet G MX4_init 4 14 57 [.ref q, .int o] h (fun r h' => r = none ∧ ∃ s nd a b bu nf tr ts tnd ta tb tc tp rl : Nat, xt G h h' [s, nd, a, b, bu, nf, tr, ts, tnd, ta, tb, tc, tp, rl] [q] ∧ h' q = some (oB 7 [.int o, .ref s, .ref bu, .ref tr, .ref rl]) ∧ isS h' s nd a b 0 0 z0 z0 ∧ isB h' bu nf 0 0 0 z0 ∧ isT h' tr ts tnd ta tb tc tp 0 0 0 z0 z0 zN ∧ h' rl = some (oB 2 [.int 0, .ref G.2.2, .int 0])) noX := by
  refine PMet.of (by decide +kernel) (Nat.le_of_ble_eq_true rfl) (fun d hd => ?_)
  have x0 : xt G h h [] [q] := xt.rf1 hq
  refine PW.sub (L2 := [(0, Value.ref q), (1, Value.int o)]) [0, 1] rfl ?_
  refine pw_aload_n (pc2 := 1) dX4_init_0 rfl rfl 0 rfl (by first | exact rf_ref _ | exact rf_opt _ | exact rf_nul) ?_
  refine pw_objInit (pc2 := 4) co_X4_3 wo_1 wo_2 dX4_init_1 rfl (by decide) ?_
  refine pw_aload_n (pc2 := 5) dX4_init_4 rfl rfl 0 rfl (by first | exact rf_ref _ | exact rf_opt _ | exact rf_nul) ?_
  refine pw_iload_n (pc2 := 6) dX4_init_5 rfl rfl 1 rfl ?_
  refine pw_putF (pc2 := 9) kX4 (k := 0) (by decide) rfl rfl rfl rfl fl_X4_9 hq (by first | decide | simp) (by first | rfl | exact nar_rf _ _) (by first | rfl | exact fit_rf _ _) dX4_init_6 rfl ?_
  obtain ⟨g1, eg1⟩ : ∃ z : hp, z = va_up h q (some (oB 7 [.int o, .null, .null, .null, .null])) := ⟨_, rfl⟩
  refine PW.heap (h' := g1) eg1.symm ?_
  have f1_q : g1 q = some (oB 7 [.int o, .null, .null, .null, .null]) := by rw [eg1]; exact va_up_self _ _ _
  have x1 : xt G h g1 [] [q] := by rw [eg1]; exact x0.wr (by simp)
  refine pw_aload_n (pc2 := 10) dX4_init_9 rfl rfl 0 rfl (by first | exact rf_ref _ | exact rf_opt _ | exact rf_nul) ?_
  refine pw_new (pc2 := 13) (fs := [.int 0, .int 0, .null]) kX6 cl_X4_15 wi_X6 wn_X6 (by decide +kernel) dX4_init_10 rfl (fun s hs gs => ?_)
  obtain ⟨g2, eg2⟩ : ∃ z : hp, z = va_up g1 s (some (oB 9 [.int 0, .int 0, .null])) := ⟨_, rfl⟩
  refine PW.heap (h' := g2) eg2.symm ?_
  have f2_q : g2 q = some (oB 7 [.int o, .null, .null, .null, .null]) := by rw [eg2]; exact (va_up_ne _ _ (ne_nw f1_q hs)).trans f1_q
  have f2_s : g2 s = some (oB 9 [.int 0, .int 0, .null]) := by rw [eg2]; exact va_up_self _ _ _
  have x2 : xt G h g2 [s] [q] := by rw [eg2]; exact x1.new hs gs
  refine pw_dup (pc2 := 14) dX4_init_13 rfl (by first | rfl | exact cat_rf _) ?_
  refine pw_callI (pc2 := 17) (c_sinit G _ f2_s) cs_X4_17 rfl rfl rfl dX4_init_14 rfl (by omega) rfl (by first | decide | simp [cat_rf, Value.category]) (fun r9 h9 q9 => ?_) (fun Y h9 q9 => q9.elim)
  obtain ⟨rfl, nd, a, b, y3, z3⟩ := q9
  generalize h9 = g3 at *
  have f3_q : g3 q = some (oB 7 [.int o, .null, .null, .null, .null]) := y3.keep1 f2_q (ne_nw f1_q hs)
  have x3 : xt G h g3 [s, nd, a, b] [q] := x2.call y3 (by simp)
  refine pw_putF (pc2 := 20) kX4 (k := 1) (by decide) rfl rfl rfl rfl fl_X4_18 f3_q (by first | decide | simp) (by first | rfl | exact nar_rf _ _) (by first | rfl | exact fit_rf _ _) dX4_init_17 rfl ?_
  obtain ⟨g4, eg4⟩ : ∃ z : hp, z = va_up g3 q (some (oB 7 [.int o, .ref s, .null, .null, .null])) := ⟨_, rfl⟩
  refine PW.heap (h' := g4) eg4.symm ?_
  have f4_s : g4 s = some (oB 9 [.int 0, .int 0, .ref nd]) := by rw [eg4]; exact (va_up_ne _ _ ((ne_nw f1_q hs)).symm).trans z3.1
  have f4_nd : g4 nd = some (oB 6 [.ref a, .ref b]) := by rw [eg4]; exact (va_up_ne _ _ ((y3.ne f2_q (by simp))).symm).trans z3.2.1
  have f4_a : g4 a = some (aI 6 z0) := by rw [eg4]; exact (va_up_ne _ _ ((y3.ne f2_q (by simp))).symm).trans z3.2.2.1
  have f4_b : g4 b = some (aI 6 z0) := by rw [eg4]; exact (va_up_ne _ _ ((y3.ne f2_q (by simp))).symm).trans z3.2.2.2.1
  have f4_q : g4 q = some (oB 7 [.int o, .ref s, .null, .null, .null]) := by rw [eg4]; exact va_up_self _ _ _
  have x4 : xt G h g4 [s, nd, a, b] [q] := by rw [eg4]; exact x3.wr (by simp)
  refine pw_aload_n (pc2 := 21) dX4_init_20 rfl rfl 0 rfl (by first | exact rf_ref _ | exact rf_opt _ | exact rf_nul) ?_
  refine pw_new (pc2 := 24) (fs := [.int 0, .int 0, .int 0, .null]) kX0 cl_X4_22 wi_X0 wn_X0 (by decide +kernel) dX4_init_21 rfl (fun bu hbu gbu => ?_)
  obtain ⟨g5, eg5⟩ : ∃ z : hp, z = va_up g4 bu (some (oB 3 [.int 0, .int 0, .int 0, .null])) := ⟨_, rfl⟩
  refine PW.heap (h' := g5) eg5.symm ?_
  have f5_s : g5 s = some (oB 9 [.int 0, .int 0, .ref nd]) := by rw [eg5]; exact (va_up_ne _ _ (ne_nw f4_s hbu)).trans f4_s
  have f5_nd : g5 nd = some (oB 6 [.ref a, .ref b]) := by rw [eg5]; exact (va_up_ne _ _ (ne_nw f4_nd hbu)).trans f4_nd
  have f5_a : g5 a = some (aI 6 z0) := by rw [eg5]; exact (va_up_ne _ _ (ne_nw f4_a hbu)).trans f4_a
  have f5_b : g5 b = some (aI 6 z0) := by rw [eg5]; exact (va_up_ne _ _ (ne_nw f4_b hbu)).trans f4_b
  have f5_q : g5 q = some (oB 7 [.int o, .ref s, .null, .null, .null]) := by rw [eg5]; exact (va_up_ne _ _ (ne_nw f4_q hbu)).trans f4_q
  have f5_bu : g5 bu = some (oB 3 [.int 0, .int 0, .int 0, .null]) := by rw [eg5]; exact va_up_self _ _ _
  have x5 : xt G h g5 [s, nd, a, b, bu] [q] := by rw [eg5]; exact x4.new hbu gbu
  refine pw_dup (pc2 := 25) dX4_init_24 rfl (by first | rfl | exact cat_rf _) ?_
  refine pw_callI (pc2 := 28) (c_binit G _ f5_bu) cs_X4_24 rfl rfl rfl dX4_init_25 rfl (by omega) rfl (by first | decide | simp [cat_rf, Value.category]) (fun r9 h9 q9 => ?_) (fun Y h9 q9 => q9.elim)
  obtain ⟨rfl, nf, y6, z6⟩ := q9
  generalize h9 = g6 at *
  have f6_s : g6 s = some (oB 9 [.int 0, .int 0, .ref nd]) := y6.keep1 f5_s (ne_nw f4_s hbu)
  have f6_nd : g6 nd = some (oB 6 [.ref a, .ref b]) := y6.keep1 f5_nd (ne_nw f4_nd hbu)
  have f6_a : g6 a = some (aI 6 z0) := y6.keep1 f5_a (ne_nw f4_a hbu)
  have f6_b : g6 b = some (aI 6 z0) := y6.keep1 f5_b (ne_nw f4_b hbu)
  have f6_q : g6 q = some (oB 7 [.int o, .ref s, .null, .null, .null]) := y6.keep1 f5_q (ne_nw f4_q hbu)
  have x6 : xt G h g6 [s, nd, a, b, bu, nf] [q] := x5.call y6 (by simp)
  refine pw_putF (pc2 := 31) kX4 (k := 2) (by decide) rfl rfl rfl rfl fl_X4_25 f6_q (by first | decide | simp) (by first | rfl | exact nar_rf _ _) (by first | rfl | exact fit_rf _ _) dX4_init_28 rfl ?_
  obtain ⟨g7, eg7⟩ : ∃ z : hp, z = va_up g6 q (some (oB 7 [.int o, .ref s, .ref bu, .null, .null])) := ⟨_, rfl⟩
  refine PW.heap (h' := g7) eg7.symm ?_
  have f7_s : g7 s = some (oB 9 [.int 0, .int 0, .ref nd]) := by rw [eg7]; exact (va_up_ne _ _ ((ne_nw f1_q hs)).symm).trans f6_s
  have f7_nd : g7 nd = some (oB 6 [.ref a, .ref b]) := by rw [eg7]; exact (va_up_ne _ _ ((y3.ne f2_q (by simp))).symm).trans f6_nd
  have f7_a : g7 a = some (aI 6 z0) := by rw [eg7]; exact (va_up_ne _ _ ((y3.ne f2_q (by simp))).symm).trans f6_a
  have f7_b : g7 b = some (aI 6 z0) := by rw [eg7]; exact (va_up_ne _ _ ((y3.ne f2_q (by simp))).symm).trans f6_b
  have f7_bu : g7 bu = some (oB 3 [.int 0, .int 0, .int 0, .ref nf]) := by rw [eg7]; exact (va_up_ne _ _ ((ne_nw f4_q hbu)).symm).trans z6.1
  have f7_nf : g7 nf = some (aI 6 z0) := by rw [eg7]; exact (va_up_ne _ _ ((y6.ne f5_q (by simp))).symm).trans z6.2
  have f7_q : g7 q = some (oB 7 [.int o, .ref s, .ref bu, .null, .null]) := by rw [eg7]; exact va_up_self _ _ _
  have x7 : xt G h g7 [s, nd, a, b, bu, nf] [q] := by rw [eg7]; exact x6.wr (by simp)
  refine pw_aload_n (pc2 := 32) dX4_init_31 rfl rfl 0 rfl (by first | exact rf_ref _ | exact rf_opt _ | exact rf_nul) ?_
  refine pw_new (pc2 := 35) (fs := [.int 0, .null, .null]) kX8 cl_X4_29 wi_X8 wn_X8 (by decide +kernel) dX4_init_32 rfl (fun tr htr gtr => ?_)
  obtain ⟨g8, eg8⟩ : ∃ z : hp, z = va_up g7 tr (some (oB 11 [.int 0, .null, .null])) := ⟨_, rfl⟩
  refine PW.heap (h' := g8) eg8.symm ?_
  have f8_s : g8 s = some (oB 9 [.int 0, .int 0, .ref nd]) := by rw [eg8]; exact (va_up_ne _ _ (ne_nw f7_s htr)).trans f7_s
  have f8_nd : g8 nd = some (oB 6 [.ref a, .ref b]) := by rw [eg8]; exact (va_up_ne _ _ (ne_nw f7_nd htr)).trans f7_nd
  have f8_a : g8 a = some (aI 6 z0) := by rw [eg8]; exact (va_up_ne _ _ (ne_nw f7_a htr)).trans f7_a
  have f8_b : g8 b = some (aI 6 z0) := by rw [eg8]; exact (va_up_ne _ _ (ne_nw f7_b htr)).trans f7_b
  have f8_bu : g8 bu = some (oB 3 [.int 0, .int 0, .int 0, .ref nf]) := by rw [eg8]; exact (va_up_ne _ _ (ne_nw f7_bu htr)).trans f7_bu
  have f8_nf : g8 nf = some (aI 6 z0) := by rw [eg8]; exact (va_up_ne _ _ (ne_nw f7_nf htr)).trans f7_nf
  have f8_q : g8 q = some (oB 7 [.int o, .ref s, .ref bu, .null, .null]) := by rw [eg8]; exact (va_up_ne _ _ (ne_nw f7_q htr)).trans f7_q
  have f8_tr : g8 tr = some (oB 11 [.int 0, .null, .null]) := by rw [eg8]; exact va_up_self _ _ _
  have x8 : xt G h g8 [s, nd, a, b, bu, nf, tr] [q] := by rw [eg8]; exact x7.new htr gtr
  refine pw_dup (pc2 := 36) dX4_init_35 rfl (by first | rfl | exact cat_rf _) ?_
  refine pw_callI (pc2 := 39) (c_tinit G _ f8_tr) cs_X4_31 rfl rfl rfl dX4_init_36 rfl (by omega) rfl (by first | decide | simp [cat_rf, Value.category]) (fun r9 h9 q9 => ?_) (fun Y h9 q9 => q9.elim)
  obtain ⟨rfl, ts, tnd, ta, tb, tc, tp, y9, z9⟩ := q9
  generalize h9 = g9 at *
  have f9_s : g9 s = some (oB 9 [.int 0, .int 0, .ref nd]) := y9.keep1 f8_s (ne_nw f7_s htr)
  have f9_nd : g9 nd = some (oB 6 [.ref a, .ref b]) := y9.keep1 f8_nd (ne_nw f7_nd htr)
  have f9_a : g9 a = some (aI 6 z0) := y9.keep1 f8_a (ne_nw f7_a htr)
  have f9_b : g9 b = some (aI 6 z0) := y9.keep1 f8_b (ne_nw f7_b htr)
  have f9_bu : g9 bu = some (oB 3 [.int 0, .int 0, .int 0, .ref nf]) := y9.keep1 f8_bu (ne_nw f7_bu htr)
  have f9_nf : g9 nf = some (aI 6 z0) := y9.keep1 f8_nf (ne_nw f7_nf htr)
  have f9_q : g9 q = some (oB 7 [.int o, .ref s, .ref bu, .null, .null]) := y9.keep1 f8_q (ne_nw f7_q htr)
  have x9 : xt G h g9 [s, nd, a, b, bu, nf, tr, ts, tnd, ta, tb, tc, tp] [q] := x8.call y9 (by simp)
  refine pw_putF (pc2 := 42) kX4 (k := 3) (by decide) rfl rfl rfl rfl fl_X4_32 f9_q (by first | decide | simp) (by first | rfl | exact nar_rf _ _) (by first | rfl | exact fit_rf _ _) dX4_init_39 rfl ?_
  obtain ⟨g10, eg10⟩ : ∃ z : hp, z = va_up g9 q (some (oB 7 [.int o, .ref s, .ref bu, .ref tr, .null])) := ⟨_, rfl⟩
  refine PW.heap (h' := g10) eg10.symm ?_
  have f10_s : g10 s = some (oB 9 [.int 0, .int 0, .ref nd]) := by rw [eg10]; exact (va_up_ne _ _ ((ne_nw f1_q hs)).symm).trans f9_s
  have f10_nd : g10 nd = some (oB 6 [.ref a, .ref b]) := by rw [eg10]; exact (va_up_ne _ _ ((y3.ne f2_q (by simp))).symm).trans f9_nd
  have f10_a : g10 a = some (aI 6 z0) := by rw [eg10]; exact (va_up_ne _ _ ((y3.ne f2_q (by simp))).symm).trans f9_a
  have f10_b : g10 b = some (aI 6 z0) := by rw [eg10]; exact (va_up_ne _ _ ((y3.ne f2_q (by simp))).symm).trans f9_b
  have f10_bu : g10 bu = some (oB 3 [.int 0, .int 0, .int 0, .ref nf]) := by rw [eg10]; exact (va_up_ne _ _ ((ne_nw f4_q hbu)).symm).trans f9_bu
  have f10_nf : g10 nf = some (aI 6 z0) := by rw [eg10]; exact (va_up_ne _ _ ((y6.ne f5_q (by simp))).symm).trans f9_nf
  have f10_tr : g10 tr = some (oB 11 [.int 0, .ref ts, .ref tc]) := by rw [eg10]; exact (va_up_ne _ _ ((ne_nw f7_q htr)).symm).trans z9.1
  have f10_ts : g10 ts = some (oB 9 [.int 0, .int 0, .ref tnd]) := by rw [eg10]; exact (va_up_ne _ _ ((y9.ne f8_q (by simp))).symm).trans z9.2.1.1
  have f10_tnd : g10 tnd = some (oB 6 [.ref ta, .ref tb]) := by rw [eg10]; exact (va_up_ne _ _ ((y9.ne f8_q (by simp))).symm).trans z9.2.1.2.1
  have f10_ta : g10 ta = some (aI 6 z0) := by rw [eg10]; exact (va_up_ne _ _ ((y9.ne f8_q (by simp))).symm).trans z9.2.1.2.2.1
  have f10_tb : g10 tb = some (aI 6 z0) := by rw [eg10]; exact (va_up_ne _ _ ((y9.ne f8_q (by simp))).symm).trans z9.2.1.2.2.2.1
  have f10_tc : g10 tc = some (oB 4 [.ref tp]) := by rw [eg10]; exact (va_up_ne _ _ ((y9.ne f8_q (by simp))).symm).trans z9.2.2.1
  have f10_tp : g10 tp = some (aR tRel 6 zN) := by rw [eg10]; exact (va_up_ne _ _ ((y9.ne f8_q (by simp))).symm).trans z9.2.2.2
  have f10_q : g10 q = some (oB 7 [.int o, .ref s, .ref bu, .ref tr, .null]) := by rw [eg10]; exact va_up_self _ _ _
  have x10 : xt G h g10 [s, nd, a, b, bu, nf, tr, ts, tnd, ta, tb, tc, tp] [q] := by rw [eg10]; exact x9.wr (by simp)
  refine pw_aload_n (pc2 := 43) dX4_init_42 rfl rfl 0 rfl (by first | exact rf_ref _ | exact rf_opt _ | exact rf_nul) ?_
  refine pw_new (pc2 := 46) (fs := [.int 0, .null, .int 0]) kJx4a65c cl_X4_36 wi_Jx4a65c wn_Jx4a65c (by decide +kernel) dX4_init_43 rfl (fun rl hrl grl => ?_)
  obtain ⟨g11, eg11⟩ : ∃ z : hp, z = va_up g10 rl (some (oB 2 [.int 0, .null, .int 0])) := ⟨_, rfl⟩
  refine PW.heap (h' := g11) eg11.symm ?_
  have f11_s : g11 s = some (oB 9 [.int 0, .int 0, .ref nd]) := by rw [eg11]; exact (va_up_ne _ _ (ne_nw f10_s hrl)).trans f10_s
  have f11_nd : g11 nd = some (oB 6 [.ref a, .ref b]) := by rw [eg11]; exact (va_up_ne _ _ (ne_nw f10_nd hrl)).trans f10_nd
  have f11_a : g11 a = some (aI 6 z0) := by rw [eg11]; exact (va_up_ne _ _ (ne_nw f10_a hrl)).trans f10_a
  have f11_b : g11 b = some (aI 6 z0) := by rw [eg11]; exact (va_up_ne _ _ (ne_nw f10_b hrl)).trans f10_b
  have f11_bu : g11 bu = some (oB 3 [.int 0, .int 0, .int 0, .ref nf]) := by rw [eg11]; exact (va_up_ne _ _ (ne_nw f10_bu hrl)).trans f10_bu
  have f11_nf : g11 nf = some (aI 6 z0) := by rw [eg11]; exact (va_up_ne _ _ (ne_nw f10_nf hrl)).trans f10_nf
  have f11_tr : g11 tr = some (oB 11 [.int 0, .ref ts, .ref tc]) := by rw [eg11]; exact (va_up_ne _ _ (ne_nw f10_tr hrl)).trans f10_tr
  have f11_ts : g11 ts = some (oB 9 [.int 0, .int 0, .ref tnd]) := by rw [eg11]; exact (va_up_ne _ _ (ne_nw f10_ts hrl)).trans f10_ts
  have f11_tnd : g11 tnd = some (oB 6 [.ref ta, .ref tb]) := by rw [eg11]; exact (va_up_ne _ _ (ne_nw f10_tnd hrl)).trans f10_tnd
  have f11_ta : g11 ta = some (aI 6 z0) := by rw [eg11]; exact (va_up_ne _ _ (ne_nw f10_ta hrl)).trans f10_ta
  have f11_tb : g11 tb = some (aI 6 z0) := by rw [eg11]; exact (va_up_ne _ _ (ne_nw f10_tb hrl)).trans f10_tb
  have f11_tc : g11 tc = some (oB 4 [.ref tp]) := by rw [eg11]; exact (va_up_ne _ _ (ne_nw f10_tc hrl)).trans f10_tc
  have f11_tp : g11 tp = some (aR tRel 6 zN) := by rw [eg11]; exact (va_up_ne _ _ (ne_nw f10_tp hrl)).trans f10_tp
  have f11_q : g11 q = some (oB 7 [.int o, .ref s, .ref bu, .ref tr, .null]) := by rw [eg11]; exact (va_up_ne _ _ (ne_nw f10_q hrl)).trans f10_q
  have f11_rl : g11 rl = some (oB 2 [.int 0, .null, .int 0]) := by rw [eg11]; exact va_up_self _ _ _
  have x11 : xt G h g11 [s, nd, a, b, bu, nf, tr, ts, tnd, ta, tb, tc, tp, rl] [q] := by rw [eg11]; exact x10.new hrl grl
  refine pw_dup (pc2 := 47) dX4_init_46 rfl (by first | rfl | exact cat_rf _) ?_
  refine pw_callI0 (pc2 := 50) (c_linit G _ f11_rl) cs_X4_38 rfl rfl rfl dX4_init_47 rfl (by omega) rfl (by first | decide | simp [cat_rf, Value.category]) ?_
  obtain ⟨g12, eg12⟩ : ∃ z : hp, z = va_up g11 rl (some (oB 2 [.int 0, .ref G.2.2, .int 0])) := ⟨_, rfl⟩
  refine PW.heap (h' := g12) eg12.symm ?_
  have f12_s : g12 s = some (oB 9 [.int 0, .int 0, .ref nd]) := by rw [eg12]; exact (va_up_ne _ _ (ne_nw f10_s hrl)).trans f11_s
  have f12_nd : g12 nd = some (oB 6 [.ref a, .ref b]) := by rw [eg12]; exact (va_up_ne _ _ (ne_nw f10_nd hrl)).trans f11_nd
  have f12_a : g12 a = some (aI 6 z0) := by rw [eg12]; exact (va_up_ne _ _ (ne_nw f10_a hrl)).trans f11_a
  have f12_b : g12 b = some (aI 6 z0) := by rw [eg12]; exact (va_up_ne _ _ (ne_nw f10_b hrl)).trans f11_b
  have f12_bu : g12 bu = some (oB 3 [.int 0, .int 0, .int 0, .ref nf]) := by rw [eg12]; exact (va_up_ne _ _ (ne_nw f10_bu hrl)).trans f11_bu
  have f12_nf : g12 nf = some (aI 6 z0) := by rw [eg12]; exact (va_up_ne _ _ (ne_nw f10_nf hrl)).trans f11_nf
  have f12_tr : g12 tr = some (oB 11 [.int 0, .ref ts, .ref tc]) := by rw [eg12]; exact (va_up_ne _ _ (ne_nw f10_tr hrl)).trans f11_tr
  have f12_ts : g12 ts = some (oB 9 [.int 0, .int 0, .ref tnd]) := by rw [eg12]; exact (va_up_ne _ _ (ne_nw f10_ts hrl)).trans f11_ts
  have f12_tnd : g12 tnd = some (oB 6 [.ref ta, .ref tb]) := by rw [eg12]; exact (va_up_ne _ _ (ne_nw f10_tnd hrl)).trans f11_tnd
  have f12_ta : g12 ta = some (aI 6 z0) := by rw [eg12]; exact (va_up_ne _ _ (ne_nw f10_ta hrl)).trans f11_ta
  have f12_tb : g12 tb = some (aI 6 z0) := by rw [eg12]; exact (va_up_ne _ _ (ne_nw f10_tb hrl)).trans f11_tb
  have f12_tc : g12 tc = some (oB 4 [.ref tp]) := by rw [eg12]; exact (va_up_ne _ _ (ne_nw f10_tc hrl)).trans f11_tc
  have f12_tp : g12 tp = some (aR tRel 6 zN) := by rw [eg12]; exact (va_up_ne _ _ (ne_nw f10_tp hrl)).trans f11_tp
  have f12_q : g12 q = some (oB 7 [.int o, .ref s, .ref bu, .ref tr, .null]) := by rw [eg12]; exact (va_up_ne _ _ (ne_nw f10_q hrl)).trans f11_q
  have f12_rl : g12 rl = some (oB 2 [.int 0, .ref G.2.2, .int 0]) := by rw [eg12]; exact va_up_self _ _ _
  have x12 : xt G h g12 [s, nd, a, b, bu, nf, tr, ts, tnd, ta, tb, tc, tp, rl] [q] := by rw [eg12]; exact x11.wr (by simp)
  refine pw_putF (pc2 := 53) kX4 (k := 4) (by decide) rfl rfl rfl rfl fl_X4_39 f12_q (by first | decide | simp) (by first | rfl | exact nar_rf _ _) (by first | rfl | exact fit_rf _ _) dX4_init_50 rfl ?_
  obtain ⟨g13, eg13⟩ : ∃ z : hp, z = va_up g12 q (some (oB 7 [.int o, .ref s, .ref bu, .ref tr, .ref rl])) := ⟨_, rfl⟩
  refine PW.heap (h' := g13) eg13.symm ?_
  have f13_s : g13 s = some (oB 9 [.int 0, .int 0, .ref nd]) := by rw [eg13]; exact (va_up_ne _ _ ((ne_nw f1_q hs)).symm).trans f12_s
  have f13_nd : g13 nd = some (oB 6 [.ref a, .ref b]) := by rw [eg13]; exact (va_up_ne _ _ ((y3.ne f2_q (by simp))).symm).trans f12_nd
  have f13_a : g13 a = some (aI 6 z0) := by rw [eg13]; exact (va_up_ne _ _ ((y3.ne f2_q (by simp))).symm).trans f12_a
  have f13_b : g13 b = some (aI 6 z0) := by rw [eg13]; exact (va_up_ne _ _ ((y3.ne f2_q (by simp))).symm).trans f12_b
  have f13_bu : g13 bu = some (oB 3 [.int 0, .int 0, .int 0, .ref nf]) := by rw [eg13]; exact (va_up_ne _ _ ((ne_nw f4_q hbu)).symm).trans f12_bu
  have f13_nf : g13 nf = some (aI 6 z0) := by rw [eg13]; exact (va_up_ne _ _ ((y6.ne f5_q (by simp))).symm).trans f12_nf
  have f13_tr : g13 tr = some (oB 11 [.int 0, .ref ts, .ref tc]) := by rw [eg13]; exact (va_up_ne _ _ ((ne_nw f7_q htr)).symm).trans f12_tr
  have f13_ts : g13 ts = some (oB 9 [.int 0, .int 0, .ref tnd]) := by rw [eg13]; exact (va_up_ne _ _ ((y9.ne f8_q (by simp))).symm).trans f12_ts
  have f13_tnd : g13 tnd = some (oB 6 [.ref ta, .ref tb]) := by rw [eg13]; exact (va_up_ne _ _ ((y9.ne f8_q (by simp))).symm).trans f12_tnd
  have f13_ta : g13 ta = some (aI 6 z0) := by rw [eg13]; exact (va_up_ne _ _ ((y9.ne f8_q (by simp))).symm).trans f12_ta
  have f13_tb : g13 tb = some (aI 6 z0) := by rw [eg13]; exact (va_up_ne _ _ ((y9.ne f8_q (by simp))).symm).trans f12_tb
  have f13_tc : g13 tc = some (oB 4 [.ref tp]) := by rw [eg13]; exact (va_up_ne _ _ ((y9.ne f8_q (by simp))).symm).trans f12_tc
  have f13_tp : g13 tp = some (aR tRel 6 zN) := by rw [eg13]; exact (va_up_ne _ _ ((y9.ne f8_q (by simp))).symm).trans f12_tp
  have f13_rl : g13 rl = some (oB 2 [.int 0, .ref G.2.2, .int 0]) := by rw [eg13]; exact (va_up_ne _ _ ((ne_nw f10_q hrl)).symm).trans f12_rl
  have f13_q : g13 q = some (oB 7 [.int o, .ref s, .ref bu, .ref tr, .ref rl]) := by rw [eg13]; exact va_up_self _ _ _
  have x13 : xt G h g13 [s, nd, a, b, bu, nf, tr, ts, tnd, ta, tb, tc, tp, rl] [q] := by rw [eg13]; exact x12.wr (by simp)
  refine pw_vret dX4_init_53 rfl ?_
  exact ⟨rfl, s, nd, a, b, bu, nf, tr, ts, tnd, ta, tb, tc, tp, rl, x13, f13_q, ⟨f13_s, f13_nd, f13_a, f13_b, z3.2.2.2.2⟩, ⟨f13_bu, f13_nf⟩, ⟨f13_tr, ⟨f13_ts, f13_tnd, f13_ta, f13_tb, z9.2.1.2.2.2.2⟩, f13_tc, f13_tp⟩, f13_rl⟩
set_option maxHeartbeats 4000000 in
set_option maxRecDepth 100000 in
theorem c_chinit (G : hG) (h : hp) {c : Nat} (hc : h c = some (oB 5 [.null, .null, .null])) : PMet G MX2_init 2 5 20 [.ref c] h (fun r h' => r = none ∧ ∃ f fp w wp tk : Nat, xt G h h' [f, fp, w, wp, tk] [c] ∧ h' c = some (oB 5 [.ref f, .ref w, .ref tk]) ∧ isC h' f fp zN ∧ isC h' w wp zN ∧ h' tk = some (aI 6 z0)) noX := by
  refine PMet.of (by decide +kernel) (Nat.le_of_ble_eq_true rfl) (fun d hd => ?_)
  have x0 : xt G h h [] [c] := xt.rf1 hc
  refine PW.sub (L2 := [(0, Value.ref c)]) [0] rfl ?_
  refine pw_aload_n (pc2 := 1) dX2_init_0 rfl rfl 0 rfl (by first | exact rf_ref _ | exact rf_opt _ | exact rf_nul) ?_
  refine pw_objInit (pc2 := 4) co_X2_3 wo_1 wo_2 dX2_init_1 rfl (by decide) ?_
  refine pw_aload_n (pc2 := 5) dX2_init_4 rfl rfl 0 rfl (by first | exact rf_ref _ | exact rf_opt _ | exact rf_nul) ?_
  refine pw_new (pc2 := 8) (fs := [.null]) kX1 cl_X2_9 wi_X1 wn_X1 (by decide +kernel) dX2_init_5 rfl (fun f hf gf => ?_)
  obtain ⟨g1, eg1⟩ : ∃ z : hp, z = va_up h f (some (oB 4 [.null])) := ⟨_, rfl⟩
  refine PW.heap (h' := g1) eg1.symm ?_
  have f1_c : g1 c = some (oB 5 [.null, .null, .null]) := by rw [eg1]; exact (va_up_ne _ _ (ne_nw hc hf)).trans hc
  have f1_f : g1 f = some (oB 4 [.null]) := by rw [eg1]; exact va_up_self _ _ _
  have x1 : xt G h g1 [f] [c] := by rw [eg1]; exact x0.new hf gf
  refine pw_dup (pc2 := 9) dX2_init_8 rfl (by first | rfl | exact cat_rf _) ?_
  refine pw_callI (pc2 := 12) (c_cinit' G _ f1_f) cs_X2_11 rfl rfl rfl dX2_init_9 rfl (by omega) rfl (by first | decide | simp [cat_rf, Value.category]) (fun r9 h9 q9 => ?_) (fun Y h9 q9 => q9.elim)
  obtain ⟨rfl, fp, y2, z2⟩ := q9
  generalize h9 = g2 at *
  have f2_c : g2 c = some (oB 5 [.null, .null, .null]) := y2.keep1 f1_c (ne_nw hc hf)
  have x2 : xt G h g2 [f, fp] [c] := x1.call y2 (by simp)
  refine pw_putF (pc2 := 15) kX2 (k := 0) (by decide) rfl rfl rfl rfl fl_X2_12 f2_c (by first | decide | simp) (by first | rfl | exact nar_rf _ _) (by first | rfl | exact fit_rf _ _) dX2_init_12 rfl ?_
  obtain ⟨g3, eg3⟩ : ∃ z : hp, z = va_up g2 c (some (oB 5 [.ref f, .null, .null])) := ⟨_, rfl⟩
  refine PW.heap (h' := g3) eg3.symm ?_
  have f3_f : g3 f = some (oB 4 [.ref fp]) := by rw [eg3]; exact (va_up_ne _ _ ((ne_nw hc hf)).symm).trans z2.1
  have f3_fp : g3 fp = some (aR tRel 6 zN) := by rw [eg3]; exact (va_up_ne _ _ ((y2.ne f1_c (by simp))).symm).trans z2.2
  have f3_c : g3 c = some (oB 5 [.ref f, .null, .null]) := by rw [eg3]; exact va_up_self _ _ _
  have x3 : xt G h g3 [f, fp] [c] := by rw [eg3]; exact x2.wr (by simp)
  refine pw_aload_n (pc2 := 16) dX2_init_15 rfl rfl 0 rfl (by first | exact rf_ref _ | exact rf_opt _ | exact rf_nul) ?_
  refine pw_new (pc2 := 19) (fs := [.null]) kX1 cl_X2_9 wi_X1 wn_X1 (by decide +kernel) dX2_init_16 rfl (fun w hw gw => ?_)
  obtain ⟨g4, eg4⟩ : ∃ z : hp, z = va_up g3 w (some (oB 4 [.null])) := ⟨_, rfl⟩
  refine PW.heap (h' := g4) eg4.symm ?_
  have f4_f : g4 f = some (oB 4 [.ref fp]) := by rw [eg4]; exact (va_up_ne _ _ (ne_nw f3_f hw)).trans f3_f
  have f4_fp : g4 fp = some (aR tRel 6 zN) := by rw [eg4]; exact (va_up_ne _ _ (ne_nw f3_fp hw)).trans f3_fp
  have f4_c : g4 c = some (oB 5 [.ref f, .null, .null]) := by rw [eg4]; exact (va_up_ne _ _ (ne_nw f3_c hw)).trans f3_c
  have f4_w : g4 w = some (oB 4 [.null]) := by rw [eg4]; exact va_up_self _ _ _
  have x4 : xt G h g4 [f, fp, w] [c] := by rw [eg4]; exact x3.new hw gw
  refine pw_dup (pc2 := 20) dX2_init_19 rfl (by first | rfl | exact cat_rf _) ?_
  refine pw_callI (pc2 := 23) (c_cinit' G _ f4_w) cs_X2_11 rfl rfl rfl dX2_init_20 rfl (by omega) rfl (by first | decide | simp [cat_rf, Value.category]) (fun r9 h9 q9 => ?_) (fun Y h9 q9 => q9.elim)
  obtain ⟨rfl, wp, y5, z5⟩ := q9
  generalize h9 = g5 at *
  have f5_f : g5 f = some (oB 4 [.ref fp]) := y5.keep1 f4_f (ne_nw f3_f hw)
  have f5_fp : g5 fp = some (aR tRel 6 zN) := y5.keep1 f4_fp (ne_nw f3_fp hw)
  have f5_c : g5 c = some (oB 5 [.ref f, .null, .null]) := y5.keep1 f4_c (ne_nw f3_c hw)
  have x5 : xt G h g5 [f, fp, w, wp] [c] := x4.call y5 (by simp)
  refine pw_putF (pc2 := 26) kX2 (k := 1) (by decide) rfl rfl rfl rfl fl_X2_18 f5_c (by first | decide | simp) (by first | rfl | exact nar_rf _ _) (by first | rfl | exact fit_rf _ _) dX2_init_23 rfl ?_
  obtain ⟨g6, eg6⟩ : ∃ z : hp, z = va_up g5 c (some (oB 5 [.ref f, .ref w, .null])) := ⟨_, rfl⟩
  refine PW.heap (h' := g6) eg6.symm ?_
  have f6_f : g6 f = some (oB 4 [.ref fp]) := by rw [eg6]; exact (va_up_ne _ _ ((ne_nw hc hf)).symm).trans f5_f
  have f6_fp : g6 fp = some (aR tRel 6 zN) := by rw [eg6]; exact (va_up_ne _ _ ((y2.ne f1_c (by simp))).symm).trans f5_fp
  have f6_w : g6 w = some (oB 4 [.ref wp]) := by rw [eg6]; exact (va_up_ne _ _ ((ne_nw f3_c hw)).symm).trans z5.1
  have f6_wp : g6 wp = some (aR tRel 6 zN) := by rw [eg6]; exact (va_up_ne _ _ ((y5.ne f4_c (by simp))).symm).trans z5.2
  have f6_c : g6 c = some (oB 5 [.ref f, .ref w, .null]) := by rw [eg6]; exact va_up_self _ _ _
  have x6 : xt G h g6 [f, fp, w, wp] [c] := by rw [eg6]; exact x5.wr (by simp)
  refine pw_aload_n (pc2 := 27) dX2_init_26 rfl rfl 0 rfl (by first | exact rf_ref _ | exact rf_opt _ | exact rf_nul) ?_
  refine pw_bipush (pc2 := 29) (v := 6) dX2_init_27 rfl (by decide) ?_
  refine pw_newarr (pc2 := 31) (atype := .int) (a0 := (6, .inl (fun _ => 0))) 0 rfl rfl wa_95 (fun _ => rfl) (by decide) (by decide) (by decide) dX2_init_29 rfl (fun tk htk gtk => ?_)
  obtain ⟨g7, eg7⟩ : ∃ z : hp, z = va_up g6 tk (some (aI 6 z0)) := ⟨_, rfl⟩
  refine PW.heap (h' := g7) eg7.symm ?_
  have f7_f : g7 f = some (oB 4 [.ref fp]) := by rw [eg7]; exact (va_up_ne _ _ (ne_nw f6_f htk)).trans f6_f
  have f7_fp : g7 fp = some (aR tRel 6 zN) := by rw [eg7]; exact (va_up_ne _ _ (ne_nw f6_fp htk)).trans f6_fp
  have f7_w : g7 w = some (oB 4 [.ref wp]) := by rw [eg7]; exact (va_up_ne _ _ (ne_nw f6_w htk)).trans f6_w
  have f7_wp : g7 wp = some (aR tRel 6 zN) := by rw [eg7]; exact (va_up_ne _ _ (ne_nw f6_wp htk)).trans f6_wp
  have f7_c : g7 c = some (oB 5 [.ref f, .ref w, .null]) := by rw [eg7]; exact (va_up_ne _ _ (ne_nw f6_c htk)).trans f6_c
  have f7_tk : g7 tk = some (aI 6 z0) := by rw [eg7]; exact va_up_self _ _ _
  have x7 : xt G h g7 [f, fp, w, wp, tk] [c] := by rw [eg7]; exact x6.new htk gtk
  refine pw_putF (pc2 := 34) kX2 (k := 2) (by decide) rfl rfl rfl rfl fl_X2_21 f7_c (by first | decide | simp) (by first | rfl | exact nar_rf _ _) (by first | rfl | exact fit_rf _ _) dX2_init_31 rfl ?_
  obtain ⟨g8, eg8⟩ : ∃ z : hp, z = va_up g7 c (some (oB 5 [.ref f, .ref w, .ref tk])) := ⟨_, rfl⟩
  refine PW.heap (h' := g8) eg8.symm ?_
  have f8_f : g8 f = some (oB 4 [.ref fp]) := by rw [eg8]; exact (va_up_ne _ _ ((ne_nw hc hf)).symm).trans f7_f
  have f8_fp : g8 fp = some (aR tRel 6 zN) := by rw [eg8]; exact (va_up_ne _ _ ((y2.ne f1_c (by simp))).symm).trans f7_fp
  have f8_w : g8 w = some (oB 4 [.ref wp]) := by rw [eg8]; exact (va_up_ne _ _ ((ne_nw f3_c hw)).symm).trans f7_w
  have f8_wp : g8 wp = some (aR tRel 6 zN) := by rw [eg8]; exact (va_up_ne _ _ ((y5.ne f4_c (by simp))).symm).trans f7_wp
  have f8_tk : g8 tk = some (aI 6 z0) := by rw [eg8]; exact (va_up_ne _ _ ((ne_nw f6_c htk)).symm).trans f7_tk
  have f8_c : g8 c = some (oB 5 [.ref f, .ref w, .ref tk]) := by rw [eg8]; exact va_up_self _ _ _
  have x8 : xt G h g8 [f, fp, w, wp, tk] [c] := by rw [eg8]; exact x7.wr (by simp)
  refine pw_vret dX2_init_34 rfl ?_
  exact ⟨rfl, f, fp, w, wp, tk, x8, f8_c, ⟨f8_f, f8_fp⟩, ⟨f8_w, f8_wp⟩, f8_tk⟩
set_option maxHeartbeats 4000000 in
set_option maxRecDepth 100000 in
theorem c_finit (G : hG) (h : hp) {x : Nat} (hx : h x = some (oB 12 [.null, .null, .null, .null, .null, .null, .int 0, .int 0, .int 0, .int 0])) : PMet G MX9_init 4 11 39 [.ref x] h (fun r h' => r = none ∧ ∃ l1 l2 l3 c f fp w wp tk bu fr : Nat, xt G h h' [l1, l2, l3, c, f, fp, w, wp, tk, bu, fr] [x] ∧ h' x = some (oB 12 [.ref l1, .ref l2, .ref l3, .ref c, .ref bu, .ref fr, .int 1, .int 0, .int 0, .int 0]) ∧ (h' l1 = some (oB 2 [.int 0, .ref G.2.2, .int 0]) ∧ h' l2 = some (oB 2 [.int 0, .ref G.2.2, .int 0]) ∧ h' l3 = some (oB 2 [.int 0, .ref G.2.2, .int 0])) ∧ (h' c = some (oB 5 [.ref f, .ref w, .ref tk]) ∧ isC h' f fp zN ∧ isC h' w wp zN ∧ h' tk = some (aI 6 z0)) ∧ h' bu = some (aI 3 z0) ∧ h' fr = some (aI 4 z0)) noX := by
  refine PMet.of (by decide +kernel) (Nat.le_of_ble_eq_true rfl) (fun d hd => ?_)
  have x0 : xt G h h [] [x] := xt.rf1 hx
  refine PW.sub (L2 := [(0, Value.ref x)]) [0] rfl ?_
  refine pw_aload_n (pc2 := 1) dX9_init_0 rfl rfl 0 rfl (by first | exact rf_ref _ | exact rf_opt _ | exact rf_nul) ?_
  refine pw_objInit (pc2 := 4) co_X9_1 wo_1 wo_2 dX9_init_1 rfl (by decide) ?_
  refine pw_aload_n (pc2 := 5) dX9_init_4 rfl rfl 0 rfl (by first | exact rf_ref _ | exact rf_opt _ | exact rf_nul) ?_
  refine pw_new (pc2 := 8) (fs := [.int 0, .null, .int 0]) kJx4a65c cl_X9_7 wi_Jx4a65c wn_Jx4a65c (by decide +kernel) dX9_init_5 rfl (fun l1 hl1 gl1 => ?_)
  obtain ⟨g1, eg1⟩ : ∃ z : hp, z = va_up h l1 (some (oB 2 [.int 0, .null, .int 0])) := ⟨_, rfl⟩
  refine PW.heap (h' := g1) eg1.symm ?_
  have f1_x : g1 x = some (oB 12 [.null, .null, .null, .null, .null, .null, .int 0, .int 0, .int 0, .int 0]) := by rw [eg1]; exact (va_up_ne _ _ (ne_nw hx hl1)).trans hx
  have f1_l1 : g1 l1 = some (oB 2 [.int 0, .null, .int 0]) := by rw [eg1]; exact va_up_self _ _ _
  have x1 : xt G h g1 [l1] [x] := by rw [eg1]; exact x0.new hl1 gl1
  refine pw_dup (pc2 := 9) dX9_init_8 rfl (by first | rfl | exact cat_rf _) ?_
  refine pw_callI0 (pc2 := 12) (c_linit G _ f1_l1) cs_X9_9 rfl rfl rfl dX9_init_9 rfl (by omega) rfl (by first | decide | simp [cat_rf, Value.category]) ?_
  obtain ⟨g2, eg2⟩ : ∃ z : hp, z = va_up g1 l1 (some (oB 2 [.int 0, .ref G.2.2, .int 0])) := ⟨_, rfl⟩
  refine PW.heap (h' := g2) eg2.symm ?_
  have f2_x : g2 x = some (oB 12 [.null, .null, .null, .null, .null, .null, .int 0, .int 0, .int 0, .int 0]) := by rw [eg2]; exact (va_up_ne _ _ (ne_nw hx hl1)).trans f1_x
  have f2_l1 : g2 l1 = some (oB 2 [.int 0, .ref G.2.2, .int 0]) := by rw [eg2]; exact va_up_self _ _ _
  have x2 : xt G h g2 [l1] [x] := by rw [eg2]; exact x1.wr (by simp)
  refine pw_putF (pc2 := 15) kX9 (k := 0) (by decide) rfl rfl rfl rfl fl_X9_10 f2_x (by first | decide | simp) (by first | rfl | exact nar_rf _ _) (by first | rfl | exact fit_rf _ _) dX9_init_12 rfl ?_
  obtain ⟨g3, eg3⟩ : ∃ z : hp, z = va_up g2 x (some (oB 12 [.ref l1, .null, .null, .null, .null, .null, .int 0, .int 0, .int 0, .int 0])) := ⟨_, rfl⟩
  refine PW.heap (h' := g3) eg3.symm ?_
  have f3_l1 : g3 l1 = some (oB 2 [.int 0, .ref G.2.2, .int 0]) := by rw [eg3]; exact (va_up_ne _ _ ((ne_nw hx hl1)).symm).trans f2_l1
  have f3_x : g3 x = some (oB 12 [.ref l1, .null, .null, .null, .null, .null, .int 0, .int 0, .int 0, .int 0]) := by rw [eg3]; exact va_up_self _ _ _
  have x3 : xt G h g3 [l1] [x] := by rw [eg3]; exact x2.wr (by simp)
  refine pw_aload_n (pc2 := 16) dX9_init_15 rfl rfl 0 rfl (by first | exact rf_ref _ | exact rf_opt _ | exact rf_nul) ?_
  refine pw_new (pc2 := 19) (fs := [.int 0, .null, .int 0]) kJx4a65c cl_X9_7 wi_Jx4a65c wn_Jx4a65c (by decide +kernel) dX9_init_16 rfl (fun l2 hl2 gl2 => ?_)
  obtain ⟨g4, eg4⟩ : ∃ z : hp, z = va_up g3 l2 (some (oB 2 [.int 0, .null, .int 0])) := ⟨_, rfl⟩
  refine PW.heap (h' := g4) eg4.symm ?_
  have f4_l1 : g4 l1 = some (oB 2 [.int 0, .ref G.2.2, .int 0]) := by rw [eg4]; exact (va_up_ne _ _ (ne_nw f3_l1 hl2)).trans f3_l1
  have f4_x : g4 x = some (oB 12 [.ref l1, .null, .null, .null, .null, .null, .int 0, .int 0, .int 0, .int 0]) := by rw [eg4]; exact (va_up_ne _ _ (ne_nw f3_x hl2)).trans f3_x
  have f4_l2 : g4 l2 = some (oB 2 [.int 0, .null, .int 0]) := by rw [eg4]; exact va_up_self _ _ _
  have x4 : xt G h g4 [l1, l2] [x] := by rw [eg4]; exact x3.new hl2 gl2
  refine pw_dup (pc2 := 20) dX9_init_19 rfl (by first | rfl | exact cat_rf _) ?_
  refine pw_callI0 (pc2 := 23) (c_linit G _ f4_l2) cs_X9_9 rfl rfl rfl dX9_init_20 rfl (by omega) rfl (by first | decide | simp [cat_rf, Value.category]) ?_
  obtain ⟨g5, eg5⟩ : ∃ z : hp, z = va_up g4 l2 (some (oB 2 [.int 0, .ref G.2.2, .int 0])) := ⟨_, rfl⟩
  refine PW.heap (h' := g5) eg5.symm ?_
  have f5_l1 : g5 l1 = some (oB 2 [.int 0, .ref G.2.2, .int 0]) := by rw [eg5]; exact (va_up_ne _ _ (ne_nw f3_l1 hl2)).trans f4_l1
  have f5_x : g5 x = some (oB 12 [.ref l1, .null, .null, .null, .null, .null, .int 0, .int 0, .int 0, .int 0]) := by rw [eg5]; exact (va_up_ne _ _ (ne_nw f3_x hl2)).trans f4_x
  have f5_l2 : g5 l2 = some (oB 2 [.int 0, .ref G.2.2, .int 0]) := by rw [eg5]; exact va_up_self _ _ _
  have x5 : xt G h g5 [l1, l2] [x] := by rw [eg5]; exact x4.wr (by simp)
  refine pw_putF (pc2 := 26) kX9 (k := 1) (by decide) rfl rfl rfl rfl fl_X9_16 f5_x (by first | decide | simp) (by first | rfl | exact nar_rf _ _) (by first | rfl | exact fit_rf _ _) dX9_init_23 rfl ?_
  obtain ⟨g6, eg6⟩ : ∃ z : hp, z = va_up g5 x (some (oB 12 [.ref l1, .ref l2, .null, .null, .null, .null, .int 0, .int 0, .int 0, .int 0])) := ⟨_, rfl⟩
  refine PW.heap (h' := g6) eg6.symm ?_
  have f6_l1 : g6 l1 = some (oB 2 [.int 0, .ref G.2.2, .int 0]) := by rw [eg6]; exact (va_up_ne _ _ ((ne_nw hx hl1)).symm).trans f5_l1
  have f6_l2 : g6 l2 = some (oB 2 [.int 0, .ref G.2.2, .int 0]) := by rw [eg6]; exact (va_up_ne _ _ ((ne_nw f3_x hl2)).symm).trans f5_l2
  have f6_x : g6 x = some (oB 12 [.ref l1, .ref l2, .null, .null, .null, .null, .int 0, .int 0, .int 0, .int 0]) := by rw [eg6]; exact va_up_self _ _ _
  have x6 : xt G h g6 [l1, l2] [x] := by rw [eg6]; exact x5.wr (by simp)
  refine pw_aload_n (pc2 := 27) dX9_init_26 rfl rfl 0 rfl (by first | exact rf_ref _ | exact rf_opt _ | exact rf_nul) ?_
  refine pw_new (pc2 := 30) (fs := [.int 0, .null, .int 0]) kJx4a65c cl_X9_7 wi_Jx4a65c wn_Jx4a65c (by decide +kernel) dX9_init_27 rfl (fun l3 hl3 gl3 => ?_)
  obtain ⟨g7, eg7⟩ : ∃ z : hp, z = va_up g6 l3 (some (oB 2 [.int 0, .null, .int 0])) := ⟨_, rfl⟩
  refine PW.heap (h' := g7) eg7.symm ?_
  have f7_l1 : g7 l1 = some (oB 2 [.int 0, .ref G.2.2, .int 0]) := by rw [eg7]; exact (va_up_ne _ _ (ne_nw f6_l1 hl3)).trans f6_l1
  have f7_l2 : g7 l2 = some (oB 2 [.int 0, .ref G.2.2, .int 0]) := by rw [eg7]; exact (va_up_ne _ _ (ne_nw f6_l2 hl3)).trans f6_l2
  have f7_x : g7 x = some (oB 12 [.ref l1, .ref l2, .null, .null, .null, .null, .int 0, .int 0, .int 0, .int 0]) := by rw [eg7]; exact (va_up_ne _ _ (ne_nw f6_x hl3)).trans f6_x
  have f7_l3 : g7 l3 = some (oB 2 [.int 0, .null, .int 0]) := by rw [eg7]; exact va_up_self _ _ _
  have x7 : xt G h g7 [l1, l2, l3] [x] := by rw [eg7]; exact x6.new hl3 gl3
  refine pw_dup (pc2 := 31) dX9_init_30 rfl (by first | rfl | exact cat_rf _) ?_
  refine pw_callI0 (pc2 := 34) (c_linit G _ f7_l3) cs_X9_9 rfl rfl rfl dX9_init_31 rfl (by omega) rfl (by first | decide | simp [cat_rf, Value.category]) ?_
  obtain ⟨g8, eg8⟩ : ∃ z : hp, z = va_up g7 l3 (some (oB 2 [.int 0, .ref G.2.2, .int 0])) := ⟨_, rfl⟩
  refine PW.heap (h' := g8) eg8.symm ?_
  have f8_l1 : g8 l1 = some (oB 2 [.int 0, .ref G.2.2, .int 0]) := by rw [eg8]; exact (va_up_ne _ _ (ne_nw f6_l1 hl3)).trans f7_l1
  have f8_l2 : g8 l2 = some (oB 2 [.int 0, .ref G.2.2, .int 0]) := by rw [eg8]; exact (va_up_ne _ _ (ne_nw f6_l2 hl3)).trans f7_l2
  have f8_x : g8 x = some (oB 12 [.ref l1, .ref l2, .null, .null, .null, .null, .int 0, .int 0, .int 0, .int 0]) := by rw [eg8]; exact (va_up_ne _ _ (ne_nw f6_x hl3)).trans f7_x
  have f8_l3 : g8 l3 = some (oB 2 [.int 0, .ref G.2.2, .int 0]) := by rw [eg8]; exact va_up_self _ _ _
  have x8 : xt G h g8 [l1, l2, l3] [x] := by rw [eg8]; exact x7.wr (by simp)
  refine pw_putF (pc2 := 37) kX9 (k := 2) (by decide) rfl rfl rfl rfl fl_X9_19 f8_x (by first | decide | simp) (by first | rfl | exact nar_rf _ _) (by first | rfl | exact fit_rf _ _) dX9_init_34 rfl ?_
  obtain ⟨g9, eg9⟩ : ∃ z : hp, z = va_up g8 x (some (oB 12 [.ref l1, .ref l2, .ref l3, .null, .null, .null, .int 0, .int 0, .int 0, .int 0])) := ⟨_, rfl⟩
  refine PW.heap (h' := g9) eg9.symm ?_
  have f9_l1 : g9 l1 = some (oB 2 [.int 0, .ref G.2.2, .int 0]) := by rw [eg9]; exact (va_up_ne _ _ ((ne_nw hx hl1)).symm).trans f8_l1
  have f9_l2 : g9 l2 = some (oB 2 [.int 0, .ref G.2.2, .int 0]) := by rw [eg9]; exact (va_up_ne _ _ ((ne_nw f3_x hl2)).symm).trans f8_l2
  have f9_l3 : g9 l3 = some (oB 2 [.int 0, .ref G.2.2, .int 0]) := by rw [eg9]; exact (va_up_ne _ _ ((ne_nw f6_x hl3)).symm).trans f8_l3
  have f9_x : g9 x = some (oB 12 [.ref l1, .ref l2, .ref l3, .null, .null, .null, .int 0, .int 0, .int 0, .int 0]) := by rw [eg9]; exact va_up_self _ _ _
  have x9 : xt G h g9 [l1, l2, l3] [x] := by rw [eg9]; exact x8.wr (by simp)
  refine pw_aload_n (pc2 := 38) dX9_init_37 rfl rfl 0 rfl (by first | exact rf_ref _ | exact rf_opt _ | exact rf_nul) ?_
  refine pw_new (pc2 := 41) (fs := [.null, .null, .null]) kX2 cl_X9_22 wi_X2 wn_X2 (by decide +kernel) dX9_init_38 rfl (fun c hc gc => ?_)
  obtain ⟨g10, eg10⟩ : ∃ z : hp, z = va_up g9 c (some (oB 5 [.null, .null, .null])) := ⟨_, rfl⟩
  refine PW.heap (h' := g10) eg10.symm ?_
  have f10_l1 : g10 l1 = some (oB 2 [.int 0, .ref G.2.2, .int 0]) := by rw [eg10]; exact (va_up_ne _ _ (ne_nw f9_l1 hc)).trans f9_l1
  have f10_l2 : g10 l2 = some (oB 2 [.int 0, .ref G.2.2, .int 0]) := by rw [eg10]; exact (va_up_ne _ _ (ne_nw f9_l2 hc)).trans f9_l2
  have f10_l3 : g10 l3 = some (oB 2 [.int 0, .ref G.2.2, .int 0]) := by rw [eg10]; exact (va_up_ne _ _ (ne_nw f9_l3 hc)).trans f9_l3
  have f10_x : g10 x = some (oB 12 [.ref l1, .ref l2, .ref l3, .null, .null, .null, .int 0, .int 0, .int 0, .int 0]) := by rw [eg10]; exact (va_up_ne _ _ (ne_nw f9_x hc)).trans f9_x
  have f10_c : g10 c = some (oB 5 [.null, .null, .null]) := by rw [eg10]; exact va_up_self _ _ _
  have x10 : xt G h g10 [l1, l2, l3, c] [x] := by rw [eg10]; exact x9.new hc gc
  refine pw_dup (pc2 := 42) dX9_init_41 rfl (by first | rfl | exact cat_rf _) ?_
  refine pw_callI (pc2 := 45) (c_chinit G _ f10_c) cs_X9_24 rfl rfl rfl dX9_init_42 rfl (by omega) rfl (by first | decide | simp [cat_rf, Value.category]) (fun r9 h9 q9 => ?_) (fun Y h9 q9 => q9.elim)
  obtain ⟨rfl, f, fp, w, wp, tk, y11, z11⟩ := q9
  generalize h9 = g11 at *
  have f11_l1 : g11 l1 = some (oB 2 [.int 0, .ref G.2.2, .int 0]) := y11.keep1 f10_l1 (ne_nw f9_l1 hc)
  have f11_l2 : g11 l2 = some (oB 2 [.int 0, .ref G.2.2, .int 0]) := y11.keep1 f10_l2 (ne_nw f9_l2 hc)
  have f11_l3 : g11 l3 = some (oB 2 [.int 0, .ref G.2.2, .int 0]) := y11.keep1 f10_l3 (ne_nw f9_l3 hc)
  have f11_x : g11 x = some (oB 12 [.ref l1, .ref l2, .ref l3, .null, .null, .null, .int 0, .int 0, .int 0, .int 0]) := y11.keep1 f10_x (ne_nw f9_x hc)
  have x11 : xt G h g11 [l1, l2, l3, c, f, fp, w, wp, tk] [x] := x10.call y11 (by simp)
  refine pw_putF (pc2 := 48) kX9 (k := 3) (by decide) rfl rfl rfl rfl fl_X9_25 f11_x (by first | decide | simp) (by first | rfl | exact nar_rf _ _) (by first | rfl | exact fit_rf _ _) dX9_init_45 rfl ?_
  obtain ⟨g12, eg12⟩ : ∃ z : hp, z = va_up g11 x (some (oB 12 [.ref l1, .ref l2, .ref l3, .ref c, .null, .null, .int 0, .int 0, .int 0, .int 0])) := ⟨_, rfl⟩
  refine PW.heap (h' := g12) eg12.symm ?_
  have f12_l1 : g12 l1 = some (oB 2 [.int 0, .ref G.2.2, .int 0]) := by rw [eg12]; exact (va_up_ne _ _ ((ne_nw hx hl1)).symm).trans f11_l1
  have f12_l2 : g12 l2 = some (oB 2 [.int 0, .ref G.2.2, .int 0]) := by rw [eg12]; exact (va_up_ne _ _ ((ne_nw f3_x hl2)).symm).trans f11_l2
  have f12_l3 : g12 l3 = some (oB 2 [.int 0, .ref G.2.2, .int 0]) := by rw [eg12]; exact (va_up_ne _ _ ((ne_nw f6_x hl3)).symm).trans f11_l3
  have f12_c : g12 c = some (oB 5 [.ref f, .ref w, .ref tk]) := by rw [eg12]; exact (va_up_ne _ _ ((ne_nw f9_x hc)).symm).trans z11.1
  have f12_f : g12 f = some (oB 4 [.ref fp]) := by rw [eg12]; exact (va_up_ne _ _ ((y11.ne f10_x (by simp))).symm).trans z11.2.1.1
  have f12_fp : g12 fp = some (aR tRel 6 zN) := by rw [eg12]; exact (va_up_ne _ _ ((y11.ne f10_x (by simp))).symm).trans z11.2.1.2
  have f12_w : g12 w = some (oB 4 [.ref wp]) := by rw [eg12]; exact (va_up_ne _ _ ((y11.ne f10_x (by simp))).symm).trans z11.2.2.1.1
  have f12_wp : g12 wp = some (aR tRel 6 zN) := by rw [eg12]; exact (va_up_ne _ _ ((y11.ne f10_x (by simp))).symm).trans z11.2.2.1.2
  have f12_tk : g12 tk = some (aI 6 z0) := by rw [eg12]; exact (va_up_ne _ _ ((y11.ne f10_x (by simp))).symm).trans z11.2.2.2
  have f12_x : g12 x = some (oB 12 [.ref l1, .ref l2, .ref l3, .ref c, .null, .null, .int 0, .int 0, .int 0, .int 0]) := by rw [eg12]; exact va_up_self _ _ _
  have x12 : xt G h g12 [l1, l2, l3, c, f, fp, w, wp, tk] [x] := by rw [eg12]; exact x11.wr (by simp)
  refine pw_aload_n (pc2 := 49) dX9_init_48 rfl rfl 0 rfl (by first | exact rf_ref _ | exact rf_opt _ | exact rf_nul) ?_
  refine pw_iconst (pc2 := 50) (v := 3) dX9_init_49 rfl (by decide) ?_
  refine pw_newarr (pc2 := 52) (atype := .int) (a0 := (3, .inl (fun _ => 0))) 0 rfl rfl wa_95 (fun _ => rfl) (by decide) (by decide) (by decide) dX9_init_50 rfl (fun bu hbu gbu => ?_)
  obtain ⟨g13, eg13⟩ : ∃ z : hp, z = va_up g12 bu (some (aI 3 z0)) := ⟨_, rfl⟩
  refine PW.heap (h' := g13) eg13.symm ?_
  have f13_l1 : g13 l1 = some (oB 2 [.int 0, .ref G.2.2, .int 0]) := by rw [eg13]; exact (va_up_ne _ _ (ne_nw f12_l1 hbu)).trans f12_l1
  have f13_l2 : g13 l2 = some (oB 2 [.int 0, .ref G.2.2, .int 0]) := by rw [eg13]; exact (va_up_ne _ _ (ne_nw f12_l2 hbu)).trans f12_l2
  have f13_l3 : g13 l3 = some (oB 2 [.int 0, .ref G.2.2, .int 0]) := by rw [eg13]; exact (va_up_ne _ _ (ne_nw f12_l3 hbu)).trans f12_l3
  have f13_c : g13 c = some (oB 5 [.ref f, .ref w, .ref tk]) := by rw [eg13]; exact (va_up_ne _ _ (ne_nw f12_c hbu)).trans f12_c
  have f13_f : g13 f = some (oB 4 [.ref fp]) := by rw [eg13]; exact (va_up_ne _ _ (ne_nw f12_f hbu)).trans f12_f
  have f13_fp : g13 fp = some (aR tRel 6 zN) := by rw [eg13]; exact (va_up_ne _ _ (ne_nw f12_fp hbu)).trans f12_fp
  have f13_w : g13 w = some (oB 4 [.ref wp]) := by rw [eg13]; exact (va_up_ne _ _ (ne_nw f12_w hbu)).trans f12_w
  have f13_wp : g13 wp = some (aR tRel 6 zN) := by rw [eg13]; exact (va_up_ne _ _ (ne_nw f12_wp hbu)).trans f12_wp
  have f13_tk : g13 tk = some (aI 6 z0) := by rw [eg13]; exact (va_up_ne _ _ (ne_nw f12_tk hbu)).trans f12_tk
  have f13_x : g13 x = some (oB 12 [.ref l1, .ref l2, .ref l3, .ref c, .null, .null, .int 0, .int 0, .int 0, .int 0]) := by rw [eg13]; exact (va_up_ne _ _ (ne_nw f12_x hbu)).trans f12_x
  have f13_bu : g13 bu = some (aI 3 z0) := by rw [eg13]; exact va_up_self _ _ _
  have x13 : xt G h g13 [l1, l2, l3, c, f, fp, w, wp, tk, bu] [x] := by rw [eg13]; exact x12.new hbu gbu
  refine pw_putF (pc2 := 55) kX9 (k := 4) (by decide) rfl rfl rfl rfl fl_X9_29 f13_x (by first | decide | simp) (by first | rfl | exact nar_rf _ _) (by first | rfl | exact fit_rf _ _) dX9_init_52 rfl ?_
  obtain ⟨g14, eg14⟩ : ∃ z : hp, z = va_up g13 x (some (oB 12 [.ref l1, .ref l2, .ref l3, .ref c, .ref bu, .null, .int 0, .int 0, .int 0, .int 0])) := ⟨_, rfl⟩
  refine PW.heap (h' := g14) eg14.symm ?_
  have f14_l1 : g14 l1 = some (oB 2 [.int 0, .ref G.2.2, .int 0]) := by rw [eg14]; exact (va_up_ne _ _ ((ne_nw hx hl1)).symm).trans f13_l1
  have f14_l2 : g14 l2 = some (oB 2 [.int 0, .ref G.2.2, .int 0]) := by rw [eg14]; exact (va_up_ne _ _ ((ne_nw f3_x hl2)).symm).trans f13_l2
  have f14_l3 : g14 l3 = some (oB 2 [.int 0, .ref G.2.2, .int 0]) := by rw [eg14]; exact (va_up_ne _ _ ((ne_nw f6_x hl3)).symm).trans f13_l3
  have f14_c : g14 c = some (oB 5 [.ref f, .ref w, .ref tk]) := by rw [eg14]; exact (va_up_ne _ _ ((ne_nw f9_x hc)).symm).trans f13_c
  have f14_f : g14 f = some (oB 4 [.ref fp]) := by rw [eg14]; exact (va_up_ne _ _ ((y11.ne f10_x (by simp))).symm).trans f13_f
  have f14_fp : g14 fp = some (aR tRel 6 zN) := by rw [eg14]; exact (va_up_ne _ _ ((y11.ne f10_x (by simp))).symm).trans f13_fp
  have f14_w : g14 w = some (oB 4 [.ref wp]) := by rw [eg14]; exact (va_up_ne _ _ ((y11.ne f10_x (by simp))).symm).trans f13_w
  have f14_wp : g14 wp = some (aR tRel 6 zN) := by rw [eg14]; exact (va_up_ne _ _ ((y11.ne f10_x (by simp))).symm).trans f13_wp
  have f14_tk : g14 tk = some (aI 6 z0) := by rw [eg14]; exact (va_up_ne _ _ ((y11.ne f10_x (by simp))).symm).trans f13_tk
  have f14_bu : g14 bu = some (aI 3 z0) := by rw [eg14]; exact (va_up_ne _ _ ((ne_nw f12_x hbu)).symm).trans f13_bu
  have f14_x : g14 x = some (oB 12 [.ref l1, .ref l2, .ref l3, .ref c, .ref bu, .null, .int 0, .int 0, .int 0, .int 0]) := by rw [eg14]; exact va_up_self _ _ _
  have x14 : xt G h g14 [l1, l2, l3, c, f, fp, w, wp, tk, bu] [x] := by rw [eg14]; exact x13.wr (by simp)
  refine pw_aload_n (pc2 := 56) dX9_init_55 rfl rfl 0 rfl (by first | exact rf_ref _ | exact rf_opt _ | exact rf_nul) ?_
  refine pw_iconst (pc2 := 57) (v := 4) dX9_init_56 rfl (by decide) ?_
  refine pw_newarr (pc2 := 59) (atype := .int) (a0 := (4, .inl (fun _ => 0))) 0 rfl rfl wa_95 (fun _ => rfl) (by decide) (by decide) (by decide) dX9_init_57 rfl (fun fr hfr gfr => ?_)
  obtain ⟨g15, eg15⟩ : ∃ z : hp, z = va_up g14 fr (some (aI 4 z0)) := ⟨_, rfl⟩
  refine PW.heap (h' := g15) eg15.symm ?_
  have f15_l1 : g15 l1 = some (oB 2 [.int 0, .ref G.2.2, .int 0]) := by rw [eg15]; exact (va_up_ne _ _ (ne_nw f14_l1 hfr)).trans f14_l1
  have f15_l2 : g15 l2 = some (oB 2 [.int 0, .ref G.2.2, .int 0]) := by rw [eg15]; exact (va_up_ne _ _ (ne_nw f14_l2 hfr)).trans f14_l2
  have f15_l3 : g15 l3 = some (oB 2 [.int 0, .ref G.2.2, .int 0]) := by rw [eg15]; exact (va_up_ne _ _ (ne_nw f14_l3 hfr)).trans f14_l3
  have f15_c : g15 c = some (oB 5 [.ref f, .ref w, .ref tk]) := by rw [eg15]; exact (va_up_ne _ _ (ne_nw f14_c hfr)).trans f14_c
  have f15_f : g15 f = some (oB 4 [.ref fp]) := by rw [eg15]; exact (va_up_ne _ _ (ne_nw f14_f hfr)).trans f14_f
  have f15_fp : g15 fp = some (aR tRel 6 zN) := by rw [eg15]; exact (va_up_ne _ _ (ne_nw f14_fp hfr)).trans f14_fp
  have f15_w : g15 w = some (oB 4 [.ref wp]) := by rw [eg15]; exact (va_up_ne _ _ (ne_nw f14_w hfr)).trans f14_w
  have f15_wp : g15 wp = some (aR tRel 6 zN) := by rw [eg15]; exact (va_up_ne _ _ (ne_nw f14_wp hfr)).trans f14_wp
  have f15_tk : g15 tk = some (aI 6 z0) := by rw [eg15]; exact (va_up_ne _ _ (ne_nw f14_tk hfr)).trans f14_tk
  have f15_bu : g15 bu = some (aI 3 z0) := by rw [eg15]; exact (va_up_ne _ _ (ne_nw f14_bu hfr)).trans f14_bu
  have f15_x : g15 x = some (oB 12 [.ref l1, .ref l2, .ref l3, .ref c, .ref bu, .null, .int 0, .int 0, .int 0, .int 0]) := by rw [eg15]; exact (va_up_ne _ _ (ne_nw f14_x hfr)).trans f14_x
  have f15_fr : g15 fr = some (aI 4 z0) := by rw [eg15]; exact va_up_self _ _ _
  have x15 : xt G h g15 [l1, l2, l3, c, f, fp, w, wp, tk, bu, fr] [x] := by rw [eg15]; exact x14.new hfr gfr
  refine pw_putF (pc2 := 62) kX9 (k := 5) (by decide) rfl rfl rfl rfl fl_X9_33 f15_x (by first | decide | simp) (by first | rfl | exact nar_rf _ _) (by first | rfl | exact fit_rf _ _) dX9_init_59 rfl ?_
  obtain ⟨g16, eg16⟩ : ∃ z : hp, z = va_up g15 x (some (oB 12 [.ref l1, .ref l2, .ref l3, .ref c, .ref bu, .ref fr, .int 0, .int 0, .int 0, .int 0])) := ⟨_, rfl⟩
  refine PW.heap (h' := g16) eg16.symm ?_
  have f16_l1 : g16 l1 = some (oB 2 [.int 0, .ref G.2.2, .int 0]) := by rw [eg16]; exact (va_up_ne _ _ ((ne_nw hx hl1)).symm).trans f15_l1
  have f16_l2 : g16 l2 = some (oB 2 [.int 0, .ref G.2.2, .int 0]) := by rw [eg16]; exact (va_up_ne _ _ ((ne_nw f3_x hl2)).symm).trans f15_l2
  have f16_l3 : g16 l3 = some (oB 2 [.int 0, .ref G.2.2, .int 0]) := by rw [eg16]; exact (va_up_ne _ _ ((ne_nw f6_x hl3)).symm).trans f15_l3
  have f16_c : g16 c = some (oB 5 [.ref f, .ref w, .ref tk]) := by rw [eg16]; exact (va_up_ne _ _ ((ne_nw f9_x hc)).symm).trans f15_c
  have f16_f : g16 f = some (oB 4 [.ref fp]) := by rw [eg16]; exact (va_up_ne _ _ ((y11.ne f10_x (by simp))).symm).trans f15_f
  have f16_fp : g16 fp = some (aR tRel 6 zN) := by rw [eg16]; exact (va_up_ne _ _ ((y11.ne f10_x (by simp))).symm).trans f15_fp
  have f16_w : g16 w = some (oB 4 [.ref wp]) := by rw [eg16]; exact (va_up_ne _ _ ((y11.ne f10_x (by simp))).symm).trans f15_w
  have f16_wp : g16 wp = some (aR tRel 6 zN) := by rw [eg16]; exact (va_up_ne _ _ ((y11.ne f10_x (by simp))).symm).trans f15_wp
  have f16_tk : g16 tk = some (aI 6 z0) := by rw [eg16]; exact (va_up_ne _ _ ((y11.ne f10_x (by simp))).symm).trans f15_tk
  have f16_bu : g16 bu = some (aI 3 z0) := by rw [eg16]; exact (va_up_ne _ _ ((ne_nw f12_x hbu)).symm).trans f15_bu
  have f16_fr : g16 fr = some (aI 4 z0) := by rw [eg16]; exact (va_up_ne _ _ ((ne_nw f14_x hfr)).symm).trans f15_fr
  have f16_x : g16 x = some (oB 12 [.ref l1, .ref l2, .ref l3, .ref c, .ref bu, .ref fr, .int 0, .int 0, .int 0, .int 0]) := by rw [eg16]; exact va_up_self _ _ _
  have x16 : xt G h g16 [l1, l2, l3, c, f, fp, w, wp, tk, bu, fr] [x] := by rw [eg16]; exact x15.wr (by simp)
  refine pw_aload_n (pc2 := 63) dX9_init_62 rfl rfl 0 rfl (by first | exact rf_ref _ | exact rf_opt _ | exact rf_nul) ?_
  refine pw_iconst (pc2 := 64) (v := 1) dX9_init_63 rfl (by decide) ?_
  refine pw_put (pc2 := 67) kX9 (k := 6) (by decide) rfl rfl fl_X9_36 f16_x (by first | decide | simp) (by first | rfl | exact nar_rf _ _) (by first | rfl | exact fit_rf _ _) dX9_init_64 rfl ?_
  obtain ⟨g17, eg17⟩ : ∃ z : hp, z = va_up g16 x (some (oB 12 [.ref l1, .ref l2, .ref l3, .ref c, .ref bu, .ref fr, .int 1, .int 0, .int 0, .int 0])) := ⟨_, rfl⟩
  refine PW.heap (h' := g17) eg17.symm ?_
  have f17_l1 : g17 l1 = some (oB 2 [.int 0, .ref G.2.2, .int 0]) := by rw [eg17]; exact (va_up_ne _ _ ((ne_nw hx hl1)).symm).trans f16_l1
  have f17_l2 : g17 l2 = some (oB 2 [.int 0, .ref G.2.2, .int 0]) := by rw [eg17]; exact (va_up_ne _ _ ((ne_nw f3_x hl2)).symm).trans f16_l2
  have f17_l3 : g17 l3 = some (oB 2 [.int 0, .ref G.2.2, .int 0]) := by rw [eg17]; exact (va_up_ne _ _ ((ne_nw f6_x hl3)).symm).trans f16_l3
  have f17_c : g17 c = some (oB 5 [.ref f, .ref w, .ref tk]) := by rw [eg17]; exact (va_up_ne _ _ ((ne_nw f9_x hc)).symm).trans f16_c
  have f17_f : g17 f = some (oB 4 [.ref fp]) := by rw [eg17]; exact (va_up_ne _ _ ((y11.ne f10_x (by simp))).symm).trans f16_f
  have f17_fp : g17 fp = some (aR tRel 6 zN) := by rw [eg17]; exact (va_up_ne _ _ ((y11.ne f10_x (by simp))).symm).trans f16_fp
  have f17_w : g17 w = some (oB 4 [.ref wp]) := by rw [eg17]; exact (va_up_ne _ _ ((y11.ne f10_x (by simp))).symm).trans f16_w
  have f17_wp : g17 wp = some (aR tRel 6 zN) := by rw [eg17]; exact (va_up_ne _ _ ((y11.ne f10_x (by simp))).symm).trans f16_wp
  have f17_tk : g17 tk = some (aI 6 z0) := by rw [eg17]; exact (va_up_ne _ _ ((y11.ne f10_x (by simp))).symm).trans f16_tk
  have f17_bu : g17 bu = some (aI 3 z0) := by rw [eg17]; exact (va_up_ne _ _ ((ne_nw f12_x hbu)).symm).trans f16_bu
  have f17_fr : g17 fr = some (aI 4 z0) := by rw [eg17]; exact (va_up_ne _ _ ((ne_nw f14_x hfr)).symm).trans f16_fr
  have f17_x : g17 x = some (oB 12 [.ref l1, .ref l2, .ref l3, .ref c, .ref bu, .ref fr, .int 1, .int 0, .int 0, .int 0]) := by rw [eg17]; exact va_up_self _ _ _
  have x17 : xt G h g17 [l1, l2, l3, c, f, fp, w, wp, tk, bu, fr] [x] := by rw [eg17]; exact x16.wr (by simp)
  refine pw_vret dX9_init_67 rfl ?_
  exact ⟨rfl, l1, l2, l3, c, f, fp, w, wp, tk, bu, fr, x17, f17_x, ⟨f17_l1, f17_l2, f17_l3⟩, ⟨f17_c, ⟨f17_f, f17_fp⟩, ⟨f17_w, f17_wp⟩, f17_tk⟩, f17_bu, f17_fr⟩
