/-! PackageForge$Trial, Build; new lists -/
set_option maxHeartbeats 4000000 in
set_option maxRecDepth 100000 in
theorem c_acinit (G : hG) (h : hp) {l : Nat} : PMet G MJxa1e45_init_da8c8 1 0 0 [.ref l] h (det none h) noX := by
  refine PMet.of rfl (Nat.le_of_ble_eq_true rfl) (fun d hd => ?_)
  refine PW.sub (L2 := [(0, Value.ref l)]) [0] rfl ?_
  refine pw_aload_n (pc2 := 1) dJxa1e45_init_da8c8_0 rfl rfl 0 rfl (by first | exact rf_ref _ | exact rf_opt _ | exact rf_nul) ?_
  refine pw_objInit (pc2 := 4) co_Jxa1e45_1 wo_1 wo_2 dJxa1e45_init_da8c8_1 rfl (by decide) ?_
  refine pw_vret dJxa1e45_init_da8c8_4 rfl ?_
  exact ⟨rfl, rfl⟩
set_option maxHeartbeats 4000000 in
set_option maxRecDepth 100000 in
theorem c_alinit (G : hG) (h : hp) {l : Nat} (hl : h l = some (oB 2 [.int 0, .null, .int 0])) : PMet G MJxc12de_init_da8c8 2 0 0 [.ref l] h (det none h) noX := by
  refine PMet.of rfl (Nat.le_of_ble_eq_true rfl) (fun d hd => ?_)
  refine PW.sub (L2 := [(0, Value.ref l)]) [0] rfl ?_
  refine pw_aload_n (pc2 := 1) dJxc12de_init_da8c8_0 rfl rfl 0 rfl (by first | exact rf_ref _ | exact rf_opt _ | exact rf_nul) ?_
  refine pw_callI0 (pc2 := 4) (c_acinit G _) cs_Jxc12de_1 rfl rfl rfl dJxc12de_init_da8c8_1 rfl (by omega) rfl (by first | decide | simp [cat_rf, Value.category]) ?_
  refine pw_aload_n (pc2 := 5) dJxc12de_init_da8c8_4 rfl rfl 0 rfl (by first | exact rf_ref _ | exact rf_opt _ | exact rf_nul) ?_
  refine pw_iconst (pc2 := 6) (v := 0) dJxc12de_init_da8c8_5 rfl (by decide) ?_
  refine pw_put (pc2 := 9) kJx4a65c (k := 0) (by decide) rfl rfl fl_Jxc12de_7 hl (by first | decide | simp) (by first | rfl | exact nar_rf _ _) (by first | rfl | exact fit_rf _ _) dJxc12de_init_da8c8_6 rfl ?_
  refine pw_vret dJxc12de_init_da8c8_9 rfl ?_
  exact ⟨rfl, up_id hl⟩
theorem fl_empty : Cond.fieldLink RJx4a65c 39 "java/util/ArrayList" "DEFAULTCAPACITY_EMPTY_ELEMENTDATA" "[Ljava/lang/Object;" ∈ gws := gws_of 68 (by decide +kernel) rfl
set_option maxHeartbeats 4000000 in
set_option maxRecDepth 100000 in
theorem c_linit (G : hG) (h : hp) {l : Nat} (hl : h l = some (oB 2 [.int 0, .null, .int 0])) : PMet G MJx4a65c_init_da8c8 3 0 0 [.ref l] h (det none (va_up h l (some (oB 2 [.int 0, .ref G.2.2, .int 0])))) noX := by
  refine PMet.of rfl (Nat.le_of_ble_eq_true rfl) (fun d hd => ?_)
  refine PW.sub (L2 := [(0, Value.ref l)]) [0] rfl ?_
  refine pw_aload_n (pc2 := 1) dJx4a65c_init_da8c8_0 rfl rfl 0 rfl (by first | exact rf_ref _ | exact rf_opt _ | exact rf_nul) ?_
  refine pw_callI0 (pc2 := 4) (c_alinit G _ hl) cs_Jx4a65c_1 rfl rfl rfl dJx4a65c_init_da8c8_1 rfl (by omega) rfl (by first | decide | simp [cat_rf, Value.category]) ?_
  refine pw_aload_n (pc2 := 5) dJx4a65c_init_da8c8_4 rfl rfl 0 rfl (by first | exact rf_ref _ | exact rf_opt _ | exact rf_nul) ?_
  refine pw_getEmpty (pc2 := 8) fl_empty dJx4a65c_init_da8c8_5 rfl ?_
  refine pw_put (pc2 := 11) kJx4a65c (k := 1) (by decide) rfl rfl fl_Jx4a65c_9 hl (by first | decide | simp) (by first | rfl | exact nar_rf _ _) (by first | rfl | exact fit_rf _ _) dJx4a65c_init_da8c8_8 rfl ?_
  refine pw_vret dJx4a65c_init_da8c8_11 rfl ?_
  exact ⟨rfl, rfl⟩
abbrev isT (h : hp) (t s nd a b c p : Nat) (ps f bd : Int32) (le gr : Nat → Int32) (Pk : Nat → Option Nat) : Prop := h t = some (oB 11 [.int ps, .ref s, .ref c]) ∧ isS h s nd a b f bd le gr ∧ isC h c p Pk
set_option maxHeartbeats 4000000 in
set_option maxRecDepth 100000 in
theorem c_tinit (G : hG) (h : hp) {t : Nat} (ht : h t = some (oB 11 [.int 0, .null, .null])) : PMet G MX8_init 3 6 24 [.ref t] h (fun r h' => r = none ∧ ∃ s nd a b c p : Nat, xt G h h' [s, nd, a, b, c, p] [t] ∧ isT h' t s nd a b c p 0 0 0 z0 z0 zN) noX := by
  refine PMet.of rfl (Nat.le_of_ble_eq_true rfl) (fun d hd => ?_)
  have x0 : xt G h h [] [t] := xt.rf1 ht
  refine PW.sub (L2 := [(0, Value.ref t)]) [0] rfl ?_
  refine pw_aload_n (pc2 := 1) dX8_init_0 rfl rfl 0 rfl (by first | exact rf_ref _ | exact rf_opt _ | exact rf_nul) ?_
  refine pw_objInit (pc2 := 4) co_X8_1 wo_1 wo_2 dX8_init_1 rfl (by decide) ?_
  refine pw_aload_n (pc2 := 5) dX8_init_4 rfl rfl 0 rfl (by first | exact rf_ref _ | exact rf_opt _ | exact rf_nul) ?_
  refine pw_new (pc2 := 8) (fs := [.int 0, .int 0, .null]) kX6 cl_X8_7 wi_X6 wn_X6 (by decide +kernel) dX8_init_5 rfl (fun s hs gs => ?_)
  obtain ⟨g1, eg1⟩ : ∃ z : hp, z = va_up h s (some (oB 9 [.int 0, .int 0, .null])) := ⟨_, rfl⟩
  refine PW.heap (h' := g1) eg1.symm ?_
  have f1_t : g1 t = some (oB 11 [.int 0, .null, .null]) := by rw [eg1]; exact (va_up_ne _ _ (ne_nw ht hs)).trans ht
  have f1_s : g1 s = some (oB 9 [.int 0, .int 0, .null]) := by rw [eg1]; exact va_up_self _ _ _
  have x1 : xt G h g1 [s] [t] := by rw [eg1]; exact x0.new hs gs
  refine pw_dup (pc2 := 9) dX8_init_8 rfl (by first | rfl | exact cat_rf _) ?_
  refine pw_callI (pc2 := 12) (c_sinit G _ f1_s) cs_X8_9 rfl rfl rfl dX8_init_9 rfl (by omega) rfl (by first | decide | simp [cat_rf, Value.category]) (fun r9 h9 q9 => ?_) (fun Y h9 q9 => q9.elim)
  obtain ⟨rfl, nd, a, b, y2, z2⟩ := q9
  generalize h9 = g2 at *
  have f2_t : g2 t = some (oB 11 [.int 0, .null, .null]) := y2.keep1 f1_t (ne_nw ht hs)
  have x2 : xt G h g2 [s, nd, a, b] [t] := x1.call y2 (by simp)
  refine pw_putF (pc2 := 15) kX8 (k := 1) (by decide) rfl rfl rfl rfl fl_X8_10 f2_t (by first | decide | simp) (by first | rfl | exact nar_rf _ _) (by first | rfl | exact fit_rf _ _) dX8_init_12 rfl ?_
  obtain ⟨g3, eg3⟩ : ∃ z : hp, z = va_up g2 t (some (oB 11 [.int 0, .ref s, .null])) := ⟨_, rfl⟩
  refine PW.heap (h' := g3) eg3.symm ?_
  have f3_s : g3 s = some (oB 9 [.int 0, .int 0, .ref nd]) := by rw [eg3]; exact (va_up_ne _ _ ((ne_nw ht hs)).symm).trans z2.1
  have f3_nd : g3 nd = some (oB 6 [.ref a, .ref b]) := by rw [eg3]; exact (va_up_ne _ _ ((y2.ne f1_t (by simp))).symm).trans z2.2.1
  have f3_a : g3 a = some (aI 6 z0) := by rw [eg3]; exact (va_up_ne _ _ ((y2.ne f1_t (by simp))).symm).trans z2.2.2.1
  have f3_b : g3 b = some (aI 6 z0) := by rw [eg3]; exact (va_up_ne _ _ ((y2.ne f1_t (by simp))).symm).trans z2.2.2.2.1
  have f3_t : g3 t = some (oB 11 [.int 0, .ref s, .null]) := by rw [eg3]; exact va_up_self _ _ _
  have x3 : xt G h g3 [s, nd, a, b] [t] := by rw [eg3]; exact x2.wr (by simp)
  refine pw_aload_n (pc2 := 16) dX8_init_15 rfl rfl 0 rfl (by first | exact rf_ref _ | exact rf_opt _ | exact rf_nul) ?_
  refine pw_new (pc2 := 19) (fs := [.null]) kX1 cl_X8_16 wi_X1 wn_X1 (by decide +kernel) dX8_init_16 rfl (fun c hc gc => ?_)
  obtain ⟨g4, eg4⟩ : ∃ z : hp, z = va_up g3 c (some (oB 4 [.null])) := ⟨_, rfl⟩
  refine PW.heap (h' := g4) eg4.symm ?_
  have f4_s : g4 s = some (oB 9 [.int 0, .int 0, .ref nd]) := by rw [eg4]; exact (va_up_ne _ _ (ne_nw f3_s hc)).trans f3_s
  have f4_nd : g4 nd = some (oB 6 [.ref a, .ref b]) := by rw [eg4]; exact (va_up_ne _ _ (ne_nw f3_nd hc)).trans f3_nd
  have f4_a : g4 a = some (aI 6 z0) := by rw [eg4]; exact (va_up_ne _ _ (ne_nw f3_a hc)).trans f3_a
  have f4_b : g4 b = some (aI 6 z0) := by rw [eg4]; exact (va_up_ne _ _ (ne_nw f3_b hc)).trans f3_b
  have f4_t : g4 t = some (oB 11 [.int 0, .ref s, .null]) := by rw [eg4]; exact (va_up_ne _ _ (ne_nw f3_t hc)).trans f3_t
  have f4_c : g4 c = some (oB 4 [.null]) := by rw [eg4]; exact va_up_self _ _ _
  have x4 : xt G h g4 [s, nd, a, b, c] [t] := by rw [eg4]; exact x3.new hc gc
  refine pw_dup (pc2 := 20) dX8_init_19 rfl (by first | rfl | exact cat_rf _) ?_
  refine pw_callI (pc2 := 23) (c_cinit' G _ f4_c) cs_X8_18 rfl rfl rfl dX8_init_20 rfl (by omega) rfl (by first | decide | simp [cat_rf, Value.category]) (fun r9 h9 q9 => ?_) (fun Y h9 q9 => q9.elim)
  obtain ⟨rfl, p, y5, z5⟩ := q9
  generalize h9 = g5 at *
  have f5_s : g5 s = some (oB 9 [.int 0, .int 0, .ref nd]) := y5.keep1 f4_s (ne_nw f3_s hc)
  have f5_nd : g5 nd = some (oB 6 [.ref a, .ref b]) := y5.keep1 f4_nd (ne_nw f3_nd hc)
  have f5_a : g5 a = some (aI 6 z0) := y5.keep1 f4_a (ne_nw f3_a hc)
  have f5_b : g5 b = some (aI 6 z0) := y5.keep1 f4_b (ne_nw f3_b hc)
  have f5_t : g5 t = some (oB 11 [.int 0, .ref s, .null]) := y5.keep1 f4_t (ne_nw f3_t hc)
  have x5 : xt G h g5 [s, nd, a, b, c, p] [t] := x4.call y5 (by simp)
  refine pw_putF (pc2 := 26) kX8 (k := 2) (by decide) rfl rfl rfl rfl fl_X8_19 f5_t (by first | decide | simp) (by first | rfl | exact nar_rf _ _) (by first | rfl | exact fit_rf _ _) dX8_init_23 rfl ?_
  obtain ⟨g6, eg6⟩ : ∃ z : hp, z = va_up g5 t (some (oB 11 [.int 0, .ref s, .ref c])) := ⟨_, rfl⟩
  refine PW.heap (h' := g6) eg6.symm ?_
  have f6_s : g6 s = some (oB 9 [.int 0, .int 0, .ref nd]) := by rw [eg6]; exact (va_up_ne _ _ ((ne_nw ht hs)).symm).trans f5_s
  have f6_nd : g6 nd = some (oB 6 [.ref a, .ref b]) := by rw [eg6]; exact (va_up_ne _ _ ((y2.ne f1_t (by simp))).symm).trans f5_nd
  have f6_a : g6 a = some (aI 6 z0) := by rw [eg6]; exact (va_up_ne _ _ ((y2.ne f1_t (by simp))).symm).trans f5_a
  have f6_b : g6 b = some (aI 6 z0) := by rw [eg6]; exact (va_up_ne _ _ ((y2.ne f1_t (by simp))).symm).trans f5_b
  have f6_c : g6 c = some (oB 4 [.ref p]) := by rw [eg6]; exact (va_up_ne _ _ ((ne_nw f3_t hc)).symm).trans z5.1
  have f6_p : g6 p = some (aR tRel 6 zN) := by rw [eg6]; exact (va_up_ne _ _ ((y5.ne f4_t (by simp))).symm).trans z5.2
  have f6_t : g6 t = some (oB 11 [.int 0, .ref s, .ref c]) := by rw [eg6]; exact va_up_self _ _ _
  have x6 : xt G h g6 [s, nd, a, b, c, p] [t] := by rw [eg6]; exact x5.wr (by simp)
  refine pw_vret dX8_init_26 rfl ?_
  exact ⟨rfl, s, nd, a, b, c, p, x6, f6_t, ⟨f6_s, f6_nd, f6_a, f6_b, z2.2.2.2.2⟩, f6_c, f6_p⟩
set_option maxHeartbeats 4000000 in
set_option maxRecDepth 100000 in
theorem c_tremember (G : hG) (h : hp) {t s nd a b c p : Nat} {ps f bd : Int32} {le gr : Nat → Int32} {Pk : Nat → Option Nat} (ht : isT h t s nd a b c p ps f bd le gr Pk) {x : Int32} (hx : x = 0 ∨ x = 1) {s2 nd2 a2 b2 : Nat} {f2 bd2 : Int32} {le2 gr2 : Nat → Int32} (hm : isS h s2 nd2 a2 b2 f2 bd2 le2 gr2) {c2 p2 : Nat} {Qk : Nat → Option Nat} (hc : isC h c2 p2 Qk) (h1 : a2 ≠ a) (h2 : a2 ≠ b) (h3 : b2 ≠ a) (h4 : b2 ≠ b) (h5 : s2 ≠ s) (h6 : p2 ≠ p) {T : relT} (hP : pkR h T Qk) : PMet G MX8_remember 4 0 0 [.ref t, .int x, .ref s2, .ref c2] h (det none (va_up (va_up (va_up (va_up (va_up h t (some (oB 11 [.int x, .ref s, .ref c]))) s (some (oB 9 [.int f2, .int bd2, .ref nd]))) a (some (aI 6 le2))) b (some (aI 6 gr2))) p (some (aR tRel 6 Qk)))) noX := by
  refine PMet.of rfl (Nat.le_of_ble_eq_true rfl) (fun d hd => ?_)
  refine PW.sub (L2 := [(0, Value.ref t), (1, Value.int x), (2, Value.ref s2), (3, Value.ref c2)]) [0, 1, 2, 3] rfl ?_
  refine pw_aload_n (pc2 := 1) dX8_remember_0 rfl rfl 0 rfl (by first | exact rf_ref _ | exact rf_opt _ | exact rf_nul) ?_
  refine pw_iload_n (pc2 := 2) dX8_remember_1 rfl rfl 1 rfl ?_
  refine pw_put (pc2 := 5) kX8 (k := 0) (by decide) rfl rfl fl_X8_23 ht.1 (by first | decide | simp) (nar_b2 hx) (fit_b hx) dX8_remember_2 rfl ?_
  refine pw_aload_n (pc2 := 6) dX8_remember_5 rfl rfl 0 rfl (by first | exact rf_ref _ | exact rf_opt _ | exact rf_nul) ?_
  refine pw_get (pc2 := 9) kX8 (k := 1) (by decide) rfl fl_X8_10 (va_up_self _ _ _) rfl dX8_remember_6 rfl ?_
  refine pw_aload_n (pc2 := 10) dX8_remember_9 rfl rfl 2 rfl (by first | exact rf_ref _ | exact rf_opt _ | exact rf_nul) ?_
  refine pw_callV0 (pc2 := 13) (c_scopy G _ ⟨((va_up_ne _ _ (ne_oo ht.2.1.1 ht.1 (by decide))).trans ht.2.1.1), ((va_up_ne _ _ (ne_oo ht.2.1.2.1 ht.1 (by decide))).trans ht.2.1.2.1), ((va_up_ne _ _ (ne_ao ht.2.1.2.2.1 ht.1)).trans ht.2.1.2.2.1), ((va_up_ne _ _ (ne_ao ht.2.1.2.2.2.1 ht.1)).trans ht.2.1.2.2.2.1), ht.2.1.2.2.2.2⟩ ⟨((va_up_ne _ _ (ne_oo hm.1 ht.1 (by decide))).trans hm.1), ((va_up_ne _ _ (ne_oo hm.2.1 ht.1 (by decide))).trans hm.2.1), ((va_up_ne _ _ (ne_ao hm.2.2.1 ht.1)).trans hm.2.2.1), ((va_up_ne _ _ (ne_ao hm.2.2.2.1 ht.1)).trans hm.2.2.2.1), hm.2.2.2.2⟩ h1 h2 h3 h4 h5) cs_X8_27 rfl rfl ((va_up_ne _ _ (ne_oo ht.2.1.1 ht.1 (by decide))).trans ht.2.1.1) dX8_remember_10 rfl (by omega) rfl (by first | decide | simp [cat_rf, Value.category]) ?_
  refine pw_aload_n (pc2 := 14) dX8_remember_13 rfl rfl 0 rfl (by first | exact rf_ref _ | exact rf_opt _ | exact rf_nul) ?_
  refine pw_get (pc2 := 17) kX8 (k := 2) (by decide) rfl fl_X8_19 ((va_up_ne _ _ (ne_oa ht.1 ht.2.1.2.2.2.1)).trans ((va_up_ne _ _ (ne_oa ht.1 ht.2.1.2.2.1)).trans ((va_up_ne _ _ (ne_oo ht.1 ht.2.1.1 (by decide))).trans (va_up_self _ _ _)))) rfl dX8_remember_14 rfl ?_
  refine pw_aload_n (pc2 := 18) dX8_remember_17 rfl rfl 3 rfl (by first | exact rf_ref _ | exact rf_opt _ | exact rf_nul) ?_
  refine pw_callV0 (pc2 := 21) (c_ccopy G _ ⟨((va_up_ne _ _ (ne_oa ht.2.2.1 ht.2.1.2.2.2.1)).trans ((va_up_ne _ _ (ne_oa ht.2.2.1 ht.2.1.2.2.1)).trans ((va_up_ne _ _ (ne_oo ht.2.2.1 ht.2.1.1 (by decide))).trans ((va_up_ne _ _ (ne_oo ht.2.2.1 ht.1 (by decide))).trans ht.2.2.1)))), ((va_up_ne _ _ (ne_aa ht.2.2.2 ht.2.1.2.2.2.1 (by decide))).trans ((va_up_ne _ _ (ne_aa ht.2.2.2 ht.2.1.2.2.1 (by decide))).trans ((va_up_ne _ _ (ne_ao ht.2.2.2 ht.2.1.1)).trans ((va_up_ne _ _ (ne_ao ht.2.2.2 ht.1)).trans ht.2.2.2))))⟩ ⟨((va_up_ne _ _ (ne_oa hc.1 ht.2.1.2.2.2.1)).trans ((va_up_ne _ _ (ne_oa hc.1 ht.2.1.2.2.1)).trans ((va_up_ne _ _ (ne_oo hc.1 ht.2.1.1 (by decide))).trans ((va_up_ne _ _ (ne_oo hc.1 ht.1 (by decide))).trans hc.1)))), ((va_up_ne _ _ (ne_aa hc.2 ht.2.1.2.2.2.1 (by decide))).trans ((va_up_ne _ _ (ne_aa hc.2 ht.2.1.2.2.1 (by decide))).trans ((va_up_ne _ _ (ne_ao hc.2 ht.2.1.1)).trans ((va_up_ne _ _ (ne_ao hc.2 ht.1)).trans hc.2))))⟩ h6 ((((hP.upO ht.1 (by decide)).upO ((va_up_ne _ _ (ne_oo ht.2.1.1 ht.1 (by decide))).trans ht.2.1.1) (by decide)).upA ((va_up_ne _ _ (ne_ao ht.2.1.2.2.1 ht.2.1.1)).trans ((va_up_ne _ _ (ne_ao ht.2.1.2.2.1 ht.1)).trans ht.2.1.2.2.1))).upA ((va_up_ne _ _ ht.2.1.2.2.2.2.symm).trans ((va_up_ne _ _ (ne_ao ht.2.1.2.2.2.1 ht.2.1.1)).trans ((va_up_ne _ _ (ne_ao ht.2.1.2.2.2.1 ht.1)).trans ht.2.1.2.2.2.1))))) cs_X8_31 rfl rfl ((va_up_ne _ _ (ne_oa ht.2.2.1 ht.2.1.2.2.2.1)).trans ((va_up_ne _ _ (ne_oa ht.2.2.1 ht.2.1.2.2.1)).trans ((va_up_ne _ _ (ne_oo ht.2.2.1 ht.2.1.1 (by decide))).trans ((va_up_ne _ _ (ne_oo ht.2.2.1 ht.1 (by decide))).trans ht.2.2.1)))) dX8_remember_18 rfl (by omega) rfl (by first | decide | simp [cat_rf, Value.category]) ?_
  refine pw_vret dX8_remember_21 rfl ?_
  exact ⟨rfl, rfl⟩
abbrev isB (h : hp) (b ar : Nat) (mk f bd : Int32) (nf : Nat → Int32) : Prop := h b = some (oB 3 [.int mk, .int f, .int bd, .ref ar]) ∧ h ar = some (aI 6 nf)
/-- the interface of a package that is needed, in the choice; -1 for the others -/
def nfOf (T : relT) (gr : Nat → Int32) (Pk : Nat → Option Nat) (i : Nat) : Int32 := match Pk i with
  | none => -1
  | some r => if gr i = 0 then -1 else (T r).2.1
set_option maxHeartbeats 4000000 in
set_option maxRecDepth 100000 in
theorem c_binit (G : hG) (h : hp) {b : Nat} (hb : h b = some (oB 3 [.int 0, .int 0, .int 0, .null])) : PMet G MX0_init 1 1 6 [.ref b] h (fun r h' => r = none ∧ ∃ ar : Nat, xt G h h' [ar] [b] ∧ isB h' b ar 0 0 0 z0) noX := by
  refine PMet.of rfl (Nat.le_of_ble_eq_true rfl) (fun d hd => ?_)
  have x0 : xt G h h [] [b] := xt.rf1 hb
  refine PW.sub (L2 := [(0, Value.ref b)]) [0] rfl ?_
  refine pw_aload_n (pc2 := 1) dX0_init_0 rfl rfl 0 rfl (by first | exact rf_ref _ | exact rf_opt _ | exact rf_nul) ?_
  refine pw_objInit (pc2 := 4) co_X0_3 wo_1 wo_2 dX0_init_1 rfl (by decide) ?_
  refine pw_aload_n (pc2 := 5) dX0_init_4 rfl rfl 0 rfl (by first | exact rf_ref _ | exact rf_opt _ | exact rf_nul) ?_
  refine pw_bipush (pc2 := 7) (v := 6) dX0_init_5 rfl (by decide) ?_
  refine pw_newarr (pc2 := 9) (atype := .int) (a0 := (6, .inl (fun _ => 0))) 0 rfl rfl wa_95 (fun _ => rfl) (by decide) (by decide) (by decide) dX0_init_7 rfl (fun ar har gar => ?_)
  obtain ⟨g1, eg1⟩ : ∃ z : hp, z = va_up h ar (some (aI 6 z0)) := ⟨_, rfl⟩
  refine PW.heap (h' := g1) eg1.symm ?_
  have f1_b : g1 b = some (oB 3 [.int 0, .int 0, .int 0, .null]) := by rw [eg1]; exact (va_up_ne _ _ (ne_nw hb har)).trans hb
  have f1_ar : g1 ar = some (aI 6 z0) := by rw [eg1]; exact va_up_self _ _ _
  have x1 : xt G h g1 [ar] [b] := by rw [eg1]; exact x0.new har gar
  refine pw_putF (pc2 := 12) kX0 (k := 3) (by decide) rfl rfl rfl rfl fl_X0_9 f1_b (by first | decide | simp) (by first | rfl | exact nar_rf _ _) (by first | rfl | exact fit_rf _ _) dX0_init_9 rfl ?_
  obtain ⟨g2, eg2⟩ : ∃ z : hp, z = va_up g1 b (some (oB 3 [.int 0, .int 0, .int 0, .ref ar])) := ⟨_, rfl⟩
  refine PW.heap (h' := g2) eg2.symm ?_
  have f2_ar : g2 ar = some (aI 6 z0) := by rw [eg2]; exact (va_up_ne _ _ ((ne_nw hb har)).symm).trans f1_ar
  have f2_b : g2 b = some (oB 3 [.int 0, .int 0, .int 0, .ref ar]) := by rw [eg2]; exact va_up_self _ _ _
  have x2 : xt G h g2 [ar] [b] := by rw [eg2]; exact x1.wr (by simp)
  refine pw_vret dX0_init_12 rfl ?_
  exact ⟨rfl, ar, x2, f2_b, f2_ar⟩
set_option maxHeartbeats 4000000 in
set_option maxRecDepth 100000 in
theorem c_nface (G : hG) (h : hp) {s nd a b : Nat} {f bd : Int32} {le gr : Nat → Int32} (hs : isS h s nd a b f bd le gr) {c p : Nat} {Pk : Nat → Option Nat} (hc : isC h c p Pk) {T : relT} (hP : pkR h T Pk) {i : Nat} (hi : i < 6) : PMet G MX0_neededFace 3 0 0 [.ref s, .ref c, .int (nI i)] h (det (some (.int (nfOf T gr Pk i))) h) noX := by
  refine PMet.of rfl (Nat.le_of_ble_eq_true rfl) (fun d hd => ?_)
  refine PW.sub (L2 := [(0, Value.ref s), (1, Value.ref c), (2, Value.int (nI i))]) [0, 1, 2] rfl ?_
  refine pw_aload_n (pc2 := 1) dX0_neededFace_0 rfl rfl 1 rfl (by first | exact rf_ref _ | exact rf_opt _ | exact rf_nul) ?_
  refine pw_iload_n (pc2 := 2) dX0_neededFace_1 rfl rfl 2 rfl ?_
  refine pw_callV1 (pc2 := 5) (c_cat G _ hc hi) cs_X0_34 rfl rfl hc.1 dX0_neededFace_2 rfl (by omega) rfl (by first | decide | simp [cat_rf, Value.category]) ?_
  refine pw_topr (fun r1 er1 => ?_)
  refine pw_astore_n (pc2 := 6) (L2 := [(3, va_rf r1), (0, Value.ref s), (1, Value.ref c), (2, Value.int (nI i))]) dX0_neededFace_5 rfl rfl (by decide) (by first | exact rf_ref _ | exact rf_opt _ | exact rf_nul) rfl ?_
  refine pw_aload_n (pc2 := 7) dX0_neededFace_6 rfl rfl 0 rfl (by first | exact rf_ref _ | exact rf_opt _ | exact rf_nul) ?_
  refine pw_ifnull (tgt := 21) (pc2 := 10) dX0_neededFace_7 (by decide) rfl (fun c7 => ?_) (fun a2 c7 => ?_)
  · refine pw_iconst (pc2 := 22) (v := (-1)) dX0_neededFace_21 rfl (by decide) ?_
    refine pw_goto (tgt := 29) dX0_neededFace_22 (by decide) ?_
    refine pw_iret dX0_neededFace_29 rfl (by first | rfl | assumption | simp [narrow]) ?_
    refine ⟨?_, rfl⟩
    unfold nfOf
    rw [← er1, c7]
  · subst c7
    refine pw_aload_n (pc2 := 11) dX0_neededFace_10 rfl rfl 1 rfl (by first | exact rf_ref _ | exact rf_opt _ | exact rf_nul) ?_
    refine pw_getN (pc2 := 14) kX6 (k := 2) (by decide) rfl fl_X0_40 hs.1 rfl dX0_neededFace_11 rfl ?_
    refine pw_iload_n (pc2 := 15) dX0_neededFace_14 rfl rfl 3 rfl ?_
    refine pw_callVb (pc2 := 18) (c_has G _ hs.2 hi) cs_X0_44 rfl rfl hs.2.1 dX0_neededFace_15 rfl (by omega) rfl (by first | decide | simp [cat_rf, Value.category]) (fun q15 => ?_) (fun q15 => ?_)
    · refine pw_if_ne (tgt := 25) (pc2 := 21) dX0_neededFace_18 (by decide) rfl (fun _ => ?_) (fun c18 => by exact absurd c18 (by decide))
      refine pw_aload_n (pc2 := 26) dX0_neededFace_25 rfl rfl 0 rfl (by first | exact rf_ref _ | exact rf_opt _ | exact rf_nul) ?_
      refine pw_getN (pc2 := 29) kX5 (k := 1) (by decide) rfl fl_X0_50 (hP i hi a2 er1.symm) rfl dX0_neededFace_26 rfl ?_
      refine pw_iret dX0_neededFace_29 rfl (by first | rfl | assumption | simp [narrow]) ?_
      refine ⟨?_, rfl⟩
      unfold nfOf
      rw [← er1]
      show _ = some (Value.int (if gr i = 0 then -1 else _))
      rw [if_neg q15]
    · refine pw_if_ne (tgt := 25) (pc2 := 21) dX0_neededFace_18 (by decide) rfl (fun c18 => by exact absurd (by decide) c18) (fun _ => ?_)
      refine pw_iconst (pc2 := 22) (v := (-1)) dX0_neededFace_21 rfl (by decide) ?_
      refine pw_goto (tgt := 29) dX0_neededFace_22 (by decide) ?_
      refine pw_iret dX0_neededFace_29 rfl (by first | rfl | assumption | simp [narrow]) ?_
      refine ⟨?_, rfl⟩
      unfold nfOf
      rw [← er1]
      show _ = some (Value.int (if gr i = 0 then -1 else _))
      rw [if_pos (Classical.not_not.mp q15)]
def bOfP (mk bf bb f bd : Int32) (nf nf2 : Nat → Int32) : Prop := ¬ mk = 0 ∧ bf = f ∧ bb = bd ∧ ∀ j, j < 6 → nf j = nf2 j
set_option maxHeartbeats 4000000 in
set_option maxRecDepth 100000 in
theorem c_bisof (G : hG) (h : hp) {bu ar : Nat} {mk bf bb : Int32} {nf : Nat → Int32} (hb : isB h bu ar mk bf bb nf) {s nd a b : Nat} {f bd : Int32} {le gr : Nat → Int32} (hs : isS h s nd a b f bd le gr) {c p : Nat} {Pk : Nat → Option Nat} (hc : isC h c p Pk) {T : relT} (hP : pkR h T Pk) : PMet G MX0_isOf 4 0 0 [.ref bu, .ref s, .ref c] h (bR (bOfP mk bf bb f bd nf (nfOf T gr Pk)) h) noX := by
  refine PMet.of rfl (Nat.le_of_ble_eq_true rfl) (fun d hd => ?_)
  refine PW.sub (L2 := [(0, Value.ref bu), (1, Value.ref s), (2, Value.ref c)]) [0, 1, 2] rfl ?_
  refine pw_aload_n (pc2 := 1) dX0_isOf_0 rfl rfl 0 rfl (by first | exact rf_ref _ | exact rf_opt _ | exact rf_nul) ?_
  refine pw_get (pc2 := 4) kX0 (k := 0) (by decide) rfl fl_X0_15 hb.1 rfl dX0_isOf_1 rfl ?_
  refine pw_if_eq (tgt := 29) (pc2 := 7) dX0_isOf_4 (by decide) rfl (fun c4 => ?_) (fun c4 => ?_)
  · refine pw_iconst (pc2 := 30) (v := 0) dX0_isOf_29 rfl (by decide) ?_
    refine pw_iret dX0_isOf_30 rfl (by first | rfl | assumption | simp [narrow]) ?_
    first | exact bR_0 (fun q => q.1 c4) | exact bR_0 (fun q => c15 q.2.1) | exact bR_0 (fun q => c26 q.2.2.1) | exact bR_0 (fun q => c51 (q.2.2.2 i hi9))
  · refine pw_aload_n (pc2 := 8) dX0_isOf_7 rfl rfl 0 rfl (by first | exact rf_ref _ | exact rf_opt _ | exact rf_nul) ?_
    refine pw_get (pc2 := 11) kX0 (k := 1) (by decide) rfl fl_X0_19 hb.1 rfl dX0_isOf_8 rfl ?_
    refine pw_aload_n (pc2 := 12) dX0_isOf_11 rfl rfl 1 rfl (by first | exact rf_ref _ | exact rf_opt _ | exact rf_nul) ?_
    refine pw_getN (pc2 := 15) kX6 (k := 0) (by decide) rfl fl_X0_23 hs.1 rfl dX0_isOf_12 rfl ?_
    refine pw_icmp_ne (tgt := 29) (pc2 := 18) dX0_isOf_15 (by decide) rfl (fun c15 => ?_) (fun c15 => ?_)
    · refine pw_iconst (pc2 := 30) (v := 0) dX0_isOf_29 rfl (by decide) ?_
      refine pw_iret dX0_isOf_30 rfl (by first | rfl | assumption | simp [narrow]) ?_
      first | exact bR_0 (fun q => q.1 c4) | exact bR_0 (fun q => c15 q.2.1) | exact bR_0 (fun q => c26 q.2.2.1) | exact bR_0 (fun q => c51 (q.2.2.2 i hi9))
    · refine pw_aload_n (pc2 := 19) dX0_isOf_18 rfl rfl 0 rfl (by first | exact rf_ref _ | exact rf_opt _ | exact rf_nul) ?_
      refine pw_get (pc2 := 22) kX0 (k := 2) (by decide) rfl fl_X0_26 hb.1 rfl dX0_isOf_19 rfl ?_
      refine pw_aload_n (pc2 := 23) dX0_isOf_22 rfl rfl 1 rfl (by first | exact rf_ref _ | exact rf_opt _ | exact rf_nul) ?_
      refine pw_getN (pc2 := 26) kX6 (k := 1) (by decide) rfl fl_X0_29 hs.1 rfl dX0_isOf_23 rfl ?_
      refine pw_icmp_eq (tgt := 31) (pc2 := 29) dX0_isOf_26 (by decide) rfl (fun c26 => ?_) (fun c26 => ?_)
      · refine pw_iconst (pc2 := 32) (v := 0) dX0_isOf_31 rfl (by decide) ?_
        refine pw_istore_n (pc2 := 33) (L2 := [(3, Value.int 0), (0, Value.ref bu), (1, Value.ref s), (2, Value.ref c)]) dX0_isOf_32 rfl rfl (by decide) rfl ?_
        have loop : ∀ (k i : Nat) (hal : ∀ j, j < i → nf j = nfOf T gr Pk j), i + k = 6 → PW G MX0_isOf d noA (E0 G (bR (bOfP mk bf bb f bd nf (nfOf T gr Pk)) h) noX) 0 0 33 [(3, Value.int (nI i)), (0, Value.ref bu), (1, Value.ref s), (2, Value.ref c)] [] h := by
          intro k
          induction k with
          | zero =>
            intro i hal hik
            have hi9 : i = 6 := by omega
            refine pw_iload_n (pc2 := 34) dX0_isOf_33 rfl rfl 0 rfl ?_
            refine pw_bipush (pc2 := 36) (v := 6) dX0_isOf_34 rfl (by decide) ?_
            refine pw_icmp_ge (tgt := 62) (pc2 := 39) dX0_isOf_36 (by decide) rfl (fun _ => ?_) (fun c36 => by exact absurd (by first | (rw [hi9]; exact Int32.le_refl _) | exact fun q => absurd ((l6 (by omega)).mp q) (by omega)) c36)
            refine pw_iconst (pc2 := 63) (v := 1) dX0_isOf_62 rfl (by decide) ?_
            refine pw_iret dX0_isOf_63 rfl (by first | rfl | assumption | simp [narrow]) ?_
            exact bR_1 (⟨c4, c15, c26, fun j hj => hal j (by omega)⟩)
          | succ k ih =>
            intro i hal hik
            have hi9 : i < 6 := by omega
            refine pw_iload_n (pc2 := 34) dX0_isOf_33 rfl rfl 0 rfl ?_
            refine pw_bipush (pc2 := 36) (v := 6) dX0_isOf_34 rfl (by decide) ?_
            refine pw_icmp_ge (tgt := 62) (pc2 := 39) dX0_isOf_36 (by decide) rfl (fun c36 => by exact absurd c36 (by first | (rw [hi9]; exact Int32.le_refl _) | exact fun q => absurd ((l6 (by omega)).mp q) (by omega))) (fun _ => ?_)
            refine pw_aload_n (pc2 := 40) dX0_isOf_39 rfl rfl 1 rfl (by first | exact rf_ref _ | exact rf_opt _ | exact rf_nul) ?_
            refine pw_get (pc2 := 43) kX0 (k := 3) (by decide) rfl fl_X0_9 hb.1 rfl dX0_isOf_40 rfl ?_
            refine pw_iload_n (pc2 := 44) dX0_isOf_43 rfl rfl 0 rfl ?_
            refine pw_ialdN (pc2 := 45) hb.2 (i := i) (by first | assumption | omega) (by omega) dX0_isOf_44 rfl ?_
            refine pw_aload_n (pc2 := 46) dX0_isOf_45 rfl rfl 2 rfl (by first | exact rf_ref _ | exact rf_opt _ | exact rf_nul) ?_
            refine pw_aload_n (pc2 := 47) dX0_isOf_46 rfl rfl 3 rfl (by first | exact rf_ref _ | exact rf_opt _ | exact rf_nul) ?_
            refine pw_iload_n (pc2 := 48) dX0_isOf_47 rfl rfl 0 rfl ?_
            refine pw_callS1 (pc2 := 51) (c_nface G _ hs hc hP hi9) cs_X0_30 rfl dX0_isOf_48 rfl (by omega) rfl (by first | decide | simp [cat_rf, Value.category]) ?_
            refine pw_icmp_eq (tgt := 56) (pc2 := 54) dX0_isOf_51 (by decide) rfl (fun c51 => ?_) (fun c51 => ?_)
            · refine pw_iinc (pc2 := 59) (v := nI (i + 1)) (L2 := [(3, Value.int (nI (i + 1))), (0, Value.ref bu), (1, Value.ref s), (2, Value.ref c)]) dX0_isOf_56 rfl 0 rfl (by show nI _ + 1 = nI _; exact nI_1 _) (by decide) rfl ?_
              refine pw_goto (tgt := 33) dX0_isOf_59 (by decide) ?_
              refine PW.sub (L2 := [(3, Value.int (nI (i + 1))), (0, Value.ref bu), (1, Value.ref s), (2, Value.ref c)]) [0, 1, 2, 3] rfl ?_
              exact ih (i + 1) (lt_s hal c51) (by omega)
            · refine pw_iconst (pc2 := 55) (v := 0) dX0_isOf_54 rfl (by decide) ?_
              refine pw_iret dX0_isOf_55 rfl (by first | rfl | assumption | simp [narrow]) ?_
              first | exact bR_0 (fun q => q.1 c4) | exact bR_0 (fun q => c15 q.2.1) | exact bR_0 (fun q => c26 q.2.2.1) | exact bR_0 (fun q => c51 (q.2.2.2 i hi9))
        refine PW.sub (L2 := [(3, Value.int 0), (0, Value.ref bu), (1, Value.ref s), (2, Value.ref c)]) [0, 1, 2, 3] rfl ?_
        exact loop 6 0 (fun j hj => absurd hj (Nat.not_lt_zero j)) rfl
      · refine pw_iconst (pc2 := 30) (v := 0) dX0_isOf_29 rfl (by decide) ?_
        refine pw_iret dX0_isOf_30 rfl (by first | rfl | assumption | simp [narrow]) ?_
        first | exact bR_0 (fun q => q.1 c4) | exact bR_0 (fun q => c15 q.2.1) | exact bR_0 (fun q => c26 q.2.2.1) | exact bR_0 (fun q => c51 (q.2.2.2 i hi9))
set_option maxHeartbeats 4000000 in
set_option maxRecDepth 100000 in
theorem c_bremember (G : hG) (h : hp) {bu ar : Nat} {mk bf bb : Int32} {nf : Nat → Int32} (hb : isB h bu ar mk bf bb nf) {s nd a b : Nat} {f bd : Int32} {le gr : Nat → Int32} (hs : isS h s nd a b f bd le gr) {c p : Nat} {Pk : Nat → Option Nat} (hc : isC h c p Pk) {T : relT} (hP : pkR h T Pk) (g1 : a ≠ ar) (g2 : b ≠ ar) : PMet G MX0_remember 4 0 0 [.ref bu, .ref s, .ref c] h (det none (va_up (va_up h bu (some (oB 3 [.int 1, .int f, .int bd, .ref ar]))) ar (some (aI 6 (nfOf T gr Pk))))) noX := by
  refine PMet.of rfl (Nat.le_of_ble_eq_true rfl) (fun d hd => ?_)
  refine PW.sub (L2 := [(0, Value.ref bu), (1, Value.ref s), (2, Value.ref c)]) [0, 1, 2] rfl ?_
  refine pw_aload_n (pc2 := 1) dX0_remember_0 rfl rfl 0 rfl (by first | exact rf_ref _ | exact rf_opt _ | exact rf_nul) ?_
  refine pw_iconst (pc2 := 2) (v := 1) dX0_remember_1 rfl (by decide) ?_
  refine pw_put (pc2 := 5) kX0 (k := 0) (by decide) rfl rfl fl_X0_15 hb.1 (by first | decide | simp) (by first | rfl | exact nar_rf _ _) (by first | rfl | exact fit_rf _ _) dX0_remember_2 rfl ?_
  refine pw_aload_n (pc2 := 6) dX0_remember_5 rfl rfl 0 rfl (by first | exact rf_ref _ | exact rf_opt _ | exact rf_nul) ?_
  refine pw_aload_n (pc2 := 7) dX0_remember_6 rfl rfl 1 rfl (by first | exact rf_ref _ | exact rf_opt _ | exact rf_nul) ?_
  refine pw_getN (pc2 := 10) kX6 (k := 0) (by decide) rfl fl_X0_23 ((va_up_ne _ _ (ne_oo hs.1 hb.1 (by decide))).trans hs.1) rfl dX0_remember_7 rfl ?_
  refine pw_put (pc2 := 13) kX0 (k := 1) (by decide) rfl rfl fl_X0_19 (va_up_self _ _ _) (by first | decide | simp) (by first | rfl | exact nar_rf _ _) (by first | rfl | exact fit_rf _ _) dX0_remember_10 rfl ?_
  refine pw_aload_n (pc2 := 14) dX0_remember_13 rfl rfl 0 rfl (by first | exact rf_ref _ | exact rf_opt _ | exact rf_nul) ?_
  refine pw_aload_n (pc2 := 15) dX0_remember_14 rfl rfl 1 rfl (by first | exact rf_ref _ | exact rf_opt _ | exact rf_nul) ?_
  refine pw_getN (pc2 := 18) kX6 (k := 1) (by decide) rfl fl_X0_29 ((va_up_ne _ _ (ne_oo hs.1 hb.1 (by decide))).trans ((va_up_ne _ _ (ne_oo hs.1 hb.1 (by decide))).trans hs.1)) rfl dX0_remember_15 rfl ?_
  refine pw_put (pc2 := 21) kX0 (k := 2) (by decide) rfl rfl fl_X0_26 (va_up_self _ _ _) (by first | decide | simp) (by first | rfl | exact nar_rf _ _) (by first | rfl | exact fit_rf _ _) dX0_remember_18 rfl ?_
  refine pw_iconst (pc2 := 22) (v := 0) dX0_remember_21 rfl (by decide) ?_
  refine pw_istore_n (pc2 := 23) (L2 := [(3, Value.int 0), (0, Value.ref bu), (1, Value.ref s), (2, Value.ref c)]) dX0_remember_22 rfl rfl (by decide) rfl ?_
  have loop : ∀ (k i : Nat) , i + k = 6 → PW G MX0_remember d noA (E0 G (det none (va_up (va_up h bu (some (oB 3 [.int 1, .int f, .int bd, .ref ar]))) ar (some (aI 6 (nfOf T gr Pk))))) noX) 0 0 23 [(3, Value.int (nI i)), (0, Value.ref bu), (1, Value.ref s), (2, Value.ref c)] [] (va_up (va_up h bu (some (oB 3 [.int 1, .int f, .int bd, .ref ar]))) ar (some (aI 6 (mx (nfOf T gr Pk) nf i)))) := by
    intro k
    induction k with
    | zero =>
      intro i  hik
      have hi9 : i = 6 := by omega
      refine pw_iload_n (pc2 := 24) dX0_remember_23 rfl rfl 0 rfl ?_
      refine pw_bipush (pc2 := 26) (v := 6) dX0_remember_24 rfl (by decide) ?_
      refine pw_icmp_ge (tgt := 47) (pc2 := 29) dX0_remember_26 (by decide) rfl (fun _ => ?_) (fun c26 => by exact absurd (by first | (rw [hi9]; exact Int32.le_refl _) | exact fun q => absurd ((l6 (by omega)).mp q) (by omega)) c26)
      refine pw_extI (a := ar) (g := nfOf T gr Pk) (va_up_self _ _ _) (by decide) (fun j hj => mx_lt (by omega)) ?_
      refine pw_vret dX0_remember_47 rfl ?_
      exact ⟨rfl, up_up _ _ _ _⟩
    | succ k ih =>
      intro i  hik
      have hi9 : i < 6 := by omega
      refine pw_iload_n (pc2 := 24) dX0_remember_23 rfl rfl 0 rfl ?_
      refine pw_bipush (pc2 := 26) (v := 6) dX0_remember_24 rfl (by decide) ?_
      refine pw_icmp_ge (tgt := 47) (pc2 := 29) dX0_remember_26 (by decide) rfl (fun c26 => by exact absurd c26 (by first | (rw [hi9]; exact Int32.le_refl _) | exact fun q => absurd ((l6 (by omega)).mp q) (by omega))) (fun _ => ?_)
      refine pw_aload_n (pc2 := 30) dX0_remember_29 rfl rfl 1 rfl (by first | exact rf_ref _ | exact rf_opt _ | exact rf_nul) ?_
      refine pw_get (pc2 := 33) kX0 (k := 3) (by decide) rfl fl_X0_9 ((va_up_ne _ _ (ne_oa hb.1 hb.2)).trans (va_up_self _ _ _)) rfl dX0_remember_30 rfl ?_
      refine pw_iload_n (pc2 := 34) dX0_remember_33 rfl rfl 0 rfl ?_
      refine pw_aload_n (pc2 := 35) dX0_remember_34 rfl rfl 2 rfl (by first | exact rf_ref _ | exact rf_opt _ | exact rf_nul) ?_
      refine pw_aload_n (pc2 := 36) dX0_remember_35 rfl rfl 3 rfl (by first | exact rf_ref _ | exact rf_opt _ | exact rf_nul) ?_
      refine pw_iload_n (pc2 := 37) dX0_remember_36 rfl rfl 0 rfl ?_
      refine pw_callS1 (pc2 := 40) (c_nface G _ ⟨((va_up_ne _ _ (ne_oa hs.1 hb.2)).trans ((va_up_ne _ _ (ne_oo hs.1 hb.1 (by decide))).trans hs.1)), ((va_up_ne _ _ (ne_oa hs.2.1 hb.2)).trans ((va_up_ne _ _ (ne_oo hs.2.1 hb.1 (by decide))).trans hs.2.1)), ((va_up_ne _ _ g1).trans ((va_up_ne _ _ (ne_ao hs.2.2.1 hb.1)).trans hs.2.2.1)), ((va_up_ne _ _ g2).trans ((va_up_ne _ _ (ne_ao hs.2.2.2.1 hb.1)).trans hs.2.2.2.1)), hs.2.2.2.2⟩ ⟨((va_up_ne _ _ (ne_oa hc.1 hb.2)).trans ((va_up_ne _ _ (ne_oo hc.1 hb.1 (by decide))).trans hc.1)), ((va_up_ne _ _ (ne_aa hc.2 hb.2 (by decide))).trans ((va_up_ne _ _ (ne_ao hc.2 hb.1)).trans hc.2))⟩ ((hP.upO hb.1 (by decide)).upA ((va_up_ne _ _ (ne_ao hb.2 hb.1)).trans hb.2)) hi9) cs_X0_30 rfl dX0_remember_37 rfl (by omega) rfl (by first | decide | simp [cat_rf, Value.category]) ?_
      refine pw_iastN (pc2 := 41) (va_up_self _ _ _) (i := i) (by first | assumption | omega) (by omega) dX0_remember_40 rfl ?_
      refine pw_iinc (pc2 := 44) (v := nI (i + 1)) (L2 := [(3, Value.int (nI (i + 1))), (0, Value.ref bu), (1, Value.ref s), (2, Value.ref c)]) dX0_remember_41 rfl 0 rfl (by show nI _ + 1 = nI _; exact nI_1 _) (by decide) rfl ?_
      refine pw_goto (tgt := 23) dX0_remember_44 (by decide) ?_
      refine PW.sub (L2 := [(3, Value.int (nI (i + 1))), (0, Value.ref bu), (1, Value.ref s), (2, Value.ref c)]) [0, 1, 2, 3] rfl ?_
      refine PW.heap ?_ (ih (i + 1) (by omega))
      rw [up_up, upd_up, mx_s]
  refine PW.sub (L2 := [(3, Value.int 0), (0, Value.ref bu), (1, Value.ref s), (2, Value.ref c)]) [0, 1, 2, 3] rfl ?_
  refine PW.heap (h' := (va_up (va_up h bu (some (oB 3 [.int 1, .int f, .int bd, .ref ar]))) ar (some (aI 6 (mx (nfOf T gr Pk) nf 0))))) ?_ (loop 6 0 rfl)
  rw [mx_0, up_up, up_up]
  exact (up_id ((va_up_ne _ _ (ne_ao hb.2 hb.1)).trans hb.2)).symm
