/-! PackageForge$Release, Test -/
set_option maxHeartbeats 4000000 in
set_option maxRecDepth 100000 in
theorem c_rinit (G : hG) (h : hp) {rr : Nat} (hr : h rr = some (oB 8 [.int 0, .int 0, .null, .null, .int 0])) (v : Int32) {s nd a b : Nat} {f bd : Int32} {le gr : Nat → Int32} (hs : isS h s nd a b f bd le gr) {c p : Nat} {Pk : Nat → Option Nat} (hc : isC h c p Pk) {T : relT} (hP : pkR h T Pk) : PMet G MX5_init 4 5 21 [.ref rr, .int v, .ref s, .ref c] h (fun r h' => r = none ∧ ∃ na aa ab lk lp : Nat, xt G h h' [na, aa, ab, lk, lp] [rr] ∧ h' rr = some (oB 8 [.int v, .int f, .ref na, .ref lk, .int 0]) ∧ isN h' na aa ab le gr ∧ isC h' lk lp Pk) noX := by
  refine PMet.of rfl (Nat.le_of_ble_eq_true rfl) (fun d hd => ?_)
  have x0 : xt G h h [] [rr] := xt.rf1 hr
  refine PW.sub (L2 := [(0, Value.ref rr), (1, Value.int v), (2, Value.ref s), (3, Value.ref c)]) [0, 1, 2, 3] rfl ?_
  refine pw_aload_n (pc2 := 1) dX5_init_0 rfl rfl 0 rfl (by first | exact rf_ref _ | exact rf_opt _ | exact rf_nul) ?_
  refine pw_objInit (pc2 := 4) co_X5_1 wo_1 wo_2 dX5_init_1 rfl (by decide) ?_
  refine pw_aload_n (pc2 := 5) dX5_init_4 rfl rfl 0 rfl (by first | exact rf_ref _ | exact rf_opt _ | exact rf_nul) ?_
  refine pw_iload_n (pc2 := 6) dX5_init_5 rfl rfl 1 rfl ?_
  refine pw_putF (pc2 := 9) kX5 (k := 0) (by decide) rfl rfl rfl rfl fl_X5_7 hr (by first | decide | simp) (by first | rfl | exact nar_rf _ _) (by first | rfl | exact fit_rf _ _) dX5_init_6 rfl ?_
  obtain ⟨g1, eg1⟩ : ∃ z : hp, z = va_up h rr (some (oB 8 [.int v, .int 0, .null, .null, .int 0])) := ⟨_, rfl⟩
  refine PW.heap (h' := g1) eg1.symm ?_
  have f1_s : g1 s = some (oB 9 [.int f, .int bd, .ref nd]) := by rw [eg1]; exact (va_up_ne _ _ (ne_oo hs.1 hr (by decide))).trans hs.1
  have f1_nd : g1 nd = some (oB 6 [.ref a, .ref b]) := by rw [eg1]; exact (va_up_ne _ _ (ne_oo hs.2.1 hr (by decide))).trans hs.2.1
  have f1_a : g1 a = some (aI 6 le) := by rw [eg1]; exact (va_up_ne _ _ (ne_ao hs.2.2.1 hr)).trans hs.2.2.1
  have f1_b : g1 b = some (aI 6 gr) := by rw [eg1]; exact (va_up_ne _ _ (ne_ao hs.2.2.2.1 hr)).trans hs.2.2.2.1
  have f1_c : g1 c = some (oB 4 [.ref p]) := by rw [eg1]; exact (va_up_ne _ _ (ne_oo hc.1 hr (by decide))).trans hc.1
  have f1_p : g1 p = some (aR tRel 6 Pk) := by rw [eg1]; exact (va_up_ne _ _ (ne_ao hc.2 hr)).trans hc.2
  have f1_rr : g1 rr = some (oB 8 [.int v, .int 0, .null, .null, .int 0]) := by rw [eg1]; exact va_up_self _ _ _
  have x1 : xt G h g1 [] [rr] := by rw [eg1]; exact x0.wr (by simp)
  refine pw_aload_n (pc2 := 10) dX5_init_9 rfl rfl 0 rfl (by first | exact rf_ref _ | exact rf_opt _ | exact rf_nul) ?_
  refine pw_aload_n (pc2 := 11) dX5_init_10 rfl rfl 2 rfl (by first | exact rf_ref _ | exact rf_opt _ | exact rf_nul) ?_
  refine pw_getN (pc2 := 14) kX6 (k := 0) (by decide) rfl fl_X5_13 f1_s rfl dX5_init_11 rfl ?_
  refine pw_putF (pc2 := 17) kX5 (k := 1) (by decide) rfl rfl rfl rfl fl_X5_18 f1_rr (by first | decide | simp) (by first | rfl | exact nar_rf _ _) (by first | rfl | exact fit_rf _ _) dX5_init_14 rfl ?_
  obtain ⟨g2, eg2⟩ : ∃ z : hp, z = va_up g1 rr (some (oB 8 [.int v, .int f, .null, .null, .int 0])) := ⟨_, rfl⟩
  refine PW.heap (h' := g2) eg2.symm ?_
  have f2_s : g2 s = some (oB 9 [.int f, .int bd, .ref nd]) := by rw [eg2]; exact (va_up_ne _ _ (ne_oo hs.1 hr (by decide))).trans f1_s
  have f2_nd : g2 nd = some (oB 6 [.ref a, .ref b]) := by rw [eg2]; exact (va_up_ne _ _ (ne_oo hs.2.1 hr (by decide))).trans f1_nd
  have f2_a : g2 a = some (aI 6 le) := by rw [eg2]; exact (va_up_ne _ _ (ne_ao hs.2.2.1 hr)).trans f1_a
  have f2_b : g2 b = some (aI 6 gr) := by rw [eg2]; exact (va_up_ne _ _ (ne_ao hs.2.2.2.1 hr)).trans f1_b
  have f2_c : g2 c = some (oB 4 [.ref p]) := by rw [eg2]; exact (va_up_ne _ _ (ne_oo hc.1 hr (by decide))).trans f1_c
  have f2_p : g2 p = some (aR tRel 6 Pk) := by rw [eg2]; exact (va_up_ne _ _ (ne_ao hc.2 hr)).trans f1_p
  have f2_rr : g2 rr = some (oB 8 [.int v, .int f, .null, .null, .int 0]) := by rw [eg2]; exact va_up_self _ _ _
  have x2 : xt G h g2 [] [rr] := by rw [eg2]; exact x1.wr (by simp)
  refine pw_aload_n (pc2 := 18) dX5_init_17 rfl rfl 0 rfl (by first | exact rf_ref _ | exact rf_opt _ | exact rf_nul) ?_
  refine pw_new (pc2 := 21) (fs := [.null, .null]) kX3 cl_X5_19 wi_X3 wn_X3 (by decide +kernel) dX5_init_18 rfl (fun na hna gna => ?_)
  obtain ⟨g3, eg3⟩ : ∃ z : hp, z = va_up g2 na (some (oB 6 [.null, .null])) := ⟨_, rfl⟩
  refine PW.heap (h' := g3) eg3.symm ?_
  have f3_s : g3 s = some (oB 9 [.int f, .int bd, .ref nd]) := by rw [eg3]; exact (va_up_ne _ _ (ne_nw f2_s hna)).trans f2_s
  have f3_nd : g3 nd = some (oB 6 [.ref a, .ref b]) := by rw [eg3]; exact (va_up_ne _ _ (ne_nw f2_nd hna)).trans f2_nd
  have f3_a : g3 a = some (aI 6 le) := by rw [eg3]; exact (va_up_ne _ _ (ne_nw f2_a hna)).trans f2_a
  have f3_b : g3 b = some (aI 6 gr) := by rw [eg3]; exact (va_up_ne _ _ (ne_nw f2_b hna)).trans f2_b
  have f3_c : g3 c = some (oB 4 [.ref p]) := by rw [eg3]; exact (va_up_ne _ _ (ne_nw f2_c hna)).trans f2_c
  have f3_p : g3 p = some (aR tRel 6 Pk) := by rw [eg3]; exact (va_up_ne _ _ (ne_nw f2_p hna)).trans f2_p
  have f3_rr : g3 rr = some (oB 8 [.int v, .int f, .null, .null, .int 0]) := by rw [eg3]; exact (va_up_ne _ _ (ne_nw f2_rr hna)).trans f2_rr
  have f3_na : g3 na = some (oB 6 [.null, .null]) := by rw [eg3]; exact va_up_self _ _ _
  have x3 : xt G h g3 [na] [rr] := by rw [eg3]; exact x2.new hna gna
  refine pw_dup (pc2 := 22) dX5_init_21 rfl (by first | rfl | exact cat_rf _) ?_
  refine pw_callI (pc2 := 25) (c_ninit' G _ f3_na) cs_X5_21 rfl rfl rfl dX5_init_22 rfl (by omega) rfl (by first | decide | simp [cat_rf, Value.category]) (fun r9 h9 q9 => ?_) (fun Y h9 q9 => q9.elim)
  obtain ⟨rfl, aa, ab, y4, z4⟩ := q9
  generalize h9 = g4 at *
  have f4_s : g4 s = some (oB 9 [.int f, .int bd, .ref nd]) := y4.keep1 f3_s (ne_nw f2_s hna)
  have f4_nd : g4 nd = some (oB 6 [.ref a, .ref b]) := y4.keep1 f3_nd (ne_nw f2_nd hna)
  have f4_a : g4 a = some (aI 6 le) := y4.keep1 f3_a (ne_nw f2_a hna)
  have f4_b : g4 b = some (aI 6 gr) := y4.keep1 f3_b (ne_nw f2_b hna)
  have f4_c : g4 c = some (oB 4 [.ref p]) := y4.keep1 f3_c (ne_nw f2_c hna)
  have f4_p : g4 p = some (aR tRel 6 Pk) := y4.keep1 f3_p (ne_nw f2_p hna)
  have f4_rr : g4 rr = some (oB 8 [.int v, .int f, .null, .null, .int 0]) := y4.keep1 f3_rr (ne_nw f2_rr hna)
  have x4 : xt G h g4 [na, aa, ab] [rr] := x3.call y4 (by simp)
  refine pw_putF (pc2 := 28) kX5 (k := 2) (by decide) rfl rfl rfl rfl fl_X5_22 f4_rr (by first | decide | simp) (by first | rfl | exact nar_rf _ _) (by first | rfl | exact fit_rf _ _) dX5_init_25 rfl ?_
  obtain ⟨g5, eg5⟩ : ∃ z : hp, z = va_up g4 rr (some (oB 8 [.int v, .int f, .ref na, .null, .int 0])) := ⟨_, rfl⟩
  refine PW.heap (h' := g5) eg5.symm ?_
  have f5_s : g5 s = some (oB 9 [.int f, .int bd, .ref nd]) := by rw [eg5]; exact (va_up_ne _ _ (ne_oo hs.1 hr (by decide))).trans f4_s
  have f5_nd : g5 nd = some (oB 6 [.ref a, .ref b]) := by rw [eg5]; exact (va_up_ne _ _ (ne_oo hs.2.1 hr (by decide))).trans f4_nd
  have f5_a : g5 a = some (aI 6 le) := by rw [eg5]; exact (va_up_ne _ _ (ne_ao hs.2.2.1 hr)).trans f4_a
  have f5_b : g5 b = some (aI 6 gr) := by rw [eg5]; exact (va_up_ne _ _ (ne_ao hs.2.2.2.1 hr)).trans f4_b
  have f5_c : g5 c = some (oB 4 [.ref p]) := by rw [eg5]; exact (va_up_ne _ _ (ne_oo hc.1 hr (by decide))).trans f4_c
  have f5_p : g5 p = some (aR tRel 6 Pk) := by rw [eg5]; exact (va_up_ne _ _ (ne_ao hc.2 hr)).trans f4_p
  have f5_na : g5 na = some (oB 6 [.ref aa, .ref ab]) := by rw [eg5]; exact (va_up_ne _ _ ((ne_nw f2_rr hna)).symm).trans z4.1
  have f5_aa : g5 aa = some (aI 6 z0) := by rw [eg5]; exact (va_up_ne _ _ ((y4.ne f3_rr (by simp))).symm).trans z4.2.1
  have f5_ab : g5 ab = some (aI 6 z0) := by rw [eg5]; exact (va_up_ne _ _ ((y4.ne f3_rr (by simp))).symm).trans z4.2.2.1
  have f5_rr : g5 rr = some (oB 8 [.int v, .int f, .ref na, .null, .int 0]) := by rw [eg5]; exact va_up_self _ _ _
  have x5 : xt G h g5 [na, aa, ab] [rr] := by rw [eg5]; exact x4.wr (by simp)
  refine pw_aload_n (pc2 := 29) dX5_init_28 rfl rfl 0 rfl (by first | exact rf_ref _ | exact rf_opt _ | exact rf_nul) ?_
  refine pw_get (pc2 := 32) kX5 (k := 2) (by decide) rfl fl_X5_22 f5_rr rfl dX5_init_29 rfl ?_
  refine pw_aload_n (pc2 := 33) dX5_init_32 rfl rfl 2 rfl (by first | exact rf_ref _ | exact rf_opt _ | exact rf_nul) ?_
  refine pw_getN (pc2 := 36) kX6 (k := 2) (by decide) rfl fl_X5_26 f5_s rfl dX5_init_33 rfl ?_
  refine pw_callV0 (pc2 := 39) (c_ncopy G _ ⟨f5_na, f5_aa, f5_ab, z4.2.2.2⟩ ⟨f5_nd, f5_a, f5_b, hs.2.2.2.2⟩ (y4.ne f3_a (by simp)) (y4.ne f3_a (by simp)) (y4.ne f3_b (by simp)) (y4.ne f3_b (by simp))) cs_X5_27 rfl rfl f5_na dX5_init_36 rfl (by omega) rfl (by first | decide | simp [cat_rf, Value.category]) ?_
  obtain ⟨g6, eg6⟩ : ∃ z : hp, z = va_up g5 aa (some (aI 6 le)) := ⟨_, rfl⟩
  have f6_s : g6 s = some (oB 9 [.int f, .int bd, .ref nd]) := by rw [eg6]; exact (va_up_ne _ _ (y4.ne f3_s (by simp))).trans f5_s
  have f6_nd : g6 nd = some (oB 6 [.ref a, .ref b]) := by rw [eg6]; exact (va_up_ne _ _ (y4.ne f3_nd (by simp))).trans f5_nd
  have f6_a : g6 a = some (aI 6 le) := by rw [eg6]; exact (va_up_ne _ _ (y4.ne f3_a (by simp))).trans f5_a
  have f6_b : g6 b = some (aI 6 gr) := by rw [eg6]; exact (va_up_ne _ _ (y4.ne f3_b (by simp))).trans f5_b
  have f6_c : g6 c = some (oB 4 [.ref p]) := by rw [eg6]; exact (va_up_ne _ _ (y4.ne f3_c (by simp))).trans f5_c
  have f6_p : g6 p = some (aR tRel 6 Pk) := by rw [eg6]; exact (va_up_ne _ _ (y4.ne f3_p (by simp))).trans f5_p
  have f6_na : g6 na = some (oB 6 [.ref aa, .ref ab]) := by rw [eg6]; exact (va_up_ne _ _ (y4.ne f3_na (by simp))).trans f5_na
  have f6_ab : g6 ab = some (aI 6 z0) := by rw [eg6]; exact (va_up_ne _ _ (z4.2.2.2).symm).trans f5_ab
  have f6_rr : g6 rr = some (oB 8 [.int v, .int f, .ref na, .null, .int 0]) := by rw [eg6]; exact (va_up_ne _ _ (y4.ne f3_rr (by simp))).trans f5_rr
  have f6_aa : g6 aa = some (aI 6 le) := by rw [eg6]; exact va_up_self _ _ _
  have x6 : xt G h g6 [na, aa, ab] [rr] := by rw [eg6]; exact x5.wr (by simp)
  obtain ⟨g7, eg7⟩ : ∃ z : hp, z = va_up g6 ab (some (aI 6 gr)) := ⟨_, rfl⟩
  refine PW.heap (h' := g7) (by rw [eg7, eg6]) ?_
  have f7_s : g7 s = some (oB 9 [.int f, .int bd, .ref nd]) := by rw [eg7]; exact (va_up_ne _ _ (y4.ne f3_s (by simp))).trans f6_s
  have f7_nd : g7 nd = some (oB 6 [.ref a, .ref b]) := by rw [eg7]; exact (va_up_ne _ _ (y4.ne f3_nd (by simp))).trans f6_nd
  have f7_a : g7 a = some (aI 6 le) := by rw [eg7]; exact (va_up_ne _ _ (y4.ne f3_a (by simp))).trans f6_a
  have f7_b : g7 b = some (aI 6 gr) := by rw [eg7]; exact (va_up_ne _ _ (y4.ne f3_b (by simp))).trans f6_b
  have f7_c : g7 c = some (oB 4 [.ref p]) := by rw [eg7]; exact (va_up_ne _ _ (y4.ne f3_c (by simp))).trans f6_c
  have f7_p : g7 p = some (aR tRel 6 Pk) := by rw [eg7]; exact (va_up_ne _ _ (y4.ne f3_p (by simp))).trans f6_p
  have f7_na : g7 na = some (oB 6 [.ref aa, .ref ab]) := by rw [eg7]; exact (va_up_ne _ _ (y4.ne f3_na (by simp))).trans f6_na
  have f7_rr : g7 rr = some (oB 8 [.int v, .int f, .ref na, .null, .int 0]) := by rw [eg7]; exact (va_up_ne _ _ (y4.ne f3_rr (by simp))).trans f6_rr
  have f7_aa : g7 aa = some (aI 6 le) := by rw [eg7]; exact (va_up_ne _ _ z4.2.2.2).trans f6_aa
  have f7_ab : g7 ab = some (aI 6 gr) := by rw [eg7]; exact va_up_self _ _ _
  have x7 : xt G h g7 [na, aa, ab] [rr] := by rw [eg7]; exact x6.wr (by simp)
  refine pw_aload_n (pc2 := 40) dX5_init_39 rfl rfl 0 rfl (by first | exact rf_ref _ | exact rf_opt _ | exact rf_nul) ?_
  refine pw_new (pc2 := 43) (fs := [.null]) kX1 cl_X5_31 wi_X1 wn_X1 (by decide +kernel) dX5_init_40 rfl (fun lk hlk glk => ?_)
  obtain ⟨g8, eg8⟩ : ∃ z : hp, z = va_up g7 lk (some (oB 4 [.null])) := ⟨_, rfl⟩
  refine PW.heap (h' := g8) eg8.symm ?_
  have f8_s : g8 s = some (oB 9 [.int f, .int bd, .ref nd]) := by rw [eg8]; exact (va_up_ne _ _ (ne_nw f7_s hlk)).trans f7_s
  have f8_nd : g8 nd = some (oB 6 [.ref a, .ref b]) := by rw [eg8]; exact (va_up_ne _ _ (ne_nw f7_nd hlk)).trans f7_nd
  have f8_a : g8 a = some (aI 6 le) := by rw [eg8]; exact (va_up_ne _ _ (ne_nw f7_a hlk)).trans f7_a
  have f8_b : g8 b = some (aI 6 gr) := by rw [eg8]; exact (va_up_ne _ _ (ne_nw f7_b hlk)).trans f7_b
  have f8_c : g8 c = some (oB 4 [.ref p]) := by rw [eg8]; exact (va_up_ne _ _ (ne_nw f7_c hlk)).trans f7_c
  have f8_p : g8 p = some (aR tRel 6 Pk) := by rw [eg8]; exact (va_up_ne _ _ (ne_nw f7_p hlk)).trans f7_p
  have f8_na : g8 na = some (oB 6 [.ref aa, .ref ab]) := by rw [eg8]; exact (va_up_ne _ _ (ne_nw f7_na hlk)).trans f7_na
  have f8_rr : g8 rr = some (oB 8 [.int v, .int f, .ref na, .null, .int 0]) := by rw [eg8]; exact (va_up_ne _ _ (ne_nw f7_rr hlk)).trans f7_rr
  have f8_aa : g8 aa = some (aI 6 le) := by rw [eg8]; exact (va_up_ne _ _ (ne_nw f7_aa hlk)).trans f7_aa
  have f8_ab : g8 ab = some (aI 6 gr) := by rw [eg8]; exact (va_up_ne _ _ (ne_nw f7_ab hlk)).trans f7_ab
  have f8_lk : g8 lk = some (oB 4 [.null]) := by rw [eg8]; exact va_up_self _ _ _
  have x8 : xt G h g8 [na, aa, ab, lk] [rr] := by rw [eg8]; exact x7.new hlk glk
  refine pw_dup (pc2 := 44) dX5_init_43 rfl (by first | rfl | exact cat_rf _) ?_
  refine pw_callI (pc2 := 47) (c_cinit' G _ f8_lk) cs_X5_33 rfl rfl rfl dX5_init_44 rfl (by omega) rfl (by first | decide | simp [cat_rf, Value.category]) (fun r9 h9 q9 => ?_) (fun Y h9 q9 => q9.elim)
  obtain ⟨rfl, lp, y9, z9⟩ := q9
  generalize h9 = g9 at *
  have f9_s : g9 s = some (oB 9 [.int f, .int bd, .ref nd]) := y9.keep1 f8_s (ne_nw f7_s hlk)
  have f9_nd : g9 nd = some (oB 6 [.ref a, .ref b]) := y9.keep1 f8_nd (ne_nw f7_nd hlk)
  have f9_a : g9 a = some (aI 6 le) := y9.keep1 f8_a (ne_nw f7_a hlk)
  have f9_b : g9 b = some (aI 6 gr) := y9.keep1 f8_b (ne_nw f7_b hlk)
  have f9_c : g9 c = some (oB 4 [.ref p]) := y9.keep1 f8_c (ne_nw f7_c hlk)
  have f9_p : g9 p = some (aR tRel 6 Pk) := y9.keep1 f8_p (ne_nw f7_p hlk)
  have f9_na : g9 na = some (oB 6 [.ref aa, .ref ab]) := y9.keep1 f8_na (ne_nw f7_na hlk)
  have f9_rr : g9 rr = some (oB 8 [.int v, .int f, .ref na, .null, .int 0]) := y9.keep1 f8_rr (ne_nw f7_rr hlk)
  have f9_aa : g9 aa = some (aI 6 le) := y9.keep1 f8_aa (ne_nw f7_aa hlk)
  have f9_ab : g9 ab = some (aI 6 gr) := y9.keep1 f8_ab (ne_nw f7_ab hlk)
  have x9 : xt G h g9 [na, aa, ab, lk, lp] [rr] := x8.call y9 (by simp)
  refine pw_putF (pc2 := 50) kX5 (k := 3) (by decide) rfl rfl rfl rfl fl_X5_34 f9_rr (by first | decide | simp) (by first | rfl | exact nar_rf _ _) (by first | rfl | exact fit_rf _ _) dX5_init_47 rfl ?_
  obtain ⟨g10, eg10⟩ : ∃ z : hp, z = va_up g9 rr (some (oB 8 [.int v, .int f, .ref na, .ref lk, .int 0])) := ⟨_, rfl⟩
  refine PW.heap (h' := g10) eg10.symm ?_
  have f10_s : g10 s = some (oB 9 [.int f, .int bd, .ref nd]) := by rw [eg10]; exact (va_up_ne _ _ (ne_oo hs.1 hr (by decide))).trans f9_s
  have f10_nd : g10 nd = some (oB 6 [.ref a, .ref b]) := by rw [eg10]; exact (va_up_ne _ _ (ne_oo hs.2.1 hr (by decide))).trans f9_nd
  have f10_a : g10 a = some (aI 6 le) := by rw [eg10]; exact (va_up_ne _ _ (ne_ao hs.2.2.1 hr)).trans f9_a
  have f10_b : g10 b = some (aI 6 gr) := by rw [eg10]; exact (va_up_ne _ _ (ne_ao hs.2.2.2.1 hr)).trans f9_b
  have f10_c : g10 c = some (oB 4 [.ref p]) := by rw [eg10]; exact (va_up_ne _ _ (ne_oo hc.1 hr (by decide))).trans f9_c
  have f10_p : g10 p = some (aR tRel 6 Pk) := by rw [eg10]; exact (va_up_ne _ _ (ne_ao hc.2 hr)).trans f9_p
  have f10_na : g10 na = some (oB 6 [.ref aa, .ref ab]) := by rw [eg10]; exact (va_up_ne _ _ ((ne_nw f2_rr hna)).symm).trans f9_na
  have f10_aa : g10 aa = some (aI 6 le) := by rw [eg10]; exact (va_up_ne _ _ ((y4.ne f3_rr (by simp))).symm).trans f9_aa
  have f10_ab : g10 ab = some (aI 6 gr) := by rw [eg10]; exact (va_up_ne _ _ ((y4.ne f3_rr (by simp))).symm).trans f9_ab
  have f10_lk : g10 lk = some (oB 4 [.ref lp]) := by rw [eg10]; exact (va_up_ne _ _ ((ne_nw f7_rr hlk)).symm).trans z9.1
  have f10_lp : g10 lp = some (aR tRel 6 zN) := by rw [eg10]; exact (va_up_ne _ _ ((y9.ne f8_rr (by simp))).symm).trans z9.2
  have f10_rr : g10 rr = some (oB 8 [.int v, .int f, .ref na, .ref lk, .int 0]) := by rw [eg10]; exact va_up_self _ _ _
  have x10 : xt G h g10 [na, aa, ab, lk, lp] [rr] := by rw [eg10]; exact x9.wr (by simp)
  refine pw_aload_n (pc2 := 51) dX5_init_50 rfl rfl 0 rfl (by first | exact rf_ref _ | exact rf_opt _ | exact rf_nul) ?_
  refine pw_get (pc2 := 54) kX5 (k := 3) (by decide) rfl fl_X5_34 f10_rr rfl dX5_init_51 rfl ?_
  refine pw_aload_n (pc2 := 55) dX5_init_54 rfl rfl 3 rfl (by first | exact rf_ref _ | exact rf_opt _ | exact rf_nul) ?_
  refine pw_callV0 (pc2 := 58) (c_ccopy G _ ⟨f10_lk, f10_lp⟩ ⟨f10_c, f10_p⟩ (y9.ne f8_p (by simp)) (pkR.keep x10 hP (fun k r hk hr2 hm => rel_ne (hP k hk r hr2) hr (List.mem_singleton.mp hm)))) cs_X5_38 rfl rfl f10_lk dX5_init_55 rfl (by omega) rfl (by first | decide | simp [cat_rf, Value.category]) ?_
  obtain ⟨g11, eg11⟩ : ∃ z : hp, z = va_up g10 lp (some (aR tRel 6 Pk)) := ⟨_, rfl⟩
  refine PW.heap (h' := g11) eg11.symm ?_
  have f11_s : g11 s = some (oB 9 [.int f, .int bd, .ref nd]) := by rw [eg11]; exact (va_up_ne _ _ (y9.ne f8_s (by simp))).trans f10_s
  have f11_nd : g11 nd = some (oB 6 [.ref a, .ref b]) := by rw [eg11]; exact (va_up_ne _ _ (y9.ne f8_nd (by simp))).trans f10_nd
  have f11_a : g11 a = some (aI 6 le) := by rw [eg11]; exact (va_up_ne _ _ (y9.ne f8_a (by simp))).trans f10_a
  have f11_b : g11 b = some (aI 6 gr) := by rw [eg11]; exact (va_up_ne _ _ (y9.ne f8_b (by simp))).trans f10_b
  have f11_c : g11 c = some (oB 4 [.ref p]) := by rw [eg11]; exact (va_up_ne _ _ (y9.ne f8_c (by simp))).trans f10_c
  have f11_p : g11 p = some (aR tRel 6 Pk) := by rw [eg11]; exact (va_up_ne _ _ (y9.ne f8_p (by simp))).trans f10_p
  have f11_na : g11 na = some (oB 6 [.ref aa, .ref ab]) := by rw [eg11]; exact (va_up_ne _ _ (y9.ne f8_na (by simp))).trans f10_na
  have f11_aa : g11 aa = some (aI 6 le) := by rw [eg11]; exact (va_up_ne _ _ (y9.ne f8_aa (by simp))).trans f10_aa
  have f11_ab : g11 ab = some (aI 6 gr) := by rw [eg11]; exact (va_up_ne _ _ (y9.ne f8_ab (by simp))).trans f10_ab
  have f11_lk : g11 lk = some (oB 4 [.ref lp]) := by rw [eg11]; exact (va_up_ne _ _ (y9.ne f8_lk (by simp))).trans f10_lk
  have f11_rr : g11 rr = some (oB 8 [.int v, .int f, .ref na, .ref lk, .int 0]) := by rw [eg11]; exact (va_up_ne _ _ (y9.ne f8_rr (by simp))).trans f10_rr
  have f11_lp : g11 lp = some (aR tRel 6 Pk) := by rw [eg11]; exact va_up_self _ _ _
  have x11 : xt G h g11 [na, aa, ab, lk, lp] [rr] := by rw [eg11]; exact x10.wr (by simp)
  refine pw_vret dX5_init_58 rfl ?_
  exact ⟨rfl, na, aa, ab, lk, lp, x11, f11_rr, ⟨f11_na, f11_aa, f11_ab, z4.2.2.2⟩, f11_lk, f11_lp⟩
/-- a release is stale: not yanked, its lock has a yanked one -/
def staleP (T : relT) (rr : Nat) (Lk : Nat → Option Nat) : Prop := (T rr).2.2.2.2 = 0 ∧ ∃ k r, k < 6 ∧ Lk k = some r ∧ ¬ (T r).2.2.2.2 = 0
set_option maxHeartbeats 4000000 in
set_option maxRecDepth 100000 in
theorem c_rout (G : hG) (h : hp) {T : relT} {rr p : Nat} {Lk : Nat → Option Nat} (hr : h rr = some (relC (T rr))) (hc : isC h (T rr).2.2.2.1 p Lk) (hP : pkR h T Lk) : PMet G MX5_isOutdated 1 0 0 [.ref rr] h (bR (staleP T rr Lk) h) noX := by
  refine PMet.of rfl (Nat.le_of_ble_eq_true rfl) (fun d hd => ?_)
  refine PW.sub (L2 := [(0, Value.ref rr)]) [0] rfl ?_
  refine pw_aload_n (pc2 := 1) dX5_isOutdated_0 rfl rfl 0 rfl (by first | exact rf_ref _ | exact rf_opt _ | exact rf_nul) ?_
  refine pw_get (pc2 := 4) kX5 (k := 4) (by decide) rfl fl_X5_41 hr rfl dX5_isOutdated_1 rfl ?_
  refine pw_if_ne (tgt := 21) (pc2 := 7) dX5_isOutdated_4 (by decide) rfl (fun c4 => ?_) (fun c4 => ?_)
  · refine pw_iconst (pc2 := 22) (v := 0) dX5_isOutdated_21 rfl (by decide) ?_
    refine pw_iret dX5_isOutdated_22 rfl (by first | rfl | assumption | simp [narrow]) ?_
    first | exact bR_0 (fun q => c4 q.1) | exact bR_0 (fun q => q11 q.2)
  · refine pw_aload_n (pc2 := 8) dX5_isOutdated_7 rfl rfl 0 rfl (by first | exact rf_ref _ | exact rf_opt _ | exact rf_nul) ?_
    refine pw_get (pc2 := 11) kX5 (k := 3) (by decide) rfl fl_X5_34 hr rfl dX5_isOutdated_8 rfl ?_
    refine pw_callVb (pc2 := 14) (c_cyank G _ hc hP) cs_X5_45 rfl rfl hc.1 dX5_isOutdated_11 rfl (by omega) rfl (by first | decide | simp [cat_rf, Value.category]) (fun q11 => ?_) (fun q11 => ?_)
    · refine pw_if_eq (tgt := 21) (pc2 := 17) dX5_isOutdated_14 (by decide) rfl (fun c14 => by exact absurd c14 (by decide)) (fun _ => ?_)
      refine pw_iconst (pc2 := 18) (v := 1) dX5_isOutdated_17 rfl (by decide) ?_
      refine pw_goto (tgt := 22) dX5_isOutdated_18 (by decide) ?_
      refine pw_iret dX5_isOutdated_22 rfl (by first | rfl | assumption | simp [narrow]) ?_
      exact bR_1 (⟨c4, q11⟩)
    · refine pw_if_eq (tgt := 21) (pc2 := 17) dX5_isOutdated_14 (by decide) rfl (fun _ => ?_) (fun c14 => by exact absurd (by decide) c14)
      refine pw_iconst (pc2 := 22) (v := 0) dX5_isOutdated_21 rfl (by decide) ?_
      refine pw_iret dX5_isOutdated_22 rfl (by first | rfl | assumption | simp [narrow]) ?_
      first | exact bR_0 (fun q => c4 q.1) | exact bR_0 (fun q => q11 q.2)
abbrev isX (h : hp) (t ar : Nat) (nu ln fl cn : Int32) (F : Nat → Int32) : Prop := h t = some (oB 10 [.int nu, .int ln, .int fl, .ref ar, .int cn]) ∧ h ar = some (aZ 8 F)
def bF (F : Nat → Int32) : Prop := ∀ j, j < 8 → F j = 0 ∨ F j = 1
def shF (F : Nat → Int32) (i : Nat) : Nat → Int32 := fun j => if j + 1 < i then F (j + 1) else F j
theorem shF_1 (F : Nat → Int32) : shF F 1 = F := by funext j; simp [shF]
theorem shF_s (F : Nat → Int32) {i : Nat} (hi : 1 ≤ i) : upd (shF F i) (i - 1) (F i) = shF F (i + 1) := by
  funext j
  unfold upd shF
  by_cases h : j = i - 1
  · subst h
    have e : i - 1 + 1 = i := by omega
    rw [if_pos rfl, e, if_pos (by omega)]
  · rw [if_neg h]
    by_cases h2 : j + 1 < i
    · rw [if_pos h2, if_pos (by omega)]
    · rw [if_neg h2, if_neg (by omega)]
theorem shF_at (F : Nat → Int32) {i : Nat} : shF F i i = F i := by unfold shF; rw [if_neg (by omega)]
/-- how many of the results 1 .. n - 1 differ from the one ahead -/
def ctN (F : Nat → Int32) : Nat → Int32
  | 0 => 0
  | n + 1 => ctN F n + (if n = 0 then 0 else if F n = F (n - 1) then 0 else 1)
set_option maxHeartbeats 4000000 in
set_option maxRecDepth 100000 in
theorem c_xinit (G : hG) (h : hp) {t : Nat} (ht : h t = some (oB 10 [.int 0, .int 0, .int 0, .null, .int 0])) (nu ln : Int32) : PMet G MX7_init 1 1 8 [.ref t, .int nu, .int ln] h (fun r h' => r = none ∧ ∃ ar : Nat, xt G h h' [ar] [t] ∧ isX h' t ar nu ln 0 0 z0) noX := by
  refine PMet.of rfl (Nat.le_of_ble_eq_true rfl) (fun d hd => ?_)
  have x0 : xt G h h [] [t] := xt.rf1 ht
  refine PW.sub (L2 := [(0, Value.ref t), (1, Value.int nu), (2, Value.int ln)]) [0, 1, 2] rfl ?_
  refine pw_aload_n (pc2 := 1) dX7_init_0 rfl rfl 0 rfl (by first | exact rf_ref _ | exact rf_opt _ | exact rf_nul) ?_
  refine pw_objInit (pc2 := 4) co_X7_3 wo_1 wo_2 dX7_init_1 rfl (by decide) ?_
  refine pw_aload_n (pc2 := 5) dX7_init_4 rfl rfl 0 rfl (by first | exact rf_ref _ | exact rf_opt _ | exact rf_nul) ?_
  refine pw_iload_n (pc2 := 6) dX7_init_5 rfl rfl 1 rfl ?_
  refine pw_putF (pc2 := 9) kX7 (k := 0) (by decide) rfl rfl rfl rfl fl_X7_9 ht (by first | decide | simp) (by first | rfl | exact nar_rf _ _) (by first | rfl | exact fit_rf _ _) dX7_init_6 rfl ?_
  obtain ⟨g1, eg1⟩ : ∃ z : hp, z = va_up h t (some (oB 10 [.int nu, .int 0, .int 0, .null, .int 0])) := ⟨_, rfl⟩
  refine PW.heap (h' := g1) eg1.symm ?_
  have f1_t : g1 t = some (oB 10 [.int nu, .int 0, .int 0, .null, .int 0]) := by rw [eg1]; exact va_up_self _ _ _
  have x1 : xt G h g1 [] [t] := by rw [eg1]; exact x0.wr (by simp)
  refine pw_aload_n (pc2 := 10) dX7_init_9 rfl rfl 0 rfl (by first | exact rf_ref _ | exact rf_opt _ | exact rf_nul) ?_
  refine pw_iload_n (pc2 := 11) dX7_init_10 rfl rfl 2 rfl ?_
  refine pw_putF (pc2 := 14) kX7 (k := 1) (by decide) rfl rfl rfl rfl fl_X7_15 f1_t (by first | decide | simp) (by first | rfl | exact nar_rf _ _) (by first | rfl | exact fit_rf _ _) dX7_init_11 rfl ?_
  obtain ⟨g2, eg2⟩ : ∃ z : hp, z = va_up g1 t (some (oB 10 [.int nu, .int ln, .int 0, .null, .int 0])) := ⟨_, rfl⟩
  refine PW.heap (h' := g2) eg2.symm ?_
  have f2_t : g2 t = some (oB 10 [.int nu, .int ln, .int 0, .null, .int 0]) := by rw [eg2]; exact va_up_self _ _ _
  have x2 : xt G h g2 [] [t] := by rw [eg2]; exact x1.wr (by simp)
  refine pw_aload_n (pc2 := 15) dX7_init_14 rfl rfl 0 rfl (by first | exact rf_ref _ | exact rf_opt _ | exact rf_nul) ?_
  refine pw_bipush (pc2 := 17) (v := 8) dX7_init_15 rfl (by decide) ?_
  refine pw_newarr (pc2 := 19) (atype := .boolean) (a0 := (8, .inl (fun _ => 0))) 1 rfl rfl wa_666 (fun _ => rfl) (by decide) (by decide) (by decide) dX7_init_17 rfl (fun ar har gar => ?_)
  obtain ⟨g3, eg3⟩ : ∃ z : hp, z = va_up g2 ar (some (aZ 8 z0)) := ⟨_, rfl⟩
  refine PW.heap (h' := g3) eg3.symm ?_
  have f3_t : g3 t = some (oB 10 [.int nu, .int ln, .int 0, .null, .int 0]) := by rw [eg3]; exact (va_up_ne _ _ (ne_nw f2_t har)).trans f2_t
  have f3_ar : g3 ar = some (aZ 8 z0) := by rw [eg3]; exact va_up_self _ _ _
  have x3 : xt G h g3 [ar] [t] := by rw [eg3]; exact x2.new har gar
  refine pw_putF (pc2 := 22) kX7 (k := 3) (by decide) rfl rfl rfl rfl fl_X7_18 f3_t (by first | decide | simp) (by first | rfl | exact nar_rf _ _) (by first | rfl | exact fit_rf _ _) dX7_init_19 rfl ?_
  obtain ⟨g4, eg4⟩ : ∃ z : hp, z = va_up g3 t (some (oB 10 [.int nu, .int ln, .int 0, .ref ar, .int 0])) := ⟨_, rfl⟩
  refine PW.heap (h' := g4) eg4.symm ?_
  have f4_ar : g4 ar = some (aZ 8 z0) := by rw [eg4]; exact (va_up_ne _ _ ((ne_nw f2_t har)).symm).trans f3_ar
  have f4_t : g4 t = some (oB 10 [.int nu, .int ln, .int 0, .ref ar, .int 0]) := by rw [eg4]; exact va_up_self _ _ _
  have x4 : xt G h g4 [ar] [t] := by rw [eg4]; exact x3.wr (by simp)
  refine pw_vret dX7_init_22 rfl ?_
  exact ⟨rfl, ar, x4, f4_t, f4_ar⟩
set_option maxHeartbeats 4000000 in
set_option maxRecDepth 100000 in
theorem c_xforget (G : hG) (h : hp) {t ar : Nat} {nu ln fl cn : Int32} {F : Nat → Int32} (hx : isX h t ar nu ln fl cn F) (hF : bF F) : PMet G MX7_forgetOldest 0 0 0 [.ref t] h (det none (va_up (va_up h ar (some (aZ 8 (shF F 8)))) t (some (oB 10 [.int nu, .int ln, .int fl, .ref ar, .int 7])))) noX := by
  refine PMet.of rfl (Nat.le_of_ble_eq_true rfl) (fun d hd => ?_)
  refine PW.sub (L2 := [(0, Value.ref t)]) [0] rfl ?_
  refine pw_iconst (pc2 := 1) (v := 1) dX7_forgetOldest_0 rfl (by decide) ?_
  refine pw_istore_n (pc2 := 2) (L2 := [(1, Value.int 1), (0, Value.ref t)]) dX7_forgetOldest_1 rfl rfl (by decide) rfl ?_
  have loop : ∀ (k i : Nat) (h1 : 1 ≤ i), i + k = 8 → PW G MX7_forgetOldest d noA (E0 G (det none (va_up (va_up h ar (some (aZ 8 (shF F 8)))) t (some (oB 10 [.int nu, .int ln, .int fl, .ref ar, .int 7])))) noX) 0 0 2 [(1, Value.int (nI i)), (0, Value.ref t)] [] (va_up h ar (some (aZ 8 (shF F i)))) := by
    intro k
    induction k with
    | zero =>
      intro i h1 hik
      have hi9 : i = 8 := by omega
      refine pw_iload_n (pc2 := 3) dX7_forgetOldest_2 rfl rfl 0 rfl ?_
      refine pw_bipush (pc2 := 5) (v := 8) dX7_forgetOldest_3 rfl (by decide) ?_
      refine pw_icmp_ge (tgt := 28) (pc2 := 8) dX7_forgetOldest_5 (by decide) rfl (fun _ => ?_) (fun c5 => by exact absurd (by first | (rw [hi9]; exact Int32.le_refl _) | exact fun q => absurd ((nI_leI (a := 8) (b := i) (by omega) (by omega)).mp q) (by omega)) c5)
      refine pw_aload_n (pc2 := 29) dX7_forgetOldest_28 rfl rfl 1 rfl (by first | exact rf_ref _ | exact rf_opt _ | exact rf_nul) ?_
      refine pw_bipush (pc2 := 31) (v := 7) dX7_forgetOldest_29 rfl (by decide) ?_
      refine pw_put (pc2 := 34) kX7 (k := 4) (by decide) rfl rfl fl_X7_22 ((va_up_ne _ _ (ne_oa hx.1 hx.2)).trans hx.1) (by first | decide | simp) (by first | rfl | exact nar_rf _ _) (by first | rfl | exact fit_rf _ _) dX7_forgetOldest_31 rfl ?_
      refine pw_vret dX7_forgetOldest_34 rfl ?_
      rw [hi9]
      exact ⟨rfl, rfl⟩
    | succ k ih =>
      intro i h1 hik
      have hi9 : i < 8 := by omega
      refine pw_iload_n (pc2 := 3) dX7_forgetOldest_2 rfl rfl 0 rfl ?_
      refine pw_bipush (pc2 := 5) (v := 8) dX7_forgetOldest_3 rfl (by decide) ?_
      refine pw_icmp_ge (tgt := 28) (pc2 := 8) dX7_forgetOldest_5 (by decide) rfl (fun c5 => by exact absurd c5 (by first | (rw [hi9]; exact Int32.le_refl _) | exact fun q => absurd ((nI_leI (a := 8) (b := i) (by omega) (by omega)).mp q) (by omega))) (fun _ => ?_)
      refine pw_aload_n (pc2 := 9) dX7_forgetOldest_8 rfl rfl 1 rfl (by first | exact rf_ref _ | exact rf_opt _ | exact rf_nul) ?_
      refine pw_get (pc2 := 12) kX7 (k := 3) (by decide) rfl fl_X7_18 ((va_up_ne _ _ (ne_oa hx.1 hx.2)).trans hx.1) rfl dX7_forgetOldest_9 rfl ?_
      refine pw_iload_n (pc2 := 13) dX7_forgetOldest_12 rfl rfl 0 rfl ?_
      refine pw_iconst (pc2 := 14) (v := 1) dX7_forgetOldest_13 rfl (by decide) ?_
      refine pw_isub (pc2 := 15) dX7_forgetOldest_14 rfl ?_
      refine pw_topE (nI_sub1 (by omega)) ?_
      refine pw_aload_n (pc2 := 16) dX7_forgetOldest_15 rfl rfl 1 rfl (by first | exact rf_ref _ | exact rf_opt _ | exact rf_nul) ?_
      refine pw_get (pc2 := 19) kX7 (k := 3) (by decide) rfl fl_X7_18 ((va_up_ne _ _ (ne_oa hx.1 hx.2)).trans hx.1) rfl dX7_forgetOldest_16 rfl ?_
      refine pw_iload_n (pc2 := 20) dX7_forgetOldest_19 rfl rfl 0 rfl ?_
      refine pw_zaldN (pc2 := 21) (va_up_self _ _ _) (i := i) (by first | assumption | omega) (by omega) dX7_forgetOldest_20 rfl ?_
      refine pw_zastN (pc2 := 22) (va_up_self _ _ _) (i := (i - 1)) (by first | assumption | omega) (by omega) (nar_b (by rw [shF_at]; exact hF i hi9)) dX7_forgetOldest_21 rfl ?_
      refine pw_iinc (pc2 := 25) (v := nI (i + 1)) (L2 := [(1, Value.int (nI (i + 1))), (0, Value.ref t)]) dX7_forgetOldest_22 rfl 0 rfl (by show nI _ + 1 = nI _; exact nI_1 _) (by decide) rfl ?_
      refine pw_goto (tgt := 2) dX7_forgetOldest_25 (by decide) ?_
      refine PW.sub (L2 := [(1, Value.int (nI (i + 1))), (0, Value.ref t)]) [0, 1] rfl ?_
      refine PW.heap ?_ (ih (i + 1) (by omega) (by omega))
      rw [up_up, shF_at, shF_s _ h1]
  refine PW.sub (L2 := [(1, Value.int 1), (0, Value.ref t)]) [0, 1] rfl ?_
  refine PW.heap (h' := (va_up h ar (some (aZ 8 (shF F 1))))) ?_ (loop 7 1 (Nat.le_refl 1) rfl)
  rw [shF_1, up_id hx.2]
/-- the record behind one more result, and how many results it has -/
def arF (F : Nat → Int32) (c : Nat) (x : Int32) : Nat → Int32 := if c < 8 then upd F c x else upd (shF F 8) 7 x
def arC (c : Nat) : Nat := if c < 8 then c + 1 else 8
theorem cmp8 {c : Nat} (hc : c ≤ 8) : nI c < (8 : Int32) ↔ c < 8 := nI_ltI (a := c) (b := 8) (by omega) (by omega)
theorem cmp8' {c : Nat} (hc : c ≤ 8) : (8 : Int32) ≤ nI c ↔ 8 ≤ c := nI_leI (a := 8) (b := c) (by omega) (by omega)
set_option maxHeartbeats 4000000 in
set_option maxRecDepth 100000 in
theorem c_xadd (G : hG) (h : hp) {t ar c : Nat} {nu ln fl : Int32} {F : Nat → Int32} (hx : isX h t ar nu ln fl (nI c) F) (hF : bF F) (hc : c ≤ 8) {x : Int32} (hx1 : x = 0 ∨ x = 1) : PMet G MX7_addResult 1 0 0 [.ref t, .int x] h (det none (va_up (va_up h ar (some (aZ 8 (arF F c x)))) t (some (oB 10 [.int nu, .int ln, .int fl, .ref ar, .int (nI (arC c))])))) noX := by
  refine PMet.of rfl (Nat.le_of_ble_eq_true rfl) (fun d hd => ?_)
  refine PW.sub (L2 := [(0, Value.ref t), (1, Value.int x)]) [0, 1] rfl ?_
  refine pw_aload_n (pc2 := 1) dX7_addResult_0 rfl rfl 0 rfl (by first | exact rf_ref _ | exact rf_opt _ | exact rf_nul) ?_
  refine pw_get (pc2 := 4) kX7 (k := 4) (by decide) rfl fl_X7_22 hx.1 rfl dX7_addResult_1 rfl ?_
  refine pw_bipush (pc2 := 6) (v := 8) dX7_addResult_4 rfl (by decide) ?_
  refine pw_icmp_lt (tgt := 13) (pc2 := 9) dX7_addResult_6 (by decide) rfl (fun c6 => ?_) (fun c6 => ?_)
  · refine pw_aload_n (pc2 := 14) dX7_addResult_13 rfl rfl 0 rfl (by first | exact rf_ref _ | exact rf_opt _ | exact rf_nul) ?_
    refine pw_get (pc2 := 17) kX7 (k := 4) (by decide) rfl fl_X7_22 hx.1 rfl dX7_addResult_14 rfl ?_
    refine pw_if_lt (tgt := 49) (pc2 := 20) dX7_addResult_17 (by decide) rfl (fun c17 => by exact absurd c17 (nI_pos (by omega))) (fun _ => ?_)
    refine pw_aload_n (pc2 := 21) dX7_addResult_20 rfl rfl 0 rfl (by first | exact rf_ref _ | exact rf_opt _ | exact rf_nul) ?_
    refine pw_get (pc2 := 24) kX7 (k := 4) (by decide) rfl fl_X7_22 hx.1 rfl dX7_addResult_21 rfl ?_
    refine pw_bipush (pc2 := 26) (v := 8) dX7_addResult_24 rfl (by decide) ?_
    refine pw_icmp_ge (tgt := 49) (pc2 := 29) dX7_addResult_26 (by decide) rfl (fun c26 => by exact absurd c26 (Int32.not_le.mpr c6)) (fun _ => ?_)
    refine pw_aload_n (pc2 := 30) dX7_addResult_29 rfl rfl 0 rfl (by first | exact rf_ref _ | exact rf_opt _ | exact rf_nul) ?_
    refine pw_get (pc2 := 33) kX7 (k := 3) (by decide) rfl fl_X7_18 hx.1 rfl dX7_addResult_30 rfl ?_
    refine pw_aload_n (pc2 := 34) dX7_addResult_33 rfl rfl 0 rfl (by first | exact rf_ref _ | exact rf_opt _ | exact rf_nul) ?_
    refine pw_get (pc2 := 37) kX7 (k := 4) (by decide) rfl fl_X7_22 hx.1 rfl dX7_addResult_34 rfl ?_
    refine pw_iload_n (pc2 := 38) dX7_addResult_37 rfl rfl 1 rfl ?_
    refine pw_zastN (pc2 := 39) hx.2 (i := c) ((cmp8 hc).mp c6) (by omega) (nar_b hx1) dX7_addResult_38 rfl ?_
    refine pw_aload_n (pc2 := 40) dX7_addResult_39 rfl rfl 0 rfl (by first | exact rf_ref _ | exact rf_opt _ | exact rf_nul) ?_
    refine pw_dup (pc2 := 41) dX7_addResult_40 rfl (by first | rfl | exact cat_rf _) ?_
    refine pw_get (pc2 := 44) kX7 (k := 4) (by decide) rfl fl_X7_22 ((va_up_ne _ _ (ne_oa hx.1 hx.2)).trans hx.1) rfl dX7_addResult_41 rfl ?_
    refine pw_iconst (pc2 := 45) (v := 1) dX7_addResult_44 rfl (by decide) ?_
    refine pw_iadd (pc2 := 46) dX7_addResult_45 rfl ?_
    refine pw_topE (nI_1 _) ?_
    refine pw_put (pc2 := 49) kX7 (k := 4) (by decide) rfl rfl fl_X7_22 ((va_up_ne _ _ (ne_oa hx.1 hx.2)).trans hx.1) (by first | decide | simp) (by first | rfl | exact nar_rf _ _) (by first | rfl | exact fit_rf _ _) dX7_addResult_46 rfl ?_
    refine pw_vret dX7_addResult_49 rfl ?_
    have c8 := c6
    rw [cmp8 hc] at c8
    exact ⟨rfl, by simp only [arF, arC, if_pos c8]; rfl⟩
  · refine pw_aload_n (pc2 := 10) dX7_addResult_9 rfl rfl 0 rfl (by first | exact rf_ref _ | exact rf_opt _ | exact rf_nul) ?_
    refine pw_callV0 (pc2 := 13) (c_xforget G _ hx hF) cs_X7_25 rfl rfl hx.1 dX7_addResult_10 rfl (by omega) rfl (by first | decide | simp [cat_rf, Value.category]) ?_
    refine pw_aload_n (pc2 := 14) dX7_addResult_13 rfl rfl 0 rfl (by first | exact rf_ref _ | exact rf_opt _ | exact rf_nul) ?_
    refine pw_get (pc2 := 17) kX7 (k := 4) (by decide) rfl fl_X7_22 (va_up_self _ _ _) rfl dX7_addResult_14 rfl ?_
    refine pw_if_lt (tgt := 49) (pc2 := 20) dX7_addResult_17 (by decide) rfl (fun c17 => by exact absurd c17 (by decide)) (fun _ => ?_)
    refine pw_aload_n (pc2 := 21) dX7_addResult_20 rfl rfl 0 rfl (by first | exact rf_ref _ | exact rf_opt _ | exact rf_nul) ?_
    refine pw_get (pc2 := 24) kX7 (k := 4) (by decide) rfl fl_X7_22 (va_up_self _ _ _) rfl dX7_addResult_21 rfl ?_
    refine pw_bipush (pc2 := 26) (v := 8) dX7_addResult_24 rfl (by decide) ?_
    refine pw_icmp_ge (tgt := 49) (pc2 := 29) dX7_addResult_26 (by decide) rfl (fun c26 => by exact absurd c26 (by decide)) (fun _ => ?_)
    refine pw_aload_n (pc2 := 30) dX7_addResult_29 rfl rfl 0 rfl (by first | exact rf_ref _ | exact rf_opt _ | exact rf_nul) ?_
    refine pw_get (pc2 := 33) kX7 (k := 3) (by decide) rfl fl_X7_18 (va_up_self _ _ _) rfl dX7_addResult_30 rfl ?_
    refine pw_aload_n (pc2 := 34) dX7_addResult_33 rfl rfl 0 rfl (by first | exact rf_ref _ | exact rf_opt _ | exact rf_nul) ?_
    refine pw_get (pc2 := 37) kX7 (k := 4) (by decide) rfl fl_X7_22 (va_up_self _ _ _) rfl dX7_addResult_34 rfl ?_
    refine pw_iload_n (pc2 := 38) dX7_addResult_37 rfl rfl 1 rfl ?_
    refine pw_zastN (pc2 := 39) ((va_up_ne _ _ (ne_ao hx.2 hx.1)).trans (va_up_self _ _ _)) (i := 7) (by decide) (by omega) (nar_b hx1) dX7_addResult_38 rfl ?_
    refine pw_aload_n (pc2 := 40) dX7_addResult_39 rfl rfl 0 rfl (by first | exact rf_ref _ | exact rf_opt _ | exact rf_nul) ?_
    refine pw_dup (pc2 := 41) dX7_addResult_40 rfl (by first | rfl | exact cat_rf _) ?_
    refine pw_get (pc2 := 44) kX7 (k := 4) (by decide) rfl fl_X7_22 ((va_up_ne _ _ (ne_oa hx.1 hx.2)).trans (va_up_self _ _ _)) rfl dX7_addResult_41 rfl ?_
    refine pw_iconst (pc2 := 45) (v := 1) dX7_addResult_44 rfl (by decide) ?_
    refine pw_iadd (pc2 := 46) dX7_addResult_45 rfl ?_
    refine pw_put (pc2 := 49) kX7 (k := 4) (by decide) rfl rfl fl_X7_22 ((va_up_ne _ _ (ne_oa hx.1 hx.2)).trans (va_up_self _ _ _)) (by first | decide | simp) (by first | rfl | exact nar_rf _ _) (by first | rfl | exact fit_rf _ _) dX7_addResult_46 rfl ?_
    refine pw_vret dX7_addResult_49 rfl ?_
    have c8 := c6
    rw [cmp8 hc] at c8
    exact ⟨rfl, by rw [up4 _ (ne_ao hx.2 hx.1)]; simp only [arF, arC, if_neg c8]; rfl⟩
set_option maxHeartbeats 4000000 in
set_option maxRecDepth 100000 in
theorem c_xturns (G : hG) (h : hp) {t ar c : Nat} {nu ln fl : Int32} {F : Nat → Int32} (hx : isX h t ar nu ln fl (nI c) F) (hc : c ≤ 8) : PMet G MX7_countTurns 0 0 0 [.ref t] h (det (some (.int (ctN F c))) h) noX := by
  refine PMet.of rfl (Nat.le_of_ble_eq_true rfl) (fun d hd => ?_)
  refine PW.sub (L2 := [(0, Value.ref t)]) [0] rfl ?_
  refine pw_iconst (pc2 := 1) (v := 0) dX7_countTurns_0 rfl (by decide) ?_
  refine pw_istore_n (pc2 := 2) (L2 := [(1, Value.int 0), (0, Value.ref t)]) dX7_countTurns_1 rfl rfl (by decide) rfl ?_
  refine pw_iconst (pc2 := 3) (v := 1) dX7_countTurns_2 rfl (by decide) ?_
  refine pw_istore_n (pc2 := 4) (L2 := [(2, Value.int 1), (1, Value.int 0), (0, Value.ref t)]) dX7_countTurns_3 rfl rfl (by decide) rfl ?_
  have loop : ∀ (k i : Nat) (acc : Int32) (ha : acc = ctN F i) (h1 : 1 ≤ i), i + k = (c - 1 + 1) → PW G MX7_countTurns d noA (E0 G (det (some (.int (ctN F c))) h) noX) 0 0 4 [(2, Value.int (nI i)), (1, Value.int acc), (0, Value.ref t)] [] h := by
    intro k
    induction k with
    | zero =>
      intro i acc ha h1 hik
      have hi9 : i = (c - 1 + 1) := by omega
      refine pw_iload_n (pc2 := 5) dX7_countTurns_4 rfl rfl 0 rfl ?_
      refine pw_aload_n (pc2 := 6) dX7_countTurns_5 rfl rfl 2 rfl (by first | exact rf_ref _ | exact rf_opt _ | exact rf_nul) ?_
      refine pw_get (pc2 := 9) kX7 (k := 4) (by decide) rfl fl_X7_22 hx.1 rfl dX7_countTurns_6 rfl ?_
      refine pw_icmp_ge (tgt := 49) (pc2 := 12) dX7_countTurns_9 (by decide) rfl (fun _ => ?_) (fun c9 => by exact absurd (by first | exact (nI_leI (a := c) (b := i) (by omega) (by omega)).mpr (by omega) | exact fun q => absurd ((nI_leI (a := c) (b := i) (by omega) (by omega)).mp q) (by omega)) c9)
      refine pw_iload_n (pc2 := 50) dX7_countTurns_49 rfl rfl 1 rfl ?_
      refine pw_iret dX7_countTurns_50 rfl (by first | rfl | assumption | simp [narrow]) ?_
      rw [ha, hi9]
      rcases Nat.eq_zero_or_pos c with q | q
      · subst q; exact ⟨by simp [ctN], rfl⟩
      · rw [Nat.sub_add_cancel q]; exact ⟨rfl, rfl⟩
    | succ k ih =>
      intro i acc ha h1 hik
      have hi9 : i < (c - 1 + 1) := by omega
      refine pw_iload_n (pc2 := 5) dX7_countTurns_4 rfl rfl 0 rfl ?_
      refine pw_aload_n (pc2 := 6) dX7_countTurns_5 rfl rfl 2 rfl (by first | exact rf_ref _ | exact rf_opt _ | exact rf_nul) ?_
      refine pw_get (pc2 := 9) kX7 (k := 4) (by decide) rfl fl_X7_22 hx.1 rfl dX7_countTurns_6 rfl ?_
      refine pw_icmp_ge (tgt := 49) (pc2 := 12) dX7_countTurns_9 (by decide) rfl (fun c9 => by exact absurd c9 (by first | exact (nI_leI (a := c) (b := i) (by omega) (by omega)).mpr (by omega) | exact fun q => absurd ((nI_leI (a := c) (b := i) (by omega) (by omega)).mp q) (by omega))) (fun _ => ?_)
      refine pw_iload_n (pc2 := 13) dX7_countTurns_12 rfl rfl 0 rfl ?_
      refine pw_bipush (pc2 := 15) (v := 8) dX7_countTurns_13 rfl (by decide) ?_
      refine pw_icmp_ge (tgt := 49) (pc2 := 18) dX7_countTurns_15 (by decide) rfl (fun c15 => by exact absurd c15 (fun q => absurd ((cmp8' (by omega)).mp q) (by omega))) (fun _ => ?_)
      refine pw_iload_n (pc2 := 19) dX7_countTurns_18 rfl rfl 1 rfl ?_
      refine pw_aload_n (pc2 := 20) dX7_countTurns_19 rfl rfl 2 rfl (by first | exact rf_ref _ | exact rf_opt _ | exact rf_nul) ?_
      refine pw_get (pc2 := 23) kX7 (k := 3) (by decide) rfl fl_X7_18 hx.1 rfl dX7_countTurns_20 rfl ?_
      refine pw_iload_n (pc2 := 24) dX7_countTurns_23 rfl rfl 0 rfl ?_
      refine pw_zaldN (pc2 := 25) hx.2 (i := i) (by first | assumption | omega) (by omega) dX7_countTurns_24 rfl ?_
      refine pw_aload_n (pc2 := 26) dX7_countTurns_25 rfl rfl 2 rfl (by first | exact rf_ref _ | exact rf_opt _ | exact rf_nul) ?_
      refine pw_get (pc2 := 29) kX7 (k := 3) (by decide) rfl fl_X7_18 hx.1 rfl dX7_countTurns_26 rfl ?_
      refine pw_iload_n (pc2 := 30) dX7_countTurns_29 rfl rfl 0 rfl ?_
      refine pw_iconst (pc2 := 31) (v := 1) dX7_countTurns_30 rfl (by decide) ?_
      refine pw_isub (pc2 := 32) dX7_countTurns_31 rfl ?_
      refine pw_topE (nI_sub1 (by omega)) ?_
      refine pw_zaldN (pc2 := 33) hx.2 (i := (i - 1)) (by first | assumption | omega) (by omega) dX7_countTurns_32 rfl ?_
      refine pw_icmp_ne (tgt := 40) (pc2 := 36) dX7_countTurns_33 (by decide) rfl (fun c33 => ?_) (fun c33 => ?_)
      · refine pw_iconst (pc2 := 41) (v := 1) dX7_countTurns_40 rfl (by decide) ?_
        refine pw_iadd (pc2 := 42) dX7_countTurns_41 rfl ?_
        refine pw_topi (fun v1 ev1 => ?_)
        refine pw_istore_n (pc2 := 43) (L2 := [(1, Value.int v1), (2, Value.int (nI i)), (0, Value.ref t)]) dX7_countTurns_42 rfl rfl (by decide) rfl ?_
        refine pw_iinc (pc2 := 46) (v := nI (i + 1)) (L2 := [(2, Value.int (nI (i + 1))), (1, Value.int v1), (0, Value.ref t)]) dX7_countTurns_43 rfl 1 rfl (by show nI _ + 1 = nI _; exact nI_1 _) (by decide) rfl ?_
        refine pw_goto (tgt := 4) dX7_countTurns_46 (by decide) ?_
        refine PW.sub (L2 := [(2, Value.int (nI (i + 1))), (1, Value.int v1), (0, Value.ref t)]) [0, 1, 2] rfl ?_
        refine ih (i + 1) _ ?_ (by omega) (by omega)
        rw [ev1, ha]
        show _ = ctN F i + _
        rw [if_neg (show ¬ i = 0 by omega)]
        first | rw [if_neg c33] | rw [if_pos c33]
      · refine pw_iconst (pc2 := 37) (v := 0) dX7_countTurns_36 rfl (by decide) ?_
        refine pw_goto (tgt := 41) dX7_countTurns_37 (by decide) ?_
        refine pw_iadd (pc2 := 42) dX7_countTurns_41 rfl ?_
        refine pw_topi (fun v3 ev3 => ?_)
        refine pw_istore_n (pc2 := 43) (L2 := [(1, Value.int v3), (2, Value.int (nI i)), (0, Value.ref t)]) dX7_countTurns_42 rfl rfl (by decide) rfl ?_
        refine pw_iinc (pc2 := 46) (v := nI (i + 1)) (L2 := [(2, Value.int (nI (i + 1))), (1, Value.int v3), (0, Value.ref t)]) dX7_countTurns_43 rfl 1 rfl (by show nI _ + 1 = nI _; exact nI_1 _) (by decide) rfl ?_
        refine pw_goto (tgt := 4) dX7_countTurns_46 (by decide) ?_
        refine PW.sub (L2 := [(2, Value.int (nI (i + 1))), (1, Value.int v3), (0, Value.ref t)]) [0, 1, 2] rfl ?_
        refine ih (i + 1) _ ?_ (by omega) (by omega)
        rw [ev3, ha]
        show _ = ctN F i + _
        rw [if_neg (show ¬ i = 0 by omega)]
        first | rw [if_neg c33] | rw [if_pos c33]
  refine PW.sub (L2 := [(2, Value.int 1), (1, Value.int 0), (0, Value.ref t)]) [0, 1, 2] rfl ?_
  exact loop (c - 1) 1 0 (by simp [ctN]) (Nat.le_refl 1) (by omega)
