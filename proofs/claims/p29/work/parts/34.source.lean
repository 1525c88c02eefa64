/-! PackageForge$Source, Release -/
def zL : Nat → Int64 := fun _ => 0
def zD : Nat → UInt64 := fun _ => 0
abbrev isS (h : hp) (s nd a b : Nat) (f bd : Int32) (le gr : Nat → Int32) : Prop := h s = some (oB 9 [.int f, .int bd, .ref nd]) ∧ isN h nd a b le gr
theorem xt_needs {G : hG} {h h' : hp} {nd a b : Nat} (hf : frs G h [a, b]) (hN : isN h' nd a b z0 z0) (hs : sm h h' [nd, a, b]) : xt G h h' [a, b] [nd] :=
  xt.of hf hs (fun x hx => by
    simp only [List.cons_append, List.nil_append, List.mem_cons, List.not_mem_nil, or_false] at hx
    rcases hx with rfl | rfl | rfl
    · exact nn hN.1
    · exact nn hN.2.1
    · exact nn hN.2.2.1)
theorem xt_choice {G : hG} {h h' : hp} {c p : Nat} (hf : frs G h [p]) (hN : isC h' c p zN) (hs : sm h h' [c, p]) : xt G h h' [p] [c] :=
  xt.of hf hs (fun x hx => by
    simp only [List.cons_append, List.nil_append, List.mem_cons, List.not_mem_nil, or_false] at hx
    rcases hx with rfl | rfl
    · exact nn hN.1
    · exact nn hN.2)
theorem c_ninit' (G : hG) (h : hp) {nd : Nat} (hn : h nd = some (oB 6 [.null, .null])) : PMet G MX3_init 1 2 12 [.ref nd] h (fun r h' => r = none ∧ ∃ a b : Nat, xt G h h' [a, b] [nd] ∧ isN h' nd a b z0 z0) noX :=
  (c_ninit G h hn).mono (fun r h' ⟨q1, a, b, q2, q3, q4⟩ => ⟨q1, a, b, xt_needs q2 q3 q4, q3⟩) (fun _ _ q => q)
theorem c_cinit' (G : hG) (h : hp) {c : Nat} (hc : h c = some (oB 4 [.null])) : PMet G MX1_init 1 1 6 [.ref c] h (fun r h' => r = none ∧ ∃ p : Nat, xt G h h' [p] [c] ∧ isC h' c p zN) noX :=
  (c_cinit G h hc).mono (fun r h' ⟨q1, p, q2, q3, q4⟩ => ⟨q1, p, xt_choice q2 q3 q4, q3⟩) (fun _ _ q => q)
set_option maxHeartbeats 4000000 in
set_option maxRecDepth 100000 in
theorem c_sinit (G : hG) (h : hp) {s : Nat} (hs : h s = some (oB 9 [.int 0, .int 0, .null])) : PMet G MX6_init 2 3 14 [.ref s] h (fun r h' => r = none ∧ ∃ nd a b : Nat, xt G h h' [nd, a, b] [s] ∧ isS h' s nd a b 0 0 z0 z0) noX := by
  refine PMet.of rfl (Nat.le_of_ble_eq_true rfl) (fun d hd => ?_)
  have x0 : xt G h h [] [s] := xt.rf1 hs
  refine PW.sub (L2 := [(0, Value.ref s)]) [0] rfl ?_
  refine pw_aload_n (pc2 := 1) dX6_init_0 rfl rfl 0 rfl (by first | exact rf_ref _ | exact rf_opt _ | exact rf_nul) ?_
  refine pw_objInit (pc2 := 4) co_X6_1 wo_1 wo_2 dX6_init_1 rfl (by decide) ?_
  refine pw_aload_n (pc2 := 5) dX6_init_4 rfl rfl 0 rfl (by first | exact rf_ref _ | exact rf_opt _ | exact rf_nul) ?_
  refine pw_new (pc2 := 8) (fs := [.null, .null]) kX3 cl_X6_7 wi_X3 wn_X3 (by decide +kernel) dX6_init_5 rfl (fun nd hnd gnd => ?_)
  obtain ⟨g1, eg1⟩ : ∃ z : hp, z = va_up h nd (some (oB 6 [.null, .null])) := ⟨_, rfl⟩
  refine PW.heap (h' := g1) eg1.symm ?_
  have f1_s : g1 s = some (oB 9 [.int 0, .int 0, .null]) := by rw [eg1]; exact (va_up_ne _ _ (ne_nw hs hnd)).trans hs
  have f1_nd : g1 nd = some (oB 6 [.null, .null]) := by rw [eg1]; exact va_up_self _ _ _
  have x1 : xt G h g1 [nd] [s] := by rw [eg1]; exact x0.new hnd gnd
  refine pw_dup (pc2 := 9) dX6_init_8 rfl (by first | rfl | exact cat_rf _) ?_
  refine pw_callI (pc2 := 12) (c_ninit' G _ f1_nd) cs_X6_9 rfl rfl rfl dX6_init_9 rfl (by omega) rfl (by first | decide | simp [cat_rf, Value.category]) (fun r9 h9 q9 => ?_) (fun Y h9 q9 => q9.elim)
  obtain ⟨rfl, a, b, y2, z2⟩ := q9
  generalize h9 = g2 at *
  have f2_s : g2 s = some (oB 9 [.int 0, .int 0, .null]) := y2.keep1 f1_s (ne_nw hs hnd)
  have x2 : xt G h g2 [nd, a, b] [s] := x1.call y2 (by simp)
  refine pw_putF (pc2 := 15) kX6 (k := 2) (by decide) rfl rfl rfl rfl fl_X6_10 f2_s (by first | decide | simp) (by first | rfl | exact nar_rf _ _) (by first | rfl | exact fit_rf _ _) dX6_init_12 rfl ?_
  obtain ⟨g3, eg3⟩ : ∃ z : hp, z = va_up g2 s (some (oB 9 [.int 0, .int 0, .ref nd])) := ⟨_, rfl⟩
  refine PW.heap (h' := g3) eg3.symm ?_
  have f3_nd : g3 nd = some (oB 6 [.ref a, .ref b]) := by rw [eg3]; exact (va_up_ne _ _ ((ne_nw hs hnd)).symm).trans z2.1
  have f3_a : g3 a = some (aI 6 z0) := by rw [eg3]; exact (va_up_ne _ _ ((y2.ne f1_s (by simp))).symm).trans z2.2.1
  have f3_b : g3 b = some (aI 6 z0) := by rw [eg3]; exact (va_up_ne _ _ ((y2.ne f1_s (by simp))).symm).trans z2.2.2.1
  have f3_s : g3 s = some (oB 9 [.int 0, .int 0, .ref nd]) := by rw [eg3]; exact va_up_self _ _ _
  have x3 : xt G h g3 [nd, a, b] [s] := by rw [eg3]; exact x2.wr (by simp)
  refine pw_vret dX6_init_15 rfl ?_
  exact ⟨rfl, nd, a, b, x3, f3_s, f3_nd, f3_a, f3_b, z2.2.2.2⟩
set_option maxHeartbeats 4000000 in
set_option maxRecDepth 100000 in
theorem c_ssame (G : hG) (h : hp) {s nd a b : Nat} {f bd : Int32} {le gr : Nat → Int32} (hs : isS h s nd a b f bd le gr) {s2 nd2 a2 b2 : Nat} {f2 bd2 : Int32} {le2 gr2 : Nat → Int32} (hm : isS h s2 nd2 a2 b2 f2 bd2 le2 gr2) : PMet G MX6_sameAs 1 0 0 [.ref s, .ref s2] h (bR (f = f2 ∧ bd = bd2 ∧ ∀ j, j < 6 → le j = le2 j ∧ gr j = gr2 j) h) noX := by
  refine PMet.of rfl (Nat.le_of_ble_eq_true rfl) (fun d hd => ?_)
  refine PW.sub (L2 := [(0, Value.ref s), (1, Value.ref s2)]) [0, 1] rfl ?_
  refine pw_aload_n (pc2 := 1) dX6_sameAs_0 rfl rfl 0 rfl (by first | exact rf_ref _ | exact rf_opt _ | exact rf_nul) ?_
  refine pw_get (pc2 := 4) kX6 (k := 0) (by decide) rfl fl_X6_16 hs.1 rfl dX6_sameAs_1 rfl ?_
  refine pw_aload_n (pc2 := 5) dX6_sameAs_4 rfl rfl 1 rfl (by first | exact rf_ref _ | exact rf_opt _ | exact rf_nul) ?_
  refine pw_get (pc2 := 8) kX6 (k := 0) (by decide) rfl fl_X6_16 hm.1 rfl dX6_sameAs_5 rfl ?_
  refine pw_icmp_ne (tgt := 40) (pc2 := 11) dX6_sameAs_8 (by decide) rfl (fun c8 => ?_) (fun c8 => ?_)
  · refine pw_iconst (pc2 := 41) (v := 0) dX6_sameAs_40 rfl (by decide) ?_
    refine pw_iret dX6_sameAs_41 rfl (by first | rfl | assumption | simp [narrow]) ?_
    first | exact bR_0 (fun q => c8 q.1) | exact bR_0 (fun q => c19 q.2.1) | exact bR_0 (fun q => q30 q.2.2)
  · refine pw_aload_n (pc2 := 12) dX6_sameAs_11 rfl rfl 0 rfl (by first | exact rf_ref _ | exact rf_opt _ | exact rf_nul) ?_
    refine pw_get (pc2 := 15) kX6 (k := 1) (by decide) rfl fl_X6_20 hs.1 rfl dX6_sameAs_12 rfl ?_
    refine pw_aload_n (pc2 := 16) dX6_sameAs_15 rfl rfl 1 rfl (by first | exact rf_ref _ | exact rf_opt _ | exact rf_nul) ?_
    refine pw_get (pc2 := 19) kX6 (k := 1) (by decide) rfl fl_X6_20 hm.1 rfl dX6_sameAs_16 rfl ?_
    refine pw_icmp_ne (tgt := 40) (pc2 := 22) dX6_sameAs_19 (by decide) rfl (fun c19 => ?_) (fun c19 => ?_)
    · refine pw_iconst (pc2 := 41) (v := 0) dX6_sameAs_40 rfl (by decide) ?_
      refine pw_iret dX6_sameAs_41 rfl (by first | rfl | assumption | simp [narrow]) ?_
      first | exact bR_0 (fun q => c8 q.1) | exact bR_0 (fun q => c19 q.2.1) | exact bR_0 (fun q => q30 q.2.2)
    · refine pw_aload_n (pc2 := 23) dX6_sameAs_22 rfl rfl 0 rfl (by first | exact rf_ref _ | exact rf_opt _ | exact rf_nul) ?_
      refine pw_get (pc2 := 26) kX6 (k := 2) (by decide) rfl fl_X6_10 hs.1 rfl dX6_sameAs_23 rfl ?_
      refine pw_aload_n (pc2 := 27) dX6_sameAs_26 rfl rfl 1 rfl (by first | exact rf_ref _ | exact rf_opt _ | exact rf_nul) ?_
      refine pw_get (pc2 := 30) kX6 (k := 2) (by decide) rfl fl_X6_10 hm.1 rfl dX6_sameAs_27 rfl ?_
      refine pw_callVb (pc2 := 33) (c_nsame G _ hs.2 hm.2) cs_X6_23 rfl rfl hs.2.1 dX6_sameAs_30 rfl (by omega) rfl (by first | decide | simp [cat_rf, Value.category]) (fun q30 => ?_) (fun q30 => ?_)
      · refine pw_if_eq (tgt := 40) (pc2 := 36) dX6_sameAs_33 (by decide) rfl (fun c33 => by exact absurd c33 (by decide)) (fun _ => ?_)
        refine pw_iconst (pc2 := 37) (v := 1) dX6_sameAs_36 rfl (by decide) ?_
        refine pw_goto (tgt := 41) dX6_sameAs_37 (by decide) ?_
        refine pw_iret dX6_sameAs_41 rfl (by first | rfl | assumption | simp [narrow]) ?_
        exact bR_1 (⟨c8, c19, q30⟩)
      · refine pw_if_eq (tgt := 40) (pc2 := 36) dX6_sameAs_33 (by decide) rfl (fun _ => ?_) (fun c33 => by exact absurd (by decide) c33)
        refine pw_iconst (pc2 := 41) (v := 0) dX6_sameAs_40 rfl (by decide) ?_
        refine pw_iret dX6_sameAs_41 rfl (by first | rfl | assumption | simp [narrow]) ?_
        first | exact bR_0 (fun q => c8 q.1) | exact bR_0 (fun q => c19 q.2.1) | exact bR_0 (fun q => q30 q.2.2)
set_option maxHeartbeats 4000000 in
set_option maxRecDepth 100000 in
theorem c_scopy (G : hG) (h : hp) {s nd a b : Nat} {f bd : Int32} {le gr : Nat → Int32} (hs : isS h s nd a b f bd le gr) {s2 nd2 a2 b2 : Nat} {f2 bd2 : Int32} {le2 gr2 : Nat → Int32} (hm : isS h s2 nd2 a2 b2 f2 bd2 le2 gr2) (h1 : a2 ≠ a) (h2 : a2 ≠ b) (h3 : b2 ≠ a) (h4 : b2 ≠ b) (h5 : s2 ≠ s) : PMet G MX6_copyFrom 3 0 0 [.ref s, .ref s2] h (det none (va_up (va_up (va_up h s (some (oB 9 [.int f2, .int bd2, .ref nd]))) a (some (aI 6 le2))) b (some (aI 6 gr2)))) noX := by
  refine PMet.of rfl (Nat.le_of_ble_eq_true rfl) (fun d hd => ?_)
  refine PW.sub (L2 := [(0, Value.ref s), (1, Value.ref s2)]) [0, 1] rfl ?_
  refine pw_aload_n (pc2 := 1) dX6_copyFrom_0 rfl rfl 0 rfl (by first | exact rf_ref _ | exact rf_opt _ | exact rf_nul) ?_
  refine pw_aload_n (pc2 := 2) dX6_copyFrom_1 rfl rfl 1 rfl (by first | exact rf_ref _ | exact rf_opt _ | exact rf_nul) ?_
  refine pw_get (pc2 := 5) kX6 (k := 0) (by decide) rfl fl_X6_16 hm.1 rfl dX6_copyFrom_2 rfl ?_
  refine pw_put (pc2 := 8) kX6 (k := 0) (by decide) rfl rfl fl_X6_16 hs.1 (by first | decide | simp) (by first | rfl | exact nar_rf _ _) (by first | rfl | exact fit_rf _ _) dX6_copyFrom_5 rfl ?_
  refine pw_aload_n (pc2 := 9) dX6_copyFrom_8 rfl rfl 0 rfl (by first | exact rf_ref _ | exact rf_opt _ | exact rf_nul) ?_
  refine pw_aload_n (pc2 := 10) dX6_copyFrom_9 rfl rfl 1 rfl (by first | exact rf_ref _ | exact rf_opt _ | exact rf_nul) ?_
  refine pw_get (pc2 := 13) kX6 (k := 1) (by decide) rfl fl_X6_20 ((va_up_ne _ _ h5).trans hm.1) rfl dX6_copyFrom_10 rfl ?_
  refine pw_put (pc2 := 16) kX6 (k := 1) (by decide) rfl rfl fl_X6_20 (va_up_self _ _ _) (by first | decide | simp) (by first | rfl | exact nar_rf _ _) (by first | rfl | exact fit_rf _ _) dX6_copyFrom_13 rfl ?_
  refine pw_aload_n (pc2 := 17) dX6_copyFrom_16 rfl rfl 0 rfl (by first | exact rf_ref _ | exact rf_opt _ | exact rf_nul) ?_
  refine pw_get (pc2 := 20) kX6 (k := 2) (by decide) rfl fl_X6_10 (va_up_self _ _ _) rfl dX6_copyFrom_17 rfl ?_
  refine pw_aload_n (pc2 := 21) dX6_copyFrom_20 rfl rfl 1 rfl (by first | exact rf_ref _ | exact rf_opt _ | exact rf_nul) ?_
  refine pw_get (pc2 := 24) kX6 (k := 2) (by decide) rfl fl_X6_10 ((va_up_ne _ _ h5).trans ((va_up_ne _ _ h5).trans hm.1)) rfl dX6_copyFrom_21 rfl ?_
  refine pw_callV0 (pc2 := 27) (c_ncopy G _ ⟨((va_up_ne _ _ (ne_oo hs.2.1 hs.1 (by decide))).trans ((va_up_ne _ _ (ne_oo hs.2.1 hs.1 (by decide))).trans hs.2.1)), ((va_up_ne _ _ (ne_ao hs.2.2.1 hs.1)).trans ((va_up_ne _ _ (ne_ao hs.2.2.1 hs.1)).trans hs.2.2.1)), ((va_up_ne _ _ (ne_ao hs.2.2.2.1 hs.1)).trans ((va_up_ne _ _ (ne_ao hs.2.2.2.1 hs.1)).trans hs.2.2.2.1)), hs.2.2.2.2⟩ ⟨((va_up_ne _ _ (ne_oo hm.2.1 hs.1 (by decide))).trans ((va_up_ne _ _ (ne_oo hm.2.1 hs.1 (by decide))).trans hm.2.1)), ((va_up_ne _ _ (ne_ao hm.2.2.1 hs.1)).trans ((va_up_ne _ _ (ne_ao hm.2.2.1 hs.1)).trans hm.2.2.1)), ((va_up_ne _ _ (ne_ao hm.2.2.2.1 hs.1)).trans ((va_up_ne _ _ (ne_ao hm.2.2.2.1 hs.1)).trans hm.2.2.2.1)), hm.2.2.2.2⟩ h1 h2 h3 h4) cs_X6_27 rfl rfl ((va_up_ne _ _ (ne_oo hs.2.1 hs.1 (by decide))).trans ((va_up_ne _ _ (ne_oo hs.2.1 hs.1 (by decide))).trans hs.2.1)) dX6_copyFrom_24 rfl (by omega) rfl (by first | decide | simp [cat_rf, Value.category]) ?_
  refine pw_vret dX6_copyFrom_27 rfl ?_
  exact ⟨rfl, by rw [up_up]; rfl⟩
