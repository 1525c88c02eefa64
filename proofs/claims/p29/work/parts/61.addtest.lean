/-! PackageForge: addTest -/
theorem lok_of {G : hG} {h h1 : hp} {A : aT} {σ : sT} {l ed cap n dt i : Nat} {mc : Int32} {F : Nat → Nat} {g : Nat → Option Nat} (hl : isLx h l ed cap n mc F g) (h1' : n = 0 → cap = 0 ∧ ed = G.2.2) (h2 : 0 < n → ed = A dt i ∧ cap = σ.2.1 dt i 0 ∧ g = σ.2.2 dt i ∧ eC cap) (hd : h1 G.2.2 = some hE0) (hn : n ≤ 19) : lOK G h1 ed n cap := by
  unfold lOK
  by_cases h0 : n = 0
  · obtain ⟨a, b⟩ := h1' h0
    exact Or.inr (Or.inl ⟨h0, a, b, hd⟩)
  · obtain ⟨-, -, -, hc⟩ := h2 (Nat.pos_of_ne_zero h0)
    have hle := hl.2.2.1
    rcases hc with rfl | rfl | rfl
    · by_cases e : n = 10
      · exact Or.inr (Or.inr ⟨e.symm, Or.inl e⟩)
      · exact Or.inl (by omega)
    · by_cases e : n = 15
      · exact Or.inr (Or.inr ⟨e.symm, Or.inr e⟩)
      · exact Or.inl (by omega)
    · exact Or.inl (by omega)
set_option maxHeartbeats 4000000 in
set_option maxRecDepth 100000 in
theorem c_addTest (G : hG) (h : hp) {A : aT} {σ : sT} (H : W9 G h A σ) (n ln : Int32) : PMet G MX9_addTest 7 4 59 [.ref (A 0 0), .int n, .int ln] h (fun r h2 => ∃ p, p < npk σ ∧ n = nI p ∧ (1 ≤ ln ∧ ln ≤ 60) ∧ nts σ < 8 ∧ r = some (.int (nI (nts σ))) ∧ ∃ q ar e2 cap2 mc g2, W9 G h2 (tsA A σ q ar e2) (tsS σ (nI p) ln mc e2 cap2 g2) ∧ FR h h2) (fun C h2 => h2 = h ∧ ((C = xIO ∧ ¬ inR n (npk σ)) ∨ (C = xIA ∧ inR n (npk σ) ∧ ¬ (1 ≤ ln ∧ ln ≤ 60)) ∨ (C = xIS ∧ inR n (npk σ) ∧ (1 ≤ ln ∧ ln ≤ 60) ∧ nts σ = 8))) := by
  have hnp := H.iv.1
  have hnt8 := H.iv.2.1
  refine PMet.of (by decide +kernel) (Nat.le_of_ble_eq_true rfl) (fun d hd => ?_)
  refine PW.sub (L2 := [(0, Value.ref (A 0 0)), (1, Value.int n), (2, Value.int ln)]) [0, 1, 2] rfl ?_
  refine pw_aload_n (pc2 := 1) dX9_addTest_0 rfl rfl 0 rfl (by first | exact rf_ref _ | exact rf_opt _ | exact rf_nul) ?_
  refine pw_iload_n (pc2 := 2) dX9_addTest_1 rfl rfl 1 rfl ?_
  refine pw_callV (pc2 := 5) (c_chkP G _ H n) cs_X9_92 rfl rfl H.c0 dX9_addTest_2 rfl (by omega) rfl (by first | decide | simp [cat_rf, Value.category]) (fun r9 h9 q9 => ?_) (fun Y h9 q9 => px_out rfl (⟨q9.2.1, Or.inl ⟨q9.1, q9.2.2⟩⟩))
  obtain ⟨rfl, rfl, hin⟩ := q9
  obtain ⟨p, hpp, rfl⟩ := inR_ex (by omega) hin
  refine pw_iload_n (pc2 := 6) dX9_addTest_5 rfl rfl 2 rfl ?_
  refine pw_iconst (pc2 := 7) (v := 1) dX9_addTest_6 rfl (by decide) ?_
  refine pw_bipush (pc2 := 9) (v := 60) dX9_addTest_7 rfl (by decide) ?_
  refine pw_callSb (pc2 := 12) (c_isWithin G _ ln 1 60) cs_X9_71 rfl dX9_addTest_9 rfl (by omega) rfl (by first | decide | simp [cat_rf, Value.category]) (fun hlen => ?_) (fun hlen => ?_)
  · refine pw_if_ne (tgt := 25) (pc2 := 15) dX9_addTest_12 (by decide) rfl (fun _ => ?_) (fun c12 => by exact absurd c12 (by decide))
    refine pw_aload_n (pc2 := 26) dX9_addTest_25 rfl rfl 0 rfl (by first | exact rf_ref _ | exact rf_opt _ | exact rf_nul) ?_
    refine pw_get (pc2 := 29) kX9 (k := 1) (by decide) rfl fl_X9_16 H.c0 rfl dX9_addTest_26 rfl ?_
    refine pw_callV1 (pc2 := 32) (c_lsize G _ H.lt) cs_X9_44 rfl rfl H.c3 dX9_addTest_29 rfl (by omega) rfl (by first | decide | simp [cat_rf, Value.category]) ?_
    refine pw_bipush (pc2 := 34) (v := 8) dX9_addTest_32 rfl (by decide) ?_
    refine pw_icmp_lt (tgt := 47) (pc2 := 37) dX9_addTest_34 (by decide) rfl (fun c34 => ?_) (fun c34 => ?_)
    · have hnt : nts σ < 8 := (nI_ltI (a := nts σ) (b := 8) (by omega) (by omega)).mp c34
      obtain ⟨cap, g, hl, hz1, hz2⟩ := LI.ex H.2.2.2.1.2.1 (by omega) H.hd H.c3 (fun q => H.c4 q)
      have x0 : xt G h h [] [] := xt.rf (fun x hx => absurd hx List.not_mem_nil)
      refine pw_aload_n (pc2 := 48) dX9_addTest_47 rfl rfl 0 rfl (by first | exact rf_ref _ | exact rf_opt _ | exact rf_nul) ?_
      refine pw_get (pc2 := 51) kX9 (k := 1) (by decide) rfl fl_X9_16 H.c0 rfl dX9_addTest_48 rfl ?_
      refine pw_new (pc2 := 54) (fs := [.int 0, .int 0, .int 0, .null, .int 0]) kX7 cl_X9_158 wi_X7 wn_X7 (by decide +kernel) dX9_addTest_51 rfl (fun q hq gq => ?_)
      obtain ⟨g1, eg1⟩ : ∃ z : hp, z = va_up h q (some (oB 10 [.int 0, .int 0, .int 0, .null, .int 0])) := ⟨_, rfl⟩
      refine PW.heap (h' := g1) eg1.symm ?_
      have f1_A00 : g1 (A 0 0) = some (oB 12 [.ref (A 1 0), .ref (A 3 0), .ref (A 5 0), .ref (A 7 0), .ref (A 13 0), .ref (A 14 0), .int (σ.1 0 0 0), .int (σ.1 0 0 1), .int (σ.1 0 0 2), .int (σ.1 0 0 3)]) := by rw [eg1]; exact (va_up_ne _ _ (ne_nw H.c0 hq)).trans H.c0
      have f1_A30 : g1 (A 3 0) = some (oB 2 [.int (σ.1 3 0 0), .ref (σ.2.1 3 0 0), .int (σ.1 3 0 1)]) := by rw [eg1]; exact (va_up_ne _ _ (ne_nw H.c3 hq)).trans H.c3
      have f1_q : g1 q = some (oB 10 [.int 0, .int 0, .int 0, .null, .int 0]) := by rw [eg1]; exact va_up_self _ _ _
      have x1 : xt G h g1 [q] [] := by rw [eg1]; exact x0.new hq gq
      refine pw_dup (pc2 := 55) dX9_addTest_54 rfl (by first | rfl | exact cat_rf _) ?_
      refine pw_iload_n (pc2 := 56) dX9_addTest_55 rfl rfl 1 rfl ?_
      refine pw_iload_n (pc2 := 57) dX9_addTest_56 rfl rfl 2 rfl ?_
      refine pw_callI (pc2 := 60) (c_xinit G _ f1_q (nI p) ln) cs_X9_160 rfl rfl rfl dX9_addTest_57 rfl (by omega) rfl (by first | decide | simp [cat_rf, Value.category]) (fun r9 h9 q9 => ?_) (fun Y h9 q9 => q9.elim)
      obtain ⟨rfl, ar, y2, z2⟩ := q9
      generalize h9 = g2 at *
      have f2_A00 : g2 (A 0 0) = some (oB 12 [.ref (A 1 0), .ref (A 3 0), .ref (A 5 0), .ref (A 7 0), .ref (A 13 0), .ref (A 14 0), .int (σ.1 0 0 0), .int (σ.1 0 0 1), .int (σ.1 0 0 2), .int (σ.1 0 0 3)]) := y2.keep1 f1_A00 (ne_nw H.c0 hq)
      have f2_A30 : g2 (A 3 0) = some (oB 2 [.int (σ.1 3 0 0), .ref (σ.2.1 3 0 0), .int (σ.1 3 0 1)]) := y2.keep1 f1_A30 (ne_nw H.c3 hq)
      have x2 : xt G h g2 [q, ar] [] := x1.call y2 (by simp)
      refine pw_callV (pc2 := 63) (c_laddE G g2 (hl.kp x2) (cj := 10) rfl ca_PackageForge_Test__Object z2.1 (by decide) (fun i hi => ⟨_, x2.keep (H.c50 hi) List.not_mem_nil⟩) (lok_of (A := A) (σ := σ) hl hz1 hz2 (x2.keep H.hd List.not_mem_nil) (by omega))) cs_X9_59 rfl rfl f2_A30 dX9_addTest_60 rfl (by omega) rfl (by first | decide | simp [cat_rf, Value.category]) (fun r9 h9 q9 => ?_) (fun Y h9 q9 => q9.elim)
      obtain ⟨rfl, e2, cap2, g2, hk, hl2, hs⟩ := q9
      have KK := H.gT hnt x2 ⟨z2.1, z2.2⟩ hl2 hs hk (fun z => (hz1 z).1) (fun z => ⟨(hz2 z).1, (hz2 z).2.2.2⟩)
      have c0' : h9 (A 0 0) = some (oB 12 [.ref (A 1 0), .ref (A 3 0), .ref (A 5 0), .ref (A 7 0), .ref (A 13 0), .ref (A 14 0), .int (σ.1 0 0 0), .int (σ.1 0 0 1), .int (σ.1 0 0 2), .int (σ.1 0 0 3)]) := KK.1.c0
      refine pw_pop (pc2 := 64) dX9_addTest_63 rfl (by first | rfl | exact cat_rf _) ?_
      refine pw_aload_n (pc2 := 65) dX9_addTest_64 rfl rfl 0 rfl (by first | exact rf_ref _ | exact rf_opt _ | exact rf_nul) ?_
      refine pw_get (pc2 := 68) kX9 (k := 1) (by decide) rfl fl_X9_16 c0' rfl dX9_addTest_65 rfl ?_
      refine pw_callV1 (pc2 := 71) (c_lsize G _ hl2.L) cs_X9_44 rfl rfl hl2.1 dX9_addTest_68 rfl (by omega) rfl (by first | decide | simp [cat_rf, Value.category]) ?_
      refine pw_iconst (pc2 := 72) (v := 1) dX9_addTest_71 rfl (by decide) ?_
      refine pw_isub (pc2 := 73) dX9_addTest_72 rfl ?_
      refine pw_topE (nI_sub1 (by omega)) ?_
      refine pw_iret dX9_addTest_73 rfl (by first | rfl | assumption | simp [narrow]) ?_
      exact ⟨p, hpp, rfl, hlen, hnt, by rw [Nat.add_sub_cancel], q, ar, e2, cap2, _, g2, KK.1, KK.2⟩
    · exact pw_throw rfl ts_156 dX9_addTest_37 dX9_addTest_40 dX9_addTest_41 dX9_addTest_43 dX9_addTest_46 (by first | decide | simp [cat_rf, Value.category]) (by exact ⟨rfl, Or.inr (Or.inr ⟨rfl, inR_of (by omega) hpp, hlen, Nat.le_antisymm hnt8 (Nat.not_lt.mp (fun z => c34 ((nI_ltI (a := nts σ) (b := 8) (by omega) (by omega)).mpr z)))⟩)⟩)
  · refine pw_if_ne (tgt := 25) (pc2 := 15) dX9_addTest_12 (by decide) rfl (fun c12 => by exact absurd (by decide) c12) (fun _ => ?_)
    exact pw_throw rfl ts_154 dX9_addTest_15 dX9_addTest_18 dX9_addTest_19 dX9_addTest_21 dX9_addTest_24 (by first | decide | simp [cat_rf, Value.category]) (by exact ⟨rfl, Or.inr (Or.inl ⟨rfl, inR_of (by omega) hpp, hlen⟩)⟩)
