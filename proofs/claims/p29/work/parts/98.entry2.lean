/-! the law's entry: what it makes -/
set_option maxHeartbeats 8000000 in
set_option maxRecDepth 100000 in
theorem law_entry {G : hG} {sc Ln d : Nat} {xs : Nat → Int32} (hd : 20 ≤ d) (hLn : Ln ≤ 260) {h : hp} (hG : h G.2.2 = some hE0) : PW G ML_law d (psX sc Ln xs) EL 100000 600000 0 [(0, Value.ref sc)] [] h := by
  refine PW.widen (kc' := 99000 + 1) (ks' := 590000 + 10) (Nat.le_of_ble_eq_true rfl) (Nat.le_of_ble_eq_true rfl) ?_
  refine pw_new (kc := 99000) (ks := 590000) (pc2 := 3) (fs := [.null, .null, .null, .null, .null, .null, .int 0, .int 0, .int 0, .int 0]) kX9 cl_L_8 wi_X9 wn_X9 (by decide +kernel) dL_law_0 rfl (fun x hx gx => ?_)
  obtain ⟨h1, eh1⟩ : ∃ z : Nat → Option hE, z = va_up h x (some (oB 12 [.null, .null, .null, .null, .null, .null, .int 0, .int 0, .int 0, .int 0])) := ⟨_, rfl⟩
  refine PW.heap (h' := h1) eh1.symm ?_
  have hx1 : h1 x = some (oB 12 [.null, .null, .null, .null, .null, .null, .int 0, .int 0, .int 0, .int 0]) := by rw [eh1]; exact va_up_self _ _ _
  have hG1 : h1 G.2.2 = some hE0 := by rw [eh1]; exact (va_up_ne _ _ gx.symm).trans hG
  refine pw_dup (pc2 := 4) dL_law_3 rfl (by first | rfl | exact cat_rf _) ?_
  refine PW.widen (kc' := 98000 + 11) (ks' := 580000 + 39) (Nat.le_of_ble_eq_true rfl) (Nat.le_of_ble_eq_true rfl) ?_
  refine pw_callI (kc := 98000) (ks := 580000) (pc2 := 7) (c_finit G _ hx1) cs_L_159 rfl rfl rfl dL_law_4 rfl (by omega) rfl (by first | decide | simp [cat_rf, Value.category]) (fun r9 h2 q9 => ?_) (fun Y h9 q9 => q9.elim)
  obtain ⟨rfl, l1, l2, l3, cc, f, fp, w, wp, tk, bu, fr, X, hx2, ⟨y1, y2, y3⟩, ⟨y4, y5, y6, y7⟩, y8, y9⟩ := q9
  have hG2 : h2 G.2.2 = some hE0 := X.keep1 hG1 gx.symm
  refine pw_astore_n (pc2 := 8) (L2 := [(1, Value.ref x), (0, Value.ref sc)]) dL_law_7 rfl rfl (by decide) (by first | exact rf_ref _ | exact rf_opt _ | exact rf_nul) rfl ?_
  refine pw_bipush (pc2 := 10) (v := 20) dL_law_8 rfl (by decide) ?_
  refine pw_iconst (pc2 := 11) (v := 3) dL_law_10 rfl (by decide) ?_
  refine PW.widen (kc' := 97000 + 21) (ks' := 570000 + 80) (Nat.le_of_ble_eq_true rfl) (Nat.le_of_ble_eq_true rfl) ?_
  refine pw_mna (kc := 97000) (ks := 570000) (pc2 := 15) (ty := .int) (N' := 20) (K' := 3) (z := (3, .inl (fun _ => 0))) (cN := 21) (sN := 80) 6 0 rfl rfl (fun U c hc => hc) (fun U hU => hU.2.2.1.2.2.1) cl_L_160 wa_95 (by decide) (by decide) (by decide) (by decide) (by decide) (by decide) (by decide) rfl rfl (fun c => rfl) rfl rfl dL_law_11 rfl (fun m r hm gm hr hi => ?_)
  obtain ⟨h3, eh3⟩ : ∃ z : Nat → Option hE, z = upR h2 m (aR (.array .int) 20 (fun i => if i < 20 then some (r i) else none)) 20 r (.inl (.int, (3, .inl (fun _ => 0)))) := ⟨_, rfl⟩
  refine PW.heap (h' := h3) eh3.symm ?_
  have k3 : ∀ y c, h2 y = some c → h3 y = some c := fun y c e => by
    rw [eh3]
    exact (upR_o (fun z => by rw [z, hm] at e; cases e) (fun i hi2 z => by rw [← z, (hr i hi2).1] at e; cases e)).trans e
  refine pw_astore_n (pc2 := 16) (L2 := [(2, Value.ref m), (1, Value.ref x), (0, Value.ref sc)]) dL_law_15 rfl rfl (by decide) (by first | exact rf_ref _ | exact rf_opt _ | exact rf_nul) rfl ?_
  refine pw_iconst (pc2 := 17) (v := 0) dL_law_16 rfl (by decide) ?_
  refine pw_istore_n (pc2 := 18) (L2 := [(3, Value.int 0), (2, Value.ref m), (1, Value.ref x), (0, Value.ref sc)]) dL_law_17 rfl rfl (by decide) rfl ?_
  refine pw_aload_n (pc2 := 19) dL_law_18 rfl rfl 3 rfl (by first | exact rf_ref _ | exact rf_opt _ | exact rf_nul) ?_
  refine pw_iconst (pc2 := 20) (v := 0) dL_law_19 rfl (by decide) ?_
  refine PW.widen (kc' := 97000 + 0) (ks' := 570000 + 0) (Nat.le_of_ble_eq_true rfl) (Nat.le_of_ble_eq_true rfl) ?_
  refine pw_callSX (kc := 97000) (ks := 570000) (pc2 := 23) (c_at G _ hLn (k := 0) (by omega)) rfl cs_L_162 rfl dL_law_20 rfl (by omega) rfl (by first | decide | simp [cat_rf, Value.category]) (fun r9 h9 q9 => ?_)
  obtain ⟨rfl, v9, rfl⟩ := q9
  refine pw_bipush (pc2 := 25) (v := 56) dL_law_23 rfl (by decide) ?_
  refine PW.widen (kc' := 97000 + 0) (ks' := 570000 + 0) (Nat.le_of_ble_eq_true rfl) (Nat.le_of_ble_eq_true rfl) ?_
  refine pw_callS (kc := 97000) (ks := 570000) (pc2 := 28) (c_some G _ v9 (n := 56) (by omega) (by omega)) cs_L_166 rfl dL_law_25 rfl (by omega) rfl (by first | decide | simp [cat_rf, Value.category]) (fun r9 h9 q9 => ?_) (fun Y h9 q9 => q9.elim)
  obtain ⟨rfl, c, hc, rfl⟩ := q9
  refine pw_istore (pc2 := 30) (L2 := [(4, Value.int (nI c)), (3, Value.int 0), (2, Value.ref m), (1, Value.ref x), (0, Value.ref sc)]) dL_law_28 rfl (by decide) rfl ?_
  refine pw_iconst (pc2 := 31) (v := 0) dL_law_30 rfl (by decide) ?_
  refine pw_istore (pc2 := 33) (L2 := [(5, Value.int 0), (4, Value.int (nI c)), (3, Value.int 0), (2, Value.ref m), (1, Value.ref x), (0, Value.ref sc)]) dL_law_31 rfl (by decide) rfl ?_
  have hN : ([x, l1, l2, l3, cc, f, fp, w, wp, tk, bu, fr] : List Nat).Nodup := List.nodup_cons.mpr ⟨fun z => (by have q := (X.2.1 x z).1; rw [hx1] at q; cases q), X.1⟩
  have gen : ∀ y ∈ ([x, l1, l2, l3, cc, f, fp, w, wp, tk, bu, fr] : List Nat), ∀ c, h2 y = some c → h9 y = some c ∧ h2 y ≠ none ∧ y ≠ G.2.2 := fun y hy c e => ⟨k3 y c e, fun z => (by rw [e] at z; cases z), (by rcases List.mem_cons.mp hy with rfl | hy2; exact gx; exact (X.2.1 y hy2).2)⟩
  have hW : W9 G h9 (A0 [x, l1, l2, l3, cc, f, fp, w, wp, tk, bu, fr] m r) (s0 G.2.2) := by
    refine W90 (h3 := h2) hN rfl (k3 _ _ hG2) (fun t h1 h2' h3' => ?_) (by rw [eh3]; exact upR_q) hm gm (fun i hi2 => ⟨by rw [eh3]; exact upR_r hi2 (hr i hi2).2.2, (hr i hi2).1, (hr i hi2).2.1, (hr i hi2).2.2⟩) hi
    · rcases (by omega : t = 0 ∨ t = 1 ∨ t = 3 ∨ t = 5 ∨ t = 7 ∨ t = 8 ∨ t = 9 ∨ t = 10 ∨ t = 11 ∨ t = 12 ∨ t = 13 ∨ t = 14) with rfl | rfl | rfl | rfl | rfl | rfl | rfl | rfl | rfl | rfl | rfl | rfl
      · exact gen x (by simp) _ hx2
      · exact gen l1 (by simp) _ y1
      · exact gen l2 (by simp) _ y2
      · exact gen l3 (by simp) _ y3
      · exact gen cc (by simp) _ y4
      · exact gen f (by simp) _ y5.1
      · exact gen fp (by simp) _ y5.2
      · exact gen w (by simp) _ y6.1
      · exact gen wp (by simp) _ y6.2
      · exact gen tk (by simp) _ y7
      · exact gen bu (by simp) _ y8
      · exact gen fr (by simp) _ y9
  refine PW.sub (L2 := [(0, Value.ref sc), (1, Value.ref x), (2, Value.ref m), (3, Value.int (nI 0)), (4, Value.int (nI c)), (5, Value.int (nI 0))]) [5, 4, 3, 2, 1, 0] rfl ?_
  refine PW.widen (kc' := c * 1400 + 1500) (ks' := c * 8400 + 9000) (by omega) (by omega) ?_
  exact law_loop hd hLn (by omega) c 0 h9 (A0 [x, l1, l2, l3, cc, f, fp, w, wp, tk, bu, fr] m r) (s0 G.2.2) (fun _ => 0) (by omega) hW.ws J0 JD0
