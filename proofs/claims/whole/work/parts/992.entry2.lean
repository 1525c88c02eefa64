/-! the law's entry: what it makes -/
set_option maxHeartbeats 8000000 in
set_option maxRecDepth 100000 in
theorem law_entry {G : hG} {sc Ln d : Nat} {xs : Nat → Int32} (hd : 20 ≤ d) (hL : Ln ≤ 2560) {h : hp} (hG : h G.2.2 = some hE0) : PW G ML_law d (psX sc Ln xs) EL 30000 300000 0 [(0, Value.ref sc)] [] h := by
  refine PW.widen (kc' := 29000 + 1) (ks' := 290000 + 10) (Nat.le_of_ble_eq_true rfl) (Nat.le_of_ble_eq_true rfl) ?_
  refine pw_new (kc := 29000) (ks := 290000) (pc2 := 3) (fs := [.null, .null, .null, .null, .null, .null, .int 0, .int 0, .int 0, .int 0]) kX9 cl_L_8 wi_X9 wn_X9 (by decide +kernel) dL_law_0 rfl (fun x hx gx => ?_)
  obtain ⟨h1, eh1⟩ : ∃ z : Nat → Option hE, z = va_up h x (some (oB 12 [.null, .null, .null, .null, .null, .null, .int 0, .int 0, .int 0, .int 0])) := ⟨_, rfl⟩
  refine PW.heap (h' := h1) eh1.symm ?_
  have hx1 : h1 x = some (oB 12 [.null, .null, .null, .null, .null, .null, .int 0, .int 0, .int 0, .int 0]) := by rw [eh1]; exact va_up_self _ _ _
  have hG1 : h1 G.2.2 = some hE0 := by rw [eh1]; exact (va_up_ne _ _ gx.symm).trans hG
  refine pw_dup (pc2 := 4) dL_law_3 rfl (by first | rfl | exact cat_rf _) ?_
  refine PW.widen (kc' := 28000 + 11) (ks' := 280000 + 39) (Nat.le_of_ble_eq_true rfl) (Nat.le_of_ble_eq_true rfl) ?_
  refine pw_callI (kc := 28000) (ks := 280000) (pc2 := 7) (c_finit G _ hx1) cs_L_106 rfl rfl rfl dL_law_4 rfl (by omega) rfl (by first | decide | simp [cat_rf, Value.category]) (fun r9 h2 q9 => ?_) (fun Y h9 q9 => q9.elim)
  obtain ⟨rfl, l1, l2, l3, cc, f, fp, w, wp, tk, bu, fr, X, hx2, ⟨y1, y2, y3⟩, ⟨y4, y5, y6, y7⟩, y8, y9⟩ := q9
  have hG2 : h2 G.2.2 = some hE0 := X.keep1 hG1 gx.symm
  refine pw_astore_n (pc2 := 8) (L2 := [(1, Value.ref x), (0, Value.ref sc)]) dL_law_7 rfl rfl (by decide) (by first | exact rf_ref _ | exact rf_opt _ | exact rf_nul) rfl ?_
  refine PW.widen (kc' := 27000 + 1) (ks' := 270000 + 38) (Nat.le_of_ble_eq_true rfl) (Nat.le_of_ble_eq_true rfl) ?_
  refine pw_new (kc := 27000) (ks := 270000) (pc2 := 11) (fs := [.null, .null, .null, .null, .null, .null, .null, .null, .null, .null, .null, .null, .null, .null, .null, .null, .int 0, .null, .null, .null, .null, .null, .null, .null, .int 0, .null, .null, .null, .null, .null, .int 0, .int 0, .null, .int 0, .int 0, .int 0, .null, .int 0]) kX10 cl_L_107 wi_X10 wn_X10 (by decide +kernel) dL_law_8 rfl (fun m hm gm => ?_)
  obtain ⟨h3, eh3⟩ : ∃ z : Nat → Option hE, z = va_up h2 m (some (oB 13 [.null, .null, .null, .null, .null, .null, .null, .null, .null, .null, .null, .null, .null, .null, .null, .null, .int 0, .null, .null, .null, .null, .null, .null, .null, .int 0, .null, .null, .null, .null, .null, .int 0, .int 0, .null, .int 0, .int 0, .int 0, .null, .int 0])) := ⟨_, rfl⟩
  refine PW.heap (h' := h3) eh3.symm ?_
  have hm3 : h3 m = some (oB 13 [.null, .null, .null, .null, .null, .null, .null, .null, .null, .null, .null, .null, .null, .null, .null, .null, .int 0, .null, .null, .null, .null, .null, .null, .null, .int 0, .null, .null, .null, .null, .null, .int 0, .int 0, .null, .int 0, .int 0, .int 0, .null, .int 0]) := by rw [eh3]; exact va_up_self _ _ _
  have k3 : ∀ y c, h2 y = some c → h3 y = some c ∧ y ≠ m := fun y c e => by
    have hne : y ≠ m := fun z => by rw [z, hm] at e; cases e
    exact ⟨by rw [eh3]; exact (va_up_ne _ _ hne).trans e, hne⟩
  refine pw_dup (pc2 := 12) dL_law_11 rfl (by first | rfl | exact cat_rf _) ?_
  refine PW.widen (kc' := 26000 + 134) (ks' := 260000 + 925) (Nat.le_of_ble_eq_true rfl) (Nat.le_of_ble_eq_true rfl) ?_
  refine pw_callI (kc := 26000) (ks := 260000) (pc2 := 15) (c_minit G _ hm3) cs_L_109 rfl rfl rfl dL_law_12 rfl (by omega) rfl (by first | decide | simp [cat_rf, Value.category]) (fun r9 h4 q9 => ?_) (fun Y h9 q9 => q9.elim)
  obtain ⟨rfl, A, hA, hI, hF, hm4⟩ := q9
  refine pw_astore_n (pc2 := 16) (L2 := [(2, Value.ref m), (1, Value.ref x), (0, Value.ref sc)]) dL_law_15 rfl rfl (by decide) (by first | exact rf_ref _ | exact rf_opt _ | exact rf_nul) rfl ?_
  refine pw_iconst (pc2 := 17) (v := 1) dL_law_16 rfl (by decide) ?_
  refine PW.widen (kc' := 25000 + 1) (ks' := 250000 + 1) (Nat.le_of_ble_eq_true rfl) (Nat.le_of_ble_eq_true rfl) ?_
  refine pw_newarr (kc := 25000) (ks := 250000) (pc2 := 19) (atype := .long) (a0 := (1, .inr (.inl (fun _ => 0)))) 2 rfl rfl wa_1299 (fun _ => rfl) (by decide) (by decide) (by decide) dL_law_17 rfl (fun o ho go => ?_)
  obtain ⟨h5, eh5⟩ : ∃ z : Nat → Option hE, z = va_up h4 o (some (aL 1 (fun _ => 0))) := ⟨_, rfl⟩
  refine PW.heap (h' := h5) eh5.symm ?_
  have ho5 : h5 o = some (aL 1 (fun _ => 0)) := by rw [eh5]; exact va_up_self _ _ _
  have k5 : ∀ y c, h4 y = some c → h5 y = some c := fun y c e => by rw [eh5]; exact (va_up_ne _ _ (fun z => by rw [z, ho] at e; cases e)).trans e
  refine pw_astore_n (pc2 := 20) (L2 := [(3, Value.ref o), (2, Value.ref m), (1, Value.ref x), (0, Value.ref sc)]) dL_law_19 rfl rfl (by decide) (by first | exact rf_ref _ | exact rf_opt _ | exact rf_nul) rfl ?_
  refine pw_iconst (pc2 := 21) (v := 1) dL_law_20 rfl (by decide) ?_
  refine PW.widen (kc' := 24000 + 1) (ks' := 240000 + 1) (Nat.le_of_ble_eq_true rfl) (Nat.le_of_ble_eq_true rfl) ?_
  refine pw_newarr (kc := 24000) (ks := 240000) (pc2 := 23) (atype := .double) (a0 := (1, .inr (.inr (.inr (.inl (fun _ => 0)))))) 3 rfl rfl wa_1300 (fun _ => rfl) (by decide) (by decide) (by decide) dL_law_21 rfl (fun oD hoD goD => ?_)
  obtain ⟨h6, eh6⟩ : ∃ z : Nat → Option hE, z = va_up h5 oD (some (aD 1 (fun _ => 0))) := ⟨_, rfl⟩
  refine PW.heap (h' := h6) eh6.symm ?_
  have hoD6 : h6 oD = some (aD 1 (fun _ => 0)) := by rw [eh6]; exact va_up_self _ _ _
  have k6 : ∀ y c, h5 y = some c → h6 y = some c := fun y c e => by rw [eh6]; exact (va_up_ne _ _ (fun z => by rw [z, hoD] at e; cases e)).trans e
  refine pw_astore (pc2 := 25) (L2 := [(4, Value.ref oD), (3, Value.ref o), (2, Value.ref m), (1, Value.ref x), (0, Value.ref sc)]) dL_law_23 rfl (by decide) (by first | exact rf_ref _ | exact rf_opt _ | exact rf_nul) rfl ?_
  refine pw_iconst (pc2 := 26) (v := 0) dL_law_25 rfl (by decide) ?_
  refine pw_istore (pc2 := 28) (L2 := [(5, Value.int 0), (4, Value.ref oD), (3, Value.ref o), (2, Value.ref m), (1, Value.ref x), (0, Value.ref sc)]) dL_law_26 rfl (by decide) rfl ?_
  have kA : ∀ y c, h2 y = some c → h6 y = some c := fun y c e => k6 y c (k5 y c (hF y c (k3 y c e).1 (k3 y c e).2))
  have hN : ([x, l1, l2, l3, cc, f, fp, w, wp, tk, bu, fr] : List Nat).Nodup := List.nodup_cons.mpr ⟨fun z => (by have q := (X.2.1 x z).1; rw [hx1] at q; cases q), X.1⟩
  have gen : ∀ y ∈ ([x, l1, l2, l3, cc, f, fp, w, wp, tk, bu, fr] : List Nat), ∀ c, h2 y = some c → h6 y = some c ∧ h3 y ≠ none ∧ y ≠ G.2.2 ∧ y ≠ m := fun y hy c e => ⟨kA y c e, fun z => (by rw [(k3 y c e).1] at z; cases z), (by rcases List.mem_cons.mp hy with rfl | hy2; exact gx; exact (X.2.1 y hy2).2), (k3 y c e).2⟩
  have hW : W9 G h6 (A0 [x, l1, l2, l3, cc, f, fp, w, wp, tk, bu, fr] m A) (s0 G.2.2) := by
    refine W90 (h3 := h3) hN rfl (kA _ _ hG2) (fun t h1 h2' h3' => ?_) (k6 _ _ (k5 _ _ hm4)) (by rw [hm3]; exact fun z => by cases z) gm (fun t i a b => ?_) (fun t i u j a b c d e9 => hI t i u j a b c d e9)
    · rcases (by omega : t = 0 ∨ t = 1 ∨ t = 3 ∨ t = 5 ∨ t = 7 ∨ t = 8 ∨ t = 9 ∨ t = 10 ∨ t = 11 ∨ t = 12 ∨ t = 13 ∨ t = 14) with rfl | rfl | rfl | rfl | rfl | rfl | rfl | rfl | rfl | rfl | rfl | rfl
      · exact gen x (by simp) _ hx2
      · exact gen l1 (by simp) _ y1
      · exact gen l2 (by simp) _ y2
      · exact gen l3 (by simp) _ y3
      · exact gen cc (by simp) _ y4
      · exact gen f (by simp) _ y5.1
      · exact gen fp (by simp) _ y5.2
      · exact gen w (by simp) _ y6.1
      · exact gen wp (by simp) _ y6.2
      · exact gen tk (by simp) _ y7
      · exact gen bu (by simp) _ y8
      · exact gen fr (by simp) _ y9
    · obtain ⟨q1, q2, q3⟩ := hA t i a b
      exact ⟨k6 _ _ (k5 _ _ q1), q2, q3⟩
  have hINV : INV G h6 (A0 [x, l1, l2, l3, cc, f, fp, w, wp, tk, bu, fr] m A) (s0 G.2.2) (fun _ => 0) o oD := ⟨hW, REL0, ⟨_, k6 _ _ ho5⟩, ⟨_, hoD6⟩⟩
  refine PW.sub (L2 := [(0, Value.ref sc), (1, Value.ref x), (2, Value.ref m), (3, Value.ref o), (4, Value.ref oD), (5, Value.int (nI (5 * 0)))]) [5, 4, 3, 2, 1, 0] rfl ?_
  refine PW.widen (kc' := 513 * 40) (ks' := 513 * 400) (Nat.le_of_ble_eq_true rfl) (Nat.le_of_ble_eq_true rfl) ?_
  exact law_loop hd hL 513 0 h6 (A0 [x, l1, l2, l3, cc, f, fp, w, wp, tk, bu, fr] m A) (s0 G.2.2) (fun _ => 0) rfl hINV
