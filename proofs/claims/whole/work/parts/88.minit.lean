/-! the reference's constructor -/
theorem NW.one' {G : hG} {h0 h g : hp} {x : Nat} {T : List Nat} {A : aT} {B : Nat → Nat → hE} (H : NW G h0 h x T A B) {c0 c1 : hE} (hx0 : h0 x = some c0) (hx : h x = some c1) (t : Nat) {q : Nat} {c : hE} (eg : g = va_up h q (some c)) (hq : h q = none) (hqd : q ≠ G.2.2) (ht : t ∉ T) (hv : ∀ i, vd sZ t i → i = 0) : NW G h0 g x (t :: T) (up1 A t q) (up1 B t c) ∧ g x = some c1 := by
  subst eg
  exact ⟨H.one hx0 hx t hq hqd ht hv, (va_up_ne _ _ (fun e => by rw [e, hq] at hx; cases hx)).trans hx⟩
theorem NW.put' {G : hG} {h0 h g : hp} {x : Nat} {T : List Nat} {A : aT} {B : Nat → Nat → hE} (H : NW G h0 h x T A B) {c0 : hE} (hx0 : h0 x = some c0) {c : hE} (eg : g = va_up h x (some c)) : NW G h0 g x T A B ∧ g x = some c := by
  subst eg
  exact ⟨H.put hx0, va_up_self _ _ _⟩
theorem NW.rows' {G : hG} {h0 h g : hp} {x : Nat} {T : List Nat} {A : aT} {B : Nat → Nat → hE} (H : NW G h0 h x T A B) {c0 c1 : hE} (hx0 : h0 x = some c0) (hx : h x = some c1) (t s : Nat) {q N : Nat} {r : Nat → Nat} {eo ei : hE} (eg : g = upR h q eo N r ei) (hq : h q = none) (hqd : q ≠ G.2.2) (hr : ∀ i, i < N → h (r i) = none ∧ r i ≠ G.2.2 ∧ r i ≠ q) (hinj : ∀ i j, i < N → j < N → r i = r j → i = j) (ht : t ∉ T) (hs : s ∉ T) (hts : s ≠ t) (hv : ∀ i, vd sZ t i → i = 0) (hvs : ∀ i, vd sZ s i → i < N) : NW G h0 g x (t :: s :: T) (up2 A t s q r) (up2 B t s eo (fun _ => ei)) ∧ g x = some c1 := by
  subst eg
  exact ⟨H.rows hx0 hx t s hq hqd hr hinj ht hs hts hv hvs, (upR_o (fun e => by rw [e, hq] at hx; cases hx) (fun i hi e => by rw [← e, (hr i hi).1] at hx; cases hx)).trans hx⟩
theorem vd_mem {t i : Nat} (h1 : 61 ≤ t) (h2 : vd sZ t i) : t ∈ [90, 89, 88, 87, 100, 86, 85, 84, 83, 82, 99, 81, 98, 80, 97, 79, 78, 77, 76, 96, 75, 95, 74, 73, 72, 94, 71, 70, 93, 69, 68, 67, 66, 65, 92, 64, 91, 63, 62, 61] := by
  unfold vd at h2
  split at h2 <;> first | omega | exact h2.elim | decide
set_option maxHeartbeats 4000000 in
set_option maxRecDepth 100000 in
theorem c_minit (G : hG) (h : hp) {x : Nat} (hx : h x = some (oB 13 [.null, .null, .null, .null, .null, .null, .null, .null, .null, .null, .null, .null, .null, .null, .null, .null, .int 0, .null, .null, .null, .null, .null, .null, .null, .int 0, .null, .null, .null, .null, .null, .int 0, .int 0, .null, .int 0, .int 0, .int 0, .null, .int 0])) : PMet G MX10_init 1 134 925 [.ref x] h (fun r h' => r = none ∧ ∃ A : aT, (∀ t i, 61 ≤ t → vd sZ t i → h' (A t i) = some (CB A z0 (fun _ => 0) zN t i) ∧ h (A t i) = none ∧ A t i ≠ G.2.2) ∧ (∀ t i u j, 61 ≤ t → 61 ≤ u → vd sZ t i → vd sZ u j → A t i = A u j → t = u ∧ i = j) ∧ (∀ y c, h y = some c → y ≠ x → h' y = some c) ∧ h' x = some (oB 13 [.ref (A 61 0), .ref (A 62 0), .ref (A 63 0), .ref (A 64 0), .ref (A 65 0), .ref (A 66 0), .ref (A 67 0), .ref (A 68 0), .ref (A 69 0), .ref (A 70 0), .ref (A 71 0), .ref (A 72 0), .ref (A 73 0), .ref (A 74 0), .ref (A 75 0), .ref (A 76 0), .int 0, .ref (A 77 0), .ref (A 78 0), .ref (A 79 0), .ref (A 80 0), .ref (A 81 0), .ref (A 82 0), .ref (A 83 0), .int 0, .ref (A 84 0), .ref (A 85 0), .ref (A 86 0), .ref (A 87 0), .ref (A 88 0), .int 0, .int 1, .ref (A 89 0), .int 0, .int 0, .int 0, .ref (A 90 0), .int 0])) noX := by
  refine PMet.of (by decide +kernel) (Nat.le_of_ble_eq_true rfl) (fun d hd => ?_)
  have N0 : NW G h h x [] (fun _ _ => 0) (fun _ _ => hE0) := NW.nil hx
  refine PW.sub (L2 := [(0, Value.ref x)]) [0] rfl ?_
  refine pw_aload_n (pc2 := 1) dX10_init_0 rfl rfl 0 rfl (by first | exact rf_ref _ | exact rf_opt _ | exact rf_nul) ?_
  refine pw_objInit (pc2 := 4) co_X10_1 wo_1 wo_2 dX10_init_1 rfl (by decide) ?_
  refine pw_aload_n (pc2 := 5) dX10_init_4 rfl rfl 0 rfl (by first | exact rf_ref _ | exact rf_opt _ | exact rf_nul) ?_
  refine pw_bipush (pc2 := 7) (v := 6) dX10_init_5 rfl (by decide) ?_
  refine pw_newarr (pc2 := 9) (atype := .int) (a0 := (6, .inl (fun _ => 0))) 0 rfl rfl wa_95 (fun _ => rfl) (by decide) (by decide) (by decide) dX10_init_7 rfl (fun q61 hq1 gq1 => ?_)
  obtain ⟨g1, eg1⟩ : ∃ z : Nat → Option hE, z = va_up h q61 (some (aI 6 z0)) := ⟨_, rfl⟩
  refine PW.heap (h' := g1) eg1.symm ?_
  obtain ⟨N1, f1⟩ := N0.one' hx hx 61 eg1 hq1 gq1 (by decide) (fun i hi => hi)
  clear hq1 gq1
  refine pw_putF (pc2 := 12) kX10 (k := 0) (by decide) rfl rfl rfl rfl fl_X10_9 f1 (by first | decide | simp) (by first | rfl | exact nar_rf _ _) (by first | rfl | exact fit_rf _ _) dX10_init_9 rfl ?_
  obtain ⟨g2, eg2⟩ : ∃ z : Nat → Option hE, z = va_up g1 x (some (oB 13 [.ref q61, .null, .null, .null, .null, .null, .null, .null, .null, .null, .null, .null, .null, .null, .null, .null, .int 0, .null, .null, .null, .null, .null, .null, .null, .int 0, .null, .null, .null, .null, .null, .int 0, .int 0, .null, .int 0, .int 0, .int 0, .null, .int 0])) := ⟨_, rfl⟩
  refine PW.heap (h' := g2) eg2.symm ?_
  obtain ⟨N2, f2⟩ := N1.put' hx eg2
  refine pw_aload_n (pc2 := 13) dX10_init_12 rfl rfl 0 rfl (by first | exact rf_ref _ | exact rf_opt _ | exact rf_nul) ?_
  refine pw_bipush (pc2 := 15) (v := 6) dX10_init_13 rfl (by decide) ?_
  refine pw_newarr (pc2 := 17) (atype := .int) (a0 := (6, .inl (fun _ => 0))) 0 rfl rfl wa_95 (fun _ => rfl) (by decide) (by decide) (by decide) dX10_init_15 rfl (fun q62 hq3 gq3 => ?_)
  obtain ⟨g3, eg3⟩ : ∃ z : Nat → Option hE, z = va_up g2 q62 (some (aI 6 z0)) := ⟨_, rfl⟩
  refine PW.heap (h' := g3) eg3.symm ?_
  obtain ⟨N3, f3⟩ := N2.one' hx f2 62 eg3 hq3 gq3 (by decide) (fun i hi => hi)
  clear hq3 gq3
  refine pw_putF (pc2 := 20) kX10 (k := 1) (by decide) rfl rfl rfl rfl fl_X10_13 f3 (by first | decide | simp) (by first | rfl | exact nar_rf _ _) (by first | rfl | exact fit_rf _ _) dX10_init_17 rfl ?_
  obtain ⟨g4, eg4⟩ : ∃ z : Nat → Option hE, z = va_up g3 x (some (oB 13 [.ref q61, .ref q62, .null, .null, .null, .null, .null, .null, .null, .null, .null, .null, .null, .null, .null, .null, .int 0, .null, .null, .null, .null, .null, .null, .null, .int 0, .null, .null, .null, .null, .null, .int 0, .int 0, .null, .int 0, .int 0, .int 0, .null, .int 0])) := ⟨_, rfl⟩
  refine PW.heap (h' := g4) eg4.symm ?_
  obtain ⟨N4, f4⟩ := N3.put' hx eg4
  refine pw_aload_n (pc2 := 21) dX10_init_20 rfl rfl 0 rfl (by first | exact rf_ref _ | exact rf_opt _ | exact rf_nul) ?_
  refine pw_bipush (pc2 := 23) (v := 6) dX10_init_21 rfl (by decide) ?_
  refine pw_newarr (pc2 := 25) (atype := .int) (a0 := (6, .inl (fun _ => 0))) 0 rfl rfl wa_95 (fun _ => rfl) (by decide) (by decide) (by decide) dX10_init_23 rfl (fun q63 hq5 gq5 => ?_)
  obtain ⟨g5, eg5⟩ : ∃ z : Nat → Option hE, z = va_up g4 q63 (some (aI 6 z0)) := ⟨_, rfl⟩
  refine PW.heap (h' := g5) eg5.symm ?_
  obtain ⟨N5, f5⟩ := N4.one' hx f4 63 eg5 hq5 gq5 (by decide) (fun i hi => hi)
  clear hq5 gq5
  refine pw_putF (pc2 := 28) kX10 (k := 2) (by decide) rfl rfl rfl rfl fl_X10_16 f5 (by first | decide | simp) (by first | rfl | exact nar_rf _ _) (by first | rfl | exact fit_rf _ _) dX10_init_25 rfl ?_
  obtain ⟨g6, eg6⟩ : ∃ z : Nat → Option hE, z = va_up g5 x (some (oB 13 [.ref q61, .ref q62, .ref q63, .null, .null, .null, .null, .null, .null, .null, .null, .null, .null, .null, .null, .null, .int 0, .null, .null, .null, .null, .null, .null, .null, .int 0, .null, .null, .null, .null, .null, .int 0, .int 0, .null, .int 0, .int 0, .int 0, .null, .int 0])) := ⟨_, rfl⟩
  refine PW.heap (h' := g6) eg6.symm ?_
  obtain ⟨N6, f6⟩ := N5.put' hx eg6
  refine pw_aload_n (pc2 := 29) dX10_init_28 rfl rfl 0 rfl (by first | exact rf_ref _ | exact rf_opt _ | exact rf_nul) ?_
  refine pw_bipush (pc2 := 31) (v := 6) dX10_init_29 rfl (by decide) ?_
  refine pw_bipush (pc2 := 33) (v := 6) dX10_init_31 rfl (by decide) ?_
  refine pw_mna (pc2 := 37) (ty := .int) (N' := 6) (K' := 6) (z := (6, .inl (fun _ => 0))) (cN := 7) (sN := 42) 6 0 rfl rfl (fun U c hc => hc) (fun U hU => hU.2.2.1.2.2.1) cl_X10_19 wa_95 (by decide) (by decide) (by decide) (by decide) (by decide) (by decide) (by decide) rfl rfl (fun c => rfl) rfl rfl dX10_init_33 rfl (fun q64 r91 hq7 gq7 hr7 hi7 => ?_)
  obtain ⟨g7, eg7⟩ : ∃ z : Nat → Option hE, z = upR g6 q64 (aR (.array .int) 6 (fun i => if i < 6 then some (r91 i) else none)) 6 r91 (.inl (.int, (6, .inl (fun _ => 0)))) := ⟨_, rfl⟩
  refine PW.heap (h' := g7) eg7.symm ?_
  obtain ⟨N7, f7⟩ := N6.rows' hx f6 64 91 eg7 hq7 gq7 hr7 hi7 (by decide) (by decide) (by decide) (fun i hi => hi) (fun i hi => hi)
  clear hq7 gq7 hr7 hi7
  refine pw_putF (pc2 := 40) kX10 (k := 3) (by decide) rfl rfl rfl rfl fl_X10_21 f7 (by first | decide | simp) (by first | rfl | exact nar_rf _ _) (by first | rfl | exact fit_rf _ _) dX10_init_37 rfl ?_
  obtain ⟨g8, eg8⟩ : ∃ z : Nat → Option hE, z = va_up g7 x (some (oB 13 [.ref q61, .ref q62, .ref q63, .ref q64, .null, .null, .null, .null, .null, .null, .null, .null, .null, .null, .null, .null, .int 0, .null, .null, .null, .null, .null, .null, .null, .int 0, .null, .null, .null, .null, .null, .int 0, .int 0, .null, .int 0, .int 0, .int 0, .null, .int 0])) := ⟨_, rfl⟩
  refine PW.heap (h' := g8) eg8.symm ?_
  obtain ⟨N8, f8⟩ := N7.put' hx eg8
  refine pw_aload_n (pc2 := 41) dX10_init_40 rfl rfl 0 rfl (by first | exact rf_ref _ | exact rf_opt _ | exact rf_nul) ?_
  refine pw_bipush (pc2 := 43) (v := 6) dX10_init_41 rfl (by decide) ?_
  refine pw_bipush (pc2 := 45) (v := 6) dX10_init_43 rfl (by decide) ?_
  refine pw_mna (pc2 := 49) (ty := .int) (N' := 6) (K' := 6) (z := (6, .inl (fun _ => 0))) (cN := 7) (sN := 42) 6 0 rfl rfl (fun U c hc => hc) (fun U hU => hU.2.2.1.2.2.1) cl_X10_19 wa_95 (by decide) (by decide) (by decide) (by decide) (by decide) (by decide) (by decide) rfl rfl (fun c => rfl) rfl rfl dX10_init_45 rfl (fun q65 r92 hq9 gq9 hr9 hi9 => ?_)
  obtain ⟨g9, eg9⟩ : ∃ z : Nat → Option hE, z = upR g8 q65 (aR (.array .int) 6 (fun i => if i < 6 then some (r92 i) else none)) 6 r92 (.inl (.int, (6, .inl (fun _ => 0)))) := ⟨_, rfl⟩
  refine PW.heap (h' := g9) eg9.symm ?_
  obtain ⟨N9, f9⟩ := N8.rows' hx f8 65 92 eg9 hq9 gq9 hr9 hi9 (by decide) (by decide) (by decide) (fun i hi => hi) (fun i hi => hi)
  clear hq9 gq9 hr9 hi9
  refine pw_putF (pc2 := 52) kX10 (k := 4) (by decide) rfl rfl rfl rfl fl_X10_24 f9 (by first | decide | simp) (by first | rfl | exact nar_rf _ _) (by first | rfl | exact fit_rf _ _) dX10_init_49 rfl ?_
  obtain ⟨g10, eg10⟩ : ∃ z : Nat → Option hE, z = va_up g9 x (some (oB 13 [.ref q61, .ref q62, .ref q63, .ref q64, .ref q65, .null, .null, .null, .null, .null, .null, .null, .null, .null, .null, .null, .int 0, .null, .null, .null, .null, .null, .null, .null, .int 0, .null, .null, .null, .null, .null, .int 0, .int 0, .null, .int 0, .int 0, .int 0, .null, .int 0])) := ⟨_, rfl⟩
  refine PW.heap (h' := g10) eg10.symm ?_
  obtain ⟨N10, f10⟩ := N9.put' hx eg10
  refine pw_aload_n (pc2 := 53) dX10_init_52 rfl rfl 0 rfl (by first | exact rf_ref _ | exact rf_opt _ | exact rf_nul) ?_
  refine pw_bipush (pc2 := 55) (v := 6) dX10_init_53 rfl (by decide) ?_
  refine pw_newarr (pc2 := 57) (atype := .boolean) (a0 := (6, .inl (fun _ => 0))) 1 rfl rfl wa_687 (fun _ => rfl) (by decide) (by decide) (by decide) dX10_init_55 rfl (fun q66 hq11 gq11 => ?_)
  obtain ⟨g11, eg11⟩ : ∃ z : Nat → Option hE, z = va_up g10 q66 (some (aZ 6 z0)) := ⟨_, rfl⟩
  refine PW.heap (h' := g11) eg11.symm ?_
  obtain ⟨N11, f11⟩ := N10.one' hx f10 66 eg11 hq11 gq11 (by decide) (fun i hi => hi)
  clear hq11 gq11
  refine pw_putF (pc2 := 60) kX10 (k := 5) (by decide) rfl rfl rfl rfl fl_X10_27 f11 (by first | decide | simp) (by first | rfl | exact nar_rf _ _) (by first | rfl | exact fit_rf _ _) dX10_init_57 rfl ?_
  obtain ⟨g12, eg12⟩ : ∃ z : Nat → Option hE, z = va_up g11 x (some (oB 13 [.ref q61, .ref q62, .ref q63, .ref q64, .ref q65, .ref q66, .null, .null, .null, .null, .null, .null, .null, .null, .null, .null, .int 0, .null, .null, .null, .null, .null, .null, .null, .int 0, .null, .null, .null, .null, .null, .int 0, .int 0, .null, .int 0, .int 0, .int 0, .null, .int 0])) := ⟨_, rfl⟩
  refine PW.heap (h' := g12) eg12.symm ?_
  obtain ⟨N12, f12⟩ := N11.put' hx eg12
  refine pw_aload_n (pc2 := 61) dX10_init_60 rfl rfl 0 rfl (by first | exact rf_ref _ | exact rf_opt _ | exact rf_nul) ?_
  refine pw_bipush (pc2 := 63) (v := 6) dX10_init_61 rfl (by decide) ?_
  refine pw_newarr (pc2 := 65) (atype := .int) (a0 := (6, .inl (fun _ => 0))) 0 rfl rfl wa_95 (fun _ => rfl) (by decide) (by decide) (by decide) dX10_init_63 rfl (fun q67 hq13 gq13 => ?_)
  obtain ⟨g13, eg13⟩ : ∃ z : Nat → Option hE, z = va_up g12 q67 (some (aI 6 z0)) := ⟨_, rfl⟩
  refine PW.heap (h' := g13) eg13.symm ?_
  obtain ⟨N13, f13⟩ := N12.one' hx f12 67 eg13 hq13 gq13 (by decide) (fun i hi => hi)
  clear hq13 gq13
  refine pw_putF (pc2 := 68) kX10 (k := 6) (by decide) rfl rfl rfl rfl fl_X10_31 f13 (by first | decide | simp) (by first | rfl | exact nar_rf _ _) (by first | rfl | exact fit_rf _ _) dX10_init_65 rfl ?_
  obtain ⟨g14, eg14⟩ : ∃ z : Nat → Option hE, z = va_up g13 x (some (oB 13 [.ref q61, .ref q62, .ref q63, .ref q64, .ref q65, .ref q66, .ref q67, .null, .null, .null, .null, .null, .null, .null, .null, .null, .int 0, .null, .null, .null, .null, .null, .null, .null, .int 0, .null, .null, .null, .null, .null, .int 0, .int 0, .null, .int 0, .int 0, .int 0, .null, .int 0])) := ⟨_, rfl⟩
  refine PW.heap (h' := g14) eg14.symm ?_
  obtain ⟨N14, f14⟩ := N13.put' hx eg14
  refine pw_aload_n (pc2 := 69) dX10_init_68 rfl rfl 0 rfl (by first | exact rf_ref _ | exact rf_opt _ | exact rf_nul) ?_
  refine pw_bipush (pc2 := 71) (v := 6) dX10_init_69 rfl (by decide) ?_
  refine pw_newarr (pc2 := 73) (atype := .int) (a0 := (6, .inl (fun _ => 0))) 0 rfl rfl wa_95 (fun _ => rfl) (by decide) (by decide) (by decide) dX10_init_71 rfl (fun q68 hq15 gq15 => ?_)
  obtain ⟨g15, eg15⟩ : ∃ z : Nat → Option hE, z = va_up g14 q68 (some (aI 6 z0)) := ⟨_, rfl⟩
  refine PW.heap (h' := g15) eg15.symm ?_
  obtain ⟨N15, f15⟩ := N14.one' hx f14 68 eg15 hq15 gq15 (by decide) (fun i hi => hi)
  clear hq15 gq15
  refine pw_putF (pc2 := 76) kX10 (k := 7) (by decide) rfl rfl rfl rfl fl_X10_34 f15 (by first | decide | simp) (by first | rfl | exact nar_rf _ _) (by first | rfl | exact fit_rf _ _) dX10_init_73 rfl ?_
  obtain ⟨g16, eg16⟩ : ∃ z : Nat → Option hE, z = va_up g15 x (some (oB 13 [.ref q61, .ref q62, .ref q63, .ref q64, .ref q65, .ref q66, .ref q67, .ref q68, .null, .null, .null, .null, .null, .null, .null, .null, .int 0, .null, .null, .null, .null, .null, .null, .null, .int 0, .null, .null, .null, .null, .null, .int 0, .int 0, .null, .int 0, .int 0, .int 0, .null, .int 0])) := ⟨_, rfl⟩
  refine PW.heap (h' := g16) eg16.symm ?_
  obtain ⟨N16, f16⟩ := N15.put' hx eg16
  refine pw_aload_n (pc2 := 77) dX10_init_76 rfl rfl 0 rfl (by first | exact rf_ref _ | exact rf_opt _ | exact rf_nul) ?_
  refine pw_bipush (pc2 := 79) (v := 6) dX10_init_77 rfl (by decide) ?_
  refine pw_newarr (pc2 := 81) (atype := .int) (a0 := (6, .inl (fun _ => 0))) 0 rfl rfl wa_95 (fun _ => rfl) (by decide) (by decide) (by decide) dX10_init_79 rfl (fun q69 hq17 gq17 => ?_)
  obtain ⟨g17, eg17⟩ : ∃ z : Nat → Option hE, z = va_up g16 q69 (some (aI 6 z0)) := ⟨_, rfl⟩
  refine PW.heap (h' := g17) eg17.symm ?_
  obtain ⟨N17, f17⟩ := N16.one' hx f16 69 eg17 hq17 gq17 (by decide) (fun i hi => hi)
  clear hq17 gq17
  refine pw_putF (pc2 := 84) kX10 (k := 8) (by decide) rfl rfl rfl rfl fl_X10_37 f17 (by first | decide | simp) (by first | rfl | exact nar_rf _ _) (by first | rfl | exact fit_rf _ _) dX10_init_81 rfl ?_
  obtain ⟨g18, eg18⟩ : ∃ z : Nat → Option hE, z = va_up g17 x (some (oB 13 [.ref q61, .ref q62, .ref q63, .ref q64, .ref q65, .ref q66, .ref q67, .ref q68, .ref q69, .null, .null, .null, .null, .null, .null, .null, .int 0, .null, .null, .null, .null, .null, .null, .null, .int 0, .null, .null, .null, .null, .null, .int 0, .int 0, .null, .int 0, .int 0, .int 0, .null, .int 0])) := ⟨_, rfl⟩
  refine PW.heap (h' := g18) eg18.symm ?_
  obtain ⟨N18, f18⟩ := N17.put' hx eg18
  refine pw_aload_n (pc2 := 85) dX10_init_84 rfl rfl 0 rfl (by first | exact rf_ref _ | exact rf_opt _ | exact rf_nul) ?_
  refine pw_bipush (pc2 := 87) (v := 6) dX10_init_85 rfl (by decide) ?_
  refine pw_bipush (pc2 := 89) (v := 6) dX10_init_87 rfl (by decide) ?_
  refine pw_mna (pc2 := 93) (ty := .int) (N' := 6) (K' := 6) (z := (6, .inl (fun _ => 0))) (cN := 7) (sN := 42) 6 0 rfl rfl (fun U c hc => hc) (fun U hU => hU.2.2.1.2.2.1) cl_X10_19 wa_95 (by decide) (by decide) (by decide) (by decide) (by decide) (by decide) (by decide) rfl rfl (fun c => rfl) rfl rfl dX10_init_89 rfl (fun q70 r93 hq19 gq19 hr19 hi19 => ?_)
  obtain ⟨g19, eg19⟩ : ∃ z : Nat → Option hE, z = upR g18 q70 (aR (.array .int) 6 (fun i => if i < 6 then some (r93 i) else none)) 6 r93 (.inl (.int, (6, .inl (fun _ => 0)))) := ⟨_, rfl⟩
  refine PW.heap (h' := g19) eg19.symm ?_
  obtain ⟨N19, f19⟩ := N18.rows' hx f18 70 93 eg19 hq19 gq19 hr19 hi19 (by decide) (by decide) (by decide) (fun i hi => hi) (fun i hi => hi)
  clear hq19 gq19 hr19 hi19
  refine pw_putF (pc2 := 96) kX10 (k := 9) (by decide) rfl rfl rfl rfl fl_X10_40 f19 (by first | decide | simp) (by first | rfl | exact nar_rf _ _) (by first | rfl | exact fit_rf _ _) dX10_init_93 rfl ?_
  obtain ⟨g20, eg20⟩ : ∃ z : Nat → Option hE, z = va_up g19 x (some (oB 13 [.ref q61, .ref q62, .ref q63, .ref q64, .ref q65, .ref q66, .ref q67, .ref q68, .ref q69, .ref q70, .null, .null, .null, .null, .null, .null, .int 0, .null, .null, .null, .null, .null, .null, .null, .int 0, .null, .null, .null, .null, .null, .int 0, .int 0, .null, .int 0, .int 0, .int 0, .null, .int 0])) := ⟨_, rfl⟩
  refine PW.heap (h' := g20) eg20.symm ?_
  obtain ⟨N20, f20⟩ := N19.put' hx eg20
  refine pw_aload_n (pc2 := 97) dX10_init_96 rfl rfl 0 rfl (by first | exact rf_ref _ | exact rf_opt _ | exact rf_nul) ?_
  refine pw_bipush (pc2 := 99) (v := 6) dX10_init_97 rfl (by decide) ?_
  refine pw_newarr (pc2 := 101) (atype := .boolean) (a0 := (6, .inl (fun _ => 0))) 1 rfl rfl wa_687 (fun _ => rfl) (by decide) (by decide) (by decide) dX10_init_99 rfl (fun q71 hq21 gq21 => ?_)
  obtain ⟨g21, eg21⟩ : ∃ z : Nat → Option hE, z = va_up g20 q71 (some (aZ 6 z0)) := ⟨_, rfl⟩
  refine PW.heap (h' := g21) eg21.symm ?_
  obtain ⟨N21, f21⟩ := N20.one' hx f20 71 eg21 hq21 gq21 (by decide) (fun i hi => hi)
  clear hq21 gq21
  refine pw_putF (pc2 := 104) kX10 (k := 10) (by decide) rfl rfl rfl rfl fl_X10_43 f21 (by first | decide | simp) (by first | rfl | exact nar_rf _ _) (by first | rfl | exact fit_rf _ _) dX10_init_101 rfl ?_
  obtain ⟨g22, eg22⟩ : ∃ z : Nat → Option hE, z = va_up g21 x (some (oB 13 [.ref q61, .ref q62, .ref q63, .ref q64, .ref q65, .ref q66, .ref q67, .ref q68, .ref q69, .ref q70, .ref q71, .null, .null, .null, .null, .null, .int 0, .null, .null, .null, .null, .null, .null, .null, .int 0, .null, .null, .null, .null, .null, .int 0, .int 0, .null, .int 0, .int 0, .int 0, .null, .int 0])) := ⟨_, rfl⟩
  refine PW.heap (h' := g22) eg22.symm ?_
  obtain ⟨N22, f22⟩ := N21.put' hx eg22
  refine pw_aload_n (pc2 := 105) dX10_init_104 rfl rfl 0 rfl (by first | exact rf_ref _ | exact rf_opt _ | exact rf_nul) ?_
  refine pw_bipush (pc2 := 107) (v := 6) dX10_init_105 rfl (by decide) ?_
  refine pw_bipush (pc2 := 109) (v := 6) dX10_init_107 rfl (by decide) ?_
  refine pw_mna (pc2 := 113) (ty := .int) (N' := 6) (K' := 6) (z := (6, .inl (fun _ => 0))) (cN := 7) (sN := 42) 6 0 rfl rfl (fun U c hc => hc) (fun U hU => hU.2.2.1.2.2.1) cl_X10_19 wa_95 (by decide) (by decide) (by decide) (by decide) (by decide) (by decide) (by decide) rfl rfl (fun c => rfl) rfl rfl dX10_init_109 rfl (fun q72 r94 hq23 gq23 hr23 hi23 => ?_)
  obtain ⟨g23, eg23⟩ : ∃ z : Nat → Option hE, z = upR g22 q72 (aR (.array .int) 6 (fun i => if i < 6 then some (r94 i) else none)) 6 r94 (.inl (.int, (6, .inl (fun _ => 0)))) := ⟨_, rfl⟩
  refine PW.heap (h' := g23) eg23.symm ?_
  obtain ⟨N23, f23⟩ := N22.rows' hx f22 72 94 eg23 hq23 gq23 hr23 hi23 (by decide) (by decide) (by decide) (fun i hi => hi) (fun i hi => hi)
  clear hq23 gq23 hr23 hi23
  refine pw_putF (pc2 := 116) kX10 (k := 11) (by decide) rfl rfl rfl rfl fl_X10_46 f23 (by first | decide | simp) (by first | rfl | exact nar_rf _ _) (by first | rfl | exact fit_rf _ _) dX10_init_113 rfl ?_
  obtain ⟨g24, eg24⟩ : ∃ z : Nat → Option hE, z = va_up g23 x (some (oB 13 [.ref q61, .ref q62, .ref q63, .ref q64, .ref q65, .ref q66, .ref q67, .ref q68, .ref q69, .ref q70, .ref q71, .ref q72, .null, .null, .null, .null, .int 0, .null, .null, .null, .null, .null, .null, .null, .int 0, .null, .null, .null, .null, .null, .int 0, .int 0, .null, .int 0, .int 0, .int 0, .null, .int 0])) := ⟨_, rfl⟩
  refine PW.heap (h' := g24) eg24.symm ?_
  obtain ⟨N24, f24⟩ := N23.put' hx eg24
  refine pw_aload_n (pc2 := 117) dX10_init_116 rfl rfl 0 rfl (by first | exact rf_ref _ | exact rf_opt _ | exact rf_nul) ?_
  refine pw_bipush (pc2 := 119) (v := 6) dX10_init_117 rfl (by decide) ?_
  refine pw_newarr (pc2 := 121) (atype := .int) (a0 := (6, .inl (fun _ => 0))) 0 rfl rfl wa_95 (fun _ => rfl) (by decide) (by decide) (by decide) dX10_init_119 rfl (fun q73 hq25 gq25 => ?_)
  obtain ⟨g25, eg25⟩ : ∃ z : Nat → Option hE, z = va_up g24 q73 (some (aI 6 z0)) := ⟨_, rfl⟩
  refine PW.heap (h' := g25) eg25.symm ?_
  obtain ⟨N25, f25⟩ := N24.one' hx f24 73 eg25 hq25 gq25 (by decide) (fun i hi => hi)
  clear hq25 gq25
  refine pw_putF (pc2 := 124) kX10 (k := 12) (by decide) rfl rfl rfl rfl fl_X10_49 f25 (by first | decide | simp) (by first | rfl | exact nar_rf _ _) (by first | rfl | exact fit_rf _ _) dX10_init_121 rfl ?_
  obtain ⟨g26, eg26⟩ : ∃ z : Nat → Option hE, z = va_up g25 x (some (oB 13 [.ref q61, .ref q62, .ref q63, .ref q64, .ref q65, .ref q66, .ref q67, .ref q68, .ref q69, .ref q70, .ref q71, .ref q72, .ref q73, .null, .null, .null, .int 0, .null, .null, .null, .null, .null, .null, .null, .int 0, .null, .null, .null, .null, .null, .int 0, .int 0, .null, .int 0, .int 0, .int 0, .null, .int 0])) := ⟨_, rfl⟩
  refine PW.heap (h' := g26) eg26.symm ?_
  obtain ⟨N26, f26⟩ := N25.put' hx eg26
  refine pw_aload_n (pc2 := 125) dX10_init_124 rfl rfl 0 rfl (by first | exact rf_ref _ | exact rf_opt _ | exact rf_nul) ?_
  refine pw_bipush (pc2 := 127) (v := 6) dX10_init_125 rfl (by decide) ?_
  refine pw_newarr (pc2 := 129) (atype := .int) (a0 := (6, .inl (fun _ => 0))) 0 rfl rfl wa_95 (fun _ => rfl) (by decide) (by decide) (by decide) dX10_init_127 rfl (fun q74 hq27 gq27 => ?_)
  obtain ⟨g27, eg27⟩ : ∃ z : Nat → Option hE, z = va_up g26 q74 (some (aI 6 z0)) := ⟨_, rfl⟩
  refine PW.heap (h' := g27) eg27.symm ?_
  obtain ⟨N27, f27⟩ := N26.one' hx f26 74 eg27 hq27 gq27 (by decide) (fun i hi => hi)
  clear hq27 gq27
  refine pw_putF (pc2 := 132) kX10 (k := 13) (by decide) rfl rfl rfl rfl fl_X10_52 f27 (by first | decide | simp) (by first | rfl | exact nar_rf _ _) (by first | rfl | exact fit_rf _ _) dX10_init_129 rfl ?_
  obtain ⟨g28, eg28⟩ : ∃ z : Nat → Option hE, z = va_up g27 x (some (oB 13 [.ref q61, .ref q62, .ref q63, .ref q64, .ref q65, .ref q66, .ref q67, .ref q68, .ref q69, .ref q70, .ref q71, .ref q72, .ref q73, .ref q74, .null, .null, .int 0, .null, .null, .null, .null, .null, .null, .null, .int 0, .null, .null, .null, .null, .null, .int 0, .int 0, .null, .int 0, .int 0, .int 0, .null, .int 0])) := ⟨_, rfl⟩
  refine PW.heap (h' := g28) eg28.symm ?_
  obtain ⟨N28, f28⟩ := N27.put' hx eg28
  refine pw_aload_n (pc2 := 133) dX10_init_132 rfl rfl 0 rfl (by first | exact rf_ref _ | exact rf_opt _ | exact rf_nul) ?_
  refine pw_bipush (pc2 := 135) (v := 6) dX10_init_133 rfl (by decide) ?_
  refine pw_bipush (pc2 := 137) (v := 6) dX10_init_135 rfl (by decide) ?_
  refine pw_mna (pc2 := 141) (ty := .int) (N' := 6) (K' := 6) (z := (6, .inl (fun _ => 0))) (cN := 7) (sN := 42) 6 0 rfl rfl (fun U c hc => hc) (fun U hU => hU.2.2.1.2.2.1) cl_X10_19 wa_95 (by decide) (by decide) (by decide) (by decide) (by decide) (by decide) (by decide) rfl rfl (fun c => rfl) rfl rfl dX10_init_137 rfl (fun q75 r95 hq29 gq29 hr29 hi29 => ?_)
  obtain ⟨g29, eg29⟩ : ∃ z : Nat → Option hE, z = upR g28 q75 (aR (.array .int) 6 (fun i => if i < 6 then some (r95 i) else none)) 6 r95 (.inl (.int, (6, .inl (fun _ => 0)))) := ⟨_, rfl⟩
  refine PW.heap (h' := g29) eg29.symm ?_
  obtain ⟨N29, f29⟩ := N28.rows' hx f28 75 95 eg29 hq29 gq29 hr29 hi29 (by decide) (by decide) (by decide) (fun i hi => hi) (fun i hi => hi)
  clear hq29 gq29 hr29 hi29
  refine pw_putF (pc2 := 144) kX10 (k := 14) (by decide) rfl rfl rfl rfl fl_X10_55 f29 (by first | decide | simp) (by first | rfl | exact nar_rf _ _) (by first | rfl | exact fit_rf _ _) dX10_init_141 rfl ?_
  obtain ⟨g30, eg30⟩ : ∃ z : Nat → Option hE, z = va_up g29 x (some (oB 13 [.ref q61, .ref q62, .ref q63, .ref q64, .ref q65, .ref q66, .ref q67, .ref q68, .ref q69, .ref q70, .ref q71, .ref q72, .ref q73, .ref q74, .ref q75, .null, .int 0, .null, .null, .null, .null, .null, .null, .null, .int 0, .null, .null, .null, .null, .null, .int 0, .int 0, .null, .int 0, .int 0, .int 0, .null, .int 0])) := ⟨_, rfl⟩
  refine PW.heap (h' := g30) eg30.symm ?_
  obtain ⟨N30, f30⟩ := N29.put' hx eg30
  refine pw_aload_n (pc2 := 145) dX10_init_144 rfl rfl 0 rfl (by first | exact rf_ref _ | exact rf_opt _ | exact rf_nul) ?_
  refine pw_bipush (pc2 := 147) (v := 6) dX10_init_145 rfl (by decide) ?_
  refine pw_bipush (pc2 := 149) (v := 6) dX10_init_147 rfl (by decide) ?_
  refine pw_mna (pc2 := 153) (ty := .int) (N' := 6) (K' := 6) (z := (6, .inl (fun _ => 0))) (cN := 7) (sN := 42) 6 0 rfl rfl (fun U c hc => hc) (fun U hU => hU.2.2.1.2.2.1) cl_X10_19 wa_95 (by decide) (by decide) (by decide) (by decide) (by decide) (by decide) (by decide) rfl rfl (fun c => rfl) rfl rfl dX10_init_149 rfl (fun q76 r96 hq31 gq31 hr31 hi31 => ?_)
  obtain ⟨g31, eg31⟩ : ∃ z : Nat → Option hE, z = upR g30 q76 (aR (.array .int) 6 (fun i => if i < 6 then some (r96 i) else none)) 6 r96 (.inl (.int, (6, .inl (fun _ => 0)))) := ⟨_, rfl⟩
  refine PW.heap (h' := g31) eg31.symm ?_
  obtain ⟨N31, f31⟩ := N30.rows' hx f30 76 96 eg31 hq31 gq31 hr31 hi31 (by decide) (by decide) (by decide) (fun i hi => hi) (fun i hi => hi)
  clear hq31 gq31 hr31 hi31
  refine pw_putF (pc2 := 156) kX10 (k := 15) (by decide) rfl rfl rfl rfl fl_X10_58 f31 (by first | decide | simp) (by first | rfl | exact nar_rf _ _) (by first | rfl | exact fit_rf _ _) dX10_init_153 rfl ?_
  obtain ⟨g32, eg32⟩ : ∃ z : Nat → Option hE, z = va_up g31 x (some (oB 13 [.ref q61, .ref q62, .ref q63, .ref q64, .ref q65, .ref q66, .ref q67, .ref q68, .ref q69, .ref q70, .ref q71, .ref q72, .ref q73, .ref q74, .ref q75, .ref q76, .int 0, .null, .null, .null, .null, .null, .null, .null, .int 0, .null, .null, .null, .null, .null, .int 0, .int 0, .null, .int 0, .int 0, .int 0, .null, .int 0])) := ⟨_, rfl⟩
  refine PW.heap (h' := g32) eg32.symm ?_
  obtain ⟨N32, f32⟩ := N31.put' hx eg32
  refine pw_aload_n (pc2 := 157) dX10_init_156 rfl rfl 0 rfl (by first | exact rf_ref _ | exact rf_opt _ | exact rf_nul) ?_
  refine pw_bipush (pc2 := 159) (v := 20) dX10_init_157 rfl (by decide) ?_
  refine pw_newarr (pc2 := 161) (atype := .int) (a0 := (20, .inl (fun _ => 0))) 0 rfl rfl wa_95 (fun _ => rfl) (by decide) (by decide) (by decide) dX10_init_159 rfl (fun q77 hq33 gq33 => ?_)
  obtain ⟨g33, eg33⟩ : ∃ z : Nat → Option hE, z = va_up g32 q77 (some (aI 20 z0)) := ⟨_, rfl⟩
  refine PW.heap (h' := g33) eg33.symm ?_
  obtain ⟨N33, f33⟩ := N32.one' hx f32 77 eg33 hq33 gq33 (by decide) (fun i hi => hi)
  clear hq33 gq33
  refine pw_putF (pc2 := 164) kX10 (k := 17) (by decide) rfl rfl rfl rfl fl_X10_61 f33 (by first | decide | simp) (by first | rfl | exact nar_rf _ _) (by first | rfl | exact fit_rf _ _) dX10_init_161 rfl ?_
  obtain ⟨g34, eg34⟩ : ∃ z : Nat → Option hE, z = va_up g33 x (some (oB 13 [.ref q61, .ref q62, .ref q63, .ref q64, .ref q65, .ref q66, .ref q67, .ref q68, .ref q69, .ref q70, .ref q71, .ref q72, .ref q73, .ref q74, .ref q75, .ref q76, .int 0, .ref q77, .null, .null, .null, .null, .null, .null, .int 0, .null, .null, .null, .null, .null, .int 0, .int 0, .null, .int 0, .int 0, .int 0, .null, .int 0])) := ⟨_, rfl⟩
  refine PW.heap (h' := g34) eg34.symm ?_
  obtain ⟨N34, f34⟩ := N33.put' hx eg34
  refine pw_aload_n (pc2 := 165) dX10_init_164 rfl rfl 0 rfl (by first | exact rf_ref _ | exact rf_opt _ | exact rf_nul) ?_
  refine pw_bipush (pc2 := 167) (v := 20) dX10_init_165 rfl (by decide) ?_
  refine pw_newarr (pc2 := 169) (atype := .int) (a0 := (20, .inl (fun _ => 0))) 0 rfl rfl wa_95 (fun _ => rfl) (by decide) (by decide) (by decide) dX10_init_167 rfl (fun q78 hq35 gq35 => ?_)
  obtain ⟨g35, eg35⟩ : ∃ z : Nat → Option hE, z = va_up g34 q78 (some (aI 20 z0)) := ⟨_, rfl⟩
  refine PW.heap (h' := g35) eg35.symm ?_
  obtain ⟨N35, f35⟩ := N34.one' hx f34 78 eg35 hq35 gq35 (by decide) (fun i hi => hi)
  clear hq35 gq35
  refine pw_putF (pc2 := 172) kX10 (k := 18) (by decide) rfl rfl rfl rfl fl_X10_64 f35 (by first | decide | simp) (by first | rfl | exact nar_rf _ _) (by first | rfl | exact fit_rf _ _) dX10_init_169 rfl ?_
  obtain ⟨g36, eg36⟩ : ∃ z : Nat → Option hE, z = va_up g35 x (some (oB 13 [.ref q61, .ref q62, .ref q63, .ref q64, .ref q65, .ref q66, .ref q67, .ref q68, .ref q69, .ref q70, .ref q71, .ref q72, .ref q73, .ref q74, .ref q75, .ref q76, .int 0, .ref q77, .ref q78, .null, .null, .null, .null, .null, .int 0, .null, .null, .null, .null, .null, .int 0, .int 0, .null, .int 0, .int 0, .int 0, .null, .int 0])) := ⟨_, rfl⟩
  refine PW.heap (h' := g36) eg36.symm ?_
  obtain ⟨N36, f36⟩ := N35.put' hx eg36
  refine pw_aload_n (pc2 := 173) dX10_init_172 rfl rfl 0 rfl (by first | exact rf_ref _ | exact rf_opt _ | exact rf_nul) ?_
  refine pw_bipush (pc2 := 175) (v := 20) dX10_init_173 rfl (by decide) ?_
  refine pw_newarr (pc2 := 177) (atype := .int) (a0 := (20, .inl (fun _ => 0))) 0 rfl rfl wa_95 (fun _ => rfl) (by decide) (by decide) (by decide) dX10_init_175 rfl (fun q79 hq37 gq37 => ?_)
  obtain ⟨g37, eg37⟩ : ∃ z : Nat → Option hE, z = va_up g36 q79 (some (aI 20 z0)) := ⟨_, rfl⟩
  refine PW.heap (h' := g37) eg37.symm ?_
  obtain ⟨N37, f37⟩ := N36.one' hx f36 79 eg37 hq37 gq37 (by decide) (fun i hi => hi)
  clear hq37 gq37
  refine pw_putF (pc2 := 180) kX10 (k := 19) (by decide) rfl rfl rfl rfl fl_X10_67 f37 (by first | decide | simp) (by first | rfl | exact nar_rf _ _) (by first | rfl | exact fit_rf _ _) dX10_init_177 rfl ?_
  obtain ⟨g38, eg38⟩ : ∃ z : Nat → Option hE, z = va_up g37 x (some (oB 13 [.ref q61, .ref q62, .ref q63, .ref q64, .ref q65, .ref q66, .ref q67, .ref q68, .ref q69, .ref q70, .ref q71, .ref q72, .ref q73, .ref q74, .ref q75, .ref q76, .int 0, .ref q77, .ref q78, .ref q79, .null, .null, .null, .null, .int 0, .null, .null, .null, .null, .null, .int 0, .int 0, .null, .int 0, .int 0, .int 0, .null, .int 0])) := ⟨_, rfl⟩
  refine PW.heap (h' := g38) eg38.symm ?_
  obtain ⟨N38, f38⟩ := N37.put' hx eg38
  refine pw_aload_n (pc2 := 181) dX10_init_180 rfl rfl 0 rfl (by first | exact rf_ref _ | exact rf_opt _ | exact rf_nul) ?_
  refine pw_bipush (pc2 := 183) (v := 20) dX10_init_181 rfl (by decide) ?_
  refine pw_bipush (pc2 := 185) (v := 6) dX10_init_183 rfl (by decide) ?_
  refine pw_mna (pc2 := 189) (ty := .int) (N' := 20) (K' := 6) (z := (6, .inl (fun _ => 0))) (cN := 21) (sN := 140) 6 0 rfl rfl (fun U c hc => hc) (fun U hU => hU.2.2.1.2.2.1) cl_X10_19 wa_95 (by decide) (by decide) (by decide) (by decide) (by decide) (by decide) (by decide) rfl rfl (fun c => rfl) rfl rfl dX10_init_185 rfl (fun q80 r97 hq39 gq39 hr39 hi39 => ?_)
  obtain ⟨g39, eg39⟩ : ∃ z : Nat → Option hE, z = upR g38 q80 (aR (.array .int) 20 (fun i => if i < 20 then some (r97 i) else none)) 20 r97 (.inl (.int, (6, .inl (fun _ => 0)))) := ⟨_, rfl⟩
  refine PW.heap (h' := g39) eg39.symm ?_
  obtain ⟨N39, f39⟩ := N38.rows' hx f38 80 97 eg39 hq39 gq39 hr39 hi39 (by decide) (by decide) (by decide) (fun i hi => hi) (fun i hi => hi)
  clear hq39 gq39 hr39 hi39
  refine pw_putF (pc2 := 192) kX10 (k := 20) (by decide) rfl rfl rfl rfl fl_X10_70 f39 (by first | decide | simp) (by first | rfl | exact nar_rf _ _) (by first | rfl | exact fit_rf _ _) dX10_init_189 rfl ?_
  obtain ⟨g40, eg40⟩ : ∃ z : Nat → Option hE, z = va_up g39 x (some (oB 13 [.ref q61, .ref q62, .ref q63, .ref q64, .ref q65, .ref q66, .ref q67, .ref q68, .ref q69, .ref q70, .ref q71, .ref q72, .ref q73, .ref q74, .ref q75, .ref q76, .int 0, .ref q77, .ref q78, .ref q79, .ref q80, .null, .null, .null, .int 0, .null, .null, .null, .null, .null, .int 0, .int 0, .null, .int 0, .int 0, .int 0, .null, .int 0])) := ⟨_, rfl⟩
  refine PW.heap (h' := g40) eg40.symm ?_
  obtain ⟨N40, f40⟩ := N39.put' hx eg40
  refine pw_aload_n (pc2 := 193) dX10_init_192 rfl rfl 0 rfl (by first | exact rf_ref _ | exact rf_opt _ | exact rf_nul) ?_
  refine pw_bipush (pc2 := 195) (v := 20) dX10_init_193 rfl (by decide) ?_
  refine pw_bipush (pc2 := 197) (v := 6) dX10_init_195 rfl (by decide) ?_
  refine pw_mna (pc2 := 201) (ty := .int) (N' := 20) (K' := 6) (z := (6, .inl (fun _ => 0))) (cN := 21) (sN := 140) 6 0 rfl rfl (fun U c hc => hc) (fun U hU => hU.2.2.1.2.2.1) cl_X10_19 wa_95 (by decide) (by decide) (by decide) (by decide) (by decide) (by decide) (by decide) rfl rfl (fun c => rfl) rfl rfl dX10_init_197 rfl (fun q81 r98 hq41 gq41 hr41 hi41 => ?_)
  obtain ⟨g41, eg41⟩ : ∃ z : Nat → Option hE, z = upR g40 q81 (aR (.array .int) 20 (fun i => if i < 20 then some (r98 i) else none)) 20 r98 (.inl (.int, (6, .inl (fun _ => 0)))) := ⟨_, rfl⟩
  refine PW.heap (h' := g41) eg41.symm ?_
  obtain ⟨N41, f41⟩ := N40.rows' hx f40 81 98 eg41 hq41 gq41 hr41 hi41 (by decide) (by decide) (by decide) (fun i hi => hi) (fun i hi => hi)
  clear hq41 gq41 hr41 hi41
  refine pw_putF (pc2 := 204) kX10 (k := 21) (by decide) rfl rfl rfl rfl fl_X10_73 f41 (by first | decide | simp) (by first | rfl | exact nar_rf _ _) (by first | rfl | exact fit_rf _ _) dX10_init_201 rfl ?_
  obtain ⟨g42, eg42⟩ : ∃ z : Nat → Option hE, z = va_up g41 x (some (oB 13 [.ref q61, .ref q62, .ref q63, .ref q64, .ref q65, .ref q66, .ref q67, .ref q68, .ref q69, .ref q70, .ref q71, .ref q72, .ref q73, .ref q74, .ref q75, .ref q76, .int 0, .ref q77, .ref q78, .ref q79, .ref q80, .ref q81, .null, .null, .int 0, .null, .null, .null, .null, .null, .int 0, .int 0, .null, .int 0, .int 0, .int 0, .null, .int 0])) := ⟨_, rfl⟩
  refine PW.heap (h' := g42) eg42.symm ?_
  obtain ⟨N42, f42⟩ := N41.put' hx eg42
  refine pw_aload_n (pc2 := 205) dX10_init_204 rfl rfl 0 rfl (by first | exact rf_ref _ | exact rf_opt _ | exact rf_nul) ?_
  refine pw_bipush (pc2 := 207) (v := 20) dX10_init_205 rfl (by decide) ?_
  refine pw_bipush (pc2 := 209) (v := 6) dX10_init_207 rfl (by decide) ?_
  refine pw_mna (pc2 := 213) (ty := .int) (N' := 20) (K' := 6) (z := (6, .inl (fun _ => 0))) (cN := 21) (sN := 140) 6 0 rfl rfl (fun U c hc => hc) (fun U hU => hU.2.2.1.2.2.1) cl_X10_19 wa_95 (by decide) (by decide) (by decide) (by decide) (by decide) (by decide) (by decide) rfl rfl (fun c => rfl) rfl rfl dX10_init_209 rfl (fun q82 r99 hq43 gq43 hr43 hi43 => ?_)
  obtain ⟨g43, eg43⟩ : ∃ z : Nat → Option hE, z = upR g42 q82 (aR (.array .int) 20 (fun i => if i < 20 then some (r99 i) else none)) 20 r99 (.inl (.int, (6, .inl (fun _ => 0)))) := ⟨_, rfl⟩
  refine PW.heap (h' := g43) eg43.symm ?_
  obtain ⟨N43, f43⟩ := N42.rows' hx f42 82 99 eg43 hq43 gq43 hr43 hi43 (by decide) (by decide) (by decide) (fun i hi => hi) (fun i hi => hi)
  clear hq43 gq43 hr43 hi43
  refine pw_putF (pc2 := 216) kX10 (k := 22) (by decide) rfl rfl rfl rfl fl_X10_76 f43 (by first | decide | simp) (by first | rfl | exact nar_rf _ _) (by first | rfl | exact fit_rf _ _) dX10_init_213 rfl ?_
  obtain ⟨g44, eg44⟩ : ∃ z : Nat → Option hE, z = va_up g43 x (some (oB 13 [.ref q61, .ref q62, .ref q63, .ref q64, .ref q65, .ref q66, .ref q67, .ref q68, .ref q69, .ref q70, .ref q71, .ref q72, .ref q73, .ref q74, .ref q75, .ref q76, .int 0, .ref q77, .ref q78, .ref q79, .ref q80, .ref q81, .ref q82, .null, .int 0, .null, .null, .null, .null, .null, .int 0, .int 0, .null, .int 0, .int 0, .int 0, .null, .int 0])) := ⟨_, rfl⟩
  refine PW.heap (h' := g44) eg44.symm ?_
  obtain ⟨N44, f44⟩ := N43.put' hx eg44
  refine pw_aload_n (pc2 := 217) dX10_init_216 rfl rfl 0 rfl (by first | exact rf_ref _ | exact rf_opt _ | exact rf_nul) ?_
  refine pw_bipush (pc2 := 219) (v := 20) dX10_init_217 rfl (by decide) ?_
  refine pw_newarr (pc2 := 221) (atype := .boolean) (a0 := (20, .inl (fun _ => 0))) 1 rfl rfl wa_687 (fun _ => rfl) (by decide) (by decide) (by decide) dX10_init_219 rfl (fun q83 hq45 gq45 => ?_)
  obtain ⟨g45, eg45⟩ : ∃ z : Nat → Option hE, z = va_up g44 q83 (some (aZ 20 z0)) := ⟨_, rfl⟩
  refine PW.heap (h' := g45) eg45.symm ?_
  obtain ⟨N45, f45⟩ := N44.one' hx f44 83 eg45 hq45 gq45 (by decide) (fun i hi => hi)
  clear hq45 gq45
  refine pw_putF (pc2 := 224) kX10 (k := 23) (by decide) rfl rfl rfl rfl fl_X10_79 f45 (by first | decide | simp) (by first | rfl | exact nar_rf _ _) (by first | rfl | exact fit_rf _ _) dX10_init_221 rfl ?_
  obtain ⟨g46, eg46⟩ : ∃ z : Nat → Option hE, z = va_up g45 x (some (oB 13 [.ref q61, .ref q62, .ref q63, .ref q64, .ref q65, .ref q66, .ref q67, .ref q68, .ref q69, .ref q70, .ref q71, .ref q72, .ref q73, .ref q74, .ref q75, .ref q76, .int 0, .ref q77, .ref q78, .ref q79, .ref q80, .ref q81, .ref q82, .ref q83, .int 0, .null, .null, .null, .null, .null, .int 0, .int 0, .null, .int 0, .int 0, .int 0, .null, .int 0])) := ⟨_, rfl⟩
  refine PW.heap (h' := g46) eg46.symm ?_
  obtain ⟨N46, f46⟩ := N45.put' hx eg46
  refine pw_aload_n (pc2 := 225) dX10_init_224 rfl rfl 0 rfl (by first | exact rf_ref _ | exact rf_opt _ | exact rf_nul) ?_
  refine pw_bipush (pc2 := 227) (v := 8) dX10_init_225 rfl (by decide) ?_
  refine pw_newarr (pc2 := 229) (atype := .int) (a0 := (8, .inl (fun _ => 0))) 0 rfl rfl wa_95 (fun _ => rfl) (by decide) (by decide) (by decide) dX10_init_227 rfl (fun q84 hq47 gq47 => ?_)
  obtain ⟨g47, eg47⟩ : ∃ z : Nat → Option hE, z = va_up g46 q84 (some (aI 8 z0)) := ⟨_, rfl⟩
  refine PW.heap (h' := g47) eg47.symm ?_
  obtain ⟨N47, f47⟩ := N46.one' hx f46 84 eg47 hq47 gq47 (by decide) (fun i hi => hi)
  clear hq47 gq47
  refine pw_putF (pc2 := 232) kX10 (k := 25) (by decide) rfl rfl rfl rfl fl_X10_82 f47 (by first | decide | simp) (by first | rfl | exact nar_rf _ _) (by first | rfl | exact fit_rf _ _) dX10_init_229 rfl ?_
  obtain ⟨g48, eg48⟩ : ∃ z : Nat → Option hE, z = va_up g47 x (some (oB 13 [.ref q61, .ref q62, .ref q63, .ref q64, .ref q65, .ref q66, .ref q67, .ref q68, .ref q69, .ref q70, .ref q71, .ref q72, .ref q73, .ref q74, .ref q75, .ref q76, .int 0, .ref q77, .ref q78, .ref q79, .ref q80, .ref q81, .ref q82, .ref q83, .int 0, .ref q84, .null, .null, .null, .null, .int 0, .int 0, .null, .int 0, .int 0, .int 0, .null, .int 0])) := ⟨_, rfl⟩
  refine PW.heap (h' := g48) eg48.symm ?_
  obtain ⟨N48, f48⟩ := N47.put' hx eg48
  refine pw_aload_n (pc2 := 233) dX10_init_232 rfl rfl 0 rfl (by first | exact rf_ref _ | exact rf_opt _ | exact rf_nul) ?_
  refine pw_bipush (pc2 := 235) (v := 8) dX10_init_233 rfl (by decide) ?_
  refine pw_newarr (pc2 := 237) (atype := .int) (a0 := (8, .inl (fun _ => 0))) 0 rfl rfl wa_95 (fun _ => rfl) (by decide) (by decide) (by decide) dX10_init_235 rfl (fun q85 hq49 gq49 => ?_)
  obtain ⟨g49, eg49⟩ : ∃ z : Nat → Option hE, z = va_up g48 q85 (some (aI 8 z0)) := ⟨_, rfl⟩
  refine PW.heap (h' := g49) eg49.symm ?_
  obtain ⟨N49, f49⟩ := N48.one' hx f48 85 eg49 hq49 gq49 (by decide) (fun i hi => hi)
  clear hq49 gq49
  refine pw_putF (pc2 := 240) kX10 (k := 26) (by decide) rfl rfl rfl rfl fl_X10_85 f49 (by first | decide | simp) (by first | rfl | exact nar_rf _ _) (by first | rfl | exact fit_rf _ _) dX10_init_237 rfl ?_
  obtain ⟨g50, eg50⟩ : ∃ z : Nat → Option hE, z = va_up g49 x (some (oB 13 [.ref q61, .ref q62, .ref q63, .ref q64, .ref q65, .ref q66, .ref q67, .ref q68, .ref q69, .ref q70, .ref q71, .ref q72, .ref q73, .ref q74, .ref q75, .ref q76, .int 0, .ref q77, .ref q78, .ref q79, .ref q80, .ref q81, .ref q82, .ref q83, .int 0, .ref q84, .ref q85, .null, .null, .null, .int 0, .int 0, .null, .int 0, .int 0, .int 0, .null, .int 0])) := ⟨_, rfl⟩
  refine PW.heap (h' := g50) eg50.symm ?_
  obtain ⟨N50, f50⟩ := N49.put' hx eg50
  refine pw_aload_n (pc2 := 241) dX10_init_240 rfl rfl 0 rfl (by first | exact rf_ref _ | exact rf_opt _ | exact rf_nul) ?_
  refine pw_bipush (pc2 := 243) (v := 8) dX10_init_241 rfl (by decide) ?_
  refine pw_newarr (pc2 := 245) (atype := .boolean) (a0 := (8, .inl (fun _ => 0))) 1 rfl rfl wa_687 (fun _ => rfl) (by decide) (by decide) (by decide) dX10_init_243 rfl (fun q86 hq51 gq51 => ?_)
  obtain ⟨g51, eg51⟩ : ∃ z : Nat → Option hE, z = va_up g50 q86 (some (aZ 8 z0)) := ⟨_, rfl⟩
  refine PW.heap (h' := g51) eg51.symm ?_
  obtain ⟨N51, f51⟩ := N50.one' hx f50 86 eg51 hq51 gq51 (by decide) (fun i hi => hi)
  clear hq51 gq51
  refine pw_putF (pc2 := 248) kX10 (k := 27) (by decide) rfl rfl rfl rfl fl_X10_88 f51 (by first | decide | simp) (by first | rfl | exact nar_rf _ _) (by first | rfl | exact fit_rf _ _) dX10_init_245 rfl ?_
  obtain ⟨g52, eg52⟩ : ∃ z : Nat → Option hE, z = va_up g51 x (some (oB 13 [.ref q61, .ref q62, .ref q63, .ref q64, .ref q65, .ref q66, .ref q67, .ref q68, .ref q69, .ref q70, .ref q71, .ref q72, .ref q73, .ref q74, .ref q75, .ref q76, .int 0, .ref q77, .ref q78, .ref q79, .ref q80, .ref q81, .ref q82, .ref q83, .int 0, .ref q84, .ref q85, .ref q86, .null, .null, .int 0, .int 0, .null, .int 0, .int 0, .int 0, .null, .int 0])) := ⟨_, rfl⟩
  refine PW.heap (h' := g52) eg52.symm ?_
  obtain ⟨N52, f52⟩ := N51.put' hx eg52
  refine pw_aload_n (pc2 := 249) dX10_init_248 rfl rfl 0 rfl (by first | exact rf_ref _ | exact rf_opt _ | exact rf_nul) ?_
  refine pw_bipush (pc2 := 251) (v := 8) dX10_init_249 rfl (by decide) ?_
  refine pw_bipush (pc2 := 253) (v := 8) dX10_init_251 rfl (by decide) ?_
  refine pw_mna (pc2 := 257) (ty := .boolean) (N' := 8) (K' := 8) (z := (8, .inl (fun _ => 0))) (cN := 9) (sN := 72) 7 1 rfl rfl (fun U c hc => hc) (fun U hU => hU.2.2.1.2.2.2) cl_X10_91 wa_687 (by decide) (by decide) (by decide) (by decide) (by decide) (by decide) (by decide) rfl rfl (fun c => rfl) rfl rfl dX10_init_253 rfl (fun q87 r100 hq53 gq53 hr53 hi53 => ?_)
  obtain ⟨g53, eg53⟩ : ∃ z : Nat → Option hE, z = upR g52 q87 (aR (.array .boolean) 8 (fun i => if i < 8 then some (r100 i) else none)) 8 r100 (.inl (.boolean, (8, .inl (fun _ => 0)))) := ⟨_, rfl⟩
  refine PW.heap (h' := g53) eg53.symm ?_
  obtain ⟨N53, f53⟩ := N52.rows' hx f52 87 100 eg53 hq53 gq53 hr53 hi53 (by decide) (by decide) (by decide) (fun i hi => hi) (fun i hi => hi)
  clear hq53 gq53 hr53 hi53
  refine pw_putF (pc2 := 260) kX10 (k := 28) (by decide) rfl rfl rfl rfl fl_X10_93 f53 (by first | decide | simp) (by first | rfl | exact nar_rf _ _) (by first | rfl | exact fit_rf _ _) dX10_init_257 rfl ?_
  obtain ⟨g54, eg54⟩ : ∃ z : Nat → Option hE, z = va_up g53 x (some (oB 13 [.ref q61, .ref q62, .ref q63, .ref q64, .ref q65, .ref q66, .ref q67, .ref q68, .ref q69, .ref q70, .ref q71, .ref q72, .ref q73, .ref q74, .ref q75, .ref q76, .int 0, .ref q77, .ref q78, .ref q79, .ref q80, .ref q81, .ref q82, .ref q83, .int 0, .ref q84, .ref q85, .ref q86, .ref q87, .null, .int 0, .int 0, .null, .int 0, .int 0, .int 0, .null, .int 0])) := ⟨_, rfl⟩
  refine PW.heap (h' := g54) eg54.symm ?_
  obtain ⟨N54, f54⟩ := N53.put' hx eg54
  refine pw_aload_n (pc2 := 261) dX10_init_260 rfl rfl 0 rfl (by first | exact rf_ref _ | exact rf_opt _ | exact rf_nul) ?_
  refine pw_bipush (pc2 := 263) (v := 8) dX10_init_261 rfl (by decide) ?_
  refine pw_newarr (pc2 := 265) (atype := .int) (a0 := (8, .inl (fun _ => 0))) 0 rfl rfl wa_95 (fun _ => rfl) (by decide) (by decide) (by decide) dX10_init_263 rfl (fun q88 hq55 gq55 => ?_)
  obtain ⟨g55, eg55⟩ : ∃ z : Nat → Option hE, z = va_up g54 q88 (some (aI 8 z0)) := ⟨_, rfl⟩
  refine PW.heap (h' := g55) eg55.symm ?_
  obtain ⟨N55, f55⟩ := N54.one' hx f54 88 eg55 hq55 gq55 (by decide) (fun i hi => hi)
  clear hq55 gq55
  refine pw_putF (pc2 := 268) kX10 (k := 29) (by decide) rfl rfl rfl rfl fl_X10_96 f55 (by first | decide | simp) (by first | rfl | exact nar_rf _ _) (by first | rfl | exact fit_rf _ _) dX10_init_265 rfl ?_
  obtain ⟨g56, eg56⟩ : ∃ z : Nat → Option hE, z = va_up g55 x (some (oB 13 [.ref q61, .ref q62, .ref q63, .ref q64, .ref q65, .ref q66, .ref q67, .ref q68, .ref q69, .ref q70, .ref q71, .ref q72, .ref q73, .ref q74, .ref q75, .ref q76, .int 0, .ref q77, .ref q78, .ref q79, .ref q80, .ref q81, .ref q82, .ref q83, .int 0, .ref q84, .ref q85, .ref q86, .ref q87, .ref q88, .int 0, .int 0, .null, .int 0, .int 0, .int 0, .null, .int 0])) := ⟨_, rfl⟩
  refine PW.heap (h' := g56) eg56.symm ?_
  obtain ⟨N56, f56⟩ := N55.put' hx eg56
  refine pw_aload_n (pc2 := 269) dX10_init_268 rfl rfl 0 rfl (by first | exact rf_ref _ | exact rf_opt _ | exact rf_nul) ?_
  refine pw_iconst (pc2 := 270) (v := 1) dX10_init_269 rfl (by decide) ?_
  refine pw_put (pc2 := 273) kX10 (k := 31) (by decide) rfl rfl fl_X10_99 f56 (by first | decide | simp) (by first | rfl | exact nar_rf _ _) (by first | rfl | exact fit_rf _ _) dX10_init_270 rfl ?_
  obtain ⟨g57, eg57⟩ : ∃ z : Nat → Option hE, z = va_up g56 x (some (oB 13 [.ref q61, .ref q62, .ref q63, .ref q64, .ref q65, .ref q66, .ref q67, .ref q68, .ref q69, .ref q70, .ref q71, .ref q72, .ref q73, .ref q74, .ref q75, .ref q76, .int 0, .ref q77, .ref q78, .ref q79, .ref q80, .ref q81, .ref q82, .ref q83, .int 0, .ref q84, .ref q85, .ref q86, .ref q87, .ref q88, .int 0, .int 1, .null, .int 0, .int 0, .int 0, .null, .int 0])) := ⟨_, rfl⟩
  refine PW.heap (h' := g57) eg57.symm ?_
  obtain ⟨N57, f57⟩ := N56.put' hx eg57
  refine pw_aload_n (pc2 := 274) dX10_init_273 rfl rfl 0 rfl (by first | exact rf_ref _ | exact rf_opt _ | exact rf_nul) ?_
  refine pw_iconst (pc2 := 275) (v := 3) dX10_init_274 rfl (by decide) ?_
  refine pw_newarr (pc2 := 277) (atype := .int) (a0 := (3, .inl (fun _ => 0))) 0 rfl rfl wa_95 (fun _ => rfl) (by decide) (by decide) (by decide) dX10_init_275 rfl (fun q89 hq58 gq58 => ?_)
  obtain ⟨g58, eg58⟩ : ∃ z : Nat → Option hE, z = va_up g57 q89 (some (aI 3 z0)) := ⟨_, rfl⟩
  refine PW.heap (h' := g58) eg58.symm ?_
  obtain ⟨N58, f58⟩ := N57.one' hx f57 89 eg58 hq58 gq58 (by decide) (fun i hi => hi)
  clear hq58 gq58
  refine pw_putF (pc2 := 280) kX10 (k := 32) (by decide) rfl rfl rfl rfl fl_X10_103 f58 (by first | decide | simp) (by first | rfl | exact nar_rf _ _) (by first | rfl | exact fit_rf _ _) dX10_init_277 rfl ?_
  obtain ⟨g59, eg59⟩ : ∃ z : Nat → Option hE, z = va_up g58 x (some (oB 13 [.ref q61, .ref q62, .ref q63, .ref q64, .ref q65, .ref q66, .ref q67, .ref q68, .ref q69, .ref q70, .ref q71, .ref q72, .ref q73, .ref q74, .ref q75, .ref q76, .int 0, .ref q77, .ref q78, .ref q79, .ref q80, .ref q81, .ref q82, .ref q83, .int 0, .ref q84, .ref q85, .ref q86, .ref q87, .ref q88, .int 0, .int 1, .ref q89, .int 0, .int 0, .int 0, .null, .int 0])) := ⟨_, rfl⟩
  refine PW.heap (h' := g59) eg59.symm ?_
  obtain ⟨N59, f59⟩ := N58.put' hx eg59
  refine pw_aload_n (pc2 := 281) dX10_init_280 rfl rfl 0 rfl (by first | exact rf_ref _ | exact rf_opt _ | exact rf_nul) ?_
  refine pw_bipush (pc2 := 283) (v := 6) dX10_init_281 rfl (by decide) ?_
  refine pw_newarr (pc2 := 285) (atype := .int) (a0 := (6, .inl (fun _ => 0))) 0 rfl rfl wa_95 (fun _ => rfl) (by decide) (by decide) (by decide) dX10_init_283 rfl (fun q90 hq60 gq60 => ?_)
  obtain ⟨g60, eg60⟩ : ∃ z : Nat → Option hE, z = va_up g59 q90 (some (aI 6 z0)) := ⟨_, rfl⟩
  refine PW.heap (h' := g60) eg60.symm ?_
  obtain ⟨N60, f60⟩ := N59.one' hx f59 90 eg60 hq60 gq60 (by decide) (fun i hi => hi)
  clear hq60 gq60
  refine pw_putF (pc2 := 288) kX10 (k := 36) (by decide) rfl rfl rfl rfl fl_X10_106 f60 (by first | decide | simp) (by first | rfl | exact nar_rf _ _) (by first | rfl | exact fit_rf _ _) dX10_init_285 rfl ?_
  obtain ⟨g61, eg61⟩ : ∃ z : Nat → Option hE, z = va_up g60 x (some (oB 13 [.ref q61, .ref q62, .ref q63, .ref q64, .ref q65, .ref q66, .ref q67, .ref q68, .ref q69, .ref q70, .ref q71, .ref q72, .ref q73, .ref q74, .ref q75, .ref q76, .int 0, .ref q77, .ref q78, .ref q79, .ref q80, .ref q81, .ref q82, .ref q83, .int 0, .ref q84, .ref q85, .ref q86, .ref q87, .ref q88, .int 0, .int 1, .ref q89, .int 0, .int 0, .int 0, .ref q90, .int 0])) := ⟨_, rfl⟩
  refine PW.heap (h' := g61) eg61.symm ?_
  obtain ⟨N61, f61⟩ := N60.put' hx eg61
  refine pw_vret dX10_init_288 rfl ?_
  refine ⟨rfl, _, fun t i h1 h2 => ?_, fun t i u j h1 h1' h2 h2' e => N61.2.1 t i u j (vd_mem h1 h2) (vd_mem h1' h2') h2 h2' e, N61.2.2, f61⟩
  have z := N61.1 t i (vd_mem h1 h2) h2
  refine ⟨z.1.trans ?_, z.2⟩
  unfold vd at h2
  split at h2 <;> first | omega | exact h2.elim | rfl
