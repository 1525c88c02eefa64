/-! the law's own methods: what was thrown is told by a number -/
/-- what such a method does: the call's answer lies in the row, or what it threw is told -/
def QW (Qc : Option Value → hp → Prop) (Xc : String → hp → Prop) (o : Nat) (cd : List (String × Int32)) : Option Value → hp → Prop := fun r h2 => (∃ v h1, Qc (some (.int v)) h1 ∧ r = some (.int 0) ∧ ∃ f : Nat → Int64, h2 = va_up h1 o (some (aL 1 f)) ∧ f 0 = Int32.toInt64 v) ∨ ∃ C n, Xc C h2 ∧ cd.lookup C = some n ∧ r = some (.int n)
def QWf (Qc : Option Value → hp → Prop) (Xc : String → hp → Prop) (o : Nat) (cd : List (String × Int32)) : Option Value → hp → Prop := fun r h2 => (∃ v h1, Qc (some (.float v)) h1 ∧ r = some (.int 0) ∧ ∃ f : Nat → UInt64, h2 = va_up h1 o (some (aD 1 f)) ∧ f 0 = FP.f2d v) ∨ ∃ C n, Xc C h2 ∧ cd.lookup C = some n ∧ r = some (.int n)
def QWd (Qc : Option Value → hp → Prop) (Xc : String → hp → Prop) (o : Nat) (cd : List (String × Int32)) : Option Value → hp → Prop := fun r h2 => (∃ v h1, Qc (some (.double v)) h1 ∧ r = some (.int 0) ∧ ∃ f : Nat → UInt64, h2 = va_up h1 o (some (aD 1 f)) ∧ f 0 = v) ∨ ∃ C n, Xc C h2 ∧ cd.lookup C = some n ∧ r = some (.int n)
set_option maxHeartbeats 4000000 in
set_option maxRecDepth 100000 in
theorem w_addPackage (G : hG) (h : hp) {x o : Nat} {p0 : Int32} {k kc ks : Nat} {fs : List Value} {Qc : Option Value → hp → Prop} {Xc : String → hp → Prop} (hx : h x = some (oB 12 fs)) (hc : PMet G MX9_addPackage k kc ks [.ref x, .int p0] h Qc Xc) (hQ : ∀ r h1, Qc r h1 → ∃ v f, r = some (.int v) ∧ h1 o = some (aL 1 f)) (hX : ∀ C h1, Xc C h1 → C = xIA ∨ C = xIS) : PMet G ML_addPackage (k + 1) (0 + kc) (0 + ks) [.ref x, .int p0, .ref o] h (QW Qc Xc o [(xIA, 1), (xIS, 2)]) noX := by
  refine PMet.of (by decide +kernel) (Nat.le_of_ble_eq_true rfl) (fun d hd => ?_)
  refine PW.sub (L2 := [(0, Value.ref x), (1, Value.int p0), (2, Value.ref o)]) [0, 1, 2] rfl ?_
  refine pw_aload_n (pc2 := 1) dL_addPackage_0 rfl rfl 2 rfl (by first | exact rf_ref _ | exact rf_opt _ | exact rf_nul) ?_
  refine pw_iconst (pc2 := 2) (v := 0) dL_addPackage_1 rfl (by decide) ?_
  refine pw_aload_n (pc2 := 3) dL_addPackage_2 rfl rfl 0 rfl (by first | exact rf_ref _ | exact rf_opt _ | exact rf_nul) ?_
  refine pw_iload_n (pc2 := 4) dL_addPackage_3 rfl rfl 1 rfl ?_
  refine pw_callV (pc2 := 7) hc cs_L_7 rfl rfl hx dL_addPackage_4 rfl (by omega) rfl (by first | decide | simp [cat_rf, Value.category]) (fun r9 h9 q9 => ?_) (fun Y h9 q9 => ?_)
  rotate_left
  · rcases hX Y h9 q9 with rfl | rfl
    · refine px_catch [] [(0, 9, 15, 15)] (0, 9, 12, 13) rfl (fun z hz => absurd hz List.not_mem_nil) (by decide) (by decide) cl_L_13 ca_IllegalArgumentException__IllegalArgumentException (fun q => ?_)
      refine pw_astore_n (pc2 := 13) (L2 := [(3, Value.ref q), (0, Value.ref x), (1, Value.int p0), (2, Value.ref o)]) dL_addPackage_12 rfl rfl (by decide) (by first | exact rf_ref _ | exact rf_opt _ | exact rf_nul) rfl ?_
      refine pw_iconst (pc2 := 14) (v := 1) dL_addPackage_13 rfl (by decide) ?_
      refine pw_iret dL_addPackage_14 rfl (by first | rfl | assumption | simp [narrow]) ?_
      exact Or.inr ⟨_, _, q9, by decide +kernel, rfl⟩
    · refine px_catch [(0, 9, 12, 13)] [] (0, 9, 15, 15) rfl (fun z hz => by simp only [List.mem_cons, List.not_mem_nil, or_false] at hz; subst hz <;> first | exact Or.inr ⟨by decide, _, cl_L_13, by decide +kernel⟩) (by decide) (by decide) cl_L_15 ca_IllegalStateException__IllegalStateException (fun q => ?_)
      refine pw_astore_n (pc2 := 16) (L2 := [(3, Value.ref q), (0, Value.ref x), (1, Value.int p0), (2, Value.ref o)]) dL_addPackage_15 rfl rfl (by decide) (by first | exact rf_ref _ | exact rf_opt _ | exact rf_nul) rfl ?_
      refine pw_iconst (pc2 := 17) (v := 2) dL_addPackage_16 rfl (by decide) ?_
      refine pw_iret dL_addPackage_17 rfl (by first | rfl | assumption | simp [narrow]) ?_
      exact Or.inr ⟨_, _, q9, by decide +kernel, rfl⟩
  obtain ⟨v, f, rfl, ho⟩ := hQ _ _ q9
  refine pw_i2l (pc2 := 8) dL_addPackage_7 rfl ?_
  refine pw_last (pc2 := 9) ho (by unfold vp_in; decide) dL_addPackage_8 rfl ?_
  refine pw_goto (tgt := 18) dL_addPackage_9 (by decide) ?_
  refine pw_iconst (pc2 := 19) (v := 0) dL_addPackage_18 rfl (by decide) ?_
  refine pw_iret dL_addPackage_19 rfl (by first | rfl | assumption | simp [narrow]) ?_
  exact Or.inl ⟨v, h9, q9, rfl, _, rfl, rfl⟩
set_option maxHeartbeats 4000000 in
set_option maxRecDepth 100000 in
theorem w_setSource (G : hG) (h : hp) {x o : Nat} {p0 p1 p2 : Int32} {k kc ks : Nat} {fs : List Value} {Qc : Option Value → hp → Prop} {Xc : String → hp → Prop} (hx : h x = some (oB 12 fs)) (hc : PMet G MX9_setSource k kc ks [.ref x, .int p0, .int p1, .int p2] h Qc Xc) (hQ : ∀ r h1, Qc r h1 → ∃ v f, r = some (.int v) ∧ h1 o = some (aL 1 f)) (hX : ∀ C h1, Xc C h1 → C = xIO ∨ C = xIA) : PMet G ML_setSource (k + 1) (0 + kc) (0 + ks) [.ref x, .int p0, .int p1, .int p2, .ref o] h (QW Qc Xc o [(xIO, 1), (xIA, 2)]) noX := by
  refine PMet.of (by decide +kernel) (Nat.le_of_ble_eq_true rfl) (fun d hd => ?_)
  refine PW.sub (L2 := [(0, Value.ref x), (1, Value.int p0), (2, Value.int p1), (3, Value.int p2), (4, Value.ref o)]) [0, 1, 2, 3, 4] rfl ?_
  refine pw_aload (pc2 := 2) dL_setSource_0 rfl 4 rfl (by first | exact rf_ref _ | exact rf_opt _ | exact rf_nul) ?_
  refine pw_iconst (pc2 := 3) (v := 0) dL_setSource_2 rfl (by decide) ?_
  refine pw_aload_n (pc2 := 4) dL_setSource_3 rfl rfl 0 rfl (by first | exact rf_ref _ | exact rf_opt _ | exact rf_nul) ?_
  refine pw_iload_n (pc2 := 5) dL_setSource_4 rfl rfl 1 rfl ?_
  refine pw_iload_n (pc2 := 6) dL_setSource_5 rfl rfl 2 rfl ?_
  refine pw_iload_n (pc2 := 7) dL_setSource_6 rfl rfl 3 rfl ?_
  refine pw_callV (pc2 := 10) hc cs_L_17 rfl rfl hx dL_setSource_7 rfl (by omega) rfl (by first | decide | simp [cat_rf, Value.category]) (fun r9 h9 q9 => ?_) (fun Y h9 q9 => ?_)
  rotate_left
  · rcases hX Y h9 q9 with rfl | rfl
    · refine px_catch [] [(0, 12, 19, 13)] (0, 12, 15, 21) rfl (fun z hz => absurd hz List.not_mem_nil) (by decide) (by decide) cl_L_21 ca_IndexOutOfBoundsException__IndexOutOfBoundsException (fun q => ?_)
      refine pw_astore (pc2 := 17) (L2 := [(5, Value.ref q), (0, Value.ref x), (1, Value.int p0), (2, Value.int p1), (3, Value.int p2), (4, Value.ref o)]) dL_setSource_15 rfl (by decide) (by first | exact rf_ref _ | exact rf_opt _ | exact rf_nul) rfl ?_
      refine pw_iconst (pc2 := 18) (v := 1) dL_setSource_17 rfl (by decide) ?_
      refine pw_iret dL_setSource_18 rfl (by first | rfl | assumption | simp [narrow]) ?_
      exact Or.inr ⟨_, _, q9, by decide +kernel, rfl⟩
    · refine px_catch [(0, 12, 15, 21)] [] (0, 12, 19, 13) rfl (fun z hz => by simp only [List.mem_cons, List.not_mem_nil, or_false] at hz; subst hz <;> first | exact Or.inr ⟨by decide, _, cl_L_21, by decide +kernel⟩) (by decide) (by decide) cl_L_13 ca_IllegalArgumentException__IllegalArgumentException (fun q => ?_)
      refine pw_astore (pc2 := 21) (L2 := [(5, Value.ref q), (0, Value.ref x), (1, Value.int p0), (2, Value.int p1), (3, Value.int p2), (4, Value.ref o)]) dL_setSource_19 rfl (by decide) (by first | exact rf_ref _ | exact rf_opt _ | exact rf_nul) rfl ?_
      refine pw_iconst (pc2 := 22) (v := 2) dL_setSource_21 rfl (by decide) ?_
      refine pw_iret dL_setSource_22 rfl (by first | rfl | assumption | simp [narrow]) ?_
      exact Or.inr ⟨_, _, q9, by decide +kernel, rfl⟩
  obtain ⟨v, f, rfl, ho⟩ := hQ _ _ q9
  refine pw_i2l (pc2 := 11) dL_setSource_10 rfl ?_
  refine pw_last (pc2 := 12) ho (by unfold vp_in; decide) dL_setSource_11 rfl ?_
  refine pw_goto (tgt := 23) dL_setSource_12 (by decide) ?_
  refine pw_iconst (pc2 := 24) (v := 0) dL_setSource_23 rfl (by decide) ?_
  refine pw_iret dL_setSource_24 rfl (by first | rfl | assumption | simp [narrow]) ?_
  exact Or.inl ⟨v, h9, q9, rfl, _, rfl, rfl⟩
set_option maxHeartbeats 4000000 in
set_option maxRecDepth 100000 in
theorem w_need (G : hG) (h : hp) {x o : Nat} {p0 p1 p2 p3 : Int32} {k kc ks : Nat} {fs : List Value} {Qc : Option Value → hp → Prop} {Xc : String → hp → Prop} (hx : h x = some (oB 12 fs)) (hc : PMet G MX9_need k kc ks [.ref x, .int p0, .int p1, .int p2, .int p3] h Qc Xc) (hQ : ∀ r h1, Qc r h1 → ∃ v f, r = some (.int v) ∧ h1 o = some (aL 1 f)) (hX : ∀ C h1, Xc C h1 → C = xIO ∨ C = xIA) : PMet G ML_need (k + 1) (0 + kc) (0 + ks) [.ref x, .int p0, .int p1, .int p2, .int p3, .ref o] h (QW Qc Xc o [(xIO, 1), (xIA, 2)]) noX := by
  refine PMet.of (by decide +kernel) (Nat.le_of_ble_eq_true rfl) (fun d hd => ?_)
  refine PW.sub (L2 := [(0, Value.ref x), (1, Value.int p0), (2, Value.int p1), (3, Value.int p2), (4, Value.int p3), (5, Value.ref o)]) [0, 1, 2, 3, 4, 5] rfl ?_
  refine pw_aload (pc2 := 2) dL_need_0 rfl 5 rfl (by first | exact rf_ref _ | exact rf_opt _ | exact rf_nul) ?_
  refine pw_iconst (pc2 := 3) (v := 0) dL_need_2 rfl (by decide) ?_
  refine pw_aload_n (pc2 := 4) dL_need_3 rfl rfl 0 rfl (by first | exact rf_ref _ | exact rf_opt _ | exact rf_nul) ?_
  refine pw_iload_n (pc2 := 5) dL_need_4 rfl rfl 1 rfl ?_
  refine pw_iload_n (pc2 := 6) dL_need_5 rfl rfl 2 rfl ?_
  refine pw_iload_n (pc2 := 7) dL_need_6 rfl rfl 3 rfl ?_
  refine pw_iload (pc2 := 9) dL_need_7 rfl 4 rfl ?_
  refine pw_callV (pc2 := 12) hc cs_L_23 rfl rfl hx dL_need_9 rfl (by omega) rfl (by first | decide | simp [cat_rf, Value.category]) (fun r9 h9 q9 => ?_) (fun Y h9 q9 => ?_)
  rotate_left
  · rcases hX Y h9 q9 with rfl | rfl
    · refine px_catch [] [(0, 14, 21, 13)] (0, 14, 17, 21) rfl (fun z hz => absurd hz List.not_mem_nil) (by decide) (by decide) cl_L_21 ca_IndexOutOfBoundsException__IndexOutOfBoundsException (fun q => ?_)
      refine pw_astore (pc2 := 19) (L2 := [(6, Value.ref q), (0, Value.ref x), (1, Value.int p0), (2, Value.int p1), (3, Value.int p2), (4, Value.int p3), (5, Value.ref o)]) dL_need_17 rfl (by decide) (by first | exact rf_ref _ | exact rf_opt _ | exact rf_nul) rfl ?_
      refine pw_iconst (pc2 := 20) (v := 1) dL_need_19 rfl (by decide) ?_
      refine pw_iret dL_need_20 rfl (by first | rfl | assumption | simp [narrow]) ?_
      exact Or.inr ⟨_, _, q9, by decide +kernel, rfl⟩
    · refine px_catch [(0, 14, 17, 21)] [] (0, 14, 21, 13) rfl (fun z hz => by simp only [List.mem_cons, List.not_mem_nil, or_false] at hz; subst hz <;> first | exact Or.inr ⟨by decide, _, cl_L_21, by decide +kernel⟩) (by decide) (by decide) cl_L_13 ca_IllegalArgumentException__IllegalArgumentException (fun q => ?_)
      refine pw_astore (pc2 := 23) (L2 := [(6, Value.ref q), (0, Value.ref x), (1, Value.int p0), (2, Value.int p1), (3, Value.int p2), (4, Value.int p3), (5, Value.ref o)]) dL_need_21 rfl (by decide) (by first | exact rf_ref _ | exact rf_opt _ | exact rf_nul) rfl ?_
      refine pw_iconst (pc2 := 24) (v := 2) dL_need_23 rfl (by decide) ?_
      refine pw_iret dL_need_24 rfl (by first | rfl | assumption | simp [narrow]) ?_
      exact Or.inr ⟨_, _, q9, by decide +kernel, rfl⟩
  obtain ⟨v, f, rfl, ho⟩ := hQ _ _ q9
  refine pw_i2l (pc2 := 13) dL_need_12 rfl ?_
  refine pw_last (pc2 := 14) ho (by unfold vp_in; decide) dL_need_13 rfl ?_
  refine pw_goto (tgt := 25) dL_need_14 (by decide) ?_
  refine pw_iconst (pc2 := 26) (v := 0) dL_need_25 rfl (by decide) ?_
  refine pw_iret dL_need_26 rfl (by first | rfl | assumption | simp [narrow]) ?_
  exact Or.inl ⟨v, h9, q9, rfl, _, rfl, rfl⟩
set_option maxHeartbeats 4000000 in
set_option maxRecDepth 100000 in
theorem w_dropNeed (G : hG) (h : hp) {x o : Nat} {p0 p1 : Int32} {k kc ks : Nat} {fs : List Value} {Qc : Option Value → hp → Prop} {Xc : String → hp → Prop} (hx : h x = some (oB 12 fs)) (hc : PMet G MX9_dropNeed k kc ks [.ref x, .int p0, .int p1] h Qc Xc) (hQ : ∀ r h1, Qc r h1 → ∃ v f, r = some (.int v) ∧ h1 o = some (aL 1 f)) (hX : ∀ C h1, Xc C h1 → C = xIO ∨ C = nsN) : PMet G ML_dropNeed (k + 1) (0 + kc) (0 + ks) [.ref x, .int p0, .int p1, .ref o] h (QW Qc Xc o [(xIO, 1), (nsN, 2)]) noX := by
  refine PMet.of (by decide +kernel) (Nat.le_of_ble_eq_true rfl) (fun d hd => ?_)
  refine PW.sub (L2 := [(0, Value.ref x), (1, Value.int p0), (2, Value.int p1), (3, Value.ref o)]) [0, 1, 2, 3] rfl ?_
  refine pw_aload_n (pc2 := 1) dL_dropNeed_0 rfl rfl 3 rfl (by first | exact rf_ref _ | exact rf_opt _ | exact rf_nul) ?_
  refine pw_iconst (pc2 := 2) (v := 0) dL_dropNeed_1 rfl (by decide) ?_
  refine pw_aload_n (pc2 := 3) dL_dropNeed_2 rfl rfl 0 rfl (by first | exact rf_ref _ | exact rf_opt _ | exact rf_nul) ?_
  refine pw_iload_n (pc2 := 4) dL_dropNeed_3 rfl rfl 1 rfl ?_
  refine pw_iload_n (pc2 := 5) dL_dropNeed_4 rfl rfl 2 rfl ?_
  refine pw_callV (pc2 := 8) hc cs_L_27 rfl rfl hx dL_dropNeed_5 rfl (by omega) rfl (by first | decide | simp [cat_rf, Value.category]) (fun r9 h9 q9 => ?_) (fun Y h9 q9 => ?_)
  rotate_left
  · rcases hX Y h9 q9 with rfl | rfl
    · refine px_catch [] [(0, 10, 17, 31)] (0, 10, 13, 21) rfl (fun z hz => absurd hz List.not_mem_nil) (by decide) (by decide) cl_L_21 ca_IndexOutOfBoundsException__IndexOutOfBoundsException (fun q => ?_)
      refine pw_astore (pc2 := 15) (L2 := [(4, Value.ref q), (0, Value.ref x), (1, Value.int p0), (2, Value.int p1), (3, Value.ref o)]) dL_dropNeed_13 rfl (by decide) (by first | exact rf_ref _ | exact rf_opt _ | exact rf_nul) rfl ?_
      refine pw_iconst (pc2 := 16) (v := 1) dL_dropNeed_15 rfl (by decide) ?_
      refine pw_iret dL_dropNeed_16 rfl (by first | rfl | assumption | simp [narrow]) ?_
      exact Or.inr ⟨_, _, q9, by decide +kernel, rfl⟩
    · refine px_catch [(0, 10, 13, 21)] [] (0, 10, 17, 31) rfl (fun z hz => by simp only [List.mem_cons, List.not_mem_nil, or_false] at hz; subst hz <;> first | exact Or.inr ⟨by decide, _, cl_L_21, by decide +kernel⟩) (by decide) (by decide) cl_L_31 ca_NoSuchElementException__NoSuchElementException (fun q => ?_)
      refine pw_astore (pc2 := 19) (L2 := [(4, Value.ref q), (0, Value.ref x), (1, Value.int p0), (2, Value.int p1), (3, Value.ref o)]) dL_dropNeed_17 rfl (by decide) (by first | exact rf_ref _ | exact rf_opt _ | exact rf_nul) rfl ?_
      refine pw_iconst (pc2 := 20) (v := 2) dL_dropNeed_19 rfl (by decide) ?_
      refine pw_iret dL_dropNeed_20 rfl (by first | rfl | assumption | simp [narrow]) ?_
      exact Or.inr ⟨_, _, q9, by decide +kernel, rfl⟩
  obtain ⟨v, f, rfl, ho⟩ := hQ _ _ q9
  refine pw_i2l (pc2 := 9) dL_dropNeed_8 rfl ?_
  refine pw_last (pc2 := 10) ho (by unfold vp_in; decide) dL_dropNeed_9 rfl ?_
  refine pw_goto (tgt := 21) dL_dropNeed_10 (by decide) ?_
  refine pw_iconst (pc2 := 22) (v := 0) dL_dropNeed_21 rfl (by decide) ?_
  refine pw_iret dL_dropNeed_22 rfl (by first | rfl | assumption | simp [narrow]) ?_
  exact Or.inl ⟨v, h9, q9, rfl, _, rfl, rfl⟩
set_option maxHeartbeats 4000000 in
set_option maxRecDepth 100000 in
theorem w_chosen (G : hG) (h : hp) {x o : Nat} {p0 p1 : Int32} {k kc ks : Nat} {fs : List Value} {Qc : Option Value → hp → Prop} {Xc : String → hp → Prop} (hx : h x = some (oB 12 fs)) (hc : PMet G MX9_chosen k kc ks [.ref x, .int p0, .int p1] h Qc Xc) (hQ : ∀ r h1, Qc r h1 → ∃ v f, r = some (.int v) ∧ h1 o = some (aL 1 f)) (hX : ∀ C h1, Xc C h1 → C = xIO ∨ C = xUO) : PMet G ML_chosen (k + 1) (0 + kc) (0 + ks) [.ref x, .int p0, .int p1, .ref o] h (QW Qc Xc o [(xIO, 1), (xUO, 2)]) noX := by
  refine PMet.of (by decide +kernel) (Nat.le_of_ble_eq_true rfl) (fun d hd => ?_)
  refine PW.sub (L2 := [(0, Value.ref x), (1, Value.int p0), (2, Value.int p1), (3, Value.ref o)]) [0, 1, 2, 3] rfl ?_
  refine pw_aload_n (pc2 := 1) dL_chosen_0 rfl rfl 3 rfl (by first | exact rf_ref _ | exact rf_opt _ | exact rf_nul) ?_
  refine pw_iconst (pc2 := 2) (v := 0) dL_chosen_1 rfl (by decide) ?_
  refine pw_aload_n (pc2 := 3) dL_chosen_2 rfl rfl 0 rfl (by first | exact rf_ref _ | exact rf_opt _ | exact rf_nul) ?_
  refine pw_iload_n (pc2 := 4) dL_chosen_3 rfl rfl 1 rfl ?_
  refine pw_iload_n (pc2 := 5) dL_chosen_4 rfl rfl 2 rfl ?_
  refine pw_callV (pc2 := 8) hc cs_L_33 rfl rfl hx dL_chosen_5 rfl (by omega) rfl (by first | decide | simp [cat_rf, Value.category]) (fun r9 h9 q9 => ?_) (fun Y h9 q9 => ?_)
  rotate_left
  · rcases hX Y h9 q9 with rfl | rfl
    · refine px_catch [] [(0, 10, 17, 36)] (0, 10, 13, 21) rfl (fun z hz => absurd hz List.not_mem_nil) (by decide) (by decide) cl_L_21 ca_IndexOutOfBoundsException__IndexOutOfBoundsException (fun q => ?_)
      refine pw_astore (pc2 := 15) (L2 := [(4, Value.ref q), (0, Value.ref x), (1, Value.int p0), (2, Value.int p1), (3, Value.ref o)]) dL_chosen_13 rfl (by decide) (by first | exact rf_ref _ | exact rf_opt _ | exact rf_nul) rfl ?_
      refine pw_iconst (pc2 := 16) (v := 1) dL_chosen_15 rfl (by decide) ?_
      refine pw_iret dL_chosen_16 rfl (by first | rfl | assumption | simp [narrow]) ?_
      exact Or.inr ⟨_, _, q9, by decide +kernel, rfl⟩
    · refine px_catch [(0, 10, 13, 21)] [] (0, 10, 17, 36) rfl (fun z hz => by simp only [List.mem_cons, List.not_mem_nil, or_false] at hz; subst hz <;> first | exact Or.inr ⟨by decide, _, cl_L_21, by decide +kernel⟩) (by decide) (by decide) cl_L_36 ca_UnsupportedOperationException__UnsupportedOperationException (fun q => ?_)
      refine pw_astore (pc2 := 19) (L2 := [(4, Value.ref q), (0, Value.ref x), (1, Value.int p0), (2, Value.int p1), (3, Value.ref o)]) dL_chosen_17 rfl (by decide) (by first | exact rf_ref _ | exact rf_opt _ | exact rf_nul) rfl ?_
      refine pw_iconst (pc2 := 20) (v := 2) dL_chosen_19 rfl (by decide) ?_
      refine pw_iret dL_chosen_20 rfl (by first | rfl | assumption | simp [narrow]) ?_
      exact Or.inr ⟨_, _, q9, by decide +kernel, rfl⟩
  obtain ⟨v, f, rfl, ho⟩ := hQ _ _ q9
  refine pw_i2l (pc2 := 9) dL_chosen_8 rfl ?_
  refine pw_last (pc2 := 10) ho (by unfold vp_in; decide) dL_chosen_9 rfl ?_
  refine pw_goto (tgt := 21) dL_chosen_10 (by decide) ?_
  refine pw_iconst (pc2 := 22) (v := 0) dL_chosen_21 rfl (by decide) ?_
  refine pw_iret dL_chosen_22 rfl (by first | rfl | assumption | simp [narrow]) ?_
  exact Or.inl ⟨v, h9, q9, rfl, _, rfl, rfl⟩
set_option maxHeartbeats 4000000 in
set_option maxRecDepth 100000 in
theorem w_chosenByAll (G : hG) (h : hp) {x o : Nat} {p0 p1 : Int32} {k kc ks : Nat} {fs : List Value} {Qc : Option Value → hp → Prop} {Xc : String → hp → Prop} (hx : h x = some (oB 12 fs)) (hc : PMet G MX9_chosenByAll k kc ks [.ref x, .int p0, .int p1] h Qc Xc) (hQ : ∀ r h1, Qc r h1 → ∃ v f, r = some (.int v) ∧ h1 o = some (aL 1 f)) (hX : ∀ C h1, Xc C h1 → C = xIO ∨ C = xUO) : PMet G ML_chosenByAll (k + 1) (0 + kc) (0 + ks) [.ref x, .int p0, .int p1, .ref o] h (QW Qc Xc o [(xIO, 1), (xUO, 2)]) noX := by
  refine PMet.of (by decide +kernel) (Nat.le_of_ble_eq_true rfl) (fun d hd => ?_)
  refine PW.sub (L2 := [(0, Value.ref x), (1, Value.int p0), (2, Value.int p1), (3, Value.ref o)]) [0, 1, 2, 3] rfl ?_
  refine pw_aload_n (pc2 := 1) dL_chosenByAll_0 rfl rfl 3 rfl (by first | exact rf_ref _ | exact rf_opt _ | exact rf_nul) ?_
  refine pw_iconst (pc2 := 2) (v := 0) dL_chosenByAll_1 rfl (by decide) ?_
  refine pw_aload_n (pc2 := 3) dL_chosenByAll_2 rfl rfl 0 rfl (by first | exact rf_ref _ | exact rf_opt _ | exact rf_nul) ?_
  refine pw_iload_n (pc2 := 4) dL_chosenByAll_3 rfl rfl 1 rfl ?_
  refine pw_iload_n (pc2 := 5) dL_chosenByAll_4 rfl rfl 2 rfl ?_
  refine pw_callV (pc2 := 8) hc cs_L_38 rfl rfl hx dL_chosenByAll_5 rfl (by omega) rfl (by first | decide | simp [cat_rf, Value.category]) (fun r9 h9 q9 => ?_) (fun Y h9 q9 => ?_)
  rotate_left
  · rcases hX Y h9 q9 with rfl | rfl
    · refine px_catch [] [(0, 10, 17, 36)] (0, 10, 13, 21) rfl (fun z hz => absurd hz List.not_mem_nil) (by decide) (by decide) cl_L_21 ca_IndexOutOfBoundsException__IndexOutOfBoundsException (fun q => ?_)
      refine pw_astore (pc2 := 15) (L2 := [(4, Value.ref q), (0, Value.ref x), (1, Value.int p0), (2, Value.int p1), (3, Value.ref o)]) dL_chosenByAll_13 rfl (by decide) (by first | exact rf_ref _ | exact rf_opt _ | exact rf_nul) rfl ?_
      refine pw_iconst (pc2 := 16) (v := 1) dL_chosenByAll_15 rfl (by decide) ?_
      refine pw_iret dL_chosenByAll_16 rfl (by first | rfl | assumption | simp [narrow]) ?_
      exact Or.inr ⟨_, _, q9, by decide +kernel, rfl⟩
    · refine px_catch [(0, 10, 13, 21)] [] (0, 10, 17, 36) rfl (fun z hz => by simp only [List.mem_cons, List.not_mem_nil, or_false] at hz; subst hz <;> first | exact Or.inr ⟨by decide, _, cl_L_21, by decide +kernel⟩) (by decide) (by decide) cl_L_36 ca_UnsupportedOperationException__UnsupportedOperationException (fun q => ?_)
      refine pw_astore (pc2 := 19) (L2 := [(4, Value.ref q), (0, Value.ref x), (1, Value.int p0), (2, Value.int p1), (3, Value.ref o)]) dL_chosenByAll_17 rfl (by decide) (by first | exact rf_ref _ | exact rf_opt _ | exact rf_nul) rfl ?_
      refine pw_iconst (pc2 := 20) (v := 2) dL_chosenByAll_19 rfl (by decide) ?_
      refine pw_iret dL_chosenByAll_20 rfl (by first | rfl | assumption | simp [narrow]) ?_
      exact Or.inr ⟨_, _, q9, by decide +kernel, rfl⟩
  obtain ⟨v, f, rfl, ho⟩ := hQ _ _ q9
  refine pw_i2l (pc2 := 9) dL_chosenByAll_8 rfl ?_
  refine pw_last (pc2 := 10) ho (by unfold vp_in; decide) dL_chosenByAll_9 rfl ?_
  refine pw_goto (tgt := 21) dL_chosenByAll_10 (by decide) ?_
  refine pw_iconst (pc2 := 22) (v := 0) dL_chosenByAll_21 rfl (by decide) ?_
  refine pw_iret dL_chosenByAll_22 rfl (by first | rfl | assumption | simp [narrow]) ?_
  exact Or.inl ⟨v, h9, q9, rfl, _, rfl, rfl⟩
set_option maxHeartbeats 4000000 in
set_option maxRecDepth 100000 in
theorem w_compile (G : hG) (h : hp) {x o : Nat} {p0 : Int32} {k kc ks : Nat} {fs : List Value} {Qc : Option Value → hp → Prop} {Xc : String → hp → Prop} (hx : h x = some (oB 12 fs)) (hc : PMet G MX9_compile k kc ks [.ref x, .int p0] h Qc Xc) (hQ : ∀ r h1, Qc r h1 → ∃ v f, r = some (.int v) ∧ h1 o = some (aL 1 f) ∧ b01 v) (hX : ∀ C h1, Xc C h1 → C = xIO ∨ C = xUO) : PMet G ML_compile (k + 1) (0 + kc) (0 + ks) [.ref x, .int p0, .ref o] h (QW Qc Xc o [(xIO, 1), (xUO, 2)]) noX := by
  refine PMet.of (by decide +kernel) (Nat.le_of_ble_eq_true rfl) (fun d hd => ?_)
  refine PW.sub (L2 := [(0, Value.ref x), (1, Value.int p0), (2, Value.ref o)]) [0, 1, 2] rfl ?_
  refine pw_aload_n (pc2 := 1) dL_compile_0 rfl rfl 2 rfl (by first | exact rf_ref _ | exact rf_opt _ | exact rf_nul) ?_
  refine pw_iconst (pc2 := 2) (v := 0) dL_compile_1 rfl (by decide) ?_
  refine pw_aload_n (pc2 := 3) dL_compile_2 rfl rfl 0 rfl (by first | exact rf_ref _ | exact rf_opt _ | exact rf_nul) ?_
  refine pw_iload_n (pc2 := 4) dL_compile_3 rfl rfl 1 rfl ?_
  refine pw_callV (pc2 := 7) hc cs_L_41 rfl rfl hx dL_compile_4 rfl (by omega) rfl (by first | decide | simp [cat_rf, Value.category]) (fun r9 h9 q9 => ?_) (fun Y h9 q9 => ?_)
  rotate_left
  · rcases hX Y h9 q9 with rfl | rfl
    · refine px_catch [] [(0, 16, 22, 36)] (0, 16, 19, 21) rfl (fun z hz => absurd hz List.not_mem_nil) (by decide) (by decide) cl_L_21 ca_IndexOutOfBoundsException__IndexOutOfBoundsException (fun q => ?_)
      refine pw_astore_n (pc2 := 20) (L2 := [(3, Value.ref q), (0, Value.ref x), (1, Value.int p0), (2, Value.ref o)]) dL_compile_19 rfl rfl (by decide) (by first | exact rf_ref _ | exact rf_opt _ | exact rf_nul) rfl ?_
      refine pw_iconst (pc2 := 21) (v := 1) dL_compile_20 rfl (by decide) ?_
      refine pw_iret dL_compile_21 rfl (by first | rfl | assumption | simp [narrow]) ?_
      exact Or.inr ⟨_, _, q9, by decide +kernel, rfl⟩
    · refine px_catch [(0, 16, 19, 21)] [] (0, 16, 22, 36) rfl (fun z hz => by simp only [List.mem_cons, List.not_mem_nil, or_false] at hz; subst hz <;> first | exact Or.inr ⟨by decide, _, cl_L_21, by decide +kernel⟩) (by decide) (by decide) cl_L_36 ca_UnsupportedOperationException__UnsupportedOperationException (fun q => ?_)
      refine pw_astore_n (pc2 := 23) (L2 := [(3, Value.ref q), (0, Value.ref x), (1, Value.int p0), (2, Value.ref o)]) dL_compile_22 rfl rfl (by decide) (by first | exact rf_ref _ | exact rf_opt _ | exact rf_nul) rfl ?_
      refine pw_iconst (pc2 := 24) (v := 2) dL_compile_23 rfl (by decide) ?_
      refine pw_iret dL_compile_24 rfl (by first | rfl | assumption | simp [narrow]) ?_
      exact Or.inr ⟨_, _, q9, by decide +kernel, rfl⟩
  obtain ⟨v, f, rfl, ho, hz⟩ := hQ _ _ q9
  refine pw_if_eq (tgt := 14) (pc2 := 10) dL_compile_7 (by decide) rfl (fun c7 => ?_) (fun c7 => ?_)
  · refine pw_lconst (pc2 := 15) (v := 0) dL_compile_14 rfl (by decide) ?_
    refine pw_last (pc2 := 16) ho (by unfold vp_in; decide) dL_compile_15 rfl ?_
    refine pw_goto (tgt := 25) dL_compile_16 (by decide) ?_
    refine pw_iconst (pc2 := 26) (v := 0) dL_compile_25 rfl (by decide) ?_
    refine pw_iret dL_compile_26 rfl (by first | rfl | assumption | simp [narrow]) ?_
    exact Or.inl ⟨v, h9, q9, rfl, _, rfl, by first | (rcases hz with rfl | rfl <;> first | rfl | exact absurd rfl c7 | exact absurd c7 (by decide))⟩
  · refine pw_lconst (pc2 := 11) (v := 1) dL_compile_10 rfl (by decide) ?_
    refine pw_goto (tgt := 15) dL_compile_11 (by decide) ?_
    refine pw_last (pc2 := 16) ho (by unfold vp_in; decide) dL_compile_15 rfl ?_
    refine pw_goto (tgt := 25) dL_compile_16 (by decide) ?_
    refine pw_iconst (pc2 := 26) (v := 0) dL_compile_25 rfl (by decide) ?_
    refine pw_iret dL_compile_26 rfl (by first | rfl | assumption | simp [narrow]) ?_
    exact Or.inl ⟨v, h9, q9, rfl, _, rfl, by first | (rcases hz with rfl | rfl <;> first | rfl | exact absurd rfl c7 | exact absurd c7 (by decide))⟩
set_option maxHeartbeats 4000000 in
set_option maxRecDepth 100000 in
theorem w_addTest (G : hG) (h : hp) {x o : Nat} {p0 p1 : Int32} {k kc ks : Nat} {fs : List Value} {Qc : Option Value → hp → Prop} {Xc : String → hp → Prop} (hx : h x = some (oB 12 fs)) (hc : PMet G MX9_addTest k kc ks [.ref x, .int p0, .int p1] h Qc Xc) (hQ : ∀ r h1, Qc r h1 → ∃ v f, r = some (.int v) ∧ h1 o = some (aL 1 f)) (hX : ∀ C h1, Xc C h1 → C = xIO ∨ C = xIA ∨ C = xIS) : PMet G ML_addTest (k + 1) (0 + kc) (0 + ks) [.ref x, .int p0, .int p1, .ref o] h (QW Qc Xc o [(xIO, 1), (xIA, 2), (xIS, 3)]) noX := by
  refine PMet.of (by decide +kernel) (Nat.le_of_ble_eq_true rfl) (fun d hd => ?_)
  refine PW.sub (L2 := [(0, Value.ref x), (1, Value.int p0), (2, Value.int p1), (3, Value.ref o)]) [0, 1, 2, 3] rfl ?_
  refine pw_aload_n (pc2 := 1) dL_addTest_0 rfl rfl 3 rfl (by first | exact rf_ref _ | exact rf_opt _ | exact rf_nul) ?_
  refine pw_iconst (pc2 := 2) (v := 0) dL_addTest_1 rfl (by decide) ?_
  refine pw_aload_n (pc2 := 3) dL_addTest_2 rfl rfl 0 rfl (by first | exact rf_ref _ | exact rf_opt _ | exact rf_nul) ?_
  refine pw_iload_n (pc2 := 4) dL_addTest_3 rfl rfl 1 rfl ?_
  refine pw_iload_n (pc2 := 5) dL_addTest_4 rfl rfl 2 rfl ?_
  refine pw_callV (pc2 := 8) hc cs_L_45 rfl rfl hx dL_addTest_5 rfl (by omega) rfl (by first | decide | simp [cat_rf, Value.category]) (fun r9 h9 q9 => ?_) (fun Y h9 q9 => ?_)
  rotate_left
  · rcases hX Y h9 q9 with rfl | rfl | rfl
    · refine px_catch [] [(0, 10, 17, 13), (0, 10, 21, 15)] (0, 10, 13, 21) rfl (fun z hz => absurd hz List.not_mem_nil) (by decide) (by decide) cl_L_21 ca_IndexOutOfBoundsException__IndexOutOfBoundsException (fun q => ?_)
      refine pw_astore (pc2 := 15) (L2 := [(4, Value.ref q), (0, Value.ref x), (1, Value.int p0), (2, Value.int p1), (3, Value.ref o)]) dL_addTest_13 rfl (by decide) (by first | exact rf_ref _ | exact rf_opt _ | exact rf_nul) rfl ?_
      refine pw_iconst (pc2 := 16) (v := 1) dL_addTest_15 rfl (by decide) ?_
      refine pw_iret dL_addTest_16 rfl (by first | rfl | assumption | simp [narrow]) ?_
      exact Or.inr ⟨_, _, q9, by decide +kernel, rfl⟩
    · refine px_catch [(0, 10, 13, 21)] [(0, 10, 21, 15)] (0, 10, 17, 13) rfl (fun z hz => by simp only [List.mem_cons, List.not_mem_nil, or_false] at hz; subst hz <;> first | exact Or.inr ⟨by decide, _, cl_L_21, by decide +kernel⟩) (by decide) (by decide) cl_L_13 ca_IllegalArgumentException__IllegalArgumentException (fun q => ?_)
      refine pw_astore (pc2 := 19) (L2 := [(4, Value.ref q), (0, Value.ref x), (1, Value.int p0), (2, Value.int p1), (3, Value.ref o)]) dL_addTest_17 rfl (by decide) (by first | exact rf_ref _ | exact rf_opt _ | exact rf_nul) rfl ?_
      refine pw_iconst (pc2 := 20) (v := 2) dL_addTest_19 rfl (by decide) ?_
      refine pw_iret dL_addTest_20 rfl (by first | rfl | assumption | simp [narrow]) ?_
      exact Or.inr ⟨_, _, q9, by decide +kernel, rfl⟩
    · refine px_catch [(0, 10, 13, 21), (0, 10, 17, 13)] [] (0, 10, 21, 15) rfl (fun z hz => by simp only [List.mem_cons, List.not_mem_nil, or_false] at hz; rcases hz with rfl | rfl <;> first | exact Or.inr ⟨by decide, _, cl_L_21, by decide +kernel⟩ | exact Or.inr ⟨by decide, _, cl_L_13, by decide +kernel⟩) (by decide) (by decide) cl_L_15 ca_IllegalStateException__IllegalStateException (fun q => ?_)
      refine pw_astore (pc2 := 23) (L2 := [(4, Value.ref q), (0, Value.ref x), (1, Value.int p0), (2, Value.int p1), (3, Value.ref o)]) dL_addTest_21 rfl (by decide) (by first | exact rf_ref _ | exact rf_opt _ | exact rf_nul) rfl ?_
      refine pw_iconst (pc2 := 24) (v := 3) dL_addTest_23 rfl (by decide) ?_
      refine pw_iret dL_addTest_24 rfl (by first | rfl | assumption | simp [narrow]) ?_
      exact Or.inr ⟨_, _, q9, by decide +kernel, rfl⟩
  obtain ⟨v, f, rfl, ho⟩ := hQ _ _ q9
  refine pw_i2l (pc2 := 9) dL_addTest_8 rfl ?_
  refine pw_last (pc2 := 10) ho (by unfold vp_in; decide) dL_addTest_9 rfl ?_
  refine pw_goto (tgt := 25) dL_addTest_10 (by decide) ?_
  refine pw_iconst (pc2 := 26) (v := 0) dL_addTest_25 rfl (by decide) ?_
  refine pw_iret dL_addTest_26 rfl (by first | rfl | assumption | simp [narrow]) ?_
  exact Or.inl ⟨v, h9, q9, rfl, _, rfl, rfl⟩
set_option maxHeartbeats 4000000 in
set_option maxRecDepth 100000 in
theorem w_setFailing (G : hG) (h : hp) {x o : Nat} {p0 p1 : Int32} {k kc ks : Nat} {fs : List Value} {Qc : Option Value → hp → Prop} {Xc : String → hp → Prop} (hx : h x = some (oB 12 fs)) (hc : PMet G MX9_setFailing k kc ks [.ref x, .int p0, .int p1] h Qc Xc) (hQ : ∀ r h1, Qc r h1 → ∃ v f, r = some (.int v) ∧ h1 o = some (aL 1 f) ∧ b01 v) (hX : ∀ C h1, Xc C h1 → C = xIO) : PMet G ML_setFailing (k + 1) (0 + kc) (0 + ks) [.ref x, .int p0, .int p1, .ref o] h (QW Qc Xc o [(xIO, 1)]) noX := by
  refine PMet.of (by decide +kernel) (Nat.le_of_ble_eq_true rfl) (fun d hd => ?_)
  refine PW.sub (L2 := [(0, Value.ref x), (1, Value.int p0), (2, Value.int p1), (3, Value.ref o)]) [0, 1, 2, 3] rfl ?_
  refine pw_aload_n (pc2 := 1) dL_setFailing_0 rfl rfl 3 rfl (by first | exact rf_ref _ | exact rf_opt _ | exact rf_nul) ?_
  refine pw_iconst (pc2 := 2) (v := 0) dL_setFailing_1 rfl (by decide) ?_
  refine pw_aload_n (pc2 := 3) dL_setFailing_2 rfl rfl 0 rfl (by first | exact rf_ref _ | exact rf_opt _ | exact rf_nul) ?_
  refine pw_iload_n (pc2 := 4) dL_setFailing_3 rfl rfl 1 rfl ?_
  refine pw_iload_n (pc2 := 5) dL_setFailing_4 rfl rfl 2 rfl ?_
  refine pw_callV (pc2 := 8) hc cs_L_48 rfl rfl hx dL_setFailing_5 rfl (by omega) rfl (by first | decide | simp [cat_rf, Value.category]) (fun r9 h9 q9 => ?_) (fun Y h9 q9 => ?_)
  rotate_left
  · obtain rfl := hX Y h9 q9
    refine px_catch [] [] (0, 17, 20, 21) rfl (fun z hz => absurd hz List.not_mem_nil) (by decide) (by decide) cl_L_21 ca_IndexOutOfBoundsException__IndexOutOfBoundsException (fun q => ?_)
    refine pw_astore (pc2 := 22) (L2 := [(4, Value.ref q), (0, Value.ref x), (1, Value.int p0), (2, Value.int p1), (3, Value.ref o)]) dL_setFailing_20 rfl (by decide) (by first | exact rf_ref _ | exact rf_opt _ | exact rf_nul) rfl ?_
    refine pw_iconst (pc2 := 23) (v := 1) dL_setFailing_22 rfl (by decide) ?_
    refine pw_iret dL_setFailing_23 rfl (by first | rfl | assumption | simp [narrow]) ?_
    exact Or.inr ⟨_, _, q9, by decide +kernel, rfl⟩
  obtain ⟨v, f, rfl, ho, hz⟩ := hQ _ _ q9
  refine pw_if_eq (tgt := 15) (pc2 := 11) dL_setFailing_8 (by decide) rfl (fun c8 => ?_) (fun c8 => ?_)
  · refine pw_lconst (pc2 := 16) (v := 0) dL_setFailing_15 rfl (by decide) ?_
    refine pw_last (pc2 := 17) ho (by unfold vp_in; decide) dL_setFailing_16 rfl ?_
    refine pw_goto (tgt := 24) dL_setFailing_17 (by decide) ?_
    refine pw_iconst (pc2 := 25) (v := 0) dL_setFailing_24 rfl (by decide) ?_
    refine pw_iret dL_setFailing_25 rfl (by first | rfl | assumption | simp [narrow]) ?_
    exact Or.inl ⟨v, h9, q9, rfl, _, rfl, by first | (rcases hz with rfl | rfl <;> first | rfl | exact absurd rfl c8 | exact absurd c8 (by decide))⟩
  · refine pw_lconst (pc2 := 12) (v := 1) dL_setFailing_11 rfl (by decide) ?_
    refine pw_goto (tgt := 16) dL_setFailing_12 (by decide) ?_
    refine pw_last (pc2 := 17) ho (by unfold vp_in; decide) dL_setFailing_16 rfl ?_
    refine pw_goto (tgt := 24) dL_setFailing_17 (by decide) ?_
    refine pw_iconst (pc2 := 25) (v := 0) dL_setFailing_24 rfl (by decide) ?_
    refine pw_iret dL_setFailing_25 rfl (by first | rfl | assumption | simp [narrow]) ?_
    exact Or.inl ⟨v, h9, q9, rfl, _, rfl, by first | (rcases hz with rfl | rfl <;> first | rfl | exact absurd rfl c8 | exact absurd c8 (by decide))⟩
set_option maxHeartbeats 4000000 in
set_option maxRecDepth 100000 in
theorem w_setMachines (G : hG) (h : hp) {x o : Nat} {p0 : Int32} {k kc ks : Nat} {fs : List Value} {Qc : Option Value → hp → Prop} {Xc : String → hp → Prop} (hx : h x = some (oB 12 fs)) (hc : PMet G MX9_setMachines k kc ks [.ref x, .int p0] h Qc Xc) (hQ : ∀ r h1, Qc r h1 → ∃ v f, r = some (.int v) ∧ h1 o = some (aL 1 f)) (hX : ∀ C h1, Xc C h1 → C = xIA) : PMet G ML_setMachines (k + 1) (0 + kc) (0 + ks) [.ref x, .int p0, .ref o] h (QW Qc Xc o [(xIA, 1)]) noX := by
  refine PMet.of (by decide +kernel) (Nat.le_of_ble_eq_true rfl) (fun d hd => ?_)
  refine PW.sub (L2 := [(0, Value.ref x), (1, Value.int p0), (2, Value.ref o)]) [0, 1, 2] rfl ?_
  refine pw_aload_n (pc2 := 1) dL_setMachines_0 rfl rfl 2 rfl (by first | exact rf_ref _ | exact rf_opt _ | exact rf_nul) ?_
  refine pw_iconst (pc2 := 2) (v := 0) dL_setMachines_1 rfl (by decide) ?_
  refine pw_aload_n (pc2 := 3) dL_setMachines_2 rfl rfl 0 rfl (by first | exact rf_ref _ | exact rf_opt _ | exact rf_nul) ?_
  refine pw_iload_n (pc2 := 4) dL_setMachines_3 rfl rfl 1 rfl ?_
  refine pw_callV (pc2 := 7) hc cs_L_52 rfl rfl hx dL_setMachines_4 rfl (by omega) rfl (by first | decide | simp [cat_rf, Value.category]) (fun r9 h9 q9 => ?_) (fun Y h9 q9 => ?_)
  rotate_left
  · obtain rfl := hX Y h9 q9
    refine px_catch [] [] (0, 9, 12, 13) rfl (fun z hz => absurd hz List.not_mem_nil) (by decide) (by decide) cl_L_13 ca_IllegalArgumentException__IllegalArgumentException (fun q => ?_)
    refine pw_astore_n (pc2 := 13) (L2 := [(3, Value.ref q), (0, Value.ref x), (1, Value.int p0), (2, Value.ref o)]) dL_setMachines_12 rfl rfl (by decide) (by first | exact rf_ref _ | exact rf_opt _ | exact rf_nul) rfl ?_
    refine pw_iconst (pc2 := 14) (v := 1) dL_setMachines_13 rfl (by decide) ?_
    refine pw_iret dL_setMachines_14 rfl (by first | rfl | assumption | simp [narrow]) ?_
    exact Or.inr ⟨_, _, q9, by decide +kernel, rfl⟩
  obtain ⟨v, f, rfl, ho⟩ := hQ _ _ q9
  refine pw_i2l (pc2 := 8) dL_setMachines_7 rfl ?_
  refine pw_last (pc2 := 9) ho (by unfold vp_in; decide) dL_setMachines_8 rfl ?_
  refine pw_goto (tgt := 15) dL_setMachines_9 (by decide) ?_
  refine pw_iconst (pc2 := 16) (v := 0) dL_setMachines_15 rfl (by decide) ?_
  refine pw_iret dL_setMachines_16 rfl (by first | rfl | assumption | simp [narrow]) ?_
  exact Or.inl ⟨v, h9, q9, rfl, _, rfl, rfl⟩
set_option maxHeartbeats 4000000 in
set_option maxRecDepth 100000 in
theorem w_fund (G : hG) (h : hp) {x o : Nat} {p0 p1 : Int32} {k kc ks : Nat} {fs : List Value} {Qc : Option Value → hp → Prop} {Xc : String → hp → Prop} (hx : h x = some (oB 12 fs)) (hc : PMet G MX9_fund k kc ks [.ref x, .int p0, .int p1] h Qc Xc) (hQ : ∀ r h1, Qc r h1 → ∃ v f, r = some (.int v) ∧ h1 o = some (aL 1 f)) (hX : ∀ C h1, Xc C h1 → C = xIA) : PMet G ML_fund (k + 1) (0 + kc) (0 + ks) [.ref x, .int p0, .int p1, .ref o] h (QW Qc Xc o [(xIA, 1)]) noX := by
  refine PMet.of (by decide +kernel) (Nat.le_of_ble_eq_true rfl) (fun d hd => ?_)
  refine PW.sub (L2 := [(0, Value.ref x), (1, Value.int p0), (2, Value.int p1), (3, Value.ref o)]) [0, 1, 2, 3] rfl ?_
  refine pw_aload_n (pc2 := 1) dL_fund_0 rfl rfl 3 rfl (by first | exact rf_ref _ | exact rf_opt _ | exact rf_nul) ?_
  refine pw_iconst (pc2 := 2) (v := 0) dL_fund_1 rfl (by decide) ?_
  refine pw_aload_n (pc2 := 3) dL_fund_2 rfl rfl 0 rfl (by first | exact rf_ref _ | exact rf_opt _ | exact rf_nul) ?_
  refine pw_iload_n (pc2 := 4) dL_fund_3 rfl rfl 1 rfl ?_
  refine pw_iload_n (pc2 := 5) dL_fund_4 rfl rfl 2 rfl ?_
  refine pw_callV (pc2 := 8) hc cs_L_55 rfl rfl hx dL_fund_5 rfl (by omega) rfl (by first | decide | simp [cat_rf, Value.category]) (fun r9 h9 q9 => ?_) (fun Y h9 q9 => ?_)
  rotate_left
  · obtain rfl := hX Y h9 q9
    refine px_catch [] [] (0, 10, 13, 13) rfl (fun z hz => absurd hz List.not_mem_nil) (by decide) (by decide) cl_L_13 ca_IllegalArgumentException__IllegalArgumentException (fun q => ?_)
    refine pw_astore (pc2 := 15) (L2 := [(4, Value.ref q), (0, Value.ref x), (1, Value.int p0), (2, Value.int p1), (3, Value.ref o)]) dL_fund_13 rfl (by decide) (by first | exact rf_ref _ | exact rf_opt _ | exact rf_nul) rfl ?_
    refine pw_iconst (pc2 := 16) (v := 1) dL_fund_15 rfl (by decide) ?_
    refine pw_iret dL_fund_16 rfl (by first | rfl | assumption | simp [narrow]) ?_
    exact Or.inr ⟨_, _, q9, by decide +kernel, rfl⟩
  obtain ⟨v, f, rfl, ho⟩ := hQ _ _ q9
  refine pw_i2l (pc2 := 9) dL_fund_8 rfl ?_
  refine pw_last (pc2 := 10) ho (by unfold vp_in; decide) dL_fund_9 rfl ?_
  refine pw_goto (tgt := 17) dL_fund_10 (by decide) ?_
  refine pw_iconst (pc2 := 18) (v := 0) dL_fund_17 rfl (by decide) ?_
  refine pw_iret dL_fund_18 rfl (by first | rfl | assumption | simp [narrow]) ?_
  exact Or.inl ⟨v, h9, q9, rfl, _, rfl, rfl⟩
set_option maxHeartbeats 4000000 in
set_option maxRecDepth 100000 in
theorem w_budget (G : hG) (h : hp) {x o : Nat} {p0 : Int32} {k kc ks : Nat} {fs : List Value} {Qc : Option Value → hp → Prop} {Xc : String → hp → Prop} (hx : h x = some (oB 12 fs)) (hc : PMet G MX9_budget k kc ks [.ref x, .int p0] h Qc Xc) (hQ : ∀ r h1, Qc r h1 → ∃ v f, r = some (.int v) ∧ h1 o = some (aL 1 f)) (hX : ∀ C h1, Xc C h1 → C = xIA) : PMet G ML_budget (k + 1) (0 + kc) (0 + ks) [.ref x, .int p0, .ref o] h (QW Qc Xc o [(xIA, 1)]) noX := by
  refine PMet.of (by decide +kernel) (Nat.le_of_ble_eq_true rfl) (fun d hd => ?_)
  refine PW.sub (L2 := [(0, Value.ref x), (1, Value.int p0), (2, Value.ref o)]) [0, 1, 2] rfl ?_
  refine pw_aload_n (pc2 := 1) dL_budget_0 rfl rfl 2 rfl (by first | exact rf_ref _ | exact rf_opt _ | exact rf_nul) ?_
  refine pw_iconst (pc2 := 2) (v := 0) dL_budget_1 rfl (by decide) ?_
  refine pw_aload_n (pc2 := 3) dL_budget_2 rfl rfl 0 rfl (by first | exact rf_ref _ | exact rf_opt _ | exact rf_nul) ?_
  refine pw_iload_n (pc2 := 4) dL_budget_3 rfl rfl 1 rfl ?_
  refine pw_callV (pc2 := 7) hc cs_L_58 rfl rfl hx dL_budget_4 rfl (by omega) rfl (by first | decide | simp [cat_rf, Value.category]) (fun r9 h9 q9 => ?_) (fun Y h9 q9 => ?_)
  rotate_left
  · obtain rfl := hX Y h9 q9
    refine px_catch [] [] (0, 9, 12, 13) rfl (fun z hz => absurd hz List.not_mem_nil) (by decide) (by decide) cl_L_13 ca_IllegalArgumentException__IllegalArgumentException (fun q => ?_)
    refine pw_astore_n (pc2 := 13) (L2 := [(3, Value.ref q), (0, Value.ref x), (1, Value.int p0), (2, Value.ref o)]) dL_budget_12 rfl rfl (by decide) (by first | exact rf_ref _ | exact rf_opt _ | exact rf_nul) rfl ?_
    refine pw_iconst (pc2 := 14) (v := 1) dL_budget_13 rfl (by decide) ?_
    refine pw_iret dL_budget_14 rfl (by first | rfl | assumption | simp [narrow]) ?_
    exact Or.inr ⟨_, _, q9, by decide +kernel, rfl⟩
  obtain ⟨v, f, rfl, ho⟩ := hQ _ _ q9
  refine pw_i2l (pc2 := 8) dL_budget_7 rfl ?_
  refine pw_last (pc2 := 9) ho (by unfold vp_in; decide) dL_budget_8 rfl ?_
  refine pw_goto (tgt := 15) dL_budget_9 (by decide) ?_
  refine pw_iconst (pc2 := 16) (v := 0) dL_budget_15 rfl (by decide) ?_
  refine pw_iret dL_budget_16 rfl (by first | rfl | assumption | simp [narrow]) ?_
  exact Or.inl ⟨v, h9, q9, rfl, _, rfl, rfl⟩
set_option maxHeartbeats 4000000 in
set_option maxRecDepth 100000 in
theorem w_testTime (G : hG) (h : hp) {x o : Nat} {p0 : Int32} {k kc ks : Nat} {fs : List Value} {Qc : Option Value → hp → Prop} {Xc : String → hp → Prop} (hx : h x = some (oB 12 fs)) (hc : PMet G MX9_testTime k kc ks [.ref x, .int p0] h Qc Xc) (hQ : ∀ r h1, Qc r h1 → ∃ v f, r = some (.int v) ∧ h1 o = some (aL 1 f)) (hX : ∀ C h1, Xc C h1 → C = xIO) : PMet G ML_testTime (k + 1) (0 + kc) (0 + ks) [.ref x, .int p0, .ref o] h (QW Qc Xc o [(xIO, 1)]) noX := by
  refine PMet.of (by decide +kernel) (Nat.le_of_ble_eq_true rfl) (fun d hd => ?_)
  refine PW.sub (L2 := [(0, Value.ref x), (1, Value.int p0), (2, Value.ref o)]) [0, 1, 2] rfl ?_
  refine pw_aload_n (pc2 := 1) dL_testTime_0 rfl rfl 2 rfl (by first | exact rf_ref _ | exact rf_opt _ | exact rf_nul) ?_
  refine pw_iconst (pc2 := 2) (v := 0) dL_testTime_1 rfl (by decide) ?_
  refine pw_aload_n (pc2 := 3) dL_testTime_2 rfl rfl 0 rfl (by first | exact rf_ref _ | exact rf_opt _ | exact rf_nul) ?_
  refine pw_iload_n (pc2 := 4) dL_testTime_3 rfl rfl 1 rfl ?_
  refine pw_callV (pc2 := 7) hc cs_L_61 rfl rfl hx dL_testTime_4 rfl (by omega) rfl (by first | decide | simp [cat_rf, Value.category]) (fun r9 h9 q9 => ?_) (fun Y h9 q9 => ?_)
  rotate_left
  · obtain rfl := hX Y h9 q9
    refine px_catch [] [] (0, 9, 12, 21) rfl (fun z hz => absurd hz List.not_mem_nil) (by decide) (by decide) cl_L_21 ca_IndexOutOfBoundsException__IndexOutOfBoundsException (fun q => ?_)
    refine pw_astore_n (pc2 := 13) (L2 := [(3, Value.ref q), (0, Value.ref x), (1, Value.int p0), (2, Value.ref o)]) dL_testTime_12 rfl rfl (by decide) (by first | exact rf_ref _ | exact rf_opt _ | exact rf_nul) rfl ?_
    refine pw_iconst (pc2 := 14) (v := 1) dL_testTime_13 rfl (by decide) ?_
    refine pw_iret dL_testTime_14 rfl (by first | rfl | assumption | simp [narrow]) ?_
    exact Or.inr ⟨_, _, q9, by decide +kernel, rfl⟩
  obtain ⟨v, f, rfl, ho⟩ := hQ _ _ q9
  refine pw_i2l (pc2 := 8) dL_testTime_7 rfl ?_
  refine pw_last (pc2 := 9) ho (by unfold vp_in; decide) dL_testTime_8 rfl ?_
  refine pw_goto (tgt := 15) dL_testTime_9 (by decide) ?_
  refine pw_iconst (pc2 := 16) (v := 0) dL_testTime_15 rfl (by decide) ?_
  refine pw_iret dL_testTime_16 rfl (by first | rfl | assumption | simp [narrow]) ?_
  exact Or.inl ⟨v, h9, q9, rfl, _, rfl, rfl⟩
set_option maxHeartbeats 4000000 in
set_option maxRecDepth 100000 in
theorem w_test (G : hG) (h : hp) {x o : Nat} {p0 : Int32} {k kc ks : Nat} {fs : List Value} {Qc : Option Value → hp → Prop} {Xc : String → hp → Prop} (hx : h x = some (oB 12 fs)) (hc : PMet G MX9_test k kc ks [.ref x, .int p0] h Qc Xc) (hQ : ∀ r h1, Qc r h1 → ∃ v f, r = some (.int v) ∧ h1 o = some (aL 1 f)) (hX : ∀ C h1, Xc C h1 → C = xIO ∨ C = xUO ∨ C = xIS) : PMet G ML_test (k + 1) (0 + kc) (0 + ks) [.ref x, .int p0, .ref o] h (QW Qc Xc o [(xIO, 1), (xUO, 2), (xIS, 3)]) noX := by
  refine PMet.of (by decide +kernel) (Nat.le_of_ble_eq_true rfl) (fun d hd => ?_)
  refine PW.sub (L2 := [(0, Value.ref x), (1, Value.int p0), (2, Value.ref o)]) [0, 1, 2] rfl ?_
  refine pw_aload_n (pc2 := 1) dL_test_0 rfl rfl 2 rfl (by first | exact rf_ref _ | exact rf_opt _ | exact rf_nul) ?_
  refine pw_iconst (pc2 := 2) (v := 0) dL_test_1 rfl (by decide) ?_
  refine pw_aload_n (pc2 := 3) dL_test_2 rfl rfl 0 rfl (by first | exact rf_ref _ | exact rf_opt _ | exact rf_nul) ?_
  refine pw_iload_n (pc2 := 4) dL_test_3 rfl rfl 1 rfl ?_
  refine pw_callV (pc2 := 7) hc cs_L_64 rfl rfl hx dL_test_4 rfl (by omega) rfl (by first | decide | simp [cat_rf, Value.category]) (fun r9 h9 q9 => ?_) (fun Y h9 q9 => ?_)
  rotate_left
  · rcases hX Y h9 q9 with rfl | rfl | rfl
    · refine px_catch [] [(0, 9, 15, 36), (0, 9, 18, 15)] (0, 9, 12, 21) rfl (fun z hz => absurd hz List.not_mem_nil) (by decide) (by decide) cl_L_21 ca_IndexOutOfBoundsException__IndexOutOfBoundsException (fun q => ?_)
      refine pw_astore_n (pc2 := 13) (L2 := [(3, Value.ref q), (0, Value.ref x), (1, Value.int p0), (2, Value.ref o)]) dL_test_12 rfl rfl (by decide) (by first | exact rf_ref _ | exact rf_opt _ | exact rf_nul) rfl ?_
      refine pw_iconst (pc2 := 14) (v := 1) dL_test_13 rfl (by decide) ?_
      refine pw_iret dL_test_14 rfl (by first | rfl | assumption | simp [narrow]) ?_
      exact Or.inr ⟨_, _, q9, by decide +kernel, rfl⟩
    · refine px_catch [(0, 9, 12, 21)] [(0, 9, 18, 15)] (0, 9, 15, 36) rfl (fun z hz => by simp only [List.mem_cons, List.not_mem_nil, or_false] at hz; subst hz <;> first | exact Or.inr ⟨by decide, _, cl_L_21, by decide +kernel⟩) (by decide) (by decide) cl_L_36 ca_UnsupportedOperationException__UnsupportedOperationException (fun q => ?_)
      refine pw_astore_n (pc2 := 16) (L2 := [(3, Value.ref q), (0, Value.ref x), (1, Value.int p0), (2, Value.ref o)]) dL_test_15 rfl rfl (by decide) (by first | exact rf_ref _ | exact rf_opt _ | exact rf_nul) rfl ?_
      refine pw_iconst (pc2 := 17) (v := 2) dL_test_16 rfl (by decide) ?_
      refine pw_iret dL_test_17 rfl (by first | rfl | assumption | simp [narrow]) ?_
      exact Or.inr ⟨_, _, q9, by decide +kernel, rfl⟩
    · refine px_catch [(0, 9, 12, 21), (0, 9, 15, 36)] [] (0, 9, 18, 15) rfl (fun z hz => by simp only [List.mem_cons, List.not_mem_nil, or_false] at hz; rcases hz with rfl | rfl <;> first | exact Or.inr ⟨by decide, _, cl_L_21, by decide +kernel⟩ | exact Or.inr ⟨by decide, _, cl_L_36, by decide +kernel⟩) (by decide) (by decide) cl_L_15 ca_IllegalStateException__IllegalStateException (fun q => ?_)
      refine pw_astore_n (pc2 := 19) (L2 := [(3, Value.ref q), (0, Value.ref x), (1, Value.int p0), (2, Value.ref o)]) dL_test_18 rfl rfl (by decide) (by first | exact rf_ref _ | exact rf_opt _ | exact rf_nul) rfl ?_
      refine pw_iconst (pc2 := 20) (v := 3) dL_test_19 rfl (by decide) ?_
      refine pw_iret dL_test_20 rfl (by first | rfl | assumption | simp [narrow]) ?_
      exact Or.inr ⟨_, _, q9, by decide +kernel, rfl⟩
  obtain ⟨v, f, rfl, ho⟩ := hQ _ _ q9
  refine pw_i2l (pc2 := 8) dL_test_7 rfl ?_
  refine pw_last (pc2 := 9) ho (by unfold vp_in; decide) dL_test_8 rfl ?_
  refine pw_goto (tgt := 21) dL_test_9 (by decide) ?_
  refine pw_iconst (pc2 := 22) (v := 0) dL_test_21 rfl (by decide) ?_
  refine pw_iret dL_test_22 rfl (by first | rfl | assumption | simp [narrow]) ?_
  exact Or.inl ⟨v, h9, q9, rfl, _, rfl, rfl⟩
set_option maxHeartbeats 4000000 in
set_option maxRecDepth 100000 in
theorem w_flaky (G : hG) (h : hp) {x o : Nat} {p0 : Int32} {k kc ks : Nat} {fs : List Value} {Qc : Option Value → hp → Prop} {Xc : String → hp → Prop} (hx : h x = some (oB 12 fs)) (hc : PMet G MX9_flaky k kc ks [.ref x, .int p0] h Qc Xc) (hQ : ∀ r h1, Qc r h1 → ∃ v f, r = some (.int v) ∧ h1 o = some (aL 1 f)) (hX : ∀ C h1, Xc C h1 → C = xIO) : PMet G ML_flaky (k + 1) (0 + kc) (0 + ks) [.ref x, .int p0, .ref o] h (QW Qc Xc o [(xIO, 1)]) noX := by
  refine PMet.of (by decide +kernel) (Nat.le_of_ble_eq_true rfl) (fun d hd => ?_)
  refine PW.sub (L2 := [(0, Value.ref x), (1, Value.int p0), (2, Value.ref o)]) [0, 1, 2] rfl ?_
  refine pw_aload_n (pc2 := 1) dL_flaky_0 rfl rfl 2 rfl (by first | exact rf_ref _ | exact rf_opt _ | exact rf_nul) ?_
  refine pw_iconst (pc2 := 2) (v := 0) dL_flaky_1 rfl (by decide) ?_
  refine pw_aload_n (pc2 := 3) dL_flaky_2 rfl rfl 0 rfl (by first | exact rf_ref _ | exact rf_opt _ | exact rf_nul) ?_
  refine pw_iload_n (pc2 := 4) dL_flaky_3 rfl rfl 1 rfl ?_
  refine pw_callV (pc2 := 7) hc cs_L_67 rfl rfl hx dL_flaky_4 rfl (by omega) rfl (by first | decide | simp [cat_rf, Value.category]) (fun r9 h9 q9 => ?_) (fun Y h9 q9 => ?_)
  rotate_left
  · obtain rfl := hX Y h9 q9
    refine px_catch [] [] (0, 9, 12, 21) rfl (fun z hz => absurd hz List.not_mem_nil) (by decide) (by decide) cl_L_21 ca_IndexOutOfBoundsException__IndexOutOfBoundsException (fun q => ?_)
    refine pw_astore_n (pc2 := 13) (L2 := [(3, Value.ref q), (0, Value.ref x), (1, Value.int p0), (2, Value.ref o)]) dL_flaky_12 rfl rfl (by decide) (by first | exact rf_ref _ | exact rf_opt _ | exact rf_nul) rfl ?_
    refine pw_iconst (pc2 := 14) (v := 1) dL_flaky_13 rfl (by decide) ?_
    refine pw_iret dL_flaky_14 rfl (by first | rfl | assumption | simp [narrow]) ?_
    exact Or.inr ⟨_, _, q9, by decide +kernel, rfl⟩
  obtain ⟨v, f, rfl, ho⟩ := hQ _ _ q9
  refine pw_i2l (pc2 := 8) dL_flaky_7 rfl ?_
  refine pw_last (pc2 := 9) ho (by unfold vp_in; decide) dL_flaky_8 rfl ?_
  refine pw_goto (tgt := 15) dL_flaky_9 (by decide) ?_
  refine pw_iconst (pc2 := 16) (v := 0) dL_flaky_15 rfl (by decide) ?_
  refine pw_iret dL_flaky_16 rfl (by first | rfl | assumption | simp [narrow]) ?_
  exact Or.inl ⟨v, h9, q9, rfl, _, rfl, rfl⟩
set_option maxHeartbeats 4000000 in
set_option maxRecDepth 100000 in
theorem w_flakiest (G : hG) (h : hp) {x o : Nat} {k kc ks : Nat} {fs : List Value} {Qc : Option Value → hp → Prop} {Xc : String → hp → Prop} (hx : h x = some (oB 12 fs)) (hc : PMet G MX9_flakiest k kc ks [.ref x] h Qc Xc) (hQ : ∀ r h1, Qc r h1 → ∃ v f, r = some (.int v) ∧ h1 o = some (aL 1 f)) (hX : ∀ C h1, Xc C h1 → C = nsN) : PMet G ML_flakiest (k + 1) (0 + kc) (0 + ks) [.ref x, .ref o] h (QW Qc Xc o [(nsN, 1)]) noX := by
  refine PMet.of (by decide +kernel) (Nat.le_of_ble_eq_true rfl) (fun d hd => ?_)
  refine PW.sub (L2 := [(0, Value.ref x), (1, Value.ref o)]) [0, 1] rfl ?_
  refine pw_aload_n (pc2 := 1) dL_flakiest_0 rfl rfl 1 rfl (by first | exact rf_ref _ | exact rf_opt _ | exact rf_nul) ?_
  refine pw_iconst (pc2 := 2) (v := 0) dL_flakiest_1 rfl (by decide) ?_
  refine pw_aload_n (pc2 := 3) dL_flakiest_2 rfl rfl 0 rfl (by first | exact rf_ref _ | exact rf_opt _ | exact rf_nul) ?_
  refine pw_callV (pc2 := 6) hc cs_L_70 rfl rfl hx dL_flakiest_3 rfl (by omega) rfl (by first | decide | simp [cat_rf, Value.category]) (fun r9 h9 q9 => ?_) (fun Y h9 q9 => ?_)
  rotate_left
  · obtain rfl := hX Y h9 q9
    refine px_catch [] [] (0, 8, 11, 31) rfl (fun z hz => absurd hz List.not_mem_nil) (by decide) (by decide) cl_L_31 ca_NoSuchElementException__NoSuchElementException (fun q => ?_)
    refine pw_astore_n (pc2 := 12) (L2 := [(2, Value.ref q), (0, Value.ref x), (1, Value.ref o)]) dL_flakiest_11 rfl rfl (by decide) (by first | exact rf_ref _ | exact rf_opt _ | exact rf_nul) rfl ?_
    refine pw_iconst (pc2 := 13) (v := 1) dL_flakiest_12 rfl (by decide) ?_
    refine pw_iret dL_flakiest_13 rfl (by first | rfl | assumption | simp [narrow]) ?_
    exact Or.inr ⟨_, _, q9, by decide +kernel, rfl⟩
  obtain ⟨v, f, rfl, ho⟩ := hQ _ _ q9
  refine pw_i2l (pc2 := 7) dL_flakiest_6 rfl ?_
  refine pw_last (pc2 := 8) ho (by unfold vp_in; decide) dL_flakiest_7 rfl ?_
  refine pw_goto (tgt := 14) dL_flakiest_8 (by decide) ?_
  refine pw_iconst (pc2 := 15) (v := 0) dL_flakiest_14 rfl (by decide) ?_
  refine pw_iret dL_flakiest_15 rfl (by first | rfl | assumption | simp [narrow]) ?_
  exact Or.inl ⟨v, h9, q9, rfl, _, rfl, rfl⟩
set_option maxHeartbeats 4000000 in
set_option maxRecDepth 100000 in
theorem w_canPublish (G : hG) (h : hp) {x o : Nat} {p0 : Int32} {k kc ks : Nat} {fs : List Value} {Qc : Option Value → hp → Prop} {Xc : String → hp → Prop} (hx : h x = some (oB 12 fs)) (hc : PMet G MX9_canPublish k kc ks [.ref x, .int p0] h Qc Xc) (hQ : ∀ r h1, Qc r h1 → ∃ v f, r = some (.int v) ∧ h1 o = some (aL 1 f) ∧ b01 v) (hX : ∀ C h1, Xc C h1 → C = xIO) : PMet G ML_canPublish (k + 1) (0 + kc) (0 + ks) [.ref x, .int p0, .ref o] h (QW Qc Xc o [(xIO, 1)]) noX := by
  refine PMet.of (by decide +kernel) (Nat.le_of_ble_eq_true rfl) (fun d hd => ?_)
  refine PW.sub (L2 := [(0, Value.ref x), (1, Value.int p0), (2, Value.ref o)]) [0, 1, 2] rfl ?_
  refine pw_aload_n (pc2 := 1) dL_canPublish_0 rfl rfl 2 rfl (by first | exact rf_ref _ | exact rf_opt _ | exact rf_nul) ?_
  refine pw_iconst (pc2 := 2) (v := 0) dL_canPublish_1 rfl (by decide) ?_
  refine pw_aload_n (pc2 := 3) dL_canPublish_2 rfl rfl 0 rfl (by first | exact rf_ref _ | exact rf_opt _ | exact rf_nul) ?_
  refine pw_iload_n (pc2 := 4) dL_canPublish_3 rfl rfl 1 rfl ?_
  refine pw_callV (pc2 := 7) hc cs_L_74 rfl rfl hx dL_canPublish_4 rfl (by omega) rfl (by first | decide | simp [cat_rf, Value.category]) (fun r9 h9 q9 => ?_) (fun Y h9 q9 => ?_)
  rotate_left
  · obtain rfl := hX Y h9 q9
    refine px_catch [] [] (0, 16, 19, 21) rfl (fun z hz => absurd hz List.not_mem_nil) (by decide) (by decide) cl_L_21 ca_IndexOutOfBoundsException__IndexOutOfBoundsException (fun q => ?_)
    refine pw_astore_n (pc2 := 20) (L2 := [(3, Value.ref q), (0, Value.ref x), (1, Value.int p0), (2, Value.ref o)]) dL_canPublish_19 rfl rfl (by decide) (by first | exact rf_ref _ | exact rf_opt _ | exact rf_nul) rfl ?_
    refine pw_iconst (pc2 := 21) (v := 1) dL_canPublish_20 rfl (by decide) ?_
    refine pw_iret dL_canPublish_21 rfl (by first | rfl | assumption | simp [narrow]) ?_
    exact Or.inr ⟨_, _, q9, by decide +kernel, rfl⟩
  obtain ⟨v, f, rfl, ho, hz⟩ := hQ _ _ q9
  refine pw_if_eq (tgt := 14) (pc2 := 10) dL_canPublish_7 (by decide) rfl (fun c7 => ?_) (fun c7 => ?_)
  · refine pw_lconst (pc2 := 15) (v := 0) dL_canPublish_14 rfl (by decide) ?_
    refine pw_last (pc2 := 16) ho (by unfold vp_in; decide) dL_canPublish_15 rfl ?_
    refine pw_goto (tgt := 22) dL_canPublish_16 (by decide) ?_
    refine pw_iconst (pc2 := 23) (v := 0) dL_canPublish_22 rfl (by decide) ?_
    refine pw_iret dL_canPublish_23 rfl (by first | rfl | assumption | simp [narrow]) ?_
    exact Or.inl ⟨v, h9, q9, rfl, _, rfl, by first | (rcases hz with rfl | rfl <;> first | rfl | exact absurd rfl c7 | exact absurd c7 (by decide))⟩
  · refine pw_lconst (pc2 := 11) (v := 1) dL_canPublish_10 rfl (by decide) ?_
    refine pw_goto (tgt := 15) dL_canPublish_11 (by decide) ?_
    refine pw_last (pc2 := 16) ho (by unfold vp_in; decide) dL_canPublish_15 rfl ?_
    refine pw_goto (tgt := 22) dL_canPublish_16 (by decide) ?_
    refine pw_iconst (pc2 := 23) (v := 0) dL_canPublish_22 rfl (by decide) ?_
    refine pw_iret dL_canPublish_23 rfl (by first | rfl | assumption | simp [narrow]) ?_
    exact Or.inl ⟨v, h9, q9, rfl, _, rfl, by first | (rcases hz with rfl | rfl <;> first | rfl | exact absurd rfl c7 | exact absurd c7 (by decide))⟩
set_option maxHeartbeats 4000000 in
set_option maxRecDepth 100000 in
theorem w_nextVersion (G : hG) (h : hp) {x o : Nat} {p0 : Int32} {k kc ks : Nat} {fs : List Value} {Qc : Option Value → hp → Prop} {Xc : String → hp → Prop} (hx : h x = some (oB 12 fs)) (hc : PMet G MX9_nextVersion k kc ks [.ref x, .int p0] h Qc Xc) (hQ : ∀ r h1, Qc r h1 → ∃ v f, r = some (.int v) ∧ h1 o = some (aL 1 f)) (hX : ∀ C h1, Xc C h1 → C = xIO) : PMet G ML_nextVersion (k + 1) (0 + kc) (0 + ks) [.ref x, .int p0, .ref o] h (QW Qc Xc o [(xIO, 1)]) noX := by
  refine PMet.of (by decide +kernel) (Nat.le_of_ble_eq_true rfl) (fun d hd => ?_)
  refine PW.sub (L2 := [(0, Value.ref x), (1, Value.int p0), (2, Value.ref o)]) [0, 1, 2] rfl ?_
  refine pw_aload_n (pc2 := 1) dL_nextVersion_0 rfl rfl 2 rfl (by first | exact rf_ref _ | exact rf_opt _ | exact rf_nul) ?_
  refine pw_iconst (pc2 := 2) (v := 0) dL_nextVersion_1 rfl (by decide) ?_
  refine pw_aload_n (pc2 := 3) dL_nextVersion_2 rfl rfl 0 rfl (by first | exact rf_ref _ | exact rf_opt _ | exact rf_nul) ?_
  refine pw_iload_n (pc2 := 4) dL_nextVersion_3 rfl rfl 1 rfl ?_
  refine pw_callV (pc2 := 7) hc cs_L_77 rfl rfl hx dL_nextVersion_4 rfl (by omega) rfl (by first | decide | simp [cat_rf, Value.category]) (fun r9 h9 q9 => ?_) (fun Y h9 q9 => ?_)
  rotate_left
  · obtain rfl := hX Y h9 q9
    refine px_catch [] [] (0, 9, 12, 21) rfl (fun z hz => absurd hz List.not_mem_nil) (by decide) (by decide) cl_L_21 ca_IndexOutOfBoundsException__IndexOutOfBoundsException (fun q => ?_)
    refine pw_astore_n (pc2 := 13) (L2 := [(3, Value.ref q), (0, Value.ref x), (1, Value.int p0), (2, Value.ref o)]) dL_nextVersion_12 rfl rfl (by decide) (by first | exact rf_ref _ | exact rf_opt _ | exact rf_nul) rfl ?_
    refine pw_iconst (pc2 := 14) (v := 1) dL_nextVersion_13 rfl (by decide) ?_
    refine pw_iret dL_nextVersion_14 rfl (by first | rfl | assumption | simp [narrow]) ?_
    exact Or.inr ⟨_, _, q9, by decide +kernel, rfl⟩
  obtain ⟨v, f, rfl, ho⟩ := hQ _ _ q9
  refine pw_i2l (pc2 := 8) dL_nextVersion_7 rfl ?_
  refine pw_last (pc2 := 9) ho (by unfold vp_in; decide) dL_nextVersion_8 rfl ?_
  refine pw_goto (tgt := 15) dL_nextVersion_9 (by decide) ?_
  refine pw_iconst (pc2 := 16) (v := 0) dL_nextVersion_15 rfl (by decide) ?_
  refine pw_iret dL_nextVersion_16 rfl (by first | rfl | assumption | simp [narrow]) ?_
  exact Or.inl ⟨v, h9, q9, rfl, _, rfl, rfl⟩
set_option maxHeartbeats 4000000 in
set_option maxRecDepth 100000 in
theorem w_publish (G : hG) (h : hp) {x o : Nat} {p0 : Int32} {k kc ks : Nat} {fs : List Value} {Qc : Option Value → hp → Prop} {Xc : String → hp → Prop} (hx : h x = some (oB 12 fs)) (hc : PMet G MX9_publish k kc ks [.ref x, .int p0] h Qc Xc) (hQ : ∀ r h1, Qc r h1 → ∃ v f, r = some (.int v) ∧ h1 o = some (aL 1 f)) (hX : ∀ C h1, Xc C h1 → C = xIO ∨ C = xUO ∨ C = xIS) : PMet G ML_publish (k + 1) (0 + kc) (0 + ks) [.ref x, .int p0, .ref o] h (QW Qc Xc o [(xIO, 1), (xUO, 2), (xIS, 3)]) noX := by
  refine PMet.of (by decide +kernel) (Nat.le_of_ble_eq_true rfl) (fun d hd => ?_)
  refine PW.sub (L2 := [(0, Value.ref x), (1, Value.int p0), (2, Value.ref o)]) [0, 1, 2] rfl ?_
  refine pw_aload_n (pc2 := 1) dL_publish_0 rfl rfl 2 rfl (by first | exact rf_ref _ | exact rf_opt _ | exact rf_nul) ?_
  refine pw_iconst (pc2 := 2) (v := 0) dL_publish_1 rfl (by decide) ?_
  refine pw_aload_n (pc2 := 3) dL_publish_2 rfl rfl 0 rfl (by first | exact rf_ref _ | exact rf_opt _ | exact rf_nul) ?_
  refine pw_iload_n (pc2 := 4) dL_publish_3 rfl rfl 1 rfl ?_
  refine pw_callV (pc2 := 7) hc cs_L_80 rfl rfl hx dL_publish_4 rfl (by omega) rfl (by first | decide | simp [cat_rf, Value.category]) (fun r9 h9 q9 => ?_) (fun Y h9 q9 => ?_)
  rotate_left
  · rcases hX Y h9 q9 with rfl | rfl | rfl
    · refine px_catch [] [(0, 9, 15, 36), (0, 9, 18, 15)] (0, 9, 12, 21) rfl (fun z hz => absurd hz List.not_mem_nil) (by decide) (by decide) cl_L_21 ca_IndexOutOfBoundsException__IndexOutOfBoundsException (fun q => ?_)
      refine pw_astore_n (pc2 := 13) (L2 := [(3, Value.ref q), (0, Value.ref x), (1, Value.int p0), (2, Value.ref o)]) dL_publish_12 rfl rfl (by decide) (by first | exact rf_ref _ | exact rf_opt _ | exact rf_nul) rfl ?_
      refine pw_iconst (pc2 := 14) (v := 1) dL_publish_13 rfl (by decide) ?_
      refine pw_iret dL_publish_14 rfl (by first | rfl | assumption | simp [narrow]) ?_
      exact Or.inr ⟨_, _, q9, by decide +kernel, rfl⟩
    · refine px_catch [(0, 9, 12, 21)] [(0, 9, 18, 15)] (0, 9, 15, 36) rfl (fun z hz => by simp only [List.mem_cons, List.not_mem_nil, or_false] at hz; subst hz <;> first | exact Or.inr ⟨by decide, _, cl_L_21, by decide +kernel⟩) (by decide) (by decide) cl_L_36 ca_UnsupportedOperationException__UnsupportedOperationException (fun q => ?_)
      refine pw_astore_n (pc2 := 16) (L2 := [(3, Value.ref q), (0, Value.ref x), (1, Value.int p0), (2, Value.ref o)]) dL_publish_15 rfl rfl (by decide) (by first | exact rf_ref _ | exact rf_opt _ | exact rf_nul) rfl ?_
      refine pw_iconst (pc2 := 17) (v := 2) dL_publish_16 rfl (by decide) ?_
      refine pw_iret dL_publish_17 rfl (by first | rfl | assumption | simp [narrow]) ?_
      exact Or.inr ⟨_, _, q9, by decide +kernel, rfl⟩
    · refine px_catch [(0, 9, 12, 21), (0, 9, 15, 36)] [] (0, 9, 18, 15) rfl (fun z hz => by simp only [List.mem_cons, List.not_mem_nil, or_false] at hz; rcases hz with rfl | rfl <;> first | exact Or.inr ⟨by decide, _, cl_L_21, by decide +kernel⟩ | exact Or.inr ⟨by decide, _, cl_L_36, by decide +kernel⟩) (by decide) (by decide) cl_L_15 ca_IllegalStateException__IllegalStateException (fun q => ?_)
      refine pw_astore_n (pc2 := 19) (L2 := [(3, Value.ref q), (0, Value.ref x), (1, Value.int p0), (2, Value.ref o)]) dL_publish_18 rfl rfl (by decide) (by first | exact rf_ref _ | exact rf_opt _ | exact rf_nul) rfl ?_
      refine pw_iconst (pc2 := 20) (v := 3) dL_publish_19 rfl (by decide) ?_
      refine pw_iret dL_publish_20 rfl (by first | rfl | assumption | simp [narrow]) ?_
      exact Or.inr ⟨_, _, q9, by decide +kernel, rfl⟩
  obtain ⟨v, f, rfl, ho⟩ := hQ _ _ q9
  refine pw_i2l (pc2 := 8) dL_publish_7 rfl ?_
  refine pw_last (pc2 := 9) ho (by unfold vp_in; decide) dL_publish_8 rfl ?_
  refine pw_goto (tgt := 21) dL_publish_9 (by decide) ?_
  refine pw_iconst (pc2 := 22) (v := 0) dL_publish_21 rfl (by decide) ?_
  refine pw_iret dL_publish_22 rfl (by first | rfl | assumption | simp [narrow]) ?_
  exact Or.inl ⟨v, h9, q9, rfl, _, rfl, rfl⟩
set_option maxHeartbeats 4000000 in
set_option maxRecDepth 100000 in
theorem w_yank (G : hG) (h : hp) {x o : Nat} {p0 p1 : Int32} {k kc ks : Nat} {fs : List Value} {Qc : Option Value → hp → Prop} {Xc : String → hp → Prop} (hx : h x = some (oB 12 fs)) (hc : PMet G MX9_yank k kc ks [.ref x, .int p0, .int p1] h Qc Xc) (hQ : ∀ r h1, Qc r h1 → ∃ v f, r = some (.int v) ∧ h1 o = some (aL 1 f)) (hX : ∀ C h1, Xc C h1 → C = xIO ∨ C = nsN ∨ C = xIS) : PMet G ML_yank (k + 1) (0 + kc) (0 + ks) [.ref x, .int p0, .int p1, .ref o] h (QW Qc Xc o [(xIO, 1), (nsN, 2), (xIS, 3)]) noX := by
  refine PMet.of (by decide +kernel) (Nat.le_of_ble_eq_true rfl) (fun d hd => ?_)
  refine PW.sub (L2 := [(0, Value.ref x), (1, Value.int p0), (2, Value.int p1), (3, Value.ref o)]) [0, 1, 2, 3] rfl ?_
  refine pw_aload_n (pc2 := 1) dL_yank_0 rfl rfl 3 rfl (by first | exact rf_ref _ | exact rf_opt _ | exact rf_nul) ?_
  refine pw_iconst (pc2 := 2) (v := 0) dL_yank_1 rfl (by decide) ?_
  refine pw_aload_n (pc2 := 3) dL_yank_2 rfl rfl 0 rfl (by first | exact rf_ref _ | exact rf_opt _ | exact rf_nul) ?_
  refine pw_iload_n (pc2 := 4) dL_yank_3 rfl rfl 1 rfl ?_
  refine pw_iload_n (pc2 := 5) dL_yank_4 rfl rfl 2 rfl ?_
  refine pw_callV (pc2 := 8) hc cs_L_83 rfl rfl hx dL_yank_5 rfl (by omega) rfl (by first | decide | simp [cat_rf, Value.category]) (fun r9 h9 q9 => ?_) (fun Y h9 q9 => ?_)
  rotate_left
  · rcases hX Y h9 q9 with rfl | rfl | rfl
    · refine px_catch [] [(0, 10, 17, 31), (0, 10, 21, 15)] (0, 10, 13, 21) rfl (fun z hz => absurd hz List.not_mem_nil) (by decide) (by decide) cl_L_21 ca_IndexOutOfBoundsException__IndexOutOfBoundsException (fun q => ?_)
      refine pw_astore (pc2 := 15) (L2 := [(4, Value.ref q), (0, Value.ref x), (1, Value.int p0), (2, Value.int p1), (3, Value.ref o)]) dL_yank_13 rfl (by decide) (by first | exact rf_ref _ | exact rf_opt _ | exact rf_nul) rfl ?_
      refine pw_iconst (pc2 := 16) (v := 1) dL_yank_15 rfl (by decide) ?_
      refine pw_iret dL_yank_16 rfl (by first | rfl | assumption | simp [narrow]) ?_
      exact Or.inr ⟨_, _, q9, by decide +kernel, rfl⟩
    · refine px_catch [(0, 10, 13, 21)] [(0, 10, 21, 15)] (0, 10, 17, 31) rfl (fun z hz => by simp only [List.mem_cons, List.not_mem_nil, or_false] at hz; subst hz <;> first | exact Or.inr ⟨by decide, _, cl_L_21, by decide +kernel⟩) (by decide) (by decide) cl_L_31 ca_NoSuchElementException__NoSuchElementException (fun q => ?_)
      refine pw_astore (pc2 := 19) (L2 := [(4, Value.ref q), (0, Value.ref x), (1, Value.int p0), (2, Value.int p1), (3, Value.ref o)]) dL_yank_17 rfl (by decide) (by first | exact rf_ref _ | exact rf_opt _ | exact rf_nul) rfl ?_
      refine pw_iconst (pc2 := 20) (v := 2) dL_yank_19 rfl (by decide) ?_
      refine pw_iret dL_yank_20 rfl (by first | rfl | assumption | simp [narrow]) ?_
      exact Or.inr ⟨_, _, q9, by decide +kernel, rfl⟩
    · refine px_catch [(0, 10, 13, 21), (0, 10, 17, 31)] [] (0, 10, 21, 15) rfl (fun z hz => by simp only [List.mem_cons, List.not_mem_nil, or_false] at hz; rcases hz with rfl | rfl <;> first | exact Or.inr ⟨by decide, _, cl_L_21, by decide +kernel⟩ | exact Or.inr ⟨by decide, _, cl_L_31, by decide +kernel⟩) (by decide) (by decide) cl_L_15 ca_IllegalStateException__IllegalStateException (fun q => ?_)
      refine pw_astore (pc2 := 23) (L2 := [(4, Value.ref q), (0, Value.ref x), (1, Value.int p0), (2, Value.int p1), (3, Value.ref o)]) dL_yank_21 rfl (by decide) (by first | exact rf_ref _ | exact rf_opt _ | exact rf_nul) rfl ?_
      refine pw_iconst (pc2 := 24) (v := 3) dL_yank_23 rfl (by decide) ?_
      refine pw_iret dL_yank_24 rfl (by first | rfl | assumption | simp [narrow]) ?_
      exact Or.inr ⟨_, _, q9, by decide +kernel, rfl⟩
  obtain ⟨v, f, rfl, ho⟩ := hQ _ _ q9
  refine pw_i2l (pc2 := 9) dL_yank_8 rfl ?_
  refine pw_last (pc2 := 10) ho (by unfold vp_in; decide) dL_yank_9 rfl ?_
  refine pw_goto (tgt := 25) dL_yank_10 (by decide) ?_
  refine pw_iconst (pc2 := 26) (v := 0) dL_yank_25 rfl (by decide) ?_
  refine pw_iret dL_yank_26 rfl (by first | rfl | assumption | simp [narrow]) ?_
  exact Or.inl ⟨v, h9, q9, rfl, _, rfl, rfl⟩
set_option maxHeartbeats 4000000 in
set_option maxRecDepth 100000 in
theorem w_isStale (G : hG) (h : hp) {x o : Nat} {p0 p1 : Int32} {k kc ks : Nat} {fs : List Value} {Qc : Option Value → hp → Prop} {Xc : String → hp → Prop} (hx : h x = some (oB 12 fs)) (hc : PMet G MX9_isStale k kc ks [.ref x, .int p0, .int p1] h Qc Xc) (hQ : ∀ r h1, Qc r h1 → ∃ v f, r = some (.int v) ∧ h1 o = some (aL 1 f) ∧ b01 v) (hX : ∀ C h1, Xc C h1 → C = xIO ∨ C = nsN) : PMet G ML_isStale (k + 1) (0 + kc) (0 + ks) [.ref x, .int p0, .int p1, .ref o] h (QW Qc Xc o [(xIO, 1), (nsN, 2)]) noX := by
  refine PMet.of (by decide +kernel) (Nat.le_of_ble_eq_true rfl) (fun d hd => ?_)
  refine PW.sub (L2 := [(0, Value.ref x), (1, Value.int p0), (2, Value.int p1), (3, Value.ref o)]) [0, 1, 2, 3] rfl ?_
  refine pw_aload_n (pc2 := 1) dL_isStale_0 rfl rfl 3 rfl (by first | exact rf_ref _ | exact rf_opt _ | exact rf_nul) ?_
  refine pw_iconst (pc2 := 2) (v := 0) dL_isStale_1 rfl (by decide) ?_
  refine pw_aload_n (pc2 := 3) dL_isStale_2 rfl rfl 0 rfl (by first | exact rf_ref _ | exact rf_opt _ | exact rf_nul) ?_
  refine pw_iload_n (pc2 := 4) dL_isStale_3 rfl rfl 1 rfl ?_
  refine pw_iload_n (pc2 := 5) dL_isStale_4 rfl rfl 2 rfl ?_
  refine pw_callV (pc2 := 8) hc cs_L_86 rfl rfl hx dL_isStale_5 rfl (by omega) rfl (by first | decide | simp [cat_rf, Value.category]) (fun r9 h9 q9 => ?_) (fun Y h9 q9 => ?_)
  rotate_left
  · rcases hX Y h9 q9 with rfl | rfl
    · refine px_catch [] [(0, 17, 24, 31)] (0, 17, 20, 21) rfl (fun z hz => absurd hz List.not_mem_nil) (by decide) (by decide) cl_L_21 ca_IndexOutOfBoundsException__IndexOutOfBoundsException (fun q => ?_)
      refine pw_astore (pc2 := 22) (L2 := [(4, Value.ref q), (0, Value.ref x), (1, Value.int p0), (2, Value.int p1), (3, Value.ref o)]) dL_isStale_20 rfl (by decide) (by first | exact rf_ref _ | exact rf_opt _ | exact rf_nul) rfl ?_
      refine pw_iconst (pc2 := 23) (v := 1) dL_isStale_22 rfl (by decide) ?_
      refine pw_iret dL_isStale_23 rfl (by first | rfl | assumption | simp [narrow]) ?_
      exact Or.inr ⟨_, _, q9, by decide +kernel, rfl⟩
    · refine px_catch [(0, 17, 20, 21)] [] (0, 17, 24, 31) rfl (fun z hz => by simp only [List.mem_cons, List.not_mem_nil, or_false] at hz; subst hz <;> first | exact Or.inr ⟨by decide, _, cl_L_21, by decide +kernel⟩) (by decide) (by decide) cl_L_31 ca_NoSuchElementException__NoSuchElementException (fun q => ?_)
      refine pw_astore (pc2 := 26) (L2 := [(4, Value.ref q), (0, Value.ref x), (1, Value.int p0), (2, Value.int p1), (3, Value.ref o)]) dL_isStale_24 rfl (by decide) (by first | exact rf_ref _ | exact rf_opt _ | exact rf_nul) rfl ?_
      refine pw_iconst (pc2 := 27) (v := 2) dL_isStale_26 rfl (by decide) ?_
      refine pw_iret dL_isStale_27 rfl (by first | rfl | assumption | simp [narrow]) ?_
      exact Or.inr ⟨_, _, q9, by decide +kernel, rfl⟩
  obtain ⟨v, f, rfl, ho, hz⟩ := hQ _ _ q9
  refine pw_if_eq (tgt := 15) (pc2 := 11) dL_isStale_8 (by decide) rfl (fun c8 => ?_) (fun c8 => ?_)
  · refine pw_lconst (pc2 := 16) (v := 0) dL_isStale_15 rfl (by decide) ?_
    refine pw_last (pc2 := 17) ho (by unfold vp_in; decide) dL_isStale_16 rfl ?_
    refine pw_goto (tgt := 28) dL_isStale_17 (by decide) ?_
    refine pw_iconst (pc2 := 29) (v := 0) dL_isStale_28 rfl (by decide) ?_
    refine pw_iret dL_isStale_29 rfl (by first | rfl | assumption | simp [narrow]) ?_
    exact Or.inl ⟨v, h9, q9, rfl, _, rfl, by first | (rcases hz with rfl | rfl <;> first | rfl | exact absurd rfl c8 | exact absurd c8 (by decide))⟩
  · refine pw_lconst (pc2 := 12) (v := 1) dL_isStale_11 rfl (by decide) ?_
    refine pw_goto (tgt := 16) dL_isStale_12 (by decide) ?_
    refine pw_last (pc2 := 17) ho (by unfold vp_in; decide) dL_isStale_16 rfl ?_
    refine pw_goto (tgt := 28) dL_isStale_17 (by decide) ?_
    refine pw_iconst (pc2 := 29) (v := 0) dL_isStale_28 rfl (by decide) ?_
    refine pw_iret dL_isStale_29 rfl (by first | rfl | assumption | simp [narrow]) ?_
    exact Or.inl ⟨v, h9, q9, rfl, _, rfl, by first | (rcases hz with rfl | rfl <;> first | rfl | exact absurd rfl c8 | exact absurd c8 (by decide))⟩
set_option maxHeartbeats 4000000 in
set_option maxRecDepth 100000 in
theorem w_relock (G : hG) (h : hp) {x o : Nat} {p0 p1 : Int32} {k kc ks : Nat} {fs : List Value} {Qc : Option Value → hp → Prop} {Xc : String → hp → Prop} (hx : h x = some (oB 12 fs)) (hc : PMet G MX9_relock k kc ks [.ref x, .int p0, .int p1] h Qc Xc) (hQ : ∀ r h1, Qc r h1 → ∃ v f, r = some (.int v) ∧ h1 o = some (aL 1 f)) (hX : ∀ C h1, Xc C h1 → C = xIO ∨ C = nsN ∨ C = xIS ∨ C = xUO) : PMet G ML_relock (k + 1) (0 + kc) (0 + ks) [.ref x, .int p0, .int p1, .ref o] h (QW Qc Xc o [(xIO, 1), (nsN, 2), (xIS, 3), (xUO, 4)]) noX := by
  refine PMet.of (by decide +kernel) (Nat.le_of_ble_eq_true rfl) (fun d hd => ?_)
  refine PW.sub (L2 := [(0, Value.ref x), (1, Value.int p0), (2, Value.int p1), (3, Value.ref o)]) [0, 1, 2, 3] rfl ?_
  refine pw_aload_n (pc2 := 1) dL_relock_0 rfl rfl 3 rfl (by first | exact rf_ref _ | exact rf_opt _ | exact rf_nul) ?_
  refine pw_iconst (pc2 := 2) (v := 0) dL_relock_1 rfl (by decide) ?_
  refine pw_aload_n (pc2 := 3) dL_relock_2 rfl rfl 0 rfl (by first | exact rf_ref _ | exact rf_opt _ | exact rf_nul) ?_
  refine pw_iload_n (pc2 := 4) dL_relock_3 rfl rfl 1 rfl ?_
  refine pw_iload_n (pc2 := 5) dL_relock_4 rfl rfl 2 rfl ?_
  refine pw_callV (pc2 := 8) hc cs_L_90 rfl rfl hx dL_relock_5 rfl (by omega) rfl (by first | decide | simp [cat_rf, Value.category]) (fun r9 h9 q9 => ?_) (fun Y h9 q9 => ?_)
  rotate_left
  · rcases hX Y h9 q9 with rfl | rfl | rfl | rfl
    · refine px_catch [] [(0, 10, 17, 31), (0, 10, 21, 15), (0, 10, 25, 36)] (0, 10, 13, 21) rfl (fun z hz => absurd hz List.not_mem_nil) (by decide) (by decide) cl_L_21 ca_IndexOutOfBoundsException__IndexOutOfBoundsException (fun q => ?_)
      refine pw_astore (pc2 := 15) (L2 := [(4, Value.ref q), (0, Value.ref x), (1, Value.int p0), (2, Value.int p1), (3, Value.ref o)]) dL_relock_13 rfl (by decide) (by first | exact rf_ref _ | exact rf_opt _ | exact rf_nul) rfl ?_
      refine pw_iconst (pc2 := 16) (v := 1) dL_relock_15 rfl (by decide) ?_
      refine pw_iret dL_relock_16 rfl (by first | rfl | assumption | simp [narrow]) ?_
      exact Or.inr ⟨_, _, q9, by decide +kernel, rfl⟩
    · refine px_catch [(0, 10, 13, 21)] [(0, 10, 21, 15), (0, 10, 25, 36)] (0, 10, 17, 31) rfl (fun z hz => by simp only [List.mem_cons, List.not_mem_nil, or_false] at hz; subst hz <;> first | exact Or.inr ⟨by decide, _, cl_L_21, by decide +kernel⟩) (by decide) (by decide) cl_L_31 ca_NoSuchElementException__NoSuchElementException (fun q => ?_)
      refine pw_astore (pc2 := 19) (L2 := [(4, Value.ref q), (0, Value.ref x), (1, Value.int p0), (2, Value.int p1), (3, Value.ref o)]) dL_relock_17 rfl (by decide) (by first | exact rf_ref _ | exact rf_opt _ | exact rf_nul) rfl ?_
      refine pw_iconst (pc2 := 20) (v := 2) dL_relock_19 rfl (by decide) ?_
      refine pw_iret dL_relock_20 rfl (by first | rfl | assumption | simp [narrow]) ?_
      exact Or.inr ⟨_, _, q9, by decide +kernel, rfl⟩
    · refine px_catch [(0, 10, 13, 21), (0, 10, 17, 31)] [(0, 10, 25, 36)] (0, 10, 21, 15) rfl (fun z hz => by simp only [List.mem_cons, List.not_mem_nil, or_false] at hz; rcases hz with rfl | rfl <;> first | exact Or.inr ⟨by decide, _, cl_L_21, by decide +kernel⟩ | exact Or.inr ⟨by decide, _, cl_L_31, by decide +kernel⟩) (by decide) (by decide) cl_L_15 ca_IllegalStateException__IllegalStateException (fun q => ?_)
      refine pw_astore (pc2 := 23) (L2 := [(4, Value.ref q), (0, Value.ref x), (1, Value.int p0), (2, Value.int p1), (3, Value.ref o)]) dL_relock_21 rfl (by decide) (by first | exact rf_ref _ | exact rf_opt _ | exact rf_nul) rfl ?_
      refine pw_iconst (pc2 := 24) (v := 3) dL_relock_23 rfl (by decide) ?_
      refine pw_iret dL_relock_24 rfl (by first | rfl | assumption | simp [narrow]) ?_
      exact Or.inr ⟨_, _, q9, by decide +kernel, rfl⟩
    · refine px_catch [(0, 10, 13, 21), (0, 10, 17, 31), (0, 10, 21, 15)] [] (0, 10, 25, 36) rfl (fun z hz => by simp only [List.mem_cons, List.not_mem_nil, or_false] at hz; rcases hz with rfl | rfl | rfl <;> first | exact Or.inr ⟨by decide, _, cl_L_21, by decide +kernel⟩ | exact Or.inr ⟨by decide, _, cl_L_31, by decide +kernel⟩ | exact Or.inr ⟨by decide, _, cl_L_15, by decide +kernel⟩) (by decide) (by decide) cl_L_36 ca_UnsupportedOperationException__UnsupportedOperationException (fun q => ?_)
      refine pw_astore (pc2 := 27) (L2 := [(4, Value.ref q), (0, Value.ref x), (1, Value.int p0), (2, Value.int p1), (3, Value.ref o)]) dL_relock_25 rfl (by decide) (by first | exact rf_ref _ | exact rf_opt _ | exact rf_nul) rfl ?_
      refine pw_iconst (pc2 := 28) (v := 4) dL_relock_27 rfl (by decide) ?_
      refine pw_iret dL_relock_28 rfl (by first | rfl | assumption | simp [narrow]) ?_
      exact Or.inr ⟨_, _, q9, by decide +kernel, rfl⟩
  obtain ⟨v, f, rfl, ho⟩ := hQ _ _ q9
  refine pw_i2l (pc2 := 9) dL_relock_8 rfl ?_
  refine pw_last (pc2 := 10) ho (by unfold vp_in; decide) dL_relock_9 rfl ?_
  refine pw_goto (tgt := 29) dL_relock_10 (by decide) ?_
  refine pw_iconst (pc2 := 30) (v := 0) dL_relock_29 rfl (by decide) ?_
  refine pw_iret dL_relock_30 rfl (by first | rfl | assumption | simp [narrow]) ?_
  exact Or.inl ⟨v, h9, q9, rfl, _, rfl, rfl⟩
set_option maxHeartbeats 4000000 in
set_option maxRecDepth 100000 in
theorem w_locked (G : hG) (h : hp) {x o : Nat} {p0 p1 p2 : Int32} {k kc ks : Nat} {fs : List Value} {Qc : Option Value → hp → Prop} {Xc : String → hp → Prop} (hx : h x = some (oB 12 fs)) (hc : PMet G MX9_locked k kc ks [.ref x, .int p0, .int p1, .int p2] h Qc Xc) (hQ : ∀ r h1, Qc r h1 → ∃ v f, r = some (.int v) ∧ h1 o = some (aL 1 f)) (hX : ∀ C h1, Xc C h1 → C = xIO ∨ C = nsN) : PMet G ML_locked (k + 1) (0 + kc) (0 + ks) [.ref x, .int p0, .int p1, .int p2, .ref o] h (QW Qc Xc o [(xIO, 1), (nsN, 2)]) noX := by
  refine PMet.of (by decide +kernel) (Nat.le_of_ble_eq_true rfl) (fun d hd => ?_)
  refine PW.sub (L2 := [(0, Value.ref x), (1, Value.int p0), (2, Value.int p1), (3, Value.int p2), (4, Value.ref o)]) [0, 1, 2, 3, 4] rfl ?_
  refine pw_aload (pc2 := 2) dL_locked_0 rfl 4 rfl (by first | exact rf_ref _ | exact rf_opt _ | exact rf_nul) ?_
  refine pw_iconst (pc2 := 3) (v := 0) dL_locked_2 rfl (by decide) ?_
  refine pw_aload_n (pc2 := 4) dL_locked_3 rfl rfl 0 rfl (by first | exact rf_ref _ | exact rf_opt _ | exact rf_nul) ?_
  refine pw_iload_n (pc2 := 5) dL_locked_4 rfl rfl 1 rfl ?_
  refine pw_iload_n (pc2 := 6) dL_locked_5 rfl rfl 2 rfl ?_
  refine pw_iload_n (pc2 := 7) dL_locked_6 rfl rfl 3 rfl ?_
  refine pw_callV (pc2 := 10) hc cs_L_93 rfl rfl hx dL_locked_7 rfl (by omega) rfl (by first | decide | simp [cat_rf, Value.category]) (fun r9 h9 q9 => ?_) (fun Y h9 q9 => ?_)
  rotate_left
  · rcases hX Y h9 q9 with rfl | rfl
    · refine px_catch [] [(0, 12, 19, 31)] (0, 12, 15, 21) rfl (fun z hz => absurd hz List.not_mem_nil) (by decide) (by decide) cl_L_21 ca_IndexOutOfBoundsException__IndexOutOfBoundsException (fun q => ?_)
      refine pw_astore (pc2 := 17) (L2 := [(5, Value.ref q), (0, Value.ref x), (1, Value.int p0), (2, Value.int p1), (3, Value.int p2), (4, Value.ref o)]) dL_locked_15 rfl (by decide) (by first | exact rf_ref _ | exact rf_opt _ | exact rf_nul) rfl ?_
      refine pw_iconst (pc2 := 18) (v := 1) dL_locked_17 rfl (by decide) ?_
      refine pw_iret dL_locked_18 rfl (by first | rfl | assumption | simp [narrow]) ?_
      exact Or.inr ⟨_, _, q9, by decide +kernel, rfl⟩
    · refine px_catch [(0, 12, 15, 21)] [] (0, 12, 19, 31) rfl (fun z hz => by simp only [List.mem_cons, List.not_mem_nil, or_false] at hz; subst hz <;> first | exact Or.inr ⟨by decide, _, cl_L_21, by decide +kernel⟩) (by decide) (by decide) cl_L_31 ca_NoSuchElementException__NoSuchElementException (fun q => ?_)
      refine pw_astore (pc2 := 21) (L2 := [(5, Value.ref q), (0, Value.ref x), (1, Value.int p0), (2, Value.int p1), (3, Value.int p2), (4, Value.ref o)]) dL_locked_19 rfl (by decide) (by first | exact rf_ref _ | exact rf_opt _ | exact rf_nul) rfl ?_
      refine pw_iconst (pc2 := 22) (v := 2) dL_locked_21 rfl (by decide) ?_
      refine pw_iret dL_locked_22 rfl (by first | rfl | assumption | simp [narrow]) ?_
      exact Or.inr ⟨_, _, q9, by decide +kernel, rfl⟩
  obtain ⟨v, f, rfl, ho⟩ := hQ _ _ q9
  refine pw_i2l (pc2 := 11) dL_locked_10 rfl ?_
  refine pw_last (pc2 := 12) ho (by unfold vp_in; decide) dL_locked_11 rfl ?_
  refine pw_goto (tgt := 23) dL_locked_12 (by decide) ?_
  refine pw_iconst (pc2 := 24) (v := 0) dL_locked_23 rfl (by decide) ?_
  refine pw_iret dL_locked_24 rfl (by first | rfl | assumption | simp [narrow]) ?_
  exact Or.inl ⟨v, h9, q9, rfl, _, rfl, rfl⟩
set_option maxHeartbeats 4000000 in
set_option maxRecDepth 100000 in
theorem w_goodShare (G : hG) (h : hp) {x o : Nat} {k kc ks : Nat} {fs : List Value} {Qc : Option Value → hp → Prop} {Xc : String → hp → Prop} (hx : h x = some (oB 12 fs)) (hc : PMet G MX9_goodShare k kc ks [.ref x] h Qc Xc) (hQ : ∀ r h1, Qc r h1 → ∃ v f, r = some (.float v) ∧ h1 o = some (aD 1 f) ∧ vf_n64 (FP.f2d v)) (hX : ∀ C h1, Xc C h1 → C = xAR) : PMet G ML_goodShare (k + 1) (0 + kc) (0 + ks) [.ref x, .ref o] h (QWf Qc Xc o [(xAR, 1)]) noX := by
  refine PMet.of (by decide +kernel) (Nat.le_of_ble_eq_true rfl) (fun d hd => ?_)
  refine PW.sub (L2 := [(0, Value.ref x), (1, Value.ref o)]) [0, 1] rfl ?_
  refine pw_aload_n (pc2 := 1) dL_goodShare_0 rfl rfl 1 rfl (by first | exact rf_ref _ | exact rf_opt _ | exact rf_nul) ?_
  refine pw_iconst (pc2 := 2) (v := 0) dL_goodShare_1 rfl (by decide) ?_
  refine pw_aload_n (pc2 := 3) dL_goodShare_2 rfl rfl 0 rfl (by first | exact rf_ref _ | exact rf_opt _ | exact rf_nul) ?_
  refine pw_callV (pc2 := 6) hc cs_L_96 rfl rfl hx dL_goodShare_3 rfl (by omega) rfl (by first | decide | simp [cat_rf, Value.category]) (fun r9 h9 q9 => ?_) (fun Y h9 q9 => ?_)
  rotate_left
  · obtain rfl := hX Y h9 q9
    refine px_catch [] [] (0, 8, 11, 100) rfl (fun z hz => absurd hz List.not_mem_nil) (by decide) (by decide) cl_L_100 ca_ArithmeticException__ArithmeticException (fun q => ?_)
    refine pw_astore_n (pc2 := 12) (L2 := [(2, Value.ref q), (0, Value.ref x), (1, Value.ref o)]) dL_goodShare_11 rfl rfl (by decide) (by first | exact rf_ref _ | exact rf_opt _ | exact rf_nul) rfl ?_
    refine pw_iconst (pc2 := 13) (v := 1) dL_goodShare_12 rfl (by decide) ?_
    refine pw_iret dL_goodShare_13 rfl (by first | rfl | assumption | simp [narrow]) ?_
    exact Or.inr ⟨_, _, q9, by decide +kernel, rfl⟩
  obtain ⟨v, f, rfl, ho, hz⟩ := hQ _ _ q9
  refine pw_f2d (pc2 := 7) dL_goodShare_6 rfl hz ?_
  refine pw_dast (pc2 := 8) ho (by unfold vp_in; decide) dL_goodShare_7 rfl ?_
  refine pw_goto (tgt := 14) dL_goodShare_8 (by decide) ?_
  refine pw_iconst (pc2 := 15) (v := 0) dL_goodShare_14 rfl (by decide) ?_
  refine pw_iret dL_goodShare_15 rfl (by first | rfl | assumption | simp [narrow]) ?_
  exact Or.inl ⟨v, h9, q9, rfl, _, rfl, rfl⟩
set_option maxHeartbeats 4000000 in
set_option maxRecDepth 100000 in
theorem w_meanPaid (G : hG) (h : hp) {x o : Nat} {k kc ks : Nat} {fs : List Value} {Qc : Option Value → hp → Prop} {Xc : String → hp → Prop} (hx : h x = some (oB 12 fs)) (hc : PMet G MX9_meanPaid k kc ks [.ref x] h Qc Xc) (hQ : ∀ r h1, Qc r h1 → ∃ v f, r = some (.double v) ∧ h1 o = some (aD 1 f)) (hX : ∀ C h1, Xc C h1 → C = xAR) : PMet G ML_meanPaid (k + 1) (0 + kc) (0 + ks) [.ref x, .ref o] h (QWd Qc Xc o [(xAR, 1)]) noX := by
  refine PMet.of (by decide +kernel) (Nat.le_of_ble_eq_true rfl) (fun d hd => ?_)
  refine PW.sub (L2 := [(0, Value.ref x), (1, Value.ref o)]) [0, 1] rfl ?_
  refine pw_aload_n (pc2 := 1) dL_meanPaid_0 rfl rfl 1 rfl (by first | exact rf_ref _ | exact rf_opt _ | exact rf_nul) ?_
  refine pw_iconst (pc2 := 2) (v := 0) dL_meanPaid_1 rfl (by decide) ?_
  refine pw_aload_n (pc2 := 3) dL_meanPaid_2 rfl rfl 0 rfl (by first | exact rf_ref _ | exact rf_opt _ | exact rf_nul) ?_
  refine pw_callV (pc2 := 6) hc cs_L_102 rfl rfl hx dL_meanPaid_3 rfl (by omega) rfl (by first | decide | simp [cat_rf, Value.category]) (fun r9 h9 q9 => ?_) (fun Y h9 q9 => ?_)
  rotate_left
  · obtain rfl := hX Y h9 q9
    refine px_catch [] [] (0, 7, 10, 100) rfl (fun z hz => absurd hz List.not_mem_nil) (by decide) (by decide) cl_L_100 ca_ArithmeticException__ArithmeticException (fun q => ?_)
    refine pw_astore_n (pc2 := 11) (L2 := [(2, Value.ref q), (0, Value.ref x), (1, Value.ref o)]) dL_meanPaid_10 rfl rfl (by decide) (by first | exact rf_ref _ | exact rf_opt _ | exact rf_nul) rfl ?_
    refine pw_iconst (pc2 := 12) (v := 1) dL_meanPaid_11 rfl (by decide) ?_
    refine pw_iret dL_meanPaid_12 rfl (by first | rfl | assumption | simp [narrow]) ?_
    exact Or.inr ⟨_, _, q9, by decide +kernel, rfl⟩
  obtain ⟨v, f, rfl, ho⟩ := hQ _ _ q9
  refine pw_dast (pc2 := 7) ho (by unfold vp_in; decide) dL_meanPaid_6 rfl ?_
  refine pw_goto (tgt := 13) dL_meanPaid_7 (by decide) ?_
  refine pw_iconst (pc2 := 14) (v := 0) dL_meanPaid_13 rfl (by decide) ?_
  refine pw_iret dL_meanPaid_14 rfl (by first | rfl | assumption | simp [narrow]) ?_
  exact Or.inl ⟨v, h9, q9, rfl, _, rfl, rfl⟩
