/-! the law's own methods that call the class: what was thrown is told by a number -/
/-- what such a method does: the call's answer, or what it threw is told -/
def QV (Qc : Option Value → hp → Prop) (Xc : String → hp → Prop) (cd : List (String × Int32)) : Option Value → hp → Prop := fun r h2 => (∃ v, Qc (some (.int v)) h2 ∧ r = some (.int v)) ∨ ∃ C n, Xc C h2 ∧ cd.lookup C = some n ∧ r = some (.int n)
def QVf (Qc : Option Value → hp → Prop) (Xc : String → hp → Prop) : Option Value → hp → Prop := fun r h2 => (∃ v, Qc (some (.float v)) h2 ∧ r = some (.float v)) ∨ ∃ C, Xc C h2 ∧ r = some (.float 3212836864)
theorem kcF_102 : Cond.constantFloat RL 102 3212836864 ∈ gws := gws_of 959 (by decide +kernel) rfl
set_option maxHeartbeats 4000000 in
set_option maxRecDepth 100000 in
theorem w_pack (G : hG) (h : hp) {x : Nat} {p0 : Int32} {k kc ks : Nat} {fs : List Value} {Qc : Option Value → hp → Prop} {Xc : String → hp → Prop} (hx : h x = some (oB 12 fs)) (hc : PMet G MX9_addPackage k kc ks [.ref x, .int p0] h Qc Xc) (hQ : ∀ r h1, Qc r h1 → ∃ v, r = some (.int v)) (hX : ∀ C h1, Xc C h1 → C = xIA ∨ C = xIS) : PMet G ML_pack (k + 1) (0 + kc) (0 + ks) [.ref x, .int p0] h (QV Qc Xc [(xIA, (-1001)), (xIS, (-1002))]) noX := by
  refine PMet.of (by decide +kernel) (Nat.le_of_ble_eq_true rfl) (fun d hd => ?_)
  refine PW.sub (L2 := [(0, Value.ref x), (1, Value.int p0)]) [0, 1] rfl ?_
  refine pw_aload_n (pc2 := 1) dL_pack_0 rfl rfl 0 rfl (by first | exact rf_ref _ | exact rf_opt _ | exact rf_nul) ?_
  refine pw_iload_n (pc2 := 2) dL_pack_1 rfl rfl 1 rfl ?_
  refine pw_callV (pc2 := 5) hc cs_L_7 rfl rfl hx dL_pack_2 rfl (by omega) rfl (by first | decide | simp [cat_rf, Value.category]) (fun r9 h9 q9 => ?_) (fun Y h9 q9 => ?_)
  rotate_left
  · rcases hX Y h9 q9 with rfl | rfl
    · refine px_catch [] [(0, 5, 11, 15)] (0, 5, 6, 13) rfl (fun z hz => absurd hz List.not_mem_nil) (by decide) (by decide) cl_L_13 ca_IllegalArgumentException__IllegalArgumentException (fun q => ?_)
      refine pw_astore_n (pc2 := 7) (L2 := [(2, Value.ref q), (0, Value.ref x), (1, Value.int p0)]) dL_pack_6 rfl rfl (by decide) (by first | exact rf_ref _ | exact rf_opt _ | exact rf_nul) rfl ?_
      refine pw_sipush (pc2 := 10) (v := (-1001)) dL_pack_7 rfl (by decide) ?_
      refine pw_iret dL_pack_10 rfl (by first | rfl | assumption | simp [narrow]) ?_
      exact Or.inr ⟨_, _, q9, by decide +kernel, rfl⟩
    · refine px_catch [(0, 5, 6, 13)] [] (0, 5, 11, 15) rfl (List.forall_mem_cons.mpr ⟨Or.inr ⟨by decide, _, cl_L_13, by decide +kernel⟩, (fun z hz => absurd hz List.not_mem_nil)⟩) (by decide) (by decide) cl_L_15 ca_IllegalStateException__IllegalStateException (fun q => ?_)
      refine pw_astore_n (pc2 := 12) (L2 := [(2, Value.ref q), (0, Value.ref x), (1, Value.int p0)]) dL_pack_11 rfl rfl (by decide) (by first | exact rf_ref _ | exact rf_opt _ | exact rf_nul) rfl ?_
      refine pw_sipush (pc2 := 15) (v := (-1002)) dL_pack_12 rfl (by decide) ?_
      refine pw_iret dL_pack_15 rfl (by first | rfl | assumption | simp [narrow]) ?_
      exact Or.inr ⟨_, _, q9, by decide +kernel, rfl⟩
  obtain ⟨v, rfl⟩ := hQ _ _ q9
  refine pw_iret dL_pack_5 rfl (by first | rfl | assumption | simp [narrow]) ?_
  exact Or.inl ⟨_, q9, rfl⟩
set_option maxHeartbeats 4000000 in
set_option maxRecDepth 100000 in
theorem w_source (G : hG) (h : hp) {x : Nat} {p0 p1 p2 : Int32} {k kc ks : Nat} {fs : List Value} {Qc : Option Value → hp → Prop} {Xc : String → hp → Prop} (hx : h x = some (oB 12 fs)) (hc : PMet G MX9_setSource k kc ks [.ref x, .int p0, .int p1, .int p2] h Qc Xc) (hQ : ∀ r h1, Qc r h1 → ∃ v, r = some (.int v)) (hX : ∀ C h1, Xc C h1 → C = xIO ∨ C = xIA) : PMet G ML_source (k + 1) (0 + kc) (0 + ks) [.ref x, .int p0, .int p1, .int p2] h (QV Qc Xc [(xIO, (-1001)), (xIA, (-1002))]) noX := by
  refine PMet.of (by decide +kernel) (Nat.le_of_ble_eq_true rfl) (fun d hd => ?_)
  refine PW.sub (L2 := [(0, Value.ref x), (1, Value.int p0), (2, Value.int p1), (3, Value.int p2)]) [0, 1, 2, 3] rfl ?_
  refine pw_aload_n (pc2 := 1) dL_source_0 rfl rfl 0 rfl (by first | exact rf_ref _ | exact rf_opt _ | exact rf_nul) ?_
  refine pw_iload_n (pc2 := 2) dL_source_1 rfl rfl 1 rfl ?_
  refine pw_iload_n (pc2 := 3) dL_source_2 rfl rfl 2 rfl ?_
  refine pw_iload_n (pc2 := 4) dL_source_3 rfl rfl 3 rfl ?_
  refine pw_callV (pc2 := 7) hc cs_L_17 rfl rfl hx dL_source_4 rfl (by omega) rfl (by first | decide | simp [cat_rf, Value.category]) (fun r9 h9 q9 => ?_) (fun Y h9 q9 => ?_)
  rotate_left
  · rcases hX Y h9 q9 with rfl | rfl
    · refine px_catch [] [(0, 7, 14, 13)] (0, 7, 8, 21) rfl (fun z hz => absurd hz List.not_mem_nil) (by decide) (by decide) cl_L_21 ca_IndexOutOfBoundsException__IndexOutOfBoundsException (fun q => ?_)
      refine pw_astore (pc2 := 10) (L2 := [(4, Value.ref q), (0, Value.ref x), (1, Value.int p0), (2, Value.int p1), (3, Value.int p2)]) dL_source_8 rfl (by decide) (by first | exact rf_ref _ | exact rf_opt _ | exact rf_nul) rfl ?_
      refine pw_sipush (pc2 := 13) (v := (-1001)) dL_source_10 rfl (by decide) ?_
      refine pw_iret dL_source_13 rfl (by first | rfl | assumption | simp [narrow]) ?_
      exact Or.inr ⟨_, _, q9, by decide +kernel, rfl⟩
    · refine px_catch [(0, 7, 8, 21)] [] (0, 7, 14, 13) rfl (List.forall_mem_cons.mpr ⟨Or.inr ⟨by decide, _, cl_L_21, by decide +kernel⟩, (fun z hz => absurd hz List.not_mem_nil)⟩) (by decide) (by decide) cl_L_13 ca_IllegalArgumentException__IllegalArgumentException (fun q => ?_)
      refine pw_astore (pc2 := 16) (L2 := [(4, Value.ref q), (0, Value.ref x), (1, Value.int p0), (2, Value.int p1), (3, Value.int p2)]) dL_source_14 rfl (by decide) (by first | exact rf_ref _ | exact rf_opt _ | exact rf_nul) rfl ?_
      refine pw_sipush (pc2 := 19) (v := (-1002)) dL_source_16 rfl (by decide) ?_
      refine pw_iret dL_source_19 rfl (by first | rfl | assumption | simp [narrow]) ?_
      exact Or.inr ⟨_, _, q9, by decide +kernel, rfl⟩
  obtain ⟨v, rfl⟩ := hQ _ _ q9
  refine pw_iret dL_source_7 rfl (by first | rfl | assumption | simp [narrow]) ?_
  exact Or.inl ⟨_, q9, rfl⟩
set_option maxHeartbeats 4000000 in
set_option maxRecDepth 100000 in
theorem w_needD (G : hG) (h : hp) {x : Nat} {p0 p1 p3 : Int32} {k kc ks : Nat} {fs : List Value} {Qc : Option Value → hp → Prop} {Xc : String → hp → Prop} (hx : h x = some (oB 12 fs)) (hc : PMet G MX9_dropNeed k kc ks [.ref x, .int p0, .int p1] h Qc Xc) (hQ : ∀ r h1, Qc r h1 → ∃ v, r = some (.int v)) (hX : ∀ C h1, Xc C h1 → C = xIO ∨ C = nsN) : PMet G ML_need (k + 1) (0 + kc) (0 + ks) [.ref x, .int p0, .int p1, .int (-1), .int p3] h (QV Qc Xc [(xIO, (-1001)), (nsN, (-1002))]) noX := by
  refine PMet.of (by decide +kernel) (Nat.le_of_ble_eq_true rfl) (fun d hd => ?_)
  refine PW.sub (L2 := [(0, Value.ref x), (1, Value.int p0), (2, Value.int p1), (3, Value.int (-1)), (4, Value.int p3)]) [0, 1, 2, 3, 4] rfl ?_
  refine pw_iload_n (pc2 := 1) dL_need_0 rfl rfl 3 rfl ?_
  refine pw_iconst (pc2 := 2) (v := (-1)) dL_need_1 rfl (by decide) ?_
  refine pw_icmp_ne (tgt := 14) (pc2 := 5) dL_need_2 (by decide) rfl (fun c2 => by exact absurd (rfl) c2) (fun _ => ?_)
  refine pw_aload_n (pc2 := 6) dL_need_5 rfl rfl 0 rfl (by first | exact rf_ref _ | exact rf_opt _ | exact rf_nul) ?_
  refine pw_iload_n (pc2 := 7) dL_need_6 rfl rfl 1 rfl ?_
  refine pw_iload_n (pc2 := 8) dL_need_7 rfl rfl 2 rfl ?_
  refine pw_callV (pc2 := 11) hc cs_L_23 rfl rfl hx dL_need_8 rfl (by omega) rfl (by first | decide | simp [cat_rf, Value.category]) (fun r9 h9 q9 => ?_) (fun Y h9 q9 => ?_)
  rotate_left
  · rcases hX Y h9 q9 with rfl | rfl
    · refine px_catch [] [(0, 23, 30, 13), (0, 23, 36, 31)] (0, 23, 24, 21) rfl (fun z hz => absurd hz List.not_mem_nil) (by decide) (by decide) cl_L_21 ca_IndexOutOfBoundsException__IndexOutOfBoundsException (fun q => ?_)
      refine pw_astore (pc2 := 26) (L2 := [(5, Value.ref q), (0, Value.ref x), (1, Value.int p0), (2, Value.int p1), (3, Value.int (-1)), (4, Value.int p3)]) dL_need_24 rfl (by decide) (by first | exact rf_ref _ | exact rf_opt _ | exact rf_nul) rfl ?_
      refine pw_sipush (pc2 := 29) (v := (-1001)) dL_need_26 rfl (by decide) ?_
      refine pw_iret dL_need_29 rfl (by first | rfl | assumption | simp [narrow]) ?_
      exact Or.inr ⟨_, _, q9, by decide +kernel, rfl⟩
    · refine px_catch [(0, 23, 24, 21), (0, 23, 30, 13)] [] (0, 23, 36, 31) rfl (List.forall_mem_cons.mpr ⟨Or.inr ⟨by decide, _, cl_L_21, by decide +kernel⟩, (List.forall_mem_cons.mpr ⟨Or.inr ⟨by decide, _, cl_L_13, by decide +kernel⟩, (fun z hz => absurd hz List.not_mem_nil)⟩)⟩) (by decide) (by decide) cl_L_31 ca_NoSuchElementException__NoSuchElementException (fun q => ?_)
      refine pw_astore (pc2 := 38) (L2 := [(5, Value.ref q), (0, Value.ref x), (1, Value.int p0), (2, Value.int p1), (3, Value.int (-1)), (4, Value.int p3)]) dL_need_36 rfl (by decide) (by first | exact rf_ref _ | exact rf_opt _ | exact rf_nul) rfl ?_
      refine pw_sipush (pc2 := 41) (v := (-1002)) dL_need_38 rfl (by decide) ?_
      refine pw_iret dL_need_41 rfl (by first | rfl | assumption | simp [narrow]) ?_
      exact Or.inr ⟨_, _, q9, by decide +kernel, rfl⟩
  obtain ⟨v, rfl⟩ := hQ _ _ q9
  refine pw_goto (tgt := 23) dL_need_11 (by decide) ?_
  refine pw_iret dL_need_23 rfl (by first | rfl | assumption | simp [narrow]) ?_
  exact Or.inl ⟨_, q9, rfl⟩
set_option maxHeartbeats 4000000 in
set_option maxRecDepth 100000 in
theorem w_needN (G : hG) (h : hp) {x : Nat} {p0 p1 p2 p3 : Int32} {k kc ks : Nat} {fs : List Value} {Qc : Option Value → hp → Prop} {Xc : String → hp → Prop} (hx : h x = some (oB 12 fs)) (hc : PMet G MX9_need k kc ks [.ref x, .int p0, .int p1, .int p2, .int p3] h Qc Xc) (hQ : ∀ r h1, Qc r h1 → ∃ v, r = some (.int v)) (hX : ∀ C h1, Xc C h1 → C = xIO ∨ C = xIA) (hm : ¬ p2 = -1) : PMet G ML_need (k + 1) (0 + kc) (0 + ks) [.ref x, .int p0, .int p1, .int p2, .int p3] h (QV Qc Xc [(xIO, (-1001)), (xIA, (-1002))]) noX := by
  refine PMet.of (by decide +kernel) (Nat.le_of_ble_eq_true rfl) (fun d hd => ?_)
  refine PW.sub (L2 := [(0, Value.ref x), (1, Value.int p0), (2, Value.int p1), (3, Value.int p2), (4, Value.int p3)]) [0, 1, 2, 3, 4] rfl ?_
  refine pw_iload_n (pc2 := 1) dL_need_0 rfl rfl 3 rfl ?_
  refine pw_iconst (pc2 := 2) (v := (-1)) dL_need_1 rfl (by decide) ?_
  refine pw_icmp_ne (tgt := 14) (pc2 := 5) dL_need_2 (by decide) rfl (fun _ => ?_) (fun c2 => by exact absurd c2 (hm))
  refine pw_aload_n (pc2 := 15) dL_need_14 rfl rfl 0 rfl (by first | exact rf_ref _ | exact rf_opt _ | exact rf_nul) ?_
  refine pw_iload_n (pc2 := 16) dL_need_15 rfl rfl 1 rfl ?_
  refine pw_iload_n (pc2 := 17) dL_need_16 rfl rfl 2 rfl ?_
  refine pw_iload_n (pc2 := 18) dL_need_17 rfl rfl 3 rfl ?_
  refine pw_iload (pc2 := 20) dL_need_18 rfl 4 rfl ?_
  refine pw_callV (pc2 := 23) hc cs_L_27 rfl rfl hx dL_need_20 rfl (by omega) rfl (by first | decide | simp [cat_rf, Value.category]) (fun r9 h9 q9 => ?_) (fun Y h9 q9 => ?_)
  rotate_left
  · rcases hX Y h9 q9 with rfl | rfl
    · refine px_catch [] [(0, 23, 30, 13), (0, 23, 36, 31)] (0, 23, 24, 21) rfl (fun z hz => absurd hz List.not_mem_nil) (by decide) (by decide) cl_L_21 ca_IndexOutOfBoundsException__IndexOutOfBoundsException (fun q => ?_)
      refine pw_astore (pc2 := 26) (L2 := [(5, Value.ref q), (0, Value.ref x), (1, Value.int p0), (2, Value.int p1), (3, Value.int p2), (4, Value.int p3)]) dL_need_24 rfl (by decide) (by first | exact rf_ref _ | exact rf_opt _ | exact rf_nul) rfl ?_
      refine pw_sipush (pc2 := 29) (v := (-1001)) dL_need_26 rfl (by decide) ?_
      refine pw_iret dL_need_29 rfl (by first | rfl | assumption | simp [narrow]) ?_
      exact Or.inr ⟨_, _, q9, by decide +kernel, rfl⟩
    · refine px_catch [(0, 23, 24, 21)] [(0, 23, 36, 31)] (0, 23, 30, 13) rfl (List.forall_mem_cons.mpr ⟨Or.inr ⟨by decide, _, cl_L_21, by decide +kernel⟩, (fun z hz => absurd hz List.not_mem_nil)⟩) (by decide) (by decide) cl_L_13 ca_IllegalArgumentException__IllegalArgumentException (fun q => ?_)
      refine pw_astore (pc2 := 32) (L2 := [(5, Value.ref q), (0, Value.ref x), (1, Value.int p0), (2, Value.int p1), (3, Value.int p2), (4, Value.int p3)]) dL_need_30 rfl (by decide) (by first | exact rf_ref _ | exact rf_opt _ | exact rf_nul) rfl ?_
      refine pw_sipush (pc2 := 35) (v := (-1002)) dL_need_32 rfl (by decide) ?_
      refine pw_iret dL_need_35 rfl (by first | rfl | assumption | simp [narrow]) ?_
      exact Or.inr ⟨_, _, q9, by decide +kernel, rfl⟩
  obtain ⟨v, rfl⟩ := hQ _ _ q9
  refine pw_iret dL_need_23 rfl (by first | rfl | assumption | simp [narrow]) ?_
  exact Or.inl ⟨_, q9, rfl⟩
set_option maxHeartbeats 4000000 in
set_option maxRecDepth 100000 in
theorem w_cho0 (G : hG) (h : hp) {x : Nat} {p0 p1 : Int32} {k kc ks : Nat} {fs : List Value} {Qc : Option Value → hp → Prop} {Xc : String → hp → Prop} (hx : h x = some (oB 12 fs)) (hc : PMet G MX9_chosen k kc ks [.ref x, .int p0, .int p1] h Qc Xc) (hQ : ∀ r h1, Qc r h1 → ∃ v, r = some (.int v)) (hX : ∀ C h1, Xc C h1 → C = xIO ∨ C = xUO) : PMet G ML_chosen (k + 1) (0 + kc) (0 + ks) [.ref x, .int p0, .int p1, .int 0] h (QV Qc Xc [(xIO, (-1001)), (xUO, (-1002))]) noX := by
  refine PMet.of (by decide +kernel) (Nat.le_of_ble_eq_true rfl) (fun d hd => ?_)
  refine PW.sub (L2 := [(0, Value.ref x), (1, Value.int p0), (2, Value.int p1), (3, Value.int 0)]) [0, 1, 2, 3] rfl ?_
  refine pw_iload_n (pc2 := 1) dL_chosen_0 rfl rfl 3 rfl ?_
  refine pw_if_eq (tgt := 13) (pc2 := 4) dL_chosen_1 (by decide) rfl (fun _ => ?_) (fun c1 => by exact absurd (by decide) c1)
  refine pw_aload_n (pc2 := 14) dL_chosen_13 rfl rfl 0 rfl (by first | exact rf_ref _ | exact rf_opt _ | exact rf_nul) ?_
  refine pw_iload_n (pc2 := 15) dL_chosen_14 rfl rfl 1 rfl ?_
  refine pw_iload_n (pc2 := 16) dL_chosen_15 rfl rfl 2 rfl ?_
  refine pw_callV (pc2 := 19) hc cs_L_36 rfl rfl hx dL_chosen_16 rfl (by omega) rfl (by first | decide | simp [cat_rf, Value.category]) (fun r9 h9 q9 => ?_) (fun Y h9 q9 => ?_)
  rotate_left
  · rcases hX Y h9 q9 with rfl | rfl
    · refine px_catch [] [(0, 19, 26, 39)] (0, 19, 20, 21) rfl (fun z hz => absurd hz List.not_mem_nil) (by decide) (by decide) cl_L_21 ca_IndexOutOfBoundsException__IndexOutOfBoundsException (fun q => ?_)
      refine pw_astore (pc2 := 22) (L2 := [(4, Value.ref q), (0, Value.ref x), (1, Value.int p0), (2, Value.int p1), (3, Value.int 0)]) dL_chosen_20 rfl (by decide) (by first | exact rf_ref _ | exact rf_opt _ | exact rf_nul) rfl ?_
      refine pw_sipush (pc2 := 25) (v := (-1001)) dL_chosen_22 rfl (by decide) ?_
      refine pw_iret dL_chosen_25 rfl (by first | rfl | assumption | simp [narrow]) ?_
      exact Or.inr ⟨_, _, q9, by decide +kernel, rfl⟩
    · refine px_catch [(0, 19, 20, 21)] [] (0, 19, 26, 39) rfl (List.forall_mem_cons.mpr ⟨Or.inr ⟨by decide, _, cl_L_21, by decide +kernel⟩, (fun z hz => absurd hz List.not_mem_nil)⟩) (by decide) (by decide) cl_L_39 ca_UnsupportedOperationException__UnsupportedOperationException (fun q => ?_)
      refine pw_astore (pc2 := 28) (L2 := [(4, Value.ref q), (0, Value.ref x), (1, Value.int p0), (2, Value.int p1), (3, Value.int 0)]) dL_chosen_26 rfl (by decide) (by first | exact rf_ref _ | exact rf_opt _ | exact rf_nul) rfl ?_
      refine pw_sipush (pc2 := 31) (v := (-1002)) dL_chosen_28 rfl (by decide) ?_
      refine pw_iret dL_chosen_31 rfl (by first | rfl | assumption | simp [narrow]) ?_
      exact Or.inr ⟨_, _, q9, by decide +kernel, rfl⟩
  obtain ⟨v, rfl⟩ := hQ _ _ q9
  refine pw_iret dL_chosen_19 rfl (by first | rfl | assumption | simp [narrow]) ?_
  exact Or.inl ⟨_, q9, rfl⟩
set_option maxHeartbeats 4000000 in
set_option maxRecDepth 100000 in
theorem w_cho1 (G : hG) (h : hp) {x : Nat} {p0 p1 : Int32} {k kc ks : Nat} {fs : List Value} {Qc : Option Value → hp → Prop} {Xc : String → hp → Prop} (hx : h x = some (oB 12 fs)) (hc : PMet G MX9_chosenByAll k kc ks [.ref x, .int p0, .int p1] h Qc Xc) (hQ : ∀ r h1, Qc r h1 → ∃ v, r = some (.int v)) (hX : ∀ C h1, Xc C h1 → C = xIO ∨ C = xUO) : PMet G ML_chosen (k + 1) (0 + kc) (0 + ks) [.ref x, .int p0, .int p1, .int 1] h (QV Qc Xc [(xIO, (-1001)), (xUO, (-1002))]) noX := by
  refine PMet.of (by decide +kernel) (Nat.le_of_ble_eq_true rfl) (fun d hd => ?_)
  refine PW.sub (L2 := [(0, Value.ref x), (1, Value.int p0), (2, Value.int p1), (3, Value.int 1)]) [0, 1, 2, 3] rfl ?_
  refine pw_iload_n (pc2 := 1) dL_chosen_0 rfl rfl 3 rfl ?_
  refine pw_if_eq (tgt := 13) (pc2 := 4) dL_chosen_1 (by decide) rfl (fun c1 => by exact absurd c1 (by decide)) (fun _ => ?_)
  refine pw_aload_n (pc2 := 5) dL_chosen_4 rfl rfl 0 rfl (by first | exact rf_ref _ | exact rf_opt _ | exact rf_nul) ?_
  refine pw_iload_n (pc2 := 6) dL_chosen_5 rfl rfl 1 rfl ?_
  refine pw_iload_n (pc2 := 7) dL_chosen_6 rfl rfl 2 rfl ?_
  refine pw_callV (pc2 := 10) hc cs_L_33 rfl rfl hx dL_chosen_7 rfl (by omega) rfl (by first | decide | simp [cat_rf, Value.category]) (fun r9 h9 q9 => ?_) (fun Y h9 q9 => ?_)
  rotate_left
  · rcases hX Y h9 q9 with rfl | rfl
    · refine px_catch [] [(0, 19, 26, 39)] (0, 19, 20, 21) rfl (fun z hz => absurd hz List.not_mem_nil) (by decide) (by decide) cl_L_21 ca_IndexOutOfBoundsException__IndexOutOfBoundsException (fun q => ?_)
      refine pw_astore (pc2 := 22) (L2 := [(4, Value.ref q), (0, Value.ref x), (1, Value.int p0), (2, Value.int p1), (3, Value.int 1)]) dL_chosen_20 rfl (by decide) (by first | exact rf_ref _ | exact rf_opt _ | exact rf_nul) rfl ?_
      refine pw_sipush (pc2 := 25) (v := (-1001)) dL_chosen_22 rfl (by decide) ?_
      refine pw_iret dL_chosen_25 rfl (by first | rfl | assumption | simp [narrow]) ?_
      exact Or.inr ⟨_, _, q9, by decide +kernel, rfl⟩
    · refine px_catch [(0, 19, 20, 21)] [] (0, 19, 26, 39) rfl (List.forall_mem_cons.mpr ⟨Or.inr ⟨by decide, _, cl_L_21, by decide +kernel⟩, (fun z hz => absurd hz List.not_mem_nil)⟩) (by decide) (by decide) cl_L_39 ca_UnsupportedOperationException__UnsupportedOperationException (fun q => ?_)
      refine pw_astore (pc2 := 28) (L2 := [(4, Value.ref q), (0, Value.ref x), (1, Value.int p0), (2, Value.int p1), (3, Value.int 1)]) dL_chosen_26 rfl (by decide) (by first | exact rf_ref _ | exact rf_opt _ | exact rf_nul) rfl ?_
      refine pw_sipush (pc2 := 31) (v := (-1002)) dL_chosen_28 rfl (by decide) ?_
      refine pw_iret dL_chosen_31 rfl (by first | rfl | assumption | simp [narrow]) ?_
      exact Or.inr ⟨_, _, q9, by decide +kernel, rfl⟩
  obtain ⟨v, rfl⟩ := hQ _ _ q9
  refine pw_goto (tgt := 19) dL_chosen_10 (by decide) ?_
  refine pw_iret dL_chosen_19 rfl (by first | rfl | assumption | simp [narrow]) ?_
  exact Or.inl ⟨_, q9, rfl⟩
set_option maxHeartbeats 4000000 in
set_option maxRecDepth 100000 in
theorem w_addT (G : hG) (h : hp) {x : Nat} {p0 p1 : Int32} {k kc ks : Nat} {fs : List Value} {Qc : Option Value → hp → Prop} {Xc : String → hp → Prop} (hx : h x = some (oB 12 fs)) (hc : PMet G MX9_addTest k kc ks [.ref x, .int p0, .int p1] h Qc Xc) (hQ : ∀ r h1, Qc r h1 → ∃ v, r = some (.int v)) (hX : ∀ C h1, Xc C h1 → C = xIO ∨ C = xIA ∨ C = xIS) : PMet G ML_addTest (k + 1) (0 + kc) (0 + ks) [.ref x, .int p0, .int p1] h (QV Qc Xc [(xIO, (-1001)), (xIA, (-1002)), (xIS, (-1003))]) noX := by
  refine PMet.of (by decide +kernel) (Nat.le_of_ble_eq_true rfl) (fun d hd => ?_)
  refine PW.sub (L2 := [(0, Value.ref x), (1, Value.int p0), (2, Value.int p1)]) [0, 1, 2] rfl ?_
  refine pw_aload_n (pc2 := 1) dL_addTest_0 rfl rfl 0 rfl (by first | exact rf_ref _ | exact rf_opt _ | exact rf_nul) ?_
  refine pw_iload_n (pc2 := 2) dL_addTest_1 rfl rfl 1 rfl ?_
  refine pw_iload_n (pc2 := 3) dL_addTest_2 rfl rfl 2 rfl ?_
  refine pw_callV (pc2 := 6) hc cs_L_41 rfl rfl hx dL_addTest_3 rfl (by omega) rfl (by first | decide | simp [cat_rf, Value.category]) (fun r9 h9 q9 => ?_) (fun Y h9 q9 => ?_)
  rotate_left
  · rcases hX Y h9 q9 with rfl | rfl | rfl
    · refine px_catch [] [(0, 6, 12, 13), (0, 6, 17, 15)] (0, 6, 7, 21) rfl (fun z hz => absurd hz List.not_mem_nil) (by decide) (by decide) cl_L_21 ca_IndexOutOfBoundsException__IndexOutOfBoundsException (fun q => ?_)
      refine pw_astore_n (pc2 := 8) (L2 := [(3, Value.ref q), (0, Value.ref x), (1, Value.int p0), (2, Value.int p1)]) dL_addTest_7 rfl rfl (by decide) (by first | exact rf_ref _ | exact rf_opt _ | exact rf_nul) rfl ?_
      refine pw_sipush (pc2 := 11) (v := (-1001)) dL_addTest_8 rfl (by decide) ?_
      refine pw_iret dL_addTest_11 rfl (by first | rfl | assumption | simp [narrow]) ?_
      exact Or.inr ⟨_, _, q9, by decide +kernel, rfl⟩
    · refine px_catch [(0, 6, 7, 21)] [(0, 6, 17, 15)] (0, 6, 12, 13) rfl (List.forall_mem_cons.mpr ⟨Or.inr ⟨by decide, _, cl_L_21, by decide +kernel⟩, (fun z hz => absurd hz List.not_mem_nil)⟩) (by decide) (by decide) cl_L_13 ca_IllegalArgumentException__IllegalArgumentException (fun q => ?_)
      refine pw_astore_n (pc2 := 13) (L2 := [(3, Value.ref q), (0, Value.ref x), (1, Value.int p0), (2, Value.int p1)]) dL_addTest_12 rfl rfl (by decide) (by first | exact rf_ref _ | exact rf_opt _ | exact rf_nul) rfl ?_
      refine pw_sipush (pc2 := 16) (v := (-1002)) dL_addTest_13 rfl (by decide) ?_
      refine pw_iret dL_addTest_16 rfl (by first | rfl | assumption | simp [narrow]) ?_
      exact Or.inr ⟨_, _, q9, by decide +kernel, rfl⟩
    · refine px_catch [(0, 6, 7, 21), (0, 6, 12, 13)] [] (0, 6, 17, 15) rfl (List.forall_mem_cons.mpr ⟨Or.inr ⟨by decide, _, cl_L_21, by decide +kernel⟩, (List.forall_mem_cons.mpr ⟨Or.inr ⟨by decide, _, cl_L_13, by decide +kernel⟩, (fun z hz => absurd hz List.not_mem_nil)⟩)⟩) (by decide) (by decide) cl_L_15 ca_IllegalStateException__IllegalStateException (fun q => ?_)
      refine pw_astore_n (pc2 := 18) (L2 := [(3, Value.ref q), (0, Value.ref x), (1, Value.int p0), (2, Value.int p1)]) dL_addTest_17 rfl rfl (by decide) (by first | exact rf_ref _ | exact rf_opt _ | exact rf_nul) rfl ?_
      refine pw_sipush (pc2 := 21) (v := (-1003)) dL_addTest_18 rfl (by decide) ?_
      refine pw_iret dL_addTest_21 rfl (by first | rfl | assumption | simp [narrow]) ?_
      exact Or.inr ⟨_, _, q9, by decide +kernel, rfl⟩
  obtain ⟨v, rfl⟩ := hQ _ _ q9
  refine pw_iret dL_addTest_6 rfl (by first | rfl | assumption | simp [narrow]) ?_
  exact Or.inl ⟨_, q9, rfl⟩
set_option maxHeartbeats 4000000 in
set_option maxRecDepth 100000 in
theorem w_of0 (G : hG) (h : hp) {x : Nat} {p0 : Int32} {k kc ks : Nat} {fs : List Value} {Qc : Option Value → hp → Prop} {Xc : String → hp → Prop} (hx : h x = some (oB 12 fs)) (hc : PMet G MX9_compile k kc ks [.ref x, .int p0] h Qc Xc) (hQ : ∀ r h1, Qc r h1 → ∃ v, r = some (.int v) ∧ b01 v) (hX : ∀ C h1, Xc C h1 → C = xIO ∨ C = xUO) : PMet G ML_of (k + 1) (0 + kc) (0 + ks) [.ref x, .int p0, .int 0] h (QV Qc Xc [(xIO, (-1001)), (xUO, (-1002))]) noX := by
  refine PMet.of (by decide +kernel) (Nat.le_of_ble_eq_true rfl) (fun d hd => ?_)
  refine PW.sub (L2 := [(0, Value.ref x), (1, Value.int p0), (2, Value.int 0)]) [0, 1, 2] rfl ?_
  refine pw_iload_n (pc2 := 1) dL_of_0 rfl rfl 2 rfl ?_
  refine pw_tableIn (tgt := 36) dL_of_1 (by decide) (by decide) (off := 35) (by decide) (by decide) ?_
  refine pw_aload_n (pc2 := 37) dL_of_36 rfl rfl 0 rfl (by first | exact rf_ref _ | exact rf_opt _ | exact rf_nul) ?_
  refine pw_iload_n (pc2 := 38) dL_of_37 rfl rfl 1 rfl ?_
  refine pw_callV (pc2 := 41) hc cs_L_44 rfl rfl hx dL_of_38 rfl (by omega) rfl (by first | decide | simp [cat_rf, Value.category]) (fun r9 h9 q9 => ?_) (fun Y h9 q9 => ?_)
  rotate_left
  · rcases hX Y h9 q9 with rfl | rfl
    · refine px_catch [] [(50, 55, 88, 21), (56, 61, 88, 21), (62, 75, 88, 21), (76, 81, 88, 21), (82, 87, 88, 21), (0, 49, 93, 15), (50, 55, 93, 15), (56, 61, 93, 15), (62, 75, 93, 15), (76, 81, 93, 15), (82, 87, 93, 15), (0, 49, 98, 39), (50, 55, 98, 39), (56, 61, 98, 39), (62, 75, 98, 39), (76, 81, 98, 39), (82, 87, 98, 39)] (0, 49, 88, 21) rfl (fun z hz => absurd hz List.not_mem_nil) (by decide) (by decide) cl_L_21 ca_IndexOutOfBoundsException__IndexOutOfBoundsException (fun q => ?_)
      refine pw_astore_n (pc2 := 89) (L2 := [(3, Value.ref q), (0, Value.ref x), (1, Value.int p0), (2, Value.int 0)]) dL_of_88 rfl rfl (by decide) (by first | exact rf_ref _ | exact rf_opt _ | exact rf_nul) rfl ?_
      refine pw_sipush (pc2 := 92) (v := (-1001)) dL_of_89 rfl (by decide) ?_
      refine pw_iret dL_of_92 rfl (by first | rfl | assumption | simp [narrow]) ?_
      exact Or.inr ⟨_, _, q9, by decide +kernel, rfl⟩
    · refine px_catch [(0, 49, 88, 21), (50, 55, 88, 21), (56, 61, 88, 21), (62, 75, 88, 21), (76, 81, 88, 21), (82, 87, 88, 21), (0, 49, 93, 15), (50, 55, 93, 15), (56, 61, 93, 15), (62, 75, 93, 15), (76, 81, 93, 15), (82, 87, 93, 15)] [(50, 55, 98, 39), (56, 61, 98, 39), (62, 75, 98, 39), (76, 81, 98, 39), (82, 87, 98, 39)] (0, 49, 98, 39) rfl (List.forall_mem_cons.mpr ⟨Or.inr ⟨by decide, _, cl_L_21, by decide +kernel⟩, (List.forall_mem_cons.mpr ⟨Or.inl (by decide), (List.forall_mem_cons.mpr ⟨Or.inl (by decide), (List.forall_mem_cons.mpr ⟨Or.inl (by decide), (List.forall_mem_cons.mpr ⟨Or.inl (by decide), (List.forall_mem_cons.mpr ⟨Or.inl (by decide), (List.forall_mem_cons.mpr ⟨Or.inr ⟨by decide, _, cl_L_15, by decide +kernel⟩, (List.forall_mem_cons.mpr ⟨Or.inl (by decide), (List.forall_mem_cons.mpr ⟨Or.inl (by decide), (List.forall_mem_cons.mpr ⟨Or.inl (by decide), (List.forall_mem_cons.mpr ⟨Or.inl (by decide), (List.forall_mem_cons.mpr ⟨Or.inl (by decide), (fun z hz => absurd hz List.not_mem_nil)⟩)⟩)⟩)⟩)⟩)⟩)⟩)⟩)⟩)⟩)⟩)⟩) (by decide) (by decide) cl_L_39 ca_UnsupportedOperationException__UnsupportedOperationException (fun q => ?_)
      refine pw_astore_n (pc2 := 99) (L2 := [(3, Value.ref q), (0, Value.ref x), (1, Value.int p0), (2, Value.int 0)]) dL_of_98 rfl rfl (by decide) (by first | exact rf_ref _ | exact rf_opt _ | exact rf_nul) rfl ?_
      refine pw_sipush (pc2 := 102) (v := (-1002)) dL_of_99 rfl (by decide) ?_
      refine pw_iret dL_of_102 rfl (by first | rfl | assumption | simp [narrow]) ?_
      exact Or.inr ⟨_, _, q9, by decide +kernel, rfl⟩
  obtain ⟨v, rfl, hz⟩ := hQ _ _ q9
  rcases hz with rfl | rfl
  · refine pw_if_eq (tgt := 48) (pc2 := 44) dL_of_41 (by decide) rfl (fun _ => ?_) (fun c41 => by exact absurd (by decide) c41)
    refine pw_iconst (pc2 := 49) (v := 0) dL_of_48 rfl (by decide) ?_
    refine pw_iret dL_of_49 rfl (by first | rfl | assumption | simp [narrow]) ?_
    exact Or.inl ⟨_, q9, rfl⟩
  · refine pw_if_eq (tgt := 48) (pc2 := 44) dL_of_41 (by decide) rfl (fun c41 => by exact absurd c41 (by decide)) (fun _ => ?_)
    refine pw_iconst (pc2 := 45) (v := 1) dL_of_44 rfl (by decide) ?_
    refine pw_goto (tgt := 49) dL_of_45 (by decide) ?_
    refine pw_iret dL_of_49 rfl (by first | rfl | assumption | simp [narrow]) ?_
    exact Or.inl ⟨_, q9, rfl⟩
set_option maxHeartbeats 4000000 in
set_option maxRecDepth 100000 in
theorem w_of1 (G : hG) (h : hp) {x : Nat} {p0 : Int32} {k kc ks : Nat} {fs : List Value} {Qc : Option Value → hp → Prop} {Xc : String → hp → Prop} (hx : h x = some (oB 12 fs)) (hc : PMet G MX9_test k kc ks [.ref x, .int p0] h Qc Xc) (hQ : ∀ r h1, Qc r h1 → ∃ v, r = some (.int v)) (hX : ∀ C h1, Xc C h1 → C = xIO ∨ C = xUO ∨ C = xIS) : PMet G ML_of (k + 1) (0 + kc) (0 + ks) [.ref x, .int p0, .int 1] h (QV Qc Xc [(xIO, (-1001)), (xUO, (-1002)), (xIS, (-1003))]) noX := by
  refine PMet.of (by decide +kernel) (Nat.le_of_ble_eq_true rfl) (fun d hd => ?_)
  refine PW.sub (L2 := [(0, Value.ref x), (1, Value.int p0), (2, Value.int 1)]) [0, 1, 2] rfl ?_
  refine pw_iload_n (pc2 := 1) dL_of_0 rfl rfl 2 rfl ?_
  refine pw_tableIn (tgt := 50) dL_of_1 (by decide) (by decide) (off := 49) (by decide) (by decide) ?_
  refine pw_aload_n (pc2 := 51) dL_of_50 rfl rfl 0 rfl (by first | exact rf_ref _ | exact rf_opt _ | exact rf_nul) ?_
  refine pw_iload_n (pc2 := 52) dL_of_51 rfl rfl 1 rfl ?_
  refine pw_callV (pc2 := 55) hc cs_L_48 rfl rfl hx dL_of_52 rfl (by omega) rfl (by first | decide | simp [cat_rf, Value.category]) (fun r9 h9 q9 => ?_) (fun Y h9 q9 => ?_)
  rotate_left
  · rcases hX Y h9 q9 with rfl | rfl | rfl
    · refine px_catch [(0, 49, 88, 21)] [(56, 61, 88, 21), (62, 75, 88, 21), (76, 81, 88, 21), (82, 87, 88, 21), (0, 49, 93, 15), (50, 55, 93, 15), (56, 61, 93, 15), (62, 75, 93, 15), (76, 81, 93, 15), (82, 87, 93, 15), (0, 49, 98, 39), (50, 55, 98, 39), (56, 61, 98, 39), (62, 75, 98, 39), (76, 81, 98, 39), (82, 87, 98, 39)] (50, 55, 88, 21) rfl (List.forall_mem_cons.mpr ⟨Or.inl (by decide), (fun z hz => absurd hz List.not_mem_nil)⟩) (by decide) (by decide) cl_L_21 ca_IndexOutOfBoundsException__IndexOutOfBoundsException (fun q => ?_)
      refine pw_astore_n (pc2 := 89) (L2 := [(3, Value.ref q), (0, Value.ref x), (1, Value.int p0), (2, Value.int 1)]) dL_of_88 rfl rfl (by decide) (by first | exact rf_ref _ | exact rf_opt _ | exact rf_nul) rfl ?_
      refine pw_sipush (pc2 := 92) (v := (-1001)) dL_of_89 rfl (by decide) ?_
      refine pw_iret dL_of_92 rfl (by first | rfl | assumption | simp [narrow]) ?_
      exact Or.inr ⟨_, _, q9, by decide +kernel, rfl⟩
    · refine px_catch [(0, 49, 88, 21), (50, 55, 88, 21), (56, 61, 88, 21), (62, 75, 88, 21), (76, 81, 88, 21), (82, 87, 88, 21), (0, 49, 93, 15), (50, 55, 93, 15), (56, 61, 93, 15), (62, 75, 93, 15), (76, 81, 93, 15), (82, 87, 93, 15), (0, 49, 98, 39)] [(56, 61, 98, 39), (62, 75, 98, 39), (76, 81, 98, 39), (82, 87, 98, 39)] (50, 55, 98, 39) rfl (List.forall_mem_cons.mpr ⟨Or.inl (by decide), (List.forall_mem_cons.mpr ⟨Or.inr ⟨by decide, _, cl_L_21, by decide +kernel⟩, (List.forall_mem_cons.mpr ⟨Or.inl (by decide), (List.forall_mem_cons.mpr ⟨Or.inl (by decide), (List.forall_mem_cons.mpr ⟨Or.inl (by decide), (List.forall_mem_cons.mpr ⟨Or.inl (by decide), (List.forall_mem_cons.mpr ⟨Or.inl (by decide), (List.forall_mem_cons.mpr ⟨Or.inr ⟨by decide, _, cl_L_15, by decide +kernel⟩, (List.forall_mem_cons.mpr ⟨Or.inl (by decide), (List.forall_mem_cons.mpr ⟨Or.inl (by decide), (List.forall_mem_cons.mpr ⟨Or.inl (by decide), (List.forall_mem_cons.mpr ⟨Or.inl (by decide), (List.forall_mem_cons.mpr ⟨Or.inl (by decide), (fun z hz => absurd hz List.not_mem_nil)⟩)⟩)⟩)⟩)⟩)⟩)⟩)⟩)⟩)⟩)⟩)⟩)⟩) (by decide) (by decide) cl_L_39 ca_UnsupportedOperationException__UnsupportedOperationException (fun q => ?_)
      refine pw_astore_n (pc2 := 99) (L2 := [(3, Value.ref q), (0, Value.ref x), (1, Value.int p0), (2, Value.int 1)]) dL_of_98 rfl rfl (by decide) (by first | exact rf_ref _ | exact rf_opt _ | exact rf_nul) rfl ?_
      refine pw_sipush (pc2 := 102) (v := (-1002)) dL_of_99 rfl (by decide) ?_
      refine pw_iret dL_of_102 rfl (by first | rfl | assumption | simp [narrow]) ?_
      exact Or.inr ⟨_, _, q9, by decide +kernel, rfl⟩
    · refine px_catch [(0, 49, 88, 21), (50, 55, 88, 21), (56, 61, 88, 21), (62, 75, 88, 21), (76, 81, 88, 21), (82, 87, 88, 21), (0, 49, 93, 15)] [(56, 61, 93, 15), (62, 75, 93, 15), (76, 81, 93, 15), (82, 87, 93, 15), (0, 49, 98, 39), (50, 55, 98, 39), (56, 61, 98, 39), (62, 75, 98, 39), (76, 81, 98, 39), (82, 87, 98, 39)] (50, 55, 93, 15) rfl (List.forall_mem_cons.mpr ⟨Or.inl (by decide), (List.forall_mem_cons.mpr ⟨Or.inr ⟨by decide, _, cl_L_21, by decide +kernel⟩, (List.forall_mem_cons.mpr ⟨Or.inl (by decide), (List.forall_mem_cons.mpr ⟨Or.inl (by decide), (List.forall_mem_cons.mpr ⟨Or.inl (by decide), (List.forall_mem_cons.mpr ⟨Or.inl (by decide), (List.forall_mem_cons.mpr ⟨Or.inl (by decide), (fun z hz => absurd hz List.not_mem_nil)⟩)⟩)⟩)⟩)⟩)⟩)⟩) (by decide) (by decide) cl_L_15 ca_IllegalStateException__IllegalStateException (fun q => ?_)
      refine pw_astore_n (pc2 := 94) (L2 := [(3, Value.ref q), (0, Value.ref x), (1, Value.int p0), (2, Value.int 1)]) dL_of_93 rfl rfl (by decide) (by first | exact rf_ref _ | exact rf_opt _ | exact rf_nul) rfl ?_
      refine pw_sipush (pc2 := 97) (v := (-1003)) dL_of_94 rfl (by decide) ?_
      refine pw_iret dL_of_97 rfl (by first | rfl | assumption | simp [narrow]) ?_
      exact Or.inr ⟨_, _, q9, by decide +kernel, rfl⟩
  obtain ⟨v, rfl⟩ := hQ _ _ q9
  refine pw_iret dL_of_55 rfl (by first | rfl | assumption | simp [narrow]) ?_
  exact Or.inl ⟨_, q9, rfl⟩
set_option maxHeartbeats 4000000 in
set_option maxRecDepth 100000 in
theorem w_of2 (G : hG) (h : hp) {x : Nat} {p0 : Int32} {k kc ks : Nat} {fs : List Value} {Qc : Option Value → hp → Prop} {Xc : String → hp → Prop} (hx : h x = some (oB 12 fs)) (hc : PMet G MX9_testTime k kc ks [.ref x, .int p0] h Qc Xc) (hQ : ∀ r h1, Qc r h1 → ∃ v, r = some (.int v)) (hX : ∀ C h1, Xc C h1 → C = xIO) : PMet G ML_of (k + 1) (0 + kc) (0 + ks) [.ref x, .int p0, .int 2] h (QV Qc Xc [(xIO, (-1001))]) noX := by
  refine PMet.of (by decide +kernel) (Nat.le_of_ble_eq_true rfl) (fun d hd => ?_)
  refine PW.sub (L2 := [(0, Value.ref x), (1, Value.int p0), (2, Value.int 2)]) [0, 1, 2] rfl ?_
  refine pw_iload_n (pc2 := 1) dL_of_0 rfl rfl 2 rfl ?_
  refine pw_tableIn (tgt := 56) dL_of_1 (by decide) (by decide) (off := 55) (by decide) (by decide) ?_
  refine pw_aload_n (pc2 := 57) dL_of_56 rfl rfl 0 rfl (by first | exact rf_ref _ | exact rf_opt _ | exact rf_nul) ?_
  refine pw_iload_n (pc2 := 58) dL_of_57 rfl rfl 1 rfl ?_
  refine pw_callV (pc2 := 61) hc cs_L_51 rfl rfl hx dL_of_58 rfl (by omega) rfl (by first | decide | simp [cat_rf, Value.category]) (fun r9 h9 q9 => ?_) (fun Y h9 q9 => ?_)
  rotate_left
  · obtain rfl := hX Y h9 q9
    refine px_catch [(0, 49, 88, 21), (50, 55, 88, 21)] [(62, 75, 88, 21), (76, 81, 88, 21), (82, 87, 88, 21), (0, 49, 93, 15), (50, 55, 93, 15), (56, 61, 93, 15), (62, 75, 93, 15), (76, 81, 93, 15), (82, 87, 93, 15), (0, 49, 98, 39), (50, 55, 98, 39), (56, 61, 98, 39), (62, 75, 98, 39), (76, 81, 98, 39), (82, 87, 98, 39)] (56, 61, 88, 21) rfl (List.forall_mem_cons.mpr ⟨Or.inl (by decide), (List.forall_mem_cons.mpr ⟨Or.inl (by decide), (fun z hz => absurd hz List.not_mem_nil)⟩)⟩) (by decide) (by decide) cl_L_21 ca_IndexOutOfBoundsException__IndexOutOfBoundsException (fun q => ?_)
    refine pw_astore_n (pc2 := 89) (L2 := [(3, Value.ref q), (0, Value.ref x), (1, Value.int p0), (2, Value.int 2)]) dL_of_88 rfl rfl (by decide) (by first | exact rf_ref _ | exact rf_opt _ | exact rf_nul) rfl ?_
    refine pw_sipush (pc2 := 92) (v := (-1001)) dL_of_89 rfl (by decide) ?_
    refine pw_iret dL_of_92 rfl (by first | rfl | assumption | simp [narrow]) ?_
    exact Or.inr ⟨_, _, q9, by decide +kernel, rfl⟩
  obtain ⟨v, rfl⟩ := hQ _ _ q9
  refine pw_iret dL_of_61 rfl (by first | rfl | assumption | simp [narrow]) ?_
  exact Or.inl ⟨_, q9, rfl⟩
set_option maxHeartbeats 4000000 in
set_option maxRecDepth 100000 in
theorem w_of3 (G : hG) (h : hp) {x : Nat} {p0 : Int32} {k kc ks : Nat} {fs : List Value} {Qc : Option Value → hp → Prop} {Xc : String → hp → Prop} (hx : h x = some (oB 12 fs)) (hc : PMet G MX9_canPublish k kc ks [.ref x, .int p0] h Qc Xc) (hQ : ∀ r h1, Qc r h1 → ∃ v, r = some (.int v) ∧ b01 v) (hX : ∀ C h1, Xc C h1 → C = xIO) : PMet G ML_of (k + 1) (0 + kc) (0 + ks) [.ref x, .int p0, .int 3] h (QV Qc Xc [(xIO, (-1001))]) noX := by
  refine PMet.of (by decide +kernel) (Nat.le_of_ble_eq_true rfl) (fun d hd => ?_)
  refine PW.sub (L2 := [(0, Value.ref x), (1, Value.int p0), (2, Value.int 3)]) [0, 1, 2] rfl ?_
  refine pw_iload_n (pc2 := 1) dL_of_0 rfl rfl 2 rfl ?_
  refine pw_tableIn (tgt := 62) dL_of_1 (by decide) (by decide) (off := 61) (by decide) (by decide) ?_
  refine pw_aload_n (pc2 := 63) dL_of_62 rfl rfl 0 rfl (by first | exact rf_ref _ | exact rf_opt _ | exact rf_nul) ?_
  refine pw_iload_n (pc2 := 64) dL_of_63 rfl rfl 1 rfl ?_
  refine pw_callV (pc2 := 67) hc cs_L_54 rfl rfl hx dL_of_64 rfl (by omega) rfl (by first | decide | simp [cat_rf, Value.category]) (fun r9 h9 q9 => ?_) (fun Y h9 q9 => ?_)
  rotate_left
  · obtain rfl := hX Y h9 q9
    refine px_catch [(0, 49, 88, 21), (50, 55, 88, 21), (56, 61, 88, 21)] [(76, 81, 88, 21), (82, 87, 88, 21), (0, 49, 93, 15), (50, 55, 93, 15), (56, 61, 93, 15), (62, 75, 93, 15), (76, 81, 93, 15), (82, 87, 93, 15), (0, 49, 98, 39), (50, 55, 98, 39), (56, 61, 98, 39), (62, 75, 98, 39), (76, 81, 98, 39), (82, 87, 98, 39)] (62, 75, 88, 21) rfl (List.forall_mem_cons.mpr ⟨Or.inl (by decide), (List.forall_mem_cons.mpr ⟨Or.inl (by decide), (List.forall_mem_cons.mpr ⟨Or.inl (by decide), (fun z hz => absurd hz List.not_mem_nil)⟩)⟩)⟩) (by decide) (by decide) cl_L_21 ca_IndexOutOfBoundsException__IndexOutOfBoundsException (fun q => ?_)
    refine pw_astore_n (pc2 := 89) (L2 := [(3, Value.ref q), (0, Value.ref x), (1, Value.int p0), (2, Value.int 3)]) dL_of_88 rfl rfl (by decide) (by first | exact rf_ref _ | exact rf_opt _ | exact rf_nul) rfl ?_
    refine pw_sipush (pc2 := 92) (v := (-1001)) dL_of_89 rfl (by decide) ?_
    refine pw_iret dL_of_92 rfl (by first | rfl | assumption | simp [narrow]) ?_
    exact Or.inr ⟨_, _, q9, by decide +kernel, rfl⟩
  obtain ⟨v, rfl, hz⟩ := hQ _ _ q9
  rcases hz with rfl | rfl
  · refine pw_if_eq (tgt := 74) (pc2 := 70) dL_of_67 (by decide) rfl (fun _ => ?_) (fun c67 => by exact absurd (by decide) c67)
    refine pw_iconst (pc2 := 75) (v := 0) dL_of_74 rfl (by decide) ?_
    refine pw_iret dL_of_75 rfl (by first | rfl | assumption | simp [narrow]) ?_
    exact Or.inl ⟨_, q9, rfl⟩
  · refine pw_if_eq (tgt := 74) (pc2 := 70) dL_of_67 (by decide) rfl (fun c67 => by exact absurd c67 (by decide)) (fun _ => ?_)
    refine pw_iconst (pc2 := 71) (v := 1) dL_of_70 rfl (by decide) ?_
    refine pw_goto (tgt := 75) dL_of_71 (by decide) ?_
    refine pw_iret dL_of_75 rfl (by first | rfl | assumption | simp [narrow]) ?_
    exact Or.inl ⟨_, q9, rfl⟩
set_option maxHeartbeats 4000000 in
set_option maxRecDepth 100000 in
theorem w_of4 (G : hG) (h : hp) {x : Nat} {p0 : Int32} {k kc ks : Nat} {fs : List Value} {Qc : Option Value → hp → Prop} {Xc : String → hp → Prop} (hx : h x = some (oB 12 fs)) (hc : PMet G MX9_nextVersion k kc ks [.ref x, .int p0] h Qc Xc) (hQ : ∀ r h1, Qc r h1 → ∃ v, r = some (.int v)) (hX : ∀ C h1, Xc C h1 → C = xIO) : PMet G ML_of (k + 1) (0 + kc) (0 + ks) [.ref x, .int p0, .int 4] h (QV Qc Xc [(xIO, (-1001))]) noX := by
  refine PMet.of (by decide +kernel) (Nat.le_of_ble_eq_true rfl) (fun d hd => ?_)
  refine PW.sub (L2 := [(0, Value.ref x), (1, Value.int p0), (2, Value.int 4)]) [0, 1, 2] rfl ?_
  refine pw_iload_n (pc2 := 1) dL_of_0 rfl rfl 2 rfl ?_
  refine pw_tableIn (tgt := 76) dL_of_1 (by decide) (by decide) (off := 75) (by decide) (by decide) ?_
  refine pw_aload_n (pc2 := 77) dL_of_76 rfl rfl 0 rfl (by first | exact rf_ref _ | exact rf_opt _ | exact rf_nul) ?_
  refine pw_iload_n (pc2 := 78) dL_of_77 rfl rfl 1 rfl ?_
  refine pw_callV (pc2 := 81) hc cs_L_57 rfl rfl hx dL_of_78 rfl (by omega) rfl (by first | decide | simp [cat_rf, Value.category]) (fun r9 h9 q9 => ?_) (fun Y h9 q9 => ?_)
  rotate_left
  · obtain rfl := hX Y h9 q9
    refine px_catch [(0, 49, 88, 21), (50, 55, 88, 21), (56, 61, 88, 21), (62, 75, 88, 21)] [(82, 87, 88, 21), (0, 49, 93, 15), (50, 55, 93, 15), (56, 61, 93, 15), (62, 75, 93, 15), (76, 81, 93, 15), (82, 87, 93, 15), (0, 49, 98, 39), (50, 55, 98, 39), (56, 61, 98, 39), (62, 75, 98, 39), (76, 81, 98, 39), (82, 87, 98, 39)] (76, 81, 88, 21) rfl (List.forall_mem_cons.mpr ⟨Or.inl (by decide), (List.forall_mem_cons.mpr ⟨Or.inl (by decide), (List.forall_mem_cons.mpr ⟨Or.inl (by decide), (List.forall_mem_cons.mpr ⟨Or.inl (by decide), (fun z hz => absurd hz List.not_mem_nil)⟩)⟩)⟩)⟩) (by decide) (by decide) cl_L_21 ca_IndexOutOfBoundsException__IndexOutOfBoundsException (fun q => ?_)
    refine pw_astore_n (pc2 := 89) (L2 := [(3, Value.ref q), (0, Value.ref x), (1, Value.int p0), (2, Value.int 4)]) dL_of_88 rfl rfl (by decide) (by first | exact rf_ref _ | exact rf_opt _ | exact rf_nul) rfl ?_
    refine pw_sipush (pc2 := 92) (v := (-1001)) dL_of_89 rfl (by decide) ?_
    refine pw_iret dL_of_92 rfl (by first | rfl | assumption | simp [narrow]) ?_
    exact Or.inr ⟨_, _, q9, by decide +kernel, rfl⟩
  obtain ⟨v, rfl⟩ := hQ _ _ q9
  refine pw_iret dL_of_81 rfl (by first | rfl | assumption | simp [narrow]) ?_
  exact Or.inl ⟨_, q9, rfl⟩
set_option maxHeartbeats 4000000 in
set_option maxRecDepth 100000 in
theorem w_of5 (G : hG) (h : hp) {x : Nat} {p0 : Int32} {k kc ks : Nat} {fs : List Value} {Qc : Option Value → hp → Prop} {Xc : String → hp → Prop} (hx : h x = some (oB 12 fs)) (hc : PMet G MX9_publish k kc ks [.ref x, .int p0] h Qc Xc) (hQ : ∀ r h1, Qc r h1 → ∃ v, r = some (.int v)) (hX : ∀ C h1, Xc C h1 → C = xIO ∨ C = xUO ∨ C = xIS) : PMet G ML_of (k + 1) (0 + kc) (0 + ks) [.ref x, .int p0, .int 5] h (QV Qc Xc [(xIO, (-1001)), (xUO, (-1002)), (xIS, (-1003))]) noX := by
  refine PMet.of (by decide +kernel) (Nat.le_of_ble_eq_true rfl) (fun d hd => ?_)
  refine PW.sub (L2 := [(0, Value.ref x), (1, Value.int p0), (2, Value.int 5)]) [0, 1, 2] rfl ?_
  refine pw_iload_n (pc2 := 1) dL_of_0 rfl rfl 2 rfl ?_
  refine pw_tableOut (tgt := 82) dL_of_1 (Or.inr (by decide)) (by decide) ?_
  refine pw_aload_n (pc2 := 83) dL_of_82 rfl rfl 0 rfl (by first | exact rf_ref _ | exact rf_opt _ | exact rf_nul) ?_
  refine pw_iload_n (pc2 := 84) dL_of_83 rfl rfl 1 rfl ?_
  refine pw_callV (pc2 := 87) hc cs_L_60 rfl rfl hx dL_of_84 rfl (by omega) rfl (by first | decide | simp [cat_rf, Value.category]) (fun r9 h9 q9 => ?_) (fun Y h9 q9 => ?_)
  rotate_left
  · rcases hX Y h9 q9 with rfl | rfl | rfl
    · refine px_catch [(0, 49, 88, 21), (50, 55, 88, 21), (56, 61, 88, 21), (62, 75, 88, 21), (76, 81, 88, 21)] [(0, 49, 93, 15), (50, 55, 93, 15), (56, 61, 93, 15), (62, 75, 93, 15), (76, 81, 93, 15), (82, 87, 93, 15), (0, 49, 98, 39), (50, 55, 98, 39), (56, 61, 98, 39), (62, 75, 98, 39), (76, 81, 98, 39), (82, 87, 98, 39)] (82, 87, 88, 21) rfl (List.forall_mem_cons.mpr ⟨Or.inl (by decide), (List.forall_mem_cons.mpr ⟨Or.inl (by decide), (List.forall_mem_cons.mpr ⟨Or.inl (by decide), (List.forall_mem_cons.mpr ⟨Or.inl (by decide), (List.forall_mem_cons.mpr ⟨Or.inl (by decide), (fun z hz => absurd hz List.not_mem_nil)⟩)⟩)⟩)⟩)⟩) (by decide) (by decide) cl_L_21 ca_IndexOutOfBoundsException__IndexOutOfBoundsException (fun q => ?_)
      refine pw_astore_n (pc2 := 89) (L2 := [(3, Value.ref q), (0, Value.ref x), (1, Value.int p0), (2, Value.int 5)]) dL_of_88 rfl rfl (by decide) (by first | exact rf_ref _ | exact rf_opt _ | exact rf_nul) rfl ?_
      refine pw_sipush (pc2 := 92) (v := (-1001)) dL_of_89 rfl (by decide) ?_
      refine pw_iret dL_of_92 rfl (by first | rfl | assumption | simp [narrow]) ?_
      exact Or.inr ⟨_, _, q9, by decide +kernel, rfl⟩
    · refine px_catch [(0, 49, 88, 21), (50, 55, 88, 21), (56, 61, 88, 21), (62, 75, 88, 21), (76, 81, 88, 21), (82, 87, 88, 21), (0, 49, 93, 15), (50, 55, 93, 15), (56, 61, 93, 15), (62, 75, 93, 15), (76, 81, 93, 15), (82, 87, 93, 15), (0, 49, 98, 39), (50, 55, 98, 39), (56, 61, 98, 39), (62, 75, 98, 39), (76, 81, 98, 39)] [] (82, 87, 98, 39) rfl (List.forall_mem_cons.mpr ⟨Or.inl (by decide), (List.forall_mem_cons.mpr ⟨Or.inl (by decide), (List.forall_mem_cons.mpr ⟨Or.inl (by decide), (List.forall_mem_cons.mpr ⟨Or.inl (by decide), (List.forall_mem_cons.mpr ⟨Or.inl (by decide), (List.forall_mem_cons.mpr ⟨Or.inr ⟨by decide, _, cl_L_21, by decide +kernel⟩, (List.forall_mem_cons.mpr ⟨Or.inl (by decide), (List.forall_mem_cons.mpr ⟨Or.inl (by decide), (List.forall_mem_cons.mpr ⟨Or.inl (by decide), (List.forall_mem_cons.mpr ⟨Or.inl (by decide), (List.forall_mem_cons.mpr ⟨Or.inl (by decide), (List.forall_mem_cons.mpr ⟨Or.inr ⟨by decide, _, cl_L_15, by decide +kernel⟩, (List.forall_mem_cons.mpr ⟨Or.inl (by decide), (List.forall_mem_cons.mpr ⟨Or.inl (by decide), (List.forall_mem_cons.mpr ⟨Or.inl (by decide), (List.forall_mem_cons.mpr ⟨Or.inl (by decide), (List.forall_mem_cons.mpr ⟨Or.inl (by decide), (fun z hz => absurd hz List.not_mem_nil)⟩)⟩)⟩)⟩)⟩)⟩)⟩)⟩)⟩)⟩)⟩)⟩)⟩)⟩)⟩)⟩)⟩) (by decide) (by decide) cl_L_39 ca_UnsupportedOperationException__UnsupportedOperationException (fun q => ?_)
      refine pw_astore_n (pc2 := 99) (L2 := [(3, Value.ref q), (0, Value.ref x), (1, Value.int p0), (2, Value.int 5)]) dL_of_98 rfl rfl (by decide) (by first | exact rf_ref _ | exact rf_opt _ | exact rf_nul) rfl ?_
      refine pw_sipush (pc2 := 102) (v := (-1002)) dL_of_99 rfl (by decide) ?_
      refine pw_iret dL_of_102 rfl (by first | rfl | assumption | simp [narrow]) ?_
      exact Or.inr ⟨_, _, q9, by decide +kernel, rfl⟩
    · refine px_catch [(0, 49, 88, 21), (50, 55, 88, 21), (56, 61, 88, 21), (62, 75, 88, 21), (76, 81, 88, 21), (82, 87, 88, 21), (0, 49, 93, 15), (50, 55, 93, 15), (56, 61, 93, 15), (62, 75, 93, 15), (76, 81, 93, 15)] [(0, 49, 98, 39), (50, 55, 98, 39), (56, 61, 98, 39), (62, 75, 98, 39), (76, 81, 98, 39), (82, 87, 98, 39)] (82, 87, 93, 15) rfl (List.forall_mem_cons.mpr ⟨Or.inl (by decide), (List.forall_mem_cons.mpr ⟨Or.inl (by decide), (List.forall_mem_cons.mpr ⟨Or.inl (by decide), (List.forall_mem_cons.mpr ⟨Or.inl (by decide), (List.forall_mem_cons.mpr ⟨Or.inl (by decide), (List.forall_mem_cons.mpr ⟨Or.inr ⟨by decide, _, cl_L_21, by decide +kernel⟩, (List.forall_mem_cons.mpr ⟨Or.inl (by decide), (List.forall_mem_cons.mpr ⟨Or.inl (by decide), (List.forall_mem_cons.mpr ⟨Or.inl (by decide), (List.forall_mem_cons.mpr ⟨Or.inl (by decide), (List.forall_mem_cons.mpr ⟨Or.inl (by decide), (fun z hz => absurd hz List.not_mem_nil)⟩)⟩)⟩)⟩)⟩)⟩)⟩)⟩)⟩)⟩)⟩) (by decide) (by decide) cl_L_15 ca_IllegalStateException__IllegalStateException (fun q => ?_)
      refine pw_astore_n (pc2 := 94) (L2 := [(3, Value.ref q), (0, Value.ref x), (1, Value.int p0), (2, Value.int 5)]) dL_of_93 rfl rfl (by decide) (by first | exact rf_ref _ | exact rf_opt _ | exact rf_nul) rfl ?_
      refine pw_sipush (pc2 := 97) (v := (-1003)) dL_of_94 rfl (by decide) ?_
      refine pw_iret dL_of_97 rfl (by first | rfl | assumption | simp [narrow]) ?_
      exact Or.inr ⟨_, _, q9, by decide +kernel, rfl⟩
  obtain ⟨v, rfl⟩ := hQ _ _ q9
  refine pw_iret dL_of_87 rfl (by first | rfl | assumption | simp [narrow]) ?_
  exact Or.inl ⟨_, q9, rfl⟩
set_option maxHeartbeats 4000000 in
set_option maxRecDepth 100000 in
theorem w_ts0 (G : hG) (h : hp) {x : Nat} {p0 : Int32} {k kc ks : Nat} {fs : List Value} {Qc : Option Value → hp → Prop} {Xc : String → hp → Prop} (hx : h x = some (oB 12 fs)) (hc : PMet G MX9_flaky k kc ks [.ref x, .int p0] h Qc Xc) (hQ : ∀ r h1, Qc r h1 → ∃ v, r = some (.int v)) (hX : ∀ C h1, Xc C h1 → C = xIO) : PMet G ML_tests (k + 1) (0 + kc) (0 + ks) [.ref x, .int p0, .int 0] h (QV Qc Xc [(xIO, (-1001))]) noX := by
  refine PMet.of (by decide +kernel) (Nat.le_of_ble_eq_true rfl) (fun d hd => ?_)
  refine PW.sub (L2 := [(0, Value.ref x), (1, Value.int p0), (2, Value.int 0)]) [0, 1, 2] rfl ?_
  refine pw_iload_n (pc2 := 1) dL_tests_0 rfl rfl 2 rfl ?_
  refine pw_if_ne (tgt := 12) (pc2 := 4) dL_tests_1 (by decide) rfl (fun c1 => by exact absurd (by decide) c1) (fun _ => ?_)
  refine pw_aload_n (pc2 := 5) dL_tests_4 rfl rfl 0 rfl (by first | exact rf_ref _ | exact rf_opt _ | exact rf_nul) ?_
  refine pw_iload_n (pc2 := 6) dL_tests_5 rfl rfl 1 rfl ?_
  refine pw_callV (pc2 := 9) hc cs_L_63 rfl rfl hx dL_tests_6 rfl (by omega) rfl (by first | decide | simp [cat_rf, Value.category]) (fun r9 h9 q9 => ?_) (fun Y h9 q9 => ?_)
  rotate_left
  · obtain rfl := hX Y h9 q9
    refine px_catch [] [] (0, 35, 36, 21) rfl (fun z hz => absurd hz List.not_mem_nil) (by decide) (by decide) cl_L_21 ca_IndexOutOfBoundsException__IndexOutOfBoundsException (fun q => ?_)
    refine pw_astore_n (pc2 := 37) (L2 := [(3, Value.ref q), (0, Value.ref x), (1, Value.int p0), (2, Value.int 0)]) dL_tests_36 rfl rfl (by decide) (by first | exact rf_ref _ | exact rf_opt _ | exact rf_nul) rfl ?_
    refine pw_sipush (pc2 := 40) (v := (-1001)) dL_tests_37 rfl (by decide) ?_
    refine pw_iret dL_tests_40 rfl (by first | rfl | assumption | simp [narrow]) ?_
    exact Or.inr ⟨_, _, q9, by decide +kernel, rfl⟩
  obtain ⟨v, rfl⟩ := hQ _ _ q9
  refine pw_goto (tgt := 35) dL_tests_9 (by decide) ?_
  refine pw_iret dL_tests_35 rfl (by first | rfl | assumption | simp [narrow]) ?_
  exact Or.inl ⟨_, q9, rfl⟩
set_option maxHeartbeats 4000000 in
set_option maxRecDepth 100000 in
theorem w_ts1 (G : hG) (h : hp) {x : Nat} {p0 : Int32} {k kc ks : Nat} {fs : List Value} {Qc : Option Value → hp → Prop} {Xc : String → hp → Prop} (hx : h x = some (oB 12 fs)) (hc : PMet G MX9_setFailing k kc ks [.ref x, .int p0, .int 1] h Qc Xc) (hQ : ∀ r h1, Qc r h1 → ∃ v, r = some (.int v) ∧ b01 v) (hX : ∀ C h1, Xc C h1 → C = xIO) : PMet G ML_tests (k + 1) (0 + kc) (0 + ks) [.ref x, .int p0, .int 1] h (QV Qc Xc [(xIO, (-1001))]) noX := by
  refine PMet.of (by decide +kernel) (Nat.le_of_ble_eq_true rfl) (fun d hd => ?_)
  refine PW.sub (L2 := [(0, Value.ref x), (1, Value.int p0), (2, Value.int 1)]) [0, 1, 2] rfl ?_
  refine pw_iload_n (pc2 := 1) dL_tests_0 rfl rfl 2 rfl ?_
  refine pw_if_ne (tgt := 12) (pc2 := 4) dL_tests_1 (by decide) rfl (fun _ => ?_) (fun c1 => by exact absurd c1 (by decide))
  refine pw_aload_n (pc2 := 13) dL_tests_12 rfl rfl 0 rfl (by first | exact rf_ref _ | exact rf_opt _ | exact rf_nul) ?_
  refine pw_iload_n (pc2 := 14) dL_tests_13 rfl rfl 1 rfl ?_
  refine pw_iload_n (pc2 := 15) dL_tests_14 rfl rfl 2 rfl ?_
  refine pw_iconst (pc2 := 16) (v := 1) dL_tests_15 rfl (by decide) ?_
  refine pw_icmp_ne (tgt := 23) (pc2 := 19) dL_tests_16 (by decide) rfl (fun c16 => by exact absurd (by decide) c16) (fun _ => ?_)
  refine pw_iconst (pc2 := 20) (v := 1) dL_tests_19 rfl (by decide) ?_
  refine pw_goto (tgt := 24) dL_tests_20 (by decide) ?_
  refine pw_callV (pc2 := 27) hc cs_L_66 rfl rfl hx dL_tests_24 rfl (by omega) rfl (by first | decide | simp [cat_rf, Value.category]) (fun r9 h9 q9 => ?_) (fun Y h9 q9 => ?_)
  rotate_left
  · obtain rfl := hX Y h9 q9
    refine px_catch [] [] (0, 35, 36, 21) rfl (fun z hz => absurd hz List.not_mem_nil) (by decide) (by decide) cl_L_21 ca_IndexOutOfBoundsException__IndexOutOfBoundsException (fun q => ?_)
    refine pw_astore_n (pc2 := 37) (L2 := [(3, Value.ref q), (0, Value.ref x), (1, Value.int p0), (2, Value.int 1)]) dL_tests_36 rfl rfl (by decide) (by first | exact rf_ref _ | exact rf_opt _ | exact rf_nul) rfl ?_
    refine pw_sipush (pc2 := 40) (v := (-1001)) dL_tests_37 rfl (by decide) ?_
    refine pw_iret dL_tests_40 rfl (by first | rfl | assumption | simp [narrow]) ?_
    exact Or.inr ⟨_, _, q9, by decide +kernel, rfl⟩
  obtain ⟨v, rfl, hz⟩ := hQ _ _ q9
  rcases hz with rfl | rfl
  · refine pw_if_eq (tgt := 34) (pc2 := 30) dL_tests_27 (by decide) rfl (fun _ => ?_) (fun c27 => by exact absurd (by decide) c27)
    refine pw_iconst (pc2 := 35) (v := 0) dL_tests_34 rfl (by decide) ?_
    refine pw_iret dL_tests_35 rfl (by first | rfl | assumption | simp [narrow]) ?_
    exact Or.inl ⟨_, q9, rfl⟩
  · refine pw_if_eq (tgt := 34) (pc2 := 30) dL_tests_27 (by decide) rfl (fun c27 => by exact absurd c27 (by decide)) (fun _ => ?_)
    refine pw_iconst (pc2 := 31) (v := 1) dL_tests_30 rfl (by decide) ?_
    refine pw_goto (tgt := 35) dL_tests_31 (by decide) ?_
    refine pw_iret dL_tests_35 rfl (by first | rfl | assumption | simp [narrow]) ?_
    exact Or.inl ⟨_, q9, rfl⟩
set_option maxHeartbeats 4000000 in
set_option maxRecDepth 100000 in
theorem w_ts2 (G : hG) (h : hp) {x : Nat} {p0 p1 : Int32} {k kc ks : Nat} {fs : List Value} {Qc : Option Value → hp → Prop} {Xc : String → hp → Prop} (hx : h x = some (oB 12 fs)) (hc : PMet G MX9_setFailing k kc ks [.ref x, .int p0, .int 0] h Qc Xc) (hQ : ∀ r h1, Qc r h1 → ∃ v, r = some (.int v) ∧ b01 v) (hX : ∀ C h1, Xc C h1 → C = xIO) (hw0 : ¬ p1 = 0) (hw1 : ¬ p1 = 1) : PMet G ML_tests (k + 1) (0 + kc) (0 + ks) [.ref x, .int p0, .int p1] h (QV Qc Xc [(xIO, (-1001))]) noX := by
  refine PMet.of (by decide +kernel) (Nat.le_of_ble_eq_true rfl) (fun d hd => ?_)
  refine PW.sub (L2 := [(0, Value.ref x), (1, Value.int p0), (2, Value.int p1)]) [0, 1, 2] rfl ?_
  refine pw_iload_n (pc2 := 1) dL_tests_0 rfl rfl 2 rfl ?_
  refine pw_if_ne (tgt := 12) (pc2 := 4) dL_tests_1 (by decide) rfl (fun _ => ?_) (fun c1 => by exact absurd c1 (hw0))
  refine pw_aload_n (pc2 := 13) dL_tests_12 rfl rfl 0 rfl (by first | exact rf_ref _ | exact rf_opt _ | exact rf_nul) ?_
  refine pw_iload_n (pc2 := 14) dL_tests_13 rfl rfl 1 rfl ?_
  refine pw_iload_n (pc2 := 15) dL_tests_14 rfl rfl 2 rfl ?_
  refine pw_iconst (pc2 := 16) (v := 1) dL_tests_15 rfl (by decide) ?_
  refine pw_icmp_ne (tgt := 23) (pc2 := 19) dL_tests_16 (by decide) rfl (fun _ => ?_) (fun c16 => by exact absurd c16 (hw1))
  refine pw_iconst (pc2 := 24) (v := 0) dL_tests_23 rfl (by decide) ?_
  refine pw_callV (pc2 := 27) hc cs_L_66 rfl rfl hx dL_tests_24 rfl (by omega) rfl (by first | decide | simp [cat_rf, Value.category]) (fun r9 h9 q9 => ?_) (fun Y h9 q9 => ?_)
  rotate_left
  · obtain rfl := hX Y h9 q9
    refine px_catch [] [] (0, 35, 36, 21) rfl (fun z hz => absurd hz List.not_mem_nil) (by decide) (by decide) cl_L_21 ca_IndexOutOfBoundsException__IndexOutOfBoundsException (fun q => ?_)
    refine pw_astore_n (pc2 := 37) (L2 := [(3, Value.ref q), (0, Value.ref x), (1, Value.int p0), (2, Value.int p1)]) dL_tests_36 rfl rfl (by decide) (by first | exact rf_ref _ | exact rf_opt _ | exact rf_nul) rfl ?_
    refine pw_sipush (pc2 := 40) (v := (-1001)) dL_tests_37 rfl (by decide) ?_
    refine pw_iret dL_tests_40 rfl (by first | rfl | assumption | simp [narrow]) ?_
    exact Or.inr ⟨_, _, q9, by decide +kernel, rfl⟩
  obtain ⟨v, rfl, hz⟩ := hQ _ _ q9
  rcases hz with rfl | rfl
  · refine pw_if_eq (tgt := 34) (pc2 := 30) dL_tests_27 (by decide) rfl (fun _ => ?_) (fun c27 => by exact absurd (by decide) c27)
    refine pw_iconst (pc2 := 35) (v := 0) dL_tests_34 rfl (by decide) ?_
    refine pw_iret dL_tests_35 rfl (by first | rfl | assumption | simp [narrow]) ?_
    exact Or.inl ⟨_, q9, rfl⟩
  · refine pw_if_eq (tgt := 34) (pc2 := 30) dL_tests_27 (by decide) rfl (fun c27 => by exact absurd c27 (by decide)) (fun _ => ?_)
    refine pw_iconst (pc2 := 31) (v := 1) dL_tests_30 rfl (by decide) ?_
    refine pw_goto (tgt := 35) dL_tests_31 (by decide) ?_
    refine pw_iret dL_tests_35 rfl (by first | rfl | assumption | simp [narrow]) ?_
    exact Or.inl ⟨_, q9, rfl⟩
set_option maxHeartbeats 4000000 in
set_option maxRecDepth 100000 in
theorem w_flk (G : hG) (h : hp) {x : Nat} {k kc ks : Nat} {fs : List Value} {Qc : Option Value → hp → Prop} {Xc : String → hp → Prop} (hx : h x = some (oB 12 fs)) (hc : PMet G MX9_flakiest k kc ks [.ref x] h Qc Xc) (hQ : ∀ r h1, Qc r h1 → ∃ v, r = some (.int v)) (hX : ∀ C h1, Xc C h1 → C = nsN) : PMet G ML_flakiest (k + 1) (0 + kc) (0 + ks) [.ref x] h (QV Qc Xc [(nsN, (-1001))]) noX := by
  refine PMet.of (by decide +kernel) (Nat.le_of_ble_eq_true rfl) (fun d hd => ?_)
  refine PW.sub (L2 := [(0, Value.ref x)]) [0] rfl ?_
  refine pw_aload_n (pc2 := 1) dL_flakiest_0 rfl rfl 0 rfl (by first | exact rf_ref _ | exact rf_opt _ | exact rf_nul) ?_
  refine pw_callV (pc2 := 4) hc cs_L_70 rfl rfl hx dL_flakiest_1 rfl (by omega) rfl (by first | decide | simp [cat_rf, Value.category]) (fun r9 h9 q9 => ?_) (fun Y h9 q9 => ?_)
  rotate_left
  · obtain rfl := hX Y h9 q9
    refine px_catch [] [] (0, 4, 5, 31) rfl (fun z hz => absurd hz List.not_mem_nil) (by decide) (by decide) cl_L_31 ca_NoSuchElementException__NoSuchElementException (fun q => ?_)
    refine pw_astore_n (pc2 := 6) (L2 := [(1, Value.ref q), (0, Value.ref x)]) dL_flakiest_5 rfl rfl (by decide) (by first | exact rf_ref _ | exact rf_opt _ | exact rf_nul) rfl ?_
    refine pw_sipush (pc2 := 9) (v := (-1001)) dL_flakiest_6 rfl (by decide) ?_
    refine pw_iret dL_flakiest_9 rfl (by first | rfl | assumption | simp [narrow]) ?_
    exact Or.inr ⟨_, _, q9, by decide +kernel, rfl⟩
  obtain ⟨v, rfl⟩ := hQ _ _ q9
  refine pw_iret dL_flakiest_4 rfl (by first | rfl | assumption | simp [narrow]) ?_
  exact Or.inl ⟨_, q9, rfl⟩
set_option maxHeartbeats 4000000 in
set_option maxRecDepth 100000 in
theorem w_mon_m (G : hG) (h : hp) {x : Nat} {p0 p1 : Int32} {k kc ks : Nat} {fs : List Value} {Qc : Option Value → hp → Prop} {Xc : String → hp → Prop} (hx : h x = some (oB 12 fs)) (hc : PMet G MX9_setMachines k kc ks [.ref x, .int p0] h Qc Xc) (hQ : ∀ r h1, Qc r h1 → ∃ v, r = some (.int v)) (hX : ∀ C h1, Xc C h1 → C = xIA) : PMet G ML_money (k + 1) (0 + kc) (0 + ks) [.ref x, .int 109, .int p0, .int p1] h (QV Qc Xc [(xIA, (-1001))]) noX := by
  refine PMet.of (by decide +kernel) (Nat.le_of_ble_eq_true rfl) (fun d hd => ?_)
  refine PW.sub (L2 := [(0, Value.ref x), (1, Value.int 109), (2, Value.int p0), (3, Value.int p1)]) [0, 1, 2, 3] rfl ?_
  refine pw_iload_n (pc2 := 1) dL_money_0 rfl rfl 1 rfl ?_
  refine pw_bipush (pc2 := 3) (v := 109) dL_money_1 rfl (by decide) ?_
  refine pw_icmp_ne (tgt := 14) (pc2 := 6) dL_money_3 (by decide) rfl (fun c3 => by exact absurd (by decide) c3) (fun _ => ?_)
  refine pw_aload_n (pc2 := 7) dL_money_6 rfl rfl 0 rfl (by first | exact rf_ref _ | exact rf_opt _ | exact rf_nul) ?_
  refine pw_iload_n (pc2 := 8) dL_money_7 rfl rfl 2 rfl ?_
  refine pw_callV (pc2 := 11) hc cs_L_74 rfl rfl hx dL_money_8 rfl (by omega) rfl (by first | decide | simp [cat_rf, Value.category]) (fun r9 h9 q9 => ?_) (fun Y h9 q9 => ?_)
  rotate_left
  · obtain rfl := hX Y h9 q9
    refine px_catch [] [] (0, 34, 35, 13) rfl (fun z hz => absurd hz List.not_mem_nil) (by decide) (by decide) cl_L_13 ca_IllegalArgumentException__IllegalArgumentException (fun q => ?_)
    refine pw_astore (pc2 := 37) (L2 := [(4, Value.ref q), (0, Value.ref x), (1, Value.int 109), (2, Value.int p0), (3, Value.int p1)]) dL_money_35 rfl (by decide) (by first | exact rf_ref _ | exact rf_opt _ | exact rf_nul) rfl ?_
    refine pw_sipush (pc2 := 40) (v := (-1001)) dL_money_37 rfl (by decide) ?_
    refine pw_iret dL_money_40 rfl (by first | rfl | assumption | simp [narrow]) ?_
    exact Or.inr ⟨_, _, q9, by decide +kernel, rfl⟩
  obtain ⟨v, rfl⟩ := hQ _ _ q9
  refine pw_goto (tgt := 34) dL_money_11 (by decide) ?_
  refine pw_iret dL_money_34 rfl (by first | rfl | assumption | simp [narrow]) ?_
  exact Or.inl ⟨_, q9, rfl⟩
set_option maxHeartbeats 4000000 in
set_option maxRecDepth 100000 in
theorem w_mon_b (G : hG) (h : hp) {x : Nat} {p0 p1 : Int32} {k kc ks : Nat} {fs : List Value} {Qc : Option Value → hp → Prop} {Xc : String → hp → Prop} (hx : h x = some (oB 12 fs)) (hc : PMet G MX9_budget k kc ks [.ref x, .int p0] h Qc Xc) (hQ : ∀ r h1, Qc r h1 → ∃ v, r = some (.int v)) (hX : ∀ C h1, Xc C h1 → C = xIA) : PMet G ML_money (k + 1) (0 + kc) (0 + ks) [.ref x, .int 98, .int p0, .int p1] h (QV Qc Xc [(xIA, (-1001))]) noX := by
  refine PMet.of (by decide +kernel) (Nat.le_of_ble_eq_true rfl) (fun d hd => ?_)
  refine PW.sub (L2 := [(0, Value.ref x), (1, Value.int 98), (2, Value.int p0), (3, Value.int p1)]) [0, 1, 2, 3] rfl ?_
  refine pw_iload_n (pc2 := 1) dL_money_0 rfl rfl 1 rfl ?_
  refine pw_bipush (pc2 := 3) (v := 109) dL_money_1 rfl (by decide) ?_
  refine pw_icmp_ne (tgt := 14) (pc2 := 6) dL_money_3 (by decide) rfl (fun _ => ?_) (fun c3 => by exact absurd c3 (by decide))
  refine pw_iload_n (pc2 := 15) dL_money_14 rfl rfl 1 rfl ?_
  refine pw_bipush (pc2 := 17) (v := 98) dL_money_15 rfl (by decide) ?_
  refine pw_icmp_ne (tgt := 28) (pc2 := 20) dL_money_17 (by decide) rfl (fun c17 => by exact absurd (by decide) c17) (fun _ => ?_)
  refine pw_aload_n (pc2 := 21) dL_money_20 rfl rfl 0 rfl (by first | exact rf_ref _ | exact rf_opt _ | exact rf_nul) ?_
  refine pw_iload_n (pc2 := 22) dL_money_21 rfl rfl 2 rfl ?_
  refine pw_callV (pc2 := 25) hc cs_L_77 rfl rfl hx dL_money_22 rfl (by omega) rfl (by first | decide | simp [cat_rf, Value.category]) (fun r9 h9 q9 => ?_) (fun Y h9 q9 => ?_)
  rotate_left
  · obtain rfl := hX Y h9 q9
    refine px_catch [] [] (0, 34, 35, 13) rfl (fun z hz => absurd hz List.not_mem_nil) (by decide) (by decide) cl_L_13 ca_IllegalArgumentException__IllegalArgumentException (fun q => ?_)
    refine pw_astore (pc2 := 37) (L2 := [(4, Value.ref q), (0, Value.ref x), (1, Value.int 98), (2, Value.int p0), (3, Value.int p1)]) dL_money_35 rfl (by decide) (by first | exact rf_ref _ | exact rf_opt _ | exact rf_nul) rfl ?_
    refine pw_sipush (pc2 := 40) (v := (-1001)) dL_money_37 rfl (by decide) ?_
    refine pw_iret dL_money_40 rfl (by first | rfl | assumption | simp [narrow]) ?_
    exact Or.inr ⟨_, _, q9, by decide +kernel, rfl⟩
  obtain ⟨v, rfl⟩ := hQ _ _ q9
  refine pw_goto (tgt := 34) dL_money_25 (by decide) ?_
  refine pw_iret dL_money_34 rfl (by first | rfl | assumption | simp [narrow]) ?_
  exact Or.inl ⟨_, q9, rfl⟩
set_option maxHeartbeats 4000000 in
set_option maxRecDepth 100000 in
theorem w_mon_f (G : hG) (h : hp) {x : Nat} {p0 p1 : Int32} {k kc ks : Nat} {fs : List Value} {Qc : Option Value → hp → Prop} {Xc : String → hp → Prop} (hx : h x = some (oB 12 fs)) (hc : PMet G MX9_fund k kc ks [.ref x, .int p0, .int p1] h Qc Xc) (hQ : ∀ r h1, Qc r h1 → ∃ v, r = some (.int v)) (hX : ∀ C h1, Xc C h1 → C = xIA) : PMet G ML_money (k + 1) (0 + kc) (0 + ks) [.ref x, .int 102, .int p0, .int p1] h (QV Qc Xc [(xIA, (-1001))]) noX := by
  refine PMet.of (by decide +kernel) (Nat.le_of_ble_eq_true rfl) (fun d hd => ?_)
  refine PW.sub (L2 := [(0, Value.ref x), (1, Value.int 102), (2, Value.int p0), (3, Value.int p1)]) [0, 1, 2, 3] rfl ?_
  refine pw_iload_n (pc2 := 1) dL_money_0 rfl rfl 1 rfl ?_
  refine pw_bipush (pc2 := 3) (v := 109) dL_money_1 rfl (by decide) ?_
  refine pw_icmp_ne (tgt := 14) (pc2 := 6) dL_money_3 (by decide) rfl (fun _ => ?_) (fun c3 => by exact absurd c3 (by decide))
  refine pw_iload_n (pc2 := 15) dL_money_14 rfl rfl 1 rfl ?_
  refine pw_bipush (pc2 := 17) (v := 98) dL_money_15 rfl (by decide) ?_
  refine pw_icmp_ne (tgt := 28) (pc2 := 20) dL_money_17 (by decide) rfl (fun _ => ?_) (fun c17 => by exact absurd c17 (by decide))
  refine pw_aload_n (pc2 := 29) dL_money_28 rfl rfl 0 rfl (by first | exact rf_ref _ | exact rf_opt _ | exact rf_nul) ?_
  refine pw_iload_n (pc2 := 30) dL_money_29 rfl rfl 2 rfl ?_
  refine pw_iload_n (pc2 := 31) dL_money_30 rfl rfl 3 rfl ?_
  refine pw_callV (pc2 := 34) hc cs_L_80 rfl rfl hx dL_money_31 rfl (by omega) rfl (by first | decide | simp [cat_rf, Value.category]) (fun r9 h9 q9 => ?_) (fun Y h9 q9 => ?_)
  rotate_left
  · obtain rfl := hX Y h9 q9
    refine px_catch [] [] (0, 34, 35, 13) rfl (fun z hz => absurd hz List.not_mem_nil) (by decide) (by decide) cl_L_13 ca_IllegalArgumentException__IllegalArgumentException (fun q => ?_)
    refine pw_astore (pc2 := 37) (L2 := [(4, Value.ref q), (0, Value.ref x), (1, Value.int 102), (2, Value.int p0), (3, Value.int p1)]) dL_money_35 rfl (by decide) (by first | exact rf_ref _ | exact rf_opt _ | exact rf_nul) rfl ?_
    refine pw_sipush (pc2 := 40) (v := (-1001)) dL_money_37 rfl (by decide) ?_
    refine pw_iret dL_money_40 rfl (by first | rfl | assumption | simp [narrow]) ?_
    exact Or.inr ⟨_, _, q9, by decide +kernel, rfl⟩
  obtain ⟨v, rfl⟩ := hQ _ _ q9
  refine pw_iret dL_money_34 rfl (by first | rfl | assumption | simp [narrow]) ?_
  exact Or.inl ⟨_, q9, rfl⟩
set_option maxHeartbeats 4000000 in
set_option maxRecDepth 100000 in
theorem w_rel0 (G : hG) (h : hp) {x : Nat} {p0 p1 : Int32} {k kc ks : Nat} {fs : List Value} {Qc : Option Value → hp → Prop} {Xc : String → hp → Prop} (hx : h x = some (oB 12 fs)) (hc : PMet G MX9_yank k kc ks [.ref x, .int p0, .int p1] h Qc Xc) (hQ : ∀ r h1, Qc r h1 → ∃ v, r = some (.int v)) (hX : ∀ C h1, Xc C h1 → C = xIO ∨ C = nsN ∨ C = xIS) : PMet G ML_release (k + 1) (0 + kc) (0 + ks) [.ref x, .int p0, .int p1, .int 0] h (QV Qc Xc [(xIO, (-1001)), (nsN, (-1002)), (xIS, (-1003))]) noX := by
  refine PMet.of (by decide +kernel) (Nat.le_of_ble_eq_true rfl) (fun d hd => ?_)
  refine PW.sub (L2 := [(0, Value.ref x), (1, Value.int p0), (2, Value.int p1), (3, Value.int 0)]) [0, 1, 2, 3] rfl ?_
  refine pw_iload_n (pc2 := 1) dL_release_0 rfl rfl 3 rfl ?_
  refine pw_if_ne (tgt := 13) (pc2 := 4) dL_release_1 (by decide) rfl (fun c1 => by exact absurd (by decide) c1) (fun _ => ?_)
  refine pw_aload_n (pc2 := 5) dL_release_4 rfl rfl 0 rfl (by first | exact rf_ref _ | exact rf_opt _ | exact rf_nul) ?_
  refine pw_iload_n (pc2 := 6) dL_release_5 rfl rfl 1 rfl ?_
  refine pw_iload_n (pc2 := 7) dL_release_6 rfl rfl 2 rfl ?_
  refine pw_callV (pc2 := 10) hc cs_L_83 rfl rfl hx dL_release_7 rfl (by omega) rfl (by first | decide | simp [cat_rf, Value.category]) (fun r9 h9 q9 => ?_) (fun Y h9 q9 => ?_)
  rotate_left
  · rcases hX Y h9 q9 with rfl | rfl | rfl
    · refine px_catch [] [(0, 59, 66, 31), (0, 59, 72, 15), (0, 59, 78, 39)] (0, 59, 60, 21) rfl (fun z hz => absurd hz List.not_mem_nil) (by decide) (by decide) cl_L_21 ca_IndexOutOfBoundsException__IndexOutOfBoundsException (fun q => ?_)
      refine pw_astore (pc2 := 62) (L2 := [(4, Value.ref q), (0, Value.ref x), (1, Value.int p0), (2, Value.int p1), (3, Value.int 0)]) dL_release_60 rfl (by decide) (by first | exact rf_ref _ | exact rf_opt _ | exact rf_nul) rfl ?_
      refine pw_sipush (pc2 := 65) (v := (-1001)) dL_release_62 rfl (by decide) ?_
      refine pw_iret dL_release_65 rfl (by first | rfl | assumption | simp [narrow]) ?_
      exact Or.inr ⟨_, _, q9, by decide +kernel, rfl⟩
    · refine px_catch [(0, 59, 60, 21)] [(0, 59, 72, 15), (0, 59, 78, 39)] (0, 59, 66, 31) rfl (List.forall_mem_cons.mpr ⟨Or.inr ⟨by decide, _, cl_L_21, by decide +kernel⟩, (fun z hz => absurd hz List.not_mem_nil)⟩) (by decide) (by decide) cl_L_31 ca_NoSuchElementException__NoSuchElementException (fun q => ?_)
      refine pw_astore (pc2 := 68) (L2 := [(4, Value.ref q), (0, Value.ref x), (1, Value.int p0), (2, Value.int p1), (3, Value.int 0)]) dL_release_66 rfl (by decide) (by first | exact rf_ref _ | exact rf_opt _ | exact rf_nul) rfl ?_
      refine pw_sipush (pc2 := 71) (v := (-1002)) dL_release_68 rfl (by decide) ?_
      refine pw_iret dL_release_71 rfl (by first | rfl | assumption | simp [narrow]) ?_
      exact Or.inr ⟨_, _, q9, by decide +kernel, rfl⟩
    · refine px_catch [(0, 59, 60, 21), (0, 59, 66, 31)] [(0, 59, 78, 39)] (0, 59, 72, 15) rfl (List.forall_mem_cons.mpr ⟨Or.inr ⟨by decide, _, cl_L_21, by decide +kernel⟩, (List.forall_mem_cons.mpr ⟨Or.inr ⟨by decide, _, cl_L_31, by decide +kernel⟩, (fun z hz => absurd hz List.not_mem_nil)⟩)⟩) (by decide) (by decide) cl_L_15 ca_IllegalStateException__IllegalStateException (fun q => ?_)
      refine pw_astore (pc2 := 74) (L2 := [(4, Value.ref q), (0, Value.ref x), (1, Value.int p0), (2, Value.int p1), (3, Value.int 0)]) dL_release_72 rfl (by decide) (by first | exact rf_ref _ | exact rf_opt _ | exact rf_nul) rfl ?_
      refine pw_sipush (pc2 := 77) (v := (-1003)) dL_release_74 rfl (by decide) ?_
      refine pw_iret dL_release_77 rfl (by first | rfl | assumption | simp [narrow]) ?_
      exact Or.inr ⟨_, _, q9, by decide +kernel, rfl⟩
  obtain ⟨v, rfl⟩ := hQ _ _ q9
  refine pw_goto (tgt := 59) dL_release_10 (by decide) ?_
  refine pw_iret dL_release_59 rfl (by first | rfl | assumption | simp [narrow]) ?_
  exact Or.inl ⟨_, q9, rfl⟩
set_option maxHeartbeats 4000000 in
set_option maxRecDepth 100000 in
theorem w_rel1 (G : hG) (h : hp) {x : Nat} {p0 p1 : Int32} {k kc ks : Nat} {fs : List Value} {Qc : Option Value → hp → Prop} {Xc : String → hp → Prop} (hx : h x = some (oB 12 fs)) (hc : PMet G MX9_isStale k kc ks [.ref x, .int p0, .int p1] h Qc Xc) (hQ : ∀ r h1, Qc r h1 → ∃ v, r = some (.int v) ∧ b01 v) (hX : ∀ C h1, Xc C h1 → C = xIO ∨ C = nsN) : PMet G ML_release (k + 1) (0 + kc) (0 + ks) [.ref x, .int p0, .int p1, .int 1] h (QV Qc Xc [(xIO, (-1001)), (nsN, (-1002))]) noX := by
  refine PMet.of (by decide +kernel) (Nat.le_of_ble_eq_true rfl) (fun d hd => ?_)
  refine PW.sub (L2 := [(0, Value.ref x), (1, Value.int p0), (2, Value.int p1), (3, Value.int 1)]) [0, 1, 2, 3] rfl ?_
  refine pw_iload_n (pc2 := 1) dL_release_0 rfl rfl 3 rfl ?_
  refine pw_if_ne (tgt := 13) (pc2 := 4) dL_release_1 (by decide) rfl (fun _ => ?_) (fun c1 => by exact absurd c1 (by decide))
  refine pw_iload_n (pc2 := 14) dL_release_13 rfl rfl 3 rfl ?_
  refine pw_iconst (pc2 := 15) (v := 1) dL_release_14 rfl (by decide) ?_
  refine pw_icmp_ne (tgt := 35) (pc2 := 18) dL_release_15 (by decide) rfl (fun c15 => by exact absurd (by decide) c15) (fun _ => ?_)
  refine pw_aload_n (pc2 := 19) dL_release_18 rfl rfl 0 rfl (by first | exact rf_ref _ | exact rf_opt _ | exact rf_nul) ?_
  refine pw_iload_n (pc2 := 20) dL_release_19 rfl rfl 1 rfl ?_
  refine pw_iload_n (pc2 := 21) dL_release_20 rfl rfl 2 rfl ?_
  refine pw_callV (pc2 := 24) hc cs_L_86 rfl rfl hx dL_release_21 rfl (by omega) rfl (by first | decide | simp [cat_rf, Value.category]) (fun r9 h9 q9 => ?_) (fun Y h9 q9 => ?_)
  rotate_left
  · rcases hX Y h9 q9 with rfl | rfl
    · refine px_catch [] [(0, 59, 66, 31), (0, 59, 72, 15), (0, 59, 78, 39)] (0, 59, 60, 21) rfl (fun z hz => absurd hz List.not_mem_nil) (by decide) (by decide) cl_L_21 ca_IndexOutOfBoundsException__IndexOutOfBoundsException (fun q => ?_)
      refine pw_astore (pc2 := 62) (L2 := [(4, Value.ref q), (0, Value.ref x), (1, Value.int p0), (2, Value.int p1), (3, Value.int 1)]) dL_release_60 rfl (by decide) (by first | exact rf_ref _ | exact rf_opt _ | exact rf_nul) rfl ?_
      refine pw_sipush (pc2 := 65) (v := (-1001)) dL_release_62 rfl (by decide) ?_
      refine pw_iret dL_release_65 rfl (by first | rfl | assumption | simp [narrow]) ?_
      exact Or.inr ⟨_, _, q9, by decide +kernel, rfl⟩
    · refine px_catch [(0, 59, 60, 21)] [(0, 59, 72, 15), (0, 59, 78, 39)] (0, 59, 66, 31) rfl (List.forall_mem_cons.mpr ⟨Or.inr ⟨by decide, _, cl_L_21, by decide +kernel⟩, (fun z hz => absurd hz List.not_mem_nil)⟩) (by decide) (by decide) cl_L_31 ca_NoSuchElementException__NoSuchElementException (fun q => ?_)
      refine pw_astore (pc2 := 68) (L2 := [(4, Value.ref q), (0, Value.ref x), (1, Value.int p0), (2, Value.int p1), (3, Value.int 1)]) dL_release_66 rfl (by decide) (by first | exact rf_ref _ | exact rf_opt _ | exact rf_nul) rfl ?_
      refine pw_sipush (pc2 := 71) (v := (-1002)) dL_release_68 rfl (by decide) ?_
      refine pw_iret dL_release_71 rfl (by first | rfl | assumption | simp [narrow]) ?_
      exact Or.inr ⟨_, _, q9, by decide +kernel, rfl⟩
  obtain ⟨v, rfl, hz⟩ := hQ _ _ q9
  rcases hz with rfl | rfl
  · refine pw_if_eq (tgt := 31) (pc2 := 27) dL_release_24 (by decide) rfl (fun _ => ?_) (fun c24 => by exact absurd (by decide) c24)
    refine pw_iconst (pc2 := 32) (v := 0) dL_release_31 rfl (by decide) ?_
    refine pw_goto (tgt := 59) dL_release_32 (by decide) ?_
    refine pw_iret dL_release_59 rfl (by first | rfl | assumption | simp [narrow]) ?_
    exact Or.inl ⟨_, q9, rfl⟩
  · refine pw_if_eq (tgt := 31) (pc2 := 27) dL_release_24 (by decide) rfl (fun c24 => by exact absurd c24 (by decide)) (fun _ => ?_)
    refine pw_iconst (pc2 := 28) (v := 1) dL_release_27 rfl (by decide) ?_
    refine pw_goto (tgt := 59) dL_release_28 (by decide) ?_
    refine pw_iret dL_release_59 rfl (by first | rfl | assumption | simp [narrow]) ?_
    exact Or.inl ⟨_, q9, rfl⟩
set_option maxHeartbeats 4000000 in
set_option maxRecDepth 100000 in
theorem w_rel2 (G : hG) (h : hp) {x : Nat} {p0 p1 : Int32} {k kc ks : Nat} {fs : List Value} {Qc : Option Value → hp → Prop} {Xc : String → hp → Prop} (hx : h x = some (oB 12 fs)) (hc : PMet G MX9_relock k kc ks [.ref x, .int p0, .int p1] h Qc Xc) (hQ : ∀ r h1, Qc r h1 → ∃ v, r = some (.int v)) (hX : ∀ C h1, Xc C h1 → C = xIO ∨ C = nsN ∨ C = xIS ∨ C = xUO) : PMet G ML_release (k + 1) (0 + kc) (0 + ks) [.ref x, .int p0, .int p1, .int 2] h (QV Qc Xc [(xIO, (-1001)), (nsN, (-1002)), (xIS, (-1003)), (xUO, (-1004))]) noX := by
  refine PMet.of (by decide +kernel) (Nat.le_of_ble_eq_true rfl) (fun d hd => ?_)
  refine PW.sub (L2 := [(0, Value.ref x), (1, Value.int p0), (2, Value.int p1), (3, Value.int 2)]) [0, 1, 2, 3] rfl ?_
  refine pw_iload_n (pc2 := 1) dL_release_0 rfl rfl 3 rfl ?_
  refine pw_if_ne (tgt := 13) (pc2 := 4) dL_release_1 (by decide) rfl (fun _ => ?_) (fun c1 => by exact absurd c1 (by decide))
  refine pw_iload_n (pc2 := 14) dL_release_13 rfl rfl 3 rfl ?_
  refine pw_iconst (pc2 := 15) (v := 1) dL_release_14 rfl (by decide) ?_
  refine pw_icmp_ne (tgt := 35) (pc2 := 18) dL_release_15 (by decide) rfl (fun _ => ?_) (fun c15 => by exact absurd c15 (by decide))
  refine pw_iload_n (pc2 := 36) dL_release_35 rfl rfl 3 rfl ?_
  refine pw_iconst (pc2 := 37) (v := 2) dL_release_36 rfl (by decide) ?_
  refine pw_icmp_ne (tgt := 49) (pc2 := 40) dL_release_37 (by decide) rfl (fun c37 => by exact absurd (by decide) c37) (fun _ => ?_)
  refine pw_aload_n (pc2 := 41) dL_release_40 rfl rfl 0 rfl (by first | exact rf_ref _ | exact rf_opt _ | exact rf_nul) ?_
  refine pw_iload_n (pc2 := 42) dL_release_41 rfl rfl 1 rfl ?_
  refine pw_iload_n (pc2 := 43) dL_release_42 rfl rfl 2 rfl ?_
  refine pw_callV (pc2 := 46) hc cs_L_90 rfl rfl hx dL_release_43 rfl (by omega) rfl (by first | decide | simp [cat_rf, Value.category]) (fun r9 h9 q9 => ?_) (fun Y h9 q9 => ?_)
  rotate_left
  · rcases hX Y h9 q9 with rfl | rfl | rfl | rfl
    · refine px_catch [] [(0, 59, 66, 31), (0, 59, 72, 15), (0, 59, 78, 39)] (0, 59, 60, 21) rfl (fun z hz => absurd hz List.not_mem_nil) (by decide) (by decide) cl_L_21 ca_IndexOutOfBoundsException__IndexOutOfBoundsException (fun q => ?_)
      refine pw_astore (pc2 := 62) (L2 := [(4, Value.ref q), (0, Value.ref x), (1, Value.int p0), (2, Value.int p1), (3, Value.int 2)]) dL_release_60 rfl (by decide) (by first | exact rf_ref _ | exact rf_opt _ | exact rf_nul) rfl ?_
      refine pw_sipush (pc2 := 65) (v := (-1001)) dL_release_62 rfl (by decide) ?_
      refine pw_iret dL_release_65 rfl (by first | rfl | assumption | simp [narrow]) ?_
      exact Or.inr ⟨_, _, q9, by decide +kernel, rfl⟩
    · refine px_catch [(0, 59, 60, 21)] [(0, 59, 72, 15), (0, 59, 78, 39)] (0, 59, 66, 31) rfl (List.forall_mem_cons.mpr ⟨Or.inr ⟨by decide, _, cl_L_21, by decide +kernel⟩, (fun z hz => absurd hz List.not_mem_nil)⟩) (by decide) (by decide) cl_L_31 ca_NoSuchElementException__NoSuchElementException (fun q => ?_)
      refine pw_astore (pc2 := 68) (L2 := [(4, Value.ref q), (0, Value.ref x), (1, Value.int p0), (2, Value.int p1), (3, Value.int 2)]) dL_release_66 rfl (by decide) (by first | exact rf_ref _ | exact rf_opt _ | exact rf_nul) rfl ?_
      refine pw_sipush (pc2 := 71) (v := (-1002)) dL_release_68 rfl (by decide) ?_
      refine pw_iret dL_release_71 rfl (by first | rfl | assumption | simp [narrow]) ?_
      exact Or.inr ⟨_, _, q9, by decide +kernel, rfl⟩
    · refine px_catch [(0, 59, 60, 21), (0, 59, 66, 31)] [(0, 59, 78, 39)] (0, 59, 72, 15) rfl (List.forall_mem_cons.mpr ⟨Or.inr ⟨by decide, _, cl_L_21, by decide +kernel⟩, (List.forall_mem_cons.mpr ⟨Or.inr ⟨by decide, _, cl_L_31, by decide +kernel⟩, (fun z hz => absurd hz List.not_mem_nil)⟩)⟩) (by decide) (by decide) cl_L_15 ca_IllegalStateException__IllegalStateException (fun q => ?_)
      refine pw_astore (pc2 := 74) (L2 := [(4, Value.ref q), (0, Value.ref x), (1, Value.int p0), (2, Value.int p1), (3, Value.int 2)]) dL_release_72 rfl (by decide) (by first | exact rf_ref _ | exact rf_opt _ | exact rf_nul) rfl ?_
      refine pw_sipush (pc2 := 77) (v := (-1003)) dL_release_74 rfl (by decide) ?_
      refine pw_iret dL_release_77 rfl (by first | rfl | assumption | simp [narrow]) ?_
      exact Or.inr ⟨_, _, q9, by decide +kernel, rfl⟩
    · refine px_catch [(0, 59, 60, 21), (0, 59, 66, 31), (0, 59, 72, 15)] [] (0, 59, 78, 39) rfl (List.forall_mem_cons.mpr ⟨Or.inr ⟨by decide, _, cl_L_21, by decide +kernel⟩, (List.forall_mem_cons.mpr ⟨Or.inr ⟨by decide, _, cl_L_31, by decide +kernel⟩, (List.forall_mem_cons.mpr ⟨Or.inr ⟨by decide, _, cl_L_15, by decide +kernel⟩, (fun z hz => absurd hz List.not_mem_nil)⟩)⟩)⟩) (by decide) (by decide) cl_L_39 ca_UnsupportedOperationException__UnsupportedOperationException (fun q => ?_)
      refine pw_astore (pc2 := 80) (L2 := [(4, Value.ref q), (0, Value.ref x), (1, Value.int p0), (2, Value.int p1), (3, Value.int 2)]) dL_release_78 rfl (by decide) (by first | exact rf_ref _ | exact rf_opt _ | exact rf_nul) rfl ?_
      refine pw_sipush (pc2 := 83) (v := (-1004)) dL_release_80 rfl (by decide) ?_
      refine pw_iret dL_release_83 rfl (by first | rfl | assumption | simp [narrow]) ?_
      exact Or.inr ⟨_, _, q9, by decide +kernel, rfl⟩
  obtain ⟨v, rfl⟩ := hQ _ _ q9
  refine pw_goto (tgt := 59) dL_release_46 (by decide) ?_
  refine pw_iret dL_release_59 rfl (by first | rfl | assumption | simp [narrow]) ?_
  exact Or.inl ⟨_, q9, rfl⟩
set_option maxHeartbeats 4000000 in
set_option maxRecDepth 100000 in
theorem w_relL (G : hG) (h : hp) {x : Nat} {p0 p1 p2 : Int32} {k kc ks : Nat} {fs : List Value} {Qc : Option Value → hp → Prop} {Xc : String → hp → Prop} (hx : h x = some (oB 12 fs)) (hc : PMet G MX9_locked k kc ks [.ref x, .int p0, .int p1, .int (p2 - 10)] h Qc Xc) (hQ : ∀ r h1, Qc r h1 → ∃ v, r = some (.int v)) (hX : ∀ C h1, Xc C h1 → C = xIO ∨ C = nsN) (hw0 : ¬ p2 = 0) (hw1 : ¬ p2 = 1) (hw2 : ¬ p2 = 2) : PMet G ML_release (k + 1) (0 + kc) (0 + ks) [.ref x, .int p0, .int p1, .int p2] h (QV Qc Xc [(xIO, (-1001)), (nsN, (-1002))]) noX := by
  refine PMet.of (by decide +kernel) (Nat.le_of_ble_eq_true rfl) (fun d hd => ?_)
  refine PW.sub (L2 := [(0, Value.ref x), (1, Value.int p0), (2, Value.int p1), (3, Value.int p2)]) [0, 1, 2, 3] rfl ?_
  refine pw_iload_n (pc2 := 1) dL_release_0 rfl rfl 3 rfl ?_
  refine pw_if_ne (tgt := 13) (pc2 := 4) dL_release_1 (by decide) rfl (fun _ => ?_) (fun c1 => by exact absurd c1 (hw0))
  refine pw_iload_n (pc2 := 14) dL_release_13 rfl rfl 3 rfl ?_
  refine pw_iconst (pc2 := 15) (v := 1) dL_release_14 rfl (by decide) ?_
  refine pw_icmp_ne (tgt := 35) (pc2 := 18) dL_release_15 (by decide) rfl (fun _ => ?_) (fun c15 => by exact absurd c15 (hw1))
  refine pw_iload_n (pc2 := 36) dL_release_35 rfl rfl 3 rfl ?_
  refine pw_iconst (pc2 := 37) (v := 2) dL_release_36 rfl (by decide) ?_
  refine pw_icmp_ne (tgt := 49) (pc2 := 40) dL_release_37 (by decide) rfl (fun _ => ?_) (fun c37 => by exact absurd c37 (hw2))
  refine pw_aload_n (pc2 := 50) dL_release_49 rfl rfl 0 rfl (by first | exact rf_ref _ | exact rf_opt _ | exact rf_nul) ?_
  refine pw_iload_n (pc2 := 51) dL_release_50 rfl rfl 1 rfl ?_
  refine pw_iload_n (pc2 := 52) dL_release_51 rfl rfl 2 rfl ?_
  refine pw_iload_n (pc2 := 53) dL_release_52 rfl rfl 3 rfl ?_
  refine pw_bipush (pc2 := 55) (v := 10) dL_release_53 rfl (by decide) ?_
  refine pw_isub (pc2 := 56) dL_release_55 rfl ?_
  refine pw_callV (pc2 := 59) hc cs_L_93 rfl rfl hx dL_release_56 rfl (by omega) rfl (by first | decide | simp [cat_rf, Value.category]) (fun r9 h9 q9 => ?_) (fun Y h9 q9 => ?_)
  rotate_left
  · rcases hX Y h9 q9 with rfl | rfl
    · refine px_catch [] [(0, 59, 66, 31), (0, 59, 72, 15), (0, 59, 78, 39)] (0, 59, 60, 21) rfl (fun z hz => absurd hz List.not_mem_nil) (by decide) (by decide) cl_L_21 ca_IndexOutOfBoundsException__IndexOutOfBoundsException (fun q => ?_)
      refine pw_astore (pc2 := 62) (L2 := [(4, Value.ref q), (0, Value.ref x), (1, Value.int p0), (2, Value.int p1), (3, Value.int p2)]) dL_release_60 rfl (by decide) (by first | exact rf_ref _ | exact rf_opt _ | exact rf_nul) rfl ?_
      refine pw_sipush (pc2 := 65) (v := (-1001)) dL_release_62 rfl (by decide) ?_
      refine pw_iret dL_release_65 rfl (by first | rfl | assumption | simp [narrow]) ?_
      exact Or.inr ⟨_, _, q9, by decide +kernel, rfl⟩
    · refine px_catch [(0, 59, 60, 21)] [(0, 59, 72, 15), (0, 59, 78, 39)] (0, 59, 66, 31) rfl (List.forall_mem_cons.mpr ⟨Or.inr ⟨by decide, _, cl_L_21, by decide +kernel⟩, (fun z hz => absurd hz List.not_mem_nil)⟩) (by decide) (by decide) cl_L_31 ca_NoSuchElementException__NoSuchElementException (fun q => ?_)
      refine pw_astore (pc2 := 68) (L2 := [(4, Value.ref q), (0, Value.ref x), (1, Value.int p0), (2, Value.int p1), (3, Value.int p2)]) dL_release_66 rfl (by decide) (by first | exact rf_ref _ | exact rf_opt _ | exact rf_nul) rfl ?_
      refine pw_sipush (pc2 := 71) (v := (-1002)) dL_release_68 rfl (by decide) ?_
      refine pw_iret dL_release_71 rfl (by first | rfl | assumption | simp [narrow]) ?_
      exact Or.inr ⟨_, _, q9, by decide +kernel, rfl⟩
  obtain ⟨v, rfl⟩ := hQ _ _ q9
  refine pw_iret dL_release_59 rfl (by first | rfl | assumption | simp [narrow]) ?_
  exact Or.inl ⟨_, q9, rfl⟩
set_option maxHeartbeats 4000000 in
set_option maxRecDepth 100000 in
theorem w_good (G : hG) (h : hp) {x : Nat} {k kc ks : Nat} {fs : List Value} {Qc : Option Value → hp → Prop} {Xc : String → hp → Prop} (hx : h x = some (oB 12 fs)) (hc : PMet G MX9_goodShare k kc ks [.ref x] h Qc Xc) (hQ : ∀ r h1, Qc r h1 → ∃ v, r = some (.float v)) (hX : ∀ C h1, Xc C h1 → C = xAR) : PMet G ML_good (k + 1) (0 + kc) (0 + ks) [.ref x] h (QVf Qc Xc) noX := by
  refine PMet.of (by decide +kernel) (Nat.le_of_ble_eq_true rfl) (fun d hd => ?_)
  refine PW.sub (L2 := [(0, Value.ref x)]) [0] rfl ?_
  refine pw_aload_n (pc2 := 1) dL_good_0 rfl rfl 0 rfl (by first | exact rf_ref _ | exact rf_opt _ | exact rf_nul) ?_
  refine pw_callV (pc2 := 4) hc cs_L_96 rfl rfl hx dL_good_1 rfl (by omega) rfl (by first | decide | simp [cat_rf, Value.category]) (fun r9 h9 q9 => ?_) (fun Y h9 q9 => ?_)
  rotate_left
  · obtain rfl := hX Y h9 q9
    refine px_catch [] [] (0, 4, 5, 100) rfl (fun z hz => absurd hz List.not_mem_nil) (by decide) (by decide) cl_L_100 ca_ArithmeticException__ArithmeticException (fun q => ?_)
    refine pw_astore_n (pc2 := 6) (L2 := [(1, Value.ref q), (0, Value.ref x)]) dL_good_5 rfl rfl (by decide) (by first | exact rf_ref _ | exact rf_opt _ | exact rf_nul) rfl ?_
    refine pw_ldcF (pc2 := 8) kcF_102 dL_good_6 rfl ?_
    refine pw_fret dL_good_8 rfl ?_
    exact Or.inr ⟨_, q9, rfl⟩
  obtain ⟨v, rfl⟩ := hQ _ _ q9
  refine pw_fret dL_good_4 rfl ?_
  exact Or.inl ⟨_, q9, rfl⟩
