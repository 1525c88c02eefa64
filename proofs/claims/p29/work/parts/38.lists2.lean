/-! lists: growing, adding; filling; counting bits -/
set_option maxHeartbeats 4000000 in
set_option maxRecDepth 100000 in
theorem c_newLen10 (G : hG) (h : hp)  : PMet G MJ8_newLength_cabcc 0 0 0 [.int (nI 10), .int 1, .int (nI 5)] h (det (some (.int (nI 15))) h) noX := by
  refine PMet.of (by decide +kernel) (Nat.le_of_ble_eq_true rfl) (fun d hd => ?_)
  refine PW.sub (L2 := [(0, Value.int (nI 10)), (1, Value.int 1), (2, Value.int (nI 5))]) [0, 1, 2] rfl ?_
  refine pw_iload_n (pc2 := 1) dJ8_newLength_cabcc_0 rfl rfl 0 rfl ?_
  refine pw_iload_n (pc2 := 2) dJ8_newLength_cabcc_1 rfl rfl 1 rfl ?_
  refine pw_iload_n (pc2 := 3) dJ8_newLength_cabcc_2 rfl rfl 2 rfl ?_
  refine pw_mmax (pc2 := 6) cs_J8_194 dJ8_newLength_cabcc_3 rfl (by first | decide | simp [cat_rf, Value.category]) ?_
  refine pw_iadd (pc2 := 7) dJ8_newLength_cabcc_6 rfl ?_
  refine pw_topi (fun v1 ev1 => ?_)
  refine pw_istore_n (pc2 := 8) (L2 := [(3, Value.int v1), (0, Value.int (nI 10)), (1, Value.int 1), (2, Value.int (nI 5))]) dJ8_newLength_cabcc_7 rfl rfl (by decide) rfl ?_
  refine pw_iconst (pc2 := 9) (v := 0) dJ8_newLength_cabcc_8 rfl (by decide) ?_
  refine pw_iload_n (pc2 := 10) dJ8_newLength_cabcc_9 rfl rfl 0 rfl ?_
  refine pw_icmp_ge (tgt := 21) (pc2 := 13) dJ8_newLength_cabcc_10 (by decide) rfl (fun c10 => by exact absurd c10 (by rw [ev1]; decide)) (fun _ => ?_)
  refine pw_iload_n (pc2 := 14) dJ8_newLength_cabcc_13 rfl rfl 0 rfl ?_
  refine pw_ldcI (pc2 := 16) kc_200 dJ8_newLength_cabcc_14 rfl ?_
  refine pw_icmp_gt (tgt := 21) (pc2 := 19) dJ8_newLength_cabcc_16 (by decide) rfl (fun c16 => by exact absurd c16 (by rw [ev1]; decide)) (fun _ => ?_)
  refine pw_iload_n (pc2 := 20) dJ8_newLength_cabcc_19 rfl rfl 0 rfl ?_
  refine pw_iret dJ8_newLength_cabcc_20 rfl (by first | rfl | assumption | simp [narrow]) ?_
  exact ⟨by rw [ev1]; decide, rfl⟩
set_option maxHeartbeats 4000000 in
set_option maxRecDepth 100000 in
theorem c_copyOf3_10 (G : hG) (h : hp) {ed : Nat} {g : Nat → Option Nat} (he : h ed = some (aR tObj 10 g)) {cj N2 : Nat} {C2 : String} {T2 : u_T} (hcl : vwCl[cj]? = some (C2, T2, N2)) (hca : Cond.castable C2 "java/lang/Object" ∈ nws) (hel : ∀ i : Nat, i < 10 → ∀ y : Nat, g i = some y → ∃ gs, h y = some (.inr (cj, gs))) : PMet G MJ7_copyOf_6403c 1 1 15 [.ref ed, .int (nI 15), .ref (miO G)] h (fun r h2 => ∃ q : Nat, r = some (.ref q) ∧ (h q = none ∧ q ≠ G.2.2) ∧ h2 = va_up h q (some (aR tObj 15 (va_cpy g (fun _ => none) 0 0 10)))) noX := by
  refine PMet.of (by decide +kernel) (Nat.le_of_ble_eq_true rfl) (fun d hd => ?_)
  refine PW.sub (L2 := [(0, Value.ref ed), (1, Value.int (nI 15)), (2, Value.ref (miO G))]) [0, 1, 2] rfl ?_
  refine pw_aload_n (pc2 := 1) dJ7_copyOf_6403c_0 rfl rfl 2 rfl (by first | exact rf_ref _ | exact rf_opt _ | exact rf_nul) ?_
  refine pw_ldcMir (pc2 := 3) cl_J7_110 dJ7_copyOf_6403c_1 rfl ?_
  refine pw_acmp_ne (rx := (some (miO G))) (ry := (some (miO G))) (tgt := 13) (pc2 := 6) dJ7_copyOf_6403c_3 (by decide) rfl (fun c3 => by exact absurd (rfl) c3) (fun _ => ?_)
  refine pw_iload_n (pc2 := 7) dJ7_copyOf_6403c_6 rfl rfl 1 rfl ?_
  refine pw_anewarr (pc2 := 10) (Nn := 15) 5 rfl (fun U hU => hU.2.2.1.2.1) cl_J7_2 (by decide) (by decide) (by decide) dJ7_copyOf_6403c_7 rfl (fun q hq gq => ?_)
  refine pw_goto (tgt := 24) dJ7_copyOf_6403c_10 (by decide) ?_
  refine pw_astore_n (pc2 := 25) (L2 := [(3, Value.ref q), (0, Value.ref ed), (1, Value.int (nI 15)), (2, Value.ref (miO G))]) dJ7_copyOf_6403c_24 rfl rfl (by decide) (by first | exact rf_ref _ | exact rf_opt _ | exact rf_nul) rfl ?_
  refine pw_aload_n (pc2 := 26) dJ7_copyOf_6403c_25 rfl rfl 1 rfl (by first | exact rf_ref _ | exact rf_opt _ | exact rf_nul) ?_
  refine pw_iconst (pc2 := 27) (v := 0) dJ7_copyOf_6403c_26 rfl (by decide) ?_
  refine pw_aload_n (pc2 := 28) dJ7_copyOf_6403c_27 rfl rfl 0 rfl (by first | exact rf_ref _ | exact rf_opt _ | exact rf_nul) ?_
  refine pw_iconst (pc2 := 29) (v := 0) dJ7_copyOf_6403c_28 rfl (by decide) ?_
  refine pw_aload_n (pc2 := 30) dJ7_copyOf_6403c_29 rfl rfl 1 rfl (by first | exact rf_ref _ | exact rf_opt _ | exact rf_nul) ?_
  refine pw_alen (pc2 := 31) 5 rfl ((va_up_ne _ _ (ne_nw he hq)).trans he) rfl dJ7_copyOf_6403c_30 rfl ?_
  refine pw_iload_n (pc2 := 32) dJ7_copyOf_6403c_31 rfl rfl 2 rfl ?_
  refine pw_mmin (pc2 := 35) cs_J7_304 dJ7_copyOf_6403c_32 rfl (by first | decide | simp [cat_rf, Value.category]) ?_
  refine pw_topE (show (if nI 15 < nI 10 then nI 15 else nI 10) = nI 10 by decide) ?_
  refine pw_copyq (n := 10) (n0 := 10) (n1 := 15) ac_1 ac_2 ac_3 ac_4 hcl hca ((va_up_ne _ _ (ne_nw he hq)).trans he) (va_up_self _ _ _) (by decide) (by decide) (by decide) (by decide) (by decide) (fun i hi y hy => ?_) (by first | decide | simp [cat_rf, Value.category]) dJ7_copyOf_6403c_35 rfl ?_
  · obtain ⟨gs, hgs⟩ := hel i hi y hy
    exact ⟨gs, (va_up_ne _ _ (ne_nw hgs hq)).trans hgs⟩
  refine pw_aload_n (pc2 := 39) dJ7_copyOf_6403c_38 rfl rfl 0 rfl (by first | exact rf_ref _ | exact rf_opt _ | exact rf_nul) ?_
  refine pw_aret dJ7_copyOf_6403c_39 rfl (by first | exact Or.inl ⟨_, rfl⟩ | exact Or.inr ⟨_, rfl⟩) (by first | exact rf_ref _ | exact rf_opt _ | exact rf_nul) ?_
  exact ⟨q, rfl, ⟨hq, gq⟩, up_up _ _ _ _⟩
set_option maxHeartbeats 4000000 in
set_option maxRecDepth 100000 in
theorem c_copyOf2_10 (G : hG) (h : hp) {ed : Nat} {g : Nat → Option Nat} (he : h ed = some (aR tObj 10 g)) {cj N2 : Nat} {C2 : String} {T2 : u_T} (hcl : vwCl[cj]? = some (C2, T2, N2)) (hca : Cond.castable C2 "java/lang/Object" ∈ nws) (hel : ∀ i : Nat, i < 10 → ∀ y : Nat, g i = some y → ∃ gs, h y = some (.inr (cj, gs))) : PMet G MJ7_copyOf_1904c 2 1 15 [.ref ed, .int (nI 15)] h (fun r h2 => ∃ q : Nat, r = some (.ref q) ∧ (h q = none ∧ q ≠ G.2.2) ∧ h2 = va_up h q (some (aR tObj 15 (va_cpy g (fun _ => none) 0 0 10)))) noX := by
  refine PMet.of (by decide +kernel) (Nat.le_of_ble_eq_true rfl) (fun d hd => ?_)
  refine PW.sub (L2 := [(0, Value.ref ed), (1, Value.int (nI 15))]) [0, 1] rfl ?_
  refine pw_aload_n (pc2 := 1) dJ7_copyOf_1904c_0 rfl rfl 0 rfl (by first | exact rf_ref _ | exact rf_opt _ | exact rf_nul) ?_
  refine pw_iload_n (pc2 := 2) dJ7_copyOf_1904c_1 rfl rfl 1 rfl ?_
  refine pw_aload_n (pc2 := 3) dJ7_copyOf_1904c_2 rfl rfl 0 rfl (by first | exact rf_ref _ | exact rf_opt _ | exact rf_nul) ?_
  refine pw_getClass (pc2 := 6) gc_1 gc_2 gc_3 gc_4 gc_5 he (by first | decide | omega) (by first | decide | simp [cat_rf, Value.category]) dJ7_copyOf_1904c_3 rfl ?_
  refine pw_callS (pc2 := 9) (c_copyOf3_10 G _ he hcl hca hel) cs_J7_300 rfl dJ7_copyOf_1904c_6 rfl (by omega) rfl (by first | decide | simp [cat_rf, Value.category]) (fun r9 h9 q9 => ?_) (fun Y h9 q9 => q9.elim)
  obtain ⟨q, rfl, hq, rfl⟩ := q9
  refine pw_aret dJ7_copyOf_1904c_9 rfl (by first | exact Or.inl ⟨_, rfl⟩ | exact Or.inr ⟨_, rfl⟩) (by first | exact rf_ref _ | exact rf_opt _ | exact rf_nul) ?_
  exact ⟨q, rfl, hq, rfl⟩
set_option maxHeartbeats 4000000 in
set_option maxRecDepth 100000 in
theorem c_grow10 (G : hG) (h : hp) {l ed : Nat} {mc : Int32} {f : Nat → Nat} {g : Nat → Option Nat} (hl : isLx h l ed 10 10 mc f g) {cj N2 : Nat} {C2 : String} {T2 : u_T} (hcl : vwCl[cj]? = some (C2, T2, N2)) (hca : Cond.castable C2 "java/lang/Object" ∈ nws) (hel : ∀ i : Nat, i < 10 → ∃ gs, h (f i) = some (.inr (cj, gs))) : PMet G MJx4a65c_grow_92f84 3 1 40 [.ref l, .int (nI (10 + 1))] h (QGr G h l 10 mc f) noX := by
  have hel2 : ∀ i : Nat, i < 10 → ∀ y : Nat, g i = some y → ∃ gs, h y = some (.inr (cj, gs)) := by
    intro i hi y hy
    rw [hl.2.2.2.2 i hi] at hy
    cases hy
    exact hel i hi
  refine PMet.of (by decide +kernel) (Nat.le_of_ble_eq_true rfl) (fun d hd => ?_)
  refine PW.sub (L2 := [(0, Value.ref l), (1, Value.int (nI (10 + 1)))]) [0, 1] rfl ?_
  refine pw_aload_n (pc2 := 1) dJx4a65c_grow_92f84_0 rfl rfl 0 rfl (by first | exact rf_ref _ | exact rf_opt _ | exact rf_nul) ?_
  refine pw_get (pc2 := 4) kJx4a65c (k := 1) (by decide) rfl fl_Jx4a65c_9 hl.1 rfl dJx4a65c_grow_92f84_1 rfl ?_
  refine pw_alen (pc2 := 5) 5 rfl hl.2.1 rfl dJx4a65c_grow_92f84_4 rfl ?_
  refine pw_topi (fun v1 ev1 => ?_)
  refine pw_istore_n (pc2 := 6) (L2 := [(2, Value.int v1), (0, Value.ref l), (1, Value.int (nI (10 + 1)))]) dJx4a65c_grow_92f84_5 rfl rfl (by decide) rfl ?_
  refine pw_iload_n (pc2 := 7) dJx4a65c_grow_92f84_6 rfl rfl 0 rfl ?_
  refine pw_if_gt (tgt := 20) (pc2 := 10) dJx4a65c_grow_92f84_7 (by decide) rfl (fun _ => ?_) (fun c7 => by exact absurd (by rw [ev1]; exact (by decide : (0 : Int32) < Int32.ofNat 10)) c7)
  obtain rfl : v1 = nI 10 := ev1
  refine pw_iload_n (pc2 := 21) dJx4a65c_grow_92f84_20 rfl rfl 0 rfl ?_
  refine pw_iload_n (pc2 := 22) dJx4a65c_grow_92f84_21 rfl rfl 2 rfl ?_
  refine pw_iload_n (pc2 := 23) dJx4a65c_grow_92f84_22 rfl rfl 0 rfl ?_
  refine pw_isub (pc2 := 24) dJx4a65c_grow_92f84_23 rfl ?_
  refine pw_topE (show nI (10 + 1) - nI 10 = 1 by decide) ?_
  refine pw_iload_n (pc2 := 25) dJx4a65c_grow_92f84_24 rfl rfl 0 rfl ?_
  refine pw_iconst (pc2 := 26) (v := 1) dJx4a65c_grow_92f84_25 rfl (by decide) ?_
  refine pw_ishr (pc2 := 27) dJx4a65c_grow_92f84_26 rfl ?_
  refine pw_topE (show nI 10 >>> ((1 : Int32) &&& 31) = nI 5 by decide) ?_
  refine pw_callS1 (pc2 := 30) (c_newLen10 G _) cs_Jx4a65c_73 rfl dJx4a65c_grow_92f84_27 rfl (by omega) rfl (by first | decide | simp [cat_rf, Value.category]) ?_
  refine pw_istore_n (pc2 := 31) (L2 := [(3, Value.int (nI 15)), (2, Value.int (nI 10)), (0, Value.ref l), (1, Value.int (nI (10 + 1)))]) dJx4a65c_grow_92f84_30 rfl rfl (by decide) rfl ?_
  refine pw_aload_n (pc2 := 32) dJx4a65c_grow_92f84_31 rfl rfl 2 rfl (by first | exact rf_ref _ | exact rf_opt _ | exact rf_nul) ?_
  refine pw_aload_n (pc2 := 33) dJx4a65c_grow_92f84_32 rfl rfl 2 rfl (by first | exact rf_ref _ | exact rf_opt _ | exact rf_nul) ?_
  refine pw_get (pc2 := 36) kJx4a65c (k := 1) (by decide) rfl fl_Jx4a65c_9 hl.1 rfl dJx4a65c_grow_92f84_33 rfl ?_
  refine pw_iload_n (pc2 := 37) dJx4a65c_grow_92f84_36 rfl rfl 0 rfl ?_
  refine pw_callS (pc2 := 40) (c_copyOf2_10 G _ hl.2.1 hcl hca hel2) cs_Jx4a65c_66 rfl dJx4a65c_grow_92f84_37 rfl (by omega) rfl (by first | decide | simp [cat_rf, Value.category]) (fun r9 h9 q9 => ?_) (fun Y h9 q9 => q9.elim)
  obtain ⟨e2, rfl, ⟨he2, ge2⟩, rfl⟩ := q9
  refine pw_dup_x1 (pc2 := 41) dJx4a65c_grow_92f84_40 rfl (by first | rfl | exact cat_rf _) (by first | rfl | exact cat_rf _) ?_
  refine pw_put (pc2 := 44) kJx4a65c (k := 1) (by decide) rfl rfl fl_Jx4a65c_9 ((va_up_ne _ _ (ne_nw hl.1 he2)).trans hl.1) (by first | decide | simp) (by first | rfl | exact nar_rf _ _) (by first | rfl | exact fit_rf _ _) dJx4a65c_grow_92f84_41 rfl ?_
  refine pw_aret dJx4a65c_grow_92f84_44 rfl (by first | exact Or.inl ⟨_, rfl⟩ | exact Or.inr ⟨_, rfl⟩) (by first | exact rf_ref _ | exact rf_opt _ | exact rf_nul) ?_
  exact ⟨e2, 15, _, rfl, ⟨⟨he2, ge2⟩, by unfold eC; decide⟩, rfl, by decide, by decide, fun i hi => by rw [← hl.2.2.2.2 i hi]; simp [va_cpy, hi]⟩
set_option maxHeartbeats 4000000 in
set_option maxRecDepth 100000 in
theorem c_newLen15 (G : hG) (h : hp)  : PMet G MJ8_newLength_cabcc 0 0 0 [.int (nI 15), .int 1, .int (nI 7)] h (det (some (.int (nI 22))) h) noX := by
  refine PMet.of (by decide +kernel) (Nat.le_of_ble_eq_true rfl) (fun d hd => ?_)
  refine PW.sub (L2 := [(0, Value.int (nI 15)), (1, Value.int 1), (2, Value.int (nI 7))]) [0, 1, 2] rfl ?_
  refine pw_iload_n (pc2 := 1) dJ8_newLength_cabcc_0 rfl rfl 0 rfl ?_
  refine pw_iload_n (pc2 := 2) dJ8_newLength_cabcc_1 rfl rfl 1 rfl ?_
  refine pw_iload_n (pc2 := 3) dJ8_newLength_cabcc_2 rfl rfl 2 rfl ?_
  refine pw_mmax (pc2 := 6) cs_J8_194 dJ8_newLength_cabcc_3 rfl (by first | decide | simp [cat_rf, Value.category]) ?_
  refine pw_iadd (pc2 := 7) dJ8_newLength_cabcc_6 rfl ?_
  refine pw_topi (fun v1 ev1 => ?_)
  refine pw_istore_n (pc2 := 8) (L2 := [(3, Value.int v1), (0, Value.int (nI 15)), (1, Value.int 1), (2, Value.int (nI 7))]) dJ8_newLength_cabcc_7 rfl rfl (by decide) rfl ?_
  refine pw_iconst (pc2 := 9) (v := 0) dJ8_newLength_cabcc_8 rfl (by decide) ?_
  refine pw_iload_n (pc2 := 10) dJ8_newLength_cabcc_9 rfl rfl 0 rfl ?_
  refine pw_icmp_ge (tgt := 21) (pc2 := 13) dJ8_newLength_cabcc_10 (by decide) rfl (fun c10 => by exact absurd c10 (by rw [ev1]; decide)) (fun _ => ?_)
  refine pw_iload_n (pc2 := 14) dJ8_newLength_cabcc_13 rfl rfl 0 rfl ?_
  refine pw_ldcI (pc2 := 16) kc_200 dJ8_newLength_cabcc_14 rfl ?_
  refine pw_icmp_gt (tgt := 21) (pc2 := 19) dJ8_newLength_cabcc_16 (by decide) rfl (fun c16 => by exact absurd c16 (by rw [ev1]; decide)) (fun _ => ?_)
  refine pw_iload_n (pc2 := 20) dJ8_newLength_cabcc_19 rfl rfl 0 rfl ?_
  refine pw_iret dJ8_newLength_cabcc_20 rfl (by first | rfl | assumption | simp [narrow]) ?_
  exact ⟨by rw [ev1]; decide, rfl⟩
set_option maxHeartbeats 4000000 in
set_option maxRecDepth 100000 in
theorem c_copyOf3_15 (G : hG) (h : hp) {ed : Nat} {g : Nat → Option Nat} (he : h ed = some (aR tObj 15 g)) {cj N2 : Nat} {C2 : String} {T2 : u_T} (hcl : vwCl[cj]? = some (C2, T2, N2)) (hca : Cond.castable C2 "java/lang/Object" ∈ nws) (hel : ∀ i : Nat, i < 15 → ∀ y : Nat, g i = some y → ∃ gs, h y = some (.inr (cj, gs))) : PMet G MJ7_copyOf_6403c 1 1 22 [.ref ed, .int (nI 22), .ref (miO G)] h (fun r h2 => ∃ q : Nat, r = some (.ref q) ∧ (h q = none ∧ q ≠ G.2.2) ∧ h2 = va_up h q (some (aR tObj 22 (va_cpy g (fun _ => none) 0 0 15)))) noX := by
  refine PMet.of (by decide +kernel) (Nat.le_of_ble_eq_true rfl) (fun d hd => ?_)
  refine PW.sub (L2 := [(0, Value.ref ed), (1, Value.int (nI 22)), (2, Value.ref (miO G))]) [0, 1, 2] rfl ?_
  refine pw_aload_n (pc2 := 1) dJ7_copyOf_6403c_0 rfl rfl 2 rfl (by first | exact rf_ref _ | exact rf_opt _ | exact rf_nul) ?_
  refine pw_ldcMir (pc2 := 3) cl_J7_110 dJ7_copyOf_6403c_1 rfl ?_
  refine pw_acmp_ne (rx := (some (miO G))) (ry := (some (miO G))) (tgt := 13) (pc2 := 6) dJ7_copyOf_6403c_3 (by decide) rfl (fun c3 => by exact absurd (rfl) c3) (fun _ => ?_)
  refine pw_iload_n (pc2 := 7) dJ7_copyOf_6403c_6 rfl rfl 1 rfl ?_
  refine pw_anewarr (pc2 := 10) (Nn := 22) 5 rfl (fun U hU => hU.2.2.1.2.1) cl_J7_2 (by decide) (by decide) (by decide) dJ7_copyOf_6403c_7 rfl (fun q hq gq => ?_)
  refine pw_goto (tgt := 24) dJ7_copyOf_6403c_10 (by decide) ?_
  refine pw_astore_n (pc2 := 25) (L2 := [(3, Value.ref q), (0, Value.ref ed), (1, Value.int (nI 22)), (2, Value.ref (miO G))]) dJ7_copyOf_6403c_24 rfl rfl (by decide) (by first | exact rf_ref _ | exact rf_opt _ | exact rf_nul) rfl ?_
  refine pw_aload_n (pc2 := 26) dJ7_copyOf_6403c_25 rfl rfl 1 rfl (by first | exact rf_ref _ | exact rf_opt _ | exact rf_nul) ?_
  refine pw_iconst (pc2 := 27) (v := 0) dJ7_copyOf_6403c_26 rfl (by decide) ?_
  refine pw_aload_n (pc2 := 28) dJ7_copyOf_6403c_27 rfl rfl 0 rfl (by first | exact rf_ref _ | exact rf_opt _ | exact rf_nul) ?_
  refine pw_iconst (pc2 := 29) (v := 0) dJ7_copyOf_6403c_28 rfl (by decide) ?_
  refine pw_aload_n (pc2 := 30) dJ7_copyOf_6403c_29 rfl rfl 1 rfl (by first | exact rf_ref _ | exact rf_opt _ | exact rf_nul) ?_
  refine pw_alen (pc2 := 31) 5 rfl ((va_up_ne _ _ (ne_nw he hq)).trans he) rfl dJ7_copyOf_6403c_30 rfl ?_
  refine pw_iload_n (pc2 := 32) dJ7_copyOf_6403c_31 rfl rfl 2 rfl ?_
  refine pw_mmin (pc2 := 35) cs_J7_304 dJ7_copyOf_6403c_32 rfl (by first | decide | simp [cat_rf, Value.category]) ?_
  refine pw_topE (show (if nI 22 < nI 15 then nI 22 else nI 15) = nI 15 by decide) ?_
  refine pw_copyq (n := 15) (n0 := 15) (n1 := 22) ac_1 ac_2 ac_3 ac_4 hcl hca ((va_up_ne _ _ (ne_nw he hq)).trans he) (va_up_self _ _ _) (by decide) (by decide) (by decide) (by decide) (by decide) (fun i hi y hy => ?_) (by first | decide | simp [cat_rf, Value.category]) dJ7_copyOf_6403c_35 rfl ?_
  · obtain ⟨gs, hgs⟩ := hel i hi y hy
    exact ⟨gs, (va_up_ne _ _ (ne_nw hgs hq)).trans hgs⟩
  refine pw_aload_n (pc2 := 39) dJ7_copyOf_6403c_38 rfl rfl 0 rfl (by first | exact rf_ref _ | exact rf_opt _ | exact rf_nul) ?_
  refine pw_aret dJ7_copyOf_6403c_39 rfl (by first | exact Or.inl ⟨_, rfl⟩ | exact Or.inr ⟨_, rfl⟩) (by first | exact rf_ref _ | exact rf_opt _ | exact rf_nul) ?_
  exact ⟨q, rfl, ⟨hq, gq⟩, up_up _ _ _ _⟩
set_option maxHeartbeats 4000000 in
set_option maxRecDepth 100000 in
theorem c_copyOf2_15 (G : hG) (h : hp) {ed : Nat} {g : Nat → Option Nat} (he : h ed = some (aR tObj 15 g)) {cj N2 : Nat} {C2 : String} {T2 : u_T} (hcl : vwCl[cj]? = some (C2, T2, N2)) (hca : Cond.castable C2 "java/lang/Object" ∈ nws) (hel : ∀ i : Nat, i < 15 → ∀ y : Nat, g i = some y → ∃ gs, h y = some (.inr (cj, gs))) : PMet G MJ7_copyOf_1904c 2 1 22 [.ref ed, .int (nI 22)] h (fun r h2 => ∃ q : Nat, r = some (.ref q) ∧ (h q = none ∧ q ≠ G.2.2) ∧ h2 = va_up h q (some (aR tObj 22 (va_cpy g (fun _ => none) 0 0 15)))) noX := by
  refine PMet.of (by decide +kernel) (Nat.le_of_ble_eq_true rfl) (fun d hd => ?_)
  refine PW.sub (L2 := [(0, Value.ref ed), (1, Value.int (nI 22))]) [0, 1] rfl ?_
  refine pw_aload_n (pc2 := 1) dJ7_copyOf_1904c_0 rfl rfl 0 rfl (by first | exact rf_ref _ | exact rf_opt _ | exact rf_nul) ?_
  refine pw_iload_n (pc2 := 2) dJ7_copyOf_1904c_1 rfl rfl 1 rfl ?_
  refine pw_aload_n (pc2 := 3) dJ7_copyOf_1904c_2 rfl rfl 0 rfl (by first | exact rf_ref _ | exact rf_opt _ | exact rf_nul) ?_
  refine pw_getClass (pc2 := 6) gc_1 gc_2 gc_3 gc_4 gc_5 he (by first | decide | omega) (by first | decide | simp [cat_rf, Value.category]) dJ7_copyOf_1904c_3 rfl ?_
  refine pw_callS (pc2 := 9) (c_copyOf3_15 G _ he hcl hca hel) cs_J7_300 rfl dJ7_copyOf_1904c_6 rfl (by omega) rfl (by first | decide | simp [cat_rf, Value.category]) (fun r9 h9 q9 => ?_) (fun Y h9 q9 => q9.elim)
  obtain ⟨q, rfl, hq, rfl⟩ := q9
  refine pw_aret dJ7_copyOf_1904c_9 rfl (by first | exact Or.inl ⟨_, rfl⟩ | exact Or.inr ⟨_, rfl⟩) (by first | exact rf_ref _ | exact rf_opt _ | exact rf_nul) ?_
  exact ⟨q, rfl, hq, rfl⟩
set_option maxHeartbeats 4000000 in
set_option maxRecDepth 100000 in
theorem c_grow15 (G : hG) (h : hp) {l ed : Nat} {mc : Int32} {f : Nat → Nat} {g : Nat → Option Nat} (hl : isLx h l ed 15 15 mc f g) {cj N2 : Nat} {C2 : String} {T2 : u_T} (hcl : vwCl[cj]? = some (C2, T2, N2)) (hca : Cond.castable C2 "java/lang/Object" ∈ nws) (hel : ∀ i : Nat, i < 15 → ∃ gs, h (f i) = some (.inr (cj, gs))) : PMet G MJx4a65c_grow_92f84 3 1 40 [.ref l, .int (nI (15 + 1))] h (QGr G h l 15 mc f) noX := by
  have hel2 : ∀ i : Nat, i < 15 → ∀ y : Nat, g i = some y → ∃ gs, h y = some (.inr (cj, gs)) := by
    intro i hi y hy
    rw [hl.2.2.2.2 i hi] at hy
    cases hy
    exact hel i hi
  refine PMet.of (by decide +kernel) (Nat.le_of_ble_eq_true rfl) (fun d hd => ?_)
  refine PW.sub (L2 := [(0, Value.ref l), (1, Value.int (nI (15 + 1)))]) [0, 1] rfl ?_
  refine pw_aload_n (pc2 := 1) dJx4a65c_grow_92f84_0 rfl rfl 0 rfl (by first | exact rf_ref _ | exact rf_opt _ | exact rf_nul) ?_
  refine pw_get (pc2 := 4) kJx4a65c (k := 1) (by decide) rfl fl_Jx4a65c_9 hl.1 rfl dJx4a65c_grow_92f84_1 rfl ?_
  refine pw_alen (pc2 := 5) 5 rfl hl.2.1 rfl dJx4a65c_grow_92f84_4 rfl ?_
  refine pw_topi (fun v1 ev1 => ?_)
  refine pw_istore_n (pc2 := 6) (L2 := [(2, Value.int v1), (0, Value.ref l), (1, Value.int (nI (15 + 1)))]) dJx4a65c_grow_92f84_5 rfl rfl (by decide) rfl ?_
  refine pw_iload_n (pc2 := 7) dJx4a65c_grow_92f84_6 rfl rfl 0 rfl ?_
  refine pw_if_gt (tgt := 20) (pc2 := 10) dJx4a65c_grow_92f84_7 (by decide) rfl (fun _ => ?_) (fun c7 => by exact absurd (by rw [ev1]; exact (by decide : (0 : Int32) < Int32.ofNat 15)) c7)
  obtain rfl : v1 = nI 15 := ev1
  refine pw_iload_n (pc2 := 21) dJx4a65c_grow_92f84_20 rfl rfl 0 rfl ?_
  refine pw_iload_n (pc2 := 22) dJx4a65c_grow_92f84_21 rfl rfl 2 rfl ?_
  refine pw_iload_n (pc2 := 23) dJx4a65c_grow_92f84_22 rfl rfl 0 rfl ?_
  refine pw_isub (pc2 := 24) dJx4a65c_grow_92f84_23 rfl ?_
  refine pw_topE (show nI (15 + 1) - nI 15 = 1 by decide) ?_
  refine pw_iload_n (pc2 := 25) dJx4a65c_grow_92f84_24 rfl rfl 0 rfl ?_
  refine pw_iconst (pc2 := 26) (v := 1) dJx4a65c_grow_92f84_25 rfl (by decide) ?_
  refine pw_ishr (pc2 := 27) dJx4a65c_grow_92f84_26 rfl ?_
  refine pw_topE (show nI 15 >>> ((1 : Int32) &&& 31) = nI 7 by decide) ?_
  refine pw_callS1 (pc2 := 30) (c_newLen15 G _) cs_Jx4a65c_73 rfl dJx4a65c_grow_92f84_27 rfl (by omega) rfl (by first | decide | simp [cat_rf, Value.category]) ?_
  refine pw_istore_n (pc2 := 31) (L2 := [(3, Value.int (nI 22)), (2, Value.int (nI 15)), (0, Value.ref l), (1, Value.int (nI (15 + 1)))]) dJx4a65c_grow_92f84_30 rfl rfl (by decide) rfl ?_
  refine pw_aload_n (pc2 := 32) dJx4a65c_grow_92f84_31 rfl rfl 2 rfl (by first | exact rf_ref _ | exact rf_opt _ | exact rf_nul) ?_
  refine pw_aload_n (pc2 := 33) dJx4a65c_grow_92f84_32 rfl rfl 2 rfl (by first | exact rf_ref _ | exact rf_opt _ | exact rf_nul) ?_
  refine pw_get (pc2 := 36) kJx4a65c (k := 1) (by decide) rfl fl_Jx4a65c_9 hl.1 rfl dJx4a65c_grow_92f84_33 rfl ?_
  refine pw_iload_n (pc2 := 37) dJx4a65c_grow_92f84_36 rfl rfl 0 rfl ?_
  refine pw_callS (pc2 := 40) (c_copyOf2_15 G _ hl.2.1 hcl hca hel2) cs_Jx4a65c_66 rfl dJx4a65c_grow_92f84_37 rfl (by omega) rfl (by first | decide | simp [cat_rf, Value.category]) (fun r9 h9 q9 => ?_) (fun Y h9 q9 => q9.elim)
  obtain ⟨e2, rfl, ⟨he2, ge2⟩, rfl⟩ := q9
  refine pw_dup_x1 (pc2 := 41) dJx4a65c_grow_92f84_40 rfl (by first | rfl | exact cat_rf _) (by first | rfl | exact cat_rf _) ?_
  refine pw_put (pc2 := 44) kJx4a65c (k := 1) (by decide) rfl rfl fl_Jx4a65c_9 ((va_up_ne _ _ (ne_nw hl.1 he2)).trans hl.1) (by first | decide | simp) (by first | rfl | exact nar_rf _ _) (by first | rfl | exact fit_rf _ _) dJx4a65c_grow_92f84_41 rfl ?_
  refine pw_aret dJx4a65c_grow_92f84_44 rfl (by first | exact Or.inl ⟨_, rfl⟩ | exact Or.inr ⟨_, rfl⟩) (by first | exact rf_ref _ | exact rf_opt _ | exact rf_nul) ?_
  exact ⟨e2, 22, _, rfl, ⟨⟨he2, ge2⟩, by unfold eC; decide⟩, rfl, by decide, by decide, fun i hi => by rw [← hl.2.2.2.2 i hi]; simp [va_cpy, hi]⟩
