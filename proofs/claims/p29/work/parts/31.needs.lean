/-! PackageForge$Needs: ranges of versions -/
/-- the needs at nd, their rows at a and b: the least and the greatest version of each package -/
abbrev isN (h : hp) (nd a b : Nat) (le gr : Nat → Int32) : Prop := h nd = some (oB 6 [.ref a, .ref b]) ∧ h a = some (aI 6 le) ∧ h b = some (aI 6 gr) ∧ a ≠ b
set_option maxHeartbeats 4000000 in
set_option maxRecDepth 100000 in
theorem c_has (G : hG) (h : hp) {nd a b : Nat} {le gr : Nat → Int32} (hn : isN h nd a b le gr) {i : Nat} (hi : i < 6) : PMet G MX3_has 1 0 0 [.ref nd, .int (nI i)] h (bR (¬ gr i = 0) h) noX := by
  refine PMet.of rfl (Nat.le_of_ble_eq_true rfl) (fun d hd => ?_)
  refine PW.sub (L2 := [(0, Value.ref nd), (1, Value.int (nI i))]) [0, 1] rfl ?_
  refine pw_iload_n (pc2 := 1) dX3_has_0 rfl rfl 1 rfl ?_
  refine pw_callN1 (pc2 := 4) (c_pix G _ hi) cs_X3_18 rfl rfl dX3_has_1 rfl (by omega) rfl (by first | decide | simp [cat_rf, Value.category]) ?_
  refine pw_if_eq (tgt := 20) (pc2 := 7) dX3_has_4 (by decide) rfl (fun c4 => by exact absurd c4 (by decide)) (fun _ => ?_)
  refine pw_aload_n (pc2 := 8) dX3_has_7 rfl rfl 0 rfl (by first | exact rf_ref _ | exact rf_opt _ | exact rf_nul) ?_
  refine pw_get (pc2 := 11) kX3 (k := 1) (by decide) rfl fl_X3_15 hn.1 rfl dX3_has_8 rfl ?_
  refine pw_iload_n (pc2 := 12) dX3_has_11 rfl rfl 1 rfl ?_
  refine pw_ialdN (pc2 := 13) hn.2.2.1 (by first | assumption | omega) (by omega) dX3_has_12 rfl ?_
  refine pw_if_eq (tgt := 20) (pc2 := 16) dX3_has_13 (by decide) rfl (fun c13 => ?_) (fun c13 => ?_)
  · refine pw_iconst (pc2 := 21) (v := 0) dX3_has_20 rfl (by decide) ?_
    refine pw_iret dX3_has_21 rfl (by first | rfl | assumption | simp [narrow]) ?_
    exact bR_0 (fun q => q c13)
  · refine pw_iconst (pc2 := 17) (v := 1) dX3_has_16 rfl (by decide) ?_
    refine pw_goto (tgt := 21) dX3_has_17 (by decide) ?_
    refine pw_iret dX3_has_21 rfl (by first | rfl | assumption | simp [narrow]) ?_
    exact bR_1 (c13)
set_option maxHeartbeats 4000000 in
set_option maxRecDepth 100000 in
theorem c_admits (G : hG) (h : hp) {nd a b : Nat} {le gr : Nat → Int32} (hn : isN h nd a b le gr) {i : Nat} (hi : i < 6) (v : Int32) : PMet G MX3_admits 2 0 0 [.ref nd, .int (nI i), .int v] h (bR (gr i = 0 ∨ (le i ≤ v ∧ v ≤ gr i)) h) noX := by
  refine PMet.of rfl (Nat.le_of_ble_eq_true rfl) (fun d hd => ?_)
  refine PW.sub (L2 := [(0, Value.ref nd), (1, Value.int (nI i)), (2, Value.int v)]) [0, 1, 2] rfl ?_
  refine pw_aload_n (pc2 := 1) dX3_admits_0 rfl rfl 0 rfl (by first | exact rf_ref _ | exact rf_opt _ | exact rf_nul) ?_
  refine pw_iload_n (pc2 := 2) dX3_admits_1 rfl rfl 1 rfl ?_
  refine pw_callVb (pc2 := 5) (c_has G _ hn hi) cs_X3_22 rfl rfl hn.1 dX3_admits_2 rfl (by omega) rfl (by first | decide | simp [cat_rf, Value.category]) (fun q2 => ?_) (fun q2 => ?_)
  · refine pw_if_eq (tgt := 27) (pc2 := 8) dX3_admits_5 (by decide) rfl (fun c5 => by exact absurd c5 (by decide)) (fun _ => ?_)
    refine pw_iload_n (pc2 := 9) dX3_admits_8 rfl rfl 2 rfl ?_
    refine pw_aload_n (pc2 := 10) dX3_admits_9 rfl rfl 0 rfl (by first | exact rf_ref _ | exact rf_opt _ | exact rf_nul) ?_
    refine pw_get (pc2 := 13) kX3 (k := 0) (by decide) rfl fl_X3_9 hn.1 rfl dX3_admits_10 rfl ?_
    refine pw_iload_n (pc2 := 14) dX3_admits_13 rfl rfl 1 rfl ?_
    refine pw_ialdN (pc2 := 15) hn.2.1 (by first | assumption | omega) (by omega) dX3_admits_14 rfl ?_
    refine pw_aload_n (pc2 := 16) dX3_admits_15 rfl rfl 0 rfl (by first | exact rf_ref _ | exact rf_opt _ | exact rf_nul) ?_
    refine pw_get (pc2 := 19) kX3 (k := 1) (by decide) rfl fl_X3_15 hn.1 rfl dX3_admits_16 rfl ?_
    refine pw_iload_n (pc2 := 20) dX3_admits_19 rfl rfl 1 rfl ?_
    refine pw_ialdN (pc2 := 21) hn.2.2.1 (by first | assumption | omega) (by omega) dX3_admits_20 rfl ?_
    refine pw_callNb (pc2 := 24) (c_isWithin G _ v (le i) (gr i)) cs_X3_25 rfl rfl dX3_admits_21 rfl (by omega) rfl (by first | decide | simp [cat_rf, Value.category]) (fun q21 => ?_) (fun q21 => ?_)
    · refine pw_if_eq (tgt := 31) (pc2 := 27) dX3_admits_24 (by decide) rfl (fun c24 => by exact absurd c24 (by decide)) (fun _ => ?_)
      refine pw_iconst (pc2 := 28) (v := 1) dX3_admits_27 rfl (by decide) ?_
      refine pw_goto (tgt := 32) dX3_admits_28 (by decide) ?_
      refine pw_iret dX3_admits_32 rfl (by first | rfl | assumption | simp [narrow]) ?_
      first | exact bR_1 (Or.inl (Classical.not_not.mp q2)) | exact bR_1 (Or.inr q21)
    · refine pw_if_eq (tgt := 31) (pc2 := 27) dX3_admits_24 (by decide) rfl (fun _ => ?_) (fun c24 => by exact absurd (by decide) c24)
      refine pw_iconst (pc2 := 32) (v := 0) dX3_admits_31 rfl (by decide) ?_
      refine pw_iret dX3_admits_32 rfl (by first | rfl | assumption | simp [narrow]) ?_
      exact bR_0 (fun q => q.elim q2 q21)
  · refine pw_if_eq (tgt := 27) (pc2 := 8) dX3_admits_5 (by decide) rfl (fun _ => ?_) (fun c5 => by exact absurd (by decide) c5)
    refine pw_iconst (pc2 := 28) (v := 1) dX3_admits_27 rfl (by decide) ?_
    refine pw_goto (tgt := 32) dX3_admits_28 (by decide) ?_
    refine pw_iret dX3_admits_32 rfl (by first | rfl | assumption | simp [narrow]) ?_
    first | exact bR_1 (Or.inl (Classical.not_not.mp q2)) | exact bR_1 (Or.inr q21)
set_option maxHeartbeats 4000000 in
set_option maxRecDepth 100000 in
theorem c_nput (G : hG) (h : hp) {nd a b : Nat} {le gr : Nat → Int32} (hn : isN h nd a b le gr) {i : Nat} (hi : i < 6) (l g : Int32) : PMet G MX3_put 1 0 0 [.ref nd, .int (nI i), .int l, .int g] h (det none (va_up (va_up h a (some (aI 6 (upd le i l)))) b (some (aI 6 (upd gr i g))))) noX := by
  refine PMet.of rfl (Nat.le_of_ble_eq_true rfl) (fun d hd => ?_)
  refine PW.sub (L2 := [(0, Value.ref nd), (1, Value.int (nI i)), (2, Value.int l), (3, Value.int g)]) [0, 1, 2, 3] rfl ?_
  refine pw_iload_n (pc2 := 1) dX3_put_0 rfl rfl 1 rfl ?_
  refine pw_callN1 (pc2 := 4) (c_pix G _ hi) cs_X3_18 rfl rfl dX3_put_1 rfl (by omega) rfl (by first | decide | simp [cat_rf, Value.category]) ?_
  refine pw_if_eq (tgt := 21) (pc2 := 7) dX3_put_4 (by decide) rfl (fun c4 => by exact absurd c4 (by decide)) (fun _ => ?_)
  refine pw_aload_n (pc2 := 8) dX3_put_7 rfl rfl 0 rfl (by first | exact rf_ref _ | exact rf_opt _ | exact rf_nul) ?_
  refine pw_get (pc2 := 11) kX3 (k := 0) (by decide) rfl fl_X3_9 hn.1 rfl dX3_put_8 rfl ?_
  refine pw_iload_n (pc2 := 12) dX3_put_11 rfl rfl 1 rfl ?_
  refine pw_iload_n (pc2 := 13) dX3_put_12 rfl rfl 2 rfl ?_
  refine pw_iastN (pc2 := 14) hn.2.1 (by first | assumption | omega) (by omega) dX3_put_13 rfl ?_
  refine pw_aload_n (pc2 := 15) dX3_put_14 rfl rfl 0 rfl (by first | exact rf_ref _ | exact rf_opt _ | exact rf_nul) ?_
  refine pw_get (pc2 := 18) kX3 (k := 1) (by decide) rfl fl_X3_15 ((va_up_ne _ _ (ne_oa hn.1 hn.2.1)).trans hn.1) rfl dX3_put_15 rfl ?_
  refine pw_iload_n (pc2 := 19) dX3_put_18 rfl rfl 1 rfl ?_
  refine pw_iload_n (pc2 := 20) dX3_put_19 rfl rfl 3 rfl ?_
  refine pw_iastN (pc2 := 21) ((va_up_ne _ _ (hn.2.2.2).symm).trans hn.2.2.1) (by first | assumption | omega) (by omega) dX3_put_20 rfl ?_
  refine pw_vret dX3_put_21 rfl ?_
  exact ⟨rfl, rfl⟩
set_option maxHeartbeats 4000000 in
set_option maxRecDepth 100000 in
theorem c_ndrop (G : hG) (h : hp) {nd a b : Nat} {le gr : Nat → Int32} (hn : isN h nd a b le gr) {i : Nat} (hi : i < 6) : PMet G MX3_drop 2 0 0 [.ref nd, .int (nI i)] h (det none (va_up (va_up h a (some (aI 6 (upd le i 0)))) b (some (aI 6 (upd gr i 0))))) noX := by
  refine PMet.of rfl (Nat.le_of_ble_eq_true rfl) (fun d hd => ?_)
  refine PW.sub (L2 := [(0, Value.ref nd), (1, Value.int (nI i))]) [0, 1] rfl ?_
  refine pw_aload_n (pc2 := 1) dX3_drop_0 rfl rfl 0 rfl (by first | exact rf_ref _ | exact rf_opt _ | exact rf_nul) ?_
  refine pw_iload_n (pc2 := 2) dX3_drop_1 rfl rfl 1 rfl ?_
  refine pw_iconst (pc2 := 3) (v := 0) dX3_drop_2 rfl (by decide) ?_
  refine pw_iconst (pc2 := 4) (v := 0) dX3_drop_3 rfl (by decide) ?_
  refine pw_callV0 (pc2 := 7) (c_nput G _ hn hi 0 0) cs_X3_29 rfl rfl hn.1 dX3_drop_4 rfl (by omega) rfl (by first | decide | simp [cat_rf, Value.category]) ?_
  refine pw_vret dX3_drop_7 rfl ?_
  exact ⟨rfl, rfl⟩
/-- how many of the first n are needed -/
def cnN (gr : Nat → Int32) : Nat → Int32
  | 0 => 0
  | n + 1 => cnN gr n + (if gr n = 0 then 0 else 1)
set_option maxHeartbeats 4000000 in
set_option maxRecDepth 100000 in
theorem c_ncount (G : hG) (h : hp) {nd a b : Nat} {le gr : Nat → Int32} (hn : isN h nd a b le gr) : PMet G MX3_count 2 0 0 [.ref nd] h (det (some (.int (cnN gr 6))) h) noX := by
  refine PMet.of rfl (Nat.le_of_ble_eq_true rfl) (fun d hd => ?_)
  refine PW.sub (L2 := [(0, Value.ref nd)]) [0] rfl ?_
  refine pw_iconst (pc2 := 1) (v := 0) dX3_count_0 rfl (by decide) ?_
  refine pw_istore_n (pc2 := 2) (L2 := [(1, Value.int 0), (0, Value.ref nd)]) dX3_count_1 rfl rfl (by decide) rfl ?_
  refine pw_iconst (pc2 := 3) (v := 0) dX3_count_2 rfl (by decide) ?_
  refine pw_istore_n (pc2 := 4) (L2 := [(2, Value.int 0), (1, Value.int 0), (0, Value.ref nd)]) dX3_count_3 rfl rfl (by decide) rfl ?_
  have loop : ∀ (k i : Nat) (acc : Int32) (ha : acc = cnN gr i), i + k = 6 → PW G MX3_count d noA (E0 G (det (some (.int (cnN gr 6))) h) noX) 0 0 4 [(2, Value.int (nI i)), (1, Value.int acc), (0, Value.ref nd)] [] h := by
    intro k
    induction k with
    | zero =>
      intro i acc ha hik
      have hi9 : i = 6 := by omega
      refine pw_iload_n (pc2 := 5) dX3_count_4 rfl rfl 0 rfl ?_
      refine pw_bipush (pc2 := 7) (v := 6) dX3_count_5 rfl (by decide) ?_
      refine pw_icmp_ge (tgt := 32) (pc2 := 10) dX3_count_7 (by decide) rfl (fun _ => ?_) (fun c7 => by exact absurd (by first | (rw [hi9]; exact Int32.le_refl _) | exact fun q => absurd ((l6 (by omega)).mp q) (by omega)) c7)
      refine pw_iload_n (pc2 := 33) dX3_count_32 rfl rfl 1 rfl ?_
      refine pw_iret dX3_count_33 rfl (by first | rfl | assumption | simp [narrow]) ?_
      rw [ha, hi9]
      exact ⟨rfl, rfl⟩
    | succ k ih =>
      intro i acc ha hik
      have hi9 : i < 6 := by omega
      refine pw_iload_n (pc2 := 5) dX3_count_4 rfl rfl 0 rfl ?_
      refine pw_bipush (pc2 := 7) (v := 6) dX3_count_5 rfl (by decide) ?_
      refine pw_icmp_ge (tgt := 32) (pc2 := 10) dX3_count_7 (by decide) rfl (fun c7 => by exact absurd c7 (by first | (rw [hi9]; exact Int32.le_refl _) | exact fun q => absurd ((l6 (by omega)).mp q) (by omega))) (fun _ => ?_)
      refine pw_iload_n (pc2 := 11) dX3_count_10 rfl rfl 1 rfl ?_
      refine pw_aload_n (pc2 := 12) dX3_count_11 rfl rfl 2 rfl (by first | exact rf_ref _ | exact rf_opt _ | exact rf_nul) ?_
      refine pw_iload_n (pc2 := 13) dX3_count_12 rfl rfl 0 rfl ?_
      refine pw_callVb (pc2 := 16) (c_has G _ hn (by omega)) cs_X3_22 rfl rfl hn.1 dX3_count_13 rfl (by omega) rfl (by first | decide | simp [cat_rf, Value.category]) (fun q13 => ?_) (fun q13 => ?_)
      · refine pw_if_eq (tgt := 23) (pc2 := 19) dX3_count_16 (by decide) rfl (fun c16 => by exact absurd c16 (by decide)) (fun _ => ?_)
        refine pw_iconst (pc2 := 20) (v := 1) dX3_count_19 rfl (by decide) ?_
        refine pw_goto (tgt := 24) dX3_count_20 (by decide) ?_
        refine pw_iadd (pc2 := 25) dX3_count_24 rfl ?_
        refine pw_topi (fun v1 ev1 => ?_)
        refine pw_istore_n (pc2 := 26) (L2 := [(1, Value.int v1), (2, Value.int (nI i)), (0, Value.ref nd)]) dX3_count_25 rfl rfl (by decide) rfl ?_
        refine pw_iinc (pc2 := 29) (v := nI (i + 1)) (L2 := [(2, Value.int (nI (i + 1))), (1, Value.int v1), (0, Value.ref nd)]) dX3_count_26 rfl 1 rfl (by show nI _ + 1 = nI _; exact nI_1 _) (by decide) rfl ?_
        refine pw_goto (tgt := 4) dX3_count_29 (by decide) ?_
        refine PW.sub (L2 := [(2, Value.int (nI (i + 1))), (1, Value.int v1), (0, Value.ref nd)]) [0, 1, 2] rfl ?_
        refine ih (i + 1) _ ?_ (by omega)
        rw [ev1, ha]
        show _ = cnN gr i + _
        first | rw [if_neg q13] | rw [if_pos (Classical.not_not.mp q13)]
      · refine pw_if_eq (tgt := 23) (pc2 := 19) dX3_count_16 (by decide) rfl (fun _ => ?_) (fun c16 => by exact absurd (by decide) c16)
        refine pw_iconst (pc2 := 24) (v := 0) dX3_count_23 rfl (by decide) ?_
        refine pw_iadd (pc2 := 25) dX3_count_24 rfl ?_
        refine pw_topi (fun v3 ev3 => ?_)
        refine pw_istore_n (pc2 := 26) (L2 := [(1, Value.int v3), (2, Value.int (nI i)), (0, Value.ref nd)]) dX3_count_25 rfl rfl (by decide) rfl ?_
        refine pw_iinc (pc2 := 29) (v := nI (i + 1)) (L2 := [(2, Value.int (nI (i + 1))), (1, Value.int v3), (0, Value.ref nd)]) dX3_count_26 rfl 1 rfl (by show nI _ + 1 = nI _; exact nI_1 _) (by decide) rfl ?_
        refine pw_goto (tgt := 4) dX3_count_29 (by decide) ?_
        refine PW.sub (L2 := [(2, Value.int (nI (i + 1))), (1, Value.int v3), (0, Value.ref nd)]) [0, 1, 2] rfl ?_
        refine ih (i + 1) _ ?_ (by omega)
        rw [ev3, ha]
        show _ = cnN gr i + _
        first | rw [if_neg q13] | rw [if_pos (Classical.not_not.mp q13)]
  refine PW.sub (L2 := [(2, Value.int 0), (1, Value.int 0), (0, Value.ref nd)]) [0, 1, 2] rfl ?_
  exact loop 6 0 0 rfl rfl
set_option maxHeartbeats 4000000 in
set_option maxRecDepth 100000 in
theorem c_nsame (G : hG) (h : hp) {nd a b : Nat} {le gr : Nat → Int32} (hn : isN h nd a b le gr) {n2 a2 b2 : Nat} {le2 gr2 : Nat → Int32} (hm : isN h n2 a2 b2 le2 gr2) : PMet G MX3_sameAs 0 0 0 [.ref nd, .ref n2] h (bR (∀ j, j < 6 → le j = le2 j ∧ gr j = gr2 j) h) noX := by
  refine PMet.of rfl (Nat.le_of_ble_eq_true rfl) (fun d hd => ?_)
  refine PW.sub (L2 := [(0, Value.ref nd), (1, Value.ref n2)]) [0, 1] rfl ?_
  refine pw_iconst (pc2 := 1) (v := 0) dX3_sameAs_0 rfl (by decide) ?_
  refine pw_istore_n (pc2 := 2) (L2 := [(2, Value.int 0), (0, Value.ref nd), (1, Value.ref n2)]) dX3_sameAs_1 rfl rfl (by decide) rfl ?_
  have loop : ∀ (k i : Nat) (hal : ∀ j, j < i → le j = le2 j ∧ gr j = gr2 j), i + k = 6 → PW G MX3_sameAs d noA (E0 G (bR (∀ j, j < 6 → le j = le2 j ∧ gr j = gr2 j) h) noX) 0 0 2 [(2, Value.int (nI i)), (0, Value.ref nd), (1, Value.ref n2)] [] h := by
    intro k
    induction k with
    | zero =>
      intro i hal hik
      have hi9 : i = 6 := by omega
      refine pw_iload_n (pc2 := 3) dX3_sameAs_2 rfl rfl 0 rfl ?_
      refine pw_bipush (pc2 := 5) (v := 6) dX3_sameAs_3 rfl (by decide) ?_
      refine pw_icmp_ge (tgt := 46) (pc2 := 8) dX3_sameAs_5 (by decide) rfl (fun _ => ?_) (fun c5 => by exact absurd (by first | (rw [hi9]; exact Int32.le_refl _) | exact fun q => absurd ((l6 (by omega)).mp q) (by omega)) c5)
      refine pw_iconst (pc2 := 47) (v := 1) dX3_sameAs_46 rfl (by decide) ?_
      refine pw_iret dX3_sameAs_47 rfl (by first | rfl | assumption | simp [narrow]) ?_
      exact bR_1 (fun j hj => hal j (by omega))
    | succ k ih =>
      intro i hal hik
      have hi9 : i < 6 := by omega
      refine pw_iload_n (pc2 := 3) dX3_sameAs_2 rfl rfl 0 rfl ?_
      refine pw_bipush (pc2 := 5) (v := 6) dX3_sameAs_3 rfl (by decide) ?_
      refine pw_icmp_ge (tgt := 46) (pc2 := 8) dX3_sameAs_5 (by decide) rfl (fun c5 => by exact absurd c5 (by first | (rw [hi9]; exact Int32.le_refl _) | exact fun q => absurd ((l6 (by omega)).mp q) (by omega))) (fun _ => ?_)
      refine pw_aload_n (pc2 := 9) dX3_sameAs_8 rfl rfl 1 rfl (by first | exact rf_ref _ | exact rf_opt _ | exact rf_nul) ?_
      refine pw_get (pc2 := 12) kX3 (k := 0) (by decide) rfl fl_X3_9 hn.1 rfl dX3_sameAs_9 rfl ?_
      refine pw_iload_n (pc2 := 13) dX3_sameAs_12 rfl rfl 0 rfl ?_
      refine pw_ialdN (pc2 := 14) hn.2.1 (by first | assumption | omega) (by omega) dX3_sameAs_13 rfl ?_
      refine pw_aload_n (pc2 := 15) dX3_sameAs_14 rfl rfl 2 rfl (by first | exact rf_ref _ | exact rf_opt _ | exact rf_nul) ?_
      refine pw_get (pc2 := 18) kX3 (k := 0) (by decide) rfl fl_X3_9 hm.1 rfl dX3_sameAs_15 rfl ?_
      refine pw_iload_n (pc2 := 19) dX3_sameAs_18 rfl rfl 0 rfl ?_
      refine pw_ialdN (pc2 := 20) hm.2.1 (by first | assumption | omega) (by omega) dX3_sameAs_19 rfl ?_
      refine pw_icmp_ne (tgt := 38) (pc2 := 23) dX3_sameAs_20 (by decide) rfl (fun c20 => ?_) (fun c20 => ?_)
      · refine pw_iconst (pc2 := 39) (v := 0) dX3_sameAs_38 rfl (by decide) ?_
        refine pw_iret dX3_sameAs_39 rfl (by first | rfl | assumption | simp [narrow]) ?_
        first | exact bR_0 (fun q => c20 (q i hi9).1) | exact bR_0 (fun q => c35 (q i hi9).2)
      · refine pw_aload_n (pc2 := 24) dX3_sameAs_23 rfl rfl 1 rfl (by first | exact rf_ref _ | exact rf_opt _ | exact rf_nul) ?_
        refine pw_get (pc2 := 27) kX3 (k := 1) (by decide) rfl fl_X3_15 hn.1 rfl dX3_sameAs_24 rfl ?_
        refine pw_iload_n (pc2 := 28) dX3_sameAs_27 rfl rfl 0 rfl ?_
        refine pw_ialdN (pc2 := 29) hn.2.2.1 (by first | assumption | omega) (by omega) dX3_sameAs_28 rfl ?_
        refine pw_aload_n (pc2 := 30) dX3_sameAs_29 rfl rfl 2 rfl (by first | exact rf_ref _ | exact rf_opt _ | exact rf_nul) ?_
        refine pw_get (pc2 := 33) kX3 (k := 1) (by decide) rfl fl_X3_15 hm.1 rfl dX3_sameAs_30 rfl ?_
        refine pw_iload_n (pc2 := 34) dX3_sameAs_33 rfl rfl 0 rfl ?_
        refine pw_ialdN (pc2 := 35) hm.2.2.1 (by first | assumption | omega) (by omega) dX3_sameAs_34 rfl ?_
        refine pw_icmp_eq (tgt := 40) (pc2 := 38) dX3_sameAs_35 (by decide) rfl (fun c35 => ?_) (fun c35 => ?_)
        · refine pw_iinc (pc2 := 43) (v := nI (i + 1)) (L2 := [(2, Value.int (nI (i + 1))), (0, Value.ref nd), (1, Value.ref n2)]) dX3_sameAs_40 rfl 0 rfl (by show nI _ + 1 = nI _; exact nI_1 _) (by decide) rfl ?_
          refine pw_goto (tgt := 2) dX3_sameAs_43 (by decide) ?_
          refine PW.sub (L2 := [(2, Value.int (nI (i + 1))), (0, Value.ref nd), (1, Value.ref n2)]) [0, 1, 2] rfl ?_
          exact ih (i + 1) (lt_s hal ⟨c20, c35⟩) (by omega)
        · refine pw_iconst (pc2 := 39) (v := 0) dX3_sameAs_38 rfl (by decide) ?_
          refine pw_iret dX3_sameAs_39 rfl (by first | rfl | assumption | simp [narrow]) ?_
          first | exact bR_0 (fun q => c20 (q i hi9).1) | exact bR_0 (fun q => c35 (q i hi9).2)
  refine PW.sub (L2 := [(2, Value.int 0), (0, Value.ref nd), (1, Value.ref n2)]) [0, 1, 2] rfl ?_
  exact loop 6 0 (fun j hj => absurd hj (Nat.not_lt_zero j)) rfl
theorem up4 {α : Type} (h : Nat → α) {a b : Nat} (hab : a ≠ b) (x y x' y' : α) : va_up (va_up (va_up (va_up h a x) b y) a x') b y' = va_up (va_up h a x') b y' := by
  rw [up_sw _ hab.symm, up_up, up_up]
theorem none_up {h : hp} {x q : Nat} {c : hE} (hq : va_up h x (some c) q = none) : q ≠ x ∧ h q = none := by
  by_cases e : q = x
  · subst e
    rw [va_up_self] at hq
    cases hq
  · rw [va_up_ne _ _ e] at hq
    exact ⟨e, hq⟩
/-- addresses that were free, apart from each other -/
def frs (G : hG) (h : hp) (l : List Nat) : Prop := l.Nodup ∧ ∀ x ∈ l, h x = none ∧ x ≠ G.2.2
/-- outside of l the heap is as it was -/
def sm (h h' : hp) (l : List Nat) : Prop := ∀ x, x ∉ l → h' x = h x
def z0 : Nat → Int32 := fun _ => 0
def zN : Nat → Option Nat := fun _ => none
set_option maxHeartbeats 4000000 in
set_option maxRecDepth 100000 in
theorem c_ncopy (G : hG) (h : hp) {nd a b : Nat} {le gr : Nat → Int32} (hn : isN h nd a b le gr) {n2 a2 b2 : Nat} {le2 gr2 : Nat → Int32} (hm : isN h n2 a2 b2 le2 gr2) (h1 : a2 ≠ a) (h2 : a2 ≠ b) (h3 : b2 ≠ a) (h4 : b2 ≠ b) : PMet G MX3_copyFrom 2 0 0 [.ref nd, .ref n2] h (det none (va_up (va_up h a (some (aI 6 le2))) b (some (aI 6 gr2)))) noX := by
  refine PMet.of rfl (Nat.le_of_ble_eq_true rfl) (fun d hd => ?_)
  refine PW.sub (L2 := [(0, Value.ref nd), (1, Value.ref n2)]) [0, 1] rfl ?_
  refine pw_iconst (pc2 := 1) (v := 0) dX3_copyFrom_0 rfl (by decide) ?_
  refine pw_istore_n (pc2 := 2) (L2 := [(2, Value.int 0), (0, Value.ref nd), (1, Value.ref n2)]) dX3_copyFrom_1 rfl rfl (by decide) rfl ?_
  have loop : ∀ (k i : Nat) , i + k = 6 → PW G MX3_copyFrom d noA (E0 G (det none (va_up (va_up h a (some (aI 6 le2))) b (some (aI 6 gr2)))) noX) 0 0 2 [(2, Value.int (nI i)), (0, Value.ref nd), (1, Value.ref n2)] [] (va_up (va_up h a (some (aI 6 (mx le2 le i)))) b (some (aI 6 (mx gr2 gr i)))) := by
    intro k
    induction k with
    | zero =>
      intro i  hik
      have hi9 : i = 6 := by omega
      refine pw_iload_n (pc2 := 3) dX3_copyFrom_2 rfl rfl 0 rfl ?_
      refine pw_bipush (pc2 := 5) (v := 6) dX3_copyFrom_3 rfl (by decide) ?_
      refine pw_icmp_ge (tgt := 31) (pc2 := 8) dX3_copyFrom_5 (by decide) rfl (fun _ => ?_) (fun c5 => by exact absurd (by first | (rw [hi9]; exact Int32.le_refl _) | exact fun q => absurd ((l6 (by omega)).mp q) (by omega)) c5)
      refine pw_extI (a := a) (g := le2) ((va_up_ne _ _ hn.2.2.2).trans (va_up_self _ _ _)) (by decide) (fun j hj => mx_lt (by omega)) ?_
      refine pw_extI (a := b) (g := gr2) ((va_up_ne _ _ (hn.2.2.2).symm).trans (va_up_self _ _ _)) (by decide) (fun j hj => mx_lt (by omega)) ?_
      refine pw_vret dX3_copyFrom_31 rfl ?_
      exact ⟨rfl, up4 _ hn.2.2.2 _ _ _ _⟩
    | succ k ih =>
      intro i  hik
      have hi9 : i < 6 := by omega
      refine pw_iload_n (pc2 := 3) dX3_copyFrom_2 rfl rfl 0 rfl ?_
      refine pw_bipush (pc2 := 5) (v := 6) dX3_copyFrom_3 rfl (by decide) ?_
      refine pw_icmp_ge (tgt := 31) (pc2 := 8) dX3_copyFrom_5 (by decide) rfl (fun c5 => by exact absurd c5 (by first | (rw [hi9]; exact Int32.le_refl _) | exact fun q => absurd ((l6 (by omega)).mp q) (by omega))) (fun _ => ?_)
      refine pw_aload_n (pc2 := 9) dX3_copyFrom_8 rfl rfl 1 rfl (by first | exact rf_ref _ | exact rf_opt _ | exact rf_nul) ?_
      refine pw_iload_n (pc2 := 10) dX3_copyFrom_9 rfl rfl 0 rfl ?_
      refine pw_aload_n (pc2 := 11) dX3_copyFrom_10 rfl rfl 2 rfl (by first | exact rf_ref _ | exact rf_opt _ | exact rf_nul) ?_
      refine pw_get (pc2 := 14) kX3 (k := 0) (by decide) rfl fl_X3_9 ((va_up_ne _ _ (ne_oa hm.1 hn.2.2.1)).trans ((va_up_ne _ _ (ne_oa hm.1 hn.2.1)).trans hm.1)) rfl dX3_copyFrom_11 rfl ?_
      refine pw_iload_n (pc2 := 15) dX3_copyFrom_14 rfl rfl 0 rfl ?_
      refine pw_ialdN (pc2 := 16) ((va_up_ne _ _ h2).trans ((va_up_ne _ _ h1).trans hm.2.1)) (by first | assumption | omega) (by omega) dX3_copyFrom_15 rfl ?_
      refine pw_aload_n (pc2 := 17) dX3_copyFrom_16 rfl rfl 2 rfl (by first | exact rf_ref _ | exact rf_opt _ | exact rf_nul) ?_
      refine pw_get (pc2 := 20) kX3 (k := 1) (by decide) rfl fl_X3_15 ((va_up_ne _ _ (ne_oa hm.1 hn.2.2.1)).trans ((va_up_ne _ _ (ne_oa hm.1 hn.2.1)).trans hm.1)) rfl dX3_copyFrom_17 rfl ?_
      refine pw_iload_n (pc2 := 21) dX3_copyFrom_20 rfl rfl 0 rfl ?_
      refine pw_ialdN (pc2 := 22) ((va_up_ne _ _ h4).trans ((va_up_ne _ _ h3).trans hm.2.2.1)) (by first | assumption | omega) (by omega) dX3_copyFrom_21 rfl ?_
      refine pw_callV0 (pc2 := 25) (c_nput G _ ⟨((va_up_ne _ _ (ne_oa hn.1 hn.2.2.1)).trans ((va_up_ne _ _ (ne_oa hn.1 hn.2.1)).trans hn.1)), ((va_up_ne _ _ hn.2.2.2).trans (va_up_self _ _ _)), (va_up_self _ _ _), hn.2.2.2⟩ hi9 (le2 i) (gr2 i)) cs_X3_29 rfl rfl ((va_up_ne _ _ (ne_oa hn.1 hn.2.2.1)).trans ((va_up_ne _ _ (ne_oa hn.1 hn.2.1)).trans hn.1)) dX3_copyFrom_22 rfl (by omega) rfl (by first | decide | simp [cat_rf, Value.category]) ?_
      refine pw_iinc (pc2 := 28) (v := nI (i + 1)) (L2 := [(2, Value.int (nI (i + 1))), (0, Value.ref nd), (1, Value.ref n2)]) dX3_copyFrom_25 rfl 0 rfl (by show nI _ + 1 = nI _; exact nI_1 _) (by decide) rfl ?_
      refine pw_goto (tgt := 2) dX3_copyFrom_28 (by decide) ?_
      refine PW.sub (L2 := [(2, Value.int (nI (i + 1))), (0, Value.ref nd), (1, Value.ref n2)]) [0, 1, 2] rfl ?_
      refine PW.heap ?_ (ih (i + 1) (by omega))
      rw [up4 _ hn.2.2.2, upd_up, upd_up, mx_s, mx_s]
  refine PW.sub (L2 := [(2, Value.int 0), (0, Value.ref nd), (1, Value.ref n2)]) [0, 1, 2] rfl ?_
  refine PW.heap (h' := (va_up (va_up h a (some (aI 6 (mx le2 le 0)))) b (some (aI 6 (mx gr2 gr 0))))) ?_ (loop 6 0 rfl)
  rw [mx_0, mx_0, up_id hn.2.1, up_id hn.2.2.1]
set_option maxHeartbeats 4000000 in
set_option maxRecDepth 100000 in
theorem c_ninit (G : hG) (h : hp) {nd : Nat} (hn : h nd = some (oB 6 [.null, .null])) : PMet G MX3_init 1 2 12 [.ref nd] h (fun r h' => r = none ∧ ∃ a b : Nat, frs G h [a, b] ∧ isN h' nd a b z0 z0 ∧ sm h h' [nd, a, b]) noX := by
  refine PMet.of rfl (Nat.le_of_ble_eq_true rfl) (fun d hd => ?_)
  refine PW.sub (L2 := [(0, Value.ref nd)]) [0] rfl ?_
  refine pw_aload_n (pc2 := 1) dX3_init_0 rfl rfl 0 rfl (by first | exact rf_ref _ | exact rf_opt _ | exact rf_nul) ?_
  refine pw_objInit (pc2 := 4) co_X3_3 wo_1 wo_2 dX3_init_1 rfl (by decide) ?_
  refine pw_aload_n (pc2 := 5) dX3_init_4 rfl rfl 0 rfl (by first | exact rf_ref _ | exact rf_opt _ | exact rf_nul) ?_
  refine pw_bipush (pc2 := 7) (v := 6) dX3_init_5 rfl (by decide) ?_
  refine pw_newarr (pc2 := 9) (atype := .int) (a0 := (6, .inl (fun _ => 0))) 0 rfl rfl wa_95 (fun _ => rfl) (by decide) (by decide) (by decide) dX3_init_7 rfl (fun a ha ga => ?_)
  refine pw_putF (pc2 := 12) kX3 (k := 0) (by decide) rfl rfl rfl rfl fl_X3_9 ((va_up_ne _ _ (ne_nw hn ha)).trans hn) (by first | decide | simp) (by first | rfl | exact nar_rf _ _) (by first | rfl | exact fit_rf _ _) dX3_init_9 rfl ?_
  refine pw_aload_n (pc2 := 13) dX3_init_12 rfl rfl 0 rfl (by first | exact rf_ref _ | exact rf_opt _ | exact rf_nul) ?_
  refine pw_bipush (pc2 := 15) (v := 6) dX3_init_13 rfl (by decide) ?_
  refine pw_newarr (pc2 := 17) (atype := .int) (a0 := (6, .inl (fun _ => 0))) 0 rfl rfl wa_95 (fun _ => rfl) (by decide) (by decide) (by decide) dX3_init_15 rfl (fun b hb gb => ?_)
  refine pw_putF (pc2 := 20) kX3 (k := 1) (by decide) rfl rfl rfl rfl fl_X3_15 ((va_up_ne _ _ (ne_nw (va_up_self _ _ _) hb)).trans (va_up_self _ _ _)) (by first | decide | simp) (by first | rfl | exact nar_rf _ _) (by first | rfl | exact fit_rf _ _) dX3_init_17 rfl ?_
  refine pw_vret dX3_init_20 rfl ?_
  obtain ⟨n1, m1⟩ := none_up hb
  obtain ⟨n2, m2⟩ := none_up m1
  exact ⟨rfl, a, b, ⟨by simp [n2.symm], fun x hx => by simp only [List.mem_cons, List.not_mem_nil, or_false] at hx; rcases hx with rfl | rfl; exact ⟨ha, ga⟩; exact ⟨m2, gb⟩⟩, ⟨(va_up_self _ _ _), ((va_up_ne _ _ ((ne_nw hn ha)).symm).trans ((va_up_ne _ _ (ne_nw ((va_up_ne _ _ ((ne_nw hn ha)).symm).trans (va_up_self _ _ _)) hb)).trans ((va_up_ne _ _ ((ne_nw hn ha)).symm).trans (va_up_self _ _ _)))), ((va_up_ne _ _ ((ne_nw (va_up_self _ _ _) hb)).symm).trans (va_up_self _ _ _)), n2.symm⟩, fun x hx => by simp only [List.mem_cons, List.not_mem_nil, or_false, not_or] at hx; simp [va_up, hx]⟩
