/-! the smallest methods: tests of numbers; the lists' reading -/
set_option maxHeartbeats 4000000 in
set_option maxRecDepth 100000 in
theorem c_isWithin (G : hG) (h : hp) (v a b : Int32) : PMet G MX9_isWithin 0 0 0 [.int v, .int a, .int b] h (bR (a ≤ v ∧ v ≤ b) h) noX := by
  refine PMet.of rfl (Nat.le_of_ble_eq_true rfl) (fun d hd => ?_)
  refine PW.sub (L2 := [(0, Value.int v), (1, Value.int a), (2, Value.int b)]) [0, 1, 2] rfl ?_
  refine pw_iload_n (pc2 := 1) dX9_isWithin_0 rfl rfl 0 rfl ?_
  refine pw_iload_n (pc2 := 2) dX9_isWithin_1 rfl rfl 1 rfl ?_
  refine pw_icmp_lt (tgt := 14) (pc2 := 5) dX9_isWithin_2 (by decide) rfl (fun c2 => ?_) (fun c2 => ?_)
  · refine pw_iconst (pc2 := 15) (v := 0) dX9_isWithin_14 rfl (by decide) ?_
    refine pw_iret dX9_isWithin_15 rfl (by first | rfl | assumption | simp [narrow]) ?_
    exact bR_0 (by simp only [Int32.not_lt, Int32.not_le, Int32.lt_iff_toInt_lt, Int32.le_iff_toInt_le] at *; omega)
  · refine pw_iload_n (pc2 := 6) dX9_isWithin_5 rfl rfl 0 rfl ?_
    refine pw_iload_n (pc2 := 7) dX9_isWithin_6 rfl rfl 2 rfl ?_
    refine pw_icmp_gt (tgt := 14) (pc2 := 10) dX9_isWithin_7 (by decide) rfl (fun c7 => ?_) (fun c7 => ?_)
    · refine pw_iconst (pc2 := 15) (v := 0) dX9_isWithin_14 rfl (by decide) ?_
      refine pw_iret dX9_isWithin_15 rfl (by first | rfl | assumption | simp [narrow]) ?_
      exact bR_0 (by simp only [Int32.not_lt, Int32.not_le, Int32.lt_iff_toInt_lt, Int32.le_iff_toInt_le] at *; omega)
    · refine pw_iconst (pc2 := 11) (v := 1) dX9_isWithin_10 rfl (by decide) ?_
      refine pw_goto (tgt := 15) dX9_isWithin_11 (by decide) ?_
      refine pw_iret dX9_isWithin_15 rfl (by first | rfl | assumption | simp [narrow]) ?_
      exact bR_1 (by simp only [Int32.not_lt, Int32.not_le, Int32.lt_iff_toInt_lt, Int32.le_iff_toInt_le] at *; omega)
set_option maxHeartbeats 4000000 in
set_option maxRecDepth 100000 in
theorem c_isPackageIndex (G : hG) (h : hp) (x : Int32) : PMet G MX9_isPackageIndex 0 0 0 [.int x] h (bR (0 ≤ x ∧ x < 6) h) noX := by
  refine PMet.of rfl (Nat.le_of_ble_eq_true rfl) (fun d hd => ?_)
  refine PW.sub (L2 := [(0, Value.int x)]) [0] rfl ?_
  refine pw_iload_n (pc2 := 1) dX9_isPackageIndex_0 rfl rfl 0 rfl ?_
  refine pw_if_lt (tgt := 14) (pc2 := 4) dX9_isPackageIndex_1 (by decide) rfl (fun c1 => ?_) (fun c1 => ?_)
  · refine pw_iconst (pc2 := 15) (v := 0) dX9_isPackageIndex_14 rfl (by decide) ?_
    refine pw_iret dX9_isPackageIndex_15 rfl (by first | rfl | assumption | simp [narrow]) ?_
    exact bR_0 (by simp only [Int32.not_lt, Int32.not_le, Int32.lt_iff_toInt_lt, Int32.le_iff_toInt_le] at *; omega)
  · refine pw_iload_n (pc2 := 5) dX9_isPackageIndex_4 rfl rfl 0 rfl ?_
    refine pw_bipush (pc2 := 7) (v := 6) dX9_isPackageIndex_5 rfl (by decide) ?_
    refine pw_icmp_ge (tgt := 14) (pc2 := 10) dX9_isPackageIndex_7 (by decide) rfl (fun c7 => ?_) (fun c7 => ?_)
    · refine pw_iconst (pc2 := 15) (v := 0) dX9_isPackageIndex_14 rfl (by decide) ?_
      refine pw_iret dX9_isPackageIndex_15 rfl (by first | rfl | assumption | simp [narrow]) ?_
      exact bR_0 (by simp only [Int32.not_lt, Int32.not_le, Int32.lt_iff_toInt_lt, Int32.le_iff_toInt_le] at *; omega)
    · refine pw_iconst (pc2 := 11) (v := 1) dX9_isPackageIndex_10 rfl (by decide) ?_
      refine pw_goto (tgt := 15) dX9_isPackageIndex_11 (by decide) ?_
      refine pw_iret dX9_isPackageIndex_15 rfl (by first | rfl | assumption | simp [narrow]) ?_
      exact bR_1 (by simp only [Int32.not_lt, Int32.not_le, Int32.lt_iff_toInt_lt, Int32.le_iff_toInt_le] at *; omega)
set_option maxHeartbeats 4000000 in
set_option maxRecDepth 100000 in
theorem c_isOwner (G : hG) (h : hp) (x : Int32) : PMet G MX9_isOwner 0 0 0 [.int x] h (bR (0 ≤ x ∧ x < 3) h) noX := by
  refine PMet.of rfl (Nat.le_of_ble_eq_true rfl) (fun d hd => ?_)
  refine PW.sub (L2 := [(0, Value.int x)]) [0] rfl ?_
  refine pw_iload_n (pc2 := 1) dX9_isOwner_0 rfl rfl 0 rfl ?_
  refine pw_if_lt (tgt := 13) (pc2 := 4) dX9_isOwner_1 (by decide) rfl (fun c1 => ?_) (fun c1 => ?_)
  · refine pw_iconst (pc2 := 14) (v := 0) dX9_isOwner_13 rfl (by decide) ?_
    refine pw_iret dX9_isOwner_14 rfl (by first | rfl | assumption | simp [narrow]) ?_
    exact bR_0 (by simp only [Int32.not_lt, Int32.not_le, Int32.lt_iff_toInt_lt, Int32.le_iff_toInt_le] at *; omega)
  · refine pw_iload_n (pc2 := 5) dX9_isOwner_4 rfl rfl 0 rfl ?_
    refine pw_iconst (pc2 := 6) (v := 3) dX9_isOwner_5 rfl (by decide) ?_
    refine pw_icmp_ge (tgt := 13) (pc2 := 9) dX9_isOwner_6 (by decide) rfl (fun c6 => ?_) (fun c6 => ?_)
    · refine pw_iconst (pc2 := 14) (v := 0) dX9_isOwner_13 rfl (by decide) ?_
      refine pw_iret dX9_isOwner_14 rfl (by first | rfl | assumption | simp [narrow]) ?_
      exact bR_0 (by simp only [Int32.not_lt, Int32.not_le, Int32.lt_iff_toInt_lt, Int32.le_iff_toInt_le] at *; omega)
    · refine pw_iconst (pc2 := 10) (v := 1) dX9_isOwner_9 rfl (by decide) ?_
      refine pw_goto (tgt := 14) dX9_isOwner_10 (by decide) ?_
      refine pw_iret dX9_isOwner_14 rfl (by first | rfl | assumption | simp [narrow]) ?_
      exact bR_1 (by simp only [Int32.not_lt, Int32.not_le, Int32.lt_iff_toInt_lt, Int32.le_iff_toInt_le] at *; omega)
theorem pix {i : Nat} (hi : i < 6) : 0 ≤ nI i ∧ nI i < 6 := ⟨nI_pos' (by omega), (g6 (by omega)).mpr hi⟩
set_option maxHeartbeats 4000000 in
set_option maxRecDepth 100000 in
theorem c_pix (G : hG) (h : hp) {i : Nat} (hi : i < 6) : PMet G MX9_isPackageIndex 0 0 0 [.int (nI i)] h (det (some (.int 1)) h) noX := by
  refine PMet.of rfl (Nat.le_of_ble_eq_true rfl) (fun d hd => ?_)
  refine PW.sub (L2 := [(0, Value.int (nI i))]) [0] rfl ?_
  refine pw_iload_n (pc2 := 1) dX9_isPackageIndex_0 rfl rfl 0 rfl ?_
  refine pw_if_lt (tgt := 14) (pc2 := 4) dX9_isPackageIndex_1 (by decide) rfl (fun c1 => by exact absurd c1 (Int32.not_lt.mpr (pix hi).1)) (fun _ => ?_)
  refine pw_iload_n (pc2 := 5) dX9_isPackageIndex_4 rfl rfl 0 rfl ?_
  refine pw_bipush (pc2 := 7) (v := 6) dX9_isPackageIndex_5 rfl (by decide) ?_
  refine pw_icmp_ge (tgt := 14) (pc2 := 10) dX9_isPackageIndex_7 (by decide) rfl (fun c7 => by exact absurd c7 (Int32.not_le.mpr (pix hi).2)) (fun _ => ?_)
  refine pw_iconst (pc2 := 11) (v := 1) dX9_isPackageIndex_10 rfl (by decide) ?_
  refine pw_goto (tgt := 15) dX9_isPackageIndex_11 (by decide) ?_
  refine pw_iret dX9_isPackageIndex_15 rfl (by first | rfl | assumption | simp [narrow]) ?_
  exact ⟨rfl, rfl⟩
/-- the list at l holds n objects, at f 0, f 1 .. -/
def isL (G : hG) (h : hp) (l n : Nat) (f : Nat → Nat) : Prop := ∃ (mc : Int32) (ed cap : Nat) (g : Nat → Option Nat), h l = some (oB 2 [.int mc, .ref ed, .int (nI n)]) ∧ h ed = some (aR tObj cap g) ∧ n ≤ cap ∧ cap < 1000 ∧ ∀ i, i < n → g i = some (f i)
set_option maxHeartbeats 4000000 in
set_option maxRecDepth 100000 in
theorem c_lsize (G : hG) (h : hp) {l n : Nat} {f : Nat → Nat} (hl : isL G h l n f) : PMet G MJx4a65c_size_8abf5 0 0 0 [.ref l] h (det (some (.int (nI n))) h) noX := by
  obtain ⟨mc, ed, cap, g, e1, e2, h3, h4, h5⟩ := hl
  refine PMet.of rfl (Nat.le_of_ble_eq_true rfl) (fun d hd => ?_)
  refine PW.sub (L2 := [(0, Value.ref l)]) [0] rfl ?_
  refine pw_aload_n (pc2 := 1) dJx4a65c_size_8abf5_0 rfl rfl 0 rfl (by first | exact rf_ref _ | exact rf_opt _ | exact rf_nul) ?_
  refine pw_get (pc2 := 4) kJx4a65c (k := 2) (by decide) rfl fl_Jx4a65c_48 e1 rfl dJx4a65c_size_8abf5_1 rfl ?_
  refine pw_iret dJx4a65c_size_8abf5_4 rfl (by first | rfl | assumption | simp [narrow]) ?_
  exact ⟨rfl, rfl⟩
set_option maxHeartbeats 4000000 in
set_option maxRecDepth 100000 in
theorem c_lempty (G : hG) (h : hp) {l n : Nat} {f : Nat → Nat} (hl : isL G h l n f) : PMet G MJx4a65c_isEmpty_aae02 0 0 0 [.ref l] h (bR (n = 0) h) noX := by
  obtain ⟨mc, ed, cap, g, e1, e2, h3, h4, h5⟩ := hl
  refine PMet.of rfl (Nat.le_of_ble_eq_true rfl) (fun d hd => ?_)
  refine PW.sub (L2 := [(0, Value.ref l)]) [0] rfl ?_
  refine pw_aload_n (pc2 := 1) dJx4a65c_isEmpty_aae02_0 rfl rfl 0 rfl (by first | exact rf_ref _ | exact rf_opt _ | exact rf_nul) ?_
  refine pw_get (pc2 := 4) kJx4a65c (k := 2) (by decide) rfl fl_Jx4a65c_48 e1 rfl dJx4a65c_isEmpty_aae02_1 rfl ?_
  refine pw_if_ne (tgt := 11) (pc2 := 7) dJx4a65c_isEmpty_aae02_4 (by decide) rfl (fun c4 => ?_) (fun c4 => ?_)
  · refine pw_iconst (pc2 := 12) (v := 0) dJx4a65c_isEmpty_aae02_11 rfl (by decide) ?_
    refine pw_iret dJx4a65c_isEmpty_aae02_12 rfl (by first | rfl | assumption | simp [narrow]) ?_
    exact bR_0 (fun q => c4 (by rw [q]; rfl))
  · refine pw_iconst (pc2 := 8) (v := 1) dJx4a65c_isEmpty_aae02_7 rfl (by decide) ?_
    refine pw_goto (tgt := 12) dJx4a65c_isEmpty_aae02_8 (by decide) ?_
    refine pw_iret dJx4a65c_isEmpty_aae02_12 rfl (by first | rfl | assumption | simp [narrow]) ?_
    exact bR_1 (by rcases Nat.eq_zero_or_pos n with q | q; exact q; exact absurd c4 (nI_ne0 q (by omega)))
set_option maxHeartbeats 4000000 in
set_option maxRecDepth 100000 in
theorem c_checkIndexP (G : hG) (h : hp) {i n : Nat} (hi : i < n) (hn : n < 2147483648) : PMet G MJ3_checkIndex_8e157 0 0 0 [.int (nI i), .int (nI n), .null] h (det (some (.int (nI i))) h) noX := by
  refine PMet.of rfl (Nat.le_of_ble_eq_true rfl) (fun d hd => ?_)
  refine PW.sub (L2 := [(0, Value.int (nI i)), (1, Value.int (nI n)), (2, Value.null)]) [0, 1, 2] rfl ?_
  refine pw_iload_n (pc2 := 1) dJ3_checkIndex_8e157_0 rfl rfl 0 rfl ?_
  refine pw_if_lt (tgt := 9) (pc2 := 4) dJ3_checkIndex_8e157_1 (by decide) rfl (fun c1 => by exact absurd c1 (nI_pos (by omega))) (fun _ => ?_)
  refine pw_iload_n (pc2 := 5) dJ3_checkIndex_8e157_4 rfl rfl 0 rfl ?_
  refine pw_iload_n (pc2 := 6) dJ3_checkIndex_8e157_5 rfl rfl 1 rfl ?_
  refine pw_icmp_lt (tgt := 16) (pc2 := 9) dJ3_checkIndex_8e157_6 (by decide) rfl (fun _ => ?_) (fun c6 => by exact absurd (nI_lt hi hn) c6)
  refine pw_iload_n (pc2 := 17) dJ3_checkIndex_8e157_16 rfl rfl 0 rfl ?_
  refine pw_iret dJ3_checkIndex_8e157_17 rfl (by first | rfl | assumption | simp [narrow]) ?_
  exact ⟨rfl, rfl⟩
set_option maxHeartbeats 4000000 in
set_option maxRecDepth 100000 in
theorem c_checkIndex (G : hG) (h : hp) {i n : Nat} (hi : i < n) (hn : n < 2147483648) : PMet G MJ15_checkIndex_7cf53 1 0 0 [.int (nI i), .int (nI n)] h (det (some (.int (nI i))) h) noX := by
  refine PMet.of rfl (Nat.le_of_ble_eq_true rfl) (fun d hd => ?_)
  refine PW.sub (L2 := [(0, Value.int (nI i)), (1, Value.int (nI n))]) [0, 1] rfl ?_
  refine pw_iload_n (pc2 := 1) dJ15_checkIndex_7cf53_0 rfl rfl 0 rfl ?_
  refine pw_iload_n (pc2 := 2) dJ15_checkIndex_7cf53_1 rfl rfl 1 rfl ?_
  refine pw_null (pc2 := 3) dJ15_checkIndex_7cf53_2 rfl ?_
  refine pw_callS1 (pc2 := 6) (c_checkIndexP G h hi hn) cs_J15_105 rfl dJ15_checkIndex_7cf53_3 rfl (by omega) rfl (by first | decide | simp [cat_rf, Value.category]) ?_
  refine pw_iret dJ15_checkIndex_7cf53_6 rfl (by first | rfl | assumption | simp [narrow]) ?_
  exact ⟨rfl, rfl⟩
set_option maxHeartbeats 4000000 in
set_option maxRecDepth 100000 in
theorem c_lelem (G : hG) (h : hp) {l n i : Nat} {f : Nat → Nat} (hl : isL G h l n f) (hi : i < n) : PMet G MJx4a65c_elementData_915e3 0 0 0 [.ref l, .int (nI i)] h (det (some (.ref (f i))) h) noX := by
  obtain ⟨mc, ed, cap, g, e1, e2, h3, h4, h5⟩ := hl
  refine PMet.of rfl (Nat.le_of_ble_eq_true rfl) (fun d hd => ?_)
  refine PW.sub (L2 := [(0, Value.ref l), (1, Value.int (nI i))]) [0, 1] rfl ?_
  refine pw_aload_n (pc2 := 1) dJx4a65c_elementData_915e3_0 rfl rfl 0 rfl (by first | exact rf_ref _ | exact rf_opt _ | exact rf_nul) ?_
  refine pw_get (pc2 := 4) kJx4a65c (k := 1) (by decide) rfl fl_Jx4a65c_9 e1 rfl dJx4a65c_elementData_915e3_1 rfl ?_
  refine pw_iload_n (pc2 := 5) dJx4a65c_elementData_915e3_4 rfl rfl 1 rfl ?_
  refine pw_aaldN (pc2 := 6) 5 rfl rfl e2 (by first | assumption | omega) (by omega) dJx4a65c_elementData_915e3_5 rfl ?_
  refine pw_aret dJx4a65c_elementData_915e3_6 rfl (by first | exact Or.inl ⟨_, rfl⟩ | exact Or.inr ⟨_, rfl⟩) (by first | exact rf_ref _ | exact rf_opt _ | exact rf_nul) ?_
  exact ⟨by rw [h5 i hi]; rfl, rfl⟩
set_option maxHeartbeats 4000000 in
set_option maxRecDepth 100000 in
theorem c_lget (G : hG) (h : hp) {l n i : Nat} {f : Nat → Nat} (hl : isL G h l n f) (hi : i < n) : PMet G MJx4a65c_get_915e3 2 0 0 [.ref l, .int (nI i)] h (det (some (.ref (f i))) h) noX := by
  have hl0 := hl
  obtain ⟨mc, ed, cap, g, e1, e2, h3, h4, h5⟩ := hl
  have hl := hl0
  refine PMet.of rfl (Nat.le_of_ble_eq_true rfl) (fun d hd => ?_)
  refine PW.sub (L2 := [(0, Value.ref l), (1, Value.int (nI i))]) [0, 1] rfl ?_
  refine pw_iload_n (pc2 := 1) dJx4a65c_get_915e3_0 rfl rfl 1 rfl ?_
  refine pw_aload_n (pc2 := 2) dJx4a65c_get_915e3_1 rfl rfl 0 rfl (by first | exact rf_ref _ | exact rf_opt _ | exact rf_nul) ?_
  refine pw_get (pc2 := 5) kJx4a65c (k := 2) (by decide) rfl fl_Jx4a65c_48 e1 rfl dJx4a65c_get_915e3_2 rfl ?_
  refine pw_callS1 (pc2 := 8) (c_checkIndex G h hi (by omega)) cs_Jx4a65c_118 rfl dJx4a65c_get_915e3_5 rfl (by omega) rfl (by first | decide | simp [cat_rf, Value.category]) ?_
  refine pw_pop (pc2 := 9) dJx4a65c_get_915e3_8 rfl (by first | rfl | exact cat_rf _) ?_
  refine pw_aload_n (pc2 := 10) dJx4a65c_get_915e3_9 rfl rfl 0 rfl (by first | exact rf_ref _ | exact rf_opt _ | exact rf_nul) ?_
  refine pw_iload_n (pc2 := 11) dJx4a65c_get_915e3_10 rfl rfl 1 rfl ?_
  refine pw_callV1 (pc2 := 14) (c_lelem G h hl hi) cs_Jx4a65c_123 rfl rfl e1 dJx4a65c_get_915e3_11 rfl (by omega) rfl (by first | decide | simp [cat_rf, Value.category]) ?_
  refine pw_aret dJx4a65c_get_915e3_14 rfl (by first | exact Or.inl ⟨_, rfl⟩ | exact Or.inr ⟨_, rfl⟩) (by first | exact rf_ref _ | exact rf_opt _ | exact rf_nul) ?_
  exact ⟨rfl, rfl⟩
