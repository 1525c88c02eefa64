/-! the reference: its small methods -/
section PWV
variable {G : hG} {M : hMI} {d : Nat} {Ps : hAmb} {E : hEnd} {kc ks pc : Nat} {L : List (Nat × Value)} {S : List Value} {h : hp}
theorem pw_topV {v w : Value} (e : v = w) (k : PW G M d Ps E kc ks pc L (w :: S) h) : PW G M d Ps E kc ks pc L (v :: S) h := e ▸ k
end PWV
theorem rowv {n i : Nat} {F : Nat → Nat} (hi : i < n) : va_rf ((fun j => if j < n then some (F j) else none) i) = .ref (F i) := by
  show va_rf (if i < n then some (F i) else none) = _
  rw [if_pos hi]
  rfl
/-- the reference's counts -/
def MB (σ : sT) : Prop := σ.1 60 0 0 = nI (npk σ) ∧ σ.1 60 0 1 = nI (nrl σ) ∧ σ.1 60 0 2 = nI (nts σ)
def thS (σ : sT) (v : Int32) : sT := setI σ 60 0 (upd (σ.1 60 0) 7 v)
theorem oth_le {n : Int32} {k : Nat} (hk : k < 2147483648) : n ≤ oth k ↔ n < nI k := by
  have h1 : (nI k).toInt = (k : Int) := nI_toInt (by omega)
  cases k with
  | zero =>
    have e : (oth 0).toInt = -1 := rfl
    rw [Int32.le_iff_toInt_le, Int32.lt_iff_toInt_lt, e, h1]
    omega
  | succ k =>
    have e : (oth (k + 1)).toInt = (k : Int) := by rw [oth_s]; exact nI_toInt (by omega)
    rw [Int32.le_iff_toInt_le, Int32.lt_iff_toInt_lt, e, h1]
    omega
theorem inR_oth {n : Int32} {k : Nat} (hk : k < 2147483648) : (0 ≤ n ∧ n ≤ oth k) ↔ inR n k := by
  unfold inR
  rw [oth_le hk]
/-- the needs as bits -/
def bts (le : Nat → Int32) : Nat → Int32
  | 0 => 0
  | k + 1 => bts le k ||| (if 0 < le k then (1 : Int32) <<< (nI k &&& 31) else 0)
set_option maxHeartbeats 4000000 in
set_option maxRecDepth 100000 in
theorem c_in (G : hG) (h : hp) (v a b : Int32) : PMet G MX10_in 0 0 0 [.int v, .int a, .int b] h (bR (a ≤ v ∧ v ≤ b) h) noX := by
  refine PMet.of (by decide +kernel) (Nat.le_of_ble_eq_true rfl) (fun d hd => ?_)
  refine PW.sub (L2 := [(0, Value.int v), (1, Value.int a), (2, Value.int b)]) [0, 1, 2] rfl ?_
  refine pw_iload_n (pc2 := 1) dX10_in_0 rfl rfl 0 rfl ?_
  refine pw_iload_n (pc2 := 2) dX10_in_1 rfl rfl 1 rfl ?_
  refine pw_icmp_lt (tgt := 14) (pc2 := 5) dX10_in_2 (by decide) rfl (fun c2 => ?_) (fun c2 => ?_)
  · refine pw_iconst (pc2 := 15) (v := 0) dX10_in_14 rfl (by decide) ?_
    refine pw_iret dX10_in_15 rfl (by first | rfl | assumption | simp [narrow]) ?_
    first | exact bR_0 (fun q => absurd c2 (Int32.not_lt.mpr q.1)) | exact bR_0 (fun q => absurd c7 (Int32.not_lt.mpr q.2))
  · refine pw_iload_n (pc2 := 6) dX10_in_5 rfl rfl 0 rfl ?_
    refine pw_iload_n (pc2 := 7) dX10_in_6 rfl rfl 2 rfl ?_
    refine pw_icmp_gt (tgt := 14) (pc2 := 10) dX10_in_7 (by decide) rfl (fun c7 => ?_) (fun c7 => ?_)
    · refine pw_iconst (pc2 := 15) (v := 0) dX10_in_14 rfl (by decide) ?_
      refine pw_iret dX10_in_15 rfl (by first | rfl | assumption | simp [narrow]) ?_
      first | exact bR_0 (fun q => absurd c2 (Int32.not_lt.mpr q.1)) | exact bR_0 (fun q => absurd c7 (Int32.not_lt.mpr q.2))
    · refine pw_iconst (pc2 := 11) (v := 1) dX10_in_10 rfl (by decide) ?_
      refine pw_goto (tgt := 15) dX10_in_11 (by decide) ?_
      refine pw_iret dX10_in_15 rfl (by first | rfl | assumption | simp [narrow]) ?_
      exact bR_1 ⟨Int32.not_lt.mp c2, Int32.not_lt.mp c7⟩
set_option maxHeartbeats 4000000 in
set_option maxRecDepth 100000 in
theorem c_thrown (G : hG) (h : hp) {A : aT} {σ : sT} (H : WM G h A σ) : PMet G MX10_thrown 0 0 0 [.ref (A 60 0)] h (det (some (.int (σ.1 60 0 7))) h) noX := by
  refine PMet.of (by decide +kernel) (Nat.le_of_ble_eq_true rfl) (fun d hd => ?_)
  refine PW.sub (L2 := [(0, Value.ref (A 60 0))]) [0] rfl ?_
  refine pw_aload_n (pc2 := 1) dX10_thrown_0 rfl rfl 0 rfl (by first | exact rf_ref _ | exact rf_opt _ | exact rf_nul) ?_
  refine pw_get (pc2 := 4) kX10 (k := 37) (by decide) rfl fl_X10_109 H.c60 rfl dX10_thrown_1 rfl ?_
  refine pw_iret dX10_thrown_4 rfl (by first | rfl | assumption | simp [narrow]) ?_
  exact ⟨rfl, rfl⟩
set_option maxHeartbeats 4000000 in
set_option maxRecDepth 100000 in
theorem c_raises (G : hG) (h : hp) {A : aT} {σ : sT} (H : WM G h A σ) (v : Int32) : PMet G MX10_raises 0 0 0 [.ref (A 60 0), .int v] h (QSM G h A (.int 0) (thS σ v)) noX := by
  refine PMet.of (by decide +kernel) (Nat.le_of_ble_eq_true rfl) (fun d hd => ?_)
  refine PW.sub (L2 := [(0, Value.ref (A 60 0)), (1, Value.int v)]) [0, 1] rfl ?_
  refine pw_aload_n (pc2 := 1) dX10_raises_0 rfl rfl 0 rfl (by first | exact rf_ref _ | exact rf_opt _ | exact rf_nul) ?_
  refine pw_iload_n (pc2 := 2) dX10_raises_1 rfl rfl 1 rfl ?_
  refine pw_put (pc2 := 5) kX10 (k := 37) (by decide) rfl rfl fl_X10_109 H.c60 (by first | decide | simp) (by first | rfl | exact nar_rf _ _) (by first | rfl | exact fit_rf _ _) dX10_raises_2 rfl ?_
  refine pw_iconst (pc2 := 6) (v := 0) dX10_raises_5 rfl (by decide) ?_
  refine pw_iret dX10_raises_6 rfl (by first | rfl | assumption | simp [narrow]) ?_
  obtain ⟨K1, FK1⟩ := H.wIF (FM.rfl') (t := 60) (i := 0) (f := (upd (σ.1 60 0) 7 v)) rfl (by decide) (iv_setI H.iv (by decide)) rfl
  exact ⟨rfl, K1, FK1⟩
set_option maxHeartbeats 4000000 in
set_option maxRecDepth 100000 in
theorem c_mispk (G : hG) (h : hp) {A : aT} {σ : sT} (H : WM G h A σ) (hb : MB σ) (n : Int32) : PMet G MX10_isPackage 1 0 0 [.ref (A 60 0), .int n] h (bR (inR n (npk σ)) h) noX := by
  have hnp := H.iv.1
  refine PMet.of (by decide +kernel) (Nat.le_of_ble_eq_true rfl) (fun d hd => ?_)
  refine PW.sub (L2 := [(0, Value.ref (A 60 0)), (1, Value.int n)]) [0, 1] rfl ?_
  refine pw_iload_n (pc2 := 1) dX10_isPackage_0 rfl rfl 1 rfl ?_
  refine pw_iconst (pc2 := 2) (v := 0) dX10_isPackage_1 rfl (by decide) ?_
  refine pw_aload_n (pc2 := 3) dX10_isPackage_2 rfl rfl 0 rfl (by first | exact rf_ref _ | exact rf_opt _ | exact rf_nul) ?_
  refine pw_get (pc2 := 6) kX10 (k := 16) (by decide) rfl fl_X10_112 H.c60 rfl dX10_isPackage_3 rfl ?_
  refine pw_topE hb.1 ?_
  refine pw_iconst (pc2 := 7) (v := 1) dX10_isPackage_6 rfl (by decide) ?_
  refine pw_isub (pc2 := 8) dX10_isPackage_7 rfl ?_
  refine pw_callSb (pc2 := 11) (c_in G _ n 0 (oth (npk σ))) cs_X10_115 rfl dX10_isPackage_8 rfl (by omega) rfl (by first | decide | simp [cat_rf, Value.category]) (fun q8 => ?_) (fun q8 => ?_)
  · refine pw_iret dX10_isPackage_11 rfl (by first | rfl | assumption | simp [narrow]) ?_
    exact bR_1 ((inR_oth (by omega)).mp q8)
  · refine pw_iret dX10_isPackage_11 rfl (by first | rfl | assumption | simp [narrow]) ?_
    exact bR_0 (fun z => q8 ((inR_oth (by omega)).mpr z))
set_option maxHeartbeats 4000000 in
set_option maxRecDepth 100000 in
theorem c_lacks (G : hG) (h : hp) {A : aT} {σ : sT} (H : WM G h A σ) (hb : MB σ) (n : Int32) : PMet G MX10_lacks 2 0 0 [.ref (A 60 0), .int n] h (fun r h2 => (inR n (npk σ) ∧ QSM G h A (.int 0) (thS σ 0) r h2) ∨ (¬ inR n (npk σ) ∧ QSM G h A (.int 1) (thS σ 1) r h2)) noX := by
  refine PMet.of (by decide +kernel) (Nat.le_of_ble_eq_true rfl) (fun d hd => ?_)
  refine PW.sub (L2 := [(0, Value.ref (A 60 0)), (1, Value.int n)]) [0, 1] rfl ?_
  refine pw_aload_n (pc2 := 1) dX10_lacks_0 rfl rfl 0 rfl (by first | exact rf_ref _ | exact rf_opt _ | exact rf_nul) ?_
  refine pw_aload_n (pc2 := 2) dX10_lacks_1 rfl rfl 0 rfl (by first | exact rf_ref _ | exact rf_opt _ | exact rf_nul) ?_
  refine pw_iload_n (pc2 := 3) dX10_lacks_2 rfl rfl 1 rfl ?_
  refine pw_callVb (pc2 := 6) (c_mispk G _ H hb n) cs_X10_119 rfl rfl H.c60 dX10_lacks_3 rfl (by omega) rfl (by first | decide | simp [cat_rf, Value.category]) (fun q3 => ?_) (fun q3 => ?_)
  · refine pw_if_eq (tgt := 13) (pc2 := 9) dX10_lacks_6 (by decide) rfl (fun c6 => by exact absurd c6 (by decide)) (fun _ => ?_)
    refine pw_iconst (pc2 := 10) (v := 0) dX10_lacks_9 rfl (by decide) ?_
    refine pw_goto (tgt := 14) dX10_lacks_10 (by decide) ?_
    refine pw_put (pc2 := 17) kX10 (k := 37) (by decide) rfl rfl fl_X10_109 H.c60 (by first | decide | simp) (by first | rfl | exact nar_rf _ _) (by first | rfl | exact fit_rf _ _) dX10_lacks_14 rfl ?_
    obtain ⟨K1, FK1⟩ := H.wIF (FM.rfl') (t := 60) (i := 0) (f := (upd (σ.1 60 0) 7 0)) rfl (by decide) (iv_setI H.iv (by decide)) rfl
    obtain ⟨h2, eh2⟩ : ∃ z : Nat → Option hE, z = va_up h (A 60 0) (some (oB 13 [.ref (A 61 0), .ref (A 62 0), .ref (A 63 0), .ref (A 64 0), .ref (A 65 0), .ref (A 66 0), .ref (A 67 0), .ref (A 68 0), .ref (A 69 0), .ref (A 70 0), .ref (A 71 0), .ref (A 72 0), .ref (A 73 0), .ref (A 74 0), .ref (A 75 0), .ref (A 76 0), .int (σ.1 60 0 0), .ref (A 77 0), .ref (A 78 0), .ref (A 79 0), .ref (A 80 0), .ref (A 81 0), .ref (A 82 0), .ref (A 83 0), .int (σ.1 60 0 1), .ref (A 84 0), .ref (A 85 0), .ref (A 86 0), .ref (A 87 0), .ref (A 88 0), .int (σ.1 60 0 2), .int (σ.1 60 0 3), .ref (A 89 0), .int (σ.1 60 0 4), .int (σ.1 60 0 5), .int (σ.1 60 0 6), .ref (A 90 0), .int 0])) := ⟨_, rfl⟩
    refine PW.heap (h' := h2) eh2.symm ?_
    replace K1 : WM G h2 A (thS σ 0) := by rw [eh2]; exact K1
    replace FK1 : FM A h h2 := by rw [eh2]; exact FK1
    have c60 : h2 (A 60 0) = some (oB 13 [.ref (A 61 0), .ref (A 62 0), .ref (A 63 0), .ref (A 64 0), .ref (A 65 0), .ref (A 66 0), .ref (A 67 0), .ref (A 68 0), .ref (A 69 0), .ref (A 70 0), .ref (A 71 0), .ref (A 72 0), .ref (A 73 0), .ref (A 74 0), .ref (A 75 0), .ref (A 76 0), .int (σ.1 60 0 0), .ref (A 77 0), .ref (A 78 0), .ref (A 79 0), .ref (A 80 0), .ref (A 81 0), .ref (A 82 0), .ref (A 83 0), .int (σ.1 60 0 1), .ref (A 84 0), .ref (A 85 0), .ref (A 86 0), .ref (A 87 0), .ref (A 88 0), .int (σ.1 60 0 2), .int (σ.1 60 0 3), .ref (A 89 0), .int (σ.1 60 0 4), .int (σ.1 60 0 5), .int (σ.1 60 0 6), .ref (A 90 0), .int 0]) := K1.c60
    refine pw_aload_n (pc2 := 18) dX10_lacks_17 rfl rfl 0 rfl (by first | exact rf_ref _ | exact rf_opt _ | exact rf_nul) ?_
    refine pw_get (pc2 := 21) kX10 (k := 37) (by decide) rfl fl_X10_109 c60 rfl dX10_lacks_18 rfl ?_
    refine pw_if_le (tgt := 28) (pc2 := 24) dX10_lacks_21 (by decide) rfl (fun _ => ?_) (fun c21 => by exact absurd (by decide) c21)
    refine pw_iconst (pc2 := 29) (v := 0) dX10_lacks_28 rfl (by decide) ?_
    refine pw_iret dX10_lacks_29 rfl (by first | rfl | assumption | simp [narrow]) ?_
    exact Or.inl ⟨q3, rfl, K1, FK1⟩
  · refine pw_if_eq (tgt := 13) (pc2 := 9) dX10_lacks_6 (by decide) rfl (fun _ => ?_) (fun c6 => by exact absurd (by decide) c6)
    refine pw_iconst (pc2 := 14) (v := 1) dX10_lacks_13 rfl (by decide) ?_
    refine pw_put (pc2 := 17) kX10 (k := 37) (by decide) rfl rfl fl_X10_109 H.c60 (by first | decide | simp) (by first | rfl | exact nar_rf _ _) (by first | rfl | exact fit_rf _ _) dX10_lacks_14 rfl ?_
    obtain ⟨K1, FK1⟩ := H.wIF (FM.rfl') (t := 60) (i := 0) (f := (upd (σ.1 60 0) 7 1)) rfl (by decide) (iv_setI H.iv (by decide)) rfl
    obtain ⟨h2, eh2⟩ : ∃ z : Nat → Option hE, z = va_up h (A 60 0) (some (oB 13 [.ref (A 61 0), .ref (A 62 0), .ref (A 63 0), .ref (A 64 0), .ref (A 65 0), .ref (A 66 0), .ref (A 67 0), .ref (A 68 0), .ref (A 69 0), .ref (A 70 0), .ref (A 71 0), .ref (A 72 0), .ref (A 73 0), .ref (A 74 0), .ref (A 75 0), .ref (A 76 0), .int (σ.1 60 0 0), .ref (A 77 0), .ref (A 78 0), .ref (A 79 0), .ref (A 80 0), .ref (A 81 0), .ref (A 82 0), .ref (A 83 0), .int (σ.1 60 0 1), .ref (A 84 0), .ref (A 85 0), .ref (A 86 0), .ref (A 87 0), .ref (A 88 0), .int (σ.1 60 0 2), .int (σ.1 60 0 3), .ref (A 89 0), .int (σ.1 60 0 4), .int (σ.1 60 0 5), .int (σ.1 60 0 6), .ref (A 90 0), .int 1])) := ⟨_, rfl⟩
    refine PW.heap (h' := h2) eh2.symm ?_
    replace K1 : WM G h2 A (thS σ 1) := by rw [eh2]; exact K1
    replace FK1 : FM A h h2 := by rw [eh2]; exact FK1
    have c60 : h2 (A 60 0) = some (oB 13 [.ref (A 61 0), .ref (A 62 0), .ref (A 63 0), .ref (A 64 0), .ref (A 65 0), .ref (A 66 0), .ref (A 67 0), .ref (A 68 0), .ref (A 69 0), .ref (A 70 0), .ref (A 71 0), .ref (A 72 0), .ref (A 73 0), .ref (A 74 0), .ref (A 75 0), .ref (A 76 0), .int (σ.1 60 0 0), .ref (A 77 0), .ref (A 78 0), .ref (A 79 0), .ref (A 80 0), .ref (A 81 0), .ref (A 82 0), .ref (A 83 0), .int (σ.1 60 0 1), .ref (A 84 0), .ref (A 85 0), .ref (A 86 0), .ref (A 87 0), .ref (A 88 0), .int (σ.1 60 0 2), .int (σ.1 60 0 3), .ref (A 89 0), .int (σ.1 60 0 4), .int (σ.1 60 0 5), .int (σ.1 60 0 6), .ref (A 90 0), .int 1]) := K1.c60
    refine pw_aload_n (pc2 := 18) dX10_lacks_17 rfl rfl 0 rfl (by first | exact rf_ref _ | exact rf_opt _ | exact rf_nul) ?_
    refine pw_get (pc2 := 21) kX10 (k := 37) (by decide) rfl fl_X10_109 c60 rfl dX10_lacks_18 rfl ?_
    refine pw_if_le (tgt := 28) (pc2 := 24) dX10_lacks_21 (by decide) rfl (fun c21 => by exact absurd c21 (by decide)) (fun _ => ?_)
    refine pw_iconst (pc2 := 25) (v := 1) dX10_lacks_24 rfl (by decide) ?_
    refine pw_goto (tgt := 29) dX10_lacks_25 (by decide) ?_
    refine pw_iret dX10_lacks_29 rfl (by first | rfl | assumption | simp [narrow]) ?_
    exact Or.inr ⟨q3, rfl, K1, FK1⟩
set_option maxHeartbeats 4000000 in
set_option maxRecDepth 100000 in
theorem c_noTest (G : hG) (h : hp) {A : aT} {σ : sT} (H : WM G h A σ) (hb : MB σ) (n : Int32) : PMet G MX10_noTest 2 0 0 [.ref (A 60 0), .int n] h (fun r h2 => (inR n (nts σ) ∧ QSM G h A (.int 0) (thS σ 0) r h2) ∨ (¬ inR n (nts σ) ∧ QSM G h A (.int 1) (thS σ 1) r h2)) noX := by
  have hnt := H.iv.2.1
  refine PMet.of (by decide +kernel) (Nat.le_of_ble_eq_true rfl) (fun d hd => ?_)
  refine PW.sub (L2 := [(0, Value.ref (A 60 0)), (1, Value.int n)]) [0, 1] rfl ?_
  refine pw_aload_n (pc2 := 1) dX10_noTest_0 rfl rfl 0 rfl (by first | exact rf_ref _ | exact rf_opt _ | exact rf_nul) ?_
  refine pw_iload_n (pc2 := 2) dX10_noTest_1 rfl rfl 1 rfl ?_
  refine pw_iconst (pc2 := 3) (v := 0) dX10_noTest_2 rfl (by decide) ?_
  refine pw_aload_n (pc2 := 4) dX10_noTest_3 rfl rfl 0 rfl (by first | exact rf_ref _ | exact rf_opt _ | exact rf_nul) ?_
  refine pw_get (pc2 := 7) kX10 (k := 30) (by decide) rfl fl_X10_171 H.c60 rfl dX10_noTest_4 rfl ?_
  refine pw_topE hb.2.2 ?_
  refine pw_iconst (pc2 := 8) (v := 1) dX10_noTest_7 rfl (by decide) ?_
  refine pw_isub (pc2 := 9) dX10_noTest_8 rfl ?_
  refine pw_callSb (pc2 := 12) (c_in G _ n 0 (oth (nts σ))) cs_X10_115 rfl dX10_noTest_9 rfl (by omega) rfl (by first | decide | simp [cat_rf, Value.category]) (fun q9 => ?_) (fun q9 => ?_)
  · refine pw_if_eq (tgt := 19) (pc2 := 15) dX10_noTest_12 (by decide) rfl (fun c12 => by exact absurd c12 (by decide)) (fun _ => ?_)
    refine pw_iconst (pc2 := 16) (v := 0) dX10_noTest_15 rfl (by decide) ?_
    refine pw_goto (tgt := 20) dX10_noTest_16 (by decide) ?_
    refine pw_put (pc2 := 23) kX10 (k := 37) (by decide) rfl rfl fl_X10_109 H.c60 (by first | decide | simp) (by first | rfl | exact nar_rf _ _) (by first | rfl | exact fit_rf _ _) dX10_noTest_20 rfl ?_
    obtain ⟨K1, FK1⟩ := H.wIF (FM.rfl') (t := 60) (i := 0) (f := (upd (σ.1 60 0) 7 0)) rfl (by decide) (iv_setI H.iv (by decide)) rfl
    obtain ⟨h2, eh2⟩ : ∃ z : Nat → Option hE, z = va_up h (A 60 0) (some (oB 13 [.ref (A 61 0), .ref (A 62 0), .ref (A 63 0), .ref (A 64 0), .ref (A 65 0), .ref (A 66 0), .ref (A 67 0), .ref (A 68 0), .ref (A 69 0), .ref (A 70 0), .ref (A 71 0), .ref (A 72 0), .ref (A 73 0), .ref (A 74 0), .ref (A 75 0), .ref (A 76 0), .int (σ.1 60 0 0), .ref (A 77 0), .ref (A 78 0), .ref (A 79 0), .ref (A 80 0), .ref (A 81 0), .ref (A 82 0), .ref (A 83 0), .int (σ.1 60 0 1), .ref (A 84 0), .ref (A 85 0), .ref (A 86 0), .ref (A 87 0), .ref (A 88 0), .int (σ.1 60 0 2), .int (σ.1 60 0 3), .ref (A 89 0), .int (σ.1 60 0 4), .int (σ.1 60 0 5), .int (σ.1 60 0 6), .ref (A 90 0), .int 0])) := ⟨_, rfl⟩
    refine PW.heap (h' := h2) eh2.symm ?_
    replace K1 : WM G h2 A (thS σ 0) := by rw [eh2]; exact K1
    replace FK1 : FM A h h2 := by rw [eh2]; exact FK1
    have c60 : h2 (A 60 0) = some (oB 13 [.ref (A 61 0), .ref (A 62 0), .ref (A 63 0), .ref (A 64 0), .ref (A 65 0), .ref (A 66 0), .ref (A 67 0), .ref (A 68 0), .ref (A 69 0), .ref (A 70 0), .ref (A 71 0), .ref (A 72 0), .ref (A 73 0), .ref (A 74 0), .ref (A 75 0), .ref (A 76 0), .int (σ.1 60 0 0), .ref (A 77 0), .ref (A 78 0), .ref (A 79 0), .ref (A 80 0), .ref (A 81 0), .ref (A 82 0), .ref (A 83 0), .int (σ.1 60 0 1), .ref (A 84 0), .ref (A 85 0), .ref (A 86 0), .ref (A 87 0), .ref (A 88 0), .int (σ.1 60 0 2), .int (σ.1 60 0 3), .ref (A 89 0), .int (σ.1 60 0 4), .int (σ.1 60 0 5), .int (σ.1 60 0 6), .ref (A 90 0), .int 0]) := K1.c60
    refine pw_aload_n (pc2 := 24) dX10_noTest_23 rfl rfl 0 rfl (by first | exact rf_ref _ | exact rf_opt _ | exact rf_nul) ?_
    refine pw_get (pc2 := 27) kX10 (k := 37) (by decide) rfl fl_X10_109 c60 rfl dX10_noTest_24 rfl ?_
    refine pw_if_le (tgt := 34) (pc2 := 30) dX10_noTest_27 (by decide) rfl (fun _ => ?_) (fun c27 => by exact absurd (by decide) c27)
    refine pw_iconst (pc2 := 35) (v := 0) dX10_noTest_34 rfl (by decide) ?_
    refine pw_iret dX10_noTest_35 rfl (by first | rfl | assumption | simp [narrow]) ?_
    exact Or.inl ⟨(inR_oth (by omega)).mp q9, rfl, K1, FK1⟩
  · refine pw_if_eq (tgt := 19) (pc2 := 15) dX10_noTest_12 (by decide) rfl (fun _ => ?_) (fun c12 => by exact absurd (by decide) c12)
    refine pw_iconst (pc2 := 20) (v := 1) dX10_noTest_19 rfl (by decide) ?_
    refine pw_put (pc2 := 23) kX10 (k := 37) (by decide) rfl rfl fl_X10_109 H.c60 (by first | decide | simp) (by first | rfl | exact nar_rf _ _) (by first | rfl | exact fit_rf _ _) dX10_noTest_20 rfl ?_
    obtain ⟨K1, FK1⟩ := H.wIF (FM.rfl') (t := 60) (i := 0) (f := (upd (σ.1 60 0) 7 1)) rfl (by decide) (iv_setI H.iv (by decide)) rfl
    obtain ⟨h2, eh2⟩ : ∃ z : Nat → Option hE, z = va_up h (A 60 0) (some (oB 13 [.ref (A 61 0), .ref (A 62 0), .ref (A 63 0), .ref (A 64 0), .ref (A 65 0), .ref (A 66 0), .ref (A 67 0), .ref (A 68 0), .ref (A 69 0), .ref (A 70 0), .ref (A 71 0), .ref (A 72 0), .ref (A 73 0), .ref (A 74 0), .ref (A 75 0), .ref (A 76 0), .int (σ.1 60 0 0), .ref (A 77 0), .ref (A 78 0), .ref (A 79 0), .ref (A 80 0), .ref (A 81 0), .ref (A 82 0), .ref (A 83 0), .int (σ.1 60 0 1), .ref (A 84 0), .ref (A 85 0), .ref (A 86 0), .ref (A 87 0), .ref (A 88 0), .int (σ.1 60 0 2), .int (σ.1 60 0 3), .ref (A 89 0), .int (σ.1 60 0 4), .int (σ.1 60 0 5), .int (σ.1 60 0 6), .ref (A 90 0), .int 1])) := ⟨_, rfl⟩
    refine PW.heap (h' := h2) eh2.symm ?_
    replace K1 : WM G h2 A (thS σ 1) := by rw [eh2]; exact K1
    replace FK1 : FM A h h2 := by rw [eh2]; exact FK1
    have c60 : h2 (A 60 0) = some (oB 13 [.ref (A 61 0), .ref (A 62 0), .ref (A 63 0), .ref (A 64 0), .ref (A 65 0), .ref (A 66 0), .ref (A 67 0), .ref (A 68 0), .ref (A 69 0), .ref (A 70 0), .ref (A 71 0), .ref (A 72 0), .ref (A 73 0), .ref (A 74 0), .ref (A 75 0), .ref (A 76 0), .int (σ.1 60 0 0), .ref (A 77 0), .ref (A 78 0), .ref (A 79 0), .ref (A 80 0), .ref (A 81 0), .ref (A 82 0), .ref (A 83 0), .int (σ.1 60 0 1), .ref (A 84 0), .ref (A 85 0), .ref (A 86 0), .ref (A 87 0), .ref (A 88 0), .int (σ.1 60 0 2), .int (σ.1 60 0 3), .ref (A 89 0), .int (σ.1 60 0 4), .int (σ.1 60 0 5), .int (σ.1 60 0 6), .ref (A 90 0), .int 1]) := K1.c60
    refine pw_aload_n (pc2 := 24) dX10_noTest_23 rfl rfl 0 rfl (by first | exact rf_ref _ | exact rf_opt _ | exact rf_nul) ?_
    refine pw_get (pc2 := 27) kX10 (k := 37) (by decide) rfl fl_X10_109 c60 rfl dX10_noTest_24 rfl ?_
    refine pw_if_le (tgt := 34) (pc2 := 30) dX10_noTest_27 (by decide) rfl (fun c27 => by exact absurd c27 (by decide)) (fun _ => ?_)
    refine pw_iconst (pc2 := 31) (v := 1) dX10_noTest_30 rfl (by decide) ?_
    refine pw_goto (tgt := 35) dX10_noTest_31 (by decide) ?_
    refine pw_iret dX10_noTest_35 rfl (by first | rfl | assumption | simp [narrow]) ?_
    exact Or.inr ⟨fun z => q9 ((inR_oth (by omega)).mpr z), rfl, K1, FK1⟩
set_option maxHeartbeats 4000000 in
set_option maxRecDepth 100000 in
theorem c_needsOf (G : hG) (h : hp) {A : aT} {σ : sT} (H : WM G h A σ) {p : Nat} (hp6 : p < 6) : PMet G MX10_needsOf 0 0 0 [.ref (A 60 0), .int (nI p)] h (det (some (.int (bts (σ.1 91 p) 6))) h) noX := by
  refine PMet.of (by decide +kernel) (Nat.le_of_ble_eq_true rfl) (fun d hd => ?_)
  refine PW.sub (L2 := [(0, Value.ref (A 60 0)), (1, Value.int (nI p))]) [0, 1] rfl ?_
  refine pw_iconst (pc2 := 1) (v := 0) dX10_needsOf_0 rfl (by decide) ?_
  refine pw_istore_n (pc2 := 2) (L2 := [(2, Value.int 0), (0, Value.ref (A 60 0)), (1, Value.int (nI p))]) dX10_needsOf_1 rfl rfl (by decide) rfl ?_
  refine pw_iconst (pc2 := 3) (v := 0) dX10_needsOf_2 rfl (by decide) ?_
  refine pw_istore_n (pc2 := 4) (L2 := [(3, Value.int 0), (2, Value.int 0), (0, Value.ref (A 60 0)), (1, Value.int (nI p))]) dX10_needsOf_3 rfl rfl (by decide) rfl ?_
  have loop : ∀ (k i : Nat) (ac : Int32) (hac : ac = bts (σ.1 91 p) i), i + k = 6 → PW G MX10_needsOf d noA (E0 G (det (some (.int (bts (σ.1 91 p) 6))) h) noX) 0 0 4 [(3, Value.int (nI i)), (2, Value.int ac), (0, Value.ref (A 60 0)), (1, Value.int (nI p))] [] h := by
    intro k
    induction k with
    | zero =>
      intro i ac hac hik
      have hi9 : i = 6 := by omega
      refine pw_iload_n (pc2 := 5) dX10_needsOf_4 rfl rfl 0 rfl ?_
      refine pw_bipush (pc2 := 7) (v := 6) dX10_needsOf_5 rfl (by decide) ?_
      refine pw_icmp_ge (tgt := 37) (pc2 := 10) dX10_needsOf_7 (by decide) rfl (fun _ => ?_) (fun c7 => by exact absurd (by first | (rw [hi9]; exact Int32.le_refl _) | exact fun q => absurd ((l6 (by omega)).mp q) (by omega)) c7)
      refine pw_iload_n (pc2 := 38) dX10_needsOf_37 rfl rfl 1 rfl ?_
      refine pw_iret dX10_needsOf_38 rfl (by first | rfl | assumption | simp [narrow]) ?_
      exact ⟨by rw [hac, hi9], rfl⟩
    | succ k ih =>
      intro i ac hac hik
      have hi9 : i < 6 := by omega
      refine pw_iload_n (pc2 := 5) dX10_needsOf_4 rfl rfl 0 rfl ?_
      refine pw_bipush (pc2 := 7) (v := 6) dX10_needsOf_5 rfl (by decide) ?_
      refine pw_icmp_ge (tgt := 37) (pc2 := 10) dX10_needsOf_7 (by decide) rfl (fun c7 => by exact absurd c7 (by first | (rw [hi9]; exact Int32.le_refl _) | exact fun q => absurd ((l6 (by omega)).mp q) (by omega))) (fun _ => ?_)
      refine pw_iload_n (pc2 := 11) dX10_needsOf_10 rfl rfl 1 rfl ?_
      refine pw_aload_n (pc2 := 12) dX10_needsOf_11 rfl rfl 2 rfl (by first | exact rf_ref _ | exact rf_opt _ | exact rf_nul) ?_
      refine pw_get (pc2 := 15) kX10 (k := 3) (by decide) rfl fl_X10_21 H.c60 rfl dX10_needsOf_12 rfl ?_
      refine pw_iload_n (pc2 := 16) dX10_needsOf_15 rfl rfl 3 rfl ?_
      refine pw_aaldN (pc2 := 17) 6 rfl rfl H.c64 (i := p) (by first | assumption | omega) (by omega) dX10_needsOf_16 rfl ?_
      refine pw_topV (rowv (by first | assumption | omega)) ?_
      refine pw_iload_n (pc2 := 18) dX10_needsOf_17 rfl rfl 0 rfl ?_
      refine pw_ialdN (pc2 := 19) (H.c91 hp6) (i := i) (by first | assumption | omega) (by omega) dX10_needsOf_18 rfl ?_
      refine pw_if_le (tgt := 28) (pc2 := 22) dX10_needsOf_19 (by decide) rfl (fun c19 => ?_) (fun c19 => ?_)
      · refine pw_iconst (pc2 := 29) (v := 0) dX10_needsOf_28 rfl (by decide) ?_
        refine pw_ior (pc2 := 30) dX10_needsOf_29 rfl ?_
        refine pw_topi (fun v1 ev1 => ?_)
        refine pw_istore_n (pc2 := 31) (L2 := [(2, Value.int v1), (3, Value.int (nI i)), (0, Value.ref (A 60 0)), (1, Value.int (nI p))]) dX10_needsOf_30 rfl rfl (by decide) rfl ?_
        refine pw_iinc (pc2 := 34) (v := nI (i + 1)) (L2 := [(3, Value.int (nI (i + 1))), (2, Value.int v1), (0, Value.ref (A 60 0)), (1, Value.int (nI p))]) dX10_needsOf_31 rfl 1 rfl (by show nI _ + 1 = nI _; exact nI_1 _) (by decide) rfl ?_
        refine pw_goto (tgt := 4) dX10_needsOf_34 (by decide) ?_
        refine PW.sub (L2 := [(3, Value.int (nI (i + 1))), (2, Value.int v1), (0, Value.ref (A 60 0)), (1, Value.int (nI p))]) [0, 1, 2, 3] rfl ?_
        refine ih (i + 1) v1 ?_ (by omega)
        rw [ev1, hac, show bts (σ.1 91 p) (i + 1) = bts (σ.1 91 p) i ||| (if 0 < σ.1 91 p i then (1 : Int32) <<< (nI i &&& 31) else 0) from rfl]
        first | rw [if_pos (Int32.not_le.mp c19)] | rw [if_neg (Int32.not_lt.mpr c19)]
      · refine pw_iconst (pc2 := 23) (v := 1) dX10_needsOf_22 rfl (by decide) ?_
        refine pw_iload_n (pc2 := 24) dX10_needsOf_23 rfl rfl 0 rfl ?_
        refine pw_ishl (pc2 := 25) dX10_needsOf_24 rfl ?_
        refine pw_goto (tgt := 29) dX10_needsOf_25 (by decide) ?_
        refine pw_ior (pc2 := 30) dX10_needsOf_29 rfl ?_
        refine pw_topi (fun v3 ev3 => ?_)
        refine pw_istore_n (pc2 := 31) (L2 := [(2, Value.int v3), (3, Value.int (nI i)), (0, Value.ref (A 60 0)), (1, Value.int (nI p))]) dX10_needsOf_30 rfl rfl (by decide) rfl ?_
        refine pw_iinc (pc2 := 34) (v := nI (i + 1)) (L2 := [(3, Value.int (nI (i + 1))), (2, Value.int v3), (0, Value.ref (A 60 0)), (1, Value.int (nI p))]) dX10_needsOf_31 rfl 1 rfl (by show nI _ + 1 = nI _; exact nI_1 _) (by decide) rfl ?_
        refine pw_goto (tgt := 4) dX10_needsOf_34 (by decide) ?_
        refine PW.sub (L2 := [(3, Value.int (nI (i + 1))), (2, Value.int v3), (0, Value.ref (A 60 0)), (1, Value.int (nI p))]) [0, 1, 2, 3] rfl ?_
        refine ih (i + 1) v3 ?_ (by omega)
        rw [ev3, hac, show bts (σ.1 91 p) (i + 1) = bts (σ.1 91 p) i ||| (if 0 < σ.1 91 p i then (1 : Int32) <<< (nI i &&& 31) else 0) from rfl]
        first | rw [if_pos (Int32.not_le.mp c19)] | rw [if_neg (Int32.not_lt.mpr c19)]
  refine PW.sub (L2 := [(3, Value.int 0), (2, Value.int 0), (0, Value.ref (A 60 0)), (1, Value.int (nI p))]) [0, 1, 2, 3] rfl ?_
  exact loop 6 0 0 rfl (by omega)
