/-! PackageForge: what the calls look up and refuse -/
abbrev xIO : String := "java/lang/IndexOutOfBoundsException"
abbrev xIA : String := "java/lang/IllegalArgumentException"
abbrev xIS : String := "java/lang/IllegalStateException"
abbrev xUO : String := "java/lang/UnsupportedOperationException"
abbrev xAR : String := "java/lang/ArithmeticException"
/-- an exception of this class, where P holds; the heap is as it was -/
def tX (c : String) (P : Prop) (h : hp) : String → hp → Prop := fun C h' => C = c ∧ h' = h ∧ P
def inR (n : Int32) (k : Nat) : Prop := 0 ≤ n ∧ n < nI k
theorem inR_ex {n : Int32} {k : Nat} (hk : k < 2147483648) (h : inR n k) : ∃ p, p < k ∧ n = nI p := by
  obtain ⟨j, hj, rfl⟩ := nI_of (Int32.not_lt.mpr h.1)
  exact ⟨j, (nI_ltI hj (by omega)).mp h.2, rfl⟩
theorem inR_of {p k : Nat} (hk : k < 2147483648) (h : p < k) : inR (nI p) k := ⟨nI_pos' (by omega), nI_lt h (by omega)⟩
theorem inR_of' {p k : Nat} (hp : p < 2147483648) (hk : k < 2147483648) (h : inR (nI p) k) : p < k := (nI_ltI hp (by omega)).mp h.2
set_option maxHeartbeats 4000000 in
set_option maxRecDepth 100000 in
theorem c_chkO (G : hG) (h : hp) (o : Int32) : PMet G MX9_checkOwner 2 1 6 [.int o] h (fun r h2 => r = none ∧ h = h2 ∧ (0 ≤ o ∧ o < 3)) (tX xIA (¬ (0 ≤ o ∧ o < 3)) h) := by
  refine PMet.of (by decide +kernel) (Nat.le_of_ble_eq_true rfl) (fun d hd => ?_)
  refine PW.sub (L2 := [(0, Value.int o)]) [0] rfl ?_
  refine pw_iload_n (pc2 := 1) dX9_checkOwner_0 rfl rfl 0 rfl ?_
  refine pw_callSb (pc2 := 4) (c_isOwner G _ o) cs_X9_300 rfl dX9_checkOwner_1 rfl (by omega) rfl (by first | decide | simp [cat_rf, Value.category]) (fun q1 => ?_) (fun q1 => ?_)
  · refine pw_if_ne (tgt := 18) (pc2 := 7) dX9_checkOwner_4 (by decide) rfl (fun _ => ?_) (fun c4 => by exact absurd c4 (by decide))
    refine pw_vret dX9_checkOwner_18 rfl ?_
    exact ⟨rfl, rfl, q1⟩
  · refine pw_if_ne (tgt := 18) (pc2 := 7) dX9_checkOwner_4 (by decide) rfl (fun c4 => by exact absurd (by decide) c4) (fun _ => ?_)
    exact pw_throwW rfl ts_303 dX9_checkOwner_7 dX9_checkOwner_10 dX9_checkOwner_11 dX9_checkOwner_14 dX9_checkOwner_17 (by first | decide | simp [cat_rf, Value.category]) (by exact ⟨rfl, rfl, q1⟩)
set_option maxHeartbeats 4000000 in
set_option maxRecDepth 100000 in
theorem c_chkP (G : hG) (h : hp) {A : aT} {σ : sT} (H : W9 G h A σ) (n : Int32) : PMet G MX9_checkPackage 3 1 6 [.ref (A 0 0), .int n] h (fun r h2 => r = none ∧ h = h2 ∧ inR n (npk σ)) (tX xIO (¬ inR n (npk σ)) h) := by
  refine PMet.of (by decide +kernel) (Nat.le_of_ble_eq_true rfl) (fun d hd => ?_)
  refine PW.sub (L2 := [(0, Value.ref (A 0 0)), (1, Value.int n)]) [0, 1] rfl ?_
  refine pw_iload_n (pc2 := 1) dX9_checkPackage_0 rfl rfl 1 rfl ?_
  refine pw_if_lt (tgt := 15) (pc2 := 4) dX9_checkPackage_1 (by decide) rfl (fun c1 => ?_) (fun c1 => ?_)
  · exact pw_throwW rfl ts_307 dX9_checkPackage_15 dX9_checkPackage_18 dX9_checkPackage_19 dX9_checkPackage_22 dX9_checkPackage_25 (by first | decide | simp [cat_rf, Value.category]) (by exact ⟨rfl, rfl, (by first | exact fun q => absurd c1 (Int32.not_lt.mpr q.1) | exact fun q => c12 q.2)⟩)
  · refine pw_iload_n (pc2 := 5) dX9_checkPackage_4 rfl rfl 1 rfl ?_
    refine pw_aload_n (pc2 := 6) dX9_checkPackage_5 rfl rfl 0 rfl (by first | exact rf_ref _ | exact rf_opt _ | exact rf_nul) ?_
    refine pw_get (pc2 := 9) kX9 (k := 0) (by decide) rfl fl_X9_10 H.c0 rfl dX9_checkPackage_6 rfl ?_
    refine pw_callV1 (pc2 := 12) (c_lsize G _ H.lp) cs_X9_44 rfl rfl H.c1 dX9_checkPackage_9 rfl (by omega) rfl (by first | decide | simp [cat_rf, Value.category]) ?_
    refine pw_icmp_lt (tgt := 26) (pc2 := 15) dX9_checkPackage_12 (by decide) rfl (fun c12 => ?_) (fun c12 => ?_)
    · refine pw_vret dX9_checkPackage_26 rfl ?_
      exact ⟨rfl, rfl, Int32.not_lt.mp c1, c12⟩
    · exact pw_throwW rfl ts_307 dX9_checkPackage_15 dX9_checkPackage_18 dX9_checkPackage_19 dX9_checkPackage_22 dX9_checkPackage_25 (by first | decide | simp [cat_rf, Value.category]) (by exact ⟨rfl, rfl, (by first | exact fun q => absurd c1 (Int32.not_lt.mpr q.1) | exact fun q => c12 q.2)⟩)
set_option maxHeartbeats 4000000 in
set_option maxRecDepth 100000 in
theorem c_pkat (G : hG) (h : hp) {A : aT} {σ : sT} (H : W9 G h A σ) (n : Int32) : PMet G MX9_packAt 4 1 6 [.ref (A 0 0), .int n] h (fun r h2 => h = h2 ∧ ∃ p, p < npk σ ∧ n = nI p ∧ r = some (.ref (A 20 p))) (tX xIO (¬ inR n (npk σ)) h) := by
  refine PMet.of (by decide +kernel) (Nat.le_of_ble_eq_true rfl) (fun d hd => ?_)
  refine PW.sub (L2 := [(0, Value.ref (A 0 0)), (1, Value.int n)]) [0, 1] rfl ?_
  refine pw_aload_n (pc2 := 1) dX9_packAt_0 rfl rfl 0 rfl (by first | exact rf_ref _ | exact rf_opt _ | exact rf_nul) ?_
  refine pw_iload_n (pc2 := 2) dX9_packAt_1 rfl rfl 1 rfl ?_
  refine pw_callV (pc2 := 5) (c_chkP G _ H n) cs_X9_92 rfl rfl H.c0 dX9_packAt_2 rfl (by omega) rfl (by first | decide | simp [cat_rf, Value.category]) (fun r9 h9 q9 => ?_) (fun Y h9 q9 => px_out rfl (q9))
  obtain ⟨rfl, rfl, hin⟩ := q9
  obtain ⟨p, hp, rfl⟩ := inR_ex (by have := H.iv.1; omega) hin
  refine pw_aload_n (pc2 := 6) dX9_packAt_5 rfl rfl 0 rfl (by first | exact rf_ref _ | exact rf_opt _ | exact rf_nul) ?_
  refine pw_get (pc2 := 9) kX9 (k := 0) (by decide) rfl fl_X9_10 H.c0 rfl dX9_packAt_6 rfl ?_
  refine pw_iload_n (pc2 := 10) dX9_packAt_9 rfl rfl 1 rfl ?_
  refine pw_callV1 (pc2 := 13) (c_lget G _ H.lp (i := p) hp) cs_X9_181 rfl rfl H.c1 dX9_packAt_10 rfl (by omega) rfl (by first | decide | simp [cat_rf, Value.category]) ?_
  refine pw_castS (pc2 := 16) (cj := 7) rfl cl_X9_55 (H.c20 hp) dX9_packAt_13 rfl ?_
  refine pw_aret dX9_packAt_16 rfl (by first | exact Or.inl ⟨_, rfl⟩ | exact Or.inr ⟨_, rfl⟩) (by first | exact rf_ref _ | exact rf_opt _ | exact rf_nul) ?_
  exact ⟨rfl, p, hp, rfl, rfl⟩
set_option maxHeartbeats 4000000 in
set_option maxRecDepth 100000 in
theorem c_tsat (G : hG) (h : hp) {A : aT} {σ : sT} (H : W9 G h A σ) (n : Int32) : PMet G MX9_testAt 4 1 6 [.ref (A 0 0), .int n] h (fun r h2 => h = h2 ∧ ∃ t, t < nts σ ∧ n = nI t ∧ r = some (.ref (A 50 t))) (tX xIO (¬ inR n (nts σ)) h) := by
  refine PMet.of (by decide +kernel) (Nat.le_of_ble_eq_true rfl) (fun d hd => ?_)
  refine PW.sub (L2 := [(0, Value.ref (A 0 0)), (1, Value.int n)]) [0, 1] rfl ?_
  refine pw_iload_n (pc2 := 1) dX9_testAt_0 rfl rfl 1 rfl ?_
  refine pw_if_lt (tgt := 15) (pc2 := 4) dX9_testAt_1 (by decide) rfl (fun c1 => ?_) (fun c1 => ?_)
  · exact pw_throwW rfl ts_310 dX9_testAt_15 dX9_testAt_18 dX9_testAt_19 dX9_testAt_22 dX9_testAt_25 (by first | decide | simp [cat_rf, Value.category]) (by exact ⟨rfl, rfl, (by first | exact fun q => absurd c1 (Int32.not_lt.mpr q.1) | exact fun q => c12 q.2)⟩)
  · refine pw_iload_n (pc2 := 5) dX9_testAt_4 rfl rfl 1 rfl ?_
    refine pw_aload_n (pc2 := 6) dX9_testAt_5 rfl rfl 0 rfl (by first | exact rf_ref _ | exact rf_opt _ | exact rf_nul) ?_
    refine pw_get (pc2 := 9) kX9 (k := 1) (by decide) rfl fl_X9_16 H.c0 rfl dX9_testAt_6 rfl ?_
    refine pw_callV1 (pc2 := 12) (c_lsize G _ H.lt) cs_X9_44 rfl rfl H.c3 dX9_testAt_9 rfl (by omega) rfl (by first | decide | simp [cat_rf, Value.category]) ?_
    refine pw_icmp_lt (tgt := 26) (pc2 := 15) dX9_testAt_12 (by decide) rfl (fun c12 => ?_) (fun c12 => ?_)
    · obtain ⟨t, ht, rfl⟩ := inR_ex (n := n) (k := nts σ) (by have := H.iv.2.1; omega) ⟨Int32.not_lt.mp c1, c12⟩
      refine pw_aload_n (pc2 := 27) dX9_testAt_26 rfl rfl 0 rfl (by first | exact rf_ref _ | exact rf_opt _ | exact rf_nul) ?_
      refine pw_get (pc2 := 30) kX9 (k := 1) (by decide) rfl fl_X9_16 H.c0 rfl dX9_testAt_27 rfl ?_
      refine pw_iload_n (pc2 := 31) dX9_testAt_30 rfl rfl 1 rfl ?_
      refine pw_callV1 (pc2 := 34) (c_lget G _ H.lt (i := t) ht) cs_X9_181 rfl rfl H.c3 dX9_testAt_31 rfl (by omega) rfl (by first | decide | simp [cat_rf, Value.category]) ?_
      refine pw_castS (pc2 := 37) (cj := 10) rfl cl_X9_158 (H.c50 ht) dX9_testAt_34 rfl ?_
      refine pw_aret dX9_testAt_37 rfl (by first | exact Or.inl ⟨_, rfl⟩ | exact Or.inr ⟨_, rfl⟩) (by first | exact rf_ref _ | exact rf_opt _ | exact rf_nul) ?_
      exact ⟨rfl, t, ht, rfl, rfl⟩
    · exact pw_throwW rfl ts_310 dX9_testAt_15 dX9_testAt_18 dX9_testAt_19 dX9_testAt_22 dX9_testAt_25 (by first | decide | simp [cat_rf, Value.category]) (by exact ⟨rfl, rfl, (by first | exact fun q => absurd c1 (Int32.not_lt.mpr q.1) | exact fun q => c12 q.2)⟩)
set_option maxHeartbeats 4000000 in
set_option maxRecDepth 100000 in
theorem c_chkY (G : hG) (h : hp) {A : aT} {σ : sT} (H : W9 G h A σ) {r : Nat} (hr : r < nrl σ) : PMet G MX9_checkNotYanked 1 1 6 [.ref (A 40 r)] h (fun r9 h2 => r9 = none ∧ h = h2 ∧ σ.1 40 r 2 = 0) (tX xIS (¬ σ.1 40 r 2 = 0) h) := by
  refine PMet.of (by decide +kernel) (Nat.le_of_ble_eq_true rfl) (fun d hd => ?_)
  refine PW.sub (L2 := [(0, Value.ref (A 40 r))]) [0] rfl ?_
  refine pw_aload_n (pc2 := 1) dX9_checkNotYanked_0 rfl rfl 0 rfl (by first | exact rf_ref _ | exact rf_opt _ | exact rf_nul) ?_
  refine pw_getN (pc2 := 4) kX5 (k := 4) (by decide) rfl fl_X9_265 (H.c40 hr) rfl dX9_checkNotYanked_1 rfl ?_
  refine pw_if_eq (tgt := 18) (pc2 := 7) dX9_checkNotYanked_4 (by decide) rfl (fun c4 => ?_) (fun c4 => ?_)
  · refine pw_vret dX9_checkNotYanked_18 rfl ?_
    exact ⟨rfl, rfl, c4⟩
  · exact pw_throwW rfl ts_318 dX9_checkNotYanked_7 dX9_checkNotYanked_10 dX9_checkNotYanked_11 dX9_checkNotYanked_14 dX9_checkNotYanked_17 (by first | decide | simp [cat_rf, Value.category]) (by exact ⟨rfl, rfl, c4⟩)
set_option maxHeartbeats 4000000 in
set_option maxRecDepth 100000 in
theorem c_reqC (G : hG) (h : hp) (c : Nat) : PMet G MX9_requireChoice 0 0 0 [.ref c] h (det (some (.ref c)) h) noX := by
  refine PMet.of (by decide +kernel) (Nat.le_of_ble_eq_true rfl) (fun d hd => ?_)
  refine PW.sub (L2 := [(0, Value.ref c)]) [0] rfl ?_
  refine pw_aload_n (pc2 := 1) dX9_requireChoice_0 rfl rfl 0 rfl (by first | exact rf_ref _ | exact rf_opt _ | exact rf_nul) ?_
  refine pw_ifnonnull (r := some c) (tgt := 15) (pc2 := 4) dX9_requireChoice_1 (by decide) rfl (fun a9 z => ?_) (fun z => by cases z)
  refine pw_aload_n (pc2 := 16) dX9_requireChoice_15 rfl rfl 0 rfl (by first | exact rf_ref _ | exact rf_opt _ | exact rf_nul) ?_
  refine pw_aret dX9_requireChoice_16 rfl (by first | exact Or.inl ⟨_, rfl⟩ | exact Or.inr ⟨_, rfl⟩) (by first | exact rf_ref _ | exact rf_opt _ | exact rf_nul) ?_
  exact ⟨rfl, rfl⟩
set_option maxHeartbeats 4000000 in
set_option maxRecDepth 100000 in
theorem c_reqN (G : hG) (h : hp)  : PMet G MX9_requireChoice 0 1 6 [.null] h (fun _ _ => False) (tX xUO True h) := by
  refine PMet.of (by decide +kernel) (Nat.le_of_ble_eq_true rfl) (fun d hd => ?_)
  refine PW.sub (L2 := [(0, Value.null)]) [0] rfl ?_
  refine pw_aload_n (pc2 := 1) dX9_requireChoice_0 rfl rfl 0 rfl (by first | exact rf_ref _ | exact rf_opt _ | exact rf_nul) ?_
  refine pw_ifnonnull (r := none) (tgt := 15) (pc2 := 4) dX9_requireChoice_1 (by decide) rfl (fun a9 z => by cases z) (fun _ => ?_)
  exact pw_throwW rfl ts_320 dX9_requireChoice_4 dX9_requireChoice_7 dX9_requireChoice_8 dX9_requireChoice_11 dX9_requireChoice_14 (by first | decide | simp [cat_rf, Value.category]) (by exact ⟨rfl, rfl, trivial⟩)
set_option maxHeartbeats 4000000 in
set_option maxRecDepth 100000 in
theorem c_rlat (G : hG) (h : hp) {A : aT} {σ : sT} (H : W9 G h A σ) (n v : Int32) : PMet G MX9_releaseAt 5 2 12 [.ref (A 0 0), .int n, .int v] h (fun r h2 => h = h2 ∧ ∃ p r0, p < npk σ ∧ n = nI p ∧ fdV σ p v 0 (rnp σ p) = some r0 ∧ r = some (.ref (A 40 r0))) (fun C h2 => tX xIO (¬ inR n (npk σ)) h C h2 ∨ tX nsN (∃ p, p < npk σ ∧ n = nI p ∧ fdV σ p v 0 (rnp σ p) = none) h C h2) := by
  refine PMet.of (by decide +kernel) (Nat.le_of_ble_eq_true rfl) (fun d hd => ?_)
  refine PW.sub (L2 := [(0, Value.ref (A 0 0)), (1, Value.int n), (2, Value.int v)]) [0, 1, 2] rfl ?_
  refine pw_aload_n (pc2 := 1) dX9_releaseAt_0 rfl rfl 0 rfl (by first | exact rf_ref _ | exact rf_opt _ | exact rf_nul) ?_
  refine pw_iload_n (pc2 := 2) dX9_releaseAt_1 rfl rfl 1 rfl ?_
  refine pw_callV (pc2 := 5) (c_pkat G _ H n) cs_X9_63 rfl rfl H.c0 dX9_releaseAt_2 rfl (by omega) rfl (by first | decide | simp [cat_rf, Value.category]) (fun r9 h9 q9 => ?_) (fun Y h9 q9 => px_out rfl (Or.inl q9))
  obtain ⟨rfl, p, hp, rfl, rfl⟩ := q9
  refine pw_iload_n (pc2 := 6) dX9_releaseAt_5 rfl rfl 2 rfl ?_
  refine pw_callV (pc2 := 9) (c_prelof G _ H hp v) cs_X9_312 rfl rfl (H.c20 hp) dX9_releaseAt_6 rfl (by omega) rfl (by first | decide | simp [cat_rf, Value.category]) (fun r9 h9 q9 => ?_) (fun Y h9 q9 => q9.elim)
  cases hs : fdV σ p v 0 (rnp σ p) with
  | none =>
    rw [hs] at q9
    obtain ⟨rfl, rfl⟩ := q9
    refine pw_astore_n (pc2 := 10) (L2 := [(3, Value.null), (0, Value.ref (A 0 0)), (1, Value.int (nI p)), (2, Value.int v)]) dX9_releaseAt_9 rfl rfl (by decide) (by first | exact rf_ref _ | exact rf_opt _ | exact rf_nul) rfl ?_
    refine pw_aload_n (pc2 := 11) dX9_releaseAt_10 rfl rfl 0 rfl (by first | exact rf_ref _ | exact rf_opt _ | exact rf_nul) ?_
    refine pw_ifnonnull (r := none) (tgt := 25) (pc2 := 14) dX9_releaseAt_11 (by decide) rfl (fun a9 z => by cases z) (fun _ => ?_)
    exact pw_throwNW rfl tn_316 dX9_releaseAt_14 dX9_releaseAt_17 dX9_releaseAt_18 dX9_releaseAt_21 dX9_releaseAt_24 (by first | decide | simp [cat_rf, Value.category]) (by exact Or.inr ⟨rfl, rfl, p, hp, rfl, hs⟩)
  | some r0 =>
    rw [hs] at q9
    obtain ⟨rfl, rfl⟩ := q9
    refine pw_astore_n (pc2 := 10) (L2 := [(3, Value.ref (A 40 r0)), (0, Value.ref (A 0 0)), (1, Value.int (nI p)), (2, Value.int v)]) dX9_releaseAt_9 rfl rfl (by decide) (by first | exact rf_ref _ | exact rf_opt _ | exact rf_nul) rfl ?_
    refine pw_aload_n (pc2 := 11) dX9_releaseAt_10 rfl rfl 0 rfl (by first | exact rf_ref _ | exact rf_opt _ | exact rf_nul) ?_
    refine pw_ifnonnull (r := some (A 40 r0)) (tgt := 25) (pc2 := 14) dX9_releaseAt_11 (by decide) rfl (fun a9 z => ?_) (fun z => by cases z)
    refine pw_aload_n (pc2 := 26) dX9_releaseAt_25 rfl rfl 0 rfl (by first | exact rf_ref _ | exact rf_opt _ | exact rf_nul) ?_
    refine pw_aret dX9_releaseAt_26 rfl (by first | exact Or.inl ⟨_, rfl⟩ | exact Or.inr ⟨_, rfl⟩) (by first | exact rf_ref _ | exact rf_opt _ | exact rf_nul) ?_
    exact ⟨rfl, p, r0, hp, rfl, hs, rfl⟩
/-- the first of the machines below n that is free first -/
def ffst (F : Nat → Int32) : Nat → Nat
  | 0 => 0
  | n + 1 => if F n < F (ffst F n) then n else ffst F n
theorem ffst_1 (F : Nat → Int32) : ffst F 1 = 0 := by
  show (if F 0 < F 0 then 0 else 0) = 0
  exact ite_self 0
theorem ffst_lt (F : Nat → Int32) : ∀ n, 0 < n → ffst F n < n
  | 0, h => absurd h (Nat.lt_irrefl 0)
  | n + 1, _ => by
    unfold ffst
    by_cases e : F n < F (ffst F n)
    · rw [if_pos e]; exact Nat.lt_succ_self n
    · rw [if_neg e]
      by_cases h0 : n = 0
      · subst h0; exact Nat.one_pos
      · have := ffst_lt F n (by omega); omega
theorem upd_s (f : Nat → Int32) (k : Nat) (x : Int32) : upd f k x k = x := va_up_self f k x
set_option maxHeartbeats 4000000 in
set_option maxRecDepth 100000 in
theorem c_place (G : hG) (h : hp) {A : aT} {σ : sT} (H : W9 G h A σ) {M : Nat} (hM : σ.1 0 0 0 = nI M) (hM1 : 1 ≤ M) (hM4 : M ≤ 4) (ln : Int32) : PMet G MX9_placeOnFirstFree 1 0 0 [.ref (A 0 0), .int ln] h (det (some (.int ((σ.1 14 0) (ffst (σ.1 14 0) M) + ln))) (va_up h (A 14 0) (some (aI 4 (upd (σ.1 14 0) (ffst (σ.1 14 0) M) ((σ.1 14 0) (ffst (σ.1 14 0) M) + ln)))))) noX := by
  refine PMet.of (by decide +kernel) (Nat.le_of_ble_eq_true rfl) (fun d hd => ?_)
  refine PW.sub (L2 := [(0, Value.ref (A 0 0)), (1, Value.int ln)]) [0, 1] rfl ?_
  refine pw_iconst (pc2 := 1) (v := 0) dX9_placeOnFirstFree_0 rfl (by decide) ?_
  refine pw_istore_n (pc2 := 2) (L2 := [(2, Value.int 0), (0, Value.ref (A 0 0)), (1, Value.int ln)]) dX9_placeOnFirstFree_1 rfl rfl (by decide) rfl ?_
  refine pw_iconst (pc2 := 3) (v := 1) dX9_placeOnFirstFree_2 rfl (by decide) ?_
  refine pw_istore_n (pc2 := 4) (L2 := [(3, Value.int 1), (2, Value.int 0), (0, Value.ref (A 0 0)), (1, Value.int ln)]) dX9_placeOnFirstFree_3 rfl rfl (by decide) rfl ?_
  have loop : ∀ (k i : Nat) (hi1 : 1 ≤ i), i + k = M → PW G MX9_placeOnFirstFree d noA (E0 G (det (some (.int ((σ.1 14 0) (ffst (σ.1 14 0) M) + ln))) (va_up h (A 14 0) (some (aI 4 (upd (σ.1 14 0) (ffst (σ.1 14 0) M) ((σ.1 14 0) (ffst (σ.1 14 0) M) + ln)))))) noX) 0 0 4 [(3, Value.int (nI i)), (2, Value.int (nI (ffst (σ.1 14 0) i))), (0, Value.ref (A 0 0)), (1, Value.int ln)] [] h := by
    intro k
    induction k with
    | zero =>
      intro i hi1 hik
      have hi9 : i = M := by omega
      refine pw_iload_n (pc2 := 5) dX9_placeOnFirstFree_4 rfl rfl 0 rfl ?_
      refine pw_aload_n (pc2 := 6) dX9_placeOnFirstFree_5 rfl rfl 2 rfl (by first | exact rf_ref _ | exact rf_opt _ | exact rf_nul) ?_
      refine pw_get (pc2 := 9) kX9 (k := 6) (by decide) rfl fl_X9_36 H.c0 rfl dX9_placeOnFirstFree_6 rfl ?_
      refine pw_icmp_ge (tgt := 44) (pc2 := 12) dX9_placeOnFirstFree_9 (by decide) rfl (fun _ => ?_) (fun c9 => by exact absurd (by first | (rw [hM, hi9]; exact Int32.le_refl _) | exact fun q => absurd ((nI_leI (a := M) (b := i) (by omega) (by omega)).mp (hM ▸ q)) (by omega)) c9)
      have hff := ffst_lt (σ.1 14 0) M hM1
      subst hi9
      refine pw_aload_n (pc2 := 45) dX9_placeOnFirstFree_44 rfl rfl 2 rfl (by first | exact rf_ref _ | exact rf_opt _ | exact rf_nul) ?_
      refine pw_get (pc2 := 48) kX9 (k := 5) (by decide) rfl fl_X9_33 H.c0 rfl dX9_placeOnFirstFree_45 rfl ?_
      refine pw_iload_n (pc2 := 49) dX9_placeOnFirstFree_48 rfl rfl 1 rfl ?_
      refine pw_dup2 (pc2 := 50) dX9_placeOnFirstFree_49 rfl (by first | rfl | exact cat_rf _) (by first | rfl | exact cat_rf _) ?_
      refine pw_ialdN (pc2 := 51) H.c14 (i := (ffst (σ.1 14 0) i)) (by first | assumption | omega) (by omega) dX9_placeOnFirstFree_50 rfl ?_
      refine pw_iload_n (pc2 := 52) dX9_placeOnFirstFree_51 rfl rfl 3 rfl ?_
      refine pw_iadd (pc2 := 53) dX9_placeOnFirstFree_52 rfl ?_
      refine pw_iastN (pc2 := 54) H.c14 (i := (ffst (σ.1 14 0) i)) (by first | assumption | omega) (by omega) dX9_placeOnFirstFree_53 rfl ?_
      refine pw_aload_n (pc2 := 55) dX9_placeOnFirstFree_54 rfl rfl 2 rfl (by first | exact rf_ref _ | exact rf_opt _ | exact rf_nul) ?_
      refine pw_get (pc2 := 58) kX9 (k := 5) (by decide) rfl fl_X9_33 ((va_up_ne _ _ (ne_oa H.c0 H.c14)).trans H.c0) rfl dX9_placeOnFirstFree_55 rfl ?_
      refine pw_iload_n (pc2 := 59) dX9_placeOnFirstFree_58 rfl rfl 1 rfl ?_
      refine pw_ialdN (pc2 := 60) (va_up_self _ _ _) (i := (ffst (σ.1 14 0) i)) (by first | assumption | omega) (by omega) dX9_placeOnFirstFree_59 rfl ?_
      refine pw_iret dX9_placeOnFirstFree_60 rfl (by first | rfl | assumption | simp [narrow]) ?_
      exact ⟨by rw [upd_s], rfl⟩
    | succ k ih =>
      intro i hi1 hik
      have hi9 : i < M := by omega
      have hff := ffst_lt (σ.1 14 0) i (by omega)
      refine pw_iload_n (pc2 := 5) dX9_placeOnFirstFree_4 rfl rfl 0 rfl ?_
      refine pw_aload_n (pc2 := 6) dX9_placeOnFirstFree_5 rfl rfl 2 rfl (by first | exact rf_ref _ | exact rf_opt _ | exact rf_nul) ?_
      refine pw_get (pc2 := 9) kX9 (k := 6) (by decide) rfl fl_X9_36 H.c0 rfl dX9_placeOnFirstFree_6 rfl ?_
      refine pw_icmp_ge (tgt := 44) (pc2 := 12) dX9_placeOnFirstFree_9 (by decide) rfl (fun c9 => by exact absurd c9 (by first | (rw [hM, hi9]; exact Int32.le_refl _) | exact fun q => absurd ((nI_leI (a := M) (b := i) (by omega) (by omega)).mp (hM ▸ q)) (by omega))) (fun _ => ?_)
      refine pw_iload_n (pc2 := 13) dX9_placeOnFirstFree_12 rfl rfl 0 rfl ?_
      refine pw_aload_n (pc2 := 14) dX9_placeOnFirstFree_13 rfl rfl 2 rfl (by first | exact rf_ref _ | exact rf_opt _ | exact rf_nul) ?_
      refine pw_get (pc2 := 17) kX9 (k := 5) (by decide) rfl fl_X9_33 H.c0 rfl dX9_placeOnFirstFree_14 rfl ?_
      refine pw_alen (pc2 := 18) 0 rfl H.c14 rfl dX9_placeOnFirstFree_17 rfl ?_
      refine pw_icmp_ge (tgt := 44) (pc2 := 21) dX9_placeOnFirstFree_18 (by decide) rfl (fun c18 => by exact absurd c18 (fun q => absurd ((nI_leI (a := 4) (b := i) (by omega) (by omega)).mp q) (by omega))) (fun _ => ?_)
      refine pw_aload_n (pc2 := 22) dX9_placeOnFirstFree_21 rfl rfl 2 rfl (by first | exact rf_ref _ | exact rf_opt _ | exact rf_nul) ?_
      refine pw_get (pc2 := 25) kX9 (k := 5) (by decide) rfl fl_X9_33 H.c0 rfl dX9_placeOnFirstFree_22 rfl ?_
      refine pw_iload_n (pc2 := 26) dX9_placeOnFirstFree_25 rfl rfl 0 rfl ?_
      refine pw_ialdN (pc2 := 27) H.c14 (i := i) (by first | assumption | omega) (by omega) dX9_placeOnFirstFree_26 rfl ?_
      refine pw_aload_n (pc2 := 28) dX9_placeOnFirstFree_27 rfl rfl 2 rfl (by first | exact rf_ref _ | exact rf_opt _ | exact rf_nul) ?_
      refine pw_get (pc2 := 31) kX9 (k := 5) (by decide) rfl fl_X9_33 H.c0 rfl dX9_placeOnFirstFree_28 rfl ?_
      refine pw_iload_n (pc2 := 32) dX9_placeOnFirstFree_31 rfl rfl 1 rfl ?_
      refine pw_ialdN (pc2 := 33) H.c14 (i := (ffst (σ.1 14 0) i)) (by first | assumption | omega) (by omega) dX9_placeOnFirstFree_32 rfl ?_
      refine pw_icmp_ge (tgt := 38) (pc2 := 36) dX9_placeOnFirstFree_33 (by decide) rfl (fun c33 => ?_) (fun c33 => ?_)
      · refine pw_iinc (pc2 := 41) (v := nI (i + 1)) (L2 := [(3, Value.int (nI (i + 1))), (2, Value.int (nI (ffst (σ.1 14 0) i))), (0, Value.ref (A 0 0)), (1, Value.int ln)]) dX9_placeOnFirstFree_38 rfl 0 rfl (by show nI _ + 1 = nI _; exact nI_1 _) (by decide) rfl ?_
        refine pw_goto (tgt := 4) dX9_placeOnFirstFree_41 (by decide) ?_
        refine PW.sub (L2 := [(3, Value.int (nI (i + 1))), (2, Value.int (nI (ffst (σ.1 14 0) i))), (0, Value.ref (A 0 0)), (1, Value.int ln)]) [0, 1, 2, 3] rfl ?_
        have e9 : nI (ffst (σ.1 14 0) i) = nI (ffst (σ.1 14 0) (i + 1)) := by show _ = nI (if (σ.1 14 0) i < (σ.1 14 0) (ffst (σ.1 14 0) i) then i else ffst (σ.1 14 0) i); first | rw [if_pos (Int32.not_le.mp c33)] | rw [if_neg (fun z => absurd c33 (Int32.not_le.mpr z))]
        exact e9 ▸ ih (i + 1) (by omega) (by omega)
      · refine pw_iload_n (pc2 := 37) dX9_placeOnFirstFree_36 rfl rfl 0 rfl ?_
        refine pw_istore_n (pc2 := 38) (L2 := [(2, Value.int (nI i)), (3, Value.int (nI i)), (0, Value.ref (A 0 0)), (1, Value.int ln)]) dX9_placeOnFirstFree_37 rfl rfl (by decide) rfl ?_
        refine pw_iinc (pc2 := 41) (v := nI (i + 1)) (L2 := [(3, Value.int (nI (i + 1))), (2, Value.int (nI i)), (0, Value.ref (A 0 0)), (1, Value.int ln)]) dX9_placeOnFirstFree_38 rfl 1 rfl (by show nI _ + 1 = nI _; exact nI_1 _) (by decide) rfl ?_
        refine pw_goto (tgt := 4) dX9_placeOnFirstFree_41 (by decide) ?_
        refine PW.sub (L2 := [(3, Value.int (nI (i + 1))), (2, Value.int (nI i)), (0, Value.ref (A 0 0)), (1, Value.int ln)]) [0, 1, 2, 3] rfl ?_
        have e9 : nI i = nI (ffst (σ.1 14 0) (i + 1)) := by show _ = nI (if (σ.1 14 0) i < (σ.1 14 0) (ffst (σ.1 14 0) i) then i else ffst (σ.1 14 0) i); first | rw [if_pos (Int32.not_le.mp c33)] | rw [if_neg (fun z => absurd c33 (Int32.not_le.mpr z))]
        exact e9 ▸ ih (i + 1) (by omega) (by omega)
  refine PW.sub (L2 := [(3, Value.int 1), (2, Value.int 0), (0, Value.ref (A 0 0)), (1, Value.int ln)]) [0, 1, 2, 3] rfl ?_
  have e1 : ffst (σ.1 14 0) 1 = 0 := ffst_1 _
  have z9 := loop (M - 1) 1 (Nat.le_refl 1) (by omega)
  rw [e1] at z9
  exact z9
