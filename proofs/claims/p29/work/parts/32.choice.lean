/-! PackageForge$Choice: a release or null for each package -/
/-- what a release is, by its address: version, interface, needs, lock, yanked -/
abbrev relT : Type := Nat → Int32 × Int32 × Nat × Nat × Int32
abbrev relC (q : Int32 × Int32 × Nat × Nat × Int32) : hE := oB 8 [.int q.1, .int q.2.1, .ref q.2.2.1, .ref q.2.2.2.1, .int q.2.2.2.2]
/-- what is picked is a release -/
def pkR (h : hp) (T : relT) (Pk : Nat → Option Nat) : Prop := ∀ k, k < 6 → ∀ r, Pk k = some r → h r = some (relC (T r))
abbrev isC (h : hp) (c p : Nat) (Pk : Nat → Option Nat) : Prop := h c = some (oB 4 [.ref p]) ∧ h p = some (aR tRel 6 Pk)
def vOf (T : relT) (o : Option Nat) : Int32 := match o with
  | none => 0
  | some r => (T r).1
/-- how many of the first n places differ -/
def cdN (Pk Qk : Nat → Option Nat) : Nat → Int32
  | 0 => 0
  | n + 1 => cdN Pk Qk n + (if Pk n = Qk n then 0 else 1)
set_option maxHeartbeats 4000000 in
set_option maxRecDepth 100000 in
theorem c_cat (G : hG) (h : hp) {c p : Nat} {Pk : Nat → Option Nat} (hc : isC h c p Pk) {i : Nat} (hi : i < 6) : PMet G MX1_at 1 0 0 [.ref c, .int (nI i)] h (det (some (va_rf (Pk i))) h) noX := by
  refine PMet.of rfl (Nat.le_of_ble_eq_true rfl) (fun d hd => ?_)
  refine PW.sub (L2 := [(0, Value.ref c), (1, Value.int (nI i))]) [0, 1] rfl ?_
  refine pw_iload_n (pc2 := 1) dX1_at_0 rfl rfl 1 rfl ?_
  refine pw_callN1 (pc2 := 4) (c_pix G _ hi) cs_X1_17 rfl rfl dX1_at_1 rfl (by omega) rfl (by first | decide | simp [cat_rf, Value.category]) ?_
  refine pw_if_eq (tgt := 16) (pc2 := 7) dX1_at_4 (by decide) rfl (fun c4 => by exact absurd c4 (by decide)) (fun _ => ?_)
  refine pw_aload_n (pc2 := 8) dX1_at_7 rfl rfl 0 rfl (by first | exact rf_ref _ | exact rf_opt _ | exact rf_nul) ?_
  refine pw_get (pc2 := 11) kX1 (k := 0) (by decide) rfl fl_X1_11 hc.1 rfl dX1_at_8 rfl ?_
  refine pw_iload_n (pc2 := 12) dX1_at_11 rfl rfl 1 rfl ?_
  refine pw_aaldN (pc2 := 13) 4 rfl rfl hc.2 (by first | assumption | omega) (by omega) dX1_at_12 rfl ?_
  refine pw_goto (tgt := 17) dX1_at_13 (by decide) ?_
  refine pw_aret dX1_at_17 rfl (by first | exact Or.inl ⟨_, rfl⟩ | exact Or.inr ⟨_, rfl⟩) (by first | exact rf_ref _ | exact rf_opt _ | exact rf_nul) ?_
  exact ⟨rfl, rfl⟩
set_option maxHeartbeats 4000000 in
set_option maxRecDepth 100000 in
theorem c_cver (G : hG) (h : hp) {c p : Nat} {Pk : Nat → Option Nat} (hc : isC h c p Pk) {T : relT} {i : Nat} (hi : i < 6) (hP : ∀ r, Pk i = some r → h r = some (relC (T r))) : PMet G MX1_versionOf 2 0 0 [.ref c, .int (nI i)] h (det (some (.int (vOf T (Pk i)))) h) noX := by
  refine PMet.of rfl (Nat.le_of_ble_eq_true rfl) (fun d hd => ?_)
  refine PW.sub (L2 := [(0, Value.ref c), (1, Value.int (nI i))]) [0, 1] rfl ?_
  refine pw_aload_n (pc2 := 1) dX1_versionOf_0 rfl rfl 0 rfl (by first | exact rf_ref _ | exact rf_opt _ | exact rf_nul) ?_
  refine pw_iload_n (pc2 := 2) dX1_versionOf_1 rfl rfl 1 rfl ?_
  refine pw_callV1 (pc2 := 5) (c_cat G _ hc hi) cs_X1_21 rfl rfl hc.1 dX1_versionOf_2 rfl (by omega) rfl (by first | decide | simp [cat_rf, Value.category]) ?_
  refine pw_topr (fun r1 er1 => ?_)
  refine pw_astore_n (pc2 := 6) (L2 := [(2, va_rf r1), (0, Value.ref c), (1, Value.int (nI i))]) dX1_versionOf_5 rfl rfl (by decide) (by first | exact rf_ref _ | exact rf_opt _ | exact rf_nul) rfl ?_
  refine pw_aload_n (pc2 := 7) dX1_versionOf_6 rfl rfl 0 rfl (by first | exact rf_ref _ | exact rf_opt _ | exact rf_nul) ?_
  refine pw_ifnonnull (tgt := 14) (pc2 := 10) dX1_versionOf_7 (by decide) rfl (fun a2 c7 => ?_) (fun c7 => ?_)
  · subst c7
    refine pw_aload_n (pc2 := 15) dX1_versionOf_14 rfl rfl 0 rfl (by first | exact rf_ref _ | exact rf_opt _ | exact rf_nul) ?_
    refine pw_getN (pc2 := 18) kX5 (k := 0) (by decide) rfl fl_X1_25 (hP a2 er1.symm) rfl dX1_versionOf_15 rfl ?_
    refine pw_iret dX1_versionOf_18 rfl (by first | rfl | assumption | simp [narrow]) ?_
    first | exact ⟨by rw [← er1, c7]; rfl, rfl⟩ | exact ⟨by rw [← er1]; rfl, rfl⟩
  · refine pw_iconst (pc2 := 11) (v := 0) dX1_versionOf_10 rfl (by decide) ?_
    refine pw_goto (tgt := 18) dX1_versionOf_11 (by decide) ?_
    refine pw_iret dX1_versionOf_18 rfl (by first | rfl | assumption | simp [narrow]) ?_
    first | exact ⟨by rw [← er1, c7]; rfl, rfl⟩ | exact ⟨by rw [← er1]; rfl, rfl⟩
set_option maxHeartbeats 4000000 in
set_option maxRecDepth 100000 in
theorem c_cput (G : hG) (h : hp) {c p : Nat} {Pk : Nat → Option Nat} (hc : isC h c p Pk) {i : Nat} (hi : i < 6) {r : Option Nat} (hr : ∀ b, r = some b → ∃ gs, h b = some (.inr (8, gs))) : PMet G MX1_put 1 0 0 [.ref c, .int (nI i), va_rf r] h (det none (va_up h p (some (aR tRel 6 (va_up Pk i r))))) noX := by
  cases r with
  | none =>
    refine PMet.of rfl (Nat.le_of_ble_eq_true rfl) (fun d hd => ?_)
    refine PW.sub (L2 := [(0, Value.ref c), (1, Value.int (nI i)), (2, Value.null)]) [0, 1, 2] rfl ?_
    refine pw_iload_n (pc2 := 1) dX1_put_0 rfl rfl 1 rfl ?_
    refine pw_callN1 (pc2 := 4) (c_pix G _ hi) cs_X1_17 rfl rfl dX1_put_1 rfl (by omega) rfl (by first | decide | simp [cat_rf, Value.category]) ?_
    refine pw_if_eq (tgt := 14) (pc2 := 7) dX1_put_4 (by decide) rfl (fun c4 => by exact absurd c4 (by decide)) (fun _ => ?_)
    refine pw_aload_n (pc2 := 8) dX1_put_7 rfl rfl 0 rfl (by first | exact rf_ref _ | exact rf_opt _ | exact rf_nul) ?_
    refine pw_get (pc2 := 11) kX1 (k := 0) (by decide) rfl fl_X1_11 hc.1 rfl dX1_put_8 rfl ?_
    refine pw_iload_n (pc2 := 12) dX1_put_11 rfl rfl 1 rfl ?_
    refine pw_aload_n (pc2 := 13) dX1_put_12 rfl rfl 2 rfl (by first | exact rf_ref _ | exact rf_opt _ | exact rf_nul) ?_
    refine pw_aastP (pc2 := 14) (r := none) hc.2 (fun _ q => by cases q) (by first | assumption | omega) (by omega) dX1_put_13 rfl ?_
    refine pw_vret dX1_put_14 rfl ?_
    exact ⟨rfl, rfl⟩
  | some b =>
    refine PMet.of rfl (Nat.le_of_ble_eq_true rfl) (fun d hd => ?_)
    refine PW.sub (L2 := [(0, Value.ref c), (1, Value.int (nI i)), (2, Value.ref b)]) [0, 1, 2] rfl ?_
    refine pw_iload_n (pc2 := 1) dX1_put_0 rfl rfl 1 rfl ?_
    refine pw_callN1 (pc2 := 4) (c_pix G _ hi) cs_X1_17 rfl rfl dX1_put_1 rfl (by omega) rfl (by first | decide | simp [cat_rf, Value.category]) ?_
    refine pw_if_eq (tgt := 14) (pc2 := 7) dX1_put_4 (by decide) rfl (fun c4 => by exact absurd c4 (by decide)) (fun _ => ?_)
    refine pw_aload_n (pc2 := 8) dX1_put_7 rfl rfl 0 rfl (by first | exact rf_ref _ | exact rf_opt _ | exact rf_nul) ?_
    refine pw_get (pc2 := 11) kX1 (k := 0) (by decide) rfl fl_X1_11 hc.1 rfl dX1_put_8 rfl ?_
    refine pw_iload_n (pc2 := 12) dX1_put_11 rfl rfl 1 rfl ?_
    refine pw_aload_n (pc2 := 13) dX1_put_12 rfl rfl 2 rfl (by first | exact rf_ref _ | exact rf_opt _ | exact rf_nul) ?_
    refine pw_aastP (pc2 := 14) (r := (some b)) hc.2 hr (by first | assumption | omega) (by omega) dX1_put_13 rfl ?_
    refine pw_vret dX1_put_14 rfl ?_
    exact ⟨rfl, rfl⟩
set_option maxHeartbeats 4000000 in
set_option maxRecDepth 100000 in
theorem c_cclear (G : hG) (h : hp) {c p : Nat} {Pk : Nat → Option Nat} (hc : isC h c p Pk) : PMet G MX1_clear 0 0 0 [.ref c] h (det none (va_up h p (some (aR tRel 6 zN)))) noX := by
  refine PMet.of rfl (Nat.le_of_ble_eq_true rfl) (fun d hd => ?_)
  refine PW.sub (L2 := [(0, Value.ref c)]) [0] rfl ?_
  refine pw_iconst (pc2 := 1) (v := 0) dX1_clear_0 rfl (by decide) ?_
  refine pw_istore_n (pc2 := 2) (L2 := [(1, Value.int 0), (0, Value.ref c)]) dX1_clear_1 rfl rfl (by decide) rfl ?_
  have loop : ∀ (k i : Nat) , i + k = 6 → PW G MX1_clear d noA (E0 G (det none (va_up h p (some (aR tRel 6 zN)))) noX) 0 0 2 [(1, Value.int (nI i)), (0, Value.ref c)] [] (va_up h p (some (aR tRel 6 (mx zN Pk i)))) := by
    intro k
    induction k with
    | zero =>
      intro i  hik
      have hi9 : i = 6 := by omega
      refine pw_iload_n (pc2 := 3) dX1_clear_2 rfl rfl 0 rfl ?_
      refine pw_bipush (pc2 := 5) (v := 6) dX1_clear_3 rfl (by decide) ?_
      refine pw_icmp_ge (tgt := 21) (pc2 := 8) dX1_clear_5 (by decide) rfl (fun _ => ?_) (fun c5 => by exact absurd (by first | (rw [hi9]; exact Int32.le_refl _) | exact fun q => absurd ((l6 (by omega)).mp q) (by omega)) c5)
      refine pw_extR (a := p) (g := zN) (va_up_self _ _ _) (by decide) (fun j hj => mx_lt (by omega)) ?_
      refine pw_vret dX1_clear_21 rfl ?_
      exact ⟨rfl, up_up _ _ _ _⟩
    | succ k ih =>
      intro i  hik
      have hi9 : i < 6 := by omega
      refine pw_iload_n (pc2 := 3) dX1_clear_2 rfl rfl 0 rfl ?_
      refine pw_bipush (pc2 := 5) (v := 6) dX1_clear_3 rfl (by decide) ?_
      refine pw_icmp_ge (tgt := 21) (pc2 := 8) dX1_clear_5 (by decide) rfl (fun c5 => by exact absurd c5 (by first | (rw [hi9]; exact Int32.le_refl _) | exact fun q => absurd ((l6 (by omega)).mp q) (by omega))) (fun _ => ?_)
      refine pw_aload_n (pc2 := 9) dX1_clear_8 rfl rfl 1 rfl (by first | exact rf_ref _ | exact rf_opt _ | exact rf_nul) ?_
      refine pw_get (pc2 := 12) kX1 (k := 0) (by decide) rfl fl_X1_11 ((va_up_ne _ _ (ne_oa hc.1 hc.2)).trans hc.1) rfl dX1_clear_9 rfl ?_
      refine pw_iload_n (pc2 := 13) dX1_clear_12 rfl rfl 0 rfl ?_
      refine pw_null (pc2 := 14) dX1_clear_13 rfl ?_
      refine pw_aastP (pc2 := 15) (r := none) (va_up_self _ _ _) (fun _ q => by cases q) (by first | assumption | omega) (by omega) dX1_clear_14 rfl ?_
      refine pw_iinc (pc2 := 18) (v := nI (i + 1)) (L2 := [(1, Value.int (nI (i + 1))), (0, Value.ref c)]) dX1_clear_15 rfl 0 rfl (by show nI _ + 1 = nI _; exact nI_1 _) (by decide) rfl ?_
      refine pw_goto (tgt := 2) dX1_clear_18 (by decide) ?_
      refine PW.sub (L2 := [(1, Value.int (nI (i + 1))), (0, Value.ref c)]) [0, 1] rfl ?_
      refine PW.heap ?_ (ih (i + 1) (by omega))
      rw [up_up, ← mx_s]
      rfl
  refine PW.sub (L2 := [(1, Value.int 0), (0, Value.ref c)]) [0, 1] rfl ?_
  refine PW.heap (h' := (va_up h p (some (aR tRel 6 (mx zN Pk 0))))) ?_ (loop 6 0 rfl)
  rw [mx_0, up_id hc.2]
set_option maxHeartbeats 4000000 in
set_option maxRecDepth 100000 in
theorem c_ccopy (G : hG) (h : hp) {c p : Nat} {Pk : Nat → Option Nat} (hc : isC h c p Pk) {c2 p2 : Nat} {Qk : Nat → Option Nat} (hm : isC h c2 p2 Qk) (hne : p2 ≠ p) {T : relT} (hQ : pkR h T Qk) : PMet G MX1_copyFrom 0 0 0 [.ref c, .ref c2] h (det none (va_up h p (some (aR tRel 6 Qk)))) noX := by
  refine PMet.of rfl (Nat.le_of_ble_eq_true rfl) (fun d hd => ?_)
  refine PW.sub (L2 := [(0, Value.ref c), (1, Value.ref c2)]) [0, 1] rfl ?_
  refine pw_iconst (pc2 := 1) (v := 0) dX1_copyFrom_0 rfl (by decide) ?_
  refine pw_istore_n (pc2 := 2) (L2 := [(2, Value.int 0), (0, Value.ref c), (1, Value.ref c2)]) dX1_copyFrom_1 rfl rfl (by decide) rfl ?_
  have loop : ∀ (k i : Nat) , i + k = 6 → PW G MX1_copyFrom d noA (E0 G (det none (va_up h p (some (aR tRel 6 Qk)))) noX) 0 0 2 [(2, Value.int (nI i)), (0, Value.ref c), (1, Value.ref c2)] [] (va_up h p (some (aR tRel 6 (mx Qk Pk i)))) := by
    intro k
    induction k with
    | zero =>
      intro i  hik
      have hi9 : i = 6 := by omega
      refine pw_iload_n (pc2 := 3) dX1_copyFrom_2 rfl rfl 0 rfl ?_
      refine pw_bipush (pc2 := 5) (v := 6) dX1_copyFrom_3 rfl (by decide) ?_
      refine pw_icmp_ge (tgt := 26) (pc2 := 8) dX1_copyFrom_5 (by decide) rfl (fun _ => ?_) (fun c5 => by exact absurd (by first | (rw [hi9]; exact Int32.le_refl _) | exact fun q => absurd ((l6 (by omega)).mp q) (by omega)) c5)
      refine pw_extR (a := p) (g := Qk) (va_up_self _ _ _) (by decide) (fun j hj => mx_lt (by omega)) ?_
      refine pw_vret dX1_copyFrom_26 rfl ?_
      exact ⟨rfl, up_up _ _ _ _⟩
    | succ k ih =>
      intro i  hik
      have hi9 : i < 6 := by omega
      refine pw_iload_n (pc2 := 3) dX1_copyFrom_2 rfl rfl 0 rfl ?_
      refine pw_bipush (pc2 := 5) (v := 6) dX1_copyFrom_3 rfl (by decide) ?_
      refine pw_icmp_ge (tgt := 26) (pc2 := 8) dX1_copyFrom_5 (by decide) rfl (fun c5 => by exact absurd c5 (by first | (rw [hi9]; exact Int32.le_refl _) | exact fun q => absurd ((l6 (by omega)).mp q) (by omega))) (fun _ => ?_)
      refine pw_aload_n (pc2 := 9) dX1_copyFrom_8 rfl rfl 1 rfl (by first | exact rf_ref _ | exact rf_opt _ | exact rf_nul) ?_
      refine pw_get (pc2 := 12) kX1 (k := 0) (by decide) rfl fl_X1_11 ((va_up_ne _ _ (ne_oa hc.1 hc.2)).trans hc.1) rfl dX1_copyFrom_9 rfl ?_
      refine pw_iload_n (pc2 := 13) dX1_copyFrom_12 rfl rfl 0 rfl ?_
      refine pw_aload_n (pc2 := 14) dX1_copyFrom_13 rfl rfl 2 rfl (by first | exact rf_ref _ | exact rf_opt _ | exact rf_nul) ?_
      refine pw_get (pc2 := 17) kX1 (k := 0) (by decide) rfl fl_X1_11 ((va_up_ne _ _ (ne_oa hm.1 hc.2)).trans hm.1) rfl dX1_copyFrom_14 rfl ?_
      refine pw_iload_n (pc2 := 18) dX1_copyFrom_17 rfl rfl 0 rfl ?_
      refine pw_aaldN (pc2 := 19) 4 rfl rfl ((va_up_ne _ _ hne).trans hm.2) (by first | assumption | omega) (by omega) dX1_copyFrom_18 rfl ?_
      refine pw_aastP (pc2 := 20) (r := Qk i) (va_up_self _ _ _) (fun b hb => ⟨_, (va_up_ne _ _ (ne_oa (hQ i hi9 b hb) hc.2)).trans (hQ i hi9 b hb)⟩) (by first | assumption | omega) (by omega) dX1_copyFrom_19 rfl ?_
      refine pw_iinc (pc2 := 23) (v := nI (i + 1)) (L2 := [(2, Value.int (nI (i + 1))), (0, Value.ref c), (1, Value.ref c2)]) dX1_copyFrom_20 rfl 0 rfl (by show nI _ + 1 = nI _; exact nI_1 _) (by decide) rfl ?_
      refine pw_goto (tgt := 2) dX1_copyFrom_23 (by decide) ?_
      refine PW.sub (L2 := [(2, Value.int (nI (i + 1))), (0, Value.ref c), (1, Value.ref c2)]) [0, 1, 2] rfl ?_
      refine PW.heap ?_ (ih (i + 1) (by omega))
      rw [up_up, mx_s]
  refine PW.sub (L2 := [(2, Value.int 0), (0, Value.ref c), (1, Value.ref c2)]) [0, 1, 2] rfl ?_
  refine PW.heap (h' := (va_up h p (some (aR tRel 6 (mx Qk Pk 0))))) ?_ (loop 6 0 rfl)
  rw [mx_0, up_id hc.2]
set_option maxHeartbeats 4000000 in
set_option maxRecDepth 100000 in
theorem c_cdiff (G : hG) (h : hp) {c p : Nat} {Pk : Nat → Option Nat} (hc : isC h c p Pk) {c2 p2 : Nat} {Qk : Nat → Option Nat} (hm : isC h c2 p2 Qk) : PMet G MX1_countDifferences 0 0 0 [.ref c, .ref c2] h (det (some (.int (cdN Pk Qk 6))) h) noX := by
  refine PMet.of rfl (Nat.le_of_ble_eq_true rfl) (fun d hd => ?_)
  refine PW.sub (L2 := [(0, Value.ref c), (1, Value.ref c2)]) [0, 1] rfl ?_
  refine pw_iconst (pc2 := 1) (v := 0) dX1_countDifferences_0 rfl (by decide) ?_
  refine pw_istore_n (pc2 := 2) (L2 := [(2, Value.int 0), (0, Value.ref c), (1, Value.ref c2)]) dX1_countDifferences_1 rfl rfl (by decide) rfl ?_
  refine pw_iconst (pc2 := 3) (v := 0) dX1_countDifferences_2 rfl (by decide) ?_
  refine pw_istore_n (pc2 := 4) (L2 := [(3, Value.int 0), (2, Value.int 0), (0, Value.ref c), (1, Value.ref c2)]) dX1_countDifferences_3 rfl rfl (by decide) rfl ?_
  have loop : ∀ (k i : Nat) (acc : Int32) (ha : acc = cdN Pk Qk i), i + k = 6 → PW G MX1_countDifferences d noA (E0 G (det (some (.int (cdN Pk Qk 6))) h) noX) 0 0 4 [(3, Value.int (nI i)), (2, Value.int acc), (0, Value.ref c), (1, Value.ref c2)] [] h := by
    intro k
    induction k with
    | zero =>
      intro i acc ha hik
      have hi9 : i = 6 := by omega
      refine pw_iload_n (pc2 := 5) dX1_countDifferences_4 rfl rfl 0 rfl ?_
      refine pw_bipush (pc2 := 7) (v := 6) dX1_countDifferences_5 rfl (by decide) ?_
      refine pw_icmp_ge (tgt := 39) (pc2 := 10) dX1_countDifferences_7 (by decide) rfl (fun _ => ?_) (fun c7 => by exact absurd (by first | (rw [hi9]; exact Int32.le_refl _) | exact fun q => absurd ((l6 (by omega)).mp q) (by omega)) c7)
      refine pw_iload_n (pc2 := 40) dX1_countDifferences_39 rfl rfl 1 rfl ?_
      refine pw_iret dX1_countDifferences_40 rfl (by first | rfl | assumption | simp [narrow]) ?_
      rw [ha, hi9]
      exact ⟨rfl, rfl⟩
    | succ k ih =>
      intro i acc ha hik
      have hi9 : i < 6 := by omega
      refine pw_iload_n (pc2 := 5) dX1_countDifferences_4 rfl rfl 0 rfl ?_
      refine pw_bipush (pc2 := 7) (v := 6) dX1_countDifferences_5 rfl (by decide) ?_
      refine pw_icmp_ge (tgt := 39) (pc2 := 10) dX1_countDifferences_7 (by decide) rfl (fun c7 => by exact absurd c7 (by first | (rw [hi9]; exact Int32.le_refl _) | exact fun q => absurd ((l6 (by omega)).mp q) (by omega))) (fun _ => ?_)
      refine pw_iload_n (pc2 := 11) dX1_countDifferences_10 rfl rfl 1 rfl ?_
      refine pw_aload_n (pc2 := 12) dX1_countDifferences_11 rfl rfl 2 rfl (by first | exact rf_ref _ | exact rf_opt _ | exact rf_nul) ?_
      refine pw_get (pc2 := 15) kX1 (k := 0) (by decide) rfl fl_X1_11 hc.1 rfl dX1_countDifferences_12 rfl ?_
      refine pw_iload_n (pc2 := 16) dX1_countDifferences_15 rfl rfl 0 rfl ?_
      refine pw_aaldN (pc2 := 17) 4 rfl rfl hc.2 (by first | assumption | omega) (by omega) dX1_countDifferences_16 rfl ?_
      refine pw_aload_n (pc2 := 18) dX1_countDifferences_17 rfl rfl 3 rfl (by first | exact rf_ref _ | exact rf_opt _ | exact rf_nul) ?_
      refine pw_get (pc2 := 21) kX1 (k := 0) (by decide) rfl fl_X1_11 hm.1 rfl dX1_countDifferences_18 rfl ?_
      refine pw_iload_n (pc2 := 22) dX1_countDifferences_21 rfl rfl 0 rfl ?_
      refine pw_aaldN (pc2 := 23) 4 rfl rfl hm.2 (by first | assumption | omega) (by omega) dX1_countDifferences_22 rfl ?_
      refine pw_acmp_ne (rx := Pk i) (ry := Qk i) (tgt := 30) (pc2 := 26) dX1_countDifferences_23 (by decide) rfl (fun c23 => ?_) (fun c23 => ?_)
      · refine pw_iconst (pc2 := 31) (v := 1) dX1_countDifferences_30 rfl (by decide) ?_
        refine pw_iadd (pc2 := 32) dX1_countDifferences_31 rfl ?_
        refine pw_topi (fun v1 ev1 => ?_)
        refine pw_istore_n (pc2 := 33) (L2 := [(2, Value.int v1), (3, Value.int (nI i)), (0, Value.ref c), (1, Value.ref c2)]) dX1_countDifferences_32 rfl rfl (by decide) rfl ?_
        refine pw_iinc (pc2 := 36) (v := nI (i + 1)) (L2 := [(3, Value.int (nI (i + 1))), (2, Value.int v1), (0, Value.ref c), (1, Value.ref c2)]) dX1_countDifferences_33 rfl 1 rfl (by show nI _ + 1 = nI _; exact nI_1 _) (by decide) rfl ?_
        refine pw_goto (tgt := 4) dX1_countDifferences_36 (by decide) ?_
        refine PW.sub (L2 := [(3, Value.int (nI (i + 1))), (2, Value.int v1), (0, Value.ref c), (1, Value.ref c2)]) [0, 1, 2, 3] rfl ?_
        refine ih (i + 1) _ ?_ (by omega)
        rw [ev1, ha]
        show _ = cdN Pk Qk i + _
        first | rw [if_neg c23] | rw [if_pos c23]
      · refine pw_iconst (pc2 := 27) (v := 0) dX1_countDifferences_26 rfl (by decide) ?_
        refine pw_goto (tgt := 31) dX1_countDifferences_27 (by decide) ?_
        refine pw_iadd (pc2 := 32) dX1_countDifferences_31 rfl ?_
        refine pw_topi (fun v3 ev3 => ?_)
        refine pw_istore_n (pc2 := 33) (L2 := [(2, Value.int v3), (3, Value.int (nI i)), (0, Value.ref c), (1, Value.ref c2)]) dX1_countDifferences_32 rfl rfl (by decide) rfl ?_
        refine pw_iinc (pc2 := 36) (v := nI (i + 1)) (L2 := [(3, Value.int (nI (i + 1))), (2, Value.int v3), (0, Value.ref c), (1, Value.ref c2)]) dX1_countDifferences_33 rfl 1 rfl (by show nI _ + 1 = nI _; exact nI_1 _) (by decide) rfl ?_
        refine pw_goto (tgt := 4) dX1_countDifferences_36 (by decide) ?_
        refine PW.sub (L2 := [(3, Value.int (nI (i + 1))), (2, Value.int v3), (0, Value.ref c), (1, Value.ref c2)]) [0, 1, 2, 3] rfl ?_
        refine ih (i + 1) _ ?_ (by omega)
        rw [ev3, ha]
        show _ = cdN Pk Qk i + _
        first | rw [if_neg c23] | rw [if_pos c23]
  refine PW.sub (L2 := [(3, Value.int 0), (2, Value.int 0), (0, Value.ref c), (1, Value.ref c2)]) [0, 1, 2, 3] rfl ?_
  exact loop 6 0 0 rfl rfl
set_option maxHeartbeats 4000000 in
set_option maxRecDepth 100000 in
theorem c_cyank (G : hG) (h : hp) {c p : Nat} {Pk : Nat → Option Nat} (hc : isC h c p Pk) {T : relT} (hP : pkR h T Pk) : PMet G MX1_hasYanked 0 0 0 [.ref c] h (bR (∃ k r, k < 6 ∧ Pk k = some r ∧ ¬ (T r).2.2.2.2 = 0) h) noX := by
  refine PMet.of rfl (Nat.le_of_ble_eq_true rfl) (fun d hd => ?_)
  refine PW.sub (L2 := [(0, Value.ref c)]) [0] rfl ?_
  refine pw_iconst (pc2 := 1) (v := 0) dX1_hasYanked_0 rfl (by decide) ?_
  refine pw_istore_n (pc2 := 2) (L2 := [(1, Value.int 0), (0, Value.ref c)]) dX1_hasYanked_1 rfl rfl (by decide) rfl ?_
  have loop : ∀ (k i : Nat) (hal : ∀ k r, k < i → Pk k = some r → (T r).2.2.2.2 = 0), i + k = 6 → PW G MX1_hasYanked d noA (E0 G (bR (∃ k r, k < 6 ∧ Pk k = some r ∧ ¬ (T r).2.2.2.2 = 0) h) noX) 0 0 2 [(1, Value.int (nI i)), (0, Value.ref c)] [] h := by
    intro k
    induction k with
    | zero =>
      intro i hal hik
      have hi9 : i = 6 := by omega
      refine pw_iload_n (pc2 := 3) dX1_hasYanked_2 rfl rfl 0 rfl ?_
      refine pw_bipush (pc2 := 5) (v := 6) dX1_hasYanked_3 rfl (by decide) ?_
      refine pw_icmp_ge (tgt := 34) (pc2 := 8) dX1_hasYanked_5 (by decide) rfl (fun _ => ?_) (fun c5 => by exact absurd (by first | (rw [hi9]; exact Int32.le_refl _) | exact fun q => absurd ((l6 (by omega)).mp q) (by omega)) c5)
      refine pw_iconst (pc2 := 35) (v := 0) dX1_hasYanked_34 rfl (by decide) ?_
      refine pw_iret dX1_hasYanked_35 rfl (by first | rfl | assumption | simp [narrow]) ?_
      exact bR_0 (fun ⟨k, r, hk, hp2, hy⟩ => hy (hal k r (by omega) hp2))
    | succ k ih =>
      intro i hal hik
      have hi9 : i < 6 := by omega
      refine pw_iload_n (pc2 := 3) dX1_hasYanked_2 rfl rfl 0 rfl ?_
      refine pw_bipush (pc2 := 5) (v := 6) dX1_hasYanked_3 rfl (by decide) ?_
      refine pw_icmp_ge (tgt := 34) (pc2 := 8) dX1_hasYanked_5 (by decide) rfl (fun c5 => by exact absurd c5 (by first | (rw [hi9]; exact Int32.le_refl _) | exact fun q => absurd ((l6 (by omega)).mp q) (by omega))) (fun _ => ?_)
      refine pw_aload_n (pc2 := 9) dX1_hasYanked_8 rfl rfl 1 rfl (by first | exact rf_ref _ | exact rf_opt _ | exact rf_nul) ?_
      refine pw_get (pc2 := 12) kX1 (k := 0) (by decide) rfl fl_X1_11 hc.1 rfl dX1_hasYanked_9 rfl ?_
      refine pw_iload_n (pc2 := 13) dX1_hasYanked_12 rfl rfl 0 rfl ?_
      refine pw_aaldN (pc2 := 14) 4 rfl rfl hc.2 (by first | assumption | omega) (by omega) dX1_hasYanked_13 rfl ?_
      refine pw_topr (fun r1 er1 => ?_)
      refine pw_astore_n (pc2 := 15) (L2 := [(2, va_rf r1), (1, Value.int (nI i)), (0, Value.ref c)]) dX1_hasYanked_14 rfl rfl (by decide) (by first | exact rf_ref _ | exact rf_opt _ | exact rf_nul) rfl ?_
      refine pw_aload_n (pc2 := 16) dX1_hasYanked_15 rfl rfl 0 rfl (by first | exact rf_ref _ | exact rf_opt _ | exact rf_nul) ?_
      refine pw_ifnull (tgt := 28) (pc2 := 19) dX1_hasYanked_16 (by decide) rfl (fun c16 => ?_) (fun a2 c16 => ?_)
      · refine pw_iinc (pc2 := 31) (v := nI (i + 1)) (L2 := [(1, Value.int (nI (i + 1))), (2, va_rf r1), (0, Value.ref c)]) dX1_hasYanked_28 rfl 1 rfl (by show nI _ + 1 = nI _; exact nI_1 _) (by decide) rfl ?_
        refine pw_goto (tgt := 2) dX1_hasYanked_31 (by decide) ?_
        refine PW.sub (L2 := [(1, Value.int (nI (i + 1))), (0, Value.ref c)]) [0, 2] rfl ?_
        refine ih (i + 1) (fun k r hk hp2 => ?_) (by omega)
        rcases Nat.lt_or_ge k i with q | q
        · exact hal k r q hp2
        · have hki : k = i := by omega
          subst hki
          first | (exfalso; rw [hp2] at er1; rw [er1] at c16; cases c16) | (rw [hp2] at er1; cases er1; exact c23)
      · subst c16
        refine pw_aload_n (pc2 := 20) dX1_hasYanked_19 rfl rfl 0 rfl (by first | exact rf_ref _ | exact rf_opt _ | exact rf_nul) ?_
        refine pw_getN (pc2 := 23) kX5 (k := 4) (by decide) rfl fl_X1_29 (hP i hi9 a2 er1.symm) rfl dX1_hasYanked_20 rfl ?_
        refine pw_if_eq (tgt := 28) (pc2 := 26) dX1_hasYanked_23 (by decide) rfl (fun c23 => ?_) (fun c23 => ?_)
        · refine pw_iinc (pc2 := 31) (v := nI (i + 1)) (L2 := [(1, Value.int (nI (i + 1))), (2, Value.ref a2), (0, Value.ref c)]) dX1_hasYanked_28 rfl 1 rfl (by show nI _ + 1 = nI _; exact nI_1 _) (by decide) rfl ?_
          refine pw_goto (tgt := 2) dX1_hasYanked_31 (by decide) ?_
          refine PW.sub (L2 := [(1, Value.int (nI (i + 1))), (0, Value.ref c)]) [0, 2] rfl ?_
          refine ih (i + 1) (fun k r hk hp2 => ?_) (by omega)
          rcases Nat.lt_or_ge k i with q | q
          · exact hal k r q hp2
          · have hki : k = i := by omega
            subst hki
            first | (exfalso; rw [hp2] at er1; rw [er1] at c16; cases c16) | (rw [hp2] at er1; cases er1; exact c23)
        · refine pw_iconst (pc2 := 27) (v := 1) dX1_hasYanked_26 rfl (by decide) ?_
          refine pw_iret dX1_hasYanked_27 rfl (by first | rfl | assumption | simp [narrow]) ?_
          exact bR_1 ⟨i, _, hi9, er1.symm, c23⟩
  refine PW.sub (L2 := [(1, Value.int 0), (0, Value.ref c)]) [0, 1] rfl ?_
  exact loop 6 0 (fun k r hk => absurd hk (Nat.not_lt_zero k)) rfl
set_option maxHeartbeats 4000000 in
set_option maxRecDepth 100000 in
theorem c_cinit (G : hG) (h : hp) {c : Nat} (hc : h c = some (oB 4 [.null])) : PMet G MX1_init 1 1 6 [.ref c] h (fun r h' => r = none ∧ ∃ p : Nat, frs G h [p] ∧ isC h' c p zN ∧ sm h h' [c, p]) noX := by
  refine PMet.of rfl (Nat.le_of_ble_eq_true rfl) (fun d hd => ?_)
  refine PW.sub (L2 := [(0, Value.ref c)]) [0] rfl ?_
  refine pw_aload_n (pc2 := 1) dX1_init_0 rfl rfl 0 rfl (by first | exact rf_ref _ | exact rf_opt _ | exact rf_nul) ?_
  refine pw_objInit (pc2 := 4) co_X1_3 wo_1 wo_2 dX1_init_1 rfl (by decide) ?_
  refine pw_aload_n (pc2 := 5) dX1_init_4 rfl rfl 0 rfl (by first | exact rf_ref _ | exact rf_opt _ | exact rf_nul) ?_
  refine pw_bipush (pc2 := 7) (v := 6) dX1_init_5 rfl (by decide) ?_
  refine pw_anewarr (pc2 := 10) (Nn := 6) 4 rfl (fun U hU => hU.2.2.1.1) cl_X1_9 (by decide) (by decide) (by decide) dX1_init_7 rfl (fun p hp gp => ?_)
  refine pw_putF (pc2 := 13) kX1 (k := 0) (by decide) rfl rfl rfl rfl fl_X1_11 ((va_up_ne _ _ (ne_nw hc hp)).trans hc) (by first | decide | simp) (by first | rfl | exact nar_rf _ _) (by first | rfl | exact fit_rf _ _) dX1_init_10 rfl ?_
  refine pw_vret dX1_init_13 rfl ?_
  exact ⟨rfl, p, ⟨by simp, fun x hx => by simp only [List.mem_cons, List.not_mem_nil, or_false] at hx; subst hx; exact ⟨hp, gp⟩⟩, ⟨(va_up_self _ _ _), ((va_up_ne _ _ ((ne_nw hc hp)).symm).trans (va_up_self _ _ _))⟩, fun x hx => by simp only [List.mem_cons, List.not_mem_nil, or_false, not_or] at hx; simp [va_up, hx]⟩
