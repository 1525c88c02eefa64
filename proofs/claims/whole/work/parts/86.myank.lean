/-! the reference: yank, relock -/
theorem vG_cg {σ S : sT} (h40 : ∀ x, S.1 40 x 0 = σ.1 40 x 0) (o : Option Nat) : vG S o = vG σ o := by
  cases o with
  | none => rfl
  | some x => exact h40 x
/-- a state with the same releases, but for what is yanked -/
theorem RR_cg {σ S : sT} {ofr : Nat → Nat} (h : RR σ ofr) (eN : S.2.1 = σ.2.1) (eO : ∀ r, S.2.2 45 r = σ.2.2 45 r) (h40 : ∀ x k, k ≠ 2 → S.1 40 x k = σ.1 40 x k) (h83 : ∀ x, x < nrl σ → S.1 83 0 x = S.1 40 x 2) (hu : ∀ u j, (u = 42 ∨ u = 43 ∨ u = 77 ∨ u = 78 ∨ u = 79 ∨ u = 97 ∨ u = 98 ∨ u = 99) → S.1 u j = σ.1 u j) : RR S ofr := by
  have n1 : nrl S = nrl σ := by unfold nrl; rw [eN]
  have n2 : npk S = npk σ := by unfold npk; rw [eN]
  have n3 : ∀ q, rnp S q = rnp σ q := fun q => by unfold rnp; rw [eN]
  have n4 : ∀ q i, ixp S q i = ixp σ q i := fun q i => by unfold ixp; rw [eN]
  have e0 : ∀ x, S.1 40 x 0 = σ.1 40 x 0 := fun x => h40 x 0 (by decide)
  have e1 : ∀ x, S.1 40 x 1 = σ.1 40 x 1 := fun x => h40 x 1 (by decide)
  refine ⟨⟨fun x hx => ?_, fun q hq => ?_⟩, fun r hr => ?_, fun r s h1 h2 h3 => ?_⟩
  · rw [n1] at hx
    obtain ⟨a1, a2, a3, a4, a5, a6⟩ := h.1.1 x hx
    rw [n2, hu 77 0 (by decide), hu 78 0 (by decide), hu 79 0 (by decide), hu 97 x (by decide), hu 98 x (by decide), hu 42 x (by decide), hu 43 x (by decide), e0, e1]
    exact ⟨a1, a2, a3, a4, h83 x hx, a6⟩
  · rw [n3, n1]
    obtain ⟨a1, a2⟩ := h.1.2 q hq
    exact ⟨a1, fun r hr ho => by rw [n4]; exact a2 r hr ho⟩
  · rw [n1] at hr
    obtain ⟨a1, a2, a3, a4⟩ := h.2.1 r hr
    rw [eO, hu 99 r (by decide), hu 43 r (by decide), e0, e1]
    exact ⟨fun j hj => ⟨((a1 j hj).1).trans (vG_cg e0 _).symm, (a1 j hj).2⟩, a2, a3, a4⟩
  · rw [n1] at h2
    rw [e0, e0]
    exact h.2.2 r s h1 h2 h3
theorem stl_cg {σ S : sT} (h40 : ∀ x, S.1 40 x 2 = σ.1 40 x 2) (eO : ∀ r, S.2.2 45 r = σ.2.2 45 r) (r : Nat) : stl S r ↔ stl σ r := by
  unfold stl
  rw [h40, eO]
  simp only [h40]
theorem stN_cg {σ S : sT} (h40 : ∀ x, S.1 40 x 2 = σ.1 40 x 2) (eO : ∀ r, S.2.2 45 r = σ.2.2 45 r) : ∀ n, stN S n = stN σ n
  | 0 => rfl
  | n + 1 => by
    show stN S n + dit (stl S n) 1 0 = stN σ n + dit (stl σ n) 1 0
    rw [stN_cg h40 eO n, show stl S n = stl σ n from propext (stl_cg h40 eO n)]
theorem WM.gI {G : hG} {h : hp} {A : aT} {σ : sT} (H : WM G h A σ) {t i : Nat} {f : Nat → Int32} (ht : t < 60) (hI : IV (setI σ t i f)) : WM G h A (setI σ t i f) := by
  refine ⟨fun u j h1 h2 => ?_, H.2.1, hI⟩
  rw [setI_n (Or.inl (by omega))]
  exact H.1 u j h1 h2
def yS (σ : sT) (r : Nat) : sT := setI (thS (thS σ 0) 0) 83 0 (upd (σ.1 83 0) r 1)
theorem RR_yank {σ : sT} {ofr : Nat → Nat} (h : RR σ ofr) {r : Nat} : RR (setI (yS σ r) 40 r (upd (σ.1 40 r) 2 1)) ofr := by
  have e40 : ∀ x, ¬ x = r → (setI (yS σ r) 40 r (upd (σ.1 40 r) 2 1)).1 40 x = σ.1 40 x := fun x hx => setI_n (Or.inr hx)
  have e40r : (setI (yS σ r) 40 r (upd (σ.1 40 r) 2 1)).1 40 r = upd (σ.1 40 r) 2 1 := setI_s _ _ _
  refine RR_cg h rfl (fun _ => rfl) (fun x k hk => ?_) (fun x hx => ?_) (fun u j hu => ?_)
  · by_cases e : x = r
    · subst e
      rw [e40r]
      exact if_neg hk
    · rw [e40 x e]
  · by_cases e : x = r
    · subst e
      rw [e40r, upd_s]
      exact upd_s _ _ _
    · rw [e40 x e]
      exact (if_neg e).trans (h.1.1 x hx).2.2.2.2.1
  · rcases hu with rfl | rfl | rfl | rfl | rfl | rfl | rfl | rfl <;> rfl
set_option maxHeartbeats 4000000 in
set_option maxRecDepth 100000 in
theorem c_myank (G : hG) (h : hp) {A : aT} {σ : sT} (H : WM G h A σ) (hb : MB σ) {ofr : Nat → Nat} (hR : RR σ ofr) (n v : Int32) : PMet G MX10_yank 3 0 0 [.ref (A 60 0), .int n, .int v] h (fun r9 h2 => (¬ inR n (npk σ) ∧ QSM G h A (.int 0) (thS σ 1) r9 h2) ∨ (∃ p, p < npk σ ∧ n = nI p ∧ ((fdV σ p v 0 (rnp σ p) = none ∧ QSM G h A (.int 0) (thS (thS σ 0) 2) r9 h2) ∨ (∃ r, fdV σ p v 0 (rnp σ p) = some r ∧ ((¬ σ.1 40 r 2 = 0 ∧ QSM G h A (.int 0) (thS (thS σ 0) 3) r9 h2) ∨ (σ.1 40 r 2 = 0 ∧ QSM G h A (.int (stN (setI σ 40 r (upd (σ.1 40 r) 2 1)) (nrl σ))) (yS σ r) r9 h2)))))) noX := by
  have hnp := H.iv.1
  have hnr := H.iv.2.2.1
  refine PMet.of (by decide +kernel) (Nat.le_of_ble_eq_true rfl) (fun d hd => ?_)
  refine PW.sub (L2 := [(0, Value.ref (A 60 0)), (1, Value.int n), (2, Value.int v)]) [0, 1, 2] rfl ?_
  refine pw_aload_n (pc2 := 1) dX10_yank_0 rfl rfl 0 rfl (by first | exact rf_ref _ | exact rf_opt _ | exact rf_nul) ?_
  refine pw_iload_n (pc2 := 2) dX10_yank_1 rfl rfl 1 rfl ?_
  refine pw_callV (pc2 := 5) (c_lacks G _ H hb n) cs_X10_123 rfl rfl H.c60 dX10_yank_2 rfl (by omega) rfl (by first | decide | simp [cat_rf, Value.category]) (fun r9 h9 q9 => ?_) (fun Y h9 q9 => q9.elim)
  rcases q9 with ⟨hin, rfl, K1, FK1⟩ | ⟨hin, rfl, K1, FK1⟩
  · obtain ⟨p, hpp, rfl⟩ := inR_ex (by omega) hin
    have hp6 : p < 6 := by omega
    have c60K1 : h9 (A 60 0) = some (oB 13 [.ref (A 61 0), .ref (A 62 0), .ref (A 63 0), .ref (A 64 0), .ref (A 65 0), .ref (A 66 0), .ref (A 67 0), .ref (A 68 0), .ref (A 69 0), .ref (A 70 0), .ref (A 71 0), .ref (A 72 0), .ref (A 73 0), .ref (A 74 0), .ref (A 75 0), .ref (A 76 0), .int (σ.1 60 0 0), .ref (A 77 0), .ref (A 78 0), .ref (A 79 0), .ref (A 80 0), .ref (A 81 0), .ref (A 82 0), .ref (A 83 0), .int (σ.1 60 0 1), .ref (A 84 0), .ref (A 85 0), .ref (A 86 0), .ref (A 87 0), .ref (A 88 0), .int (σ.1 60 0 2), .int (σ.1 60 0 3), .ref (A 89 0), .int (σ.1 60 0 4), .int (σ.1 60 0 5), .int (σ.1 60 0 6), .ref (A 90 0), .int 0]) := K1.c60
    refine pw_if_eq (tgt := 10) (pc2 := 8) dX10_yank_5 (by decide) rfl (fun _ => ?_) (fun c5 => by exact absurd (by decide) c5)
    refine pw_aload_n (pc2 := 11) dX10_yank_10 rfl rfl 0 rfl (by first | exact rf_ref _ | exact rf_opt _ | exact rf_nul) ?_
    refine pw_iload_n (pc2 := 12) dX10_yank_11 rfl rfl 1 rfl ?_
    refine pw_iload_n (pc2 := 13) dX10_yank_12 rfl rfl 2 rfl ?_
    refine pw_callV1 (pc2 := 16) (c_findT G _ K1 hb hR hp6 v) cs_X10_206 rfl rfl c60K1 dX10_yank_13 rfl (by omega) rfl (by first | decide | simp [cat_rf, Value.category]) ?_
    obtain ⟨os, hos⟩ : ∃ o, fdV σ p v 0 (rnp σ p) = o := ⟨_, rfl⟩
    cases os with
    | none =>
      refine pw_topE (show enc (fdV σ p v 0 (rnp σ p)) = -1 by rw [hos]; rfl) ?_
      refine pw_istore_n (pc2 := 17) (L2 := [(3, Value.int (-1)), (0, Value.ref (A 60 0)), (1, Value.int (nI p)), (2, Value.int v)]) dX10_yank_16 rfl rfl (by decide) rfl ?_
      refine pw_aload_n (pc2 := 18) dX10_yank_17 rfl rfl 1 rfl (by first | exact rf_ref _ | exact rf_opt _ | exact rf_nul) ?_
      refine pw_iload_n (pc2 := 19) dX10_yank_18 rfl rfl 0 rfl ?_
      refine pw_iconst (pc2 := 20) (v := (-1)) dX10_yank_19 rfl (by decide) ?_
      refine pw_icmp_ne (tgt := 27) (pc2 := 23) dX10_yank_20 (by decide) rfl (fun c20 => by exact absurd (rfl) c20) (fun _ => ?_)
      refine pw_iconst (pc2 := 24) (v := 2) dX10_yank_23 rfl (by decide) ?_
      refine pw_goto (tgt := 41) dX10_yank_24 (by decide) ?_
      refine pw_put (pc2 := 44) kX10 (k := 37) (by decide) rfl rfl fl_X10_109 c60K1 (by first | decide | simp) (by first | rfl | exact nar_rf _ _) (by first | rfl | exact fit_rf _ _) dX10_yank_41 rfl ?_
      obtain ⟨K2, FK2⟩ := K1.wIF (FK1) (t := 60) (i := 0) (f := (upd (upd (σ.1 60 0) 7 0) 7 2)) rfl (by decide) (iv_setI K1.iv (by decide)) rfl
      obtain ⟨h7, eh7⟩ : ∃ z : Nat → Option hE, z = va_up h9 (A 60 0) (some (oB 13 [.ref (A 61 0), .ref (A 62 0), .ref (A 63 0), .ref (A 64 0), .ref (A 65 0), .ref (A 66 0), .ref (A 67 0), .ref (A 68 0), .ref (A 69 0), .ref (A 70 0), .ref (A 71 0), .ref (A 72 0), .ref (A 73 0), .ref (A 74 0), .ref (A 75 0), .ref (A 76 0), .int (σ.1 60 0 0), .ref (A 77 0), .ref (A 78 0), .ref (A 79 0), .ref (A 80 0), .ref (A 81 0), .ref (A 82 0), .ref (A 83 0), .int (σ.1 60 0 1), .ref (A 84 0), .ref (A 85 0), .ref (A 86 0), .ref (A 87 0), .ref (A 88 0), .int (σ.1 60 0 2), .int (σ.1 60 0 3), .ref (A 89 0), .int (σ.1 60 0 4), .int (σ.1 60 0 5), .int (σ.1 60 0 6), .ref (A 90 0), .int 2])) := ⟨_, rfl⟩
      refine PW.heap (h' := h7) eh7.symm ?_
      replace K2 : WM G h7 A (setI (thS σ 0) 60 0 (upd (upd (σ.1 60 0) 7 0) 7 2)) := by rw [eh7]; exact K2
      replace FK2 : FM A h h7 := by rw [eh7]; exact FK2
      have c60K2b : h7 (A 60 0) = some (oB 13 [.ref (A 61 0), .ref (A 62 0), .ref (A 63 0), .ref (A 64 0), .ref (A 65 0), .ref (A 66 0), .ref (A 67 0), .ref (A 68 0), .ref (A 69 0), .ref (A 70 0), .ref (A 71 0), .ref (A 72 0), .ref (A 73 0), .ref (A 74 0), .ref (A 75 0), .ref (A 76 0), .int (σ.1 60 0 0), .ref (A 77 0), .ref (A 78 0), .ref (A 79 0), .ref (A 80 0), .ref (A 81 0), .ref (A 82 0), .ref (A 83 0), .int (σ.1 60 0 1), .ref (A 84 0), .ref (A 85 0), .ref (A 86 0), .ref (A 87 0), .ref (A 88 0), .int (σ.1 60 0 2), .int (σ.1 60 0 3), .ref (A 89 0), .int (σ.1 60 0 4), .int (σ.1 60 0 5), .int (σ.1 60 0 6), .ref (A 90 0), .int 2]) := K2.c60
      refine pw_aload_n (pc2 := 45) dX10_yank_44 rfl rfl 1 rfl (by first | exact rf_ref _ | exact rf_opt _ | exact rf_nul) ?_
      refine pw_get (pc2 := 48) kX10 (k := 37) (by decide) rfl fl_X10_109 c60K2b rfl dX10_yank_45 rfl ?_
      refine pw_if_le (tgt := 53) (pc2 := 51) dX10_yank_48 (by decide) rfl (fun c48 => by exact absurd c48 (by decide)) (fun _ => ?_)
      refine pw_iconst (pc2 := 52) (v := 0) dX10_yank_51 rfl (by decide) ?_
      refine pw_iret dX10_yank_52 rfl (by first | rfl | assumption | simp [narrow]) ?_
      exact Or.inr ⟨p, hpp, rfl, Or.inl ⟨hos, rfl, K2, FK2⟩⟩
    | some r =>
      refine pw_topE (show enc (fdV σ p v 0 (rnp σ p)) = nI r by rw [hos]; rfl) ?_
      have hr : r < nrl σ := fdV_nr hR (by omega) hos
      have hr20 : r < 20 := by omega
      refine pw_istore_n (pc2 := 17) (L2 := [(3, Value.int (nI r)), (0, Value.ref (A 60 0)), (1, Value.int (nI p)), (2, Value.int v)]) dX10_yank_16 rfl rfl (by decide) rfl ?_
      refine pw_aload_n (pc2 := 18) dX10_yank_17 rfl rfl 1 rfl (by first | exact rf_ref _ | exact rf_opt _ | exact rf_nul) ?_
      refine pw_iload_n (pc2 := 19) dX10_yank_18 rfl rfl 0 rfl ?_
      refine pw_iconst (pc2 := 20) (v := (-1)) dX10_yank_19 rfl (by decide) ?_
      refine pw_icmp_ne (tgt := 27) (pc2 := 23) dX10_yank_20 (by decide) rfl (fun _ => ?_) (fun c20 => by exact absurd c20 (nIne r (by omega)))
      refine pw_aload_n (pc2 := 28) dX10_yank_27 rfl rfl 1 rfl (by first | exact rf_ref _ | exact rf_opt _ | exact rf_nul) ?_
      refine pw_get (pc2 := 31) kX10 (k := 23) (by decide) rfl fl_X10_79 c60K1 rfl dX10_yank_28 rfl ?_
      refine pw_iload_n (pc2 := 32) dX10_yank_31 rfl rfl 0 rfl ?_
      refine pw_zaldN (pc2 := 33) K1.c83 (i := r) (by first | assumption | omega) (by omega) dX10_yank_32 rfl ?_
      refine pw_topE (hR.1.1 r hr).2.2.2.2.1 ?_
      refine pw_if_eq (tgt := 40) (pc2 := 36) dX10_yank_33 (by decide) rfl (fun c33 => ?_) (fun c33 => ?_)
      · refine pw_iconst (pc2 := 41) (v := 0) dX10_yank_40 rfl (by decide) ?_
        refine pw_put (pc2 := 44) kX10 (k := 37) (by decide) rfl rfl fl_X10_109 c60K1 (by first | decide | simp) (by first | rfl | exact nar_rf _ _) (by first | rfl | exact fit_rf _ _) dX10_yank_41 rfl ?_
        obtain ⟨K2, FK2⟩ := K1.wIF (FK1) (t := 60) (i := 0) (f := (upd (upd (σ.1 60 0) 7 0) 7 0)) rfl (by decide) (iv_setI K1.iv (by decide)) rfl
        obtain ⟨h7, eh7⟩ : ∃ z : Nat → Option hE, z = va_up h9 (A 60 0) (some (oB 13 [.ref (A 61 0), .ref (A 62 0), .ref (A 63 0), .ref (A 64 0), .ref (A 65 0), .ref (A 66 0), .ref (A 67 0), .ref (A 68 0), .ref (A 69 0), .ref (A 70 0), .ref (A 71 0), .ref (A 72 0), .ref (A 73 0), .ref (A 74 0), .ref (A 75 0), .ref (A 76 0), .int (σ.1 60 0 0), .ref (A 77 0), .ref (A 78 0), .ref (A 79 0), .ref (A 80 0), .ref (A 81 0), .ref (A 82 0), .ref (A 83 0), .int (σ.1 60 0 1), .ref (A 84 0), .ref (A 85 0), .ref (A 86 0), .ref (A 87 0), .ref (A 88 0), .int (σ.1 60 0 2), .int (σ.1 60 0 3), .ref (A 89 0), .int (σ.1 60 0 4), .int (σ.1 60 0 5), .int (σ.1 60 0 6), .ref (A 90 0), .int 0])) := ⟨_, rfl⟩
        refine PW.heap (h' := h7) eh7.symm ?_
        replace K2 : WM G h7 A (setI (thS σ 0) 60 0 (upd (upd (σ.1 60 0) 7 0) 7 0)) := by rw [eh7]; exact K2
        replace FK2 : FM A h h7 := by rw [eh7]; exact FK2
        have k830K2 : h7 (A 83 0) = some (aZ 20 (σ.1 83 0)) := K2.c83
        have c60K2b : h7 (A 60 0) = some (oB 13 [.ref (A 61 0), .ref (A 62 0), .ref (A 63 0), .ref (A 64 0), .ref (A 65 0), .ref (A 66 0), .ref (A 67 0), .ref (A 68 0), .ref (A 69 0), .ref (A 70 0), .ref (A 71 0), .ref (A 72 0), .ref (A 73 0), .ref (A 74 0), .ref (A 75 0), .ref (A 76 0), .int (σ.1 60 0 0), .ref (A 77 0), .ref (A 78 0), .ref (A 79 0), .ref (A 80 0), .ref (A 81 0), .ref (A 82 0), .ref (A 83 0), .int (σ.1 60 0 1), .ref (A 84 0), .ref (A 85 0), .ref (A 86 0), .ref (A 87 0), .ref (A 88 0), .int (σ.1 60 0 2), .int (σ.1 60 0 3), .ref (A 89 0), .int (σ.1 60 0 4), .int (σ.1 60 0 5), .int (σ.1 60 0 6), .ref (A 90 0), .int 0]) := K2.c60
        refine pw_aload_n (pc2 := 45) dX10_yank_44 rfl rfl 1 rfl (by first | exact rf_ref _ | exact rf_opt _ | exact rf_nul) ?_
        refine pw_get (pc2 := 48) kX10 (k := 37) (by decide) rfl fl_X10_109 c60K2b rfl dX10_yank_45 rfl ?_
        refine pw_if_le (tgt := 53) (pc2 := 51) dX10_yank_48 (by decide) rfl (fun _ => ?_) (fun c48 => by exact absurd (by decide) c48)
        refine pw_aload_n (pc2 := 54) dX10_yank_53 rfl rfl 1 rfl (by first | exact rf_ref _ | exact rf_opt _ | exact rf_nul) ?_
        refine pw_get (pc2 := 57) kX10 (k := 23) (by decide) rfl fl_X10_79 c60K2b rfl dX10_yank_54 rfl ?_
        refine pw_iload_n (pc2 := 58) dX10_yank_57 rfl rfl 0 rfl ?_
        refine pw_iconst (pc2 := 59) (v := 1) dX10_yank_58 rfl (by decide) ?_
        refine pw_zastN (pc2 := 60) k830K2 (i := r) (by first | assumption | omega) (by omega) (by decide) dX10_yank_59 rfl ?_
        obtain ⟨K3, FK3⟩ := K2.wIF (FK2) (t := 83) (i := 0) (f := (upd (σ.1 83 0) r 1)) rfl (by decide) (iv_setI K2.iv (by decide)) rfl
        obtain ⟨h6, eh6⟩ : ∃ z : Nat → Option hE, z = va_up h7 (A 83 0) (some (aZ 20 (upd (σ.1 83 0) r 1))) := ⟨_, rfl⟩
        refine PW.heap (h' := h6) eh6.symm ?_
        replace K3 : WM G h6 A (setI (setI (thS σ 0) 60 0 (upd (upd (σ.1 60 0) 7 0) 7 0)) 83 0 (upd (σ.1 83 0) r 1)) := by rw [eh6]; exact K3
        replace FK3 : FM A h h6 := by rw [eh6]; exact FK3
        have c60K3 : h6 (A 60 0) = some (oB 13 [.ref (A 61 0), .ref (A 62 0), .ref (A 63 0), .ref (A 64 0), .ref (A 65 0), .ref (A 66 0), .ref (A 67 0), .ref (A 68 0), .ref (A 69 0), .ref (A 70 0), .ref (A 71 0), .ref (A 72 0), .ref (A 73 0), .ref (A 74 0), .ref (A 75 0), .ref (A 76 0), .int (σ.1 60 0 0), .ref (A 77 0), .ref (A 78 0), .ref (A 79 0), .ref (A 80 0), .ref (A 81 0), .ref (A 82 0), .ref (A 83 0), .int (σ.1 60 0 1), .ref (A 84 0), .ref (A 85 0), .ref (A 86 0), .ref (A 87 0), .ref (A 88 0), .int (σ.1 60 0 2), .int (σ.1 60 0 3), .ref (A 89 0), .int (σ.1 60 0 4), .int (σ.1 60 0 5), .int (σ.1 60 0 6), .ref (A 90 0), .int 0]) := K3.c60
        have k830K3 : h6 (A 83 0) = some (aZ 20 (upd (σ.1 83 0) r 1)) := K3.c83.trans (congrArg (fun w => some (aZ 20 w)) (show (setI (setI (thS σ 0) 60 0 (upd (upd (σ.1 60 0) 7 0) 7 0)) 83 0 (upd (σ.1 83 0) r 1)).1 83 0 = (upd (σ.1 83 0) r 1) from setI_s _ _ _))
        refine pw_iconst (pc2 := 61) (v := 0) dX10_yank_60 rfl (by decide) ?_
        refine pw_istore (pc2 := 63) (L2 := [(4, Value.int 0), (3, Value.int (nI r)), (0, Value.ref (A 60 0)), (1, Value.int (nI p)), (2, Value.int v)]) dX10_yank_61 rfl (by decide) rfl ?_
        refine pw_iconst (pc2 := 64) (v := 0) dX10_yank_63 rfl (by decide) ?_
        refine pw_istore (pc2 := 66) (L2 := [(5, Value.int 0), (4, Value.int 0), (3, Value.int (nI r)), (0, Value.ref (A 60 0)), (1, Value.int (nI p)), (2, Value.int v)]) dX10_yank_64 rfl (by decide) rfl ?_
        have KY : WM G h6 A (setI (yS σ r) 40 r (upd (σ.1 40 r) 2 1)) := (show WM G h6 A (yS σ r) from K3).gI (by decide) (iv_I K3.iv (fun q => by rcases q with q | q <;> cases q) (fun _ => by rw [upd_s]; exact Or.inr rfl) (fun q => by cases q))
        have hRY := RR_yank hR (r := r)
        have loop : ∀ (k i : Nat) (ac : Int32) (hac : ac = stN (setI (yS σ r) 40 r (upd (σ.1 40 r) 2 1)) i), i + k = nrl σ → PW G MX10_yank d noA (E0 G (fun r9 h2 => (¬ inR (nI p) (npk σ) ∧ QSM G h A (.int 0) (thS σ 1) r9 h2) ∨ (∃ p8, p8 < npk σ ∧ (nI p) = nI p8 ∧ ((fdV σ p8 v 0 (rnp σ p8) = none ∧ QSM G h A (.int 0) (thS (thS σ 0) 2) r9 h2) ∨ (∃ r8, fdV σ p8 v 0 (rnp σ p8) = some r8 ∧ ((¬ σ.1 40 r8 2 = 0 ∧ QSM G h A (.int 0) (thS (thS σ 0) 3) r9 h2) ∨ (σ.1 40 r8 2 = 0 ∧ QSM G h A (.int (stN (setI σ 40 r8 (upd (σ.1 40 r8) 2 1)) (nrl σ))) (yS σ r8) r9 h2)))))) noX) 0 0 66 [(5, Value.int (nI i)), (4, Value.int ac), (0, Value.ref (A 60 0))] [] h6 := by
          intro k
          induction k with
          | zero =>
            intro i ac hac hik
            have hi9 : i = nrl σ := by omega
            refine pw_iload (pc2 := 68) dX10_yank_66 rfl 0 rfl ?_
            refine pw_aload_n (pc2 := 69) dX10_yank_68 rfl rfl 2 rfl (by first | exact rf_ref _ | exact rf_opt _ | exact rf_nul) ?_
            refine pw_get (pc2 := 72) kX10 (k := 24) (by decide) rfl fl_X10_146 K3.c60 rfl dX10_yank_69 rfl ?_
            refine pw_topE hb.2.1 ?_
            refine pw_icmp_ge (tgt := 100) (pc2 := 75) dX10_yank_72 (by decide) rfl (fun _ => ?_) (fun c72 => by exact absurd (by first | exact (nI_leI (a := nrl σ) (b := i) (by omega) (by omega)).mpr (by omega) | exact fun q => absurd ((nI_leI (a := nrl σ) (b := i) (by omega) (by omega)).mp q) (by omega)) c72)
            refine pw_iload (pc2 := 102) dX10_yank_100 rfl 1 rfl ?_
            refine pw_iret dX10_yank_102 rfl (by first | rfl | assumption | simp [narrow]) ?_
            exact Or.inr ⟨p, hpp, rfl, Or.inr ⟨r, hos, Or.inr ⟨c33, by rw [hac, hi9]; exact congrArg (fun z => some (Value.int z)) (stN_cg (σ := setI σ 40 r (upd (σ.1 40 r) 2 1)) (S := (setI (yS σ r) 40 r (upd (σ.1 40 r) 2 1))) (fun x => rfl) (fun _ => rfl) _), K3, FK3⟩⟩⟩
          | succ k ih =>
            intro i ac hac hik
            have hi9 : i < nrl σ := by omega
            refine pw_iload (pc2 := 68) dX10_yank_66 rfl 0 rfl ?_
            refine pw_aload_n (pc2 := 69) dX10_yank_68 rfl rfl 2 rfl (by first | exact rf_ref _ | exact rf_opt _ | exact rf_nul) ?_
            refine pw_get (pc2 := 72) kX10 (k := 24) (by decide) rfl fl_X10_146 K3.c60 rfl dX10_yank_69 rfl ?_
            refine pw_topE hb.2.1 ?_
            refine pw_icmp_ge (tgt := 100) (pc2 := 75) dX10_yank_72 (by decide) rfl (fun c72 => by exact absurd c72 (by first | exact (nI_leI (a := nrl σ) (b := i) (by omega) (by omega)).mpr (by omega) | exact fun q => absurd ((nI_leI (a := nrl σ) (b := i) (by omega) (by omega)).mp q) (by omega))) (fun _ => ?_)
            refine pw_iload (pc2 := 77) dX10_yank_75 rfl 1 rfl ?_
            refine pw_aload_n (pc2 := 78) dX10_yank_77 rfl rfl 2 rfl (by first | exact rf_ref _ | exact rf_opt _ | exact rf_nul) ?_
            refine pw_iload (pc2 := 80) dX10_yank_78 rfl 0 rfl ?_
            refine pw_callVb (pc2 := 83) (c_stale G _ KY hb hRY (r := i) hi9) cs_X10_209 rfl rfl K3.c60 dX10_yank_80 rfl (by omega) rfl (by first | decide | simp [cat_rf, Value.category]) (fun q80 => ?_) (fun q80 => ?_)
            · refine pw_if_eq (tgt := 90) (pc2 := 86) dX10_yank_83 (by decide) rfl (fun c83 => by exact absurd c83 (by decide)) (fun _ => ?_)
              refine pw_iconst (pc2 := 87) (v := 1) dX10_yank_86 rfl (by decide) ?_
              refine pw_goto (tgt := 91) dX10_yank_87 (by decide) ?_
              refine pw_iadd (pc2 := 92) dX10_yank_91 rfl ?_
              refine pw_topi (fun v1 ev1 => ?_)
              refine pw_istore (pc2 := 94) (L2 := [(4, Value.int v1), (5, Value.int (nI i)), (0, Value.ref (A 60 0))]) dX10_yank_92 rfl (by decide) rfl ?_
              refine pw_iinc (pc2 := 97) (v := nI (i + 1)) (L2 := [(5, Value.int (nI (i + 1))), (4, Value.int v1), (0, Value.ref (A 60 0))]) dX10_yank_94 rfl 1 rfl (by show nI _ + 1 = nI _; exact nI_1 _) (by decide) rfl ?_
              refine pw_goto (tgt := 66) dX10_yank_97 (by decide) ?_
              refine PW.sub (L2 := [(5, Value.int (nI (i + 1))), (4, Value.int v1), (0, Value.ref (A 60 0))]) [0, 1, 2] rfl ?_
              refine ih (i + 1) v1 ?_ (by omega)
              rw [ev1, hac]
              exact congrArg (fun z => stN (setI (yS σ r) 40 r (upd (σ.1 40 r) 2 1)) i + z) (by first | exact (dit_t q80).symm | exact (dit_f q80).symm)
            · refine pw_if_eq (tgt := 90) (pc2 := 86) dX10_yank_83 (by decide) rfl (fun _ => ?_) (fun c83 => by exact absurd (by decide) c83)
              refine pw_iconst (pc2 := 91) (v := 0) dX10_yank_90 rfl (by decide) ?_
              refine pw_iadd (pc2 := 92) dX10_yank_91 rfl ?_
              refine pw_topi (fun v3 ev3 => ?_)
              refine pw_istore (pc2 := 94) (L2 := [(4, Value.int v3), (5, Value.int (nI i)), (0, Value.ref (A 60 0))]) dX10_yank_92 rfl (by decide) rfl ?_
              refine pw_iinc (pc2 := 97) (v := nI (i + 1)) (L2 := [(5, Value.int (nI (i + 1))), (4, Value.int v3), (0, Value.ref (A 60 0))]) dX10_yank_94 rfl 1 rfl (by show nI _ + 1 = nI _; exact nI_1 _) (by decide) rfl ?_
              refine pw_goto (tgt := 66) dX10_yank_97 (by decide) ?_
              refine PW.sub (L2 := [(5, Value.int (nI (i + 1))), (4, Value.int v3), (0, Value.ref (A 60 0))]) [0, 1, 2] rfl ?_
              refine ih (i + 1) v3 ?_ (by omega)
              rw [ev3, hac]
              exact congrArg (fun z => stN (setI (yS σ r) 40 r (upd (σ.1 40 r) 2 1)) i + z) (by first | exact (dit_t q80).symm | exact (dit_f q80).symm)
        refine PW.sub (L2 := [(5, Value.int 0), (4, Value.int 0), (0, Value.ref (A 60 0))]) [0, 1, 3] rfl ?_
        exact loop (nrl σ) 0 0 rfl (by omega)
      · refine pw_iconst (pc2 := 37) (v := 3) dX10_yank_36 rfl (by decide) ?_
        refine pw_goto (tgt := 41) dX10_yank_37 (by decide) ?_
        refine pw_put (pc2 := 44) kX10 (k := 37) (by decide) rfl rfl fl_X10_109 c60K1 (by first | decide | simp) (by first | rfl | exact nar_rf _ _) (by first | rfl | exact fit_rf _ _) dX10_yank_41 rfl ?_
        obtain ⟨K2, FK2⟩ := K1.wIF (FK1) (t := 60) (i := 0) (f := (upd (upd (σ.1 60 0) 7 0) 7 3)) rfl (by decide) (iv_setI K1.iv (by decide)) rfl
        obtain ⟨h7, eh7⟩ : ∃ z : Nat → Option hE, z = va_up h9 (A 60 0) (some (oB 13 [.ref (A 61 0), .ref (A 62 0), .ref (A 63 0), .ref (A 64 0), .ref (A 65 0), .ref (A 66 0), .ref (A 67 0), .ref (A 68 0), .ref (A 69 0), .ref (A 70 0), .ref (A 71 0), .ref (A 72 0), .ref (A 73 0), .ref (A 74 0), .ref (A 75 0), .ref (A 76 0), .int (σ.1 60 0 0), .ref (A 77 0), .ref (A 78 0), .ref (A 79 0), .ref (A 80 0), .ref (A 81 0), .ref (A 82 0), .ref (A 83 0), .int (σ.1 60 0 1), .ref (A 84 0), .ref (A 85 0), .ref (A 86 0), .ref (A 87 0), .ref (A 88 0), .int (σ.1 60 0 2), .int (σ.1 60 0 3), .ref (A 89 0), .int (σ.1 60 0 4), .int (σ.1 60 0 5), .int (σ.1 60 0 6), .ref (A 90 0), .int 3])) := ⟨_, rfl⟩
        refine PW.heap (h' := h7) eh7.symm ?_
        replace K2 : WM G h7 A (setI (thS σ 0) 60 0 (upd (upd (σ.1 60 0) 7 0) 7 3)) := by rw [eh7]; exact K2
        replace FK2 : FM A h h7 := by rw [eh7]; exact FK2
        have c60K2b : h7 (A 60 0) = some (oB 13 [.ref (A 61 0), .ref (A 62 0), .ref (A 63 0), .ref (A 64 0), .ref (A 65 0), .ref (A 66 0), .ref (A 67 0), .ref (A 68 0), .ref (A 69 0), .ref (A 70 0), .ref (A 71 0), .ref (A 72 0), .ref (A 73 0), .ref (A 74 0), .ref (A 75 0), .ref (A 76 0), .int (σ.1 60 0 0), .ref (A 77 0), .ref (A 78 0), .ref (A 79 0), .ref (A 80 0), .ref (A 81 0), .ref (A 82 0), .ref (A 83 0), .int (σ.1 60 0 1), .ref (A 84 0), .ref (A 85 0), .ref (A 86 0), .ref (A 87 0), .ref (A 88 0), .int (σ.1 60 0 2), .int (σ.1 60 0 3), .ref (A 89 0), .int (σ.1 60 0 4), .int (σ.1 60 0 5), .int (σ.1 60 0 6), .ref (A 90 0), .int 3]) := K2.c60
        refine pw_aload_n (pc2 := 45) dX10_yank_44 rfl rfl 1 rfl (by first | exact rf_ref _ | exact rf_opt _ | exact rf_nul) ?_
        refine pw_get (pc2 := 48) kX10 (k := 37) (by decide) rfl fl_X10_109 c60K2b rfl dX10_yank_45 rfl ?_
        refine pw_if_le (tgt := 53) (pc2 := 51) dX10_yank_48 (by decide) rfl (fun c48 => by exact absurd c48 (by decide)) (fun _ => ?_)
        refine pw_iconst (pc2 := 52) (v := 0) dX10_yank_51 rfl (by decide) ?_
        refine pw_iret dX10_yank_52 rfl (by first | rfl | assumption | simp [narrow]) ?_
        exact Or.inr ⟨p, hpp, rfl, Or.inr ⟨r, hos, Or.inl ⟨c33, rfl, K2, FK2⟩⟩⟩
  · refine pw_if_eq (tgt := 10) (pc2 := 8) dX10_yank_5 (by decide) rfl (fun c5 => by exact absurd c5 (by decide)) (fun _ => ?_)
    refine pw_iconst (pc2 := 9) (v := 0) dX10_yank_8 rfl (by decide) ?_
    refine pw_iret dX10_yank_9 rfl (by first | rfl | assumption | simp [narrow]) ?_
    exact Or.inl ⟨hin, rfl, K1, FK1⟩
theorem srch_cgl {I : Nat → Nat → Nat → Int32} {N : Nat → Nat → Nat → Nat} {le le' gr gr' : Nat → Int32} : ∀ (k : Nat) (g : Nat → Option Nat), (∀ j, j < k → le j = le' j ∧ gr j = gr' j) → srch I N le gr k g = srch I N le' gr' k g
  | 0, _, _ => rfl
  | k + 1, g, h => by
    have hk := h k (Nat.lt_succ_self k)
    have e1 : rchd I gr g k = rchd I gr' g k := by unfold rchd; rw [hk.2]
    have e2 : ∀ r, admd I le gr g k r = admd I le' gr' g k r := fun r => by unfold admd; rw [hk.1, hk.2]
    show dit (rchd I gr g k) (fS (fun i => dit (admd I le gr g k (N 202 k i)) (srch I N le gr k (va_up g k (some (N 202 k i)))) none) (N 201 k 0)) (srch I N le gr k g) = dit (rchd I gr' g k) (fS (fun i => dit (admd I le' gr' g k (N 202 k i)) (srch I N le' gr' k (va_up g k (some (N 202 k i)))) none) (N 201 k 0)) (srch I N le' gr' k g)
    rw [e1, srch_cgl k g (fun j hj => h j (by omega))]
    congr 1
    refine fS_cg _ (fun i _ => ?_)
    rw [e2, srch_cgl k _ (fun j hj => h j (by omega))]
theorem srR_6 {σ : sT} {ofr : Nat → Nat} (hR : RR σ ofr) {r p : Nat} (hr : r < nrl σ) (hp : p ≤ 6) (ho : ofr r = p) : srch σ.1 σ.2.1 (σ.1 97 r) (σ.1 98 r) 6 zN = srR σ p r := by
  rw [srch_cgl (le' := σ.1 42 r) (gr' := σ.1 43 r) 6 zN (fun j hj => ⟨((hR.1.1 r hr).2.2.2.2.2 j hj).1, ((hR.1.1 r hr).2.2.2.2.2 j hj).2.1⟩)]
  exact srch_top 6 hp (fun j h1 h2 => (hR.2.1 r hr).2.2.2 j (by omega) h2)
theorem set1 {S : sT} {t i : Nat} {f f' : Nat → Int32} : setI (setI S t i f) t i f' = setI S t i f' := by
  refine Prod.ext (funext fun u => funext fun j => ?_) rfl
  show (if u = t ∧ j = i then f' else if u = t ∧ j = i then f else S.1 u j) = if u = t ∧ j = i then f' else S.1 u j
  by_cases e : u = t ∧ j = i
  · rw [if_pos e, if_pos e]
  · rw [if_neg e, if_neg e, if_neg e]
theorem cdN_s (P Q : Nat → Option Nat) (n : Nat) : cdN P Q (n + 1) = cdN P Q n + (if P n = Q n then 0 else 1) := rfl
set_option maxHeartbeats 4000000 in
set_option maxRecDepth 100000 in
theorem c_mrelock (G : hG) (h : hp) {A : aT} {σ : sT} (H : WM G h A σ) (hb : MB σ) {ofr : Nat → Nat} (hR : RR σ ofr) (n v : Int32) : PMet G MX10_relock 10 0 0 [.ref (A 60 0), .int n, .int v] h (fun r9 h2 => (¬ inR n (npk σ) ∧ QSM G h A (.int 0) (thS σ 1) r9 h2) ∨ (∃ p, p < npk σ ∧ n = nI p ∧ ((fdV σ p v 0 (rnp σ p) = none ∧ QSM G h A (.int 0) (thS (thS σ 0) 2) r9 h2) ∨ (∃ r, fdV σ p v 0 (rnp σ p) = some r ∧ ((¬ σ.1 40 r 2 = 0 ∧ QSM G h A (.int 0) (thS (thS σ 0) 3) r9 h2) ∨ (σ.1 40 r 2 = 0 ∧ ∃ C, ((srR σ p r = none ∧ QSM G h A (.int 0) (thS (setI (thS (thS σ 0) 0) 90 0 C) 4) r9 h2) ∨ (∃ g' R, srR σ p r = some g' ∧ pkB σ g' ∧ (∀ j, j < 6 → R j = vG σ (g' j)) ∧ QSM G h A (.int (cdN (σ.2.2 45 r) g' 6)) (setI (setI (thS (thS σ 0) 0) 90 0 C) 99 r R) r9 h2)))))))) noX := by
  have hnp := H.iv.1
  have hnr := H.iv.2.2.1
  refine PMet.of (by decide +kernel) (Nat.le_of_ble_eq_true rfl) (fun d hd => ?_)
  refine PW.sub (L2 := [(0, Value.ref (A 60 0)), (1, Value.int n), (2, Value.int v)]) [0, 1, 2] rfl ?_
  refine pw_aload_n (pc2 := 1) dX10_relock_0 rfl rfl 0 rfl (by first | exact rf_ref _ | exact rf_opt _ | exact rf_nul) ?_
  refine pw_iload_n (pc2 := 2) dX10_relock_1 rfl rfl 1 rfl ?_
  refine pw_callV (pc2 := 5) (c_lacks G _ H hb n) cs_X10_123 rfl rfl H.c60 dX10_relock_2 rfl (by omega) rfl (by first | decide | simp [cat_rf, Value.category]) (fun r9 h9 q9 => ?_) (fun Y h9 q9 => q9.elim)
  rcases q9 with ⟨hin, rfl, K1, FK1⟩ | ⟨hin, rfl, K1, FK1⟩
  · obtain ⟨p, hpp, rfl⟩ := inR_ex (by omega) hin
    have hp6 : p < 6 := by omega
    have c60K1 : h9 (A 60 0) = some (oB 13 [.ref (A 61 0), .ref (A 62 0), .ref (A 63 0), .ref (A 64 0), .ref (A 65 0), .ref (A 66 0), .ref (A 67 0), .ref (A 68 0), .ref (A 69 0), .ref (A 70 0), .ref (A 71 0), .ref (A 72 0), .ref (A 73 0), .ref (A 74 0), .ref (A 75 0), .ref (A 76 0), .int (σ.1 60 0 0), .ref (A 77 0), .ref (A 78 0), .ref (A 79 0), .ref (A 80 0), .ref (A 81 0), .ref (A 82 0), .ref (A 83 0), .int (σ.1 60 0 1), .ref (A 84 0), .ref (A 85 0), .ref (A 86 0), .ref (A 87 0), .ref (A 88 0), .int (σ.1 60 0 2), .int (σ.1 60 0 3), .ref (A 89 0), .int (σ.1 60 0 4), .int (σ.1 60 0 5), .int (σ.1 60 0 6), .ref (A 90 0), .int 0]) := K1.c60
    refine pw_if_eq (tgt := 10) (pc2 := 8) dX10_relock_5 (by decide) rfl (fun _ => ?_) (fun c5 => by exact absurd (by decide) c5)
    refine pw_aload_n (pc2 := 11) dX10_relock_10 rfl rfl 0 rfl (by first | exact rf_ref _ | exact rf_opt _ | exact rf_nul) ?_
    refine pw_iload_n (pc2 := 12) dX10_relock_11 rfl rfl 1 rfl ?_
    refine pw_iload_n (pc2 := 13) dX10_relock_12 rfl rfl 2 rfl ?_
    refine pw_callV1 (pc2 := 16) (c_findT G _ K1 hb hR hp6 v) cs_X10_206 rfl rfl c60K1 dX10_relock_13 rfl (by omega) rfl (by first | decide | simp [cat_rf, Value.category]) ?_
    obtain ⟨os, hos⟩ : ∃ o, fdV σ p v 0 (rnp σ p) = o := ⟨_, rfl⟩
    cases os with
    | none =>
      refine pw_topE (show enc (fdV σ p v 0 (rnp σ p)) = -1 by rw [hos]; rfl) ?_
      refine pw_istore_n (pc2 := 17) (L2 := [(3, Value.int (-1)), (0, Value.ref (A 60 0)), (1, Value.int (nI p)), (2, Value.int v)]) dX10_relock_16 rfl rfl (by decide) rfl ?_
      refine pw_aload_n (pc2 := 18) dX10_relock_17 rfl rfl 1 rfl (by first | exact rf_ref _ | exact rf_opt _ | exact rf_nul) ?_
      refine pw_iload_n (pc2 := 19) dX10_relock_18 rfl rfl 0 rfl ?_
      refine pw_iconst (pc2 := 20) (v := (-1)) dX10_relock_19 rfl (by decide) ?_
      refine pw_icmp_ne (tgt := 27) (pc2 := 23) dX10_relock_20 (by decide) rfl (fun c20 => by exact absurd (rfl) c20) (fun _ => ?_)
      refine pw_iconst (pc2 := 24) (v := 2) dX10_relock_23 rfl (by decide) ?_
      refine pw_goto (tgt := 41) dX10_relock_24 (by decide) ?_
      refine pw_put (pc2 := 44) kX10 (k := 37) (by decide) rfl rfl fl_X10_109 c60K1 (by first | decide | simp) (by first | rfl | exact nar_rf _ _) (by first | rfl | exact fit_rf _ _) dX10_relock_41 rfl ?_
      obtain ⟨K2, FK2⟩ := K1.wIF (FK1) (t := 60) (i := 0) (f := (upd (upd (σ.1 60 0) 7 0) 7 2)) rfl (by decide) (iv_setI K1.iv (by decide)) rfl
      obtain ⟨h7, eh7⟩ : ∃ z : Nat → Option hE, z = va_up h9 (A 60 0) (some (oB 13 [.ref (A 61 0), .ref (A 62 0), .ref (A 63 0), .ref (A 64 0), .ref (A 65 0), .ref (A 66 0), .ref (A 67 0), .ref (A 68 0), .ref (A 69 0), .ref (A 70 0), .ref (A 71 0), .ref (A 72 0), .ref (A 73 0), .ref (A 74 0), .ref (A 75 0), .ref (A 76 0), .int (σ.1 60 0 0), .ref (A 77 0), .ref (A 78 0), .ref (A 79 0), .ref (A 80 0), .ref (A 81 0), .ref (A 82 0), .ref (A 83 0), .int (σ.1 60 0 1), .ref (A 84 0), .ref (A 85 0), .ref (A 86 0), .ref (A 87 0), .ref (A 88 0), .int (σ.1 60 0 2), .int (σ.1 60 0 3), .ref (A 89 0), .int (σ.1 60 0 4), .int (σ.1 60 0 5), .int (σ.1 60 0 6), .ref (A 90 0), .int 2])) := ⟨_, rfl⟩
      refine PW.heap (h' := h7) eh7.symm ?_
      replace K2 : WM G h7 A (setI (thS σ 0) 60 0 (upd (upd (σ.1 60 0) 7 0) 7 2)) := by rw [eh7]; exact K2
      replace FK2 : FM A h h7 := by rw [eh7]; exact FK2
      have c60K2b : h7 (A 60 0) = some (oB 13 [.ref (A 61 0), .ref (A 62 0), .ref (A 63 0), .ref (A 64 0), .ref (A 65 0), .ref (A 66 0), .ref (A 67 0), .ref (A 68 0), .ref (A 69 0), .ref (A 70 0), .ref (A 71 0), .ref (A 72 0), .ref (A 73 0), .ref (A 74 0), .ref (A 75 0), .ref (A 76 0), .int (σ.1 60 0 0), .ref (A 77 0), .ref (A 78 0), .ref (A 79 0), .ref (A 80 0), .ref (A 81 0), .ref (A 82 0), .ref (A 83 0), .int (σ.1 60 0 1), .ref (A 84 0), .ref (A 85 0), .ref (A 86 0), .ref (A 87 0), .ref (A 88 0), .int (σ.1 60 0 2), .int (σ.1 60 0 3), .ref (A 89 0), .int (σ.1 60 0 4), .int (σ.1 60 0 5), .int (σ.1 60 0 6), .ref (A 90 0), .int 2]) := K2.c60
      refine pw_aload_n (pc2 := 45) dX10_relock_44 rfl rfl 1 rfl (by first | exact rf_ref _ | exact rf_opt _ | exact rf_nul) ?_
      refine pw_get (pc2 := 48) kX10 (k := 37) (by decide) rfl fl_X10_109 c60K2b rfl dX10_relock_45 rfl ?_
      refine pw_if_le (tgt := 53) (pc2 := 51) dX10_relock_48 (by decide) rfl (fun c48 => by exact absurd c48 (by decide)) (fun _ => ?_)
      refine pw_iconst (pc2 := 52) (v := 0) dX10_relock_51 rfl (by decide) ?_
      refine pw_iret dX10_relock_52 rfl (by first | rfl | assumption | simp [narrow]) ?_
      exact Or.inr ⟨p, hpp, rfl, Or.inl ⟨hos, rfl, K2, FK2⟩⟩
    | some r =>
      refine pw_topE (show enc (fdV σ p v 0 (rnp σ p)) = nI r by rw [hos]; rfl) ?_
      have hr : r < nrl σ := fdV_nr hR (by omega) hos
      have hr20 : r < 20 := by omega
      have hor := fdV_of hR (by omega) hos
      have hle : ∀ j, j < 6 → nbk (σ.1 97 r j) (σ.1 98 r j) := fun j hj => by rw [((hR.1.1 r hr).2.2.2.2.2 j hj).1, ((hR.1.1 r hr).2.2.2.2.2 j hj).2.1]; exact ((hR.1.1 r hr).2.2.2.2.2 j hj).2.2
      refine pw_istore_n (pc2 := 17) (L2 := [(3, Value.int (nI r)), (0, Value.ref (A 60 0)), (1, Value.int (nI p)), (2, Value.int v)]) dX10_relock_16 rfl rfl (by decide) rfl ?_
      refine pw_aload_n (pc2 := 18) dX10_relock_17 rfl rfl 1 rfl (by first | exact rf_ref _ | exact rf_opt _ | exact rf_nul) ?_
      refine pw_iload_n (pc2 := 19) dX10_relock_18 rfl rfl 0 rfl ?_
      refine pw_iconst (pc2 := 20) (v := (-1)) dX10_relock_19 rfl (by decide) ?_
      refine pw_icmp_ne (tgt := 27) (pc2 := 23) dX10_relock_20 (by decide) rfl (fun _ => ?_) (fun c20 => by exact absurd c20 (nIne r (by omega)))
      refine pw_aload_n (pc2 := 28) dX10_relock_27 rfl rfl 1 rfl (by first | exact rf_ref _ | exact rf_opt _ | exact rf_nul) ?_
      refine pw_get (pc2 := 31) kX10 (k := 23) (by decide) rfl fl_X10_79 c60K1 rfl dX10_relock_28 rfl ?_
      refine pw_iload_n (pc2 := 32) dX10_relock_31 rfl rfl 0 rfl ?_
      refine pw_zaldN (pc2 := 33) K1.c83 (i := r) (by first | assumption | omega) (by omega) dX10_relock_32 rfl ?_
      refine pw_topE (hR.1.1 r hr).2.2.2.2.1 ?_
      refine pw_if_eq (tgt := 40) (pc2 := 36) dX10_relock_33 (by decide) rfl (fun c33 => ?_) (fun c33 => ?_)
      · refine pw_iconst (pc2 := 41) (v := 0) dX10_relock_40 rfl (by decide) ?_
        refine pw_put (pc2 := 44) kX10 (k := 37) (by decide) rfl rfl fl_X10_109 c60K1 (by first | decide | simp) (by first | rfl | exact nar_rf _ _) (by first | rfl | exact fit_rf _ _) dX10_relock_41 rfl ?_
        obtain ⟨K2, FK2⟩ := K1.wIF (FK1) (t := 60) (i := 0) (f := (upd (upd (σ.1 60 0) 7 0) 7 0)) rfl (by decide) (iv_setI K1.iv (by decide)) rfl
        obtain ⟨h7, eh7⟩ : ∃ z : Nat → Option hE, z = va_up h9 (A 60 0) (some (oB 13 [.ref (A 61 0), .ref (A 62 0), .ref (A 63 0), .ref (A 64 0), .ref (A 65 0), .ref (A 66 0), .ref (A 67 0), .ref (A 68 0), .ref (A 69 0), .ref (A 70 0), .ref (A 71 0), .ref (A 72 0), .ref (A 73 0), .ref (A 74 0), .ref (A 75 0), .ref (A 76 0), .int (σ.1 60 0 0), .ref (A 77 0), .ref (A 78 0), .ref (A 79 0), .ref (A 80 0), .ref (A 81 0), .ref (A 82 0), .ref (A 83 0), .int (σ.1 60 0 1), .ref (A 84 0), .ref (A 85 0), .ref (A 86 0), .ref (A 87 0), .ref (A 88 0), .int (σ.1 60 0 2), .int (σ.1 60 0 3), .ref (A 89 0), .int (σ.1 60 0 4), .int (σ.1 60 0 5), .int (σ.1 60 0 6), .ref (A 90 0), .int 0])) := ⟨_, rfl⟩
        refine PW.heap (h' := h7) eh7.symm ?_
        replace K2 : WM G h7 A (setI (thS σ 0) 60 0 (upd (upd (σ.1 60 0) 7 0) 7 0)) := by rw [eh7]; exact K2
        replace FK2 : FM A h h7 := by rw [eh7]; exact FK2
        have c60K2b : h7 (A 60 0) = some (oB 13 [.ref (A 61 0), .ref (A 62 0), .ref (A 63 0), .ref (A 64 0), .ref (A 65 0), .ref (A 66 0), .ref (A 67 0), .ref (A 68 0), .ref (A 69 0), .ref (A 70 0), .ref (A 71 0), .ref (A 72 0), .ref (A 73 0), .ref (A 74 0), .ref (A 75 0), .ref (A 76 0), .int (σ.1 60 0 0), .ref (A 77 0), .ref (A 78 0), .ref (A 79 0), .ref (A 80 0), .ref (A 81 0), .ref (A 82 0), .ref (A 83 0), .int (σ.1 60 0 1), .ref (A 84 0), .ref (A 85 0), .ref (A 86 0), .ref (A 87 0), .ref (A 88 0), .int (σ.1 60 0 2), .int (σ.1 60 0 3), .ref (A 89 0), .int (σ.1 60 0 4), .int (σ.1 60 0 5), .int (σ.1 60 0 6), .ref (A 90 0), .int 0]) := K2.c60
        refine pw_aload_n (pc2 := 45) dX10_relock_44 rfl rfl 1 rfl (by first | exact rf_ref _ | exact rf_opt _ | exact rf_nul) ?_
        refine pw_get (pc2 := 48) kX10 (k := 37) (by decide) rfl fl_X10_109 c60K2b rfl dX10_relock_45 rfl ?_
        refine pw_if_le (tgt := 53) (pc2 := 51) dX10_relock_48 (by decide) rfl (fun _ => ?_) (fun c48 => by exact absurd (by decide) c48)
        refine pw_iconst (pc2 := 54) (v := 0) dX10_relock_53 rfl (by decide) ?_
        refine pw_istore (pc2 := 56) (L2 := [(4, Value.int 0), (3, Value.int (nI r)), (0, Value.ref (A 60 0)), (1, Value.int (nI p)), (2, Value.int v)]) dX10_relock_54 rfl (by decide) rfl ?_
        have HW : ∀ F, WM G (va_up h7 (A 90 0) (some (aI 6 F))) A (setI (thS (thS σ 0) 0) 90 0 F) := fun F => K2.wI (t := 90) (i := 0) rfl (by decide) (iv_setI K2.iv (by decide)) rfl
        have HF90 : ∀ F, FM A h (va_up h7 (A 90 0) (some (aI 6 F))) := fun F => FK2.up (t := 90) (i := 0) rfl (by decide)
        have loop : ∀ (k i : Nat) (_u : Unit), i + k = 6 → PW G MX10_relock d noA (E0 G (fun r9 h2 => (¬ inR (nI p) (npk σ) ∧ QSM G h A (.int 0) (thS σ 1) r9 h2) ∨ (∃ p8, p8 < npk σ ∧ (nI p) = nI p8 ∧ ((fdV σ p8 v 0 (rnp σ p8) = none ∧ QSM G h A (.int 0) (thS (thS σ 0) 2) r9 h2) ∨ (∃ r8, fdV σ p8 v 0 (rnp σ p8) = some r8 ∧ ((¬ σ.1 40 r8 2 = 0 ∧ QSM G h A (.int 0) (thS (thS σ 0) 3) r9 h2) ∨ (σ.1 40 r8 2 = 0 ∧ ∃ C, ((srR σ p8 r8 = none ∧ QSM G h A (.int 0) (thS (setI (thS (thS σ 0) 0) 90 0 C) 4) r9 h2) ∨ (∃ g' R, srR σ p8 r8 = some g' ∧ pkB σ g' ∧ (∀ j, j < 6 → R j = vG σ (g' j)) ∧ QSM G h A (.int (cdN (σ.2.2 45 r8) g' 6)) (setI (setI (thS (thS σ 0) 0) 90 0 C) 99 r8 R) r9 h2)))))))) noX) 0 0 56 [(4, Value.int (nI i)), (0, Value.ref (A 60 0)), (1, Value.int (nI p)), (2, Value.int v), (3, Value.int (nI r))] [] (va_up h7 (A 90 0) (some (aI 6 (flI (σ.1 90 0) i (-1))))) := by
          intro k
          induction k with
          | zero =>
            intro i _u hik
            have hi9 : i = 6 := by omega
            refine pw_iload (pc2 := 58) dX10_relock_56 rfl 0 rfl ?_
            refine pw_bipush (pc2 := 60) (v := 6) dX10_relock_58 rfl (by decide) ?_
            refine pw_icmp_ge (tgt := 77) (pc2 := 63) dX10_relock_60 (by decide) rfl (fun _ => ?_) (fun c60 => by exact absurd (by first | (rw [hi9]; exact Int32.le_refl _) | exact fun q => absurd ((l6 (by omega)).mp q) (by omega)) c60)
            refine pw_aload_n (pc2 := 78) dX10_relock_77 rfl rfl 1 rfl (by first | exact rf_ref _ | exact rf_opt _ | exact rf_nul) ?_
            refine pw_iconst (pc2 := 79) (v := 5) dX10_relock_78 rfl (by decide) ?_
            refine pw_topE (show (5 : Int32) = oth 6 by decide) ?_
            refine pw_aload_n (pc2 := 80) dX10_relock_79 rfl rfl 1 rfl (by first | exact rf_ref _ | exact rf_opt _ | exact rf_nul) ?_
            refine pw_get (pc2 := 83) kX10 (k := 20) (by decide) rfl fl_X10_70 (HW (flI (σ.1 90 0) i (-1))).c60 rfl dX10_relock_80 rfl ?_
            refine pw_iload_n (pc2 := 84) dX10_relock_83 rfl rfl 4 rfl ?_
            refine pw_aaldN (pc2 := 85) 6 rfl rfl (HW (flI (σ.1 90 0) i (-1))).c80 (i := r) (by first | assumption | omega) (by omega) dX10_relock_84 rfl ?_
            refine pw_topV (rowv (by first | assumption | omega)) ?_
            refine pw_aload_n (pc2 := 86) dX10_relock_85 rfl rfl 1 rfl (by first | exact rf_ref _ | exact rf_opt _ | exact rf_nul) ?_
            refine pw_get (pc2 := 89) kX10 (k := 21) (by decide) rfl fl_X10_73 (HW (flI (σ.1 90 0) i (-1))).c60 rfl dX10_relock_86 rfl ?_
            refine pw_iload_n (pc2 := 90) dX10_relock_89 rfl rfl 4 rfl ?_
            refine pw_aaldN (pc2 := 91) 6 rfl rfl (HW (flI (σ.1 90 0) i (-1))).c81 (i := r) (by first | assumption | omega) (by omega) dX10_relock_90 rfl ?_
            refine pw_topV (rowv (by first | assumption | omega)) ?_
            refine pw_callV (pc2 := 94) (c_mchooses G (fa := A 97 r) (ta := A 98 r) (le := σ.1 97 r) (gr := σ.1 98 r) hle 6 _ (setI (thS (thS σ 0) 0) 90 0 (flI (σ.1 90 0) i (-1))) zN (HW (flI (σ.1 90 0) i (-1))) hb hR.1 ((HW (flI (σ.1 90 0) i (-1))).c97 (i := r) hr20) ((HW (flI (σ.1 90 0) i (-1))).c98 (i := r) hr20) (K2.ne (t := 97) (i := r) (u := 90) (j := 0) hr20 rfl (Or.inl (by decide))) (K2.ne (t := 98) (i := r) (u := 90) (j := 0) hr20 rfl (Or.inl (by decide))) (Nat.le_refl 6) (fun j x hx => by cases hx) (fun j h1 h2 => absurd h2 (by omega)) (fun j hj => rfl)) cs_X10_142 rfl rfl (HW (flI (σ.1 90 0) i (-1))).c60 dX10_relock_91 rfl (by omega) rfl (by first | decide | simp [cat_rf, Value.category]) (fun r9 h8 q8 => ?_) (fun Y h9 q9 => q9.elim)
            have hsr : srch (setI (thS (thS σ 0) 0) 90 0 (flI (σ.1 90 0) i (-1))).1 (setI (thS (thS σ 0) 0) 90 0 (flI (σ.1 90 0) i (-1))).2.1 (σ.1 97 r) (σ.1 98 r) 6 zN = srR σ p r := (srch_cg (fun r => rfl) (fun r => rfl) (fun r => rfl) 6 zN).trans (srR_6 hR hr (by omega) hor)
            obtain ⟨sr, hs⟩ : ∃ o, srR σ p r = o := ⟨_, rfl⟩
            cases sr with
            | none =>
              obtain ⟨rfl, C, e9, -⟩ := q8.2 (hsr.trans hs)
              rw [up_up] at e9
              have K5 : WM G h8 A (setI (thS (thS σ 0) 0) 90 0 C) := by rw [e9]; exact HW C
              have FK5 : FM A h h8 := by rw [e9]; exact HF90 C
              clear e9
              have c60K5 : h8 (A 60 0) = some (oB 13 [.ref (A 61 0), .ref (A 62 0), .ref (A 63 0), .ref (A 64 0), .ref (A 65 0), .ref (A 66 0), .ref (A 67 0), .ref (A 68 0), .ref (A 69 0), .ref (A 70 0), .ref (A 71 0), .ref (A 72 0), .ref (A 73 0), .ref (A 74 0), .ref (A 75 0), .ref (A 76 0), .int (σ.1 60 0 0), .ref (A 77 0), .ref (A 78 0), .ref (A 79 0), .ref (A 80 0), .ref (A 81 0), .ref (A 82 0), .ref (A 83 0), .int (σ.1 60 0 1), .ref (A 84 0), .ref (A 85 0), .ref (A 86 0), .ref (A 87 0), .ref (A 88 0), .int (σ.1 60 0 2), .int (σ.1 60 0 3), .ref (A 89 0), .int (σ.1 60 0 4), .int (σ.1 60 0 5), .int (σ.1 60 0 6), .ref (A 90 0), .int 0]) := K5.c60
              refine pw_if_ne (tgt := 103) (pc2 := 97) dX10_relock_94 (by decide) rfl (fun c94 => by exact absurd (by decide) c94) (fun _ => ?_)
              refine pw_aload_n (pc2 := 98) dX10_relock_97 rfl rfl 1 rfl (by first | exact rf_ref _ | exact rf_opt _ | exact rf_nul) ?_
              refine pw_iconst (pc2 := 99) (v := 4) dX10_relock_98 rfl (by decide) ?_
              refine pw_callV (pc2 := 102) (c_raises G _ K5 4) cs_X10_126 rfl rfl c60K5 dX10_relock_99 rfl (by omega) rfl (by first | decide | simp [cat_rf, Value.category]) (fun r9 h5r q9 => ?_) (fun Y h9 q9 => q9.elim)
              obtain ⟨rfl, q9⟩ := q9
              refine pw_iret dX10_relock_102 rfl (by first | rfl | assumption | simp [narrow]) ?_
              exact Or.inr ⟨p, hpp, rfl, Or.inr ⟨r, hos, Or.inr ⟨c33, C, Or.inl ⟨hs, rfl, q9.1, FK5.tr q9.2⟩⟩⟩⟩
            | some g' =>
              obtain ⟨rfl, hgb', C, e9, hCC⟩ := q8.1 g' (hsr.trans hs)
              replace hgb' : pkB σ g' := hgb'
              rw [up_up] at e9
              have K5 : WM G h8 A (setI (thS (thS σ 0) 0) 90 0 C) := by rw [e9]; exact HW C
              have FK5 : FM A h h8 := by rw [e9]; exact HF90 C
              clear e9
              have c60K5 : h8 (A 60 0) = some (oB 13 [.ref (A 61 0), .ref (A 62 0), .ref (A 63 0), .ref (A 64 0), .ref (A 65 0), .ref (A 66 0), .ref (A 67 0), .ref (A 68 0), .ref (A 69 0), .ref (A 70 0), .ref (A 71 0), .ref (A 72 0), .ref (A 73 0), .ref (A 74 0), .ref (A 75 0), .ref (A 76 0), .int (σ.1 60 0 0), .ref (A 77 0), .ref (A 78 0), .ref (A 79 0), .ref (A 80 0), .ref (A 81 0), .ref (A 82 0), .ref (A 83 0), .int (σ.1 60 0 1), .ref (A 84 0), .ref (A 85 0), .ref (A 86 0), .ref (A 87 0), .ref (A 88 0), .int (σ.1 60 0 2), .int (σ.1 60 0 3), .ref (A 89 0), .int (σ.1 60 0 4), .int (σ.1 60 0 5), .int (σ.1 60 0 6), .ref (A 90 0), .int 0]) := K5.c60
              refine pw_if_ne (tgt := 103) (pc2 := 97) dX10_relock_94 (by decide) rfl (fun _ => ?_) (fun c94 => by exact absurd c94 (by decide))
              refine pw_iconst (pc2 := 104) (v := 0) dX10_relock_103 rfl (by decide) ?_
              refine pw_istore (pc2 := 106) (L2 := [(4, Value.int 0), (0, Value.ref (A 60 0)), (1, Value.int (nI p)), (2, Value.int v), (3, Value.int (nI r))]) dX10_relock_104 rfl (by decide) rfl ?_
              refine pw_iconst (pc2 := 107) (v := 0) dX10_relock_106 rfl (by decide) ?_
              refine pw_istore (pc2 := 109) (L2 := [(5, Value.int 0), (4, Value.int 0), (0, Value.ref (A 60 0)), (1, Value.int (nI p)), (2, Value.int v), (3, Value.int (nI r))]) dX10_relock_107 rfl (by decide) rfl ?_
              have hgo : ∀ j x, g' j = some x → ofr x = j ∧ x < nrl σ := fun j x hx => (srch_of hR.1 (k := p) (by omega) hs hx).2
              have h45 : ∀ j, j < 6 → ∀ x, σ.2.2 45 r j = some x → ofr x = j ∧ x < nrl σ := fun j hj x hx => ⟨((hR.2.1 r hr).1 j hj).2 x hx, H.iv.2.2.2.2.2.2.2.1 r hr j x hx⟩
              have loop4 : ∀ (k i : Nat) (hh : hp) (R : Nat → Int32) (ac : Int32) (Hh : WM G hh A (setI (setI (thS (thS σ 0) 0) 90 0 C) 99 r R)) (Fh : FM A h hh) (hR9 : ∀ j, j < i → R j = vG σ (g' j)) (hRo : ∀ j, i ≤ j → R j = σ.1 99 r j) (hac : ac = cdN (σ.2.2 45 r) g' i), i + k = 6 → PW G MX10_relock d noA (E0 G (fun r9 h2 => (¬ inR (nI p) (npk σ) ∧ QSM G h A (.int 0) (thS σ 1) r9 h2) ∨ (∃ p8, p8 < npk σ ∧ (nI p) = nI p8 ∧ ((fdV σ p8 v 0 (rnp σ p8) = none ∧ QSM G h A (.int 0) (thS (thS σ 0) 2) r9 h2) ∨ (∃ r8, fdV σ p8 v 0 (rnp σ p8) = some r8 ∧ ((¬ σ.1 40 r8 2 = 0 ∧ QSM G h A (.int 0) (thS (thS σ 0) 3) r9 h2) ∨ (σ.1 40 r8 2 = 0 ∧ ∃ C, ((srR σ p8 r8 = none ∧ QSM G h A (.int 0) (thS (setI (thS (thS σ 0) 0) 90 0 C) 4) r9 h2) ∨ (∃ g' R, srR σ p8 r8 = some g' ∧ pkB σ g' ∧ (∀ j, j < 6 → R j = vG σ (g' j)) ∧ QSM G h A (.int (cdN (σ.2.2 45 r8) g' 6)) (setI (setI (thS (thS σ 0) 0) 90 0 C) 99 r8 R) r9 h2)))))))) noX) 0 0 109 [(5, Value.int (nI i)), (4, Value.int ac), (0, Value.ref (A 60 0)), (3, Value.int (nI r))] [] hh := by
                intro k
                induction k with
                | zero =>
                  intro i hh R ac Hh Fh hR9 hRo hac hik
                  have hi9s : i = 6 := by omega
                  refine pw_iload (pc2 := 111) dX10_relock_109 rfl 0 rfl ?_
                  refine pw_bipush (pc2 := 113) (v := 6) dX10_relock_111 rfl (by decide) ?_
                  refine pw_icmp_ge (tgt := 165) (pc2 := 116) dX10_relock_113 (by decide) rfl (fun _ => ?_) (fun c113 => by exact absurd (by first | (rw [hi9s]; exact Int32.le_refl _) | exact fun q => absurd ((l6 (by omega)).mp q) (by omega)) c113)
                  refine pw_iload (pc2 := 167) dX10_relock_165 rfl 1 rfl ?_
                  refine pw_iret dX10_relock_167 rfl (by first | rfl | assumption | simp [narrow]) ?_
                  subst hi9s
                  exact Or.inr ⟨p, hpp, rfl, Or.inr ⟨r, hos, Or.inr ⟨c33, C, Or.inr ⟨g', R, hs, hgb', hR9, by rw [hac], Hh, Fh⟩⟩⟩⟩
                | succ k ih4 =>
                  intro i hh R ac Hh Fh hR9 hRo hac hik
                  have hi9s : i < 6 := by omega
                  have r99 : hh (A 99 r) = some (aI 6 R) := (Hh.c99 hr20).trans (congrArg (fun w => some (aI 6 w)) (setI_s (σ := (setI (thS (thS σ 0) 0) 90 0 C)) 99 r R))
                  have KH := Hh
                  have FKH := Fh
                  refine pw_iload (pc2 := 111) dX10_relock_109 rfl 0 rfl ?_
                  refine pw_bipush (pc2 := 113) (v := 6) dX10_relock_111 rfl (by decide) ?_
                  refine pw_icmp_ge (tgt := 165) (pc2 := 116) dX10_relock_113 (by decide) rfl (fun c113 => by exact absurd c113 (by first | (rw [hi9s]; exact Int32.le_refl _) | exact fun q => absurd ((l6 (by omega)).mp q) (by omega))) (fun _ => ?_)
                  refine pw_iload (pc2 := 118) dX10_relock_116 rfl 1 rfl ?_
                  refine pw_aload_n (pc2 := 119) dX10_relock_118 rfl rfl 2 rfl (by first | exact rf_ref _ | exact rf_opt _ | exact rf_nul) ?_
                  refine pw_get (pc2 := 122) kX10 (k := 22) (by decide) rfl fl_X10_76 Hh.c60 rfl dX10_relock_119 rfl ?_
                  refine pw_iload_n (pc2 := 123) dX10_relock_122 rfl rfl 3 rfl ?_
                  refine pw_aaldN (pc2 := 124) 6 rfl rfl Hh.c82 (i := r) (by first | assumption | omega) (by omega) dX10_relock_123 rfl ?_
                  refine pw_topV (rowv (by first | assumption | omega)) ?_
                  refine pw_iload (pc2 := 126) dX10_relock_124 rfl 0 rfl ?_
                  refine pw_ialdN (pc2 := 127) r99 (i := i) (by first | assumption | omega) (by omega) dX10_relock_126 rfl ?_
                  refine pw_topE ((hRo i (Nat.le_refl i)).trans ((hR.2.1 r hr).1 i hi9s).1) ?_
                  refine pw_aload_n (pc2 := 128) dX10_relock_127 rfl rfl 2 rfl (by first | exact rf_ref _ | exact rf_opt _ | exact rf_nul) ?_
                  refine pw_iload (pc2 := 130) dX10_relock_128 rfl 0 rfl ?_
                  refine pw_callV1 (pc2 := 133) (c_verInV G _ Hh (g := g') hgb' hi9s hCC (fun x hx => (hR.1.1 x hx).2.2.1)) cs_X10_155 rfl rfl Hh.c60 dX10_relock_130 rfl (by omega) rfl (by first | decide | simp [cat_rf, Value.category]) ?_
                  refine pw_icmp_ne (tgt := 140) (pc2 := 136) dX10_relock_133 (by decide) rfl (fun c133 => ?_) (fun c133 => ?_)
                  · refine pw_iconst (pc2 := 141) (v := 1) dX10_relock_140 rfl (by decide) ?_
                    refine pw_iadd (pc2 := 142) dX10_relock_141 rfl ?_
                    refine pw_topi (fun v1 ev1 => ?_)
                    refine pw_istore (pc2 := 144) (L2 := [(4, Value.int v1), (5, Value.int (nI i)), (0, Value.ref (A 60 0)), (3, Value.int (nI r))]) dX10_relock_142 rfl (by decide) rfl ?_
                    refine pw_aload_n (pc2 := 145) dX10_relock_144 rfl rfl 2 rfl (by first | exact rf_ref _ | exact rf_opt _ | exact rf_nul) ?_
                    refine pw_get (pc2 := 148) kX10 (k := 22) (by decide) rfl fl_X10_76 Hh.c60 rfl dX10_relock_145 rfl ?_
                    refine pw_iload_n (pc2 := 149) dX10_relock_148 rfl rfl 3 rfl ?_
                    refine pw_aaldN (pc2 := 150) 6 rfl rfl Hh.c82 (i := r) (by first | assumption | omega) (by omega) dX10_relock_149 rfl ?_
                    refine pw_topV (rowv (by first | assumption | omega)) ?_
                    refine pw_iload (pc2 := 152) dX10_relock_150 rfl 1 rfl ?_
                    refine pw_aload_n (pc2 := 153) dX10_relock_152 rfl rfl 2 rfl (by first | exact rf_ref _ | exact rf_opt _ | exact rf_nul) ?_
                    refine pw_iload (pc2 := 155) dX10_relock_153 rfl 1 rfl ?_
                    refine pw_callV1 (pc2 := 158) (c_verInV G _ Hh (g := g') hgb' hi9s hCC (fun x hx => (hR.1.1 x hx).2.2.1)) cs_X10_155 rfl rfl Hh.c60 dX10_relock_155 rfl (by omega) rfl (by first | decide | simp [cat_rf, Value.category]) ?_
                    refine pw_iastN (pc2 := 159) r99 (i := i) (by first | assumption | omega) (by omega) dX10_relock_158 rfl ?_
                    obtain ⟨Kd, FKd⟩ := KH.wIF (FKH) (t := 99) (i := r) (f := (upd R i (vG σ (g' i)))) hr20 (by decide) (iv_setI KH.iv (by decide)) rfl
                    obtain ⟨h4d, eh4d⟩ : ∃ z : Nat → Option hE, z = va_up hh (A 99 r) (some (aI 6 (upd R i (vG σ (g' i))))) := ⟨_, rfl⟩
                    refine PW.heap (h' := h4d) eh4d.symm ?_
                    replace Kd : WM G h4d A (setI (setI (setI (thS (thS σ 0) 0) 90 0 C) 99 r R) 99 r (upd R i (vG σ (g' i)))) := by rw [eh4d]; exact Kd
                    replace FKd : FM A h h4d := by rw [eh4d]; exact FKd
                    have c60Kd : h4d (A 60 0) = some (oB 13 [.ref (A 61 0), .ref (A 62 0), .ref (A 63 0), .ref (A 64 0), .ref (A 65 0), .ref (A 66 0), .ref (A 67 0), .ref (A 68 0), .ref (A 69 0), .ref (A 70 0), .ref (A 71 0), .ref (A 72 0), .ref (A 73 0), .ref (A 74 0), .ref (A 75 0), .ref (A 76 0), .int (σ.1 60 0 0), .ref (A 77 0), .ref (A 78 0), .ref (A 79 0), .ref (A 80 0), .ref (A 81 0), .ref (A 82 0), .ref (A 83 0), .int (σ.1 60 0 1), .ref (A 84 0), .ref (A 85 0), .ref (A 86 0), .ref (A 87 0), .ref (A 88 0), .int (σ.1 60 0 2), .int (σ.1 60 0 3), .ref (A 89 0), .int (σ.1 60 0 4), .int (σ.1 60 0 5), .int (σ.1 60 0 6), .ref (A 90 0), .int 0]) := Kd.c60
                    refine pw_iinc (pc2 := 162) (v := nI (i + 1)) (L2 := [(5, Value.int (nI (i + 1))), (4, Value.int v1), (0, Value.ref (A 60 0)), (3, Value.int (nI r))]) dX10_relock_159 rfl 1 rfl (by show nI _ + 1 = nI _; exact nI_1 _) (by decide) rfl ?_
                    refine pw_goto (tgt := 109) dX10_relock_162 (by decide) ?_
                    refine PW.sub (L2 := [(5, Value.int (nI (i + 1))), (4, Value.int v1), (0, Value.ref (A 60 0)), (3, Value.int (nI r))]) [0, 1, 2, 3] rfl ?_
                    refine ih4 (i + 1) h4d (upd R i (vG σ (g' i))) v1 (by rw [← set1 (f := R)]; exact Kd) FKd (fun j hj => ?_) (fun j hj => ?_) ?_ (by omega)
                    · by_cases ej : j = i
                      · rw [ej, upd_s]
                      · exact (if_neg ej).trans (hR9 j (by omega))
                    · exact (if_neg (by omega)).trans (hRo j (by omega))
                    · rw [ev1, hac, cdN_s]
                      first | rw [if_pos ((vG_inj hR (h45 i hi9s) (hgo i)).mp c133)] | rw [if_neg (fun z => c133 ((vG_inj hR (h45 i hi9s) (hgo i)).mpr z))]
                  · refine pw_iconst (pc2 := 137) (v := 0) dX10_relock_136 rfl (by decide) ?_
                    refine pw_goto (tgt := 141) dX10_relock_137 (by decide) ?_
                    refine pw_iadd (pc2 := 142) dX10_relock_141 rfl ?_
                    refine pw_topi (fun v3 ev3 => ?_)
                    refine pw_istore (pc2 := 144) (L2 := [(4, Value.int v3), (5, Value.int (nI i)), (0, Value.ref (A 60 0)), (3, Value.int (nI r))]) dX10_relock_142 rfl (by decide) rfl ?_
                    refine pw_aload_n (pc2 := 145) dX10_relock_144 rfl rfl 2 rfl (by first | exact rf_ref _ | exact rf_opt _ | exact rf_nul) ?_
                    refine pw_get (pc2 := 148) kX10 (k := 22) (by decide) rfl fl_X10_76 Hh.c60 rfl dX10_relock_145 rfl ?_
                    refine pw_iload_n (pc2 := 149) dX10_relock_148 rfl rfl 3 rfl ?_
                    refine pw_aaldN (pc2 := 150) 6 rfl rfl Hh.c82 (i := r) (by first | assumption | omega) (by omega) dX10_relock_149 rfl ?_
                    refine pw_topV (rowv (by first | assumption | omega)) ?_
                    refine pw_iload (pc2 := 152) dX10_relock_150 rfl 1 rfl ?_
                    refine pw_aload_n (pc2 := 153) dX10_relock_152 rfl rfl 2 rfl (by first | exact rf_ref _ | exact rf_opt _ | exact rf_nul) ?_
                    refine pw_iload (pc2 := 155) dX10_relock_153 rfl 1 rfl ?_
                    refine pw_callV1 (pc2 := 158) (c_verInV G _ Hh (g := g') hgb' hi9s hCC (fun x hx => (hR.1.1 x hx).2.2.1)) cs_X10_155 rfl rfl Hh.c60 dX10_relock_155 rfl (by omega) rfl (by first | decide | simp [cat_rf, Value.category]) ?_
                    refine pw_iastN (pc2 := 159) r99 (i := i) (by first | assumption | omega) (by omega) dX10_relock_158 rfl ?_
                    obtain ⟨Kd, FKd⟩ := KH.wIF (FKH) (t := 99) (i := r) (f := (upd R i (vG σ (g' i)))) hr20 (by decide) (iv_setI KH.iv (by decide)) rfl
                    obtain ⟨h4d, eh4d⟩ : ∃ z : Nat → Option hE, z = va_up hh (A 99 r) (some (aI 6 (upd R i (vG σ (g' i))))) := ⟨_, rfl⟩
                    refine PW.heap (h' := h4d) eh4d.symm ?_
                    replace Kd : WM G h4d A (setI (setI (setI (thS (thS σ 0) 0) 90 0 C) 99 r R) 99 r (upd R i (vG σ (g' i)))) := by rw [eh4d]; exact Kd
                    replace FKd : FM A h h4d := by rw [eh4d]; exact FKd
                    have c60Kd : h4d (A 60 0) = some (oB 13 [.ref (A 61 0), .ref (A 62 0), .ref (A 63 0), .ref (A 64 0), .ref (A 65 0), .ref (A 66 0), .ref (A 67 0), .ref (A 68 0), .ref (A 69 0), .ref (A 70 0), .ref (A 71 0), .ref (A 72 0), .ref (A 73 0), .ref (A 74 0), .ref (A 75 0), .ref (A 76 0), .int (σ.1 60 0 0), .ref (A 77 0), .ref (A 78 0), .ref (A 79 0), .ref (A 80 0), .ref (A 81 0), .ref (A 82 0), .ref (A 83 0), .int (σ.1 60 0 1), .ref (A 84 0), .ref (A 85 0), .ref (A 86 0), .ref (A 87 0), .ref (A 88 0), .int (σ.1 60 0 2), .int (σ.1 60 0 3), .ref (A 89 0), .int (σ.1 60 0 4), .int (σ.1 60 0 5), .int (σ.1 60 0 6), .ref (A 90 0), .int 0]) := Kd.c60
                    refine pw_iinc (pc2 := 162) (v := nI (i + 1)) (L2 := [(5, Value.int (nI (i + 1))), (4, Value.int v3), (0, Value.ref (A 60 0)), (3, Value.int (nI r))]) dX10_relock_159 rfl 1 rfl (by show nI _ + 1 = nI _; exact nI_1 _) (by decide) rfl ?_
                    refine pw_goto (tgt := 109) dX10_relock_162 (by decide) ?_
                    refine PW.sub (L2 := [(5, Value.int (nI (i + 1))), (4, Value.int v3), (0, Value.ref (A 60 0)), (3, Value.int (nI r))]) [0, 1, 2, 3] rfl ?_
                    refine ih4 (i + 1) h4d (upd R i (vG σ (g' i))) v3 (by rw [← set1 (f := R)]; exact Kd) FKd (fun j hj => ?_) (fun j hj => ?_) ?_ (by omega)
                    · by_cases ej : j = i
                      · rw [ej, upd_s]
                      · exact (if_neg ej).trans (hR9 j (by omega))
                    · exact (if_neg (by omega)).trans (hRo j (by omega))
                    · rw [ev3, hac, cdN_s]
                      first | rw [if_pos ((vG_inj hR (h45 i hi9s) (hgo i)).mp c133)] | rw [if_neg (fun z => c133 ((vG_inj hR (h45 i hi9s) (hgo i)).mpr z))]
              refine PW.sub (L2 := [(5, Value.int 0), (4, Value.int 0), (0, Value.ref (A 60 0)), (3, Value.int (nI r))]) [0, 1, 2, 5] rfl ?_
              have e99 : setI (setI (thS (thS σ 0) 0) 90 0 C) 99 r (σ.1 99 r) = (setI (thS (thS σ 0) 0) 90 0 C) := setI_id rfl
              exact loop4 6 0 h8 (σ.1 99 r) 0 (by rw [e99]; exact K5) FK5 (fun j hj => absurd hj (Nat.not_lt_zero j)) (fun _ _ => rfl) rfl (by omega)
          | succ k ih =>
            intro i _u hik
            have hi9 : i < 6 := by omega
            refine pw_iload (pc2 := 58) dX10_relock_56 rfl 0 rfl ?_
            refine pw_bipush (pc2 := 60) (v := 6) dX10_relock_58 rfl (by decide) ?_
            refine pw_icmp_ge (tgt := 77) (pc2 := 63) dX10_relock_60 (by decide) rfl (fun c60 => by exact absurd c60 (by first | (rw [hi9]; exact Int32.le_refl _) | exact fun q => absurd ((l6 (by omega)).mp q) (by omega))) (fun _ => ?_)
            refine pw_aload_n (pc2 := 64) dX10_relock_63 rfl rfl 1 rfl (by first | exact rf_ref _ | exact rf_opt _ | exact rf_nul) ?_
            refine pw_get (pc2 := 67) kX10 (k := 36) (by decide) rfl fl_X10_106 (HW (flI (σ.1 90 0) i (-1))).c60 rfl dX10_relock_64 rfl ?_
            refine pw_iload (pc2 := 69) dX10_relock_67 rfl 0 rfl ?_
            refine pw_iconst (pc2 := 70) (v := (-1)) dX10_relock_69 rfl (by decide) ?_
            refine pw_iastN (pc2 := 71) (va_up_self _ _ _) (i := i) (by first | assumption | omega) (by omega) dX10_relock_70 rfl ?_
            refine PW.heap (h' := va_up h7 (A 90 0) (some (aI 6 (flI (σ.1 90 0) (i + 1) (-1))))) (by rw [up_up, flI_s]) ?_
            refine pw_iinc (pc2 := 74) (v := nI (i + 1)) (L2 := [(4, Value.int (nI (i + 1))), (0, Value.ref (A 60 0)), (1, Value.int (nI p)), (2, Value.int v), (3, Value.int (nI r))]) dX10_relock_71 rfl 0 rfl (by show nI _ + 1 = nI _; exact nI_1 _) (by decide) rfl ?_
            refine pw_goto (tgt := 56) dX10_relock_74 (by decide) ?_
            refine PW.sub (L2 := [(4, Value.int (nI (i + 1))), (0, Value.ref (A 60 0)), (1, Value.int (nI p)), (2, Value.int v), (3, Value.int (nI r))]) [0, 1, 2, 3, 4] rfl ?_
            exact ih (i + 1) () (by omega)
        refine PW.sub (L2 := [(4, Value.int 0), (0, Value.ref (A 60 0)), (1, Value.int (nI p)), (2, Value.int v), (3, Value.int (nI r))]) [0, 2, 3, 4, 1] rfl ?_
        refine PW.heap (h' := va_up h7 (A 90 0) (some (aI 6 (flI (σ.1 90 0) 0 (-1))))) (by rw [flI_0]; exact (up_id (K2.c90)).symm) ?_
        exact loop 6 0 () (by omega)
      · refine pw_iconst (pc2 := 37) (v := 3) dX10_relock_36 rfl (by decide) ?_
        refine pw_goto (tgt := 41) dX10_relock_37 (by decide) ?_
        refine pw_put (pc2 := 44) kX10 (k := 37) (by decide) rfl rfl fl_X10_109 c60K1 (by first | decide | simp) (by first | rfl | exact nar_rf _ _) (by first | rfl | exact fit_rf _ _) dX10_relock_41 rfl ?_
        obtain ⟨K2, FK2⟩ := K1.wIF (FK1) (t := 60) (i := 0) (f := (upd (upd (σ.1 60 0) 7 0) 7 3)) rfl (by decide) (iv_setI K1.iv (by decide)) rfl
        obtain ⟨h7, eh7⟩ : ∃ z : Nat → Option hE, z = va_up h9 (A 60 0) (some (oB 13 [.ref (A 61 0), .ref (A 62 0), .ref (A 63 0), .ref (A 64 0), .ref (A 65 0), .ref (A 66 0), .ref (A 67 0), .ref (A 68 0), .ref (A 69 0), .ref (A 70 0), .ref (A 71 0), .ref (A 72 0), .ref (A 73 0), .ref (A 74 0), .ref (A 75 0), .ref (A 76 0), .int (σ.1 60 0 0), .ref (A 77 0), .ref (A 78 0), .ref (A 79 0), .ref (A 80 0), .ref (A 81 0), .ref (A 82 0), .ref (A 83 0), .int (σ.1 60 0 1), .ref (A 84 0), .ref (A 85 0), .ref (A 86 0), .ref (A 87 0), .ref (A 88 0), .int (σ.1 60 0 2), .int (σ.1 60 0 3), .ref (A 89 0), .int (σ.1 60 0 4), .int (σ.1 60 0 5), .int (σ.1 60 0 6), .ref (A 90 0), .int 3])) := ⟨_, rfl⟩
        refine PW.heap (h' := h7) eh7.symm ?_
        replace K2 : WM G h7 A (setI (thS σ 0) 60 0 (upd (upd (σ.1 60 0) 7 0) 7 3)) := by rw [eh7]; exact K2
        replace FK2 : FM A h h7 := by rw [eh7]; exact FK2
        have c60K2b : h7 (A 60 0) = some (oB 13 [.ref (A 61 0), .ref (A 62 0), .ref (A 63 0), .ref (A 64 0), .ref (A 65 0), .ref (A 66 0), .ref (A 67 0), .ref (A 68 0), .ref (A 69 0), .ref (A 70 0), .ref (A 71 0), .ref (A 72 0), .ref (A 73 0), .ref (A 74 0), .ref (A 75 0), .ref (A 76 0), .int (σ.1 60 0 0), .ref (A 77 0), .ref (A 78 0), .ref (A 79 0), .ref (A 80 0), .ref (A 81 0), .ref (A 82 0), .ref (A 83 0), .int (σ.1 60 0 1), .ref (A 84 0), .ref (A 85 0), .ref (A 86 0), .ref (A 87 0), .ref (A 88 0), .int (σ.1 60 0 2), .int (σ.1 60 0 3), .ref (A 89 0), .int (σ.1 60 0 4), .int (σ.1 60 0 5), .int (σ.1 60 0 6), .ref (A 90 0), .int 3]) := K2.c60
        refine pw_aload_n (pc2 := 45) dX10_relock_44 rfl rfl 1 rfl (by first | exact rf_ref _ | exact rf_opt _ | exact rf_nul) ?_
        refine pw_get (pc2 := 48) kX10 (k := 37) (by decide) rfl fl_X10_109 c60K2b rfl dX10_relock_45 rfl ?_
        refine pw_if_le (tgt := 53) (pc2 := 51) dX10_relock_48 (by decide) rfl (fun c48 => by exact absurd c48 (by decide)) (fun _ => ?_)
        refine pw_iconst (pc2 := 52) (v := 0) dX10_relock_51 rfl (by decide) ?_
        refine pw_iret dX10_relock_52 rfl (by first | rfl | assumption | simp [narrow]) ?_
        exact Or.inr ⟨p, hpp, rfl, Or.inr ⟨r, hos, Or.inl ⟨c33, rfl, K2, FK2⟩⟩⟩
  · refine pw_if_eq (tgt := 10) (pc2 := 8) dX10_relock_5 (by decide) rfl (fun c5 => by exact absurd c5 (by decide)) (fun _ => ?_)
    refine pw_iconst (pc2 := 9) (v := 0) dX10_relock_8 rfl (by decide) ?_
    refine pw_iret dX10_relock_9 rfl (by first | rfl | assumption | simp [narrow]) ?_
    exact Or.inl ⟨hin, rfl, K1, FK1⟩
