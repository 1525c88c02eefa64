/-! what the class and the reference have in common -/
def RS (σ : sT) : Prop := ∀ p, p < npk σ → σ.1 62 0 p = σ.1 21 p 0 ∧ σ.1 63 0 p = σ.1 21 p 1 ∧ σ.1 91 p = σ.1 23 p ∧ σ.1 92 p = σ.1 24 p ∧ (∀ j, j < 6 → nbk (σ.1 23 p j) (σ.1 24 p j) ∧ (p ≤ j → σ.1 24 p j = 0)) ∧ rg9 (σ.1 21 p 0)
def RC (σ : sT) : Prop := ∀ p, p < npk σ → σ.1 66 0 p = σ.1 25 p 0 ∧ (σ.1 25 p 0 = 0 ∨ (σ.1 67 0 p = σ.1 25 p 1 ∧ σ.1 68 0 p = σ.1 25 p 2 ∧ ∃ L, σ.1 69 0 p = bts L 6 ∧ ∀ j, j < 6 → (0 < L j ↔ ¬ σ.1 26 p j = -1) ∧ (0 < L j → σ.1 93 p j = σ.1 26 p j)))
def RP (σ : sT) (ofr : Nat → Nat) : Prop := ∀ p, p < npk σ → σ.1 71 0 p = σ.1 27 p 0 ∧ (σ.1 27 p 0 = 0 ∨ (σ.1 73 0 p = σ.1 28 p 0 ∧ σ.1 74 0 p = σ.1 28 p 1 ∧ ∀ j, j < 6 → σ.1 95 p j = σ.1 30 p j ∧ σ.1 96 p j = σ.1 31 p j ∧ σ.1 94 p j = vG σ (σ.2.2 33 p j) ∧ ∀ x, σ.2.2 33 p j = some x → ofr x = j))
def RR (σ : sT) (ofr : Nat → Nat) : Prop := MR σ ofr ∧ (∀ r, r < nrl σ → (∀ j, j < 6 → σ.1 99 r j = vG σ (σ.2.2 45 r j) ∧ ∀ x, σ.2.2 45 r j = some x → ofr x = j) ∧ (100 ≤ σ.1 40 r 0 ∧ σ.1 40 r 0 ≤ 999) ∧ 0 ≤ σ.1 40 r 1 ∧ ∀ j, ofr r ≤ j → j < 6 → σ.1 43 r j = 0) ∧ ∀ r s, r < s → s < nrl σ → ofr r = ofr s → σ.1 40 r 0 < σ.1 40 s 0
def RT (σ : sT) : Prop := ∀ t, t < nts σ → σ.1 84 0 t = σ.1 50 t 0 ∧ σ.1 85 0 t = σ.1 50 t 1 ∧ σ.1 86 0 t = σ.1 50 t 2 ∧ σ.1 88 0 t = σ.1 50 t 3 ∧ (∀ j, j < 8 → σ.1 100 t j = σ.1 51 t j) ∧ (∃ l, 1 ≤ l ∧ l ≤ 60 ∧ σ.1 50 t 1 = nI l) ∧ ∃ c, c ≤ 8 ∧ σ.1 50 t 3 = nI c
def RZ (σ : sT) : Prop := (∀ p, npk σ ≤ p → p < 6 → σ.1 62 0 p = 0 ∧ σ.1 63 0 p = 0 ∧ σ.1 66 0 p = 0 ∧ σ.1 71 0 p = 0 ∧ σ.1 91 p = z0 ∧ σ.1 92 p = z0) ∧ (∀ t, nts σ ≤ t → t < 8 → σ.1 86 0 t = 0 ∧ σ.1 88 0 t = 0 ∧ ∀ j, j < 8 → σ.1 100 t j = 0) ∧ ∀ r, nrl σ ≤ r → r < 20 → σ.1 83 0 r = 0
def RO (σ : sT) : Prop := MB σ ∧ (σ.1 60 0 3 = σ.1 0 0 0 ∧ σ.1 60 0 4 = σ.1 0 0 1 ∧ σ.1 60 0 5 = σ.1 0 0 2 ∧ σ.1 60 0 6 = σ.1 0 0 3) ∧ (∃ M, 1 ≤ M ∧ M ≤ 4 ∧ σ.1 0 0 0 = nI M) ∧ (∀ o, o < 3 → σ.1 89 0 o = σ.1 13 0 o) ∧ ∀ p, p < npk σ → σ.1 61 0 p = σ.1 20 p 0 ∧ ∃ o, o < 3 ∧ σ.1 20 p 0 = nI o
def REL (σ : sT) (ofr : Nat → Nat) : Prop := RO σ ∧ RS σ ∧ RC σ ∧ RP σ ofr ∧ RR σ ofr ∧ RT σ ∧ RZ σ
theorem fS_ex {α : Type} {F : Nat → Option α} {y : α} : ∀ (n : Nat), fS F n = some y → ∃ i, i < n ∧ F i = some y
  | 0, h => by cases h
  | n + 1, h => by
    cases e : F n with
    | some x =>
      rw [fS_t e] at h
      exact ⟨n, Nat.lt_succ_self n, e.trans h⟩
    | none =>
      rw [fS_f e] at h
      obtain ⟨i, h1, h2⟩ := fS_ex n h
      exact ⟨i, by omega, h2⟩
theorem dit_ex {α : Type} {P : Prop} {a : Option α} {y : α} (h : dit P a none = some y) : a = some y := by
  by_cases q : P
  · rwa [dit_t q] at h
  · rw [dit_f q] at h; cases h
/-- what a choice has -/
theorem srch_pk {I : Nat → Nat → Nat → Int32} {N : Nat → Nat → Nat → Nat} {le gr : Nat → Int32} : ∀ (k : Nat) (g g' : Nat → Option Nat), srch I N le gr k g = some g' → (∀ j, k ≤ j → g' j = g j) ∧ ∀ j, j < k → (¬ gr j = 0 → ∃ x, g' j = some x) ∧ ∀ x, g' j = some x → g j = some x ∨ ∃ i, i < N 201 j 0 ∧ x = N 202 j i
  | 0, g, g', h => by cases h; exact ⟨fun _ _ => rfl, fun j hj => absurd hj (Nat.not_lt_zero j)⟩
  | k + 1, g, g', h => by
    by_cases hr : rchd I gr g k
    · have e1 : fS (fun i => dit (admd I le gr g k (N 202 k i)) (srch I N le gr k (va_up g k (some (N 202 k i)))) none) (N 201 k 0) = some g' := (dit_t hr).symm.trans h
      obtain ⟨i, hi, e2⟩ := fS_ex _ e1
      obtain ⟨h1, h2⟩ := srch_pk k _ _ (dit_ex e2)
      have ek : g' k = some (N 202 k i) := (h1 k (Nat.le_refl k)).trans (va_up_self _ _ _)
      refine ⟨fun j hj => (h1 j (by omega)).trans (va_up_ne _ _ (by omega)), fun j hj => ?_⟩
      by_cases ej : j = k
      · subst ej
        exact ⟨fun _ => ⟨_, ek⟩, fun x hx => Or.inr ⟨i, hi, by rw [ek] at hx; cases hx; rfl⟩⟩
      · obtain ⟨h3, h4⟩ := h2 j (by omega)
        refine ⟨h3, fun x hx => ?_⟩
        rcases h4 x hx with q | q
        · exact Or.inl (by rw [va_up_ne _ _ ej] at q; exact q)
        · exact Or.inr q
    · have e1 : srch I N le gr k g = some g' := (dit_f hr).symm.trans h
      obtain ⟨h1, h2⟩ := srch_pk k _ _ e1
      refine ⟨fun j hj => h1 j (by omega), fun j hj => ?_⟩
      by_cases ej : j = k
      · subst ej
        exact ⟨fun q => absurd (Or.inl q) hr, fun x hx => Or.inl (by rw [← h1 j (Nat.le_refl j)]; exact hx)⟩
      · exact h2 j (by omega)
theorem cntq_le (ofr : Nat → Nat) (q : Nat) : ∀ {a b : Nat}, a ≤ b → cntq ofr q a ≤ cntq ofr q b
  | a, 0, h => by
    have : a = 0 := by omega
    subst this
    exact Nat.le_refl _
  | a, b + 1, h => by
    by_cases e : a = b + 1
    · rw [e]; exact Nat.le_refl _
    · exact Nat.le_trans (cntq_le ofr q (a := a) (b := b) (by omega)) (Nat.le_add_right _ _)
theorem cntq_ex (ofr : Nat → Nat) (q : Nat) : ∀ (n j : Nat), j < cntq ofr q n → ∃ r, r < n ∧ ofr r = q ∧ cntq ofr q r = j
  | 0, j, h => absurd h (Nat.not_lt_zero j)
  | n + 1, j, h => by
    by_cases e : j < cntq ofr q n
    · obtain ⟨r, h1, h2, h3⟩ := cntq_ex ofr q n j e
      exact ⟨r, by omega, h2, h3⟩
    · have h' : j < cntq ofr q n + (if ofr n = q then 1 else 0) := h
      by_cases e2 : ofr n = q
      · rw [if_pos e2] at h'
        exact ⟨n, Nat.lt_succ_self n, e2, by omega⟩
      · rw [if_neg e2] at h'
        omega
theorem MR.ix {σ : sT} {ofr : Nat → Nat} (hR : MR σ ofr) {q i : Nat} (hq : q < 6) (hi : i < rnp σ q) : ixp σ q i < nrl σ ∧ ofr (ixp σ q i) = q ∧ cntq ofr q (ixp σ q i) = i := by
  obtain ⟨h1, h2⟩ := hR.2 q hq
  rw [h1] at hi
  obtain ⟨r, hr, ho, hc⟩ := cntq_ex ofr q _ i hi
  have e := h2 r hr ho
  rw [hc] at e
  rw [e]
  exact ⟨hr, ho, hc⟩
/-- what a choice for a source has: its picks are releases of the packages that they are for -/
theorem srch_of {σ : sT} {ofr : Nat → Nat} (hR : MR σ ofr) {le gr : Nat → Int32} {k : Nat} (hk : k ≤ 6) {g' : Nat → Option Nat} (h : srch σ.1 σ.2.1 le gr k zN = some g') {j x : Nat} (hx : g' j = some x) : j < k ∧ ofr x = j ∧ x < nrl σ := by
  obtain ⟨h1, h2⟩ := srch_pk k _ _ h
  by_cases hj : j < k
  · rcases (h2 j hj).2 x hx with q | ⟨i, hi, rfl⟩
    · cases q
    · have z := hR.ix (by omega) hi
      exact ⟨hj, z.2.1, z.1⟩
  · rw [h1 j (by omega)] at hx
    cases hx
abbrev QFp (G : hG) (A : aT) (σ : sT) (p : Nat) (h : hp) : Option Value → hp → Prop := fun r h2 => (∀ g', srS σ p = some g' → r = some (.int 1) ∧ pkB σ g' ∧ ∃ C, h2 = va_up h (A 90 0) (some (aI 6 C)) ∧ ∀ j, j < 6 → C j = enc (g' j)) ∧ (srS σ p = none → r = some (.int 0) ∧ ∃ C, h2 = va_up h (A 90 0) (some (aI 6 C)))
theorem srS_6 {σ : sT} (hS : RS σ) {p : Nat} (hp : p < npk σ) (h6 : npk σ ≤ 6) : srch σ.1 σ.2.1 (σ.1 91 p) (σ.1 92 p) 6 zN = srS σ p := by
  obtain ⟨-, -, e1, e2, e3, -⟩ := hS p hp
  rw [e1, e2]
  exact srch_top 6 (by omega) (fun j h1 h2 => (e3 j h2).2 h1)
theorem c_mforp (G : hG) (h : hp) {A : aT} {σ : sT} (H : WM G h A σ) (hb : MB σ) {ofr : Nat → Nat} (hR : MR σ ofr) (hS : RS σ) {p : Nat} (hp : p < npk σ) : PMet G MX10_choosesFor 10 0 0 [.ref (A 60 0), .int (nI p)] h (QFp G A σ p h) noX := by
  have hnp := H.iv.1
  have hle : ∀ j, j < 6 → nbk (σ.1 91 p j) (σ.1 92 p j) := fun j hj => by
    obtain ⟨-, -, e1, e2, e3, -⟩ := hS p hp
    rw [e1, e2]
    exact (e3 j hj).1
  exact (c_mfor G h H hb hR (p := p) (by omega) hle).mono (fun r h2 q => ⟨fun g' e => q.1 g' ((srS_6 hS hp hnp).trans e), fun e => q.2 ((srS_6 hS hp hnp).trans e)⟩) (fun _ _ q => q)
set_option maxHeartbeats 4000000 in
set_option maxRecDepth 100000 in
theorem c_mchosen (G : hG) (h : hp) {A : aT} {σ : sT} (H : WM G h A σ) (hb : MB σ) {ofr : Nat → Nat} (hR : MR σ ofr) (hS : RS σ) (n o : Int32) : PMet G MX10_chosen 11 0 0 [.ref (A 60 0), .int n, .int o] h (fun r h2 => (¬ (inR n (npk σ) ∧ inR o (npk σ)) ∧ QSM G h A (.int 0) (thS σ 1) r h2) ∨ (∃ p q, p < npk σ ∧ q < npk σ ∧ n = nI p ∧ o = nI q ∧ ((srS σ p = none ∧ ∃ C, QSM G h A (.int 0) (thS (setI σ 90 0 C) 2) r h2) ∨ (∃ g' C, srS σ p = some g' ∧ pkB σ g' ∧ QSM G h A (.int (vG σ (g' q))) (thS (setI σ 90 0 C) 0) r h2)))) noX := by
  have hnp := H.iv.1
  refine PMet.of (by decide +kernel) (Nat.le_of_ble_eq_true rfl) (fun d hd => ?_)
  refine PW.sub (L2 := [(0, Value.ref (A 60 0)), (1, Value.int n), (2, Value.int o)]) [0, 1, 2] rfl ?_
  refine pw_aload_n (pc2 := 1) dX10_chosen_0 rfl rfl 0 rfl (by first | exact rf_ref _ | exact rf_opt _ | exact rf_nul) ?_
  refine pw_aload_n (pc2 := 2) dX10_chosen_1 rfl rfl 0 rfl (by first | exact rf_ref _ | exact rf_opt _ | exact rf_nul) ?_
  refine pw_iload_n (pc2 := 3) dX10_chosen_2 rfl rfl 1 rfl ?_
  refine pw_callVb (pc2 := 6) (c_mispk G _ H hb n) cs_X10_119 rfl rfl H.c60 dX10_chosen_3 rfl (by omega) rfl (by first | decide | simp [cat_rf, Value.category]) (fun q3 => ?_) (fun q3 => ?_)
  · refine pw_if_eq (tgt := 17) (pc2 := 9) dX10_chosen_6 (by decide) rfl (fun c6 => by exact absurd c6 (by decide)) (fun _ => ?_)
    refine pw_aload_n (pc2 := 10) dX10_chosen_9 rfl rfl 0 rfl (by first | exact rf_ref _ | exact rf_opt _ | exact rf_nul) ?_
    refine pw_iload_n (pc2 := 11) dX10_chosen_10 rfl rfl 2 rfl ?_
    refine pw_callVb (pc2 := 14) (c_mispk G _ H hb o) cs_X10_119 rfl rfl H.c60 dX10_chosen_11 rfl (by omega) rfl (by first | decide | simp [cat_rf, Value.category]) (fun q11 => ?_) (fun q11 => ?_)
    · refine pw_if_ne (tgt := 21) (pc2 := 17) dX10_chosen_14 (by decide) rfl (fun _ => ?_) (fun c14 => by exact absurd c14 (by decide))
      obtain ⟨p, hpp, rfl⟩ := inR_ex (by omega) q3
      obtain ⟨q, hqq, rfl⟩ := inR_ex (by omega) q11
      have hp6 : p < 6 := by omega
      have hq6 : q < 6 := by omega
      refine pw_aload_n (pc2 := 22) dX10_chosen_21 rfl rfl 0 rfl (by first | exact rf_ref _ | exact rf_opt _ | exact rf_nul) ?_
      refine pw_iload_n (pc2 := 23) dX10_chosen_22 rfl rfl 1 rfl ?_
      refine pw_callV (pc2 := 26) (c_mforp G _ H hb hR hS hpp) cs_X10_152 rfl rfl H.c60 dX10_chosen_23 rfl (by omega) rfl (by first | decide | simp [cat_rf, Value.category]) (fun r9 h9 q9 => ?_) (fun Y h9 q9 => q9.elim)
      cases hs : srS σ p with
      | none =>
        obtain ⟨rfl, C, e9⟩ := q9.2 hs
        obtain ⟨K0, FK0⟩ := H.wIF (FM.rfl') (t := 90) (i := 0) (f := C) rfl (by decide) (iv_setI H.iv (by decide)) rfl
        replace K0 : WM G h9 A (setI σ 90 0 C) := by rw [e9]; exact K0
        replace FK0 : FM A h h9 := by rw [e9]; exact FK0
        clear e9
        have c60K0 : h9 (A 60 0) = some (oB 13 [.ref (A 61 0), .ref (A 62 0), .ref (A 63 0), .ref (A 64 0), .ref (A 65 0), .ref (A 66 0), .ref (A 67 0), .ref (A 68 0), .ref (A 69 0), .ref (A 70 0), .ref (A 71 0), .ref (A 72 0), .ref (A 73 0), .ref (A 74 0), .ref (A 75 0), .ref (A 76 0), .int (σ.1 60 0 0), .ref (A 77 0), .ref (A 78 0), .ref (A 79 0), .ref (A 80 0), .ref (A 81 0), .ref (A 82 0), .ref (A 83 0), .int (σ.1 60 0 1), .ref (A 84 0), .ref (A 85 0), .ref (A 86 0), .ref (A 87 0), .ref (A 88 0), .int (σ.1 60 0 2), .int (σ.1 60 0 3), .ref (A 89 0), .int (σ.1 60 0 4), .int (σ.1 60 0 5), .int (σ.1 60 0 6), .ref (A 90 0), .int (σ.1 60 0 7)]) := K0.c60
        refine pw_if_ne (tgt := 33) (pc2 := 29) dX10_chosen_26 (by decide) rfl (fun c26 => by exact absurd (by decide) c26) (fun _ => ?_)
        refine pw_iconst (pc2 := 30) (v := 2) dX10_chosen_29 rfl (by decide) ?_
        refine pw_goto (tgt := 34) dX10_chosen_30 (by decide) ?_
        refine pw_put (pc2 := 37) kX10 (k := 37) (by decide) rfl rfl fl_X10_109 c60K0 (by first | decide | simp) (by first | rfl | exact nar_rf _ _) (by first | rfl | exact fit_rf _ _) dX10_chosen_34 rfl ?_
        obtain ⟨K1, FK1⟩ := K0.wIF (FK0) (t := 60) (i := 0) (f := (upd (σ.1 60 0) 7 2)) rfl (by decide) (iv_setI K0.iv (by decide)) rfl
        obtain ⟨h2, eh2⟩ : ∃ z : Nat → Option hE, z = va_up h9 (A 60 0) (some (oB 13 [.ref (A 61 0), .ref (A 62 0), .ref (A 63 0), .ref (A 64 0), .ref (A 65 0), .ref (A 66 0), .ref (A 67 0), .ref (A 68 0), .ref (A 69 0), .ref (A 70 0), .ref (A 71 0), .ref (A 72 0), .ref (A 73 0), .ref (A 74 0), .ref (A 75 0), .ref (A 76 0), .int (σ.1 60 0 0), .ref (A 77 0), .ref (A 78 0), .ref (A 79 0), .ref (A 80 0), .ref (A 81 0), .ref (A 82 0), .ref (A 83 0), .int (σ.1 60 0 1), .ref (A 84 0), .ref (A 85 0), .ref (A 86 0), .ref (A 87 0), .ref (A 88 0), .int (σ.1 60 0 2), .int (σ.1 60 0 3), .ref (A 89 0), .int (σ.1 60 0 4), .int (σ.1 60 0 5), .int (σ.1 60 0 6), .ref (A 90 0), .int 2])) := ⟨_, rfl⟩
        refine PW.heap (h' := h2) eh2.symm ?_
        replace K1 : WM G h2 A (thS (setI σ 90 0 C) 2) := by rw [eh2]; exact K1
        replace FK1 : FM A h h2 := by rw [eh2]; exact FK1
        have c60K1 : h2 (A 60 0) = some (oB 13 [.ref (A 61 0), .ref (A 62 0), .ref (A 63 0), .ref (A 64 0), .ref (A 65 0), .ref (A 66 0), .ref (A 67 0), .ref (A 68 0), .ref (A 69 0), .ref (A 70 0), .ref (A 71 0), .ref (A 72 0), .ref (A 73 0), .ref (A 74 0), .ref (A 75 0), .ref (A 76 0), .int (σ.1 60 0 0), .ref (A 77 0), .ref (A 78 0), .ref (A 79 0), .ref (A 80 0), .ref (A 81 0), .ref (A 82 0), .ref (A 83 0), .int (σ.1 60 0 1), .ref (A 84 0), .ref (A 85 0), .ref (A 86 0), .ref (A 87 0), .ref (A 88 0), .int (σ.1 60 0 2), .int (σ.1 60 0 3), .ref (A 89 0), .int (σ.1 60 0 4), .int (σ.1 60 0 5), .int (σ.1 60 0 6), .ref (A 90 0), .int 2]) := K1.c60
        refine pw_aload_n (pc2 := 38) dX10_chosen_37 rfl rfl 0 rfl (by first | exact rf_ref _ | exact rf_opt _ | exact rf_nul) ?_
        refine pw_get (pc2 := 41) kX10 (k := 37) (by decide) rfl fl_X10_109 c60K1 rfl dX10_chosen_38 rfl ?_
        refine pw_if_le (tgt := 48) (pc2 := 44) dX10_chosen_41 (by decide) rfl (fun c41 => by exact absurd c41 (by decide)) (fun _ => ?_)
        refine pw_iconst (pc2 := 45) (v := 0) dX10_chosen_44 rfl (by decide) ?_
        refine pw_goto (tgt := 53) dX10_chosen_45 (by decide) ?_
        refine pw_iret dX10_chosen_53 rfl (by first | rfl | assumption | simp [narrow]) ?_
        exact Or.inr ⟨p, q, hpp, hqq, rfl, rfl, Or.inl ⟨hs, C, rfl, K1, FK1⟩⟩
      | some g' =>
        obtain ⟨rfl, hgb', C, e9, hCC⟩ := q9.1 g' hs
        obtain ⟨K0, FK0⟩ := H.wIF (FM.rfl') (t := 90) (i := 0) (f := C) rfl (by decide) (iv_setI H.iv (by decide)) rfl
        replace K0 : WM G h9 A (setI σ 90 0 C) := by rw [e9]; exact K0
        replace FK0 : FM A h h9 := by rw [e9]; exact FK0
        clear e9
        have c60K0 : h9 (A 60 0) = some (oB 13 [.ref (A 61 0), .ref (A 62 0), .ref (A 63 0), .ref (A 64 0), .ref (A 65 0), .ref (A 66 0), .ref (A 67 0), .ref (A 68 0), .ref (A 69 0), .ref (A 70 0), .ref (A 71 0), .ref (A 72 0), .ref (A 73 0), .ref (A 74 0), .ref (A 75 0), .ref (A 76 0), .int (σ.1 60 0 0), .ref (A 77 0), .ref (A 78 0), .ref (A 79 0), .ref (A 80 0), .ref (A 81 0), .ref (A 82 0), .ref (A 83 0), .int (σ.1 60 0 1), .ref (A 84 0), .ref (A 85 0), .ref (A 86 0), .ref (A 87 0), .ref (A 88 0), .int (σ.1 60 0 2), .int (σ.1 60 0 3), .ref (A 89 0), .int (σ.1 60 0 4), .int (σ.1 60 0 5), .int (σ.1 60 0 6), .ref (A 90 0), .int (σ.1 60 0 7)]) := K0.c60
        refine pw_if_ne (tgt := 33) (pc2 := 29) dX10_chosen_26 (by decide) rfl (fun _ => ?_) (fun c26 => by exact absurd c26 (by decide))
        refine pw_iconst (pc2 := 34) (v := 0) dX10_chosen_33 rfl (by decide) ?_
        refine pw_put (pc2 := 37) kX10 (k := 37) (by decide) rfl rfl fl_X10_109 c60K0 (by first | decide | simp) (by first | rfl | exact nar_rf _ _) (by first | rfl | exact fit_rf _ _) dX10_chosen_34 rfl ?_
        obtain ⟨K1, FK1⟩ := K0.wIF (FK0) (t := 60) (i := 0) (f := (upd (σ.1 60 0) 7 0)) rfl (by decide) (iv_setI K0.iv (by decide)) rfl
        obtain ⟨h2, eh2⟩ : ∃ z : Nat → Option hE, z = va_up h9 (A 60 0) (some (oB 13 [.ref (A 61 0), .ref (A 62 0), .ref (A 63 0), .ref (A 64 0), .ref (A 65 0), .ref (A 66 0), .ref (A 67 0), .ref (A 68 0), .ref (A 69 0), .ref (A 70 0), .ref (A 71 0), .ref (A 72 0), .ref (A 73 0), .ref (A 74 0), .ref (A 75 0), .ref (A 76 0), .int (σ.1 60 0 0), .ref (A 77 0), .ref (A 78 0), .ref (A 79 0), .ref (A 80 0), .ref (A 81 0), .ref (A 82 0), .ref (A 83 0), .int (σ.1 60 0 1), .ref (A 84 0), .ref (A 85 0), .ref (A 86 0), .ref (A 87 0), .ref (A 88 0), .int (σ.1 60 0 2), .int (σ.1 60 0 3), .ref (A 89 0), .int (σ.1 60 0 4), .int (σ.1 60 0 5), .int (σ.1 60 0 6), .ref (A 90 0), .int 0])) := ⟨_, rfl⟩
        refine PW.heap (h' := h2) eh2.symm ?_
        replace K1 : WM G h2 A (thS (setI σ 90 0 C) 0) := by rw [eh2]; exact K1
        replace FK1 : FM A h h2 := by rw [eh2]; exact FK1
        have c60K1 : h2 (A 60 0) = some (oB 13 [.ref (A 61 0), .ref (A 62 0), .ref (A 63 0), .ref (A 64 0), .ref (A 65 0), .ref (A 66 0), .ref (A 67 0), .ref (A 68 0), .ref (A 69 0), .ref (A 70 0), .ref (A 71 0), .ref (A 72 0), .ref (A 73 0), .ref (A 74 0), .ref (A 75 0), .ref (A 76 0), .int (σ.1 60 0 0), .ref (A 77 0), .ref (A 78 0), .ref (A 79 0), .ref (A 80 0), .ref (A 81 0), .ref (A 82 0), .ref (A 83 0), .int (σ.1 60 0 1), .ref (A 84 0), .ref (A 85 0), .ref (A 86 0), .ref (A 87 0), .ref (A 88 0), .int (σ.1 60 0 2), .int (σ.1 60 0 3), .ref (A 89 0), .int (σ.1 60 0 4), .int (σ.1 60 0 5), .int (σ.1 60 0 6), .ref (A 90 0), .int 0]) := K1.c60
        refine pw_aload_n (pc2 := 38) dX10_chosen_37 rfl rfl 0 rfl (by first | exact rf_ref _ | exact rf_opt _ | exact rf_nul) ?_
        refine pw_get (pc2 := 41) kX10 (k := 37) (by decide) rfl fl_X10_109 c60K1 rfl dX10_chosen_38 rfl ?_
        refine pw_if_le (tgt := 48) (pc2 := 44) dX10_chosen_41 (by decide) rfl (fun _ => ?_) (fun c41 => by exact absurd (by decide) c41)
        refine pw_aload_n (pc2 := 49) dX10_chosen_48 rfl rfl 0 rfl (by first | exact rf_ref _ | exact rf_opt _ | exact rf_nul) ?_
        refine pw_iload_n (pc2 := 50) dX10_chosen_49 rfl rfl 2 rfl ?_
        refine pw_callV1 (pc2 := 53) (c_verIn G _ K1 (g := g') hgb' hq6 hCC hR) cs_X10_155 rfl rfl c60K1 dX10_chosen_50 rfl (by omega) rfl (by first | decide | simp [cat_rf, Value.category]) ?_
        refine pw_iret dX10_chosen_53 rfl (by first | rfl | assumption | simp [narrow]) ?_
        exact Or.inr ⟨p, q, hpp, hqq, rfl, rfl, Or.inr ⟨g', C, hs, hgb', rfl, K1, FK1⟩⟩
    · refine pw_if_ne (tgt := 21) (pc2 := 17) dX10_chosen_14 (by decide) rfl (fun c14 => by exact absurd (by decide) c14) (fun _ => ?_)
      refine pw_iconst (pc2 := 18) (v := 1) dX10_chosen_17 rfl (by decide) ?_
      refine pw_goto (tgt := 34) dX10_chosen_18 (by decide) ?_
      refine pw_put (pc2 := 37) kX10 (k := 37) (by decide) rfl rfl fl_X10_109 H.c60 (by first | decide | simp) (by first | rfl | exact nar_rf _ _) (by first | rfl | exact fit_rf _ _) dX10_chosen_34 rfl ?_
      obtain ⟨K1, FK1⟩ := H.wIF (FM.rfl') (t := 60) (i := 0) (f := (upd (σ.1 60 0) 7 1)) rfl (by decide) (iv_setI H.iv (by decide)) rfl
      obtain ⟨h2, eh2⟩ : ∃ z : Nat → Option hE, z = va_up h (A 60 0) (some (oB 13 [.ref (A 61 0), .ref (A 62 0), .ref (A 63 0), .ref (A 64 0), .ref (A 65 0), .ref (A 66 0), .ref (A 67 0), .ref (A 68 0), .ref (A 69 0), .ref (A 70 0), .ref (A 71 0), .ref (A 72 0), .ref (A 73 0), .ref (A 74 0), .ref (A 75 0), .ref (A 76 0), .int (σ.1 60 0 0), .ref (A 77 0), .ref (A 78 0), .ref (A 79 0), .ref (A 80 0), .ref (A 81 0), .ref (A 82 0), .ref (A 83 0), .int (σ.1 60 0 1), .ref (A 84 0), .ref (A 85 0), .ref (A 86 0), .ref (A 87 0), .ref (A 88 0), .int (σ.1 60 0 2), .int (σ.1 60 0 3), .ref (A 89 0), .int (σ.1 60 0 4), .int (σ.1 60 0 5), .int (σ.1 60 0 6), .ref (A 90 0), .int 1])) := ⟨_, rfl⟩
      refine PW.heap (h' := h2) eh2.symm ?_
      replace K1 : WM G h2 A (thS σ 1) := by rw [eh2]; exact K1
      replace FK1 : FM A h h2 := by rw [eh2]; exact FK1
      have c60K1 : h2 (A 60 0) = some (oB 13 [.ref (A 61 0), .ref (A 62 0), .ref (A 63 0), .ref (A 64 0), .ref (A 65 0), .ref (A 66 0), .ref (A 67 0), .ref (A 68 0), .ref (A 69 0), .ref (A 70 0), .ref (A 71 0), .ref (A 72 0), .ref (A 73 0), .ref (A 74 0), .ref (A 75 0), .ref (A 76 0), .int (σ.1 60 0 0), .ref (A 77 0), .ref (A 78 0), .ref (A 79 0), .ref (A 80 0), .ref (A 81 0), .ref (A 82 0), .ref (A 83 0), .int (σ.1 60 0 1), .ref (A 84 0), .ref (A 85 0), .ref (A 86 0), .ref (A 87 0), .ref (A 88 0), .int (σ.1 60 0 2), .int (σ.1 60 0 3), .ref (A 89 0), .int (σ.1 60 0 4), .int (σ.1 60 0 5), .int (σ.1 60 0 6), .ref (A 90 0), .int 1]) := K1.c60
      refine pw_aload_n (pc2 := 38) dX10_chosen_37 rfl rfl 0 rfl (by first | exact rf_ref _ | exact rf_opt _ | exact rf_nul) ?_
      refine pw_get (pc2 := 41) kX10 (k := 37) (by decide) rfl fl_X10_109 c60K1 rfl dX10_chosen_38 rfl ?_
      refine pw_if_le (tgt := 48) (pc2 := 44) dX10_chosen_41 (by decide) rfl (fun c41 => by exact absurd c41 (by decide)) (fun _ => ?_)
      refine pw_iconst (pc2 := 45) (v := 0) dX10_chosen_44 rfl (by decide) ?_
      refine pw_goto (tgt := 53) dX10_chosen_45 (by decide) ?_
      refine pw_iret dX10_chosen_53 rfl (by first | rfl | assumption | simp [narrow]) ?_
      exact Or.inl ⟨by first | exact fun z => q3 z.1 | exact fun z => q11 z.2, rfl, K1, FK1⟩
  · refine pw_if_eq (tgt := 17) (pc2 := 9) dX10_chosen_6 (by decide) rfl (fun _ => ?_) (fun c6 => by exact absurd (by decide) c6)
    refine pw_iconst (pc2 := 18) (v := 1) dX10_chosen_17 rfl (by decide) ?_
    refine pw_goto (tgt := 34) dX10_chosen_18 (by decide) ?_
    refine pw_put (pc2 := 37) kX10 (k := 37) (by decide) rfl rfl fl_X10_109 H.c60 (by first | decide | simp) (by first | rfl | exact nar_rf _ _) (by first | rfl | exact fit_rf _ _) dX10_chosen_34 rfl ?_
    obtain ⟨K1, FK1⟩ := H.wIF (FM.rfl') (t := 60) (i := 0) (f := (upd (σ.1 60 0) 7 1)) rfl (by decide) (iv_setI H.iv (by decide)) rfl
    obtain ⟨h2, eh2⟩ : ∃ z : Nat → Option hE, z = va_up h (A 60 0) (some (oB 13 [.ref (A 61 0), .ref (A 62 0), .ref (A 63 0), .ref (A 64 0), .ref (A 65 0), .ref (A 66 0), .ref (A 67 0), .ref (A 68 0), .ref (A 69 0), .ref (A 70 0), .ref (A 71 0), .ref (A 72 0), .ref (A 73 0), .ref (A 74 0), .ref (A 75 0), .ref (A 76 0), .int (σ.1 60 0 0), .ref (A 77 0), .ref (A 78 0), .ref (A 79 0), .ref (A 80 0), .ref (A 81 0), .ref (A 82 0), .ref (A 83 0), .int (σ.1 60 0 1), .ref (A 84 0), .ref (A 85 0), .ref (A 86 0), .ref (A 87 0), .ref (A 88 0), .int (σ.1 60 0 2), .int (σ.1 60 0 3), .ref (A 89 0), .int (σ.1 60 0 4), .int (σ.1 60 0 5), .int (σ.1 60 0 6), .ref (A 90 0), .int 1])) := ⟨_, rfl⟩
    refine PW.heap (h' := h2) eh2.symm ?_
    replace K1 : WM G h2 A (thS σ 1) := by rw [eh2]; exact K1
    replace FK1 : FM A h h2 := by rw [eh2]; exact FK1
    have c60K1 : h2 (A 60 0) = some (oB 13 [.ref (A 61 0), .ref (A 62 0), .ref (A 63 0), .ref (A 64 0), .ref (A 65 0), .ref (A 66 0), .ref (A 67 0), .ref (A 68 0), .ref (A 69 0), .ref (A 70 0), .ref (A 71 0), .ref (A 72 0), .ref (A 73 0), .ref (A 74 0), .ref (A 75 0), .ref (A 76 0), .int (σ.1 60 0 0), .ref (A 77 0), .ref (A 78 0), .ref (A 79 0), .ref (A 80 0), .ref (A 81 0), .ref (A 82 0), .ref (A 83 0), .int (σ.1 60 0 1), .ref (A 84 0), .ref (A 85 0), .ref (A 86 0), .ref (A 87 0), .ref (A 88 0), .int (σ.1 60 0 2), .int (σ.1 60 0 3), .ref (A 89 0), .int (σ.1 60 0 4), .int (σ.1 60 0 5), .int (σ.1 60 0 6), .ref (A 90 0), .int 1]) := K1.c60
    refine pw_aload_n (pc2 := 38) dX10_chosen_37 rfl rfl 0 rfl (by first | exact rf_ref _ | exact rf_opt _ | exact rf_nul) ?_
    refine pw_get (pc2 := 41) kX10 (k := 37) (by decide) rfl fl_X10_109 c60K1 rfl dX10_chosen_38 rfl ?_
    refine pw_if_le (tgt := 48) (pc2 := 44) dX10_chosen_41 (by decide) rfl (fun c41 => by exact absurd c41 (by decide)) (fun _ => ?_)
    refine pw_iconst (pc2 := 45) (v := 0) dX10_chosen_44 rfl (by decide) ?_
    refine pw_goto (tgt := 53) dX10_chosen_45 (by decide) ?_
    refine pw_iret dX10_chosen_53 rfl (by first | rfl | assumption | simp [narrow]) ?_
    exact Or.inl ⟨by first | exact fun z => q3 z.1 | exact fun z => q11 z.2, rfl, K1, FK1⟩
set_option maxHeartbeats 4000000 in
set_option maxRecDepth 100000 in
theorem c_mchosenBA (G : hG) (h : hp) {A : aT} {σ : sT} (H : WM G h A σ) (hb : MB σ) {ofr : Nat → Nat} (hR : MR σ ofr) (hS : RS σ) (n o : Int32) : PMet G MX10_chosenByAll 12 0 0 [.ref (A 60 0), .int n, .int o] h (fun r h2 => (¬ (inR n (npk σ) ∧ inR o (npk σ)) ∧ QSM G h A (.int 0) (thS σ 1) r h2) ∨ (∃ p q, p < npk σ ∧ q < npk σ ∧ n = nI p ∧ o = nI q ∧ ((srS σ p = none ∧ ∃ C, QSM G h A (.int 0) (thS (setI σ 90 0 C) 2) r h2) ∨ (∃ g' C, srS σ p = some g' ∧ pkB σ g' ∧ QSM G h A (.int (vG σ (g' q))) (thS (setI σ 90 0 C) 0) r h2)))) noX := by
  have hnp := H.iv.1
  refine PMet.of (by decide +kernel) (Nat.le_of_ble_eq_true rfl) (fun d hd => ?_)
  refine PW.sub (L2 := [(0, Value.ref (A 60 0)), (1, Value.int n), (2, Value.int o)]) [0, 1, 2] rfl ?_
  refine pw_aload_n (pc2 := 1) dX10_chosenByAll_0 rfl rfl 0 rfl (by first | exact rf_ref _ | exact rf_opt _ | exact rf_nul) ?_
  refine pw_iload_n (pc2 := 2) dX10_chosenByAll_1 rfl rfl 1 rfl ?_
  refine pw_iload_n (pc2 := 3) dX10_chosenByAll_2 rfl rfl 2 rfl ?_
  refine pw_callV (pc2 := 6) (c_mchosen G _ H hb hR hS n o) cs_X10_158 rfl rfl H.c60 dX10_chosenByAll_3 rfl (by omega) rfl (by first | decide | simp [cat_rf, Value.category]) (fun r9 h9 q9 => ?_) (fun Y h9 q9 => q9.elim)
  have hq := q9
  obtain ⟨x, rfl⟩ : ∃ x, r9 = some (Value.int x) := by rcases q9 with ⟨-, q, -⟩ | ⟨p, q, -, -, -, -, ⟨-, C, q, -⟩ | ⟨g', C, -, -, q, -⟩⟩ <;> exact ⟨_, q⟩
  refine pw_iret dX10_chosenByAll_6 rfl (by first | rfl | assumption | simp [narrow]) ?_
  exact hq
