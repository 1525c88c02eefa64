/-! the state but for what is scratch; what is kept; a search sees little -/
/-- the same but for the finder's picks, the way, its digits and the machines' times -/
def ES (σ σ' : sT) : Prop := σ'.2.1 = σ.2.1 ∧ (∀ t, t ≠ 12 → t ≠ 14 → σ'.1 t = σ.1 t) ∧ ∀ t, t ≠ 9 → t ≠ 11 → σ'.2.2 t = σ.2.2 t
def WS (G : hG) (h : hp) (A : aT) (σ : sT) : Prop := ∃ σ', ES σ σ' ∧ W9 G h A σ'
section ESA
variable {σ σ' σ'' : sT}
theorem ES.rf : ES σ σ := ⟨rfl, fun _ _ _ => rfl, fun _ _ _ => rfl⟩
theorem ES.tr (a : ES σ σ') (b : ES σ' σ'') : ES σ σ'' := ⟨b.1.trans a.1, fun t p q => (b.2.1 t p q).trans (a.2.1 t p q), fun t p q => (b.2.2 t p q).trans (a.2.2 t p q)⟩
theorem ES.sI {t i : Nat} {f : Nat → Int32} (a : ES σ σ') (ht : t = 12 ∨ t = 14) : ES σ (setI σ' t i f) := by
  refine ⟨a.1, fun u p q => ?_, a.2.2⟩
  rw [← a.2.1 u p q]
  funext j
  exact setI_n (Or.inl (by omega))
theorem ES.sO {t i : Nat} {g : Nat → Option Nat} (a : ES σ σ') (ht : t = 9 ∨ t = 11) : ES σ (setO σ' t i g) := by
  refine ⟨a.1, a.2.1, fun u p q => ?_⟩
  rw [← a.2.2 u p q]
  funext j
  exact setO_n (Or.inl (by omega))
theorem ES.al {gw gf : Nat → Option Nat} {tk : Nat → Int32} (a : ES σ σ') : ES σ (sAl σ' gw tk gf) := ((a.sO (t := 11) (i := 0) (g := gw) (Or.inr rfl)).sI (t := 12) (i := 0) (f := tk) (Or.inl rfl)).sO (Or.inl rfl)
theorem ES.np (e : ES σ σ') : npk σ' = npk σ := by unfold npk; rw [e.1]
theorem ES.nt (e : ES σ σ') : nts σ' = nts σ := by unfold nts; rw [e.1]
theorem ES.nr (e : ES σ σ') : nrl σ' = nrl σ := by unfold nrl; rw [e.1]
theorem ES.rn (e : ES σ σ') (p : Nat) : rnp σ' p = rnp σ p := by unfold rnp; rw [e.1]
theorem ES.ix (e : ES σ σ') (p j : Nat) : ixp σ' p j = ixp σ p j := by unfold ixp; rw [e.1]
theorem ES.I (e : ES σ σ') (t : Nat) (h : (decide (t ≠ 12) && decide (t ≠ 14)) = true) : σ'.1 t = σ.1 t := e.2.1 t (by simp at h; exact h.1) (by simp at h; exact h.2)
theorem ES.O (e : ES σ σ') (t : Nat) (h : (decide (t ≠ 9) && decide (t ≠ 11)) = true) : σ'.2.2 t = σ.2.2 t := e.2.2 t (by simp at h; exact h.1) (by simp at h; exact h.2)
end ESA
/-! a search sees the versions, what is yanked and the needs of the releases that it meets -/
def SQ (I I' : Nat → Nat → Nat → Int32) (x : Nat) : Prop := I' 40 x 0 = I 40 x 0 ∧ I' 40 x 2 = I 40 x 2 ∧ I' 42 x = I 42 x ∧ I' 43 x = I 43 x
theorem dit_c9 {α : Type} {P P' : Prop} {a a' b b' : α} (hP : P' ↔ P) (ha : P → a' = a) (hb : b' = b) : dit P' a' b' = dit P a b := by
  by_cases q : P
  · rw [dit_t q, dit_t (hP.mpr q), ha q]
  · rw [dit_f q, dit_f (fun z => q (hP.mp z)), hb]
theorem fS_c9 {α : Type} {F F' : Nat → Option α} : ∀ (n : Nat), (∀ i, i < n → F' i = F i) → fS F' n = fS F n
  | 0, _ => rfl
  | n + 1, h => by
    have h1 := fS_c9 n (fun i hi => h i (by omega))
    have h2 := h n (Nat.lt_succ_self n)
    cases e : F n with
    | some x => rw [fS_t e, fS_t (h2.trans e)]
    | none => rw [fS_f e, fS_f (h2.trans e), h1]
theorem rchd_c9 {I I' : Nat → Nat → Nat → Int32} {gr : Nat → Int32} {g : Nat → Option Nat} {k : Nat} (hg : ∀ a x, g a = some x → SQ I I' x) : rchd I' gr g k ↔ rchd I gr g k := by
  unfold rchd
  constructor
  · rintro (q | ⟨a, x, h1, h2, h3, h4⟩)
    · exact Or.inl q
    · exact Or.inr ⟨a, x, h1, h2, h3, by rw [← (hg a x h3).2.2.2]; exact h4⟩
  · rintro (q | ⟨a, x, h1, h2, h3, h4⟩)
    · exact Or.inl q
    · exact Or.inr ⟨a, x, h1, h2, h3, by rw [(hg a x h3).2.2.2]; exact h4⟩
theorem admd_c9 {I I' : Nat → Nat → Nat → Int32} {le gr : Nat → Int32} {g : Nat → Option Nat} {k r : Nat} (hg : ∀ a x, g a = some x → SQ I I' x) (hr : SQ I I' r) : admd I' le gr g k r ↔ admd I le gr g k r := by
  unfold admd
  rw [hr.1, hr.2.1]
  constructor
  · rintro ⟨h1, h2, h3⟩
    exact ⟨h1, h2, fun a x p q e => by rw [← (hg a x e).2.2.1, ← (hg a x e).2.2.2]; exact h3 a x p q e⟩
  · rintro ⟨h1, h2, h3⟩
    exact ⟨h1, h2, fun a x p q e => by rw [(hg a x e).2.2.1, (hg a x e).2.2.2]; exact h3 a x p q e⟩
theorem srch_cg {I I' : Nat → Nat → Nat → Int32} {N N' : Nat → Nat → Nat → Nat} {le gr : Nat → Int32} : ∀ (k : Nat) (g : Nat → Option Nat), (∀ j, j < k → N' 201 j 0 = N 201 j 0 ∧ ∀ i, i < N 201 j 0 → N' 202 j i = N 202 j i ∧ SQ I I' (N 202 j i)) → (∀ a x, g a = some x → SQ I I' x) → srch I' N' le gr k g = srch I N le gr k g
  | 0, _, _, _ => rfl
  | k + 1, g, hN, hg => by
    have h1 := srch_cg (le := le) (gr := gr) k g (fun j hj => hN j (by omega)) hg
    obtain ⟨h2, h3⟩ := hN k (Nat.lt_succ_self k)
    show dit (rchd I' gr g k) (fS (fun i => dit (admd I' le gr g k (N' 202 k i)) (srch I' N' le gr k (va_up g k (some (N' 202 k i)))) none) (N' 201 k 0)) (srch I' N' le gr k g) = dit (rchd I gr g k) (fS (fun i => dit (admd I le gr g k (N 202 k i)) (srch I N le gr k (va_up g k (some (N 202 k i)))) none) (N 201 k 0)) (srch I N le gr k g)
    refine dit_c9 (rchd_c9 hg) (fun _ => ?_) h1
    rw [h2]
    refine fS_c9 _ (fun i hi => ?_)
    obtain ⟨h4, h5⟩ := h3 i hi
    show dit (admd I' le gr g k (N' 202 k i)) _ none = dit (admd I le gr g k (N 202 k i)) _ none
    rw [h4]
    refine dit_c9 (admd_c9 hg h5) (fun _ => ?_) rfl
    refine srch_cg k _ (fun j hj => hN j (by omega)) (fun a x e => ?_)
    by_cases q : a = k
    · subst q
      rw [va_up_self] at e
      cases e
      exact h5
    · rw [va_up_ne _ _ q] at e
      exact hg a x e
theorem fS_ex {α : Type} {F : Nat → Option α} {y : α} : ∀ (n : Nat), fS F n = some y → ∃ i, i < n ∧ F i = some y
  | 0, h => by cases h
  | n + 1, h => by
    cases e : F n with
    | some x =>
      rw [fS_t e] at h
      exact ⟨n, Nat.lt_succ_self n, e.trans h⟩
    | none =>
      rw [fS_f e] at h
      obtain ⟨i, h1, h2⟩ := fS_ex n h
      exact ⟨i, by omega, h2⟩
theorem dit_ex {α : Type} {P : Prop} {a : Option α} {y : α} (h : dit P a none = some y) : P ∧ a = some y := by
  by_cases q : P
  · exact ⟨q, by rwa [dit_t q] at h⟩
  · rw [dit_f q] at h; cases h
/-- what a choice has -/
theorem srch_pk {I : Nat → Nat → Nat → Int32} {N : Nat → Nat → Nat → Nat} {le gr : Nat → Int32} : ∀ (k : Nat) (g g' : Nat → Option Nat), srch I N le gr k g = some g' → (∀ j, k ≤ j → g' j = g j) ∧ ∀ j, j < k → ∀ x, g' j = some x → g j = some x ∨ (I 40 x 2 = 0 ∧ ∃ i, i < N 201 j 0 ∧ x = N 202 j i)
  | 0, g, g', h => by cases h; exact ⟨fun _ _ => rfl, fun j hj => absurd hj (Nat.not_lt_zero j)⟩
  | k + 1, g, g', h => by
    by_cases hr : rchd I gr g k
    · have e1 : fS (fun i => dit (admd I le gr g k (N 202 k i)) (srch I N le gr k (va_up g k (some (N 202 k i)))) none) (N 201 k 0) = some g' := (dit_t hr).symm.trans h
      obtain ⟨i, hi, e2⟩ := fS_ex _ e1
      obtain ⟨ha, e3⟩ := dit_ex e2
      obtain ⟨h1, h2⟩ := srch_pk k _ _ e3
      have ek : g' k = some (N 202 k i) := (h1 k (Nat.le_refl k)).trans (va_up_self _ _ _)
      refine ⟨fun j hj => (h1 j (by omega)).trans (va_up_ne _ _ (by omega)), fun j hj x hx => ?_⟩
      by_cases ej : j = k
      · subst ej
        rw [ek] at hx
        cases hx
        exact Or.inr ⟨ha.1, i, hi, rfl⟩
      · rcases h2 j (by omega) x hx with q | q
        · exact Or.inl (by rw [va_up_ne _ _ ej] at q; exact q)
        · exact Or.inr q
    · have e1 : srch I N le gr k g = some g' := (dit_f hr).symm.trans h
      obtain ⟨h1, h2⟩ := srch_pk k _ _ e1
      refine ⟨fun j hj => h1 j (by omega), fun j hj x hx => ?_⟩
      by_cases ej : j = k
      · subst ej
        exact Or.inl (by rw [← h1 j (Nat.le_refl j)]; exact hx)
      · exact h2 j (by omega) x hx
