/-! the reference: the order of the tests -/
/-- how many below n have it -/
noncomputable def cp (P : Nat → Prop) : Nat → Nat
  | 0 => 0
  | k + 1 => cp P k + dit (P k) 1 0
theorem cp_le {P Q : Nat → Prop} : ∀ (n : Nat), (∀ k, k < n → P k → Q k) → cp P n ≤ cp Q n
  | 0, _ => Nat.le_refl _
  | n + 1, h => by
    have ih := cp_le n (fun k hk => h k (by omega))
    unfold cp
    by_cases e : P n
    · rw [dit_t e, dit_t (h n (Nat.lt_succ_self n) e)]; omega
    · rw [dit_f e]; omega
theorem cp_cg {P Q : Nat → Prop} (n : Nat) (h : ∀ k, k < n → (P k ↔ Q k)) : cp P n = cp Q n := Nat.le_antisymm (cp_le n (fun k hk => (h k hk).mp)) (cp_le n (fun k hk => (h k hk).mpr))
theorem cp_lt {P Q : Nat → Prop} {m : Nat} : ∀ (n : Nat), (∀ k, k < n → P k → Q k) → m < n → Q m → ¬ P m → cp P n < cp Q n
  | 0, _, h, _, _ => absurd h (Nat.not_lt_zero m)
  | n + 1, h, hm, hq, hp => by
    have ih := cp_le (P := P) (Q := Q) n (fun k hk => h k (by omega))
    unfold cp
    by_cases em : m = n
    · subst em
      rw [dit_f hp, dit_t hq]; omega
    · have ih2 := cp_lt (P := P) (Q := Q) (m := m) n (fun k hk => h k (by omega)) (by omega) hq hp
      by_cases e : P n
      · rw [dit_t e, dit_t (h n (Nat.lt_succ_self n) e)]; omega
      · rw [dit_f e]; omega
theorem cp_ins {P Q : Nat → Prop} {i : Nat} : ∀ (n : Nat), (∀ k, k < n → (Q k ↔ P k ∨ k = i)) → ¬ P i → i < n → cp Q n = cp P n + 1
  | 0, _, _, hi => absurd hi (Nat.not_lt_zero i)
  | n + 1, h, hp, hi => by
    have hn := h n (Nat.lt_succ_self n)
    unfold cp
    by_cases ei : i = n
    · subst ei
      rw [dit_f hp, dit_t (hn.mpr (Or.inr rfl)), cp_cg (P := Q) (Q := P) i (fun k hk => (h k (by omega)).trans ⟨fun q => q.resolve_right (by omega), Or.inl⟩)]
    · rw [cp_ins (P := P) (Q := Q) n (fun k hk => h k (by omega)) hp (by omega)]
      by_cases e : P n
      · rw [dit_t e, dit_t (hn.mpr (Or.inl e))]
      · rw [dit_f e, dit_f (fun q => (hn.mp q).elim e (fun z => ei z.symm))]
/-- the first from i on that has it -/
noncomputable def ff (P : Nat → Prop) : Nat → Nat → Option Nat
  | _, 0 => none
  | i, k + 1 => dit (P i) (some i) (ff P (i + 1) k)
theorem ff_some {P : Nat → Prop} {t : Nat} : ∀ (k i : Nat), ff P i k = some t → i ≤ t ∧ t < i + k ∧ P t
  | 0, _, h => by cases h
  | k + 1, i, h => by
    unfold ff at h
    by_cases e : P i
    · rw [dit_t e] at h; cases h; exact ⟨Nat.le_refl _, by omega, e⟩
    · rw [dit_f e] at h
      obtain ⟨h1, h2, h3⟩ := ff_some k (i + 1) h
      exact ⟨by omega, by omega, h3⟩
theorem ff_none {P : Nat → Prop} : ∀ (k i : Nat), ff P i k = none → ∀ t, i ≤ t → t < i + k → ¬ P t
  | 0, i, _, t, h1, h2 => by omega
  | k + 1, i, h, t, h1, h2 => by
    unfold ff at h
    by_cases e : P i
    · rw [dit_t e] at h; cases h
    · rw [dit_f e] at h
      by_cases et : t = i
      · rw [et]; exact e
      · exact ff_none k (i + 1) h t (by omega) (by omega)
/-- the only one that has it is found -/
theorem ff_uq {P : Nat → Prop} {n t : Nat} (ht : t < n) (hP : P t) (hu : ∀ s, s < n → P s → s = t) : ff P 0 n = some t := by
  cases e : ff P 0 n with
  | none => exact absurd hP (ff_none n 0 e t (Nat.zero_le _) (by omega))
  | some s =>
    obtain ⟨-, h2, h3⟩ := ff_some n 0 e
    rw [hu s (by omega) h3]
def lnT (I : Nat → Nat → Nat → Int32) (t : Nat) : Nat := (I 50 t 1).toNatClampNeg
/-- k comes ahead of t among the tests of package n -/
def AH (I : Nat → Nat → Nat → Int32) (n : Int32) (t k : Nat) : Prop := I 50 k 0 = n ∧ (lnT I t < lnT I k ∨ (lnT I k = lnT I t ∧ k < t))
noncomputable def sqF (I : Nat → Nat → Nat → Int32) (n : Int32) (nt c : Nat) : Option Nat := ff (fun t => I 50 t 0 = n ∧ cp (AH I n t) nt = c) 0 nt
theorem AH_uq {I : Nat → Nat → Nat → Int32} {n : Int32} {nt t s : Nat} (ht : t < nt) (hs : s < nt) (pt : I 50 t 0 = n) (ps : I 50 s 0 = n) (h : cp (AH I n t) nt = cp (AH I n s) nt) : s = t := by
  refine Classical.byContradiction (fun hne => ?_)
  by_cases hb : lnT I t < lnT I s ∨ (lnT I s = lnT I t ∧ s < t)
  · have := cp_lt (P := AH I n s) (Q := AH I n t) (m := s) nt (fun k _ hk => ⟨hk.1, by have := hk.2; omega⟩) hs ⟨ps, hb⟩ (fun q => by have := q.2; omega)
    omega
  · have := cp_lt (P := AH I n t) (Q := AH I n s) (m := t) nt (fun k _ hk => ⟨hk.1, by have := hk.2; omega⟩) ht ⟨pt, by omega⟩ (fun q => by have := q.2; omega)
    omega
/-- the reference's steps -/
noncomputable def mIt (I : Nat → Nat → Nat → Int32) (M : Nat) (n : Int32) (nt : Nat) : Nat → (Nat → Int32) × Int32
  | 0 => (z0, 0)
  | c + 1 => match sqF I n nt c with
    | some t => plS M (nI (lnT I t)) (mIt I M n nt c)
    | none => mIt I M n nt c
/-- done before test i in the turn of length L -/
def DN (I : Nat → Nat → Nat → Int32) (n : Int32) (L i k : Nat) : Prop := I 50 k 0 = n ∧ (L < lnT I k ∨ (lnT I k = L ∧ k < i))
theorem tIn_it {I : Nat → Nat → Nat → Int32} {M : Nat} {n : Int32} {nt : Nat} (hL : ∀ t, t < nt → 1 ≤ lnT I t ∧ lnT I t ≤ 60 ∧ I 50 t 1 = nI (lnT I t)) {L : Nat} (hL0 : L ≤ 60) {s : (Nat → Int32) × Int32} (hs : s = mIt I M n nt (cp (DN I n L 0) nt)) (ha : ∀ c, c < cp (DN I n L 0) nt → ∃ t, sqF I n nt c = some t) : ∀ (i : Nat), i ≤ nt → tIn I M n (nI L) i s = mIt I M n nt (cp (DN I n L i) nt) ∧ ∀ c, c < cp (DN I n L i) nt → ∃ t, sqF I n nt c = some t
  | 0, _ => ⟨hs, ha⟩
  | i + 1, hi => by
    obtain ⟨ih, iha⟩ := tIn_it hL hL0 hs ha i (by omega)
    have hLi := hL i (by omega)
    unfold tIn
    by_cases e : I 50 i 0 = n ∧ I 50 i 1 = nI L
    · have eL : lnT I i = L := (nI_eq (by omega) (by omega)).mp (hLi.2.2.symm.trans e.2)
      have ec : cp (DN I n L (i + 1)) nt = cp (DN I n L i) nt + 1 := cp_ins (i := i) nt (fun k _ => by
        constructor
        · rintro ⟨h1, h2⟩
          by_cases ek : k = i
          · exact Or.inr ek
          · exact Or.inl ⟨h1, by omega⟩
        · rintro (⟨h1, h2⟩ | rfl)
          · exact ⟨h1, by omega⟩
          · exact ⟨e.1, by omega⟩) (fun q => by have := q.2; omega) (by omega)
      have ea : cp (AH I n i) nt = cp (DN I n L i) nt := cp_cg nt (fun k _ => by unfold AH DN; rw [eL])
      have es : sqF I n nt (cp (DN I n L i) nt) = some i := ff_uq (by omega) ⟨e.1, ea⟩ (fun s hs2 q => AH_uq (by omega) hs2 e.1 q.1 (ea.trans q.2.symm))
      rw [if_pos e, ec, ih]
      refine ⟨?_, fun c hc => ?_⟩
      · show _ = mIt I M n nt (cp (DN I n L i) nt + 1)
        rw [show mIt I M n nt (cp (DN I n L i) nt + 1) = plS M (nI (lnT I i)) (mIt I M n nt (cp (DN I n L i) nt)) from by show (match sqF I n nt (cp (DN I n L i) nt) with | some t => _ | none => _) = _; rw [es], eL]
      · by_cases ecc : c = cp (DN I n L i) nt
        · rw [ecc]; exact ⟨i, es⟩
        · exact iha c (by omega)
    · rw [if_neg e]
      have ec : cp (DN I n L (i + 1)) nt = cp (DN I n L i) nt := cp_cg nt (fun k hk => by
        constructor
        · rintro ⟨h1, h2⟩
          refine ⟨h1, ?_⟩
          by_cases ek : k = i
          · subst ek
            rcases h2 with h2 | h2
            · exact Or.inl h2
            · exact absurd ⟨h1, (hL k (by omega)).2.2.trans (by rw [h2.1])⟩ e
          · omega
        · rintro ⟨h1, h2⟩
          exact ⟨h1, by omega⟩)
      rw [ec]
      exact ⟨ih, iha⟩
theorem tOu_it {I : Nat → Nat → Nat → Int32} {M : Nat} {n : Int32} {nt : Nat} (hL : ∀ t, t < nt → 1 ≤ lnT I t ∧ lnT I t ≤ 60 ∧ I 50 t 1 = nI (lnT I t)) : ∀ (j : Nat), j ≤ 60 → tOu I M n nt j = mIt I M n nt (cp (DN I n (60 - j) 0) nt) ∧ ∀ c, c < cp (DN I n (60 - j) 0) nt → ∃ t, sqF I n nt c = some t
  | 0, _ => by
    have e0 : cp (DN I n (60 - 0) 0) nt = 0 := by
      have : cp (DN I n (60 - 0) 0) nt = cp (fun _ => False) nt := cp_cg nt (fun k hk => ⟨fun q => by have := (hL k hk).2.1; have := q.2; omega, fun q => q.elim⟩)
      rw [this]
      have z : ∀ m, cp (fun _ => False) m = 0 := fun m => by
        induction m with
        | zero => rfl
        | succ m ih => show cp _ m + dit False 1 0 = 0; rw [ih, dit_f (fun q => q)]
      exact z nt
    rw [e0]
    exact ⟨rfl, fun c hc => absurd hc (Nat.not_lt_zero c)⟩
  | j + 1, hj => by
    obtain ⟨ih, iha⟩ := tOu_it hL j (by omega)
    obtain ⟨h1, h2⟩ := tIn_it hL (L := 60 - j) (by omega) ih iha nt (Nat.le_refl nt)
    have ec : cp (DN I n (60 - (j + 1)) 0) nt = cp (DN I n (60 - j) nt) nt := cp_cg nt (fun k hk => by
      unfold DN
      constructor
      · rintro ⟨q1, q2⟩; exact ⟨q1, by omega⟩
      · rintro ⟨q1, q2⟩; exact ⟨q1, by omega⟩)
    rw [ec]
    exact ⟨h1, h2⟩
/-- the reference's steps end where the class's do -/
theorem sq_all {I : Nat → Nat → Nat → Int32} {M : Nat} {n : Int32} {nt : Nat} (hL : ∀ t, t < nt → 1 ≤ lnT I t ∧ lnT I t ≤ 60 ∧ I 50 t 1 = nI (lnT I t)) : ∃ T, T ≤ nt ∧ tOu I M n nt 60 = mIt I M n nt T ∧ (∀ c, c < T → ∃ t, sqF I n nt c = some t) ∧ sqF I n nt T = none := by
  obtain ⟨h1, h2⟩ := tOu_it hL (M := M) (n := n) 60 (Nat.le_refl 60)
  refine ⟨_, ?_, h1, h2, ?_⟩
  · have z : ∀ (P : Nat → Prop) m, cp P m ≤ m := fun P m => by
      induction m with
      | zero => exact Nat.le_refl _
      | succ m ih =>
        show cp P m + dit (P m) 1 0 ≤ m + 1
        by_cases e : P m
        · rw [dit_t e]; omega
        · rw [dit_f e]; omega
    exact z _ nt
  · cases e : sqF I n nt (cp (DN I n (60 - 60) 0) nt) with
    | none => rfl
    | some t =>
      obtain ⟨-, ht, hp, hc⟩ := ff_some nt 0 e
      have := cp_lt (P := AH I n t) (Q := DN I n (60 - 60) 0) (m := t) nt (fun k hk q => ⟨q.1, by have := hL k hk; omega⟩) (by omega) ⟨hp, by have := hL t (by omega); omega⟩ (fun q => by have := q.2; omega)
      omega

