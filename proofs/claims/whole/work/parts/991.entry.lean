/-! the law's entry -/
def s0 (e : Nat) : sT := (fun t i k => if (t = 0 ∧ i = 0 ∧ k = 0) ∨ (t = 60 ∧ i = 0 ∧ k = 3) then 1 else 0, fun t _ _ => if t = 1 ∨ t = 3 ∨ t = 5 then e else 0, fun _ _ _ => none)
def pos0 (t : Nat) : Nat := if t = 0 then 0 else if t = 1 then 1 else if t = 3 then 2 else if t = 5 then 3 else t - 3
def A0 (L : List Nat) (m : Nat) (A : aT) : aT := fun t i => if 61 ≤ t then A t i else if t = 60 then m else (L[pos0 t]?).getD 0
theorem vd0 {e t i : Nat} (h : vd (s0 e) t i) : (i = 0 ∧ t < 15 ∧ pos0 t < 12 ∧ (t = 0 ∨ t = 1 ∨ t = 3 ∨ t = 5 ∨ 7 ≤ t)) ∨ (t = 60 ∧ i = 0) ∨ (61 ≤ t ∧ vd sZ t i) := by
  by_cases ht : 61 ≤ t
  · exact Or.inr (Or.inr ⟨ht, (vd_M (by omega)).mp h⟩)
  · unfold vd at h
    have n0 : npk (s0 e) = 0 := rfl
    have n1 : nts (s0 e) = 0 := rfl
    have n2 : nrl (s0 e) = 0 := rfl
    rw [n0, n1, n2] at h
    split at h <;> first | omega | exact h.elim | exact Or.inr (Or.inl ⟨rfl, h⟩) | exact Or.inl ⟨h, by decide, by decide, by decide⟩ | exact absurd h.2 (by decide)
theorem REL0 {e : Nat} : REL (s0 e) (fun _ => 0) := by
  refine ⟨⟨⟨rfl, rfl, rfl⟩, ⟨rfl, rfl, rfl, rfl⟩, ⟨1, by decide, by decide, rfl⟩, fun o _ => rfl, fun p hp => absurd hp (Nat.not_lt_zero p)⟩, fun p hp => absurd hp (Nat.not_lt_zero p), fun p hp => absurd hp (Nat.not_lt_zero p), fun p hp => absurd hp (Nat.not_lt_zero p), ⟨⟨fun x hx => absurd hx (Nat.not_lt_zero x), fun q _ => ⟨rfl, fun r hr => absurd hr (Nat.not_lt_zero r)⟩⟩, fun r hr => absurd hr (Nat.not_lt_zero r), fun r s _ hs => absurd hs (Nat.not_lt_zero s)⟩, fun t ht => absurd ht (Nat.not_lt_zero t), fun p _ _ => ⟨rfl, rfl, rfl, rfl, rfl, rfl⟩, fun t _ _ => ⟨rfl, rfl, fun j _ => rfl⟩, fun r _ _ => rfl⟩
theorem IV0 {e : Nat} : IV (s0 e) := ⟨Nat.zero_le _, Nat.zero_le _, Nat.zero_le _, fun p hp => absurd hp (Nat.not_lt_zero p), (by intro j r h; cases h), (by intro j r h; cases h), fun p hp => absurd hp (Nat.not_lt_zero p), fun p hp => absurd hp (Nat.not_lt_zero p), fun p hp => absurd hp (Nat.not_lt_zero p), fun p hp => absurd hp (Nat.not_lt_zero p), fun p hp => absurd hp (Nat.not_lt_zero p)⟩
theorem W90 {G : hG} {h3 h6 : hp} {L : List Nat} {m : Nat} {A : aT} (hnd : L.Nodup) (hlen : L.length = 12) (hd : h6 G.2.2 = some hE0)
    (hc : ∀ t, t < 15 → pos0 t < 12 → (t = 0 ∨ t = 1 ∨ t = 3 ∨ t = 5 ∨ 7 ≤ t) → h6 (A0 L m A t 0) = some (CB (A0 L m A) ((s0 G.2.2).1 t 0) ((s0 G.2.2).2.1 t 0) ((s0 G.2.2).2.2 t 0) t 0) ∧ h3 (A0 L m A t 0) ≠ none ∧ A0 L m A t 0 ≠ G.2.2 ∧ A0 L m A t 0 ≠ m)
    (hm : h6 m = some (CB (A0 L m A) ((s0 G.2.2).1 60 0) ((s0 G.2.2).2.1 60 0) ((s0 G.2.2).2.2 60 0) 60 0)) (hm3 : h3 m ≠ none) (hmd : m ≠ G.2.2)
    (hA : ∀ t i, 61 ≤ t → vd sZ t i → h6 (A t i) = some (CB A z0 (fun _ => 0) zN t i) ∧ h3 (A t i) = none ∧ A t i ≠ G.2.2) (hI : ∀ t i u j, 61 ≤ t → 61 ≤ u → vd sZ t i → vd sZ u j → A t i = A u j → t = u ∧ i = j) : W9 G h6 (A0 L m A) (s0 G.2.2) := by
  have a61 : ∀ t i, 61 ≤ t → A0 L m A t i = A t i := fun t i ht => if_pos ht
  have a60 : ∀ i, A0 L m A 60 i = m := fun i => rfl
  have al : ∀ t i, t < 15 → A0 L m A t i = (L[pos0 t]?).getD 0 := fun t i ht => (if_neg (by omega)).trans (if_neg (by omega))
  refine ⟨fun t i hv => ?_, fun t i hv => ⟨?_, fun u j hu e => ?_⟩, hd, ⟨⟨rfl, fun _ => rfl, fun z => absurd z (Nat.lt_irrefl 0)⟩, ⟨rfl, fun _ => rfl, fun z => absurd z (Nat.lt_irrefl 0)⟩, ⟨rfl, fun _ => rfl, fun z => absurd z (Nat.lt_irrefl 0)⟩, fun p hp => absurd hp (Nat.not_lt_zero p)⟩, IV0⟩
  · rcases vd0 hv with ⟨rfl, h1, h2, h3'⟩ | ⟨rfl, rfl⟩ | ⟨h1, h2⟩
    · exact (hc t h1 h2 h3').1
    · exact hm
    · rw [a61 t i h1, (hA t i h1 h2).1]
      refine congrArg some ?_
      unfold vd at h2
      split at h2 <;> first | omega | exact h2.elim | rfl
  · rcases vd0 hv with ⟨rfl, h1, h2, h3'⟩ | ⟨rfl, rfl⟩ | ⟨h1, h2⟩
    · exact (hc t h1 h2 h3').2.2.1
    · exact hmd
    · rw [a61 t i h1]; exact (hA t i h1 h2).2.2
  · rcases vd0 hv with ⟨rfl, h1, h2, h3'⟩ | ⟨rfl, rfl⟩ | ⟨h1, h2⟩ <;> rcases vd0 hu with ⟨rfl, k1, k2, k3⟩ | ⟨rfl, rfl⟩ | ⟨k1, k2⟩
    · rw [al t 0 h1, al u 0 k1] at e
      have ep := getD_inj L hnd _ _ (by rw [hlen]; exact h2) (by rw [hlen]; exact k2) e
      refine ⟨?_, rfl⟩
      unfold pos0 at ep
      split at ep <;> (try split at ep) <;> (try split at ep) <;> (try split at ep) <;> (try split at ep) <;> (try split at ep) <;> (try split at ep) <;> (try split at ep) <;> omega
    · exact absurd e (hc t h1 h2 h3').2.2.2
    · rw [a61 u j k1] at e
      exact absurd (e ▸ (hA u j k1 k2).2.1) (hc t h1 h2 h3').2.1
    · exact absurd e.symm (hc u k1 k2 k3).2.2.2
    · exact ⟨rfl, rfl⟩
    · rw [a61 u j k1, a60] at e
      exact absurd (e ▸ (hA u j k1 k2).2.1) hm3
    · rw [a61 t i h1] at e
      exact absurd (e.symm ▸ (hA t i h1 h2).2.1) (hc u k1 k2 k3).2.1
    · rw [a61 t i h1, a60] at e
      exact absurd (e ▸ (hA t i h1 h2).2.1) hm3
    · rw [a61 t i h1, a61 u j k1] at e
      exact hI t i u j h1 k1 h2 k2 e
