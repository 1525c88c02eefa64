/-! the law's entry -/
def s0 (e : Nat) : sT := (fun t i k => if t = 0 ∧ i = 0 ∧ k = 0 then 1 else 0, fun t _ _ => if t = 1 ∨ t = 3 ∨ t = 5 then e else 0, fun _ _ _ => none)
def pos0 (t : Nat) : Nat := if t = 0 then 0 else if t = 1 then 1 else if t = 3 then 2 else if t = 5 then 3 else t - 3
def A0 (L : List Nat) (m : Nat) (r : Nat → Nat) : aT := fun t i => if t = 61 then r i else if t = 60 then m else (L[pos0 t]?).getD 0
theorem vd0 {e t i : Nat} (h : vd (s0 e) t i) : (i = 0 ∧ t < 15 ∧ pos0 t < 12 ∧ (t = 0 ∨ t = 1 ∨ t = 3 ∨ t = 5 ∨ 7 ≤ t)) ∨ (t = 60 ∧ i = 0) ∨ (t = 61 ∧ i < 20) := by
  unfold vd at h
  have n0 : npk (s0 e) = 0 := rfl
  have n1 : nts (s0 e) = 0 := rfl
  have n2 : nrl (s0 e) = 0 := rfl
  rw [n0, n1, n2] at h
  split at h <;> first | omega | exact h.elim | exact Or.inr (Or.inl ⟨rfl, h⟩) | exact Or.inr (Or.inr ⟨rfl, h⟩) | exact Or.inl ⟨h, by decide, by decide, by decide⟩ | exact absurd h.2 (by decide)
theorem J0 {e : Nat} : J (s0 e) (fun _ => 0) 0 := by
  refine ⟨⟨⟨1, by decide, by decide, rfl⟩, fun o _ => ⟨0, Nat.le_refl _, rfl⟩, fun p hp => absurd hp (Nat.not_lt_zero p)⟩, fun p hp => absurd hp (Nat.not_lt_zero p), ⟨fun x hx => absurd hx (Nat.not_lt_zero x), fun q _ => ⟨rfl, fun r hr => absurd hr (Nat.not_lt_zero r)⟩⟩, ⟨fun r hr => absurd hr (Nat.not_lt_zero r), fun r s _ hs => absurd hs (Nat.not_lt_zero s)⟩, fun t ht => absurd ht (Nat.not_lt_zero t)⟩
theorem JD0 {e : Nat} : JD (s0 e) (fun _ => 0) (nrl (s0 e)) := fun x hx => absurd hx (Nat.not_lt_zero x)
theorem IV0 {e : Nat} : IV (s0 e) := ⟨Nat.zero_le _, Nat.zero_le _, Nat.zero_le _, fun p hp => absurd hp (Nat.not_lt_zero p), (by intro j r h; cases h), (by intro j r h; cases h), fun p hp => absurd hp (Nat.not_lt_zero p), fun p hp => absurd hp (Nat.not_lt_zero p), fun p hp => absurd hp (Nat.not_lt_zero p), fun p hp => absurd hp (Nat.not_lt_zero p), fun p hp => absurd hp (Nat.not_lt_zero p)⟩
theorem W90 {G : hG} {h3 h6 : hp} {L : List Nat} {m : Nat} {r : Nat → Nat} (hnd : L.Nodup) (hlen : L.length = 12) (hd : h6 G.2.2 = some hE0)
    (hc : ∀ t, t < 15 → pos0 t < 12 → (t = 0 ∨ t = 1 ∨ t = 3 ∨ t = 5 ∨ 7 ≤ t) → h6 (A0 L m r t 0) = some (CB (A0 L m r) ((s0 G.2.2).1 t 0) ((s0 G.2.2).2.1 t 0) ((s0 G.2.2).2.2 t 0) t 0) ∧ h3 (A0 L m r t 0) ≠ none ∧ A0 L m r t 0 ≠ G.2.2)
    (hm : h6 m = some (CB (A0 L m r) ((s0 G.2.2).1 60 0) ((s0 G.2.2).2.1 60 0) ((s0 G.2.2).2.2 60 0) 60 0)) (hm3 : h3 m = none) (hmd : m ≠ G.2.2)
    (hr : ∀ i, i < 20 → h6 (r i) = some (aI 3 ((s0 G.2.2).1 61 i)) ∧ h3 (r i) = none ∧ r i ≠ G.2.2 ∧ r i ≠ m) (hI : ∀ i j, i < 20 → j < 20 → r i = r j → i = j) : W9 G h6 (A0 L m r) (s0 G.2.2) := by
  have a61 : ∀ i, A0 L m r 61 i = r i := fun i => rfl
  have a60 : ∀ i, A0 L m r 60 i = m := fun i => rfl
  have al : ∀ t i, t < 15 → A0 L m r t i = (L[pos0 t]?).getD 0 := fun t i ht => (if_neg (by omega)).trans (if_neg (by omega))
  refine ⟨fun t i hv => ?_, fun t i hv => ⟨?_, fun u j hu e => ?_⟩, hd, ⟨⟨rfl, fun _ => rfl, fun z => absurd z (Nat.lt_irrefl 0)⟩, ⟨rfl, fun _ => rfl, fun z => absurd z (Nat.lt_irrefl 0)⟩, ⟨rfl, fun _ => rfl, fun z => absurd z (Nat.lt_irrefl 0)⟩, fun p hp => absurd hp (Nat.not_lt_zero p)⟩, IV0⟩
  · rcases vd0 hv with ⟨rfl, h1, h2, h3'⟩ | ⟨rfl, rfl⟩ | ⟨rfl, h2⟩
    · exact (hc t h1 h2 h3').1
    · exact hm
    · exact (hr i h2).1
  · rcases vd0 hv with ⟨rfl, h1, h2, h3'⟩ | ⟨rfl, rfl⟩ | ⟨rfl, h2⟩
    · exact (hc t h1 h2 h3').2.2
    · exact hmd
    · exact (hr i h2).2.2.1
  · rcases vd0 hv with ⟨rfl, h1, h2, h3'⟩ | ⟨rfl, rfl⟩ | ⟨rfl, h2⟩ <;> rcases vd0 hu with ⟨rfl, k1, k2, k3⟩ | ⟨rfl, rfl⟩ | ⟨rfl, k2⟩
    · rw [al t 0 h1, al u 0 k1] at e
      have ep := getD_inj L hnd _ _ (by rw [hlen]; exact h2) (by rw [hlen]; exact k2) e
      refine ⟨?_, rfl⟩
      unfold pos0 at ep
      split at ep <;> (try split at ep) <;> (try split at ep) <;> (try split at ep) <;> (try split at ep) <;> (try split at ep) <;> (try split at ep) <;> (try split at ep) <;> omega
    · exact absurd (e ▸ hm3) (hc t h1 h2 h3').2.1
    · exact absurd (e ▸ (hr j k2).2.1) (hc t h1 h2 h3').2.1
    · exact absurd (e.symm ▸ hm3) (hc u k1 k2 k3).2.1
    · exact ⟨rfl, rfl⟩
    · exact absurd e.symm (hr j k2).2.2.2
    · exact absurd (e.symm ▸ (hr i h2).2.1) (hc u k1 k2 k3).2.1
    · exact absurd e (hr i h2).2.2.2
    · exact ⟨rfl, hI i j h2 k2 e⟩
