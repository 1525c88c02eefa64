/-! the world grows -/
section GRW
variable {G : hG} {h h' h1 h2 : hp} {A A' : aT} {σ σ' : sT}
theorem W9.gr (H : W9 G h A σ) (hG : h' G.2.2 = some hE0)
    (hn : ∀ t i, vd σ' t i → (vd σ t i ∧ A' t i = A t i ∧ h' (A t i) = some (CB A' (σ'.1 t i) (σ'.2.1 t i) (σ'.2.2 t i) t i)) ∨ (h (A' t i) = none ∧ A' t i ≠ G.2.2 ∧ h' (A' t i) = some (CB A' (σ'.1 t i) (σ'.2.1 t i) (σ'.2.2 t i) t i)))
    (hj : ∀ t i u j, vd σ' t i → vd σ' u j → h (A' t i) = none → A' t i = A' u j → t = u ∧ i = j)
    (hL : LI G A' σ' 1 2 0 (npk σ') (A' 20) ∧ LI G A' σ' 3 4 0 (nts σ') (A' 50) ∧ LI G A' σ' 5 6 0 (nrl σ') (A' 40) ∧ ∀ p, p < npk σ' → LI G A' σ' 34 35 p (rnp σ' p) (fun j => A' 40 (ixp σ' p j))) (hI : IV σ') : W9 G h' A' σ' := by
  refine ⟨fun t i hv => ?_, fun t i hv => ⟨?_, fun u j hu e => ?_⟩, hG, hL, hI⟩
  · rcases hn t i hv with ⟨-, e, q⟩ | ⟨-, -, q⟩
    · rw [e]; exact q
    · exact q
  · rcases hn t i hv with ⟨hv0, e, -⟩ | ⟨-, q, -⟩
    · rw [e]; exact (H.2.1 t i hv0).1
    · exact q
  · rcases hn t i hv with ⟨hv0, e1, -⟩ | ⟨q, -, -⟩
    · rcases hn u j hu with ⟨hu0, e2, -⟩ | ⟨q, -, -⟩
      · rw [e1, e2] at e
        exact (H.2.1 t i hv0).2 u j hu0 e
      · obtain ⟨a, b⟩ := hj u j t i hu hv q e.symm
        exact ⟨a.symm, b.symm⟩
    · exact hj t i u j hv hu q e
/-- the cells that hold picks -/
def CEQ (t : Nat) : Prop := t = 9 ∨ t = 11 ∨ t = 33 ∨ t = 45
set_option maxHeartbeats 4000000 in
theorem CB_cg {f : Nat → Int32} {c : Nat → Nat} {g : Nat → Option Nat} {t i : Nat} (k0 : ∀ u, ((u < 20 ∧ u ≠ 2 ∧ u ≠ 4 ∧ u ≠ 6) ∨ 60 ≤ u) → A' u = A u) (kp : 20 ≤ t → t < 40 → ∀ u, 21 ≤ u → u ≤ 34 → A' u i = A u i) (kr : 40 ≤ t → t < 50 → ∀ u, 41 ≤ u → u ≤ 45 → A' u i = A u i) (kt : t = 50 → A' 51 i = A 51 i) (k2 : CEQ t → ∀ j x, g j = some x → A' 40 x = A 40 x) : CB A' f c g t i = CB A f c g t i := by
  have k3 : CEQ t → (fun j => (g j).map (A' 40)) = fun j => (g j).map (A 40) := by
    intro hc
    funext j
    cases e : g j with
    | none => rfl
    | some x => exact congrArg some (k2 hc j x e)
  unfold CB
  split
  · rw [k0 1 (by decide), k0 3 (by decide), k0 5 (by decide), k0 7 (by decide), k0 13 (by decide), k0 14 (by decide)]
  · rfl
  · rfl
  · rfl
  · rfl
  · rfl
  · rfl
  · rw [k0 8 (by decide), k0 10 (by decide), k0 12 (by decide)]
  · rw [k0 9 (by decide)]
  · rw [k3 (by unfold CEQ; decide)]
  · rw [k0 11 (by decide)]
  · rw [k3 (by unfold CEQ; decide)]
  · rfl
  · rfl
  · rfl
  · rw [kp (by decide) (by decide) 21 (by decide) (by decide), kp (by decide) (by decide) 25 (by decide) (by decide), kp (by decide) (by decide) 27 (by decide) (by decide), kp (by decide) (by decide) 34 (by decide) (by decide)]
  · rw [kp (by decide) (by decide) 22 (by decide) (by decide)]
  · rw [kp (by decide) (by decide) 23 (by decide) (by decide), kp (by decide) (by decide) 24 (by decide) (by decide)]
  · rfl
  · rfl
  · rw [kp (by decide) (by decide) 26 (by decide) (by decide)]
  · rfl
  · rw [kp (by decide) (by decide) 28 (by decide) (by decide), kp (by decide) (by decide) 32 (by decide) (by decide)]
  · rw [kp (by decide) (by decide) 29 (by decide) (by decide)]
  · rw [kp (by decide) (by decide) 30 (by decide) (by decide), kp (by decide) (by decide) 31 (by decide) (by decide)]
  · rfl
  · rfl
  · rw [kp (by decide) (by decide) 33 (by decide) (by decide)]
  · rw [k3 (by unfold CEQ; decide)]
  · rfl
  · rfl
  · rw [kr (by decide) (by decide) 41 (by decide) (by decide), kr (by decide) (by decide) 44 (by decide) (by decide)]
  · rw [kr (by decide) (by decide) 42 (by decide) (by decide), kr (by decide) (by decide) 43 (by decide) (by decide)]
  · rfl
  · rfl
  · rw [kr (by decide) (by decide) 45 (by decide) (by decide)]
  · rw [k3 (by unfold CEQ; decide)]
  · rw [kt rfl]
  · rfl
  · rw [k0 61 (by decide)]
  · rfl
  · rfl
theorem vd_T (e1 : npk σ' = npk σ) (e3 : nrl σ' = nrl σ) (e4 : rnp σ' = rnp σ) {t i : Nat} (ht : t ≠ 4 ∧ t ≠ 50 ∧ t ≠ 51) (hv : vd σ' t i) : vd σ t i := by
  unfold vd at hv ⊢
  rw [e1, e3, e4] at hv
  split at hv <;> first | exact hv | exact absurd rfl ht.1 | exact absurd rfl ht.2.1 | exact absurd rfl ht.2.2
theorem LI.cg {lt dt i n : Nat} {F F' : Nat → Nat} (H : LI G A σ lt dt i n F) (e1 : σ'.1 lt i = σ.1 lt i) (e2 : σ'.2.1 lt i = σ.2.1 lt i) (e3 : σ'.2.1 dt i = σ.2.1 dt i) (e4 : σ'.2.2 dt i = σ.2.2 dt i) (e5 : A' dt i = A dt i) (e6 : ∀ j, j < n → F' j = F j) : LI G A' σ' lt dt i n F' := by
  obtain ⟨a, b, c⟩ := H
  refine ⟨by rw [e1]; exact a, fun z => by rw [e2]; exact b z, fun z => ?_⟩
  obtain ⟨c1, c2, c3, c4⟩ := c z
  rw [e2, e3, e4, e5]
  exact ⟨c1, c2, c3, fun j hj => (c4 j hj).trans (congrArg some (e6 j hj).symm)⟩
theorem isLx.kp {l ed cap n : Nat} {mc : Int32} {f : Nat → Nat} {g : Nat → Option Nat} {L : List Nat} (hl : isLx h l ed cap n mc f g) (x : xt G h h1 L []) : isLx h1 l ed cap n mc f g :=
  ⟨x.keep hl.1 List.not_mem_nil, x.keep hl.2.1 List.not_mem_nil, hl.2.2⟩
end GRW
