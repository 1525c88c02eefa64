/-! THE REFERENCE'S WORLD: its cells alone; the class's rows of the state are what they were when its call began -/
def sZ : sT := (fun _ _ _ => 0, fun _ _ _ => 0, fun _ _ _ => none)
theorem vd_M {σ : sT} {t i : Nat} (ht : 60 ≤ t) : vd σ t i ↔ vd sZ t i := by
  unfold vd
  split <;> first | exact Iff.rfl | omega
def WM (G : hG) (h : hp) (A : aT) (σ : sT) : Prop := (∀ t i, 60 ≤ t → vd sZ t i → h (A t i) = some (CB A (σ.1 t i) (σ.2.1 t i) (σ.2.2 t i) t i)) ∧ (∀ t i u j, 60 ≤ t → 60 ≤ u → vd sZ t i → vd sZ u j → A t i = A u j → t = u ∧ i = j) ∧ IV σ
/-- only the reference's cells are written, or new ones made -/
def FM (A : aT) (h h2 : hp) : Prop := ∀ x c, h x = some c → (∀ t i, 60 ≤ t → vd sZ t i → A t i ≠ x) → h2 x = some c
abbrev QSM (G : hG) (h : hp) (A : aT) (v : Value) (σ2 : sT) : Option Value → hp → Prop := fun r h2 => r = some v ∧ WM G h2 A σ2 ∧ FM A h h2
section WMA
variable {G : hG} {h h0 : hp} {A : aT} {σ : sT}
theorem WM.iv (H : WM G h A σ) : IV σ := H.2.2
theorem WM.ne (H : WM G h A σ) {t i u j : Nat} (h1 : vd sZ t i) (h2 : vd sZ u j) (hn : t ≠ u ∨ i ≠ j) (ht : 60 ≤ t := by decide) (hu : 60 ≤ u := by decide) : A t i ≠ A u j := fun e => by
  obtain ⟨e1, e2⟩ := H.2.1 t i u j ht hu h1 h2 e
  rcases hn with q | q
  · exact q e1
  · exact q e2
theorem WM.wI (H : WM G h A σ) {t i : Nat} (hv : vd sZ t i) (ht : 60 ≤ t) {f : Nat → Int32} (hI : IV (setI σ t i f)) {c : hE} (hc : c = CB A f (σ.2.1 t i) (σ.2.2 t i) t i) : WM G (va_up h (A t i) (some c)) A (setI σ t i f) := by
  refine ⟨fun u j h1 h2 => ?_, H.2.1, hI⟩
  by_cases q : u = t ∧ j = i
  · obtain ⟨rfl, rfl⟩ := q
    rw [va_up_self, hc, setI_s]
    rfl
  · have q2 : u ≠ t ∨ j ≠ i := by
      by_cases q3 : u = t
      · exact Or.inr (fun z => q ⟨q3, z⟩)
      · exact Or.inl q3
    rw [va_up_ne _ _ (fun e => q (H.2.1 u j t i h1 ht h2 hv e)), setI_n q2]
    exact H.1 u j h1 h2
theorem FM.rfl' : FM A h h := fun _ _ q _ => q
theorem FM.tr {h1 h2 : hp} (a : FM A h h1) (b : FM A h1 h2) : FM A h h2 := fun x e hx he => b x e (a x e hx he) he
theorem FM.up (F : FM A h0 h) {t i : Nat} (hv : vd sZ t i) (ht : 60 ≤ t) {c : Option hE} : FM A h0 (va_up h (A t i) c) := fun x e hx he => by
  rw [va_up_ne _ _ (fun q => he t i ht hv q.symm)]
  exact F x e hx he
theorem FM.nw (F : FM A h0 h) {a : Nat} {c' : Option hE} (ha : h a = none) : FM A h0 (va_up h a c') := fun x e hx he => by
  have h3 := F x e hx he
  rw [va_up_ne _ _ (fun q => by rw [q, ha] at h3; cases h3)]
  exact h3
theorem WM.wIF (H : WM G h A σ) (F : FM A h0 h) {t i : Nat} (hv : vd sZ t i) (ht : 60 ≤ t) {f : Nat → Int32} (hI : IV (setI σ t i f)) {c : hE} (hc : c = CB A f (σ.2.1 t i) (σ.2.2 t i) t i) : WM G (va_up h (A t i) (some c)) A (setI σ t i f) ∧ FM A h0 (va_up h (A t i) (some c)) :=
  ⟨H.wI hv ht hI hc, F.up hv ht⟩
/-- a new cell beside the world -/
theorem WM.nw (H : WM G h A σ) {a : Nat} {c : hE} (ha : h a = none) : WM G (va_up h a (some c)) A σ := by
  refine ⟨fun u j h1 h2 => ?_, H.2.1, H.2.2⟩
  have hh := H.1 u j h1 h2
  rw [va_up_ne _ _ (fun q => by rw [q, ha] at hh; cases hh)]
  exact hh
theorem WM.c60 (H : WM G h A σ) : h (A 60 0) = some (oB 13 [.ref (A 61 0), .ref (A 62 0), .ref (A 63 0), .ref (A 64 0), .ref (A 65 0), .ref (A 66 0), .ref (A 67 0), .ref (A 68 0), .ref (A 69 0), .ref (A 70 0), .ref (A 71 0), .ref (A 72 0), .ref (A 73 0), .ref (A 74 0), .ref (A 75 0), .ref (A 76 0), .int (σ.1 60 0 0), .ref (A 77 0), .ref (A 78 0), .ref (A 79 0), .ref (A 80 0), .ref (A 81 0), .ref (A 82 0), .ref (A 83 0), .int (σ.1 60 0 1), .ref (A 84 0), .ref (A 85 0), .ref (A 86 0), .ref (A 87 0), .ref (A 88 0), .int (σ.1 60 0 2), .int (σ.1 60 0 3), .ref (A 89 0), .int (σ.1 60 0 4), .int (σ.1 60 0 5), .int (σ.1 60 0 6), .ref (A 90 0), .int (σ.1 60 0 7)]) := H.1 60 0 (by decide) rfl
theorem WM.c61 (H : WM G h A σ) : h (A 61 0) = some (aI 6 (σ.1 61 0)) := H.1 61 0 (by decide) rfl
theorem WM.c62 (H : WM G h A σ) : h (A 62 0) = some (aI 6 (σ.1 62 0)) := H.1 62 0 (by decide) rfl
theorem WM.c63 (H : WM G h A σ) : h (A 63 0) = some (aI 6 (σ.1 63 0)) := H.1 63 0 (by decide) rfl
theorem WM.c64 (H : WM G h A σ) : h (A 64 0) = some (aR (.array .int) 6 (fun j => if j < 6 then some (A 91 j) else none)) := H.1 64 0 (by decide) rfl
theorem WM.c65 (H : WM G h A σ) : h (A 65 0) = some (aR (.array .int) 6 (fun j => if j < 6 then some (A 92 j) else none)) := H.1 65 0 (by decide) rfl
theorem WM.c66 (H : WM G h A σ) : h (A 66 0) = some (aZ 6 (σ.1 66 0)) := H.1 66 0 (by decide) rfl
theorem WM.c67 (H : WM G h A σ) : h (A 67 0) = some (aI 6 (σ.1 67 0)) := H.1 67 0 (by decide) rfl
theorem WM.c68 (H : WM G h A σ) : h (A 68 0) = some (aI 6 (σ.1 68 0)) := H.1 68 0 (by decide) rfl
theorem WM.c69 (H : WM G h A σ) : h (A 69 0) = some (aI 6 (σ.1 69 0)) := H.1 69 0 (by decide) rfl
theorem WM.c70 (H : WM G h A σ) : h (A 70 0) = some (aR (.array .int) 6 (fun j => if j < 6 then some (A 93 j) else none)) := H.1 70 0 (by decide) rfl
theorem WM.c71 (H : WM G h A σ) : h (A 71 0) = some (aZ 6 (σ.1 71 0)) := H.1 71 0 (by decide) rfl
theorem WM.c72 (H : WM G h A σ) : h (A 72 0) = some (aR (.array .int) 6 (fun j => if j < 6 then some (A 94 j) else none)) := H.1 72 0 (by decide) rfl
theorem WM.c73 (H : WM G h A σ) : h (A 73 0) = some (aI 6 (σ.1 73 0)) := H.1 73 0 (by decide) rfl
theorem WM.c74 (H : WM G h A σ) : h (A 74 0) = some (aI 6 (σ.1 74 0)) := H.1 74 0 (by decide) rfl
theorem WM.c75 (H : WM G h A σ) : h (A 75 0) = some (aR (.array .int) 6 (fun j => if j < 6 then some (A 95 j) else none)) := H.1 75 0 (by decide) rfl
theorem WM.c76 (H : WM G h A σ) : h (A 76 0) = some (aR (.array .int) 6 (fun j => if j < 6 then some (A 96 j) else none)) := H.1 76 0 (by decide) rfl
theorem WM.c77 (H : WM G h A σ) : h (A 77 0) = some (aI 20 (σ.1 77 0)) := H.1 77 0 (by decide) rfl
theorem WM.c78 (H : WM G h A σ) : h (A 78 0) = some (aI 20 (σ.1 78 0)) := H.1 78 0 (by decide) rfl
theorem WM.c79 (H : WM G h A σ) : h (A 79 0) = some (aI 20 (σ.1 79 0)) := H.1 79 0 (by decide) rfl
theorem WM.c80 (H : WM G h A σ) : h (A 80 0) = some (aR (.array .int) 20 (fun j => if j < 20 then some (A 97 j) else none)) := H.1 80 0 (by decide) rfl
theorem WM.c81 (H : WM G h A σ) : h (A 81 0) = some (aR (.array .int) 20 (fun j => if j < 20 then some (A 98 j) else none)) := H.1 81 0 (by decide) rfl
theorem WM.c82 (H : WM G h A σ) : h (A 82 0) = some (aR (.array .int) 20 (fun j => if j < 20 then some (A 99 j) else none)) := H.1 82 0 (by decide) rfl
theorem WM.c83 (H : WM G h A σ) : h (A 83 0) = some (aZ 20 (σ.1 83 0)) := H.1 83 0 (by decide) rfl
theorem WM.c84 (H : WM G h A σ) : h (A 84 0) = some (aI 8 (σ.1 84 0)) := H.1 84 0 (by decide) rfl
theorem WM.c85 (H : WM G h A σ) : h (A 85 0) = some (aI 8 (σ.1 85 0)) := H.1 85 0 (by decide) rfl
theorem WM.c86 (H : WM G h A σ) : h (A 86 0) = some (aZ 8 (σ.1 86 0)) := H.1 86 0 (by decide) rfl
theorem WM.c87 (H : WM G h A σ) : h (A 87 0) = some (aR (.array .boolean) 8 (fun j => if j < 8 then some (A 100 j) else none)) := H.1 87 0 (by decide) rfl
theorem WM.c88 (H : WM G h A σ) : h (A 88 0) = some (aI 8 (σ.1 88 0)) := H.1 88 0 (by decide) rfl
theorem WM.c89 (H : WM G h A σ) : h (A 89 0) = some (aI 3 (σ.1 89 0)) := H.1 89 0 (by decide) rfl
theorem WM.c90 (H : WM G h A σ) : h (A 90 0) = some (aI 6 (σ.1 90 0)) := H.1 90 0 (by decide) rfl
theorem WM.c91 (H : WM G h A σ) {i : Nat} (hv : i < 6) : h (A 91 i) = some (aI 6 (σ.1 91 i)) := H.1 91 i (by decide) hv
theorem WM.c92 (H : WM G h A σ) {i : Nat} (hv : i < 6) : h (A 92 i) = some (aI 6 (σ.1 92 i)) := H.1 92 i (by decide) hv
theorem WM.c93 (H : WM G h A σ) {i : Nat} (hv : i < 6) : h (A 93 i) = some (aI 6 (σ.1 93 i)) := H.1 93 i (by decide) hv
theorem WM.c94 (H : WM G h A σ) {i : Nat} (hv : i < 6) : h (A 94 i) = some (aI 6 (σ.1 94 i)) := H.1 94 i (by decide) hv
theorem WM.c95 (H : WM G h A σ) {i : Nat} (hv : i < 6) : h (A 95 i) = some (aI 6 (σ.1 95 i)) := H.1 95 i (by decide) hv
theorem WM.c96 (H : WM G h A σ) {i : Nat} (hv : i < 6) : h (A 96 i) = some (aI 6 (σ.1 96 i)) := H.1 96 i (by decide) hv
theorem WM.c97 (H : WM G h A σ) {i : Nat} (hv : i < 20) : h (A 97 i) = some (aI 6 (σ.1 97 i)) := H.1 97 i (by decide) hv
theorem WM.c98 (H : WM G h A σ) {i : Nat} (hv : i < 20) : h (A 98 i) = some (aI 6 (σ.1 98 i)) := H.1 98 i (by decide) hv
theorem WM.c99 (H : WM G h A σ) {i : Nat} (hv : i < 20) : h (A 99 i) = some (aI 6 (σ.1 99 i)) := H.1 99 i (by decide) hv
theorem WM.c100 (H : WM G h A σ) {i : Nat} (hv : i < 8) : h (A 100 i) = some (aZ 8 (σ.1 100 i)) := H.1 100 i (by decide) hv
end WMA
theorem W9.wm {G : hG} {h : hp} {A : aT} {σ : sT} (H : W9 G h A σ) : WM G h A σ := ⟨fun t i h1 h2 => H.1 t i ((vd_M h1).mpr h2), fun t i u j h1 h2 h3 h4 e => (H.2.1 t i ((vd_M h1).mpr h3)).2 u j ((vd_M h2).mpr h4) e, H.iv⟩
