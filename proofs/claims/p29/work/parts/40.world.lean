/-! THE WORLD: every cell of the class, and the rows of the law, by a tag and a number; what lies in it -/
abbrev sT : Type := (Nat → Nat → Nat → Int32) × (Nat → Nat → Nat → Nat) × (Nat → Nat → Nat → Option Nat)
abbrev aT : Type := Nat → Nat → Nat
def npk (σ : sT) : Nat := σ.2.1 200 0 0
def nts (σ : sT) : Nat := σ.2.1 200 0 1
def nrl (σ : sT) : Nat := σ.2.1 200 0 2
def rnp (σ : sT) (p : Nat) : Nat := σ.2.1 201 p 0
def ixp (σ : sT) (p j : Nat) : Nat := σ.2.1 202 p j
/-- the cell of a tag and a number, by its own row of the state -/
def CB (A : aT) (f : Nat → Int32) (c : Nat → Nat) (g : Nat → Option Nat) (t i : Nat) : hE := match t with
  | 0 => oB 12 [.ref (A 1 0), .ref (A 3 0), .ref (A 5 0), .ref (A 7 0), .ref (A 13 0), .ref (A 14 0), .int (f 0), .int (f 1), .int (f 2), .int (f 3)]
  | 1 => oB 2 [.int (f 0), .ref (c 0), .int (f 1)]
  | 2 => aR tObj (c 0) g
  | 3 => oB 2 [.int (f 0), .ref (c 0), .int (f 1)]
  | 4 => aR tObj (c 0) g
  | 5 => oB 2 [.int (f 0), .ref (c 0), .int (f 1)]
  | 6 => aR tObj (c 0) g
  | 7 => oB 5 [.ref (A 8 0), .ref (A 10 0), .ref (A 12 0)]
  | 8 => oB 4 [.ref (A 9 0)]
  | 9 => aR tRel 6 (fun j => (g j).map (A 40))
  | 10 => oB 4 [.ref (A 11 0)]
  | 11 => aR tRel 6 (fun j => (g j).map (A 40))
  | 12 => aI 6 f
  | 13 => aI 3 f
  | 14 => aI 4 f
  | 20 => oB 7 [.int (f 0), .ref (A 21 i), .ref (A 25 i), .ref (A 27 i), .ref (A 34 i)]
  | 21 => oB 9 [.int (f 0), .int (f 1), .ref (A 22 i)]
  | 22 => oB 6 [.ref (A 23 i), .ref (A 24 i)]
  | 23 => aI 6 f
  | 24 => aI 6 f
  | 25 => oB 3 [.int (f 0), .int (f 1), .int (f 2), .ref (A 26 i)]
  | 26 => aI 6 f
  | 27 => oB 11 [.int (f 0), .ref (A 28 i), .ref (A 32 i)]
  | 28 => oB 9 [.int (f 0), .int (f 1), .ref (A 29 i)]
  | 29 => oB 6 [.ref (A 30 i), .ref (A 31 i)]
  | 30 => aI 6 f
  | 31 => aI 6 f
  | 32 => oB 4 [.ref (A 33 i)]
  | 33 => aR tRel 6 (fun j => (g j).map (A 40))
  | 34 => oB 2 [.int (f 0), .ref (c 0), .int (f 1)]
  | 35 => aR tObj (c 0) g
  | 40 => oB 8 [.int (f 0), .int (f 1), .ref (A 41 i), .ref (A 44 i), .int (f 2)]
  | 41 => oB 6 [.ref (A 42 i), .ref (A 43 i)]
  | 42 => aI 6 f
  | 43 => aI 6 f
  | 44 => oB 4 [.ref (A 45 i)]
  | 45 => aR tRel 6 (fun j => (g j).map (A 40))
  | 50 => oB 10 [.int (f 0), .int (f 1), .int (f 2), .ref (A 51 i), .int (f 3)]
  | 51 => aZ 8 f
  | 60 => aR (.array .int) 20 (fun j => if j < 20 then some (A 61 j) else none)
  | 61 => aI 3 f
  | _ => hE0
/-- which cells there are -/
def vd (σ : sT) (t i : Nat) : Prop := match t with
  | 0 => i = 0
  | 1 => i = 0
  | 2 => i = 0 ∧ 0 < npk σ
  | 3 => i = 0
  | 4 => i = 0 ∧ 0 < nts σ
  | 5 => i = 0
  | 6 => i = 0 ∧ 0 < nrl σ
  | 7 => i = 0
  | 8 => i = 0
  | 9 => i = 0
  | 10 => i = 0
  | 11 => i = 0
  | 12 => i = 0
  | 13 => i = 0
  | 14 => i = 0
  | 20 => i < npk σ
  | 21 => i < npk σ
  | 22 => i < npk σ
  | 23 => i < npk σ
  | 24 => i < npk σ
  | 25 => i < npk σ
  | 26 => i < npk σ
  | 27 => i < npk σ
  | 28 => i < npk σ
  | 29 => i < npk σ
  | 30 => i < npk σ
  | 31 => i < npk σ
  | 32 => i < npk σ
  | 33 => i < npk σ
  | 34 => i < npk σ
  | 35 => i < npk σ ∧ 0 < rnp σ i
  | 40 => i < nrl σ
  | 41 => i < nrl σ
  | 42 => i < nrl σ
  | 43 => i < nrl σ
  | 44 => i < nrl σ
  | 45 => i < nrl σ
  | 50 => i < nts σ
  | 51 => i < nts σ
  | 60 => i = 0
  | 61 => i < 20
  | _ => False
def b01 (x : Int32) : Prop := x = 0 ∨ x = 1
/-- a list: its object (lt), its row (dt), how many, what -/
def LI (G : hG) (A : aT) (σ : sT) (lt dt i n : Nat) (F : Nat → Nat) : Prop := σ.1 lt i 1 = nI n ∧ (n = 0 → σ.2.1 lt i 0 = G.2.2) ∧ (0 < n → σ.2.1 lt i 0 = A dt i ∧ n ≤ σ.2.1 dt i 0 ∧ eC (σ.2.1 dt i 0) ∧ ∀ j, j < n → σ.2.2 dt i j = some (F j))
def pkB (σ : sT) (g : Nat → Option Nat) : Prop := ∀ j r, g j = some r → r < nrl σ
/-- what holds of the counts, of picks and of what is true or false -/
def IV (σ : sT) : Prop := npk σ ≤ 6 ∧ nts σ ≤ 8 ∧ nrl σ ≤ 20 ∧ (∀ p, p < npk σ → rnp σ p ≤ nrl σ ∧ ∀ j, j < rnp σ p → ixp σ p j < nrl σ) ∧
  pkB σ (σ.2.2 9 0) ∧ pkB σ (σ.2.2 11 0) ∧ (∀ p, p < npk σ → pkB σ (σ.2.2 33 p)) ∧ (∀ r, r < nrl σ → pkB σ (σ.2.2 45 r)) ∧
  (∀ p, p < npk σ → b01 (σ.1 27 p 0) ∧ b01 (σ.1 25 p 0)) ∧ (∀ r, r < nrl σ → b01 (σ.1 40 r 2)) ∧ (∀ t, t < nts σ → b01 (σ.1 50 t 2) ∧ bF (σ.1 51 t))
def W9 (G : hG) (h : hp) (A : aT) (σ : sT) : Prop := (∀ t i, vd σ t i → h (A t i) = some (CB A (σ.1 t i) (σ.2.1 t i) (σ.2.2 t i) t i)) ∧ (∀ t i, vd σ t i → A t i ≠ G.2.2 ∧ ∀ u j, vd σ u j → A t i = A u j → t = u ∧ i = j) ∧ h G.2.2 = some hE0 ∧
  (LI G A σ 1 2 0 (npk σ) (A 20) ∧ LI G A σ 3 4 0 (nts σ) (A 50) ∧ LI G A σ 5 6 0 (nrl σ) (A 40) ∧ ∀ p, p < npk σ → LI G A σ 34 35 p (rnp σ p) (fun j => A 40 (ixp σ p j))) ∧ IV σ
section W9A
variable {G : hG} {h : hp} {A : aT} {σ : sT}
theorem W9.c0 (H : W9 G h A σ) : h (A 0 0) = some (oB 12 [.ref (A 1 0), .ref (A 3 0), .ref (A 5 0), .ref (A 7 0), .ref (A 13 0), .ref (A 14 0), .int (σ.1 0 0 0), .int (σ.1 0 0 1), .int (σ.1 0 0 2), .int (σ.1 0 0 3)]) := H.1 0 0 rfl
theorem W9.c1 (H : W9 G h A σ) : h (A 1 0) = some (oB 2 [.int (σ.1 1 0 0), .ref (σ.2.1 1 0 0), .int (σ.1 1 0 1)]) := H.1 1 0 rfl
theorem W9.c2 (H : W9 G h A σ) (hv : 0 < npk σ) : h (A 2 0) = some (aR tObj (σ.2.1 2 0 0) (σ.2.2 2 0)) := H.1 2 0 ⟨rfl, hv⟩
theorem W9.c3 (H : W9 G h A σ) : h (A 3 0) = some (oB 2 [.int (σ.1 3 0 0), .ref (σ.2.1 3 0 0), .int (σ.1 3 0 1)]) := H.1 3 0 rfl
theorem W9.c4 (H : W9 G h A σ) (hv : 0 < nts σ) : h (A 4 0) = some (aR tObj (σ.2.1 4 0 0) (σ.2.2 4 0)) := H.1 4 0 ⟨rfl, hv⟩
theorem W9.c5 (H : W9 G h A σ) : h (A 5 0) = some (oB 2 [.int (σ.1 5 0 0), .ref (σ.2.1 5 0 0), .int (σ.1 5 0 1)]) := H.1 5 0 rfl
theorem W9.c6 (H : W9 G h A σ) (hv : 0 < nrl σ) : h (A 6 0) = some (aR tObj (σ.2.1 6 0 0) (σ.2.2 6 0)) := H.1 6 0 ⟨rfl, hv⟩
theorem W9.c7 (H : W9 G h A σ) : h (A 7 0) = some (oB 5 [.ref (A 8 0), .ref (A 10 0), .ref (A 12 0)]) := H.1 7 0 rfl
theorem W9.c8 (H : W9 G h A σ) : h (A 8 0) = some (oB 4 [.ref (A 9 0)]) := H.1 8 0 rfl
theorem W9.c9 (H : W9 G h A σ) : h (A 9 0) = some (aR tRel 6 (fun j => (σ.2.2 9 0 j).map (A 40))) := H.1 9 0 rfl
theorem W9.c10 (H : W9 G h A σ) : h (A 10 0) = some (oB 4 [.ref (A 11 0)]) := H.1 10 0 rfl
theorem W9.c11 (H : W9 G h A σ) : h (A 11 0) = some (aR tRel 6 (fun j => (σ.2.2 11 0 j).map (A 40))) := H.1 11 0 rfl
theorem W9.c12 (H : W9 G h A σ) : h (A 12 0) = some (aI 6 (σ.1 12 0)) := H.1 12 0 rfl
theorem W9.c13 (H : W9 G h A σ) : h (A 13 0) = some (aI 3 (σ.1 13 0)) := H.1 13 0 rfl
theorem W9.c14 (H : W9 G h A σ) : h (A 14 0) = some (aI 4 (σ.1 14 0)) := H.1 14 0 rfl
theorem W9.c20 (H : W9 G h A σ) {i : Nat} (hv : i < npk σ) : h (A 20 i) = some (oB 7 [.int (σ.1 20 i 0), .ref (A 21 i), .ref (A 25 i), .ref (A 27 i), .ref (A 34 i)]) := H.1 20 i hv
theorem W9.c21 (H : W9 G h A σ) {i : Nat} (hv : i < npk σ) : h (A 21 i) = some (oB 9 [.int (σ.1 21 i 0), .int (σ.1 21 i 1), .ref (A 22 i)]) := H.1 21 i hv
theorem W9.c22 (H : W9 G h A σ) {i : Nat} (hv : i < npk σ) : h (A 22 i) = some (oB 6 [.ref (A 23 i), .ref (A 24 i)]) := H.1 22 i hv
theorem W9.c23 (H : W9 G h A σ) {i : Nat} (hv : i < npk σ) : h (A 23 i) = some (aI 6 (σ.1 23 i)) := H.1 23 i hv
theorem W9.c24 (H : W9 G h A σ) {i : Nat} (hv : i < npk σ) : h (A 24 i) = some (aI 6 (σ.1 24 i)) := H.1 24 i hv
theorem W9.c25 (H : W9 G h A σ) {i : Nat} (hv : i < npk σ) : h (A 25 i) = some (oB 3 [.int (σ.1 25 i 0), .int (σ.1 25 i 1), .int (σ.1 25 i 2), .ref (A 26 i)]) := H.1 25 i hv
theorem W9.c26 (H : W9 G h A σ) {i : Nat} (hv : i < npk σ) : h (A 26 i) = some (aI 6 (σ.1 26 i)) := H.1 26 i hv
theorem W9.c27 (H : W9 G h A σ) {i : Nat} (hv : i < npk σ) : h (A 27 i) = some (oB 11 [.int (σ.1 27 i 0), .ref (A 28 i), .ref (A 32 i)]) := H.1 27 i hv
theorem W9.c28 (H : W9 G h A σ) {i : Nat} (hv : i < npk σ) : h (A 28 i) = some (oB 9 [.int (σ.1 28 i 0), .int (σ.1 28 i 1), .ref (A 29 i)]) := H.1 28 i hv
theorem W9.c29 (H : W9 G h A σ) {i : Nat} (hv : i < npk σ) : h (A 29 i) = some (oB 6 [.ref (A 30 i), .ref (A 31 i)]) := H.1 29 i hv
theorem W9.c30 (H : W9 G h A σ) {i : Nat} (hv : i < npk σ) : h (A 30 i) = some (aI 6 (σ.1 30 i)) := H.1 30 i hv
theorem W9.c31 (H : W9 G h A σ) {i : Nat} (hv : i < npk σ) : h (A 31 i) = some (aI 6 (σ.1 31 i)) := H.1 31 i hv
theorem W9.c32 (H : W9 G h A σ) {i : Nat} (hv : i < npk σ) : h (A 32 i) = some (oB 4 [.ref (A 33 i)]) := H.1 32 i hv
theorem W9.c33 (H : W9 G h A σ) {i : Nat} (hv : i < npk σ) : h (A 33 i) = some (aR tRel 6 (fun j => (σ.2.2 33 i j).map (A 40))) := H.1 33 i hv
theorem W9.c34 (H : W9 G h A σ) {i : Nat} (hv : i < npk σ) : h (A 34 i) = some (oB 2 [.int (σ.1 34 i 0), .ref (σ.2.1 34 i 0), .int (σ.1 34 i 1)]) := H.1 34 i hv
theorem W9.c35 (H : W9 G h A σ) {i : Nat} (hv : i < npk σ ∧ 0 < rnp σ i) : h (A 35 i) = some (aR tObj (σ.2.1 35 i 0) (σ.2.2 35 i)) := H.1 35 i hv
theorem W9.c40 (H : W9 G h A σ) {i : Nat} (hv : i < nrl σ) : h (A 40 i) = some (oB 8 [.int (σ.1 40 i 0), .int (σ.1 40 i 1), .ref (A 41 i), .ref (A 44 i), .int (σ.1 40 i 2)]) := H.1 40 i hv
theorem W9.c41 (H : W9 G h A σ) {i : Nat} (hv : i < nrl σ) : h (A 41 i) = some (oB 6 [.ref (A 42 i), .ref (A 43 i)]) := H.1 41 i hv
theorem W9.c42 (H : W9 G h A σ) {i : Nat} (hv : i < nrl σ) : h (A 42 i) = some (aI 6 (σ.1 42 i)) := H.1 42 i hv
theorem W9.c43 (H : W9 G h A σ) {i : Nat} (hv : i < nrl σ) : h (A 43 i) = some (aI 6 (σ.1 43 i)) := H.1 43 i hv
theorem W9.c44 (H : W9 G h A σ) {i : Nat} (hv : i < nrl σ) : h (A 44 i) = some (oB 4 [.ref (A 45 i)]) := H.1 44 i hv
theorem W9.c45 (H : W9 G h A σ) {i : Nat} (hv : i < nrl σ) : h (A 45 i) = some (aR tRel 6 (fun j => (σ.2.2 45 i j).map (A 40))) := H.1 45 i hv
theorem W9.c50 (H : W9 G h A σ) {i : Nat} (hv : i < nts σ) : h (A 50 i) = some (oB 10 [.int (σ.1 50 i 0), .int (σ.1 50 i 1), .int (σ.1 50 i 2), .ref (A 51 i), .int (σ.1 50 i 3)]) := H.1 50 i hv
theorem W9.c51 (H : W9 G h A σ) {i : Nat} (hv : i < nts σ) : h (A 51 i) = some (aZ 8 (σ.1 51 i)) := H.1 51 i hv
theorem W9.c60 (H : W9 G h A σ) : h (A 60 0) = some (aR (.array .int) 20 (fun j => if j < 20 then some (A 61 j) else none)) := H.1 60 0 rfl
theorem W9.c61 (H : W9 G h A σ) {i : Nat} (hv : i < 20) : h (A 61 i) = some (aI 3 (σ.1 61 i)) := H.1 61 i hv
end W9A
