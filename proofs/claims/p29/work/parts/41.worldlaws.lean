/-! laws of the world: its lists, a cell that is written, releases by their places -/
section W9B
variable {G : hG} {h : hp} {A : aT} {σ : sT}
theorem vd_congr {σ' : sT} (e : σ'.2.1 = σ.2.1) (t i : Nat) : vd σ' t i = vd σ t i := by
  obtain ⟨a, b, c⟩ := σ
  obtain ⟨a', b', c'⟩ := σ'
  dsimp only at e
  subst e
  rfl
theorem W9.ne (H : W9 G h A σ) {t i u j : Nat} (h1 : vd σ t i) (h2 : vd σ u j) (hn : t ≠ u ∨ i ≠ j) : A t i ≠ A u j := fun e => by
  obtain ⟨e1, e2⟩ := (H.2.1 t i h1).2 u j h2 e
  rcases hn with q | q
  · exact q e1
  · exact q e2
theorem W9.hd (H : W9 G h A σ) : h G.2.2 = some hE0 := H.2.2.1
theorem W9.iv (H : W9 G h A σ) : IV σ := H.2.2.2.2
/-- a list of the world as a list -/
theorem LI.ex {lt dt i n : Nat} {F : Nat → Nat} (hL : LI G A σ lt dt i n F) (hn : n < 1000) (hd : h G.2.2 = some hE0) (h1 : h (A lt i) = some (oB 2 [.int (σ.1 lt i 0), .ref (σ.2.1 lt i 0), .int (σ.1 lt i 1)])) (h2 : 0 < n → h (A dt i) = some (aR tObj (σ.2.1 dt i 0) (σ.2.2 dt i))) :
    ∃ (cap : Nat) (g : Nat → Option Nat), isLx h (A lt i) (σ.2.1 lt i 0) cap n (σ.1 lt i 0) F g ∧ (n = 0 → cap = 0 ∧ σ.2.1 lt i 0 = G.2.2) ∧ (0 < n → σ.2.1 lt i 0 = A dt i ∧ cap = σ.2.1 dt i 0 ∧ g = σ.2.2 dt i ∧ eC cap) := by
  obtain ⟨e1, e2, e3⟩ := hL
  rw [e1] at h1
  by_cases h0 : n = 0
  · subst h0
    refine ⟨0, fun _ => none, ⟨h1, ?_, Nat.le_refl _, by decide, fun j hj => absurd hj (Nat.not_lt_zero j)⟩, fun _ => ⟨rfl, e2 rfl⟩, fun q => absurd q (Nat.lt_irrefl 0)⟩
    rw [e2 rfl]
    exact hd
  · have hp : 0 < n := Nat.pos_of_ne_zero h0
    obtain ⟨q1, q2, q3, q4⟩ := e3 hp
    have hc : σ.2.1 dt i 0 < 1000 := by
      rcases q3 with q | q | q <;> omega
    refine ⟨σ.2.1 dt i 0, σ.2.2 dt i, ⟨h1, ?_, q2, hc, q4⟩, fun q => absurd q h0, fun _ => ⟨q1, rfl, rfl, q3⟩⟩
    rw [q1]
    exact h2 hp
theorem W9.lp (H : W9 G h A σ) : isL G h (A 1 0) (npk σ) (A 20) := by
  obtain ⟨cap, g, hl, -⟩ := LI.ex H.2.2.2.1.1 (by have := H.iv.1; omega) H.hd H.c1 (fun q => H.c2 q)
  exact hl.L
theorem W9.lt (H : W9 G h A σ) : isL G h (A 3 0) (nts σ) (A 50) := by
  obtain ⟨cap, g, hl, -⟩ := LI.ex H.2.2.2.1.2.1 (by have := H.iv.2.1; omega) H.hd H.c3 (fun q => H.c4 q)
  exact hl.L
theorem W9.lr (H : W9 G h A σ) : isL G h (A 5 0) (nrl σ) (A 40) := by
  obtain ⟨cap, g, hl, -⟩ := LI.ex H.2.2.2.1.2.2.1 (by have := H.iv.2.2.1; omega) H.hd H.c5 (fun q => H.c6 q)
  exact hl.L
theorem W9.rn20 (H : W9 G h A σ) {p : Nat} (hp : p < npk σ) : rnp σ p ≤ 20 := Nat.le_trans (H.iv.2.2.2.1 p hp).1 H.iv.2.2.1
theorem W9.ixl (H : W9 G h A σ) {p j : Nat} (hp : p < npk σ) (hj : j < rnp σ p) : ixp σ p j < nrl σ := (H.iv.2.2.2.1 p hp).2 j hj
theorem W9.lk (H : W9 G h A σ) {p : Nat} (hp : p < npk σ) : isL G h (A 34 p) (rnp σ p) (fun j => A 40 (ixp σ p j)) := by
  obtain ⟨cap, g, hl, -⟩ := LI.ex (H.2.2.2.1.2.2.2 p hp) (by have := H.rn20 hp; omega) H.hd (H.c34 hp) (fun q => H.c35 ⟨hp, q⟩)
  exact hl.L
/-- one cell is written -/
theorem W9.cell (H : W9 G h A σ) {t i : Nat} (hv : vd σ t i) (ht : t ≠ 1 ∧ t ≠ 3 ∧ t ≠ 5 ∧ t ≠ 34 ∧ t ≠ 2 ∧ t ≠ 4 ∧ t ≠ 6 ∧ t ≠ 35) {σ' : sT} (e0 : σ'.2.1 = σ.2.1) (e1 : ∀ u j, (u ≠ t ∨ j ≠ i) → σ'.1 u j = σ.1 u j ∧ σ'.2.2 u j = σ.2.2 u j) {c : hE} (hc : c = CB A (σ'.1 t i) (σ'.2.1 t i) (σ'.2.2 t i) t i) (hI : IV σ') : W9 G (va_up h (A t i) (some c)) A σ' := by
  obtain ⟨a1, a2, a3, ⟨l1, l2, l3, l4⟩, a5⟩ := H
  have hne : A t i ≠ G.2.2 := (a2 t i hv).1
  have LIc : ∀ (lt dt j n : Nat) (F : Nat → Nat), lt ≠ t → dt ≠ t → LI G A σ lt dt j n F → LI G A σ' lt dt j n F := by
    intro lt dt j n F h1 h2 hL
    unfold LI at hL ⊢
    rw [e0, (e1 lt j (Or.inl h1)).1, (e1 dt j (Or.inl h2)).2]
    exact hL
  have en : npk σ' = npk σ ∧ nts σ' = nts σ ∧ nrl σ' = nrl σ ∧ rnp σ' = rnp σ ∧ ixp σ' = ixp σ := by
    unfold npk nts nrl rnp ixp
    rw [e0]
    exact ⟨rfl, rfl, rfl, rfl, rfl⟩
  refine ⟨fun u j hu => ?_, fun u j h1 => ⟨(a2 u j ?_).1, fun w k h2 => (a2 u j ?_).2 w k ?_⟩, ?_, ⟨?_, ?_, ?_, fun p hp => ?_⟩, hI⟩
  · rw [vd_congr e0] at hu
    by_cases q : u = t ∧ j = i
    · obtain ⟨rfl, rfl⟩ := q
      rw [va_up_self, hc]
    · have q2 : u ≠ t ∨ j ≠ i := by
        by_cases q3 : u = t
        · exact Or.inr (fun z => q ⟨q3, z⟩)
        · exact Or.inl q3
      have q4 : A u j ≠ A t i := fun e => q ((a2 u j hu).2 t i hv e)
      rw [va_up_ne _ _ q4, a1 u j hu, e0, (e1 u j q2).1, (e1 u j q2).2]
  · rw [vd_congr e0] at h1; exact h1
  · rw [vd_congr e0] at h1; exact h1
  · rw [vd_congr e0] at h2; exact h2
  · rw [va_up_ne _ _ hne.symm]; exact a3
  · rw [en.1]; exact LIc _ _ _ _ _ ht.1.symm ht.2.2.2.2.1.symm l1
  · rw [en.2.1]; exact LIc _ _ _ _ _ ht.2.1.symm ht.2.2.2.2.2.1.symm l2
  · rw [en.2.2.1]; exact LIc _ _ _ _ _ ht.2.2.1.symm ht.2.2.2.2.2.2.1.symm l3
  · rw [en.2.2.2.1, en.2.2.2.2]
    rw [en.1] at hp
    exact LIc _ _ _ _ _ ht.2.2.2.1.symm ht.2.2.2.2.2.2.2.symm (l4 p hp)
def setI (σ : sT) (t i : Nat) (f : Nat → Int32) : sT := (fun u j => if u = t ∧ j = i then f else σ.1 u j, σ.2)
def setO (σ : sT) (t i : Nat) (g : Nat → Option Nat) : sT := (σ.1, σ.2.1, fun u j => if u = t ∧ j = i then g else σ.2.2 u j)
theorem setI_s (t i : Nat) (f : Nat → Int32) : (setI σ t i f).1 t i = f := by simp [setI]
theorem setO_s (t i : Nat) (g : Nat → Option Nat) : (setO σ t i g).2.2 t i = g := by simp [setO]
theorem setI_n {t i u j : Nat} {f : Nat → Int32} (hn : u ≠ t ∨ j ≠ i) : (setI σ t i f).1 u j = σ.1 u j := by
  unfold setI
  exact if_neg (by rintro ⟨q1, q2⟩; rcases hn with q | q <;> exact q (by assumption))
theorem setO_n {t i u j : Nat} {g : Nat → Option Nat} (hn : u ≠ t ∨ j ≠ i) : (setO σ t i g).2.2 u j = σ.2.2 u j := by
  unfold setO
  exact if_neg (by rintro ⟨q1, q2⟩; rcases hn with q | q <;> exact q (by assumption))
theorem iv_setI (H : IV σ) {t i : Nat} {f : Nat → Int32} (ht : t ≠ 25 ∧ t ≠ 27 ∧ t ≠ 40 ∧ t ≠ 50 ∧ t ≠ 51) : IV (setI σ t i f) := by
  obtain ⟨a1, a2, a3, a4, a5, a6, a7, a8, a9, a10, a11⟩ := H
  refine ⟨a1, a2, a3, a4, a5, a6, a7, a8, fun p hp => ?_, fun r hr => ?_, fun t hr => ?_⟩
  · rw [setI_n (Or.inl ht.2.1.symm), setI_n (Or.inl ht.1.symm)]; exact a9 p hp
  · rw [setI_n (Or.inl ht.2.2.1.symm)]; exact a10 r hr
  · rw [setI_n (Or.inl ht.2.2.2.1.symm), setI_n (Or.inl ht.2.2.2.2.symm)]; exact a11 t hr
theorem iv_setO (H : IV σ) {t i : Nat} {g : Nat → Option Nat} (hg : pkB σ g) : IV (setO σ t i g) := by
  obtain ⟨a1, a2, a3, a4, a5, a6, a7, a8, a9, a10, a11⟩ := H
  have key : ∀ u j, pkB σ (σ.2.2 u j) → pkB (setO σ t i g) ((setO σ t i g).2.2 u j) := by
    intro u j hu
    unfold setO
    dsimp only
    by_cases q : u = t ∧ j = i
    · rw [if_pos q]; exact hg
    · rw [if_neg q]; exact hu
  exact ⟨a1, a2, a3, a4, key _ _ a5, key _ _ a6, fun p hp => key _ _ (a7 p hp), fun r hr => key _ _ (a8 r hr), a9, a10, a11⟩
theorem W9.wI (H : W9 G h A σ) {t i : Nat} (hv : vd σ t i) (ht : t ≠ 1 ∧ t ≠ 3 ∧ t ≠ 5 ∧ t ≠ 34 ∧ t ≠ 2 ∧ t ≠ 4 ∧ t ≠ 6 ∧ t ≠ 35) {f : Nat → Int32} (hI : IV (setI σ t i f)) {c : hE} (hc : c = CB A f (σ.2.1 t i) (σ.2.2 t i) t i) : W9 G (va_up h (A t i) (some c)) A (setI σ t i f) :=
  H.cell hv ht (σ' := setI σ t i f) rfl (fun _ _ q => ⟨setI_n q, rfl⟩) (by rw [setI_s]; exact hc) hI
theorem W9.wO (H : W9 G h A σ) {t i : Nat} (hv : vd σ t i) (ht : t ≠ 1 ∧ t ≠ 3 ∧ t ≠ 5 ∧ t ≠ 34 ∧ t ≠ 2 ∧ t ≠ 4 ∧ t ≠ 6 ∧ t ≠ 35) {g : Nat → Option Nat} (hg : pkB σ g) {c : hE} (hc : c = CB A (σ.1 t i) (σ.2.1 t i) g t i) : W9 G (va_up h (A t i) (some c)) A (setO σ t i g) :=
  H.cell hv ht (σ' := setO σ t i g) rfl (fun _ _ q => ⟨rfl, setO_n q⟩) (by rw [setO_s]; exact hc) (iv_setO H.iv hg)
/-! releases by their places -/
def rix (A : aT) : Nat → Nat → Nat
  | 0, _ => 0
  | n + 1, a => if A 40 n = a then n else rix A n a
theorem rix_of (n r : Nat) (hr : r < n) (hA : ∀ x y, x < n → y < n → A 40 x = A 40 y → x = y) : rix A n (A 40 r) = r := by
  induction n with
  | zero => exact absurd hr (Nat.not_lt_zero r)
  | succ n ih =>
    unfold rix
    by_cases e : A 40 n = A 40 r
    · rw [if_pos e]
      exact hA n r (Nat.lt_succ_self n) hr e
    · rw [if_neg e]
      refine ih ?_ (fun x y hx hy => hA x y (by omega) (by omega))
      rcases Nat.lt_or_ge r n with q | q
      · exact q
      · exact absurd (by rw [show r = n by omega]) e
def TT (A : aT) (σ : sT) : relT := fun a => (σ.1 40 (rix A (nrl σ) a) 0, σ.1 40 (rix A (nrl σ) a) 1, A 41 (rix A (nrl σ) a), A 44 (rix A (nrl σ) a), σ.1 40 (rix A (nrl σ) a) 2)
theorem W9.rx (H : W9 G h A σ) {r : Nat} (hr : r < nrl σ) : rix A (nrl σ) (A 40 r) = r := rix_of _ _ hr (fun x y hx hy e => ((H.2.1 40 x hx).2 40 y hy e).2)
theorem W9.tt (H : W9 G h A σ) {r : Nat} (hr : r < nrl σ) : TT A σ (A 40 r) = (σ.1 40 r 0, σ.1 40 r 1, A 41 r, A 44 r, σ.1 40 r 2) := by
  unfold TT
  rw [H.rx hr]
theorem W9.rel (H : W9 G h A σ) {r : Nat} (hr : r < nrl σ) : h (A 40 r) = some (relC (TT A σ (A 40 r))) := by
  rw [H.tt hr]
  exact H.c40 hr
/-- picks by addresses -/
def pa (A : aT) (g : Nat → Option Nat) : Nat → Option Nat := fun j => (g j).map (A 40)
theorem W9.pk (H : W9 G h A σ) {g : Nat → Option Nat} (hg : pkB σ g) : pkR h (TT A σ) (pa A g) := by
  intro k hk r hr
  unfold pa at hr
  cases hh : g k with
  | none => rw [hh] at hr; cases hr
  | some x =>
    rw [hh] at hr
    cases hr
    exact H.rel (hg k x hh)
theorem W9.pkc (H : W9 G h A σ) {g : Nat → Option Nat} (hg : pkB σ g) {k : Nat} (hk : k < 6) {b : Nat} (hb : pa A g k = some b) : ∃ gs, h b = some (.inr (8, gs)) := ⟨_, H.pk hg k hk b hb⟩
end W9B
