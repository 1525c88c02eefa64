/-! a row of the law is put in place; small facts of a step -/
theorem CB_61 {A A' : aT} {f : Nat → Int32} {c : Nat → Nat} {g : Nat → Option Nat} {t i : Nat} (hA : ∀ u, u ≠ 61 → A' u = A u) (ht : t ≠ 60) : CB A' f c g t i = CB A f c g t i := by
  unfold CB
  split <;> first | rfl | exact absurd rfl ht | simp [hA]
def rwA (A : aT) (r q : Nat) : aT := fun t i => if t = 61 ∧ i = r then q else A t i
theorem rwA_n {A : aT} {r q u : Nat} (h : u ≠ 61) : rwA A r q u = A u := by
  funext i
  exact if_neg (fun z => h z.1)
theorem rwA_s {A : aT} {r q : Nat} : rwA A r q 61 r = q := if_pos ⟨rfl, rfl⟩
theorem LI_row {G : hG} {A : aT} {σ : sT} {r q lt dt i n : Nat} {f : Nat → Int32} {F : Nat → Nat} (h1 : lt ≠ 61) (h2 : dt ≠ 61) (h : LI G A σ lt dt i n F) : LI G (rwA A r q) (setI σ 61 r f) lt dt i n F := by
  unfold LI
  rw [rwA_n h2, setI_n (Or.inl h1)]
  exact h
/-- the row r is another array -/
theorem W9.row {G : hG} {h h2 : hp} {A : aT} {σ : sT} (H : W9 G h A σ) {r q : Nat} {f : Nat → Int32} (hr : r < 20) (q0 : h q = none) (q1 : q ≠ G.2.2) (hq : h2 q = some (aI 3 f)) (h60 : h2 (A 60 0) = some (aR (.array .int) 20 (va_up (fun j => if j < 20 then some (A 61 j) else none) r (some q)))) (ho : ∀ x, x ≠ q → x ≠ A 60 0 → h2 x = h x) : W9 G h2 (rwA A r q) (setI σ 61 r f) := by
  have hn : ∀ t i, vd σ t i → A t i ≠ q := fun t i hv e => by
    have z := H.1 t i hv
    rw [e, q0] at z
    cases z
  refine ⟨fun t i hv => ?_, fun t i hv => ?_, ?_, ?_, iv_setI H.2.2.2.2 (by decide)⟩
  · have hv0 : vd σ t i := hv
    by_cases e : t = 61 ∧ i = r
    · obtain ⟨rfl, rfl⟩ := e
      rw [rwA_s, hq, setI_s]
      rfl
    · rw [show rwA A r q t i = A t i from if_neg e, setI_n (Decidable.not_and_iff_or_not.mp e)]
      by_cases e6 : t = 60
      · subst e6
        obtain rfl : i = 0 := hv0
        rw [h60]
        refine congrArg (fun z => some (aR (.array .int) 20 z)) (funext fun j => ?_)
        by_cases ej : j = r
        · subst ej
          rw [va_up_self]
          exact ((if_pos hr).trans (congrArg some rwA_s)).symm
        · rw [show va_up (fun j => if j < 20 then some (A 61 j) else none) r (some q) j = _ from if_neg ej]
          by_cases hj : j < 20
          · rw [if_pos hj, show rwA A r q 61 j = A 61 j from if_neg (fun z => ej z.2)]; exact if_pos hj
          · rw [if_neg hj]; exact if_neg hj
      · rw [ho _ (hn t i hv0) (H.ne hv0 rfl (Or.inl e6)), CB_61 (fun u hu => rwA_n hu) e6]
        exact H.1 t i hv0
  · have hv0 : vd σ t i := hv
    by_cases e : t = 61 ∧ i = r
    · obtain ⟨rfl, rfl⟩ := e
      rw [rwA_s]
      refine ⟨q1, fun u j hu z => ?_⟩
      by_cases e2 : u = 61 ∧ j = i
      · exact ⟨e2.1.symm, e2.2.symm⟩
      · rw [show rwA A i q u j = A u j from if_neg e2] at z
        exact absurd z.symm (hn u j hu)
    · rw [show rwA A r q t i = A t i from if_neg e]
      refine ⟨(H.2.1 t i hv0).1, fun u j hu z => ?_⟩
      by_cases e2 : u = 61 ∧ j = r
      · obtain ⟨rfl, rfl⟩ := e2
        rw [rwA_s] at z
        exact absurd z (hn t i hv0)
      · rw [show rwA A r q u j = A u j from if_neg e2] at z
        exact (H.2.1 t i hv0).2 u j hu z
  · rw [ho _ q1.symm (H.2.1 60 0 rfl).1.symm]
    exact H.2.2.1
  · obtain ⟨a, b, c, e⟩ := H.2.2.2.1
    rw [show rwA A r q 20 = A 20 from rwA_n (by decide), show rwA A r q 50 = A 50 from rwA_n (by decide), show rwA A r q 40 = A 40 from rwA_n (by decide)]
    exact ⟨LI_row (by decide) (by decide) a, LI_row (by decide) (by decide) b, LI_row (by decide) (by decide) c, fun p hp => LI_row (by decide) (by decide) (e p hp)⟩
theorem J_61 {σ : sT} {ofr : Nat → Nat} {N r : Nat} {f : Nat → Int32} (h : J σ ofr N) : J (setI σ 61 r f) ofr N := by
  have i0 : (setI σ 61 r f).1 0 = σ.1 0 := funext fun _ => setI_n (Or.inl (by decide))
  have i13 : (setI σ 61 r f).1 13 = σ.1 13 := funext fun _ => setI_n (Or.inl (by decide))
  have i20 : (setI σ 61 r f).1 20 = σ.1 20 := funext fun _ => setI_n (Or.inl (by decide))
  have i24 : (setI σ 61 r f).1 24 = σ.1 24 := funext fun _ => setI_n (Or.inl (by decide))
  have i40 : (setI σ 61 r f).1 40 = σ.1 40 := funext fun _ => setI_n (Or.inl (by decide))
  have i50 : (setI σ 61 r f).1 50 = σ.1 50 := funext fun _ => setI_n (Or.inl (by decide))
  unfold J JO JS JM JR JT at h ⊢
  rw [i0, i13, i20, i24, i40, i50]
  exact h
/-- the new row speaks of the new release -/
theorem JD_new {σ : sT} {ofr : Nat → Nat} {n : Nat} {f : Nat → Int32} (h : JD σ ofr n) (f0 : f 0 = nI (ofr n)) (f1 : f 1 = σ.1 40 n 0) (f2 : f 2 = σ.1 40 n 2) : JD (setI σ 61 n f) ofr (n + 1) := by
  intro x hx
  rw [show (setI σ 61 n f).1 40 x = σ.1 40 x from setI_n (Or.inl (by decide))]
  by_cases e : x = n
  · subst e
    rw [setI_s]
    exact ⟨f0, f1, f2⟩
  · rw [show (setI σ 61 n f).1 61 x = σ.1 61 x from setI_n (Or.inr e)]
    exact h x (by omega)
theorem lt_neg {v : Int32} (h : v < -1000) : v < 0 := by
  rw [Int32.lt_iff_toInt_lt] at h ⊢
  have a : (-1000 : Int32).toInt = -1000 := rfl
  have b : (0 : Int32).toInt = 0 := rfl
  omega
theorem nn_ge {v : Int32} (h : ¬ v < 0) : (-1000 : Int32) ≤ v := by
  rw [Int32.lt_iff_toInt_lt] at h
  rw [Int32.le_iff_toInt_le]
  have a : (-1000 : Int32).toInt = -1000 := rfl
  have b : (0 : Int32).toInt = 0 := rfl
  omega
theorem lt_nge {v : Int32} (h : v < -1000) : ¬ (-1000 : Int32) ≤ v := by
  rw [Int32.lt_iff_toInt_lt] at h
  rw [Int32.le_iff_toInt_le]
  omega
theorem nn_le {v : Int32} (h : ¬ v < 0) : (0 : Int32) ≤ v := by
  rw [Int32.lt_iff_toInt_lt] at h
  rw [Int32.le_iff_toInt_le]
  omega
/-- the larger of 1 and a count -/
theorem max1 (n : Nat) (hn : n ≤ 20) : ∃ K, 0 < K ∧ K ≤ 20 ∧ (0 < n → K = n) ∧ (if (1 : Int32) < nI n then nI n else 1) = nI K := by
  by_cases h : (1 : Int32) < nI n
  · have z := (nI_ltI (a := 1) (by omega) (by omega)).mp h
    exact ⟨n, by omega, hn, fun _ => rfl, if_pos h⟩
  · have z : ¬ 1 < n := fun y => h ((nI_ltI (a := 1) (by omega) (by omega)).mpr y)
    exact ⟨1, by omega, by omega, fun _ => by omega, if_neg h⟩
theorem aCan1 {σ : sT} {p : Nat} (h : pubC σ p) : aCan σ p = 1 := dit_t h
theorem aCan0 {σ : sT} {p : Nat} (h : ¬ pubC σ p) : aCan σ p = 0 := dit_f h
theorem W9.ws {G : hG} {h : hp} {A : aT} {σ : sT} (H : W9 G h A σ) : WS G h A σ := ⟨σ, ES.rf, H⟩
