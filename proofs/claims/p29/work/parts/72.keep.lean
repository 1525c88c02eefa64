/-! what holds of the forge between calls, and that it is kept -/
/-- how many of the first n releases are of the package q -/
def cntq (ofr : Nat → Nat) (q : Nat) : Nat → Nat
  | 0 => 0
  | r + 1 => cntq ofr q r + (if ofr r = q then 1 else 0)
theorem cntq_le (ofr : Nat → Nat) (q : Nat) : ∀ {a b : Nat}, a ≤ b → cntq ofr q a ≤ cntq ofr q b
  | a, 0, h => by
    have : a = 0 := by omega
    subst this
    exact Nat.le_refl _
  | a, b + 1, h => by
    by_cases e : a = b + 1
    · rw [e]; exact Nat.le_refl _
    · exact Nat.le_trans (cntq_le ofr q (a := a) (b := b) (by omega)) (Nat.le_add_right _ _)
theorem cntq_s {ofr : Nat → Nat} {q r : Nat} (h : ofr r = q) : cntq ofr q (r + 1) = cntq ofr q r + 1 := by show cntq ofr q r + _ = _; rw [if_pos h]
theorem cntq_ex (ofr : Nat → Nat) (q : Nat) : ∀ (n j : Nat), j < cntq ofr q n → ∃ r, r < n ∧ ofr r = q ∧ cntq ofr q r = j
  | 0, j, h => absurd h (Nat.not_lt_zero j)
  | n + 1, j, h => by
    by_cases e : j < cntq ofr q n
    · obtain ⟨r, h1, h2, h3⟩ := cntq_ex ofr q n j e
      exact ⟨r, by omega, h2, h3⟩
    · have h' : j < cntq ofr q n + (if ofr n = q then 1 else 0) := h
      by_cases e2 : ofr n = q
      · rw [if_pos e2] at h'
        exact ⟨n, Nat.lt_succ_self n, e2, by omega⟩
      · rw [if_neg e2] at h'
        omega
theorem cntq_0 {ofr : Nat → Nat} {q : Nat} : ∀ n, (∀ r, r < n → ofr r ≠ q) → cntq ofr q n = 0
  | 0, _ => rfl
  | n + 1, h => by
    show cntq ofr q n + _ = 0
    rw [cntq_0 n (fun r hr => h r (by omega)), if_neg (h n (Nat.lt_succ_self n))]
/-- machines, budgets up to N, owners -/
def JO (σ : sT) (N : Nat) : Prop := (∃ M, 1 ≤ M ∧ M ≤ 4 ∧ σ.1 0 0 0 = nI M) ∧ (∀ o, o < 3 → ∃ b, b ≤ N ∧ σ.1 13 0 o = nI b) ∧ ∀ p, p < npk σ → ∃ o, o < 3 ∧ σ.1 20 p 0 = nI o
/-- needs are lower -/
def JS (σ : sT) : Prop := ∀ p, p < npk σ → ∀ j, p ≤ j → j < 6 → σ.1 24 p j = 0
/-- the packages' releases are the forge's -/
def JM (σ : sT) (ofr : Nat → Nat) : Prop := (∀ x, x < nrl σ → ofr x < npk σ) ∧ ∀ q, q < 6 → rnp σ q = cntq ofr q (nrl σ) ∧ ∀ r, r < nrl σ → ofr r = q → ixp σ q (cntq ofr q r) = r
/-- locks and versions -/
def JR (σ : sT) (ofr : Nat → Nat) : Prop := (∀ r, r < nrl σ → (∀ j x, σ.2.2 45 r j = some x → ofr x = j ∧ j < ofr r) ∧ 100 ≤ σ.1 40 r 0 ∧ σ.1 40 r 0 ≤ 999) ∧ ∀ r s, r < s → s < nrl σ → ofr r = ofr s → σ.1 40 r 0 < σ.1 40 s 0
/-- lengths and records -/
def JT (σ : sT) : Prop := ∀ t, t < nts σ → (∃ l, 1 ≤ l ∧ l ≤ 60 ∧ σ.1 50 t 1 = nI l) ∧ ∃ c, c ≤ 8 ∧ σ.1 50 t 3 = nI c
def J (σ : sT) (ofr : Nat → Nat) (N : Nat) : Prop := JO σ N ∧ JS σ ∧ JM σ ofr ∧ JR σ ofr ∧ JT σ
/-- the law's own rows of the first m releases -/
def JD (σ : sT) (ofr : Nat → Nat) (m : Nat) : Prop := ∀ r, r < m → σ.1 61 r 0 = nI (ofr r) ∧ σ.1 61 r 1 = σ.1 40 r 0 ∧ σ.1 61 r 2 = σ.1 40 r 2
section JKEEP
variable {σ σ' : sT} {ofr : Nat → Nat} {N m : Nat}
theorem J.es (h : J σ ofr N) (e : ES σ σ') : J σ' ofr N := by
  have i0 := e.I 0 rfl
  have i13 := e.I 13 rfl
  have i20 := e.I 20 rfl
  have i24 := e.I 24 rfl
  have i40 := e.I 40 rfl
  have i50 := e.I 50 rfl
  have o45 := e.O 45 rfl
  unfold J JO JS JM JR JT at h ⊢
  simp only [i0, i13, i20, i24, i40, i50, o45, e.np, e.nt, e.nr, e.rn, e.ix]
  exact h
theorem JD.es (h : JD σ ofr m) (e : ES σ σ') : JD σ' ofr m := by
  have i40 := e.I 40 rfl
  have i61 := e.I 61 rfl
  unfold JD at h ⊢
  simp only [i40, i61]
  exact h
theorem J.mono {N' : Nat} (h : J σ ofr N) (hN : N ≤ N') : J σ ofr N' := by
  obtain ⟨⟨h1, h2, h3⟩, h4⟩ := h
  exact ⟨⟨h1, fun o ho => by obtain ⟨b, hb, e⟩ := h2 o ho; exact ⟨b, by omega, e⟩, h3⟩, h4⟩
theorem JM.ix (hR : JM σ ofr) {q i : Nat} (hq : q < 6) (hi : i < rnp σ q) : ixp σ q i < nrl σ ∧ ofr (ixp σ q i) = q ∧ cntq ofr q (ixp σ q i) = i := by
  obtain ⟨h1, h2⟩ := hR.2 q hq
  rw [h1] at hi
  obtain ⟨r, hr, ho, hc⟩ := cntq_ex ofr q _ i hi
  have e := h2 r hr ho
  rw [hc] at e
  rw [e]
  exact ⟨hr, ho, hc⟩
theorem JM.cl (hR : JM σ ofr) {q r : Nat} (hq : q < 6) (hr : r < nrl σ) (ho : ofr r = q) : cntq ofr q r < rnp σ q := by
  rw [(hR.2 q hq).1]
  have h1 := cntq_le ofr q (a := r + 1) (b := nrl σ) (by omega)
  have h2 := cntq_s ho
  omega
/-- what a choice has: its picks are releases of the packages that they are for, lower than its own, and not yanked -/
theorem srch_of (hR : JM σ ofr) {le gr : Nat → Int32} {k : Nat} (hk : k ≤ 6) {g' : Nat → Option Nat} (h : srch σ.1 σ.2.1 le gr k zN = some g') {j x : Nat} (hx : g' j = some x) : j < k ∧ ofr x = j ∧ x < nrl σ ∧ σ.1 40 x 2 = 0 := by
  obtain ⟨h1, h2⟩ := srch_pk k _ _ h
  by_cases hj : j < k
  · rcases h2 j hj x hx with q | ⟨hy, i, hi, rfl⟩
    · cases q
    · have z := hR.ix (by omega) hi
      exact ⟨hj, z.2.1, z.1, hy⟩
  · rw [h1 j (by omega)] at hx
    cases hx
theorem i32_nat {v : Int32} (h1 : 100 ≤ v) (h2 : v ≤ 999) : ∃ w : Nat, 100 ≤ w ∧ w ≤ 999 ∧ v = nI w := by
  have e1 : (100 : Int32).toInt = 100 := rfl
  have e9 : (999 : Int32).toInt = 999 := rfl
  rw [Int32.le_iff_toInt_le] at h1 h2
  refine ⟨v.toInt.toNat, by omega, by omega, ?_⟩
  apply Int32.toInt_inj.mp
  rw [nI_toInt (by omega)]
  omega
theorem dv100 : ∀ w, w < 1000 → nI w / 100 = nI (w / 100) := by decide +kernel
/-- the next version is greater than the last one's, and at least 100, and small -/
theorem nxt_gt {v : Int32} (h1 : 100 ≤ v) (h2 : v ≤ 999) : (∃ w, 100 ≤ w ∧ w ≤ 1000 ∧ v + 1 = nI w ∧ v < nI w) ∧ ∃ w, 100 ≤ w ∧ w ≤ 1000 ∧ (v / 100 + 1) * 100 = nI w ∧ v < nI w := by
  obtain ⟨w, a, b, rfl⟩ := i32_nat h1 h2
  have e3 : (nI w / 100 + 1) * 100 = nI ((w / 100 + 1) * 100) := by
    rw [dv100 w (by omega), nI_1]
    exact nI_mul _ _
  exact ⟨⟨w + 1, by omega, by omega, nI_1 _, (nI_ltI (by omega) (by omega)).mpr (by omega)⟩, (w / 100 + 1) * 100, by omega, by omega, e3, (nI_ltI (by omega) (by omega)).mpr (by omega)⟩
theorem JR.le (hM : JM σ ofr) (hR : JR σ ofr) {r s : Nat} (h1 : r ≤ s) (hs : s < nrl σ) (e : ofr r = ofr s) : σ.1 40 r 0 ≤ σ.1 40 s 0 := by
  by_cases q : r = s
  · rw [q]; exact Int32.le_refl _
  · have z := hR.2 r s (by omega) hs e
    rw [Int32.lt_iff_toInt_lt] at z
    rw [Int32.le_iff_toInt_le]
    omega
theorem vAh_gt (hM : JM σ ofr) (hR : JR σ ofr) {p : Nat} (hp : p < 6) : (∃ w, 100 ≤ w ∧ w ≤ 1000 ∧ vAh σ p = nI w) ∧ ∀ r, r < nrl σ → ofr r = p → σ.1 40 r 0 < vAh σ p := by
  by_cases h0 : rnp σ p = 0
  · have e : vAh σ p = 100 := if_pos h0
    rw [e]
    exact ⟨⟨100, by omega, by omega, rfl⟩, fun r hr ho => absurd (hM.cl hp hr ho) (by omega)⟩
  · obtain ⟨x1, x2, x3⟩ := hM.ix hp (i := rnp σ p - 1) (by omega)
    have e : vAh σ p = if σ.1 40 (ixp σ p (rnp σ p - 1)) 1 = σ.1 21 p 0 then σ.1 40 (ixp σ p (rnp σ p - 1)) 0 + 1 else (σ.1 40 (ixp σ p (rnp σ p - 1)) 0 / 100 + 1) * 100 := if_neg h0
    rw [e]
    generalize ixp σ p (rnp σ p - 1) = x at x1 x2 x3 ⊢
    obtain ⟨-, n1, n2⟩ := hR.1 x x1
    obtain ⟨⟨w, w1, w2, w3, w4⟩, u, u1, u2, u3, u4⟩ := nxt_gt n1 n2
    have hle : ∀ r, r < nrl σ → ofr r = p → σ.1 40 r 0 ≤ σ.1 40 x 0 := fun r hr ho => by
      refine JR.le hM hR ?_ x1 (ho.trans x2.symm)
      have h1 := hM.cl hp hr ho
      by_cases q : r ≤ x
      · exact q
      · have h3 := cntq_le ofr p (a := x + 1) (b := r) (by omega)
        have h4 := cntq_s x2
        omega
    have tr : ∀ {a b c : Int32}, a ≤ b → b < c → a < c := fun {a b c} q1 q2 => by
      rw [Int32.le_iff_toInt_le] at q1
      rw [Int32.lt_iff_toInt_lt] at q2 ⊢
      omega
    by_cases q : σ.1 40 x 1 = σ.1 21 p 0
    · rw [if_pos q, w3]
      exact ⟨⟨w, w1, w2, rfl⟩, fun r hr ho => tr (hle r hr ho) w4⟩
    · rw [if_neg q, u3]
      exact ⟨⟨u, u1, u2, rfl⟩, fun r hr ho => tr (hle r hr ho) u4⟩
/-- two releases of a package have two versions -/
theorem JR.inj (hR : JR σ ofr) {r s : Nat} (hr : r < nrl σ) (hs : s < nrl σ) (e : ofr r = ofr s) (v : σ.1 40 r 0 = σ.1 40 s 0) : r = s := by
  rcases Nat.lt_trichotomy r s with q | q | q
  · have z := hR.2 r s q hs e
    rw [v, Int32.lt_iff_toInt_lt] at z
    omega
  · exact q
  · have z := hR.2 s r q hr e.symm
    rw [v, Int32.lt_iff_toInt_lt] at z
    omega
theorem fdV_some (v : Int32) (p r : Nat) (hx : ∀ i, i < rnp σ p → σ.1 40 (ixp σ p i) 0 = v → ixp σ p i = r) : ∀ (k i : Nat), i + k = rnp σ p → (∃ j, i ≤ j ∧ j < rnp σ p ∧ σ.1 40 (ixp σ p j) 0 = v) → fdV σ p v i k = some r
  | 0, i, hk, hj => by obtain ⟨j, h1, h2, -⟩ := hj; omega
  | k + 1, i, hk, hj => by
    show (if σ.1 40 (ixp σ p i) 0 = v then some (ixp σ p i) else fdV σ p v (i + 1) k) = some r
    by_cases e : σ.1 40 (ixp σ p i) 0 = v
    · rw [if_pos e, hx i (by omega) e]
    · rw [if_neg e]
      refine fdV_some v p r hx k (i + 1) (by omega) ?_
      obtain ⟨j, h1, h2, h3⟩ := hj
      exact ⟨j, Nat.lt_of_le_of_ne h1 (fun q => e (q ▸ h3)), h2, h3⟩
/-- a release is found by its package and its version -/
theorem fdV_of (hM : JM σ ofr) (hR : JR σ ofr) {r : Nat} (hp : ofr r < 6) (hr : r < nrl σ) : fdV σ (ofr r) (σ.1 40 r 0) 0 (rnp σ (ofr r)) = some r := by
  have h1 := hM.cl hp hr rfl
  have h2 := (hM.2 _ hp).2 r hr rfl
  refine fdV_some _ _ r (fun i hi e => ?_) _ 0 (by omega) ⟨cntq ofr (ofr r) r, Nat.zero_le _, h1, by rw [h2]⟩
  obtain ⟨a, b, -⟩ := hM.ix hp hi
  exact hR.inj a hr b e
theorem fdV_ex (p : Nat) (v : Int32) : ∀ (k i : Nat) {r : Nat}, fdV σ p v i k = some r → ∃ j, i ≤ j ∧ j < i + k ∧ ixp σ p j = r ∧ σ.1 40 r 0 = v
  | 0, _, _, h => by cases h
  | k + 1, i, r, h => by
    have h' : (if σ.1 40 (ixp σ p i) 0 = v then some (ixp σ p i) else fdV σ p v (i + 1) k) = some r := h
    by_cases e : σ.1 40 (ixp σ p i) 0 = v
    · rw [if_pos e] at h'
      cases h'
      exact ⟨i, Nat.le_refl i, by omega, rfl, e⟩
    · rw [if_neg e] at h'
      obtain ⟨j, h1, h2, h3⟩ := fdV_ex p v k (i + 1) h'
      exact ⟨j, by omega, by omega, h3⟩
end JKEEP
