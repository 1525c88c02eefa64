/-! what soundness needs: choices, locks, floats -/
section PTV
variable {G : hG} {M : hMI} {d : Nat} {Ps : hAmb} {E : hEnd} {kc ks pc : Nat} {L : List (Nat × Value)} {S : List Value} {h : hp}
theorem pw_topV {v w : Value} (e : v = w) (k : PW G M d Ps E kc ks pc L (w :: S) h) : PW G M d Ps E kc ks pc L (v :: S) h := e ▸ k
theorem rowv {n i : Nat} {F : Nat → Nat} (hi : i < n) : va_rf ((fun j => if j < n then some (F j) else none) i) = .ref (F i) := by
  show va_rf (if i < n then some (F i) else none) = _
  rw [if_pos hi]
  rfl
end PTV
theorem fl_dec : ∀ c, c < 21 → ∀ n, n < 21 → 0 < n → (¬ Op.cmpValue (FP.fcmp (FP.fdiv (FP.i2f (nI c)) (FP.i2f (nI n))) 3212836864) .l = 0 ∧ Op.cmpValue (FP.fcmp (FP.fdiv (FP.i2f (nI c)) (FP.i2f (nI n))) (FP.fdiv (FP.i2f (nI c)) (FP.i2f (nI n)))) .l = 0) ∧ FP.fdiv (FP.i2f (nI c)) (FP.i2f (nI n)) &&& 0x7fffffff ≤ 0x7f800000 := by decide +kernel
theorem fl_one : Op.cmpValue (FP.fcmp 3212836864 3212836864) .l = 0 := by decide +kernel
section PREL
variable {G : hG} {h : hp} {A : aT} {σ : sT} {ofr : Nat → Nat} {N p : Nat}
theorem WS.c60 (HW : WS G h A σ) : h (A 60 0) = some (aR (.array .int) 20 (fun j => if j < 20 then some (A 61 j) else none)) := by
  obtain ⟨σ1, -, H⟩ := HW
  exact H.c60
theorem WS.c61 (HW : WS G h A σ) {i : Nat} (hi : i < 20) : h (A 61 i) = some (aI 3 (σ.1 61 i)) := by
  obtain ⟨σ1, e, H⟩ := HW
  rw [← e.I 61 rfl]
  exact H.c61 hi
theorem WS.b40 (HW : WS G h A σ) {r : Nat} (hr : r < nrl σ) : b01 (σ.1 40 r 2) := by
  obtain ⟨σ1, e, H⟩ := HW
  rw [← e.I 40 rfl]
  exact H.iv.2.2.2.2.2.2.2.2.2.1 r (by rw [e.nr]; exact hr)
theorem WS.p45 (HW : WS G h A σ) {r : Nat} (hr : r < nrl σ) : pkB σ (σ.2.2 45 r) := by
  obtain ⟨σ1, e, H⟩ := HW
  have z := H.iv.2.2.2.2.2.2.2.1 r (by rw [e.nr]; exact hr)
  rw [e.O 45 rfl] at z
  intro j x hx
  have := z j x hx
  rw [e.nr] at this
  exact this
/-- a version, or nothing -/
theorem ver_nat (HJ : J σ ofr N) {o : Option Nat} (ho : ∀ x, o = some x → x < nrl σ) : ∃ w, w ≤ 999 ∧ vG σ o = nI w ∧ (w = 0 ↔ o = none) := by
  cases o with
  | none => exact ⟨0, by omega, rfl, by simp⟩
  | some x =>
    obtain ⟨-, a, b⟩ := HJ.2.2.2.1.1 x (ho x rfl)
    obtain ⟨w, w1, w2, w3⟩ := i32_nat a b
    exact ⟨w, w2, w3, by simp; omega⟩
theorem pick (HW : WS G h A σ) (HJ : J σ ofr N) (hp : p < npk σ) {g : Nat → Option Nat} (hs : srS σ p = some g) {q x : Nat} (hx : g q = some x) : q < p ∧ ofr x = q ∧ x < nrl σ := by
  have h6 := HW.n6
  obtain ⟨a, b, c, -⟩ := srch_of HJ.2.2.1 (by omega) hs hx
  exact ⟨a, b, c⟩
theorem cho_nat (HW : WS G h A σ) (HJ : J σ ofr N) (hp : p < npk σ) {g : Nat → Option Nat} (hs : srS σ p = some g) (q : Nat) : ∃ w, w ≤ 999 ∧ vG σ (g q) = nI w ∧ (w = 0 ↔ g q = none) := ver_nat HJ (fun _ hx => (pick HW HJ hp hs hx).2.2)
theorem can_none (hs : srS σ p = none) : ¬ aCan σ p = 1 := by
  unfold aCan
  rw [dit_f (fun ⟨g, a, _⟩ => by rw [hs] at a; cases a)]
  decide
theorem tm_nn (HW : WS G h A σ) (p : Nat) : ¬ aTm σ p < 0 := by
  obtain ⟨-, c, c1, c2⟩ := tOu_sm σ.1 (σ.1 0 0 0).toNatClampNeg (nI p) (nt := nts σ) HW.n8 60 (Nat.le_refl _)
  unfold aTm
  rw [c2]
  exact nI_nn (by omega)
theorem aSt_t {r : Nat} (hs : stl σ r) : aSt σ r = 1 := dit_t hs
theorem aSt_f {r : Nat} (hs : ¬ stl σ r) : aSt σ r = 0 := dit_f hs
theorem aSt_nn (r : Nat) : ¬ aSt σ r < 0 := by
  by_cases q : stl σ r
  · rw [aSt_t q]; decide
  · rw [aSt_f q]; decide
/-- a lock's pick among the first n packages is yanked -/
def HY (σ : sT) (r n : Nat) : Prop := ∃ k x, k < n ∧ σ.2.2 45 r k = some x ∧ ¬ σ.1 40 x 2 = 0
noncomputable def hyN (σ : sT) (r n : Nat) : Int32 := dit (HY σ r n) 1 0
theorem hyN_0 (r : Nat) : hyN σ r 0 = 0 := dit_f (fun ⟨k, x, a, _⟩ => absurd a (Nat.not_lt_zero k))
theorem hyN_n {r n : Nat} (h0 : σ.2.2 45 r n = none) : hyN σ r (n + 1) = hyN σ r n := by
  refine dit_c9 ⟨fun ⟨k, x, a, b, c⟩ => ⟨k, x, ?_, b, c⟩, fun ⟨k, x, a, b, c⟩ => ⟨k, x, by omega, b, c⟩⟩ (fun _ => rfl) rfl
  refine Nat.lt_of_le_of_ne (by omega) (fun z => ?_)
  rw [z, h0] at b
  cases b
/-- .. with the one at place n, if it is among the first k releases -/
def KY (σ : sT) (r n x k : Nat) : Prop := HY σ r n ∨ (x < k ∧ ¬ σ.1 40 x 2 = 0)
noncomputable def kyN (σ : sT) (r n x k : Nat) : Int32 := dit (KY σ r n x k) 1 0
theorem kyN_0 {r n x : Nat} : hyN σ r n = kyN σ r n x 0 := dit_c9 ⟨fun z => Or.inl z, fun z => z.elim id (fun y => absurd y.1 (Nat.not_lt_zero x))⟩ (fun _ => rfl) rfl
theorem kyN_e {r n x k : Nat} (hx : σ.2.2 45 r n = some x) (hk : x < k) : kyN σ r n x k = hyN σ r (n + 1) := by
  refine dit_c9 ⟨fun z => ?_, fun z => ?_⟩ (fun _ => rfl) rfl
  · rcases z with ⟨q, y, a, b, c⟩ | ⟨-, c⟩
    · exact ⟨q, y, by omega, b, c⟩
    · exact ⟨n, x, Nat.lt_succ_self n, hx, c⟩
  · obtain ⟨q, y, a, b, c⟩ := z
    by_cases e : q = n
    · subst e
      rw [hx] at b
      cases b
      exact Or.inr ⟨hk, c⟩
    · exact Or.inl ⟨q, y, by omega, b, c⟩
theorem kyN_1 {r n x k : Nat} (h : KY σ r n x k) : kyN σ r n x k = 1 := dit_t h
theorem kyN_f {r n x k : Nat} (h : ¬ KY σ r n x k) : kyN σ r n x k = 0 := dit_f h
theorem KY_s {r n x k : Nat} (h : KY σ r n x k) : KY σ r n x (k + 1) := h.imp id (fun ⟨a, b⟩ => ⟨by omega, b⟩)
/-- the place k adds nothing, if it is not x, or x is not yanked -/
theorem KY_n {r n x k : Nat} (h : ¬ KY σ r n x k) (hk : ¬ k = x ∨ σ.1 40 x 2 = 0) : ¬ KY σ r n x (k + 1) := fun z => by
  rcases z with z | ⟨a, b⟩
  · exact h (Or.inl z)
  · rcases hk with hk | hk
    · exact h (Or.inr ⟨by omega, b⟩)
    · exact b hk
theorem hyN_1 {r n : Nat} (h : HY σ r n) : hyN σ r n = 1 := dit_t h
theorem hyN_f {r n : Nat} (h : ¬ HY σ r n) : hyN σ r n = 0 := dit_f h
theorem stl_HY (HW : WS G h A σ) (HJ : J σ ofr N) {r : Nat} (hr : r < nrl σ) : stl σ r ↔ σ.1 40 r 2 = 0 ∧ HY σ r (npk σ) := by
  have h6 := HW.n6
  have hp := HJ.2.2.1.1 r hr
  constructor
  · rintro ⟨a, k, x, b, c, e⟩
    have := ((HJ.2.2.2.1.1 r hr).1 k x c).2
    exact ⟨a, k, x, by omega, c, e⟩
  · rintro ⟨a, k, x, b, c, e⟩
    exact ⟨a, k, x, by omega, c, e⟩
theorem fk_lt (HJ : J σ ofr N) (h0 : 0 < nts σ) : ∃ f, f < nts σ ∧ aFk σ = nI f ∧ ∀ t, t < nts σ → aFy σ t ≤ aFy σ f := by
  obtain ⟨a, -, c⟩ := fkB_max HJ.2.2.2.2 (nts σ) (Nat.le_refl _)
  obtain ⟨a1, a2⟩ := a h0
  refine ⟨_, a1, if_neg (by omega), fun t ht => ?_⟩
  have z := c t ht
  rw [a2] at z
  exact z
theorem fy_7 (HJ : J σ ofr N) {t : Nat} (ht : t < nts σ) : ¬ 7 < aFy σ t := by
  obtain ⟨c, c1, c2⟩ := ct_7 HJ.2.2.2.2 ht
  unfold aFy
  rw [c2]
  exact fun z => by have := (nI_ltI (a := 7) (by omega) (by omega)).mp z; omega
theorem gd_fl (HW : WS G h A σ) (h0 : ¬ nrl σ = 0) : aGd σ = FP.fdiv (FP.i2f (gdN σ (nrl σ))) (FP.i2f (nI (nrl σ))) ∧ ¬ Op.cmpValue (FP.fcmp (aGd σ) 3212836864) .l = 0 ∧ Op.cmpValue (FP.fcmp (aGd σ) (FP.fdiv (FP.i2f (gdN σ (nrl σ))) (FP.i2f (nI (nrl σ))))) .l = 0 ∧ vf_n32 (FP.fdiv (FP.i2f (gdN σ (nrl σ))) (FP.i2f (nI (nrl σ)))) := by
  have e : aGd σ = FP.fdiv (FP.i2f (gdN σ (nrl σ))) (FP.i2f (nI (nrl σ))) := if_neg h0
  obtain ⟨c, c1, c2⟩ := gdN_nat σ (nrl σ)
  have h20 := HW.n20
  obtain ⟨⟨a, b⟩, d⟩ := fl_dec c (by omega) (nrl σ) (by omega) (by omega)
  rw [e, c2]
  exact ⟨rfl, a, b, d⟩
end PREL
