/-! small things: truth values, places counted down, picks that stay -/
theorem nar_b {x : Int32} (h : x = 0 ∨ x = 1) : vp_nar .boolean x = x := by rcases h with rfl | rfl <;> rfl
theorem nar_b2 {x : Int32} (h : x = 0 ∨ x = 1) : narrow .boolean (.int x) = .int x := by rcases h with rfl | rfl <;> rfl
theorem fit_b {x : Int32} (h : x = 0 ∨ x = 1) : fits .boolean (.int x) = true := by rcases h with rfl | rfl <;> rfl
theorem nI_sub1 {i : Nat} (h : 1 ≤ i) : nI i - 1 = nI (i - 1) := by
  obtain ⟨j, rfl⟩ : ∃ j, i = j + 1 := ⟨i - 1, by omega⟩
  rw [nI_pred, Nat.add_sub_cancel]
section PWB
variable {G : hG} {M : hMI} {d : Nat} {Ps : hAmb} {E : hEnd} {kc ks pc : Nat} {L : List (Nat × Value)} {S : List Value} {h : hp}
theorem pw_topE {x y : Int32} (e : x = y) (k : PW G M d Ps E kc ks pc L (.int y :: S) h) : PW G M d Ps E kc ks pc L (.int x :: S) h := e ▸ k
theorem pw_topF {x y : Option Nat} (e : x = y) (k : PW G M d Ps E kc ks pc L (va_rf y :: S) h) : PW G M d Ps E kc ks pc L (va_rf x :: S) h := e ▸ k
end PWB
theorem pkR.keep {G : hG} {h h1 : hp} {l W : List Nat} (x1 : xt G h h1 l W) {T : relT} {Pk : Nat → Option Nat} (hp : pkR h T Pk) (hW : ∀ k r, k < 6 → Pk k = some r → r ∉ W) : pkR h1 T Pk := fun k hk r hr => x1.keep (hp k hk r hr) (hW k r hk hr)
theorem rel_ne {h : hp} {r q : Nat} {x : Int32 × Int32 × Nat × Nat × Int32} {a b y : Int32} {v : Value} (h1 : h r = some (relC x)) (h2 : h q = some (oB 8 [.int a, .int b, .null, v, .int y])) : r ≠ q := by
  intro e
  rw [e, h2] at h1
  cases h1
