/-! more of the pure heap: updates told apart, arrays told by their places -/
theorem ne_oa {h : hp} {x y : Nat} {o : Nat × List Value} {q : FieldType × vp_A} (e1 : h x = some (.inr o)) (e2 : h y = some (.inl q)) : x ≠ y := by
  intro e
  rw [e, e2] at e1
  cases e1
theorem ne_ao {h : hp} {x y : Nat} {o : Nat × List Value} {q : FieldType × vp_A} (e1 : h x = some (.inl q)) (e2 : h y = some (.inr o)) : x ≠ y := (ne_oa e2 e1).symm
theorem ne_oo {h : hp} {x y i j : Nat} {f g : List Value} (e1 : h x = some (.inr (i, f))) (e2 : h y = some (.inr (j, g))) (hij : i ≠ j) : x ≠ y := by
  intro e
  rw [e, e2] at e1
  cases e1
  exact hij rfl
theorem ne_aa {h : hp} {x y : Nat} {t u : FieldType} {f g : vp_A} (e1 : h x = some (.inl (t, f))) (e2 : h y = some (.inl (u, g))) (hij : t ≠ u) : x ≠ y := by
  intro e
  rw [e, e2] at e1
  cases e1
  exact hij rfl
theorem ne_nw {h : hp} {x y : Nat} {c : hE} (e1 : h x = some c) (e2 : h y = none) : x ≠ y := by
  intro e
  rw [e, e2] at e1
  cases e1
theorem up_id {h : hp} {x : Nat} {c : hE} (e : h x = some c) : va_up h x (some c) = h := by
  funext y
  by_cases hy : y = x
  · subst hy; rw [va_up_self, e]
  · rw [va_up_ne _ _ hy]
theorem up_up {α : Type} (h : Nat → α) (x : Nat) (c c' : α) : va_up (va_up h x c) x c' = va_up h x c' := by
  funext y
  by_cases hy : y = x
  · subst hy; rw [va_up_self, va_up_self]
  · rw [va_up_ne _ _ hy, va_up_ne _ _ hy, va_up_ne _ _ hy]
theorem up_sw {α : Type} (h : Nat → α) {x y : Nat} (hxy : x ≠ y) (c c' : α) : va_up (va_up h x c) y c' = va_up (va_up h y c') x c := by
  funext z
  by_cases hx : z = x
  · subst hx; rw [va_up_self, va_up_ne _ _ hxy, va_up_self]
  · by_cases hy : z = y
    · subst hy; rw [va_up_self, va_up_ne _ _ hx, va_up_self]
    · rw [va_up_ne _ _ hy, va_up_ne _ _ hx, va_up_ne _ _ hx, va_up_ne _ _ hy]
theorem upd_up (f : Nat → Int32) (k : Nat) (x : Int32) : upd f k x = va_up f k x := rfl
theorem arrV_ext {cA : ClassId} {n : Nat} {f g : Nat → Value} (h : ∀ j, j < n → f j = g j) : arrV cA n f = arrV cA n g := by
  unfold arrV
  congr 1
  apply Array.ext
  · simp
  · intro i h1 h2
    simp at h1
    simp [h i h1]
/-- the same cell, told otherwise -/
theorem RQ.ext {G : hG} {A : Nat → Prop} {h : hp} {H : Heap} {a : Nat} {e e' : hE} (hR : RQ G A h H) (ha : h a = some e) (hne : a ≠ G.2.2) (hee : ∀ H : Heap, va_at G.1 vwCl (a, hc G e) H → va_at G.1 vwCl (a, hc G e') H) : RQ G A (va_up h a (some e')) H := by
  have h1 := hR.at ha hne
  obtain ⟨ws, k, hP, hD, hk, hup⟩ := hR.wr ha hne
  refine hup e' H ?_ (hD.set hk) hR.2.2
  exact hP.set hD hk (hee H h1) (fun q _ => rfl)
section PWE
variable {G : hG} {M : hMI} {d : Nat} {Ps : hAmb} {E : hEnd} {kc ks pc a n : Nat} {L : List (Nat × Value)} {S : List Value} {h : hp}
theorem pw_extI {t : FieldType} {f g : Nat → Int32} (ha : h a = some (.inl (t, n, .inl f))) (hn : 0 < n) (hfg : ∀ j, j < n → f j = g j) (k : PW G M d Ps E kc ks pc L S (va_up h a (some (.inl (t, n, .inl g))))) : PW G M d Ps E kc ks pc L S h := by
  intro p l e R s m args below meth c A H locs cells slots ls MC MS C hR hS hl hm
  refine k p l e R s m args below meth c A H locs cells slots ls MC MS C (hR.ext ha (ne_dcA hR ha hn) (fun H' h1 => ?_)) hS hl hm
  show H'[a]? = some (arrV _ n (fun j => .int (g j)))
  rw [← arrV_ext (f := fun j => .int (f j)) (fun j hj => by rw [hfg j hj])]
  exact h1
theorem pw_extR {t : FieldType} {f g : Nat → Option Nat} (ha : h a = some (.inl (t, n, .inr (.inr (.inr (.inr f)))))) (hn : 0 < n) (hfg : ∀ j, j < n → f j = g j) (k : PW G M d Ps E kc ks pc L S (va_up h a (some (.inl (t, n, .inr (.inr (.inr (.inr g)))))))) : PW G M d Ps E kc ks pc L S h := by
  intro p l e R s m args below meth c A H locs cells slots ls MC MS C hR hS hl hm
  refine k p l e R s m args below meth c A H locs cells slots ls MC MS C (hR.ext ha (ne_dcA hR ha hn) (fun H' h1 => ?_)) hS hl hm
  show H'[a]? = some (arrV _ n (fun j => va_rf (g j)))
  rw [← arrV_ext (f := fun j => va_rf (f j)) (fun j hj => by rw [hfg j hj])]
  exact h1
theorem PW.heap {h' : hp} (e : h = h') (k : PW G M d Ps E kc ks pc L S h') : PW G M d Ps E kc ks pc L S h := e ▸ k
end PWE
/-- f below i, g from i on -/
def mx {α : Type} (f g : Nat → α) (i : Nat) : Nat → α := fun j => if j < i then f j else g j
theorem mx_0 {α : Type} (f g : Nat → α) : mx f g 0 = g := by funext j; simp [mx]
theorem mx_s {α : Type} (f g : Nat → α) (i : Nat) : va_up (mx f g i) i (f i) = mx f g (i + 1) := by
  funext j
  unfold va_up mx
  by_cases h : j = i
  · subst h; simp
  · by_cases h2 : j < i
    · simp [h, h2, Nat.lt_succ_of_lt h2]
    · have h3 : ¬ j < i + 1 := by omega
      simp [h, h2, h3]
theorem mx_lt {α : Type} {f g : Nat → α} {i j : Nat} (h : j < i) : mx f g i j = f j := if_pos h
