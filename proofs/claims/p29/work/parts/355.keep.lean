/-! picks stay through writes of other cells; the list's class behind AbstractList's field -/
theorem pkR.upO {h : hp} {T : relT} {Pk : Nat → Option Nat} (hp : pkR h T Pk) {x j : Nat} {g : List Value} {c : hE} (hx : h x = some (.inr (j, g))) (hj : 8 ≠ j) : pkR (va_up h x (some c)) T Pk := fun k hk r hr => (va_up_ne _ _ (ne_oo (hp k hk r hr) hx hj)).trans (hp k hk r hr)
theorem pkR.upA {h : hp} {T : relT} {Pk : Nat → Option Nat} (hp : pkR h T Pk) {x : Nat} {q : FieldType × vp_A} {c : hE} (hx : h x = some (.inl q)) : pkR (va_up h x (some c)) T Pk := fun k hk r hr => (va_up_ne _ _ (ne_oa (hp k hk r hr) hx)).trans (hp k hk r hr)
theorem fl_Jxc12de_7 : Cond.fieldLink RJxc12de 7 "java/util/AbstractList" (TJx4a65c 0).2.1 (TJx4a65c 0).2.2.1 ∈ gws := gws_of 72 (by decide +kernel) rfl
theorem upd_ne {f : Nat → Int32} {k j : Nat} {x : Int32} (h : j ≠ k) : upd f k x j = f j := if_neg h
