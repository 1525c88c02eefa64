/-! what a making method leaves: new addresses l, old ones W written, all else as it was -/
def xt (G : hG) (h h' : hp) (l W : List Nat) : Prop := l.Nodup ∧ (∀ x ∈ l, h x = none ∧ x ≠ G.2.2) ∧ (∀ x, x ∉ W ++ l → h' x = h x) ∧ ∀ x ∈ W ++ l, h' x ≠ none
theorem xt.rf {G : hG} {h : hp} {W : List Nat} (hW : ∀ x ∈ W, h x ≠ none) : xt G h h [] W := ⟨List.nodup_nil, fun _ hx => absurd hx List.not_mem_nil, fun _ _ => rfl, fun x hx => hW x (by simpa using hx)⟩
theorem xt.rf1 {G : hG} {h : hp} {w : Nat} {c : hE} (hw : h w = some c) : xt G h h [] [w] := xt.rf (fun x hx => by rw [List.mem_singleton.mp hx, hw]; exact fun q => by cases q)
theorem xt.of {G : hG} {h h' : hp} {l W : List Nat} (hf : frs G h l) (hs : sm h h' (W ++ l)) (hn : ∀ x ∈ W ++ l, h' x ≠ none) : xt G h h' l W := ⟨hf.1, hf.2, hs, hn⟩
theorem xt.call {G : hG} {h h1 h2 : hp} {l l2 W W2 : List Nat} (x1 : xt G h h1 l W) (x2 : xt G h1 h2 l2 W2) (hW : ∀ x ∈ W2, x ∈ W ++ l) : xt G h h2 (l ++ l2) W := by
  obtain ⟨a1, a2, a3, a4⟩ := x1
  obtain ⟨b1, b2, b3, b4⟩ := x2
  refine ⟨?_, ?_, ?_, ?_⟩
  · rw [List.nodup_append]
    refine ⟨a1, b1, fun x hx y hy e => ?_⟩
    subst e
    exact a4 x (List.mem_append_right _ hx) (b2 x hy).1
  · intro x hx
    rcases List.mem_append.mp hx with hx | hx
    · exact a2 x hx
    · have hn := (b2 x hx).1
      have hx2 : x ∉ W ++ l := fun q => a4 x q hn
      exact ⟨by rw [← a3 x hx2]; exact hn, (b2 x hx).2⟩
  · intro x hx
    have h1 : x ∉ W ++ l := fun q => hx (by rw [← List.append_assoc]; exact List.mem_append_left _ q)
    have h3 : x ∉ W2 ++ l2 := fun q => by
      rcases List.mem_append.mp q with q | q
      · exact h1 (hW x q)
      · exact hx (by rw [← List.append_assoc]; exact List.mem_append_right _ q)
    rw [b3 x h3, a3 x h1]
  · intro x hx
    by_cases q : x ∈ W2 ++ l2
    · exact b4 x q
    · rw [b3 x q]
      refine a4 x ?_
      rw [← List.append_assoc] at hx
      rcases List.mem_append.mp hx with hx | hx
      · exact hx
      · exact absurd (List.mem_append_right _ hx) q
theorem xt.new {G : hG} {h h1 : hp} {l W : List Nat} (x1 : xt G h h1 l W) {q : Nat} {c : hE} (hq : h1 q = none) (hg : q ≠ G.2.2) : xt G h (va_up h1 q (some c)) (l ++ [q]) W := by
  refine x1.call (W2 := []) ⟨by simp, fun x hx => ?_, fun x hx => ?_, fun x hx => ?_⟩ (fun x hx => absurd hx List.not_mem_nil)
  · rw [List.mem_singleton.mp hx]; exact ⟨hq, hg⟩
  · exact va_up_ne _ _ (fun e => hx (by simp [e]))
  · have e : x = q := by simpa using hx
    rw [e, va_up_self]
    exact fun z => by cases z
theorem xt.wr {G : hG} {h h1 : hp} {l W : List Nat} (x1 : xt G h h1 l W) {q : Nat} {c : hE} (hq : q ∈ W ++ l) : xt G h (va_up h1 q (some c)) l W := by
  obtain ⟨a1, a2, a3, a4⟩ := x1
  refine ⟨a1, a2, fun x hx => ?_, fun x hx => ?_⟩
  · rw [va_up_ne _ _ (show x ≠ q from fun e => hx (by rw [e]; exact hq))]
    exact a3 x hx
  · by_cases e : x = q
    · rw [e, va_up_self]
      exact fun z => by cases z
    · rw [va_up_ne _ _ e]
      exact a4 x hx
/-- an old cell that wasn't written -/
theorem xt.keep {G : hG} {h h1 : hp} {l W : List Nat} (x1 : xt G h h1 l W) {y : Nat} {c : hE} (hy : h y = some c) (hW : y ∉ W) : h1 y = some c := by
  rw [x1.2.2.1 y, hy]
  intro q
  rcases List.mem_append.mp q with q | q
  · exact hW q
  · have := (x1.2.1 y q).1
    rw [hy] at this
    cases this
theorem xt.keep1 {G : hG} {h h1 : hp} {l : List Nat} {w : Nat} (x1 : xt G h h1 l [w]) {y : Nat} {c : hE} (hy : h y = some c) (hW : y ≠ w) : h1 y = some c := x1.keep hy (fun q => hW (List.mem_singleton.mp q))
theorem xt.ne {G : hG} {h h1 : hp} {l W : List Nat} (x1 : xt G h h1 l W) {y q : Nat} {c : hE} (hy : h y = some c) (hq : q ∈ l) : y ≠ q := ne_nw hy (x1.2.1 q hq).1
theorem nn {h : hp} {x : Nat} {c : hE} (e : h x = some c) : h x ≠ none := by rw [e]; exact fun q => by cases q
