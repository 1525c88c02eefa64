/-! names for what lies on the stack; answers that are yes or no -/
section PWN
variable {G : hG} {M M2 : hMI} {d : Nat} {Ps : hAmb} {E : hEnd} {kc ks mc ms pc pc2 tgt : Nat} {L : List (Nat × Value)} {S rest : List Value} {h : hp}
theorem pw_topi {x : Int32} (k : ∀ y : Int32, y = x → PW G M d Ps E kc ks pc L (.int y :: S) h) : PW G M d Ps E kc ks pc L (.int x :: S) h := k x rfl
theorem pw_topr {x : Option Nat} (k : ∀ y : Option Nat, y = x → PW G M d Ps E kc ks pc L (va_rf y :: S) h) : PW G M d Ps E kc ks pc L (va_rf x :: S) h := k x rfl
theorem cat_rf (r : Option Nat) : (va_rf r).category = 1 := by cases r <;> rfl
theorem nar_rf (t : FieldType) (r : Option Nat) : narrow t (va_rf r) = va_rf r := by cases r <;> cases t <;> rfl
theorem fit_rf (C : String) (r : Option Nat) : fits (.object C) (va_rf r) = true := by cases r <;> rfl
/-- yes or no: 1 where Y holds, else 0; the heap stays -/
def bR (Y : Prop) (h : hp) : Option Value → hp → Prop := fun r h' => h' = h ∧ ((Y ∧ r = some (.int 1)) ∨ (¬ Y ∧ r = some (.int 0)))
theorem bR_1 {Y : Prop} {h : hp} (q : Y) : bR Y h (some (.int 1)) h := ⟨rfl, Or.inl ⟨q, rfl⟩⟩
theorem bR_0 {Y : Prop} {h : hp} (q : ¬ Y) : bR Y h (some (.int 0)) h := ⟨rfl, Or.inr ⟨q, rfl⟩⟩
def b2i (b : Bool) : Int32 := if b then 1 else 0
theorem pw_callSb {Y : Prop} {k idx n : Nat} {As : List Value} (hc : PMet G M2 k mc ms As h (bR Y h) noX) (cs : CSs M.1.cls M2 idx n) (hn : As.length = n) (hdg : decode M.2.1 pc = .ok (.invokestatic idx, 3)) (hpc : pc + 3 = pc2) (hd : k + 1 ≤ d) (hst : S = As.reverse ++ rest) (hcat : (rest.map fun v => v.category).sum ≤ 8)
    (k1 : Y → PW G M d Ps E kc ks pc2 L (.int 1 :: rest) h) (k0 : ¬ Y → PW G M d Ps E kc ks pc2 L (.int 0 :: rest) h) : PW G M d Ps E (kc + mc) (ks + ms) pc L S h := by
  refine pw_callS hc cs hn hdg hpc hd hst hcat (fun r h' q => ?_) (fun Y9 h' q => q.elim)
  obtain ⟨rfl, ⟨hY, rfl⟩ | ⟨hY, rfl⟩⟩ := q
  · exact k1 hY
  · exact k0 hY
theorem pw_callVb {Y : Prop} {k idx n ci b : Nat} {fs : List Value} {As : List Value} (hc : PMet G M2 k mc ms (.ref b :: As) h (bR Y h) noX) (cs : CSv M.1.cls M2 idx n ci) (hn : As.length = n) (hh : M2.2.2.2.2 = []) (hbo : h b = some (.inr (ci, fs))) (hdg : decode M.2.1 pc = .ok (.invokevirtual idx, 3)) (hpc : pc + 3 = pc2) (hd : k + 1 ≤ d) (hst : S = As.reverse ++ .ref b :: rest) (hcat : (rest.map fun v => v.category).sum ≤ 8)
    (k1 : Y → PW G M d Ps E kc ks pc2 L (.int 1 :: rest) h) (k0 : ¬ Y → PW G M d Ps E kc ks pc2 L (.int 0 :: rest) h) : PW G M d Ps E (kc + mc) (ks + ms) pc L S h := by
  refine pw_callV hc cs hn hh hbo hdg hpc hd hst hcat (fun r h' q => ?_) (fun Y9 h' q => q.elim)
  obtain ⟨rfl, ⟨hY, rfl⟩ | ⟨hY, rfl⟩⟩ := q
  · exact k1 hY
  · exact k0 hY
theorem pw_callNb {Y : Prop} {k idx n : Nat} {As : List Value} (hc : PMet G M2 k mc ms As h (bR Y h) noX) (cs : CSn M.1.cls M2 idx n) (hn : As.length = n) (hh : M2.2.2.2.2 = []) (hdg : decode M.2.1 pc = .ok (.invokestatic idx, 3)) (hpc : pc + 3 = pc2) (hd : k + 1 ≤ d) (hst : S = As.reverse ++ rest) (hcat : (rest.map fun v => v.category).sum ≤ 8)
    (k1 : Y → PW G M d Ps E kc ks pc2 L (.int 1 :: rest) h) (k0 : ¬ Y → PW G M d Ps E kc ks pc2 L (.int 0 :: rest) h) : PW G M d Ps E (kc + mc) (ks + ms) pc L S h := by
  refine pw_callN hc cs hn hh hdg hpc hd hst hcat (fun r h' q => ?_) (fun Y9 h' q => q.elim)
  obtain ⟨rfl, ⟨hY, rfl⟩ | ⟨hY, rfl⟩⟩ := q
  · exact k1 hY
  · exact k0 hY
end PWN
