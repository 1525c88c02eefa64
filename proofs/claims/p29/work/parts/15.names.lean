/-! names for what lies on the stack; answers that are yes or no -/
section PWN
variable {G : hG} {M M2 : hMI} {d : Nat} {Ps : hAmb} {E : hEnd} {kc ks mc ms pc pc2 tgt : Nat} {L : List (Nat × Value)} {S rest : List Value} {h : hp}
theorem pw_topi {x : Int32} (k : ∀ y : Int32, y = x → PW G M d Ps E kc ks pc L (.int y :: S) h) : PW G M d Ps E kc ks pc L (.int x :: S) h := k x rfl
theorem pw_topr {x : Option Nat} (k : ∀ y : Option Nat, y = x → PW G M d Ps E kc ks pc L (va_rf y :: S) h) : PW G M d Ps E kc ks pc L (va_rf x :: S) h := k x rfl
theorem cat_rf (r : Option Nat) : (va_rf r).category = 1 := by cases r <;> rfl
theorem nar_rf (t : FieldType) (r : Option Nat) : narrow t (va_rf r) = va_rf r := by cases r <;> cases t <;> rfl
theorem fit_rf (C : String) (r : Option Nat) : fits (.object C) (va_rf r) = true := by cases r <;> rfl
/-- yes or no: 1 where Y holds, else 0; the heap stays -/
def bR (Y : Prop) (h : hp) : Option Value → hp → Prop := fun r h' => h' = h ∧ ((Y ∧ r = some (.int 1)) ∨ (¬ Y ∧ r = some (.int 0)))
theorem bR_1 {Y : Prop} {h : hp} (q : Y) : bR Y h (some (.int 1)) h := ⟨rfl, Or.inl ⟨q, rfl⟩⟩
theorem bR_0 {Y : Prop} {h : hp} (q : ¬ Y) : bR Y h (some (.int 0)) h := ⟨rfl, Or.inr ⟨q, rfl⟩⟩
def b2i (b : Bool) : Int32 := if b then 1 else 0
theorem pw_callSb {Y : Prop} {k idx n : Nat} {As : List Value} (hc : PMet G M2 k mc ms As h (bR Y h) noX) (cs : CSs M.1.cls M2 idx n) (hn : As.length = n) (hdg : decode M.2.1 pc = .ok (.invokestatic idx, 3)) (hpc : pc + 3 = pc2) (hd : k + 1 ≤ d) (hst : S = As.reverse ++ rest) (hcat : (rest.map fun v => v.category).sum ≤ 8)
    (k1 : Y → PW G M d Ps E kc ks pc2 L (.int 1 :: rest) h) (k0 : ¬ Y → PW G M d Ps E kc ks pc2 L (.int 0 :: rest) h) : PW G M d Ps E (kc + mc) (ks + ms) pc L S h := by
  refine pw_callS hc cs hn hdg hpc hd hst hcat (fun r h' q => ?_) (fun Y9 h' q => q.elim)
  obtain ⟨rfl, ⟨hY, rfl⟩ | ⟨hY, rfl⟩⟩ := q
  · exact k1 hY
  · exact k0 hY
theorem pw_callVb {Y : Prop} {k idx n ci b : Nat} {fs : List Value} {As : List Value} (hc : PMet G M2 k mc ms (.ref b :: As) h (bR Y h) noX) (cs : CSv M.1.cls M2 idx n ci) (hn : As.length = n) (hh : M2.2.2.2.2 = []) (hbo : h b = some (.inr (ci, fs))) (hdg : decode M.2.1 pc = .ok (.invokevirtual idx, 3)) (hpc : pc + 3 = pc2) (hd : k + 1 ≤ d) (hst : S = As.reverse ++ .ref b :: rest) (hcat : (rest.map fun v => v.category).sum ≤ 8)
    (k1 : Y → PW G M d Ps E kc ks pc2 L (.int 1 :: rest) h) (k0 : ¬ Y → PW G M d Ps E kc ks pc2 L (.int 0 :: rest) h) : PW G M d Ps E (kc + mc) (ks + ms) pc L S h := by
  refine pw_callV hc cs hn hh hbo hdg hpc hd hst hcat (fun r h' q => ?_) (fun Y9 h' q => q.elim)
  obtain ⟨rfl, ⟨hY, rfl⟩ | ⟨hY, rfl⟩⟩ := q
  · exact k1 hY
  · exact k0 hY
theorem pw_callNb {Y : Prop} {k idx n : Nat} {As : List Value} (hc : PMet G M2 k mc ms As h (bR Y h) noX) (cs : CSn M.1.cls M2 idx n) (hn : As.length = n) (hh : M2.2.2.2.2 = []) (hdg : decode M.2.1 pc = .ok (.invokestatic idx, 3)) (hpc : pc + 3 = pc2) (hd : k + 1 ≤ d) (hst : S = As.reverse ++ rest) (hcat : (rest.map fun v => v.category).sum ≤ 8)
    (k1 : Y → PW G M d Ps E kc ks pc2 L (.int 1 :: rest) h) (k0 : ¬ Y → PW G M d Ps E kc ks pc2 L (.int 0 :: rest) h) : PW G M d Ps E (kc + mc) (ks + ms) pc L S h := by
  refine pw_callN hc cs hn hh hdg hpc hd hst hcat (fun r h' q => ?_) (fun Y9 h' q => q.elim)
  obtain ⟨rfl, ⟨hY, rfl⟩ | ⟨hY, rfl⟩⟩ := q
  · exact k1 hY
  · exact k0 hY
theorem clN {i n : Nat} (hi : i < n) (hn : n < 2147483648) : (nI i).toNatClampNeg = i := nI_clamp (by omega)
theorem inN {i n : Nat} (hi : i < n) (hn : n < 2147483648) : vp_in (nI i) n := vp_in_nI hi hn
variable {a : Nat}
theorem pw_ialdN {n i : Nat} {f : Nat → Int32} (he : h a = some (aI n f)) (hi : i < n) (hn : n < 2147483648) (hdg : decode M.2.1 pc = .ok (.iaload, 1)) (hpc : pc + 1 = pc2) (kk : PW G M d Ps E kc ks pc2 L (.int (f i) :: S) h) : PW G M d Ps E kc ks pc L (.int (nI i) :: .ref a :: S) h := pw_iald he (inN hi hn) hdg hpc (by rw [clN hi hn]; exact kk)
theorem pw_zaldN {n i : Nat} {f : Nat → Int32} (he : h a = some (aZ n f)) (hi : i < n) (hn : n < 2147483648) (hdg : decode M.2.1 pc = .ok (.baload, 1)) (hpc : pc + 1 = pc2) (kk : PW G M d Ps E kc ks pc2 L (.int (f i) :: S) h) : PW G M d Ps E kc ks pc L (.int (nI i) :: .ref a :: S) h := pw_zald he (inN hi hn) hdg hpc (by rw [clN hi hn]; exact kk)
theorem pw_aaldN {t : FieldType} {n i : Nat} {f : Nat → Option Nat} (t0 : Nat) (ht : arrTys[t0]? = some t) (hrt : t.isReference = true) (he : h a = some (aR t n f)) (hi : i < n) (hn : n < 2147483648) (hdg : decode M.2.1 pc = .ok (.aaload, 1)) (hpc : pc + 1 = pc2) (kk : PW G M d Ps E kc ks pc2 L (va_rf (f i) :: S) h) : PW G M d Ps E kc ks pc L (.int (nI i) :: .ref a :: S) h := pw_aald t0 ht hrt he (inN hi hn) hdg hpc (by rw [clN hi hn]; exact kk)
theorem pw_iastN {n i : Nat} {f : Nat → Int32} {x : Int32} (he : h a = some (aI n f)) (hi : i < n) (hn : n < 2147483648) (hdg : decode M.2.1 pc = .ok (.iastore, 1)) (hpc : pc + 1 = pc2) (kk : PW G M d Ps E kc ks pc2 L S (va_up h a (some (aI n (upd f i x))))) : PW G M d Ps E kc ks pc L (.int x :: .int (nI i) :: .ref a :: S) h := pw_iast he (inN hi hn) hdg hpc (by rw [clN hi hn]; exact kk)
theorem pw_zastN {n i : Nat} {f : Nat → Int32} {x : Int32} (he : h a = some (aZ n f)) (hi : i < n) (hn : n < 2147483648) (hx01 : vp_nar .boolean x = x) (hdg : decode M.2.1 pc = .ok (.bastore, 1)) (hpc : pc + 1 = pc2) (kk : PW G M d Ps E kc ks pc2 L S (va_up h a (some (aZ n (upd f i x))))) : PW G M d Ps E kc ks pc L (.int x :: .int (nI i) :: .ref a :: S) h := pw_zast he (inN hi hn) hx01 hdg hpc (by rw [clN hi hn]; exact kk)
/-- a choice's place is written: a release, or null -/
theorem pw_aastR {n i : Nat} {f : Nat → Option Nat} {r : Option Nat} (he : h a = some (aR tRel n f)) (hr : ∀ b, r = some b → ∃ gs, h b = some (.inr (8, gs))) (hi : i < n) (hn : n < 2147483648) (hca : Cond.castable "PackageForge$Release" "PackageForge$Release" ∈ nws) (hdg : decode M.2.1 pc = .ok (.aastore, 1)) (hpc : pc + 1 = pc2) (kk : PW G M d Ps E kc ks pc2 L S (va_up h a (some (aR tRel n (va_up f i r))))) : PW G M d Ps E kc ks pc L (va_rf r :: .int (nI i) :: .ref a :: S) h := by
  cases r with
  | none => exact pw_aastN 4 rfl he (inN hi hn) hdg hpc (by rw [clN hi hn]; exact kk)
  | some b =>
    obtain ⟨gs, hb⟩ := hr b rfl
    exact pw_aastO 4 rfl (cj := 8) rfl hca he hb (inN hi hn) hdg hpc (by rw [clN hi hn]; exact kk)
end PWN
theorem ti_0 : (0 : Int32).toInt = 0 := rfl
theorem ti_1 : (1 : Int32).toInt = 1 := rfl
theorem ti_2 : (2 : Int32).toInt = 2 := rfl
theorem ti_3 : (3 : Int32).toInt = 3 := rfl
theorem ti_4 : (4 : Int32).toInt = 4 := rfl
theorem ti_5 : (5 : Int32).toInt = 5 := rfl
theorem ti_6 : (6 : Int32).toInt = 6 := rfl
theorem ti_8 : (8 : Int32).toInt = 8 := rfl
theorem ti_20 : (20 : Int32).toInt = 20 := rfl
theorem ti_60 : (60 : Int32).toInt = 60 := rfl
theorem ti_99 : (99 : Int32).toInt = 99 := rfl
theorem ti_100 : (100 : Int32).toInt = 100 := rfl
theorem ti_999 : (999 : Int32).toInt = 999 := rfl
theorem ti_9999 : (9999 : Int32).toInt = 9999 := rfl
theorem nI_six : nI 6 = 6 := rfl
theorem l6 {i : Nat} (h : i ≤ 6) : (6 : Int32) ≤ nI i ↔ 6 ≤ i := nI_leI (a := 6) (b := i) (by omega) (by omega)
theorem g6 {i : Nat} (h : i ≤ 6) : nI i < (6 : Int32) ↔ i < 6 := nI_ltI (a := i) (b := 6) (by omega) (by omega)
