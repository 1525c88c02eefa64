/-! the relation is kept: publishing -/
theorem i32_nat {v : Int32} (h1 : 100 ≤ v) (h2 : v ≤ 999) : ∃ w : Nat, 100 ≤ w ∧ w ≤ 999 ∧ v = nI w := by
  have e1 : (100 : Int32).toInt = 100 := rfl
  have e9 : (999 : Int32).toInt = 999 := rfl
  rw [Int32.le_iff_toInt_le] at h1 h2
  refine ⟨v.toInt.toNat, by omega, by omega, ?_⟩
  apply Int32.toInt_inj.mp
  rw [nI_toInt (by omega)]
  omega
theorem dv100 : ∀ w, w < 1000 → nI w / 100 = nI (w / 100) := by decide +kernel
/-- the next version is greater than the last one's, and at least 100 -/
theorem nxt_gt {v : Int32} (h1 : 100 ≤ v) (h2 : v ≤ 999) : (v < v + 1 ∧ 100 ≤ v + 1) ∧ v < (v / 100 + 1) * 100 ∧ 100 ≤ (v / 100 + 1) * 100 := by
  obtain ⟨w, a, b, rfl⟩ := i32_nat h1 h2
  have e3 : (nI w / 100 + 1) * 100 = nI ((w / 100 + 1) * 100) := by
    rw [dv100 w (by omega), nI_1]
    exact nI_mul _ _
  rw [e3, nI_1]
  refine ⟨⟨(nI_ltI (by omega) (by omega)).mpr (by omega), (nI_leI (a := 100) (by omega) (by omega)).mpr (by omega)⟩, (nI_ltI (by omega) (by omega)).mpr (by omega), (nI_leI (a := 100) (by omega) (by omega)).mpr (by omega)⟩
theorem vAh_gt {σ : sT} {ofr : Nat → Nat} (hR : RR σ ofr) {p : Nat} (hp : p < 6) : 100 ≤ vAh σ p ∧ ∀ r, r < nrl σ → ofr r = p → σ.1 40 r 0 < vAh σ p := by
  obtain ⟨os, hl⟩ : ∃ os, lsF ofr p (nrl σ) = os := ⟨_, rfl⟩
  cases os with
  | none =>
    rw [vAh_0 hR.1 hp hl]
    refine ⟨by decide, fun r hr ho => ?_⟩
    have h0 := lsF_n _ hl
    have h1 := cntq_le ofr p (a := r + 1) (b := nrl σ) (by omega)
    have h2 : cntq ofr p (r + 1) = cntq ofr p r + 1 := by show cntq ofr p r + _ = _; rw [if_pos ho]
    omega
  | some x =>
    rw [vAh_x hR.1 hp hl]
    obtain ⟨x1, x2, x3⟩ := lsF_x _ hl
    obtain ⟨⟨n1, n2⟩, n3, n4⟩ := nxt_gt (hR.2.1 x x1).2.1.1 (hR.2.1 x x1).2.1.2
    have hle : ∀ r, r < nrl σ → ofr r = p → σ.1 40 r 0 ≤ σ.1 40 x 0 := fun r hr ho => by
      rcases Nat.lt_trichotomy r x with q | q | q
      · have z := hR.2.2 r x q x1 (ho.trans x2.symm)
        rw [Int32.lt_iff_toInt_lt] at z
        rw [Int32.le_iff_toInt_le]
        omega
      · rw [q]; exact Int32.le_refl _
      · exfalso
        have h1 := cntq_le ofr p (a := r + 1) (b := nrl σ) (by omega)
        have h2 : cntq ofr p (r + 1) = cntq ofr p r + 1 := by show cntq ofr p r + _ = _; rw [if_pos ho]
        have h3 := cntq_le ofr p (a := x + 1) (b := r) (by omega)
        have h4 : cntq ofr p (x + 1) = cntq ofr p x + 1 := by show cntq ofr p x + _ = _; rw [if_pos x2]
        omega
    have tr : ∀ {a b c : Int32}, a ≤ b → b < c → a < c := fun {a b c} q1 q2 => by
      rw [Int32.le_iff_toInt_le] at q1
      rw [Int32.lt_iff_toInt_lt] at q2 ⊢
      omega
    by_cases e : σ.1 40 x 1 = σ.1 21 p 0
    · rw [if_pos e]
      exact ⟨n2, fun r hr ho => tr (hle r hr ho) n1⟩
    · rw [if_neg e]
      exact ⟨n4, fun r hr ho => tr (hle r hr ho) n3⟩
def ofN (ofr : Nat → Nat) (n p : Nat) : Nat → Nat := fun x => if x = n then p else ofr x
theorem cntq_ofN {ofr : Nat → Nat} {n p q : Nat} : ∀ m, m ≤ n → cntq (ofN ofr n p) q m = cntq ofr q m
  | 0, _ => rfl
  | m + 1, h => by
    show cntq (ofN ofr n p) q m + (if ofN ofr n p m = q then 1 else 0) = cntq ofr q m + (if ofr m = q then 1 else 0)
    rw [cntq_ofN m (by omega), show ofN ofr n p m = ofr m from if_neg (by omega)]
section RPUB
variable {σ : sT} {ofr : Nat → Nat} {p : Nat} {v : Int32} {g : Nat → Option Nat} {mc mc3 : Int32} {e2 cap2 e3 cap3 : Nat} {g2 g3 : Nat → Option Nat} {C R1 R2 R3 : Nat → Int32}
theorem R_pu (h : REL σ ofr) (hI : IV σ) (hp : p < npk σ) (hn : nrl σ < 20) (hv : v = vAh σ p) (hv9 : v ≤ 999) (hgo : ∀ j x, g j = some x → ofr x = j ∧ x < nrl σ) (hRR : ∀ j, j < 6 → R1 j = σ.1 91 p j ∧ R2 j = σ.1 92 p j ∧ R3 j = vG σ (g j)) : REL (mixS (rlS (setO σ 9 0 g) p v (σ.1 21 p 0) (σ.1 23 p) (σ.1 24 p) g mc mc3 e2 cap2 e3 cap3 g2 g3) (mPU σ p (nrl σ) C v R1 R2 R3)) (ofN ofr (nrl σ) p) := by
  obtain ⟨⟨⟨b1, b2, b3⟩, o2, o6, o7, o8⟩, hS, hC, hP, hR, hT, hZ⟩ := h
  have hnp := hI.1
  obtain ⟨s1, s2, s3, s4, s5, s6⟩ := hS p hp
  obtain ⟨va1, va2⟩ := vAh_gt hR (p := p) (by omega)
  rw [← hv] at va1 va2
  obtain ⟨S, hSd⟩ : ∃ S, S = mixS (rlS (setO σ 9 0 g) p v (σ.1 21 p 0) (σ.1 23 p) (σ.1 24 p) g mc mc3 e2 cap2 e3 cap3 g2 g3) (mPU σ p (nrl σ) C v R1 R2 R3) := ⟨_, rfl⟩
  have kr : nrl S = nrl σ + 1 := by rw [hSd]; rfl
  have kp : npk S = npk σ := by rw [hSd]; rfl
  have c40 : S.1 40 (nrl σ) = (fun k => if k = 0 then v else if k = 1 then σ.1 21 p 0 else 0) := by rw [hSd]; exact (if_pos ⟨by decide, by decide, rfl⟩).trans (if_pos rfl)
  have c42 : S.1 42 (nrl σ) = σ.1 23 p := by rw [hSd]; exact (if_pos ⟨by decide, by decide, rfl⟩).trans rfl
  have c43 : S.1 43 (nrl σ) = σ.1 24 p := by rw [hSd]; exact (if_pos ⟨by decide, by decide, rfl⟩).trans rfl
  have n40 : ∀ u x, (u = 40 ∨ u = 42 ∨ u = 43) → ¬ x = nrl σ → S.1 u x = σ.1 u x := fun u x hu hx => by
    rw [hSd]
    rcases hu with rfl | rfl | rfl <;> exact (if_neg (fun z => hx z.2.2)).trans rfl
  have c45 : S.2.2 45 (nrl σ) = g := by rw [hSd]; exact (if_pos ⟨by decide, by decide, rfl⟩).trans rfl
  have n45 : ∀ x, ¬ x = nrl σ → S.2.2 45 x = σ.2.2 45 x := fun x hx => by rw [hSd]; exact (if_neg (fun z => hx z.2.2)).trans rfl
  have r77 : S.1 77 0 = upd (σ.1 77 0) (nrl σ) (nI p) := by rw [hSd]; rfl
  have r78 : S.1 78 0 = upd (σ.1 78 0) (nrl σ) v := by rw [hSd]; rfl
  have r79 : S.1 79 0 = upd (σ.1 79 0) (nrl σ) (σ.1 62 0 p) := by rw [hSd]; rfl
  have r83 : S.1 83 0 = σ.1 83 0 := by rw [hSd]; rfl
  have c97 : S.1 97 (nrl σ) = R1 := by rw [hSd]; exact setI_s (σ := mP7 σ p (nrl σ) C v) 97 (nrl σ) R1
  have c98 : S.1 98 (nrl σ) = R2 := by rw [hSd]; exact setI_s (σ := setI (mP7 σ p (nrl σ) C v) 97 (nrl σ) R1) 98 (nrl σ) R2
  have c99 : S.1 99 (nrl σ) = R3 := by rw [hSd]; exact setI_s (σ := setI (setI (mP7 σ p (nrl σ) C v) 97 (nrl σ) R1) 98 (nrl σ) R2) 99 (nrl σ) R3
  have n97 : ∀ x, ¬ x = nrl σ → S.1 97 x = σ.1 97 x := fun x e => by rw [hSd]; exact setI_n (σ := mP7 σ p (nrl σ) C v) (t := 97) (Or.inr e)
  have n98 : ∀ x, ¬ x = nrl σ → S.1 98 x = σ.1 98 x := fun x e => by rw [hSd]; exact setI_n (σ := setI (mP7 σ p (nrl σ) C v) 97 (nrl σ) R1) (t := 98) (Or.inr e)
  have n99 : ∀ x, ¬ x = nrl σ → S.1 99 x = σ.1 99 x := fun x e => by rw [hSd]; exact setI_n (σ := setI (setI (mP7 σ p (nrl σ) C v) 97 (nrl σ) R1) 98 (nrl σ) R2) (t := 99) (Or.inr e)
  have hrn : ∀ q, rnp S q = if q = p then rnp σ p + 1 else rnp σ q := fun q => by
    rw [hSd]
    show rlN (setO σ 9 0 g) p e2 cap2 e3 cap3 201 q 0 = _
    unfold rlN
    by_cases e : q = p
    · rw [if_neg (by omega), if_pos ⟨rfl, e, rfl⟩, if_pos e]; rfl
    · rw [if_neg (by omega), if_neg (fun z => e z.2.1), if_neg (by omega), if_neg (by omega), if_neg (by omega), if_neg (by decide), if_neg (by decide), if_neg (fun z => by have := z.2.1; omega), if_neg e]; rfl
  have hix : ∀ q i, ixp S q i = if q = p ∧ i = rnp σ p then nrl σ else ixp σ q i := fun q i => by
    rw [hSd]
    show rlN (setO σ 9 0 g) p e2 cap2 e3 cap3 202 q i = _
    unfold rlN
    by_cases e : q = p ∧ i = rnp σ p
    · rw [if_neg (by omega), if_neg (by omega), if_pos ⟨rfl, e.1, e.2⟩, if_pos e]; rfl
    · rw [if_neg (by omega), if_neg (by omega), if_neg (fun z => e z.2), if_neg (by omega), if_neg (by omega), if_neg (by decide), if_neg (by decide), if_neg (fun z => by have := z.2.1; omega), if_neg e]; rfl
  have of_n : ofN ofr (nrl σ) p (nrl σ) = p := if_pos rfl
  have of_o : ∀ x, x < nrl σ → ofN ofr (nrl σ) p x = ofr x := fun x hx => if_neg (by omega)
  have vGS : ∀ o, (∀ x, o = some x → x < nrl σ) → vG S o = vG σ o := fun o ho => by
    cases o with
    | none => rfl
    | some x =>
      show S.1 40 x 0 = σ.1 40 x 0
      rw [n40 40 x (Or.inl rfl) (by have := ho x rfl; omega)]
  rw [← hSd]
  have RPk : RP S (ofN ofr (nrl σ) p) := fun q hq => by
    rw [kp] at hq
    have e71 : S.1 71 0 q = σ.1 71 0 q := by rw [hSd]; rfl
    have e27 : S.1 27 q = σ.1 27 q := by rw [hSd]; rfl
    have e73 : S.1 73 0 q = σ.1 73 0 q := by rw [hSd]; rfl
    have e74 : S.1 74 0 q = σ.1 74 0 q := by rw [hSd]; rfl
    have e28 : S.1 28 q = σ.1 28 q := by rw [hSd]; rfl
    have e30 : S.1 30 q = σ.1 30 q := by rw [hSd]; rfl
    have e31 : S.1 31 q = σ.1 31 q := by rw [hSd]; rfl
    have e94 : S.1 94 q = σ.1 94 q := by rw [hSd]; rfl
    have e95 : S.1 95 q = σ.1 95 q := by rw [hSd]; rfl
    have e96 : S.1 96 q = σ.1 96 q := by rw [hSd]; rfl
    have e33 : S.2.2 33 q = σ.2.2 33 q := by rw [hSd]; rfl
    rw [e71, e27, e73, e74, e28, e30, e31, e94, e95, e96, e33]
    obtain ⟨x1, x2⟩ := hP q hq
    refine ⟨x1, x2.imp id (fun ⟨x3, x4, x5⟩ => ⟨x3, x4, fun j hj => ?_⟩)⟩
    obtain ⟨x6, x7, x8, x9⟩ := x5 j hj
    have hb : ∀ x, σ.2.2 33 q j = some x → x < nrl σ := fun x hx => hI.2.2.2.2.2.2.1 q hq j x hx
    exact ⟨x6, x7, x8.trans (vGS _ hb).symm, fun x hx => (of_o x (hb x hx)).trans (x9 x hx)⟩
  have RRk : RR S (ofN ofr (nrl σ) p) := by
    refine ⟨⟨fun x hx => ?_, fun q hq => ?_⟩, fun x hx => ?_, fun r s h1 h2 h3 => ?_⟩
    · rw [kr] at hx
      rw [kp, r77, r78, r79, r83]
      by_cases e : x = nrl σ
      · subst e
        rw [of_n, c40, c42, c43, c97, c98, upd_s, upd_s, upd_s]
        refine ⟨hp, rfl, rfl, s1, hZ.2.2 (nrl σ) (Nat.le_refl _) hn, fun k hk => ?_⟩
        obtain ⟨x1, x2, x3⟩ := hRR k hk
        exact ⟨x1.trans (congrFun s3 k), x2.trans (congrFun s4 k), (s5 k hk).1⟩
      · have hx' : x < nrl σ := by omega
        rw [of_o x hx', n40 40 x (Or.inl rfl) e, n40 42 x (Or.inr (Or.inl rfl)) e, n40 43 x (Or.inr (Or.inr rfl)) e, n97 x e, n98 x e, show upd (σ.1 77 0) (nrl σ) (nI p) x = σ.1 77 0 x from if_neg e, show upd (σ.1 78 0) (nrl σ) v x = σ.1 78 0 x from if_neg e, show upd (σ.1 79 0) (nrl σ) (σ.1 62 0 p) x = σ.1 79 0 x from if_neg e]
        exact hR.1.1 x hx'
    · obtain ⟨q1, q2⟩ := hR.1.2 q hq
      rw [kr, hrn]
      refine ⟨?_, fun r hr ho => ?_⟩
      · show _ = cntq (ofN ofr (nrl σ) p) q (nrl σ) + (if ofN ofr (nrl σ) p (nrl σ) = q then 1 else 0)
        rw [cntq_ofN _ (Nat.le_refl _), of_n]
        by_cases e : q = p
        · subst e; rw [if_pos rfl, if_pos rfl, q1]
        · rw [if_neg e, if_neg (fun z => e z.symm), q1]; rfl
      · rw [cntq_ofN r (by omega), hix]
        by_cases e : r = nrl σ
        · subst e
          rw [of_n] at ho
          subst ho
          rw [if_pos ⟨rfl, q1.symm⟩]
        · have hr' : r < nrl σ := by omega
          rw [of_o r hr'] at ho
          have hlt : cntq ofr q r < rnp σ q := by
            rw [q1]
            have h1 := cntq_le ofr q (a := r + 1) (b := nrl σ) (by omega)
            have h2 : cntq ofr q (r + 1) = cntq ofr q r + 1 := by show cntq ofr q r + _ = _; rw [if_pos ho]
            omega
          rw [if_neg (fun z => by obtain ⟨z1, z2⟩ := z; rw [z1] at z2 hlt; omega)]
          exact q2 r hr' ho
    · rw [kr] at hx
      by_cases e : x = nrl σ
      · subst e
        rw [c40, c43, c45, c99, of_n]
        refine ⟨fun j hj => ⟨(hRR j hj).2.2.trans (vGS _ (fun x hx => (hgo j x hx).2)).symm, fun x hx => (of_o x (hgo j x hx).2).trans (hgo j x hx).1⟩, ⟨va1, hv9⟩, s6.1, fun j h1 h2 => (s5 j h2).2 h1⟩
      · have hx' : x < nrl σ := by omega
        obtain ⟨x1, x2, x3, x4⟩ := hR.2.1 x hx'
        rw [n40 40 x (Or.inl rfl) e, n40 43 x (Or.inr (Or.inr rfl)) e, n45 x e, n99 x e, of_o x hx']
        have hb : ∀ j y, σ.2.2 45 x j = some y → y < nrl σ := fun j y hy => hI.2.2.2.2.2.2.2.1 x hx' j y hy
        exact ⟨fun j hj => ⟨((x1 j hj).1).trans (vGS _ (hb j)).symm, fun y hy => (of_o y (hb j y hy)).trans ((x1 j hj).2 y hy)⟩, x2, x3, x4⟩
    · rw [kr] at h2
      have hr' : r < nrl σ := by omega
      rw [of_o r hr'] at h3
      rw [n40 40 r (Or.inl rfl) (by omega)]
      by_cases e : s = nrl σ
      · subst e
        rw [of_n] at h3
        rw [c40]
        exact va2 r hr' h3
      · have hs' : s < nrl σ := by omega
        rw [of_o s hs'] at h3
        rw [n40 40 s (Or.inl rfl) e]
        exact hR.2.2 r s h1 hs' h3
  have ROk : RO S := by rw [hSd]; exact ⟨⟨b1, rfl, b3⟩, o2, o6, o7, o8⟩
  have RSk : RS S := by rw [hSd]; exact hS
  have RCk : RC S := by rw [hSd]; exact hC
  have RTk : RT S := by rw [hSd]; exact hT
  have RZk : RZ S := by
    refine ⟨by rw [hSd]; exact hZ.1, by rw [hSd]; exact hZ.2.1, fun x hx1 hx2 => ?_⟩
    rw [kr] at hx1
    rw [r83]
    exact hZ.2.2 x (by omega) hx2
  exact ⟨ROk, RSk, RCk, RPk, RRk, RTk, RZk⟩
end RPUB
