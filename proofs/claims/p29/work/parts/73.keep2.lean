/-! what holds is kept by each call -/
theorem nI_add_ (a b : Nat) : nI a + nI b = nI (a + b) := (Int32.ofNat_add a b).symm
section JK2
variable {σ : sT} {ofr : Nat → Nat} {N m p : Nat}
theorem J_ss (h : J σ ofr N) {f b : Int32} : J (ssS σ p f b) ofr N := h
theorem D_ss (h : JD σ ofr m) {f b : Int32} : JD (ssS σ p f b) ofr m := h
theorem J_nd (h : J σ ofr N) (hp : p < npk σ) {q : Nat} {l g : Int32} (hq : q < p ∨ g = 0) : J (ndS σ p q l g) ofr N := by
  obtain ⟨hO, hS, hM, hR, hT⟩ := h
  refine ⟨hO, fun x hx j h1 h2 => ?_, hM, hR, hT⟩
  have a24 : (ndS σ p q l g).1 24 p = upd (σ.1 24 p) q g := setI_s (σ := setI σ 23 p (upd (σ.1 23 p) q l)) 24 p _
  by_cases e : x = p
  · subst e
    rw [a24]
    by_cases ej : j = q
    · subst ej
      rw [upd_s]
      exact hq.resolve_left (by omega)
    · exact (if_neg ej).trans (hS x hx j h1 h2)
  · have n24 : (ndS σ p q l g).1 24 x = σ.1 24 x := (setI_n (σ := setI σ 23 p (upd (σ.1 23 p) q l)) (t := 24) (Or.inr e)).trans (setI_n (Or.inl (by decide)))
    rw [n24]
    exact hS x hx j h1 h2
theorem D_nd (h : JD σ ofr m) {q : Nat} {l g : Int32} : JD (ndS σ p q l g) ofr m := h
theorem J_cm (h : J σ ofr N) {g : Nat → Option Nat} : J (cmS σ p g) ofr N := h
theorem D_cm (h : JD σ ofr m) {g : Nat → Option Nat} : JD (cmS σ p g) ofr m := h
theorem J_O9 (h : J σ ofr N) {g : Nat → Option Nat} : J (setO σ 9 0 g) ofr N := h
theorem J_sf (h : J σ ofr N) {t : Nat} {x : Int32} : J (setI σ 50 t (upd (σ.1 50 t) 2 x)) ofr N := by
  obtain ⟨hO, hS, hM, hR, hT⟩ := h
  refine ⟨hO, hS, hM, hR, fun s hs => ?_⟩
  by_cases e : s = t
  · subst e
    rw [setI_s]
    exact hT s hs
  · rw [setI_n (Or.inr e)]
    exact hT s hs
theorem D_sf (h : JD σ ofr m) {t : Nat} {x : Int32} : JD (setI σ 50 t (upd (σ.1 50 t) 2 x)) ofr m := h
theorem J_fu (h : J σ ofr N) {j K k : Nat} (hk : k ≤ K) : J (setI σ 13 0 (upd (σ.1 13 0) j (σ.1 13 0 j + nI k))) ofr (N + K) := by
  obtain ⟨⟨h1, h2, h3⟩, hS, hM, hR, hT⟩ := h
  refine ⟨⟨h1, fun o ho => ?_, h3⟩, hS, hM, hR, hT⟩
  obtain ⟨b, hb, e⟩ := h2 o ho
  rw [setI_s]
  by_cases q : o = j
  · subst q
    rw [upd_s, e]
    exact ⟨b + k, by omega, nI_add_ b k⟩
  · exact ⟨b, by omega, (if_neg q).trans e⟩
theorem D_fu (h : JD σ ofr m) {j : Nat} {x : Int32} : JD (setI σ 13 0 (upd (σ.1 13 0) j x)) ofr m := h
theorem J_at (h : J σ ofr N) {nu : Int32} {l : Nat} (h1 : 1 ≤ l) (h2 : l ≤ 60) {mc : Int32} {e2 cap2 : Nat} {g2 : Nat → Option Nat} : J (tsS σ nu (nI l) mc e2 cap2 g2) ofr N := by
  obtain ⟨hO, hS, hM, hR, hT⟩ := h
  have a50 : (tsS σ nu (nI l) mc e2 cap2 g2).1 50 (nts σ) = (fun k => if k = 0 then nu else if k = 1 then nI l else 0) := if_pos ⟨rfl, rfl⟩
  have n50 : ∀ s, ¬ s = nts σ → (tsS σ nu (nI l) mc e2 cap2 g2).1 50 s = σ.1 50 s := fun s e => if_neg (fun z => e z.2)
  refine ⟨hO, hS, hM, hR, fun s hs => ?_⟩
  have hs' : s < nts σ + 1 := hs
  by_cases e : s = nts σ
  · subst e
    rw [a50]
    exact ⟨⟨l, h1, h2, rfl⟩, 0, by omega, rfl⟩
  · rw [n50 s e]
    exact hT s (by omega)
theorem D_at (h : JD σ ofr m) {nu ln mc : Int32} {e2 cap2 : Nat} {g2 : Nat → Option Nat} : JD (tsS σ nu ln mc e2 cap2 g2) ofr m := h
theorem ap_old {G : hG} {o mc : Int32} {e2 cap2 : Nat} {g2 : Nat → Option Nat} {t q : Nat} (ht : 20 ≤ t ∧ t ≤ 34) (hq : ¬ q = npk σ) : (pkS G σ o mc e2 cap2 g2).1 t q = σ.1 t q := by
  show pkI σ o mc t q = _
  unfold pkI
  rw [if_neg (fun z => hq z.2.2), if_neg (by omega)]
theorem ap_new {G : hG} {o mc : Int32} {e2 cap2 : Nat} {g2 : Nat → Option Nat} {t : Nat} (ht : 20 < t ∧ t ≤ 34) : (pkS G σ o mc e2 cap2 g2).1 t (npk σ) = z0 := by
  show pkI σ o mc t (npk σ) = _
  unfold pkI
  rw [if_pos ⟨by omega, ht.2, rfl⟩, if_neg (by omega)]
theorem J_ap {G : hG} (h : J σ ofr N) (hn : npk σ < 6) {o : Int32} (ho : 0 ≤ o ∧ o < 3) {mc : Int32} {e2 cap2 : Nat} {g2 : Nat → Option Nat} : J (pkS G σ o mc e2 cap2 g2) ofr N := by
  obtain ⟨⟨h1, h2, h3⟩, hS, hM, hR, hT⟩ := h
  obtain ⟨w, hw1, hw2⟩ := inR_ex (k := 3) (by decide) (show inR o 3 from ⟨ho.1, ho.2⟩)
  have a20 : (pkS G σ o mc e2 cap2 g2).1 20 (npk σ) = fun _ => o := (if_pos ⟨by decide, by decide, rfl⟩).trans (if_pos rfl)
  have hlt : ∀ q, q < npk (pkS G σ o mc e2 cap2 g2) → q < npk σ ∨ q = npk σ := fun q hq => by
    have hq' : q < npk σ + 1 := hq
    omega
  refine ⟨⟨h1, h2, fun q hq => ?_⟩, fun q hq => ?_, ⟨fun x hx => Nat.lt_succ_of_lt (hM.1 x hx), fun q hq => ?_⟩, hR, hT⟩
  · rcases hlt q hq with hq | rfl
    · rw [ap_old (t := 20) (by decide) (by omega)]; exact h3 q hq
    · rw [a20]; exact ⟨w, hw1, hw2⟩
  · rcases hlt q hq with hq | rfl
    · rw [ap_old (t := 24) (by decide) (by omega)]; exact hS q hq
    · rw [ap_new (t := 24) (by decide)]; exact fun _ _ _ => rfl
  · obtain ⟨q1, q2⟩ := hM.2 q hq
    refine ⟨?_, fun r hr hro => q2 r hr hro⟩
    by_cases e : q = npk σ
    · subst e
      have e1 : rnp (pkS G σ o mc e2 cap2 g2) (npk σ) = 0 := by
        show pkN G σ e2 cap2 201 (npk σ) 0 = 0
        unfold pkN
        exact (if_neg (fun z => absurd z.1 (by decide))).trans (if_pos ⟨rfl, rfl⟩)
      rw [e1]
      exact (cntq_0 _ (fun r hr z => by have := hM.1 r hr; omega)).symm
    · have e1 : rnp (pkS G σ o mc e2 cap2 g2) q = rnp σ q := by
        show pkN G σ e2 cap2 201 q 0 = σ.2.1 201 q 0
        unfold pkN
        rw [if_neg (fun z => by omega), if_neg (fun z => e z.2), if_neg (fun z => by omega), if_neg (by decide), if_neg (by decide)]
      rw [e1]
      exact q1
theorem D_ap {G : hG} (h : JD σ ofr m) {o mc : Int32} {e2 cap2 : Nat} {g2 : Nat → Option Nat} : JD (pkS G σ o mc e2 cap2 g2) ofr m := h
theorem J_ya (h : J σ ofr N) {r : Nat} {x : Int32} : J (setI σ 40 r (upd (σ.1 40 r) 2 x)) ofr N := by
  obtain ⟨hO, hS, hM, hR, hT⟩ := h
  have k40 : ∀ y, (setI σ 40 r (upd (σ.1 40 r) 2 x)).1 40 y 0 = σ.1 40 y 0 := fun y => by
    by_cases e : y = r
    · subst e
      rw [setI_s]
      exact if_neg (by decide)
    · rw [setI_n (Or.inr e)]
  refine ⟨hO, hS, hM, ⟨fun y hy => ?_, fun y s h1 h2 h3 => ?_⟩, hT⟩
  · rw [k40]; exact hR.1 y hy
  · rw [k40, k40]; exact hR.2 y s h1 h2 h3
theorem J_re (h : J σ ofr N) {r : Nat} {g : Nat → Option Nat} (hg : ∀ j x, g j = some x → ofr x = j ∧ j < ofr r) : J (setO (setO σ 9 0 g) 45 r g) ofr N := by
  obtain ⟨hO, hS, hM, hR, hT⟩ := h
  refine ⟨hO, hS, hM, ⟨fun y hy => ⟨?_, (hR.1 y hy).2⟩, hR.2⟩, hT⟩
  by_cases e : y = r
  · subst e
    rw [setO_s]
    exact hg
  · rw [setO_n (Or.inr e)]
    exact (hR.1 y hy).1
theorem D_re (h : JD σ ofr m) {r : Nat} {g : Nat → Option Nat} : JD (setO (setO σ 9 0 g) 45 r g) ofr m := h
theorem rTs_0 (S : sT) (n : Int32) : ∀ t, (rTs S n t).1 0 0 = upd (S.1 0 0) 2 (S.1 0 0 2 + 1)
  | 0 => setI_s _ _ _
  | t + 1 => by
    unfold rTs
    by_cases e : S.1 50 t 0 = n
    · rw [if_pos e]
      exact (setI_n (Or.inl (by decide))).trans ((setI_n (Or.inl (by decide))).trans (rTs_0 S n t))
    · rw [if_neg e]
      exact rTs_0 S n t
theorem rTs_s (S : sT) (n : Int32) {s : Nat} : ∀ t, (s < t ∧ S.1 50 s 0 = n → (rTs S n t).1 51 s = arF (S.1 51 s) (xCn S s) (S.1 50 s 2) ∧ (rTs S n t).1 50 s = upd (S.1 50 s) 3 (nI (arC (xCn S s)))) ∧ (¬ (s < t ∧ S.1 50 s 0 = n) → (rTs S n t).1 51 s = S.1 51 s ∧ (rTs S n t).1 50 s = S.1 50 s)
  | 0 => ⟨fun z => absurd z.1 (Nat.not_lt_zero s), fun _ => ⟨rTs_f S n (Or.inr rfl) 0 (Nat.zero_le s), rTs_f S n (Or.inl rfl) 0 (Nat.zero_le s)⟩⟩
  | t + 1 => by
    obtain ⟨i1, i2⟩ := rTs_s S n (s := s) t
    unfold rTs
    by_cases e : S.1 50 t 0 = n
    · rw [if_pos e]
      by_cases es : s = t
      · subst es
        have f51 : (rTs S n s).1 51 s = S.1 51 s := rTs_f S n (Or.inr rfl) s (Nat.le_refl s)
        have f50 : (rTs S n s).1 50 s = S.1 50 s := rTs_f S n (Or.inl rfl) s (Nat.le_refl s)
        have fx : xCn (rTs S n s) s = xCn S s := by unfold xCn; rw [f50]
        refine ⟨fun _ => ⟨?_, ?_⟩, fun z => absurd ⟨Nat.lt_succ_self s, e⟩ z⟩
        · unfold xAdd
          rw [setI_n (Or.inl (by decide)), setI_s, f51, f50, fx]
        · unfold xAdd
          rw [setI_s, f50, fx]
      · have g51 : (xAdd (rTs S n t) t).1 51 s = (rTs S n t).1 51 s := (setI_n (Or.inl (by decide))).trans (setI_n (Or.inr es))
        have g50 : (xAdd (rTs S n t) t).1 50 s = (rTs S n t).1 50 s := (setI_n (Or.inr es)).trans (setI_n (Or.inl (by decide)))
        rw [g51, g50]
        exact ⟨fun z => i1 ⟨by omega, z.2⟩, fun z => i2 (fun y => z ⟨by omega, y.2⟩)⟩
    · rw [if_neg e]
      exact ⟨fun z => i1 ⟨Nat.lt_of_le_of_ne (by omega) (fun q => e (q ▸ z.2)), z.2⟩, fun z => i2 (fun y => z ⟨by omega, y.2⟩)⟩
theorem cst_nat (hT : JT σ) (n : Int32) : ∀ t, t ≤ nts σ → ∃ c, c ≤ 60 * t ∧ cstN σ.1 n t = nI c
  | 0, _ => ⟨0, Nat.le_refl _, rfl⟩
  | t + 1, h => by
    obtain ⟨c, h1, h2⟩ := cst_nat hT n t (by omega)
    obtain ⟨⟨l, l1, l2, l3⟩, -⟩ := hT t (by omega)
    unfold cstN
    by_cases e : σ.1 50 t 0 = n
    · rw [if_pos e, h2, l3]
      exact ⟨c + l, by omega, nI_add_ c l⟩
    · rw [if_neg e]
      exact ⟨c, by omega, h2⟩
theorem te_T (p o : Nat) (g : Nat → Option Nat) {u j : Nat} (hu : u ≠ 0 ∧ u ≠ 50 ∧ u ≠ 51) (h13 : u ≠ 13) (h4 : u ≠ 27 ∧ u ≠ 28 ∧ u ≠ 30 ∧ u ≠ 31) : (teS σ p o g).1 u j = σ.1 u j := by
  show (setI (setI (setI (setI (rTs (pyS σ o (cstN σ.1 (nI p) (nts σ)) g) (nI p) (nts σ)) 27 p _) 28 p _) 30 p _) 31 p _).1 u j = _
  rw [setI_n (Or.inl h4.2.2.2), setI_n (Or.inl h4.2.2.1), setI_n (Or.inl h4.2.1), setI_n (Or.inl h4.1), rTs_o _ _ hu]
  show (setI (setI (setO σ 9 0 g) 13 0 _) 0 0 _).1 u j = _
  rw [setI_n (Or.inl hu.1), setI_n (Or.inl h13)]
  rfl
theorem te_2 (p o : Nat) (g : Nat → Option Nat) : (teS σ p o g).2.1 = σ.2.1 ∧ ∀ x, (teS σ p o g).2.2 45 x = σ.2.2 45 x := by
  refine ⟨?_, fun x => ?_⟩
  · show (rTs (pyS σ o (cstN σ.1 (nI p) (nts σ)) g) (nI p) (nts σ)).2.1 = _
    rw [rTs_2]
    rfl
  · show (setO _ 33 p g).2.2 45 x = _
    rw [setO_n (Or.inl (by decide))]
    show (rTs (pyS σ o (cstN σ.1 (nI p) (nts σ)) g) (nI p) (nts σ)).2.2 45 x = _
    rw [rTs_2]
    rfl
theorem J_te (h : J σ ofr N) (hN : N < 1000000) (ht8 : nts σ ≤ 8) {o : Nat} (ho : o < 3) {g : Nat → Option Nat} (hc : ¬ σ.1 13 0 o < cstN σ.1 (nI p) (nts σ)) : J (teS σ p o g) ofr N := by
  obtain ⟨⟨h1, h2, h3⟩, hS, hM, hR, hT⟩ := h
  obtain ⟨K2, K45⟩ := te_2 (σ := σ) p o g
  have kn : npk (teS σ p o g) = npk σ := by unfold npk; rw [K2]
  have kt : nts (teS σ p o g) = nts σ := by unfold nts; rw [K2]
  have kr : nrl (teS σ p o g) = nrl σ := by unfold nrl; rw [K2]
  have kp : ∀ q, rnp (teS σ p o g) q = rnp σ q := fun q => by unfold rnp; rw [K2]
  have kx : ∀ q j, ixp (teS σ p o g) q j = ixp σ q j := fun q j => by unfold ixp; rw [K2]
  have e0 : (teS σ p o g).1 0 0 = (rTs (pyS σ o (cstN σ.1 (nI p) (nts σ)) g) (nI p) (nts σ)).1 0 0 := rfl
  have e13 : (teS σ p o g).1 13 0 = (rTs (pyS σ o (cstN σ.1 (nI p) (nts σ)) g) (nI p) (nts σ)).1 13 0 := rfl
  have e50 : ∀ s, (teS σ p o g).1 50 s = (rTs (pyS σ o (cstN σ.1 (nI p) (nts σ)) g) (nI p) (nts σ)).1 50 s := fun s => rfl
  refine ⟨⟨?_, fun w hw => ?_, fun q hq => ?_⟩, fun q hq => ?_, ⟨fun x hx => ?_, fun q hq => ?_⟩, ⟨fun r hr => ?_, fun r s g1 g2 g3 => ?_⟩, fun s hs => ?_⟩
  · rw [e0, rTs_0]; exact h1
  · rw [e13, rTs_o _ _ (by decide)]
    show ∃ b, b ≤ N ∧ upd (σ.1 13 0) o (σ.1 13 0 o - cstN σ.1 (nI p) (nts σ)) w = nI b
    obtain ⟨b, hb, e⟩ := h2 w hw
    by_cases q : w = o
    · subst q
      obtain ⟨c, c1, c2⟩ := cst_nat hT (nI p) (nts σ) (Nat.le_refl _)
      rw [upd_s, e, c2]
      rw [e, c2] at hc
      have hcb : c ≤ b := Nat.not_lt.mp (fun z => hc ((nI_ltI (by omega) (by omega)).mpr z))
      refine ⟨b - c, by omega, ?_⟩
      have e9 : nI (b - c) + nI c = nI b := (nI_add_ _ _).trans (by rw [Nat.sub_add_cancel hcb])
      rw [← e9]
      exact Int32.add_sub_cancel _ _
    · exact ⟨b, hb, (if_neg q).trans e⟩
  · rw [kn] at hq; rw [te_T p o g (by decide) (by decide) (by decide)]; exact h3 q hq
  · rw [kn] at hq; rw [te_T p o g (by decide) (by decide) (by decide)]; exact hS q hq
  · rw [kr] at hx; rw [kn]; exact hM.1 x hx
  · rw [kp, kr]
    refine ⟨(hM.2 q hq).1, fun r hr ho => ?_⟩
    rw [kx]
    exact (hM.2 q hq).2 r hr ho
  · rw [kr] at hr; rw [te_T p o g (by decide) (by decide) (by decide), K45]; exact hR.1 r hr
  · rw [kr] at g2; rw [te_T p o g (by decide) (by decide) (by decide), te_T p o g (by decide) (by decide) (by decide)]; exact hR.2 r s g1 g2 g3
  · rw [kt] at hs
    rw [e50]
    obtain ⟨l9, c, c1, c2⟩ := hT s hs
    obtain ⟨i1, i2⟩ := rTs_s (pyS σ o (cstN σ.1 (nI p) (nts σ)) g) (nI p) (s := s) (nts σ)
    by_cases q : s < nts σ ∧ (pyS σ o (cstN σ.1 (nI p) (nts σ)) g).1 50 s 0 = nI p
    · rw [(i1 q).2]
      refine ⟨l9, arC (xCn (pyS σ o (cstN σ.1 (nI p) (nts σ)) g) s), ?_, upd_s _ _ _⟩
      unfold arC
      split <;> omega
    · rw [(i2 q).2]
      exact ⟨l9, c, c1, c2⟩
theorem D_te (h : JD σ ofr m) {o : Nat} {g : Nat → Option Nat} : JD (teS σ p o g) ofr m := fun r hr => by
  rw [te_T p o g (by decide) (by decide) (by decide), te_T p o g (by decide) (by decide) (by decide)]
  exact h r hr
def ofN (ofr : Nat → Nat) (n p : Nat) : Nat → Nat := fun x => if x = n then p else ofr x
theorem cntq_ofN {ofr : Nat → Nat} {n p q : Nat} : ∀ m, m ≤ n → cntq (ofN ofr n p) q m = cntq ofr q m
  | 0, _ => rfl
  | m + 1, h => by
    show cntq (ofN ofr n p) q m + (if ofN ofr n p m = q then 1 else 0) = cntq ofr q m + (if ofr m = q then 1 else 0)
    rw [cntq_ofN m (by omega), show ofN ofr n p m = ofr m from if_neg (by omega)]
theorem pu_rn {v f : Int32} {le gr : Nat → Int32} {g : Nat → Option Nat} {mc mc3 : Int32} {e2 cap2 e3 cap3 : Nat} {g2 g3 : Nat → Option Nat} (q : Nat) : rnp (rlS σ p v f le gr g mc mc3 e2 cap2 e3 cap3 g2 g3) q = if q = p then rnp σ p + 1 else rnp σ q := by
  show rlN σ p e2 cap2 e3 cap3 201 q 0 = _
  unfold rlN
  by_cases e : q = p
  · rw [if_neg (by omega), if_pos ⟨rfl, e, rfl⟩, if_pos e]
  · rw [if_neg (by omega), if_neg (fun z => e z.2.1), if_neg (by omega), if_neg (by omega), if_neg (by omega), if_neg (by decide), if_neg (by decide), if_neg (fun z => by have := z.2.1; omega), if_neg e]; rfl
theorem pu_ix {v f : Int32} {le gr : Nat → Int32} {g : Nat → Option Nat} {mc mc3 : Int32} {e2 cap2 e3 cap3 : Nat} {g2 g3 : Nat → Option Nat} (q i : Nat) : ixp (rlS σ p v f le gr g mc mc3 e2 cap2 e3 cap3 g2 g3) q i = if q = p ∧ i = rnp σ p then nrl σ else ixp σ q i := by
  show rlN σ p e2 cap2 e3 cap3 202 q i = _
  unfold rlN
  by_cases e : q = p ∧ i = rnp σ p
  · rw [if_neg (by omega), if_neg (by omega), if_pos ⟨rfl, e.1, e.2⟩, if_pos e]
  · rw [if_neg (by omega), if_neg (by omega), if_neg (fun z => e z.2), if_neg (by omega), if_neg (by omega), if_neg (by decide), if_neg (by decide), if_neg (fun z => by have := z.2.1; omega), if_neg e]; rfl
theorem pu_40 {v f : Int32} {le gr : Nat → Int32} {g : Nat → Option Nat} {mc mc3 : Int32} {e2 cap2 e3 cap3 : Nat} {g2 g3 : Nat → Option Nat} : (rlS σ p v f le gr g mc mc3 e2 cap2 e3 cap3 g2 g3).1 40 (nrl σ) = (fun k => if k = 0 then v else if k = 1 then f else 0) := (if_pos ⟨by decide, by decide, rfl⟩).trans (if_pos rfl)
theorem pu_n {v f : Int32} {le gr : Nat → Int32} {g : Nat → Option Nat} {mc mc3 : Int32} {e2 cap2 e3 cap3 : Nat} {g2 g3 : Nat → Option Nat} {u x : Nat} (hu : u = 40 ∨ u = 42 ∨ u = 43) (hx : ¬ x = nrl σ) : (rlS σ p v f le gr g mc mc3 e2 cap2 e3 cap3 g2 g3).1 u x = σ.1 u x := by
  rcases hu with rfl | rfl | rfl <;> exact (if_neg (fun z => hx z.2.2)).trans rfl
theorem pu_45 {v f : Int32} {le gr : Nat → Int32} {g : Nat → Option Nat} {mc mc3 : Int32} {e2 cap2 e3 cap3 : Nat} {g2 g3 : Nat → Option Nat} : (rlS σ p v f le gr g mc mc3 e2 cap2 e3 cap3 g2 g3).2.2 45 (nrl σ) = g := (if_pos ⟨by decide, by decide, rfl⟩).trans rfl
theorem pu_n45 {v f : Int32} {le gr : Nat → Int32} {g : Nat → Option Nat} {mc mc3 : Int32} {e2 cap2 e3 cap3 : Nat} {g2 g3 : Nat → Option Nat} {x : Nat} (hx : ¬ x = nrl σ) : (rlS σ p v f le gr g mc mc3 e2 cap2 e3 cap3 g2 g3).2.2 45 x = σ.2.2 45 x := (if_neg (fun z => hx z.2.2)).trans rfl
theorem J_pu (h : J σ ofr N) (h6 : npk σ ≤ 6) (hI : ∀ r, r < nrl σ → pkB σ (σ.2.2 45 r)) (hp : p < npk σ) {f : Int32} {le gr : Nat → Int32} {g : Nat → Option Nat} {mc mc3 : Int32} {e2 cap2 e3 cap3 : Nat} {g2 g3 : Nat → Option Nat} (hv9 : vAh σ p ≤ 999) (hgo : ∀ j x, g j = some x → j < p ∧ ofr x = j ∧ x < nrl σ) : J (rlS σ p (vAh σ p) f le gr g mc mc3 e2 cap2 e3 cap3 g2 g3) (ofN ofr (nrl σ) p) N := by
  obtain ⟨hO, hS, hM, hR, hT⟩ := h
  obtain ⟨⟨w, w1, w2, w3⟩, va2⟩ := vAh_gt hM hR (p := p) (by omega)
  have va1 : 100 ≤ vAh σ p := by rw [w3]; exact (nI_leI (a := 100) (by omega) (by omega)).mpr w1
  generalize vAh σ p = v at *
  obtain ⟨S, hSd⟩ : ∃ S, S = rlS σ p v f le gr g mc mc3 e2 cap2 e3 cap3 g2 g3 := ⟨_, rfl⟩
  have kr : nrl S = nrl σ + 1 := by rw [hSd]; rfl
  have kp : npk S = npk σ := by rw [hSd]; rfl
  have c40 : S.1 40 (nrl σ) = (fun k => if k = 0 then v else if k = 1 then f else 0) := by rw [hSd]; exact pu_40
  have n40 : ∀ x, ¬ x = nrl σ → S.1 40 x = σ.1 40 x := fun x hx => by rw [hSd]; exact pu_n (Or.inl rfl) hx
  have c45 : S.2.2 45 (nrl σ) = g := by rw [hSd]; exact pu_45
  have n45 : ∀ x, ¬ x = nrl σ → S.2.2 45 x = σ.2.2 45 x := fun x hx => by rw [hSd]; exact pu_n45 hx
  have hrn : ∀ q, rnp S q = if q = p then rnp σ p + 1 else rnp σ q := fun q => by rw [hSd]; exact pu_rn q
  have hix : ∀ q i, ixp S q i = if q = p ∧ i = rnp σ p then nrl σ else ixp σ q i := fun q i => by rw [hSd]; exact pu_ix q i
  have of_n : ofN ofr (nrl σ) p (nrl σ) = p := if_pos rfl
  have of_o : ∀ x, x < nrl σ → ofN ofr (nrl σ) p x = ofr x := fun x hx => if_neg (by omega)
  rw [← hSd]
  have OK : JO S N := by rw [hSd]; exact hO
  have SK : JS S := by rw [hSd]; exact hS
  have TK : JT S := by rw [hSd]; exact hT
  refine ⟨OK, SK, ⟨fun x hx => ?_, fun q hq => ?_⟩, ⟨fun x hx => ?_, fun r s h1 h2 h3 => ?_⟩, TK⟩
  · rw [kr] at hx
    rw [kp]
    by_cases e : x = nrl σ
    · rw [e, of_n]; exact hp
    · rw [of_o x (by omega)]; exact hM.1 x (by omega)
  · obtain ⟨q1, q2⟩ := hM.2 q hq
    rw [kr, hrn]
    refine ⟨?_, fun r hr ho => ?_⟩
    · show _ = cntq (ofN ofr (nrl σ) p) q (nrl σ) + (if ofN ofr (nrl σ) p (nrl σ) = q then 1 else 0)
      rw [cntq_ofN _ (Nat.le_refl _), of_n]
      by_cases e : q = p
      · subst e; rw [if_pos rfl, if_pos rfl, q1]
      · rw [if_neg e, if_neg (fun z => e z.symm), q1]; rfl
    · rw [cntq_ofN r (by omega), hix]
      by_cases e : r = nrl σ
      · subst e
        rw [of_n] at ho
        subst ho
        rw [if_pos ⟨rfl, q1.symm⟩]
      · have hr' : r < nrl σ := by omega
        rw [of_o r hr'] at ho
        have hlt := hM.cl hq hr' ho
        rw [if_neg (fun z => by obtain ⟨z1, z2⟩ := z; rw [z1] at z2 hlt; omega)]
        exact q2 r hr' ho
  · rw [kr] at hx
    by_cases e : x = nrl σ
    · subst e
      rw [c40, c45, of_n]
      exact ⟨fun j x hx => ⟨(of_o x (hgo j x hx).2.2).trans (hgo j x hx).2.1, (hgo j x hx).1⟩, va1, hv9⟩
    · have hx' : x < nrl σ := by omega
      obtain ⟨x1, x2⟩ := hR.1 x hx'
      rw [n40 x e, n45 x e, of_o x hx']
      exact ⟨fun j y hy => ⟨(of_o y (hI x hx' j y hy)).trans (x1 j y hy).1, (x1 j y hy).2⟩, x2⟩
  · rw [kr] at h2
    have hr' : r < nrl σ := by omega
    rw [of_o r hr'] at h3
    rw [n40 r (by omega)]
    by_cases e : s = nrl σ
    · subst e
      rw [of_n] at h3
      rw [c40]
      exact va2 r hr' h3
    · have hs' : s < nrl σ := by omega
      rw [of_o s hs'] at h3
      rw [n40 s e]
      exact hR.2 r s h1 hs' h3
theorem D_pu (h : JD σ ofr (nrl σ)) {v f : Int32} {le gr : Nat → Int32} {g : Nat → Option Nat} {mc mc3 : Int32} {e2 cap2 e3 cap3 : Nat} {g2 g3 : Nat → Option Nat} : JD (rlS σ p v f le gr g mc mc3 e2 cap2 e3 cap3 g2 g3) (ofN ofr (nrl σ) p) (nrl σ) := fun r hr => by
  rw [pu_n (Or.inl rfl) (by omega), show ofN ofr (nrl σ) p r = ofr r from if_neg (by omega)]
  exact h r hr
end JK2
