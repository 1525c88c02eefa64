/-! the relation is kept: packages, tests, yanking, locking -/
theorem cntq_0 {ofr : Nat → Nat} {q : Nat} : ∀ n, (∀ r, r < n → ofr r ≠ q) → cntq ofr q n = 0
  | 0, _ => rfl
  | n + 1, h => by
    show cntq ofr q n + _ = 0
    rw [cntq_0 n (fun r hr => h r (by omega)), if_neg (h n (Nat.lt_succ_self n))]
def mAP (σ : sT) (o : Int32) : sT := setI (setI (thS σ 0) 61 0 (upd (σ.1 61 0) (npk σ) o)) 60 0 (upd ((thS σ 0).1 60 0) 0 (nI (npk σ + 1)))
theorem ap_old {G : hG} {σ M : sT} {o mc : Int32} {e2 cap2 : Nat} {g2 : Nat → Option Nat} {t q : Nat} (ht : 20 ≤ t ∧ t ≤ 34) (hq : ¬ q = npk σ) : (mixS (pkS G σ o mc e2 cap2 g2) M).1 t q = σ.1 t q := by
  show (if 60 ≤ t ∧ t ≤ 100 then M.1 t q else pkI σ o mc t q) = _
  rw [if_neg (by omega)]
  unfold pkI
  rw [if_neg (fun z => hq z.2.2), if_neg (by omega)]
theorem ap_new {G : hG} {σ M : sT} {o mc : Int32} {e2 cap2 : Nat} {g2 : Nat → Option Nat} {t : Nat} (ht : 20 < t ∧ t ≤ 34) : (mixS (pkS G σ o mc e2 cap2 g2) M).1 t (npk σ) = z0 := by
  show (if 60 ≤ t ∧ t ≤ 100 then M.1 t (npk σ) else pkI σ o mc t (npk σ)) = _
  rw [if_neg (by omega)]
  unfold pkI
  rw [if_pos ⟨by omega, ht.2, rfl⟩, if_neg (by omega)]
theorem R_ap {G : hG} {σ : sT} {ofr : Nat → Nat} (h : REL σ ofr) (hn : npk σ < 6) {o : Int32} (ho : 0 ≤ o ∧ o < 3) {mc : Int32} {e2 cap2 : Nat} {g2 : Nat → Option Nat} : REL (mixS (pkS G σ o mc e2 cap2 g2) (mAP σ o)) ofr := by
  obtain ⟨⟨⟨b1, b2, b3⟩, o2, o6, o7, o8⟩, hS, hC, hP, hR, hT, hZ⟩ := h
  obtain ⟨z1, z2, z3, z4, z5, z6⟩ := hZ.1 (npk σ) (Nat.le_refl _) hn
  obtain ⟨w, hw1, hw2⟩ := inR_ex (k := 3) (by decide) (show inR o 3 from ⟨ho.1, ho.2⟩)
  have a20 : (mixS (pkS G σ o mc e2 cap2 g2) (mAP σ o)).1 20 (npk σ) = fun _ => o := (if_pos ⟨by decide, by decide, rfl⟩).trans (if_pos rfl)
  have a61 : (mixS (pkS G σ o mc e2 cap2 g2) (mAP σ o)).1 61 0 = upd (σ.1 61 0) (npk σ) o := rfl
  have hlt : ∀ q, q < npk (mixS (pkS G σ o mc e2 cap2 g2) (mAP σ o)) → q < npk σ ∨ q = npk σ := fun q hq => by
    have hq' : q < npk σ + 1 := hq
    omega
  have O33 : ∀ q, q < npk σ → (mixS (pkS G σ o mc e2 cap2 g2) (mAP σ o)).2.2 33 q = σ.2.2 33 q := fun q hq => by
    show pkO σ g2 33 q = _
    unfold pkO
    rw [if_neg (fun z => by omega), if_neg (by decide)]
  refine ⟨⟨⟨rfl, b2, b3⟩, o2, o6, o7, fun q hq => ?_⟩, fun q hq => ?_, fun q hq => ?_, fun q hq => ?_, ⟨⟨fun x hx => ?_, fun q hq => ?_⟩, hR.2⟩, hT, fun q hq1 hq2 => hZ.1 q (Nat.le_of_succ_le hq1) hq2, hZ.2⟩
  · rw [a61]
    rcases hlt q hq with hq | rfl
    · rw [ap_old (t := 20) (by decide) (by omega)]
      exact ⟨(if_neg (by omega)).trans (o8 q hq).1, (o8 q hq).2⟩
    · rw [a20, upd_s]
      exact ⟨rfl, w, hw1, hw2⟩
  · rcases hlt q hq with hq | rfl
    · rw [ap_old (t := 21) (by decide) (by omega), ap_old (t := 23) (by decide) (by omega), ap_old (t := 24) (by decide) (by omega)]
      exact hS q hq
    · rw [ap_new (t := 21) (by decide), ap_new (t := 23) (by decide), ap_new (t := 24) (by decide)]
      exact ⟨z1, z2, z5, z6, fun j hj => ⟨Or.inl ⟨rfl, rfl⟩, fun _ => rfl⟩, by decide, by decide⟩
  · rcases hlt q hq with hq | rfl
    · rw [ap_old (t := 25) (by decide) (by omega), ap_old (t := 26) (by decide) (by omega)]
      exact hC q hq
    · rw [ap_new (t := 25) (by decide)]
      exact ⟨z3, Or.inl rfl⟩
  · rcases hlt q hq with hq | rfl
    · rw [ap_old (t := 27) (by decide) (by omega), ap_old (t := 28) (by decide) (by omega), ap_old (t := 30) (by decide) (by omega), ap_old (t := 31) (by decide) (by omega), O33 q hq]
      exact hP q hq
    · rw [ap_new (t := 27) (by decide)]
      exact ⟨z4, Or.inl rfl⟩
  · obtain ⟨x1, x2⟩ := hR.1.1 x hx
    exact ⟨Nat.lt_succ_of_lt x1, x2⟩
  · obtain ⟨q1, q2⟩ := hR.1.2 q hq
    refine ⟨?_, fun r hr hro => ?_⟩
    · by_cases e : q = npk σ
      · subst e
        have e1 : rnp (mixS (pkS G σ o mc e2 cap2 g2) (mAP σ o)) (npk σ) = 0 := by
          show pkN G σ e2 cap2 201 (npk σ) 0 = 0
          unfold pkN
          exact (if_neg (fun z => absurd z.1 (by decide))).trans (if_pos ⟨rfl, rfl⟩)
        rw [e1]
        exact (cntq_0 _ (fun r hr z => by have := (hR.1.1 r hr).1; omega)).symm
      · have e1 : rnp (mixS (pkS G σ o mc e2 cap2 g2) (mAP σ o)) q = rnp σ q := by
          show pkN G σ e2 cap2 201 q 0 = σ.2.1 201 q 0
          unfold pkN
          rw [if_neg (fun z => by omega), if_neg (fun z => e z.2), if_neg (fun z => by omega), if_neg (by decide), if_neg (by decide)]
        rw [e1]
        exact q1
    · exact q2 r hr hro
theorem R_ya {σ : sT} {ofr : Nat → Nat} (h : REL σ ofr) {r : Nat} (hr : r < nrl σ) : REL (mixS (setI σ 40 r (upd (σ.1 40 r) 2 1)) (yS σ r)) ofr := by
  obtain ⟨hO, hS, hC, hP, hR, hT, hZ⟩ := h
  have a40 : (mixS (setI σ 40 r (upd (σ.1 40 r) 2 1)) (yS σ r)).1 40 r = upd (σ.1 40 r) 2 1 := setI_s _ _ _
  have n40 : ∀ x, ¬ x = r → (mixS (setI σ 40 r (upd (σ.1 40 r) 2 1)) (yS σ r)).1 40 x = σ.1 40 x := fun x e => setI_n (σ := σ) (t := 40) (Or.inr e)
  have k40 : ∀ x k, k ≠ 2 → (mixS (setI σ 40 r (upd (σ.1 40 r) 2 1)) (yS σ r)).1 40 x k = σ.1 40 x k := fun x k hk => by
    by_cases e : x = r
    · subst e
      rw [a40]
      exact if_neg hk
    · rw [n40 x e]
  have a83 : (mixS (setI σ 40 r (upd (σ.1 40 r) 2 1)) (yS σ r)).1 83 0 = upd (σ.1 83 0) r 1 := rfl
  refine ⟨hO, hS, hC, fun q hq => ?_, RR_cg hR rfl (fun _ => rfl) k40 (fun x hx => ?_) (fun u j hu => ?_), hT, hZ.1, hZ.2.1, fun x hx1 hx2 => ?_⟩
  · obtain ⟨e1, e2⟩ := hP q hq
    refine ⟨e1, e2.imp id (fun ⟨e3, e4, e5⟩ => ⟨e3, e4, fun j hj => ?_⟩)⟩
    obtain ⟨e6, e7, e8, e9⟩ := e5 j hj
    exact ⟨e6, e7, e8.trans (vG_cg (fun x => k40 x 0 (by decide)) _).symm, e9⟩
  · rw [a83]
    by_cases e : x = r
    · subst e
      rw [a40, upd_s, upd_s]
    · rw [n40 x e]
      exact (if_neg e).trans (hR.1.1 x hx).2.2.2.2.1
  · rcases hu with rfl | rfl | rfl | rfl | rfl | rfl | rfl | rfl <;> rfl
  · rw [a83]
    have hx1' : nrl σ ≤ x := hx1
    exact (if_neg (by omega)).trans (hZ.2.2 x hx1 hx2)
theorem R_re {σ : sT} {ofr : Nat → Nat} (h : REL σ ofr) {r : Nat} (hr : r < nrl σ) {g : Nat → Option Nat} (hgo : ∀ j x, g j = some x → ofr x = j) {C R : Nat → Int32} (hRR : ∀ j, j < 6 → R j = vG σ (g j)) : REL (mixS (setO (setO σ 9 0 g) 45 r g) (setI (setI (thS (thS σ 0) 0) 90 0 C) 99 r R)) ofr := by
  obtain ⟨hO, hS, hC, hP, hR, hT, hZ⟩ := h
  have a99 : (mixS (setO (setO σ 9 0 g) 45 r g) (setI (setI (thS (thS σ 0) 0) 90 0 C) 99 r R)).1 99 r = R := setI_s (σ := setI (thS (thS σ 0) 0) 90 0 C) 99 r R
  have n99 : ∀ x, ¬ x = r → (mixS (setO (setO σ 9 0 g) 45 r g) (setI (setI (thS (thS σ 0) 0) 90 0 C) 99 r R)).1 99 x = σ.1 99 x := fun x e => setI_n (σ := setI (thS (thS σ 0) 0) 90 0 C) (t := 99) (Or.inr e)
  have aO : (mixS (setO (setO σ 9 0 g) 45 r g) (setI (setI (thS (thS σ 0) 0) 90 0 C) 99 r R)).2.2 45 r = g := setO_s (σ := setO σ 9 0 g) 45 r g
  have nO : ∀ x, ¬ x = r → (mixS (setO (setO σ 9 0 g) 45 r g) (setI (setI (thS (thS σ 0) 0) 90 0 C) 99 r R)).2.2 45 x = σ.2.2 45 x := fun x e => setO_n (σ := setO σ 9 0 g) (t := 45) (Or.inr e)
  refine ⟨hO, hS, hC, fun q hq => ?_, ⟨hR.1, fun x hx => ?_, hR.2.2⟩, hT, hZ⟩
  · obtain ⟨e1, e2⟩ := hP q hq
    refine ⟨e1, e2.imp id (fun ⟨e3, e4, e5⟩ => ⟨e3, e4, fun j hj => ?_⟩)⟩
    obtain ⟨e6, e7, e8, e9⟩ := e5 j hj
    exact ⟨e6, e7, e8.trans (vG_cg (fun _ => rfl) _).symm, e9⟩
  · obtain ⟨e1, e2⟩ := hR.2.1 x hx
    refine ⟨fun j hj => ?_, e2⟩
    by_cases e : x = r
    · subst e
      rw [a99, aO]
      exact ⟨(hRR j hj).trans (vG_cg (fun _ => rfl) _).symm, fun y hy => hgo j y hy⟩
    · rw [n99 x e, nO x e]
      exact ⟨((e1 j hj).1).trans (vG_cg (fun _ => rfl) _).symm, (e1 j hj).2⟩
theorem rTs_0 (S : sT) (n : Int32) : ∀ t, (rTs S n t).1 0 0 = upd (S.1 0 0) 2 (S.1 0 0 2 + 1)
  | 0 => setI_s _ _ _
  | t + 1 => by
    unfold rTs
    by_cases e : S.1 50 t 0 = n
    · rw [if_pos e]
      exact (setI_n (Or.inl (by decide))).trans ((setI_n (Or.inl (by decide))).trans (rTs_0 S n t))
    · rw [if_neg e]
      exact rTs_0 S n t
theorem rTs_s (S : sT) (n : Int32) {s : Nat} : ∀ t, (s < t ∧ S.1 50 s 0 = n → (rTs S n t).1 51 s = arF (S.1 51 s) (xCn S s) (S.1 50 s 2) ∧ (rTs S n t).1 50 s = upd (S.1 50 s) 3 (nI (arC (xCn S s)))) ∧ (¬ (s < t ∧ S.1 50 s 0 = n) → (rTs S n t).1 51 s = S.1 51 s ∧ (rTs S n t).1 50 s = S.1 50 s)
  | 0 => ⟨fun z => absurd z.1 (Nat.not_lt_zero s), fun _ => ⟨rTs_f S n (Or.inr rfl) 0 (Nat.zero_le s), rTs_f S n (Or.inl rfl) 0 (Nat.zero_le s)⟩⟩
  | t + 1 => by
    obtain ⟨i1, i2⟩ := rTs_s S n (s := s) t
    unfold rTs
    by_cases e : S.1 50 t 0 = n
    · rw [if_pos e]
      by_cases es : s = t
      · subst es
        have f51 : (rTs S n s).1 51 s = S.1 51 s := rTs_f S n (Or.inr rfl) s (Nat.le_refl s)
        have f50 : (rTs S n s).1 50 s = S.1 50 s := rTs_f S n (Or.inl rfl) s (Nat.le_refl s)
        have fx : xCn (rTs S n s) s = xCn S s := by unfold xCn; rw [f50]
        refine ⟨fun _ => ⟨?_, ?_⟩, fun z => absurd ⟨Nat.lt_succ_self s, e⟩ z⟩
        · unfold xAdd
          rw [setI_n (Or.inl (by decide)), setI_s, f51, f50, fx]
        · unfold xAdd
          rw [setI_s, f50, fx]
      · have g51 : (xAdd (rTs S n t) t).1 51 s = (rTs S n t).1 51 s := (setI_n (Or.inl (by decide))).trans (setI_n (Or.inr es))
        have g50 : (xAdd (rTs S n t) t).1 50 s = (rTs S n t).1 50 s := (setI_n (Or.inr es)).trans (setI_n (Or.inl (by decide)))
        rw [g51, g50]
        exact ⟨fun z => i1 ⟨by omega, z.2⟩, fun z => i2 (fun y => z ⟨by omega, y.2⟩)⟩
    · rw [if_neg e]
      exact ⟨fun z => i1 ⟨Nat.lt_of_le_of_ne (by omega) (fun q => e (q ▸ z.2)), z.2⟩, fun z => i2 (fun y => z ⟨by omega, y.2⟩)⟩
theorem arF_cg {F F' : Nat → Int32} {c : Nat} {x x' : Int32} (h : ∀ j, j < 8 → F j = F' j) (hx : x = x') : ∀ j, j < 8 → arF F c x j = arF F' c x' j := fun j hj => by
  subst hx
  unfold arF
  by_cases e : c < 8
  · rw [if_pos e, if_pos e]
    by_cases ej : j = c
    · subst ej; rw [upd_s, upd_s]
    · exact (if_neg ej).trans ((h j hj).trans (if_neg ej).symm)
  · rw [if_neg e, if_neg e]
    by_cases ej : j = 7
    · subst ej; rw [upd_s, upd_s]
    · refine (if_neg ej).trans (Eq.trans ?_ (if_neg ej).symm)
      show (if j + 1 < 8 then F (j + 1) else F j) = if j + 1 < 8 then F' (j + 1) else F' j
      rw [if_pos (by omega), if_pos (by omega)]
      exact h (j + 1) (by omega)
theorem R_te {σ : sT} {ofr : Nat → Nat} (h : REL σ ofr) (hI : IV σ) {p o : Nat} (hp : p < npk σ) (ho : o < 3) {g : Nat → Option Nat} (hgo : ∀ j x, g j = some x → ofr x = j) {C R1 R2 R3 : Nat → Int32} {X : Nat → Nat → Nat → Int32} (hX : RCI σ (nI p) (nts σ) X) (hRR : ∀ j, j < 6 → R1 j = vG σ (g j) ∧ R2 j = σ.1 91 p j ∧ R3 j = σ.1 92 p j) : REL (mixS (teS σ p o g) (mTE σ p o C (cstN σ.1 (nI p) (nts σ)) X (if flnN σ.1 (nI p) (nts σ) = 0 then 1 else 0) R1 R2 R3)) ofr := by
  obtain ⟨⟨⟨b1, b2, b3⟩, ⟨o2, o3, o4, o5⟩, o6, o7, o8⟩, hS, hC, hP, hR, hT, hZ⟩ := h
  obtain ⟨bt, hbt⟩ : ∃ z : Int32, z = (if flnN σ.1 (nI p) (nts σ) = 0 then 1 else 0) := ⟨_, rfl⟩
  obtain ⟨cs, hcs⟩ : ∃ z, z = cstN σ.1 (nI p) (nts σ) := ⟨_, rfl⟩
  obtain ⟨T, hT9⟩ : ∃ T, T = rTs (pyS σ o cs g) (nI p) (nts σ) := ⟨_, rfl⟩
  have eT : teS σ p o g = trS T p bt g σ := by unfold teS; rw [← hcs, ← hbt, hT9]
  rw [eT, ← hbt, ← hcs]
  have To : ∀ u j, u ≠ 0 ∧ u ≠ 50 ∧ u ≠ 51 → T.1 u j = (pyS σ o cs g).1 u j := fun u j hu => by rw [hT9]; exact rTs_o _ _ hu _
  have T2 : T.2 = (pyS σ o cs g).2 := by rw [hT9]; exact rTs_2 _ _ _
  have T0 : T.1 0 0 = upd ((pyS σ o cs g).1 0 0) 2 ((pyS σ o cs g).1 0 0 2 + 1) := by rw [hT9]; exact rTs_0 _ _ _
  have Ts := fun s => rTs_s (pyS σ o cs g) (nI p) (s := s) (nts σ)
  rw [← hT9] at Ts
  have kn : npk (mixS (trS T p bt g σ) (mTE σ p o C cs X bt R1 R2 R3)) = npk σ := by show T.2.1 200 0 0 = _; rw [T2]; rfl
  have kt : nts (mixS (trS T p bt g σ) (mTE σ p o C cs X bt R1 R2 R3)) = nts σ := by show T.2.1 200 0 1 = _; rw [T2]; rfl
  have kr : nrl (mixS (trS T p bt g σ) (mTE σ p o C cs X bt R1 R2 R3)) = nrl σ := by show T.2.1 200 0 2 = _; rw [T2]; rfl
  have K2 : (mixS (trS T p bt g σ) (mTE σ p o C cs X bt R1 R2 R3)).2.1 = σ.2.1 := by show T.2.1 = _; rw [T2]; rfl
  have cT : ∀ u j, u ≠ 0 ∧ u ≠ 50 ∧ u ≠ 51 → u ≠ 13 → ¬ (60 ≤ u ∧ u ≤ 100) → u ≠ 27 ∧ u ≠ 28 ∧ u ≠ 30 ∧ u ≠ 31 → (mixS (trS T p bt g σ) (mTE σ p o C cs X bt R1 R2 R3)).1 u j = σ.1 u j := fun u j h1 h2 h3 h4 => by
    refine (if_neg h3).trans ?_
    show (setI (setI (setI (setI T 27 p _) 28 p _) 30 p _) 31 p _).1 u j = _
    rw [setI_n (Or.inl h4.2.2.2), setI_n (Or.inl h4.2.2.1), setI_n (Or.inl h4.2.1), setI_n (Or.inl h4.1), To u j h1]
    show (setI (setI (setO σ 9 0 g) 13 0 _) 0 0 _).1 u j = _
    rw [setI_n (Or.inl h1.1), setI_n (Or.inl h2)]
    rfl
  have e45 : ∀ x, (mixS (trS T p bt g σ) (mTE σ p o C cs X bt R1 R2 R3)).2.2 45 x = σ.2.2 45 x := fun x => by
    show (setO _ 33 p g).2.2 45 x = _
    rw [setO_n (Or.inl (by decide))]
    show T.2.2 45 x = _
    rw [T2]
    rfl
  have a33 : (mixS (trS T p bt g σ) (mTE σ p o C cs X bt R1 R2 R3)).2.2 33 p = g := setO_s _ _ _
  have n33 : ∀ x, ¬ x = p → (mixS (trS T p bt g σ) (mTE σ p o C cs X bt R1 R2 R3)).2.2 33 x = σ.2.2 33 x := fun x e => by
    show (setO _ 33 p g).2.2 33 x = _
    rw [setO_n (Or.inr e)]
    show T.2.2 33 x = _
    rw [T2]
    rfl
  have k40 : ∀ x k, (mixS (trS T p bt g σ) (mTE σ p o C cs X bt R1 R2 R3)).1 40 x k = σ.1 40 x k := fun x k => by rw [cT 40 x (by decide) (by decide) (by decide) (by decide)]
  have evG : ∀ w, vG (mixS (trS T p bt g σ) (mTE σ p o C cs X bt R1 R2 R3)) w = vG σ w := fun w => vG_cg (fun x => k40 x 0) w
  have r0 : (mixS (trS T p bt g σ) (mTE σ p o C cs X bt R1 R2 R3)).1 0 0 = upd ((pyS σ o cs g).1 0 0) 2 ((pyS σ o cs g).1 0 0 2 + 1) := T0
  have r13 : (mixS (trS T p bt g σ) (mTE σ p o C cs X bt R1 R2 R3)).1 13 0 = upd (σ.1 13 0) o (σ.1 13 0 o - cs) := (To 13 0 (by decide)).trans rfl
  have r50 : ∀ s, (mixS (trS T p bt g σ) (mTE σ p o C cs X bt R1 R2 R3)).1 50 s = T.1 50 s := fun s => rfl
  have r51 : ∀ s, (mixS (trS T p bt g σ) (mTE σ p o C cs X bt R1 R2 R3)).1 51 s = T.1 51 s := fun s => rfl
  have r88 : (mixS (trS T p bt g σ) (mTE σ p o C cs X bt R1 R2 R3)).1 88 0 = X 88 0 := rfl
  have r100 : ∀ s, (mixS (trS T p bt g σ) (mTE σ p o C cs X bt R1 R2 R3)).1 100 s = X 100 s := fun s => rfl
  refine ⟨⟨⟨?_, ?_, ?_⟩, ⟨?_, ?_, ?_, ?_⟩, ?_, fun w hw => ?_, fun q hq => ?_⟩, fun q hq => ?_, fun q hq => ?_, fun q hq => ?_, RR_cg hR K2 e45 (fun x k _ => k40 x k) (fun x hx => ?_) (fun u j hu => ?_), fun s hs => ?_, fun q hq1 hq2 => ?_, fun s hs1 hs2 => ?_, fun x hx1 hx2 => ?_⟩
  · rw [kn]; exact b1
  · rw [kr]; exact b2
  · rw [kt]; exact b3
  · rw [r0]; exact o2
  · rw [r0]; exact o3
  · rw [r0]; show σ.1 60 0 5 + 1 = σ.1 0 0 2 + 1; rw [o4]
  · rw [r0]; show σ.1 60 0 6 + cs = σ.1 0 0 3 + cs; rw [o5]
  · rw [r0]; exact o6
  · rw [r13]
    show upd (σ.1 89 0) o (σ.1 89 0 o - cs) w = _
    by_cases e : w = o
    · subst e; rw [upd_s, upd_s, o7 w hw]
    · exact (if_neg e).trans ((o7 w hw).trans (if_neg e).symm)
  · rw [kn] at hq
    rw [cT 20 q (by decide) (by decide) (by decide) (by decide)]
    exact o8 q hq
  · rw [kn] at hq
    rw [cT 21 q (by decide) (by decide) (by decide) (by decide), cT 23 q (by decide) (by decide) (by decide) (by decide), cT 24 q (by decide) (by decide) (by decide) (by decide)]
    exact hS q hq
  · rw [kn] at hq
    rw [cT 25 q (by decide) (by decide) (by decide) (by decide), cT 26 q (by decide) (by decide) (by decide) (by decide)]
    exact hC q hq
  · rw [kn] at hq
    have r71 : (mixS (trS T p bt g σ) (mTE σ p o C cs X bt R1 R2 R3)).1 71 0 = upd (σ.1 71 0) p bt := rfl
    have r73 : (mixS (trS T p bt g σ) (mTE σ p o C cs X bt R1 R2 R3)).1 73 0 = upd (σ.1 73 0) p (σ.1 62 0 p) := rfl
    have r74 : (mixS (trS T p bt g σ) (mTE σ p o C cs X bt R1 R2 R3)).1 74 0 = upd (σ.1 74 0) p (σ.1 63 0 p) := rfl
    rw [r71, r73, r74]
    by_cases e : q = p
    · subst e
      obtain ⟨s1, s2, s3, s4, s5, s6⟩ := hS q hq
      have r27 : (mixS (trS T q bt g σ) (mTE σ q o C cs X bt R1 R2 R3)).1 27 q = upd (T.1 27 q) 0 bt := setI_s (σ := T) 27 q _
      have r28 : (mixS (trS T q bt g σ) (mTE σ q o C cs X bt R1 R2 R3)).1 28 q = upd (upd (T.1 28 q) 0 (σ.1 21 q 0)) 1 (σ.1 21 q 1) := setI_s (σ := setI T 27 q (upd (T.1 27 q) 0 bt)) 28 q _
      have r30 : (mixS (trS T q bt g σ) (mTE σ q o C cs X bt R1 R2 R3)).1 30 q = σ.1 23 q := setI_s (σ := setI (setI T 27 q (upd (T.1 27 q) 0 bt)) 28 q (upd (upd (T.1 28 q) 0 (σ.1 21 q 0)) 1 (σ.1 21 q 1))) 30 q _
      have r31 : (mixS (trS T q bt g σ) (mTE σ q o C cs X bt R1 R2 R3)).1 31 q = σ.1 24 q := setI_s (σ := setI (setI (setI T 27 q (upd (T.1 27 q) 0 bt)) 28 q (upd (upd (T.1 28 q) 0 (σ.1 21 q 0)) 1 (σ.1 21 q 1))) 30 q (σ.1 23 q)) 31 q _
      have r94 : (mixS (trS T q bt g σ) (mTE σ q o C cs X bt R1 R2 R3)).1 94 q = R1 := setI_s (σ := mT7 σ q o C cs X bt) 94 q R1
      have r95 : (mixS (trS T q bt g σ) (mTE σ q o C cs X bt R1 R2 R3)).1 95 q = R2 := setI_s (σ := setI (mT7 σ q o C cs X bt) 94 q R1) 95 q R2
      have r96 : (mixS (trS T q bt g σ) (mTE σ q o C cs X bt R1 R2 R3)).1 96 q = R3 := setI_s (σ := setI (setI (mT7 σ q o C cs X bt) 94 q R1) 95 q R2) 96 q R3
      rw [r27, r28, r30, r31, r94, r95, r96, a33, upd_s, upd_s, upd_s, upd_s]
      refine ⟨rfl, Or.inr ⟨s1.trans (by first | rfl | exact (if_neg (by decide)).symm), (by first | exact s2 | exact s2.trans (by first | rfl | exact (upd_s _ _ _).symm)), fun j hj => ?_⟩⟩
      obtain ⟨x1, x2, x3⟩ := hRR j hj
      exact ⟨x2.trans (congrFun s3 j), x3.trans (congrFun s4 j), x1.trans (evG _).symm, hgo j⟩
    · have m27 : ∀ u, (u = 27 ∨ u = 28 ∨ u = 30 ∨ u = 31) → (mixS (trS T p bt g σ) (mTE σ p o C cs X bt R1 R2 R3)).1 u q = σ.1 u q := fun u hu => by
        have hlt : ¬ (60 ≤ u ∧ u ≤ 100) := by omega
        refine (if_neg hlt).trans ?_
        show (setI (setI (setI (setI T 27 p _) 28 p _) 30 p _) 31 p _).1 u q = _
        rw [setI_n (Or.inr e), setI_n (Or.inr e), setI_n (Or.inr e), setI_n (Or.inr e), To u q (by omega)]
        show (setI (setI (setO σ 9 0 g) 13 0 _) 0 0 _).1 u q = _
        rw [setI_n (Or.inl (by omega)), setI_n (Or.inl (by omega))]
        rfl
      have m94 : (mixS (trS T p bt g σ) (mTE σ p o C cs X bt R1 R2 R3)).1 94 q = σ.1 94 q := setI_n (σ := mT7 σ p o C cs X bt) (t := 94) (Or.inr e)
      have m95 : (mixS (trS T p bt g σ) (mTE σ p o C cs X bt R1 R2 R3)).1 95 q = σ.1 95 q := setI_n (σ := setI (mT7 σ p o C cs X bt) 94 p R1) (t := 95) (Or.inr e)
      have m96 : (mixS (trS T p bt g σ) (mTE σ p o C cs X bt R1 R2 R3)).1 96 q = σ.1 96 q := setI_n (σ := setI (setI (mT7 σ p o C cs X bt) 94 p R1) 95 p R2) (t := 96) (Or.inr e)
      rw [m27 27 (by decide), m27 28 (by decide), m27 30 (by decide), m27 31 (by decide), m94, m95, m96, n33 q e, show upd (σ.1 71 0) p bt q = σ.1 71 0 q from if_neg e, show upd (σ.1 73 0) p (σ.1 62 0 p) q = σ.1 73 0 q from if_neg e, show upd (σ.1 74 0) p (σ.1 63 0 p) q = σ.1 74 0 q from if_neg e]
      obtain ⟨e1, e2⟩ := hP q hq
      refine ⟨e1, e2.imp id (fun ⟨e3, e4, e5⟩ => ⟨e3, e4, fun j hj => ?_⟩)⟩
      obtain ⟨e6, e7, e8, e9⟩ := e5 j hj
      exact ⟨e6, e7, e8.trans (evG _).symm, e9⟩
  · rw [k40]
    exact (hR.1.1 x hx).2.2.2.2.1
  · rcases hu with rfl | rfl | rfl | rfl | rfl | rfl | rfl | rfl
    · exact cT 42 j (by decide) (by decide) (by decide) (by decide)
    · exact cT 43 j (by decide) (by decide) (by decide) (by decide)
    · rfl
    · rfl
    · rfl
    · rfl
    · rfl
    · rfl
  · rw [kt] at hs
    rw [r50, r51, r88, r100]
    obtain ⟨t1, t2, t3, t4, t5, t6, t7⟩ := hT s hs
    have hcn := hT.cn hs
    by_cases e : σ.1 50 s 0 = nI p
    · obtain ⟨u1, u2⟩ := (Ts s).1 ⟨hs, e⟩
      obtain ⟨v1, v2⟩ := (hX s).1 ⟨hs, e⟩
      rw [u1, u2, v1, v2]
      have hac : arC (xCn σ s) ≤ 8 := by unfold arC; split <;> omega
      refine ⟨t1, t2, t3, rfl, fun j hj => arF_cg t5 t3 j hj, t6, arC (xCn σ s), hac, rfl⟩
    · obtain ⟨u1, u2⟩ := (Ts s).2 (fun z => e z.2)
      obtain ⟨v1, v2⟩ := (hX s).2 (fun z => e z.2)
      rw [u1, u2, v1, v2]
      exact ⟨t1, t2, t3, t4, t5, t6, t7⟩
  · rw [kn] at hq1
    have e : ¬ q = p := by omega
    obtain ⟨e1, e2, e3, e4, e5, e6⟩ := hZ.1 q hq1 hq2
    exact ⟨e1, e2, e3, (if_neg e).trans e4, e5, e6⟩
  · rw [kt] at hs1
    obtain ⟨v1, v2⟩ := (hX s).2 (fun z => by omega)
    rw [r88, r100, v1, v2]
    exact hZ.2.1 s hs1 hs2
  · rw [kr] at hx1
    exact hZ.2.2 x hx1 hx2
