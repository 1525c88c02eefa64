/-! the relation is kept: sources, needs, compiling -/
theorem R_ss {σ : sT} {ofr : Nat → Nat} (h : REL σ ofr) {p : Nat} (hp : p < npk σ) {f b : Int32} (hf : rg9 f) : REL (mixS (ssS σ p f b) (mSS σ p f b)) ofr := by
  obtain ⟨hO, hS, hC, hP, hR, hT, hZ⟩ := h
  have a62 : (mixS (ssS σ p f b) (mSS σ p f b)).1 62 0 = upd (σ.1 62 0) p f := rfl
  have a63 : (mixS (ssS σ p f b) (mSS σ p f b)).1 63 0 = upd (σ.1 63 0) p b := rfl
  have a21 : (mixS (ssS σ p f b) (mSS σ p f b)).1 21 p = upd (upd (σ.1 21 p) 0 f) 1 b := setI_s _ _ _
  have n21 : ∀ q, ¬ q = p → (mixS (ssS σ p f b) (mSS σ p f b)).1 21 q = σ.1 21 q := fun q e => setI_n (Or.inr e)
  refine ⟨hO, fun q hq => ?_, hC, hP, hR, hT, fun q hq1 hq2 => ?_, hZ.2⟩
  · obtain ⟨e1, e2, e3, e4, e5, e6⟩ := hS q hq
    rw [a62, a63]
    by_cases e : q = p
    · subst e
      rw [a21, upd_s, upd_s]
      exact ⟨(if_neg (by decide : ¬ (0 : Nat) = 1)).symm, rfl, e3, e4, e5, hf⟩
    · rw [n21 q e]
      exact ⟨(if_neg e).trans e1, (if_neg e).trans e2, e3, e4, e5, e6⟩
  · have e : ¬ q = p := fun z => by have hq1' : npk σ ≤ q := hq1; omega
    obtain ⟨e1, e2, e3, e4, e5, e6⟩ := hZ.1 q hq1 hq2
    rw [a62, a63]
    exact ⟨(if_neg e).trans e1, (if_neg e).trans e2, e3, e4, e5, e6⟩
def mND (σ : sT) (p q : Nat) (l g : Int32) : sT := setI (setI (thS σ 0) 91 p (upd (σ.1 91 p) q l)) 92 p (upd (σ.1 92 p) q g)
theorem R_nd {σ : sT} {ofr : Nat → Nat} (h : REL σ ofr) {p q : Nat} (hp : p < npk σ) {l g : Int32} (hlg : nbk l g) (hq : q < p ∨ g = 0) : REL (mixS (ndS σ p q l g) (mND σ p q l g)) ofr := by
  obtain ⟨hO, hS, hC, hP, hR, hT, hZ⟩ := h
  have a91 : (mixS (ndS σ p q l g) (mND σ p q l g)).1 91 p = upd (σ.1 91 p) q l := setI_s (σ := thS σ 0) 91 p _
  have a92 : (mixS (ndS σ p q l g) (mND σ p q l g)).1 92 p = upd (σ.1 92 p) q g := setI_s (σ := setI (thS σ 0) 91 p (upd (σ.1 91 p) q l)) 92 p _
  have a23 : (mixS (ndS σ p q l g) (mND σ p q l g)).1 23 p = upd (σ.1 23 p) q l := setI_s (σ := σ) 23 p _
  have a24 : (mixS (ndS σ p q l g) (mND σ p q l g)).1 24 p = upd (σ.1 24 p) q g := setI_s (σ := setI σ 23 p (upd (σ.1 23 p) q l)) 24 p _
  have n91 : ∀ x, ¬ x = p → (mixS (ndS σ p q l g) (mND σ p q l g)).1 91 x = σ.1 91 x := fun x e => setI_n (σ := thS σ 0) (t := 91) (Or.inr e)
  have n92 : ∀ x, ¬ x = p → (mixS (ndS σ p q l g) (mND σ p q l g)).1 92 x = σ.1 92 x := fun x e => setI_n (σ := setI (thS σ 0) 91 p (upd (σ.1 91 p) q l)) (t := 92) (Or.inr e)
  have n23 : ∀ x, ¬ x = p → (mixS (ndS σ p q l g) (mND σ p q l g)).1 23 x = σ.1 23 x := fun x e => setI_n (σ := σ) (t := 23) (Or.inr e)
  have n24 : ∀ x, ¬ x = p → (mixS (ndS σ p q l g) (mND σ p q l g)).1 24 x = σ.1 24 x := fun x e => setI_n (σ := setI σ 23 p (upd (σ.1 23 p) q l)) (t := 24) (Or.inr e)
  refine ⟨hO, fun x hx => ?_, hC, hP, hR, hT, fun x hx1 hx2 => ?_, hZ.2⟩
  · obtain ⟨e1, e2, e3, e4, e5, e6⟩ := hS x hx
    by_cases e : x = p
    · subst e
      rw [a91, a92, a23, a24, e3, e4]
      refine ⟨e1, e2, rfl, rfl, fun j hj => ?_, e6⟩
      by_cases ej : j = q
      · subst ej
        rw [upd_s, upd_s]
        exact ⟨hlg, fun z => hq.resolve_left (by omega)⟩
      · rw [show upd (σ.1 23 x) q l j = σ.1 23 x j from if_neg ej, show upd (σ.1 24 x) q g j = σ.1 24 x j from if_neg ej]
        exact e5 j hj
    · rw [n91 x e, n92 x e, n23 x e, n24 x e]
      exact ⟨e1, e2, e3, e4, e5, e6⟩
  · have e : ¬ x = p := fun z => by have hx1' : npk σ ≤ x := hx1; omega
    rw [n91 x e, n92 x e]
    exact hZ.1 x hx1 hx2
theorem nfG_ne {σ : sT} {ofr : Nat → Nat} (hR : RR σ ofr) {p : Nat} {g : Nat → Option Nat} (hgb : pkB σ g) (hnd : ∀ j, j < 6 → ¬ σ.1 24 p j = 0 → ∃ x, g j = some x) {j : Nat} (hj : j < 6) : ¬ σ.1 24 p j = 0 ↔ ¬ nfG σ (σ.1 24 p) g j = -1 := by
  constructor
  · intro hg
    obtain ⟨x, hx⟩ := hnd j hj hg
    rw [nfG_s hx hg]
    exact nm1 (hR.2.1 x (hgb j x hx)).2.2.1
  · intro h z
    exact h (nfG_z z)
theorem R_cm {σ : sT} {ofr : Nat → Nat} (h : REL σ ofr) {p : Nat} (hp : p < npk σ) {g : Nat → Option Nat} (hgb : pkB σ g) (hnd : ∀ j, j < 6 → ¬ σ.1 24 p j = 0 → ∃ x, g j = some x) {C R : Nat → Int32} (hRR : ∀ j, j < 6 → 0 < σ.1 91 p j → R j = nfG σ (σ.1 24 p) g j) : REL (mixS (cmS σ p g) (mCP σ p C R)) ofr := by
  obtain ⟨hO, hS, hC, hP, hR, hT, hZ⟩ := h
  obtain ⟨s1, s2, s3, s4, s5, s6⟩ := hS p hp
  obtain ⟨o1, ⟨o2, o3, o4, o5⟩, o6, o7, o8⟩ := hO
  have a25 : (mixS (cmS σ p g) (mCP σ p C R)).1 25 p = upd (upd (upd (σ.1 25 p) 0 1) 1 (σ.1 21 p 0)) 2 (σ.1 21 p 1) := setI_s (σ := setO σ 9 0 g) 25 p _
  have n25 : ∀ x, ¬ x = p → (mixS (cmS σ p g) (mCP σ p C R)).1 25 x = σ.1 25 x := fun x e => setI_n (σ := setO σ 9 0 g) (t := 25) (Or.inr e)
  have a26 : (mixS (cmS σ p g) (mCP σ p C R)).1 26 p = nfG σ (σ.1 24 p) g := setI_s (σ := setI (setO σ 9 0 g) 25 p (upd (upd (upd (σ.1 25 p) 0 1) 1 (σ.1 21 p 0)) 2 (σ.1 21 p 1))) 26 p _
  have n26 : ∀ x, ¬ x = p → (mixS (cmS σ p g) (mCP σ p C R)).1 26 x = σ.1 26 x := fun x e => setI_n (σ := setI (setO σ 9 0 g) 25 p (upd (upd (upd (σ.1 25 p) 0 1) 1 (σ.1 21 p 0)) 2 (σ.1 21 p 1))) (t := 26) (Or.inr e)
  have a66 : (mixS (cmS σ p g) (mCP σ p C R)).1 66 0 = upd (σ.1 66 0) p 1 := rfl
  have a67 : (mixS (cmS σ p g) (mCP σ p C R)).1 67 0 = upd (σ.1 67 0) p (σ.1 62 0 p) := rfl
  have a68 : (mixS (cmS σ p g) (mCP σ p C R)).1 68 0 = upd (σ.1 68 0) p (σ.1 63 0 p) := rfl
  have a69 : (mixS (cmS σ p g) (mCP σ p C R)).1 69 0 = upd (σ.1 69 0) p (bts (σ.1 91 p) 6) := rfl
  have a93 : (mixS (cmS σ p g) (mCP σ p C R)).1 93 p = R := setI_s (σ := setI (setI (setI (setI (setI (thS σ 0) 90 0 C) 66 0 (upd (σ.1 66 0) p 1)) 67 0 (upd (σ.1 67 0) p (σ.1 62 0 p))) 68 0 (upd (σ.1 68 0) p (σ.1 63 0 p))) 69 0 (upd (σ.1 69 0) p (bts (σ.1 91 p) 6))) 93 p R
  have n93 : ∀ x, ¬ x = p → (mixS (cmS σ p g) (mCP σ p C R)).1 93 x = σ.1 93 x := fun x e => setI_n (σ := setI (setI (setI (setI (setI (thS σ 0) 90 0 C) 66 0 (upd (σ.1 66 0) p 1)) 67 0 (upd (σ.1 67 0) p (σ.1 62 0 p))) 68 0 (upd (σ.1 68 0) p (σ.1 63 0 p))) 69 0 (upd (σ.1 69 0) p (bts (σ.1 91 p) 6))) (t := 93) (Or.inr e)
  refine ⟨⟨o1, ⟨o2, ?_, o4, o5⟩, o6, o7, o8⟩, hS, fun x hx => ?_, hP, hR, hT, fun x hx1 hx2 => ?_, hZ.2⟩
  · show σ.1 60 0 4 + 1 = σ.1 0 0 1 + 1
    rw [o3]
  · rw [a66, a67, a68, a69]
    by_cases e : x = p
    · subst e
      rw [a25, a26, a93, upd_s, upd_s, upd_s, upd_s]
      refine ⟨rfl, Or.inr ⟨s1, s2, σ.1 91 x, (by first | rfl | exact upd_s _ _ _), fun j hj => ?_⟩⟩
      have q1 : 0 < σ.1 91 x j ↔ ¬ σ.1 24 x j = 0 := by rw [s3]; exact nbk_p (s5 j hj).1
      exact ⟨q1.trans (nfG_ne hR hgb hnd hj), hRR j hj⟩
    · rw [n25 x e, n26 x e, n93 x e, show upd (σ.1 66 0) p 1 x = σ.1 66 0 x from if_neg e, show upd (σ.1 67 0) p (σ.1 62 0 p) x = σ.1 67 0 x from if_neg e, show upd (σ.1 68 0) p (σ.1 63 0 p) x = σ.1 68 0 x from if_neg e, show upd (σ.1 69 0) p (bts (σ.1 91 p) 6) x = σ.1 69 0 x from if_neg e]
      exact hC x hx
  · have e : ¬ x = p := fun z => by have hx1' : npk σ ≤ x := hx1; omega
    obtain ⟨e1, e2, e3, e4, e5, e6⟩ := hZ.1 x hx1 hx2
    rw [a66]
    exact ⟨e1, e2, (if_neg e).trans e3, e4, e5, e6⟩
theorem R_sf {σ : sT} {ofr : Nat → Nat} (h : REL σ ofr) {t : Nat} (ht : t < nts σ) {x : Int32} : REL (mixS (setI σ 50 t (upd (σ.1 50 t) 2 x)) (setI (thS σ 0) 86 0 (upd (σ.1 86 0) t x))) ofr := by
  obtain ⟨hO, hS, hC, hP, hR, hT, hZ⟩ := h
  have a50 : (mixS (setI σ 50 t (upd (σ.1 50 t) 2 x)) (setI (thS σ 0) 86 0 (upd (σ.1 86 0) t x))).1 50 t = upd (σ.1 50 t) 2 x := setI_s _ _ _
  have n50 : ∀ s, ¬ s = t → (mixS (setI σ 50 t (upd (σ.1 50 t) 2 x)) (setI (thS σ 0) 86 0 (upd (σ.1 86 0) t x))).1 50 s = σ.1 50 s := fun s e => setI_n (σ := σ) (t := 50) (Or.inr e)
  have a86 : (mixS (setI σ 50 t (upd (σ.1 50 t) 2 x)) (setI (thS σ 0) 86 0 (upd (σ.1 86 0) t x))).1 86 0 = upd (σ.1 86 0) t x := rfl
  refine ⟨hO, hS, hC, hP, hR, fun s hs => ?_, hZ.1, fun s hs1 hs2 => ?_, hZ.2.2⟩
  · obtain ⟨e1, e2, e3, e4, e5, e6, e7⟩ := hT s hs
    rw [a86]
    by_cases e : s = t
    · subst e
      rw [a50, upd_s]
      exact ⟨e1, e2, rfl, e4, e5, e6, e7⟩
    · rw [n50 s e]
      exact ⟨e1, e2, (if_neg e).trans e3, e4, e5, e6, e7⟩
  · have e : ¬ s = t := fun z => by have hs1' : nts σ ≤ s := hs1; omega
    rw [a86]
    exact ⟨(if_neg e).trans (hZ.2.1 s hs1 hs2).1, (hZ.2.1 s hs1 hs2).2⟩
theorem R_sm {σ : sT} {ofr : Nat → Nat} (h : REL σ ofr) {m : Int32} (hm : 1 ≤ m ∧ m ≤ 4) : REL (mixS (setI σ 0 0 (upd (σ.1 0 0) 0 m)) (setI (thS σ 0) 60 0 (upd (upd (σ.1 60 0) 7 0) 3 m))) ofr := by
  obtain ⟨⟨o1, ⟨o2, o3, o4, o5⟩, o6, o7, o8⟩, hS, hC, hP, hR, hT, hZ⟩ := h
  refine ⟨⟨o1, ⟨rfl, o3, o4, o5⟩, ?_, o7, o8⟩, hS, hC, hP, hR, hT, hZ⟩
  have h1 : (1 : Int32).toInt = 1 := rfl
  have h4 : (4 : Int32).toInt = 4 := rfl
  have q1 := hm.1
  have q2 := hm.2
  rw [Int32.le_iff_toInt_le] at q1 q2
  refine ⟨m.toInt.toNat, by omega, by omega, ?_⟩
  show m = nI m.toInt.toNat
  apply Int32.toInt_inj.mp
  rw [nI_toInt (by omega)]
  omega
theorem R_fu {σ : sT} {ofr : Nat → Nat} (h : REL σ ofr) {j : Nat} (hj : j < 3) {m : Int32} : REL (mixS (setI σ 13 0 (upd (σ.1 13 0) j (σ.1 13 0 j + m))) (setI (thS σ 0) 89 0 (upd (σ.1 89 0) j (σ.1 89 0 j + m)))) ofr := by
  obtain ⟨⟨o1, o2, o6, o7, o8⟩, hS, hC, hP, hR, hT, hZ⟩ := h
  refine ⟨⟨o1, o2, o6, fun o ho => ?_, o8⟩, hS, hC, hP, hR, hT, hZ⟩
  show upd (σ.1 89 0) j (σ.1 89 0 j + m) o = upd (σ.1 13 0) j (σ.1 13 0 j + m) o
  by_cases e : o = j
  · subst e
    rw [upd_s, upd_s, o7 o ho]
  · exact (if_neg e).trans ((o7 o ho).trans (if_neg e).symm)
theorem R_at {σ : sT} {ofr : Nat → Nat} (h : REL σ ofr) {p : Nat} (hp : p < npk σ) (hn : nts σ < 8) {l mc : Int32} (hl : 1 ≤ l ∧ l ≤ 60) {e2 cap2 : Nat} {g2 : Nat → Option Nat} : REL (mixS (tsS σ (nI p) l mc e2 cap2 g2) (mAT σ p l)) ofr := by
  obtain ⟨⟨⟨b1, b2, b3⟩, o2, o6, o7, o8⟩, hS, hC, hP, hR, hT, hZ⟩ := h
  have a50 : (mixS (tsS σ (nI p) l mc e2 cap2 g2) (mAT σ p l)).1 50 (nts σ) = (fun k => if k = 0 then nI p else if k = 1 then l else 0) := if_pos ⟨rfl, rfl⟩
  have n50 : ∀ s, ¬ s = nts σ → (mixS (tsS σ (nI p) l mc e2 cap2 g2) (mAT σ p l)).1 50 s = σ.1 50 s := fun s e => if_neg (fun z => e z.2)
  have a51 : (mixS (tsS σ (nI p) l mc e2 cap2 g2) (mAT σ p l)).1 51 (nts σ) = z0 := if_pos ⟨rfl, rfl⟩
  have n51 : ∀ s, ¬ s = nts σ → (mixS (tsS σ (nI p) l mc e2 cap2 g2) (mAT σ p l)).1 51 s = σ.1 51 s := fun s e => if_neg (fun z => e z.2)
  have a84 : (mixS (tsS σ (nI p) l mc e2 cap2 g2) (mAT σ p l)).1 84 0 = upd (σ.1 84 0) (nts σ) (nI p) := rfl
  have a85 : (mixS (tsS σ (nI p) l mc e2 cap2 g2) (mAT σ p l)).1 85 0 = upd (σ.1 85 0) (nts σ) l := rfl
  refine ⟨⟨⟨b1, b2, rfl⟩, o2, o6, o7, o8⟩, hS, hC, hP, hR, fun s hs => ?_, hZ.1, fun s hs1 hs2 => hZ.2.1 s (Nat.le_of_succ_le hs1) hs2, hZ.2.2⟩
  have hs' : s < nts σ + 1 := hs
  rw [a84, a85]
  by_cases e : s = nts σ
  · subst e
    rw [a50, a51, upd_s, upd_s]
    obtain ⟨z1, z2, z3⟩ := hZ.2.1 (nts σ) (Nat.le_refl _) hn
    have h1 : (1 : Int32).toInt = 1 := rfl
    have h60 : (60 : Int32).toInt = 60 := rfl
    have q1 := hl.1
    have q2 := hl.2
    rw [Int32.le_iff_toInt_le] at q1 q2
    refine ⟨rfl, rfl, z1, z2, z3, ⟨l.toInt.toNat, by omega, by omega, ?_⟩, 0, Nat.zero_le _, rfl⟩
    show l = nI l.toInt.toNat
    apply Int32.toInt_inj.mp
    rw [nI_toInt (by omega)]
    omega
  · obtain ⟨e1, e2, e3, e4, e5, e6, e7⟩ := hT s (by omega)
    rw [n50 s e, n51 s e]
    exact ⟨(if_neg e).trans e1, (if_neg e).trans e2, e3, e4, e5, e6, e7⟩
