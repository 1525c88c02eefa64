/-! a test more -/
section GRT
variable {G : hG} {h h1 h2 : hp} {A : aT} {σ : sT}
def tsI (σ : sT) (nu ln mc : Int32) : Nat → Nat → Nat → Int32 := fun t i => if t = 50 ∧ i = nts σ then (fun k => if k = 0 then nu else if k = 1 then ln else 0) else if t = 51 ∧ i = nts σ then z0 else if t = 3 ∧ i = 0 then (fun k => if k = 0 then mc else nI (nts σ + 1)) else σ.1 t i
def tsN (σ : sT) (e2 cap2 : Nat) : Nat → Nat → Nat → Nat := fun t i k => if t = 200 ∧ i = 0 ∧ k = 1 then nts σ + 1 else if t = 3 then e2 else if t = 4 then cap2 else σ.2.1 t i k
def tsO (σ : sT) (g2 : Nat → Option Nat) : Nat → Nat → Nat → Option Nat := fun t i => if t = 4 then g2 else σ.2.2 t i
def tsS (σ : sT) (nu ln mc : Int32) (e2 cap2 : Nat) (g2 : Nat → Option Nat) : sT := (tsI σ nu ln mc, tsN σ e2 cap2, tsO σ g2)
def tsA (A : aT) (σ : sT) (q ar e2 : Nat) : aT := fun t i => if t = 50 ∧ i = nts σ then q else if t = 51 ∧ i = nts σ then ar else if t = 4 then e2 else A t i
theorem tsA_o {q ar e2 t i : Nat} (h1 : t ≠ 4) (h2 : t ≠ 50 ∨ i ≠ nts σ) (h3 : t ≠ 51 ∨ i ≠ nts σ) : tsA A σ q ar e2 t i = A t i := by
  unfold tsA
  rw [if_neg (by rintro ⟨a, b⟩; rcases h2 with z | z <;> exact z (by assumption)), if_neg (by rintro ⟨a, b⟩; rcases h3 with z | z <;> exact z (by assumption)), if_neg h1]
theorem tsI_o {nu ln mc : Int32} {t i : Nat} (h1 : t ≠ 3 ∨ i ≠ 0) (h2 : t ≠ 50 ∨ i ≠ nts σ) (h3 : t ≠ 51 ∨ i ≠ nts σ) : tsI σ nu ln mc t i = σ.1 t i := by
  unfold tsI
  rw [if_neg (by rintro ⟨a, b⟩; rcases h2 with z | z <;> exact z (by assumption)), if_neg (by rintro ⟨a, b⟩; rcases h3 with z | z <;> exact z (by assumption)), if_neg (by rintro ⟨a, b⟩; rcases h1 with z | z <;> exact z (by assumption))]
theorem tsN_o {e2 cap2 t i : Nat} (h1 : t ≠ 3) (h2 : t ≠ 4) (h3 : t ≠ 200) : tsN σ e2 cap2 t i = σ.2.1 t i := by
  funext k
  unfold tsN
  rw [if_neg (fun z => h3 z.1), if_neg h1, if_neg h2]
set_option maxHeartbeats 2000000 in
theorem W9.gT (H : W9 G h A σ) (hnt : nts σ < 8) {q ar e2 cap2 ed cap : Nat} {g2 : Nat → Option Nat} {nu ln mc : Int32} (x : xt G h h1 [q, ar] []) (hX : isX h1 q ar nu ln 0 0 z0) (hl2 : isLx h2 (A 3 0) e2 cap2 (nts σ + 1) mc (upN (A 50) (nts σ) q) g2) (hs : sm h1 h2 [A 3 0, e2]) (hk : eOK G h1 ed (nts σ) cap e2 cap2)
    (hed : nts σ = 0 → cap = 0) (hed2 : 0 < nts σ → ed = A 4 0 ∧ eC cap) : W9 G h2 (tsA A σ q ar e2) (tsS σ nu ln mc e2 cap2 g2) ∧ FR h h2 := by
  obtain ⟨x1, x2, x3, x4⟩ := x
  have hq0 := x2 q (by simp)
  have ha0 := x2 ar (by simp)
  have hqa : q ≠ ar := by
    have := x1
    simp only [List.nodup_cons, List.mem_singleton] at this
    exact this.1
  have he2 : ((e2 = A 4 0 ∧ 0 < nts σ) ∨ (h e2 = none ∧ e2 ≠ G.2.2 ∧ e2 ≠ q ∧ e2 ≠ ar)) ∧ eC cap2 := by
    rcases hk with ⟨a, b, c⟩ | ⟨⟨a, b⟩, c⟩
    · have h0 : 0 < nts σ := Nat.pos_of_ne_zero (fun z => by rw [z, hed z] at c; exact absurd c (Nat.lt_irrefl 0))
      exact ⟨Or.inl ⟨a.trans (hed2 h0).1, h0⟩, b ▸ (hed2 h0).2⟩
    · have n1 : e2 ∉ ([] : List Nat) ++ [q, ar] := fun z => x4 e2 z a
      have n2 : e2 ≠ q ∧ e2 ≠ ar := by simpa using n1
      exact ⟨Or.inr ⟨(x3 e2 n1) ▸ a, b, n2.1, n2.2⟩, c⟩
  obtain ⟨he2, hec⟩ := he2
  have hv3 : vd σ 3 0 := rfl
  have old1 : ∀ t i, vd σ t i → h1 (A t i) = h (A t i) := fun t i hv => x3 _ (fun z => by
    have hh := H.1 t i hv
    rcases List.mem_cons.mp (by simpa using z : A t i ∈ [q, ar]) with e | e
    · rw [e, hq0.1] at hh; cases hh
    · rw [List.mem_singleton.mp e, ha0.1] at hh; cases hh)
  have ne2 : ∀ t i, vd σ t i → t ≠ 4 → A t i ≠ e2 := fun t i hv ht e => by
    rcases he2 with ⟨a, b⟩ | ⟨a, -⟩
    · exact ht ((H.2.1 t i hv).2 4 0 ⟨rfl, b⟩ (e.trans a)).1
    · have hh := H.1 t i hv
      rw [e, a] at hh; cases hh
  have old2 : ∀ t i, vd σ t i → t ≠ 3 → t ≠ 4 → h2 (A t i) = h (A t i) := fun t i hv h3 h4 => by
    rw [← old1 t i hv]
    refine hs _ (fun z => ?_)
    rcases List.mem_cons.mp z with e | e
    · exact h3 ((H.2.1 t i hv).2 3 0 hv3 e).1
    · exact ne2 t i hv h4 (List.mem_singleton.mp e)
  have hqn : ∀ y, h y = none → y ≠ e2 → h2 y = h1 y := fun y hy hye => hs _ (fun z => by
    rcases List.mem_cons.mp z with e | e
    · have hh := H.1 3 0 hv3
      rw [← e, hy] at hh; cases hh
    · exact hye (List.mem_singleton.mp e))
  have hne2q : q ≠ e2 := fun e => by
    rcases he2 with ⟨a, b⟩ | ⟨-, -, a, -⟩
    · have hh := H.c4 b
      rw [← a, ← e, hq0.1] at hh; cases hh
    · exact a e.symm
  have hne2a : ar ≠ e2 := fun e => by
    rcases he2 with ⟨a, b⟩ | ⟨-, -, -, a⟩
    · have hh := H.c4 b
      rw [← a, ← e, ha0.1] at hh; cases hh
    · exact a e.symm
  have hq2 := (hqn q hq0.1 hne2q).trans hX.1
  have ha2 := (hqn ar ha0.1 hne2a).trans hX.2
  have cbo : ∀ t i (f : Nat → Int32) (c : Nat → Nat) (g : Nat → Option Nat), (t = 50 ∨ t = 51 → i < nts σ) → CB (tsA A σ q ar e2) f c g t i = CB A f c g t i := fun t i f c g hti => by
    refine CB_cg (fun u hu => ?_) (fun _ _ u h1 h2 => tsA_o (by omega) (Or.inl (by omega)) (Or.inl (by omega))) (fun _ _ u h1 h2 => tsA_o (by omega) (Or.inl (by omega)) (Or.inl (by omega))) (fun a => ?_) (fun _ j y _ => tsA_o (by omega) (Or.inl (by omega)) (Or.inl (by omega)))
    · funext j
      exact tsA_o (by omega) (Or.inl (by omega)) (Or.inl (by omega))
    · exact tsA_o (by omega) (Or.inl (by omega)) (Or.inr (by have := hti (Or.inl a); omega))
  have a50 : tsA A σ q ar e2 50 (nts σ) = q := if_pos ⟨rfl, rfl⟩
  have a51 : tsA A σ q ar e2 51 (nts σ) = ar := (if_neg (fun z => absurd z.1 (by decide))).trans (if_pos ⟨rfl, rfl⟩)
  have a4 : tsA A σ q ar e2 4 0 = e2 := (if_neg (fun z => absurd z.1 (by decide))).trans ((if_neg (fun z => absurd z.1 (by decide))).trans (if_pos rfl))
  have i50 : tsI σ nu ln mc 50 (nts σ) = fun k => if k = 0 then nu else if k = 1 then ln else 0 := if_pos ⟨rfl, rfl⟩
  have i51 : tsI σ nu ln mc 51 (nts σ) = z0 := (if_neg (fun z => absurd z.1 (by decide))).trans (if_pos ⟨rfl, rfl⟩)
  have i3 : tsI σ nu ln mc 3 0 = fun k => if k = 0 then mc else nI (nts σ + 1) := (if_neg (fun z => absurd z.1 (by decide))).trans ((if_neg (fun z => absurd z.1 (by decide))).trans (if_pos ⟨rfl, rfl⟩))
  have oI : ∀ t i, t ≠ 3 → t ≠ 50 → t ≠ 51 → (tsS σ nu ln mc e2 cap2 g2).1 t i = σ.1 t i := fun t i a b c => tsI_o (Or.inl a) (Or.inl b) (Or.inl c)
  have oN : ∀ t i, t ≠ 3 → t ≠ 4 → t ≠ 200 → (tsS σ nu ln mc e2 cap2 g2).2.1 t i = σ.2.1 t i := fun t i a b c => tsN_o a b c
  have oO : ∀ t i, t ≠ 4 → (tsS σ nu ln mc e2 cap2 g2).2.2 t i = σ.2.2 t i := fun t i a => if_neg a
  have oA : ∀ t i, t ≠ 4 → t ≠ 50 → t ≠ 51 → tsA A σ q ar e2 t i = A t i := fun t i a b c => tsA_o a (Or.inl b) (Or.inl c)
  have cls : ∀ t i, vd (tsS σ nu ln mc e2 cap2 g2) t i → (t = 50 ∧ i = nts σ) ∨ (t = 51 ∧ i = nts σ) ∨ (t = 4 ∧ i = 0) ∨ (vd σ t i ∧ t ≠ 4 ∧ (t ≠ 50 ∨ i ≠ nts σ) ∧ (t ≠ 51 ∨ i ≠ nts σ) ∧ (t = 50 ∨ t = 51 → i < nts σ) ∧ t ≠ 200) := by
    intro t i hv
    by_cases e1 : t = 50
    · subst e1
      have hl : i < nts σ + 1 := hv
      by_cases e2 : i = nts σ
      · exact Or.inl ⟨rfl, e2⟩
      · exact Or.inr (Or.inr (Or.inr ⟨show i < nts σ by omega, by decide, Or.inr e2, Or.inl (by decide), fun _ => by omega, by decide⟩))
    · by_cases e3 : t = 51
      · subst e3
        have hl : i < nts σ + 1 := hv
        by_cases e2 : i = nts σ
        · exact Or.inr (Or.inl ⟨rfl, e2⟩)
        · exact Or.inr (Or.inr (Or.inr ⟨show i < nts σ by omega, by decide, Or.inl (by decide), Or.inr e2, fun _ => by omega, by decide⟩))
      · by_cases e4 : t = 4
        · subst e4
          exact Or.inr (Or.inr (Or.inl ⟨rfl, hv.1⟩))
        · refine Or.inr (Or.inr (Or.inr ⟨vd_T (σ := σ) (σ' := tsS σ nu ln mc e2 cap2 g2) rfl rfl ?_ ⟨e4, e1, e3⟩ hv, e4, Or.inl e1, Or.inl e3, fun z => by omega, fun z => ?_⟩))
          · funext p
            show tsN σ e2 cap2 201 p 0 = σ.2.1 201 p 0
            rw [tsN_o (by decide) (by decide) (by decide)]
          · subst z
            exact hv
  have hall : ∀ t i, vd (tsS σ nu ln mc e2 cap2 g2) t i → (vd σ t i ∧ tsA A σ q ar e2 t i = A t i ∧ h2 (A t i) = some (CB (tsA A σ q ar e2) (tsI σ nu ln mc t i) (tsN σ e2 cap2 t i) (tsO σ g2 t i) t i)) ∨ (h (tsA A σ q ar e2 t i) = none ∧ tsA A σ q ar e2 t i ≠ G.2.2 ∧ h2 (tsA A σ q ar e2 t i) = some (CB (tsA A σ q ar e2) (tsI σ nu ln mc t i) (tsN σ e2 cap2 t i) (tsO σ g2 t i) t i)) := by
    intro t i hv
    rcases cls t i hv with ⟨rfl, rfl⟩ | ⟨rfl, rfl⟩ | ⟨rfl, rfl⟩ | ⟨hv0, n4, n50, n51, hlt, n200⟩
    · refine Or.inr ⟨by rw [a50]; exact hq0.1, by rw [a50]; exact hq0.2, ?_⟩
      rw [a50, i50]
      show h2 q = some (oB 10 [.int nu, .int ln, .int 0, .ref (tsA A σ q ar e2 51 (nts σ)), .int 0])
      rw [a51]
      exact hq2
    · refine Or.inr ⟨by rw [a51]; exact ha0.1, by rw [a51]; exact ha0.2, ?_⟩
      rw [a51, i51]
      exact ha2
    · rcases he2 with ⟨a, b⟩ | ⟨a, b, -⟩
      · refine Or.inl ⟨⟨rfl, b⟩, a4.trans a, ?_⟩
        rw [← a]
        exact hl2.2.1
      · refine Or.inr ⟨by rw [a4]; exact a, by rw [a4]; exact b, ?_⟩
        rw [a4]
        exact hl2.2.1
    · refine Or.inl ⟨hv0, tsA_o n4 n50 n51, ?_⟩
      rw [cbo t i _ _ _ hlt]
      by_cases e3 : t = 3
      · subst e3
        have : i = 0 := hv0
        subst this
        rw [i3]
        exact hl2.1
      · rw [old2 t i hv0 e3 n4, tsI_o (Or.inl e3) n50 n51, tsN_o e3 n4 n200, show tsO σ g2 t i = σ.2.2 t i from if_neg n4]
        exact H.1 t i hv0
  have hcl : ∀ t i, vd (tsS σ nu ln mc e2 cap2 g2) t i → h (tsA A σ q ar e2 t i) = none → (t = 50 ∧ i = nts σ ∧ tsA A σ q ar e2 t i = q) ∨ (t = 51 ∧ i = nts σ ∧ tsA A σ q ar e2 t i = ar) ∨ (t = 4 ∧ i = 0 ∧ tsA A σ q ar e2 t i = e2) := by
    intro t i hv hz
    rcases cls t i hv with ⟨rfl, rfl⟩ | ⟨rfl, rfl⟩ | ⟨rfl, rfl⟩ | ⟨hv0, n4, n50, n51, hlt, -⟩
    · exact Or.inl ⟨rfl, rfl, a50⟩
    · exact Or.inr (Or.inl ⟨rfl, rfl, a51⟩)
    · exact Or.inr (Or.inr ⟨rfl, rfl, a4⟩)
    · rw [tsA_o n4 n50 n51, H.1 t i hv0] at hz
      cases hz
  have hE2 : e2 ≠ G.2.2 := by
    rcases he2 with ⟨a, b⟩ | ⟨-, b, -⟩
    · rw [a]; exact (H.2.1 4 0 ⟨rfl, b⟩).1
    · exact b
  have hg2 : h2 G.2.2 = some hE0 := by
    rw [hs G.2.2 (fun z => by
      rcases List.mem_cons.mp z with e | e
      · exact (H.2.1 3 0 hv3).1 e.symm
      · exact hE2 (List.mem_singleton.mp e).symm), x3 G.2.2 (fun z => by
      rcases List.mem_cons.mp (by simpa using z : G.2.2 ∈ [q, ar]) with e | e
      · exact hq0.2 e.symm
      · exact ha0.2 (List.mem_singleton.mp e).symm)]
    exact H.hd
  refine ⟨H.gr hg2 hall (fun t i u j hv hu hz e => ?_) ⟨?_, ?_, ?_, fun p hp => ?_⟩ ?_, fun y c hy hc => ?_⟩
  · rcases hcl t i hv hz with ⟨b1, b2, b3⟩ | ⟨b1, b2, b3⟩ | ⟨b1, b2, b3⟩ <;> rcases hcl u j hu (e ▸ hz) with ⟨d1, d2, d3⟩ | ⟨d1, d2, d3⟩ | ⟨d1, d2, d3⟩
    · exact ⟨b1.trans d1.symm, b2.trans d2.symm⟩
    · exact absurd (b3.symm.trans (e.trans d3)) hqa
    · exact absurd (b3.symm.trans (e.trans d3)) hne2q
    · exact absurd (b3.symm.trans (e.trans d3)).symm hqa
    · exact ⟨b1.trans d1.symm, b2.trans d2.symm⟩
    · exact absurd (b3.symm.trans (e.trans d3)) hne2a
    · exact absurd (b3.symm.trans (e.trans d3)).symm hne2q
    · exact absurd (b3.symm.trans (e.trans d3)).symm hne2a
    · exact ⟨b1.trans d1.symm, b2.trans d2.symm⟩
  · exact H.2.2.2.1.1.cg (oI 1 0 (by decide) (by decide) (by decide)) (oN 1 0 (by decide) (by decide) (by decide)) (oN 2 0 (by decide) (by decide) (by decide)) (oO 2 0 (by decide)) (oA 2 0 (by decide) (by decide) (by decide)) (fun j _ => oA 20 j (by decide) (by decide) (by decide))
  · refine ⟨by show tsI σ nu ln mc 3 0 1 = nI (nts σ + 1); rw [i3]; rfl, fun z => absurd z (by show ¬ nts σ + 1 = 0; omega), fun _ => ⟨by rw [a4]; rfl, hl2.2.2.1, hec, fun j hj => ?_⟩⟩
    have hj2 : j < nts σ + 1 := hj
    show g2 j = _
    rw [hl2.2.2.2.2 j hj2]
    unfold upN
    by_cases ej : j = nts σ
    · rw [if_pos ej, ej, a50]
    · rw [if_neg ej, tsA_o (by decide) (Or.inr ej) (Or.inl (by decide))]
  · exact H.2.2.2.1.2.2.1.cg (oI 5 0 (by decide) (by decide) (by decide)) (oN 5 0 (by decide) (by decide) (by decide)) (oN 6 0 (by decide) (by decide) (by decide)) (oO 6 0 (by decide)) (oA 6 0 (by decide) (by decide) (by decide)) (fun j _ => oA 40 j (by decide) (by decide) (by decide))
  · have e1 : rnp (tsS σ nu ln mc e2 cap2 g2) p = rnp σ p := by
      show tsN σ e2 cap2 201 p 0 = σ.2.1 201 p 0
      rw [tsN_o (by decide) (by decide) (by decide)]
    rw [e1]
    refine (H.2.2.2.1.2.2.2 p hp).cg (oI 34 p (by decide) (by decide) (by decide)) (oN 34 p (by decide) (by decide) (by decide)) (oN 35 p (by decide) (by decide) (by decide)) (oO 35 p (by decide)) (oA 35 p (by decide) (by decide) (by decide)) (fun j _ => ?_)
    show tsA A σ q ar e2 40 (tsN σ e2 cap2 202 p j) = _
    rw [tsN_o (by decide) (by decide) (by decide)]
    exact tsA_o (by decide) (Or.inl (by decide)) (Or.inl (by decide))
  · obtain ⟨b1, b2, b3, b4, b5, b6, b7, b8, b9, b10, b11⟩ := H.iv
    refine ⟨b1, show nts σ + 1 ≤ 8 by omega, b3, fun p hp => ?_, b5, b6, b7, b8, fun p hp => ?_, fun r hr => ?_, fun t ht => ?_⟩
    · have e1 : rnp (tsS σ nu ln mc e2 cap2 g2) p = rnp σ p := by
        show tsN σ e2 cap2 201 p 0 = σ.2.1 201 p 0
        rw [tsN_o (by decide) (by decide) (by decide)]
      rw [e1]
      refine ⟨(b4 p hp).1, fun j hj => ?_⟩
      show tsN σ e2 cap2 202 p j < _
      rw [tsN_o (by decide) (by decide) (by decide)]
      exact (b4 p hp).2 j hj
    · show b01 (tsI σ nu ln mc 27 p 0) ∧ b01 (tsI σ nu ln mc 25 p 0)
      rw [tsI_o (Or.inl (by decide)) (Or.inl (by decide)) (Or.inl (by decide)), tsI_o (Or.inl (by decide)) (Or.inl (by decide)) (Or.inl (by decide))]
      exact b9 p hp
    · show b01 (tsI σ nu ln mc 40 r 2)
      rw [tsI_o (Or.inl (by decide)) (Or.inl (by decide)) (Or.inl (by decide))]
      exact b10 r hr
    · have ht2 : t < nts σ + 1 := ht
      show b01 (tsI σ nu ln mc 50 t 2) ∧ bF (tsI σ nu ln mc 51 t)
      by_cases et : t = nts σ
      · subst et
        rw [i50, i51]
        exact ⟨Or.inl rfl, fun j _ => Or.inl rfl⟩
      · rw [tsI_o (Or.inl (by decide)) (Or.inr et) (Or.inl (by decide)), tsI_o (Or.inl (by decide)) (Or.inl (by decide)) (Or.inr et)]
        exact b11 t (by omega)
  · have n3 : y ≠ A 3 0 := fun e => by
      rw [e, H.c3] at hy
      cases hy
      exact hc
    have ne : y ≠ e2 := fun e => by
      rcases he2 with ⟨a, b⟩ | ⟨a, -⟩
      · rw [e, a, H.c4 b] at hy
        cases hy
        exact hc
      · rw [e, a] at hy; cases hy
    rw [hs y (fun z => by
      rcases List.mem_cons.mp z with e | e
      · exact n3 e
      · exact ne (List.mem_singleton.mp e)), x3 y (fun z => by
      rcases List.mem_cons.mp (by simpa using z : y ∈ [q, ar]) with e | e
      · rw [e, hq0.1] at hy; cases hy
      · rw [List.mem_singleton.mp e, ha0.1] at hy; cases hy)]
    exact hy
end GRT
