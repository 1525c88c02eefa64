/-! a package more -/
section GRP
variable {G : hG} {h h1 h2 : hp} {A : aT} {σ : sT}
def pkI (σ : sT) (ow mc : Int32) : Nat → Nat → Nat → Int32 := fun t i => if 20 ≤ t ∧ t ≤ 34 ∧ i = npk σ then (if t = 20 then (fun _ => ow) else z0) else if t = 1 ∧ i = 0 then (fun k => if k = 0 then mc else nI (npk σ + 1)) else σ.1 t i
def pkN (G : hG) (σ : sT) (e2 cap2 : Nat) : Nat → Nat → Nat → Nat := fun t i k => if t = 200 ∧ i = 0 ∧ k = 0 then npk σ + 1 else if t = 201 ∧ i = npk σ then 0 else if 20 ≤ t ∧ t ≤ 34 ∧ i = npk σ then G.2.2 else if t = 1 then e2 else if t = 2 then cap2 else σ.2.1 t i k
def pkO (σ : sT) (g2 : Nat → Option Nat) : Nat → Nat → Nat → Option Nat := fun t i => if 20 ≤ t ∧ t ≤ 34 ∧ i = npk σ then zN else if t = 2 then g2 else σ.2.2 t i
def pkS (G : hG) (σ : sT) (ow mc : Int32) (e2 cap2 : Nat) (g2 : Nat → Option Nat) : sT := (pkI σ ow mc, pkN G σ e2 cap2, pkO σ g2)
def pkA (A : aT) (σ : sT) (nw : Nat → Nat) (e2 : Nat) : aT := fun t i => if 20 ≤ t ∧ t ≤ 34 ∧ i = npk σ then nw t else if t = 2 then e2 else A t i
abbrev isNP (σ : sT) (t i : Nat) : Prop := 20 ≤ t ∧ t ≤ 34 ∧ i = npk σ
theorem pkA_o {nw : Nat → Nat} {e2 t i : Nat} (h1 : t ≠ 2) (h2 : ¬ isNP σ t i) : pkA A σ nw e2 t i = A t i := by
  unfold pkA
  rw [if_neg h2, if_neg h1]
theorem pkA_n {nw : Nat → Nat} {e2 t i : Nat} (h2 : isNP σ t i) : pkA A σ nw e2 t i = nw t := if_pos h2
theorem pkI_o {ow mc : Int32} {t i : Nat} (h1 : t ≠ 1) (h2 : ¬ isNP σ t i) : pkI σ ow mc t i = σ.1 t i := by
  unfold pkI
  rw [if_neg h2, if_neg (fun z => h1 z.1)]
theorem pkN_o {e2 cap2 t i : Nat} (h1 : t ≠ 1) (h2 : t ≠ 2) (h3 : t ≠ 200) (h4 : t ≠ 201 ∨ i ≠ npk σ) (h5 : ¬ isNP σ t i) : pkN G σ e2 cap2 t i = σ.2.1 t i := by
  funext k
  unfold pkN
  rw [if_neg (fun z => h3 z.1), if_neg (by rintro ⟨a, b⟩; rcases h4 with z | z <;> exact z (by assumption)), if_neg h5, if_neg h1, if_neg h2]
theorem vd_P {σ σ' : sT} (e1 : nts σ' = nts σ) (e3 : nrl σ' = nrl σ) (e4 : npk σ' = npk σ + 1) (e5 : ∀ i, i < npk σ → rnp σ' i = rnp σ i) (e6 : rnp σ' (npk σ) = 0) {t i : Nat} (ht : t ≠ 2) (hn : ¬ isNP σ t i) (hv : vd σ' t i) : vd σ t i := by
  have h35 : i < npk σ + 1 ∧ 0 < rnp σ' i → i < npk σ ∧ 0 < rnp σ i := by
    rintro ⟨a, b⟩
    by_cases h8 : i = npk σ
    · subst h8
      rw [e6] at b
      exact absurd b (Nat.lt_irrefl 0)
    · have h9 : i < npk σ := by omega
      exact ⟨h9, (e5 i h9) ▸ b⟩
  unfold vd at hv ⊢
  rw [e1, e3, e4] at hv
  split at hv <;> first | exact hv | exact absurd rfl ht | exact h35 hv | omega
set_option maxHeartbeats 4000000 in
/-- a new cell's content, by its own addresses -/
theorem CB_pk {A' : aT} {nw : Nat → Nat} {f : Nat → Int32} {c : Nat → Nat} {t i : Nat} (h1 : 20 ≤ t) (h2 : t ≤ 34) (hA : ∀ u, 20 ≤ u → u ≤ 34 → A' u i = nw u) : CB A' f c zN t i = CB (fun u _ => nw u) f c zN t 0 := by
  unfold CB
  split
  · omega
  · omega
  · omega
  · omega
  · omega
  · omega
  · omega
  · omega
  · omega
  · omega
  · omega
  · omega
  · omega
  · omega
  · omega
  · rw [hA 21 (by decide) (by decide), hA 25 (by decide) (by decide), hA 27 (by decide) (by decide), hA 34 (by decide) (by decide)]
  · rw [hA 22 (by decide) (by decide)]
  · rw [hA 23 (by decide) (by decide), hA 24 (by decide) (by decide)]
  · rfl
  · rfl
  · rw [hA 26 (by decide) (by decide)]
  · rfl
  · rw [hA 28 (by decide) (by decide), hA 32 (by decide) (by decide)]
  · rw [hA 29 (by decide) (by decide)]
  · rw [hA 30 (by decide) (by decide), hA 31 (by decide) (by decide)]
  · rfl
  · rfl
  · rw [hA 33 (by decide) (by decide)]
  · rfl
  · rfl
  · omega
  · omega
  · omega
  · omega
  · omega
  · omega
  · omega
  · omega
  · omega
  · omega
  · omega
  · rfl
set_option maxHeartbeats 2000000 in
theorem W9.gP (H : W9 G h A σ) (hnt : npk σ < 6) {nw : Nat → Nat} {e2 cap2 ed cap : Nat} {g2 : Nat → Option Nat} {ow mc : Int32} (x1 : ∀ t, 20 ≤ t → t ≤ 34 → h (nw t) = none ∧ nw t ≠ G.2.2) (x2 : ∀ t u, 20 ≤ t → t ≤ 34 → 20 ≤ u → u ≤ 34 → nw t = nw u → t = u) (x3 : ∀ y c, h y = some c → h1 y = some c) (x4 : ∀ y, h1 y = none → h y = none ∧ ∀ t, 20 ≤ t → t ≤ 34 → y ≠ nw t)
    (hX : ∀ t, 20 ≤ t → t ≤ 34 → h1 (nw t) = some (CB (fun u _ => nw u) (if t = 20 then (fun _ => ow) else z0) (fun _ => G.2.2) zN t 0)) (hl2 : isLx h2 (A 1 0) e2 cap2 (npk σ + 1) mc (upN (A 20) (npk σ) (nw 20)) g2) (hs : sm h1 h2 [A 1 0, e2]) (hk : eOK G h1 ed (npk σ) cap e2 cap2)
    (hed : npk σ = 0 → cap = 0) (hed2 : 0 < npk σ → ed = A 2 0 ∧ eC cap) : W9 G h2 (pkA A σ nw e2) (pkS G σ ow mc e2 cap2 g2) ∧ FR h h2 := by
  have he2 : ((e2 = A 2 0 ∧ 0 < npk σ) ∨ (h e2 = none ∧ e2 ≠ G.2.2 ∧ ∀ t, 20 ≤ t → t ≤ 34 → e2 ≠ nw t)) ∧ eC cap2 := by
    rcases hk with ⟨a, b, c⟩ | ⟨⟨a, b⟩, c⟩
    · have h0 : 0 < npk σ := Nat.pos_of_ne_zero (fun z => by rw [z, hed z] at c; exact absurd c (Nat.lt_irrefl 0))
      exact ⟨Or.inl ⟨a.trans (hed2 h0).1, h0⟩, b ▸ (hed2 h0).2⟩
    · exact ⟨Or.inr ⟨(x4 e2 a).1, b, (x4 e2 a).2⟩, c⟩
  obtain ⟨he2, hec⟩ := he2
  have hv3 : vd σ 1 0 := rfl
  have ne2 : ∀ t i, vd σ t i → t ≠ 2 → A t i ≠ e2 := fun t i hv ht e => by
    rcases he2 with ⟨a, b⟩ | ⟨a, -⟩
    · exact ht ((H.2.1 t i hv).2 2 0 ⟨rfl, b⟩ (e.trans a)).1
    · have hh := H.1 t i hv
      rw [e, a] at hh; cases hh
  have old2 : ∀ t i, vd σ t i → t ≠ 1 → t ≠ 2 → h2 (A t i) = some (CB A (σ.1 t i) (σ.2.1 t i) (σ.2.2 t i) t i) := fun t i hv h3 h4 => by
    rw [hs _ (fun z => by
      rcases List.mem_cons.mp z with e | e
      · exact h3 ((H.2.1 t i hv).2 1 0 hv3 e).1
      · exact ne2 t i hv h4 (List.mem_singleton.mp e))]
    exact x3 _ _ (H.1 t i hv)
  have hqn : ∀ y, h y = none → y ≠ e2 → h2 y = h1 y := fun y hy hye => hs _ (fun z => by
    rcases List.mem_cons.mp z with e | e
    · have hh := H.1 1 0 hv3
      rw [← e, hy] at hh; cases hh
    · exact hye (List.mem_singleton.mp e))
  have hne2q : ∀ t, 20 ≤ t → t ≤ 34 → nw t ≠ e2 := fun t t1 t2 e => by
    rcases he2 with ⟨a, b⟩ | ⟨-, -, a⟩
    · have hh := H.c2 b
      rw [← a, ← e, (x1 t t1 t2).1] at hh; cases hh
    · exact a t t1 t2 e.symm
  have hq2 : ∀ t, 20 ≤ t → t ≤ 34 → h2 (nw t) = some (CB (fun u _ => nw u) (if t = 20 then (fun _ => ow) else z0) (fun _ => G.2.2) zN t 0) := fun t t1 t2 => (hqn _ (x1 t t1 t2).1 (hne2q t t1 t2)).trans (hX t t1 t2)
  have nA : ∀ u j, ¬ (20 ≤ u ∧ u ≤ 34) → ¬ isNP σ u j := fun u j a b => a ⟨b.1, b.2.1⟩
  have cbo : ∀ t i (f : Nat → Int32) (c : Nat → Nat) (g : Nat → Option Nat), (20 ≤ t → t < 40 → i ≠ npk σ) → CB (pkA A σ nw e2) f c g t i = CB A f c g t i := fun t i f c g hti => by
    refine CB_cg (fun u hu => ?_) (fun a b u h1 h2 => pkA_o (by omega) (fun z => hti a b z.2.2)) (fun _ _ u h1 h2 => pkA_o (by omega) (nA _ _ (by omega))) (fun _ => pkA_o (by omega) (nA _ _ (by omega))) (fun _ j y _ => pkA_o (by omega) (nA _ _ (by omega)))
    funext j
    exact pkA_o (by omega) (nA _ _ (by omega))
  have a4 : pkA A σ nw e2 2 0 = e2 := (if_neg (fun z => absurd z.1 (by decide))).trans (if_pos rfl)
  have i3 : pkI σ ow mc 1 0 = fun k => if k = 0 then mc else nI (npk σ + 1) := (if_neg (fun z => absurd z.1 (by decide))).trans (if_pos ⟨rfl, rfl⟩)
  have oI : ∀ t i, t ≠ 1 → ¬ isNP σ t i → (pkS G σ ow mc e2 cap2 g2).1 t i = σ.1 t i := fun t i a b => pkI_o a b
  have oN : ∀ t i, t ≠ 1 → t ≠ 2 → t ≠ 200 → t ≠ 201 → ¬ isNP σ t i → (pkS G σ ow mc e2 cap2 g2).2.1 t i = σ.2.1 t i := fun t i a b c d e => pkN_o a b c (Or.inl d) e
  have oO : ∀ t i, t ≠ 2 → ¬ isNP σ t i → (pkS G σ ow mc e2 cap2 g2).2.2 t i = σ.2.2 t i := fun t i a b => (if_neg b).trans (if_neg a)
  have oA : ∀ t i, t ≠ 2 → ¬ isNP σ t i → pkA A σ nw e2 t i = A t i := fun t i a b => pkA_o a b
  have enp : npk (pkS G σ ow mc e2 cap2 g2) = npk σ + 1 := rfl
  have ern : ∀ p, p < npk σ → rnp (pkS G σ ow mc e2 cap2 g2) p = rnp σ p := fun p hp => by
    show pkN G σ e2 cap2 201 p 0 = σ.2.1 201 p 0
    rw [pkN_o (by decide) (by decide) (by decide) (Or.inr (by omega)) (nA _ _ (by omega))]
  have ern0 : rnp (pkS G σ ow mc e2 cap2 g2) (npk σ) = 0 := by
    show pkN G σ e2 cap2 201 (npk σ) 0 = 0
    unfold pkN
    rw [if_neg (fun z => absurd z.1 (by decide)), if_pos ⟨rfl, rfl⟩]
  have cls : ∀ t i, vd (pkS G σ ow mc e2 cap2 g2) t i → isNP σ t i ∨ (t = 2 ∧ i = 0) ∨ (vd σ t i ∧ t ≠ 2 ∧ ¬ isNP σ t i ∧ (20 ≤ t → t < 40 → i ≠ npk σ) ∧ t ≠ 200 ∧ t ≠ 201) := by
    intro t i hv
    by_cases e1 : isNP σ t i
    · exact Or.inl e1
    · by_cases e4 : t = 2
      · subst e4
        exact Or.inr (Or.inl ⟨rfl, hv.1⟩)
      · have hv0 := vd_P (σ := σ) (σ' := pkS G σ ow mc e2 cap2 g2) rfl rfl enp ern ern0 e4 e1 hv
        refine Or.inr (Or.inr ⟨hv0, e4, e1, fun z1 z2 z3 => ?_, fun z => ?_, fun z => ?_⟩)
        · subst z3
          unfold vd at hv0
          split at hv0 <;> omega
        · subst z; exact hv0
        · subst z; exact hv0
  have hall : ∀ t i, vd (pkS G σ ow mc e2 cap2 g2) t i → (vd σ t i ∧ pkA A σ nw e2 t i = A t i ∧ h2 (A t i) = some (CB (pkA A σ nw e2) (pkI σ ow mc t i) (pkN G σ e2 cap2 t i) (pkO σ g2 t i) t i)) ∨ (h (pkA A σ nw e2 t i) = none ∧ pkA A σ nw e2 t i ≠ G.2.2 ∧ h2 (pkA A σ nw e2 t i) = some (CB (pkA A σ nw e2) (pkI σ ow mc t i) (pkN G σ e2 cap2 t i) (pkO σ g2 t i) t i)) := by
    intro t i hv
    rcases cls t i hv with e1 | ⟨rfl, rfl⟩ | ⟨hv0, n4, n5, hlt, n200, n201⟩
    · have a1 := pkA_n (A := A) (nw := nw) (e2 := e2) e1
      have b1 : pkI σ ow mc t i = if t = 20 then (fun _ => ow) else z0 := if_pos e1
      have b2 : pkN G σ e2 cap2 t i = fun _ => G.2.2 := by
        funext k
        unfold pkN
        have := e1.2.1
        rw [if_neg (fun z => absurd z.1 (by omega)), if_neg (fun z => absurd z.1 (by omega)), if_pos e1]
      have b3 : pkO σ g2 t i = zN := if_pos e1
      refine Or.inr ⟨by rw [a1]; exact (x1 t e1.1 e1.2.1).1, by rw [a1]; exact (x1 t e1.1 e1.2.1).2, ?_⟩
      rw [a1, b1, b2, b3, CB_pk (nw := nw) e1.1 e1.2.1 (fun u u1 u2 => pkA_n ⟨u1, u2, e1.2.2⟩)]
      exact hq2 t e1.1 e1.2.1
    · rcases he2 with ⟨a, b⟩ | ⟨a, b, -⟩
      · refine Or.inl ⟨⟨rfl, b⟩, a4.trans a, ?_⟩
        rw [← a]
        exact hl2.2.1
      · refine Or.inr ⟨by rw [a4]; exact a, by rw [a4]; exact b, ?_⟩
        rw [a4]
        exact hl2.2.1
    · refine Or.inl ⟨hv0, pkA_o n4 n5, ?_⟩
      rw [cbo t i _ _ _ hlt]
      by_cases e3 : t = 1
      · subst e3
        have : i = 0 := hv0
        subst this
        rw [i3]
        exact hl2.1
      · rw [old2 t i hv0 e3 n4, pkI_o e3 n5, pkN_o e3 n4 n200 (Or.inl n201) n5, show pkO σ g2 t i = σ.2.2 t i from (if_neg n5).trans (if_neg n4)]
  have hcl : ∀ t i, vd (pkS G σ ow mc e2 cap2 g2) t i → h (pkA A σ nw e2 t i) = none → (isNP σ t i ∧ pkA A σ nw e2 t i = nw t) ∨ (t = 2 ∧ i = 0 ∧ pkA A σ nw e2 t i = e2) := by
    intro t i hv hz
    rcases cls t i hv with e1 | ⟨rfl, rfl⟩ | ⟨hv0, n4, n5, hlt, -⟩
    · exact Or.inl ⟨e1, pkA_n e1⟩
    · exact Or.inr ⟨rfl, rfl, a4⟩
    · rw [pkA_o n4 n5, H.1 t i hv0] at hz
      cases hz
  have hE2 : e2 ≠ G.2.2 := by
    rcases he2 with ⟨a, b⟩ | ⟨-, b, -⟩
    · rw [a]; exact (H.2.1 2 0 ⟨rfl, b⟩).1
    · exact b
  have hg2 : h2 G.2.2 = some hE0 := by
    rw [hs G.2.2 (fun z => by
      rcases List.mem_cons.mp z with e | e
      · exact (H.2.1 1 0 hv3).1 e.symm
      · exact hE2 (List.mem_singleton.mp e).symm)]
    exact x3 _ _ H.hd
  have nlt : ∀ u p, p < npk σ → ¬ isNP σ u p := fun u p a b => by have := b.2.2; omega
  refine ⟨H.gr hg2 hall (fun t i u j hv hu hz e => ?_) ⟨?_, ?_, ?_, fun p hp => ?_⟩ ?_, fun y c hy hc => ?_⟩
  · rcases hcl t i hv hz with ⟨b1, b3⟩ | ⟨b1, b2, b3⟩ <;> rcases hcl u j hu (e ▸ hz) with ⟨d1, d3⟩ | ⟨d1, d2, d3⟩
    · exact ⟨x2 t u b1.1 b1.2.1 d1.1 d1.2.1 (b3.symm.trans (e.trans d3)), b1.2.2.trans d1.2.2.symm⟩
    · exact absurd (b3.symm.trans (e.trans d3)) (hne2q t b1.1 b1.2.1)
    · exact absurd (b3.symm.trans (e.trans d3)).symm (hne2q u d1.1 d1.2.1)
    · exact ⟨b1.trans d1.symm, b2.trans d2.symm⟩
  · refine ⟨by show pkI σ ow mc 1 0 1 = nI (npk σ + 1); rw [i3]; rfl, fun z => absurd z (by show ¬ npk σ + 1 = 0; omega), fun _ => ⟨by rw [a4]; rfl, hl2.2.2.1, hec, fun j hj => ?_⟩⟩
    have hj2 : j < npk σ + 1 := hj
    show g2 j = _
    rw [hl2.2.2.2.2 j hj2]
    unfold upN
    by_cases ej : j = npk σ
    · rw [if_pos ej, ej, pkA_n ⟨by decide, by decide, rfl⟩]
    · rw [if_neg ej, pkA_o (by decide) (fun z => ej z.2.2)]
  · exact H.2.2.2.1.2.1.cg (oI 3 0 (by decide) (nA _ _ (by decide))) (oN 3 0 (by decide) (by decide) (by decide) (by decide) (nA _ _ (by decide))) (oN 4 0 (by decide) (by decide) (by decide) (by decide) (nA _ _ (by decide))) (oO 4 0 (by decide) (nA _ _ (by decide))) (oA 4 0 (by decide) (nA _ _ (by decide))) (fun j _ => oA 50 j (by decide) (nA _ _ (by decide)))
  · exact H.2.2.2.1.2.2.1.cg (oI 5 0 (by decide) (nA _ _ (by decide))) (oN 5 0 (by decide) (by decide) (by decide) (by decide) (nA _ _ (by decide))) (oN 6 0 (by decide) (by decide) (by decide) (by decide) (nA _ _ (by decide))) (oO 6 0 (by decide) (nA _ _ (by decide))) (oA 6 0 (by decide) (nA _ _ (by decide))) (fun j _ => oA 40 j (by decide) (nA _ _ (by decide)))
  · have hp2 : p < npk σ + 1 := hp
    by_cases ep : p = npk σ
    · subst ep
      rw [ern0]
      refine ⟨?_, fun _ => ?_, fun z => absurd z (Nat.lt_irrefl 0)⟩
      · show pkI σ ow mc 34 (npk σ) 1 = nI 0
        rw [show pkI σ ow mc 34 (npk σ) = z0 from if_pos ⟨by decide, by decide, rfl⟩]
        rfl
      · show pkN G σ e2 cap2 34 (npk σ) 0 = G.2.2
        unfold pkN
        rw [if_neg (fun z => absurd z.1 (by decide)), if_neg (fun z => absurd z.1 (by decide)), if_pos ⟨by decide, by decide, rfl⟩]
    · have hpl : p < npk σ := by omega
      rw [ern p hpl]
      refine (H.2.2.2.1.2.2.2 p hpl).cg (oI 34 p (by decide) (nlt _ _ hpl)) (oN 34 p (by decide) (by decide) (by decide) (by decide) (nlt _ _ hpl)) (oN 35 p (by decide) (by decide) (by decide) (by decide) (nA _ _ (by decide))) (oO 35 p (by decide) (nA _ _ (by decide))) (oA 35 p (by decide) (nA _ _ (by decide))) (fun j _ => ?_)
      show pkA A σ nw e2 40 (pkN G σ e2 cap2 202 p j) = _
      rw [pkN_o (by decide) (by decide) (by decide) (Or.inl (by decide)) (nA _ _ (by decide))]
      exact oA 40 _ (by decide) (nA _ _ (by decide))
  · obtain ⟨b1, b2, b3, b4, b5, b6, b7, b8, b9, b10, b11⟩ := H.iv
    refine ⟨show npk σ + 1 ≤ 6 by omega, b2, b3, fun p hp => ?_, ?_, ?_, fun p hp => ?_, fun r hr => ?_, fun p hp => ?_, fun r hr => ?_, fun t ht => ?_⟩
    · have hp2 : p < npk σ + 1 := hp
      by_cases ep : p = npk σ
      · subst ep
        rw [ern0]
        exact ⟨Nat.zero_le _, fun j hj => absurd hj (Nat.not_lt_zero j)⟩
      · have hpl : p < npk σ := by omega
        rw [ern p hpl]
        refine ⟨(b4 p hpl).1, fun j hj => ?_⟩
        show pkN G σ e2 cap2 202 p j < _
        rw [pkN_o (by decide) (by decide) (by decide) (Or.inl (by decide)) (nA _ _ (by decide))]
        exact (b4 p hpl).2 j hj
    · rw [oO 9 0 (by decide) (nA _ _ (by decide))]; exact b5
    · rw [oO 11 0 (by decide) (nA _ _ (by decide))]; exact b6
    · have hp2 : p < npk σ + 1 := hp
      by_cases ep : p = npk σ
      · subst ep
        rw [show (pkS G σ ow mc e2 cap2 g2).2.2 33 (npk σ) = zN from if_pos ⟨by decide, by decide, rfl⟩]
        intro j y hy
        cases hy
      · rw [oO 33 p (by decide) (nlt _ _ (by omega))]
        exact b7 p (by omega)
    · rw [oO 45 r (by decide) (nA _ _ (by decide))]; exact b8 r hr
    · have hp2 : p < npk σ + 1 := hp
      by_cases ep : p = npk σ
      · subst ep
        rw [show (pkS G σ ow mc e2 cap2 g2).1 27 (npk σ) = z0 from if_pos ⟨by decide, by decide, rfl⟩, show (pkS G σ ow mc e2 cap2 g2).1 25 (npk σ) = z0 from if_pos ⟨by decide, by decide, rfl⟩]
        exact ⟨Or.inl rfl, Or.inl rfl⟩
      · rw [oI 27 p (by decide) (nlt _ _ (by omega)), oI 25 p (by decide) (nlt _ _ (by omega))]
        exact b9 p (by omega)
    · rw [oI 40 r (by decide) (nA _ _ (by decide))]; exact b10 r hr
    · rw [oI 50 t (by decide) (nA _ _ (by decide)), oI 51 t (by decide) (nA _ _ (by decide))]; exact b11 t ht
  · have n3 : y ≠ A 1 0 := fun e => by
      rw [e, H.c1] at hy
      cases hy
      exact hc
    have ne : y ≠ e2 := fun e => by
      rcases he2 with ⟨a, b⟩ | ⟨a, -⟩
      · rw [e, a, H.c2 b] at hy
        cases hy
        exact hc
      · rw [e, a] at hy; cases hy
    rw [hs y (fun z => by
      rcases List.mem_cons.mp z with e | e
      · exact n3 e
      · exact ne (List.mem_singleton.mp e))]
    exact x3 y c hy
end GRP
