/-! a release more -/
section GRR
variable {G : hG} {h h1 h2 h3 : hp} {A : aT} {σ : sT}
abbrev isNR (σ : sT) (t i : Nat) : Prop := 40 ≤ t ∧ t ≤ 45 ∧ i = nrl σ
def rlC (v f : Int32) (le gr : Nat → Int32) (t : Nat) : Nat → Int32 := if t = 40 then (fun k => if k = 0 then v else if k = 1 then f else 0) else if t = 42 then le else if t = 43 then gr else z0
def rlI (σ : sT) (p : Nat) (v f : Int32) (le gr : Nat → Int32) (mc mc3 : Int32) : Nat → Nat → Nat → Int32 := fun t i => if isNR σ t i then rlC v f le gr t else if t = 34 ∧ i = p then (fun k => if k = 0 then mc else nI (rnp σ p + 1)) else if t = 5 ∧ i = 0 then (fun k => if k = 0 then mc3 else nI (nrl σ + 1)) else σ.1 t i
def rlN (σ : sT) (p e2 cap2 e3 cap3 : Nat) : Nat → Nat → Nat → Nat := fun t i k => if t = 200 ∧ i = 0 ∧ k = 2 then nrl σ + 1 else if t = 201 ∧ i = p ∧ k = 0 then rnp σ p + 1 else if t = 202 ∧ i = p ∧ k = rnp σ p then nrl σ else if t = 34 ∧ i = p then e2 else if t = 35 ∧ i = p then cap2 else if t = 5 then e3 else if t = 6 then cap3 else if isNR σ t i then 0 else σ.2.1 t i k
def rlO (σ : sT) (p : Nat) (g2 g3 g' : Nat → Option Nat) : Nat → Nat → Nat → Option Nat := fun t i => if isNR σ t i then (if t = 45 then g' else zN) else if t = 35 ∧ i = p then g2 else if t = 6 then g3 else σ.2.2 t i
def rlS (σ : sT) (p : Nat) (v f : Int32) (le gr : Nat → Int32) (g' : Nat → Option Nat) (mc mc3 : Int32) (e2 cap2 e3 cap3 : Nat) (g2 g3 : Nat → Option Nat) : sT := (rlI σ p v f le gr mc mc3, rlN σ p e2 cap2 e3 cap3, rlO σ p g2 g3 g')
def rlA (A : aT) (σ : sT) (p : Nat) (nw : Nat → Nat) (e2 e3 : Nat) : aT := fun t i => if isNR σ t i then nw t else if t = 35 ∧ i = p then e2 else if t = 6 then e3 else A t i
theorem rlA_o {p : Nat} {nw : Nat → Nat} {e2 e3 t i : Nat} (h1 : t ≠ 6) (h2 : ¬ isNR σ t i) (h3 : ¬ (t = 35 ∧ i = p)) : rlA A σ p nw e2 e3 t i = A t i := by
  unfold rlA
  rw [if_neg h2, if_neg h3, if_neg h1]
theorem rlI_o {p : Nat} {v f : Int32} {le gr : Nat → Int32} {mc mc3 : Int32} {t i : Nat} (h1 : ¬ (t = 34 ∧ i = p)) (h2 : ¬ isNR σ t i) (h3 : ¬ (t = 5 ∧ i = 0)) : rlI σ p v f le gr mc mc3 t i = σ.1 t i := by
  unfold rlI
  rw [if_neg h2, if_neg h1, if_neg h3]
theorem rlN_o {p e2 cap2 e3 cap3 t i : Nat} (h1 : t ≠ 200) (h2 : ¬ (t = 201 ∧ i = p)) (h3 : ¬ (t = 202 ∧ i = p)) (h4 : ¬ (t = 34 ∧ i = p)) (h5 : ¬ (t = 35 ∧ i = p)) (h6 : t ≠ 5) (h7 : t ≠ 6) (h8 : ¬ isNR σ t i) : rlN σ p e2 cap2 e3 cap3 t i = σ.2.1 t i := by
  funext k
  unfold rlN
  rw [if_neg (fun z => h1 z.1), if_neg (fun z => h2 ⟨z.1, z.2.1⟩), if_neg (fun z => h3 ⟨z.1, z.2.1⟩), if_neg h4, if_neg h5, if_neg h6, if_neg h7, if_neg h8]
theorem vd_R {σ σ' : sT} {p : Nat} (e1 : nts σ' = nts σ) (e3 : npk σ' = npk σ) (e4 : nrl σ' = nrl σ + 1) (e5 : ∀ i, i ≠ p → rnp σ' i = rnp σ i) {t i : Nat} (ht : t ≠ 6) (hp : ¬ (t = 35 ∧ i = p)) (hn : ¬ isNR σ t i) (hv : vd σ' t i) : vd σ t i := by
  have h35 : t = 35 → i < npk σ ∧ 0 < rnp σ' i → i < npk σ ∧ 0 < rnp σ i := fun e z => ⟨z.1, (e5 i (fun q => hp ⟨e, q⟩)) ▸ z.2⟩
  unfold vd at hv ⊢
  rw [e1, e3, e4] at hv
  split at hv <;> first | exact hv | exact absurd rfl ht | exact h35 rfl hv | omega
set_option maxHeartbeats 4000000 in
theorem CB_rl {A' : aT} {nw : Nat → Nat} {f : Nat → Int32} {c : Nat → Nat} {g : Nat → Option Nat} {t i : Nat} (h1 : 40 ≤ t) (h2 : t ≤ 45) (hA : ∀ u, 41 ≤ u → u ≤ 45 → A' u i = nw u) (hB : ∀ j x, g j = some x → A' 40 x = A 40 x) : CB A' f c g t i = CB (fun u j => if u = 40 then A 40 j else nw u) f c g t 0 := by
  have k3 : (fun j => (g j).map (A' 40)) = fun j => (g j).map (fun x => if (40 : Nat) = 40 then A 40 x else nw 40) := by
    funext j
    cases e : g j with
    | none => rfl
    | some x => exact congrArg some (hB j x e)
  unfold CB
  split
  · omega
  · omega
  · omega
  · omega
  · omega
  · omega
  · omega
  · omega
  · omega
  · omega
  · omega
  · omega
  · omega
  · omega
  · omega
  · omega
  · omega
  · omega
  · omega
  · omega
  · omega
  · omega
  · omega
  · omega
  · omega
  · omega
  · omega
  · omega
  · omega
  · omega
  · omega
  · rw [hA 41 (by decide) (by decide), hA 44 (by decide) (by decide)]; rfl
  · rw [hA 42 (by decide) (by decide), hA 43 (by decide) (by decide)]; rfl
  · rfl
  · rfl
  · rw [hA 45 (by decide) (by decide)]; rfl
  · rw [k3]
  · omega
  · omega
  · omega
  · omega
  · rfl
set_option maxHeartbeats 4000000 in
theorem W9.gR (H : W9 G h A σ) {p : Nat} (hpp : p < npk σ) (hnr : nrl σ < 20) {g' : Nat → Option Nat} (hg : pkB σ g') {nw : Nat → Nat} {e2 cap2 ed cap e3 cap3 ed3 capB : Nat} {g2 g3 : Nat → Option Nat} {v f mc mc3 : Int32} {le gr : Nat → Int32}
    (x1 : ∀ t, 40 ≤ t → t ≤ 45 → h (nw t) = none ∧ nw t ≠ G.2.2) (x2 : ∀ t u, 40 ≤ t → t ≤ 45 → 40 ≤ u → u ≤ 45 → nw t = nw u → t = u) (x3 : ∀ y c, h y = some c → h1 y = some c) (x4 : ∀ y, h1 y = none → h y = none ∧ ∀ t, 40 ≤ t → t ≤ 45 → y ≠ nw t)
    (hX : ∀ t, 40 ≤ t → t ≤ 45 → h1 (nw t) = some (CB (fun u j => if u = 40 then A 40 j else nw u) (rlC v f le gr t) (fun _ => 0) (if t = 45 then g' else zN) t 0))
    (hl2 : isLx h2 (A 34 p) e2 cap2 (rnp σ p + 1) mc (upN (fun j => A 40 (ixp σ p j)) (rnp σ p) (nw 40)) g2) (hs2 : sm h1 h2 [A 34 p, e2]) (hk2 : eOK G h1 ed (rnp σ p) cap e2 cap2) (hed : rnp σ p = 0 → cap = 0) (hed2 : 0 < rnp σ p → ed = A 35 p ∧ eC cap)
    (hl3 : isLx h3 (A 5 0) e3 cap3 (nrl σ + 1) mc3 (upN (A 40) (nrl σ) (nw 40)) g3) (hs3 : sm h2 h3 [A 5 0, e3]) (hk3 : eOK G h2 ed3 (nrl σ) capB e3 cap3) (hed3 : nrl σ = 0 → capB = 0) (hed4 : 0 < nrl σ → ed3 = A 6 0 ∧ eC capB) :
    W9 G h3 (rlA A σ p nw e2 e3) (rlS σ p v f le gr g' mc mc3 e2 cap2 e3 cap3 g2 g3) ∧ FR h h3 := by
  have hv34 : vd σ 34 p := hpp
  have hv5 : vd σ 5 0 := rfl
  have he2 : ((e2 = A 35 p ∧ 0 < rnp σ p) ∨ (h e2 = none ∧ e2 ≠ G.2.2 ∧ ∀ t, 40 ≤ t → t ≤ 45 → e2 ≠ nw t)) ∧ eC cap2 := by
    rcases hk2 with ⟨a, b, c⟩ | ⟨⟨a, b⟩, c⟩
    · have h0 : 0 < rnp σ p := Nat.pos_of_ne_zero (fun z => by rw [z, hed z] at c; exact absurd c (Nat.lt_irrefl 0))
      exact ⟨Or.inl ⟨a.trans (hed2 h0).1, h0⟩, b ▸ (hed2 h0).2⟩
    · exact ⟨Or.inr ⟨(x4 e2 a).1, b, (x4 e2 a).2⟩, c⟩
  obtain ⟨he2, hec2⟩ := he2
  have he3 : ((e3 = A 6 0 ∧ 0 < nrl σ) ∨ (h e3 = none ∧ e3 ≠ G.2.2 ∧ (∀ t, 40 ≤ t → t ≤ 45 → e3 ≠ nw t) ∧ e3 ≠ e2)) ∧ eC cap3 := by
    rcases hk3 with ⟨a, b, c⟩ | ⟨⟨a, b⟩, c⟩
    · have h0 : 0 < nrl σ := Nat.pos_of_ne_zero (fun z => by rw [z, hed3 z] at c; exact absurd c (Nat.lt_irrefl 0))
      exact ⟨Or.inl ⟨a.trans (hed4 h0).1, h0⟩, b ▸ (hed4 h0).2⟩
    · have n1 : e3 ≠ A 34 p := fun e => by rw [e, hl2.1] at a; cases a
      have n2 : e3 ≠ e2 := fun e => by rw [e, hl2.2.1] at a; cases a
      have a1 : h1 e3 = none := by
        rw [← hs2 e3 (fun z => by
          rcases List.mem_cons.mp z with e | e
          · exact n1 e
          · exact n2 (List.mem_singleton.mp e))]
        exact a
      exact ⟨Or.inr ⟨(x4 e3 a1).1, b, (x4 e3 a1).2, n2⟩, c⟩
  obtain ⟨he3, hec3⟩ := he3
  have o2 : ∀ t i, vd σ t i → ¬ (t = 35 ∧ i = p) → A t i ≠ e2 := fun t i hv ht e => by
    rcases he2 with ⟨a, b⟩ | ⟨a, -⟩
    · exact ht ((H.2.1 t i hv).2 35 p ⟨hpp, b⟩ (e.trans a))
    · have hh := H.1 t i hv
      rw [e, a] at hh; cases hh
  have o3 : ∀ t i, vd σ t i → t ≠ 6 → A t i ≠ e3 := fun t i hv ht e => by
    rcases he3 with ⟨a, b⟩ | ⟨a, -⟩
    · exact ht ((H.2.1 t i hv).2 6 0 ⟨rfl, b⟩ (e.trans a)).1
    · have hh := H.1 t i hv
      rw [e, a] at hh; cases hh
  have n23 : e2 ≠ e3 := fun e => by
    rcases he3 with ⟨a, b⟩ | ⟨-, -, -, a⟩
    · rcases he2 with ⟨c, d⟩ | ⟨c, -⟩
      · exact absurd ((H.2.1 35 p ⟨hpp, d⟩).2 6 0 ⟨rfl, b⟩ (c.symm.trans (e.trans a))).1 (by decide)
      · have hh := H.c6 b
        rw [← a, ← e, c] at hh; cases hh
    · exact a e.symm
  have old : ∀ t i, vd σ t i → ¬ (t = 34 ∧ i = p) → ¬ (t = 35 ∧ i = p) → t ≠ 5 → t ≠ 6 → h3 (A t i) = some (CB A (σ.1 t i) (σ.2.1 t i) (σ.2.2 t i) t i) := fun t i hv a b c d => by
    rw [hs3 _ (fun z => by
      rcases List.mem_cons.mp z with e | e
      · exact c ((H.2.1 t i hv).2 5 0 hv5 e).1
      · exact o3 t i hv d (List.mem_singleton.mp e)), hs2 _ (fun z => by
      rcases List.mem_cons.mp z with e | e
      · exact a ((H.2.1 t i hv).2 34 p hv34 e)
      · exact o2 t i hv b (List.mem_singleton.mp e))]
    exact x3 _ _ (H.1 t i hv)
  have f34 : h3 (A 34 p) = some (oB 2 [.int mc, .ref e2, .int (nI (rnp σ p + 1))]) := by
    rw [hs3 _ (fun z => by
      rcases List.mem_cons.mp z with e | e
      · exact absurd ((H.2.1 34 p hv34).2 5 0 hv5 e).1 (by decide)
      · exact o3 34 p hv34 (by decide) (List.mem_singleton.mp e))]
    exact hl2.1
  have n5 : e2 ≠ A 5 0 := fun e => o2 5 0 hv5 (fun z => absurd z.1 (by decide)) e.symm
  have fe2 : h3 e2 = some (aR tObj cap2 g2) := by
    rw [hs3 _ (fun z => by
      rcases List.mem_cons.mp z with e | e
      · exact n5 e
      · exact n23 (List.mem_singleton.mp e))]
    exact hl2.2.1
  have hne2q : ∀ t, 40 ≤ t → t ≤ 45 → nw t ≠ e2 := fun t t1 t2 e => by
    rcases he2 with ⟨a, b⟩ | ⟨-, -, a⟩
    · have hh := H.c35 ⟨hpp, b⟩
      rw [← a, ← e, (x1 t t1 t2).1] at hh; cases hh
    · exact a t t1 t2 e.symm
  have hne3q : ∀ t, 40 ≤ t → t ≤ 45 → nw t ≠ e3 := fun t t1 t2 e => by
    rcases he3 with ⟨a, b⟩ | ⟨-, -, a, -⟩
    · have hh := H.c6 b
      rw [← a, ← e, (x1 t t1 t2).1] at hh; cases hh
    · exact a t t1 t2 e.symm
  have hnA : ∀ t u i, 40 ≤ t → t ≤ 45 → vd σ u i → nw t ≠ A u i := fun t u i t1 t2 hv e => by
    have hh := H.1 u i hv
    rw [← e, (x1 t t1 t2).1] at hh; cases hh
  have hq3 : ∀ t, 40 ≤ t → t ≤ 45 → h3 (nw t) = some (CB (fun u j => if u = 40 then A 40 j else nw u) (rlC v f le gr t) (fun _ => 0) (if t = 45 then g' else zN) t 0) := fun t t1 t2 => by
    rw [hs3 _ (fun z => by
      rcases List.mem_cons.mp z with e | e
      · exact hnA t 5 0 t1 t2 hv5 e
      · exact hne3q t t1 t2 (List.mem_singleton.mp e)), hs2 _ (fun z => by
      rcases List.mem_cons.mp z with e | e
      · exact hnA t 34 p t1 t2 hv34 e
      · exact hne2q t t1 t2 (List.mem_singleton.mp e))]
    exact hX t t1 t2
  have nA : ∀ u j, ¬ (40 ≤ u ∧ u ≤ 45) → ¬ isNR σ u j := fun u j a b => a ⟨b.1, b.2.1⟩
  have n35 : ∀ u j, u ≠ 35 → ¬ (u = 35 ∧ j = p) := fun u j a b => a b.1
  have cbo : ∀ t i (f : Nat → Int32) (c : Nat → Nat) (g : Nat → Option Nat), (40 ≤ t → t < 50 → i ≠ nrl σ) → (CEQ t → ∀ j x, g j = some x → x < nrl σ) → CB (rlA A σ p nw e2 e3) f c g t i = CB A f c g t i := fun t i f c g hti hgx => by
    refine CB_cg (fun u hu => ?_) (fun a b u h1 h2 => rlA_o (by omega) (nA _ _ (by omega)) (n35 _ _ (by omega))) (fun a b u h1 h2 => rlA_o (by omega) (fun z => hti a b z.2.2) (n35 _ _ (by omega))) (fun _ => rlA_o (by decide) (nA _ _ (by decide)) (n35 _ _ (by decide))) (fun hc j y hy => rlA_o (by decide) (fun z => by have h8 := hgx hc j y hy; have h9 := z.2.2; omega) (n35 _ _ (by decide)))
    funext j
    exact rlA_o (by omega) (nA _ _ (by omega)) (n35 _ _ (by omega))
  have hpkc : ∀ t i, vd σ t i → CEQ t → ∀ j x, σ.2.2 t i j = some x → x < nrl σ := fun t i hv hc => by
    obtain ⟨b1, b2, b3, b4, b5, b6, b7, b8, -⟩ := H.iv
    rcases hc with rfl | rfl | rfl | rfl
    · have : i = 0 := hv
      subst this
      exact b5
    · have : i = 0 := hv
      subst this
      exact b6
    · exact b7 i hv
    · exact b8 i hv
  have a6 : rlA A σ p nw e2 e3 6 0 = e3 := (if_neg (fun z => absurd z.1 (by decide))).trans ((if_neg (fun z => absurd z.1 (by decide))).trans (if_pos rfl))
  have a35 : rlA A σ p nw e2 e3 35 p = e2 := (if_neg (fun z => absurd z.1 (by decide))).trans (if_pos ⟨rfl, rfl⟩)
  have a40 : rlA A σ p nw e2 e3 40 (nrl σ) = nw 40 := if_pos ⟨by decide, by decide, rfl⟩
  have i34 : rlI σ p v f le gr mc mc3 34 p = fun k => if k = 0 then mc else nI (rnp σ p + 1) := (if_neg (fun z => absurd z.1 (by decide))).trans (if_pos ⟨rfl, rfl⟩)
  have i5 : rlI σ p v f le gr mc mc3 5 0 = fun k => if k = 0 then mc3 else nI (nrl σ + 1) := (if_neg (fun z => absurd z.1 (by decide))).trans ((if_neg (fun z => absurd z.1 (by decide))).trans (if_pos ⟨rfl, rfl⟩))
  have m34 : ∀ k, rlN σ p e2 cap2 e3 cap3 34 p k = e2 := fun k => by
    unfold rlN
    rw [if_neg (fun z => absurd z.1 (by decide)), if_neg (fun z => absurd z.1 (by decide)), if_neg (fun z => absurd z.1 (by decide)), if_pos ⟨rfl, rfl⟩]
  have m35 : ∀ k, rlN σ p e2 cap2 e3 cap3 35 p k = cap2 := fun k => by
    unfold rlN
    rw [if_neg (fun z => absurd z.1 (by decide)), if_neg (fun z => absurd z.1 (by decide)), if_neg (fun z => absurd z.1 (by decide)), if_neg (fun z => absurd z.1 (by decide)), if_pos ⟨rfl, rfl⟩]
  have q35 : rlO σ p g2 g3 g' 35 p = g2 := (if_neg (fun z => absurd z.1 (by decide))).trans (if_pos ⟨rfl, rfl⟩)
  have q6 : rlO σ p g2 g3 g' 6 0 = g3 := (if_neg (fun z => absurd z.1 (by decide))).trans ((if_neg (fun z => absurd z.1 (by decide))).trans (if_pos rfl))
  have m201 : rlN σ p e2 cap2 e3 cap3 201 p 0 = rnp σ p + 1 := (if_neg (fun z => absurd z.1 (by decide))).trans (if_pos ⟨rfl, rfl, rfl⟩)
  have m202 : rlN σ p e2 cap2 e3 cap3 202 p (rnp σ p) = nrl σ := (if_neg (fun z => absurd z.1 (by decide))).trans ((if_neg (fun z => absurd z.1 (by decide))).trans (if_pos ⟨rfl, rfl, rfl⟩))
  have m202' : ∀ j, j ≠ rnp σ p → rlN σ p e2 cap2 e3 cap3 202 p j = ixp σ p j := fun j hj => by
    unfold rlN
    rw [if_neg (fun z => absurd z.1 (by decide)), if_neg (fun z => absurd z.1 (by decide)), if_neg (fun z => hj z.2.2), if_neg (fun z => absurd z.1 (by decide)), if_neg (fun z => absurd z.1 (by decide)), if_neg (by decide), if_neg (by decide), if_neg (fun z => absurd z.2.1 (by decide))]
    rfl
  have oI : ∀ t i, ¬ (t = 34 ∧ i = p) → ¬ isNR σ t i → t ≠ 5 → (rlS σ p v f le gr g' mc mc3 e2 cap2 e3 cap3 g2 g3).1 t i = σ.1 t i := fun t i a b c => rlI_o a b (fun z => c z.1)
  have oN : ∀ t i, t ≠ 200 → ¬ (t = 201 ∧ i = p) → ¬ (t = 202 ∧ i = p) → ¬ (t = 34 ∧ i = p) → ¬ (t = 35 ∧ i = p) → t ≠ 5 → t ≠ 6 → ¬ isNR σ t i → (rlS σ p v f le gr g' mc mc3 e2 cap2 e3 cap3 g2 g3).2.1 t i = σ.2.1 t i := fun t i a b c d e f g h => rlN_o a b c d e f g h
  have oO : ∀ t i, ¬ isNR σ t i → ¬ (t = 35 ∧ i = p) → t ≠ 6 → (rlS σ p v f le gr g' mc mc3 e2 cap2 e3 cap3 g2 g3).2.2 t i = σ.2.2 t i := fun t i a b c => (if_neg a).trans ((if_neg b).trans (if_neg c))
  have oA : ∀ t i, t ≠ 6 → ¬ isNR σ t i → ¬ (t = 35 ∧ i = p) → rlA A σ p nw e2 e3 t i = A t i := fun t i a b c => rlA_o a b c
  have ern : ∀ i, i ≠ p → rnp (rlS σ p v f le gr g' mc mc3 e2 cap2 e3 cap3 g2 g3) i = rnp σ i := fun i hi => by
    show rlN σ p e2 cap2 e3 cap3 201 i 0 = σ.2.1 201 i 0
    rw [rlN_o (by decide) (fun z => hi z.2) (fun z => hi z.2) (fun z => hi z.2) (fun z => hi z.2) (by decide) (by decide) (nA _ _ (by decide))]
  have ern0 : rnp (rlS σ p v f le gr g' mc mc3 e2 cap2 e3 cap3 g2 g3) p = rnp σ p + 1 := m201
  have cls : ∀ t i, vd (rlS σ p v f le gr g' mc mc3 e2 cap2 e3 cap3 g2 g3) t i → isNR σ t i ∨ (t = 6 ∧ i = 0) ∨ (t = 35 ∧ i = p) ∨ (vd σ t i ∧ t ≠ 6 ∧ ¬ isNR σ t i ∧ ¬ (t = 35 ∧ i = p) ∧ (40 ≤ t → t < 50 → i ≠ nrl σ) ∧ t < 200) := by
    intro t i hv
    by_cases e1 : isNR σ t i
    · exact Or.inl e1
    · by_cases e4 : t = 6
      · subst e4
        exact Or.inr (Or.inl ⟨rfl, hv.1⟩)
      · by_cases e5 : t = 35 ∧ i = p
        · exact Or.inr (Or.inr (Or.inl e5))
        · have hv0 := vd_R (σ := σ) (σ' := rlS σ p v f le gr g' mc mc3 e2 cap2 e3 cap3 g2 g3) (p := p) rfl rfl rfl ern e4 e5 e1 hv
          refine Or.inr (Or.inr (Or.inr ⟨hv0, e4, e1, e5, fun z1 z2 z3 => ?_, ?_⟩))
          · subst z3
            unfold vd at hv0
            split at hv0 <;> omega
          · unfold vd at hv0
            split at hv0 <;> first | decide | exact hv0.elim
  have hall : ∀ t i, vd (rlS σ p v f le gr g' mc mc3 e2 cap2 e3 cap3 g2 g3) t i → (vd σ t i ∧ rlA A σ p nw e2 e3 t i = A t i ∧ h3 (A t i) = some (CB (rlA A σ p nw e2 e3) (rlI σ p v f le gr mc mc3 t i) (rlN σ p e2 cap2 e3 cap3 t i) (rlO σ p g2 g3 g' t i) t i)) ∨ (h (rlA A σ p nw e2 e3 t i) = none ∧ rlA A σ p nw e2 e3 t i ≠ G.2.2 ∧ h3 (rlA A σ p nw e2 e3 t i) = some (CB (rlA A σ p nw e2 e3) (rlI σ p v f le gr mc mc3 t i) (rlN σ p e2 cap2 e3 cap3 t i) (rlO σ p g2 g3 g' t i) t i)) := by
    intro t i hv
    rcases cls t i hv with e1 | ⟨rfl, rfl⟩ | ⟨rfl, rfl⟩ | ⟨hv0, n6, n5, n35', hlt, n200⟩
    · have a1 : rlA A σ p nw e2 e3 t i = nw t := if_pos e1
      have b1 : rlI σ p v f le gr mc mc3 t i = rlC v f le gr t := if_pos e1
      have b2 : rlN σ p e2 cap2 e3 cap3 t i = fun _ => 0 := by
        funext k
        unfold rlN
        have h8 := e1.2.1
        have h9 := e1.1
        rw [if_neg (fun z => absurd z.1 (by omega)), if_neg (fun z => absurd z.1 (by omega)), if_neg (fun z => absurd z.1 (by omega)), if_neg (fun z => absurd z.1 (by omega)), if_neg (fun z => absurd z.1 (by omega)), if_neg (by omega), if_neg (by omega), if_pos e1]
      have b3 : rlO σ p g2 g3 g' t i = if t = 45 then g' else zN := if_pos e1
      refine Or.inr ⟨by rw [a1]; exact (x1 t e1.1 e1.2.1).1, by rw [a1]; exact (x1 t e1.1 e1.2.1).2, ?_⟩
      rw [a1, b1, b2, b3, CB_rl (A := A) (A' := rlA A σ p nw e2 e3) (nw := nw) e1.1 e1.2.1 (fun u u1 u2 => if_pos ⟨by omega, u2, e1.2.2⟩) (fun j x hx => ?_)]
      · exact hq3 t e1.1 e1.2.1
      · have hxl : x < nrl σ := by
          by_cases h45 : t = 45
          · rw [if_pos h45] at hx; exact hg j x hx
          · rw [if_neg h45] at hx; cases hx
        exact rlA_o (by decide) (fun z => by have := z.2.2; omega) (fun z => absurd z.1 (by decide))
    · rcases he3 with ⟨a, b⟩ | ⟨a, b, -⟩
      · refine Or.inl ⟨⟨rfl, b⟩, a6.trans a, ?_⟩
        rw [← a, q6]
        exact hl3.2.1
      · refine Or.inr ⟨by rw [a6]; exact a, by rw [a6]; exact b, ?_⟩
        rw [a6, q6]
        exact hl3.2.1
    · have fe : h3 e2 = some (CB (rlA A σ i nw e2 e3) (rlI σ i v f le gr mc mc3 35 i) (rlN σ i e2 cap2 e3 cap3 35 i) (rlO σ i g2 g3 g' 35 i) 35 i) := by
        show h3 e2 = some (aR tObj (rlN σ i e2 cap2 e3 cap3 35 i 0) (rlO σ i g2 g3 g' 35 i))
        rw [m35, q35]
        exact fe2
      rcases he2 with ⟨a, b⟩ | ⟨a, b, -⟩
      · refine Or.inl ⟨⟨hpp, b⟩, a35.trans a, ?_⟩
        rw [← a]
        exact fe
      · refine Or.inr ⟨by rw [a35]; exact a, by rw [a35]; exact b, ?_⟩
        rw [a35]
        exact fe
    · refine Or.inl ⟨hv0, rlA_o n6 n5 n35', ?_⟩
      have ro : rlO σ p g2 g3 g' t i = σ.2.2 t i := (if_neg n5).trans ((if_neg n35').trans (if_neg n6))
      rw [ro, cbo t i _ _ _ hlt (hpkc t i hv0)]
      by_cases e3' : t = 34 ∧ i = p
      · obtain ⟨rfl, rfl⟩ := e3'
        show h3 (A 34 i) = some (oB 2 [.int (rlI σ i v f le gr mc mc3 34 i 0), .ref (rlN σ i e2 cap2 e3 cap3 34 i 0), .int (rlI σ i v f le gr mc mc3 34 i 1)])
        rw [i34, m34]
        exact f34
      · by_cases e5 : t = 5
        · subst e5
          have : i = 0 := hv0
          subst this
          rw [i5]
          exact hl3.1
        · rw [old t i hv0 e3' n35' e5 n6, rlI_o e3' n5 (fun z => e5 z.1), rlN_o (by omega) (fun z => absurd z.1 (by omega)) (fun z => absurd z.1 (by omega)) e3' n35' e5 n6 n5]
  have hcl : ∀ t i, vd (rlS σ p v f le gr g' mc mc3 e2 cap2 e3 cap3 g2 g3) t i → h (rlA A σ p nw e2 e3 t i) = none → (isNR σ t i ∧ rlA A σ p nw e2 e3 t i = nw t) ∨ (t = 6 ∧ i = 0 ∧ rlA A σ p nw e2 e3 t i = e3) ∨ (t = 35 ∧ i = p ∧ rlA A σ p nw e2 e3 t i = e2) := by
    intro t i hv hz
    rcases cls t i hv with e1 | ⟨rfl, rfl⟩ | ⟨rfl, rfl⟩ | ⟨hv0, n6, n5, n35', hlt, -⟩
    · exact Or.inl ⟨e1, if_pos e1⟩
    · exact Or.inr (Or.inl ⟨rfl, rfl, a6⟩)
    · exact Or.inr (Or.inr ⟨rfl, rfl, a35⟩)
    · rw [rlA_o n6 n5 n35', H.1 t i hv0] at hz
      cases hz
  have hE2 : e2 ≠ G.2.2 := by
    rcases he2 with ⟨a, b⟩ | ⟨-, b, -⟩
    · rw [a]; exact (H.2.1 35 p ⟨hpp, b⟩).1
    · exact b
  have hE3 : e3 ≠ G.2.2 := by
    rcases he3 with ⟨a, b⟩ | ⟨-, b, -⟩
    · rw [a]; exact (H.2.1 6 0 ⟨rfl, b⟩).1
    · exact b
  have hg2 : h3 G.2.2 = some hE0 := by
    rw [hs3 G.2.2 (fun z => by
      rcases List.mem_cons.mp z with e | e
      · exact (H.2.1 5 0 hv5).1 e.symm
      · exact hE3 (List.mem_singleton.mp e).symm), hs2 G.2.2 (fun z => by
      rcases List.mem_cons.mp z with e | e
      · exact (H.2.1 34 p hv34).1 e.symm
      · exact hE2 (List.mem_singleton.mp e).symm)]
    exact x3 _ _ H.hd
  have nlt : ∀ u r, r < nrl σ → ¬ isNR σ u r := fun u r a b => by have := b.2.2; omega
  have pmono : ∀ g, pkB σ g → pkB (rlS σ p v f le gr g' mc mc3 e2 cap2 e3 cap3 g2 g3) g := fun g hgg j x hx => Nat.lt_succ_of_lt (hgg j x hx)
  refine ⟨H.gr hg2 hall (fun t i u j hv hu hz e => ?_) ⟨?_, ?_, ?_, fun p' hp' => ?_⟩ ?_, fun y c hy hc => ?_⟩
  · rcases hcl t i hv hz with ⟨b1, b3⟩ | ⟨b1, b2, b3⟩ | ⟨b1, b2, b3⟩ <;> rcases hcl u j hu (e ▸ hz) with ⟨d1, d3⟩ | ⟨d1, d2, d3⟩ | ⟨d1, d2, d3⟩
    · exact ⟨x2 t u b1.1 b1.2.1 d1.1 d1.2.1 (b3.symm.trans (e.trans d3)), b1.2.2.trans d1.2.2.symm⟩
    · exact absurd (b3.symm.trans (e.trans d3)) (hne3q t b1.1 b1.2.1)
    · exact absurd (b3.symm.trans (e.trans d3)) (hne2q t b1.1 b1.2.1)
    · exact absurd (b3.symm.trans (e.trans d3)).symm (hne3q u d1.1 d1.2.1)
    · exact ⟨b1.trans d1.symm, b2.trans d2.symm⟩
    · exact absurd (b3.symm.trans (e.trans d3)).symm n23
    · exact absurd (b3.symm.trans (e.trans d3)).symm (hne2q u d1.1 d1.2.1)
    · exact absurd (b3.symm.trans (e.trans d3)) n23
    · exact ⟨b1.trans d1.symm, b2.trans d2.symm⟩
  · exact H.2.2.2.1.1.cg (oI 1 0 (fun z => absurd z.1 (by decide)) (nA _ _ (by decide)) (by decide)) (oN 1 0 (by decide) (fun z => absurd z.1 (by decide)) (fun z => absurd z.1 (by decide)) (fun z => absurd z.1 (by decide)) (fun z => absurd z.1 (by decide)) (by decide) (by decide) (nA _ _ (by decide))) (oN 2 0 (by decide) (fun z => absurd z.1 (by decide)) (fun z => absurd z.1 (by decide)) (fun z => absurd z.1 (by decide)) (fun z => absurd z.1 (by decide)) (by decide) (by decide) (nA _ _ (by decide))) (oO 2 0 (nA _ _ (by decide)) (fun z => absurd z.1 (by decide)) (by decide)) (oA 2 0 (by decide) (nA _ _ (by decide)) (fun z => absurd z.1 (by decide))) (fun j _ => oA 20 j (by decide) (nA _ _ (by decide)) (fun z => absurd z.1 (by decide)))
  · exact H.2.2.2.1.2.1.cg (oI 3 0 (fun z => absurd z.1 (by decide)) (nA _ _ (by decide)) (by decide)) (oN 3 0 (by decide) (fun z => absurd z.1 (by decide)) (fun z => absurd z.1 (by decide)) (fun z => absurd z.1 (by decide)) (fun z => absurd z.1 (by decide)) (by decide) (by decide) (nA _ _ (by decide))) (oN 4 0 (by decide) (fun z => absurd z.1 (by decide)) (fun z => absurd z.1 (by decide)) (fun z => absurd z.1 (by decide)) (fun z => absurd z.1 (by decide)) (by decide) (by decide) (nA _ _ (by decide))) (oO 4 0 (nA _ _ (by decide)) (fun z => absurd z.1 (by decide)) (by decide)) (oA 4 0 (by decide) (nA _ _ (by decide)) (fun z => absurd z.1 (by decide))) (fun j _ => oA 50 j (by decide) (nA _ _ (by decide)) (fun z => absurd z.1 (by decide)))
  · refine ⟨by show rlI σ p v f le gr mc mc3 5 0 1 = nI (nrl σ + 1); rw [i5]; rfl, fun z => absurd z (by show ¬ nrl σ + 1 = 0; omega), fun _ => ⟨by rw [a6]; rfl, hl3.2.2.1, hec3, fun j hj => ?_⟩⟩
    have hj2 : j < nrl σ + 1 := hj
    show rlO σ p g2 g3 g' 6 0 j = _
    rw [q6, hl3.2.2.2.2 j hj2]
    unfold upN
    by_cases ej : j = nrl σ
    · rw [if_pos ej, ej, a40]
    · rw [if_neg ej, oA 40 j (by decide) (fun z => ej z.2.2) (fun z => absurd z.1 (by decide))]
  · have hpl : p' < npk σ := hp'
    by_cases ep : p' = p
    · subst ep
      rw [ern0]
      refine ⟨by show rlI σ p' v f le gr mc mc3 34 p' 1 = nI (rnp σ p' + 1); rw [i34]; rfl, fun z => absurd z (by omega), fun _ => ⟨by rw [a35]; exact m34 0, by show rnp σ p' + 1 ≤ rlN σ p' e2 cap2 e3 cap3 35 p' 0; rw [m35]; exact hl2.2.2.1, by show eC (rlN σ p' e2 cap2 e3 cap3 35 p' 0); rw [m35]; exact hec2, fun j hj => ?_⟩⟩
      show rlO σ p' g2 g3 g' 35 p' j = some (rlA A σ p' nw e2 e3 40 (rlN σ p' e2 cap2 e3 cap3 202 p' j))
      rw [q35, hl2.2.2.2.2 j hj]
      unfold upN
      by_cases ej : j = rnp σ p'
      · rw [if_pos ej, ej, m202, a40]
      · rw [if_neg ej, m202' j ej, oA 40 _ (by decide) (nlt _ _ (H.ixl hpl (j := j) (by omega))) (fun z => absurd z.1 (by decide))]
    · rw [ern p' ep]
      have e202 : ∀ j, ixp (rlS σ p v f le gr g' mc mc3 e2 cap2 e3 cap3 g2 g3) p' j = ixp σ p' j := fun j => by
        show rlN σ p e2 cap2 e3 cap3 202 p' j = σ.2.1 202 p' j
        rw [rlN_o (by decide) (fun z => ep z.2) (fun z => ep z.2) (fun z => ep z.2) (fun z => ep z.2) (by decide) (by decide) (nA _ _ (by decide))]
      refine (H.2.2.2.1.2.2.2 p' hpl).cg (oI 34 p' (fun z => ep z.2) (nA _ _ (by decide)) (by decide)) (oN 34 p' (by decide) (fun z => ep z.2) (fun z => ep z.2) (fun z => ep z.2) (fun z => ep z.2) (by decide) (by decide) (nA _ _ (by decide))) (oN 35 p' (by decide) (fun z => ep z.2) (fun z => ep z.2) (fun z => ep z.2) (fun z => ep z.2) (by decide) (by decide) (nA _ _ (by decide))) (oO 35 p' (nA _ _ (by decide)) (fun z => ep z.2) (by decide)) (oA 35 p' (by decide) (nA _ _ (by decide)) (fun z => ep z.2)) (fun j hj => ?_)
      rw [e202]
      exact oA 40 _ (by decide) (nlt _ _ (H.ixl hpl hj)) (fun z => absurd z.1 (by decide))
  · obtain ⟨b1, b2, b3, b4, b5, b6, b7, b8, b9, b10, b11⟩ := H.iv
    refine ⟨b1, b2, show nrl σ + 1 ≤ 20 by omega, fun p' hp' => ?_, ?_, ?_, fun p' hp' => ?_, fun r hr => ?_, fun p' hp' => ?_, fun r hr => ?_, fun t ht => ?_⟩
    · have hpl : p' < npk σ := hp'
      show rnp _ p' ≤ nrl σ + 1 ∧ _
      by_cases ep : p' = p
      · subst ep
        rw [ern0]
        refine ⟨Nat.succ_le_succ (b4 p' hpl).1, fun j hj => ?_⟩
        show rlN σ p' e2 cap2 e3 cap3 202 p' j < nrl σ + 1
        by_cases ej : j = rnp σ p'
        · rw [ej, m202]; exact Nat.lt_succ_self _
        · rw [m202' j ej]; exact Nat.lt_succ_of_lt ((b4 p' hpl).2 j (by omega))
      · rw [ern p' ep]
        refine ⟨Nat.le_succ_of_le (b4 p' hpl).1, fun j hj => ?_⟩
        show rlN σ p e2 cap2 e3 cap3 202 p' j < nrl σ + 1
        rw [rlN_o (by decide) (fun z => ep z.2) (fun z => ep z.2) (fun z => ep z.2) (fun z => ep z.2) (by decide) (by decide) (nA _ _ (by decide))]
        exact Nat.lt_succ_of_lt ((b4 p' hpl).2 j hj)
    · rw [oO 9 0 (nA _ _ (by decide)) (fun z => absurd z.1 (by decide)) (by decide)]; exact pmono _ b5
    · rw [oO 11 0 (nA _ _ (by decide)) (fun z => absurd z.1 (by decide)) (by decide)]; exact pmono _ b6
    · rw [oO 33 p' (nA _ _ (by decide)) (fun z => absurd z.1 (by decide)) (by decide)]; exact pmono _ (b7 p' hp')
    · have hr2 : r < nrl σ + 1 := hr
      by_cases er : r = nrl σ
      · subst er
        rw [show (rlS σ p v f le gr g' mc mc3 e2 cap2 e3 cap3 g2 g3).2.2 45 (nrl σ) = g' from (if_pos ⟨by decide, by decide, rfl⟩).trans (if_pos rfl)]
        exact pmono _ hg
      · rw [oO 45 r (nlt _ _ (by omega)) (fun z => absurd z.1 (by decide)) (by decide)]; exact pmono _ (b8 r (by omega))
    · rw [oI 27 p' (fun z => absurd z.1 (by decide)) (nA _ _ (by decide)) (by decide), oI 25 p' (fun z => absurd z.1 (by decide)) (nA _ _ (by decide)) (by decide)]
      exact b9 p' hp'
    · have hr2 : r < nrl σ + 1 := hr
      by_cases er : r = nrl σ
      · subst er
        rw [show (rlS σ p v f le gr g' mc mc3 e2 cap2 e3 cap3 g2 g3).1 40 (nrl σ) = rlC v f le gr 40 from if_pos ⟨by decide, by decide, rfl⟩]
        exact Or.inl rfl
      · rw [oI 40 r (fun z => absurd z.1 (by decide)) (nlt _ _ (by omega)) (by decide)]
        exact b10 r (by omega)
    · rw [oI 50 t (fun z => absurd z.1 (by decide)) (nA _ _ (by decide)) (by decide), oI 51 t (fun z => absurd z.1 (by decide)) (nA _ _ (by decide)) (by decide)]; exact b11 t ht
  · have n34 : y ≠ A 34 p := fun e => by
      rw [e, H.c34 hpp] at hy
      cases hy
      exact hc
    have n5' : y ≠ A 5 0 := fun e => by
      rw [e, H.c5] at hy
      cases hy
      exact hc
    have ne2 : y ≠ e2 := fun e => by
      rcases he2 with ⟨a, b⟩ | ⟨a, -⟩
      · rw [e, a, H.c35 ⟨hpp, b⟩] at hy
        cases hy
        exact hc
      · rw [e, a] at hy; cases hy
    have ne3 : y ≠ e3 := fun e => by
      rcases he3 with ⟨a, b⟩ | ⟨a, -⟩
      · rw [e, a, H.c6 b] at hy
        cases hy
        exact hc
      · rw [e, a] at hy; cases hy
    rw [hs3 y (fun z => by
      rcases List.mem_cons.mp z with e | e
      · exact n5' e
      · exact ne3 (List.mem_singleton.mp e)), hs2 y (fun z => by
      rcases List.mem_cons.mp z with e | e
      · exact n34 e
      · exact ne2 (List.mem_singleton.mp e))]
    exact x3 y c hy
end GRR
