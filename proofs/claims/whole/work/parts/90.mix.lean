/-! both sides after a call -/
def mixS (s1 sm : sT) : sT := (fun t i => if 60 ≤ t ∧ t ≤ 100 then sm.1 t i else s1.1 t i, s1.2)
theorem vd_100 {t i : Nat} (h1 : 60 ≤ t) (h2 : vd sZ t i) : t ≤ 100 := by
  unfold vd at h2
  split at h2 <;> first | omega | exact h2.elim
theorem vd_hi {σ : sT} {t i : Nat} (h2 : vd σ t i) : t < 60 ∨ (60 ≤ t ∧ t ≤ 100) := by
  unfold vd at h2
  split at h2 <;> first | omega | exact h2.elim
theorem CB_M {A A1 : aT} (e : ∀ u j, 60 ≤ u → u ≤ 100 → A1 u j = A u j) {f : Nat → Int32} {c c' : Nat → Nat} {g g' : Nat → Option Nat} {t i : Nat} (h1 : 60 ≤ t) (h2 : t ≤ 100) : CB A1 f c g t i = CB A f c' g' t i := by
  have E : ∀ u, 60 ≤ u → u ≤ 100 → A1 u = A u := fun u a b => funext fun j => e u j a b
  have z61 := E 61 (by decide) (by decide)
  have z62 := E 62 (by decide) (by decide)
  have z63 := E 63 (by decide) (by decide)
  have z64 := E 64 (by decide) (by decide)
  have z65 := E 65 (by decide) (by decide)
  have z66 := E 66 (by decide) (by decide)
  have z67 := E 67 (by decide) (by decide)
  have z68 := E 68 (by decide) (by decide)
  have z69 := E 69 (by decide) (by decide)
  have z70 := E 70 (by decide) (by decide)
  have z71 := E 71 (by decide) (by decide)
  have z72 := E 72 (by decide) (by decide)
  have z73 := E 73 (by decide) (by decide)
  have z74 := E 74 (by decide) (by decide)
  have z75 := E 75 (by decide) (by decide)
  have z76 := E 76 (by decide) (by decide)
  have z77 := E 77 (by decide) (by decide)
  have z78 := E 78 (by decide) (by decide)
  have z79 := E 79 (by decide) (by decide)
  have z80 := E 80 (by decide) (by decide)
  have z81 := E 81 (by decide) (by decide)
  have z82 := E 82 (by decide) (by decide)
  have z83 := E 83 (by decide) (by decide)
  have z84 := E 84 (by decide) (by decide)
  have z85 := E 85 (by decide) (by decide)
  have z86 := E 86 (by decide) (by decide)
  have z87 := E 87 (by decide) (by decide)
  have z88 := E 88 (by decide) (by decide)
  have z89 := E 89 (by decide) (by decide)
  have z90 := E 90 (by decide) (by decide)
  have z91 := E 91 (by decide) (by decide)
  have z92 := E 92 (by decide) (by decide)
  have z93 := E 93 (by decide) (by decide)
  have z94 := E 94 (by decide) (by decide)
  have z95 := E 95 (by decide) (by decide)
  have z96 := E 96 (by decide) (by decide)
  have z97 := E 97 (by decide) (by decide)
  have z98 := E 98 (by decide) (by decide)
  have z99 := E 99 (by decide) (by decide)
  have z100 := E 100 (by decide) (by decide)
  unfold CB
  split <;> first | omega | rfl | (simp only [z61, z62, z63, z64, z65, z66, z67, z68, z69, z70, z71, z72, z73, z74, z75, z76, z77, z78, z79, z80, z81, z82, z83, z84, z85, z86, z87, z88, z89, z90, z91, z92, z93, z94, z95, z96, z97, z98, z99, z100])
/-- the reference's rows are where they were, and as they were -/
def EQM (A A1 : aT) (σ σ1 : sT) : Prop := (∀ t i, 60 ≤ t → t ≤ 100 → σ1.1 t i = σ.1 t i) ∧ (∀ t i, 60 ≤ t → t ≤ 100 → A1 t i = A t i) ∧ A1 0 0 = A 0 0
def INV (G : hG) (h : hp) (A : aT) (σ : sT) (ofr : Nat → Nat) (o oD : Nat) : Prop := W9 G h A σ ∧ REL σ ofr ∧ (∃ f, h o = some (aL 1 f)) ∧ ∃ f, h oD = some (aD 1 f)
def MID (G : hG) (A : aT) (σ : sT) (h2 : hp) (A1 : aT) (σ1 : sT) (o oD : Nat) : Prop := W9 G h2 A1 σ1 ∧ WM G h2 A σ ∧ (∃ f, h2 o = some (aL 1 f)) ∧ (∃ f, h2 oD = some (aD 1 f)) ∧ EQM A A1 σ σ1
section MIXA
variable {G : hG} {h h1 h2 h3 : hp} {A A1 : aT} {σ σ1 σm : sT} {ofr ofr' : Nat → Nat} {o oD : Nat}
theorem mid_of (HI : INV G h A σ ofr o oD) (H1 : W9 G h1 A1 σ1) (F1 : FR h h1) (E : EQM A A1 σ σ1) : MID G A σ h1 A1 σ1 o oD := by
  obtain ⟨H0, -, ⟨f, hf⟩, ⟨g, hg⟩⟩ := HI
  refine ⟨H1, ⟨fun t i a b => ?_, fun t i u j a b c d e => ?_, H0.iv⟩, ⟨f, F1 _ _ hf trivial⟩, ⟨g, F1 _ _ hg trivial⟩, E⟩
  · have t1 := vd_100 a b
    have q := H1.1 t i ((vd_M a).mpr b)
    rw [E.2.1 t i a t1, E.1 t i a t1] at q
    rw [q]
    exact congrArg some (CB_M (A := A) (A1 := A1) E.2.1 a t1)
  · exact (H0.2.1 t i ((vd_M a).mpr c)).2 u j ((vd_M b).mpr d) e
theorem W9.lo (H : W9 G h A σ) {c e : hE} {x : Nat} (hx : h x = some c) (hc : nF c) : W9 G (va_up h x (some e)) A σ := by
  have hne : ∀ t i, vd σ t i → A t i ≠ x := fun t i hv z => by
    have q := H.1 t i hv
    rw [z, hx] at q
    cases q
    exact CB_nF hc
  have hd : G.2.2 ≠ x := fun z => by
    have q := H.2.2.1
    rw [z, hx] at q
    cases q
    exact hc
  exact ⟨fun t i hv => (va_up_ne _ _ (hne t i hv)).trans (H.1 t i hv), H.2.1, (va_up_ne _ _ hd).trans H.2.2.1, H.2.2.2⟩
theorem WM.lo (H : WM G h A σ) {c e : hE} {x : Nat} (hx : h x = some c) (hc : nF c) : WM G (va_up h x (some e)) A σ := by
  refine ⟨fun t i a b => (va_up_ne _ _ (fun z => ?_)).trans (H.1 t i a b), H.2.1, H.2.2⟩
  have q := H.1 t i a b
  rw [z, hx] at q
  cases q
  exact CB_nF hc
theorem MID.wr (M : MID G A σ h1 A1 σ1 o oD) {f f' : Nat → Int64} (ho : h1 o = some (aL 1 f)) : MID G A σ (va_up h1 o (some (aL 1 f'))) A1 σ1 o oD := by
  obtain ⟨a, b, -, ⟨g, hg⟩, d⟩ := M
  exact ⟨a.lo ho trivial, b.lo ho trivial, ⟨f', va_up_self _ _ _⟩, ⟨g, (va_up_ne _ _ (fun z => by rw [z, ho] at hg; cases hg)).trans hg⟩, d⟩
theorem MID.wrD (M : MID G A σ h1 A1 σ1 o oD) {f f' : Nat → UInt64} (ho : h1 oD = some (aD 1 f)) : MID G A σ (va_up h1 oD (some (aD 1 f'))) A1 σ1 o oD := by
  obtain ⟨a, b, ⟨g, hg⟩, -, d⟩ := M
  exact ⟨a.lo ho trivial, b.lo ho trivial, ⟨g, (va_up_ne _ _ (fun z => by rw [z, ho] at hg; cases hg)).trans hg⟩, ⟨f', va_up_self _ _ _⟩, d⟩
theorem FM.lo (F : FM A h2 h3) (H : WM G h2 A σ) {c : hE} {x : Nat} (hx : h2 x = some c) (hc : nF c) : h3 x = some c := F x c hx (fun t i a b z => by
  have q := H.1 t i a b
  rw [z, hx] at q
  cases q
  exact CB_nF hc)
theorem MID.fin (M : MID G A σ h2 A1 σ1 o oD) (H3 : WM G h3 A σm) (F3 : FM A h2 h3) (R : REL (mixS σ1 σm) ofr') : INV G h3 A1 (mixS σ1 σm) ofr' o oD ∧ A1 0 0 = A 0 0 ∧ A1 60 0 = A 60 0 ∧ (∀ c, nF c → h2 o = some c → h3 o = some c) ∧ ∀ c, nF c → h2 oD = some c → h3 oD = some c := by
  obtain ⟨H1, Hm, ⟨f, hf⟩, ⟨g, hg⟩, E⟩ := M
  have hE : ∀ u j, 60 ≤ u → vd sZ u j → A u j = A1 u j := fun u j a b => (E.2.1 u j a (vd_100 a b)).symm
  have hk : ∀ y c, h2 y = some c → (∀ t i, 60 ≤ t → vd sZ t i → A1 t i ≠ y) → h3 y = some c := fun y c e hn => F3 y c e (fun t i a b => by rw [hE t i a b]; exact hn t i a b)
  refine ⟨⟨⟨fun t i hv => ?_, H1.2.1, ?_, H1.2.2.2.1, H1.2.2.2.2⟩, R, ⟨f, F3.lo Hm hf trivial⟩, ⟨g, F3.lo Hm hg trivial⟩⟩, E.2.2, E.2.1 60 0 (by decide) (by decide), fun c hc e => F3.lo Hm e hc, fun c hc e => F3.lo Hm e hc⟩
  · have hv1 : vd σ1 t i := hv
    rcases vd_hi hv1 with ht | ⟨a, b⟩
    · have e1 : (mixS σ1 σm).1 t i = σ1.1 t i := if_neg (by omega)
      rw [e1]
      exact hk _ _ (H1.1 t i hv1) (fun u j a b z => by have q := (H1.2.1 t i hv1).2 u j ((vd_M a).mpr b) z.symm; omega)
    · have e1 : (mixS σ1 σm).1 t i = σm.1 t i := if_pos ⟨a, b⟩
      rw [e1, E.2.1 t i a b, H3.1 t i a ((vd_M a).mp hv1)]
      exact congrArg some (CB_M (A := A) (A1 := A1) E.2.1 a b).symm
  · exact hk _ _ H1.2.2.1 (fun u j a b => (H1.2.1 u j ((vd_M a).mpr b)).1)
theorem EQM.rf : EQM A A σ σ := ⟨fun _ _ _ _ => rfl, fun _ _ _ _ => rfl, rfl⟩
theorem EQM.sI {t i : Nat} {f : Nat → Int32} (E : EQM A A1 σ σ1) (ht : t < 60) : EQM A A1 σ (setI σ1 t i f) := ⟨fun u j a b => (setI_n (Or.inl (by omega))).trans (E.1 u j a b), E.2⟩
theorem EQM.sO {t i : Nat} {g : Nat → Option Nat} (E : EQM A A1 σ σ1) : EQM A A1 σ (setO σ1 t i g) := E
end MIXA
