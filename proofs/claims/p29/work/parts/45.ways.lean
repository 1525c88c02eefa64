/-! all ways to take a release of each package, or none: their numbers, and that the last good one is what the search finds -/
theorem fS_cg {α : Type} {F F' : Nat → Option α} : ∀ n : Nat, (∀ i, i < n → F i = F' i) → fS F n = fS F' n
  | 0, _ => rfl
  | n + 1, h => by
    have e := fS_cg n (fun i hi => h i (by omega))
    have e2 := h n (Nat.lt_succ_self n)
    simp only [fS, e2, e]
theorem fS_no {α : Type} {F : Nat → Option α} : ∀ n : Nat, (∀ i, i < n → F i = none) → fS F n = none
  | 0, _ => rfl
  | n + 1, h => by
    rw [fS_f (h n (Nat.lt_succ_self n))]
    exact fS_no n (fun i hi => h i (by omega))
theorem fS_add {α : Type} {F : Nat → Option α} (a : Nat) : ∀ m : Nat, fS F (a + m) = match fS (fun V => F (a + V)) m with
    | some x => some x
    | none => fS F a
  | 0 => rfl
  | m + 1 => by
    have ih := fS_add (F := F) a m
    show fS F (a + m + 1) = _
    cases hF : F (a + m) with
    | some x => rw [fS_t hF, fS_t (F := fun V => F (a + V)) hF]
    | none => rw [fS_f hF, fS_f (F := fun V => F (a + V)) hF, ih]
theorem fS_bl {α : Type} {F : Nat → Option α} (m : Nat) : ∀ r : Nat, fS F (m * r) = fS (fun d => fS (fun V => F (m * d + V)) m) r
  | 0 => by rw [Nat.mul_zero]; rfl
  | r + 1 => by
    rw [Nat.mul_succ, fS_add, fS_bl m r]
    cases hF : fS (fun V => F (m * r + V)) m with
    | some x => rw [fS_t (F := fun d => fS (fun V => F (m * d + V)) m) hF]
    | none => rw [fS_f (F := fun d => fS (fun V => F (m * d + V)) m) hF]
def chc1 (I : Nat → Nat → Nat → Int32) (le gr : Nat → Int32) (g : Nat → Option Nat) (k : Nat) : Prop := (rchd I gr g k ↔ ∃ x, g k = some x) ∧ ∀ x, g k = some x → admd I le gr g k x
def chc (I : Nat → Nat → Nat → Int32) (le gr : Nat → Int32) (g : Nat → Option Nat) : Prop := ∀ k, k < 6 → chc1 I le gr g k
def wys (N : Nat → Nat → Nat → Nat) : Nat → Nat
  | 0 => 1
  | k + 1 => wys N k * (N 201 k 0 + 1)
def dgt (N : Nat → Nat → Nat → Nat) (W j : Nat) : Nat := W / wys N j % (N 201 j 0 + 1)
def pkd (N : Nat → Nat → Nat → Nat) (j d : Nat) : Option Nat := if d = 0 then none else some (N 202 j (d - 1))
def cmb (N : Nat → Nat → Nat → Nat) (k W : Nat) (g : Nat → Option Nat) : Nat → Option Nat := fun j => if j < k then pkd N j (dgt N W j) else g j
noncomputable def lst (I : Nat → Nat → Nat → Int32) (N : Nat → Nat → Nat → Nat) (le gr : Nat → Int32) : Nat → (Nat → Option Nat) → Option (Nat → Option Nat)
  | 0, g => dit (chc I le gr g) (some g) none
  | k + 1, g => fS (fun d => lst I N le gr k (va_up g k (pkd N k d))) (N 201 k 0 + 1)
theorem wys_pos {N : Nat → Nat → Nat → Nat} : ∀ k, 0 < wys N k
  | 0 => Nat.one_pos
  | k + 1 => Nat.mul_pos (wys_pos k) (Nat.succ_pos _)
theorem wys_le {N : Nat → Nat → Nat → Nat} (n : Nat) (h : ∀ p, p < n → N 201 p 0 ≤ 20) : ∀ k, k ≤ n → wys N k ≤ 21 ^ k
  | 0, _ => Nat.le_refl _
  | k + 1, hk => by
    rw [Nat.pow_succ]
    exact Nat.mul_le_mul (wys_le n h k (by omega)) (by have := h k (by omega); omega)
theorem wys_dvd {N : Nat → Nat → Nat → Nat} {i : Nat} : ∀ j, i ≤ j → wys N i ∣ wys N j
  | 0, h => by
    have : i = 0 := by omega
    subst this
    exact Nat.dvd_refl _
  | j + 1, h => by
    by_cases e : i = j + 1
    · subst e; exact Nat.dvd_refl _
    · exact Nat.dvd_trans (wys_dvd j (by omega)) (Nat.dvd_mul_right _ _)
theorem dgt_lo {N : Nat → Nat → Nat → Nat} {k j d V : Nat} (hj : j < k) : dgt N (wys N k * d + V) j = dgt N V j := by
  unfold dgt
  obtain ⟨c, hc⟩ := wys_dvd (N := N) (i := j + 1) k hj
  have e : wys N k * d + V = V + wys N j * ((N 201 j 0 + 1) * (c * d)) := by
    rw [hc, show wys N (j + 1) = wys N j * (N 201 j 0 + 1) from rfl, Nat.add_comm V]
    congr 1
    rw [Nat.mul_assoc, Nat.mul_assoc]
  rw [e, Nat.add_mul_div_left _ _ (wys_pos j), Nat.add_mul_mod_self_left]
theorem dgt_hi {N : Nat → Nat → Nat → Nat} {k d V : Nat} (hd : d < N 201 k 0 + 1) (hV : V < wys N k) : dgt N (wys N k * d + V) k = d := by
  unfold dgt
  rw [Nat.mul_comm, Nat.add_comm, Nat.mul_comm, Nat.add_mul_div_left _ _ (wys_pos k), Nat.div_eq_of_lt hV, Nat.zero_add, Nat.mod_eq_of_lt hd]
theorem cmb_s {N : Nat → Nat → Nat → Nat} {k d V : Nat} {g : Nat → Option Nat} (hd : d < N 201 k 0 + 1) (hV : V < wys N k) : cmb N (k + 1) (wys N k * d + V) g = cmb N k V (va_up g k (pkd N k d)) := by
  funext j
  unfold cmb
  by_cases e : j < k
  · rw [if_pos (by omega), if_pos e, dgt_lo e]
  · by_cases e2 : j = k
    · subst e2
      rw [if_pos (by omega), if_neg e, dgt_hi hd hV, va_up_self]
    · rw [if_neg (by omega), if_neg e, va_up_ne _ _ e2]
theorem cmb_0 {N : Nat → Nat → Nat → Nat} {W : Nat} {g : Nat → Option Nat} : cmb N 0 W g = g := by
  funext j
  exact if_neg (Nat.not_lt_zero j)
section LST
variable {I : Nat → Nat → Nat → Int32} {N : Nat → Nat → Nat → Nat} {le gr : Nat → Int32}
theorem cmb_lst : ∀ (k : Nat) (g : Nat → Option Nat), fS (fun W => dit (chc I le gr (cmb N k W g)) (some (cmb N k W g)) none) (wys N k) = lst I N le gr k g
  | 0, g => by
    show fS (fun W => dit (chc I le gr (cmb N 0 W g)) (some (cmb N 0 W g)) none) 1 = dit (chc I le gr g) (some g) none
    by_cases h : chc I le gr g
    · rw [dit_t h]
      exact fS_t (by rw [cmb_0]; exact dit_t h)
    · rw [dit_f h]
      exact fS_f (by rw [cmb_0]; exact dit_f h)
  | k + 1, g => by
    show fS _ (wys N k * (N 201 k 0 + 1)) = fS _ (N 201 k 0 + 1)
    rw [fS_bl]
    refine fS_cg _ (fun d hd => ?_)
    rw [← cmb_lst k (va_up g k (pkd N k d))]
    refine fS_cg _ (fun V hV => ?_)
    rw [cmb_s hd hV]
theorem chc1_cg {g g' : Nat → Option Nat} {j : Nat} (e : ∀ i, j ≤ i → g' i = g i) (h : chc1 I le gr g j) : chc1 I le gr g' j := by
  obtain ⟨h1, h2⟩ := h
  have ej := e j (Nat.le_refl j)
  refine ⟨?_, fun x hx => ?_⟩
  · rw [ej, ← h1]
    unfold rchd
    constructor
    · rintro (q | ⟨a, x, q1, q2, q3, q4⟩)
      · exact Or.inl q
      · exact Or.inr ⟨a, x, q1, q2, (e a (by omega)).symm.trans q3, q4⟩
    · rintro (q | ⟨a, x, q1, q2, q3, q4⟩)
      · exact Or.inl q
      · exact Or.inr ⟨a, x, q1, q2, (e a (by omega)).trans q3, q4⟩
  · obtain ⟨q1, q2, q3⟩ := h2 x (ej.symm.trans hx)
    exact ⟨q1, q2, fun a y p1 p2 p3 => q3 a y p1 p2 ((e a (by omega)).symm.trans p3)⟩
theorem lst_none : ∀ (k : Nat) (g : Nat → Option Nat) (j : Nat), k ≤ j → j < 6 → ¬ chc1 I le gr g j → lst I N le gr k g = none
  | 0, g, j, _, hj, hn => dit_f (fun q => hn (q j hj))
  | k + 1, g, j, hk, hj, hn => fS_no _ (fun d _ => lst_none k _ j (by omega) hj (fun q => hn (chc1_cg (fun i hi => (va_up_ne _ _ (show i ≠ k by omega)).symm) q)))
theorem lst_srch : ∀ (k : Nat) (g : Nat → Option Nat), k ≤ 6 → (∀ j, j < k → g j = none) → (∀ j, k ≤ j → j < 6 → chc1 I le gr g j) → lst I N le gr k g = srch I N le gr k g
  | 0, g, _, _, hc => dit_t (fun j hj => hc j (Nat.zero_le j) hj)
  | k + 1, g, hk, hn, hc => by
    show fS (fun d => lst I N le gr k (va_up g k (pkd N k d))) (N 201 k 0 + 1) = _
    have hup : ∀ (o : Option Nat) (j : Nat), k + 1 ≤ j → j < 6 → chc1 I le gr (va_up g k o) j := fun o j h1 h2 => chc1_cg (fun i hi => va_up_ne _ _ (show i ≠ k by omega)) (hc j h1 h2)
    have hlow : ∀ (o : Option Nat) (j : Nat), j < k → va_up g k o j = none := fun o j h1 => by rw [va_up_ne _ _ (show j ≠ k by omega)]; exact hn j (by omega)
    have hg0 : va_up g k none = g := by
      funext j
      by_cases e : j = k
      · subst e; rw [va_up_self]; exact (hn j (by omega)).symm
      · exact va_up_ne _ _ e
    have hr : ∀ o, rchd I gr (va_up g k o) k ↔ rchd I gr g k := by
      intro o
      unfold rchd
      constructor
      · rintro (q | ⟨a, x, q1, q2, q3, q4⟩)
        · exact Or.inl q
        · exact Or.inr ⟨a, x, q1, q2, by rw [va_up_ne _ _ (show a ≠ k by omega)] at q3; exact q3, q4⟩
      · rintro (q | ⟨a, x, q1, q2, q3, q4⟩)
        · exact Or.inl q
        · exact Or.inr ⟨a, x, q1, q2, by rw [va_up_ne _ _ (show a ≠ k by omega)]; exact q3, q4⟩
    have key : ∀ o, chc1 I le gr (va_up g k o) k → lst I N le gr k (va_up g k o) = srch I N le gr k (va_up g k o) := by
      intro o ho
      refine lst_srch k _ (by omega) (hlow o) (fun j h1 h2 => ?_)
      by_cases e : j = k
      · subst e; exact ho
      · exact hup o j (by omega) h2
    have kno : ∀ o, ¬ chc1 I le gr (va_up g k o) k → lst I N le gr k (va_up g k o) = none := fun o ho => lst_none k _ k (Nat.le_refl k) (by omega) ho
    by_cases hR : rchd I gr g k
    · have e1 : srch I N le gr (k + 1) g = fS (fun i => dit (admd I le gr g k (N 202 k i)) (srch I N le gr k (va_up g k (some (N 202 k i)))) none) (N 201 k 0) := dit_t hR
      rw [e1, show N 201 k 0 + 1 = 1 + N 201 k 0 by omega, fS_add]
      have e0 : fS (fun d => lst I N le gr k (va_up g k (pkd N k d))) 1 = none := fS_f (kno none (fun q => by
        obtain ⟨x, hx⟩ := q.1.mp ((hr none).mpr hR)
        rw [va_up_self] at hx
        cases hx))
      have e2 : fS (fun V => lst I N le gr k (va_up g k (pkd N k (1 + V)))) (N 201 k 0) = fS (fun i => dit (admd I le gr g k (N 202 k i)) (srch I N le gr k (va_up g k (some (N 202 k i)))) none) (N 201 k 0) := by
        refine fS_cg _ (fun i _ => ?_)
        have ep : pkd N k (1 + i) = some (N 202 k i) := by
          unfold pkd
          rw [if_neg (by omega), Nat.add_sub_cancel_left]
        rw [ep]
        by_cases hA : admd I le gr g k (N 202 k i)
        · rw [dit_t hA]
          refine key _ ⟨⟨fun _ => ⟨_, va_up_self _ _ _⟩, fun _ => (hr _).mpr hR⟩, fun x hx => ?_⟩
          rw [va_up_self] at hx
          cases hx
          exact (admd_cg (fun j hj => va_up_ne _ _ hj)).mpr hA
        · rw [dit_f hA]
          refine kno _ (fun q => hA ?_)
          exact (admd_cg (fun j hj => va_up_ne _ _ hj)).mp (q.2 _ (va_up_self _ _ _))
      rw [e2, e0]
      cases fS (fun i => dit (admd I le gr g k (N 202 k i)) (srch I N le gr k (va_up g k (some (N 202 k i)))) none) (N 201 k 0) <;> rfl
    · have e1 : srch I N le gr (k + 1) g = srch I N le gr k g := dit_f hR
      rw [e1, show N 201 k 0 + 1 = 1 + N 201 k 0 by omega, fS_add]
      have e2 : fS (fun V => lst I N le gr k (va_up g k (pkd N k (1 + V)))) (N 201 k 0) = none := by
        refine fS_no _ (fun i _ => ?_)
        have ep : pkd N k (1 + i) = some (N 202 k i) := by
          unfold pkd
          rw [if_neg (by omega), Nat.add_sub_cancel_left]
        rw [ep]
        exact kno _ (fun q => hR ((hr _).mp (q.1.mpr ⟨_, va_up_self _ _ _⟩)))
      rw [e2]
      have h0 : lst I N le gr k (va_up g k none) = srch I N le gr k g := by
        rw [key none ⟨⟨fun q => absurd ((hr none).mp q) hR, fun ⟨x, hx⟩ => by rw [va_up_self] at hx; cases hx⟩, fun x hx => by rw [va_up_self] at hx; cases hx⟩, hg0]
      show fS (fun d => lst I N le gr k (va_up g k (pkd N k d))) 1 = _
      cases hs : srch I N le gr k g with
      | some x => exact fS_t (h0.trans hs)
      | none => exact (fS_f (h0.trans hs)).trans rfl
end LST
/-! the next way -/
section NXT
variable {N : Nat → Nat → Nat → Nat}
theorem dgt_max {W : Nat} : ∀ j : Nat, (∀ i, i < j → dgt N W i = N 201 i 0) → W % wys N j + 1 = wys N j
  | 0, _ => by
    show W % 1 + 1 = 1
    rw [Nat.mod_one]
  | j + 1, h => by
    have ih := dgt_max j (fun i hi => h i (by omega))
    have hj := h j (Nat.lt_succ_self j)
    unfold dgt at hj
    show W % (wys N j * (N 201 j 0 + 1)) + 1 = wys N j * (N 201 j 0 + 1)
    rw [Nat.mod_mul, hj, Nat.mul_succ]
    omega
theorem dgt_q {W j : Nat} (h : ∀ i, i < j → dgt N W i = N 201 i 0) : W + 1 = wys N j * (W / wys N j + 1) := by
  have h1 := dgt_max j h
  have h2 := Nat.div_add_mod W (wys N j)
  rw [Nat.mul_succ]
  omega
theorem dgt_n0 {W j i : Nat} (h : ∀ i, i < j → dgt N W i = N 201 i 0) (hi : i < j) : dgt N (W + 1) i = 0 := by
  obtain ⟨c, hc⟩ := wys_dvd (N := N) (i := i + 1) j hi
  unfold dgt
  have e : W + 1 = wys N i * ((N 201 i 0 + 1) * (c * (W / wys N j + 1))) := by
    refine (dgt_q h).trans ?_
    generalize W / wys N j + 1 = z
    rw [hc, show wys N (i + 1) = wys N i * (N 201 i 0 + 1) from rfl, Nat.mul_assoc, Nat.mul_assoc]
  rw [e, Nat.mul_div_cancel_left _ (wys_pos i), Nat.mul_mod_right]
theorem dgt_n1 {W j : Nat} (h : ∀ i, i < j → dgt N W i = N 201 i 0) (hj : dgt N W j < N 201 j 0) : dgt N (W + 1) j = dgt N W j + 1 := by
  have e := dgt_q h
  unfold dgt at hj ⊢
  have e2 : (W + 1) / wys N j = W / wys N j + 1 := by rw [e, Nat.mul_div_cancel_left _ (wys_pos j)]
  rw [e2]
  have e3 := Nat.div_add_mod (W / wys N j) (N 201 j 0 + 1)
  rw [show W / wys N j + 1 = (N 201 j 0 + 1) * (W / wys N j / (N 201 j 0 + 1)) + (W / wys N j % (N 201 j 0 + 1) + 1) by omega, Nat.mul_add_mod, Nat.mod_eq_of_lt (by omega)]
theorem dgt_n2 {W j i : Nat} (h : ∀ i, i < j → dgt N W i = N 201 i 0) (hj : dgt N W j < N 201 j 0) (hi : j < i) : dgt N (W + 1) i = dgt N W i := by
  have e := dgt_q h
  obtain ⟨c, hc⟩ := wys_dvd (N := N) (i := j + 1) i hi
  unfold dgt at hj ⊢
  have e2 : (W + 1) / wys N j = W / wys N j + 1 := by rw [e, Nat.mul_div_cancel_left _ (wys_pos j)]
  have e3 : (W + 1) / wys N (j + 1) = W / wys N (j + 1) := by
    show (W + 1) / (wys N j * (N 201 j 0 + 1)) = W / (wys N j * (N 201 j 0 + 1))
    rw [← Nat.div_div_eq_div_mul, ← Nat.div_div_eq_div_mul, e2]
    have e4 := Nat.div_add_mod (W / wys N j) (N 201 j 0 + 1)
    rw [show W / wys N j + 1 = (W / wys N j % (N 201 j 0 + 1) + 1) + (N 201 j 0 + 1) * (W / wys N j / (N 201 j 0 + 1)) by omega, Nat.add_mul_div_left _ _ (Nat.succ_pos _), Nat.div_eq_of_lt (by omega), Nat.zero_add]
  rw [hc, ← Nat.div_div_eq_div_mul, ← Nat.div_div_eq_div_mul, e3]
end NXT
