/-! answers do not see what is scratch; what an answer is behind a call -/
theorem nm_ex {n : Nat} (h : n ≤ 1000000) : (nI n).toInt = (n : Int) := nI_toInt (by omega)
section ANS
variable {σ σ' : sT} {ofr : Nat → Nat} {N m p : Nat}
theorem vG_es (e : ES σ σ') (o : Option Nat) : vG σ' o = vG σ o := by
  cases o with
  | none => rfl
  | some x => show σ'.1 40 x 0 = σ.1 40 x 0; rw [e.I 40 rfl]
theorem srS_es (e : ES σ σ') (p : Nat) : srS σ' p = srS σ p := by
  unfold srS
  rw [e.I 23 rfl, e.I 24 rfl]
  refine srch_cg p zN (fun j _ => ⟨by rw [e.1], fun i _ => ⟨by rw [e.1], ?_⟩⟩) (fun a x h => by cases h)
  unfold SQ
  rw [e.I 40 rfl, e.I 42 rfl, e.I 43 rfl]
  exact ⟨rfl, rfl, rfl, rfl⟩
theorem vAh_es (e : ES σ σ') (p : Nat) : vAh σ' p = vAh σ p := by
  unfold vAh
  rw [e.rn, e.ix, e.I 40 rfl, e.I 21 rfl]
theorem fdV_es (e : ES σ σ') (p : Nat) (v : Int32) : ∀ k i, fdV σ' p v i k = fdV σ p v i k
  | 0, _ => rfl
  | k + 1, i => by
    show (if σ'.1 40 (ixp σ' p i) 0 = v then some (ixp σ' p i) else fdV σ' p v (i + 1) k) = if σ.1 40 (ixp σ p i) 0 = v then some (ixp σ p i) else fdV σ p v (i + 1) k
    rw [e.ix, e.I 40 rfl, fdV_es e p v k (i + 1)]
theorem stl_es (e : ES σ σ') (r : Nat) : stl σ' r ↔ stl σ r := by
  unfold stl
  rw [e.I 40 rfl, e.O 45 rfl]
theorem gdN_es (e : ES σ σ') : ∀ r, gdN σ' r = gdN σ r
  | 0 => rfl
  | r + 1 => by
    show dit (σ'.1 40 r 2 = 0 ∧ ¬ stl σ' r) (gdN σ' r + 1) (gdN σ' r) = dit (σ.1 40 r 2 = 0 ∧ ¬ stl σ r) (gdN σ r + 1) (gdN σ r)
    rw [gdN_es e r]
    exact dit_c9 (by rw [stl_es e, e.I 40 rfl]) (fun _ => rfl) rfl
theorem xCn_es (e : ES σ σ') (t : Nat) : xCn σ' t = xCn σ t := by unfold xCn; rw [e.I 50 rfl]
theorem ct_es (e : ES σ σ') (t : Nat) : ctN (σ'.1 51 t) (xCn σ' t) = ctN (σ.1 51 t) (xCn σ t) := by rw [xCn_es e, e.I 51 rfl]
theorem fkB_es (e : ES σ σ') : ∀ t, fkB σ' t = fkB σ t
  | 0 => rfl
  | t + 1 => by
    show (if (fkB σ' t).2 < ctN (σ'.1 51 t) (xCn σ' t) then (t, ctN (σ'.1 51 t) (xCn σ' t)) else fkB σ' t) = if (fkB σ t).2 < ctN (σ.1 51 t) (xCn σ t) then (t, ctN (σ.1 51 t) (xCn σ t)) else fkB σ t
    rw [fkB_es e t, ct_es e]
theorem tIn_cg {I I' : Nat → Nat → Nat → Int32} (e : I' 50 = I 50) {M : Nat} {n L : Int32} {s : (Nat → Int32) × Int32} : ∀ i, tIn I' M n L i s = tIn I M n L i s
  | 0 => rfl
  | i + 1 => by
    show (if I' 50 i 0 = n ∧ I' 50 i 1 = L then plS M L (tIn I' M n L i s) else tIn I' M n L i s) = if I 50 i 0 = n ∧ I 50 i 1 = L then plS M L (tIn I M n L i s) else tIn I M n L i s
    rw [tIn_cg e i, e]
theorem tOu_cg {I I' : Nat → Nat → Nat → Int32} (e : I' 50 = I 50) {M : Nat} {n : Int32} {nt : Nat} : ∀ j, tOu I' M n nt j = tOu I M n nt j
  | 0 => rfl
  | j + 1 => by
    show tIn I' M n (nI (60 - j)) nt (tOu I' M n nt j) = tIn I M n (nI (60 - j)) nt (tOu I M n nt j)
    rw [tOu_cg e j, tIn_cg e]
theorem psW_es (e : ES σ σ') (p : Nat) (g : Nat → Option Nat) : psW σ' p g ↔ psW σ p g := by
  unfold psW
  rw [e.I 27 rfl, e.I 28 rfl, e.I 21 rfl, e.I 30 rfl, e.I 23 rfl, e.I 31 rfl, e.I 24 rfl, e.O 33 rfl]
theorem pub_es (e : ES σ σ') (p : Nat) : pubC σ' p ↔ pubC σ p := by
  unfold pubC
  rw [srS_es e]
  exact ⟨fun ⟨g, a, b⟩ => ⟨g, a, (psW_es e p g).mp b⟩, fun ⟨g, a, b⟩ => ⟨g, a, (psW_es e p g).mpr b⟩⟩
/-! sizes -/
theorem nat_add01 {a : Int32} {k : Nat} {P : Prop} [Decidable P] (h : ∃ c, c ≤ k ∧ a = nI c) : ∃ c, c ≤ k + 1 ∧ a + (if P then 0 else 1) = nI c := by
  obtain ⟨c, h1, rfl⟩ := h
  by_cases q : P
  · rw [if_pos q]
    exact ⟨c, by omega, Int32.add_zero _⟩
  · rw [if_neg q]
    exact ⟨c + 1, by omega, nI_1 c⟩
theorem cnN_nat (gr : Nat → Int32) : ∀ n, ∃ c, c ≤ n ∧ cnN gr n = nI c
  | 0 => ⟨0, Nat.le_refl _, rfl⟩
  | n + 1 => nat_add01 (cnN_nat gr n)
theorem cdN_nat (P Q : Nat → Option Nat) : ∀ n, ∃ c, c ≤ n ∧ cdN P Q n = nI c
  | 0 => ⟨0, Nat.le_refl _, rfl⟩
  | n + 1 => nat_add01 (cdN_nat P Q n)
theorem fln_nat (I : Nat → Nat → Nat → Int32) (n : Int32) : ∀ t, ∃ c, c ≤ t ∧ flnN I n t = nI c
  | 0 => ⟨0, Nat.le_refl _, rfl⟩
  | t + 1 => by
    unfold flnN
    by_cases e : I 50 t 0 = n
    · rw [if_pos e]; exact nat_add01 (fln_nat I n t)
    · rw [if_neg e]
      obtain ⟨c, h1, h2⟩ := fln_nat I n t
      exact ⟨c, by omega, h2⟩
theorem stN_nat (σ : sT) : ∀ r, ∃ c, c ≤ r ∧ stN σ r = nI c
  | 0 => ⟨0, Nat.le_refl _, rfl⟩
  | r + 1 => by
    obtain ⟨c, h1, h2⟩ := stN_nat σ r
    show ∃ c, c ≤ r + 1 ∧ stN σ r + dit (stl σ r) 1 0 = nI c
    by_cases q : stl σ r
    · rw [dit_t q, h2]; exact ⟨c + 1, by omega, nI_1 c⟩
    · rw [dit_f q, h2]; exact ⟨c, by omega, Int32.add_zero _⟩
theorem gdN_nat (σ : sT) : ∀ r, ∃ c, c ≤ r ∧ gdN σ r = nI c
  | 0 => ⟨0, Nat.le_refl _, rfl⟩
  | r + 1 => by
    obtain ⟨c, h1, h2⟩ := gdN_nat σ r
    show ∃ c, c ≤ r + 1 ∧ dit _ (gdN σ r + 1) (gdN σ r) = nI c
    by_cases q : σ.1 40 r 2 = 0 ∧ ¬ stl σ r
    · rw [dit_t q, h2]; exact ⟨c + 1, by omega, nI_1 c⟩
    · rw [dit_f q, h2]; exact ⟨c, by omega, rfl⟩
theorem ssV_nat (σ : sT) (p : Nat) (f b : Int32) : ∃ c, c ≤ 2 ∧ ssV σ p f b = nI c := by
  unfold ssV
  by_cases a : σ.1 21 p 0 = f <;> by_cases d : σ.1 21 p 1 = b
  · rw [if_pos a, if_pos d]; exact ⟨0, by omega, rfl⟩
  · rw [if_pos a, if_neg d]; exact ⟨1, by omega, rfl⟩
  · rw [if_neg a, if_pos d]; exact ⟨1, by omega, rfl⟩
  · rw [if_neg a, if_neg d]; exact ⟨2, by omega, rfl⟩
/-- a record of up to 8 results has up to 7 turns -/
theorem ct_nat (F : Nat → Int32) : ∀ n, ∃ c, c ≤ n - 1 ∧ ctN F n = nI c
  | 0 => ⟨0, Nat.le_refl _, rfl⟩
  | n + 1 => by
    obtain ⟨c, h1, h2⟩ := ct_nat F n
    show ∃ c, c ≤ n + 1 - 1 ∧ ctN F n + (if n = 0 then 0 else if F n = F (n - 1) then 0 else 1) = nI c
    rw [h2]
    by_cases e : n = 0
    · rw [if_pos e]; exact ⟨c, by omega, Int32.add_zero _⟩
    · rw [if_neg e]
      by_cases q : F n = F (n - 1)
      · rw [if_pos q]; exact ⟨c, by omega, Int32.add_zero _⟩
      · rw [if_neg q]; exact ⟨c + 1, by omega, nI_1 c⟩
theorem ct_7 (hT : JT σ) {t : Nat} (ht : t < nts σ) : ∃ c, c ≤ 7 ∧ ctN (σ.1 51 t) (xCn σ t) = nI c := by
  obtain ⟨-, c, c1, c2⟩ := hT t ht
  have e : xCn σ t = c := by unfold xCn; rw [c2]; exact nI_clamp (by omega)
  rw [e]
  obtain ⟨x, x1, x2⟩ := ct_nat (σ.1 51 t) c
  exact ⟨x, by omega, x2⟩
/-- the flakiest of the first n -/
theorem fkB_max (hT : JT σ) : ∀ n, n ≤ nts σ → (0 < n → (fkB σ n).1 < n ∧ (fkB σ n).2 = ctN (σ.1 51 (fkB σ n).1) (xCn σ (fkB σ n).1)) ∧ (n = 0 → (fkB σ n).2 = -1) ∧ ∀ t, t < n → ctN (σ.1 51 t) (xCn σ t) ≤ (fkB σ n).2
  | 0, _ => ⟨fun z => absurd z (Nat.lt_irrefl 0), fun _ => rfl, fun t ht => absurd ht (Nat.not_lt_zero t)⟩
  | n + 1, h => by
    obtain ⟨h1, h0, h2⟩ := fkB_max hT n (by omega)
    have e : fkB σ (n + 1) = if (fkB σ n).2 < ctN (σ.1 51 n) (xCn σ n) then (n, ctN (σ.1 51 n) (xCn σ n)) else fkB σ n := rfl
    rw [e]
    by_cases q : (fkB σ n).2 < ctN (σ.1 51 n) (xCn σ n)
    · rw [if_pos q]
      refine ⟨fun _ => ⟨Nat.lt_succ_self n, rfl⟩, fun z => by omega, fun t ht => ?_⟩
      by_cases et : t = n
      · rw [et]; exact Int32.le_refl _
      · have z := h2 t (by omega)
        rw [Int32.lt_iff_toInt_lt] at q
        rw [Int32.le_iff_toInt_le] at z ⊢
        show (ctN (σ.1 51 t) (xCn σ t)).toInt ≤ (ctN (σ.1 51 n) (xCn σ n)).toInt
        omega
    · rw [if_neg q]
      have hn0 : 0 < n := by
        refine Nat.pos_of_ne_zero (fun z => q ?_)
        rw [h0 z]
        obtain ⟨c, c1, c2⟩ := ct_7 hT (t := n) (by omega)
        rw [c2, Int32.lt_iff_toInt_lt, nI_toInt (by omega)]
        have : (-1 : Int32).toInt = -1 := rfl
        omega
      refine ⟨fun _ => ⟨by have := (h1 hn0).1; omega, (h1 hn0).2⟩, fun z => by omega, fun t ht => ?_⟩
      by_cases et : t = n
      · rw [et]
        exact Int32.not_lt.mp q
      · exact h2 t (by omega)
theorem ffst_l (F : Nat → Int32) {M : Nat} (h : 0 < M) : ffst F M < M := ffst_lt F M h
/-- what the machines show is small and not negative -/
def smS (B : Nat) (s : (Nat → Int32) × Int32) : Prop := (∀ j, ∃ c, c ≤ B ∧ s.1 j = nI c) ∧ ∃ c, c ≤ B ∧ s.2 = nI c
theorem smS.pl {B M l : Nat} {s : (Nat → Int32) × Int32} (h : smS B s) (hl : l ≤ 60) (hB : B < 100000) : smS (B + 60) (plS M (nI l) s) := by
  obtain ⟨c, c1, c2⟩ := h.1 (ffst s.1 M)
  have e : s.1 (ffst s.1 M) + nI l = nI (c + l) := by rw [c2]; exact nI_add_ c l
  refine ⟨fun j => ?_, ?_⟩
  · show ∃ c, c ≤ B + 60 ∧ upd s.1 (ffst s.1 M) (s.1 (ffst s.1 M) + nI l) j = nI c
    rw [e]
    by_cases q : j = ffst s.1 M
    · rw [q, upd_s]; exact ⟨c + l, by omega, rfl⟩
    · obtain ⟨d, d1, d2⟩ := h.1 j
      exact ⟨d, by omega, (if_neg q).trans d2⟩
  · show ∃ c, c ≤ B + 60 ∧ (if s.2 < s.1 (ffst s.1 M) + nI l then s.1 (ffst s.1 M) + nI l else s.2) = nI c
    rw [e]
    split
    · exact ⟨c + l, by omega, rfl⟩
    · obtain ⟨d, d1, d2⟩ := h.2
      exact ⟨d, by omega, d2⟩
theorem smS.mono {B B' : Nat} {s : (Nat → Int32) × Int32} (h : smS B s) (q : B ≤ B') : smS B' s := ⟨fun j => by obtain ⟨c, a, b⟩ := h.1 j; exact ⟨c, by omega, b⟩, by obtain ⟨c, a, b⟩ := h.2; exact ⟨c, by omega, b⟩⟩
theorem smS.tin {I : Nat → Nat → Nat → Int32} {M l B : Nat} {n : Int32} {s : (Nat → Int32) × Int32} (h : smS B s) (hl : l ≤ 60) : ∀ i, B + 60 * i < 100000 → smS (B + 60 * i) (tIn I M n (nI l) i s)
  | 0, _ => h
  | i + 1, hB => by
    have h1 := smS.tin (I := I) (M := M) (n := n) h hl i (by omega)
    show smS _ (if I 50 i 0 = n ∧ I 50 i 1 = nI l then plS M (nI l) (tIn I M n (nI l) i s) else tIn I M n (nI l) i s)
    split
    · exact (h1.pl hl (by omega)).mono (by omega)
    · exact h1.mono (by omega)
theorem tOu_sm (I : Nat → Nat → Nat → Int32) (M : Nat) (n : Int32) {nt : Nat} (ht : nt ≤ 8) : ∀ j, j ≤ 60 → smS (480 * j) (tOu I M n nt j)
  | 0, _ => ⟨fun _ => ⟨0, Nat.le_refl _, rfl⟩, 0, Nat.le_refl _, rfl⟩
  | j + 1, hj => by
    have h1 := tOu_sm I M n ht j (by omega)
    exact ((h1.tin (I := I) (M := M) (n := n) (l := 60 - j) (by omega) nt (by omega))).mono (by omega)
/-! behind a call -/
theorem srS_N (h40 : ∀ x, SQ σ.1 σ'.1 x) (h2 : σ'.2.1 = σ.2.1) (h23 : σ'.1 23 p = σ.1 23 p) (h24 : σ'.1 24 p = σ.1 24 p) : srS σ' p = srS σ p := by
  unfold srS
  rw [h23, h24]
  exact srch_cg p zN (fun j _ => ⟨by rw [h2], fun i _ => ⟨by rw [h2], h40 _⟩⟩) (fun a x h => by cases h)
/-- compiling is not needed behind compiling -/
theorem cm_ok {g : Nat → Option Nat} : srS (cmS σ p g) p = srS σ p ∧ bOk (cmS σ p g) p g := by
  refine ⟨srS_N (fun x => ⟨rfl, rfl, rfl, rfl⟩) rfl rfl rfl, ?_⟩
  have a25 : (cmS σ p g).1 25 p = upd (upd (upd (σ.1 25 p) 0 1) 1 (σ.1 21 p 0)) 2 (σ.1 21 p 1) := setI_s (σ := setO σ 9 0 g) 25 p _
  have a26 : (cmS σ p g).1 26 p = nfG σ (σ.1 24 p) g := setI_s (σ := setI (setO σ 9 0 g) 25 p (upd (upd (upd (σ.1 25 p) 0 1) 1 (σ.1 21 p 0)) 2 (σ.1 21 p 1))) 26 p _
  unfold bOk bOfP
  rw [a25, a26]
  refine ⟨fun z => absurd z ?_, rfl, upd_s _ _ _, fun j _ => ?_⟩
  · show ¬ (1 : Int32) = 0
    decide
  · show nfG σ (σ.1 24 p) g j = nfG (cmS σ p g) (σ.1 24 p) g j
    unfold nfG
    cases g j <;> rfl
/-- a test lets a package be published just if none fails -/
theorem te_ok {o : Nat} {g : Nat → Option Nat} (hg : srS σ p = some g) : pubC (teS σ p o g) p ↔ flnN σ.1 (nI p) (nts σ) = 0 := by
  have t40 : ∀ u x, (u = 40 ∨ u = 42 ∨ u = 43 ∨ u = 23 ∨ u = 24 ∨ u = 21) → (teS σ p o g).1 u x = σ.1 u x := fun u x hu => te_T p o g (by omega) (by omega) (by omega)
  have hs : srS (teS σ p o g) p = some g := by
    rw [← hg]
    refine srS_N (fun x => ?_) (te_2 p o g).1 (t40 23 p (by simp)) (t40 24 p (by simp))
    unfold SQ
    rw [t40 40 x (by simp), t40 42 x (by simp), t40 43 x (by simp)]
    exact ⟨rfl, rfl, rfl, rfl⟩
  obtain ⟨T, hT⟩ : ∃ T, T = rTs (pyS σ o (cstN σ.1 (nI p) (nts σ)) g) (nI p) (nts σ) := ⟨_, rfl⟩
  obtain ⟨bt, hbt⟩ : ∃ z : Int32, z = (if flnN σ.1 (nI p) (nts σ) = 0 then 1 else 0) := ⟨_, rfl⟩
  have eT : teS σ p o g = trS T p bt g σ := by unfold teS; rw [← hbt, hT]
  have r27 : (teS σ p o g).1 27 p = upd (T.1 27 p) 0 bt := by rw [eT]; exact setI_s (σ := T) 27 p _
  have r28 : (teS σ p o g).1 28 p = upd (upd (T.1 28 p) 0 (σ.1 21 p 0)) 1 (σ.1 21 p 1) := by
    rw [eT]
    exact setI_s (σ := setI T 27 p (upd (T.1 27 p) 0 bt)) 28 p _
  have r30 : (teS σ p o g).1 30 p = σ.1 23 p := by
    rw [eT]
    exact setI_s (σ := setI (setI T 27 p (upd (T.1 27 p) 0 bt)) 28 p (upd (upd (T.1 28 p) 0 (σ.1 21 p 0)) 1 (σ.1 21 p 1))) 30 p _
  have r31 : (teS σ p o g).1 31 p = σ.1 24 p := by
    rw [eT]
    exact setI_s (σ := setI (setI (setI T 27 p (upd (T.1 27 p) 0 bt)) 28 p (upd (upd (T.1 28 p) 0 (σ.1 21 p 0)) 1 (σ.1 21 p 1))) 30 p (σ.1 23 p)) 31 p _
  have r33 : (teS σ p o g).2.2 33 p = g := by rw [eT]; exact setO_s _ _ _
  have key : psW (teS σ p o g) p g ↔ flnN σ.1 (nI p) (nts σ) = 0 := by
    unfold psW
    rw [r27, r28, r30, r31, r33, t40 21 p (by simp), t40 23 p (by simp), t40 24 p (by simp)]
    constructor
    · intro z
      by_cases q : flnN σ.1 (nI p) (nts σ) = 0
      · exact q
      · rw [if_neg q] at hbt
        exact absurd ((upd_s _ _ _).trans hbt) z.1
    · intro q
      rw [if_pos q] at hbt
      refine ⟨fun z => ?_, ⟨rfl, upd_s _ _ _, fun j _ => ⟨rfl, rfl⟩⟩, fun j _ => rfl⟩
      rw [upd_s, hbt] at z
      exact absurd z (by decide)
  constructor
  · rintro ⟨g', h1, h2⟩
    rw [hs] at h1
    cases h1
    exact key.mp h2
  · intro h
    exact ⟨g, hs, key.mpr h⟩
/-- a release locks what is chosen -/
theorem pu_ok (hM : JM σ ofr) (h6 : npk σ ≤ 6) (hp : p < npk σ) {v f : Int32} {le gr : Nat → Int32} {g : Nat → Option Nat} {mc mc3 : Int32} {e2 cap2 e3 cap3 : Nat} {g2 g3 : Nat → Option Nat} (hg : srS σ p = some g) : srS (rlS σ p v f le gr g mc mc3 e2 cap2 e3 cap3 g2 g3) p = some g := by
  rw [← hg]
  unfold srS
  have e23 : (rlS σ p v f le gr g mc mc3 e2 cap2 e3 cap3 g2 g3).1 23 p = σ.1 23 p := rfl
  have e24 : (rlS σ p v f le gr g mc mc3 e2 cap2 e3 cap3 g2 g3).1 24 p = σ.1 24 p := rfl
  rw [e23, e24]
  refine srch_cg p zN (fun j hj => ⟨?_, fun i hi => ⟨?_, ?_⟩⟩) (fun a x h => by cases h)
  · have z := pu_rn (σ := σ) (p := p) (v := v) (f := f) (le := le) (gr := gr) (g := g) (mc := mc) (mc3 := mc3) (e2 := e2) (cap2 := cap2) (e3 := e3) (cap3 := cap3) (g2 := g2) (g3 := g3) j
    rw [if_neg (by omega)] at z
    exact z
  · have z := pu_ix (σ := σ) (p := p) (v := v) (f := f) (le := le) (gr := gr) (g := g) (mc := mc) (mc3 := mc3) (e2 := e2) (cap2 := cap2) (e3 := e3) (cap3 := cap3) (g2 := g2) (g3 := g3) j i
    rw [if_neg (by omega)] at z
    exact z
  · have hx := (hM.ix (q := j) (i := i) (by omega) hi).1
    have ne : ¬ σ.2.1 202 j i = nrl σ := fun z => by have : ixp σ j i = nrl σ := z; omega
    unfold SQ
    rw [pu_n (Or.inl rfl) ne, pu_n (Or.inr (Or.inl rfl)) ne, pu_n (Or.inr (Or.inr rfl)) ne]
    exact ⟨rfl, rfl, rfl, rfl⟩
/-- one that is locked anew is not stale -/
theorem re_ok {r : Nat} {g : Nat → Option Nat} (hg : ∀ j x, g j = some x → σ.1 40 x 2 = 0) : ¬ stl (setO (setO σ 9 0 g) 45 r g) r := by
  rintro ⟨-, k, x, -, h2, h3⟩
  rw [setO_s] at h2
  exact h3 (hg k x h2)
end ANS
