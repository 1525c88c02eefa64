/-! the reference: reached, fits -/
def nbk (l g : Int32) : Prop := (l = 0 ∧ g = 0) ∨ (100 ≤ l ∧ l ≤ g ∧ g ≤ 999)
theorem nbk_p {l g : Int32} (h : nbk l g) : 0 < l ↔ ¬ g = 0 := by
  rcases h with ⟨rfl, rfl⟩ | ⟨h1, h2, h3⟩
  · exact ⟨fun q => absurd q (by decide), fun q => absurd rfl q⟩
  · have e1 : (0 : Int32) < l := by
      simp only [Int32.lt_iff_toInt_lt, Int32.le_iff_toInt_le, ti_0, ti_100] at *
      omega
    refine ⟨fun _ q => ?_, fun _ => e1⟩
    subst q
    simp only [Int32.lt_iff_toInt_lt, Int32.le_iff_toInt_le, ti_0, ti_100] at *
    omega
theorem nbk_z {l g : Int32} (h : nbk l g) : l = 0 ↔ g = 0 := by
  rcases h with ⟨rfl, rfl⟩ | ⟨h1, h2, h3⟩
  · exact ⟨fun _ => rfl, fun _ => rfl⟩
  · constructor
    · intro e
      subst e
      exact absurd h1 (by decide)
    · intro e
      subst e
      simp only [Int32.lt_iff_toInt_lt, Int32.le_iff_toInt_le, ti_0, ti_100] at *
      omega
/-- how many of the first r releases are of package q -/
def cntq (ofr : Nat → Nat) (q : Nat) : Nat → Nat
  | 0 => 0
  | r + 1 => cntq ofr q r + (if ofr r = q then 1 else 0)
/-- the reference's releases are the class's -/
def MR (σ : sT) (ofr : Nat → Nat) : Prop := (∀ x, x < nrl σ → ofr x < npk σ ∧ σ.1 77 0 x = nI (ofr x) ∧ σ.1 78 0 x = σ.1 40 x 0 ∧ σ.1 79 0 x = σ.1 40 x 1 ∧ σ.1 83 0 x = σ.1 40 x 2 ∧ ∀ k, k < 6 → σ.1 97 x k = σ.1 42 x k ∧ σ.1 98 x k = σ.1 43 x k ∧ nbk (σ.1 42 x k) (σ.1 43 x k)) ∧
  ∀ q, q < 6 → rnp σ q = cntq ofr q (nrl σ) ∧ ∀ r, r < nrl σ → ofr r = q → ixp σ q (cntq ofr q r) = r
def enc (o : Option Nat) : Int32 := match o with
  | none => -1
  | some x => nI x
def nIne (x : Nat) (hx : x < 2147483648) : ¬ nI x = -1 := fun e => by
  have h1 : (nI x).toInt = (x : Int) := nI_toInt hx
  rw [e] at h1
  have h2 : (-1 : Int32).toInt = -1 := rfl
  omega
set_option maxHeartbeats 4000000 in
set_option maxRecDepth 100000 in
theorem c_verIn (G : hG) (h : hp) {A : aT} {σ : sT} (H : WM G h A σ) {g : Nat → Option Nat} (hgb : pkB σ g) {k9 : Nat} (hk : k9 < 6) (hC : ∀ j, j < 6 → σ.1 90 0 j = enc (g j)) {ofr : Nat → Nat} (hR : MR σ ofr) : PMet G MX10_versionIn 0 0 0 [.ref (A 60 0), .int (nI k9)] h (det (some (.int (vG σ (g k9)))) h) noX := by
  have h20 := H.iv.2.2.1
  refine PMet.of (by decide +kernel) (Nat.le_of_ble_eq_true rfl) (fun d hd => ?_)
  refine PW.sub (L2 := [(0, Value.ref (A 60 0)), (1, Value.int (nI k9))]) [0, 1] rfl ?_
  refine pw_aload_n (pc2 := 1) dX10_versionIn_0 rfl rfl 0 rfl (by first | exact rf_ref _ | exact rf_opt _ | exact rf_nul) ?_
  refine pw_get (pc2 := 4) kX10 (k := 36) (by decide) rfl fl_X10_106 H.c60 rfl dX10_versionIn_1 rfl ?_
  refine pw_iload_n (pc2 := 5) dX10_versionIn_4 rfl rfl 1 rfl ?_
  refine pw_ialdN (pc2 := 6) H.c90 (i := k9) (by first | assumption | omega) (by omega) dX10_versionIn_5 rfl ?_
  refine pw_topE (hC k9 hk) ?_
  cases hgi : g k9 with
  | none =>
    refine pw_iconst (pc2 := 7) (v := (-1)) dX10_versionIn_6 rfl (by decide) ?_
    refine pw_icmp_ne (tgt := 14) (pc2 := 10) dX10_versionIn_7 (by decide) rfl (fun c7 => by exact absurd (rfl) c7) (fun _ => ?_)
    refine pw_iconst (pc2 := 11) (v := 0) dX10_versionIn_10 rfl (by decide) ?_
    refine pw_goto (tgt := 25) dX10_versionIn_11 (by decide) ?_
    refine pw_iret dX10_versionIn_25 rfl (by first | rfl | assumption | simp [narrow]) ?_
    exact ⟨rfl, rfl⟩
  | some x =>
    have hx := hgb k9 x hgi
    refine pw_iconst (pc2 := 7) (v := (-1)) dX10_versionIn_6 rfl (by decide) ?_
    refine pw_icmp_ne (tgt := 14) (pc2 := 10) dX10_versionIn_7 (by decide) rfl (fun _ => ?_) (fun c7 => by exact absurd c7 (nIne x (by omega)))
    refine pw_aload_n (pc2 := 15) dX10_versionIn_14 rfl rfl 0 rfl (by first | exact rf_ref _ | exact rf_opt _ | exact rf_nul) ?_
    refine pw_get (pc2 := 18) kX10 (k := 18) (by decide) rfl fl_X10_64 H.c60 rfl dX10_versionIn_15 rfl ?_
    refine pw_aload_n (pc2 := 19) dX10_versionIn_18 rfl rfl 0 rfl (by first | exact rf_ref _ | exact rf_opt _ | exact rf_nul) ?_
    refine pw_get (pc2 := 22) kX10 (k := 36) (by decide) rfl fl_X10_106 H.c60 rfl dX10_versionIn_19 rfl ?_
    refine pw_iload_n (pc2 := 23) dX10_versionIn_22 rfl rfl 1 rfl ?_
    refine pw_ialdN (pc2 := 24) H.c90 (i := k9) (by first | assumption | omega) (by omega) dX10_versionIn_23 rfl ?_
    refine pw_topE ((hC k9 hk).trans (by rw [hgi]; rfl : enc (g k9) = nI x)) ?_
    refine pw_ialdN (pc2 := 25) H.c78 (i := x) (by first | assumption | omega) (by omega) dX10_versionIn_24 rfl ?_
    refine pw_iret dX10_versionIn_25 rfl (by first | rfl | assumption | simp [narrow]) ?_
    exact ⟨congrArg (fun z => some (Value.int z)) (hR.1 x hx).2.2.1, rfl⟩
def rcP (I : Nat → Nat → Nat → Int32) (gr : Nat → Int32) (g : Nat → Option Nat) (k i : Nat) : Prop := ¬ gr k = 0 ∨ ∃ a x, k < a ∧ a < i ∧ g a = some x ∧ ¬ I 43 x k = 0
theorem rcR {I : Nat → Nat → Nat → Int32} {gr : Nat → Int32} {g : Nat → Option Nat} {k i : Nat} {ac : Int32} {h : hp} (hi : i = 6) (hac : (ac = 1 ∧ rcP I gr g k i) ∨ (ac = 0 ∧ ¬ rcP I gr g k i)) : bR (rchd I gr g k) h (some (.int ac)) h := by
  subst hi
  rcases hac with ⟨rfl, q⟩ | ⟨rfl, q⟩
  · exact bR_1 q
  · exact bR_0 q
set_option maxHeartbeats 4000000 in
set_option maxRecDepth 100000 in
theorem c_mreach (G : hG) (h : hp) {A : aT} {σ : sT} (H : WM G h A σ) {ofr : Nat → Nat} (hR : MR σ ofr) {fa : Nat} {le gr : Nat → Int32} (hfa : h fa = some (aI 6 le)) (hle : ∀ j, j < 6 → nbk (le j) (gr j)) {g : Nat → Option Nat} (hgb : pkB σ g) {kq : Nat} (hk : kq < 6) (hC : ∀ j, kq < j → j < 6 → σ.1 90 0 j = enc (g j)) : PMet G MX10_isReached 0 0 0 [.ref (A 60 0), .int (nI kq), .ref fa] h (bR (rchd σ.1 gr g kq) h) noX := by
  have h20 := H.iv.2.2.1
  refine PMet.of (by decide +kernel) (Nat.le_of_ble_eq_true rfl) (fun d hd => ?_)
  refine PW.sub (L2 := [(0, Value.ref (A 60 0)), (1, Value.int (nI kq)), (2, Value.ref fa)]) [0, 1, 2] rfl ?_
  refine pw_aload_n (pc2 := 1) dX10_isReached_0 rfl rfl 2 rfl (by first | exact rf_ref _ | exact rf_opt _ | exact rf_nul) ?_
  refine pw_iload_n (pc2 := 2) dX10_isReached_1 rfl rfl 1 rfl ?_
  refine pw_ialdN (pc2 := 3) hfa (i := kq) (by first | assumption | omega) (by omega) dX10_isReached_2 rfl ?_
  refine pw_if_le (tgt := 10) (pc2 := 6) dX10_isReached_3 (by decide) rfl (fun c3 => ?_) (fun c3 => ?_)
  · refine pw_iconst (pc2 := 11) (v := 0) dX10_isReached_10 rfl (by decide) ?_
    refine pw_istore_n (pc2 := 12) (L2 := [(3, Value.int 0), (0, Value.ref (A 60 0)), (1, Value.int (nI kq)), (2, Value.ref fa)]) dX10_isReached_11 rfl rfl (by decide) rfl ?_
    refine pw_iload_n (pc2 := 13) dX10_isReached_12 rfl rfl 2 rfl ?_
    refine pw_iconst (pc2 := 14) (v := 1) dX10_isReached_13 rfl (by decide) ?_
    refine pw_iadd (pc2 := 15) dX10_isReached_14 rfl ?_
    refine pw_topE (nI_1 _) ?_
    refine pw_istore (pc2 := 17) (L2 := [(4, Value.int (nI (kq + 1))), (3, Value.int 0), (0, Value.ref (A 60 0)), (1, Value.int (nI kq)), (2, Value.ref fa)]) dX10_isReached_15 rfl (by decide) rfl ?_
    have loop : ∀ (k i : Nat) (ac : Int32) (hki : kq < i) (hac : ((ac = 1 ∧ rcP σ.1 gr g kq i) ∨ (ac = 0 ∧ ¬ rcP σ.1 gr g kq i))), i + k = 6 → PW G MX10_isReached d noA (E0 G (bR (rchd σ.1 gr g kq) h) noX) 0 0 17 [(4, Value.int (nI i)), (3, Value.int ac), (0, Value.ref (A 60 0)), (1, Value.int (nI kq)), (2, Value.ref fa)] [] h := by
      intro k
      induction k with
      | zero =>
        intro i ac hki hac hik
        have hi9 : i = 6 := by omega
        refine pw_iload (pc2 := 19) dX10_isReached_17 rfl 0 rfl ?_
        refine pw_bipush (pc2 := 21) (v := 6) dX10_isReached_19 rfl (by decide) ?_
        refine pw_icmp_ge (tgt := 68) (pc2 := 24) dX10_isReached_21 (by decide) rfl (fun _ => ?_) (fun c21 => by exact absurd (by first | (rw [hi9]; exact Int32.le_refl _) | exact fun q => absurd ((l6 (by omega)).mp q) (by omega)) c21)
        refine pw_iload_n (pc2 := 69) dX10_isReached_68 rfl rfl 1 rfl ?_
        have hb01 : b01 ac := by rcases hac with ⟨q, _⟩ | ⟨q, _⟩; exact Or.inr q; exact Or.inl q
        refine pw_iret dX10_isReached_69 rfl (nar_b2 hb01) ?_
        exact rcR hi9 hac
      | succ k ih =>
        intro i ac hki hac hik
        have hi9 : i < 6 := by omega
        refine pw_iload (pc2 := 19) dX10_isReached_17 rfl 0 rfl ?_
        refine pw_bipush (pc2 := 21) (v := 6) dX10_isReached_19 rfl (by decide) ?_
        refine pw_icmp_ge (tgt := 68) (pc2 := 24) dX10_isReached_21 (by decide) rfl (fun c21 => by exact absurd c21 (by first | (rw [hi9]; exact Int32.le_refl _) | exact fun q => absurd ((l6 (by omega)).mp q) (by omega))) (fun _ => ?_)
        refine pw_iload_n (pc2 := 25) dX10_isReached_24 rfl rfl 1 rfl ?_
        refine pw_if_ne (tgt := 56) (pc2 := 28) dX10_isReached_25 (by decide) rfl (fun c25 => ?_) (fun c25 => ?_)
        · refine pw_iconst (pc2 := 57) (v := 1) dX10_isReached_56 rfl (by decide) ?_
          refine pw_goto (tgt := 61) dX10_isReached_57 (by decide) ?_
          refine pw_istore_n (pc2 := 62) (L2 := [(3, Value.int 1), (4, Value.int (nI i)), (0, Value.ref (A 60 0)), (1, Value.int (nI kq)), (2, Value.ref fa)]) dX10_isReached_61 rfl rfl (by decide) rfl ?_
          refine pw_iinc (pc2 := 65) (v := nI (i + 1)) (L2 := [(4, Value.int (nI (i + 1))), (3, Value.int 1), (0, Value.ref (A 60 0)), (1, Value.int (nI kq)), (2, Value.ref fa)]) dX10_isReached_62 rfl 1 rfl (by show nI _ + 1 = nI _; exact nI_1 _) (by decide) rfl ?_
          refine pw_goto (tgt := 17) dX10_isReached_65 (by decide) ?_
          refine PW.sub (L2 := [(4, Value.int (nI (i + 1))), (3, Value.int 1), (0, Value.ref (A 60 0)), (1, Value.int (nI kq)), (2, Value.ref fa)]) [0, 1, 2, 3, 4] rfl ?_
          have hY : rcP σ.1 gr g kq i := by rcases hac with ⟨_, q⟩ | ⟨q, _⟩; exact q; exact absurd q c25
          refine ih (i + 1) 1 (by omega) ?_ (by omega)
          first | exact Or.inl ⟨rfl, hY.imp id (fun ⟨a, x, h1, h2, h3⟩ => ⟨a, x, h1, by omega, h3⟩)⟩ | exact Or.inl ⟨rfl, Or.inr ⟨i, x, hki, by omega, hgi, (nbk_p ((hR.1 x hx).2.2.2.2.2 kq hk).2.2).mp (((hR.1 x hx).2.2.2.2.2 kq hk).1 ▸ Int32.not_le.mp c53)⟩⟩
        · refine pw_aload_n (pc2 := 29) dX10_isReached_28 rfl rfl 2 rfl (by first | exact rf_ref _ | exact rf_opt _ | exact rf_nul) ?_
          refine pw_get (pc2 := 32) kX10 (k := 36) (by decide) rfl fl_X10_106 H.c60 rfl dX10_isReached_29 rfl ?_
          refine pw_iload (pc2 := 34) dX10_isReached_32 rfl 0 rfl ?_
          refine pw_ialdN (pc2 := 35) H.c90 (i := i) (by first | assumption | omega) (by omega) dX10_isReached_34 rfl ?_
          refine pw_topE (hC i hki hi9) ?_
          cases hgi : g i with
          | none =>
            refine pw_iconst (pc2 := 36) (v := (-1)) dX10_isReached_35 rfl (by decide) ?_
            refine pw_icmp_eq (tgt := 60) (pc2 := 39) dX10_isReached_36 (by decide) rfl (fun _ => ?_) (fun c36 => by exact absurd (rfl) c36)
            refine pw_iconst (pc2 := 61) (v := 0) dX10_isReached_60 rfl (by decide) ?_
            refine pw_istore_n (pc2 := 62) (L2 := [(3, Value.int 0), (4, Value.int (nI i)), (0, Value.ref (A 60 0)), (1, Value.int (nI kq)), (2, Value.ref fa)]) dX10_isReached_61 rfl rfl (by decide) rfl ?_
            refine pw_iinc (pc2 := 65) (v := nI (i + 1)) (L2 := [(4, Value.int (nI (i + 1))), (3, Value.int 0), (0, Value.ref (A 60 0)), (1, Value.int (nI kq)), (2, Value.ref fa)]) dX10_isReached_62 rfl 1 rfl (by show nI _ + 1 = nI _; exact nI_1 _) (by decide) rfl ?_
            refine pw_goto (tgt := 17) dX10_isReached_65 (by decide) ?_
            refine PW.sub (L2 := [(4, Value.int (nI (i + 1))), (3, Value.int 0), (0, Value.ref (A 60 0)), (1, Value.int (nI kq)), (2, Value.ref fa)]) [0, 1, 2, 3, 4] rfl ?_
            refine ih (i + 1) 0 (by omega) ?_ (by omega)
            have hN : ¬ rcP σ.1 gr g kq i := by rcases hac with ⟨q, _⟩ | ⟨_, q⟩; exact absurd (c25 ▸ q) (by decide); exact q
            refine Or.inr ⟨rfl, fun z => ?_⟩
            rcases z with z | ⟨a, y, h1, h2, h3, h4⟩
            · exact hN (Or.inl z)
            · by_cases ea : a = i
              · subst ea
                rw [hgi] at h3
                first | cases h3; done | (cases h3; exact absurd ((nbk_p ((hR.1 x hx).2.2.2.2.2 kq hk).2.2).mpr h4) (Int32.not_lt.mpr (((hR.1 x hx).2.2.2.2.2 kq hk).1 ▸ c53)))
              · exact hN (Or.inr ⟨a, y, h1, by omega, h3, h4⟩)
          | some x =>
            have hx := hgb i x hgi
            have hx20 : x < 20 := by omega
            refine pw_iconst (pc2 := 36) (v := (-1)) dX10_isReached_35 rfl (by decide) ?_
            refine pw_icmp_eq (tgt := 60) (pc2 := 39) dX10_isReached_36 (by decide) rfl (fun c36 => by exact absurd c36 (nIne x (by omega))) (fun _ => ?_)
            refine pw_aload_n (pc2 := 40) dX10_isReached_39 rfl rfl 2 rfl (by first | exact rf_ref _ | exact rf_opt _ | exact rf_nul) ?_
            refine pw_get (pc2 := 43) kX10 (k := 20) (by decide) rfl fl_X10_70 H.c60 rfl dX10_isReached_40 rfl ?_
            refine pw_aload_n (pc2 := 44) dX10_isReached_43 rfl rfl 2 rfl (by first | exact rf_ref _ | exact rf_opt _ | exact rf_nul) ?_
            refine pw_get (pc2 := 47) kX10 (k := 36) (by decide) rfl fl_X10_106 H.c60 rfl dX10_isReached_44 rfl ?_
            refine pw_iload (pc2 := 49) dX10_isReached_47 rfl 0 rfl ?_
            refine pw_ialdN (pc2 := 50) H.c90 (i := i) (by first | assumption | omega) (by omega) dX10_isReached_49 rfl ?_
            refine pw_topE ((hC i hki hi9).trans (by rw [hgi]; rfl : enc (g i) = nI x)) ?_
            refine pw_aaldN (pc2 := 51) 6 rfl rfl H.c80 (i := x) (by first | assumption | omega) (by omega) dX10_isReached_50 rfl ?_
            refine pw_topV (rowv (by first | assumption | omega)) ?_
            refine pw_iload_n (pc2 := 52) dX10_isReached_51 rfl rfl 3 rfl ?_
            refine pw_ialdN (pc2 := 53) (H.c97 hx20) (i := kq) (by first | assumption | omega) (by omega) dX10_isReached_52 rfl ?_
            refine pw_if_le (tgt := 60) (pc2 := 56) dX10_isReached_53 (by decide) rfl (fun c53 => ?_) (fun c53 => ?_)
            · refine pw_iconst (pc2 := 61) (v := 0) dX10_isReached_60 rfl (by decide) ?_
              refine pw_istore_n (pc2 := 62) (L2 := [(3, Value.int 0), (4, Value.int (nI i)), (0, Value.ref (A 60 0)), (1, Value.int (nI kq)), (2, Value.ref fa)]) dX10_isReached_61 rfl rfl (by decide) rfl ?_
              refine pw_iinc (pc2 := 65) (v := nI (i + 1)) (L2 := [(4, Value.int (nI (i + 1))), (3, Value.int 0), (0, Value.ref (A 60 0)), (1, Value.int (nI kq)), (2, Value.ref fa)]) dX10_isReached_62 rfl 1 rfl (by show nI _ + 1 = nI _; exact nI_1 _) (by decide) rfl ?_
              refine pw_goto (tgt := 17) dX10_isReached_65 (by decide) ?_
              refine PW.sub (L2 := [(4, Value.int (nI (i + 1))), (3, Value.int 0), (0, Value.ref (A 60 0)), (1, Value.int (nI kq)), (2, Value.ref fa)]) [0, 1, 2, 3, 4] rfl ?_
              refine ih (i + 1) 0 (by omega) ?_ (by omega)
              have hN : ¬ rcP σ.1 gr g kq i := by rcases hac with ⟨q, _⟩ | ⟨_, q⟩; exact absurd (c25 ▸ q) (by decide); exact q
              refine Or.inr ⟨rfl, fun z => ?_⟩
              rcases z with z | ⟨a, y, h1, h2, h3, h4⟩
              · exact hN (Or.inl z)
              · by_cases ea : a = i
                · subst ea
                  rw [hgi] at h3
                  first | cases h3; done | (cases h3; exact absurd ((nbk_p ((hR.1 x hx).2.2.2.2.2 kq hk).2.2).mpr h4) (Int32.not_lt.mpr (((hR.1 x hx).2.2.2.2.2 kq hk).1 ▸ c53)))
                · exact hN (Or.inr ⟨a, y, h1, by omega, h3, h4⟩)
            · refine pw_iconst (pc2 := 57) (v := 1) dX10_isReached_56 rfl (by decide) ?_
              refine pw_goto (tgt := 61) dX10_isReached_57 (by decide) ?_
              refine pw_istore_n (pc2 := 62) (L2 := [(3, Value.int 1), (4, Value.int (nI i)), (0, Value.ref (A 60 0)), (1, Value.int (nI kq)), (2, Value.ref fa)]) dX10_isReached_61 rfl rfl (by decide) rfl ?_
              refine pw_iinc (pc2 := 65) (v := nI (i + 1)) (L2 := [(4, Value.int (nI (i + 1))), (3, Value.int 1), (0, Value.ref (A 60 0)), (1, Value.int (nI kq)), (2, Value.ref fa)]) dX10_isReached_62 rfl 1 rfl (by show nI _ + 1 = nI _; exact nI_1 _) (by decide) rfl ?_
              refine pw_goto (tgt := 17) dX10_isReached_65 (by decide) ?_
              refine PW.sub (L2 := [(4, Value.int (nI (i + 1))), (3, Value.int 1), (0, Value.ref (A 60 0)), (1, Value.int (nI kq)), (2, Value.ref fa)]) [0, 1, 2, 3, 4] rfl ?_
              refine ih (i + 1) 1 (by omega) ?_ (by omega)
              first | exact Or.inl ⟨rfl, hY.imp id (fun ⟨a, x, h1, h2, h3⟩ => ⟨a, x, h1, by omega, h3⟩)⟩ | exact Or.inl ⟨rfl, Or.inr ⟨i, x, hki, by omega, hgi, (nbk_p ((hR.1 x hx).2.2.2.2.2 kq hk).2.2).mp (((hR.1 x hx).2.2.2.2.2 kq hk).1 ▸ Int32.not_le.mp c53)⟩⟩
    refine PW.sub (L2 := [(4, Value.int (nI (kq + 1))), (3, Value.int 0), (0, Value.ref (A 60 0)), (1, Value.int (nI kq)), (2, Value.ref fa)]) [0, 1, 2, 3, 4] rfl ?_
    exact loop (6 - (kq + 1)) (kq + 1) 0 (by omega) (by first | exact Or.inl ⟨rfl, Or.inl ((nbk_p (hle kq hk)).mp (Int32.not_le.mp c3))⟩ | (refine Or.inr ⟨rfl, fun z => ?_⟩; rcases z with z | ⟨a, y, h1, h2, -⟩; exact z (Classical.byContradiction (fun w9 => absurd ((nbk_p (hle kq hk)).mpr w9) (Int32.not_lt.mpr c3))); omega)) (by omega)
  · refine pw_iconst (pc2 := 7) (v := 1) dX10_isReached_6 rfl (by decide) ?_
    refine pw_goto (tgt := 11) dX10_isReached_7 (by decide) ?_
    refine pw_istore_n (pc2 := 12) (L2 := [(3, Value.int 1), (0, Value.ref (A 60 0)), (1, Value.int (nI kq)), (2, Value.ref fa)]) dX10_isReached_11 rfl rfl (by decide) rfl ?_
    refine pw_iload_n (pc2 := 13) dX10_isReached_12 rfl rfl 2 rfl ?_
    refine pw_iconst (pc2 := 14) (v := 1) dX10_isReached_13 rfl (by decide) ?_
    refine pw_iadd (pc2 := 15) dX10_isReached_14 rfl ?_
    refine pw_topE (nI_1 _) ?_
    refine pw_istore (pc2 := 17) (L2 := [(4, Value.int (nI (kq + 1))), (3, Value.int 1), (0, Value.ref (A 60 0)), (1, Value.int (nI kq)), (2, Value.ref fa)]) dX10_isReached_15 rfl (by decide) rfl ?_
    have loop : ∀ (k i : Nat) (ac : Int32) (hki : kq < i) (hac : ((ac = 1 ∧ rcP σ.1 gr g kq i) ∨ (ac = 0 ∧ ¬ rcP σ.1 gr g kq i))), i + k = 6 → PW G MX10_isReached d noA (E0 G (bR (rchd σ.1 gr g kq) h) noX) 0 0 17 [(4, Value.int (nI i)), (3, Value.int ac), (0, Value.ref (A 60 0)), (1, Value.int (nI kq)), (2, Value.ref fa)] [] h := by
      intro k
      induction k with
      | zero =>
        intro i ac hki hac hik
        have hi9 : i = 6 := by omega
        refine pw_iload (pc2 := 19) dX10_isReached_17 rfl 0 rfl ?_
        refine pw_bipush (pc2 := 21) (v := 6) dX10_isReached_19 rfl (by decide) ?_
        refine pw_icmp_ge (tgt := 68) (pc2 := 24) dX10_isReached_21 (by decide) rfl (fun _ => ?_) (fun c21 => by exact absurd (by first | (rw [hi9]; exact Int32.le_refl _) | exact fun q => absurd ((l6 (by omega)).mp q) (by omega)) c21)
        refine pw_iload_n (pc2 := 69) dX10_isReached_68 rfl rfl 1 rfl ?_
        have hb01 : b01 ac := by rcases hac with ⟨q, _⟩ | ⟨q, _⟩; exact Or.inr q; exact Or.inl q
        refine pw_iret dX10_isReached_69 rfl (nar_b2 hb01) ?_
        exact rcR hi9 hac
      | succ k ih =>
        intro i ac hki hac hik
        have hi9 : i < 6 := by omega
        refine pw_iload (pc2 := 19) dX10_isReached_17 rfl 0 rfl ?_
        refine pw_bipush (pc2 := 21) (v := 6) dX10_isReached_19 rfl (by decide) ?_
        refine pw_icmp_ge (tgt := 68) (pc2 := 24) dX10_isReached_21 (by decide) rfl (fun c21 => by exact absurd c21 (by first | (rw [hi9]; exact Int32.le_refl _) | exact fun q => absurd ((l6 (by omega)).mp q) (by omega))) (fun _ => ?_)
        refine pw_iload_n (pc2 := 25) dX10_isReached_24 rfl rfl 1 rfl ?_
        refine pw_if_ne (tgt := 56) (pc2 := 28) dX10_isReached_25 (by decide) rfl (fun c25 => ?_) (fun c25 => ?_)
        · refine pw_iconst (pc2 := 57) (v := 1) dX10_isReached_56 rfl (by decide) ?_
          refine pw_goto (tgt := 61) dX10_isReached_57 (by decide) ?_
          refine pw_istore_n (pc2 := 62) (L2 := [(3, Value.int 1), (4, Value.int (nI i)), (0, Value.ref (A 60 0)), (1, Value.int (nI kq)), (2, Value.ref fa)]) dX10_isReached_61 rfl rfl (by decide) rfl ?_
          refine pw_iinc (pc2 := 65) (v := nI (i + 1)) (L2 := [(4, Value.int (nI (i + 1))), (3, Value.int 1), (0, Value.ref (A 60 0)), (1, Value.int (nI kq)), (2, Value.ref fa)]) dX10_isReached_62 rfl 1 rfl (by show nI _ + 1 = nI _; exact nI_1 _) (by decide) rfl ?_
          refine pw_goto (tgt := 17) dX10_isReached_65 (by decide) ?_
          refine PW.sub (L2 := [(4, Value.int (nI (i + 1))), (3, Value.int 1), (0, Value.ref (A 60 0)), (1, Value.int (nI kq)), (2, Value.ref fa)]) [0, 1, 2, 3, 4] rfl ?_
          have hY : rcP σ.1 gr g kq i := by rcases hac with ⟨_, q⟩ | ⟨q, _⟩; exact q; exact absurd q c25
          refine ih (i + 1) 1 (by omega) ?_ (by omega)
          first | exact Or.inl ⟨rfl, hY.imp id (fun ⟨a, x, h1, h2, h3⟩ => ⟨a, x, h1, by omega, h3⟩)⟩ | exact Or.inl ⟨rfl, Or.inr ⟨i, x, hki, by omega, hgi, (nbk_p ((hR.1 x hx).2.2.2.2.2 kq hk).2.2).mp (((hR.1 x hx).2.2.2.2.2 kq hk).1 ▸ Int32.not_le.mp c53)⟩⟩
        · refine pw_aload_n (pc2 := 29) dX10_isReached_28 rfl rfl 2 rfl (by first | exact rf_ref _ | exact rf_opt _ | exact rf_nul) ?_
          refine pw_get (pc2 := 32) kX10 (k := 36) (by decide) rfl fl_X10_106 H.c60 rfl dX10_isReached_29 rfl ?_
          refine pw_iload (pc2 := 34) dX10_isReached_32 rfl 0 rfl ?_
          refine pw_ialdN (pc2 := 35) H.c90 (i := i) (by first | assumption | omega) (by omega) dX10_isReached_34 rfl ?_
          refine pw_topE (hC i hki hi9) ?_
          cases hgi : g i with
          | none =>
            refine pw_iconst (pc2 := 36) (v := (-1)) dX10_isReached_35 rfl (by decide) ?_
            refine pw_icmp_eq (tgt := 60) (pc2 := 39) dX10_isReached_36 (by decide) rfl (fun _ => ?_) (fun c36 => by exact absurd (rfl) c36)
            refine pw_iconst (pc2 := 61) (v := 0) dX10_isReached_60 rfl (by decide) ?_
            refine pw_istore_n (pc2 := 62) (L2 := [(3, Value.int 0), (4, Value.int (nI i)), (0, Value.ref (A 60 0)), (1, Value.int (nI kq)), (2, Value.ref fa)]) dX10_isReached_61 rfl rfl (by decide) rfl ?_
            refine pw_iinc (pc2 := 65) (v := nI (i + 1)) (L2 := [(4, Value.int (nI (i + 1))), (3, Value.int 0), (0, Value.ref (A 60 0)), (1, Value.int (nI kq)), (2, Value.ref fa)]) dX10_isReached_62 rfl 1 rfl (by show nI _ + 1 = nI _; exact nI_1 _) (by decide) rfl ?_
            refine pw_goto (tgt := 17) dX10_isReached_65 (by decide) ?_
            refine PW.sub (L2 := [(4, Value.int (nI (i + 1))), (3, Value.int 0), (0, Value.ref (A 60 0)), (1, Value.int (nI kq)), (2, Value.ref fa)]) [0, 1, 2, 3, 4] rfl ?_
            refine ih (i + 1) 0 (by omega) ?_ (by omega)
            have hN : ¬ rcP σ.1 gr g kq i := by rcases hac with ⟨q, _⟩ | ⟨_, q⟩; exact absurd (c25 ▸ q) (by decide); exact q
            refine Or.inr ⟨rfl, fun z => ?_⟩
            rcases z with z | ⟨a, y, h1, h2, h3, h4⟩
            · exact hN (Or.inl z)
            · by_cases ea : a = i
              · subst ea
                rw [hgi] at h3
                first | cases h3; done | (cases h3; exact absurd ((nbk_p ((hR.1 x hx).2.2.2.2.2 kq hk).2.2).mpr h4) (Int32.not_lt.mpr (((hR.1 x hx).2.2.2.2.2 kq hk).1 ▸ c53)))
              · exact hN (Or.inr ⟨a, y, h1, by omega, h3, h4⟩)
          | some x =>
            have hx := hgb i x hgi
            have hx20 : x < 20 := by omega
            refine pw_iconst (pc2 := 36) (v := (-1)) dX10_isReached_35 rfl (by decide) ?_
            refine pw_icmp_eq (tgt := 60) (pc2 := 39) dX10_isReached_36 (by decide) rfl (fun c36 => by exact absurd c36 (nIne x (by omega))) (fun _ => ?_)
            refine pw_aload_n (pc2 := 40) dX10_isReached_39 rfl rfl 2 rfl (by first | exact rf_ref _ | exact rf_opt _ | exact rf_nul) ?_
            refine pw_get (pc2 := 43) kX10 (k := 20) (by decide) rfl fl_X10_70 H.c60 rfl dX10_isReached_40 rfl ?_
            refine pw_aload_n (pc2 := 44) dX10_isReached_43 rfl rfl 2 rfl (by first | exact rf_ref _ | exact rf_opt _ | exact rf_nul) ?_
            refine pw_get (pc2 := 47) kX10 (k := 36) (by decide) rfl fl_X10_106 H.c60 rfl dX10_isReached_44 rfl ?_
            refine pw_iload (pc2 := 49) dX10_isReached_47 rfl 0 rfl ?_
            refine pw_ialdN (pc2 := 50) H.c90 (i := i) (by first | assumption | omega) (by omega) dX10_isReached_49 rfl ?_
            refine pw_topE ((hC i hki hi9).trans (by rw [hgi]; rfl : enc (g i) = nI x)) ?_
            refine pw_aaldN (pc2 := 51) 6 rfl rfl H.c80 (i := x) (by first | assumption | omega) (by omega) dX10_isReached_50 rfl ?_
            refine pw_topV (rowv (by first | assumption | omega)) ?_
            refine pw_iload_n (pc2 := 52) dX10_isReached_51 rfl rfl 3 rfl ?_
            refine pw_ialdN (pc2 := 53) (H.c97 hx20) (i := kq) (by first | assumption | omega) (by omega) dX10_isReached_52 rfl ?_
            refine pw_if_le (tgt := 60) (pc2 := 56) dX10_isReached_53 (by decide) rfl (fun c53 => ?_) (fun c53 => ?_)
            · refine pw_iconst (pc2 := 61) (v := 0) dX10_isReached_60 rfl (by decide) ?_
              refine pw_istore_n (pc2 := 62) (L2 := [(3, Value.int 0), (4, Value.int (nI i)), (0, Value.ref (A 60 0)), (1, Value.int (nI kq)), (2, Value.ref fa)]) dX10_isReached_61 rfl rfl (by decide) rfl ?_
              refine pw_iinc (pc2 := 65) (v := nI (i + 1)) (L2 := [(4, Value.int (nI (i + 1))), (3, Value.int 0), (0, Value.ref (A 60 0)), (1, Value.int (nI kq)), (2, Value.ref fa)]) dX10_isReached_62 rfl 1 rfl (by show nI _ + 1 = nI _; exact nI_1 _) (by decide) rfl ?_
              refine pw_goto (tgt := 17) dX10_isReached_65 (by decide) ?_
              refine PW.sub (L2 := [(4, Value.int (nI (i + 1))), (3, Value.int 0), (0, Value.ref (A 60 0)), (1, Value.int (nI kq)), (2, Value.ref fa)]) [0, 1, 2, 3, 4] rfl ?_
              refine ih (i + 1) 0 (by omega) ?_ (by omega)
              have hN : ¬ rcP σ.1 gr g kq i := by rcases hac with ⟨q, _⟩ | ⟨_, q⟩; exact absurd (c25 ▸ q) (by decide); exact q
              refine Or.inr ⟨rfl, fun z => ?_⟩
              rcases z with z | ⟨a, y, h1, h2, h3, h4⟩
              · exact hN (Or.inl z)
              · by_cases ea : a = i
                · subst ea
                  rw [hgi] at h3
                  first | cases h3; done | (cases h3; exact absurd ((nbk_p ((hR.1 x hx).2.2.2.2.2 kq hk).2.2).mpr h4) (Int32.not_lt.mpr (((hR.1 x hx).2.2.2.2.2 kq hk).1 ▸ c53)))
                · exact hN (Or.inr ⟨a, y, h1, by omega, h3, h4⟩)
            · refine pw_iconst (pc2 := 57) (v := 1) dX10_isReached_56 rfl (by decide) ?_
              refine pw_goto (tgt := 61) dX10_isReached_57 (by decide) ?_
              refine pw_istore_n (pc2 := 62) (L2 := [(3, Value.int 1), (4, Value.int (nI i)), (0, Value.ref (A 60 0)), (1, Value.int (nI kq)), (2, Value.ref fa)]) dX10_isReached_61 rfl rfl (by decide) rfl ?_
              refine pw_iinc (pc2 := 65) (v := nI (i + 1)) (L2 := [(4, Value.int (nI (i + 1))), (3, Value.int 1), (0, Value.ref (A 60 0)), (1, Value.int (nI kq)), (2, Value.ref fa)]) dX10_isReached_62 rfl 1 rfl (by show nI _ + 1 = nI _; exact nI_1 _) (by decide) rfl ?_
              refine pw_goto (tgt := 17) dX10_isReached_65 (by decide) ?_
              refine PW.sub (L2 := [(4, Value.int (nI (i + 1))), (3, Value.int 1), (0, Value.ref (A 60 0)), (1, Value.int (nI kq)), (2, Value.ref fa)]) [0, 1, 2, 3, 4] rfl ?_
              refine ih (i + 1) 1 (by omega) ?_ (by omega)
              first | exact Or.inl ⟨rfl, hY.imp id (fun ⟨a, x, h1, h2, h3⟩ => ⟨a, x, h1, by omega, h3⟩)⟩ | exact Or.inl ⟨rfl, Or.inr ⟨i, x, hki, by omega, hgi, (nbk_p ((hR.1 x hx).2.2.2.2.2 kq hk).2.2).mp (((hR.1 x hx).2.2.2.2.2 kq hk).1 ▸ Int32.not_le.mp c53)⟩⟩
    refine PW.sub (L2 := [(4, Value.int (nI (kq + 1))), (3, Value.int 1), (0, Value.ref (A 60 0)), (1, Value.int (nI kq)), (2, Value.ref fa)]) [0, 1, 2, 3, 4] rfl ?_
    exact loop (6 - (kq + 1)) (kq + 1) 1 (by omega) (by first | exact Or.inl ⟨rfl, Or.inl ((nbk_p (hle kq hk)).mp (Int32.not_le.mp c3))⟩ | (refine Or.inr ⟨rfl, fun z => ?_⟩; rcases z with z | ⟨a, y, h1, h2, -⟩; exact z (Classical.byContradiction (fun w9 => absurd ((nbk_p (hle kq hk)).mpr w9) (Int32.not_lt.mpr c3))); omega)) (by omega)
