/-! one step of the law: publishing, and the writes over releases -/
theorem srS_61 {σ : sT} {r p : Nat} {f : Nat → Int32} : srS (setI σ 61 r f) p = srS σ p := by
  have i23 : (setI σ 61 r f).1 23 = σ.1 23 := funext fun _ => setI_n (Or.inl (by decide))
  have i24 : (setI σ 61 r f).1 24 = σ.1 24 := funext fun _ => setI_n (Or.inl (by decide))
  have i40 : (setI σ 61 r f).1 40 = σ.1 40 := funext fun _ => setI_n (Or.inl (by decide))
  have i42 : (setI σ 61 r f).1 42 = σ.1 42 := funext fun _ => setI_n (Or.inl (by decide))
  have i43 : (setI σ 61 r f).1 43 = σ.1 43 := funext fun _ => setI_n (Or.inl (by decide))
  unfold srS
  rw [i23, i24]
  refine srch_cg p zN (fun j _ => ⟨rfl, fun i _ => ⟨rfl, ?_⟩⟩) (fun a x h => by cases h)
  unfold SQ
  rw [i40, i42, i43]
  exact ⟨rfl, rfl, rfl, rfl⟩
/-- the new release's row is put in place -/
theorem x_row {G : hG} {h h2 : hp} {A : aT} {σ : sT} {ofr : Nat → Nat} {N n q p : Nat} {v : Int32} {f : Nat → Int32} (K9 : W9 G h A σ) (J9 : J σ ofr N) (D9 : JD σ ofr n) (hn : n < 20) (en : nrl σ = n + 1) (q0 : h q = none) (q1 : q ≠ G.2.2) (hq : h2 q = some (aI 3 f)) (h60 : h2 (A 60 0) = some (aR (.array .int) 20 (va_up (fun j => if j < 20 then some (A 61 j) else none) n (some q)))) (ho : ∀ x, x ≠ q → x ≠ A 60 0 → h2 x = h x) (f0 : f 0 = nI p) (f1 : f 1 = v) (f2 : f 2 = 0) (o1 : ofr n = p) (o2 : σ.1 40 n 0 = v) (o3 : σ.1 40 n 2 = 0) {g : Nat → Option Nat} (o4 : srS σ p = some g) (o5 : σ.2.2 45 n = g) : ∃ A2 σ2, A2 0 0 = A 0 0 ∧ A2 60 0 = A 60 0 ∧ W9 G h2 A2 σ2 ∧ J σ2 ofr N ∧ JD σ2 ofr (nrl σ2) ∧ nrl σ2 = n + 1 ∧ npk σ2 = npk σ ∧ σ2.1 40 n 0 = v ∧ srS σ2 p = some g ∧ σ2.2.2 45 n = g := by
  refine ⟨rwA A n q, setI σ 61 n f, if_neg (by omega), if_neg (by omega), K9.row hn q0 q1 hq h60 ho, J_61 J9, ?_, en, rfl, (congrArg (fun z => z 0) (setI_n (Or.inl (by decide)))).trans o2, srS_61.trans o4, o5⟩
  rw [show nrl (setI σ 61 n f) = n + 1 from en]
  exact JD_new D9 (by rw [f0, o1]) (by rw [f1, o2]) (by rw [f2, o3])
set_option maxHeartbeats 8000000 in
set_option maxRecDepth 100000 in
theorem lw_q {G : hG} {sc Ln d : Nat} {xs : Nat → Int32} (hd : 20 ≤ d) {kc ks : Nat} {h : hp} {A : aT} {σ : sT} {ofr : Nat → Nat} {N : Nat} (HW : WS G h A σ) (HJ : J σ ofr N) {c m r0 : Nat} {n iw x15 x16 : Int32} {bef : Int64} (hr : r0 < nrl σ) (hs : srS σ (ofr r0) = some (σ.2.2 45 r0)) (kk : ∀ h2, WS G h2 A σ → PW G ML_law d (psX sc Ln xs) EL (kc) (ks) 583 [(0, Value.ref sc), (1, Value.ref (A 0 0)), (2, Value.ref (A 60 0)), (3, Value.int n), (4, Value.int (nI c)), (5, Value.int (nI m)), (8, Value.int (nI (npk σ))), (9, Value.int (nI (ofr r0))), (10, Value.int iw), (11, Value.long bef), (13, Value.int (σ.1 40 r0 0)), (15, Value.int x15), (16, Value.int x16)] [] h2) : PW G ML_law d (psX sc Ln xs) EL (kc + 60) (ks + 360) 540 [(0, Value.ref sc), (1, Value.ref (A 0 0)), (2, Value.ref (A 60 0)), (3, Value.int n), (4, Value.int (nI c)), (5, Value.int (nI m)), (8, Value.int (nI (npk σ))), (9, Value.int (nI (ofr r0))), (10, Value.int iw), (11, Value.long bef), (13, Value.int (σ.1 40 r0 0)), (15, Value.int x15), (16, Value.int x16)] [] h := by
  have np6 : npk σ ≤ 6 := HW.n6
  have nr20 : nrl σ ≤ 20 := HW.n20
  have nt8 : nts σ ≤ 8 := HW.n8
  refine pw_iconst (pc2 := 541) (v := 0) dL_law_540 rfl (by decide) ?_
  refine pw_istore (pc2 := 543) (L2 := [(17, Value.int 0), (0, Value.ref sc), (1, Value.ref (A 0 0)), (2, Value.ref (A 60 0)), (3, Value.int n), (4, Value.int (nI c)), (5, Value.int (nI m)), (8, Value.int (nI (npk σ))), (9, Value.int (nI (ofr r0))), (10, Value.int iw), (11, Value.long bef), (13, Value.int (σ.1 40 r0 0)), (15, Value.int x15), (16, Value.int x16)]) dL_law_541 rfl (by decide) rfl ?_
  have lpa : ∀ (ka q : Nat) (ha : hp), q + ka = npk σ → WS G ha A σ → PW G ML_law d (psX sc Ln xs) EL (kc + ka * 6 + 0) (ks + ka * 36 + 0) 543 [(0, Value.ref sc), (1, Value.ref (A 0 0)), (2, Value.ref (A 60 0)), (3, Value.int n), (4, Value.int (nI c)), (5, Value.int (nI m)), (8, Value.int (nI (npk σ))), (9, Value.int (nI (ofr r0))), (10, Value.int iw), (11, Value.long bef), (13, Value.int (σ.1 40 r0 0)), (15, Value.int x15), (16, Value.int x16), (17, Value.int (nI q))] [] ha := by
    intro ka
    induction ka with
    | zero =>
      intro q ha hika Wa
      have hia : npk σ = q := by omega
      subst hia
      refine PW.widen (kc' := kc + 0) (ks' := ks + 0) (by omega) (by omega) ?_
      refine pw_iload (pc2 := 545) dL_law_543 rfl 13 rfl ?_
      refine pw_iload (pc2 := 547) dL_law_545 rfl 6 rfl ?_
      refine pw_icmp_ge (tgt := 583) (pc2 := 550) dL_law_547 (by decide) rfl (fun _ => ?_) (fun c547 => by exact absurd ((nI_leI (a := npk σ) (b := npk σ) (by omega) (by omega)).mpr (by omega)) c547)
      refine PW.sub (L2 := [(0, Value.ref sc), (1, Value.ref (A 0 0)), (2, Value.ref (A 60 0)), (3, Value.int n), (4, Value.int (nI c)), (5, Value.int (nI m)), (8, Value.int (nI (npk σ))), (9, Value.int (nI (ofr r0))), (10, Value.int iw), (11, Value.long bef), (13, Value.int (σ.1 40 r0 0)), (15, Value.int x15), (16, Value.int x16)]) [0, 1, 2, 3, 4, 5, 6, 7, 8, 9, 10, 11, 12] rfl ?_
      refine PW.widen (kc' := kc) (ks' := ks) (by omega) (by omega) ?_
      exact kk _ Wa
    | succ ka iha =>
      intro q ha hika Wa
      have hia : q < npk σ := by omega
      refine PW.widen (kc' := kc + ka * 6 + 6) (ks' := ks + ka * 36 + 36) (by omega) (by omega) ?_
      refine pw_iload (pc2 := 545) dL_law_543 rfl 13 rfl ?_
      refine pw_iload (pc2 := 547) dL_law_545 rfl 6 rfl ?_
      refine pw_icmp_ge (tgt := 583) (pc2 := 550) dL_law_547 (by decide) rfl (fun c547 => by exact absurd c547 (fun z => by have := (nI_leI (a := npk σ) (b := q) (by omega) (by omega)).mp z; omega)) (fun _ => ?_)
      refine pw_aload_n (pc2 := 551) dL_law_550 rfl rfl 1 rfl (by first | exact rf_ref _ | exact rf_opt _ | exact rf_nul) ?_
      refine pw_iload (pc2 := 553) dL_law_551 rfl 7 rfl ?_
      refine pw_iload (pc2 := 555) dL_law_553 rfl 10 rfl ?_
      refine pw_bipush (pc2 := 557) (v := 10) dL_law_555 rfl (by decide) ?_
      refine pw_iload (pc2 := 559) dL_law_557 rfl 13 rfl ?_
      refine pw_iadd (pc2 := 560) dL_law_559 rfl ?_
      refine pw_topE (y := nI (10 + q)) (nIa 10 q) ?_
      refine PW.widen (kc' := kc + ka * 6 + 3 + 3) (ks' := ks + ka * 36 + 18 + 18) (by omega) (by omega) ?_
      refine pw_lookS (kc := kc + ka * 6 + 3) (ks := ks + ka * 36 + 18) (pc2 := 563) (k_relL Wa HJ hr (by omega)) cs_L_152 rfl dL_law_560 rfl (by omega) rfl (by first | decide | simp [cat_rf, Value.category]) (fun h1 W1 => ?_)
      refine pw_aload_n (pc2 := 564) dL_law_563 rfl rfl 1 rfl (by first | exact rf_ref _ | exact rf_opt _ | exact rf_nul) ?_
      refine pw_iload (pc2 := 566) dL_law_564 rfl 7 rfl ?_
      refine pw_iload (pc2 := 568) dL_law_566 rfl 13 rfl ?_
      refine pw_iconst (pc2 := 569) (v := 0) dL_law_568 rfl (by decide) ?_
      refine PW.widen (kc' := kc + ka * 6 + 0 + 3) (ks' := ks + ka * 36 + 0 + 18) (by omega) (by omega) ?_
      refine pw_lookS (kc := kc + ka * 6 + 0) (ks := ks + ka * 36 + 0) (pc2 := 572) (k_cho0 W1 (HJ.2.2.1.1 r0 hr) (by omega)) cs_L_149 rfl dL_law_569 rfl (by omega) rfl (by first | decide | simp [cat_rf, Value.category]) (fun h2 W2 => ?_)
      refine pw_icmp_eq (tgt := 577) (pc2 := 575) dL_law_572 (by decide) rfl (fun _ => ?_) (fun c572 => by exact absurd ((aCho_s hs).symm) c572)
      refine pw_iinc (pc2 := 580) (v := nI (q + 1)) (L2 := [(17, Value.int (nI (q + 1))), (0, Value.ref sc), (1, Value.ref (A 0 0)), (2, Value.ref (A 60 0)), (3, Value.int n), (4, Value.int (nI c)), (5, Value.int (nI m)), (8, Value.int (nI (npk σ))), (9, Value.int (nI (ofr r0))), (10, Value.int iw), (11, Value.long bef), (13, Value.int (σ.1 40 r0 0)), (15, Value.int x15), (16, Value.int x16)]) dL_law_577 rfl 13 rfl (by show nI _ + 1 = nI _; exact nI_1 _) (by decide) rfl ?_
      refine pw_goto (tgt := 543) dL_law_580 (by decide) ?_
      refine PW.sub (L2 := [(0, Value.ref sc), (1, Value.ref (A 0 0)), (2, Value.ref (A 60 0)), (3, Value.int n), (4, Value.int (nI c)), (5, Value.int (nI m)), (8, Value.int (nI (npk σ))), (9, Value.int (nI (ofr r0))), (10, Value.int iw), (11, Value.long bef), (13, Value.int (σ.1 40 r0 0)), (15, Value.int x15), (16, Value.int x16), (17, Value.int (nI (q + 1)))]) [1, 2, 3, 4, 5, 6, 7, 8, 9, 10, 11, 12, 13, 0] rfl ?_
      refine PW.widen (kc' := kc + ka * 6 + 0) (ks' := ks + ka * 36 + 0) (by omega) (by omega) ?_
      exact iha (q + 1) h2 (by omega) W2
  refine PW.sub (L2 := [(0, Value.ref sc), (1, Value.ref (A 0 0)), (2, Value.ref (A 60 0)), (3, Value.int n), (4, Value.int (nI c)), (5, Value.int (nI m)), (8, Value.int (nI (npk σ))), (9, Value.int (nI (ofr r0))), (10, Value.int iw), (11, Value.long bef), (13, Value.int (σ.1 40 r0 0)), (15, Value.int x15), (16, Value.int x16), (17, Value.int 0)]) [1, 2, 3, 4, 5, 6, 7, 8, 9, 10, 11, 12, 13, 0] rfl ?_
  refine PW.widen (kc' := kc + (npk σ - 0) * 6 + 0) (ks' := ks + (npk σ - 0) * 36 + 0) (by omega) (by omega) ?_
  exact lpa (npk σ - 0) 0 h (by omega) HW
