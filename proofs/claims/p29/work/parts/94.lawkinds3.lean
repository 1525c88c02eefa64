/-! one step of the law: publishing; yanking and locking anew -/
set_option maxHeartbeats 8000000 in
set_option maxRecDepth 100000 in
theorem lw_k476 {G : hG} {sc Ln d : Nat} {xs : Nat → Int32} (hd : 20 ≤ d) {kc ks : Nat} {h : hp} {A : aT} {σ : sT} {ofr : Nat → Nat} {N : Nat} (HW : WS G h A σ) (HJ : J σ ofr N) (HD : JD σ ofr (nrl σ)) {c m w K : Nat} {nm iw kd : Int32} {bef : Int64} (hK0 : 0 < K) (hK20 : K ≤ 20) (hKn : 0 < npk σ → K = npk σ) (hK : KK G d sc Ln xs A σ N c m iw bef kc ks) : PW G ML_law d (psX sc Ln xs) EL (kc + 150) (ks + 900) 476 [(0, Value.ref sc), (1, Value.ref (A 0 0)), (2, Value.ref (A 60 0)), (3, Value.int (nI (nrl σ))), (4, Value.int (nI c)), (5, Value.int (nI m)), (7, Value.int (nI w)), (8, Value.int (nI K)), (9, Value.int nm), (10, Value.int iw), (11, Value.long bef), (13, Value.int 0), (14, Value.int kd)] [] h := by
  have np6 : npk σ ≤ 6 := HW.n6
  have nr20 : nrl σ ≤ 20 := HW.n20
  have nt8 : nts σ ≤ 8 := HW.n8
  by_cases hin : inR nm (npk σ)
  · skip
    obtain ⟨p, hp, rfl⟩ := inR_ex (by omega) hin
    refine pw_aload_n (pc2 := 477) dL_law_476 rfl rfl 1 rfl (by first | exact rf_ref _ | exact rf_opt _ | exact rf_nul) ?_
    refine pw_iload (pc2 := 479) dL_law_477 rfl 8 rfl ?_
    refine pw_iconst (pc2 := 480) (v := 4) dL_law_479 rfl (by decide) ?_
    refine PW.widen (kc' := kc + 149 + 1) (ks' := ks + 894 + 6) (by omega) (by omega) ?_
    refine pw_lookS (kc := kc + 149) (ks := ks + 894) (pc2 := 483) (k_of4 HW hp) cs_L_109 rfl dL_law_480 rfl (by omega) rfl (by first | decide | simp [cat_rf, Value.category]) (fun h1 W1 => ?_)
    refine pw_istore (pc2 := 485) (L2 := [(15, Value.int (vAh σ p)), (0, Value.ref sc), (1, Value.ref (A 0 0)), (2, Value.ref (A 60 0)), (3, Value.int (nI (nrl σ))), (4, Value.int (nI c)), (5, Value.int (nI m)), (7, Value.int (nI w)), (8, Value.int (nI K)), (9, Value.int (nI p)), (10, Value.int iw), (11, Value.long bef), (13, Value.int 0), (14, Value.int kd)]) dL_law_483 rfl (by decide) rfl ?_
    by_cases hc : pubC σ p
    · skip
      have ha : aCan σ p = 1 := aCan1 hc
      refine pw_aload_n (pc2 := 486) dL_law_485 rfl rfl 2 rfl (by first | exact rf_ref _ | exact rf_opt _ | exact rf_nul) ?_
      refine pw_iload (pc2 := 488) dL_law_486 rfl 9 rfl ?_
      refine pw_iconst (pc2 := 489) (v := 3) dL_law_488 rfl (by decide) ?_
      refine PW.widen (kc' := kc + 148 + 1) (ks' := ks + 888 + 6) (by omega) (by omega) ?_
      refine pw_lookS (kc := kc + 148) (ks := ks + 888) (pc2 := 492) (k_of3 W1 hp) cs_L_109 rfl dL_law_489 rfl (by omega) rfl (by first | decide | simp [cat_rf, Value.category]) (fun h2 W2 => ?_)
      refine pw_iconst (pc2 := 493) (v := 1) dL_law_492 rfl (by decide) ?_
      refine pw_icmp_ne (tgt := 500) (pc2 := 496) dL_law_493 (by decide) rfl (fun c493 => by exact absurd (ha) c493) (fun _ => ?_)
      refine pw_iconst (pc2 := 497) (v := 1) dL_law_496 rfl (by decide) ?_
      refine pw_goto (tgt := 501) dL_law_497 (by decide) ?_
      refine pw_istore (pc2 := 503) (L2 := [(16, Value.int 1), (15, Value.int (vAh σ p)), (0, Value.ref sc), (1, Value.ref (A 0 0)), (2, Value.ref (A 60 0)), (3, Value.int (nI (nrl σ))), (4, Value.int (nI c)), (5, Value.int (nI m)), (7, Value.int (nI w)), (8, Value.int (nI K)), (9, Value.int (nI p)), (10, Value.int iw), (11, Value.long bef), (13, Value.int 0), (14, Value.int kd)]) dL_law_501 rfl (by decide) rfl ?_
      refine pw_aload_n (pc2 := 504) dL_law_503 rfl rfl 3 rfl (by first | exact rf_ref _ | exact rf_opt _ | exact rf_nul) ?_
      refine pw_iload (pc2 := 506) dL_law_504 rfl 10 rfl ?_
      refine pw_iconst (pc2 := 507) (v := 5) dL_law_506 rfl (by decide) ?_
      refine PW.widen (kc' := kc + 129 + 9) (ks' := ks + 774 + 112) (by omega) (by omega) ?_
      refine pw_callS (kc := kc + 129) (ks := ks + 774) (pc2 := 510) (x_publ W2 HJ HD hp) cs_L_109 rfl dL_law_507 rfl (by omega) rfl (by first | decide | simp [cat_rf, Value.category]) (fun r9 h9 q9 => ?_) (fun Y h9 q9 => q9.elim)
      obtain ⟨v9, rfl, ⟨hv, A', σ', ofr', ⟨e0, e60⟩, K9, J9, k0, k1, k2, k3, k4, k5, k6, k7, k8, g, k9, k10⟩ | ⟨hv, Wf, hF⟩⟩ := q9
      · rw [← e0, ← e60]
        refine pw_istore (pc2 := 512) (L2 := [(13, Value.int v9), (16, Value.int 1), (15, Value.int (vAh σ p)), (0, Value.ref sc), (1, Value.ref (A' 0 0)), (2, Value.ref (A' 60 0)), (3, Value.int (nI (nrl σ))), (4, Value.int (nI c)), (5, Value.int (nI m)), (7, Value.int (nI w)), (8, Value.int (nI K)), (9, Value.int (nI p)), (10, Value.int iw), (11, Value.long bef), (14, Value.int kd)]) dL_law_510 rfl (by decide) rfl ?_
        refine pw_iload (pc2 := 514) dL_law_512 rfl 0 rfl ?_
        refine pw_if_lt (tgt := 583) (pc2 := 517) dL_law_514 (by decide) rfl (fun c514 => by exact absurd c514 (hv)) (fun _ => ?_)
        refine pw_aload_n (pc2 := 518) dL_law_517 rfl rfl 5 rfl (by first | exact rf_ref _ | exact rf_opt _ | exact rf_nul) ?_
        refine pw_iload_n (pc2 := 519) dL_law_518 rfl rfl 6 rfl ?_
        refine pw_iconst (pc2 := 520) (v := 3) dL_law_519 rfl (by decide) ?_
        refine PW.widen (kc' := kc + 119 + 1) (ks' := ks + 714 + 3) (by omega) (by omega) ?_
        refine pw_newarr (kc := kc + 119) (ks := ks + 714) (pc2 := 522) (atype := .int) (a0 := (3, .inl (fun _ => 0))) 0 rfl rfl wa_95 (fun _ => rfl) (by decide) (by decide) (by decide) dL_law_520 rfl (fun q q0 q1 => ?_)
        have qn : A' 60 0 ≠ q := ne_nw K9.c60 q0
        obtain ⟨j0, ej0⟩ : ∃ z : Nat → Option hE, z = va_up h9 q (some (aI 3 (fun _ => 0))) := ⟨_, rfl⟩
        refine PW.heap (h' := j0) ej0.symm ?_
        have cq0 : j0 q = some (aI 3 (fun _ => 0)) := by rw [ej0]; exact va_up_self _ _ _
        have oq0 : ∀ x, x ≠ q → j0 x = h9 x := fun x hx => by rw [ej0]; exact va_up_ne _ _ hx
        refine pw_dup (pc2 := 523) dL_law_522 rfl (by first | rfl | exact cat_rf _) ?_
        refine pw_iconst (pc2 := 524) (v := 0) dL_law_523 rfl (by decide) ?_
        refine pw_iload (pc2 := 526) dL_law_524 rfl 11 rfl ?_
        refine pw_iastN (pc2 := 527) cq0 (i := 0) (by first | assumption | omega) (by omega) dL_law_526 rfl ?_
        obtain ⟨j1, ej1⟩ : ∃ z : Nat → Option hE, z = va_up j0 q (some (aI 3 (upd (fun _ => 0) 0 (nI p)))) := ⟨_, rfl⟩
        refine PW.heap (h' := j1) ej1.symm ?_
        have cq1 : j1 q = some (aI 3 (upd (fun _ => 0) 0 (nI p))) := by rw [ej1]; exact va_up_self _ _ _
        have oq1 : ∀ x, x ≠ q → j1 x = h9 x := fun x hx => by rw [ej1]; exact (va_up_ne _ _ hx).trans (oq0 x hx)
        refine pw_dup (pc2 := 528) dL_law_527 rfl (by first | rfl | exact cat_rf _) ?_
        refine pw_iconst (pc2 := 529) (v := 1) dL_law_528 rfl (by decide) ?_
        refine pw_iload (pc2 := 531) dL_law_529 rfl 0 rfl ?_
        refine pw_iastN (pc2 := 532) cq1 (i := 1) (by first | assumption | omega) (by omega) dL_law_531 rfl ?_
        obtain ⟨j2, ej2⟩ : ∃ z : Nat → Option hE, z = va_up j1 q (some (aI 3 (upd (upd (fun _ => 0) 0 (nI p)) 1 v9))) := ⟨_, rfl⟩
        refine PW.heap (h' := j2) ej2.symm ?_
        have cq2 : j2 q = some (aI 3 (upd (upd (fun _ => 0) 0 (nI p)) 1 v9)) := by rw [ej2]; exact va_up_self _ _ _
        have oq2 : ∀ x, x ≠ q → j2 x = h9 x := fun x hx => by rw [ej2]; exact (va_up_ne _ _ hx).trans (oq1 x hx)
        refine pw_dup (pc2 := 533) dL_law_532 rfl (by first | rfl | exact cat_rf _) ?_
        refine pw_iconst (pc2 := 534) (v := 2) dL_law_533 rfl (by decide) ?_
        refine pw_iconst (pc2 := 535) (v := 0) dL_law_534 rfl (by decide) ?_
        refine pw_iastN (pc2 := 536) cq2 (i := 2) (by first | assumption | omega) (by omega) dL_law_535 rfl ?_
        obtain ⟨j3, ej3⟩ : ∃ z : Nat → Option hE, z = va_up j2 q (some (aI 3 (upd (upd (upd (fun _ => 0) 0 (nI p)) 1 v9) 2 0))) := ⟨_, rfl⟩
        refine PW.heap (h' := j3) ej3.symm ?_
        have cq3 : j3 q = some (aI 3 (upd (upd (upd (fun _ => 0) 0 (nI p)) 1 v9) 2 0)) := by rw [ej3]; exact va_up_self _ _ _
        have oq3 : ∀ x, x ≠ q → j3 x = h9 x := fun x hx => by rw [ej3]; exact (va_up_ne _ _ hx).trans (oq2 x hx)
        refine pw_aastA (pc2 := 537) ((oq3 _ qn).trans K9.c60) cq3 (by decide) (vp_in_nI k2 (by omega)) dL_law_536 rfl ?_
        obtain ⟨j4, ej4⟩ : ∃ z : Nat → Option hE, z = va_up j3 (A' 60 0) (some (aR (.array .int) 20 (va_up (fun j => if j < 20 then some (A' 61 j) else none) (Int32.toNatClampNeg (nI (nrl σ))) (some q)))) := ⟨_, rfl⟩
        refine PW.heap (h' := j4) ej4.symm ?_
        rw [nI_clamp (by omega)] at ej4
        obtain ⟨A2, σ2, a0, a60, K2, J2, D2, n2, np2, v2, s2, l2⟩ := x_row (h2 := j4) (q := q) (p := p) (v := v9) (f := (upd (upd (upd (fun _ => 0) 0 (nI p)) 1 v9) 2 0)) K9 J9 k0 k2 k1 q0 q1 (by rw [ej4]; exact (va_up_ne _ _ qn.symm).trans cq3) (by rw [ej4]; exact va_up_self _ _ _) (fun x hx hy => by rw [ej4]; exact (va_up_ne _ _ hy).trans (oq3 x hx)) rfl rfl rfl k6 k7 k8 k9 k10
        rw [← a0, ← a60]
        refine pw_iinc (pc2 := 540) (v := nI ((nrl σ) + 1)) (L2 := [(3, Value.int (nI ((nrl σ) + 1))), (13, Value.int v9), (16, Value.int 1), (15, Value.int (vAh σ p)), (0, Value.ref sc), (1, Value.ref (A2 0 0)), (2, Value.ref (A2 60 0)), (4, Value.int (nI c)), (5, Value.int (nI m)), (7, Value.int (nI w)), (8, Value.int (nI K)), (9, Value.int (nI p)), (10, Value.int iw), (11, Value.long bef), (14, Value.int kd)]) dL_law_537 rfl 6 rfl (by show nI _ + 1 = nI _; exact nI_1 _) (by decide) rfl ?_
        refine PW.sub (L2 := [(0, Value.ref sc), (1, Value.ref (A2 0 0)), (2, Value.ref (A2 60 0)), (3, Value.int (nI ((nrl σ) + 1))), (4, Value.int (nI c)), (5, Value.int (nI m)), (8, Value.int (nI K)), (9, Value.int (nI p)), (10, Value.int iw), (11, Value.long bef), (13, Value.int v9), (15, Value.int (vAh σ p)), (16, Value.int 1)]) [4, 5, 6, 0, 7, 8, 10, 11, 12, 13, 1, 3, 2] rfl ?_
        obtain rfl : K = npk σ2 := by rw [np2, k3]; exact hKn (by omega)
        subst k6 l2 v2
        refine PW.widen (kc' := kc + 59 + 60) (ks' := ks + 354 + 360) (by omega) (by omega) ?_
        refine lw_q hd K2.ws J2 (by omega) s2 (fun h7 W7 => ?_)
        refine pw_iload (pc2 := 585) dL_law_583 rfl 10 rfl ?_
        refine pw_if_lt (tgt := 603) (pc2 := 588) dL_law_585 (by decide) rfl (fun c585 => by exact absurd c585 (hv)) (fun _ => ?_)
        refine pw_iload (pc2 := 590) dL_law_588 rfl 10 rfl ?_
        refine pw_iload (pc2 := 592) dL_law_590 rfl 11 rfl ?_
        refine pw_icmp_ne (tgt := 622) (pc2 := 595) dL_law_592 (by decide) rfl (fun c592 => by exact absurd (k5) c592) (fun _ => ?_)
        refine pw_iload (pc2 := 597) dL_law_595 rfl 12 rfl ?_
        refine pw_if_ne (tgt := 624) (pc2 := 600) dL_law_597 (by decide) rfl (fun _ => ?_) (fun c597 => by exact absurd c597 (by decide))
        refine pw_goto (tgt := 723) dL_law_624 (by decide) ?_
        refine PW.sub (L2 := [(0, Value.ref sc), (1, Value.ref (A2 0 0)), (2, Value.ref (A2 60 0)), (3, Value.int (nI (nrl σ + 1))), (4, Value.int (nI c)), (5, Value.int (nI m)), (10, Value.int iw), (11, Value.long bef), (13, Value.int (σ2.1 40 (nrl σ) 0))]) [0, 1, 2, 3, 4, 5, 8, 9, 10] rfl ?_
        refine PW.widen (kc' := kc) (ks' := ks) (by omega) (by omega) ?_
        rw [← n2]
        exact hK.1 _ _ A2 σ2 _ hv (a0.trans e0) (a60.trans e60) W7 J2 D2
      · skip
        refine pw_istore (pc2 := 512) (L2 := [(13, Value.int v9), (16, Value.int 1), (15, Value.int (vAh σ p)), (0, Value.ref sc), (1, Value.ref (A 0 0)), (2, Value.ref (A 60 0)), (3, Value.int (nI (nrl σ))), (4, Value.int (nI c)), (5, Value.int (nI m)), (7, Value.int (nI w)), (8, Value.int (nI K)), (9, Value.int (nI p)), (10, Value.int iw), (11, Value.long bef), (14, Value.int kd)]) dL_law_510 rfl (by decide) rfl ?_
        refine pw_iload (pc2 := 514) dL_law_512 rfl 0 rfl ?_
        refine pw_if_lt (tgt := 583) (pc2 := 517) dL_law_514 (by decide) rfl (fun _ => ?_) (fun c514 => by exact absurd (lt_neg hv) c514)
        refine pw_iload (pc2 := 585) dL_law_583 rfl 0 rfl ?_
        refine pw_if_lt (tgt := 603) (pc2 := 588) dL_law_585 (by decide) rfl (fun _ => ?_) (fun c585 => by exact absurd (lt_neg hv) c585)
        refine pw_iload (pc2 := 605) dL_law_603 rfl 1 rfl ?_
        refine pw_if_eq (tgt := 624) (pc2 := 608) dL_law_605 (by decide) rfl (fun c605 => by exact absurd c605 (by decide)) (fun _ => ?_)
        refine pw_iload (pc2 := 610) dL_law_608 rfl 2 rfl ?_
        refine pw_sipush (pc2 := 613) (v := 1000) dL_law_610 rfl (by decide) ?_
        refine pw_icmp_ge (tgt := 624) (pc2 := 616) dL_law_613 (by decide) rfl (fun c613 => ?_) (fun c613 => ?_)
        · refine pw_goto (tgt := 723) dL_law_624 (by decide) ?_
          refine PW.sub (L2 := [(0, Value.ref sc), (1, Value.ref (A 0 0)), (2, Value.ref (A 60 0)), (3, Value.int (nI (nrl σ))), (4, Value.int (nI c)), (5, Value.int (nI m)), (10, Value.int iw), (11, Value.long bef), (13, Value.int v9)]) [3, 4, 5, 6, 7, 8, 12, 13, 0] rfl ?_
          refine PW.widen (kc' := kc) (ks' := ks) (by omega) (by omega) ?_
          exact hK.2 _ _ hv Wf
        · refine pw_iload_n (pc2 := 617) dL_law_616 rfl rfl 6 rfl ?_
          refine pw_bipush (pc2 := 619) (v := 20) dL_law_617 rfl (by decide) ?_
          refine pw_icmp_ge (tgt := 624) (pc2 := 622) dL_law_619 (by decide) rfl (fun c619 => ?_) (fun c619 => ?_)
          · refine pw_goto (tgt := 723) dL_law_624 (by decide) ?_
            refine PW.sub (L2 := [(0, Value.ref sc), (1, Value.ref (A 0 0)), (2, Value.ref (A 60 0)), (3, Value.int (nI (nrl σ))), (4, Value.int (nI c)), (5, Value.int (nI m)), (10, Value.int iw), (11, Value.long bef), (13, Value.int v9)]) [3, 4, 5, 6, 7, 8, 12, 13, 0] rfl ?_
            refine PW.widen (kc' := kc) (ks' := ks) (by omega) (by omega) ?_
            exact hK.2 _ _ hv Wf
          · exact absurd ⟨hc, Int32.not_le.mp c613, Nat.not_le.mp (fun z => c619 ((nI_leI (a := 20) (b := nrl σ) (by omega) (by omega)).mpr z))⟩ hF
    · skip
      have ha : ¬ aCan σ p = 1 := by rw [aCan0 hc]; decide
      refine pw_aload_n (pc2 := 486) dL_law_485 rfl rfl 2 rfl (by first | exact rf_ref _ | exact rf_opt _ | exact rf_nul) ?_
      refine pw_iload (pc2 := 488) dL_law_486 rfl 9 rfl ?_
      refine pw_iconst (pc2 := 489) (v := 3) dL_law_488 rfl (by decide) ?_
      refine PW.widen (kc' := kc + 148 + 1) (ks' := ks + 888 + 6) (by omega) (by omega) ?_
      refine pw_lookS (kc := kc + 148) (ks := ks + 888) (pc2 := 492) (k_of3 W1 hp) cs_L_109 rfl dL_law_489 rfl (by omega) rfl (by first | decide | simp [cat_rf, Value.category]) (fun h4 W4 => ?_)
      refine pw_iconst (pc2 := 493) (v := 1) dL_law_492 rfl (by decide) ?_
      refine pw_icmp_ne (tgt := 500) (pc2 := 496) dL_law_493 (by decide) rfl (fun _ => ?_) (fun c493 => by exact absurd c493 (ha))
      refine pw_iconst (pc2 := 501) (v := 0) dL_law_500 rfl (by decide) ?_
      refine pw_istore (pc2 := 503) (L2 := [(16, Value.int 0), (15, Value.int (vAh σ p)), (0, Value.ref sc), (1, Value.ref (A 0 0)), (2, Value.ref (A 60 0)), (3, Value.int (nI (nrl σ))), (4, Value.int (nI c)), (5, Value.int (nI m)), (7, Value.int (nI w)), (8, Value.int (nI K)), (9, Value.int (nI p)), (10, Value.int iw), (11, Value.long bef), (13, Value.int 0), (14, Value.int kd)]) dL_law_501 rfl (by decide) rfl ?_
      refine pw_aload_n (pc2 := 504) dL_law_503 rfl rfl 3 rfl (by first | exact rf_ref _ | exact rf_opt _ | exact rf_nul) ?_
      refine pw_iload (pc2 := 506) dL_law_504 rfl 10 rfl ?_
      refine pw_iconst (pc2 := 507) (v := 5) dL_law_506 rfl (by decide) ?_
      refine PW.widen (kc' := kc + 129 + 9) (ks' := ks + 774 + 112) (by omega) (by omega) ?_
      refine pw_callS (kc := kc + 129) (ks := ks + 774) (pc2 := 510) (x_publ W4 HJ HD hp) cs_L_109 rfl dL_law_507 rfl (by omega) rfl (by first | decide | simp [cat_rf, Value.category]) (fun r9 h9 q9 => ?_) (fun Y h9 q9 => q9.elim)
      obtain ⟨v9, rfl, ⟨hv, A', σ', ofr', ⟨e0, e60⟩, K9, J9, k0, k1, k2, k3, k4, k5, k6, k7, k8, g, k9, k10⟩ | ⟨hv, Wf, hF⟩⟩ := q9
      · rw [← e0, ← e60]
        exact absurd k4 hc
      · skip
        refine pw_istore (pc2 := 512) (L2 := [(13, Value.int v9), (16, Value.int 0), (15, Value.int (vAh σ p)), (0, Value.ref sc), (1, Value.ref (A 0 0)), (2, Value.ref (A 60 0)), (3, Value.int (nI (nrl σ))), (4, Value.int (nI c)), (5, Value.int (nI m)), (7, Value.int (nI w)), (8, Value.int (nI K)), (9, Value.int (nI p)), (10, Value.int iw), (11, Value.long bef), (14, Value.int kd)]) dL_law_510 rfl (by decide) rfl ?_
        refine pw_iload (pc2 := 514) dL_law_512 rfl 0 rfl ?_
        refine pw_if_lt (tgt := 583) (pc2 := 517) dL_law_514 (by decide) rfl (fun _ => ?_) (fun c514 => by exact absurd (lt_neg hv) c514)
        refine pw_iload (pc2 := 585) dL_law_583 rfl 0 rfl ?_
        refine pw_if_lt (tgt := 603) (pc2 := 588) dL_law_585 (by decide) rfl (fun _ => ?_) (fun c585 => by exact absurd (lt_neg hv) c585)
        refine pw_iload (pc2 := 605) dL_law_603 rfl 1 rfl ?_
        refine pw_if_eq (tgt := 624) (pc2 := 608) dL_law_605 (by decide) rfl (fun _ => ?_) (fun c605 => by exact absurd (by decide) c605)
        refine pw_goto (tgt := 723) dL_law_624 (by decide) ?_
        refine PW.sub (L2 := [(0, Value.ref sc), (1, Value.ref (A 0 0)), (2, Value.ref (A 60 0)), (3, Value.int (nI (nrl σ))), (4, Value.int (nI c)), (5, Value.int (nI m)), (10, Value.int iw), (11, Value.long bef), (13, Value.int v9)]) [3, 4, 5, 6, 7, 8, 12, 13, 0] rfl ?_
        refine PW.widen (kc' := kc) (ks' := ks) (by omega) (by omega) ?_
        exact hK.2 _ _ hv Wf
  · skip
    refine pw_aload_n (pc2 := 477) dL_law_476 rfl rfl 1 rfl (by first | exact rf_ref _ | exact rf_opt _ | exact rf_nul) ?_
    refine pw_iload (pc2 := 479) dL_law_477 rfl 8 rfl ?_
    refine pw_iconst (pc2 := 480) (v := 4) dL_law_479 rfl (by decide) ?_
    refine PW.widen (kc' := kc + 149 + 1) (ks' := ks + 894 + 6) (by omega) (by omega) ?_
    refine pw_lookS (kc := kc + 149) (ks := ks + 894) (pc2 := 483) (x_of4 HW hin) cs_L_109 rfl dL_law_480 rfl (by omega) rfl (by first | decide | simp [cat_rf, Value.category]) (fun h5 W5 => ?_)
    refine pw_istore (pc2 := 485) (L2 := [(15, Value.int (-1001)), (0, Value.ref sc), (1, Value.ref (A 0 0)), (2, Value.ref (A 60 0)), (3, Value.int (nI (nrl σ))), (4, Value.int (nI c)), (5, Value.int (nI m)), (7, Value.int (nI w)), (8, Value.int (nI K)), (9, Value.int nm), (10, Value.int iw), (11, Value.long bef), (13, Value.int 0), (14, Value.int kd)]) dL_law_483 rfl (by decide) rfl ?_
    refine pw_aload_n (pc2 := 486) dL_law_485 rfl rfl 2 rfl (by first | exact rf_ref _ | exact rf_opt _ | exact rf_nul) ?_
    refine pw_iload (pc2 := 488) dL_law_486 rfl 9 rfl ?_
    refine pw_iconst (pc2 := 489) (v := 3) dL_law_488 rfl (by decide) ?_
    refine PW.widen (kc' := kc + 148 + 1) (ks' := ks + 888 + 6) (by omega) (by omega) ?_
    refine pw_lookS (kc := kc + 148) (ks := ks + 888) (pc2 := 492) (x_of3 W5 hin) cs_L_109 rfl dL_law_489 rfl (by omega) rfl (by first | decide | simp [cat_rf, Value.category]) (fun h6 W6 => ?_)
    refine pw_iconst (pc2 := 493) (v := 1) dL_law_492 rfl (by decide) ?_
    refine pw_icmp_ne (tgt := 500) (pc2 := 496) dL_law_493 (by decide) rfl (fun _ => ?_) (fun c493 => by exact absurd c493 (by decide))
    refine pw_iconst (pc2 := 501) (v := 0) dL_law_500 rfl (by decide) ?_
    refine pw_istore (pc2 := 503) (L2 := [(16, Value.int 0), (15, Value.int (-1001)), (0, Value.ref sc), (1, Value.ref (A 0 0)), (2, Value.ref (A 60 0)), (3, Value.int (nI (nrl σ))), (4, Value.int (nI c)), (5, Value.int (nI m)), (7, Value.int (nI w)), (8, Value.int (nI K)), (9, Value.int nm), (10, Value.int iw), (11, Value.long bef), (13, Value.int 0), (14, Value.int kd)]) dL_law_501 rfl (by decide) rfl ?_
    refine pw_aload_n (pc2 := 504) dL_law_503 rfl rfl 3 rfl (by first | exact rf_ref _ | exact rf_opt _ | exact rf_nul) ?_
    refine pw_iload (pc2 := 506) dL_law_504 rfl 10 rfl ?_
    refine pw_iconst (pc2 := 507) (v := 5) dL_law_506 rfl (by decide) ?_
    refine PW.widen (kc' := kc + 129 + 9) (ks' := ks + 774 + 112) (by omega) (by omega) ?_
    refine pw_lookS (kc := kc + 129) (ks := ks + 774) (pc2 := 510) (z_publ W6 hin) cs_L_109 rfl dL_law_507 rfl (by omega) rfl (by first | decide | simp [cat_rf, Value.category]) (fun h7 W7 => ?_)
    refine pw_istore (pc2 := 512) (L2 := [(13, Value.int (-1001)), (16, Value.int 0), (15, Value.int (-1001)), (0, Value.ref sc), (1, Value.ref (A 0 0)), (2, Value.ref (A 60 0)), (3, Value.int (nI (nrl σ))), (4, Value.int (nI c)), (5, Value.int (nI m)), (7, Value.int (nI w)), (8, Value.int (nI K)), (9, Value.int nm), (10, Value.int iw), (11, Value.long bef), (14, Value.int kd)]) dL_law_510 rfl (by decide) rfl ?_
    refine pw_iload (pc2 := 514) dL_law_512 rfl 0 rfl ?_
    refine pw_if_lt (tgt := 583) (pc2 := 517) dL_law_514 (by decide) rfl (fun _ => ?_) (fun c514 => by exact absurd (by decide) c514)
    refine pw_iload (pc2 := 585) dL_law_583 rfl 0 rfl ?_
    refine pw_if_lt (tgt := 603) (pc2 := 588) dL_law_585 (by decide) rfl (fun _ => ?_) (fun c585 => by exact absurd (by decide) c585)
    refine pw_iload (pc2 := 605) dL_law_603 rfl 1 rfl ?_
    refine pw_if_eq (tgt := 624) (pc2 := 608) dL_law_605 (by decide) rfl (fun _ => ?_) (fun c605 => by exact absurd (by decide) c605)
    refine pw_goto (tgt := 723) dL_law_624 (by decide) ?_
    refine PW.sub (L2 := [(0, Value.ref sc), (1, Value.ref (A 0 0)), (2, Value.ref (A 60 0)), (3, Value.int (nI (nrl σ))), (4, Value.int (nI c)), (5, Value.int (nI m)), (10, Value.int iw), (11, Value.long bef), (13, Value.int (-1001))]) [3, 4, 5, 6, 7, 8, 12, 13, 0] rfl ?_
    refine PW.widen (kc' := kc) (ks' := ks) (by omega) (by omega) ?_
    exact hK.2 _ _ (by decide) W7
set_option maxHeartbeats 8000000 in
set_option maxRecDepth 100000 in
theorem lw_k627 {G : hG} {sc Ln d : Nat} {xs : Nat → Int32} (hd : 20 ≤ d) {kc ks : Nat} {h : hp} {A : aT} {σ : sT} {ofr : Nat → Nat} {N : Nat} (HW : WS G h A σ) (HJ : J σ ofr N) (HD : JD σ ofr (nrl σ)) {c m w K : Nat} {nm iw kd : Int32} {bef : Int64} (hw : w < 2147483648) (hK : KK G d sc Ln xs A σ N c m iw bef kc ks) : PW G ML_law d (psX sc Ln xs) EL (kc + 100) (ks + 600) 627 [(0, Value.ref sc), (1, Value.ref (A 0 0)), (2, Value.ref (A 60 0)), (3, Value.int (nI (nrl σ))), (4, Value.int (nI c)), (5, Value.int (nI m)), (7, Value.int (nI w)), (8, Value.int (nI K)), (9, Value.int nm), (10, Value.int iw), (11, Value.long bef), (13, Value.int 0), (14, Value.int kd)] [] h := by
  have np6 : npk σ ≤ 6 := HW.n6
  have nr20 : nrl σ ≤ 20 := HW.n20
  have nt8 : nts σ ≤ 8 := HW.n8
  by_cases hz : nrl σ = 0
  · skip
    have hz1 : nI (nrl σ) ≤ 0 := by rw [hz]; decide
    refine pw_iload_n (pc2 := 628) dL_law_627 rfl rfl 3 rfl ?_
    refine pw_if_le (tgt := 723) (pc2 := 631) dL_law_628 (by decide) rfl (fun _ => ?_) (fun c628 => by exact absurd (hz1) c628)
    refine PW.sub (L2 := [(0, Value.ref sc), (1, Value.ref (A 0 0)), (2, Value.ref (A 60 0)), (3, Value.int (nI (nrl σ))), (4, Value.int (nI c)), (5, Value.int (nI m)), (10, Value.int iw), (11, Value.long bef), (13, Value.int 0)]) [0, 1, 2, 3, 4, 5, 9, 10, 11] rfl ?_
    refine PW.widen (kc' := kc) (ks' := ks) (by omega) (by omega) ?_
    exact hK.1 _ _ A σ ofr (by decide) rfl rfl HW (HJ.mono (by omega)) HD
  · skip
    have hz1 : ¬ nI (nrl σ) ≤ 0 := fun z => by have := (nI_leI (a := nrl σ) (b := 0) (by omega) (by omega)).mp z; omega
    obtain ⟨r0, er0⟩ : ∃ z, z = w / 7 % nrl σ := ⟨_, rfl⟩
    have hr0 : r0 < nrl σ := er0 ▸ Nat.mod_lt _ (by omega)
    obtain ⟨d0, d1, -⟩ := HD r0 hr0
    have hw7 : w / 7 ≤ w := Nat.div_le_self _ _
    refine pw_iload_n (pc2 := 628) dL_law_627 rfl rfl 3 rfl ?_
    refine pw_if_le (tgt := 723) (pc2 := 631) dL_law_628 (by decide) rfl (fun c628 => by exact absurd c628 (hz1)) (fun _ => ?_)
    refine pw_iload (pc2 := 633) dL_law_631 rfl 6 rfl ?_
    refine pw_bipush (pc2 := 635) (v := 7) dL_law_633 rfl (by decide) ?_
    refine pw_idiv (pc2 := 636) dL_law_635 rfl (by decide) ?_
    refine pw_topE (y := nI (w / 7)) (div_n (m := 7) hw (by omega) (by omega)) ?_
    refine pw_iload_n (pc2 := 637) dL_law_636 rfl rfl 3 rfl ?_
    refine pw_irem (pc2 := 638) dL_law_637 rfl (ne_n (n := nrl σ) (by omega) (by omega)) ?_
    refine pw_topE (y := nI r0) ((rem_n (a := w / 7) (m := nrl σ) (by omega) (by omega) (by omega)).trans (congrArg nI er0.symm)) ?_
    refine pw_istore (pc2 := 640) (L2 := [(15, Value.int (nI r0)), (0, Value.ref sc), (1, Value.ref (A 0 0)), (2, Value.ref (A 60 0)), (3, Value.int (nI (nrl σ))), (4, Value.int (nI c)), (5, Value.int (nI m)), (7, Value.int (nI w)), (8, Value.int (nI K)), (9, Value.int nm), (10, Value.int iw), (11, Value.long bef), (13, Value.int 0), (14, Value.int kd)]) dL_law_638 rfl (by decide) rfl ?_
    refine pw_aload_n (pc2 := 641) dL_law_640 rfl rfl 2 rfl (by first | exact rf_ref _ | exact rf_opt _ | exact rf_nul) ?_
    refine pw_aload_n (pc2 := 642) dL_law_641 rfl rfl 3 rfl (by first | exact rf_ref _ | exact rf_opt _ | exact rf_nul) ?_
    refine pw_iload (pc2 := 644) dL_law_642 rfl 0 rfl ?_
    refine pw_aaldN (pc2 := 645) 6 rfl rfl HW.c60 (i := r0) (by first | assumption | omega) (by omega) dL_law_644 rfl ?_
    refine pw_topV (rowv (by first | assumption | omega)) ?_
    refine pw_iconst (pc2 := 646) (v := 0) dL_law_645 rfl (by decide) ?_
    refine pw_ialdN (pc2 := 647) (HW.c61 (by omega)) (i := 0) (by first | assumption | omega) (by omega) dL_law_646 rfl ?_
    refine pw_topE (y := nI (ofr r0)) (d0) ?_
    refine pw_aload_n (pc2 := 648) dL_law_647 rfl rfl 3 rfl (by first | exact rf_ref _ | exact rf_opt _ | exact rf_nul) ?_
    refine pw_iload (pc2 := 650) dL_law_648 rfl 0 rfl ?_
    refine pw_aaldN (pc2 := 651) 6 rfl rfl HW.c60 (i := r0) (by first | assumption | omega) (by omega) dL_law_650 rfl ?_
    refine pw_topV (rowv (by first | assumption | omega)) ?_
    refine pw_iconst (pc2 := 652) (v := 1) dL_law_651 rfl (by decide) ?_
    refine pw_ialdN (pc2 := 653) (HW.c61 (by omega)) (i := 1) (by first | assumption | omega) (by omega) dL_law_652 rfl ?_
    refine pw_topE d1 ?_
    by_cases hk : (31 : Int32) ≤ kd
    · skip
      refine pw_iload (pc2 := 655) dL_law_653 rfl 13 rfl ?_
      refine pw_bipush (pc2 := 657) (v := 31) dL_law_655 rfl (by decide) ?_
      refine pw_icmp_ge (tgt := 664) (pc2 := 660) dL_law_657 (by decide) rfl (fun _ => ?_) (fun c657 => by exact absurd (hk) c657)
      refine pw_iconst (pc2 := 665) (v := 2) dL_law_664 rfl (by decide) ?_
      refine PW.widen (kc' := kc + 96 + 4) (ks' := ks + 576 + 24) (by omega) (by omega) ?_
      refine pw_callS (kc := kc + 96) (ks := ks + 576) (pc2 := 668) (x_relock HW HJ HD hr0) cs_L_152 rfl dL_law_665 rfl (by omega) rfl (by first | decide | simp [cat_rf, Value.category]) (fun r9 h9 q9 => ?_) (fun Y h9 q9 => q9.elim)
      obtain ⟨v9, rfl, ⟨hv, A', σ', ofr', ⟨e0, e60⟩, K9, J9, ⟨D9, en⟩, ns⟩ | ⟨hv, Wf, -⟩⟩ := q9
      · rw [← e0, ← e60, ← en]
        refine pw_istore (pc2 := 670) (L2 := [(13, Value.int v9), (15, Value.int (nI r0)), (0, Value.ref sc), (1, Value.ref (A' 0 0)), (2, Value.ref (A' 60 0)), (3, Value.int (nI (nrl σ'))), (4, Value.int (nI c)), (5, Value.int (nI m)), (7, Value.int (nI w)), (8, Value.int (nI K)), (9, Value.int nm), (10, Value.int iw), (11, Value.long bef), (14, Value.int kd)]) dL_law_668 rfl (by decide) rfl ?_
        refine pw_iload (pc2 := 672) dL_law_670 rfl 0 rfl ?_
        refine pw_if_lt (tgt := 689) (pc2 := 675) dL_law_672 (by decide) rfl (fun c672 => by exact absurd c672 (hv)) (fun _ => ?_)
        refine pw_iload (pc2 := 677) dL_law_675 rfl 13 rfl ?_
        refine pw_bipush (pc2 := 679) (v := 31) dL_law_677 rfl (by decide) ?_
        refine pw_icmp_ge (tgt := 689) (pc2 := 682) dL_law_679 (by decide) rfl (fun _ => ?_) (fun c679 => by exact absurd (hk) c679)
        refine pw_iload (pc2 := 691) dL_law_689 rfl 0 rfl ?_
        refine pw_if_lt (tgt := 723) (pc2 := 694) dL_law_691 (by decide) rfl (fun c691 => by exact absurd c691 (hv)) (fun _ => ?_)
        refine pw_iload (pc2 := 696) dL_law_694 rfl 13 rfl ?_
        refine pw_bipush (pc2 := 698) (v := 31) dL_law_696 rfl (by decide) ?_
        refine pw_icmp_ne (tgt := 723) (pc2 := 701) dL_law_698 (by decide) rfl (fun c698 => ?_) (fun c698 => ?_)
        · refine PW.sub (L2 := [(0, Value.ref sc), (1, Value.ref (A' 0 0)), (2, Value.ref (A' 60 0)), (3, Value.int (nI (nrl σ'))), (4, Value.int (nI c)), (5, Value.int (nI m)), (10, Value.int iw), (11, Value.long bef), (13, Value.int v9)]) [2, 3, 4, 5, 6, 7, 11, 12, 0] rfl ?_
          refine PW.widen (kc' := kc) (ks' := ks) (by omega) (by omega) ?_
          exact hK.1 _ _ _ _ _ hv e0 e60 K9.ws J9 D9
        · obtain ⟨f0, f1, -⟩ := D9 r0 (by omega)
          refine pw_aload_n (pc2 := 702) dL_law_701 rfl rfl 3 rfl (by first | exact rf_ref _ | exact rf_opt _ | exact rf_nul) ?_
          refine pw_aload_n (pc2 := 703) dL_law_702 rfl rfl 4 rfl (by first | exact rf_ref _ | exact rf_opt _ | exact rf_nul) ?_
          refine pw_iload (pc2 := 705) dL_law_703 rfl 1 rfl ?_
          refine pw_aaldN (pc2 := 706) 6 rfl rfl K9.c60 (i := r0) (by first | assumption | omega) (by omega) dL_law_705 rfl ?_
          refine pw_topV (rowv (by first | assumption | omega)) ?_
          refine pw_iconst (pc2 := 707) (v := 0) dL_law_706 rfl (by decide) ?_
          refine pw_ialdN (pc2 := 708) (K9.c61 (by omega)) (i := 0) (by first | assumption | omega) (by omega) dL_law_707 rfl ?_
          refine pw_topE (y := nI (ofr' r0)) (f0) ?_
          refine pw_aload_n (pc2 := 709) dL_law_708 rfl rfl 4 rfl (by first | exact rf_ref _ | exact rf_opt _ | exact rf_nul) ?_
          refine pw_iload (pc2 := 711) dL_law_709 rfl 1 rfl ?_
          refine pw_aaldN (pc2 := 712) 6 rfl rfl K9.c60 (i := r0) (by first | assumption | omega) (by omega) dL_law_711 rfl ?_
          refine pw_topV (rowv (by first | assumption | omega)) ?_
          refine pw_iconst (pc2 := 713) (v := 1) dL_law_712 rfl (by decide) ?_
          refine pw_ialdN (pc2 := 714) (K9.c61 (by omega)) (i := 1) (by first | assumption | omega) (by omega) dL_law_713 rfl ?_
          refine pw_topE (y := σ'.1 40 r0 0) (f1) ?_
          refine pw_iconst (pc2 := 715) (v := 1) dL_law_714 rfl (by decide) ?_
          refine PW.widen (kc' := kc + 94 + 2) (ks' := ks + 564 + 12) (by omega) (by omega) ?_
          refine pw_lookS (kc := kc + 94) (ks := ks + 564) (pc2 := 718) (k_rel1 K9.ws J9 (r0 := r0) (by omega)) cs_L_152 rfl dL_law_715 rfl (by omega) rfl (by first | decide | simp [cat_rf, Value.category]) (fun h1 W1 => ?_)
          refine pw_if_eq (tgt := 723) (pc2 := 721) dL_law_718 (by decide) rfl (fun _ => ?_) (fun c718 => by exact absurd (aSt_f ns) c718)
          refine PW.sub (L2 := [(0, Value.ref sc), (1, Value.ref (A' 0 0)), (2, Value.ref (A' 60 0)), (3, Value.int (nI (nrl σ'))), (4, Value.int (nI c)), (5, Value.int (nI m)), (10, Value.int iw), (11, Value.long bef), (13, Value.int v9)]) [2, 3, 4, 5, 6, 7, 11, 12, 0] rfl ?_
          refine PW.widen (kc' := kc) (ks' := ks) (by omega) (by omega) ?_
          exact hK.1 _ _ _ _ _ hv e0 e60 W1 J9 D9
      · skip
        refine pw_istore (pc2 := 670) (L2 := [(13, Value.int v9), (15, Value.int (nI r0)), (0, Value.ref sc), (1, Value.ref (A 0 0)), (2, Value.ref (A 60 0)), (3, Value.int (nI (nrl σ))), (4, Value.int (nI c)), (5, Value.int (nI m)), (7, Value.int (nI w)), (8, Value.int (nI K)), (9, Value.int nm), (10, Value.int iw), (11, Value.long bef), (14, Value.int kd)]) dL_law_668 rfl (by decide) rfl ?_
        refine pw_iload (pc2 := 672) dL_law_670 rfl 0 rfl ?_
        refine pw_if_lt (tgt := 689) (pc2 := 675) dL_law_672 (by decide) rfl (fun _ => ?_) (fun c672 => by exact absurd (lt_neg hv) c672)
        refine pw_iload (pc2 := 691) dL_law_689 rfl 0 rfl ?_
        refine pw_if_lt (tgt := 723) (pc2 := 694) dL_law_691 (by decide) rfl (fun _ => ?_) (fun c691 => by exact absurd (lt_neg hv) c691)
        refine PW.sub (L2 := [(0, Value.ref sc), (1, Value.ref (A 0 0)), (2, Value.ref (A 60 0)), (3, Value.int (nI (nrl σ))), (4, Value.int (nI c)), (5, Value.int (nI m)), (10, Value.int iw), (11, Value.long bef), (13, Value.int v9)]) [2, 3, 4, 5, 6, 7, 11, 12, 0] rfl ?_
        refine PW.widen (kc' := kc) (ks' := ks) (by omega) (by omega) ?_
        exact hK.2 _ _ hv Wf
    · skip
      refine pw_iload (pc2 := 655) dL_law_653 rfl 13 rfl ?_
      refine pw_bipush (pc2 := 657) (v := 31) dL_law_655 rfl (by decide) ?_
      refine pw_icmp_ge (tgt := 664) (pc2 := 660) dL_law_657 (by decide) rfl (fun c657 => by exact absurd c657 (hk)) (fun _ => ?_)
      refine pw_iconst (pc2 := 661) (v := 0) dL_law_660 rfl (by decide) ?_
      refine pw_goto (tgt := 665) dL_law_661 (by decide) ?_
      refine PW.widen (kc' := kc + 97 + 3) (ks' := ks + 582 + 18) (by omega) (by omega) ?_
      refine pw_callS (kc := kc + 97) (ks := ks + 582) (pc2 := 668) (x_yank HW HJ HD hr0) cs_L_152 rfl dL_law_665 rfl (by omega) rfl (by first | decide | simp [cat_rf, Value.category]) (fun r9 h9 q9 => ?_) (fun Y h9 q9 => q9.elim)
      obtain ⟨v9, rfl, ⟨hv, A', σ', ofr', ⟨e0, e60⟩, K9, J9, ⟨D9, en⟩⟩ | ⟨hv, Wf, -⟩⟩ := q9
      · rw [← e0, ← e60, ← en]
        refine pw_istore (pc2 := 670) (L2 := [(13, Value.int v9), (15, Value.int (nI r0)), (0, Value.ref sc), (1, Value.ref (A' 0 0)), (2, Value.ref (A' 60 0)), (3, Value.int (nI (nrl σ'))), (4, Value.int (nI c)), (5, Value.int (nI m)), (7, Value.int (nI w)), (8, Value.int (nI K)), (9, Value.int nm), (10, Value.int iw), (11, Value.long bef), (14, Value.int kd)]) dL_law_668 rfl (by decide) rfl ?_
        refine pw_iload (pc2 := 672) dL_law_670 rfl 0 rfl ?_
        refine pw_if_lt (tgt := 689) (pc2 := 675) dL_law_672 (by decide) rfl (fun c672 => by exact absurd c672 (hv)) (fun _ => ?_)
        refine pw_iload (pc2 := 677) dL_law_675 rfl 13 rfl ?_
        refine pw_bipush (pc2 := 679) (v := 31) dL_law_677 rfl (by decide) ?_
        refine pw_icmp_ge (tgt := 689) (pc2 := 682) dL_law_679 (by decide) rfl (fun c679 => by exact absurd c679 (hk)) (fun _ => ?_)
        refine pw_aload_n (pc2 := 683) dL_law_682 rfl rfl 4 rfl (by first | exact rf_ref _ | exact rf_opt _ | exact rf_nul) ?_
        refine pw_iload (pc2 := 685) dL_law_683 rfl 1 rfl ?_
        refine pw_aaldN (pc2 := 686) 6 rfl rfl K9.c60 (i := r0) (by first | assumption | omega) (by omega) dL_law_685 rfl ?_
        refine pw_topV (rowv (by first | assumption | omega)) ?_
        refine pw_iconst (pc2 := 687) (v := 2) dL_law_686 rfl (by decide) ?_
        refine pw_iconst (pc2 := 688) (v := 1) dL_law_687 rfl (by decide) ?_
        refine pw_iastN (pc2 := 689) (K9.c61 (by omega)) (i := 2) (by first | assumption | omega) (by omega) dL_law_688 rfl ?_
        obtain ⟨j1, ej1⟩ : ∃ z : Nat → Option hE, z = va_up h9 (A' 61 r0) (some (aI 3 (upd (σ'.1 61 r0) 2 1))) := ⟨_, rfl⟩
        refine PW.heap (h' := j1) ej1.symm ?_
        have Kj : W9 G j1 A' (setI σ' 61 r0 (upd (σ'.1 61 r0) 2 1)) := by rw [ej1]; exact K9.wI (t := 61) (i := r0) (by show r0 < 20; omega) (by decide) (iv_setI K9.2.2.2.2 (by decide)) rfl
        refine pw_iload (pc2 := 691) dL_law_689 rfl 0 rfl ?_
        refine pw_if_lt (tgt := 723) (pc2 := 694) dL_law_691 (by decide) rfl (fun c691 => by exact absurd c691 (hv)) (fun _ => ?_)
        refine pw_iload (pc2 := 696) dL_law_694 rfl 13 rfl ?_
        refine pw_bipush (pc2 := 698) (v := 31) dL_law_696 rfl (by decide) ?_
        refine pw_icmp_ne (tgt := 723) (pc2 := 701) dL_law_698 (by decide) rfl (fun _ => ?_) (fun c698 => by exact absurd c698 (fun z => hk (by rw [z]; decide)))
        refine PW.sub (L2 := [(0, Value.ref sc), (1, Value.ref (A' 0 0)), (2, Value.ref (A' 60 0)), (3, Value.int (nI (nrl σ'))), (4, Value.int (nI c)), (5, Value.int (nI m)), (10, Value.int iw), (11, Value.long bef), (13, Value.int v9)]) [2, 3, 4, 5, 6, 7, 11, 12, 0] rfl ?_
        refine PW.widen (kc' := kc) (ks' := ks) (by omega) (by omega) ?_
        exact hK.1 _ _ A' (setI σ' 61 r0 (upd (σ'.1 61 r0) 2 1)) ofr' hv e0 e60 Kj.ws (J_61 J9) D9
      · skip
        refine pw_istore (pc2 := 670) (L2 := [(13, Value.int v9), (15, Value.int (nI r0)), (0, Value.ref sc), (1, Value.ref (A 0 0)), (2, Value.ref (A 60 0)), (3, Value.int (nI (nrl σ))), (4, Value.int (nI c)), (5, Value.int (nI m)), (7, Value.int (nI w)), (8, Value.int (nI K)), (9, Value.int nm), (10, Value.int iw), (11, Value.long bef), (14, Value.int kd)]) dL_law_668 rfl (by decide) rfl ?_
        refine pw_iload (pc2 := 672) dL_law_670 rfl 0 rfl ?_
        refine pw_if_lt (tgt := 689) (pc2 := 675) dL_law_672 (by decide) rfl (fun _ => ?_) (fun c672 => by exact absurd (lt_neg hv) c672)
        refine pw_iload (pc2 := 691) dL_law_689 rfl 0 rfl ?_
        refine pw_if_lt (tgt := 723) (pc2 := 694) dL_law_691 (by decide) rfl (fun _ => ?_) (fun c691 => by exact absurd (lt_neg hv) c691)
        refine PW.sub (L2 := [(0, Value.ref sc), (1, Value.ref (A 0 0)), (2, Value.ref (A 60 0)), (3, Value.int (nI (nrl σ))), (4, Value.int (nI c)), (5, Value.int (nI m)), (10, Value.int iw), (11, Value.long bef), (13, Value.int v9)]) [2, 3, 4, 5, 6, 7, 11, 12, 0] rfl ?_
        refine PW.widen (kc' := kc) (ks' := ks) (by omega) (by omega) ?_
        exact hK.2 _ _ hv Wf
