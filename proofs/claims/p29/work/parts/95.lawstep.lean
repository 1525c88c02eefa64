/-! one step of the law -/
set_option maxHeartbeats 8000000 in
set_option maxRecDepth 100000 in
theorem lw_746 {G : hG} {sc Ln d : Nat} {xs : Nat → Int32} (hd : 20 ≤ d) {kc ks : Nat} {h : hp} {A : aT} {σ : sT} {ofr : Nat → Nat} {N : Nat} (HW : WS G h A σ) (HJ : J σ ofr N) (HD : JD σ ofr (nrl σ)) {c m : Nat} (kk : ∀ h2, WS G h2 A σ → PW G ML_law d (psX sc Ln xs) EL (kc) (ks) 33 [(0, Value.ref sc), (1, Value.ref (A 0 0)), (2, Value.ref (A 60 0)), (3, Value.int (nI (nrl σ))), (4, Value.int (nI c)), (5, Value.int (nI (m + 1)))] [] h2) : PW G ML_law d (psX sc Ln xs) EL (kc + 940) (ks + 5640) 746 [(0, Value.ref sc), (1, Value.ref (A 0 0)), (2, Value.ref (A 60 0)), (3, Value.int (nI (nrl σ))), (4, Value.int (nI c)), (5, Value.int (nI (m)))] [] h := by
  refine pw_iload (pc2 := 748) dL_law_746 rfl 5 rfl ?_
  refine pw_bipush (pc2 := 750) (v := 9) dL_law_748 rfl (by decide) ?_
  refine pw_irem (pc2 := 751) dL_law_750 rfl (by decide) ?_
  refine pw_bipush (pc2 := 753) (v := 8) dL_law_751 rfl (by decide) ?_
  refine pw_icmp_ne (tgt := 767) (pc2 := 756) dL_law_753 (by decide) rfl (fun c753 => ?_) (fun c753 => ?_)
  · refine pw_iinc (pc2 := 770) (v := nI ((m) + 1)) (L2 := [(5, Value.int (nI ((m) + 1))), (0, Value.ref sc), (1, Value.ref (A 0 0)), (2, Value.ref (A 60 0)), (3, Value.int (nI (nrl σ))), (4, Value.int (nI c))]) dL_law_767 rfl 5 rfl (by show nI _ + 1 = nI _; exact nI_1 _) (by decide) rfl ?_
    refine pw_goto (tgt := 33) dL_law_770 (by decide) ?_
    refine PW.sub (L2 := [(0, Value.ref sc), (1, Value.ref (A 0 0)), (2, Value.ref (A 60 0)), (3, Value.int (nI (nrl σ))), (4, Value.int (nI c)), (5, Value.int (nI ((m) + 1)))]) [1, 2, 3, 4, 5, 0] rfl ?_
    refine PW.widen (kc' := kc) (ks' := ks) (by omega) (by omega) ?_
    exact kk _ HW
  · refine pw_aload_n (pc2 := 757) dL_law_756 rfl rfl 1 rfl (by first | exact rf_ref _ | exact rf_opt _ | exact rf_nul) ?_
    refine pw_aload_n (pc2 := 758) dL_law_757 rfl rfl 2 rfl (by first | exact rf_ref _ | exact rf_opt _ | exact rf_nul) ?_
    refine pw_iload_n (pc2 := 759) dL_law_758 rfl rfl 3 rfl ?_
    refine PW.widen (kc' := kc + 0 + 940) (ks' := ks + 0 + 5640) (by omega) (by omega) ?_
    refine pw_lookS (kc := kc + 0) (ks := ks + 0) (pc2 := 762) (c_sound G _ HW HJ HD) cs_L_191 rfl dL_law_759 rfl (by omega) rfl (by first | decide | simp [cat_rf, Value.category]) (fun h2 W2 => ?_)
    refine pw_if_ne (tgt := 767) (pc2 := 765) dL_law_762 (by decide) rfl (fun _ => ?_) (fun c762 => by exact absurd c762 (by decide))
    refine pw_iinc (pc2 := 770) (v := nI ((m) + 1)) (L2 := [(5, Value.int (nI ((m) + 1))), (0, Value.ref sc), (1, Value.ref (A 0 0)), (2, Value.ref (A 60 0)), (3, Value.int (nI (nrl σ))), (4, Value.int (nI c))]) dL_law_767 rfl 5 rfl (by show nI _ + 1 = nI _; exact nI_1 _) (by decide) rfl ?_
    refine pw_goto (tgt := 33) dL_law_770 (by decide) ?_
    refine PW.sub (L2 := [(0, Value.ref sc), (1, Value.ref (A 0 0)), (2, Value.ref (A 60 0)), (3, Value.int (nI (nrl σ))), (4, Value.int (nI c)), (5, Value.int (nI ((m) + 1)))]) [1, 2, 3, 4, 5, 0] rfl ?_
    refine PW.widen (kc' := kc) (ks' := ks) (by omega) (by omega) ?_
    exact kk _ W2
set_option maxHeartbeats 8000000 in
set_option maxRecDepth 100000 in
theorem lw_723s {G : hG} {sc Ln d : Nat} {xs : Nat → Int32} (hd : 20 ≤ d) {kc ks : Nat} {h : hp} {A : aT} {σ : sT} {ofr : Nat → Nat} {N : Nat} (HW : WS G h A σ) (HJ : J σ ofr N) (HD : JD σ ofr (nrl σ)) {c m : Nat} {iw v : Int32} {bef : Int64} (hv : ¬ v < 0) (kk : ∀ h2, WS G h2 A σ → PW G ML_law d (psX sc Ln xs) EL (kc) (ks) 33 [(0, Value.ref sc), (1, Value.ref (A 0 0)), (2, Value.ref (A 60 0)), (3, Value.int (nI (nrl σ))), (4, Value.int (nI c)), (5, Value.int (nI (m + 1)))] [] h2) : PW G ML_law d (psX sc Ln xs) EL (kc + 1080) (ks + 6480) 723 [(0, Value.ref sc), (1, Value.ref (A 0 0)), (2, Value.ref (A 60 0)), (3, Value.int (nI (nrl σ))), (4, Value.int (nI c)), (5, Value.int (nI m)), (10, Value.int iw), (11, Value.long bef), (13, Value.int v)] [] h := by
  refine pw_iload (pc2 := 725) dL_law_723 rfl 8 rfl ?_
  refine pw_sipush (pc2 := 728) (v := (-1000)) dL_law_725 rfl (by decide) ?_
  refine pw_icmp_ge (tgt := 746) (pc2 := 731) dL_law_728 (by decide) rfl (fun _ => ?_) (fun c728 => by exact absurd (nn_ge hv) c728)
  refine PW.sub (L2 := [(0, Value.ref sc), (1, Value.ref (A 0 0)), (2, Value.ref (A 60 0)), (3, Value.int (nI (nrl σ))), (4, Value.int (nI c)), (5, Value.int (nI m))]) [0, 1, 2, 3, 4, 5] rfl ?_
  refine PW.widen (kc' := kc + 940) (ks' := ks + 5640) (by omega) (by omega) ?_
  exact lw_746 hd HW HJ HD kk
set_option maxHeartbeats 8000000 in
set_option maxRecDepth 100000 in
theorem lw_723f {G : hG} {sc Ln d : Nat} {xs : Nat → Int32} (hd : 20 ≤ d) {kc ks : Nat} {h : hp} {A : aT} {σ : sT} {ofr : Nat → Nat} {N : Nat} (HW : WS G h A σ) (HJ : J σ ofr N) (HD : JD σ ofr (nrl σ)) {c m : Nat} {iw v : Int32} {bef : Int64} (hv : v < -1000) (hb : iw = 0 ∨ bef = sumF σ) (kk : ∀ h2, WS G h2 A σ → PW G ML_law d (psX sc Ln xs) EL (kc) (ks) 33 [(0, Value.ref sc), (1, Value.ref (A 0 0)), (2, Value.ref (A 60 0)), (3, Value.int (nI (nrl σ))), (4, Value.int (nI c)), (5, Value.int (nI (m + 1)))] [] h2) : PW G ML_law d (psX sc Ln xs) EL (kc + 1080) (ks + 6480) 723 [(0, Value.ref sc), (1, Value.ref (A 0 0)), (2, Value.ref (A 60 0)), (3, Value.int (nI (nrl σ))), (4, Value.int (nI c)), (5, Value.int (nI m)), (10, Value.int iw), (11, Value.long bef), (13, Value.int v)] [] h := by
  refine pw_iload (pc2 := 725) dL_law_723 rfl 8 rfl ?_
  refine pw_sipush (pc2 := 728) (v := (-1000)) dL_law_725 rfl (by decide) ?_
  refine pw_icmp_ge (tgt := 746) (pc2 := 731) dL_law_728 (by decide) rfl (fun c728 => by exact absurd c728 (lt_nge hv)) (fun _ => ?_)
  refine pw_iload (pc2 := 733) dL_law_731 rfl 6 rfl ?_
  refine pw_if_eq (tgt := 746) (pc2 := 736) dL_law_733 (by decide) rfl (fun c733 => ?_) (fun c733 => ?_)
  · refine PW.sub (L2 := [(0, Value.ref sc), (1, Value.ref (A 0 0)), (2, Value.ref (A 60 0)), (3, Value.int (nI (nrl σ))), (4, Value.int (nI c)), (5, Value.int (nI m))]) [0, 1, 2, 3, 4, 5] rfl ?_
    refine PW.widen (kc' := kc + 940) (ks' := ks + 5640) (by omega) (by omega) ?_
    exact lw_746 hd HW HJ HD kk
  · refine pw_aload_n (pc2 := 737) dL_law_736 rfl rfl 1 rfl (by first | exact rf_ref _ | exact rf_opt _ | exact rf_nul) ?_
    refine PW.widen (kc' := kc + 950 + 130) (ks' := ks + 5700 + 780) (by omega) (by omega) ?_
    refine pw_lookS (kc := kc + 950) (ks := ks + 5700) (pc2 := 740) (c_sum G _ HW HJ) cs_L_175 rfl dL_law_737 rfl (by omega) rfl (by first | decide | simp [cat_rf, Value.category]) (fun h1 W1 => ?_)
    refine pw_lload (pc2 := 742) dL_law_740 rfl 7 rfl ?_
    refine pw_lcmp (pc2 := 743) dL_law_742 rfl ?_
    refine pw_if_ne (tgt := 765) (pc2 := 746) dL_law_743 (by decide) rfl (fun c743 => by exact absurd (lcmp_eq (hb.resolve_left c733).symm) c743) (fun _ => ?_)
    refine PW.sub (L2 := [(0, Value.ref sc), (1, Value.ref (A 0 0)), (2, Value.ref (A 60 0)), (3, Value.int (nI (nrl σ))), (4, Value.int (nI c)), (5, Value.int (nI m))]) [0, 1, 2, 3, 4, 5] rfl ?_
    refine PW.widen (kc' := kc + 940) (ks' := ks + 5640) (by omega) (by omega) ?_
    exact lw_746 hd W1 HJ HD kk
theorem lw_KK {G : hG} {sc Ln d : Nat} {xs : Nat → Int32} (hd : 20 ≤ d) {kc ks : Nat} {A : aT} {σ : sT} {ofr : Nat → Nat} {N : Nat} (HJ : J σ ofr N) (HD : JD σ ofr (nrl σ)) {c m : Nat} {iw : Int32} {bef : Int64} (hb : iw = 0 ∨ bef = sumF σ) (kk : ∀ (h2 : hp) (A' : aT) (σ' : sT) (ofr' : Nat → Nat), A' 0 0 = A 0 0 → A' 60 0 = A 60 0 → WS G h2 A' σ' → J σ' ofr' (N + 9999) → JD σ' ofr' (nrl σ') → PW G ML_law d (psX sc Ln xs) EL (kc) (ks) 33 [(0, Value.ref sc), (1, Value.ref (A' 0 0)), (2, Value.ref (A' 60 0)), (3, Value.int (nI (nrl σ'))), (4, Value.int (nI c)), (5, Value.int (nI (m + 1)))] [] h2) : KK G d sc Ln xs A σ N c m iw bef (kc + 1080) (ks + 6480) :=
  ⟨fun v h2 A' σ' ofr' hv e0 e60 W' J' D' => lw_723s hd W' J' D' hv (fun h3 W3 => kk h3 A' σ' ofr' e0 e60 W3 J' D'),
    fun v h2 hv W' => lw_723f hd W' HJ HD hv hb (fun h3 W3 => kk h3 A σ ofr rfl rfl W3 (HJ.mono (by omega)) HD)⟩
set_option maxHeartbeats 8000000 in
set_option maxRecDepth 100000 in
theorem lw_139 {G : hG} {sc Ln d : Nat} {xs : Nat → Int32} (hd : 20 ≤ d) {kc ks : Nat} {h : hp} {A : aT} {σ : sT} {ofr : Nat → Nat} {N : Nat} (HW : WS G h A σ) (HJ : J σ ofr N) (HD : JD σ ofr (nrl σ)) {c m w K : Nat} {nm iw kd : Int32} {bef : Int64} (hK0 : 0 < K) (hK20 : K ≤ 20) (hKn : 0 < npk σ → K = npk σ) (hw : w < 2147483648) (hN : N < 1000000) (hK : KK G d sc Ln xs A σ N c m iw bef kc ks) : PW G ML_law d (psX sc Ln xs) EL (kc + 150) (ks + 900) 139 [(0, Value.ref sc), (1, Value.ref (A 0 0)), (2, Value.ref (A 60 0)), (3, Value.int (nI (nrl σ))), (4, Value.int (nI c)), (5, Value.int (nI m)), (7, Value.int (nI w)), (8, Value.int (nI K)), (9, Value.int nm), (10, Value.int iw), (11, Value.long bef), (13, Value.int 0), (14, Value.int kd)] [] h := by
  refine pw_iload (pc2 := 141) dL_law_139 rfl 12 rfl ?_
  refine pw_iconst (pc2 := 142) (v := 1) dL_law_141 rfl (by decide) ?_
  refine pw_icmp_ge (tgt := 158) (pc2 := 145) dL_law_142 (by decide) rfl (fun c142 => ?_) (fun c142 => ?_)
  · refine pw_iload (pc2 := 160) dL_law_158 rfl 12 rfl ?_
    refine pw_iconst (pc2 := 161) (v := 4) dL_law_160 rfl (by decide) ?_
    refine pw_icmp_ge (tgt := 189) (pc2 := 164) dL_law_161 (by decide) rfl (fun c161 => ?_) (fun c161 => ?_)
    · refine pw_iload (pc2 := 191) dL_law_189 rfl 12 rfl ?_
      refine pw_bipush (pc2 := 193) (v := 8) dL_law_191 rfl (by decide) ?_
      refine pw_icmp_ge (tgt := 238) (pc2 := 196) dL_law_193 (by decide) rfl (fun c193 => ?_) (fun c193 => ?_)
      · refine pw_iload (pc2 := 240) dL_law_238 rfl 12 rfl ?_
        refine pw_bipush (pc2 := 242) (v := 9) dL_law_240 rfl (by decide) ?_
        refine pw_icmp_ge (tgt := 266) (pc2 := 245) dL_law_242 (by decide) rfl (fun c242 => ?_) (fun c242 => ?_)
        · refine pw_iload (pc2 := 268) dL_law_266 rfl 12 rfl ?_
          refine pw_bipush (pc2 := 270) (v := 15) dL_law_268 rfl (by decide) ?_
          refine pw_icmp_ge (tgt := 320) (pc2 := 273) dL_law_270 (by decide) rfl (fun c270 => ?_) (fun c270 => ?_)
          · refine pw_iload (pc2 := 322) dL_law_320 rfl 12 rfl ?_
            refine pw_bipush (pc2 := 324) (v := 16) dL_law_322 rfl (by decide) ?_
            refine pw_icmp_ge (tgt := 348) (pc2 := 327) dL_law_324 (by decide) rfl (fun c324 => ?_) (fun c324 => ?_)
            · refine pw_iload (pc2 := 350) dL_law_348 rfl 12 rfl ?_
              refine pw_bipush (pc2 := 352) (v := 17) dL_law_350 rfl (by decide) ?_
              refine pw_icmp_ge (tgt := 384) (pc2 := 355) dL_law_352 (by decide) rfl (fun c352 => ?_) (fun c352 => ?_)
              · refine pw_iload (pc2 := 386) dL_law_384 rfl 12 rfl ?_
                refine pw_bipush (pc2 := 388) (v := 18) dL_law_386 rfl (by decide) ?_
                refine pw_icmp_ge (tgt := 417) (pc2 := 391) dL_law_388 (by decide) rfl (fun c388 => ?_) (fun c388 => ?_)
                · refine pw_iload (pc2 := 419) dL_law_417 rfl 12 rfl ?_
                  refine pw_bipush (pc2 := 421) (v := 23) dL_law_419 rfl (by decide) ?_
                  refine pw_icmp_ge (tgt := 469) (pc2 := 424) dL_law_421 (by decide) rfl (fun c421 => ?_) (fun c421 => ?_)
                  · refine pw_iload (pc2 := 471) dL_law_469 rfl 12 rfl ?_
                    refine pw_bipush (pc2 := 473) (v := 29) dL_law_471 rfl (by decide) ?_
                    refine pw_icmp_ge (tgt := 627) (pc2 := 476) dL_law_473 (by decide) rfl (fun c473 => ?_) (fun c473 => ?_)
                    · refine PW.widen (kc' := kc + 100) (ks' := ks + 600) (by omega) (by omega) ?_
                      exact lw_k627 hd HW HJ HD hw hK
                    · refine PW.widen (kc' := kc + 150) (ks' := ks + 900) (by omega) (by omega) ?_
                      exact lw_k476 hd HW HJ HD hK0 hK20 hKn hK
                  · refine PW.widen (kc' := kc + 150) (ks' := ks + 900) (by omega) (by omega) ?_
                    exact lw_k424 hd HW HJ HD hN hK
                · refine PW.widen (kc' := kc + 150) (ks' := ks + 900) (by omega) (by omega) ?_
                  exact lw_k391 hd HW HJ HD hN hK
              · refine PW.widen (kc' := kc + 150) (ks' := ks + 900) (by omega) (by omega) ?_
                exact lw_k355 hd HW HJ HD  hK
            · refine PW.widen (kc' := kc + 150) (ks' := ks + 900) (by omega) (by omega) ?_
              exact lw_k327 hd HW HJ HD  hK
          · refine PW.widen (kc' := kc + 150) (ks' := ks + 900) (by omega) (by omega) ?_
            exact lw_k273 hd HW HJ HD  hK
        · refine PW.widen (kc' := kc + 150) (ks' := ks + 900) (by omega) (by omega) ?_
          exact lw_k245 hd HW HJ HD hK0 hK20 hK
      · refine PW.widen (kc' := kc + 150) (ks' := ks + 900) (by omega) (by omega) ?_
        exact lw_k196 hd HW HJ HD hK0 hK20 hK
    · refine PW.widen (kc' := kc + 150) (ks' := ks + 900) (by omega) (by omega) ?_
      exact lw_k164 hd HW HJ HD  hK
  · refine PW.widen (kc' := kc + 150) (ks' := ks + 900) (by omega) (by omega) ?_
    exact lw_k145 hd HW HJ HD  hK
set_option maxHeartbeats 8000000 in
set_option maxRecDepth 100000 in
theorem lw_108 {G : hG} {sc Ln d : Nat} {xs : Nat → Int32} (hd : 20 ≤ d) {kc ks : Nat} {h : hp} {A : aT} {σ : sT} {ofr : Nat → Nat} {N : Nat} (HW : WS G h A σ) (HJ : J σ ofr N) (HD : JD σ ofr (nrl σ)) {c m w K : Nat} {nm iw kd : Int32} {bef : Int64} {x : Nat} (hK0 : 0 < K) (hK20 : K ≤ 20) (hKn : 0 < npk σ → K = npk σ) (hw : w < 2147483648) (hN : N < 1000000) (hK : KK G d sc Ln xs A σ N c m iw bef kc ks) : PW G ML_law d (psX sc Ln xs) EL (kc + 150) (ks + 900) 108 [(0, Value.ref sc), (1, Value.ref (A 0 0)), (2, Value.ref (A 60 0)), (3, Value.int (nI (nrl σ))), (4, Value.int (nI c)), (5, Value.int (nI m)), (6, Value.int (nI x)), (7, Value.int (nI w)), (8, Value.int (nI K)), (9, Value.int nm), (10, Value.int iw), (11, Value.long bef)] [] h := by
  refine pw_iconst (pc2 := 109) (v := 0) dL_law_108 rfl (by decide) ?_
  refine pw_istore (pc2 := 111) (L2 := [(13, Value.int 0), (0, Value.ref sc), (1, Value.ref (A 0 0)), (2, Value.ref (A 60 0)), (3, Value.int (nI (nrl σ))), (4, Value.int (nI c)), (5, Value.int (nI m)), (6, Value.int (nI x)), (7, Value.int (nI w)), (8, Value.int (nI K)), (9, Value.int nm), (10, Value.int iw), (11, Value.long bef)]) dL_law_109 rfl (by decide) rfl ?_
  refine pw_iload (pc2 := 113) dL_law_111 rfl 6 rfl ?_
  refine pw_iconst (pc2 := 114) (v := 3) dL_law_113 rfl (by decide) ?_
  refine pw_icmp_ge (tgt := 121) (pc2 := 117) dL_law_114 (by decide) rfl (fun c114 => ?_) (fun c114 => ?_)
  · refine pw_iload (pc2 := 123) dL_law_121 rfl 6 rfl ?_
    refine pw_iconst (pc2 := 124) (v := 5) dL_law_123 rfl (by decide) ?_
    refine pw_icmp_ge (tgt := 132) (pc2 := 127) dL_law_124 (by decide) rfl (fun c124 => ?_) (fun c124 => ?_)
    · refine pw_iload (pc2 := 134) dL_law_132 rfl 7 rfl ?_
      refine pw_bipush (pc2 := 136) (v := 32) dL_law_134 rfl (by decide) ?_
      refine pw_irem (pc2 := 137) dL_law_136 rfl (by decide) ?_
      refine pw_istore (pc2 := 139) (L2 := [(14, Value.int ((nI x) - (nI x) / 32 * 32)), (13, Value.int 0), (0, Value.ref sc), (1, Value.ref (A 0 0)), (2, Value.ref (A 60 0)), (3, Value.int (nI (nrl σ))), (4, Value.int (nI c)), (5, Value.int (nI m)), (6, Value.int (nI x)), (7, Value.int (nI w)), (8, Value.int (nI K)), (9, Value.int nm), (10, Value.int iw), (11, Value.long bef)]) dL_law_137 rfl (by decide) rfl ?_
      refine PW.sub (L2 := [(0, Value.ref sc), (1, Value.ref (A 0 0)), (2, Value.ref (A 60 0)), (3, Value.int (nI (nrl σ))), (4, Value.int (nI c)), (5, Value.int (nI m)), (7, Value.int (nI w)), (8, Value.int (nI K)), (9, Value.int nm), (10, Value.int iw), (11, Value.long bef), (13, Value.int 0), (14, Value.int ((nI x) - (nI x) / 32 * 32))]) [2, 3, 4, 5, 6, 7, 9, 10, 11, 12, 13, 1, 0] rfl ?_
      exact lw_139 hd HW HJ HD hK0 hK20 hKn hw hN hK
    · refine pw_bipush (pc2 := 129) (v := 12) dL_law_127 rfl (by decide) ?_
      refine pw_goto (tgt := 137) dL_law_129 (by decide) ?_
      refine pw_istore (pc2 := 139) (L2 := [(14, Value.int 12), (13, Value.int 0), (0, Value.ref sc), (1, Value.ref (A 0 0)), (2, Value.ref (A 60 0)), (3, Value.int (nI (nrl σ))), (4, Value.int (nI c)), (5, Value.int (nI m)), (6, Value.int (nI x)), (7, Value.int (nI w)), (8, Value.int (nI K)), (9, Value.int nm), (10, Value.int iw), (11, Value.long bef)]) dL_law_137 rfl (by decide) rfl ?_
      refine PW.sub (L2 := [(0, Value.ref sc), (1, Value.ref (A 0 0)), (2, Value.ref (A 60 0)), (3, Value.int (nI (nrl σ))), (4, Value.int (nI c)), (5, Value.int (nI m)), (7, Value.int (nI w)), (8, Value.int (nI K)), (9, Value.int nm), (10, Value.int iw), (11, Value.long bef), (13, Value.int 0), (14, Value.int 12)]) [2, 3, 4, 5, 6, 7, 9, 10, 11, 12, 13, 1, 0] rfl ?_
      exact lw_139 hd HW HJ HD hK0 hK20 hKn hw hN hK
  · refine pw_iconst (pc2 := 118) (v := 0) dL_law_117 rfl (by decide) ?_
    refine pw_goto (tgt := 137) dL_law_118 (by decide) ?_
    refine pw_istore (pc2 := 139) (L2 := [(14, Value.int 0), (13, Value.int 0), (0, Value.ref sc), (1, Value.ref (A 0 0)), (2, Value.ref (A 60 0)), (3, Value.int (nI (nrl σ))), (4, Value.int (nI c)), (5, Value.int (nI m)), (6, Value.int (nI x)), (7, Value.int (nI w)), (8, Value.int (nI K)), (9, Value.int nm), (10, Value.int iw), (11, Value.long bef)]) dL_law_137 rfl (by decide) rfl ?_
    refine PW.sub (L2 := [(0, Value.ref sc), (1, Value.ref (A 0 0)), (2, Value.ref (A 60 0)), (3, Value.int (nI (nrl σ))), (4, Value.int (nI c)), (5, Value.int (nI m)), (7, Value.int (nI w)), (8, Value.int (nI K)), (9, Value.int nm), (10, Value.int iw), (11, Value.long bef), (13, Value.int 0), (14, Value.int 0)]) [2, 3, 4, 5, 6, 7, 9, 10, 11, 12, 13, 1, 0] rfl ?_
    exact lw_139 hd HW HJ HD hK0 hK20 hKn hw hN hK
set_option maxHeartbeats 8000000 in
set_option maxRecDepth 100000 in
theorem lw_body {G : hG} {sc Ln d : Nat} {xs : Nat → Int32} (hd : 20 ≤ d) {kc ks : Nat} (hLn : Ln ≤ 260) {h : hp} {A : aT} {σ : sT} {ofr : Nat → Nat} {N : Nat} (HW : WS G h A σ) (HJ : J σ ofr N) (HD : JD σ ofr (nrl σ)) {c m : Nat} (hm : m < 99000) (hN : N < 1000000) (kk : ∀ (h2 : hp) (A' : aT) (σ' : sT) (ofr' : Nat → Nat), A' 0 0 = A 0 0 → A' 60 0 = A 60 0 → WS G h2 A' σ' → J σ' ofr' (N + 9999) → JD σ' ofr' (nrl σ') → PW G ML_law d (psX sc Ln xs) EL (kc) (ks) 33 [(0, Value.ref sc), (1, Value.ref (A' 0 0)), (2, Value.ref (A' 60 0)), (3, Value.int (nI (nrl σ'))), (4, Value.int (nI c)), (5, Value.int (nI (m + 1)))] [] h2) : PW G ML_law d (psX sc Ln xs) EL (kc + 1400) (ks + 8400) 40 [(0, Value.ref sc), (1, Value.ref (A 0 0)), (2, Value.ref (A 60 0)), (3, Value.int (nI (nrl σ))), (4, Value.int (nI c)), (5, Value.int (nI (m)))] [] h := by
  have np6 : npk σ ≤ 6 := HW.n6
  have nr20 : nrl σ ≤ 20 := HW.n20
  have nt8 : nts σ ≤ 8 := HW.n8
  refine pw_aload_n (pc2 := 41) dL_law_40 rfl rfl 0 rfl (by first | exact rf_ref _ | exact rf_opt _ | exact rf_nul) ?_
  refine pw_iconst (pc2 := 42) (v := 1) dL_law_41 rfl (by decide) ?_
  refine pw_iload (pc2 := 44) dL_law_42 rfl 5 rfl ?_
  refine pw_iadd (pc2 := 45) dL_law_44 rfl ?_
  refine pw_topE (y := nI (1 + m)) (nIa 1 m) ?_
  refine PW.widen (kc' := kc + 1400 + 0) (ks' := ks + 8400 + 0) (by omega) (by omega) ?_
  refine pw_callSX (kc := kc + 1400) (ks := ks + 8400) (pc2 := 48) (c_at G _ hLn (k := 1 + m) (by omega)) rfl cs_L_162 rfl dL_law_45 rfl (by omega) rfl (by first | decide | simp [cat_rf, Value.category]) (fun r9 h9 q9 => ?_)
  obtain ⟨rfl, v9, rfl⟩ := q9
  refine pw_ldcI (pc2 := 50) kc_169 dL_law_48 rfl ?_
  refine PW.widen (kc' := kc + 1400 + 0) (ks' := ks + 8400 + 0) (by omega) (by omega) ?_
  refine pw_callS (kc := kc + 1400) (ks := ks + 8400) (pc2 := 53) (c_some G _ v9 (n := 100000000) (by omega) (by omega)) cs_L_166 rfl dL_law_50 rfl (by omega) rfl (by first | decide | simp [cat_rf, Value.category]) (fun r9 h9 q9 => ?_) (fun Y h9 q9 => q9.elim)
  obtain ⟨rfl, x, hx, rfl⟩ := q9
  refine pw_istore (pc2 := 55) (L2 := [(6, Value.int (nI x)), (0, Value.ref sc), (1, Value.ref (A 0 0)), (2, Value.ref (A 60 0)), (3, Value.int (nI (nrl σ))), (4, Value.int (nI c)), (5, Value.int (nI (m)))]) dL_law_53 rfl (by decide) rfl ?_
  obtain ⟨w, ew⟩ : ∃ z, z = x / 32 := ⟨_, rfl⟩
  have hw : w ≤ x := ew ▸ Nat.div_le_self _ _
  refine pw_iload (pc2 := 57) dL_law_55 rfl 0 rfl ?_
  refine pw_bipush (pc2 := 59) (v := 32) dL_law_57 rfl (by decide) ?_
  refine pw_idiv (pc2 := 60) dL_law_59 rfl (by decide) ?_
  refine pw_topE (y := nI w) ((div_n (m := 32) (by omega) (by omega) (by omega)).trans (congrArg nI ew.symm)) ?_
  refine pw_istore (pc2 := 62) (L2 := [(7, Value.int (nI w)), (6, Value.int (nI x)), (0, Value.ref sc), (1, Value.ref (A 0 0)), (2, Value.ref (A 60 0)), (3, Value.int (nI (nrl σ))), (4, Value.int (nI c)), (5, Value.int (nI (m)))]) dL_law_60 rfl (by decide) rfl ?_
  refine pw_iconst (pc2 := 63) (v := 1) dL_law_62 rfl (by decide) ?_
  refine pw_aload_n (pc2 := 64) dL_law_63 rfl rfl 3 rfl (by first | exact rf_ref _ | exact rf_opt _ | exact rf_nul) ?_
  refine PW.widen (kc' := kc + 1393 + 7) (ks' := ks + 8358 + 42) (by omega) (by omega) ?_
  refine pw_lookS (kc := kc + 1393) (ks := ks + 8358) (pc2 := 67) (c_packs G _ HW HJ) cs_L_118 rfl dL_law_64 rfl (by omega) rfl (by first | decide | simp [cat_rf, Value.category]) (fun h1 W1 => ?_)
  refine pw_mmax (pc2 := 70) cs_L_170 dL_law_67 rfl (by first | decide | simp [cat_rf, Value.category]) ?_
  obtain ⟨K, K0, K20, Kn, Ke⟩ := max1 (npk σ) (by omega)
  refine pw_topE Ke ?_
  refine pw_istore (pc2 := 72) (L2 := [(8, Value.int (nI K)), (7, Value.int (nI w)), (6, Value.int (nI x)), (0, Value.ref sc), (1, Value.ref (A 0 0)), (2, Value.ref (A 60 0)), (3, Value.int (nI (nrl σ))), (4, Value.int (nI c)), (5, Value.int (nI (m)))]) dL_law_70 rfl (by decide) rfl ?_
  refine pw_iload (pc2 := 74) dL_law_72 rfl 1 rfl ?_
  refine pw_iload (pc2 := 76) dL_law_74 rfl 0 rfl ?_
  refine pw_irem (pc2 := 77) dL_law_76 rfl (ne_n (n := K) (by omega) (by omega)) ?_
  refine pw_istore (pc2 := 79) (L2 := [(9, Value.int ((nI w) - (nI w) / (nI K) * (nI K))), (8, Value.int (nI K)), (7, Value.int (nI w)), (6, Value.int (nI x)), (0, Value.ref sc), (1, Value.ref (A 0 0)), (2, Value.ref (A 60 0)), (3, Value.int (nI (nrl σ))), (4, Value.int (nI c)), (5, Value.int (nI (m)))]) dL_law_77 rfl (by decide) rfl ?_
  refine pw_iload (pc2 := 81) dL_law_79 rfl 9 rfl ?_
  refine pw_iconst (pc2 := 82) (v := 2) dL_law_81 rfl (by decide) ?_
  refine pw_irem (pc2 := 83) dL_law_82 rfl (by decide) ?_
  refine pw_if_ne (tgt := 90) (pc2 := 86) dL_law_83 (by decide) rfl (fun c83 => ?_) (fun c83 => ?_)
  · refine pw_iconst (pc2 := 91) (v := 0) dL_law_90 rfl (by decide) ?_
    refine pw_istore (pc2 := 93) (L2 := [(10, Value.int 0), (9, Value.int ((nI w) - (nI w) / (nI K) * (nI K))), (8, Value.int (nI K)), (7, Value.int (nI w)), (6, Value.int (nI x)), (0, Value.ref sc), (1, Value.ref (A 0 0)), (2, Value.ref (A 60 0)), (3, Value.int (nI (nrl σ))), (4, Value.int (nI c)), (5, Value.int (nI (m)))]) dL_law_91 rfl (by decide) rfl ?_
    refine pw_iload (pc2 := 95) dL_law_93 rfl 0 rfl ?_
    refine pw_if_eq (tgt := 105) (pc2 := 98) dL_law_95 (by decide) rfl (fun _ => ?_) (fun c95 => by exact absurd (by decide) c95)
    refine pw_lconst (pc2 := 106) (v := 0) dL_law_105 rfl (by decide) ?_
    refine pw_lstore (pc2 := 108) (L2 := [(11, Value.long 0), (10, Value.int 0), (9, Value.int ((nI w) - (nI w) / (nI K) * (nI K))), (8, Value.int (nI K)), (7, Value.int (nI w)), (6, Value.int (nI x)), (0, Value.ref sc), (1, Value.ref (A 0 0)), (2, Value.ref (A 60 0)), (3, Value.int (nI (nrl σ))), (4, Value.int (nI c)), (5, Value.int (nI (m)))]) dL_law_106 rfl (by decide) rfl ?_
    refine PW.sub (L2 := [(0, Value.ref sc), (1, Value.ref (A 0 0)), (2, Value.ref (A 60 0)), (3, Value.int (nI (nrl σ))), (4, Value.int (nI c)), (5, Value.int (nI (m))), (6, Value.int (nI x)), (7, Value.int (nI w)), (8, Value.int (nI K)), (9, Value.int ((nI w) - (nI w) / (nI K) * (nI K))), (10, Value.int 0), (11, Value.long 0)]) [6, 7, 8, 9, 10, 11, 5, 4, 3, 2, 1, 0] rfl ?_
    refine PW.widen (kc' := kc + 1080 + 150) (ks' := ks + 6480 + 900) (by omega) (by omega) ?_
    exact lw_108 (kd := 0) hd W1 HJ HD K0 K20 Kn (by omega) hN (lw_KK hd HJ HD (Or.inl rfl) kk)
  · refine pw_iconst (pc2 := 87) (v := 1) dL_law_86 rfl (by decide) ?_
    refine pw_goto (tgt := 91) dL_law_87 (by decide) ?_
    refine pw_istore (pc2 := 93) (L2 := [(10, Value.int 1), (9, Value.int ((nI w) - (nI w) / (nI K) * (nI K))), (8, Value.int (nI K)), (7, Value.int (nI w)), (6, Value.int (nI x)), (0, Value.ref sc), (1, Value.ref (A 0 0)), (2, Value.ref (A 60 0)), (3, Value.int (nI (nrl σ))), (4, Value.int (nI c)), (5, Value.int (nI (m)))]) dL_law_91 rfl (by decide) rfl ?_
    refine pw_iload (pc2 := 95) dL_law_93 rfl 0 rfl ?_
    refine pw_if_eq (tgt := 105) (pc2 := 98) dL_law_95 (by decide) rfl (fun c95 => by exact absurd c95 (by decide)) (fun _ => ?_)
    refine pw_aload_n (pc2 := 99) dL_law_98 rfl rfl 6 rfl (by first | exact rf_ref _ | exact rf_opt _ | exact rf_nul) ?_
    refine PW.widen (kc' := kc + 1263 + 130) (ks' := ks + 7578 + 780) (by omega) (by omega) ?_
    refine pw_lookS (kc := kc + 1263) (ks := ks + 7578) (pc2 := 102) (c_sum G _ W1 HJ) cs_L_175 rfl dL_law_99 rfl (by omega) rfl (by first | decide | simp [cat_rf, Value.category]) (fun h2 W2 => ?_)
    refine pw_goto (tgt := 106) dL_law_102 (by decide) ?_
    refine pw_lstore (pc2 := 108) (L2 := [(11, Value.long (sumF σ)), (10, Value.int 1), (9, Value.int ((nI w) - (nI w) / (nI K) * (nI K))), (8, Value.int (nI K)), (7, Value.int (nI w)), (6, Value.int (nI x)), (0, Value.ref sc), (1, Value.ref (A 0 0)), (2, Value.ref (A 60 0)), (3, Value.int (nI (nrl σ))), (4, Value.int (nI c)), (5, Value.int (nI (m)))]) dL_law_106 rfl (by decide) rfl ?_
    refine PW.sub (L2 := [(0, Value.ref sc), (1, Value.ref (A 0 0)), (2, Value.ref (A 60 0)), (3, Value.int (nI (nrl σ))), (4, Value.int (nI c)), (5, Value.int (nI (m))), (6, Value.int (nI x)), (7, Value.int (nI w)), (8, Value.int (nI K)), (9, Value.int ((nI w) - (nI w) / (nI K) * (nI K))), (10, Value.int 1), (11, Value.long (sumF σ))]) [6, 7, 8, 9, 10, 11, 5, 4, 3, 2, 1, 0] rfl ?_
    refine PW.widen (kc' := kc + 1080 + 150) (ks' := ks + 6480 + 900) (by omega) (by omega) ?_
    exact lw_108 (kd := 0) hd W2 HJ HD K0 K20 Kn (by omega) hN (lw_KK hd HJ HD (Or.inr rfl) kk)
