/-! rows for calls that look; how many packages and tests there are -/
section PLK
variable {G : hG} {M M2 : hMI} {d : Nat} {Ps : hAmb} {E : hEnd} {kc ks mc ms pc pc2 : Nat} {L : List (Nat × Value)} {S rest : List Value} {h : hp} {A : aT} {σ : sT} {v : Value}
theorem pw_lookS {k idx n : Nat} {As : List Value} (hc : PMet G M2 k mc ms As h (QL G A σ v) noX) (cs : CSs M.1.cls M2 idx n) (hn : As.length = n) (hdg : decode M.2.1 pc = .ok (.invokestatic idx, 3)) (hpc : pc + 3 = pc2) (hd : k + 1 ≤ d) (hst : S = As.reverse ++ rest) (hcat : (rest.map fun v => v.category).sum ≤ 8)
    (kk : ∀ h', WS G h' A σ → PW G M d Ps E kc ks pc2 L (v :: rest) h') : PW G M d Ps E (kc + mc) (ks + ms) pc L S h := by
  refine pw_callS hc cs hn hdg hpc hd hst hcat (fun r h' q => ?_) (fun Y h' q => q.elim)
  obtain ⟨rfl, W⟩ := q
  exact kk h' W
theorem pw_lookV {k idx n ci b : Nat} {As : List Value} (hc : PMet G M2 k mc ms (.ref b :: As) h (QL G A σ v) noX) (cs : CSv M.1.cls M2 idx n ci) (hn : As.length = n) (hh : M2.2.2.2.2 = []) (hbo : ∃ fs, h b = some (.inr (ci, fs))) (hdg : decode M.2.1 pc = .ok (.invokevirtual idx, 3)) (hpc : pc + 3 = pc2) (hd : k + 1 ≤ d) (hst : S = As.reverse ++ .ref b :: rest) (hcat : (rest.map fun v => v.category).sum ≤ 8)
    (kk : ∀ h', WS G h' A σ → PW G M d Ps E kc ks pc2 L (v :: rest) h') : PW G M d Ps E (kc + mc) (ks + ms) pc L S h := by
  obtain ⟨fs, hb⟩ := hbo
  refine pw_callV hc cs hn hh hb hdg hpc hd hst hcat (fun r h' q => ?_) (fun Y h' q => q.elim)
  obtain ⟨rfl, W⟩ := q
  exact kk h' W
theorem pw_topEL {x y : Int64} (e : x = y) (k : PW G M d Ps E kc ks pc L (.long y :: S) h) : PW G M d Ps E kc ks pc L (.long x :: S) h := e ▸ k
end PLK
theorem kcL_125 : Cond.constantLong RL 125 31 ∈ gws := gws_of 933 (by decide +kernel) rfl
theorem kcL_129 : Cond.constantLong RL 129 961 ∈ gws := gws_of 934 (by decide +kernel) rfl
theorem kcL_145 : Cond.constantLong RL 145 3 ∈ gws := gws_of 970 (by decide +kernel) rfl
theorem kcL_147 : Cond.constantLong RL 147 5 ∈ gws := gws_of 971 (by decide +kernel) rfl
theorem vAh_nn {G : hG} {h : hp} {A : aT} {σ : sT} {ofr : Nat → Nat} {N p : Nat} (HW : WS G h A σ) (HJ : J σ ofr N) (hp : p < npk σ) : ∃ w, 100 ≤ w ∧ w ≤ 1000 ∧ vAh σ p = nI w := (vAh_gt HJ.2.2.1 HJ.2.2.2.1 (p := p) (by have := HW.n6; omega)).1
theorem neg_lt : (-1001 : Int32) < 0 := by decide
theorem nI_nn {w : Nat} (h : w < 2147483648) : ¬ nI w < 0 := fun z => by rw [Int32.lt_iff_toInt_lt, nI_toInt (by omega)] at z; have e : (0 : Int32).toInt = 0 := rfl; omega
theorem x_in {n : Nat} (h : n ≤ 20) : ¬ inR (nI n) n := fun z => by have := inR_of' (by omega) (by omega) z; omega
set_option maxHeartbeats 4000000 in
set_option maxRecDepth 100000 in
theorem c_packs (G : hG) (h : hp) {A : aT} {σ : sT} {ofr : Nat → Nat} {N : Nat} (HW : WS G h A σ) (HJ : J σ ofr N) : PMet G ML_packs 7 7 42 [.ref (A 0 0)] h (QL G A σ (.int (nI (npk σ)))) noX := by
  refine PMet.of (by decide +kernel) (Nat.le_of_ble_eq_true rfl) (fun d hd => ?_)
  refine PW.sub (L2 := [(0, Value.ref (A 0 0))]) [0] rfl ?_
  have h6 : npk σ ≤ 6 := HW.n6
  refine pw_iconst (pc2 := 1) (v := 0) dL_packs_0 rfl (by decide) ?_
  refine pw_istore_n (pc2 := 2) (L2 := [(1, Value.int 0), (0, Value.ref (A 0 0))]) dL_packs_1 rfl rfl (by decide) rfl ?_
  have lp0 : ∀ (k i : Nat) (h0 : hp), i + k = npk σ → WS G h0 A σ → PW G ML_packs d noA (E0 G (QL G A σ (.int (nI (npk σ)))) noX) (k * 1 + 1) (k * 6 + 6) 2 [(1, Value.int (nI i)), (0, Value.ref (A 0 0))] [] h0 := by
    intro k
    induction k with
    | zero =>
      intro i h0 hik0 W0
      have hi0 : i = npk σ := by omega
      refine PW.widen (kc' := 1) (ks' := 6) (by omega) (by omega) ?_
      refine pw_iload_n (pc2 := 3) dL_packs_2 rfl rfl 0 rfl ?_
      refine pw_bipush (pc2 := 5) (v := 6) dL_packs_3 rfl (by decide) ?_
      by_cases hc6 : i = 6
      · refine pw_icmp_ge (tgt := 23) (pc2 := 8) dL_packs_5 (by decide) rfl (fun _ => ?_) (fun c5 => by exact absurd ((nI_leI (a := 6) (b := i) (by omega) (by omega)).mpr (by omega)) c5)
        refine pw_iload_n (pc2 := 24) dL_packs_23 rfl rfl 0 rfl ?_
        refine pw_iret dL_packs_24 rfl (by first | rfl | assumption | simp [narrow]) ?_
        exact ⟨by rw [show i = npk σ from hi0], W0⟩
      · refine pw_icmp_ge (tgt := 23) (pc2 := 8) dL_packs_5 (by decide) rfl (fun c5 => by exact absurd c5 (fun z => hc6 (by have := (nI_leI (a := 6) (b := i) (by omega) (by omega)).mp z; omega))) (fun _ => ?_)
        refine pw_aload_n (pc2 := 9) dL_packs_8 rfl rfl 1 rfl (by first | exact rf_ref _ | exact rf_opt _ | exact rf_nul) ?_
        refine pw_iload_n (pc2 := 10) dL_packs_9 rfl rfl 0 rfl ?_
        refine pw_iconst (pc2 := 11) (v := 4) dL_packs_10 rfl (by decide) ?_
        refine PW.widen (kc' := 0 + 1) (ks' := 0 + 6) (by omega) (by omega) ?_
        refine pw_lookS (kc := 0) (ks := 0) (pc2 := 14) (x_of4 W0 (by subst hi0; exact x_in (by omega))) cs_L_109 rfl dL_packs_11 rfl (by omega) rfl (by first | decide | simp [cat_rf, Value.category]) (fun h1 W1 => ?_)
        refine pw_if_lt (tgt := 23) (pc2 := 17) dL_packs_14 (by decide) rfl (fun _ => ?_) (fun c14 => by exact absurd (neg_lt) c14)
        refine pw_iload_n (pc2 := 24) dL_packs_23 rfl rfl 0 rfl ?_
        refine pw_iret dL_packs_24 rfl (by first | rfl | assumption | simp [narrow]) ?_
        exact ⟨by rw [show i = npk σ from hi0], W1⟩
    | succ k ih0 =>
      intro i h0 hik0 W0
      have hi0 : i < npk σ := by omega
      refine PW.widen (kc' := k * 1 + 2) (ks' := k * 6 + 12) (by omega) (by omega) ?_
      refine pw_iload_n (pc2 := 3) dL_packs_2 rfl rfl 0 rfl ?_
      refine pw_bipush (pc2 := 5) (v := 6) dL_packs_3 rfl (by decide) ?_
      refine pw_icmp_ge (tgt := 23) (pc2 := 8) dL_packs_5 (by decide) rfl (fun c5 => by exact absurd c5 (fun z => by have := (nI_leI (a := 6) (b := i) (by omega) (by omega)).mp z; omega)) (fun _ => ?_)
      refine pw_aload_n (pc2 := 9) dL_packs_8 rfl rfl 1 rfl (by first | exact rf_ref _ | exact rf_opt _ | exact rf_nul) ?_
      refine pw_iload_n (pc2 := 10) dL_packs_9 rfl rfl 0 rfl ?_
      refine pw_iconst (pc2 := 11) (v := 4) dL_packs_10 rfl (by decide) ?_
      refine PW.widen (kc' := k * 1 + 1 + 1) (ks' := k * 6 + 6 + 6) (by omega) (by omega) ?_
      refine pw_lookS (kc := k * 1 + 1) (ks := k * 6 + 6) (pc2 := 14) (k_of4 W0 hi0) cs_L_109 rfl dL_packs_11 rfl (by omega) rfl (by first | decide | simp [cat_rf, Value.category]) (fun h2 W2 => ?_)
      refine pw_if_lt (tgt := 23) (pc2 := 17) dL_packs_14 (by decide) rfl (fun c14 => by exact absurd c14 (by obtain ⟨w9, a9, b9, e9⟩ := vAh_nn HW HJ hi0; rw [e9]; exact nI_nn (by omega))) (fun _ => ?_)
      refine pw_iinc (pc2 := 20) (v := nI (i + 1)) (L2 := [(1, Value.int (nI (i + 1))), (0, Value.ref (A 0 0))]) dL_packs_17 rfl 0 rfl (by show nI _ + 1 = nI _; exact nI_1 _) (by decide) rfl ?_
      refine pw_goto (tgt := 2) dL_packs_20 (by decide) ?_
      refine PW.sub (L2 := [(1, Value.int (nI (i + 1))), (0, Value.ref (A 0 0))]) [0, 1] rfl ?_
      refine PW.widen (kc' := k * 1 + 1) (ks' := k * 6 + 6) (by omega) (by omega) ?_
      exact ih0 (i + 1) h2 (by omega) W2
  refine PW.sub (L2 := [(1, Value.int 0), (0, Value.ref (A 0 0))]) [0, 1] rfl ?_
  refine PW.widen (kc' := (npk σ - 0) * 1 + 1) (ks' := (npk σ - 0) * 6 + 6) (by omega) (by omega) ?_
  exact lp0 (npk σ - 0) 0 h (by omega) HW
set_option maxHeartbeats 4000000 in
set_option maxRecDepth 100000 in
theorem c_many (G : hG) (h : hp) {A : aT} {σ : sT} {ofr : Nat → Nat} {N : Nat} (HW : WS G h A σ) (HJ : J σ ofr N) : PMet G ML_testMany 7 9 54 [.ref (A 0 0)] h (QL G A σ (.int (nI (nts σ)))) noX := by
  refine PMet.of (by decide +kernel) (Nat.le_of_ble_eq_true rfl) (fun d hd => ?_)
  refine PW.sub (L2 := [(0, Value.ref (A 0 0))]) [0] rfl ?_
  have h6 : nts σ ≤ 8 := HW.n8
  refine pw_iconst (pc2 := 1) (v := 0) dL_testMany_0 rfl (by decide) ?_
  refine pw_istore_n (pc2 := 2) (L2 := [(1, Value.int 0), (0, Value.ref (A 0 0))]) dL_testMany_1 rfl rfl (by decide) rfl ?_
  have lp0 : ∀ (k i : Nat) (h0 : hp), i + k = nts σ → WS G h0 A σ → PW G ML_testMany d noA (E0 G (QL G A σ (.int (nI (nts σ)))) noX) (k * 1 + 1) (k * 6 + 6) 2 [(1, Value.int (nI i)), (0, Value.ref (A 0 0))] [] h0 := by
    intro k
    induction k with
    | zero =>
      intro i h0 hik0 W0
      have hi0 : i = nts σ := by omega
      refine PW.widen (kc' := 1) (ks' := 6) (by omega) (by omega) ?_
      refine pw_iload_n (pc2 := 3) dL_testMany_2 rfl rfl 0 rfl ?_
      refine pw_bipush (pc2 := 5) (v := 8) dL_testMany_3 rfl (by decide) ?_
      by_cases hc6 : i = 8
      · refine pw_icmp_ge (tgt := 23) (pc2 := 8) dL_testMany_5 (by decide) rfl (fun _ => ?_) (fun c5 => by exact absurd ((nI_leI (a := 8) (b := i) (by omega) (by omega)).mpr (by omega)) c5)
        refine pw_iload_n (pc2 := 24) dL_testMany_23 rfl rfl 0 rfl ?_
        refine pw_iret dL_testMany_24 rfl (by first | rfl | assumption | simp [narrow]) ?_
        exact ⟨by rw [show i = nts σ from hi0], W0⟩
      · refine pw_icmp_ge (tgt := 23) (pc2 := 8) dL_testMany_5 (by decide) rfl (fun c5 => by exact absurd c5 (fun z => hc6 (by have := (nI_leI (a := 8) (b := i) (by omega) (by omega)).mp z; omega))) (fun _ => ?_)
        refine pw_aload_n (pc2 := 9) dL_testMany_8 rfl rfl 1 rfl (by first | exact rf_ref _ | exact rf_opt _ | exact rf_nul) ?_
        refine pw_iload_n (pc2 := 10) dL_testMany_9 rfl rfl 0 rfl ?_
        refine pw_iconst (pc2 := 11) (v := 0) dL_testMany_10 rfl (by decide) ?_
        refine PW.widen (kc' := 0 + 1) (ks' := 0 + 6) (by omega) (by omega) ?_
        refine pw_lookS (kc := 0) (ks := 0) (pc2 := 14) (x_ts0 W0 HJ (by subst hi0; exact x_in (by omega))) cs_L_115 rfl dL_testMany_11 rfl (by omega) rfl (by first | decide | simp [cat_rf, Value.category]) (fun h1 W1 => ?_)
        refine pw_if_lt (tgt := 23) (pc2 := 17) dL_testMany_14 (by decide) rfl (fun _ => ?_) (fun c14 => by exact absurd (neg_lt) c14)
        refine pw_iload_n (pc2 := 24) dL_testMany_23 rfl rfl 0 rfl ?_
        refine pw_iret dL_testMany_24 rfl (by first | rfl | assumption | simp [narrow]) ?_
        exact ⟨by rw [show i = nts σ from hi0], W1⟩
    | succ k ih0 =>
      intro i h0 hik0 W0
      have hi0 : i < nts σ := by omega
      refine PW.widen (kc' := k * 1 + 2) (ks' := k * 6 + 12) (by omega) (by omega) ?_
      refine pw_iload_n (pc2 := 3) dL_testMany_2 rfl rfl 0 rfl ?_
      refine pw_bipush (pc2 := 5) (v := 8) dL_testMany_3 rfl (by decide) ?_
      refine pw_icmp_ge (tgt := 23) (pc2 := 8) dL_testMany_5 (by decide) rfl (fun c5 => by exact absurd c5 (fun z => by have := (nI_leI (a := 8) (b := i) (by omega) (by omega)).mp z; omega)) (fun _ => ?_)
      refine pw_aload_n (pc2 := 9) dL_testMany_8 rfl rfl 1 rfl (by first | exact rf_ref _ | exact rf_opt _ | exact rf_nul) ?_
      refine pw_iload_n (pc2 := 10) dL_testMany_9 rfl rfl 0 rfl ?_
      refine pw_iconst (pc2 := 11) (v := 0) dL_testMany_10 rfl (by decide) ?_
      refine PW.widen (kc' := k * 1 + 1 + 1) (ks' := k * 6 + 6 + 6) (by omega) (by omega) ?_
      refine pw_lookS (kc := k * 1 + 1) (ks := k * 6 + 6) (pc2 := 14) (k_ts0 W0 HJ hi0) cs_L_115 rfl dL_testMany_11 rfl (by omega) rfl (by first | decide | simp [cat_rf, Value.category]) (fun h2 W2 => ?_)
      refine pw_if_lt (tgt := 23) (pc2 := 17) dL_testMany_14 (by decide) rfl (fun c14 => by exact absurd c14 (by obtain ⟨w9, a9, e9⟩ := ct_7 HJ.2.2.2.2 hi0; unfold aFy; rw [e9]; exact nI_nn (by omega))) (fun _ => ?_)
      refine pw_iinc (pc2 := 20) (v := nI (i + 1)) (L2 := [(1, Value.int (nI (i + 1))), (0, Value.ref (A 0 0))]) dL_testMany_17 rfl 0 rfl (by show nI _ + 1 = nI _; exact nI_1 _) (by decide) rfl ?_
      refine pw_goto (tgt := 2) dL_testMany_20 (by decide) ?_
      refine PW.sub (L2 := [(1, Value.int (nI (i + 1))), (0, Value.ref (A 0 0))]) [0, 1] rfl ?_
      refine PW.widen (kc' := k * 1 + 1) (ks' := k * 6 + 6) (by omega) (by omega) ?_
      exact ih0 (i + 1) h2 (by omega) W2
  refine PW.sub (L2 := [(1, Value.int 0), (0, Value.ref (A 0 0))]) [0, 1] rfl ?_
  refine PW.widen (kc' := (nts σ - 0) * 1 + 1) (ks' := (nts σ - 0) * 6 + 6) (by omega) (by omega) ?_
  exact lp0 (nts σ - 0) 0 h (by omega) HW
