/-! the law's loop -/
theorem sub5 {Ln : Nat} (h : Ln ≤ 2560) : (nI Ln - 5).toInt = (Ln : Int) - 5 := by
  by_cases h5 : 5 ≤ Ln
  · have e : nI Ln - 5 = nI (Ln - 5) := by
      have e1 : nI (Ln - 5) + nI 5 = nI Ln := by rw [nIa]; congr 1; omega
      rw [← e1]
      exact Int32.add_sub_cancel _ _
    rw [e, nI_toInt (by omega)]
    omega
  · rcases (by omega : Ln = 0 ∨ Ln = 1 ∨ Ln = 2 ∨ Ln = 3 ∨ Ln = 4) with rfl | rfl | rfl | rfl | rfl <;> decide
theorem gt5 {Ln c : Nat} (h : Ln ≤ 2560) (hc : c ≤ 513) : nI Ln - 5 < nI (5 * c) ↔ Ln < 5 * c + 5 := by
  rw [Int32.lt_iff_toInt_lt, sub5 h, nI_toInt (by omega)]
  omega
theorem sw26 (v : Int32) : (v.toInt < 0 ∨ 25 < v.toInt) ∨ ∃ w : Nat, w ≤ 25 ∧ v = nI w := by
  by_cases h : v.toInt < 0 ∨ 25 < v.toInt
  · exact Or.inl h
  · refine Or.inr ⟨v.toInt.toNat, by omega, ?_⟩
    apply Int32.toInt_inj.mp
    rw [nI_toInt (by omega)]
    omega
set_option maxHeartbeats 4000000 in
set_option maxRecDepth 100000 in
theorem law_loop {G : hG} {o oD sc Ln d : Nat} {xs : Nat → Int32} (hd : 20 ≤ d) (hL : Ln ≤ 2560) : ∀ (n c : Nat) (h : hp) (A : aT) (σ : sT) (ofr : Nat → Nat), c + n = 513 → INV G h A σ ofr o oD → PW G ML_law d (psX sc Ln xs) EL (n * 40) (n * 400) 28 [(0, Value.ref sc), (1, Value.ref (A 0 0)), (2, Value.ref (A 60 0)), (3, Value.ref o), (4, Value.ref oD), (5, Value.int (nI (5 * c)))] [] h := by
  intro n
  induction n with
  | zero =>
    intro c h A σ ofr hcn HI
    refine pw_iload (pc2 := 30) dL_law_28 rfl 5 rfl ?_
    refine pw_aload_n (pc2 := 31) dL_law_30 rfl rfl 0 rfl (by first | exact rf_ref _ | exact rf_opt _ | exact rf_nul) ?_
    refine pw_slen (pc2 := 32) dL_law_31 rfl ?_
    refine pw_iconst (pc2 := 33) (v := 5) dL_law_32 rfl (by decide) ?_
    refine pw_isub (pc2 := 34) dL_law_33 rfl ?_
    refine pw_icmp_gt (tgt := 1826) (pc2 := 37) dL_law_34 (by decide) rfl (fun _ => ?_) (fun c34 => absurd ((gt5 hL (by omega)).mpr (by omega)) c34)
    refine pw_iconst (pc2 := 1827) (v := 1) dL_law_1826 rfl (by decide) ?_
    exact pw_lret dL_law_1827
  | succ n ih =>
    intro c h A σ ofr hcn HI
    refine pw_iload (pc2 := 30) dL_law_28 rfl 5 rfl ?_
    refine pw_aload_n (pc2 := 31) dL_law_30 rfl rfl 0 rfl (by first | exact rf_ref _ | exact rf_opt _ | exact rf_nul) ?_
    refine pw_slen (pc2 := 32) dL_law_31 rfl ?_
    refine pw_iconst (pc2 := 33) (v := 5) dL_law_32 rfl (by decide) ?_
    refine pw_isub (pc2 := 34) dL_law_33 rfl ?_
    refine pw_icmp_gt (tgt := 1826) (pc2 := 37) dL_law_34 (by decide) rfl (fun c34 => ?_) (fun c34 => ?_)
    · refine pw_iconst (pc2 := 1827) (v := 1) dL_law_1826 rfl (by decide) ?_
      exact pw_lret dL_law_1827
    have hc : 5 * c + 5 ≤ Ln := Nat.not_lt.mp (fun z => c34 ((gt5 hL (by omega)).mpr z))
    refine pw_aload_n (pc2 := 38) dL_law_37 rfl rfl 0 rfl (by first | exact rf_ref _ | exact rf_opt _ | exact rf_nul) ?_
    refine pw_iload (pc2 := 40) dL_law_38 rfl 5 rfl ?_
    refine pw_sld (pc2 := 41) (i := 5 * c) (by omega) (by omega) dL_law_40 rfl ?_
    refine pw_bipush (pc2 := 43) (v := 31) dL_law_41 rfl (by decide) ?_
    refine pw_iand (pc2 := 44) dL_law_43 rfl ?_
    refine pw_topi (fun v ev => ?_)
    have K : ∀ (h8 : hp) (A' : aT) (σ' : sT) (ofr' : Nat → Nat), INV G h8 A' σ' ofr' o oD → A' 0 0 = A 0 0 → A' 60 0 = A 60 0 → PW G ML_law d (psX sc Ln xs) EL (n * 40) (n * 400) 1820 [(0, Value.ref sc), (1, Value.ref (A 0 0)), (2, Value.ref (A 60 0)), (3, Value.ref o), (4, Value.ref oD), (5, Value.int (nI (5 * c)))] [] h8 := by
      intro h8 A' σ' ofr' HI' e0 e60
      refine pw_iinc (pc2 := 1823) (v := nI (5 * (c + 1))) (L2 := [(5, Value.int (nI (5 * (c + 1)))), (0, Value.ref sc), (1, Value.ref (A 0 0)), (2, Value.ref (A 60 0)), (3, Value.ref o), (4, Value.ref oD)]) dL_law_1820 rfl 5 rfl (by show nI (5 * c) + 5 = nI (5 * (c + 1)); exact nIa (5 * c) 5) (by decide) rfl ?_
      refine pw_goto (tgt := 28) dL_law_1823 (by decide) ?_
      refine PW.sub (L2 := [(0, Value.ref sc), (1, Value.ref (A 0 0)), (2, Value.ref (A 60 0)), (3, Value.ref o), (4, Value.ref oD), (5, Value.int (nI (5 * (c + 1))))]) [1, 2, 3, 4, 5, 0] rfl ?_
      rw [← e0, ← e60]
      exact ih (c + 1) h8 A' σ' ofr' (by omega) HI'
    refine PW.widen (kc' := n * 40 + 40) (ks' := n * 400 + 400) (by omega) (by omega) ?_
    rcases sw26 v with hv | ⟨w, hw, rfl⟩
    · refine pw_tableOut (tgt := 1820) dL_law_44 hv (by decide) ?_
      exact PW.widen (by omega) (by omega) (K h A σ ofr HI rfl rfl)
    rcases (by omega : w = 0 ∨ w = 1 ∨ w = 2 ∨ w = 3 ∨ w = 4 ∨ w = 5 ∨ w = 6 ∨ w = 7 ∨ w = 8 ∨ w = 9 ∨ w = 10 ∨ w = 11 ∨ w = 12 ∨ w = 13 ∨ w = 14 ∨ w = 15 ∨ w = 16 ∨ w = 17 ∨ w = 18 ∨ w = 19 ∨ w = 20 ∨ w = 21 ∨ w = 22 ∨ w = 23 ∨ w = 24 ∨ w = 25) with rfl | rfl | rfl | rfl | rfl | rfl | rfl | rfl | rfl | rfl | rfl | rfl | rfl | rfl | rfl | rfl | rfl | rfl | rfl | rfl | rfl | rfl | rfl | rfl | rfl | rfl
    · exact pw_tableIn (tgt := 164) dL_law_44 (by decide) (by decide) (off := 120) (by decide) (by decide) (lc_addPackage HI hd hL hc K)
    · exact pw_tableIn (tgt := 220) dL_law_44 (by decide) (by decide) (off := 176) (by decide) (by decide) (lc_setSource HI hd hL hc K)
    · exact pw_tableIn (tgt := 300) dL_law_44 (by decide) (by decide) (off := 256) (by decide) (by decide) (lc_need HI hd hL hc K)
    · exact pw_tableIn (tgt := 392) dL_law_44 (by decide) (by decide) (off := 348) (by decide) (by decide) (lc_dropNeed HI hd hL hc K)
    · exact pw_tableIn (tgt := 460) dL_law_44 (by decide) (by decide) (off := 416) (by decide) (by decide) (lc_chosen HI hd hL hc K)
    · exact pw_tableIn (tgt := 528) dL_law_44 (by decide) (by decide) (off := 484) (by decide) (by decide) (lc_chosenByAll HI hd hL hc K)
    · exact pw_tableIn (tgt := 596) dL_law_44 (by decide) (by decide) (off := 552) (by decide) (by decide) (lc_compile HI hd hL hc K)
    · exact pw_tableIn (tgt := 659) dL_law_44 (by decide) (by decide) (off := 615) (by decide) (by decide) (lc_compiled HI hd hL hc K)
    · exact pw_tableIn (tgt := 672) dL_law_44 (by decide) (by decide) (off := 628) (by decide) (by decide) (lc_addTest HI hd hL hc K)
    · exact pw_tableIn (tgt := 740) dL_law_44 (by decide) (by decide) (off := 696) (by decide) (by decide) (lc_setFailing HI hd hL hc K)
    · exact pw_tableIn (tgt := 831) dL_law_44 (by decide) (by decide) (off := 787) (by decide) (by decide) (lc_setMachines HI hd hL hc K)
    · exact pw_tableIn (tgt := 887) dL_law_44 (by decide) (by decide) (off := 843) (by decide) (by decide) (lc_fund HI hd hL hc K)
    · exact pw_tableIn (tgt := 955) dL_law_44 (by decide) (by decide) (off := 911) (by decide) (by decide) (lc_budget HI hd hL hc K)
    · exact pw_tableIn (tgt := 1011) dL_law_44 (by decide) (by decide) (off := 967) (by decide) (by decide) (lc_testTime HI hd hL hc K)
    · exact pw_tableIn (tgt := 1067) dL_law_44 (by decide) (by decide) (off := 1023) (by decide) (by decide) (lc_test HI hd hL hc K)
    · exact pw_tableIn (tgt := 1123) dL_law_44 (by decide) (by decide) (off := 1079) (by decide) (by decide) (lc_flaky HI hd hL hc K)
    · exact pw_tableIn (tgt := 1179) dL_law_44 (by decide) (by decide) (off := 1135) (by decide) (by decide) (lc_flakiest HI hd hL hc K)
    · exact pw_tableIn (tgt := 1223) dL_law_44 (by decide) (by decide) (off := 1179) (by decide) (by decide) (lc_canPublish HI hd hL hc K)
    · exact pw_tableIn (tgt := 1286) dL_law_44 (by decide) (by decide) (off := 1242) (by decide) (by decide) (lc_nextVersion HI hd hL hc K)
    · exact pw_tableIn (tgt := 1342) dL_law_44 (by decide) (by decide) (off := 1298) (by decide) (by decide) (lc_publish HI hd hL hc K)
    · exact pw_tableIn (tgt := 1398) dL_law_44 (by decide) (by decide) (off := 1354) (by decide) (by decide) (lc_yank HI hd hL hc K)
    · exact pw_tableIn (tgt := 1466) dL_law_44 (by decide) (by decide) (off := 1422) (by decide) (by decide) (lc_isStale HI hd hL hc K)
    · exact pw_tableIn (tgt := 1541) dL_law_44 (by decide) (by decide) (off := 1497) (by decide) (by decide) (lc_relock HI hd hL hc K)
    · exact pw_tableIn (tgt := 1609) dL_law_44 (by decide) (by decide) (off := 1565) (by decide) (by decide) (lc_locked HI hd hL hc K)
    · exact pw_tableIn (tgt := 1689) dL_law_44 (by decide) (by decide) (off := 1645) (by decide) (by decide) (lc_goodShare HI hd hL hc K)
    · exact pw_tableIn (tgt := 1755) dL_law_44 (by decide) (by decide) (off := 1711) (by decide) (by decide) (lc_meanPaid HI hd hL hc K)
