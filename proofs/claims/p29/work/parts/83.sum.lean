/-! the sum of all that can be looked at: it sees the state but for what is scratch -/
def f2iV (f : UInt32) : Int32 := if Op.cmpValue (FP.fcmp f f) .l = 0 then f.toInt32 else 2143289344
def s0F (c fl : Int32) (g : UInt32) : Int64 := (Int32.toInt64 c + 31 * Int32.toInt64 fl) + 961 * Int32.toInt64 (f2iV g)
noncomputable def sB (σ : sT) : Nat → Int64
  | 0 => s0F (σ.1 0 0 1) (aFk σ) (aGd σ)
  | b + 1 => 31 * sB σ b + Int32.toInt64 (σ.1 13 0 b)
noncomputable def sQ (σ : sT) (p : Nat) (s : Int64) : Nat → Int64
  | 0 => s
  | q + 1 => 31 * sQ σ p s q + Int32.toInt64 (aCho σ p q)
noncomputable def sMx (σ : sT) (p : Nat) (s : Int64) : Int64 := ((31 * s + Int32.toInt64 (aTm σ p)) + 3 * Int32.toInt64 (aCan σ p)) + 5 * Int32.toInt64 (vAh σ p)
noncomputable def sP (σ : sT) : Nat → Int64
  | 0 => sB σ 3
  | p + 1 => sQ σ p (sMx σ p (sP σ p)) p
noncomputable def aFn (σ : sT) (n : Nat) : Int32 := if n < nts σ then aFy σ n else -1001
noncomputable def sN (σ : sT) : Nat → Int64
  | 0 => sP σ (npk σ)
  | n + 1 => 31 * sN σ n + Int32.toInt64 (aFn σ n)
noncomputable def sumF (σ : sT) : Int64 := 31 * sN σ 8 + Int32.toInt64 (nI (npk σ))
theorem k_tsn {G : hG} {h : hp} {A : aT} {σ : sT} {ofr : Nat → Nat} {N : Nat} (HW : WS G h A σ) (HJ : J σ ofr N) {n : Nat} (hn : n < 1000) : PMet G ML_tests 6 1 6 [.ref (A 0 0), .int (nI n), .int 0] h (QL G A σ (.int (aFn σ n))) noX := by
  have h8 := HW.n8
  unfold aFn
  by_cases q : n < nts σ
  · rw [if_pos q]; exact k_ts0 HW HJ q
  · rw [if_neg q]; exact x_ts0 HW HJ (fun z => q (inR_of' (by omega) (by omega) z))
theorem f2w1 : Cond.methodLink RJxf58ca 74 f2iN ∈ gws := gws_of 966 (by decide +kernel) rfl
theorem f2w2 : Cond.native f2iN ∈ gws := gws_of 968 (by decide +kernel) rfl
theorem f2w3 : Cond.static f2iN ∈ gws := gws_of 967 (by decide +kernel) rfl
theorem f2w4 : Cond.initialized "java/lang/Float" ∈ gws := gws_of 42 (by decide +kernel) rfl
/-- a contract out of a walk, of a member that the machine has no entry for, of a class that has entries -/
theorem PMet.ofF {G : hG} {M : hMI} {k mc ms : Nat} {As : List Value} {h : hp} {Q : Option Value → hp → Prop} {X : String → hp → Prop} (hpl : plainFor M.1 = true) (hh : M.2.2.2.2 = []) (hL : (lg_sl As).length ≤ M.2.2.1)
    (H : ∀ d, k ≤ d → PW G M d noA (E0 G Q X) mc ms 0 (lv_args 0 As) [] h) : PMet G M k mc ms As h Q X := by
  intro l d sz hl hd
  refine MetFree.of_bodySF (code := M.2.1) (maxLocals := M.2.2.1) (ret := M.2.2.2.1) hpl ?_ ?_
  · intro args s m h hn
    obtain ⟨meth, c, h1, h2, h3, h4, h5, h6, -, -⟩ := Cond.code_spec hn (atoms_spec (ws := wsOf M) h _ (by unfold wsOf; rw [if_pos hh]; exact List.mem_cons_self))
    exact ⟨meth, c, h1, h2, h3, h4, h5, h6⟩
  · intro p e s m args below meth c s₁ B hml hP _
    have hh0 : s₁.heap = s.heap := by rw [B.state]; rfl
    have hts0 := atoms_spec (ws := wsOf M) B.pre
    have ht : c.exceptionTable.toList = tableOf M.2.2.2.2 := by
      obtain ⟨meth9, c9, h1, h2, -, -, -, -, h7, -⟩ := Cond.code_spec B.named (hts0 _ (by unfold wsOf; rw [if_pos hh]; exact List.mem_cons_self))
      cases Option.some.inj (h1.symm.trans B.method)
      cases Option.some.inj (h2.symm.trans (Stand.of_body B).code)
      rw [hh, Array.isEmpty_iff.mp h7]
      rfl
    obtain ⟨rfl, hsz, hR, hS, hKk, hEe⟩ := hP
    have hts : ∀ w ∈ gws, w.before As.toArray s = true := fun w hw => hts0 w (List.mem_cons_of_mem _ hw)
    have hown : s.vm.findClass M.1.cls = some m.cls := findClass_of_methodNamed B.named
    have hnm : meth.name = M.1.name := (name_of_methodNamed B.named B.method).1
    have key : W p l e (rmOf d mc ms) s m As.toArray below meth c s.heap [] 0 0 (vx_MQ below (hQc G Q (dm G h sz)) (hXc G X (dm G h sz)) As.toArray s mc ms (dm G h sz)) (entryFrame m As.toArray M.2.2.1) := by
      rw [lg_entry_eq]
      exact H d hd p l e (rmOf d mc ms) s m As.toArray below meth c (dm G h sz) s.heap [] 0 0 _ mc ms
        ⟨B.exec, B.bytes, hml, hown, hts, B.returns, ht, hnm, B.notSynchronized, hl, ⟨Nat.le_refl _, Nat.le_refl _⟩, hKk, hEe, hS, fun q hq => Or.inr (by rw [← hsz]; exact hq), trivial⟩
        hR va_S.rf (lv_entry As hL) ⟨by omega, by omega, Nat.le_refl _, Nat.le_refl _⟩
    obtain ⟨t, a1, o, b1, b2, b3⟩ := key s₁ hh0 (Stand.of_body B)
    exact ⟨t, o, a1, b1, b2, b3⟩
set_option maxHeartbeats 4000000 in
theorem c_isNaN (G : hG) (h : hp) (f : UInt32) : PMet G MJxf58ca_isNaN_12338 0 0 0 [.float f] h (bR (¬ Op.cmpValue (FP.fcmp f f) .l = 0) h) noX := by
  refine PMet.ofF (by decide +kernel) rfl (Nat.le_of_ble_eq_true rfl) (fun d hd => ?_)
  refine PW.sub (L2 := [(0, Value.float f)]) [0] rfl ?_
  refine pw_fload_n (pc2 := 1) dJxf58ca_isNaN_12338_0 rfl rfl 0 rfl ?_
  refine pw_fload_n (pc2 := 2) dJxf58ca_isNaN_12338_1 rfl rfl 0 rfl ?_
  refine pw_fcmp (pc2 := 3) dJxf58ca_isNaN_12338_2 rfl ?_
  refine pw_if_eq (tgt := 10) (pc2 := 6) dJxf58ca_isNaN_12338_3 (by decide) rfl (fun c => ?_) (fun c => ?_)
  · refine pw_iconst (pc2 := 11) (v := 0) dJxf58ca_isNaN_12338_10 rfl (by decide) ?_
    refine pw_iret dJxf58ca_isNaN_12338_11 rfl (by first | rfl | assumption | simp [narrow]) ?_
    exact bR_0 (fun z => z c)
  · refine pw_iconst (pc2 := 7) (v := 1) dJxf58ca_isNaN_12338_6 rfl (by decide) ?_
    refine pw_goto (tgt := 11) dJxf58ca_isNaN_12338_7 (by decide) ?_
    refine pw_iret dJxf58ca_isNaN_12338_11 rfl (by first | rfl | assumption | simp [narrow]) ?_
    exact bR_1 c
set_option maxHeartbeats 4000000 in
theorem c_f2i (G : hG) (h : hp) (f : UInt32) : PMet G MJxf58ca_floatToIntBits_5c35a 1 0 0 [.float f] h (det (some (.int (f2iV f))) h) noX := by
  refine PMet.ofF (by decide +kernel) rfl (Nat.le_of_ble_eq_true rfl) (fun d hd => ?_)
  refine PW.sub (L2 := [(0, Value.float f)]) [0] rfl ?_
  refine pw_fload_n (pc2 := 1) dJxf58ca_floatToIntBits_5c35a_0 rfl rfl 0 rfl ?_
  refine pw_callSb (pc2 := 4) (c_isNaN G h f) cs_Jxf58ca_59 rfl dJxf58ca_floatToIntBits_5c35a_1 rfl (by omega) rfl (by first | decide | simp [cat_rf, Value.category]) (fun q => ?_) (fun q => ?_)
  · refine pw_if_ne (tgt := 12) (pc2 := 7) dJxf58ca_floatToIntBits_5c35a_4 (by decide) rfl (fun _ => ?_) (fun c => by exact absurd c (by decide))
    refine pw_ldcI (pc2 := 14) kc_77 dJxf58ca_floatToIntBits_5c35a_12 rfl ?_
    refine pw_iret dJxf58ca_floatToIntBits_5c35a_14 rfl (by first | rfl | assumption | simp [narrow]) ?_
    exact ⟨by unfold f2iV; rw [if_neg q], rfl⟩
  · refine pw_if_ne (tgt := 12) (pc2 := 7) dJxf58ca_floatToIntBits_5c35a_4 (by decide) rfl (fun c => by exact absurd (by decide) c) (fun _ => ?_)
    refine pw_fload_n (pc2 := 8) dJxf58ca_floatToIntBits_5c35a_7 rfl rfl 0 rfl ?_
    refine pw_f2iN (pc2 := 11) f2w1 f2w2 f2w3 f2w4 (by first | decide | simp [cat_rf, Value.category]) dJxf58ca_floatToIntBits_5c35a_8 rfl ?_
    refine pw_iret dJxf58ca_floatToIntBits_5c35a_11 rfl (by first | rfl | assumption | simp [narrow]) ?_
    exact ⟨by unfold f2iV; rw [if_pos (Decidable.not_not.mp q)], rfl⟩
set_option maxHeartbeats 4000000 in
set_option maxRecDepth 100000 in
theorem c_sum (G : hG) (h : hp) {A : aT} {σ : sT} {ofr : Nat → Nat} {N : Nat} (HW : WS G h A σ) (HJ : J σ ofr N) : PMet G ML_sum 15 130 780 [.ref (A 0 0)] h (QL G A σ (.long (sumF σ))) noX := by
  refine PMet.of (by decide +kernel) (Nat.le_of_ble_eq_true rfl) (fun d hd => ?_)
  refine PW.sub (L2 := [(0, Value.ref (A 0 0))]) [0] rfl ?_
  have h6 : npk σ ≤ 6 := HW.n6
  refine pw_aload_n (pc2 := 1) dL_sum_0 rfl rfl 0 rfl (by first | exact rf_ref _ | exact rf_opt _ | exact rf_nul) ?_
  refine PW.widen (kc' := 123 + 7) (ks' := 738 + 42) (by omega) (by omega) ?_
  refine pw_lookS (kc := 123) (ks := 738) (pc2 := 4) (c_packs G _ HW HJ) cs_L_118 rfl dL_sum_1 rfl (by omega) rfl (by first | decide | simp [cat_rf, Value.category]) (fun h1 W1 => ?_)
  refine pw_istore_n (pc2 := 5) (L2 := [(1, Value.int (nI (npk σ))), (0, Value.ref (A 0 0))]) dL_sum_4 rfl rfl (by decide) rfl ?_
  refine pw_aload_n (pc2 := 6) dL_sum_5 rfl rfl 1 rfl (by first | exact rf_ref _ | exact rf_opt _ | exact rf_nul) ?_
  refine PW.widen (kc' := 123 + 0) (ks' := 738 + 0) (by omega) (by omega) ?_
  refine pw_lookV (kc := 123) (ks := 738) (pc2 := 9) (k_comp W1) cs_L_122 rfl rfl W1.c0 dL_sum_6 rfl (by omega) rfl (by first | decide | simp [cat_rf, Value.category]) (fun h2 W2 => ?_)
  refine pw_i2l (pc2 := 10) dL_sum_9 rfl ?_
  refine pw_ldc2 (pc2 := 13) kcL_125 dL_sum_10 rfl ?_
  refine pw_aload_n (pc2 := 14) dL_sum_13 rfl rfl 1 rfl (by first | exact rf_ref _ | exact rf_opt _ | exact rf_nul) ?_
  refine PW.widen (kc' := 122 + 1) (ks' := 732 + 6) (by omega) (by omega) ?_
  refine pw_lookS (kc := 122) (ks := 732) (pc2 := 17) (k_flk W2 HJ) cs_L_127 rfl dL_sum_14 rfl (by omega) rfl (by first | decide | simp [cat_rf, Value.category]) (fun h3 W3 => ?_)
  refine pw_i2l (pc2 := 18) dL_sum_17 rfl ?_
  refine pw_lmul (pc2 := 19) dL_sum_18 rfl ?_
  refine pw_ladd (pc2 := 20) dL_sum_19 rfl ?_
  refine pw_ldc2 (pc2 := 23) kcL_129 dL_sum_20 rfl ?_
  refine pw_aload_n (pc2 := 24) dL_sum_23 rfl rfl 1 rfl (by first | exact rf_ref _ | exact rf_opt _ | exact rf_nul) ?_
  refine PW.widen (kc' := 121 + 1) (ks' := 726 + 6) (by omega) (by omega) ?_
  refine pw_lookS (kc := 121) (ks := 726) (pc2 := 27) (k_good W3) cs_L_131 rfl dL_sum_24 rfl (by omega) rfl (by first | decide | simp [cat_rf, Value.category]) (fun h4 W4 => ?_)
  refine PW.widen (kc' := 121 + 0) (ks' := 726 + 0) (by omega) (by omega) ?_
  refine pw_callS1 (kc := 121) (ks := 726) (pc2 := 30) (c_f2i G _ (aGd σ)) cs_L_135 rfl dL_sum_27 rfl (by omega) rfl (by first | decide | simp [cat_rf, Value.category]) ?_
  refine pw_i2l (pc2 := 31) dL_sum_30 rfl ?_
  refine pw_lmul (pc2 := 32) dL_sum_31 rfl ?_
  refine pw_ladd (pc2 := 33) dL_sum_32 rfl ?_
  refine pw_topEL (y := sB σ 0) (rfl) ?_
  refine pw_lstore_n (pc2 := 34) (L2 := [(2, Value.long (sB σ 0)), (1, Value.int (nI (npk σ))), (0, Value.ref (A 0 0))]) dL_sum_33 rfl rfl (by decide) rfl ?_
  refine pw_iconst (pc2 := 35) (v := 0) dL_sum_34 rfl (by decide) ?_
  refine pw_istore (pc2 := 37) (L2 := [(4, Value.int 0), (2, Value.long (sB σ 0)), (1, Value.int (nI (npk σ))), (0, Value.ref (A 0 0))]) dL_sum_35 rfl (by decide) rfl ?_
  have lp1 : ∀ (k1 i : Nat) (h1 : hp), i + k1 = 3 → WS G h1 A σ → PW G ML_sum d noA (E0 G (QL G A σ (.long (sumF σ))) noX) (k1 * 1 + 117) (k1 * 6 + 702) 37 [(4, Value.int (nI i)), (2, Value.long (sB σ i)), (1, Value.int (nI (npk σ))), (0, Value.ref (A 0 0))] [] h1 := by
    intro k1
    induction k1 with
    | zero =>
      intro i h1 hik1 W1
      have hi1 : 3 = i := by omega
      subst hi1
      refine PW.widen (kc' := 117) (ks' := 702) (by omega) (by omega) ?_
      refine pw_iload (pc2 := 39) dL_sum_37 rfl 0 rfl ?_
      refine pw_iconst (pc2 := 40) (v := 3) dL_sum_39 rfl (by decide) ?_
      refine pw_icmp_ge (tgt := 66) (pc2 := 43) dL_sum_40 (by decide) rfl (fun _ => ?_) (fun c40 => by exact absurd ((nI_leI (a := 3) (b := 3) (by omega) (by omega)).mpr (by omega)) c40)
      refine pw_iconst (pc2 := 67) (v := 0) dL_sum_66 rfl (by decide) ?_
      refine pw_istore (pc2 := 69) (L2 := [(4, Value.int 0), (2, Value.long (sB σ 3)), (1, Value.int (nI (npk σ))), (0, Value.ref (A 0 0))]) dL_sum_67 rfl (by decide) rfl ?_
      have lp2 : ∀ (k2 i : Nat) (h2 : hp), i + k2 = npk σ → WS G h2 A σ → PW G ML_sum d noA (E0 G (QL G A σ (.long (sumF σ))) noX) (k2 * 18 + 9) (k2 * 108 + 54) 69 [(4, Value.int (nI i)), (2, Value.long (sP σ i)), (1, Value.int (nI (npk σ))), (0, Value.ref (A 0 0))] [] h2 := by
        intro k2
        induction k2 with
        | zero =>
          intro i h2 hik2 W2
          have hi2 : npk σ = i := by omega
          subst hi2
          refine PW.widen (kc' := 9) (ks' := 54) (by omega) (by omega) ?_
          refine pw_iload (pc2 := 71) dL_sum_69 rfl 0 rfl ?_
          refine pw_iload_n (pc2 := 72) dL_sum_71 rfl rfl 2 rfl ?_
          refine pw_icmp_ge (tgt := 155) (pc2 := 75) dL_sum_72 (by decide) rfl (fun _ => ?_) (fun c72 => by exact absurd (Int32.le_refl _) c72)
          refine pw_iconst (pc2 := 156) (v := 0) dL_sum_155 rfl (by decide) ?_
          refine pw_istore (pc2 := 158) (L2 := [(4, Value.int 0), (2, Value.long (sP σ (npk σ))), (1, Value.int (nI (npk σ))), (0, Value.ref (A 0 0))]) dL_sum_156 rfl (by decide) rfl ?_
          have lp4 : ∀ (k4 i : Nat) (h4 : hp), i + k4 = 8 → WS G h4 A σ → PW G ML_sum d noA (E0 G (QL G A σ (.long (sumF σ))) noX) (k4 * 1 + 1) (k4 * 6 + 6) 158 [(4, Value.int (nI i)), (2, Value.long (sN σ i)), (1, Value.int (nI (npk σ))), (0, Value.ref (A 0 0))] [] h4 := by
            intro k4
            induction k4 with
            | zero =>
              intro i h4 hik4 W4
              have hi4 : 8 = i := by omega
              subst hi4
              refine PW.widen (kc' := 1) (ks' := 6) (by omega) (by omega) ?_
              refine pw_iload (pc2 := 160) dL_sum_158 rfl 0 rfl ?_
              refine pw_bipush (pc2 := 162) (v := 8) dL_sum_160 rfl (by decide) ?_
              refine pw_icmp_ge (tgt := 186) (pc2 := 165) dL_sum_162 (by decide) rfl (fun _ => ?_) (fun c162 => by exact absurd ((nI_leI (a := 8) (b := 8) (by omega) (by omega)).mpr (by omega)) c162)
              refine pw_ldc2 (pc2 := 189) kcL_125 dL_sum_186 rfl ?_
              refine pw_lload_n (pc2 := 190) dL_sum_189 rfl rfl 1 rfl ?_
              refine pw_lmul (pc2 := 191) dL_sum_190 rfl ?_
              refine pw_iload_n (pc2 := 192) dL_sum_191 rfl rfl 2 rfl ?_
              refine pw_i2l (pc2 := 193) dL_sum_192 rfl ?_
              refine pw_ladd (pc2 := 194) dL_sum_193 rfl ?_
              refine pw_lret dL_sum_194 rfl ?_
              exact ⟨rfl, W4⟩
            | succ k4 ih4 =>
              intro i h4 hik4 W4
              have hi4 : i < 8 := by omega
              refine PW.widen (kc' := k4 * 1 + 2) (ks' := k4 * 6 + 12) (by omega) (by omega) ?_
              refine pw_iload (pc2 := 160) dL_sum_158 rfl 0 rfl ?_
              refine pw_bipush (pc2 := 162) (v := 8) dL_sum_160 rfl (by decide) ?_
              refine pw_icmp_ge (tgt := 186) (pc2 := 165) dL_sum_162 (by decide) rfl (fun c162 => by exact absurd c162 (fun z => by have := (nI_leI (a := 8) (b := i) (by omega) (by omega)).mp z; omega)) (fun _ => ?_)
              refine pw_ldc2 (pc2 := 168) kcL_125 dL_sum_165 rfl ?_
              refine pw_lload_n (pc2 := 169) dL_sum_168 rfl rfl 1 rfl ?_
              refine pw_lmul (pc2 := 170) dL_sum_169 rfl ?_
              refine pw_aload_n (pc2 := 171) dL_sum_170 rfl rfl 3 rfl (by first | exact rf_ref _ | exact rf_opt _ | exact rf_nul) ?_
              refine pw_iload (pc2 := 173) dL_sum_171 rfl 0 rfl ?_
              refine pw_iconst (pc2 := 174) (v := 0) dL_sum_173 rfl (by decide) ?_
              refine PW.widen (kc' := k4 * 1 + 1 + 1) (ks' := k4 * 6 + 6 + 6) (by omega) (by omega) ?_
              refine pw_lookS (kc := k4 * 1 + 1) (ks := k4 * 6 + 6) (pc2 := 177) (k_tsn W4 HJ (n := i) (by omega)) cs_L_115 rfl dL_sum_174 rfl (by omega) rfl (by first | decide | simp [cat_rf, Value.category]) (fun h6 W6 => ?_)
              refine pw_i2l (pc2 := 178) dL_sum_177 rfl ?_
              refine pw_ladd (pc2 := 179) dL_sum_178 rfl ?_
              refine pw_topEL (y := sN σ (i + 1)) (rfl) ?_
              refine pw_lstore_n (pc2 := 180) (L2 := [(2, Value.long (sN σ (i + 1))), (4, Value.int (nI i)), (1, Value.int (nI (npk σ))), (0, Value.ref (A 0 0))]) dL_sum_179 rfl rfl (by decide) rfl ?_
              refine pw_iinc (pc2 := 183) (v := nI (i + 1)) (L2 := [(4, Value.int (nI (i + 1))), (2, Value.long (sN σ (i + 1))), (1, Value.int (nI (npk σ))), (0, Value.ref (A 0 0))]) dL_sum_180 rfl 1 rfl (by show nI _ + 1 = nI _; exact nI_1 _) (by decide) rfl ?_
              refine pw_goto (tgt := 158) dL_sum_183 (by decide) ?_
              refine PW.sub (L2 := [(4, Value.int (nI (i + 1))), (2, Value.long (sN σ (i + 1))), (1, Value.int (nI (npk σ))), (0, Value.ref (A 0 0))]) [0, 1, 2, 3] rfl ?_
              refine PW.widen (kc' := k4 * 1 + 1) (ks' := k4 * 6 + 6) (by omega) (by omega) ?_
              exact ih4 (i + 1) h6 (by omega) W6
          refine PW.sub (L2 := [(4, Value.int 0), (2, Value.long (sN σ 0)), (1, Value.int (nI (npk σ))), (0, Value.ref (A 0 0))]) [0, 1, 2, 3] rfl ?_
          refine PW.widen (kc' := (8 - 0) * 1 + 1) (ks' := (8 - 0) * 6 + 6) (by omega) (by omega) ?_
          exact lp4 (8 - 0) 0 h2 (by omega) W2
        | succ k2 ih2 =>
          intro i h2 hik2 W2
          have hi2 : i < npk σ := by omega
          refine PW.widen (kc' := k2 * 18 + 27) (ks' := k2 * 108 + 162) (by omega) (by omega) ?_
          refine pw_iload (pc2 := 71) dL_sum_69 rfl 0 rfl ?_
          refine pw_iload_n (pc2 := 72) dL_sum_71 rfl rfl 2 rfl ?_
          refine pw_icmp_ge (tgt := 155) (pc2 := 75) dL_sum_72 (by decide) rfl (fun c72 => by exact absurd c72 (fun z => by have := (nI_leI (a := npk σ) (b := i) (by omega) (by omega)).mp z; omega)) (fun _ => ?_)
          refine pw_ldc2 (pc2 := 78) kcL_125 dL_sum_75 rfl ?_
          refine pw_lload_n (pc2 := 79) dL_sum_78 rfl rfl 1 rfl ?_
          refine pw_lmul (pc2 := 80) dL_sum_79 rfl ?_
          refine pw_aload_n (pc2 := 81) dL_sum_80 rfl rfl 3 rfl (by first | exact rf_ref _ | exact rf_opt _ | exact rf_nul) ?_
          refine pw_iload (pc2 := 83) dL_sum_81 rfl 0 rfl ?_
          refine pw_iconst (pc2 := 84) (v := 2) dL_sum_83 rfl (by decide) ?_
          refine PW.widen (kc' := k2 * 18 + 26 + 1) (ks' := k2 * 108 + 156 + 6) (by omega) (by omega) ?_
          refine pw_lookS (kc := k2 * 18 + 26) (ks := k2 * 108 + 156) (pc2 := 87) (k_of2 W2 HJ hi2) cs_L_109 rfl dL_sum_84 rfl (by omega) rfl (by first | decide | simp [cat_rf, Value.category]) (fun h8 W8 => ?_)
          refine pw_i2l (pc2 := 88) dL_sum_87 rfl ?_
          refine pw_ladd (pc2 := 89) dL_sum_88 rfl ?_
          refine pw_ldc2 (pc2 := 92) kcL_145 dL_sum_89 rfl ?_
          refine pw_aload_n (pc2 := 93) dL_sum_92 rfl rfl 3 rfl (by first | exact rf_ref _ | exact rf_opt _ | exact rf_nul) ?_
          refine pw_iload (pc2 := 95) dL_sum_93 rfl 0 rfl ?_
          refine pw_iconst (pc2 := 96) (v := 3) dL_sum_95 rfl (by decide) ?_
          refine PW.widen (kc' := k2 * 18 + 25 + 1) (ks' := k2 * 108 + 150 + 6) (by omega) (by omega) ?_
          refine pw_lookS (kc := k2 * 18 + 25) (ks := k2 * 108 + 150) (pc2 := 99) (k_of3 W8 hi2) cs_L_109 rfl dL_sum_96 rfl (by omega) rfl (by first | decide | simp [cat_rf, Value.category]) (fun h9 W9 => ?_)
          refine pw_i2l (pc2 := 100) dL_sum_99 rfl ?_
          refine pw_lmul (pc2 := 101) dL_sum_100 rfl ?_
          refine pw_ladd (pc2 := 102) dL_sum_101 rfl ?_
          refine pw_ldc2 (pc2 := 105) kcL_147 dL_sum_102 rfl ?_
          refine pw_aload_n (pc2 := 106) dL_sum_105 rfl rfl 3 rfl (by first | exact rf_ref _ | exact rf_opt _ | exact rf_nul) ?_
          refine pw_iload (pc2 := 108) dL_sum_106 rfl 0 rfl ?_
          refine pw_iconst (pc2 := 109) (v := 4) dL_sum_108 rfl (by decide) ?_
          refine PW.widen (kc' := k2 * 18 + 24 + 1) (ks' := k2 * 108 + 144 + 6) (by omega) (by omega) ?_
          refine pw_lookS (kc := k2 * 18 + 24) (ks := k2 * 108 + 144) (pc2 := 112) (k_of4 W9 hi2) cs_L_109 rfl dL_sum_109 rfl (by omega) rfl (by first | decide | simp [cat_rf, Value.category]) (fun h10 W10 => ?_)
          refine pw_i2l (pc2 := 113) dL_sum_112 rfl ?_
          refine pw_lmul (pc2 := 114) dL_sum_113 rfl ?_
          refine pw_ladd (pc2 := 115) dL_sum_114 rfl ?_
          refine pw_topEL (y := sQ σ i (sMx σ i (sP σ i)) 0) (rfl) ?_
          refine pw_lstore_n (pc2 := 116) (L2 := [(2, Value.long (sQ σ i (sMx σ i (sP σ i)) 0)), (4, Value.int (nI i)), (1, Value.int (nI (npk σ))), (0, Value.ref (A 0 0))]) dL_sum_115 rfl rfl (by decide) rfl ?_
          refine pw_iconst (pc2 := 117) (v := 0) dL_sum_116 rfl (by decide) ?_
          refine pw_istore (pc2 := 119) (L2 := [(5, Value.int 0), (2, Value.long (sQ σ i (sMx σ i (sP σ i)) 0)), (4, Value.int (nI i)), (1, Value.int (nI (npk σ))), (0, Value.ref (A 0 0))]) dL_sum_117 rfl (by decide) rfl ?_
          have lp3 : ∀ (k3 j : Nat) (h3 : hp), j + k3 = i → WS G h3 A σ → PW G ML_sum d noA (E0 G (QL G A σ (.long (sumF σ))) noX) (k2 * 18 + k3 * 3 + 9) (k2 * 108 + k3 * 18 + 54) 119 [(5, Value.int (nI j)), (4, Value.int (nI i)), (2, Value.long (sQ σ i (sMx σ i (sP σ i)) j)), (1, Value.int (nI (npk σ))), (0, Value.ref (A 0 0))] [] h3 := by
            intro k3
            induction k3 with
            | zero =>
              intro j h3 hik3 W3
              have hi3 : i = j := by omega
              subst hi3
              refine PW.widen (kc' := k2 * 18 + 9) (ks' := k2 * 108 + 54) (by omega) (by omega) ?_
              refine pw_iload (pc2 := 121) dL_sum_119 rfl 0 rfl ?_
              refine pw_iload (pc2 := 123) dL_sum_121 rfl 1 rfl ?_
              refine pw_icmp_ge (tgt := 149) (pc2 := 126) dL_sum_123 (by decide) rfl (fun _ => ?_) (fun c123 => by exact absurd (Int32.le_refl _) c123)
              refine pw_iinc (pc2 := 152) (v := nI (i + 1)) (L2 := [(4, Value.int (nI (i + 1))), (5, Value.int (nI i)), (2, Value.long (sQ σ i (sMx σ i (sP σ i)) i)), (1, Value.int (nI (npk σ))), (0, Value.ref (A 0 0))]) dL_sum_149 rfl 1 rfl (by show nI _ + 1 = nI _; exact nI_1 _) (by decide) rfl ?_
              refine pw_goto (tgt := 69) dL_sum_152 (by decide) ?_
              refine PW.sub (L2 := [(4, Value.int (nI (i + 1))), (2, Value.long (sQ σ i (sMx σ i (sP σ i)) i)), (1, Value.int (nI (npk σ))), (0, Value.ref (A 0 0))]) [0, 2, 3, 4] rfl ?_
              refine PW.widen (kc' := k2 * 18 + 9) (ks' := k2 * 108 + 54) (by omega) (by omega) ?_
              exact ih2 (i + 1) h3 (by omega) W3
            | succ k3 ih3 =>
              intro j h3 hik3 W3
              have hi3 : j < i := by omega
              refine PW.widen (kc' := k2 * 18 + k3 * 3 + 12) (ks' := k2 * 108 + k3 * 18 + 72) (by omega) (by omega) ?_
              refine pw_iload (pc2 := 121) dL_sum_119 rfl 0 rfl ?_
              refine pw_iload (pc2 := 123) dL_sum_121 rfl 1 rfl ?_
              refine pw_icmp_ge (tgt := 149) (pc2 := 126) dL_sum_123 (by decide) rfl (fun c123 => by exact absurd c123 (fun z => by have := (nI_leI (a := i) (b := j) (by omega) (by omega)).mp z; omega)) (fun _ => ?_)
              refine pw_ldc2 (pc2 := 129) kcL_125 dL_sum_126 rfl ?_
              refine pw_lload_n (pc2 := 130) dL_sum_129 rfl rfl 2 rfl ?_
              refine pw_lmul (pc2 := 131) dL_sum_130 rfl ?_
              refine pw_aload_n (pc2 := 132) dL_sum_131 rfl rfl 4 rfl (by first | exact rf_ref _ | exact rf_opt _ | exact rf_nul) ?_
              refine pw_iload (pc2 := 134) dL_sum_132 rfl 1 rfl ?_
              refine pw_iload (pc2 := 136) dL_sum_134 rfl 0 rfl ?_
              refine pw_iconst (pc2 := 137) (v := 0) dL_sum_136 rfl (by decide) ?_
              refine PW.widen (kc' := k2 * 18 + k3 * 3 + 9 + 3) (ks' := k2 * 108 + k3 * 18 + 54 + 18) (by omega) (by omega) ?_
              refine pw_lookS (kc := k2 * 18 + k3 * 3 + 9) (ks := k2 * 108 + k3 * 18 + 54) (pc2 := 140) (k_cho0 W3 hi2 (Nat.lt_trans hi3 hi2)) cs_L_149 rfl dL_sum_137 rfl (by omega) rfl (by first | decide | simp [cat_rf, Value.category]) (fun h12 W12 => ?_)
              refine pw_i2l (pc2 := 141) dL_sum_140 rfl ?_
              refine pw_ladd (pc2 := 142) dL_sum_141 rfl ?_
              refine pw_topEL (y := sQ σ i (sMx σ i (sP σ i)) (j + 1)) (rfl) ?_
              refine pw_lstore_n (pc2 := 143) (L2 := [(2, Value.long (sQ σ i (sMx σ i (sP σ i)) (j + 1))), (5, Value.int (nI j)), (4, Value.int (nI i)), (1, Value.int (nI (npk σ))), (0, Value.ref (A 0 0))]) dL_sum_142 rfl rfl (by decide) rfl ?_
              refine pw_iinc (pc2 := 146) (v := nI (j + 1)) (L2 := [(5, Value.int (nI (j + 1))), (2, Value.long (sQ σ i (sMx σ i (sP σ i)) (j + 1))), (4, Value.int (nI i)), (1, Value.int (nI (npk σ))), (0, Value.ref (A 0 0))]) dL_sum_143 rfl 1 rfl (by show nI _ + 1 = nI _; exact nI_1 _) (by decide) rfl ?_
              refine pw_goto (tgt := 119) dL_sum_146 (by decide) ?_
              refine PW.sub (L2 := [(5, Value.int (nI (j + 1))), (4, Value.int (nI i)), (2, Value.long (sQ σ i (sMx σ i (sP σ i)) (j + 1))), (1, Value.int (nI (npk σ))), (0, Value.ref (A 0 0))]) [0, 2, 1, 3, 4] rfl ?_
              refine PW.widen (kc' := k2 * 18 + k3 * 3 + 9) (ks' := k2 * 108 + k3 * 18 + 54) (by omega) (by omega) ?_
              exact ih3 (j + 1) h12 (by omega) W12
          refine PW.sub (L2 := [(5, Value.int 0), (4, Value.int (nI i)), (2, Value.long (sQ σ i (sMx σ i (sP σ i)) 0)), (1, Value.int (nI (npk σ))), (0, Value.ref (A 0 0))]) [0, 2, 1, 3, 4] rfl ?_
          refine PW.widen (kc' := k2 * 18 + (i - 0) * 3 + 9) (ks' := k2 * 108 + (i - 0) * 18 + 54) (by omega) (by omega) ?_
          exact lp3 (i - 0) 0 h10 (by omega) W10
      refine PW.sub (L2 := [(4, Value.int 0), (2, Value.long (sP σ 0)), (1, Value.int (nI (npk σ))), (0, Value.ref (A 0 0))]) [0, 1, 2, 3] rfl ?_
      refine PW.widen (kc' := (npk σ - 0) * 18 + 9) (ks' := (npk σ - 0) * 108 + 54) (by omega) (by omega) ?_
      exact lp2 (npk σ - 0) 0 h1 (by omega) W1
    | succ k1 ih1 =>
      intro i h1 hik1 W1
      have hi1 : i < 3 := by omega
      refine PW.widen (kc' := k1 * 1 + 118) (ks' := k1 * 6 + 708) (by omega) (by omega) ?_
      refine pw_iload (pc2 := 39) dL_sum_37 rfl 0 rfl ?_
      refine pw_iconst (pc2 := 40) (v := 3) dL_sum_39 rfl (by decide) ?_
      refine pw_icmp_ge (tgt := 66) (pc2 := 43) dL_sum_40 (by decide) rfl (fun c40 => by exact absurd c40 (fun z => by have := (nI_leI (a := 3) (b := i) (by omega) (by omega)).mp z; omega)) (fun _ => ?_)
      refine pw_ldc2 (pc2 := 46) kcL_125 dL_sum_43 rfl ?_
      refine pw_lload_n (pc2 := 47) dL_sum_46 rfl rfl 1 rfl ?_
      refine pw_lmul (pc2 := 48) dL_sum_47 rfl ?_
      refine pw_aload_n (pc2 := 49) dL_sum_48 rfl rfl 3 rfl (by first | exact rf_ref _ | exact rf_opt _ | exact rf_nul) ?_
      refine pw_bipush (pc2 := 51) (v := 98) dL_sum_49 rfl (by decide) ?_
      refine pw_iload (pc2 := 53) dL_sum_51 rfl 0 rfl ?_
      refine pw_iconst (pc2 := 54) (v := 0) dL_sum_53 rfl (by decide) ?_
      refine PW.widen (kc' := k1 * 1 + 117 + 1) (ks' := k1 * 6 + 702 + 6) (by omega) (by omega) ?_
      refine pw_lookS (kc := k1 * 1 + 117) (ks := k1 * 6 + 702) (pc2 := 57) (k_mon_b W1 hi1) cs_L_141 rfl dL_sum_54 rfl (by omega) rfl (by first | decide | simp [cat_rf, Value.category]) (fun h14 W14 => ?_)
      refine pw_i2l (pc2 := 58) dL_sum_57 rfl ?_
      refine pw_ladd (pc2 := 59) dL_sum_58 rfl ?_
      refine pw_topEL (y := sB σ (i + 1)) (rfl) ?_
      refine pw_lstore_n (pc2 := 60) (L2 := [(2, Value.long (sB σ (i + 1))), (4, Value.int (nI i)), (1, Value.int (nI (npk σ))), (0, Value.ref (A 0 0))]) dL_sum_59 rfl rfl (by decide) rfl ?_
      refine pw_iinc (pc2 := 63) (v := nI (i + 1)) (L2 := [(4, Value.int (nI (i + 1))), (2, Value.long (sB σ (i + 1))), (1, Value.int (nI (npk σ))), (0, Value.ref (A 0 0))]) dL_sum_60 rfl 1 rfl (by show nI _ + 1 = nI _; exact nI_1 _) (by decide) rfl ?_
      refine pw_goto (tgt := 37) dL_sum_63 (by decide) ?_
      refine PW.sub (L2 := [(4, Value.int (nI (i + 1))), (2, Value.long (sB σ (i + 1))), (1, Value.int (nI (npk σ))), (0, Value.ref (A 0 0))]) [0, 1, 2, 3] rfl ?_
      refine PW.widen (kc' := k1 * 1 + 117) (ks' := k1 * 6 + 702) (by omega) (by omega) ?_
      exact ih1 (i + 1) h14 (by omega) W14
  refine PW.sub (L2 := [(4, Value.int 0), (2, Value.long (sB σ 0)), (1, Value.int (nI (npk σ))), (0, Value.ref (A 0 0))]) [0, 1, 2, 3] rfl ?_
  refine PW.widen (kc' := (3 - 0) * 1 + 117) (ks' := (3 - 0) * 6 + 702) (by omega) (by omega) ?_
  exact lp1 (3 - 0) 0 h4 (by omega) W4
