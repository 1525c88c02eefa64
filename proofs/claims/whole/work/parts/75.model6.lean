/-! the reference: bits, setSource -/
def ur (x y : Int32) : Int32 := (x.toUInt32 >>> (y.toUInt32 &&& Int32.toUInt32 31)).toInt32
def bcF (x0 : Int32) : Int32 :=
  let x1 := x0 - (ur x0 1 &&& 1431655765)
  let x2 := (x1 &&& 858993459) + (ur x1 2 &&& 858993459)
  let x3 := (x2 + ur x2 4) &&& 252645135
  let x4 := x3 + ur x3 8
  let x5 := x4 + ur x4 16
  x5 &&& 63
set_option maxHeartbeats 4000000 in
set_option maxRecDepth 100000 in
theorem c_bitc (G : hG) (h : hp) (x : Int32) : PMet G MJ6_bitCount_0f7a4 0 0 0 [.int x] h (det (some (.int (bcF x))) h) noX := by
  refine PMet.of (by decide +kernel) (Nat.le_of_ble_eq_true rfl) (fun d hd => ?_)
  refine PW.sub (L2 := [(0, Value.int x)]) [0] rfl ?_
  refine pw_iload_n (pc2 := 1) dJ6_bitCount_0f7a4_0 rfl rfl 0 rfl ?_
  refine pw_iload_n (pc2 := 2) dJ6_bitCount_0f7a4_1 rfl rfl 0 rfl ?_
  refine pw_iconst (pc2 := 3) (v := 1) dJ6_bitCount_0f7a4_2 rfl (by decide) ?_
  obtain ⟨u1, eu1⟩ : ∃ z : Int32, z = ((x : Int32).toUInt32 >>> ((1 : Int32).toUInt32 &&& Int32.toUInt32 31)).toInt32 := ⟨_, rfl⟩
  refine pw_iushr (pc2 := 4) (v := u1) dJ6_bitCount_0f7a4_3 rfl eu1.symm ?_
  refine pw_ldcwI (pc2 := 7) kc_265 dJ6_bitCount_0f7a4_4 rfl ?_
  refine pw_iand (pc2 := 8) dJ6_bitCount_0f7a4_7 rfl ?_
  refine pw_isub (pc2 := 9) dJ6_bitCount_0f7a4_8 rfl ?_
  refine pw_topi (fun v2 ev2 => ?_)
  refine pw_istore_n (pc2 := 10) (L2 := [(0, Value.int v2)]) dJ6_bitCount_0f7a4_9 rfl rfl (by decide) rfl ?_
  refine pw_iload_n (pc2 := 11) dJ6_bitCount_0f7a4_10 rfl rfl 0 rfl ?_
  refine pw_ldcwI (pc2 := 14) kc_266 dJ6_bitCount_0f7a4_11 rfl ?_
  refine pw_iand (pc2 := 15) dJ6_bitCount_0f7a4_14 rfl ?_
  refine pw_iload_n (pc2 := 16) dJ6_bitCount_0f7a4_15 rfl rfl 0 rfl ?_
  refine pw_iconst (pc2 := 17) (v := 2) dJ6_bitCount_0f7a4_16 rfl (by decide) ?_
  obtain ⟨u3, eu3⟩ : ∃ z : Int32, z = ((v2 : Int32).toUInt32 >>> ((2 : Int32).toUInt32 &&& Int32.toUInt32 31)).toInt32 := ⟨_, rfl⟩
  refine pw_iushr (pc2 := 18) (v := u3) dJ6_bitCount_0f7a4_17 rfl eu3.symm ?_
  refine pw_ldcwI (pc2 := 21) kc_266 dJ6_bitCount_0f7a4_18 rfl ?_
  refine pw_iand (pc2 := 22) dJ6_bitCount_0f7a4_21 rfl ?_
  refine pw_iadd (pc2 := 23) dJ6_bitCount_0f7a4_22 rfl ?_
  refine pw_topi (fun v4 ev4 => ?_)
  refine pw_istore_n (pc2 := 24) (L2 := [(0, Value.int v4)]) dJ6_bitCount_0f7a4_23 rfl rfl (by decide) rfl ?_
  refine pw_iload_n (pc2 := 25) dJ6_bitCount_0f7a4_24 rfl rfl 0 rfl ?_
  refine pw_iload_n (pc2 := 26) dJ6_bitCount_0f7a4_25 rfl rfl 0 rfl ?_
  refine pw_iconst (pc2 := 27) (v := 4) dJ6_bitCount_0f7a4_26 rfl (by decide) ?_
  obtain ⟨u5, eu5⟩ : ∃ z : Int32, z = ((v4 : Int32).toUInt32 >>> ((4 : Int32).toUInt32 &&& Int32.toUInt32 31)).toInt32 := ⟨_, rfl⟩
  refine pw_iushr (pc2 := 28) (v := u5) dJ6_bitCount_0f7a4_27 rfl eu5.symm ?_
  refine pw_iadd (pc2 := 29) dJ6_bitCount_0f7a4_28 rfl ?_
  refine pw_ldcwI (pc2 := 32) kc_267 dJ6_bitCount_0f7a4_29 rfl ?_
  refine pw_iand (pc2 := 33) dJ6_bitCount_0f7a4_32 rfl ?_
  refine pw_topi (fun v6 ev6 => ?_)
  refine pw_istore_n (pc2 := 34) (L2 := [(0, Value.int v6)]) dJ6_bitCount_0f7a4_33 rfl rfl (by decide) rfl ?_
  refine pw_iload_n (pc2 := 35) dJ6_bitCount_0f7a4_34 rfl rfl 0 rfl ?_
  refine pw_iload_n (pc2 := 36) dJ6_bitCount_0f7a4_35 rfl rfl 0 rfl ?_
  refine pw_bipush (pc2 := 38) (v := 8) dJ6_bitCount_0f7a4_36 rfl (by decide) ?_
  obtain ⟨u7, eu7⟩ : ∃ z : Int32, z = ((v6 : Int32).toUInt32 >>> ((8 : Int32).toUInt32 &&& Int32.toUInt32 31)).toInt32 := ⟨_, rfl⟩
  refine pw_iushr (pc2 := 39) (v := u7) dJ6_bitCount_0f7a4_38 rfl eu7.symm ?_
  refine pw_iadd (pc2 := 40) dJ6_bitCount_0f7a4_39 rfl ?_
  refine pw_topi (fun v8 ev8 => ?_)
  refine pw_istore_n (pc2 := 41) (L2 := [(0, Value.int v8)]) dJ6_bitCount_0f7a4_40 rfl rfl (by decide) rfl ?_
  refine pw_iload_n (pc2 := 42) dJ6_bitCount_0f7a4_41 rfl rfl 0 rfl ?_
  refine pw_iload_n (pc2 := 43) dJ6_bitCount_0f7a4_42 rfl rfl 0 rfl ?_
  refine pw_bipush (pc2 := 45) (v := 16) dJ6_bitCount_0f7a4_43 rfl (by decide) ?_
  obtain ⟨u9, eu9⟩ : ∃ z : Int32, z = ((v8 : Int32).toUInt32 >>> ((16 : Int32).toUInt32 &&& Int32.toUInt32 31)).toInt32 := ⟨_, rfl⟩
  refine pw_iushr (pc2 := 46) (v := u9) dJ6_bitCount_0f7a4_45 rfl eu9.symm ?_
  refine pw_iadd (pc2 := 47) dJ6_bitCount_0f7a4_46 rfl ?_
  refine pw_topi (fun v10 ev10 => ?_)
  refine pw_istore_n (pc2 := 48) (L2 := [(0, Value.int v10)]) dJ6_bitCount_0f7a4_47 rfl rfl (by decide) rfl ?_
  refine pw_iload_n (pc2 := 49) dJ6_bitCount_0f7a4_48 rfl rfl 0 rfl ?_
  refine pw_bipush (pc2 := 51) (v := 63) dJ6_bitCount_0f7a4_49 rfl (by decide) ?_
  refine pw_iand (pc2 := 52) dJ6_bitCount_0f7a4_51 rfl ?_
  refine pw_iret dJ6_bitCount_0f7a4_52 rfl (by first | rfl | assumption | simp [narrow]) ?_
  exact ⟨by subst_vars; rfl, rfl⟩
def tb (k : Nat) (b : Bool) : Int32 := if b then (1 : Int32) <<< (nI k &&& 31) else 0
def mk6 (a b c d e f : Bool) : Int32 := (((((0 ||| tb 0 a) ||| tb 1 b) ||| tb 2 c) ||| tb 3 d) ||| tb 4 e) ||| tb 5 f
def b2I (b : Bool) : Int32 := if b then 1 else 0
theorem bc_mk6 : ∀ a b c d e f : Bool, bcF (mk6 a b c d e f) = ((((((0 : Int32) + b2I a) + b2I b) + b2I c) + b2I d) + b2I e) + b2I f := by decide +kernel
theorem inj_mk6 : ∀ a b c d e f a' b' c' d' e' f' : Bool, mk6 a b c d e f = mk6 a' b' c' d' e' f' → a = a' ∧ b = b' ∧ c = c' ∧ d = d' ∧ e = e' ∧ f = f' := by decide +kernel
theorem bts_mk (L : Nat → Int32) : bts L 6 = mk6 (decide (0 < L 0)) (decide (0 < L 1)) (decide (0 < L 2)) (decide (0 < L 3)) (decide (0 < L 4)) (decide (0 < L 5)) := by
  have e : ∀ k, (if 0 < L k then (1 : Int32) <<< (nI k &&& 31) else 0) = tb k (decide (0 < L k)) := fun k => by
    unfold tb
    by_cases q : 0 < L k
    · rw [if_pos q, if_pos (decide_eq_true q)]
    · rw [if_neg q, if_neg (by rw [decide_eq_false q]; decide)]
  show bts L 5 ||| _ = _
  simp only [bts, e]
  rfl
theorem bts_bc (L g : Nat → Int32) (hL : ∀ j, j < 6 → nbk (L j) (g j)) : bcF (bts L 6) = cnN g 6 := by
  rw [bts_mk, bc_mk6]
  have e : ∀ j, j < 6 → b2I (decide (0 < L j)) = (if g j = 0 then 0 else 1) := fun j hj => by
    unfold b2I
    by_cases q : 0 < L j
    · rw [if_pos (decide_eq_true q), if_neg ((nbk_p (hL j hj)).mp q)]
    · rw [if_neg (by rw [decide_eq_false q]; decide), if_pos (Classical.byContradiction (fun z => q ((nbk_p (hL j hj)).mpr z)))]
  rw [e 0 (by decide), e 1 (by decide), e 2 (by decide), e 3 (by decide), e 4 (by decide), e 5 (by decide)]
  rfl
theorem bts_eq (L L' : Nat → Int32) : bts L 6 = bts L' 6 ↔ ∀ j, j < 6 → (0 < L j ↔ 0 < L' j) := by
  constructor
  · intro e
    rw [bts_mk, bts_mk] at e
    obtain ⟨h0, h1, h2, h3, h4, h5⟩ := inj_mk6 _ _ _ _ _ _ _ _ _ _ _ _ e
    intro j hj
    rcases Nat.lt_or_ge j 3 with q | q
    · rcases (by omega : j = 0 ∨ j = 1 ∨ j = 2) with rfl | rfl | rfl
      · exact decide_eq_decide.mp h0
      · exact decide_eq_decide.mp h1
      · exact decide_eq_decide.mp h2
    · rcases (by omega : j = 3 ∨ j = 4 ∨ j = 5) with rfl | rfl | rfl
      · exact decide_eq_decide.mp h3
      · exact decide_eq_decide.mp h4
      · exact decide_eq_decide.mp h5
  · intro h
    rw [bts_mk, bts_mk, decide_eq_decide.mpr (h 0 (by decide)), decide_eq_decide.mpr (h 1 (by decide)), decide_eq_decide.mpr (h 2 (by decide)), decide_eq_decide.mpr (h 3 (by decide)), decide_eq_decide.mpr (h 4 (by decide)), decide_eq_decide.mpr (h 5 (by decide))]
def mSS (σ : sT) (p : Nat) (f b : Int32) : sT := setI (setI (thS σ 0) 62 0 (upd (σ.1 62 0) p f)) 63 0 (upd (σ.1 63 0) p b)
def mSV (σ : sT) (p : Nat) (f b : Int32) : Int32 := (if σ.1 62 0 p = f then 0 else 1) + (if σ.1 63 0 p = b then 0 else 1)
set_option maxHeartbeats 4000000 in
set_option maxRecDepth 100000 in
theorem c_msetSource (G : hG) (h : hp) {A : aT} {σ : sT} (H : WM G h A σ) (hb : MB σ) (n f b : Int32) : PMet G MX10_setSource 3 0 0 [.ref (A 60 0), .int n, .int f, .int b] h (fun r h2 => (¬ inR n (npk σ) ∧ QSM G h A (.int 0) (thS σ 1) r h2) ∨ (∃ p, p < npk σ ∧ n = nI p ∧ ((¬ (rg9 f ∧ rg9 b) ∧ QSM G h A (.int 0) (thS (thS σ 0) 2) r h2) ∨ (rg9 f ∧ rg9 b ∧ QSM G h A (.int (mSV σ p f b)) (mSS σ p f b) r h2)))) noX := by
  have hnp := H.iv.1
  refine PMet.of (by decide +kernel) (Nat.le_of_ble_eq_true rfl) (fun d hd => ?_)
  refine PW.sub (L2 := [(0, Value.ref (A 60 0)), (1, Value.int n), (2, Value.int f), (3, Value.int b)]) [0, 1, 2, 3] rfl ?_
  refine pw_aload_n (pc2 := 1) dX10_setSource_0 rfl rfl 0 rfl (by first | exact rf_ref _ | exact rf_opt _ | exact rf_nul) ?_
  refine pw_iload_n (pc2 := 2) dX10_setSource_1 rfl rfl 1 rfl ?_
  refine pw_callV (pc2 := 5) (c_lacks G _ H hb n) cs_X10_123 rfl rfl H.c60 dX10_setSource_2 rfl (by omega) rfl (by first | decide | simp [cat_rf, Value.category]) (fun r9 h9 q9 => ?_) (fun Y h9 q9 => q9.elim)
  rcases q9 with ⟨hin, rfl, K1, FK1⟩ | ⟨hin, rfl, K1, FK1⟩
  · obtain ⟨p, hpp, rfl⟩ := inR_ex (by omega) hin
    have hp6 : p < 6 := by omega
    have c60K1 : h9 (A 60 0) = some (oB 13 [.ref (A 61 0), .ref (A 62 0), .ref (A 63 0), .ref (A 64 0), .ref (A 65 0), .ref (A 66 0), .ref (A 67 0), .ref (A 68 0), .ref (A 69 0), .ref (A 70 0), .ref (A 71 0), .ref (A 72 0), .ref (A 73 0), .ref (A 74 0), .ref (A 75 0), .ref (A 76 0), .int (σ.1 60 0 0), .ref (A 77 0), .ref (A 78 0), .ref (A 79 0), .ref (A 80 0), .ref (A 81 0), .ref (A 82 0), .ref (A 83 0), .int (σ.1 60 0 1), .ref (A 84 0), .ref (A 85 0), .ref (A 86 0), .ref (A 87 0), .ref (A 88 0), .int (σ.1 60 0 2), .int (σ.1 60 0 3), .ref (A 89 0), .int (σ.1 60 0 4), .int (σ.1 60 0 5), .int (σ.1 60 0 6), .ref (A 90 0), .int 0]) := K1.c60
    have k620K1 : h9 (A 62 0) = some (aI 6 (σ.1 62 0)) := K1.c62
    have k630K1 : h9 (A 63 0) = some (aI 6 (σ.1 63 0)) := K1.c63
    refine pw_if_eq (tgt := 10) (pc2 := 8) dX10_setSource_5 (by decide) rfl (fun _ => ?_) (fun c5 => by exact absurd (by decide) c5)
    refine pw_iload_n (pc2 := 11) dX10_setSource_10 rfl rfl 2 rfl ?_
    refine pw_iconst (pc2 := 12) (v := 0) dX10_setSource_11 rfl (by decide) ?_
    refine pw_sipush (pc2 := 15) (v := 999) dX10_setSource_12 rfl (by decide) ?_
    refine pw_callSb (pc2 := 18) (c_in G _ f 0 999) cs_X10_115 rfl dX10_setSource_15 rfl (by omega) rfl (by first | decide | simp [cat_rf, Value.category]) (fun q15 => ?_) (fun q15 => ?_)
    · refine pw_if_eq (tgt := 32) (pc2 := 21) dX10_setSource_18 (by decide) rfl (fun c18 => by exact absurd c18 (by decide)) (fun _ => ?_)
      refine pw_iload_n (pc2 := 22) dX10_setSource_21 rfl rfl 3 rfl ?_
      refine pw_iconst (pc2 := 23) (v := 0) dX10_setSource_22 rfl (by decide) ?_
      refine pw_sipush (pc2 := 26) (v := 999) dX10_setSource_23 rfl (by decide) ?_
      refine pw_callSb (pc2 := 29) (c_in G _ b 0 999) cs_X10_115 rfl dX10_setSource_26 rfl (by omega) rfl (by first | decide | simp [cat_rf, Value.category]) (fun q26 => ?_) (fun q26 => ?_)
      · refine pw_if_ne (tgt := 38) (pc2 := 32) dX10_setSource_29 (by decide) rfl (fun _ => ?_) (fun c29 => by exact absurd c29 (by decide))
        refine pw_aload_n (pc2 := 39) dX10_setSource_38 rfl rfl 0 rfl (by first | exact rf_ref _ | exact rf_opt _ | exact rf_nul) ?_
        refine pw_get (pc2 := 42) kX10 (k := 1) (by decide) rfl fl_X10_13 c60K1 rfl dX10_setSource_39 rfl ?_
        refine pw_iload_n (pc2 := 43) dX10_setSource_42 rfl rfl 1 rfl ?_
        refine pw_ialdN (pc2 := 44) k620K1 (i := p) (by first | assumption | omega) (by omega) dX10_setSource_43 rfl ?_
        refine pw_iload_n (pc2 := 45) dX10_setSource_44 rfl rfl 2 rfl ?_
        refine pw_icmp_ne (tgt := 52) (pc2 := 48) dX10_setSource_45 (by decide) rfl (fun c45 => ?_) (fun c45 => ?_)
        · refine pw_iconst (pc2 := 53) (v := 1) dX10_setSource_52 rfl (by decide) ?_
          refine pw_aload_n (pc2 := 54) dX10_setSource_53 rfl rfl 0 rfl (by first | exact rf_ref _ | exact rf_opt _ | exact rf_nul) ?_
          refine pw_get (pc2 := 57) kX10 (k := 2) (by decide) rfl fl_X10_16 c60K1 rfl dX10_setSource_54 rfl ?_
          refine pw_iload_n (pc2 := 58) dX10_setSource_57 rfl rfl 1 rfl ?_
          refine pw_ialdN (pc2 := 59) k630K1 (i := p) (by first | assumption | omega) (by omega) dX10_setSource_58 rfl ?_
          refine pw_iload_n (pc2 := 60) dX10_setSource_59 rfl rfl 3 rfl ?_
          refine pw_icmp_ne (tgt := 67) (pc2 := 63) dX10_setSource_60 (by decide) rfl (fun c60 => ?_) (fun c60 => ?_)
          · refine pw_iconst (pc2 := 68) (v := 1) dX10_setSource_67 rfl (by decide) ?_
            refine pw_iadd (pc2 := 69) dX10_setSource_68 rfl ?_
            refine pw_topi (fun v1 ev1 => ?_)
            refine pw_istore (pc2 := 71) (L2 := [(4, Value.int v1), (0, Value.ref (A 60 0)), (1, Value.int (nI p)), (2, Value.int f), (3, Value.int b)]) dX10_setSource_69 rfl (by decide) rfl ?_
            refine pw_aload_n (pc2 := 72) dX10_setSource_71 rfl rfl 1 rfl (by first | exact rf_ref _ | exact rf_opt _ | exact rf_nul) ?_
            refine pw_get (pc2 := 75) kX10 (k := 1) (by decide) rfl fl_X10_13 c60K1 rfl dX10_setSource_72 rfl ?_
            refine pw_iload_n (pc2 := 76) dX10_setSource_75 rfl rfl 2 rfl ?_
            refine pw_iload_n (pc2 := 77) dX10_setSource_76 rfl rfl 3 rfl ?_
            refine pw_iastN (pc2 := 78) k620K1 (i := p) (by first | assumption | omega) (by omega) dX10_setSource_77 rfl ?_
            refine pw_aload_n (pc2 := 79) dX10_setSource_78 rfl rfl 1 rfl (by first | exact rf_ref _ | exact rf_opt _ | exact rf_nul) ?_
            refine pw_get (pc2 := 82) kX10 (k := 2) (by decide) rfl fl_X10_16 ((va_up_ne _ _ (H.ne (t := 60) (i := 0) (u := 62) (j := 0) rfl rfl (Or.inl (by decide)))).trans c60K1) rfl dX10_setSource_79 rfl ?_
            refine pw_iload_n (pc2 := 83) dX10_setSource_82 rfl rfl 2 rfl ?_
            refine pw_iload_n (pc2 := 84) dX10_setSource_83 rfl rfl 4 rfl ?_
            refine pw_iastN (pc2 := 85) ((va_up_ne _ _ (H.ne (t := 63) (i := 0) (u := 62) (j := 0) rfl rfl (Or.inl (by decide)))).trans k630K1) (i := p) (by first | assumption | omega) (by omega) dX10_setSource_84 rfl ?_
            refine pw_iload (pc2 := 87) dX10_setSource_85 rfl 0 rfl ?_
            refine pw_iret dX10_setSource_87 rfl (by first | rfl | assumption | simp [narrow]) ?_
            obtain ⟨J1, FJ1⟩ := K1.wIF (FK1) (t := 62) (i := 0) (f := (upd (σ.1 62 0) p f)) rfl (by decide) (iv_setI K1.iv (by decide)) rfl
            obtain ⟨J2, FJ2⟩ := J1.wIF (FJ1) (t := 63) (i := 0) (f := (upd (σ.1 63 0) p b)) rfl (by decide) (iv_setI J1.iv (by decide)) rfl
            have ev : v1 = mSV σ p f b := by rw [ev1]; unfold mSV; first | rw [if_pos c45, if_pos c60] | rw [if_pos c45, if_neg c60] | rw [if_neg c45, if_pos c60] | rw [if_neg c45, if_neg c60]
            exact Or.inr ⟨p, hpp, rfl, Or.inr ⟨q15, q26, by rw [ev], J2, FJ2⟩⟩
          · refine pw_iconst (pc2 := 64) (v := 0) dX10_setSource_63 rfl (by decide) ?_
            refine pw_goto (tgt := 68) dX10_setSource_64 (by decide) ?_
            refine pw_iadd (pc2 := 69) dX10_setSource_68 rfl ?_
            refine pw_topi (fun v1 ev1 => ?_)
            refine pw_istore (pc2 := 71) (L2 := [(4, Value.int v1), (0, Value.ref (A 60 0)), (1, Value.int (nI p)), (2, Value.int f), (3, Value.int b)]) dX10_setSource_69 rfl (by decide) rfl ?_
            refine pw_aload_n (pc2 := 72) dX10_setSource_71 rfl rfl 1 rfl (by first | exact rf_ref _ | exact rf_opt _ | exact rf_nul) ?_
            refine pw_get (pc2 := 75) kX10 (k := 1) (by decide) rfl fl_X10_13 c60K1 rfl dX10_setSource_72 rfl ?_
            refine pw_iload_n (pc2 := 76) dX10_setSource_75 rfl rfl 2 rfl ?_
            refine pw_iload_n (pc2 := 77) dX10_setSource_76 rfl rfl 3 rfl ?_
            refine pw_iastN (pc2 := 78) k620K1 (i := p) (by first | assumption | omega) (by omega) dX10_setSource_77 rfl ?_
            refine pw_aload_n (pc2 := 79) dX10_setSource_78 rfl rfl 1 rfl (by first | exact rf_ref _ | exact rf_opt _ | exact rf_nul) ?_
            refine pw_get (pc2 := 82) kX10 (k := 2) (by decide) rfl fl_X10_16 ((va_up_ne _ _ (H.ne (t := 60) (i := 0) (u := 62) (j := 0) rfl rfl (Or.inl (by decide)))).trans c60K1) rfl dX10_setSource_79 rfl ?_
            refine pw_iload_n (pc2 := 83) dX10_setSource_82 rfl rfl 2 rfl ?_
            refine pw_iload_n (pc2 := 84) dX10_setSource_83 rfl rfl 4 rfl ?_
            refine pw_iastN (pc2 := 85) ((va_up_ne _ _ (H.ne (t := 63) (i := 0) (u := 62) (j := 0) rfl rfl (Or.inl (by decide)))).trans k630K1) (i := p) (by first | assumption | omega) (by omega) dX10_setSource_84 rfl ?_
            refine pw_iload (pc2 := 87) dX10_setSource_85 rfl 0 rfl ?_
            refine pw_iret dX10_setSource_87 rfl (by first | rfl | assumption | simp [narrow]) ?_
            obtain ⟨J1, FJ1⟩ := K1.wIF (FK1) (t := 62) (i := 0) (f := (upd (σ.1 62 0) p f)) rfl (by decide) (iv_setI K1.iv (by decide)) rfl
            obtain ⟨J2, FJ2⟩ := J1.wIF (FJ1) (t := 63) (i := 0) (f := (upd (σ.1 63 0) p b)) rfl (by decide) (iv_setI J1.iv (by decide)) rfl
            have ev : v1 = mSV σ p f b := by rw [ev1]; unfold mSV; first | rw [if_pos c45, if_pos c60] | rw [if_pos c45, if_neg c60] | rw [if_neg c45, if_pos c60] | rw [if_neg c45, if_neg c60]
            exact Or.inr ⟨p, hpp, rfl, Or.inr ⟨q15, q26, by rw [ev], J2, FJ2⟩⟩
        · refine pw_iconst (pc2 := 49) (v := 0) dX10_setSource_48 rfl (by decide) ?_
          refine pw_goto (tgt := 53) dX10_setSource_49 (by decide) ?_
          refine pw_aload_n (pc2 := 54) dX10_setSource_53 rfl rfl 0 rfl (by first | exact rf_ref _ | exact rf_opt _ | exact rf_nul) ?_
          refine pw_get (pc2 := 57) kX10 (k := 2) (by decide) rfl fl_X10_16 c60K1 rfl dX10_setSource_54 rfl ?_
          refine pw_iload_n (pc2 := 58) dX10_setSource_57 rfl rfl 1 rfl ?_
          refine pw_ialdN (pc2 := 59) k630K1 (i := p) (by first | assumption | omega) (by omega) dX10_setSource_58 rfl ?_
          refine pw_iload_n (pc2 := 60) dX10_setSource_59 rfl rfl 3 rfl ?_
          refine pw_icmp_ne (tgt := 67) (pc2 := 63) dX10_setSource_60 (by decide) rfl (fun c60 => ?_) (fun c60 => ?_)
          · refine pw_iconst (pc2 := 68) (v := 1) dX10_setSource_67 rfl (by decide) ?_
            refine pw_iadd (pc2 := 69) dX10_setSource_68 rfl ?_
            refine pw_topi (fun v1 ev1 => ?_)
            refine pw_istore (pc2 := 71) (L2 := [(4, Value.int v1), (0, Value.ref (A 60 0)), (1, Value.int (nI p)), (2, Value.int f), (3, Value.int b)]) dX10_setSource_69 rfl (by decide) rfl ?_
            refine pw_aload_n (pc2 := 72) dX10_setSource_71 rfl rfl 1 rfl (by first | exact rf_ref _ | exact rf_opt _ | exact rf_nul) ?_
            refine pw_get (pc2 := 75) kX10 (k := 1) (by decide) rfl fl_X10_13 c60K1 rfl dX10_setSource_72 rfl ?_
            refine pw_iload_n (pc2 := 76) dX10_setSource_75 rfl rfl 2 rfl ?_
            refine pw_iload_n (pc2 := 77) dX10_setSource_76 rfl rfl 3 rfl ?_
            refine pw_iastN (pc2 := 78) k620K1 (i := p) (by first | assumption | omega) (by omega) dX10_setSource_77 rfl ?_
            refine pw_aload_n (pc2 := 79) dX10_setSource_78 rfl rfl 1 rfl (by first | exact rf_ref _ | exact rf_opt _ | exact rf_nul) ?_
            refine pw_get (pc2 := 82) kX10 (k := 2) (by decide) rfl fl_X10_16 ((va_up_ne _ _ (H.ne (t := 60) (i := 0) (u := 62) (j := 0) rfl rfl (Or.inl (by decide)))).trans c60K1) rfl dX10_setSource_79 rfl ?_
            refine pw_iload_n (pc2 := 83) dX10_setSource_82 rfl rfl 2 rfl ?_
            refine pw_iload_n (pc2 := 84) dX10_setSource_83 rfl rfl 4 rfl ?_
            refine pw_iastN (pc2 := 85) ((va_up_ne _ _ (H.ne (t := 63) (i := 0) (u := 62) (j := 0) rfl rfl (Or.inl (by decide)))).trans k630K1) (i := p) (by first | assumption | omega) (by omega) dX10_setSource_84 rfl ?_
            refine pw_iload (pc2 := 87) dX10_setSource_85 rfl 0 rfl ?_
            refine pw_iret dX10_setSource_87 rfl (by first | rfl | assumption | simp [narrow]) ?_
            obtain ⟨J1, FJ1⟩ := K1.wIF (FK1) (t := 62) (i := 0) (f := (upd (σ.1 62 0) p f)) rfl (by decide) (iv_setI K1.iv (by decide)) rfl
            obtain ⟨J2, FJ2⟩ := J1.wIF (FJ1) (t := 63) (i := 0) (f := (upd (σ.1 63 0) p b)) rfl (by decide) (iv_setI J1.iv (by decide)) rfl
            have ev : v1 = mSV σ p f b := by rw [ev1]; unfold mSV; first | rw [if_pos c45, if_pos c60] | rw [if_pos c45, if_neg c60] | rw [if_neg c45, if_pos c60] | rw [if_neg c45, if_neg c60]
            exact Or.inr ⟨p, hpp, rfl, Or.inr ⟨q15, q26, by rw [ev], J2, FJ2⟩⟩
          · refine pw_iconst (pc2 := 64) (v := 0) dX10_setSource_63 rfl (by decide) ?_
            refine pw_goto (tgt := 68) dX10_setSource_64 (by decide) ?_
            refine pw_iadd (pc2 := 69) dX10_setSource_68 rfl ?_
            refine pw_topi (fun v1 ev1 => ?_)
            refine pw_istore (pc2 := 71) (L2 := [(4, Value.int v1), (0, Value.ref (A 60 0)), (1, Value.int (nI p)), (2, Value.int f), (3, Value.int b)]) dX10_setSource_69 rfl (by decide) rfl ?_
            refine pw_aload_n (pc2 := 72) dX10_setSource_71 rfl rfl 1 rfl (by first | exact rf_ref _ | exact rf_opt _ | exact rf_nul) ?_
            refine pw_get (pc2 := 75) kX10 (k := 1) (by decide) rfl fl_X10_13 c60K1 rfl dX10_setSource_72 rfl ?_
            refine pw_iload_n (pc2 := 76) dX10_setSource_75 rfl rfl 2 rfl ?_
            refine pw_iload_n (pc2 := 77) dX10_setSource_76 rfl rfl 3 rfl ?_
            refine pw_iastN (pc2 := 78) k620K1 (i := p) (by first | assumption | omega) (by omega) dX10_setSource_77 rfl ?_
            refine pw_aload_n (pc2 := 79) dX10_setSource_78 rfl rfl 1 rfl (by first | exact rf_ref _ | exact rf_opt _ | exact rf_nul) ?_
            refine pw_get (pc2 := 82) kX10 (k := 2) (by decide) rfl fl_X10_16 ((va_up_ne _ _ (H.ne (t := 60) (i := 0) (u := 62) (j := 0) rfl rfl (Or.inl (by decide)))).trans c60K1) rfl dX10_setSource_79 rfl ?_
            refine pw_iload_n (pc2 := 83) dX10_setSource_82 rfl rfl 2 rfl ?_
            refine pw_iload_n (pc2 := 84) dX10_setSource_83 rfl rfl 4 rfl ?_
            refine pw_iastN (pc2 := 85) ((va_up_ne _ _ (H.ne (t := 63) (i := 0) (u := 62) (j := 0) rfl rfl (Or.inl (by decide)))).trans k630K1) (i := p) (by first | assumption | omega) (by omega) dX10_setSource_84 rfl ?_
            refine pw_iload (pc2 := 87) dX10_setSource_85 rfl 0 rfl ?_
            refine pw_iret dX10_setSource_87 rfl (by first | rfl | assumption | simp [narrow]) ?_
            obtain ⟨J1, FJ1⟩ := K1.wIF (FK1) (t := 62) (i := 0) (f := (upd (σ.1 62 0) p f)) rfl (by decide) (iv_setI K1.iv (by decide)) rfl
            obtain ⟨J2, FJ2⟩ := J1.wIF (FJ1) (t := 63) (i := 0) (f := (upd (σ.1 63 0) p b)) rfl (by decide) (iv_setI J1.iv (by decide)) rfl
            have ev : v1 = mSV σ p f b := by rw [ev1]; unfold mSV; first | rw [if_pos c45, if_pos c60] | rw [if_pos c45, if_neg c60] | rw [if_neg c45, if_pos c60] | rw [if_neg c45, if_neg c60]
            exact Or.inr ⟨p, hpp, rfl, Or.inr ⟨q15, q26, by rw [ev], J2, FJ2⟩⟩
      · refine pw_if_ne (tgt := 38) (pc2 := 32) dX10_setSource_29 (by decide) rfl (fun c29 => by exact absurd (by decide) c29) (fun _ => ?_)
        refine pw_aload_n (pc2 := 33) dX10_setSource_32 rfl rfl 0 rfl (by first | exact rf_ref _ | exact rf_opt _ | exact rf_nul) ?_
        refine pw_iconst (pc2 := 34) (v := 2) dX10_setSource_33 rfl (by decide) ?_
        refine pw_callV (pc2 := 37) (c_raises G _ K1 2) cs_X10_126 rfl rfl c60K1 dX10_setSource_34 rfl (by omega) rfl (by first | decide | simp [cat_rf, Value.category]) (fun r9 h8 q9 => ?_) (fun Y h9 q9 => q9.elim)
        obtain ⟨rfl, q9⟩ := q9
        refine pw_iret dX10_setSource_37 rfl (by first | rfl | assumption | simp [narrow]) ?_
        exact Or.inr ⟨p, hpp, rfl, Or.inl ⟨by first | exact fun z => q15 z.1 | exact fun z => q26 z.2, rfl, q9.1, FK1.tr q9.2⟩⟩
    · refine pw_if_eq (tgt := 32) (pc2 := 21) dX10_setSource_18 (by decide) rfl (fun _ => ?_) (fun c18 => by exact absurd (by decide) c18)
      refine pw_aload_n (pc2 := 33) dX10_setSource_32 rfl rfl 0 rfl (by first | exact rf_ref _ | exact rf_opt _ | exact rf_nul) ?_
      refine pw_iconst (pc2 := 34) (v := 2) dX10_setSource_33 rfl (by decide) ?_
      refine pw_callV (pc2 := 37) (c_raises G _ K1 2) cs_X10_126 rfl rfl c60K1 dX10_setSource_34 rfl (by omega) rfl (by first | decide | simp [cat_rf, Value.category]) (fun r9 h8 q9 => ?_) (fun Y h9 q9 => q9.elim)
      obtain ⟨rfl, q9⟩ := q9
      refine pw_iret dX10_setSource_37 rfl (by first | rfl | assumption | simp [narrow]) ?_
      exact Or.inr ⟨p, hpp, rfl, Or.inl ⟨by first | exact fun z => q15 z.1 | exact fun z => q26 z.2, rfl, q9.1, FK1.tr q9.2⟩⟩
  · refine pw_if_eq (tgt := 10) (pc2 := 8) dX10_setSource_5 (by decide) rfl (fun c5 => by exact absurd c5 (by decide)) (fun _ => ?_)
    refine pw_iconst (pc2 := 9) (v := 0) dX10_setSource_8 rfl (by decide) ?_
    refine pw_iret dX10_setSource_9 rfl (by first | rfl | assumption | simp [narrow]) ?_
    exact Or.inl ⟨hin, rfl, K1, FK1⟩
set_option maxHeartbeats 4000000 in
set_option maxRecDepth 100000 in
theorem c_mneed (G : hG) (h : hp) {A : aT} {σ : sT} (H : WM G h A σ) (hb : MB σ) (n o l g : Int32) : PMet G MX10_need 3 0 0 [.ref (A 60 0), .int n, .int o, .int l, .int g] h (fun r h2 => (¬ (inR n (npk σ) ∧ inR o (npk σ)) ∧ QSM G h A (.int 0) (thS σ 1) r h2) ∨ ((inR n (npk σ) ∧ inR o (npk σ)) ∧ ¬ (o < n ∧ rgV l g) ∧ QSM G h A (.int 0) (thS σ 2) r h2) ∨ (∃ p q, p < npk σ ∧ q < npk σ ∧ n = nI p ∧ o = nI q ∧ q < p ∧ rgV l g ∧ QSM G h A (.int (bcF (bts (upd (σ.1 91 p) q l) 6))) (setI (setI (thS σ 0) 91 p (upd (σ.1 91 p) q l)) 92 p (upd (σ.1 92 p) q g)) r h2)) noX := by
  have hnp := H.iv.1
  refine PMet.of (by decide +kernel) (Nat.le_of_ble_eq_true rfl) (fun d hd => ?_)
  refine PW.sub (L2 := [(0, Value.ref (A 60 0)), (1, Value.int n), (2, Value.int o), (3, Value.int l), (4, Value.int g)]) [0, 1, 2, 3, 4] rfl ?_
  refine pw_aload_n (pc2 := 1) dX10_need_0 rfl rfl 0 rfl (by first | exact rf_ref _ | exact rf_opt _ | exact rf_nul) ?_
  refine pw_aload_n (pc2 := 2) dX10_need_1 rfl rfl 0 rfl (by first | exact rf_ref _ | exact rf_opt _ | exact rf_nul) ?_
  refine pw_iload_n (pc2 := 3) dX10_need_2 rfl rfl 1 rfl ?_
  refine pw_callVb (pc2 := 6) (c_mispk G _ H hb n) cs_X10_119 rfl rfl H.c60 dX10_need_3 rfl (by omega) rfl (by first | decide | simp [cat_rf, Value.category]) (fun q3 => ?_) (fun q3 => ?_)
  · refine pw_if_eq (tgt := 17) (pc2 := 9) dX10_need_6 (by decide) rfl (fun c6 => by exact absurd c6 (by decide)) (fun _ => ?_)
    refine pw_aload_n (pc2 := 10) dX10_need_9 rfl rfl 0 rfl (by first | exact rf_ref _ | exact rf_opt _ | exact rf_nul) ?_
    refine pw_iload_n (pc2 := 11) dX10_need_10 rfl rfl 2 rfl ?_
    refine pw_callVb (pc2 := 14) (c_mispk G _ H hb o) cs_X10_119 rfl rfl H.c60 dX10_need_11 rfl (by omega) rfl (by first | decide | simp [cat_rf, Value.category]) (fun q11 => ?_) (fun q11 => ?_)
    · refine pw_if_ne (tgt := 21) (pc2 := 17) dX10_need_14 (by decide) rfl (fun _ => ?_) (fun c14 => by exact absurd c14 (by decide))
      refine pw_iload_n (pc2 := 22) dX10_need_21 rfl rfl 2 rfl ?_
      refine pw_iload_n (pc2 := 23) dX10_need_22 rfl rfl 1 rfl ?_
      refine pw_icmp_ge (tgt := 50) (pc2 := 26) dX10_need_23 (by decide) rfl (fun c23 => ?_) (fun c23 => ?_)
      · refine pw_iconst (pc2 := 51) (v := 2) dX10_need_50 rfl (by decide) ?_
        refine pw_goto (tgt := 55) dX10_need_51 (by decide) ?_
        refine pw_put (pc2 := 58) kX10 (k := 37) (by decide) rfl rfl fl_X10_109 H.c60 (by first | decide | simp) (by first | rfl | exact nar_rf _ _) (by first | rfl | exact fit_rf _ _) dX10_need_55 rfl ?_
        obtain ⟨K1, FK1⟩ := H.wIF (FM.rfl') (t := 60) (i := 0) (f := (upd (σ.1 60 0) 7 2)) rfl (by decide) (iv_setI H.iv (by decide)) rfl
        obtain ⟨h2, eh2⟩ : ∃ z : Nat → Option hE, z = va_up h (A 60 0) (some (oB 13 [.ref (A 61 0), .ref (A 62 0), .ref (A 63 0), .ref (A 64 0), .ref (A 65 0), .ref (A 66 0), .ref (A 67 0), .ref (A 68 0), .ref (A 69 0), .ref (A 70 0), .ref (A 71 0), .ref (A 72 0), .ref (A 73 0), .ref (A 74 0), .ref (A 75 0), .ref (A 76 0), .int (σ.1 60 0 0), .ref (A 77 0), .ref (A 78 0), .ref (A 79 0), .ref (A 80 0), .ref (A 81 0), .ref (A 82 0), .ref (A 83 0), .int (σ.1 60 0 1), .ref (A 84 0), .ref (A 85 0), .ref (A 86 0), .ref (A 87 0), .ref (A 88 0), .int (σ.1 60 0 2), .int (σ.1 60 0 3), .ref (A 89 0), .int (σ.1 60 0 4), .int (σ.1 60 0 5), .int (σ.1 60 0 6), .ref (A 90 0), .int 2])) := ⟨_, rfl⟩
        refine PW.heap (h' := h2) eh2.symm ?_
        replace K1 : WM G h2 A (thS σ 2) := by rw [eh2]; exact K1
        replace FK1 : FM A h h2 := by rw [eh2]; exact FK1
        have c60K1 : h2 (A 60 0) = some (oB 13 [.ref (A 61 0), .ref (A 62 0), .ref (A 63 0), .ref (A 64 0), .ref (A 65 0), .ref (A 66 0), .ref (A 67 0), .ref (A 68 0), .ref (A 69 0), .ref (A 70 0), .ref (A 71 0), .ref (A 72 0), .ref (A 73 0), .ref (A 74 0), .ref (A 75 0), .ref (A 76 0), .int (σ.1 60 0 0), .ref (A 77 0), .ref (A 78 0), .ref (A 79 0), .ref (A 80 0), .ref (A 81 0), .ref (A 82 0), .ref (A 83 0), .int (σ.1 60 0 1), .ref (A 84 0), .ref (A 85 0), .ref (A 86 0), .ref (A 87 0), .ref (A 88 0), .int (σ.1 60 0 2), .int (σ.1 60 0 3), .ref (A 89 0), .int (σ.1 60 0 4), .int (σ.1 60 0 5), .int (σ.1 60 0 6), .ref (A 90 0), .int 2]) := K1.c60
        refine pw_aload_n (pc2 := 59) dX10_need_58 rfl rfl 0 rfl (by first | exact rf_ref _ | exact rf_opt _ | exact rf_nul) ?_
        refine pw_get (pc2 := 62) kX10 (k := 37) (by decide) rfl fl_X10_109 c60K1 rfl dX10_need_59 rfl ?_
        refine pw_if_le (tgt := 67) (pc2 := 65) dX10_need_62 (by decide) rfl (fun c62 => by exact absurd c62 (by decide)) (fun _ => ?_)
        refine pw_iconst (pc2 := 66) (v := 0) dX10_need_65 rfl (by decide) ?_
        refine pw_iret dX10_need_66 rfl (by first | rfl | assumption | simp [narrow]) ?_
        exact Or.inr (Or.inl ⟨⟨q3, q11⟩, by first | exact fun z => absurd z.1 (Int32.not_lt.mpr c23) | exact fun z => q32 z.2.1 | exact fun z => q44 z.2.2, rfl, K1, FK1⟩)
      · refine pw_iload_n (pc2 := 27) dX10_need_26 rfl rfl 3 rfl ?_
        refine pw_bipush (pc2 := 29) (v := 100) dX10_need_27 rfl (by decide) ?_
        refine pw_sipush (pc2 := 32) (v := 999) dX10_need_29 rfl (by decide) ?_
        refine pw_callSb (pc2 := 35) (c_in G _ l 100 999) cs_X10_115 rfl dX10_need_32 rfl (by omega) rfl (by first | decide | simp [cat_rf, Value.category]) (fun q32 => ?_) (fun q32 => ?_)
        · refine pw_if_eq (tgt := 50) (pc2 := 38) dX10_need_35 (by decide) rfl (fun c35 => by exact absurd c35 (by decide)) (fun _ => ?_)
          refine pw_iload (pc2 := 40) dX10_need_38 rfl 4 rfl ?_
          refine pw_iload_n (pc2 := 41) dX10_need_40 rfl rfl 3 rfl ?_
          refine pw_sipush (pc2 := 44) (v := 999) dX10_need_41 rfl (by decide) ?_
          refine pw_callSb (pc2 := 47) (c_in G _ g l 999) cs_X10_115 rfl dX10_need_44 rfl (by omega) rfl (by first | decide | simp [cat_rf, Value.category]) (fun q44 => ?_) (fun q44 => ?_)
          · refine pw_if_ne (tgt := 54) (pc2 := 50) dX10_need_47 (by decide) rfl (fun _ => ?_) (fun c47 => by exact absurd c47 (by decide))
            obtain ⟨p, hpp, rfl⟩ := inR_ex (by omega) q3
            obtain ⟨q, hqq, rfl⟩ := inR_ex (by omega) q11
            have hp6 : p < 6 := by omega
            have hq6 : q < 6 := by omega
            have hqp : q < p := (nI_ltI (a := q) (b := p) (by omega) (by omega)).mp (by first | exact Int32.not_le.mp c23 | exact c23)
            refine pw_iconst (pc2 := 55) (v := 0) dX10_need_54 rfl (by decide) ?_
            refine pw_put (pc2 := 58) kX10 (k := 37) (by decide) rfl rfl fl_X10_109 H.c60 (by first | decide | simp) (by first | rfl | exact nar_rf _ _) (by first | rfl | exact fit_rf _ _) dX10_need_55 rfl ?_
            obtain ⟨K1, FK1⟩ := H.wIF (FM.rfl') (t := 60) (i := 0) (f := (upd (σ.1 60 0) 7 0)) rfl (by decide) (iv_setI H.iv (by decide)) rfl
            obtain ⟨h2, eh2⟩ : ∃ z : Nat → Option hE, z = va_up h (A 60 0) (some (oB 13 [.ref (A 61 0), .ref (A 62 0), .ref (A 63 0), .ref (A 64 0), .ref (A 65 0), .ref (A 66 0), .ref (A 67 0), .ref (A 68 0), .ref (A 69 0), .ref (A 70 0), .ref (A 71 0), .ref (A 72 0), .ref (A 73 0), .ref (A 74 0), .ref (A 75 0), .ref (A 76 0), .int (σ.1 60 0 0), .ref (A 77 0), .ref (A 78 0), .ref (A 79 0), .ref (A 80 0), .ref (A 81 0), .ref (A 82 0), .ref (A 83 0), .int (σ.1 60 0 1), .ref (A 84 0), .ref (A 85 0), .ref (A 86 0), .ref (A 87 0), .ref (A 88 0), .int (σ.1 60 0 2), .int (σ.1 60 0 3), .ref (A 89 0), .int (σ.1 60 0 4), .int (σ.1 60 0 5), .int (σ.1 60 0 6), .ref (A 90 0), .int 0])) := ⟨_, rfl⟩
            refine PW.heap (h' := h2) eh2.symm ?_
            replace K1 : WM G h2 A (thS σ 0) := by rw [eh2]; exact K1
            replace FK1 : FM A h h2 := by rw [eh2]; exact FK1
            have c60K1 : h2 (A 60 0) = some (oB 13 [.ref (A 61 0), .ref (A 62 0), .ref (A 63 0), .ref (A 64 0), .ref (A 65 0), .ref (A 66 0), .ref (A 67 0), .ref (A 68 0), .ref (A 69 0), .ref (A 70 0), .ref (A 71 0), .ref (A 72 0), .ref (A 73 0), .ref (A 74 0), .ref (A 75 0), .ref (A 76 0), .int (σ.1 60 0 0), .ref (A 77 0), .ref (A 78 0), .ref (A 79 0), .ref (A 80 0), .ref (A 81 0), .ref (A 82 0), .ref (A 83 0), .int (σ.1 60 0 1), .ref (A 84 0), .ref (A 85 0), .ref (A 86 0), .ref (A 87 0), .ref (A 88 0), .int (σ.1 60 0 2), .int (σ.1 60 0 3), .ref (A 89 0), .int (σ.1 60 0 4), .int (σ.1 60 0 5), .int (σ.1 60 0 6), .ref (A 90 0), .int 0]) := K1.c60
            have k91pK1 : h2 (A 91 p) = some (aI 6 (σ.1 91 p)) := (K1.c91 hp6)
            have k92pK1 : h2 (A 92 p) = some (aI 6 (σ.1 92 p)) := (K1.c92 hp6)
            refine pw_aload_n (pc2 := 59) dX10_need_58 rfl rfl 0 rfl (by first | exact rf_ref _ | exact rf_opt _ | exact rf_nul) ?_
            refine pw_get (pc2 := 62) kX10 (k := 37) (by decide) rfl fl_X10_109 c60K1 rfl dX10_need_59 rfl ?_
            refine pw_if_le (tgt := 67) (pc2 := 65) dX10_need_62 (by decide) rfl (fun _ => ?_) (fun c62 => by exact absurd (by decide) c62)
            refine pw_aload_n (pc2 := 68) dX10_need_67 rfl rfl 0 rfl (by first | exact rf_ref _ | exact rf_opt _ | exact rf_nul) ?_
            refine pw_get (pc2 := 71) kX10 (k := 3) (by decide) rfl fl_X10_21 c60K1 rfl dX10_need_68 rfl ?_
            refine pw_iload_n (pc2 := 72) dX10_need_71 rfl rfl 1 rfl ?_
            refine pw_aaldN (pc2 := 73) 6 rfl rfl K1.c64 (i := p) (by first | assumption | omega) (by omega) dX10_need_72 rfl ?_
            refine pw_topV (rowv (by first | assumption | omega)) ?_
            refine pw_iload_n (pc2 := 74) dX10_need_73 rfl rfl 2 rfl ?_
            refine pw_iload_n (pc2 := 75) dX10_need_74 rfl rfl 3 rfl ?_
            refine pw_iastN (pc2 := 76) k91pK1 (i := q) (by first | assumption | omega) (by omega) dX10_need_75 rfl ?_
            obtain ⟨K2, FK2⟩ := K1.wIF (FK1) (t := 91) (i := p) (f := (upd (σ.1 91 p) q l)) hp6 (by decide) (iv_setI K1.iv (by decide)) rfl
            obtain ⟨h3, eh3⟩ : ∃ z : Nat → Option hE, z = va_up h2 (A 91 p) (some (aI 6 (upd (σ.1 91 p) q l))) := ⟨_, rfl⟩
            refine PW.heap (h' := h3) eh3.symm ?_
            replace K2 : WM G h3 A (setI (thS σ 0) 91 p (upd (σ.1 91 p) q l)) := by rw [eh3]; exact K2
            replace FK2 : FM A h h3 := by rw [eh3]; exact FK2
            have c60K2 : h3 (A 60 0) = some (oB 13 [.ref (A 61 0), .ref (A 62 0), .ref (A 63 0), .ref (A 64 0), .ref (A 65 0), .ref (A 66 0), .ref (A 67 0), .ref (A 68 0), .ref (A 69 0), .ref (A 70 0), .ref (A 71 0), .ref (A 72 0), .ref (A 73 0), .ref (A 74 0), .ref (A 75 0), .ref (A 76 0), .int (σ.1 60 0 0), .ref (A 77 0), .ref (A 78 0), .ref (A 79 0), .ref (A 80 0), .ref (A 81 0), .ref (A 82 0), .ref (A 83 0), .int (σ.1 60 0 1), .ref (A 84 0), .ref (A 85 0), .ref (A 86 0), .ref (A 87 0), .ref (A 88 0), .int (σ.1 60 0 2), .int (σ.1 60 0 3), .ref (A 89 0), .int (σ.1 60 0 4), .int (σ.1 60 0 5), .int (σ.1 60 0 6), .ref (A 90 0), .int 0]) := K2.c60
            have k91pK2 : h3 (A 91 p) = some (aI 6 (upd (σ.1 91 p) q l)) := (K2.c91 hp6).trans (congrArg (fun w => some (aI 6 w)) (show (setI (thS σ 0) 91 p (upd (σ.1 91 p) q l)).1 91 p = (upd (σ.1 91 p) q l) from setI_s _ _ _))
            have k92pK2 : h3 (A 92 p) = some (aI 6 (σ.1 92 p)) := (K2.c92 hp6)
            refine pw_aload_n (pc2 := 77) dX10_need_76 rfl rfl 0 rfl (by first | exact rf_ref _ | exact rf_opt _ | exact rf_nul) ?_
            refine pw_get (pc2 := 80) kX10 (k := 4) (by decide) rfl fl_X10_24 c60K2 rfl dX10_need_77 rfl ?_
            refine pw_iload_n (pc2 := 81) dX10_need_80 rfl rfl 1 rfl ?_
            refine pw_aaldN (pc2 := 82) 6 rfl rfl K2.c65 (i := p) (by first | assumption | omega) (by omega) dX10_need_81 rfl ?_
            refine pw_topV (rowv (by first | assumption | omega)) ?_
            refine pw_iload_n (pc2 := 83) dX10_need_82 rfl rfl 2 rfl ?_
            refine pw_iload (pc2 := 85) dX10_need_83 rfl 4 rfl ?_
            refine pw_iastN (pc2 := 86) k92pK2 (i := q) (by first | assumption | omega) (by omega) dX10_need_85 rfl ?_
            obtain ⟨K3, FK3⟩ := K2.wIF (FK2) (t := 92) (i := p) (f := (upd (σ.1 92 p) q g)) hp6 (by decide) (iv_setI K2.iv (by decide)) rfl
            obtain ⟨h4, eh4⟩ : ∃ z : Nat → Option hE, z = va_up h3 (A 92 p) (some (aI 6 (upd (σ.1 92 p) q g))) := ⟨_, rfl⟩
            refine PW.heap (h' := h4) eh4.symm ?_
            replace K3 : WM G h4 A (setI (setI (thS σ 0) 91 p (upd (σ.1 91 p) q l)) 92 p (upd (σ.1 92 p) q g)) := by rw [eh4]; exact K3
            replace FK3 : FM A h h4 := by rw [eh4]; exact FK3
            have c60K3 : h4 (A 60 0) = some (oB 13 [.ref (A 61 0), .ref (A 62 0), .ref (A 63 0), .ref (A 64 0), .ref (A 65 0), .ref (A 66 0), .ref (A 67 0), .ref (A 68 0), .ref (A 69 0), .ref (A 70 0), .ref (A 71 0), .ref (A 72 0), .ref (A 73 0), .ref (A 74 0), .ref (A 75 0), .ref (A 76 0), .int (σ.1 60 0 0), .ref (A 77 0), .ref (A 78 0), .ref (A 79 0), .ref (A 80 0), .ref (A 81 0), .ref (A 82 0), .ref (A 83 0), .int (σ.1 60 0 1), .ref (A 84 0), .ref (A 85 0), .ref (A 86 0), .ref (A 87 0), .ref (A 88 0), .int (σ.1 60 0 2), .int (σ.1 60 0 3), .ref (A 89 0), .int (σ.1 60 0 4), .int (σ.1 60 0 5), .int (σ.1 60 0 6), .ref (A 90 0), .int 0]) := K3.c60
            have k91pK3 : h4 (A 91 p) = some (aI 6 (upd (σ.1 91 p) q l)) := (K3.c91 hp6).trans (congrArg (fun w => some (aI 6 w)) (show (setI (thS σ 0) 91 p (upd (σ.1 91 p) q l)).1 91 p = (upd (σ.1 91 p) q l) from setI_s _ _ _))
            have k92pK3 : h4 (A 92 p) = some (aI 6 (upd (σ.1 92 p) q g)) := (K3.c92 hp6).trans (congrArg (fun w => some (aI 6 w)) (show (setI (setI (thS σ 0) 91 p (upd (σ.1 91 p) q l)) 92 p (upd (σ.1 92 p) q g)).1 92 p = (upd (σ.1 92 p) q g) from setI_s _ _ _))
            have e91 : (setI (setI (thS σ 0) 91 p (upd (σ.1 91 p) q l)) 92 p (upd (σ.1 92 p) q g)).1 91 p = upd (σ.1 91 p) q l := setI_s (σ := thS σ 0) 91 p _
            refine pw_aload_n (pc2 := 87) dX10_need_86 rfl rfl 0 rfl (by first | exact rf_ref _ | exact rf_opt _ | exact rf_nul) ?_
            refine pw_iload_n (pc2 := 88) dX10_need_87 rfl rfl 1 rfl ?_
            refine pw_callV1 (pc2 := 91) (c_needsOf G _ K3 hp6) cs_X10_130 rfl rfl c60K3 dX10_need_88 rfl (by omega) rfl (by first | decide | simp [cat_rf, Value.category]) ?_
            refine pw_topE (congrArg (fun z => bts z 6) e91) ?_
            refine pw_callS1 (pc2 := 94) (c_bitc G _ (bts (upd (σ.1 91 p) q l) 6)) cs_X10_133 rfl dX10_need_91 rfl (by omega) rfl (by first | decide | simp [cat_rf, Value.category]) ?_
            refine pw_iret dX10_need_94 rfl (by first | rfl | assumption | simp [narrow]) ?_
            exact Or.inr (Or.inr ⟨p, q, hpp, hqq, rfl, rfl, hqp, ⟨q32, q44⟩, rfl, K3, FK3⟩)
          · refine pw_if_ne (tgt := 54) (pc2 := 50) dX10_need_47 (by decide) rfl (fun c47 => by exact absurd (by decide) c47) (fun _ => ?_)
            refine pw_iconst (pc2 := 51) (v := 2) dX10_need_50 rfl (by decide) ?_
            refine pw_goto (tgt := 55) dX10_need_51 (by decide) ?_
            refine pw_put (pc2 := 58) kX10 (k := 37) (by decide) rfl rfl fl_X10_109 H.c60 (by first | decide | simp) (by first | rfl | exact nar_rf _ _) (by first | rfl | exact fit_rf _ _) dX10_need_55 rfl ?_
            obtain ⟨K1, FK1⟩ := H.wIF (FM.rfl') (t := 60) (i := 0) (f := (upd (σ.1 60 0) 7 2)) rfl (by decide) (iv_setI H.iv (by decide)) rfl
            obtain ⟨h2, eh2⟩ : ∃ z : Nat → Option hE, z = va_up h (A 60 0) (some (oB 13 [.ref (A 61 0), .ref (A 62 0), .ref (A 63 0), .ref (A 64 0), .ref (A 65 0), .ref (A 66 0), .ref (A 67 0), .ref (A 68 0), .ref (A 69 0), .ref (A 70 0), .ref (A 71 0), .ref (A 72 0), .ref (A 73 0), .ref (A 74 0), .ref (A 75 0), .ref (A 76 0), .int (σ.1 60 0 0), .ref (A 77 0), .ref (A 78 0), .ref (A 79 0), .ref (A 80 0), .ref (A 81 0), .ref (A 82 0), .ref (A 83 0), .int (σ.1 60 0 1), .ref (A 84 0), .ref (A 85 0), .ref (A 86 0), .ref (A 87 0), .ref (A 88 0), .int (σ.1 60 0 2), .int (σ.1 60 0 3), .ref (A 89 0), .int (σ.1 60 0 4), .int (σ.1 60 0 5), .int (σ.1 60 0 6), .ref (A 90 0), .int 2])) := ⟨_, rfl⟩
            refine PW.heap (h' := h2) eh2.symm ?_
            replace K1 : WM G h2 A (thS σ 2) := by rw [eh2]; exact K1
            replace FK1 : FM A h h2 := by rw [eh2]; exact FK1
            have c60K1 : h2 (A 60 0) = some (oB 13 [.ref (A 61 0), .ref (A 62 0), .ref (A 63 0), .ref (A 64 0), .ref (A 65 0), .ref (A 66 0), .ref (A 67 0), .ref (A 68 0), .ref (A 69 0), .ref (A 70 0), .ref (A 71 0), .ref (A 72 0), .ref (A 73 0), .ref (A 74 0), .ref (A 75 0), .ref (A 76 0), .int (σ.1 60 0 0), .ref (A 77 0), .ref (A 78 0), .ref (A 79 0), .ref (A 80 0), .ref (A 81 0), .ref (A 82 0), .ref (A 83 0), .int (σ.1 60 0 1), .ref (A 84 0), .ref (A 85 0), .ref (A 86 0), .ref (A 87 0), .ref (A 88 0), .int (σ.1 60 0 2), .int (σ.1 60 0 3), .ref (A 89 0), .int (σ.1 60 0 4), .int (σ.1 60 0 5), .int (σ.1 60 0 6), .ref (A 90 0), .int 2]) := K1.c60
            refine pw_aload_n (pc2 := 59) dX10_need_58 rfl rfl 0 rfl (by first | exact rf_ref _ | exact rf_opt _ | exact rf_nul) ?_
            refine pw_get (pc2 := 62) kX10 (k := 37) (by decide) rfl fl_X10_109 c60K1 rfl dX10_need_59 rfl ?_
            refine pw_if_le (tgt := 67) (pc2 := 65) dX10_need_62 (by decide) rfl (fun c62 => by exact absurd c62 (by decide)) (fun _ => ?_)
            refine pw_iconst (pc2 := 66) (v := 0) dX10_need_65 rfl (by decide) ?_
            refine pw_iret dX10_need_66 rfl (by first | rfl | assumption | simp [narrow]) ?_
            exact Or.inr (Or.inl ⟨⟨q3, q11⟩, by first | exact fun z => absurd z.1 (Int32.not_lt.mpr c23) | exact fun z => q32 z.2.1 | exact fun z => q44 z.2.2, rfl, K1, FK1⟩)
        · refine pw_if_eq (tgt := 50) (pc2 := 38) dX10_need_35 (by decide) rfl (fun _ => ?_) (fun c35 => by exact absurd (by decide) c35)
          refine pw_iconst (pc2 := 51) (v := 2) dX10_need_50 rfl (by decide) ?_
          refine pw_goto (tgt := 55) dX10_need_51 (by decide) ?_
          refine pw_put (pc2 := 58) kX10 (k := 37) (by decide) rfl rfl fl_X10_109 H.c60 (by first | decide | simp) (by first | rfl | exact nar_rf _ _) (by first | rfl | exact fit_rf _ _) dX10_need_55 rfl ?_
          obtain ⟨K1, FK1⟩ := H.wIF (FM.rfl') (t := 60) (i := 0) (f := (upd (σ.1 60 0) 7 2)) rfl (by decide) (iv_setI H.iv (by decide)) rfl
          obtain ⟨h2, eh2⟩ : ∃ z : Nat → Option hE, z = va_up h (A 60 0) (some (oB 13 [.ref (A 61 0), .ref (A 62 0), .ref (A 63 0), .ref (A 64 0), .ref (A 65 0), .ref (A 66 0), .ref (A 67 0), .ref (A 68 0), .ref (A 69 0), .ref (A 70 0), .ref (A 71 0), .ref (A 72 0), .ref (A 73 0), .ref (A 74 0), .ref (A 75 0), .ref (A 76 0), .int (σ.1 60 0 0), .ref (A 77 0), .ref (A 78 0), .ref (A 79 0), .ref (A 80 0), .ref (A 81 0), .ref (A 82 0), .ref (A 83 0), .int (σ.1 60 0 1), .ref (A 84 0), .ref (A 85 0), .ref (A 86 0), .ref (A 87 0), .ref (A 88 0), .int (σ.1 60 0 2), .int (σ.1 60 0 3), .ref (A 89 0), .int (σ.1 60 0 4), .int (σ.1 60 0 5), .int (σ.1 60 0 6), .ref (A 90 0), .int 2])) := ⟨_, rfl⟩
          refine PW.heap (h' := h2) eh2.symm ?_
          replace K1 : WM G h2 A (thS σ 2) := by rw [eh2]; exact K1
          replace FK1 : FM A h h2 := by rw [eh2]; exact FK1
          have c60K1 : h2 (A 60 0) = some (oB 13 [.ref (A 61 0), .ref (A 62 0), .ref (A 63 0), .ref (A 64 0), .ref (A 65 0), .ref (A 66 0), .ref (A 67 0), .ref (A 68 0), .ref (A 69 0), .ref (A 70 0), .ref (A 71 0), .ref (A 72 0), .ref (A 73 0), .ref (A 74 0), .ref (A 75 0), .ref (A 76 0), .int (σ.1 60 0 0), .ref (A 77 0), .ref (A 78 0), .ref (A 79 0), .ref (A 80 0), .ref (A 81 0), .ref (A 82 0), .ref (A 83 0), .int (σ.1 60 0 1), .ref (A 84 0), .ref (A 85 0), .ref (A 86 0), .ref (A 87 0), .ref (A 88 0), .int (σ.1 60 0 2), .int (σ.1 60 0 3), .ref (A 89 0), .int (σ.1 60 0 4), .int (σ.1 60 0 5), .int (σ.1 60 0 6), .ref (A 90 0), .int 2]) := K1.c60
          refine pw_aload_n (pc2 := 59) dX10_need_58 rfl rfl 0 rfl (by first | exact rf_ref _ | exact rf_opt _ | exact rf_nul) ?_
          refine pw_get (pc2 := 62) kX10 (k := 37) (by decide) rfl fl_X10_109 c60K1 rfl dX10_need_59 rfl ?_
          refine pw_if_le (tgt := 67) (pc2 := 65) dX10_need_62 (by decide) rfl (fun c62 => by exact absurd c62 (by decide)) (fun _ => ?_)
          refine pw_iconst (pc2 := 66) (v := 0) dX10_need_65 rfl (by decide) ?_
          refine pw_iret dX10_need_66 rfl (by first | rfl | assumption | simp [narrow]) ?_
          exact Or.inr (Or.inl ⟨⟨q3, q11⟩, by first | exact fun z => absurd z.1 (Int32.not_lt.mpr c23) | exact fun z => q32 z.2.1 | exact fun z => q44 z.2.2, rfl, K1, FK1⟩)
    · refine pw_if_ne (tgt := 21) (pc2 := 17) dX10_need_14 (by decide) rfl (fun c14 => by exact absurd (by decide) c14) (fun _ => ?_)
      refine pw_iconst (pc2 := 18) (v := 1) dX10_need_17 rfl (by decide) ?_
      refine pw_goto (tgt := 55) dX10_need_18 (by decide) ?_
      refine pw_put (pc2 := 58) kX10 (k := 37) (by decide) rfl rfl fl_X10_109 H.c60 (by first | decide | simp) (by first | rfl | exact nar_rf _ _) (by first | rfl | exact fit_rf _ _) dX10_need_55 rfl ?_
      obtain ⟨K1, FK1⟩ := H.wIF (FM.rfl') (t := 60) (i := 0) (f := (upd (σ.1 60 0) 7 1)) rfl (by decide) (iv_setI H.iv (by decide)) rfl
      obtain ⟨h2, eh2⟩ : ∃ z : Nat → Option hE, z = va_up h (A 60 0) (some (oB 13 [.ref (A 61 0), .ref (A 62 0), .ref (A 63 0), .ref (A 64 0), .ref (A 65 0), .ref (A 66 0), .ref (A 67 0), .ref (A 68 0), .ref (A 69 0), .ref (A 70 0), .ref (A 71 0), .ref (A 72 0), .ref (A 73 0), .ref (A 74 0), .ref (A 75 0), .ref (A 76 0), .int (σ.1 60 0 0), .ref (A 77 0), .ref (A 78 0), .ref (A 79 0), .ref (A 80 0), .ref (A 81 0), .ref (A 82 0), .ref (A 83 0), .int (σ.1 60 0 1), .ref (A 84 0), .ref (A 85 0), .ref (A 86 0), .ref (A 87 0), .ref (A 88 0), .int (σ.1 60 0 2), .int (σ.1 60 0 3), .ref (A 89 0), .int (σ.1 60 0 4), .int (σ.1 60 0 5), .int (σ.1 60 0 6), .ref (A 90 0), .int 1])) := ⟨_, rfl⟩
      refine PW.heap (h' := h2) eh2.symm ?_
      replace K1 : WM G h2 A (thS σ 1) := by rw [eh2]; exact K1
      replace FK1 : FM A h h2 := by rw [eh2]; exact FK1
      have c60K1 : h2 (A 60 0) = some (oB 13 [.ref (A 61 0), .ref (A 62 0), .ref (A 63 0), .ref (A 64 0), .ref (A 65 0), .ref (A 66 0), .ref (A 67 0), .ref (A 68 0), .ref (A 69 0), .ref (A 70 0), .ref (A 71 0), .ref (A 72 0), .ref (A 73 0), .ref (A 74 0), .ref (A 75 0), .ref (A 76 0), .int (σ.1 60 0 0), .ref (A 77 0), .ref (A 78 0), .ref (A 79 0), .ref (A 80 0), .ref (A 81 0), .ref (A 82 0), .ref (A 83 0), .int (σ.1 60 0 1), .ref (A 84 0), .ref (A 85 0), .ref (A 86 0), .ref (A 87 0), .ref (A 88 0), .int (σ.1 60 0 2), .int (σ.1 60 0 3), .ref (A 89 0), .int (σ.1 60 0 4), .int (σ.1 60 0 5), .int (σ.1 60 0 6), .ref (A 90 0), .int 1]) := K1.c60
      refine pw_aload_n (pc2 := 59) dX10_need_58 rfl rfl 0 rfl (by first | exact rf_ref _ | exact rf_opt _ | exact rf_nul) ?_
      refine pw_get (pc2 := 62) kX10 (k := 37) (by decide) rfl fl_X10_109 c60K1 rfl dX10_need_59 rfl ?_
      refine pw_if_le (tgt := 67) (pc2 := 65) dX10_need_62 (by decide) rfl (fun c62 => by exact absurd c62 (by decide)) (fun _ => ?_)
      refine pw_iconst (pc2 := 66) (v := 0) dX10_need_65 rfl (by decide) ?_
      refine pw_iret dX10_need_66 rfl (by first | rfl | assumption | simp [narrow]) ?_
      exact Or.inl ⟨by first | exact fun z => q3 z.1 | exact fun z => q11 z.2, rfl, K1, FK1⟩
  · refine pw_if_eq (tgt := 17) (pc2 := 9) dX10_need_6 (by decide) rfl (fun _ => ?_) (fun c6 => by exact absurd (by decide) c6)
    refine pw_iconst (pc2 := 18) (v := 1) dX10_need_17 rfl (by decide) ?_
    refine pw_goto (tgt := 55) dX10_need_18 (by decide) ?_
    refine pw_put (pc2 := 58) kX10 (k := 37) (by decide) rfl rfl fl_X10_109 H.c60 (by first | decide | simp) (by first | rfl | exact nar_rf _ _) (by first | rfl | exact fit_rf _ _) dX10_need_55 rfl ?_
    obtain ⟨K1, FK1⟩ := H.wIF (FM.rfl') (t := 60) (i := 0) (f := (upd (σ.1 60 0) 7 1)) rfl (by decide) (iv_setI H.iv (by decide)) rfl
    obtain ⟨h2, eh2⟩ : ∃ z : Nat → Option hE, z = va_up h (A 60 0) (some (oB 13 [.ref (A 61 0), .ref (A 62 0), .ref (A 63 0), .ref (A 64 0), .ref (A 65 0), .ref (A 66 0), .ref (A 67 0), .ref (A 68 0), .ref (A 69 0), .ref (A 70 0), .ref (A 71 0), .ref (A 72 0), .ref (A 73 0), .ref (A 74 0), .ref (A 75 0), .ref (A 76 0), .int (σ.1 60 0 0), .ref (A 77 0), .ref (A 78 0), .ref (A 79 0), .ref (A 80 0), .ref (A 81 0), .ref (A 82 0), .ref (A 83 0), .int (σ.1 60 0 1), .ref (A 84 0), .ref (A 85 0), .ref (A 86 0), .ref (A 87 0), .ref (A 88 0), .int (σ.1 60 0 2), .int (σ.1 60 0 3), .ref (A 89 0), .int (σ.1 60 0 4), .int (σ.1 60 0 5), .int (σ.1 60 0 6), .ref (A 90 0), .int 1])) := ⟨_, rfl⟩
    refine PW.heap (h' := h2) eh2.symm ?_
    replace K1 : WM G h2 A (thS σ 1) := by rw [eh2]; exact K1
    replace FK1 : FM A h h2 := by rw [eh2]; exact FK1
    have c60K1 : h2 (A 60 0) = some (oB 13 [.ref (A 61 0), .ref (A 62 0), .ref (A 63 0), .ref (A 64 0), .ref (A 65 0), .ref (A 66 0), .ref (A 67 0), .ref (A 68 0), .ref (A 69 0), .ref (A 70 0), .ref (A 71 0), .ref (A 72 0), .ref (A 73 0), .ref (A 74 0), .ref (A 75 0), .ref (A 76 0), .int (σ.1 60 0 0), .ref (A 77 0), .ref (A 78 0), .ref (A 79 0), .ref (A 80 0), .ref (A 81 0), .ref (A 82 0), .ref (A 83 0), .int (σ.1 60 0 1), .ref (A 84 0), .ref (A 85 0), .ref (A 86 0), .ref (A 87 0), .ref (A 88 0), .int (σ.1 60 0 2), .int (σ.1 60 0 3), .ref (A 89 0), .int (σ.1 60 0 4), .int (σ.1 60 0 5), .int (σ.1 60 0 6), .ref (A 90 0), .int 1]) := K1.c60
    refine pw_aload_n (pc2 := 59) dX10_need_58 rfl rfl 0 rfl (by first | exact rf_ref _ | exact rf_opt _ | exact rf_nul) ?_
    refine pw_get (pc2 := 62) kX10 (k := 37) (by decide) rfl fl_X10_109 c60K1 rfl dX10_need_59 rfl ?_
    refine pw_if_le (tgt := 67) (pc2 := 65) dX10_need_62 (by decide) rfl (fun c62 => by exact absurd c62 (by decide)) (fun _ => ?_)
    refine pw_iconst (pc2 := 66) (v := 0) dX10_need_65 rfl (by decide) ?_
    refine pw_iret dX10_need_66 rfl (by first | rfl | assumption | simp [narrow]) ?_
    exact Or.inl ⟨by first | exact fun z => q3 z.1 | exact fun z => q11 z.2, rfl, K1, FK1⟩
set_option maxHeartbeats 4000000 in
set_option maxRecDepth 100000 in
theorem c_mdropNeed (G : hG) (h : hp) {A : aT} {σ : sT} (H : WM G h A σ) (hb : MB σ) (n o : Int32) : PMet G MX10_dropNeed 3 0 0 [.ref (A 60 0), .int n, .int o] h (fun r h2 => (¬ (inR n (npk σ) ∧ inR o (npk σ)) ∧ QSM G h A (.int 0) (thS σ 1) r h2) ∨ (∃ p q, p < npk σ ∧ q < npk σ ∧ n = nI p ∧ o = nI q ∧ ((σ.1 91 p q = 0 ∧ QSM G h A (.int 0) (thS σ 2) r h2) ∨ (¬ σ.1 91 p q = 0 ∧ QSM G h A (.int (bcF (bts (upd (σ.1 91 p) q 0) 6))) (setI (setI (thS σ 0) 91 p (upd (σ.1 91 p) q 0)) 92 p (upd (σ.1 92 p) q 0)) r h2)))) noX := by
  have hnp := H.iv.1
  refine PMet.of (by decide +kernel) (Nat.le_of_ble_eq_true rfl) (fun d hd => ?_)
  refine PW.sub (L2 := [(0, Value.ref (A 60 0)), (1, Value.int n), (2, Value.int o)]) [0, 1, 2] rfl ?_
  refine pw_aload_n (pc2 := 1) dX10_dropNeed_0 rfl rfl 0 rfl (by first | exact rf_ref _ | exact rf_opt _ | exact rf_nul) ?_
  refine pw_aload_n (pc2 := 2) dX10_dropNeed_1 rfl rfl 0 rfl (by first | exact rf_ref _ | exact rf_opt _ | exact rf_nul) ?_
  refine pw_iload_n (pc2 := 3) dX10_dropNeed_2 rfl rfl 1 rfl ?_
  refine pw_callVb (pc2 := 6) (c_mispk G _ H hb n) cs_X10_119 rfl rfl H.c60 dX10_dropNeed_3 rfl (by omega) rfl (by first | decide | simp [cat_rf, Value.category]) (fun q3 => ?_) (fun q3 => ?_)
  · refine pw_if_eq (tgt := 17) (pc2 := 9) dX10_dropNeed_6 (by decide) rfl (fun c6 => by exact absurd c6 (by decide)) (fun _ => ?_)
    refine pw_aload_n (pc2 := 10) dX10_dropNeed_9 rfl rfl 0 rfl (by first | exact rf_ref _ | exact rf_opt _ | exact rf_nul) ?_
    refine pw_iload_n (pc2 := 11) dX10_dropNeed_10 rfl rfl 2 rfl ?_
    refine pw_callVb (pc2 := 14) (c_mispk G _ H hb o) cs_X10_119 rfl rfl H.c60 dX10_dropNeed_11 rfl (by omega) rfl (by first | decide | simp [cat_rf, Value.category]) (fun q11 => ?_) (fun q11 => ?_)
    · refine pw_if_ne (tgt := 21) (pc2 := 17) dX10_dropNeed_14 (by decide) rfl (fun _ => ?_) (fun c14 => by exact absurd c14 (by decide))
      obtain ⟨p, hpp, rfl⟩ := inR_ex (by omega) q3
      obtain ⟨q, hqq, rfl⟩ := inR_ex (by omega) q11
      have hp6 : p < 6 := by omega
      have hq6 : q < 6 := by omega
      refine pw_aload_n (pc2 := 22) dX10_dropNeed_21 rfl rfl 0 rfl (by first | exact rf_ref _ | exact rf_opt _ | exact rf_nul) ?_
      refine pw_get (pc2 := 25) kX10 (k := 3) (by decide) rfl fl_X10_21 H.c60 rfl dX10_dropNeed_22 rfl ?_
      refine pw_iload_n (pc2 := 26) dX10_dropNeed_25 rfl rfl 1 rfl ?_
      refine pw_aaldN (pc2 := 27) 6 rfl rfl H.c64 (i := p) (by first | assumption | omega) (by omega) dX10_dropNeed_26 rfl ?_
      refine pw_topV (rowv (by first | assumption | omega)) ?_
      refine pw_iload_n (pc2 := 28) dX10_dropNeed_27 rfl rfl 2 rfl ?_
      refine pw_ialdN (pc2 := 29) (H.c91 hp6) (i := q) (by first | assumption | omega) (by omega) dX10_dropNeed_28 rfl ?_
      refine pw_if_ne (tgt := 36) (pc2 := 32) dX10_dropNeed_29 (by decide) rfl (fun c29 => ?_) (fun c29 => ?_)
      · refine pw_iconst (pc2 := 37) (v := 0) dX10_dropNeed_36 rfl (by decide) ?_
        refine pw_put (pc2 := 40) kX10 (k := 37) (by decide) rfl rfl fl_X10_109 H.c60 (by first | decide | simp) (by first | rfl | exact nar_rf _ _) (by first | rfl | exact fit_rf _ _) dX10_dropNeed_37 rfl ?_
        obtain ⟨K1, FK1⟩ := H.wIF (FM.rfl') (t := 60) (i := 0) (f := (upd (σ.1 60 0) 7 0)) rfl (by decide) (iv_setI H.iv (by decide)) rfl
        obtain ⟨h2, eh2⟩ : ∃ z : Nat → Option hE, z = va_up h (A 60 0) (some (oB 13 [.ref (A 61 0), .ref (A 62 0), .ref (A 63 0), .ref (A 64 0), .ref (A 65 0), .ref (A 66 0), .ref (A 67 0), .ref (A 68 0), .ref (A 69 0), .ref (A 70 0), .ref (A 71 0), .ref (A 72 0), .ref (A 73 0), .ref (A 74 0), .ref (A 75 0), .ref (A 76 0), .int (σ.1 60 0 0), .ref (A 77 0), .ref (A 78 0), .ref (A 79 0), .ref (A 80 0), .ref (A 81 0), .ref (A 82 0), .ref (A 83 0), .int (σ.1 60 0 1), .ref (A 84 0), .ref (A 85 0), .ref (A 86 0), .ref (A 87 0), .ref (A 88 0), .int (σ.1 60 0 2), .int (σ.1 60 0 3), .ref (A 89 0), .int (σ.1 60 0 4), .int (σ.1 60 0 5), .int (σ.1 60 0 6), .ref (A 90 0), .int 0])) := ⟨_, rfl⟩
        refine PW.heap (h' := h2) eh2.symm ?_
        replace K1 : WM G h2 A (thS σ 0) := by rw [eh2]; exact K1
        replace FK1 : FM A h h2 := by rw [eh2]; exact FK1
        have c60K1 : h2 (A 60 0) = some (oB 13 [.ref (A 61 0), .ref (A 62 0), .ref (A 63 0), .ref (A 64 0), .ref (A 65 0), .ref (A 66 0), .ref (A 67 0), .ref (A 68 0), .ref (A 69 0), .ref (A 70 0), .ref (A 71 0), .ref (A 72 0), .ref (A 73 0), .ref (A 74 0), .ref (A 75 0), .ref (A 76 0), .int (σ.1 60 0 0), .ref (A 77 0), .ref (A 78 0), .ref (A 79 0), .ref (A 80 0), .ref (A 81 0), .ref (A 82 0), .ref (A 83 0), .int (σ.1 60 0 1), .ref (A 84 0), .ref (A 85 0), .ref (A 86 0), .ref (A 87 0), .ref (A 88 0), .int (σ.1 60 0 2), .int (σ.1 60 0 3), .ref (A 89 0), .int (σ.1 60 0 4), .int (σ.1 60 0 5), .int (σ.1 60 0 6), .ref (A 90 0), .int 0]) := K1.c60
        have k91pK1 : h2 (A 91 p) = some (aI 6 (σ.1 91 p)) := (K1.c91 hp6)
        have k92pK1 : h2 (A 92 p) = some (aI 6 (σ.1 92 p)) := (K1.c92 hp6)
        refine pw_aload_n (pc2 := 41) dX10_dropNeed_40 rfl rfl 0 rfl (by first | exact rf_ref _ | exact rf_opt _ | exact rf_nul) ?_
        refine pw_get (pc2 := 44) kX10 (k := 37) (by decide) rfl fl_X10_109 c60K1 rfl dX10_dropNeed_41 rfl ?_
        refine pw_if_le (tgt := 49) (pc2 := 47) dX10_dropNeed_44 (by decide) rfl (fun _ => ?_) (fun c44 => by exact absurd (by decide) c44)
        refine pw_aload_n (pc2 := 50) dX10_dropNeed_49 rfl rfl 0 rfl (by first | exact rf_ref _ | exact rf_opt _ | exact rf_nul) ?_
        refine pw_get (pc2 := 53) kX10 (k := 3) (by decide) rfl fl_X10_21 c60K1 rfl dX10_dropNeed_50 rfl ?_
        refine pw_iload_n (pc2 := 54) dX10_dropNeed_53 rfl rfl 1 rfl ?_
        refine pw_aaldN (pc2 := 55) 6 rfl rfl K1.c64 (i := p) (by first | assumption | omega) (by omega) dX10_dropNeed_54 rfl ?_
        refine pw_topV (rowv (by first | assumption | omega)) ?_
        refine pw_iload_n (pc2 := 56) dX10_dropNeed_55 rfl rfl 2 rfl ?_
        refine pw_iconst (pc2 := 57) (v := 0) dX10_dropNeed_56 rfl (by decide) ?_
        refine pw_iastN (pc2 := 58) k91pK1 (i := q) (by first | assumption | omega) (by omega) dX10_dropNeed_57 rfl ?_
        obtain ⟨K2, FK2⟩ := K1.wIF (FK1) (t := 91) (i := p) (f := (upd (σ.1 91 p) q 0)) hp6 (by decide) (iv_setI K1.iv (by decide)) rfl
        obtain ⟨h3, eh3⟩ : ∃ z : Nat → Option hE, z = va_up h2 (A 91 p) (some (aI 6 (upd (σ.1 91 p) q 0))) := ⟨_, rfl⟩
        refine PW.heap (h' := h3) eh3.symm ?_
        replace K2 : WM G h3 A (setI (thS σ 0) 91 p (upd (σ.1 91 p) q 0)) := by rw [eh3]; exact K2
        replace FK2 : FM A h h3 := by rw [eh3]; exact FK2
        have c60K2 : h3 (A 60 0) = some (oB 13 [.ref (A 61 0), .ref (A 62 0), .ref (A 63 0), .ref (A 64 0), .ref (A 65 0), .ref (A 66 0), .ref (A 67 0), .ref (A 68 0), .ref (A 69 0), .ref (A 70 0), .ref (A 71 0), .ref (A 72 0), .ref (A 73 0), .ref (A 74 0), .ref (A 75 0), .ref (A 76 0), .int (σ.1 60 0 0), .ref (A 77 0), .ref (A 78 0), .ref (A 79 0), .ref (A 80 0), .ref (A 81 0), .ref (A 82 0), .ref (A 83 0), .int (σ.1 60 0 1), .ref (A 84 0), .ref (A 85 0), .ref (A 86 0), .ref (A 87 0), .ref (A 88 0), .int (σ.1 60 0 2), .int (σ.1 60 0 3), .ref (A 89 0), .int (σ.1 60 0 4), .int (σ.1 60 0 5), .int (σ.1 60 0 6), .ref (A 90 0), .int 0]) := K2.c60
        have k91pK2 : h3 (A 91 p) = some (aI 6 (upd (σ.1 91 p) q 0)) := (K2.c91 hp6).trans (congrArg (fun w => some (aI 6 w)) (show (setI (thS σ 0) 91 p (upd (σ.1 91 p) q 0)).1 91 p = (upd (σ.1 91 p) q 0) from setI_s _ _ _))
        have k92pK2 : h3 (A 92 p) = some (aI 6 (σ.1 92 p)) := (K2.c92 hp6)
        refine pw_aload_n (pc2 := 59) dX10_dropNeed_58 rfl rfl 0 rfl (by first | exact rf_ref _ | exact rf_opt _ | exact rf_nul) ?_
        refine pw_get (pc2 := 62) kX10 (k := 4) (by decide) rfl fl_X10_24 c60K2 rfl dX10_dropNeed_59 rfl ?_
        refine pw_iload_n (pc2 := 63) dX10_dropNeed_62 rfl rfl 1 rfl ?_
        refine pw_aaldN (pc2 := 64) 6 rfl rfl K2.c65 (i := p) (by first | assumption | omega) (by omega) dX10_dropNeed_63 rfl ?_
        refine pw_topV (rowv (by first | assumption | omega)) ?_
        refine pw_iload_n (pc2 := 65) dX10_dropNeed_64 rfl rfl 2 rfl ?_
        refine pw_iconst (pc2 := 66) (v := 0) dX10_dropNeed_65 rfl (by decide) ?_
        refine pw_iastN (pc2 := 67) k92pK2 (i := q) (by first | assumption | omega) (by omega) dX10_dropNeed_66 rfl ?_
        obtain ⟨K3, FK3⟩ := K2.wIF (FK2) (t := 92) (i := p) (f := (upd (σ.1 92 p) q 0)) hp6 (by decide) (iv_setI K2.iv (by decide)) rfl
        obtain ⟨h4, eh4⟩ : ∃ z : Nat → Option hE, z = va_up h3 (A 92 p) (some (aI 6 (upd (σ.1 92 p) q 0))) := ⟨_, rfl⟩
        refine PW.heap (h' := h4) eh4.symm ?_
        replace K3 : WM G h4 A (setI (setI (thS σ 0) 91 p (upd (σ.1 91 p) q 0)) 92 p (upd (σ.1 92 p) q 0)) := by rw [eh4]; exact K3
        replace FK3 : FM A h h4 := by rw [eh4]; exact FK3
        have c60K3 : h4 (A 60 0) = some (oB 13 [.ref (A 61 0), .ref (A 62 0), .ref (A 63 0), .ref (A 64 0), .ref (A 65 0), .ref (A 66 0), .ref (A 67 0), .ref (A 68 0), .ref (A 69 0), .ref (A 70 0), .ref (A 71 0), .ref (A 72 0), .ref (A 73 0), .ref (A 74 0), .ref (A 75 0), .ref (A 76 0), .int (σ.1 60 0 0), .ref (A 77 0), .ref (A 78 0), .ref (A 79 0), .ref (A 80 0), .ref (A 81 0), .ref (A 82 0), .ref (A 83 0), .int (σ.1 60 0 1), .ref (A 84 0), .ref (A 85 0), .ref (A 86 0), .ref (A 87 0), .ref (A 88 0), .int (σ.1 60 0 2), .int (σ.1 60 0 3), .ref (A 89 0), .int (σ.1 60 0 4), .int (σ.1 60 0 5), .int (σ.1 60 0 6), .ref (A 90 0), .int 0]) := K3.c60
        have k91pK3 : h4 (A 91 p) = some (aI 6 (upd (σ.1 91 p) q 0)) := (K3.c91 hp6).trans (congrArg (fun w => some (aI 6 w)) (show (setI (thS σ 0) 91 p (upd (σ.1 91 p) q 0)).1 91 p = (upd (σ.1 91 p) q 0) from setI_s _ _ _))
        have k92pK3 : h4 (A 92 p) = some (aI 6 (upd (σ.1 92 p) q 0)) := (K3.c92 hp6).trans (congrArg (fun w => some (aI 6 w)) (show (setI (setI (thS σ 0) 91 p (upd (σ.1 91 p) q 0)) 92 p (upd (σ.1 92 p) q 0)).1 92 p = (upd (σ.1 92 p) q 0) from setI_s _ _ _))
        have e91 : (setI (setI (thS σ 0) 91 p (upd (σ.1 91 p) q 0)) 92 p (upd (σ.1 92 p) q 0)).1 91 p = upd (σ.1 91 p) q 0 := setI_s (σ := thS σ 0) 91 p _
        refine pw_aload_n (pc2 := 68) dX10_dropNeed_67 rfl rfl 0 rfl (by first | exact rf_ref _ | exact rf_opt _ | exact rf_nul) ?_
        refine pw_iload_n (pc2 := 69) dX10_dropNeed_68 rfl rfl 1 rfl ?_
        refine pw_callV1 (pc2 := 72) (c_needsOf G _ K3 hp6) cs_X10_130 rfl rfl c60K3 dX10_dropNeed_69 rfl (by omega) rfl (by first | decide | simp [cat_rf, Value.category]) ?_
        refine pw_topE (congrArg (fun z => bts z 6) e91) ?_
        refine pw_callS1 (pc2 := 75) (c_bitc G _ (bts (upd (σ.1 91 p) q 0) 6)) cs_X10_133 rfl dX10_dropNeed_72 rfl (by omega) rfl (by first | decide | simp [cat_rf, Value.category]) ?_
        refine pw_iret dX10_dropNeed_75 rfl (by first | rfl | assumption | simp [narrow]) ?_
        exact Or.inr ⟨p, q, hpp, hqq, rfl, rfl, Or.inr ⟨c29, rfl, K3, FK3⟩⟩
      · refine pw_iconst (pc2 := 33) (v := 2) dX10_dropNeed_32 rfl (by decide) ?_
        refine pw_goto (tgt := 37) dX10_dropNeed_33 (by decide) ?_
        refine pw_put (pc2 := 40) kX10 (k := 37) (by decide) rfl rfl fl_X10_109 H.c60 (by first | decide | simp) (by first | rfl | exact nar_rf _ _) (by first | rfl | exact fit_rf _ _) dX10_dropNeed_37 rfl ?_
        obtain ⟨K1, FK1⟩ := H.wIF (FM.rfl') (t := 60) (i := 0) (f := (upd (σ.1 60 0) 7 2)) rfl (by decide) (iv_setI H.iv (by decide)) rfl
        obtain ⟨h2, eh2⟩ : ∃ z : Nat → Option hE, z = va_up h (A 60 0) (some (oB 13 [.ref (A 61 0), .ref (A 62 0), .ref (A 63 0), .ref (A 64 0), .ref (A 65 0), .ref (A 66 0), .ref (A 67 0), .ref (A 68 0), .ref (A 69 0), .ref (A 70 0), .ref (A 71 0), .ref (A 72 0), .ref (A 73 0), .ref (A 74 0), .ref (A 75 0), .ref (A 76 0), .int (σ.1 60 0 0), .ref (A 77 0), .ref (A 78 0), .ref (A 79 0), .ref (A 80 0), .ref (A 81 0), .ref (A 82 0), .ref (A 83 0), .int (σ.1 60 0 1), .ref (A 84 0), .ref (A 85 0), .ref (A 86 0), .ref (A 87 0), .ref (A 88 0), .int (σ.1 60 0 2), .int (σ.1 60 0 3), .ref (A 89 0), .int (σ.1 60 0 4), .int (σ.1 60 0 5), .int (σ.1 60 0 6), .ref (A 90 0), .int 2])) := ⟨_, rfl⟩
        refine PW.heap (h' := h2) eh2.symm ?_
        replace K1 : WM G h2 A (thS σ 2) := by rw [eh2]; exact K1
        replace FK1 : FM A h h2 := by rw [eh2]; exact FK1
        have c60K1 : h2 (A 60 0) = some (oB 13 [.ref (A 61 0), .ref (A 62 0), .ref (A 63 0), .ref (A 64 0), .ref (A 65 0), .ref (A 66 0), .ref (A 67 0), .ref (A 68 0), .ref (A 69 0), .ref (A 70 0), .ref (A 71 0), .ref (A 72 0), .ref (A 73 0), .ref (A 74 0), .ref (A 75 0), .ref (A 76 0), .int (σ.1 60 0 0), .ref (A 77 0), .ref (A 78 0), .ref (A 79 0), .ref (A 80 0), .ref (A 81 0), .ref (A 82 0), .ref (A 83 0), .int (σ.1 60 0 1), .ref (A 84 0), .ref (A 85 0), .ref (A 86 0), .ref (A 87 0), .ref (A 88 0), .int (σ.1 60 0 2), .int (σ.1 60 0 3), .ref (A 89 0), .int (σ.1 60 0 4), .int (σ.1 60 0 5), .int (σ.1 60 0 6), .ref (A 90 0), .int 2]) := K1.c60
        have k91pK1 : h2 (A 91 p) = some (aI 6 (σ.1 91 p)) := (K1.c91 hp6)
        have k92pK1 : h2 (A 92 p) = some (aI 6 (σ.1 92 p)) := (K1.c92 hp6)
        refine pw_aload_n (pc2 := 41) dX10_dropNeed_40 rfl rfl 0 rfl (by first | exact rf_ref _ | exact rf_opt _ | exact rf_nul) ?_
        refine pw_get (pc2 := 44) kX10 (k := 37) (by decide) rfl fl_X10_109 c60K1 rfl dX10_dropNeed_41 rfl ?_
        refine pw_if_le (tgt := 49) (pc2 := 47) dX10_dropNeed_44 (by decide) rfl (fun c44 => by exact absurd c44 (by decide)) (fun _ => ?_)
        refine pw_iconst (pc2 := 48) (v := 0) dX10_dropNeed_47 rfl (by decide) ?_
        refine pw_iret dX10_dropNeed_48 rfl (by first | rfl | assumption | simp [narrow]) ?_
        exact Or.inr ⟨p, q, hpp, hqq, rfl, rfl, Or.inl ⟨c29, rfl, K1, FK1⟩⟩
    · refine pw_if_ne (tgt := 21) (pc2 := 17) dX10_dropNeed_14 (by decide) rfl (fun c14 => by exact absurd (by decide) c14) (fun _ => ?_)
      refine pw_iconst (pc2 := 18) (v := 1) dX10_dropNeed_17 rfl (by decide) ?_
      refine pw_goto (tgt := 37) dX10_dropNeed_18 (by decide) ?_
      refine pw_put (pc2 := 40) kX10 (k := 37) (by decide) rfl rfl fl_X10_109 H.c60 (by first | decide | simp) (by first | rfl | exact nar_rf _ _) (by first | rfl | exact fit_rf _ _) dX10_dropNeed_37 rfl ?_
      obtain ⟨K1, FK1⟩ := H.wIF (FM.rfl') (t := 60) (i := 0) (f := (upd (σ.1 60 0) 7 1)) rfl (by decide) (iv_setI H.iv (by decide)) rfl
      obtain ⟨h2, eh2⟩ : ∃ z : Nat → Option hE, z = va_up h (A 60 0) (some (oB 13 [.ref (A 61 0), .ref (A 62 0), .ref (A 63 0), .ref (A 64 0), .ref (A 65 0), .ref (A 66 0), .ref (A 67 0), .ref (A 68 0), .ref (A 69 0), .ref (A 70 0), .ref (A 71 0), .ref (A 72 0), .ref (A 73 0), .ref (A 74 0), .ref (A 75 0), .ref (A 76 0), .int (σ.1 60 0 0), .ref (A 77 0), .ref (A 78 0), .ref (A 79 0), .ref (A 80 0), .ref (A 81 0), .ref (A 82 0), .ref (A 83 0), .int (σ.1 60 0 1), .ref (A 84 0), .ref (A 85 0), .ref (A 86 0), .ref (A 87 0), .ref (A 88 0), .int (σ.1 60 0 2), .int (σ.1 60 0 3), .ref (A 89 0), .int (σ.1 60 0 4), .int (σ.1 60 0 5), .int (σ.1 60 0 6), .ref (A 90 0), .int 1])) := ⟨_, rfl⟩
      refine PW.heap (h' := h2) eh2.symm ?_
      replace K1 : WM G h2 A (thS σ 1) := by rw [eh2]; exact K1
      replace FK1 : FM A h h2 := by rw [eh2]; exact FK1
      have c60K1 : h2 (A 60 0) = some (oB 13 [.ref (A 61 0), .ref (A 62 0), .ref (A 63 0), .ref (A 64 0), .ref (A 65 0), .ref (A 66 0), .ref (A 67 0), .ref (A 68 0), .ref (A 69 0), .ref (A 70 0), .ref (A 71 0), .ref (A 72 0), .ref (A 73 0), .ref (A 74 0), .ref (A 75 0), .ref (A 76 0), .int (σ.1 60 0 0), .ref (A 77 0), .ref (A 78 0), .ref (A 79 0), .ref (A 80 0), .ref (A 81 0), .ref (A 82 0), .ref (A 83 0), .int (σ.1 60 0 1), .ref (A 84 0), .ref (A 85 0), .ref (A 86 0), .ref (A 87 0), .ref (A 88 0), .int (σ.1 60 0 2), .int (σ.1 60 0 3), .ref (A 89 0), .int (σ.1 60 0 4), .int (σ.1 60 0 5), .int (σ.1 60 0 6), .ref (A 90 0), .int 1]) := K1.c60
      refine pw_aload_n (pc2 := 41) dX10_dropNeed_40 rfl rfl 0 rfl (by first | exact rf_ref _ | exact rf_opt _ | exact rf_nul) ?_
      refine pw_get (pc2 := 44) kX10 (k := 37) (by decide) rfl fl_X10_109 c60K1 rfl dX10_dropNeed_41 rfl ?_
      refine pw_if_le (tgt := 49) (pc2 := 47) dX10_dropNeed_44 (by decide) rfl (fun c44 => by exact absurd c44 (by decide)) (fun _ => ?_)
      refine pw_iconst (pc2 := 48) (v := 0) dX10_dropNeed_47 rfl (by decide) ?_
      refine pw_iret dX10_dropNeed_48 rfl (by first | rfl | assumption | simp [narrow]) ?_
      exact Or.inl ⟨by first | exact fun z => q3 z.1 | exact fun z => q11 z.2, rfl, K1, FK1⟩
  · refine pw_if_eq (tgt := 17) (pc2 := 9) dX10_dropNeed_6 (by decide) rfl (fun _ => ?_) (fun c6 => by exact absurd (by decide) c6)
    refine pw_iconst (pc2 := 18) (v := 1) dX10_dropNeed_17 rfl (by decide) ?_
    refine pw_goto (tgt := 37) dX10_dropNeed_18 (by decide) ?_
    refine pw_put (pc2 := 40) kX10 (k := 37) (by decide) rfl rfl fl_X10_109 H.c60 (by first | decide | simp) (by first | rfl | exact nar_rf _ _) (by first | rfl | exact fit_rf _ _) dX10_dropNeed_37 rfl ?_
    obtain ⟨K1, FK1⟩ := H.wIF (FM.rfl') (t := 60) (i := 0) (f := (upd (σ.1 60 0) 7 1)) rfl (by decide) (iv_setI H.iv (by decide)) rfl
    obtain ⟨h2, eh2⟩ : ∃ z : Nat → Option hE, z = va_up h (A 60 0) (some (oB 13 [.ref (A 61 0), .ref (A 62 0), .ref (A 63 0), .ref (A 64 0), .ref (A 65 0), .ref (A 66 0), .ref (A 67 0), .ref (A 68 0), .ref (A 69 0), .ref (A 70 0), .ref (A 71 0), .ref (A 72 0), .ref (A 73 0), .ref (A 74 0), .ref (A 75 0), .ref (A 76 0), .int (σ.1 60 0 0), .ref (A 77 0), .ref (A 78 0), .ref (A 79 0), .ref (A 80 0), .ref (A 81 0), .ref (A 82 0), .ref (A 83 0), .int (σ.1 60 0 1), .ref (A 84 0), .ref (A 85 0), .ref (A 86 0), .ref (A 87 0), .ref (A 88 0), .int (σ.1 60 0 2), .int (σ.1 60 0 3), .ref (A 89 0), .int (σ.1 60 0 4), .int (σ.1 60 0 5), .int (σ.1 60 0 6), .ref (A 90 0), .int 1])) := ⟨_, rfl⟩
    refine PW.heap (h' := h2) eh2.symm ?_
    replace K1 : WM G h2 A (thS σ 1) := by rw [eh2]; exact K1
    replace FK1 : FM A h h2 := by rw [eh2]; exact FK1
    have c60K1 : h2 (A 60 0) = some (oB 13 [.ref (A 61 0), .ref (A 62 0), .ref (A 63 0), .ref (A 64 0), .ref (A 65 0), .ref (A 66 0), .ref (A 67 0), .ref (A 68 0), .ref (A 69 0), .ref (A 70 0), .ref (A 71 0), .ref (A 72 0), .ref (A 73 0), .ref (A 74 0), .ref (A 75 0), .ref (A 76 0), .int (σ.1 60 0 0), .ref (A 77 0), .ref (A 78 0), .ref (A 79 0), .ref (A 80 0), .ref (A 81 0), .ref (A 82 0), .ref (A 83 0), .int (σ.1 60 0 1), .ref (A 84 0), .ref (A 85 0), .ref (A 86 0), .ref (A 87 0), .ref (A 88 0), .int (σ.1 60 0 2), .int (σ.1 60 0 3), .ref (A 89 0), .int (σ.1 60 0 4), .int (σ.1 60 0 5), .int (σ.1 60 0 6), .ref (A 90 0), .int 1]) := K1.c60
    refine pw_aload_n (pc2 := 41) dX10_dropNeed_40 rfl rfl 0 rfl (by first | exact rf_ref _ | exact rf_opt _ | exact rf_nul) ?_
    refine pw_get (pc2 := 44) kX10 (k := 37) (by decide) rfl fl_X10_109 c60K1 rfl dX10_dropNeed_41 rfl ?_
    refine pw_if_le (tgt := 49) (pc2 := 47) dX10_dropNeed_44 (by decide) rfl (fun c44 => by exact absurd c44 (by decide)) (fun _ => ?_)
    refine pw_iconst (pc2 := 48) (v := 0) dX10_dropNeed_47 rfl (by decide) ?_
    refine pw_iret dX10_dropNeed_48 rfl (by first | rfl | assumption | simp [narrow]) ?_
    exact Or.inl ⟨by first | exact fun z => q3 z.1 | exact fun z => q11 z.2, rfl, K1, FK1⟩
