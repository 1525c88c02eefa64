/-! the law's script, read in a method of its own; remainders -/
theorem rem_i (v : Int32) {m : Nat} (h0 : 0 < m) (h1 : m < 2147483648) : (v - v / nI m * nI m).toInt = v.toInt.tmod (m : Int) := by
  have e : (nI m).toInt = (m : Int) := nI_toInt (by omega)
  have hne : nI m ≠ -1 := fun z => by
    have q := congrArg Int32.toInt z
    rw [e] at q
    have q1 : (-1 : Int32).toInt = -1 := rfl
    omega
  have hd : (v / nI m).toInt = v.toInt.tdiv (m : Int) := by rw [Int32.toInt_div_of_ne_right _ _ hne, e]
  have a := Int.tmod_add_mul_tdiv v.toInt (m : Int)
  have b1 := Int.tmod_lt_of_pos v.toInt (b := (m : Int)) (by omega)
  have b2 := Int.lt_tmod_of_pos v.toInt (b := (m : Int)) (by omega)
  have v1 := v.le_toInt
  have v2 := v.toInt_lt
  have s1 : 0 ≤ v.toInt → 0 ≤ v.toInt.tmod (m : Int) := fun z => Int.tmod_nonneg _ z
  have s2 : v.toInt ≤ 0 → v.toInt.tmod (m : Int) ≤ 0 := fun z => by
    have q := Int.tmod_nonneg (a := -v.toInt) (m : Int) (by omega)
    rw [Int.neg_tmod] at q
    omega
  have e2 : v.toInt.tdiv (m : Int) * (m : Int) = v.toInt - v.toInt.tmod (m : Int) := by rw [Int.mul_comm]; omega
  have p31 : (2 : Int) ^ 31 = 2147483648 := by decide
  rw [Int32.toInt_sub, Int32.toInt_mul, hd, e, e2]
  have c1 : (v.toInt - v.toInt.tmod (m : Int)).bmod (2 ^ 32) = v.toInt - v.toInt.tmod (m : Int) := Int.bmod_eq_of_le (by omega) (by omega)
  rw [c1, show v.toInt - (v.toInt - v.toInt.tmod (m : Int)) = v.toInt.tmod (m : Int) by omega]
  exact Int.bmod_eq_of_le (by omega) (by omega)
theorem rem_n {a m : Nat} (ha : a < 2147483648) (h0 : 0 < m) (h1 : m < 2147483648) : nI a - nI a / nI m * nI m = nI (a % m) := by
  apply Int32.toInt_inj.mp
  have hm := Nat.mod_lt a h0
  rw [rem_i _ h0 h1, nI_toInt (by omega), nI_toInt (by omega)]
  exact (Int.ofNat_tmod a m).symm
theorem div_n {a m : Nat} (ha : a < 2147483648) (h0 : 0 < m) (h1 : m < 2147483648) : nI a / nI m = nI (a / m) := by
  apply Int32.toInt_inj.mp
  have e : (nI m).toInt = (m : Int) := nI_toInt (by omega)
  have hne : nI m ≠ -1 := fun z => by
    have q := congrArg Int32.toInt z
    rw [e] at q
    have q1 : (-1 : Int32).toInt = -1 := rfl
    omega
  have hd := Nat.div_le_self a m
  rw [Int32.toInt_div_of_ne_right _ _ hne, e, nI_toInt (by omega), nI_toInt (by omega)]
  exact (Int.ofNat_tdiv a m).symm
/-- the script lies where it lay, and is not written -/
def psC (sc L : Nat) (xs : Nat → Int32) : hAmb := fun s A => va_X sc L xs s s.heap ∧ sc < s.heap.size ∧ ¬ A sc
/-- a contract under what is held beside the heap -/
def PMetX (Ps : hAmb) (G : hG) (M : hMI) (k mc ms : Nat) (As : List Value) (h : hp) (Q : Option Value → hp → Prop) (X : String → hp → Prop) : Prop :=
  ∀ (l : Launch) (d sz : Nat), l.stackTraces = false → k ≤ d → vx_Met l M.1 (wsOf M) (rmOf d mc ms) (va_Pc As (fun U => hPre G h sz U ∧ Ps U (dm G h sz))) (hQc G Q (dm G h sz)) (hXc G X (dm G h sz)) mc ms (dm G h sz)
theorem PMetX.of {Ps : hAmb} {G : hG} {M : hMI} {k mc ms : Nat} {As : List Value} {h : hp} {Q : Option Value → hp → Prop} {X : String → hp → Prop} (hpl : plainName M.1.cls = true) (hh : M.2.2.2.2 = []) (hL : (lg_sl As).length ≤ M.2.2.1)
    (H : ∀ d, k ≤ d → PW G M d Ps (E0 G Q X) mc ms 0 (lv_args 0 As) [] h) : PMetX Ps G M k mc ms As h Q X := by
  intro l d sz hl hd
  refine vx_ofW (cc := M.2.1) (maxL := M.2.2.1) (ret := M.2.2.2.1) (ws' := gws) hpl (by unfold wsOf; rw [if_pos hh]) ?_
  intro p e s m args below meth c s₁ B hml ht hv
  obtain ⟨rfl, ⟨hsz, hR, hS, hKk, hEe⟩, hps⟩ := hv
  have hts0 := atoms_spec (ws := wsOf M) B.pre
  have hts : ∀ w ∈ gws, w.before As.toArray s = true := fun w hw => hts0 w (List.mem_cons_of_mem _ hw)
  have hown : s.vm.findClass M.1.cls = some m.cls := findClass_of_methodNamed B.named
  have hnm : meth.name = M.1.name := (name_of_methodNamed B.named B.method).1
  have htab : c.exceptionTable.toList = tableOf M.2.2.2.2 := by
    rw [hh]
    cases hl : c.exceptionTable.toList with
    | nil => rfl
    | cons x xs => exact (ht x (by rw [hl]; exact List.mem_cons_self)).elim
  rw [lg_entry_eq]
  exact H d hd p l e (rmOf d mc ms) s m As.toArray below meth c (dm G h sz) s.heap [] 0 0 _ mc ms
    ⟨B.exec, B.bytes, hml, hown, hts, B.returns, htab, hnm, B.notSynchronized, hl, ⟨Nat.le_refl _, Nat.le_refl _⟩, hKk, hEe, hS, fun q hq => Or.inr (by rw [← hsz]; exact hq), hps⟩
    hR va_S.rf (lv_entry As hL) ⟨by omega, by omega, Nat.le_refl _, Nat.le_refl _⟩
section SCR
variable {G : hG} {M M2 : hMI} {d : Nat} {E : hEnd} {kc ks mc ms pc pc2 sc Ln : Nat} {xs : Nat → Int32} {L : List (Nat × Value)} {S rest : List Value} {h : hp} {Q : Option Value → hp → Prop}
theorem pw_sldC {i : Nat} (hi : i < Ln) (hn : Ln < 2147483648) (hdg : decode M.2.1 pc = .ok (.iaload, 1)) (hpc : pc + 1 = pc2) (kk : PW G M d (psC sc Ln xs) E kc ks pc2 L (.int (xs i) :: S) h) : PW G M d (psC sc Ln xs) E kc ks pc L (.int (nI i) :: .ref sc :: S) h := by
  subst hpc
  intro p l e R s m args below meth c A H locs cells slots ls MC MS C0 hR hS hl hm
  have C1 := C0
  obtain ⟨hx, hb, hml, hown, hts, hr, htab, hnm, hlocks, hst0, -, hKk, hEe, hSt0, hA, hPs⟩ := C0
  have k2 := kk p l e R s m args below meth c A H locs cells slots ls MC MS C1 hR hS hl hm
  rw [show xs i = xs (Int32.toNatClampNeg (nI i)) by rw [nI_clamp (by omega)]] at k2
  exact va_sld hx hb hPs.1 hPs.2.1 hPs.2.2 hS (vp_in_nI hi (by omega)) hdg k2
theorem pw_slenC (hdg : decode M.2.1 pc = .ok (.arraylength, 1)) (hpc : pc + 1 = pc2) (kk : PW G M d (psC sc Ln xs) E kc ks pc2 L (.int (nI Ln) :: S) h) : PW G M d (psC sc Ln xs) E kc ks pc L (.ref sc :: S) h := by
  subst hpc
  intro p l e R s m args below meth c A H locs cells slots ls MC MS C0 hR hS hl hm
  have C1 := C0
  obtain ⟨hx, hb, hml, hown, hts, hr, htab, hnm, hlocks, hst0, -, hKk, hEe, hSt0, hA, hPs⟩ := C0
  exact va_slen hx hb hPs.1 hPs.2.1 hPs.2.2 hS hdg (kk p l e R s m args below meth c A H locs cells slots ls MC MS C1 hR hS hl hm)
/-- the script lies where it lay; what is written is new -/
def psX (sc L : Nat) (xs : Nat → Int32) : hAmb := fun s A => va_X sc L xs s s.heap ∧ sc < s.heap.size ∧ ∀ q, A q → s.heap.size ≤ q
/-- a static call of a method that reads the script -/
theorem pw_callSX {k idx n : Nat} {As : List Value} (hc : PMetX (psC sc Ln xs) G M2 k mc ms As h Q noX) (hh : M2.2.2.2.2 = []) (cs : CSs M.1.cls M2 idx n) (hn : As.length = n) (hdg : decode M.2.1 pc = .ok (.invokestatic idx, 3)) (hpc : pc + 3 = pc2) (hd : k + 1 ≤ d) (hst : S = As.reverse ++ rest) (hcat : (rest.map fun v => v.category).sum ≤ 8)
    (kk : ∀ (r : Option Value) (h' : hp), Q r h' → PW G M d (psX sc Ln xs) E kc ks pc2 L (r.toList ++ rest) h') : PW G M d (psX sc Ln xs) E (kc + mc) (ks + ms) pc L S h := by
  subst hpc
  intro p l e R s m args below meth c A H locs cells slots ls MC MS C hR hS hl hm
  have C0 := C
  obtain ⟨hx, hb, hml, hown, hts, hr, htab, hnm, hlocks, hst0, ⟨hf1, hf2⟩, hKk, hEe, hSt0, hA, hPs⟩ := C
  obtain ⟨⟨w1, w2, w3, hnames, hmx⟩, w4⟩ := cs
  have hd2 : d - 1 + 1 = d := by omega
  have hMt := hc l (d - 1) H.size hst0 (by omega)
  have hfr : (rmOf (d - 1) mc ms).frames + 1 ≤ R.frames := by show d - 1 + 6 + 1 ≤ R.frames; omega
  have hlo : 8 + (M2.2.2.1 + 11) + (rmOf (d - 1) mc ms).locals ≤ R.locals := by show 8 + (M2.2.2.1 + 11) + (40 * (d - 1) + 100) ≤ R.locals; omega
  have hnA : ¬ A sc := fun q => absurd (hPs.2.2 _ q) (Nat.not_le.mpr hPs.2.1)
  have hsz : sc < H.size := Nat.lt_of_lt_of_le hPs.2.1 hS.1
  have hA2 : ∀ q : Nat, H.size ≤ q → A q := fun q hq => hA q (Nat.le_trans hS.1 hq)
  have hnD : ¬ dm G h H.size sc := fun q => hnA (hR.dmSub hA2 _ q)
  have hXH : va_X sc Ln xs s H := hPs.1.kept (hS.2.1 _ hPs.2.1 hnA)
  have hpre : PreS s H (va_Pc As (fun U => hPre G h H.size U ∧ psC sc Ln xs U (dm G h H.size))) As := by
    refine ⟨fun a U g mk H9 => ⟨H9.1, hPre.vm (u := U) (U := U.calling g mk a) rfl (State.WarmedH.refl U) H9.2.1, H9.2.2.1.moved (State.WarmedH.refl U).alike, H9.2.2.2⟩, fun U hU hW => ⟨rfl, C0.pre hR hS hU hW, ?_, ?_, hnD⟩⟩
    · rw [hU]; exact hXH.moved hW.alike
    · rw [hU]; exact hsz
  have hin : ∀ w ∈ va_wsS M.1.cls idx M2.1 (wsOf M2), w ∈ gws := by
    intro w hw
    unfold va_wsS at hw
    rcases List.mem_append.mp hw with hw | hw
    · simp only [List.mem_cons, List.not_mem_nil, or_false] at hw
      rcases hw with rfl | rfl | rfl
      · exact w1
      · exact w4
      · exact w2
    · rcases List.mem_cons.mp hw with rfl | hw
      · exact w3
      · exact hw
  have hrun : vx_Run p l e R s m args below meth c H locs cells slots mc ms (F0 m pc ls S) rest (hQc G Q (dm G h H.size) As.toArray) (hXc G noX (dm G h H.size)) (dm G h H.size) :=
    vx_runS ⟨hx, hb, hml, hown, hts⟩ hMt (va_cwS n hts (gi_of hin) (by unfold wsOf; rw [if_pos hh]) rfl rfl hnames ⟨hfr, hlo⟩) hpre rfl hn hl.1 hst (lv_room hcat) hdg ⟨by omega, by omega⟩
  exact run_W hrun C0 hR hS (fun r h' H1 locs1 q1 q2 q3 => kk r h' q1 p l e R s m args below meth c A H1 locs1 _ _ ls MC MS C0 q2 q3 hl ⟨by omega, by omega, hm.2.2.1, hm.2.2.2⟩)
    (fun Y h' H1 locs1 ce q q1 => q1.elim)
end SCR
set_option maxHeartbeats 4000000 in
set_option maxRecDepth 100000 in
/-- a place of the script, or 0 -/
theorem c_at (G : hG) (h : hp) {sc Ln k : Nat} {xs : Nat → Int32} (hL : Ln ≤ 260) (hk : k < 100000) : PMetX (psC sc Ln xs) G ML_at 0 0 0 [.ref sc, .int (nI k)] h (fun r h2 => h2 = h ∧ ∃ v, r = some (.int v)) noX := by
  refine PMetX.of (by decide +kernel) rfl (Nat.le_of_ble_eq_true rfl) (fun d hd => ?_)
  refine PW.sub (L2 := [(0, Value.ref sc), (1, Value.int (nI k))]) [0, 1] rfl ?_
  refine pw_iload_n (pc2 := 1) dL_at_0 rfl rfl 1 rfl ?_
  refine pw_aload_n (pc2 := 2) dL_at_1 rfl rfl 0 rfl (by first | exact rf_ref _ | exact rf_opt _ | exact rf_nul) ?_
  refine pw_slenC (pc2 := 3) dL_at_2 rfl ?_
  refine pw_icmp_ge (tgt := 12) (pc2 := 6) dL_at_3 (by decide) rfl (fun c3 => ?_) (fun c3 => ?_)
  · refine pw_iconst (pc2 := 13) (v := 0) dL_at_12 rfl (by decide) ?_
    refine pw_iret dL_at_13 rfl (by first | rfl | assumption | simp [narrow]) ?_
    exact ⟨rfl, _, rfl⟩
  · have hlt : k < Ln := Nat.not_le.mp (fun z => c3 ((nI_leI (by omega) (by omega)).mpr z))
    refine pw_aload_n (pc2 := 7) dL_at_6 rfl rfl 0 rfl (by first | exact rf_ref _ | exact rf_opt _ | exact rf_nul) ?_
    refine pw_iload_n (pc2 := 8) dL_at_7 rfl rfl 1 rfl ?_
    refine pw_sldC (pc2 := 9) (i := k) hlt (by omega) dL_at_8 rfl ?_
    refine pw_goto (tgt := 13) dL_at_9 (by decide) ?_
    refine pw_iret dL_at_13 rfl (by first | rfl | assumption | simp [narrow]) ?_
    exact ⟨rfl, _, rfl⟩
set_option maxHeartbeats 4000000 in
set_option maxRecDepth 100000 in
/-- some number below n -/
theorem c_some (G : hG) (h : hp) (v : Int32) {n : Nat} (h0 : 0 < n) (h1 : n < 2147483648) : PMet G ML_some 0 0 0 [.int v, .int (nI n)] h (fun r h2 => h2 = h ∧ ∃ w, w < n ∧ r = some (.int (nI w))) noX := by
  have key := rem_i v h0 h1
  have b1 := Int.tmod_lt_of_pos v.toInt (b := (n : Int)) (by omega)
  have b2 := Int.lt_tmod_of_pos v.toInt (b := (n : Int)) (by omega)
  refine PMet.of (by decide +kernel) (Nat.le_of_ble_eq_true rfl) (fun d hd => ?_)
  refine PW.sub (L2 := [(0, Value.int v), (1, Value.int (nI n))]) [0, 1] rfl ?_
  refine pw_iload_n (pc2 := 1) dL_some_0 rfl rfl 0 rfl ?_
  refine pw_iload_n (pc2 := 2) dL_some_1 rfl rfl 1 rfl ?_
  refine pw_irem (pc2 := 3) dL_some_2 rfl (nI_ne0 (by omega) (by omega)) ?_
  generalize v - v / nI n * nI n = r at key ⊢
  refine pw_istore_n (pc2 := 4) (L2 := [(2, Value.int r), (0, Value.int v), (1, Value.int (nI n))]) dL_some_3 rfl rfl (by decide) rfl ?_
  refine pw_iload_n (pc2 := 5) dL_some_4 rfl rfl 0 rfl ?_
  refine pw_if_ge (tgt := 14) (pc2 := 8) dL_some_5 (by decide) rfl (fun c5 => ?_) (fun c5 => ?_)
  · refine pw_iload_n (pc2 := 15) dL_some_14 rfl rfl 0 rfl ?_
    refine pw_iret dL_some_15 rfl (by first | rfl | assumption | simp [narrow]) ?_
    rw [Int32.le_iff_toInt_le, key] at c5
    have z : (0 : Int32).toInt = 0 := rfl
    refine ⟨rfl, r.toInt.toNat, by omega, ?_⟩
    have e : r = nI r.toInt.toNat := by
      apply Int32.toInt_inj.mp
      rw [nI_toInt (by omega)]
      omega
    rw [← e]
  · refine pw_iload_n (pc2 := 9) dL_some_8 rfl rfl 0 rfl ?_
    refine pw_iload_n (pc2 := 10) dL_some_9 rfl rfl 2 rfl ?_
    refine pw_iadd (pc2 := 11) dL_some_10 rfl ?_
    refine pw_goto (tgt := 15) dL_some_11 (by decide) ?_
    refine pw_iret dL_some_15 rfl (by first | rfl | assumption | simp [narrow]) ?_
    rw [Int32.le_iff_toInt_le, key] at c5
    have z : (0 : Int32).toInt = 0 := rfl
    have p31 : (2 : Int) ^ 31 = 2147483648 := by decide
    refine ⟨rfl, (r.toInt + n).toNat, by omega, ?_⟩
    have e : r + nI n = nI (r.toInt + n).toNat := by
      apply Int32.toInt_inj.mp
      rw [Int32.toInt_add, nI_toInt (by omega), nI_toInt (by omega), Int.bmod_eq_of_le (by omega) (by omega)]
      omega
    rw [← e]
