/-! ends, calls, throws, handlers over the pure heap -/
theorem gi_of {l : List Cond} (h : ∀ w ∈ l, w ∈ gws) : GoodIn gws l := fun w hw => gws_good w (h w hw)
theorem nestW_tab {w : Cond} (h : nestW w = true) : w.onTables = true := by
  cases w <;> first | rfl | cases h
theorem nws_use {U : State} {A : Array Value} (hE : hEnv U) {w : Cond} (h : w ∈ nws) : w.before A U = true := va_Nw.use (nestW_tab (List.mem_filter.mp h).2) (hE.1 w h)
theorem hPre.blind {G : hG} {h : hp} {sz : Nat} {As : List Value} : FrameBlind (va_Pc As (hPre G h sz)) := fun a U g mk H => ⟨H.1, hPre.vm (u := U) (U := U.calling g mk a) rfl (State.WarmedH.refl U) H.2⟩
section PWC
variable {G : hG} {M M2 : hMI} {d : Nat} {Ps : hAmb} {E : hEnd} {kc ks mc ms pc pc2 tgt : Nat} {L : List (Nat × Value)} {S rest : List Value} {h : hp} {Q : Option Value → hp → Prop} {X : String → hp → Prop}
theorem CX.pre {p : Program} {l : Launch} {R : Room} {s : State} {m : MethodId} {args : Array Value} {meth : Method} {c : Code} {A : Nat → Prop} {H : Heap} {locs : List Loc} (C : CX G M d Ps p l R s m args meth c A) (hR : RQ G A h H) (hS : va_S A s.heap H locs) {U : State} (hU : U.heap = H) (hW : s.WarmedH U.vm) : hPre G h H.size U := by
  obtain ⟨-, -, -, -, -, -, -, -, -, -, -, hKk, hEe, hSt0, hA, -⟩ := C
  have hA2 : ∀ q : Nat, H.size ≤ q → A q := fun q hq => hA q (Nat.le_trans hS.1 hq)
  refine ⟨by rw [hU], by rw [hU]; exact hR.toDm _, ?_, va_K.moved hW.alike hKk, hEe.warm hW⟩
  rw [hU]
  exact ((hSt0.kept hS.2.1).narrow (hR.dmSub hA2)).moved hW.alike
theorem run_W {p : Program} {l : Launch} {e : Env} {R : Room} {s : State} {m : MethodId} {args : Array Value} {below : List Frame} {meth : Method} {c : Code} {A : Nat → Prop} {H : Heap} {locs : List Loc} {cells slots : Nat} {ls : Array Slot} {Qz : State → Prop} {a : Array Value}
    (hr : vx_Run p l e R s m args below meth c H locs cells slots mc ms (F0 m pc ls S) rest (hQc G Q (dm G h H.size) a) (hXc G X (dm G h H.size)) (dm G h H.size)) (C : CX G M d Ps p l R s m args meth c A) (hR : RQ G A h H) (hS : va_S A s.heap H locs)
    (kk : ∀ (r : Option Value) (h' : hp) (H1 : Heap) (locs1 : List Loc), Q r h' → RQ G A h' H1 → va_S A s.heap H1 locs1 → W p l e R s m args below meth c H1 locs1 (cells + mc) (slots + ms) Qz (F0 m (pc + 3) ls (r.toList ++ rest)))
    (kx : ∀ (Y : String) (h' : hp) (H1 : Heap) (locs1 : List Loc) (ce : Cell) (q : Addr), X Y h' → RQ G A h' H1 → va_S A s.heap H1 locs1 → H1[q]? = some ce → ce.vm = .none → s.vm.findClass Y = some ce.cls → vx_W p l e R s m args below meth c H1 locs1 (cells + mc) (slots + ms) Qz (F0 m pc ls rest) q) :
    W p l e R s m args below meth c H locs cells slots Qz (F0 m pc ls S) := by
  have hA := C.2.2.2.2.2.2.2.2.2.2.2.2.2.2.1
  have hA2 : ∀ q : Nat, H.size ≤ q → A q := fun q hq => hA q (Nat.le_trans hS.1 hq)
  have hsub := hR.dmSub hA2
  intro T hT Xs
  rcases hr T hT Xs with ⟨v, st₀, t, T', Ls, h0, X', hL, e1, e2, ⟨⟨r, h', hv, hq, hR'⟩, hF⟩, st⟩ | ⟨q, st₀, t, T', Ls, Y, ce, h0, X', hL, e1, e2, ⟨⟨h', hq, hR'⟩, hF⟩, hce, hcv, hcl, st⟩
  · cases hv
    obtain ⟨k1, k2, k3⟩ := vx_keep h0 e1 hS (fun q _ hq => hsub q hq) hsub hL hF
    obtain ⟨t2, a1, b1⟩ := kk _ h' T'.heap (locs ++ Ls) hq (by rw [e1]; exact hR'.wide hsub) k3 T' rfl X'
    exact ⟨t2, st t2 a1, b1⟩
  · obtain ⟨k1, k2, k3⟩ := vx_keep h0 e1 hS (fun q _ hq => hsub q hq) hsub hL hF
    obtain ⟨t2, a1, b1⟩ := kx Y h' T'.heap (locs ++ Ls) ce q hq (by rw [e1]; exact hR'.wide hsub) k3 (by rw [e1]; exact hce) hcv hcl T' rfl X'
    exact ⟨t2, st.trans a1, b1⟩
/-! ends -/
theorem pw_iret {v : Int32} {ty : FieldType} (hdg : decode M.2.1 pc = .ok (.ireturn, 1)) (hr : M.2.2.2.1 = some ty) (hn : narrow ty (.int v) = .int v) (hq : Q (some (.int v)) h) : PW G M d Ps (E0 G Q X) kc ks pc L [.int v] h := by
  intro p l e R s m args below meth c A H locs cells slots ls MC MS C hR hS hl hm
  refine W.widen (k := MC) (n := MS) (by omega) (by omega) (vx_ret ?_)
  exact W.zret C.1 C.2.1 (C.2.2.2.2.2.1.trans hr) hn (fun t ht hW => ⟨⟨_, h, rfl, hq, by rw [ht]; exact hR⟩, hS.F ht⟩) hS.2.2 hdg C.2.2.2.2.2.2.2.2.1
theorem pw_vret (hdg : decode M.2.1 pc = .ok (.return_, 1)) (hr : M.2.2.2.1 = none) (hq : Q none h) : PW G M d Ps (E0 G Q X) kc ks pc L [] h := by
  intro p l e R s m args below meth c A H locs cells slots ls MC MS C hR hS hl hm
  refine W.widen (k := MC) (n := MS) (by omega) (by omega) (vx_ret ?_)
  exact W.vret C.1 C.2.1 (C.2.2.2.2.2.1.trans hr) (fun t ht hW => ⟨⟨_, h, rfl, hq, by rw [ht]; exact hR⟩, hS.F ht⟩) hS.2.2 hdg C.2.2.2.2.2.2.2.2.1
theorem pw_aret {v : Value} {rt : FieldType} (hdg : decode M.2.1 pc = .ok (.areturn, 1)) (hr : M.2.2.2.1 = some rt) (hrt : (∃ n, rt = .object n) ∨ ∃ t, rt = .array t) (hv : isRf v) (hq : Q (some v) h) : PW G M d Ps (E0 G Q X) kc ks pc L [v] h := by
  intro p l e R s m args below meth c A H locs cells slots ls MC MS C hR hS hl hm
  refine W.widen (k := MC) (n := MS) (by omega) (by omega) (vx_ret ?_)
  exact W.aret C.1 C.2.1 (C.2.2.2.2.2.1.trans hr) hrt hv (fun t ht hW => ⟨⟨_, h, rfl, hq, by rw [ht]; exact hR⟩, hS.F ht⟩) hS.2.2 hdg C.2.2.2.2.2.2.2.2.1
theorem pw_fret {v : UInt32} (hdg : decode M.2.1 pc = .ok (.freturn, 1)) (hr : M.2.2.2.1 = some .float) (hq : Q (some (.float v)) h) : PW G M d Ps (E0 G Q X) kc ks pc L [.float v] h := by
  intro p l e R s m args below meth c A H locs cells slots ls MC MS C hR hS hl hm
  refine W.widen (k := MC) (n := MS) (by omega) (by omega) (vx_ret ?_)
  exact W.fret C.1 C.2.1 (C.2.2.2.2.2.1.trans hr) (fun t ht hW => ⟨⟨_, h, rfl, hq, by rw [ht]; exact hR⟩, hS.F ht⟩) hS.2.2 hdg C.2.2.2.2.2.2.2.2.1
theorem pw_dret {v : UInt64} (hdg : decode M.2.1 pc = .ok (.dreturn, 1)) (hr : M.2.2.2.1 = some .double) (hq : Q (some (.double v)) h) : PW G M d Ps (E0 G Q X) kc ks pc L [.double v] h := by
  intro p l e R s m args below meth c A H locs cells slots ls MC MS C hR hS hl hm
  refine W.widen (k := MC) (n := MS) (by omega) (by omega) (vx_ret ?_)
  exact W.dret C.1 C.2.1 (C.2.2.2.2.2.1.trans hr) (fun t ht hW => ⟨⟨_, h, rfl, hq, by rw [ht]; exact hR⟩, hS.F ht⟩) hS.2.2 hdg C.2.2.2.2.2.2.2.2.1
/-! calls: the words of a site -/
def codeW (M2 : hMI) : Cond := if M2.2.2.2.2 = [] then Cond.code M2.1 M2.2.1 M2.2.2.1 M2.2.2.2.1 else Cond.codeWith M2.1 M2.2.1 M2.2.2.1 M2.2.2.2.1 M2.2.2.2.2
def CS0 (own : String) (M2 : hMI) (idx n : Nat) : Prop := Cond.methodLink own idx M2.1 ∈ gws ∧ Cond.initialized M2.1.cls ∈ gws ∧ codeW M2 ∈ gws ∧ (M2.1.cls ≠ "java/lang/invoke/MethodHandle" ∧ M2.1.cls ≠ "java/lang/invoke/VarHandle" ∧ (parseMethodDescriptor M2.1.desc).map (fun d => d.parameters.length) = some n) ∧ M2.2.2.1 ≤ 20
/-- a static call -/
def CSs (own : String) (M2 : hMI) (idx n : Nat) : Prop := CS0 own M2 idx n ∧ Cond.static M2.1 ∈ gws
/-- a virtual call of a method of the receiver's own class, which is number ci -/
def CSv (own : String) (M2 : hMI) (idx n ci : Nat) : Prop := CS0 own M2 idx n ∧ Cond.instanceMethod M2.1 ∈ gws ∧ Cond.selects M2.1.cls M2.1 M2.1 ∈ gws ∧ ∃ (T : u_T) (N : Nat), vwCl[ci]? = some (M2.1.cls, T, N)
/-- a constructor's call -/
def CSi (own : String) (M2 : hMI) (idx n : Nat) : Prop := CS0 own M2 idx n ∧ Cond.instanceMethod M2.1 ∈ gws ∧ M2.1.name = "<init>"
theorem pw_callS {k idx n : Nat} {As : List Value} (hc : PMet G M2 k mc ms As h Q X) (cs : CSs M.1.cls M2 idx n) (hn : As.length = n) (hdg : decode M.2.1 pc = .ok (.invokestatic idx, 3)) (hpc : pc + 3 = pc2) (hd : k + 1 ≤ d) (hst : S = As.reverse ++ rest) (hcat : (rest.map fun v => v.category).sum ≤ 8)
    (kk : ∀ (r : Option Value) (h' : hp), Q r h' → PW G M d Ps E kc ks pc2 L (r.toList ++ rest) h') (kx : ∀ (Y : String) (h' : hp), X Y h' → PX G M d Ps E kc ks pc L Y h') : PW G M d Ps E (kc + mc) (ks + ms) pc L S h := by
  subst hpc
  intro p l e R s m args below meth c A H locs cells slots ls MC MS C hR hS hl hm
  have C0 := C
  obtain ⟨hx, hb, hml, hown, hts, hr, htab, hnm, hlocks, hst0, ⟨hf1, hf2⟩, hKk, hEe, hSt0, hA, hPs⟩ := C
  obtain ⟨⟨w1, w2, w3, hnames, hmx⟩, w4⟩ := cs
  have hd2 : d - 1 + 1 = d := by omega
  have hMt := hc l (d - 1) H.size hst0 (by omega)
  have hfr : (rmOf (d - 1) mc ms).frames + 1 ≤ R.frames := by show d - 1 + 6 + 1 ≤ R.frames; omega
  have hlo : 8 + (M2.2.2.1 + 11) + (rmOf (d - 1) mc ms).locals ≤ R.locals := by show 8 + (M2.2.2.1 + 11) + (40 * (d - 1) + 100) ≤ R.locals; omega
  have hpre : PreS s H (va_Pc As (hPre G h H.size)) As := ⟨hPre.blind, fun U hU hW => ⟨rfl, C0.pre hR hS hU hW⟩⟩
  have hin : ∀ w ∈ va_wsS M.1.cls idx M2.1 (wsOf M2), w ∈ gws := by
    intro w hw
    unfold va_wsS at hw
    rcases List.mem_append.mp hw with hw | hw
    · simp only [List.mem_cons, List.not_mem_nil, or_false] at hw
      rcases hw with rfl | rfl | rfl
      · exact w1
      · exact w4
      · exact w2
    · rcases List.mem_cons.mp hw with rfl | hw
      · exact w3
      · exact hw
  have hrun : vx_Run p l e R s m args below meth c H locs cells slots mc ms (F0 m pc ls S) rest (hQc G Q (dm G h H.size) As.toArray) (hXc G X (dm G h H.size)) (dm G h H.size) := by
    by_cases hh : M2.2.2.2.2 = []
    · exact vx_runS ⟨hx, hb, hml, hown, hts⟩ hMt (va_cwS n hts (gi_of hin) (by unfold wsOf; rw [if_pos hh]) rfl rfl hnames ⟨hfr, hlo⟩) hpre rfl hn hl.1 hst (lv_room hcat) hdg ⟨by omega, by omega⟩
    · exact vx_runSX (hh := M2.2.2.2.2) ⟨hx, hb, hml, hown, hts⟩ hMt (vx_cwSW n hts (gi_of hin) (by unfold wsOf; rw [if_neg hh]) rfl rfl hnames ⟨hfr, hlo⟩) hpre rfl hn hl.1 hst (lv_room hcat) hdg ⟨by omega, by omega⟩
  exact run_W hrun C0 hR hS (fun r h' H1 locs1 q1 q2 q3 => kk r h' q1 p l e R s m args below meth c A H1 locs1 _ _ ls MC MS C0 q2 q3 hl ⟨by omega, by omega, hm.2.2.1, hm.2.2.2⟩)
    (fun Y h' H1 locs1 ce q q1 q2 q3 q4 q5 q6 => kx Y h' q1 p l e R s m args below meth c A H1 locs1 _ _ ls MC MS rest ce q C0 q2 q3 hl ⟨by omega, by omega, hm.2.2.1, hm.2.2.2⟩ q4 q5 q6)
theorem pw_callV {k idx n ci b : Nat} {fs : List Value} {As : List Value} (hc : PMet G M2 k mc ms (.ref b :: As) h Q X) (cs : CSv M.1.cls M2 idx n ci) (hn : As.length = n) (hh : M2.2.2.2.2 = []) (hbo : h b = some (.inr (ci, fs))) (hdg : decode M.2.1 pc = .ok (.invokevirtual idx, 3)) (hpc : pc + 3 = pc2) (hd : k + 1 ≤ d) (hst : S = As.reverse ++ .ref b :: rest) (hcat : (rest.map fun v => v.category).sum ≤ 8)
    (kk : ∀ (r : Option Value) (h' : hp), Q r h' → PW G M d Ps E kc ks pc2 L (r.toList ++ rest) h') (kx : ∀ (Y : String) (h' : hp), X Y h' → PX G M d Ps E kc ks pc L Y h') : PW G M d Ps E (kc + mc) (ks + ms) pc L S h := by
  subst hpc
  intro p l e R s m args below meth c A H locs cells slots ls MC MS C hR hS hl hm
  have C0 := C
  obtain ⟨hx, hb, hml, hown, hts, hr, htab, hnm, hlocks, hst0, ⟨hf1, hf2⟩, hKk, hEe, hSt0, hA, hPs⟩ := C
  obtain ⟨⟨w1, w2, w3, hnames, hmx⟩, w4, w5, T, N, hcl⟩ := cs
  have hMt := hc l (d - 1) H.size hst0 (by omega)
  have hfr : (rmOf (d - 1) mc ms).frames + 1 ≤ R.frames := by show d - 1 + 6 + 1 ≤ R.frames; omega
  have hlo : 8 + (M2.2.2.1 + 11) + (rmOf (d - 1) mc ms).locals ≤ R.locals := by show 8 + (M2.2.2.1 + 11) + (40 * (d - 1) + 100) ≤ R.locals; omega
  have hpre : PreV s H M2.1.cls b (va_Pc (.ref b :: As) (hPre G h H.size)) As := ⟨hPre.blind, va_recv (q0 := 0) hKk (hR.one hbo (ne_dc hR hbo)) hcl rfl, fun U hU hW => ⟨rfl, C0.pre hR hS hU hW⟩⟩
  have hin : ∀ w ∈ wsV M.1.cls idx M2.1.cls M2.1 (wsOf M2), w ∈ gws := by
    intro w hw
    unfold wsV at hw
    rcases List.mem_append.mp hw with hw | hw
    · simp only [List.mem_cons, List.not_mem_nil, or_false] at hw
      rcases hw with rfl | rfl | rfl | rfl
      · exact w1
      · exact w4
      · exact w5
      · exact w2
    · rcases List.mem_cons.mp hw with rfl | hw
      · exact w3
      · exact hw
  have hrun : vx_Run p l e R s m args below meth c H locs cells slots mc ms (F0 m pc ls S) rest (hQc G Q (dm G h H.size) (Value.ref b :: As).toArray) (hXc G X (dm G h H.size)) (dm G h H.size) :=
    vx_runV ⟨hx, hb, hml, hown, hts⟩ hMt (cwV n hts (gi_of hin) (by unfold wsOf; rw [if_pos hh]) rfl rfl ⟨rfl, hnames⟩ ⟨hfr, hlo⟩) hpre rfl hn hl.1 hst (lv_room hcat) hdg ⟨by omega, by omega⟩
  exact run_W hrun C0 hR hS (fun r h' H1 locs1 q1 q2 q3 => kk r h' q1 p l e R s m args below meth c A H1 locs1 _ _ ls MC MS C0 q2 q3 hl ⟨by omega, by omega, hm.2.2.1, hm.2.2.2⟩)
    (fun Y h' H1 locs1 ce q q1 q2 q3 q4 q5 q6 => kx Y h' q1 p l e R s m args below meth c A H1 locs1 _ _ ls MC MS rest ce q C0 q2 q3 hl ⟨by omega, by omega, hm.2.2.1, hm.2.2.2⟩ q4 q5 q6)
theorem pw_callI {k idx n b : Nat} {As : List Value} (hc : PMet G M2 k mc ms (.ref b :: As) h Q X) (cs : CSi M.1.cls M2 idx n) (hn : As.length = n) (hh : M2.2.2.2.2 = []) (hrt : M2.2.2.2.1 = none) (hdg : decode M.2.1 pc = .ok (.invokespecial idx, 3)) (hpc : pc + 3 = pc2) (hd : k + 1 ≤ d) (hst : S = As.reverse ++ .ref b :: rest) (hcat : (rest.map fun v => v.category).sum ≤ 8)
    (kk : ∀ (r : Option Value) (h' : hp), Q r h' → PW G M d Ps E kc ks pc2 L (r.toList ++ rest) h') (kx : ∀ (Y : String) (h' : hp), X Y h' → PX G M d Ps E kc ks pc L Y h') : PW G M d Ps E (kc + mc) (ks + ms) pc L S h := by
  subst hpc
  intro p l e R s m args below meth c A H locs cells slots ls MC MS C hR hS hl hm
  have C0 := C
  obtain ⟨hx, hb, hml, hown, hts, hr, htab, hnm, hlocks, hst0, ⟨hf1, hf2⟩, hKk, hEe, hSt0, hA, hPs⟩ := C
  obtain ⟨⟨w1, w2, w3, hnames, hmx⟩, w4, hin0⟩ := cs
  have hMt := hc l (d - 1) H.size hst0 (by omega)
  have hfr : (rmOf (d - 1) mc ms).frames + 1 ≤ R.frames := by show d - 1 + 6 + 1 ≤ R.frames; omega
  have hlo : 8 + (M2.2.2.1 + 11) + (rmOf (d - 1) mc ms).locals ≤ R.locals := by show 8 + (M2.2.2.1 + 11) + (40 * (d - 1) + 100) ≤ R.locals; omega
  have hpre : PreS s H (va_Pc (.ref b :: As) (hPre G h H.size)) (.ref b :: As) := ⟨hPre.blind, fun U hU hW => ⟨rfl, C0.pre hR hS hU hW⟩⟩
  have hws : wsOf M2 = Cond.code M2.1 M2.2.1 M2.2.2.1 none :: gws := by unfold wsOf; rw [if_pos hh, hrt]
  have hin : ∀ w ∈ wsOf M2, w ∈ gws := by
    intro w hw
    rcases List.mem_cons.mp hw with rfl | hw
    · exact w3
    · exact hw
  have hrun : vx_Run p l e R s m args below meth c H locs cells slots mc ms (F0 m pc ls S) rest (hQc G Q (dm G h H.size) (Value.ref b :: As).toArray) (hXc G X (dm G h H.size)) (dm G h H.size) :=
    vx_runI ⟨hx, hb, hml, hown, hts⟩ hMt ⟨callB_of n hts (gi_of hin) hws rfl rfl (hts _ w2) (hts _ w1) hnames ⟨hfr, hlo⟩, hin0, hts _ w4⟩ hpre rfl hn hl.1 hst (lv_room hcat) hdg ⟨by omega, by omega⟩
  exact run_W hrun C0 hR hS (fun r h' H1 locs1 q1 q2 q3 => kk r h' q1 p l e R s m args below meth c A H1 locs1 _ _ ls MC MS C0 q2 q3 hl ⟨by omega, by omega, hm.2.2.1, hm.2.2.2⟩)
    (fun Y h' H1 locs1 ce q q1 q2 q3 q4 q5 q6 => kx Y h' q1 p l e R s m args below meth c A H1 locs1 _ _ ls MC MS rest ce q C0 q2 q3 hl ⟨by omega, by omega, hm.2.2.1, hm.2.2.2⟩ q4 q5 q6)
/-- a static call of a nest mate's private method -/
def CSn (own : String) (M2 : hMI) (idx n : Nat) : Prop := (∃ host : String, Cond.methodLinkNest own idx M2.1 host ∈ nws) ∧ Cond.initialized M2.1.cls ∈ gws ∧ codeW M2 ∈ gws ∧ (M2.1.cls ≠ "java/lang/invoke/MethodHandle" ∧ M2.1.cls ≠ "java/lang/invoke/VarHandle" ∧ (parseMethodDescriptor M2.1.desc).map (fun d => d.parameters.length) = some n) ∧ M2.2.2.1 ≤ 20 ∧ Cond.static M2.1 ∈ gws
theorem pw_callN {k idx n : Nat} {As : List Value} (hc : PMet G M2 k mc ms As h Q X) (cs : CSn M.1.cls M2 idx n) (hn : As.length = n) (hh : M2.2.2.2.2 = []) (hdg : decode M.2.1 pc = .ok (.invokestatic idx, 3)) (hpc : pc + 3 = pc2) (hd : k + 1 ≤ d) (hst : S = As.reverse ++ rest) (hcat : (rest.map fun v => v.category).sum ≤ 8)
    (kk : ∀ (r : Option Value) (h' : hp), Q r h' → PW G M d Ps E kc ks pc2 L (r.toList ++ rest) h') (kx : ∀ (Y : String) (h' : hp), X Y h' → PX G M d Ps E kc ks pc L Y h') : PW G M d Ps E (kc + mc) (ks + ms) pc L S h := by
  subst hpc
  intro p l e R s m args below meth c A H locs cells slots ls MC MS C hR hS hl hm
  have C0 := C
  obtain ⟨hx, hb, hml, hown, hts, hr, htab, hnm, hlocks, hst0, ⟨hf1, hf2⟩, hKk, hEe, hSt0, hA, hPs⟩ := C
  obtain ⟨⟨host, w1⟩, w2, w3, hnames, hmx, w4⟩ := cs
  have hMt := hc l (d - 1) H.size hst0 (by omega)
  have hfr : (rmOf (d - 1) mc ms).frames + 1 ≤ R.frames := by show d - 1 + 6 + 1 ≤ R.frames; omega
  have hlo : 8 + (M2.2.2.1 + 11) + (rmOf (d - 1) mc ms).locals ≤ R.locals := by show 8 + (M2.2.2.1 + 11) + (40 * (d - 1) + 100) ≤ R.locals; omega
  have hpre : PreS s H (va_Pc As (hPre G h H.size)) As := ⟨hPre.blind, fun U hU hW => ⟨rfl, C0.pre hR hS hU hW⟩⟩
  have hin : ∀ w ∈ wsOf M2, w ∈ gws := by
    intro w hw
    rcases List.mem_cons.mp hw with rfl | hw
    · exact w3
    · exact hw
  have hrun : vx_Run p l e R s m args below meth c H locs cells slots mc ms (F0 m pc ls S) rest (hQc G Q (dm G h H.size) As.toArray) (hXc G X (dm G h H.size)) (dm G h H.size) :=
    vx_runSN ⟨hx, hb, hml, hown, hts⟩ hMt ⟨va_cnB (host := host) n hts (gi_of hin) (by unfold wsOf; rw [if_pos hh]) rfl rfl (hEe.1 _ w1) (hts _ w2) hnames ⟨hfr, hlo⟩, hts _ w4, trivial⟩ hpre rfl hn hl.1 hst (lv_room hcat) hdg ⟨by omega, by omega⟩
  exact run_W hrun C0 hR hS (fun r h' H1 locs1 q1 q2 q3 => kk r h' q1 p l e R s m args below meth c A H1 locs1 _ _ ls MC MS C0 q2 q3 hl ⟨by omega, by omega, hm.2.2.1, hm.2.2.2⟩)
    (fun Y h' H1 locs1 ce q q1 q2 q3 q4 q5 q6 => kx Y h' q1 p l e R s m args below meth c A H1 locs1 _ _ ls MC MS rest ce q C0 q2 q3 hl ⟨by omega, by omega, hm.2.2.1, hm.2.2.2⟩ q4 q5 q6)
theorem pw_callS1 {k idx n : Nat} {As : List Value} {h1 : hp} {v : Value} (hc : PMet G M2 k mc ms As h (det (some v) h1) noX) (cs : CSs M.1.cls M2 idx n) (hn : As.length = n) (hdg : decode M.2.1 pc = .ok (.invokestatic idx, 3)) (hpc : pc + 3 = pc2) (hd : k + 1 ≤ d) (hst : S = As.reverse ++ rest) (hcat : (rest.map fun v => v.category).sum ≤ 8)
    (kk : PW G M d Ps E kc ks pc2 L (v :: rest) h1) : PW G M d Ps E (kc + mc) (ks + ms) pc L S h := by
  refine pw_callS hc cs hn hdg hpc hd hst hcat (fun r h' q => ?_) (fun Y h' q => q.elim)
  obtain ⟨rfl, rfl⟩ := q
  exact kk
theorem pw_callV1 {k idx n ci b : Nat} {fs : List Value} {As : List Value} {h1 : hp} {v : Value} (hc : PMet G M2 k mc ms (.ref b :: As) h (det (some v) h1) noX) (cs : CSv M.1.cls M2 idx n ci) (hn : As.length = n) (hh : M2.2.2.2.2 = []) (hbo : h b = some (.inr (ci, fs))) (hdg : decode M.2.1 pc = .ok (.invokevirtual idx, 3)) (hpc : pc + 3 = pc2) (hd : k + 1 ≤ d) (hst : S = As.reverse ++ .ref b :: rest) (hcat : (rest.map fun v => v.category).sum ≤ 8)
    (kk : PW G M d Ps E kc ks pc2 L (v :: rest) h1) : PW G M d Ps E (kc + mc) (ks + ms) pc L S h := by
  refine pw_callV hc cs hn hh hbo hdg hpc hd hst hcat (fun r h' q => ?_) (fun Y h' q => q.elim)
  obtain ⟨rfl, rfl⟩ := q
  exact kk
theorem pw_callN1 {k idx n : Nat} {As : List Value} {h1 : hp} {v : Value} (hc : PMet G M2 k mc ms As h (det (some v) h1) noX) (cs : CSn M.1.cls M2 idx n) (hn : As.length = n) (hh : M2.2.2.2.2 = []) (hdg : decode M.2.1 pc = .ok (.invokestatic idx, 3)) (hpc : pc + 3 = pc2) (hd : k + 1 ≤ d) (hst : S = As.reverse ++ rest) (hcat : (rest.map fun v => v.category).sum ≤ 8)
    (kk : PW G M d Ps E kc ks pc2 L (v :: rest) h1) : PW G M d Ps E (kc + mc) (ks + ms) pc L S h := by
  refine pw_callN hc cs hn hh hdg hpc hd hst hcat (fun r h' q => ?_) (fun Y h' q => q.elim)
  obtain ⟨rfl, rfl⟩ := q
  exact kk
theorem pw_callS0 {k idx n : Nat} {As : List Value} {h1 : hp} (hc : PMet G M2 k mc ms As h (det none h1) noX) (cs : CSs M.1.cls M2 idx n) (hn : As.length = n) (hdg : decode M.2.1 pc = .ok (.invokestatic idx, 3)) (hpc : pc + 3 = pc2) (hd : k + 1 ≤ d) (hst : S = As.reverse ++ rest) (hcat : (rest.map fun v => v.category).sum ≤ 8)
    (kk : PW G M d Ps E kc ks pc2 L rest h1) : PW G M d Ps E (kc + mc) (ks + ms) pc L S h := by
  refine pw_callS hc cs hn hdg hpc hd hst hcat (fun r h' q => ?_) (fun Y h' q => q.elim)
  obtain ⟨rfl, rfl⟩ := q
  exact kk
theorem pw_callV0 {k idx n ci b : Nat} {fs : List Value} {As : List Value} {h1 : hp} (hc : PMet G M2 k mc ms (.ref b :: As) h (det none h1) noX) (cs : CSv M.1.cls M2 idx n ci) (hn : As.length = n) (hh : M2.2.2.2.2 = []) (hbo : h b = some (.inr (ci, fs))) (hdg : decode M.2.1 pc = .ok (.invokevirtual idx, 3)) (hpc : pc + 3 = pc2) (hd : k + 1 ≤ d) (hst : S = As.reverse ++ .ref b :: rest) (hcat : (rest.map fun v => v.category).sum ≤ 8)
    (kk : PW G M d Ps E kc ks pc2 L rest h1) : PW G M d Ps E (kc + mc) (ks + ms) pc L S h := by
  refine pw_callV hc cs hn hh hbo hdg hpc hd hst hcat (fun r h' q => ?_) (fun Y h' q => q.elim)
  obtain ⟨rfl, rfl⟩ := q
  exact kk
theorem pw_callN0 {k idx n : Nat} {As : List Value} {h1 : hp} (hc : PMet G M2 k mc ms As h (det none h1) noX) (cs : CSn M.1.cls M2 idx n) (hn : As.length = n) (hh : M2.2.2.2.2 = []) (hdg : decode M.2.1 pc = .ok (.invokestatic idx, 3)) (hpc : pc + 3 = pc2) (hd : k + 1 ≤ d) (hst : S = As.reverse ++ rest) (hcat : (rest.map fun v => v.category).sum ≤ 8)
    (kk : PW G M d Ps E kc ks pc2 L rest h1) : PW G M d Ps E (kc + mc) (ks + ms) pc L S h := by
  refine pw_callN hc cs hn hh hdg hpc hd hst hcat (fun r h' q => ?_) (fun Y h' q => q.elim)
  obtain ⟨rfl, rfl⟩ := q
  exact kk
theorem pw_callI0 {k idx n b : Nat} {As : List Value} {h1 : hp} (hc : PMet G M2 k mc ms (.ref b :: As) h (det none h1) noX) (cs : CSi M.1.cls M2 idx n) (hn : As.length = n) (hh : M2.2.2.2.2 = []) (hrt : M2.2.2.2.1 = none) (hdg : decode M.2.1 pc = .ok (.invokespecial idx, 3)) (hpc : pc + 3 = pc2) (hd : k + 1 ≤ d) (hst : S = As.reverse ++ .ref b :: rest) (hcat : (rest.map fun v => v.category).sum ≤ 8)
    (kk : PW G M d Ps E kc ks pc2 L rest h1) : PW G M d Ps E (kc + mc) (ks + ms) pc L S h := by
  refine pw_callI hc cs hn hh hrt hdg hpc hd hst hcat (fun r h' q => ?_) (fun Y h' q => q.elim)
  obtain ⟨rfl, rfl⟩ := q
  exact kk
/-- Object's constructor -/
theorem pw_objInit {idx b : Nat} (w1 : Cond.methodLink M.1.cls idx Lib.objectInit ∈ gws) (w2 : Cond.instanceMethod Lib.objectInit ∈ gws) (w3 : Cond.code Lib.objectInit ⟨#[0xb1]⟩ 1 none ∈ gws) (hdg : decode M.2.1 pc = .ok (.invokespecial idx, 3)) (hpc : pc + 3 = pc2) (hcat : (S.map fun v => v.category).sum ≤ 8) (k : PW G M d Ps E kc ks pc2 L S h) : PW G M d Ps E kc ks pc L (.ref b :: S) h := by
  subst hpc
  intro p l e R s m args below meth c A H locs cells slots ls MC MS C hR hS hl hm
  have C0 := C
  obtain ⟨hx, hb, hml, hown, hts, hr, htab, hnm, hlocks, hst0, ⟨hf1, hf2⟩, hKk, hEe, hSt0, hA, hPs⟩ := C
  exact W.objInit hx hb hown (hts _ w1) (hts _ w2) (hts _ w3) rfl (by rw [hml]; exact hl.1) rfl hdg (by omega) (by have h9 := lv_room (m := m) (pc := pc) (ls := ls) (rest := .ref b :: S) hcat; omega) (k p l e R s m args below meth c A H locs cells slots ls MC MS C0 hR hS hl hm)
/-! throws -/
def excN : List String := ["java/lang/RuntimeException", "java/lang/Exception"]
def TSw (own : String) (ik is ic : Nat) (cls text : String) : Prop := Bundle.fit cls = true ∧ Cond.classLink own ik cls ∈ gws ∧ Cond.initialized cls ∈ gws ∧ Cond.stringRef own is text ∈ lw_tbl ∧ (∀ w ∈ vx_atS own ic cls excN, w ∈ gws ∨ w ∈ nws) ∧ ∀ w ∈ Cond.classLink own ik cls :: Cond.initialized cls :: vx_atS own ic cls excN, vx_ot w = true
theorem excN_fit : ∀ n ∈ excN, Bundle.fit n = true := by decide +kernel
theorem pw_throw {ik is ic : Nat} {cls text : String} (hh : M.2.2.2.2 = []) (ts : TSw M.1.cls ik is ic cls text) (d0 : decode M.2.1 pc = .ok (.new ik, 3)) (d3 : decode M.2.1 (pc + 3) = .ok (.dup, 1)) (d4 : decode M.2.1 (pc + 4) = .ok (.ldc is, 2)) (d6 : decode M.2.1 (pc + 6) = .ok (.invokespecial ic, 3)) (d9 : decode M.2.1 (pc + 9) = .ok (.athrow, 1))
    (hcat : (S.map fun v => v.category).sum ≤ 8) (hX : X cls h) : PW G M d Ps (E0 G Q X) (kc + 1) (ks + 6) pc L S h := by
  intro p l e R s m args below meth c A H locs cells slots ls MC MS C hR hS hl hm
  obtain ⟨hx, hb, hml, hown, hts, hr, htab, hnm, hlocks, hst0, ⟨hf1, hf2⟩, hKk, hEe, hSt0, hA, hPs⟩ := C
  obtain ⟨t1, t2, t3, t4, t5, t6⟩ := ts
  obtain ⟨sa, hsa⟩ := hEe.2.1 _ _ _ t4
  have hex : ∀ x ∈ c.exceptionTable.toList, covers x (pc + 9) = false := by rw [htab, hh]; intro x hx9; cases hx9
  refine vx_throwS (names := excN) (A := A) hx hb hst0 hown t1 excN_fit (hts _ t2) (hts _ t3) hsa (fun w hw => (t5 w hw).elim (fun q => hts w q) (fun q => nws_use hEe q)) t6 hSt0.1 hSt0.2.1 hS (by rw [hml]; exact hl.1) d0 d3 d4 d6 d9 hex
    (by show 2 + 3 < R.frames; omega) (by show _ + (13 * (2 + 1) + 43) ≤ R.locals; omega) (by omega) (by omega) hlocks (fun t _ hz hk => ⟨⟨h, hX, ?_⟩, ?_⟩) hS.2.2 (by omega) (by omega)
  · obtain ⟨⟨Ls, hL, hP, hD⟩, h0, hz0⟩ := hR
    exact ⟨⟨Ls, hL, hP.kept (fun k q hq => hk q.1 (hP k q hq).lt), hD⟩, h0, hz0.kept (hk _ hz0.lt)⟩
  · exact ⟨Nat.le_trans hS.1 hz, fun q h1 h2 => (hk q (Nat.lt_of_lt_of_le h1 hS.1)).trans (hS.2.1 q h1 h2)⟩
theorem pw_throwW {ik is ic : Nat} {cls text : String} (hh : M.2.2.2.2 = []) (ts : TSw M.1.cls ik is ic cls text) (d0 : decode M.2.1 pc = .ok (.new ik, 3)) (d3 : decode M.2.1 (pc + 3) = .ok (.dup, 1)) (d4 : decode M.2.1 (pc + 4) = .ok (.ldc_w is, 3)) (d7 : decode M.2.1 (pc + 7) = .ok (.invokespecial ic, 3)) (d10 : decode M.2.1 (pc + 10) = .ok (.athrow, 1))
    (hcat : (S.map fun v => v.category).sum ≤ 8) (hX : X cls h) : PW G M d Ps (E0 G Q X) (kc + 1) (ks + 6) pc L S h := by
  intro p l e R s m args below meth c A H locs cells slots ls MC MS C hR hS hl hm
  obtain ⟨hx, hb, hml, hown, hts, hr, htab, hnm, hlocks, hst0, ⟨hf1, hf2⟩, hKk, hEe, hSt0, hA, hPs⟩ := C
  obtain ⟨t1, t2, t3, t4, t5, t6⟩ := ts
  obtain ⟨sa, hsa⟩ := hEe.2.1 _ _ _ t4
  have hex : ∀ x ∈ c.exceptionTable.toList, covers x (pc + 10) = false := by rw [htab, hh]; intro x hx9; cases hx9
  refine vx_throwSW (names := excN) (A := A) hx hb hst0 hown t1 excN_fit (hts _ t2) (hts _ t3) hsa (fun w hw => (t5 w hw).elim (fun q => hts w q) (fun q => nws_use hEe q)) t6 hSt0.1 hSt0.2.1 hS (by rw [hml]; exact hl.1) d0 d3 d4 d7 d10 hex
    (by show 2 + 3 < R.frames; omega) (by show _ + (13 * (2 + 1) + 43) ≤ R.locals; omega) (by omega) (by omega) hlocks (fun t _ hz hk => ⟨⟨h, hX, ?_⟩, ?_⟩) hS.2.2 (by omega) (by omega)
  · obtain ⟨⟨Ls, hL, hP, hD⟩, h0, hz0⟩ := hR
    exact ⟨⟨Ls, hL, hP.kept (fun k q hq => hk q.1 (hP k q hq).lt), hD⟩, h0, hz0.kept (hk _ hz0.lt)⟩
  · exact ⟨Nat.le_trans hS.1 hz, fun q h1 h2 => (hk q (Nat.lt_of_lt_of_le h1 hS.1)).trans (hS.2.1 q h1 h2)⟩
/-- what a callee threw goes on to the caller -/
theorem px_out {Y : String} (hh : M.2.2.2.2 = []) (hX : X Y h) : PX G M d Ps (E0 G Q X) kc ks pc L Y h := by
  intro p l e R s m args below meth c A H locs cells slots ls MC MS rest ce q C hR hS hl hm h1 h2 h3
  obtain ⟨hx, hb, hml, hown, hts, hr, htab, hnm, hlocks, hst0, ⟨hf1, hf2⟩, hKk, hEe, hSt0, hA, hPs⟩ := C
  exact vx_out (by rw [htab, hh]; intro x hx9; cases hx9) hlocks h1 h2 h3 (fun t ht _ => ⟨⟨h, hX, by rw [ht]; exact hR⟩, hS.F ht⟩) hS.2.2 (by omega) (by omega)
/-- a handler of this method takes it -/
theorem px_catch {Y nm : String} (pre suf : List (Nat × Nat × Nat × Nat)) (x : Nat × Nat × Nat × Nat) (hh : M.2.2.2.2 = pre ++ x :: suf) (hpass : ∀ z ∈ pre, covers ⟨z.1, z.2.1, z.2.2.1, z.2.2.2⟩ pc = false ∨ (z.2.2.2 ≠ 0 ∧ ∃ n9 : String, Cond.classLink M.1.cls z.2.2.2 n9 ∈ gws ∧ (Y, n9) ∈ ncs))
    (hcov : covers ⟨x.1, x.2.1, x.2.2.1, x.2.2.2⟩ pc = true) (h0 : x.2.2.2 ≠ 0) (hl9 : Cond.classLink M.1.cls x.2.2.2 nm ∈ gws) (hcast : Cond.castable Y nm ∈ nws) (k : ∀ q : Nat, PW G M d Ps E kc ks x.2.2.1 L [.ref q] h) : PX G M d Ps E kc ks pc L Y h := by
  intro p l e R s m args below meth c A H locs cells slots ls MC MS rest ce q C hR hS hl hm h1 h2 h3
  have C0 := C
  obtain ⟨hx, hb, hml, hown, hts, hr, htab, hnm, hlocks, hst0, ⟨hf1, hf2⟩, hKk, hEe, hSt0, hA, hPs⟩ := C
  refine vx_catch (E := Y) (name := nm) hown (tableOf pre) ⟨x.1, x.2.1, x.2.2.1, x.2.2.2⟩ (tableOf suf) (by rw [htab, hh]; simp [tableOf]) (fun z hz => ?_) hcov h0 (hts _ hl9) (nws_use hEe hcast) h1 h2 h3 (k q p l e R s m args below meth c A H locs cells slots ls MC MS C0 hR hS hl hm)
  obtain ⟨z0, hz0, rfl⟩ := List.mem_map.mp hz
  rcases hpass z0 hz0 with h | ⟨h, n9, h4, h5⟩
  · exact Or.inl h
  · exact Or.inr ⟨h, n9, hts _ h4, hEe.2.2.2 _ h5⟩
end PWC
