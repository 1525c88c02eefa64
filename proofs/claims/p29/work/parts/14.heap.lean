/-! fields and arrays over the pure heap -/
def CLS (ci : Nat) (C : String) (T : u_T) (N : Nat) (ty : Nat → FieldType) : Prop := vwCl[ci]? = some (C, T, N) ∧ (∀ w ∈ u_ws C T N, w ∈ gws) ∧ (∀ k, k < N → parseFieldDescriptor (T k).2.2.1 = some (ty k)) ∧ ∀ a, a < N → ∀ b, b < N → a ≠ b → (T a).2.1 ≠ (T b).2.1
theorem dc_kept {G : hG} {A : Nat → Prop} {s : State} {H H1 : Heap} {locs locs1 : List Loc} (h0 : hSt G A s s.heap) (hA : ∀ q : Nat, s.heap.size ≤ q → A q) (hS : va_S A s.heap H locs) (hS1 : va_S A s.heap H1 locs1) (hz : cD G H) : cD G H1 := by
  have hlt : G.2.2 < s.heap.size := Nat.not_le.mp fun q => h0.2.2.2 (hA _ q)
  exact hz.kept ((hS1.2.1 _ hlt h0.2.2.2).trans (hS.2.1 _ hlt h0.2.2.2).symm)
theorem RA_uniq {U : State} {c1 c2 : ClassId} {ty : FieldType} (h1 : va_RA U c1 ty) (h2 : va_RA U c2 ty) : c1 = c2 := by
  cases ty with
  | object C =>
    obtain ⟨_, _, _, _, _, e1⟩ := h1
    obtain ⟨_, _, _, _, _, e2⟩ := h2
    exact Option.some.inj (e1.symm.trans e2)
  | _ => exact Option.some.inj (h1.symm.trans h2)
theorem hK_ty {G : hG} {U : State} (h : hK G U) (t0 : Nat) {t : FieldType} (ht : arrTys[t0]? = some t) : (hTys G)[t0]? = some (G.2.1 t, t) := by
  unfold hTys
  rw [List.getElem?_map, ht]
  rfl
theorem hK_new {G : hG} {U : State} {cA : ClassId} {t : FieldType} (h : hK G U) (h2 : va_K G.1 vwCl (hTys G ++ [(cA, t)]) U) (t0 : Nat) (ht : arrTys[t0]? = some t) : cA = G.2.1 t := by
  have e1 := (h.2 t0 _ (hK_ty h t0 ht)).2
  have e2 := (h2.2 (hTys G).length (cA, t) (by rw [List.getElem?_append_right (Nat.le_refl _), Nat.sub_self]; rfl)).2
  exact RA_uniq e2 e1
section PWH
variable {G : hG} {M : hMI} {d : Nat} {Ps : hAmb} {E : hEnd} {kc ks pc pc2 tgt : Nat} {L : List (Nat × Value)} {S : List Value} {h : hp}
variable {ci N index a k : Nat} {C ref : String} {T : u_T} {ty : Nat → FieldType} {fs : List Value} {v : Value}
theorem pw_get (hC : CLS ci C T N ty) (hk : k < N) (hs : (T k).1 = ref) (hlink : Cond.fieldLink M.1.cls index ref (T k).2.1 (T k).2.2.1 ∈ gws) (he : h a = some (.inr (ci, fs))) (hv : fs[k]? = some v) (hdg : decode M.2.1 pc = .ok (.getfield index, 3)) (hpc : pc + 3 = pc2)
    (kk : PW G M d Ps E kc ks pc2 L (v :: S) h) : PW G M d Ps E kc ks pc L (.ref a :: S) h := by
  subst hpc
  subst hs
  intro p l e R s m args below meth c A H locs cells slots ls MC MS C0 hR hS hl hm
  have C1 := C0
  obtain ⟨hx, hb, hml, hown, hts, hr, htab, hnm, hlocks, hst0, -, hKk, hEe, hSt0, hA, hPs⟩ := C0
  exact va_get (D := G.1) (Ts := gws) hx hb hts hC.2.1 hown hKk (hR.one he (ne_dc hR he)) 0 rfl hC.1 k hk (hts _ hlink) (fun x h9 => h9) hv hdg (kk p l e R s m args below meth c A H locs cells slots ls MC MS C1 hR hS hl hm)
theorem pw_getN {host : String} (hC : CLS ci C T N ty) (hk : k < N) (hs : (T k).1 = ref) (hlink : Cond.fieldLinkNest M.1.cls index ref (T k).2.1 (T k).2.2.1 host ∈ nws) (he : h a = some (.inr (ci, fs))) (hv : fs[k]? = some v) (hdg : decode M.2.1 pc = .ok (.getfield index, 3)) (hpc : pc + 3 = pc2)
    (kk : PW G M d Ps E kc ks pc2 L (v :: S) h) : PW G M d Ps E kc ks pc L (.ref a :: S) h := by
  subst hpc
  subst hs
  intro p l e R s m args below meth c A H locs cells slots ls MC MS C0 hR hS hl hm
  have C1 := C0
  obtain ⟨hx, hb, hml, hown, hts, hr, htab, hnm, hlocks, hst0, -, hKk, hEe, hSt0, hA, hPs⟩ := C0
  exact va_getN (D := G.1) (Ts := gws) hx hb hts hC.2.1 hown hKk (hR.one he (ne_dc hR he)) 0 rfl hC.1 k hk (nws_use hEe hlink) (fun x h9 => h9) hv hdg (kk p l e R s m args below meth c A H locs cells slots ls MC MS C1 hR hS hl hm)
theorem pw_put (hC : CLS ci C T N ty) (hk : k < N) (hs : (T k).1 = ref) (hfin : (T k).2.2.2 = false) (hlink : Cond.fieldLink M.1.cls index ref (T k).2.1 (T k).2.2.1 ∈ gws) (he : h a = some (.inr (ci, fs))) (hl0 : k < fs.length) (hn : narrow (ty k) v = v) (hfit : fits (ty k) v = true) (hdg : decode M.2.1 pc = .ok (.putfield index, 3)) (hpc : pc + 3 = pc2)
    (kk : PW G M d Ps E kc ks pc2 L S (va_up h a (some (.inr (ci, fs.set k v))))) : PW G M d Ps E kc ks pc L (v :: .ref a :: S) h := by
  subst hpc
  subst hs
  intro p l e R s m args below meth c A H locs cells slots ls MC MS C0 hR hS hl hm
  have C1 := C0
  obtain ⟨hx, hb, hml, hown, hts, hr, htab, hnm, hlocks, hst0, -, hKk, hEe, hSt0, hA, hPs⟩ := C0
  obtain ⟨ws, k0, hP, hD, hk0, hup⟩ := hR.wr he (ne_dc hR he)
  exact va_put (D := G.1) (Ts := gws) hx hb hts hC.2.1 ty hC.2.2.1 hC.2.2.2 hown hKk hP hD hS k0 hk0 hC.1 k hk (hts _ hlink) (fun x h9 => h9) hfin (hC.2.2.1 k hk) hn hfit hl0 hdg
    (fun H1 locs1 p1 d1 s1 => kk p l e R s m args below meth c A H1 locs1 cells slots ls MC MS C1 (hup (.inr (ci, fs.set k v)) H1 p1 d1 (dc_kept hSt0 hA hS s1 hR.2.2)) s1 hl hm)
theorem pw_putN {host : String} (hC : CLS ci C T N ty) (hk : k < N) (hs : (T k).1 = ref) (hfin : (T k).2.2.2 = false) (hlink : Cond.fieldLinkNest M.1.cls index ref (T k).2.1 (T k).2.2.1 host ∈ nws) (he : h a = some (.inr (ci, fs))) (hl0 : k < fs.length) (hn : narrow (ty k) v = v) (hfit : fits (ty k) v = true) (hdg : decode M.2.1 pc = .ok (.putfield index, 3)) (hpc : pc + 3 = pc2)
    (kk : PW G M d Ps E kc ks pc2 L S (va_up h a (some (.inr (ci, fs.set k v))))) : PW G M d Ps E kc ks pc L (v :: .ref a :: S) h := by
  subst hpc
  subst hs
  intro p l e R s m args below meth c A H locs cells slots ls MC MS C0 hR hS hl hm
  have C1 := C0
  obtain ⟨hx, hb, hml, hown, hts, hr, htab, hnm, hlocks, hst0, -, hKk, hEe, hSt0, hA, hPs⟩ := C0
  obtain ⟨ws, k0, hP, hD, hk0, hup⟩ := hR.wr he (ne_dc hR he)
  exact va_putN (D := G.1) (Ts := gws) hx hb hts hC.2.1 ty hC.2.2.1 hC.2.2.2 hown hKk hP hD hS k0 hk0 hC.1 k hk (nws_use hEe hlink) (fun x h9 => h9) hfin (hC.2.2.1 k hk) hn hfit hl0 hdg
    (fun H1 locs1 p1 d1 s1 => kk p l e R s m args below meth c A H1 locs1 cells slots ls MC MS C1 (hup (.inr (ci, fs.set k v)) H1 p1 d1 (dc_kept hSt0 hA hS s1 hR.2.2)) s1 hl hm)
/-- a final field, in its own class's constructor -/
theorem pw_putF (hC : CLS ci C T N ty) (hk : k < N) (hs : (T k).1 = ref) (hfin : (T k).2.2.2 = true) (hi : M.1.name = "<init>") (hdecl : (T k).1 = M.1.cls) (hlink : Cond.fieldLink M.1.cls index ref (T k).2.1 (T k).2.2.1 ∈ gws) (he : h a = some (.inr (ci, fs))) (hl0 : k < fs.length) (hn : narrow (ty k) v = v) (hfit : fits (ty k) v = true) (hdg : decode M.2.1 pc = .ok (.putfield index, 3)) (hpc : pc + 3 = pc2)
    (kk : PW G M d Ps E kc ks pc2 L S (va_up h a (some (.inr (ci, fs.set k v))))) : PW G M d Ps E kc ks pc L (v :: .ref a :: S) h := by
  subst hpc
  subst hs
  intro p l e R s m args below meth c A H locs cells slots ls MC MS C0 hR hS hl hm
  have C1 := C0
  obtain ⟨hx, hb, hml, hown, hts, hr, htab, hnm, hlocks, hst0, -, hKk, hEe, hSt0, hA, hPs⟩ := C0
  obtain ⟨ws, k0, hP, hD, hk0, hup⟩ := hR.wr he (ne_dc hR he)
  exact va_putF (D := G.1) (Ts := gws) hx hb hts hC.2.1 ty hC.2.2.1 hC.2.2.2 hown hKk hP hD hS k0 hk0 hC.1 k hk (hts _ hlink) (fun x h9 => h9) hfin (hnm.trans hi) hdecl (hC.2.2.1 k hk) hn hfit hl0 hdg
    (fun H1 locs1 p1 d1 s1 => kk p l e R s m args below meth c A H1 locs1 cells slots ls MC MS C1 (hup (.inr (ci, fs.set k v)) H1 p1 d1 (dc_kept hSt0 hA hS s1 hR.2.2)) s1 hl hm)
theorem pw_new (hC : CLS ci C T N ty) (w1 : Cond.classLink M.1.cls index C ∈ gws) (w2 : Cond.instantiable C N ∈ gws) (w3 : Cond.initialized C ∈ gws) (hfs : ∀ j, j < N → defaultValue (ty j) = vp_V fs j) (hdg : decode M.2.1 pc = .ok (.new index, 3)) (hpc : pc + 3 = pc2)
    (kk : ∀ q : Nat, h q = none → q ≠ G.2.2 → PW G M d Ps E kc ks pc2 L (.ref q :: S) (va_up h q (some (.inr (ci, fs))))) : PW G M d Ps E (kc + 1) (ks + N) pc L S h := by
  subst hpc
  intro p l e R s m args below meth c A H locs cells slots ls MC MS C0 hR hS hl hm
  have C1 := C0
  obtain ⟨hx, hb, hml, hown, hts, hr, htab, hnm, hlocks, hst0, -, hKk, hEe, hSt0, hA, hPs⟩ := C0
  obtain ⟨ws, hP, hD, hup⟩ := hR.new hSt0.2.2.2
  refine va_new (D := G.1) (Ts := gws) hx hb hts hC.2.1 ty hC.2.2.1 hown (hts _ w1) (hts _ w2) (hts _ w3) hKk hP hD hS hA hC.1 hfs (by omega) (by omega) hdg (fun q H1 p1 d1 s1 => ?_)
  obtain ⟨e1, e2, e3⟩ := hup q (.inr (ci, fs)) H1 p1 d1 (dc_kept hSt0 hA hS s1 hR.2.2)
  exact kk q e1 e2 p l e R s m args below meth c A H1 locs _ _ ls MC MS C1 e3 s1 hl ⟨by omega, by omega, hm.2.2.1, hm.2.2.2⟩
theorem pw_newarr {atype : ArrayType} {t : FieldType} {n : Int32} {Nn : Nat} {a0 : vp_A} (t0 : Nat) (ht : arrTys[t0]? = some t) (hat : newarray.typeOf atype = t) (w1 : Cond.arrayClass (newarray.typeOf atype) ∈ gws) (ha : ∀ cA : ClassId, vp_cell cA a0 = arrV cA Nn (fun _ => defaultValue t)) (hn : ¬ n < 0) (hN : n.toNatClampNeg = Nn) (hby : Nn * componentBytes t ≤ 536870912) (hdg : decode M.2.1 pc = .ok (.newarray atype, 2)) (hpc : pc + 2 = pc2)
    (kk : ∀ q : Nat, h q = none → q ≠ G.2.2 → PW G M d Ps E kc ks pc2 L (.ref q :: S) (va_up h q (some (.inl (t, a0))))) : PW G M d Ps E (kc + 1) (ks + Nn) pc L (.int n :: S) h := by
  subst hpc
  intro p l e R s m args below meth c A H locs cells slots ls MC MS C0 hR hS hl hm
  have C1 := C0
  obtain ⟨hx, hb, hml, hown, hts, hr, htab, hnm, hlocks, hst0, -, hKk, hEe, hSt0, hA, hPs⟩ := C0
  obtain ⟨ws, hP, hD, hup⟩ := hR.new hSt0.2.2.2
  refine va_newa (D := G.1) (atype := atype) hx hb (hts _ w1) hat hKk hP hD hS hA ha hn hN hby (by omega) (by omega) hdg (fun q cA H1 hK1 p1 d1 s1 => ?_)
  have hcA := hK_new hKk hK1 t0 ht
  subst hcA
  obtain ⟨e1, e2, e3⟩ := hup q (.inl (t, a0)) H1 p1 d1 (dc_kept hSt0 hA hS s1 hR.2.2)
  exact kk q e1 e2 p l e R s m args below meth c A H1 locs _ _ ls MC MS C1 e3 s1 hl ⟨by omega, by omega, hm.2.2.1, hm.2.2.2⟩
theorem pw_anewarr {D : String} {n : Int32} {Nn : Nat} (t0 : Nat) (ht : arrTys[t0]? = some (.object D)) (hao : ∀ U, hEnv U → va_AO D U) (w1 : Cond.classLink M.1.cls index D ∈ gws) (hn : ¬ n < 0) (hN : n.toNatClampNeg = Nn) (hby : Nn * 4 ≤ 536870912) (hdg : decode M.2.1 pc = .ok (.anewarray index, 3)) (hpc : pc + 3 = pc2)
    (kk : ∀ q : Nat, h q = none → q ≠ G.2.2 → PW G M d Ps E kc ks pc2 L (.ref q :: S) (va_up h q (some (aR (.object D) Nn (fun _ => none))))) : PW G M d Ps E (kc + 1) (ks + Nn) pc L (.int n :: S) h := by
  subst hpc
  intro p l e R s m args below meth c A H locs cells slots ls MC MS C0 hR hS hl hm
  have C1 := C0
  obtain ⟨hx, hb, hml, hown, hts, hr, htab, hnm, hlocks, hst0, -, hKk, hEe, hSt0, hA, hPs⟩ := C0
  obtain ⟨ws, hP, hD, hup⟩ := hR.new hSt0.2.2.2
  refine va_newq (D := G.1) hx hb hown (hts _ w1) (hao s hEe) hKk hP hD hS hA hn hN hby (by omega) (by omega) hdg (fun q cA H1 hK1 p1 d1 s1 => ?_)
  have hcA := hK_new hKk hK1 t0 ht
  subst hcA
  obtain ⟨e1, e2, e3⟩ := hup q (aR (.object D) Nn (fun _ => none)) H1 p1 d1 (dc_kept hSt0 hA hS s1 hR.2.2)
  exact kk q e1 e2 p l e R s m args below meth c A H1 locs _ _ ls MC MS C1 e3 s1 hl ⟨by omega, by omega, hm.2.2.1, hm.2.2.2⟩
theorem pw_alen {t : FieldType} {x : vp_A} {z : Int32} (t0 : Nat) (ht : arrTys[t0]? = some t) (he : h a = some (.inl (t, x))) (hz : Int32.ofNat x.1 = z) (hdg : decode M.2.1 pc = .ok (.arraylength, 1)) (hpc : pc + 1 = pc2) (kk : PW G M d Ps E kc ks pc2 L (.int z :: S) h) : PW G M d Ps E kc ks pc L (.ref a :: S) h := by
  subst hpc
  intro p l e R s m args below meth c A H locs cells slots ls MC MS C0 hR hS hl hm
  have C1 := C0
  obtain ⟨hx, hb, hml, hown, hts, hr, htab, hnm, hlocks, hst0, -, hKk, hEe, hSt0, hA, hPs⟩ := C0
  by_cases hne : a = G.2.2
  · rw [hne] at he
    have h7 : hE0 = .inl (t, x) := Option.some.inj (hR.2.1.symm.trans he)
    have h6 := Sum.inl.inj h7
    have h5 : (0 : Nat) = x.1 := congrArg (fun q : FieldType × vp_A => q.2.1) h6
    obtain ⟨cell, c1, c2, c3, c4⟩ := hR.2.2
    exact W.alen (n := z) hx hb (by rw [hne]; exact c1) (ty := tObj) ⟨c4, by rw [c2]; exact ((hKk.2 5 _ (hK_ty hKk 5 rfl)).1 0 (fun _ => .null)).2⟩ (c3.trans (by rw [← hz, ← h5]; rfl)) rfl rfl hdg (kk p l e R s m args below meth c A H locs cells slots ls MC MS C1 hR hS hl hm)
  exact va_alen (D := G.1) hx hb hKk (hR.one he hne) 0 t0 rfl (hK_ty hKk t0 ht) hz hdg (kk p l e R s m args below meth c A H locs cells slots ls MC MS C1 hR hS hl hm)
theorem pw_iald {n : Nat} {f : Nat → Int32} {i : Int32} (he : h a = some (aI n f)) (hin : vp_in i n) (hdg : decode M.2.1 pc = .ok (.iaload, 1)) (hpc : pc + 1 = pc2) (kk : PW G M d Ps E kc ks pc2 L (.int (f i.toNatClampNeg) :: S) h) : PW G M d Ps E kc ks pc L (.int i :: .ref a :: S) h := by
  subst hpc
  intro p l e R s m args below meth c A H locs cells slots ls MC MS C0 hR hS hl hm
  have C1 := C0
  obtain ⟨hx, hb, hml, hown, hts, hr, htab, hnm, hlocks, hst0, -, hKk, hEe, hSt0, hA, hPs⟩ := C0
  exact va_iald (D := G.1) hx hb hKk (hR.one he (ne_dcA hR he (pos_in hin))) 0 0 rfl (hK_ty hKk 0 rfl) hin hdg (kk p l e R s m args below meth c A H locs cells slots ls MC MS C1 hR hS hl hm)
theorem pw_zald {n : Nat} {f : Nat → Int32} {i : Int32} (he : h a = some (aZ n f)) (hin : vp_in i n) (hdg : decode M.2.1 pc = .ok (.baload, 1)) (hpc : pc + 1 = pc2) (kk : PW G M d Ps E kc ks pc2 L (.int (f i.toNatClampNeg) :: S) h) : PW G M d Ps E kc ks pc L (.int i :: .ref a :: S) h := by
  subst hpc
  intro p l e R s m args below meth c A H locs cells slots ls MC MS C0 hR hS hl hm
  have C1 := C0
  obtain ⟨hx, hb, hml, hown, hts, hr, htab, hnm, hlocks, hst0, -, hKk, hEe, hSt0, hA, hPs⟩ := C0
  exact va_zald (D := G.1) hx hb hKk (hR.one he (ne_dcA hR he (pos_in hin))) 0 1 rfl (hK_ty hKk 1 rfl) hin hdg (kk p l e R s m args below meth c A H locs cells slots ls MC MS C1 hR hS hl hm)
theorem pw_aald {t : FieldType} {n : Nat} {f : Nat → Option Nat} {i : Int32} (t0 : Nat) (ht : arrTys[t0]? = some t) (hrt : t.isReference = true) (he : h a = some (aR t n f)) (hin : vp_in i n) (hdg : decode M.2.1 pc = .ok (.aaload, 1)) (hpc : pc + 1 = pc2) (kk : PW G M d Ps E kc ks pc2 L (va_rf (f i.toNatClampNeg) :: S) h) : PW G M d Ps E kc ks pc L (.int i :: .ref a :: S) h := by
  subst hpc
  intro p l e R s m args below meth c A H locs cells slots ls MC MS C0 hR hS hl hm
  have C1 := C0
  obtain ⟨hx, hb, hml, hown, hts, hr, htab, hnm, hlocks, hst0, -, hKk, hEe, hSt0, hA, hPs⟩ := C0
  have hlt : i.toNatClampNeg < n := Nat.not_le.mp fun q => hin (Or.inr q)
  exact W.aald (v := va_rf (f i.toNatClampNeg)) (ty := t) hx hb (hR.one he (ne_dcA hR he (pos_in hin)) 0 _ rfl) ((hKk.2 t0 _ (hK_ty hKk t0 ht)).1 n (fun j => va_rf (f j))) hrt (fun q => by cases q) (by show ¬ (i < 0 ∨ (arrV _ _ _).slots.size ≤ _); rw [arrV_size]; exact hin) (by show (arrV _ _ _).slots[_]? = _; rw [arrV_read _ _ hlt]) rfl rfl hdg (kk p l e R s m args below meth c A H locs cells slots ls MC MS C1 hR hS hl hm)
theorem pw_iast {n : Nat} {f : Nat → Int32} {i x : Int32} (he : h a = some (aI n f)) (hin : vp_in i n) (hdg : decode M.2.1 pc = .ok (.iastore, 1)) (hpc : pc + 1 = pc2) (kk : PW G M d Ps E kc ks pc2 L S (va_up h a (some (aI n (upd f i.toNatClampNeg x))))) : PW G M d Ps E kc ks pc L (.int x :: .int i :: .ref a :: S) h := by
  subst hpc
  intro p l e R s m args below meth c A H locs cells slots ls MC MS C0 hR hS hl hm
  have C1 := C0
  obtain ⟨hx, hb, hml, hown, hts, hr, htab, hnm, hlocks, hst0, -, hKk, hEe, hSt0, hA, hPs⟩ := C0
  obtain ⟨ws, k0, hP, hD, hk0, hup⟩ := hR.wr he (ne_dcA hR he (pos_in hin))
  exact va_iast (D := G.1) hx hb hKk hP hD hS k0 0 hk0 (hK_ty hKk 0 rfl) hin hdg
    (fun H1 locs1 p1 d1 s1 => kk p l e R s m args below meth c A H1 locs1 cells slots ls MC MS C1 (hup (aI n (upd f i.toNatClampNeg x)) H1 p1 d1 (dc_kept hSt0 hA hS s1 hR.2.2)) s1 hl hm)
theorem pw_zast {n : Nat} {f : Nat → Int32} {i x : Int32} (he : h a = some (aZ n f)) (hin : vp_in i n) (hx01 : vp_nar .boolean x = x) (hdg : decode M.2.1 pc = .ok (.bastore, 1)) (hpc : pc + 1 = pc2) (kk : PW G M d Ps E kc ks pc2 L S (va_up h a (some (aZ n (upd f i.toNatClampNeg x))))) : PW G M d Ps E kc ks pc L (.int x :: .int i :: .ref a :: S) h := by
  subst hpc
  intro p l e R s m args below meth c A H locs cells slots ls MC MS C0 hR hS hl hm
  have C1 := C0
  obtain ⟨hx, hb, hml, hown, hts, hr, htab, hnm, hlocks, hst0, -, hKk, hEe, hSt0, hA, hPs⟩ := C0
  obtain ⟨ws, k0, hP, hD, hk0, hup⟩ := hR.wr he (ne_dcA hR he (pos_in hin))
  refine va_zast (D := G.1) hx hb hKk hP hD hS k0 1 hk0 (hK_ty hKk 1 rfl) hin hdg (fun H1 locs1 p1 d1 s1 => ?_)
  rw [hx01] at p1 d1
  exact kk p l e R s m args below meth c A H1 locs1 cells slots ls MC MS C1 (hup (aZ n (upd f i.toNatClampNeg x)) H1 p1 d1 (dc_kept hSt0 hA hS s1 hR.2.2)) s1 hl hm
/-- null into an array of references -/
theorem pw_aastN {D : String} {n : Nat} {f : Nat → Option Nat} {i : Int32} (t0 : Nat) (ht : arrTys[t0]? = some (.object D)) (he : h a = some (aR (.object D) n f)) (hin : vp_in i n) (hdg : decode M.2.1 pc = .ok (.aastore, 1)) (hpc : pc + 1 = pc2) (kk : PW G M d Ps E kc ks pc2 L S (va_up h a (some (aR (.object D) n (va_up f i.toNatClampNeg none))))) : PW G M d Ps E kc ks pc L (.null :: .int i :: .ref a :: S) h := by
  subst hpc
  intro p l e R s m args below meth c A H locs cells slots ls MC MS C0 hR hS hl hm
  have C1 := C0
  obtain ⟨hx, hb, hml, hown, hts, hr, htab, hnm, hlocks, hst0, -, hKk, hEe, hSt0, hA, hPs⟩ := C0
  obtain ⟨ws, k0, hP, hD, hk0, hup⟩ := hR.wr he (ne_dcA hR he (pos_in hin))
  exact va_astqN (D := G.1) hx hb hKk hP hD hS k0 t0 hk0 (hK_ty hKk t0 ht) hin hdg
    (fun H1 locs1 p1 d1 s1 => kk p l e R s m args below meth c A H1 locs1 cells slots ls MC MS C1 (hup (aR (.object D) n (va_up f i.toNatClampNeg none)) H1 p1 d1 (dc_kept hSt0 hA hS s1 hR.2.2)) s1 hl hm)
/-- an object into an array of a class that it can be cast to -/
theorem pw_aastO {D C2 : String} {n b cj : Nat} {T2 : u_T} {N2 : Nat} {gs : List Value} {f : Nat → Option Nat} {i : Int32} (t0 : Nat) (ht : arrTys[t0]? = some (.object D)) (hcl : vwCl[cj]? = some (C2, T2, N2)) (hca : Cond.castable C2 D ∈ nws) (he : h a = some (aR (.object D) n f)) (hbo : h b = some (.inr (cj, gs))) (hin : vp_in i n) (hdg : decode M.2.1 pc = .ok (.aastore, 1)) (hpc : pc + 1 = pc2) (kk : PW G M d Ps E kc ks pc2 L S (va_up h a (some (aR (.object D) n (va_up f i.toNatClampNeg (some b)))))) : PW G M d Ps E kc ks pc L (.ref b :: .int i :: .ref a :: S) h := by
  subst hpc
  intro p l e R s m args below meth c A H locs cells slots ls MC MS C0 hR hS hl hm
  have C1 := C0
  obtain ⟨hx, hb, hml, hown, hts, hr, htab, hnm, hlocks, hst0, -, hKk, hEe, hSt0, hA, hPs⟩ := C0
  have hne := ne_dcA hR he (pos_in hin)
  obtain ⟨ws, k0, hP, hD, hk0, hup⟩ := hR.wr he hne
  have hb0 := hR.at hbo (ne_dc hR hbo)
  obtain ⟨r9, hr9, cell9, hcb, hcc, hcv, -⟩ := hb0
  cases hr9.symm.trans hcl
  refine va_astqM (D := G.1) (E := D) hx hb hKk hP hD hS k0 t0 hk0 (hK_ty hKk t0 ht) ⟨cell9, hcb, by rw [hcv]; rfl, ?_, ?_⟩ hin hdg
    (fun H1 locs1 p1 d1 s1 => kk p l e R s m args below meth c A H1 locs1 cells slots ls MC MS C1 (hup (aR (.object D) n (va_up f i.toNatClampNeg (some b))) H1 p1 d1 (dc_kept hSt0 hA hS s1 hR.2.2)) s1 hl hm)
  · obtain ⟨-, -, kC, hkC, -⟩ := hKk.1 cj _ hcl
    exact ⟨kC, by rw [hcc]; exact hkC⟩
  · intro comp hcomp
    obtain ⟨c3, c4, hc3, hc4, hasg⟩ := Cond.castable_spec (nws_use (A := args) hEe hca)
    have hfc := (hKk.1 cj _ hcl).2.1
    cases Option.some.inj (hc4.symm.trans hcomp)
    cases Option.some.inj (hc3.symm.trans hfc)
    rw [hcc]
    exact hasg
/-- a cast of an object of a known class -/
theorem pw_cast {nm C2 : String} {cj N2 : Nat} {T2 : u_T} {gs : List Value} (hcl : vwCl[cj]? = some (C2, T2, N2)) (w1 : Cond.classLink M.1.cls index nm ∈ gws) (hca : Cond.castable C2 nm ∈ nws) (he : h a = some (.inr (cj, gs))) (hdg : decode M.2.1 pc = .ok (.checkcast index, 3)) (hpc : pc + 3 = pc2) (kk : PW G M d Ps E kc ks pc2 L (.ref a :: S) h) : PW G M d Ps E kc ks pc L (.ref a :: S) h := by
  subst hpc
  intro p l e R s m args below meth c A H locs cells slots ls MC MS C0 hR hS hl hm
  have C1 := C0
  obtain ⟨hx, hb, hml, hown, hts, hr, htab, hnm, hlocks, hst0, -, hKk, hEe, hSt0, hA, hPs⟩ := C0
  exact va_castY (C := C2) hx hb hown (hts _ w1) (hEe.1 _ hca) (va_recv (q0 := 0) hKk (hR.one he (ne_dc hR he)) hcl rfl) hdg (kk p l e R s m args below meth c A H locs cells slots ls MC MS C1 hR hS hl hm)
/-- the lists' shared empty array -/
theorem pw_getEmpty (w1 : Cond.fieldLink M.1.cls index "java/util/ArrayList" "DEFAULTCAPACITY_EMPTY_ELEMENTDATA" "[Ljava/lang/Object;" ∈ gws) (hdg : decode M.2.1 pc = .ok (.getstatic index, 3)) (hpc : pc + 3 = pc2) (kk : PW G M d Ps E kc ks pc2 L (.ref G.2.2 :: S) h) : PW G M d Ps E kc ks pc L S h := by
  subst hpc
  intro p l e R s m args below meth c A H locs cells slots ls MC MS C0 hR hS hl hm
  have C1 := C0
  obtain ⟨hx, hb, hml, hown, hts, hr, htab, hnm, hlocks, hst0, -, hKk, hEe, hSt0, hA, hPs⟩ := C0
  exact va_gets hx hb hSt0.2.2.1.1 hS hown (hts _ w1) (fun x h9 => h9) hdg (kk p l e R s m args below meth c A H locs cells slots ls MC MS C1 hR hS hl hm)
end PWH
