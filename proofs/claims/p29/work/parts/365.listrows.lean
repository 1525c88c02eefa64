/-! rows that only the lists need: an inherited field, class objects, System.arraycopy of references -/
theorem RQ.wr2 {G : hG} {A : Nat → Prop} {h : hp} {H : Heap} (hR : RQ G A h H) {a b : Nat} {e eb : hE} (ha : h a = some e) (hne : a ≠ G.2.2) (hb : h b = some eb) (hbne : b ≠ G.2.2) : ∃ (ws : va_W) (k kb : Nat), va_P G.1 vwCl ws H ∧ va_D A ws ∧ ws[k]? = some (a, hc G e) ∧ ws[kb]? = some (b, hc G eb) ∧
    ∀ (e' : hE) (H1 : Heap), va_P G.1 vwCl (ws.set k (a, hc G e')) H1 → va_D A (ws.set k (a, hc G e')) → cD G H1 → RQ G A (va_up h a (some e')) H1 := by
  obtain ⟨⟨L, hL, hP, hD⟩, h0, hz⟩ := hR
  obtain ⟨haL, k, hk⟩ := RQ.idx (A := A) (H := H) hL ha hne
  obtain ⟨-, kb, hkb⟩ := RQ.idx (A := A) (H := H) hL hb hbne
  refine ⟨va_pl L (hf G h), k, kb, hP, hD, hk, hkb, fun e' H1 p1 d1 z1 => ?_⟩
  have hk2 : ([] ++ va_pl L (hf G h))[k]? = some (a, hf G h a) := by rw [hf_at ha]; exact hk
  have hset : (va_pl L (hf G h)).set k (a, hc G e') = va_pl L (hf G (va_up h a (some e'))) := (va_pl_set (X := []) (A := A) (e := hc G e') hD haL hk2).trans (va_pl_congr (hf_up G h a e'))
  rw [hset] at p1 d1
  refine ⟨⟨L, fun b => ?_, p1, d1⟩, ?_, z1⟩
  · by_cases hb : b = a
    · subst hb
      rw [va_up_self]
      exact ⟨fun _ => ⟨(fun q => by cases q), hne⟩, fun _ => haL⟩
    · rw [va_up_ne _ _ hb]
      exact hL b
  · rw [va_up_ne _ _ (Ne.symm hne)]
    exact h0
section PWQ
variable {G : hG} {M : hMI} {d : Nat} {Ps : hAmb} {E : hEnd} {kc ks pc pc2 a : Nat} {L : List (Nat × Value)} {S : List Value} {h : hp}
variable {ci N index k : Nat} {C ref : String} {T : u_T} {ty : Nat → FieldType} {fs : List Value} {v : Value}
theorem pw_getS (hC : CLS ci C T N ty) (hk : k < N) (hsf : Cond.sameField ref (T k).1 (T k).2.1 (T k).2.2.1 ∈ gws) (hlink : Cond.fieldLink M.1.cls index ref (T k).2.1 (T k).2.2.1 ∈ gws) (he : h a = some (.inr (ci, fs))) (hv : fs[k]? = some v) (hdg : decode M.2.1 pc = .ok (.getfield index, 3)) (hpc : pc + 3 = pc2)
    (kk : PW G M d Ps E kc ks pc2 L (v :: S) h) : PW G M d Ps E kc ks pc L (.ref a :: S) h := by
  subst hpc
  intro p l e R s m args below meth c A H locs cells slots ls MC MS C0 hR hS hl hm
  have C1 := C0
  obtain ⟨hx, hb, hml, hown, hts, hr, htab, hnm, hlocks, hst0, -, hKk, hEe, hSt0, hA, hPs⟩ := C0
  exact va_get (D := G.1) (Ts := gws) hx hb hts hC.2.1 hown hKk (hR.one he (ne_dc hR he)) 0 rfl hC.1 k hk (hts _ hlink) (fun x h9 => u_same (hts _ hsf) x h9) hv hdg (kk p l e R s m args below meth c A H locs cells slots ls MC MS C1 hR hS hl hm)
theorem pw_putS (hC : CLS ci C T N ty) (hk : k < N) (hsf : Cond.sameField ref (T k).1 (T k).2.1 (T k).2.2.1 ∈ gws) (hfin : (T k).2.2.2 = false) (hlink : Cond.fieldLink M.1.cls index ref (T k).2.1 (T k).2.2.1 ∈ gws) (he : h a = some (.inr (ci, fs))) (hl0 : k < fs.length) (hn : narrow (ty k) v = v) (hfit : fits (ty k) v = true) (hdg : decode M.2.1 pc = .ok (.putfield index, 3)) (hpc : pc + 3 = pc2)
    (kk : PW G M d Ps E kc ks pc2 L S (va_up h a (some (.inr (ci, fs.set k v))))) : PW G M d Ps E kc ks pc L (v :: .ref a :: S) h := by
  subst hpc
  intro p l e R s m args below meth c A H locs cells slots ls MC MS C0 hR hS hl hm
  have C1 := C0
  obtain ⟨hx, hb, hml, hown, hts, hr, htab, hnm, hlocks, hst0, -, hKk, hEe, hSt0, hA, hPs⟩ := C0
  obtain ⟨ws, k0, hP, hD, hk0, hup⟩ := hR.wr he (ne_dc hR he)
  exact va_put (D := G.1) (Ts := gws) hx hb hts hC.2.1 ty hC.2.2.1 hC.2.2.2 hown hKk hP hD hS k0 hk0 hC.1 k hk (hts _ hlink) (fun x h9 => u_same (hts _ hsf) x h9) hfin (hC.2.2.1 k hk) hn hfit hl0 hdg
    (fun H1 locs1 p1 d1 s1 => kk p l e R s m args below meth c A H1 locs1 cells slots ls MC MS C1 (hup (.inr (ci, fs.set k v)) H1 p1 d1 (dc_kept hSt0 hA hS s1 hR.2.2)) s1 hl hm)
theorem pw_aastON {D C2 : String} {n b cj i : Nat} {T2 : u_T} {N2 : Nat} {gs : List Value} {f : Nat → Option Nat} (t0 : Nat) (ht : arrTys[t0]? = some (.object D)) (hcl : vwCl[cj]? = some (C2, T2, N2)) (hca : Cond.castable C2 D ∈ nws) (he : h a = some (aR (.object D) n f)) (hbo : h b = some (.inr (cj, gs))) (hi : i < n) (hn : n < 2147483648) (hdg : decode M.2.1 pc = .ok (.aastore, 1)) (hpc : pc + 1 = pc2) (kk : PW G M d Ps E kc ks pc2 L S (va_up h a (some (aR (.object D) n (va_up f i (some b)))))) : PW G M d Ps E kc ks pc L (.ref b :: .int (nI i) :: .ref a :: S) h :=
  pw_aastO t0 ht hcl hca he hbo (inN hi hn) hdg hpc (by rw [clN hi hn]; exact kk)
theorem pw_ldcMir (w1 : Cond.classLink M.1.cls index "[Ljava/lang/Object;" ∈ gws) (hdg : decode M.2.1 pc = .ok (.ldc index, 2)) (hpc : pc + 2 = pc2) (kk : PW G M d Ps E kc ks pc2 L (.ref (miO G) :: S) h) : PW G M d Ps E kc ks pc L S h := by
  subst hpc
  intro p l e R s m args below meth c A H locs cells slots ls MC MS C0 hR hS hl hm
  have C1 := C0
  obtain ⟨hx, hb, hml, hown, hts, hr, htab, hnm, hlocks, hst0, -, hKk, hEe, hSt0, hA, hPs⟩ := C0
  exact va_ldcM hx hb hown (hts _ w1) hSt0.2.2.1.2 hdg (kk p l e R s m args below meth c A H locs cells slots ls MC MS C1 hR hS hl hm)
def getClassN : MethodName := ⟨"java/lang/Object", "getClass", "()Ljava/lang/Class;"⟩
theorem pw_getClass {n : Nat} {f : Nat → Option Nat} (w1 : Cond.methodLink M.1.cls index getClassN ∈ gws) (w2 : Cond.declares getClassN ∈ nws) (w3 : Cond.selects "[Ljava/lang/Object;" getClassN getClassN ∈ gws) (w4 : Cond.instanceMethod getClassN ∈ gws) (w5 : Cond.native getClassN ∈ gws) (he : h a = some (aR tObj n f)) (h0n : 0 < n) (hcat : (S.map fun v => v.category).sum ≤ 8) (hdg : decode M.2.1 pc = .ok (.invokevirtual index, 3)) (hpc : pc + 3 = pc2) (kk : PW G M d Ps E kc ks pc2 L (.ref (miO G) :: S) h) : PW G M d Ps E kc ks pc L (.ref a :: S) h := by
  subst hpc
  intro p l e R s m args below meth c A H locs cells slots ls MC MS C0 hR hS hl hm
  have C1 := C0
  obtain ⟨hx, hb, hml, hown, hts, hr, htab, hnm, hlocks, hst0, ⟨hf1, hf2⟩, hKk, hEe, hSt0, hA, hPs⟩ := C0
  have hRA : va_RA s (G.2.1 tObj) tObj := (hKk.2 5 _ (hK_ty hKk 5 rfl)).2
  refine va_getC (C := "[Ljava/lang/Object;") hx hb (hml.trans hl.1.symm) hown (hts _ w1) (nws_use hEe w2) (hts _ w3) (hts _ w4) (hts _ w5) hSt0.2.2.1.2 ⟨_, hR.at he (ne_dcA hR he h0n), rfl, ?_⟩ (by omega) (by omega) hdg (kk p l e R s m args below meth c A H locs cells slots ls MC MS C1 hR hS hl hm)
  exact va_nmO hRA rfl
theorem pw_copyq {b n0 n1 cj N2 : Nat} {C2 : String} {T2 : u_T} {f g : Nat → Option Nat} {n : Nat} (w1 : Cond.methodLink M.1.cls index arraycopyName ∈ gws) (w2 : Cond.native arraycopyName ∈ gws) (w3 : Cond.static arraycopyName ∈ gws) (w4 : Cond.initialized "java/lang/System" ∈ gws) (hcl : vwCl[cj]? = some (C2, T2, N2)) (hca : Cond.castable C2 "java/lang/Object" ∈ nws)
    (hb0 : h b = some (aR tObj n0 f)) (ha0 : h a = some (aR tObj n1 g)) (h0 : 0 < n0) (h1 : n ≤ n0) (h2 : n ≤ n1) (h3 : n < 2147483648) (h4 : 0 < n1) (hel : ∀ i : Nat, i < n → ∀ y : Nat, f i = some y → ∃ gs, h y = some (.inr (cj, gs))) (hcat : (S.map fun v => v.category).sum ≤ 8) (hdg : decode M.2.1 pc = .ok (.invokestatic index, 3)) (hpc : pc + 3 = pc2)
    (kk : PW G M d Ps E kc ks pc2 L S (va_up h a (some (aR tObj n1 (va_cpy f g 0 0 n))))) : PW G M d Ps E kc ks pc L (.int (nI n) :: .int 0 :: .ref a :: .int 0 :: .ref b :: S) h := by
  subst hpc
  intro p l e R s m args below meth c A H locs cells slots ls MC MS C0 hR hS hl hm
  have C1 := C0
  obtain ⟨hx, hb, hml, hown, hts, hr, htab, hnm, hlocks, hst0, ⟨hf1, hf2⟩, hKk, hEe, hSt0, hA, hPs⟩ := C0
  obtain ⟨ws, k0, kb, hP, hD, hk0, hkb, hup⟩ := hR.wr2 ha0 (ne_dcA hR ha0 h4) hb0 (ne_dcA hR hb0 h0)
  have hcl0 : (nI n).toNatClampNeg = n := nI_clamp (by omega)
  have hz : (0 : Int32).toNatClampNeg = 0 := rfl
  refine va_copyq (C := C2) (E1 := "java/lang/Object") hx hb (hml.trans hl.1.symm) hown (hts _ w1) (hts _ w2) (hts _ w3) (hts _ w4) hKk hP hD hS kb k0 5 5 hkb hk0 (hK_ty hKk 5 rfl) (hK_ty hKk 5 rfl) (by decide) (by decide) (nI_pos (by omega)) (by rw [hz, hcl0]; omega) (by rw [hz, hcl0]; omega) (fun i hi y hy => ?_) (fun comp c0 hcomp hc0 => ?_) (by omega) ?_ hdg
    (fun H1 locs1 p1 d1 s1 => ?_)
  · rw [hcl0] at hi
    rw [hz, Nat.zero_add] at hy
    obtain ⟨gs, hg⟩ := hel i hi y hy
    exact va_recv (q0 := 0) hKk (hR.one hg (ne_dc hR hg)) hcl rfl
  · obtain ⟨c3, c4, hc3, hc4, hasg⟩ := Cond.castable_spec (nws_use (A := args) hEe hca)
    cases Option.some.inj (hc4.symm.trans hcomp)
    cases Option.some.inj (hc3.symm.trans hc0)
    exact hasg
  · have hw : nativeFrameWords "java/lang/System" "arraycopy" 5 ≤ 60 := by decide
    omega
  · rw [hz, hcl0] at p1 d1
    exact kk p l e R s m args below meth c A H1 locs1 cells slots ls MC MS C1 (hup (aR tObj n1 (va_cpy f g 0 0 n)) H1 p1 d1 (dc_kept hSt0 hA hS s1 hR.2.2)) s1 hl hm
end PWQ
