/-! casts to an object's own class; a choice's place written -/
section PWK
variable {G : hG} {M : hMI} {d : Nat} {Ps : hAmb} {E : hEnd} {kc ks pc pc2 a : Nat} {L : List (Nat × Value)} {S : List Value} {h : hp}
theorem pw_castS {C2 : String} {cj N2 index : Nat} {T2 : u_T} {gs : List Value} (hcl : vwCl[cj]? = some (C2, T2, N2)) (w1 : Cond.classLink M.1.cls index C2 ∈ gws) (he : h a = some (.inr (cj, gs))) (hdg : decode M.2.1 pc = .ok (.checkcast index, 3)) (hpc : pc + 3 = pc2) (kk : PW G M d Ps E kc ks pc2 L (.ref a :: S) h) : PW G M d Ps E kc ks pc L (.ref a :: S) h := by
  subst hpc
  intro p l e R s m args below meth c A H locs cells slots ls MC MS C0 hR hS hl hm
  have C1 := C0
  obtain ⟨hx, hb, hml, hown, hts, hr, htab, hnm, hlocks, hst0, -, hKk, hEe, hSt0, hA, hPs⟩ := C0
  exact va_castS hx hb hown (hts _ w1) (hKk.1 cj _ hcl).2 (va_recv (q0 := 0) hKk (hR.one he (ne_dc hR he)) hcl rfl) hdg (kk p l e R s m args below meth c A H locs cells slots ls MC MS C1 hR hS hl hm)
theorem pw_aastS {C2 : String} {n b cj : Nat} {T2 : u_T} {N2 : Nat} {gs : List Value} {f : Nat → Option Nat} {i : Int32} (t0 : Nat) (ht : arrTys[t0]? = some (.object C2)) (hcl : vwCl[cj]? = some (C2, T2, N2)) (he : h a = some (aR (.object C2) n f)) (hbo : h b = some (.inr (cj, gs))) (hin : vp_in i n) (hdg : decode M.2.1 pc = .ok (.aastore, 1)) (hpc : pc + 1 = pc2) (kk : PW G M d Ps E kc ks pc2 L S (va_up h a (some (aR (.object C2) n (va_up f i.toNatClampNeg (some b)))))) : PW G M d Ps E kc ks pc L (.ref b :: .int i :: .ref a :: S) h := by
  subst hpc
  intro p l e R s m args below meth c A H locs cells slots ls MC MS C0 hR hS hl hm
  have C1 := C0
  obtain ⟨hx, hb, hml, hown, hts, hr, htab, hnm, hlocks, hst0, -, hKk, hEe, hSt0, hA, hPs⟩ := C0
  have hne := ne_dcA hR he (pos_in hin)
  obtain ⟨ws, k0, hP, hD, hk0, hup⟩ := hR.wr he hne
  have hb0 := hR.at hbo (ne_dc hR hbo)
  obtain ⟨r9, hr9, cell9, hcb, hcc, hcv, -⟩ := hb0
  cases hr9.symm.trans hcl
  have hcls := (hKk.1 cj _ hcl).2
  refine va_astqM (D := G.1) (E := C2) hx hb hKk hP hD hS k0 t0 hk0 (hK_ty hKk t0 ht) ⟨cell9, hcb, by rw [hcv]; rfl, ?_, ?_⟩ hin hdg
    (fun H1 locs1 p1 d1 s1 => kk p l e R s m args below meth c A H1 locs1 cells slots ls MC MS C1 (hup (aR (.object C2) n (va_up f i.toNatClampNeg (some b))) H1 p1 d1 (dc_kept hSt0 hA hS s1 hR.2.2)) s1 hl hm)
  · obtain ⟨kC, hkC, -⟩ := hcls.2
    exact ⟨kC, by rw [hcc]; exact hkC⟩
  · intro comp hcomp
    cases Option.some.inj (hcls.1.symm.trans hcomp)
    rw [hcc]
    exact va_assign hcls
theorem pw_aastP {n i : Nat} {f : Nat → Option Nat} {r : Option Nat} (he : h a = some (aR tRel n f)) (hr : ∀ b, r = some b → ∃ gs, h b = some (.inr (8, gs))) (hi : i < n) (hn : n < 2147483648) (hdg : decode M.2.1 pc = .ok (.aastore, 1)) (hpc : pc + 1 = pc2) (kk : PW G M d Ps E kc ks pc2 L S (va_up h a (some (aR tRel n (va_up f i r))))) : PW G M d Ps E kc ks pc L (va_rf r :: .int (nI i) :: .ref a :: S) h := by
  cases r with
  | none => exact pw_aastN 4 rfl he (inN hi hn) hdg hpc (by rw [clN hi hn]; exact kk)
  | some b =>
    obtain ⟨gs, hb⟩ := hr b rfl
    exact pw_aastS 4 rfl (cj := 8) rfl he hb (inN hi hn) hdg hpc (by rw [clN hi hn]; exact kk)
end PWK
