/-! Math.max and min, number constants, and the site facts that go with them -/
section PWM
variable {G : hG} {M : hMI} {d : Nat} {Ps : hAmb} {E : hEnd} {kc ks pc pc2 : Nat} {L : List (Nat × Value)} {S : List Value} {h : hp}
theorem pw_mmax {idx : Nat} {x y : Int32} (cs : CSs M.1.cls MJ9_max_7cf53 idx 2) (hdg : decode M.2.1 pc = .ok (.invokestatic idx, 3)) (hpc : pc + 3 = pc2) (hcat : (S.map fun v => v.category).sum ≤ 8) (kk : PW G M d Ps E kc ks pc2 L (.int (if x < y then y else x) :: S) h) : PW G M d Ps E kc ks pc L (.int y :: .int x :: S) h := by
  subst hpc
  intro p l e R s m args below meth c A H locs cells slots ls MC MS C0 hR hS hl hm
  have C1 := C0
  obtain ⟨hx, hb, hml, hown, hts, hr, htab, hnm, hlocks, hst0, ⟨hf1, hf2⟩, hKk, hEe, hSt0, hA, hPs⟩ := C0
  exact va_mmax hx hb (hml.trans hl.1.symm) hown (hts _ cs.1.1) (hts _ cs.2) (hts _ cs.1.2.1) (hts _ wc_J9_max_7cf53) (by omega) (by omega) (by omega) (by omega) hdg (kk p l e R s m args below meth c A H locs cells slots ls MC MS C1 hR hS hl hm)
theorem pw_mmin {idx : Nat} {x y : Int32} (cs : CSs M.1.cls MJ9_min_7cf53 idx 2) (hdg : decode M.2.1 pc = .ok (.invokestatic idx, 3)) (hpc : pc + 3 = pc2) (hcat : (S.map fun v => v.category).sum ≤ 8) (kk : PW G M d Ps E kc ks pc2 L (.int (if y < x then y else x) :: S) h) : PW G M d Ps E kc ks pc L (.int y :: .int x :: S) h := by
  subst hpc
  intro p l e R s m args below meth c A H locs cells slots ls MC MS C0 hR hS hl hm
  have C1 := C0
  obtain ⟨hx, hb, hml, hown, hts, hr, htab, hnm, hlocks, hst0, ⟨hf1, hf2⟩, hKk, hEe, hSt0, hA, hPs⟩ := C0
  exact va_mmin hx hb (hml.trans hl.1.symm) hown (hts _ cs.1.1) (hts _ cs.2) (hts _ cs.1.2.1) (hts _ wc_J9_min_7cf53) (by omega) (by omega) (by omega) (by omega) hdg (kk p l e R s m args below meth c A H locs cells slots ls MC MS C1 hR hS hl hm)
theorem pw_ldcI {idx : Nat} {v : Int32} (hw : Cond.constant M.1.cls idx v ∈ gws) (hdg : decode M.2.1 pc = .ok (.ldc idx, 2)) (hpc : pc + 2 = pc2) (kk : PW G M d Ps E kc ks pc2 L (.int v :: S) h) : PW G M d Ps E kc ks pc L S h := by
  subst hpc
  intro p l e R s m args below meth c A H locs cells slots ls MC MS C0 hR hS hl hm
  have C1 := C0
  obtain ⟨hx, hb, hml, hown, hts, -⟩ := C0
  exact lv_ldc hx hb hown (hts _ hw) hdg (kk p l e R s m args below meth c A H locs cells slots ls MC MS C1 hR hS hl hm)
theorem pw_ldcwI {idx : Nat} {v : Int32} (hw : Cond.constant M.1.cls idx v ∈ gws) (hdg : decode M.2.1 pc = .ok (.ldc_w idx, 3)) (hpc : pc + 3 = pc2) (kk : PW G M d Ps E kc ks pc2 L (.int v :: S) h) : PW G M d Ps E kc ks pc L S h := by
  subst hpc
  intro p l e R s m args below meth c A H locs cells slots ls MC MS C0 hR hS hl hm
  have C1 := C0
  obtain ⟨hx, hb, hml, hown, hts, -⟩ := C0
  exact lv_ldcw hx hb hown (hts _ hw) hdg (kk p l e R s m args below meth c A H locs cells slots ls MC MS C1 hR hS hl hm)
end PWM
theorem kc_200 : Cond.constant RJ8 200 2147483639 ∈ gws := gws_of 391 (by decide +kernel) rfl
theorem kc_77 : Cond.constant RJxf58ca 77 2143289344 ∈ gws := gws_of 969 (by decide +kernel) rfl
theorem kc_169 : Cond.constant RL 169 100000000 ∈ gws := gws_of 978 (by decide +kernel) rfl
