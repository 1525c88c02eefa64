/-! rows for long numbers, remainders, bits of floats, a row of rows that is written -/
section PWX
variable {G : hG} {M : hMI} {d : Nat} {Ps : hAmb} {E : hEnd} {kc ks pc pc2 : Nat} {L : List (Nat × Value)} {S : List Value} {h : hp} {Q : Option Value → hp → Prop} {X : String → hp → Prop}
theorem pw_irem {x y : Int32} (hdg : decode M.2.1 pc = .ok (.irem, 1)) (hp : pc + 1 = pc2) (hne : ¬ y = 0) (k : PW G M d Ps E kc ks pc2 L (.int (x - x / y * y) :: S) h) : PW G M d Ps E kc ks pc L (.int y :: .int x :: S) h := by
  subst hp
  exact pw_lift (fun hx hb hl kk => lv_irem hx hb hdg hne kk) k
theorem pw_ladd {x y : Int64} (hdg : decode M.2.1 pc = .ok (.ladd, 1)) (hp : pc + 1 = pc2) (k : PW G M d Ps E kc ks pc2 L (.long (x + y) :: S) h) : PW G M d Ps E kc ks pc L (.long y :: .long x :: S) h := by
  subst hp
  exact pw_lift (fun hx hb hl kk => lv_ladd hx hb hdg kk) k
theorem pw_lmul {x y : Int64} (hdg : decode M.2.1 pc = .ok (.lmul, 1)) (hp : pc + 1 = pc2) (k : PW G M d Ps E kc ks pc2 L (.long (x * y) :: S) h) : PW G M d Ps E kc ks pc L (.long y :: .long x :: S) h := by
  subst hp
  exact pw_lift (fun hx hb hl kk => lv_lmul hx hb hdg kk) k
theorem pw_lload_n {k : Fin 4} {i : Nat} {x : Int64} (hdg : decode M.2.1 pc = .ok (.lload_n k, 1)) (hp : pc + 1 = pc2) (hi : (k : Nat) = i) (j : Nat) (hj : L[j]? = some (i, .long x)) (k : PW G M d Ps E kc ks pc2 L (.long x :: S) h) : PW G M d Ps E kc ks pc L S h := by
  subst hp
  exact pw_lift (fun hx hb hl kk => lv_lload_n hx hb hdg hi (lv_at hl j hj) kk) k
theorem pw_lload {i : Nat} {x : Int64} (hdg : decode M.2.1 pc = .ok (.lload i, 2)) (hp : pc + 2 = pc2) (j : Nat) (hj : L[j]? = some (i, .long x)) (k : PW G M d Ps E kc ks pc2 L (.long x :: S) h) : PW G M d Ps E kc ks pc L S h := by
  subst hp
  exact pw_lift (fun hx hb hl kk => lv_lload hx hb hdg (lv_at hl j hj) kk) k
theorem pw_lstore_n {k : Fin 4} {i : Nat} {x : Int64} {L2 : List (Nat × Value)} (hdg : decode M.2.1 pc = .ok (.lstore_n k, 1)) (hp : pc + 1 = pc2) (hi : (k : Nat) = i) (hn : i + 1 < M.2.2.1) (hl2 : (i, Value.long x) :: L.filter (fun q => !(q.1 == i) && (!(q.1 == i + 1) && !(q.1 + 1 == i && q.2.category == 2))) = L2) (k : PW G M d Ps E kc ks pc2 L2 S h) : PW G M d Ps E kc ks pc L (.long x :: S) h := by
  subst hp
  exact pw_liftL (fun hx hb hl kk => lv_lstore_n hx hb hdg hi hl hn hl2 kk) k
theorem pw_lstore {i : Nat} {x : Int64} {L2 : List (Nat × Value)} (hdg : decode M.2.1 pc = .ok (.lstore i, 2)) (hp : pc + 2 = pc2) (hn : i + 1 < M.2.2.1) (hl2 : (i, Value.long x) :: L.filter (fun q => !(q.1 == i) && (!(q.1 == i + 1) && !(q.1 + 1 == i && q.2.category == 2))) = L2) (k : PW G M d Ps E kc ks pc2 L2 S h) : PW G M d Ps E kc ks pc L (.long x :: S) h := by
  subst hp
  exact pw_liftL (fun hx hb hl kk => lv_lstore hx hb hdg hl hn hl2 kk) k
theorem pw_ldc2 {idx : Nat} {v : Int64} (hw : Cond.constantLong M.1.cls idx v ∈ gws) (hdg : decode M.2.1 pc = .ok (.ldc2_w idx, 3)) (hpc : pc + 3 = pc2) (kk : PW G M d Ps E kc ks pc2 L (.long v :: S) h) : PW G M d Ps E kc ks pc L S h := by
  subst hpc
  intro p l e R s m args below meth c A H locs cells slots ls MC MS C0 hR hS hl hm
  have C1 := C0
  obtain ⟨hx, hb, hml, hown, hts, -⟩ := C0
  exact lv_ldc2 hx hb hown (hts _ hw) hdg (kk p l e R s m args below meth c A H locs cells slots ls MC MS C1 hR hS hl hm)
theorem pw_ldcF {idx : Nat} {v : UInt32} (hw : Cond.constantFloat M.1.cls idx v ∈ gws) (hdg : decode M.2.1 pc = .ok (.ldc idx, 2)) (hpc : pc + 2 = pc2) (kk : PW G M d Ps E kc ks pc2 L (.float v :: S) h) : PW G M d Ps E kc ks pc L S h := by
  subst hpc
  intro p l e R s m args below meth c A H locs cells slots ls MC MS C0 hR hS hl hm
  have C1 := C0
  obtain ⟨hx, hb, hml, hown, hts, -⟩ := C0
  exact lv_ldcf hx hb hown (hts _ hw) hdg (kk p l e R s m args below meth c A H locs cells slots ls MC MS C1 hR hS hl hm)
theorem pw_lret {v : Int64} (hdg : decode M.2.1 pc = .ok (.lreturn, 1)) (hr : M.2.2.2.1 = some .long) (hq : Q (some (.long v)) h) : PW G M d Ps (E0 G Q X) kc ks pc L [.long v] h := by
  intro p l e R s m args below meth c A H locs cells slots ls MC MS C hR hS hl hm
  refine W.widen (k := MC) (n := MS) (by omega) (by omega) (vx_ret ?_)
  exact W.lret C.1 C.2.1 (C.2.2.2.2.2.1.trans hr) (fun t ht hW => ⟨⟨_, h, rfl, hq, by rw [ht]; exact hR⟩, hS.F ht⟩) hS.2.2 hdg C.2.2.2.2.2.2.2.2.1
abbrev f2iN : MethodName := ⟨"java/lang/Float", "floatToRawIntBits", "(F)I"⟩
theorem pw_f2iN {idx : Nat} {b : UInt32} (w1 : Cond.methodLink M.1.cls idx f2iN ∈ gws) (w2 : Cond.native f2iN ∈ gws) (w3 : Cond.static f2iN ∈ gws) (w4 : Cond.initialized "java/lang/Float" ∈ gws) (hcat : (S.map fun v => v.category).sum ≤ 8) (hdg : decode M.2.1 pc = .ok (.invokestatic idx, 3)) (hpc : pc + 3 = pc2) (kk : PW G M d Ps E kc ks pc2 L (.int b.toInt32 :: S) h) : PW G M d Ps E kc ks pc L (.float b :: S) h := by
  subst hpc
  intro p l e R s m args below meth c A H locs cells slots ls MC MS C0 hR hS hl hm
  have C1 := C0
  obtain ⟨hx, hb, hml, hown, hts, hr, htab, hnm, hlocks, hst0, ⟨hf1, hf2⟩, hKk, hEe, hSt0, hA, hPs⟩ := C0
  exact vn_f2i hx hb (hml.trans hl.1.symm) hown (hts _ w1) (hts _ w2) (hts _ w3) (hts _ w4) (by omega) (by omega) hdg (kk p l e R s m args below meth c A H locs cells slots ls MC MS C1 hR hS hl hm)
/-- a row of ints is put into a row of rows -/
theorem pw_aastA {n n2 b : Nat} {f : Nat → Option Nat} {f2 : Nat → Int32} {a : Nat} {i : Int32} (he : h a = some (aR (.array .int) n f)) (hbo : h b = some (aI n2 f2)) (hn2 : 0 < n2) (hin : vp_in i n) (hdg : decode M.2.1 pc = .ok (.aastore, 1)) (hpc : pc + 1 = pc2) (kk : PW G M d Ps E kc ks pc2 L S (va_up h a (some (aR (.array .int) n (va_up f i.toNatClampNeg (some b)))))) : PW G M d Ps E kc ks pc L (.ref b :: .int i :: .ref a :: S) h := by
  subst hpc
  intro p l e R s m args below meth c A H locs cells slots ls MC MS C0 hR hS hl hm
  have C1 := C0
  obtain ⟨hx, hb, hml, hown, hts, hr, htab, hnm, hlocks, hst0, -, hKk, hEe, hSt0, hA, hPs⟩ := C0
  have hne := ne_dcA hR he (pos_in hin)
  obtain ⟨ws, k0, hP, hD, hk0, hup⟩ := hR.wr he hne
  have hbne := ne_dcA hR hbo hn2
  have hb0 := hR.at hbo hbne
  have hlt : i.toNatClampNeg < n := Nat.not_le.mp fun q => hin (Or.inr q)
  have h0 : ¬ i < 0 := fun q => hin (Or.inl q)
  obtain ⟨comp, cA, kA, e1, e2, e3, e4⟩ := Cond.arrayOver_specA (va_AOA.use (A := #[]) hEe.2.2.1.2.2.1)
  have e5 : s.vm.findClass ("[" ++ (FieldType.array .int).toString) = some (G.2.1 (.array .int)) := (hKk.2 6 _ (hK_ty hKk 6 rfl)).2
  have e6 : cA = G.2.1 (.array .int) := Option.some.inj (e4.symm.trans e5)
  have e7 : s.vm.findClass ("[" ++ FieldType.int.toString) = some (G.2.1 .int) := (hKk.2 0 _ (hK_ty hKk 0 rfl)).2
  have e8 : comp = G.2.1 .int := Option.some.inj (e1.symm.trans e7)
  obtain ⟨kE, hkE, -⟩ := Vm.findClass_spec e1
  subst e6
  have hcell : H[b]? = some (vp_cell (G.2.1 .int) (n2, .inl f2)) := hb0
  refine W.aast hx hb (hP k0 _ hk0) (fun q h => by cases h) (fun h => by cases h) e2 e3 rfl hkE ⟨h0, by show _ < (arrV _ _ _).slots.size; rw [arrV_size]; exact hlt⟩ hcell (fun q h => by cases h) (by show s.vm.classes[G.2.1 .int]? = some kE; rw [← e8]; exact hkE) (by show s.vm.assignable (G.2.1 .int) comp = true; rw [e8]; exact va_asg _ _) rfl rfl hdg fun H1 z1 z oq => ?_
  have p1 := hP.set (H1 := H1) (e := hc G (aR (.array .int) n (va_up f i.toNatClampNeg (some b)))) hD hk0 ?_ oq
  · have s1 := hS.put (k := i.toNatClampNeg) z oq (hD.2 k0 _ hk0)
    exact kk p l e R s m args below meth c A H1 _ cells slots ls MC MS C1 (hup (aR (.array .int) n (va_up f i.toNatClampNeg (some b))) H1 p1 (hD.set hk0) (dc_kept hSt0 hA hS s1 hR.2.2)) s1 hl hm
  · show H1[a]? = some (vp_cell _ _)
    rw [z1]
    rw [vp_cell_q, vp_cell_q, arrV_store]
    congr 2
    funext q
    by_cases hq : q = i.toNatClampNeg
    · subst hq
      simp [updV, va_up, va_rf]
    · simp [updV, va_up, hq]
end PWX
