/-! PackageForge: publish -/
/-- behind the first of the two lists, the second one is as it was -/
theorem rel_l3 {G : hG} {h9 hk h7 : hp} {A : aT} {σ : sT} (K : W9 G h9 A σ) {p : Nat} (hpp : p < npk σ) {L : List Nat} (x : xt G h9 hk L []) {ed capA e2 cap2 ed5 cap5 n5 : Nat} {mc5 : Int32} {F5 : Nat → Nat} {g5 : Nat → Option Nat} (hk2 : eOK G hk ed (rnp σ p) capA e2 cap2) (z1 : rnp σ p = 0 → capA = 0) (z2 : 0 < rnp σ p → ed = A 35 p) (hs2 : sm hk h7 [A 34 p, e2]) (hl5 : isLx h9 (A 5 0) ed5 cap5 n5 mc5 F5 g5) (w1 : n5 = 0 → ed5 = G.2.2) (w2 : 0 < n5 → ed5 = A 6 0) (hn5 : n5 = nrl σ) :
    isLx h7 (A 5 0) ed5 cap5 n5 mc5 F5 g5 ∧ (∀ (y cj : Nat) (gs : List Value), hk y = some (.inr (cj, gs)) → cj ≠ 2 → h7 y = some (.inr (cj, gs))) ∧ h7 G.2.2 = some hE0 := by
  have k34 := x.keep (K.c34 hpp) List.not_mem_nil
  have k5 := x.keep hl5.1 List.not_mem_nil
  have ked5 := x.keep hl5.2.1 List.not_mem_nil
  have he2 : (e2 = A 35 p ∧ 0 < rnp σ p) ∨ (hk e2 = none ∧ e2 ≠ G.2.2) := by
    rcases hk2 with ⟨a, b, c⟩ | ⟨a, -⟩
    · have h0 : 0 < rnp σ p := Nat.pos_of_ne_zero (fun z => by rw [z, z1 z] at c; exact absurd c (Nat.lt_irrefl 0))
      exact Or.inl ⟨a.trans (z2 h0), h0⟩
    · exact Or.inr a
  have kd := x.keep K.hd List.not_mem_nil
  have obj : ∀ (y cj : Nat) (gs : List Value), hk y = some (.inr (cj, gs)) → y ≠ e2 := fun y cj gs hy e => by
    rcases he2 with ⟨a, b⟩ | ⟨a, -⟩
    · have h35 := x.keep (K.c35 ⟨hpp, b⟩) List.not_mem_nil
      rw [e, a, h35] at hy; cases hy
    · rw [e, a] at hy; cases hy
  have hed5 : ed5 ≠ e2 := fun e => by
    rcases he2 with ⟨a, b⟩ | ⟨a, -⟩
    · by_cases h0 : n5 = 0
      · exact (K.2.1 35 p ⟨hpp, b⟩).1 (a.symm.trans (e.symm.trans (w1 h0)))
      · have h5 := w2 (Nat.pos_of_ne_zero h0)
        exact absurd ((K.2.1 35 p ⟨hpp, b⟩).2 6 0 ⟨rfl, by omega⟩ (a.symm.trans (e.symm.trans h5))).1 (by decide)
    · rw [e, a] at ked5; cases ked5
  refine ⟨⟨?_, ?_, hl5.2.2⟩, fun y cj gs hy hc => ?_, ?_⟩
  · rw [hs2 _ (fun z => by
      rcases List.mem_cons.mp z with e | e
      · exact absurd ((K.2.1 5 0 rfl).2 34 p hpp e).1 (by decide)
      · exact obj _ _ _ k5 (List.mem_singleton.mp e))]
    exact k5
  · rw [hs2 _ (fun z => by
      rcases List.mem_cons.mp z with e | e
      · rw [e, k34] at ked5; cases ked5
      · exact hed5 (List.mem_singleton.mp e))]
    exact ked5
  · rw [hs2 _ (fun z => by
      rcases List.mem_cons.mp z with e | e
      · rw [e, k34] at hy; cases hy; exact hc rfl
      · exact obj _ _ _ hy (List.mem_singleton.mp e))]
    exact hy
  · rw [hs2 _ (fun z => by
      rcases List.mem_cons.mp z with e | e
      · exact (K.2.1 34 p hpp).1 e.symm
      · have e := List.mem_singleton.mp e
        rcases he2 with ⟨a, b⟩ | ⟨-, a⟩
        · exact (K.2.1 35 p ⟨hpp, b⟩).1 (a.symm.trans e.symm)
        · exact a e.symm)]
    exact kd
def pubC (σ : sT) (p : Nat) : Prop := ∃ g', srS σ p = some g' ∧ psW σ p g'
set_option maxHeartbeats 4000000 in
set_option maxRecDepth 100000 in
theorem c_publish (G : hG) (h : hp) {A : aT} {σ : sT} (H : W9 G h A σ) (n : Int32) : PMet G MX9_publish 13 9 112 [.ref (A 0 0), .int n] h (fun r h2 => ∃ p g', p < npk σ ∧ n = nI p ∧ srS σ p = some g' ∧ pkB σ g' ∧ psW σ p g' ∧ vAh σ p ≤ 999 ∧ nrl σ < 20 ∧ r = some (.int (vAh σ p)) ∧ ∃ nw e2 cap2 e3 cap3 g2 g3 mc mc3, W9 G h2 (rlA A (setO σ 9 0 g') p nw e2 e3) (rlS (setO σ 9 0 g') p (vAh σ p) (σ.1 21 p 0) (σ.1 23 p) (σ.1 24 p) g' mc mc3 e2 cap2 e3 cap3 g2 g3) ∧ FR h h2) (fun C h2 => (h2 = h ∧ C = xIO ∧ ¬ inR n (npk σ)) ∨ (∃ p g, p < npk σ ∧ n = nI p ∧ pkB σ g ∧ W9 G h2 A (setO σ 9 0 g) ∧ FR h h2 ∧ ((C = xUO ∧ (¬ pubC σ p ∨ 999 < vAh σ p)) ∨ (C = xIS ∧ pubC σ p ∧ vAh σ p ≤ 999 ∧ nrl σ = 20)))) := by
  have hnp := H.iv.1
  have hnr20 := H.iv.2.2.1
  refine PMet.of (by decide +kernel) (Nat.le_of_ble_eq_true rfl) (fun d hd => ?_)
  refine PW.sub (L2 := [(0, Value.ref (A 0 0)), (1, Value.int n)]) [0, 1] rfl ?_
  refine pw_aload_n (pc2 := 1) dX9_publish_0 rfl rfl 0 rfl (by first | exact rf_ref _ | exact rf_opt _ | exact rf_nul) ?_
  refine pw_iload_n (pc2 := 2) dX9_publish_1 rfl rfl 1 rfl ?_
  refine pw_callV (pc2 := 5) (c_pkat G _ H n) cs_X9_63 rfl rfl H.c0 dX9_publish_2 rfl (by omega) rfl (by first | decide | simp [cat_rf, Value.category]) (fun r9 h9 q9 => ?_) (fun Y h9 q9 => px_out rfl (Or.inl ⟨q9.2.1, q9.1, q9.2.2⟩))
  obtain ⟨rfl, p, hp, rfl, rfl⟩ := q9
  have hne23 : A 23 p ≠ A 24 p := H.ne (t := 23) (u := 24) (i := p) (j := p) hp hp (Or.inl (by decide))
  refine pw_astore_n (pc2 := 6) (L2 := [(2, Value.ref (A 20 p)), (0, Value.ref (A 0 0)), (1, Value.int (nI p))]) dX9_publish_5 rfl rfl (by decide) (by first | exact rf_ref _ | exact rf_opt _ | exact rf_nul) rfl ?_
  refine pw_aload_n (pc2 := 7) dX9_publish_6 rfl rfl 1 rfl (by first | exact rf_ref _ | exact rf_opt _ | exact rf_nul) ?_
  refine pw_get (pc2 := 10) kX9 (k := 3) (by decide) rfl fl_X9_25 H.c0 rfl dX9_publish_7 rfl ?_
  refine pw_aload_n (pc2 := 11) dX9_publish_10 rfl rfl 1 rfl (by first | exact rf_ref _ | exact rf_opt _ | exact rf_nul) ?_
  refine pw_get (pc2 := 14) kX9 (k := 0) (by decide) rfl fl_X9_10 H.c0 rfl dX9_publish_11 rfl ?_
  refine pw_iload_n (pc2 := 15) dX9_publish_14 rfl rfl 2 rfl ?_
  refine pw_aload_n (pc2 := 16) dX9_publish_15 rfl rfl 0 rfl (by first | exact rf_ref _ | exact rf_opt _ | exact rf_nul) ?_
  refine pw_getN (pc2 := 19) kX4 (k := 1) (by decide) rfl fl_X9_67 (H.c20 hp) rfl dX9_publish_16 rfl ?_
  refine pw_getN (pc2 := 22) kX6 (k := 2) (by decide) rfl fl_X9_88 (H.c21 hp) rfl dX9_publish_19 rfl ?_
  refine pw_callV (pc2 := 25) (c_search G _ H ⟨H.c22 hp, H.c23 hp, H.c24 hp, hne23⟩ (kp := p) (Nat.le_of_lt hp)) cs_X9_120 rfl rfl H.c7 dX9_publish_22 rfl (by omega) rfl (by first | decide | simp [cat_rf, Value.category]) (fun r9 h9 q9 => ?_) (fun Y h9 q9 => q9.elim)
  cases hs : srch σ.1 σ.2.1 (σ.1 23 p) (σ.1 24 p) p zN with
  | none =>
    obtain ⟨rfl, eh2⟩ := q9.2 hs
    obtain ⟨K1, FK1⟩ := H.wOF FR.rfl' (t := 9) (i := 0) (g := zN) rfl (by decide) (fun j x hx => by cases hx) rfl
    replace K1 : W9 G h9 A (setO σ 9 0 zN) := by rw [eh2]; exact K1
    replace FK1 : FR h h9 := by rw [eh2]; exact FK1
    refine pw_callS (pc2 := 28) (c_reqN G h9) cs_X9_124 rfl dX9_publish_25 rfl (by omega) rfl (by first | decide | simp [cat_rf, Value.category]) (fun r9 h9 q9 => ?_) (fun Y h9' q9' => px_out rfl (by obtain ⟨rfl, rfl, -⟩ := q9'; exact Or.inr ⟨p, zN, hp, rfl, (fun j x hx => by cases hx), K1, FK1, Or.inl ⟨rfl, Or.inl (fun ⟨g2, e2, _⟩ => by cases hs.symm.trans e2)⟩⟩))
    exact q9.elim
  | some g' =>
    obtain ⟨rfl, eh2, hgb⟩ := q9.1 g' hs
    obtain ⟨K1, FK1⟩ := H.wOF FR.rfl' (t := 9) (i := 0) (g := g') rfl (by decide) hgb rfl
    replace K1 : W9 G h9 A (setO σ 9 0 g') := by rw [eh2]; exact K1
    replace FK1 : FR h h9 := by rw [eh2]; exact FK1
    have c9 : h9 (A 9 0) = some (aR tRel 6 (pa A g')) := K1.c9
    refine pw_callS1 (pc2 := 28) (c_reqC G h9 (A 8 0)) cs_X9_124 rfl dX9_publish_25 rfl (by omega) rfl (by first | decide | simp [cat_rf, Value.category]) ?_
    refine pw_astore_n (pc2 := 29) (L2 := [(3, Value.ref (A 8 0)), (2, Value.ref (A 20 p)), (0, Value.ref (A 0 0)), (1, Value.int (nI p))]) dX9_publish_28 rfl rfl (by decide) (by first | exact rf_ref _ | exact rf_opt _ | exact rf_nul) rfl ?_
    refine pw_aload_n (pc2 := 30) dX9_publish_29 rfl rfl 1 rfl (by first | exact rf_ref _ | exact rf_opt _ | exact rf_nul) ?_
    refine pw_aload_n (pc2 := 31) dX9_publish_30 rfl rfl 0 rfl (by first | exact rf_ref _ | exact rf_opt _ | exact rf_nul) ?_
    refine pw_callVb (pc2 := 34) (c_ppass G h9 K1 (p := p) hp ⟨K1.c8, c9⟩ hgb) cs_X9_235 rfl rfl (K1.c20 hp) dX9_publish_31 rfl (by omega) rfl (by first | decide | simp [cat_rf, Value.category]) (fun q31 => ?_) (fun q31 => ?_)
    · refine pw_if_ne (tgt := 47) (pc2 := 37) dX9_publish_34 (by decide) rfl (fun _ => ?_) (fun c34 => by exact absurd c34 (by decide))
      refine pw_aload_n (pc2 := 48) dX9_publish_47 rfl rfl 1 rfl (by first | exact rf_ref _ | exact rf_opt _ | exact rf_nul) ?_
      refine pw_callV1 (pc2 := 51) (c_pahead G h9 K1 (p := p) hp) cs_X9_239 rfl rfl (K1.c20 hp) dX9_publish_48 rfl (by omega) rfl (by first | decide | simp [cat_rf, Value.category]) ?_
      refine pw_topi (fun v1 ev1 => ?_)
      refine pw_istore (pc2 := 53) (L2 := [(4, Value.int v1), (3, Value.ref (A 8 0)), (2, Value.ref (A 20 p)), (0, Value.ref (A 0 0)), (1, Value.int (nI p))]) dX9_publish_51 rfl (by decide) rfl ?_
      refine pw_iload (pc2 := 55) dX9_publish_53 rfl 0 rfl ?_
      refine pw_sipush (pc2 := 58) (v := 999) dX9_publish_55 rfl (by decide) ?_
      refine pw_icmp_le (tgt := 71) (pc2 := 61) dX9_publish_58 (by decide) rfl (fun c58 => ?_) (fun c58 => ?_)
      · refine pw_aload_n (pc2 := 72) dX9_publish_71 rfl rfl 3 rfl (by first | exact rf_ref _ | exact rf_opt _ | exact rf_nul) ?_
        refine pw_get (pc2 := 75) kX9 (k := 2) (by decide) rfl fl_X9_19 K1.c0 rfl dX9_publish_72 rfl ?_
        refine pw_callV1 (pc2 := 78) (c_lsize G h9 K1.lr) cs_X9_44 rfl rfl K1.c5 dX9_publish_75 rfl (by omega) rfl (by first | decide | simp [cat_rf, Value.category]) ?_
        refine pw_bipush (pc2 := 80) (v := 20) dX9_publish_78 rfl (by decide) ?_
        refine pw_icmp_lt (tgt := 93) (pc2 := 83) dX9_publish_80 (by decide) rfl (fun c80 => ?_) (fun c80 => ?_)
        · have hnr : nrl σ < 20 := (nI_ltI (a := nrl σ) (b := 20) (by omega) (by omega)).mp c80
          obtain ⟨capA, gA, hlA, hA1, hA2⟩ := LI.ex (σ := (setO σ 9 0 g')) (K1.2.2.2.1.2.2.2 p hp) (show rnp σ p < 1000 by have := (H.iv.2.2.2.1 p hp).1; omega) K1.hd (K1.c34 (i := p) hp) (fun q => K1.c35 (i := p) ⟨hp, q⟩)
          obtain ⟨capB, gB, hlB, hB1, hB2⟩ := LI.ex (σ := (setO σ 9 0 g')) K1.2.2.2.1.2.2.1 (show nrl σ < 1000 by omega) K1.hd K1.c5 (fun q => K1.c6 q)
          have x0 : xt G h9 h9 [] [] := xt.rf (fun x hx => absurd hx List.not_mem_nil)
          refine pw_new (pc2 := 96) (fs := [.int 0, .int 0, .null, .null, .int 0]) kX5 cl_X9_251 wi_X5 wn_X5 (by decide +kernel) dX9_publish_93 rfl (fun q hq gq => ?_)
          obtain ⟨g2, eg2⟩ : ∃ z : Nat → Option hE, z = va_up h9 q (some (oB 8 [.int 0, .int 0, .null, .null, .int 0])) := ⟨_, rfl⟩
          refine PW.heap (h' := g2) eg2.symm ?_
          have f2_A00 : g2 (A 0 0) = some (oB 12 [.ref (A 1 0), .ref (A 3 0), .ref (A 5 0), .ref (A 7 0), .ref (A 13 0), .ref (A 14 0), .int (σ.1 0 0 0), .int (σ.1 0 0 1), .int (σ.1 0 0 2), .int (σ.1 0 0 3)]) := by rw [eg2]; exact (va_up_ne _ _ (ne_nw K1.c0 hq)).trans K1.c0
          have f2_A50 : g2 (A 5 0) = some (oB 2 [.int (σ.1 5 0 0), .ref (σ.2.1 5 0 0), .int (σ.1 5 0 1)]) := by rw [eg2]; exact (va_up_ne _ _ (ne_nw K1.c5 hq)).trans K1.c5
          have f2_A80 : g2 (A 8 0) = some (oB 4 [.ref (A 9 0)]) := by rw [eg2]; exact (va_up_ne _ _ (ne_nw K1.c8 hq)).trans K1.c8
          have f2_A20p : g2 (A 20 p) = some (oB 7 [.int (σ.1 20 p 0), .ref (A 21 p), .ref (A 25 p), .ref (A 27 p), .ref (A 34 p)]) := by rw [eg2]; exact (va_up_ne _ _ (ne_nw (K1.c20 hp) hq)).trans (K1.c20 hp)
          have f2_A21p : g2 (A 21 p) = some (oB 9 [.int (σ.1 21 p 0), .int (σ.1 21 p 1), .ref (A 22 p)]) := by rw [eg2]; exact (va_up_ne _ _ (ne_nw (K1.c21 hp) hq)).trans (K1.c21 hp)
          have f2_A22p : g2 (A 22 p) = some (oB 6 [.ref (A 23 p), .ref (A 24 p)]) := by rw [eg2]; exact (va_up_ne _ _ (ne_nw (K1.c22 hp) hq)).trans (K1.c22 hp)
          have f2_A23p : g2 (A 23 p) = some (aI 6 (σ.1 23 p)) := by rw [eg2]; exact (va_up_ne _ _ (ne_nw (K1.c23 hp) hq)).trans (K1.c23 hp)
          have f2_A24p : g2 (A 24 p) = some (aI 6 (σ.1 24 p)) := by rw [eg2]; exact (va_up_ne _ _ (ne_nw (K1.c24 hp) hq)).trans (K1.c24 hp)
          have f2_A34p : g2 (A 34 p) = some (oB 2 [.int (σ.1 34 p 0), .ref (σ.2.1 34 p 0), .int (σ.1 34 p 1)]) := by rw [eg2]; exact (va_up_ne _ _ (ne_nw (K1.c34 hp) hq)).trans (K1.c34 hp)
          have f2_A90 : g2 (A 9 0) = some (aR tRel 6 (pa A g')) := by rw [eg2]; exact (va_up_ne _ _ (ne_nw c9 hq)).trans c9
          have f2_q : g2 q = some (oB 8 [.int 0, .int 0, .null, .null, .int 0]) := by rw [eg2]; exact va_up_self _ _ _
          have x2 : xt G h9 g2 [q] [] := by rw [eg2]; exact x0.new hq gq
          refine pw_dup (pc2 := 97) dX9_publish_96 rfl (by first | rfl | exact cat_rf _) ?_
          refine pw_iload (pc2 := 99) dX9_publish_97 rfl 0 rfl ?_
          refine pw_aload_n (pc2 := 100) dX9_publish_99 rfl rfl 2 rfl (by first | exact rf_ref _ | exact rf_opt _ | exact rf_nul) ?_
          refine pw_getN (pc2 := 103) kX4 (k := 1) (by decide) rfl fl_X9_67 f2_A20p rfl dX9_publish_100 rfl ?_
          refine pw_aload_n (pc2 := 104) dX9_publish_103 rfl rfl 1 rfl (by first | exact rf_ref _ | exact rf_opt _ | exact rf_nul) ?_
          refine pw_callI (pc2 := 107) (c_rinit G _ f2_q v1 ⟨f2_A21p, f2_A22p, f2_A23p, f2_A24p, hne23⟩ ⟨f2_A80, f2_A90⟩ (T := TT A (setO σ 9 0 g')) (fun k hk r hr => x2.keep (K1.pk (g := g') hgb k hk r hr) List.not_mem_nil)) cs_X9_253 rfl rfl rfl dX9_publish_104 rfl (by omega) rfl (by first | decide | simp [cat_rf, Value.category]) (fun r9 h6 q6 => ?_) (fun Y h9 q9 => q9.elim)
          obtain ⟨rfl, na, aa, ab, lk, lp, y3, z3⟩ := q6
          generalize h6 = g3 at *
          have f3_A00 : g3 (A 0 0) = some (oB 12 [.ref (A 1 0), .ref (A 3 0), .ref (A 5 0), .ref (A 7 0), .ref (A 13 0), .ref (A 14 0), .int (σ.1 0 0 0), .int (σ.1 0 0 1), .int (σ.1 0 0 2), .int (σ.1 0 0 3)]) := y3.keep1 f2_A00 (ne_nw K1.c0 hq)
          have f3_A50 : g3 (A 5 0) = some (oB 2 [.int (σ.1 5 0 0), .ref (σ.2.1 5 0 0), .int (σ.1 5 0 1)]) := y3.keep1 f2_A50 (ne_nw K1.c5 hq)
          have f3_A80 : g3 (A 8 0) = some (oB 4 [.ref (A 9 0)]) := y3.keep1 f2_A80 (ne_nw K1.c8 hq)
          have f3_A20p : g3 (A 20 p) = some (oB 7 [.int (σ.1 20 p 0), .ref (A 21 p), .ref (A 25 p), .ref (A 27 p), .ref (A 34 p)]) := y3.keep1 f2_A20p (ne_nw (K1.c20 hp) hq)
          have f3_A21p : g3 (A 21 p) = some (oB 9 [.int (σ.1 21 p 0), .int (σ.1 21 p 1), .ref (A 22 p)]) := y3.keep1 f2_A21p (ne_nw (K1.c21 hp) hq)
          have f3_A22p : g3 (A 22 p) = some (oB 6 [.ref (A 23 p), .ref (A 24 p)]) := y3.keep1 f2_A22p (ne_nw (K1.c22 hp) hq)
          have f3_A23p : g3 (A 23 p) = some (aI 6 (σ.1 23 p)) := y3.keep1 f2_A23p (ne_nw (K1.c23 hp) hq)
          have f3_A24p : g3 (A 24 p) = some (aI 6 (σ.1 24 p)) := y3.keep1 f2_A24p (ne_nw (K1.c24 hp) hq)
          have f3_A34p : g3 (A 34 p) = some (oB 2 [.int (σ.1 34 p 0), .ref (σ.2.1 34 p 0), .int (σ.1 34 p 1)]) := y3.keep1 f2_A34p (ne_nw (K1.c34 hp) hq)
          have f3_A90 : g3 (A 9 0) = some (aR tRel 6 (pa A g')) := y3.keep1 f2_A90 (ne_nw c9 hq)
          have x3 : xt G h9 g3 [q, na, aa, ab, lk, lp] [] := x2.call y3 (by simp)
          refine pw_astore (pc2 := 109) (L2 := [(5, Value.ref q), (4, Value.int v1), (3, Value.ref (A 8 0)), (2, Value.ref (A 20 p)), (0, Value.ref (A 0 0)), (1, Value.int (nI p))]) dX9_publish_107 rfl (by decide) (by first | exact rf_ref _ | exact rf_opt _ | exact rf_nul) rfl ?_
          refine pw_aload_n (pc2 := 110) dX9_publish_109 rfl rfl 3 rfl (by first | exact rf_ref _ | exact rf_opt _ | exact rf_nul) ?_
          refine pw_getN (pc2 := 113) kX4 (k := 4) (by decide) rfl fl_X9_256 f3_A20p rfl dX9_publish_110 rfl ?_
          refine pw_aload (pc2 := 115) dX9_publish_113 rfl 0 rfl (by first | exact rf_ref _ | exact rf_opt _ | exact rf_nul) ?_
          refine pw_callV (pc2 := 118) (c_laddE G g3 (hlA.kp x3) (cj := 8) rfl ca_PackageForge_Release__Object z3.1 (by decide) (fun i hi => ⟨_, x3.keep (K1.c40 (i := ixp σ p i) (H.ixl hp hi)) List.not_mem_nil⟩) (lok_of (A := A) (σ := (setO σ 9 0 g')) hlA hA1 hA2 (x3.keep K1.hd List.not_mem_nil) (show rnp σ p ≤ 19 by have := (H.iv.2.2.2.1 p hp).1; omega))) cs_X9_59 rfl rfl f3_A34p dX9_publish_115 rfl (by omega) rfl (by first | decide | simp [cat_rf, Value.category]) (fun r9 h7 q7 => ?_) (fun Y h9 q9 => q9.elim)
          obtain ⟨rfl, e2, cap2, gx, hk2, hl2, hs2⟩ := q7
          obtain ⟨hl5, hob, hd7⟩ := rel_l3 K1 (p := p) hp x3 hk2 (fun z => (hA1 z).1) (fun z => (hA2 z).1) hs2 hlB (fun z => (hB1 z).2) (fun z => (hB2 z).1) rfl
          have hq7 := hob _ _ _ z3.1 (by decide)
          have c07 := hob _ _ _ f3_A00 (by decide)
          refine pw_pop (pc2 := 119) dX9_publish_118 rfl (by first | rfl | exact cat_rf _) ?_
          refine pw_aload_n (pc2 := 120) dX9_publish_119 rfl rfl 4 rfl (by first | exact rf_ref _ | exact rf_opt _ | exact rf_nul) ?_
          refine pw_get (pc2 := 123) kX9 (k := 2) (by decide) rfl fl_X9_19 c07 rfl dX9_publish_120 rfl ?_
          refine pw_aload (pc2 := 125) dX9_publish_123 rfl 0 rfl (by first | exact rf_ref _ | exact rf_opt _ | exact rf_nul) ?_
          refine pw_callV (pc2 := 128) (c_laddE G h7 hl5 (cj := 8) rfl ca_PackageForge_Release__Object hq7 (by decide) (fun i hi => ⟨_, hob _ _ _ (x3.keep (K1.c40 (i := i) hi) List.not_mem_nil) (by decide)⟩) (lok_of (A := A) (σ := (setO σ 9 0 g')) hlB hB1 hB2 hd7 (show nrl σ ≤ 19 by omega))) cs_X9_59 rfl rfl hl5.1 dX9_publish_125 rfl (by omega) rfl (by first | decide | simp [cat_rf, Value.category]) (fun r9 h5 q5 => ?_) (fun Y h9 q9 => q9.elim)
          obtain ⟨rfl, e3, cap3, gy, hk3, hl3, hs3⟩ := q5
          have hLl : ∀ t, t ≤ 45 → t - 40 < ([q, na, aa, ab, lk, lp] : List Nat).length := fun t ht => by simp only [List.length_cons, List.length_nil]; omega
          have hcx : ∀ t, 40 ≤ t → t ≤ 45 → g3 (nwf [q, na, aa, ab, lk, lp] 40 t) = some (CB (fun u j => if u = 40 then A 40 j else nwf [q, na, aa, ab, lk, lp] 40 u) (rlC v1 (σ.1 21 p 0) (σ.1 23 p) (σ.1 24 p) t) (fun _ => 0) (if t = 45 then g' else zN) t 0) := by
            intro t t1 t2
            have ht : t = 40 ∨ t = 41 ∨ t = 42 ∨ t = 43 ∨ t = 44 ∨ t = 45 := by omega
            rcases ht with rfl | rfl | rfl | rfl | rfl | rfl
            · exact z3.1
            · exact z3.2.1.1
            · exact z3.2.1.2.1
            · exact z3.2.1.2.2.1
            · exact z3.2.2.1
            · exact z3.2.2.2
          have KK := K1.gR (p := p) hp (show nrl σ < 20 from hnr) (g' := g') hgb (nw := nwf [q, na, aa, ab, lk, lp] 40) (fun t t1 t2 => x3.nw1 (hLl t t2)) (fun t u t1 t2 u1 u2 e => x3.nw2 t1 u1 (hLl t t2) (hLl u u2) e) (fun y c hy => x3.keep hy List.not_mem_nil) (fun y hy => ⟨(x3.nw4 hy).1, fun t _ t2 => (x3.nw4 hy).2 40 t (hLl t t2)⟩) hcx hl2 hs2 hk2 (fun z => (hA1 z).1) (fun z => ⟨(hA2 z).1, (hA2 z).2.2.2⟩) hl3 hs3 hk3 (fun z => (hB1 z).1) (fun z => ⟨(hB2 z).1, (hB2 z).2.2.2⟩)
          refine pw_pop (pc2 := 129) dX9_publish_128 rfl (by first | rfl | exact cat_rf _) ?_
          refine pw_iload (pc2 := 131) dX9_publish_129 rfl 1 rfl ?_
          refine pw_iret dX9_publish_131 rfl (by first | rfl | assumption | simp [narrow]) ?_
          obtain rfl := ev1
          exact ⟨p, g', hp, rfl, hs, hgb, q31, c58, hnr, rfl, _, e2, cap2, e3, cap3, gx, gy, _, _, KK.1, FK1.tr KK.2⟩
        · exact pw_throw rfl ts_249 dX9_publish_83 dX9_publish_86 dX9_publish_87 dX9_publish_89 dX9_publish_92 (by first | decide | simp [cat_rf, Value.category]) (by exact Or.inr ⟨p, g', hp, rfl, hgb, K1, FK1, Or.inr ⟨rfl, ⟨g', hs, q31⟩, ev1 ▸ c58, Nat.le_antisymm hnr20 (Nat.not_lt.mp (fun z => c80 ((nI_ltI (a := nrl σ) (b := 20) (by omega) (by omega)).mpr z)))⟩⟩)
      · exact pw_throw rfl ts_247 dX9_publish_61 dX9_publish_64 dX9_publish_65 dX9_publish_67 dX9_publish_70 (by first | decide | simp [cat_rf, Value.category]) (by exact Or.inr ⟨p, g', hp, rfl, hgb, K1, FK1, Or.inl ⟨rfl, Or.inr (ev1 ▸ Int32.not_le.mp c58)⟩⟩)
    · refine pw_if_ne (tgt := 47) (pc2 := 37) dX9_publish_34 (by decide) rfl (fun c34 => by exact absurd (by decide) c34) (fun _ => ?_)
      exact pw_throw rfl ts_244 dX9_publish_37 dX9_publish_40 dX9_publish_41 dX9_publish_43 dX9_publish_46 (by first | decide | simp [cat_rf, Value.category]) (by exact Or.inr ⟨p, g', hp, rfl, hgb, K1, FK1, Or.inl ⟨rfl, Or.inl (fun ⟨g2, e2, z2⟩ => by cases hs.symm.trans e2; exact q31 z2)⟩⟩)
