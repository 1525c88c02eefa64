/-! PackageForge: addPackage -/
theorem getD_mem : ∀ (L : List Nat) (k : Nat), k < L.length → (L[k]?).getD 0 ∈ L := by
  intro L k hk
  rw [List.getElem?_eq_getElem hk]
  exact List.getElem_mem hk
theorem getD_inj : ∀ (L : List Nat), L.Nodup → ∀ a b, a < L.length → b < L.length → (L[a]?).getD 0 = (L[b]?).getD 0 → a = b
  | [], _, a, b, ha, _, _ => absurd ha (Nat.not_lt_zero a)
  | x :: L, hN, 0, 0, _, _, _ => rfl
  | x :: L, hN, 0, b + 1, _, hb, e => by
    have hm := getD_mem L b (by simpa using hb)
    have e2 : x = (L[b]?).getD 0 := by simpa using e
    rw [← e2] at hm
    exact absurd hm (List.nodup_cons.mp hN).1
  | x :: L, hN, a + 1, 0, ha, _, e => by
    have hm := getD_mem L a (by simpa using ha)
    have e2 : (L[a]?).getD 0 = x := by simpa using e
    rw [e2] at hm
    exact absurd hm (List.nodup_cons.mp hN).1
  | x :: L, hN, a + 1, b + 1, ha, hb, e => by
    have := getD_inj L (List.nodup_cons.mp hN).2 a b (by simpa using ha) (by simpa using hb) (by simpa using e)
    omega
def nwf (L : List Nat) (lo t : Nat) : Nat := (L[t - lo]?).getD 0
theorem xt.nw1 {G : hG} {h h1 : hp} {L : List Nat} (x : xt G h h1 L []) {lo t : Nat} (ht : t - lo < L.length) : h (nwf L lo t) = none ∧ nwf L lo t ≠ G.2.2 := x.2.1 _ (getD_mem L _ ht)
theorem xt.nw2 {G : hG} {h h1 : hp} {L : List Nat} (x : xt G h h1 L []) {lo t u : Nat} (h1' : lo ≤ t) (h2' : lo ≤ u) (ht : t - lo < L.length) (hu : u - lo < L.length) (e : nwf L lo t = nwf L lo u) : t = u := by
  have := getD_inj L x.1 _ _ ht hu e
  omega
theorem xt.nw4 {G : hG} {h h1 : hp} {L : List Nat} (x : xt G h h1 L []) {y : Nat} (hy : h1 y = none) : h y = none ∧ ∀ (lo t : Nat), t - lo < L.length → y ≠ nwf L lo t := by
  have hn : y ∉ ([] : List Nat) ++ L := fun z => x.2.2.2 y z hy
  exact ⟨(x.2.2.1 y hn) ▸ hy, fun lo t ht e => hn (by rw [e]; exact getD_mem L _ ht)⟩
set_option maxHeartbeats 4000000 in
set_option maxRecDepth 100000 in
theorem c_addPack (G : hG) (h : hp) {A : aT} {σ : sT} (H : W9 G h A σ) (o : Int32) : PMet G MX9_addPackage 7 17 108 [.ref (A 0 0), .int o] h (fun r h2 => (0 ≤ o ∧ o < 3) ∧ npk σ < 6 ∧ r = some (.int (nI (npk σ))) ∧ ∃ nw e2 cap2 mc g2, W9 G h2 (pkA A σ nw e2) (pkS G σ o mc e2 cap2 g2) ∧ FR h h2) (fun C h2 => h2 = h ∧ ((C = xIA ∧ ¬ (0 ≤ o ∧ o < 3)) ∨ (C = xIS ∧ (0 ≤ o ∧ o < 3) ∧ npk σ = 6))) := by
  have hnp := H.iv.1
  refine PMet.of (by decide +kernel) (Nat.le_of_ble_eq_true rfl) (fun d hd => ?_)
  refine PW.sub (L2 := [(0, Value.ref (A 0 0)), (1, Value.int o)]) [0, 1] rfl ?_
  refine pw_iload_n (pc2 := 1) dX9_addPackage_0 rfl rfl 1 rfl ?_
  refine pw_callS (pc2 := 4) (c_chkO G _ o) cs_X9_40 rfl dX9_addPackage_1 rfl (by omega) rfl (by first | decide | simp [cat_rf, Value.category]) (fun r9 h9 q9 => ?_) (fun Y h9 q9 => px_out rfl (⟨q9.2.1, Or.inl ⟨q9.1, q9.2.2⟩⟩))
  obtain ⟨rfl, rfl, hown⟩ := q9
  refine pw_aload_n (pc2 := 5) dX9_addPackage_4 rfl rfl 0 rfl (by first | exact rf_ref _ | exact rf_opt _ | exact rf_nul) ?_
  refine pw_get (pc2 := 8) kX9 (k := 0) (by decide) rfl fl_X9_10 H.c0 rfl dX9_addPackage_5 rfl ?_
  refine pw_callV1 (pc2 := 11) (c_lsize G _ H.lp) cs_X9_44 rfl rfl H.c1 dX9_addPackage_8 rfl (by omega) rfl (by first | decide | simp [cat_rf, Value.category]) ?_
  refine pw_bipush (pc2 := 13) (v := 6) dX9_addPackage_11 rfl (by decide) ?_
  refine pw_icmp_lt (tgt := 26) (pc2 := 16) dX9_addPackage_13 (by decide) rfl (fun c13 => ?_) (fun c13 => ?_)
  · have hnt : npk σ < 6 := (nI_ltI (a := npk σ) (b := 6) (by omega) (by omega)).mp c13
    obtain ⟨cap, g, hl, hz1, hz2⟩ := LI.ex H.2.2.2.1.1 (by omega) H.hd H.c1 (fun q => H.c2 q)
    have x0 : xt G h h [] [] := xt.rf (fun x hx => absurd hx List.not_mem_nil)
    refine pw_aload_n (pc2 := 27) dX9_addPackage_26 rfl rfl 0 rfl (by first | exact rf_ref _ | exact rf_opt _ | exact rf_nul) ?_
    refine pw_get (pc2 := 30) kX9 (k := 0) (by decide) rfl fl_X9_10 H.c0 rfl dX9_addPackage_27 rfl ?_
    refine pw_new (pc2 := 33) (fs := [.int 0, .null, .null, .null, .null]) kX4 cl_X9_55 wi_X4 wn_X4 (by decide +kernel) dX9_addPackage_30 rfl (fun q hq gq => ?_)
    obtain ⟨g1, eg1⟩ : ∃ z : hp, z = va_up h q (some (oB 7 [.int 0, .null, .null, .null, .null])) := ⟨_, rfl⟩
    refine PW.heap (h' := g1) eg1.symm ?_
    have f1_A00 : g1 (A 0 0) = some (oB 12 [.ref (A 1 0), .ref (A 3 0), .ref (A 5 0), .ref (A 7 0), .ref (A 13 0), .ref (A 14 0), .int (σ.1 0 0 0), .int (σ.1 0 0 1), .int (σ.1 0 0 2), .int (σ.1 0 0 3)]) := by rw [eg1]; exact (va_up_ne _ _ (ne_nw H.c0 hq)).trans H.c0
    have f1_A10 : g1 (A 1 0) = some (oB 2 [.int (σ.1 1 0 0), .ref (σ.2.1 1 0 0), .int (σ.1 1 0 1)]) := by rw [eg1]; exact (va_up_ne _ _ (ne_nw H.c1 hq)).trans H.c1
    have f1_q : g1 q = some (oB 7 [.int 0, .null, .null, .null, .null]) := by rw [eg1]; exact va_up_self _ _ _
    have x1 : xt G h g1 [q] [] := by rw [eg1]; exact x0.new hq gq
    refine pw_dup (pc2 := 34) dX9_addPackage_33 rfl (by first | rfl | exact cat_rf _) ?_
    refine pw_iload_n (pc2 := 35) dX9_addPackage_34 rfl rfl 1 rfl ?_
    refine pw_callI (pc2 := 38) (c_pinit G _ f1_q o) cs_X9_57 rfl rfl rfl dX9_addPackage_35 rfl (by omega) rfl (by first | decide | simp [cat_rf, Value.category]) (fun r9 h9 q9 => ?_) (fun Y h9 q9 => q9.elim)
    obtain ⟨rfl, s, nd, a, b, bu, nf, tr, ts, tnd, ta, tb, tc, tp, rl, y2, z2⟩ := q9
    generalize h9 = g2 at *
    have f2_A00 : g2 (A 0 0) = some (oB 12 [.ref (A 1 0), .ref (A 3 0), .ref (A 5 0), .ref (A 7 0), .ref (A 13 0), .ref (A 14 0), .int (σ.1 0 0 0), .int (σ.1 0 0 1), .int (σ.1 0 0 2), .int (σ.1 0 0 3)]) := y2.keep1 f1_A00 (ne_nw H.c0 hq)
    have f2_A10 : g2 (A 1 0) = some (oB 2 [.int (σ.1 1 0 0), .ref (σ.2.1 1 0 0), .int (σ.1 1 0 1)]) := y2.keep1 f1_A10 (ne_nw H.c1 hq)
    have x2 : xt G h g2 [q, s, nd, a, b, bu, nf, tr, ts, tnd, ta, tb, tc, tp, rl] [] := x1.call y2 (by simp)
    refine pw_callV (pc2 := 41) (c_laddE G g2 (hl.kp x2) (cj := 7) rfl ca_PackageForge_Pack__Object z2.1 (by decide) (fun i hi => ⟨_, x2.keep (H.c20 hi) List.not_mem_nil⟩) (lok_of (A := A) (σ := σ) hl hz1 hz2 (x2.keep H.hd List.not_mem_nil) (by omega))) cs_X9_59 rfl rfl f2_A10 dX9_addPackage_38 rfl (by omega) rfl (by first | decide | simp [cat_rf, Value.category]) (fun r9 h9 q9 => ?_) (fun Y h9 q9 => q9.elim)
    obtain ⟨rfl, e2, cap2, gx, hk, hl2, hs⟩ := q9
    have hLl : ∀ t, t ≤ 34 → t - 20 < ([q, s, nd, a, b, bu, nf, tr, ts, tnd, ta, tb, tc, tp, rl] : List Nat).length := fun t ht => by simp only [List.length_cons, List.length_nil]; omega
    have hcx : ∀ t, 20 ≤ t → t ≤ 34 → g2 (nwf [q, s, nd, a, b, bu, nf, tr, ts, tnd, ta, tb, tc, tp, rl] 20 t) = some (CB (fun u _ => nwf [q, s, nd, a, b, bu, nf, tr, ts, tnd, ta, tb, tc, tp, rl] 20 u) (if t = 20 then (fun _ => o) else z0) (fun _ => G.2.2) zN t 0) := by
      intro t t1 t2
      have ht : t = 20 ∨ t = 21 ∨ t = 22 ∨ t = 23 ∨ t = 24 ∨ t = 25 ∨ t = 26 ∨ t = 27 ∨ t = 28 ∨ t = 29 ∨ t = 30 ∨ t = 31 ∨ t = 32 ∨ t = 33 ∨ t = 34 := by omega
      rcases ht with rfl | rfl | rfl | rfl | rfl | rfl | rfl | rfl | rfl | rfl | rfl | rfl | rfl | rfl | rfl
      · exact z2.1
      · exact z2.2.1.1
      · exact z2.2.1.2.1
      · exact z2.2.1.2.2.1
      · exact z2.2.1.2.2.2.1
      · exact z2.2.2.1.1
      · exact z2.2.2.1.2
      · exact z2.2.2.2.1.1
      · exact z2.2.2.2.1.2.1.1
      · exact z2.2.2.2.1.2.1.2.1
      · exact z2.2.2.2.1.2.1.2.2.1
      · exact z2.2.2.2.1.2.1.2.2.2.1
      · exact z2.2.2.2.1.2.2.1
      · exact z2.2.2.2.1.2.2.2
      · exact z2.2.2.2.2
    have KK := H.gP hnt (nw := nwf [q, s, nd, a, b, bu, nf, tr, ts, tnd, ta, tb, tc, tp, rl] 20) (fun t t1 t2 => x2.nw1 (hLl t t2)) (fun t u t1 t2 u1 u2 e => x2.nw2 t1 u1 (hLl t t2) (hLl u u2) e) (fun y c hy => x2.keep hy List.not_mem_nil) (fun y hy => ⟨(x2.nw4 hy).1, fun t _ t2 => (x2.nw4 hy).2 20 t (hLl t t2)⟩) hcx hl2 hs hk (fun z => (hz1 z).1) (fun z => ⟨(hz2 z).1, (hz2 z).2.2.2⟩)
    have c0' : h9 (A 0 0) = some (oB 12 [.ref (A 1 0), .ref (A 3 0), .ref (A 5 0), .ref (A 7 0), .ref (A 13 0), .ref (A 14 0), .int (σ.1 0 0 0), .int (σ.1 0 0 1), .int (σ.1 0 0 2), .int (σ.1 0 0 3)]) := KK.1.c0
    refine pw_pop (pc2 := 42) dX9_addPackage_41 rfl (by first | rfl | exact cat_rf _) ?_
    refine pw_aload_n (pc2 := 43) dX9_addPackage_42 rfl rfl 0 rfl (by first | exact rf_ref _ | exact rf_opt _ | exact rf_nul) ?_
    refine pw_get (pc2 := 46) kX9 (k := 0) (by decide) rfl fl_X9_10 c0' rfl dX9_addPackage_43 rfl ?_
    refine pw_callV1 (pc2 := 49) (c_lsize G _ hl2.L) cs_X9_44 rfl rfl hl2.1 dX9_addPackage_46 rfl (by omega) rfl (by first | decide | simp [cat_rf, Value.category]) ?_
    refine pw_iconst (pc2 := 50) (v := 1) dX9_addPackage_49 rfl (by decide) ?_
    refine pw_isub (pc2 := 51) dX9_addPackage_50 rfl ?_
    refine pw_topE (nI_sub1 (by omega)) ?_
    refine pw_iret dX9_addPackage_51 rfl (by first | rfl | assumption | simp [narrow]) ?_
    exact ⟨hown, hnt, by rw [Nat.add_sub_cancel], _, e2, cap2, _, gx, KK.1, KK.2⟩
  · exact pw_throw rfl ts_50 dX9_addPackage_16 dX9_addPackage_19 dX9_addPackage_20 dX9_addPackage_22 dX9_addPackage_25 (by first | decide | simp [cat_rf, Value.category]) (by exact ⟨rfl, Or.inr ⟨rfl, hown, Nat.le_antisymm hnp (Nat.not_lt.mp (fun z => c13 ((nI_ltI (a := npk σ) (b := 6) (by omega) (by omega)).mpr z)))⟩⟩)
