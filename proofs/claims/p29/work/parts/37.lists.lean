/-! lists: adding -/
theorem sf_mod : Cond.sameField RJx4a65c (TJx4a65c 0).1 (TJx4a65c 0).2.1 (TJx4a65c 0).2.2.1 ∈ gws := gws_of 74 (by decide +kernel) rfl
theorem gc_1 : Cond.methodLink RJ7 86 getClassN ∈ gws := gws_of 398 (by decide +kernel) rfl
theorem gc_2 : Cond.declares getClassN ∈ nws := nws_of 1003 (by decide +kernel) rfl
theorem gc_3 : Cond.selects "[Ljava/lang/Object;" getClassN getClassN ∈ gws := gws_of 1002 (by decide +kernel) rfl
theorem gc_4 : Cond.instanceMethod getClassN ∈ gws := gws_of 399 (by decide +kernel) rfl
theorem gc_5 : Cond.native getClassN ∈ gws := gws_of 419 (by decide +kernel) rfl
theorem ac_1 : Cond.methodLink RJ7 150 arraycopyName ∈ gws := gws_of 429 (by decide +kernel) rfl
theorem ac_2 : Cond.native arraycopyName ∈ gws := gws_of 431 (by decide +kernel) rfl
theorem ac_3 : Cond.static arraycopyName ∈ gws := gws_of 430 (by decide +kernel) rfl
theorem ac_4 : Cond.initialized "java/lang/System" ∈ gws := gws_of 38 (by decide +kernel) rfl
/-- the list at l, its row at ed of cap places, n of them taken -/
abbrev isLx (h : hp) (l ed cap n : Nat) (mc : Int32) (f : Nat → Nat) (g : Nat → Option Nat) : Prop := h l = some (oB 2 [.int mc, .ref ed, .int (nI n)]) ∧ h ed = some (aR tObj cap g) ∧ n ≤ cap ∧ cap < 1000 ∧ ∀ i, i < n → g i = some (f i)
theorem isLx.L {G : hG} {h : hp} {l ed cap n : Nat} {mc : Int32} {f : Nat → Nat} {g : Nat → Option Nat} (H : isLx h l ed cap n mc f g) : isL G h l n f := ⟨mc, ed, cap, g, H⟩
def eC (c : Nat) : Prop := c = 10 ∨ c = 15 ∨ c = 22
/-- the row behind: the same one, or a new one -/
def eOK (G : hG) (h : hp) (ed n cap e2 cap2 : Nat) : Prop := (e2 = ed ∧ cap2 = cap ∧ n < cap) ∨ ((h e2 = none ∧ e2 ≠ G.2.2) ∧ eC cap2)
def QA3 (G : hG) (h : hp) (l ed cap n q : Nat) (mc : Int32) (f : Nat → Nat) : Option Value → hp → Prop := fun r h' => r = none ∧ ∃ (e2 cap2 : Nat) (g2 : Nat → Option Nat), eOK G h ed n cap e2 cap2 ∧ h' = va_up (va_up h e2 (some (aR tObj cap2 (va_up g2 n (some q))))) l (some (oB 2 [.int mc, .ref e2, .int (nI (n + 1))])) ∧ n < cap2 ∧ cap2 < 1000 ∧ ∀ i, i < n → g2 i = some (f i)
def QGr (G : hG) (h : hp) (l n : Nat) (mc : Int32) (f : Nat → Nat) : Option Value → hp → Prop := fun r h' => ∃ (e2 cap2 : Nat) (g2 : Nat → Option Nat), r = some (.ref e2) ∧ ((h e2 = none ∧ e2 ≠ G.2.2) ∧ eC cap2) ∧ h' = va_up (va_up h e2 (some (aR tObj cap2 g2))) l (some (oB 2 [.int mc, .ref e2, .int (nI n)])) ∧ n < cap2 ∧ cap2 < 1000 ∧ ∀ i, i < n → g2 i = some (f i)
def upN (f : Nat → Nat) (n q : Nat) : Nat → Nat := fun i => if i = n then q else f i
/-- what adding leaves -/
def QAdd (G : hG) (h : hp) (l ed cap n q : Nat) (mc : Int32) (f : Nat → Nat) : Option Value → hp → Prop := fun r h' => r = some (.int 1) ∧ ∃ (e2 cap2 : Nat) (g2 : Nat → Option Nat), eOK G h ed n cap e2 cap2 ∧ isLx h' l e2 cap2 (n + 1) (mc + 1) (upN f n q) g2 ∧ sm h h' [l, e2]
set_option maxHeartbeats 4000000 in
set_option maxRecDepth 100000 in
theorem c_ladd3a (G : hG) (h : hp) {l ed cap n q : Nat} {mc : Int32} {f : Nat → Nat} {g : Nat → Option Nat} (hl : isLx h l ed cap n mc f g) {cj N2 : Nat} {C2 : String} {T2 : u_T} {gs : List Value} (hcl : vwCl[cj]? = some (C2, T2, N2)) (hca : Cond.castable C2 "java/lang/Object" ∈ nws) (hq : h q = some (.inr (cj, gs))) (hcap : n < cap) : PMet G MJx4a65c_add_72be8 5 1 40 [.ref l, .ref q, .ref ed, .int (nI n)] h (QA3 G h l ed cap n q mc f) noX := by
  have hl3 := hl.2.2.1
  have hl4 := hl.2.2.2.1
  refine PMet.of (by decide +kernel) (Nat.le_of_ble_eq_true rfl) (fun d hd => ?_)
  refine PW.sub (L2 := [(0, Value.ref l), (1, Value.ref q), (2, Value.ref ed), (3, Value.int (nI n))]) [0, 1, 2, 3] rfl ?_
  refine pw_iload_n (pc2 := 1) dJx4a65c_add_72be8_0 rfl rfl 3 rfl ?_
  refine pw_aload_n (pc2 := 2) dJx4a65c_add_72be8_1 rfl rfl 2 rfl (by first | exact rf_ref _ | exact rf_opt _ | exact rf_nul) ?_
  refine pw_alen (pc2 := 3) 5 rfl hl.2.1 rfl dJx4a65c_add_72be8_2 rfl ?_
  refine pw_icmp_ne (tgt := 11) (pc2 := 6) dJx4a65c_add_72be8_3 (by decide) rfl (fun _ => ?_) (fun c3 => by exact absurd c3 ((fun q9 => absurd ((nI_eq (a := n) (b := cap) (by omega) (by omega)).mp q9) (by omega))))
  refine pw_aload_n (pc2 := 12) dJx4a65c_add_72be8_11 rfl rfl 2 rfl (by first | exact rf_ref _ | exact rf_opt _ | exact rf_nul) ?_
  refine pw_iload_n (pc2 := 13) dJx4a65c_add_72be8_12 rfl rfl 3 rfl ?_
  refine pw_aload_n (pc2 := 14) dJx4a65c_add_72be8_13 rfl rfl 1 rfl (by first | exact rf_ref _ | exact rf_opt _ | exact rf_nul) ?_
  refine pw_aastON (pc2 := 15) 5 rfl hcl hca hl.2.1 hq (i := n) (by omega) (by omega) dJx4a65c_add_72be8_14 rfl ?_
  refine pw_aload_n (pc2 := 16) dJx4a65c_add_72be8_15 rfl rfl 0 rfl (by first | exact rf_ref _ | exact rf_opt _ | exact rf_nul) ?_
  refine pw_iload_n (pc2 := 17) dJx4a65c_add_72be8_16 rfl rfl 3 rfl ?_
  refine pw_iconst (pc2 := 18) (v := 1) dJx4a65c_add_72be8_17 rfl (by decide) ?_
  refine pw_iadd (pc2 := 19) dJx4a65c_add_72be8_18 rfl ?_
  refine pw_topE (nI_1 _) ?_
  refine pw_put (pc2 := 22) kJx4a65c (k := 2) (by decide) rfl rfl fl_Jx4a65c_48 ((va_up_ne _ _ (ne_oa hl.1 hl.2.1)).trans hl.1) (by first | decide | simp) (by first | rfl | exact nar_rf _ _) (by first | rfl | exact fit_rf _ _) dJx4a65c_add_72be8_19 rfl ?_
  refine pw_vret dJx4a65c_add_72be8_22 rfl ?_
  exact ⟨rfl, ed, cap, g, Or.inl ⟨rfl, rfl, hcap⟩, rfl, hcap, hl.2.2.2.1, hl.2.2.2.2⟩
set_option maxHeartbeats 4000000 in
set_option maxRecDepth 100000 in
theorem c_ladd3b (G : hG) (h : hp) {l ed cap n q : Nat} {mc : Int32} {f : Nat → Nat} {g : Nat → Option Nat} (hl : isLx h l ed cap n mc f g) {cj N2 : Nat} {C2 : String} {T2 : u_T} {gs : List Value} (hcl : vwCl[cj]? = some (C2, T2, N2)) (hca : Cond.castable C2 "java/lang/Object" ∈ nws) (hq : h q = some (.inr (cj, gs))) (hcap : cap = n) (hql : q ≠ l) (hg : PMet G MJx4a65c_grow_d5877 4 1 40 [.ref l] h (QGr G h l n mc f) noX) : PMet G MJx4a65c_add_72be8 5 1 40 [.ref l, .ref q, .ref ed, .int (nI n)] h (QA3 G h l ed cap n q mc f) noX := by
  have hl3 := hl.2.2.1
  have hl4 := hl.2.2.2.1
  refine PMet.of (by decide +kernel) (Nat.le_of_ble_eq_true rfl) (fun d hd => ?_)
  refine PW.sub (L2 := [(0, Value.ref l), (1, Value.ref q), (2, Value.ref ed), (3, Value.int (nI n))]) [0, 1, 2, 3] rfl ?_
  refine pw_iload_n (pc2 := 1) dJx4a65c_add_72be8_0 rfl rfl 3 rfl ?_
  refine pw_aload_n (pc2 := 2) dJx4a65c_add_72be8_1 rfl rfl 2 rfl (by first | exact rf_ref _ | exact rf_opt _ | exact rf_nul) ?_
  refine pw_alen (pc2 := 3) 5 rfl hl.2.1 rfl dJx4a65c_add_72be8_2 rfl ?_
  refine pw_icmp_ne (tgt := 11) (pc2 := 6) dJx4a65c_add_72be8_3 (by decide) rfl (fun c3 => by exact absurd (by rw [hcap]; rfl) c3) (fun _ => ?_)
  refine pw_aload_n (pc2 := 7) dJx4a65c_add_72be8_6 rfl rfl 0 rfl (by first | exact rf_ref _ | exact rf_opt _ | exact rf_nul) ?_
  refine pw_callV (pc2 := 10) (hg) cs_Jx4a65c_129 rfl rfl hl.1 dJx4a65c_add_72be8_7 rfl (by omega) rfl (by first | decide | simp [cat_rf, Value.category]) (fun r9 h9 q9 => ?_) (fun Y h9 q9 => q9.elim)
  obtain ⟨e2, cap2, g2, rfl, ⟨⟨he2, ge2⟩, hce⟩, rfl, hc1, hc2, hc3⟩ := q9
  refine pw_astore_n (pc2 := 11) (L2 := [(2, Value.ref e2), (0, Value.ref l), (1, Value.ref q), (3, Value.int (nI n))]) dJx4a65c_add_72be8_10 rfl rfl (by decide) (by first | exact rf_ref _ | exact rf_opt _ | exact rf_nul) rfl ?_
  refine pw_aload_n (pc2 := 12) dJx4a65c_add_72be8_11 rfl rfl 0 rfl (by first | exact rf_ref _ | exact rf_opt _ | exact rf_nul) ?_
  refine pw_iload_n (pc2 := 13) dJx4a65c_add_72be8_12 rfl rfl 3 rfl ?_
  refine pw_aload_n (pc2 := 14) dJx4a65c_add_72be8_13 rfl rfl 2 rfl (by first | exact rf_ref _ | exact rf_opt _ | exact rf_nul) ?_
  refine pw_aastON (pc2 := 15) 5 rfl hcl hca ((va_up_ne _ _ ((ne_nw hl.1 he2)).symm).trans (va_up_self _ _ _)) ((va_up_ne _ _ hql).trans ((va_up_ne _ _ (ne_nw hq he2)).trans hq)) (i := n) (by omega) (by omega) dJx4a65c_add_72be8_14 rfl ?_
  refine pw_aload_n (pc2 := 16) dJx4a65c_add_72be8_15 rfl rfl 1 rfl (by first | exact rf_ref _ | exact rf_opt _ | exact rf_nul) ?_
  refine pw_iload_n (pc2 := 17) dJx4a65c_add_72be8_16 rfl rfl 3 rfl ?_
  refine pw_iconst (pc2 := 18) (v := 1) dJx4a65c_add_72be8_17 rfl (by decide) ?_
  refine pw_iadd (pc2 := 19) dJx4a65c_add_72be8_18 rfl ?_
  refine pw_topE (nI_1 _) ?_
  refine pw_put (pc2 := 22) kJx4a65c (k := 2) (by decide) rfl rfl fl_Jx4a65c_48 ((va_up_ne _ _ (ne_nw hl.1 he2)).trans (va_up_self _ _ _)) (by first | decide | simp) (by first | rfl | exact nar_rf _ _) (by first | rfl | exact fit_rf _ _) dJx4a65c_add_72be8_19 rfl ?_
  refine pw_vret dJx4a65c_add_72be8_22 rfl ?_
  exact ⟨rfl, e2, cap2, g2, Or.inr ⟨⟨he2, ge2⟩, hce⟩, up4 _ (ne_nw hl.1 he2).symm _ _ _ _, hc1, hc2, hc3⟩
set_option maxHeartbeats 4000000 in
set_option maxRecDepth 100000 in
theorem c_lgrow (G : hG) (h : hp) {l ed n : Nat} {mc : Int32} {f : Nat → Nat} (hl : h l = some (oB 2 [.int mc, .ref ed, .int (nI n)])) (hg : PMet G MJx4a65c_grow_92f84 3 1 40 [.ref l, .int (nI (n + 1))] h (QGr G h l n mc f) noX) : PMet G MJx4a65c_grow_d5877 4 1 40 [.ref l] h (QGr G h l n mc f) noX := by
  refine PMet.of (by decide +kernel) (Nat.le_of_ble_eq_true rfl) (fun d hd => ?_)
  refine PW.sub (L2 := [(0, Value.ref l)]) [0] rfl ?_
  refine pw_aload_n (pc2 := 1) dJx4a65c_grow_d5877_0 rfl rfl 0 rfl (by first | exact rf_ref _ | exact rf_opt _ | exact rf_nul) ?_
  refine pw_aload_n (pc2 := 2) dJx4a65c_grow_d5877_1 rfl rfl 0 rfl (by first | exact rf_ref _ | exact rf_opt _ | exact rf_nul) ?_
  refine pw_get (pc2 := 5) kJx4a65c (k := 2) (by decide) rfl fl_Jx4a65c_48 hl rfl dJx4a65c_grow_d5877_2 rfl ?_
  refine pw_iconst (pc2 := 6) (v := 1) dJx4a65c_grow_d5877_5 rfl (by decide) ?_
  refine pw_iadd (pc2 := 7) dJx4a65c_grow_d5877_6 rfl ?_
  refine pw_topE (nI_1 _) ?_
  refine pw_callV (pc2 := 10) (hg) cs_Jx4a65c_69 rfl rfl hl dJx4a65c_grow_d5877_7 rfl (by omega) rfl (by first | decide | simp [cat_rf, Value.category]) (fun r9 h9 q9 => ?_) (fun Y h9 q9 => q9.elim)
  obtain ⟨e2, cap2, g2, rfl, he2, rfl, hc1, hc2, hc3⟩ := q9
  refine pw_aret dJx4a65c_grow_d5877_10 rfl (by first | exact Or.inl ⟨_, rfl⟩ | exact Or.inr ⟨_, rfl⟩) (by first | exact rf_ref _ | exact rf_opt _ | exact rf_nul) ?_
  exact ⟨e2, cap2, g2, rfl, he2, rfl, hc1, hc2, hc3⟩
set_option maxHeartbeats 4000000 in
set_option maxRecDepth 100000 in
theorem c_grow0 (G : hG) (h : hp) {l : Nat} {mc : Int32} {f : Nat → Nat} (hl : h l = some (oB 2 [.int mc, .ref G.2.2, .int (nI 0)])) (hd0 : h G.2.2 = some hE0) : PMet G MJx4a65c_grow_92f84 1 1 40 [.ref l, .int (nI 1)] h (QGr G h l 0 mc f) noX := by
  refine PMet.of (by decide +kernel) (Nat.le_of_ble_eq_true rfl) (fun d hd => ?_)
  refine PW.sub (L2 := [(0, Value.ref l), (1, Value.int (nI 1))]) [0, 1] rfl ?_
  refine pw_aload_n (pc2 := 1) dJx4a65c_grow_92f84_0 rfl rfl 0 rfl (by first | exact rf_ref _ | exact rf_opt _ | exact rf_nul) ?_
  refine pw_get (pc2 := 4) kJx4a65c (k := 1) (by decide) rfl fl_Jx4a65c_9 hl rfl dJx4a65c_grow_92f84_1 rfl ?_
  refine pw_alen (pc2 := 5) 5 rfl hd0 rfl dJx4a65c_grow_92f84_4 rfl ?_
  refine pw_topi (fun v1 ev1 => ?_)
  refine pw_istore_n (pc2 := 6) (L2 := [(2, Value.int v1), (0, Value.ref l), (1, Value.int (nI 1))]) dJx4a65c_grow_92f84_5 rfl rfl (by decide) rfl ?_
  refine pw_iload_n (pc2 := 7) dJx4a65c_grow_92f84_6 rfl rfl 0 rfl ?_
  refine pw_if_gt (tgt := 20) (pc2 := 10) dJx4a65c_grow_92f84_7 (by decide) rfl (fun c7 => by exact absurd c7 (by rw [ev1]; decide)) (fun _ => ?_)
  refine pw_aload_n (pc2 := 11) dJx4a65c_grow_92f84_10 rfl rfl 1 rfl (by first | exact rf_ref _ | exact rf_opt _ | exact rf_nul) ?_
  refine pw_get (pc2 := 14) kJx4a65c (k := 1) (by decide) rfl fl_Jx4a65c_9 hl rfl dJx4a65c_grow_92f84_11 rfl ?_
  refine pw_getEmpty (pc2 := 17) fl_empty dJx4a65c_grow_92f84_14 rfl ?_
  refine pw_acmp_eq (rx := (some G.2.2)) (ry := (some G.2.2)) (tgt := 45) (pc2 := 20) dJx4a65c_grow_92f84_17 (by decide) rfl (fun _ => ?_) (fun c17 => by exact absurd (rfl) c17)
  refine pw_aload_n (pc2 := 46) dJx4a65c_grow_92f84_45 rfl rfl 1 rfl (by first | exact rf_ref _ | exact rf_opt _ | exact rf_nul) ?_
  refine pw_bipush (pc2 := 48) (v := 10) dJx4a65c_grow_92f84_46 rfl (by decide) ?_
  refine pw_iload_n (pc2 := 49) dJx4a65c_grow_92f84_48 rfl rfl 2 rfl ?_
  refine pw_mmax (pc2 := 52) cs_Jx4a65c_79 dJx4a65c_grow_92f84_49 rfl (by first | decide | simp [cat_rf, Value.category]) ?_
  refine pw_topE (show (if (10 : Int32) < nI 1 then nI 1 else 10) = nI 10 by decide) ?_
  refine pw_anewarr (pc2 := 55) (Nn := 10) 5 rfl (fun U hU => hU.2.2.1.2.1) cl_Jx4a65c_7 (by decide) (by decide) (by decide) dJx4a65c_grow_92f84_52 rfl (fun e2 he2 ge2 => ?_)
  refine pw_dup_x1 (pc2 := 56) dJx4a65c_grow_92f84_55 rfl (by first | rfl | exact cat_rf _) (by first | rfl | exact cat_rf _) ?_
  refine pw_put (pc2 := 59) kJx4a65c (k := 1) (by decide) rfl rfl fl_Jx4a65c_9 ((va_up_ne _ _ (ne_nw hl he2)).trans hl) (by first | decide | simp) (by first | rfl | exact nar_rf _ _) (by first | rfl | exact fit_rf _ _) dJx4a65c_grow_92f84_56 rfl ?_
  refine pw_aret dJx4a65c_grow_92f84_59 rfl (by first | exact Or.inl ⟨_, rfl⟩ | exact Or.inr ⟨_, rfl⟩) (by first | exact rf_ref _ | exact rf_opt _ | exact rf_nul) ?_
  exact ⟨e2, 10, fun _ => none, rfl, ⟨⟨he2, ge2⟩, Or.inl rfl⟩, rfl, by decide, by decide, fun i hi => absurd hi (Nat.not_lt_zero i)⟩
