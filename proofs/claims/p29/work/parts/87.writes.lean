/-! the calls that write, over the state but for what is scratch -/
/-- a call that writes: it succeeds, or tells what it threw and changed nothing -/
def QX (G : hG) (A : aT) (σ : sT) (N : Nat) (K : Int32 → aT → sT → (Nat → Nat) → Prop) (F : Prop) : Option Value → hp → Prop := fun r h2 => ∃ v, r = some (.int v) ∧ ((¬ v < 0 ∧ ∃ A' σ' ofr', (A' 0 0 = A 0 0 ∧ A' 60 0 = A 60 0) ∧ W9 G h2 A' σ' ∧ J σ' ofr' (N + 9999) ∧ K v A' σ' ofr') ∨ (v < -1000 ∧ WS G h2 A σ ∧ F))
/-- the law's rows are as before -/
def KP (σ : sT) : Int32 → aT → sT → (Nat → Nat) → Prop := fun _ _ σ' ofr' => JD σ' ofr' (nrl σ') ∧ nrl σ' = nrl σ
theorem m1001 : (-1001 : Int32) < -1000 := by decide
theorem m1002 : (-1002 : Int32) < -1000 := by decide
theorem m1003 : (-1003 : Int32) < -1000 := by decide
theorem m1004 : (-1004 : Int32) < -1000 := by decide
section WRT
variable {G : hG} {h : hp} {A : aT} {σ : sT} {ofr : Nat → Nat} {N : Nat}
theorem pkA_0 {nw : Nat → Nat} {e2 : Nat} : pkA A σ nw e2 0 0 = A 0 0 := by
  show (if 20 ≤ 0 ∧ 0 ≤ 34 ∧ 0 = npk σ then nw 0 else if 0 = 2 then e2 else A 0 0) = _
  rw [if_neg (by omega), if_neg (by omega)]
theorem pkA_60 {nw : Nat → Nat} {e2 : Nat} : pkA A σ nw e2 60 0 = A 60 0 := by
  show (if 20 ≤ 60 ∧ 60 ≤ 34 ∧ 0 = npk σ then nw 60 else if 60 = 2 then e2 else A 60 0) = _
  rw [if_neg (by omega), if_neg (by omega)]
theorem tsA_0 {q ar e2 : Nat} : tsA A σ q ar e2 0 0 = A 0 0 := by
  show (if 0 = 50 ∧ 0 = nts σ then q else if 0 = 51 ∧ 0 = nts σ then ar else if 0 = 4 then e2 else A 0 0) = _
  rw [if_neg (by omega), if_neg (by omega), if_neg (by omega)]
theorem tsA_60 {q ar e2 : Nat} : tsA A σ q ar e2 60 0 = A 60 0 := by
  show (if 60 = 50 ∧ 0 = nts σ then q else if 60 = 51 ∧ 0 = nts σ then ar else if 60 = 4 then e2 else A 60 0) = _
  rw [if_neg (by omega), if_neg (by omega), if_neg (by omega)]
theorem rlA_0 {p : Nat} {nw : Nat → Nat} {e2 e3 : Nat} : rlA A σ p nw e2 e3 0 0 = A 0 0 := by
  show (if isNR σ 0 0 then nw 0 else if 0 = 35 ∧ 0 = p then e2 else if 0 = 6 then e3 else A 0 0) = _
  rw [if_neg (by omega), if_neg (by omega), if_neg (by omega)]
theorem rlA_60 {p : Nat} {nw : Nat → Nat} {e2 e3 : Nat} : rlA A σ p nw e2 e3 60 0 = A 60 0 := by
  show (if isNR σ 60 0 then nw 60 else if 60 = 35 ∧ 0 = p then e2 else if 60 = 6 then e3 else A 60 0) = _
  rw [if_neg (by omega), if_neg (by omega), if_neg (by omega)]
set_option maxHeartbeats 2000000 in
theorem x_pack (HW : WS G h A σ) (HJ : J σ ofr N) (HD : JD σ ofr (nrl σ)) (n : Int32) : PMet G ML_pack 8 17 108 [.ref (A 0 0), .int n] h (QX G A σ N (KP σ) True) noX := by
  obtain ⟨σ1, e, H⟩ := HW
  have h6 := H.iv.1
  refine (w_pack G h H.c0 (c_addPack G h H n) (fun r h1 q => ⟨_, q.2.2.1⟩) (fun C h1 q => q.2.imp (·.1) (·.1))).mono (fun r h2 q => ?_) (fun _ _ q => q)
  rcases q with ⟨v, ⟨h9, hn, ev, nw, e2, cap2, mc, g2, H1, -⟩, rfl⟩ | ⟨C, n', ⟨rfl, ⟨rfl, z⟩ | ⟨rfl, z1, z2⟩⟩, hc, rfl⟩
  · cases ev
    have D1 : JD (pkS G σ1 n mc e2 cap2 g2) ofr (nrl σ1) := by rw [e.nr]; exact D_ap (HD.es e)
    exact ⟨_, rfl, Or.inl ⟨nI_nn (by omega), _, _, ofr, ⟨pkA_0, pkA_60⟩, H1, (J_ap (HJ.es e) hn h9).mono (by omega), D1, e.nr⟩⟩
  · obtain rfl := cd1 (m := -1001) hc (by decide +kernel)
    exact ⟨_, rfl, Or.inr ⟨m1001, ⟨σ1, e, H⟩, trivial⟩⟩
  · obtain rfl := cd1 (m := -1002) hc (by decide +kernel)
    exact ⟨_, rfl, Or.inr ⟨m1002, ⟨σ1, e, H⟩, trivial⟩⟩
set_option maxHeartbeats 2000000 in
theorem x_source (HW : WS G h A σ) (HJ : J σ ofr N) (HD : JD σ ofr (nrl σ)) (n f b : Int32) : PMet G ML_source 6 2 12 [.ref (A 0 0), .int n, .int f, .int b] h (QX G A σ N (KP σ) True) noX := by
  obtain ⟨σ1, e, H⟩ := HW
  refine (w_source G h H.c0 (c_setSource G h H n f b) (fun r h1 q => by obtain ⟨p, -, -, -, -, e, -⟩ := q; exact ⟨_, e⟩) (fun C h1 q => q.2.imp (·.1) (·.1))).mono (fun r h2 q => ?_) (fun _ _ q => q)
  rcases q with ⟨v, ⟨p, hp, hn, -, -, ev, H1, -⟩, rfl⟩ | ⟨C, n', ⟨rfl, ⟨rfl, z⟩ | ⟨rfl, z1, z2⟩⟩, hc, rfl⟩
  · cases ev
    obtain ⟨c, c1, c2⟩ := ssV_nat σ1 p f b
    have D1 : JD (ssS σ1 p f b) ofr (nrl σ1) := by rw [e.nr]; exact D_ss (HD.es e)
    exact ⟨_, rfl, Or.inl ⟨by rw [c2]; exact nI_nn (by omega), _, _, ofr, ⟨rfl, rfl⟩, H1, (J_ss (HJ.es e)).mono (by omega), D1, e.nr⟩⟩
  · obtain rfl := cd1 (m := -1001) hc (by decide +kernel)
    exact ⟨_, rfl, Or.inr ⟨m1001, ⟨σ1, e, H⟩, trivial⟩⟩
  · obtain rfl := cd1 (m := -1002) hc (by decide +kernel)
    exact ⟨_, rfl, Or.inr ⟨m1002, ⟨σ1, e, H⟩, trivial⟩⟩
set_option maxHeartbeats 2000000 in
theorem x_need (HW : WS G h A σ) (HJ : J σ ofr N) (HD : JD σ ofr (nrl σ)) (n o l g : Int32) : PMet G ML_need 6 3 18 [.ref (A 0 0), .int n, .int o, .int l, .int g] h (QX G A σ N (KP σ) True) noX := by
  obtain ⟨σ1, e, H⟩ := HW
  have h6 := H.iv.1
  by_cases hm : l = -1
  · subst hm
    refine (w_needD G h H.c0 (c_dropNeed G h H n o) (fun r h1 q => by obtain ⟨p, q, -, -, -, -, -, e, -⟩ := q; exact ⟨_, e⟩) (fun C h1 q => q.2.imp (·.1) (·.1))).mono (fun r h2 q => ?_) (fun _ _ q => q)
    rcases q with ⟨v, ⟨p, q, hp, hq, hn, ho, -, ev, H1, -⟩, rfl⟩ | ⟨C, n', ⟨rfl, ⟨rfl, z⟩ | ⟨rfl, z1⟩⟩, hc, rfl⟩
    · cases ev
      obtain ⟨c, c1, c2⟩ := cnN_nat (upd (σ1.1 24 p) q 0) 6
      have D1 : JD (ndS σ1 p q 0 0) ofr (nrl σ1) := by rw [e.nr]; exact D_nd (HD.es e)
      exact ⟨_, rfl, Or.inl ⟨by rw [c2]; exact nI_nn (by omega), _, _, ofr, ⟨rfl, rfl⟩, H1, (J_nd (HJ.es e) hp (Or.inr rfl)).mono (by omega), D1, e.nr⟩⟩
    · obtain rfl := cd1 (m := -1001) hc (by decide +kernel)
      exact ⟨_, rfl, Or.inr ⟨m1001, ⟨σ1, e, H⟩, trivial⟩⟩
    · obtain rfl := cd1 (m := -1002) hc (by decide +kernel)
      exact ⟨_, rfl, Or.inr ⟨m1002, ⟨σ1, e, H⟩, trivial⟩⟩
  · refine (w_needN G h H.c0 (c_need G h H n o l g) (fun r h1 q => by obtain ⟨p, q, -, -, -, -, -, e, -⟩ := q; exact ⟨_, e⟩) (fun C h1 q => q.2.imp (·.1) (·.1)) hm).mono (fun r h2 q => ?_) (fun _ _ q => q)
    rcases q with ⟨v, ⟨p, q, hp, hn, ho, hqp, -, ev, H1, -⟩, rfl⟩ | ⟨C, n', ⟨rfl, ⟨rfl, z⟩ | ⟨rfl, z1, z2⟩⟩, hc, rfl⟩
    · cases ev
      obtain ⟨c, c1, c2⟩ := cnN_nat (upd (σ1.1 24 p) q g) 6
      have D1 : JD (ndS σ1 p q l g) ofr (nrl σ1) := by rw [e.nr]; exact D_nd (HD.es e)
      exact ⟨_, rfl, Or.inl ⟨by rw [c2]; exact nI_nn (by omega), _, _, ofr, ⟨rfl, rfl⟩, H1, (J_nd (HJ.es e) hp (Or.inl hqp)).mono (by omega), D1, e.nr⟩⟩
    · obtain rfl := cd1 (m := -1001) hc (by decide +kernel)
      exact ⟨_, rfl, Or.inr ⟨m1001, ⟨σ1, e, H⟩, trivial⟩⟩
    · obtain rfl := cd1 (m := -1002) hc (by decide +kernel)
      exact ⟨_, rfl, Or.inr ⟨m1002, ⟨σ1, e, H⟩, trivial⟩⟩
set_option maxHeartbeats 2000000 in
theorem x_addT (HW : WS G h A σ) (HJ : J σ ofr N) (HD : JD σ ofr (nrl σ)) (n ln : Int32) : PMet G ML_addTest 8 4 59 [.ref (A 0 0), .int n, .int ln] h (QX G A σ N (KP σ) True) noX := by
  obtain ⟨σ1, e, H⟩ := HW
  have h8 := H.iv.2.1
  refine (w_addT G h H.c0 (c_addTest G h H n ln) (fun r h1 q => by obtain ⟨p, -, -, -, -, e, -⟩ := q; exact ⟨_, e⟩) (fun C h1 q => q.2.imp (·.1) (fun z => z.imp (·.1) (·.1)))).mono (fun r h2 q => ?_) (fun _ _ q => q)
  rcases q with ⟨v, ⟨p, hp, hn, hl, h8', ev, q, ar, e2, cap2, mc, g2, H1, -⟩, rfl⟩ | ⟨C, n', ⟨rfl, ⟨rfl, z⟩ | ⟨rfl, z1, z2⟩ | ⟨rfl, z1, z2, z3⟩⟩, hc, rfl⟩
  · cases ev
    obtain ⟨l1, l2⟩ := hl
    have t1 : (1 : Int32).toInt = 1 := rfl
    have t60 : (60 : Int32).toInt = 60 := rfl
    rw [Int32.le_iff_toInt_le] at l1 l2
    obtain ⟨l, a, b, rfl⟩ : ∃ l : Nat, 1 ≤ l ∧ l ≤ 60 ∧ ln = nI l := by
      refine ⟨ln.toInt.toNat, by omega, by omega, ?_⟩
      apply Int32.toInt_inj.mp
      rw [nI_toInt (by omega)]
      omega
    have D1 : JD (tsS σ1 (nI p) (nI l) mc e2 cap2 g2) ofr (nrl σ1) := by rw [e.nr]; exact D_at (HD.es e)
    exact ⟨_, rfl, Or.inl ⟨nI_nn (by omega), _, _, ofr, ⟨tsA_0, tsA_60⟩, H1, (J_at (HJ.es e) a b).mono (by omega), D1, e.nr⟩⟩
  · obtain rfl := cd1 (m := -1001) hc (by decide +kernel)
    exact ⟨_, rfl, Or.inr ⟨m1001, ⟨σ1, e, H⟩, trivial⟩⟩
  · obtain rfl := cd1 (m := -1002) hc (by decide +kernel)
    exact ⟨_, rfl, Or.inr ⟨m1002, ⟨σ1, e, H⟩, trivial⟩⟩
  · obtain rfl := cd1 (m := -1003) hc (by decide +kernel)
    exact ⟨_, rfl, Or.inr ⟨m1003, ⟨σ1, e, H⟩, trivial⟩⟩
set_option maxHeartbeats 2000000 in
theorem x_ts (HW : WS G h A σ) (HJ : J σ ofr N) (HD : JD σ ofr (nrl σ)) (n w : Int32) : PMet G ML_tests 6 1 6 [.ref (A 0 0), .int n, .int w] h (QX G A σ N (KP σ) True) noX := by
  by_cases w0 : w = 0
  · subst w0
    refine (g_ts0 HW HJ n).mono (fun r h2 q => ?_) (fun _ _ q => q)
    obtain ⟨⟨σ1, e, H⟩, ⟨t, ht, -, rfl⟩ | ⟨-, rfl⟩⟩ := q
    · obtain ⟨c, c1, c2⟩ := ct_7 HJ.2.2.2.2 ht
      have D1 : JD σ1 ofr (nrl σ1) := by rw [e.nr]; exact HD.es e
      exact ⟨_, rfl, Or.inl ⟨by unfold aFy; rw [c2]; exact nI_nn (by omega), _, _, ofr, ⟨rfl, rfl⟩, H, (HJ.es e).mono (by omega), D1, e.nr⟩⟩
    · exact ⟨_, rfl, Or.inr ⟨m1001, ⟨σ1, e, H⟩, trivial⟩⟩
  · obtain ⟨σ1, e, H⟩ := HW
    have key : ∀ {x : Int32} {r : Option Value} {h2 : hp}, QV (fun r h2 => ∃ t, t < nts σ1 ∧ n = nI t ∧ QS G h A (.int (σ1.1 50 t 2)) (setI σ1 50 t (upd (σ1.1 50 t) 2 x)) r h2) (fun C h2 => h2 = h ∧ C = xIO ∧ ¬ inR n (nts σ1)) [(xIO, (-1001))] r h2 → QX G A σ N (KP σ) True r h2 := by
      intro x r h2 q
      rcases q with ⟨v, ⟨t, ht, hn, ev, H1, -⟩, rfl⟩ | ⟨C, n', ⟨rfl, rfl, z⟩, hc, rfl⟩
      · cases ev
        have D1 : JD (setI σ1 50 t (upd (σ1.1 50 t) 2 x)) ofr (nrl σ1) := by rw [e.nr]; exact D_sf (HD.es e)
        have hb := (H.iv.2.2.2.2.2.2.2.2.2.2 t ht).1
        exact ⟨_, rfl, Or.inl ⟨by rcases hb with q | q <;> rw [q] <;> decide, _, _, ofr, ⟨rfl, rfl⟩, H1, (J_sf (HJ.es e)).mono (by omega), D1, e.nr⟩⟩
      · obtain rfl := cd1 (m := -1001) hc (by decide +kernel)
        exact ⟨_, rfl, Or.inr ⟨m1001, ⟨σ1, e, H⟩, trivial⟩⟩
    have hQ : ∀ {x : Int32} (r : Option Value) (h1 : hp), (∃ t, t < nts σ1 ∧ n = nI t ∧ QS G h A (.int (σ1.1 50 t 2)) (setI σ1 50 t (upd (σ1.1 50 t) 2 x)) r h1) → ∃ v, r = some (.int v) ∧ b01 v := fun r h1 q => by
      obtain ⟨t, ht, -, e, -⟩ := q
      exact ⟨_, e, (H.iv.2.2.2.2.2.2.2.2.2.2 t ht).1⟩
    by_cases w1 : w = 1
    · subst w1
      exact (w_ts1 G h H.c0 (c_setFail G h H n (x := 1) (Or.inr rfl)) hQ (fun C h1 q => q.2.1)).mono (fun r h2 q => key q) (fun _ _ q => q)
    · exact (w_ts2 G h H.c0 (c_setFail G h H n (x := 0) (Or.inl rfl)) hQ (fun C h1 q => q.2.1) w0 w1).mono (fun r h2 q => key q) (fun _ _ q => q)
set_option maxHeartbeats 2000000 in
theorem x_fund (HW : WS G h A σ) (HJ : J σ ofr N) (hN : N < 1000000) (HD : JD σ ofr (nrl σ)) (o m : Int32) : PMet G ML_money 4 2 12 [.ref (A 0 0), .int 102, .int o, .int m] h (QX G A σ N (KP σ) True) noX := by
  obtain ⟨σ1, e, H⟩ := HW
  refine (w_mon_f G h H.c0 (c_fund G h H o m) (fun r h1 q => by obtain ⟨j, -, -, -, e, -⟩ := q; exact ⟨_, e⟩) (fun C h1 q => q.2.1)).mono (fun r h2 q => ?_) (fun _ _ q => q)
  rcases q with ⟨v, ⟨j, hj, hn, hl, ev, H1, -⟩, rfl⟩ | ⟨C, n', ⟨rfl, rfl, z⟩, hc, rfl⟩
  · cases ev
    obtain ⟨l1, l2⟩ := hl
    have t1 : (1 : Int32).toInt = 1 := rfl
    have t9 : (9999 : Int32).toInt = 9999 := rfl
    rw [Int32.le_iff_toInt_le] at l1 l2
    obtain ⟨k, a, b, rfl⟩ : ∃ k : Nat, 1 ≤ k ∧ k ≤ 9999 ∧ m = nI k := by
      refine ⟨m.toInt.toNat, by omega, by omega, ?_⟩
      apply Int32.toInt_inj.mp
      rw [nI_toInt (by omega)]
      omega
    obtain ⟨c, c1, c2⟩ := (HJ.es e).1.2.1 j hj
    have D1 : JD (setI σ1 13 0 (upd (σ1.1 13 0) j (σ1.1 13 0 j + nI k))) ofr (nrl σ1) := by rw [e.nr]; exact D_fu (HD.es e)
    exact ⟨_, rfl, Or.inl ⟨by rw [c2, nI_add_]; exact nI_nn (by omega), _, _, ofr, ⟨rfl, rfl⟩, H1, J_fu (HJ.es e) b, D1, e.nr⟩⟩
  · obtain rfl := cd1 (m := -1001) hc (by decide +kernel)
    exact ⟨_, rfl, Or.inr ⟨m1001, ⟨σ1, e, H⟩, trivial⟩⟩
theorem nfG_es {σ1 : sT} (e : ES σ σ1) (gr : Nat → Int32) (g : Nat → Option Nat) : nfG σ1 gr g = nfG σ gr g := by
  funext i
  unfold nfG
  rw [e.I 40 rfl]
theorem bOk_es {σ1 : sT} (e : ES σ σ1) (p : Nat) (g : Nat → Option Nat) : bOk σ1 p g ↔ bOk σ p g := by
  unfold bOk
  rw [e.I 25 rfl, e.I 21 rfl, e.I 26 rfl, e.I 24 rfl, nfG_es e]
/-- compiled: once more isn't needed -/
def KC (σ : sT) (n : Int32) : Int32 → aT → sT → (Nat → Nat) → Prop := fun v A' σ' ofr' => KP σ v A' σ' ofr' ∧ σ'.1 0 0 1 = σ.1 0 0 1 + v ∧ ∃ p g, p < npk σ' ∧ n = nI p ∧ srS σ' p = some g ∧ bOk σ' p g
set_option maxHeartbeats 2000000 in
theorem x_comp (HW : WS G h A σ) (HJ : J σ ofr N) (HD : JD σ ofr (nrl σ)) (n : Int32) : PMet G ML_of 14 2 12 [.ref (A 0 0), .int n, .int 0] h (QX G A σ N (KC σ n) True) noX := by
  obtain ⟨σ1, e, H⟩ := HW
  refine (w_of0 G h H.c0 (c_compile G h H n) (fun r h1 q => by obtain ⟨p, g, -, -, -, -, ⟨-, e, -⟩ | ⟨-, e, -⟩⟩ := q; exact ⟨_, e, Or.inl rfl⟩; exact ⟨_, e, Or.inr rfl⟩) (fun C h1 q => by rcases q with ⟨-, e, -⟩ | ⟨e, -⟩; exact Or.inl e; exact Or.inr e)).mono (fun r h2 q => ?_) (fun _ _ q => q)
  rcases q with ⟨v, ⟨p, g, hp, hn, hs, hgb, ⟨hb, ev, H1, -⟩ | ⟨hb, ev, H1, -⟩⟩, rfl⟩ | ⟨C, n', ⟨rfl, rfl, z⟩ | ⟨rfl, p, hp, hn, hs, H1, -⟩, hc, rfl⟩
  · cases ev
    have D1 : JD (setO σ1 9 0 g) ofr (nrl σ1) := by rw [e.nr]; exact HD.es (e.sO (Or.inl rfl))
    exact ⟨_, rfl, Or.inl ⟨by decide, _, _, ofr, ⟨rfl, rfl⟩, H1, (J_O9 (HJ.es e)).mono (by omega), ⟨D1, e.nr⟩, by rw [Int32.add_zero]; exact congrArg (fun f => f 0 1) (e.I 0 rfl), p, g, hp, hn, hs, hb⟩⟩
  · cases ev
    have D1 : JD (cmS σ1 p g) ofr (nrl σ1) := by rw [e.nr]; exact D_cm (HD.es e)
    obtain ⟨k1, k2⟩ := cm_ok (σ := σ1) (p := p) (g := g)
    exact ⟨_, rfl, Or.inl ⟨by decide, _, _, ofr, ⟨rfl, rfl⟩, H1, (J_cm (HJ.es e)).mono (by omega), ⟨D1, e.nr⟩, by rw [← e.I 0 rfl]; rfl, p, g, hp, hn, k1.trans hs, k2⟩⟩
  · obtain rfl := cd1 (m := -1001) hc (by decide +kernel)
    exact ⟨_, rfl, Or.inr ⟨m1001, ⟨σ1, e, H⟩, trivial⟩⟩
  · obtain rfl := cd1 (m := -1002) hc (by decide +kernel)
    exact ⟨_, rfl, Or.inr ⟨m1002, ⟨_, e.sO (Or.inl rfl), H1⟩, trivial⟩⟩
set_option maxHeartbeats 2000000 in
/-- .. and says so -/
theorem k_comp0 (HW : WS G h A σ) {p : Nat} {g : Nat → Option Nat} (hp : p < npk σ) (hs : srS σ p = some g) (hb : bOk σ p g) : PMet G ML_of 14 2 12 [.ref (A 0 0), .int (nI p), .int 0] h (QL G A σ (.int 0)) noX := by
  obtain ⟨σ1, e, H⟩ := HW
  have h6 := H.iv.1
  have np := e.np
  refine (w_of0 G h H.c0 (c_compile G h H (nI p)) (fun r h1 q => by obtain ⟨p, g, -, -, -, -, ⟨-, e, -⟩ | ⟨-, e, -⟩⟩ := q; exact ⟨_, e, Or.inl rfl⟩; exact ⟨_, e, Or.inr rfl⟩) (fun C h1 q => by rcases q with ⟨-, e, -⟩ | ⟨e, -⟩; exact Or.inl e; exact Or.inr e)).mono (fun r h2 q => ?_) (fun _ _ q => q)
  rcases q with ⟨v, ⟨p', g', hp', hn, hs', hgb, hh⟩, rfl⟩ | ⟨C, n', ⟨rfl, rfl, z⟩ | ⟨rfl, p', hp', hn, hs', H1, -⟩, hc, rfl⟩
  · obtain rfl := np_eq (n := npk σ1) (by omega) (by omega) hp' hn
    rw [srS_es e, hs] at hs'
    cases hs'
    rcases hh with ⟨hb', ev, H1, -⟩ | ⟨hb', ev, H1, -⟩
    · cases ev; exact ⟨rfl, _, e.sO (Or.inl rfl), H1⟩
    · exact absurd ((bOk_es e p g).mpr hb) hb'
  · exact absurd (inR_of (np_lt (by omega)) (by omega)) z
  · obtain rfl := np_eq (n := npk σ1) (by omega) (by omega) hp' hn
    rw [srS_es e, hs] at hs'
    cases hs'
/-- tested: it can be published just if none failed -/
def KT (σ : sT) (n : Int32) : Int32 → aT → sT → (Nat → Nat) → Prop := fun v A' σ' ofr' => KP σ v A' σ' ofr' ∧ ∃ p, p < npk σ' ∧ n = nI p ∧ (pubC σ' p ↔ v = 0)
set_option maxHeartbeats 2000000 in
theorem x_test (HW : WS G h A σ) (HJ : J σ ofr N) (hN : N < 1000000) (HD : JD σ ofr (nrl σ)) (n : Int32) : PMet G ML_of 14 3 18 [.ref (A 0 0), .int n, .int 1] h (QX G A σ N (KT σ n) True) noX := by
  obtain ⟨σ1, e, H⟩ := HW
  have J1 := HJ.es e
  have h8 := H.iv.2.1
  refine (w_of1 G h H.c0 (c_test G h H J1.1.2.2 J1.cn n) (fun r h1 q => by obtain ⟨p, o, g, -, -, -, -, -, -, -, -, e, -⟩ := q; exact ⟨_, e⟩) (fun C h1 q => by rcases q with ⟨-, e, -⟩ | ⟨e, -⟩ | ⟨e, -⟩; exact Or.inl e; exact Or.inr (Or.inl e); exact Or.inr (Or.inr e))).mono (fun r h2 q => ?_) (fun _ _ q => q)
  rcases q with ⟨v, ⟨p, o, g, hp, hn, -, ho, hs, hgb, -, hc9, ev, H1, -⟩, rfl⟩ | ⟨C, n', ⟨rfl, rfl, z⟩ | ⟨rfl, p, hp, hn, hs, H1, -⟩ | ⟨rfl, p, o, g, hp, hn, -, -, hs, -, -, H1, -⟩, hc, rfl⟩
  · cases ev
    obtain ⟨c, c1, c2⟩ := fln_nat σ1.1 (nI p) (nts σ1)
    obtain ⟨K2, -⟩ := te_2 (σ := σ1) p o g
    have kr : nrl (teS σ1 p o g) = nrl σ1 := by unfold nrl; rw [K2]
    have kn : npk (teS σ1 p o g) = npk σ1 := by unfold npk; rw [K2]
    have D1 : JD (teS σ1 p o g) ofr (nrl (teS σ1 p o g)) := by rw [kr, e.nr]; exact D_te (HD.es e)
    exact ⟨_, rfl, Or.inl ⟨by rw [c2]; exact nI_nn (by omega), _, _, ofr, ⟨rfl, rfl⟩, H1, (J_te J1 hN h8 ho hc9).mono (by omega), ⟨D1, kr.trans e.nr⟩, p, by rw [kn]; exact hp, hn, te_ok hs⟩⟩
  · obtain rfl := cd1 (m := -1001) hc (by decide +kernel)
    exact ⟨_, rfl, Or.inr ⟨m1001, ⟨σ1, e, H⟩, trivial⟩⟩
  · obtain rfl := cd1 (m := -1002) hc (by decide +kernel)
    exact ⟨_, rfl, Or.inr ⟨m1002, ⟨_, e.sO (Or.inl rfl), H1⟩, trivial⟩⟩
  · obtain rfl := cd1 (m := -1003) hc (by decide +kernel)
    exact ⟨_, rfl, Or.inr ⟨m1003, ⟨_, e.sO (Or.inl rfl), H1⟩, trivial⟩⟩
/-- published -/
def KU (σ : sT) (p : Nat) : Int32 → aT → sT → (Nat → Nat) → Prop := fun v _ σ' ofr' => JD σ' ofr' (nrl σ) ∧ nrl σ' = nrl σ + 1 ∧ nrl σ < 20 ∧ npk σ' = npk σ ∧ pubC σ p ∧ v = vAh σ p ∧ ofr' (nrl σ) = p ∧ σ'.1 40 (nrl σ) 0 = v ∧ σ'.1 40 (nrl σ) 2 = 0 ∧ ∃ g, srS σ' p = some g ∧ σ'.2.2 45 (nrl σ) = g
set_option maxHeartbeats 4000000 in
theorem x_publ (HW : WS G h A σ) (HJ : J σ ofr N) (HD : JD σ ofr (nrl σ)) {p : Nat} (hp : p < npk σ) : PMet G ML_of 14 9 112 [.ref (A 0 0), .int (nI p), .int 5] h (QX G A σ N (KU σ p) (¬ (pubC σ p ∧ vAh σ p < 1000 ∧ nrl σ < 20))) noX := by
  obtain ⟨σ1, e, H⟩ := HW
  have J1 := HJ.es e
  have h6 := H.iv.1
  have hp1 : p < npk σ1 := by rw [e.np]; exact hp
  refine (w_of5 G h H.c0 (c_publish G h H (nI p)) (fun r h1 q => by obtain ⟨p, g, -, -, -, -, -, -, -, e, -⟩ := q; exact ⟨_, e⟩) (fun C h1 q => by rcases q with ⟨-, e, -⟩ | ⟨p, g, -, -, -, -, -, ⟨e, -⟩ | ⟨e, -⟩⟩; exact Or.inl e; exact Or.inr (Or.inl e); exact Or.inr (Or.inr e))).mono (fun r h2 q => ?_) (fun _ _ q => q)
  rcases q with ⟨v, ⟨p', g, hp', hn, hs, hgb, hps, hv9, hr, ev, nw, e2, cap2, e3, cap3, g2, g3, mc, mc3, H1, -⟩, rfl⟩ | ⟨C, n', ⟨rfl, rfl, z⟩ | ⟨p', g, hp', hn, hgb, H1, -, ⟨rfl, hz⟩ | ⟨rfl, hz1, hz2, hz3⟩⟩, hc, rfl⟩
  · obtain rfl := np_eq (n := npk σ1) (by omega) hp1 hp' hn
    cases ev
    obtain ⟨⟨w, w1, w2, w3⟩, -⟩ := vAh_gt J1.2.2.1 J1.2.2.2.1 (p := p) (by omega)
    have hgo : ∀ j x, g j = some x → j < p ∧ ofr x = j ∧ x < nrl σ1 := fun j x hx => by
      obtain ⟨a, b, c, -⟩ := srch_of J1.2.2.1 (by omega) hs hx
      exact ⟨a, b, c⟩
    have JU : J (rlS (setO σ1 9 0 g) p (vAh σ1 p) (σ1.1 21 p 0) (σ1.1 23 p) (σ1.1 24 p) g mc mc3 e2 cap2 e3 cap3 g2 g3) (ofN ofr (nrl σ1) p) N := J_pu (σ := setO σ1 9 0 g) J1 h6 (fun r hr j x hx => H.iv.2.2.2.2.2.2.2.1 r hr j x hx) hp1 hv9 hgo
    have DU : JD (rlS (setO σ1 9 0 g) p (vAh σ1 p) (σ1.1 21 p 0) (σ1.1 23 p) (σ1.1 24 p) g mc mc3 e2 cap2 e3 cap3 g2 g3) (ofN ofr (nrl σ1) p) (nrl σ1) := D_pu (σ := setO σ1 9 0 g) (by show JD σ1 ofr (nrl σ1); rw [e.nr]; exact HD.es e)
    have SU : srS (rlS (setO σ1 9 0 g) p (vAh σ1 p) (σ1.1 21 p 0) (σ1.1 23 p) (σ1.1 24 p) g mc mc3 e2 cap2 e3 cap3 g2 g3) p = some g := pu_ok (σ := setO σ1 9 0 g) J1.2.2.1 h6 hp1 hs
    have c40 : (rlS (setO σ1 9 0 g) p (vAh σ1 p) (σ1.1 21 p 0) (σ1.1 23 p) (σ1.1 24 p) g mc mc3 e2 cap2 e3 cap3 g2 g3).1 40 (nrl σ1) = (fun k => if k = 0 then vAh σ1 p else if k = 1 then σ1.1 21 p 0 else 0) := pu_40 (σ := setO σ1 9 0 g)
    have c45 : (rlS (setO σ1 9 0 g) p (vAh σ1 p) (σ1.1 21 p 0) (σ1.1 23 p) (σ1.1 24 p) g mc mc3 e2 cap2 e3 cap3 g2 g3).2.2 45 (nrl σ1) = g := pu_45 (σ := setO σ1 9 0 g)
    refine ⟨_, rfl, Or.inl ⟨by rw [w3]; exact nI_nn (by omega), _, _, ofN ofr (nrl σ1) p, ⟨rlA_0, rlA_60⟩, H1, JU.mono (by omega), ?_⟩⟩
    unfold KU
    rw [← e.nr]
    exact ⟨DU, rfl, hr, e.np, (pub_es e p).mp ⟨g, hs, hps⟩, vAh_es e p, if_pos rfl, by rw [c40]; rfl, by rw [c40]; rfl, g, SU, c45⟩
  · exact absurd (inR_of (np_lt (by omega)) hp1) z
  · obtain rfl := np_eq (n := npk σ1) (by omega) hp1 hp' hn
    obtain rfl := cd1 (m := -1002) hc (by decide +kernel)
    refine ⟨_, rfl, Or.inr ⟨m1002, ⟨_, e.sO (Or.inl rfl), H1⟩, fun q => ?_⟩⟩
    rw [pub_es e, vAh_es e] at hz
    rcases hz with hz | hz
    · exact hz q.1
    · have a := q.2.1
      rw [Int32.lt_iff_toInt_lt] at a hz
      have t1 : (1000 : Int32).toInt = 1000 := rfl
      have t2 : (999 : Int32).toInt = 999 := rfl
      omega
  · obtain rfl := cd1 (m := -1003) hc (by decide +kernel)
    refine ⟨_, rfl, Or.inr ⟨m1003, ⟨_, e.sO (Or.inl rfl), H1⟩, fun q => ?_⟩⟩
    rw [e.nr] at hz3
    omega
set_option maxHeartbeats 2000000 in
theorem z_publ (HW : WS G h A σ) {n : Int32} (hn : ¬ inR n (npk σ)) : PMet G ML_of 14 9 112 [.ref (A 0 0), .int n, .int 5] h (QL G A σ (.int (-1001))) noX := by
  obtain ⟨σ1, e, H⟩ := HW
  have h6 := H.iv.1
  rw [← e.np] at hn
  refine (w_of5 G h H.c0 (c_publish G h H n) (fun r h1 q => by obtain ⟨p, g, -, -, -, -, -, -, -, e, -⟩ := q; exact ⟨_, e⟩) (fun C h1 q => by rcases q with ⟨-, e, -⟩ | ⟨p, g, -, -, -, -, -, ⟨e, -⟩ | ⟨e, -⟩⟩; exact Or.inl e; exact Or.inr (Or.inl e); exact Or.inr (Or.inr e))).mono (fun r h2 q => ?_) (fun _ _ q => q)
  rcases q with ⟨v, ⟨p', g, hp', rfl, -⟩, rfl⟩ | ⟨C, n', ⟨rfl, rfl, z⟩ | ⟨p', g, hp', rfl, -⟩, hc, rfl⟩
  · exact absurd (inR_of (np_lt (by omega)) hp') hn
  · obtain rfl := cd1 (m := -1001) hc (by decide +kernel)
    exact ⟨rfl, σ1, e, H⟩
  · exact absurd (inR_of (np_lt (by omega)) hp') hn
/-- yanked: the law's row is to say so -/
def KY2 (σ : sT) (r : Nat) : Int32 → aT → sT → (Nat → Nat) → Prop := fun _ _ σ' ofr' => JD (setI σ' 61 r (upd (σ'.1 61 r) 2 1)) ofr' (nrl σ') ∧ nrl σ' = nrl σ
set_option maxHeartbeats 2000000 in
theorem x_yank (HW : WS G h A σ) (HJ : J σ ofr N) (HD : JD σ ofr (nrl σ)) {r0 : Nat} (hr : r0 < nrl σ) : PMet G ML_release 7 3 18 [.ref (A 0 0), .int (nI (ofr r0)), .int (σ.1 40 r0 0), .int 0] h (QX G A σ N (KY2 σ r0) True) noX := by
  have hr20 := HW.n20
  obtain ⟨σ1, e, H⟩ := HW
  have h6 := H.iv.1
  have h20 := H.iv.2.2.1
  have J1 := HJ.es e
  have hr1 : r0 < nrl σ1 := by rw [e.nr]; exact hr
  have hp1 : ofr r0 < npk σ1 := J1.2.2.1.1 r0 hr1
  have hf := fdV_of J1.2.2.1 J1.2.2.2.1 (r := r0) (by omega) hr1
  rw [show σ.1 40 r0 0 = σ1.1 40 r0 0 by rw [e.I 40 rfl]]
  refine (w_rel0 G h H.c0 (c_yank G h H (nI (ofr r0)) (σ1.1 40 r0 0)) (fun r h1 q => by obtain ⟨p, r0, -, -, -, -, -, e, -⟩ := q; exact ⟨_, e⟩) (fun C h1 q => by rcases q.2 with ⟨e, -⟩ | ⟨p, -, -, ⟨e, -⟩ | ⟨r0, e, -⟩⟩; exact Or.inl e; exact Or.inr (Or.inl e); exact Or.inr (Or.inr e))).mono (fun r h2 q => ?_) (fun _ _ q => q)
  rcases q with ⟨v, ⟨p', r1, hp', hn, hf', hr', -, ev, H1, -⟩, rfl⟩ | ⟨C, n', ⟨rfl, ⟨rfl, z⟩ | ⟨p', hp', hn, ⟨rfl, z⟩ | ⟨r1, rfl, z⟩⟩⟩, hc, rfl⟩
  · obtain rfl := np_eq (n := npk σ1) (by omega) hp1 hp' hn
    rw [hf] at hf'
    cases hf'
    cases ev
    obtain ⟨c, c1, c2⟩ := stN_nat (setI σ1 40 r0 (upd (σ1.1 40 r0) 2 1)) (nrl σ1)
    refine ⟨_, rfl, Or.inl ⟨by rw [c2]; exact nI_nn (by omega), _, _, ofr, ⟨rfl, rfl⟩, H1, (J_ya J1).mono (by omega), fun x hx => ?_, e.nr⟩⟩
    have hx1 : x < nrl σ := by rw [← e.nr]; exact hx
    obtain ⟨d1, d2, d3⟩ := HD.es e x hx1
    by_cases q : x = r0
    · subst q
      have a61 : (setI (setI σ1 40 x (upd (σ1.1 40 x) 2 1)) 61 x (upd ((setI σ1 40 x (upd (σ1.1 40 x) 2 1)).1 61 x) 2 1)).1 61 x = upd (σ1.1 61 x) 2 1 := (setI_s (σ := setI σ1 40 x (upd (σ1.1 40 x) 2 1)) 61 x _)
      have a40 : (setI (setI σ1 40 x (upd (σ1.1 40 x) 2 1)) 61 x (upd ((setI σ1 40 x (upd (σ1.1 40 x) 2 1)).1 61 x) 2 1)).1 40 x = upd (σ1.1 40 x) 2 1 := (setI_n (Or.inl (by decide))).trans (setI_s _ _ _)
      rw [a61, a40]
      exact ⟨(if_neg (by decide)).trans d1, (if_neg (by decide)).trans (d2.trans (if_neg (by decide)).symm), (upd_s _ _ _).trans (upd_s _ _ _).symm⟩
    · have a61 : (setI (setI σ1 40 r0 (upd (σ1.1 40 r0) 2 1)) 61 r0 (upd ((setI σ1 40 r0 (upd (σ1.1 40 r0) 2 1)).1 61 r0) 2 1)).1 61 x = σ1.1 61 x := (setI_n (Or.inr q)).trans (setI_n (Or.inr q))
      have a40 : (setI (setI σ1 40 r0 (upd (σ1.1 40 r0) 2 1)) 61 r0 (upd ((setI σ1 40 r0 (upd (σ1.1 40 r0) 2 1)).1 61 r0) 2 1)).1 40 x = σ1.1 40 x := (setI_n (Or.inr q)).trans (setI_n (Or.inr q))
      rw [a61, a40]
      exact ⟨d1, d2, d3⟩
  · exact absurd (inR_of (np_lt (by omega)) hp1) z
  · obtain rfl := np_eq (n := npk σ1) (by omega) hp1 hp' hn
    rw [hf] at z
    cases z
  · obtain rfl := cd1 (m := -1003) hc (by decide +kernel)
    exact ⟨_, rfl, Or.inr ⟨m1003, ⟨σ1, e, H⟩, trivial⟩⟩
/-- locked anew: it isn't stale -/
def KR (σ : sT) (r : Nat) : Int32 → aT → sT → (Nat → Nat) → Prop := fun v A' σ' ofr' => KP σ v A' σ' ofr' ∧ ¬ stl σ' r
set_option maxHeartbeats 2000000 in
theorem x_relock (HW : WS G h A σ) (HJ : J σ ofr N) (HD : JD σ ofr (nrl σ)) {r0 : Nat} (hr : r0 < nrl σ) : PMet G ML_release 14 4 24 [.ref (A 0 0), .int (nI (ofr r0)), .int (σ.1 40 r0 0), .int 2] h (QX G A σ N (KR σ r0) True) noX := by
  obtain ⟨σ1, e, H⟩ := HW
  have h6 := H.iv.1
  have J1 := HJ.es e
  have hr1 : r0 < nrl σ1 := by rw [e.nr]; exact hr
  have hp1 : ofr r0 < npk σ1 := J1.2.2.1.1 r0 hr1
  have hf := fdV_of J1.2.2.1 J1.2.2.2.1 (r := r0) (by omega) hr1
  rw [show σ.1 40 r0 0 = σ1.1 40 r0 0 by rw [e.I 40 rfl]]
  refine (w_rel2 G h H.c0 (c_relock G h H (nI (ofr r0)) (σ1.1 40 r0 0)) (fun r h1 q => by obtain ⟨p, r0, g, -, -, -, -, -, -, -, e, -⟩ := q; exact ⟨_, e⟩) (fun C h1 q => by rcases q with ⟨-, ⟨e, -⟩ | ⟨p, -, -, ⟨e, -⟩ | ⟨r0, e, -⟩⟩⟩ | ⟨e, -⟩; exact Or.inl e; exact Or.inr (Or.inl e); exact Or.inr (Or.inr (Or.inl e)); exact Or.inr (Or.inr (Or.inr e)))).mono (fun r h2 q => ?_) (fun _ _ q => q)
  rcases q with ⟨v, ⟨p', r1, g, hp', hn, hf', hr', -, hs, hgb, ev, H1, -⟩, rfl⟩ | ⟨C, n', ⟨rfl, ⟨rfl, z⟩ | ⟨p', hp', hn, ⟨rfl, z⟩ | ⟨r1, rfl, z⟩⟩⟩ | ⟨rfl, p', r1, hp', hn, hf', -, -, -, H1, -⟩, hc, rfl⟩
  · obtain rfl := np_eq (n := npk σ1) (by omega) hp1 hp' hn
    rw [hf] at hf'
    cases hf'
    cases ev
    obtain ⟨c, c1, c2⟩ := cdN_nat (σ1.2.2 45 r0) g 6
    have hgo := fun j x (hx : g j = some x) => srch_of J1.2.2.1 (by omega) hs hx
    have D1 : JD (setO (setO σ1 9 0 g) 45 r0 g) ofr (nrl σ1) := by rw [e.nr]; exact D_re (HD.es e)
    exact ⟨_, rfl, Or.inl ⟨by rw [c2]; exact nI_nn (by omega), _, _, ofr, ⟨rfl, rfl⟩, H1, (J_re J1 (fun j x hx => ⟨(hgo j x hx).2.1, (hgo j x hx).1⟩)).mono (by omega), ⟨D1, e.nr⟩, re_ok (fun j x hx => (hgo j x hx).2.2.2)⟩⟩
  · exact absurd (inR_of (np_lt (by omega)) hp1) z
  · obtain rfl := np_eq (n := npk σ1) (by omega) hp1 hp' hn
    rw [hf] at z
    cases z
  · obtain rfl := cd1 (m := -1003) hc (by decide +kernel)
    exact ⟨_, rfl, Or.inr ⟨m1003, ⟨σ1, e, H⟩, trivial⟩⟩
  · obtain rfl := cd1 (m := -1004) hc (by decide +kernel)
    exact ⟨_, rfl, Or.inr ⟨m1004, ⟨_, e.sO (Or.inl rfl), H1⟩, trivial⟩⟩
end WRT
