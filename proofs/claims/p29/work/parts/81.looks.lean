/-! the calls that only look, over the state but for what is scratch -/
theorem nI_inj {a b : Nat} (ha : a < 2147483648) (hb : b < 2147483648) (e : nI a = nI b) : a = b := by
  have z := congrArg Int32.toInt e
  rw [nI_toInt (by omega), nI_toInt (by omega)] at z
  omega
theorem np_lt {n : Nat} (h : n ≤ 20) : n < 2147483648 := by omega
theorem np_eq {p q n : Nat} (hn : n ≤ 20) (hp : p < n) (hq : q < n) (e : nI p = nI q) : p = q := nI_inj (by omega) (by omega) e
abbrev QL (G : hG) (A : aT) (σ : sT) (v : Value) : Option Value → hp → Prop := fun r h2 => r = some v ∧ WS G h2 A σ
noncomputable def aCho (σ : sT) (p q : Nat) : Int32 := match srS σ p with
  | some g => vG σ (g q)
  | none => -1002
noncomputable def aCan (σ : sT) (p : Nat) : Int32 := dit (pubC σ p) 1 0
def aTm (σ : sT) (p : Nat) : Int32 := (tOu σ.1 (σ.1 0 0 0).toNatClampNeg (nI p) (nts σ) 60).2
def aFy (σ : sT) (t : Nat) : Int32 := ctN (σ.1 51 t) (xCn σ t)
def aFk (σ : sT) : Int32 := if nts σ = 0 then -1001 else nI (fkB σ (nts σ)).1
noncomputable def aSt (σ : sT) (r : Nat) : Int32 := dit (stl σ r) 1 0
noncomputable def aGd (σ : sT) : UInt32 := if nrl σ = 0 then 3212836864 else FP.fdiv (FP.i2f (gdN σ (nrl σ))) (FP.i2f (nI (nrl σ)))
section LK
variable {G : hG} {h : hp} {A : aT} {σ : sT} {ofr : Nat → Nat} {N : Nat}
theorem WS.c0 (HW : WS G h A σ) : ∃ fs, h (A 0 0) = some (oB 12 fs) := by
  obtain ⟨σ1, -, H⟩ := HW
  exact ⟨_, H.c0⟩
theorem WS.n6 (HW : WS G h A σ) : npk σ ≤ 6 := by
  obtain ⟨σ1, e, H⟩ := HW
  rw [← e.np]; exact H.iv.1
theorem WS.n8 (HW : WS G h A σ) : nts σ ≤ 8 := by
  obtain ⟨σ1, e, H⟩ := HW
  rw [← e.nt]; exact H.iv.2.1
theorem WS.n20 (HW : WS G h A σ) : nrl σ ≤ 20 := by
  obtain ⟨σ1, e, H⟩ := HW
  rw [← e.nr]; exact H.iv.2.2.1
theorem cd1 {cd : List (String × Int32)} {C : String} {n m : Int32} (h1 : cd.lookup C = some n) (h2 : cd.lookup C = some m) : n = m := Option.some.inj (h1.symm.trans h2)
set_option maxHeartbeats 1000000 in
theorem g_of4 (HW : WS G h A σ) (n : Int32) : PMet G ML_of 6 1 6 [.ref (A 0 0), .int n, .int 4] h (fun r h2 => WS G h2 A σ ∧ ((∃ p, p < npk σ ∧ n = nI p ∧ r = some (.int (vAh σ p))) ∨ (¬ inR n (npk σ) ∧ r = some (.int (-1001))))) noX := by
  obtain ⟨σ1, e, H⟩ := HW
  refine (w_of4 G h H.c0 (c_nextV G h H n) (fun r h1 q => by obtain ⟨p, -, -, e, -⟩ := q; exact ⟨_, e⟩) (fun C h1 q => q.2.1)).mono (fun r h2 q => ?_) (fun _ _ q => q)
  rcases q with ⟨v, ⟨p, hp, hn, ev, rfl⟩, rfl⟩ | ⟨C, n', ⟨rfl, rfl, z⟩, hc, rfl⟩
  · cases ev
    exact ⟨⟨σ1, e, H⟩, Or.inl ⟨p, by rw [← e.np]; exact hp, hn, by rw [vAh_es e]⟩⟩
  · obtain rfl := cd1 (m := -1001) hc (by decide +kernel)
    exact ⟨⟨σ1, e, H⟩, Or.inr ⟨by rw [← e.np]; exact z, rfl⟩⟩
set_option maxHeartbeats 1000000 in
theorem g_of3 (HW : WS G h A σ) (n : Int32) : PMet G ML_of 14 1 6 [.ref (A 0 0), .int n, .int 3] h (fun r h2 => WS G h2 A σ ∧ ((∃ p, p < npk σ ∧ n = nI p ∧ r = some (.int (aCan σ p))) ∨ (¬ inR n (npk σ) ∧ r = some (.int (-1001))))) noX := by
  obtain ⟨σ1, e, H⟩ := HW
  refine (w_of3 G h H.c0 (c_canPub G h H n) (fun r h1 q => by obtain ⟨p, -, -, g, -, -, -, ⟨g', -, -, e⟩ | ⟨-, e⟩⟩ := q; exact ⟨_, e, Or.inr rfl⟩; exact ⟨_, e, Or.inl rfl⟩) (fun C h1 q => q.2.1)).mono (fun r h2 q => ?_) (fun _ _ q => q)
  rcases q with ⟨v, ⟨p, hp, hn, g, -, H1, -, hz⟩, rfl⟩ | ⟨C, n', ⟨rfl, rfl, z⟩, hc, rfl⟩
  · refine ⟨⟨_, e.sO (Or.inl rfl), H1⟩, Or.inl ⟨p, by rw [← e.np]; exact hp, hn, ?_⟩⟩
    unfold aCan
    rcases hz with ⟨g', a, b, ev⟩ | ⟨z, ev⟩
    · cases ev
      rw [dit_t ((pub_es e p).mp ⟨g', a, b⟩)]
    · cases ev
      rw [dit_f (fun q => z ((pub_es e p).mpr q))]
  · obtain rfl := cd1 (m := -1001) hc (by decide +kernel)
    exact ⟨⟨σ1, e, H⟩, Or.inr ⟨by rw [← e.np]; exact z, rfl⟩⟩
set_option maxHeartbeats 1000000 in
theorem g_of2 (HW : WS G h A σ) (HJ : J σ ofr N) (n : Int32) : PMet G ML_of 5 1 6 [.ref (A 0 0), .int n, .int 2] h (fun r h2 => WS G h2 A σ ∧ ((∃ p, p < npk σ ∧ n = nI p ∧ r = some (.int (aTm σ p))) ∨ (¬ inR n (npk σ) ∧ r = some (.int (-1001))))) noX := by
  obtain ⟨σ1, e, H⟩ := HW
  obtain ⟨M, m1, m2, hM⟩ := HJ.1.1
  have hM1 : σ1.1 0 0 0 = nI M := by rw [e.I 0 rfl]; exact hM
  refine (w_of2 G h H.c0 (c_testTime G h H hM1 m1 m2 n) (fun r h1 q => by obtain ⟨p, -, -, e, -⟩ := q; exact ⟨_, e⟩) (fun C h1 q => q.2.1)).mono (fun r h2 q => ?_) (fun _ _ q => q)
  rcases q with ⟨v, ⟨p, hp, hn, ev, rfl⟩, rfl⟩ | ⟨C, n', ⟨rfl, rfl, z⟩, hc, rfl⟩
  · cases ev
    refine ⟨⟨_, e.sI (t := 14) (i := 0) (Or.inr rfl), H.wI (t := 14) (i := 0) rfl (by decide) (iv_setI H.iv (by decide)) rfl⟩, Or.inl ⟨p, by rw [← e.np]; exact hp, hn, ?_⟩⟩
    unfold aTm
    rw [hM, show (nI M).toNatClampNeg = M from nI_clamp (by omega), e.nt, tOu_cg (e.I 50 rfl)]
  · obtain rfl := cd1 (m := -1001) hc (by decide +kernel)
    exact ⟨⟨σ1, e, H⟩, Or.inr ⟨by rw [← e.np]; exact z, rfl⟩⟩
theorem ES.cs {σ1 σ2 : sT} (e : ES σ σ1) (h : ∃ gw tk gf, pkB σ1 gw ∧ pkB σ1 gf ∧ (σ2 = setO σ1 9 0 gf ∨ σ2 = sAl σ1 gw tk gf)) : ES σ σ2 := by
  obtain ⟨gw, tk, gf, -, -, rfl | rfl⟩ := h
  · exact e.sO (Or.inl rfl)
  · exact e.al
theorem aCho_s {p q : Nat} {g : Nat → Option Nat} (hs : srS σ p = some g) : aCho σ p q = vG σ (g q) := by unfold aCho; rw [hs]
theorem aCho_n {p q : Nat} (hs : srS σ p = none) : aCho σ p q = -1002 := by unfold aCho; rw [hs]
set_option maxHeartbeats 1000000 in
theorem g_cho0 (HW : WS G h A σ) (n o : Int32) : PMet G ML_chosen 14 3 18 [.ref (A 0 0), .int n, .int o, .int 0] h (fun r h2 => WS G h2 A σ ∧ ((∃ p q, p < npk σ ∧ q < npk σ ∧ n = nI p ∧ o = nI q ∧ r = some (.int (aCho σ p q))) ∨ (¬ (inR n (npk σ) ∧ inR o (npk σ)) ∧ r = some (.int (-1001))))) noX := by
  obtain ⟨σ1, e, H⟩ := HW
  have h6 := H.iv.1
  refine (w_cho0 G h H.c0 (c_chosen G h H n o) (fun r h1 q => by obtain ⟨p, q, g', -, -, -, -, -, -, σ2, -, e, -⟩ := q; exact ⟨_, e⟩) (fun C h1 q => by rcases q with ⟨-, e, -⟩ | ⟨e, -⟩; exact Or.inl e; exact Or.inr e)).mono (fun r h2 q => ?_) (fun _ _ q => q)
  rcases q with ⟨v, ⟨p, q, g', hp, hq, hn, ho, hs, -, σ2, e2, ev, H1, -⟩, rfl⟩ | ⟨C, n', ⟨rfl, rfl, z⟩ | ⟨rfl, p, hp, hn, hin, hs, σ2, e2, H1, -⟩, hc, rfl⟩
  · cases ev
    rw [srS_es e] at hs
    exact ⟨⟨σ2, e.cs e2, H1⟩, Or.inl ⟨p, q, by rw [← e.np]; exact hp, by rw [← e.np]; exact hq, hn, ho, by rw [aCho_s hs, vG_es e]⟩⟩
  · obtain rfl := cd1 (m := -1001) hc (by decide +kernel)
    exact ⟨⟨σ1, e, H⟩, Or.inr ⟨by rw [← e.np]; exact z, rfl⟩⟩
  · obtain rfl := cd1 (m := -1002) hc (by decide +kernel)
    obtain ⟨q, hq, ho⟩ := inR_ex (by omega) hin
    rw [srS_es e] at hs
    exact ⟨⟨σ2, e.cs e2, H1⟩, Or.inl ⟨p, q, by rw [← e.np]; exact hp, by rw [← e.np]; exact hq, hn, ho, by rw [aCho_n hs]⟩⟩
set_option maxHeartbeats 1000000 in
theorem g_cho1 (HW : WS G h A σ) (HJ : J σ ofr N) (n o : Int32) : PMet G ML_chosen 14 3 18 [.ref (A 0 0), .int n, .int o, .int 1] h (fun r h2 => WS G h2 A σ ∧ ((∃ p q, p < npk σ ∧ q < npk σ ∧ n = nI p ∧ o = nI q ∧ r = some (.int (aCho σ p q))) ∨ (¬ (inR n (npk σ) ∧ inR o (npk σ)) ∧ r = some (.int (-1001))))) noX := by
  obtain ⟨σ1, e, H⟩ := HW
  have h6 := H.iv.1
  refine (w_cho1 G h H.c0 (c_chosenBA G h H (HJ.es e).2.1 n o) (fun r h1 q => by obtain ⟨p, q, g', -, -, -, -, -, -, σ2, -, e, -⟩ := q; exact ⟨_, e⟩) (fun C h1 q => by rcases q with ⟨-, e, -⟩ | ⟨e, -⟩; exact Or.inl e; exact Or.inr e)).mono (fun r h2 q => ?_) (fun _ _ q => q)
  rcases q with ⟨v, ⟨p, q, g', hp, hq, hn, ho, hs, -, σ2, e2, ev, H1, -⟩, rfl⟩ | ⟨C, n', ⟨rfl, rfl, z⟩ | ⟨rfl, p, hp, hn, hin, hs, σ2, e2, H1, -⟩, hc, rfl⟩
  · cases ev
    rw [srS_es e] at hs
    exact ⟨⟨σ2, e.cs e2, H1⟩, Or.inl ⟨p, q, by rw [← e.np]; exact hp, by rw [← e.np]; exact hq, hn, ho, by rw [aCho_s hs, vG_es e]⟩⟩
  · obtain rfl := cd1 (m := -1001) hc (by decide +kernel)
    exact ⟨⟨σ1, e, H⟩, Or.inr ⟨by rw [← e.np]; exact z, rfl⟩⟩
  · obtain rfl := cd1 (m := -1002) hc (by decide +kernel)
    obtain ⟨q, hq, ho⟩ := inR_ex (by omega) hin
    rw [srS_es e] at hs
    exact ⟨⟨σ2, e.cs e2, H1⟩, Or.inl ⟨p, q, by rw [← e.np]; exact hp, by rw [← e.np]; exact hq, hn, ho, by rw [aCho_n hs]⟩⟩
theorem J.cn {σ1 : sT} (HJ : J σ1 ofr N) : ∀ t, t < nts σ1 → ∃ c, c ≤ 8 ∧ σ1.1 50 t 3 = nI c := fun t ht => (HJ.2.2.2.2 t ht).2
set_option maxHeartbeats 1000000 in
theorem g_ts0 (HW : WS G h A σ) (HJ : J σ ofr N) (n : Int32) : PMet G ML_tests 6 1 6 [.ref (A 0 0), .int n, .int 0] h (fun r h2 => WS G h2 A σ ∧ ((∃ t, t < nts σ ∧ n = nI t ∧ r = some (.int (aFy σ t))) ∨ (¬ inR n (nts σ) ∧ r = some (.int (-1001))))) noX := by
  obtain ⟨σ1, e, H⟩ := HW
  refine (w_ts0 G h H.c0 (c_flaky G h H (HJ.es e).cn n) (fun r h1 q => by obtain ⟨p, -, -, e, -⟩ := q; exact ⟨_, e⟩) (fun C h1 q => q.2.1)).mono (fun r h2 q => ?_) (fun _ _ q => q)
  rcases q with ⟨v, ⟨t, hp, hn, ev, rfl⟩, rfl⟩ | ⟨C, n', ⟨rfl, rfl, z⟩, hc, rfl⟩
  · cases ev
    exact ⟨⟨σ1, e, H⟩, Or.inl ⟨t, by rw [← e.nt]; exact hp, hn, by rw [ct_es e]; rfl⟩⟩
  · obtain rfl := cd1 (m := -1001) hc (by decide +kernel)
    exact ⟨⟨σ1, e, H⟩, Or.inr ⟨by rw [← e.nt]; exact z, rfl⟩⟩
set_option maxHeartbeats 1000000 in
theorem k_flk (HW : WS G h A σ) (HJ : J σ ofr N) : PMet G ML_flakiest 4 1 6 [.ref (A 0 0)] h (QL G A σ (.int (aFk σ))) noX := by
  obtain ⟨σ1, e, H⟩ := HW
  refine (w_flk G h H.c0 (c_flakiest G h H (HJ.es e).cn) (fun r h1 q => ⟨_, q.2.2⟩) (fun C h1 q => q.1)).mono (fun r h2 q => ?_) (fun _ _ q => q)
  rcases q with ⟨v, ⟨rfl, hz, ev⟩, rfl⟩ | ⟨C, n', ⟨rfl, rfl, z⟩, hc, rfl⟩
  · cases ev
    refine ⟨?_, σ1, e, H⟩
    unfold aFk
    rw [e.nt] at hz
    rw [if_neg hz, e.nt, fkB_es e]
  · obtain rfl := cd1 (m := -1001) hc (by decide +kernel)
    refine ⟨?_, σ1, e, H⟩
    unfold aFk
    rw [e.nt] at z
    rw [if_pos z]
set_option maxHeartbeats 1000000 in
theorem g_mon_b (HW : WS G h A σ) (n x : Int32) : PMet G ML_money 4 1 6 [.ref (A 0 0), .int 98, .int n, .int x] h (fun r h2 => WS G h2 A σ ∧ ((∃ j, j < 3 ∧ n = nI j ∧ r = some (.int (σ.1 13 0 j))) ∨ (¬ (0 ≤ n ∧ n < 3) ∧ r = some (.int (-1001))))) noX := by
  obtain ⟨σ1, e, H⟩ := HW
  refine (w_mon_b G h H.c0 (c_budget G h H n) (fun r h1 q => by obtain ⟨p, -, -, e, -⟩ := q; exact ⟨_, e⟩) (fun C h1 q => q.1)).mono (fun r h2 q => ?_) (fun _ _ q => q)
  rcases q with ⟨v, ⟨j, hp, hn, ev, rfl⟩, rfl⟩ | ⟨C, n', ⟨rfl, rfl, z⟩, hc, rfl⟩
  · cases ev
    exact ⟨⟨σ1, e, H⟩, Or.inl ⟨j, hp, hn, by rw [e.I 13 rfl]⟩⟩
  · obtain rfl := cd1 (m := -1001) hc (by decide +kernel)
    exact ⟨⟨σ1, e, H⟩, Or.inr ⟨z, rfl⟩⟩
set_option maxHeartbeats 1000000 in
theorem g_rel1 (HW : WS G h A σ) (n v : Int32) : PMet G ML_release 7 2 12 [.ref (A 0 0), .int n, .int v, .int 1] h (fun r h2 => WS G h2 A σ ∧ ((∃ p r0, p < npk σ ∧ n = nI p ∧ fdV σ p v 0 (rnp σ p) = some r0 ∧ r = some (.int (aSt σ r0))) ∨ (∃ p, p < npk σ ∧ n = nI p ∧ fdV σ p v 0 (rnp σ p) = none ∧ r = some (.int (-1002))) ∨ (¬ inR n (npk σ) ∧ r = some (.int (-1001))))) noX := by
  obtain ⟨σ1, e, H⟩ := HW
  refine (w_rel1 G h H.c0 (c_isStale G h H n v) (fun r h1 q => by obtain ⟨-, p, r0, -, -, -, -, ⟨-, e⟩ | ⟨-, e⟩⟩ := q; exact ⟨_, e, Or.inr rfl⟩; exact ⟨_, e, Or.inl rfl⟩) (fun C h1 q => q.2.imp (fun z => z.1) (fun z => z.1))).mono (fun r h2 q => ?_) (fun _ _ q => q)
  rcases q with ⟨x, ⟨rfl, p, r0, hp, hn, hf, -, hz⟩, rfl⟩ | ⟨C, n', ⟨rfl, ⟨rfl, z⟩ | ⟨rfl, p, hp, hn, hf⟩⟩, hc, rfl⟩
  · refine ⟨⟨σ1, e, H⟩, Or.inl ⟨p, r0, by rw [← e.np]; exact hp, hn, by rw [← fdV_es e, ← e.rn]; exact hf, ?_⟩⟩
    unfold aSt
    rcases hz with ⟨a, ev⟩ | ⟨a, ev⟩
    · cases ev
      rw [dit_t ((stl_es e r0).mp a)]
    · cases ev
      rw [dit_f (fun q => a ((stl_es e r0).mpr q))]
  · obtain rfl := cd1 (m := -1001) hc (by decide +kernel)
    exact ⟨⟨σ1, e, H⟩, Or.inr (Or.inr ⟨by rw [← e.np]; exact z, rfl⟩)⟩
  · obtain rfl := cd1 (m := -1002) hc (by decide +kernel)
    exact ⟨⟨σ1, e, H⟩, Or.inr (Or.inl ⟨p, by rw [← e.np]; exact hp, hn, by rw [← fdV_es e, ← e.rn]; exact hf, rfl⟩)⟩
set_option maxHeartbeats 1000000 in
theorem g_relL (HW : WS G h A σ) (n v w : Int32) (w0 : ¬ w = 0) (w1 : ¬ w = 1) (w2 : ¬ w = 2) : PMet G ML_release 7 3 18 [.ref (A 0 0), .int n, .int v, .int w] h (fun r h2 => WS G h2 A σ ∧ ((∃ p q r0, p < npk σ ∧ q < npk σ ∧ n = nI p ∧ w - 10 = nI q ∧ fdV σ p v 0 (rnp σ p) = some r0 ∧ r0 < nrl σ ∧ r = some (.int (vG σ (σ.2.2 45 r0 q)))) ∨ (inR (w - 10) (npk σ) ∧ ∃ p, p < npk σ ∧ n = nI p ∧ fdV σ p v 0 (rnp σ p) = none ∧ r = some (.int (-1002))) ∨ (¬ (inR n (npk σ) ∧ inR (w - 10) (npk σ)) ∧ r = some (.int (-1001))))) noX := by
  obtain ⟨σ1, e, H⟩ := HW
  refine (w_relL G h H.c0 (c_locked G h H n v (w - 10)) (fun r h1 q => by obtain ⟨-, p, q, r0, -, -, -, -, -, -, e⟩ := q; exact ⟨_, e⟩) (fun C h1 q => q.2.imp (fun z => z.1) (fun z => z.1)) w0 w1 w2).mono (fun r h2 q => ?_) (fun _ _ q => q)
  rcases q with ⟨x, ⟨rfl, p, q, r0, hp, hq, hn, ho, hf, hr, ev⟩, rfl⟩ | ⟨C, n', ⟨rfl, ⟨rfl, z⟩ | ⟨rfl, hin, p, hp, hn, hf⟩⟩, hc, rfl⟩
  · cases ev
    exact ⟨⟨σ1, e, H⟩, Or.inl ⟨p, q, r0, by rw [← e.np]; exact hp, by rw [← e.np]; exact hq, hn, ho, by rw [← fdV_es e, ← e.rn]; exact hf, by rw [← e.nr]; exact hr, by rw [e.O 45 rfl, vG_es e]⟩⟩
  · obtain rfl := cd1 (m := -1001) hc (by decide +kernel)
    exact ⟨⟨σ1, e, H⟩, Or.inr (Or.inr ⟨by rw [← e.np]; exact z, rfl⟩)⟩
  · obtain rfl := cd1 (m := -1002) hc (by decide +kernel)
    exact ⟨⟨σ1, e, H⟩, Or.inr (Or.inl ⟨by rw [← e.np]; exact hin, p, by rw [← e.np]; exact hp, hn, by rw [← fdV_es e, ← e.rn]; exact hf, rfl⟩)⟩
set_option maxHeartbeats 1000000 in
theorem k_good (HW : WS G h A σ) : PMet G ML_good 4 1 6 [.ref (A 0 0)] h (QL G A σ (.float (aGd σ))) noX := by
  obtain ⟨σ1, e, H⟩ := HW
  refine (w_good G h H.c0 (c_good G h H) (fun r h1 q => ⟨_, q.2.2⟩) (fun C h1 q => q.1)).mono (fun r h2 q => ?_) (fun _ _ q => q)
  rcases q with ⟨v, ⟨rfl, hz, ev⟩, rfl⟩ | ⟨C, ⟨rfl, rfl, z⟩, rfl⟩
  · cases ev
    refine ⟨?_, σ1, e, H⟩
    unfold aGd
    rw [e.nr] at hz
    rw [if_neg hz, e.nr, gdN_es e]
  · refine ⟨?_, σ1, e, H⟩
    unfold aGd
    rw [e.nr] at z
    rw [if_pos z]
theorem k_comp (HW : WS G h A σ) : PMet G MX9_compiled 0 0 0 [.ref (A 0 0)] h (QL G A σ (.int (σ.1 0 0 1))) noX := by
  obtain ⟨σ1, e, H⟩ := HW
  refine (c_compiled G h H).mono (fun r h2 q => ?_) (fun _ _ q => q)
  obtain ⟨rfl, rfl⟩ := q
  exact ⟨by rw [e.I 0 rfl], σ1, e, H⟩
/-! the same at given places -/
theorem k_of4 (HW : WS G h A σ) {p : Nat} (hp : p < npk σ) : PMet G ML_of 6 1 6 [.ref (A 0 0), .int (nI p), .int 4] h (QL G A σ (.int (vAh σ p))) noX :=
  (g_of4 HW (nI p)).mono (fun r h2 q => by
    have h6 := HW.n6
    obtain ⟨w, ⟨p', a, b, rfl⟩ | ⟨z, -⟩⟩ := q
    · obtain rfl := np_eq (by omega) hp a b; exact ⟨rfl, w⟩
    · exact absurd (inR_of (np_lt (by omega)) hp) z) (fun _ _ q => q)
theorem x_of4 (HW : WS G h A σ) {n : Int32} (hn : ¬ inR n (npk σ)) : PMet G ML_of 6 1 6 [.ref (A 0 0), .int n, .int 4] h (QL G A σ (.int (-1001))) noX :=
  (g_of4 HW n).mono (fun r h2 q => by
    have h6 := HW.n6
    obtain ⟨w, ⟨p', a, rfl, -⟩ | ⟨-, rfl⟩⟩ := q
    · exact absurd (inR_of (np_lt (by omega)) a) hn
    · exact ⟨rfl, w⟩) (fun _ _ q => q)
theorem k_of3 (HW : WS G h A σ) {p : Nat} (hp : p < npk σ) : PMet G ML_of 14 1 6 [.ref (A 0 0), .int (nI p), .int 3] h (QL G A σ (.int (aCan σ p))) noX :=
  (g_of3 HW (nI p)).mono (fun r h2 q => by
    have h6 := HW.n6
    obtain ⟨w, ⟨p', a, b, rfl⟩ | ⟨z, -⟩⟩ := q
    · obtain rfl := np_eq (by omega) hp a b; exact ⟨rfl, w⟩
    · exact absurd (inR_of (np_lt (by omega)) hp) z) (fun _ _ q => q)
theorem x_of3 (HW : WS G h A σ) {n : Int32} (hn : ¬ inR n (npk σ)) : PMet G ML_of 14 1 6 [.ref (A 0 0), .int n, .int 3] h (QL G A σ (.int (-1001))) noX :=
  (g_of3 HW n).mono (fun r h2 q => by
    have h6 := HW.n6
    obtain ⟨w, ⟨p', a, rfl, -⟩ | ⟨-, rfl⟩⟩ := q
    · exact absurd (inR_of (np_lt (by omega)) a) hn
    · exact ⟨rfl, w⟩) (fun _ _ q => q)
theorem k_of2 (HW : WS G h A σ) (HJ : J σ ofr N) {p : Nat} (hp : p < npk σ) : PMet G ML_of 5 1 6 [.ref (A 0 0), .int (nI p), .int 2] h (QL G A σ (.int (aTm σ p))) noX :=
  (g_of2 HW HJ (nI p)).mono (fun r h2 q => by
    have h6 := HW.n6
    obtain ⟨w, ⟨p', a, b, rfl⟩ | ⟨z, -⟩⟩ := q
    · obtain rfl := np_eq (by omega) hp a b; exact ⟨rfl, w⟩
    · exact absurd (inR_of (np_lt (by omega)) hp) z) (fun _ _ q => q)
theorem x_of2 (HW : WS G h A σ) (HJ : J σ ofr N) {n : Int32} (hn : ¬ inR n (npk σ)) : PMet G ML_of 5 1 6 [.ref (A 0 0), .int n, .int 2] h (QL G A σ (.int (-1001))) noX :=
  (g_of2 HW HJ n).mono (fun r h2 q => by
    have h6 := HW.n6
    obtain ⟨w, ⟨p', a, rfl, -⟩ | ⟨-, rfl⟩⟩ := q
    · exact absurd (inR_of (np_lt (by omega)) a) hn
    · exact ⟨rfl, w⟩) (fun _ _ q => q)
theorem k_cho0 (HW : WS G h A σ) {p q : Nat} (hp : p < npk σ) (hq : q < npk σ) : PMet G ML_chosen 14 3 18 [.ref (A 0 0), .int (nI p), .int (nI q), .int 0] h (QL G A σ (.int (aCho σ p q))) noX :=
  (g_cho0 HW (nI p) (nI q)).mono (fun r h2 z => by
    have h6 := HW.n6
    obtain ⟨w, ⟨p', q', a, b, c, d, rfl⟩ | ⟨z, -⟩⟩ := z
    · obtain rfl := np_eq (by omega) hp a c; obtain rfl := np_eq (by omega) hq b d; exact ⟨rfl, w⟩
    · exact absurd ⟨inR_of (np_lt (by omega)) hp, inR_of (np_lt (by omega)) hq⟩ z) (fun _ _ q => q)
theorem x_cho0 (HW : WS G h A σ) {n o : Int32} (hn : ¬ (inR n (npk σ) ∧ inR o (npk σ))) : PMet G ML_chosen 14 3 18 [.ref (A 0 0), .int n, .int o, .int 0] h (QL G A σ (.int (-1001))) noX :=
  (g_cho0 HW n o).mono (fun r h2 z => by
    have h6 := HW.n6
    obtain ⟨w, ⟨p', q', a, b, rfl, rfl, -⟩ | ⟨-, rfl⟩⟩ := z
    · exact absurd ⟨inR_of (np_lt (by omega)) a, inR_of (np_lt (by omega)) b⟩ hn
    · exact ⟨rfl, w⟩) (fun _ _ q => q)
theorem k_cho1 (HW : WS G h A σ) (HJ : J σ ofr N) {p q : Nat} (hp : p < npk σ) (hq : q < npk σ) : PMet G ML_chosen 14 3 18 [.ref (A 0 0), .int (nI p), .int (nI q), .int 1] h (QL G A σ (.int (aCho σ p q))) noX :=
  (g_cho1 HW HJ (nI p) (nI q)).mono (fun r h2 z => by
    have h6 := HW.n6
    obtain ⟨w, ⟨p', q', a, b, c, d, rfl⟩ | ⟨z, -⟩⟩ := z
    · obtain rfl := np_eq (by omega) hp a c; obtain rfl := np_eq (by omega) hq b d; exact ⟨rfl, w⟩
    · exact absurd ⟨inR_of (np_lt (by omega)) hp, inR_of (np_lt (by omega)) hq⟩ z) (fun _ _ q => q)
theorem x_cho1 (HW : WS G h A σ) (HJ : J σ ofr N) {n o : Int32} (hn : ¬ (inR n (npk σ) ∧ inR o (npk σ))) : PMet G ML_chosen 14 3 18 [.ref (A 0 0), .int n, .int o, .int 1] h (QL G A σ (.int (-1001))) noX :=
  (g_cho1 HW HJ n o).mono (fun r h2 z => by
    have h6 := HW.n6
    obtain ⟨w, ⟨p', q', a, b, rfl, rfl, -⟩ | ⟨-, rfl⟩⟩ := z
    · exact absurd ⟨inR_of (np_lt (by omega)) a, inR_of (np_lt (by omega)) b⟩ hn
    · exact ⟨rfl, w⟩) (fun _ _ q => q)
theorem k_ts0 (HW : WS G h A σ) (HJ : J σ ofr N) {p : Nat} (hp : p < nts σ) : PMet G ML_tests 6 1 6 [.ref (A 0 0), .int (nI p), .int 0] h (QL G A σ (.int (aFy σ p))) noX :=
  (g_ts0 HW HJ (nI p)).mono (fun r h2 q => by
    have h6 := HW.n8
    obtain ⟨w, ⟨p', a, b, rfl⟩ | ⟨z, -⟩⟩ := q
    · obtain rfl := np_eq (by omega) hp a b; exact ⟨rfl, w⟩
    · exact absurd (inR_of (np_lt (by omega)) hp) z) (fun _ _ q => q)
theorem x_ts0 (HW : WS G h A σ) (HJ : J σ ofr N) {n : Int32} (hn : ¬ inR n (nts σ)) : PMet G ML_tests 6 1 6 [.ref (A 0 0), .int n, .int 0] h (QL G A σ (.int (-1001))) noX :=
  (g_ts0 HW HJ n).mono (fun r h2 q => by
    have h6 := HW.n8
    obtain ⟨w, ⟨p', a, rfl, -⟩ | ⟨-, rfl⟩⟩ := q
    · exact absurd (inR_of (np_lt (by omega)) a) hn
    · exact ⟨rfl, w⟩) (fun _ _ q => q)
theorem k_mon_b (HW : WS G h A σ) {j : Nat} {x : Int32} (hj : j < 3) : PMet G ML_money 4 1 6 [.ref (A 0 0), .int 98, .int (nI j), .int x] h (QL G A σ (.int (σ.1 13 0 j))) noX :=
  (g_mon_b HW (nI j) x).mono (fun r h2 q => by
    obtain ⟨w, ⟨p', a, b, rfl⟩ | ⟨z, -⟩⟩ := q
    · obtain rfl := np_eq (n := 3) (by omega) hj a b; exact ⟨rfl, w⟩
    · exact absurd (inR_of (k := 3) (by decide) hj) z) (fun _ _ q => q)
theorem x_mon_b (HW : WS G h A σ) {n x : Int32} (hn : ¬ (0 ≤ n ∧ n < 3)) : PMet G ML_money 4 1 6 [.ref (A 0 0), .int 98, .int n, .int x] h (QL G A σ (.int (-1001))) noX :=
  (g_mon_b HW n x).mono (fun r h2 q => by
    obtain ⟨w, ⟨p', a, rfl, -⟩ | ⟨-, rfl⟩⟩ := q
    · exact absurd (inR_of (k := 3) (by decide) a) hn
    · exact ⟨rfl, w⟩) (fun _ _ q => q)
/-- of a release by its number -/
theorem k_rel1 (HW : WS G h A σ) (HJ : J σ ofr N) {r0 : Nat} (hr : r0 < nrl σ) : PMet G ML_release 7 2 12 [.ref (A 0 0), .int (nI (ofr r0)), .int (σ.1 40 r0 0), .int 1] h (QL G A σ (.int (aSt σ r0))) noX :=
  (g_rel1 HW (nI (ofr r0)) (σ.1 40 r0 0)).mono (fun r h2 q => by
    have h6 := HW.n6
    have hp := HJ.2.2.1.1 r0 hr
    have hf := fdV_of HJ.2.2.1 HJ.2.2.2.1 (r := r0) (by omega) hr
    obtain ⟨w, ⟨p', r1, a, b, c, rfl⟩ | ⟨p', a, b, c, -⟩ | ⟨z, -⟩⟩ := q
    · obtain rfl := np_eq (by omega) hp a b
      rw [hf] at c
      cases c
      exact ⟨rfl, w⟩
    · obtain rfl := np_eq (by omega) hp a b
      rw [hf] at c
      cases c
    · exact absurd (inR_of (np_lt (by omega)) hp) z) (fun _ _ q => q)
theorem sub10 (q : Nat) : nI (10 + q) - 10 = nI q := by
  have e : nI q + nI 10 = nI (10 + q) := (nI_add_ _ _).trans (by rw [Nat.add_comm])
  rw [← e]
  exact Int32.add_sub_cancel _ _
theorem k_relL (HW : WS G h A σ) (HJ : J σ ofr N) {r0 q : Nat} (hr : r0 < nrl σ) (hq : q < npk σ) : PMet G ML_release 7 3 18 [.ref (A 0 0), .int (nI (ofr r0)), .int (σ.1 40 r0 0), .int (nI (10 + q))] h (QL G A σ (.int (vG σ (σ.2.2 45 r0 q)))) noX := by
  have h6 := HW.n6
  have ne : ∀ k : Nat, k < 10 → ¬ nI (10 + q) = nI k := fun k hk z => by have := nI_inj (by omega) (by omega) z; omega
  exact (g_relL HW (nI (ofr r0)) (σ.1 40 r0 0) (nI (10 + q)) (ne 0 (by omega)) (ne 1 (by omega)) (ne 2 (by omega))).mono (fun r h2 z => by
    have hp := HJ.2.2.1.1 r0 hr
    have hf := fdV_of HJ.2.2.1 HJ.2.2.2.1 (r := r0) (by omega) hr
    rw [sub10] at z
    obtain ⟨w, ⟨p', q', r1, a, a2, b, b2, c, -, rfl⟩ | ⟨-, p', a, b, c, -⟩ | ⟨z, -⟩⟩ := z
    · obtain rfl := np_eq (by omega) hp a b
      obtain rfl := np_eq (by omega) hq a2 b2
      rw [hf] at c
      cases c
      exact ⟨rfl, w⟩
    · obtain rfl := np_eq (by omega) hp a b
      rw [hf] at c
      cases c
    · exact absurd ⟨inR_of (np_lt (by omega)) hp, inR_of (np_lt (by omega)) hq⟩ z) (fun _ _ q => q)
end LK
