/-! calls that are refused: what they tell; nothing changes -/
section RFS
variable {G : hG} {h : hp} {A : aT} {σ : sT} {ofr : Nat → Nat} {N : Nat}
theorem z_pack (HW : WS G h A σ) {n : Int32} (hn : ¬ (0 ≤ n ∧ n < 3)) : PMet G ML_pack 8 17 108 [.ref (A 0 0), .int n] h (QL G A σ (.int (-1001))) noX := by
  obtain ⟨σ1, e, H⟩ := HW
  refine (w_pack G h H.c0 (c_addPack G h H n) (fun r h1 q => ⟨_, q.2.2.1⟩) (fun C h1 q => q.2.imp (·.1) (·.1))).mono (fun r h2 q => ?_) (fun _ _ q => q)
  rcases q with ⟨v, ⟨h9, -⟩, -⟩ | ⟨C, n', ⟨rfl, ⟨rfl, z⟩ | ⟨rfl, z1, z2⟩⟩, hc, rfl⟩
  · exact absurd h9 hn
  · obtain rfl := cd1 (m := -1001) hc (by decide +kernel)
    exact ⟨rfl, σ1, e, H⟩
  · exact absurd z1 hn
theorem z_src1 (HW : WS G h A σ) {n f b : Int32} (hn : ¬ inR n (npk σ)) : PMet G ML_source 6 2 12 [.ref (A 0 0), .int n, .int f, .int b] h (QL G A σ (.int (-1001))) noX := by
  have h6 := HW.n6
  obtain ⟨σ1, e, H⟩ := HW
  rw [← e.np] at hn
  refine (w_source G h H.c0 (c_setSource G h H n f b) (fun r h1 q => by obtain ⟨p, -, -, -, -, e, -⟩ := q; exact ⟨_, e⟩) (fun C h1 q => q.2.imp (·.1) (·.1))).mono (fun r h2 q => ?_) (fun _ _ q => q)
  rcases q with ⟨v, ⟨p, hp, rfl, -⟩, -⟩ | ⟨C, n', ⟨rfl, ⟨rfl, z⟩ | ⟨rfl, z1, z2⟩⟩, hc, rfl⟩
  · exact absurd (inR_of (np_lt (by have := H.iv.1; omega)) hp) hn
  · obtain rfl := cd1 (m := -1001) hc (by decide +kernel)
    exact ⟨rfl, σ1, e, H⟩
  · exact absurd z1 hn
theorem z_src2 (HW : WS G h A σ) {n f b : Int32} (hn : inR n (npk σ)) (hb : ¬ (rg9 f ∧ rg9 b)) : PMet G ML_source 6 2 12 [.ref (A 0 0), .int n, .int f, .int b] h (QL G A σ (.int (-1002))) noX := by
  obtain ⟨σ1, e, H⟩ := HW
  rw [← e.np] at hn
  refine (w_source G h H.c0 (c_setSource G h H n f b) (fun r h1 q => by obtain ⟨p, -, -, -, -, e, -⟩ := q; exact ⟨_, e⟩) (fun C h1 q => q.2.imp (·.1) (·.1))).mono (fun r h2 q => ?_) (fun _ _ q => q)
  rcases q with ⟨v, ⟨p, hp, hn9, h1, h2, -⟩, -⟩ | ⟨C, n', ⟨rfl, ⟨rfl, z⟩ | ⟨rfl, z1, z2⟩⟩, hc, rfl⟩
  · exact absurd ⟨h1, h2⟩ hb
  · exact absurd hn z
  · obtain rfl := cd1 (m := -1002) hc (by decide +kernel)
    exact ⟨rfl, σ1, e, H⟩
theorem z_nd1 (HW : WS G h A σ) {n o l g : Int32} (hm : ¬ l = -1) (hn : ¬ (inR n (npk σ) ∧ inR o (npk σ))) : PMet G ML_need 6 3 18 [.ref (A 0 0), .int n, .int o, .int l, .int g] h (QL G A σ (.int (-1001))) noX := by
  obtain ⟨σ1, e, H⟩ := HW
  have h6 := H.iv.1
  rw [← e.np] at hn
  refine (w_needN G h H.c0 (c_need G h H n o l g) (fun r h1 q => by obtain ⟨p, q, -, -, -, -, -, e, -⟩ := q; exact ⟨_, e⟩) (fun C h1 q => q.2.imp (·.1) (·.1)) hm).mono (fun r h2 q => ?_) (fun _ _ q => q)
  rcases q with ⟨v, ⟨p, q, hp, rfl, rfl, hqp, -⟩, -⟩ | ⟨C, n', ⟨rfl, ⟨rfl, z⟩ | ⟨rfl, z1, z2⟩⟩, hc, rfl⟩
  · exact absurd ⟨inR_of (np_lt (by omega)) hp, inR_of (np_lt (by omega)) (Nat.lt_trans hqp hp)⟩ hn
  · obtain rfl := cd1 (m := -1001) hc (by decide +kernel)
    exact ⟨rfl, σ1, e, H⟩
  · exact absurd z1 hn
theorem z_nd2 (HW : WS G h A σ) {n o l g : Int32} (hm : ¬ l = -1) (hn : inR n (npk σ) ∧ inR o (npk σ)) (hb : ¬ (o < n ∧ rgV l g)) : PMet G ML_need 6 3 18 [.ref (A 0 0), .int n, .int o, .int l, .int g] h (QL G A σ (.int (-1002))) noX := by
  obtain ⟨σ1, e, H⟩ := HW
  have h6 := H.iv.1
  rw [← e.np] at hn
  refine (w_needN G h H.c0 (c_need G h H n o l g) (fun r h1 q => by obtain ⟨p, q, -, -, -, -, -, e, -⟩ := q; exact ⟨_, e⟩) (fun C h1 q => q.2.imp (·.1) (·.1)) hm).mono (fun r h2 q => ?_) (fun _ _ q => q)
  rcases q with ⟨v, ⟨p, q, hp, rfl, rfl, hqp, hv, -⟩, -⟩ | ⟨C, n', ⟨rfl, ⟨rfl, z⟩ | ⟨rfl, z1, z2⟩⟩, hc, rfl⟩
  · exact absurd ⟨(nI_ltI (by omega) (by omega)).mpr hqp, hv⟩ hb
  · exact absurd hn z
  · obtain rfl := cd1 (m := -1002) hc (by decide +kernel)
    exact ⟨rfl, σ1, e, H⟩
theorem z_dn1 (HW : WS G h A σ) {n o g : Int32} (hn : ¬ (inR n (npk σ) ∧ inR o (npk σ))) : PMet G ML_need 6 3 18 [.ref (A 0 0), .int n, .int o, .int (-1), .int g] h (QL G A σ (.int (-1001))) noX := by
  obtain ⟨σ1, e, H⟩ := HW
  have h6 := H.iv.1
  rw [← e.np] at hn
  refine (w_needD G h H.c0 (c_dropNeed G h H n o) (fun r h1 q => by obtain ⟨p, q, -, -, -, -, -, e, -⟩ := q; exact ⟨_, e⟩) (fun C h1 q => q.2.imp (·.1) (·.1))).mono (fun r h2 q => ?_) (fun _ _ q => q)
  rcases q with ⟨v, ⟨p, q, hp, hq, rfl, rfl, -⟩, -⟩ | ⟨C, n', ⟨rfl, ⟨rfl, z⟩ | ⟨rfl, p, q, hp, hq, rfl, rfl, -⟩⟩, hc, rfl⟩
  · exact absurd ⟨inR_of (np_lt (by omega)) hp, inR_of (np_lt (by omega)) hq⟩ hn
  · obtain rfl := cd1 (m := -1001) hc (by decide +kernel)
    exact ⟨rfl, σ1, e, H⟩
  · exact absurd ⟨inR_of (np_lt (by omega)) hp, inR_of (np_lt (by omega)) hq⟩ hn
theorem z_dn2 (HW : WS G h A σ) (HJ : J σ ofr N) (h0 : 0 < npk σ) {g : Int32} : PMet G ML_need 6 3 18 [.ref (A 0 0), .int 0, .int 0, .int (-1), .int g] h (QL G A σ (.int (-1002))) noX := by
  obtain ⟨σ1, e, H⟩ := HW
  have h6 := H.iv.1
  have hn : inR (nI 0) (npk σ1) := by rw [e.np]; exact inR_of (np_lt (by rw [← e.np]; omega)) h0
  refine (w_needD G h H.c0 (c_dropNeed G h H 0 0) (fun r h1 q => by obtain ⟨p, q, -, -, -, -, -, e, -⟩ := q; exact ⟨_, e⟩) (fun C h1 q => q.2.imp (·.1) (·.1))).mono (fun r h2 q => ?_) (fun _ _ q => q)
  rcases q with ⟨v, ⟨p, q, hp, hq, e1, e2, hne, -⟩, -⟩ | ⟨C, n', ⟨rfl, ⟨rfl, z⟩ | ⟨rfl, -⟩⟩, hc, rfl⟩
  · have p0 : p = 0 := nI_inj (b := 0) (by omega) (by omega) e1.symm
    have q0 : q = 0 := nI_inj (b := 0) (by omega) (by omega) e2.symm
    subst p0
    subst q0
    exact absurd ((HJ.es e).2.1 0 hp 0 (Nat.le_refl 0) (by omega)) hne
  · exact absurd ⟨hn, hn⟩ z
  · obtain rfl := cd1 (m := -1002) hc (by decide +kernel)
    exact ⟨rfl, σ1, e, H⟩
theorem z_of0 (HW : WS G h A σ) {n : Int32} (hn : ¬ inR n (npk σ)) : PMet G ML_of 14 2 12 [.ref (A 0 0), .int n, .int 0] h (QL G A σ (.int (-1001))) noX := by
  obtain ⟨σ1, e, H⟩ := HW
  have h6 := H.iv.1
  rw [← e.np] at hn
  refine (w_of0 G h H.c0 (c_compile G h H n) (fun r h1 q => by obtain ⟨p, g, -, -, -, -, ⟨-, e, -⟩ | ⟨-, e, -⟩⟩ := q; exact ⟨_, e, Or.inl rfl⟩; exact ⟨_, e, Or.inr rfl⟩) (fun C h1 q => by rcases q with ⟨-, e, -⟩ | ⟨e, -⟩; exact Or.inl e; exact Or.inr e)).mono (fun r h2 q => ?_) (fun _ _ q => q)
  rcases q with ⟨v, ⟨p, g, hp, rfl, -⟩, -⟩ | ⟨C, n', ⟨rfl, rfl, z⟩ | ⟨rfl, p, hp, rfl, -⟩, hc, rfl⟩
  · exact absurd (inR_of (np_lt (by omega)) hp) hn
  · obtain rfl := cd1 (m := -1001) hc (by decide +kernel)
    exact ⟨rfl, σ1, e, H⟩
  · exact absurd (inR_of (np_lt (by omega)) hp) hn
theorem z_of1 (HW : WS G h A σ) (HJ : J σ ofr N) {n : Int32} (hn : ¬ inR n (npk σ)) : PMet G ML_of 14 3 18 [.ref (A 0 0), .int n, .int 1] h (QL G A σ (.int (-1001))) noX := by
  obtain ⟨σ1, e, H⟩ := HW
  have h6 := H.iv.1
  have J1 := HJ.es e
  rw [← e.np] at hn
  refine (w_of1 G h H.c0 (c_test G h H J1.1.2.2 J1.cn n) (fun r h1 q => by obtain ⟨p, o, g, -, -, -, -, -, -, -, -, e, -⟩ := q; exact ⟨_, e⟩) (fun C h1 q => by rcases q with ⟨-, e, -⟩ | ⟨e, -⟩ | ⟨e, -⟩; exact Or.inl e; exact Or.inr (Or.inl e); exact Or.inr (Or.inr e))).mono (fun r h2 q => ?_) (fun _ _ q => q)
  rcases q with ⟨v, ⟨p, o, g, hp, rfl, -⟩, -⟩ | ⟨C, n', ⟨rfl, rfl, z⟩ | ⟨rfl, p, hp, rfl, -⟩ | ⟨rfl, p, o, g, hp, rfl, -⟩, hc, rfl⟩
  · exact absurd (inR_of (np_lt (by omega)) hp) hn
  · obtain rfl := cd1 (m := -1001) hc (by decide +kernel)
    exact ⟨rfl, σ1, e, H⟩
  · exact absurd (inR_of (np_lt (by omega)) hp) hn
  · exact absurd (inR_of (np_lt (by omega)) hp) hn
theorem z_at1 (HW : WS G h A σ) {n ln : Int32} (hn : ¬ inR n (npk σ)) : PMet G ML_addTest 8 4 59 [.ref (A 0 0), .int n, .int ln] h (QL G A σ (.int (-1001))) noX := by
  obtain ⟨σ1, e, H⟩ := HW
  have h6 := H.iv.1
  rw [← e.np] at hn
  refine (w_addT G h H.c0 (c_addTest G h H n ln) (fun r h1 q => by obtain ⟨p, -, -, -, -, e, -⟩ := q; exact ⟨_, e⟩) (fun C h1 q => q.2.imp (·.1) (fun z => z.imp (·.1) (·.1)))).mono (fun r h2 q => ?_) (fun _ _ q => q)
  rcases q with ⟨v, ⟨p, hp, rfl, -⟩, -⟩ | ⟨C, n', ⟨rfl, ⟨rfl, z⟩ | ⟨rfl, z1, z2⟩ | ⟨rfl, z1, z2, z3⟩⟩, hc, rfl⟩
  · exact absurd (inR_of (np_lt (by omega)) hp) hn
  · obtain rfl := cd1 (m := -1001) hc (by decide +kernel)
    exact ⟨rfl, σ1, e, H⟩
  · exact absurd z1 hn
  · exact absurd z1 hn
theorem z_at2 (HW : WS G h A σ) {n ln : Int32} (hn : inR n (npk σ)) (hl : ¬ (1 ≤ ln ∧ ln ≤ 60)) : PMet G ML_addTest 8 4 59 [.ref (A 0 0), .int n, .int ln] h (QL G A σ (.int (-1002))) noX := by
  obtain ⟨σ1, e, H⟩ := HW
  rw [← e.np] at hn
  refine (w_addT G h H.c0 (c_addTest G h H n ln) (fun r h1 q => by obtain ⟨p, -, -, -, -, e, -⟩ := q; exact ⟨_, e⟩) (fun C h1 q => q.2.imp (·.1) (fun z => z.imp (·.1) (·.1)))).mono (fun r h2 q => ?_) (fun _ _ q => q)
  rcases q with ⟨v, ⟨p, hp, hn9, hl9, -⟩, -⟩ | ⟨C, n', ⟨rfl, ⟨rfl, z⟩ | ⟨rfl, z1, z2⟩ | ⟨rfl, z1, z2, z3⟩⟩, hc, rfl⟩
  · exact absurd hl9 hl
  · exact absurd hn z
  · obtain rfl := cd1 (m := -1002) hc (by decide +kernel)
    exact ⟨rfl, σ1, e, H⟩
  · exact absurd z2 hl
theorem z_ts1 (HW : WS G h A σ) {n : Int32} (hn : ¬ inR n (nts σ)) : PMet G ML_tests 6 1 6 [.ref (A 0 0), .int n, .int 1] h (QL G A σ (.int (-1001))) noX := by
  obtain ⟨σ1, e, H⟩ := HW
  have h8 := H.iv.2.1
  rw [← e.nt] at hn
  refine (w_ts1 G h H.c0 (c_setFail G h H n (x := 1) (Or.inr rfl)) (fun r h1 q => by obtain ⟨t, ht, -, e, -⟩ := q; exact ⟨_, e, (H.iv.2.2.2.2.2.2.2.2.2.2 t ht).1⟩) (fun C h1 q => q.2.1)).mono (fun r h2 q => ?_) (fun _ _ q => q)
  rcases q with ⟨v, ⟨t, ht, rfl, -⟩, -⟩ | ⟨C, n', ⟨rfl, rfl, z⟩, hc, rfl⟩
  · exact absurd (inR_of (np_lt (by omega)) ht) hn
  · obtain rfl := cd1 (m := -1001) hc (by decide +kernel)
    exact ⟨rfl, σ1, e, H⟩
theorem z_mm (HW : WS G h A σ) {m x : Int32} (hm : ¬ (1 ≤ m ∧ m ≤ 4)) : PMet G ML_money 2 1 6 [.ref (A 0 0), .int 109, .int m, .int x] h (QL G A σ (.int (-1001))) noX := by
  obtain ⟨σ1, e, H⟩ := HW
  refine (w_mon_m G h H.c0 (c_setMach G h H m) (fun r h1 q => ⟨_, q.2.1⟩) (fun C h1 q => q.2.1)).mono (fun r h2 q => ?_) (fun _ _ q => q)
  rcases q with ⟨v, ⟨h9, -⟩, -⟩ | ⟨C, n', ⟨rfl, rfl, z⟩, hc, rfl⟩
  · exact absurd h9 hm
  · obtain rfl := cd1 (m := -1001) hc (by decide +kernel)
    exact ⟨rfl, σ1, e, H⟩
theorem z_mf (HW : WS G h A σ) {o m : Int32} (hm : ¬ ((0 ≤ o ∧ o < 3) ∧ 1 ≤ m ∧ m ≤ 9999)) : PMet G ML_money 4 2 12 [.ref (A 0 0), .int 102, .int o, .int m] h (QL G A σ (.int (-1001))) noX := by
  obtain ⟨σ1, e, H⟩ := HW
  refine (w_mon_f G h H.c0 (c_fund G h H o m) (fun r h1 q => by obtain ⟨j, -, -, -, e, -⟩ := q; exact ⟨_, e⟩) (fun C h1 q => q.2.1)).mono (fun r h2 q => ?_) (fun _ _ q => q)
  rcases q with ⟨v, ⟨j, hj, rfl, hl, -⟩, -⟩ | ⟨C, n', ⟨rfl, rfl, z⟩, hc, rfl⟩
  · exact absurd ⟨inR_of (k := 3) (by decide) hj, hl⟩ hm
  · obtain rfl := cd1 (m := -1001) hc (by decide +kernel)
    exact ⟨rfl, σ1, e, H⟩
/-- no release has the version 99 -/
theorem fd99 (HJ : J σ ofr N) (h6 : npk σ ≤ 6) {p : Nat} (hp : p < npk σ) : fdV σ p 99 0 (rnp σ p) = none := by
  cases hf : fdV σ p 99 0 (rnp σ p) with
  | none => rfl
  | some r =>
    obtain ⟨j, -, h2, h3, h4⟩ := fdV_ex p 99 _ 0 hf
    obtain ⟨a, -, -⟩ := HJ.2.2.1.ix (q := p) (i := j) (by omega) (by omega)
    rw [h3] at a
    have z := (HJ.2.2.2.1.1 r a).2.1
    rw [h4] at z
    exact absurd z (by decide)
theorem z_rl0 (HW : WS G h A σ) {n v : Int32} (hn : ¬ inR n (npk σ)) : PMet G ML_release 7 3 18 [.ref (A 0 0), .int n, .int v, .int 0] h (QL G A σ (.int (-1001))) noX := by
  obtain ⟨σ1, e, H⟩ := HW
  have h6 := H.iv.1
  rw [← e.np] at hn
  refine (w_rel0 G h H.c0 (c_yank G h H n v) (fun r h1 q => by obtain ⟨p, r0, -, -, -, -, -, e, -⟩ := q; exact ⟨_, e⟩) (fun C h1 q => by rcases q.2 with ⟨e, -⟩ | ⟨p, -, -, ⟨e, -⟩ | ⟨r0, e, -⟩⟩; exact Or.inl e; exact Or.inr (Or.inl e); exact Or.inr (Or.inr e))).mono (fun r h2 q => ?_) (fun _ _ q => q)
  rcases q with ⟨v, ⟨p', r1, hp', rfl, -⟩, -⟩ | ⟨C, n', ⟨rfl, ⟨rfl, z⟩ | ⟨p', hp', rfl, -⟩⟩, hc, rfl⟩
  · exact absurd (inR_of (np_lt (by omega)) hp') hn
  · obtain rfl := cd1 (m := -1001) hc (by decide +kernel)
    exact ⟨rfl, σ1, e, H⟩
  · exact absurd (inR_of (np_lt (by omega)) hp') hn
theorem y_rl0 (HW : WS G h A σ) (HJ : J σ ofr N) (h0 : 0 < npk σ) : PMet G ML_release 7 3 18 [.ref (A 0 0), .int 0, .int 99, .int 0] h (QL G A σ (.int (-1002))) noX := by
  obtain ⟨σ1, e, H⟩ := HW
  have h6 := H.iv.1
  have h01 : 0 < npk σ1 := by rw [e.np]; exact h0
  have hf := fd99 (HJ.es e) h6 h01
  refine (w_rel0 G h H.c0 (c_yank G h H 0 99) (fun r h1 q => by obtain ⟨p, r0, -, -, -, -, -, e, -⟩ := q; exact ⟨_, e⟩) (fun C h1 q => by rcases q.2 with ⟨e, -⟩ | ⟨p, -, -, ⟨e, -⟩ | ⟨r0, e, -⟩⟩; exact Or.inl e; exact Or.inr (Or.inl e); exact Or.inr (Or.inr e))).mono (fun r h2 q => ?_) (fun _ _ q => q)
  have p0 : ∀ {p : Nat}, p < npk σ1 → (0 : Int32) = nI p → p = 0 := fun {p} hp hn => nI_inj (b := 0) (by omega) (by omega) hn.symm
  rcases q with ⟨v, ⟨p', r1, hp', hn, hf', -⟩, -⟩ | ⟨C, n', ⟨rfl, ⟨rfl, z⟩ | ⟨p', hp', hn, ⟨rfl, z⟩ | ⟨r1, rfl, hf', z⟩⟩⟩, hc, rfl⟩
  · obtain rfl := p0 hp' hn
    rw [hf] at hf'
    cases hf'
  · exact absurd (inR_of (p := 0) (np_lt (by omega)) h01) z
  · obtain rfl := cd1 (m := -1002) hc (by decide +kernel)
    exact ⟨rfl, σ1, e, H⟩
  · obtain rfl := p0 hp' hn
    rw [hf] at hf'
    cases hf'
theorem z_rl1 (HW : WS G h A σ) {n v : Int32} (hn : ¬ inR n (npk σ)) : PMet G ML_release 7 2 12 [.ref (A 0 0), .int n, .int v, .int 1] h (QL G A σ (.int (-1001))) noX :=
  (g_rel1 HW n v).mono (fun r h2 q => by
    have h6 := HW.n6
    obtain ⟨w, ⟨p', r1, a, rfl, -⟩ | ⟨p', a, rfl, -⟩ | ⟨-, rfl⟩⟩ := q
    · exact absurd (inR_of (np_lt (by omega)) a) hn
    · exact absurd (inR_of (np_lt (by omega)) a) hn
    · exact ⟨rfl, w⟩) (fun _ _ q => q)
theorem y_rl1 (HW : WS G h A σ) (HJ : J σ ofr N) (h0 : 0 < npk σ) : PMet G ML_release 7 2 12 [.ref (A 0 0), .int 0, .int 99, .int 1] h (QL G A σ (.int (-1002))) noX :=
  (g_rel1 HW 0 99).mono (fun r h2 q => by
    have h6 := HW.n6
    have hf := fd99 HJ h6 h0
    obtain ⟨w, ⟨p', r1, a, b, c, -⟩ | ⟨p', a, b, c, rfl⟩ | ⟨z, -⟩⟩ := q
    · obtain rfl : p' = 0 := nI_inj (b := 0) (by omega) (by omega) b.symm
      rw [hf] at c
      cases c
    · exact ⟨rfl, w⟩
    · exact absurd (inR_of (p := 0) (np_lt (by omega)) h0) z) (fun _ _ q => q)
theorem z_rl2 (HW : WS G h A σ) {n v : Int32} (hn : ¬ inR n (npk σ)) : PMet G ML_release 14 4 24 [.ref (A 0 0), .int n, .int v, .int 2] h (QL G A σ (.int (-1001))) noX := by
  obtain ⟨σ1, e, H⟩ := HW
  have h6 := H.iv.1
  rw [← e.np] at hn
  refine (w_rel2 G h H.c0 (c_relock G h H n v) (fun r h1 q => by obtain ⟨p, r0, g, -, -, -, -, -, -, -, e, -⟩ := q; exact ⟨_, e⟩) (fun C h1 q => by rcases q with ⟨-, ⟨e, -⟩ | ⟨p, -, -, ⟨e, -⟩ | ⟨r0, e, -⟩⟩⟩ | ⟨e, -⟩; exact Or.inl e; exact Or.inr (Or.inl e); exact Or.inr (Or.inr (Or.inl e)); exact Or.inr (Or.inr (Or.inr e)))).mono (fun r h2 q => ?_) (fun _ _ q => q)
  rcases q with ⟨v, ⟨p', r1, g, hp', rfl, -⟩, -⟩ | ⟨C, n', ⟨rfl, ⟨rfl, z⟩ | ⟨p', hp', rfl, -⟩⟩ | ⟨rfl, p', r1, hp', rfl, -⟩, hc, rfl⟩
  · exact absurd (inR_of (np_lt (by omega)) hp') hn
  · obtain rfl := cd1 (m := -1001) hc (by decide +kernel)
    exact ⟨rfl, σ1, e, H⟩
  · exact absurd (inR_of (np_lt (by omega)) hp') hn
  · exact absurd (inR_of (np_lt (by omega)) hp') hn
theorem y_rl2 (HW : WS G h A σ) (HJ : J σ ofr N) (h0 : 0 < npk σ) : PMet G ML_release 14 4 24 [.ref (A 0 0), .int 0, .int 99, .int 2] h (QL G A σ (.int (-1002))) noX := by
  obtain ⟨σ1, e, H⟩ := HW
  have h6 := H.iv.1
  have h01 : 0 < npk σ1 := by rw [e.np]; exact h0
  have hf := fd99 (HJ.es e) h6 h01
  refine (w_rel2 G h H.c0 (c_relock G h H 0 99) (fun r h1 q => by obtain ⟨p, r0, g, -, -, -, -, -, -, -, e, -⟩ := q; exact ⟨_, e⟩) (fun C h1 q => by rcases q with ⟨-, ⟨e, -⟩ | ⟨p, -, -, ⟨e, -⟩ | ⟨r0, e, -⟩⟩⟩ | ⟨e, -⟩; exact Or.inl e; exact Or.inr (Or.inl e); exact Or.inr (Or.inr (Or.inl e)); exact Or.inr (Or.inr (Or.inr e)))).mono (fun r h2 q => ?_) (fun _ _ q => q)
  have p0 : ∀ {p : Nat}, p < npk σ1 → (0 : Int32) = nI p → p = 0 := fun {p} hp hn => nI_inj (b := 0) (by omega) (by omega) hn.symm
  rcases q with ⟨v, ⟨p', r1, g, hp', hn, hf', -⟩, -⟩ | ⟨C, n', ⟨rfl, ⟨rfl, z⟩ | ⟨p', hp', hn, ⟨rfl, z⟩ | ⟨r1, rfl, hf', z⟩⟩⟩ | ⟨rfl, p', r1, hp', hn, hf', -⟩, hc, rfl⟩
  · obtain rfl := p0 hp' hn
    rw [hf] at hf'
    cases hf'
  · exact absurd (inR_of (p := 0) (np_lt (by omega)) h01) z
  · obtain rfl := cd1 (m := -1002) hc (by decide +kernel)
    exact ⟨rfl, σ1, e, H⟩
  · obtain rfl := p0 hp' hn
    rw [hf] at hf'
    cases hf'
  · obtain rfl := p0 hp' hn
    rw [hf] at hf'
    cases hf'
theorem z_rlL (HW : WS G h A σ) {n v : Int32} (hn : ¬ inR n (npk σ)) : PMet G ML_release 7 3 18 [.ref (A 0 0), .int n, .int v, .int 10] h (QL G A σ (.int (-1001))) noX :=
  (g_relL HW n v 10 (by decide) (by decide) (by decide)).mono (fun r h2 q => by
    have h6 := HW.n6
    obtain ⟨w, ⟨p', q', r1, a, -, rfl, -⟩ | ⟨-, p', a, rfl, -⟩ | ⟨-, rfl⟩⟩ := q
    · exact absurd (inR_of (np_lt (by omega)) a) hn
    · exact absurd (inR_of (np_lt (by omega)) a) hn
    · exact ⟨rfl, w⟩) (fun _ _ q => q)
theorem y_rlL (HW : WS G h A σ) (HJ : J σ ofr N) (h0 : 0 < npk σ) : PMet G ML_release 7 3 18 [.ref (A 0 0), .int 0, .int 99, .int 10] h (QL G A σ (.int (-1002))) noX :=
  (g_relL HW 0 99 10 (by decide) (by decide) (by decide)).mono (fun r h2 q => by
    have h6 := HW.n6
    have hf := fd99 HJ h6 h0
    have hin : inR (nI 0) (npk σ) := inR_of (np_lt (by omega)) h0
    obtain ⟨w, ⟨p', q', r1, a, -, b, -, c, -⟩ | ⟨-, p', a, b, c, rfl⟩ | ⟨z, -⟩⟩ := q
    · obtain rfl : p' = 0 := nI_inj (b := 0) (by omega) (by omega) b.symm
      rw [hf] at c
      cases c
    · exact ⟨rfl, w⟩
    · exact absurd ⟨hin, hin⟩ z) (fun _ _ q => q)
theorem neg_in {n : Nat} : ¬ inR (-1) n := fun z => absurd z.1 (by decide)
theorem fk_0 (h0 : nts σ = 0) : aFk σ = -1001 := if_pos h0
theorem fk_n (HJ : J σ ofr N) (h8 : nts σ ≤ 8) (h0 : ¬ nts σ = 0) : ¬ aFk σ = -1001 := by
  obtain ⟨f, f1, f2, -⟩ := fk_lt HJ (Nat.pos_of_ne_zero h0)
  rw [f2]
  intro z
  exact nI_nn (w := f) (by omega) (by rw [z]; decide)
end RFS
