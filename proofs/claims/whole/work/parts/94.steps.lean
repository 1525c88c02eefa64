/-! each call of both sides: answers and what is left -/
def G3 (G : hG) (A : aT) (o oD : Nat) (k : Int32) (h3 : hp) (b : Int32) : Prop := ∃ A' σ' ofr', INV G h3 A' σ' ofr' o oD ∧ A' 0 0 = A 0 0 ∧ A' 60 0 = A 60 0 ∧ σ'.1 60 0 7 = k ∧ (k = 0 → ∃ f, h3 o = some (aL 1 f) ∧ f 0 = Int32.toInt64 b)
def STEP (G : hG) (h : hp) (A : aT) (o oD : Nat) (Mw Mm : hMI) (kw mcw msw km mcm msm : Nat) (aw am : List Value) : Prop := ∃ Qw, PMet G Mw kw mcw msw aw h Qw noX ∧ ∀ r1 h2, Qw r1 h2 → ∃ k, r1 = some (.int k) ∧ (∃ fs, h2 (A 60 0) = some (oB 13 fs)) ∧ ∃ Qm, PMet G Mm km mcm msm am h2 Qm noX ∧ ∀ r3 h3, Qm r3 h3 → ∃ b, r3 = some (.int b) ∧ G3 G A o oD k h3 b
def STEPB (G : hG) (h : hp) (A : aT) (o oD : Nat) (Mw Mm : hMI) (kw mcw msw km mcm msm : Nat) (aw am : List Value) : Prop := ∃ Qw, PMet G Mw kw mcw msw aw h Qw noX ∧ ∀ r1 h2, Qw r1 h2 → ∃ k, r1 = some (.int k) ∧ (∃ fs, h2 (A 60 0) = some (oB 13 fs)) ∧ ∃ Qm, PMet G Mm km mcm msm am h2 Qm noX ∧ ∀ r3 h3, Qm r3 h3 → ∃ b, r3 = some (.int b) ∧ b01 b ∧ G3 G A o oD k h3 b
section STP
variable {G : hG} {h h1 h2 h3 : hp} {A A1 : aT} {σ σ1 σm : sT} {ofr ofr' : Nat → Nat} {o oD : Nat}
theorem fin0 {f' : Nat → Int64} (M : MID G A σ (va_up h1 o (some (aL 1 f'))) A1 σ1 o oD) (W : WM G h3 A σm) (F : FM A (va_up h1 o (some (aL 1 f'))) h3) (R : REL (mixS σ1 σm) ofr') {v b : Int32} (hf : f' 0 = Int32.toInt64 v) (e : v = b) (h7 : σm.1 60 0 7 = 0) : G3 G A o oD 0 h3 b := by
  obtain ⟨I, e0, e60, ko, -⟩ := M.fin W F R
  exact ⟨A1, _, _, I, e0, e60, h7, fun _ => ⟨f', ko _ trivial (va_up_self _ _ _), e ▸ hf⟩⟩
theorem finX (M : MID G A σ h2 A1 σ1 o oD) (W : WM G h3 A σm) (F : FM A h2 h3) (R : REL (mixS σ1 σm) ofr') {k b : Int32} (h7 : σm.1 60 0 7 = k) (hk : ¬ k = 0) : G3 G A o oD k h3 b := by
  obtain ⟨I, e0, e60, ko, -⟩ := M.fin W F R
  exact ⟨A1, _, _, I, e0, e60, h7, fun z => absurd z hk⟩
theorem REL.mb (h : REL σ ofr) : MB σ := h.1.1
theorem REL.rs (h : REL σ ofr) : RS σ := h.2.1
theorem REL.rc (h : REL σ ofr) : RC σ := h.2.2.1
theorem REL.rp (h : REL σ ofr) : RP σ ofr := h.2.2.2.1
theorem REL.rr (h : REL σ ofr) : RR σ ofr := h.2.2.2.2.1
theorem REL.rt (h : REL σ ofr) : RT σ := h.2.2.2.2.2.1
theorem np_lt {n : Nat} (h : n ≤ 20) : n < 2147483648 := by omega
theorem np_eq {p q n : Nat} (hn : n ≤ 20) (hp : p < n) (hq : q < n) (e : nI p = nI q) : p = q := nI_inj (by omega) (by omega) e
theorem EQM.ts {q ar e2 cap2 : Nat} {nu ln mc : Int32} {g2 : Nat → Option Nat} : EQM A (tsA A σ q ar e2) σ (tsS σ nu ln mc e2 cap2 g2) := by
  refine ⟨fun t i a b => ?_, fun t i a b => ?_, rfl⟩
  · show tsI σ nu ln mc t i = _
    unfold tsI
    rw [if_neg (by omega), if_neg (by omega), if_neg (by omega)]
  · show (if t = 50 ∧ i = nts σ then q else if t = 51 ∧ i = nts σ then ar else if t = 4 then e2 else A t i) = _
    rw [if_neg (by omega), if_neg (by omega), if_neg (by omega)]
theorem EQM.pk {nw : Nat → Nat} {e2 cap2 : Nat} {ow mc : Int32} {g2 : Nat → Option Nat} : EQM A (pkA A σ nw e2) σ (pkS G σ ow mc e2 cap2 g2) := by
  refine ⟨fun t i a b => ?_, fun t i a b => ?_, ?_⟩
  · show pkI σ ow mc t i = _
    unfold pkI
    rw [if_neg (by omega), if_neg (by omega)]
  · show (if 20 ≤ t ∧ t ≤ 34 ∧ i = npk σ then nw t else if t = 2 then e2 else A t i) = _
    rw [if_neg (by omega), if_neg (by omega)]
  · show (if 20 ≤ 0 ∧ 0 ≤ 34 ∧ 0 = npk σ then nw 0 else if 0 = 2 then e2 else A 0 0) = _
    rw [if_neg (by omega), if_neg (by omega)]
theorem EQM.rl {p : Nat} {v f : Int32} {le gr : Nat → Int32} {nw : Nat → Nat} {g g' : Nat → Option Nat} {mc mc3 : Int32} {e2 cap2 e3 cap3 : Nat} {g2 g3 : Nat → Option Nat} : EQM A (rlA A (setO σ 9 0 g) p nw e2 e3) σ (rlS (setO σ 9 0 g) p v f le gr g' mc mc3 e2 cap2 e3 cap3 g2 g3) := by
  refine ⟨fun t i a b => ?_, fun t i a b => ?_, ?_⟩
  · show rlI (setO σ 9 0 g) p v f le gr mc mc3 t i = _
    unfold rlI
    rw [if_neg (by omega), if_neg (by omega), if_neg (by omega)]
    rfl
  · show (if isNR (setO σ 9 0 g) t i then nw t else if t = 35 ∧ i = p then e2 else if t = 6 then e3 else A t i) = _
    rw [if_neg (by omega), if_neg (by omega), if_neg (by omega)]
  · show (if isNR (setO σ 9 0 g) 0 0 then nw 0 else if 0 = 35 ∧ 0 = p then e2 else if 0 = 6 then e3 else A 0 0) = _
    rw [if_neg (by omega), if_neg (by omega), if_neg (by omega)]
theorem EQM.te {p o9 : Nat} {g : Nat → Option Nat} : EQM A A σ (teS σ p o9 g) := by
  refine ⟨fun t i a b => ?_, fun _ _ _ _ => rfl, rfl⟩
  show (setI (setI (setI (setI (rTs (pyS σ o9 (cstN σ.1 (nI p) (nts σ)) g) (nI p) (nts σ)) 27 p _) 28 p _) 30 p _) 31 p _).1 t i = _
  rw [setI_n (Or.inl (by omega)), setI_n (Or.inl (by omega)), setI_n (Or.inl (by omega)), setI_n (Or.inl (by omega)), rTs_o _ _ (by omega)]
  show (setI (setI (setO σ 9 0 g) 13 0 _) 0 0 _).1 t i = _
  rw [setI_n (Or.inl (by omega)), setI_n (Or.inl (by omega))]
  rfl
set_option maxHeartbeats 4000000 in
theorem st_addPackage (HI : INV G h A σ ofr o oD) (n : Int32) : STEP G h A o oD ML_addPackage MX10_addPackage 8 (0 + 17) (0 + 108) 1 0 0 [.ref (A 0 0), .int n, .ref o] [.ref (A 60 0), .int n] := by
  have H := HI.1
  have L := HI.2.1
  obtain ⟨f0, hf0⟩ := HI.2.2.1
  have hnp := H.iv.1
  have hnt := H.iv.2.1
  have hnr := H.iv.2.2.1
  refine ⟨_, w_addPackage G h H.c0 (c_addPack G h H n) (fun r h1 q => by obtain ⟨-, -, e, nw, e2, cap2, mc, g2, H1, F1⟩ := q; exact ⟨_, _, e, F1 _ _ hf0 trivial⟩) (fun C h1 q => q.2.imp (·.1) (·.1)), fun r1 h2 q => ?_⟩
  rcases q with ⟨v, h1, q, rfl, f', rfl, hf'⟩ | ⟨C, n', q, hcd, rfl⟩
  · obtain ⟨h9, h6, e, nw, e2, cap2, mc, g2, H1, F1⟩ := q
    have M0 := mid_of HI H1 F1 EQM.pk
    obtain ⟨f1, ho1⟩ := M0.2.2.1
    have M := M0.wr (f' := f') ho1
    refine ⟨0, rfl, ⟨_, M.2.1.c60⟩, _, c_maddPack G _ M.2.1 L.mb _, fun r3 h3 q3 => ?_⟩
    rcases q3 with ⟨z, -⟩ | ⟨-, z, -⟩ | ⟨-, -, rfl, W3, F3⟩
    · exact absurd h9 z
    · omega
    · cases e; exact ⟨_, rfl, fin0 M W3 F3 (R_ap L h6 h9) hf' rfl rfl⟩
  · obtain ⟨rfl, ⟨rfl, z⟩ | ⟨rfl, z1, z2⟩⟩ := q
    · obtain rfl : n' = 1 := Option.some.inj (hcd.symm.trans (by decide +kernel))
      have M := mid_of HI H FR.rfl' EQM.rf
      refine ⟨1, rfl, ⟨_, M.2.1.c60⟩, _, c_maddPack G _ M.2.1 L.mb _, fun r3 h3 q3 => ?_⟩
      rcases q3 with ⟨-, rfl, W3, F3⟩ | ⟨y, -⟩ | ⟨y, -⟩
      · exact ⟨_, rfl, finX M W3 F3 (ofr' := ofr) L rfl (by decide)⟩
      · exact absurd y z
      · exact absurd y z
    · obtain rfl : n' = 2 := Option.some.inj (hcd.symm.trans (by decide +kernel))
      have M := mid_of HI H FR.rfl' EQM.rf
      refine ⟨2, rfl, ⟨_, M.2.1.c60⟩, _, c_maddPack G _ M.2.1 L.mb _, fun r3 h3 q3 => ?_⟩
      rcases q3 with ⟨y, -⟩ | ⟨-, -, rfl, W3, F3⟩ | ⟨-, y, -⟩
      · exact absurd z1 y
      · exact ⟨_, rfl, finX M W3 F3 (ofr' := ofr) L rfl (by decide)⟩
      · omega
set_option maxHeartbeats 4000000 in
theorem st_setSource (HI : INV G h A σ ofr o oD) (n f b : Int32) : STEP G h A o oD ML_setSource MX10_setSource 6 (0 + 2) (0 + 12) 3 0 0 [.ref (A 0 0), .int n, .int f, .int b, .ref o] [.ref (A 60 0), .int n, .int f, .int b] := by
  have H := HI.1
  have L := HI.2.1
  obtain ⟨f0, hf0⟩ := HI.2.2.1
  have hnp := H.iv.1
  have hnt := H.iv.2.1
  have hnr := H.iv.2.2.1
  refine ⟨_, w_setSource G h H.c0 (c_setSource G h H n f b) (fun r h1 q => by obtain ⟨p, -, -, -, -, e, H1, F1⟩ := q; exact ⟨_, _, e, F1 _ _ hf0 trivial⟩) (fun C h1 q => q.2.imp (·.1) (·.1)), fun r1 h2 q => ?_⟩
  rcases q with ⟨v, h1, q, rfl, f', rfl, hf'⟩ | ⟨C, n', q, hcd, rfl⟩
  · obtain ⟨p, hp, rfl, hf, hb, e, H1, F1⟩ := q
    have M0 := mid_of HI H1 F1 (EQM.rf.sI (by decide))
    obtain ⟨f1, ho1⟩ := M0.2.2.1
    have M := M0.wr (f' := f') ho1
    refine ⟨0, rfl, ⟨_, M.2.1.c60⟩, _, c_msetSource G _ M.2.1 L.mb _ _ _, fun r3 h3 q3 => ?_⟩
    rcases q3 with ⟨z, -⟩ | ⟨p', hp', e', ⟨z, -⟩ | ⟨-, -, rfl, W3, F3⟩⟩
    · exact absurd (inR_of (np_lt (by omega)) hp) z
    · exact absurd ⟨hf, hb⟩ z
    · obtain rfl := np_eq (by omega) hp hp' e'; cases e; exact ⟨_, rfl, fin0 M W3 F3 (R_ss L hp hf) hf' (by obtain ⟨s1, s2, -⟩ := L.rs p hp; unfold ssV mSV; rw [s1, s2]) rfl⟩
  · obtain ⟨rfl, ⟨rfl, z⟩ | ⟨rfl, z1, z2⟩⟩ := q
    · obtain rfl : n' = 1 := Option.some.inj (hcd.symm.trans (by decide +kernel))
      have M := mid_of HI H FR.rfl' EQM.rf
      refine ⟨1, rfl, ⟨_, M.2.1.c60⟩, _, c_msetSource G _ M.2.1 L.mb _ _ _, fun r3 h3 q3 => ?_⟩
      rcases q3 with ⟨-, rfl, W3, F3⟩ | ⟨p', hp', rfl, -⟩
      · exact ⟨_, rfl, finX M W3 F3 (ofr' := ofr) L rfl (by decide)⟩
      · exact absurd (inR_of (np_lt (by omega)) hp') z
    · obtain rfl : n' = 2 := Option.some.inj (hcd.symm.trans (by decide +kernel))
      have M := mid_of HI H FR.rfl' EQM.rf
      refine ⟨2, rfl, ⟨_, M.2.1.c60⟩, _, c_msetSource G _ M.2.1 L.mb _ _ _, fun r3 h3 q3 => ?_⟩
      rcases q3 with ⟨y, -⟩ | ⟨p', hp', rfl, ⟨-, rfl, W3, F3⟩ | ⟨y1, y2, -⟩⟩
      · exact absurd z1 y
      · exact ⟨_, rfl, finX M W3 F3 (ofr' := ofr) L rfl (by decide)⟩
      · exact absurd ⟨y1, y2⟩ z2
set_option maxHeartbeats 4000000 in
theorem st_need (HI : INV G h A σ ofr o oD) (n o9 l g : Int32) : STEP G h A o oD ML_need MX10_need 6 (0 + 3) (0 + 18) 3 0 0 [.ref (A 0 0), .int n, .int o9, .int l, .int g, .ref o] [.ref (A 60 0), .int n, .int o9, .int l, .int g] := by
  have H := HI.1
  have L := HI.2.1
  obtain ⟨f0, hf0⟩ := HI.2.2.1
  have hnp := H.iv.1
  have hnt := H.iv.2.1
  have hnr := H.iv.2.2.1
  refine ⟨_, w_need G h H.c0 (c_need G h H n o9 l g) (fun r h1 q => by obtain ⟨p, q, -, -, -, -, -, e, H1, F1⟩ := q; exact ⟨_, _, e, F1 _ _ hf0 trivial⟩) (fun C h1 q => q.2.imp (·.1) (·.1)), fun r1 h2 q => ?_⟩
  rcases q with ⟨v, h1, q, rfl, f', rfl, hf'⟩ | ⟨C, n', q, hcd, rfl⟩
  · obtain ⟨p, q, hp, rfl, rfl, hqp, hrg, e, H1, F1⟩ := q
    have M0 := mid_of HI H1 F1 ((EQM.rf.sI (by decide)).sI (by decide))
    obtain ⟨f1, ho1⟩ := M0.2.2.1
    have M := M0.wr (f' := f') ho1
    refine ⟨0, rfl, ⟨_, M.2.1.c60⟩, _, c_mneed G _ M.2.1 L.mb _ _ _ _, fun r3 h3 q3 => ?_⟩
    rcases q3 with ⟨z, -⟩ | ⟨-, z, -⟩ | ⟨p', q', hp', hq', e', e'', -, -, rfl, W3, F3⟩
    · exact absurd ⟨inR_of (np_lt (by omega)) hp, inR_of (np_lt (by omega)) (Nat.lt_trans hqp hp)⟩ z
    · exact absurd ⟨(nI_ltI (by omega) (by omega)).mpr hqp, hrg⟩ z
    · obtain rfl := np_eq (by omega) hp hp' e'; obtain rfl := np_eq (by omega) (Nat.lt_trans hqp hp) hq' e''; cases e
      obtain ⟨s1, s2, s3, s4, s5, s6⟩ := L.rs p hp
      have hnb : nbk l g := Or.inr ⟨hrg.1.1, hrg.2.1, hrg.2.2⟩
      refine ⟨_, rfl, fin0 M W3 F3 (R_nd L hp hnb (Or.inl hqp)) hf' ?_ rfl⟩
      rw [bts_bc _ (upd (σ.1 24 p) q g) (fun j hj => ?_)]
      rw [s3]
      by_cases ej : j = q
      · subst ej; rw [upd_s, upd_s]; exact hnb
      · rw [show upd (σ.1 23 p) q l j = σ.1 23 p j from if_neg ej, show upd (σ.1 24 p) q g j = σ.1 24 p j from if_neg ej]; exact (s5 j hj).1
  · obtain ⟨rfl, ⟨rfl, z⟩ | ⟨rfl, z1, z2⟩⟩ := q
    · obtain rfl : n' = 1 := Option.some.inj (hcd.symm.trans (by decide +kernel))
      have M := mid_of HI H FR.rfl' EQM.rf
      refine ⟨1, rfl, ⟨_, M.2.1.c60⟩, _, c_mneed G _ M.2.1 L.mb _ _ _ _, fun r3 h3 q3 => ?_⟩
      rcases q3 with ⟨-, rfl, W3, F3⟩ | ⟨y, -⟩ | ⟨p', q', hp', hq', rfl, rfl, -⟩
      · exact ⟨_, rfl, finX M W3 F3 (ofr' := ofr) L rfl (by decide)⟩
      · exact absurd y z
      · exact absurd ⟨inR_of (np_lt (by omega)) hp', inR_of (np_lt (by omega)) hq'⟩ z
    · obtain rfl : n' = 2 := Option.some.inj (hcd.symm.trans (by decide +kernel))
      have M := mid_of HI H FR.rfl' EQM.rf
      refine ⟨2, rfl, ⟨_, M.2.1.c60⟩, _, c_mneed G _ M.2.1 L.mb _ _ _ _, fun r3 h3 q3 => ?_⟩
      rcases q3 with ⟨y, -⟩ | ⟨-, -, rfl, W3, F3⟩ | ⟨p', q', hp', hq', rfl, rfl, y1, y2, -⟩
      · exact absurd z1 y
      · exact ⟨_, rfl, finX M W3 F3 (ofr' := ofr) L rfl (by decide)⟩
      · exact absurd ⟨(nI_ltI (by omega) (by omega)).mpr y1, y2⟩ z2
set_option maxHeartbeats 4000000 in
theorem st_dropNeed (HI : INV G h A σ ofr o oD) (n o9 : Int32) : STEP G h A o oD ML_dropNeed MX10_dropNeed 6 (0 + 3) (0 + 18) 3 0 0 [.ref (A 0 0), .int n, .int o9, .ref o] [.ref (A 60 0), .int n, .int o9] := by
  have H := HI.1
  have L := HI.2.1
  obtain ⟨f0, hf0⟩ := HI.2.2.1
  have hnp := H.iv.1
  have hnt := H.iv.2.1
  have hnr := H.iv.2.2.1
  refine ⟨_, w_dropNeed G h H.c0 (c_dropNeed G h H n o9) (fun r h1 q => by obtain ⟨p, q, -, -, -, -, -, e, H1, F1⟩ := q; exact ⟨_, _, e, F1 _ _ hf0 trivial⟩) (fun C h1 q => q.2.imp (·.1) (·.1)), fun r1 h2 q => ?_⟩
  rcases q with ⟨v, h1, q, rfl, f', rfl, hf'⟩ | ⟨C, n', q, hcd, rfl⟩
  · obtain ⟨p, q, hp, hq, rfl, rfl, hne, e, H1, F1⟩ := q
    have M0 := mid_of HI H1 F1 ((EQM.rf.sI (by decide)).sI (by decide))
    obtain ⟨f1, ho1⟩ := M0.2.2.1
    have M := M0.wr (f' := f') ho1
    refine ⟨0, rfl, ⟨_, M.2.1.c60⟩, _, c_mdropNeed G _ M.2.1 L.mb _ _, fun r3 h3 q3 => ?_⟩
    obtain ⟨s1, s2, s3, s4, s5, s6⟩ := L.rs p hp
    rcases q3 with ⟨z, -⟩ | ⟨p', q', hp', hq', e', e'', ⟨z, -⟩ | ⟨-, rfl, W3, F3⟩⟩
    · exact absurd ⟨inR_of (np_lt (by omega)) hp, inR_of (np_lt (by omega)) hq⟩ z
    · obtain rfl := np_eq (by omega) hp hp' e'; obtain rfl := np_eq (by omega) hq hq' e''; rw [s3] at z; exact absurd ((nbk_z (s5 q (by omega)).1).mp z) hne
    · obtain rfl := np_eq (by omega) hp hp' e'; obtain rfl := np_eq (by omega) hq hq' e''; cases e
      refine ⟨_, rfl, fin0 M W3 F3 (R_nd L hp (Or.inl ⟨rfl, rfl⟩) (Or.inr rfl)) hf' ?_ rfl⟩
      rw [bts_bc _ (upd (σ.1 24 p) q 0) (fun j hj => ?_)]
      rw [s3]
      by_cases ej : j = q
      · subst ej; rw [upd_s, upd_s]; exact Or.inl ⟨rfl, rfl⟩
      · rw [show upd (σ.1 23 p) q 0 j = σ.1 23 p j from if_neg ej, show upd (σ.1 24 p) q 0 j = σ.1 24 p j from if_neg ej]; exact (s5 j hj).1
  · obtain ⟨rfl, ⟨rfl, z⟩ | ⟨rfl, p, q, hp, hq, rfl, rfl, hz0⟩⟩ := q
    · obtain rfl : n' = 1 := Option.some.inj (hcd.symm.trans (by decide +kernel))
      have M := mid_of HI H FR.rfl' EQM.rf
      refine ⟨1, rfl, ⟨_, M.2.1.c60⟩, _, c_mdropNeed G _ M.2.1 L.mb _ _, fun r3 h3 q3 => ?_⟩
      rcases q3 with ⟨-, rfl, W3, F3⟩ | ⟨p', q', hp', hq', rfl, rfl, -⟩
      · exact ⟨_, rfl, finX M W3 F3 (ofr' := ofr) L rfl (by decide)⟩
      · exact absurd ⟨inR_of (np_lt (by omega)) hp', inR_of (np_lt (by omega)) hq'⟩ z
    · obtain rfl : n' = 2 := Option.some.inj (hcd.symm.trans (by decide +kernel))
      obtain ⟨s1, s2, s3, s4, s5, s6⟩ := L.rs p hp
      have M := mid_of HI H FR.rfl' EQM.rf
      refine ⟨2, rfl, ⟨_, M.2.1.c60⟩, _, c_mdropNeed G _ M.2.1 L.mb _ _, fun r3 h3 q3 => ?_⟩
      rcases q3 with ⟨y, -⟩ | ⟨p', q', hp', hq', e', e'', ⟨-, rfl, W3, F3⟩ | ⟨y, -⟩⟩
      · exact absurd ⟨inR_of (np_lt (by omega)) hp, inR_of (np_lt (by omega)) hq⟩ y
      · exact ⟨_, rfl, finX M W3 F3 (ofr' := ofr) L rfl (by decide)⟩
      · obtain rfl := np_eq (by omega) hp hp' e'; obtain rfl := np_eq (by omega) hq hq' e''; rw [s3] at y; exact absurd ((nbk_z (s5 q (by omega)).1).mpr hz0) y
set_option maxHeartbeats 4000000 in
theorem st_chosen (HI : INV G h A σ ofr o oD) (n o9 : Int32) : STEP G h A o oD ML_chosen MX10_chosen 14 (0 + 3) (0 + 18) 11 0 0 [.ref (A 0 0), .int n, .int o9, .ref o] [.ref (A 60 0), .int n, .int o9] := by
  have H := HI.1
  have L := HI.2.1
  obtain ⟨f0, hf0⟩ := HI.2.2.1
  have hnp := H.iv.1
  have hnt := H.iv.2.1
  have hnr := H.iv.2.2.1
  refine ⟨_, w_chosen G h H.c0 (c_chosen G h H n o9) (fun r h1 q => by obtain ⟨p, q, g', -, -, -, -, -, -, σ2, -, e, H1, F1⟩ := q; exact ⟨_, _, e, F1 _ _ hf0 trivial⟩) (fun C h1 q => by rcases q with ⟨-, e, -⟩ | ⟨e, -⟩; exact Or.inl e; exact Or.inr e), fun r1 h2 q => ?_⟩
  rcases q with ⟨v, h1, q, rfl, f', rfl, hf'⟩ | ⟨C, n', q, hcd, rfl⟩
  · obtain ⟨p, q, g', hp, hq, rfl, rfl, hs, hgb, σ2, ⟨gw, tk, gf, -, -, hs2⟩, e, H1, F1⟩ := q
    have M0 := mid_of HI H1 F1 (by rcases hs2 with rfl | rfl; exact EQM.rf.sO; exact ((EQM.rf.sO (t := 11) (i := 0)).sI (t := 12) (i := 0) (by decide)).sO)
    obtain ⟨f1, ho1⟩ := M0.2.2.1
    have M := M0.wr (f' := f') ho1
    refine ⟨0, rfl, ⟨_, M.2.1.c60⟩, _, c_mchosen G _ M.2.1 L.mb L.rr.1 L.rs _ _, fun r3 h3 q3 => ?_⟩
    rcases q3 with ⟨z, -⟩ | ⟨p', q', hp', hq', e', e'', ⟨z, -⟩ | ⟨g2, C2, z, -, rfl, W3, F3⟩⟩
    · exact absurd ⟨inR_of (np_lt (by omega)) hp, inR_of (np_lt (by omega)) hq⟩ z
    · obtain rfl := np_eq (by omega) hp hp' e'; rw [hs] at z; cases z
    · obtain rfl := np_eq (by omega) hp hp' e'; obtain rfl := np_eq (by omega) hq hq' e''; rw [hs] at z; cases z; cases e; exact ⟨_, rfl, fin0 M W3 F3 (ofr' := ofr) (by rcases hs2 with rfl | rfl; exact L; exact L) hf' rfl rfl⟩
  · rcases q with ⟨rfl, rfl, z⟩ | ⟨rfl, p, hp, rfl, hin, hs, σ2, ⟨gw, tk, gf, -, -, hs2⟩, H1, F1⟩
    · obtain rfl : n' = 1 := Option.some.inj (hcd.symm.trans (by decide +kernel))
      have M := mid_of HI H FR.rfl' EQM.rf
      refine ⟨1, rfl, ⟨_, M.2.1.c60⟩, _, c_mchosen G _ M.2.1 L.mb L.rr.1 L.rs _ _, fun r3 h3 q3 => ?_⟩
      rcases q3 with ⟨-, rfl, W3, F3⟩ | ⟨p', q', hp', hq', rfl, rfl, -⟩
      · exact ⟨_, rfl, finX M W3 F3 (ofr' := ofr) L rfl (by decide)⟩
      · exact absurd ⟨inR_of (np_lt (by omega)) hp', inR_of (np_lt (by omega)) hq'⟩ z
    · obtain rfl : n' = 2 := Option.some.inj (hcd.symm.trans (by decide +kernel))
      have M := mid_of HI H1 F1 (by rcases hs2 with rfl | rfl; exact EQM.rf.sO; exact ((EQM.rf.sO (t := 11) (i := 0)).sI (t := 12) (i := 0) (by decide)).sO)
      refine ⟨2, rfl, ⟨_, M.2.1.c60⟩, _, c_mchosen G _ M.2.1 L.mb L.rr.1 L.rs _ _, fun r3 h3 q3 => ?_⟩
      rcases q3 with ⟨y, -⟩ | ⟨p', q', hp', hq', e', rfl, ⟨-, C2, rfl, W3, F3⟩ | ⟨g2, C2, z, -⟩⟩
      · exact absurd ⟨inR_of (np_lt (by omega)) hp, hin⟩ y
      · exact ⟨_, rfl, finX M W3 F3 (ofr' := ofr) (by rcases hs2 with rfl | rfl; exact L; exact L) rfl (by decide)⟩
      · obtain rfl := np_eq (by omega) hp hp' e'; rw [hs] at z; cases z
set_option maxHeartbeats 4000000 in
theorem st_chosenByAll (HI : INV G h A σ ofr o oD) (n o9 : Int32) : STEP G h A o oD ML_chosenByAll MX10_chosenByAll 14 (0 + 3) (0 + 18) 12 0 0 [.ref (A 0 0), .int n, .int o9, .ref o] [.ref (A 60 0), .int n, .int o9] := by
  have H := HI.1
  have L := HI.2.1
  obtain ⟨f0, hf0⟩ := HI.2.2.1
  have hnp := H.iv.1
  have hnt := H.iv.2.1
  have hnr := H.iv.2.2.1
  refine ⟨_, w_chosenByAll G h H.c0 (c_chosenBA G h H (fun p hp j h1 h2 => ((L.rs p hp).2.2.2.2.1 j h2).2 h1) n o9) (fun r h1 q => by obtain ⟨p, q, g', -, -, -, -, -, -, σ2, -, e, H1, F1⟩ := q; exact ⟨_, _, e, F1 _ _ hf0 trivial⟩) (fun C h1 q => by rcases q with ⟨-, e, -⟩ | ⟨e, -⟩; exact Or.inl e; exact Or.inr e), fun r1 h2 q => ?_⟩
  rcases q with ⟨v, h1, q, rfl, f', rfl, hf'⟩ | ⟨C, n', q, hcd, rfl⟩
  · obtain ⟨p, q, g', hp, hq, rfl, rfl, hs, hgb, σ2, ⟨gw, tk, gf, -, -, hs2⟩, e, H1, F1⟩ := q
    have M0 := mid_of HI H1 F1 (by rcases hs2 with rfl | rfl; exact EQM.rf.sO; exact ((EQM.rf.sO (t := 11) (i := 0)).sI (t := 12) (i := 0) (by decide)).sO)
    obtain ⟨f1, ho1⟩ := M0.2.2.1
    have M := M0.wr (f' := f') ho1
    refine ⟨0, rfl, ⟨_, M.2.1.c60⟩, _, c_mchosenBA G _ M.2.1 L.mb L.rr.1 L.rs _ _, fun r3 h3 q3 => ?_⟩
    rcases q3 with ⟨z, -⟩ | ⟨p', q', hp', hq', e', e'', ⟨z, -⟩ | ⟨g2, C2, z, -, rfl, W3, F3⟩⟩
    · exact absurd ⟨inR_of (np_lt (by omega)) hp, inR_of (np_lt (by omega)) hq⟩ z
    · obtain rfl := np_eq (by omega) hp hp' e'; rw [hs] at z; cases z
    · obtain rfl := np_eq (by omega) hp hp' e'; obtain rfl := np_eq (by omega) hq hq' e''; rw [hs] at z; cases z; cases e; exact ⟨_, rfl, fin0 M W3 F3 (ofr' := ofr) (by rcases hs2 with rfl | rfl; exact L; exact L) hf' rfl rfl⟩
  · rcases q with ⟨rfl, rfl, z⟩ | ⟨rfl, p, hp, rfl, hin, hs, σ2, ⟨gw, tk, gf, -, -, hs2⟩, H1, F1⟩
    · obtain rfl : n' = 1 := Option.some.inj (hcd.symm.trans (by decide +kernel))
      have M := mid_of HI H FR.rfl' EQM.rf
      refine ⟨1, rfl, ⟨_, M.2.1.c60⟩, _, c_mchosenBA G _ M.2.1 L.mb L.rr.1 L.rs _ _, fun r3 h3 q3 => ?_⟩
      rcases q3 with ⟨-, rfl, W3, F3⟩ | ⟨p', q', hp', hq', rfl, rfl, -⟩
      · exact ⟨_, rfl, finX M W3 F3 (ofr' := ofr) L rfl (by decide)⟩
      · exact absurd ⟨inR_of (np_lt (by omega)) hp', inR_of (np_lt (by omega)) hq'⟩ z
    · obtain rfl : n' = 2 := Option.some.inj (hcd.symm.trans (by decide +kernel))
      have M := mid_of HI H1 F1 (by rcases hs2 with rfl | rfl; exact EQM.rf.sO; exact ((EQM.rf.sO (t := 11) (i := 0)).sI (t := 12) (i := 0) (by decide)).sO)
      refine ⟨2, rfl, ⟨_, M.2.1.c60⟩, _, c_mchosenBA G _ M.2.1 L.mb L.rr.1 L.rs _ _, fun r3 h3 q3 => ?_⟩
      rcases q3 with ⟨y, -⟩ | ⟨p', q', hp', hq', e', rfl, ⟨-, C2, rfl, W3, F3⟩ | ⟨g2, C2, z, -⟩⟩
      · exact absurd ⟨inR_of (np_lt (by omega)) hp, hin⟩ y
      · exact ⟨_, rfl, finX M W3 F3 (ofr' := ofr) (by rcases hs2 with rfl | rfl; exact L; exact L) rfl (by decide)⟩
      · obtain rfl := np_eq (by omega) hp hp' e'; rw [hs] at z; cases z
end STP
