/-! each call of both sides: compiling, tests -/
section STQ
variable {G : hG} {h h1 h2 h3 : hp} {A A1 : aT} {σ σ1 σm : sT} {ofr ofr' : Nat → Nat} {o oD : Nat}
set_option maxHeartbeats 4000000 in
theorem st_compile (HI : INV G h A σ ofr o oD) (n : Int32) : STEPB G h A o oD ML_compile MX10_compile 14 (0 + 2) (0 + 12) 11 0 0 [.ref (A 0 0), .int n, .ref o] [.ref (A 60 0), .int n] := by
  have H := HI.1
  have L := HI.2.1
  obtain ⟨f0, hf0⟩ := HI.2.2.1
  have hnp := H.iv.1
  have hnt := H.iv.2.1
  have hnr := H.iv.2.2.1
  refine ⟨_, w_compile G h H.c0 (c_compile G h H n) (fun r h1 q => by obtain ⟨p, g', -, -, -, -, ⟨-, e, H1, F1⟩ | ⟨-, e, H1, F1⟩⟩ := q; exact ⟨_, _, e, F1 _ _ hf0 trivial, Or.inl rfl⟩; exact ⟨_, _, e, F1 _ _ hf0 trivial, Or.inr rfl⟩) (fun C h1 q => by rcases q with ⟨-, e, -⟩ | ⟨e, -⟩; exact Or.inl e; exact Or.inr e), fun r1 h2 q => ?_⟩
  rcases q with ⟨v, h1, q, rfl, f', rfl, hf'⟩ | ⟨C, n', q, hcd, rfl⟩
  · obtain ⟨p, g', hp, rfl, hs, hgb, ⟨hb, e, H1, F1⟩ | ⟨hb, e, H1, F1⟩⟩ := q
    · cases e
      have M0 := mid_of HI H1 F1 EQM.rf.sO
      obtain ⟨f1, ho1⟩ := M0.2.2.1
      have M := M0.wr (f' := f') ho1
      refine ⟨0, rfl, ⟨_, M.2.1.c60⟩, _, c_mcompile G _ M.2.1 L.mb L.rr L.rs L.rc _, fun r3 h3 q3 => ?_⟩
      rcases q3 with ⟨z, -⟩ | ⟨p', hp', e', ⟨z, -⟩ | ⟨g2, C2, z, -, ⟨-, rfl, W3, F3⟩ | ⟨y, -⟩⟩⟩
      · exact absurd (inR_of (np_lt (by omega)) hp) z
      · obtain rfl := np_eq (by omega) hp hp' e'; rw [hs] at z; cases z
      · exact ⟨_, rfl, (by first | exact Or.inl rfl | exact Or.inr rfl | exact (L.rt t ht).2.2.1.symm ▸ (H.iv.2.2.2.2.2.2.2.2.2.2 t ht).1), fin0 M W3 F3 (ofr' := ofr) L hf' rfl rfl⟩
      · obtain rfl := np_eq (by omega) hp hp' e'; rw [hs] at z; cases z; exact absurd hb y
    · cases e
      have M0 := mid_of HI H1 F1 (((EQM.rf.sO (t := 9) (i := 0)).sI (by decide)).sI (by decide) |>.sI (by decide))
      obtain ⟨f1, ho1⟩ := M0.2.2.1
      have M := M0.wr (f' := f') ho1
      refine ⟨0, rfl, ⟨_, M.2.1.c60⟩, _, c_mcompile G _ M.2.1 L.mb L.rr L.rs L.rc _, fun r3 h3 q3 => ?_⟩
      rcases q3 with ⟨z, -⟩ | ⟨p', hp', e', ⟨z, -⟩ | ⟨g2, C2, z, -, ⟨y, -⟩ | ⟨-, R9, hR9, rfl, W3, F3⟩⟩⟩
      · exact absurd (inR_of (np_lt (by omega)) hp) z
      · obtain rfl := np_eq (by omega) hp hp' e'; rw [hs] at z; cases z
      · obtain rfl := np_eq (by omega) hp hp' e'; rw [hs] at z; cases z; exact absurd y hb
      · obtain rfl := np_eq (by omega) hp hp' e'; rw [hs] at z; cases z; exact ⟨_, rfl, (by first | exact Or.inl rfl | exact Or.inr rfl | exact (L.rt t ht).2.2.1.symm ▸ (H.iv.2.2.2.2.2.2.2.2.2.2 t ht).1), fin0 M W3 F3 (R_cm L hp hgb (srS_nd L.rs hp hs) hR9) hf' rfl rfl⟩
  · rcases q with ⟨rfl, rfl, z⟩ | ⟨rfl, p, hp, rfl, hs, H1, F1⟩
    · obtain rfl : n' = 1 := Option.some.inj (hcd.symm.trans (by decide +kernel))
      have M := mid_of HI H FR.rfl' EQM.rf
      refine ⟨1, rfl, ⟨_, M.2.1.c60⟩, _, c_mcompile G _ M.2.1 L.mb L.rr L.rs L.rc _, fun r3 h3 q3 => ?_⟩
      rcases q3 with ⟨-, rfl, W3, F3⟩ | ⟨p', hp', rfl, -⟩
      · exact ⟨_, rfl, (by first | exact Or.inl rfl | exact Or.inr rfl | exact (L.rt t ht).2.2.1.symm ▸ (H.iv.2.2.2.2.2.2.2.2.2.2 t ht).1), finX M W3 F3 (ofr' := ofr) L rfl (by decide)⟩
      · exact absurd (inR_of (np_lt (by omega)) hp') z
    · obtain rfl : n' = 2 := Option.some.inj (hcd.symm.trans (by decide +kernel))
      have M := mid_of HI H1 F1 EQM.rf.sO
      refine ⟨2, rfl, ⟨_, M.2.1.c60⟩, _, c_mcompile G _ M.2.1 L.mb L.rr L.rs L.rc _, fun r3 h3 q3 => ?_⟩
      rcases q3 with ⟨y, -⟩ | ⟨p', hp', e', ⟨-, C2, rfl, W3, F3⟩ | ⟨g2, C2, z, -⟩⟩
      · exact absurd (inR_of (np_lt (by omega)) hp) y
      · exact ⟨_, rfl, (by first | exact Or.inl rfl | exact Or.inr rfl | exact (L.rt t ht).2.2.1.symm ▸ (H.iv.2.2.2.2.2.2.2.2.2.2 t ht).1), finX M W3 F3 (ofr' := ofr) L rfl (by decide)⟩
      · obtain rfl := np_eq (by omega) hp hp' e'; rw [hs] at z; cases z
set_option maxHeartbeats 4000000 in
theorem st_addTest (HI : INV G h A σ ofr o oD) (n ln : Int32) : STEP G h A o oD ML_addTest MX10_addTest 8 (0 + 4) (0 + 59) 3 0 0 [.ref (A 0 0), .int n, .int ln, .ref o] [.ref (A 60 0), .int n, .int ln] := by
  have H := HI.1
  have L := HI.2.1
  obtain ⟨f0, hf0⟩ := HI.2.2.1
  have hnp := H.iv.1
  have hnt := H.iv.2.1
  have hnr := H.iv.2.2.1
  refine ⟨_, w_addTest G h H.c0 (c_addTest G h H n ln) (fun r h1 q => by obtain ⟨p, -, -, -, -, e, q, ar, e2, cap2, mc, g2, H1, F1⟩ := q; exact ⟨_, _, e, F1 _ _ hf0 trivial⟩) (fun C h1 q => q.2.imp (·.1) (fun z => z.imp (·.1) (·.1))), fun r1 h2 q => ?_⟩
  rcases q with ⟨v, h1, q, rfl, f', rfl, hf'⟩ | ⟨C, n', q, hcd, rfl⟩
  · obtain ⟨p, hp, rfl, hl, h8, e, q, ar, e2, cap2, mc, g2, H1, F1⟩ := q
    have M0 := mid_of HI H1 F1 EQM.ts
    obtain ⟨f1, ho1⟩ := M0.2.2.1
    have M := M0.wr (f' := f') ho1
    refine ⟨0, rfl, ⟨_, M.2.1.c60⟩, _, c_maddTest G _ M.2.1 L.mb _ _, fun r3 h3 q3 => ?_⟩
    rcases q3 with ⟨z, -⟩ | ⟨p', hp', e', ⟨z, -⟩ | ⟨-, z, -⟩ | ⟨-, -, rfl, W3, F3⟩⟩
    · exact absurd (inR_of (np_lt (by omega)) hp) z
    · exact absurd hl z
    · omega
    · obtain rfl := np_eq (by omega) hp hp' e'; cases e; exact ⟨_, rfl, fin0 M W3 F3 (R_at L hp h8 hl) hf' rfl rfl⟩
  · obtain ⟨rfl, ⟨rfl, z⟩ | ⟨rfl, z1, z2⟩ | ⟨rfl, z1, z2, z3⟩⟩ := q
    · obtain rfl : n' = 1 := Option.some.inj (hcd.symm.trans (by decide +kernel))
      have M := mid_of HI H FR.rfl' EQM.rf
      refine ⟨1, rfl, ⟨_, M.2.1.c60⟩, _, c_maddTest G _ M.2.1 L.mb _ _, fun r3 h3 q3 => ?_⟩
      rcases q3 with ⟨-, rfl, W3, F3⟩ | ⟨p', hp', rfl, -⟩
      · exact ⟨_, rfl, finX M W3 F3 (ofr' := ofr) L rfl (by decide)⟩
      · exact absurd (inR_of (np_lt (by omega)) hp') z
    · obtain rfl : n' = 2 := Option.some.inj (hcd.symm.trans (by decide +kernel))
      have M := mid_of HI H FR.rfl' EQM.rf
      refine ⟨2, rfl, ⟨_, M.2.1.c60⟩, _, c_maddTest G _ M.2.1 L.mb _ _, fun r3 h3 q3 => ?_⟩
      rcases q3 with ⟨y, -⟩ | ⟨p', hp', rfl, ⟨-, rfl, W3, F3⟩ | ⟨y, -⟩ | ⟨y, -⟩⟩
      · exact absurd z1 y
      · exact ⟨_, rfl, finX M W3 F3 (ofr' := ofr) L rfl (by decide)⟩
      · exact absurd y z2
      · exact absurd y z2
    · obtain rfl : n' = 3 := Option.some.inj (hcd.symm.trans (by decide +kernel))
      have M := mid_of HI H FR.rfl' EQM.rf
      refine ⟨3, rfl, ⟨_, M.2.1.c60⟩, _, c_maddTest G _ M.2.1 L.mb _ _, fun r3 h3 q3 => ?_⟩
      rcases q3 with ⟨y, -⟩ | ⟨p', hp', rfl, ⟨y, -⟩ | ⟨-, -, rfl, W3, F3⟩ | ⟨-, y, -⟩⟩
      · exact absurd z1 y
      · exact absurd z2 y
      · exact ⟨_, rfl, finX M W3 F3 (ofr' := ofr) L rfl (by decide)⟩
      · omega
set_option maxHeartbeats 4000000 in
theorem st_setFailing (HI : INV G h A σ ofr o oD) (n : Int32) {x : Int32} (hx : b01 x) : STEPB G h A o oD ML_setFailing MX10_setFailing 6 (0 + 1) (0 + 6) 3 0 0 [.ref (A 0 0), .int n, .int x, .ref o] [.ref (A 60 0), .int n, .int x] := by
  have H := HI.1
  have L := HI.2.1
  obtain ⟨f0, hf0⟩ := HI.2.2.1
  have hnp := H.iv.1
  have hnt := H.iv.2.1
  have hnr := H.iv.2.2.1
  refine ⟨_, w_setFailing G h H.c0 (c_setFail G h H n hx) (fun r h1 q => by obtain ⟨t, ht, -, e, H1, F1⟩ := q; exact ⟨_, _, e, F1 _ _ hf0 trivial, (H.iv.2.2.2.2.2.2.2.2.2.2 t ht).1⟩) (fun C h1 q => q.2.1), fun r1 h2 q => ?_⟩
  rcases q with ⟨v, h1, q, rfl, f', rfl, hf'⟩ | ⟨C, n', q, hcd, rfl⟩
  · obtain ⟨t, ht, rfl, e, H1, F1⟩ := q
    have M0 := mid_of HI H1 F1 (EQM.rf.sI (by decide))
    obtain ⟨f1, ho1⟩ := M0.2.2.1
    have M := M0.wr (f' := f') ho1
    refine ⟨0, rfl, ⟨_, M.2.1.c60⟩, _, c_msetFail G _ M.2.1 L.mb L.rt _ hx, fun r3 h3 q3 => ?_⟩
    rcases q3 with ⟨z, -⟩ | ⟨t', ht', e', rfl, W3, F3⟩
    · exact absurd (inR_of (np_lt (by omega)) ht) z
    · obtain rfl := np_eq (by omega) ht ht' e'; cases e; exact ⟨_, rfl, (by first | exact Or.inl rfl | exact Or.inr rfl | exact (L.rt t ht).2.2.1.symm ▸ (H.iv.2.2.2.2.2.2.2.2.2.2 t ht).1), fin0 M W3 F3 (R_sf L ht) hf' (L.rt t ht).2.2.1.symm rfl⟩
  · obtain ⟨rfl, rfl, z⟩ := q
    · obtain rfl : n' = 1 := Option.some.inj (hcd.symm.trans (by decide +kernel))
      have M := mid_of HI H FR.rfl' EQM.rf
      refine ⟨1, rfl, ⟨_, M.2.1.c60⟩, _, c_msetFail G _ M.2.1 L.mb L.rt _ hx, fun r3 h3 q3 => ?_⟩
      rcases q3 with ⟨-, rfl, W3, F3⟩ | ⟨p', hp', rfl, -⟩
      · exact ⟨_, rfl, (by first | exact Or.inl rfl | exact Or.inr rfl | exact (L.rt t ht).2.2.1.symm ▸ (H.iv.2.2.2.2.2.2.2.2.2.2 t ht).1), finX M W3 F3 (ofr' := ofr) L rfl (by decide)⟩
      · exact absurd (inR_of (np_lt (by omega)) hp') z
set_option maxHeartbeats 4000000 in
theorem st_setMachines (HI : INV G h A σ ofr o oD) (m : Int32) : STEP G h A o oD ML_setMachines MX10_setMachines 2 (0 + 1) (0 + 6) 1 0 0 [.ref (A 0 0), .int m, .ref o] [.ref (A 60 0), .int m] := by
  have H := HI.1
  have L := HI.2.1
  obtain ⟨f0, hf0⟩ := HI.2.2.1
  have hnp := H.iv.1
  have hnt := H.iv.2.1
  have hnr := H.iv.2.2.1
  refine ⟨_, w_setMachines G h H.c0 (c_setMach G h H m) (fun r h1 q => by obtain ⟨-, e, H1, F1⟩ := q; exact ⟨_, _, e, F1 _ _ hf0 trivial⟩) (fun C h1 q => q.2.1), fun r1 h2 q => ?_⟩
  rcases q with ⟨v, h1, q, rfl, f', rfl, hf'⟩ | ⟨C, n', q, hcd, rfl⟩
  · obtain ⟨hm, e, H1, F1⟩ := q
    have M0 := mid_of HI H1 F1 (EQM.rf.sI (by decide))
    obtain ⟨f1, ho1⟩ := M0.2.2.1
    have M := M0.wr (f' := f') ho1
    refine ⟨0, rfl, ⟨_, M.2.1.c60⟩, _, c_msetMach G _ M.2.1 L.mb _, fun r3 h3 q3 => ?_⟩
    rcases q3 with ⟨z, -⟩ | ⟨-, rfl, W3, F3⟩
    · exact absurd hm z
    · cases e; exact ⟨_, rfl, fin0 M W3 F3 (R_sm L hm) hf' L.1.2.1.1.symm rfl⟩
  · obtain ⟨rfl, rfl, z⟩ := q
    · obtain rfl : n' = 1 := Option.some.inj (hcd.symm.trans (by decide +kernel))
      have M := mid_of HI H FR.rfl' EQM.rf
      refine ⟨1, rfl, ⟨_, M.2.1.c60⟩, _, c_msetMach G _ M.2.1 L.mb _, fun r3 h3 q3 => ?_⟩
      rcases q3 with ⟨-, rfl, W3, F3⟩ | ⟨y, -⟩
      · exact ⟨_, rfl, finX M W3 F3 (ofr' := ofr) L rfl (by decide)⟩
      · exact absurd y z
set_option maxHeartbeats 4000000 in
theorem st_fund (HI : INV G h A σ ofr o oD) (o9 m : Int32) : STEP G h A o oD ML_fund MX10_fund 4 (0 + 2) (0 + 12) 1 0 0 [.ref (A 0 0), .int o9, .int m, .ref o] [.ref (A 60 0), .int o9, .int m] := by
  have H := HI.1
  have L := HI.2.1
  obtain ⟨f0, hf0⟩ := HI.2.2.1
  have hnp := H.iv.1
  have hnt := H.iv.2.1
  have hnr := H.iv.2.2.1
  refine ⟨_, w_fund G h H.c0 (c_fund G h H o9 m) (fun r h1 q => by obtain ⟨j, -, -, -, e, H1, F1⟩ := q; exact ⟨_, _, e, F1 _ _ hf0 trivial⟩) (fun C h1 q => q.2.1), fun r1 h2 q => ?_⟩
  rcases q with ⟨v, h1, q, rfl, f', rfl, hf'⟩ | ⟨C, n', q, hcd, rfl⟩
  · obtain ⟨j, hj, rfl, hm, e, H1, F1⟩ := q
    have M0 := mid_of HI H1 F1 (EQM.rf.sI (by decide))
    obtain ⟨f1, ho1⟩ := M0.2.2.1
    have M := M0.wr (f' := f') ho1
    refine ⟨0, rfl, ⟨_, M.2.1.c60⟩, _, c_mfund G _ M.2.1 L.mb _ _, fun r3 h3 q3 => ?_⟩
    rcases q3 with ⟨z, -⟩ | ⟨j', hj', e', -, rfl, W3, F3⟩
    · exact absurd ⟨inR_of (k := 3) (by decide) hj, hm⟩ z
    · obtain rfl := np_eq (n := 3) (by decide) hj hj' e'; cases e; exact ⟨_, rfl, fin0 M W3 F3 (R_fu L hj) hf' (by rw [L.1.2.2.2.1 j hj]) rfl⟩
  · obtain ⟨rfl, rfl, z⟩ := q
    · obtain rfl : n' = 1 := Option.some.inj (hcd.symm.trans (by decide +kernel))
      have M := mid_of HI H FR.rfl' EQM.rf
      refine ⟨1, rfl, ⟨_, M.2.1.c60⟩, _, c_mfund G _ M.2.1 L.mb _ _, fun r3 h3 q3 => ?_⟩
      rcases q3 with ⟨-, rfl, W3, F3⟩ | ⟨j', hj', rfl, y, -⟩
      · exact ⟨_, rfl, finX M W3 F3 (ofr' := ofr) L rfl (by decide)⟩
      · exact absurd ⟨inR_of (k := 3) (by decide) hj', y⟩ z
set_option maxHeartbeats 4000000 in
theorem st_budget (HI : INV G h A σ ofr o oD) (o9 : Int32) : STEP G h A o oD ML_budget MX10_budget 4 (0 + 1) (0 + 6) 1 0 0 [.ref (A 0 0), .int o9, .ref o] [.ref (A 60 0), .int o9] := by
  have H := HI.1
  have L := HI.2.1
  obtain ⟨f0, hf0⟩ := HI.2.2.1
  have hnp := H.iv.1
  have hnt := H.iv.2.1
  have hnr := H.iv.2.2.1
  refine ⟨_, w_budget G h H.c0 (c_budget G h H o9) (fun r h1 q => by obtain ⟨j, -, -, e, rfl⟩ := q; exact ⟨_, _, e, hf0⟩) (fun C h1 q => q.1), fun r1 h2 q => ?_⟩
  rcases q with ⟨v, h1, q, rfl, f', rfl, hf'⟩ | ⟨C, n', q, hcd, rfl⟩
  · obtain ⟨j, hj, rfl, e, rfl⟩ := q
    have M0 := mid_of HI H FR.rfl' EQM.rf
    obtain ⟨f1, ho1⟩ := M0.2.2.1
    have M := M0.wr (f' := f') ho1
    refine ⟨0, rfl, ⟨_, M.2.1.c60⟩, _, c_mbudget G _ M.2.1 L.mb _, fun r3 h3 q3 => ?_⟩
    rcases q3 with ⟨z, -⟩ | ⟨j', hj', e', rfl, W3, F3⟩
    · exact absurd (inR_of (k := 3) (by decide) hj) z
    · obtain rfl := np_eq (n := 3) (by decide) hj hj' e'; cases e; exact ⟨_, rfl, fin0 M W3 F3 (ofr' := ofr) L hf' (L.1.2.2.2.1 j hj).symm rfl⟩
  · obtain ⟨rfl, rfl, z⟩ := q
    · obtain rfl : n' = 1 := Option.some.inj (hcd.symm.trans (by decide +kernel))
      have M := mid_of HI H FR.rfl' EQM.rf
      refine ⟨1, rfl, ⟨_, M.2.1.c60⟩, _, c_mbudget G _ M.2.1 L.mb _, fun r3 h3 q3 => ?_⟩
      rcases q3 with ⟨-, rfl, W3, F3⟩ | ⟨j', hj', rfl, -⟩
      · exact ⟨_, rfl, finX M W3 F3 (ofr' := ofr) L rfl (by decide)⟩
      · exact absurd (inR_of (k := 3) (by decide) hj') z
set_option maxHeartbeats 4000000 in
theorem st_testTime (HI : INV G h A σ ofr o oD) (n : Int32) : STEP G h A o oD ML_testTime MX10_testTime 5 (0 + 1) (0 + 6) 3 1 4 [.ref (A 0 0), .int n, .ref o] [.ref (A 60 0), .int n] := by
  have H := HI.1
  have L := HI.2.1
  obtain ⟨f0, hf0⟩ := HI.2.2.1
  have hnp := H.iv.1
  have hnt := H.iv.2.1
  have hnr := H.iv.2.2.1
  obtain ⟨MM, hM1, hM4, hMM⟩ := L.1.2.2.1
  have hM60 := L.1.2.1.1
  refine ⟨_, w_testTime G h H.c0 (c_testTime G h H hMM hM1 hM4 n) (fun r h1 q => by obtain ⟨p, -, -, e, rfl⟩ := q; exact ⟨_, _, e, (H.wIF FR.rfl' (t := 14) (i := 0) rfl (by decide) (iv_setI H.iv (by decide)) rfl).2 _ _ hf0 trivial⟩) (fun C h1 q => q.2.1), fun r1 h2 q => ?_⟩
  rcases q with ⟨v, h1, q, rfl, f', rfl, hf'⟩ | ⟨C, n', q, hcd, rfl⟩
  · obtain ⟨p, hp, rfl, e, rfl⟩ := q
    obtain ⟨H1, F1⟩ := H.wIF FR.rfl' (t := 14) (i := 0) (f := (tOu σ.1 MM (nI p) (nts σ) 60).1) rfl (by decide) (iv_setI H.iv (by decide)) rfl
    have M0 := mid_of HI H1 F1 (EQM.rf.sI (by decide))
    obtain ⟨f1, ho1⟩ := M0.2.2.1
    have M := M0.wr (f' := f') ho1
    refine ⟨0, rfl, ⟨_, M.2.1.c60⟩, _, c_mtestTime G _ M.2.1 L.mb L.rt (hM60.trans hMM) hM1 hM4 _, fun r3 h3 q3 => ?_⟩
    rcases q3 with ⟨z, -⟩ | ⟨p', hp', e', rfl, W3, F3⟩
    · exact absurd (inR_of (np_lt (by omega)) hp) z
    · obtain rfl := np_eq (by omega) hp hp' e'; cases e; exact ⟨_, rfl, fin0 M W3 F3 (ofr' := ofr) L hf' rfl rfl⟩
  · obtain ⟨rfl, rfl, z⟩ := q
    · obtain rfl : n' = 1 := Option.some.inj (hcd.symm.trans (by decide +kernel))
      have M := mid_of HI H FR.rfl' EQM.rf
      refine ⟨1, rfl, ⟨_, M.2.1.c60⟩, _, c_mtestTime G _ M.2.1 L.mb L.rt (hM60.trans hMM) hM1 hM4 _, fun r3 h3 q3 => ?_⟩
      rcases q3 with ⟨-, rfl, W3, F3⟩ | ⟨p', hp', rfl, -⟩
      · exact ⟨_, rfl, finX M W3 F3 (ofr' := ofr) L rfl (by decide)⟩
      · exact absurd (inR_of (np_lt (by omega)) hp') z
set_option maxHeartbeats 4000000 in
theorem st_test (HI : INV G h A σ ofr o oD) (n : Int32) : STEP G h A o oD ML_test MX10_test 14 (0 + 3) (0 + 18) 11 0 0 [.ref (A 0 0), .int n, .ref o] [.ref (A 60 0), .int n] := by
  have H := HI.1
  have L := HI.2.1
  obtain ⟨f0, hf0⟩ := HI.2.2.1
  have hnp := H.iv.1
  have hnt := H.iv.2.1
  have hnr := H.iv.2.2.1
  have hown : ∀ p, p < npk σ → ∃ o, o < 3 ∧ σ.1 20 p 0 = nI o := fun p hp => (L.1.2.2.2.2 p hp).2
  have hcn : ∀ t, t < nts σ → ∃ c, c ≤ 8 ∧ σ.1 50 t 3 = nI c := fun t ht => (L.rt t ht).2.2.2.2.2.2
  have hO : ∀ p, p < npk σ → ∃ o, o < 3 ∧ σ.1 61 0 p = nI o := fun p hp => by obtain ⟨w, w1, w2⟩ := hown p hp; exact ⟨w, w1, (L.1.2.2.2.2 p hp).1.trans w2⟩
  refine ⟨_, w_test G h H.c0 (c_test G h H hown hcn n) (fun r h1 q => by obtain ⟨p, o, g', -, -, -, -, -, -, -, -, e, H1, F1⟩ := q; exact ⟨_, _, e, F1 _ _ hf0 trivial⟩) (fun C h1 q => by rcases q with ⟨-, e, -⟩ | ⟨e, -⟩ | ⟨e, -⟩; exact Or.inl e; exact Or.inr (Or.inl e); exact Or.inr (Or.inr e)), fun r1 h2 q => ?_⟩
  rcases q with ⟨v, h1, q, rfl, f', rfl, hf'⟩ | ⟨C, n', q, hcd, rfl⟩
  · obtain ⟨p, o9, g', hp, rfl, ho9, ho, hs, hgb, hb, hbud, e, H1, F1⟩ := q
    have M0 := mid_of HI H1 F1 EQM.te
    obtain ⟨f1, ho1⟩ := M0.2.2.1
    have M := M0.wr (f' := f') ho1
    refine ⟨0, rfl, ⟨_, M.2.1.c60⟩, _, c_mtest G _ M.2.1 L.mb L.rr L.rs L.rc L.rt hO _, fun r3 h3 q3 => ?_⟩
    rcases q3 with ⟨z, -⟩ | ⟨p', hp', e', ⟨z, -⟩ | ⟨g2, C2, o2, z, -, ho2, h61, ⟨y, -⟩ | ⟨-, -, X9, R1, R2, R3, hX, hRR, rfl, W3, F3⟩⟩⟩
    · exact absurd (inR_of (np_lt (by omega)) hp) z
    · obtain rfl := np_eq (by omega) hp hp' e'; rw [hs] at z; cases z
    · obtain rfl := np_eq (by omega) hp hp' e'; rw [hs] at z; cases z; obtain rfl := np_eq (n := 3) (by decide) ho ho2 (ho9.symm.trans ((L.1.2.2.2.2 p hp).1.symm.trans h61)); rw [L.1.2.2.2.1 o9 ho] at y; exact absurd hbud (fun w => y.elim (fun a => a hb) (fun a => w a))
    · obtain rfl := np_eq (by omega) hp hp' e'; rw [hs] at z; cases z; obtain rfl := np_eq (n := 3) (by decide) ho ho2 (ho9.symm.trans ((L.1.2.2.2.2 p hp).1.symm.trans h61)); cases e
      exact ⟨_, rfl, fin0 M W3 F3 (R_te L H.iv hp ho (fun j x hx => (srch_of L.rr.1 (k := p) (by omega) hs hx).2.1) hX hRR) hf' rfl rfl⟩
  · rcases q with ⟨rfl, rfl, z⟩ | ⟨rfl, p, hp, rfl, hs, H1, F1⟩ | ⟨rfl, p, o9, g', hp, rfl, ho9, ho, hs, hgb, hbb, H1, F1⟩
    · obtain rfl : n' = 1 := Option.some.inj (hcd.symm.trans (by decide +kernel))
      have M := mid_of HI H FR.rfl' EQM.rf
      refine ⟨1, rfl, ⟨_, M.2.1.c60⟩, _, c_mtest G _ M.2.1 L.mb L.rr L.rs L.rc L.rt hO _, fun r3 h3 q3 => ?_⟩
      rcases q3 with ⟨-, rfl, W3, F3⟩ | ⟨p', hp', rfl, -⟩
      · exact ⟨_, rfl, finX M W3 F3 (ofr' := ofr) L rfl (by decide)⟩
      · exact absurd (inR_of (np_lt (by omega)) hp') z
    · obtain rfl : n' = 2 := Option.some.inj (hcd.symm.trans (by decide +kernel))
      have M := mid_of HI H1 F1 EQM.rf.sO
      refine ⟨2, rfl, ⟨_, M.2.1.c60⟩, _, c_mtest G _ M.2.1 L.mb L.rr L.rs L.rc L.rt hO _, fun r3 h3 q3 => ?_⟩
      rcases q3 with ⟨y, -⟩ | ⟨p', hp', e', ⟨-, C2, rfl, W3, F3⟩ | ⟨g2, C2, o2, z, -⟩⟩
      · exact absurd (inR_of (np_lt (by omega)) hp) y
      · exact ⟨_, rfl, finX M W3 F3 (ofr' := ofr) L rfl (by decide)⟩
      · obtain rfl := np_eq (by omega) hp hp' e'; rw [hs] at z; cases z
    · obtain rfl : n' = 3 := Option.some.inj (hcd.symm.trans (by decide +kernel))
      have M := mid_of HI H1 F1 EQM.rf.sO
      refine ⟨3, rfl, ⟨_, M.2.1.c60⟩, _, c_mtest G _ M.2.1 L.mb L.rr L.rs L.rc L.rt hO _, fun r3 h3 q3 => ?_⟩
      rcases q3 with ⟨y, -⟩ | ⟨p', hp', e', ⟨z, -⟩ | ⟨g2, C2, o2, z, -, ho2, h61, ⟨-, rfl, W3, F3⟩ | ⟨y1, y2, -⟩⟩⟩
      · exact absurd (inR_of (np_lt (by omega)) hp) y
      · obtain rfl := np_eq (by omega) hp hp' e'; rw [hs] at z; cases z
      · exact ⟨_, rfl, finX M W3 F3 (ofr' := ofr) L rfl (by decide)⟩
      · obtain rfl := np_eq (by omega) hp hp' e'; rw [hs] at z; cases z; obtain rfl := np_eq (n := 3) (by decide) ho ho2 (ho9.symm.trans ((L.1.2.2.2.2 p hp).1.symm.trans h61)); rw [L.1.2.2.2.1 o9 ho] at y2; exact absurd hbb (fun w => w.elim (fun a => a y1) y2)
set_option maxHeartbeats 4000000 in
theorem st_flaky (HI : INV G h A σ ofr o oD) (n : Int32) : STEP G h A o oD ML_flaky MX10_flaky 6 (0 + 1) (0 + 6) 3 0 0 [.ref (A 0 0), .int n, .ref o] [.ref (A 60 0), .int n] := by
  have H := HI.1
  have L := HI.2.1
  obtain ⟨f0, hf0⟩ := HI.2.2.1
  have hnp := H.iv.1
  have hnt := H.iv.2.1
  have hnr := H.iv.2.2.1
  have hcn : ∀ t, t < nts σ → ∃ c, c ≤ 8 ∧ σ.1 50 t 3 = nI c := fun t ht => (L.rt t ht).2.2.2.2.2.2
  refine ⟨_, w_flaky G h H.c0 (c_flaky G h H hcn n) (fun r h1 q => by obtain ⟨t, -, -, e, rfl⟩ := q; exact ⟨_, _, e, hf0⟩) (fun C h1 q => q.2.1), fun r1 h2 q => ?_⟩
  rcases q with ⟨v, h1, q, rfl, f', rfl, hf'⟩ | ⟨C, n', q, hcd, rfl⟩
  · obtain ⟨t, ht, rfl, e, rfl⟩ := q
    have M0 := mid_of HI H FR.rfl' EQM.rf
    obtain ⟨f1, ho1⟩ := M0.2.2.1
    have M := M0.wr (f' := f') ho1
    refine ⟨0, rfl, ⟨_, M.2.1.c60⟩, _, c_mflaky G _ M.2.1 L.mb L.rt _, fun r3 h3 q3 => ?_⟩
    rcases q3 with ⟨z, -⟩ | ⟨t', ht', e', rfl, W3, F3⟩
    · exact absurd (inR_of (np_lt (by omega)) ht) z
    · obtain rfl := np_eq (by omega) ht ht' e'; cases e; exact ⟨_, rfl, fin0 M W3 F3 (ofr' := ofr) L hf' rfl rfl⟩
  · obtain ⟨rfl, rfl, z⟩ := q
    · obtain rfl : n' = 1 := Option.some.inj (hcd.symm.trans (by decide +kernel))
      have M := mid_of HI H FR.rfl' EQM.rf
      refine ⟨1, rfl, ⟨_, M.2.1.c60⟩, _, c_mflaky G _ M.2.1 L.mb L.rt _, fun r3 h3 q3 => ?_⟩
      rcases q3 with ⟨-, rfl, W3, F3⟩ | ⟨p', hp', rfl, -⟩
      · exact ⟨_, rfl, finX M W3 F3 (ofr' := ofr) L rfl (by decide)⟩
      · exact absurd (inR_of (np_lt (by omega)) hp') z
set_option maxHeartbeats 4000000 in
theorem st_flakiest (HI : INV G h A σ ofr o oD) : STEP G h A o oD ML_flakiest MX10_flakiest 4 (0 + 1) (0 + 6) 1 0 0 [.ref (A 0 0), .ref o] [.ref (A 60 0)] := by
  have H := HI.1
  have L := HI.2.1
  obtain ⟨f0, hf0⟩ := HI.2.2.1
  have hnp := H.iv.1
  have hnt := H.iv.2.1
  have hnr := H.iv.2.2.1
  have hcn : ∀ t, t < nts σ → ∃ c, c ≤ 8 ∧ σ.1 50 t 3 = nI c := fun t ht => (L.rt t ht).2.2.2.2.2.2
  refine ⟨_, w_flakiest G h H.c0 (c_flakiest G h H hcn) (fun r h1 q => by obtain ⟨rfl, -, e⟩ := q; exact ⟨_, _, e, hf0⟩) (fun C h1 q => q.1), fun r1 h2 q => ?_⟩
  rcases q with ⟨v, h1, q, rfl, f', rfl, hf'⟩ | ⟨C, n', q, hcd, rfl⟩
  · obtain ⟨rfl, hn0, e⟩ := q
    have M0 := mid_of HI H FR.rfl' EQM.rf
    obtain ⟨f1, ho1⟩ := M0.2.2.1
    have M := M0.wr (f' := f') ho1
    refine ⟨0, rfl, ⟨_, M.2.1.c60⟩, _, c_mflakiest G _ M.2.1 L.mb L.rt, fun r3 h3 q3 => ?_⟩
    rcases q3 with ⟨z, -⟩ | ⟨-, rfl, W3, F3⟩
    · exact absurd z hn0
    · cases e; exact ⟨_, rfl, fin0 M W3 F3 (ofr' := ofr) L hf' rfl rfl⟩
  · obtain ⟨rfl, rfl, z⟩ := q
    · obtain rfl : n' = 1 := Option.some.inj (hcd.symm.trans (by decide +kernel))
      have M := mid_of HI H FR.rfl' EQM.rf
      refine ⟨1, rfl, ⟨_, M.2.1.c60⟩, _, c_mflakiest G _ M.2.1 L.mb L.rt, fun r3 h3 q3 => ?_⟩
      rcases q3 with ⟨-, rfl, W3, F3⟩ | ⟨y, -⟩
      · exact ⟨_, rfl, finX M W3 F3 (ofr' := ofr) L rfl (by decide)⟩
      · exact absurd z y
end STQ
