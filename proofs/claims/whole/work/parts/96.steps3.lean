/-! each call of both sides: releases, shares -/
section STR
variable {G : hG} {h h1 h2 h3 : hp} {A A1 : aT} {σ σ1 σm : sT} {ofr ofr' : Nat → Nat} {o oD : Nat}
set_option maxHeartbeats 4000000 in
theorem st_canPublish (HI : INV G h A σ ofr o oD) (n : Int32) : STEPB G h A o oD ML_canPublish MX10_canPublish 14 (0 + 1) (0 + 6) 12 0 0 [.ref (A 0 0), .int n, .ref o] [.ref (A 60 0), .int n] := by
  have H := HI.1
  have L := HI.2.1
  obtain ⟨f0, hf0⟩ := HI.2.2.1
  have hnp := H.iv.1
  have hnt := H.iv.2.1
  have hnr := H.iv.2.2.1
  refine ⟨_, w_canPublish G h H.c0 (c_canPub G h H n) (fun r h1 q => by obtain ⟨p, -, -, g, -, H1, F1, ⟨-, -, -, e⟩ | ⟨-, e⟩⟩ := q; exact ⟨_, _, e, F1 _ _ hf0 trivial, Or.inr rfl⟩; exact ⟨_, _, e, F1 _ _ hf0 trivial, Or.inl rfl⟩) (fun C h1 q => q.2.1), fun r1 h2 q => ?_⟩
  rcases q with ⟨v, h1, q, rfl, f', rfl, hf'⟩ | ⟨C, n', q, hcd, rfl⟩
  · obtain ⟨p, hp, rfl, g, hgb, H1, F1, ⟨g', hs, hps, e⟩ | ⟨hnc, e⟩⟩ := q
    · cases e
      have M0 := mid_of HI H1 F1 EQM.rf.sO
      obtain ⟨f1, ho1⟩ := M0.2.2.1
      have M := M0.wr (f' := f') ho1
      refine ⟨0, rfl, ⟨_, M.2.1.c60⟩, _, c_mcanP G _ M.2.1 L.mb L.rr L.rs L.rp _, fun r3 h3 q3 => ?_⟩
      rcases q3 with ⟨z, -⟩ | ⟨p', C2, hp', e', ⟨-, rfl, W3, F3⟩ | ⟨y, -⟩⟩
      · exact absurd (inR_of (np_lt (by omega)) hp) z
      · exact ⟨_, rfl, (by first | exact Or.inl rfl | exact Or.inr rfl | exact (L.rt t ht).2.2.1.symm ▸ (H.iv.2.2.2.2.2.2.2.2.2.2 t ht).1), fin0 M W3 F3 (ofr' := ofr) L hf' rfl rfl⟩
      · obtain rfl := np_eq (by omega) hp hp' e'; exact absurd ⟨g', hs, hps⟩ y
    · cases e
      have M0 := mid_of HI H1 F1 EQM.rf.sO
      obtain ⟨f1, ho1⟩ := M0.2.2.1
      have M := M0.wr (f' := f') ho1
      refine ⟨0, rfl, ⟨_, M.2.1.c60⟩, _, c_mcanP G _ M.2.1 L.mb L.rr L.rs L.rp _, fun r3 h3 q3 => ?_⟩
      rcases q3 with ⟨z, -⟩ | ⟨p', C2, hp', e', ⟨y, -⟩ | ⟨-, rfl, W3, F3⟩⟩
      · exact absurd (inR_of (np_lt (by omega)) hp) z
      · obtain rfl := np_eq (by omega) hp hp' e'; exact absurd y hnc
      · exact ⟨_, rfl, (by first | exact Or.inl rfl | exact Or.inr rfl | exact (L.rt t ht).2.2.1.symm ▸ (H.iv.2.2.2.2.2.2.2.2.2.2 t ht).1), fin0 M W3 F3 (ofr' := ofr) L hf' rfl rfl⟩
  · obtain ⟨rfl, rfl, z⟩ := q
    · obtain rfl : n' = 1 := Option.some.inj (hcd.symm.trans (by decide +kernel))
      have M := mid_of HI H FR.rfl' EQM.rf
      refine ⟨1, rfl, ⟨_, M.2.1.c60⟩, _, c_mcanP G _ M.2.1 L.mb L.rr L.rs L.rp _, fun r3 h3 q3 => ?_⟩
      rcases q3 with ⟨-, rfl, W3, F3⟩ | ⟨p', C2, hp', rfl, -⟩
      · exact ⟨_, rfl, (by first | exact Or.inl rfl | exact Or.inr rfl | exact (L.rt t ht).2.2.1.symm ▸ (H.iv.2.2.2.2.2.2.2.2.2.2 t ht).1), finX M W3 F3 (ofr' := ofr) L rfl (by decide)⟩
      · exact absurd (inR_of (np_lt (by omega)) hp') z
set_option maxHeartbeats 4000000 in
theorem st_nextVersion (HI : INV G h A σ ofr o oD) (n : Int32) : STEP G h A o oD ML_nextVersion MX10_nextVersion 6 (0 + 1) (0 + 6) 3 0 0 [.ref (A 0 0), .int n, .ref o] [.ref (A 60 0), .int n] := by
  have H := HI.1
  have L := HI.2.1
  obtain ⟨f0, hf0⟩ := HI.2.2.1
  have hnp := H.iv.1
  have hnt := H.iv.2.1
  have hnr := H.iv.2.2.1
  refine ⟨_, w_nextVersion G h H.c0 (c_nextV G h H n) (fun r h1 q => by obtain ⟨p, -, -, e, rfl⟩ := q; exact ⟨_, _, e, hf0⟩) (fun C h1 q => q.2.1), fun r1 h2 q => ?_⟩
  rcases q with ⟨v, h1, q, rfl, f', rfl, hf'⟩ | ⟨C, n', q, hcd, rfl⟩
  · obtain ⟨p, hp, rfl, e, rfl⟩ := q
    have M0 := mid_of HI H FR.rfl' EQM.rf
    obtain ⟨f1, ho1⟩ := M0.2.2.1
    have M := M0.wr (f' := f') ho1
    refine ⟨0, rfl, ⟨_, M.2.1.c60⟩, _, c_mnextV G _ M.2.1 L.mb L.rr L.rs _, fun r3 h3 q3 => ?_⟩
    rcases q3 with ⟨z, -⟩ | ⟨p', hp', e', rfl, W3, F3⟩
    · exact absurd (inR_of (np_lt (by omega)) hp) z
    · obtain rfl := np_eq (by omega) hp hp' e'; cases e; exact ⟨_, rfl, fin0 M W3 F3 (ofr' := ofr) L hf' rfl rfl⟩
  · obtain ⟨rfl, rfl, z⟩ := q
    · obtain rfl : n' = 1 := Option.some.inj (hcd.symm.trans (by decide +kernel))
      have M := mid_of HI H FR.rfl' EQM.rf
      refine ⟨1, rfl, ⟨_, M.2.1.c60⟩, _, c_mnextV G _ M.2.1 L.mb L.rr L.rs _, fun r3 h3 q3 => ?_⟩
      rcases q3 with ⟨-, rfl, W3, F3⟩ | ⟨p', hp', rfl, -⟩
      · exact ⟨_, rfl, finX M W3 F3 (ofr' := ofr) L rfl (by decide)⟩
      · exact absurd (inR_of (np_lt (by omega)) hp') z
set_option maxHeartbeats 4000000 in
theorem st_publish (HI : INV G h A σ ofr o oD) (n : Int32) : STEP G h A o oD ML_publish MX10_publish 14 (0 + 9) (0 + 112) 12 0 0 [.ref (A 0 0), .int n, .ref o] [.ref (A 60 0), .int n] := by
  have H := HI.1
  have L := HI.2.1
  obtain ⟨f0, hf0⟩ := HI.2.2.1
  have hnp := H.iv.1
  have hnt := H.iv.2.1
  have hnr := H.iv.2.2.1
  refine ⟨_, w_publish G h H.c0 (c_publish G h H n) (fun r h1 q => by obtain ⟨p, g', -, -, -, -, -, -, -, e, nw, e2, cap2, e3, cap3, g2, g3, mc, mc3, H1, F1⟩ := q; exact ⟨_, _, e, F1 _ _ hf0 trivial⟩) (fun C h1 q => by rcases q with ⟨-, e⟩ | ⟨p, g, -, -, -, -, -, ⟨e, -⟩ | ⟨e, -⟩⟩; exact Or.inl e.1; exact Or.inr (Or.inl e); exact Or.inr (Or.inr e)), fun r1 h2 q => ?_⟩
  rcases q with ⟨v, h1, q, rfl, f', rfl, hf'⟩ | ⟨C, n', q, hcd, rfl⟩
  · obtain ⟨p, g', hp, rfl, hs, hgb, hps, hv9, h20, e, nw, e2, cap2, e3, cap3, g2, g3, mc, mc3, H1, F1⟩ := q
    have M0 := mid_of HI H1 F1 EQM.rl
    obtain ⟨f1, ho1⟩ := M0.2.2.1
    have M := M0.wr (f' := f') ho1
    refine ⟨0, rfl, ⟨_, M.2.1.c60⟩, _, c_mpublish G _ M.2.1 L.mb L.rr L.rs L.rp _, fun r3 h3 q3 => ?_⟩
    rcases q3 with ⟨z, -⟩ | ⟨p', C2, hp', e', ⟨y, -⟩ | ⟨-, -, y, -⟩ | ⟨g9, hs9, -, -, -, R1, R2, R3, hRR, rfl, W3, F3⟩⟩
    · exact absurd (inR_of (np_lt (by omega)) hp) z
    · obtain rfl := np_eq (by omega) hp hp' e'; exact absurd y (fun w => w.elim (fun a => a ⟨g', hs, hps⟩) (fun a => absurd hv9 (Int32.not_le.mpr a)))
    · omega
    · obtain rfl := np_eq (by omega) hp hp' e'; rw [hs] at hs9; cases hs9; cases e
      exact ⟨_, rfl, fin0 M W3 F3 (R_pu L H.iv hp h20 rfl hv9 (fun j x hx => (srch_of L.rr.1 (k := p) (by omega) hs hx).2) hRR) hf' rfl rfl⟩
  · rcases q with ⟨rfl, rfl, z⟩ | ⟨p, g, hp, rfl, hgb, H1, F1, ⟨rfl, hc⟩ | ⟨rfl, hc1, hc2, hc3⟩⟩
    · obtain rfl : n' = 1 := Option.some.inj (hcd.symm.trans (by decide +kernel))
      have M := mid_of HI H FR.rfl' EQM.rf
      refine ⟨1, rfl, ⟨_, M.2.1.c60⟩, _, c_mpublish G _ M.2.1 L.mb L.rr L.rs L.rp _, fun r3 h3 q3 => ?_⟩
      rcases q3 with ⟨-, rfl, W3, F3⟩ | ⟨p', C2, hp', rfl, -⟩
      · exact ⟨_, rfl, finX M W3 F3 (ofr' := ofr) L rfl (by decide)⟩
      · exact absurd (inR_of (np_lt (by omega)) hp') z
    · obtain rfl : n' = 2 := Option.some.inj (hcd.symm.trans (by decide +kernel))
      have M := mid_of HI H1 F1 EQM.rf.sO
      refine ⟨2, rfl, ⟨_, M.2.1.c60⟩, _, c_mpublish G _ M.2.1 L.mb L.rr L.rs L.rp _, fun r3 h3 q3 => ?_⟩
      rcases q3 with ⟨y, -⟩ | ⟨p', C2, hp', e', ⟨-, rfl, W3, F3⟩ | ⟨y1, y2, -⟩ | ⟨g9, y1, y2, y3, -⟩⟩
      · exact absurd (inR_of (np_lt (by omega)) hp) y
      · exact ⟨_, rfl, finX M W3 F3 (ofr' := ofr) L rfl (by decide)⟩
      · obtain rfl := np_eq (by omega) hp hp' e'; exact absurd hc (fun w => w.elim (fun a => a y1) (fun a => absurd y2 (Int32.not_le.mpr a)))
      · obtain rfl := np_eq (by omega) hp hp' e'; exact absurd hc (fun w => w.elim (fun a => a ⟨g9, y1, y2⟩) (fun a => absurd y3 (Int32.not_le.mpr a)))
    · obtain rfl : n' = 3 := Option.some.inj (hcd.symm.trans (by decide +kernel))
      have M := mid_of HI H1 F1 EQM.rf.sO
      refine ⟨3, rfl, ⟨_, M.2.1.c60⟩, _, c_mpublish G _ M.2.1 L.mb L.rr L.rs L.rp _, fun r3 h3 q3 => ?_⟩
      rcases q3 with ⟨y, -⟩ | ⟨p', C2, hp', e', ⟨y, -⟩ | ⟨-, -, -, rfl, W3, F3⟩ | ⟨g9, -, -, -, y, -⟩⟩
      · exact absurd (inR_of (np_lt (by omega)) hp) y
      · obtain rfl := np_eq (by omega) hp hp' e'; exact absurd y (fun w => w.elim (fun a => a hc1) (fun a => absurd hc2 (Int32.not_le.mpr a)))
      · exact ⟨_, rfl, finX M W3 F3 (ofr' := ofr) L rfl (by decide)⟩
      · omega
set_option maxHeartbeats 4000000 in
theorem st_yank (HI : INV G h A σ ofr o oD) (n v9 : Int32) : STEP G h A o oD ML_yank MX10_yank 7 (0 + 3) (0 + 18) 3 0 0 [.ref (A 0 0), .int n, .int v9, .ref o] [.ref (A 60 0), .int n, .int v9] := by
  have H := HI.1
  have L := HI.2.1
  obtain ⟨f0, hf0⟩ := HI.2.2.1
  have hnp := H.iv.1
  have hnt := H.iv.2.1
  have hnr := H.iv.2.2.1
  refine ⟨_, w_yank G h H.c0 (c_yank G h H n v9) (fun r h1 q => by obtain ⟨p, r0, -, -, -, -, -, e, H1, F1⟩ := q; exact ⟨_, _, e, F1 _ _ hf0 trivial⟩) (fun C h1 q => by obtain ⟨-, ⟨e, -⟩ | ⟨p, -, -, ⟨e, -⟩ | ⟨r0, e, -⟩⟩⟩ := q; exact Or.inl e; exact Or.inr (Or.inl e); exact Or.inr (Or.inr e)), fun r1 h2 q => ?_⟩
  rcases q with ⟨v, h1, q, rfl, f', rfl, hf'⟩ | ⟨C, n', q, hcd, rfl⟩
  · obtain ⟨p, r0, hp, rfl, hfd, hr, hny, e, H1, F1⟩ := q
    have M0 := mid_of HI H1 F1 (EQM.rf.sI (by decide))
    obtain ⟨f1, ho1⟩ := M0.2.2.1
    have M := M0.wr (f' := f') ho1
    refine ⟨0, rfl, ⟨_, M.2.1.c60⟩, _, c_myank G _ M.2.1 L.mb L.rr _ _, fun r3 h3 q3 => ?_⟩
    rcases q3 with ⟨z, -⟩ | ⟨p', hp', e', ⟨y, -⟩ | ⟨r2, y, ⟨y2, -⟩ | ⟨-, rfl, W3, F3⟩⟩⟩
    · exact absurd (inR_of (np_lt (by omega)) hp) z
    · obtain rfl := np_eq (by omega) hp hp' e'; rw [hfd] at y; cases y
    · obtain rfl := np_eq (by omega) hp hp' e'; rw [hfd] at y; cases y; exact absurd hny y2
    · obtain rfl := np_eq (by omega) hp hp' e'; rw [hfd] at y; cases y; cases e; exact ⟨_, rfl, fin0 M W3 F3 (R_ya L hr) hf' rfl rfl⟩
  · obtain ⟨rfl, ⟨rfl, z⟩ | ⟨p, hp, rfl, ⟨rfl, hfd⟩ | ⟨r0, rfl, hfd, hyy⟩⟩⟩ := q
    · obtain rfl : n' = 1 := Option.some.inj (hcd.symm.trans (by decide +kernel))
      have M := mid_of HI H FR.rfl' EQM.rf
      refine ⟨1, rfl, ⟨_, M.2.1.c60⟩, _, c_myank G _ M.2.1 L.mb L.rr _ _, fun r3 h3 q3 => ?_⟩
      rcases q3 with ⟨-, rfl, W3, F3⟩ | ⟨p', hp', rfl, -⟩
      · exact ⟨_, rfl, finX M W3 F3 (ofr' := ofr) L rfl (by decide)⟩
      · exact absurd (inR_of (np_lt (by omega)) hp') z
    · obtain rfl : n' = 2 := Option.some.inj (hcd.symm.trans (by decide +kernel))
      have M := mid_of HI H FR.rfl' EQM.rf
      refine ⟨2, rfl, ⟨_, M.2.1.c60⟩, _, c_myank G _ M.2.1 L.mb L.rr _ _, fun r3 h3 q3 => ?_⟩
      rcases q3 with ⟨y, -⟩ | ⟨p', hp', e', ⟨-, rfl, W3, F3⟩ | ⟨r2, y, -⟩⟩
      · exact absurd (inR_of (np_lt (by omega)) hp) y
      · exact ⟨_, rfl, finX M W3 F3 (ofr' := ofr) L rfl (by decide)⟩
      · obtain rfl := np_eq (by omega) hp hp' e'; rw [hfd] at y; cases y
    · obtain rfl : n' = 3 := Option.some.inj (hcd.symm.trans (by decide +kernel))
      have M := mid_of HI H FR.rfl' EQM.rf
      refine ⟨3, rfl, ⟨_, M.2.1.c60⟩, _, c_myank G _ M.2.1 L.mb L.rr _ _, fun r3 h3 q3 => ?_⟩
      rcases q3 with ⟨y, -⟩ | ⟨p', hp', e', ⟨y, -⟩ | ⟨r2, y, ⟨-, rfl, W3, F3⟩ | ⟨y2, -⟩⟩⟩
      · exact absurd (inR_of (np_lt (by omega)) hp) y
      · obtain rfl := np_eq (by omega) hp hp' e'; rw [hfd] at y; cases y
      · exact ⟨_, rfl, finX M W3 F3 (ofr' := ofr) L rfl (by decide)⟩
      · obtain rfl := np_eq (by omega) hp hp' e'; rw [hfd] at y; cases y; exact absurd y2 hyy
set_option maxHeartbeats 4000000 in
theorem st_isStale (HI : INV G h A σ ofr o oD) (n v9 : Int32) : STEPB G h A o oD ML_isStale MX10_isStale 7 (0 + 2) (0 + 12) 3 0 0 [.ref (A 0 0), .int n, .int v9, .ref o] [.ref (A 60 0), .int n, .int v9] := by
  have H := HI.1
  have L := HI.2.1
  obtain ⟨f0, hf0⟩ := HI.2.2.1
  have hnp := H.iv.1
  have hnt := H.iv.2.1
  have hnr := H.iv.2.2.1
  refine ⟨_, w_isStale G h H.c0 (c_isStale G h H n v9) (fun r h1 q => by obtain ⟨rfl, p, r0, -, -, -, -, ⟨-, e⟩ | ⟨-, e⟩⟩ := q; exact ⟨_, _, e, hf0, Or.inr rfl⟩; exact ⟨_, _, e, hf0, Or.inl rfl⟩) (fun C h1 q => by obtain ⟨-, ⟨e, -⟩ | ⟨e, -⟩⟩ := q; exact Or.inl e; exact Or.inr e), fun r1 h2 q => ?_⟩
  rcases q with ⟨v, h1, q, rfl, f', rfl, hf'⟩ | ⟨C, n', q, hcd, rfl⟩
  · obtain ⟨rfl, p, r0, hp, rfl, hfd, hr, ⟨hst, e⟩ | ⟨hst, e⟩⟩ := q
    · cases e
      have M0 := mid_of HI H FR.rfl' EQM.rf
      obtain ⟨f1, ho1⟩ := M0.2.2.1
      have M := M0.wr (f' := f') ho1
      refine ⟨0, rfl, ⟨_, M.2.1.c60⟩, _, c_misStale G _ M.2.1 L.mb L.rr _ _, fun r3 h3 q3 => ?_⟩
      rcases q3 with ⟨z, -⟩ | ⟨p', hp', e', ⟨y, -⟩ | ⟨r2, y, ⟨-, rfl, W3, F3⟩ | ⟨y2, -⟩⟩⟩
      · exact absurd (inR_of (np_lt (by omega)) hp) z
      · obtain rfl := np_eq (by omega) hp hp' e'; rw [hfd] at y; cases y
      · exact ⟨_, rfl, (by first | exact Or.inl rfl | exact Or.inr rfl | exact (L.rt t ht).2.2.1.symm ▸ (H.iv.2.2.2.2.2.2.2.2.2.2 t ht).1), fin0 M W3 F3 (ofr' := ofr) L hf' rfl rfl⟩
      · obtain rfl := np_eq (by omega) hp hp' e'; rw [hfd] at y; cases y; exact absurd hst y2
    · cases e
      have M0 := mid_of HI H FR.rfl' EQM.rf
      obtain ⟨f1, ho1⟩ := M0.2.2.1
      have M := M0.wr (f' := f') ho1
      refine ⟨0, rfl, ⟨_, M.2.1.c60⟩, _, c_misStale G _ M.2.1 L.mb L.rr _ _, fun r3 h3 q3 => ?_⟩
      rcases q3 with ⟨z, -⟩ | ⟨p', hp', e', ⟨y, -⟩ | ⟨r2, y, ⟨y2, -⟩ | ⟨-, rfl, W3, F3⟩⟩⟩
      · exact absurd (inR_of (np_lt (by omega)) hp) z
      · obtain rfl := np_eq (by omega) hp hp' e'; rw [hfd] at y; cases y
      · obtain rfl := np_eq (by omega) hp hp' e'; rw [hfd] at y; cases y; exact absurd y2 hst
      · exact ⟨_, rfl, (by first | exact Or.inl rfl | exact Or.inr rfl | exact (L.rt t ht).2.2.1.symm ▸ (H.iv.2.2.2.2.2.2.2.2.2.2 t ht).1), fin0 M W3 F3 (ofr' := ofr) L hf' rfl rfl⟩
  · obtain ⟨rfl, ⟨rfl, z⟩ | ⟨rfl, p, hp, rfl, hfd⟩⟩ := q
    · obtain rfl : n' = 1 := Option.some.inj (hcd.symm.trans (by decide +kernel))
      have M := mid_of HI H FR.rfl' EQM.rf
      refine ⟨1, rfl, ⟨_, M.2.1.c60⟩, _, c_misStale G _ M.2.1 L.mb L.rr _ _, fun r3 h3 q3 => ?_⟩
      rcases q3 with ⟨-, rfl, W3, F3⟩ | ⟨p', hp', rfl, -⟩
      · exact ⟨_, rfl, (by first | exact Or.inl rfl | exact Or.inr rfl | exact (L.rt t ht).2.2.1.symm ▸ (H.iv.2.2.2.2.2.2.2.2.2.2 t ht).1), finX M W3 F3 (ofr' := ofr) L rfl (by decide)⟩
      · exact absurd (inR_of (np_lt (by omega)) hp') z
    · obtain rfl : n' = 2 := Option.some.inj (hcd.symm.trans (by decide +kernel))
      have M := mid_of HI H FR.rfl' EQM.rf
      refine ⟨2, rfl, ⟨_, M.2.1.c60⟩, _, c_misStale G _ M.2.1 L.mb L.rr _ _, fun r3 h3 q3 => ?_⟩
      rcases q3 with ⟨y, -⟩ | ⟨p', hp', e', ⟨-, rfl, W3, F3⟩ | ⟨r2, y, -⟩⟩
      · exact absurd (inR_of (np_lt (by omega)) hp) y
      · exact ⟨_, rfl, (by first | exact Or.inl rfl | exact Or.inr rfl | exact (L.rt t ht).2.2.1.symm ▸ (H.iv.2.2.2.2.2.2.2.2.2.2 t ht).1), finX M W3 F3 (ofr' := ofr) L rfl (by decide)⟩
      · obtain rfl := np_eq (by omega) hp hp' e'; rw [hfd] at y; cases y
set_option maxHeartbeats 4000000 in
theorem st_relock (HI : INV G h A σ ofr o oD) (n v9 : Int32) : STEP G h A o oD ML_relock MX10_relock 14 (0 + 4) (0 + 24) 10 0 0 [.ref (A 0 0), .int n, .int v9, .ref o] [.ref (A 60 0), .int n, .int v9] := by
  have H := HI.1
  have L := HI.2.1
  obtain ⟨f0, hf0⟩ := HI.2.2.1
  have hnp := H.iv.1
  have hnt := H.iv.2.1
  have hnr := H.iv.2.2.1
  refine ⟨_, w_relock G h H.c0 (c_relock G h H n v9) (fun r h1 q => by obtain ⟨p, r0, g', -, -, -, -, -, -, -, e, H1, F1⟩ := q; exact ⟨_, _, e, F1 _ _ hf0 trivial⟩) (fun C h1 q => by rcases q with ⟨-, ⟨e, -⟩ | ⟨p, -, -, ⟨e, -⟩ | ⟨r0, e, -⟩⟩⟩ | ⟨e, -⟩; exact Or.inl e; exact Or.inr (Or.inl e); exact Or.inr (Or.inr (Or.inl e)); exact Or.inr (Or.inr (Or.inr e))), fun r1 h2 q => ?_⟩
  rcases q with ⟨v, h1, q, rfl, f', rfl, hf'⟩ | ⟨C, n', q, hcd, rfl⟩
  · obtain ⟨p, r0, g', hp, rfl, hfd, hr, hny, hs, hgb, e, H1, F1⟩ := q
    have M0 := mid_of HI H1 F1 (EQM.rf.sO (t := 9) (i := 0) |>.sO)
    obtain ⟨f1, ho1⟩ := M0.2.2.1
    have M := M0.wr (f' := f') ho1
    refine ⟨0, rfl, ⟨_, M.2.1.c60⟩, _, c_mrelock G _ M.2.1 L.mb L.rr _ _, fun r3 h3 q3 => ?_⟩
    rcases q3 with ⟨z, -⟩ | ⟨p', hp', e', ⟨y, -⟩ | ⟨r2, y, ⟨y2, -⟩ | ⟨-, C2, ⟨y2, -⟩ | ⟨g9, R9, hs9, -, hR9, rfl, W3, F3⟩⟩⟩⟩
    · exact absurd (inR_of (np_lt (by omega)) hp) z
    · obtain rfl := np_eq (by omega) hp hp' e'; rw [hfd] at y; cases y
    · obtain rfl := np_eq (by omega) hp hp' e'; rw [hfd] at y; cases y; exact absurd hny y2
    · obtain rfl := np_eq (by omega) hp hp' e'; rw [hfd] at y; cases y; rw [hs] at y2; cases y2
    · obtain rfl := np_eq (by omega) hp hp' e'; rw [hfd] at y; cases y; rw [hs] at hs9; cases hs9; cases e
      exact ⟨_, rfl, fin0 M W3 F3 (R_re L hr (fun j x hx => (srch_of L.rr.1 (k := p) (by omega) hs hx).2.1) hR9) hf' rfl rfl⟩
  · rcases q with ⟨rfl, ⟨rfl, z⟩ | ⟨p, hp, rfl, ⟨rfl, hfd⟩ | ⟨r0, rfl, hfd, hyy⟩⟩⟩ | ⟨rfl, p, r0, hp, rfl, hfd, hr, hny, hs, H1, F1⟩
    · obtain rfl : n' = 1 := Option.some.inj (hcd.symm.trans (by decide +kernel))
      have M := mid_of HI H FR.rfl' EQM.rf
      refine ⟨1, rfl, ⟨_, M.2.1.c60⟩, _, c_mrelock G _ M.2.1 L.mb L.rr _ _, fun r3 h3 q3 => ?_⟩
      rcases q3 with ⟨-, rfl, W3, F3⟩ | ⟨p', hp', rfl, -⟩
      · exact ⟨_, rfl, finX M W3 F3 (ofr' := ofr) L rfl (by decide)⟩
      · exact absurd (inR_of (np_lt (by omega)) hp') z
    · obtain rfl : n' = 2 := Option.some.inj (hcd.symm.trans (by decide +kernel))
      have M := mid_of HI H FR.rfl' EQM.rf
      refine ⟨2, rfl, ⟨_, M.2.1.c60⟩, _, c_mrelock G _ M.2.1 L.mb L.rr _ _, fun r3 h3 q3 => ?_⟩
      rcases q3 with ⟨y, -⟩ | ⟨p', hp', e', ⟨-, rfl, W3, F3⟩ | ⟨r2, y, -⟩⟩
      · exact absurd (inR_of (np_lt (by omega)) hp) y
      · exact ⟨_, rfl, finX M W3 F3 (ofr' := ofr) L rfl (by decide)⟩
      · obtain rfl := np_eq (by omega) hp hp' e'; rw [hfd] at y; cases y
    · obtain rfl : n' = 3 := Option.some.inj (hcd.symm.trans (by decide +kernel))
      have M := mid_of HI H FR.rfl' EQM.rf
      refine ⟨3, rfl, ⟨_, M.2.1.c60⟩, _, c_mrelock G _ M.2.1 L.mb L.rr _ _, fun r3 h3 q3 => ?_⟩
      rcases q3 with ⟨y, -⟩ | ⟨p', hp', e', ⟨y, -⟩ | ⟨r2, y, ⟨-, rfl, W3, F3⟩ | ⟨y2, -⟩⟩⟩
      · exact absurd (inR_of (np_lt (by omega)) hp) y
      · obtain rfl := np_eq (by omega) hp hp' e'; rw [hfd] at y; cases y
      · exact ⟨_, rfl, finX M W3 F3 (ofr' := ofr) L rfl (by decide)⟩
      · obtain rfl := np_eq (by omega) hp hp' e'; rw [hfd] at y; cases y; exact absurd y2 hyy
    · obtain rfl : n' = 4 := Option.some.inj (hcd.symm.trans (by decide +kernel))
      have M := mid_of HI H1 F1 EQM.rf.sO
      refine ⟨4, rfl, ⟨_, M.2.1.c60⟩, _, c_mrelock G _ M.2.1 L.mb L.rr _ _, fun r3 h3 q3 => ?_⟩
      rcases q3 with ⟨y, -⟩ | ⟨p', hp', e', ⟨y, -⟩ | ⟨r2, y, ⟨y2, -⟩ | ⟨-, C2, ⟨-, rfl, W3, F3⟩ | ⟨g9, R9, hs9, -⟩⟩⟩⟩
      · exact absurd (inR_of (np_lt (by omega)) hp) y
      · obtain rfl := np_eq (by omega) hp hp' e'; rw [hfd] at y; cases y
      · obtain rfl := np_eq (by omega) hp hp' e'; rw [hfd] at y; cases y; exact absurd hny y2
      · exact ⟨_, rfl, finX M W3 F3 (ofr' := ofr) L rfl (by decide)⟩
      · obtain rfl := np_eq (by omega) hp hp' e'; rw [hfd] at y; cases y; rw [hs] at hs9; cases hs9
set_option maxHeartbeats 4000000 in
theorem st_locked (HI : INV G h A σ ofr o oD) (n v9 w9 : Int32) : STEP G h A o oD ML_locked MX10_locked 7 (0 + 3) (0 + 18) 2 0 0 [.ref (A 0 0), .int n, .int v9, .int w9, .ref o] [.ref (A 60 0), .int n, .int v9, .int w9] := by
  have H := HI.1
  have L := HI.2.1
  obtain ⟨f0, hf0⟩ := HI.2.2.1
  have hnp := H.iv.1
  have hnt := H.iv.2.1
  have hnr := H.iv.2.2.1
  refine ⟨_, w_locked G h H.c0 (c_locked G h H n v9 w9) (fun r h1 q => by obtain ⟨rfl, p, q, r0, -, -, -, -, -, -, e⟩ := q; exact ⟨_, _, e, hf0⟩) (fun C h1 q => by obtain ⟨-, ⟨e, -⟩ | ⟨e, -⟩⟩ := q; exact Or.inl e; exact Or.inr e), fun r1 h2 q => ?_⟩
  rcases q with ⟨v, h1, q, rfl, f', rfl, hf'⟩ | ⟨C, n', q, hcd, rfl⟩
  · obtain ⟨rfl, p, q, r0, hp, hq, rfl, rfl, hfd, hr, e⟩ := q
    have M0 := mid_of HI H FR.rfl' EQM.rf
    obtain ⟨f1, ho1⟩ := M0.2.2.1
    have M := M0.wr (f' := f') ho1
    refine ⟨0, rfl, ⟨_, M.2.1.c60⟩, _, c_mlocked G _ M.2.1 L.mb L.rr _ _ _, fun r3 h3 q3 => ?_⟩
    rcases q3 with ⟨z, -⟩ | ⟨p', q', hp', hq', e', e'', ⟨y, -⟩ | ⟨r2, y, rfl, W3, F3⟩⟩
    · exact absurd ⟨inR_of (np_lt (by omega)) hp, inR_of (np_lt (by omega)) hq⟩ z
    · obtain rfl := np_eq (by omega) hp hp' e'; rw [hfd] at y; cases y
    · obtain rfl := np_eq (by omega) hp hp' e'; obtain rfl := np_eq (by omega) hq hq' e''; rw [hfd] at y; cases y; cases e; exact ⟨_, rfl, fin0 M W3 F3 (ofr' := ofr) L hf' rfl rfl⟩
  · obtain ⟨rfl, ⟨rfl, z⟩ | ⟨rfl, hin, p, hp, rfl, hfd⟩⟩ := q
    · obtain rfl : n' = 1 := Option.some.inj (hcd.symm.trans (by decide +kernel))
      have M := mid_of HI H FR.rfl' EQM.rf
      refine ⟨1, rfl, ⟨_, M.2.1.c60⟩, _, c_mlocked G _ M.2.1 L.mb L.rr _ _ _, fun r3 h3 q3 => ?_⟩
      rcases q3 with ⟨-, rfl, W3, F3⟩ | ⟨p', q', hp', hq', rfl, rfl, -⟩
      · exact ⟨_, rfl, finX M W3 F3 (ofr' := ofr) L rfl (by decide)⟩
      · exact absurd ⟨inR_of (np_lt (by omega)) hp', inR_of (np_lt (by omega)) hq'⟩ z
    · obtain rfl : n' = 2 := Option.some.inj (hcd.symm.trans (by decide +kernel))
      have M := mid_of HI H FR.rfl' EQM.rf
      refine ⟨2, rfl, ⟨_, M.2.1.c60⟩, _, c_mlocked G _ M.2.1 L.mb L.rr _ _ _, fun r3 h3 q3 => ?_⟩
      rcases q3 with ⟨y, -⟩ | ⟨p', q', hp', hq', e', rfl, ⟨-, rfl, W3, F3⟩ | ⟨r2, y, -⟩⟩
      · exact absurd ⟨inR_of (np_lt (by omega)) hp, hin⟩ y
      · exact ⟨_, rfl, finX M W3 F3 (ofr' := ofr) L rfl (by decide)⟩
      · obtain rfl := np_eq (by omega) hp hp' e'; rw [hfd] at y; cases y
def G3D (G : hG) (A : aT) (o oD : Nat) (k : Int32) (h3 : hp) (b : UInt64) : Prop := ∃ A' σ' ofr', INV G h3 A' σ' ofr' o oD ∧ A' 0 0 = A 0 0 ∧ A' 60 0 = A 60 0 ∧ σ'.1 60 0 7 = k ∧ (k = 0 → ∃ f, h3 oD = some (aD 1 f) ∧ f 0 = b ∧ FP.Core.dIsNaN b = false)
theorem fin0D {f' : Nat → UInt64} (M : MID G A σ (va_up h1 oD (some (aD 1 f'))) A1 σ1 o oD) (W : WM G h3 A σm) (F : FM A (va_up h1 oD (some (aD 1 f'))) h3) (R : REL (mixS σ1 σm) ofr') {b : UInt64} (hf : f' 0 = b) (hn : FP.Core.dIsNaN b = false) (h7 : σm.1 60 0 7 = 0) : G3D G A o oD 0 h3 b := by
  obtain ⟨I, e0, e60, -, ko⟩ := M.fin W F R
  exact ⟨A1, _, _, I, e0, e60, h7, fun _ => ⟨f', ko _ trivial (va_up_self _ _ _), hf, hn⟩⟩
theorem finXD (M : MID G A σ h2 A1 σ1 o oD) (W : WM G h3 A σm) (F : FM A h2 h3) (R : REL (mixS σ1 σm) ofr') {k : Int32} {b : UInt64} (h7 : σm.1 60 0 7 = k) (hk : ¬ k = 0) : G3D G A o oD k h3 b := by
  obtain ⟨I, e0, e60, -, -⟩ := M.fin W F R
  exact ⟨A1, _, _, I, e0, e60, h7, fun z => absurd z hk⟩
theorem vf64 {r : UInt64} (h : FP.Core.dIsNaN r = false) : vf_n64 r := vf_n64_of h
theorem good_nn {a n : Int32} (hn : ¬ n = 0) : FP.Core.dIsNaN (FP.f2d (FP.fdiv (FP.i2f a) (FP.i2f n))) = false := by
  have h := fdn (a := a) hn
  first | exact FP.f2d_out h | exact (FP.f2d_nan _).trans h | (rw [FP.f2d_nan]; exact h)
theorem st_goodShare (HI : INV G h A σ ofr o oD) : ∃ Qw, PMet G ML_goodShare 4 (0 + 1) (0 + 6) [.ref (A 0 0), .ref oD] h Qw noX ∧ ∀ r1 h2, Qw r1 h2 → ∃ k, r1 = some (.int k) ∧ (∃ fs, h2 (A 60 0) = some (oB 13 fs)) ∧ ∃ Qm, PMet G MX10_goodShare 3 0 0 [.ref (A 60 0)] h2 Qm noX ∧ ∀ r3 h3, Qm r3 h3 → ∃ b, r3 = some (.float b) ∧ G3D G A o oD k h3 (FP.f2d b) := by
  have H := HI.1
  have L := HI.2.1
  obtain ⟨f0, hf0⟩ := HI.2.2.2
  have hnr := H.iv.2.2.1
  have hnn : ¬ nrl σ = 0 → FP.Core.dIsNaN (FP.f2d (FP.fdiv (FP.i2f (gdN σ (nrl σ))) (FP.i2f (nI (nrl σ))))) = false := fun z => good_nn (nI_ne0 (by omega) (by omega))
  refine ⟨_, w_goodShare G h H.c0 (c_good G h H) (fun r h1 q => by obtain ⟨rfl, hz, e⟩ := q; exact ⟨_, _, e, hf0, vf64 (hnn hz)⟩) (fun C h1 q => q.1), fun r1 h2 q => ?_⟩
  rcases q with ⟨v, h1, q, rfl, f', rfl, hf'⟩ | ⟨C, n', q, hcd, rfl⟩
  · obtain ⟨rfl, hz, e⟩ := q
    have M0 := mid_of HI H FR.rfl' EQM.rf
    have M := M0.wrD (f' := f') hf0
    refine ⟨0, rfl, ⟨_, M.2.1.c60⟩, _, c_mgood G _ M.2.1 L.mb L.rr, fun r3 h3 q3 => ?_⟩
    rcases q3 with ⟨z, -⟩ | ⟨-, rfl, W3, F3⟩
    · exact absurd z hz
    · cases e; exact ⟨_, rfl, fin0D M W3 F3 (ofr' := ofr) L hf' (hnn hz) rfl⟩
  · obtain ⟨rfl, rfl, hz⟩ := q
    obtain rfl : n' = 1 := Option.some.inj (hcd.symm.trans (by decide +kernel))
    have M := mid_of HI H FR.rfl' EQM.rf
    refine ⟨1, rfl, ⟨_, M.2.1.c60⟩, _, c_mgood G _ M.2.1 L.mb L.rr, fun r3 h3 q3 => ?_⟩
    rcases q3 with ⟨-, x, rfl, W3, F3⟩ | ⟨z, -⟩
    · exact ⟨_, rfl, finXD M W3 F3 (ofr' := ofr) L rfl (by decide)⟩
    · exact absurd hz z
theorem st_meanPaid (HI : INV G h A σ ofr o oD) : ∃ Qw, PMet G ML_meanPaid 1 (0 + 1) (0 + 6) [.ref (A 0 0), .ref oD] h Qw noX ∧ ∀ r1 h2, Qw r1 h2 → ∃ k, r1 = some (.int k) ∧ (∃ fs, h2 (A 60 0) = some (oB 13 fs)) ∧ ∃ Qm, PMet G MX10_meanPaid 0 0 0 [.ref (A 60 0)] h2 Qm noX ∧ ∀ r3 h3, Qm r3 h3 → ∃ b, r3 = some (.double b) ∧ G3D G A o oD k h3 b := by
  have H := HI.1
  have L := HI.2.1
  obtain ⟨f0, hf0⟩ := HI.2.2.2
  have e5 := L.1.2.1.2.2.1
  have e6 := L.1.2.1.2.2.2
  refine ⟨_, w_meanPaid G h H.c0 (c_mean G h H) (fun r h1 q => by obtain ⟨rfl, hz, e⟩ := q; exact ⟨_, _, e, hf0⟩) (fun C h1 q => q.1), fun r1 h2 q => ?_⟩
  rcases q with ⟨v, h1, q, rfl, f', rfl, hf'⟩ | ⟨C, n', q, hcd, rfl⟩
  · obtain ⟨rfl, hz, e⟩ := q
    have M0 := mid_of HI H FR.rfl' EQM.rf
    have M := M0.wrD (f' := f') hf0
    refine ⟨0, rfl, ⟨_, M.2.1.c60⟩, _, c_mmean G _ M.2.1, fun r3 h3 q3 => ?_⟩
    rcases q3 with ⟨z, -⟩ | ⟨-, rfl, W3, F3⟩
    · exact absurd (e5.symm.trans z) hz
    · cases e; exact ⟨_, rfl, fin0D M W3 F3 (ofr' := ofr) L (hf'.trans (by rw [e5, e6])) (by rw [e5, e6]; exact ddn hz) rfl⟩
  · obtain ⟨rfl, rfl, hz⟩ := q
    obtain rfl : n' = 1 := Option.some.inj (hcd.symm.trans (by decide +kernel))
    have M := mid_of HI H FR.rfl' EQM.rf
    refine ⟨1, rfl, ⟨_, M.2.1.c60⟩, _, c_mmean G _ M.2.1, fun r3 h3 q3 => ?_⟩
    rcases q3 with ⟨-, x, rfl, W3, F3⟩ | ⟨z, -⟩
    · exact ⟨_, rfl, finXD M W3 F3 (ofr' := ofr) L rfl (by decide)⟩
    · exact absurd (e5.trans hz) z
theorem st_compiled (HI : INV G h A σ ofr o oD) : PMet G MX9_compiled 0 0 0 [.ref (A 0 0)] h (det (some (.int (σ.1 0 0 1))) h) noX ∧ ∃ Qm, PMet G MX10_compiled 0 0 0 [.ref (A 60 0)] h Qm noX ∧ ∀ r3 h3, Qm r3 h3 → r3 = some (.int (σ.1 0 0 1)) ∧ ∃ A' σ' ofr', INV G h3 A' σ' ofr' o oD ∧ A' 0 0 = A 0 0 ∧ A' 60 0 = A 60 0 := by
  have H := HI.1
  have L := HI.2.1
  refine ⟨c_compiled G h H, _, c_mcompiled G h H.wm, fun r3 h3 q3 => ?_⟩
  have M := mid_of HI H FR.rfl' EQM.rf
  obtain ⟨rfl, W3, F3⟩ := q3
  obtain ⟨I, e0, e60, -, -⟩ := M.fin W3 F3 (ofr' := ofr) L
  exact ⟨by rw [L.1.2.1.2.1], _, _, _, I, e0, e60⟩
end STR
