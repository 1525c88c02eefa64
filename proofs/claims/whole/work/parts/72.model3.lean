/-! the reference: fits -/
def adP (I : Nat → Nat → Nat → Int32) (le gr : Nat → Int32) (g : Nat → Option Nat) (k r i : Nat) : Prop := I 40 r 2 = 0 ∧ okv (le k) (gr k) (I 40 r 0) ∧ ∀ a x, k < a → a < i → g a = some x → okv (I 42 x k) (I 43 x k) (I 40 r 0)
theorem adR {I : Nat → Nat → Nat → Int32} {le gr : Nat → Int32} {g : Nat → Option Nat} {k r i : Nat} {ac : Int32} {h : hp} (hi : i = 6) (hac : (ac = 1 ∧ adP I le gr g k r i) ∨ (ac = 0 ∧ ¬ adP I le gr g k r i)) : bR (admd I le gr g k r) h (some (.int ac)) h := by
  subst hi
  rcases hac with ⟨rfl, q⟩ | ⟨rfl, q⟩
  · exact bR_1 q
  · exact bR_0 q
set_option maxHeartbeats 4000000 in
set_option maxRecDepth 100000 in
theorem c_mfits (G : hG) (h : hp) {A : aT} {σ : sT} (H : WM G h A σ) {ofr : Nat → Nat} (hR : MR σ ofr) {fa ta : Nat} {le gr : Nat → Int32} (hfa : h fa = some (aI 6 le)) (hta : h ta = some (aI 6 gr)) (hle : ∀ j, j < 6 → nbk (le j) (gr j)) {g : Nat → Option Nat} (hgb : pkB σ g) {kq : Nat} (hk : kq < 6) (hC : ∀ j, kq < j → j < 6 → σ.1 90 0 j = enc (g j)) {r : Nat} (hr : r < nrl σ) (hro : ofr r = kq) : PMet G MX10_fits 1 0 0 [.ref (A 60 0), .int (nI r), .ref fa, .ref ta] h (bR (admd σ.1 le gr g kq r) h) noX := by
  have h20 := H.iv.2.2.1
  refine PMet.of (by decide +kernel) (Nat.le_of_ble_eq_true rfl) (fun d hd => ?_)
  refine PW.sub (L2 := [(0, Value.ref (A 60 0)), (1, Value.int (nI r)), (2, Value.ref fa), (3, Value.ref ta)]) [0, 1, 2, 3] rfl ?_
  refine pw_aload_n (pc2 := 1) dX10_fits_0 rfl rfl 0 rfl (by first | exact rf_ref _ | exact rf_opt _ | exact rf_nul) ?_
  refine pw_get (pc2 := 4) kX10 (k := 17) (by decide) rfl fl_X10_61 H.c60 rfl dX10_fits_1 rfl ?_
  refine pw_iload_n (pc2 := 5) dX10_fits_4 rfl rfl 1 rfl ?_
  refine pw_ialdN (pc2 := 6) H.c77 (i := r) (by first | assumption | omega) (by omega) dX10_fits_5 rfl ?_
  refine pw_topE (show σ.1 77 0 r = nI kq from hro ▸ (hR.1 r hr).2.1) ?_
  refine pw_istore (pc2 := 8) (L2 := [(4, Value.int (nI kq)), (0, Value.ref (A 60 0)), (1, Value.int (nI r)), (2, Value.ref fa), (3, Value.ref ta)]) dX10_fits_6 rfl (by decide) rfl ?_
  refine pw_aload_n (pc2 := 9) dX10_fits_8 rfl rfl 1 rfl (by first | exact rf_ref _ | exact rf_opt _ | exact rf_nul) ?_
  refine pw_get (pc2 := 12) kX10 (k := 18) (by decide) rfl fl_X10_64 H.c60 rfl dX10_fits_9 rfl ?_
  refine pw_iload_n (pc2 := 13) dX10_fits_12 rfl rfl 2 rfl ?_
  refine pw_ialdN (pc2 := 14) H.c78 (i := r) (by first | assumption | omega) (by omega) dX10_fits_13 rfl ?_
  refine pw_topE (hR.1 r hr).2.2.1 ?_
  obtain ⟨v, hv⟩ : ∃ v, v = σ.1 40 r 0 := ⟨_, rfl⟩
  refine pw_topE hv.symm ?_
  refine pw_istore (pc2 := 16) (L2 := [(5, Value.int v), (4, Value.int (nI kq)), (0, Value.ref (A 60 0)), (1, Value.int (nI r)), (2, Value.ref fa), (3, Value.ref ta)]) dX10_fits_14 rfl (by decide) rfl ?_
  refine pw_aload_n (pc2 := 17) dX10_fits_16 rfl rfl 2 rfl (by first | exact rf_ref _ | exact rf_opt _ | exact rf_nul) ?_
  refine pw_get (pc2 := 20) kX10 (k := 23) (by decide) rfl fl_X10_79 H.c60 rfl dX10_fits_17 rfl ?_
  refine pw_iload_n (pc2 := 21) dX10_fits_20 rfl rfl 3 rfl ?_
  refine pw_zaldN (pc2 := 22) H.c83 (i := r) (by first | assumption | omega) (by omega) dX10_fits_21 rfl ?_
  refine pw_topE (hR.1 r hr).2.2.2.2.1 ?_
  refine pw_if_ne (tgt := 52) (pc2 := 25) dX10_fits_22 (by decide) rfl (fun c22 => ?_) (fun c22 => ?_)
  · refine pw_iconst (pc2 := 53) (v := 0) dX10_fits_52 rfl (by decide) ?_
    refine pw_istore (pc2 := 55) (L2 := [(6, Value.int 0), (5, Value.int v), (4, Value.int (nI kq)), (0, Value.ref (A 60 0)), (1, Value.int (nI r)), (2, Value.ref fa), (3, Value.ref ta)]) dX10_fits_53 rfl (by decide) rfl ?_
    refine pw_iload (pc2 := 57) dX10_fits_55 rfl 2 rfl ?_
    refine pw_iconst (pc2 := 58) (v := 1) dX10_fits_57 rfl (by decide) ?_
    refine pw_iadd (pc2 := 59) dX10_fits_58 rfl ?_
    refine pw_topE (nI_1 _) ?_
    refine pw_istore (pc2 := 61) (L2 := [(7, Value.int (nI (kq + 1))), (6, Value.int 0), (5, Value.int v), (4, Value.int (nI kq)), (0, Value.ref (A 60 0)), (1, Value.int (nI r)), (2, Value.ref fa), (3, Value.ref ta)]) dX10_fits_59 rfl (by decide) rfl ?_
    have loop : ∀ (k i : Nat) (ac : Int32) (hki : kq < i) (hac : ((ac = 1 ∧ adP σ.1 le gr g kq r i) ∨ (ac = 0 ∧ ¬ adP σ.1 le gr g kq r i))), i + k = 6 → PW G MX10_fits d noA (E0 G (bR (admd σ.1 le gr g kq r) h) noX) 0 0 61 [(7, Value.int (nI i)), (6, Value.int ac), (4, Value.int (nI kq)), (5, Value.int v), (0, Value.ref (A 60 0)), (2, Value.ref fa), (3, Value.ref ta)] [] h := by
      intro k
      induction k with
      | zero =>
        intro i ac hki hac hik
        have hi9 : i = 6 := by omega
        refine pw_iload (pc2 := 63) dX10_fits_61 rfl 0 rfl ?_
        refine pw_bipush (pc2 := 65) (v := 6) dX10_fits_63 rfl (by decide) ?_
        refine pw_icmp_ge (tgt := 142) (pc2 := 68) dX10_fits_65 (by decide) rfl (fun _ => ?_) (fun c65 => by exact absurd (by first | (rw [hi9]; exact Int32.le_refl _) | exact fun q => absurd ((l6 (by omega)).mp q) (by omega)) c65)
        refine pw_iload (pc2 := 144) dX10_fits_142 rfl 1 rfl ?_
        have hb01 : b01 ac := by rcases hac with ⟨q, _⟩ | ⟨q, _⟩; exact Or.inr q; exact Or.inl q
        refine pw_iret dX10_fits_144 rfl (nar_b2 hb01) ?_
        exact adR hi9 hac
      | succ k ih =>
        intro i ac hki hac hik
        have hi9 : i < 6 := by omega
        refine pw_iload (pc2 := 63) dX10_fits_61 rfl 0 rfl ?_
        refine pw_bipush (pc2 := 65) (v := 6) dX10_fits_63 rfl (by decide) ?_
        refine pw_icmp_ge (tgt := 142) (pc2 := 68) dX10_fits_65 (by decide) rfl (fun c65 => by exact absurd c65 (by first | (rw [hi9]; exact Int32.le_refl _) | exact fun q => absurd ((l6 (by omega)).mp q) (by omega))) (fun _ => ?_)
        refine pw_aload_n (pc2 := 69) dX10_fits_68 rfl rfl 4 rfl (by first | exact rf_ref _ | exact rf_opt _ | exact rf_nul) ?_
        refine pw_get (pc2 := 72) kX10 (k := 36) (by decide) rfl fl_X10_106 H.c60 rfl dX10_fits_69 rfl ?_
        refine pw_iload (pc2 := 74) dX10_fits_72 rfl 0 rfl ?_
        refine pw_ialdN (pc2 := 75) H.c90 (i := i) (by first | assumption | omega) (by omega) dX10_fits_74 rfl ?_
        refine pw_topE (hC i hki hi9) ?_
        cases hgi : g i with
        | none =>
          refine pw_istore (pc2 := 77) (L2 := [(8, Value.int (-1)), (7, Value.int (nI i)), (6, Value.int ac), (4, Value.int (nI kq)), (5, Value.int v), (0, Value.ref (A 60 0)), (2, Value.ref fa), (3, Value.ref ta)]) dX10_fits_75 rfl (by decide) rfl ?_
          refine pw_iload (pc2 := 79) dX10_fits_77 rfl 2 rfl ?_
          refine pw_if_eq (tgt := 133) (pc2 := 82) dX10_fits_79 (by decide) rfl (fun c79 => ?_) (fun c79 => ?_)
          · refine pw_iconst (pc2 := 134) (v := 0) dX10_fits_133 rfl (by decide) ?_
            refine pw_istore (pc2 := 136) (L2 := [(6, Value.int 0), (8, Value.int (-1)), (7, Value.int (nI i)), (4, Value.int (nI kq)), (5, Value.int v), (0, Value.ref (A 60 0)), (2, Value.ref fa), (3, Value.ref ta)]) dX10_fits_134 rfl (by decide) rfl ?_
            refine pw_iinc (pc2 := 139) (v := nI (i + 1)) (L2 := [(7, Value.int (nI (i + 1))), (6, Value.int 0), (8, Value.int (-1)), (4, Value.int (nI kq)), (5, Value.int v), (0, Value.ref (A 60 0)), (2, Value.ref fa), (3, Value.ref ta)]) dX10_fits_136 rfl 2 rfl (by show nI _ + 1 = nI _; exact nI_1 _) (by decide) rfl ?_
            refine pw_goto (tgt := 61) dX10_fits_139 (by decide) ?_
            refine PW.sub (L2 := [(7, Value.int (nI (i + 1))), (6, Value.int 0), (4, Value.int (nI kq)), (5, Value.int v), (0, Value.ref (A 60 0)), (2, Value.ref fa), (3, Value.ref ta)]) [0, 1, 3, 4, 5, 6, 7] rfl ?_
            refine ih (i + 1) 0 (by omega) (Or.inr ⟨rfl, fun z => ?_⟩) (by omega)
            rcases hac with ⟨q, _⟩ | ⟨_, q⟩
            · exact absurd (c79 ▸ q) (by decide)
            · exact q ⟨z.1, z.2.1, fun a y h1 h2 h3 => z.2.2 a y h1 (by omega) h3⟩
          · refine pw_iload (pc2 := 84) dX10_fits_82 rfl 0 rfl ?_
            refine pw_iconst (pc2 := 85) (v := (-1)) dX10_fits_84 rfl (by decide) ?_
            refine pw_icmp_eq (tgt := 129) (pc2 := 88) dX10_fits_85 (by decide) rfl (fun _ => ?_) (fun c85 => by exact absurd (rfl) c85)
            refine pw_iconst (pc2 := 130) (v := 1) dX10_fits_129 rfl (by decide) ?_
            refine pw_goto (tgt := 134) dX10_fits_130 (by decide) ?_
            refine pw_istore (pc2 := 136) (L2 := [(6, Value.int 1), (8, Value.int (-1)), (7, Value.int (nI i)), (4, Value.int (nI kq)), (5, Value.int v), (0, Value.ref (A 60 0)), (2, Value.ref fa), (3, Value.ref ta)]) dX10_fits_134 rfl (by decide) rfl ?_
            refine pw_iinc (pc2 := 139) (v := nI (i + 1)) (L2 := [(7, Value.int (nI (i + 1))), (6, Value.int 1), (8, Value.int (-1)), (4, Value.int (nI kq)), (5, Value.int v), (0, Value.ref (A 60 0)), (2, Value.ref fa), (3, Value.ref ta)]) dX10_fits_136 rfl 2 rfl (by show nI _ + 1 = nI _; exact nI_1 _) (by decide) rfl ?_
            refine pw_goto (tgt := 61) dX10_fits_139 (by decide) ?_
            refine PW.sub (L2 := [(7, Value.int (nI (i + 1))), (6, Value.int 1), (4, Value.int (nI kq)), (5, Value.int v), (0, Value.ref (A 60 0)), (2, Value.ref fa), (3, Value.ref ta)]) [0, 1, 3, 4, 5, 6, 7] rfl ?_
            refine ih (i + 1) 1 (by omega) (Or.inl ⟨rfl, ?_⟩) (by omega)
            have hY : adP σ.1 le gr g kq r i := by rcases hac with ⟨_, q⟩ | ⟨q, _⟩; exact q; exact absurd q c79
            refine ⟨hY.1, hY.2.1, fun a y h1 h2 h3 => ?_⟩
            by_cases ea : a = i
            · subst ea
              rw [hgi] at h3
              first | (cases h3; done) | (cases h3; exact Or.inl ((nbk_z ((hR.1 x hx).2.2.2.2.2 kq hk).2.2).mp (((hR.1 x hx).2.2.2.2.2 kq hk).1 ▸ c98))) | (cases h3; exact Or.inr (by rw [← hv]; rw [((hR.1 x hx).2.2.2.2.2 kq hk).1, ((hR.1 x hx).2.2.2.2.2 kq hk).2.1] at q123; exact q123))
            · exact hY.2.2 a y h1 (by omega) h3
        | some x =>
          have hx := hgb i x hgi
          have hx20 : x < 20 := by omega
          refine pw_istore (pc2 := 77) (L2 := [(8, Value.int (nI x)), (7, Value.int (nI i)), (6, Value.int ac), (4, Value.int (nI kq)), (5, Value.int v), (0, Value.ref (A 60 0)), (2, Value.ref fa), (3, Value.ref ta)]) dX10_fits_75 rfl (by decide) rfl ?_
          refine pw_iload (pc2 := 79) dX10_fits_77 rfl 2 rfl ?_
          refine pw_if_eq (tgt := 133) (pc2 := 82) dX10_fits_79 (by decide) rfl (fun c79 => ?_) (fun c79 => ?_)
          · refine pw_iconst (pc2 := 134) (v := 0) dX10_fits_133 rfl (by decide) ?_
            refine pw_istore (pc2 := 136) (L2 := [(6, Value.int 0), (8, Value.int (nI x)), (7, Value.int (nI i)), (4, Value.int (nI kq)), (5, Value.int v), (0, Value.ref (A 60 0)), (2, Value.ref fa), (3, Value.ref ta)]) dX10_fits_134 rfl (by decide) rfl ?_
            refine pw_iinc (pc2 := 139) (v := nI (i + 1)) (L2 := [(7, Value.int (nI (i + 1))), (6, Value.int 0), (8, Value.int (nI x)), (4, Value.int (nI kq)), (5, Value.int v), (0, Value.ref (A 60 0)), (2, Value.ref fa), (3, Value.ref ta)]) dX10_fits_136 rfl 2 rfl (by show nI _ + 1 = nI _; exact nI_1 _) (by decide) rfl ?_
            refine pw_goto (tgt := 61) dX10_fits_139 (by decide) ?_
            refine PW.sub (L2 := [(7, Value.int (nI (i + 1))), (6, Value.int 0), (4, Value.int (nI kq)), (5, Value.int v), (0, Value.ref (A 60 0)), (2, Value.ref fa), (3, Value.ref ta)]) [0, 1, 3, 4, 5, 6, 7] rfl ?_
            refine ih (i + 1) 0 (by omega) (Or.inr ⟨rfl, fun z => ?_⟩) (by omega)
            rcases hac with ⟨q, _⟩ | ⟨_, q⟩
            · exact absurd (c79 ▸ q) (by decide)
            · exact q ⟨z.1, z.2.1, fun a y h1 h2 h3 => z.2.2 a y h1 (by omega) h3⟩
          · refine pw_iload (pc2 := 84) dX10_fits_82 rfl 0 rfl ?_
            refine pw_iconst (pc2 := 85) (v := (-1)) dX10_fits_84 rfl (by decide) ?_
            refine pw_icmp_eq (tgt := 129) (pc2 := 88) dX10_fits_85 (by decide) rfl (fun c85 => by exact absurd c85 (nIne x (by omega))) (fun _ => ?_)
            refine pw_aload_n (pc2 := 89) dX10_fits_88 rfl rfl 5 rfl (by first | exact rf_ref _ | exact rf_opt _ | exact rf_nul) ?_
            refine pw_get (pc2 := 92) kX10 (k := 20) (by decide) rfl fl_X10_70 H.c60 rfl dX10_fits_89 rfl ?_
            refine pw_iload (pc2 := 94) dX10_fits_92 rfl 0 rfl ?_
            refine pw_aaldN (pc2 := 95) 6 rfl rfl H.c80 (i := x) (by first | assumption | omega) (by omega) dX10_fits_94 rfl ?_
            refine pw_topV (rowv (by first | assumption | omega)) ?_
            refine pw_iload (pc2 := 97) dX10_fits_95 rfl 3 rfl ?_
            refine pw_ialdN (pc2 := 98) (H.c97 hx20) (i := kq) (by first | assumption | omega) (by omega) dX10_fits_97 rfl ?_
            refine pw_if_eq (tgt := 129) (pc2 := 101) dX10_fits_98 (by decide) rfl (fun c98 => ?_) (fun c98 => ?_)
            · refine pw_iconst (pc2 := 130) (v := 1) dX10_fits_129 rfl (by decide) ?_
              refine pw_goto (tgt := 134) dX10_fits_130 (by decide) ?_
              refine pw_istore (pc2 := 136) (L2 := [(6, Value.int 1), (8, Value.int (nI x)), (7, Value.int (nI i)), (4, Value.int (nI kq)), (5, Value.int v), (0, Value.ref (A 60 0)), (2, Value.ref fa), (3, Value.ref ta)]) dX10_fits_134 rfl (by decide) rfl ?_
              refine pw_iinc (pc2 := 139) (v := nI (i + 1)) (L2 := [(7, Value.int (nI (i + 1))), (6, Value.int 1), (8, Value.int (nI x)), (4, Value.int (nI kq)), (5, Value.int v), (0, Value.ref (A 60 0)), (2, Value.ref fa), (3, Value.ref ta)]) dX10_fits_136 rfl 2 rfl (by show nI _ + 1 = nI _; exact nI_1 _) (by decide) rfl ?_
              refine pw_goto (tgt := 61) dX10_fits_139 (by decide) ?_
              refine PW.sub (L2 := [(7, Value.int (nI (i + 1))), (6, Value.int 1), (4, Value.int (nI kq)), (5, Value.int v), (0, Value.ref (A 60 0)), (2, Value.ref fa), (3, Value.ref ta)]) [0, 1, 3, 4, 5, 6, 7] rfl ?_
              refine ih (i + 1) 1 (by omega) (Or.inl ⟨rfl, ?_⟩) (by omega)
              have hY : adP σ.1 le gr g kq r i := by rcases hac with ⟨_, q⟩ | ⟨q, _⟩; exact q; exact absurd q c79
              refine ⟨hY.1, hY.2.1, fun a y h1 h2 h3 => ?_⟩
              by_cases ea : a = i
              · subst ea
                rw [hgi] at h3
                first | (cases h3; done) | (cases h3; exact Or.inl ((nbk_z ((hR.1 x hx).2.2.2.2.2 kq hk).2.2).mp (((hR.1 x hx).2.2.2.2.2 kq hk).1 ▸ c98))) | (cases h3; exact Or.inr (by rw [← hv]; rw [((hR.1 x hx).2.2.2.2.2 kq hk).1, ((hR.1 x hx).2.2.2.2.2 kq hk).2.1] at q123; exact q123))
              · exact hY.2.2 a y h1 (by omega) h3
            · refine pw_iload (pc2 := 103) dX10_fits_101 rfl 4 rfl ?_
              refine pw_aload_n (pc2 := 104) dX10_fits_103 rfl rfl 5 rfl (by first | exact rf_ref _ | exact rf_opt _ | exact rf_nul) ?_
              refine pw_get (pc2 := 107) kX10 (k := 20) (by decide) rfl fl_X10_70 H.c60 rfl dX10_fits_104 rfl ?_
              refine pw_iload (pc2 := 109) dX10_fits_107 rfl 0 rfl ?_
              refine pw_aaldN (pc2 := 110) 6 rfl rfl H.c80 (i := x) (by first | assumption | omega) (by omega) dX10_fits_109 rfl ?_
              refine pw_topV (rowv (by first | assumption | omega)) ?_
              refine pw_iload (pc2 := 112) dX10_fits_110 rfl 3 rfl ?_
              refine pw_ialdN (pc2 := 113) (H.c97 hx20) (i := kq) (by first | assumption | omega) (by omega) dX10_fits_112 rfl ?_
              refine pw_aload_n (pc2 := 114) dX10_fits_113 rfl rfl 5 rfl (by first | exact rf_ref _ | exact rf_opt _ | exact rf_nul) ?_
              refine pw_get (pc2 := 117) kX10 (k := 21) (by decide) rfl fl_X10_73 H.c60 rfl dX10_fits_114 rfl ?_
              refine pw_iload (pc2 := 119) dX10_fits_117 rfl 0 rfl ?_
              refine pw_aaldN (pc2 := 120) 6 rfl rfl H.c81 (i := x) (by first | assumption | omega) (by omega) dX10_fits_119 rfl ?_
              refine pw_topV (rowv (by first | assumption | omega)) ?_
              refine pw_iload (pc2 := 122) dX10_fits_120 rfl 3 rfl ?_
              refine pw_ialdN (pc2 := 123) (H.c98 hx20) (i := kq) (by first | assumption | omega) (by omega) dX10_fits_122 rfl ?_
              refine pw_callSb (pc2 := 126) (c_in G _ v (σ.1 97 x kq) (σ.1 98 x kq)) cs_X10_115 rfl dX10_fits_123 rfl (by omega) rfl (by first | decide | simp [cat_rf, Value.category]) (fun q123 => ?_) (fun q123 => ?_)
              · refine pw_if_eq (tgt := 133) (pc2 := 129) dX10_fits_126 (by decide) rfl (fun c126 => by exact absurd c126 (by decide)) (fun _ => ?_)
                refine pw_iconst (pc2 := 130) (v := 1) dX10_fits_129 rfl (by decide) ?_
                refine pw_goto (tgt := 134) dX10_fits_130 (by decide) ?_
                refine pw_istore (pc2 := 136) (L2 := [(6, Value.int 1), (8, Value.int (nI x)), (7, Value.int (nI i)), (4, Value.int (nI kq)), (5, Value.int v), (0, Value.ref (A 60 0)), (2, Value.ref fa), (3, Value.ref ta)]) dX10_fits_134 rfl (by decide) rfl ?_
                refine pw_iinc (pc2 := 139) (v := nI (i + 1)) (L2 := [(7, Value.int (nI (i + 1))), (6, Value.int 1), (8, Value.int (nI x)), (4, Value.int (nI kq)), (5, Value.int v), (0, Value.ref (A 60 0)), (2, Value.ref fa), (3, Value.ref ta)]) dX10_fits_136 rfl 2 rfl (by show nI _ + 1 = nI _; exact nI_1 _) (by decide) rfl ?_
                refine pw_goto (tgt := 61) dX10_fits_139 (by decide) ?_
                refine PW.sub (L2 := [(7, Value.int (nI (i + 1))), (6, Value.int 1), (4, Value.int (nI kq)), (5, Value.int v), (0, Value.ref (A 60 0)), (2, Value.ref fa), (3, Value.ref ta)]) [0, 1, 3, 4, 5, 6, 7] rfl ?_
                refine ih (i + 1) 1 (by omega) (Or.inl ⟨rfl, ?_⟩) (by omega)
                have hY : adP σ.1 le gr g kq r i := by rcases hac with ⟨_, q⟩ | ⟨q, _⟩; exact q; exact absurd q c79
                refine ⟨hY.1, hY.2.1, fun a y h1 h2 h3 => ?_⟩
                by_cases ea : a = i
                · subst ea
                  rw [hgi] at h3
                  first | (cases h3; done) | (cases h3; exact Or.inl ((nbk_z ((hR.1 x hx).2.2.2.2.2 kq hk).2.2).mp (((hR.1 x hx).2.2.2.2.2 kq hk).1 ▸ c98))) | (cases h3; exact Or.inr (by rw [← hv]; rw [((hR.1 x hx).2.2.2.2.2 kq hk).1, ((hR.1 x hx).2.2.2.2.2 kq hk).2.1] at q123; exact q123))
                · exact hY.2.2 a y h1 (by omega) h3
              · refine pw_if_eq (tgt := 133) (pc2 := 129) dX10_fits_126 (by decide) rfl (fun _ => ?_) (fun c126 => by exact absurd (by decide) c126)
                refine pw_iconst (pc2 := 134) (v := 0) dX10_fits_133 rfl (by decide) ?_
                refine pw_istore (pc2 := 136) (L2 := [(6, Value.int 0), (8, Value.int (nI x)), (7, Value.int (nI i)), (4, Value.int (nI kq)), (5, Value.int v), (0, Value.ref (A 60 0)), (2, Value.ref fa), (3, Value.ref ta)]) dX10_fits_134 rfl (by decide) rfl ?_
                refine pw_iinc (pc2 := 139) (v := nI (i + 1)) (L2 := [(7, Value.int (nI (i + 1))), (6, Value.int 0), (8, Value.int (nI x)), (4, Value.int (nI kq)), (5, Value.int v), (0, Value.ref (A 60 0)), (2, Value.ref fa), (3, Value.ref ta)]) dX10_fits_136 rfl 2 rfl (by show nI _ + 1 = nI _; exact nI_1 _) (by decide) rfl ?_
                refine pw_goto (tgt := 61) dX10_fits_139 (by decide) ?_
                refine PW.sub (L2 := [(7, Value.int (nI (i + 1))), (6, Value.int 0), (4, Value.int (nI kq)), (5, Value.int v), (0, Value.ref (A 60 0)), (2, Value.ref fa), (3, Value.ref ta)]) [0, 1, 3, 4, 5, 6, 7] rfl ?_
                refine ih (i + 1) 0 (by omega) (Or.inr ⟨rfl, fun z => ?_⟩) (by omega)
                have hz := z.2.2 i x hki (Nat.lt_succ_self i) hgi
                rcases hz with hz | hz
                · exact c98 (((hR.1 x hx).2.2.2.2.2 kq hk).1.trans ((nbk_z ((hR.1 x hx).2.2.2.2.2 kq hk).2.2).mpr hz))
                · exact q123 (by rw [((hR.1 x hx).2.2.2.2.2 kq hk).1, ((hR.1 x hx).2.2.2.2.2 kq hk).2.1, hv]; exact hz)
    refine PW.sub (L2 := [(7, Value.int (nI (kq + 1))), (6, Value.int 0), (4, Value.int (nI kq)), (5, Value.int v), (0, Value.ref (A 60 0)), (2, Value.ref fa), (3, Value.ref ta)]) [0, 1, 3, 2, 4, 6, 7] rfl ?_
    exact loop (6 - (kq + 1)) (kq + 1) 0 (by omega) (by exact Or.inr ⟨rfl, fun z => c22 z.1⟩) (by omega)
  · refine pw_aload_n (pc2 := 26) dX10_fits_25 rfl rfl 4 rfl (by first | exact rf_ref _ | exact rf_opt _ | exact rf_nul) ?_
    refine pw_iload (pc2 := 28) dX10_fits_26 rfl 1 rfl ?_
    refine pw_ialdN (pc2 := 29) hfa (i := kq) (by first | assumption | omega) (by omega) dX10_fits_28 rfl ?_
    refine pw_if_eq (tgt := 48) (pc2 := 32) dX10_fits_29 (by decide) rfl (fun c29 => ?_) (fun c29 => ?_)
    · refine pw_iconst (pc2 := 49) (v := 1) dX10_fits_48 rfl (by decide) ?_
      refine pw_goto (tgt := 53) dX10_fits_49 (by decide) ?_
      refine pw_istore (pc2 := 55) (L2 := [(6, Value.int 1), (5, Value.int v), (4, Value.int (nI kq)), (0, Value.ref (A 60 0)), (1, Value.int (nI r)), (2, Value.ref fa), (3, Value.ref ta)]) dX10_fits_53 rfl (by decide) rfl ?_
      refine pw_iload (pc2 := 57) dX10_fits_55 rfl 2 rfl ?_
      refine pw_iconst (pc2 := 58) (v := 1) dX10_fits_57 rfl (by decide) ?_
      refine pw_iadd (pc2 := 59) dX10_fits_58 rfl ?_
      refine pw_topE (nI_1 _) ?_
      refine pw_istore (pc2 := 61) (L2 := [(7, Value.int (nI (kq + 1))), (6, Value.int 1), (5, Value.int v), (4, Value.int (nI kq)), (0, Value.ref (A 60 0)), (1, Value.int (nI r)), (2, Value.ref fa), (3, Value.ref ta)]) dX10_fits_59 rfl (by decide) rfl ?_
      have loop : ∀ (k i : Nat) (ac : Int32) (hki : kq < i) (hac : ((ac = 1 ∧ adP σ.1 le gr g kq r i) ∨ (ac = 0 ∧ ¬ adP σ.1 le gr g kq r i))), i + k = 6 → PW G MX10_fits d noA (E0 G (bR (admd σ.1 le gr g kq r) h) noX) 0 0 61 [(7, Value.int (nI i)), (6, Value.int ac), (4, Value.int (nI kq)), (5, Value.int v), (0, Value.ref (A 60 0)), (2, Value.ref fa), (3, Value.ref ta)] [] h := by
        intro k
        induction k with
        | zero =>
          intro i ac hki hac hik
          have hi9 : i = 6 := by omega
          refine pw_iload (pc2 := 63) dX10_fits_61 rfl 0 rfl ?_
          refine pw_bipush (pc2 := 65) (v := 6) dX10_fits_63 rfl (by decide) ?_
          refine pw_icmp_ge (tgt := 142) (pc2 := 68) dX10_fits_65 (by decide) rfl (fun _ => ?_) (fun c65 => by exact absurd (by first | (rw [hi9]; exact Int32.le_refl _) | exact fun q => absurd ((l6 (by omega)).mp q) (by omega)) c65)
          refine pw_iload (pc2 := 144) dX10_fits_142 rfl 1 rfl ?_
          have hb01 : b01 ac := by rcases hac with ⟨q, _⟩ | ⟨q, _⟩; exact Or.inr q; exact Or.inl q
          refine pw_iret dX10_fits_144 rfl (nar_b2 hb01) ?_
          exact adR hi9 hac
        | succ k ih =>
          intro i ac hki hac hik
          have hi9 : i < 6 := by omega
          refine pw_iload (pc2 := 63) dX10_fits_61 rfl 0 rfl ?_
          refine pw_bipush (pc2 := 65) (v := 6) dX10_fits_63 rfl (by decide) ?_
          refine pw_icmp_ge (tgt := 142) (pc2 := 68) dX10_fits_65 (by decide) rfl (fun c65 => by exact absurd c65 (by first | (rw [hi9]; exact Int32.le_refl _) | exact fun q => absurd ((l6 (by omega)).mp q) (by omega))) (fun _ => ?_)
          refine pw_aload_n (pc2 := 69) dX10_fits_68 rfl rfl 4 rfl (by first | exact rf_ref _ | exact rf_opt _ | exact rf_nul) ?_
          refine pw_get (pc2 := 72) kX10 (k := 36) (by decide) rfl fl_X10_106 H.c60 rfl dX10_fits_69 rfl ?_
          refine pw_iload (pc2 := 74) dX10_fits_72 rfl 0 rfl ?_
          refine pw_ialdN (pc2 := 75) H.c90 (i := i) (by first | assumption | omega) (by omega) dX10_fits_74 rfl ?_
          refine pw_topE (hC i hki hi9) ?_
          cases hgi : g i with
          | none =>
            refine pw_istore (pc2 := 77) (L2 := [(8, Value.int (-1)), (7, Value.int (nI i)), (6, Value.int ac), (4, Value.int (nI kq)), (5, Value.int v), (0, Value.ref (A 60 0)), (2, Value.ref fa), (3, Value.ref ta)]) dX10_fits_75 rfl (by decide) rfl ?_
            refine pw_iload (pc2 := 79) dX10_fits_77 rfl 2 rfl ?_
            refine pw_if_eq (tgt := 133) (pc2 := 82) dX10_fits_79 (by decide) rfl (fun c79 => ?_) (fun c79 => ?_)
            · refine pw_iconst (pc2 := 134) (v := 0) dX10_fits_133 rfl (by decide) ?_
              refine pw_istore (pc2 := 136) (L2 := [(6, Value.int 0), (8, Value.int (-1)), (7, Value.int (nI i)), (4, Value.int (nI kq)), (5, Value.int v), (0, Value.ref (A 60 0)), (2, Value.ref fa), (3, Value.ref ta)]) dX10_fits_134 rfl (by decide) rfl ?_
              refine pw_iinc (pc2 := 139) (v := nI (i + 1)) (L2 := [(7, Value.int (nI (i + 1))), (6, Value.int 0), (8, Value.int (-1)), (4, Value.int (nI kq)), (5, Value.int v), (0, Value.ref (A 60 0)), (2, Value.ref fa), (3, Value.ref ta)]) dX10_fits_136 rfl 2 rfl (by show nI _ + 1 = nI _; exact nI_1 _) (by decide) rfl ?_
              refine pw_goto (tgt := 61) dX10_fits_139 (by decide) ?_
              refine PW.sub (L2 := [(7, Value.int (nI (i + 1))), (6, Value.int 0), (4, Value.int (nI kq)), (5, Value.int v), (0, Value.ref (A 60 0)), (2, Value.ref fa), (3, Value.ref ta)]) [0, 1, 3, 4, 5, 6, 7] rfl ?_
              refine ih (i + 1) 0 (by omega) (Or.inr ⟨rfl, fun z => ?_⟩) (by omega)
              rcases hac with ⟨q, _⟩ | ⟨_, q⟩
              · exact absurd (c79 ▸ q) (by decide)
              · exact q ⟨z.1, z.2.1, fun a y h1 h2 h3 => z.2.2 a y h1 (by omega) h3⟩
            · refine pw_iload (pc2 := 84) dX10_fits_82 rfl 0 rfl ?_
              refine pw_iconst (pc2 := 85) (v := (-1)) dX10_fits_84 rfl (by decide) ?_
              refine pw_icmp_eq (tgt := 129) (pc2 := 88) dX10_fits_85 (by decide) rfl (fun _ => ?_) (fun c85 => by exact absurd (rfl) c85)
              refine pw_iconst (pc2 := 130) (v := 1) dX10_fits_129 rfl (by decide) ?_
              refine pw_goto (tgt := 134) dX10_fits_130 (by decide) ?_
              refine pw_istore (pc2 := 136) (L2 := [(6, Value.int 1), (8, Value.int (-1)), (7, Value.int (nI i)), (4, Value.int (nI kq)), (5, Value.int v), (0, Value.ref (A 60 0)), (2, Value.ref fa), (3, Value.ref ta)]) dX10_fits_134 rfl (by decide) rfl ?_
              refine pw_iinc (pc2 := 139) (v := nI (i + 1)) (L2 := [(7, Value.int (nI (i + 1))), (6, Value.int 1), (8, Value.int (-1)), (4, Value.int (nI kq)), (5, Value.int v), (0, Value.ref (A 60 0)), (2, Value.ref fa), (3, Value.ref ta)]) dX10_fits_136 rfl 2 rfl (by show nI _ + 1 = nI _; exact nI_1 _) (by decide) rfl ?_
              refine pw_goto (tgt := 61) dX10_fits_139 (by decide) ?_
              refine PW.sub (L2 := [(7, Value.int (nI (i + 1))), (6, Value.int 1), (4, Value.int (nI kq)), (5, Value.int v), (0, Value.ref (A 60 0)), (2, Value.ref fa), (3, Value.ref ta)]) [0, 1, 3, 4, 5, 6, 7] rfl ?_
              refine ih (i + 1) 1 (by omega) (Or.inl ⟨rfl, ?_⟩) (by omega)
              have hY : adP σ.1 le gr g kq r i := by rcases hac with ⟨_, q⟩ | ⟨q, _⟩; exact q; exact absurd q c79
              refine ⟨hY.1, hY.2.1, fun a y h1 h2 h3 => ?_⟩
              by_cases ea : a = i
              · subst ea
                rw [hgi] at h3
                first | (cases h3; done) | (cases h3; exact Or.inl ((nbk_z ((hR.1 x hx).2.2.2.2.2 kq hk).2.2).mp (((hR.1 x hx).2.2.2.2.2 kq hk).1 ▸ c98))) | (cases h3; exact Or.inr (by rw [← hv]; rw [((hR.1 x hx).2.2.2.2.2 kq hk).1, ((hR.1 x hx).2.2.2.2.2 kq hk).2.1] at q123; exact q123))
              · exact hY.2.2 a y h1 (by omega) h3
          | some x =>
            have hx := hgb i x hgi
            have hx20 : x < 20 := by omega
            refine pw_istore (pc2 := 77) (L2 := [(8, Value.int (nI x)), (7, Value.int (nI i)), (6, Value.int ac), (4, Value.int (nI kq)), (5, Value.int v), (0, Value.ref (A 60 0)), (2, Value.ref fa), (3, Value.ref ta)]) dX10_fits_75 rfl (by decide) rfl ?_
            refine pw_iload (pc2 := 79) dX10_fits_77 rfl 2 rfl ?_
            refine pw_if_eq (tgt := 133) (pc2 := 82) dX10_fits_79 (by decide) rfl (fun c79 => ?_) (fun c79 => ?_)
            · refine pw_iconst (pc2 := 134) (v := 0) dX10_fits_133 rfl (by decide) ?_
              refine pw_istore (pc2 := 136) (L2 := [(6, Value.int 0), (8, Value.int (nI x)), (7, Value.int (nI i)), (4, Value.int (nI kq)), (5, Value.int v), (0, Value.ref (A 60 0)), (2, Value.ref fa), (3, Value.ref ta)]) dX10_fits_134 rfl (by decide) rfl ?_
              refine pw_iinc (pc2 := 139) (v := nI (i + 1)) (L2 := [(7, Value.int (nI (i + 1))), (6, Value.int 0), (8, Value.int (nI x)), (4, Value.int (nI kq)), (5, Value.int v), (0, Value.ref (A 60 0)), (2, Value.ref fa), (3, Value.ref ta)]) dX10_fits_136 rfl 2 rfl (by show nI _ + 1 = nI _; exact nI_1 _) (by decide) rfl ?_
              refine pw_goto (tgt := 61) dX10_fits_139 (by decide) ?_
              refine PW.sub (L2 := [(7, Value.int (nI (i + 1))), (6, Value.int 0), (4, Value.int (nI kq)), (5, Value.int v), (0, Value.ref (A 60 0)), (2, Value.ref fa), (3, Value.ref ta)]) [0, 1, 3, 4, 5, 6, 7] rfl ?_
              refine ih (i + 1) 0 (by omega) (Or.inr ⟨rfl, fun z => ?_⟩) (by omega)
              rcases hac with ⟨q, _⟩ | ⟨_, q⟩
              · exact absurd (c79 ▸ q) (by decide)
              · exact q ⟨z.1, z.2.1, fun a y h1 h2 h3 => z.2.2 a y h1 (by omega) h3⟩
            · refine pw_iload (pc2 := 84) dX10_fits_82 rfl 0 rfl ?_
              refine pw_iconst (pc2 := 85) (v := (-1)) dX10_fits_84 rfl (by decide) ?_
              refine pw_icmp_eq (tgt := 129) (pc2 := 88) dX10_fits_85 (by decide) rfl (fun c85 => by exact absurd c85 (nIne x (by omega))) (fun _ => ?_)
              refine pw_aload_n (pc2 := 89) dX10_fits_88 rfl rfl 5 rfl (by first | exact rf_ref _ | exact rf_opt _ | exact rf_nul) ?_
              refine pw_get (pc2 := 92) kX10 (k := 20) (by decide) rfl fl_X10_70 H.c60 rfl dX10_fits_89 rfl ?_
              refine pw_iload (pc2 := 94) dX10_fits_92 rfl 0 rfl ?_
              refine pw_aaldN (pc2 := 95) 6 rfl rfl H.c80 (i := x) (by first | assumption | omega) (by omega) dX10_fits_94 rfl ?_
              refine pw_topV (rowv (by first | assumption | omega)) ?_
              refine pw_iload (pc2 := 97) dX10_fits_95 rfl 3 rfl ?_
              refine pw_ialdN (pc2 := 98) (H.c97 hx20) (i := kq) (by first | assumption | omega) (by omega) dX10_fits_97 rfl ?_
              refine pw_if_eq (tgt := 129) (pc2 := 101) dX10_fits_98 (by decide) rfl (fun c98 => ?_) (fun c98 => ?_)
              · refine pw_iconst (pc2 := 130) (v := 1) dX10_fits_129 rfl (by decide) ?_
                refine pw_goto (tgt := 134) dX10_fits_130 (by decide) ?_
                refine pw_istore (pc2 := 136) (L2 := [(6, Value.int 1), (8, Value.int (nI x)), (7, Value.int (nI i)), (4, Value.int (nI kq)), (5, Value.int v), (0, Value.ref (A 60 0)), (2, Value.ref fa), (3, Value.ref ta)]) dX10_fits_134 rfl (by decide) rfl ?_
                refine pw_iinc (pc2 := 139) (v := nI (i + 1)) (L2 := [(7, Value.int (nI (i + 1))), (6, Value.int 1), (8, Value.int (nI x)), (4, Value.int (nI kq)), (5, Value.int v), (0, Value.ref (A 60 0)), (2, Value.ref fa), (3, Value.ref ta)]) dX10_fits_136 rfl 2 rfl (by show nI _ + 1 = nI _; exact nI_1 _) (by decide) rfl ?_
                refine pw_goto (tgt := 61) dX10_fits_139 (by decide) ?_
                refine PW.sub (L2 := [(7, Value.int (nI (i + 1))), (6, Value.int 1), (4, Value.int (nI kq)), (5, Value.int v), (0, Value.ref (A 60 0)), (2, Value.ref fa), (3, Value.ref ta)]) [0, 1, 3, 4, 5, 6, 7] rfl ?_
                refine ih (i + 1) 1 (by omega) (Or.inl ⟨rfl, ?_⟩) (by omega)
                have hY : adP σ.1 le gr g kq r i := by rcases hac with ⟨_, q⟩ | ⟨q, _⟩; exact q; exact absurd q c79
                refine ⟨hY.1, hY.2.1, fun a y h1 h2 h3 => ?_⟩
                by_cases ea : a = i
                · subst ea
                  rw [hgi] at h3
                  first | (cases h3; done) | (cases h3; exact Or.inl ((nbk_z ((hR.1 x hx).2.2.2.2.2 kq hk).2.2).mp (((hR.1 x hx).2.2.2.2.2 kq hk).1 ▸ c98))) | (cases h3; exact Or.inr (by rw [← hv]; rw [((hR.1 x hx).2.2.2.2.2 kq hk).1, ((hR.1 x hx).2.2.2.2.2 kq hk).2.1] at q123; exact q123))
                · exact hY.2.2 a y h1 (by omega) h3
              · refine pw_iload (pc2 := 103) dX10_fits_101 rfl 4 rfl ?_
                refine pw_aload_n (pc2 := 104) dX10_fits_103 rfl rfl 5 rfl (by first | exact rf_ref _ | exact rf_opt _ | exact rf_nul) ?_
                refine pw_get (pc2 := 107) kX10 (k := 20) (by decide) rfl fl_X10_70 H.c60 rfl dX10_fits_104 rfl ?_
                refine pw_iload (pc2 := 109) dX10_fits_107 rfl 0 rfl ?_
                refine pw_aaldN (pc2 := 110) 6 rfl rfl H.c80 (i := x) (by first | assumption | omega) (by omega) dX10_fits_109 rfl ?_
                refine pw_topV (rowv (by first | assumption | omega)) ?_
                refine pw_iload (pc2 := 112) dX10_fits_110 rfl 3 rfl ?_
                refine pw_ialdN (pc2 := 113) (H.c97 hx20) (i := kq) (by first | assumption | omega) (by omega) dX10_fits_112 rfl ?_
                refine pw_aload_n (pc2 := 114) dX10_fits_113 rfl rfl 5 rfl (by first | exact rf_ref _ | exact rf_opt _ | exact rf_nul) ?_
                refine pw_get (pc2 := 117) kX10 (k := 21) (by decide) rfl fl_X10_73 H.c60 rfl dX10_fits_114 rfl ?_
                refine pw_iload (pc2 := 119) dX10_fits_117 rfl 0 rfl ?_
                refine pw_aaldN (pc2 := 120) 6 rfl rfl H.c81 (i := x) (by first | assumption | omega) (by omega) dX10_fits_119 rfl ?_
                refine pw_topV (rowv (by first | assumption | omega)) ?_
                refine pw_iload (pc2 := 122) dX10_fits_120 rfl 3 rfl ?_
                refine pw_ialdN (pc2 := 123) (H.c98 hx20) (i := kq) (by first | assumption | omega) (by omega) dX10_fits_122 rfl ?_
                refine pw_callSb (pc2 := 126) (c_in G _ v (σ.1 97 x kq) (σ.1 98 x kq)) cs_X10_115 rfl dX10_fits_123 rfl (by omega) rfl (by first | decide | simp [cat_rf, Value.category]) (fun q123 => ?_) (fun q123 => ?_)
                · refine pw_if_eq (tgt := 133) (pc2 := 129) dX10_fits_126 (by decide) rfl (fun c126 => by exact absurd c126 (by decide)) (fun _ => ?_)
                  refine pw_iconst (pc2 := 130) (v := 1) dX10_fits_129 rfl (by decide) ?_
                  refine pw_goto (tgt := 134) dX10_fits_130 (by decide) ?_
                  refine pw_istore (pc2 := 136) (L2 := [(6, Value.int 1), (8, Value.int (nI x)), (7, Value.int (nI i)), (4, Value.int (nI kq)), (5, Value.int v), (0, Value.ref (A 60 0)), (2, Value.ref fa), (3, Value.ref ta)]) dX10_fits_134 rfl (by decide) rfl ?_
                  refine pw_iinc (pc2 := 139) (v := nI (i + 1)) (L2 := [(7, Value.int (nI (i + 1))), (6, Value.int 1), (8, Value.int (nI x)), (4, Value.int (nI kq)), (5, Value.int v), (0, Value.ref (A 60 0)), (2, Value.ref fa), (3, Value.ref ta)]) dX10_fits_136 rfl 2 rfl (by show nI _ + 1 = nI _; exact nI_1 _) (by decide) rfl ?_
                  refine pw_goto (tgt := 61) dX10_fits_139 (by decide) ?_
                  refine PW.sub (L2 := [(7, Value.int (nI (i + 1))), (6, Value.int 1), (4, Value.int (nI kq)), (5, Value.int v), (0, Value.ref (A 60 0)), (2, Value.ref fa), (3, Value.ref ta)]) [0, 1, 3, 4, 5, 6, 7] rfl ?_
                  refine ih (i + 1) 1 (by omega) (Or.inl ⟨rfl, ?_⟩) (by omega)
                  have hY : adP σ.1 le gr g kq r i := by rcases hac with ⟨_, q⟩ | ⟨q, _⟩; exact q; exact absurd q c79
                  refine ⟨hY.1, hY.2.1, fun a y h1 h2 h3 => ?_⟩
                  by_cases ea : a = i
                  · subst ea
                    rw [hgi] at h3
                    first | (cases h3; done) | (cases h3; exact Or.inl ((nbk_z ((hR.1 x hx).2.2.2.2.2 kq hk).2.2).mp (((hR.1 x hx).2.2.2.2.2 kq hk).1 ▸ c98))) | (cases h3; exact Or.inr (by rw [← hv]; rw [((hR.1 x hx).2.2.2.2.2 kq hk).1, ((hR.1 x hx).2.2.2.2.2 kq hk).2.1] at q123; exact q123))
                  · exact hY.2.2 a y h1 (by omega) h3
                · refine pw_if_eq (tgt := 133) (pc2 := 129) dX10_fits_126 (by decide) rfl (fun _ => ?_) (fun c126 => by exact absurd (by decide) c126)
                  refine pw_iconst (pc2 := 134) (v := 0) dX10_fits_133 rfl (by decide) ?_
                  refine pw_istore (pc2 := 136) (L2 := [(6, Value.int 0), (8, Value.int (nI x)), (7, Value.int (nI i)), (4, Value.int (nI kq)), (5, Value.int v), (0, Value.ref (A 60 0)), (2, Value.ref fa), (3, Value.ref ta)]) dX10_fits_134 rfl (by decide) rfl ?_
                  refine pw_iinc (pc2 := 139) (v := nI (i + 1)) (L2 := [(7, Value.int (nI (i + 1))), (6, Value.int 0), (8, Value.int (nI x)), (4, Value.int (nI kq)), (5, Value.int v), (0, Value.ref (A 60 0)), (2, Value.ref fa), (3, Value.ref ta)]) dX10_fits_136 rfl 2 rfl (by show nI _ + 1 = nI _; exact nI_1 _) (by decide) rfl ?_
                  refine pw_goto (tgt := 61) dX10_fits_139 (by decide) ?_
                  refine PW.sub (L2 := [(7, Value.int (nI (i + 1))), (6, Value.int 0), (4, Value.int (nI kq)), (5, Value.int v), (0, Value.ref (A 60 0)), (2, Value.ref fa), (3, Value.ref ta)]) [0, 1, 3, 4, 5, 6, 7] rfl ?_
                  refine ih (i + 1) 0 (by omega) (Or.inr ⟨rfl, fun z => ?_⟩) (by omega)
                  have hz := z.2.2 i x hki (Nat.lt_succ_self i) hgi
                  rcases hz with hz | hz
                  · exact c98 (((hR.1 x hx).2.2.2.2.2 kq hk).1.trans ((nbk_z ((hR.1 x hx).2.2.2.2.2 kq hk).2.2).mpr hz))
                  · exact q123 (by rw [((hR.1 x hx).2.2.2.2.2 kq hk).1, ((hR.1 x hx).2.2.2.2.2 kq hk).2.1, hv]; exact hz)
      refine PW.sub (L2 := [(7, Value.int (nI (kq + 1))), (6, Value.int 1), (4, Value.int (nI kq)), (5, Value.int v), (0, Value.ref (A 60 0)), (2, Value.ref fa), (3, Value.ref ta)]) [0, 1, 3, 2, 4, 6, 7] rfl ?_
      exact loop (6 - (kq + 1)) (kq + 1) 1 (by omega) (by exact Or.inl ⟨rfl, c22, Or.inl ((nbk_z (hle kq hk)).mp c29), fun a y h1 h2 _ => by omega⟩) (by omega)
    · refine pw_iload (pc2 := 34) dX10_fits_32 rfl 0 rfl ?_
      refine pw_aload_n (pc2 := 35) dX10_fits_34 rfl rfl 4 rfl (by first | exact rf_ref _ | exact rf_opt _ | exact rf_nul) ?_
      refine pw_iload (pc2 := 37) dX10_fits_35 rfl 1 rfl ?_
      refine pw_ialdN (pc2 := 38) hfa (i := kq) (by first | assumption | omega) (by omega) dX10_fits_37 rfl ?_
      refine pw_aload_n (pc2 := 39) dX10_fits_38 rfl rfl 5 rfl (by first | exact rf_ref _ | exact rf_opt _ | exact rf_nul) ?_
      refine pw_iload (pc2 := 41) dX10_fits_39 rfl 1 rfl ?_
      refine pw_ialdN (pc2 := 42) hta (i := kq) (by first | assumption | omega) (by omega) dX10_fits_41 rfl ?_
      refine pw_callSb (pc2 := 45) (c_in G _ v (le kq) (gr kq)) cs_X10_115 rfl dX10_fits_42 rfl (by omega) rfl (by first | decide | simp [cat_rf, Value.category]) (fun q42 => ?_) (fun q42 => ?_)
      · refine pw_if_eq (tgt := 52) (pc2 := 48) dX10_fits_45 (by decide) rfl (fun c45 => by exact absurd c45 (by decide)) (fun _ => ?_)
        refine pw_iconst (pc2 := 49) (v := 1) dX10_fits_48 rfl (by decide) ?_
        refine pw_goto (tgt := 53) dX10_fits_49 (by decide) ?_
        refine pw_istore (pc2 := 55) (L2 := [(6, Value.int 1), (5, Value.int v), (4, Value.int (nI kq)), (0, Value.ref (A 60 0)), (1, Value.int (nI r)), (2, Value.ref fa), (3, Value.ref ta)]) dX10_fits_53 rfl (by decide) rfl ?_
        refine pw_iload (pc2 := 57) dX10_fits_55 rfl 2 rfl ?_
        refine pw_iconst (pc2 := 58) (v := 1) dX10_fits_57 rfl (by decide) ?_
        refine pw_iadd (pc2 := 59) dX10_fits_58 rfl ?_
        refine pw_topE (nI_1 _) ?_
        refine pw_istore (pc2 := 61) (L2 := [(7, Value.int (nI (kq + 1))), (6, Value.int 1), (5, Value.int v), (4, Value.int (nI kq)), (0, Value.ref (A 60 0)), (1, Value.int (nI r)), (2, Value.ref fa), (3, Value.ref ta)]) dX10_fits_59 rfl (by decide) rfl ?_
        have loop : ∀ (k i : Nat) (ac : Int32) (hki : kq < i) (hac : ((ac = 1 ∧ adP σ.1 le gr g kq r i) ∨ (ac = 0 ∧ ¬ adP σ.1 le gr g kq r i))), i + k = 6 → PW G MX10_fits d noA (E0 G (bR (admd σ.1 le gr g kq r) h) noX) 0 0 61 [(7, Value.int (nI i)), (6, Value.int ac), (4, Value.int (nI kq)), (5, Value.int v), (0, Value.ref (A 60 0)), (2, Value.ref fa), (3, Value.ref ta)] [] h := by
          intro k
          induction k with
          | zero =>
            intro i ac hki hac hik
            have hi9 : i = 6 := by omega
            refine pw_iload (pc2 := 63) dX10_fits_61 rfl 0 rfl ?_
            refine pw_bipush (pc2 := 65) (v := 6) dX10_fits_63 rfl (by decide) ?_
            refine pw_icmp_ge (tgt := 142) (pc2 := 68) dX10_fits_65 (by decide) rfl (fun _ => ?_) (fun c65 => by exact absurd (by first | (rw [hi9]; exact Int32.le_refl _) | exact fun q => absurd ((l6 (by omega)).mp q) (by omega)) c65)
            refine pw_iload (pc2 := 144) dX10_fits_142 rfl 1 rfl ?_
            have hb01 : b01 ac := by rcases hac with ⟨q, _⟩ | ⟨q, _⟩; exact Or.inr q; exact Or.inl q
            refine pw_iret dX10_fits_144 rfl (nar_b2 hb01) ?_
            exact adR hi9 hac
          | succ k ih =>
            intro i ac hki hac hik
            have hi9 : i < 6 := by omega
            refine pw_iload (pc2 := 63) dX10_fits_61 rfl 0 rfl ?_
            refine pw_bipush (pc2 := 65) (v := 6) dX10_fits_63 rfl (by decide) ?_
            refine pw_icmp_ge (tgt := 142) (pc2 := 68) dX10_fits_65 (by decide) rfl (fun c65 => by exact absurd c65 (by first | (rw [hi9]; exact Int32.le_refl _) | exact fun q => absurd ((l6 (by omega)).mp q) (by omega))) (fun _ => ?_)
            refine pw_aload_n (pc2 := 69) dX10_fits_68 rfl rfl 4 rfl (by first | exact rf_ref _ | exact rf_opt _ | exact rf_nul) ?_
            refine pw_get (pc2 := 72) kX10 (k := 36) (by decide) rfl fl_X10_106 H.c60 rfl dX10_fits_69 rfl ?_
            refine pw_iload (pc2 := 74) dX10_fits_72 rfl 0 rfl ?_
            refine pw_ialdN (pc2 := 75) H.c90 (i := i) (by first | assumption | omega) (by omega) dX10_fits_74 rfl ?_
            refine pw_topE (hC i hki hi9) ?_
            cases hgi : g i with
            | none =>
              refine pw_istore (pc2 := 77) (L2 := [(8, Value.int (-1)), (7, Value.int (nI i)), (6, Value.int ac), (4, Value.int (nI kq)), (5, Value.int v), (0, Value.ref (A 60 0)), (2, Value.ref fa), (3, Value.ref ta)]) dX10_fits_75 rfl (by decide) rfl ?_
              refine pw_iload (pc2 := 79) dX10_fits_77 rfl 2 rfl ?_
              refine pw_if_eq (tgt := 133) (pc2 := 82) dX10_fits_79 (by decide) rfl (fun c79 => ?_) (fun c79 => ?_)
              · refine pw_iconst (pc2 := 134) (v := 0) dX10_fits_133 rfl (by decide) ?_
                refine pw_istore (pc2 := 136) (L2 := [(6, Value.int 0), (8, Value.int (-1)), (7, Value.int (nI i)), (4, Value.int (nI kq)), (5, Value.int v), (0, Value.ref (A 60 0)), (2, Value.ref fa), (3, Value.ref ta)]) dX10_fits_134 rfl (by decide) rfl ?_
                refine pw_iinc (pc2 := 139) (v := nI (i + 1)) (L2 := [(7, Value.int (nI (i + 1))), (6, Value.int 0), (8, Value.int (-1)), (4, Value.int (nI kq)), (5, Value.int v), (0, Value.ref (A 60 0)), (2, Value.ref fa), (3, Value.ref ta)]) dX10_fits_136 rfl 2 rfl (by show nI _ + 1 = nI _; exact nI_1 _) (by decide) rfl ?_
                refine pw_goto (tgt := 61) dX10_fits_139 (by decide) ?_
                refine PW.sub (L2 := [(7, Value.int (nI (i + 1))), (6, Value.int 0), (4, Value.int (nI kq)), (5, Value.int v), (0, Value.ref (A 60 0)), (2, Value.ref fa), (3, Value.ref ta)]) [0, 1, 3, 4, 5, 6, 7] rfl ?_
                refine ih (i + 1) 0 (by omega) (Or.inr ⟨rfl, fun z => ?_⟩) (by omega)
                rcases hac with ⟨q, _⟩ | ⟨_, q⟩
                · exact absurd (c79 ▸ q) (by decide)
                · exact q ⟨z.1, z.2.1, fun a y h1 h2 h3 => z.2.2 a y h1 (by omega) h3⟩
              · refine pw_iload (pc2 := 84) dX10_fits_82 rfl 0 rfl ?_
                refine pw_iconst (pc2 := 85) (v := (-1)) dX10_fits_84 rfl (by decide) ?_
                refine pw_icmp_eq (tgt := 129) (pc2 := 88) dX10_fits_85 (by decide) rfl (fun _ => ?_) (fun c85 => by exact absurd (rfl) c85)
                refine pw_iconst (pc2 := 130) (v := 1) dX10_fits_129 rfl (by decide) ?_
                refine pw_goto (tgt := 134) dX10_fits_130 (by decide) ?_
                refine pw_istore (pc2 := 136) (L2 := [(6, Value.int 1), (8, Value.int (-1)), (7, Value.int (nI i)), (4, Value.int (nI kq)), (5, Value.int v), (0, Value.ref (A 60 0)), (2, Value.ref fa), (3, Value.ref ta)]) dX10_fits_134 rfl (by decide) rfl ?_
                refine pw_iinc (pc2 := 139) (v := nI (i + 1)) (L2 := [(7, Value.int (nI (i + 1))), (6, Value.int 1), (8, Value.int (-1)), (4, Value.int (nI kq)), (5, Value.int v), (0, Value.ref (A 60 0)), (2, Value.ref fa), (3, Value.ref ta)]) dX10_fits_136 rfl 2 rfl (by show nI _ + 1 = nI _; exact nI_1 _) (by decide) rfl ?_
                refine pw_goto (tgt := 61) dX10_fits_139 (by decide) ?_
                refine PW.sub (L2 := [(7, Value.int (nI (i + 1))), (6, Value.int 1), (4, Value.int (nI kq)), (5, Value.int v), (0, Value.ref (A 60 0)), (2, Value.ref fa), (3, Value.ref ta)]) [0, 1, 3, 4, 5, 6, 7] rfl ?_
                refine ih (i + 1) 1 (by omega) (Or.inl ⟨rfl, ?_⟩) (by omega)
                have hY : adP σ.1 le gr g kq r i := by rcases hac with ⟨_, q⟩ | ⟨q, _⟩; exact q; exact absurd q c79
                refine ⟨hY.1, hY.2.1, fun a y h1 h2 h3 => ?_⟩
                by_cases ea : a = i
                · subst ea
                  rw [hgi] at h3
                  first | (cases h3; done) | (cases h3; exact Or.inl ((nbk_z ((hR.1 x hx).2.2.2.2.2 kq hk).2.2).mp (((hR.1 x hx).2.2.2.2.2 kq hk).1 ▸ c98))) | (cases h3; exact Or.inr (by rw [← hv]; rw [((hR.1 x hx).2.2.2.2.2 kq hk).1, ((hR.1 x hx).2.2.2.2.2 kq hk).2.1] at q123; exact q123))
                · exact hY.2.2 a y h1 (by omega) h3
            | some x =>
              have hx := hgb i x hgi
              have hx20 : x < 20 := by omega
              refine pw_istore (pc2 := 77) (L2 := [(8, Value.int (nI x)), (7, Value.int (nI i)), (6, Value.int ac), (4, Value.int (nI kq)), (5, Value.int v), (0, Value.ref (A 60 0)), (2, Value.ref fa), (3, Value.ref ta)]) dX10_fits_75 rfl (by decide) rfl ?_
              refine pw_iload (pc2 := 79) dX10_fits_77 rfl 2 rfl ?_
              refine pw_if_eq (tgt := 133) (pc2 := 82) dX10_fits_79 (by decide) rfl (fun c79 => ?_) (fun c79 => ?_)
              · refine pw_iconst (pc2 := 134) (v := 0) dX10_fits_133 rfl (by decide) ?_
                refine pw_istore (pc2 := 136) (L2 := [(6, Value.int 0), (8, Value.int (nI x)), (7, Value.int (nI i)), (4, Value.int (nI kq)), (5, Value.int v), (0, Value.ref (A 60 0)), (2, Value.ref fa), (3, Value.ref ta)]) dX10_fits_134 rfl (by decide) rfl ?_
                refine pw_iinc (pc2 := 139) (v := nI (i + 1)) (L2 := [(7, Value.int (nI (i + 1))), (6, Value.int 0), (8, Value.int (nI x)), (4, Value.int (nI kq)), (5, Value.int v), (0, Value.ref (A 60 0)), (2, Value.ref fa), (3, Value.ref ta)]) dX10_fits_136 rfl 2 rfl (by show nI _ + 1 = nI _; exact nI_1 _) (by decide) rfl ?_
                refine pw_goto (tgt := 61) dX10_fits_139 (by decide) ?_
                refine PW.sub (L2 := [(7, Value.int (nI (i + 1))), (6, Value.int 0), (4, Value.int (nI kq)), (5, Value.int v), (0, Value.ref (A 60 0)), (2, Value.ref fa), (3, Value.ref ta)]) [0, 1, 3, 4, 5, 6, 7] rfl ?_
                refine ih (i + 1) 0 (by omega) (Or.inr ⟨rfl, fun z => ?_⟩) (by omega)
                rcases hac with ⟨q, _⟩ | ⟨_, q⟩
                · exact absurd (c79 ▸ q) (by decide)
                · exact q ⟨z.1, z.2.1, fun a y h1 h2 h3 => z.2.2 a y h1 (by omega) h3⟩
              · refine pw_iload (pc2 := 84) dX10_fits_82 rfl 0 rfl ?_
                refine pw_iconst (pc2 := 85) (v := (-1)) dX10_fits_84 rfl (by decide) ?_
                refine pw_icmp_eq (tgt := 129) (pc2 := 88) dX10_fits_85 (by decide) rfl (fun c85 => by exact absurd c85 (nIne x (by omega))) (fun _ => ?_)
                refine pw_aload_n (pc2 := 89) dX10_fits_88 rfl rfl 5 rfl (by first | exact rf_ref _ | exact rf_opt _ | exact rf_nul) ?_
                refine pw_get (pc2 := 92) kX10 (k := 20) (by decide) rfl fl_X10_70 H.c60 rfl dX10_fits_89 rfl ?_
                refine pw_iload (pc2 := 94) dX10_fits_92 rfl 0 rfl ?_
                refine pw_aaldN (pc2 := 95) 6 rfl rfl H.c80 (i := x) (by first | assumption | omega) (by omega) dX10_fits_94 rfl ?_
                refine pw_topV (rowv (by first | assumption | omega)) ?_
                refine pw_iload (pc2 := 97) dX10_fits_95 rfl 3 rfl ?_
                refine pw_ialdN (pc2 := 98) (H.c97 hx20) (i := kq) (by first | assumption | omega) (by omega) dX10_fits_97 rfl ?_
                refine pw_if_eq (tgt := 129) (pc2 := 101) dX10_fits_98 (by decide) rfl (fun c98 => ?_) (fun c98 => ?_)
                · refine pw_iconst (pc2 := 130) (v := 1) dX10_fits_129 rfl (by decide) ?_
                  refine pw_goto (tgt := 134) dX10_fits_130 (by decide) ?_
                  refine pw_istore (pc2 := 136) (L2 := [(6, Value.int 1), (8, Value.int (nI x)), (7, Value.int (nI i)), (4, Value.int (nI kq)), (5, Value.int v), (0, Value.ref (A 60 0)), (2, Value.ref fa), (3, Value.ref ta)]) dX10_fits_134 rfl (by decide) rfl ?_
                  refine pw_iinc (pc2 := 139) (v := nI (i + 1)) (L2 := [(7, Value.int (nI (i + 1))), (6, Value.int 1), (8, Value.int (nI x)), (4, Value.int (nI kq)), (5, Value.int v), (0, Value.ref (A 60 0)), (2, Value.ref fa), (3, Value.ref ta)]) dX10_fits_136 rfl 2 rfl (by show nI _ + 1 = nI _; exact nI_1 _) (by decide) rfl ?_
                  refine pw_goto (tgt := 61) dX10_fits_139 (by decide) ?_
                  refine PW.sub (L2 := [(7, Value.int (nI (i + 1))), (6, Value.int 1), (4, Value.int (nI kq)), (5, Value.int v), (0, Value.ref (A 60 0)), (2, Value.ref fa), (3, Value.ref ta)]) [0, 1, 3, 4, 5, 6, 7] rfl ?_
                  refine ih (i + 1) 1 (by omega) (Or.inl ⟨rfl, ?_⟩) (by omega)
                  have hY : adP σ.1 le gr g kq r i := by rcases hac with ⟨_, q⟩ | ⟨q, _⟩; exact q; exact absurd q c79
                  refine ⟨hY.1, hY.2.1, fun a y h1 h2 h3 => ?_⟩
                  by_cases ea : a = i
                  · subst ea
                    rw [hgi] at h3
                    first | (cases h3; done) | (cases h3; exact Or.inl ((nbk_z ((hR.1 x hx).2.2.2.2.2 kq hk).2.2).mp (((hR.1 x hx).2.2.2.2.2 kq hk).1 ▸ c98))) | (cases h3; exact Or.inr (by rw [← hv]; rw [((hR.1 x hx).2.2.2.2.2 kq hk).1, ((hR.1 x hx).2.2.2.2.2 kq hk).2.1] at q123; exact q123))
                  · exact hY.2.2 a y h1 (by omega) h3
                · refine pw_iload (pc2 := 103) dX10_fits_101 rfl 4 rfl ?_
                  refine pw_aload_n (pc2 := 104) dX10_fits_103 rfl rfl 5 rfl (by first | exact rf_ref _ | exact rf_opt _ | exact rf_nul) ?_
                  refine pw_get (pc2 := 107) kX10 (k := 20) (by decide) rfl fl_X10_70 H.c60 rfl dX10_fits_104 rfl ?_
                  refine pw_iload (pc2 := 109) dX10_fits_107 rfl 0 rfl ?_
                  refine pw_aaldN (pc2 := 110) 6 rfl rfl H.c80 (i := x) (by first | assumption | omega) (by omega) dX10_fits_109 rfl ?_
                  refine pw_topV (rowv (by first | assumption | omega)) ?_
                  refine pw_iload (pc2 := 112) dX10_fits_110 rfl 3 rfl ?_
                  refine pw_ialdN (pc2 := 113) (H.c97 hx20) (i := kq) (by first | assumption | omega) (by omega) dX10_fits_112 rfl ?_
                  refine pw_aload_n (pc2 := 114) dX10_fits_113 rfl rfl 5 rfl (by first | exact rf_ref _ | exact rf_opt _ | exact rf_nul) ?_
                  refine pw_get (pc2 := 117) kX10 (k := 21) (by decide) rfl fl_X10_73 H.c60 rfl dX10_fits_114 rfl ?_
                  refine pw_iload (pc2 := 119) dX10_fits_117 rfl 0 rfl ?_
                  refine pw_aaldN (pc2 := 120) 6 rfl rfl H.c81 (i := x) (by first | assumption | omega) (by omega) dX10_fits_119 rfl ?_
                  refine pw_topV (rowv (by first | assumption | omega)) ?_
                  refine pw_iload (pc2 := 122) dX10_fits_120 rfl 3 rfl ?_
                  refine pw_ialdN (pc2 := 123) (H.c98 hx20) (i := kq) (by first | assumption | omega) (by omega) dX10_fits_122 rfl ?_
                  refine pw_callSb (pc2 := 126) (c_in G _ v (σ.1 97 x kq) (σ.1 98 x kq)) cs_X10_115 rfl dX10_fits_123 rfl (by omega) rfl (by first | decide | simp [cat_rf, Value.category]) (fun q123 => ?_) (fun q123 => ?_)
                  · refine pw_if_eq (tgt := 133) (pc2 := 129) dX10_fits_126 (by decide) rfl (fun c126 => by exact absurd c126 (by decide)) (fun _ => ?_)
                    refine pw_iconst (pc2 := 130) (v := 1) dX10_fits_129 rfl (by decide) ?_
                    refine pw_goto (tgt := 134) dX10_fits_130 (by decide) ?_
                    refine pw_istore (pc2 := 136) (L2 := [(6, Value.int 1), (8, Value.int (nI x)), (7, Value.int (nI i)), (4, Value.int (nI kq)), (5, Value.int v), (0, Value.ref (A 60 0)), (2, Value.ref fa), (3, Value.ref ta)]) dX10_fits_134 rfl (by decide) rfl ?_
                    refine pw_iinc (pc2 := 139) (v := nI (i + 1)) (L2 := [(7, Value.int (nI (i + 1))), (6, Value.int 1), (8, Value.int (nI x)), (4, Value.int (nI kq)), (5, Value.int v), (0, Value.ref (A 60 0)), (2, Value.ref fa), (3, Value.ref ta)]) dX10_fits_136 rfl 2 rfl (by show nI _ + 1 = nI _; exact nI_1 _) (by decide) rfl ?_
                    refine pw_goto (tgt := 61) dX10_fits_139 (by decide) ?_
                    refine PW.sub (L2 := [(7, Value.int (nI (i + 1))), (6, Value.int 1), (4, Value.int (nI kq)), (5, Value.int v), (0, Value.ref (A 60 0)), (2, Value.ref fa), (3, Value.ref ta)]) [0, 1, 3, 4, 5, 6, 7] rfl ?_
                    refine ih (i + 1) 1 (by omega) (Or.inl ⟨rfl, ?_⟩) (by omega)
                    have hY : adP σ.1 le gr g kq r i := by rcases hac with ⟨_, q⟩ | ⟨q, _⟩; exact q; exact absurd q c79
                    refine ⟨hY.1, hY.2.1, fun a y h1 h2 h3 => ?_⟩
                    by_cases ea : a = i
                    · subst ea
                      rw [hgi] at h3
                      first | (cases h3; done) | (cases h3; exact Or.inl ((nbk_z ((hR.1 x hx).2.2.2.2.2 kq hk).2.2).mp (((hR.1 x hx).2.2.2.2.2 kq hk).1 ▸ c98))) | (cases h3; exact Or.inr (by rw [← hv]; rw [((hR.1 x hx).2.2.2.2.2 kq hk).1, ((hR.1 x hx).2.2.2.2.2 kq hk).2.1] at q123; exact q123))
                    · exact hY.2.2 a y h1 (by omega) h3
                  · refine pw_if_eq (tgt := 133) (pc2 := 129) dX10_fits_126 (by decide) rfl (fun _ => ?_) (fun c126 => by exact absurd (by decide) c126)
                    refine pw_iconst (pc2 := 134) (v := 0) dX10_fits_133 rfl (by decide) ?_
                    refine pw_istore (pc2 := 136) (L2 := [(6, Value.int 0), (8, Value.int (nI x)), (7, Value.int (nI i)), (4, Value.int (nI kq)), (5, Value.int v), (0, Value.ref (A 60 0)), (2, Value.ref fa), (3, Value.ref ta)]) dX10_fits_134 rfl (by decide) rfl ?_
                    refine pw_iinc (pc2 := 139) (v := nI (i + 1)) (L2 := [(7, Value.int (nI (i + 1))), (6, Value.int 0), (8, Value.int (nI x)), (4, Value.int (nI kq)), (5, Value.int v), (0, Value.ref (A 60 0)), (2, Value.ref fa), (3, Value.ref ta)]) dX10_fits_136 rfl 2 rfl (by show nI _ + 1 = nI _; exact nI_1 _) (by decide) rfl ?_
                    refine pw_goto (tgt := 61) dX10_fits_139 (by decide) ?_
                    refine PW.sub (L2 := [(7, Value.int (nI (i + 1))), (6, Value.int 0), (4, Value.int (nI kq)), (5, Value.int v), (0, Value.ref (A 60 0)), (2, Value.ref fa), (3, Value.ref ta)]) [0, 1, 3, 4, 5, 6, 7] rfl ?_
                    refine ih (i + 1) 0 (by omega) (Or.inr ⟨rfl, fun z => ?_⟩) (by omega)
                    have hz := z.2.2 i x hki (Nat.lt_succ_self i) hgi
                    rcases hz with hz | hz
                    · exact c98 (((hR.1 x hx).2.2.2.2.2 kq hk).1.trans ((nbk_z ((hR.1 x hx).2.2.2.2.2 kq hk).2.2).mpr hz))
                    · exact q123 (by rw [((hR.1 x hx).2.2.2.2.2 kq hk).1, ((hR.1 x hx).2.2.2.2.2 kq hk).2.1, hv]; exact hz)
        refine PW.sub (L2 := [(7, Value.int (nI (kq + 1))), (6, Value.int 1), (4, Value.int (nI kq)), (5, Value.int v), (0, Value.ref (A 60 0)), (2, Value.ref fa), (3, Value.ref ta)]) [0, 1, 3, 2, 4, 6, 7] rfl ?_
        exact loop (6 - (kq + 1)) (kq + 1) 1 (by omega) (by exact Or.inl ⟨rfl, c22, Or.inr (hv ▸ q42), fun a y h1 h2 _ => by omega⟩) (by omega)
      · refine pw_if_eq (tgt := 52) (pc2 := 48) dX10_fits_45 (by decide) rfl (fun _ => ?_) (fun c45 => by exact absurd (by decide) c45)
        refine pw_iconst (pc2 := 53) (v := 0) dX10_fits_52 rfl (by decide) ?_
        refine pw_istore (pc2 := 55) (L2 := [(6, Value.int 0), (5, Value.int v), (4, Value.int (nI kq)), (0, Value.ref (A 60 0)), (1, Value.int (nI r)), (2, Value.ref fa), (3, Value.ref ta)]) dX10_fits_53 rfl (by decide) rfl ?_
        refine pw_iload (pc2 := 57) dX10_fits_55 rfl 2 rfl ?_
        refine pw_iconst (pc2 := 58) (v := 1) dX10_fits_57 rfl (by decide) ?_
        refine pw_iadd (pc2 := 59) dX10_fits_58 rfl ?_
        refine pw_topE (nI_1 _) ?_
        refine pw_istore (pc2 := 61) (L2 := [(7, Value.int (nI (kq + 1))), (6, Value.int 0), (5, Value.int v), (4, Value.int (nI kq)), (0, Value.ref (A 60 0)), (1, Value.int (nI r)), (2, Value.ref fa), (3, Value.ref ta)]) dX10_fits_59 rfl (by decide) rfl ?_
        have loop : ∀ (k i : Nat) (ac : Int32) (hki : kq < i) (hac : ((ac = 1 ∧ adP σ.1 le gr g kq r i) ∨ (ac = 0 ∧ ¬ adP σ.1 le gr g kq r i))), i + k = 6 → PW G MX10_fits d noA (E0 G (bR (admd σ.1 le gr g kq r) h) noX) 0 0 61 [(7, Value.int (nI i)), (6, Value.int ac), (4, Value.int (nI kq)), (5, Value.int v), (0, Value.ref (A 60 0)), (2, Value.ref fa), (3, Value.ref ta)] [] h := by
          intro k
          induction k with
          | zero =>
            intro i ac hki hac hik
            have hi9 : i = 6 := by omega
            refine pw_iload (pc2 := 63) dX10_fits_61 rfl 0 rfl ?_
            refine pw_bipush (pc2 := 65) (v := 6) dX10_fits_63 rfl (by decide) ?_
            refine pw_icmp_ge (tgt := 142) (pc2 := 68) dX10_fits_65 (by decide) rfl (fun _ => ?_) (fun c65 => by exact absurd (by first | (rw [hi9]; exact Int32.le_refl _) | exact fun q => absurd ((l6 (by omega)).mp q) (by omega)) c65)
            refine pw_iload (pc2 := 144) dX10_fits_142 rfl 1 rfl ?_
            have hb01 : b01 ac := by rcases hac with ⟨q, _⟩ | ⟨q, _⟩; exact Or.inr q; exact Or.inl q
            refine pw_iret dX10_fits_144 rfl (nar_b2 hb01) ?_
            exact adR hi9 hac
          | succ k ih =>
            intro i ac hki hac hik
            have hi9 : i < 6 := by omega
            refine pw_iload (pc2 := 63) dX10_fits_61 rfl 0 rfl ?_
            refine pw_bipush (pc2 := 65) (v := 6) dX10_fits_63 rfl (by decide) ?_
            refine pw_icmp_ge (tgt := 142) (pc2 := 68) dX10_fits_65 (by decide) rfl (fun c65 => by exact absurd c65 (by first | (rw [hi9]; exact Int32.le_refl _) | exact fun q => absurd ((l6 (by omega)).mp q) (by omega))) (fun _ => ?_)
            refine pw_aload_n (pc2 := 69) dX10_fits_68 rfl rfl 4 rfl (by first | exact rf_ref _ | exact rf_opt _ | exact rf_nul) ?_
            refine pw_get (pc2 := 72) kX10 (k := 36) (by decide) rfl fl_X10_106 H.c60 rfl dX10_fits_69 rfl ?_
            refine pw_iload (pc2 := 74) dX10_fits_72 rfl 0 rfl ?_
            refine pw_ialdN (pc2 := 75) H.c90 (i := i) (by first | assumption | omega) (by omega) dX10_fits_74 rfl ?_
            refine pw_topE (hC i hki hi9) ?_
            cases hgi : g i with
            | none =>
              refine pw_istore (pc2 := 77) (L2 := [(8, Value.int (-1)), (7, Value.int (nI i)), (6, Value.int ac), (4, Value.int (nI kq)), (5, Value.int v), (0, Value.ref (A 60 0)), (2, Value.ref fa), (3, Value.ref ta)]) dX10_fits_75 rfl (by decide) rfl ?_
              refine pw_iload (pc2 := 79) dX10_fits_77 rfl 2 rfl ?_
              refine pw_if_eq (tgt := 133) (pc2 := 82) dX10_fits_79 (by decide) rfl (fun c79 => ?_) (fun c79 => ?_)
              · refine pw_iconst (pc2 := 134) (v := 0) dX10_fits_133 rfl (by decide) ?_
                refine pw_istore (pc2 := 136) (L2 := [(6, Value.int 0), (8, Value.int (-1)), (7, Value.int (nI i)), (4, Value.int (nI kq)), (5, Value.int v), (0, Value.ref (A 60 0)), (2, Value.ref fa), (3, Value.ref ta)]) dX10_fits_134 rfl (by decide) rfl ?_
                refine pw_iinc (pc2 := 139) (v := nI (i + 1)) (L2 := [(7, Value.int (nI (i + 1))), (6, Value.int 0), (8, Value.int (-1)), (4, Value.int (nI kq)), (5, Value.int v), (0, Value.ref (A 60 0)), (2, Value.ref fa), (3, Value.ref ta)]) dX10_fits_136 rfl 2 rfl (by show nI _ + 1 = nI _; exact nI_1 _) (by decide) rfl ?_
                refine pw_goto (tgt := 61) dX10_fits_139 (by decide) ?_
                refine PW.sub (L2 := [(7, Value.int (nI (i + 1))), (6, Value.int 0), (4, Value.int (nI kq)), (5, Value.int v), (0, Value.ref (A 60 0)), (2, Value.ref fa), (3, Value.ref ta)]) [0, 1, 3, 4, 5, 6, 7] rfl ?_
                refine ih (i + 1) 0 (by omega) (Or.inr ⟨rfl, fun z => ?_⟩) (by omega)
                rcases hac with ⟨q, _⟩ | ⟨_, q⟩
                · exact absurd (c79 ▸ q) (by decide)
                · exact q ⟨z.1, z.2.1, fun a y h1 h2 h3 => z.2.2 a y h1 (by omega) h3⟩
              · refine pw_iload (pc2 := 84) dX10_fits_82 rfl 0 rfl ?_
                refine pw_iconst (pc2 := 85) (v := (-1)) dX10_fits_84 rfl (by decide) ?_
                refine pw_icmp_eq (tgt := 129) (pc2 := 88) dX10_fits_85 (by decide) rfl (fun _ => ?_) (fun c85 => by exact absurd (rfl) c85)
                refine pw_iconst (pc2 := 130) (v := 1) dX10_fits_129 rfl (by decide) ?_
                refine pw_goto (tgt := 134) dX10_fits_130 (by decide) ?_
                refine pw_istore (pc2 := 136) (L2 := [(6, Value.int 1), (8, Value.int (-1)), (7, Value.int (nI i)), (4, Value.int (nI kq)), (5, Value.int v), (0, Value.ref (A 60 0)), (2, Value.ref fa), (3, Value.ref ta)]) dX10_fits_134 rfl (by decide) rfl ?_
                refine pw_iinc (pc2 := 139) (v := nI (i + 1)) (L2 := [(7, Value.int (nI (i + 1))), (6, Value.int 1), (8, Value.int (-1)), (4, Value.int (nI kq)), (5, Value.int v), (0, Value.ref (A 60 0)), (2, Value.ref fa), (3, Value.ref ta)]) dX10_fits_136 rfl 2 rfl (by show nI _ + 1 = nI _; exact nI_1 _) (by decide) rfl ?_
                refine pw_goto (tgt := 61) dX10_fits_139 (by decide) ?_
                refine PW.sub (L2 := [(7, Value.int (nI (i + 1))), (6, Value.int 1), (4, Value.int (nI kq)), (5, Value.int v), (0, Value.ref (A 60 0)), (2, Value.ref fa), (3, Value.ref ta)]) [0, 1, 3, 4, 5, 6, 7] rfl ?_
                refine ih (i + 1) 1 (by omega) (Or.inl ⟨rfl, ?_⟩) (by omega)
                have hY : adP σ.1 le gr g kq r i := by rcases hac with ⟨_, q⟩ | ⟨q, _⟩; exact q; exact absurd q c79
                refine ⟨hY.1, hY.2.1, fun a y h1 h2 h3 => ?_⟩
                by_cases ea : a = i
                · subst ea
                  rw [hgi] at h3
                  first | (cases h3; done) | (cases h3; exact Or.inl ((nbk_z ((hR.1 x hx).2.2.2.2.2 kq hk).2.2).mp (((hR.1 x hx).2.2.2.2.2 kq hk).1 ▸ c98))) | (cases h3; exact Or.inr (by rw [← hv]; rw [((hR.1 x hx).2.2.2.2.2 kq hk).1, ((hR.1 x hx).2.2.2.2.2 kq hk).2.1] at q123; exact q123))
                · exact hY.2.2 a y h1 (by omega) h3
            | some x =>
              have hx := hgb i x hgi
              have hx20 : x < 20 := by omega
              refine pw_istore (pc2 := 77) (L2 := [(8, Value.int (nI x)), (7, Value.int (nI i)), (6, Value.int ac), (4, Value.int (nI kq)), (5, Value.int v), (0, Value.ref (A 60 0)), (2, Value.ref fa), (3, Value.ref ta)]) dX10_fits_75 rfl (by decide) rfl ?_
              refine pw_iload (pc2 := 79) dX10_fits_77 rfl 2 rfl ?_
              refine pw_if_eq (tgt := 133) (pc2 := 82) dX10_fits_79 (by decide) rfl (fun c79 => ?_) (fun c79 => ?_)
              · refine pw_iconst (pc2 := 134) (v := 0) dX10_fits_133 rfl (by decide) ?_
                refine pw_istore (pc2 := 136) (L2 := [(6, Value.int 0), (8, Value.int (nI x)), (7, Value.int (nI i)), (4, Value.int (nI kq)), (5, Value.int v), (0, Value.ref (A 60 0)), (2, Value.ref fa), (3, Value.ref ta)]) dX10_fits_134 rfl (by decide) rfl ?_
                refine pw_iinc (pc2 := 139) (v := nI (i + 1)) (L2 := [(7, Value.int (nI (i + 1))), (6, Value.int 0), (8, Value.int (nI x)), (4, Value.int (nI kq)), (5, Value.int v), (0, Value.ref (A 60 0)), (2, Value.ref fa), (3, Value.ref ta)]) dX10_fits_136 rfl 2 rfl (by show nI _ + 1 = nI _; exact nI_1 _) (by decide) rfl ?_
                refine pw_goto (tgt := 61) dX10_fits_139 (by decide) ?_
                refine PW.sub (L2 := [(7, Value.int (nI (i + 1))), (6, Value.int 0), (4, Value.int (nI kq)), (5, Value.int v), (0, Value.ref (A 60 0)), (2, Value.ref fa), (3, Value.ref ta)]) [0, 1, 3, 4, 5, 6, 7] rfl ?_
                refine ih (i + 1) 0 (by omega) (Or.inr ⟨rfl, fun z => ?_⟩) (by omega)
                rcases hac with ⟨q, _⟩ | ⟨_, q⟩
                · exact absurd (c79 ▸ q) (by decide)
                · exact q ⟨z.1, z.2.1, fun a y h1 h2 h3 => z.2.2 a y h1 (by omega) h3⟩
              · refine pw_iload (pc2 := 84) dX10_fits_82 rfl 0 rfl ?_
                refine pw_iconst (pc2 := 85) (v := (-1)) dX10_fits_84 rfl (by decide) ?_
                refine pw_icmp_eq (tgt := 129) (pc2 := 88) dX10_fits_85 (by decide) rfl (fun c85 => by exact absurd c85 (nIne x (by omega))) (fun _ => ?_)
                refine pw_aload_n (pc2 := 89) dX10_fits_88 rfl rfl 5 rfl (by first | exact rf_ref _ | exact rf_opt _ | exact rf_nul) ?_
                refine pw_get (pc2 := 92) kX10 (k := 20) (by decide) rfl fl_X10_70 H.c60 rfl dX10_fits_89 rfl ?_
                refine pw_iload (pc2 := 94) dX10_fits_92 rfl 0 rfl ?_
                refine pw_aaldN (pc2 := 95) 6 rfl rfl H.c80 (i := x) (by first | assumption | omega) (by omega) dX10_fits_94 rfl ?_
                refine pw_topV (rowv (by first | assumption | omega)) ?_
                refine pw_iload (pc2 := 97) dX10_fits_95 rfl 3 rfl ?_
                refine pw_ialdN (pc2 := 98) (H.c97 hx20) (i := kq) (by first | assumption | omega) (by omega) dX10_fits_97 rfl ?_
                refine pw_if_eq (tgt := 129) (pc2 := 101) dX10_fits_98 (by decide) rfl (fun c98 => ?_) (fun c98 => ?_)
                · refine pw_iconst (pc2 := 130) (v := 1) dX10_fits_129 rfl (by decide) ?_
                  refine pw_goto (tgt := 134) dX10_fits_130 (by decide) ?_
                  refine pw_istore (pc2 := 136) (L2 := [(6, Value.int 1), (8, Value.int (nI x)), (7, Value.int (nI i)), (4, Value.int (nI kq)), (5, Value.int v), (0, Value.ref (A 60 0)), (2, Value.ref fa), (3, Value.ref ta)]) dX10_fits_134 rfl (by decide) rfl ?_
                  refine pw_iinc (pc2 := 139) (v := nI (i + 1)) (L2 := [(7, Value.int (nI (i + 1))), (6, Value.int 1), (8, Value.int (nI x)), (4, Value.int (nI kq)), (5, Value.int v), (0, Value.ref (A 60 0)), (2, Value.ref fa), (3, Value.ref ta)]) dX10_fits_136 rfl 2 rfl (by show nI _ + 1 = nI _; exact nI_1 _) (by decide) rfl ?_
                  refine pw_goto (tgt := 61) dX10_fits_139 (by decide) ?_
                  refine PW.sub (L2 := [(7, Value.int (nI (i + 1))), (6, Value.int 1), (4, Value.int (nI kq)), (5, Value.int v), (0, Value.ref (A 60 0)), (2, Value.ref fa), (3, Value.ref ta)]) [0, 1, 3, 4, 5, 6, 7] rfl ?_
                  refine ih (i + 1) 1 (by omega) (Or.inl ⟨rfl, ?_⟩) (by omega)
                  have hY : adP σ.1 le gr g kq r i := by rcases hac with ⟨_, q⟩ | ⟨q, _⟩; exact q; exact absurd q c79
                  refine ⟨hY.1, hY.2.1, fun a y h1 h2 h3 => ?_⟩
                  by_cases ea : a = i
                  · subst ea
                    rw [hgi] at h3
                    first | (cases h3; done) | (cases h3; exact Or.inl ((nbk_z ((hR.1 x hx).2.2.2.2.2 kq hk).2.2).mp (((hR.1 x hx).2.2.2.2.2 kq hk).1 ▸ c98))) | (cases h3; exact Or.inr (by rw [← hv]; rw [((hR.1 x hx).2.2.2.2.2 kq hk).1, ((hR.1 x hx).2.2.2.2.2 kq hk).2.1] at q123; exact q123))
                  · exact hY.2.2 a y h1 (by omega) h3
                · refine pw_iload (pc2 := 103) dX10_fits_101 rfl 4 rfl ?_
                  refine pw_aload_n (pc2 := 104) dX10_fits_103 rfl rfl 5 rfl (by first | exact rf_ref _ | exact rf_opt _ | exact rf_nul) ?_
                  refine pw_get (pc2 := 107) kX10 (k := 20) (by decide) rfl fl_X10_70 H.c60 rfl dX10_fits_104 rfl ?_
                  refine pw_iload (pc2 := 109) dX10_fits_107 rfl 0 rfl ?_
                  refine pw_aaldN (pc2 := 110) 6 rfl rfl H.c80 (i := x) (by first | assumption | omega) (by omega) dX10_fits_109 rfl ?_
                  refine pw_topV (rowv (by first | assumption | omega)) ?_
                  refine pw_iload (pc2 := 112) dX10_fits_110 rfl 3 rfl ?_
                  refine pw_ialdN (pc2 := 113) (H.c97 hx20) (i := kq) (by first | assumption | omega) (by omega) dX10_fits_112 rfl ?_
                  refine pw_aload_n (pc2 := 114) dX10_fits_113 rfl rfl 5 rfl (by first | exact rf_ref _ | exact rf_opt _ | exact rf_nul) ?_
                  refine pw_get (pc2 := 117) kX10 (k := 21) (by decide) rfl fl_X10_73 H.c60 rfl dX10_fits_114 rfl ?_
                  refine pw_iload (pc2 := 119) dX10_fits_117 rfl 0 rfl ?_
                  refine pw_aaldN (pc2 := 120) 6 rfl rfl H.c81 (i := x) (by first | assumption | omega) (by omega) dX10_fits_119 rfl ?_
                  refine pw_topV (rowv (by first | assumption | omega)) ?_
                  refine pw_iload (pc2 := 122) dX10_fits_120 rfl 3 rfl ?_
                  refine pw_ialdN (pc2 := 123) (H.c98 hx20) (i := kq) (by first | assumption | omega) (by omega) dX10_fits_122 rfl ?_
                  refine pw_callSb (pc2 := 126) (c_in G _ v (σ.1 97 x kq) (σ.1 98 x kq)) cs_X10_115 rfl dX10_fits_123 rfl (by omega) rfl (by first | decide | simp [cat_rf, Value.category]) (fun q123 => ?_) (fun q123 => ?_)
                  · refine pw_if_eq (tgt := 133) (pc2 := 129) dX10_fits_126 (by decide) rfl (fun c126 => by exact absurd c126 (by decide)) (fun _ => ?_)
                    refine pw_iconst (pc2 := 130) (v := 1) dX10_fits_129 rfl (by decide) ?_
                    refine pw_goto (tgt := 134) dX10_fits_130 (by decide) ?_
                    refine pw_istore (pc2 := 136) (L2 := [(6, Value.int 1), (8, Value.int (nI x)), (7, Value.int (nI i)), (4, Value.int (nI kq)), (5, Value.int v), (0, Value.ref (A 60 0)), (2, Value.ref fa), (3, Value.ref ta)]) dX10_fits_134 rfl (by decide) rfl ?_
                    refine pw_iinc (pc2 := 139) (v := nI (i + 1)) (L2 := [(7, Value.int (nI (i + 1))), (6, Value.int 1), (8, Value.int (nI x)), (4, Value.int (nI kq)), (5, Value.int v), (0, Value.ref (A 60 0)), (2, Value.ref fa), (3, Value.ref ta)]) dX10_fits_136 rfl 2 rfl (by show nI _ + 1 = nI _; exact nI_1 _) (by decide) rfl ?_
                    refine pw_goto (tgt := 61) dX10_fits_139 (by decide) ?_
                    refine PW.sub (L2 := [(7, Value.int (nI (i + 1))), (6, Value.int 1), (4, Value.int (nI kq)), (5, Value.int v), (0, Value.ref (A 60 0)), (2, Value.ref fa), (3, Value.ref ta)]) [0, 1, 3, 4, 5, 6, 7] rfl ?_
                    refine ih (i + 1) 1 (by omega) (Or.inl ⟨rfl, ?_⟩) (by omega)
                    have hY : adP σ.1 le gr g kq r i := by rcases hac with ⟨_, q⟩ | ⟨q, _⟩; exact q; exact absurd q c79
                    refine ⟨hY.1, hY.2.1, fun a y h1 h2 h3 => ?_⟩
                    by_cases ea : a = i
                    · subst ea
                      rw [hgi] at h3
                      first | (cases h3; done) | (cases h3; exact Or.inl ((nbk_z ((hR.1 x hx).2.2.2.2.2 kq hk).2.2).mp (((hR.1 x hx).2.2.2.2.2 kq hk).1 ▸ c98))) | (cases h3; exact Or.inr (by rw [← hv]; rw [((hR.1 x hx).2.2.2.2.2 kq hk).1, ((hR.1 x hx).2.2.2.2.2 kq hk).2.1] at q123; exact q123))
                    · exact hY.2.2 a y h1 (by omega) h3
                  · refine pw_if_eq (tgt := 133) (pc2 := 129) dX10_fits_126 (by decide) rfl (fun _ => ?_) (fun c126 => by exact absurd (by decide) c126)
                    refine pw_iconst (pc2 := 134) (v := 0) dX10_fits_133 rfl (by decide) ?_
                    refine pw_istore (pc2 := 136) (L2 := [(6, Value.int 0), (8, Value.int (nI x)), (7, Value.int (nI i)), (4, Value.int (nI kq)), (5, Value.int v), (0, Value.ref (A 60 0)), (2, Value.ref fa), (3, Value.ref ta)]) dX10_fits_134 rfl (by decide) rfl ?_
                    refine pw_iinc (pc2 := 139) (v := nI (i + 1)) (L2 := [(7, Value.int (nI (i + 1))), (6, Value.int 0), (8, Value.int (nI x)), (4, Value.int (nI kq)), (5, Value.int v), (0, Value.ref (A 60 0)), (2, Value.ref fa), (3, Value.ref ta)]) dX10_fits_136 rfl 2 rfl (by show nI _ + 1 = nI _; exact nI_1 _) (by decide) rfl ?_
                    refine pw_goto (tgt := 61) dX10_fits_139 (by decide) ?_
                    refine PW.sub (L2 := [(7, Value.int (nI (i + 1))), (6, Value.int 0), (4, Value.int (nI kq)), (5, Value.int v), (0, Value.ref (A 60 0)), (2, Value.ref fa), (3, Value.ref ta)]) [0, 1, 3, 4, 5, 6, 7] rfl ?_
                    refine ih (i + 1) 0 (by omega) (Or.inr ⟨rfl, fun z => ?_⟩) (by omega)
                    have hz := z.2.2 i x hki (Nat.lt_succ_self i) hgi
                    rcases hz with hz | hz
                    · exact c98 (((hR.1 x hx).2.2.2.2.2 kq hk).1.trans ((nbk_z ((hR.1 x hx).2.2.2.2.2 kq hk).2.2).mpr hz))
                    · exact q123 (by rw [((hR.1 x hx).2.2.2.2.2 kq hk).1, ((hR.1 x hx).2.2.2.2.2 kq hk).2.1, hv]; exact hz)
        refine PW.sub (L2 := [(7, Value.int (nI (kq + 1))), (6, Value.int 0), (4, Value.int (nI kq)), (5, Value.int v), (0, Value.ref (A 60 0)), (2, Value.ref fa), (3, Value.ref ta)]) [0, 1, 3, 2, 4, 6, 7] rfl ?_
        exact loop (6 - (kq + 1)) (kq + 1) 0 (by omega) (by refine Or.inr ⟨rfl, fun z => ?_⟩; rcases z.2.1 with w9 | w9; exact c29 ((nbk_z (hle kq hk)).mpr w9); exact q42 (hv ▸ w9)) (by omega)
